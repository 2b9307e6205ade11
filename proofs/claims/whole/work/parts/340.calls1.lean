theorem bad8_row {N : Nat} {p0 p1 p2 bsz bgp ber : Int32} {bxs bus bys bme : Nat → Int32} {a0 a1 a2 : Bool} (h0 : f_X8_isNear N p0 99 = some (bI a0)) (h1 : f_X8_isNear N p1 99 = some (bI a1)) (h2 : f_X8_isNear N p2 99 = some (bI a2)) (h : (a0 && (a1 && a2)) = false) : f_X8_row N p0 p1 p2 bsz bgp ber bxs bus bys bme = some (-1, bsz, bgp, bxs, bus, bys, bme) := by
  unfold f_X8_row
  rw [b1_p h0, ifb]
  cases a0 with
  | false => rfl
  | true =>
    show b1 _ _ = _
    rw [b1_p h1, ifb]
    cases a1 with
    | false => rfl
    | true =>
      show b1 _ _ = _
      rw [b1_p h2, ifb]
      cases a2 with
      | false => rfl
      | true => exact absurd h (by decide)
theorem bad9_row {N : Nat} {p0 p1 p2 mrm : Int32} {dxs dus dys dgp : Nat → Int32} {a0 a1 a2 : Bool} (h0 : f_X9_isSmall N p0 = some (bI a0)) (h1 : f_X9_isSmall N p1 = some (bI a1)) (h2 : f_X9_isSmall N p2 = some (bI a2)) (h : (a0 && (a1 && a2)) = false) : f_X9_row N p0 p1 p2 mrm dxs dus dys dgp = some (-1, mrm, dxs, dus, dys, dgp) := by
  unfold f_X9_row
  rw [b1_p h0, ifb]
  cases a0 with
  | false => rfl
  | true =>
    show b1 _ _ = _
    rw [b1_p h1, ifb]
    cases a1 with
    | false => rfl
    | true =>
      show b1 _ _ = _
      rw [b1_p h2, ifb]
      cases a2 with
      | false => rfl
      | true => exact absurd h (by decide)
theorem and3 {a0 a1 a2 : Bool} (h : (a0 && (a1 && a2)) = true) : a0 = true ∧ a1 = true ∧ a2 = true := by
  cases a0 <;> cases a1 <;> cases a2 <;> simp_all
theorem P_row : PS_row InvA := by
  intro N hN bsz bgp ber bxs bus bys bme pgc prc pgr pla tle tga trr tat tfa tby tnu rlc rla rmo ksz kmb kwa kra kla lo hi glo ghi sla ssz sit mrm mer mtd mat mwr mkn mmb mwa mra mbl mbh dxs dus dys dgp dtp dme dle dlt dkl dln dsz dit dmv hI p0 p1 p2
  obtain ⟨n, E, RX, RU, RY, G, hB, hP, hR⟩ := hI
  obtain ⟨z0, r0, rfl⟩ := iI_of p0
  obtain ⟨z1, r1, rfl⟩ := iI_of p1
  obtain ⟨z2, r2, rfl⟩ := iI_of p2
  cases hc : (near z0 && (near z1 && near z2)) with
  | false =>
    exact ⟨-1, _, _, _, _, _, _, _, _, _, _, _, bad8_row (q_near99 N r0) (q_near99 N r1) (q_near99 N r2) hc, bad9_row (q_small99 N r0) (q_small99 N r1) (q_small99 N r2) hc, n, E, RX, RU, RY, G, hB, hP, hR⟩
  | true =>
    obtain ⟨c0, c1, c2⟩ := and3 hc
    have hX := near_t c0
    have hU := near_t c1
    have hY := near_t c2
    have hB' := hB
    obtain ⟨⟨hn, hE, rfl, rfl, rfl, rfl, rfl⟩, hr, hm⟩ := hB'
    by_cases h12 : n = 12
    · subst h12
      refine ⟨-3, _, _, _, _, _, _, _, _, _, _, _, ?_, ?_, 12, E, RX, RU, RY, G, hB, hP, hR⟩
      · unfold f_X8_row
        rw [b1_p (q_near99 N r0), c0, bI_t, if_neg (by decide), b1_p (q_near99 N r1), c1, bI_t, if_neg (by decide), b1_p (q_near99 N r2), c2, bI_t, if_neg (by decide), b7_p (q_add0F N _ _ _ _ _ _ _ _ _ _)]
      · unfold f_X9_row
        rw [b1_p (q_small99 N r0), c0, bI_t, if_neg (by decide), b1_p (q_small99 N r1), c1, bI_t, if_neg (by decide), b1_p (q_small99 N r2), c2, bI_t, if_neg (by decide), if_pos ((k_eqR (by omega)).mpr rfl)]
    · have hlt : n < 12 := by omega
      refine ⟨iI n, _, _, _, _, _, _, _, _, _, _, _, ?_, ?_, n + 1, E, _, _, _, _, InvB_add hB hlt (X := z0) (U := z1) (Y := z2) false hX hU hY rfl, InvP_add hP z0 z1 z2 false, hR⟩
      · unfold f_X8_row
        rw [b1_p (q_near99 N r0), c0, bI_t, if_neg (by decide), b1_p (q_near99 N r1), c1, bI_t, if_neg (by decide), b1_p (q_near99 N r2), c2, bI_t, if_neg (by decide)]
        exact b7_p (q_add0 N hN false hlt (bts_lt G n) hE hX hU hY _) _
      · unfold f_X9_row
        rw [b1_p (q_small99 N r0), c0, bI_t, if_neg (by decide), b1_p (q_small99 N r1), c1, bI_t, if_neg (by decide), b1_p (q_small99 N r2), c2, bI_t, if_neg (by decide), if_neg (fun c => absurd ((k_eqR (by omega)).mp c) (by omega))]
        refine (b5_p (q_puts9 N hlt _ _ _ false _ _ _ _) _).trans ?_
        rw [k_subR]
        have e : (((n + 1 : Nat) : Int) - ((1 : Nat) : Int)) = (n : Int) := by omega
        rw [e]; rfl
theorem P_gap : PS_gap InvA := by
  intro N hN bsz bgp ber bxs bus bys bme pgc prc pgr pla tle tga trr tat tfa tby tnu rlc rla rmo ksz kmb kwa kra kla lo hi glo ghi sla ssz sit mrm mer mtd mat mwr mkn mmb mwa mra mbl mbh dxs dus dys dgp dtp dme dle dlt dkl dln dsz dit dmv hI p0 p1
  obtain ⟨n, E, RX, RU, RY, G, hB, hP, hR⟩ := hI
  obtain ⟨z0, r0, rfl⟩ := iI_of p0
  obtain ⟨z1, r1, rfl⟩ := iI_of p1
  cases c0 : near z0 with
  | false =>
    refine ⟨-1, _, _, _, _, _, _, _, _, _, _, _, ?_, ?_, n, E, RX, RU, RY, G, hB, hP, hR⟩
    · unfold f_X8_gap
      rw [b1_p (q_near99 N r0), c0, bI_f, if_pos rfl]
    · unfold f_X9_gap
      rw [b1_p (q_small99 N r0), c0, bI_f, if_pos rfl]
  | true =>
  cases c1 : near z1 with
  | false =>
    refine ⟨-1, _, _, _, _, _, _, _, _, _, _, _, ?_, ?_, n, E, RX, RU, RY, G, hB, hP, hR⟩
    · unfold f_X8_gap
      rw [b1_p (q_near99 N r0), c0, bI_t, if_neg (by decide), b1_p (q_near99 N r1), c1, bI_f, if_pos rfl]
    · unfold f_X9_gap
      rw [b1_p (q_small99 N r0), c0, bI_t, if_neg (by decide), b1_p (q_small99 N r1), c1, bI_f, if_pos rfl]
  | true =>
    have hX := near_t c0
    have hU := near_t c1
    have hB' := hB
    obtain ⟨⟨hn, hE, rfl, rfl, rfl, rfl, rfl⟩, hr, hm⟩ := hB'
    by_cases h12 : n = 12
    · subst h12
      refine ⟨-3, _, _, _, _, _, _, _, _, _, _, _, ?_, ?_, 12, E, RX, RU, RY, G, hB, hP, hR⟩
      · unfold f_X8_gap
        rw [b1_p (q_near99 N r0), c0, bI_t, if_neg (by decide), b1_p (q_near99 N r1), c1, bI_t, if_neg (by decide), b7_p (q_add0F N _ _ _ _ _ _ _ _ _ _)]
      · unfold f_X9_gap
        rw [b1_p (q_small99 N r0), c0, bI_t, if_neg (by decide), b1_p (q_small99 N r1), c1, bI_t, if_neg (by decide), if_pos ((k_eqR (by omega)).mpr rfl)]
    · have hlt : n < 12 := by omega
      refine ⟨iI n, _, _, _, _, _, _, _, _, _, _, _, ?_, ?_, n + 1, E, _, _, _, _, InvB_add hB hlt (X := z0) (U := z1) (Y := 0) true hX hU (by omega) (y9 := 0) rfl, InvP_add hP z0 z1 0 true, hR⟩
      · unfold f_X8_gap
        rw [b1_p (q_near99 N r0), c0, bI_t, if_neg (by decide), b1_p (q_near99 N r1), c1, bI_t, if_neg (by decide)]
        exact b7_p (q_add0 N hN (Y := 0) true hlt (bts_lt G n) hE hX hU (by omega) _) _
      · unfold f_X9_gap
        rw [b1_p (q_small99 N r0), c0, bI_t, if_neg (by decide), b1_p (q_small99 N r1), c1, bI_t, if_neg (by decide), if_neg (fun c => absurd ((k_eqR (by omega)).mp c) (by omega))]
        refine (b5_p (q_puts9 N hlt _ _ _ true _ _ _ _) _).trans ?_
        rw [k_subR]
        have e : (((n + 1 : Nat) : Int) - ((1 : Nat) : Int)) = (n : Int) := by omega
        rw [e]; rfl
/-! told -/
theorem in_f {z : Int} {n : Nat} (h : ¬ (0 ≤ z ∧ z < (n : Int))) : (decide ((0 : Int) ≤ z) && decide (z ≤ (n : Int) - 1)) = false := by
  by_cases c : 0 ≤ z
  · rw [decide_eq_false (p := (z ≤ (n : Int) - 1)) (by omega)]; simp
  · rw [decide_eq_false c]; rfl
theorem P_told : PS_told InvA := by
  intro N hN bsz bgp ber bxs bus bys bme pgc prc pgr pla tle tga trr tat tfa tby tnu rlc rla rmo ksz kmb kwa kra kla lo hi glo ghi sla ssz sit mrm mer mtd mat mwr mkn mmb mwa mra mbl mbh dxs dus dys dgp dtp dme dle dlt dkl dln dsz dit dmv hI p0 p1
  have hI' := hI
  obtain ⟨n, E, RX, RU, RY, G, ⟨⟨hn, hE, rfl, rfl, rfl, rfl, rfl⟩, hr, hm⟩, hP, hR⟩ := hI'
  obtain ⟨z0, r0, rfl⟩ := iI_of p0
  obtain ⟨z1, r1, rfl⟩ := iI_of p1
  by_cases c0 : 0 ≤ z0 ∧ z0 < (n : Int)
  · obtain ⟨r, rfl⟩ := Int.eq_ofNat_of_zero_le c0.1
    have hrn : r < n := by omega
    obtain ⟨⟨g1, g2, g3⟩, ⟨k1, k2, k3, k4⟩, -⟩ := hr r hrn
    have hg := bts_small G hn
    have eh := q_has0 N (z := (r : Int)) (by omega) hn
    rw [in_t hrn, bI_t] at eh
    have ei := q_isRow9 N (z := (r : Int)) (by omega) hn
    rw [in_t hrn, bI_t] at ei
    have es : f_X0_state N (iI (r : Int)) (iI n) bxs = some (iI (RX r)) := by
      unfold f_X0_state
      rw [b1_p eh, if_neg (by decide), gi_I (by omega) (by omega) (by omega), iI_clampN (by omega), g1]
    have ep : f_X0_push N (iI (r : Int)) (iI n) bus = some (iI (RU r)) := by
      unfold f_X0_push
      rw [b1_p eh, if_neg (by decide), gi_I (by omega) (by omega) (by omega), iI_clampN (by omega), g2]
    have ee : f_X0_end N (iI (r : Int)) (iI n) bys = some (iI (RY r)) := by
      unfold f_X0_end
      rw [b1_p eh, if_neg (by decide), gi_I (by omega) (by omega) (by omega), iI_clampN (by omega), g3]
    have eg := q_isGap0 N hrn hn hg
    have et : (bts G n).testBit r = G r := by rw [bts_tb, decide_eq_true hrn]; rfl
    rw [et] at eg
    have e9 : f_X9_in N (iI z1).toInt64 0 2 = some (bI (decide (0 ≤ z1) && decide (z1 ≤ 2))) := q_in N (j_of r1) rfl rfl
    by_cases d1 : 0 ≤ z1 ∧ z1 ≤ 2
    · have e9' : (decide (0 ≤ z1) && decide (z1 ≤ 2)) = true := by rw [decide_eq_true d1.1, decide_eq_true d1.2]; rfl
      rw [e9', bI_t] at e9
      have hd : z1 = 0 ∨ z1 = 1 ∨ z1 = 2 := by omega
      rcases hd with rfl | rfl | rfl
      · refine ⟨iI (RX r), ?_, ?_, hI⟩
        · unfold f_X8_told
          rw [b1_p eh, if_neg (by decide), if_neg (by decide), if_pos (by decide), if_pos (by decide), b1_p es]
        · unfold f_X9_told
          rw [b1_p ei, if_neg (by decide), b1_p e9, if_neg (by decide), if_pos (by decide), gi_I (by omega) (by omega) (by omega), iI_clampN (by omega), k1]
      · refine ⟨iI (RU r), ?_, ?_, hI⟩
        · unfold f_X8_told
          rw [b1_p eh, if_neg (by decide), if_neg (by decide), if_pos (by decide), if_neg (by decide), if_pos (by decide), b1_p ep]
        · unfold f_X9_told
          rw [b1_p ei, if_neg (by decide), b1_p e9, if_neg (by decide), if_neg (by decide), if_pos (by decide), gi_I (by omega) (by omega) (by omega), iI_clampN (by omega), k2]
      · cases hG : G r with
        | false =>
          rw [hG] at eg k4
          refine ⟨iI (RY r), ?_, ?_, hI⟩
          · unfold f_X8_told
            rw [b1_p eh, if_neg (by decide), if_neg (by decide), if_pos (by decide), if_neg (by decide), if_neg (by decide), b1_p eg, bI_f, if_pos rfl, b1_p ee]
          · unfold f_X9_told
            rw [b1_p ei, if_neg (by decide), b1_p e9, if_neg (by decide), if_neg (by decide), if_neg (by decide), gi_I (by omega) (by omega) (by omega), iI_clampN (by omega), k4, bI_f, if_pos rfl, gi_I (by omega) (by omega) (by omega), k3]
        | true =>
          rw [hG] at eg k4
          refine ⟨-1000004, ?_, ?_, hI⟩
          · unfold f_X8_told
            rw [b1_p eh, if_neg (by decide), if_neg (by decide), if_pos (by decide), if_neg (by decide), if_neg (by decide), b1_p eg, bI_t, if_neg (by decide)]
          · unfold f_X9_told
            rw [b1_p ei, if_neg (by decide), b1_p e9, if_neg (by decide), if_neg (by decide), if_neg (by decide), gi_I (by omega) (by omega) (by omega), iI_clampN (by omega), k4, bI_t, if_neg (by decide)]
    · have e9' : (decide (0 ≤ z1) && decide (z1 ≤ 2)) = false := by
        by_cases c : 0 ≤ z1
        · rw [decide_eq_false (p := (z1 ≤ 2)) (by omega)]; simp
        · rw [decide_eq_false c]; rfl
      rw [e9', bI_f] at e9
      refine ⟨-1000001, ?_, ?_, hI⟩
      · unfold f_X8_told
        rw [b1_p eh, if_neg (by decide)]
        by_cases c : z1 < 0
        · rw [if_pos ((k_ltR (by omega)).mpr (by omega))]
        · rw [if_neg (fun q => absurd ((k_ltR (by omega)).mp q) (by omega)), if_neg (fun q => absurd ((k_leR (by omega)).mp q) (by omega))]
      · unfold f_X9_told
        rw [b1_p ei, if_neg (by decide), b1_p e9, if_pos rfl]
  · refine ⟨-1000001, ?_, ?_, hI⟩
    · unfold f_X8_told
      rw [b1_p (q_has0 N r0 hn), in_f c0, bI_f, if_pos rfl]
    · unfold f_X9_told
      rw [b1_p (q_isRow9 N r0 hn), in_f c0, bI_f, if_pos rfl]
