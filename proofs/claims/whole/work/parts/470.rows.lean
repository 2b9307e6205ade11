/-! rows from a sheet -/
theorem ix3 (j t : Nat) : iI (j : Int) + (3 : Int32) * iI (t : Int) = iI ((j + 3 * t : Nat) : Int) := by
  rw [litN 3, iI_mul, iI_add]; congr 1
theorem iI_two (n : Nat) : iI (n : Int) + (2 : Int32) = iI ((n + 2 : Nat) : Int) := by rw [litN 2, iI_add]; congr 1
theorem m3_I (m : Nat) : (3 : Int32) * iI (m : Int) = iI ((3 * m : Nat) : Int) := by rw [litN 3, iI_mul]; congr 1
theorem lp_rows (N : Nat) (hN : 5000 ≤ N) {E m j z k : Nat} {ssz dit : Nat → Int32} {sit : Nat → Nat → Int32} {ber mer pgc prc : Int32} {pgr pla : Nat → Int32} (hz : z ≤ 36) (hj : j + 3 * m ≤ z) (hs : ssz k = iI z) (hk : k < 4) (hd : ∀ i, i < 36 → sit k i = dit (36 * k + i)) (hv : ∀ r, r < 3 * m → -99 ≤ (sit k (j + r)).toInt ∧ (sit k (j + r)).toInt ≤ 99) :
    ∀ (d t fuel : Nat) (bsz bgp : Int32) (bxs bus bys bme : Nat → Int32) (mrm : Int32) (dxs dus dys dgp : Nat → Int32) (n : Nat) (RX RU RY : Nat → Int) (G : Nat → Bool), t + d = m → d < fuel → n + d ≤ 12 → InvB bsz bgp ber bxs bus bys bme mrm mer dxs dus dys dgp n E RX RU RY G → InvP pgc prc pgr pla n (fun law => bts (mt RX RU RY G E law) n) →
    ∃ (bsz' bgp' : Int32) (bxs' bus' bys' bme' : Nat → Int32) (mrm' : Int32) (dxs' dus' dys' dgp' : Nat → Int32) (n' : Nat) (RX' RU' RY' : Nat → Int) (G' : Nat → Bool), f_X8_rows_92 N k (iI j) (iI m) ssz sit ber fuel (iI t) bsz bgp bxs bus bys bme = some (iI m, bsz', bgp', bxs', bus', bys', bme') ∧ f_X9_rows_113 N (iI m) (iI ((36 * k + j : Nat) : Int)) dit fuel (iI t) mrm dxs dus dys dgp = some (iI m, mrm', dxs', dus', dys', dgp') ∧ InvB bsz' bgp' ber bxs' bus' bys' bme' mrm' mer dxs' dus' dys' dgp' n' E RX' RU' RY' G' ∧ InvP pgc prc pgr pla n' (fun law => bts (mt RX' RU' RY' G' E law) n') := by
  intro d
  induction d with
  | zero =>
    intro t fuel bsz bgp bxs bus bys bme mrm dxs dus dys dgp n RX RU RY G h1 h2 h3 hB hP
    obtain ⟨k_, rfl⟩ := su_fuel h2
    have e : t = m := by omega
    subst e
    refine ⟨bsz, bgp, bxs, bus, bys, bme, mrm, dxs, dus, dys, dgp, n, RX, RU, RY, G, ?_, ?_, hB, hP⟩
    · show b_X8_rows_92 N k (iI j) (iI t) ssz sit ber _ (iI (t : Int)) bsz bgp bxs bus bys bme = _
      unfold b_X8_rows_92
      rw [if_pos ((iI_le (by omega)).mpr (Int.le_refl _))]
    · show b_X9_rows_113 N (iI t) _ dit _ (iI (t : Int)) mrm dxs dus dys dgp = _
      unfold b_X9_rows_113
      rw [if_pos ((iI_le (by omega)).mpr (Int.le_refl _))]
  | succ d ih =>
    intro t fuel bsz bgp bxs bus bys bme mrm dxs dus dys dgp n RX RU RY G h1 h2 h3 hB hP
    obtain ⟨k_, rfl⟩ := su_fuel (Nat.lt_of_le_of_lt (Nat.zero_le _) h2)
    have hlt : n < 12 := by omega
    have v0 := hv (3 * t) (by omega)
    have v1 := hv (3 * t + 1) (by omega)
    have v2 := hv (3 * t + 2) (by omega)
    obtain ⟨bsz', bgp', bxs', bus', bys', bme', mrm', dxs', dus', dys', dgp', n', RX', RU', RY', G', e8, e9, hB', hP'⟩ := ih (t + 1) k_ _ _ _ _ _ _ _ _ _ _ _ (n + 1) _ _ _ _ (by omega) (by omega) (by omega) (InvB_add hB hlt (X := (sit k (j + 3 * t)).toInt) (U := (sit k (j + (3 * t + 1))).toInt) (Y := (sit k (j + (3 * t + 2))).toInt) false v0 v1 v2 rfl) (InvP_add hP (sit k (j + 3 * t)).toInt (sit k (j + (3 * t + 1))).toInt (sit k (j + (3 * t + 2))).toInt false)
    obtain ⟨⟨hn, hE, rfl, rfl, rfl, rfl, rfl⟩, -, -⟩ := hB
    refine ⟨bsz', bgp', bxs', bus', bys', bme', mrm', dxs', dus', dys', dgp', n', RX', RU', RY', G', ?_, ?_, hB', hP'⟩
    · show b_X8_rows_92 N k (iI j) (iI m) ssz sit (iI E) (f_X8_rows_92 N k (iI j) (iI m) ssz sit (iI E) k_) (iI (t : Int)) _ _ bxs bus bys bme = _
      unfold b_X8_rows_92
      rw [if_neg (fun q => absurd ((iI_le (by omega)).mp q) (by omega)), ix3, iI_succ, iI_succ, iI_two, hs, b1_p (q_at5 N hz (by omega) _), b1_p (q_at5 N hz (by omega) _), b1_p (q_at5 N hz (by omega) _)]
      have x0 : sit k (j + 3 * t) = iI (sit k (j + 3 * t)).toInt := (iI_self _).symm
      have x1 : sit k (j + 3 * t + 1) = iI (sit k (j + (3 * t + 1))).toInt := (iI_self _).symm
      have x2 : sit k (j + 3 * t + 2) = iI (sit k (j + (3 * t + 2))).toInt := (iI_self _).symm
      rw [x1, x2]
      generalize hgx : sit k (j + 3 * t) = gx at *
      rw [x0]
      refine (b7_p (q_add0 N hN false hlt (bts_lt G n) hE v0 v1 v2 bme) _).trans ?_
      exact e8
    · have y0 : dit (36 * k + j + 3 * t) = iI (sit k (j + 3 * t)).toInt := by
        rw [iI_self, hd _ (by omega)]; congr 1; omega
      have y1 : dit (36 * k + j + 3 * t + 1) = iI (sit k (j + (3 * t + 1))).toInt := by
        rw [iI_self, hd _ (by omega)]; congr 1; omega
      have y2 : dit (36 * k + j + 3 * t + 2) = iI (sit k (j + (3 * t + 2))).toInt := by
        rw [iI_self, hd _ (by omega)]; congr 1; omega
      show b_X9_rows_113 N (iI m) _ dit (f_X9_rows_113 N (iI m) (iI ((36 * k + j : Nat) : Int)) dit k_) (iI (t : Int)) _ dxs dus dys dgp = _
      unfold b_X9_rows_113
      rw [if_neg (fun q => absurd ((iI_le (by omega)).mp q) (by omega)), ix3, iI_succ, iI_succ, iI_two, gi_I (by omega) (by omega) (by omega), gi_I (by omega) (by omega) (by omega), gi_I (by omega) (by omega) (by omega), iI_clampN (by omega), iI_clampN (by omega), iI_clampN (by omega), y0, y1, y2]
      refine (b5_p (q_puts9 N hlt _ _ _ false _ _ _ _) _).trans ?_
      exact e9
theorem lp_rows61 (N : Nat) {m k j : Nat} {mrm : Int32} {dxs dus dys dgp dit s : Nat → Int32} (hm : m ≤ 12) (hk : k < 4) (hj : j + 3 * m ≤ 36) (hd : ∀ i, i < 36 → s i = dit (36 * k + i)) :
    ∀ (d t fuel : Nat), t + d = 3 * m → d < fuel → f_X9_rows_61 N (iI m) (iI ((36 * k + j : Nat) : Int)) mrm dxs dus dys dgp dit fuel (iI t) = bif allF (fun r => inB (-99) 99 (s (j + r))) d t then (if (mrm + iI m) ≤ (12 : Int32) then f_X9_rows_113 N (iI m) (iI ((36 * k + j : Nat) : Int)) dit N (0 : Int32) mrm dxs dus dys dgp else some ((-3 : Int32), mrm, dxs, dus, dys, dgp)) else some ((-2 : Int32), mrm, dxs, dus, dys, dgp) := by
  intro d
  induction d with
  | zero =>
    intro t fuel h1 h2
    obtain ⟨k_, rfl⟩ := su_fuel h2
    have e : t = 3 * m := by omega
    subst e
    show b_X9_rows_61 N (iI m) (iI ((36 * k + j : Nat) : Int)) mrm dxs dus dys dgp dit _ (iI ((3 * m : Nat) : Int)) = _
    unfold b_X9_rows_61 allF
    rw [m3_I, if_pos ((iI_le (by omega)).mpr (Int.le_refl _))]; rfl
  | succ d ih =>
    intro t fuel h1 h2
    obtain ⟨k_, rfl⟩ := su_fuel (Nat.lt_of_le_of_lt (Nat.zero_le _) h2)
    have i1 := ih (t + 1) k_ (by omega) (by omega)
    have ed : dit (36 * k + j + t) = s (j + t) := by
      have e4 : 36 * k + j + t = 36 * k + (j + t) := by omega
      rw [e4, hd (j + t) (by omega)]
    have hq : f_X9_isSmall N (s (j + t)) = some (bI (inB (-99) 99 (s (j + t)))) := by
      unfold f_X9_isSmall
      have hq1 : f_X9_in N (s (j + t)).toInt64 (-99) 99 = some (bI (inB (-99) 99 (s (j + t)))) := q_in N (Int32.toInt_toInt64 _) rfl rfl
      rw [b1_p hq1, gz_b]
    show b_X9_rows_61 N (iI m) (iI ((36 * k + j : Nat) : Int)) mrm dxs dus dys dgp dit (f_X9_rows_61 N (iI m) (iI ((36 * k + j : Nat) : Int)) mrm dxs dus dys dgp dit k_) (iI t) = _
    unfold b_X9_rows_61 allF
    rw [m3_I, if_neg (fun q => absurd ((iI_le (by omega)).mp q) (by omega)), ix_add, gi_I (by omega) (by omega) (by omega), iI_clampN (by omega), ed, b1_p hq, ifb, iI_succ, i1]
    cases inB (-99) 99 (s (j + t)) <;> rfl
theorem P_rows : PS_rows InvA := by
  intro N hN bsz bgp ber bxs bus bys bme pgc prc pgr pla tle tga trr tat tfa tby tnu rlc rla rmo ksz kmb kwa kra kla lo hi glo ghi sla ssz sit mrm mer mtd mat mwr mkn mmb mwa mra mbl mbh dxs dus dys dgp dtp dme dle dlt dkl dln dsz dit dmv hI p0 p1 p2 p3
  have hI' := hI
  obtain ⟨n, E, RX, RU, RY, G, hB, hP, hT, hK, hO, hS⟩ := hI'
  obtain ⟨z0, r0, rfl⟩ := iI_of p0
  obtain ⟨z1, r1, rfl⟩ := iI_of p1
  obtain ⟨z2, r2, rfl⟩ := iI_of p2
  obtain ⟨z3, r3, rfl⟩ := iI_of p3
  have e9 := q_isSheet9 N r0
  by_cases c0 : 0 ≤ z0 ∧ z0 ≤ 3
  case neg =>
    rw [two_f c0, bI_f] at e9
    exact ⟨-1, _, _, _, _, _, _, _, _, _, _, _, by unfold f_X8_rows; rw [sh5_out r0 c0], by unfold f_X9_rows; rw [b1_p e9, if_pos rfl], hI⟩
  rw [two_t c0, bI_t] at e9
  obtain ⟨k, rfl, hk⟩ := sheet_in c0
  have l8 := q_isLane8 N r1
  have l9 := q_isLane9 N r1
  by_cases c1 : 0 ≤ z1 ∧ z1 ≤ 2
  case neg =>
    rw [two_f c1, bI_f] at l8 l9
    exact ⟨-1, _, _, _, _, _, _, _, _, _, _, _, by unfold f_X8_rows; rw [sh5_in hk, b1_p l8, if_pos rfl], by unfold f_X9_rows; rw [b1_p e9, if_neg (by decide), b1_p l9, if_pos rfl], hI⟩
  rw [two_t c1, bI_t] at l8 l9
  obtain ⟨la, rfl, hla⟩ := lane_in c1
  have e3 : f_X9_in N (iI z3).toInt64 0 12 = some (bI (decide (0 ≤ z3) && decide (z3 ≤ 12))) := q_in N (j_of r3) rfl rfl
  by_cases c3 : 0 ≤ z3 ∧ z3 ≤ 12
  case neg =>
    rw [two_f c3, bI_f] at e3
    refine ⟨-1, _, _, _, _, _, _, _, _, _, _, _, ?_, by unfold f_X9_rows; rw [b1_p e9, if_neg (by decide), b1_p l9, if_neg (by decide), b1_p e3, if_pos rfl], hI⟩
    unfold f_X8_rows; rw [sh5_in hk, b1_p l8, if_neg (by decide)]
    by_cases d : z3 < 0
    · rw [if_pos ((k_ltR (by omega)).mpr (by omega))]
    · rw [if_neg (fun q => absurd ((k_ltR (by omega)).mp q) (by omega)), if_neg (fun q => absurd ((k_leR (by omega)).mp q) (by omega))]
  rw [two_t c3, bI_t] at e3
  obtain ⟨m, rfl⟩ := Int.eq_ofNat_of_zero_le c3.1
  have a8 : f_X8_rows N (iI (k : Int)) (iI (la : Int)) (iI z2) (iI (m : Int)) sla ssz sit bsz bgp ber bxs bus bys bme = b1 (f_X5_refusal N (iI (la : Int)) (iI z2) (iI ((3 * m : Nat) : Int)) (sla k) (ssz k)) (fun r8 => (if 0 ≤ r8 then b1 (f_X5_allWithin N (iI z2) (iI ((3 * m : Nat) : Int)) (-99 : Int32) (99 : Int32) (ssz k) (sit k)) (fun r11 => (if r11 = 0 then some ((-2 : Int32), bsz, bgp, bxs, bus, bys, bme) else b1 (f_X0_room N bsz) (fun r14 => (if iI (m : Int) ≤ r14 then f_X8_rows_92 N k (iI z2) (iI (m : Int)) ssz sit ber N (0 : Int32) bsz bgp bxs bus bys bme else some ((-3 : Int32), bsz, bgp, bxs, bus, bys, bme))))) else some (r8, bsz, bgp, bxs, bus, bys, bme))) := by
    unfold f_X8_rows; rw [sh5_in hk, b1_p l8, if_neg (by decide), if_neg (fun q => absurd ((k_ltR (by omega)).mp q) (by omega)), if_pos ((k_leR (by omega)).mpr (by omega)), m3_I]
  have a9 : f_X9_rows N (iI (k : Int)) (iI (la : Int)) (iI z2) (iI (m : Int)) mrm dxs dus dys dgp dln dsz dit = b1 (f_X9_finds N (iI (k : Int)) (iI (la : Int)) (iI z2) (iI ((3 * m : Nat) : Int)) dln dsz) (fun r11 => (if 0 ≤ r11 then f_X9_rows_61 N (iI (m : Int)) (((36 : Int32) * iI (k : Int)) + iI z2) mrm dxs dus dys dgp dit N (0 : Int32) else some (r11, mrm, dxs, dus, dys, dgp))) := by
    unfold f_X9_rows; rw [b1_p e9, if_neg (by decide), b1_p l9, if_neg (by decide), b1_p e3, if_neg (by decide), m3_I]
  obtain ⟨m1, m2, m3⟩ := hS k hk
  rcases q_ref N (i := z2) (n := ((3 * m : Nat) : Int)) hk ⟨m1, m2⟩ hla r2 (by omega) with ⟨rv, h1, h2, h3⟩ | ⟨j, z, rfl, g1, g2, g3, g4, g5, g6⟩
  · rw [b1_p h2, if_neg (Int32.not_le.mpr h1)] at a8
    rw [b1_p h3, if_neg (Int32.not_le.mpr h1)] at a9
    exact ⟨rv, _, _, _, _, _, _, _, _, _, _, _, a8, a9, hI⟩
  · have hw : f_X5_allWithin N (iI (j : Int)) (iI ((3 * m : Nat) : Int)) (-99 : Int32) (99 : Int32) (ssz k) (sit k) = some (bI (allF (fun r => inB (-99) 99 (sit k (j + r))) (3 * m) 0)) := by
      rw [g3]
      exact lp_within N (a := -99) (b := 99) g2 (by omega) (by omega) (by omega) (sit k) (3 * m) 0 N (by omega) (by omega)
    have h9 := lp_rows61 N (mrm := mrm) (dxs := dxs) (dus := dus) (dys := dys) (dgp := dgp) (m := m) (j := j) (by omega) hk (by omega) m3 (3 * m) 0 N (by omega) (by omega)
    rw [b1_p g5, if_pos (by decide), b1_p hw] at a8
    rw [b1_p g6, if_pos (by decide), ix36] at a9
    have a9' := a9.trans h9
    cases hA : allF (fun r => inB (-99) 99 (sit k (j + r))) (3 * m) 0 with
    | false =>
      rw [hA] at a8 a9'
      exact ⟨-2, _, _, _, _, _, _, _, _, _, _, _, a8, a9', hI⟩
    | true =>
      rw [hA, bI_t, if_neg (by decide)] at a8
      rw [hA] at a9'
      have hB' := hB
      obtain ⟨⟨hn, hE, rfl, rfl, -, -, -⟩, -, -⟩ := hB'
      have er : f_X0_room N (iI (n : Int)) = some (iI (12 - (n : Int))) := by
        unfold f_X0_room
        rw [litN 12, iI_sub]; rfl
      rw [b1_p er] at a8
      simp only [cond_true] at a9'
      rw [iI_add] at a9'
      by_cases c5 : n + m ≤ 12
      · rw [if_pos ((iI_le (by omega)).mpr (by omega))] at a8
        rw [if_pos ((k_leR (by omega)).mpr (by omega))] at a9'
        obtain ⟨bsz', bgp', bxs', bus', bys', bme', mrm', dxs', dus', dys', dgp', n', RX', RU', RY', G', x8, x9, yB, yP⟩ := lp_rows N hN (m := m) (j := j) (z := z) (k := k) (ssz := ssz) (sit := sit) (dit := dit) (pgc := pgc) (prc := prc) (pgr := pgr) (pla := pla) g2 (by omega) g3 hk m3 (fun r hr => inB_t (allF_t hA r (by omega) (by omega))) m 0 N _ _ _ _ _ _ _ _ _ _ _ n RX RU RY G (by omega) (by omega) (by omega) hB hP
        exact ⟨iI (m : Int), bsz', bgp', bxs', bus', bys', bme', mrm', dxs', dus', dys', dgp', a8.trans x8, a9'.trans x9, n', E, RX', RU', RY', G', yB, yP, hT, hK, hO, hS⟩
      · rw [if_neg (fun q => absurd ((iI_le (by omega)).mp q) (by omega))] at a8
        rw [if_neg (fun q => absurd ((k_leR (by omega)).mp q) (by omega))] at a9'
        exact ⟨-3, _, _, _, _, _, _, _, _, _, _, _, a8, a9', hI⟩
