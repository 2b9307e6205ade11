/-! sheets -/
theorem sh5_in {β : Type} {k : Nat} (hk : k < 4) (g : Nat → Option β) (y : Option β) : sh5 (iI (k : Int)) g y = g k := by
  unfold sh5
  rw [if_neg, iI_clampN (by omega)]
  intro h
  rcases h with h | h
  · exact absurd ((k_ltR (by omega)).mp h) (by omega)
  · exact absurd ((k_leL (by omega)).mp h) (by omega)
theorem sh5_out {β : Type} {z : Int} (hz : -2147483648 ≤ z ∧ z < 2147483648) (h : ¬ (0 ≤ z ∧ z ≤ 3)) (g : Nat → Option β) (y : Option β) : sh5 (iI z) g y = y := by
  unfold sh5
  rw [if_pos]
  by_cases c : z < 0
  · exact Or.inl ((k_ltR (by omega)).mpr c)
  · exact Or.inr ((k_leL (by omega)).mpr (by omega))
theorem ix36 (k j : Nat) : (36 : Int32) * iI (k : Int) + iI (j : Int) = iI ((36 * k + j : Nat) : Int) := by
  rw [litN 36, iI_mul, iI_add]; congr 1
theorem q_cov (N : Nat) {i n : Int} {z : Nat} (hi : -2147483648 ≤ i ∧ i < 2147483648) (hn : -2147483648 ≤ n ∧ n < 2147483648) (hz : z ≤ 36) : f_X5_covers N (iI i) (iI n) (iI z) = some (bI (decide (0 ≤ i ∧ 0 ≤ n ∧ i + n ≤ (z : Int)))) := by
  unfold f_X5_covers
  by_cases c1 : i < 0
  · rw [if_pos ((k_ltR (by omega)).mpr c1), decide_eq_false (by omega)]; rfl
  · rw [if_neg (fun q => c1 ((k_ltR (by omega)).mp q))]
    by_cases c2 : n < 0
    · rw [if_pos ((k_ltR (by omega)).mpr c2), decide_eq_false (by omega)]; rfl
    · rw [if_neg (fun q => c2 ((k_ltR (by omega)).mp q)), iI_sub]
      by_cases c3 : (z : Int) - n < i
      · rw [if_pos ((iI_lt (by omega)).mpr c3), decide_eq_false (by omega)]; rfl
      · rw [if_neg (fun q => c3 ((iI_lt (by omega)).mp q)), decide_eq_true (by omega)]; rfl
theorem j_add {x y : Int64} {a b : Int} (hx : x.toInt = a) (hy : y.toInt = b) (ha : -2147483648 ≤ a ∧ a < 2147483648) (hb : -2147483648 ≤ b ∧ b < 2147483648) : (x + y).toInt = a + b := by
  rw [Int64.toInt_add, hx, hy]
  apply Int.bmod_eq_of_le
  · simp; omega
  · simp; omega
theorem q_finds9 (N : Nat) {k la z : Nat} {i n : Int} {dln dsz : Nat → Int32} (hk : k < 4) (hi : -2147483648 ≤ i ∧ i < 2147483648) (hn : 0 ≤ n ∧ n < 2147483648) (hla : la ≤ 2) (hz : z ≤ 36) (h1 : dln k = iI la) (h2 : dsz k = iI z) {lane : Nat} (hl : lane ≤ 2) : f_X9_finds N (iI k) (iI lane) (iI i) (iI n) dln dsz = some (if la = lane then (if 0 ≤ i ∧ i + n ≤ (z : Int) then 0 else -13) else -12) := by
  unfold f_X9_finds
  rw [gi_I (by omega) (by omega) (by omega), iI_clampN (by omega), h1, if_pos ((k_leL (by omega)).mpr (by omega)), gi_I (by omega) (by omega) (by omega)]
  by_cases c0 : la = lane
  · subst c0
    rw [if_pos rfl, if_pos rfl]
    by_cases c1 : i < 0
    · rw [if_pos ((k_ltR (by omega)).mpr c1), if_neg (by omega)]
    · rw [if_neg (fun q => c1 ((k_ltR (by omega)).mp q)), gi_I (by omega) (by omega) (by omega), h2]
      have hc := q_cmp2 (j_add (j_of hi) (j_of (z := n) (by omega)) hi (by omega)) (j_of (z := (z : Int)) (by omega))
      by_cases c2 : (z : Int) < i + n
      · rw [if_neg (fun q => absurd (hc.mpr c2) (Int32.not_lt.mpr q)), if_neg (by omega)]
      · rw [if_pos (Int32.not_lt.mp (fun q => c2 (hc.mp q))), if_pos (by omega)]
  · rw [if_neg (fun q => c0 (by have := (iI_eq (by omega)).mp q; omega)), if_neg c0]
theorem q_noth1 (N : Nat) : f_X5_isNothing N (iI (-1)) = some (bI true) := rfl
theorem q_noth0 (N : Nat) {la : Nat} (h : la ≤ 2) : f_X5_isNothing N (iI (la : Int)) = some (bI false) := by
  unfold f_X5_isNothing
  rw [if_neg (fun q => absurd ((k_neR (by omega)).mp q) (by omega))]; rfl
theorem q_ref (N : Nat) {k lane : Nat} {i n : Int} {sla ssz dln dsz : Nat → Int32} (hk : k < 4) (hS : sla k = dln k ∧ ((sla k = iI (-1) ∧ ssz k = iI 0) ∨ ∃ la z : Nat, la ≤ 2 ∧ sla k = iI la ∧ z ≤ 36 ∧ ssz k = iI z ∧ dsz k = iI z)) (hl : lane ≤ 2) (hi : -2147483648 ≤ i ∧ i < 2147483648) (hn : 0 ≤ n ∧ n < 2147483648) :
    (∃ rv : Int32, rv < 0 ∧ f_X5_refusal N (iI lane) (iI i) (iI n) (sla k) (ssz k) = some rv ∧ f_X9_finds N (iI k) (iI lane) (iI i) (iI n) dln dsz = some rv) ∨
    (∃ j z : Nat, i = (j : Int) ∧ (j : Int) + n ≤ (z : Int) ∧ z ≤ 36 ∧ ssz k = iI z ∧ sla k = iI lane ∧ f_X5_refusal N (iI lane) (iI i) (iI n) (sla k) (ssz k) = some 0 ∧ f_X9_finds N (iI k) (iI lane) (iI i) (iI n) dln dsz = some 0) := by
  obtain ⟨h1, h | ⟨la, z, g1, g2, g3, g4, g5⟩⟩ := hS
  · left
    refine ⟨-11, by decide, ?_, ?_⟩
    · unfold f_X5_refusal; rw [h.1, b1_p (q_noth1 N), bI_t, if_neg (by decide)]
    · unfold f_X9_finds
      rw [gi_I (by omega) (by omega) (by omega), iI_clampN (by omega), ← h1, h.1, if_neg (by decide)]
  · have hf := q_finds9 N hk hi hn g1 g3 (h1.symm.trans g2) g5 hl
    have hr : f_X5_refusal N (iI lane) (iI i) (iI n) (sla k) (ssz k) = some (if la = lane then (if 0 ≤ i ∧ i + n ≤ (z : Int) then 0 else -13) else -12) := by
      unfold f_X5_refusal
      rw [g2, b1_p (q_noth0 N g1), bI_f, if_pos rfl]
      by_cases c0 : la = lane
      · subst c0
        rw [if_pos rfl, if_pos rfl, g4, b1_p (q_cov N hi (by omega) g3), ifb]
        by_cases c1 : 0 ≤ i ∧ i + n ≤ (z : Int)
        · rw [decide_eq_true (by omega), if_pos c1]; rfl
        · rw [decide_eq_false (by omega), if_neg c1]; rfl
      · rw [if_neg (fun q => c0 (by have := (iI_eq (by omega)).mp q; omega)), if_neg c0]
    by_cases c0 : la = lane
    · subst c0
      rw [if_pos rfl] at hf hr
      by_cases c1 : 0 ≤ i ∧ i + n ≤ (z : Int)
      · rw [if_pos c1] at hf hr
        obtain ⟨j, rfl⟩ := Int.eq_ofNat_of_zero_le c1.1
        exact Or.inr ⟨j, z, rfl, c1.2, g3, g4, g2, hr, hf⟩
      · rw [if_neg c1] at hf hr
        exact Or.inl ⟨-13, by decide, hr, hf⟩
    · rw [if_neg c0] at hf hr
      exact Or.inl ⟨-12, by decide, hr, hf⟩
theorem sheet_in {z : Int} (h : 0 ≤ z ∧ z ≤ 3) : ∃ k : Nat, z = (k : Int) ∧ k < 4 := by
  obtain ⟨k_, rfl⟩ := Int.eq_ofNat_of_zero_le h.1
  exact ⟨k_, rfl, by omega⟩
theorem lane_in {z : Int} (h : 0 ≤ z ∧ z ≤ 2) : ∃ k : Nat, z = (k : Int) ∧ k ≤ 2 := by
  obtain ⟨k_, rfl⟩ := Int.eq_ofNat_of_zero_le h.1
  exact ⟨k_, rfl, by omega⟩
theorem InvS_it {sla ssz : Nat → Int32} {sit : Nat → Nat → Int32} {dln dsz dit : Nat → Int32} (h : InvS sla ssz sit dln dsz dit) (k : Nat) (F D : Nat → Int32) (h1 : ∀ i, i < 36 → F i = D (36 * k + i)) (h2 : ∀ k', k' < 4 → k' ≠ k → ∀ i, i < 36 → D (36 * k' + i) = dit (36 * k' + i)) : InvS sla ssz (va_up sit k F) dln dsz D := by
  intro k' hk'
  obtain ⟨g1, g2, g3⟩ := h k' hk'
  refine ⟨g1, g2, fun i hi => ?_⟩
  by_cases c : k' = k
  · subst c; rw [va_up_self]; exact h1 i hi
  · rw [va_up_ne _ _ c, g3 i hi, h2 k' hk' c i hi]
theorem lp_sheet9 (N : Nat) {k : Nat} (hk : k < 4) (v : Int32) (dln dsz : Nat → Int32) : ∀ (d t fuel : Nat) (D : Nat → Int32), t + d = 36 → d < fuel → f_X9_sheet_46 N (iI k) v dln dsz fuel (iI t) D = some (v, dln, dsz, fun q => if 36 * k + t ≤ q ∧ q < 36 * k + 36 then 0 else D q) := by
  intro d
  induction d with
  | zero =>
    intro t fuel D h1 h2
    obtain ⟨k_, rfl⟩ := su_fuel h2
    have e : t = 36 := by omega
    subst e
    show b_X9_sheet_46 N (iI k) v dln dsz _ (iI ((36 : Nat) : Int)) D = _
    unfold b_X9_sheet_46
    rw [if_pos ((k_leL (by omega)).mpr (by omega))]
    have e2 : (fun q => if 36 * k + 36 ≤ q ∧ q < 36 * k + 36 then (0 : Int32) else D q) = D := by
      funext q
      rw [if_neg (by omega)]
    rw [e2]
  | succ d ih =>
    intro t fuel D h1 h2
    obtain ⟨k_, rfl⟩ := su_fuel (Nat.lt_of_le_of_lt (Nat.zero_le _) h2)
    show b_X9_sheet_46 N (iI k) v dln dsz (f_X9_sheet_46 N (iI k) v dln dsz k_) (iI t) D = _
    unfold b_X9_sheet_46
    rw [if_neg (fun q => absurd ((k_leL (by omega)).mp q) (by omega)), ix36, gi_I (by omega) (by omega) (by omega), iI_clampN (by omega), iI_succ, ih (t + 1) k_ _ (by omega) (by omega)]
    have e2 : (fun q => if 36 * k + (t + 1) ≤ q ∧ q < 36 * k + 36 then (0 : Int32) else upd D (36 * k + t) 0 q) = (fun q => if 36 * k + t ≤ q ∧ q < 36 * k + 36 then 0 else D q) := by
      funext q
      by_cases c : q = 36 * k + t
      · rw [if_neg (by omega), if_pos (by omega), c, upd_s]
      · rw [upd_n _ c]
        by_cases c2 : 36 * k + t ≤ q ∧ q < 36 * k + 36
        · rw [if_pos c2, if_pos (by omega)]
        · rw [if_neg c2, if_neg (by omega)]
    rw [e2]
theorem P_sheet : PS_sheet InvA := by
  intro N hN bsz bgp ber bxs bus bys bme pgc prc pgr pla tle tga trr tat tfa tby tnu rlc rla rmo ksz kmb kwa kra kla lo hi glo ghi sla ssz sit mrm mer mtd mat mwr mkn mmb mwa mra mbl mbh dxs dus dys dgp dtp dme dle dlt dkl dln dsz dit dmv hI p0 p1 p2
  have hI' := hI
  obtain ⟨n, E, RX, RU, RY, G, hB, hP, hT, hK, hO, hS⟩ := hI'
  obtain ⟨z0, r0, rfl⟩ := iI_of p0
  obtain ⟨z1, r1, rfl⟩ := iI_of p1
  obtain ⟨z2, r2, rfl⟩ := iI_of p2
  have e9 := q_isSheet9 N r0
  by_cases c0 : 0 ≤ z0 ∧ z0 ≤ 3
  case neg =>
    rw [two_f c0, bI_f] at e9
    exact ⟨-1, sla, ssz, sit, dln, dsz, dit, by unfold f_X8_sheet; rw [sh5_out r0 c0], by unfold f_X9_sheet; rw [b1_p e9, if_pos rfl], hI⟩
  rw [two_t c0, bI_t] at e9
  obtain ⟨k, rfl, hk⟩ := sheet_in c0
  have l8 := q_isLane8 N r1
  have l9 := q_isLane9 N r1
  by_cases c1 : 0 ≤ z1 ∧ z1 ≤ 2
  case neg =>
    rw [two_f c1, bI_f] at l8 l9
    exact ⟨-1, sla, ssz, sit, dln, dsz, dit, by unfold f_X8_sheet; rw [sh5_in hk, b1_p l8, if_pos rfl], by unfold f_X9_sheet; rw [b1_p e9, if_neg (by decide), b1_p l9, if_pos rfl], hI⟩
  rw [two_t c1, bI_t] at l8 l9
  obtain ⟨la, rfl, hla⟩ := lane_in c1
  by_cases c2 : z2 ≤ 36
  case neg =>
    refine ⟨-1, sla, ssz, sit, dln, dsz, dit, ?_, ?_, hI⟩
    · unfold f_X8_sheet; rw [sh5_in hk, b1_p l8, if_neg (by decide), if_neg (fun q => c2 ((k_leR (by omega)).mp q))]
    · unfold f_X9_sheet; rw [b1_p e9, if_neg (by decide), b1_p l9, if_neg (by decide), if_neg (fun q => c2 ((k_leR (by omega)).mp q))]
  by_cases c3 : 0 ≤ z2
  case neg =>
    refine ⟨-14, sla, ssz, sit, dln, dsz, dit, ?_, ?_, hI⟩
    · unfold f_X8_sheet; rw [sh5_in hk, b1_p l8, if_neg (by decide), if_pos ((k_leR (by omega)).mpr c2), if_neg (fun q => c3 ((k_leL (by omega)).mp q))]
    · unfold f_X9_sheet; rw [b1_p e9, if_neg (by decide), b1_p l9, if_neg (by decide), if_pos ((k_leR (by omega)).mpr c2), if_neg (fun q => c3 ((k_leL (by omega)).mp q))]
  obtain ⟨z, rfl⟩ := Int.eq_ofNat_of_zero_le c3
  have eb : f_X5_become N (iI (la : Int)) (iI (z : Int)) (sit k) = some (iI (la : Int), iI (z : Int), fun i => if i < 36 then 0 else sit k i) := by
    unfold f_X5_become nm
    have e1 : (if (36 : Int32) < iI (z : Int) then (36 : Int32) else iI (z : Int)) = iI (z : Int) := if_neg (fun q => absurd ((k_ltL (by omega)).mp q) (by omega))
    have e2 : (if (0 : Int32) < iI (z : Int) then iI (z : Int) else (0 : Int32)) = iI (z : Int) := by
      by_cases c : z = 0
      · subst c; rfl
      · exact if_pos ((k_ltL (by omega)).mpr (by omega))
    rw [e1, e2]
    exact b1_p (q_fill N 36 hN (by omega) 0 (sit k)) _
  have el := lp_sheet9 N hk (iI (z : Int)) (upd dln k (iI (la : Int))) (upd dsz k (iI (z : Int))) 36 0 N dit rfl (by omega)
  refine ⟨iI (z : Int), va_up sla k (iI (la : Int)), va_up ssz k (iI (z : Int)), va_up sit k (fun i => if i < 36 then 0 else sit k i), upd dln k (iI (la : Int)), upd dsz k (iI (z : Int)), (fun q => if 36 * k + 0 ≤ q ∧ q < 36 * k + 36 then 0 else dit q), ?_, ?_, n, E, RX, RU, RY, G, hB, hP, hT, hK, hO, ?_⟩
  · unfold f_X8_sheet; rw [sh5_in hk, b1_p l8, if_neg (by decide), if_pos ((k_leR (by omega)).mpr c2), if_pos ((k_leL (by omega)).mpr c3)]
    exact b3_p eb _
  · unfold f_X9_sheet; rw [b1_p e9, if_neg (by decide), b1_p l9, if_neg (by decide), if_pos ((k_leR (by omega)).mpr c2), if_pos ((k_leL (by omega)).mpr c3), gi_I (by omega) (by omega) (by omega), gi_I (by omega) (by omega) (by omega), iI_clampN (by omega)]
    exact el
  · intro k' hk'
    obtain ⟨g1, g2, g3⟩ := hS k' hk'
    by_cases c : k' = k
    · subst c
      rw [va_up_self, va_up_self, va_up_self, upd_s, upd_s]
      refine ⟨rfl, Or.inr ⟨la, z, hla, rfl, by omega, rfl, rfl⟩, fun i hi => ?_⟩
      show (if i < 36 then (0 : Int32) else sit k' i) = (if 36 * k' + 0 ≤ 36 * k' + i ∧ 36 * k' + i < 36 * k' + 36 then 0 else dit (36 * k' + i))
      rw [if_pos hi, if_pos (by omega)]
    · rw [va_up_ne _ _ c, va_up_ne _ _ c, va_up_ne _ _ c, upd_n _ c, upd_n _ c]
      refine ⟨g1, g2, fun i hi => ?_⟩
      show _ = (if 36 * k + 0 ≤ 36 * k' + i ∧ 36 * k' + i < 36 * k + 36 then 0 else dit (36 * k' + i))
      rw [if_neg (by omega), g3 i hi]
theorem P_drop : PS_drop InvA := by
  intro N hN bsz bgp ber bxs bus bys bme pgc prc pgr pla tle tga trr tat tfa tby tnu rlc rla rmo ksz kmb kwa kra kla lo hi glo ghi sla ssz sit mrm mer mtd mat mwr mkn mmb mwa mra mbl mbh dxs dus dys dgp dtp dme dle dlt dkl dln dsz dit dmv hI p0
  have hI' := hI
  obtain ⟨n, E, RX, RU, RY, G, hB, hP, hT, hK, hO, hS⟩ := hI'
  obtain ⟨z0, r0, rfl⟩ := iI_of p0
  have e9 := q_isSheet9 N r0
  by_cases c0 : 0 ≤ z0 ∧ z0 ≤ 3
  case neg =>
    rw [two_f c0, bI_f] at e9
    exact ⟨-1, sla, ssz, dln, by unfold f_X8_drop; rw [sh5_out r0 c0], by unfold f_X9_drop; rw [b1_p e9, if_pos rfl], hI⟩
  rw [two_t c0, bI_t] at e9
  obtain ⟨k, rfl, hk⟩ := sheet_in c0
  obtain ⟨g1, g | ⟨la, z, f1, f2, f3, f4, f5⟩, g3⟩ := hS k hk
  · refine ⟨-11, sla, ssz, dln, ?_, ?_, hI⟩
    · unfold f_X8_drop; rw [sh5_in hk, g.1, b1_p (q_noth1 N), bI_t, if_neg (by decide)]
    · unfold f_X9_drop; rw [b1_p e9, if_neg (by decide), gi_I (by omega) (by omega) (by omega), iI_clampN (by omega), ← g1, g.1, if_neg (by decide)]
  · refine ⟨iI (z : Int), va_up sla k (-1), va_up ssz k 0, upd dln k (-1), ?_, ?_, n, E, RX, RU, RY, G, hB, hP, hT, hK, hO, ?_⟩
    · unfold f_X8_drop; rw [sh5_in hk, f2, b1_p (q_noth0 N f1), bI_f, if_pos rfl, f4]; rfl
    · unfold f_X9_drop; rw [b1_p e9, if_neg (by decide), gi_I (by omega) (by omega) (by omega), iI_clampN (by omega), ← g1, f2, if_pos ((k_leL (by omega)).mpr (by omega)), gi_I (by omega) (by omega) (by omega), gi_I (by omega) (by omega) (by omega), f5]
    · intro k' hk'
      obtain ⟨m1, m2, m3⟩ := hS k' hk'
      by_cases c : k' = k
      · subst c
        rw [va_up_self, va_up_self, upd_s]
        exact ⟨rfl, Or.inl ⟨rfl, rfl⟩, m3⟩
      · rw [va_up_ne _ _ c, va_up_ne _ _ c, upd_n _ c]
        exact ⟨m1, m2, m3⟩
def itV (la v : Int32) : Int32 := if la = 0 then v.toInt8.toInt32 else if la = 1 then v.toInt16.toInt32 else v
theorem P_item : PS_item InvA := by
  intro N hN bsz bgp ber bxs bus bys bme pgc prc pgr pla tle tga trr tat tfa tby tnu rlc rla rmo ksz kmb kwa kra kla lo hi glo ghi sla ssz sit mrm mer mtd mat mwr mkn mmb mwa mra mbl mbh dxs dus dys dgp dtp dme dle dlt dkl dln dsz dit dmv hI p0 p1 p2 p3
  have hI' := hI
  obtain ⟨n, E, RX, RU, RY, G, hB, hP, hT, hK, hO, hS⟩ := hI'
  obtain ⟨z0, r0, rfl⟩ := iI_of p0
  obtain ⟨z1, r1, rfl⟩ := iI_of p1
  obtain ⟨z2, r2, rfl⟩ := iI_of p2
  have e9 := q_isSheet9 N r0
  by_cases c0 : 0 ≤ z0 ∧ z0 ≤ 3
  case neg =>
    rw [two_f c0, bI_f] at e9
    exact ⟨-1, sit, dit, by unfold f_X8_item; rw [sh5_out r0 c0], by unfold f_X9_item; rw [b1_p e9, if_pos rfl], hI⟩
  rw [two_t c0, bI_t] at e9
  obtain ⟨k, rfl, hk⟩ := sheet_in c0
  have l8 := q_isLane8 N r1
  have l9 := q_isLane9 N r1
  by_cases c1 : 0 ≤ z1 ∧ z1 ≤ 2
  case neg =>
    rw [two_f c1, bI_f] at l8 l9
    exact ⟨-1, sit, dit, by unfold f_X8_item; rw [sh5_in hk, b1_p l8, if_pos rfl], by unfold f_X9_item; rw [b1_p e9, if_neg (by decide), b1_p l9, if_pos rfl], hI⟩
  rw [two_t c1, bI_t] at l8 l9
  obtain ⟨la, rfl, hla⟩ := lane_in c1
  obtain ⟨m1, m2, m3⟩ := hS k hk
  have e1 : (1 : Int32) = iI 1 := rfl
  rcases q_ref N (i := z2) (n := 1) hk ⟨m1, m2⟩ hla r2 (by omega) with ⟨rv, h1, h2, h3⟩ | ⟨j, z, rfl, g1, g2, g3, g4, g5, g6⟩
  · refine ⟨rv, sit, dit, ?_, ?_, hI⟩
    · unfold f_X8_item; rw [sh5_in hk, b1_p l8, if_neg (by decide), e1, b1_p h2, if_neg (Int32.not_le.mpr h1)]
    · unfold f_X9_item; rw [b1_p e9, if_neg (by decide), b1_p l9, if_neg (by decide), e1, b1_p h3, if_neg (Int32.not_le.mpr h1)]
  · have ep : f_X5_put N (iI (j : Int)) p3 (sla k) (ssz k) (sit k) = some (upd (sit k) j (itV (iI (la : Int)) p3)) := by
      unfold f_X5_put itV
      rw [g3, g4, if_neg (fun q => absurd ((k_ltR (by omega)).mp q) (by omega)), if_neg (fun q => absurd ((iI_le (by omega)).mp q) (by omega)), if_neg (fun q => absurd ((k_leL (by omega)).mp q) (by omega)), gi_I (by omega) (by omega) (by omega), gi_I (by omega) (by omega) (by omega), gi_I (by omega) (by omega) (by omega), iI_clampN (by omega)]
      by_cases d0 : iI (la : Int) = 0
      · rw [if_pos d0, if_pos d0]
      · rw [if_neg d0, if_neg d0]
        by_cases d1 : iI (la : Int) = 1
        · rw [if_pos d1, if_pos d1]
        · rw [if_neg d1, if_neg d1]
    refine ⟨1, va_up sit k (upd (sit k) j (itV (iI (la : Int)) p3)), upd dit (36 * k + j) (itV (iI (la : Int)) p3), ?_, ?_, n, E, RX, RU, RY, G, hB, hP, hT, hK, hO, InvS_it hS k _ _ (fun i hi => ?_) (fun k' hk' hne i hi => ?_)⟩
    · unfold f_X8_item; rw [sh5_in hk, b1_p l8, if_neg (by decide), e1, b1_p g5, if_pos (by decide), b1_p ep]
    · have g6' : f_X9_finds N (iI (k : Int)) (iI (la : Int)) (iI (j : Int)) (1 : Int32) dln dsz = some 0 := g6
      unfold f_X9_item; rw [b1_p e9, if_neg (by decide), b1_p l9, if_neg (by decide), b1_p g6', if_pos (by decide), ix36, gi_I (by omega) (by omega) (by omega), gi_I (by omega) (by omega) (by omega), gi_I (by omega) (by omega) (by omega), iI_clampN (by omega)]
      unfold itV
      by_cases d0 : iI (la : Int) = 0
      · rw [if_pos d0, if_pos d0]
      · rw [if_neg d0, if_neg d0]
        by_cases d1 : iI (la : Int) = 1
        · rw [if_pos d1, if_pos d1]
        · rw [if_neg d1, if_neg d1]
    · by_cases c : i = j
      · subst c; rw [upd_s, upd_s]
      · rw [upd_n _ c, upd_n _ (by omega), m3 i hi]
    · rw [upd_n _ (by omega)]
