theorem lp_cp2 (N : Nat) {b j n : Nat} (hb : b < 4) (hj : j + n ≤ 36) (mv : Nat → Int32) : ∀ (d t fuel : Nat) (D : Nat → Int32), t + d = n → d < fuel → f_X9_copy_138 N (iI b) (iI j) (iI n) mv fuel (iI t) D = some (iI n, (fun q => if 36 * b + j + t ≤ q ∧ q < 36 * b + j + n then mv (q - (36 * b + j)) else D q), mv) := by
  intro d
  induction d with
  | zero =>
    intro t fuel D h1 h2
    obtain ⟨k_, rfl⟩ := su_fuel h2
    have e : t = n := by omega
    subst e
    show b_X9_copy_138 N (iI b) (iI j) (iI t) mv _ (iI (t : Int)) D = _
    unfold b_X9_copy_138
    rw [if_pos ((iI_le (by omega)).mpr (Int.le_refl _))]
    have e2 : (fun q => if 36 * b + j + t ≤ q ∧ q < 36 * b + j + t then mv (q - (36 * b + j)) else D q) = D := by
      funext q
      rw [if_neg (by omega)]
    rw [e2]
  | succ d ih =>
    intro t fuel D h1 h2
    obtain ⟨k_, rfl⟩ := su_fuel (Nat.lt_of_le_of_lt (Nat.zero_le _) h2)
    have ei : iI ((36 * b + j : Nat) : Int) + iI (t : Int) = iI ((36 * b + j + t : Nat) : Int) := by rw [iI_add]; congr 1
    show b_X9_copy_138 N (iI b) (iI j) (iI n) mv (f_X9_copy_138 N (iI b) (iI j) (iI n) mv k_) (iI t) D = _
    unfold b_X9_copy_138
    rw [if_neg (fun q => absurd ((iI_le (by omega)).mp q) (by omega)), ix36, ei, gi_I (by omega) (by omega) (by omega), gi_I (by omega) (by omega) (by omega), iI_clampN (by omega), iI_clampN (by omega), iI_succ, ih (t + 1) k_ _ (by omega) (by omega)]
    have e2 : (fun q => if 36 * b + j + (t + 1) ≤ q ∧ q < 36 * b + j + n then mv (q - (36 * b + j)) else upd D (36 * b + j + t) (mv t) q) = (fun q => if 36 * b + j + t ≤ q ∧ q < 36 * b + j + n then mv (q - (36 * b + j)) else D q) := by
      funext q
      by_cases c : q = 36 * b + j + t
      · have e3 : 36 * b + j + t - (36 * b + j) = t := by omega
        rw [if_neg (by omega), if_pos (by omega), c, upd_s, e3]
      · rw [upd_n _ c]
        by_cases c2 : 36 * b + j + t ≤ q ∧ q < 36 * b + j + n
        · rw [if_pos c2, if_pos (by omega)]
        · rw [if_neg c2, if_neg (by omega)]
    rw [e2]
theorem lp_cp1 (N : Nat) {a b i j n : Nat} (ha : a < 4) (hi : i + n ≤ 36) (dit : Nat → Int32) : ∀ (d t fuel : Nat) (mv : Nat → Int32), t + d = n → d < fuel → (∀ s, s < t → mv s = dit (36 * a + i + s)) → ∃ mv' : Nat → Int32, f_X9_copy_101 N (iI a) (iI i) (iI b) (iI j) (iI n) dit fuel (iI t) mv = f_X9_copy_138 N (iI b) (iI j) (iI n) mv' N (0 : Int32) dit ∧ ∀ s, s < n → mv' s = dit (36 * a + i + s) := by
  intro d
  induction d with
  | zero =>
    intro t fuel mv h1 h2 h3
    obtain ⟨k_, rfl⟩ := su_fuel h2
    have e : t = n := by omega
    subst e
    refine ⟨mv, ?_, h3⟩
    show b_X9_copy_101 N (iI a) (iI i) (iI b) (iI j) (iI t) dit _ (iI (t : Int)) mv = _
    unfold b_X9_copy_101
    rw [if_pos ((iI_le (by omega)).mpr (Int.le_refl _))]
  | succ d ih =>
    intro t fuel mv h1 h2 h3
    obtain ⟨k_, rfl⟩ := su_fuel (Nat.lt_of_le_of_lt (Nat.zero_le _) h2)
    have ei : iI ((36 * a + i : Nat) : Int) + iI (t : Int) = iI ((36 * a + i + t : Nat) : Int) := by rw [iI_add]; congr 1
    obtain ⟨mv', e1, e2⟩ := ih (t + 1) k_ (upd mv t (dit (36 * a + i + t))) (by omega) (by omega) (fun s hs => by
      by_cases c : s = t
      · subst c; rw [upd_s]
      · rw [upd_n _ c]; exact h3 s (by omega))
    refine ⟨mv', ?_, e2⟩
    show b_X9_copy_101 N (iI a) (iI i) (iI b) (iI j) (iI n) dit (f_X9_copy_101 N (iI a) (iI i) (iI b) (iI j) (iI n) dit k_) (iI t) mv = _
    unfold b_X9_copy_101
    rw [if_neg (fun q => absurd ((iI_le (by omega)).mp q) (by omega)), ix36, ei, gi_I (by omega) (by omega) (by omega), gi_I (by omega) (by omega) (by omega), iI_clampN (by omega), iI_clampN (by omega), iI_succ, e1]
theorem P_copy : PS_copy InvA := by
  intro N hN bsz bgp ber bxs bus bys bme pgc prc pgr pla tle tga trr tat tfa tby tnu rlc rla rmo ksz kmb kwa kra kla lo hi glo ghi sla ssz sit mrm mer mtd mat mwr mkn mmb mwa mra mbl mbh dxs dus dys dgp dtp dme dle dlt dkl dln dsz dit dmv hI p0 p1 p2 p3 p4
  have hI' := hI
  obtain ⟨n, E, RX, RU, RY, G, hB, hP, hT, hK, hO, hS⟩ := hI'
  obtain ⟨z0, r0, rfl⟩ := iI_of p0
  obtain ⟨z1, r1, rfl⟩ := iI_of p1
  obtain ⟨z2, r2, rfl⟩ := iI_of p2
  obtain ⟨z3, r3, rfl⟩ := iI_of p3
  obtain ⟨z4, r4, rfl⟩ := iI_of p4
  have e9 := q_isSheet9 N r0
  have d9 := q_isSheet9 N r2
  by_cases c0 : 0 ≤ z0 ∧ z0 ≤ 3
  case neg =>
    rw [two_f c0, bI_f] at e9
    refine ⟨-1, sit, dit, dmv, ?_, by unfold f_X9_copy; rw [b1_p e9, if_pos rfl], hI⟩
    unfold f_X8_copy; rw [sh5_out r0 c0]
    by_cases c2 : 0 ≤ z2 ∧ z2 ≤ 3
    · obtain ⟨b, rfl, hb⟩ := sheet_in c2
      rw [sh5_in hb]
    · rw [sh5_out r2 c2]
  rw [two_t c0, bI_t] at e9
  obtain ⟨a, rfl, ha⟩ := sheet_in c0
  by_cases c2 : 0 ≤ z2 ∧ z2 ≤ 3
  case neg =>
    rw [two_f c2, bI_f] at d9
    exact ⟨-1, sit, dit, dmv, by unfold f_X8_copy; rw [sh5_in ha, sh5_out r2 c2], by unfold f_X9_copy; rw [b1_p e9, if_neg (by decide), b1_p d9, if_pos rfl], hI⟩
  rw [two_t c2, bI_t] at d9
  obtain ⟨b, rfl, hb⟩ := sheet_in c2
  generalize k8 : f_X8_copy N (iI (a : Int)) (iI z1) (iI (b : Int)) (iI z3) (iI z4) sla ssz sit = x8
  unfold f_X8_copy at k8
  rw [sh5_in ha, sh5_in hb] at k8
  generalize k9 : f_X9_copy N (iI (a : Int)) (iI z1) (iI (b : Int)) (iI z3) (iI z4) dln dsz dit dmv = x9
  unfold f_X9_copy at k9
  rw [b1_p e9, if_neg (by decide), b1_p d9, if_neg (by decide), gi_I (by omega) (by omega) (by omega), gi_I (by omega) (by omega) (by omega), gi_I (by omega) (by omega) (by omega), gi_I (by omega) (by omega) (by omega), gi_I (by omega) (by omega) (by omega), gi_I (by omega) (by omega) (by omega), iI_clampN (by omega), iI_clampN (by omega)] at k9
  obtain ⟨g1, g | ⟨la, z, f1, f2, f3, f4, f5⟩, g3⟩ := hS a ha
  · rw [g.1, b1_p (q_noth1 N), bI_t, if_neg (by decide)] at k8
    rw [← g1, g.1, if_pos (by decide)] at k9
    exact ⟨_, _, _, _, k8.symm, k9.symm, hI⟩
  rw [f2, b1_p (q_noth0 N f1), bI_f, if_pos rfl] at k8
  rw [← g1, f2, if_neg (fun q => absurd ((k_ltR (by omega)).mp q) (by omega))] at k9
  obtain ⟨u1, u | ⟨lb, y, v1, v2, v3, v4, v5⟩, u3⟩ := hS b hb
  · rw [u.1, b1_p (q_noth1 N), bI_t, if_neg (by decide)] at k8
    rw [← u1, u.1, if_neg (by decide)] at k9
    exact ⟨_, _, _, _, k8.symm, k9.symm, hI⟩
  rw [v2, b1_p (q_noth0 N v1), bI_f, if_pos rfl, b1_p (rfl : f_X5_laneNow N (iI (la : Int)) = some (iI (la : Int))), b1_p (rfl : f_X5_laneNow N (iI (lb : Int)) = some (iI (lb : Int)))] at k8
  rw [← u1, v2, if_pos ((k_leL (by omega)).mpr (by omega))] at k9
  by_cases cl : la = lb
  case neg =>
    rw [if_neg (fun q => cl (by have := (iI_eq (by omega)).mp q; omega))] at k8 k9
    exact ⟨_, _, _, _, k8.symm, k9.symm, hI⟩
  subst cl
  rw [if_pos rfl, f4, b1_p (q_cov N r1 r4 f3), v4, b1_p (q_cov N r3 r4 v3)] at k8
  rw [if_pos rfl] at k9
  by_cases c4 : z4 < 0
  · rw [decide_eq_false (by omega), bI_f, if_pos rfl] at k8
    rw [if_pos ((k_ltR (by omega)).mpr c4)] at k9
    exact ⟨_, _, _, _, k8.symm, k9.symm, hI⟩
  rw [if_neg (fun q => c4 ((k_ltR (by omega)).mp q)), b1_p (q_finds9 N (n := z4) ha r1 (by omega) f1 f3 (g1.symm.trans f2) f5 f1), if_pos rfl, b1_p (q_finds9 N (n := z4) hb r3 (by omega) f1 v3 (u1.symm.trans v2) v5 f1), if_pos rfl] at k9
  by_cases c5 : 0 ≤ z1 ∧ z1 + z4 ≤ (z : Int)
  case neg =>
    rw [decide_eq_false (by omega), bI_f, if_pos rfl] at k8
    rw [if_neg c5, if_pos (by decide)] at k9
    exact ⟨_, _, _, _, k8.symm, k9.symm, hI⟩
  rw [decide_eq_true (p := (0 ≤ z1 ∧ 0 ≤ z4 ∧ z1 + z4 ≤ (z : Int))) (by omega), bI_t, if_neg (by decide)] at k8
  rw [if_pos c5, if_neg (by decide)] at k9
  by_cases c6 : 0 ≤ z3 ∧ z3 + z4 ≤ (y : Int)
  case neg =>
    rw [decide_eq_false (by omega), bI_f, if_pos rfl] at k8
    rw [if_neg c6, if_neg (by decide)] at k9
    exact ⟨_, _, _, _, k8.symm, k9.symm, hI⟩
  rw [decide_eq_true (p := (0 ≤ z3 ∧ 0 ≤ z4 ∧ z3 + z4 ≤ (y : Int))) (by omega), bI_t, if_neg (by decide)] at k8
  rw [if_pos c6, if_pos (by decide)] at k9
  obtain ⟨i, rfl⟩ := Int.eq_ofNat_of_zero_le c5.1
  obtain ⟨j, rfl⟩ := Int.eq_ofNat_of_zero_le c6.1
  obtain ⟨m, rfl⟩ := Int.eq_ofNat_of_zero_le (a := z4) (by omega)
  have et : f_X5_take_two N (iI (j : Int)) (iI (i : Int)) (iI (m : Int)) (iI (y : Int)) (sit b) (iI (z : Int)) (sit a) = some (va_cpy (sit a) (sit b) i j m) := by
    unfold f_X5_take_two
    rw [b1_p (q_cov N r3 r4 v3), decide_eq_true (by omega), bI_t, if_neg (by decide), b1_p (q_cov N r1 r4 f3), decide_eq_true (by omega), bI_t, if_neg (by decide)]
    unfold gc
    rw [iI_clampN (by omega), iI_clampN (by omega), iI_clampN (by omega), if_pos]
    exact ⟨fun q => absurd ((k_ltR (by omega)).mp q) (by omega), fun q => absurd ((k_ltR (by omega)).mp q) (by omega), fun q => absurd ((k_ltR (by omega)).mp q) (by omega), by omega, by omega⟩
  rw [b1_p et] at k8
  obtain ⟨mv, w1, w2⟩ := lp_cp1 N (a := a) (b := b) (i := i) (j := j) (n := m) ha (by omega) dit m 0 N dmv (by omega) (by omega) (fun s hs => by omega)
  have w3 := lp_cp2 N (b := b) (j := j) (n := m) hb (by omega) mv m 0 N dit (by omega) (by omega)
  have w4 := w1.trans w3
  refine ⟨iI (m : Int), _, _, _, k8.symm, k9.symm.trans w4, n, E, RX, RU, RY, G, hB, hP, hT, hK, hO, InvS_it hS b _ _ (fun s hs => ?_) (fun k' hk' hne s hs => ?_)⟩
  · show (if j ≤ s ∧ s < j + m then sit a (i + (s - j)) else sit b s) = (if 36 * b + j + 0 ≤ 36 * b + s ∧ 36 * b + s < 36 * b + j + m then mv (36 * b + s - (36 * b + j)) else dit (36 * b + s))
    by_cases c : j ≤ s ∧ s < j + m
    · have e3 : 36 * b + s - (36 * b + j) = s - j := by omega
      have e4 : 36 * a + i + (s - j) = 36 * a + (i + (s - j)) := by omega
      rw [if_pos c, if_pos (by omega), e3, w2 (s - j) (by omega), e4]
      exact g3 _ (by omega)
    · rw [if_neg c, if_neg (by omega)]
      exact u3 s hs
  · show (if 36 * b + j + 0 ≤ 36 * k' + s ∧ 36 * k' + s < 36 * b + j + m then mv (36 * k' + s - (36 * b + j)) else dit (36 * k' + s)) = _
    rw [if_neg (by omega)]
