/-- a step of the box: from law i on, with the least and greatest sums so far -/
def mvF (LW : Nat → Nat) (a b U : Int) (E : Nat) : Nat → Nat → Int → Int → Int × Int
  | 0, _, A, B => (clB (A / 4 - (E : Int)), clB ((E : Int) - (-B) / 4))
  | d + 1, i, A, B => mvF LW a b U E d (i + 1) (mi A (mi (sm (LW i) a U) (sm (LW i) b U))) (ma B (ma (sm (LW i) a U) (sm (LW i) b U)))
theorem mvF_in (LW : Nat → Nat) (a b U : Int) (E : Nat) : ∀ (d i : Nat) (A B : Int), (-9999 ≤ (mvF LW a b U E d i A B).1 ∧ (mvF LW a b U E d i A B).1 ≤ 9999) ∧ (-9999 ≤ (mvF LW a b U E d i A B).2 ∧ (mvF LW a b U E d i A B).2 ≤ 9999)
  | 0, _, A, B => ⟨clB_in _, clB_in _⟩
  | d + 1, i, A, B => mvF_in LW a b U E d (i + 1) _ _
theorem q_lawAt2 (N : Nat) {k i : Nat} {kla : Nat → Int32} (hk : k ≤ 4) (hi : i < k) : f_X2_lawAt N (iI i) (iI k) kla = some (kla i) := by
  unfold f_X2_lawAt
  rw [if_neg (fun q => absurd ((k_ltR (by omega)).mp q) (by omega)), if_neg (fun q => absurd ((iI_le (by omega)).mp q) (by omega)), if_neg (fun q => absurd ((k_leL (by omega)).mp q) (by omega)), gi_I (by omega) (by omega) (by omega), iI_clampN (by omega)]
theorem lp_move8 (N : Nat) {k E : Nat} {LW : Nat → Nat} {kla : Nat → Int32} {a b U : Int} (hk : k ≤ 4) (hE : E ≤ 20) (ha : -9999 ≤ a ∧ a ≤ 9999) (hb : -9999 ≤ b ∧ b ≤ 9999) (hU : -99 ≤ U ∧ U ≤ 99) (hkl : ∀ i, i < k → LW i < 289 ∧ kla i = iI ((LW i : Nat) : Int)) :
    ∀ (d i fuel : Nat) (A B : Int), i + d = k → d < fuel → (-80784 ≤ A ∧ A ≤ 80784) → (-80784 ≤ B ∧ B ≤ 80784) → f_X1_move_30 N (iI U) (iI E) (iI k) kla fuel (iI A) (iI B) (iI i) (iI a) (iI b) = some (iI (mvF LW a b U E d i A B).1, iI (mvF LW a b U E d i A B).2) := by
  intro d
  induction d with
  | zero =>
    intro i fuel A B h1 h2 hA hB
    obtain ⟨k_, rfl⟩ := su_fuel h2
    have e : i = k := by omega
    subst e
    show b_X1_move_30 N (iI U) (iI E) (iI i) kla _ (iI A) (iI B) (iI (i : Int)) (iI a) (iI b) = _
    unfold b_X1_move_30 mvF
    rw [b1_p (rfl : f_X2_size N (iI (i : Int)) = some (iI (i : Int))), if_pos ((iI_le (by omega)).mpr (Int.le_refl _)), b1_p (q_fd4 N (by omega)), iI_sub, b1_p (q_within1 N (by omega)), iI_neg, b1_p (q_fd4 N (by omega)), iI_sub, b1_p (q_within1 N (by omega))]
  | succ d ih =>
    intro i fuel A B h1 h2 hA hB
    obtain ⟨k_, rfl⟩ := su_fuel (Nat.lt_of_le_of_lt (Nat.zero_le _) h2)
    obtain ⟨g1, g2⟩ := hkl i (by omega)
    have s1 := sm_bd g1 (A := 9999) (B := 99) ha hU
    have s2 := sm_bd g1 (A := 9999) (B := 99) hb hU
    have m1 := mi_bd (B := 80784) (x := sm (LW i) a U) (y := sm (LW i) b U) (by omega) (by omega)
    have m2 := ma_bd (B := 80784) (x := sm (LW i) a U) (y := sm (LW i) b U) (by omega) (by omega)
    have i1 := ih (i + 1) k_ (mi A (mi (sm (LW i) a U) (sm (LW i) b U))) (ma B (ma (sm (LW i) a U) (sm (LW i) b U))) (by omega) (by omega) (mi_bd (B := 80784) hA m1) (ma_bd (B := 80784) hB m2)
    show b_X1_move_30 N (iI U) (iI E) (iI k) kla (f_X1_move_30 N (iI U) (iI E) (iI k) kla k_) (iI A) (iI B) (iI (i : Int)) (iI a) (iI b) = _
    unfold b_X1_move_30 mvF
    rw [b1_p (rfl : f_X2_size N (iI (k : Int)) = some (iI (k : Int))), if_neg (fun q => absurd ((iI_le (by omega)).mp q) (by omega)), b1_p (q_lawAt2 N hk (by omega)), g2, b1_p (q_sum3 N g1 a U), b1_p ((q_lawAt2 N (kla := kla) hk (by omega)).trans (congrArg some g2)), b1_p (q_sum3 N g1 b U)]
    unfold nm
    rw [mi_I (by omega), ma_I (by omega), mi_I (by omega), ma_I (by omega), iI_succ]
    exact i1
theorem q_move8 (N : Nat) (hN : 5000 ≤ N) {k E : Nat} {LW : Nat → Nat} {kla : Nat → Int32} {a b U : Int} (hk : k ≤ 4) (hk0 : 0 < k) (hE : E ≤ 20) (ha : -9999 ≤ a ∧ a ≤ 9999) (hb : -9999 ≤ b ∧ b ≤ 9999) (hU : -99 ≤ U ∧ U ≤ 99) (hkl : ∀ i, i < k → LW i < 289 ∧ kla i = iI ((LW i : Nat) : Int)) :
    f_X1_move N (iI U) (iI E) (iI a) (iI b) (iI k) kla = some (iI (mvF LW a b U E k 0 (sm (LW 0) a U) (sm (LW 0) a U)).1, iI (mvF LW a b U E k 0 (sm (LW 0) a U) (sm (LW 0) a U)).2) := by
  obtain ⟨g1, g2⟩ := hkl 0 hk0
  have s1 := sm_bd g1 (A := 9999) (B := 99) ha hU
  have el : f_X2_lawAt N (0 : Int32) (iI k) kla = some (iI ((LW 0 : Nat) : Int)) := (q_lawAt2 N (i := 0) (kla := kla) hk hk0).trans (congrArg some g2)
  unfold f_X1_move
  rw [b1_p (rfl : f_X2_size N (iI (k : Int)) = some (iI (k : Int))), if_neg (fun q => absurd ((k_eqR (by omega)).mp q) (by omega)), b1_p el, b1_p (q_sum3 N g1 a U)]
  exact lp_move8 N hk hE ha hb hU hkl k 0 N _ _ (by omega) (by omega) (by omega) (by omega)
theorem st64 (N : Nat) (kk : Int32 → Int32 → Int32 → Int32 → Int32 → Option (Int32 × Int32)) (l1 mer mkn mbl mbh : Int32) (dkl : Nat → Int32) {A B o t : Int} {i : Nat} (hi : i ≤ 4) (hA : -80784 ≤ A ∧ A ≤ 80784) (hB : -80784 ≤ B ∧ B ≤ 80784) (ho : -80784 ≤ o ∧ o ≤ 80784) (ht : -80784 ≤ t ∧ t ≤ 80784) :
    (if iI t ≤ iI o then f_X9_steps_64 N kk l1 (iI A) (iI B) (iI i) (iI o) (iI t) (iI t) mer mkn mbl mbh dkl else f_X9_steps_64 N kk l1 (iI A) (iI B) (iI i) (iI o) (iI t) (iI o) mer mkn mbl mbh dkl) = (if i = 0 then kk (iI (mi o t)) (iI (ma o t)) (iI ((i + 1 : Nat) : Int)) mbl mbh else kk (iI (mi A (mi o t))) (iI (ma B (ma o t))) (iI ((i + 1 : Nat) : Int)) mbl mbh) := by
  have m1 := mi_bd (B := 80784) ho ht
  have m2 := ma_bd (B := 80784) ho ht
  have e99 : ∀ (x : Int32), f_X9_steps_99 N kk l1 (iI B) (iI i) (iI (ma o t)) x mer mkn mbl mbh dkl = (if i = 0 then kk x (iI (ma o t)) (iI ((i + 1 : Nat) : Int)) mbl mbh else kk x (iI (ma B (ma o t))) (iI ((i + 1 : Nat) : Int)) mbl mbh) := by
    intro x
    unfold f_X9_steps_99
    rw [iI_succ]
    by_cases c : i = 0
    · rw [if_pos ((k_eqR (by omega)).mpr (by omega)), if_pos c]
    · rw [if_neg (fun q => absurd ((k_eqR (by omega)).mp q) (by omega)), if_neg c]
      generalize ma o t = y at *
      unfold ma
      by_cases c2 : y ≤ B
      · rw [if_pos ((iI_le (by omega)).mpr c2), if_neg (by omega)]
      · rw [if_neg (fun q => c2 ((iI_le (by omega)).mp q)), if_pos (by omega)]
  have e80 : f_X9_steps_80 N kk l1 (iI A) (iI B) (iI i) (iI (mi o t)) (iI (ma o t)) mer mkn mbl mbh dkl = (if i = 0 then kk (iI (mi o t)) (iI (ma o t)) (iI ((i + 1 : Nat) : Int)) mbl mbh else kk (iI (mi A (mi o t))) (iI (ma B (ma o t))) (iI ((i + 1 : Nat) : Int)) mbl mbh) := by
    unfold f_X9_steps_80
    rw [e99, e99]
    by_cases c : i = 0
    · rw [if_pos ((k_eqR (by omega)).mpr (by omega)), if_pos c, if_pos c]
    · rw [if_neg (fun q => absurd ((k_eqR (by omega)).mp q) (by omega)), if_neg c, if_neg c, if_neg c]
      have em : mi A (mi o t) = if A ≤ mi o t then A else mi o t := by
        generalize mi o t = y
        unfold mi
        by_cases c2 : A ≤ y
        · rw [if_pos c2, if_neg (by omega)]
        · rw [if_neg c2, if_pos (by omega)]
      rw [em]
      by_cases c2 : A ≤ mi o t
      · rw [if_pos ((iI_le (by omega)).mpr c2), if_pos c2]
      · rw [if_neg (fun q => c2 ((iI_le (by omega)).mp q)), if_neg c2]
  rw [← e80]
  by_cases c : t ≤ o
  · have em : mi o t = t := by
      unfold mi
      by_cases c2 : t < o
      · rw [if_pos c2]
      · rw [if_neg c2]; omega
    have eM : ma o t = o := by
      unfold ma
      rw [if_neg (by omega)]
    rw [em, eM, if_pos ((iI_le (by omega)).mpr c)]
    unfold f_X9_steps_64
    rw [if_pos ((iI_le (by omega)).mpr c)]
  · have em : mi o t = o := by
      unfold mi
      rw [if_neg (by omega)]
    have eM : ma o t = t := by
      unfold ma
      rw [if_pos (by omega)]
    rw [em, eM, if_neg (fun q => c ((iI_le (by omega)).mp q))]
    unfold f_X9_steps_64
    rw [if_neg (fun q => c ((iI_le (by omega)).mp q))]
theorem lp_steps9 (N : Nat) {k E : Nat} {LW : Nat → Nat} {dkl : Nat → Int32} {a b U : Int} (hk : k ≤ 4) (hE : E ≤ 20) (ha : -9999 ≤ a ∧ a ≤ 9999) (hb : -9999 ≤ b ∧ b ≤ 9999) (hU : -99 ≤ U ∧ U ≤ 99) (hkl : ∀ i, i < k → LW i < 289 ∧ dkl i = iI ((LW i : Nat) : Int)) :
    ∀ (d i fuel : Nat) (A B : Int), i + d = k → 0 < i → d < fuel → (-80784 ≤ A ∧ A ≤ 80784) → (-80784 ≤ B ∧ B ≤ 80784) → f_X9_steps_7 N (iI U) (iI E) (iI k) dkl fuel (iI A) (iI B) (iI i) (iI a) (iI b) = some (iI (mvF LW a b U E d i A B).1, iI (mvF LW a b U E d i A B).2) := by
  intro d
  induction d with
  | zero =>
    intro i fuel A B h1 h0 h2 hA hB
    obtain ⟨k_, rfl⟩ := su_fuel h2
    have e : i = k := by omega
    subst e
    show b_X9_steps_7 N (iI U) (iI E) (iI i) dkl _ (iI A) (iI B) (iI (i : Int)) (iI a) (iI b) = _
    unfold b_X9_steps_7 mvF
    rw [if_pos ((iI_le (by omega)).mpr (Int.le_refl _)), k_mulL, iI_sub, b1_p (q_lower9 N (by omega)), b1_p (q_held9 N (by omega)), iI_add, b1_p (q_higher9 N (by omega)), b1_p (q_held9 N (by omega))]
    have e1 : (A - ((4 : Nat) : Int) * (E : Int)) / 4 = A / 4 - (E : Int) := by omega
    have e2 : -((-(B + ((4 : Nat) : Int) * (E : Int))) / 4) = (E : Int) - (-B) / 4 := by omega
    rw [e1, e2]
  | succ d ih =>
    intro i fuel A B h1 h0 h2 hA hB
    obtain ⟨k_, rfl⟩ := su_fuel (Nat.lt_of_le_of_lt (Nat.zero_le _) h2)
    obtain ⟨g1, g2⟩ := hkl i (by omega)
    have s1 := sm_bd g1 (A := 9999) (B := 99) ha hU
    have s2 := sm_bd g1 (A := 9999) (B := 99) hb hU
    have m1 := mi_bd (B := 80784) (x := sm (LW i) a U) (y := sm (LW i) b U) (by omega) (by omega)
    have m2 := ma_bd (B := 80784) (x := sm (LW i) a U) (y := sm (LW i) b U) (by omega) (by omega)
    have i1 := ih (i + 1) k_ (mi A (mi (sm (LW i) a U) (sm (LW i) b U))) (ma B (ma (sm (LW i) a U) (sm (LW i) b U))) (by omega) (by omega) (by omega) (mi_bd (B := 80784) hA m1) (ma_bd (B := 80784) hB m2)
    show b_X9_steps_7 N (iI U) (iI E) (iI k) dkl (f_X9_steps_7 N (iI U) (iI E) (iI k) dkl k_) (iI A) (iI B) (iI (i : Int)) (iI a) (iI b) = _
    unfold b_X9_steps_7 mvF
    rw [if_neg (fun q => absurd ((iI_le (by omega)).mp q) (by omega)), gi_I (by omega) (by omega) (by omega), iI_clampN (by omega), g2, b1_p (q_sum9 N g1 a U), gi_I (by omega) (by omega) (by omega), b1_p (q_sum9 N g1 b U), st64 N _ _ _ _ _ _ _ (by omega) hA hB (by omega) (by omega), if_neg (by omega)]
    exact i1
theorem q_steps9 (N : Nat) (hN : 5000 ≤ N) {k E : Nat} {LW : Nat → Nat} {dkl : Nat → Int32} {a b U : Int} (hk : k ≤ 4) (hk0 : 0 < k) (hE : E ≤ 20) (ha : -9999 ≤ a ∧ a ≤ 9999) (hb : -9999 ≤ b ∧ b ≤ 9999) (hU : -99 ≤ U ∧ U ≤ 99) (hkl : ∀ i, i < k → LW i < 289 ∧ dkl i = iI ((LW i : Nat) : Int)) :
    f_X9_steps N (iI U) (iI E) (iI k) (iI a) (iI b) dkl = some (iI (mvF LW a b U E k 0 (sm (LW 0) a U) (sm (LW 0) a U)).1, iI (mvF LW a b U E k 0 (sm (LW 0) a U) (sm (LW 0) a U)).2) := by
  obtain ⟨g1, g2⟩ := hkl 0 hk0
  have s1 := sm_bd g1 (A := 9999) (B := 99) ha hU
  have s2 := sm_bd g1 (A := 9999) (B := 99) hb hU
  have m1 := mi_bd (B := 80784) (x := sm (LW 0) a U) (y := sm (LW 0) b U) (by omega) (by omega)
  have m2 := ma_bd (B := 80784) (x := sm (LW 0) a U) (y := sm (LW 0) b U) (by omega) (by omega)
  obtain ⟨j, rfl⟩ : ∃ j, k = j + 1 := ⟨k - 1, by omega⟩
  obtain ⟨k_, rfl⟩ := su_fuel (N := N) (by omega)
  have i1 := lp_steps9 (k_ + 1) hk hE ha hb hU hkl j 1 k_ (mi (sm (LW 0) a U) (sm (LW 0) b U)) (ma (sm (LW 0) a U) (sm (LW 0) b U)) (by omega) (by omega) (by omega) m1 m2
  have em : mi (sm (LW 0) a U) (mi (sm (LW 0) a U) (sm (LW 0) b U)) = mi (sm (LW 0) a U) (sm (LW 0) b U) := by
    unfold mi
    by_cases c : sm (LW 0) b U < sm (LW 0) a U
    · rw [if_pos c, if_pos c]
    · rw [if_neg c, if_neg (by omega)]
  have eM : ma (sm (LW 0) a U) (ma (sm (LW 0) a U) (sm (LW 0) b U)) = ma (sm (LW 0) a U) (sm (LW 0) b U) := by
    unfold ma
    by_cases c : sm (LW 0) a U < sm (LW 0) b U
    · rw [if_pos c, if_pos c]
    · rw [if_neg c, if_neg (by omega)]
  unfold f_X9_steps
  show b_X9_steps_7 (k_ + 1) (iI U) (iI E) (iI ((j + 1 : Nat) : Int)) dkl (f_X9_steps_7 (k_ + 1) (iI U) (iI E) (iI ((j + 1 : Nat) : Int)) dkl k_) (iI 0) (iI 0) (iI ((0 : Nat) : Int)) (iI a) (iI b) = _
  unfold b_X9_steps_7 mvF
  rw [if_neg (fun q => absurd ((iI_le (by omega)).mp q) (by omega)), gi_I (by omega) (by omega) (by omega), iI_clampN (by omega), g2, b1_p (q_sum9 _ g1 a U), gi_I (by omega) (by omega) (by omega), b1_p (q_sum9 _ g1 b U), st64 _ _ _ _ _ _ _ _ (by omega) (by omega) (by omega) (by omega) (by omega), if_pos rfl, em, eM]
  exact i1
theorem P_step : PS_step InvA := by
  intro N hN bsz bgp ber bxs bus bys bme pgc prc pgr pla tle tga trr tat tfa tby tnu rlc rla rmo ksz kmb kwa kra kla lo hi glo ghi sla ssz sit mrm mer mtd mat mwr mkn mmb mwa mra mbl mbh dxs dus dys dgp dtp dme dle dlt dkl dln dsz dit dmv hI p0
  have hI' := hI
  obtain ⟨n, E, RX, RU, RY, G, hB, hP, hT, hKK, ⟨a, b, rfl, rfl, rfl, rfl, ha, hb⟩, hS⟩ := hI'
  have hK' := hKK
  obtain ⟨k, LW, mb, hk, rfl, rfl, hkl, hm1, hm2, hm3, hm4, hm5⟩ := hK'
  have hB' := hB
  obtain ⟨⟨hn, hE, -, -, rfl, rfl, -⟩, -, -⟩ := hB'
  obtain ⟨z0, r0, rfl⟩ := iI_of p0
  cases c0 : near z0 with
  | false =>
    refine ⟨-1, iI a, iI b, iI a, iI b, ?_, ?_, hI⟩
    · unfold f_X8_step; rw [b1_p (q_near99 N r0), c0, bI_f, if_pos rfl]
    · unfold f_X9_step; rw [b1_p (q_small99 N r0), c0, bI_f, if_pos rfl]
  | true =>
  by_cases ck : k = 0
  · refine ⟨-4, iI a, iI b, iI a, iI b, ?_, ?_, hI⟩
    · unfold f_X8_step; rw [b1_p (q_near99 N r0), c0, bI_t, if_neg (by decide), b1_p (rfl : f_X2_size N (iI (k : Int)) = some (iI (k : Int))), if_pos ((k_eqR (by omega)).mpr (by omega))]
    · unfold f_X9_step; rw [b1_p (q_small99 N r0), c0, bI_t, if_neg (by decide), if_pos ((k_eqR (by omega)).mpr (by omega))]
  · have hin := mvF_in LW a b z0 E k 0 (sm (LW 0) a z0) (sm (LW 0) a z0)
    refine ⟨1, _, _, _, _, ?_, ?_, n, E, RX, RU, RY, G, hB, hP, hT, hKK, ⟨_, _, rfl, rfl, rfl, rfl, hin.1, hin.2⟩, hS⟩
    · unfold f_X8_step; rw [b1_p (q_near99 N r0), c0, bI_t, if_neg (by decide), b1_p (rfl : f_X2_size N (iI (k : Int)) = some (iI (k : Int))), if_neg (fun q => absurd ((k_eqR (by omega)).mp q) (by omega)), b1_p (rfl : f_X0_errorNow N (iI (E : Int)) = some (iI (E : Int))), b2_p (q_move8 N hN hk (by omega) hE ha hb (near_t c0) (fun i hi => ⟨(hkl i hi).1, (hkl i hi).2.1⟩))]
    · unfold f_X9_step; rw [b1_p (q_small99 N r0), c0, bI_t, if_neg (by decide), if_neg (fun q => absurd ((k_eqR (by omega)).mp q) (by omega)), b2_p (q_steps9 N hN hk (by omega) hE ha hb (near_t c0) (fun i hi => ⟨(hkl i hi).1, (hkl i hi).2.2⟩))]
/-! brake -/
def brF (LW : Nat → Nat) (U : Int) (E k : Nat) (lw hg : Int) : Nat → Nat → Int → Int → Int
  | 0, _, _, _ => -4
  | d + 1, j, a, b => if (mvF LW a b U E k 0 (sm (LW 0) a U) (sm (LW 0) a U)).1 < lw ∨ hg < (mvF LW a b U E k 0 (sm (LW 0) a U) (sm (LW 0) a U)).2 then (j : Int) else brF LW U E k lw hg d (j + 1) (mvF LW a b U E k 0 (sm (LW 0) a U) (sm (LW 0) a U)).1 (mvF LW a b U E k 0 (sm (LW 0) a U) (sm (LW 0) a U)).2
theorem lp_brake8 (N : Nat) (hN : 5000 ≤ N) {k E nn : Nat} {LW : Nat → Nat} {kla : Nat → Int32} {U lw hg : Int} (hk : k ≤ 4) (hk0 : 0 < k) (hE : E ≤ 20) (hU : -99 ≤ U ∧ U ≤ 99) (hkl : ∀ i, i < k → LW i < 289 ∧ kla i = iI ((LW i : Nat) : Int)) (hnn : nn ≤ 40) (hlw : -9999 ≤ lw ∧ lw ≤ 9999) (hhg : -9999 ≤ hg ∧ hg ≤ 9999) :
    ∀ (d j fuel : Nat) (a b : Int), j + d = nn + 1 → d < fuel → (-9999 ≤ a ∧ a ≤ 9999) → (-9999 ≤ b ∧ b ≤ 9999) → ∃ g1 g2 : Int32, f_X8_brake_86 N (iI U) (iI nn) (iI lw) (iI hg) (iI k) kla (iI E) fuel (iI j) (iI a) (iI b) = some (iI (brF LW U E k lw hg d j a b), g1, g2) := by
  intro d
  induction d with
  | zero =>
    intro j fuel a b h1 h2 ha hb
    obtain ⟨k_, rfl⟩ := su_fuel h2
    refine ⟨iI a, iI b, ?_⟩
    show b_X8_brake_86 N (iI U) (iI nn) (iI lw) (iI hg) (iI k) kla (iI E) _ (iI (j : Int)) (iI a) (iI b) = _
    unfold b_X8_brake_86 brF
    rw [if_pos ((iI_lt (by omega)).mpr (by omega))]; rfl
  | succ d ih =>
    intro j fuel a b h1 h2 ha hb
    obtain ⟨k_, rfl⟩ := su_fuel (Nat.lt_of_le_of_lt (Nat.zero_le _) h2)
    have hin := mvF_in LW a b U E k 0 (sm (LW 0) a U) (sm (LW 0) a U)
    have hmv := q_move8 N hN hk hk0 hE ha hb hU hkl
    unfold brF
    generalize mvF LW a b U E k 0 (sm (LW 0) a U) (sm (LW 0) a U) = v at *
    obtain ⟨v1, v2⟩ := v
    dsimp only at *
    obtain ⟨g1, g2, i1⟩ := ih (j + 1) k_ v1 v2 (by omega) (by omega) hin.1 hin.2
    have e0 : f_X8_brake_86 N (iI U) (iI nn) (iI lw) (iI hg) (iI k) kla (iI E) (k_ + 1) (iI j) (iI a) (iI b) = (if iI v1 < iI lw then some (iI (j : Int), iI v1, iI v2) else (if iI v2 ≤ iI hg then f_X8_brake_86 N (iI U) (iI nn) (iI lw) (iI hg) (iI k) kla (iI E) k_ (iI ((j + 1 : Nat) : Int)) (iI v1) (iI v2) else some (iI (j : Int), iI v1, iI v2))) := by
      show b_X8_brake_86 N (iI U) (iI nn) (iI lw) (iI hg) (iI k) kla (iI E) (f_X8_brake_86 N (iI U) (iI nn) (iI lw) (iI hg) (iI k) kla (iI E) k_) (iI (j : Int)) (iI a) (iI b) = _
      unfold b_X8_brake_86
      rw [if_neg (fun q => absurd ((iI_lt (by omega)).mp q) (by omega)), b1_p (rfl : f_X0_errorNow N (iI (E : Int)) = some (iI (E : Int))), b2_p hmv, b1_p (rfl : f_X1_least N (iI v1) = some (iI v1)), b1_p (rfl : f_X1_greatest N (iI v2) = some (iI v2)), iI_succ]
    rw [e0]
    by_cases c1 : v1 < lw
    · rw [if_pos ((iI_lt (by omega)).mpr c1), if_pos (Or.inl c1)]
      exact ⟨_, _, rfl⟩
    · rw [if_neg (fun q => c1 ((iI_lt (by omega)).mp q))]
      by_cases c2 : v2 ≤ hg
      · rw [if_pos ((iI_le (by omega)).mpr c2), if_neg (by omega)]
        exact ⟨g1, g2, i1⟩
      · rw [if_neg (fun q => c2 ((iI_le (by omega)).mp q)), if_pos (by omega)]
        exact ⟨_, _, rfl⟩
theorem lp_brake9 (N : Nat) (hN : 5000 ≤ N) {k E nn : Nat} {LW : Nat → Nat} {dkl : Nat → Int32} {U lw hg : Int} (hk : k ≤ 4) (hk0 : 0 < k) (hE : E ≤ 20) (hU : -99 ≤ U ∧ U ≤ 99) (hkl : ∀ i, i < k → LW i < 289 ∧ dkl i = iI ((LW i : Nat) : Int)) (hnn : nn ≤ 40) (hlw : -9999 ≤ lw ∧ lw ≤ 9999) (hhg : -9999 ≤ hg ∧ hg ≤ 9999) (wl wh : Int32) :
    ∀ (d j fuel : Nat) (a b : Int), j + d = nn + 1 → d + 1 < fuel → (-9999 ≤ a ∧ a ≤ 9999) → (-9999 ≤ b ∧ b ≤ 9999) → f_X9_brake_71 N (iI U) (iI nn) (iI lw) (iI hg) wl wh (iI E) (iI k) dkl fuel (-4) (iI j) (iI a) (iI b) = some (iI (brF LW U E k lw hg d j a b), wl, wh) := by
  intro d
  induction d with
  | zero =>
    intro j fuel a b h1 h2 ha hb
    obtain ⟨k_, rfl⟩ := su_fuel (Nat.lt_of_le_of_lt (Nat.zero_le _) h2)
    show b_X9_brake_71 N (iI U) (iI nn) (iI lw) (iI hg) wl wh (iI E) (iI k) dkl _ (-4) (iI (j : Int)) (iI a) (iI b) = _
    unfold b_X9_brake_71 brF
    rw [if_pos ((iI_lt (by omega)).mpr (by omega))]; rfl
  | succ d ih =>
    intro j fuel a b h1 h2 ha hb
    obtain ⟨k_, rfl⟩ := su_fuel (Nat.lt_of_le_of_lt (Nat.zero_le _) h2)
    have hin := mvF_in LW a b U E k 0 (sm (LW 0) a U) (sm (LW 0) a U)
    have hmv := q_steps9 N hN hk hk0 hE ha hb hU hkl
    unfold brF
    generalize mvF LW a b U E k 0 (sm (LW 0) a U) (sm (LW 0) a U) = v at *
    obtain ⟨v1, v2⟩ := v
    dsimp only at *
    have i1 := ih (j + 1) k_ v1 v2 (by omega) (by omega) hin.1 hin.2
    have hstop : f_X9_brake_71 N (iI U) (iI nn) (iI lw) (iI hg) wl wh (iI E) (iI k) dkl k_ (iI (j : Int)) (iI ((j + 1 : Nat) : Int)) (iI v1) (iI v2) = some (iI (j : Int), wl, wh) := by
      obtain ⟨k2, rfl⟩ := su_fuel (N := k_) (by omega)
      show b_X9_brake_71 N (iI U) (iI nn) (iI lw) (iI hg) wl wh (iI E) (iI k) dkl _ (iI (j : Int)) _ (iI v1) (iI v2) = _
      unfold b_X9_brake_71
      by_cases c : (nn : Int) < ((j + 1 : Nat) : Int)
      · rw [if_pos ((iI_lt (by omega)).mpr c)]
      · rw [if_neg (fun q => c ((iI_lt (by omega)).mp q)), if_pos ((k_leL (by omega)).mpr (by omega))]
    have e0 : f_X9_brake_71 N (iI U) (iI nn) (iI lw) (iI hg) wl wh (iI E) (iI k) dkl (k_ + 1) (-4) (iI j) (iI a) (iI b) = (if iI v1 < iI lw then some (iI (j : Int), wl, wh) else (if iI v2 ≤ iI hg then some (iI (brF LW U E k lw hg d (j + 1) v1 v2), wl, wh) else some (iI (j : Int), wl, wh))) := by
      show b_X9_brake_71 N (iI U) (iI nn) (iI lw) (iI hg) wl wh (iI E) (iI k) dkl (f_X9_brake_71 N (iI U) (iI nn) (iI lw) (iI hg) wl wh (iI E) (iI k) dkl k_) (-4) (iI (j : Int)) (iI a) (iI b) = _
      unfold b_X9_brake_71
      rw [if_neg (fun q => absurd ((iI_lt (by omega)).mp q) (by omega)), if_neg (by decide), b2_p hmv, iI_succ, hstop, i1]
    rw [e0]
    by_cases c1 : v1 < lw
    · rw [if_pos ((iI_lt (by omega)).mpr c1), if_pos (Or.inl c1)]
    · rw [if_neg (fun q => c1 ((iI_lt (by omega)).mp q))]
      by_cases c2 : v2 ≤ hg
      · rw [if_pos ((iI_le (by omega)).mpr c2), if_neg (by omega)]
      · rw [if_neg (fun q => c2 ((iI_le (by omega)).mp q)), if_pos (by omega)]
theorem P_brake : PS_brake InvA := by
  intro N hN bsz bgp ber bxs bus bys bme pgc prc pgr pla tle tga trr tat tfa tby tnu rlc rla rmo ksz kmb kwa kra kla lo hi glo ghi sla ssz sit mrm mer mtd mat mwr mkn mmb mwa mra mbl mbh dxs dus dys dgp dtp dme dle dlt dkl dln dsz dit dmv hI p0 p1 p2 p3
  have hI' := hI
  obtain ⟨n, E, RX, RU, RY, G, hB, hP, hT, hKK, hOO, hS⟩ := hI'
  have hO' := hOO
  obtain ⟨a, b, rfl, rfl, rfl, rfl, ha, hb⟩ := hO'
  have hK' := hKK
  obtain ⟨k, LW, mb, hk, rfl, rfl, hkl, hm1, hm2, hm3, hm4, hm5⟩ := hK'
  have hB' := hB
  obtain ⟨⟨hn, hE, -, -, rfl, rfl, -⟩, -, -⟩ := hB'
  obtain ⟨z0, r0, rfl⟩ := iI_of p0
  obtain ⟨z1, r1, rfl⟩ := iI_of p1
  obtain ⟨z2, r2, rfl⟩ := iI_of p2
  obtain ⟨z3, r3, rfl⟩ := iI_of p3
  have e9 : f_X9_in N (iI z1).toInt64 1 40 = some (bI (decide (1 ≤ z1) && decide (z1 ≤ 40))) := q_in N (j_of r1) rfl rfl
  cases c0 : near z0 with
  | false =>
    refine ⟨-1, glo, ghi, iI a, iI b, ?_, ?_, hI⟩
    · unfold f_X8_brake; rw [b1_p (q_near99 N r0), c0, bI_f, if_pos rfl]
    · unfold f_X9_brake; rw [b1_p (q_small99 N r0), c0, bI_f, if_pos rfl]
  | true =>
  by_cases c1 : 1 ≤ z1 ∧ z1 ≤ 40
  · rw [two_t c1, bI_t] at e9
    obtain ⟨nn, rfl⟩ := Int.eq_ofNat_of_zero_le (show 0 ≤ z1 by omega)
    have hl1 : ¬ iI (nn : Int) < 1 := fun q => absurd ((k_ltR (by omega)).mp q) (by omega)
    have hl2 : ¬ (40 : Int32) < iI (nn : Int) := fun q => absurd ((k_ltL (by omega)).mp q) (by omega)
    cases c2 : nearB z2 with
    | false =>
      refine ⟨-1, glo, ghi, iI a, iI b, ?_, ?_, hI⟩
      · unfold f_X8_brake; rw [b1_p (q_near99 N r0), c0, bI_t, if_neg (by decide), if_neg hl1, if_neg hl2, b1_p (q_nearB N r2), c2, bI_f, if_pos rfl]
      · unfold f_X9_brake; rw [b1_p (q_small99 N r0), c0, bI_t, if_neg (by decide), b1_p e9, if_neg (by decide), b1_p (q_stateB N r2), c2, bI_f, if_pos rfl]
    | true =>
    cases c3 : nearB z3 with
    | false =>
      refine ⟨-1, glo, ghi, iI a, iI b, ?_, ?_, hI⟩
      · unfold f_X8_brake; rw [b1_p (q_near99 N r0), c0, bI_t, if_neg (by decide), if_neg hl1, if_neg hl2, b1_p (q_nearB N r2), c2, bI_t, if_neg (by decide), b1_p (q_nearB N r3), c3, bI_f, if_pos rfl]
      · unfold f_X9_brake; rw [b1_p (q_small99 N r0), c0, bI_t, if_neg (by decide), b1_p e9, if_neg (by decide), b1_p (q_stateB N r2), c2, bI_t, if_neg (by decide), b1_p (q_stateB N r3), c3, bI_f, if_pos rfl]
    | true =>
    by_cases c4 : z2 ≤ z3
    · by_cases ck : k = 0
      · refine ⟨-2, glo, ghi, iI a, iI b, ?_, ?_, hI⟩
        · unfold f_X8_brake; rw [b1_p (q_near99 N r0), c0, bI_t, if_neg (by decide), if_neg hl1, if_neg hl2, b1_p (q_nearB N r2), c2, bI_t, if_neg (by decide), b1_p (q_nearB N r3), c3, bI_t, if_neg (by decide), if_pos ((iI_le (by omega)).mpr c4), b1_p (rfl : f_X2_size N (iI (k : Int)) = some (iI (k : Int))), if_pos ((k_eqR (by omega)).mpr (by omega))]
        · unfold f_X9_brake; rw [b1_p (q_small99 N r0), c0, bI_t, if_neg (by decide), b1_p e9, if_neg (by decide), b1_p (q_stateB N r2), c2, bI_t, if_neg (by decide), b1_p (q_stateB N r3), c3, bI_t, if_neg (by decide), if_pos ((iI_le (by omega)).mpr c4), if_pos ((k_eqR (by omega)).mpr (by omega))]
      · obtain ⟨g1, g2, q8⟩ := lp_brake8 N hN (nn := nn) hk (by omega) hE (near_t c0) (fun i hi => ⟨(hkl i hi).1, (hkl i hi).2.1⟩) (by omega) (nearB_t c2) (nearB_t c3) nn 1 N a b (by omega) (by omega) ha hb
        have q9 := lp_brake9 N hN (nn := nn) hk (by omega) hE (near_t c0) (fun i hi => ⟨(hkl i hi).1, (hkl i hi).2.2⟩) (by omega) (nearB_t c2) (nearB_t c3) (iI a) (iI b) nn 1 N a b (by omega) (by omega) ha hb
        refine ⟨iI (brF LW z0 E k z2 z3 nn 1 a b), g1, g2, iI a, iI b, ?_, ?_, n, E, RX, RU, RY, G, hB, hP, hT, hKK, hOO, hS⟩
        · unfold f_X8_brake; rw [b1_p (q_near99 N r0), c0, bI_t, if_neg (by decide), if_neg hl1, if_neg hl2, b1_p (q_nearB N r2), c2, bI_t, if_neg (by decide), b1_p (q_nearB N r3), c3, bI_t, if_neg (by decide), if_pos ((iI_le (by omega)).mpr c4), b1_p (rfl : f_X2_size N (iI (k : Int)) = some (iI (k : Int))), if_neg (fun q => absurd ((k_eqR (by omega)).mp q) (by omega))]
          exact q8
        · unfold f_X9_brake; rw [b1_p (q_small99 N r0), c0, bI_t, if_neg (by decide), b1_p e9, if_neg (by decide), b1_p (q_stateB N r2), c2, bI_t, if_neg (by decide), b1_p (q_stateB N r3), c3, bI_t, if_neg (by decide), if_pos ((iI_le (by omega)).mpr c4), if_neg (fun q => absurd ((k_eqR (by omega)).mp q) (by omega))]
          exact q9
    · refine ⟨-1, glo, ghi, iI a, iI b, ?_, ?_, hI⟩
      · unfold f_X8_brake; rw [b1_p (q_near99 N r0), c0, bI_t, if_neg (by decide), if_neg hl1, if_neg hl2, b1_p (q_nearB N r2), c2, bI_t, if_neg (by decide), b1_p (q_nearB N r3), c3, bI_t, if_neg (by decide), if_neg (fun q => c4 ((iI_le (by omega)).mp q))]
      · unfold f_X9_brake; rw [b1_p (q_small99 N r0), c0, bI_t, if_neg (by decide), b1_p e9, if_neg (by decide), b1_p (q_stateB N r2), c2, bI_t, if_neg (by decide), b1_p (q_stateB N r3), c3, bI_t, if_neg (by decide), if_neg (fun q => c4 ((iI_le (by omega)).mp q))]
  · rw [two_f c1, bI_f] at e9
    refine ⟨-1, glo, ghi, iI a, iI b, ?_, ?_, hI⟩
    · unfold f_X8_brake; rw [b1_p (q_near99 N r0), c0, bI_t, if_neg (by decide)]
      by_cases d : z1 < 1
      · rw [if_pos ((k_ltR (by omega)).mpr (by omega))]
      · rw [if_neg (fun q => absurd ((k_ltR (by omega)).mp q) (by omega)), if_pos ((k_ltL (by omega)).mpr (by omega))]
    · unfold f_X9_brake; rw [b1_p (q_small99 N r0), c0, bI_t, if_neg (by decide), b1_p e9, if_pos rfl]
