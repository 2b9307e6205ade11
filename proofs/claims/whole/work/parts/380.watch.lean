theorem lp_see (N : Nat) {k E : Nat} {LW : Nat → Nat} {kla : Nat → Int32} {X U Y : Int} (hk : k ≤ 4) (hE : E ≤ 20) (hX : -99 ≤ X ∧ X ≤ 99) (hU : -99 ≤ U ∧ U ≤ 99) (hY : -99 ≤ Y ∧ Y ≤ 99) (hkl : ∀ i, i < k → LW i < 289 ∧ kla i = iI ((LW i : Nat) : Int)) (mb wa ra : Int32) :
    ∀ (d i fuel : Nat), i + d = k → d < fuel → f_X2_see_6 N (iI X) (iI U) (iI Y) (iI E) (iI k) mb wa ra kla fuel (iI ((bts (fun j => fit (LW j) X U Y E) i : Nat) : Int)) (iI i) = f_X2_see_57 N (iI ((bts (fun j => fit (LW j) X U Y E) k : Nat) : Int)) (iI k) mb wa ra := by
  intro d
  induction d with
  | zero =>
    intro i fuel h1 h2
    obtain ⟨k_, rfl⟩ := su_fuel h2
    have e : i = k := by omega
    subst e
    show b_X2_see_6 N (iI X) (iI U) (iI Y) (iI E) (iI i) mb wa ra kla _ _ (iI (i : Int)) = _
    unfold b_X2_see_6
    rw [if_pos ((iI_le (by omega)).mpr (Int.le_refl _))]
  | succ d ih =>
    intro i fuel h1 h2
    obtain ⟨k_, rfl⟩ := su_fuel (Nat.lt_of_le_of_lt (Nat.zero_le _) h2)
    obtain ⟨g1, g2⟩ := hkl i (by omega)
    have i1 := ih (i + 1) k_ (by omega) (by omega)
    have hu : bts (fun j => fit (LW j) X U Y E) (i + 1) = bts (fun j => fit (LW j) X U Y E) i + (if fit (LW i) X U Y E then 2 ^ i else 0) := rfl
    show b_X2_see_6 N (iI X) (iI U) (iI Y) (iI E) (iI k) mb wa ra kla (f_X2_see_6 N (iI X) (iI U) (iI Y) (iI E) (iI k) mb wa ra kla k_) _ (iI (i : Int)) = _
    unfold b_X2_see_6
    rw [if_neg (fun q => absurd ((iI_le (by omega)).mp q) (by omega)), if_neg (fun q => absurd ((k_leL (by omega)).mp q) (by omega)), gi_I (by omega) (by omega) (by omega), iI_clampN (by omega), g2, b1_p (q_sum3 N g1 X U), b1_p (q_met3 N g1 hX hU (by omega) hE), ifb, iI_succ, q_shl1 (by omega), iI_or, bts_or]
    cases hb : fit (LW i) X U Y E with
    | true => simp only [cond_true]; rw [hu, hb] at i1; exact i1
    | false => simp only [cond_false]; rw [hu, hb] at i1; exact i1
theorem i32_or0 (x : Int32) : x ||| 0 = x := by
  apply Int32.toBitVec_inj.1
  show x.toBitVec ||| 0#32 = x.toBitVec
  simp
theorem lp_watch9 (N : Nat) {k E : Nat} {LW : Nat → Nat} {dkl : Nat → Int32} {X U Y : Int} (hk : k ≤ 4) (hE : E ≤ 20) (hX : -99 ≤ X ∧ X ≤ 99) (hU : -99 ≤ U ∧ U ≤ 99) (hY : -99 ≤ Y ∧ Y ≤ 99) (hkl : ∀ i, i < k → LW i < 289 ∧ dkl i = iI ((LW i : Nat) : Int)) (al mb wa ra : Int32) :
    ∀ (d i fuel : Nat), i + d = k → d < fuel → f_X9_watch_49 N (iI X) (iI U) (iI Y) al (iI E) (iI k) mb wa ra dkl fuel (iI ((bts (fun j => fit (LW j) X U Y E) i : Nat) : Int)) (iI i) = (if (mb &&& iI ((bts (fun j => fit (LW j) X U Y E) k : Nat) : Int)) = 0 then f_X9_watch_109 N al (iI ((bts (fun j => fit (LW j) X U Y E) k : Nat) : Int)) 1 mb wa ra else f_X9_watch_109 N al (iI ((bts (fun j => fit (LW j) X U Y E) k : Nat) : Int)) 0 mb wa ra) := by
  intro d
  induction d with
  | zero =>
    intro i fuel h1 h2
    obtain ⟨k_, rfl⟩ := su_fuel h2
    have e : i = k := by omega
    subst e
    show b_X9_watch_49 N (iI X) (iI U) (iI Y) al (iI E) (iI i) mb wa ra dkl _ _ (iI (i : Int)) = _
    unfold b_X9_watch_49
    rw [if_pos ((iI_le (by omega)).mpr (Int.le_refl _))]
  | succ d ih =>
    intro i fuel h1 h2
    obtain ⟨k_, rfl⟩ := su_fuel (Nat.lt_of_le_of_lt (Nat.zero_le _) h2)
    obtain ⟨g1, g2⟩ := hkl i (by omega)
    have i1 := ih (i + 1) k_ (by omega) (by omega)
    have hu : bts (fun j => fit (LW j) X U Y E) (i + 1) = bts (fun j => fit (LW j) X U Y E) i + (if fit (LW i) X U Y E then 2 ^ i else 0) := rfl
    show b_X9_watch_49 N (iI X) (iI U) (iI Y) al (iI E) (iI k) mb wa ra dkl (f_X9_watch_49 N (iI X) (iI U) (iI Y) al (iI E) (iI k) mb wa ra dkl k_) _ (iI (i : Int)) = _
    unfold b_X9_watch_49
    rw [if_neg (fun q => absurd ((iI_le (by omega)).mp q) (by omega)), gi_I (by omega) (by omega) (by omega), iI_clampN (by omega), g2, b1_p (q_fits9 N g1 hX hU (by omega) hE), ifb, iI_succ, q_shl1 (by omega), iI_or, bts_or, i32_or0]
    cases hb : fit (LW i) X U Y E with
    | true => simp only [cond_true]; rw [hu, hb] at i1; exact i1
    | false => simp only [cond_false]; rw [hu, hb] at i1; exact i1
theorem P_watch : PS_watch InvA := by
  intro N hN bsz bgp ber bxs bus bys bme pgc prc pgr pla tle tga trr tat tfa tby tnu rlc rla rmo ksz kmb kwa kra kla lo hi glo ghi sla ssz sit mrm mer mtd mat mwr mkn mmb mwa mra mbl mbh dxs dus dys dgp dtp dme dle dlt dkl dln dsz dit dmv hI p0 p1 p2
  have hI' := hI
  obtain ⟨n, E, RX, RU, RY, G, hB, hP, hT, ⟨k, LW, mb, hk, rfl, rfl, hkl, rfl, rfl, hm3, rfl, rfl⟩, hO, hS⟩ := hI'
  have hB' := hB
  obtain ⟨⟨hn, hE, -, -, rfl, rfl, -⟩, -, -⟩ := hB'
  obtain ⟨z0, r0, rfl⟩ := iI_of p0
  obtain ⟨z1, r1, rfl⟩ := iI_of p1
  obtain ⟨z2, r2, rfl⟩ := iI_of p2
  cases c0 : near z0 with
  | false =>
    refine ⟨-1, iI mb, kwa, kra, iI mb, kwa, kra, ?_, ?_, hI⟩
    · unfold f_X8_watch; rw [b1_p (q_near99 N r0), c0, bI_f, if_pos rfl]
    · unfold f_X9_watch; rw [b1_p (q_small99 N r0), c0, bI_f, if_pos rfl]
  | true =>
  cases c1 : near z1 with
  | false =>
    refine ⟨-1, iI mb, kwa, kra, iI mb, kwa, kra, ?_, ?_, hI⟩
    · unfold f_X8_watch; rw [b1_p (q_near99 N r0), c0, bI_t, if_neg (by decide), b1_p (q_near99 N r1), c1, bI_f, if_pos rfl]
    · unfold f_X9_watch; rw [b1_p (q_small99 N r0), c0, bI_t, if_neg (by decide), b1_p (q_small99 N r1), c1, bI_f, if_pos rfl]
  | true =>
  cases c2 : near z2 with
  | false =>
    refine ⟨-1, iI mb, kwa, kra, iI mb, kwa, kra, ?_, ?_, hI⟩
    · unfold f_X8_watch; rw [b1_p (q_near99 N r0), c0, bI_t, if_neg (by decide), b1_p (q_near99 N r1), c1, bI_t, if_neg (by decide), b1_p (q_near99 N r2), c2, bI_f, if_pos rfl]
    · unfold f_X9_watch; rw [b1_p (q_small99 N r0), c0, bI_t, if_neg (by decide), b1_p (q_small99 N r1), c1, bI_t, if_neg (by decide), b1_p (q_small99 N r2), c2, bI_f, if_pos rfl]
  | true =>
  by_cases ck : k = 0
  · refine ⟨-2, iI mb, kwa, kra, iI mb, kwa, kra, ?_, ?_, hI⟩
    · unfold f_X8_watch; rw [b1_p (q_near99 N r0), c0, bI_t, if_neg (by decide), b1_p (q_near99 N r1), c1, bI_t, if_neg (by decide), b1_p (q_near99 N r2), c2, bI_t, if_neg (by decide), b1_p (rfl : f_X2_size N (iI (k : Int)) = some (iI (k : Int))), if_pos ((k_eqR (by omega)).mpr (by omega))]
    · unfold f_X9_watch; rw [b1_p (q_small99 N r0), c0, bI_t, if_neg (by decide), b1_p (q_small99 N r1), c1, bI_t, if_neg (by decide), b1_p (q_small99 N r2), c2, bI_t, if_neg (by decide), if_pos ((k_eqR (by omega)).mpr (by omega))]
  · have hX := near_t c0
    have hU := near_t c1
    have hY := near_t c2
    have hp := p2_12 (n := k) (by omega)
    have hp1 := p2_pos k
    generalize hM : bts (fun j => fit (LW j) z0 z1 z2 E) k = M
    have hMl : M < 2 ^ k := by rw [← hM]; exact bts_lt _ _
    have eall : (1 : Int32) <<< (iI (k : Int) &&& 31) - 1 = iI ((2 ^ k - 1 : Nat) : Int) := by
      rw [q_shl1 (by omega), l1_I, iI_sub]
      have e2 : (((2 ^ k : Nat) : Int) - 1) = ((2 ^ k - 1 : Nat) : Int) := by omega
      rw [e2]
    have s8 := lp_see N hk hE hX hU hY (fun i hi => ⟨(hkl i hi).1, (hkl i hi).2.1⟩) (iI mb) kwa kra k 0 N (by omega) (by omega)
    have s9 := lp_watch9 N hk hE hX hU hY (fun i hi => ⟨(hkl i hi).1, (hkl i hi).2.2⟩) (iI ((2 ^ k - 1 : Nat) : Int)) (iI mb) kwa kra k 0 N (by omega) (by omega)
    rw [hM] at s8 s9
    have hle : mb &&& M ≤ mb := Nat.and_le_left
    have h8 : ∀ x, f_X2_see_57 N (iI M) (iI k) (iI mb) kwa kra = some x → f_X8_watch N (iI z0) (iI z1) (iI z2) (iI k) (iI mb) kwa kra kla (iI E) = some x := by
      intro x hx
      obtain ⟨x1, x2, x3, x4⟩ := x
      unfold f_X8_watch
      rw [b1_p (q_near99 N r0), c0, bI_t, if_neg (by decide), b1_p (q_near99 N r1), c1, bI_t, if_neg (by decide), b1_p (q_near99 N r2), c2, bI_t, if_neg (by decide), b1_p (rfl : f_X2_size N (iI (k : Int)) = some (iI (k : Int))), if_neg (fun q => absurd ((k_eqR (by omega)).mp q) (by omega)), b1_p (rfl : f_X0_errorNow N (iI (E : Int)) = some (iI (E : Int)))]
      exact b4_p (s8.trans hx) _
    have h9 : f_X9_watch N (iI z0) (iI z1) (iI z2) (iI E) (iI k) (iI mb) kwa kra dkl = (if (iI (mb : Int) &&& iI (M : Int)) = 0 then f_X9_watch_109 N (iI ((2 ^ k - 1 : Nat) : Int)) (iI M) 1 (iI mb) kwa kra else f_X9_watch_109 N (iI ((2 ^ k - 1 : Nat) : Int)) (iI M) 0 (iI mb) kwa kra) := by
      unfold f_X9_watch
      rw [b1_p (q_small99 N r0), c0, bI_t, if_neg (by decide), b1_p (q_small99 N r1), c1, bI_t, if_neg (by decide), b1_p (q_small99 N r2), c2, bI_t, if_neg (by decide), if_neg (fun q => absurd ((k_eqR (by omega)).mp q) (by omega)), eall]
      exact s9
    by_cases cA : mb &&& M = 0
    · by_cases cM : M = 0
      · refine ⟨iI ((16 + (2 ^ k - 1) : Nat) : Int), iI ((2 ^ k - 1 : Nat) : Int), kwa + 1, kra + 1, iI ((2 ^ k - 1 : Nat) : Int), kwa + 1, kra + 1, h8 _ ?_, ?_, n, E, RX, RU, RY, G, hB, hP, hT, ⟨k, LW, 2 ^ k - 1, hk, rfl, rfl, hkl, rfl, rfl, by omega, rfl, rfl⟩, hO, hS⟩
        · unfold f_X2_see_57 f_X2_all
          rw [iI_and, if_pos (by rw [cA]; rfl), if_pos (by rw [cM]; rfl), eall]
          show some ((16 : Int32) + iI ((2 ^ k - 1 : Nat) : Int), _, _, _) = _
          rw [litN 16, iI_add]; rfl
        · rw [h9, iI_and, if_pos (by rw [cA]; rfl)]
          unfold f_X9_watch_109 f_X9_watch_139 f_X9_watch_167
          rw [if_neg (by decide), if_pos (by rw [cM]; rfl), if_neg (by decide), if_neg (by decide), k_addR]
          have e3 : (((2 ^ k - 1 : Nat) : Int) + ((16 : Nat) : Int)) = ((16 + (2 ^ k - 1) : Nat) : Int) := by omega
          rw [e3]
      · refine ⟨iI ((16 + M : Nat) : Int), iI M, kwa + 1, kra + 1, iI M, kwa + 1, kra + 1, h8 _ ?_, ?_, n, E, RX, RU, RY, G, hB, hP, hT, ⟨k, LW, M, hk, rfl, rfl, hkl, rfl, rfl, hMl, rfl, rfl⟩, hO, hS⟩
        · unfold f_X2_see_57
          rw [iI_and, if_pos (by rw [cA]; rfl), if_neg (fun q => absurd ((k_eqR (by omega)).mp q) (by omega)), litN 16, iI_add]; rfl
        · rw [h9, iI_and, if_pos (by rw [cA]; rfl)]
          unfold f_X9_watch_109 f_X9_watch_139 f_X9_watch_167
          rw [if_neg (by decide), if_neg (fun q => absurd ((k_eqR (by omega)).mp q) (by omega)), if_neg (by decide), if_neg (by decide), k_addR]
          have e3 : ((M : Int) + ((16 : Nat) : Int)) = ((16 + M : Nat) : Int) := by omega
          rw [e3]
    · refine ⟨iI ((mb &&& M : Nat) : Int), iI ((mb &&& M : Nat) : Int), kwa + 1, kra, iI ((mb &&& M : Nat) : Int), kwa + 1, kra, h8 _ ?_, ?_, n, E, RX, RU, RY, G, hB, hP, hT, ⟨k, LW, mb &&& M, hk, rfl, rfl, hkl, rfl, rfl, by omega, rfl, rfl⟩, hO, hS⟩
      · unfold f_X2_see_57
        rw [iI_and, if_neg (fun q => absurd ((k_eqR (by omega)).mp q) (by omega))]
      · rw [h9, iI_and, if_neg (fun q => absurd ((k_eqR (by omega)).mp q) (by omega))]
        unfold f_X9_watch_109 f_X9_watch_139 f_X9_watch_167
        rw [if_pos rfl, if_pos rfl, if_pos rfl, iI_and, k_addR, Int32.add_zero]
        have e3 : (((mb &&& M : Nat) : Int) + ((0 : Nat) : Int)) = ((mb &&& M : Nat) : Int) := by omega
        rw [e3]
