theorem q_bitCount (N : Nat) {h : Nat} (hh : h < 4096) : f_J6_bitCount_0f7a4 N (iI h) = some (iI ((ctb (fun r => h.testBit r) 12 : Nat) : Int)) := by
  rw [iI_nat, iI_nat]
  exact bc_all h hh
theorem ctb_bts (p : Nat → Bool) {n : Nat} (hn : n ≤ 12) : ctb (fun r => (bts p n).testBit r) 12 = ctb p n := by
  have e : (12 : Nat) = n + (12 - n) := by omega
  rw [e, ctb_more (fun r hr => by show (bts p n).testBit r = false; rw [bts_tb, decide_eq_false (by omega)]; rfl)]
  exact ctb_cong (fun r hr => by show (bts p n).testBit r = p r; rw [bts_tb, decide_eq_true hr]; rfl)
theorem lp_count9 (N : Nat) {n : Nat} {G : Nat → Bool} {dgp : Nat → Int32} (hn : n ≤ 12) (hg : ∀ r, r < n → dgp r = bI (G r)) (w a b c : Int32) :
    ∀ (d r fuel : Nat), r + d = n → d < fuel → f_X9_count_4 N w (iI n) a b c dgp fuel (iI ((ctb G r : Nat) : Int)) (iI r) = (if w = (0 : Int32) then some (iI n) else (if w = (1 : Int32) then some (iI ((ctb G n : Nat) : Int)) else (if w = (2 : Int32) then some a else (if w = (3 : Int32) then some b else (if w = (4 : Int32) then some c else some ((-1 : Int32))))))) := by
  intro d
  induction d with
  | zero =>
    intro r fuel h1 h2
    obtain ⟨k_, rfl⟩ := su_fuel h2
    have e : r = n := by omega
    subst e
    show b_X9_count_4 N w (iI r) a b c dgp _ (iI ((ctb G r : Nat) : Int)) (iI (r : Int)) = _
    unfold b_X9_count_4
    rw [if_pos ((iI_le (by omega)).mpr (Int.le_refl _))]
  | succ d ih =>
    intro r fuel h1 h2
    obtain ⟨k_, rfl⟩ := su_fuel (Nat.lt_of_le_of_lt (Nat.zero_le _) h2)
    have i1 := ih (r + 1) k_ (by omega) (by omega)
    have hu : ctb G (r + 1) = ctb G r + (if G r then 1 else 0) := rfl
    show b_X9_count_4 N w (iI n) a b c dgp (f_X9_count_4 N w (iI n) a b c dgp k_) (iI ((ctb G r : Nat) : Int)) (iI r) = _
    unfold b_X9_count_4
    rw [if_neg (fun q => absurd ((iI_le (by omega)).mp q) (by omega)), gi_I (by omega) (by omega) (by omega), iI_clampN (by omega), hg r (by omega), ifb, iI_succ]
    cases hb : G r with
    | true =>
      simp only [cond_true]
      rw [iI_succ]
      rw [hu, hb] at i1
      exact i1
    | false =>
      simp only [cond_false]
      rw [k_addR, iI_succ]
      rw [hu, hb] at i1
      have e : (((ctb G r : Nat) : Int) + ((0 : Nat) : Int)) = ((ctb G r + (if false = true then 1 else 0) : Nat) : Int) := by simp
      rw [e]; exact i1
theorem P_count : PS_count InvA := by
  intro N hN bsz bgp ber bxs bus bys bme pgc prc pgr pla tle tga trr tat tfa tby tnu rlc rla rmo ksz kmb kwa kra kla lo hi glo ghi sla ssz sit mrm mer mtd mat mwr mkn mmb mwa mra mbl mbh dxs dus dys dgp dtp dme dle dlt dkl dln dsz dit dmv hI p0
  have hI' := hI
  obtain ⟨n, E, RX, RU, RY, G, ⟨⟨hn, hE, rfl, rfl, rfl, rfl, rfl⟩, hr, hm⟩, hP, hT, ⟨k, LW, mb, hk, rfl, rfl, hkl, hm1, hm2, hm3, rfl, rfl⟩, hR⟩ := hI'
  have e9 := lp_count9 N hn (fun r h => (hr r h).2.1.2.2.2) p0 (iI k) kwa kra n 0 N (by omega) (by omega)
  have eg : f_X0_gapCount N (iI ((bts G n : Nat) : Int)) = some (iI ((ctb G n : Nat) : Int)) := by
    unfold f_X0_gapCount
    rw [b1_p (q_bitCount N (bts_small G hn)), ctb_bts G hn]
  have e8 : f_X8_count N p0 (iI k) kwa kra (iI n) (iI ((bts G n : Nat) : Int)) = (if p0 = (0 : Int32) then some (iI n) else (if p0 = (1 : Int32) then some (iI ((ctb G n : Nat) : Int)) else (if p0 = (2 : Int32) then some (iI k) else (if p0 = (3 : Int32) then some kwa else (if p0 = (4 : Int32) then some kra else some ((-1 : Int32))))))) := by
    unfold f_X8_count
    rw [b1_p eg]
    rfl
  have e9' : f_X9_count N p0 (iI n) (iI k) kwa kra dgp = _ := e9
  by_cases c0 : p0 = 0
  · exact ⟨_, by rw [e8, if_pos c0], by rw [e9', if_pos c0], hI⟩
  by_cases c1 : p0 = 1
  · exact ⟨_, by rw [e8, if_neg c0, if_pos c1], by rw [e9', if_neg c0, if_pos c1], hI⟩
  by_cases c2 : p0 = 2
  · exact ⟨_, by rw [e8, if_neg c0, if_neg c1, if_pos c2], by rw [e9', if_neg c0, if_neg c1, if_pos c2], hI⟩
  by_cases c3 : p0 = 3
  · exact ⟨_, by rw [e8, if_neg c0, if_neg c1, if_neg c2, if_pos c3], by rw [e9', if_neg c0, if_neg c1, if_neg c2, if_pos c3], hI⟩
  by_cases c4 : p0 = 4
  · exact ⟨_, by rw [e8, if_neg c0, if_neg c1, if_neg c2, if_neg c3, if_pos c4], by rw [e9', if_neg c0, if_neg c1, if_neg c2, if_neg c3, if_pos c4], hI⟩
  · exact ⟨_, by rw [e8, if_neg c0, if_neg c1, if_neg c2, if_neg c3, if_neg c4], by rw [e9', if_neg c0, if_neg c1, if_neg c2, if_neg c3, if_neg c4], hI⟩
/-! boxes -/
def nearB (z : Int) : Bool := decide (-9999 ≤ z) && decide (z ≤ 9999)
theorem nearB_t {z : Int} (h : nearB z = true) : -9999 ≤ z ∧ z ≤ 9999 := by
  unfold nearB at h
  rw [Bool.and_eq_true] at h
  exact ⟨of_decide_eq_true h.1, of_decide_eq_true h.2⟩
theorem q_nearB (N : Nat) {z : Int} (hz : -2147483648 ≤ z ∧ z < 2147483648) : f_X8_isNear N (iI z) (9999 : Int32) = some (bI (nearB z)) := q_near N hz (f_ := 9999) (by omega)
theorem q_stateB (N : Nat) {z : Int} (hz : -2147483648 ≤ z ∧ z < 2147483648) : f_X9_isState N (iI z) = some (bI (nearB z)) := q_isState9 N hz
theorem P_box : PS_box InvA := by
  intro N hN bsz bgp ber bxs bus bys bme pgc prc pgr pla tle tga trr tat tfa tby tnu rlc rla rmo ksz kmb kwa kra kla lo hi glo ghi sla ssz sit mrm mer mtd mat mwr mkn mmb mwa mra mbl mbh dxs dus dys dgp dtp dme dle dlt dkl dln dsz dit dmv hI p0 p1
  have hI' := hI
  obtain ⟨n, E, RX, RU, RY, G, hB, hP, hT, hK, hO, hS⟩ := hI'
  obtain ⟨z0, r0, rfl⟩ := iI_of p0
  obtain ⟨z1, r1, rfl⟩ := iI_of p1
  cases c0 : nearB z0 with
  | false =>
    refine ⟨-1, lo, hi, mbl, mbh, ?_, ?_, hI⟩
    · unfold f_X8_box; rw [b1_p (q_nearB N r0), c0, bI_f, if_pos rfl]
    · unfold f_X9_box; rw [b1_p (q_stateB N r0), c0, bI_f, if_pos rfl]
  | true =>
  cases c1 : nearB z1 with
  | false =>
    refine ⟨-1, lo, hi, mbl, mbh, ?_, ?_, hI⟩
    · unfold f_X8_box; rw [b1_p (q_nearB N r0), c0, bI_t, if_neg (by decide), b1_p (q_nearB N r1), c1, bI_f, if_pos rfl]
    · unfold f_X9_box; rw [b1_p (q_stateB N r0), c0, bI_t, if_neg (by decide), b1_p (q_stateB N r1), c1, bI_f, if_pos rfl]
  | true =>
    by_cases c2 : z0 ≤ z1
    · refine ⟨1, iI z0, iI z1, iI z0, iI z1, ?_, ?_, n, E, RX, RU, RY, G, hB, hP, hT, hK, ⟨z0, z1, rfl, rfl, rfl, rfl, nearB_t c0, nearB_t c1⟩, hS⟩
      · unfold f_X8_box; rw [b1_p (q_nearB N r0), c0, bI_t, if_neg (by decide), b1_p (q_nearB N r1), c1, bI_t, if_neg (by decide), if_pos ((iI_le (by omega)).mpr c2)]; rfl
      · unfold f_X9_box; rw [b1_p (q_stateB N r0), c0, bI_t, if_neg (by decide), b1_p (q_stateB N r1), c1, bI_t, if_neg (by decide), if_pos ((iI_le (by omega)).mpr c2)]
    · refine ⟨-1, lo, hi, mbl, mbh, ?_, ?_, hI⟩
      · unfold f_X8_box; rw [b1_p (q_nearB N r0), c0, bI_t, if_neg (by decide), b1_p (q_nearB N r1), c1, bI_t, if_neg (by decide), if_neg (fun q => c2 ((iI_le (by omega)).mp q))]
      · unfold f_X9_box; rw [b1_p (q_stateB N r0), c0, bI_t, if_neg (by decide), b1_p (q_stateB N r1), c1, bI_t, if_neg (by decide), if_neg (fun q => c2 ((iI_le (by omega)).mp q))]
theorem P_holds : PS_holds InvA := by
  intro N hN bsz bgp ber bxs bus bys bme pgc prc pgr pla tle tga trr tat tfa tby tnu rlc rla rmo ksz kmb kwa kra kla lo hi glo ghi sla ssz sit mrm mer mtd mat mwr mkn mmb mwa mra mbl mbh dxs dus dys dgp dtp dme dle dlt dkl dln dsz dit dmv hI p0
  have hI' := hI
  obtain ⟨n, E, RX, RU, RY, G, hB, hP, hT, hK, ⟨a, b, rfl, rfl, rfl, rfl, ha, hb⟩, hS⟩ := hI'
  obtain ⟨z0, r0, rfl⟩ := iI_of p0
  by_cases c0 : z0 = 0
  · subst c0
    exact ⟨iI a, rfl, rfl, hI⟩
  by_cases c1 : z0 = 1
  · subst c1
    exact ⟨iI b, rfl, rfl, hI⟩
  · refine ⟨-1000001, ?_, ?_, hI⟩
    · unfold f_X8_holds
      by_cases d : z0 < 0
      · rw [if_pos ((k_ltR (by omega)).mpr (by omega))]
      · rw [if_neg (fun q => absurd ((k_ltR (by omega)).mp q) (by omega)), if_neg (fun q => absurd ((k_leR (by omega)).mp q) (by omega))]
    · unfold f_X9_holds
      rw [if_neg (fun q => absurd ((k_eqR (by omega)).mp q) (by omega)), if_neg (fun q => absurd ((k_eqR (by omega)).mp q) (by omega))]
/-! a known law -/
theorem lp_know (N : Nat) {k : Nat} {LW : Nat → Nat} {kla dkl : Nat → Int32} {mb : Int32} {law : Nat} (hk : k ≤ 4) (hl : law < 289) (hkl : ∀ i, i < k → LW i < 289 ∧ kla i = iI ((LW i : Nat) : Int) ∧ dkl i = iI ((LW i : Nat) : Int)) :
    ∀ (d i fuel : Nat), i + d = k → d < fuel → ∃ (rv k' m' : Int32) (x' y' : Nat → Int32), f_X2_add_2 N (iI law) (iI k) mb kla fuel (iI i) = some (rv, k', m', x') ∧ f_X9_know_11 N (iI law) fuel (iI i) (iI k) mb dkl = some (rv, k', m', y') ∧
      ((k' = iI k ∧ m' = mb ∧ x' = kla ∧ y' = dkl) ∨ (k < 4 ∧ k' = iI ((k + 1 : Nat) : Int) ∧ m' = iI ((2 ^ (k + 1) - 1 : Nat) : Int) ∧ x' = upd kla k (iI law) ∧ y' = upd dkl k (iI law))) := by
  intro d
  induction d with
  | zero =>
    intro i fuel h1 h2
    obtain ⟨k_, rfl⟩ := su_fuel h2
    have e : i = k := by omega
    subst e
    by_cases c4 : i = 4
    · subst c4
      refine ⟨-3, iI ((4 : Nat) : Int), mb, kla, dkl, ?_, ?_, Or.inl ⟨rfl, rfl, rfl, rfl⟩⟩
      · show b_X2_add_2 N (iI law) _ mb kla _ (iI ((4 : Nat) : Int)) = _
        unfold b_X2_add_2 f_X2_add_34
        rw [if_pos ((iI_le (by omega)).mpr (Int.le_refl _)), if_neg (fun q => absurd ((k_ltR (by omega)).mp q) (by omega)), if_neg (fun q => absurd ((k_ltR (by omega)).mp q) (by omega))]
      · show b_X9_know_11 N (iI law) _ (iI ((4 : Nat) : Int)) _ mb dkl = _
        unfold b_X9_know_11
        rw [if_pos ((iI_le (by omega)).mpr (Int.le_refl _)), if_pos ((k_eqR (by omega)).mpr rfl)]
    · have hp := p2_12 (n := i + 1) (by omega)
      have hp1 := p2_pos (i + 1)
      have e2 : (((2 ^ (i + 1) : Nat) : Int) - 1) = ((2 ^ (i + 1) - 1 : Nat) : Int) := by omega
      refine ⟨iI i, iI ((i + 1 : Nat) : Int), iI ((2 ^ (i + 1) - 1 : Nat) : Int), upd kla i (iI law), upd dkl i (iI law), ?_, ?_, Or.inr ⟨by omega, rfl, rfl, rfl, rfl⟩⟩
      · show b_X2_add_2 N (iI law) _ mb kla _ (iI (i : Int)) = _
        unfold b_X2_add_2 f_X2_add_34 f_X2_all
        rw [if_pos ((iI_le (by omega)).mpr (Int.le_refl _)), if_neg (fun q => absurd ((k_ltR (by omega)).mp q) (by omega)), if_pos ((k_ltR (by omega)).mpr (by omega)), gi_I (by omega) (by omega) (by omega), iI_succ, q_shl1 (by omega), iI_clampN (by omega), l1_I, iI_sub, e2]
        rfl
      · show b_X9_know_11 N (iI law) _ (iI (i : Int)) _ mb dkl = _
        unfold b_X9_know_11 nm
        rw [if_pos ((iI_le (by omega)).mpr (Int.le_refl _)), if_neg (fun q => absurd ((k_eqR (by omega)).mp q) (by omega)), gi_I (by omega) (by omega) (by omega), iI_succ, q_shl1 (by omega), iI_clampN (by omega), l1_I, iI_sub, iI_sub, e2]
        have e3 : (((i + 1 : Nat) : Int) - 1) = (i : Int) := by omega
        rw [e3]
  | succ d ih =>
    intro i fuel h1 h2
    obtain ⟨k_, rfl⟩ := su_fuel (Nat.lt_of_le_of_lt (Nat.zero_le _) h2)
    obtain ⟨g1, g2, g3⟩ := hkl i (by omega)
    obtain ⟨rv, k', m', x', y', i1, i2, i3⟩ := ih (i + 1) k_ (by omega) (by omega)
    by_cases c : LW i = law
    · refine ⟨-2, iI k, mb, kla, dkl, ?_, ?_, Or.inl ⟨rfl, rfl, rfl, rfl⟩⟩
      · show b_X2_add_2 N (iI law) _ mb kla _ (iI (i : Int)) = _
        unfold b_X2_add_2
        rw [if_neg (fun q => absurd ((iI_le (by omega)).mp q) (by omega)), if_neg (fun q => absurd ((k_leL (by omega)).mp q) (by omega)), gi_I (by omega) (by omega) (by omega), iI_clampN (by omega), g2, c, if_pos rfl]
      · show b_X9_know_11 N (iI law) _ (iI (i : Int)) _ mb dkl = _
        unfold b_X9_know_11
        rw [if_neg (fun q => absurd ((iI_le (by omega)).mp q) (by omega)), gi_I (by omega) (by omega) (by omega), iI_clampN (by omega), g3, c, if_pos rfl]
    · refine ⟨rv, k', m', x', y', ?_, ?_, i3⟩
      · show b_X2_add_2 N (iI law) _ mb kla (f_X2_add_2 N (iI law) (iI k) mb kla k_) (iI (i : Int)) = _
        unfold b_X2_add_2
        rw [if_neg (fun q => absurd ((iI_le (by omega)).mp q) (by omega)), if_neg (fun q => absurd ((k_leL (by omega)).mp q) (by omega)), gi_I (by omega) (by omega) (by omega), iI_clampN (by omega), g2, if_neg (fun q => c (by rw [iI_eq (by omega)] at q; omega)), iI_succ, i1]
      · show b_X9_know_11 N (iI law) (f_X9_know_11 N (iI law) k_) (iI (i : Int)) _ mb dkl = _
        unfold b_X9_know_11
        rw [if_neg (fun q => absurd ((iI_le (by omega)).mp q) (by omega)), gi_I (by omega) (by omega) (by omega), iI_clampN (by omega), g3, if_neg (fun q => c (by rw [iI_eq (by omega)] at q; omega)), iI_succ, i2]
theorem P_know : PS_know InvA := by
  intro N hN bsz bgp ber bxs bus bys bme pgc prc pgr pla tle tga trr tat tfa tby tnu rlc rla rmo ksz kmb kwa kra kla lo hi glo ghi sla ssz sit mrm mer mtd mat mwr mkn mmb mwa mra mbl mbh dxs dus dys dgp dtp dme dle dlt dkl dln dsz dit dmv hI p0
  have hI' := hI
  obtain ⟨n, E, RX, RU, RY, G, hB, hP, hT, ⟨k, LW, mb, hk, rfl, rfl, hkl, rfl, rfl, hm3, rfl, rfl⟩, hO, hS⟩ := hI'
  obtain ⟨z0, r0, rfl⟩ := iI_of p0
  by_cases c : 0 ≤ z0 ∧ z0 ≤ 288
  · obtain ⟨law, rfl⟩ := Int.eq_ofNat_of_zero_le c.1
    have hl : law < 289 := by omega
    have ea := two_t c
    obtain ⟨rv, k', m', x', y', i1, i2, i3⟩ := lp_know N (mb := iI mb) hk hl hkl k 0 N (by omega) (by omega)
    refine ⟨rv, k', m', x', k', m', y', ?_, ?_, n, E, RX, RU, RY, G, hB, hP, hT, ?_, hO, hS⟩
    · unfold f_X8_know
      rw [b1_p (q_is3 N r0), ea, bI_t, if_neg (by decide)]
      exact b4_p i1 _
    · unfold f_X9_know
      rw [b1_p (q_isLaw9 N r0), ea, bI_t, if_neg (by decide)]
      exact i2
    · rcases i3 with ⟨rfl, rfl, rfl, rfl⟩ | ⟨hk4, rfl, rfl, rfl, rfl⟩
      · exact ⟨k, LW, mb, hk, rfl, rfl, hkl, rfl, rfl, hm3, rfl, rfl⟩
      · refine ⟨k + 1, setF LW k law, 2 ^ (k + 1) - 1, by omega, rfl, rfl, fun i hi => ?_, rfl, rfl, by have := p2_pos (k + 1); omega, rfl, rfl⟩
        by_cases e : i = k
        · subst e
          rw [upd_s, upd_s, setF_s]
          exact ⟨hl, rfl, rfl⟩
        · rw [upd_n _ e, upd_n _ e, setF_n _ e]
          exact hkl i (by omega)
  · have ea := two_f c
    refine ⟨-1, iI k, iI mb, kla, iI k, iI mb, dkl, ?_, ?_, hI⟩
    · unfold f_X8_know
      rw [b1_p (q_is3 N r0), ea, bI_f, if_pos rfl]
    · unfold f_X9_know
      rw [b1_p (q_isLaw9 N r0), ea, bI_f, if_pos rfl]
