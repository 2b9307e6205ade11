/-! rows let go -/
def cn (S : Nat) : Nat := ctb (fun r => S.testBit r) 12
theorem cn_le (S : Nat) : cn S ≤ 12 := ctb_le _ 12
theorem q_bc (N : Nat) {S : Nat} (hS : S < 4096) : f_J6_bitCount_0f7a4 N (iI (S : Int)) = some (iI ((cn S : Nat) : Int)) := q_bitCount N hS
set_option maxRecDepth 100000 in
theorem sz_all : ∀ h, h < 4096 → f_X9_size_4 0 13 0 (nI h) = some (nI (ctb (fun r => h.testBit r) 12)) := by decide +kernel
theorem sz_more (N d : Nat) : ∀ (f : Nat) (a b v : Int32), f_X9_size_4 0 f a b = some v → f_X9_size_4 N (f + d) a b = some v
  | 0, a, b, v, h => by
    have h' : (none : Option Int32) = some v := h
    exact absurd h' (by simp)
  | f + 1, a, b, v, h => by
    have h' : b_X9_size_4 0 (f_X9_size_4 0 f) a b = some v := h
    have e : f + 1 + d = (f + d) + 1 := by omega
    rw [e]
    show b_X9_size_4 N (f_X9_size_4 N (f + d)) a b = some v
    unfold b_X9_size_4 at h' ⊢
    by_cases c : b = 0
    · rw [if_pos c] at h' ⊢; exact h'
    · rw [if_neg c] at h' ⊢
      exact sz_more N d f _ _ _ h'
theorem q_size9 (N : Nat) (hN : 5000 ≤ N) {S : Nat} (hS : S < 4096) : f_X9_size N (iI (S : Int)) = some (iI ((cn S : Nat) : Int)) := by
  unfold f_X9_size
  have e : N = 13 + (N - 13) := by omega
  have h := sz_more N (N - 13) 13 _ _ _ (sz_all S hS)
  rw [← e] at h
  rw [iI_nat, iI_nat]
  exact h
theorem ctb_neg {p q : Nat → Bool} : ∀ {m : Nat}, (∀ r, r < m → q r = !p r) → ctb p m + ctb q m = m
  | 0, _ => rfl
  | m + 1, h => by
    have ih := ctb_neg (p := p) (q := q) (m := m) (fun r hr => h r (by omega))
    have h1 := h m (by omega)
    show (ctb p m + (if p m then 1 else 0)) + (ctb q m + (if q m then 1 else 0)) = m + 1
    rw [h1]
    cases p m with
    | true => show (ctb p m + 1) + (ctb q m + 0) = m + 1; omega
    | false => show (ctb p m + 0) + (ctb q m + 1) = m + 1; omega
theorem neg_tb {S n : Nat} (hS : S < 2 ^ n) (r : Nat) : (2 ^ n - 1 - S).testBit r = (decide (r < n) && !S.testBit r) := by
  have e : 2 ^ n - 1 - S = 2 ^ n - (S + 1) := by omega
  rw [e, Nat.testBit_two_pow_sub_succ hS]
theorem rest_all {S n : Nat} (hS : S < 2 ^ n) : restS (2 ^ n - 1) S = 2 ^ n - 1 - S := by
  apply Nat.eq_of_testBit_eq
  intro r
  rw [restS_tb, neg_tb hS, Nat.testBit_two_pow_sub_one]
theorem cn_neg {S n : Nat} (hn : n ≤ 12) (hS : S < 2 ^ n) : cn S + cn (2 ^ n - 1 - S) = n := by
  have e12 : (12 : Nat) = n + (12 - n) := by omega
  have e1 : cn S = ctb (fun r => S.testBit r) n := by
    unfold cn
    rw [e12]
    exact ctb_more (fun r hr => Nat.testBit_lt_two_pow (Nat.lt_of_lt_of_le hS (Nat.pow_le_pow_right (by decide) hr))) _
  have e2 : cn (2 ^ n - 1 - S) = ctb (fun r => (2 ^ n - 1 - S).testBit r) n := by
    unfold cn
    rw [e12]
    exact ctb_more (fun r hr => by
      show (2 ^ n - 1 - S).testBit r = false
      rw [neg_tb hS, decide_eq_false (by omega)]; rfl) _
  rw [e1, e2]
  exact ctb_neg (fun r hr => by
    show (2 ^ n - 1 - S).testBit r = !S.testBit r
    rw [neg_tb hS, decide_eq_true hr]; rfl)
def lxl (a b : Nat) : Prop := cn a < cn b ∨ (cn a = cn b ∧ a ≤ b)
theorem lp_lo (N : Nat) {n k : Nat} {T : Nat → Nat} {pla : Nat → Int32} (hn : n ≤ 12) (hk : k ≤ 6) (hT : ∀ R, R < 2 ^ n → pla R = iI ((T R : Nat) : Int) ∧ T R ≤ 100) (pgc prc : Int32) (pgr : Nat → Int32) :
    ∀ (d S fuel K : Nat), S + d = 2 ^ n → d < fuel → K < 2 ^ n → T K ≤ k → (∀ R, R < S → T R ≤ k → lxl R K) → ∃ K' : Nat, f_X4_leftOut_10 N (iI k) pgc prc pgr pla (iI n) fuel (iI K) (iI S) = some (iI ((2 ^ n - 1 - K' : Nat) : Int), pgc, prc, pgr, pla) ∧ K' < 2 ^ n ∧ T K' ≤ k ∧ ∀ R, R < 2 ^ n → T R ≤ k → lxl R K' := by
  have h12 := p2_12 hn
  intro d
  induction d with
  | zero =>
    intro S fuel K h1 h2 h3 h4 h5
    obtain ⟨k_, rfl⟩ := su_fuel h2
    have e : S = 2 ^ n := by omega
    subst e
    refine ⟨K, ?_, h3, h4, h5⟩
    show b_X4_leftOut_10 N (iI k) pgc prc pgr pla (iI n) _ (iI K) (iI ((2 ^ n : Nat) : Int)) = _
    unfold b_X4_leftOut_10
    rw [b1_p (q_all0 N hn), if_pos ((iI_lt (by omega)).mpr (by omega)), b1_p (q_all0 N hn), and_not, rest_all h3]
  | succ d ih =>
    intro S fuel K h1 h2 h3 h4 h5
    obtain ⟨k_, rfl⟩ := su_fuel (Nat.lt_of_le_of_lt (Nat.zero_le _) h2)
    have hS : S < 2 ^ n := by omega
    obtain ⟨t1, t2⟩ := hT S hS
    have c1 := cn_le S
    have c2 := cn_le K
    have hb : b_X4_leftOut_10 N (iI k) pgc prc pgr pla (iI n) (f_X4_leftOut_10 N (iI k) pgc prc pgr pla (iI n) k_) (iI K) (iI S) = (if k < T S then f_X4_leftOut_10 N (iI k) pgc prc pgr pla (iI n) k_ (iI K) (iI ((S + 1 : Nat) : Int)) else if cn S < cn K then f_X4_leftOut_10 N (iI k) pgc prc pgr pla (iI n) k_ (iI K) (iI ((S + 1 : Nat) : Int)) else f_X4_leftOut_10 N (iI k) pgc prc pgr pla (iI n) k_ (iI S) (iI ((S + 1 : Nat) : Int))) := by
      unfold b_X4_leftOut_10
      rw [b1_p (q_all0 N hn), if_neg (fun c => absurd ((iI_lt (by omega)).mp c) (by omega)), b1_p (q_lf N (by omega) pla), t1, iI_succ S, b1_p (q_bc N (by omega)), b1_p (q_bc N (by omega))]
      by_cases a : k < T S
      · rw [if_pos a, if_pos ((iI_lt (by omega)).mpr (by omega))]
      · rw [if_neg a, if_neg (fun z => a (by have := (iI_lt (by omega)).mp z; omega))]
        by_cases b : cn S < cn K
        · rw [if_pos b, if_pos ((iI_lt (by omega)).mpr (by omega))]
        · rw [if_neg b, if_neg (fun z => b (by have := (iI_lt (by omega)).mp z; omega))]
    by_cases a : k < T S
    · obtain ⟨K', e1, e2⟩ := ih (S + 1) k_ K (by omega) (by omega) h3 h4 (fun R hR hRk => by
        by_cases e : R = S
        · subst e; omega
        · exact h5 R (by omega) hRk)
      refine ⟨K', ?_, e2⟩
      refine Eq.trans hb ?_
      rw [if_pos a]
      exact e1
    · by_cases b : cn S < cn K
      · obtain ⟨K', e1, e2⟩ := ih (S + 1) k_ K (by omega) (by omega) h3 h4 (fun R hR hRk => by
          by_cases e : R = S
          · subst e; exact Or.inl b
          · exact h5 R (by omega) hRk)
        refine ⟨K', ?_, e2⟩
        refine Eq.trans hb ?_
        rw [if_neg a, if_pos b]
        exact e1
      · obtain ⟨K', e1, e2⟩ := ih (S + 1) k_ S (by omega) (by omega) hS (by omega) (fun R hR hRk => by
          by_cases e : R = S
          · subst e; exact Or.inr ⟨rfl, Nat.le_refl _⟩
          · have h6 := h5 R (by omega) hRk
            unfold lxl at h6 ⊢
            omega)
        refine ⟨K', ?_, e2⟩
        refine Eq.trans hb ?_
        rw [if_neg a, if_neg b]
        exact e1
theorem lp_lg (N : Nat) (hN : 5000 ≤ N) {n k : Nat} {T : Nat → Nat} {dme dle : Nat → Int32} (hn : n ≤ 12) (hk : k ≤ 6) (hT : ∀ R, R < 2 ^ n → dle R = iI ((T R : Nat) : Int) ∧ T R ≤ 100) (w : Int32) :
    ∀ (d S fuel b : Nat), S + d = 2 ^ n → d < fuel → b < 2 ^ n → T (2 ^ n - 1 - b) ≤ k → (∀ R, R < S → T (2 ^ n - 1 - R) ≤ k → lxl b R) → ∃ b' : Nat, f_X9_letGo_43 N (iI k) w (iI ((2 ^ n - 1 : Nat) : Int)) dme dle fuel (iI b) (iI S) = (if w = 0 then some (iI ((cn b' : Nat) : Int), dme, dle) else some (iI b', dme, dle)) ∧ b' < 2 ^ n ∧ T (2 ^ n - 1 - b') ≤ k ∧ ∀ R, R < 2 ^ n → T (2 ^ n - 1 - R) ≤ k → lxl b' R := by
  have h12 := p2_12 hn
  intro d
  induction d with
  | zero =>
    intro S fuel b h1 h2 h3 h4 h5
    obtain ⟨k_, rfl⟩ := su_fuel h2
    have e : S = 2 ^ n := by omega
    subst e
    refine ⟨b, ?_, h3, h4, h5⟩
    show b_X9_letGo_43 N (iI k) w (iI ((2 ^ n - 1 : Nat) : Int)) dme dle _ (iI b) (iI ((2 ^ n : Nat) : Int)) = _
    unfold b_X9_letGo_43
    rw [if_pos ((iI_lt (by omega)).mpr (by omega)), b1_p (q_size9 N hN (by omega))]
  | succ d ih =>
    intro S fuel b h1 h2 h3 h4 h5
    obtain ⟨k_, rfl⟩ := su_fuel (Nat.lt_of_le_of_lt (Nat.zero_le _) h2)
    have hS : S < 2 ^ n := by omega
    obtain ⟨t1, t2⟩ := hT (2 ^ n - 1 - S) (by omega)
    have c1 := cn_le S
    have c2 := cn_le b
    have h0 : ∀ kk : Int32 → Int32 → Option (Int32 × (Nat → Int32) × (Nat → Int32)), f_X9_letGo_87 N kk (iI k) w (iI ((2 ^ n - 1 : Nat) : Int)) (iI b) (iI S) 0 dme dle = kk (iI b) (iI ((S + 1 : Nat) : Int)) := fun kk => by
      unfold f_X9_letGo_87
      rw [if_pos rfl, iI_succ]
    have h1' : ∀ kk : Int32 → Int32 → Option (Int32 × (Nat → Int32) × (Nat → Int32)), f_X9_letGo_87 N kk (iI k) w (iI ((2 ^ n - 1 : Nat) : Int)) (iI b) (iI S) 1 dme dle = (if k < T (2 ^ n - 1 - S) then kk (iI b) (iI ((S + 1 : Nat) : Int)) else kk (iI S) (iI ((S + 1 : Nat) : Int))) := fun kk => by
      unfold f_X9_letGo_87
      rw [if_neg (by decide), and_not, rest_all hS, gi_I (by omega) (by omega) (by omega), iI_clampN (n := 2 ^ n - 1 - S) (by omega), t1, iI_succ]
      by_cases a : k < T (2 ^ n - 1 - S)
      · rw [if_pos a, if_pos ((iI_lt (by omega)).mpr (by omega))]
      · rw [if_neg a, if_neg (fun z => a (by have := (iI_lt (by omega)).mp z; omega))]
    have hb : b_X9_letGo_43 N (iI k) w (iI ((2 ^ n - 1 : Nat) : Int)) dme dle (f_X9_letGo_43 N (iI k) w (iI ((2 ^ n - 1 : Nat) : Int)) dme dle k_) (iI b) (iI S) = (if cn S < cn b ∨ (cn S = cn b ∧ S < b) then (if k < T (2 ^ n - 1 - S) then f_X9_letGo_43 N (iI k) w (iI ((2 ^ n - 1 : Nat) : Int)) dme dle k_ (iI b) (iI ((S + 1 : Nat) : Int)) else f_X9_letGo_43 N (iI k) w (iI ((2 ^ n - 1 : Nat) : Int)) dme dle k_ (iI S) (iI ((S + 1 : Nat) : Int))) else f_X9_letGo_43 N (iI k) w (iI ((2 ^ n - 1 : Nat) : Int)) dme dle k_ (iI b) (iI ((S + 1 : Nat) : Int))) := by
      unfold b_X9_letGo_43
      rw [if_neg (fun c => absurd ((iI_lt (by omega)).mp c) (by omega)), b1_p (q_size9 N hN (by omega)), b1_p (q_size9 N hN (by omega))]
      by_cases a : cn S < cn b
      · rw [if_pos ((iI_lt (by omega)).mpr (by omega)), if_pos (Or.inl a), h1']
      · rw [if_neg (fun z => a (by have := (iI_lt (by omega)).mp z; omega)), b1_p (q_size9 N hN (by omega)), b1_p (q_size9 N hN (by omega))]
        by_cases c : cn S = cn b
        · rw [if_pos (by rw [c])]
          by_cases e : S < b
          · rw [if_neg (fun z => absurd ((iI_le (by omega)).mp z) (by omega)), if_pos (Or.inr ⟨c, e⟩), h1']
          · rw [if_pos ((iI_le (by omega)).mpr (by omega)), if_neg (by omega), h0]
        · rw [if_neg (fun z => c (by have := (iI_eq (by omega)).mp z; omega)), if_neg (by omega), h0]
    by_cases a : cn S < cn b ∨ (cn S = cn b ∧ S < b)
    · by_cases c : k < T (2 ^ n - 1 - S)
      · obtain ⟨b', e1, e2⟩ := ih (S + 1) k_ b (by omega) (by omega) h3 h4 (fun R hR hRk => by
          by_cases e : R = S
          · subst e; omega
          · exact h5 R (by omega) hRk)
        refine ⟨b', ?_, e2⟩
        refine Eq.trans hb ?_
        rw [if_pos a, if_pos c]
        exact e1
      · obtain ⟨b', e1, e2⟩ := ih (S + 1) k_ S (by omega) (by omega) hS (by omega) (fun R hR hRk => by
          by_cases e : R = S
          · subst e; exact Or.inr ⟨rfl, Nat.le_refl _⟩
          · have h6 := h5 R (by omega) hRk
            unfold lxl at h6 ⊢
            omega)
        refine ⟨b', ?_, e2⟩
        refine Eq.trans hb ?_
        rw [if_pos a, if_neg c]
        exact e1
    · obtain ⟨b', e1, e2⟩ := ih (S + 1) k_ b (by omega) (by omega) h3 h4 (fun R hR hRk => by
        by_cases e : R = S
        · subst e
          unfold lxl
          omega
        · exact h5 R (by omega) hRk)
      refine ⟨b', ?_, e2⟩
      refine Eq.trans hb ?_
      rw [if_neg a]
      exact e1
/-- the most kept and the fewest let go are one another's rest -/
theorem lo_lg {n k K b : Nat} {T : Nat → Nat} (hn : n ≤ 12) (hK : K < 2 ^ n) (hb : b < 2 ^ n) (h1 : T K ≤ k) (h2 : T (2 ^ n - 1 - b) ≤ k) (h3 : ∀ R, R < 2 ^ n → T R ≤ k → lxl R K) (h4 : ∀ R, R < 2 ^ n → T (2 ^ n - 1 - R) ≤ k → lxl b R) : b = 2 ^ n - 1 - K := by
  have g1 := h3 (2 ^ n - 1 - b) (by omega) h2
  have e : 2 ^ n - 1 - (2 ^ n - 1 - K) = K := by omega
  have g2 := h4 (2 ^ n - 1 - K) (by omega) (by rw [e]; exact h1)
  have n1 := cn_neg hn hK
  have n2 := cn_neg hn hb
  unfold lxl at g1 g2
  omega
theorem P_letGo : PS_letGo InvA := by
  intro N hN bsz bgp ber bxs bus bys bme pgc prc pgr pla tle tga trr tat tfa tby tnu rlc rla rmo ksz kmb kwa kra kla lo hi glo ghi sla ssz sit mrm mer mtd mat mwr mkn mmb mwa mra mbl mbh dxs dus dys dgp dtp dme dle dlt dkl dln dsz dit dmv hI p0 p1
  have hI' := hI
  obtain ⟨n, E, RX, RU, RY, G, hB, hP, hR⟩ := hI'
  have hB' := hB
  obtain ⟨⟨hn, hE, rfl, rfl, rfl, rfl, rfl⟩, hr, hm⟩ := hB'
  obtain ⟨z0, r0, rfl⟩ := iI_of p0
  obtain ⟨z1, r1, rfl⟩ := iI_of p1
  have h12 := p2_12 hn
  have hp := p2_pos n
  have hRM : RowsM n E RX RU RY G dxs dus dys dgp := ⟨hn, hE, fun r h => (hr r h).2⟩
  have a0 : f_X9_in N (iI z0).toInt64 0 6 = some (bI (decide (0 ≤ z0) && decide (z0 ≤ 6))) := q_in N (j_of r0) rfl rfl
  have a1 : f_X9_in N (iI z1).toInt64 0 1 = some (bI (decide (0 ≤ z1) && decide (z1 ≤ 1))) := q_in N (j_of r1) rfl rfl
  by_cases c0 : 0 ≤ z0 ∧ z0 ≤ 6
  case neg =>
    rw [two_f c0, bI_f] at a0
    refine ⟨-1, _, _, _, _, _, _, ?_, ?_, hI⟩
    · unfold f_X8_letGo
      by_cases d : z0 < 0
      · rw [if_pos ((k_ltR (by omega)).mpr (by omega))]
      · rw [if_neg (fun q => absurd ((k_ltR (by omega)).mp q) (by omega)), if_pos ((k_ltL (by omega)).mpr (by omega))]
    · unfold f_X9_letGo
      rw [b1_p a0, if_pos rfl]
  rw [two_t c0, bI_t] at a0
  by_cases c1 : 0 ≤ z1 ∧ z1 ≤ 1
  case neg =>
    rw [two_f c1, bI_f] at a1
    refine ⟨-1, _, _, _, _, _, _, ?_, ?_, hI⟩
    · unfold f_X8_letGo
      rw [if_neg (fun q => absurd ((k_ltR (by omega)).mp q) (by omega)), if_neg (fun q => absurd ((k_ltL (by omega)).mp q) (by omega))]
      by_cases d : z1 < 0
      · rw [if_pos ((k_ltR (by omega)).mpr (by omega))]
      · rw [if_neg (fun q => absurd ((k_ltR (by omega)).mp q) (by omega)), if_neg (fun q => absurd ((k_leR (by omega)).mp q) (by omega))]
    · unfold f_X9_letGo
      rw [b1_p a0, if_neg (by decide), b1_p a1, if_pos rfl]
  rw [two_t c1, bI_t] at a1
  obtain ⟨k, rfl⟩ := Int.eq_ofNat_of_zero_le c0.1
  obtain ⟨pgc', pgr', pla', e1, e2, e3⟩ := q_ch N hN (W := fun law => bts (mt RX RU RY G E law) n) hn (fun law => bts_small _ hn) hm hP
  obtain ⟨dme', dle', t1, t2, t3⟩ := q_tables9 N hN hRM dme dle
  obtain ⟨K, l1, l2, l3, l4⟩ := lp_lo N (k := k) (T := covT (fun law => bts (mt RX RU RY G E law) n)) (pla := pla') hn (by omega) (fun R hR => ⟨e2 R hR, covT_100 _ (by omega)⟩) pgc' (iI n) pgr' (2 ^ n) 0 N 0 (by omega) (by omega) (by omega) (by rw [covT_0]; omega) (fun R hR => by omega)
  obtain ⟨b, m1, m2, m3, m4⟩ := lp_lg N hN (k := k) (T := covT (fun law => bts (mt RX RU RY G E law) n)) (dme := dme') (dle := dle') hn (by omega) (fun R hR => ⟨t3 R hR, covT_100 _ (by omega)⟩) (iI z1) (2 ^ n) 0 N (2 ^ n - 1) (by omega) (by omega) (by omega) (by rw [Nat.sub_self, covT_0]; omega) (fun R hR => by omega)
  have eb := lo_lg hn l2 m2 l3 m3 l4 m4
  subst eb
  have l1' : f_X4_leftOut N (iI (k : Int)) pgc prc pgr pla (iI n) bme = some (iI ((2 ^ n - 1 - K : Nat) : Int), pgc', iI n, pgr', pla') := by
    unfold f_X4_leftOut
    rw [b4_p e1]
    exact l1
  have m1' : f_X9_letGo N (iI (k : Int)) (iI z1) (iI n) (iI E) dxs dus dys dgp dme dle = (if iI z1 = 0 then some (iI ((cn (2 ^ n - 1 - K) : Nat) : Int), dme', dle') else some (iI ((2 ^ n - 1 - K : Nat) : Int), dme', dle')) := by
    unfold f_X9_letGo
    rw [b1_p a0, if_neg (by decide), b1_p a1, if_neg (by decide), b2_p t1, all_9 hn]
    exact m1
  have n1' : f_X8_letGo N (iI (k : Int)) (iI z1) pgc prc pgr pla (iI n) bme = (if iI z1 = 0 then some (iI ((cn (2 ^ n - 1 - K) : Nat) : Int), pgc', iI n, pgr', pla') else some (iI ((2 ^ n - 1 - K : Nat) : Int), pgc', iI n, pgr', pla')) := by
    unfold f_X8_letGo
    rw [if_neg (fun q => absurd ((k_ltR (by omega)).mp q) (by omega)), if_neg (fun q => absurd ((k_ltL (by omega)).mp q) (by omega)), if_neg (fun q => absurd ((k_ltR (by omega)).mp q) (by omega)), if_pos ((k_leR (by omega)).mpr (by omega)), b5_p l1', b1_p (q_bc N (by omega))]
  by_cases cz : iI z1 = 0
  · rw [if_pos cz] at m1' n1'
    exact ⟨_, _, _, _, _, _, _, n1', m1', n, E, RX, RU, RY, G, hB, InvP_of hn e2 e3, hR⟩
  · rw [if_neg cz] at m1' n1'
    exact ⟨_, _, _, _, _, _, _, n1', m1', n, E, RX, RU, RY, G, hB, InvP_of hn e2 e3, hR⟩
