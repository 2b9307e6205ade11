/-! the fewest laws for a heap -/
theorem restS_tb (a b r : Nat) : (restS a b).testBit r = (a.testBit r && !b.testBit r) := by
  unfold restS
  rw [Nat.testBit_xor, Nat.testBit_and]
  cases a.testBit r <;> cases b.testBit r <;> rfl
theorem restS_le (a b : Nat) : restS a b ≤ a := by
  have e : restS a b = a &&& restS a b := by
    apply Nat.eq_of_testBit_eq
    intro r
    rw [Nat.testBit_and, restS_tb]
    cases a.testBit r <;> cases b.testBit r <;> rfl
  rw [e]
  exact Nat.and_le_left
theorem restS_lt' {a b m : Nat} (h1 : a.testBit m = true) (h2 : b.testBit m = true) : restS a b < a := by
  have h3 := restS_le a b
  have h4 : restS a b ≠ a := fun e => by
    have h5 := restS_tb a b m
    rw [e, h1, h2] at h5
    exact absurd h5 (by decide)
  omega
theorem and_z (w m : Nat) : w &&& 2 ^ m = 0 ↔ w.testBit m = false := by
  constructor
  · intro h
    have h1 : (w &&& 2 ^ m).testBit m = false := by rw [h, Nat.zero_testBit]
    rw [Nat.testBit_and, Nat.testBit_two_pow_self] at h1
    cases hb : w.testBit m with
    | false => rfl
    | true => rw [hb] at h1; exact absurd h1 (by decide)
  · intro h
    apply Nat.eq_of_testBit_eq
    intro r
    rw [Nat.testBit_and, Nat.zero_testBit, Nat.testBit_two_pow]
    by_cases e : m = r
    · subst e; rw [h]; rfl
    · rw [decide_eq_false e]; simp
set_option maxRecDepth 100000 in
theorem low_ex : ∀ S, S < 4096 → 0 < S → ∃ m, m < 12 ∧ (lowb S = 2 ^ m ∧ S.testBit m = true ∧ ∀ r, r < m → S.testBit r = false) := by decide +kernel
set_option maxRecDepth 100000 in
theorem low_neg : ∀ S, S < 4096 → (nI S &&& -(nI S)) = nI (lowb S) := by decide +kernel
theorem q_lowb {S : Nat} (h : S < 4096) : iI (S : Int) &&& -(iI (S : Int)) = iI ((lowb S : Nat) : Int) := by
  rw [iI_nat, iI_nat]
  exact low_neg S h
theorem stepMin_100 (W T : Nat → Nat) (S : Nat) : ∀ k, stepMin W T S k ≤ 100
  | 0 => Nat.le_refl _
  | k + 1 => by
    have ih := stepMin_100 W T S k
    unfold stepMin
    split
    · exact ih
    · exact Nat.le_trans (Nat.min_le_left _ _) ih
theorem stepMin_le {W T : Nat → Nat} {S : Nat} : ∀ {K k : Nat}, k < K → W k &&& lowb S ≠ 0 → stepMin W T S K ≤ T (restS S (W k)) + 1
  | K + 1, k, hk, hw => by
    unfold stepMin
    by_cases e : k = K
    · subst e
      rw [if_neg hw]
      exact Nat.min_le_right _ _
    · have ih := stepMin_le (W := W) (T := T) (S := S) (K := K) (k := k) (by omega) hw
      split
      · exact ih
      · exact Nat.le_trans (Nat.min_le_left _ _) ih
theorem stepMin_at (W T : Nat → Nat) (S : Nat) : ∀ K, stepMin W T S K = 100 ∨ ∃ k, k < K ∧ W k &&& lowb S ≠ 0 ∧ stepMin W T S K = T (restS S (W k)) + 1
  | 0 => Or.inl rfl
  | K + 1 => by
    have ih := stepMin_at W T S K
    unfold stepMin
    by_cases hw : W K &&& lowb S = 0
    · rw [if_pos hw]
      rcases ih with h | ⟨k, h1, h2, h3⟩
      · exact Or.inl h
      · exact Or.inr ⟨k, by omega, h2, h3⟩
    · rw [if_neg hw]
      rcases Nat.le_total (stepMin W T S K) (T (restS S (W K)) + 1) with h | h
      · rw [Nat.min_eq_left h]
        rcases ih with h | ⟨k, h1, h2, h3⟩
        · exact Or.inl h
        · exact Or.inr ⟨k, by omega, h2, h3⟩
      · rw [Nat.min_eq_right h]
        exact Or.inr ⟨K, by omega, hw, rfl⟩
theorem stepMin_T {W T T' : Nat → Nat} {S : Nat} (h : ∀ k, W k &&& lowb S ≠ 0 → T (restS S (W k)) = T' (restS S (W k))) : ∀ K, stepMin W T S K = stepMin W T' S K
  | 0 => rfl
  | K + 1 => by
    have ih := stepMin_T h K
    unfold stepMin
    by_cases hw : W K &&& lowb S = 0
    · rw [if_pos hw, if_pos hw, ih]
    · rw [if_neg hw, if_neg hw, ih, h K hw]
theorem low_lt {W S : Nat} (hS : S < 4096) (h0 : 0 < S) (hw : W &&& lowb S ≠ 0) : restS S W < S := by
  obtain ⟨m, _, h1, h2, _⟩ := low_ex S hS h0
  rw [h1] at hw
  refine restS_lt' h2 ?_
  cases hb : W.testBit m with
  | true => rfl
  | false => exact absurd ((and_z W m).mpr hb) hw
def covF (W : Nat → Nat) : Nat → Nat → Nat
  | 0, _ => 0
  | f + 1, S => if S = 0 then 0 else stepMin W (covF W f) S 289
theorem covF_st (W : Nat → Nat) : ∀ (b S f f' : Nat), S ≤ b → S < 4096 → S < f → S < f' → covF W f S = covF W f' S := by
  intro b
  induction b with
  | zero =>
    intro S f f' hb hS h1 h2
    obtain ⟨a, rfl⟩ := su_fuel (Nat.lt_of_le_of_lt (Nat.zero_le _) h1)
    obtain ⟨c, rfl⟩ := su_fuel (Nat.lt_of_le_of_lt (Nat.zero_le _) h2)
    show (if S = 0 then 0 else stepMin W (covF W a) S 289) = (if S = 0 then 0 else stepMin W (covF W c) S 289)
    rw [if_pos (by omega), if_pos (by omega)]
  | succ b ih =>
    intro S f f' hb hS h1 h2
    obtain ⟨a, rfl⟩ := su_fuel (Nat.lt_of_le_of_lt (Nat.zero_le _) h1)
    obtain ⟨c, rfl⟩ := su_fuel (Nat.lt_of_le_of_lt (Nat.zero_le _) h2)
    show (if S = 0 then 0 else stepMin W (covF W a) S 289) = (if S = 0 then 0 else stepMin W (covF W c) S 289)
    by_cases c0 : S = 0
    · rw [if_pos c0, if_pos c0]
    · rw [if_neg c0, if_neg c0]
      refine stepMin_T (fun k hw => ?_) 289
      have hl := low_lt hS (by omega) hw
      exact ih _ _ _ (by omega) (by omega) (by omega) (by omega)
def covT (W : Nat → Nat) (S : Nat) : Nat := covF W (S + 1) S
theorem covT_0 (W : Nat → Nat) : covT W 0 = 0 := rfl
theorem covT_eq (W : Nat → Nat) {S : Nat} (hS : S < 4096) (h0 : 0 < S) : covT W S = stepMin W (covT W) S 289 := by
  show (if S = 0 then 0 else stepMin W (covF W S) S 289) = _
  rw [if_neg (by omega)]
  refine stepMin_T (fun k hw => ?_) 289
  have hl := low_lt hS h0 hw
  exact covF_st W (restS S (W k)) _ _ _ (Nat.le_refl _) (by omega) hl (by omega)
theorem covT_100 (W : Nat → Nat) {S : Nat} (hS : S < 4096) : covT W S ≤ 100 := by
  by_cases h : S = 0
  · subst h; rw [covT_0]; omega
  · rw [covT_eq W hS (by omega)]; exact stepMin_100 W _ S 289
theorem cov_un {W T : Nat → Nat} {c : Nat} (hc : c ≤ 12) (h : IsCov W c T) : ∀ (b S : Nat), S ≤ b → S < 2 ^ c → T S = covT W S := by
  have hp := p2_12 hc
  intro b
  induction b with
  | zero =>
    intro S hb hS
    have e : S = 0 := by omega
    subst e
    rw [h.1, covT_0]
  | succ b ih =>
    intro S hb hS
    by_cases c0 : S = 0
    · subst c0; rw [h.1, covT_0]
    · rw [h.2 S (by omega) hS, covT_eq W (by omega) (by omega)]
      refine stepMin_T (fun k hw => ?_) 289
      have hl := low_lt (S := S) (by omega) (by omega) hw
      exact ih _ (by omega) (by omega)
theorem cov_is (W : Nat → Nat) {c : Nat} (hc : c ≤ 12) : IsCov W c (covT W) := by
  have hp := p2_12 hc
  exact ⟨covT_0 W, fun S h0 hS => covT_eq W (by omega) h0⟩
theorem rest_comm (A w v : Nat) : restS (restS A w) v = restS (restS A v) w := by
  apply Nat.eq_of_testBit_eq
  intro r
  rw [restS_tb, restS_tb, restS_tb, restS_tb]
  cases A.testBit r <;> cases w.testBit r <;> cases v.testBit r <;> rfl
/-- one law more meets at least as much -/
theorem cov_L {W : Nat → Nat} : ∀ (b A k : Nat), A ≤ b → A < 4096 → k < 289 → covT W A ≤ covT W (restS A (W k)) + 1 := by
  intro b
  induction b with
  | zero =>
    intro A k hb hA hk
    have e : A = 0 := by omega
    subst e
    rw [covT_0]; omega
  | succ b ih =>
    intro A k hb hA hk
    by_cases c0 : A = 0
    · subst c0; rw [covT_0]; omega
    · obtain ⟨m, _, h1, h2, h3⟩ := low_ex A hA (by omega)
      cases hw : (W k).testBit m with
      | true =>
        rw [covT_eq W hA (by omega)]
        refine stepMin_le hk (fun q => ?_)
        rw [h1, and_z, hw] at q
        exact absurd q (by decide)
      | false =>
        have hA2 := restS_le A (W k)
        have tb : (restS A (W k)).testBit m = true := by rw [restS_tb, h2, hw]; rfl
        have hpos : 0 < restS A (W k) := by
          rcases Nat.eq_zero_or_pos (restS A (W k)) with e | e
          · rw [e, Nat.zero_testBit] at tb; exact absurd tb (by decide)
          · exact e
        obtain ⟨m', _, g1, g2, g3⟩ := low_ex (restS A (W k)) (by omega) hpos
        have em : m' = m := by
          rcases Nat.lt_trichotomy m' m with q | q | q
          · rw [restS_tb, h3 m' q] at g2; exact absurd g2 (by simp)
          · exact q
          · rw [g3 m q] at tb; exact absurd tb (by decide)
        subst em
        rcases stepMin_at W (covT W) (restS A (W k)) 289 with e | ⟨j, j1, j2, j3⟩
        · rw [covT_eq W (S := restS A (W k)) (by omega) hpos, e]
          have := covT_100 W hA
          omega
        · rw [covT_eq W (S := restS A (W k)) (by omega) hpos, j3]
          rw [g1] at j2
          have hj : (W j).testBit m' = true := by
            cases hb : (W j).testBit m' with
            | true => rfl
            | false => exact absurd ((and_z (W j) m').mpr hb) j2
          have s1 : covT W A ≤ covT W (restS A (W j)) + 1 := by
            have e := covT_eq W (S := A) hA (by omega)
            rw [e]
            refine stepMin_le j1 (fun q => ?_)
            rw [h1] at q
            exact j2 q
          have hlt := restS_lt' h2 hj
          have s2 := ih (restS A (W j)) k (by omega) (by omega) hk
          rw [rest_comm A (W k) (W j)]
          omega
/-- less of a heap needs no more laws -/
theorem cov_M {W : Nat → Nat} : ∀ (b S A : Nat), S ≤ b → S < 4096 → (∀ r, A.testBit r = true → S.testBit r = true) → A < 4096 → covT W A ≤ covT W S := by
  intro b
  induction b with
  | zero =>
    intro S A hb hS hAS hA
    have e : S = 0 := by omega
    have e2 : A = 0 := by
      apply Nat.eq_of_testBit_eq
      intro r
      rw [Nat.zero_testBit]
      cases ha : A.testBit r with
      | false => rfl
      | true =>
        have := hAS r ha
        rw [e, Nat.zero_testBit] at this
        exact absurd this (by decide)
    rw [e2, covT_0]; omega
  | succ b ih =>
    intro S A hb hS hAS hA
    by_cases c0 : S = 0
    · exact ih S A (by omega) hS hAS hA
    · rw [covT_eq W hS (by omega)]
      rcases stepMin_at W (covT W) S 289 with e | ⟨k, j1, j2, j3⟩
      · rw [e]; exact covT_100 W hA
      · rw [j3]
        have hl := low_lt hS (by omega) j2
        have s1 := cov_L (W := W) A A k (Nat.le_refl _) hA j1
        have s2 := ih (restS S (W k)) (restS A (W k)) (by omega) (by omega) (fun r hr => by
          rw [restS_tb] at hr ⊢
          cases ha : A.testBit r with
          | false => rw [ha] at hr; exact absurd hr (by simp)
          | true =>
            rw [hAS r ha]
            rw [ha] at hr
            exact hr) (by have := restS_le A (W k); omega)
        omega
/-- some law of the fewest meets a told row -/
theorem cov_Q {W : Nat → Nat} : ∀ (b S q : Nat), S ≤ b → S < 4096 → S.testBit q = true → covT W S < 100 → ∃ m, m < 289 ∧ (W m).testBit q = true ∧ covT W (restS S (W m)) + 1 ≤ covT W S := by
  intro b
  induction b with
  | zero =>
    intro S q hb hS hq hT
    have e : S = 0 := by omega
    rw [e, Nat.zero_testBit] at hq
    exact absurd hq (by decide)
  | succ b ih =>
    intro S q hb hS hq hT
    have h0 : 0 < S := by
      rcases Nat.eq_zero_or_pos S with e | e
      · rw [e, Nat.zero_testBit] at hq; exact absurd hq (by decide)
      · exact e
    have eS := covT_eq W hS h0
    rcases stepMin_at W (covT W) S 289 with e | ⟨k, j1, j2, j3⟩
    · omega
    · have hl := low_lt hS h0 j2
      cases hw : (W k).testBit q with
      | true => exact ⟨k, j1, hw, by omega⟩
      | false =>
        obtain ⟨m, m1, m2, m3⟩ := ih (restS S (W k)) q (by omega) (by omega) (by rw [restS_tb, hq, hw]; rfl) (by omega)
        refine ⟨m, m1, m2, ?_⟩
        have hle := restS_le S (W m)
        have s1 := cov_L (W := W) (restS S (W m)) (restS S (W m)) k (Nat.le_refl _) (by omega) j1
        rw [rest_comm S (W m) (W k)] at s1
        omega
/-- the greatest heaps do as well as all laws -/
theorem stepMin_great {W B : Nat → Nat} {g S : Nat} (hS : S < 4096) (h0 : 0 < S) (h1 : ∀ i, i < g → ∃ law, law < 289 ∧ B i = W law) (h2 : ∀ law, law < 289 → ∃ i, i < g ∧ W law &&& B i = W law) : stepMin B (covT W) S g = covT W S := by
  rw [covT_eq W hS h0]
  apply Nat.le_antisymm
  · rcases stepMin_at W (covT W) S 289 with e | ⟨k, j1, j2, j3⟩
    · rw [e]; exact stepMin_100 _ _ _ _
    · rw [j3]
      obtain ⟨i, i1, i2⟩ := h2 k j1
      have hsub : ∀ r, (W k).testBit r = true → (B i).testBit r = true := fun r hr => by
        rw [← i2, Nat.testBit_and, Bool.and_eq_true] at hr
        exact hr.2
      have hb : B i &&& lowb S ≠ 0 := by
        obtain ⟨m, _, g1, g2, _⟩ := low_ex S hS h0
        rw [g1] at j2 ⊢
        intro q
        have q2 := (and_z (B i) m).mp q
        have : (W k).testBit m = true := by
          cases hb : (W k).testBit m with
          | true => rfl
          | false => exact absurd ((and_z (W k) m).mpr hb) j2
        rw [hsub m this] at q2
        exact absurd q2 (by decide)
      have s1 := stepMin_le (W := B) (T := covT W) (S := S) i1 hb
      have hlt := low_lt hS h0 j2
      have hle := restS_le S (B i)
      have s2 := cov_M (W := W) (restS S (W k)) (restS S (W k)) (restS S (B i)) (Nat.le_refl _) (by omega) (fun r hr => by
        rw [restS_tb] at hr ⊢
        cases hs : S.testBit r with
        | false => rw [hs] at hr; exact absurd hr (by simp)
        | true =>
          rw [hs] at hr
          cases hw : (W k).testBit r with
          | false => rfl
          | true => rw [hsub r hw] at hr; exact absurd hr (by decide)) (by omega)
      omega
  · rcases stepMin_at B (covT W) S g with e | ⟨i, j1, j2, j3⟩
    · rw [e]; exact stepMin_100 _ _ _ _
    · rw [j3]
      obtain ⟨law, l1, l2⟩ := h1 i j1
      rw [l2] at j2 ⊢
      exact stepMin_le l1 j2
