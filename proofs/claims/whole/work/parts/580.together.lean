/-! surely together, surely not -/
def togR (o w : Bool) : Int32 := bif o then (bif w then 1 else 2) else 0
theorem tog_or {α : Type} (t : Bool) (x y : α) : (if bI t = (1 : Int32) then x else y) = (bif t then x else y) := by cases t <;> rfl
def pOne (W T : Nat → Nat) (n a b t : Nat) (k : Nat) : Bool := (W k).testBit a && ((W k).testBit b && decide (T (restS (2 ^ n - 1) (W k)) + 1 = t))
def pTwo (W T : Nat → Nat) (n a b t : Nat) (k : Nat) : Bool := (W k).testBit a && decide (T (restS (2 ^ n - 1) (restS (W k) (2 ^ b))) + 1 = t)
theorem lp_tog9 (N : Nat) {n a b t : Nat} {W T : Nat → Nat} {dme dle : Nat → Int32} (hn : n ≤ 12) (ha : a < n) (hb : b < n) (ht : t ≤ 100) (hW : ∀ law, W law < 2 ^ n) (hm : ∀ law, law < 289 → dme law = iI ((W law : Nat) : Int)) (hT : ∀ R, R < 2 ^ n → dle R = iI ((T R : Nat) : Int) ∧ T R ≤ 100) :
    ∀ (d k fuel : Nat) (o w : Bool), k + d = 289 → d < fuel → f_X9_together_63 N (iI a) (iI b) (iI ((2 ^ n - 1 : Nat) : Int)) (iI t) dme dle fuel (bI o) (bI w) (iI k) = some (togR (o || anyF (pOne W T n a b t) d k) (w || anyF (pTwo W T n a b t) d k), dme, dle) := by
  have h12 := p2_12 hn
  have hp := p2_pos n
  intro d
  induction d with
  | zero =>
    intro k fuel o w h1 h2
    obtain ⟨k_, rfl⟩ := su_fuel h2
    have e : k = 289 := by omega
    subst e
    show b_X9_together_63 N (iI a) (iI b) (iI ((2 ^ n - 1 : Nat) : Int)) (iI t) dme dle _ (bI o) (bI w) (iI ((289 : Nat) : Int)) = some (togR (o || false) (w || false), dme, dle)
    unfold b_X9_together_63
    rw [if_pos ((k_leL (by omega)).mpr (by omega))]
    cases o <;> cases w <;> rfl
  | succ d ih =>
    intro k fuel o w h1 h2
    obtain ⟨k_, rfl⟩ := su_fuel (Nat.lt_of_le_of_lt (Nat.zero_le _) h2)
    have hk : k < 289 := by omega
    have hWk := hW k
    have q1 := restS_le (2 ^ n - 1) (W k)
    have q2 := restS_le (2 ^ n - 1) (restS (W k) (2 ^ b))
    obtain ⟨t1, t2⟩ := hT (restS (2 ^ n - 1) (W k)) (by omega)
    obtain ⟨u1, u2⟩ := hT (restS (2 ^ n - 1) (restS (W k) (2 ^ b))) (by omega)
    have g1 : ∀ (kk : Int32 → Int32 → Int32 → Option (Int32 × (Nat → Int32) × (Nat → Int32))) (x : Int32), f_X9_together_134 N kk (iI a) (iI b) (iI ((2 ^ n - 1 : Nat) : Int)) (iI t) (bI w) (iI k) x dme dle = kk x (bI (w || decide (T (restS (2 ^ n - 1) (restS (W k) (2 ^ b))) + 1 = t))) (iI ((k + 1 : Nat) : Int)) := fun kk x => by
      unfold f_X9_together_134
      cases w with
      | true => rw [bI_t, if_neg (by decide), iI_succ]; rfl
      | false =>
        rw [bI_f, if_pos rfl, gi_I (by omega) (by omega) (by omega), iI_clampN (n := k) (by omega), hm k hk, q_shl1 (by omega), and_not, and_not, gi_I (by omega) (by omega) (by omega), iI_clampN (n := restS (2 ^ n - 1) (restS (W k) (2 ^ b))) (by omega), u1, iI_succ, k_subR]
        by_cases c : T (restS (2 ^ n - 1) (restS (W k) (2 ^ b))) + 1 = t
        · rw [if_pos ((iI_eq (by omega)).mpr (by omega)), decide_eq_true c]; rfl
        · rw [if_neg (fun z => c (by have := (iI_eq (by omega)).mp z; omega)), decide_eq_false c]; rfl
    have key : b_X9_together_63 N (iI a) (iI b) (iI ((2 ^ n - 1 : Nat) : Int)) (iI t) dme dle (f_X9_together_63 N (iI a) (iI b) (iI ((2 ^ n - 1 : Nat) : Int)) (iI t) dme dle k_) (bI o) (bI w) (iI k) = f_X9_together_63 N (iI a) (iI b) (iI ((2 ^ n - 1 : Nat) : Int)) (iI t) dme dle k_ (bI (o || pOne W T n a b t k)) (bI (w || pTwo W T n a b t k)) (iI ((k + 1 : Nat) : Int)) := by
      unfold b_X9_together_63 pOne pTwo
      rw [if_neg (fun c => absurd ((k_leL (by omega)).mp c) (by omega)), gi_I (by omega) (by omega) (by omega), gi_I (by omega) (by omega) (by omega), gi_I (by omega) (by omega) (by omega), iI_clampN (n := k) (by omega), hm k hk, and_not, gi_I (by omega) (by omega) (by omega), iI_clampN (n := restS (2 ^ n - 1) (W k)) (by omega), t1, q_bit (by omega) (by omega), q_bit (by omega) (by omega), tog_or, tog_or, ifb, g1, g1, iI_succ, k_subR]
      cases hwa : (W k).testBit a with
      | false =>
        show f_X9_together_63 N _ _ _ _ dme dle k_ (bI o) (bI w) _ = f_X9_together_63 N _ _ _ _ dme dle k_ (bI (o || false)) (bI (w || false)) _
        rw [Bool.or_false, Bool.or_false]
      | true =>
        cases o with
        | true => rfl
        | false =>
          cases hwb : (W k).testBit b with
          | false => rfl
          | true =>
            by_cases c : T (restS (2 ^ n - 1) (W k)) + 1 = t
            · rw [if_pos ((iI_eq (by omega)).mpr (by omega)), decide_eq_true c]; rfl
            · rw [if_neg (fun z => c (by have := (iI_eq (by omega)).mp z; omega)), decide_eq_false c]; rfl
    show b_X9_together_63 N (iI a) (iI b) (iI ((2 ^ n - 1 : Nat) : Int)) (iI t) dme dle (f_X9_together_63 N (iI a) (iI b) (iI ((2 ^ n - 1 : Nat) : Int)) (iI t) dme dle k_) (bI o) (bI w) (iI k) = some (togR (o || (bif pOne W T n a b t k then true else anyF (pOne W T n a b t) d (k + 1))) (w || (bif pTwo W T n a b t k then true else anyF (pTwo W T n a b t) d (k + 1))), dme, dle)
    rw [key, ih (k + 1) k_ _ _ (by omega) (by omega)]
    cases o <;> cases w <;> cases pOne W T n a b t k <;> cases pTwo W T n a b t k <;> rfl
def cTog (B T : Nat → Nat) (n a b t : Nat) (i : Nat) : Bool := ((B i).testBit a && (B i).testBit b) && decide (T (restS (2 ^ n - 1) (B i)) < t)
def cBes (B T : Nat → Nat) (n h b t : Nat) (i : Nat) : Bool := (B i).testBit b && decide (T (restS (2 ^ n - 1) (h ||| B i)) + 1 < t)
def cApa (B T : Nat → Nat) (n a b t g : Nat) (i : Nat) : Bool := (B i).testBit a && anyF (cBes B T n (B i) b t) g 0
theorem both_tb {w a b : Nat} : w &&& (2 ^ a ||| 2 ^ b) = (2 ^ a ||| 2 ^ b) ↔ (w.testBit a && w.testBit b) = true := by
  constructor
  · intro h
    have h1 : (w &&& (2 ^ a ||| 2 ^ b)).testBit a = true := by rw [h, Nat.testBit_or, Nat.testBit_two_pow_self]; rfl
    have h2 : (w &&& (2 ^ a ||| 2 ^ b)).testBit b = true := by rw [h, Nat.testBit_or, Nat.testBit_two_pow_self, Bool.or_true]
    rw [Nat.testBit_and, Bool.and_eq_true] at h1 h2
    rw [h1.1, h2.1]; rfl
  · intro h
    rw [Bool.and_eq_true] at h
    apply Nat.eq_of_testBit_eq
    intro r
    rw [Nat.testBit_and, Nat.testBit_or, Nat.testBit_two_pow, Nat.testBit_two_pow]
    by_cases e1 : a = r
    · subst e1; rw [h.1]; rfl
    · by_cases e2 : b = r
      · subst e2; rw [h.2]; rfl
      · rw [decide_eq_false e1, decide_eq_false e2]; simp
theorem p2_n {a n : Nat} (h : a < n) : 2 ^ a < 2 ^ n := Nat.pow_lt_pow_right (by decide) h
theorem lp_ctog (N : Nat) {n g a b t : Nat} {B T : Nat → Nat} {f pla : Nat → Int32} (hn : n ≤ 12) (hg : g ≤ 289) (ha : a < n) (hb : b < n) (ht : t ≤ 100) (hB : ∀ i, i < g → f i = iI ((B i : Nat) : Int) ∧ B i < 4096) (hT : ∀ R, R < 2 ^ n → pla R = iI ((T R : Nat) : Int) ∧ T R ≤ 100) :
    ∀ (d i fuel : Nat), i + d = g → d < fuel → f_X4_canBeTogether_3 N (iI ((2 ^ n - 1 : Nat) : Int)) (iI ((2 ^ a ||| 2 ^ b : Nat) : Int)) (iI t) (iI g) f pla fuel (iI i) = some (bI (anyF (cTog B T n a b t) d i)) := by
  have h12 := p2_12 hn
  have hp := p2_pos n
  have hab : 2 ^ a ||| 2 ^ b < 2 ^ n := Nat.or_lt_two_pow (p2_n ha) (p2_n hb)
  intro d
  induction d with
  | zero =>
    intro i fuel h1 h2
    obtain ⟨k_, rfl⟩ := su_fuel h2
    have e : i = g := by omega
    subst e
    show b_X4_canBeTogether_3 N _ _ (iI t) (iI i) f pla _ (iI (i : Int)) = _
    unfold b_X4_canBeTogether_3
    rw [if_pos ((iI_le (by omega)).mpr (Int.le_refl _))]
    rfl
  | succ d ih =>
    intro i fuel h1 h2
    obtain ⟨k_, rfl⟩ := su_fuel (Nat.lt_of_le_of_lt (Nat.zero_le _) h2)
    obtain ⟨b1_, b2_⟩ := hB i (by omega)
    have q1 := restS_le (2 ^ n - 1) (B i)
    have q2 : B i &&& (2 ^ a ||| 2 ^ b) ≤ B i := Nat.and_le_left
    obtain ⟨t1, t2⟩ := hT (restS (2 ^ n - 1) (B i)) (by omega)
    have i1 := ih (i + 1) k_ (by omega) (by omega)
    show b_X4_canBeTogether_3 N (iI ((2 ^ n - 1 : Nat) : Int)) (iI ((2 ^ a ||| 2 ^ b : Nat) : Int)) (iI t) (iI g) f pla (f_X4_canBeTogether_3 N (iI ((2 ^ n - 1 : Nat) : Int)) (iI ((2 ^ a ||| 2 ^ b : Nat) : Int)) (iI t) (iI g) f pla k_) (iI i) = some (bI (bif cTog B T n a b t i then true else anyF (cTog B T n a b t) d (i + 1)))
    unfold b_X4_canBeTogether_3
    rw [if_neg (fun c => absurd ((iI_le (by omega)).mp c) (by omega)), if_neg (fun c => absurd ((k_leL (by omega)).mp c) (by omega)), gi_I (by omega) (by omega) (by omega), iI_clampN (n := i) (by omega), b1_, iI_succ, i1, gi_I (by omega) (by omega) (by omega), and_not, b1_p (q_lf N (by omega) pla), t1, iI_and]
    have ec : cTog B T n a b t i = (((B i).testBit a && (B i).testBit b) && decide (T (restS (2 ^ n - 1) (B i)) < t)) := rfl
    rw [ec]
    cases hc : ((B i).testBit a && (B i).testBit b) with
    | true =>
      rw [if_pos (by rw [both_tb.mpr hc])]
      by_cases c : T (restS (2 ^ n - 1) (B i)) < t
      · rw [if_neg (fun z => absurd ((iI_le (by omega)).mp z) (by omega)), decide_eq_true c]; rfl
      · rw [if_pos ((iI_le (by omega)).mpr (by omega)), decide_eq_false c]; rfl
    | false =>
      rw [if_neg (fun z => by
        have z1 := (iI_eq (by omega)).mp z
        have z2 := both_tb.mp (by omega : B i &&& (2 ^ a ||| 2 ^ b) = (2 ^ a ||| 2 ^ b))
        rw [hc] at z2
        exact absurd z2 (by decide))]
      rfl
theorem one_tb {w a : Nat} (hw : w < 4096) : (iI (w : Int) &&& iI ((2 ^ a : Nat) : Int) = 0) ↔ w.testBit a = false := (an_0 hw).trans (and_z w a)
theorem rest_or (A w v : Nat) : restS (restS A w) v = restS A (w ||| v) := by
  apply Nat.eq_of_testBit_eq
  intro r
  rw [restS_tb, restS_tb, restS_tb, Nat.testBit_or]
  cases A.testBit r <;> cases w.testBit r <;> cases v.testBit r <;> rfl
theorem lp_cbes (N : Nat) {n g h b t : Nat} {B T : Nat → Nat} {f pla : Nat → Int32} (hn : n ≤ 12) (hg : g ≤ 289) (hb : b < n) (ht : t ≤ 100) (hh : h < 4096) (hB : ∀ i, i < g → f i = iI ((B i : Nat) : Int) ∧ B i < 4096) (hT : ∀ R, R < 2 ^ n → pla R = iI ((T R : Nat) : Int) ∧ T R ≤ 100) :
    ∀ (d i fuel : Nat), i + d = g → d < fuel → f_X4_canBeBeside_3 N (iI ((restS (2 ^ n - 1) h : Nat) : Int)) (iI ((2 ^ b : Nat) : Int)) (iI t) (iI g) f pla fuel (iI i) = some (bI (anyF (cBes B T n h b t) d i)) := by
  have h12 := p2_12 hn
  have hp := p2_pos n
  intro d
  induction d with
  | zero =>
    intro i fuel h1 h2
    obtain ⟨k_, rfl⟩ := su_fuel h2
    have e : i = g := by omega
    subst e
    show b_X4_canBeBeside_3 N (iI ((restS (2 ^ n - 1) h : Nat) : Int)) _ (iI t) (iI i) f pla _ (iI (i : Int)) = _
    unfold b_X4_canBeBeside_3
    rw [if_pos ((iI_le (by omega)).mpr (Int.le_refl _))]
    rfl
  | succ d ih =>
    intro i fuel h1 h2
    obtain ⟨k_, rfl⟩ := su_fuel (Nat.lt_of_le_of_lt (Nat.zero_le _) h2)
    obtain ⟨b1_, b2_⟩ := hB i (by omega)
    have q1 := restS_le (2 ^ n - 1) (h ||| B i)
    obtain ⟨t1, t2⟩ := hT (restS (2 ^ n - 1) (h ||| B i)) (by omega)
    have i1 := ih (i + 1) k_ (by omega) (by omega)
    show b_X4_canBeBeside_3 N (iI ((restS (2 ^ n - 1) h : Nat) : Int)) (iI ((2 ^ b : Nat) : Int)) (iI t) (iI g) f pla (f_X4_canBeBeside_3 N (iI ((restS (2 ^ n - 1) h : Nat) : Int)) (iI ((2 ^ b : Nat) : Int)) (iI t) (iI g) f pla k_) (iI i) = some (bI (bif cBes B T n h b t i then true else anyF (cBes B T n h b t) d (i + 1)))
    unfold b_X4_canBeBeside_3
    rw [if_neg (fun c => absurd ((iI_le (by omega)).mp c) (by omega)), if_neg (fun c => absurd ((k_leL (by omega)).mp c) (by omega)), gi_I (by omega) (by omega) (by omega), iI_clampN (n := i) (by omega), b1_, iI_succ, i1, gi_I (by omega) (by omega) (by omega), and_not, rest_or, b1_p (q_lf N (by omega) pla), t1, k_subR]
    have ec : cBes B T n h b t i = ((B i).testBit b && decide (T (restS (2 ^ n - 1) (h ||| B i)) + 1 < t)) := rfl
    rw [ec]
    cases hc : (B i).testBit b with
    | false =>
      rw [if_pos ((one_tb b2_).mpr hc)]; rfl
    | true =>
      rw [if_neg (fun z => by rw [one_tb b2_, hc] at z; exact absurd z (by decide))]
      by_cases c : T (restS (2 ^ n - 1) (h ||| B i)) + 1 < t
      · rw [if_neg (fun z => absurd ((iI_le (by omega)).mp z) (by omega)), decide_eq_true c]; rfl
      · rw [if_pos ((iI_le (by omega)).mpr (by omega)), decide_eq_false c]; rfl
theorem lp_capa (N : Nat) (hN : 5000 ≤ N) {n g a b t : Nat} {B T : Nat → Nat} {f pla : Nat → Int32} (hn : n ≤ 12) (hg : g ≤ 289) (hb : b < n) (ht : t ≤ 100) (hB : ∀ i, i < g → f i = iI ((B i : Nat) : Int) ∧ B i < 4096) (hT : ∀ R, R < 2 ^ n → pla R = iI ((T R : Nat) : Int) ∧ T R ≤ 100) :
    ∀ (d i fuel : Nat), i + d = g → d < fuel → f_X4_canBeApart_3 N (iI ((2 ^ n - 1 : Nat) : Int)) (iI ((2 ^ a : Nat) : Int)) (iI ((2 ^ b : Nat) : Int)) (iI t) (iI g) f pla fuel (iI i) = some (bI (anyF (cApa B T n a b t g) d i)) := by
  intro d
  induction d with
  | zero =>
    intro i fuel h1 h2
    obtain ⟨k_, rfl⟩ := su_fuel h2
    have e : i = g := by omega
    subst e
    show b_X4_canBeApart_3 N _ _ _ (iI t) (iI i) f pla _ (iI (i : Int)) = _
    unfold b_X4_canBeApart_3
    rw [if_pos ((iI_le (by omega)).mpr (Int.le_refl _))]
    rfl
  | succ d ih =>
    intro i fuel h1 h2
    obtain ⟨k_, rfl⟩ := su_fuel (Nat.lt_of_le_of_lt (Nat.zero_le _) h2)
    obtain ⟨b1_, b2_⟩ := hB i (by omega)
    have i1 := ih (i + 1) k_ (by omega) (by omega)
    have w : f_X4_canBeBeside N (iI ((restS (2 ^ n - 1) (B i) : Nat) : Int)) (iI ((2 ^ b : Nat) : Int)) (iI t) (iI g) f pla = some (bI (anyF (cBes B T n (B i) b t) g 0)) := lp_cbes N hn hg hb ht b2_ hB hT g 0 N (by omega) (by omega)
    show b_X4_canBeApart_3 N (iI ((2 ^ n - 1 : Nat) : Int)) (iI ((2 ^ a : Nat) : Int)) (iI ((2 ^ b : Nat) : Int)) (iI t) (iI g) f pla (f_X4_canBeApart_3 N (iI ((2 ^ n - 1 : Nat) : Int)) (iI ((2 ^ a : Nat) : Int)) (iI ((2 ^ b : Nat) : Int)) (iI t) (iI g) f pla k_) (iI i) = some (bI (bif cApa B T n a b t g i then true else anyF (cApa B T n a b t g) d (i + 1)))
    unfold b_X4_canBeApart_3
    rw [if_neg (fun c => absurd ((iI_le (by omega)).mp c) (by omega)), if_neg (fun c => absurd ((k_leL (by omega)).mp c) (by omega)), gi_I (by omega) (by omega) (by omega), iI_clampN (n := i) (by omega), b1_, iI_succ, i1, gi_I (by omega) (by omega) (by omega), and_not, b1_p w, ifb]
    have ec : cApa B T n a b t g i = ((B i).testBit a && anyF (cBes B T n (B i) b t) g 0) := rfl
    rw [ec]
    cases hc : (B i).testBit a with
    | false =>
      rw [if_pos ((one_tb b2_).mpr hc)]; rfl
    | true =>
      rw [if_neg (fun z => by rw [one_tb b2_, hc] at z; exact absurd z (by decide))]
      cases anyF (cBes B T n (B i) b t) g 0 <;> rfl
theorem sub_tb {w v : Nat} (h : w &&& v = w) (r : Nat) (hr : w.testBit r = true) : v.testBit r = true := by
  rw [← h, Nat.testBit_and, Bool.and_eq_true] at hr
  exact hr.2
theorem rest_mono {A w v : Nat} (h : ∀ r, w.testBit r = true → v.testBit r = true) (r : Nat) (hr : (restS A v).testBit r = true) : (restS A w).testBit r = true := by
  rw [restS_tb] at hr ⊢
  cases hA : A.testBit r with
  | false => rw [hA] at hr; exact absurd hr (by simp)
  | true =>
    rw [hA] at hr
    cases hw : w.testBit r with
    | false => rfl
    | true => rw [h r hw] at hr; exact absurd hr (by decide)
theorem rest_b {A w v b : Nat} (h : v.testBit b = true) : restS (restS A (restS w (2 ^ b))) v = restS A (w ||| v) := by
  apply Nat.eq_of_testBit_eq
  intro r
  rw [restS_tb, restS_tb, restS_tb, restS_tb, Nat.testBit_or, Nat.testBit_two_pow]
  by_cases e : b = r
  · subst e
    rw [h]
    cases A.testBit b <;> cases w.testBit b <;> simp
  · rw [decide_eq_false e]
    cases A.testBit r <;> cases w.testBit r <;> cases v.testBit r <;> rfl
/-- both sides ask the same of two rows -/
theorem tog_one {n g a b : Nat} {W B : Nat → Nat} (hn : n ≤ 12) (h1 : ∀ i, i < g → ∃ law, law < 289 ∧ B i = W law) (h2 : ∀ law, law < 289 → ∃ i, i < g ∧ W law &&& B i = W law) : anyF (cTog B (covT W) n a b (covT W (2 ^ n - 1))) g 0 = anyF (pOne W (covT W) n a b (covT W (2 ^ n - 1))) 289 0 := by
  have h12 := p2_12 hn
  have hp := p2_pos n
  rw [Bool.eq_iff_iff, anyF_t, anyF_t]
  constructor
  · intro ⟨i, ⟨_, i1⟩, i2⟩
    obtain ⟨law, l1, l2⟩ := h1 i (by omega)
    unfold cTog at i2
    rw [l2, Bool.and_eq_true, Bool.and_eq_true] at i2
    obtain ⟨⟨c1, c2⟩, c3⟩ := i2
    have c3 := of_decide_eq_true c3
    have cl := cov_L (W := W) (2 ^ n - 1) (2 ^ n - 1) law (Nat.le_refl _) (by omega) l1
    refine ⟨law, ⟨Nat.zero_le _, by omega⟩, ?_⟩
    unfold pOne
    rw [c1, c2, decide_eq_true (by omega)]; rfl
  · intro ⟨law, ⟨_, l1⟩, l2⟩
    unfold pOne at l2
    rw [Bool.and_eq_true, Bool.and_eq_true] at l2
    obtain ⟨c1, c2, c3⟩ := l2
    have c3 := of_decide_eq_true c3
    obtain ⟨i, i1, i2⟩ := h2 law (by omega)
    have q1 := restS_le (2 ^ n - 1) (W law)
    have q2 := restS_le (2 ^ n - 1) (B i)
    have mo := cov_M (W := W) (restS (2 ^ n - 1) (W law)) (restS (2 ^ n - 1) (W law)) (restS (2 ^ n - 1) (B i)) (Nat.le_refl _) (by omega) (rest_mono (sub_tb i2)) (by omega)
    refine ⟨i, ⟨Nat.zero_le _, by omega⟩, ?_⟩
    unfold cTog
    rw [sub_tb i2 a c1, sub_tb i2 b c2, decide_eq_true (by omega)]; rfl
theorem tog_two {n g a b : Nat} {W B : Nat → Nat} (hn : n ≤ 12) (hb : b < n) (ht : covT W (2 ^ n - 1) < 100) (h1 : ∀ i, i < g → ∃ law, law < 289 ∧ B i = W law) (h2 : ∀ law, law < 289 → ∃ i, i < g ∧ W law &&& B i = W law) : anyF (cApa B (covT W) n a b (covT W (2 ^ n - 1)) g) g 0 = anyF (pTwo W (covT W) n a b (covT W (2 ^ n - 1))) 289 0 := by
  have h12 := p2_12 hn
  have hp := p2_pos n
  rw [Bool.eq_iff_iff, anyF_t, anyF_t]
  constructor
  · intro ⟨i, ⟨_, i1⟩, i2⟩
    obtain ⟨law, l1, l2⟩ := h1 i (by omega)
    unfold cApa at i2
    rw [Bool.and_eq_true, anyF_t, l2] at i2
    obtain ⟨c1, j, ⟨_, j1⟩, j2⟩ := i2
    obtain ⟨m, m1, m2⟩ := h1 j (by omega)
    unfold cBes at j2
    rw [Bool.and_eq_true, m2] at j2
    obtain ⟨c2, c3⟩ := j2
    have c3 := of_decide_eq_true c3
    have q1 := restS_le (2 ^ n - 1) (restS (W law) (2 ^ b))
    have q2 := restS_le (2 ^ n - 1) (W law)
    have cl := cov_L (W := W) (restS (2 ^ n - 1) (restS (W law) (2 ^ b))) (restS (2 ^ n - 1) (restS (W law) (2 ^ b))) m (Nat.le_refl _) (by omega) m1
    rw [rest_b c2] at cl
    have cm := cov_L (W := W) (2 ^ n - 1) (2 ^ n - 1) law (Nat.le_refl _) (by omega) l1
    have mo := cov_M (W := W) (restS (2 ^ n - 1) (restS (W law) (2 ^ b))) (restS (2 ^ n - 1) (restS (W law) (2 ^ b))) (restS (2 ^ n - 1) (W law)) (Nat.le_refl _) (by omega) (rest_mono (fun r hr => by
      rw [restS_tb, Bool.and_eq_true] at hr
      exact hr.1)) (by omega)
    refine ⟨law, ⟨Nat.zero_le _, by omega⟩, ?_⟩
    unfold pTwo
    rw [c1, decide_eq_true (by omega)]; rfl
  · intro ⟨law, ⟨_, l1⟩, l2⟩
    unfold pTwo at l2
    rw [Bool.and_eq_true] at l2
    obtain ⟨c1, c3⟩ := l2
    have c3 := of_decide_eq_true c3
    have q1 := restS_le (2 ^ n - 1) (restS (W law) (2 ^ b))
    have tb : (restS (2 ^ n - 1) (restS (W law) (2 ^ b))).testBit b = true := by
      rw [restS_tb, restS_tb, Nat.testBit_two_pow_sub_one, Nat.testBit_two_pow_self, decide_eq_true hb]
      cases (W law).testBit b <;> rfl
    obtain ⟨m, m1, m2, m3⟩ := cov_Q (W := W) _ _ b (Nat.le_refl _) (by omega) tb (by omega)
    rw [rest_b m2] at m3
    obtain ⟨i, i1, i2⟩ := h2 law (by omega)
    obtain ⟨j, j1, j2⟩ := h2 m m1
    have q2 := restS_le (2 ^ n - 1) (W law ||| W m)
    have q3 := restS_le (2 ^ n - 1) (B i ||| B j)
    have mo := cov_M (W := W) (restS (2 ^ n - 1) (W law ||| W m)) (restS (2 ^ n - 1) (W law ||| W m)) (restS (2 ^ n - 1) (B i ||| B j)) (Nat.le_refl _) (by omega) (rest_mono (fun r hr => by
      rw [Nat.testBit_or, Bool.or_eq_true] at hr ⊢
      rcases hr with hr | hr
      · exact Or.inl (sub_tb i2 r hr)
      · exact Or.inr (sub_tb j2 r hr))) (by omega)
    refine ⟨i, ⟨Nat.zero_le _, by omega⟩, ?_⟩
    unfold cApa
    rw [sub_tb i2 a c1, Bool.true_and, anyF_t]
    refine ⟨j, ⟨Nat.zero_le _, by omega⟩, ?_⟩
    unfold cBes
    rw [sub_tb j2 b m2, decide_eq_true (by omega)]; rfl
theorem P_together : PS_together InvA := by
  intro N hN bsz bgp ber bxs bus bys bme pgc prc pgr pla tle tga trr tat tfa tby tnu rlc rla rmo ksz kmb kwa kra kla lo hi glo ghi sla ssz sit mrm mer mtd mat mwr mkn mmb mwa mra mbl mbh dxs dus dys dgp dtp dme dle dlt dkl dln dsz dit dmv hI p0 p1
  have hI' := hI
  obtain ⟨n, E, RX, RU, RY, G, hB, hP, hR⟩ := hI'
  have hB' := hB
  obtain ⟨⟨hn, hE, rfl, rfl, rfl, rfl, rfl⟩, hr, hm⟩ := hB'
  obtain ⟨z0, r0, rfl⟩ := iI_of p0
  obtain ⟨z1, r1, rfl⟩ := iI_of p1
  have h12 := p2_12 hn
  have hp := p2_pos n
  have hRM : RowsM n E RX RU RY G dxs dus dys dgp := ⟨hn, hE, fun r h => (hr r h).2⟩
  by_cases c0 : 0 ≤ z0 ∧ z0 < (n : Int)
  case neg =>
    refine ⟨-1, _, _, _, _, _, _, ?_, ?_, hI⟩
    · unfold f_X8_together
      rw [b1_p (q_has0 N r0 hn), in_f c0, bI_f, if_pos rfl]
    · unfold f_X9_together
      rw [b1_p (q_isRow9 N r0 hn), in_f c0, bI_f, if_pos rfl]
  obtain ⟨a, rfl⟩ := Int.eq_ofNat_of_zero_le c0.1
  have ha : a < n := by omega
  have eh0 := q_has0 N (z := (a : Int)) (by omega) hn
  rw [in_t ha, bI_t] at eh0
  have ei0 := q_isRow9 N (z := (a : Int)) (by omega) hn
  rw [in_t ha, bI_t] at ei0
  by_cases c1 : 0 ≤ z1 ∧ z1 < (n : Int)
  case neg =>
    refine ⟨-1, _, _, _, _, _, _, ?_, ?_, hI⟩
    · unfold f_X8_together
      rw [b1_p eh0, if_neg (by decide), b1_p (q_has0 N r1 hn), in_f c1, bI_f, if_pos rfl]
    · unfold f_X9_together
      rw [b1_p ei0, if_neg (by decide), b1_p (q_isRow9 N r1 hn), in_f c1, bI_f, if_pos rfl]
  obtain ⟨b, rfl⟩ := Int.eq_ofNat_of_zero_le c1.1
  have hb : b < n := by omega
  have eh1 := q_has0 N (z := (b : Int)) (by omega) hn
  rw [in_t hb, bI_t] at eh1
  have ei1 := q_isRow9 N (z := (b : Int)) (by omega) hn
  rw [in_t hb, bI_t] at ei1
  by_cases cab : a = b
  · subst cab
    refine ⟨-1, _, _, _, _, _, _, ?_, ?_, hI⟩
    · unfold f_X8_together
      rw [b1_p eh0, if_neg (by decide), b1_p eh1, if_neg (by decide), if_pos rfl]
    · unfold f_X9_together
      rw [b1_p ei0, if_neg (by decide), b1_p ei1, if_neg (by decide), if_pos rfl]
  have hab : ¬ iI (a : Int) = iI (b : Int) := fun q => cab (by have := (iI_eq (by omega)).mp q; omega)
  have hc := covT_100 (fun law => bts (mt RX RU RY G E law) n) (S := 2 ^ n - 1) (by omega)
  obtain ⟨pgc', pgr', pla', e1, e2, e3⟩ := q_least8 N hN (W := fun law => bts (mt RX RU RY G E law) n) hn (fun law => bts_small _ hn) hm hP
  obtain ⟨dme', dle', t1, t2, t3⟩ := q_tables9 N hN hRM dme dle
  have hG := e3 (by omega)
  obtain ⟨g, B, g1, rfl, g2, g3⟩ := hG
  have hP2 := InvP_of hn e2 e3
  by_cases ct : covT (fun law => bts (mt RX RU RY G E law) n) (2 ^ n - 1) < 100
  case neg =>
    refine ⟨-4, _, _, _, _, dme', dle', ?_, ?_, n, E, RX, RU, RY, G, hB, hP2, hR⟩
    · have ef : fewR (covT (fun law => bts (mt RX RU RY G E law) n) (2 ^ n - 1)) = -4 := by unfold fewR; rw [if_neg ct]
      rw [ef] at e1
      unfold f_X8_together f_X4_howTogether
      rw [b1_p eh0, if_neg (by decide), b1_p eh1, if_neg (by decide), if_neg hab, b5_p e1, if_neg (by decide)]
      rfl
    · unfold f_X9_together
      rw [b1_p ei0, if_neg (by decide), b1_p ei1, if_neg (by decide), if_neg hab, b2_p t1, all_9 hn, gi_I (by omega) (by omega) (by omega), iI_clampN (n := 2 ^ n - 1) (by omega), t3 (2 ^ n - 1) (by omega), nm_p, if_neg (fun z => ct (by have := (k_ltR (by omega)).mp z; omega))]
  have ef : fewR (covT (fun law => bts (mt RX RU RY G E law) n) (2 ^ n - 1)) = iI ((covT (fun law => bts (mt RX RU RY G E law) n) (2 ^ n - 1) : Nat) : Int) := by unfold fewR; rw [if_pos ct]
  rw [ef] at e1
  have hBB : ∀ i, i < g → pgr' i = iI ((B i : Nat) : Int) ∧ B i < 4096 := fun i hi => ⟨(g2 i hi).1, by
    obtain ⟨law, _, l2⟩ := (g2 i hi).2
    rw [l2]; exact bts_small _ hn⟩
  have o1 := tog_one (a := a) (b := b) hn (fun i hi => (g2 i hi).2) g3
  have o2 := tog_two (a := a) (b := b) hn hb ct (fun i hi => (g2 i hi).2) g3
  have w1 := lp_ctog N (a := a) (b := b) (t := covT (fun law => bts (mt RX RU RY G E law) n) (2 ^ n - 1)) (T := covT (fun law => bts (mt RX RU RY G E law) n)) (pla := pla') hn g1 ha hb (by omega) hBB (fun R hR => ⟨e2 R hR, covT_100 _ (by omega)⟩) g 0 N (by omega) (by omega)
  have w2 := lp_capa N hN (a := a) (b := b) (t := covT (fun law => bts (mt RX RU RY G E law) n) (2 ^ n - 1)) (T := covT (fun law => bts (mt RX RU RY G E law) n)) (pla := pla') hn g1 hb (by omega) hBB (fun R hR => ⟨e2 R hR, covT_100 _ (by omega)⟩) g 0 N (by omega) (by omega)
  have w3 := lp_tog9 N (a := a) (b := b) (t := covT (fun law => bts (mt RX RU RY G E law) n) (2 ^ n - 1)) (W := fun law => bts (mt RX RU RY G E law) n) (T := covT (fun law => bts (mt RX RU RY G E law) n)) (dme := dme') (dle := dle') hn ha hb (by omega) (fun law => bts_lt _ n) t2 (fun R hR => ⟨t3 R hR, covT_100 _ (by omega)⟩) 289 0 N false false rfl (by omega)
  rw [o1] at w1
  rw [o2] at w2
  rw [Bool.false_or, Bool.false_or] at w3
  refine ⟨togR (anyF (pOne (fun law => bts (mt RX RU RY G E law) n) (covT (fun law => bts (mt RX RU RY G E law) n)) n a b (covT (fun law => bts (mt RX RU RY G E law) n) (2 ^ n - 1))) 289 0) (anyF (pTwo (fun law => bts (mt RX RU RY G E law) n) (covT (fun law => bts (mt RX RU RY G E law) n)) n a b (covT (fun law => bts (mt RX RU RY G E law) n) (2 ^ n - 1))) 289 0), _, _, _, _, dme', dle', ?_, ?_, n, E, RX, RU, RY, G, hB, hP2, hR⟩
  · have w1' : f_X4_canBeTogether N (iI ((2 ^ n - 1 : Nat) : Int)) (iI ((2 ^ a ||| 2 ^ b : Nat) : Int)) (iI ((covT (fun law => bts (mt RX RU RY G E law) n) (2 ^ n - 1) : Nat) : Int)) (iI (g : Int)) pgr' pla' = _ := w1
    have w2' : f_X4_canBeApart N (iI ((2 ^ n - 1 : Nat) : Int)) (iI ((2 ^ a : Nat) : Int)) (iI ((2 ^ b : Nat) : Int)) (iI ((covT (fun law => bts (mt RX RU RY G E law) n) (2 ^ n - 1) : Nat) : Int)) (iI (g : Int)) pgr' pla' = _ := w2
    unfold f_X8_together f_X4_howTogether
    rw [b1_p eh0, if_neg (by decide), b1_p eh1, if_neg (by decide), if_neg hab, b5_p e1, if_pos ((k_leL (by omega)).mpr (by omega)), q_shl1 (by omega), q_shl1 (by omega), iI_or, b1_p (q_all0 N hn), b1_p w1', b1_p (q_all0 N hn), b1_p w2', ifb, ifb]
    unfold togR
    cases anyF (pOne (fun law => bts (mt RX RU RY G E law) n) (covT (fun law => bts (mt RX RU RY G E law) n)) n a b (covT (fun law => bts (mt RX RU RY G E law) n) (2 ^ n - 1))) 289 0 <;> cases anyF (pTwo (fun law => bts (mt RX RU RY G E law) n) (covT (fun law => bts (mt RX RU RY G E law) n)) n a b (covT (fun law => bts (mt RX RU RY G E law) n) (2 ^ n - 1))) 289 0 <;> rfl
  · unfold f_X9_together
    rw [b1_p ei0, if_neg (by decide), b1_p ei1, if_neg (by decide), if_neg hab, b2_p t1, all_9 hn, gi_I (by omega) (by omega) (by omega), iI_clampN (n := 2 ^ n - 1) (by omega), t3 (2 ^ n - 1) (by omega), nm_p, if_pos ((k_ltR (by omega)).mpr (by omega))]
    exact w3
