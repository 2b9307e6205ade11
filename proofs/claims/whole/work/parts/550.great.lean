/-! the class: its greatest heaps, its table -/
theorem an_z {a b : Nat} (ha : a < 4096) : (iI (a : Int) &&& (iI (b : Int) ^^^ (-1 : Int32)) = 0) ↔ restS a b = 0 := by
  have h := restS_le a b
  rw [and_not]
  exact (k_eqR (by omega)).trans (by omega)
theorem an_0 {a b : Nat} (ha : a < 4096) : (iI (a : Int) &&& iI (b : Int) = 0) ↔ a &&& b = 0 := by
  have h : a &&& b ≤ a := Nat.and_le_left
  rw [iI_and]
  exact (k_eqR (by omega)).trans (by omega)
theorem rest_0 {a b : Nat} : restS a b = 0 ↔ a &&& b = a := by
  constructor
  · intro h
    apply Nat.eq_of_testBit_eq
    intro r
    have h1 := restS_tb a b r
    rw [h, Nat.zero_testBit] at h1
    rw [Nat.testBit_and]
    cases ha : a.testBit r with
    | false => rfl
    | true =>
      rw [ha] at h1
      cases hb : b.testBit r with
      | true => rfl
      | false => rw [hb] at h1; exact absurd h1 (by decide)
  · intro h
    unfold restS
    rw [h, Nat.xor_self]
theorem and_tr {a b c : Nat} (h1 : a &&& b = a) (h2 : b &&& c = b) : a &&& c = a := by
  have e1 : a &&& c = (a &&& b) &&& c := by rw [h1]
  rw [e1, Nat.and_assoc, h2, h1]
theorem q_lf (N : Nat) {S : Nat} (hS : S < 4096) (f : Nat → Int32) : f_X4_lawsFor N (iI (S : Int)) f = some (f S) := by
  unfold f_X4_lawsFor
  rw [if_neg (fun c => absurd ((k_ltR (by omega)).mp c) (by omega)), if_neg (fun c => absurd ((k_leL (by omega)).mp c) (by omega)), gi_I (by omega) (by omega) (by omega), iI_clampN (by omega)]
theorem anyF_t {p : Nat → Bool} {d l : Nat} : anyF p d l = true ↔ ∃ r, (l ≤ r ∧ r < l + d) ∧ p r = true := by
  constructor
  · intro h
    apply Classical.byContradiction
    intro hc
    have h2 : anyF p d l = false := anyF_f.mpr (fun r r1 r2 => by
      cases hp : p r with
      | false => rfl
      | true => exact absurd ⟨r, ⟨r1, r2⟩, hp⟩ hc)
    rw [h] at h2
    exact absurd h2 (by decide)
  · intro ⟨r, ⟨r1, r2⟩, hp⟩
    cases h : anyF p d l with
    | true => rfl
    | false =>
      have := anyF_f.mp h r r1 r2
      rw [hp] at this
      exact absurd this (by decide)
theorem lp_wing (N : Nat) {h g : Nat} {B : Nat → Nat} {f : Nat → Int32} (hh : h < 4096) (hg : g < 289) (hB : ∀ i, i < g → f i = iI ((B i : Nat) : Int)) :
    ∀ (d i fuel : Nat), i + d = g → d < fuel → f_X4_isWithinGreatest_2 N (iI h) (iI g) f fuel (iI i) = some (bI (anyF (fun i => decide (restS h (B i) = 0)) d i)) := by
  intro d
  induction d with
  | zero =>
    intro i fuel h1 h2
    obtain ⟨k_, rfl⟩ := su_fuel h2
    have e : i = g := by omega
    subst e
    show b_X4_isWithinGreatest_2 N (iI h) (iI i) f _ (iI (i : Int)) = _
    unfold b_X4_isWithinGreatest_2
    rw [if_pos ((iI_le (by omega)).mpr (Int.le_refl _))]
    rfl
  | succ d ih =>
    intro i fuel h1 h2
    obtain ⟨k_, rfl⟩ := su_fuel (Nat.lt_of_le_of_lt (Nat.zero_le _) h2)
    show b_X4_isWithinGreatest_2 N (iI h) (iI g) f (f_X4_isWithinGreatest_2 N (iI h) (iI g) f k_) (iI i) = some (bI (bif decide (restS h (B i) = 0) then true else anyF (fun i => decide (restS h (B i) = 0)) d (i + 1)))
    unfold b_X4_isWithinGreatest_2
    rw [if_neg (fun c => absurd ((iI_le (by omega)).mp c) (by omega)), if_neg (fun c => absurd ((k_leL (by omega)).mp c) (by omega)), gi_I (by omega) (by omega) (by omega), iI_clampN (n := i) (by omega), hB i (by omega), iI_succ]
    by_cases c : restS h (B i) = 0
    · rw [if_pos ((an_z hh).mpr c), decide_eq_true c]; rfl
    · rw [if_neg (fun q => c ((an_z hh).mp q)), decide_eq_false c]
      exact ih (i + 1) k_ (by omega) (by omega)
theorem lp_drop (N : Nat) {h g : Nat} {B : Nat → Nat} (hg : g ≤ 289) (hB : ∀ i, i < g → B i < 4096) :
    ∀ (d i fuel k : Nat) (f : Nat → Int32), i + d = g → d < fuel → k ≤ i → (∀ r, i ≤ r → r < g → f r = iI ((B r : Nat) : Int)) → (∀ j, j < k → ∃ r, r < g ∧ f j = iI ((B r : Nat) : Int)) → (∀ r, r < i → restS (B r) h = 0 ∨ ∃ j, j < k ∧ f j = iI ((B r : Nat) : Int)) → ∃ (k' : Nat) (f' : Nat → Int32), f_X4_dropWithin_4 N (iI h) fuel (iI k) (iI i) (iI g) f = some (iI k', f') ∧ k' ≤ g ∧ (∀ j, j < k' → ∃ r, r < g ∧ f' j = iI ((B r : Nat) : Int)) ∧ ∀ r, r < g → restS (B r) h = 0 ∨ ∃ j, j < k' ∧ f' j = iI ((B r : Nat) : Int) := by
  intro d
  induction d with
  | zero =>
    intro i fuel k f h1 h2 h3 h4 h5 h6
    obtain ⟨k_, rfl⟩ := su_fuel h2
    have e : i = g := by omega
    subst e
    refine ⟨k, f, ?_, h3, h5, h6⟩
    show b_X4_dropWithin_4 N (iI h) _ (iI k) (iI (i : Int)) (iI i) f = _
    unfold b_X4_dropWithin_4
    rw [if_pos ((iI_le (by omega)).mpr (Int.le_refl _))]
  | succ d ih =>
    intro i fuel k f h1 h2 h3 h4 h5 h6
    obtain ⟨k_, rfl⟩ := su_fuel (Nat.lt_of_le_of_lt (Nat.zero_le _) h2)
    have hfi := h4 i (Nat.le_refl _) (by omega)
    by_cases c : restS (B i) h = 0
    · obtain ⟨k', f', e1, e2⟩ := ih (i + 1) k_ k f (by omega) (by omega) (by omega) (fun r a b => h4 r (by omega) b) h5 (fun r hr => by
        by_cases e : r = i
        · subst e; exact Or.inl c
        · exact h6 r (by omega))
      refine ⟨k', f', ?_, e2⟩
      show b_X4_dropWithin_4 N (iI h) (f_X4_dropWithin_4 N (iI h) k_) (iI k) (iI i) (iI g) f = _
      unfold b_X4_dropWithin_4
      rw [if_neg (fun c => absurd ((iI_le (by omega)).mp c) (by omega)), if_neg (fun c => absurd ((k_leL (by omega)).mp c) (by omega)), gi_I (by omega) (by omega) (by omega), iI_clampN (n := i) (by omega), hfi, if_pos ((an_z (hB i (by omega))).mpr c), iI_succ, e1]
    · obtain ⟨k', f', e1, e2⟩ := ih (i + 1) k_ (k + 1) (upd f k (iI ((B i : Nat) : Int))) (by omega) (by omega) (by omega) (fun r a b => by
        rw [upd_n _ (by omega)]
        exact h4 r (by omega) b) (fun j hj => by
        by_cases e : j = k
        · subst e; exact ⟨i, by omega, upd_s _ _ _⟩
        · obtain ⟨r, a, b⟩ := h5 j (by omega)
          exact ⟨r, a, by rw [upd_n _ e]; exact b⟩) (fun r hr => by
        by_cases e : r = i
        · subst e; exact Or.inr ⟨k, by omega, upd_s _ _ _⟩
        · rcases h6 r (by omega) with a | ⟨j, a, b⟩
          · exact Or.inl a
          · exact Or.inr ⟨j, by omega, by rw [upd_n _ (by omega)]; exact b⟩)
      refine ⟨k', f', ?_, e2⟩
      show b_X4_dropWithin_4 N (iI h) (f_X4_dropWithin_4 N (iI h) k_) (iI k) (iI i) (iI g) f = _
      unfold b_X4_dropWithin_4
      rw [if_neg (fun c => absurd ((iI_le (by omega)).mp c) (by omega)), if_neg (fun c => absurd ((k_leL (by omega)).mp c) (by omega)), gi_I (by omega) (by omega) (by omega), iI_clampN (n := i) (by omega), hfi, if_neg (fun q => c ((an_z (hB i (by omega))).mp q)), if_neg (fun q => absurd ((k_leL (by omega)).mp q) (by omega)), gi_I (by omega) (by omega) (by omega), gi_I (by omega) (by omega) (by omega), iI_clampN (n := k) (by omega), iI_succ k, iI_succ i, e1]
def GrV (f : Nat → Int32) (W : Nat → Nat) (l g : Nat) : Prop := (∀ i, i < g → ∃ law, law < l ∧ f i = iI ((W law : Nat) : Int)) ∧ ∀ law, law < l → ∃ i v, (i < g ∧ v < l) ∧ f i = iI ((W v : Nat) : Int) ∧ W law &&& W v = W law
def clGr (f : Nat → Int32) (i : Nat) : Nat := (f i).toNatClampNeg
theorem clGr_of {f : Nat → Int32} {i w : Nat} (hw : w < 4096) (h : f i = iI (w : Int)) : clGr f i = w := by
  unfold clGr
  rw [h, iI_clampN (by omega)]
theorem clGr_I {f : Nat → Int32} {i w : Nat} (hw : w < 4096) (h : f i = iI (w : Int)) : f i = iI ((clGr f i : Nat) : Int) := by
  rw [clGr_of hw h, h]
theorem q_keep (N : Nat) {k : Nat} (hk : k < 289) (v : Int32) (f : Nat → Int32) : f_X4_keep N v (iI (k : Int)) f = some (iI ((k + 1 : Nat) : Int), upd f k v) := by
  unfold f_X4_keep
  rw [if_neg (fun c => absurd ((k_ltR (by omega)).mp c) (by omega)), if_neg (fun c => absurd ((k_leL (by omega)).mp c) (by omega)), gi_I (by omega) (by omega) (by omega), iI_clampN (n := k) (by omega), iI_succ k]
theorem lp_find (N : Nat) (hN : 5000 ≤ N) {W : Nat → Nat} {bme : Nat → Int32} (hW : ∀ law, W law < 4096) (hm : ∀ law, law < 289 → bme law = iI ((W law : Nat) : Int)) :
    ∀ (d l fuel g : Nat) (f : Nat → Int32), l + d = 289 → d < fuel → g ≤ l → GrV f W l g → ∃ (g' : Nat) (f' : Nat → Int32), f_X4_findGreatest_7 N bme fuel (iI l) (iI g) f = some (iI g', f') ∧ g' ≤ 289 ∧ GrV f' W 289 g' := by
  intro d
  induction d with
  | zero =>
    intro l fuel g f h1 h2 h3 h4
    obtain ⟨k_, rfl⟩ := su_fuel h2
    have e : l = 289 := by omega
    subst e
    refine ⟨g, f, ?_, h3, h4⟩
    show b_X4_findGreatest_7 N bme _ (iI ((289 : Nat) : Int)) (iI g) f = _
    unfold b_X4_findGreatest_7
    rw [if_pos ((k_leL (by omega)).mpr (by omega))]
  | succ d ih =>
    intro l fuel g f h1 h2 h3 h4
    obtain ⟨k_, rfl⟩ := su_fuel (Nat.lt_of_le_of_lt (Nat.zero_le _) h2)
    have hl : l < 289 := by omega
    have hB : ∀ i, i < g → f i = iI ((clGr f i : Nat) : Int) ∧ ∃ law, law < l ∧ clGr f i = W law := fun i hi => by
      obtain ⟨law, a, b⟩ := h4.1 i hi
      exact ⟨clGr_I (hW law) b, law, a, clGr_of (hW law) b⟩
    have w := lp_wing N (hW l) (by omega : g < 289) (fun i hi => (hB i hi).1) g 0 N (by omega) (by omega)
    have w' : f_X4_isWithinGreatest N (iI ((W l : Nat) : Int)) (iI (g : Int)) f = some (bI (anyF (fun i => decide (restS (W l) (clGr f i) = 0)) g 0)) := w
    cases hA : anyF (fun i => decide (restS (W l) (clGr f i) = 0)) g 0 with
    | true =>
      rw [hA] at w'
      obtain ⟨i, ⟨_, i1⟩, i2⟩ := anyF_t.mp hA
      have i3 : restS (W l) (clGr f i) = 0 := of_decide_eq_true i2
      obtain ⟨v, v1, v2⟩ := (hB i (by omega)).2
      obtain ⟨g', f', e1, e2, e3⟩ := ih (l + 1) k_ g f (by omega) (by omega) (by omega) ⟨fun j hj => by
          obtain ⟨law, a, b⟩ := h4.1 j hj
          exact ⟨law, by omega, b⟩, fun law hlaw => by
          by_cases e : law = l
          · subst e
            refine ⟨i, v, ⟨by omega, by omega⟩, ?_, ?_⟩
            · rw [← v2]; exact (hB i (by omega)).1
            · rw [← v2]; exact rest_0.mp i3
          · obtain ⟨i', v', ⟨a1, a2⟩, a3, a4⟩ := h4.2 law (by omega)
            exact ⟨i', v', ⟨a1, by omega⟩, a3, a4⟩⟩
      refine ⟨g', f', ?_, e2, e3⟩
      show b_X4_findGreatest_7 N bme (f_X4_findGreatest_7 N bme k_) (iI l) (iI g) f = _
      unfold b_X4_findGreatest_7
      rw [if_neg (fun c => absurd ((k_leL (by omega)).mp c) (by omega)), b1_p (q_rowsMeeting0 N hl bme), hm l hl, b1_p w', bI_t, if_neg (by decide), iI_succ, e1]
    | false =>
      rw [hA] at w'
      obtain ⟨k', f1, d1, d2, d3, d4⟩ := lp_drop N (h := W l) (g := g) (B := clGr f) (by omega) (fun i hi => by
        obtain ⟨law, a, b⟩ := (hB i hi).2
        rw [b]; exact hW law) g 0 N 0 f (by omega) (by omega) (Nat.le_refl _) (fun r _ hr => (hB r hr).1) (fun j hj => by omega) (fun r hr => by omega)
      have d1' : f_X4_dropWithin N (iI ((W l : Nat) : Int)) (iI (g : Int)) f = some (iI (k' : Int), f1) := d1
      obtain ⟨g', f', e1, e2, e3⟩ := ih (l + 1) k_ (k' + 1) (upd f1 k' (iI ((W l : Nat) : Int))) (by omega) (by omega) (by omega) ⟨fun j hj => by
          by_cases e : j = k'
          · subst e; exact ⟨l, by omega, upd_s _ _ _⟩
          · obtain ⟨r, r1, r2⟩ := d3 j (by omega)
            obtain ⟨law, a, b⟩ := (hB r r1).2
            exact ⟨law, by omega, by rw [upd_n _ e, r2, b]⟩, fun law hlaw => by
          by_cases e : law = l
          · subst e
            exact ⟨k', law, ⟨by omega, by omega⟩, upd_s _ _ _, Nat.and_self _⟩
          · obtain ⟨i', v', ⟨a1, a2⟩, a3, a4⟩ := h4.2 law (by omega)
            have eb := clGr_of (hW v') a3
            rcases d4 i' a1 with z | ⟨j, j1, j2⟩
            · rw [eb] at z
              exact ⟨k', l, ⟨by omega, by omega⟩, upd_s _ _ _, and_tr a4 (rest_0.mp z)⟩
            · rw [eb] at j2
              exact ⟨j, v', ⟨by omega, by omega⟩, by rw [upd_n _ (by omega)]; exact j2, a4⟩⟩
      refine ⟨g', f', ?_, e2, e3⟩
      show b_X4_findGreatest_7 N bme (f_X4_findGreatest_7 N bme k_) (iI l) (iI g) f = _
      unfold b_X4_findGreatest_7
      rw [if_neg (fun c => absurd ((k_leL (by omega)).mp c) (by omega)), b1_p (q_rowsMeeting0 N hl bme), hm l hl, b1_p w', bI_f, if_pos rfl, b2_p d1', b2_p (q_keep N (k := k') (by omega) _ f1), iI_succ l, e1]
theorem min_1 {x a : Nat} (hx : x ≤ 100) (ha : a ≤ 100) : (if (1 : Int32) + iI (x : Int) < iI (a : Int) then (1 : Int32) + iI (x : Int) else iI (a : Int)) = iI ((min a (x + 1) : Nat) : Int) := by
  have ea : (1 : Int32) + iI (x : Int) = iI ((x + 1 : Nat) : Int) := by rw [l1_I, iI_add]; congr 1; omega
  rw [ea]
  by_cases q : x + 1 < a
  · rw [if_pos ((iI_lt (by omega)).mpr (by omega)), Nat.min_eq_right (by omega)]
  · rw [if_neg (fun z => q (by have := (iI_lt (by omega)).mp z; omega)), Nat.min_eq_left (by omega)]
theorem lp_cl (N : Nat) {S g : Nat} {B T : Nat → Nat} {f pla : Nat → Int32} (hS : S < 4096) (h0 : 0 < S) (hg : g ≤ 289) (hB : ∀ i, i < g → f i = iI ((B i : Nat) : Int) ∧ B i < 4096) (hT : ∀ R, R < S → pla R = iI ((T R : Nat) : Int) ∧ T R ≤ 100) :
    ∀ (d i fuel : Nat), i + d = g → d < fuel → f_X4_countLaws_11 N (iI S) (iI ((lowb S : Nat) : Int)) (iI g) f pla fuel (iI ((stepMin B T S i : Nat) : Int)) (iI i) = some (iI ((stepMin B T S g : Nat) : Int)) := by
  intro d
  induction d with
  | zero =>
    intro i fuel h1 h2
    obtain ⟨k_, rfl⟩ := su_fuel h2
    have e : i = g := by omega
    subst e
    show b_X4_countLaws_11 N (iI S) (iI ((lowb S : Nat) : Int)) (iI i) f pla _ _ (iI (i : Int)) = _
    unfold b_X4_countLaws_11
    rw [if_pos ((iI_le (by omega)).mpr (Int.le_refl _))]
  | succ d ih =>
    intro i fuel h1 h2
    obtain ⟨k_, rfl⟩ := su_fuel (Nat.lt_of_le_of_lt (Nat.zero_le _) h2)
    have hi := hB i (by omega)
    have h100 := stepMin_100 B T S i
    have i1 := ih (i + 1) k_ (by omega) (by omega)
    have es : stepMin B T S (i + 1) = if (B i &&& lowb S) = 0 then stepMin B T S i else min (stepMin B T S i) (T (restS S (B i)) + 1) := rfl
    show b_X4_countLaws_11 N (iI S) (iI ((lowb S : Nat) : Int)) (iI g) f pla (f_X4_countLaws_11 N (iI S) (iI ((lowb S : Nat) : Int)) (iI g) f pla k_) _ (iI i) = _
    unfold b_X4_countLaws_11
    rw [if_neg (fun c => absurd ((iI_le (by omega)).mp c) (by omega)), if_neg (fun c => absurd ((k_leL (by omega)).mp c) (by omega)), gi_I (by omega) (by omega) (by omega), iI_clampN (n := i) (by omega), hi.1, iI_succ i]
    by_cases c : B i &&& lowb S = 0
    · rw [es, if_pos c] at i1
      rw [if_pos ((an_0 hi.2).mpr c)]
      exact i1
    · have hl := low_lt hS h0 c
      obtain ⟨t1, t2⟩ := hT (restS S (B i)) hl
      rw [es, if_neg c] at i1
      rw [if_neg (fun q => c ((an_0 hi.2).mp q)), gi_I (by omega) (by omega) (by omega), and_not, b1_p (q_lf N (by omega) pla), t1, min_1 t2 h100]
      exact i1
theorem q_cl (N : Nat) (hN : 5000 ≤ N) {S g : Nat} {B T : Nat → Nat} {f pla : Nat → Int32} (hS : S < 4096) (h0 : 0 < S) (hg : g ≤ 289) (hB : ∀ i, i < g → f i = iI ((B i : Nat) : Int) ∧ B i < 4096) (hT : ∀ R, R < S → pla R = iI ((T R : Nat) : Int) ∧ T R ≤ 100) : f_X4_countLaws N (iI S) (iI g) f pla = some (iI ((stepMin B T S g : Nat) : Int)) := by
  unfold f_X4_countLaws
  rw [q_lowb hS]
  exact lp_cl N hS h0 hg hB hT g 0 N (by omega) (by omega)
set_option maxRecDepth 100000 in
theorem nar_8 : ∀ v, v < 101 → vp_nar .byte ((nI v).toInt8.toInt32) = nI v := by decide +kernel
theorem q_nar8 {v : Nat} (hv : v ≤ 100) : vp_nar .byte ((iI (v : Int)).toInt8.toInt32) = iI (v : Int) := by
  rw [iI_nat]
  exact nar_8 v (by omega)
theorem lp_ch (N : Nat) (hN : 5000 ≤ N) {n g : Nat} {B W : Nat → Nat} {f : Nat → Int32} (hn : n ≤ 12) (hg : g ≤ 289) (hW : ∀ law, W law < 4096) (hB : ∀ i, i < g → f i = iI ((B i : Nat) : Int) ∧ ∃ law, law < 289 ∧ B i = W law) (hC : ∀ law, law < 289 → ∃ i, i < g ∧ W law &&& B i = W law) :
    ∀ (d S fuel : Nat) (pla : Nat → Int32), S + d = 2 ^ n → 0 < S → d < fuel → (∀ R, R < S → pla R = iI ((covT W R : Nat) : Int)) → ∃ pla' : Nat → Int32, f_X4_countHeaps_24 N (iI g) f (iI n) fuel (iI S) pla = some (iI g, iI n, f, pla') ∧ ∀ R, R < 2 ^ n → pla' R = iI ((covT W R : Nat) : Int) := by
  have h12 := p2_12 hn
  intro d
  induction d with
  | zero =>
    intro S fuel pla h1 h0 h2 h4
    obtain ⟨k_, rfl⟩ := su_fuel h2
    have e : S = 2 ^ n := by omega
    subst e
    refine ⟨pla, ?_, h4⟩
    show b_X4_countHeaps_24 N (iI g) f (iI n) _ (iI ((2 ^ n : Nat) : Int)) pla = _
    unfold b_X4_countHeaps_24
    rw [b1_p (q_all0 N hn), if_pos ((iI_lt (by omega)).mpr (by omega)), b1_p (rfl : f_X0_size N (iI (n : Int)) = some (iI (n : Int)))]
  | succ d ih =>
    intro S fuel pla h1 h0 h2 h4
    obtain ⟨k_, rfl⟩ := su_fuel (Nat.lt_of_le_of_lt (Nat.zero_le _) h2)
    have hc := covT_100 W (S := S) (by omega)
    obtain ⟨pla', e1, e2⟩ := ih (S + 1) k_ (upd pla S (iI ((covT W S : Nat) : Int))) (by omega) (by omega) (by omega) (fun R hR => by
      by_cases e : R = S
      · subst e; rw [upd_s]
      · rw [upd_n _ e]; exact h4 R (by omega))
    have qc : f_X4_countLaws N (iI (S : Int)) (iI (g : Int)) f pla = some (iI ((covT W S : Nat) : Int)) := by
      rw [q_cl N hN (B := B) (T := covT W) (by omega) h0 hg (fun i hi => ⟨(hB i hi).1, by obtain ⟨law, a, b⟩ := (hB i hi).2; rw [b]; exact hW law⟩) (fun R hR => ⟨h4 R hR, covT_100 W (by omega)⟩), stepMin_great (by omega) h0 (fun i hi => (hB i hi).2) hC]
    refine ⟨pla', ?_, e2⟩
    show b_X4_countHeaps_24 N (iI g) f (iI n) (f_X4_countHeaps_24 N (iI g) f (iI n) k_) (iI S) pla = _
    unfold b_X4_countHeaps_24
    rw [b1_p (q_all0 N hn), if_neg (fun c => absurd ((iI_lt (by omega)).mp c) (by omega)), if_neg (fun c => absurd ((k_leL (by omega)).mp c) (by omega)), b1_p qc, gi_I (by omega) (by omega) (by omega), iI_clampN (n := S) (by omega), q_nar8 hc, iI_succ S, e1]
theorem q_ch (N : Nat) (hN : 5000 ≤ N) {n : Nat} {W : Nat → Nat} {pgc prc : Int32} {pgr pla bme : Nat → Int32} (hn : n ≤ 12) (hW : ∀ law, W law < 4096) (hm : ∀ law, law < 289 → bme law = iI ((W law : Nat) : Int)) (hP : InvP pgc prc pgr pla n W) : ∃ (pgc' : Int32) (pgr' pla' : Nat → Int32), f_X4_countHeaps N pgc prc pgr pla (iI n) bme = some (pgc', iI n, pgr', pla') ∧ (∀ R, R < 2 ^ n → pla' R = iI ((covT W R : Nat) : Int)) ∧ (0 < n → Great pgc' pgr' W) := by
  obtain ⟨c, T, h1, rfl, h3, h4, h5⟩ := hP
  unfold f_X4_countHeaps
  by_cases e : c = n
  · subst e
    refine ⟨pgc, pgr, pla, ?_, fun R hR => ?_, h5 rfl⟩
    · rw [b1_p (rfl : f_X0_size N (iI (c : Int)) = some (iI (c : Int))), if_pos rfl]
    · rw [(h4 R hR).1, cov_un hn h3 R R (Nat.le_refl _) hR]
  · have h12 := p2_12 hn
    have hcn : 2 ^ c ≤ 2 ^ n := Nat.pow_le_pow_right (by decide) h1
    have hc0 := p2_pos c
    obtain ⟨g, f', e1, e2, e3⟩ := lp_find N hN hW hm 289 0 N 0 pgr rfl (by omega) (Nat.le_refl _) ⟨fun i hi => by omega, fun law hl => by omega⟩
    have e1' : f_X4_findGreatest N pgr bme = some (iI (g : Int), f') := e1
    have hB : ∀ i, i < g → f' i = iI ((clGr f' i : Nat) : Int) ∧ ∃ law, law < 289 ∧ clGr f' i = W law := fun i hi => by
      obtain ⟨law, a, b⟩ := e3.1 i hi
      exact ⟨clGr_I (hW law) b, law, a, clGr_of (hW law) b⟩
    have hC : ∀ law, law < 289 → ∃ i, i < g ∧ W law &&& clGr f' i = W law := fun law hl => by
      obtain ⟨i', v', ⟨a1, a2⟩, a3, a4⟩ := e3.2 law hl
      exact ⟨i', a1, by rw [clGr_of (hW v') a3]; exact a4⟩
    obtain ⟨pla', l1, l2⟩ := lp_ch N hN (B := clGr f') hn e2 hW hB hC (2 ^ n - 2 ^ c) (2 ^ c) N pla (by omega) (by omega) (by omega) (fun R hR => by
      rw [(h4 R hR).1, cov_un (by omega) h3 R R (Nat.le_refl _) hR])
    refine ⟨iI (g : Int), f', pla', ?_, l2, fun _ => ⟨g, clGr f', e2, rfl, hB, hC⟩⟩
    rw [b1_p (rfl : f_X0_size N (iI (n : Int)) = some (iI (n : Int))), if_neg (fun q => e (by have := (iI_eq (by omega)).mp q; omega)), b2_p e1', q_shl1 (by omega)]
    exact l1
theorem InvP_of {n : Nat} {W : Nat → Nat} {pgc' : Int32} {pgr' pla' : Nat → Int32} (hn : n ≤ 12) (h2 : ∀ R, R < 2 ^ n → pla' R = iI ((covT W R : Nat) : Int)) (h3 : 0 < n → Great pgc' pgr' W) : InvP pgc' (iI n) pgr' pla' n W := by
  have h12 := p2_12 hn
  exact ⟨n, covT W, Nat.le_refl _, rfl, cov_is W hn, fun S hS => ⟨h2 S hS, covT_100 W (by omega)⟩, fun _ => h3⟩
