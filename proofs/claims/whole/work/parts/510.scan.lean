/-! reading the tape -/
theorem g0_ {α : Type} (a : Option α) : gz (0 : Int32) a = a := gz_b false a
theorem g1_ {α : Type} (a : Option α) : gz (1 : Int32) a = a := gz_b true a
def TP (len : Nat) (ct : Nat → Nat) (tby dtp : Nat → Int32) : Prop := len ≤ 120 ∧ ∀ i, i < len → 32 ≤ ct i ∧ ct i ≤ 126 ∧ tby i = iI ((ct i : Nat) : Int) ∧ dtp i = iI ((ct i : Nat) : Int)
def sk (ct : Nat → Nat) : Nat → Nat → Nat
  | 0, i => i
  | d + 1, i => if ct i = 32 then sk ct d (i + 1) else i
theorem sk_in (ct : Nat → Nat) : ∀ (d i : Nat), i ≤ sk ct d i ∧ sk ct d i ≤ i + d ∧ (sk ct d i < i + d → ct (sk ct d i) ≠ 32)
  | 0, i => ⟨Nat.le_refl _, Nat.le_refl _, fun h => absurd h (by show ¬ i < i; omega)⟩
  | d + 1, i => by
    obtain ⟨h1, h2, h3⟩ := sk_in ct d (i + 1)
    unfold sk
    by_cases c : ct i = 32
    · rw [if_pos c]
      exact ⟨by omega, by omega, fun h => h3 (by omega)⟩
    · rw [if_neg c]
      exact ⟨by omega, by omega, fun _ => c⟩
def Sk (ct : Nat → Nat) (len i : Nat) : Nat := sk ct (len - i) i
theorem Sk_in (ct : Nat → Nat) {len i : Nat} (h : i ≤ len) : i ≤ Sk ct len i ∧ Sk ct len i ≤ len ∧ (Sk ct len i < len → ct (Sk ct len i) ≠ 32) := by
  obtain ⟨h1, h2, h3⟩ := sk_in ct (len - i) i
  unfold Sk
  exact ⟨h1, by omega, fun g => h3 (by omega)⟩
theorem Sk_stay {ct : Nat → Nat} {len i : Nat} (h : i ≤ len) (hc : i < len → ct i ≠ 32) : Sk ct len i = i := by
  unfold Sk
  by_cases c : i = len
  · subst c
    rw [Nat.sub_self]; rfl
  · obtain ⟨d, hd⟩ : ∃ d, len - i = d + 1 := ⟨len - i - 1, by omega⟩
    rw [hd]
    show (if ct i = 32 then sk ct d (i + 1) else i) = i
    rw [if_neg (hc (by omega))]
theorem Sk_Sk (ct : Nat → Nat) {len i : Nat} (h : i ≤ len) : Sk ct len (Sk ct len i) = Sk ct len i := by
  obtain ⟨h1, h2, h3⟩ := Sk_in ct h
  exact Sk_stay h2 h3
def cA (ct : Nat → Nat) (len j : Nat) : Int := if j < len then ((ct j : Nat) : Int) else -1
def cM (ct : Nat → Nat) (len j : Nat) : Int := if j < len then ((ct j : Nat) : Int) else 0
theorem lp_look (N : Nat) {len : Nat} {ct : Nat → Nat} {tby dtp : Nat → Int32} (hT : TP len ct tby dtp) : ∀ (d i fuel : Nat), i + d = len → d < fuel → f_X6_look_0 N (iI len) tby fuel (iI i) = some (iI (cA ct len (sk ct d i)), iI ((sk ct d i : Nat) : Int)) := by
  obtain ⟨hl, hc⟩ := hT
  intro d
  induction d with
  | zero =>
    intro i fuel h1 h2
    obtain ⟨k_, rfl⟩ := su_fuel h2
    have e : i = len := by omega
    subst e
    show b_X6_look_0 N (iI i) tby _ (iI (i : Int)) = _
    unfold b_X6_look_0 f_X6_look_47 sk cA
    rw [if_pos ((iI_le (by omega)).mpr (Int.le_refl _)), if_pos ((iI_le (by omega)).mpr (Int.le_refl _)), if_neg (by omega)]; rfl
  | succ d ih =>
    intro i fuel h1 h2
    obtain ⟨k_, rfl⟩ := su_fuel (Nat.lt_of_le_of_lt (Nat.zero_le _) h2)
    obtain ⟨g1, g2, g3, g4⟩ := hc i (by omega)
    show b_X6_look_0 N (iI len) tby (f_X6_look_0 N (iI len) tby k_) (iI i) = _
    unfold b_X6_look_0 f_X6_look_47 sk
    rw [if_neg (fun q => absurd ((iI_le (by omega)).mp q) (by omega)), if_neg (fun q => absurd ((k_leL (by omega)).mp q) (by omega)), gi_I (by omega) (by omega) (by omega), gi_I (by omega) (by omega) (by omega), iI_clampN (by omega), g3, iI_succ]
    by_cases c : ct i = 32
    · rw [if_pos c, if_pos ((k_eqR (by omega)).mpr (by omega))]
      exact ih (i + 1) k_ (by omega) (by omega)
    · rw [if_neg c, if_neg (fun q => absurd ((k_eqR (by omega)).mp q) (by omega))]
      rw [if_neg (fun q => absurd ((iI_le (by omega)).mp q) (by omega)), if_neg (fun q => absurd ((k_leL (by omega)).mp q) (by omega))]
      unfold cA
      rw [if_pos (by omega)]
theorem q_look6 (N : Nat) (hN : 5000 ≤ N) {len i : Nat} {ct : Nat → Nat} {tby dtp : Nat → Int32} (hT : TP len ct tby dtp) (hi : i ≤ len) : f_X6_look N (iI len) (iI i) tby = some (iI (cA ct len (Sk ct len i)), iI ((Sk ct len i : Nat) : Int)) := by
  have hl := hT.1
  exact lp_look N hT (len - i) i N (by omega) (by omega)
theorem lp_next (N : Nat) {len : Nat} {ct : Nat → Nat} {tby dtp : Nat → Int32} (hT : TP len ct tby dtp) : ∀ (d i fuel : Nat), i + d = len → d < fuel → f_X9_next_0 N (iI len) dtp fuel (iI i) = some (iI (cM ct len (sk ct d i)), iI ((sk ct d i : Nat) : Int)) := by
  obtain ⟨hl, hc⟩ := hT
  intro d
  induction d with
  | zero =>
    intro i fuel h1 h2
    obtain ⟨k_, rfl⟩ := su_fuel h2
    have e : i = len := by omega
    subst e
    show b_X9_next_0 N (iI i) dtp _ (iI (i : Int)) = _
    unfold b_X9_next_0 f_X9_next_38 sk cM
    rw [if_pos ((iI_le (by omega)).mpr (Int.le_refl _)), if_pos ((iI_le (by omega)).mpr (Int.le_refl _)), if_neg (by omega)]; rfl
  | succ d ih =>
    intro i fuel h1 h2
    obtain ⟨k_, rfl⟩ := su_fuel (Nat.lt_of_le_of_lt (Nat.zero_le _) h2)
    obtain ⟨g1, g2, g3, g4⟩ := hc i (by omega)
    show b_X9_next_0 N (iI len) dtp (f_X9_next_0 N (iI len) dtp k_) (iI i) = _
    unfold b_X9_next_0 f_X9_next_38 sk
    rw [if_neg (fun q => absurd ((iI_le (by omega)).mp q) (by omega)), gi_I (by omega) (by omega) (by omega), gi_I (by omega) (by omega) (by omega), iI_clampN (by omega), g4, iI_succ]
    by_cases c : ct i = 32
    · rw [if_pos c, if_pos ((k_eqR (by omega)).mpr (by omega))]
      exact ih (i + 1) k_ (by omega) (by omega)
    · rw [if_neg c, if_neg (fun q => absurd ((k_eqR (by omega)).mp q) (by omega))]
      rw [if_neg (fun q => absurd ((iI_le (by omega)).mp q) (by omega))]
      unfold cM
      rw [if_pos (by omega)]
theorem q_next9 (N : Nat) (hN : 5000 ≤ N) {len i : Nat} {ct : Nat → Nat} {tby dtp : Nat → Int32} (hT : TP len ct tby dtp) (hi : i ≤ len) : f_X9_next N (iI len) (iI i) dtp = some (iI (cM ct len (Sk ct len i)), iI ((Sk ct len i : Nat) : Int)) := by
  have hl := hT.1
  exact lp_next N hT (len - i) i N (by omega) (by omega)
theorem cA_eq {len : Nat} {ct : Nat → Nat} {tby dtp : Nat → Int32} (hT : TP len ct tby dtp) {j c : Nat} (hj : j ≤ len) (hc : 33 ≤ c ∧ c ≤ 126) {v : Int32} (hv : v = iI (c : Int)) : iI (cA ct len j) = v ↔ (j < len ∧ ct j = c) := by
  obtain ⟨hl, ht⟩ := hT
  unfold cA
  by_cases h : j < len
  · have := ht j h
    rw [if_pos h, hv, iI_eq (by omega)]
    constructor
    · intro q; exact ⟨h, by omega⟩
    · intro q; omega
  · rw [if_neg h, hv, iI_eq (by omega)]
    constructor
    · intro q; omega
    · intro q; exact absurd q.1 h
theorem cM_eq {len : Nat} {ct : Nat → Nat} {tby dtp : Nat → Int32} (hT : TP len ct tby dtp) {j c : Nat} (hj : j ≤ len) (hc : 33 ≤ c ∧ c ≤ 126) {v : Int32} (hv : v = iI (c : Int)) : iI (cM ct len j) = v ↔ (j < len ∧ ct j = c) := by
  obtain ⟨hl, ht⟩ := hT
  unfold cM
  by_cases h : j < len
  · have := ht j h
    rw [if_pos h, hv, iI_eq (by omega)]
    constructor
    · intro q; exact ⟨h, by omega⟩
    · intro q; omega
  · rw [if_neg h, hv, iI_eq (by omega)]
    constructor
    · intro q; omega
    · intro q; exact absurd q.1 h
theorem q_pass6 (N : Nat) (hN : 5000 ≤ N) {len i c : Nat} {ct : Nat → Nat} {tby dtp : Nat → Int32} (hT : TP len ct tby dtp) (hi : i ≤ len) (hc : 33 ≤ c ∧ c ≤ 126) {v : Int32} (hv : v = iI (c : Int)) (tfa : Int32) : f_X6_pass N v (iI len) (iI i) tfa tby = (if Sk ct len i < len ∧ ct (Sk ct len i) = c then some ((1 : Int32), iI ((Sk ct len i + 1 : Nat) : Int), tfa) else some ((0 : Int32), iI ((Sk ct len i : Nat) : Int), iI ((Sk ct len i : Nat) : Int))) := by
  have h2 := (Sk_in ct hi).2.1
  unfold f_X6_pass
  rw [b2_p (q_look6 N hN hT hi)]
  by_cases h : Sk ct len i < len ∧ ct (Sk ct len i) = c
  · rw [if_pos h, if_pos ((cA_eq hT h2 hc hv).mpr h), iI_succ]
  · rw [if_neg h, if_neg (fun q => h ((cA_eq hT h2 hc hv).mp q)), b2_p (rfl : f_X6_refuse N (iI ((Sk ct len i : Nat) : Int)) = some (0, iI ((Sk ct len i : Nat) : Int))), g0_]
theorem q_passes9 (N : Nat) (hN : 5000 ≤ N) {len i c : Nat} {ct : Nat → Nat} {tby dtp : Nat → Int32} (hT : TP len ct tby dtp) (hi : i ≤ len) (hc : 33 ≤ c ∧ c ≤ 126) {v : Int32} (hv : v = iI (c : Int)) : f_X9_passes N v (iI len) (iI i) (0 : Int32) dtp = (if Sk ct len i < len ∧ ct (Sk ct len i) = c then some ((1 : Int32), iI ((Sk ct len i + 1 : Nat) : Int)) else some ((0 : Int32), iI ((Sk ct len i : Nat) : Int))) := by
  have h2 := (Sk_in ct hi).2.1
  unfold f_X9_passes f_X9_passes_20
  rw [if_pos rfl, b2_p (q_next9 N hN hT hi)]
  by_cases h : Sk ct len i < len ∧ ct (Sk ct len i) = c
  · rw [if_pos h, if_pos ((cM_eq hT h2 hc hv).mpr h), if_neg (by decide), g1_, iI_succ]
  · rw [if_neg h, if_neg (fun q => h ((cM_eq hT h2 hc hv).mp q)), if_pos rfl, g0_, Int32.add_zero]
theorem q_digit6 (N : Nat) {z : Int} (hz : -2147483648 ≤ z ∧ z < 2147483648) : f_X6_isDigit N (iI z) = some (bI (decide (48 ≤ z) && decide (z ≤ 57))) := by
  unfold f_X6_isDigit
  exact tri_1 _ _ ((k_ltR (by omega)).trans (by omega)) ((k_ltL (by omega)).trans (by omega))
def dgI (sz v : Nat) : Prop := (sz = v ∧ v ≤ 99) ∨ (sz = 100 ∧ 100 ≤ v ∧ v ≤ 9999)
theorem lp_dig (N : Nat) {len j : Nat} {ct : Nat → Nat} {tby dtp : Nat → Int32} (hT : TP len ct tby dtp) (l1 l3 tfa : Int32) (tnu : Nat → Int32) : ∀ (d i fuel sz v : Nat), i + d = len → d < fuel → dgI sz v → ∃ (e sz' v' : Nat), e ≤ len ∧ dgI sz' v' ∧ f_X6_readNumber_61 N l1 (iI j) l3 (iI len) tfa tby tnu fuel (iI sz) (iI i) = f_X6_readNumber_134 N l1 (iI j) l3 (iI sz') (iI e) tfa tnu ∧ f_X9_number_63 N (iI j) l3 (iI len) dtp fuel (iI v) (iI i) = f_X9_number_142 N (iI j) l3 (iI v') (iI e) := by
  have hl := hT.1
  intro d
  induction d with
  | zero =>
    intro i fuel sz v h1 h2 h3
    obtain ⟨k_, rfl⟩ := su_fuel h2
    have e : i = len := by omega
    subst e
    refine ⟨i, sz, v, Nat.le_refl _, h3, ?_, ?_⟩
    · show b_X6_readNumber_61 N l1 (iI j) l3 (iI i) tfa tby tnu _ (iI sz) (iI (i : Int)) = _
      unfold b_X6_readNumber_61
      rw [if_pos ((iI_le (by omega)).mpr (Int.le_refl _))]
    · show b_X9_number_63 N (iI j) l3 (iI i) dtp _ (iI v) (iI (i : Int)) = _
      unfold b_X9_number_63
      rw [if_pos ((iI_le (by omega)).mpr (Int.le_refl _))]
  | succ d ih =>
    intro i fuel sz v h1 h2 h3
    obtain ⟨k_, rfl⟩ := su_fuel (Nat.lt_of_le_of_lt (Nat.zero_le _) h2)
    obtain ⟨g1, g2, g3, g4⟩ := hT.2 i (by omega)
    have hd8 := q_digit6 N (z := ((ct i : Nat) : Int)) (by omega)
    have hd9 : f_X9_in N (iI ((ct i : Nat) : Int)).toInt64 48 57 = some (bI (decide (48 ≤ ((ct i : Nat) : Int)) && decide (((ct i : Nat) : Int) ≤ 57))) := q_in N (j_of (by omega)) rfl rfl
    by_cases c : 48 ≤ ((ct i : Nat) : Int) ∧ ((ct i : Nat) : Int) ≤ 57
    case neg =>
      rw [two_f c, bI_f] at hd8 hd9
      refine ⟨i, sz, v, by omega, h3, ?_, ?_⟩
      · show b_X6_readNumber_61 N l1 (iI j) l3 (iI len) tfa tby tnu _ (iI sz) (iI (i : Int)) = _
        unfold b_X6_readNumber_61
        rw [if_neg (fun q => absurd ((iI_le (by omega)).mp q) (by omega)), if_neg (fun q => absurd ((k_leL (by omega)).mp q) (by omega)), gi_I (by omega) (by omega) (by omega), iI_clampN (by omega), g3, b1_p hd8, if_pos rfl]
      · show b_X9_number_63 N (iI j) l3 (iI len) dtp _ (iI v) (iI (i : Int)) = _
        unfold b_X9_number_63
        rw [if_neg (fun q => absurd ((iI_le (by omega)).mp q) (by omega)), gi_I (by omega) (by omega) (by omega), iI_clampN (by omega), g4, b1_p hd9, if_pos rfl]
    rw [two_t c, bI_t] at hd8 hd9
    have es : ∀ x : Nat, ((10 : Int32) * iI (x : Int) + iI ((ct i : Nat) : Int)) - (48 : Int32) = iI ((10 * x + ct i - 48 : Nat) : Int) := by
      intro x
      rw [litN 10, litN 48, iI_mul, iI_add, iI_sub]; congr 1; omega
    have hsz : sz ≤ 100 := by rcases h3 with h | h <;> omega
    have hv : v ≤ 9999 := by rcases h3 with h | h <;> omega
    obtain ⟨sz2, hs2, es2⟩ : ∃ sz2 : Nat, sz2 = (if 100 < 10 * sz + ct i - 48 then 100 else 10 * sz + ct i - 48) ∧ (if (100 : Int32) < iI ((10 * sz + ct i - 48 : Nat) : Int) then (100 : Int32) else iI ((10 * sz + ct i - 48 : Nat) : Int)) = iI (sz2 : Int) := by
      refine ⟨_, rfl, ?_⟩
      by_cases c2 : 100 < 10 * sz + ct i - 48
      · rw [if_pos c2, if_pos ((k_ltL (by omega)).mpr (by omega))]; rfl
      · rw [if_neg c2, if_neg (fun q => absurd ((k_ltL (by omega)).mp q) (by omega))]
    by_cases cv : v ≤ 999
    · obtain ⟨e, sz', v', x1, x2, x3, x4⟩ := ih (i + 1) k_ sz2 (10 * v + ct i - 48) (by omega) (by omega) (by
        unfold dgI
        rcases h3 with ⟨h, h'⟩ | ⟨h, h', h''⟩
        · subst h
          by_cases c2 : 100 < 10 * sz + ct i - 48
          · rw [if_pos c2] at hs2; right; omega
          · rw [if_neg c2] at hs2
            by_cases c3 : sz2 ≤ 99
            · left; omega
            · right; omega
        · rw [if_pos (by omega)] at hs2; right; omega)
      refine ⟨e, sz', v', x1, x2, ?_, ?_⟩
      · show b_X6_readNumber_61 N l1 (iI j) l3 (iI len) tfa tby tnu (f_X6_readNumber_61 N l1 (iI j) l3 (iI len) tfa tby tnu k_) (iI sz) (iI (i : Int)) = _
        unfold b_X6_readNumber_61 nm
        rw [if_neg (fun q => absurd ((iI_le (by omega)).mp q) (by omega)), if_neg (fun q => absurd ((k_leL (by omega)).mp q) (by omega)), gi_I (by omega) (by omega) (by omega), iI_clampN (by omega), g3, b1_p hd8, if_neg (by decide), gi_I (by omega) (by omega) (by omega), es, es2]
        dsimp only
        rw [iI_succ, x3]
      · show b_X9_number_63 N (iI j) l3 (iI len) dtp (f_X9_number_63 N (iI j) l3 (iI len) dtp k_) (iI v) (iI (i : Int)) = _
        unfold b_X9_number_63 nm
        rw [if_neg (fun q => absurd ((iI_le (by omega)).mp q) (by omega)), gi_I (by omega) (by omega) (by omega), iI_clampN (by omega), g4, b1_p hd9, if_neg (by decide), if_pos ((k_leR (by omega)).mpr (by omega)), gi_I (by omega) (by omega) (by omega), es]
        dsimp only
        rw [iI_succ, x4]
    · obtain ⟨e, sz', v', x1, x2, x3, x4⟩ := ih (i + 1) k_ sz2 v (by omega) (by omega) (by
        unfold dgI
        rcases h3 with ⟨h, h'⟩ | ⟨h, h', h''⟩
        · omega
        · rw [if_pos (by omega)] at hs2; right; omega)
      refine ⟨e, sz', v', x1, x2, ?_, ?_⟩
      · show b_X6_readNumber_61 N l1 (iI j) l3 (iI len) tfa tby tnu (f_X6_readNumber_61 N l1 (iI j) l3 (iI len) tfa tby tnu k_) (iI sz) (iI (i : Int)) = _
        unfold b_X6_readNumber_61 nm
        rw [if_neg (fun q => absurd ((iI_le (by omega)).mp q) (by omega)), if_neg (fun q => absurd ((k_leL (by omega)).mp q) (by omega)), gi_I (by omega) (by omega) (by omega), iI_clampN (by omega), g3, b1_p hd8, if_neg (by decide), gi_I (by omega) (by omega) (by omega), es, es2]
        dsimp only
        rw [iI_succ, x3]
      · show b_X9_number_63 N (iI j) l3 (iI len) dtp (f_X9_number_63 N (iI j) l3 (iI len) dtp k_) (iI v) (iI (i : Int)) = _
        unfold b_X9_number_63 nm
        rw [if_neg (fun q => absurd ((iI_le (by omega)).mp q) (by omega)), gi_I (by omega) (by omega) (by omega), iI_clampN (by omega), g4, b1_p hd9, if_neg (by decide), if_neg (fun q => absurd ((k_leR (by omega)).mp q) (by omega)), iI_succ, x4]
theorem q_store6 (N : Nat) {q : Nat} (hq : q < 36) (v : Int32) (tnu : Nat → Int32) : f_X6_store N (iI q) v tnu = some (upd tnu q v) := by
  unfold f_X6_store
  rw [if_neg (fun c => absurd ((k_ltR (by omega)).mp c) (by omega)), if_neg (fun c => absurd ((k_leL (by omega)).mp c) (by omega)), gi_I (by omega) (by omega) (by omega), iI_clampN (by omega)]
/-- a number, read by both -/
theorem q_num (N : Nat) (hN : 5000 ≤ N) {len i q : Nat} {ct : Nat → Nat} {tby dtp : Nat → Int32} (hT : TP len ct tby dtp) (hi : i ≤ len) (hq : q < 36) (tfa : Int32) (tnu : Nat → Int32) :
    (∃ (F : Nat) (ta v : Int32), F ≤ len ∧ f_X6_readNumber N (iI q) (iI len) (iI i) tfa tby tnu = some (0, ta, iI (F : Int), tnu) ∧ f_X9_number N (iI len) (iI i) 0 dtp = some (v, iI (F : Int), 1)) ∨
    (∃ (p : Nat) (V : Int), p ≤ len ∧ (-99 ≤ V ∧ V ≤ 99) ∧ f_X6_readNumber N (iI q) (iI len) (iI i) tfa tby tnu = some (1, iI (p : Int), tfa, upd tnu q (iI V)) ∧ f_X9_number N (iI len) (iI i) 0 dtp = some (iI V, iI (p : Int), 0)) := by
  have hl := hT.1
  obtain ⟨j1, j2, j3⟩ := Sk_in ct hi
  have hjj := Sk_Sk ct hi
  generalize hj : Sk ct len i = j at *
  have L1 := q_look6 N hN hT hi
  have M1 := q_next9 N hN hT hi
  rw [hj] at L1 M1
  have L2 := q_look6 N hN hT j2
  rw [hjj] at L2
  have P2 := q_passes9 N hN hT j2 (c := 45) (v := 45) (by omega) rfl
  rw [hjj] at P2
  -- what comes behind the sign
  have K : ∀ (b : Bool) (a : Nat), a ≤ len → (∃ (F : Nat) (ta v : Int32), F ≤ len ∧ f_X6_readNumber_39 N (iI q) (iI j) (bI b) (iI len) (iI a) tfa tby tnu = some (0, ta, iI (F : Int), tnu) ∧ (b2 (f_X9_next N (iI len) (iI a) dtp) (fun r11 v12 => b1 (f_X9_in N (r11.toInt64) (48 : Int64) (57 : Int64)) (fun r14 => (if r14 = 0 then some ((0 : Int32), v12, (1 : Int32)) else f_X9_number_63 N (iI j) (bI b) (iI len) dtp N (0 : Int32) v12)))) = some (v, iI (F : Int), 1)) ∨
      (∃ (p : Nat) (V : Int), p ≤ len ∧ (-99 ≤ V ∧ V ≤ 99) ∧ f_X6_readNumber_39 N (iI q) (iI j) (bI b) (iI len) (iI a) tfa tby tnu = some (1, iI (p : Int), tfa, upd tnu q (iI V)) ∧ (b2 (f_X9_next N (iI len) (iI a) dtp) (fun r11 v12 => b1 (f_X9_in N (r11.toInt64) (48 : Int64) (57 : Int64)) (fun r14 => (if r14 = 0 then some ((0 : Int32), v12, (1 : Int32)) else f_X9_number_63 N (iI j) (bI b) (iI len) dtp N (0 : Int32) v12)))) = some (iI V, iI (p : Int), 0)) := by
    intro b a ha
    obtain ⟨m1, m2, m3⟩ := Sk_in ct ha
    have L3 := q_look6 N hN hT ha
    have M3 := q_next9 N hN hT ha
    generalize Sk ct len a = m at *
    by_cases cd : m < len ∧ 48 ≤ ct m ∧ ct m ≤ 57
    · have hct := hT.2 m cd.1
      have eA : cA ct len m = ((ct m : Nat) : Int) := by unfold cA; rw [if_pos cd.1]
      have eM : cM ct len m = ((ct m : Nat) : Int) := by unfold cM; rw [if_pos cd.1]
      rw [eA] at L3
      rw [eM] at M3
      have hd8 := q_digit6 N (z := ((ct m : Nat) : Int)) (by omega)
      have hd9 : f_X9_in N (iI ((ct m : Nat) : Int)).toInt64 48 57 = some (bI (decide (48 ≤ ((ct m : Nat) : Int)) && decide (((ct m : Nat) : Int) ≤ 57))) := q_in N (j_of (by omega)) rfl rfl
      rw [two_t (by omega), bI_t] at hd8 hd9
      obtain ⟨e, sz', v', x1, x2, x3, x4⟩ := lp_dig N (j := j) hT (iI (q : Int)) (bI b) tfa tnu (len - m) m N 0 0 (by omega) (by omega) (Or.inl ⟨rfl, by omega⟩)
      have y8 : f_X6_readNumber_39 N (iI q) (iI j) (bI b) (iI len) (iI a) tfa tby tnu = f_X6_readNumber_134 N (iI q) (iI j) (bI b) (iI sz') (iI e) tfa tnu := by
        unfold f_X6_readNumber_39
        rw [b2_p L3, b1_p hd8, if_neg (by decide)]
        exact x3
      have y9 : (b2 (f_X9_next N (iI len) (iI a) dtp) (fun r11 v12 => b1 (f_X9_in N (r11.toInt64) (48 : Int64) (57 : Int64)) (fun r14 => (if r14 = 0 then some ((0 : Int32), v12, (1 : Int32)) else f_X9_number_63 N (iI j) (bI b) (iI len) dtp N (0 : Int32) v12)))) = f_X9_number_142 N (iI j) (bI b) (iI v') (iI e) := by
        rw [b2_p M3, b1_p hd9, if_neg (by decide)]
        exact x4
      rcases x2 with ⟨h, h'⟩ | ⟨h, h', h''⟩
      · subst h
        right
        refine ⟨e, bif b then -(sz' : Int) else (sz' : Int), x1, by cases b <;> (simp only [cond_true, cond_false]; omega), ?_, ?_⟩
        · rw [y8]
          unfold f_X6_readNumber_134
          rw [if_pos ((k_leR (by omega)).mpr (by omega)), ifb, iI_neg, b1_p (q_store6 N hq _ _), b1_p (q_store6 N hq _ _)]
          cases b <;> rfl
        · rw [y9]
          unfold f_X9_number_142 f_X9_number_155 f_X9_number_174
          rw [if_pos ((k_leR (by omega)).mpr (by omega)), g0_, if_pos rfl, ifb, iI_neg]
          cases b <;> rfl
      · left
        refine ⟨j, iI (e : Int), bif b then -(iI (v' : Int)) else iI (v' : Int), j2, ?_, ?_⟩
        · rw [y8]
          unfold f_X6_readNumber_134
          rw [if_neg (fun c => absurd ((k_leR (by omega)).mp c) (by omega)), b2_p (rfl : f_X6_refuse N (iI (j : Int)) = some (0, iI (j : Int))), g0_]
        · rw [y9]
          unfold f_X9_number_142 f_X9_number_155 f_X9_number_174
          rw [if_neg (fun c => absurd ((k_leR (by omega)).mp c) (by omega)), g1_, if_neg (by decide), ifb]
          cases b <;> rfl
    · left
      have bA : -1 ≤ cA ct len m ∧ cA ct len m ≤ 126 ∧ ¬ (48 ≤ cA ct len m ∧ cA ct len m ≤ 57) := by
        unfold cA
        by_cases c : m < len
        · have := hT.2 m c
          rw [if_pos c]; omega
        · rw [if_neg c]; omega
      have bM : 0 ≤ cM ct len m ∧ cM ct len m ≤ 126 ∧ ¬ (48 ≤ cM ct len m ∧ cM ct len m ≤ 57) := by
        unfold cM
        by_cases c : m < len
        · have := hT.2 m c
          rw [if_pos c]; omega
        · rw [if_neg c]; omega
      have hd8 := q_digit6 N (z := cA ct len m) (by omega)
      have hd9 : f_X9_in N (iI (cM ct len m)).toInt64 48 57 = some (bI (decide (48 ≤ cM ct len m) && decide (cM ct len m ≤ 57))) := q_in N (j_of (by omega)) rfl rfl
      rw [two_f bA.2.2, bI_f] at hd8
      rw [two_f bM.2.2, bI_f] at hd9
      refine ⟨m, iI (m : Int), 0, m2, ?_, ?_⟩
      · unfold f_X6_readNumber_39
        rw [b2_p L3, b1_p hd8, if_pos rfl, b2_p (rfl : f_X6_refuse N (iI (m : Int)) = some (0, iI (m : Int))), g0_]
      · rw [b2_p M3, b1_p hd9, if_pos rfl]
  have c8 : f_X6_readNumber N (iI q) (iI len) (iI i) tfa tby tnu = (if iI (cA ct len j) = (45 : Int32) then f_X6_readNumber_39 N (iI q) (iI j) (bI true) (iI len) (iI ((j + 1 : Nat) : Int)) tfa tby tnu else f_X6_readNumber_39 N (iI q) (iI j) (bI false) (iI len) (iI j) tfa tby tnu) := by
    unfold f_X6_readNumber f_X6_readNumber_24
    rw [b2_p L1, b2_p L2]
    by_cases h : iI (cA ct len j) = 45
    · rw [if_pos h, if_pos h, if_neg (by decide), iI_succ]; rfl
    · rw [if_neg h, if_neg h, if_pos rfl]; rfl
  have e45 := cA_eq hT j2 (c := 45) (v := 45) (by omega) rfl
  by_cases c45 : j < len ∧ ct j = 45
  · rw [if_pos (e45.mpr c45)] at c8
    rw [if_pos c45] at P2
    have c9 : f_X9_number N (iI len) (iI i) 0 dtp = (b2 (f_X9_next N (iI len) (iI ((j + 1 : Nat) : Int)) dtp) (fun r11 v12 => b1 (f_X9_in N (r11.toInt64) (48 : Int64) (57 : Int64)) (fun r14 => (if r14 = 0 then some ((0 : Int32), v12, (1 : Int32)) else f_X9_number_63 N (iI j) (bI true) (iI len) dtp N (0 : Int32) v12)))) := by
      have hne : ¬ iI (cM ct len j) = 0 := by
        unfold cM
        rw [if_pos c45.1, c45.2]; decide
      unfold f_X9_number f_X9_number_12
      rw [b2_p M1, if_neg hne, b2_p P2, if_pos rfl, if_pos rfl]
      rfl
    rw [c8, c9]
    exact K true (j + 1) (by omega)
  · rw [if_neg (fun c => c45 (e45.mp c))] at c8
    rw [if_neg c45] at P2
    by_cases cl : j < len
    · have c9 : f_X9_number N (iI len) (iI i) 0 dtp = (b2 (f_X9_next N (iI len) (iI (j : Int)) dtp) (fun r11 v12 => b1 (f_X9_in N (r11.toInt64) (48 : Int64) (57 : Int64)) (fun r14 => (if r14 = 0 then some ((0 : Int32), v12, (1 : Int32)) else f_X9_number_63 N (iI j) (bI false) (iI len) dtp N (0 : Int32) v12)))) := by
        have hcj := hT.2 j cl
        have hne : ¬ iI (cM ct len j) = 0 := by
          unfold cM
          rw [if_pos cl]
          exact fun c => absurd ((k_eqR (by omega)).mp c) (by omega)
        unfold f_X9_number f_X9_number_12
        rw [b2_p M1, if_neg hne, b2_p P2, if_pos rfl, if_pos rfl]
        rfl
      rw [c8, c9]
      exact K false j j2
    · left
      have eA : cA ct len j = -1 := by unfold cA; rw [if_neg cl]
      have eM : cM ct len j = 0 := by unfold cM; rw [if_neg cl]
      refine ⟨j, iI (j : Int), 0, j2, ?_, ?_⟩
      · rw [c8]
        unfold f_X6_readNumber_39
        have hd8 := q_digit6 N (z := (-1 : Int)) (by omega)
        rw [two_f (by omega), bI_f] at hd8
        rw [eA] at L2
        rw [b2_p L2, b1_p hd8, if_pos rfl, b2_p (rfl : f_X6_refuse N (iI (j : Int)) = some (0, iI (j : Int))), g0_]
      · unfold f_X9_number f_X9_number_12
        rw [b2_p M1, eM, if_pos (show iI 0 = 0 from rfl), b2_p P2, if_pos rfl, if_neg (by decide)]
