/-! numbers: an Int32 as an Int -/
def iI (z : Int) : Int32 := Int32.ofInt z
theorem iI_add (a b : Int) : iI a + iI b = iI (a + b) := (Int32.ofInt_add a b).symm
theorem iI_sub (a b : Int) : iI a - iI b = iI (a - b) := (Int32.ofInt_sub a b).symm
theorem iI_mul (a b : Int) : iI a * iI b = iI (a * b) := (Int32.ofInt_mul a b).symm
theorem iI_neg (a : Int) : -iI a = iI (-a) := (Int32.ofInt_neg a).symm
theorem iI_toInt {z : Int} (h1 : -2147483648 ≤ z) (h2 : z < 2147483648) : (iI z).toInt = z := Int32.toInt_ofInt_of_le (by omega) (by omega)
theorem iI_self (x : Int32) : iI x.toInt = x := Int32.ofInt_toInt x
theorem iI_of (x : Int32) : ∃ z : Int, (-2147483648 ≤ z ∧ z < 2147483648) ∧ x = iI z := ⟨x.toInt, ⟨by have := Int32.le_toInt x; omega, by have := Int32.toInt_lt x; omega⟩, (iI_self x).symm⟩
theorem iI_lt {a b : Int} (h : (-2147483648 ≤ a ∧ a < 2147483648) ∧ (-2147483648 ≤ b ∧ b < 2147483648)) : iI a < iI b ↔ a < b := by
  rw [Int32.lt_iff_toInt_lt, iI_toInt h.1.1 h.1.2, iI_toInt h.2.1 h.2.2]
theorem iI_le {a b : Int} (h : (-2147483648 ≤ a ∧ a < 2147483648) ∧ (-2147483648 ≤ b ∧ b < 2147483648)) : iI a ≤ iI b ↔ a ≤ b := by
  rw [Int32.le_iff_toInt_le, iI_toInt h.1.1 h.1.2, iI_toInt h.2.1 h.2.2]
theorem iI_eq {a b : Int} (h : (-2147483648 ≤ a ∧ a < 2147483648) ∧ (-2147483648 ≤ b ∧ b < 2147483648)) : iI a = iI b ↔ a = b := by
  rw [← Int32.toInt_inj, iI_toInt h.1.1 h.1.2, iI_toInt h.2.1 h.2.2]
theorem lit_I (n : Nat) : (OfNat.ofNat n : Int32) = iI ((OfNat.ofNat n : Nat) : Int) := (Int32.ofInt_eq_ofNat (n := n)).symm
theorem litN (n : Nat) : (OfNat.ofNat n : Int32) = iI (n : Int) := (Int32.ofInt_eq_ofNat (n := n)).symm
theorem k_rp {a : Int} {n : Nat} (h : (-2147483648 ≤ a ∧ a < 2147483648) ∧ n < 2147483648) : (-2147483648 ≤ a ∧ a < 2147483648) ∧ (-2147483648 ≤ (n : Int) ∧ (n : Int) < 2147483648) := by omega
theorem k_rn {a : Int} {n : Nat} (h : (-2147483648 ≤ a ∧ a < 2147483648) ∧ n < 2147483648) : (-2147483648 ≤ a ∧ a < 2147483648) ∧ (-2147483648 ≤ -(n : Int) ∧ -(n : Int) < 2147483648) := by omega
theorem k_ltR {a : Int} {n : Nat} (h : (-2147483648 ≤ a ∧ a < 2147483648) ∧ (OfNat.ofNat n : Nat) < 2147483648) : (iI a < (OfNat.ofNat n : Int32)) ↔ a < ((OfNat.ofNat n : Nat) : Int) := by rw [lit_I]; exact iI_lt (a := a) (b := (n : Int)) (k_rp h)
theorem k_ltL {a : Int} {n : Nat} (h : (-2147483648 ≤ a ∧ a < 2147483648) ∧ (OfNat.ofNat n : Nat) < 2147483648) : ((OfNat.ofNat n : Int32) < iI a) ↔ ((OfNat.ofNat n : Nat) : Int) < a := by rw [lit_I]; exact iI_lt (a := (n : Int)) (b := a) ⟨(k_rp h).2, h.1⟩
theorem k_leR {a : Int} {n : Nat} (h : (-2147483648 ≤ a ∧ a < 2147483648) ∧ (OfNat.ofNat n : Nat) < 2147483648) : (iI a ≤ (OfNat.ofNat n : Int32)) ↔ a ≤ ((OfNat.ofNat n : Nat) : Int) := by rw [lit_I]; exact iI_le (a := a) (b := (n : Int)) (k_rp h)
theorem k_leL {a : Int} {n : Nat} (h : (-2147483648 ≤ a ∧ a < 2147483648) ∧ (OfNat.ofNat n : Nat) < 2147483648) : ((OfNat.ofNat n : Int32) ≤ iI a) ↔ ((OfNat.ofNat n : Nat) : Int) ≤ a := by rw [lit_I]; exact iI_le (a := (n : Int)) (b := a) ⟨(k_rp h).2, h.1⟩
theorem k_eqR {a : Int} {n : Nat} (h : (-2147483648 ≤ a ∧ a < 2147483648) ∧ (OfNat.ofNat n : Nat) < 2147483648) : (iI a = (OfNat.ofNat n : Int32)) ↔ a = ((OfNat.ofNat n : Nat) : Int) := by rw [lit_I]; exact iI_eq (a := a) (b := (n : Int)) (k_rp h)
theorem k_nlR {a : Int} {n : Nat} (h : (-2147483648 ≤ a ∧ a < 2147483648) ∧ (OfNat.ofNat n : Nat) < 2147483648) : (iI a < -(OfNat.ofNat n : Int32)) ↔ a < -((OfNat.ofNat n : Nat) : Int) := by rw [lit_I, iI_neg]; exact iI_lt (a := a) (b := -(n : Int)) (k_rn h)
theorem k_nlL {a : Int} {n : Nat} (h : (-2147483648 ≤ a ∧ a < 2147483648) ∧ (OfNat.ofNat n : Nat) < 2147483648) : (-(OfNat.ofNat n : Int32) ≤ iI a) ↔ -((OfNat.ofNat n : Nat) : Int) ≤ a := by rw [lit_I, iI_neg]; exact iI_le (a := -(n : Int)) (b := a) ⟨(k_rn h).2, h.1⟩
theorem k_neR {a : Int} {n : Nat} (h : (-2147483648 ≤ a ∧ a < 2147483648) ∧ (OfNat.ofNat n : Nat) < 2147483648) : (iI a = -(OfNat.ofNat n : Int32)) ↔ a = -((OfNat.ofNat n : Nat) : Int) := by rw [lit_I, iI_neg]; exact iI_eq (a := a) (b := -(n : Int)) (k_rn h)
theorem k_addR (a : Int) (n : Nat) : iI a + (OfNat.ofNat n : Int32) = iI (a + ((OfNat.ofNat n : Nat) : Int)) := by rw [lit_I, iI_add]
theorem k_subR (a : Int) (n : Nat) : iI a - (OfNat.ofNat n : Int32) = iI (a - ((OfNat.ofNat n : Nat) : Int)) := by rw [lit_I, iI_sub]
theorem k_mulR (a : Int) (n : Nat) : iI a * (OfNat.ofNat n : Int32) = iI (a * ((OfNat.ofNat n : Nat) : Int)) := by rw [lit_I, iI_mul]
theorem k_mulL (a : Int) (n : Nat) : (OfNat.ofNat n : Int32) * iI a = iI (((OfNat.ofNat n : Nat) : Int) * a) := by rw [lit_I, iI_mul]
theorem k_subL (a : Int) (n : Nat) : (OfNat.ofNat n : Int32) - iI a = iI (((OfNat.ofNat n : Nat) : Int) - a) := by rw [lit_I, iI_sub]
theorem iI_nat (n : Nat) : iI (n : Int) = nI n := Int32.ofInt_eq_ofNat
theorem l0_I : (0 : Int32) = iI 0 := rfl
theorem l1_I : (1 : Int32) = iI 1 := rfl
theorem iI_clamp {z : Int} (h1 : 0 ≤ z) (h2 : z < 2147483648) : (iI z).toNatClampNeg = z.toNat := by
  obtain ⟨n_, rfl⟩ := Int.eq_ofNat_of_zero_le h1
  rw [iI_nat, nI_clamp (by omega)]; rfl
theorem iI_clampN {n : Nat} (h2 : n < 2147483648) : (iI (n : Int)).toNatClampNeg = n := by
  rw [iI_nat, nI_clamp (by omega)]
theorem iI_divN {a d : Nat} (ha : a < 2147483648) (h0 : 0 < d) (hd : d < 2147483648) : iI (a : Int) / iI (d : Int) = iI ((a / d : Nat) : Int) := by
  rw [iI_nat, iI_nat, iI_nat, pk_div (by omega) h0 (by omega)]
theorem iI_remN {a d : Nat} (ha : a < 2147483648) (h0 : 0 < d) (hd : d < 2147483648) : iI (a : Int) - iI (a : Int) / iI (d : Int) * iI (d : Int) = iI ((a % d : Nat) : Int) := by
  rw [iI_nat, iI_nat, iI_nat, pk_rem (by omega) h0 (by omega)]
/-! longs that come from ints -/
theorem j_lt {a b : Int} {x y : Int64} (hx : x.toInt = a) (hy : y.toInt = b) : x < y ↔ a < b := by rw [Int64.lt_iff_toInt_lt, hx, hy]
theorem j_of {z : Int} (h : -2147483648 ≤ z ∧ z < 2147483648) : (iI z).toInt64.toInt = z := by rw [Int32.toInt_toInt64, iI_toInt h.1 h.2]
/-! truth as 0 and 1 -/
def bI (t : Bool) : Int32 := if t then 1 else 0
theorem bI_t : bI true = 1 := rfl
theorem bI_f : bI false = 0 := rfl
theorem bI_0 (t : Bool) : (bI t = 0) ↔ t = false := by cases t <;> decide
theorem bI_01 (t : Bool) : bI t = 0 ∨ bI t = 1 := by cases t <;> decide
theorem gz_b {α : Type} (t : Bool) (a : Option α) : gz (bI t) a = a := by unfold gz; rw [if_pos (bI_01 t)]
theorem gi_I {α : Type} {z : Int} {m : Nat} (h1 : 0 ≤ z) (h2 : z < m) (h3 : m < 2147483648) (a : Option α) : gi (iI z) m a = a := by
  unfold gi
  rw [if_neg]
  intro h
  rcases h with h | h
  · rw [l0_I, iI_lt (by omega)] at h; omega
  · rw [iI_clamp h1 (by omega)] at h; omega
theorem b1_p {α β : Type} {x : Option α} {y : α} (h : x = some y) (g : α → Option β) : b1 x g = g y := by rw [h]; rfl
theorem b0_p {β : Type} {x : Option Unit} (h : x = some ()) (g : Option β) : b0 x g = g := by rw [h]; rfl
theorem b2_p {α1 α2 β : Type} {x : Option (α1 × α2)} {y1 : α1} {y2 : α2} (h : x = some (y1, y2)) (g : α1 → α2 → Option β) : b2 x g = g y1 y2 := by rw [h]; rfl
theorem b3_p {α1 α2 α3 β : Type} {x : Option (α1 × α2 × α3)} {y1 : α1} {y2 : α2} {y3 : α3} (h : x = some (y1, y2, y3)) (g : α1 → α2 → α3 → Option β) : b3 x g = g y1 y2 y3 := by rw [h]; rfl
theorem b4_p {α1 α2 α3 α4 β : Type} {x : Option (α1 × α2 × α3 × α4)} {y1 : α1} {y2 : α2} {y3 : α3} {y4 : α4} (h : x = some (y1, y2, y3, y4)) (g : α1 → α2 → α3 → α4 → Option β) : b4 x g = g y1 y2 y3 y4 := by rw [h]; rfl
theorem b5_p {α1 α2 α3 α4 α5 β : Type} {x : Option (α1 × α2 × α3 × α4 × α5)} {y1 : α1} {y2 : α2} {y3 : α3} {y4 : α4} {y5 : α5} (h : x = some (y1, y2, y3, y4, y5)) (g : α1 → α2 → α3 → α4 → α5 → Option β) : b5 x g = g y1 y2 y3 y4 y5 := by rw [h]; rfl
theorem b6_p {α1 α2 α3 α4 α5 α6 β : Type} {x : Option (α1 × α2 × α3 × α4 × α5 × α6)} {y1 : α1} {y2 : α2} {y3 : α3} {y4 : α4} {y5 : α5} {y6 : α6} (h : x = some (y1, y2, y3, y4, y5, y6)) (g : α1 → α2 → α3 → α4 → α5 → α6 → Option β) : b6 x g = g y1 y2 y3 y4 y5 y6 := by rw [h]; rfl
theorem b7_p {α1 α2 α3 α4 α5 α6 α7 β : Type} {x : Option (α1 × α2 × α3 × α4 × α5 × α6 × α7)} {y1 : α1} {y2 : α2} {y3 : α3} {y4 : α4} {y5 : α5} {y6 : α6} {y7 : α7} (h : x = some (y1, y2, y3, y4, y5, y6, y7)) (g : α1 → α2 → α3 → α4 → α5 → α6 → α7 → Option β) : b7 x g = g y1 y2 y3 y4 y5 y6 y7 := by rw [h]; rfl
theorem su_fuel {N : Nat} (h : 0 < N) : ∃ m_, N = m_ + 1 := ⟨N - 1, by omega⟩
/-! within bounds, on both sides -/
theorem tri_1 (p q : Prop) [Decidable p] [Decidable q] {p' q' : Prop} [Decidable p'] [Decidable q'] (h1 : p ↔ ¬ p') (h2 : q ↔ ¬ q') : (if p then some (0 : Int32) else if q then some (0 : Int32) else some (1 : Int32)) = some (bI (decide p' && decide q')) := by
  by_cases a1 : p'
  · rw [if_neg (fun h => h1.mp h a1), decide_eq_true a1]
    by_cases a2 : q'
    · rw [if_neg (fun h => h2.mp h a2), decide_eq_true a2]; rfl
    · rw [if_pos (h2.mpr a2), decide_eq_false a2]; rfl
  · rw [if_pos (h1.mpr a1), decide_eq_false a1]; rfl
theorem q_near (N : Nat) {z f_ : Int} (hz : -2147483648 ≤ z ∧ z < 2147483648) (hf : 0 ≤ f_ ∧ f_ < 2147483648) : f_X8_isNear N (iI z) (iI f_) = some (bI (decide (-f_ ≤ z) && decide (z ≤ f_))) := by
  unfold f_X8_isNear
  simp (disch := omega) only [iI_neg, iI_lt]
  exact tri_1 _ _ (by omega) (by omega)
theorem q_cmp1 {x y : Int64} {a b : Int} (hx : x.toInt = a) (hy : y.toInt = b) : (lg_cmp x y < 0) ↔ a < b := by
  unfold lg_cmp
  have e1 : x > y ↔ b < a := j_lt hy hx
  have e2 : x = y ↔ a = b := by rw [← Int64.toInt_inj, hx, hy]
  by_cases h1 : b < a
  · rw [if_pos (e1.mpr h1)]; constructor
    · intro h; exact absurd h (by decide)
    · intro h; omega
  · rw [if_neg (fun h => h1 (e1.mp h))]
    by_cases h2 : a = b
    · rw [if_pos (e2.mpr h2)]; constructor
      · intro h; exact absurd h (by decide)
      · intro h; omega
    · rw [if_neg (fun h => h2 (e2.mp h))]; constructor
      · intro h; omega
      · intro h; decide
theorem q_cmp2 {x y : Int64} {a b : Int} (hx : x.toInt = a) (hy : y.toInt = b) : (0 < lg_cmp x y) ↔ b < a := by
  unfold lg_cmp
  have e1 : x > y ↔ b < a := j_lt hy hx
  have e2 : x = y ↔ a = b := by rw [← Int64.toInt_inj, hx, hy]
  by_cases h1 : b < a
  · rw [if_pos (e1.mpr h1)]; constructor
    · intro h; omega
    · intro h; decide
  · rw [if_neg (fun h => h1 (e1.mp h))]
    by_cases h2 : a = b
    · rw [if_pos (e2.mpr h2)]; constructor
      · intro h; exact absurd h (by decide)
      · intro h; omega
    · rw [if_neg (fun h => h2 (e2.mp h))]; constructor
      · intro h; exact absurd h (by decide)
      · intro h; omega
theorem q_in (N : Nat) {x y w : Int64} {a b d : Int} (hx : x.toInt = a) (hy : y.toInt = b) (hw : w.toInt = d) : f_X9_in N x y w = some (bI (decide (b ≤ a) && decide (a ≤ d))) := by
  unfold f_X9_in
  by_cases h1 : a < b
  · rw [if_pos ((q_cmp1 hx hy).mpr h1)]
    have e1 : decide (b ≤ a) = false := decide_eq_false (by omega)
    rw [e1]; rfl
  · rw [if_neg (fun h => h1 ((q_cmp1 hx hy).mp h))]
    have e1 : decide (b ≤ a) = true := decide_eq_true (by omega)
    by_cases h2 : d < a
    · rw [if_pos ((q_cmp2 hx hw).mpr h2)]
      have e2 : decide (a ≤ d) = false := decide_eq_false (by omega)
      rw [e1, e2]; rfl
    · rw [if_neg (fun h => h2 ((q_cmp2 hx hw).mp h))]
      have e2 : decide (a ≤ d) = true := decide_eq_true (by omega)
      rw [e1, e2]; rfl
theorem q_small (N : Nat) {z : Int} (hz : -2147483648 ≤ z ∧ z < 2147483648) : f_X9_isSmall N (iI z) = some (bI (decide (-99 ≤ z) && decide (z ≤ 99))) := by
  unfold f_X9_isSmall
  rw [b1_p (q_in N (j_of hz) rfl rfl), gz_b]; rfl
theorem q_isLaw9 (N : Nat) {z : Int} (hz : -2147483648 ≤ z ∧ z < 2147483648) : f_X9_isLaw N (iI z) = some (bI (decide (0 ≤ z) && decide (z ≤ 288))) := by
  unfold f_X9_isLaw
  rw [b1_p (q_in N (j_of hz) rfl rfl), gz_b]; rfl
theorem q_isState9 (N : Nat) {z : Int} (hz : -2147483648 ≤ z ∧ z < 2147483648) : f_X9_isState N (iI z) = some (bI (decide (-9999 ≤ z) && decide (z ≤ 9999))) := by
  unfold f_X9_isState
  rw [b1_p (q_in N (j_of hz) rfl rfl), gz_b]; rfl
theorem q_isSheet9 (N : Nat) {z : Int} (hz : -2147483648 ≤ z ∧ z < 2147483648) : f_X9_isSheet N (iI z) = some (bI (decide (0 ≤ z) && decide (z ≤ 3))) := by
  unfold f_X9_isSheet
  rw [b1_p (q_in N (j_of hz) rfl rfl), gz_b]; rfl
theorem q_isLane9 (N : Nat) {z : Int} (hz : -2147483648 ≤ z ∧ z < 2147483648) : f_X9_isLane N (iI z) = some (bI (decide (0 ≤ z) && decide (z ≤ 2))) := by
  unfold f_X9_isLane
  rw [b1_p (q_in N (j_of hz) rfl rfl), gz_b]; rfl
theorem q_isRow9 (N : Nat) {z : Int} {n : Nat} (hz : -2147483648 ≤ z ∧ z < 2147483648) (hn : n ≤ 12) : f_X9_isRow N (iI z) (iI n) = some (bI (decide (0 ≤ z) && decide (z ≤ (n : Int) - 1))) := by
  unfold f_X9_isRow
  rw [l1_I, iI_sub, b1_p (q_in N (j_of hz) rfl (j_of (by omega))), gz_b]; rfl
theorem q_is3 (N : Nat) {z : Int} (hz : -2147483648 ≤ z ∧ z < 2147483648) : f_X3_is N (iI z) = some (bI (decide (0 ≤ z) && decide (z ≤ 288))) := by
  unfold f_X3_is
  exact tri_1 _ _ ((k_ltR (by omega)).trans (by omega)) ((k_leL (by omega)).trans (by omega))
theorem q_isLane8 (N : Nat) {z : Int} (hz : -2147483648 ≤ z ∧ z < 2147483648) : f_X8_isLane N (iI z) = some (bI (decide (0 ≤ z) && decide (z ≤ 2))) := by
  unfold f_X8_isLane
  exact tri_1 _ _ ((k_ltR (by omega)).trans (by omega)) ((k_leL (by omega)).trans (by omega))
theorem q_has0 (N : Nat) {z : Int} {n : Nat} (hz : -2147483648 ≤ z ∧ z < 2147483648) (hn : n ≤ 12) : f_X0_has N (iI z) (iI n) = some (bI (decide (0 ≤ z) && decide (z ≤ (n : Int) - 1))) := by
  unfold f_X0_has
  by_cases h1 : z < 0
  · rw [if_pos ((k_ltR (by omega)).mpr h1), decide_eq_false (p := (0 ≤ z)) (by omega)]; rfl
  · rw [if_neg (fun q => h1 ((k_ltR (by omega)).mp q)), decide_eq_true (p := (0 ≤ z)) (by omega)]
    by_cases h2 : (n : Int) ≤ z
    · rw [if_pos ((iI_le (by omega)).mpr h2), decide_eq_false (by omega)]; rfl
    · rw [if_neg (fun q => h2 ((iI_le (by omega)).mp q)), if_neg (fun q => absurd ((k_leL (by omega)).mp q) (by omega)), decide_eq_true (by omega)]; rfl
