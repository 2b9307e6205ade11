/-! my own words: guards, binds, names for what a method computes; contracts in one form; a call in one row -/
def gi {α : Type} (i : Int32) (n : Nat) (a : Option α) : Option α := if i < 0 ∨ n ≤ i.toNatClampNeg then none else a
theorem gi_s {α : Type} {i : Int32} {n : Nat} {a : Option α} {y : α} (h : gi i n a = some y) : vp_in i n ∧ a = some y := by
  unfold gi at h
  by_cases hc : i < 0 ∨ n ≤ i.toNatClampNeg
  · rw [if_pos hc] at h; cases h
  · rw [if_neg hc] at h; exact ⟨hc, h⟩
def gd {α : Type} (d : Int32) (a : Option α) : Option α := if d = 0 then none else a
theorem gd_s {α : Type} {d : Int32} {a : Option α} {y : α} (h : gd d a = some y) : ¬ d = 0 ∧ a = some y := by
  unfold gd at h
  by_cases hc : d = 0
  · rw [if_pos hc] at h; cases h
  · rw [if_neg hc] at h; exact ⟨hc, h⟩
def gz {α : Type} (v : Int32) (a : Option α) : Option α := if v = 0 ∨ v = 1 then a else none
theorem gz_s {α : Type} {v : Int32} {a : Option α} {y : α} (h : gz v a = some y) : (v = 0 ∨ v = 1) ∧ a = some y := by
  unfold gz at h
  by_cases hc : v = 0 ∨ v = 1
  · rw [if_pos hc] at h; exact ⟨hc, h⟩
  · rw [if_neg hc] at h; cases h
theorem gz_n {v : Int32} (h : v = 0 ∨ v = 1) : narrow .boolean (.int v) = .int v := by rcases h with rfl | rfl <;> rfl
theorem gz_f {v : Int32} (h : v = 0 ∨ v = 1) : fits .boolean (.int v) = true := by rcases h with rfl | rfl <;> rfl
def gc {α : Type} (sp dp n : Int32) (n0 n1 : Nat) (a : Option α) : Option α := if ¬ sp < 0 ∧ ¬ dp < 0 ∧ ¬ n < 0 ∧ sp.toNatClampNeg + n.toNatClampNeg ≤ n0 ∧ dp.toNatClampNeg + n.toNatClampNeg ≤ n1 then a else none
theorem gc_s {α : Type} {sp dp n : Int32} {n0 n1 : Nat} {a : Option α} {y : α} (h : gc sp dp n n0 n1 a = some y) : (¬ sp < 0 ∧ ¬ dp < 0 ∧ ¬ n < 0 ∧ sp.toNatClampNeg + n.toNatClampNeg ≤ n0 ∧ dp.toNatClampNeg + n.toNatClampNeg ≤ n1) ∧ a = some y := by
  unfold gc at h
  by_cases hc : ¬ sp < 0 ∧ ¬ dp < 0 ∧ ¬ n < 0 ∧ sp.toNatClampNeg + n.toNatClampNeg ≤ n0 ∧ dp.toNatClampNeg + n.toNatClampNeg ≤ n1
  · rw [if_pos hc] at h; exact ⟨hc, h⟩
  · rw [if_neg hc] at h; cases h
def nm {α β : Type} (x : α) (g : α → Option β) : Option β := g x
theorem nm_s {α β : Type} {x y : α} {g : α → Option β} {z : β} (e : y = x) (h : nm x g = some z) : g y = some z := by rw [e]; exact h
theorem if_t {α : Type} {c : Prop} [Decidable c] {a b y : Option α} (h : c) (hF : (if c then a else b) = y) : a = y := by rw [if_pos h] at hF; exact hF
theorem if_f {α : Type} {c : Prop} [Decidable c] {a b y : Option α} (h : ¬ c) (hF : (if c then a else b) = y) : b = y := by rw [if_neg h] at hF; exact hF
def b0 {β : Type} (x : Option Unit) (g : Option β) : Option β := x.bind (fun _ => g)
theorem b0_s {β : Type} {x : Option Unit} {g : Option β} {y : β} (h : b0 x g = some y) : x = some () ∧ g = some y := by
  unfold b0 at h
  cases x with
  | none => cases h
  | some u => exact ⟨rfl, h⟩
def b1 {α β : Type} (x : Option α) (g : α → Option β) : Option β := x.bind g
theorem b1_s {α β : Type} {x : Option α} {g : α → Option β} {y : β} (h : b1 x g = some y) : ∃ a, x = some a ∧ g a = some y := by
  unfold b1 at h
  cases x with
  | none => cases h
  | some u => exact ⟨u, rfl, h⟩
def b2 {α1 α2 β : Type} (x : Option (α1 × α2)) (g : α1 → α2 → Option β) : Option β := x.bind (fun q => g q.1 q.2)
theorem b2_s {α1 α2 β : Type} {x : Option (α1 × α2)} {g : α1 → α2 → Option β} {y : β} (h : b2 x g = some y) : ∃ a b, x = some (a, b) ∧ g a b = some y := by
  unfold b2 at h
  cases x with
  | none => cases h
  | some u => exact ⟨u.1, u.2, rfl, h⟩
def b3 {α1 α2 α3 β : Type} (x : Option (α1 × α2 × α3)) (g : α1 → α2 → α3 → Option β) : Option β := x.bind (fun q => g q.1 q.2.1 q.2.2)
theorem b3_s {α1 α2 α3 β : Type} {x : Option (α1 × α2 × α3)} {g : α1 → α2 → α3 → Option β} {y : β} (h : b3 x g = some y) : ∃ a1 a2 a3, x = some (a1, a2, a3) ∧ g a1 a2 a3 = some y := by
  unfold b3 at h
  cases x with
  | none => cases h
  | some u => exact ⟨u.1, u.2.1, u.2.2, rfl, h⟩
def b4 {α1 α2 α3 α4 β : Type} (x : Option (α1 × α2 × α3 × α4)) (g : α1 → α2 → α3 → α4 → Option β) : Option β := x.bind (fun q => g q.1 q.2.1 q.2.2.1 q.2.2.2)
theorem b4_s {α1 α2 α3 α4 β : Type} {x : Option (α1 × α2 × α3 × α4)} {g : α1 → α2 → α3 → α4 → Option β} {y : β} (h : b4 x g = some y) : ∃ a1 a2 a3 a4, x = some (a1, a2, a3, a4) ∧ g a1 a2 a3 a4 = some y := by
  unfold b4 at h
  cases x with
  | none => cases h
  | some u => exact ⟨u.1, u.2.1, u.2.2.1, u.2.2.2, rfl, h⟩
def b5 {α1 α2 α3 α4 α5 β : Type} (x : Option (α1 × α2 × α3 × α4 × α5)) (g : α1 → α2 → α3 → α4 → α5 → Option β) : Option β := x.bind (fun q => g q.1 q.2.1 q.2.2.1 q.2.2.2.1 q.2.2.2.2)
theorem b5_s {α1 α2 α3 α4 α5 β : Type} {x : Option (α1 × α2 × α3 × α4 × α5)} {g : α1 → α2 → α3 → α4 → α5 → Option β} {y : β} (h : b5 x g = some y) : ∃ a1 a2 a3 a4 a5, x = some (a1, a2, a3, a4, a5) ∧ g a1 a2 a3 a4 a5 = some y := by
  unfold b5 at h
  cases x with
  | none => cases h
  | some u => exact ⟨u.1, u.2.1, u.2.2.1, u.2.2.2.1, u.2.2.2.2, rfl, h⟩
def b6 {α1 α2 α3 α4 α5 α6 β : Type} (x : Option (α1 × α2 × α3 × α4 × α5 × α6)) (g : α1 → α2 → α3 → α4 → α5 → α6 → Option β) : Option β := x.bind (fun q => g q.1 q.2.1 q.2.2.1 q.2.2.2.1 q.2.2.2.2.1 q.2.2.2.2.2)
theorem b6_s {α1 α2 α3 α4 α5 α6 β : Type} {x : Option (α1 × α2 × α3 × α4 × α5 × α6)} {g : α1 → α2 → α3 → α4 → α5 → α6 → Option β} {y : β} (h : b6 x g = some y) : ∃ a1 a2 a3 a4 a5 a6, x = some (a1, a2, a3, a4, a5, a6) ∧ g a1 a2 a3 a4 a5 a6 = some y := by
  unfold b6 at h
  cases x with
  | none => cases h
  | some u => exact ⟨u.1, u.2.1, u.2.2.1, u.2.2.2.1, u.2.2.2.2.1, u.2.2.2.2.2, rfl, h⟩
def b7 {α1 α2 α3 α4 α5 α6 α7 β : Type} (x : Option (α1 × α2 × α3 × α4 × α5 × α6 × α7)) (g : α1 → α2 → α3 → α4 → α5 → α6 → α7 → Option β) : Option β := x.bind (fun q => g q.1 q.2.1 q.2.2.1 q.2.2.2.1 q.2.2.2.2.1 q.2.2.2.2.2.1 q.2.2.2.2.2.2)
theorem b7_s {α1 α2 α3 α4 α5 α6 α7 β : Type} {x : Option (α1 × α2 × α3 × α4 × α5 × α6 × α7)} {g : α1 → α2 → α3 → α4 → α5 → α6 → α7 → Option β} {y : β} (h : b7 x g = some y) : ∃ a1 a2 a3 a4 a5 a6 a7, x = some (a1, a2, a3, a4, a5, a6, a7) ∧ g a1 a2 a3 a4 a5 a6 a7 = some y := by
  unfold b7 at h
  cases x with
  | none => cases h
  | some u => exact ⟨u.1, u.2.1, u.2.2.1, u.2.2.2.1, u.2.2.2.2.1, u.2.2.2.2.2.1, u.2.2.2.2.2.2, rfl, h⟩
def b8 {α1 α2 α3 α4 α5 α6 α7 α8 β : Type} (x : Option (α1 × α2 × α3 × α4 × α5 × α6 × α7 × α8)) (g : α1 → α2 → α3 → α4 → α5 → α6 → α7 → α8 → Option β) : Option β := x.bind (fun q => g q.1 q.2.1 q.2.2.1 q.2.2.2.1 q.2.2.2.2.1 q.2.2.2.2.2.1 q.2.2.2.2.2.2.1 q.2.2.2.2.2.2.2)
theorem b8_s {α1 α2 α3 α4 α5 α6 α7 α8 β : Type} {x : Option (α1 × α2 × α3 × α4 × α5 × α6 × α7 × α8)} {g : α1 → α2 → α3 → α4 → α5 → α6 → α7 → α8 → Option β} {y : β} (h : b8 x g = some y) : ∃ a1 a2 a3 a4 a5 a6 a7 a8, x = some (a1, a2, a3, a4, a5, a6, a7, a8) ∧ g a1 a2 a3 a4 a5 a6 a7 a8 = some y := by
  unfold b8 at h
  cases x with
  | none => cases h
  | some u => exact ⟨u.1, u.2.1, u.2.2.1, u.2.2.2.1, u.2.2.2.2.1, u.2.2.2.2.2.1, u.2.2.2.2.2.2.1, u.2.2.2.2.2.2.2, rfl, h⟩
def b9 {α1 α2 α3 α4 α5 α6 α7 α8 α9 β : Type} (x : Option (α1 × α2 × α3 × α4 × α5 × α6 × α7 × α8 × α9)) (g : α1 → α2 → α3 → α4 → α5 → α6 → α7 → α8 → α9 → Option β) : Option β := x.bind (fun q => g q.1 q.2.1 q.2.2.1 q.2.2.2.1 q.2.2.2.2.1 q.2.2.2.2.2.1 q.2.2.2.2.2.2.1 q.2.2.2.2.2.2.2.1 q.2.2.2.2.2.2.2.2)
theorem b9_s {α1 α2 α3 α4 α5 α6 α7 α8 α9 β : Type} {x : Option (α1 × α2 × α3 × α4 × α5 × α6 × α7 × α8 × α9)} {g : α1 → α2 → α3 → α4 → α5 → α6 → α7 → α8 → α9 → Option β} {y : β} (h : b9 x g = some y) : ∃ a1 a2 a3 a4 a5 a6 a7 a8 a9, x = some (a1, a2, a3, a4, a5, a6, a7, a8, a9) ∧ g a1 a2 a3 a4 a5 a6 a7 a8 a9 = some y := by
  unfold b9 at h
  cases x with
  | none => cases h
  | some u => exact ⟨u.1, u.2.1, u.2.2.1, u.2.2.2.1, u.2.2.2.2.1, u.2.2.2.2.2.1, u.2.2.2.2.2.2.1, u.2.2.2.2.2.2.2.1, u.2.2.2.2.2.2.2.2, rfl, h⟩
def b10 {α1 α2 α3 α4 α5 α6 α7 α8 α9 α10 β : Type} (x : Option (α1 × α2 × α3 × α4 × α5 × α6 × α7 × α8 × α9 × α10)) (g : α1 → α2 → α3 → α4 → α5 → α6 → α7 → α8 → α9 → α10 → Option β) : Option β := x.bind (fun q => g q.1 q.2.1 q.2.2.1 q.2.2.2.1 q.2.2.2.2.1 q.2.2.2.2.2.1 q.2.2.2.2.2.2.1 q.2.2.2.2.2.2.2.1 q.2.2.2.2.2.2.2.2.1 q.2.2.2.2.2.2.2.2.2)
theorem b10_s {α1 α2 α3 α4 α5 α6 α7 α8 α9 α10 β : Type} {x : Option (α1 × α2 × α3 × α4 × α5 × α6 × α7 × α8 × α9 × α10)} {g : α1 → α2 → α3 → α4 → α5 → α6 → α7 → α8 → α9 → α10 → Option β} {y : β} (h : b10 x g = some y) : ∃ a1 a2 a3 a4 a5 a6 a7 a8 a9 a10, x = some (a1, a2, a3, a4, a5, a6, a7, a8, a9, a10) ∧ g a1 a2 a3 a4 a5 a6 a7 a8 a9 a10 = some y := by
  unfold b10 at h
  cases x with
  | none => cases h
  | some u => exact ⟨u.1, u.2.1, u.2.2.1, u.2.2.2.1, u.2.2.2.2.1, u.2.2.2.2.2.1, u.2.2.2.2.2.2.1, u.2.2.2.2.2.2.2.1, u.2.2.2.2.2.2.2.2.1, u.2.2.2.2.2.2.2.2.2, rfl, h⟩
def b11 {α1 α2 α3 α4 α5 α6 α7 α8 α9 α10 α11 β : Type} (x : Option (α1 × α2 × α3 × α4 × α5 × α6 × α7 × α8 × α9 × α10 × α11)) (g : α1 → α2 → α3 → α4 → α5 → α6 → α7 → α8 → α9 → α10 → α11 → Option β) : Option β := x.bind (fun q => g q.1 q.2.1 q.2.2.1 q.2.2.2.1 q.2.2.2.2.1 q.2.2.2.2.2.1 q.2.2.2.2.2.2.1 q.2.2.2.2.2.2.2.1 q.2.2.2.2.2.2.2.2.1 q.2.2.2.2.2.2.2.2.2.1 q.2.2.2.2.2.2.2.2.2.2)
theorem b11_s {α1 α2 α3 α4 α5 α6 α7 α8 α9 α10 α11 β : Type} {x : Option (α1 × α2 × α3 × α4 × α5 × α6 × α7 × α8 × α9 × α10 × α11)} {g : α1 → α2 → α3 → α4 → α5 → α6 → α7 → α8 → α9 → α10 → α11 → Option β} {y : β} (h : b11 x g = some y) : ∃ a1 a2 a3 a4 a5 a6 a7 a8 a9 a10 a11, x = some (a1, a2, a3, a4, a5, a6, a7, a8, a9, a10, a11) ∧ g a1 a2 a3 a4 a5 a6 a7 a8 a9 a10 a11 = some y := by
  unfold b11 at h
  cases x with
  | none => cases h
  | some u => exact ⟨u.1, u.2.1, u.2.2.1, u.2.2.2.1, u.2.2.2.2.1, u.2.2.2.2.2.1, u.2.2.2.2.2.2.1, u.2.2.2.2.2.2.2.1, u.2.2.2.2.2.2.2.2.1, u.2.2.2.2.2.2.2.2.2.1, u.2.2.2.2.2.2.2.2.2.2, rfl, h⟩
def b12 {α1 α2 α3 α4 α5 α6 α7 α8 α9 α10 α11 α12 β : Type} (x : Option (α1 × α2 × α3 × α4 × α5 × α6 × α7 × α8 × α9 × α10 × α11 × α12)) (g : α1 → α2 → α3 → α4 → α5 → α6 → α7 → α8 → α9 → α10 → α11 → α12 → Option β) : Option β := x.bind (fun q => g q.1 q.2.1 q.2.2.1 q.2.2.2.1 q.2.2.2.2.1 q.2.2.2.2.2.1 q.2.2.2.2.2.2.1 q.2.2.2.2.2.2.2.1 q.2.2.2.2.2.2.2.2.1 q.2.2.2.2.2.2.2.2.2.1 q.2.2.2.2.2.2.2.2.2.2.1 q.2.2.2.2.2.2.2.2.2.2.2)
theorem b12_s {α1 α2 α3 α4 α5 α6 α7 α8 α9 α10 α11 α12 β : Type} {x : Option (α1 × α2 × α3 × α4 × α5 × α6 × α7 × α8 × α9 × α10 × α11 × α12)} {g : α1 → α2 → α3 → α4 → α5 → α6 → α7 → α8 → α9 → α10 → α11 → α12 → Option β} {y : β} (h : b12 x g = some y) : ∃ a1 a2 a3 a4 a5 a6 a7 a8 a9 a10 a11 a12, x = some (a1, a2, a3, a4, a5, a6, a7, a8, a9, a10, a11, a12) ∧ g a1 a2 a3 a4 a5 a6 a7 a8 a9 a10 a11 a12 = some y := by
  unfold b12 at h
  cases x with
  | none => cases h
  | some u => exact ⟨u.1, u.2.1, u.2.2.1, u.2.2.2.1, u.2.2.2.2.1, u.2.2.2.2.2.1, u.2.2.2.2.2.2.1, u.2.2.2.2.2.2.2.1, u.2.2.2.2.2.2.2.2.1, u.2.2.2.2.2.2.2.2.2.1, u.2.2.2.2.2.2.2.2.2.2.1, u.2.2.2.2.2.2.2.2.2.2.2, rfl, h⟩
/-- the array classes that every world has: ints, bytes, booleans, sheets -/
abbrev tyW (ky : Nat → ClassId) : List (ClassId × FieldType) := [(ky 0, .int), (ky 1, .byte), (ky 2, .boolean), (ky 3, .object "TwoLaws$Sheet")]
/-- what holds of a method's frame throughout -/
def cx (p : Program) (s : State) (m : MethodId) (c : Code) (args : Array Value) (D : va_G) (ky : Nat → ClassId) (A : Nat → Prop) (cc : ByteArray) (nL : Nat) (Ts : List Cond) (own : String) : Prop :=
  p.tables.exec = Jvm.exec ∧ c.code = cc ∧ c.maxLocals = nL ∧ s.vm.findClass own = some m.cls ∧ (∀ w ∈ Ts, w.before args s = true) ∧ va_K D vwCl (tyW ky) s ∧ (∀ q, s.heap.size ≤ q → A q)
/-- a contract with an int answer: the world w becomes w', the answer is rv -/
def MI (l : Launch) (y : MethodName) (ws : List Cond) (rm : Room) (D : va_G) (ky : Nat → ClassId) (sz : Nat) (av : List Value) (w w' : va_W) (rv : Int32) : Prop :=
  Met l y ws rm (va_Pc av (fun U => U.heap.size = sz ∧ va_P D vwCl w U.heap ∧ va_K D vwCl (tyW ky) U ∧ va_D (fun _ => True) w)) (va_Qi (S := Unit) (fun r _ => r = rv) (fun _ t => va_P D vwCl w' t.heap ∧ va_K D vwCl (tyW ky) t ∧ va_D (va_A w sz) w') (va_A w sz)) 0 0 (va_A w sz)
def MV (l : Launch) (y : MethodName) (ws : List Cond) (rm : Room) (D : va_G) (ky : Nat → ClassId) (sz : Nat) (av : List Value) (w w' : va_W) : Prop :=
  Met l y ws rm (va_Pc av (fun U => U.heap.size = sz ∧ va_P D vwCl w U.heap ∧ va_K D vwCl (tyW ky) U ∧ va_D (fun _ => True) w)) (va_Qv (S := Unit) (fun _ => True) (fun _ t => va_P D vwCl w' t.heap ∧ va_K D vwCl (tyW ky) t ∧ va_D (va_A w sz) w') (va_A w sz)) 0 0 (va_A w sz)
/-- a contract that answers a reference or null -/
def MQr (l : Launch) (y : MethodName) (ws : List Cond) (rm : Room) (D : va_G) (ky : Nat → ClassId) (sz : Nat) (av : List Value) (w w' : va_W) (rv : Option Nat) : Prop :=
  Met l y ws rm (va_Pc av (fun U => U.heap.size = sz ∧ va_P D vwCl w U.heap ∧ va_K D vwCl (tyW ky) U ∧ va_D (fun _ => True) w)) (va_Qq (S := Unit) (fun r _ => r = rv) (fun _ t => va_P D vwCl w' t.heap ∧ va_K D vwCl (tyW ky) t ∧ va_D (va_A w sz) w') (va_A w sz)) 0 0 (va_A w sz)
theorem fm_of {α : Type} {f : Nat → Option α} : ∀ {is : List Nat} {w : List α}, is.map f = w.map some → is.filterMap f = w
  | [], [], _ => rfl
  | [], _ :: _, h => by simp at h
  | _ :: _, [], h => by simp at h
  | i :: is, x :: w, h => by
    simp only [List.map_cons, List.cons.injEq] at h
    rw [List.filterMap_cons, h.1, fm_of h.2]
theorem va_K.mv {D : va_G} {cl : List vw_C} {tys : List (ClassId × FieldType)} {U : State} (g : JFrame) (mk : MethodId) (a : Array Value) (h : va_K D cl tys U) : va_K D cl tys (U.calling g mk a) := va_K.moved (u := U) (U := U.calling g mk a) (Vm.Alike.refl U.vm) h
theorem ofWF {l : Launch} {y : MethodName} {ws ws' : List Cond} {rm : Room} {Pc : Array Value → State → Prop} {Qc : Array Value → State → Outcome → State → Prop} {mc ms : Nat} {free : Addr → Prop} {cc : ByteArray} {maxL : Nat} {ret : Option FieldType}
    (hy : plainFor y = true) (hw : ws = Cond.code y cc maxL ret :: ws')
    (body : ∀ p e s m args below meth c s₁, BodyLoose p l y (headSpec ws rm) cc maxL ret e s m args below meth c s₁ → c.maxLocals = maxL → Pc args s →
      W p l e (headSpec ws rm).room s m args below meth c s.heap [] 0 0 (MQ below Qc args s mc ms free) (entryFrame m args maxL)) : Met l y ws rm Pc Qc mc ms free := by
  refine MetFree.of_bodyRF (code := cc) (maxLocals := maxL) (ret := ret) hy ?_ ?_
  · intro args s m h hn
    obtain ⟨meth, c, h1, h2, h3, h4, h5, h6, -, -⟩ := Cond.code_spec hn (atoms_spec (ws := ws) h _ (by rw [hw]; exact List.mem_cons_self))
    exact ⟨meth, c, h1, h2, h3, h4, h5, h6⟩
  · intro p e s m args below meth c s₁ B hml hP _ st
    have hh0 : s₁.heap = s.heap := by rw [B.state]; rfl
    obtain ⟨t, a1, o, b1, b2, b3⟩ := body p e s m args below meth c s₁ B hml hP s₁ hh0 (Stand.of_body B)
    exact ⟨t, o, st.trans a1, b1, b2, ⟨b3.1, b3.2⟩⟩
section CL
variable {p : Program} {l : Launch} {e : Env} {R : Room} {s : State} {m : MethodId} {args : Array Value} {below : List Frame} {meth : Method} {c : Code} {H H0 : Heap} {locs : List Loc} {cells slots : Nat} {Q : State → Prop} {A : Nat → Prop} {D : va_G} {ky : Nat → ClassId} {y : MethodName} {bytes cc : ByteArray} {maxL nL n index pc b : Nat} {ret : Option FieldType} {ws : List Cond} {rm : Room} {Ts : List Cond} {own C : String} {As rest : List Value} {ls : Array Slot} {w wc wc' wr w' : va_W} {rv : Int32}
theorem cl_vi (S : CallFix p m c cc nL s args Ts own) (hK : va_K D vwCl (tyW ky) s) (hP : va_P D vwCl w H) (hD : va_D A w) (hS : va_S A H0 H locs) (hA : ∀ q, H0.size ≤ q → A q)
    (hM : MI l y ws rm D ky H.size (.ref b :: As) wc wc' rv) (cw : CallW R s args own C index y bytes maxL ret ws rm 0 0 n) (isC isR perm : List Nat) (q0 ci : Nat) {r : vw_C} {fs : List Value} (hc : vwCl[ci]? = some r) (hCr : r.1 = C) (he : wc[q0]? = some (b, .inr (ci, fs)))
    (hC1 : isC.map (fun i => w[i]?) = wc.map some) (hR1 : isR.map (fun i => w[i]?) = wr.map some) (hn3 : va_nd isC = true ∧ va_nd isR = true ∧ va_nd perm = true ∧ ∀ i ∈ isR, i ∉ isC) (hp : perm.map (fun i => (wr ++ wc')[i]?) = w'.map some)
    (hn : As.length = n) (hsize : ls.size = nL) (hW : (rest.map fun v => v.category).sum ≤ 8) (hdg : decode cc pc = .ok (.invokevirtual index, 3)) (hf : cells ≤ R.cells ∧ slots ≤ R.slots)
    (kk : ∀ (H1 : Heap) (locs1 : List Loc), va_P D vwCl w' H1 → va_D A w' → va_S A H0 H1 locs1 → W p l e R s m args below meth c H1 locs1 cells slots Q (F0 m (pc + 3) ls (.int rv :: rest))) : W p l e R s m args below meth c H locs cells slots Q (F0 m pc ls (As.reverse ++ .ref b :: rest)) := by
  subst hCr
  have hPc := hP.sub isC (fm_of hC1)
  have hDc := hD.sub isC hn3.1 hC1
  have hFc := va_free hD hS hA isC hC1
  refine va_calli (va_runV (As := As) (rest := rest) S hM cw ⟨fun a U g mk q => by obtain ⟨q0, q1, qP, qK, qD⟩ := q; exact ⟨q0, q1, qP, qK.mv g mk a, qD⟩, va_recv hK hPc hc he, fun U hU hW => ⟨rfl, by rw [hU], by rw [hU]; exact hPc, va_K.moved hW.alike hK, hDc.weaken (fun _ _ _ _ => trivial)⟩⟩ rfl hn hsize rfl (lv_room hW) hdg hf) hS (fun q _ h => hFc q h) hFc (fun r u t H1 locs1 ht hvm hw hB hz1 hk1 hS1 => ?_)
  obtain ⟨hP1, hK1, hD1⟩ := hB
  rw [ht] at hP1
  have hw : r = rv := hw
  subst hw
  obtain ⟨hP2, hD2⟩ := va_join hP hD isC isR hC1 hR1 hn3.2.1 hn3.2.2.2 hk1 hFc hP1 hD1
  exact kk H1 locs1 (hP2.sub perm (fm_of hp)) (hD2.sub perm hn3.2.2.1 hp) hS1
theorem cl_vv (S : CallFix p m c cc nL s args Ts own) (hK : va_K D vwCl (tyW ky) s) (hP : va_P D vwCl w H) (hD : va_D A w) (hS : va_S A H0 H locs) (hA : ∀ q, H0.size ≤ q → A q)
    (hM : MV l y ws rm D ky H.size (.ref b :: As) wc wc') (cw : CallW R s args own C index y bytes maxL ret ws rm 0 0 n) (isC isR perm : List Nat) (q0 ci : Nat) {r : vw_C} {fs : List Value} (hc : vwCl[ci]? = some r) (hCr : r.1 = C) (he : wc[q0]? = some (b, .inr (ci, fs)))
    (hC1 : isC.map (fun i => w[i]?) = wc.map some) (hR1 : isR.map (fun i => w[i]?) = wr.map some) (hn3 : va_nd isC = true ∧ va_nd isR = true ∧ va_nd perm = true ∧ ∀ i ∈ isR, i ∉ isC) (hp : perm.map (fun i => (wr ++ wc')[i]?) = w'.map some)
    (hn : As.length = n) (hsize : ls.size = nL) (hW : (rest.map fun v => v.category).sum ≤ 8) (hdg : decode cc pc = .ok (.invokevirtual index, 3)) (hf : cells ≤ R.cells ∧ slots ≤ R.slots)
    (kk : ∀ (H1 : Heap) (locs1 : List Loc), va_P D vwCl w' H1 → va_D A w' → va_S A H0 H1 locs1 → W p l e R s m args below meth c H1 locs1 cells slots Q (F0 m (pc + 3) ls rest)) : W p l e R s m args below meth c H locs cells slots Q (F0 m pc ls (As.reverse ++ .ref b :: rest)) := by
  subst hCr
  have hPc := hP.sub isC (fm_of hC1)
  have hDc := hD.sub isC hn3.1 hC1
  have hFc := va_free hD hS hA isC hC1
  refine va_callv (va_runV (As := As) (rest := rest) S hM cw ⟨fun a U g mk q => by obtain ⟨q0, q1, qP, qK, qD⟩ := q; exact ⟨q0, q1, qP, qK.mv g mk a, qD⟩, va_recv hK hPc hc he, fun U hU hW => ⟨rfl, by rw [hU], by rw [hU]; exact hPc, va_K.moved hW.alike hK, hDc.weaken (fun _ _ _ _ => trivial)⟩⟩ rfl hn hsize rfl (lv_room hW) hdg hf) hS (fun q _ h => hFc q h) hFc (fun u t H1 locs1 ht hvm hw hB hz1 hk1 hS1 => ?_)
  obtain ⟨hP1, hK1, hD1⟩ := hB
  rw [ht] at hP1
  obtain ⟨hP2, hD2⟩ := va_join hP hD isC isR hC1 hR1 hn3.2.1 hn3.2.2.2 hk1 hFc hP1 hD1
  exact kk H1 locs1 (hP2.sub perm (fm_of hp)) (hD2.sub perm hn3.2.2.1 hp) hS1
theorem cl_vq {ro : Option Nat} (S : CallFix p m c cc nL s args Ts own) (hK : va_K D vwCl (tyW ky) s) (hP : va_P D vwCl w H) (hD : va_D A w) (hS : va_S A H0 H locs) (hA : ∀ q, H0.size ≤ q → A q)
    (hM : MQr l y ws rm D ky H.size (.ref b :: As) wc wc' ro) (cw : CallW R s args own C index y bytes maxL ret ws rm 0 0 n) (isC isR perm : List Nat) (q0 ci : Nat) {r : vw_C} {fs : List Value} (hc : vwCl[ci]? = some r) (hCr : r.1 = C) (he : wc[q0]? = some (b, .inr (ci, fs)))
    (hC1 : isC.map (fun i => w[i]?) = wc.map some) (hR1 : isR.map (fun i => w[i]?) = wr.map some) (hn3 : va_nd isC = true ∧ va_nd isR = true ∧ va_nd perm = true ∧ ∀ i ∈ isR, i ∉ isC) (hp : perm.map (fun i => (wr ++ wc')[i]?) = w'.map some)
    (hn : As.length = n) (hsize : ls.size = nL) (hW : (rest.map fun v => v.category).sum ≤ 8) (hdg : decode cc pc = .ok (.invokevirtual index, 3)) (hf : cells ≤ R.cells ∧ slots ≤ R.slots)
    (kk : ∀ (H1 : Heap) (locs1 : List Loc), va_P D vwCl w' H1 → va_D A w' → va_S A H0 H1 locs1 → W p l e R s m args below meth c H1 locs1 cells slots Q (F0 m (pc + 3) ls (va_rf ro :: rest))) : W p l e R s m args below meth c H locs cells slots Q (F0 m pc ls (As.reverse ++ .ref b :: rest)) := by
  subst hCr
  have hPc := hP.sub isC (fm_of hC1)
  have hDc := hD.sub isC hn3.1 hC1
  have hFc := va_free hD hS hA isC hC1
  refine va_callq (va_runV (As := As) (rest := rest) S hM cw ⟨fun a U g mk q => by obtain ⟨q0, q1, qP, qK, qD⟩ := q; exact ⟨q0, q1, qP, qK.mv g mk a, qD⟩, va_recv hK hPc hc he, fun U hU hW => ⟨rfl, by rw [hU], by rw [hU]; exact hPc, va_K.moved hW.alike hK, hDc.weaken (fun _ _ _ _ => trivial)⟩⟩ rfl hn hsize rfl (lv_room hW) hdg hf) hS (fun q _ h => hFc q h) hFc (fun r u t H1 locs1 ht hvm hw hB hz1 hk1 hS1 => ?_)
  obtain ⟨hP1, hK1, hD1⟩ := hB
  rw [ht] at hP1
  have hw : r = ro := hw
  subst hw
  obtain ⟨hP2, hD2⟩ := va_join hP hD isC isR hC1 hR1 hn3.2.1 hn3.2.2.2 hk1 hFc hP1 hD1
  exact kk H1 locs1 (hP2.sub perm (fm_of hp)) (hD2.sub perm hn3.2.2.1 hp) hS1
theorem cl_si (S : CallFix p m c cc nL s args Ts own) (hK : va_K D vwCl (tyW ky) s) (hP : va_P D vwCl w H) (hD : va_D A w) (hS : va_S A H0 H locs) (hA : ∀ q, H0.size ≤ q → A q)
    (hM : MI l y ws rm D ky H.size As [] [] rv) (cw : CallB R s args own index y bytes maxL ret ws rm 0 0 n ∧ (Cond.static y).before args s = true)
    (hn : As.length = n) (hsize : ls.size = nL) (hW : (rest.map fun v => v.category).sum ≤ 8) (hdg : decode cc pc = .ok (.invokestatic index, 3)) (hf : cells ≤ R.cells ∧ slots ≤ R.slots)
    (kk : ∀ (H1 : Heap) (locs1 : List Loc), va_P D vwCl w H1 → va_D A w → va_S A H0 H1 locs1 → W p l e R s m args below meth c H1 locs1 cells slots Q (F0 m (pc + 3) ls (.int rv :: rest))) : W p l e R s m args below meth c H locs cells slots Q (F0 m pc ls (As.reverse ++ rest)) := by
  have hFc : ∀ q, va_A [] H.size q → A q := va_free (wc := []) hD hS hA [] rfl
  refine va_calli (va_runS (As := As) (rest := rest) S hM cw ⟨fun a U g mk q => by obtain ⟨q0, q1, qP, qK, qD⟩ := q; exact ⟨q0, q1, qP, qK.mv g mk a, qD⟩, fun U hU hW => ⟨rfl, by rw [hU], fun k q h => by simp at h, va_K.moved hW.alike hK, ⟨fun i j p q h => by simp at h, fun k q h => by simp at h⟩⟩⟩ rfl hn hsize rfl (lv_room hW) hdg hf) hS (fun q _ h => hFc q h) hFc (fun r u t H1 locs1 ht hvm hw hB hz1 hk1 hS1 => ?_)
  have hw : r = rv := hw
  subst hw
  refine kk H1 locs1 (hP.kept (fun k q hq => hk1 q.1 ((hP k q hq).lt) (fun h => ?_))) hD hS1
  rcases h with ⟨k2, e2, h⟩ | h
  · simp at h
  · exact absurd ((hP k q hq).lt) (Nat.not_lt.mpr h)
theorem cl_sv (S : CallFix p m c cc nL s args Ts own) (hK : va_K D vwCl (tyW ky) s) (hP : va_P D vwCl w H) (hD : va_D A w) (hS : va_S A H0 H locs) (hA : ∀ q, H0.size ≤ q → A q)
    (hM : MV l y ws rm D ky H.size As wc wc') (cw : CallB R s args own index y bytes maxL ret ws rm 0 0 n ∧ (Cond.static y).before args s = true) (isC isR perm : List Nat)
    (hC1 : isC.map (fun i => w[i]?) = wc.map some) (hR1 : isR.map (fun i => w[i]?) = wr.map some) (hn3 : va_nd isC = true ∧ va_nd isR = true ∧ va_nd perm = true ∧ ∀ i ∈ isR, i ∉ isC) (hp : perm.map (fun i => (wr ++ wc')[i]?) = w'.map some)
    (hn : As.length = n) (hsize : ls.size = nL) (hW : (rest.map fun v => v.category).sum ≤ 8) (hdg : decode cc pc = .ok (.invokestatic index, 3)) (hf : cells ≤ R.cells ∧ slots ≤ R.slots)
    (kk : ∀ (H1 : Heap) (locs1 : List Loc), va_P D vwCl w' H1 → va_D A w' → va_S A H0 H1 locs1 → W p l e R s m args below meth c H1 locs1 cells slots Q (F0 m (pc + 3) ls rest)) : W p l e R s m args below meth c H locs cells slots Q (F0 m pc ls (As.reverse ++ rest)) := by
  have hPc := hP.sub isC (fm_of hC1)
  have hDc := hD.sub isC hn3.1 hC1
  have hFc := va_free hD hS hA isC hC1
  refine va_callv (va_runS (As := As) (rest := rest) S hM cw ⟨fun a U g mk q => by obtain ⟨q0, q1, qP, qK, qD⟩ := q; exact ⟨q0, q1, qP, qK.mv g mk a, qD⟩, fun U hU hW => ⟨rfl, by rw [hU], by rw [hU]; exact hPc, va_K.moved hW.alike hK, hDc.weaken (fun _ _ _ _ => trivial)⟩⟩ rfl hn hsize rfl (lv_room hW) hdg hf) hS (fun q _ h => hFc q h) hFc (fun u t H1 locs1 ht hvm hw hB hz1 hk1 hS1 => ?_)
  obtain ⟨hP1, hK1, hD1⟩ := hB
  rw [ht] at hP1
  obtain ⟨hP2, hD2⟩ := va_join hP hD isC isR hC1 hR1 hn3.2.1 hn3.2.2.2 hk1 hFc hP1 hD1
  exact kk H1 locs1 (hP2.sub perm (fm_of hp)) (hD2.sub perm hn3.2.2.1 hp) hS1
end CL
