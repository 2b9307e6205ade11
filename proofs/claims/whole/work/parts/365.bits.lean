/-! how many bits -/
def ctb (p : Nat → Bool) : Nat → Nat
  | 0 => 0
  | k + 1 => ctb p k + (if p k then 1 else 0)
theorem ctb_cong {p q : Nat → Bool} : ∀ {n : Nat}, (∀ r, r < n → p r = q r) → ctb p n = ctb q n
  | 0, _ => rfl
  | n + 1, h => by unfold ctb; rw [ctb_cong (fun r hr => h r (by omega)), h n (by omega)]
theorem ctb_more {p : Nat → Bool} {n : Nat} (h : ∀ r, n ≤ r → p r = false) : ∀ d, ctb p (n + d) = ctb p n
  | 0 => rfl
  | d + 1 => by
    show ctb p (n + d) + (if p (n + d) then 1 else 0) = _
    rw [ctb_more h d, h (n + d) (by omega)]; simp
theorem ctb_le (p : Nat → Bool) : ∀ n, ctb p n ≤ n
  | 0 => Nat.le_refl _
  | n + 1 => by
    have := ctb_le p n
    unfold ctb
    split <;> omega
set_option maxRecDepth 100000 in
theorem bc_all : ∀ h, h < 4096 → f_J6_bitCount_0f7a4 0 (nI h) = some (nI (ctb (fun r => h.testBit r) 12)) := by decide +kernel
