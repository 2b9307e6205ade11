theorem fa_and (a b : Nat) : nI a &&& nI b = nI (a &&& b) := by
  apply Int32.toBitVec_inj.1
  show BitVec.ofNat 32 a &&& BitVec.ofNat 32 b = BitVec.ofNat 32 (a &&& b)
  apply BitVec.eq_of_getLsbD_eq
  intro i hi
  simp [hi]
theorem fa_or (a b : Nat) : nI a ||| nI b = nI (a ||| b) := by
  apply Int32.toBitVec_inj.1
  show BitVec.ofNat 32 a ||| BitVec.ofNat 32 b = BitVec.ofNat 32 (a ||| b)
  apply BitVec.eq_of_getLsbD_eq
  intro i hi
  simp [hi]
theorem fb_xorI (a b : Nat) : nI a ^^^ nI b = nI (a ^^^ b) := by
  apply Int32.toBitVec_inj.1
  show BitVec.ofNat 32 a ^^^ BitVec.ofNat 32 b = BitVec.ofNat 32 (a ^^^ b)
  apply BitVec.eq_of_getLsbD_eq
  intro i hi
  simp [hi]
/-! a law's sum -/
def sm (law : Nat) (X U : Int) : Int := (((law / 17 : Nat) : Int) - 8) * X + (((law % 17 : Nat) : Int) - 8) * U
theorem mul8 {a X B : Int} (h : -8 ≤ a ∧ a ≤ 8) (hX : -B ≤ X ∧ X ≤ B) : -(8 * B) ≤ a * X ∧ a * X ≤ 8 * B := by
  have hc : a = -8 ∨ a = -7 ∨ a = -6 ∨ a = -5 ∨ a = -4 ∨ a = -3 ∨ a = -2 ∨ a = -1 ∨ a = 0 ∨ a = 1 ∨ a = 2 ∨ a = 3 ∨ a = 4 ∨ a = 5 ∨ a = 6 ∨ a = 7 ∨ a = 8 := by omega
  rcases hc with rfl | rfl | rfl | rfl | rfl | rfl | rfl | rfl | rfl | rfl | rfl | rfl | rfl | rfl | rfl | rfl | rfl <;> (constructor <;> omega)
theorem sm_bd {law : Nat} (hl : law < 289) {X U A B : Int} (hX : -A ≤ X ∧ X ≤ A) (hU : -B ≤ U ∧ U ≤ B) : -(8 * A + 8 * B) ≤ sm law X U ∧ sm law X U ≤ 8 * A + 8 * B := by
  have h1 : law / 17 < 17 := by omega
  have h2 : law % 17 < 17 := by omega
  have g1 := mul8 (a := ((law / 17 : Nat) : Int) - 8) (by omega) hX
  have g2 := mul8 (a := ((law % 17 : Nat) : Int) - 8) (by omega) hU
  unfold sm
  omega
theorem q_ps (N : Nat) {law : Nat} (hl : law < 289) : f_X3_partOfState N (iI law) = some (iI (((law / 17 : Nat) : Int) - 8)) := by
  unfold f_X3_partOfState
  rw [litN 17, litN 8, iI_divN (by omega) (by omega) (by omega), iI_sub]; rfl
theorem q_pp (N : Nat) {law : Nat} (hl : law < 289) : f_X3_partOfPush N (iI law) = some (iI (((law % 17 : Nat) : Int) - 8)) := by
  unfold f_X3_partOfPush
  rw [litN 17, litN 8, iI_remN (by omega) (by omega) (by omega), iI_sub]; rfl
theorem q_sum3 (N : Nat) {law : Nat} (hl : law < 289) (X U : Int) : f_X3_sum N (iI law) (iI X) (iI U) = some (iI (sm law X U)) := by
  unfold f_X3_sum
  rw [b1_p (q_ps N hl), b1_p (q_pp N hl), iI_mul, iI_mul, iI_add]; rfl
theorem q_sum9 (N : Nat) {law : Nat} (hl : law < 289) (X U : Int) : f_X9_sumOf N (iI law) (iI X) (iI U) = some (iI (sm law X U)) := by
  unfold f_X9_sumOf
  rw [litN 17, litN 8, iI_remN (by omega) (by omega) (by omega), iI_divN (by omega) (by omega) (by omega), iI_sub, iI_sub, iI_mul, iI_mul, iI_add]; rfl
/-- whether a row meets a law -/
def near4 (d : Int) (E : Nat) : Bool := decide (-(4 * (E : Int)) ≤ d) && decide (d ≤ 4 * (E : Int))
def fit (law : Nat) (X U Y : Int) (E : Nat) : Bool := near4 (4 * Y - sm law X U) E
theorem q_isMet3 (N : Nat) {S Y : Int} {E : Nat} (hS : -100000 ≤ S ∧ S ≤ 100000) (hY : -100000 ≤ Y ∧ Y ≤ 100000) (hE : E ≤ 1000) : f_X3_isMet N (iI S) (iI Y) (iI E) = some (bI (near4 (4 * Y - S) E)) := by
  unfold f_X3_isMet near4
  rw [litN 4, iI_mul, iI_mul, iI_sub]
  have e0 : (if 0 ≤ iI (((4 : Nat) : Int) * Y - S) then iI (((4 : Nat) : Int) * Y - S) else 0 - iI (((4 : Nat) : Int) * Y - S)) = iI (if 0 ≤ 4 * Y - S then 4 * Y - S else -(4 * Y - S)) := by
    by_cases h : 0 ≤ 4 * Y - S
    · rw [if_pos h, if_pos]
      · rfl
      · rw [l0_I, iI_le (by omega)]; exact h
    · rw [if_neg h, if_neg]
      · rw [l0_I, iI_sub]; congr 1; omega
      · rw [l0_I, iI_le (by omega)]; exact h
  rw [e0]
  by_cases h : 0 ≤ 4 * Y - S
  · rw [if_pos h, decide_eq_true (p := (-(4 * (E : Int)) ≤ 4 * Y - S)) (by omega)]
    by_cases g : 4 * Y - S ≤ 4 * (E : Int)
    · rw [if_neg (by rw [iI_lt (by omega)]; omega), decide_eq_true g]; rfl
    · rw [if_pos (by rw [iI_lt (by omega)]; omega), decide_eq_false g]; rfl
  · rw [if_neg h, decide_eq_true (p := (4 * Y - S ≤ 4 * (E : Int))) (by omega)]
    by_cases g : -(4 * (E : Int)) ≤ 4 * Y - S
    · rw [if_neg (by rw [iI_lt (by omega)]; omega), decide_eq_true g]; rfl
    · rw [if_pos (by rw [iI_lt (by omega)]; omega), decide_eq_false g]; rfl
theorem q_fits9 (N : Nat) {law : Nat} (hl : law < 289) {X U Y : Int} {E : Nat} (hX : -99 ≤ X ∧ X ≤ 99) (hU : -99 ≤ U ∧ U ≤ 99) (hY : -1000 ≤ Y ∧ Y ≤ 1000) (hE : E ≤ 20) : f_X9_fits N (iI law) (iI X) (iI U) (iI Y) (iI E) = some (bI (fit law X U Y E)) := by
  have hb := sm_bd hl hX hU
  unfold f_X9_fits
  rw [b1_p (q_sum9 N hl X U), litN 4, iI_neg, iI_mul, iI_mul, iI_mul, iI_sub, b1_p (q_in N (j_of (by omega)) (j_of (by omega)) (j_of (by omega))), gz_b]
  unfold fit near4
  have e1 : (-((4 : Nat) : Int) * (E : Int)) = -(4 * (E : Int)) := by omega
  rw [e1]; rfl
theorem q_met3 (N : Nat) {law : Nat} (hl : law < 289) {X U Y : Int} {E : Nat} (hX : -99 ≤ X ∧ X ≤ 99) (hU : -99 ≤ U ∧ U ≤ 99) (hY : -1000 ≤ Y ∧ Y ≤ 1000) (hE : E ≤ 20) : f_X3_isMet N (iI (sm law X U)) (iI Y) (iI E) = some (bI (fit law X U Y E)) := by
  have hb := sm_bd hl hX hU
  exact q_isMet3 N (by omega) (by omega) (by omega)
/-! bits -/
theorem sh_k : ∀ r, r < 32 → ((nI r &&& 31).toBitVec.smod 32).toNat = r := by decide
theorem q_shr {h r : Nat} (hh : h < 2147483648) (hr : r < 32) : iI (h : Int) >>> (iI (r : Int) &&& 31) = iI ((h / 2 ^ r : Nat) : Int) := by
  rw [iI_nat, iI_nat, iI_nat, pk_shrN (by omega) _ r (sh_k r hr)]
theorem p2_lt {r : Nat} (hr : r < 31) : 2 ^ r < 2147483648 := Nat.lt_of_lt_of_le (Nat.pow_lt_pow_right (by decide) hr) (by decide)
theorem q_shl1 {r : Nat} (hr : r < 31) : (1 : Int32) <<< (iI (r : Int) &&& 31) = iI ((2 ^ r : Nat) : Int) := by
  have h1 := p2_lt hr
  have e1 : (1 : Int32) = nI 1 := rfl
  rw [e1, iI_nat, iI_nat, pk_shlN _ r (sh_k r (by omega)) (by omega), Nat.one_mul]
theorem q_bit {h r : Nat} (hh : h < 2147483648) (hr : r < 32) : ((iI (h : Int) >>> (iI (r : Int) &&& 31)) &&& 1) = bI (h.testBit r) := by
  rw [q_shr hh hr, iI_nat]
  have e1 : (1 : Int32) = nI 1 := rfl
  rw [e1, fa_and, Nat.and_one_is_mod, Nat.testBit_eq_decide_div_mod_eq]
  rcases Nat.mod_two_eq_zero_or_one (h / 2 ^ r) with e | e <;> rw [e] <;> rfl
def bts (p : Nat → Bool) : Nat → Nat
  | 0 => 0
  | n + 1 => bts p n + (if p n then 2 ^ n else 0)
theorem bts_lt (p : Nat → Bool) : ∀ n, bts p n < 2 ^ n
  | 0 => by show (0 : Nat) < 1; decide
  | n + 1 => by
    have h := bts_lt p n
    have e : 2 ^ (n + 1) = 2 ^ n + 2 ^ n := by rw [Nat.pow_succ]; omega
    unfold bts
    split <;> omega
theorem bts_tb (p : Nat → Bool) : ∀ n r, (bts p n).testBit r = (decide (r < n) && p r)
  | 0, r => by
    show (0 : Nat).testBit r = _
    rw [Nat.zero_testBit]; simp
  | n + 1, r => by
    have ih := bts_tb p n r
    have hlt := bts_lt p n
    unfold bts
    by_cases hp : p n = true
    · rw [if_pos hp, Nat.add_comm]
      by_cases hr : r = n
      · subst hr
        rw [Nat.testBit_two_pow_add_eq, Nat.testBit_lt_two_pow hlt]; simp [hp]
      · rcases Nat.lt_or_ge r n with g | g
        · rw [Nat.testBit_two_pow_add_gt g, ih]; simp [g, Nat.lt_succ_of_lt g]
        · have g2 : n < r := by omega
          have e : 2 ^ (n + 1) = 2 ^ n + 2 ^ n := by rw [Nat.pow_succ]; omega
          have h3 : 2 ^ n + bts p n < 2 ^ r := Nat.lt_of_lt_of_le (by omega : 2 ^ n + bts p n < 2 ^ (n + 1)) (Nat.pow_le_pow_right (by decide) g2)
          rw [Nat.testBit_lt_two_pow h3]
          have : decide (r < n + 1) = false := decide_eq_false (by omega)
          rw [this]; rfl
    · rw [if_neg hp, Nat.add_zero, ih]
      by_cases hr : r = n
      · subst hr; simp [hp]
      · have : decide (r < n + 1) = decide (r < n) := by
          by_cases g : r < n
          · rw [decide_eq_true g, decide_eq_true (by omega)]
          · rw [decide_eq_false g, decide_eq_false (by omega)]
        rw [this]
theorem bts_cong {p q : Nat → Bool} : ∀ {n : Nat}, (∀ r, r < n → p r = q r) → bts p n = bts q n
  | 0, _ => rfl
  | n + 1, h => by
    unfold bts
    rw [bts_cong (fun r hr => h r (by omega)), h n (by omega)]
theorem bts_or (p : Nat → Bool) (n : Nat) : bts p n ||| 2 ^ n = bts p n + 2 ^ n := by
  have h := Nat.two_pow_add_eq_or_of_lt (bts_lt p n) 1
  rw [Nat.mul_one] at h
  rw [Nat.or_comm, ← h, Nat.add_comm]
theorem bts_small (p : Nat → Bool) {n : Nat} (hn : n ≤ 12) : bts p n < 4096 := Nat.lt_of_lt_of_le (bts_lt p n) (Nat.pow_le_pow_right (by decide) hn)
theorem p2_12 {n : Nat} (hn : n ≤ 12) : 2 ^ n ≤ 4096 := Nat.pow_le_pow_right (by decide) hn
theorem p2_pos (n : Nat) : 1 ≤ 2 ^ n := Nat.one_le_two_pow
/-! heaps -/
theorem q_all0 (N : Nat) {n : Nat} (hn : n ≤ 12) : f_X0_all N (iI n) = some (iI (((2 ^ n - 1 : Nat)) : Int)) := by
  have h1 := p2_12 hn
  have h2 := p2_pos n
  unfold f_X0_all
  rw [q_shl1 (by omega), l1_I, iI_sub]
  congr 2; omega
theorem q_isHeap0 (N : Nat) {z : Int} {n : Nat} (hz : -2147483648 ≤ z ∧ z < 2147483648) (hn : n ≤ 12) : f_X0_isHeap N (iI z) (iI n) = some (bI (decide (0 ≤ z) && decide (z ≤ ((2 ^ n - 1 : Nat) : Int)))) := by
  have h1 := p2_12 hn
  have h2 := p2_pos n
  unfold f_X0_isHeap
  rw [b1_p (q_all0 N hn)]
  exact tri_1 _ _ ((k_ltR (by omega)).trans (by omega)) ((iI_lt (by omega)).trans (by omega))
theorem q_isHeap9 (N : Nat) {z : Int} {n : Nat} (hz : -2147483648 ≤ z ∧ z < 2147483648) (hn : n ≤ 12) : f_X9_isHeap N (iI z) (iI n) = some (bI (decide (0 ≤ z) && decide (z ≤ ((2 ^ n - 1 : Nat) : Int)))) := by
  have h1 := p2_12 hn
  have h2 := p2_pos n
  unfold f_X9_isHeap
  rw [q_shl1 (by omega), l1_I, iI_sub, b1_p (q_in N (j_of hz) rfl (j_of (by omega))), gz_b]
  have e : (((2 ^ n : Nat) : Int) - 1) = ((2 ^ n - 1 : Nat) : Int) := by omega
  rw [e]; rfl
