/-! lines that part two heaps -/
def lhF (v : Nat → Int) (h : Nat) : Nat → Nat → Int → Int
  | 0, _, a => a
  | d + 1, r, a => bif h.testBit r then lhF v h d (r + 1) (mi a (v r)) else lhF v h d (r + 1) a
theorem mi_le (x y : Int) : mi x y ≤ x ∧ mi x y ≤ y := by unfold mi; split <;> omega
theorem mi_cases (x y : Int) : (mi x y = x ∧ x ≤ y) ∨ (mi x y = y ∧ y ≤ x) := by
  unfold mi
  by_cases c : y < x
  · rw [if_pos c]; right; omega
  · rw [if_neg c]; left; omega
theorem ma_cases (x y : Int) : (ma x y = x ∧ y ≤ x) ∨ (ma x y = y ∧ x ≤ y) := by
  unfold ma
  by_cases c : x < y
  · rw [if_pos c]; right; omega
  · rw [if_neg c]; left; omega
theorem mi_as (a b c : Int) : mi (mi a b) c = mi a (mi b c) := by
  have h1 := mi_cases a b
  have h2 := mi_cases (mi a b) c
  have h3 := mi_cases b c
  have h4 := mi_cases a (mi b c)
  omega
theorem lhF_mi (v : Nat → Int) (h : Nat) : ∀ (d r : Nat) (a b : Int), lhF v h d r (mi a b) = mi a (lhF v h d r b)
  | 0, _, _, _ => rfl
  | d + 1, r, a, b => by
    unfold lhF
    cases h.testBit r with
    | true => simp only [cond_true]; rw [mi_as, lhF_mi v h d (r + 1) a]
    | false => simp only [cond_false]; rw [lhF_mi v h d (r + 1) a]
theorem lhF_bd {v : Nat → Int} {h n : Nat} (hv : ∀ r, r < n → -1000 ≤ v r ∧ v r ≤ 1000) : ∀ (d r : Nat) (a : Int), r + d = n → (-1000 ≤ a ∧ a ≤ 1000) → -1000 ≤ lhF v h d r a ∧ lhF v h d r a ≤ 1000
  | 0, _, _, _, ha => ha
  | d + 1, r, a, h1, ha => by
    unfold lhF
    cases h.testBit r with
    | true => exact lhF_bd hv d (r + 1) _ (by omega) (mi_bd (B := 1000) ha (hv r (by omega)))
    | false => exact lhF_bd hv d (r + 1) _ (by omega) ha
theorem mul3 {a X : Int} (h : -3 ≤ a ∧ a ≤ 3) (hX : -99 ≤ X ∧ X ≤ 99) : -297 ≤ a * X ∧ a * X ≤ 297 := by
  have hc : a = -3 ∨ a = -2 ∨ a = -1 ∨ a = 0 ∨ a = 1 ∨ a = 2 ∨ a = 3 := by omega
  rcases hc with rfl | rfl | rfl | rfl | rfl | rfl | rfl <;> (constructor <;> omega)
def hv2 (RX RU : Nat → Int) (p q : Int) (r : Nat) : Int := p * RX r + q * RU r
theorem hv2_bd {RX RU : Nat → Int} {p q : Int} {r : Nat} (hp : -3 ≤ p ∧ p ≤ 3) (hq : -3 ≤ q ∧ q ≤ 3) (hX : -99 ≤ RX r ∧ RX r ≤ 99) (hU : -99 ≤ RU r ∧ RU r ≤ 99) : -594 ≤ hv2 RX RU p q r ∧ hv2 RX RU p q r ≤ 594 := by
  have h1 := mul3 hp hX
  have h2 := mul3 hq hU
  unfold hv2
  omega
theorem hv2_neg (RX RU : Nat → Int) (p q : Int) (r : Nat) : hv2 RX RU (-p) (-q) r = -hv2 RX RU p q r := by
  unfold hv2
  rw [Int.neg_mul, Int.neg_mul]; omega
theorem lp_lh0 (N : Nat) {n h : Nat} {RX RU : Nat → Int} {bxs bus : Nat → Int32} (hn : n ≤ 12) (hh : h < 2 ^ n) (hr : ∀ r, r < n → (bxs r = iI (RX r) ∧ bus r = iI (RU r)) ∧ (-99 ≤ RX r ∧ RX r ≤ 99) ∧ (-99 ≤ RU r ∧ RU r ≤ 99)) {p q : Int} (hp : -3 ≤ p ∧ p ≤ 3) (hq : -3 ≤ q ∧ q ≤ 3) :
    ∀ (d r fuel : Nat) (a : Int), r + d = n → d < fuel → (-1000 ≤ a ∧ a ≤ 1000) → f_X0_leastHeight_8 N (iI h) (iI p) (iI q) (iI n) bxs bus fuel (iI a) (iI r) = some (iI (lhF (hv2 RX RU p q) h d r a)) := by
  have h12 := p2_12 hn
  intro d
  induction d with
  | zero =>
    intro r fuel a h1 h2 h3
    obtain ⟨k_, rfl⟩ := su_fuel h2
    have e : r = n := by omega
    subst e
    show b_X0_leastHeight_8 N (iI h) (iI p) (iI q) (iI r) bxs bus _ (iI a) (iI (r : Int)) = _
    unfold b_X0_leastHeight_8 lhF
    rw [if_pos ((iI_le (by omega)).mpr (Int.le_refl _))]
  | succ d ih =>
    intro r fuel a h1 h2 h3
    obtain ⟨k_, rfl⟩ := su_fuel (Nat.lt_of_le_of_lt (Nat.zero_le _) h2)
    obtain ⟨⟨g1, g2⟩, b1_, b2_⟩ := hr r (by omega)
    have hb := hv2_bd (RX := RX) (RU := RU) hp hq b1_ b2_
    have ev : p * RX r + q * RU r = hv2 RX RU p q r := rfl
    show b_X0_leastHeight_8 N (iI h) (iI p) (iI q) (iI n) bxs bus (f_X0_leastHeight_8 N (iI h) (iI p) (iI q) (iI n) bxs bus k_) (iI a) (iI r) = _
    unfold b_X0_leastHeight_8 lhF nm
    rw [if_neg (fun q => absurd ((iI_le (by omega)).mp q) (by omega)), if_neg (fun q => absurd ((k_leL (by omega)).mp q) (by omega)), q_bit (by omega) (by omega), ifb]
    cases h.testBit r with
    | false =>
      simp only [cond_false]
      rw [iI_succ]
      exact ih (r + 1) k_ a (by omega) (by omega) h3
    | true =>
      simp only [cond_true]
      rw [gi_I (by omega) (by omega) (by omega), gi_I (by omega) (by omega) (by omega), iI_clampN (by omega), g1, g2, iI_mul, iI_mul, iI_add, ev, mi_I (by omega), iI_succ]
      exact ih (r + 1) k_ _ (by omega) (by omega) (mi_bd (B := 1000) h3 (by omega))
def lnT (RX RU : Nat → Int) (n one oth : Nat) (p q : Int) : Int := ma (-99) (1 - lhF (hv2 RX RU (-p) (-q)) oth n 0 1000)
def lnV (w p q t : Int) : Int32 := if w = 0 then iI p else if w = 1 then iI q else iI t
def lnQ (RX RU : Nat → Int) (n one oth : Nat) (w : Int) (k : Option Int32) (p : Int) : Nat → Int → Option Int32
  | 0, _ => k
  | d + 1, q => if lnT RX RU n one oth p q ≤ 99 ∧ lnT RX RU n one oth p q ≤ lhF (hv2 RX RU p q) one n 0 1000 then some (lnV w p q (lnT RX RU n one oth p q)) else lnQ RX RU n one oth w k p d (q + 1)
def lnP (RX RU : Nat → Int) (n one oth : Nat) (w : Int) : Nat → Int → Option Int32
  | 0, _ => some (-1000004)
  | d + 1, p => lnQ RX RU n one oth w (lnP RX RU n one oth w d (p + 1)) p 7 (-3)
theorem lnQ_some (RX RU : Nat → Int) (n one oth : Nat) (w : Int) {k : Option Int32} (hk : ∃ x, k = some x) (p : Int) : ∀ d q, ∃ x, lnQ RX RU n one oth w k p d q = some x
  | 0, _ => hk
  | d + 1, q => by
    unfold lnQ
    split
    · exact ⟨_, rfl⟩
    · exact lnQ_some RX RU n one oth w hk p d (q + 1)
theorem lnP_some (RX RU : Nat → Int) (n one oth : Nat) (w : Int) : ∀ d p, ∃ x, lnP RX RU n one oth w d p = some x
  | 0, _ => ⟨_, rfl⟩
  | d + 1, p => lnQ_some RX RU n one oth w (lnP_some RX RU n one oth w d (p + 1)) p 7 (-3)
theorem lnV_I {w : Int} (hw : 0 ≤ w ∧ w ≤ 2) (p q t : Int) : (if iI w = 0 then some (iI p) else (if iI w = (1 : Int32) then some (iI q) else some (iI t))) = some (lnV w p q t) := by
  unfold lnV
  by_cases c0 : w = 0
  · rw [if_pos c0, if_pos ((k_eqR (by omega)).mpr c0)]
  · rw [if_neg c0, if_neg (fun q => c0 ((k_eqR (by omega)).mp q))]
    by_cases c1 : w = 1
    · rw [if_pos c1, if_pos ((k_eqR (by omega)).mpr c1)]
    · rw [if_neg c1, if_neg (fun q => c1 ((k_eqR (by omega)).mp q))]
theorem iI_p1 (z : Int) : iI z + (1 : Int32) = iI (z + 1) := by rw [l1_I, iI_add]
theorem lp_lnQ8 (N : Nat) (hN : 5000 ≤ N) {n one oth : Nat} {RX RU : Nat → Int} {bxs bus : Nat → Int32} (hn : n ≤ 12) (h1 : one < 2 ^ n) (h2 : oth < 2 ^ n) (hr : ∀ r, r < n → (bxs r = iI (RX r) ∧ bus r = iI (RU r)) ∧ (-99 ≤ RX r ∧ RX r ≤ 99) ∧ (-99 ≤ RU r ∧ RU r ≤ 99)) {p w : Int} (hp : -3 ≤ p ∧ p ≤ 3) (hw : 0 ≤ w ∧ w ≤ 2) {kk : Int32 → Option Int32} {k : Option Int32} (hk : kk (iI (p + 1)) = k) :
    ∀ (d fuel : Nat) (q : Int), q + d = 4 → -3 ≤ q → d < fuel → f_X8_line_54 N kk (iI one) (iI oth) (iI w) (iI p) (iI n) bxs bus fuel (iI q) = lnQ RX RU n one oth w k p d q := by
  intro d
  induction d with
  | zero =>
    intro fuel q g1 g2 g3
    obtain ⟨k_, rfl⟩ := su_fuel g3
    show b_X8_line_54 N kk (iI one) (iI oth) (iI w) (iI p) (iI n) bxs bus _ (iI q) = _
    unfold b_X8_line_54 lnQ
    rw [if_pos ((k_ltL (by omega)).mpr (by omega)), iI_p1, hk]
  | succ d ih =>
    intro fuel q g1 g2 g3
    obtain ⟨k_, rfl⟩ := su_fuel (Nat.lt_of_le_of_lt (Nat.zero_le _) g3)
    have i1 := ih k_ (q + 1) (by omega) (by omega) (by omega)
    have hO : f_X0_leastHeight N (iI oth) (iI (-p)) (iI (-q)) (iI n) bxs bus = some (iI (lhF (hv2 RX RU (-p) (-q)) oth n 0 1000)) := lp_lh0 N hn h2 hr (by omega) (by omega) n 0 N 1000 (by omega) (by omega) (by omega)
    have h1_ : f_X0_leastHeight N (iI one) (iI p) (iI q) (iI n) bxs bus = some (iI (lhF (hv2 RX RU p q) one n 0 1000)) := lp_lh0 N hn h1 hr (by omega) (by omega) n 0 N 1000 (by omega) (by omega) (by omega)
    have bO := lhF_bd (v := hv2 RX RU (-p) (-q)) (h := oth) (n := n) (fun r hrn => by have := hv2_bd (RX := RX) (RU := RU) (p := -p) (q := -q) (by omega) (by omega) (hr r hrn).2.1 (hr r hrn).2.2; omega) n 0 1000 (by omega) (by omega)
    have b1_ := lhF_bd (v := hv2 RX RU p q) (h := one) (n := n) (fun r hrn => by have := hv2_bd (RX := RX) (RU := RU) (p := p) (q := q) (by omega) (by omega) (hr r hrn).2.1 (hr r hrn).2.2; omega) n 0 1000 (by omega) (by omega)
    have bT := ma_bd (B := 2000) (x := -99) (y := 1 - lhF (hv2 RX RU (-p) (-q)) oth n 0 1000) (by omega) (by omega)
    have eT : ma (-99) (1 - lhF (hv2 RX RU (-p) (-q)) oth n 0 1000) = lnT RX RU n one oth p q := rfl
    show b_X8_line_54 N kk (iI one) (iI oth) (iI w) (iI p) (iI n) bxs bus (f_X8_line_54 N kk (iI one) (iI oth) (iI w) (iI p) (iI n) bxs bus k_) (iI q) = _
    unfold b_X8_line_54 lnQ nm
    have e99 : (-99 : Int32) = iI (-99) := rfl
    rw [if_neg (fun c => absurd ((k_ltL (by omega)).mp c) (by omega)), iI_neg, iI_neg, b1_p hO, l1_I, iI_sub, e99, ma_I (by omega), eT]
    dsimp only
    rw [b1_p h1_, iI_add, i1]
    rw [eT] at bT
    generalize lnT RX RU n one oth p q = t at *
    generalize lhF (hv2 RX RU p q) one n 0 1000 = u at *
    by_cases c1 : t ≤ 99
    · rw [if_neg (fun c => absurd ((k_ltL (by omega)).mp c) (by omega))]
      by_cases c2 : t ≤ u
      · have c12 : t ≤ 99 ∧ t ≤ u := ⟨c1, c2⟩
        rw [if_neg (fun c => absurd ((iI_lt (by omega)).mp c) (by omega)), if_pos c12]
        exact lnV_I hw p q t
      · rw [if_pos ((iI_lt (by omega)).mpr (by omega)), if_neg (fun c => c2 c.2)]
    · rw [if_pos ((k_ltL (by omega)).mpr (by omega)), if_neg (fun c => c1 c.1)]
theorem lp_lnP8 (N : Nat) (hN : 5000 ≤ N) {n one oth : Nat} {RX RU : Nat → Int} {bxs bus : Nat → Int32} (hn : n ≤ 12) (h1 : one < 2 ^ n) (h2 : oth < 2 ^ n) (hr : ∀ r, r < n → (bxs r = iI (RX r) ∧ bus r = iI (RU r)) ∧ (-99 ≤ RX r ∧ RX r ≤ 99) ∧ (-99 ≤ RU r ∧ RU r ≤ 99)) {w : Int} (hw : 0 ≤ w ∧ w ≤ 2) :
    ∀ (d fuel : Nat) (p : Int), p + d = 4 → -3 ≤ p → d < fuel → f_X8_line_44 N (iI one) (iI oth) (iI w) (iI n) bxs bus fuel (iI p) = lnP RX RU n one oth w d p := by
  intro d
  induction d with
  | zero =>
    intro fuel p g1 g2 g3
    obtain ⟨k_, rfl⟩ := su_fuel g3
    show b_X8_line_44 N (iI one) (iI oth) (iI w) (iI n) bxs bus _ (iI p) = _
    unfold b_X8_line_44 lnP
    rw [if_pos ((k_ltL (by omega)).mpr (by omega))]
  | succ d ih =>
    intro fuel p g1 g2 g3
    obtain ⟨k_, rfl⟩ := su_fuel (Nat.lt_of_le_of_lt (Nat.zero_le _) g3)
    have i1 := ih k_ (p + 1) (by omega) (by omega) (by omega)
    show b_X8_line_44 N (iI one) (iI oth) (iI w) (iI n) bxs bus (f_X8_line_44 N (iI one) (iI oth) (iI w) (iI n) bxs bus k_) (iI p) = _
    unfold b_X8_line_44 lnP
    rw [if_neg (fun c => absurd ((k_ltL (by omega)).mp c) (by omega))]
    exact lp_lnQ8 N hN hn h1 h2 hr (by omega) hw i1 7 N (-3) (by omega) (by omega) (by omega)
theorem b1_bit (t : Bool) : (bI t = (1 : Int32)) ↔ t = true := by cases t <;> decide
theorem lp_ln68 (N : Nat) {n one oth : Nat} {RX RU : Nat → Int} {dxs dus : Nat → Int32} (hn : n ≤ 12) (h1 : one < 2 ^ n) (h2 : oth < 2 ^ n) (hr : ∀ r, r < n → (dxs r = iI (RX r) ∧ dus r = iI (RU r)) ∧ (-99 ≤ RX r ∧ RX r ≤ 99) ∧ (-99 ≤ RU r ∧ RU r ≤ 99)) {p q w : Int} (hp : -3 ≤ p ∧ p ≤ 3) (hq : -3 ≤ q ∧ q ≤ 3) (k41 k51 : Int32 → Option Int32) :
    ∀ (d r fuel : Nat) (a b : Int), r + d = n → d < fuel → (-1000 ≤ a ∧ a ≤ 1000) → (-1000 ≤ b ∧ b ≤ 1000) → f_X9_line_68 N k41 k51 (iI one) (iI oth) (iI w) (iI p) (iI q) (iI n) dxs dus fuel (iI a) (iI (-b)) (iI r) = (if iI (lhF (hv2 RX RU p q) one d r a) < (iI (-(lhF (hv2 RX RU (-p) (-q)) oth d r b)) + (1 : Int32)) then k51 (iI q + (1 : Int32)) else (if iI w = 0 then some (iI p) else (if iI w = (1 : Int32) then some (iI q) else some (iI (-(lhF (hv2 RX RU (-p) (-q)) oth d r b)) + (1 : Int32))))) := by
  have h12 := p2_12 hn
  intro d
  induction d with
  | zero =>
    intro r fuel a b g1 g2 g3 g4
    obtain ⟨k_, rfl⟩ := su_fuel g2
    have e : r = n := by omega
    subst e
    show b_X9_line_68 N k41 k51 (iI one) (iI oth) (iI w) (iI p) (iI q) (iI r) dxs dus _ (iI a) (iI (-b)) (iI (r : Int)) = _
    unfold b_X9_line_68 lhF
    rw [if_pos ((iI_le (by omega)).mpr (Int.le_refl _))]
  | succ d ih =>
    intro r fuel a b g1 g2 g3 g4
    obtain ⟨k_, rfl⟩ := su_fuel (Nat.lt_of_le_of_lt (Nat.zero_le _) g2)
    obtain ⟨⟨k1, k2⟩, b1_, b2_⟩ := hr r (by omega)
    have hb := hv2_bd (RX := RX) (RU := RU) hp hq b1_ b2_
    have ev : p * RX r + q * RU r = hv2 RX RU p q r := rfl
    have en := hv2_neg RX RU p q r
    have e124 : ∀ a' : Int, (-1000 ≤ a' ∧ a' ≤ 1000) → f_X9_line_124 N k41 k51 (f_X9_line_68 N k41 k51 (iI one) (iI oth) (iI w) (iI p) (iI q) (iI n) dxs dus k_) (iI one) (iI oth) (iI w) (iI p) (iI q) (iI (-b)) (iI r) (iI (hv2 RX RU p q r)) (iI a') (iI n) dxs dus = f_X9_line_68 N k41 k51 (iI one) (iI oth) (iI w) (iI p) (iI q) (iI n) dxs dus k_ (iI a') (iI (-(bif oth.testBit r then mi b (hv2 RX RU (-p) (-q) r) else b))) (iI ((r + 1 : Nat) : Int)) := by
      intro a' ha
      unfold f_X9_line_124
      rw [q_bit (by omega) (by omega), iI_succ]
      cases hc : oth.testBit r with
      | false => rw [bI_f, if_neg (by decide)]; rfl
      | true =>
        rw [bI_t, if_pos rfl]
        simp only [cond_true]
        rw [en]
        unfold mi
        by_cases c : -hv2 RX RU p q r < b
        · rw [if_neg (fun c => absurd ((iI_le (by omega)).mp c) (by omega)), if_pos c, Int.neg_neg]
        · rw [if_pos ((iI_le (by omega)).mpr (by omega)), if_neg c]
    have i2 : ∀ a' b' : Int, (-1000 ≤ a' ∧ a' ≤ 1000) → (-1000 ≤ b' ∧ b' ≤ 1000) → _ := fun a' b' ha hb => ih (r + 1) k_ a' b' (by omega) (by omega) ha hb
    have hbb : -1000 ≤ (bif oth.testBit r then mi b (hv2 RX RU (-p) (-q) r) else b) ∧ (bif oth.testBit r then mi b (hv2 RX RU (-p) (-q) r) else b) ≤ 1000 := by
      cases oth.testBit r with
      | true => exact mi_bd (B := 1000) g4 (by rw [en]; omega)
      | false => exact g4
    have eb : lhF (hv2 RX RU (-p) (-q)) oth (d + 1) r b = lhF (hv2 RX RU (-p) (-q)) oth d (r + 1) (bif oth.testBit r then mi b (hv2 RX RU (-p) (-q) r) else b) := by
      show (bif oth.testBit r then _ else _) = _
      cases oth.testBit r <;> rfl
    have ea : lhF (hv2 RX RU p q) one (d + 1) r a = lhF (hv2 RX RU p q) one d (r + 1) (bif one.testBit r then mi a (hv2 RX RU p q r) else a) := by
      show (bif one.testBit r then _ else _) = _
      cases one.testBit r <;> rfl
    rw [eb, ea]
    show b_X9_line_68 N k41 k51 (iI one) (iI oth) (iI w) (iI p) (iI q) (iI n) dxs dus (f_X9_line_68 N k41 k51 (iI one) (iI oth) (iI w) (iI p) (iI q) (iI n) dxs dus k_) (iI a) (iI (-b)) (iI r) = _
    unfold b_X9_line_68 nm
    rw [if_neg (fun q => absurd ((iI_le (by omega)).mp q) (by omega)), gi_I (by omega) (by omega) (by omega), gi_I (by omega) (by omega) (by omega), iI_clampN (by omega), k1, k2, iI_mul, iI_mul, iI_add, ev]
    dsimp only
    rw [q_bit (by omega) (by omega), e124 _ g3, e124 (hv2 RX RU p q r) (by omega)]
    cases one.testBit r with
    | false =>
      rw [bI_f, if_neg (by decide)]
      exact i2 _ _ g3 hbb
    | true =>
      rw [bI_t, if_pos rfl]
      simp only [cond_true]
      have i3 := i2 (mi a (hv2 RX RU p q r)) _ (mi_bd (B := 1000) g3 (by omega)) hbb
      rw [← i3]
      unfold mi
      by_cases c : hv2 RX RU p q r < a
      · rw [if_neg (fun c => absurd ((iI_le (by omega)).mp c) (by omega)), if_pos c]
      · rw [if_pos ((iI_le (by omega)).mpr (by omega)), if_neg c]
theorem lp_lnQ9 (N : Nat) (hN : 5000 ≤ N) {n one oth : Nat} {RX RU : Nat → Int} {dxs dus : Nat → Int32} (hn : n ≤ 12) (h1 : one < 2 ^ n) (h2 : oth < 2 ^ n) (hr : ∀ r, r < n → (dxs r = iI (RX r) ∧ dus r = iI (RU r)) ∧ (-99 ≤ RX r ∧ RX r ≤ 99) ∧ (-99 ≤ RU r ∧ RU r ≤ 99)) {p w : Int} (hp : -3 ≤ p ∧ p ≤ 3) (hw : 0 ≤ w ∧ w ≤ 2) {kk : Int32 → Option Int32} {k : Option Int32} (hk : kk (iI (p + 1)) = k) :
    ∀ (d fuel : Nat) (q : Int), q + d = 4 → -3 ≤ q → d < fuel → f_X9_line_51 N kk (iI one) (iI oth) (iI w) (iI p) (iI n) dxs dus fuel (iI q) = lnQ RX RU n one oth w k p d q := by
  intro d
  induction d with
  | zero =>
    intro fuel q g1 g2 g3
    obtain ⟨k_, rfl⟩ := su_fuel g3
    show b_X9_line_51 N kk (iI one) (iI oth) (iI w) (iI p) (iI n) dxs dus _ (iI q) = _
    unfold b_X9_line_51 lnQ
    rw [if_pos ((k_ltL (by omega)).mpr (by omega)), iI_p1, hk]
  | succ d ih =>
    intro fuel q g1 g2 g3
    obtain ⟨k_, rfl⟩ := su_fuel (Nat.lt_of_le_of_lt (Nat.zero_le _) g3)
    have i1 := ih k_ (q + 1) (by omega) (by omega) (by omega)
    have h68 : f_X9_line_68 N kk (f_X9_line_51 N kk (iI one) (iI oth) (iI w) (iI p) (iI n) dxs dus k_) (iI one) (iI oth) (iI w) (iI p) (iI q) (iI n) dxs dus N (99 : Int32) (-100 : Int32) (0 : Int32) = _ := lp_ln68 N hn h1 h2 hr (w := w) hp (q := q) (by omega) kk (f_X9_line_51 N kk (iI one) (iI oth) (iI w) (iI p) (iI n) dxs dus k_) n 0 N 99 100 (by omega) (by omega) (by omega) (by omega)
    have bO := lhF_bd (v := hv2 RX RU (-p) (-q)) (h := oth) (n := n) (fun r hrn => by have := hv2_bd (RX := RX) (RU := RU) (p := -p) (q := -q) (by omega) (by omega) (hr r hrn).2.1 (hr r hrn).2.2; omega) n 0 1000 (by omega) (by omega)
    have b1_ := lhF_bd (v := hv2 RX RU p q) (h := one) (n := n) (fun r hrn => by have := hv2_bd (RX := RX) (RU := RU) (p := p) (q := q) (by omega) (by omega) (hr r hrn).2.1 (hr r hrn).2.2; omega) n 0 1000 (by omega) (by omega)
    have m1 : lhF (hv2 RX RU p q) one n 0 99 = mi 99 (lhF (hv2 RX RU p q) one n 0 1000) := lhF_mi (hv2 RX RU p q) one n 0 99 1000
    have m2 : lhF (hv2 RX RU (-p) (-q)) oth n 0 100 = mi 100 (lhF (hv2 RX RU (-p) (-q)) oth n 0 1000) := lhF_mi (hv2 RX RU (-p) (-q)) oth n 0 100 1000
    rw [m1, m2, iI_p1, iI_p1, i1] at h68
    show b_X9_line_51 N kk (iI one) (iI oth) (iI w) (iI p) (iI n) dxs dus (f_X9_line_51 N kk (iI one) (iI oth) (iI w) (iI p) (iI n) dxs dus k_) (iI q) = _
    unfold b_X9_line_51 lnQ
    rw [if_neg (fun c => absurd ((k_ltL (by omega)).mp c) (by omega)), h68]
    unfold lnT
    generalize lhF (hv2 RX RU (-p) (-q)) oth n 0 1000 = t at *
    generalize lhF (hv2 RX RU p q) one n 0 1000 = u at *
    have c3 := mi_cases 99 u
    have c4 := mi_cases 100 t
    have c5 := ma_cases (-99) (1 - t)
    have eV : -mi 100 t + 1 = ma (-99) (1 - t) := by omega
    rw [eV]
    by_cases c1 : ma (-99) (1 - t) ≤ 99 ∧ ma (-99) (1 - t) ≤ u
    · rw [if_neg (fun c => absurd ((iI_lt (by omega)).mp c) (by omega)), if_pos c1]
      exact lnV_I hw p q _
    · rw [if_pos ((iI_lt (by omega)).mpr (by omega)), if_neg c1]
theorem lp_lnP9 (N : Nat) (hN : 5000 ≤ N) {n one oth : Nat} {RX RU : Nat → Int} {dxs dus : Nat → Int32} (hn : n ≤ 12) (h1 : one < 2 ^ n) (h2 : oth < 2 ^ n) (hr : ∀ r, r < n → (dxs r = iI (RX r) ∧ dus r = iI (RU r)) ∧ (-99 ≤ RX r ∧ RX r ≤ 99) ∧ (-99 ≤ RU r ∧ RU r ≤ 99)) {w : Int} (hw : 0 ≤ w ∧ w ≤ 2) :
    ∀ (d fuel : Nat) (p : Int), p + d = 4 → -3 ≤ p → d < fuel → f_X9_line_41 N (iI one) (iI oth) (iI w) (iI n) dxs dus fuel (iI p) = lnP RX RU n one oth w d p := by
  intro d
  induction d with
  | zero =>
    intro fuel p g1 g2 g3
    obtain ⟨k_, rfl⟩ := su_fuel g3
    show b_X9_line_41 N (iI one) (iI oth) (iI w) (iI n) dxs dus _ (iI p) = _
    unfold b_X9_line_41 lnP
    rw [if_pos ((k_ltL (by omega)).mpr (by omega))]
  | succ d ih =>
    intro fuel p g1 g2 g3
    obtain ⟨k_, rfl⟩ := su_fuel (Nat.lt_of_le_of_lt (Nat.zero_le _) g3)
    have i1 := ih k_ (p + 1) (by omega) (by omega) (by omega)
    show b_X9_line_41 N (iI one) (iI oth) (iI w) (iI n) dxs dus (f_X9_line_41 N (iI one) (iI oth) (iI w) (iI n) dxs dus k_) (iI p) = _
    unfold b_X9_line_41 lnP
    rw [if_neg (fun c => absurd ((k_ltL (by omega)).mp c) (by omega))]
    exact lp_lnQ9 N hN hn h1 h2 hr (by omega) hw i1 7 N (-3) (by omega) (by omega) (by omega)
theorem P_line : PS_line InvA := by
  intro N hN bsz bgp ber bxs bus bys bme pgc prc pgr pla tle tga trr tat tfa tby tnu rlc rla rmo ksz kmb kwa kra kla lo hi glo ghi sla ssz sit mrm mer mtd mat mwr mkn mmb mwa mra mbl mbh dxs dus dys dgp dtp dme dle dlt dkl dln dsz dit dmv hI p0 p1 p2
  have hI' := hI
  obtain ⟨n, E, RX, RU, RY, G, ⟨⟨hn, hE, rfl, rfl, rfl, rfl, rfl⟩, hr, hm⟩, hP, hR⟩ := hI'
  obtain ⟨z0, r0, rfl⟩ := iI_of p0
  obtain ⟨z1, r1, rfl⟩ := iI_of p1
  obtain ⟨z2, r2, rfl⟩ := iI_of p2
  have h12 := p2_12 hn
  have e8 := q_isHeap0 N r0 hn
  have e9 := q_isHeap9 N r0 hn
  by_cases c0 : 0 ≤ z0 ∧ z0 ≤ ((2 ^ n - 1 : Nat) : Int)
  case neg =>
    rw [two_f c0, bI_f] at e8 e9
    exact ⟨-1000001, by unfold f_X8_line; rw [b1_p e8, if_pos rfl], by unfold f_X9_line; rw [b1_p e9, if_pos rfl], hI⟩
  rw [two_t c0, bI_t] at e8 e9
  obtain ⟨h, rfl, hh⟩ := heap_in c0
  have d8 := q_isHeap0 N r1 hn
  have d9 := q_isHeap9 N r1 hn
  by_cases c1 : 0 ≤ z1 ∧ z1 ≤ ((2 ^ n - 1 : Nat) : Int)
  case neg =>
    rw [two_f c1, bI_f] at d8 d9
    exact ⟨-1000001, by unfold f_X8_line; rw [b1_p e8, if_neg (by decide), b1_p d8, if_pos rfl], by unfold f_X9_line; rw [b1_p e9, if_neg (by decide), b1_p d9, if_pos rfl], hI⟩
  rw [two_t c1, bI_t] at d8 d9
  obtain ⟨g, rfl, hg⟩ := heap_in c1
  have hle : h &&& g ≤ h := Nat.and_le_left
  by_cases c2 : h &&& g = 0
  case neg =>
    refine ⟨-1000001, ?_, ?_, hI⟩
    · unfold f_X8_line; rw [b1_p e8, if_neg (by decide), b1_p d8, if_neg (by decide), iI_and, if_neg (fun q => absurd ((k_eqR (by omega)).mp q) (by omega))]
    · unfold f_X9_line; rw [b1_p e9, if_neg (by decide), b1_p d9, if_neg (by decide), iI_and, if_neg (fun q => absurd ((k_eqR (by omega)).mp q) (by omega))]
  have e3 : f_X9_in N (iI z2).toInt64 0 2 = some (bI (decide (0 ≤ z2) && decide (z2 ≤ 2))) := q_in N (j_of r2) rfl rfl
  by_cases c3 : 0 ≤ z2 ∧ z2 ≤ 2
  case neg =>
    rw [two_f c3, bI_f] at e3
    refine ⟨-1000001, ?_, by unfold f_X9_line; rw [b1_p e9, if_neg (by decide), b1_p d9, if_neg (by decide), iI_and, if_pos (by rw [c2]; rfl), b1_p e3, if_pos rfl], hI⟩
    unfold f_X8_line; rw [b1_p e8, if_neg (by decide), b1_p d8, if_neg (by decide), iI_and, if_pos (by rw [c2]; rfl)]
    by_cases d : z2 < 0
    · rw [if_pos ((k_ltR (by omega)).mpr (by omega))]
    · rw [if_neg (fun q => absurd ((k_ltR (by omega)).mp q) (by omega)), if_neg (fun q => absurd ((k_leR (by omega)).mp q) (by omega))]
  rw [two_t c3, bI_t] at e3
  obtain ⟨x, hx⟩ := lnP_some RX RU n h g z2 7 (-3)
  refine ⟨x, ?_, ?_, hI⟩
  · unfold f_X8_line; rw [b1_p e8, if_neg (by decide), b1_p d8, if_neg (by decide), iI_and, if_pos (by rw [c2]; rfl), if_neg (fun q => absurd ((k_ltR (by omega)).mp q) (by omega)), if_pos ((k_leR (by omega)).mpr (by omega)), ← hx]
    exact lp_lnP8 N hN hn hh hg (fun r hrn => ⟨⟨(hr r hrn).1.1, (hr r hrn).1.2.1⟩, (hr r hrn).2.2.1, (hr r hrn).2.2.2.1⟩) c3 7 N (-3) (by omega) (by omega) (by omega)
  · unfold f_X9_line; rw [b1_p e9, if_neg (by decide), b1_p d9, if_neg (by decide), iI_and, if_pos (by rw [c2]; rfl), b1_p e3, if_neg (by decide), ← hx]
    exact lp_lnP9 N hN hn hh hg (fun r hrn => ⟨⟨(hr r hrn).2.1.1, (hr r hrn).2.1.2.1⟩, (hr r hrn).2.2.1, (hr r hrn).2.2.2.1⟩) c3 7 N (-3) (by omega) (by omega) (by omega)
