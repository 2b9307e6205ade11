theorem iI_succ (n : Nat) : iI (n : Int) + (1 : Int32) = iI ((n + 1 : Nat) : Int) := by rw [l1_I, iI_add]; congr 1
theorem ifb {α : Type} (t : Bool) (x y : α) : (if bI t = 0 then x else y) = (bif t then y else x) := by cases t <;> rfl
theorem iI_or (a b : Nat) : iI (a : Int) ||| iI (b : Int) = iI ((a ||| b : Nat) : Int) := by rw [iI_nat, iI_nat, iI_nat, fa_or]
theorem iI_and (a b : Nat) : iI (a : Int) &&& iI (b : Int) = iI ((a &&& b : Nat) : Int) := by rw [iI_nat, iI_nat, iI_nat, fa_and]
theorem in_t {r n : Nat} (h : r < n) : (decide ((0 : Int) ≤ (r : Int)) && decide ((r : Int) ≤ (n : Int) - 1)) = true := by
  rw [decide_eq_true (by omega), decide_eq_true (by omega)]; rfl
/-- which rows meet a law -/
def mt (RX RU RY : Nat → Int) (G : Nat → Bool) (E law r : Nat) : Bool := G r || fit law (RX r) (RU r) (RY r) E
theorem q_isGap0 (N : Nat) {r n g : Nat} (hr : r < n) (hn : n ≤ 12) (hg : g < 4096) : f_X0_isGap N (iI r) (iI n) (iI g) = some (bI (g.testBit r)) := by
  unfold f_X0_isGap
  rw [b1_p (q_has0 N (by omega) hn), in_t hr, bI_t, if_neg (by decide), q_bit (by omega) (by omega), ifb]
  cases g.testBit r <;> rfl
/-- what entering a row does to the table of laws -/
def entF (law r : Nat) (p : Nat → Bool) (f : Nat → Int32) : Nat → Int32 := fun l => if law ≤ l ∧ l < 289 ∧ p l = true then f l ||| iI ((2 ^ r : Nat) : Int) else f l
theorem entF_end (r : Nat) (p : Nat → Bool) (f : Nat → Int32) : entF 289 r p f = f := by
  funext l
  unfold entF
  rw [if_neg (by omega)]
theorem entF_yes {law r : Nat} {p : Nat → Bool} (hl : law < 289) (h : p law = true) (f : Nat → Int32) : entF (law + 1) r p (upd f law (f law ||| iI ((2 ^ r : Nat) : Int))) = entF law r p f := by
  funext l
  unfold entF upd
  by_cases e : l = law
  · subst e
    rw [if_neg (by omega), if_pos rfl, if_pos ⟨Nat.le_refl _, hl, h⟩]
  · rw [if_neg e]
    by_cases c : law ≤ l ∧ l < 289 ∧ p l = true
    · rw [if_pos c, if_pos ⟨by omega, c.2.1, c.2.2⟩]
    · rw [if_neg c, if_neg (fun q => c ⟨by omega, q.2.1, q.2.2⟩)]
theorem entF_no {law r : Nat} {p : Nat → Bool} (h : p law = false) (f : Nat → Int32) : entF (law + 1) r p f = entF law r p f := by
  funext l
  unfold entF
  by_cases c : law ≤ l ∧ l < 289 ∧ p l = true
  · have e : l ≠ law := fun e => by rw [e, h] at c; exact absurd c.2.2 (by decide)
    rw [if_pos c, if_pos ⟨by omega, c.2.1, c.2.2⟩]
  · rw [if_neg c, if_neg (fun q => c ⟨by omega, q.2.1, q.2.2⟩)]
theorem lp_enter (N : Nat) {r n g E : Nat} {X U Y : Int} {bxs bus bys : Nat → Int32} (hr : r < n) (hn : n ≤ 12) (hg : g < 4096) (hE : E ≤ 20) (hx : bxs r = iI X) (hu : bus r = iI U) (hy : bys r = iI Y) (hX : -99 ≤ X ∧ X ≤ 99) (hU : -99 ≤ U ∧ U ≤ 99) (hY : -99 ≤ Y ∧ Y ≤ 99) :
    ∀ (d law fuel : Nat) (f : Nat → Int32), law + d = 289 → d < fuel → f_X0_enter_11 N (iI r) (iI n) (iI g) (iI E) bxs bus bys fuel (iI law) f = some (entF law r (fun l => g.testBit r || fit l X U Y E) f) := by
  intro d
  induction d with
  | zero =>
    intro law fuel f h1 h2
    obtain ⟨k_, rfl⟩ := su_fuel h2
    have e : law = 289 := by omega
    subst e
    show b_X0_enter_11 N (iI r) (iI n) (iI g) (iI E) bxs bus bys _ (iI ((289 : Nat) : Int)) f = _
    unfold b_X0_enter_11
    rw [if_pos ((k_leL (by omega)).mpr (by omega)), entF_end]
  | succ d ih =>
    intro law fuel f h1 h2
    obtain ⟨k_, rfl⟩ := su_fuel (Nat.lt_of_le_of_lt (Nat.zero_le _) h2)
    have hl : law < 289 := by omega
    show b_X0_enter_11 N (iI r) (iI n) (iI g) (iI E) bxs bus bys (f_X0_enter_11 N (iI r) (iI n) (iI g) (iI E) bxs bus bys k_) (iI law) f = _
    unfold b_X0_enter_11
    rw [if_neg (fun c => absurd ((k_leL (by omega)).mp c) (by omega)), b1_p (q_isGap0 N hr hn hg), ifb]
    have e60 : f_X0_enter_60 N (f_X0_enter_11 N (iI r) (iI n) (iI g) (iI E) bxs bus bys k_) (iI r) (iI law) (iI n) (iI g) (iI E) bxs bus bys f = f_X0_enter_11 N (iI r) (iI n) (iI g) (iI E) bxs bus bys k_ (iI ((law + 1 : Nat) : Int)) (upd f law (f law ||| iI ((2 ^ r : Nat) : Int))) := by
      unfold f_X0_enter_60
      rw [gi_I (by omega) (by omega) (by omega), gi_I (by omega) (by omega) (by omega), iI_clampN (by omega), q_shl1 (by omega), iI_succ]
    rw [iI_clampN (n := r) (by omega), hx, hu, hy]
    rw [gi_I (by omega) (by omega) (by omega), gi_I (by omega) (by omega) (by omega), b1_p (q_sum3 N hl X U), gi_I (by omega) (by omega) (by omega), b1_p (q_met3 N hl hX hU (by omega) hE), ifb, e60, iI_succ]
    have i1 := ih (law + 1) k_ (upd f law (f law ||| iI ((2 ^ r : Nat) : Int))) (by omega) (by omega)
    have i2 := ih (law + 1) k_ f (by omega) (by omega)
    rw [i1, i2]
    cases hg1 : g.testBit r with
    | true =>
      show some _ = some _
      rw [entF_yes hl (by simp)]
    | false =>
      cases hf1 : fit law X U Y E with
      | true =>
        show some _ = some _
        rw [entF_yes hl (by simp [hf1])]
      | false =>
        show some _ = some _
        rw [entF_no (by simp [hf1])]
theorem q_enter0 (N : Nat) (hN : 5000 ≤ N) {r n g E : Nat} {X U Y : Int} {bxs bus bys : Nat → Int32} (hr : r < n) (hn : n ≤ 12) (hg : g < 4096) (hE : E ≤ 20) (hx : bxs r = iI X) (hu : bus r = iI U) (hy : bys r = iI Y) (hX : -99 ≤ X ∧ X ≤ 99) (hU : -99 ≤ U ∧ U ≤ 99) (hY : -99 ≤ Y ∧ Y ≤ 99) (f : Nat → Int32) :
    f_X0_enter N (iI r) (iI n) (iI g) (iI E) bxs bus bys f = some (entF 0 r (fun l => g.testBit r || fit l X U Y E) f) := by
  unfold f_X0_enter
  rw [b1_p (q_has0 N (by omega) hn), in_t hr, bI_t, if_neg (by decide)]
  exact lp_enter N hr hn hg hE hx hu hy hX hU hY 289 0 N f rfl (by omega)
/-- a row comes, on the class's side -/
theorem q_add0 (N : Nat) (hN : 5000 ≤ N) {n g E : Nat} {X U Y : Int} (t : Bool) {bxs bus bys : Nat → Int32} (hn : n < 12) (hg : g < 2 ^ n) (hE : E ≤ 20) (hX : -99 ≤ X ∧ X ≤ 99) (hU : -99 ≤ U ∧ U ≤ 99) (hY : -99 ≤ Y ∧ Y ≤ 99) (f : Nat → Int32) :
    f_X0_add N (iI X) (iI U) (iI Y) (bI t) (iI n) (iI g) (iI E) bxs bus bys f = some (iI n, iI ((n + 1 : Nat) : Int), iI ((g + (if t then 2 ^ n else 0) : Nat) : Int), upd bxs n (iI X), upd bus n (iI U), upd bys n (iI Y), entF 0 n (fun l => t || fit l X U Y E) f) := by
  have h12 := p2_12 (n := n) (by omega)
  have h13 : 2 ^ (n + 1) ≤ 4096 := p2_12 (by omega)
  have h14 : 2 ^ (n + 1) = 2 ^ n + 2 ^ n := by rw [Nat.pow_succ]; omega
  have hor : g ||| 2 ^ n = g + 2 ^ n := by
    have h := Nat.two_pow_add_eq_or_of_lt hg 1
    rw [Nat.mul_one] at h
    rw [Nat.or_comm, ← h, Nat.add_comm]
  have tb1 : (g + 2 ^ n).testBit n = true := by rw [Nat.add_comm, Nat.testBit_two_pow_add_eq, Nat.testBit_lt_two_pow hg]; rfl
  have tb0 : g.testBit n = false := Nat.testBit_lt_two_pow hg
  unfold f_X0_add
  rw [if_neg (fun c => absurd ((k_ltR (by omega)).mp c) (by omega)), if_pos ((k_ltR (by omega)).mpr (by omega)), gi_I (by omega) (by omega) (by omega), gi_I (by omega) (by omega) (by omega), gi_I (by omega) (by omega) (by omega), iI_clampN (by omega), ifb]
  cases t with
  | true =>
    show f_X0_add_63 N _ _ _ _ _ _ _ _ = _
    unfold f_X0_add_63
    rw [q_shl1 (by omega), iI_or, hor, iI_succ, b1_p (q_enter0 N hN (X := X) (U := U) (Y := Y) (by omega) (by omega) (by omega) hE (by unfold upd; rw [if_pos rfl]) (by unfold upd; rw [if_pos rfl]) (by unfold upd; rw [if_pos rfl]) hX hU hY f), tb1]
    rfl
  | false =>
    show f_X0_add_63 N _ _ _ _ _ _ _ _ = _
    unfold f_X0_add_63
    rw [iI_succ, b1_p (q_enter0 N hN (X := X) (U := U) (Y := Y) (by omega) (by omega) (by omega) hE (by unfold upd; rw [if_pos rfl]) (by unfold upd; rw [if_pos rfl]) (by unfold upd; rw [if_pos rfl]) hX hU hY f), tb0]
    rfl
theorem q_add0F (N : Nat) (p0 p1 p2 p3 : Int32) (g er : Int32) (bxs bus bys f : Nat → Int32) : f_X0_add N p0 p1 p2 p3 (iI ((12 : Nat) : Int)) g er bxs bus bys f = some (-3, iI ((12 : Nat) : Int), g, bxs, bus, bys, f) := by
  unfold f_X0_add
  rw [if_neg (fun c => absurd ((k_ltR (by omega)).mp c) (by omega)), if_neg (fun c => absurd ((k_ltR (by omega)).mp c) (by omega))]
/-- a row comes, on the reference's side -/
theorem nar_b (t : Bool) : vp_nar .boolean (bI t) = bI t := by cases t <;> rfl
theorem q_puts9 (N : Nat) {n : Nat} (hn : n < 12) (x u y : Int32) (t : Bool) (dxs dus dys dgp : Nat → Int32) : f_X9_puts N x u y (bI t) (iI n) dxs dus dys dgp = some (iI ((n + 1 : Nat) : Int), upd dxs n x, upd dus n u, upd dys n (bif t then 0 else y), upd dgp n (bI t)) := by
  unfold f_X9_puts
  rw [gi_I (by omega) (by omega) (by omega), gi_I (by omega) (by omega) (by omega), iI_clampN (by omega), ifb]
  cases t with
  | true =>
    show f_X9_puts_38 N _ _ _ _ _ _ _ _ = _
    unfold f_X9_puts_38
    rw [gi_I (by omega) (by omega) (by omega), gi_I (by omega) (by omega) (by omega), iI_clampN (by omega), iI_succ, nar_b]; rfl
  | false =>
    show f_X9_puts_38 N _ _ _ _ _ _ _ _ = _
    unfold f_X9_puts_38
    rw [gi_I (by omega) (by omega) (by omega), gi_I (by omega) (by omega) (by omega), iI_clampN (by omega), iI_succ, nar_b]; rfl
