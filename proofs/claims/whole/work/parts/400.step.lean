theorem iI_tdiv {z d : Int} (h : (-2147483648 ≤ z ∧ z < 2147483648) ∧ (-2147483648 ≤ d ∧ d < 2147483648)) : iI z / iI d = iI (z.tdiv d) :=
  (Int32.ofInt_tdiv (show (-2147483648 : Int) ≤ z from h.1.1) (show z ≤ (2147483647 : Int) by omega) (show (-2147483648 : Int) ≤ d from h.2.1) (show d ≤ (2147483647 : Int) by omega)).symm
theorem td4 (z : Int) : z.tdiv 4 = if 0 ≤ z then z / 4 else -((-z) / 4) := by
  by_cases h : 0 ≤ z
  · rw [if_pos h, Int.tdiv_eq_ediv_of_nonneg h]
  · rw [if_neg h]
    have h2 : 0 ≤ -z := by omega
    have e : z.tdiv 4 = (-(-z)).tdiv 4 := by rw [Int.neg_neg]
    rw [e, Int.neg_tdiv, Int.tdiv_eq_ediv_of_nonneg h2]
theorem div4 {z : Int} (h : -1000000000 ≤ z ∧ z ≤ 1000000000) : iI z / (4 : Int32) = iI (if 0 ≤ z then z / 4 else -((-z) / 4)) := by
  rw [← td4]
  exact iI_tdiv (d := 4) (by omega)
theorem xor4 (x : Int32) : (0 ≤ (x ^^^ (4 : Int32))) ↔ 0 ≤ x := by
  have hm : ∀ y : Int32, (0 ≤ y) ↔ y.toBitVec.msb = false := fun y => by
    rw [Int32.le_iff_toInt_le, BitVec.msb_eq_toInt, decide_eq_false_iff_not]
    show (0 : Int) ≤ y.toBitVec.toInt ↔ _
    omega
  rw [hm, hm]
  show (x.toBitVec ^^^ (4 : Int32).toBitVec).msb = false ↔ _
  rw [BitVec.msb_xor]
  have e : (4 : Int32).toBitVec.msb = false := by decide
  rw [e]; simp
theorem q_fd4 (N : Nat) {z : Int} (h : -1000000000 ≤ z ∧ z ≤ 1000000000) : f_J9_floorDiv_7cf53 N (iI z) (4 : Int32) = some (iI (z / 4)) := by
  unfold f_J9_floorDiv_7cf53 gd
  rw [if_neg (by decide), div4 h]
  by_cases c : 0 ≤ z
  · rw [if_pos ((xor4 _).mpr ((k_leL (by omega)).mpr c)), if_pos c]
  · rw [if_neg (fun q => c ((k_leL (by omega)).mp ((xor4 _).mp q))), if_neg c, k_mulR]
    by_cases c2 : -((-z) / 4) * ((4 : Nat) : Int) = z
    · rw [if_pos ((iI_eq (by omega)).mpr c2)]
      congr 2; omega
    · rw [if_neg (fun q => c2 ((iI_eq (by omega)).mp q)), k_subR]
      congr 2; omega
theorem q_lower9 (N : Nat) {z : Int} (h : -1000000000 ≤ z ∧ z ≤ 1000000000) : f_X9_lower N (iI z) = some (iI (z / 4)) := by
  unfold f_X9_lower
  rw [div4 h]
  by_cases c : 0 ≤ z
  · rw [if_pos ((k_leL (by omega)).mpr c), if_pos c]
  · rw [if_neg (fun q => c ((k_leL (by omega)).mp q)), if_neg c, k_mulL]
    by_cases c2 : ((4 : Nat) : Int) * -((-z) / 4) = z
    · rw [if_pos ((iI_eq (by omega)).mpr c2)]
      congr 2; omega
    · rw [if_neg (fun q => c2 ((iI_eq (by omega)).mp q)), k_subR]
      congr 2; omega
theorem q_higher9 (N : Nat) {z : Int} (h : -1000000000 ≤ z ∧ z ≤ 1000000000) : f_X9_higher N (iI z) = some (iI (-((-z) / 4))) := by
  unfold f_X9_higher
  rw [iI_neg, b1_p (q_lower9 N (by omega)), iI_neg]
def clB (z : Int) : Int := if z < -9999 then -9999 else if 9999 < z then 9999 else z
theorem clB_in (z : Int) : -9999 ≤ clB z ∧ clB z ≤ 9999 := by
  unfold clB
  split
  · omega
  · split <;> omega
theorem q_held9 (N : Nat) {z : Int} (h : -1000000000 ≤ z ∧ z ≤ 1000000000) : f_X9_held N (iI z) = some (iI (clB z)) := by
  unfold f_X9_held clB
  by_cases c : z < -9999
  · rw [if_neg (fun q => absurd ((k_nlL (by omega)).mp q) (by omega)), if_pos c]; rfl
  · rw [if_pos ((k_nlL (by omega)).mpr (by omega)), if_neg c]
    by_cases c2 : 9999 < z
    · rw [if_neg (fun q => absurd ((k_leR (by omega)).mp q) (by omega)), if_pos c2]; rfl
    · rw [if_pos ((k_leR (by omega)).mpr (by omega)), if_neg c2]
theorem q_within1 (N : Nat) {z : Int} (h : -1000000000 ≤ z ∧ z ≤ 1000000000) : f_X1_within N (iI z) = some (iI (clB z)) := by
  unfold f_X1_within clB
  by_cases c2 : z < 9999
  · rw [if_pos ((k_ltR (by omega)).mpr c2), litN 9999, iI_neg]
    by_cases c : z < -9999
    · rw [if_neg (fun q => absurd ((iI_lt (by omega)).mp q) (by omega)), if_pos c]; rfl
    · have e9 : (if 9999 < z then (9999 : Int) else z) = z := if_neg (by omega)
      rw [if_neg c, e9]
      by_cases c3 : z = -9999
      · rw [if_neg (fun q => absurd ((iI_lt (by omega)).mp q) (by omega)), c3]; rfl
      · rw [if_pos ((iI_lt (by omega)).mpr (by omega))]
  · rw [if_neg (fun q => c2 ((k_ltR (by omega)).mp q)), if_pos (by decide), if_neg (by omega)]
    by_cases c3 : z = 9999
    · rw [if_neg (by omega), c3]; rfl
    · rw [if_pos (by omega)]; rfl
/-! pushes in turn -/
def pu (k : Nat) : Int := if k % 2 = 1 then ((k / 2 : Nat) : Int) + 1 else -((k / 2 : Nat) : Int)
theorem pu_in {k : Nat} (h : k < 19) : -9 ≤ pu k ∧ pu k ≤ 9 := by
  unfold pu
  split <;> omega
theorem pu_all8 : ∀ k, k < 19 → f_X8_pushInTurn 0 (nI k) = some (iI (pu k)) := by decide
theorem pu_all9 : ∀ k, k < 19 → f_X9_pushAt 0 (nI k) = some (iI (pu k)) := by decide
theorem q_push8 (N : Nat) {k : Nat} (h : k < 19) : f_X8_pushInTurn N (iI k) = some (iI (pu k)) := by rw [iI_nat]; exact pu_all8 k h
theorem q_push9 (N : Nat) {k : Nat} (h : k < 19) : f_X9_pushAt N (iI k) = some (iI (pu k)) := by rw [iI_nat]; exact pu_all9 k h
theorem q_leastEnd (N : Nat) {S : Int} {E : Nat} (h : -1000000 ≤ S ∧ S ≤ 1000000) : f_X3_leastEnd N (iI S) (iI E) = some (iI (-((-S) / 4) - (E : Int))) := by
  unfold f_X3_leastEnd
  rw [iI_neg, b1_p (q_fd4 N (by omega)), iI_neg, iI_sub]
theorem q_greatestEnd (N : Nat) {S : Int} {E : Nat} (h : -1000000 ≤ S ∧ S ≤ 1000000) : f_X3_greatestEnd N (iI S) (iI E) = some (iI (S / 4 + (E : Int))) := by
  unfold f_X3_greatestEnd
  rw [b1_p (q_fd4 N (by omega)), iI_add]
/-! told apart -/
def mi (x y : Int) : Int := if y < x then y else x
def ma (x y : Int) : Int := if x < y then y else x
theorem ma_I {x y : Int} (h : (-2147483648 ≤ x ∧ x < 2147483648) ∧ (-2147483648 ≤ y ∧ y < 2147483648)) : (if iI x < iI y then iI y else iI x) = iI (ma x y) := by
  unfold ma
  by_cases c : x < y
  · rw [if_pos c, if_pos ((iI_lt h).mpr c)]
  · rw [if_neg c, if_neg (fun q => c ((iI_lt h).mp q))]
theorem mi_I {x y : Int} (h : (-2147483648 ≤ x ∧ x < 2147483648) ∧ (-2147483648 ≤ y ∧ y < 2147483648)) : (if iI y < iI x then iI y else iI x) = iI (mi x y) := by
  unfold mi
  by_cases c : y < x
  · rw [if_pos c, if_pos ((iI_lt ⟨h.2, h.1⟩).mpr c)]
  · rw [if_neg c, if_neg (fun q => c ((iI_lt ⟨h.2, h.1⟩).mp q))]
theorem ma_bd {x y B : Int} (hx : -B ≤ x ∧ x ≤ B) (hy : -B ≤ y ∧ y ≤ B) : -B ≤ ma x y ∧ ma x y ≤ B := by unfold ma; split <;> assumption
theorem mi_bd {x y B : Int} (hx : -B ≤ x ∧ x ≤ B) (hy : -B ≤ y ∧ y ≤ B) : -B ≤ mi x y ∧ mi x y ≤ B := by unfold mi; split <;> assumption
def apR (p : Nat → Bool) : Nat → Nat → Int32
  | 0, _ => -1000004
  | d + 1, k => bif p k then iI (pu k) else apR p d (k + 1)
def apP (a b : Nat) (X : Int) (E k : Nat) : Bool := !decide (-((-(ma (sm a X (pu k)) (sm b X (pu k)))) / 4) - (E : Int) ≤ mi (sm a X (pu k)) (sm b X (pu k)) / 4 + (E : Int))
theorem apP_eq (a b : Nat) (X : Int) (E k : Nat) : apP a b X E k = !decide (-((-(ma (sm a X (pu k)) (sm b X (pu k)))) / 4) - (E : Int) ≤ mi (sm a X (pu k)) (sm b X (pu k)) / 4 + (E : Int)) := rfl
theorem lp_apart8 (N : Nat) {a b E : Nat} {X : Int} (ha : a < 289) (hb : b < 289) (hX : -99 ≤ X ∧ X ≤ 99) (hE : E ≤ 20) :
    ∀ (d k fuel : Nat), k + d = 19 → d < fuel → f_X8_apart_29 N (iI a) (iI b) (iI X) (iI E) fuel (iI k) = some (apR (apP a b X E) d k) := by
  intro d
  induction d with
  | zero =>
    intro k fuel h1 h2
    obtain ⟨k_, rfl⟩ := su_fuel h2
    have e : k = 19 := by omega
    subst e
    show b_X8_apart_29 N (iI a) (iI b) (iI X) (iI E) _ (iI ((19 : Nat) : Int)) = _
    unfold b_X8_apart_29 apR
    rw [if_pos ((k_ltL (by omega)).mpr (by omega))]
  | succ d ih =>
    intro k fuel h1 h2
    obtain ⟨k_, rfl⟩ := su_fuel (Nat.lt_of_le_of_lt (Nat.zero_le _) h2)
    have i1 := ih (k + 1) k_ (by omega) (by omega)
    have hp := pu_in (k := k) (by omega)
    have s1 := sm_bd ha (A := 99) (B := 9) hX hp
    have s2 := sm_bd hb (A := 99) (B := 9) hX hp
    have m1 := ma_bd (B := 864) (x := sm a X (pu k)) (y := sm b X (pu k)) (by omega) (by omega)
    have m2 := mi_bd (B := 864) (x := sm a X (pu k)) (y := sm b X (pu k)) (by omega) (by omega)
    show b_X8_apart_29 N (iI a) (iI b) (iI X) (iI E) (f_X8_apart_29 N (iI a) (iI b) (iI X) (iI E) k_) (iI (k : Int)) = _
    unfold b_X8_apart_29 apR
    rw [if_neg (fun q => absurd ((k_ltL (by omega)).mp q) (by omega)), b1_p (q_push8 N (by omega)), b1_p (q_sum3 N ha X (pu k)), b1_p (q_sum3 N hb X (pu k)), b1_p (rfl : f_X0_errorNow N (iI (E : Int)) = some (iI (E : Int))), ma_I (by omega), mi_I (by omega), b1_p (q_leastEnd N (by omega)), b1_p (q_greatestEnd N (by omega)), iI_succ, i1, apP_eq]
    by_cases c : -((-(ma (sm a X (pu k)) (sm b X (pu k)))) / 4) - (E : Int) ≤ mi (sm a X (pu k)) (sm b X (pu k)) / 4 + (E : Int)
    · rw [if_pos ((iI_le (by omega)).mpr c), decide_eq_true c]; rfl
    · rw [if_neg (fun q => c ((iI_le (by omega)).mp q)), decide_eq_false c]; rfl
theorem lp_apart9 (N : Nat) {a b E : Nat} {X : Int} (ha : a < 289) (hb : b < 289) (hX : -99 ≤ X ∧ X ≤ 99) (hE : E ≤ 20) :
    ∀ (d k fuel : Nat), k + d = 19 → d < fuel → f_X9_apart_27 N (iI a) (iI b) (iI X) (iI E) fuel (iI k) = some (apR (apP a b X E) d k) := by
  intro d
  induction d with
  | zero =>
    intro k fuel h1 h2
    obtain ⟨k_, rfl⟩ := su_fuel h2
    have e : k = 19 := by omega
    subst e
    show b_X9_apart_27 N (iI a) (iI b) (iI X) (iI E) _ (iI ((19 : Nat) : Int)) = _
    unfold b_X9_apart_27 apR
    rw [if_pos ((k_leL (by omega)).mpr (by omega))]
  | succ d ih =>
    intro k fuel h1 h2
    obtain ⟨k_, rfl⟩ := su_fuel (Nat.lt_of_le_of_lt (Nat.zero_le _) h2)
    have i1 := ih (k + 1) k_ (by omega) (by omega)
    have hp := pu_in (k := k) (by omega)
    have s1 := sm_bd ha (A := 99) (B := 9) hX hp
    have s2 := sm_bd hb (A := 99) (B := 9) hX hp
    have m1 := ma_bd (B := 864) (x := sm a X (pu k)) (y := sm b X (pu k)) (by omega) (by omega)
    have m2 := mi_bd (B := 864) (x := sm a X (pu k)) (y := sm b X (pu k)) (by omega) (by omega)
    have e95 : f_X9_apart_95 N (f_X9_apart_27 N (iI a) (iI b) (iI X) (iI E) k_) (iI a) (iI b) (iI X) (iI k) (iI (ma (sm a X (pu k)) (sm b X (pu k)) - ((4 : Nat) : Int) * (E : Int))) (iI (mi (sm a X (pu k)) (sm b X (pu k)))) (iI E) = some (bif apP a b X E k then iI (pu k) else apR (apP a b X E) d (k + 1)) := by
      unfold f_X9_apart_95
      rw [b1_p (q_higher9 N (by omega)), k_mulL, iI_add, b1_p (q_lower9 N (by omega)), b1_p (q_push9 N (by omega)), iI_succ, i1, apP_eq]
      by_cases c : -((-(ma (sm a X (pu k)) (sm b X (pu k)))) / 4) - (E : Int) ≤ mi (sm a X (pu k)) (sm b X (pu k)) / 4 + (E : Int)
      · rw [if_pos ((iI_le (by omega)).mpr (by omega)), decide_eq_true c]; rfl
      · rw [if_neg (fun q => c (by have := (iI_le (by omega)).mp q; omega)), decide_eq_false c]; rfl
    show b_X9_apart_27 N (iI a) (iI b) (iI X) (iI E) (f_X9_apart_27 N (iI a) (iI b) (iI X) (iI E) k_) (iI (k : Int)) = some (bif apP a b X E k then iI (pu k) else apR (apP a b X E) d (k + 1))
    unfold b_X9_apart_27 f_X9_apart_72
    rw [if_neg (fun q => absurd ((k_leL (by omega)).mp q) (by omega)), b1_p (q_push9 N (by omega)), b1_p (q_sum9 N ha X (pu k)), b1_p (q_push9 N (by omega)), b1_p (q_sum9 N hb X (pu k)), k_mulL, iI_sub, iI_sub]
    rw [← e95]
    unfold ma mi
    by_cases c1 : sm a X (pu k) ≤ sm b X (pu k)
    · rw [if_pos ((iI_le (by omega)).mpr c1)]
      by_cases c2 : sm b X (pu k) ≤ sm a X (pu k)
      · have e : sm a X (pu k) = sm b X (pu k) := by omega
        rw [if_pos ((iI_le (by omega)).mpr c2), if_neg (by omega), if_neg (by omega), e]
      · rw [if_neg (fun q => c2 ((iI_le (by omega)).mp q)), if_pos (by omega), if_neg (by omega)]
    · rw [if_neg (fun q => c1 ((iI_le (by omega)).mp q)), if_pos ((iI_le (by omega)).mpr (by omega)), if_neg (by omega), if_pos (by omega)]
theorem P_apart : PS_apart InvA := by
  intro N hN bsz bgp ber bxs bus bys bme pgc prc pgr pla tle tga trr tat tfa tby tnu rlc rla rmo ksz kmb kwa kra kla lo hi glo ghi sla ssz sit mrm mer mtd mat mwr mkn mmb mwa mra mbl mbh dxs dus dys dgp dtp dme dle dlt dkl dln dsz dit dmv hI p0 p1 p2
  have hI' := hI
  obtain ⟨n, E, RX, RU, RY, G, ⟨⟨hn, hE, rfl, rfl, rfl, rfl, rfl⟩, hr, hm⟩, hP, hRR⟩ := hI'
  obtain ⟨z0, r0, rfl⟩ := iI_of p0
  obtain ⟨z1, r1, rfl⟩ := iI_of p1
  obtain ⟨z2, r2, rfl⟩ := iI_of p2
  by_cases c0 : 0 ≤ z0 ∧ z0 ≤ 288
  · obtain ⟨a, rfl⟩ := Int.eq_ofNat_of_zero_le c0.1
    by_cases c1 : 0 ≤ z1 ∧ z1 ≤ 288
    · obtain ⟨b, rfl⟩ := Int.eq_ofNat_of_zero_le c1.1
      cases c2 : near z2 with
      | false =>
        refine ⟨-1000001, ?_, ?_, hI⟩
        · unfold f_X8_apart; rw [b1_p (q_is3 N r0), two_t c0, bI_t, if_neg (by decide), b1_p (q_is3 N r1), two_t c1, bI_t, if_neg (by decide), b1_p (q_near99 N r2), c2, bI_f, if_pos rfl]
        · unfold f_X9_apart; rw [b1_p (q_isLaw9 N r0), two_t c0, bI_t, if_neg (by decide), b1_p (q_isLaw9 N r1), two_t c1, bI_t, if_neg (by decide), b1_p (q_small99 N r2), c2, bI_f, if_pos rfl]
      | true =>
        refine ⟨apR (apP a b z2 E) 19 0, ?_, ?_, hI⟩
        · unfold f_X8_apart; rw [b1_p (q_is3 N r0), two_t c0, bI_t, if_neg (by decide), b1_p (q_is3 N r1), two_t c1, bI_t, if_neg (by decide), b1_p (q_near99 N r2), c2, bI_t, if_neg (by decide)]
          exact lp_apart8 N (by omega) (by omega) (near_t c2) hE 19 0 N rfl (by omega)
        · unfold f_X9_apart; rw [b1_p (q_isLaw9 N r0), two_t c0, bI_t, if_neg (by decide), b1_p (q_isLaw9 N r1), two_t c1, bI_t, if_neg (by decide), b1_p (q_small99 N r2), c2, bI_t, if_neg (by decide)]
          exact lp_apart9 N (by omega) (by omega) (near_t c2) hE 19 0 N rfl (by omega)
    · refine ⟨-1000001, ?_, ?_, hI⟩
      · unfold f_X8_apart; rw [b1_p (q_is3 N r0), two_t c0, bI_t, if_neg (by decide), b1_p (q_is3 N r1), two_f c1, bI_f, if_pos rfl]
      · unfold f_X9_apart; rw [b1_p (q_isLaw9 N r0), two_t c0, bI_t, if_neg (by decide), b1_p (q_isLaw9 N r1), two_f c1, bI_f, if_pos rfl]
  · refine ⟨-1000001, ?_, ?_, hI⟩
    · unfold f_X8_apart; rw [b1_p (q_is3 N r0), two_f c0, bI_f, if_pos rfl]
    · unfold f_X9_apart; rw [b1_p (q_isLaw9 N r0), two_f c0, bI_f, if_pos rfl]
