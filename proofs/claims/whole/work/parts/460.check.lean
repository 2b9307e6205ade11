/-! sheets that tell rows, heaps -/
def allF (p : Nat → Bool) : Nat → Nat → Bool
  | 0, _ => true
  | d + 1, k => bif p k then allF p d (k + 1) else false
theorem allF_t {p : Nat → Bool} : ∀ {d t : Nat}, allF p d t = true → ∀ r, t ≤ r → r < t + d → p r = true
  | 0, t, _, r, h1, h2 => by omega
  | d + 1, t, h, r, h1, h2 => by
    unfold allF at h
    cases hp : p t with
    | false =>
      rw [hp] at h
      have h' : false = true := h
      exact absurd h' (by decide)
    | true =>
      rw [hp] at h
      by_cases c : r = t
      · rw [c]; exact hp
      · exact allF_t (d := d) (t := t + 1) h r (by omega) (by omega)
def inB (a b : Int) (v : Int32) : Bool := decide (a ≤ v.toInt) && decide (v.toInt ≤ b)
theorem inB_t {a b : Int} {v : Int32} (h : inB a b v = true) : a ≤ v.toInt ∧ v.toInt ≤ b := by
  unfold inB at h
  rw [Bool.and_eq_true] at h
  exact ⟨of_decide_eq_true h.1, of_decide_eq_true h.2⟩
theorem q_at5 (N : Nat) {j z : Nat} (hz : z ≤ 36) (hj : j < z) (s : Nat → Int32) : f_X5_at N (iI j) (iI z) s = some (s j) := by
  unfold f_X5_at
  rw [if_neg (fun q => absurd ((k_ltR (by omega)).mp q) (by omega)), if_neg (fun q => absurd ((iI_le (by omega)).mp q) (by omega)), if_neg (fun q => absurd ((k_leL (by omega)).mp q) (by omega)), gi_I (by omega) (by omega) (by omega), iI_clampN (by omega)]
theorem ix_add (j t : Nat) : iI (j : Int) + iI (t : Int) = iI ((j + t : Nat) : Int) := by rw [iI_add]; congr 1
theorem lp_within (N : Nat) {j m z : Nat} (hz : z ≤ 36) (hm : j + m ≤ z) {a b : Int} (ha : -1000 ≤ a ∧ a ≤ 1000) (hb : -1000 ≤ b ∧ b ≤ 1000) (s : Nat → Int32) : ∀ (d t fuel : Nat), t + d = m → d < fuel → f_X5_allWithin_3 N (iI j) (iI m) (iI a) (iI b) (iI z) s fuel (iI t) = some (bI (allF (fun r => inB a b (s (j + r))) d t)) := by
  intro d
  induction d with
  | zero =>
    intro t fuel h1 h2
    obtain ⟨k_, rfl⟩ := su_fuel h2
    have e : t = m := by omega
    subst e
    show b_X5_allWithin_3 N (iI j) (iI t) (iI a) (iI b) (iI z) s _ (iI (t : Int)) = _
    unfold b_X5_allWithin_3 allF
    rw [if_pos ((iI_le (by omega)).mpr (Int.le_refl _))]; rfl
  | succ d ih =>
    intro t fuel h1 h2
    obtain ⟨k_, rfl⟩ := su_fuel (Nat.lt_of_le_of_lt (Nat.zero_le _) h2)
    have i1 := ih (t + 1) k_ (by omega) (by omega)
    show b_X5_allWithin_3 N (iI j) (iI m) (iI a) (iI b) (iI z) s (f_X5_allWithin_3 N (iI j) (iI m) (iI a) (iI b) (iI z) s k_) (iI t) = _
    unfold b_X5_allWithin_3 allF
    rw [if_neg (fun q => absurd ((iI_le (by omega)).mp q) (by omega)), ix_add, b1_p (q_at5 N hz (by omega) s), b1_p (q_at5 N hz (by omega) s), iI_succ, i1]
    generalize s (j + t) = v
    unfold inB
    have l1 : v < iI a ↔ v.toInt < a := by rw [Int32.lt_iff_toInt_lt, iI_toInt (by omega) (by omega)]
    have l2 : v ≤ iI b ↔ v.toInt ≤ b := by rw [Int32.le_iff_toInt_le, iI_toInt (by omega) (by omega)]
    by_cases c1 : v.toInt < a
    · rw [if_pos (l1.mpr c1), decide_eq_false (p := a ≤ v.toInt) (by omega)]; rfl
    · rw [if_neg (fun q => c1 (l1.mp q)), decide_eq_true (p := a ≤ v.toInt) (by omega)]
      by_cases c2 : v.toInt ≤ b
      · rw [if_pos (l2.mpr c2), decide_eq_true c2]; rfl
      · rw [if_neg (fun q => c2 (l2.mp q)), decide_eq_false c2]; rfl
theorem bts_stp (p : Nat → Bool) (t : Nat) : bts p (t + 1) = bif p t then bts p t ||| 2 ^ t else bts p t := by
  show bts p t + (if p t then 2 ^ t else 0) = _
  cases p t with
  | true =>
    show bts p t + (if true = true then 2 ^ t else 0) = bts p t ||| 2 ^ t
    rw [if_pos rfl, bts_or]
  | false =>
    show bts p t + (if false = true then 2 ^ t else 0) = bts p t
    rw [if_neg (by decide), Nat.add_zero]
theorem lp_places (N : Nat) {j m z h : Nat} (hz : z ≤ 36) (hm : j + m ≤ z) (hm12 : m ≤ 12) (s : Nat → Int32) : ∀ (d t fuel : Nat), t + d = m → d < fuel → f_X5_placesOf_6 N (iI h) (iI j) (iI m) (iI z) s fuel (iI ((bts (fun r => decide (s (j + r) = iI h)) t : Nat) : Int)) (iI t) = some (iI ((bts (fun r => decide (s (j + r) = iI h)) m : Nat) : Int)) := by
  intro d
  induction d with
  | zero =>
    intro t fuel h1 h2
    obtain ⟨k_, rfl⟩ := su_fuel h2
    have e : t = m := by omega
    subst e
    show b_X5_placesOf_6 N (iI h) (iI j) (iI t) (iI z) s _ _ (iI (t : Int)) = _
    unfold b_X5_placesOf_6
    rw [if_pos ((iI_le (by omega)).mpr (Int.le_refl _))]
  | succ d ih =>
    intro t fuel h1 h2
    obtain ⟨k_, rfl⟩ := su_fuel (Nat.lt_of_le_of_lt (Nat.zero_le _) h2)
    have i1 := ih (t + 1) k_ (by omega) (by omega)
    rw [bts_stp] at i1
    show b_X5_placesOf_6 N (iI h) (iI j) (iI m) (iI z) s (f_X5_placesOf_6 N (iI h) (iI j) (iI m) (iI z) s k_) _ (iI t) = _
    unfold b_X5_placesOf_6
    rw [if_neg (fun q => absurd ((iI_le (by omega)).mp q) (by omega)), if_neg (fun q => absurd ((k_leL (by omega)).mp q) (by omega)), ix_add, b1_p (q_at5 N hz (by omega) s), iI_succ, q_shl1 (by omega), iI_or]
    by_cases c : s (j + t) = iI (h : Int)
    · rw [if_pos c]
      rw [decide_eq_true c] at i1
      exact i1
    · rw [if_neg c]
      rw [decide_eq_false c] at i1
      exact i1
def chR (p : Nat → Bool) : Nat → Nat → Int32
  | 0, _ => -4
  | d + 1, h => bif p h then chR p d (h + 1) else iI h
def chP (RX RU RY : Nat → Int) (G : Nat → Bool) (E n : Nat) (s : Nat → Int32) (j h : Nat) : Bool := anyF (letB RX RU RY G E n (bts (fun r => decide (s (j + r) = iI h)) n)) 289 0
theorem lp_check8 (N : Nat) (hN : 5000 ≤ N) {n E k j z : Nat} {RX RU RY : Nat → Int} {G : Nat → Bool} {f : Nat → Int32} {ssz : Nat → Int32} {sit : Nat → Nat → Int32} (hn : n ≤ 12) (hm : ∀ law, law < 289 → f law = iI ((bts (mt RX RU RY G E law) n : Nat) : Int)) (hz : z ≤ 36) (hj : j + n ≤ z) (hs : ssz k = iI z) :
    ∀ (d h fuel : Nat), h + d = 12 → d < fuel → f_X8_check_70 N k (iI j) ssz sit (iI n) f fuel (iI h) = some (chR (chP RX RU RY G E n (sit k) j) d h) := by
  intro d
  induction d with
  | zero =>
    intro h fuel h1 h2
    obtain ⟨k_, rfl⟩ := su_fuel h2
    have e : h = 12 := by omega
    subst e
    show b_X8_check_70 N k (iI j) ssz sit (iI n) f _ (iI ((12 : Nat) : Int)) = _
    unfold b_X8_check_70 chR
    rw [if_pos ((k_leL (by omega)).mpr (by omega))]
  | succ d ih =>
    intro h fuel h1 h2
    obtain ⟨k_, rfl⟩ := su_fuel (Nat.lt_of_le_of_lt (Nat.zero_le _) h2)
    have i1 := ih (h + 1) k_ (by omega) (by omega)
    have hpl : f_X5_placesOf N (iI h) (iI j) (iI n) (ssz k) (sit k) = some (iI ((bts (fun r => decide (sit k (j + r) = iI h)) n : Nat) : Int)) := by
      rw [hs]; exact lp_places N hz hj hn (sit k) n 0 N (by omega) (by omega)
    have hw := q_isWhole0 N hN (E := E) (RX := RX) (RU := RU) (RY := RY) (G := G) hn (bts_lt (fun r => decide (sit k (j + r) = iI h)) n) hm
    show b_X8_check_70 N k (iI j) ssz sit (iI n) f (f_X8_check_70 N k (iI j) ssz sit (iI n) f k_) (iI h) = _
    unfold b_X8_check_70 chR
    rw [if_neg (fun q => absurd ((k_leL (by omega)).mp q) (by omega)), b1_p (rfl : f_X0_size N (iI (n : Int)) = some (iI (n : Int))), b1_p hpl, b1_p hw, ifb, iI_succ, i1]
    show (bif chP RX RU RY G E n (sit k) j h then _ else _) = _
    cases chP RX RU RY G E n (sit k) j h <;> rfl
theorem lp_check103 (N : Nat) {n E k j h : Nat} {dxs dus dys dgp dit s : Nat → Int32} (hn : n ≤ 12) (hk : k < 4) (hj : j + n ≤ 36) (hd : ∀ i, i < 36 → s i = dit (36 * k + i)) (k90 : Int32 → Option Int32) :
    ∀ (d t fuel : Nat), t + d = n → d < fuel → f_X9_check_103 N k90 (iI ((36 * k + j : Nat) : Int)) (iI h) (iI n) (iI E) dxs dus dys dgp dit fuel (iI ((bts (fun r => decide (s (j + r) = iI h)) t : Nat) : Int)) (iI t) = b1 (f_X9_isWhole N (iI ((bts (fun r => decide (s (j + r) = iI h)) n : Nat) : Int)) (iI n) (iI E) dxs dus dys dgp) (fun r18 => (if r18 = 0 then some (iI h) else k90 (iI h + (1 : Int32)))) := by
  intro d
  induction d with
  | zero =>
    intro t fuel h1 h2
    obtain ⟨k_, rfl⟩ := su_fuel h2
    have e : t = n := by omega
    subst e
    show b_X9_check_103 N k90 (iI ((36 * k + j : Nat) : Int)) (iI h) (iI t) (iI E) dxs dus dys dgp dit _ _ (iI (t : Int)) = _
    unfold b_X9_check_103
    rw [if_pos ((iI_le (by omega)).mpr (Int.le_refl _))]
  | succ d ih =>
    intro t fuel h1 h2
    obtain ⟨k_, rfl⟩ := su_fuel (Nat.lt_of_le_of_lt (Nat.zero_le _) h2)
    have i1 := ih (t + 1) k_ (by omega) (by omega)
    rw [bts_stp] at i1
    have ed : dit (36 * k + j + t) = s (j + t) := by
      have e4 : 36 * k + j + t = 36 * k + (j + t) := by omega
      rw [e4, hd (j + t) (by omega)]
    have e0 : ∀ x : Nat, iI (x : Int) ||| (0 : Int32) = iI (x : Int) := fun x => by
      have e5 : (0 : Int32) = iI ((0 : Nat) : Int) := rfl
      rw [e5, iI_or, Nat.or_zero]
    show b_X9_check_103 N k90 (iI ((36 * k + j : Nat) : Int)) (iI h) (iI n) (iI E) dxs dus dys dgp dit (f_X9_check_103 N k90 (iI ((36 * k + j : Nat) : Int)) (iI h) (iI n) (iI E) dxs dus dys dgp dit k_) _ (iI t) = _
    unfold b_X9_check_103
    rw [if_neg (fun q => absurd ((iI_le (by omega)).mp q) (by omega)), ix_add, gi_I (by omega) (by omega) (by omega), iI_clampN (by omega), ed, iI_succ, q_shl1 (by omega), iI_or, e0]
    by_cases c : s (j + t) = iI (h : Int)
    · rw [if_pos c]
      rw [decide_eq_true c] at i1
      exact i1
    · rw [if_neg c]
      rw [decide_eq_false c] at i1
      exact i1
theorem lp_check90 (N : Nat) (hN : 5000 ≤ N) {n E k j : Nat} {RX RU RY : Nat → Int} {G : Nat → Bool} {dxs dus dys dgp dit s : Nat → Int32} (hR : RowsM n E RX RU RY G dxs dus dys dgp) (hk : k < 4) (hj : j + n ≤ 36) (hd : ∀ i, i < 36 → s i = dit (36 * k + i)) :
    ∀ (d h fuel : Nat), h + d = 12 → d < fuel → f_X9_check_90 N (iI ((36 * k + j : Nat) : Int)) (iI n) (iI E) dxs dus dys dgp dit fuel (iI h) = some (chR (chP RX RU RY G E n s j) d h) := by
  have hn := hR.1
  intro d
  induction d with
  | zero =>
    intro h fuel h1 h2
    obtain ⟨k_, rfl⟩ := su_fuel h2
    have e : h = 12 := by omega
    subst e
    show b_X9_check_90 N (iI ((36 * k + j : Nat) : Int)) (iI n) (iI E) dxs dus dys dgp dit _ (iI ((12 : Nat) : Int)) = _
    unfold b_X9_check_90 chR
    rw [if_pos ((k_leL (by omega)).mpr (by omega))]
  | succ d ih =>
    intro h fuel h1 h2
    obtain ⟨k_, rfl⟩ := su_fuel (Nat.lt_of_le_of_lt (Nat.zero_le _) h2)
    have i1 := ih (h + 1) k_ (by omega) (by omega)
    have hw := q_isWhole9 N hN hR (bts_lt (fun r => decide (s (j + r) = iI h)) n)
    have hx := lp_check103 N (E := E) (h := h) (dxs := dxs) (dus := dus) (dys := dys) (dgp := dgp) hn hk hj hd (f_X9_check_90 N (iI ((36 * k + j : Nat) : Int)) (iI n) (iI E) dxs dus dys dgp dit k_) n 0 N (by omega) (by omega)
    rw [b1_p hw, ifb, iI_succ, i1] at hx
    show b_X9_check_90 N (iI ((36 * k + j : Nat) : Int)) (iI n) (iI E) dxs dus dys dgp dit (f_X9_check_90 N (iI ((36 * k + j : Nat) : Int)) (iI n) (iI E) dxs dus dys dgp dit k_) (iI h) = _
    unfold b_X9_check_90 chR
    rw [if_neg (fun q => absurd ((k_leL (by omega)).mp q) (by omega))]
    refine hx.trans ?_
    show (bif chP RX RU RY G E n s j h then _ else _) = _
    cases chP RX RU RY G E n s j h <;> rfl
theorem lp_check48 (N : Nat) {n E k j : Nat} {dxs dus dys dgp dit s : Nat → Int32} (hn : n ≤ 12) (hk : k < 4) (hj : j + n ≤ 36) (hd : ∀ i, i < 36 → s i = dit (36 * k + i)) :
    ∀ (d t fuel : Nat), t + d = n → d < fuel → f_X9_check_48 N (iI ((36 * k + j : Nat) : Int)) (iI n) (iI E) dxs dus dys dgp dit fuel (iI t) = bif allF (fun r => inB 0 11 (s (j + r))) d t then f_X9_check_90 N (iI ((36 * k + j : Nat) : Int)) (iI n) (iI E) dxs dus dys dgp dit N (0 : Int32) else some (-2) := by
  intro d
  induction d with
  | zero =>
    intro t fuel h1 h2
    obtain ⟨k_, rfl⟩ := su_fuel h2
    have e : t = n := by omega
    subst e
    show b_X9_check_48 N (iI ((36 * k + j : Nat) : Int)) (iI t) (iI E) dxs dus dys dgp dit _ (iI (t : Int)) = _
    unfold b_X9_check_48 allF
    rw [if_pos ((iI_le (by omega)).mpr (Int.le_refl _))]; rfl
  | succ d ih =>
    intro t fuel h1 h2
    obtain ⟨k_, rfl⟩ := su_fuel (Nat.lt_of_le_of_lt (Nat.zero_le _) h2)
    have i1 := ih (t + 1) k_ (by omega) (by omega)
    have ed : dit (36 * k + j + t) = s (j + t) := by
      have e4 : 36 * k + j + t = 36 * k + (j + t) := by omega
      rw [e4, hd (j + t) (by omega)]
    have hq : f_X9_in N (s (j + t)).toInt64 0 11 = some (bI (inB 0 11 (s (j + t)))) := q_in N (Int32.toInt_toInt64 _) rfl rfl
    show b_X9_check_48 N (iI ((36 * k + j : Nat) : Int)) (iI n) (iI E) dxs dus dys dgp dit (f_X9_check_48 N (iI ((36 * k + j : Nat) : Int)) (iI n) (iI E) dxs dus dys dgp dit k_) (iI t) = _
    unfold b_X9_check_48 allF
    rw [if_neg (fun q => absurd ((iI_le (by omega)).mp q) (by omega)), ix_add, gi_I (by omega) (by omega) (by omega), iI_clampN (by omega), ed, b1_p hq, ifb, iI_succ, i1]
    cases inB 0 11 (s (j + t)) <;> rfl
theorem P_check : PS_check InvA := by
  intro N hN bsz bgp ber bxs bus bys bme pgc prc pgr pla tle tga trr tat tfa tby tnu rlc rla rmo ksz kmb kwa kra kla lo hi glo ghi sla ssz sit mrm mer mtd mat mwr mkn mmb mwa mra mbl mbh dxs dus dys dgp dtp dme dle dlt dkl dln dsz dit dmv hI p0 p1 p2
  have hI' := hI
  obtain ⟨n, E, RX, RU, RY, G, ⟨⟨hn, hE, rfl, rfl, rfl, rfl, rfl⟩, hr, hm⟩, hP, hT, hK, hO, hS⟩ := hI'
  have hRM : RowsM n E RX RU RY G dxs dus dys dgp := ⟨hn, hE, fun r h => (hr r h).2⟩
  obtain ⟨z0, r0, rfl⟩ := iI_of p0
  obtain ⟨z1, r1, rfl⟩ := iI_of p1
  obtain ⟨z2, r2, rfl⟩ := iI_of p2
  have e9 := q_isSheet9 N r0
  by_cases c0 : 0 ≤ z0 ∧ z0 ≤ 3
  case neg =>
    rw [two_f c0, bI_f] at e9
    exact ⟨-1, by unfold f_X8_check; rw [sh5_out r0 c0], by unfold f_X9_check; rw [b1_p e9, if_pos rfl], hI⟩
  rw [two_t c0, bI_t] at e9
  obtain ⟨k, rfl, hk⟩ := sheet_in c0
  have l8 := q_isLane8 N r1
  have l9 := q_isLane9 N r1
  by_cases c1 : 0 ≤ z1 ∧ z1 ≤ 2
  case neg =>
    rw [two_f c1, bI_f] at l8 l9
    exact ⟨-1, by unfold f_X8_check; rw [sh5_in hk, b1_p l8, if_pos rfl], by unfold f_X9_check; rw [b1_p e9, if_neg (by decide), b1_p l9, if_pos rfl], hI⟩
  rw [two_t c1, bI_t] at l8 l9
  obtain ⟨la, rfl, hla⟩ := lane_in c1
  obtain ⟨m1, m2, m3⟩ := hS k hk
  rcases q_ref N (i := z2) (n := (n : Int)) hk ⟨m1, m2⟩ hla r2 (by omega) with ⟨rv, h1, h2, h3⟩ | ⟨j, z, rfl, g1, g2, g3, g4, g5, g6⟩
  · refine ⟨rv, ?_, ?_, hI⟩
    · unfold f_X8_check; rw [sh5_in hk, b1_p l8, if_neg (by decide), b1_p (rfl : f_X0_size N (iI (n : Int)) = some (iI (n : Int))), b1_p h2, if_neg (Int32.not_le.mpr h1)]
    · unfold f_X9_check; rw [b1_p e9, if_neg (by decide), b1_p l9, if_neg (by decide), b1_p h3, if_neg (Int32.not_le.mpr h1)]
  · have hw : f_X5_allWithin N (iI (j : Int)) (iI (n : Int)) (0 : Int32) (11 : Int32) (ssz k) (sit k) = some (bI (allF (fun r => inB 0 11 (sit k (j + r))) n 0)) := by
      rw [g3]
      exact lp_within N (a := 0) (b := 11) g2 (by omega) (by omega) (by omega) (sit k) n 0 N (by omega) (by omega)
    have h8 := lp_check8 N hN (sit := sit) (j := j) hn hm g2 (by omega) g3 12 0 N rfl (by omega)
    have h9 := lp_check48 N (E := E) (dxs := dxs) (dus := dus) (dys := dys) (dgp := dgp) hn hk (j := j) (by omega) m3 n 0 N (by omega) (by omega)
    have h90 := lp_check90 N hN hRM hk (j := j) (by omega) m3 12 0 N rfl (by omega)
    cases hA : allF (fun r => inB 0 11 (sit k (j + r))) n 0 with
    | false =>
      rw [hA] at hw h9
      refine ⟨-2, ?_, ?_, hI⟩
      · unfold f_X8_check; rw [sh5_in hk, b1_p l8, if_neg (by decide), b1_p (rfl : f_X0_size N (iI (n : Int)) = some (iI (n : Int))), b1_p g5, if_pos (by decide), b1_p (rfl : f_X0_size N (iI (n : Int)) = some (iI (n : Int))), b1_p hw, bI_f, if_pos rfl]
      · unfold f_X9_check; rw [b1_p e9, if_neg (by decide), b1_p l9, if_neg (by decide), b1_p g6, if_pos (by decide), ix36]
        exact h9
    | true =>
      rw [hA] at hw h9
      refine ⟨chR (chP RX RU RY G E n (sit k) j) 12 0, ?_, ?_, hI⟩
      · unfold f_X8_check; rw [sh5_in hk, b1_p l8, if_neg (by decide), b1_p (rfl : f_X0_size N (iI (n : Int)) = some (iI (n : Int))), b1_p g5, if_pos (by decide), b1_p (rfl : f_X0_size N (iI (n : Int)) = some (iI (n : Int))), b1_p hw, bI_t, if_neg (by decide)]
        exact h8
      · unfold f_X9_check; rw [b1_p e9, if_neg (by decide), b1_p l9, if_neg (by decide), b1_p g6, if_pos (by decide), ix36]
        exact h9.trans h90
