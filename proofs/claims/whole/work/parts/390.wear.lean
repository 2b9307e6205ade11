theorem and_not (a b : Nat) : iI (a : Int) &&& (iI (b : Int) ^^^ (-1 : Int32)) = iI ((restS a b : Nat) : Int) := by
  rw [iI_nat, iI_nat, iI_nat]
  apply Int32.toBitVec_inj.1
  have e1 : (-1 : Int32).toBitVec = BitVec.allOnes 32 := by decide
  show BitVec.ofNat 32 a &&& (BitVec.ofNat 32 b ^^^ (-1 : Int32).toBitVec) = BitVec.ofNat 32 (a ^^^ (a &&& b))
  rw [e1]
  apply BitVec.eq_of_getLsbD_eq
  intro i hi
  rw [BitVec.getLsbD_and, BitVec.getLsbD_xor, BitVec.getLsbD_ofNat, BitVec.getLsbD_ofNat, BitVec.getLsbD_ofNat, BitVec.getLsbD_allOnes, Nat.testBit_xor, Nat.testBit_and, decide_eq_true hi]
  cases a.testBit i <;> cases b.testBit i <;> rfl
theorem restS_lt {a b c : Nat} (h : a < 2 ^ c) : restS a b < 2 ^ c := by
  unfold restS
  have h2 : a &&& b ≤ a := Nat.and_le_left
  exact Nat.xor_lt_two_pow h (by omega)
/-- wear, as both loops do it -/
def wearR (p q : Nat → Bool) : Nat → Nat → Int32
  | 0, _ => -4
  | d + 1, s => bif p s then (bif q s then iI s else wearR p q d (s + 1)) else wearR p q d (s + 1)
theorem sh_ahead {s : Nat} (hs : s ≤ 12) : (1 : Int32) <<< (iI (s : Int) &&& 31) - 1 = iI ((2 ^ s - 1 : Nat) : Int) := by
  have hp := p2_12 hs
  have hp1 := p2_pos s
  rw [q_shl1 (by omega), l1_I, iI_sub]
  have e2 : (((2 ^ s : Nat) : Int) - 1) = ((2 ^ s - 1 : Nat) : Int) := by omega
  rw [e2]
theorem ahead_lt {s n : Nat} (hs : s ≤ n) : 2 ^ s - 1 < 2 ^ n := by
  have h1 : 2 ^ s ≤ 2 ^ n := Nat.pow_le_pow_right (by decide) hs
  have h2 := p2_pos s
  omega
theorem lp_wear8 (N : Nat) {n E law wn : Nat} {RX RU RY : Nat → Int} {G : Nat → Bool} {f : Nat → Int32} (hn : n ≤ 12) (hl : law < 289) (hw : wn < 289) (hm : ∀ law, law < 289 → f law = iI ((bts (mt RX RU RY G E law) n : Nat) : Int)) :
    ∀ (d s fuel : Nat), s + d = n + 1 → d < fuel → f_X8_wear_84 N (iI law) (iI wn) (iI n) f fuel (iI s) = some (wearR (fun s => letB RX RU RY G E n (2 ^ s - 1) law) (fun s => letB RX RU RY G E n (restS (2 ^ n - 1) (2 ^ s - 1)) wn) d s) := by
  intro d
  induction d with
  | zero =>
    intro s fuel h1 h2
    obtain ⟨k_, rfl⟩ := su_fuel h2
    have e : s = n + 1 := by omega
    subst e
    show b_X8_wear_84 N (iI law) (iI wn) (iI n) f _ (iI ((n + 1 : Nat) : Int)) = _
    unfold b_X8_wear_84 wearR
    rw [b1_p (rfl : f_X0_size N (iI (n : Int)) = some (iI (n : Int))), if_pos ((iI_lt (by omega)).mpr (by omega))]
  | succ d ih =>
    intro s fuel h1 h2
    obtain ⟨k_, rfl⟩ := su_fuel (Nat.lt_of_le_of_lt (Nat.zero_le _) h2)
    have i1 := ih (s + 1) k_ (by omega) (by omega)
    have ha := ahead_lt (s := s) (n := n) (by omega)
    have hr := restS_lt (b := 2 ^ s - 1) (ahead_lt (Nat.le_refl n))
    show b_X8_wear_84 N (iI law) (iI wn) (iI n) f (f_X8_wear_84 N (iI law) (iI wn) (iI n) f k_) (iI (s : Int)) = _
    unfold b_X8_wear_84 wearR
    rw [b1_p (rfl : f_X0_size N (iI (n : Int)) = some (iI (n : Int))), if_neg (fun q => absurd ((iI_lt (by omega)).mp q) (by omega)), sh_ahead (by omega), b1_p (q_letB0 N hn hl ha hm), ifb, b1_p (q_all0 N hn), and_not, b1_p (q_letB0 N hn hw hr hm), ifb, iI_succ, i1]
    cases letB RX RU RY G E n (2 ^ s - 1) law <;> cases letB RX RU RY G E n (restS (2 ^ n - 1) (2 ^ s - 1)) wn <;> rfl
theorem lp_wear9 (N : Nat) (hN : 5000 ≤ N) {n E law a b : Nat} {RX RU RY : Nat → Int} {G : Nat → Bool} {dxs dus dys dgp : Nat → Int32} (hR : RowsM n E RX RU RY G dxs dus dys dgp) (hl : law < 289) (ha : a ≤ 16) (hb : b ≤ 16) :
    ∀ (d s fuel : Nat), s + d = n + 1 → d < fuel → f_X9_wear_99 N (iI law) (iI a) (iI b) (iI ((2 ^ n - 1 : Nat) : Int)) (iI n) (iI E) dxs dus dys dgp fuel (iI s) = some (wearR (fun s => letB RX RU RY G E n (2 ^ s - 1) law) (fun s => letB RX RU RY G E n (restS (2 ^ n - 1) (2 ^ s - 1)) (17 * a + b)) d s) := by
  have hn := hR.1
  intro d
  induction d with
  | zero =>
    intro s fuel h1 h2
    obtain ⟨k_, rfl⟩ := su_fuel h2
    have e : s = n + 1 := by omega
    subst e
    show b_X9_wear_99 N (iI law) (iI a) (iI b) _ (iI n) (iI E) dxs dus dys dgp _ (iI ((n + 1 : Nat) : Int)) = _
    unfold b_X9_wear_99 wearR
    rw [if_pos ((iI_lt (by omega)).mpr (by omega))]
  | succ d ih =>
    intro s fuel h1 h2
    obtain ⟨k_, rfl⟩ := su_fuel (Nat.lt_of_le_of_lt (Nat.zero_le _) h2)
    have i1 := ih (s + 1) k_ (by omega) (by omega)
    have hah := ahead_lt (s := s) (n := n) (by omega)
    have hr := restS_lt (b := 2 ^ s - 1) (ahead_lt (Nat.le_refl n))
    have e17 : (17 : Int32) * iI (a : Int) + iI (b : Int) = iI ((17 * a + b : Nat) : Int) := by
      rw [litN 17, iI_mul, iI_add]; rfl
    show b_X9_wear_99 N (iI law) (iI a) (iI b) _ (iI n) (iI E) dxs dus dys dgp (f_X9_wear_99 N (iI law) (iI a) (iI b) (iI ((2 ^ n - 1 : Nat) : Int)) (iI n) (iI E) dxs dus dys dgp k_) (iI (s : Int)) = _
    unfold b_X9_wear_99 wearR
    rw [if_neg (fun q => absurd ((iI_lt (by omega)).mp q) (by omega)), sh_ahead (by omega), b1_p (q_isLet9 N hN hR hl hah), ifb, and_not, e17, b1_p (q_isLet9 N hN hR (by omega) hr), ifb, iI_succ, i1]
    cases letB RX RU RY G E n (2 ^ s - 1) law <;> cases letB RX RU RY G E n (restS (2 ^ n - 1) (2 ^ s - 1)) (17 * a + b) <;> rfl
def near1 (z : Int) : Bool := decide (-1 ≤ z) && decide (z ≤ 1)
theorem near1_t {z : Int} (h : near1 z = true) : -1 ≤ z ∧ z ≤ 1 := by
  unfold near1 at h
  rw [Bool.and_eq_true] at h
  exact ⟨of_decide_eq_true h.1, of_decide_eq_true h.2⟩
theorem q_near1 (N : Nat) {z : Int} (hz : -2147483648 ≤ z ∧ z < 2147483648) : f_X8_isNear N (iI z) (1 : Int32) = some (bI (near1 z)) := q_near N hz (f_ := 1) (by omega)
theorem q_in1 (N : Nat) {z : Int} (hz : -2147483648 ≤ z ∧ z < 2147483648) : f_X9_in N (iI z).toInt64 (-1 : Int64) (1 : Int64) = some (bI (near1 z)) := q_in N (j_of hz) rfl rfl
theorem wear_core (N : Nat) (hN : 5000 ≤ N) {n E law : Nat} {RX RU RY : Nat → Int} {G : Nat → Bool} {dxs dus dys dgp f : Nat → Int32} (hR : RowsM n E RX RU RY G dxs dus dys dgp) (hm : ∀ law, law < 289 → f law = iI ((bts (mt RX RU RY G E law) n : Nat) : Int)) (hl : law < 289) {z1 z2 : Int} (h1 : -1 ≤ z1 ∧ z1 ≤ 1) (h2 : -1 ≤ z2 ∧ z2 ≤ 1) :
    ∃ rv, f_X8_wear_33 N (iI law) (iI z1) (iI z2) (iI n) f = some rv ∧ f_X9_wear_41 N (iI law) (iI z1) (iI z2) (iI n) (iI E) dxs dus dys dgp = some rv := by
  have hn := hR.1
  have g1 : law / 17 < 17 := by omega
  have g2 : law % 17 < 17 := by omega
  have e8a := q_near N (z := ((law / 17 : Nat) : Int) - 8 + z1) (f_ := 8) (by omega) (by omega)
  have e8b := q_near N (z := ((law % 17 : Nat) : Int) - 8 + z2) (f_ := 8) (by omega) (by omega)
  have e9a : f_X9_in N (iI (((law / 17 : Nat) : Int) + z1)).toInt64 (0 : Int64) (16 : Int64) = some (bI (decide (0 ≤ ((law / 17 : Nat) : Int) + z1) && decide (((law / 17 : Nat) : Int) + z1 ≤ 16))) := q_in N (j_of (by omega)) rfl rfl
  have e9b : f_X9_in N (iI (((law % 17 : Nat) : Int) + z2)).toInt64 (0 : Int64) (16 : Int64) = some (bI (decide (0 ≤ ((law % 17 : Nat) : Int) + z2) && decide (((law % 17 : Nat) : Int) + z2 ≤ 16))) := q_in N (j_of (by omega)) rfl rfl
  unfold f_X8_wear_33 f_X9_wear_41
  rw [b1_p (q_ps N hl), b1_p (q_pp N hl), litN 17, iI_remN (by omega) (by omega) (by omega), iI_divN (by omega) (by omega) (by omega), iI_add, iI_add, iI_add, iI_add]
  by_cases ca : 0 ≤ ((law / 17 : Nat) : Int) + z1 ∧ ((law / 17 : Nat) : Int) + z1 ≤ 16
  · rw [two_t ca, bI_t] at e9a
    rw [two_t (show -8 ≤ ((law / 17 : Nat) : Int) - 8 + z1 ∧ ((law / 17 : Nat) : Int) - 8 + z1 ≤ 8 by omega), bI_t] at e8a
    by_cases cb : 0 ≤ ((law % 17 : Nat) : Int) + z2 ∧ ((law % 17 : Nat) : Int) + z2 ≤ 16
    · rw [two_t cb, bI_t] at e9b
      rw [two_t (show -8 ≤ ((law % 17 : Nat) : Int) - 8 + z2 ∧ ((law % 17 : Nat) : Int) - 8 + z2 ≤ 8 by omega), bI_t] at e8b
      obtain ⟨a, ea⟩ := Int.eq_ofNat_of_zero_le ca.1
      obtain ⟨b, eb⟩ := Int.eq_ofNat_of_zero_le cb.1
      have en : f_X3_number N (iI (((law / 17 : Nat) : Int) - 8 + z1)) (iI (((law % 17 : Nat) : Int) - 8 + z2)) = some (iI ((17 * a + b : Nat) : Int)) := by
        unfold f_X3_number
        rw [litN 17, litN 8, iI_add, iI_mul, iI_add, iI_add]
        congr 2; omega
      refine ⟨wearR (fun s => letB RX RU RY G E n (2 ^ s - 1) law) (fun s => letB RX RU RY G E n (restS (2 ^ n - 1) (2 ^ s - 1)) (17 * a + b)) (n + 1) 0, ?_, ?_⟩
      · refine (b1_p e8a _).trans ?_
        rw [if_neg (by decide)]
        refine (b1_p e8b _).trans ?_
        rw [if_neg (by decide)]
        refine (b1_p en _).trans ?_
        exact lp_wear8 N hn hl (by omega) hm (n + 1) 0 N (by omega) (by omega)
      · refine (b1_p e9a _).trans ?_
        rw [if_neg (by decide)]
        refine (b1_p e9b _).trans ?_
        rw [if_neg (by decide), ea, eb, sh_ahead hn]
        exact lp_wear9 N hN hR hl (by omega) (by omega) (n + 1) 0 N (by omega) (by omega)
    · rw [two_f cb, bI_f] at e9b
      rw [two_f (show ¬ (-8 ≤ ((law % 17 : Nat) : Int) - 8 + z2 ∧ ((law % 17 : Nat) : Int) - 8 + z2 ≤ 8) by omega), bI_f] at e8b
      refine ⟨-2, ?_, ?_⟩
      · refine (b1_p e8a _).trans ?_
        rw [if_neg (by decide)]
        refine (b1_p e8b _).trans ?_
        rw [if_pos rfl]
      · refine (b1_p e9a _).trans ?_
        rw [if_neg (by decide)]
        refine (b1_p e9b _).trans ?_
        rw [if_pos rfl]
  · rw [two_f ca, bI_f] at e9a
    rw [two_f (show ¬ (-8 ≤ ((law / 17 : Nat) : Int) - 8 + z1 ∧ ((law / 17 : Nat) : Int) - 8 + z1 ≤ 8) by omega), bI_f] at e8a
    refine ⟨-2, ?_, ?_⟩
    · refine (b1_p e8a _).trans ?_
      rw [if_pos rfl]
    · refine (b1_p e9a _).trans ?_
      rw [if_pos rfl]
theorem P_wear : PS_wear InvA := by
  intro N hN bsz bgp ber bxs bus bys bme pgc prc pgr pla tle tga trr tat tfa tby tnu rlc rla rmo ksz kmb kwa kra kla lo hi glo ghi sla ssz sit mrm mer mtd mat mwr mkn mmb mwa mra mbl mbh dxs dus dys dgp dtp dme dle dlt dkl dln dsz dit dmv hI p0 p1 p2
  have hI' := hI
  obtain ⟨n, E, RX, RU, RY, G, ⟨⟨hn, hE, rfl, rfl, rfl, rfl, rfl⟩, hr, hm⟩, hP, hRR⟩ := hI'
  obtain ⟨z0, r0, rfl⟩ := iI_of p0
  obtain ⟨z1, r1, rfl⟩ := iI_of p1
  obtain ⟨z2, r2, rfl⟩ := iI_of p2
  have hRM : RowsM n E RX RU RY G dxs dus dys dgp := ⟨hn, hE, fun r h => (hr r h).2⟩
  by_cases c : 0 ≤ z0 ∧ z0 ≤ 288
  · obtain ⟨law, rfl⟩ := Int.eq_ofNat_of_zero_le c.1
    have hl : law < 289 := by omega
    have ea := two_t c
    cases c1 : near1 z1 with
    | false =>
      refine ⟨-1, ?_, ?_, hI⟩
      · unfold f_X8_wear; rw [b1_p (q_is3 N r0), ea, bI_t, if_neg (by decide), b1_p (q_near1 N r1), c1, bI_f, if_pos rfl]
      · unfold f_X9_wear; rw [b1_p (q_isLaw9 N r0), ea, bI_t, if_neg (by decide), b1_p (q_in1 N r1), c1, bI_f, if_pos rfl]
    | true =>
    cases c2 : near1 z2 with
    | false =>
      refine ⟨-1, ?_, ?_, hI⟩
      · unfold f_X8_wear; rw [b1_p (q_is3 N r0), ea, bI_t, if_neg (by decide), b1_p (q_near1 N r1), c1, bI_t, if_neg (by decide), b1_p (q_near1 N r2), c2, bI_f, if_pos rfl]
      · unfold f_X9_wear; rw [b1_p (q_isLaw9 N r0), ea, bI_t, if_neg (by decide), b1_p (q_in1 N r1), c1, bI_t, if_neg (by decide), b1_p (q_in1 N r2), c2, bI_f, if_pos rfl]
    | true =>
      obtain ⟨rv, w8, w9⟩ := wear_core N hN hRM hm hl (near1_t c1) (near1_t c2)
      have s8 : f_X8_wear N (iI (law : Int)) (iI z1) (iI z2) (iI n) bme = (if iI z1 = 0 then (if iI z2 = 0 then some (-1 : Int32) else some rv) else some rv) := by
        unfold f_X8_wear; rw [b1_p (q_is3 N r0), ea, bI_t, if_neg (by decide), b1_p (q_near1 N r1), c1, bI_t, if_neg (by decide), b1_p (q_near1 N r2), c2, bI_t, if_neg (by decide), w8]
      have s9 : f_X9_wear N (iI (law : Int)) (iI z1) (iI z2) (iI n) (iI E) dxs dus dys dgp = (if iI z1 = 0 then (if iI z2 = 0 then some (-1 : Int32) else some rv) else some rv) := by
        unfold f_X9_wear; rw [b1_p (q_isLaw9 N r0), ea, bI_t, if_neg (by decide), b1_p (q_in1 N r1), c1, bI_t, if_neg (by decide), b1_p (q_in1 N r2), c2, bI_t, if_neg (by decide), w9]
      by_cases d1 : iI z1 = 0
      · by_cases d2 : iI z2 = 0
        · exact ⟨-1, by rw [s8, if_pos d1, if_pos d2], by rw [s9, if_pos d1, if_pos d2], hI⟩
        · exact ⟨rv, by rw [s8, if_pos d1, if_neg d2], by rw [s9, if_pos d1, if_neg d2], hI⟩
      · exact ⟨rv, by rw [s8, if_neg d1], by rw [s9, if_neg d1], hI⟩
  · have ea := two_f c
    refine ⟨-1, ?_, ?_, hI⟩
    · unfold f_X8_wear; rw [b1_p (q_is3 N r0), ea, bI_f, if_pos rfl]
    · unfold f_X9_wear; rw [b1_p (q_isLaw9 N r0), ea, bI_f, if_pos rfl]
/-! hours -/
def rst (h m : Nat) : Nat → Nat
  | 0 => 0
  | r + 1 => rst h m r ||| (if h.testBit r then 2 ^ (r % m) else 0)
theorem rst_lt (h : Nat) {m : Nat} (hm : 1 ≤ m ∧ m ≤ 6) : ∀ r, rst h m r < 2 ^ 6
  | 0 => by show (0 : Nat) < 2 ^ 6; decide
  | r + 1 => by
    have i1 := rst_lt h hm r
    have h1 : r % m < m := Nat.mod_lt _ (by omega)
    have h2 : 2 ^ (r % m) < 2 ^ 6 := Nat.pow_lt_pow_right (by decide) (by omega)
    unfold rst
    split
    · exact Nat.or_lt_two_pow i1 h2
    · exact Nat.or_lt_two_pow i1 (by decide)
theorem lp_rests8 (N : Nat) {n h m : Nat} (hn : n ≤ 12) (hh : h < 2 ^ n) (hm : 1 ≤ m ∧ m ≤ 6) :
    ∀ (d r fuel : Nat), r + d = n → d < fuel → f_X8_rests_5 N (iI h) (iI m) (iI n) fuel (iI ((rst h m r : Nat) : Int)) (iI r) = some (iI ((rst h m n : Nat) : Int)) := by
  have hp := p2_12 hn
  intro d
  induction d with
  | zero =>
    intro r fuel h1 h2
    obtain ⟨k_, rfl⟩ := su_fuel h2
    have e : r = n := by omega
    subst e
    show b_X8_rests_5 N (iI h) (iI m) (iI r) _ _ (iI (r : Int)) = _
    unfold b_X8_rests_5
    rw [b1_p (rfl : f_X0_size N (iI (r : Int)) = some (iI (r : Int))), if_pos ((iI_le (by omega)).mpr (Int.le_refl _))]
  | succ d ih =>
    intro r fuel h1 h2
    obtain ⟨k_, rfl⟩ := su_fuel (Nat.lt_of_le_of_lt (Nat.zero_le _) h2)
    have i1 := ih (r + 1) k_ (by omega) (by omega)
    have hu : rst h m (r + 1) = rst h m r ||| (if h.testBit r then 2 ^ (r % m) else 0) := rfl
    have hrm : r % m < m := Nat.mod_lt _ (by omega)
    show b_X8_rests_5 N (iI h) (iI m) (iI n) (f_X8_rests_5 N (iI h) (iI m) (iI n) k_) _ (iI (r : Int)) = _
    unfold b_X8_rests_5
    rw [b1_p (rfl : f_X0_size N (iI (n : Int)) = some (iI (n : Int))), if_neg (fun q => absurd ((iI_le (by omega)).mp q) (by omega)), q_bit (by omega) (by omega), ifb, if_neg (fun q => absurd ((k_leR (by omega)).mp q) (by omega)), iI_succ]
    have eg : ∀ x : Option Int32, gd (iI (m : Int)) x = x := fun x => by
      unfold gd
      rw [if_neg (fun q => absurd ((k_eqR (by omega)).mp q) (by omega))]
    rw [eg, iI_remN (by omega) (by omega) (by omega), q_shl1 (by omega), iI_or]
    cases hb : h.testBit r with
    | true => simp only [cond_true]; rw [hu, hb] at i1; exact i1
    | false =>
      simp only [cond_false]; rw [hu, hb] at i1
      have e0 : (rst h m r ||| (if false = true then 2 ^ (r % m) else 0)) = rst h m r := by simp
      rw [e0] at i1; exact i1
theorem q_sh_b {t : Bool} {s : Nat} (hs : s < 31) : (bI t) <<< (iI (s : Int) &&& 31) = iI (((if t then 2 ^ s else 0 : Nat)) : Int) := by
  cases t with
  | true => exact q_shl1 hs
  | false =>
    have e1 : bI false = nI 0 := rfl
    rw [e1, iI_nat, iI_nat, pk_shlN _ s (sh_k s (by omega)) (by omega), Nat.zero_mul]; rfl
theorem lp_hours9 (N : Nat) {n h g m : Nat} (hn : n ≤ 12) (hh : h < 2 ^ n) (hg : g < 2 ^ n) (hm : 1 ≤ m ∧ m ≤ 6) (kk : Int32 → Option Int32) :
    ∀ (d r fuel : Nat), r + d = n → d < fuel → f_X9_hours_35 N kk (iI h) (iI g) (iI m) (iI n) fuel (iI ((rst h m r : Nat) : Int)) (iI ((rst g m r : Nat) : Int)) (iI r) = (if rst h m n &&& rst g m n = 0 then some (iI m) else kk (iI ((m + 1 : Nat) : Int))) := by
  have hp := p2_12 hn
  intro d
  induction d with
  | zero =>
    intro r fuel h1 h2
    obtain ⟨k_, rfl⟩ := su_fuel h2
    have e : r = n := by omega
    subst e
    have hl1 := rst_lt h hm r
    have hle : rst h m r &&& rst g m r ≤ rst h m r := Nat.and_le_left
    show b_X9_hours_35 N kk (iI h) (iI g) (iI m) (iI r) _ _ _ (iI (r : Int)) = _
    unfold b_X9_hours_35
    rw [if_pos ((iI_le (by omega)).mpr (Int.le_refl _)), iI_and, iI_succ]
    by_cases c : rst h m r &&& rst g m r = 0
    · rw [if_pos (by rw [c]; rfl), if_pos c]
    · rw [if_neg (fun q => c (by rw [k_eqR (by omega)] at q; omega)), if_neg c]
  | succ d ih =>
    intro r fuel h1 h2
    obtain ⟨k_, rfl⟩ := su_fuel (Nat.lt_of_le_of_lt (Nat.zero_le _) h2)
    have i1 := ih (r + 1) k_ (by omega) (by omega)
    have hrm : r % m < m := Nat.mod_lt _ (by omega)
    have eg : ∀ x : Option Int32, gd (iI (m : Int)) x = x := fun x => by
      unfold gd
      rw [if_neg (fun q => absurd ((k_eqR (by omega)).mp q) (by omega))]
    show b_X9_hours_35 N kk (iI h) (iI g) (iI m) (iI n) (f_X9_hours_35 N kk (iI h) (iI g) (iI m) (iI n) k_) _ _ (iI (r : Int)) = _
    unfold b_X9_hours_35 nm
    rw [if_neg (fun q => absurd ((iI_le (by omega)).mp q) (by omega)), eg]
    dsimp only
    rw [eg, q_bit (by omega) (by omega), q_bit (by omega) (by omega), iI_remN (by omega) (by omega) (by omega), q_sh_b (by omega), q_sh_b (by omega), iI_or, iI_or, iI_succ]
    exact i1
def hoursR (p : Nat → Bool) : Nat → Nat → Int32
  | 0, _ => -4
  | d + 1, m => bif p m then iI m else hoursR p d (m + 1)
theorem lp_h8 (N : Nat) (hN : 5000 ≤ N) {n h g : Nat} (hn : n ≤ 12) (hh : h < 2 ^ n) (hg : g < 2 ^ n) :
    ∀ (d m fuel : Nat), m + d = 7 → 1 ≤ m → d < fuel → f_X8_hours_26 N (iI h) (iI g) (iI n) fuel (iI m) = some (hoursR (fun m => decide (rst h m n &&& rst g m n = 0)) d m) := by
  intro d
  induction d with
  | zero =>
    intro m fuel h1 h0 h2
    obtain ⟨k_, rfl⟩ := su_fuel h2
    have e : m = 7 := by omega
    subst e
    show b_X8_hours_26 N (iI h) (iI g) (iI n) _ (iI ((7 : Nat) : Int)) = _
    unfold b_X8_hours_26 hoursR
    rw [if_pos ((k_ltL (by omega)).mpr (by omega))]
  | succ d ih =>
    intro m fuel h1 h0 h2
    obtain ⟨k_, rfl⟩ := su_fuel (Nat.lt_of_le_of_lt (Nat.zero_le _) h2)
    have i1 := ih (m + 1) k_ (by omega) (by omega) (by omega)
    have hl1 := rst_lt h (m := m) (by omega) n
    have hle : rst h m n &&& rst g m n ≤ rst h m n := Nat.and_le_left
    have q1 : f_X8_rests N (iI h) (iI m) (iI n) = some (iI ((rst h m n : Nat) : Int)) := lp_rests8 N hn hh (by omega) n 0 N (by omega) (by omega)
    have q2 : f_X8_rests N (iI g) (iI m) (iI n) = some (iI ((rst g m n : Nat) : Int)) := lp_rests8 N hn hg (by omega) n 0 N (by omega) (by omega)
    show b_X8_hours_26 N (iI h) (iI g) (iI n) (f_X8_hours_26 N (iI h) (iI g) (iI n) k_) (iI (m : Int)) = _
    unfold b_X8_hours_26 hoursR
    rw [if_neg (fun q => absurd ((k_ltL (by omega)).mp q) (by omega)), b1_p q1, b1_p q2, iI_and, iI_succ, i1]
    by_cases c : rst h m n &&& rst g m n = 0
    · rw [if_pos (by rw [c]; rfl), decide_eq_true c]; rfl
    · rw [if_neg (fun q => c (by rw [k_eqR (by omega)] at q; omega)), decide_eq_false c]; rfl
theorem lp_h9 (N : Nat) (hN : 5000 ≤ N) {n h g : Nat} (hn : n ≤ 12) (hh : h < 2 ^ n) (hg : g < 2 ^ n) :
    ∀ (d m fuel : Nat), m + d = 7 → 1 ≤ m → d < fuel → f_X9_hours_20 N (iI h) (iI g) (iI n) fuel (iI m) = some (hoursR (fun m => decide (rst h m n &&& rst g m n = 0)) d m) := by
  intro d
  induction d with
  | zero =>
    intro m fuel h1 h0 h2
    obtain ⟨k_, rfl⟩ := su_fuel h2
    have e : m = 7 := by omega
    subst e
    show b_X9_hours_20 N (iI h) (iI g) (iI n) _ (iI ((7 : Nat) : Int)) = _
    unfold b_X9_hours_20 hoursR
    rw [if_pos ((k_ltL (by omega)).mpr (by omega))]
  | succ d ih =>
    intro m fuel h1 h0 h2
    obtain ⟨k_, rfl⟩ := su_fuel (Nat.lt_of_le_of_lt (Nat.zero_le _) h2)
    have i1 := ih (m + 1) k_ (by omega) (by omega) (by omega)
    have q1 := lp_hours9 N hn hh hg (m := m) (by omega) (f_X9_hours_20 N (iI h) (iI g) (iI n) k_) n 0 N (by omega) (by omega)
    show b_X9_hours_20 N (iI h) (iI g) (iI n) (f_X9_hours_20 N (iI h) (iI g) (iI n) k_) (iI (m : Int)) = _
    unfold b_X9_hours_20 hoursR
    rw [if_neg (fun q => absurd ((k_ltL (by omega)).mp q) (by omega))]
    refine q1.trans ?_
    rw [i1]
    by_cases c : rst h m n &&& rst g m n = 0
    · rw [if_pos c, decide_eq_true c]; rfl
    · rw [if_neg c, decide_eq_false c]; rfl
theorem P_hours : PS_hours InvA := by
  intro N hN bsz bgp ber bxs bus bys bme pgc prc pgr pla tle tga trr tat tfa tby tnu rlc rla rmo ksz kmb kwa kra kla lo hi glo ghi sla ssz sit mrm mer mtd mat mwr mkn mmb mwa mra mbl mbh dxs dus dys dgp dtp dme dle dlt dkl dln dsz dit dmv hI p0 p1
  have hI' := hI
  obtain ⟨n, E, RX, RU, RY, G, ⟨⟨hn, hE, rfl, rfl, rfl, rfl, rfl⟩, hr, hm⟩, hP, hRR⟩ := hI'
  obtain ⟨z0, r0, rfl⟩ := iI_of p0
  obtain ⟨z1, r1, rfl⟩ := iI_of p1
  have e8 := q_isHeap0 N r0 hn
  have e9 := q_isHeap9 N r0 hn
  have f8 := q_isHeap0 N r1 hn
  have f9 := q_isHeap9 N r1 hn
  by_cases c0 : 0 ≤ z0 ∧ z0 ≤ ((2 ^ n - 1 : Nat) : Int)
  · rw [two_t c0, bI_t] at e8 e9
    by_cases c1 : 0 ≤ z1 ∧ z1 ≤ ((2 ^ n - 1 : Nat) : Int)
    · rw [two_t c1, bI_t] at f8 f9
      obtain ⟨h, rfl, hh⟩ := heap_in c0
      obtain ⟨g, rfl, hg⟩ := heap_in c1
      refine ⟨hoursR (fun m => decide (rst h m n &&& rst g m n = 0)) 6 1, ?_, ?_, hI⟩
      · unfold f_X8_hours
        rw [b1_p e8, if_neg (by decide), b1_p f8, if_neg (by decide)]
        exact lp_h8 N hN hn hh hg 6 1 N rfl (by omega) (by omega)
      · unfold f_X9_hours
        rw [b1_p e9, if_neg (by decide), b1_p f9, if_neg (by decide)]
        exact lp_h9 N hN hn hh hg 6 1 N rfl (by omega) (by omega)
    · rw [two_f c1, bI_f] at f8 f9
      refine ⟨-1, ?_, ?_, hI⟩
      · unfold f_X8_hours; rw [b1_p e8, if_neg (by decide), b1_p f8, if_pos rfl]
      · unfold f_X9_hours; rw [b1_p e9, if_neg (by decide), b1_p f9, if_pos rfl]
  · rw [two_f c0, bI_f] at e8 e9
    refine ⟨-1, ?_, ?_, hI⟩
    · unfold f_X8_hours; rw [b1_p e8, if_pos rfl]
    · unfold f_X9_hours; rw [b1_p e9, if_pos rfl]
