/-- the rows as both sides hold them: what the loops over laws need -/
def RowsM (n E : Nat) (RX RU RY : Nat → Int) (G : Nat → Bool) (dxs dus dys dgp : Nat → Int32) : Prop := n ≤ 12 ∧ E ≤ 20 ∧ ∀ r, r < n → (dxs r = iI (RX r) ∧ dus r = iI (RU r) ∧ dys r = iI (RY r) ∧ dgp r = bI (G r)) ∧ (-99 ≤ RX r ∧ RX r ≤ 99) ∧ (-99 ≤ RU r ∧ RU r ≤ 99) ∧ (-99 ≤ RY r ∧ RY r ≤ 99)
/-- whether a heap lets a law -/
def letB (RX RU RY : Nat → Int) (G : Nat → Bool) (E n h law : Nat) : Bool := decide (bts (mt RX RU RY G E law) n &&& h = h)
theorem letB_iff {RX RU RY : Nat → Int} {G : Nat → Bool} {E n h law : Nat} (hh : h < 2 ^ n) : letB RX RU RY G E n h law = true ↔ ∀ r, r < n → h.testBit r = true → mt RX RU RY G E law r = true := by
  unfold letB
  rw [decide_eq_true_iff, and_sub hh]
  constructor
  · intro H r hr hb
    have := H r hr hb
    rw [bts_tb, decide_eq_true hr] at this
    exact this
  · intro H r hr hb
    rw [bts_tb, decide_eq_true hr]
    exact H r hr hb
theorem lp_isLet (N : Nat) {n E h law : Nat} {RX RU RY : Nat → Int} {G : Nat → Bool} {dxs dus dys dgp : Nat → Int32} (hR : RowsM n E RX RU RY G dxs dus dys dgp) (hl : law < 289) (hh : h < 2 ^ n) :
    ∀ (d r fuel : Nat) (t : Bool), r + d = n → d < fuel → (t = true ↔ ∀ q, q < r → h.testBit q = true → mt RX RU RY G E law q = true) → f_X9_isLet_5 N (iI h) (iI law) (iI n) (iI E) dxs dus dys dgp fuel (bI t) (iI r) = some (bI (letB RX RU RY G E n h law)) := by
  have h12 := p2_12 hR.1
  have hno : ∀ (r : Nat), r ≤ n → ∀ t : Bool, t = false → (t = true ↔ ∀ q, q < r → h.testBit q = true → mt RX RU RY G E law q = true) → letB RX RU RY G E n h law = false := by
    intro r hr t ht hi
    cases hb : letB RX RU RY G E n h law with
    | false => rfl
    | true =>
      have := hi.mpr (fun q hq => (letB_iff hh).mp hb q (by omega))
      rw [ht] at this
      exact absurd this (by decide)
  intro d
  induction d with
  | zero =>
    intro r fuel t h1 h2 hi
    obtain ⟨k_, rfl⟩ := su_fuel h2
    have e : r = n := by omega
    subst e
    have hN12 := hR.1
    show b_X9_isLet_5 N (iI h) (iI law) (iI r) (iI E) dxs dus dys dgp _ (bI t) (iI (r : Int)) = _
    unfold b_X9_isLet_5
    rw [if_pos ((iI_le (by omega)).mpr (Int.le_refl _)), gz_b]
    cases t with
    | true => rw [(letB_iff hh).mpr (hi.mp rfl)]
    | false => rw [hno r (Nat.le_refl _) false rfl hi]
  | succ d ih =>
    intro r fuel t h1 h2 hi
    obtain ⟨k_, rfl⟩ := su_fuel (Nat.lt_of_le_of_lt (Nat.zero_le _) h2)
    have hrn : r < n := by omega
    have hN12 := hR.1
    show b_X9_isLet_5 N (iI h) (iI law) (iI n) (iI E) dxs dus dys dgp (f_X9_isLet_5 N (iI h) (iI law) (iI n) (iI E) dxs dus dys dgp k_) (bI t) (iI r) = _
    unfold b_X9_isLet_5
    rw [if_neg (fun c => absurd ((iI_le (by omega)).mp c) (by omega))]
    cases t with
    | false =>
      rw [bI_f, if_pos rfl, hno r (by omega) false rfl hi]
      rfl
    | true =>
      rw [bI_t, if_neg (by decide), q_bit (by omega) (by omega), ifb]
      have hi' := hi.mp rfl
      cases hb : h.testBit r with
      | false =>
        show f_X9_isLet_5 N (iI h) (iI law) (iI n) (iI E) dxs dus dys dgp k_ (bI true) (iI (r : Int) + 1) = _
        rw [iI_succ]
        refine ih (r + 1) k_ true (by omega) (by omega) ⟨fun _ q hq hqb => ?_, fun _ => rfl⟩
        by_cases e : q = r
        · subst e; rw [hb] at hqb; exact absurd hqb (by decide)
        · exact hi' q (by omega) hqb
      | true =>
        show b1 _ _ = _
        rw [b1_p (q_does9 N hR.1 hR.2.1 hl hrn (hR.2.2 r hrn)), ifb]
        cases hm : mt RX RU RY G E law r with
        | true =>
          show f_X9_isLet_5 N (iI h) (iI law) (iI n) (iI E) dxs dus dys dgp k_ (bI true) (iI (r : Int) + 1) = _
          rw [iI_succ]
          refine ih (r + 1) k_ true (by omega) (by omega) ⟨fun _ q hq hqb => ?_, fun _ => rfl⟩
          by_cases e : q = r
          · subst e; exact hm
          · exact hi' q (by omega) hqb
        | false =>
          show f_X9_isLet_5 N (iI h) (iI law) (iI n) (iI E) dxs dus dys dgp k_ (bI false) (iI (r : Int) + 1) = _
          rw [iI_succ]
          refine ih (r + 1) k_ false (by omega) (by omega) ⟨fun q => absurd q (by decide), fun H => ?_⟩
          have := H r (by omega) hb
          rw [hm] at this
          exact absurd this (by decide)
theorem q_isLet9 (N : Nat) (hN : 5000 ≤ N) {n E h law : Nat} {RX RU RY : Nat → Int} {G : Nat → Bool} {dxs dus dys dgp : Nat → Int32} (hR : RowsM n E RX RU RY G dxs dus dys dgp) (hl : law < 289) (hh : h < 2 ^ n) : f_X9_isLet N (iI h) (iI law) (iI n) (iI E) dxs dus dys dgp = some (bI (letB RX RU RY G E n h law)) := by
  unfold f_X9_isLet
  have hN12 := hR.1
  exact lp_isLet N hR hl hh n 0 N true (by omega) (by omega) ⟨fun _ q hq => by omega, fun _ => rfl⟩
theorem q_letB0 (N : Nat) {n E h law : Nat} {RX RU RY : Nat → Int} {G : Nat → Bool} {f : Nat → Int32} (hn : n ≤ 12) (hl : law < 289) (hh : h < 2 ^ n) (hm : ∀ law, law < 289 → f law = iI ((bts (mt RX RU RY G E law) n : Nat) : Int)) : f_X0_letsLaw N (iI h) (iI law) f = some (bI (letB RX RU RY G E n h law)) := by
  have h12 := p2_12 hn
  exact q_letsLaw0 N hl (bts_small _ hn) (by omega) (hm law hl)
/-- lets, as both loops do it -/
def letsR (p : Nat → Bool) (i : Int) : Nat → Nat → Nat → Int32
  | 0, _, c => if 0 ≤ i then -4 else iI c
  | d + 1, law, c => bif p law then (if (c : Int) = i then iI law else letsR p i d (law + 1) (c + 1)) else letsR p i d (law + 1) c
theorem lp_lets9 (N : Nat) (hN : 5000 ≤ N) {n E h : Nat} {RX RU RY : Nat → Int} {G : Nat → Bool} {dxs dus dys dgp : Nat → Int32} (hR : RowsM n E RX RU RY G dxs dus dys dgp) (hh : h < 2 ^ n) {i : Int} (hi : -2147483648 ≤ i ∧ i < 2147483648) :
    ∀ (d law c fuel : Nat), law + d = 289 → d < fuel → c ≤ law → f_X9_lets_20 N (iI h) (iI i) (iI n) (iI E) dxs dus dys dgp fuel (iI c) (iI law) = some (letsR (letB RX RU RY G E n h) i d law c) := by
  intro d
  induction d with
  | zero =>
    intro law c fuel h1 h2 h3
    obtain ⟨k_, rfl⟩ := su_fuel h2
    have e : law = 289 := by omega
    subst e
    show b_X9_lets_20 N (iI h) (iI i) (iI n) (iI E) dxs dus dys dgp _ (iI (c : Int)) (iI ((289 : Nat) : Int)) = _
    unfold b_X9_lets_20 letsR
    rw [if_pos ((k_leL (by omega)).mpr (by omega))]
    by_cases c0 : 0 ≤ i
    · rw [if_pos ((k_leL (by omega)).mpr c0), if_pos c0]
    · rw [if_neg (fun q => c0 ((k_leL (by omega)).mp q)), if_neg c0]
  | succ d ih =>
    intro law c fuel h1 h2 h3
    obtain ⟨k_, rfl⟩ := su_fuel (Nat.lt_of_le_of_lt (Nat.zero_le _) h2)
    have hl : law < 289 := by omega
    show b_X9_lets_20 N (iI h) (iI i) (iI n) (iI E) dxs dus dys dgp (f_X9_lets_20 N (iI h) (iI i) (iI n) (iI E) dxs dus dys dgp k_) (iI c) (iI law) = _
    unfold b_X9_lets_20 f_X9_lets_50 letsR
    rw [if_neg (fun q => absurd ((k_leL (by omega)).mp q) (by omega)), b1_p (q_isLet9 N hN hR hl hh), ifb]
    cases hb : letB RX RU RY G E n h law with
    | false =>
      simp only [cond_false]
      rw [bI_f, if_pos rfl, iI_succ, k_addR]
      have e : ((c : Int) + ((0 : Nat) : Int)) = (c : Int) := by omega
      rw [e]
      exact ih (law + 1) c k_ (by omega) (by omega) (by omega)
    | true =>
      simp only [cond_true]
      by_cases c1 : (c : Int) = i
      · rw [if_pos ((iI_eq (by omega)).mpr c1), if_pos c1]
      · rw [if_neg (fun q => c1 ((iI_eq (by omega)).mp q)), if_neg c1]
        rw [bI_t, if_neg (by decide), iI_succ, iI_succ]
        exact ih (law + 1) (c + 1) k_ (by omega) (by omega) (by omega)
theorem lp_lawOf0 (N : Nat) {n E h : Nat} {RX RU RY : Nat → Int} {G : Nat → Bool} {f : Nat → Int32} (hn : n ≤ 12) (hh : h < 2 ^ n) (hm : ∀ law, law < 289 → f law = iI ((bts (mt RX RU RY G E law) n : Nat) : Int)) {i : Int} (hi : 0 ≤ i ∧ i < 2147483648) :
    ∀ (d law c fuel : Nat), law + d = 289 → d < fuel → c ≤ law → f_X0_lawOf_5 N (iI h) (iI i) f fuel (iI c) (iI law) = some (letsR (letB RX RU RY G E n h) i d law c) := by
  intro d
  induction d with
  | zero =>
    intro law c fuel h1 h2 h3
    obtain ⟨k_, rfl⟩ := su_fuel h2
    have e : law = 289 := by omega
    subst e
    show b_X0_lawOf_5 N (iI h) (iI i) f _ (iI (c : Int)) (iI ((289 : Nat) : Int)) = _
    unfold b_X0_lawOf_5 letsR
    rw [if_pos ((k_leL (by omega)).mpr (by omega)), if_pos hi.1]
  | succ d ih =>
    intro law c fuel h1 h2 h3
    obtain ⟨k_, rfl⟩ := su_fuel (Nat.lt_of_le_of_lt (Nat.zero_le _) h2)
    have hl : law < 289 := by omega
    show b_X0_lawOf_5 N (iI h) (iI i) f (f_X0_lawOf_5 N (iI h) (iI i) f k_) (iI c) (iI law) = _
    unfold b_X0_lawOf_5 letsR
    rw [if_neg (fun q => absurd ((k_leL (by omega)).mp q) (by omega)), b1_p (q_letB0 N hn hl hh hm), ifb]
    cases hb : letB RX RU RY G E n h law with
    | false =>
      show f_X0_lawOf_5 N (iI h) (iI i) f k_ (iI (c : Int)) (iI (law : Int) + 1) = _
      rw [iI_succ]
      exact ih (law + 1) c k_ (by omega) (by omega) (by omega)
    | true =>
      show (if iI (c : Int) = iI i then some (iI (law : Int)) else f_X0_lawOf_5 N (iI h) (iI i) f k_ (iI (c : Int) + 1) (iI (law : Int) + 1)) = some (if (c : Int) = i then iI (law : Int) else _)
      by_cases c1 : (c : Int) = i
      · rw [if_pos ((iI_eq (by omega)).mpr c1), if_pos c1]
      · rw [if_neg (fun q => c1 ((iI_eq (by omega)).mp q)), if_neg c1, iI_succ, iI_succ]
        exact ih (law + 1) (c + 1) k_ (by omega) (by omega) (by omega)
theorem lp_lawCount0 (N : Nat) {n E h : Nat} {RX RU RY : Nat → Int} {G : Nat → Bool} {f : Nat → Int32} (hn : n ≤ 12) (hh : h < 2 ^ n) (hm : ∀ law, law < 289 → f law = iI ((bts (mt RX RU RY G E law) n : Nat) : Int)) :
    ∀ (d law c fuel : Nat), law + d = 289 → d < fuel → c ≤ law → f_X0_lawCount_4 N (iI h) f fuel (iI c) (iI law) = some (letsR (letB RX RU RY G E n h) (-1) d law c) := by
  intro d
  induction d with
  | zero =>
    intro law c fuel h1 h2 h3
    obtain ⟨k_, rfl⟩ := su_fuel h2
    have e : law = 289 := by omega
    subst e
    show b_X0_lawCount_4 N (iI h) f _ (iI (c : Int)) (iI ((289 : Nat) : Int)) = _
    unfold b_X0_lawCount_4 letsR
    rw [if_pos ((k_leL (by omega)).mpr (by omega)), if_neg (by decide)]
  | succ d ih =>
    intro law c fuel h1 h2 h3
    obtain ⟨k_, rfl⟩ := su_fuel (Nat.lt_of_le_of_lt (Nat.zero_le _) h2)
    have hl : law < 289 := by omega
    show b_X0_lawCount_4 N (iI h) f (f_X0_lawCount_4 N (iI h) f k_) (iI c) (iI law) = _
    unfold b_X0_lawCount_4 letsR
    rw [if_neg (fun q => absurd ((k_leL (by omega)).mp q) (by omega)), b1_p (q_letB0 N hn hl hh hm), ifb]
    cases hb : letB RX RU RY G E n h law with
    | false =>
      show f_X0_lawCount_4 N (iI h) f k_ (iI (c : Int)) (iI (law : Int) + 1) = _
      rw [iI_succ]
      exact ih (law + 1) c k_ (by omega) (by omega) (by omega)
    | true =>
      show f_X0_lawCount_4 N (iI h) f k_ (iI (c : Int) + 1) (iI (law : Int) + 1) = some (if (c : Int) = -1 then iI (law : Int) else _)
      rw [if_neg (by omega), iI_succ, iI_succ]
      exact ih (law + 1) (c + 1) k_ (by omega) (by omega) (by omega)
theorem heap_in {z : Int} {n : Nat} (h : 0 ≤ z ∧ z ≤ ((2 ^ n - 1 : Nat) : Int)) : ∃ h_ : Nat, z = (h_ : Int) ∧ h_ < 2 ^ n := by
  obtain ⟨k_, rfl⟩ := Int.eq_ofNat_of_zero_le h.1
  have := p2_pos n
  exact ⟨k_, rfl, by omega⟩
theorem two_t {z a b : Int} (h : a ≤ z ∧ z ≤ b) : (decide (a ≤ z) && decide (z ≤ b)) = true := by rw [decide_eq_true h.1, decide_eq_true h.2]; rfl
theorem two_f {z a b : Int} (h : ¬ (a ≤ z ∧ z ≤ b)) : (decide (a ≤ z) && decide (z ≤ b)) = false := by
  by_cases c : a ≤ z
  · rw [decide_eq_false (p := z ≤ b) (fun q => h ⟨c, q⟩)]; simp
  · rw [decide_eq_false c]; rfl
theorem P_lets : PS_lets InvA := by
  intro N hN bsz bgp ber bxs bus bys bme pgc prc pgr pla tle tga trr tat tfa tby tnu rlc rla rmo ksz kmb kwa kra kla lo hi glo ghi sla ssz sit mrm mer mtd mat mwr mkn mmb mwa mra mbl mbh dxs dus dys dgp dtp dme dle dlt dkl dln dsz dit dmv hI p0 p1
  have hI' := hI
  obtain ⟨n, E, RX, RU, RY, G, ⟨⟨hn, hE, rfl, rfl, rfl, rfl, rfl⟩, hr, hm⟩, hP, hR⟩ := hI'
  obtain ⟨z0, r0, rfl⟩ := iI_of p0
  obtain ⟨z1, r1, rfl⟩ := iI_of p1
  have hRM : RowsM n E RX RU RY G dxs dus dys dgp := ⟨hn, hE, fun r h => (hr r h).2⟩
  have e8 := q_isHeap0 N r0 hn
  have e9 := q_isHeap9 N r0 hn
  by_cases c0 : 0 ≤ z0 ∧ z0 ≤ ((2 ^ n - 1 : Nat) : Int)
  · rw [two_t c0, bI_t] at e8 e9
    obtain ⟨h, rfl, hh⟩ := heap_in c0
    by_cases c1 : -1 ≤ z1
    · refine ⟨letsR (letB RX RU RY G E n h) z1 289 0 0, ?_, ?_, hI⟩
      · unfold f_X8_lets
        rw [b1_p e8, if_neg (by decide), if_pos ((k_nlL (by omega)).mpr (by omega))]
        by_cases c2 : z1 = -1
        · subst c2
          rw [if_pos (by decide)]
          unfold f_X0_lawCount
          exact b1_p (lp_lawCount0 N hn hh hm 289 0 0 N rfl (by omega) (Nat.le_refl _)) _
        · rw [if_neg (fun q => c2 ((k_neR (by omega)).mp q))]
          unfold f_X0_lawOf
          exact b1_p (lp_lawOf0 N hn hh hm (i := z1) (by omega) 289 0 0 N rfl (by omega) (Nat.le_refl _)) _
      · unfold f_X9_lets
        rw [b1_p e9, if_neg (by decide), if_pos ((k_nlL (by omega)).mpr (by omega))]
        exact lp_lets9 N hN hRM hh r1 289 0 0 N rfl (by omega) (Nat.le_refl _)
    · refine ⟨-1, ?_, ?_, hI⟩
      · unfold f_X8_lets
        rw [b1_p e8, if_neg (by decide), if_neg (fun q => c1 ((k_nlL (by omega)).mp q))]
      · unfold f_X9_lets
        rw [b1_p e9, if_neg (by decide), if_neg (fun q => c1 ((k_nlL (by omega)).mp q))]
  · rw [two_f c0, bI_f] at e8 e9
    refine ⟨-1, ?_, ?_, hI⟩
    · unfold f_X8_lets
      rw [b1_p e8, if_pos rfl]
    · unfold f_X9_lets
      rw [b1_p e9, if_pos rfl]
