theorem anyF_f {p : Nat → Bool} : ∀ {d l : Nat}, anyF p d l = false ↔ ∀ r, l ≤ r → r < l + d → p r = false
  | 0, l => ⟨fun _ r h1 h2 => by omega, fun _ => rfl⟩
  | d + 1, l => by
    have ih := anyF_f (p := p) (d := d) (l := l + 1)
    show (bif p l then true else anyF p d (l + 1)) = false ↔ _
    cases hp : p l with
    | true =>
      constructor
      · intro h
        have h' : true = false := h
        exact absurd h' (by decide)
      · intro h
        have := h l (by omega) (by omega)
        rw [hp] at this
        exact absurd this (by decide)
    | false =>
      simp only [cond_false]
      rw [ih]
      constructor
      · intro h r h1 h2
        by_cases c : r = l
        · rw [c]; exact hp
        · exact h r (by omega) (by omega)
      · intro h r h1 h2
        exact h r (by omega) (by omega)
theorem lp_lays (N : Nat) (hN : 5000 ≤ N) {n E h : Nat} {RX RU RY : Nat → Int} {G : Nat → Bool} {dxs dus dys dgp : Nat → Int32} (hR : RowsM n E RX RU RY G dxs dus dys dgp) (hh : h < 2 ^ n) :
    ∀ (d l fuel c : Nat) (D : Nat → Int32), l + d = 289 → d < fuel → c ≤ l → (c = 0 ↔ ∀ r, r < l → letB RX RU RY G E n h r = false) → (∀ r, r < l → D r = bI (letB RX RU RY G E n h r)) → ∃ (c' : Nat) (D' : Nat → Int32), f_X9_laysLet_4 N (iI h) (iI n) (iI E) dxs dus dys dgp fuel (iI c) (iI l) D = some (iI c', D') ∧ c' ≤ 289 ∧ (c' = 0 ↔ ∀ r, r < 289 → letB RX RU RY G E n h r = false) ∧ ∀ r, r < 289 → D' r = bI (letB RX RU RY G E n h r) := by
  intro d
  induction d with
  | zero =>
    intro l fuel c D h1 h2 h3 h4 h5
    obtain ⟨k_, rfl⟩ := su_fuel h2
    have e : l = 289 := by omega
    subst e
    refine ⟨c, D, ?_, h3, h4, h5⟩
    show b_X9_laysLet_4 N (iI h) (iI n) (iI E) dxs dus dys dgp _ (iI c) (iI ((289 : Nat) : Int)) D = _
    unfold b_X9_laysLet_4
    rw [if_pos ((k_leL (by omega)).mpr (by omega))]
  | succ d ih =>
    intro l fuel c D h1 h2 h3 h4 h5
    obtain ⟨k_, rfl⟩ := su_fuel (Nat.lt_of_le_of_lt (Nat.zero_le _) h2)
    have hl : l < 289 := by omega
    have hD : ∀ r, r < l + 1 → upd D l (bI (letB RX RU RY G E n h l)) r = bI (letB RX RU RY G E n h r) := fun r hr => by
      by_cases e : r = l
      · subst e; rw [upd_s]
      · rw [upd_n _ e]; exact h5 r (by omega)
    have hk : b_X9_laysLet_4 N (iI h) (iI n) (iI E) dxs dus dys dgp (f_X9_laysLet_4 N (iI h) (iI n) (iI E) dxs dus dys dgp k_) (iI c) (iI l) D = f_X9_laysLet_4 N (iI h) (iI n) (iI E) dxs dus dys dgp k_ (iI ((c + (bif letB RX RU RY G E n h l then 1 else 0) : Nat) : Int)) (iI ((l + 1 : Nat) : Int)) (upd D l (bI (letB RX RU RY G E n h l))) := by
      unfold b_X9_laysLet_4
      rw [if_neg (fun q => absurd ((k_leL (by omega)).mp q) (by omega)), b1_p (q_isLet9 N hN hR hl hh), gi_I (by omega) (by omega) (by omega), gi_I (by omega) (by omega) (by omega), iI_clampN (by omega), nar_b, upd_s, ifb, iI_succ]
      cases letB RX RU RY G E n h l with
      | true => simp only [cond_true]; rw [iI_succ]
      | false =>
        simp only [cond_false]
        rw [k_addR, iI_succ]; rfl
    obtain ⟨c', D', e1, e2, e3, e4⟩ := ih (l + 1) k_ (c + (bif letB RX RU RY G E n h l then 1 else 0)) (upd D l (bI (letB RX RU RY G E n h l))) (by omega) (by omega) (by
      cases letB RX RU RY G E n h l with
      | true => simp only [cond_true]; omega
      | false => simp only [cond_false]; omega) (by
      cases hb : letB RX RU RY G E n h l with
      | true =>
        simp only [cond_true]
        constructor
        · intro q; omega
        · intro q
          have := q l (by omega)
          rw [hb] at this
          exact absurd this (by decide)
      | false =>
        simp only [cond_false]
        constructor
        · intro q r hr
          by_cases e : r = l
          · rw [e]; exact hb
          · exact h4.mp (by omega) r (by omega)
        · intro q
          have := h4.mpr (fun r hr => q r (by omega))
          omega) hD
    exact ⟨c', D', hk.trans e1, e2, e3, e4⟩
theorem q_lays9 (N : Nat) (hN : 5000 ≤ N) {n E h : Nat} {RX RU RY : Nat → Int} {G : Nat → Bool} {dxs dus dys dgp : Nat → Int32} (hR : RowsM n E RX RU RY G dxs dus dys dgp) (hh : h < 2 ^ n) (D : Nat → Int32) : ∃ (c' : Nat) (D' : Nat → Int32), f_X9_laysLet N (iI h) (iI n) (iI E) dxs dus dys dgp D = some (iI c', D') ∧ c' ≤ 289 ∧ (c' = 0 ↔ anyF (letB RX RU RY G E n h) 289 0 = false) ∧ ∀ r, r < 289 → D' r = bI (letB RX RU RY G E n h r) := by
  obtain ⟨c', D', e1, e2, e3, e4⟩ := lp_lays N hN hR hh 289 0 N 0 D rfl (by omega) (Nat.le_refl _) ⟨fun _ r hr => by omega, fun _ => rfl⟩ (fun r hr => by omega)
  refine ⟨c', D', e1, e2, e3.trans ?_, e4⟩
  rw [anyF_f]
  exact ⟨fun q r _ hr => q r (by omega), fun q r hr => q r (by omega) (by omega)⟩
theorem lp_worst22 (N : Nat) {p : Nat → Bool} {E : Nat} {X U y : Int} {D : Nat → Int32} (hX : -99 ≤ X ∧ X ≤ 99) (hU : -9 ≤ U ∧ U ≤ 9) (hE : E ≤ 20) (hy : -260 ≤ y ∧ y ≤ 260) (hD : ∀ r, r < 289 → D r = bI (p r)) (k8 : Int32 → Int32 → Option Int32) (hd a : Int32) :
    ∀ (d l fuel : Nat), l + d = 289 → d < fuel → f_X9_worst_22 N k8 hd (iI X) (iI U) a (iI y) (iI E) D fuel (iI (sumF (fun l => bif p l then fitI X U E y l else 0) l)) (iI l) = (if iI (cntY p X U E y) ≤ a then k8 a (iI y + (1 : Int32)) else k8 (iI (cntY p X U E y)) (iI y + (1 : Int32))) := by
  intro d
  induction d with
  | zero =>
    intro l fuel h1 h2
    obtain ⟨k_, rfl⟩ := su_fuel h2
    have e : l = 289 := by omega
    subst e
    show b_X9_worst_22 N k8 hd (iI X) (iI U) a (iI y) (iI E) D _ _ (iI ((289 : Nat) : Int)) = _
    unfold b_X9_worst_22 cntY
    rw [if_pos ((k_leL (by omega)).mpr (by omega))]
  | succ d ih =>
    intro l fuel h1 h2
    obtain ⟨k_, rfl⟩ := su_fuel (Nat.lt_of_le_of_lt (Nat.zero_le _) h2)
    have hl : l < 289 := by omega
    have i1 := ih (l + 1) k_ (by omega) (by omega)
    have es : sumF (fun l => bif p l then fitI X U E y l else 0) (l + 1) = sumF (fun l => bif p l then fitI X U E y l else 0) l + (bif p l then fitI X U E y l else 0) := rfl
    rw [es] at i1
    show b_X9_worst_22 N k8 hd (iI X) (iI U) a (iI y) (iI E) D (f_X9_worst_22 N k8 hd (iI X) (iI U) a (iI y) (iI E) D k_) _ (iI l) = _
    unfold b_X9_worst_22
    rw [if_neg (fun q => absurd ((k_leL (by omega)).mp q) (by omega)), gi_I (by omega) (by omega) (by omega), iI_clampN (by omega), hD l hl, ifb, b1_p (q_fits9 N hl hX (by omega) (by omega) hE), ifb, iI_succ, iI_p1, k_addR]
    cases hp : p l with
    | false =>
      rw [hp] at i1
      exact i1
    | true =>
      rw [hp] at i1
      simp only [cond_true] at i1 ⊢
      unfold fitI at i1
      cases hf : fit l X U y E with
      | true =>
        rw [hf] at i1
        exact i1
      | false =>
        rw [hf] at i1
        exact i1
theorem lp_worst8 (N : Nat) (hN : 5000 ≤ N) {p : Nat → Bool} {E h : Nat} {X U : Int} {D : Nat → Int32} (hh : h < 4096) (hX : -99 ≤ X ∧ X ≤ 99) (hU : -9 ≤ U ∧ U ≤ 9) (hE : E ≤ 20) (hD : ∀ r, r < 289 → D r = bI (p r)) :
    ∀ (d t fuel : Nat) (a : Int), t + d = 521 → d < fuel → (0 ≤ a ∧ a ≤ 289) → f_X9_worst_8 N (iI h) (iI X) (iI U) (iI E) D fuel (iI a) (iI ((t : Int) - 260)) = some (iI (mxF (fun t => cntY p X U E ((t : Int) - 260)) d t a)) := by
  intro d
  induction d with
  | zero =>
    intro t fuel a h1 h2 h3
    obtain ⟨k_, rfl⟩ := su_fuel h2
    show b_X9_worst_8 N (iI h) (iI X) (iI U) (iI E) D _ (iI a) (iI ((t : Int) - 260)) = _
    unfold b_X9_worst_8 mxF
    rw [if_pos ((k_ltL (by omega)).mpr (by omega)), if_pos ((k_leL (by omega)).mpr (by omega))]
  | succ d ih =>
    intro t fuel a h1 h2 h3
    obtain ⟨k_, rfl⟩ := su_fuel (Nat.lt_of_le_of_lt (Nat.zero_le _) h2)
    have hc := cntY_bd p X U E ((t : Int) - 260)
    have hm := ma_cases a (cntY p X U E ((t : Int) - 260))
    have i1 := ih (t + 1) k_ (ma a (cntY p X U E ((t : Int) - 260))) (by omega) (by omega) (by omega)
    have w := lp_worst22 N (y := (t : Int) - 260) hX hU hE (by omega) hD (f_X9_worst_8 N (iI h) (iI X) (iI U) (iI E) D k_) (iI h) (iI a) 289 0 N rfl (by omega)
    have ey : iI ((t : Int) - 260) + (1 : Int32) = iI (((t + 1 : Nat) : Int) - 260) := by rw [iI_p1]; congr 1; omega
    show b_X9_worst_8 N (iI h) (iI X) (iI U) (iI E) D (f_X9_worst_8 N (iI h) (iI X) (iI U) (iI E) D k_) (iI a) (iI ((t : Int) - 260)) = _
    unfold b_X9_worst_8 mxF
    rw [if_neg (fun q => absurd ((k_ltL (by omega)).mp q) (by omega))]
    refine w.trans ?_
    rw [ey, ← i1]
    unfold ma
    by_cases c : a < cntY p X U E ((t : Int) - 260)
    · rw [if_neg (fun q => absurd ((iI_le (by omega)).mp q) (by omega)), if_pos c]
    · rw [if_pos ((iI_le (by omega)).mpr (by omega)), if_neg c]
theorem q_worst9 (N : Nat) (hN : 5000 ≤ N) {p : Nat → Bool} {E h : Nat} {X U : Int} {D : Nat → Int32} (hh : h < 4096) (hX : -99 ≤ X ∧ X ≤ 99) (hU : -9 ≤ U ∧ U ≤ 9) (hE : E ≤ 20) (hD : ∀ r, r < 289 → D r = bI (p r)) : f_X9_worst N (iI h) (iI X) (iI U) (iI E) D = some (iI (mxF (fun t => cntY p X U E ((t : Int) - 236)) 474 0 0)) := by
  rw [wst_eq hX hU hE]
  exact lp_worst8 N hN hh hX hU hE hD 521 0 N 0 rfl (by omega) (by omega)
theorem mxF_in {f : Nat → Int} (h : ∀ t, 0 ≤ f t ∧ f t ≤ 289) : ∀ (d t : Nat) (a : Int), (0 ≤ a ∧ a ≤ 289) → 0 ≤ mxF f d t a ∧ mxF f d t a ≤ 289
  | 0, _, _, ha => ha
  | d + 1, t, a, ha => by
    have h1 := h t
    have h2 := ma_cases a (f t)
    exact mxF_in h d (t + 1) _ (by omega)
def near9 (z : Int) : Bool := decide (-9 ≤ z) && decide (z ≤ 9)
theorem near9_t {z : Int} (h : near9 z = true) : -9 ≤ z ∧ z ≤ 9 := by
  unfold near9 at h
  rw [Bool.and_eq_true] at h
  exact ⟨of_decide_eq_true h.1, of_decide_eq_true h.2⟩
theorem q_near9 (N : Nat) {z : Int} (hz : -2147483648 ≤ z ∧ z < 2147483648) : f_X8_isNear N (iI z) (9 : Int32) = some (bI (near9 z)) := q_near N hz (f_ := 9) (by omega)
theorem q_in9 (N : Nat) {z : Int} (hz : -2147483648 ≤ z ∧ z < 2147483648) : f_X9_in N (iI z).toInt64 (-9 : Int64) (9 : Int64) = some (bI (near9 z)) := q_in N (j_of hz) rfl rfl
theorem P_tries : PS_tries InvA := by
  intro N hN bsz bgp ber bxs bus bys bme pgc prc pgr pla tle tga trr tat tfa tby tnu rlc rla rmo ksz kmb kwa kra kla lo hi glo ghi sla ssz sit mrm mer mtd mat mwr mkn mmb mwa mra mbl mbh dxs dus dys dgp dtp dme dle dlt dkl dln dsz dit dmv hI p0 p1 p2
  have hI' := hI
  obtain ⟨n, E, RX, RU, RY, G, ⟨⟨hn, hE, rfl, rfl, rfl, rfl, rfl⟩, hr, hm⟩, hP, hR⟩ := hI'
  obtain ⟨z0, r0, rfl⟩ := iI_of p0
  obtain ⟨z1, r1, rfl⟩ := iI_of p1
  obtain ⟨z2, r2, rfl⟩ := iI_of p2
  have hRM : RowsM n E RX RU RY G dxs dus dys dgp := ⟨hn, hE, fun r h => (hr r h).2⟩
  have h12 := p2_12 hn
  have e8 := q_isHeap0 N r0 hn
  have e9 := q_isHeap9 N r0 hn
  by_cases c0 : 0 ≤ z0 ∧ z0 ≤ ((2 ^ n - 1 : Nat) : Int)
  case neg =>
    rw [two_f c0, bI_f] at e8 e9
    exact ⟨-1, rlc, rla, rmo, dlt, by unfold f_X8_tries; rw [b1_p e8, if_pos rfl], by unfold f_X9_tries; rw [b1_p e9, if_pos rfl], hI⟩
  rw [two_t c0, bI_t] at e8 e9
  obtain ⟨h, rfl, hh⟩ := heap_in c0
  cases c1 : near z1 with
  | false =>
    exact ⟨-1, rlc, rla, rmo, dlt, by unfold f_X8_tries; rw [b1_p e8, if_neg (by decide), b1_p (q_near99 N r1), c1, bI_f, if_pos rfl], by unfold f_X9_tries; rw [b1_p e9, if_neg (by decide), b1_p (q_small99 N r1), c1, bI_f, if_pos rfl], hI⟩
  | true =>
  cases c2 : near9 z2 with
  | false =>
    exact ⟨-1, rlc, rla, rmo, dlt, by unfold f_X8_tries; rw [b1_p e8, if_neg (by decide), b1_p (q_near99 N r1), c1, bI_t, if_neg (by decide), b1_p (q_near9 N r2), c2, bI_f, if_pos rfl], by unfold f_X9_tries; rw [b1_p e9, if_neg (by decide), b1_p (q_small99 N r1), c1, bI_t, if_neg (by decide), b1_p (q_in9 N r2), c2, bI_f, if_pos rfl], hI⟩
  | true =>
  have hX := near_t c1
  have hU := near9_t c2
  obtain ⟨c', D', w1, w2, w3, w4⟩ := q_lays9 N hN hRM hh dlt
  have hW := q_isWhole0 N hN hn hh hm
  cases hA : anyF (letB RX RU RY G E n h) 289 0 with
  | false =>
    rw [hA] at hW
    have c0' := w3.mpr hA
    subst c0'
    refine ⟨-4, rlc, rla, rmo, D', ?_, ?_, hI⟩
    · unfold f_X8_tries; rw [b1_p e8, if_neg (by decide), b1_p (q_near99 N r1), c1, bI_t, if_neg (by decide), b1_p (q_near9 N r2), c2, bI_t, if_neg (by decide), b1_p hW, bI_f, if_pos rfl]
    · unfold f_X9_tries; rw [b1_p e9, if_neg (by decide), b1_p (q_small99 N r1), c1, bI_t, if_neg (by decide), b1_p (q_in9 N r2), c2, bI_t, if_neg (by decide), b2_p w1, if_pos (show iI ((0 : Nat) : Int) = 0 from rfl)]
  | true =>
    rw [hA] at hW
    have c0' : c' ≠ 0 := fun q => by have := w3.mp q; rw [hA] at this; exact absurd this (by decide)
    obtain ⟨gc_, rla', g', t1, t2⟩ := lp_gather N hn hh hm 289 0 N 0 rla (fun _ => 0) rfl (by omega) ⟨Nat.le_refl _, fun i hi => by omega, fun φ => rfl⟩
    obtain ⟨rmo', t3⟩ := q_law7 N hN t2 hX hU hE rmo
    have t4 := q_worst9 N hN (h := h) (by omega) hX hU hE w4
    have t1' : f_X7_gather N (iI (h : Int)) rla bme = some (iI (gc_ : Int), rla') := t1
    refine ⟨iI (mxF (fun t => cntY (letB RX RU RY G E n h) z1 z2 E ((t : Int) - 236)) 474 0 0), iI (gc_ : Int), rla', rmo', D', ?_, ?_, hI⟩
    rotate_left
    · unfold f_X9_tries; rw [b1_p e9, if_neg (by decide), b1_p (q_small99 N r1), c1, bI_t, if_neg (by decide), b1_p (q_in9 N r2), c2, bI_t, if_neg (by decide), b2_p w1, if_neg (fun q => absurd ((k_eqR (by omega)).mp q) (by omega)), b1_p t4]
    · unfold f_X8_tries; rw [b1_p e8, if_neg (by decide), b1_p (q_near99 N r1), c1, bI_t, if_neg (by decide), b1_p (q_near9 N r2), c2, bI_t, if_neg (by decide), b1_p hW, bI_t, if_neg (by decide), b2_p t1', b1_p (rfl : f_X0_errorNow N (iI (E : Int)) = some (iI (E : Int))), b2_p t3]
def wstF (p : Nat → Bool) (X : Int) (E k : Nat) : Int := mxF (fun t => cntY p X (pu k) E ((t : Int) - 236)) 474 0 0
theorem wstF_in (p : Nat → Bool) (X : Int) (E k : Nat) : 0 ≤ wstF p X E k ∧ wstF p X E k ≤ 289 := mxF_in (fun t => cntY_bd p X (pu k) E ((t : Int) - 236)) 474 0 0 (by omega)
def bsF (w : Nat → Int) : Nat → Nat → Int → Int → Int
  | 0, _, b, _ => b
  | d + 1, k, b, f => if f ≤ w k then bsF w d (k + 1) b f else bsF w d (k + 1) (pu k) (w k)
theorem lp_best8 (N : Nat) (hN : 5000 ≤ N) {p : Nat → Bool} {c E : Nat} {X : Int} {rla : Nat → Int32} {g : Nat → Nat} (hG : Gath p 289 c rla g) (hX : -99 ≤ X ∧ X ≤ 99) (hE : E ≤ 20) :
    ∀ (d k fuel : Nat) (b f : Int) (rmo : Nat → Int32), k + d = 19 → d < fuel → (0 ≤ f ∧ f ≤ 1000) → ∃ rmo' : Nat → Int32, f_X8_best_59 N (iI X) (iI c) rla (iI E) fuel (iI b) (iI f) (iI k) rmo = some (iI (bsF (wstF p X E) d k b f), iI c, rla, rmo') := by
  intro d
  induction d with
  | zero =>
    intro k fuel b f rmo h1 h2 h3
    obtain ⟨k_, rfl⟩ := su_fuel h2
    refine ⟨rmo, ?_⟩
    show b_X8_best_59 N (iI X) (iI c) rla (iI E) _ (iI b) (iI f) (iI k) rmo = _
    unfold b_X8_best_59 bsF
    rw [if_pos ((k_ltL (by omega)).mpr (by omega))]
  | succ d ih =>
    intro k fuel b f rmo h1 h2 h3
    obtain ⟨k_, rfl⟩ := su_fuel (Nat.lt_of_le_of_lt (Nat.zero_le _) h2)
    have hw := wstF_in p X E k
    obtain ⟨rmo1, t3⟩ := q_law7 N hN hG hX (pu_in (k := k) (by omega)) hE rmo
    have t3' : f_X7_leftAtWorst N (iI X) (iI (pu k)) (iI (E : Int)) (iI (c : Int)) rla rmo = some (iI (wstF p X E k), rmo1) := t3
    by_cases cc : f ≤ wstF p X E k
    · obtain ⟨rmo', i1⟩ := ih (k + 1) k_ b f rmo1 (by omega) (by omega) h3
      refine ⟨rmo', ?_⟩
      show b_X8_best_59 N (iI X) (iI c) rla (iI E) (f_X8_best_59 N (iI X) (iI c) rla (iI E) k_) (iI b) (iI f) (iI k) rmo = _
      unfold b_X8_best_59 bsF
      rw [if_neg (fun q => absurd ((k_ltL (by omega)).mp q) (by omega)), b1_p (q_push8 N (by omega)), b1_p (rfl : f_X0_errorNow N (iI (E : Int)) = some (iI (E : Int))), b2_p t3', if_pos ((iI_le (by omega)).mpr cc), if_pos cc, iI_succ, i1]
    · obtain ⟨rmo', i1⟩ := ih (k + 1) k_ (pu k) (wstF p X E k) rmo1 (by omega) (by omega) (by omega)
      refine ⟨rmo', ?_⟩
      show b_X8_best_59 N (iI X) (iI c) rla (iI E) (f_X8_best_59 N (iI X) (iI c) rla (iI E) k_) (iI b) (iI f) (iI k) rmo = _
      unfold b_X8_best_59 bsF
      rw [if_neg (fun q => absurd ((k_ltL (by omega)).mp q) (by omega)), b1_p (q_push8 N (by omega)), b1_p (rfl : f_X0_errorNow N (iI (E : Int)) = some (iI (E : Int))), b2_p t3', if_neg (fun q => cc ((iI_le (by omega)).mp q)), if_neg cc, iI_succ, b1_p (q_push8 N (by omega)), i1]
theorem lp_best9 (N : Nat) (hN : 5000 ≤ N) {p : Nat → Bool} {E h : Nat} {X : Int} {D : Nat → Int32} (hh : h < 4096) (hX : -99 ≤ X ∧ X ≤ 99) (hE : E ≤ 20) (hD : ∀ r, r < 289 → D r = bI (p r)) :
    ∀ (d k fuel : Nat) (b f : Int), k + d = 19 → d < fuel → (0 ≤ f ∧ f ≤ 1000) → f_X9_best_39 N (iI h) (iI X) (iI E) D fuel (iI b) (iI f) (iI k) = some (iI (bsF (wstF p X E) d k b f), D) := by
  intro d
  induction d with
  | zero =>
    intro k fuel b f h1 h2 h3
    obtain ⟨k_, rfl⟩ := su_fuel h2
    show b_X9_best_39 N (iI h) (iI X) (iI E) D _ (iI b) (iI f) (iI k) = _
    unfold b_X9_best_39 bsF
    rw [if_pos ((k_leL (by omega)).mpr (by omega))]
  | succ d ih =>
    intro k fuel b f h1 h2 h3
    obtain ⟨k_, rfl⟩ := su_fuel (Nat.lt_of_le_of_lt (Nat.zero_le _) h2)
    have hw := wstF_in p X E k
    have t4 : f_X9_worst N (iI h) (iI X) (iI (pu k)) (iI E) D = some (iI (wstF p X E k)) := q_worst9 N hN hh hX (pu_in (k := k) (by omega)) hE hD
    show b_X9_best_39 N (iI h) (iI X) (iI E) D (f_X9_best_39 N (iI h) (iI X) (iI E) D k_) (iI b) (iI f) (iI k) = _
    unfold b_X9_best_39 bsF f_X9_best_75
    rw [if_neg (fun q => absurd ((k_leL (by omega)).mp q) (by omega)), b1_p (q_push9 N (by omega)), b1_p t4, b1_p (q_push9 N (by omega)), iI_succ]
    by_cases cc : f ≤ wstF p X E k
    · rw [if_pos ((iI_le (by omega)).mpr cc), if_pos ((iI_le (by omega)).mpr cc), if_pos cc]
      exact ih (k + 1) k_ b f (by omega) (by omega) h3
    · rw [if_neg (fun q => cc ((iI_le (by omega)).mp q)), if_neg (fun q => cc ((iI_le (by omega)).mp q)), if_neg cc]
      exact ih (k + 1) k_ (pu k) (wstF p X E k) (by omega) (by omega) (by omega)
theorem P_best : PS_best InvA := by
  intro N hN bsz bgp ber bxs bus bys bme pgc prc pgr pla tle tga trr tat tfa tby tnu rlc rla rmo ksz kmb kwa kra kla lo hi glo ghi sla ssz sit mrm mer mtd mat mwr mkn mmb mwa mra mbl mbh dxs dus dys dgp dtp dme dle dlt dkl dln dsz dit dmv hI p0 p1
  have hI' := hI
  obtain ⟨n, E, RX, RU, RY, G, ⟨⟨hn, hE, rfl, rfl, rfl, rfl, rfl⟩, hr, hm⟩, hP, hR⟩ := hI'
  obtain ⟨z0, r0, rfl⟩ := iI_of p0
  obtain ⟨z1, r1, rfl⟩ := iI_of p1
  have hRM : RowsM n E RX RU RY G dxs dus dys dgp := ⟨hn, hE, fun r h => (hr r h).2⟩
  have h12 := p2_12 hn
  have e8 := q_isHeap0 N r0 hn
  have e9 := q_isHeap9 N r0 hn
  by_cases c0 : 0 ≤ z0 ∧ z0 ≤ ((2 ^ n - 1 : Nat) : Int)
  case neg =>
    rw [two_f c0, bI_f] at e8 e9
    exact ⟨-1000001, rlc, rla, rmo, dlt, by unfold f_X8_best; rw [b1_p e8, if_pos rfl], by unfold f_X9_best; rw [b1_p e9, if_pos rfl], hI⟩
  rw [two_t c0, bI_t] at e8 e9
  obtain ⟨h, rfl, hh⟩ := heap_in c0
  cases c1 : near z1 with
  | false =>
    exact ⟨-1000001, rlc, rla, rmo, dlt, by unfold f_X8_best; rw [b1_p e8, if_neg (by decide), b1_p (q_near99 N r1), c1, bI_f, if_pos rfl], by unfold f_X9_best; rw [b1_p e9, if_neg (by decide), b1_p (q_small99 N r1), c1, bI_f, if_pos rfl], hI⟩
  | true =>
  have hX := near_t c1
  obtain ⟨c', D', w1, w2, w3, w4⟩ := q_lays9 N hN hRM hh dlt
  have hW := q_isWhole0 N hN hn hh hm
  cases hA : anyF (letB RX RU RY G E n h) 289 0 with
  | false =>
    rw [hA] at hW
    have c0' := w3.mpr hA
    subst c0'
    refine ⟨-1000004, rlc, rla, rmo, D', ?_, ?_, hI⟩
    · unfold f_X8_best; rw [b1_p e8, if_neg (by decide), b1_p (q_near99 N r1), c1, bI_t, if_neg (by decide), b1_p hW, bI_f, if_pos rfl]
    · unfold f_X9_best; rw [b1_p e9, if_neg (by decide), b1_p (q_small99 N r1), c1, bI_t, if_neg (by decide), b2_p w1, if_pos (show iI ((0 : Nat) : Int) = 0 from rfl)]
  | true =>
    rw [hA] at hW
    have c0' : c' ≠ 0 := fun q => by have := w3.mp q; rw [hA] at this; exact absurd this (by decide)
    obtain ⟨gc_, rla', g', t1, t2⟩ := lp_gather N hn hh hm 289 0 N 0 rla (fun _ => 0) rfl (by omega) ⟨Nat.le_refl _, fun i hi => by omega, fun φ => rfl⟩
    have t1' : f_X7_gather N (iI (h : Int)) rla bme = some (iI (gc_ : Int), rla') := t1
    obtain ⟨rmo', t3⟩ := lp_best8 N hN t2 hX hE 19 0 N 0 290 rmo rfl (by omega) (by omega)
    have t4 := lp_best9 N hN (h := h) (by omega) hX hE w4 19 0 N 0 1000 rfl (by omega) (by omega)
    have hw0 := wstF_in (letB RX RU RY G E n h) z1 E 0
    have eb : bsF (wstF (letB RX RU RY G E n h) z1 E) 19 0 0 290 = bsF (wstF (letB RX RU RY G E n h) z1 E) 19 0 0 1000 := by
      show (if (290 : Int) ≤ wstF (letB RX RU RY G E n h) z1 E 0 then _ else _) = (if (1000 : Int) ≤ wstF (letB RX RU RY G E n h) z1 E 0 then _ else _)
      rw [if_neg (by omega), if_neg (by omega)]
    rw [eb] at t3
    refine ⟨iI (bsF (wstF (letB RX RU RY G E n h) z1 E) 19 0 0 1000), iI (gc_ : Int), rla', rmo', D', ?_, ?_, hI⟩
    rotate_left
    · unfold f_X9_best; rw [b1_p e9, if_neg (by decide), b1_p (q_small99 N r1), c1, bI_t, if_neg (by decide), b2_p w1, if_neg (fun q => absurd ((k_eqR (by omega)).mp q) (by omega))]
      exact t4
    · unfold f_X8_best; rw [b1_p e8, if_neg (by decide), b1_p (q_near99 N r1), c1, bI_t, if_neg (by decide), b1_p hW, bI_t, if_neg (by decide), b2_p t1']
      exact t3
