theorem lp_fill (N nn : Nat) (hn : nn < 100000) (v : Int32) : ∀ (d i fuel : Nat) (f : Nat → Int32), i + d = nn → d < fuel → f_J7_fill_53178_5 N nn v (iI nn) fuel (iI i) f = some (fun k => if i ≤ k ∧ k < nn then v else f k) := by
  intro d
  induction d with
  | zero =>
    intro i fuel f h1 h2
    obtain ⟨k_, rfl⟩ := su_fuel h2
    have e : i = nn := by omega
    subst e
    show b_J7_fill_53178_5 N i v (iI i) _ (iI (i : Int)) f = _
    unfold b_J7_fill_53178_5
    rw [if_pos ((iI_le (by omega)).mpr (Int.le_refl _))]
    congr 1
    funext k
    rw [if_neg (by omega)]
  | succ d ih =>
    intro i fuel f h1 h2
    obtain ⟨k_, rfl⟩ := su_fuel (Nat.lt_of_le_of_lt (Nat.zero_le _) h2)
    show b_J7_fill_53178_5 N nn v (iI nn) (f_J7_fill_53178_5 N nn v (iI nn) k_) (iI i) f = _
    unfold b_J7_fill_53178_5
    rw [if_neg (fun c => absurd ((iI_le (by omega)).mp c) (by omega)), gi_I (by omega) (by omega) (by omega), iI_clampN (by omega), iI_succ, ih (i + 1) k_ _ (by omega) (by omega)]
    congr 1
    funext k
    by_cases e : k = i
    · subst e
      rw [if_neg (by omega), upd_s, if_pos (by omega)]
    · rw [upd_n _ e]
      by_cases c : i ≤ k ∧ k < nn
      · rw [if_pos c, if_pos (by omega)]
      · rw [if_neg c, if_neg (by omega)]
theorem q_fill (N nn : Nat) (hN : 5000 ≤ N) (hn : nn < 4000) (v : Int32) (f : Nat → Int32) : f_J7_fill_53178 N v nn f = some (fun k => if k < nn then v else f k) := by
  unfold f_J7_fill_53178
  have e0 : Int32.ofNat nn = iI (nn : Int) := (iI_nat nn).symm
  have h := lp_fill N nn (by omega) v nn 0 N f (by omega) (by omega)
  rw [e0, l0_I]
  have h2 : f_J7_fill_53178_5 N nn v (iI (nn : Int)) N (iI 0) f = some (fun k => if 0 ≤ k ∧ k < nn then v else f k) := h
  rw [h2]
  congr 1
  funext k
  by_cases c : k < nn
  · rw [if_pos c, if_pos ⟨Nat.zero_le _, c⟩]
  · rw [if_neg c, if_neg (fun q => c q.2)]
theorem P_clear : PS_clear InvA := by
  intro N hN bsz bgp ber bxs bus bys bme pgc prc pgr pla tle tga trr tat tfa tby tnu rlc rla rmo ksz kmb kwa kra kla lo hi glo ghi sla ssz sit mrm mer mtd mat mwr mkn mmb mwa mra mbl mbh dxs dus dys dgp dtp dme dle dlt dkl dln dsz dit dmv hI 
  obtain ⟨n, E, RX, RU, RY, G, hB, hP, hR⟩ := hI
  obtain ⟨⟨hn, hE, rfl, rfl, rfl, rfl, rfl⟩, hr, hm⟩ := hB
  refine ⟨iI n, 0, 0, 0, (fun k => if k < 289 then 0 else bme k), 0, ?_, rfl, 0, E, RX, RU, RY, G, ?_, InvP_forget hP 0 _, hR⟩
  · unfold f_X8_clear f_X0_empty
    rw [b4_p (b1_p (q_fill N 289 hN (by omega) 0 bme) _)]
    rfl
  · refine ⟨⟨by omega, hE, rfl, rfl, rfl, rfl, rfl⟩, fun r h => by omega, fun law hl => ?_⟩
    show (if law < 289 then (0 : Int32) else bme law) = _
    rw [if_pos hl]; rfl
/-! a changed error -/
theorem lp_take (N : Nat) (hN : 5000 ≤ N) {n E : Nat} {RX RU RY : Nat → Int} {G : Nat → Bool} {bxs bus bys : Nat → Int32} (hn : n ≤ 12) (hE : E ≤ 20) (hr : ∀ r, r < n → (bxs r = iI (RX r) ∧ bus r = iI (RU r) ∧ bys r = iI (RY r)) ∧ (-99 ≤ RX r ∧ RX r ≤ 99) ∧ (-99 ≤ RU r ∧ RU r ≤ 99) ∧ (-99 ≤ RY r ∧ RY r ≤ 99)) :
    ∀ (d r fuel : Nat) (f : Nat → Int32), r + d = n → d < fuel → (∀ l, l < 289 → f l = iI ((bts (mt RX RU RY G E l) r : Nat) : Int)) → ∃ f' : Nat → Int32, f_X0_takeError_15 N (iI n) (iI ((bts G n : Nat) : Int)) (iI E) bxs bus bys fuel (iI r) f = some (iI E, f') ∧ ∀ l, l < 289 → f' l = iI ((bts (mt RX RU RY G E l) n : Nat) : Int) := by
  intro d
  induction d with
  | zero =>
    intro r fuel f h1 h2 hf
    obtain ⟨k_, rfl⟩ := su_fuel h2
    have e : r = n := by omega
    subst e
    refine ⟨f, ?_, hf⟩
    show b_X0_takeError_15 N (iI r) _ (iI E) bxs bus bys _ (iI (r : Int)) f = _
    unfold b_X0_takeError_15
    rw [if_pos ((iI_le (by omega)).mpr (Int.le_refl _))]
  | succ d ih =>
    intro r fuel f h1 h2 hf
    obtain ⟨k_, rfl⟩ := su_fuel (Nat.lt_of_le_of_lt (Nat.zero_le _) h2)
    have hrn : r < n := by omega
    obtain ⟨⟨g1, g2, g3⟩, b1_, b2_, b3_⟩ := hr r hrn
    have hg := bts_small G hn
    obtain ⟨f', e1, e2⟩ := ih (r + 1) k_ (entF 0 r (fun l => (bts G n).testBit r || fit l (RX r) (RU r) (RY r) E) f) (by omega) (by omega) (by
      intro l hl
      have et : (bts G n).testBit r = G r := by rw [bts_tb, decide_eq_true hrn]; rfl
      show (if 0 ≤ l ∧ l < 289 ∧ ((bts G n).testBit r || fit l (RX r) (RU r) (RY r) E) = true then f l ||| iI ((2 ^ r : Nat) : Int) else f l) = iI ((bts (mt RX RU RY G E l) r + (if mt RX RU RY G E l r then 2 ^ r else 0) : Nat) : Int)
      rw [hf l hl, et]
      have em : mt RX RU RY G E l r = (G r || fit l (RX r) (RU r) (RY r) E) := rfl
      rw [em]
      by_cases c : (G r || fit l (RX r) (RU r) (RY r) E) = true
      · rw [if_pos ⟨Nat.zero_le _, hl, c⟩, if_pos c, iI_or, bts_or]
      · rw [if_neg (fun q => c q.2.2), if_neg c, Nat.add_zero])
    refine ⟨f', ?_, e2⟩
    show b_X0_takeError_15 N (iI n) _ (iI E) bxs bus bys (f_X0_takeError_15 N (iI n) (iI ((bts G n : Nat) : Int)) (iI E) bxs bus bys k_) (iI r) f = _
    unfold b_X0_takeError_15
    rw [if_neg (fun c => absurd ((iI_le (by omega)).mp c) (by omega)), b1_p (q_enter0 N hN hrn hn hg hE g1 g2 g3 b1_ b2_ b3_ f), iI_succ, e1]
theorem P_error : PS_error InvA := by
  intro N hN bsz bgp ber bxs bus bys bme pgc prc pgr pla tle tga trr tat tfa tby tnu rlc rla rmo ksz kmb kwa kra kla lo hi glo ghi sla ssz sit mrm mer mtd mat mwr mkn mmb mwa mra mbl mbh dxs dus dys dgp dtp dme dle dlt dkl dln dsz dit dmv hI p0
  have hI' := hI
  obtain ⟨n, E, RX, RU, RY, G, ⟨⟨hn, hE, rfl, rfl, rfl, rfl, rfl⟩, hr, hm⟩, hP, hR⟩ := hI'
  obtain ⟨z0, r0, rfl⟩ := iI_of p0
  have e9 : f_X9_in N (iI z0).toInt64 0 20 = some (bI (decide (0 ≤ z0) && decide (z0 ≤ 20))) := q_in N (j_of r0) rfl rfl
  by_cases c : 0 ≤ z0 ∧ z0 ≤ 20
  · obtain ⟨e, rfl⟩ := Int.eq_ofNat_of_zero_le c.1
    have e9' : (decide ((0 : Int) ≤ (e : Int)) && decide ((e : Int) ≤ 20)) = true := by rw [decide_eq_true c.1, decide_eq_true c.2]; rfl
    rw [e9', bI_t] at e9
    have he : e ≤ 20 := by omega
    obtain ⟨f', t1, t2⟩ := lp_take N hN (G := G) hn he (fun r h => ⟨(hr r h).1, (hr r h).2.2⟩) n 0 N (fun k => if k < 289 then 0 else bme k) (by omega) (by omega) (fun l hl => by show (if l < 289 then (0 : Int32) else bme l) = _; rw [if_pos hl]; rfl)
    refine ⟨iI E, 0, iI e, f', iI e, ?_, ?_, n, e, RX, RU, RY, G, ⟨⟨hn, he, rfl, rfl, rfl, rfl, rfl⟩, hr, t2⟩, InvP_forget hP n _, hR⟩
    · have ht : f_X0_takeError N (iI (e : Int)) (iI n) (iI ((bts G n : Nat) : Int)) bxs bus bys bme = some (iI (e : Int), f') := by
        unfold f_X0_takeError
        exact (b1_p (q_fill N 289 hN (by omega) 0 bme) _).trans t1
      unfold f_X8_error
      rw [if_neg (fun q => absurd ((k_ltR (by omega)).mp q) (by omega)), if_pos ((k_leR (by omega)).mpr (by omega)), b1_p (rfl : f_X0_errorNow N (iI (E : Int)) = some (iI (E : Int))), b2_p ht]
      rfl
    · unfold f_X9_error
      rw [b1_p e9, if_neg (by decide)]
  · have e9' : (decide (0 ≤ z0) && decide (z0 ≤ 20)) = false := by
      by_cases d : 0 ≤ z0
      · rw [decide_eq_false (p := (z0 ≤ 20)) (by omega)]; simp
      · rw [decide_eq_false d]; rfl
    rw [e9', bI_f] at e9
    refine ⟨-1, _, _, _, _, ?_, ?_, hI⟩
    · unfold f_X8_error
      by_cases d : z0 < 0
      · rw [if_pos ((k_ltR (by omega)).mpr (by omega))]
      · rw [if_neg (fun q => absurd ((k_ltR (by omega)).mp q) (by omega)), if_neg (fun q => absurd ((k_leR (by omega)).mp q) (by omega))]
    · unfold f_X9_error
      rw [b1_p e9, if_pos rfl]
/-! whether a row meets a law, a heap lets it -/
theorem q_does9 (N : Nat) {n E r law : Nat} {RX RU RY : Nat → Int} {G : Nat → Bool} {dxs dus dys dgp : Nat → Int32} (hn : n ≤ 12) (hE : E ≤ 20) (hl : law < 289) (hrn : r < n) (hr : (dxs r = iI (RX r) ∧ dus r = iI (RU r) ∧ dys r = iI (RY r) ∧ dgp r = bI (G r)) ∧ (-99 ≤ RX r ∧ RX r ≤ 99) ∧ (-99 ≤ RU r ∧ RU r ≤ 99) ∧ (-99 ≤ RY r ∧ RY r ≤ 99)) : f_X9_doesMeet N (iI r) (iI law) (iI E) dxs dus dys dgp = some (bI (mt RX RU RY G E law r)) := by
  obtain ⟨⟨k1, k2, k3, k4⟩, b1_, b2_, b3_⟩ := hr
  unfold f_X9_doesMeet mt
  rw [gi_I (by omega) (by omega) (by omega), iI_clampN (by omega), k4, ifb]
  cases G r with
  | true => rfl
  | false =>
    show gi _ _ _ = _
    rw [gi_I (by omega) (by omega) (by omega), gi_I (by omega) (by omega) (by omega), gi_I (by omega) (by omega) (by omega), k1, k2, k3, b1_p (q_fits9 N hl b1_ b2_ (by omega) hE), ifb]
    cases fit law (RX r) (RU r) (RY r) E <;> rfl
theorem and_sub {w h n : Nat} (hh : h < 2 ^ n) : w &&& h = h ↔ ∀ r, r < n → h.testBit r = true → w.testBit r = true := by
  constructor
  · intro e r _ hb
    have h1 : (w &&& h).testBit r = true := by rw [e]; exact hb
    rw [Nat.testBit_and, Bool.and_eq_true] at h1
    exact h1.1
  · intro H
    apply Nat.eq_of_testBit_eq
    intro r
    rw [Nat.testBit_and]
    by_cases hr : r < n
    · cases hb : h.testBit r with
      | true => rw [H r hr hb]; rfl
      | false => simp
    · have : h.testBit r = false := Nat.testBit_lt_two_pow (Nat.lt_of_lt_of_le hh (Nat.pow_le_pow_right (by decide) (by omega)))
      rw [this]; simp
theorem q_rowsMeeting0 (N : Nat) {law : Nat} (hl : law < 289) (f : Nat → Int32) : f_X0_rowsMeeting N (iI law) f = some (f law) := by
  unfold f_X0_rowsMeeting
  rw [if_neg (fun c => absurd ((k_ltR (by omega)).mp c) (by omega)), if_neg (fun c => absurd ((k_leL (by omega)).mp c) (by omega)), gi_I (by omega) (by omega) (by omega), iI_clampN (by omega)]
theorem q_letsLaw0 (N : Nat) {law h w : Nat} (hl : law < 289) (hw : w < 4096) (hh : h < 4096) {f : Nat → Int32} (hf : f law = iI w) : f_X0_letsLaw N (iI h) (iI law) f = some (bI (decide (w &&& h = h))) := by
  have h1 : w &&& h ≤ h := Nat.and_le_right
  unfold f_X0_letsLaw
  rw [b1_p (q_rowsMeeting0 N hl f), hf, iI_and]
  by_cases c : w &&& h = h
  · rw [if_pos (by rw [c]), decide_eq_true c]; rfl
  · rw [if_neg (fun q => c (by rw [iI_eq (by omega)] at q; omega)), decide_eq_false c]; rfl
theorem and_p2 (w r : Nat) : (w &&& 2 ^ r = 2 ^ r) ↔ w.testBit r = true := by
  have h := and_sub (w := w) (h := 2 ^ r) (n := r + 1) (Nat.pow_lt_pow_right (by decide) (by omega))
  rw [h]
  constructor
  · intro H; exact H r (by omega) (by rw [Nat.testBit_two_pow_self])
  · intro H q hq hb
    rw [Nat.testBit_two_pow] at hb
    have : r = q := of_decide_eq_true hb
    rw [← this]; exact H
theorem P_meets : PS_meets InvA := by
  intro N hN bsz bgp ber bxs bus bys bme pgc prc pgr pla tle tga trr tat tfa tby tnu rlc rla rmo ksz kmb kwa kra kla lo hi glo ghi sla ssz sit mrm mer mtd mat mwr mkn mmb mwa mra mbl mbh dxs dus dys dgp dtp dme dle dlt dkl dln dsz dit dmv hI p0 p1
  have hI' := hI
  obtain ⟨n, E, RX, RU, RY, G, ⟨⟨hn, hE, rfl, rfl, rfl, rfl, rfl⟩, hr, hm⟩, hP, hR⟩ := hI'
  obtain ⟨z0, r0, rfl⟩ := iI_of p0
  obtain ⟨z1, r1, rfl⟩ := iI_of p1
  by_cases c0 : 0 ≤ z0 ∧ z0 < (n : Int)
  · obtain ⟨r, rfl⟩ := Int.eq_ofNat_of_zero_le c0.1
    have hrn : r < n := by omega
    have eh := q_has0 N (z := (r : Int)) (by omega) hn
    rw [in_t hrn, bI_t] at eh
    have ei := q_isRow9 N (z := (r : Int)) (by omega) hn
    rw [in_t hrn, bI_t] at ei
    by_cases c1 : 0 ≤ z1 ∧ z1 ≤ 288
    · obtain ⟨law, rfl⟩ := Int.eq_ofNat_of_zero_le c1.1
      have hl : law < 289 := by omega
      have ea : (decide ((0 : Int) ≤ (law : Int)) && decide ((law : Int) ≤ 288)) = true := by rw [decide_eq_true c1.1, decide_eq_true c1.2]; rfl
      have el := q_is3 N (z := (law : Int)) (by omega)
      rw [ea, bI_t] at el
      have e9 := q_isLaw9 N (z := (law : Int)) (by omega)
      rw [ea, bI_t] at e9
      have hw := bts_small (mt RX RU RY G E law) hn
      have h2 := p2_12 (n := r) (by omega)
      have et : decide ((bts (mt RX RU RY G E law) n) &&& 2 ^ r = 2 ^ r) = mt RX RU RY G E law r := by
        have e1 : (bts (mt RX RU RY G E law) n).testBit r = mt RX RU RY G E law r := by rw [bts_tb, decide_eq_true hrn]; rfl
        cases hb : mt RX RU RY G E law r with
        | true => rw [decide_eq_true ((and_p2 _ _).mpr (e1.trans hb))]
        | false => rw [decide_eq_false (fun q => by have := (and_p2 _ _).mp q; rw [e1, hb] at this; exact absurd this (by decide))]
      have h3 : 2 ^ r < 2 ^ 12 := Nat.pow_lt_pow_right (by decide) (by omega)
      refine ⟨bI (mt RX RU RY G E law r), ?_, ?_, hI⟩
      · unfold f_X8_meets
        rw [b1_p eh, if_neg (by decide), b1_p el, if_neg (by decide), q_shl1 (by omega), b1_p (q_letsLaw0 N hl hw (by omega) (hm law hl)), et, ifb]
        cases mt RX RU RY G E law r <;> rfl
      · unfold f_X9_meets
        rw [b1_p ei, if_neg (by decide), b1_p e9, if_neg (by decide), b1_p (q_does9 N hn hE hl hrn (hr r hrn).2), ifb]
        cases mt RX RU RY G E law r <;> rfl
    · have ea : (decide (0 ≤ z1) && decide (z1 ≤ 288)) = false := by
        by_cases d : 0 ≤ z1
        · rw [decide_eq_false (p := (z1 ≤ 288)) (by omega)]; simp
        · rw [decide_eq_false d]; rfl
      refine ⟨-1, ?_, ?_, hI⟩
      · unfold f_X8_meets
        rw [b1_p eh, if_neg (by decide), b1_p (q_is3 N r1), ea, bI_f, if_pos rfl]
      · unfold f_X9_meets
        rw [b1_p ei, if_neg (by decide), b1_p (q_isLaw9 N r1), ea, bI_f, if_pos rfl]
  · refine ⟨-1, ?_, ?_, hI⟩
    · unfold f_X8_meets
      rw [b1_p (q_has0 N r0 hn), in_f c0, bI_f, if_pos rfl]
    · unfold f_X9_meets
      rw [b1_p (q_isRow9 N r0 hn), in_f c0, bI_f, if_pos rfl]
