/-! whether a heap is whole -/
def anyF (p : Nat → Bool) : Nat → Nat → Bool
  | 0, _ => false
  | d + 1, l => bif p l then true else anyF p d (l + 1)
theorem letsR_any (p : Nat → Bool) : ∀ d law, law + d = 289 → (letsR p 0 d law 0 = -4 ↔ anyF p d law = false)
  | 0, law, h => by
    unfold letsR anyF
    rw [if_pos (Int.le_refl _)]
    exact ⟨fun _ => rfl, fun _ => rfl⟩
  | d + 1, law, h => by
    have ih := letsR_any p d (law + 1) (by omega)
    unfold letsR anyF
    cases p law with
    | false => exact ih
    | true =>
      simp only [cond_true]
      rw [if_pos (by omega)]
      constructor
      · intro q; exact absurd ((k_neR (by omega)).mp q) (by omega)
      · intro q; exact absurd q (by decide)
theorem q_isWhole0 (N : Nat) (hN : 5000 ≤ N) {n E h : Nat} {RX RU RY : Nat → Int} {G : Nat → Bool} {f : Nat → Int32} (hn : n ≤ 12) (hh : h < 2 ^ n) (hm : ∀ law, law < 289 → f law = iI ((bts (mt RX RU RY G E law) n : Nat) : Int)) : f_X0_isWhole N (iI h) f = some (bI (anyF (letB RX RU RY G E n h) 289 0)) := by
  have h1 : f_X0_lawOf N (iI h) (0 : Int32) f = some (letsR (letB RX RU RY G E n h) 0 289 0 0) := lp_lawOf0 N hn hh hm (i := 0) (by omega) 289 0 0 N rfl (by omega) (Nat.le_refl _)
  have h2 := letsR_any (letB RX RU RY G E n h) 289 0 rfl
  unfold f_X0_isWhole
  rw [b1_p h1]
  cases hc : anyF (letB RX RU RY G E n h) 289 0 with
  | false => rw [if_pos (h2.mpr hc)]; rfl
  | true => rw [if_neg (fun q => by have := h2.mp q; rw [hc] at this; exact absurd this (by decide))]; rfl
theorem lp_isWhole9 (N : Nat) (hN : 5000 ≤ N) {n E h : Nat} {RX RU RY : Nat → Int} {G : Nat → Bool} {dxs dus dys dgp : Nat → Int32} (hR : RowsM n E RX RU RY G dxs dus dys dgp) (hh : h < 2 ^ n) :
    ∀ (d law fuel : Nat) (t : Bool), law + d = 289 → d < fuel → f_X9_isWhole_4 N (iI h) (iI n) (iI E) dxs dus dys dgp fuel (bI t) (iI law) = some (bI (t || anyF (letB RX RU RY G E n h) d law)) := by
  intro d
  induction d with
  | zero =>
    intro law fuel t h1 h2
    obtain ⟨k_, rfl⟩ := su_fuel h2
    have e : law = 289 := by omega
    subst e
    show b_X9_isWhole_4 N (iI h) (iI n) (iI E) dxs dus dys dgp _ (bI t) (iI ((289 : Nat) : Int)) = _
    unfold b_X9_isWhole_4 anyF
    rw [if_pos ((k_leL (by omega)).mpr (by omega)), gz_b, Bool.or_false]
  | succ d ih =>
    intro law fuel t h1 h2
    obtain ⟨k_, rfl⟩ := su_fuel (Nat.lt_of_le_of_lt (Nat.zero_le _) h2)
    have hl : law < 289 := by omega
    show b_X9_isWhole_4 N (iI h) (iI n) (iI E) dxs dus dys dgp (f_X9_isWhole_4 N (iI h) (iI n) (iI E) dxs dus dys dgp k_) (bI t) (iI law) = _
    unfold b_X9_isWhole_4 anyF
    rw [if_neg (fun q => absurd ((k_leL (by omega)).mp q) (by omega))]
    cases t with
    | true => rw [bI_t, if_neg (by decide)]; rfl
    | false =>
      rw [bI_f, if_pos rfl, b1_p (q_isLet9 N hN hR hl hh), iI_succ, ih (law + 1) k_ _ (by omega) (by omega)]
      cases letB RX RU RY G E n h law <;> rfl
theorem q_isWhole9 (N : Nat) (hN : 5000 ≤ N) {n E h : Nat} {RX RU RY : Nat → Int} {G : Nat → Bool} {dxs dus dys dgp : Nat → Int32} (hR : RowsM n E RX RU RY G dxs dus dys dgp) (hh : h < 2 ^ n) : f_X9_isWhole N (iI h) (iI n) (iI E) dxs dus dys dgp = some (bI (anyF (letB RX RU RY G E n h) 289 0)) := by
  unfold f_X9_isWhole
  exact lp_isWhole9 N hN hR hh 289 0 N false rfl (by omega)
/-! spans foretold -/
def lsF (p : Nat → Bool) (X U : Int) : Nat → Nat → Int → Int
  | 0, _, a => a
  | d + 1, l, a => bif p l then lsF p X U d (l + 1) (mi a (sm l X U)) else lsF p X U d (l + 1) a
theorem lp_leastSum0 (N : Nat) {n E h : Nat} {RX RU RY : Nat → Int} {G : Nat → Bool} {f : Nat → Int32} (hn : n ≤ 12) (hh : h < 2 ^ n) (hm : ∀ law, law < 289 → f law = iI ((bts (mt RX RU RY G E law) n : Nat) : Int)) {X U : Int} (hX : -99 ≤ X ∧ X ≤ 99) (hU : -99 ≤ U ∧ U ≤ 99) :
    ∀ (d law fuel : Nat) (a : Int), law + d = 289 → d < fuel → (-10000 ≤ a ∧ a ≤ 10000) → f_X0_leastSum_8 N (iI h) (iI X) (iI U) f fuel (iI a) (iI law) = some (iI (lsF (letB RX RU RY G E n h) X U d law a)) := by
  intro d
  induction d with
  | zero =>
    intro law fuel a h1 h2 h3
    obtain ⟨k_, rfl⟩ := su_fuel h2
    have e : law = 289 := by omega
    subst e
    show b_X0_leastSum_8 N (iI h) (iI X) (iI U) f _ (iI a) (iI ((289 : Nat) : Int)) = _
    unfold b_X0_leastSum_8 lsF
    rw [if_pos ((k_leL (by omega)).mpr (by omega))]
  | succ d ih =>
    intro law fuel a h1 h2 h3
    obtain ⟨k_, rfl⟩ := su_fuel (Nat.lt_of_le_of_lt (Nat.zero_le _) h2)
    have hl : law < 289 := by omega
    have hs := sm_bd hl (A := 99) (B := 99) hX hU
    show b_X0_leastSum_8 N (iI h) (iI X) (iI U) f (f_X0_leastSum_8 N (iI h) (iI X) (iI U) f k_) (iI a) (iI law) = _
    unfold b_X0_leastSum_8 lsF
    rw [if_neg (fun q => absurd ((k_leL (by omega)).mp q) (by omega)), b1_p (q_letB0 N hn hl hh hm), ifb]
    cases letB RX RU RY G E n h law with
    | false =>
      simp only [cond_false]
      rw [iI_succ]
      exact ih (law + 1) k_ a (by omega) (by omega) h3
    | true =>
      simp only [cond_true]
      rw [b1_p (q_sum3 N hl X U), mi_I (by omega), iI_succ]
      exact ih (law + 1) k_ _ (by omega) (by omega) (mi_bd (B := 10000) h3 (by omega))
theorem sm_neg (law : Nat) (X U : Int) : sm law (-X) (-U) = -sm law X U := by
  unfold sm
  rw [Int.mul_neg, Int.mul_neg]; omega
theorem lp_span9 (N : Nat) (hN : 5000 ≤ N) {n E h : Nat} {RX RU RY : Nat → Int} {G : Nat → Bool} {dxs dus dys dgp : Nat → Int32} (hR : RowsM n E RX RU RY G dxs dus dys dgp) (hh : h < 2 ^ n) {X U X' U' : Int} (w : Bool) (hX : -99 ≤ X ∧ X ≤ 99) (hU : -99 ≤ U ∧ U ≤ 99) (hv : ∀ l, sm l X' U' = bif w then -sm l X U else sm l X U) :
    ∀ (d law fuel c : Nat) (a : Int) (fo : Int32), law + d = 289 → d < fuel → c ≤ law → (c = 0 → a = 10000) → (c ≠ 0 → fo = iI (bif w then -a else a)) → (-10000 ≤ a ∧ a ≤ 10000) → f_X9_span_45 N (iI h) (iI X) (iI U) (bI w) (iI n) (iI E) dxs dus dys dgp fuel (iI c) fo (iI law) = some (if c = 0 ∧ anyF (letB RX RU RY G E n h) d law = false then -1000004 else iI (bif w then -(lsF (letB RX RU RY G E n h) X' U' d law a) else lsF (letB RX RU RY G E n h) X' U' d law a)) := by
  intro d
  induction d with
  | zero =>
    intro law fuel c a fo h1 h2 h3 h4 h5 h6
    obtain ⟨k_, rfl⟩ := su_fuel h2
    have e : law = 289 := by omega
    subst e
    show b_X9_span_45 N (iI h) (iI X) (iI U) (bI w) (iI n) (iI E) dxs dus dys dgp _ (iI (c : Int)) fo (iI ((289 : Nat) : Int)) = _
    unfold b_X9_span_45 anyF lsF
    rw [if_pos ((k_leL (by omega)).mpr (by omega))]
    by_cases c0 : c = 0
    · rw [if_pos ((k_eqR (by omega)).mpr (by omega)), if_pos ⟨c0, rfl⟩]
    · rw [if_neg (fun q => absurd ((k_eqR (by omega)).mp q) (by omega)), if_neg (fun q => c0 q.1), h5 c0]
  | succ d ih =>
    intro law fuel c a fo h1 h2 h3 h4 h5 h6
    obtain ⟨k_, rfl⟩ := su_fuel (Nat.lt_of_le_of_lt (Nat.zero_le _) h2)
    have hl : law < 289 := by omega
    have hs := sm_bd hl (A := 99) (B := 99) hX hU
    show b_X9_span_45 N (iI h) (iI X) (iI U) (bI w) (iI n) (iI E) dxs dus dys dgp (f_X9_span_45 N (iI h) (iI X) (iI U) (bI w) (iI n) (iI E) dxs dus dys dgp k_) (iI c) fo (iI law) = _
    unfold b_X9_span_45 anyF lsF
    rw [if_neg (fun q => absurd ((k_leL (by omega)).mp q) (by omega)), b1_p (q_isLet9 N hN hR hl hh), ifb]
    cases hb : letB RX RU RY G E n h law with
    | false =>
      simp only [cond_false]
      rw [iI_succ]
      exact ih (law + 1) k_ c a fo (by omega) (by omega) (by omega) h4 h5 h6
    | true =>
      simp only [cond_true]
      rw [if_neg (fun q => absurd q.2 (by decide)), b1_p (q_sum9 N hl X U), iI_succ, iI_succ, hv law]
      by_cases c0 : c = 0
      · rw [if_pos ((k_eqR (by omega)).mpr (by omega)), h4 c0]
        have em : mi 10000 (bif w then -sm law X U else sm law X U) = (bif w then -sm law X U else sm law X U) := by
          unfold mi
          cases w with
          | true => simp only [cond_true]; rw [if_pos (by omega)]
          | false => simp only [cond_false]; rw [if_pos (by omega)]
        rw [em]
        have i1 := ih (law + 1) k_ (c + 1) (bif w then -sm law X U else sm law X U) (iI (sm law X U)) (by omega) (by omega) (by omega) (fun q => by omega) (fun _ => by cases w with
          | true => simp only [cond_true]; rw [Int.neg_neg]
          | false => rfl) (by cases w with
          | true => simp only [cond_true]; omega
          | false => simp only [cond_false]; omega)
        rw [if_neg (fun q => by omega)] at i1
        exact i1
      · rw [if_neg (fun q => absurd ((k_eqR (by omega)).mp q) (by omega)), h5 c0]
        cases w with
        | false =>
          simp only [cond_false] at *
          rw [bI_f, if_pos rfl]
          have i1 := ih (law + 1) k_ (c + 1) (mi a (sm law X U)) (iI (mi a (sm law X U))) (by omega) (by omega) (by omega) (fun q => by omega) (fun _ => rfl) (mi_bd (B := 10000) h6 (by omega))
          rw [if_neg (fun q => by omega)] at i1
          rw [bI_f] at i1
          rw [← i1]
          unfold mi
          by_cases cc : sm law X U < a
          · rw [if_neg (fun q => absurd ((iI_le (by omega)).mp q) (by omega)), if_pos cc]
          · rw [if_pos ((iI_le (by omega)).mpr (by omega)), if_neg cc]
        | true =>
          simp only [cond_true] at *
          rw [bI_t, if_neg (by decide)]
          have i1 := ih (law + 1) k_ (c + 1) (mi a (-sm law X U)) (iI (-(mi a (-sm law X U)))) (by omega) (by omega) (by omega) (fun q => by omega) (fun _ => rfl) (mi_bd (B := 10000) h6 (by omega))
          rw [if_neg (fun q => by omega)] at i1
          rw [bI_t] at i1
          rw [← i1]
          unfold mi
          by_cases cc : -sm law X U < a
          · rw [if_neg (fun q => absurd ((iI_le (by omega)).mp q) (by omega)), if_pos cc, Int.neg_neg]
          · rw [if_pos ((iI_le (by omega)).mpr (by omega)), if_neg cc]
theorem P_span : PS_span InvA := by
  intro N hN bsz bgp ber bxs bus bys bme pgc prc pgr pla tle tga trr tat tfa tby tnu rlc rla rmo ksz kmb kwa kra kla lo hi glo ghi sla ssz sit mrm mer mtd mat mwr mkn mmb mwa mra mbl mbh dxs dus dys dgp dtp dme dle dlt dkl dln dsz dit dmv hI p0 p1 p2 p3
  have hI' := hI
  obtain ⟨n, E, RX, RU, RY, G, ⟨⟨hn, hE, rfl, rfl, rfl, rfl, rfl⟩, hr, hm⟩, hP, hR⟩ := hI'
  obtain ⟨z0, r0, rfl⟩ := iI_of p0
  obtain ⟨z1, r1, rfl⟩ := iI_of p1
  obtain ⟨z2, r2, rfl⟩ := iI_of p2
  obtain ⟨z3, r3, rfl⟩ := iI_of p3
  have hRM : RowsM n E RX RU RY G dxs dus dys dgp := ⟨hn, hE, fun r h => (hr r h).2⟩
  have e8 := q_isHeap0 N r0 hn
  have e9 := q_isHeap9 N r0 hn
  by_cases c0 : 0 ≤ z0 ∧ z0 ≤ ((2 ^ n - 1 : Nat) : Int)
  case neg =>
    rw [two_f c0, bI_f] at e8 e9
    exact ⟨-1000001, by unfold f_X8_span; rw [b1_p e8, if_pos rfl], by unfold f_X9_span; rw [b1_p e9, if_pos rfl], hI⟩
  rw [two_t c0, bI_t] at e8 e9
  obtain ⟨h, rfl, hh⟩ := heap_in c0
  cases c1 : near z1 with
  | false =>
    exact ⟨-1000001, by unfold f_X8_span; rw [b1_p e8, if_neg (by decide), b1_p (q_near99 N r1), c1, bI_f, if_pos rfl], by unfold f_X9_span; rw [b1_p e9, if_neg (by decide), b1_p (q_small99 N r1), c1, bI_f, if_pos rfl], hI⟩
  | true =>
  cases c2 : near z2 with
  | false =>
    exact ⟨-1000001, by unfold f_X8_span; rw [b1_p e8, if_neg (by decide), b1_p (q_near99 N r1), c1, bI_t, if_neg (by decide), b1_p (q_near99 N r2), c2, bI_f, if_pos rfl], by unfold f_X9_span; rw [b1_p e9, if_neg (by decide), b1_p (q_small99 N r1), c1, bI_t, if_neg (by decide), b1_p (q_small99 N r2), c2, bI_f, if_pos rfl], hI⟩
  | true =>
  have hX := near_t c1
  have hU := near_t c2
  have e3 : f_X9_in N (iI z3).toInt64 0 1 = some (bI (decide (0 ≤ z3) && decide (z3 ≤ 1))) := q_in N (j_of r3) rfl rfl
  by_cases c3 : 0 ≤ z3 ∧ z3 ≤ 1
  case neg =>
    rw [two_f c3, bI_f] at e3
    refine ⟨-1000001, ?_, by unfold f_X9_span; rw [b1_p e9, if_neg (by decide), b1_p (q_small99 N r1), c1, bI_t, if_neg (by decide), b1_p (q_small99 N r2), c2, bI_t, if_neg (by decide), b1_p e3, if_pos rfl], hI⟩
    unfold f_X8_span; rw [b1_p e8, if_neg (by decide), b1_p (q_near99 N r1), c1, bI_t, if_neg (by decide), b1_p (q_near99 N r2), c2, bI_t, if_neg (by decide)]
    by_cases d : z3 < 0
    · rw [if_pos ((k_ltR (by omega)).mpr (by omega))]
    · rw [if_neg (fun q => absurd ((k_ltR (by omega)).mp q) (by omega)), if_neg (fun q => absurd ((k_leR (by omega)).mp q) (by omega))]
  rw [two_t c3, bI_t] at e3
  have k8 : f_X8_span N (iI h) (iI z1) (iI z2) (iI z3) (iI n) bme = b1 (f_X0_isWhole N (iI h) bme) (fun r13 => (if r13 = 0 then some ((-1000004 : Int32)) else (if iI z3 = 0 then b1 (f_X0_leastSum N (iI h) (iI z1) (iI z2) bme) (fun r19 => some (r19)) else b1 (f_X0_leastSum N (iI h) (-iI z1) (-iI z2) bme) (fun r17 => some ((-r17)))))) := by
    unfold f_X8_span; rw [b1_p e8, if_neg (by decide), b1_p (q_near99 N r1), c1, bI_t, if_neg (by decide), b1_p (q_near99 N r2), c2, bI_t, if_neg (by decide), if_neg (fun q => absurd ((k_ltR (by omega)).mp q) (by omega)), if_pos ((k_leR (by omega)).mpr (by omega))]
  have k9 : f_X9_span N (iI h) (iI z1) (iI z2) (iI z3) (iI n) (iI E) dxs dus dys dgp = f_X9_span_45 N (iI h) (iI z1) (iI z2) (iI z3) (iI n) (iI E) dxs dus dys dgp N (0 : Int32) (0 : Int32) (0 : Int32) := by
    unfold f_X9_span; rw [b1_p e9, if_neg (by decide), b1_p (q_small99 N r1), c1, bI_t, if_neg (by decide), b1_p (q_small99 N r2), c2, bI_t, if_neg (by decide), b1_p e3, if_neg (by decide)]
  rw [b1_p (q_isWhole0 N hN hn hh hm)] at k8
  have hz : z3 = 0 ∨ z3 = 1 := by omega
  rcases hz with rfl | rfl
  · have s9 : f_X9_span_45 N (iI h) (iI z1) (iI z2) (iI 0) (iI n) (iI E) dxs dus dys dgp N (0 : Int32) (0 : Int32) (0 : Int32) = _ := lp_span9 N hN hRM hh (X' := z1) (U' := z2) false hX hU (fun l => rfl) 289 0 N 0 10000 0 rfl (by omega) (Nat.le_refl _) (fun _ => rfl) (fun q => absurd rfl q) (by omega)
    have s8 : f_X0_leastSum N (iI h) (iI z1) (iI z2) bme = _ := lp_leastSum0 N hn hh hm hX hU 289 0 N 10000 rfl (by omega) (by omega)
    rw [s9] at k9
    rw [b1_p s8] at k8
    cases hA : anyF (letB RX RU RY G E n h) 289 0 with
    | false =>
      rw [hA] at k8 k9
      exact ⟨_, k8, k9, hI⟩
    | true =>
      rw [hA] at k8 k9
      rw [if_neg (fun q => absurd q.2 (by decide))] at k9
      exact ⟨_, k8, k9, hI⟩
  · have s9 : f_X9_span_45 N (iI h) (iI z1) (iI z2) (iI 1) (iI n) (iI E) dxs dus dys dgp N (0 : Int32) (0 : Int32) (0 : Int32) = _ := lp_span9 N hN hRM hh (X' := -z1) (U' := -z2) true hX hU (fun l => sm_neg l z1 z2) 289 0 N 0 10000 0 rfl (by omega) (Nat.le_refl _) (fun _ => rfl) (fun q => absurd rfl q) (by omega)
    have s8 : f_X0_leastSum N (iI h) (iI (-z1)) (iI (-z2)) bme = _ := lp_leastSum0 N hn hh hm (by omega) (by omega) 289 0 N 10000 rfl (by omega) (by omega)
    rw [s9] at k9
    rw [iI_neg, iI_neg, b1_p s8, iI_neg] at k8
    cases hA : anyF (letB RX RU RY G E n h) 289 0 with
    | false =>
      rw [hA] at k8 k9
      exact ⟨_, k8, k9, hI⟩
    | true =>
      rw [hA] at k8 k9
      rw [if_neg (fun q => absurd q.2 (by decide))] at k9
      exact ⟨_, k8, k9, hI⟩
