/-- rows read so far, on both sides -/
def RowsT (n rr : Nat) (XV UV YV : Nat → Int) (GV : Nat → Bool) (tnu dxs dus dys dgp : Nat → Int32) : Prop := ∀ k, k < rr → (tnu (3 * k) = iI (XV k) ∧ tnu (3 * k + 1) = iI (UV k) ∧ tnu (3 * k + 2) = iI (YV k)) ∧ (dxs (n + k) = iI (XV k) ∧ dus (n + k) = iI (UV k) ∧ dys (n + k) = iI (YV k) ∧ dgp (n + k) = bI (GV k)) ∧ (-99 ≤ XV k ∧ XV k ≤ 99) ∧ (-99 ≤ UV k ∧ UV k ≤ 99) ∧ (-99 ≤ YV k ∧ YV k ≤ 99)
theorem RowsT_add {n rr : Nat} {XV UV YV : Nat → Int} {GV : Nat → Bool} {tnu dxs dus dys dgp : Nat → Int32} (h : RowsT n rr XV UV YV GV tnu dxs dus dys dgp) {X U Y : Int} (t : Bool) (hX : -99 ≤ X ∧ X ≤ 99) (hU : -99 ≤ U ∧ U ≤ 99) (hY : -99 ≤ Y ∧ Y ≤ 99) : RowsT n (rr + 1) (setF XV rr X) (setF UV rr U) (setF YV rr Y) (setF GV rr t) (upd (upd (upd tnu (3 * rr) (iI X)) (3 * rr + 1) (iI U)) (3 * rr + 2) (iI Y)) (upd dxs (n + rr) (iI X)) (upd dus (n + rr) (iI U)) (upd dys (n + rr) (iI Y)) (upd dgp (n + rr) (bI t)) := by
  intro k hk
  by_cases e : k = rr
  · subst e
    rw [setF_s, setF_s, setF_s, setF_s, upd_s, upd_s, upd_s, upd_s, upd_s, upd_n _ (by omega), upd_n _ (by omega), upd_s, upd_n _ (by omega), upd_s]
    exact ⟨⟨rfl, rfl, rfl⟩, ⟨rfl, rfl, rfl, rfl⟩, hX, hU, hY⟩
  · rw [setF_n _ e, setF_n _ e, setF_n _ e, setF_n _ e, upd_n dxs (by omega), upd_n dus (by omega), upd_n dys (by omega), upd_n dgp (by omega), upd_n _ (by omega), upd_n _ (by omega), upd_n tnu (by omega), upd_n _ (by omega), upd_n _ (by omega), upd_n tnu (by omega), upd_n _ (by omega), upd_n _ (by omega), upd_n tnu (by omega)]
    exact h k (by omega)
theorem bts_set (GV : Nat → Bool) (rr : Nat) (t : Bool) : bts (setF GV rr t) (rr + 1) = bts GV rr + (if t then 2 ^ rr else 0) := by
  show bts (setF GV rr t) rr + (if setF GV rr t rr then 2 ^ rr else 0) = _
  rw [setF_s, bts_cong (fun r hr => setF_n GV (by omega) t)]
theorem lp_text (N : Nat) (hN : 5000 ≤ N) {len n : Nat} {ct : Nat → Nat} {tby dtp : Nat → Int32} (hT : TP len ct tby dtp) (hn : n ≤ 12) (tfa : Int32) :
    ∀ (d rr fuel i : Nat) (tnu : Nat → Int32) (XV UV YV : Nat → Int) (GV : Nat → Bool) (dxs dus dys dgp : Nat → Int32), rr + d = 12 - n → d + 1 < fuel → i ≤ len → RowsT n rr XV UV YV GV tnu dxs dus dys dgp →
    (∃ (F : Nat) (tga' trr' ta : Int32) (tnu' dxs' dus' dys' dgp' : Nat → Int32), F ≤ len ∧ f_X6_readAll_2 N (iI (12 - (n : Int))) (iI len) tby fuel (iI rr) (iI ((bts GV rr : Nat) : Int)) (iI rr) (iI i) tfa tnu = some (0, tga', trr', ta, iI (F : Int), tnu') ∧ f_X9_text_17 N (iI n) (iI len) dtp fuel 1 (iI ((n + rr : Nat) : Int)) (iI i) 0 dxs dus dys dgp = some ((-20 : Int32) - iI (F : Int), iI n, 0, iI (F : Int), 1, dxs', dus', dys', dgp') ∧ ∀ r, r < n → dxs' r = dxs r ∧ dus' r = dus r ∧ dys' r = dys r ∧ dgp' r = dgp r) ∨
    (∃ (rr' : Nat) (XV' UV' YV' : Nat → Int) (GV' : Nat → Bool) (ta ma' : Int32) (tnu' dxs' dus' dys' dgp' : Nat → Int32), n + rr' ≤ 12 ∧ f_X6_readAll_2 N (iI (12 - (n : Int))) (iI len) tby fuel (iI rr) (iI ((bts GV rr : Nat) : Int)) (iI rr) (iI i) tfa tnu = some (1, iI ((bts GV' rr' : Nat) : Int), iI rr', ta, tfa, tnu') ∧ f_X9_text_17 N (iI n) (iI len) dtp fuel 1 (iI ((n + rr : Nat) : Int)) (iI i) 0 dxs dus dys dgp = some (iI rr', iI ((n + rr' : Nat) : Int), 0, ma', 0, dxs', dus', dys', dgp') ∧ RowsT n rr' XV' UV' YV' GV' tnu' dxs' dus' dys' dgp' ∧ ∀ r, r < n → dxs' r = dxs r ∧ dus' r = dus r ∧ dys' r = dys r ∧ dgp' r = dgp r) := by
  have hl := hT.1
  -- a wrong row ends the text
  have fin : ∀ (k : Nat) (m F : Int32) (dxs dus dys dgp : Nat → Int32), 0 < k → f_X9_text_17 N (iI n) (iI len) dtp k 0 m F 1 dxs dus dys dgp = some ((-20 : Int32) - F, iI n, 0, F, 1, dxs, dus, dys, dgp) := by
    intro k m F dxs dus dys dgp hk
    obtain ⟨k_, rfl⟩ := su_fuel hk
    show b_X9_text_17 N (iI n) (iI len) dtp _ 0 m F 1 dxs dus dys dgp = _
    unfold b_X9_text_17 f_X9_text_55
    rw [if_pos rfl, if_neg (by decide), g1_, if_neg (by decide)]
  have pw : ∀ F : Int32, f_X9_passes N (59 : Int32) (iI len) F 1 dtp = some (0, F) := by
    intro F
    unfold f_X9_passes f_X9_passes_20
    rw [if_neg (by decide), if_pos rfl, g0_, Int32.add_zero]
  intro d
  induction d with
  | zero =>
    intro rr fuel i tnu XV UV YV GV dxs dus dys dgp h1 h2 h3 h4
    obtain ⟨k_, rfl⟩ := su_fuel (Nat.lt_of_le_of_lt (Nat.zero_le _) h2)
    obtain ⟨j1, j2, j3⟩ := Sk_in ct h3
    have L1 := q_look6 N hN hT h3
    have M1 := q_next9 N hN hT h3
    generalize Sk ct len i = j at *
    left
    have r8 : f_X6_readRow N (iI (12 - (n : Int))) (iI len) (iI ((bts GV rr : Nat) : Int)) (iI rr) (iI i) tfa tby tnu = some (0, iI ((bts GV rr : Nat) : Int), iI rr, iI (j : Int), iI (j : Int), tnu) := by
      unfold f_X6_readRow
      rw [b2_p L1, if_pos ((iI_le (by omega)).mpr (by omega)), b2_p (rfl : f_X6_refuse N (iI (j : Int)) = some (0, iI (j : Int))), g0_]
    have r9 : f_X9_oneRow N (iI ((n + rr : Nat) : Int)) (iI len) (iI i) dxs dus dys dgp dtp = some (iI ((n + rr : Nat) : Int), iI (j : Int), 1, dxs, dus, dys, dgp) := by
      have w := row55_w1 N (t0 := iI (j : Int)) (mrm := iI ((n + rr : Nat) : Int)) (mwr := 1) (dxs := dxs) (dus := dus) (dys := dys) (dgp := dgp) (named_w N 120 (iI (len : Int)) (iI (j : Int)) dtp)
      unfold f_X9_oneRow f_X9_oneRow_14 f_X9_oneRow_32
      by_cases c : iI (cM ct len j) = 120
      · rw [if_pos ((k_eqR (by omega)).mpr (by omega)), b2_p M1, if_pos c, g1_, if_neg (by decide), if_neg (fun q => absurd ((k_ltR (by omega)).mp q) (by omega)), w]
      · rw [if_pos ((k_eqR (by omega)).mpr (by omega)), b2_p M1, if_neg c, g1_, if_neg (by decide), if_pos (by decide), w]
    refine ⟨j, iI ((bts GV rr : Nat) : Int), iI rr, iI (j : Int), tnu, dxs, dus, dys, dgp, j2, ?_, ?_, fun r hr => ⟨rfl, rfl, rfl, rfl⟩⟩
    · show b_X6_readAll_2 N (iI (12 - (n : Int))) (iI len) tby _ (iI rr) (iI ((bts GV rr : Nat) : Int)) (iI rr) (iI i) tfa tnu = _
      unfold b_X6_readAll_2
      rw [if_neg (fun q => absurd ((iI_lt (by omega)).mp q) (by omega)), b6_p r8, if_pos rfl]
    · show b_X9_text_17 N (iI n) (iI len) dtp (f_X9_text_17 N (iI n) (iI len) dtp k_) 1 (iI ((n + rr : Nat) : Int)) (iI i) 0 dxs dus dys dgp = _
      unfold b_X9_text_17
      rw [if_neg (by decide), b7_p r9, b2_p (pw _)]
      exact fin k_ _ _ _ _ _ _ (by omega)
  | succ d ih =>
    intro rr fuel i tnu XV UV YV GV dxs dus dys dgp h1 h2 h3 h4
    obtain ⟨k_, rfl⟩ := su_fuel (Nat.lt_of_le_of_lt (Nat.zero_le _) h2)
    have a8 : f_X6_readAll_2 N (iI (12 - (n : Int))) (iI len) tby (k_ + 1) (iI rr) (iI ((bts GV rr : Nat) : Int)) (iI rr) (iI i) tfa tnu = b6 (f_X6_readRow N (iI (12 - (n : Int))) (iI len) (iI ((bts GV rr : Nat) : Int)) (iI rr) (iI i) tfa tby tnu) (fun r3 v4 v5 v6 v7 v8 => (if r3 = 0 then some ((0 : Int32), v4, v5, v6, v7, v8) else b2 (f_X6_look N (iI len) v6 tby) (fun r11 v12 => (if r11 = (-1 : Int32) then some ((1 : Int32), v4, v5, v12, v7, v8) else b3 (f_X6_pass N (59 : Int32) (iI len) v12 v7 tby) (fun r15 v16 v17 => (if r15 = 0 then some ((0 : Int32), v4, v5, v16, v17, v8) else f_X6_readAll_2 N (iI (12 - (n : Int))) (iI len) tby k_ (iI rr + (1 : Int32)) v4 v5 v16 v17 v8)))))) := by
      show b_X6_readAll_2 N (iI (12 - (n : Int))) (iI len) tby _ (iI rr) (iI ((bts GV rr : Nat) : Int)) (iI rr) (iI i) tfa tnu = _
      unfold b_X6_readAll_2
      rw [if_neg (fun q => absurd ((iI_lt (by omega)).mp q) (by omega))]
    have a9 : f_X9_text_17 N (iI n) (iI len) dtp (k_ + 1) 1 (iI ((n + rr : Nat) : Int)) (iI i) 0 dxs dus dys dgp = b7 (f_X9_oneRow N (iI ((n + rr : Nat) : Int)) (iI len) (iI i) dxs dus dys dgp dtp) (fun v8 v9 v10 v11 v12 v13 v14 => b2 (f_X9_passes N (59 : Int32) (iI len) v9 v10 dtp) (fun r16 v17 => f_X9_text_17 N (iI n) (iI len) dtp k_ r16 v8 v17 v10 v11 v12 v13 v14)) := by
      show b_X9_text_17 N (iI n) (iI len) dtp (f_X9_text_17 N (iI n) (iI len) dtp k_) 1 (iI ((n + rr : Nat) : Int)) (iI i) 0 dxs dus dys dgp = _
      unfold b_X9_text_17
      rw [if_neg (by decide)]
    have hp12 := p2_12 (n := rr) (by omega)
    rcases q_row N hN (n := n) (rr := rr) hT h3 (by omega) (bts_lt GV rr) tfa tnu dxs dus dys dgp with ⟨F, tga', ta, tnu', x1, x2, x3⟩ | ⟨p, X, U, Y, t, x1, x2, x3, x4, x5, x6⟩
    · left
      rw [b6_p x2, if_pos rfl] at a8
      rw [b7_p x3, b2_p (pw _), fin k_ _ _ _ _ _ _ (by omega)] at a9
      exact ⟨F, _, _, _, _, dxs, dus, dys, dgp, x1, a8, a9, fun r hr => ⟨rfl, rfl, rfl, rfl⟩⟩
    · obtain ⟨j1, j2, j3⟩ := Sk_in ct x1
      have L1 := q_look6 N hN hT x1
      have P9 := q_passes9 N hN hT x1 (c := 59) (v := 59) (by omega) rfl
      have P8 := q_pass6 N hN hT j2 (c := 59) (v := 59) (by omega) rfl tfa
      have M2 := q_next9 N hN hT j2
      rw [Sk_Sk ct x1] at P8 M2
      generalize Sk ct len p = j at *
      rw [b6_p x5, if_neg (by decide), b2_p L1] at a8
      rw [b7_p x6] at a9
      have hR := RowsT_add h4 (X := X) (U := U) (Y := Y) t x2 x3 x4
      have keep : ∀ r, r < n → upd dxs (n + rr) (iI X) r = dxs r ∧ upd dus (n + rr) (iI U) r = dus r ∧ upd dys (n + rr) (iI Y) r = dys r ∧ upd dgp (n + rr) (bI t) r = dgp r := fun r hr => by
        rw [upd_n _ (by omega), upd_n _ (by omega), upd_n _ (by omega), upd_n _ (by omega)]
        exact ⟨rfl, rfl, rfl, rfl⟩
      have eb := bts_set GV rr t
      by_cases cj : j < len
      · have hcj := hT.2 j cj
        have eA : cA ct len j = ((ct j : Nat) : Int) := by unfold cA; rw [if_pos cj]
        have eM : cM ct len j = ((ct j : Nat) : Int) := by unfold cM; rw [if_pos cj]
        rw [eA, if_neg (fun q => absurd ((k_neR (by omega)).mp q) (by omega))] at a8
        by_cases c59 : j < len ∧ ct j = 59
        · rw [if_pos c59] at P8 P9
          rw [b3_p P8, if_neg (by decide), iI_succ, ← eb] at a8
          rw [b2_p P9] at a9
          rcases ih (rr + 1) k_ (j + 1) _ _ _ _ _ _ _ _ _ (by omega) (by omega) (by omega) hR with ⟨F, tga', trr', ta, tnu', dxs', dus', dys', dgp', y1, y2, y3, y4⟩ | ⟨rr', XV', UV', YV', GV', ta, ma', tnu', dxs', dus', dys', dgp', y1, y2, y3, y4, y5⟩
          · left
            exact ⟨F, tga', trr', ta, tnu', dxs', dus', dys', dgp', y1, a8.trans y2, a9.trans y3, fun r hr => ⟨(y4 r hr).1.trans (keep r hr).1, (y4 r hr).2.1.trans (keep r hr).2.1, (y4 r hr).2.2.1.trans (keep r hr).2.2.1, (y4 r hr).2.2.2.trans (keep r hr).2.2.2⟩⟩
          · right
            exact ⟨rr', XV', UV', YV', GV', ta, ma', tnu', dxs', dus', dys', dgp', y1, a8.trans y2, a9.trans y3, y4, fun r hr => ⟨(y5 r hr).1.trans (keep r hr).1, (y5 r hr).2.1.trans (keep r hr).2.1, (y5 r hr).2.2.1.trans (keep r hr).2.2.1, (y5 r hr).2.2.2.trans (keep r hr).2.2.2⟩⟩
        · rw [if_neg c59] at P8 P9
          left
          rw [b3_p P8, if_pos rfl] at a8
          rw [b2_p P9] at a9
          refine ⟨j, _, _, _, _, _, _, _, _, j2, a8, a9.trans ?_, keep⟩
          obtain ⟨m_, rfl⟩ := su_fuel (N := k_) (by omega)
          show b_X9_text_17 N (iI n) (iI len) dtp _ 0 (iI ((n + rr + 1 : Nat) : Int)) (iI (j : Int)) 0 _ _ _ _ = _
          unfold b_X9_text_17 f_X9_text_55
          rw [if_pos rfl, if_pos rfl, b2_p M2, eM, if_neg (fun q => absurd ((k_eqR (by omega)).mp q) (by omega)), g1_, if_neg (by decide)]
      · have eA : cA ct len j = -1 := by unfold cA; rw [if_neg cj]
        have eM : cM ct len j = 0 := by unfold cM; rw [if_neg cj]
        rw [eA, if_pos (show iI (-1) = (-1 : Int32) from rfl), ← eb] at a8
        rw [if_neg (fun q => cj q.1)] at P9
        rw [b2_p P9] at a9
        right
        refine ⟨rr + 1, _, _, _, _, _, iI (j : Int), _, _, _, _, _, by omega, a8, a9.trans ?_, hR, keep⟩
        obtain ⟨m_, rfl⟩ := su_fuel (N := k_) (by omega)
        show b_X9_text_17 N (iI n) (iI len) dtp _ 0 (iI ((n + rr + 1 : Nat) : Int)) (iI (j : Int)) 0 _ _ _ _ = _
        unfold b_X9_text_17 f_X9_text_55
        rw [if_pos rfl, if_pos rfl, b2_p M2, eM, if_pos (show iI 0 = (0 : Int32) from rfl), g0_, if_pos rfl, iI_sub]
        have er : (((n + rr + 1 : Nat) : Int) - (n : Int)) = ((rr + 1 : Nat) : Int) := by omega
        rw [er]; rfl
theorem upd_id {f : Nat → Int32} {n : Nat} {v : Int32} (h : f n = v) : upd f n v = f := by
  funext k
  by_cases c : k = n
  · rw [c, upd_s, h]
  · rw [upd_n _ c]
theorem lp_text8 (N : Nat) (hN : 5000 ≤ N) {n rr E : Nat} {XV UV YV : Nat → Int} {GV : Nat → Bool} {tnu dxs dus dys dgp : Nat → Int32} {tle ta tfa ber mer pgc prc : Int32} {pgr pla : Nat → Int32} (hnr : n + rr ≤ 12) (hR : RowsT n rr XV UV YV GV tnu dxs dus dys dgp) :
    ∀ (d k fuel : Nat) (bsz bgp : Int32) (bxs bus bys bme : Nat → Int32) (RX RU RY : Nat → Int) (G : Nat → Bool), k + d = rr → d < fuel → InvB bsz bgp ber bxs bus bys bme (iI ((n + k : Nat) : Int)) mer dxs dus dys dgp (n + k) E RX RU RY G → InvP pgc prc pgr pla (n + k) (fun law => bts (mt RX RU RY G E law) (n + k)) →
    ∃ (bsz' bgp' : Int32) (bxs' bus' bys' bme' : Nat → Int32) (RX' RU' RY' : Nat → Int) (G' : Nat → Bool), f_X8_text_17 N (iI rr) tle (iI ((bts GV rr : Nat) : Int)) (iI rr) ta tfa tnu ber fuel (iI k) bsz bgp bxs bus bys bme = some (iI rr, tle, iI ((bts GV rr : Nat) : Int), iI rr, ta, tfa, tnu, bsz', bgp', bxs', bus', bys', bme') ∧ InvB bsz' bgp' ber bxs' bus' bys' bme' (iI ((n + rr : Nat) : Int)) mer dxs dus dys dgp (n + rr) E RX' RU' RY' G' ∧ InvP pgc prc pgr pla (n + rr) (fun law => bts (mt RX' RU' RY' G' E law) (n + rr)) := by
  have hb := bts_small GV (n := rr) (by omega)
  intro d
  induction d with
  | zero =>
    intro k fuel bsz bgp bxs bus bys bme RX RU RY G h1 h2 hB hP
    obtain ⟨k_, rfl⟩ := su_fuel h2
    have e : k = rr := by omega
    subst e
    refine ⟨bsz, bgp, bxs, bus, bys, bme, RX, RU, RY, G, ?_, hB, hP⟩
    show b_X8_text_17 N (iI k) tle _ _ ta tfa tnu ber _ (iI (k : Int)) bsz bgp bxs bus bys bme = _
    unfold b_X8_text_17
    rw [if_pos ((iI_le (by omega)).mpr (Int.le_refl _))]
  | succ d ih =>
    intro k fuel bsz bgp bxs bus bys bme RX RU RY G h1 h2 hB hP
    obtain ⟨k_, rfl⟩ := su_fuel (Nat.lt_of_le_of_lt (Nat.zero_le _) h2)
    obtain ⟨⟨t1, t2, t3⟩, ⟨d1, d2, d3, d4⟩, x1, x2, x3⟩ := hR k (by omega)
    have hB2 := InvB_add hB (by omega) (X := XV k) (U := UV k) (Y := YV k) (GV k) x1 x2 x3 (y9 := iI (YV k)) rfl
    rw [upd_id d1, upd_id d2, upd_id d3, upd_id d4] at hB2
    obtain ⟨bsz', bgp', bxs', bus', bys', bme', RX', RU', RY', G', e8, hB', hP'⟩ := ih (k + 1) k_ _ _ _ _ _ _ _ _ _ _ (by omega) (by omega) hB2 (InvP_add hP (XV k) (UV k) (YV k) (GV k))
    obtain ⟨⟨hn, hE, rfl, -, rfl, rfl, rfl⟩, -, -⟩ := hB
    refine ⟨bsz', bgp', bxs', bus', bys', bme', RX', RU', RY', G', ?_, hB', hP'⟩
    have hh : f_X6_hand N (iI k) (iI ((bts GV rr : Nat) : Int)) (iI rr) tnu (iI ((n + k : Nat) : Int)) (iI ((bts G (n + k) : Nat) : Int)) (iI E) bxs bus bys bme = some (iI ((n + k + 1 : Nat) : Int), iI ((bts G (n + k) + (if GV k then 2 ^ (n + k) else 0) : Nat) : Int), upd bxs (n + k) (iI (XV k)), upd bus (n + k) (iI (UV k)), upd bys (n + k) (iI (YV k)), entF 0 (n + k) (fun l => GV k || fit l (XV k) (UV k) (YV k) E) bme) := by
      have eg : (bts GV rr).testBit k = GV k := by rw [bts_tb, decide_eq_true (by omega)]; rfl
      have q := q_add0 N hN (GV k) (n := n + k) (by omega) (bts_lt G (n + k)) hE x1 x2 x3 bme (bxs := bxs) (bus := bus) (bys := bys)
      unfold f_X6_hand
      rw [if_neg (fun c => absurd ((k_ltR (by omega)).mp c) (by omega)), if_neg (fun c => absurd ((iI_le (by omega)).mp c) (by omega)), if_neg (fun c => absurd ((k_leL (by omega)).mp c) (by omega)), m3_I, iI_succ, iI_two, gi_I (by omega) (by omega) (by omega), gi_I (by omega) (by omega) (by omega), gi_I (by omega) (by omega) (by omega), iI_clampN (by omega), iI_clampN (by omega), iI_clampN (by omega), t1, t2, t3, q_bit (by omega) (by omega), eg, ifb]
      cases hG : GV k with
      | false =>
        rw [hG] at q
        rw [cond_false]
        exact b7_p q _
      | true =>
        rw [hG] at q
        rw [cond_true]
        exact b7_p q _
    show b_X8_text_17 N (iI rr) tle _ _ ta tfa tnu (iI E) (f_X8_text_17 N (iI rr) tle _ _ ta tfa tnu (iI E) k_) (iI (k : Int)) _ _ bxs bus bys bme = _
    unfold b_X8_text_17
    rw [if_neg (fun c => absurd ((iI_le (by omega)).mp c) (by omega))]
    refine (b6_p hh _).trans ?_
    rw [iI_succ]
    exact e8
theorem P_text : PS_text InvA := by
  intro N hN bsz bgp ber bxs bus bys bme pgc prc pgr pla tle tga trr tat tfa tby tnu rlc rla rmo ksz kmb kwa kra kla lo hi glo ghi sla ssz sit mrm mer mtd mat mwr mkn mmb mwa mra mbl mbh dxs dus dys dgp dtp dme dle dlt dkl dln dsz dit dmv hI
  have hI' := hI
  obtain ⟨n, E, RX, RU, RY, G, hB, hP, ⟨len, hl, rfl, rfl, ht⟩, hK⟩ := hI'
  have hB0 := hB
  obtain ⟨⟨hn, hE, rfl, rfl, -, -, -⟩, -, -⟩ := hB0
  have hT : TP len (fun i => (tby i).toInt.toNat) tby dtp := ⟨hl, fun i hi => by
    obtain ⟨ch, g1, g2, g3, g4⟩ := ht i hi
    have e : (tby i).toInt.toNat = ch := by
      rw [g3, iI_toInt (by omega) (by omega)]; omega
    dsimp only
    rw [e]
    exact ⟨g1, g2, g3, g4⟩⟩
  have er : f_X0_room N (iI (n : Int)) = some (iI (12 - (n : Int))) := by
    unfold f_X0_room
    rw [litN 12, iI_sub]; rfl
  have keepB : ∀ (dxs' dus' dys' dgp' : Nat → Int32) (tle' mtd' : Int32), (∀ r, r < n → dxs' r = dxs r ∧ dus' r = dus r ∧ dys' r = dys r ∧ dgp' r = dgp r) → InvB (iI (n : Int)) bgp ber bxs bus bys bme (iI (n : Int)) mer dxs' dus' dys' dgp' n E RX RU RY G := by
    intro dxs' dus' dys' dgp' _ _ hk
    obtain ⟨b1_, b2_, b3_⟩ := hB
    refine ⟨b1_, fun r hr => ?_, b3_⟩
    obtain ⟨k1, k2, k3, k4⟩ := hk r hr
    rw [k1, k2, k3, k4]
    exact b2_ r hr
  have hT0 : InvT 0 tby 0 dtp := ⟨0, by omega, rfl, rfl, fun i hi => by omega⟩
  rcases lp_text N hN hT hn tfa (12 - n) 0 N 0 tnu (fun _ => 0) (fun _ => 0) (fun _ => 0) (fun _ => false) dxs dus dys dgp (by omega) (by omega) (by omega) (fun k hk => by omega) with ⟨F, tga', trr', ta, tnu', dxs', dus', dys', dgp', y1, y2, y3, y4⟩ | ⟨rr', XV', UV', YV', GV', ta, ma', tnu', dxs', dus', dys', dgp', y1, y2, y3, y4, y5⟩
  · have r8 : f_X6_read N (iI (12 - (n : Int))) (iI (len : Int)) tfa tby tnu = some ((-20 : Int32) - iI (F : Int), 0, tga', trr', ta, iI (F : Int), tnu') := by
      unfold f_X6_read f_X6_readAll
      refine (b6_p y2 _).trans ?_
      rw [if_pos rfl]
    have en : (-20 : Int32) - iI (F : Int) = iI (-20 - (F : Int)) := by
      have e5 : (-20 : Int32) = iI (-20) := rfl
      rw [e5, iI_sub]
    refine ⟨(-20 : Int32) - iI (F : Int), 0, tga', trr', ta, iI (F : Int), tnu', iI (n : Int), bgp, bxs, bus, bys, bme, iI (n : Int), 0, iI (F : Int), 1, dxs', dus', dys', dgp', ?_, y3, n, E, RX, RU, RY, G, keepB dxs' dus' dys' dgp' 0 0 y4, hP, hT0, hK⟩
    unfold f_X8_text
    rw [b1_p er, b7_p r8]
    obtain ⟨m_, hm_⟩ := su_fuel (N := N) (by omega)
    rw [hm_]
    show b_X8_text_17 _ _ _ _ _ _ _ _ _ _ _ _ _ _ _ _ _ = _
    unfold b_X8_text_17
    rw [if_pos]
    rw [en]
    exact (k_leR (by omega)).mpr (by omega)
  · have r8 : f_X6_read N (iI (12 - (n : Int))) (iI (len : Int)) tfa tby tnu = some (iI rr', 0, iI ((bts GV' rr' : Nat) : Int), iI rr', ta, tfa, tnu') := by
      unfold f_X6_read f_X6_readAll
      refine (b6_p y2 _).trans ?_
      rw [if_neg (by decide)]
    obtain ⟨bsz', bgp', bxs', bus', bys', bme', RX', RU', RY', G', e8, hB', hP'⟩ := lp_text8 N hN (tle := 0) (ta := ta) (tfa := tfa) (pgc := pgc) (prc := prc) (pgr := pgr) (pla := pla) y1 y4 rr' 0 N _ _ _ _ _ _ RX RU RY G (by omega) (by omega) (keepB dxs' dus' dys' dgp' 0 0 y5) hP
    refine ⟨iI rr', 0, iI ((bts GV' rr' : Nat) : Int), iI rr', ta, tfa, tnu', bsz', bgp', bxs', bus', bys', bme', iI ((n + rr' : Nat) : Int), 0, ma', 0, dxs', dus', dys', dgp', ?_, y3, n + rr', E, RX', RU', RY', G', hB', hP', hT0, hK⟩
    unfold f_X8_text
    rw [b1_p er, b7_p r8]
    exact e8
