/-! the reference's tables -/
theorem nm_p {α β : Type} (x : α) (g : α → Option β) : nm x g = g x := rfl
theorem gi_0 {α : Type} (a : Option α) : gi (0 : Int32) 4096 a = a := rfl
theorem or_0 (a : Nat) : iI (a : Int) ||| (0 : Int32) = iI (a : Int) := by
  have h := iI_or a 0
  rw [Nat.or_zero] at h
  exact h
theorem all_9 {n : Nat} (hn : n ≤ 12) : ((1 : Int32) <<< (iI (n : Int) &&& 31)) - (1 : Int32) = iI ((2 ^ n - 1 : Nat) : Int) := by
  have h1 := p2_12 hn
  have h2 := p2_pos n
  rw [q_shl1 (by omega), l1_I, iI_sub]
  congr 1; omega
theorem lp_t18 (N : Nat) {n E l : Nat} {RX RU RY : Nat → Int} {G : Nat → Bool} {dxs dus dys dgp : Nat → Int32} (hR : RowsM n E RX RU RY G dxs dus dys dgp) (hl : l < 289) (k2 : Int32 → (Nat → Int32) → (Nat → Int32) → Option ((Nat → Int32) × (Nat → Int32))) (dle : Nat → Int32) :
    ∀ (d r fuel : Nat) (dme : Nat → Int32), r + d = n → d < fuel → dme l = iI ((bts (mt RX RU RY G E l) r : Nat) : Int) → ∃ dme' : Nat → Int32, f_X9_tables_18 N k2 (iI l) (iI n) (iI E) dxs dus dys dgp dle fuel (iI r) dme = k2 (iI ((l + 1 : Nat) : Int)) dme' dle ∧ dme' l = iI ((bts (mt RX RU RY G E l) n : Nat) : Int) ∧ ∀ q, q ≠ l → dme' q = dme q := by
  have hN12 := hR.1
  intro d
  induction d with
  | zero =>
    intro r fuel dme h1 h2 h3
    obtain ⟨k_, rfl⟩ := su_fuel h2
    have e : r = n := by omega
    subst e
    refine ⟨dme, ?_, h3, fun _ _ => rfl⟩
    show b_X9_tables_18 N k2 (iI l) (iI r) (iI E) dxs dus dys dgp dle _ (iI (r : Int)) dme = _
    unfold b_X9_tables_18
    rw [if_pos ((iI_le (by omega)).mpr (Int.le_refl _)), iI_succ]
  | succ d ih =>
    intro r fuel dme h1 h2 h3
    obtain ⟨k_, rfl⟩ := su_fuel (Nat.lt_of_le_of_lt (Nat.zero_le _) h2)
    have hrn : r < n := by omega
    have eb : bts (mt RX RU RY G E l) (r + 1) = bts (mt RX RU RY G E l) r + (if mt RX RU RY G E l r then 2 ^ r else 0) := rfl
    cases hm : mt RX RU RY G E l r with
    | false =>
      rw [hm] at eb
      obtain ⟨dme', e1, e2, e3⟩ := ih (r + 1) k_ (upd dme l (iI ((bts (mt RX RU RY G E l) r : Nat) : Int))) (by omega) (by omega) (by rw [upd_s, eb]; rfl)
      refine ⟨dme', ?_, e2, fun q hq => by rw [e3 q hq, upd_n _ hq]⟩
      show b_X9_tables_18 N k2 (iI l) (iI n) (iI E) dxs dus dys dgp dle (f_X9_tables_18 N k2 (iI l) (iI n) (iI E) dxs dus dys dgp dle k_) (iI (r : Int)) dme = _
      unfold b_X9_tables_18
      rw [if_neg (fun c => absurd ((iI_le (by omega)).mp c) (by omega)), gi_I (by omega) (by omega) (by omega), b1_p (q_does9 N hR.1 hR.2.1 hl hrn (hR.2.2 r hrn)), hm, bI_f, if_pos rfl, gi_I (by omega) (by omega) (by omega), iI_clampN (n := l) (by omega), h3, or_0, iI_succ r, e1]
    | true =>
      rw [hm] at eb
      obtain ⟨dme', e1, e2, e3⟩ := ih (r + 1) k_ (upd dme l (iI ((bts (mt RX RU RY G E l) r + 2 ^ r : Nat) : Int))) (by omega) (by omega) (by rw [upd_s, eb]; rfl)
      refine ⟨dme', ?_, e2, fun q hq => by rw [e3 q hq, upd_n _ hq]⟩
      show b_X9_tables_18 N k2 (iI l) (iI n) (iI E) dxs dus dys dgp dle (f_X9_tables_18 N k2 (iI l) (iI n) (iI E) dxs dus dys dgp dle k_) (iI (r : Int)) dme = _
      unfold b_X9_tables_18
      rw [if_neg (fun c => absurd ((iI_le (by omega)).mp c) (by omega)), gi_I (by omega) (by omega) (by omega), b1_p (q_does9 N hR.1 hR.2.1 hl hrn (hR.2.2 r hrn)), hm, bI_t, if_neg (by decide), gi_I (by omega) (by omega) (by omega), iI_clampN (n := l) (by omega), h3, q_shl1 (by omega), iI_or, bts_or, iI_succ r, e1]
theorem lp_t93 (N : Nat) {S : Nat} {W T : Nat → Nat} {dme dle : Nat → Int32} (hS : S < 4096) (h0 : 0 < S) (hW : ∀ law, W law < 4096) (hm : ∀ law, law < 289 → dme law = iI ((W law : Nat) : Int)) (hT : ∀ R, R < S → dle R = iI ((T R : Nat) : Int) ∧ T R ≤ 100) (k72 : Int32 → (Nat → Int32) → Option ((Nat → Int32) × (Nat → Int32))) (mrm : Int32) :
    ∀ (d k fuel : Nat), k + d = 289 → d < fuel → f_X9_tables_93 N k72 (iI S) (iI ((lowb S : Nat) : Int)) mrm dme fuel (iI ((stepMin W T S k : Nat) : Int)) (iI k) dle = k72 (iI ((S + 1 : Nat) : Int)) (upd dle S (iI ((stepMin W T S 289 : Nat) : Int))) := by
  intro d
  induction d with
  | zero =>
    intro k fuel h1 h2
    obtain ⟨k_, rfl⟩ := su_fuel h2
    have e : k = 289 := by omega
    subst e
    show b_X9_tables_93 N k72 (iI S) (iI ((lowb S : Nat) : Int)) mrm dme _ (iI ((stepMin W T S 289 : Nat) : Int)) (iI ((289 : Nat) : Int)) dle = _
    unfold b_X9_tables_93
    rw [if_pos ((k_leL (by omega)).mpr (by omega)), gi_I (by omega) (by omega) (by omega), iI_clampN (n := S) (by omega), iI_succ]
  | succ d ih =>
    intro k fuel h1 h2
    obtain ⟨k_, rfl⟩ := su_fuel (Nat.lt_of_le_of_lt (Nat.zero_le _) h2)
    have h100 := stepMin_100 W T S k
    have i1 := ih (k + 1) k_ (by omega) (by omega)
    have es : stepMin W T S (k + 1) = if (W k &&& lowb S) = 0 then stepMin W T S k else min (stepMin W T S k) (T (restS S (W k)) + 1) := rfl
    show b_X9_tables_93 N k72 (iI S) (iI ((lowb S : Nat) : Int)) mrm dme (f_X9_tables_93 N k72 (iI S) (iI ((lowb S : Nat) : Int)) mrm dme k_) (iI ((stepMin W T S k : Nat) : Int)) (iI k) dle = _
    unfold b_X9_tables_93
    rw [if_neg (fun c => absurd ((k_leL (by omega)).mp c) (by omega)), gi_I (by omega) (by omega) (by omega), iI_clampN (n := k) (by omega), hm k (by omega), iI_succ k]
    by_cases c : W k &&& lowb S = 0
    · rw [es, if_pos c] at i1
      rw [if_pos ((an_0 (hW k)).mpr c)]
      exact i1
    · have hl := low_lt hS h0 c
      obtain ⟨t1, t2⟩ := hT (restS S (W k)) hl
      rw [es, if_neg c] at i1
      rw [if_neg (fun q => c ((an_0 (hW k)).mp q)), gi_I (by omega) (by omega) (by omega), and_not, gi_I (by omega) (by omega) (by omega), iI_clampN (n := restS S (W k)) (by omega), t1, iI_succ (T (restS S (W k))), nm_p]
      by_cases q : stepMin W T S k ≤ T (restS S (W k)) + 1
      · rw [Nat.min_eq_left q] at i1
        rw [if_pos ((iI_le (by omega)).mpr (by omega))]
        exact i1
      · rw [Nat.min_eq_right (by omega)] at i1
        rw [if_neg (fun z => q (by have := (iI_le (by omega)).mp z; omega))]
        exact i1
theorem lp_t72 (N : Nat) (hN : 5000 ≤ N) {n : Nat} {W : Nat → Nat} {dme : Nat → Int32} (hn : n ≤ 12) (hW : ∀ law, W law < 4096) (hm : ∀ law, law < 289 → dme law = iI ((W law : Nat) : Int)) :
    ∀ (d S fuel : Nat) (dle : Nat → Int32), S + d = 2 ^ n → 0 < S → d < fuel → (∀ R, R < S → dle R = iI ((covT W R : Nat) : Int)) → ∃ dle' : Nat → Int32, f_X9_tables_72 N (iI n) dme fuel (iI S) dle = some (dme, dle') ∧ ∀ R, R < 2 ^ n → dle' R = iI ((covT W R : Nat) : Int) := by
  have h12 := p2_12 hn
  intro d
  induction d with
  | zero =>
    intro S fuel dle h1 h0 h2 h4
    obtain ⟨k_, rfl⟩ := su_fuel h2
    have e : S = 2 ^ n := by omega
    subst e
    refine ⟨dle, ?_, h4⟩
    show b_X9_tables_72 N (iI n) dme _ (iI ((2 ^ n : Nat) : Int)) dle = _
    unfold b_X9_tables_72
    rw [q_shl1 (by omega), if_pos ((iI_le (by omega)).mpr (Int.le_refl _))]
  | succ d ih =>
    intro S fuel dle h1 h0 h2 h4
    obtain ⟨k_, rfl⟩ := su_fuel (Nat.lt_of_le_of_lt (Nat.zero_le _) h2)
    obtain ⟨dle', e1, e2⟩ := ih (S + 1) k_ (upd dle S (iI ((covT W S : Nat) : Int))) (by omega) (by omega) (by omega) (fun R hR => by
      by_cases e : R = S
      · subst e; rw [upd_s]
      · rw [upd_n _ e]; exact h4 R (by omega))
    refine ⟨dle', ?_, e2⟩
    show b_X9_tables_72 N (iI n) dme (f_X9_tables_72 N (iI n) dme k_) (iI S) dle = _
    unfold b_X9_tables_72
    rw [q_shl1 (by omega), if_neg (fun c => absurd ((iI_le (by omega)).mp c) (by omega)), q_lowb (by omega)]
    have t := lp_t93 N (S := S) (T := covT W) (dle := dle) (by omega) h0 hW hm (fun R hR => ⟨h4 R hR, covT_100 W (by omega)⟩) (f_X9_tables_72 N (iI n) dme k_) (iI n) 289 0 N rfl (by omega)
    rw [← covT_eq W (by omega) h0] at t
    exact t.trans e1
theorem lp_t2 (N : Nat) (hN : 5000 ≤ N) {n E : Nat} {RX RU RY : Nat → Int} {G : Nat → Bool} {dxs dus dys dgp : Nat → Int32} (hR : RowsM n E RX RU RY G dxs dus dys dgp) :
    ∀ (d l fuel : Nat) (dme dle : Nat → Int32), l + d = 289 → d < fuel → (∀ q, q < l → dme q = iI ((bts (mt RX RU RY G E q) n : Nat) : Int)) → ∃ dme' dle' : Nat → Int32, f_X9_tables_2 N (iI n) (iI E) dxs dus dys dgp fuel (iI l) dme dle = some (dme', dle') ∧ (∀ law, law < 289 → dme' law = iI ((bts (mt RX RU RY G E law) n : Nat) : Int)) ∧ ∀ R, R < 2 ^ n → dle' R = iI ((covT (fun law => bts (mt RX RU RY G E law) n) R : Nat) : Int) := by
  have hn := hR.1
  have h12 := p2_12 hn
  have hp := p2_pos n
  intro d
  induction d with
  | zero =>
    intro l fuel dme dle h1 h2 h3
    obtain ⟨k_, rfl⟩ := su_fuel h2
    have e : l = 289 := by omega
    subst e
    obtain ⟨dle', e1, e2⟩ := lp_t72 N hN (W := fun law => bts (mt RX RU RY G E law) n) (dme := dme) hn (fun law => bts_small _ hn) h3 (2 ^ n - 1) 1 N (upd dle 0 0) (by omega) (by omega) (by omega) (fun R hR => by
      have e : R = 0 := by omega
      subst e; rw [upd_s, covT_0]; rfl)
    refine ⟨dme, dle', ?_, h3, e2⟩
    show b_X9_tables_2 N (iI n) (iI E) dxs dus dys dgp _ (iI ((289 : Nat) : Int)) dme dle = _
    unfold b_X9_tables_2
    rw [if_pos ((k_leL (by omega)).mpr (by omega)), gi_0]
    exact e1
  | succ d ih =>
    intro l fuel dme dle h1 h2 h3
    obtain ⟨k_, rfl⟩ := su_fuel (Nat.lt_of_le_of_lt (Nat.zero_le _) h2)
    have hl : l < 289 := by omega
    obtain ⟨dme1, a1, a2, a3⟩ := lp_t18 N hR hl (f_X9_tables_2 N (iI n) (iI E) dxs dus dys dgp k_) dle n 0 N (upd dme l 0) (by omega) (by omega) (by rw [upd_s]; rfl)
    obtain ⟨dme', dle', e1, e2⟩ := ih (l + 1) k_ dme1 dle (by omega) (by omega) (fun q hq => by
      by_cases e : q = l
      · subst e; exact a2
      · rw [a3 q e, upd_n _ e]; exact h3 q (by omega))
    refine ⟨dme', dle', ?_, e2⟩
    show b_X9_tables_2 N (iI n) (iI E) dxs dus dys dgp (f_X9_tables_2 N (iI n) (iI E) dxs dus dys dgp k_) (iI l) dme dle = _
    unfold b_X9_tables_2
    rw [if_neg (fun c => absurd ((k_leL (by omega)).mp c) (by omega)), gi_I (by omega) (by omega) (by omega), iI_clampN (n := l) (by omega)]
    exact a1.trans e1
theorem q_tables9 (N : Nat) (hN : 5000 ≤ N) {n E : Nat} {RX RU RY : Nat → Int} {G : Nat → Bool} {dxs dus dys dgp : Nat → Int32} (hR : RowsM n E RX RU RY G dxs dus dys dgp) (dme dle : Nat → Int32) : ∃ dme' dle' : Nat → Int32, f_X9_tables N (iI n) (iI E) dxs dus dys dgp dme dle = some (dme', dle') ∧ (∀ law, law < 289 → dme' law = iI ((bts (mt RX RU RY G E law) n : Nat) : Int)) ∧ ∀ R, R < 2 ^ n → dle' R = iI ((covT (fun law => bts (mt RX RU RY G E law) n) R : Nat) : Int) :=
  lp_t2 N hN hR 289 0 N dme dle rfl (by omega) (fun q hq => by omega)
/-! fewest -/
def fewR (t : Nat) : Int32 := if t < 100 then iI t else -4
theorem q_least8 (N : Nat) (hN : 5000 ≤ N) {n : Nat} {W : Nat → Nat} {pgc prc : Int32} {pgr pla bme : Nat → Int32} (hn : n ≤ 12) (hW : ∀ law, W law < 4096) (hm : ∀ law, law < 289 → bme law = iI ((W law : Nat) : Int)) (hP : InvP pgc prc pgr pla n W) : ∃ (pgc' : Int32) (pgr' pla' : Nat → Int32), f_X4_leastLaws N pgc prc pgr pla (iI n) bme = some (fewR (covT W (2 ^ n - 1)), pgc', iI n, pgr', pla') ∧ (∀ R, R < 2 ^ n → pla' R = iI ((covT W R : Nat) : Int)) ∧ (0 < n → Great pgc' pgr' W) := by
  have h12 := p2_12 hn
  have hp := p2_pos n
  obtain ⟨pgc', pgr', pla', e1, e2, e3⟩ := q_ch N hN hn hW hm hP
  have hc := covT_100 W (S := 2 ^ n - 1) (by omega)
  refine ⟨pgc', pgr', pla', ?_, e2, e3⟩
  unfold f_X4_leastLaws fewR
  rw [b4_p e1, b1_p (q_all0 N hn), b1_p (q_lf N (by omega) pla'), e2 (2 ^ n - 1) (by omega)]
  by_cases c : covT W (2 ^ n - 1) < 100
  · rw [if_pos ((k_ltR (by omega)).mpr (by omega)), if_pos c]
  · rw [if_neg (fun z => c (by have := (k_ltR (by omega)).mp z; omega)), if_neg c]
theorem P_fewest : PS_fewest InvA := by
  intro N hN bsz bgp ber bxs bus bys bme pgc prc pgr pla tle tga trr tat tfa tby tnu rlc rla rmo ksz kmb kwa kra kla lo hi glo ghi sla ssz sit mrm mer mtd mat mwr mkn mmb mwa mra mbl mbh dxs dus dys dgp dtp dme dle dlt dkl dln dsz dit dmv hI 
  obtain ⟨n, E, RX, RU, RY, G, hB, hP, hR⟩ := hI
  have hB' := hB
  obtain ⟨⟨hn, hE, rfl, rfl, rfl, rfl, rfl⟩, hr, hm⟩ := hB'
  have h12 := p2_12 hn
  have hp := p2_pos n
  have hRM : RowsM n E RX RU RY G dxs dus dys dgp := ⟨hn, hE, fun r h => (hr r h).2⟩
  obtain ⟨pgc', pgr', pla', e1, e2, e3⟩ := q_least8 N hN (W := fun law => bts (mt RX RU RY G E law) n) hn (fun law => bts_small _ hn) hm hP
  obtain ⟨dme', dle', t1, t2, t3⟩ := q_tables9 N hN hRM dme dle
  have hc := covT_100 (fun law => bts (mt RX RU RY G E law) n) (S := 2 ^ n - 1) (by omega)
  refine ⟨fewR (covT (fun law => bts (mt RX RU RY G E law) n) (2 ^ n - 1)), pgc', iI n, pgr', pla', dme', dle', ?_, ?_, n, E, RX, RU, RY, G, hB, InvP_of hn e2 e3, hR⟩
  · unfold f_X8_fewest
    rw [b5_p e1]
  · unfold f_X9_fewest fewR
    rw [b2_p t1, all_9 hn, gi_I (by omega) (by omega) (by omega), iI_clampN (n := 2 ^ n - 1) (by omega), t3 (2 ^ n - 1) (by omega), nm_p]
    by_cases c : covT (fun law => bts (mt RX RU RY G E law) n) (2 ^ n - 1) < 100
    · rw [if_pos ((k_ltR (by omega)).mpr (by omega)), if_pos c]
    · rw [if_neg (fun z => c (by have := (k_ltR (by omega)).mp z; omega)), if_neg c]
