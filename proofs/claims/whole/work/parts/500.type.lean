/-! typed bytes -/
theorem b255 (x : Int64) : ∃ n : Nat, n ≤ 255 ∧ (x &&& 255).toInt = (n : Int) ∧ (x &&& 255).toInt32 = iI (n : Int) := by
  have h0 : (x &&& 255).toBitVec = x.toBitVec &&& (255 : Int64).toBitVec := rfl
  have h1 : (x &&& 255).toBitVec.toNat ≤ 255 := by
    rw [h0, BitVec.toNat_and]
    exact Nat.and_le_right
  have h2 : (x &&& 255).toInt = ((x &&& 255).toBitVec.toNat : Int) := by
    show (x &&& 255).toBitVec.toInt = _
    exact BitVec.toInt_eq_toNat_of_lt (by omega)
  refine ⟨(x &&& 255).toBitVec.toNat, h1, h2, ?_⟩
  apply Int32.toInt_inj.mp
  rw [Int64.toInt_toInt32, h2, iI_toInt (by omega) (by omega)]
  generalize (x &&& 255).toBitVec.toNat = q at *
  have e1 : (((2 ^ 32 : Nat) : Int)) = 4294967296 := by decide
  apply Int.bmod_eq_of_le
  · rw [e1]; omega
  · rw [e1]; omega
def btw (w : Int64) (k : Nat) : Int64 := (w >>> (((8 : Int32) * iI (k : Int)).toInt64 &&& 63)) &&& (255 : Int64)
def okW (w : Int64) (k : Nat) : Bool := decide (32 ≤ (btw w k).toInt) && decide ((btw w k).toInt ≤ 126)
theorem q_byte (N : Nat) (w : Int64) (k : Nat) : f_X6_byteOf N w (iI (k : Int)) = some ((btw w k).toInt32) := rfl
theorem lp_ap16 (N : Nat) {w : Int64} {m : Nat} (hm : m ≤ 8) (tle : Int32) (tby : Nat → Int32) : ∀ (d t fuel : Nat), t + d = m → d < fuel → f_X6_append_16 N w (iI m) tle tby fuel (iI t) = bif allF (okW w) d t then (if iI m ≤ ((120 : Int32) - tle) then f_X6_append_71 N w N (iI m - (1 : Int32)) tle tby else some ((-3 : Int32), tle, tby)) else some ((-1 : Int32), tle, tby) := by
  intro d
  induction d with
  | zero =>
    intro t fuel h1 h2
    obtain ⟨k_, rfl⟩ := su_fuel h2
    have e : t = m := by omega
    subst e
    show b_X6_append_16 N w (iI t) tle tby _ (iI (t : Int)) = _
    unfold b_X6_append_16 allF
    rw [if_pos ((iI_le (by omega)).mpr (Int.le_refl _))]; rfl
  | succ d ih =>
    intro t fuel h1 h2
    obtain ⟨k_, rfl⟩ := su_fuel (Nat.lt_of_le_of_lt (Nat.zero_le _) h2)
    have i1 := ih (t + 1) k_ (by omega) (by omega)
    obtain ⟨n, g1, g2, g3⟩ := b255 (w >>> (((8 : Int32) * iI (t : Int)).toInt64 &&& 63))
    have g2' : (btw w t).toInt = (n : Int) := g2
    have g3' : (btw w t).toInt32 = iI (n : Int) := g3
    have eo : okW w t = (decide (32 ≤ (n : Int)) && decide ((n : Int) ≤ 126)) := by unfold okW; rw [g2']
    show b_X6_append_16 N w (iI m) tle tby (f_X6_append_16 N w (iI m) tle tby k_) (iI t) = _
    unfold b_X6_append_16 allF
    rw [if_neg (fun q => absurd ((iI_le (by omega)).mp q) (by omega)), b1_p (q_byte N w t), b1_p (q_byte N w t), g3', iI_succ, i1, eo]
    by_cases c1 : n < 32
    · rw [if_pos ((k_ltR (by omega)).mpr (by omega)), decide_eq_false (p := 32 ≤ (n : Int)) (by omega)]; rfl
    · rw [if_neg (fun q => absurd ((k_ltR (by omega)).mp q) (by omega)), decide_eq_true (p := 32 ≤ (n : Int)) (by omega)]
      by_cases c2 : n ≤ 126
      · rw [if_pos ((k_leR (by omega)).mpr (by omega)), decide_eq_true (by omega)]; rfl
      · rw [if_neg (fun q => absurd ((k_leR (by omega)).mp q) (by omega)), decide_eq_false (by omega)]; rfl
theorem lp_ty17 (N : Nat) {w : Int64} {m : Nat} (hm : m ≤ 8) (tle : Int32) (tby : Nat → Int32) : ∀ (d t fuel : Nat), t + d = m → d < fuel → f_X9_type_17 N w (iI m) tle tby fuel (iI t) = bif allF (okW w) d t then (if tle + iI m ≤ (120 : Int32) then f_X9_type_73 N w N (iI m - (1 : Int32)) tle tby else some ((-3 : Int32), tle, tby)) else some ((-1 : Int32), tle, tby) := by
  intro d
  induction d with
  | zero =>
    intro t fuel h1 h2
    obtain ⟨k_, rfl⟩ := su_fuel h2
    have e : t = m := by omega
    subst e
    show b_X9_type_17 N w (iI t) tle tby _ (iI (t : Int)) = _
    unfold b_X9_type_17 allF
    rw [if_pos ((iI_le (by omega)).mpr (Int.le_refl _))]; rfl
  | succ d ih =>
    intro t fuel h1 h2
    obtain ⟨k_, rfl⟩ := su_fuel (Nat.lt_of_le_of_lt (Nat.zero_le _) h2)
    have i1 := ih (t + 1) k_ (by omega) (by omega)
    have hq : f_X9_in N (btw w t) 32 126 = some (bI (okW w t)) := q_in N rfl rfl rfl
    have hq' : f_X9_in N ((w >>> (((8 : Int32) * iI (t : Int)).toInt64 &&& 63)) &&& (255 : Int64)) 32 126 = some (bI (okW w t)) := hq
    show b_X9_type_17 N w (iI m) tle tby (f_X9_type_17 N w (iI m) tle tby k_) (iI t) = _
    unfold b_X9_type_17 allF
    rw [if_neg (fun q => absurd ((iI_le (by omega)).mp q) (by omega)), b1_p hq', ifb, iI_succ, i1]
    cases okW w t <;> rfl
theorem lp_ap71 (N : Nat) {w : Int64} {m : Nat} (hm : m ≤ 8) (hok : ∀ r, r < m → okW w r = true) : ∀ (d len fuel : Nat) (tby dtp : Nat → Int32), d ≤ m → d < fuel → len + d ≤ 120 → (∀ i, i < len → ∃ ch : Nat, 32 ≤ ch ∧ ch ≤ 126 ∧ tby i = iI ch ∧ dtp i = iI ch) → ∃ (tby' dtp' : Nat → Int32), f_X6_append_71 N w fuel (iI ((d : Int) - 1)) (iI len) tby = some (iI ((len + d : Nat) : Int), iI ((len + d : Nat) : Int), tby') ∧ f_X9_type_73 N w fuel (iI ((d : Int) - 1)) (iI len) dtp = some (iI ((len + d : Nat) : Int), iI ((len + d : Nat) : Int), dtp') ∧ ∀ i, i < len + d → ∃ ch : Nat, 32 ≤ ch ∧ ch ≤ 126 ∧ tby' i = iI ch ∧ dtp' i = iI ch := by
  intro d
  induction d with
  | zero =>
    intro len fuel tby dtp h1 h2 h3 h4
    obtain ⟨k_, rfl⟩ := su_fuel h2
    refine ⟨tby, dtp, ?_, ?_, h4⟩
    · show b_X6_append_71 N w _ (iI (((0 : Nat) : Int) - 1)) (iI len) tby = _
      unfold b_X6_append_71
      rw [if_pos ((k_ltR (by omega)).mpr (by omega))]; rfl
    · show b_X9_type_73 N w _ (iI (((0 : Nat) : Int) - 1)) (iI len) dtp = _
      unfold b_X9_type_73
      rw [if_pos ((k_ltR (by omega)).mpr (by omega))]; rfl
  | succ d ih =>
    intro len fuel tby dtp h1 h2 h3 h4
    obtain ⟨k_, rfl⟩ := su_fuel (Nat.lt_of_le_of_lt (Nat.zero_le _) h2)
    obtain ⟨n, g1, g2, g3⟩ := b255 (w >>> (((8 : Int32) * iI (d : Int)).toInt64 &&& 63))
    have g2' : (btw w d).toInt = (n : Int) := g2
    have g3' : (btw w d).toInt32 = iI (n : Int) := g3
    have hk := hok d (by omega)
    unfold okW at hk
    rw [Bool.and_eq_true, decide_eq_true_iff, decide_eq_true_iff, g2'] at hk
    have ed : (((d + 1 : Nat) : Int) - 1) = (d : Int) := by omega
    have em : iI (d : Int) + (-1 : Int32) = iI ((d : Int) - 1) := by
      have e5 : (-1 : Int32) = iI (-1) := rfl
      rw [e5, iI_add]; congr 1
    obtain ⟨tby', dtp', e1, e2, e3⟩ := ih (len + 1) k_ (upd tby len (iI (n : Int))) (upd dtp len (iI (n : Int))) (by omega) (by omega) (by omega) (fun i hi => by
      by_cases c : i = len
      · subst c; rw [upd_s, upd_s]; exact ⟨n, by omega, by omega, rfl, rfl⟩
      · rw [upd_n _ c, upd_n _ c]; exact h4 i (by omega))
    have el : len + 1 + d = len + (d + 1) := by omega
    rw [el] at e1 e2 e3
    refine ⟨tby', dtp', ?_, ?_, e3⟩
    · show b_X6_append_71 N w (f_X6_append_71 N w k_) (iI (((d + 1 : Nat) : Int) - 1)) (iI len) tby = _
      unfold b_X6_append_71
      rw [ed, if_neg (fun q => absurd ((k_ltR (by omega)).mp q) (by omega)), if_neg (fun q => absurd ((k_leL (by omega)).mp q) (by omega)), b1_p (q_byte N w d), g3', gi_I (by omega) (by omega) (by omega), iI_clampN (by omega), em, iI_succ, e1]
    · show b_X9_type_73 N w (f_X9_type_73 N w k_) (iI (((d + 1 : Nat) : Int) - 1)) (iI len) dtp = _
      unfold b_X9_type_73 nm
      rw [ed, if_neg (fun q => absurd ((k_ltR (by omega)).mp q) (by omega)), g3]
      dsimp only
      rw [gi_I (by omega) (by omega) (by omega), iI_clampN (by omega), em, iI_succ, e2]
theorem P_type : PS_type InvA := by
  intro N hN bsz bgp ber bxs bus bys bme pgc prc pgr pla tle tga trr tat tfa tby tnu rlc rla rmo ksz kmb kwa kra kla lo hi glo ghi sla ssz sit mrm mer mtd mat mwr mkn mmb mwa mra mbl mbh dxs dus dys dgp dtp dme dle dlt dkl dln dsz dit dmv hI p0 p1
  have hI' := hI
  obtain ⟨n, E, RX, RU, RY, G, hB, hP, ⟨len, hl, rfl, rfl, ht⟩, hR⟩ := hI'
  obtain ⟨z1, r1, rfl⟩ := iI_of p1
  have e3 : f_X9_in N (iI z1).toInt64 1 8 = some (bI (decide (1 ≤ z1) && decide (z1 ≤ 8))) := q_in N (j_of r1) rfl rfl
  by_cases c : 1 ≤ z1 ∧ z1 ≤ 8
  case neg =>
    rw [two_f c, bI_f] at e3
    refine ⟨-1, iI (len : Int), tby, iI (len : Int), dtp, ?_, ?_, hI⟩
    · have ea : f_X6_append N p0 (iI z1) (iI (len : Int)) tby = some (-1, iI (len : Int), tby) := by
        unfold f_X6_append
        by_cases d : z1 < 1
        · rw [if_pos ((k_ltR (by omega)).mpr (by omega))]
        · rw [if_neg (fun q => absurd ((k_ltR (by omega)).mp q) (by omega)), if_neg (fun q => absurd ((k_leR (by omega)).mp q) (by omega))]
      unfold f_X8_type; rw [b3_p ea]
    · unfold f_X9_type; rw [b1_p e3, if_pos rfl]
  rw [two_t c, bI_t] at e3
  obtain ⟨m, rfl⟩ := Int.eq_ofNat_of_zero_le (a := z1) (by omega)
  have a8 := lp_ap16 N (w := p0) (m := m) (by omega) (iI (len : Int)) tby m 0 N (by omega) (by omega)
  have a9 := lp_ty17 N (w := p0) (m := m) (by omega) (iI (len : Int)) dtp m 0 N (by omega) (by omega)
  have k8 : ∀ x1 x2 x3, f_X6_append_16 N p0 (iI (m : Int)) (iI (len : Int)) tby N (iI ((0 : Nat) : Int)) = some (x1, x2, x3) → f_X8_type N p0 (iI (m : Int)) (iI (len : Int)) tby = some (x1, x2, x3) := by
    intro x1 x2 x3 hx
    have ea : f_X6_append N p0 (iI (m : Int)) (iI (len : Int)) tby = some (x1, x2, x3) := by
      unfold f_X6_append
      rw [if_neg (fun q => absurd ((k_ltR (by omega)).mp q) (by omega)), if_pos ((k_leR (by omega)).mpr (by omega))]
      exact hx
    unfold f_X8_type; rw [b3_p ea]
  have k9 : f_X9_type N p0 (iI (m : Int)) (iI (len : Int)) dtp = f_X9_type_17 N p0 (iI (m : Int)) (iI (len : Int)) dtp N (iI ((0 : Nat) : Int)) := by
    unfold f_X9_type; rw [b1_p e3, if_neg (by decide)]; rfl
  cases hA : allF (okW p0) m 0 with
  | false =>
    rw [hA] at a8 a9
    exact ⟨-1, iI (len : Int), tby, iI (len : Int), dtp, k8 _ _ _ a8, k9.trans a9, hI⟩
  | true =>
    rw [hA] at a8 a9
    simp only [cond_true] at a8 a9
    rw [litN 120, iI_sub] at a8
    rw [iI_add] at a9
    by_cases c5 : len + m ≤ 120
    · rw [if_pos ((iI_le (by omega)).mpr (by omega))] at a8
      rw [if_pos ((k_leR (by omega)).mpr (by omega))] at a9
      obtain ⟨tby', dtp', x8, x9, x3⟩ := lp_ap71 N (w := p0) (m := m) (by omega) (fun r hr => allF_t hA r (by omega) (by omega)) m len N tby dtp (Nat.le_refl _) (by omega) c5 ht
      have em : iI (m : Int) - (1 : Int32) = iI ((m : Int) - 1) := by rw [l1_I, iI_sub]
      rw [em, x8] at a8
      rw [em, x9] at a9
      exact ⟨_, _, tby', _, dtp', k8 _ _ _ a8, k9.trans a9, n, E, RX, RU, RY, G, hB, hP, ⟨len + m, c5, rfl, rfl, x3⟩, hR⟩
    · rw [if_neg (fun q => absurd ((iI_le (by omega)).mp q) (by omega))] at a8
      rw [if_neg (fun q => absurd ((k_leR (by omega)).mp q) (by omega))] at a9
      exact ⟨-3, iI (len : Int), tby, iI (len : Int), dtp, k8 _ _ _ a8, k9.trans a9, hI⟩
