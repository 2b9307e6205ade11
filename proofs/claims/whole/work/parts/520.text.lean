/-! rows of the tape -/
theorem named_w (N : Nat) (p0 mtd mat : Int32) (dtp : Nat → Int32) : f_X9_named N p0 mtd mat 1 dtp = some (0, mat, 1) := by
  unfold f_X9_named f_X9_named_21
  rw [if_neg (by decide), g1_, if_neg (by decide)]
theorem row95_w (N : Nat) (a b mrm mtd mat : Int32) (dxs dus dys dgp dtp : Nat → Int32) : f_X9_oneRow_95 N a b 1 mrm mtd mat dxs dus dys dgp dtp = some (mrm, mat, 1, dxs, dus, dys, dgp) := by
  unfold f_X9_oneRow_95 f_X9_oneRow_119 f_X9_oneRow_141
  rw [g1_, if_neg (by decide), if_neg (by decide), if_neg (by decide)]
theorem row55_w1 (N : Nat) {t0 mrm mtd mwr v F : Int32} {dxs dus dys dgp dtp : Nat → Int32} (h : f_X9_named N 120 mtd t0 mwr dtp = some (v, F, 1)) : f_X9_oneRow_55 N t0 mrm mtd mwr dxs dus dys dgp dtp = some (mrm, F, 1, dxs, dus, dys, dgp) := by
  unfold f_X9_oneRow_55
  rw [b3_p h, b3_p (named_w N 117 mtd F dtp), if_neg (by decide), row95_w]
theorem row55_w2 (N : Nat) {t0 mrm mtd mwr x p v F : Int32} {dxs dus dys dgp dtp : Nat → Int32} (h : f_X9_named N 120 mtd t0 mwr dtp = some (x, p, 0)) (h2 : f_X9_named N 117 mtd p 0 dtp = some (v, F, 1)) : f_X9_oneRow_55 N t0 mrm mtd mwr dxs dus dys dgp dtp = some (mrm, F, 1, dxs, dus, dys, dgp) := by
  unfold f_X9_oneRow_55
  rw [b3_p h, b3_p h2, if_neg (by decide), row95_w]
/-- a letter and a number, read by both -/
theorem q_stage (N : Nat) (hN : 5000 ≤ N) {len i q c : Nat} {ct : Nat → Nat} {tby dtp : Nat → Int32} (hT : TP len ct tby dtp) (hi : i ≤ len) (hq : q < 36) (hc : 33 ≤ c ∧ c ≤ 126) {vc : Int32} (hv : vc = iI (c : Int)) (tfa : Int32) (tnu : Nat → Int32) :
    (∃ (F : Nat) (ta v : Int32), F ≤ len ∧ (∀ (K : Int32 → Int32 → (Nat → Int32) → Option (Int32 × Int32 × Int32 × Int32 × Int32 × (Nat → Int32))) (tga trr : Int32), b3 (f_X6_pass N vc (iI len) (iI i) tfa tby) (fun r11 v12 v13 => (if r11 = 0 then some ((0 : Int32), tga, trr, v12, v13, tnu) else b4 (f_X6_readNumber N (iI q) (iI len) v12 v13 tby tnu) (fun r16 v17 v18 v19 => (if r16 = 0 then some ((0 : Int32), tga, trr, v17, v18, v19) else K v17 v18 v19)))) = some (0, tga, trr, ta, iI (F : Int), tnu)) ∧ f_X9_named N vc (iI len) (iI i) 0 dtp = some (v, iI (F : Int), 1)) ∨
    (∃ (p : Nat) (V : Int), p ≤ len ∧ (-99 ≤ V ∧ V ≤ 99) ∧ (∀ (K : Int32 → Int32 → (Nat → Int32) → Option (Int32 × Int32 × Int32 × Int32 × Int32 × (Nat → Int32))) (tga trr : Int32), b3 (f_X6_pass N vc (iI len) (iI i) tfa tby) (fun r11 v12 v13 => (if r11 = 0 then some ((0 : Int32), tga, trr, v12, v13, tnu) else b4 (f_X6_readNumber N (iI q) (iI len) v12 v13 tby tnu) (fun r16 v17 v18 v19 => (if r16 = 0 then some ((0 : Int32), tga, trr, v17, v18, v19) else K v17 v18 v19)))) = K (iI (p : Int)) tfa (upd tnu q (iI V))) ∧ f_X9_named N vc (iI len) (iI i) 0 dtp = some (iI V, iI (p : Int), 0)) := by
  obtain ⟨j1, j2, j3⟩ := Sk_in ct hi
  have P8 := q_pass6 N hN hT hi hc hv tfa
  have P9 := q_passes9 N hN hT hi hc hv
  by_cases cp : Sk ct len i < len ∧ ct (Sk ct len i) = c
  · rw [if_pos cp] at P8 P9
    have en : ∀ v F w : Int32, f_X9_number N (iI len) (iI ((Sk ct len i + 1 : Nat) : Int)) 0 dtp = some (v, F, w) → f_X9_named N vc (iI len) (iI i) 0 dtp = some (v, F, w) := by
      intro v F w h
      unfold f_X9_named f_X9_named_21
      rw [if_pos rfl, b2_p P9, if_neg (by decide), g0_, if_pos rfl, b3_p h]
    rcases q_num N hN hT (i := Sk ct len i + 1) (by omega) hq tfa tnu with ⟨F, ta, v, h1, h2, h3⟩ | ⟨p, V, h1, h2, h3, h4⟩
    · left
      refine ⟨F, ta, v, h1, fun K tga trr => ?_, en _ _ _ h3⟩
      rw [b3_p P8, if_neg (by decide), b4_p h2, if_pos rfl]
    · right
      refine ⟨p, V, h1, h2, fun K tga trr => ?_, en _ _ _ h4⟩
      rw [b3_p P8, if_neg (by decide), b4_p h3, if_neg (by decide)]
  · rw [if_neg cp] at P8 P9
    left
    refine ⟨Sk ct len i, iI ((Sk ct len i : Nat) : Int), 0, j2, fun K tga trr => ?_, ?_⟩
    rotate_left
    · unfold f_X9_named f_X9_named_21
      rw [if_pos rfl, b2_p P9, if_pos rfl, g1_, if_neg (by decide)]
    · rw [b3_p P8, if_pos rfl]
/-- a row, read by both -/
theorem q_row (N : Nat) (hN : 5000 ≤ N) {len i n rr g : Nat} {ct : Nat → Nat} {tby dtp : Nat → Int32} (hT : TP len ct tby dtp) (hi : i ≤ len) (hnr : n + rr < 12) (hg : g < 2 ^ rr) (tfa : Int32) (tnu : Nat → Int32) (dxs dus dys dgp : Nat → Int32) :
    (∃ (F : Nat) (tga' ta : Int32) (tnu' : Nat → Int32), F ≤ len ∧ f_X6_readRow N (iI (12 - (n : Int))) (iI len) (iI g) (iI rr) (iI i) tfa tby tnu = some (0, tga', iI rr, ta, iI (F : Int), tnu') ∧ f_X9_oneRow N (iI ((n + rr : Nat) : Int)) (iI len) (iI i) dxs dus dys dgp dtp = some (iI ((n + rr : Nat) : Int), iI (F : Int), 1, dxs, dus, dys, dgp)) ∨
    (∃ (p : Nat) (X U Y : Int) (t : Bool), p ≤ len ∧ (-99 ≤ X ∧ X ≤ 99) ∧ (-99 ≤ U ∧ U ≤ 99) ∧ (-99 ≤ Y ∧ Y ≤ 99) ∧ f_X6_readRow N (iI (12 - (n : Int))) (iI len) (iI g) (iI rr) (iI i) tfa tby tnu = some (1, iI ((g + (if t then 2 ^ rr else 0) : Nat) : Int), iI ((rr + 1 : Nat) : Int), iI (p : Int), tfa, upd (upd (upd tnu (3 * rr) (iI X)) (3 * rr + 1) (iI U)) (3 * rr + 2) (iI Y)) ∧ f_X9_oneRow N (iI ((n + rr : Nat) : Int)) (iI len) (iI i) dxs dus dys dgp dtp = some (iI ((n + rr + 1 : Nat) : Int), iI (p : Int), 0, upd dxs (n + rr) (iI X), upd dus (n + rr) (iI U), upd dys (n + rr) (iI Y), upd dgp (n + rr) (bI t))) := by
  have hl := hT.1
  obtain ⟨j1, j2, j3⟩ := Sk_in ct hi
  have L1 := q_look6 N hN hT hi
  have M1 := q_next9 N hN hT hi
  generalize hj : Sk ct len i = j at *
  have m9 : f_X9_oneRow N (iI ((n + rr : Nat) : Int)) (iI len) (iI i) dxs dus dys dgp dtp = f_X9_oneRow_55 N (iI j) (iI ((n + rr : Nat) : Int)) (iI len) 0 dxs dus dys dgp dtp := by
    unfold f_X9_oneRow f_X9_oneRow_14 f_X9_oneRow_32
    rw [if_neg (fun q => absurd ((k_eqR (by omega)).mp q) (by omega)), b2_p M1, g0_, g0_, if_pos rfl, if_pos rfl]
    by_cases c : iI (cM ct len j) = 120
    · rw [if_pos c]
    · rw [if_neg c]
  rw [m9]
  generalize k8 : f_X6_readRow N (iI (12 - (n : Int))) (iI len) (iI g) (iI rr) (iI i) tfa tby tnu = x8
  unfold f_X6_readRow at k8
  rw [b2_p L1, if_neg (fun q => absurd ((iI_le (by omega)).mp q) (by omega)), if_pos ((k_ltR (by omega)).mpr (by omega)), m3_I, iI_succ, iI_two] at k8
  rcases q_stage N hN hT j2 (q := 3 * rr) (c := 120) (vc := 120) (by omega) (by omega) rfl tfa tnu with ⟨F, ta, v, h1, h2, h3⟩ | ⟨p1, X, h1, h2, h3, h4⟩
  · left
    rw [h2] at k8
    exact ⟨F, _, ta, tnu, h1, k8.symm, row55_w1 N h3⟩
  rw [h3] at k8
  rcases q_stage N hN hT h1 (q := 3 * rr + 1) (c := 117) (vc := 117) (by omega) (by omega) rfl tfa (upd tnu (3 * rr) (iI X)) with ⟨F, ta, v, u1, u2, u3⟩ | ⟨p2, U, u1, u2, u3, u4⟩
  · left
    rw [u2] at k8
    exact ⟨F, _, ta, _, u1, k8.symm, row55_w2 N h4 u3⟩
  rw [u3] at k8
  have k9 : f_X9_oneRow_55 N (iI j) (iI ((n + rr : Nat) : Int)) (iI len) 0 dxs dus dys dgp dtp = b2 (f_X9_passes N (121 : Int32) (iI len) (iI p2) 0 dtp) (fun r19 v20 => (if r19 = 0 then f_X9_oneRow_95 N (iI X) (iI U) (1 : Int32) (iI ((n + rr : Nat) : Int)) (iI len) v20 dxs dus dys dgp dtp else f_X9_oneRow_95 N (iI X) (iI U) (0 : Int32) (iI ((n + rr : Nat) : Int)) (iI len) v20 dxs dus dys dgp dtp)) := by
    unfold f_X9_oneRow_55
    rw [b3_p h4, b3_p u4, if_pos rfl]
  rw [k9]
  have P8 := q_pass6 N hN hT u1 (c := 121) (v := 121) (by omega) rfl tfa
  have P9 := q_passes9 N hN hT u1 (c := 121) (v := 121) (by omega) rfl
  obtain ⟨a1, a2, a3⟩ := Sk_in ct u1
  generalize Sk ct len p2 = j2_ at *
  by_cases cy : j2_ < len ∧ ct j2_ = 121
  case neg =>
    left
    rw [if_neg cy] at P8 P9
    rw [b3_p P8, if_pos rfl] at k8
    exact ⟨j2_, _, _, _, a2, k8.symm, by rw [b2_p P9, if_pos rfl, row95_w]⟩
  rw [if_pos cy] at P8 P9
  rw [b3_p P8, if_neg (by decide)] at k8
  rw [b2_p P9, if_neg (by decide)]
  have hi3 : j2_ + 1 ≤ len := by omega
  obtain ⟨e1, e2, e3⟩ := Sk_in ct hi3
  have L3 := q_look6 N hN hT hi3
  have Q8 := q_pass6 N hN hT e2 (c := 63) (v := 63) (by omega) rfl tfa
  rw [Sk_Sk ct hi3] at Q8
  have Q9 := q_passes9 N hN hT hi3 (c := 63) (v := 63) (by omega) rfl
  have e63 := cA_eq hT e2 (c := 63) (v := 63) (by omega) rfl
  generalize Sk ct len (j2_ + 1) = j3_ at *
  have hp2 := p2_lt (r := rr) (by omega)
  by_cases cq : j3_ < len ∧ ct j3_ = 63
  · right
    rw [if_pos cq] at Q8 Q9
    have hor : g ||| 2 ^ rr = g + 2 ^ rr := by
      have h := Nat.two_pow_add_eq_or_of_lt hg 1
      rw [Nat.mul_one] at h
      rw [Nat.or_comm, ← h, Nat.add_comm]
    have r8 : f_X6_readEnd N (iI ((3 * rr + 2 : Nat) : Int)) (iI len) (iI g) (iI rr) (iI ((j2_ + 1 : Nat) : Int)) tfa tby (upd (upd tnu (3 * rr) (iI X)) (3 * rr + 1) (iI U)) = some (1, iI ((g + 2 ^ rr : Nat) : Int), iI ((j3_ + 1 : Nat) : Int), tfa, upd (upd (upd tnu (3 * rr) (iI X)) (3 * rr + 1) (iI U)) (3 * rr + 2) 0) := by
      unfold f_X6_readEnd
      rw [b2_p L3, if_pos (e63.mpr cq), b1_p (q_store6 N (by omega) _ _), b3_p Q8, g1_, q_shl1 (by omega), iI_or, hor]
    rw [b5_p r8, if_neg (by decide), iI_succ] at k8
    refine ⟨j3_ + 1, X, U, 0, true, by omega, h2, u2, by omega, k8.symm, ?_⟩
    unfold f_X9_oneRow_95 f_X9_oneRow_119 f_X9_oneRow_141
    rw [g0_, if_pos rfl, b2_p Q9, if_neg (by decide), if_pos rfl, if_neg (by decide), if_pos rfl]
    exact b5_p (q_puts9 N hnr _ _ _ true _ _ _ _) _
  · rw [if_neg cq] at Q9
    have r8 : ∀ r ta fa tn, f_X6_readNumber N (iI ((3 * rr + 2 : Nat) : Int)) (iI len) (iI (j3_ : Int)) tfa tby (upd (upd tnu (3 * rr) (iI X)) (3 * rr + 1) (iI U)) = some (bI r, ta, fa, tn) → f_X6_readEnd N (iI ((3 * rr + 2 : Nat) : Int)) (iI len) (iI g) (iI rr) (iI ((j2_ + 1 : Nat) : Int)) tfa tby (upd (upd tnu (3 * rr) (iI X)) (3 * rr + 1) (iI U)) = some (bI r, iI (g : Int), ta, fa, tn) := by
      intro r ta fa tn h
      unfold f_X6_readEnd
      rw [b2_p L3, if_neg (fun c => cq (e63.mp c)), b4_p h, gz_b]
    have r9 : ∀ v F w, f_X9_number N (iI len) (iI (j3_ : Int)) 0 dtp = some (v, F, w) → f_X9_oneRow_95 N (iI X) (iI U) (0 : Int32) (iI ((n + rr : Nat) : Int)) (iI len) (iI ((j2_ + 1 : Nat) : Int)) dxs dus dys dgp dtp = f_X9_oneRow_141 N (iI X) (iI U) 0 v (iI ((n + rr : Nat) : Int)) F w dxs dus dys dgp := by
      intro v F w h
      unfold f_X9_oneRow_95 f_X9_oneRow_119
      rw [g0_, if_pos rfl, b2_p Q9, if_pos rfl, if_pos rfl, if_pos rfl, b3_p h]
    rcases q_num N hN hT e2 (q := 3 * rr + 2) (by omega) tfa (upd (upd tnu (3 * rr) (iI X)) (3 * rr + 1) (iI U)) with ⟨F, ta, v, w1, w2, w3⟩ | ⟨p, V, w1, w2, w3, w4⟩
    · left
      rw [b5_p (r8 false _ _ _ w2), bI_f, if_pos rfl] at k8
      refine ⟨F, _, ta, _, w1, k8.symm, ?_⟩
      rw [r9 _ _ _ w3]
      unfold f_X9_oneRow_141
      rw [if_neg (by decide)]
    · right
      rw [b5_p (r8 true _ _ _ w3), bI_t, if_neg (by decide), iI_succ] at k8
      refine ⟨p, X, U, V, false, w1, h2, u2, w2, k8.symm, ?_⟩
      rw [r9 _ _ _ w4]
      unfold f_X9_oneRow_141
      rw [if_pos rfl]
      exact b5_p (q_puts9 N hnr _ _ _ false _ _ _ _) _
