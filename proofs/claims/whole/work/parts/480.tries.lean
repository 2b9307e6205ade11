/-! what a push leaves at worst -/
def sumF (φ : Nat → Int) : Nat → Int
  | 0 => 0
  | n + 1 => sumF φ n + φ n
theorem sumF_cong {φ ψ : Nat → Int} : ∀ {n : Nat}, (∀ i, i < n → φ i = ψ i) → sumF φ n = sumF ψ n
  | 0, _ => rfl
  | n + 1, h => by
    show sumF φ n + φ n = sumF ψ n + ψ n
    rw [sumF_cong (fun i hi => h i (by omega)), h n (by omega)]
theorem sumF_add (φ ψ : Nat → Int) : ∀ n : Nat, sumF (fun i => φ i + ψ i) n = sumF φ n + sumF ψ n
  | 0 => rfl
  | n + 1 => by
    show sumF (fun i => φ i + ψ i) n + (φ n + ψ n) = (sumF φ n + φ n) + (sumF ψ n + ψ n)
    rw [sumF_add φ ψ n]; omega
theorem sumF_bd {φ : Nat → Int} (h : ∀ i, 0 ≤ φ i ∧ φ i ≤ 1) : ∀ n : Nat, 0 ≤ sumF φ n ∧ sumF φ n ≤ (n : Int)
  | 0 => by show (0 : Int) ≤ 0 ∧ (0 : Int) ≤ 0; omega
  | n + 1 => by
    have h1 := sumF_bd h n
    have h2 := h n
    show 0 ≤ sumF φ n + φ n ∧ sumF φ n + φ n ≤ ((n + 1 : Nat) : Int)
    omega
theorem sumF_0 {φ : Nat → Int} : ∀ {n : Nat}, (∀ i, i < n → φ i = 0) → sumF φ n = 0
  | 0, _ => rfl
  | n + 1, h => by
    show sumF φ n + φ n = 0
    rw [sumF_0 (fun i hi => h i (by omega)), h n (by omega)]; rfl
def mxF (f : Nat → Int) : Nat → Nat → Int → Int
  | 0, _, a => a
  | d + 1, t, a => mxF f d (t + 1) (ma a (f t))
theorem mxF_ge (f : Nat → Int) : ∀ (d t : Nat) (a : Int), a ≤ mxF f d t a ∧ ∀ r, t ≤ r → r < t + d → f r ≤ mxF f d t a
  | 0, t, a => ⟨Int.le_refl _, fun r h1 h2 => by omega⟩
  | d + 1, t, a => by
    obtain ⟨h1, h2⟩ := mxF_ge f d (t + 1) (ma a (f t))
    have h3 := ma_cases a (f t)
    refine ⟨?_, fun r g1 g2 => ?_⟩
    · show a ≤ mxF f d (t + 1) (ma a (f t)); omega
    · show f r ≤ mxF f d (t + 1) (ma a (f t))
      by_cases c : r = t
      · subst c; omega
      · exact h2 r (by omega) (by omega)
theorem mxF_at (f : Nat → Int) : ∀ (d t : Nat) (a : Int), mxF f d t a = a ∨ ∃ r, t ≤ r ∧ r < t + d ∧ mxF f d t a = f r
  | 0, t, a => Or.inl rfl
  | d + 1, t, a => by
    have h3 := ma_cases a (f t)
    show mxF f d (t + 1) (ma a (f t)) = a ∨ ∃ r, t ≤ r ∧ r < t + (d + 1) ∧ mxF f d (t + 1) (ma a (f t)) = f r
    rcases mxF_at f d (t + 1) (ma a (f t)) with h | ⟨r, h1, h2, h⟩
    · rcases h3 with h3 | h3
      · left; omega
      · right; exact ⟨t, by omega, by omega, by omega⟩
    · right; exact ⟨r, by omega, by omega, h⟩
def fitI (X U : Int) (E : Nat) (y : Int) (l : Nat) : Int := bif fit l X U y E then 1 else 0
def cntY (p : Nat → Bool) (X U : Int) (E : Nat) (y : Int) : Int := sumF (fun l => bif p l then fitI X U E y l else 0) 289
theorem cntY_bd (p : Nat → Bool) (X U : Int) (E : Nat) (y : Int) : 0 ≤ cntY p X U E y ∧ cntY p X U E y ≤ 289 := by
  unfold cntY
  exact sumF_bd (fun i => by
    try dsimp only
    cases p i with
    | false => simp only [cond_false]; omega
    | true =>
      simp only [cond_true]
      unfold fitI
      cases fit i X U y E with
      | false => simp only [cond_false]; omega
      | true => simp only [cond_true]; omega) 289
def leE (S : Int) (E : Nat) : Int := -((-S) / 4) - (E : Int)
def geE (S : Int) (E : Nat) : Int := S / 4 + (E : Int)
theorem fit_iff (l : Nat) (X U y : Int) (E : Nat) : fit l X U y E = true ↔ leE (sm l X U) E ≤ y ∧ y ≤ geE (sm l X U) E := by
  unfold fit near4 leE geE
  rw [Bool.and_eq_true, decide_eq_true_iff, decide_eq_true_iff]
  omega
theorem fitI_eq (X U : Int) (E : Nat) (y : Int) (l : Nat) : fitI X U E y l = (if leE (sm l X U) E ≤ y then 1 else 0) + (if geE (sm l X U) E < y then -1 else 0) := by
  have h := fit_iff l X U y E
  have h2 : leE (sm l X U) E ≤ geE (sm l X U) E + 1 := by unfold leE geE; omega
  unfold fitI
  cases hf : fit l X U y E with
  | true =>
    have := h.mp hf
    rw [if_pos this.1, if_neg (by omega)]; rfl
  | false =>
    have h3 : ¬ (leE (sm l X U) E ≤ y ∧ y ≤ geE (sm l X U) E) := fun q => by rw [h.mpr q] at hf; exact absurd hf (by decide)
    by_cases c : leE (sm l X U) E ≤ y
    · rw [if_pos c, if_pos (by omega)]; rfl
    · rw [if_neg c, if_neg (by omega)]; rfl
theorem cntY_out {p : Nat → Bool} {X U : Int} {E : Nat} {y : Int} (hX : -99 ≤ X ∧ X ≤ 99) (hU : -9 ≤ U ∧ U ≤ 9) (hE : E ≤ 20) (hy : y < -236 ∨ 237 < y) : cntY p X U E y = 0 := by
  unfold cntY
  refine sumF_0 (fun i hi => ?_)
  cases p i with
  | false => rfl
  | true =>
    simp only [cond_true]
    have hs := sm_bd hi (A := 99) (B := 9) hX hU
    unfold fitI
    cases hf : fit i X U y E with
    | false => rfl
    | true =>
      have := (fit_iff i X U y E).mp hf
      unfold leE geE at this
      omega
theorem wst_eq {p : Nat → Bool} {X U : Int} {E : Nat} (hX : -99 ≤ X ∧ X ≤ 99) (hU : -9 ≤ U ∧ U ≤ 9) (hE : E ≤ 20) : mxF (fun t => cntY p X U E ((t : Int) - 236)) 474 0 0 = mxF (fun t => cntY p X U E ((t : Int) - 260)) 521 0 0 := by
  obtain ⟨a1, a2⟩ := mxF_ge (fun t => cntY p X U E ((t : Int) - 236)) 474 0 0
  obtain ⟨b1_, b2_⟩ := mxF_ge (fun t => cntY p X U E ((t : Int) - 260)) 521 0 0
  have a3 := mxF_at (fun t => cntY p X U E ((t : Int) - 236)) 474 0 0
  have b3_ := mxF_at (fun t => cntY p X U E ((t : Int) - 260)) 521 0 0
  generalize mxF (fun t => cntY p X U E ((t : Int) - 236)) 474 0 0 = A at *
  generalize mxF (fun t => cntY p X U E ((t : Int) - 260)) 521 0 0 = B at *
  have h1 : A ≤ B := by
    rcases a3 with h | ⟨r, g1, g2, h⟩
    · omega
    · have h2 := b2_ (r + 24) (by omega) (by omega)
      try dsimp only at h2 h
      have e : (((r + 24 : Nat) : Int) - 260) = (r : Int) - 236 := by omega
      rw [e] at h2; omega
  have h2 : B ≤ A := by
    rcases b3_ with h | ⟨r, g1, g2, h⟩
    · omega
    · try dsimp only at h
      by_cases c : (r : Int) - 260 < -236 ∨ 237 < (r : Int) - 260
      · rw [cntY_out hX hU hE c] at h; omega
      · have h2 := a2 (r - 24) (by omega) (by omega)
        try dsimp only at h2
        have e : (((r - 24 : Nat) : Int) - 236) = (r : Int) - 260 := by omega
        rw [e] at h2; omega
  omega
/-! the class's side -/
def Gath (p : Nat → Bool) (l c : Nat) (rla : Nat → Int32) (g : Nat → Nat) : Prop := c ≤ l ∧ (∀ i, i < c → g i < 289 ∧ rla i = iI ((g i : Nat) : Int)) ∧ ∀ φ : Nat → Int, sumF (fun i => φ (g i)) c = sumF (fun r => bif p r then φ r else 0) l
theorem Gath_no {p : Nat → Bool} {l c : Nat} {rla : Nat → Int32} {g : Nat → Nat} (h : Gath p l c rla g) (hp : p l = false) : Gath p (l + 1) c rla g := by
  obtain ⟨h1, h2, h3⟩ := h
  refine ⟨by omega, h2, fun φ => ?_⟩
  show _ = sumF (fun r => bif p r then φ r else 0) l + (bif p l then φ l else 0)
  rw [h3 φ, hp]
  simp only [cond_false]; omega
theorem Gath_yes {p : Nat → Bool} {l c : Nat} {rla : Nat → Int32} {g : Nat → Nat} (h : Gath p l c rla g) (hl : l < 289) (hp : p l = true) : Gath p (l + 1) (c + 1) (upd rla c (iI (l : Int))) (setF g c l) := by
  obtain ⟨h1, h2, h3⟩ := h
  refine ⟨by omega, fun i hi => ?_, fun φ => ?_⟩
  · by_cases e : i = c
    · subst e; rw [setF_s, upd_s]; exact ⟨hl, rfl⟩
    · rw [setF_n _ e, upd_n _ e]; exact h2 i (by omega)
  · show sumF (fun i => φ (setF g c l i)) c + φ (setF g c l c) = sumF (fun r => bif p r then φ r else 0) l + (bif p l then φ l else 0)
    have e : sumF (fun i => φ (setF g c l i)) c = sumF (fun i => φ (g i)) c := sumF_cong (fun i hi => by rw [setF_n _ (by omega)])
    rw [e, h3 φ, hp, setF_s]
    rfl
theorem lp_gather (N : Nat) {n E h : Nat} {RX RU RY : Nat → Int} {G : Nat → Bool} {f : Nat → Int32} (hn : n ≤ 12) (hh : h < 2 ^ n) (hm : ∀ law, law < 289 → f law = iI ((bts (mt RX RU RY G E law) n : Nat) : Int)) :
    ∀ (d l fuel c : Nat) (rla : Nat → Int32) (g : Nat → Nat), l + d = 289 → d < fuel → Gath (letB RX RU RY G E n h) l c rla g → ∃ (c' : Nat) (rla' : Nat → Int32) (g' : Nat → Nat), f_X7_gather_7 N (iI h) f fuel (iI l) (iI c) rla = some (iI c', rla') ∧ Gath (letB RX RU RY G E n h) 289 c' rla' g' := by
  intro d
  induction d with
  | zero =>
    intro l fuel c rla g h1 h2 h3
    obtain ⟨k_, rfl⟩ := su_fuel h2
    have e : l = 289 := by omega
    subst e
    refine ⟨c, rla, g, ?_, h3⟩
    show b_X7_gather_7 N (iI h) f _ (iI ((289 : Nat) : Int)) (iI c) rla = _
    unfold b_X7_gather_7
    rw [if_pos ((k_leL (by omega)).mpr (by omega))]
  | succ d ih =>
    intro l fuel c rla g h1 h2 h3
    obtain ⟨k_, rfl⟩ := su_fuel (Nat.lt_of_le_of_lt (Nat.zero_le _) h2)
    have hl : l < 289 := by omega
    have hc := h3.1
    cases hb : letB RX RU RY G E n h l with
    | false =>
      obtain ⟨c', rla', g', e1, e2⟩ := ih (l + 1) k_ c rla g (by omega) (by omega) (Gath_no h3 hb)
      refine ⟨c', rla', g', ?_, e2⟩
      show b_X7_gather_7 N (iI h) f (f_X7_gather_7 N (iI h) f k_) (iI l) (iI c) rla = _
      unfold b_X7_gather_7
      rw [if_neg (fun q => absurd ((k_leL (by omega)).mp q) (by omega)), b1_p (q_letB0 N hn hl hh hm), hb, bI_f, if_pos rfl, iI_succ, e1]
    | true =>
      obtain ⟨c', rla', g', e1, e2⟩ := ih (l + 1) k_ (c + 1) _ _ (by omega) (by omega) (Gath_yes h3 hl hb)
      refine ⟨c', rla', g', ?_, e2⟩
      show b_X7_gather_7 N (iI h) f (f_X7_gather_7 N (iI h) f k_) (iI l) (iI c) rla = _
      unfold b_X7_gather_7
      rw [if_neg (fun q => absurd ((k_leL (by omega)).mp q) (by omega)), b1_p (q_letB0 N hn hl hh hm), hb, bI_t, if_neg (by decide), if_neg (fun q => absurd ((k_leL (by omega)).mp q) (by omega)), gi_I (by omega) (by omega) (by omega), iI_clampN (by omega), iI_succ, iI_succ, e1]
theorem q_add7 (N : Nat) {e : Int} (h : -236 ≤ e ∧ e ≤ 237) (v : Int32) (rmo : Nat → Int32) : f_X7_add N (iI e) v rmo = some (upd rmo (e + 236).toNat (rmo (e + 236).toNat + v)) := by
  unfold f_X7_add
  rw [litN 236, iI_add]
  have e1 : (e + ((236 : Nat) : Int)) = e + 236 := rfl
  rw [e1, if_neg (fun q => absurd ((k_ltR (by omega)).mp q) (by omega)), if_neg (fun q => absurd ((k_leL (by omega)).mp q) (by omega)), gi_I (by omega) (by omega) (by omega), gi_I (by omega) (by omega) (by omega), iI_clamp (by omega) (by omega)]
def dlt7 (X U : Int) (E : Nat) (j : Nat) (l : Nat) : Int := (if leE (sm l X U) E + 236 = (j : Int) then 1 else 0) + (if geE (sm l X U) E + 237 = (j : Int) then -1 else 0)
theorem lp_law10 (N : Nat) {c E : Nat} {X U : Int} {rla : Nat → Int32} {g : Nat → Nat} (hc : c ≤ 289) (hg : ∀ i, i < c → g i < 289 ∧ rla i = iI ((g i : Nat) : Int)) (hX : -99 ≤ X ∧ X ≤ 99) (hU : -9 ≤ U ∧ U ≤ 9) (hE : E ≤ 20) :
    ∀ (d t fuel : Nat) (rmo : Nat → Int32), t + d = c → d < fuel → (∀ j, j < 474 → rmo j = iI (sumF (fun i => dlt7 X U E j (g i)) t)) → ∃ rmo' : Nat → Int32, f_X7_leftAtWorst_11 N (iI X) (iI U) (iI E) (iI c) rla fuel (iI t) rmo = f_X7_leftAtWorst_83 N rmo' N (0 : Int32) (0 : Int32) (0 : Int32) ∧ ∀ j, j < 474 → rmo' j = iI (sumF (fun i => dlt7 X U E j (g i)) c) := by
  intro d
  induction d with
  | zero =>
    intro t fuel rmo h1 h2 h3
    obtain ⟨k_, rfl⟩ := su_fuel h2
    have e : t = c := by omega
    subst e
    refine ⟨rmo, ?_, h3⟩
    show b_X7_leftAtWorst_11 N (iI X) (iI U) (iI E) (iI t) rla _ (iI (t : Int)) rmo = _
    unfold b_X7_leftAtWorst_11
    rw [if_pos ((iI_le (by omega)).mpr (Int.le_refl _))]
  | succ d ih =>
    intro t fuel rmo h1 h2 h3
    obtain ⟨k_, rfl⟩ := su_fuel (Nat.lt_of_le_of_lt (Nat.zero_le _) h2)
    obtain ⟨g1, g2⟩ := hg t (by omega)
    have hs := sm_bd g1 (A := 99) (B := 9) hX hU
    have hle : leE (sm (g t) X U) E = -((-(sm (g t) X U)) / 4) - (E : Int) := rfl
    have hge : geE (sm (g t) X U) E = (sm (g t) X U) / 4 + (E : Int) := rfl
    have b1_ : -236 ≤ leE (sm (g t) X U) E ∧ leE (sm (g t) X U) E ≤ 237 := by rw [hle]; omega
    have b2_ : -236 ≤ geE (sm (g t) X U) E + 1 ∧ geE (sm (g t) X U) E + 1 ≤ 237 := by rw [hge]; omega
    obtain ⟨rmo', e1, e2⟩ := ih (t + 1) k_ (upd (upd rmo (leE (sm (g t) X U) E + 236).toNat (rmo (leE (sm (g t) X U) E + 236).toNat + 1)) (geE (sm (g t) X U) E + 1 + 236).toNat ((upd rmo (leE (sm (g t) X U) E + 236).toNat (rmo (leE (sm (g t) X U) E + 236).toNat + 1)) (geE (sm (g t) X U) E + 1 + 236).toNat + (-1))) (by omega) (by omega) (by
      intro j hj
      show _ = iI (sumF (fun i => dlt7 X U E j (g i)) t + dlt7 X U E j (g t))
      have h4 := h3 j hj
      have em : (-1 : Int32) = iI (-1) := rfl
      generalize sumF (fun i => dlt7 X U E j (g i)) t = s at *
      unfold dlt7
      generalize leE (sm (g t) X U) E = a at *
      generalize geE (sm (g t) X U) E = b at *
      by_cases ca : (a + 236).toNat = j
      · by_cases cb : (b + 1 + 236).toNat = j
        · rw [cb, upd_s, ca, upd_s, h4, if_pos (by omega), if_pos (by omega), em, iI_p1, iI_add]; congr 1; omega
        · rw [upd_n _ (fun q => cb q.symm), ca, upd_s, h4, if_pos (by omega), if_neg (by omega), iI_p1]; congr 1
      · by_cases cb : (b + 1 + 236).toNat = j
        · rw [cb, upd_s, upd_n _ (fun q => ca q.symm), h4, if_neg (by omega), if_pos (by omega), em, iI_add]; congr 1; try omega
        · rw [upd_n _ (fun q => cb q.symm), upd_n _ (fun q => ca q.symm), h4, if_neg (by omega), if_neg (by omega)]; congr 1; omega)
    refine ⟨rmo', ?_, e2⟩
    show b_X7_leftAtWorst_11 N (iI X) (iI U) (iI E) (iI c) rla (f_X7_leftAtWorst_11 N (iI X) (iI U) (iI E) (iI c) rla k_) (iI (t : Int)) rmo = _
    unfold b_X7_leftAtWorst_11
    rw [if_neg (fun q => absurd ((iI_le (by omega)).mp q) (by omega)), if_neg (fun q => absurd ((k_leL (by omega)).mp q) (by omega)), gi_I (by omega) (by omega) (by omega), iI_clampN (by omega), g2, b1_p (q_sum3 N g1 X U), b1_p (q_leastEnd N (by omega)), ← hle, b1_p (q_add7 N b1_ _ _), b1_p (q_greatestEnd N (by omega)), ← hge, iI_p1, b1_p (q_add7 N b2_ _ _), iI_succ, e1]
theorem lp_law90 (N : Nat) {rmo : Nat → Int32} {D : Nat → Int} (hr : ∀ j, j < 474 → rmo j = iI (D j)) (hb : ∀ j, 0 ≤ sumF D (j + 1) ∧ sumF D (j + 1) ≤ 1000) :
    ∀ (d t fuel : Nat) (a : Int), t + d = 474 → d < fuel → (0 ≤ a ∧ a ≤ 1000) → f_X7_leftAtWorst_83 N rmo fuel (iI (sumF D t)) (iI a) (iI t) = some (iI (mxF (fun j => sumF D (j + 1)) d t a), rmo) := by
  intro d
  induction d with
  | zero =>
    intro t fuel a h1 h2 h3
    obtain ⟨k_, rfl⟩ := su_fuel h2
    have e : t = 474 := by omega
    subst e
    show b_X7_leftAtWorst_83 N rmo _ _ (iI a) (iI ((474 : Nat) : Int)) = _
    unfold b_X7_leftAtWorst_83 mxF
    rw [if_pos ((k_leL (by omega)).mpr (by omega))]
  | succ d ih =>
    intro t fuel a h1 h2 h3
    obtain ⟨k_, rfl⟩ := su_fuel (Nat.lt_of_le_of_lt (Nat.zero_le _) h2)
    have hb1 := hb t
    have es : sumF D t + D t = sumF D (t + 1) := rfl
    have hm := ma_cases a (sumF D (t + 1))
    have i1 := ih (t + 1) k_ (ma a (sumF D (t + 1))) (by omega) (by omega) (by omega)
    show b_X7_leftAtWorst_83 N rmo (f_X7_leftAtWorst_83 N rmo k_) (iI (sumF D t)) (iI a) (iI t) = _
    unfold b_X7_leftAtWorst_83 mxF nm
    rw [if_neg (fun q => absurd ((k_leL (by omega)).mp q) (by omega)), gi_I (by omega) (by omega) (by omega), iI_clampN (by omega), hr t (by omega), iI_add, es, ma_I (by omega)]
    try dsimp only
    rw [iI_succ, i1]
theorem pref (X U : Int) (E : Nat) {c : Nat} {g : Nat → Nat} (hX : -99 ≤ X ∧ X ≤ 99) (hU : -9 ≤ U ∧ U ≤ 9) (hE : E ≤ 20) (hg : ∀ i, i < c → g i < 289) : ∀ j : Nat, sumF (fun j => sumF (fun i => dlt7 X U E j (g i)) c) j = sumF (fun i => (if leE (sm (g i) X U) E + 236 < (j : Int) then 1 else 0) + (if geE (sm (g i) X U) E + 237 < (j : Int) then -1 else 0)) c
  | 0 => by
    show (0 : Int) = _
    refine (sumF_0 (fun i hi => ?_)).symm
    have hs := sm_bd (hg i hi) (A := 99) (B := 9) hX hU
    have hle : leE (sm (g i) X U) E = -((-(sm (g i) X U)) / 4) - (E : Int) := rfl
    have hge : geE (sm (g i) X U) E = (sm (g i) X U) / 4 + (E : Int) := rfl
    rw [if_neg (by rw [hle]; omega), if_neg (by rw [hge]; omega)]; rfl
  | j + 1 => by
    show sumF (fun j => sumF (fun i => dlt7 X U E j (g i)) c) j + sumF (fun i => dlt7 X U E j (g i)) c = _
    rw [pref X U E hX hU hE hg j, ← sumF_add]
    refine sumF_cong (fun i hi => ?_)
    try dsimp only
    unfold dlt7
    generalize leE (sm (g i) X U) E = a
    generalize geE (sm (g i) X U) E = b
    have e1 : (if a + 236 < ((j + 1 : Nat) : Int) then (1 : Int) else 0) = (if a + 236 < (j : Int) then 1 else 0) + (if a + 236 = (j : Int) then 1 else 0) := by
      by_cases c1 : a + 236 < (j : Int)
      · rw [if_pos c1, if_pos (by omega), if_neg (by omega)]; rfl
      · rw [if_neg c1]
        by_cases c2 : a + 236 = (j : Int)
        · rw [if_pos c2, if_pos (by omega)]; rfl
        · rw [if_neg c2, if_neg (by omega)]; rfl
    have e2 : (if b + 237 < ((j + 1 : Nat) : Int) then (-1 : Int) else 0) = (if b + 237 < (j : Int) then -1 else 0) + (if b + 237 = (j : Int) then -1 else 0) := by
      by_cases c1 : b + 237 < (j : Int)
      · rw [if_pos c1, if_pos (by omega), if_neg (by omega)]; rfl
      · rw [if_neg c1]
        by_cases c2 : b + 237 = (j : Int)
        · rw [if_pos c2, if_pos (by omega)]; rfl
        · rw [if_neg c2, if_neg (by omega)]; rfl
    rw [e1, e2]; omega
theorem q_law7 (N : Nat) (hN : 5000 ≤ N) {p : Nat → Bool} {c E : Nat} {X U : Int} {rla : Nat → Int32} {g : Nat → Nat} (hG : Gath p 289 c rla g) (hX : -99 ≤ X ∧ X ≤ 99) (hU : -9 ≤ U ∧ U ≤ 9) (hE : E ≤ 20) (rmo : Nat → Int32) : ∃ rmo' : Nat → Int32, f_X7_leftAtWorst N (iI X) (iI U) (iI E) (iI c) rla rmo = some (iI (mxF (fun t => cntY p X U E ((t : Int) - 236)) 474 0 0), rmo') := by
  obtain ⟨h1, h2, h3⟩ := hG
  obtain ⟨rmo', e1, e2⟩ := lp_law10 N h1 h2 hX hU hE c 0 N (fun k => if k < 474 then 0 else rmo k) (by omega) (by omega) (fun j hj => by
    show (if j < 474 then (0 : Int32) else rmo j) = _
    rw [if_pos hj]; rfl)
  have hS : ∀ j : Nat, sumF (fun j => sumF (fun i => dlt7 X U E j (g i)) c) (j + 1) = cntY p X U E ((j : Int) - 236) := by
    intro j
    rw [pref X U E hX hU hE (fun i hi => (h2 i hi).1) (j + 1)]
    unfold cntY
    rw [← h3 (fitI X U E ((j : Int) - 236))]
    refine sumF_cong (fun i hi => ?_)
    try dsimp only
    rw [fitI_eq]
    generalize leE (sm (g i) X U) E = a
    generalize geE (sm (g i) X U) E = b
    have e1 : (if a + 236 < ((j + 1 : Nat) : Int) then (1 : Int) else 0) = (if a ≤ (j : Int) - 236 then 1 else 0) := by
      by_cases c1 : a ≤ (j : Int) - 236
      · rw [if_pos c1, if_pos (by omega)]
      · rw [if_neg c1, if_neg (by omega)]
    have e2 : (if b + 237 < ((j + 1 : Nat) : Int) then (-1 : Int) else 0) = (if b < (j : Int) - 236 then -1 else 0) := by
      by_cases c1 : b < (j : Int) - 236
      · rw [if_pos c1, if_pos (by omega)]
      · rw [if_neg c1, if_neg (by omega)]
    rw [e1, e2]
  have h90 := lp_law90 N (rmo := rmo') (D := fun j => sumF (fun i => dlt7 X U E j (g i)) c) e2 (fun j => by rw [hS j]; have := cntY_bd p X U E ((j : Int) - 236); omega) 474 0 N 0 rfl (by omega) (by omega)
  refine ⟨rmo', ?_⟩
  unfold f_X7_leftAtWorst
  refine (b1_p (q_fill N 474 hN (by omega) 0 rmo) _).trans ?_
  refine e1.trans (h90.trans ?_)
  have ef : (fun j : Nat => sumF (fun j => sumF (fun i => dlt7 X U E j (g i)) c) (j + 1)) = (fun t : Nat => cntY p X U E ((t : Int) - 236)) := funext hS
  rw [ef]
