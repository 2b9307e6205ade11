/-! what holds between the class's cells and the reference's -/
def setF {α : Type} (f : Nat → α) (n : Nat) (v : α) : Nat → α := fun r => if r = n then v else f r
theorem setF_s {α : Type} (f : Nat → α) (n : Nat) (v : α) : setF f n v n = v := by unfold setF; rw [if_pos rfl]
theorem setF_n {α : Type} (f : Nat → α) {n r : Nat} (h : r ≠ n) (v : α) : setF f n v r = f r := by unfold setF; rw [if_neg h]
theorem upd_s (f : Nat → Int32) (n : Nat) (v : Int32) : upd f n v n = v := by unfold upd; rw [if_pos rfl]
theorem upd_n (f : Nat → Int32) {n r : Nat} (h : r ≠ n) (v : Int32) : upd f n v r = f r := by unfold upd; rw [if_neg h]
def InvB (bsz bgp ber : Int32) (bxs bus bys bme : Nat → Int32) (mrm mer : Int32) (dxs dus dys dgp : Nat → Int32) (n E : Nat) (RX RU RY : Nat → Int) (G : Nat → Bool) : Prop :=
  (n ≤ 12 ∧ E ≤ 20 ∧ bsz = iI n ∧ mrm = iI n ∧ ber = iI E ∧ mer = iI E ∧ bgp = iI ((bts G n : Nat) : Int)) ∧
  (∀ r, r < n → (bxs r = iI (RX r) ∧ bus r = iI (RU r) ∧ bys r = iI (RY r)) ∧ (dxs r = iI (RX r) ∧ dus r = iI (RU r) ∧ dys r = iI (RY r) ∧ dgp r = bI (G r)) ∧ (-99 ≤ RX r ∧ RX r ≤ 99) ∧ (-99 ≤ RU r ∧ RU r ≤ 99) ∧ (-99 ≤ RY r ∧ RY r ≤ 99)) ∧
  (∀ law, law < 289 → bme law = iI ((bts (mt RX RU RY G E law) n : Nat) : Int))
theorem InvB_add {bsz bgp ber : Int32} {bxs bus bys bme : Nat → Int32} {mrm mer : Int32} {dxs dus dys dgp : Nat → Int32} {n E : Nat} {RX RU RY : Nat → Int} {G : Nat → Bool} (h : InvB bsz bgp ber bxs bus bys bme mrm mer dxs dus dys dgp n E RX RU RY G) (hn : n < 12) {X U Y : Int} (t : Bool) (hX : -99 ≤ X ∧ X ≤ 99) (hU : -99 ≤ U ∧ U ≤ 99) (hY : -99 ≤ Y ∧ Y ≤ 99) {y9 : Int32} (hy : y9 = iI Y) :
    InvB (iI ((n + 1 : Nat) : Int)) (iI ((bts G n + (if t then 2 ^ n else 0) : Nat) : Int)) ber (upd bxs n (iI X)) (upd bus n (iI U)) (upd bys n (iI Y)) (entF 0 n (fun l => t || fit l X U Y E) bme) (iI ((n + 1 : Nat) : Int)) mer (upd dxs n (iI X)) (upd dus n (iI U)) (upd dys n y9) (upd dgp n (bI t)) (n + 1) E (setF RX n X) (setF RU n U) (setF RY n Y) (setF G n t) := by
  obtain ⟨⟨h1, h2, h3, h4, h5, h6, h7⟩, hr, hm⟩ := h
  refine ⟨⟨by omega, h2, rfl, rfl, h5, h6, ?_⟩, ?_, ?_⟩
  · have e : bts (setF G n t) (n + 1) = bts G n + (if t then 2 ^ n else 0) := by
      show bts (setF G n t) n + (if setF G n t n then 2 ^ n else 0) = _
      rw [setF_s, bts_cong (fun r hr => setF_n G (by omega) t)]
    rw [e]
  · intro r hr2
    by_cases e : r = n
    · subst e
      rw [upd_s, upd_s, upd_s, upd_s, upd_s, upd_s, upd_s, setF_s, setF_s, setF_s, setF_s, hy]
      exact ⟨⟨rfl, rfl, rfl⟩, ⟨rfl, rfl, rfl, rfl⟩, hX, hU, hY⟩
    · rw [upd_n _ e, upd_n _ e, upd_n _ e, upd_n _ e, upd_n _ e, upd_n _ e, upd_n _ e, setF_n _ e, setF_n _ e, setF_n _ e, setF_n _ e]
      exact hr r (by omega)
  · intro law hl
    have e1 : bts (mt (setF RX n X) (setF RU n U) (setF RY n Y) (setF G n t) E law) n = bts (mt RX RU RY G E law) n := bts_cong (fun r hr => by
      unfold mt
      rw [setF_n _ (by omega), setF_n _ (by omega), setF_n _ (by omega), setF_n _ (by omega)])
    have e2 : mt (setF RX n X) (setF RU n U) (setF RY n Y) (setF G n t) E law n = (t || fit law X U Y E) := by
      unfold mt
      rw [setF_s, setF_s, setF_s, setF_s]
    show (if 0 ≤ law ∧ law < 289 ∧ (t || fit law X U Y E) = true then bme law ||| iI ((2 ^ n : Nat) : Int) else bme law) = iI ((bts (mt (setF RX n X) (setF RU n U) (setF RY n Y) (setF G n t) E law) n + (if mt (setF RX n X) (setF RU n U) (setF RY n Y) (setF G n t) E law n then 2 ^ n else 0) : Nat) : Int)
    rw [e1, e2, hm law hl]
    by_cases c : (t || fit law X U Y E) = true
    · rw [if_pos ⟨Nat.zero_le _, hl, c⟩, if_pos c, iI_or, bts_or]
    · rw [if_neg (fun q => c q.2.2), if_neg c, Nat.add_zero]
/-! the table of the fewest laws -/
def lowb (S : Nat) : Nat := S ^^^ (S &&& (S - 1))
def restS (S w : Nat) : Nat := S ^^^ (S &&& w)
def stepMin (W T : Nat → Nat) (S : Nat) : Nat → Nat
  | 0 => 100
  | k + 1 => if (W k &&& lowb S) = 0 then stepMin W T S k else min (stepMin W T S k) (T (restS S (W k)) + 1)
def IsCov (W : Nat → Nat) (c : Nat) (T : Nat → Nat) : Prop := T 0 = 0 ∧ ∀ S, 0 < S → S < 2 ^ c → T S = stepMin W T S 289
def Great (pgc : Int32) (pgr : Nat → Int32) (W : Nat → Nat) : Prop := ∃ (g : Nat) (B : Nat → Nat), g ≤ 289 ∧ pgc = iI g ∧ (∀ i, i < g → pgr i = iI ((B i : Nat) : Int) ∧ ∃ law, law < 289 ∧ B i = W law) ∧ ∀ law, law < 289 → ∃ i, i < g ∧ W law &&& B i = W law
def InvP (pgc prc : Int32) (pgr pla : Nat → Int32) (n : Nat) (W : Nat → Nat) : Prop :=
  ∃ (c : Nat) (T : Nat → Nat), c ≤ n ∧ prc = iI c ∧ IsCov W c T ∧ (∀ S, S < 2 ^ c → pla S = iI ((T S : Nat) : Int) ∧ T S ≤ 100) ∧ (c = n → 0 < n → Great pgc pgr W)
theorem and_ext {S w v c : Nat} (hS : S < 2 ^ c) (h : ∀ r, r < c → w.testBit r = v.testBit r) : S &&& w = S &&& v := by
  apply Nat.eq_of_testBit_eq
  intro r
  rw [Nat.testBit_and, Nat.testBit_and]
  by_cases hr : r < c
  · rw [h r hr]
  · have : S.testBit r = false := Nat.testBit_lt_two_pow (Nat.lt_of_lt_of_le hS (Nat.pow_le_pow_right (by decide) (by omega)))
    rw [this]; simp
theorem lowb_lt {S c : Nat} (hS : S < 2 ^ c) : lowb S < 2 ^ c := Nat.xor_lt_two_pow hS (Nat.and_lt_two_pow _ (by omega))
theorem stepMin_ext {W V T : Nat → Nat} {S c : Nat} (hS : S < 2 ^ c) : ∀ k, k ≤ 289 → (∀ law, law < 289 → ∀ r, r < c → (W law).testBit r = (V law).testBit r) → stepMin W T S k = stepMin V T S k
  | 0, _, _ => rfl
  | k + 1, hk, h => by
    have ih := stepMin_ext (T := T) hS k (by omega) h
    have e1 : W k &&& lowb S = V k &&& lowb S := by
      rw [Nat.and_comm, and_ext (lowb_lt hS) (h k (by omega)), Nat.and_comm]
    have e2 : restS S (W k) = restS S (V k) := by unfold restS; rw [and_ext hS (h k (by omega))]
    unfold stepMin
    rw [ih, e1, e2]
theorem IsCov_ext {W V T : Nat → Nat} {c : Nat} (hc : IsCov W c T) (h : ∀ law, law < 289 → ∀ r, r < c → (W law).testBit r = (V law).testBit r) : IsCov V c T :=
  ⟨hc.1, fun S h1 h2 => by rw [hc.2 S h1 h2, stepMin_ext h2 289 (Nat.le_refl _) h]⟩
/-- one row more leaves the table as it is -/
theorem InvP_add {pgc prc : Int32} {pgr pla : Nat → Int32} {n E : Nat} {RX RU RY : Nat → Int} {G : Nat → Bool} (h : InvP pgc prc pgr pla n (fun law => bts (mt RX RU RY G E law) n)) (X U Y : Int) (t : Bool) : InvP pgc prc pgr pla (n + 1) (fun law => bts (mt (setF RX n X) (setF RU n U) (setF RY n Y) (setF G n t) E law) (n + 1)) := by
  obtain ⟨c, T, h1, h2, h3, h4, h5⟩ := h
  refine ⟨c, T, by omega, h2, IsCov_ext h3 (fun law hl r hr => ?_), h4, fun e => by omega⟩
  show (bts (mt RX RU RY G E law) n).testBit r = (bts (mt (setF RX n X) (setF RU n U) (setF RY n Y) (setF G n t) E law) (n + 1)).testBit r
  rw [bts_tb, bts_tb, decide_eq_true (p := r < n) (by omega), decide_eq_true (p := r < n + 1) (by omega)]
  unfold mt
  rw [setF_n _ (by omega), setF_n _ (by omega), setF_n _ (by omega), setF_n _ (by omega)]
theorem InvP_forget {pgc prc : Int32} {pgr pla : Nat → Int32} {n : Nat} {W : Nat → Nat} (h : InvP pgc prc pgr pla n W) (m : Nat) (V : Nat → Nat) : InvP pgc 0 pgr pla m V := by
  obtain ⟨c, T, h1, h2, h3, h4, h5⟩ := h
  refine ⟨0, fun _ => 0, Nat.zero_le _, rfl, ⟨rfl, fun S g1 g2 => by omega⟩, fun S hS => ?_, fun e => by omega⟩
  have e : S = 0 := by omega
  subst e
  have h6 := h4 0 (Nat.two_pow_pos c)
  rw [h6.1, h3.1]
  exact ⟨rfl, by decide⟩
def InvT (tle : Int32) (tby : Nat → Int32) (mtd : Int32) (dtp : Nat → Int32) : Prop := ∃ len : Nat, len ≤ 120 ∧ tle = iI len ∧ mtd = iI len ∧ ∀ i, i < len → ∃ ch : Nat, 32 ≤ ch ∧ ch ≤ 126 ∧ tby i = iI ch ∧ dtp i = iI ch
def InvK (ksz kmb kwa kra : Int32) (kla : Nat → Int32) (mkn mmb mwa mra : Int32) (dkl : Nat → Int32) : Prop := ∃ (k : Nat) (LW : Nat → Nat) (mb : Nat), k ≤ 4 ∧ ksz = iI k ∧ mkn = iI k ∧ (∀ i, i < k → LW i < 289 ∧ kla i = iI ((LW i : Nat) : Int) ∧ dkl i = iI ((LW i : Nat) : Int)) ∧ kmb = iI mb ∧ mmb = iI mb ∧ mb < 2 ^ k ∧ kwa = mwa ∧ kra = mra
def InvO (lo hi mbl mbh : Int32) : Prop := ∃ a b : Int, lo = iI a ∧ mbl = iI a ∧ hi = iI b ∧ mbh = iI b ∧ (-9999 ≤ a ∧ a ≤ 9999) ∧ (-9999 ≤ b ∧ b ≤ 9999)
def InvS (sla ssz : Nat → Int32) (sit : Nat → Nat → Int32) (dln dsz dit : Nat → Int32) : Prop := ∀ k, k < 4 → sla k = dln k ∧ ((sla k = iI (-1) ∧ ssz k = iI 0) ∨ ∃ la z : Nat, la ≤ 2 ∧ sla k = iI la ∧ z ≤ 36 ∧ ssz k = iI z ∧ dsz k = iI z) ∧ ∀ i, i < 36 → sit k i = dit (36 * k + i)
def InvA (bsz : Int32) (bgp : Int32) (ber : Int32) (bxs : Nat → Int32) (bus : Nat → Int32) (bys : Nat → Int32) (bme : Nat → Int32) (pgc : Int32) (prc : Int32) (pgr : Nat → Int32) (pla : Nat → Int32) (tle : Int32) (tga : Int32) (trr : Int32) (tat : Int32) (tfa : Int32) (tby : Nat → Int32) (tnu : Nat → Int32) (rlc : Int32) (rla : Nat → Int32) (rmo : Nat → Int32) (ksz : Int32) (kmb : Int32) (kwa : Int32) (kra : Int32) (kla : Nat → Int32) (lo : Int32) (hi : Int32) (glo : Int32) (ghi : Int32) (sla : Nat → Int32) (ssz : Nat → Int32) (sit : Nat → Nat → Int32) (mrm : Int32) (mer : Int32) (mtd : Int32) (mat : Int32) (mwr : Int32) (mkn : Int32) (mmb : Int32) (mwa : Int32) (mra : Int32) (mbl : Int32) (mbh : Int32) (dxs : Nat → Int32) (dus : Nat → Int32) (dys : Nat → Int32) (dgp : Nat → Int32) (dtp : Nat → Int32) (dme : Nat → Int32) (dle : Nat → Int32) (dlt : Nat → Int32) (dkl : Nat → Int32) (dln : Nat → Int32) (dsz : Nat → Int32) (dit : Nat → Int32) (dmv : Nat → Int32) : Prop := ∃ (n E : Nat) (RX RU RY : Nat → Int) (G : Nat → Bool), InvB bsz bgp ber bxs bus bys bme mrm mer dxs dus dys dgp n E RX RU RY G ∧ InvP pgc prc pgr pla n (fun law => bts (mt RX RU RY G E law) n) ∧ InvT tle tby mtd dtp ∧ InvK ksz kmb kwa kra kla mkn mmb mwa mra dkl ∧ InvO lo hi mbl mbh ∧ InvS sla ssz sit dln dsz dit
/-! row, gap -/
def near (z : Int) : Bool := decide (-99 ≤ z) && decide (z ≤ 99)
theorem near_t {z : Int} (h : near z = true) : -99 ≤ z ∧ z ≤ 99 := by
  unfold near at h
  rw [Bool.and_eq_true] at h
  exact ⟨of_decide_eq_true h.1, of_decide_eq_true h.2⟩
theorem q_near99 (N : Nat) {z : Int} (hz : -2147483648 ≤ z ∧ z < 2147483648) : f_X8_isNear N (iI z) (99 : Int32) = some (bI (near z)) := q_near N hz (f_ := 99) (by omega)
theorem q_small99 (N : Nat) {z : Int} (hz : -2147483648 ≤ z ∧ z < 2147483648) : f_X9_isSmall N (iI z) = some (bI (near z)) := q_small N hz
