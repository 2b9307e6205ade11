/-- the sheets' row as the constructor leaves it -/
abbrev shf (a b c d : Nat) : Nat → Option Nat := va_up (va_up (va_up (va_up (fun _ => none) 0 (some a)) 1 (some b)) 2 (some c)) 3 (some d)
def sh5 {β : Type} (i : Int32) (g : Nat → Option β) (z : Option β) : Option β := if i < 0 ∨ 4 ≤ i then z else g i.toNatClampNeg
theorem in4 {i : Int32} (h : ¬ (i < 0 ∨ 4 ≤ i)) : i = 0 ∨ i = 1 ∨ i = 2 ∨ i = 3 := by
  have h1 : ¬ i < 0 := fun x => h (Or.inl x)
  have h2 : ¬ 4 ≤ i := fun x => h (Or.inr x)
  have g1 : ¬ i.toInt < 0 := fun x => h1 (Int32.lt_iff_toInt_lt.mpr x)
  have g2 : ¬ (4 : Int) ≤ i.toInt := fun x => h2 (Int32.le_iff_toInt_le.mpr x)
  have hx : i.toInt = 0 ∨ i.toInt = 1 ∨ i.toInt = 2 ∨ i.toInt = 3 := by omega
  rcases hx with e | e | e | e
  · exact Or.inl (Int32.toInt_inj.mp (by rw [e]; rfl))
  · exact Or.inr (Or.inl (Int32.toInt_inj.mp (by rw [e]; rfl)))
  · exact Or.inr (Or.inr (Or.inl (Int32.toInt_inj.mp (by rw [e]; rfl))))
  · exact Or.inr (Or.inr (Or.inr (Int32.toInt_inj.mp (by rw [e]; rfl))))
theorem sh5_s {β : Type} {i : Int32} {g : Nat → Option β} {z : Option β} {y : β} (h : sh5 i g z = some y) : ((i < 0 ∨ 4 ≤ i) ∧ z = some y) ∨ (i = 0 ∧ g 0 = some y) ∨ (i = 1 ∧ g 1 = some y) ∨ (i = 2 ∧ g 2 = some y) ∨ (i = 3 ∧ g 3 = some y) := by
  unfold sh5 at h
  by_cases hc : i < 0 ∨ 4 ≤ i
  · rw [if_pos hc] at h; exact Or.inl ⟨hc, h⟩
  · rw [if_neg hc] at h
    rcases in4 hc with e | e | e | e
    · subst e; exact Or.inr (Or.inl ⟨rfl, h⟩)
    · subst e; exact Or.inr (Or.inr (Or.inl ⟨rfl, h⟩))
    · subst e; exact Or.inr (Or.inr (Or.inr (Or.inl ⟨rfl, h⟩)))
    · subst e; exact Or.inr (Or.inr (Or.inr (Or.inr ⟨rfl, h⟩)))
abbrev w_xsarr (ky : Nat → ClassId) (aX aB aP aT aR aK aH aG aS aS0 aS1 aS2 aS3 : Nat)   : va_W := [(aX, .inr (7, [.ref aB, .ref aP, .ref aT, .ref aR, .ref aK, .ref aH, .ref aG, .ref aS])), (aS, .inl (ky 3, 4, .inr (.inr (.inr (.inr (shf aS0 aS1 aS2 aS3))))))]
abbrev w_xsh (ky : Nat → ClassId) (aX aB aP aT aR aK aH aG aS aS0 aS1 aS2 aS3 aI0 aI1 aI2 aI3 : Nat)  (sla : Nat → Int32) (ssz : Nat → Int32) (sit : Nat → Nat → Int32) : va_W := [(aX, .inr (7, [.ref aB, .ref aP, .ref aT, .ref aR, .ref aK, .ref aH, .ref aG, .ref aS])), (aS, .inl (ky 3, 4, .inr (.inr (.inr (.inr (shf aS0 aS1 aS2 aS3)))))), (aS0, .inr (4, [.ref aI0, .int (sla 0), .int (ssz 0)])), (aI0, .inl (ky 0, 36, .inl (sit 0))), (aS1, .inr (4, [.ref aI1, .int (sla 1), .int (ssz 1)])), (aI1, .inl (ky 0, 36, .inl (sit 1))), (aS2, .inr (4, [.ref aI2, .int (sla 2), .int (ssz 2)])), (aI2, .inl (ky 0, 36, .inl (sit 2))), (aS3, .inr (4, [.ref aI3, .int (sla 3), .int (ssz 3)])), (aI3, .inl (ky 0, 36, .inl (sit 3)))]
abbrev w_xshb (ky : Nat → ClassId) (aX aB aP aT aR aK aH aG aS aS0 aS1 aS2 aS3 aI0 aI1 aI2 aI3 ax au ay am : Nat)  (sla : Nat → Int32) (ssz : Nat → Int32) (sit : Nat → Nat → Int32) (bsz : Int32) (bgp : Int32) (ber : Int32) (bxs : Nat → Int32) (bus : Nat → Int32) (bys : Nat → Int32) (bme : Nat → Int32) : va_W := [(aX, .inr (7, [.ref aB, .ref aP, .ref aT, .ref aR, .ref aK, .ref aH, .ref aG, .ref aS])), (aS, .inl (ky 3, 4, .inr (.inr (.inr (.inr (shf aS0 aS1 aS2 aS3)))))), (aS0, .inr (4, [.ref aI0, .int (sla 0), .int (ssz 0)])), (aI0, .inl (ky 0, 36, .inl (sit 0))), (aS1, .inr (4, [.ref aI1, .int (sla 1), .int (ssz 1)])), (aI1, .inl (ky 0, 36, .inl (sit 1))), (aS2, .inr (4, [.ref aI2, .int (sla 2), .int (ssz 2)])), (aI2, .inl (ky 0, 36, .inl (sit 2))), (aS3, .inr (4, [.ref aI3, .int (sla 3), .int (ssz 3)])), (aI3, .inl (ky 0, 36, .inl (sit 3))), (aB, .inr (0, [.ref ax, .ref au, .ref ay, .ref am, .int bsz, .int bgp, .int ber])), (ax, .inl (ky 0, 12, .inl bxs)), (au, .inl (ky 0, 12, .inl bus)), (ay, .inl (ky 0, 12, .inl bys)), (am, .inl (ky 0, 289, .inl bme))]
abbrev rm_X8_sheetAt : Room := { frames := 0, cells := 0, slots := 0, locals := 0 }
theorem iX8_sheetAt_X8 : ∀ w ∈ wsX80, w ∈ wsX8_sheetAt := by decide +kernel
theorem kX8_sheetAt_1 : (Cond.fieldLink RX8 56 "TwoLaws" "sheets" "[LTwoLaws$Sheet;") ∈ wsX8_sheetAt := by decide +kernel
set_option maxHeartbeats 4000000 in
set_option maxRecDepth 100000 in
theorem c_X8_sheetAt (l : Launch) (D : va_G) (ky : Nat → ClassId) (aX aB aP aT aR aK aH aG aS aS0 aS1 aS2 aS3 : Nat) (sz : Nat) (p0 : Int32) (ro : Option Nat) (h : ((p0 < 0 ∨ 4 ≤ p0) ∧ ro = none) ∨ (¬ (p0 < 0 ∨ 4 ≤ p0) ∧ ro = shf aS0 aS1 aS2 aS3 p0.toNatClampNeg)) :
    MQr l yX8_sheetAt wsX8_sheetAt rm_X8_sheetAt D ky sz [.ref aX, .int p0] (w_xsarr ky aX aB aP aT aR aK aH aG aS aS0 aS1 aS2 aS3) (w_xsarr ky aX aB aP aT aR aK aH aG aS aS0 aS1 aS2 aS3) ro := by
  unfold MQr
  refine Met.ofW (cc := cX8_sheetAt) (maxL := 2) (ret := (some (.object "TwoLaws$Sheet"))) (by decide) rfl ?_
  intro p e s m args below meth c s₁ B hml hv
  obtain ⟨rfl, hsz, hP, hK, hD0⟩ := hv
  have hx := B.exec
  have hb := B.bytes
  have hr := B.returns
  have hts := atoms_spec (ws := wsX8_sheetAt) B.pre
  have hown : s.vm.findClass RX8 = some m.cls := findClass_of_methodNamed B.named
  have hlocks := B.notSynchronized
  subst hsz
  have hD := hD0.self (sz := s.heap.size)
  generalize hAe : va_A (w_xsarr ky aX aB aP aT aR aK aH aG aS aS0 aS1 aS2 aS3) s.heap.size = A at hD ⊢
  have hA : ∀ q : Nat, s.heap.size ≤ q → A q := fun q h => by rw [← hAe]; exact Or.inr h
  have hS : va_S A s.heap s.heap [] := va_S.rf
  have hP : va_P D vwCl (w_xsarr ky aX aB aP aT aR aK aH aG aS aS0 aS1 aS2 aS3) s.heap := hP
  have hl := lv_entry ([.ref aX, .int p0]) (n := 2) (Nat.le_of_ble_eq_true rfl)
  rw [lg_entry_eq]
  generalize (lg_sl ([.ref aX, .int p0]) ++ List.replicate (2 - (lg_sl ([.ref aX, .int p0])).length) Slot.unset).toArray = ls at hl ⊢
  have hl : lv_has ls 2 [(0, .ref aX), (1, .int p0)] := hl
  have hQ : ∀ (v : Value), v = va_rf ro → W p l e rm_X8_sheetAt s m ([.ref aX, .int p0]).toArray below meth c s.heap [] 0 0 (MQ below (va_Qq (S := Unit) (fun r _ => r = ro) (fun _ t => va_P D vwCl (w_xsarr ky aX aB aP aT aR aK aH aG aS aS0 aS1 aS2 aS3) t.heap ∧ va_K D vwCl (tyW ky) t ∧ va_D A (w_xsarr ky aX aB aP aT aR aK aH aG aS aS0 aS1 aS2 aS3)) A) ([.ref aX, .int p0]).toArray s 0 0 A) (F0 m 23 ls [v]) := by
    intro v hv
    subst hv
    refine W.aret hx hb hr (Or.inl ⟨_, rfl⟩) ?_ (fun t ht hW => ⟨⟨ro, (), rfl, rfl, by rw [ht]; exact hP, va_K.moved hW.alike hK, hD⟩, hS.F ht⟩) hS.2.2 dX8_sheetAt_23
    cases ro with
    | none => exact Or.inl rfl
    | some a => exact Or.inr ⟨a, rfl⟩
  refine lv_iload_n hx hb dX8_sheetAt_0 rfl (lv_at hl 1 rfl) ?_
  refine lv_if_lt (tgt := 22) hx hb dX8_sheetAt_1 (by decide) (fun c1 => ?_) (fun c1 => ?_)
  · refine lv_null hx hb dX8_sheetAt_22 ?_
    refine hQ _ ?_
    rcases h with ⟨_, h⟩ | ⟨g, _⟩
    · rw [h]; rfl
    · exact absurd (Or.inl c1) g
  refine lv_iload_n hx hb dX8_sheetAt_4 rfl (lv_at hl 1 rfl) ?_
  refine lv_aload_n hx hb dX8_sheetAt_5 rfl (lv_at hl 0 rfl) ?_
  refine va_get (D := D) (ci := 7) (v := .ref aS) (C := RX8) (T := TX8) (N := 8) hx hb hts iX8_sheetAt_X8 hown hK hP 0 rfl rfl 7 (by decide) (hts _ kX8_sheetAt_1) (fun _ h9 => h9) rfl dX8_sheetAt_6 ?_
  refine va_alen (v := (4 : Int32)) hx hb hK hP 1 3 rfl rfl rfl dX8_sheetAt_9 ?_
  refine lv_icmp_ge (tgt := 22) hx hb dX8_sheetAt_10 (by decide) (fun c2 => ?_) (fun c2 => ?_)
  · refine lv_null hx hb dX8_sheetAt_22 ?_
    refine hQ _ ?_
    rcases h with ⟨_, h⟩ | ⟨g, _⟩
    · rw [h]; rfl
    · exact absurd (Or.inr c2) g
  rcases h with ⟨g, _⟩ | ⟨g, h⟩
  · exact absurd g (fun g => g.elim c1 c2)
  refine lv_aload_n hx hb dX8_sheetAt_13 rfl (lv_at hl 0 rfl) ?_
  refine va_get (D := D) (ci := 7) (v := .ref aS) (C := RX8) (T := TX8) (N := 8) hx hb hts iX8_sheetAt_X8 hown hK hP 0 rfl rfl 7 (by decide) (hts _ kX8_sheetAt_1) (fun _ h9 => h9) rfl dX8_sheetAt_14 ?_
  refine lv_iload_n hx hb dX8_sheetAt_17 rfl (lv_at hl 1 rfl) ?_
  have hin : vp_in p0 4 := by rcases in4 g with e | e | e | e <;> (subst e; unfold vp_in; decide)
  refine va_aldq hx hb hK hP 1 3 rfl rfl hin dX8_sheetAt_18 ?_
  refine lv_goto (tgt := 23) hx hb dX8_sheetAt_19 (by decide) ?_
  exact hQ _ (by rw [h])
