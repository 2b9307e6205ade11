def f_X5_take_two (N : Nat) (p0 : Int32) (p2 : Int32) (p3 : Int32) (ssz : Int32) (sit : Nat → Int32) (ssz2 : Int32) (sit2 : Nat → Int32) : Option ((Nat → Int32)) :=
  b1 (f_X5_covers N p0 p3 ssz) (fun r2 => (if r2 = 0 then some (sit) else b1 (f_X5_covers N p2 p3 ssz2) (fun r5 => (if r5 = 0 then some (sit) else gc p2 p0 p3 36 36 (some ((va_cpy sit2 sit p2.toNatClampNeg p0.toNatClampNeg p3.toNatClampNeg)))))))
def f_X5_take_same (N : Nat) (p0 : Int32) (p2 : Int32) (p3 : Int32) (ssz : Int32) (sit : Nat → Int32) : Option ((Nat → Int32)) :=
  b1 (f_X5_covers N p0 p3 ssz) (fun r2 => (if r2 = 0 then some (sit) else b1 (f_X5_covers N p2 p3 ssz) (fun r5 => (if r5 = 0 then some (sit) else gc p2 p0 p3 36 36 (some ((va_cpy sit sit p2.toNatClampNeg p0.toNatClampNeg p3.toNatClampNeg)))))))
abbrev rm_X5_take_two : Room := { frames := 1, cells := 0, slots := 0, locals := 40 }
theorem iX5_take_two_X5 : ∀ w ∈ wsX50, w ∈ wsX5_take := by decide +kernel
theorem kX5_take_two_1 : (Cond.fieldLink RX5 11 "TwoLaws$Sheet" "items" "[I") ∈ wsX5_take := by decide +kernel
theorem kX5_take_two_2 : (Cond.methodLink RX5 45 arraycopyName) ∈ wsX5_take := by decide +kernel
theorem kX5_take_two_3 : (Cond.native arraycopyName) ∈ wsX5_take := by decide +kernel
theorem kX5_take_two_4 : (Cond.static arraycopyName) ∈ wsX5_take := by decide +kernel
theorem kX5_take_two_5 : (Cond.initialized "java/lang/System") ∈ wsX5_take := by decide +kernel
set_option maxHeartbeats 4000000 in
set_option maxRecDepth 100000 in
theorem cr_X5_take_two (l : Launch) (D : va_G) (ky : Nat → ClassId) (aS aSi aS2 aSi2 : Nat) (sz N : Nat)  (sla : Int32) (ssz : Int32) (sit : Nat → Int32) (sla2 : Int32) (ssz2 : Int32) (sit2 : Nat → Int32) (p0 : Int32) (p2 : Int32) (p3 : Int32) (res : (Nat → Int32)) (hF : f_X5_take_two N p0 p2 p3 ssz sit ssz2 sit2 = some res) : MV l yX5_take wsX5_take rm_X5_take_two D ky sz [.ref aS, .int p0, .ref aS2, .int p2, .int p3] (w_sheet2 ky aS aSi aS2 aSi2 sla ssz sit sla2 ssz2 sit2) (w_sheet2 ky aS aSi aS2 aSi2 sla ssz res sla2 ssz2 sit2) := by
  unfold MV
  refine Met.ofW (cc := cX5_take) (maxL := 5) (ret := none) (by decide) rfl ?_
  intro p e s m args below meth c s₁ B hml hv
  obtain ⟨rfl, hsz, hP, hK, hD0⟩ := hv
  have hx := B.exec
  have hb := B.bytes
  have hr := B.returns
  have hts := atoms_spec (ws := wsX5_take) B.pre
  have hown : s.vm.findClass RX5 = some m.cls := findClass_of_methodNamed B.named
  have hlocks := B.notSynchronized
  subst hsz
  have hD := hD0.self (sz := s.heap.size)
  generalize hAe : va_A (w_sheet2 ky aS aSi aS2 aSi2 sla ssz sit sla2 ssz2 sit2) s.heap.size = A at hD ⊢
  have hA : ∀ q : Nat, s.heap.size ≤ q → A q := fun q h => by rw [← hAe]; exact Or.inr h
  have hS : va_S A s.heap s.heap [] := va_S.rf
  have hP : va_P D vwCl (w_sheet2 ky aS aSi aS2 aSi2 sla ssz sit sla2 ssz2 sit2) s.heap := hP
  have hl := lv_entry ([.ref aS, .int p0, .ref aS2, .int p2, .int p3]) (n := 5) (Nat.le_of_ble_eq_true rfl)
  rw [lg_entry_eq]
  generalize (lg_sl ([.ref aS, .int p0, .ref aS2, .int p2, .int p3]) ++ List.replicate (5 - (lg_sl ([.ref aS, .int p0, .ref aS2, .int p2, .int p3])).length) Slot.unset).toArray = ls at hl ⊢
  have hl : lv_has ls 5 [(0, .ref aS), (1, .int p0), (2, .ref aS2), (3, .int p2), (4, .int p3)] := hl
  have C : cx p s m c ([.ref aS, .int p0, .ref aS2, .int p2, .int p3]).toArray D ky A cX5_take 5 wsX5_take RX5 := ⟨hx, hb, hml, hown, hts, hK, hA⟩
  have hQ : ∀ (pc : Nat) (H : Heap) (locs : List Loc) (ls : Array Slot), decode cX5_take pc = .ok (.return_, 1) → va_P D vwCl (w_sheet2 ky aS aSi aS2 aSi2 sla ssz res sla2 ssz2 sit2) H → va_D A (w_sheet2 ky aS aSi aS2 aSi2 sla ssz res sla2 ssz2 sit2) → va_S A s.heap H locs → W p l e rm_X5_take_two s m ([.ref aS, .int p0, .ref aS2, .int p2, .int p3]).toArray below meth c H locs 0 0 (MQ below (va_Qv (S := Unit) (fun _ => True) (fun _ t => va_P D vwCl (w_sheet2 ky aS aSi aS2 aSi2 sla ssz res sla2 ssz2 sit2) t.heap ∧ va_K D vwCl (tyW ky) t ∧ va_D A (w_sheet2 ky aS aSi aS2 aSi2 sla ssz res sla2 ssz2 sit2)) A) ([.ref aS, .int p0, .ref aS2, .int p2, .int p3]).toArray s 0 0 A) (F0 m pc ls []) := fun pc H locs ls hd hP hD hS => W.vret hx hb hr (fun t ht hW => ⟨⟨(), rfl, trivial, by rw [ht]; exact hP, va_K.moved hW.alike hK, hD⟩, hS.F ht⟩) hS.2.2 hd
  unfold f_X5_take_two at hF
  refine lv_aload_n hx hb dX5_take_0 rfl (lv_at hl 0 rfl) ?_
  refine lv_iload_n hx hb dX5_take_1 rfl (lv_at hl 1 rfl) ?_
  refine lv_iload hx hb dX5_take_2 (lv_at hl 4 rfl) ?_
  obtain ⟨r2, h1, hF⟩ := b1_s hF
  refine cl_vi (As := [.int p0, .int p3]) (rest := []) (w' := (w_sheet2 ky aS aSi aS2 aSi2 sla ssz sit sla2 ssz2 sit2)) ⟨hx, hb, hml, hown, hts⟩ hK hP hD hS hA (c_X5_covers l D ky aS aSi _ N  sla ssz sit p0 p3 r2 h1) (cwV 2 hts gX5_take_X5_covers rfl rfl rfl (by decide +kernel) ⟨Nat.le_of_ble_eq_true rfl, Nat.le_of_ble_eq_true rfl⟩) [0, 1] [2, 3] [2, 3, 0, 1] 0 4 rfl rfl rfl rfl (wr := [(aS2, .inr (4, [.ref aSi2, .int sla2, .int ssz2])), (aSi2, .inl (ky 0, 36, .inl sit2))]) rfl (by decide) rfl rfl hl.1 (Nat.le_of_ble_eq_true rfl) dX5_take_4 ⟨Nat.zero_le _, Nat.zero_le _⟩ (fun H locs hP hD hS => ?_)
  refine lv_if_eq (tgt := 35) hx hb dX5_take_7 (by decide) (fun c3 => ?_) (fun c3 => ?_)
  · have hF := if_t c3 hF
    have hF := Option.some.inj hF
    subst hF
    exact hQ _ _ _ _ dX5_take_35 hP hD hS
  · have hF := if_f c3 hF
    refine lv_aload_n hx hb dX5_take_10 rfl (lv_at hl 2 rfl) ?_
    refine lv_iload_n hx hb dX5_take_11 rfl (lv_at hl 3 rfl) ?_
    refine lv_iload hx hb dX5_take_12 (lv_at hl 4 rfl) ?_
    obtain ⟨r5, h4, hF⟩ := b1_s hF
    refine cl_vi (As := [.int p2, .int p3]) (rest := []) (w' := (w_sheet2 ky aS aSi aS2 aSi2 sla ssz sit sla2 ssz2 sit2)) ⟨hx, hb, hml, hown, hts⟩ hK hP hD hS hA (c_X5_covers l D ky aS2 aSi2 _ N  sla2 ssz2 sit2 p2 p3 r5 h4) (cwV 2 hts gX5_take_X5_covers rfl rfl rfl (by decide +kernel) ⟨Nat.le_of_ble_eq_true rfl, Nat.le_of_ble_eq_true rfl⟩) [2, 3] [0, 1] [0, 1, 2, 3] 0 4 rfl rfl rfl rfl (wr := [(aS, .inr (4, [.ref aSi, .int sla, .int ssz])), (aSi, .inl (ky 0, 36, .inl sit))]) rfl (by decide) rfl rfl hl.1 (Nat.le_of_ble_eq_true rfl) dX5_take_14 ⟨Nat.zero_le _, Nat.zero_le _⟩ (fun H locs hP hD hS => ?_)
    refine lv_if_eq (tgt := 35) hx hb dX5_take_17 (by decide) (fun c6 => ?_) (fun c6 => ?_)
    · have hF := if_t c6 hF
      have hF := Option.some.inj hF
      subst hF
      exact hQ _ _ _ _ dX5_take_35 hP hD hS
    · have hF := if_f c6 hF
      refine lv_aload_n hx hb dX5_take_20 rfl (lv_at hl 2 rfl) ?_
      refine va_get (D := D) (ci := 4) (v := .ref aSi2) (C := RX5) (T := TX5) (N := 3) hx hb hts iX5_take_two_X5 hown hK hP 2 rfl rfl 0 (by decide) (hts _ kX5_take_two_1) (fun _ h9 => h9) rfl dX5_take_21 ?_
      refine lv_iload_n hx hb dX5_take_24 rfl (lv_at hl 3 rfl) ?_
      refine lv_aload_n hx hb dX5_take_25 rfl (lv_at hl 0 rfl) ?_
      refine va_get (D := D) (ci := 4) (v := .ref aSi) (C := RX5) (T := TX5) (N := 3) hx hb hts iX5_take_two_X5 hown hK hP 0 rfl rfl 0 (by decide) (hts _ kX5_take_two_1) (fun _ h9 => h9) rfl dX5_take_26 ?_
      refine lv_iload_n hx hb dX5_take_29 rfl (lv_at hl 1 rfl) ?_
      refine lv_iload hx hb dX5_take_30 (lv_at hl 4 rfl) ?_
      obtain ⟨⟨h71, h72, h73, h74, h75⟩, hF⟩ := gc_s hF
      refine va_copyi hx hb (hml.trans hl.1.symm) hown (hts _ kX5_take_two_2) (hts _ kX5_take_two_3) (hts _ kX5_take_two_4) (hts _ kX5_take_two_5) hK hP hD hS 3 1 0 0 rfl rfl rfl rfl rfl h71 h72 h73 h74 h75 (fun _ _ => rfl) (Nat.le_of_ble_eq_true rfl) (Nat.le_of_ble_eq_true rfl) dX5_take_32 (fun H locs hP hD hS => ?_)
      have hP : va_P D vwCl (w_sheet2 ky aS aSi aS2 aSi2 sla ssz (va_cpy sit2 sit p2.toNatClampNeg p0.toNatClampNeg p3.toNatClampNeg) sla2 ssz2 sit2) H := hP
      have hD : va_D A (w_sheet2 ky aS aSi aS2 aSi2 sla ssz (va_cpy sit2 sit p2.toNatClampNeg p0.toNatClampNeg p3.toNatClampNeg) sla2 ssz2 sit2) := hD
      have hF := Option.some.inj hF
      subst hF
      exact hQ _ _ _ _ dX5_take_35 hP hD hS
theorem c_X5_take_two (l : Launch) (D : va_G) (ky : Nat → ClassId) (aS aSi aS2 aSi2 : Nat) (sz N : Nat)  (sla : Int32) (ssz : Int32) (sit : Nat → Int32) (sla2 : Int32) (ssz2 : Int32) (sit2 : Nat → Int32) (p0 : Int32) (p2 : Int32) (p3 : Int32) (sit' : Nat → Int32) (hF : f_X5_take_two N p0 p2 p3 ssz sit ssz2 sit2 = some (sit')) : MV l yX5_take wsX5_take rm_X5_take_two D ky sz [.ref aS, .int p0, .ref aS2, .int p2, .int p3] (w_sheet2 ky aS aSi aS2 aSi2 sla ssz sit sla2 ssz2 sit2) (w_sheet2 ky aS aSi aS2 aSi2 sla ssz sit' sla2 ssz2 sit2) :=
  cr_X5_take_two l D ky aS aSi aS2 aSi2 sz N sla ssz sit sla2 ssz2 sit2 p0 p2 p3 (sit') hF
abbrev rm_X5_take_same : Room := { frames := 1, cells := 0, slots := 0, locals := 40 }
theorem iX5_take_same_X5 : ∀ w ∈ wsX50, w ∈ wsX5_take := by decide +kernel
theorem kX5_take_same_1 : (Cond.fieldLink RX5 11 "TwoLaws$Sheet" "items" "[I") ∈ wsX5_take := by decide +kernel
theorem kX5_take_same_2 : (Cond.methodLink RX5 45 arraycopyName) ∈ wsX5_take := by decide +kernel
theorem kX5_take_same_3 : (Cond.native arraycopyName) ∈ wsX5_take := by decide +kernel
theorem kX5_take_same_4 : (Cond.static arraycopyName) ∈ wsX5_take := by decide +kernel
theorem kX5_take_same_5 : (Cond.initialized "java/lang/System") ∈ wsX5_take := by decide +kernel
set_option maxHeartbeats 4000000 in
set_option maxRecDepth 100000 in
theorem cr_X5_take_same (l : Launch) (D : va_G) (ky : Nat → ClassId) (aS aSi : Nat) (sz N : Nat)  (sla : Int32) (ssz : Int32) (sit : Nat → Int32) (p0 : Int32) (p2 : Int32) (p3 : Int32) (res : (Nat → Int32)) (hF : f_X5_take_same N p0 p2 p3 ssz sit = some res) : MV l yX5_take wsX5_take rm_X5_take_same D ky sz [.ref aS, .int p0, .ref aS, .int p2, .int p3] (w_sheet ky aS aSi sla ssz sit) (w_sheet ky aS aSi sla ssz res) := by
  unfold MV
  refine Met.ofW (cc := cX5_take) (maxL := 5) (ret := none) (by decide) rfl ?_
  intro p e s m args below meth c s₁ B hml hv
  obtain ⟨rfl, hsz, hP, hK, hD0⟩ := hv
  have hx := B.exec
  have hb := B.bytes
  have hr := B.returns
  have hts := atoms_spec (ws := wsX5_take) B.pre
  have hown : s.vm.findClass RX5 = some m.cls := findClass_of_methodNamed B.named
  have hlocks := B.notSynchronized
  subst hsz
  have hD := hD0.self (sz := s.heap.size)
  generalize hAe : va_A (w_sheet ky aS aSi sla ssz sit) s.heap.size = A at hD ⊢
  have hA : ∀ q : Nat, s.heap.size ≤ q → A q := fun q h => by rw [← hAe]; exact Or.inr h
  have hS : va_S A s.heap s.heap [] := va_S.rf
  have hP : va_P D vwCl (w_sheet ky aS aSi sla ssz sit) s.heap := hP
  have hl := lv_entry ([.ref aS, .int p0, .ref aS, .int p2, .int p3]) (n := 5) (Nat.le_of_ble_eq_true rfl)
  rw [lg_entry_eq]
  generalize (lg_sl ([.ref aS, .int p0, .ref aS, .int p2, .int p3]) ++ List.replicate (5 - (lg_sl ([.ref aS, .int p0, .ref aS, .int p2, .int p3])).length) Slot.unset).toArray = ls at hl ⊢
  have hl : lv_has ls 5 [(0, .ref aS), (1, .int p0), (2, .ref aS), (3, .int p2), (4, .int p3)] := hl
  have C : cx p s m c ([.ref aS, .int p0, .ref aS, .int p2, .int p3]).toArray D ky A cX5_take 5 wsX5_take RX5 := ⟨hx, hb, hml, hown, hts, hK, hA⟩
  have hQ : ∀ (pc : Nat) (H : Heap) (locs : List Loc) (ls : Array Slot), decode cX5_take pc = .ok (.return_, 1) → va_P D vwCl (w_sheet ky aS aSi sla ssz res) H → va_D A (w_sheet ky aS aSi sla ssz res) → va_S A s.heap H locs → W p l e rm_X5_take_same s m ([.ref aS, .int p0, .ref aS, .int p2, .int p3]).toArray below meth c H locs 0 0 (MQ below (va_Qv (S := Unit) (fun _ => True) (fun _ t => va_P D vwCl (w_sheet ky aS aSi sla ssz res) t.heap ∧ va_K D vwCl (tyW ky) t ∧ va_D A (w_sheet ky aS aSi sla ssz res)) A) ([.ref aS, .int p0, .ref aS, .int p2, .int p3]).toArray s 0 0 A) (F0 m pc ls []) := fun pc H locs ls hd hP hD hS => W.vret hx hb hr (fun t ht hW => ⟨⟨(), rfl, trivial, by rw [ht]; exact hP, va_K.moved hW.alike hK, hD⟩, hS.F ht⟩) hS.2.2 hd
  unfold f_X5_take_same at hF
  refine lv_aload_n hx hb dX5_take_0 rfl (lv_at hl 0 rfl) ?_
  refine lv_iload_n hx hb dX5_take_1 rfl (lv_at hl 1 rfl) ?_
  refine lv_iload hx hb dX5_take_2 (lv_at hl 4 rfl) ?_
  obtain ⟨r2, h1, hF⟩ := b1_s hF
  refine cl_vi (As := [.int p0, .int p3]) (rest := []) (w' := (w_sheet ky aS aSi sla ssz sit)) ⟨hx, hb, hml, hown, hts⟩ hK hP hD hS hA (c_X5_covers l D ky aS aSi _ N  sla ssz sit p0 p3 r2 h1) (cwV 2 hts gX5_take_X5_covers rfl rfl rfl (by decide +kernel) ⟨Nat.le_of_ble_eq_true rfl, Nat.le_of_ble_eq_true rfl⟩) [0, 1] [] [0, 1] 0 4 rfl rfl rfl rfl (wr := []) rfl (by decide) rfl rfl hl.1 (Nat.le_of_ble_eq_true rfl) dX5_take_4 ⟨Nat.zero_le _, Nat.zero_le _⟩ (fun H locs hP hD hS => ?_)
  refine lv_if_eq (tgt := 35) hx hb dX5_take_7 (by decide) (fun c3 => ?_) (fun c3 => ?_)
  · have hF := if_t c3 hF
    have hF := Option.some.inj hF
    subst hF
    exact hQ _ _ _ _ dX5_take_35 hP hD hS
  · have hF := if_f c3 hF
    refine lv_aload_n hx hb dX5_take_10 rfl (lv_at hl 2 rfl) ?_
    refine lv_iload_n hx hb dX5_take_11 rfl (lv_at hl 3 rfl) ?_
    refine lv_iload hx hb dX5_take_12 (lv_at hl 4 rfl) ?_
    obtain ⟨r5, h4, hF⟩ := b1_s hF
    refine cl_vi (As := [.int p2, .int p3]) (rest := []) (w' := (w_sheet ky aS aSi sla ssz sit)) ⟨hx, hb, hml, hown, hts⟩ hK hP hD hS hA (c_X5_covers l D ky aS aSi _ N  sla ssz sit p2 p3 r5 h4) (cwV 2 hts gX5_take_X5_covers rfl rfl rfl (by decide +kernel) ⟨Nat.le_of_ble_eq_true rfl, Nat.le_of_ble_eq_true rfl⟩) [0, 1] [] [0, 1] 0 4 rfl rfl rfl rfl (wr := []) rfl (by decide) rfl rfl hl.1 (Nat.le_of_ble_eq_true rfl) dX5_take_14 ⟨Nat.zero_le _, Nat.zero_le _⟩ (fun H locs hP hD hS => ?_)
    refine lv_if_eq (tgt := 35) hx hb dX5_take_17 (by decide) (fun c6 => ?_) (fun c6 => ?_)
    · have hF := if_t c6 hF
      have hF := Option.some.inj hF
      subst hF
      exact hQ _ _ _ _ dX5_take_35 hP hD hS
    · have hF := if_f c6 hF
      refine lv_aload_n hx hb dX5_take_20 rfl (lv_at hl 2 rfl) ?_
      refine va_get (D := D) (ci := 4) (v := .ref aSi) (C := RX5) (T := TX5) (N := 3) hx hb hts iX5_take_same_X5 hown hK hP 0 rfl rfl 0 (by decide) (hts _ kX5_take_same_1) (fun _ h9 => h9) rfl dX5_take_21 ?_
      refine lv_iload_n hx hb dX5_take_24 rfl (lv_at hl 3 rfl) ?_
      refine lv_aload_n hx hb dX5_take_25 rfl (lv_at hl 0 rfl) ?_
      refine va_get (D := D) (ci := 4) (v := .ref aSi) (C := RX5) (T := TX5) (N := 3) hx hb hts iX5_take_same_X5 hown hK hP 0 rfl rfl 0 (by decide) (hts _ kX5_take_same_1) (fun _ h9 => h9) rfl dX5_take_26 ?_
      refine lv_iload_n hx hb dX5_take_29 rfl (lv_at hl 1 rfl) ?_
      refine lv_iload hx hb dX5_take_30 (lv_at hl 4 rfl) ?_
      obtain ⟨⟨h71, h72, h73, h74, h75⟩, hF⟩ := gc_s hF
      refine va_copyi hx hb (hml.trans hl.1.symm) hown (hts _ kX5_take_same_2) (hts _ kX5_take_same_3) (hts _ kX5_take_same_4) (hts _ kX5_take_same_5) hK hP hD hS 1 1 0 0 rfl rfl rfl rfl rfl h71 h72 h73 h74 h75 (fun _ _ => rfl) (Nat.le_of_ble_eq_true rfl) (Nat.le_of_ble_eq_true rfl) dX5_take_32 (fun H locs hP hD hS => ?_)
      have hP : va_P D vwCl (w_sheet ky aS aSi sla ssz (va_cpy sit sit p2.toNatClampNeg p0.toNatClampNeg p3.toNatClampNeg)) H := hP
      have hD : va_D A (w_sheet ky aS aSi sla ssz (va_cpy sit sit p2.toNatClampNeg p0.toNatClampNeg p3.toNatClampNeg)) := hD
      have hF := Option.some.inj hF
      subst hF
      exact hQ _ _ _ _ dX5_take_35 hP hD hS
theorem c_X5_take_same (l : Launch) (D : va_G) (ky : Nat → ClassId) (aS aSi : Nat) (sz N : Nat)  (sla : Int32) (ssz : Int32) (sit : Nat → Int32) (p0 : Int32) (p2 : Int32) (p3 : Int32) (sit' : Nat → Int32) (hF : f_X5_take_same N p0 p2 p3 ssz sit = some (sit')) : MV l yX5_take wsX5_take rm_X5_take_same D ky sz [.ref aS, .int p0, .ref aS, .int p2, .int p3] (w_sheet ky aS aSi sla ssz sit) (w_sheet ky aS aSi sla ssz sit') :=
  cr_X5_take_same l D ky aS aSi sz N sla ssz sit p0 p2 p3 (sit') hF
