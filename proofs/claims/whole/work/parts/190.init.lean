theorem ky_int {D : va_G} {cl : List vw_C} {tys : List (ClassId × FieldType)} {s : State} {c1 c2 : ClassId} (hK : va_K D cl tys s) (i j : Nat) (hi : tys[i]? = some (c1, .int)) (hj : tys[j]? = some (c2, .int)) : c1 = c2 := Option.some.inj (((hK.2 i _ hi).2 : s.vm.findClass _ = some c1).symm.trans ((hK.2 j _ hj).2 : s.vm.findClass _ = some c2))
theorem ky_boolean {D : va_G} {cl : List vw_C} {tys : List (ClassId × FieldType)} {s : State} {c1 c2 : ClassId} (hK : va_K D cl tys s) (i j : Nat) (hi : tys[i]? = some (c1, .boolean)) (hj : tys[j]? = some (c2, .boolean)) : c1 = c2 := Option.some.inj (((hK.2 i _ hi).2 : s.vm.findClass _ = some c1).symm.trans ((hK.2 j _ hj).2 : s.vm.findClass _ = some c2))
abbrev rm_X0_init : Room := { frames := 1, cells := 4, slots := 325, locals := 12 }
theorem kX0_init_0 : (Cond.methodLink RX0 3 objectInit) ∈ wsX0_init := by decide +kernel
theorem kX0_init_1 : (Cond.instanceMethod objectInit) ∈ wsX0_init := by decide +kernel
theorem kX0_init_2 : (Cond.code objectInit ⟨#[0xb1]⟩ 1 none) ∈ wsX0_init := by decide +kernel
theorem kX0_init_3 : (Cond.arrayClass .int) ∈ wsX0_init := by decide +kernel
theorem iX0_init_X0 : ∀ w ∈ wsX00, w ∈ wsX0_init := by decide +kernel
theorem kX0_init_5 : (Cond.fieldLink RX0 9 "TwoLaws$Book" "xs" "[I") ∈ wsX0_init := by decide +kernel
theorem kX0_init_6 : (Cond.fieldLink RX0 15 "TwoLaws$Book" "us" "[I") ∈ wsX0_init := by decide +kernel
theorem kX0_init_7 : (Cond.fieldLink RX0 18 "TwoLaws$Book" "ys" "[I") ∈ wsX0_init := by decide +kernel
theorem kX0_init_8 : (Cond.fieldLink RX0 21 "TwoLaws$Book" "meeting" "[I") ∈ wsX0_init := by decide +kernel
theorem kX0_init_9 : (Cond.fieldLink RX0 24 "TwoLaws$Book" "size" "I") ∈ wsX0_init := by decide +kernel
theorem kX0_init_10 : (Cond.fieldLink RX0 28 "TwoLaws$Book" "gaps" "I") ∈ wsX0_init := by decide +kernel
theorem kX0_init_11 : (Cond.fieldLink RX0 31 "TwoLaws$Book" "error" "I") ∈ wsX0_init := by decide +kernel
set_option maxHeartbeats 4000000 in
set_option maxRecDepth 100000 in
theorem c_X0_init (l : Launch) (D : va_G) (h0  : Nat) (sz : Nat) : Met l yX0_init wsX0_init rm_X0_init (va_Pc [.ref h0] (fun U => U.heap.size = sz ∧ va_P D vwCl [(h0, .inr (0, [.null, .null, .null, .null, .int 0, .int 0, .int 0]))] U.heap ∧ va_K D vwCl [] U ∧ va_D (fun _ => True) [(h0, .inr (0, [.null, .null, .null, .null, .int 0, .int 0, .int 0]))])) (va_Qv (S := Unit) (fun _ => True) (fun _ t => ∃ (q7 q15 q23 q32 : Nat) (c7 : ClassId), va_P D vwCl [(h0, .inr (0, [.ref q7, .ref q15, .ref q23, .ref q32, .int (0 : Int32), .int (0 : Int32), .int (1 : Int32)])), (q7, .inl (c7, 12, .inl (fun _ => 0))), (q15, .inl (c7, 12, .inl (fun _ => 0))), (q23, .inl (c7, 12, .inl (fun _ => 0))), (q32, .inl (c7, 289, .inl (fun _ => 0)))] t.heap ∧ va_K D vwCl [(c7, .int)] t ∧ va_D (va_A [(h0, .inr (0, [.null, .null, .null, .null, .int 0, .int 0, .int 0]))] sz) [(h0, .inr (0, [.ref q7, .ref q15, .ref q23, .ref q32, .int (0 : Int32), .int (0 : Int32), .int (1 : Int32)])), (q7, .inl (c7, 12, .inl (fun _ => 0))), (q15, .inl (c7, 12, .inl (fun _ => 0))), (q23, .inl (c7, 12, .inl (fun _ => 0))), (q32, .inl (c7, 289, .inl (fun _ => 0)))]) (va_A [(h0, .inr (0, [.null, .null, .null, .null, .int 0, .int 0, .int 0]))] sz)) 4 325 (va_A [(h0, .inr (0, [.null, .null, .null, .null, .int 0, .int 0, .int 0]))] sz) := by
  refine Met.ofW (cc := cX0_init) (maxL := 1) (ret := none) (by decide) rfl ?_
  intro p e s m args below meth c s₁ B hml hv
  obtain ⟨rfl, hsz, hP, hK, hD0⟩ := hv
  have hx := B.exec
  have hb := B.bytes
  have hr := B.returns
  have hts := atoms_spec (ws := wsX0_init) B.pre
  have hown : s.vm.findClass RX0 = some m.cls := findClass_of_methodNamed B.named
  have hlocks := B.notSynchronized
  have hin : meth.name = "<init>" := (name_of_methodNamed B.named B.method).1
  subst hsz
  have hD := hD0.self (sz := s.heap.size)
  generalize hAe : va_A [(h0, .inr (0, [.null, .null, .null, .null, .int 0, .int 0, .int 0]))] s.heap.size = A at hD ⊢
  have hA : ∀ q : Nat, s.heap.size ≤ q → A q := fun q h => by rw [← hAe]; exact Or.inr h
  have hS : va_S A s.heap s.heap [] := va_S.rf
  have hP : va_P D vwCl [(h0, .inr (0, [.null, .null, .null, .null, .int 0, .int 0, .int 0]))] s.heap := hP
  have hl := lv_entry ([.ref h0]) (n := 1) (Nat.le_of_ble_eq_true rfl)
  rw [lg_entry_eq]
  generalize (lg_sl ([.ref h0]) ++ List.replicate (1 - (lg_sl ([.ref h0])).length) Slot.unset).toArray = ls at hl ⊢
  have hl : lv_has ls 1 [(0, .ref h0)] := hl
  refine lv_aload_n hx hb dX0_init_0 rfl (lv_at hl 0 rfl) ?_
  refine W.objInit hx hb hown (hts _ kX0_init_0) (hts _ kX0_init_1) (hts _ kX0_init_2) rfl (by rw [hml]; exact hl.1) rfl dX0_init_1 (Nat.le_of_ble_eq_true rfl) (Nat.le_of_ble_eq_true rfl) ?_
  refine W.eq (g2 := F0 m 4 ls []) rfl ?_
  refine lv_aload_n hx hb dX0_init_4 rfl (lv_at hl 0 rfl) ?_
  refine lv_bipush (v := (12 : Int32)) hx hb dX0_init_5 (by decide) ?_
  refine va_newa (atype := .int) (a0 := (12, .inl (fun _ => 0))) hx hb (hts _ kX0_init_3) rfl hK hP hD hS hA (fun _ => rfl) (by decide) (by decide) (by decide) (Nat.le_of_ble_eq_true rfl) (Nat.le_of_ble_eq_true rfl) dX0_init_7 (fun q7 c7 H hK hP hD hS => ?_)
  have hK : va_K D vwCl [(c7, .int)] s := hK
  have hP : va_P D vwCl [(h0, .inr (0, [.null, .null, .null, .null, .int 0, .int 0, .int 0])), (q7, .inl (c7, 12, .inl (fun _ => 0)))] H := hP
  have hD : va_D A [(h0, .inr (0, [.null, .null, .null, .null, .int 0, .int 0, .int 0])), (q7, .inl (c7, 12, .inl (fun _ => 0)))] := hD
  refine W.widen (k := 1) (n := 12) (by omega) (by omega) ?_
  refine va_putF (D := D) (ci := 0) (v := .ref q7) (ty := .array .int) (C := RX0) (T := TX0) (N := 7) hx hb hts iX0_init_X0 tyX0 tyX0_ok nmX0 hown hK hP hD hS 0 rfl rfl 0 (by decide) (hts _ kX0_init_5) (fun _ h9 => h9) rfl hin rfl (by decide +kernel) rfl rfl (Nat.le_of_ble_eq_true rfl) dX0_init_9 (fun H locs hP hD hS => ?_)
  have hP : va_P D vwCl [(h0, .inr (0, [.ref q7, .null, .null, .null, .int 0, .int 0, .int 0])), (q7, .inl (c7, 12, .inl (fun _ => 0)))] H := hP
  have hD : va_D A [(h0, .inr (0, [.ref q7, .null, .null, .null, .int 0, .int 0, .int 0])), (q7, .inl (c7, 12, .inl (fun _ => 0)))] := hD
  refine lv_aload_n hx hb dX0_init_12 rfl (lv_at hl 0 rfl) ?_
  refine lv_bipush (v := (12 : Int32)) hx hb dX0_init_13 (by decide) ?_
  refine va_newa (atype := .int) (a0 := (12, .inl (fun _ => 0))) hx hb (hts _ kX0_init_3) rfl hK hP hD hS hA (fun _ => rfl) (by decide) (by decide) (by decide) (Nat.le_of_ble_eq_true rfl) (Nat.le_of_ble_eq_true rfl) dX0_init_15 (fun q15 c15 H hK hP hD hS => ?_)
  obtain rfl := ky_int hK 0 1 rfl rfl
  have hK := hK.sub (tys' := [(c7, .int)]) [0] rfl
  have hP : va_P D vwCl [(h0, .inr (0, [.ref q7, .null, .null, .null, .int 0, .int 0, .int 0])), (q7, .inl (c7, 12, .inl (fun _ => 0))), (q15, .inl (c7, 12, .inl (fun _ => 0)))] H := hP
  have hD : va_D A [(h0, .inr (0, [.ref q7, .null, .null, .null, .int 0, .int 0, .int 0])), (q7, .inl (c7, 12, .inl (fun _ => 0))), (q15, .inl (c7, 12, .inl (fun _ => 0)))] := hD
  refine W.widen (k := 2) (n := 24) (by omega) (by omega) ?_
  refine va_putF (D := D) (ci := 0) (v := .ref q15) (ty := .array .int) (C := RX0) (T := TX0) (N := 7) hx hb hts iX0_init_X0 tyX0 tyX0_ok nmX0 hown hK hP hD hS 0 rfl rfl 1 (by decide) (hts _ kX0_init_6) (fun _ h9 => h9) rfl hin rfl (by decide +kernel) rfl rfl (Nat.le_of_ble_eq_true rfl) dX0_init_17 (fun H locs hP hD hS => ?_)
  have hP : va_P D vwCl [(h0, .inr (0, [.ref q7, .ref q15, .null, .null, .int 0, .int 0, .int 0])), (q7, .inl (c7, 12, .inl (fun _ => 0))), (q15, .inl (c7, 12, .inl (fun _ => 0)))] H := hP
  have hD : va_D A [(h0, .inr (0, [.ref q7, .ref q15, .null, .null, .int 0, .int 0, .int 0])), (q7, .inl (c7, 12, .inl (fun _ => 0))), (q15, .inl (c7, 12, .inl (fun _ => 0)))] := hD
  refine lv_aload_n hx hb dX0_init_20 rfl (lv_at hl 0 rfl) ?_
  refine lv_bipush (v := (12 : Int32)) hx hb dX0_init_21 (by decide) ?_
  refine va_newa (atype := .int) (a0 := (12, .inl (fun _ => 0))) hx hb (hts _ kX0_init_3) rfl hK hP hD hS hA (fun _ => rfl) (by decide) (by decide) (by decide) (Nat.le_of_ble_eq_true rfl) (Nat.le_of_ble_eq_true rfl) dX0_init_23 (fun q23 c23 H hK hP hD hS => ?_)
  obtain rfl := ky_int hK 0 1 rfl rfl
  have hK := hK.sub (tys' := [(c7, .int)]) [0] rfl
  have hP : va_P D vwCl [(h0, .inr (0, [.ref q7, .ref q15, .null, .null, .int 0, .int 0, .int 0])), (q7, .inl (c7, 12, .inl (fun _ => 0))), (q15, .inl (c7, 12, .inl (fun _ => 0))), (q23, .inl (c7, 12, .inl (fun _ => 0)))] H := hP
  have hD : va_D A [(h0, .inr (0, [.ref q7, .ref q15, .null, .null, .int 0, .int 0, .int 0])), (q7, .inl (c7, 12, .inl (fun _ => 0))), (q15, .inl (c7, 12, .inl (fun _ => 0))), (q23, .inl (c7, 12, .inl (fun _ => 0)))] := hD
  refine W.widen (k := 3) (n := 36) (by omega) (by omega) ?_
  refine va_putF (D := D) (ci := 0) (v := .ref q23) (ty := .array .int) (C := RX0) (T := TX0) (N := 7) hx hb hts iX0_init_X0 tyX0 tyX0_ok nmX0 hown hK hP hD hS 0 rfl rfl 2 (by decide) (hts _ kX0_init_7) (fun _ h9 => h9) rfl hin rfl (by decide +kernel) rfl rfl (Nat.le_of_ble_eq_true rfl) dX0_init_25 (fun H locs hP hD hS => ?_)
  have hP : va_P D vwCl [(h0, .inr (0, [.ref q7, .ref q15, .ref q23, .null, .int 0, .int 0, .int 0])), (q7, .inl (c7, 12, .inl (fun _ => 0))), (q15, .inl (c7, 12, .inl (fun _ => 0))), (q23, .inl (c7, 12, .inl (fun _ => 0)))] H := hP
  have hD : va_D A [(h0, .inr (0, [.ref q7, .ref q15, .ref q23, .null, .int 0, .int 0, .int 0])), (q7, .inl (c7, 12, .inl (fun _ => 0))), (q15, .inl (c7, 12, .inl (fun _ => 0))), (q23, .inl (c7, 12, .inl (fun _ => 0)))] := hD
  refine lv_aload_n hx hb dX0_init_28 rfl (lv_at hl 0 rfl) ?_
  refine lv_sipush (v := (289 : Int32)) hx hb dX0_init_29 (by decide) ?_
  refine va_newa (atype := .int) (a0 := (289, .inl (fun _ => 0))) hx hb (hts _ kX0_init_3) rfl hK hP hD hS hA (fun _ => rfl) (by decide) (by decide) (by decide) (Nat.le_of_ble_eq_true rfl) (Nat.le_of_ble_eq_true rfl) dX0_init_32 (fun q32 c32 H hK hP hD hS => ?_)
  obtain rfl := ky_int hK 0 1 rfl rfl
  have hK := hK.sub (tys' := [(c7, .int)]) [0] rfl
  have hP : va_P D vwCl [(h0, .inr (0, [.ref q7, .ref q15, .ref q23, .null, .int 0, .int 0, .int 0])), (q7, .inl (c7, 12, .inl (fun _ => 0))), (q15, .inl (c7, 12, .inl (fun _ => 0))), (q23, .inl (c7, 12, .inl (fun _ => 0))), (q32, .inl (c7, 289, .inl (fun _ => 0)))] H := hP
  have hD : va_D A [(h0, .inr (0, [.ref q7, .ref q15, .ref q23, .null, .int 0, .int 0, .int 0])), (q7, .inl (c7, 12, .inl (fun _ => 0))), (q15, .inl (c7, 12, .inl (fun _ => 0))), (q23, .inl (c7, 12, .inl (fun _ => 0))), (q32, .inl (c7, 289, .inl (fun _ => 0)))] := hD
  refine W.widen (k := 4) (n := 325) (by omega) (by omega) ?_
  refine va_putF (D := D) (ci := 0) (v := .ref q32) (ty := .array .int) (C := RX0) (T := TX0) (N := 7) hx hb hts iX0_init_X0 tyX0 tyX0_ok nmX0 hown hK hP hD hS 0 rfl rfl 3 (by decide) (hts _ kX0_init_8) (fun _ h9 => h9) rfl hin rfl (by decide +kernel) rfl rfl (Nat.le_of_ble_eq_true rfl) dX0_init_34 (fun H locs hP hD hS => ?_)
  have hP : va_P D vwCl [(h0, .inr (0, [.ref q7, .ref q15, .ref q23, .ref q32, .int 0, .int 0, .int 0])), (q7, .inl (c7, 12, .inl (fun _ => 0))), (q15, .inl (c7, 12, .inl (fun _ => 0))), (q23, .inl (c7, 12, .inl (fun _ => 0))), (q32, .inl (c7, 289, .inl (fun _ => 0)))] H := hP
  have hD : va_D A [(h0, .inr (0, [.ref q7, .ref q15, .ref q23, .ref q32, .int 0, .int 0, .int 0])), (q7, .inl (c7, 12, .inl (fun _ => 0))), (q15, .inl (c7, 12, .inl (fun _ => 0))), (q23, .inl (c7, 12, .inl (fun _ => 0))), (q32, .inl (c7, 289, .inl (fun _ => 0)))] := hD
  refine lv_aload_n hx hb dX0_init_37 rfl (lv_at hl 0 rfl) ?_
  refine lv_iconst (v := (0 : Int32)) hx hb dX0_init_38 (by decide) ?_
  refine va_put (D := D) (ci := 0) (v := .int (0 : Int32)) (ty := .int) (C := RX0) (T := TX0) (N := 7) hx hb hts iX0_init_X0 tyX0 tyX0_ok nmX0 hown hK hP hD hS 0 rfl rfl 4 (by decide) (hts _ kX0_init_9) (fun _ h9 => h9) rfl (by decide +kernel) rfl rfl (Nat.le_of_ble_eq_true rfl) dX0_init_39 (fun H locs hP hD hS => ?_)
  have hP : va_P D vwCl [(h0, .inr (0, [.ref q7, .ref q15, .ref q23, .ref q32, .int (0 : Int32), .int 0, .int 0])), (q7, .inl (c7, 12, .inl (fun _ => 0))), (q15, .inl (c7, 12, .inl (fun _ => 0))), (q23, .inl (c7, 12, .inl (fun _ => 0))), (q32, .inl (c7, 289, .inl (fun _ => 0)))] H := hP
  have hD : va_D A [(h0, .inr (0, [.ref q7, .ref q15, .ref q23, .ref q32, .int (0 : Int32), .int 0, .int 0])), (q7, .inl (c7, 12, .inl (fun _ => 0))), (q15, .inl (c7, 12, .inl (fun _ => 0))), (q23, .inl (c7, 12, .inl (fun _ => 0))), (q32, .inl (c7, 289, .inl (fun _ => 0)))] := hD
  refine lv_aload_n hx hb dX0_init_42 rfl (lv_at hl 0 rfl) ?_
  refine lv_iconst (v := (0 : Int32)) hx hb dX0_init_43 (by decide) ?_
  refine va_put (D := D) (ci := 0) (v := .int (0 : Int32)) (ty := .int) (C := RX0) (T := TX0) (N := 7) hx hb hts iX0_init_X0 tyX0 tyX0_ok nmX0 hown hK hP hD hS 0 rfl rfl 5 (by decide) (hts _ kX0_init_10) (fun _ h9 => h9) rfl (by decide +kernel) rfl rfl (Nat.le_of_ble_eq_true rfl) dX0_init_44 (fun H locs hP hD hS => ?_)
  have hP : va_P D vwCl [(h0, .inr (0, [.ref q7, .ref q15, .ref q23, .ref q32, .int (0 : Int32), .int (0 : Int32), .int 0])), (q7, .inl (c7, 12, .inl (fun _ => 0))), (q15, .inl (c7, 12, .inl (fun _ => 0))), (q23, .inl (c7, 12, .inl (fun _ => 0))), (q32, .inl (c7, 289, .inl (fun _ => 0)))] H := hP
  have hD : va_D A [(h0, .inr (0, [.ref q7, .ref q15, .ref q23, .ref q32, .int (0 : Int32), .int (0 : Int32), .int 0])), (q7, .inl (c7, 12, .inl (fun _ => 0))), (q15, .inl (c7, 12, .inl (fun _ => 0))), (q23, .inl (c7, 12, .inl (fun _ => 0))), (q32, .inl (c7, 289, .inl (fun _ => 0)))] := hD
  refine lv_aload_n hx hb dX0_init_47 rfl (lv_at hl 0 rfl) ?_
  refine lv_iconst (v := (1 : Int32)) hx hb dX0_init_48 (by decide) ?_
  refine va_put (D := D) (ci := 0) (v := .int (1 : Int32)) (ty := .int) (C := RX0) (T := TX0) (N := 7) hx hb hts iX0_init_X0 tyX0 tyX0_ok nmX0 hown hK hP hD hS 0 rfl rfl 6 (by decide) (hts _ kX0_init_11) (fun _ h9 => h9) rfl (by decide +kernel) rfl rfl (Nat.le_of_ble_eq_true rfl) dX0_init_49 (fun H locs hP hD hS => ?_)
  have hP : va_P D vwCl [(h0, .inr (0, [.ref q7, .ref q15, .ref q23, .ref q32, .int (0 : Int32), .int (0 : Int32), .int (1 : Int32)])), (q7, .inl (c7, 12, .inl (fun _ => 0))), (q15, .inl (c7, 12, .inl (fun _ => 0))), (q23, .inl (c7, 12, .inl (fun _ => 0))), (q32, .inl (c7, 289, .inl (fun _ => 0)))] H := hP
  have hD : va_D A [(h0, .inr (0, [.ref q7, .ref q15, .ref q23, .ref q32, .int (0 : Int32), .int (0 : Int32), .int (1 : Int32)])), (q7, .inl (c7, 12, .inl (fun _ => 0))), (q15, .inl (c7, 12, .inl (fun _ => 0))), (q23, .inl (c7, 12, .inl (fun _ => 0))), (q32, .inl (c7, 289, .inl (fun _ => 0)))] := hD
  refine W.widen (k := 4) (n := 325) (by omega) (by omega) ?_
  exact W.vret hx hb hr (fun t ht hW => ⟨⟨(), rfl, trivial, q7, q15, q23, q32, c7, by rw [ht]; exact hP, va_K.moved hW.alike hK, hD⟩, hS.F ht⟩) hS.2.2 dX0_init_52

abbrev rm_X1_init : Room := { frames := 1, cells := 0, slots := 0, locals := 12 }
theorem kX1_init_0 : (Cond.methodLink RX1 3 objectInit) ∈ wsX1_init := by decide +kernel
theorem kX1_init_1 : (Cond.instanceMethod objectInit) ∈ wsX1_init := by decide +kernel
theorem kX1_init_2 : (Cond.code objectInit ⟨#[0xb1]⟩ 1 none) ∈ wsX1_init := by decide +kernel
theorem iX1_init_X1 : ∀ w ∈ wsX10, w ∈ wsX1_init := by decide +kernel
theorem kX1_init_4 : (Cond.fieldLink RX1 9 "TwoLaws$Box" "low" "I") ∈ wsX1_init := by decide +kernel
theorem kX1_init_5 : (Cond.fieldLink RX1 15 "TwoLaws$Box" "high" "I") ∈ wsX1_init := by decide +kernel
set_option maxHeartbeats 4000000 in
set_option maxRecDepth 100000 in
theorem c_X1_init (l : Launch) (D : va_G) (h0  : Nat) (sz : Nat) : Met l yX1_init wsX1_init rm_X1_init (va_Pc [.ref h0] (fun U => U.heap.size = sz ∧ va_P D vwCl [(h0, .inr (1, [.int 0, .int 0]))] U.heap ∧ va_K D vwCl [] U ∧ va_D (fun _ => True) [(h0, .inr (1, [.int 0, .int 0]))])) (va_Qv (S := Unit) (fun _ => True) (fun _ t => va_P D vwCl [(h0, .inr (1, [.int (0 : Int32), .int (0 : Int32)]))] t.heap ∧ va_K D vwCl [] t ∧ va_D (va_A [(h0, .inr (1, [.int 0, .int 0]))] sz) [(h0, .inr (1, [.int (0 : Int32), .int (0 : Int32)]))]) (va_A [(h0, .inr (1, [.int 0, .int 0]))] sz)) 0 0 (va_A [(h0, .inr (1, [.int 0, .int 0]))] sz) := by
  refine Met.ofW (cc := cX1_init) (maxL := 1) (ret := none) (by decide) rfl ?_
  intro p e s m args below meth c s₁ B hml hv
  obtain ⟨rfl, hsz, hP, hK, hD0⟩ := hv
  have hx := B.exec
  have hb := B.bytes
  have hr := B.returns
  have hts := atoms_spec (ws := wsX1_init) B.pre
  have hown : s.vm.findClass RX1 = some m.cls := findClass_of_methodNamed B.named
  have hlocks := B.notSynchronized
  have hin : meth.name = "<init>" := (name_of_methodNamed B.named B.method).1
  subst hsz
  have hD := hD0.self (sz := s.heap.size)
  generalize hAe : va_A [(h0, .inr (1, [.int 0, .int 0]))] s.heap.size = A at hD ⊢
  have hA : ∀ q : Nat, s.heap.size ≤ q → A q := fun q h => by rw [← hAe]; exact Or.inr h
  have hS : va_S A s.heap s.heap [] := va_S.rf
  have hP : va_P D vwCl [(h0, .inr (1, [.int 0, .int 0]))] s.heap := hP
  have hl := lv_entry ([.ref h0]) (n := 1) (Nat.le_of_ble_eq_true rfl)
  rw [lg_entry_eq]
  generalize (lg_sl ([.ref h0]) ++ List.replicate (1 - (lg_sl ([.ref h0])).length) Slot.unset).toArray = ls at hl ⊢
  have hl : lv_has ls 1 [(0, .ref h0)] := hl
  refine lv_aload_n hx hb dX1_init_0 rfl (lv_at hl 0 rfl) ?_
  refine W.objInit hx hb hown (hts _ kX1_init_0) (hts _ kX1_init_1) (hts _ kX1_init_2) rfl (by rw [hml]; exact hl.1) rfl dX1_init_1 (Nat.le_of_ble_eq_true rfl) (Nat.le_of_ble_eq_true rfl) ?_
  refine W.eq (g2 := F0 m 4 ls []) rfl ?_
  refine lv_aload_n hx hb dX1_init_4 rfl (lv_at hl 0 rfl) ?_
  refine lv_iconst (v := (0 : Int32)) hx hb dX1_init_5 (by decide) ?_
  refine va_put (D := D) (ci := 1) (v := .int (0 : Int32)) (ty := .int) (C := RX1) (T := TX1) (N := 2) hx hb hts iX1_init_X1 tyX1 tyX1_ok nmX1 hown hK hP hD hS 0 rfl rfl 0 (by decide) (hts _ kX1_init_4) (fun _ h9 => h9) rfl (by decide +kernel) rfl rfl (Nat.le_of_ble_eq_true rfl) dX1_init_6 (fun H locs hP hD hS => ?_)
  have hP : va_P D vwCl [(h0, .inr (1, [.int (0 : Int32), .int 0]))] H := hP
  have hD : va_D A [(h0, .inr (1, [.int (0 : Int32), .int 0]))] := hD
  refine lv_aload_n hx hb dX1_init_9 rfl (lv_at hl 0 rfl) ?_
  refine lv_iconst (v := (0 : Int32)) hx hb dX1_init_10 (by decide) ?_
  refine va_put (D := D) (ci := 1) (v := .int (0 : Int32)) (ty := .int) (C := RX1) (T := TX1) (N := 2) hx hb hts iX1_init_X1 tyX1 tyX1_ok nmX1 hown hK hP hD hS 0 rfl rfl 1 (by decide) (hts _ kX1_init_5) (fun _ h9 => h9) rfl (by decide +kernel) rfl rfl (Nat.le_of_ble_eq_true rfl) dX1_init_11 (fun H locs hP hD hS => ?_)
  have hP : va_P D vwCl [(h0, .inr (1, [.int (0 : Int32), .int (0 : Int32)]))] H := hP
  have hD : va_D A [(h0, .inr (1, [.int (0 : Int32), .int (0 : Int32)]))] := hD
  refine W.widen (k := 0) (n := 0) (by omega) (by omega) ?_
  exact W.vret hx hb hr (fun t ht hW => ⟨⟨(), rfl, trivial, by rw [ht]; exact hP, va_K.moved hW.alike hK, hD⟩, hS.F ht⟩) hS.2.2 dX1_init_14

abbrev rm_X2_init : Room := { frames := 1, cells := 1, slots := 4, locals := 12 }
theorem kX2_init_0 : (Cond.methodLink RX2 3 objectInit) ∈ wsX2_init := by decide +kernel
theorem kX2_init_1 : (Cond.instanceMethod objectInit) ∈ wsX2_init := by decide +kernel
theorem kX2_init_2 : (Cond.code objectInit ⟨#[0xb1]⟩ 1 none) ∈ wsX2_init := by decide +kernel
theorem kX2_init_3 : (Cond.arrayClass .int) ∈ wsX2_init := by decide +kernel
theorem iX2_init_X2 : ∀ w ∈ wsX20, w ∈ wsX2_init := by decide +kernel
theorem kX2_init_5 : (Cond.fieldLink RX2 11 "TwoLaws$Known" "laws" "[I") ∈ wsX2_init := by decide +kernel
theorem kX2_init_6 : (Cond.fieldLink RX2 15 "TwoLaws$Known" "size" "I") ∈ wsX2_init := by decide +kernel
theorem kX2_init_7 : (Cond.fieldLink RX2 19 "TwoLaws$Known" "mayBe" "I") ∈ wsX2_init := by decide +kernel
theorem kX2_init_8 : (Cond.fieldLink RX2 22 "TwoLaws$Known" "watched" "I") ∈ wsX2_init := by decide +kernel
theorem kX2_init_9 : (Cond.fieldLink RX2 25 "TwoLaws$Known" "rang" "I") ∈ wsX2_init := by decide +kernel
set_option maxHeartbeats 4000000 in
set_option maxRecDepth 100000 in
theorem c_X2_init (l : Launch) (D : va_G) (h0  : Nat) (sz : Nat) : Met l yX2_init wsX2_init rm_X2_init (va_Pc [.ref h0] (fun U => U.heap.size = sz ∧ va_P D vwCl [(h0, .inr (2, [.null, .int 0, .int 0, .int 0, .int 0]))] U.heap ∧ va_K D vwCl [] U ∧ va_D (fun _ => True) [(h0, .inr (2, [.null, .int 0, .int 0, .int 0, .int 0]))])) (va_Qv (S := Unit) (fun _ => True) (fun _ t => ∃ (q6 : Nat) (c6 : ClassId), va_P D vwCl [(h0, .inr (2, [.ref q6, .int (0 : Int32), .int (0 : Int32), .int (0 : Int32), .int (0 : Int32)])), (q6, .inl (c6, 4, .inl (fun _ => 0)))] t.heap ∧ va_K D vwCl [(c6, .int)] t ∧ va_D (va_A [(h0, .inr (2, [.null, .int 0, .int 0, .int 0, .int 0]))] sz) [(h0, .inr (2, [.ref q6, .int (0 : Int32), .int (0 : Int32), .int (0 : Int32), .int (0 : Int32)])), (q6, .inl (c6, 4, .inl (fun _ => 0)))]) (va_A [(h0, .inr (2, [.null, .int 0, .int 0, .int 0, .int 0]))] sz)) 1 4 (va_A [(h0, .inr (2, [.null, .int 0, .int 0, .int 0, .int 0]))] sz) := by
  refine Met.ofW (cc := cX2_init) (maxL := 1) (ret := none) (by decide) rfl ?_
  intro p e s m args below meth c s₁ B hml hv
  obtain ⟨rfl, hsz, hP, hK, hD0⟩ := hv
  have hx := B.exec
  have hb := B.bytes
  have hr := B.returns
  have hts := atoms_spec (ws := wsX2_init) B.pre
  have hown : s.vm.findClass RX2 = some m.cls := findClass_of_methodNamed B.named
  have hlocks := B.notSynchronized
  have hin : meth.name = "<init>" := (name_of_methodNamed B.named B.method).1
  subst hsz
  have hD := hD0.self (sz := s.heap.size)
  generalize hAe : va_A [(h0, .inr (2, [.null, .int 0, .int 0, .int 0, .int 0]))] s.heap.size = A at hD ⊢
  have hA : ∀ q : Nat, s.heap.size ≤ q → A q := fun q h => by rw [← hAe]; exact Or.inr h
  have hS : va_S A s.heap s.heap [] := va_S.rf
  have hP : va_P D vwCl [(h0, .inr (2, [.null, .int 0, .int 0, .int 0, .int 0]))] s.heap := hP
  have hl := lv_entry ([.ref h0]) (n := 1) (Nat.le_of_ble_eq_true rfl)
  rw [lg_entry_eq]
  generalize (lg_sl ([.ref h0]) ++ List.replicate (1 - (lg_sl ([.ref h0])).length) Slot.unset).toArray = ls at hl ⊢
  have hl : lv_has ls 1 [(0, .ref h0)] := hl
  refine lv_aload_n hx hb dX2_init_0 rfl (lv_at hl 0 rfl) ?_
  refine W.objInit hx hb hown (hts _ kX2_init_0) (hts _ kX2_init_1) (hts _ kX2_init_2) rfl (by rw [hml]; exact hl.1) rfl dX2_init_1 (Nat.le_of_ble_eq_true rfl) (Nat.le_of_ble_eq_true rfl) ?_
  refine W.eq (g2 := F0 m 4 ls []) rfl ?_
  refine lv_aload_n hx hb dX2_init_4 rfl (lv_at hl 0 rfl) ?_
  refine lv_iconst (v := (4 : Int32)) hx hb dX2_init_5 (by decide) ?_
  refine va_newa (atype := .int) (a0 := (4, .inl (fun _ => 0))) hx hb (hts _ kX2_init_3) rfl hK hP hD hS hA (fun _ => rfl) (by decide) (by decide) (by decide) (Nat.le_of_ble_eq_true rfl) (Nat.le_of_ble_eq_true rfl) dX2_init_6 (fun q6 c6 H hK hP hD hS => ?_)
  have hK : va_K D vwCl [(c6, .int)] s := hK
  have hP : va_P D vwCl [(h0, .inr (2, [.null, .int 0, .int 0, .int 0, .int 0])), (q6, .inl (c6, 4, .inl (fun _ => 0)))] H := hP
  have hD : va_D A [(h0, .inr (2, [.null, .int 0, .int 0, .int 0, .int 0])), (q6, .inl (c6, 4, .inl (fun _ => 0)))] := hD
  refine W.widen (k := 1) (n := 4) (by omega) (by omega) ?_
  refine va_putF (D := D) (ci := 2) (v := .ref q6) (ty := .array .int) (C := RX2) (T := TX2) (N := 5) hx hb hts iX2_init_X2 tyX2 tyX2_ok nmX2 hown hK hP hD hS 0 rfl rfl 0 (by decide) (hts _ kX2_init_5) (fun _ h9 => h9) rfl hin rfl (by decide +kernel) rfl rfl (Nat.le_of_ble_eq_true rfl) dX2_init_8 (fun H locs hP hD hS => ?_)
  have hP : va_P D vwCl [(h0, .inr (2, [.ref q6, .int 0, .int 0, .int 0, .int 0])), (q6, .inl (c6, 4, .inl (fun _ => 0)))] H := hP
  have hD : va_D A [(h0, .inr (2, [.ref q6, .int 0, .int 0, .int 0, .int 0])), (q6, .inl (c6, 4, .inl (fun _ => 0)))] := hD
  refine lv_aload_n hx hb dX2_init_11 rfl (lv_at hl 0 rfl) ?_
  refine lv_iconst (v := (0 : Int32)) hx hb dX2_init_12 (by decide) ?_
  refine va_put (D := D) (ci := 2) (v := .int (0 : Int32)) (ty := .int) (C := RX2) (T := TX2) (N := 5) hx hb hts iX2_init_X2 tyX2 tyX2_ok nmX2 hown hK hP hD hS 0 rfl rfl 1 (by decide) (hts _ kX2_init_6) (fun _ h9 => h9) rfl (by decide +kernel) rfl rfl (Nat.le_of_ble_eq_true rfl) dX2_init_13 (fun H locs hP hD hS => ?_)
  have hP : va_P D vwCl [(h0, .inr (2, [.ref q6, .int (0 : Int32), .int 0, .int 0, .int 0])), (q6, .inl (c6, 4, .inl (fun _ => 0)))] H := hP
  have hD : va_D A [(h0, .inr (2, [.ref q6, .int (0 : Int32), .int 0, .int 0, .int 0])), (q6, .inl (c6, 4, .inl (fun _ => 0)))] := hD
  refine lv_aload_n hx hb dX2_init_16 rfl (lv_at hl 0 rfl) ?_
  refine lv_iconst (v := (0 : Int32)) hx hb dX2_init_17 (by decide) ?_
  refine va_put (D := D) (ci := 2) (v := .int (0 : Int32)) (ty := .int) (C := RX2) (T := TX2) (N := 5) hx hb hts iX2_init_X2 tyX2 tyX2_ok nmX2 hown hK hP hD hS 0 rfl rfl 2 (by decide) (hts _ kX2_init_7) (fun _ h9 => h9) rfl (by decide +kernel) rfl rfl (Nat.le_of_ble_eq_true rfl) dX2_init_18 (fun H locs hP hD hS => ?_)
  have hP : va_P D vwCl [(h0, .inr (2, [.ref q6, .int (0 : Int32), .int (0 : Int32), .int 0, .int 0])), (q6, .inl (c6, 4, .inl (fun _ => 0)))] H := hP
  have hD : va_D A [(h0, .inr (2, [.ref q6, .int (0 : Int32), .int (0 : Int32), .int 0, .int 0])), (q6, .inl (c6, 4, .inl (fun _ => 0)))] := hD
  refine lv_aload_n hx hb dX2_init_21 rfl (lv_at hl 0 rfl) ?_
  refine lv_iconst (v := (0 : Int32)) hx hb dX2_init_22 (by decide) ?_
  refine va_put (D := D) (ci := 2) (v := .int (0 : Int32)) (ty := .int) (C := RX2) (T := TX2) (N := 5) hx hb hts iX2_init_X2 tyX2 tyX2_ok nmX2 hown hK hP hD hS 0 rfl rfl 3 (by decide) (hts _ kX2_init_8) (fun _ h9 => h9) rfl (by decide +kernel) rfl rfl (Nat.le_of_ble_eq_true rfl) dX2_init_23 (fun H locs hP hD hS => ?_)
  have hP : va_P D vwCl [(h0, .inr (2, [.ref q6, .int (0 : Int32), .int (0 : Int32), .int (0 : Int32), .int 0])), (q6, .inl (c6, 4, .inl (fun _ => 0)))] H := hP
  have hD : va_D A [(h0, .inr (2, [.ref q6, .int (0 : Int32), .int (0 : Int32), .int (0 : Int32), .int 0])), (q6, .inl (c6, 4, .inl (fun _ => 0)))] := hD
  refine lv_aload_n hx hb dX2_init_26 rfl (lv_at hl 0 rfl) ?_
  refine lv_iconst (v := (0 : Int32)) hx hb dX2_init_27 (by decide) ?_
  refine va_put (D := D) (ci := 2) (v := .int (0 : Int32)) (ty := .int) (C := RX2) (T := TX2) (N := 5) hx hb hts iX2_init_X2 tyX2 tyX2_ok nmX2 hown hK hP hD hS 0 rfl rfl 4 (by decide) (hts _ kX2_init_9) (fun _ h9 => h9) rfl (by decide +kernel) rfl rfl (Nat.le_of_ble_eq_true rfl) dX2_init_28 (fun H locs hP hD hS => ?_)
  have hP : va_P D vwCl [(h0, .inr (2, [.ref q6, .int (0 : Int32), .int (0 : Int32), .int (0 : Int32), .int (0 : Int32)])), (q6, .inl (c6, 4, .inl (fun _ => 0)))] H := hP
  have hD : va_D A [(h0, .inr (2, [.ref q6, .int (0 : Int32), .int (0 : Int32), .int (0 : Int32), .int (0 : Int32)])), (q6, .inl (c6, 4, .inl (fun _ => 0)))] := hD
  refine W.widen (k := 1) (n := 4) (by omega) (by omega) ?_
  exact W.vret hx hb hr (fun t ht hW => ⟨⟨(), rfl, trivial, q6, c6, by rw [ht]; exact hP, va_K.moved hW.alike hK, hD⟩, hS.F ht⟩) hS.2.2 dX2_init_31

abbrev rm_X4_init : Room := { frames := 1, cells := 2, slots := 4385, locals := 12 }
theorem kX4_init_0 : (Cond.methodLink RX4 3 objectInit) ∈ wsX4_init := by decide +kernel
theorem kX4_init_1 : (Cond.instanceMethod objectInit) ∈ wsX4_init := by decide +kernel
theorem kX4_init_2 : (Cond.code objectInit ⟨#[0xb1]⟩ 1 none) ∈ wsX4_init := by decide +kernel
theorem kX4_init_3 : (Cond.arrayClass .int) ∈ wsX4_init := by decide +kernel
theorem iX4_init_X4 : ∀ w ∈ wsX40, w ∈ wsX4_init := by decide +kernel
theorem kX4_init_5 : (Cond.fieldLink RX4 9 "TwoLaws$Partings" "greatest" "[I") ∈ wsX4_init := by decide +kernel
theorem kX4_init_6 : (Cond.fieldLink RX4 15 "TwoLaws$Partings" "greatestCount" "I") ∈ wsX4_init := by decide +kernel
theorem kX4_init_7 : (Cond.arrayClass .byte) ∈ wsX4_init := by decide +kernel
theorem kX4_init_8 : (Cond.fieldLink RX4 19 "TwoLaws$Partings" "laws" "[B") ∈ wsX4_init := by decide +kernel
theorem kX4_init_9 : (Cond.fieldLink RX4 23 "TwoLaws$Partings" "rowsCounted" "I") ∈ wsX4_init := by decide +kernel
set_option maxHeartbeats 4000000 in
set_option maxRecDepth 100000 in
theorem c_X4_init (l : Launch) (D : va_G) (h0  : Nat) (sz : Nat) : Met l yX4_init wsX4_init rm_X4_init (va_Pc [.ref h0] (fun U => U.heap.size = sz ∧ va_P D vwCl [(h0, .inr (3, [.null, .int 0, .null, .int 0]))] U.heap ∧ va_K D vwCl [] U ∧ va_D (fun _ => True) [(h0, .inr (3, [.null, .int 0, .null, .int 0]))])) (va_Qv (S := Unit) (fun _ => True) (fun _ t => ∃ (q8 q22 : Nat) (c8 c22 : ClassId), va_P D vwCl [(h0, .inr (3, [.ref q8, .int (0 : Int32), .ref q22, .int (0 : Int32)])), (q8, .inl (c8, 289, .inl (fun _ => 0))), (q22, .inl (c22, 4096, .inl (fun _ => 0)))] t.heap ∧ va_K D vwCl [(c8, .int), (c22, .byte)] t ∧ va_D (va_A [(h0, .inr (3, [.null, .int 0, .null, .int 0]))] sz) [(h0, .inr (3, [.ref q8, .int (0 : Int32), .ref q22, .int (0 : Int32)])), (q8, .inl (c8, 289, .inl (fun _ => 0))), (q22, .inl (c22, 4096, .inl (fun _ => 0)))]) (va_A [(h0, .inr (3, [.null, .int 0, .null, .int 0]))] sz)) 2 4385 (va_A [(h0, .inr (3, [.null, .int 0, .null, .int 0]))] sz) := by
  refine Met.ofW (cc := cX4_init) (maxL := 1) (ret := none) (by decide) rfl ?_
  intro p e s m args below meth c s₁ B hml hv
  obtain ⟨rfl, hsz, hP, hK, hD0⟩ := hv
  have hx := B.exec
  have hb := B.bytes
  have hr := B.returns
  have hts := atoms_spec (ws := wsX4_init) B.pre
  have hown : s.vm.findClass RX4 = some m.cls := findClass_of_methodNamed B.named
  have hlocks := B.notSynchronized
  have hin : meth.name = "<init>" := (name_of_methodNamed B.named B.method).1
  subst hsz
  have hD := hD0.self (sz := s.heap.size)
  generalize hAe : va_A [(h0, .inr (3, [.null, .int 0, .null, .int 0]))] s.heap.size = A at hD ⊢
  have hA : ∀ q : Nat, s.heap.size ≤ q → A q := fun q h => by rw [← hAe]; exact Or.inr h
  have hS : va_S A s.heap s.heap [] := va_S.rf
  have hP : va_P D vwCl [(h0, .inr (3, [.null, .int 0, .null, .int 0]))] s.heap := hP
  have hl := lv_entry ([.ref h0]) (n := 1) (Nat.le_of_ble_eq_true rfl)
  rw [lg_entry_eq]
  generalize (lg_sl ([.ref h0]) ++ List.replicate (1 - (lg_sl ([.ref h0])).length) Slot.unset).toArray = ls at hl ⊢
  have hl : lv_has ls 1 [(0, .ref h0)] := hl
  refine lv_aload_n hx hb dX4_init_0 rfl (lv_at hl 0 rfl) ?_
  refine W.objInit hx hb hown (hts _ kX4_init_0) (hts _ kX4_init_1) (hts _ kX4_init_2) rfl (by rw [hml]; exact hl.1) rfl dX4_init_1 (Nat.le_of_ble_eq_true rfl) (Nat.le_of_ble_eq_true rfl) ?_
  refine W.eq (g2 := F0 m 4 ls []) rfl ?_
  refine lv_aload_n hx hb dX4_init_4 rfl (lv_at hl 0 rfl) ?_
  refine lv_sipush (v := (289 : Int32)) hx hb dX4_init_5 (by decide) ?_
  refine va_newa (atype := .int) (a0 := (289, .inl (fun _ => 0))) hx hb (hts _ kX4_init_3) rfl hK hP hD hS hA (fun _ => rfl) (by decide) (by decide) (by decide) (Nat.le_of_ble_eq_true rfl) (Nat.le_of_ble_eq_true rfl) dX4_init_8 (fun q8 c8 H hK hP hD hS => ?_)
  have hK : va_K D vwCl [(c8, .int)] s := hK
  have hP : va_P D vwCl [(h0, .inr (3, [.null, .int 0, .null, .int 0])), (q8, .inl (c8, 289, .inl (fun _ => 0)))] H := hP
  have hD : va_D A [(h0, .inr (3, [.null, .int 0, .null, .int 0])), (q8, .inl (c8, 289, .inl (fun _ => 0)))] := hD
  refine W.widen (k := 1) (n := 289) (by omega) (by omega) ?_
  refine va_putF (D := D) (ci := 3) (v := .ref q8) (ty := .array .int) (C := RX4) (T := TX4) (N := 4) hx hb hts iX4_init_X4 tyX4 tyX4_ok nmX4 hown hK hP hD hS 0 rfl rfl 0 (by decide) (hts _ kX4_init_5) (fun _ h9 => h9) rfl hin rfl (by decide +kernel) rfl rfl (Nat.le_of_ble_eq_true rfl) dX4_init_10 (fun H locs hP hD hS => ?_)
  have hP : va_P D vwCl [(h0, .inr (3, [.ref q8, .int 0, .null, .int 0])), (q8, .inl (c8, 289, .inl (fun _ => 0)))] H := hP
  have hD : va_D A [(h0, .inr (3, [.ref q8, .int 0, .null, .int 0])), (q8, .inl (c8, 289, .inl (fun _ => 0)))] := hD
  refine lv_aload_n hx hb dX4_init_13 rfl (lv_at hl 0 rfl) ?_
  refine lv_iconst (v := (0 : Int32)) hx hb dX4_init_14 (by decide) ?_
  refine va_put (D := D) (ci := 3) (v := .int (0 : Int32)) (ty := .int) (C := RX4) (T := TX4) (N := 4) hx hb hts iX4_init_X4 tyX4 tyX4_ok nmX4 hown hK hP hD hS 0 rfl rfl 1 (by decide) (hts _ kX4_init_6) (fun _ h9 => h9) rfl (by decide +kernel) rfl rfl (Nat.le_of_ble_eq_true rfl) dX4_init_15 (fun H locs hP hD hS => ?_)
  have hP : va_P D vwCl [(h0, .inr (3, [.ref q8, .int (0 : Int32), .null, .int 0])), (q8, .inl (c8, 289, .inl (fun _ => 0)))] H := hP
  have hD : va_D A [(h0, .inr (3, [.ref q8, .int (0 : Int32), .null, .int 0])), (q8, .inl (c8, 289, .inl (fun _ => 0)))] := hD
  refine lv_aload_n hx hb dX4_init_18 rfl (lv_at hl 0 rfl) ?_
  refine lv_sipush (v := (4096 : Int32)) hx hb dX4_init_19 (by decide) ?_
  refine va_newa (atype := .byte) (a0 := (4096, .inl (fun _ => 0))) hx hb (hts _ kX4_init_7) rfl hK hP hD hS hA (fun _ => rfl) (by decide) (by decide) (by decide) (Nat.le_of_ble_eq_true rfl) (Nat.le_of_ble_eq_true rfl) dX4_init_22 (fun q22 c22 H hK hP hD hS => ?_)
  have hK : va_K D vwCl [(c8, .int), (c22, .byte)] s := hK
  have hP : va_P D vwCl [(h0, .inr (3, [.ref q8, .int (0 : Int32), .null, .int 0])), (q8, .inl (c8, 289, .inl (fun _ => 0))), (q22, .inl (c22, 4096, .inl (fun _ => 0)))] H := hP
  have hD : va_D A [(h0, .inr (3, [.ref q8, .int (0 : Int32), .null, .int 0])), (q8, .inl (c8, 289, .inl (fun _ => 0))), (q22, .inl (c22, 4096, .inl (fun _ => 0)))] := hD
  refine W.widen (k := 2) (n := 4385) (by omega) (by omega) ?_
  refine va_putF (D := D) (ci := 3) (v := .ref q22) (ty := .array .byte) (C := RX4) (T := TX4) (N := 4) hx hb hts iX4_init_X4 tyX4 tyX4_ok nmX4 hown hK hP hD hS 0 rfl rfl 2 (by decide) (hts _ kX4_init_8) (fun _ h9 => h9) rfl hin rfl (by decide +kernel) rfl rfl (Nat.le_of_ble_eq_true rfl) dX4_init_24 (fun H locs hP hD hS => ?_)
  have hP : va_P D vwCl [(h0, .inr (3, [.ref q8, .int (0 : Int32), .ref q22, .int 0])), (q8, .inl (c8, 289, .inl (fun _ => 0))), (q22, .inl (c22, 4096, .inl (fun _ => 0)))] H := hP
  have hD : va_D A [(h0, .inr (3, [.ref q8, .int (0 : Int32), .ref q22, .int 0])), (q8, .inl (c8, 289, .inl (fun _ => 0))), (q22, .inl (c22, 4096, .inl (fun _ => 0)))] := hD
  refine lv_aload_n hx hb dX4_init_27 rfl (lv_at hl 0 rfl) ?_
  refine lv_iconst (v := (0 : Int32)) hx hb dX4_init_28 (by decide) ?_
  refine va_put (D := D) (ci := 3) (v := .int (0 : Int32)) (ty := .int) (C := RX4) (T := TX4) (N := 4) hx hb hts iX4_init_X4 tyX4 tyX4_ok nmX4 hown hK hP hD hS 0 rfl rfl 3 (by decide) (hts _ kX4_init_9) (fun _ h9 => h9) rfl (by decide +kernel) rfl rfl (Nat.le_of_ble_eq_true rfl) dX4_init_29 (fun H locs hP hD hS => ?_)
  have hP : va_P D vwCl [(h0, .inr (3, [.ref q8, .int (0 : Int32), .ref q22, .int (0 : Int32)])), (q8, .inl (c8, 289, .inl (fun _ => 0))), (q22, .inl (c22, 4096, .inl (fun _ => 0)))] H := hP
  have hD : va_D A [(h0, .inr (3, [.ref q8, .int (0 : Int32), .ref q22, .int (0 : Int32)])), (q8, .inl (c8, 289, .inl (fun _ => 0))), (q22, .inl (c22, 4096, .inl (fun _ => 0)))] := hD
  refine W.widen (k := 2) (n := 4385) (by omega) (by omega) ?_
  exact W.vret hx hb hr (fun t ht hW => ⟨⟨(), rfl, trivial, q8, q22, c8, c22, by rw [ht]; exact hP, va_K.moved hW.alike hK, hD⟩, hS.F ht⟩) hS.2.2 dX4_init_32

abbrev rm_X5_init : Room := { frames := 1, cells := 1, slots := 36, locals := 12 }
theorem kX5_init_0 : (Cond.methodLink RX5 3 objectInit) ∈ wsX5_init := by decide +kernel
theorem kX5_init_1 : (Cond.instanceMethod objectInit) ∈ wsX5_init := by decide +kernel
theorem kX5_init_2 : (Cond.code objectInit ⟨#[0xb1]⟩ 1 none) ∈ wsX5_init := by decide +kernel
theorem kX5_init_3 : (Cond.arrayClass .int) ∈ wsX5_init := by decide +kernel
theorem iX5_init_X5 : ∀ w ∈ wsX50, w ∈ wsX5_init := by decide +kernel
theorem kX5_init_5 : (Cond.fieldLink RX5 11 "TwoLaws$Sheet" "items" "[I") ∈ wsX5_init := by decide +kernel
theorem kX5_init_6 : (Cond.fieldLink RX5 15 "TwoLaws$Sheet" "lane" "I") ∈ wsX5_init := by decide +kernel
theorem kX5_init_7 : (Cond.fieldLink RX5 19 "TwoLaws$Sheet" "size" "I") ∈ wsX5_init := by decide +kernel
set_option maxHeartbeats 4000000 in
set_option maxRecDepth 100000 in
theorem c_X5_init (l : Launch) (D : va_G) (h0  : Nat) (sz : Nat) : Met l yX5_init wsX5_init rm_X5_init (va_Pc [.ref h0] (fun U => U.heap.size = sz ∧ va_P D vwCl [(h0, .inr (4, [.null, .int 0, .int 0]))] U.heap ∧ va_K D vwCl [] U ∧ va_D (fun _ => True) [(h0, .inr (4, [.null, .int 0, .int 0]))])) (va_Qv (S := Unit) (fun _ => True) (fun _ t => ∃ (q7 : Nat) (c7 : ClassId), va_P D vwCl [(h0, .inr (4, [.ref q7, .int (-1 : Int32), .int (0 : Int32)])), (q7, .inl (c7, 36, .inl (fun _ => 0)))] t.heap ∧ va_K D vwCl [(c7, .int)] t ∧ va_D (va_A [(h0, .inr (4, [.null, .int 0, .int 0]))] sz) [(h0, .inr (4, [.ref q7, .int (-1 : Int32), .int (0 : Int32)])), (q7, .inl (c7, 36, .inl (fun _ => 0)))]) (va_A [(h0, .inr (4, [.null, .int 0, .int 0]))] sz)) 1 36 (va_A [(h0, .inr (4, [.null, .int 0, .int 0]))] sz) := by
  refine Met.ofW (cc := cX5_init) (maxL := 1) (ret := none) (by decide) rfl ?_
  intro p e s m args below meth c s₁ B hml hv
  obtain ⟨rfl, hsz, hP, hK, hD0⟩ := hv
  have hx := B.exec
  have hb := B.bytes
  have hr := B.returns
  have hts := atoms_spec (ws := wsX5_init) B.pre
  have hown : s.vm.findClass RX5 = some m.cls := findClass_of_methodNamed B.named
  have hlocks := B.notSynchronized
  have hin : meth.name = "<init>" := (name_of_methodNamed B.named B.method).1
  subst hsz
  have hD := hD0.self (sz := s.heap.size)
  generalize hAe : va_A [(h0, .inr (4, [.null, .int 0, .int 0]))] s.heap.size = A at hD ⊢
  have hA : ∀ q : Nat, s.heap.size ≤ q → A q := fun q h => by rw [← hAe]; exact Or.inr h
  have hS : va_S A s.heap s.heap [] := va_S.rf
  have hP : va_P D vwCl [(h0, .inr (4, [.null, .int 0, .int 0]))] s.heap := hP
  have hl := lv_entry ([.ref h0]) (n := 1) (Nat.le_of_ble_eq_true rfl)
  rw [lg_entry_eq]
  generalize (lg_sl ([.ref h0]) ++ List.replicate (1 - (lg_sl ([.ref h0])).length) Slot.unset).toArray = ls at hl ⊢
  have hl : lv_has ls 1 [(0, .ref h0)] := hl
  refine lv_aload_n hx hb dX5_init_0 rfl (lv_at hl 0 rfl) ?_
  refine W.objInit hx hb hown (hts _ kX5_init_0) (hts _ kX5_init_1) (hts _ kX5_init_2) rfl (by rw [hml]; exact hl.1) rfl dX5_init_1 (Nat.le_of_ble_eq_true rfl) (Nat.le_of_ble_eq_true rfl) ?_
  refine W.eq (g2 := F0 m 4 ls []) rfl ?_
  refine lv_aload_n hx hb dX5_init_4 rfl (lv_at hl 0 rfl) ?_
  refine lv_bipush (v := (36 : Int32)) hx hb dX5_init_5 (by decide) ?_
  refine va_newa (atype := .int) (a0 := (36, .inl (fun _ => 0))) hx hb (hts _ kX5_init_3) rfl hK hP hD hS hA (fun _ => rfl) (by decide) (by decide) (by decide) (Nat.le_of_ble_eq_true rfl) (Nat.le_of_ble_eq_true rfl) dX5_init_7 (fun q7 c7 H hK hP hD hS => ?_)
  have hK : va_K D vwCl [(c7, .int)] s := hK
  have hP : va_P D vwCl [(h0, .inr (4, [.null, .int 0, .int 0])), (q7, .inl (c7, 36, .inl (fun _ => 0)))] H := hP
  have hD : va_D A [(h0, .inr (4, [.null, .int 0, .int 0])), (q7, .inl (c7, 36, .inl (fun _ => 0)))] := hD
  refine W.widen (k := 1) (n := 36) (by omega) (by omega) ?_
  refine va_putF (D := D) (ci := 4) (v := .ref q7) (ty := .array .int) (C := RX5) (T := TX5) (N := 3) hx hb hts iX5_init_X5 tyX5 tyX5_ok nmX5 hown hK hP hD hS 0 rfl rfl 0 (by decide) (hts _ kX5_init_5) (fun _ h9 => h9) rfl hin rfl (by decide +kernel) rfl rfl (Nat.le_of_ble_eq_true rfl) dX5_init_9 (fun H locs hP hD hS => ?_)
  have hP : va_P D vwCl [(h0, .inr (4, [.ref q7, .int 0, .int 0])), (q7, .inl (c7, 36, .inl (fun _ => 0)))] H := hP
  have hD : va_D A [(h0, .inr (4, [.ref q7, .int 0, .int 0])), (q7, .inl (c7, 36, .inl (fun _ => 0)))] := hD
  refine lv_aload_n hx hb dX5_init_12 rfl (lv_at hl 0 rfl) ?_
  refine lv_iconst (v := (-1 : Int32)) hx hb dX5_init_13 (by decide) ?_
  refine va_put (D := D) (ci := 4) (v := .int (-1 : Int32)) (ty := .int) (C := RX5) (T := TX5) (N := 3) hx hb hts iX5_init_X5 tyX5 tyX5_ok nmX5 hown hK hP hD hS 0 rfl rfl 1 (by decide) (hts _ kX5_init_6) (fun _ h9 => h9) rfl (by decide +kernel) rfl rfl (Nat.le_of_ble_eq_true rfl) dX5_init_14 (fun H locs hP hD hS => ?_)
  have hP : va_P D vwCl [(h0, .inr (4, [.ref q7, .int (-1 : Int32), .int 0])), (q7, .inl (c7, 36, .inl (fun _ => 0)))] H := hP
  have hD : va_D A [(h0, .inr (4, [.ref q7, .int (-1 : Int32), .int 0])), (q7, .inl (c7, 36, .inl (fun _ => 0)))] := hD
  refine lv_aload_n hx hb dX5_init_17 rfl (lv_at hl 0 rfl) ?_
  refine lv_iconst (v := (0 : Int32)) hx hb dX5_init_18 (by decide) ?_
  refine va_put (D := D) (ci := 4) (v := .int (0 : Int32)) (ty := .int) (C := RX5) (T := TX5) (N := 3) hx hb hts iX5_init_X5 tyX5 tyX5_ok nmX5 hown hK hP hD hS 0 rfl rfl 2 (by decide) (hts _ kX5_init_7) (fun _ h9 => h9) rfl (by decide +kernel) rfl rfl (Nat.le_of_ble_eq_true rfl) dX5_init_19 (fun H locs hP hD hS => ?_)
  have hP : va_P D vwCl [(h0, .inr (4, [.ref q7, .int (-1 : Int32), .int (0 : Int32)])), (q7, .inl (c7, 36, .inl (fun _ => 0)))] H := hP
  have hD : va_D A [(h0, .inr (4, [.ref q7, .int (-1 : Int32), .int (0 : Int32)])), (q7, .inl (c7, 36, .inl (fun _ => 0)))] := hD
  refine W.widen (k := 1) (n := 36) (by omega) (by omega) ?_
  exact W.vret hx hb hr (fun t ht hW => ⟨⟨(), rfl, trivial, q7, c7, by rw [ht]; exact hP, va_K.moved hW.alike hK, hD⟩, hS.F ht⟩) hS.2.2 dX5_init_22

abbrev rm_X6_init : Room := { frames := 1, cells := 2, slots := 156, locals := 12 }
theorem kX6_init_0 : (Cond.methodLink RX6 3 objectInit) ∈ wsX6_init := by decide +kernel
theorem kX6_init_1 : (Cond.instanceMethod objectInit) ∈ wsX6_init := by decide +kernel
theorem kX6_init_2 : (Cond.code objectInit ⟨#[0xb1]⟩ 1 none) ∈ wsX6_init := by decide +kernel
theorem kX6_init_3 : (Cond.arrayClass .int) ∈ wsX6_init := by decide +kernel
theorem iX6_init_X6 : ∀ w ∈ wsX60, w ∈ wsX6_init := by decide +kernel
theorem kX6_init_5 : (Cond.fieldLink RX6 11 "TwoLaws$Tape" "bytes" "[I") ∈ wsX6_init := by decide +kernel
theorem kX6_init_6 : (Cond.fieldLink RX6 15 "TwoLaws$Tape" "length" "I") ∈ wsX6_init := by decide +kernel
theorem kX6_init_7 : (Cond.fieldLink RX6 19 "TwoLaws$Tape" "numbers" "[I") ∈ wsX6_init := by decide +kernel
theorem kX6_init_8 : (Cond.fieldLink RX6 22 "TwoLaws$Tape" "gaps" "I") ∈ wsX6_init := by decide +kernel
theorem kX6_init_9 : (Cond.fieldLink RX6 25 "TwoLaws$Tape" "rowsRead" "I") ∈ wsX6_init := by decide +kernel
theorem kX6_init_10 : (Cond.fieldLink RX6 28 "TwoLaws$Tape" "at" "I") ∈ wsX6_init := by decide +kernel
theorem kX6_init_11 : (Cond.fieldLink RX6 31 "TwoLaws$Tape" "fault" "I") ∈ wsX6_init := by decide +kernel
set_option maxHeartbeats 4000000 in
set_option maxRecDepth 100000 in
theorem c_X6_init (l : Launch) (D : va_G) (h0  : Nat) (sz : Nat) : Met l yX6_init wsX6_init rm_X6_init (va_Pc [.ref h0] (fun U => U.heap.size = sz ∧ va_P D vwCl [(h0, .inr (5, [.null, .int 0, .null, .int 0, .int 0, .int 0, .int 0]))] U.heap ∧ va_K D vwCl [] U ∧ va_D (fun _ => True) [(h0, .inr (5, [.null, .int 0, .null, .int 0, .int 0, .int 0, .int 0]))])) (va_Qv (S := Unit) (fun _ => True) (fun _ t => ∃ (q7 q20 : Nat) (c7 : ClassId), va_P D vwCl [(h0, .inr (5, [.ref q7, .int (0 : Int32), .ref q20, .int (0 : Int32), .int (0 : Int32), .int (0 : Int32), .int (0 : Int32)])), (q7, .inl (c7, 120, .inl (fun _ => 0))), (q20, .inl (c7, 36, .inl (fun _ => 0)))] t.heap ∧ va_K D vwCl [(c7, .int)] t ∧ va_D (va_A [(h0, .inr (5, [.null, .int 0, .null, .int 0, .int 0, .int 0, .int 0]))] sz) [(h0, .inr (5, [.ref q7, .int (0 : Int32), .ref q20, .int (0 : Int32), .int (0 : Int32), .int (0 : Int32), .int (0 : Int32)])), (q7, .inl (c7, 120, .inl (fun _ => 0))), (q20, .inl (c7, 36, .inl (fun _ => 0)))]) (va_A [(h0, .inr (5, [.null, .int 0, .null, .int 0, .int 0, .int 0, .int 0]))] sz)) 2 156 (va_A [(h0, .inr (5, [.null, .int 0, .null, .int 0, .int 0, .int 0, .int 0]))] sz) := by
  refine Met.ofW (cc := cX6_init) (maxL := 1) (ret := none) (by decide) rfl ?_
  intro p e s m args below meth c s₁ B hml hv
  obtain ⟨rfl, hsz, hP, hK, hD0⟩ := hv
  have hx := B.exec
  have hb := B.bytes
  have hr := B.returns
  have hts := atoms_spec (ws := wsX6_init) B.pre
  have hown : s.vm.findClass RX6 = some m.cls := findClass_of_methodNamed B.named
  have hlocks := B.notSynchronized
  have hin : meth.name = "<init>" := (name_of_methodNamed B.named B.method).1
  subst hsz
  have hD := hD0.self (sz := s.heap.size)
  generalize hAe : va_A [(h0, .inr (5, [.null, .int 0, .null, .int 0, .int 0, .int 0, .int 0]))] s.heap.size = A at hD ⊢
  have hA : ∀ q : Nat, s.heap.size ≤ q → A q := fun q h => by rw [← hAe]; exact Or.inr h
  have hS : va_S A s.heap s.heap [] := va_S.rf
  have hP : va_P D vwCl [(h0, .inr (5, [.null, .int 0, .null, .int 0, .int 0, .int 0, .int 0]))] s.heap := hP
  have hl := lv_entry ([.ref h0]) (n := 1) (Nat.le_of_ble_eq_true rfl)
  rw [lg_entry_eq]
  generalize (lg_sl ([.ref h0]) ++ List.replicate (1 - (lg_sl ([.ref h0])).length) Slot.unset).toArray = ls at hl ⊢
  have hl : lv_has ls 1 [(0, .ref h0)] := hl
  refine lv_aload_n hx hb dX6_init_0 rfl (lv_at hl 0 rfl) ?_
  refine W.objInit hx hb hown (hts _ kX6_init_0) (hts _ kX6_init_1) (hts _ kX6_init_2) rfl (by rw [hml]; exact hl.1) rfl dX6_init_1 (Nat.le_of_ble_eq_true rfl) (Nat.le_of_ble_eq_true rfl) ?_
  refine W.eq (g2 := F0 m 4 ls []) rfl ?_
  refine lv_aload_n hx hb dX6_init_4 rfl (lv_at hl 0 rfl) ?_
  refine lv_bipush (v := (120 : Int32)) hx hb dX6_init_5 (by decide) ?_
  refine va_newa (atype := .int) (a0 := (120, .inl (fun _ => 0))) hx hb (hts _ kX6_init_3) rfl hK hP hD hS hA (fun _ => rfl) (by decide) (by decide) (by decide) (Nat.le_of_ble_eq_true rfl) (Nat.le_of_ble_eq_true rfl) dX6_init_7 (fun q7 c7 H hK hP hD hS => ?_)
  have hK : va_K D vwCl [(c7, .int)] s := hK
  have hP : va_P D vwCl [(h0, .inr (5, [.null, .int 0, .null, .int 0, .int 0, .int 0, .int 0])), (q7, .inl (c7, 120, .inl (fun _ => 0)))] H := hP
  have hD : va_D A [(h0, .inr (5, [.null, .int 0, .null, .int 0, .int 0, .int 0, .int 0])), (q7, .inl (c7, 120, .inl (fun _ => 0)))] := hD
  refine W.widen (k := 1) (n := 120) (by omega) (by omega) ?_
  refine va_putF (D := D) (ci := 5) (v := .ref q7) (ty := .array .int) (C := RX6) (T := TX6) (N := 7) hx hb hts iX6_init_X6 tyX6 tyX6_ok nmX6 hown hK hP hD hS 0 rfl rfl 0 (by decide) (hts _ kX6_init_5) (fun _ h9 => h9) rfl hin rfl (by decide +kernel) rfl rfl (Nat.le_of_ble_eq_true rfl) dX6_init_9 (fun H locs hP hD hS => ?_)
  have hP : va_P D vwCl [(h0, .inr (5, [.ref q7, .int 0, .null, .int 0, .int 0, .int 0, .int 0])), (q7, .inl (c7, 120, .inl (fun _ => 0)))] H := hP
  have hD : va_D A [(h0, .inr (5, [.ref q7, .int 0, .null, .int 0, .int 0, .int 0, .int 0])), (q7, .inl (c7, 120, .inl (fun _ => 0)))] := hD
  refine lv_aload_n hx hb dX6_init_12 rfl (lv_at hl 0 rfl) ?_
  refine lv_iconst (v := (0 : Int32)) hx hb dX6_init_13 (by decide) ?_
  refine va_put (D := D) (ci := 5) (v := .int (0 : Int32)) (ty := .int) (C := RX6) (T := TX6) (N := 7) hx hb hts iX6_init_X6 tyX6 tyX6_ok nmX6 hown hK hP hD hS 0 rfl rfl 1 (by decide) (hts _ kX6_init_6) (fun _ h9 => h9) rfl (by decide +kernel) rfl rfl (Nat.le_of_ble_eq_true rfl) dX6_init_14 (fun H locs hP hD hS => ?_)
  have hP : va_P D vwCl [(h0, .inr (5, [.ref q7, .int (0 : Int32), .null, .int 0, .int 0, .int 0, .int 0])), (q7, .inl (c7, 120, .inl (fun _ => 0)))] H := hP
  have hD : va_D A [(h0, .inr (5, [.ref q7, .int (0 : Int32), .null, .int 0, .int 0, .int 0, .int 0])), (q7, .inl (c7, 120, .inl (fun _ => 0)))] := hD
  refine lv_aload_n hx hb dX6_init_17 rfl (lv_at hl 0 rfl) ?_
  refine lv_bipush (v := (36 : Int32)) hx hb dX6_init_18 (by decide) ?_
  refine va_newa (atype := .int) (a0 := (36, .inl (fun _ => 0))) hx hb (hts _ kX6_init_3) rfl hK hP hD hS hA (fun _ => rfl) (by decide) (by decide) (by decide) (Nat.le_of_ble_eq_true rfl) (Nat.le_of_ble_eq_true rfl) dX6_init_20 (fun q20 c20 H hK hP hD hS => ?_)
  obtain rfl := ky_int hK 0 1 rfl rfl
  have hK := hK.sub (tys' := [(c7, .int)]) [0] rfl
  have hP : va_P D vwCl [(h0, .inr (5, [.ref q7, .int (0 : Int32), .null, .int 0, .int 0, .int 0, .int 0])), (q7, .inl (c7, 120, .inl (fun _ => 0))), (q20, .inl (c7, 36, .inl (fun _ => 0)))] H := hP
  have hD : va_D A [(h0, .inr (5, [.ref q7, .int (0 : Int32), .null, .int 0, .int 0, .int 0, .int 0])), (q7, .inl (c7, 120, .inl (fun _ => 0))), (q20, .inl (c7, 36, .inl (fun _ => 0)))] := hD
  refine W.widen (k := 2) (n := 156) (by omega) (by omega) ?_
  refine va_putF (D := D) (ci := 5) (v := .ref q20) (ty := .array .int) (C := RX6) (T := TX6) (N := 7) hx hb hts iX6_init_X6 tyX6 tyX6_ok nmX6 hown hK hP hD hS 0 rfl rfl 2 (by decide) (hts _ kX6_init_7) (fun _ h9 => h9) rfl hin rfl (by decide +kernel) rfl rfl (Nat.le_of_ble_eq_true rfl) dX6_init_22 (fun H locs hP hD hS => ?_)
  have hP : va_P D vwCl [(h0, .inr (5, [.ref q7, .int (0 : Int32), .ref q20, .int 0, .int 0, .int 0, .int 0])), (q7, .inl (c7, 120, .inl (fun _ => 0))), (q20, .inl (c7, 36, .inl (fun _ => 0)))] H := hP
  have hD : va_D A [(h0, .inr (5, [.ref q7, .int (0 : Int32), .ref q20, .int 0, .int 0, .int 0, .int 0])), (q7, .inl (c7, 120, .inl (fun _ => 0))), (q20, .inl (c7, 36, .inl (fun _ => 0)))] := hD
  refine lv_aload_n hx hb dX6_init_25 rfl (lv_at hl 0 rfl) ?_
  refine lv_iconst (v := (0 : Int32)) hx hb dX6_init_26 (by decide) ?_
  refine va_put (D := D) (ci := 5) (v := .int (0 : Int32)) (ty := .int) (C := RX6) (T := TX6) (N := 7) hx hb hts iX6_init_X6 tyX6 tyX6_ok nmX6 hown hK hP hD hS 0 rfl rfl 3 (by decide) (hts _ kX6_init_8) (fun _ h9 => h9) rfl (by decide +kernel) rfl rfl (Nat.le_of_ble_eq_true rfl) dX6_init_27 (fun H locs hP hD hS => ?_)
  have hP : va_P D vwCl [(h0, .inr (5, [.ref q7, .int (0 : Int32), .ref q20, .int (0 : Int32), .int 0, .int 0, .int 0])), (q7, .inl (c7, 120, .inl (fun _ => 0))), (q20, .inl (c7, 36, .inl (fun _ => 0)))] H := hP
  have hD : va_D A [(h0, .inr (5, [.ref q7, .int (0 : Int32), .ref q20, .int (0 : Int32), .int 0, .int 0, .int 0])), (q7, .inl (c7, 120, .inl (fun _ => 0))), (q20, .inl (c7, 36, .inl (fun _ => 0)))] := hD
  refine lv_aload_n hx hb dX6_init_30 rfl (lv_at hl 0 rfl) ?_
  refine lv_iconst (v := (0 : Int32)) hx hb dX6_init_31 (by decide) ?_
  refine va_put (D := D) (ci := 5) (v := .int (0 : Int32)) (ty := .int) (C := RX6) (T := TX6) (N := 7) hx hb hts iX6_init_X6 tyX6 tyX6_ok nmX6 hown hK hP hD hS 0 rfl rfl 4 (by decide) (hts _ kX6_init_9) (fun _ h9 => h9) rfl (by decide +kernel) rfl rfl (Nat.le_of_ble_eq_true rfl) dX6_init_32 (fun H locs hP hD hS => ?_)
  have hP : va_P D vwCl [(h0, .inr (5, [.ref q7, .int (0 : Int32), .ref q20, .int (0 : Int32), .int (0 : Int32), .int 0, .int 0])), (q7, .inl (c7, 120, .inl (fun _ => 0))), (q20, .inl (c7, 36, .inl (fun _ => 0)))] H := hP
  have hD : va_D A [(h0, .inr (5, [.ref q7, .int (0 : Int32), .ref q20, .int (0 : Int32), .int (0 : Int32), .int 0, .int 0])), (q7, .inl (c7, 120, .inl (fun _ => 0))), (q20, .inl (c7, 36, .inl (fun _ => 0)))] := hD
  refine lv_aload_n hx hb dX6_init_35 rfl (lv_at hl 0 rfl) ?_
  refine lv_iconst (v := (0 : Int32)) hx hb dX6_init_36 (by decide) ?_
  refine va_put (D := D) (ci := 5) (v := .int (0 : Int32)) (ty := .int) (C := RX6) (T := TX6) (N := 7) hx hb hts iX6_init_X6 tyX6 tyX6_ok nmX6 hown hK hP hD hS 0 rfl rfl 5 (by decide) (hts _ kX6_init_10) (fun _ h9 => h9) rfl (by decide +kernel) rfl rfl (Nat.le_of_ble_eq_true rfl) dX6_init_37 (fun H locs hP hD hS => ?_)
  have hP : va_P D vwCl [(h0, .inr (5, [.ref q7, .int (0 : Int32), .ref q20, .int (0 : Int32), .int (0 : Int32), .int (0 : Int32), .int 0])), (q7, .inl (c7, 120, .inl (fun _ => 0))), (q20, .inl (c7, 36, .inl (fun _ => 0)))] H := hP
  have hD : va_D A [(h0, .inr (5, [.ref q7, .int (0 : Int32), .ref q20, .int (0 : Int32), .int (0 : Int32), .int (0 : Int32), .int 0])), (q7, .inl (c7, 120, .inl (fun _ => 0))), (q20, .inl (c7, 36, .inl (fun _ => 0)))] := hD
  refine lv_aload_n hx hb dX6_init_40 rfl (lv_at hl 0 rfl) ?_
  refine lv_iconst (v := (0 : Int32)) hx hb dX6_init_41 (by decide) ?_
  refine va_put (D := D) (ci := 5) (v := .int (0 : Int32)) (ty := .int) (C := RX6) (T := TX6) (N := 7) hx hb hts iX6_init_X6 tyX6 tyX6_ok nmX6 hown hK hP hD hS 0 rfl rfl 6 (by decide) (hts _ kX6_init_11) (fun _ h9 => h9) rfl (by decide +kernel) rfl rfl (Nat.le_of_ble_eq_true rfl) dX6_init_42 (fun H locs hP hD hS => ?_)
  have hP : va_P D vwCl [(h0, .inr (5, [.ref q7, .int (0 : Int32), .ref q20, .int (0 : Int32), .int (0 : Int32), .int (0 : Int32), .int (0 : Int32)])), (q7, .inl (c7, 120, .inl (fun _ => 0))), (q20, .inl (c7, 36, .inl (fun _ => 0)))] H := hP
  have hD : va_D A [(h0, .inr (5, [.ref q7, .int (0 : Int32), .ref q20, .int (0 : Int32), .int (0 : Int32), .int (0 : Int32), .int (0 : Int32)])), (q7, .inl (c7, 120, .inl (fun _ => 0))), (q20, .inl (c7, 36, .inl (fun _ => 0)))] := hD
  refine W.widen (k := 2) (n := 156) (by omega) (by omega) ?_
  exact W.vret hx hb hr (fun t ht hW => ⟨⟨(), rfl, trivial, q7, q20, c7, by rw [ht]; exact hP, va_K.moved hW.alike hK, hD⟩, hS.F ht⟩) hS.2.2 dX6_init_45

abbrev rm_X7_init : Room := { frames := 1, cells := 2, slots := 763, locals := 12 }
theorem kX7_init_0 : (Cond.methodLink RX7 3 objectInit) ∈ wsX7_init := by decide +kernel
theorem kX7_init_1 : (Cond.instanceMethod objectInit) ∈ wsX7_init := by decide +kernel
theorem kX7_init_2 : (Cond.code objectInit ⟨#[0xb1]⟩ 1 none) ∈ wsX7_init := by decide +kernel
theorem kX7_init_3 : (Cond.arrayClass .int) ∈ wsX7_init := by decide +kernel
theorem iX7_init_X7 : ∀ w ∈ wsX70, w ∈ wsX7_init := by decide +kernel
theorem kX7_init_5 : (Cond.fieldLink RX7 9 "TwoLaws$Trial" "laws" "[I") ∈ wsX7_init := by decide +kernel
theorem kX7_init_6 : (Cond.fieldLink RX7 15 "TwoLaws$Trial" "lawCount" "I") ∈ wsX7_init := by decide +kernel
theorem kX7_init_7 : (Cond.fieldLink RX7 19 "TwoLaws$Trial" "more" "[I") ∈ wsX7_init := by decide +kernel
set_option maxHeartbeats 4000000 in
set_option maxRecDepth 100000 in
theorem c_X7_init (l : Launch) (D : va_G) (h0  : Nat) (sz : Nat) : Met l yX7_init wsX7_init rm_X7_init (va_Pc [.ref h0] (fun U => U.heap.size = sz ∧ va_P D vwCl [(h0, .inr (6, [.null, .int 0, .null]))] U.heap ∧ va_K D vwCl [] U ∧ va_D (fun _ => True) [(h0, .inr (6, [.null, .int 0, .null]))])) (va_Qv (S := Unit) (fun _ => True) (fun _ t => ∃ (q8 q22 : Nat) (c8 : ClassId), va_P D vwCl [(h0, .inr (6, [.ref q8, .int (0 : Int32), .ref q22])), (q8, .inl (c8, 289, .inl (fun _ => 0))), (q22, .inl (c8, 474, .inl (fun _ => 0)))] t.heap ∧ va_K D vwCl [(c8, .int)] t ∧ va_D (va_A [(h0, .inr (6, [.null, .int 0, .null]))] sz) [(h0, .inr (6, [.ref q8, .int (0 : Int32), .ref q22])), (q8, .inl (c8, 289, .inl (fun _ => 0))), (q22, .inl (c8, 474, .inl (fun _ => 0)))]) (va_A [(h0, .inr (6, [.null, .int 0, .null]))] sz)) 2 763 (va_A [(h0, .inr (6, [.null, .int 0, .null]))] sz) := by
  refine Met.ofW (cc := cX7_init) (maxL := 1) (ret := none) (by decide) rfl ?_
  intro p e s m args below meth c s₁ B hml hv
  obtain ⟨rfl, hsz, hP, hK, hD0⟩ := hv
  have hx := B.exec
  have hb := B.bytes
  have hr := B.returns
  have hts := atoms_spec (ws := wsX7_init) B.pre
  have hown : s.vm.findClass RX7 = some m.cls := findClass_of_methodNamed B.named
  have hlocks := B.notSynchronized
  have hin : meth.name = "<init>" := (name_of_methodNamed B.named B.method).1
  subst hsz
  have hD := hD0.self (sz := s.heap.size)
  generalize hAe : va_A [(h0, .inr (6, [.null, .int 0, .null]))] s.heap.size = A at hD ⊢
  have hA : ∀ q : Nat, s.heap.size ≤ q → A q := fun q h => by rw [← hAe]; exact Or.inr h
  have hS : va_S A s.heap s.heap [] := va_S.rf
  have hP : va_P D vwCl [(h0, .inr (6, [.null, .int 0, .null]))] s.heap := hP
  have hl := lv_entry ([.ref h0]) (n := 1) (Nat.le_of_ble_eq_true rfl)
  rw [lg_entry_eq]
  generalize (lg_sl ([.ref h0]) ++ List.replicate (1 - (lg_sl ([.ref h0])).length) Slot.unset).toArray = ls at hl ⊢
  have hl : lv_has ls 1 [(0, .ref h0)] := hl
  refine lv_aload_n hx hb dX7_init_0 rfl (lv_at hl 0 rfl) ?_
  refine W.objInit hx hb hown (hts _ kX7_init_0) (hts _ kX7_init_1) (hts _ kX7_init_2) rfl (by rw [hml]; exact hl.1) rfl dX7_init_1 (Nat.le_of_ble_eq_true rfl) (Nat.le_of_ble_eq_true rfl) ?_
  refine W.eq (g2 := F0 m 4 ls []) rfl ?_
  refine lv_aload_n hx hb dX7_init_4 rfl (lv_at hl 0 rfl) ?_
  refine lv_sipush (v := (289 : Int32)) hx hb dX7_init_5 (by decide) ?_
  refine va_newa (atype := .int) (a0 := (289, .inl (fun _ => 0))) hx hb (hts _ kX7_init_3) rfl hK hP hD hS hA (fun _ => rfl) (by decide) (by decide) (by decide) (Nat.le_of_ble_eq_true rfl) (Nat.le_of_ble_eq_true rfl) dX7_init_8 (fun q8 c8 H hK hP hD hS => ?_)
  have hK : va_K D vwCl [(c8, .int)] s := hK
  have hP : va_P D vwCl [(h0, .inr (6, [.null, .int 0, .null])), (q8, .inl (c8, 289, .inl (fun _ => 0)))] H := hP
  have hD : va_D A [(h0, .inr (6, [.null, .int 0, .null])), (q8, .inl (c8, 289, .inl (fun _ => 0)))] := hD
  refine W.widen (k := 1) (n := 289) (by omega) (by omega) ?_
  refine va_putF (D := D) (ci := 6) (v := .ref q8) (ty := .array .int) (C := RX7) (T := TX7) (N := 3) hx hb hts iX7_init_X7 tyX7 tyX7_ok nmX7 hown hK hP hD hS 0 rfl rfl 0 (by decide) (hts _ kX7_init_5) (fun _ h9 => h9) rfl hin rfl (by decide +kernel) rfl rfl (Nat.le_of_ble_eq_true rfl) dX7_init_10 (fun H locs hP hD hS => ?_)
  have hP : va_P D vwCl [(h0, .inr (6, [.ref q8, .int 0, .null])), (q8, .inl (c8, 289, .inl (fun _ => 0)))] H := hP
  have hD : va_D A [(h0, .inr (6, [.ref q8, .int 0, .null])), (q8, .inl (c8, 289, .inl (fun _ => 0)))] := hD
  refine lv_aload_n hx hb dX7_init_13 rfl (lv_at hl 0 rfl) ?_
  refine lv_iconst (v := (0 : Int32)) hx hb dX7_init_14 (by decide) ?_
  refine va_put (D := D) (ci := 6) (v := .int (0 : Int32)) (ty := .int) (C := RX7) (T := TX7) (N := 3) hx hb hts iX7_init_X7 tyX7 tyX7_ok nmX7 hown hK hP hD hS 0 rfl rfl 1 (by decide) (hts _ kX7_init_6) (fun _ h9 => h9) rfl (by decide +kernel) rfl rfl (Nat.le_of_ble_eq_true rfl) dX7_init_15 (fun H locs hP hD hS => ?_)
  have hP : va_P D vwCl [(h0, .inr (6, [.ref q8, .int (0 : Int32), .null])), (q8, .inl (c8, 289, .inl (fun _ => 0)))] H := hP
  have hD : va_D A [(h0, .inr (6, [.ref q8, .int (0 : Int32), .null])), (q8, .inl (c8, 289, .inl (fun _ => 0)))] := hD
  refine lv_aload_n hx hb dX7_init_18 rfl (lv_at hl 0 rfl) ?_
  refine lv_sipush (v := (474 : Int32)) hx hb dX7_init_19 (by decide) ?_
  refine va_newa (atype := .int) (a0 := (474, .inl (fun _ => 0))) hx hb (hts _ kX7_init_3) rfl hK hP hD hS hA (fun _ => rfl) (by decide) (by decide) (by decide) (Nat.le_of_ble_eq_true rfl) (Nat.le_of_ble_eq_true rfl) dX7_init_22 (fun q22 c22 H hK hP hD hS => ?_)
  obtain rfl := ky_int hK 0 1 rfl rfl
  have hK := hK.sub (tys' := [(c8, .int)]) [0] rfl
  have hP : va_P D vwCl [(h0, .inr (6, [.ref q8, .int (0 : Int32), .null])), (q8, .inl (c8, 289, .inl (fun _ => 0))), (q22, .inl (c8, 474, .inl (fun _ => 0)))] H := hP
  have hD : va_D A [(h0, .inr (6, [.ref q8, .int (0 : Int32), .null])), (q8, .inl (c8, 289, .inl (fun _ => 0))), (q22, .inl (c8, 474, .inl (fun _ => 0)))] := hD
  refine W.widen (k := 2) (n := 763) (by omega) (by omega) ?_
  refine va_putF (D := D) (ci := 6) (v := .ref q22) (ty := .array .int) (C := RX7) (T := TX7) (N := 3) hx hb hts iX7_init_X7 tyX7 tyX7_ok nmX7 hown hK hP hD hS 0 rfl rfl 2 (by decide) (hts _ kX7_init_7) (fun _ h9 => h9) rfl hin rfl (by decide +kernel) rfl rfl (Nat.le_of_ble_eq_true rfl) dX7_init_24 (fun H locs hP hD hS => ?_)
  have hP : va_P D vwCl [(h0, .inr (6, [.ref q8, .int (0 : Int32), .ref q22])), (q8, .inl (c8, 289, .inl (fun _ => 0))), (q22, .inl (c8, 474, .inl (fun _ => 0)))] H := hP
  have hD : va_D A [(h0, .inr (6, [.ref q8, .int (0 : Int32), .ref q22])), (q8, .inl (c8, 289, .inl (fun _ => 0))), (q22, .inl (c8, 474, .inl (fun _ => 0)))] := hD
  refine W.widen (k := 2) (n := 763) (by omega) (by omega) ?_
  exact W.vret hx hb hr (fun t ht hW => ⟨⟨(), rfl, trivial, q8, q22, c8, by rw [ht]; exact hP, va_K.moved hW.alike hK, hD⟩, hS.F ht⟩) hS.2.2 dX7_init_27

