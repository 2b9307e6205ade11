def f_J9_floorDiv_7cf53 (N : Nat) (p0 : Int32) (p1 : Int32) : Option (Int32) :=
  gd p1 ((if 0 ≤ (p0 ^^^ p1) then some ((p0 / p1)) else (if ((p0 / p1) * p1) = p0 then some ((p0 / p1)) else some (((p0 / p1) - (1 : Int32))))))
def f_J6_bitCount_0f7a4 (N : Nat) (p0 : Int32) : Option (Int32) :=
  nm (p0 - ((((p0).toUInt32 >>> (((1 : Int32)).toUInt32 &&& Int32.toUInt32 31)).toInt32) &&& (1431655765 : Int32))) (fun v1 => nm ((v1 &&& (858993459 : Int32)) + ((((v1).toUInt32 >>> (((2 : Int32)).toUInt32 &&& Int32.toUInt32 31)).toInt32) &&& (858993459 : Int32))) (fun v2 => nm ((v2 + (((v2).toUInt32 >>> (((4 : Int32)).toUInt32 &&& Int32.toUInt32 31)).toInt32)) &&& (252645135 : Int32)) (fun v3 => nm (v3 + (((v3).toUInt32 >>> (((8 : Int32)).toUInt32 &&& Int32.toUInt32 31)).toInt32)) (fun v4 => nm (v4 + (((v4).toUInt32 >>> (((16 : Int32)).toUInt32 &&& Int32.toUInt32 31)).toInt32)) (fun v5 => some ((v5 &&& (63 : Int32))))))))
def b_J7_fill_53178_5 (N : Nat)  (nn : Nat) (l1 : Int32) (l3 : Int32) (k5 : Int32 → (Nat → Int32) → Option ((Nat → Int32))) (l2 : Int32) (f0 : Nat → Int32) : Option ((Nat → Int32)) :=
  (if l3 ≤ l2 then some (f0) else gi l2 nn (k5 (l2 + (1 : Int32)) (upd f0 l2.toNatClampNeg l1)))
def f_J7_fill_53178_5 (N : Nat)  (nn : Nat) (l1 : Int32) (l3 : Int32) : Nat → Int32 → (Nat → Int32) → Option ((Nat → Int32))
  | 0, _, _ => none
  | n + 1, l2, f0 => b_J7_fill_53178_5 N nn l1 l3 (f_J7_fill_53178_5 N nn l1 l3 n) l2 f0
def f_J7_fill_53178 (N : Nat) (p1 : Int32) (nn : Nat) (f0 : Nat → Int32) : Option ((Nat → Int32)) :=
  f_J7_fill_53178_5 N nn p1 (Int32.ofNat nn) N (0 : Int32) f0
def f_X3_is (N : Nat) (p0 : Int32) : Option (Int32) :=
  (if p0 < 0 then some ((0 : Int32)) else (if (289 : Int32) ≤ p0 then some ((0 : Int32)) else some ((1 : Int32))))
def f_X3_number (N : Nat) (p0 : Int32) (p1 : Int32) : Option (Int32) :=
  some (((((17 : Int32) * (p0 + (8 : Int32))) + p1) + (8 : Int32)))
def f_X3_partOfState (N : Nat) (p0 : Int32) : Option (Int32) :=
  some (((p0 / (17 : Int32)) - (8 : Int32)))
def f_X3_partOfPush (N : Nat) (p0 : Int32) : Option (Int32) :=
  some (((p0 - p0 / (17 : Int32) * (17 : Int32)) - (8 : Int32)))
def f_X3_sum (N : Nat) (p0 : Int32) (p1 : Int32) (p2 : Int32) : Option (Int32) :=
  b1 (f_X3_partOfState N p0) (fun r2 => b1 (f_X3_partOfPush N p0) (fun r4 => some (((r2 * p1) + (r4 * p2)))))
def f_X3_isMet (N : Nat) (p0 : Int32) (p1 : Int32) (p2 : Int32) : Option (Int32) :=
  (if ((4 : Int32) * p2) < (if 0 ≤ (((4 : Int32) * p1) - p0) then (((4 : Int32) * p1) - p0) else 0 - (((4 : Int32) * p1) - p0)) then some ((0 : Int32)) else some ((1 : Int32)))
def f_X3_leastEnd (N : Nat) (p0 : Int32) (p1 : Int32) : Option (Int32) :=
  b1 (f_J9_floorDiv_7cf53 N (-p0) (4 : Int32)) (fun r2 => some (((-r2) - p1)))
def f_X3_greatestEnd (N : Nat) (p0 : Int32) (p1 : Int32) : Option (Int32) :=
  b1 (f_J9_floorDiv_7cf53 N p0 (4 : Int32)) (fun r2 => some ((r2 + p1)))
abbrev rm_J9_floorDiv_7cf53 : Room := { frames := 0, cells := 0, slots := 0, locals := 0 }
set_option maxHeartbeats 4000000 in
set_option maxRecDepth 100000 in
theorem cr_J9_floorDiv_7cf53 (l : Launch) (D : va_G) (ky : Nat → ClassId)  (sz N : Nat)   (p0 : Int32) (p1 : Int32) (res : Int32) (hF : f_J9_floorDiv_7cf53 N p0 p1 = some res) : MI l yJ9_floorDiv_7cf53 wsJ9_floorDiv_7cf53 rm_J9_floorDiv_7cf53 D ky sz [.int p0, .int p1] [] [] res := by
  unfold MI
  refine ofWF (cc := cJ9_floorDiv_7cf53) (maxL := 3) (ret := (some .int)) (by decide +kernel) rfl ?_
  intro p e s m args below meth c s₁ B hml hv
  obtain ⟨rfl, hsz, hP, hK, hD0⟩ := hv
  have hx := B.exec
  have hb := B.bytes
  have hr := B.returns
  have hts := atoms_spec (ws := wsJ9_floorDiv_7cf53) B.pre
  have hown : s.vm.findClass RJ9 = some m.cls := findClass_of_methodNamed B.named
  have hlocks := B.notSynchronized
  subst hsz
  have hD := hD0.self (sz := s.heap.size)
  generalize hAe : va_A [] s.heap.size = A at hD ⊢
  have hA : ∀ q : Nat, s.heap.size ≤ q → A q := fun q h => by rw [← hAe]; exact Or.inr h
  have hS : va_S A s.heap s.heap [] := va_S.rf
  have hP : va_P D vwCl [] s.heap := hP
  have hl := lv_entry ([.int p0, .int p1]) (n := 3) (Nat.le_of_ble_eq_true rfl)
  rw [lg_entry_eq]
  generalize (lg_sl ([.int p0, .int p1]) ++ List.replicate (3 - (lg_sl ([.int p0, .int p1])).length) Slot.unset).toArray = ls at hl ⊢
  have hl : lv_has ls 3 [(0, .int p0), (1, .int p1)] := hl
  have C : cx p s m c ([.int p0, .int p1]).toArray D ky A cJ9_floorDiv_7cf53 3 wsJ9_floorDiv_7cf53 RJ9 := ⟨hx, hb, hml, hown, hts, hK, hA⟩
  have hQ : ∀ (pc : Nat) (H : Heap) (locs : List Loc) (ls : Array Slot), decode cJ9_floorDiv_7cf53 pc = .ok (.ireturn, 1) → va_P D vwCl [] H → va_D A [] → va_S A s.heap H locs → W p l e rm_J9_floorDiv_7cf53 s m ([.int p0, .int p1]).toArray below meth c H locs 0 0 (MQ below (va_Qi (S := Unit) (fun r _ => r = res) (fun _ t => va_P D vwCl [] t.heap ∧ va_K D vwCl (tyW ky) t ∧ va_D A []) A) ([.int p0, .int p1]).toArray s 0 0 A) (F0 m pc ls [.int res]) := fun pc H locs ls hd hP hD hS => W.iret hx hb hr (fun t ht hW => ⟨⟨res, (), rfl, rfl, by rw [ht]; exact hP, va_K.moved hW.alike hK, hD⟩, hS.F ht⟩) hS.2.2 hd
  unfold f_J9_floorDiv_7cf53 at hF
  refine lv_iload_n hx hb dJ9_floorDiv_7cf53_0 rfl (lv_at hl 0 rfl) ?_
  refine lv_iload_n hx hb dJ9_floorDiv_7cf53_1 rfl (lv_at hl 1 rfl) ?_
  obtain ⟨h1, hF⟩ := gd_s hF
  refine lv_idiv hx hb dJ9_floorDiv_7cf53_2 h1 ?_
  refine lv_istore_n (lv' := [(2, .int (p0 / p1)), (0, .int p0), (1, .int p1)]) hx hb dJ9_floorDiv_7cf53_3 rfl hl (by decide) rfl (fun ls hl => ?_)
  refine lv_iload_n hx hb dJ9_floorDiv_7cf53_4 rfl (lv_at hl 1 rfl) ?_
  refine lv_iload_n hx hb dJ9_floorDiv_7cf53_5 rfl (lv_at hl 2 rfl) ?_
  refine lv_ixor hx hb dJ9_floorDiv_7cf53_6 ?_
  refine lv_if_ge (tgt := 21) hx hb dJ9_floorDiv_7cf53_7 (by decide) (fun c2 => ?_) (fun c2 => ?_)
  · have hF := if_t c2 hF
    refine lv_iload_n hx hb dJ9_floorDiv_7cf53_21 rfl (lv_at hl 0 rfl) ?_
    have hF := Option.some.inj hF
    subst hF
    exact hQ _ _ _ _ dJ9_floorDiv_7cf53_22 hP hD hS
  · have hF := if_f c2 hF
    refine lv_iload_n hx hb dJ9_floorDiv_7cf53_10 rfl (lv_at hl 0 rfl) ?_
    refine lv_iload_n hx hb dJ9_floorDiv_7cf53_11 rfl (lv_at hl 2 rfl) ?_
    refine lv_imul hx hb dJ9_floorDiv_7cf53_12 ?_
    refine lv_iload_n hx hb dJ9_floorDiv_7cf53_13 rfl (lv_at hl 1 rfl) ?_
    refine lv_icmp_eq (tgt := 21) hx hb dJ9_floorDiv_7cf53_14 (by decide) (fun c3 => ?_) (fun c3 => ?_)
    · have hF := if_t c3 hF
      refine lv_iload_n hx hb dJ9_floorDiv_7cf53_21 rfl (lv_at hl 0 rfl) ?_
      have hF := Option.some.inj hF
      subst hF
      exact hQ _ _ _ _ dJ9_floorDiv_7cf53_22 hP hD hS
    · have hF := if_f c3 hF
      refine lv_iload_n hx hb dJ9_floorDiv_7cf53_17 rfl (lv_at hl 0 rfl) ?_
      refine lv_iconst (v := (1 : Int32)) hx hb dJ9_floorDiv_7cf53_18 (by decide) ?_
      refine lv_isub hx hb dJ9_floorDiv_7cf53_19 ?_
      have hF := Option.some.inj hF
      subst hF
      exact hQ _ _ _ _ dJ9_floorDiv_7cf53_20 hP hD hS
theorem c_J9_floorDiv_7cf53 (l : Launch) (D : va_G) (ky : Nat → ClassId)  (sz N : Nat)   (p0 : Int32) (p1 : Int32) (rv : Int32) (hF : f_J9_floorDiv_7cf53 N p0 p1 = some (rv)) : MI l yJ9_floorDiv_7cf53 wsJ9_floorDiv_7cf53 rm_J9_floorDiv_7cf53 D ky sz [.int p0, .int p1] [] [] rv :=
  cr_J9_floorDiv_7cf53 l D ky  sz N p0 p1 (rv) hF
abbrev rm_J6_bitCount_0f7a4 : Room := { frames := 0, cells := 0, slots := 0, locals := 0 }
theorem kJ6_bitCount_0f7a4_0 : (Cond.constant RJ6 265 (1431655765)) ∈ wsJ6_bitCount_0f7a4 := by decide +kernel
theorem kJ6_bitCount_0f7a4_1 : (Cond.constant RJ6 266 (858993459)) ∈ wsJ6_bitCount_0f7a4 := by decide +kernel
theorem kJ6_bitCount_0f7a4_2 : (Cond.constant RJ6 267 (252645135)) ∈ wsJ6_bitCount_0f7a4 := by decide +kernel
set_option maxHeartbeats 4000000 in
set_option maxRecDepth 100000 in
theorem cr_J6_bitCount_0f7a4 (l : Launch) (D : va_G) (ky : Nat → ClassId)  (sz N : Nat)   (p0 : Int32) (res : Int32) (hF : f_J6_bitCount_0f7a4 N p0 = some res) : MI l yJ6_bitCount_0f7a4 wsJ6_bitCount_0f7a4 rm_J6_bitCount_0f7a4 D ky sz [.int p0] [] [] res := by
  unfold MI
  refine Met.ofW (cc := cJ6_bitCount_0f7a4) (maxL := 1) (ret := (some .int)) (by decide) rfl ?_
  intro p e s m args below meth c s₁ B hml hv
  obtain ⟨rfl, hsz, hP, hK, hD0⟩ := hv
  have hx := B.exec
  have hb := B.bytes
  have hr := B.returns
  have hts := atoms_spec (ws := wsJ6_bitCount_0f7a4) B.pre
  have hown : s.vm.findClass RJ6 = some m.cls := findClass_of_methodNamed B.named
  have hlocks := B.notSynchronized
  subst hsz
  have hD := hD0.self (sz := s.heap.size)
  generalize hAe : va_A [] s.heap.size = A at hD ⊢
  have hA : ∀ q : Nat, s.heap.size ≤ q → A q := fun q h => by rw [← hAe]; exact Or.inr h
  have hS : va_S A s.heap s.heap [] := va_S.rf
  have hP : va_P D vwCl [] s.heap := hP
  have hl := lv_entry ([.int p0]) (n := 1) (Nat.le_of_ble_eq_true rfl)
  rw [lg_entry_eq]
  generalize (lg_sl ([.int p0]) ++ List.replicate (1 - (lg_sl ([.int p0])).length) Slot.unset).toArray = ls at hl ⊢
  have hl : lv_has ls 1 [(0, .int p0)] := hl
  have C : cx p s m c ([.int p0]).toArray D ky A cJ6_bitCount_0f7a4 1 wsJ6_bitCount_0f7a4 RJ6 := ⟨hx, hb, hml, hown, hts, hK, hA⟩
  have hQ : ∀ (pc : Nat) (H : Heap) (locs : List Loc) (ls : Array Slot), decode cJ6_bitCount_0f7a4 pc = .ok (.ireturn, 1) → va_P D vwCl [] H → va_D A [] → va_S A s.heap H locs → W p l e rm_J6_bitCount_0f7a4 s m ([.int p0]).toArray below meth c H locs 0 0 (MQ below (va_Qi (S := Unit) (fun r _ => r = res) (fun _ t => va_P D vwCl [] t.heap ∧ va_K D vwCl (tyW ky) t ∧ va_D A []) A) ([.int p0]).toArray s 0 0 A) (F0 m pc ls [.int res]) := fun pc H locs ls hd hP hD hS => W.iret hx hb hr (fun t ht hW => ⟨⟨res, (), rfl, rfl, by rw [ht]; exact hP, va_K.moved hW.alike hK, hD⟩, hS.F ht⟩) hS.2.2 hd
  unfold f_J6_bitCount_0f7a4 at hF
  refine lv_iload_n hx hb dJ6_bitCount_0f7a4_0 rfl (lv_at hl 0 rfl) ?_
  refine lv_iload_n hx hb dJ6_bitCount_0f7a4_1 rfl (lv_at hl 0 rfl) ?_
  refine lv_iconst (v := (1 : Int32)) hx hb dJ6_bitCount_0f7a4_2 (by decide) ?_
  refine lv_iushr (v := ((p0).toUInt32 >>> (((1 : Int32)).toUInt32 &&& Int32.toUInt32 31)).toInt32) hx hb dJ6_bitCount_0f7a4_3 rfl ?_
  refine lv_ldcw hx hb hown (hts _ kJ6_bitCount_0f7a4_0) dJ6_bitCount_0f7a4_4 ?_
  refine lv_iand hx hb dJ6_bitCount_0f7a4_7 ?_
  refine lv_isub hx hb dJ6_bitCount_0f7a4_8 ?_
  refine lv_topi (fun v1 e_v1 => ?_)
  have hF := nm_s e_v1 hF
  refine lv_istore_n (lv' := [(0, .int v1)]) hx hb dJ6_bitCount_0f7a4_9 rfl hl (by decide) rfl (fun ls hl => ?_)
  refine lv_iload_n hx hb dJ6_bitCount_0f7a4_10 rfl (lv_at hl 0 rfl) ?_
  refine lv_ldcw hx hb hown (hts _ kJ6_bitCount_0f7a4_1) dJ6_bitCount_0f7a4_11 ?_
  refine lv_iand hx hb dJ6_bitCount_0f7a4_14 ?_
  refine lv_iload_n hx hb dJ6_bitCount_0f7a4_15 rfl (lv_at hl 0 rfl) ?_
  refine lv_iconst (v := (2 : Int32)) hx hb dJ6_bitCount_0f7a4_16 (by decide) ?_
  refine lv_iushr (v := ((v1).toUInt32 >>> (((2 : Int32)).toUInt32 &&& Int32.toUInt32 31)).toInt32) hx hb dJ6_bitCount_0f7a4_17 rfl ?_
  refine lv_ldcw hx hb hown (hts _ kJ6_bitCount_0f7a4_1) dJ6_bitCount_0f7a4_18 ?_
  refine lv_iand hx hb dJ6_bitCount_0f7a4_21 ?_
  refine lv_iadd hx hb dJ6_bitCount_0f7a4_22 ?_
  refine lv_topi (fun v2 e_v2 => ?_)
  have hF := nm_s e_v2 hF
  refine lv_istore_n (lv' := [(0, .int v2)]) hx hb dJ6_bitCount_0f7a4_23 rfl hl (by decide) rfl (fun ls hl => ?_)
  refine lv_iload_n hx hb dJ6_bitCount_0f7a4_24 rfl (lv_at hl 0 rfl) ?_
  refine lv_iload_n hx hb dJ6_bitCount_0f7a4_25 rfl (lv_at hl 0 rfl) ?_
  refine lv_iconst (v := (4 : Int32)) hx hb dJ6_bitCount_0f7a4_26 (by decide) ?_
  refine lv_iushr (v := ((v2).toUInt32 >>> (((4 : Int32)).toUInt32 &&& Int32.toUInt32 31)).toInt32) hx hb dJ6_bitCount_0f7a4_27 rfl ?_
  refine lv_iadd hx hb dJ6_bitCount_0f7a4_28 ?_
  refine lv_ldcw hx hb hown (hts _ kJ6_bitCount_0f7a4_2) dJ6_bitCount_0f7a4_29 ?_
  refine lv_iand hx hb dJ6_bitCount_0f7a4_32 ?_
  refine lv_topi (fun v3 e_v3 => ?_)
  have hF := nm_s e_v3 hF
  refine lv_istore_n (lv' := [(0, .int v3)]) hx hb dJ6_bitCount_0f7a4_33 rfl hl (by decide) rfl (fun ls hl => ?_)
  refine lv_iload_n hx hb dJ6_bitCount_0f7a4_34 rfl (lv_at hl 0 rfl) ?_
  refine lv_iload_n hx hb dJ6_bitCount_0f7a4_35 rfl (lv_at hl 0 rfl) ?_
  refine lv_bipush (v := (8 : Int32)) hx hb dJ6_bitCount_0f7a4_36 (by decide) ?_
  refine lv_iushr (v := ((v3).toUInt32 >>> (((8 : Int32)).toUInt32 &&& Int32.toUInt32 31)).toInt32) hx hb dJ6_bitCount_0f7a4_38 rfl ?_
  refine lv_iadd hx hb dJ6_bitCount_0f7a4_39 ?_
  refine lv_topi (fun v4 e_v4 => ?_)
  have hF := nm_s e_v4 hF
  refine lv_istore_n (lv' := [(0, .int v4)]) hx hb dJ6_bitCount_0f7a4_40 rfl hl (by decide) rfl (fun ls hl => ?_)
  refine lv_iload_n hx hb dJ6_bitCount_0f7a4_41 rfl (lv_at hl 0 rfl) ?_
  refine lv_iload_n hx hb dJ6_bitCount_0f7a4_42 rfl (lv_at hl 0 rfl) ?_
  refine lv_bipush (v := (16 : Int32)) hx hb dJ6_bitCount_0f7a4_43 (by decide) ?_
  refine lv_iushr (v := ((v4).toUInt32 >>> (((16 : Int32)).toUInt32 &&& Int32.toUInt32 31)).toInt32) hx hb dJ6_bitCount_0f7a4_45 rfl ?_
  refine lv_iadd hx hb dJ6_bitCount_0f7a4_46 ?_
  refine lv_topi (fun v5 e_v5 => ?_)
  have hF := nm_s e_v5 hF
  refine lv_istore_n (lv' := [(0, .int v5)]) hx hb dJ6_bitCount_0f7a4_47 rfl hl (by decide) rfl (fun ls hl => ?_)
  refine lv_iload_n hx hb dJ6_bitCount_0f7a4_48 rfl (lv_at hl 0 rfl) ?_
  refine lv_bipush (v := (63 : Int32)) hx hb dJ6_bitCount_0f7a4_49 (by decide) ?_
  refine lv_iand hx hb dJ6_bitCount_0f7a4_51 ?_
  have hF := Option.some.inj hF
  subst hF
  exact hQ _ _ _ _ dJ6_bitCount_0f7a4_52 hP hD hS
theorem c_J6_bitCount_0f7a4 (l : Launch) (D : va_G) (ky : Nat → ClassId)  (sz N : Nat)   (p0 : Int32) (rv : Int32) (hF : f_J6_bitCount_0f7a4 N p0 = some (rv)) : MI l yJ6_bitCount_0f7a4 wsJ6_bitCount_0f7a4 rm_J6_bitCount_0f7a4 D ky sz [.int p0] [] [] rv :=
  cr_J6_bitCount_0f7a4 l D ky  sz N p0 (rv) hF
abbrev rm_J7_fill_53178 : Room := { frames := 0, cells := 0, slots := 0, locals := 0 }
set_option maxHeartbeats 4000000 in
set_option maxRecDepth 100000 in
theorem w_J7_fill_53178_5 {p : Program} {l : Launch} {e : Env} {s : State} {m : MethodId} {args : Array Value} {below : List Frame} {meth : Method} {c : Code} {Q : State → Prop} {A : Nat → Prop} {D : va_G} {ky : Nat → ClassId} {a0 : Nat} {nn : Nat} (N : Nat) (C : cx p s m c args D ky A cJ7_fill_53178 4 wsJ7_fill_53178 RJ7) (res : (Nat → Int32)) (hQ : ∀ (pc : Nat) (H : Heap) (locs : List Loc) (ls : Array Slot), decode cJ7_fill_53178 pc = .ok (.return_, 1) → va_P D vwCl (w_arr ky a0 nn res) H → va_D A (w_arr ky a0 nn res) → va_S A s.heap H locs → W p l e rm_J7_fill_53178 s m args below meth c H locs 0 0 Q (F0 m pc ls [])) (l1 : Int32) (l3 : Int32) : ∀ (n : Nat) (l2 : Int32) (f0 : Nat → Int32), f_J7_fill_53178_5 N nn l1 l3 n l2 f0 = some res → ∀ (H : Heap) (locs : List Loc) (ls : Array Slot), va_P D vwCl (w_arr ky a0 nn f0) H → va_D A (w_arr ky a0 nn f0) → va_S A s.heap H locs → lv_has ls 4 [(0, .ref a0), (1, .int l1), (2, .int l2), (3, .int l3)] → W p l e rm_J7_fill_53178 s m args below meth c H locs 0 0 Q (F0 m 5 ls []) := by
  obtain ⟨hx, hb, hml, hown, hts, hK, hA⟩ := id C
  intro n
  induction n with
  | zero =>
    intro l2 f0 hF
    cases hF
  | succ n ih =>
    intro l2 f0 hF H locs ls hP hD hS hl
    have hF : b_J7_fill_53178_5 N nn l1 l3 (f_J7_fill_53178_5 N nn l1 l3 n) l2 f0 = some res := hF
    unfold b_J7_fill_53178_5 at hF
    refine lv_iload_n hx hb dJ7_fill_53178_5 rfl (lv_at hl 2 rfl) ?_
    refine lv_iload_n hx hb dJ7_fill_53178_6 rfl (lv_at hl 3 rfl) ?_
    refine lv_icmp_ge (tgt := 20) hx hb dJ7_fill_53178_7 (by decide) (fun c1 => ?_) (fun c1 => ?_)
    · have hF := if_t c1 hF
      have hF := Option.some.inj hF
      subst hF
      exact hQ _ H _ _ dJ7_fill_53178_20 hP hD hS
    · have hF := if_f c1 hF
      refine lv_aload_n hx hb dJ7_fill_53178_10 rfl (lv_at hl 0 rfl) ?_
      refine lv_iload_n hx hb dJ7_fill_53178_11 rfl (lv_at hl 2 rfl) ?_
      refine lv_iload_n hx hb dJ7_fill_53178_12 rfl (lv_at hl 1 rfl) ?_
      obtain ⟨h2, hF⟩ := gi_s hF
      refine va_iast hx hb hK hP hD hS 0 0 rfl rfl h2 dJ7_fill_53178_13 (fun H locs hP hD hS => ?_)
      have hP : va_P D vwCl (w_arr ky a0 nn (upd f0 l2.toNatClampNeg l1)) H := hP
      have hD : va_D A (w_arr ky a0 nn (upd f0 l2.toNatClampNeg l1)) := hD
      refine lv_iinc (v := (l2 + (1 : Int32))) (lv' := [(2, .int (l2 + (1 : Int32))), (0, .ref a0), (1, .int l1), (3, .int l3)]) hx hb dJ7_fill_53178_14 hl (k := 2) rfl rfl (by decide) rfl (fun ls hl => ?_)
      refine lv_goto (tgt := 5) hx hb dJ7_fill_53178_17 (by decide) ?_
      exact ih (l2 + (1 : Int32)) (upd f0 l2.toNatClampNeg l1) hF H _ _ hP hD hS (lv_sub hl [1, 2, 0, 3] rfl)
set_option maxHeartbeats 4000000 in
set_option maxRecDepth 100000 in
theorem cr_J7_fill_53178 (l : Launch) (D : va_G) (ky : Nat → ClassId) (a0 : Nat) (sz N : Nat) (nn : Nat) (f0 : Nat → Int32) (p1 : Int32) (res : (Nat → Int32)) (hF : f_J7_fill_53178 N p1 nn f0 = some res) : MV l yJ7_fill_53178 wsJ7_fill_53178 rm_J7_fill_53178 D ky sz [.ref a0, .int p1] (w_arr ky a0 nn f0) (w_arr ky a0 nn res) := by
  unfold MV
  refine Met.ofW (cc := cJ7_fill_53178) (maxL := 4) (ret := none) (by decide) rfl ?_
  intro p e s m args below meth c s₁ B hml hv
  obtain ⟨rfl, hsz, hP, hK, hD0⟩ := hv
  have hx := B.exec
  have hb := B.bytes
  have hr := B.returns
  have hts := atoms_spec (ws := wsJ7_fill_53178) B.pre
  have hown : s.vm.findClass RJ7 = some m.cls := findClass_of_methodNamed B.named
  have hlocks := B.notSynchronized
  subst hsz
  have hD := hD0.self (sz := s.heap.size)
  generalize hAe : va_A (w_arr ky a0 nn f0) s.heap.size = A at hD ⊢
  have hA : ∀ q : Nat, s.heap.size ≤ q → A q := fun q h => by rw [← hAe]; exact Or.inr h
  have hS : va_S A s.heap s.heap [] := va_S.rf
  have hP : va_P D vwCl (w_arr ky a0 nn f0) s.heap := hP
  have hl := lv_entry ([.ref a0, .int p1]) (n := 4) (Nat.le_of_ble_eq_true rfl)
  rw [lg_entry_eq]
  generalize (lg_sl ([.ref a0, .int p1]) ++ List.replicate (4 - (lg_sl ([.ref a0, .int p1])).length) Slot.unset).toArray = ls at hl ⊢
  have hl : lv_has ls 4 [(0, .ref a0), (1, .int p1)] := hl
  have C : cx p s m c ([.ref a0, .int p1]).toArray D ky A cJ7_fill_53178 4 wsJ7_fill_53178 RJ7 := ⟨hx, hb, hml, hown, hts, hK, hA⟩
  have hQ : ∀ (pc : Nat) (H : Heap) (locs : List Loc) (ls : Array Slot), decode cJ7_fill_53178 pc = .ok (.return_, 1) → va_P D vwCl (w_arr ky a0 nn res) H → va_D A (w_arr ky a0 nn res) → va_S A s.heap H locs → W p l e rm_J7_fill_53178 s m ([.ref a0, .int p1]).toArray below meth c H locs 0 0 (MQ below (va_Qv (S := Unit) (fun _ => True) (fun _ t => va_P D vwCl (w_arr ky a0 nn res) t.heap ∧ va_K D vwCl (tyW ky) t ∧ va_D A (w_arr ky a0 nn res)) A) ([.ref a0, .int p1]).toArray s 0 0 A) (F0 m pc ls []) := fun pc H locs ls hd hP hD hS => W.vret hx hb hr (fun t ht hW => ⟨⟨(), rfl, trivial, by rw [ht]; exact hP, va_K.moved hW.alike hK, hD⟩, hS.F ht⟩) hS.2.2 hd
  unfold f_J7_fill_53178 at hF
  refine lv_iconst (v := (0 : Int32)) hx hb dJ7_fill_53178_0 (by decide) ?_
  refine lv_istore_n (lv' := [(2, .int (0 : Int32)), (0, .ref a0), (1, .int p1)]) hx hb dJ7_fill_53178_1 rfl hl (by decide) rfl (fun ls hl => ?_)
  refine lv_aload_n hx hb dJ7_fill_53178_2 rfl (lv_at hl 1 rfl) ?_
  refine va_alen (v := (Int32.ofNat nn)) hx hb hK hP 0 0 rfl rfl rfl dJ7_fill_53178_3 ?_
  refine lv_istore_n (lv' := [(3, .int (Int32.ofNat nn)), (2, .int (0 : Int32)), (0, .ref a0), (1, .int p1)]) hx hb dJ7_fill_53178_4 rfl hl (by decide) rfl (fun ls hl => ?_)
  exact w_J7_fill_53178_5 N C res hQ p1 (Int32.ofNat nn) N (0 : Int32) f0 hF _ _ _ hP hD hS (lv_sub hl [2, 3, 1, 0] rfl)
theorem c_J7_fill_53178 (l : Launch) (D : va_G) (ky : Nat → ClassId) (a0 : Nat) (sz N : Nat) (nn : Nat) (f0 : Nat → Int32) (p1 : Int32) (f0' : Nat → Int32) (hF : f_J7_fill_53178 N p1 nn f0 = some (f0')) : MV l yJ7_fill_53178 wsJ7_fill_53178 rm_J7_fill_53178 D ky sz [.ref a0, .int p1] (w_arr ky a0 nn f0) (w_arr ky a0 nn f0') :=
  cr_J7_fill_53178 l D ky a0 sz N nn f0 p1 (f0') hF
abbrev rm_X3_is : Room := { frames := 0, cells := 0, slots := 0, locals := 0 }
set_option maxHeartbeats 4000000 in
set_option maxRecDepth 100000 in
theorem cr_X3_is (l : Launch) (D : va_G) (ky : Nat → ClassId)  (sz N : Nat)   (p0 : Int32) (res : Int32) (hF : f_X3_is N p0 = some res) : MI l yX3_is wsX3_is rm_X3_is D ky sz [.int p0] [] [] res := by
  unfold MI
  refine Met.ofW (cc := cX3_is) (maxL := 1) (ret := (some .boolean)) (by decide) rfl ?_
  intro p e s m args below meth c s₁ B hml hv
  obtain ⟨rfl, hsz, hP, hK, hD0⟩ := hv
  have hx := B.exec
  have hb := B.bytes
  have hr := B.returns
  have hts := atoms_spec (ws := wsX3_is) B.pre
  have hown : s.vm.findClass RX3 = some m.cls := findClass_of_methodNamed B.named
  have hlocks := B.notSynchronized
  subst hsz
  have hD := hD0.self (sz := s.heap.size)
  generalize hAe : va_A [] s.heap.size = A at hD ⊢
  have hA : ∀ q : Nat, s.heap.size ≤ q → A q := fun q h => by rw [← hAe]; exact Or.inr h
  have hS : va_S A s.heap s.heap [] := va_S.rf
  have hP : va_P D vwCl [] s.heap := hP
  have hl := lv_entry ([.int p0]) (n := 1) (Nat.le_of_ble_eq_true rfl)
  rw [lg_entry_eq]
  generalize (lg_sl ([.int p0]) ++ List.replicate (1 - (lg_sl ([.int p0])).length) Slot.unset).toArray = ls at hl ⊢
  have hl : lv_has ls 1 [(0, .int p0)] := hl
  have C : cx p s m c ([.int p0]).toArray D ky A cX3_is 1 wsX3_is RX3 := ⟨hx, hb, hml, hown, hts, hK, hA⟩
  have hQ : ∀ (pc : Nat) (H : Heap) (locs : List Loc) (ls : Array Slot), decode cX3_is pc = .ok (.ireturn, 1) → (res = 0 ∨ res = 1) → va_P D vwCl [] H → va_D A [] → va_S A s.heap H locs → W p l e rm_X3_is s m ([.int p0]).toArray below meth c H locs 0 0 (MQ below (va_Qi (S := Unit) (fun r _ => r = res) (fun _ t => va_P D vwCl [] t.heap ∧ va_K D vwCl (tyW ky) t ∧ va_D A []) A) ([.int p0]).toArray s 0 0 A) (F0 m pc ls [.int res]) := fun pc H locs ls hd hz hP hD hS => W.zret hx hb hr (gz_n hz) (fun t ht hW => ⟨⟨res, (), rfl, rfl, by rw [ht]; exact hP, va_K.moved hW.alike hK, hD⟩, hS.F ht⟩) hS.2.2 hd
  unfold f_X3_is at hF
  refine lv_iload_n hx hb dX3_is_0 rfl (lv_at hl 0 rfl) ?_
  refine lv_if_lt (tgt := 15) hx hb dX3_is_1 (by decide) (fun c1 => ?_) (fun c1 => ?_)
  · have hF := if_t c1 hF
    refine lv_iconst (v := (0 : Int32)) hx hb dX3_is_15 (by decide) ?_
    have hF := Option.some.inj hF
    subst hF
    exact hQ _ _ _ _ dX3_is_16 (Or.inl rfl) hP hD hS
  · have hF := if_f c1 hF
    refine lv_iload_n hx hb dX3_is_4 rfl (lv_at hl 0 rfl) ?_
    refine lv_sipush (v := (289 : Int32)) hx hb dX3_is_5 (by decide) ?_
    refine lv_icmp_ge (tgt := 15) hx hb dX3_is_8 (by decide) (fun c2 => ?_) (fun c2 => ?_)
    · have hF := if_t c2 hF
      refine lv_iconst (v := (0 : Int32)) hx hb dX3_is_15 (by decide) ?_
      have hF := Option.some.inj hF
      subst hF
      exact hQ _ _ _ _ dX3_is_16 (Or.inl rfl) hP hD hS
    · have hF := if_f c2 hF
      refine lv_iconst (v := (1 : Int32)) hx hb dX3_is_11 (by decide) ?_
      refine lv_goto (tgt := 16) hx hb dX3_is_12 (by decide) ?_
      have hF := Option.some.inj hF
      subst hF
      exact hQ _ _ _ _ dX3_is_16 (Or.inr rfl) hP hD hS
theorem c_X3_is (l : Launch) (D : va_G) (ky : Nat → ClassId)  (sz N : Nat)   (p0 : Int32) (rv : Int32) (hF : f_X3_is N p0 = some (rv)) : MI l yX3_is wsX3_is rm_X3_is D ky sz [.int p0] [] [] rv :=
  cr_X3_is l D ky  sz N p0 (rv) hF
abbrev rm_X3_number : Room := { frames := 0, cells := 0, slots := 0, locals := 0 }
set_option maxHeartbeats 4000000 in
set_option maxRecDepth 100000 in
theorem cr_X3_number (l : Launch) (D : va_G) (ky : Nat → ClassId)  (sz N : Nat)   (p0 : Int32) (p1 : Int32) (res : Int32) (hF : f_X3_number N p0 p1 = some res) : MI l yX3_number wsX3_number rm_X3_number D ky sz [.int p0, .int p1] [] [] res := by
  unfold MI
  refine Met.ofW (cc := cX3_number) (maxL := 2) (ret := (some .int)) (by decide) rfl ?_
  intro p e s m args below meth c s₁ B hml hv
  obtain ⟨rfl, hsz, hP, hK, hD0⟩ := hv
  have hx := B.exec
  have hb := B.bytes
  have hr := B.returns
  have hts := atoms_spec (ws := wsX3_number) B.pre
  have hown : s.vm.findClass RX3 = some m.cls := findClass_of_methodNamed B.named
  have hlocks := B.notSynchronized
  subst hsz
  have hD := hD0.self (sz := s.heap.size)
  generalize hAe : va_A [] s.heap.size = A at hD ⊢
  have hA : ∀ q : Nat, s.heap.size ≤ q → A q := fun q h => by rw [← hAe]; exact Or.inr h
  have hS : va_S A s.heap s.heap [] := va_S.rf
  have hP : va_P D vwCl [] s.heap := hP
  have hl := lv_entry ([.int p0, .int p1]) (n := 2) (Nat.le_of_ble_eq_true rfl)
  rw [lg_entry_eq]
  generalize (lg_sl ([.int p0, .int p1]) ++ List.replicate (2 - (lg_sl ([.int p0, .int p1])).length) Slot.unset).toArray = ls at hl ⊢
  have hl : lv_has ls 2 [(0, .int p0), (1, .int p1)] := hl
  have C : cx p s m c ([.int p0, .int p1]).toArray D ky A cX3_number 2 wsX3_number RX3 := ⟨hx, hb, hml, hown, hts, hK, hA⟩
  have hQ : ∀ (pc : Nat) (H : Heap) (locs : List Loc) (ls : Array Slot), decode cX3_number pc = .ok (.ireturn, 1) → va_P D vwCl [] H → va_D A [] → va_S A s.heap H locs → W p l e rm_X3_number s m ([.int p0, .int p1]).toArray below meth c H locs 0 0 (MQ below (va_Qi (S := Unit) (fun r _ => r = res) (fun _ t => va_P D vwCl [] t.heap ∧ va_K D vwCl (tyW ky) t ∧ va_D A []) A) ([.int p0, .int p1]).toArray s 0 0 A) (F0 m pc ls [.int res]) := fun pc H locs ls hd hP hD hS => W.iret hx hb hr (fun t ht hW => ⟨⟨res, (), rfl, rfl, by rw [ht]; exact hP, va_K.moved hW.alike hK, hD⟩, hS.F ht⟩) hS.2.2 hd
  unfold f_X3_number at hF
  refine lv_bipush (v := (17 : Int32)) hx hb dX3_number_0 (by decide) ?_
  refine lv_iload_n hx hb dX3_number_2 rfl (lv_at hl 0 rfl) ?_
  refine lv_bipush (v := (8 : Int32)) hx hb dX3_number_3 (by decide) ?_
  refine lv_iadd hx hb dX3_number_5 ?_
  refine lv_imul hx hb dX3_number_6 ?_
  refine lv_iload_n hx hb dX3_number_7 rfl (lv_at hl 1 rfl) ?_
  refine lv_iadd hx hb dX3_number_8 ?_
  refine lv_bipush (v := (8 : Int32)) hx hb dX3_number_9 (by decide) ?_
  refine lv_iadd hx hb dX3_number_11 ?_
  have hF := Option.some.inj hF
  subst hF
  exact hQ _ _ _ _ dX3_number_12 hP hD hS
theorem c_X3_number (l : Launch) (D : va_G) (ky : Nat → ClassId)  (sz N : Nat)   (p0 : Int32) (p1 : Int32) (rv : Int32) (hF : f_X3_number N p0 p1 = some (rv)) : MI l yX3_number wsX3_number rm_X3_number D ky sz [.int p0, .int p1] [] [] rv :=
  cr_X3_number l D ky  sz N p0 p1 (rv) hF
abbrev rm_X3_partOfState : Room := { frames := 0, cells := 0, slots := 0, locals := 0 }
set_option maxHeartbeats 4000000 in
set_option maxRecDepth 100000 in
theorem cr_X3_partOfState (l : Launch) (D : va_G) (ky : Nat → ClassId)  (sz N : Nat)   (p0 : Int32) (res : Int32) (hF : f_X3_partOfState N p0 = some res) : MI l yX3_partOfState wsX3_partOfState rm_X3_partOfState D ky sz [.int p0] [] [] res := by
  unfold MI
  refine Met.ofW (cc := cX3_partOfState) (maxL := 1) (ret := (some .int)) (by decide) rfl ?_
  intro p e s m args below meth c s₁ B hml hv
  obtain ⟨rfl, hsz, hP, hK, hD0⟩ := hv
  have hx := B.exec
  have hb := B.bytes
  have hr := B.returns
  have hts := atoms_spec (ws := wsX3_partOfState) B.pre
  have hown : s.vm.findClass RX3 = some m.cls := findClass_of_methodNamed B.named
  have hlocks := B.notSynchronized
  subst hsz
  have hD := hD0.self (sz := s.heap.size)
  generalize hAe : va_A [] s.heap.size = A at hD ⊢
  have hA : ∀ q : Nat, s.heap.size ≤ q → A q := fun q h => by rw [← hAe]; exact Or.inr h
  have hS : va_S A s.heap s.heap [] := va_S.rf
  have hP : va_P D vwCl [] s.heap := hP
  have hl := lv_entry ([.int p0]) (n := 1) (Nat.le_of_ble_eq_true rfl)
  rw [lg_entry_eq]
  generalize (lg_sl ([.int p0]) ++ List.replicate (1 - (lg_sl ([.int p0])).length) Slot.unset).toArray = ls at hl ⊢
  have hl : lv_has ls 1 [(0, .int p0)] := hl
  have C : cx p s m c ([.int p0]).toArray D ky A cX3_partOfState 1 wsX3_partOfState RX3 := ⟨hx, hb, hml, hown, hts, hK, hA⟩
  have hQ : ∀ (pc : Nat) (H : Heap) (locs : List Loc) (ls : Array Slot), decode cX3_partOfState pc = .ok (.ireturn, 1) → va_P D vwCl [] H → va_D A [] → va_S A s.heap H locs → W p l e rm_X3_partOfState s m ([.int p0]).toArray below meth c H locs 0 0 (MQ below (va_Qi (S := Unit) (fun r _ => r = res) (fun _ t => va_P D vwCl [] t.heap ∧ va_K D vwCl (tyW ky) t ∧ va_D A []) A) ([.int p0]).toArray s 0 0 A) (F0 m pc ls [.int res]) := fun pc H locs ls hd hP hD hS => W.iret hx hb hr (fun t ht hW => ⟨⟨res, (), rfl, rfl, by rw [ht]; exact hP, va_K.moved hW.alike hK, hD⟩, hS.F ht⟩) hS.2.2 hd
  unfold f_X3_partOfState at hF
  refine lv_iload_n hx hb dX3_partOfState_0 rfl (lv_at hl 0 rfl) ?_
  refine lv_bipush (v := (17 : Int32)) hx hb dX3_partOfState_1 (by decide) ?_
  refine lv_idiv hx hb dX3_partOfState_3 (by decide) ?_
  refine lv_bipush (v := (8 : Int32)) hx hb dX3_partOfState_4 (by decide) ?_
  refine lv_isub hx hb dX3_partOfState_6 ?_
  have hF := Option.some.inj hF
  subst hF
  exact hQ _ _ _ _ dX3_partOfState_7 hP hD hS
theorem c_X3_partOfState (l : Launch) (D : va_G) (ky : Nat → ClassId)  (sz N : Nat)   (p0 : Int32) (rv : Int32) (hF : f_X3_partOfState N p0 = some (rv)) : MI l yX3_partOfState wsX3_partOfState rm_X3_partOfState D ky sz [.int p0] [] [] rv :=
  cr_X3_partOfState l D ky  sz N p0 (rv) hF
abbrev rm_X3_partOfPush : Room := { frames := 0, cells := 0, slots := 0, locals := 0 }
set_option maxHeartbeats 4000000 in
set_option maxRecDepth 100000 in
theorem cr_X3_partOfPush (l : Launch) (D : va_G) (ky : Nat → ClassId)  (sz N : Nat)   (p0 : Int32) (res : Int32) (hF : f_X3_partOfPush N p0 = some res) : MI l yX3_partOfPush wsX3_partOfPush rm_X3_partOfPush D ky sz [.int p0] [] [] res := by
  unfold MI
  refine Met.ofW (cc := cX3_partOfPush) (maxL := 1) (ret := (some .int)) (by decide) rfl ?_
  intro p e s m args below meth c s₁ B hml hv
  obtain ⟨rfl, hsz, hP, hK, hD0⟩ := hv
  have hx := B.exec
  have hb := B.bytes
  have hr := B.returns
  have hts := atoms_spec (ws := wsX3_partOfPush) B.pre
  have hown : s.vm.findClass RX3 = some m.cls := findClass_of_methodNamed B.named
  have hlocks := B.notSynchronized
  subst hsz
  have hD := hD0.self (sz := s.heap.size)
  generalize hAe : va_A [] s.heap.size = A at hD ⊢
  have hA : ∀ q : Nat, s.heap.size ≤ q → A q := fun q h => by rw [← hAe]; exact Or.inr h
  have hS : va_S A s.heap s.heap [] := va_S.rf
  have hP : va_P D vwCl [] s.heap := hP
  have hl := lv_entry ([.int p0]) (n := 1) (Nat.le_of_ble_eq_true rfl)
  rw [lg_entry_eq]
  generalize (lg_sl ([.int p0]) ++ List.replicate (1 - (lg_sl ([.int p0])).length) Slot.unset).toArray = ls at hl ⊢
  have hl : lv_has ls 1 [(0, .int p0)] := hl
  have C : cx p s m c ([.int p0]).toArray D ky A cX3_partOfPush 1 wsX3_partOfPush RX3 := ⟨hx, hb, hml, hown, hts, hK, hA⟩
  have hQ : ∀ (pc : Nat) (H : Heap) (locs : List Loc) (ls : Array Slot), decode cX3_partOfPush pc = .ok (.ireturn, 1) → va_P D vwCl [] H → va_D A [] → va_S A s.heap H locs → W p l e rm_X3_partOfPush s m ([.int p0]).toArray below meth c H locs 0 0 (MQ below (va_Qi (S := Unit) (fun r _ => r = res) (fun _ t => va_P D vwCl [] t.heap ∧ va_K D vwCl (tyW ky) t ∧ va_D A []) A) ([.int p0]).toArray s 0 0 A) (F0 m pc ls [.int res]) := fun pc H locs ls hd hP hD hS => W.iret hx hb hr (fun t ht hW => ⟨⟨res, (), rfl, rfl, by rw [ht]; exact hP, va_K.moved hW.alike hK, hD⟩, hS.F ht⟩) hS.2.2 hd
  unfold f_X3_partOfPush at hF
  refine lv_iload_n hx hb dX3_partOfPush_0 rfl (lv_at hl 0 rfl) ?_
  refine lv_bipush (v := (17 : Int32)) hx hb dX3_partOfPush_1 (by decide) ?_
  refine lv_irem hx hb dX3_partOfPush_3 (by decide) ?_
  refine lv_bipush (v := (8 : Int32)) hx hb dX3_partOfPush_4 (by decide) ?_
  refine lv_isub hx hb dX3_partOfPush_6 ?_
  have hF := Option.some.inj hF
  subst hF
  exact hQ _ _ _ _ dX3_partOfPush_7 hP hD hS
theorem c_X3_partOfPush (l : Launch) (D : va_G) (ky : Nat → ClassId)  (sz N : Nat)   (p0 : Int32) (rv : Int32) (hF : f_X3_partOfPush N p0 = some (rv)) : MI l yX3_partOfPush wsX3_partOfPush rm_X3_partOfPush D ky sz [.int p0] [] [] rv :=
  cr_X3_partOfPush l D ky  sz N p0 (rv) hF
abbrev rm_X3_sum : Room := { frames := 1, cells := 0, slots := 0, locals := 20 }
set_option maxHeartbeats 4000000 in
set_option maxRecDepth 100000 in
theorem cr_X3_sum (l : Launch) (D : va_G) (ky : Nat → ClassId)  (sz N : Nat)   (p0 : Int32) (p1 : Int32) (p2 : Int32) (res : Int32) (hF : f_X3_sum N p0 p1 p2 = some res) : MI l yX3_sum wsX3_sum rm_X3_sum D ky sz [.int p0, .int p1, .int p2] [] [] res := by
  unfold MI
  refine Met.ofW (cc := cX3_sum) (maxL := 3) (ret := (some .int)) (by decide) rfl ?_
  intro p e s m args below meth c s₁ B hml hv
  obtain ⟨rfl, hsz, hP, hK, hD0⟩ := hv
  have hx := B.exec
  have hb := B.bytes
  have hr := B.returns
  have hts := atoms_spec (ws := wsX3_sum) B.pre
  have hown : s.vm.findClass RX3 = some m.cls := findClass_of_methodNamed B.named
  have hlocks := B.notSynchronized
  subst hsz
  have hD := hD0.self (sz := s.heap.size)
  generalize hAe : va_A [] s.heap.size = A at hD ⊢
  have hA : ∀ q : Nat, s.heap.size ≤ q → A q := fun q h => by rw [← hAe]; exact Or.inr h
  have hS : va_S A s.heap s.heap [] := va_S.rf
  have hP : va_P D vwCl [] s.heap := hP
  have hl := lv_entry ([.int p0, .int p1, .int p2]) (n := 3) (Nat.le_of_ble_eq_true rfl)
  rw [lg_entry_eq]
  generalize (lg_sl ([.int p0, .int p1, .int p2]) ++ List.replicate (3 - (lg_sl ([.int p0, .int p1, .int p2])).length) Slot.unset).toArray = ls at hl ⊢
  have hl : lv_has ls 3 [(0, .int p0), (1, .int p1), (2, .int p2)] := hl
  have C : cx p s m c ([.int p0, .int p1, .int p2]).toArray D ky A cX3_sum 3 wsX3_sum RX3 := ⟨hx, hb, hml, hown, hts, hK, hA⟩
  have hQ : ∀ (pc : Nat) (H : Heap) (locs : List Loc) (ls : Array Slot), decode cX3_sum pc = .ok (.ireturn, 1) → va_P D vwCl [] H → va_D A [] → va_S A s.heap H locs → W p l e rm_X3_sum s m ([.int p0, .int p1, .int p2]).toArray below meth c H locs 0 0 (MQ below (va_Qi (S := Unit) (fun r _ => r = res) (fun _ t => va_P D vwCl [] t.heap ∧ va_K D vwCl (tyW ky) t ∧ va_D A []) A) ([.int p0, .int p1, .int p2]).toArray s 0 0 A) (F0 m pc ls [.int res]) := fun pc H locs ls hd hP hD hS => W.iret hx hb hr (fun t ht hW => ⟨⟨res, (), rfl, rfl, by rw [ht]; exact hP, va_K.moved hW.alike hK, hD⟩, hS.F ht⟩) hS.2.2 hd
  unfold f_X3_sum at hF
  refine lv_iload_n hx hb dX3_sum_0 rfl (lv_at hl 0 rfl) ?_
  obtain ⟨r2, h1, hF⟩ := b1_s hF
  refine cl_si (As := [.int p0]) (rest := []) ⟨hx, hb, hml, hown, hts⟩ hK hP hD hS hA (c_X3_partOfState l D ky  _ N   p0 r2 h1) (va_cwS 1 hts gX3_sum_X3_partOfState rfl rfl rfl (by decide +kernel) ⟨Nat.le_of_ble_eq_true rfl, Nat.le_of_ble_eq_true rfl⟩) rfl hl.1 (Nat.le_of_ble_eq_true rfl) dX3_sum_1 ⟨Nat.zero_le _, Nat.zero_le _⟩ (fun H locs hP hD hS => ?_)
  refine lv_iload_n hx hb dX3_sum_4 rfl (lv_at hl 1 rfl) ?_
  refine lv_imul hx hb dX3_sum_5 ?_
  refine lv_iload_n hx hb dX3_sum_6 rfl (lv_at hl 0 rfl) ?_
  obtain ⟨r4, h3, hF⟩ := b1_s hF
  refine cl_si (As := [.int p0]) (rest := [.int (r2 * p1)]) ⟨hx, hb, hml, hown, hts⟩ hK hP hD hS hA (c_X3_partOfPush l D ky  _ N   p0 r4 h3) (va_cwS 1 hts gX3_sum_X3_partOfPush rfl rfl rfl (by decide +kernel) ⟨Nat.le_of_ble_eq_true rfl, Nat.le_of_ble_eq_true rfl⟩) rfl hl.1 (Nat.le_of_ble_eq_true rfl) dX3_sum_7 ⟨Nat.zero_le _, Nat.zero_le _⟩ (fun H locs hP hD hS => ?_)
  refine lv_iload_n hx hb dX3_sum_10 rfl (lv_at hl 2 rfl) ?_
  refine lv_imul hx hb dX3_sum_11 ?_
  refine lv_iadd hx hb dX3_sum_12 ?_
  have hF := Option.some.inj hF
  subst hF
  exact hQ _ _ _ _ dX3_sum_13 hP hD hS
theorem c_X3_sum (l : Launch) (D : va_G) (ky : Nat → ClassId)  (sz N : Nat)   (p0 : Int32) (p1 : Int32) (p2 : Int32) (rv : Int32) (hF : f_X3_sum N p0 p1 p2 = some (rv)) : MI l yX3_sum wsX3_sum rm_X3_sum D ky sz [.int p0, .int p1, .int p2] [] [] rv :=
  cr_X3_sum l D ky  sz N p0 p1 p2 (rv) hF
abbrev rm_X3_isMet : Room := { frames := 1, cells := 0, slots := 0, locals := 21 }
theorem kX3_isMet_0 : (Cond.methodLink RX3 18 Lib.Math.abs.name) ∈ wsX3_isMet := by decide +kernel
theorem kX3_isMet_1 : (Cond.static Lib.Math.abs.name) ∈ wsX3_isMet := by decide +kernel
theorem kX3_isMet_2 : (Cond.initialized "java/lang/Math") ∈ wsX3_isMet := by decide +kernel
theorem kX3_isMet_3 : (Cond.code Lib.Math.abs.name Lib.Math.abs.code 1 (some .int)) ∈ wsX3_isMet := by decide +kernel
set_option maxHeartbeats 4000000 in
set_option maxRecDepth 100000 in
theorem cr_X3_isMet (l : Launch) (D : va_G) (ky : Nat → ClassId)  (sz N : Nat)   (p0 : Int32) (p1 : Int32) (p2 : Int32) (res : Int32) (hF : f_X3_isMet N p0 p1 p2 = some res) : MI l yX3_isMet wsX3_isMet rm_X3_isMet D ky sz [.int p0, .int p1, .int p2] [] [] res := by
  unfold MI
  refine Met.ofW (cc := cX3_isMet) (maxL := 3) (ret := (some .boolean)) (by decide) rfl ?_
  intro p e s m args below meth c s₁ B hml hv
  obtain ⟨rfl, hsz, hP, hK, hD0⟩ := hv
  have hx := B.exec
  have hb := B.bytes
  have hr := B.returns
  have hts := atoms_spec (ws := wsX3_isMet) B.pre
  have hown : s.vm.findClass RX3 = some m.cls := findClass_of_methodNamed B.named
  have hlocks := B.notSynchronized
  subst hsz
  have hD := hD0.self (sz := s.heap.size)
  generalize hAe : va_A [] s.heap.size = A at hD ⊢
  have hA : ∀ q : Nat, s.heap.size ≤ q → A q := fun q h => by rw [← hAe]; exact Or.inr h
  have hS : va_S A s.heap s.heap [] := va_S.rf
  have hP : va_P D vwCl [] s.heap := hP
  have hl := lv_entry ([.int p0, .int p1, .int p2]) (n := 3) (Nat.le_of_ble_eq_true rfl)
  rw [lg_entry_eq]
  generalize (lg_sl ([.int p0, .int p1, .int p2]) ++ List.replicate (3 - (lg_sl ([.int p0, .int p1, .int p2])).length) Slot.unset).toArray = ls at hl ⊢
  have hl : lv_has ls 3 [(0, .int p0), (1, .int p1), (2, .int p2)] := hl
  have C : cx p s m c ([.int p0, .int p1, .int p2]).toArray D ky A cX3_isMet 3 wsX3_isMet RX3 := ⟨hx, hb, hml, hown, hts, hK, hA⟩
  have hQ : ∀ (pc : Nat) (H : Heap) (locs : List Loc) (ls : Array Slot), decode cX3_isMet pc = .ok (.ireturn, 1) → (res = 0 ∨ res = 1) → va_P D vwCl [] H → va_D A [] → va_S A s.heap H locs → W p l e rm_X3_isMet s m ([.int p0, .int p1, .int p2]).toArray below meth c H locs 0 0 (MQ below (va_Qi (S := Unit) (fun r _ => r = res) (fun _ t => va_P D vwCl [] t.heap ∧ va_K D vwCl (tyW ky) t ∧ va_D A []) A) ([.int p0, .int p1, .int p2]).toArray s 0 0 A) (F0 m pc ls [.int res]) := fun pc H locs ls hd hz hP hD hS => W.zret hx hb hr (gz_n hz) (fun t ht hW => ⟨⟨res, (), rfl, rfl, by rw [ht]; exact hP, va_K.moved hW.alike hK, hD⟩, hS.F ht⟩) hS.2.2 hd
  unfold f_X3_isMet at hF
  refine lv_iconst (v := (4 : Int32)) hx hb dX3_isMet_0 (by decide) ?_
  refine lv_iload_n hx hb dX3_isMet_1 rfl (lv_at hl 1 rfl) ?_
  refine lv_imul hx hb dX3_isMet_2 ?_
  refine lv_iload_n hx hb dX3_isMet_3 rfl (lv_at hl 0 rfl) ?_
  refine lv_isub hx hb dX3_isMet_4 ?_
  refine va_mabs hx hb (hml.trans hl.1.symm) hown (hts _ kX3_isMet_0) (hts _ kX3_isMet_1) (hts _ kX3_isMet_2) (hts _ kX3_isMet_3) (Nat.le_of_ble_eq_true rfl) (Nat.le_of_ble_eq_true rfl) (Nat.zero_le _) (Nat.zero_le _) dX3_isMet_5 ?_
  refine lv_iconst (v := (4 : Int32)) hx hb dX3_isMet_8 (by decide) ?_
  refine lv_iload_n hx hb dX3_isMet_9 rfl (lv_at hl 2 rfl) ?_
  refine lv_imul hx hb dX3_isMet_10 ?_
  refine lv_icmp_gt (tgt := 18) hx hb dX3_isMet_11 (by decide) (fun c1 => ?_) (fun c1 => ?_)
  · have hF := if_t c1 hF
    refine lv_iconst (v := (0 : Int32)) hx hb dX3_isMet_18 (by decide) ?_
    have hF := Option.some.inj hF
    subst hF
    exact hQ _ _ _ _ dX3_isMet_19 (Or.inl rfl) hP hD hS
  · have hF := if_f c1 hF
    refine lv_iconst (v := (1 : Int32)) hx hb dX3_isMet_14 (by decide) ?_
    refine lv_goto (tgt := 19) hx hb dX3_isMet_15 (by decide) ?_
    have hF := Option.some.inj hF
    subst hF
    exact hQ _ _ _ _ dX3_isMet_19 (Or.inr rfl) hP hD hS
theorem c_X3_isMet (l : Launch) (D : va_G) (ky : Nat → ClassId)  (sz N : Nat)   (p0 : Int32) (p1 : Int32) (p2 : Int32) (rv : Int32) (hF : f_X3_isMet N p0 p1 p2 = some (rv)) : MI l yX3_isMet wsX3_isMet rm_X3_isMet D ky sz [.int p0, .int p1, .int p2] [] [] rv :=
  cr_X3_isMet l D ky  sz N p0 p1 p2 (rv) hF
abbrev rm_X3_leastEnd : Room := { frames := 1, cells := 0, slots := 0, locals := 22 }
set_option maxHeartbeats 4000000 in
set_option maxRecDepth 100000 in
theorem cr_X3_leastEnd (l : Launch) (D : va_G) (ky : Nat → ClassId)  (sz N : Nat)   (p0 : Int32) (p1 : Int32) (res : Int32) (hF : f_X3_leastEnd N p0 p1 = some res) : MI l yX3_leastEnd wsX3_leastEnd rm_X3_leastEnd D ky sz [.int p0, .int p1] [] [] res := by
  unfold MI
  refine Met.ofW (cc := cX3_leastEnd) (maxL := 2) (ret := (some .int)) (by decide) rfl ?_
  intro p e s m args below meth c s₁ B hml hv
  obtain ⟨rfl, hsz, hP, hK, hD0⟩ := hv
  have hx := B.exec
  have hb := B.bytes
  have hr := B.returns
  have hts := atoms_spec (ws := wsX3_leastEnd) B.pre
  have hown : s.vm.findClass RX3 = some m.cls := findClass_of_methodNamed B.named
  have hlocks := B.notSynchronized
  subst hsz
  have hD := hD0.self (sz := s.heap.size)
  generalize hAe : va_A [] s.heap.size = A at hD ⊢
  have hA : ∀ q : Nat, s.heap.size ≤ q → A q := fun q h => by rw [← hAe]; exact Or.inr h
  have hS : va_S A s.heap s.heap [] := va_S.rf
  have hP : va_P D vwCl [] s.heap := hP
  have hl := lv_entry ([.int p0, .int p1]) (n := 2) (Nat.le_of_ble_eq_true rfl)
  rw [lg_entry_eq]
  generalize (lg_sl ([.int p0, .int p1]) ++ List.replicate (2 - (lg_sl ([.int p0, .int p1])).length) Slot.unset).toArray = ls at hl ⊢
  have hl : lv_has ls 2 [(0, .int p0), (1, .int p1)] := hl
  have C : cx p s m c ([.int p0, .int p1]).toArray D ky A cX3_leastEnd 2 wsX3_leastEnd RX3 := ⟨hx, hb, hml, hown, hts, hK, hA⟩
  have hQ : ∀ (pc : Nat) (H : Heap) (locs : List Loc) (ls : Array Slot), decode cX3_leastEnd pc = .ok (.ireturn, 1) → va_P D vwCl [] H → va_D A [] → va_S A s.heap H locs → W p l e rm_X3_leastEnd s m ([.int p0, .int p1]).toArray below meth c H locs 0 0 (MQ below (va_Qi (S := Unit) (fun r _ => r = res) (fun _ t => va_P D vwCl [] t.heap ∧ va_K D vwCl (tyW ky) t ∧ va_D A []) A) ([.int p0, .int p1]).toArray s 0 0 A) (F0 m pc ls [.int res]) := fun pc H locs ls hd hP hD hS => W.iret hx hb hr (fun t ht hW => ⟨⟨res, (), rfl, rfl, by rw [ht]; exact hP, va_K.moved hW.alike hK, hD⟩, hS.F ht⟩) hS.2.2 hd
  unfold f_X3_leastEnd at hF
  refine lv_iload_n hx hb dX3_leastEnd_0 rfl (lv_at hl 0 rfl) ?_
  refine lv_ineg hx hb dX3_leastEnd_1 ?_
  refine lv_iconst (v := (4 : Int32)) hx hb dX3_leastEnd_2 (by decide) ?_
  obtain ⟨r2, h1, hF⟩ := b1_s hF
  refine cl_si (As := [.int (-p0), .int (4 : Int32)]) (rest := []) ⟨hx, hb, hml, hown, hts⟩ hK hP hD hS hA (c_J9_floorDiv_7cf53 l D ky  _ N   (-p0) (4 : Int32) r2 h1) (va_cwS 2 hts gX3_leastEnd_J9_floorDiv_7cf53 rfl rfl rfl (by decide +kernel) ⟨Nat.le_of_ble_eq_true rfl, Nat.le_of_ble_eq_true rfl⟩) rfl hl.1 (Nat.le_of_ble_eq_true rfl) dX3_leastEnd_3 ⟨Nat.zero_le _, Nat.zero_le _⟩ (fun H locs hP hD hS => ?_)
  refine lv_ineg hx hb dX3_leastEnd_6 ?_
  refine lv_iload_n hx hb dX3_leastEnd_7 rfl (lv_at hl 1 rfl) ?_
  refine lv_isub hx hb dX3_leastEnd_8 ?_
  have hF := Option.some.inj hF
  subst hF
  exact hQ _ _ _ _ dX3_leastEnd_9 hP hD hS
theorem c_X3_leastEnd (l : Launch) (D : va_G) (ky : Nat → ClassId)  (sz N : Nat)   (p0 : Int32) (p1 : Int32) (rv : Int32) (hF : f_X3_leastEnd N p0 p1 = some (rv)) : MI l yX3_leastEnd wsX3_leastEnd rm_X3_leastEnd D ky sz [.int p0, .int p1] [] [] rv :=
  cr_X3_leastEnd l D ky  sz N p0 p1 (rv) hF
abbrev rm_X3_greatestEnd : Room := { frames := 1, cells := 0, slots := 0, locals := 22 }
set_option maxHeartbeats 4000000 in
set_option maxRecDepth 100000 in
theorem cr_X3_greatestEnd (l : Launch) (D : va_G) (ky : Nat → ClassId)  (sz N : Nat)   (p0 : Int32) (p1 : Int32) (res : Int32) (hF : f_X3_greatestEnd N p0 p1 = some res) : MI l yX3_greatestEnd wsX3_greatestEnd rm_X3_greatestEnd D ky sz [.int p0, .int p1] [] [] res := by
  unfold MI
  refine Met.ofW (cc := cX3_greatestEnd) (maxL := 2) (ret := (some .int)) (by decide) rfl ?_
  intro p e s m args below meth c s₁ B hml hv
  obtain ⟨rfl, hsz, hP, hK, hD0⟩ := hv
  have hx := B.exec
  have hb := B.bytes
  have hr := B.returns
  have hts := atoms_spec (ws := wsX3_greatestEnd) B.pre
  have hown : s.vm.findClass RX3 = some m.cls := findClass_of_methodNamed B.named
  have hlocks := B.notSynchronized
  subst hsz
  have hD := hD0.self (sz := s.heap.size)
  generalize hAe : va_A [] s.heap.size = A at hD ⊢
  have hA : ∀ q : Nat, s.heap.size ≤ q → A q := fun q h => by rw [← hAe]; exact Or.inr h
  have hS : va_S A s.heap s.heap [] := va_S.rf
  have hP : va_P D vwCl [] s.heap := hP
  have hl := lv_entry ([.int p0, .int p1]) (n := 2) (Nat.le_of_ble_eq_true rfl)
  rw [lg_entry_eq]
  generalize (lg_sl ([.int p0, .int p1]) ++ List.replicate (2 - (lg_sl ([.int p0, .int p1])).length) Slot.unset).toArray = ls at hl ⊢
  have hl : lv_has ls 2 [(0, .int p0), (1, .int p1)] := hl
  have C : cx p s m c ([.int p0, .int p1]).toArray D ky A cX3_greatestEnd 2 wsX3_greatestEnd RX3 := ⟨hx, hb, hml, hown, hts, hK, hA⟩
  have hQ : ∀ (pc : Nat) (H : Heap) (locs : List Loc) (ls : Array Slot), decode cX3_greatestEnd pc = .ok (.ireturn, 1) → va_P D vwCl [] H → va_D A [] → va_S A s.heap H locs → W p l e rm_X3_greatestEnd s m ([.int p0, .int p1]).toArray below meth c H locs 0 0 (MQ below (va_Qi (S := Unit) (fun r _ => r = res) (fun _ t => va_P D vwCl [] t.heap ∧ va_K D vwCl (tyW ky) t ∧ va_D A []) A) ([.int p0, .int p1]).toArray s 0 0 A) (F0 m pc ls [.int res]) := fun pc H locs ls hd hP hD hS => W.iret hx hb hr (fun t ht hW => ⟨⟨res, (), rfl, rfl, by rw [ht]; exact hP, va_K.moved hW.alike hK, hD⟩, hS.F ht⟩) hS.2.2 hd
  unfold f_X3_greatestEnd at hF
  refine lv_iload_n hx hb dX3_greatestEnd_0 rfl (lv_at hl 0 rfl) ?_
  refine lv_iconst (v := (4 : Int32)) hx hb dX3_greatestEnd_1 (by decide) ?_
  obtain ⟨r2, h1, hF⟩ := b1_s hF
  refine cl_si (As := [.int p0, .int (4 : Int32)]) (rest := []) ⟨hx, hb, hml, hown, hts⟩ hK hP hD hS hA (c_J9_floorDiv_7cf53 l D ky  _ N   p0 (4 : Int32) r2 h1) (va_cwS 2 hts gX3_greatestEnd_J9_floorDiv_7cf53 rfl rfl rfl (by decide +kernel) ⟨Nat.le_of_ble_eq_true rfl, Nat.le_of_ble_eq_true rfl⟩) rfl hl.1 (Nat.le_of_ble_eq_true rfl) dX3_greatestEnd_2 ⟨Nat.zero_le _, Nat.zero_le _⟩ (fun H locs hP hD hS => ?_)
  refine lv_iload_n hx hb dX3_greatestEnd_5 rfl (lv_at hl 1 rfl) ?_
  refine lv_iadd hx hb dX3_greatestEnd_6 ?_
  have hF := Option.some.inj hF
  subst hF
  exact hQ _ _ _ _ dX3_greatestEnd_7 hP hD hS
theorem c_X3_greatestEnd (l : Launch) (D : va_G) (ky : Nat → ClassId)  (sz N : Nat)   (p0 : Int32) (p1 : Int32) (rv : Int32) (hF : f_X3_greatestEnd N p0 p1 = some (rv)) : MI l yX3_greatestEnd wsX3_greatestEnd rm_X3_greatestEnd D ky sz [.int p0, .int p1] [] [] rv :=
  cr_X3_greatestEnd l D ky  sz N p0 p1 (rv) hF
