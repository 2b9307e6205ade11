def f_X5_become (N : Nat) (p0 : Int32) (p1 : Int32) (sit : Nat → Int32) : Option (Int32 × Int32 × (Nat → Int32)) :=
  nm (if (0 : Int32) < (if (36 : Int32) < p1 then (36 : Int32) else p1) then (if (36 : Int32) < p1 then (36 : Int32) else p1) else (0 : Int32)) (fun v1 => b1 (f_J7_fill_53178 N (0 : Int32) 36 sit) (fun v3 => some (p0, v1, v3)))
def f_X5_empty (N : Nat) (ssz : Int32) : Option (Int32 × Int32 × Int32) :=
  some (ssz, (-1 : Int32), (0 : Int32))
def f_X5_isNothing (N : Nat) (sla : Int32) : Option (Int32) :=
  (if sla = (-1 : Int32) then some ((1 : Int32)) else some ((0 : Int32)))
def f_X5_laneNow (N : Nat) (sla : Int32) : Option (Int32) :=
  some (sla)
def f_X5_covers (N : Nat) (p0 : Int32) (p1 : Int32) (ssz : Int32) : Option (Int32) :=
  (if p0 < 0 then some ((0 : Int32)) else (if p1 < 0 then some ((0 : Int32)) else (if (ssz - p1) < p0 then some ((0 : Int32)) else some ((1 : Int32)))))
def f_X5_refusal (N : Nat) (p0 : Int32) (p1 : Int32) (p2 : Int32) (sla : Int32) (ssz : Int32) : Option (Int32) :=
  b1 (f_X5_isNothing N sla) (fun r2 => (if r2 = 0 then (if sla = p0 then b1 (f_X5_covers N p1 p2 ssz) (fun r6 => (if r6 = 0 then some ((-13 : Int32)) else some ((0 : Int32)))) else some ((-12 : Int32))) else some ((-11 : Int32))))
def f_X5_at (N : Nat) (p0 : Int32) (ssz : Int32) (sit : Nat → Int32) : Option (Int32) :=
  (if p0 < 0 then some ((0 : Int32)) else (if ssz ≤ p0 then some ((0 : Int32)) else (if (36 : Int32) ≤ p0 then some ((0 : Int32)) else gi p0 36 (some ((sit p0.toNatClampNeg))))))
def f_X5_put (N : Nat) (p0 : Int32) (p1 : Int32) (sla : Int32) (ssz : Int32) (sit : Nat → Int32) : Option ((Nat → Int32)) :=
  (if p0 < 0 then some (sit) else (if ssz ≤ p0 then some (sit) else (if (36 : Int32) ≤ p0 then some (sit) else (if sla = 0 then gi p0 36 (some ((upd sit p0.toNatClampNeg (p1.toInt8.toInt32)))) else (if sla = (1 : Int32) then gi p0 36 (some ((upd sit p0.toNatClampNeg (p1.toInt16.toInt32)))) else gi p0 36 (some ((upd sit p0.toNatClampNeg p1))))))))
def b_X5_allWithin_3 (N : Nat)  (l1 : Int32) (l2 : Int32) (l3 : Int32) (l4 : Int32) (ssz : Int32) (sit : Nat → Int32) (k3 : Int32 → Option (Int32)) (l5 : Int32) : Option (Int32) :=
  (if l2 ≤ l5 then some ((1 : Int32)) else b1 (f_X5_at N (l1 + l5) ssz sit) (fun r3 => (if r3 < l3 then some ((0 : Int32)) else b1 (f_X5_at N (l1 + l5) ssz sit) (fun r6 => (if r6 ≤ l4 then k3 (l5 + (1 : Int32)) else some ((0 : Int32)))))))
def f_X5_allWithin_3 (N : Nat)  (l1 : Int32) (l2 : Int32) (l3 : Int32) (l4 : Int32) (ssz : Int32) (sit : Nat → Int32) : Nat → Int32 → Option (Int32)
  | 0, _ => none
  | n + 1, l5 => b_X5_allWithin_3 N l1 l2 l3 l4 ssz sit (f_X5_allWithin_3 N l1 l2 l3 l4 ssz sit n) l5
def f_X5_allWithin (N : Nat) (p0 : Int32) (p1 : Int32) (p2 : Int32) (p3 : Int32) (ssz : Int32) (sit : Nat → Int32) : Option (Int32) :=
  f_X5_allWithin_3 N p0 p1 p2 p3 ssz sit N (0 : Int32)
def b_X5_placesOf_6 (N : Nat)  (l1 : Int32) (l2 : Int32) (l3 : Int32) (ssz : Int32) (sit : Nat → Int32) (k6 : Int32 → Int32 → Option (Int32)) (l4 : Int32) (l5 : Int32) : Option (Int32) :=
  (if l3 ≤ l5 then some (l4) else (if (12 : Int32) ≤ l5 then some (l4) else b1 (f_X5_at N (l2 + l5) ssz sit) (fun r4 => (if r4 = l1 then k6 (l4 ||| ((1 : Int32) <<< (l5 &&& 31))) (l5 + (1 : Int32)) else k6 l4 (l5 + (1 : Int32))))))
def f_X5_placesOf_6 (N : Nat)  (l1 : Int32) (l2 : Int32) (l3 : Int32) (ssz : Int32) (sit : Nat → Int32) : Nat → Int32 → Int32 → Option (Int32)
  | 0, _, _ => none
  | n + 1, l4, l5 => b_X5_placesOf_6 N l1 l2 l3 ssz sit (f_X5_placesOf_6 N l1 l2 l3 ssz sit n) l4 l5
def f_X5_placesOf (N : Nat) (p0 : Int32) (p1 : Int32) (p2 : Int32) (ssz : Int32) (sit : Nat → Int32) : Option (Int32) :=
  f_X5_placesOf_6 N p0 p1 p2 ssz sit N (0 : Int32) (0 : Int32)
abbrev rm_X5_become : Room := { frames := 1, cells := 0, slots := 0, locals := 23 }
theorem iX5_become_X5 : ∀ w ∈ wsX50, w ∈ wsX5_become := by decide +kernel
theorem kX5_become_1 : (Cond.fieldLink RX5 15 "TwoLaws$Sheet" "lane" "I") ∈ wsX5_become := by decide +kernel
theorem kX5_become_2 : (Cond.methodLink RX5 22 Lib.Math.min.name) ∈ wsX5_become := by decide +kernel
theorem kX5_become_3 : (Cond.static Lib.Math.min.name) ∈ wsX5_become := by decide +kernel
theorem kX5_become_4 : (Cond.initialized "java/lang/Math") ∈ wsX5_become := by decide +kernel
theorem kX5_become_5 : (Cond.code Lib.Math.min.name Lib.Math.min.code 2 (some .int)) ∈ wsX5_become := by decide +kernel
theorem kX5_become_6 : (Cond.methodLink RX5 28 Lib.Math.max.name) ∈ wsX5_become := by decide +kernel
theorem kX5_become_7 : (Cond.static Lib.Math.max.name) ∈ wsX5_become := by decide +kernel
theorem kX5_become_8 : (Cond.code Lib.Math.max.name Lib.Math.max.code 2 (some .int)) ∈ wsX5_become := by decide +kernel
theorem kX5_become_9 : (Cond.fieldLink RX5 19 "TwoLaws$Sheet" "size" "I") ∈ wsX5_become := by decide +kernel
theorem kX5_become_10 : (Cond.fieldLink RX5 11 "TwoLaws$Sheet" "items" "[I") ∈ wsX5_become := by decide +kernel
set_option maxHeartbeats 4000000 in
set_option maxRecDepth 100000 in
theorem cr_X5_become (l : Launch) (D : va_G) (ky : Nat → ClassId) (aS aSi : Nat) (sz N : Nat)  (sla : Int32) (ssz : Int32) (sit : Nat → Int32) (p0 : Int32) (p1 : Int32) (res : Int32 × Int32 × (Nat → Int32)) (hF : f_X5_become N p0 p1 sit = some res) : MV l yX5_become wsX5_become rm_X5_become D ky sz [.ref aS, .int p0, .int p1] (w_sheet ky aS aSi sla ssz sit) (w_sheet ky aS aSi res.1 res.2.1 res.2.2) := by
  unfold MV
  refine Met.ofW (cc := cX5_become) (maxL := 3) (ret := none) (by decide) rfl ?_
  intro p e s m args below meth c s₁ B hml hv
  obtain ⟨rfl, hsz, hP, hK, hD0⟩ := hv
  have hx := B.exec
  have hb := B.bytes
  have hr := B.returns
  have hts := atoms_spec (ws := wsX5_become) B.pre
  have hown : s.vm.findClass RX5 = some m.cls := findClass_of_methodNamed B.named
  have hlocks := B.notSynchronized
  subst hsz
  have hD := hD0.self (sz := s.heap.size)
  generalize hAe : va_A (w_sheet ky aS aSi sla ssz sit) s.heap.size = A at hD ⊢
  have hA : ∀ q : Nat, s.heap.size ≤ q → A q := fun q h => by rw [← hAe]; exact Or.inr h
  have hS : va_S A s.heap s.heap [] := va_S.rf
  have hP : va_P D vwCl (w_sheet ky aS aSi sla ssz sit) s.heap := hP
  have hl := lv_entry ([.ref aS, .int p0, .int p1]) (n := 3) (Nat.le_of_ble_eq_true rfl)
  rw [lg_entry_eq]
  generalize (lg_sl ([.ref aS, .int p0, .int p1]) ++ List.replicate (3 - (lg_sl ([.ref aS, .int p0, .int p1])).length) Slot.unset).toArray = ls at hl ⊢
  have hl : lv_has ls 3 [(0, .ref aS), (1, .int p0), (2, .int p1)] := hl
  have C : cx p s m c ([.ref aS, .int p0, .int p1]).toArray D ky A cX5_become 3 wsX5_become RX5 := ⟨hx, hb, hml, hown, hts, hK, hA⟩
  have hQ : ∀ (pc : Nat) (H : Heap) (locs : List Loc) (ls : Array Slot), decode cX5_become pc = .ok (.return_, 1) → va_P D vwCl (w_sheet ky aS aSi res.1 res.2.1 res.2.2) H → va_D A (w_sheet ky aS aSi res.1 res.2.1 res.2.2) → va_S A s.heap H locs → W p l e rm_X5_become s m ([.ref aS, .int p0, .int p1]).toArray below meth c H locs 0 0 (MQ below (va_Qv (S := Unit) (fun _ => True) (fun _ t => va_P D vwCl (w_sheet ky aS aSi res.1 res.2.1 res.2.2) t.heap ∧ va_K D vwCl (tyW ky) t ∧ va_D A (w_sheet ky aS aSi res.1 res.2.1 res.2.2)) A) ([.ref aS, .int p0, .int p1]).toArray s 0 0 A) (F0 m pc ls []) := fun pc H locs ls hd hP hD hS => W.vret hx hb hr (fun t ht hW => ⟨⟨(), rfl, trivial, by rw [ht]; exact hP, va_K.moved hW.alike hK, hD⟩, hS.F ht⟩) hS.2.2 hd
  unfold f_X5_become at hF
  refine lv_aload_n hx hb dX5_become_0 rfl (lv_at hl 0 rfl) ?_
  refine lv_iload_n hx hb dX5_become_1 rfl (lv_at hl 1 rfl) ?_
  refine va_put (D := D) (ci := 4) (v := .int p0) (ty := .int) (C := RX5) (T := TX5) (N := 3) hx hb hts iX5_become_X5 tyX5 tyX5_ok nmX5 hown hK hP hD hS 0 rfl rfl 1 (by decide) (hts _ kX5_become_1) (fun _ h9 => h9) rfl (by decide +kernel) rfl rfl (Nat.le_of_ble_eq_true rfl) dX5_become_2 (fun H locs hP hD hS => ?_)
  have hP : va_P D vwCl (w_sheet ky aS aSi p0 ssz sit) H := hP
  have hD : va_D A (w_sheet ky aS aSi p0 ssz sit) := hD
  refine lv_aload_n hx hb dX5_become_5 rfl (lv_at hl 0 rfl) ?_
  refine lv_iconst (v := (0 : Int32)) hx hb dX5_become_6 (by decide) ?_
  refine lv_iload_n hx hb dX5_become_7 rfl (lv_at hl 2 rfl) ?_
  refine lv_bipush (v := (36 : Int32)) hx hb dX5_become_8 (by decide) ?_
  refine va_mmin hx hb (hml.trans hl.1.symm) hown (hts _ kX5_become_2) (hts _ kX5_become_3) (hts _ kX5_become_4) (hts _ kX5_become_5) (Nat.le_of_ble_eq_true rfl) (Nat.le_of_ble_eq_true rfl) (Nat.zero_le _) (Nat.zero_le _) dX5_become_10 ?_
  refine va_mmax hx hb (hml.trans hl.1.symm) hown (hts _ kX5_become_6) (hts _ kX5_become_7) (hts _ kX5_become_4) (hts _ kX5_become_8) (Nat.le_of_ble_eq_true rfl) (Nat.le_of_ble_eq_true rfl) (Nat.zero_le _) (Nat.zero_le _) dX5_become_13 ?_
  refine lv_topi (fun v1 e_v1 => ?_)
  have hF := nm_s e_v1 hF
  refine va_put (D := D) (ci := 4) (v := .int v1) (ty := .int) (C := RX5) (T := TX5) (N := 3) hx hb hts iX5_become_X5 tyX5 tyX5_ok nmX5 hown hK hP hD hS 0 rfl rfl 2 (by decide) (hts _ kX5_become_9) (fun _ h9 => h9) rfl (by decide +kernel) rfl rfl (Nat.le_of_ble_eq_true rfl) dX5_become_16 (fun H locs hP hD hS => ?_)
  have hP : va_P D vwCl (w_sheet ky aS aSi p0 v1 sit) H := hP
  have hD : va_D A (w_sheet ky aS aSi p0 v1 sit) := hD
  refine lv_aload_n hx hb dX5_become_19 rfl (lv_at hl 0 rfl) ?_
  refine va_get (D := D) (ci := 4) (v := .ref aSi) (C := RX5) (T := TX5) (N := 3) hx hb hts iX5_become_X5 hown hK hP 0 rfl rfl 0 (by decide) (hts _ kX5_become_10) (fun _ h9 => h9) rfl dX5_become_20 ?_
  refine lv_iconst (v := (0 : Int32)) hx hb dX5_become_23 (by decide) ?_
  obtain ⟨v3, h2, hF⟩ := b1_s hF
  refine cl_sv (As := [.ref aSi, .int (0 : Int32)]) (rest := []) (w' := (w_sheet ky aS aSi p0 v1 v3)) ⟨hx, hb, hml, hown, hts⟩ hK hP hD hS hA (c_J7_fill_53178 l D ky aSi _ N 36 sit (0 : Int32) v3 h2) (va_cwS 2 hts gX5_become_J7_fill_53178 rfl rfl rfl (by decide +kernel) ⟨Nat.le_of_ble_eq_true rfl, Nat.le_of_ble_eq_true rfl⟩) [1] [0] [0, 1] rfl (wr := [(aS, .inr (4, [.ref aSi, .int p0, .int v1]))]) rfl (by decide) rfl rfl hl.1 (Nat.le_of_ble_eq_true rfl) dX5_become_24 ⟨Nat.zero_le _, Nat.zero_le _⟩ (fun H locs hP hD hS => ?_)
  have hF := Option.some.inj hF
  subst hF
  exact hQ _ _ _ _ dX5_become_27 hP hD hS
theorem c_X5_become (l : Launch) (D : va_G) (ky : Nat → ClassId) (aS aSi : Nat) (sz N : Nat)  (sla : Int32) (ssz : Int32) (sit : Nat → Int32) (p0 : Int32) (p1 : Int32) (sla' : Int32) (ssz' : Int32) (sit' : Nat → Int32) (hF : f_X5_become N p0 p1 sit = some (sla', ssz', sit')) : MV l yX5_become wsX5_become rm_X5_become D ky sz [.ref aS, .int p0, .int p1] (w_sheet ky aS aSi sla ssz sit) (w_sheet ky aS aSi sla' ssz' sit') :=
  cr_X5_become l D ky aS aSi sz N sla ssz sit p0 p1 (sla', ssz', sit') hF
abbrev rm_X5_empty : Room := { frames := 0, cells := 0, slots := 0, locals := 0 }
theorem iX5_empty_X5 : ∀ w ∈ wsX50, w ∈ wsX5_empty := by decide +kernel
theorem kX5_empty_1 : (Cond.fieldLink RX5 19 "TwoLaws$Sheet" "size" "I") ∈ wsX5_empty := by decide +kernel
theorem kX5_empty_2 : (Cond.fieldLink RX5 15 "TwoLaws$Sheet" "lane" "I") ∈ wsX5_empty := by decide +kernel
set_option maxHeartbeats 4000000 in
set_option maxRecDepth 100000 in
theorem cr_X5_empty (l : Launch) (D : va_G) (ky : Nat → ClassId) (aS aSi : Nat) (sz N : Nat)  (sla : Int32) (ssz : Int32) (sit : Nat → Int32)  (res : Int32 × Int32 × Int32) (hF : f_X5_empty N ssz = some res) : MI l yX5_empty wsX5_empty rm_X5_empty D ky sz [.ref aS] (w_sheet ky aS aSi sla ssz sit) (w_sheet ky aS aSi res.2.1 res.2.2 sit) res.1 := by
  unfold MI
  refine Met.ofW (cc := cX5_empty) (maxL := 2) (ret := (some .int)) (by decide) rfl ?_
  intro p e s m args below meth c s₁ B hml hv
  obtain ⟨rfl, hsz, hP, hK, hD0⟩ := hv
  have hx := B.exec
  have hb := B.bytes
  have hr := B.returns
  have hts := atoms_spec (ws := wsX5_empty) B.pre
  have hown : s.vm.findClass RX5 = some m.cls := findClass_of_methodNamed B.named
  have hlocks := B.notSynchronized
  subst hsz
  have hD := hD0.self (sz := s.heap.size)
  generalize hAe : va_A (w_sheet ky aS aSi sla ssz sit) s.heap.size = A at hD ⊢
  have hA : ∀ q : Nat, s.heap.size ≤ q → A q := fun q h => by rw [← hAe]; exact Or.inr h
  have hS : va_S A s.heap s.heap [] := va_S.rf
  have hP : va_P D vwCl (w_sheet ky aS aSi sla ssz sit) s.heap := hP
  have hl := lv_entry ([.ref aS]) (n := 2) (Nat.le_of_ble_eq_true rfl)
  rw [lg_entry_eq]
  generalize (lg_sl ([.ref aS]) ++ List.replicate (2 - (lg_sl ([.ref aS])).length) Slot.unset).toArray = ls at hl ⊢
  have hl : lv_has ls 2 [(0, .ref aS)] := hl
  have C : cx p s m c ([.ref aS]).toArray D ky A cX5_empty 2 wsX5_empty RX5 := ⟨hx, hb, hml, hown, hts, hK, hA⟩
  have hQ : ∀ (pc : Nat) (H : Heap) (locs : List Loc) (ls : Array Slot), decode cX5_empty pc = .ok (.ireturn, 1) → va_P D vwCl (w_sheet ky aS aSi res.2.1 res.2.2 sit) H → va_D A (w_sheet ky aS aSi res.2.1 res.2.2 sit) → va_S A s.heap H locs → W p l e rm_X5_empty s m ([.ref aS]).toArray below meth c H locs 0 0 (MQ below (va_Qi (S := Unit) (fun r _ => r = res.1) (fun _ t => va_P D vwCl (w_sheet ky aS aSi res.2.1 res.2.2 sit) t.heap ∧ va_K D vwCl (tyW ky) t ∧ va_D A (w_sheet ky aS aSi res.2.1 res.2.2 sit)) A) ([.ref aS]).toArray s 0 0 A) (F0 m pc ls [.int res.1]) := fun pc H locs ls hd hP hD hS => W.iret hx hb hr (fun t ht hW => ⟨⟨res.1, (), rfl, rfl, by rw [ht]; exact hP, va_K.moved hW.alike hK, hD⟩, hS.F ht⟩) hS.2.2 hd
  unfold f_X5_empty at hF
  refine lv_aload_n hx hb dX5_empty_0 rfl (lv_at hl 0 rfl) ?_
  refine va_get (D := D) (ci := 4) (v := .int ssz) (C := RX5) (T := TX5) (N := 3) hx hb hts iX5_empty_X5 hown hK hP 0 rfl rfl 2 (by decide) (hts _ kX5_empty_1) (fun _ h9 => h9) rfl dX5_empty_1 ?_
  refine lv_istore_n (lv' := [(1, .int ssz), (0, .ref aS)]) hx hb dX5_empty_4 rfl hl (by decide) rfl (fun ls hl => ?_)
  refine lv_aload_n hx hb dX5_empty_5 rfl (lv_at hl 1 rfl) ?_
  refine lv_iconst (v := (-1 : Int32)) hx hb dX5_empty_6 (by decide) ?_
  refine va_put (D := D) (ci := 4) (v := .int (-1 : Int32)) (ty := .int) (C := RX5) (T := TX5) (N := 3) hx hb hts iX5_empty_X5 tyX5 tyX5_ok nmX5 hown hK hP hD hS 0 rfl rfl 1 (by decide) (hts _ kX5_empty_2) (fun _ h9 => h9) rfl (by decide +kernel) rfl rfl (Nat.le_of_ble_eq_true rfl) dX5_empty_7 (fun H locs hP hD hS => ?_)
  have hP : va_P D vwCl (w_sheet ky aS aSi (-1 : Int32) ssz sit) H := hP
  have hD : va_D A (w_sheet ky aS aSi (-1 : Int32) ssz sit) := hD
  refine lv_aload_n hx hb dX5_empty_10 rfl (lv_at hl 1 rfl) ?_
  refine lv_iconst (v := (0 : Int32)) hx hb dX5_empty_11 (by decide) ?_
  refine va_put (D := D) (ci := 4) (v := .int (0 : Int32)) (ty := .int) (C := RX5) (T := TX5) (N := 3) hx hb hts iX5_empty_X5 tyX5 tyX5_ok nmX5 hown hK hP hD hS 0 rfl rfl 2 (by decide) (hts _ kX5_empty_1) (fun _ h9 => h9) rfl (by decide +kernel) rfl rfl (Nat.le_of_ble_eq_true rfl) dX5_empty_12 (fun H locs hP hD hS => ?_)
  have hP : va_P D vwCl (w_sheet ky aS aSi (-1 : Int32) (0 : Int32) sit) H := hP
  have hD : va_D A (w_sheet ky aS aSi (-1 : Int32) (0 : Int32) sit) := hD
  refine lv_iload_n hx hb dX5_empty_15 rfl (lv_at hl 0 rfl) ?_
  have hF := Option.some.inj hF
  subst hF
  exact hQ _ _ _ _ dX5_empty_16 hP hD hS
theorem c_X5_empty (l : Launch) (D : va_G) (ky : Nat → ClassId) (aS aSi : Nat) (sz N : Nat)  (sla : Int32) (ssz : Int32) (sit : Nat → Int32)  (rv : Int32) (sla' : Int32) (ssz' : Int32) (hF : f_X5_empty N ssz = some (rv, sla', ssz')) : MI l yX5_empty wsX5_empty rm_X5_empty D ky sz [.ref aS] (w_sheet ky aS aSi sla ssz sit) (w_sheet ky aS aSi sla' ssz' sit) rv :=
  cr_X5_empty l D ky aS aSi sz N sla ssz sit (rv, sla', ssz') hF
abbrev rm_X5_isNothing : Room := { frames := 0, cells := 0, slots := 0, locals := 0 }
theorem iX5_isNothing_X5 : ∀ w ∈ wsX50, w ∈ wsX5_isNothing := by decide +kernel
theorem kX5_isNothing_1 : (Cond.fieldLink RX5 15 "TwoLaws$Sheet" "lane" "I") ∈ wsX5_isNothing := by decide +kernel
set_option maxHeartbeats 4000000 in
set_option maxRecDepth 100000 in
theorem cr_X5_isNothing (l : Launch) (D : va_G) (ky : Nat → ClassId) (aS aSi : Nat) (sz N : Nat)  (sla : Int32) (ssz : Int32) (sit : Nat → Int32)  (res : Int32) (hF : f_X5_isNothing N sla = some res) : MI l yX5_isNothing wsX5_isNothing rm_X5_isNothing D ky sz [.ref aS] (w_sheet ky aS aSi sla ssz sit) (w_sheet ky aS aSi sla ssz sit) res := by
  unfold MI
  refine Met.ofW (cc := cX5_isNothing) (maxL := 1) (ret := (some .boolean)) (by decide) rfl ?_
  intro p e s m args below meth c s₁ B hml hv
  obtain ⟨rfl, hsz, hP, hK, hD0⟩ := hv
  have hx := B.exec
  have hb := B.bytes
  have hr := B.returns
  have hts := atoms_spec (ws := wsX5_isNothing) B.pre
  have hown : s.vm.findClass RX5 = some m.cls := findClass_of_methodNamed B.named
  have hlocks := B.notSynchronized
  subst hsz
  have hD := hD0.self (sz := s.heap.size)
  generalize hAe : va_A (w_sheet ky aS aSi sla ssz sit) s.heap.size = A at hD ⊢
  have hA : ∀ q : Nat, s.heap.size ≤ q → A q := fun q h => by rw [← hAe]; exact Or.inr h
  have hS : va_S A s.heap s.heap [] := va_S.rf
  have hP : va_P D vwCl (w_sheet ky aS aSi sla ssz sit) s.heap := hP
  have hl := lv_entry ([.ref aS]) (n := 1) (Nat.le_of_ble_eq_true rfl)
  rw [lg_entry_eq]
  generalize (lg_sl ([.ref aS]) ++ List.replicate (1 - (lg_sl ([.ref aS])).length) Slot.unset).toArray = ls at hl ⊢
  have hl : lv_has ls 1 [(0, .ref aS)] := hl
  have C : cx p s m c ([.ref aS]).toArray D ky A cX5_isNothing 1 wsX5_isNothing RX5 := ⟨hx, hb, hml, hown, hts, hK, hA⟩
  have hQ : ∀ (pc : Nat) (H : Heap) (locs : List Loc) (ls : Array Slot), decode cX5_isNothing pc = .ok (.ireturn, 1) → (res = 0 ∨ res = 1) → va_P D vwCl (w_sheet ky aS aSi sla ssz sit) H → va_D A (w_sheet ky aS aSi sla ssz sit) → va_S A s.heap H locs → W p l e rm_X5_isNothing s m ([.ref aS]).toArray below meth c H locs 0 0 (MQ below (va_Qi (S := Unit) (fun r _ => r = res) (fun _ t => va_P D vwCl (w_sheet ky aS aSi sla ssz sit) t.heap ∧ va_K D vwCl (tyW ky) t ∧ va_D A (w_sheet ky aS aSi sla ssz sit)) A) ([.ref aS]).toArray s 0 0 A) (F0 m pc ls [.int res]) := fun pc H locs ls hd hz hP hD hS => W.zret hx hb hr (gz_n hz) (fun t ht hW => ⟨⟨res, (), rfl, rfl, by rw [ht]; exact hP, va_K.moved hW.alike hK, hD⟩, hS.F ht⟩) hS.2.2 hd
  unfold f_X5_isNothing at hF
  refine lv_aload_n hx hb dX5_isNothing_0 rfl (lv_at hl 0 rfl) ?_
  refine va_get (D := D) (ci := 4) (v := .int sla) (C := RX5) (T := TX5) (N := 3) hx hb hts iX5_isNothing_X5 hown hK hP 0 rfl rfl 1 (by decide) (hts _ kX5_isNothing_1) (fun _ h9 => h9) rfl dX5_isNothing_1 ?_
  refine lv_iconst (v := (-1 : Int32)) hx hb dX5_isNothing_4 (by decide) ?_
  refine lv_icmp_ne (tgt := 12) hx hb dX5_isNothing_5 (by decide) (fun c1 => ?_) (fun c1 => ?_)
  · have hF := if_f c1 hF
    refine lv_iconst (v := (0 : Int32)) hx hb dX5_isNothing_12 (by decide) ?_
    have hF := Option.some.inj hF
    subst hF
    exact hQ _ _ _ _ dX5_isNothing_13 (Or.inl rfl) hP hD hS
  · have hF := if_t c1 hF
    refine lv_iconst (v := (1 : Int32)) hx hb dX5_isNothing_8 (by decide) ?_
    refine lv_goto (tgt := 13) hx hb dX5_isNothing_9 (by decide) ?_
    have hF := Option.some.inj hF
    subst hF
    exact hQ _ _ _ _ dX5_isNothing_13 (Or.inr rfl) hP hD hS
theorem c_X5_isNothing (l : Launch) (D : va_G) (ky : Nat → ClassId) (aS aSi : Nat) (sz N : Nat)  (sla : Int32) (ssz : Int32) (sit : Nat → Int32)  (rv : Int32) (hF : f_X5_isNothing N sla = some (rv)) : MI l yX5_isNothing wsX5_isNothing rm_X5_isNothing D ky sz [.ref aS] (w_sheet ky aS aSi sla ssz sit) (w_sheet ky aS aSi sla ssz sit) rv :=
  cr_X5_isNothing l D ky aS aSi sz N sla ssz sit (rv) hF
abbrev rm_X5_laneNow : Room := { frames := 0, cells := 0, slots := 0, locals := 0 }
theorem iX5_laneNow_X5 : ∀ w ∈ wsX50, w ∈ wsX5_laneNow := by decide +kernel
theorem kX5_laneNow_1 : (Cond.fieldLink RX5 15 "TwoLaws$Sheet" "lane" "I") ∈ wsX5_laneNow := by decide +kernel
set_option maxHeartbeats 4000000 in
set_option maxRecDepth 100000 in
theorem cr_X5_laneNow (l : Launch) (D : va_G) (ky : Nat → ClassId) (aS aSi : Nat) (sz N : Nat)  (sla : Int32) (ssz : Int32) (sit : Nat → Int32)  (res : Int32) (hF : f_X5_laneNow N sla = some res) : MI l yX5_laneNow wsX5_laneNow rm_X5_laneNow D ky sz [.ref aS] (w_sheet ky aS aSi sla ssz sit) (w_sheet ky aS aSi sla ssz sit) res := by
  unfold MI
  refine Met.ofW (cc := cX5_laneNow) (maxL := 1) (ret := (some .int)) (by decide) rfl ?_
  intro p e s m args below meth c s₁ B hml hv
  obtain ⟨rfl, hsz, hP, hK, hD0⟩ := hv
  have hx := B.exec
  have hb := B.bytes
  have hr := B.returns
  have hts := atoms_spec (ws := wsX5_laneNow) B.pre
  have hown : s.vm.findClass RX5 = some m.cls := findClass_of_methodNamed B.named
  have hlocks := B.notSynchronized
  subst hsz
  have hD := hD0.self (sz := s.heap.size)
  generalize hAe : va_A (w_sheet ky aS aSi sla ssz sit) s.heap.size = A at hD ⊢
  have hA : ∀ q : Nat, s.heap.size ≤ q → A q := fun q h => by rw [← hAe]; exact Or.inr h
  have hS : va_S A s.heap s.heap [] := va_S.rf
  have hP : va_P D vwCl (w_sheet ky aS aSi sla ssz sit) s.heap := hP
  have hl := lv_entry ([.ref aS]) (n := 1) (Nat.le_of_ble_eq_true rfl)
  rw [lg_entry_eq]
  generalize (lg_sl ([.ref aS]) ++ List.replicate (1 - (lg_sl ([.ref aS])).length) Slot.unset).toArray = ls at hl ⊢
  have hl : lv_has ls 1 [(0, .ref aS)] := hl
  have C : cx p s m c ([.ref aS]).toArray D ky A cX5_laneNow 1 wsX5_laneNow RX5 := ⟨hx, hb, hml, hown, hts, hK, hA⟩
  have hQ : ∀ (pc : Nat) (H : Heap) (locs : List Loc) (ls : Array Slot), decode cX5_laneNow pc = .ok (.ireturn, 1) → va_P D vwCl (w_sheet ky aS aSi sla ssz sit) H → va_D A (w_sheet ky aS aSi sla ssz sit) → va_S A s.heap H locs → W p l e rm_X5_laneNow s m ([.ref aS]).toArray below meth c H locs 0 0 (MQ below (va_Qi (S := Unit) (fun r _ => r = res) (fun _ t => va_P D vwCl (w_sheet ky aS aSi sla ssz sit) t.heap ∧ va_K D vwCl (tyW ky) t ∧ va_D A (w_sheet ky aS aSi sla ssz sit)) A) ([.ref aS]).toArray s 0 0 A) (F0 m pc ls [.int res]) := fun pc H locs ls hd hP hD hS => W.iret hx hb hr (fun t ht hW => ⟨⟨res, (), rfl, rfl, by rw [ht]; exact hP, va_K.moved hW.alike hK, hD⟩, hS.F ht⟩) hS.2.2 hd
  unfold f_X5_laneNow at hF
  refine lv_aload_n hx hb dX5_laneNow_0 rfl (lv_at hl 0 rfl) ?_
  refine va_get (D := D) (ci := 4) (v := .int sla) (C := RX5) (T := TX5) (N := 3) hx hb hts iX5_laneNow_X5 hown hK hP 0 rfl rfl 1 (by decide) (hts _ kX5_laneNow_1) (fun _ h9 => h9) rfl dX5_laneNow_1 ?_
  have hF := Option.some.inj hF
  subst hF
  exact hQ _ _ _ _ dX5_laneNow_4 hP hD hS
theorem c_X5_laneNow (l : Launch) (D : va_G) (ky : Nat → ClassId) (aS aSi : Nat) (sz N : Nat)  (sla : Int32) (ssz : Int32) (sit : Nat → Int32)  (rv : Int32) (hF : f_X5_laneNow N sla = some (rv)) : MI l yX5_laneNow wsX5_laneNow rm_X5_laneNow D ky sz [.ref aS] (w_sheet ky aS aSi sla ssz sit) (w_sheet ky aS aSi sla ssz sit) rv :=
  cr_X5_laneNow l D ky aS aSi sz N sla ssz sit (rv) hF
abbrev rm_X5_covers : Room := { frames := 0, cells := 0, slots := 0, locals := 0 }
theorem iX5_covers_X5 : ∀ w ∈ wsX50, w ∈ wsX5_covers := by decide +kernel
theorem kX5_covers_1 : (Cond.fieldLink RX5 19 "TwoLaws$Sheet" "size" "I") ∈ wsX5_covers := by decide +kernel
set_option maxHeartbeats 4000000 in
set_option maxRecDepth 100000 in
theorem cr_X5_covers (l : Launch) (D : va_G) (ky : Nat → ClassId) (aS aSi : Nat) (sz N : Nat)  (sla : Int32) (ssz : Int32) (sit : Nat → Int32) (p0 : Int32) (p1 : Int32) (res : Int32) (hF : f_X5_covers N p0 p1 ssz = some res) : MI l yX5_covers wsX5_covers rm_X5_covers D ky sz [.ref aS, .int p0, .int p1] (w_sheet ky aS aSi sla ssz sit) (w_sheet ky aS aSi sla ssz sit) res := by
  unfold MI
  refine Met.ofW (cc := cX5_covers) (maxL := 3) (ret := (some .boolean)) (by decide) rfl ?_
  intro p e s m args below meth c s₁ B hml hv
  obtain ⟨rfl, hsz, hP, hK, hD0⟩ := hv
  have hx := B.exec
  have hb := B.bytes
  have hr := B.returns
  have hts := atoms_spec (ws := wsX5_covers) B.pre
  have hown : s.vm.findClass RX5 = some m.cls := findClass_of_methodNamed B.named
  have hlocks := B.notSynchronized
  subst hsz
  have hD := hD0.self (sz := s.heap.size)
  generalize hAe : va_A (w_sheet ky aS aSi sla ssz sit) s.heap.size = A at hD ⊢
  have hA : ∀ q : Nat, s.heap.size ≤ q → A q := fun q h => by rw [← hAe]; exact Or.inr h
  have hS : va_S A s.heap s.heap [] := va_S.rf
  have hP : va_P D vwCl (w_sheet ky aS aSi sla ssz sit) s.heap := hP
  have hl := lv_entry ([.ref aS, .int p0, .int p1]) (n := 3) (Nat.le_of_ble_eq_true rfl)
  rw [lg_entry_eq]
  generalize (lg_sl ([.ref aS, .int p0, .int p1]) ++ List.replicate (3 - (lg_sl ([.ref aS, .int p0, .int p1])).length) Slot.unset).toArray = ls at hl ⊢
  have hl : lv_has ls 3 [(0, .ref aS), (1, .int p0), (2, .int p1)] := hl
  have C : cx p s m c ([.ref aS, .int p0, .int p1]).toArray D ky A cX5_covers 3 wsX5_covers RX5 := ⟨hx, hb, hml, hown, hts, hK, hA⟩
  have hQ : ∀ (pc : Nat) (H : Heap) (locs : List Loc) (ls : Array Slot), decode cX5_covers pc = .ok (.ireturn, 1) → (res = 0 ∨ res = 1) → va_P D vwCl (w_sheet ky aS aSi sla ssz sit) H → va_D A (w_sheet ky aS aSi sla ssz sit) → va_S A s.heap H locs → W p l e rm_X5_covers s m ([.ref aS, .int p0, .int p1]).toArray below meth c H locs 0 0 (MQ below (va_Qi (S := Unit) (fun r _ => r = res) (fun _ t => va_P D vwCl (w_sheet ky aS aSi sla ssz sit) t.heap ∧ va_K D vwCl (tyW ky) t ∧ va_D A (w_sheet ky aS aSi sla ssz sit)) A) ([.ref aS, .int p0, .int p1]).toArray s 0 0 A) (F0 m pc ls [.int res]) := fun pc H locs ls hd hz hP hD hS => W.zret hx hb hr (gz_n hz) (fun t ht hW => ⟨⟨res, (), rfl, rfl, by rw [ht]; exact hP, va_K.moved hW.alike hK, hD⟩, hS.F ht⟩) hS.2.2 hd
  unfold f_X5_covers at hF
  refine lv_iload_n hx hb dX5_covers_0 rfl (lv_at hl 1 rfl) ?_
  refine lv_if_lt (tgt := 22) hx hb dX5_covers_1 (by decide) (fun c1 => ?_) (fun c1 => ?_)
  · have hF := if_t c1 hF
    refine lv_iconst (v := (0 : Int32)) hx hb dX5_covers_22 (by decide) ?_
    have hF := Option.some.inj hF
    subst hF
    exact hQ _ _ _ _ dX5_covers_23 (Or.inl rfl) hP hD hS
  · have hF := if_f c1 hF
    refine lv_iload_n hx hb dX5_covers_4 rfl (lv_at hl 2 rfl) ?_
    refine lv_if_lt (tgt := 22) hx hb dX5_covers_5 (by decide) (fun c2 => ?_) (fun c2 => ?_)
    · have hF := if_t c2 hF
      refine lv_iconst (v := (0 : Int32)) hx hb dX5_covers_22 (by decide) ?_
      have hF := Option.some.inj hF
      subst hF
      exact hQ _ _ _ _ dX5_covers_23 (Or.inl rfl) hP hD hS
    · have hF := if_f c2 hF
      refine lv_iload_n hx hb dX5_covers_8 rfl (lv_at hl 1 rfl) ?_
      refine lv_aload_n hx hb dX5_covers_9 rfl (lv_at hl 0 rfl) ?_
      refine va_get (D := D) (ci := 4) (v := .int ssz) (C := RX5) (T := TX5) (N := 3) hx hb hts iX5_covers_X5 hown hK hP 0 rfl rfl 2 (by decide) (hts _ kX5_covers_1) (fun _ h9 => h9) rfl dX5_covers_10 ?_
      refine lv_iload_n hx hb dX5_covers_13 rfl (lv_at hl 2 rfl) ?_
      refine lv_isub hx hb dX5_covers_14 ?_
      refine lv_icmp_gt (tgt := 22) hx hb dX5_covers_15 (by decide) (fun c3 => ?_) (fun c3 => ?_)
      · have hF := if_t c3 hF
        refine lv_iconst (v := (0 : Int32)) hx hb dX5_covers_22 (by decide) ?_
        have hF := Option.some.inj hF
        subst hF
        exact hQ _ _ _ _ dX5_covers_23 (Or.inl rfl) hP hD hS
      · have hF := if_f c3 hF
        refine lv_iconst (v := (1 : Int32)) hx hb dX5_covers_18 (by decide) ?_
        refine lv_goto (tgt := 23) hx hb dX5_covers_19 (by decide) ?_
        have hF := Option.some.inj hF
        subst hF
        exact hQ _ _ _ _ dX5_covers_23 (Or.inr rfl) hP hD hS
theorem c_X5_covers (l : Launch) (D : va_G) (ky : Nat → ClassId) (aS aSi : Nat) (sz N : Nat)  (sla : Int32) (ssz : Int32) (sit : Nat → Int32) (p0 : Int32) (p1 : Int32) (rv : Int32) (hF : f_X5_covers N p0 p1 ssz = some (rv)) : MI l yX5_covers wsX5_covers rm_X5_covers D ky sz [.ref aS, .int p0, .int p1] (w_sheet ky aS aSi sla ssz sit) (w_sheet ky aS aSi sla ssz sit) rv :=
  cr_X5_covers l D ky aS aSi sz N sla ssz sit p0 p1 (rv) hF
abbrev rm_X5_refusal : Room := { frames := 1, cells := 0, slots := 0, locals := 22 }
theorem iX5_refusal_X5 : ∀ w ∈ wsX50, w ∈ wsX5_refusal := by decide +kernel
theorem kX5_refusal_1 : (Cond.fieldLink RX5 15 "TwoLaws$Sheet" "lane" "I") ∈ wsX5_refusal := by decide +kernel
set_option maxHeartbeats 4000000 in
set_option maxRecDepth 100000 in
theorem cr_X5_refusal (l : Launch) (D : va_G) (ky : Nat → ClassId) (aS aSi : Nat) (sz N : Nat)  (sla : Int32) (ssz : Int32) (sit : Nat → Int32) (p0 : Int32) (p1 : Int32) (p2 : Int32) (res : Int32) (hF : f_X5_refusal N p0 p1 p2 sla ssz = some res) : MI l yX5_refusal wsX5_refusal rm_X5_refusal D ky sz [.ref aS, .int p0, .int p1, .int p2] (w_sheet ky aS aSi sla ssz sit) (w_sheet ky aS aSi sla ssz sit) res := by
  unfold MI
  refine Met.ofW (cc := cX5_refusal) (maxL := 4) (ret := (some .int)) (by decide) rfl ?_
  intro p e s m args below meth c s₁ B hml hv
  obtain ⟨rfl, hsz, hP, hK, hD0⟩ := hv
  have hx := B.exec
  have hb := B.bytes
  have hr := B.returns
  have hts := atoms_spec (ws := wsX5_refusal) B.pre
  have hown : s.vm.findClass RX5 = some m.cls := findClass_of_methodNamed B.named
  have hlocks := B.notSynchronized
  subst hsz
  have hD := hD0.self (sz := s.heap.size)
  generalize hAe : va_A (w_sheet ky aS aSi sla ssz sit) s.heap.size = A at hD ⊢
  have hA : ∀ q : Nat, s.heap.size ≤ q → A q := fun q h => by rw [← hAe]; exact Or.inr h
  have hS : va_S A s.heap s.heap [] := va_S.rf
  have hP : va_P D vwCl (w_sheet ky aS aSi sla ssz sit) s.heap := hP
  have hl := lv_entry ([.ref aS, .int p0, .int p1, .int p2]) (n := 4) (Nat.le_of_ble_eq_true rfl)
  rw [lg_entry_eq]
  generalize (lg_sl ([.ref aS, .int p0, .int p1, .int p2]) ++ List.replicate (4 - (lg_sl ([.ref aS, .int p0, .int p1, .int p2])).length) Slot.unset).toArray = ls at hl ⊢
  have hl : lv_has ls 4 [(0, .ref aS), (1, .int p0), (2, .int p1), (3, .int p2)] := hl
  have C : cx p s m c ([.ref aS, .int p0, .int p1, .int p2]).toArray D ky A cX5_refusal 4 wsX5_refusal RX5 := ⟨hx, hb, hml, hown, hts, hK, hA⟩
  have hQ : ∀ (pc : Nat) (H : Heap) (locs : List Loc) (ls : Array Slot), decode cX5_refusal pc = .ok (.ireturn, 1) → va_P D vwCl (w_sheet ky aS aSi sla ssz sit) H → va_D A (w_sheet ky aS aSi sla ssz sit) → va_S A s.heap H locs → W p l e rm_X5_refusal s m ([.ref aS, .int p0, .int p1, .int p2]).toArray below meth c H locs 0 0 (MQ below (va_Qi (S := Unit) (fun r _ => r = res) (fun _ t => va_P D vwCl (w_sheet ky aS aSi sla ssz sit) t.heap ∧ va_K D vwCl (tyW ky) t ∧ va_D A (w_sheet ky aS aSi sla ssz sit)) A) ([.ref aS, .int p0, .int p1, .int p2]).toArray s 0 0 A) (F0 m pc ls [.int res]) := fun pc H locs ls hd hP hD hS => W.iret hx hb hr (fun t ht hW => ⟨⟨res, (), rfl, rfl, by rw [ht]; exact hP, va_K.moved hW.alike hK, hD⟩, hS.F ht⟩) hS.2.2 hd
  unfold f_X5_refusal at hF
  refine lv_aload_n hx hb dX5_refusal_0 rfl (lv_at hl 0 rfl) ?_
  obtain ⟨r2, h1, hF⟩ := b1_s hF
  refine cl_vi (As := []) (rest := []) (w' := (w_sheet ky aS aSi sla ssz sit)) ⟨hx, hb, hml, hown, hts⟩ hK hP hD hS hA (c_X5_isNothing l D ky aS aSi _ N  sla ssz sit  r2 h1) (cwV 0 hts gX5_refusal_X5_isNothing rfl rfl rfl (by decide +kernel) ⟨Nat.le_of_ble_eq_true rfl, Nat.le_of_ble_eq_true rfl⟩) [0, 1] [] [0, 1] 0 4 rfl rfl rfl rfl (wr := []) rfl (by decide) rfl rfl hl.1 (Nat.le_of_ble_eq_true rfl) dX5_refusal_1 ⟨Nat.zero_le _, Nat.zero_le _⟩ (fun H locs hP hD hS => ?_)
  refine lv_if_eq (tgt := 10) hx hb dX5_refusal_4 (by decide) (fun c3 => ?_) (fun c3 => ?_)
  · have hF := if_t c3 hF
    refine lv_aload_n hx hb dX5_refusal_10 rfl (lv_at hl 0 rfl) ?_
    refine va_get (D := D) (ci := 4) (v := .int sla) (C := RX5) (T := TX5) (N := 3) hx hb hts iX5_refusal_X5 hown hK hP 0 rfl rfl 1 (by decide) (hts _ kX5_refusal_1) (fun _ h9 => h9) rfl dX5_refusal_11 ?_
    refine lv_iload_n hx hb dX5_refusal_14 rfl (lv_at hl 1 rfl) ?_
    refine lv_icmp_eq (tgt := 21) hx hb dX5_refusal_15 (by decide) (fun c4 => ?_) (fun c4 => ?_)
    · have hF := if_t c4 hF
      refine lv_aload_n hx hb dX5_refusal_21 rfl (lv_at hl 0 rfl) ?_
      refine lv_iload_n hx hb dX5_refusal_22 rfl (lv_at hl 2 rfl) ?_
      refine lv_iload_n hx hb dX5_refusal_23 rfl (lv_at hl 3 rfl) ?_
      obtain ⟨r6, h5, hF⟩ := b1_s hF
      refine cl_vi (As := [.int p1, .int p2]) (rest := []) (w' := (w_sheet ky aS aSi sla ssz sit)) ⟨hx, hb, hml, hown, hts⟩ hK hP hD hS hA (c_X5_covers l D ky aS aSi _ N  sla ssz sit p1 p2 r6 h5) (cwV 2 hts gX5_refusal_X5_covers rfl rfl rfl (by decide +kernel) ⟨Nat.le_of_ble_eq_true rfl, Nat.le_of_ble_eq_true rfl⟩) [0, 1] [] [0, 1] 0 4 rfl rfl rfl rfl (wr := []) rfl (by decide) rfl rfl hl.1 (Nat.le_of_ble_eq_true rfl) dX5_refusal_24 ⟨Nat.zero_le _, Nat.zero_le _⟩ (fun H locs hP hD hS => ?_)
      refine lv_if_eq (tgt := 34) hx hb dX5_refusal_27 (by decide) (fun c7 => ?_) (fun c7 => ?_)
      · have hF := if_t c7 hF
        refine lv_bipush (v := (-13 : Int32)) hx hb dX5_refusal_34 (by decide) ?_
        have hF := Option.some.inj hF
        subst hF
        exact hQ _ _ _ _ dX5_refusal_36 hP hD hS
      · have hF := if_f c7 hF
        refine lv_iconst (v := (0 : Int32)) hx hb dX5_refusal_30 (by decide) ?_
        refine lv_goto (tgt := 36) hx hb dX5_refusal_31 (by decide) ?_
        have hF := Option.some.inj hF
        subst hF
        exact hQ _ _ _ _ dX5_refusal_36 hP hD hS
    · have hF := if_f c4 hF
      refine lv_bipush (v := (-12 : Int32)) hx hb dX5_refusal_18 (by decide) ?_
      have hF := Option.some.inj hF
      subst hF
      exact hQ _ _ _ _ dX5_refusal_20 hP hD hS
  · have hF := if_f c3 hF
    refine lv_bipush (v := (-11 : Int32)) hx hb dX5_refusal_7 (by decide) ?_
    have hF := Option.some.inj hF
    subst hF
    exact hQ _ _ _ _ dX5_refusal_9 hP hD hS
theorem c_X5_refusal (l : Launch) (D : va_G) (ky : Nat → ClassId) (aS aSi : Nat) (sz N : Nat)  (sla : Int32) (ssz : Int32) (sit : Nat → Int32) (p0 : Int32) (p1 : Int32) (p2 : Int32) (rv : Int32) (hF : f_X5_refusal N p0 p1 p2 sla ssz = some (rv)) : MI l yX5_refusal wsX5_refusal rm_X5_refusal D ky sz [.ref aS, .int p0, .int p1, .int p2] (w_sheet ky aS aSi sla ssz sit) (w_sheet ky aS aSi sla ssz sit) rv :=
  cr_X5_refusal l D ky aS aSi sz N sla ssz sit p0 p1 p2 (rv) hF
abbrev rm_X5_at : Room := { frames := 0, cells := 0, slots := 0, locals := 0 }
theorem iX5_at_X5 : ∀ w ∈ wsX50, w ∈ wsX5_at := by decide +kernel
theorem kX5_at_1 : (Cond.fieldLink RX5 19 "TwoLaws$Sheet" "size" "I") ∈ wsX5_at := by decide +kernel
theorem kX5_at_2 : (Cond.fieldLink RX5 11 "TwoLaws$Sheet" "items" "[I") ∈ wsX5_at := by decide +kernel
set_option maxHeartbeats 4000000 in
set_option maxRecDepth 100000 in
theorem cr_X5_at (l : Launch) (D : va_G) (ky : Nat → ClassId) (aS aSi : Nat) (sz N : Nat)  (sla : Int32) (ssz : Int32) (sit : Nat → Int32) (p0 : Int32) (res : Int32) (hF : f_X5_at N p0 ssz sit = some res) : MI l yX5_at wsX5_at rm_X5_at D ky sz [.ref aS, .int p0] (w_sheet ky aS aSi sla ssz sit) (w_sheet ky aS aSi sla ssz sit) res := by
  unfold MI
  refine Met.ofW (cc := cX5_at) (maxL := 2) (ret := (some .int)) (by decide) rfl ?_
  intro p e s m args below meth c s₁ B hml hv
  obtain ⟨rfl, hsz, hP, hK, hD0⟩ := hv
  have hx := B.exec
  have hb := B.bytes
  have hr := B.returns
  have hts := atoms_spec (ws := wsX5_at) B.pre
  have hown : s.vm.findClass RX5 = some m.cls := findClass_of_methodNamed B.named
  have hlocks := B.notSynchronized
  subst hsz
  have hD := hD0.self (sz := s.heap.size)
  generalize hAe : va_A (w_sheet ky aS aSi sla ssz sit) s.heap.size = A at hD ⊢
  have hA : ∀ q : Nat, s.heap.size ≤ q → A q := fun q h => by rw [← hAe]; exact Or.inr h
  have hS : va_S A s.heap s.heap [] := va_S.rf
  have hP : va_P D vwCl (w_sheet ky aS aSi sla ssz sit) s.heap := hP
  have hl := lv_entry ([.ref aS, .int p0]) (n := 2) (Nat.le_of_ble_eq_true rfl)
  rw [lg_entry_eq]
  generalize (lg_sl ([.ref aS, .int p0]) ++ List.replicate (2 - (lg_sl ([.ref aS, .int p0])).length) Slot.unset).toArray = ls at hl ⊢
  have hl : lv_has ls 2 [(0, .ref aS), (1, .int p0)] := hl
  have C : cx p s m c ([.ref aS, .int p0]).toArray D ky A cX5_at 2 wsX5_at RX5 := ⟨hx, hb, hml, hown, hts, hK, hA⟩
  have hQ : ∀ (pc : Nat) (H : Heap) (locs : List Loc) (ls : Array Slot), decode cX5_at pc = .ok (.ireturn, 1) → va_P D vwCl (w_sheet ky aS aSi sla ssz sit) H → va_D A (w_sheet ky aS aSi sla ssz sit) → va_S A s.heap H locs → W p l e rm_X5_at s m ([.ref aS, .int p0]).toArray below meth c H locs 0 0 (MQ below (va_Qi (S := Unit) (fun r _ => r = res) (fun _ t => va_P D vwCl (w_sheet ky aS aSi sla ssz sit) t.heap ∧ va_K D vwCl (tyW ky) t ∧ va_D A (w_sheet ky aS aSi sla ssz sit)) A) ([.ref aS, .int p0]).toArray s 0 0 A) (F0 m pc ls [.int res]) := fun pc H locs ls hd hP hD hS => W.iret hx hb hr (fun t ht hW => ⟨⟨res, (), rfl, rfl, by rw [ht]; exact hP, va_K.moved hW.alike hK, hD⟩, hS.F ht⟩) hS.2.2 hd
  unfold f_X5_at at hF
  refine lv_iload_n hx hb dX5_at_0 rfl (lv_at hl 1 rfl) ?_
  refine lv_if_lt (tgt := 27) hx hb dX5_at_1 (by decide) (fun c1 => ?_) (fun c1 => ?_)
  · have hF := if_t c1 hF
    refine lv_iconst (v := (0 : Int32)) hx hb dX5_at_27 (by decide) ?_
    have hF := Option.some.inj hF
    subst hF
    exact hQ _ _ _ _ dX5_at_28 hP hD hS
  · have hF := if_f c1 hF
    refine lv_iload_n hx hb dX5_at_4 rfl (lv_at hl 1 rfl) ?_
    refine lv_aload_n hx hb dX5_at_5 rfl (lv_at hl 0 rfl) ?_
    refine va_get (D := D) (ci := 4) (v := .int ssz) (C := RX5) (T := TX5) (N := 3) hx hb hts iX5_at_X5 hown hK hP 0 rfl rfl 2 (by decide) (hts _ kX5_at_1) (fun _ h9 => h9) rfl dX5_at_6 ?_
    refine lv_icmp_ge (tgt := 27) hx hb dX5_at_9 (by decide) (fun c2 => ?_) (fun c2 => ?_)
    · have hF := if_t c2 hF
      refine lv_iconst (v := (0 : Int32)) hx hb dX5_at_27 (by decide) ?_
      have hF := Option.some.inj hF
      subst hF
      exact hQ _ _ _ _ dX5_at_28 hP hD hS
    · have hF := if_f c2 hF
      refine lv_iload_n hx hb dX5_at_12 rfl (lv_at hl 1 rfl) ?_
      refine lv_bipush (v := (36 : Int32)) hx hb dX5_at_13 (by decide) ?_
      refine lv_icmp_ge (tgt := 27) hx hb dX5_at_15 (by decide) (fun c3 => ?_) (fun c3 => ?_)
      · have hF := if_t c3 hF
        refine lv_iconst (v := (0 : Int32)) hx hb dX5_at_27 (by decide) ?_
        have hF := Option.some.inj hF
        subst hF
        exact hQ _ _ _ _ dX5_at_28 hP hD hS
      · have hF := if_f c3 hF
        refine lv_aload_n hx hb dX5_at_18 rfl (lv_at hl 0 rfl) ?_
        refine va_get (D := D) (ci := 4) (v := .ref aSi) (C := RX5) (T := TX5) (N := 3) hx hb hts iX5_at_X5 hown hK hP 0 rfl rfl 0 (by decide) (hts _ kX5_at_2) (fun _ h9 => h9) rfl dX5_at_19 ?_
        refine lv_iload_n hx hb dX5_at_22 rfl (lv_at hl 1 rfl) ?_
        obtain ⟨h4, hF⟩ := gi_s hF
        refine va_iald hx hb hK hP 1 0 rfl rfl h4 dX5_at_23 ?_
        refine lv_goto (tgt := 28) hx hb dX5_at_24 (by decide) ?_
        have hF := Option.some.inj hF
        subst hF
        exact hQ _ _ _ _ dX5_at_28 hP hD hS
theorem c_X5_at (l : Launch) (D : va_G) (ky : Nat → ClassId) (aS aSi : Nat) (sz N : Nat)  (sla : Int32) (ssz : Int32) (sit : Nat → Int32) (p0 : Int32) (rv : Int32) (hF : f_X5_at N p0 ssz sit = some (rv)) : MI l yX5_at wsX5_at rm_X5_at D ky sz [.ref aS, .int p0] (w_sheet ky aS aSi sla ssz sit) (w_sheet ky aS aSi sla ssz sit) rv :=
  cr_X5_at l D ky aS aSi sz N sla ssz sit p0 (rv) hF
abbrev rm_X5_put : Room := { frames := 0, cells := 0, slots := 0, locals := 0 }
theorem iX5_put_X5 : ∀ w ∈ wsX50, w ∈ wsX5_put := by decide +kernel
theorem kX5_put_1 : (Cond.fieldLink RX5 19 "TwoLaws$Sheet" "size" "I") ∈ wsX5_put := by decide +kernel
theorem kX5_put_2 : (Cond.fieldLink RX5 11 "TwoLaws$Sheet" "items" "[I") ∈ wsX5_put := by decide +kernel
theorem kX5_put_3 : (Cond.fieldLink RX5 15 "TwoLaws$Sheet" "lane" "I") ∈ wsX5_put := by decide +kernel
set_option maxHeartbeats 4000000 in
set_option maxRecDepth 100000 in
theorem cr_X5_put (l : Launch) (D : va_G) (ky : Nat → ClassId) (aS aSi : Nat) (sz N : Nat)  (sla : Int32) (ssz : Int32) (sit : Nat → Int32) (p0 : Int32) (p1 : Int32) (res : (Nat → Int32)) (hF : f_X5_put N p0 p1 sla ssz sit = some res) : MV l yX5_put wsX5_put rm_X5_put D ky sz [.ref aS, .int p0, .int p1] (w_sheet ky aS aSi sla ssz sit) (w_sheet ky aS aSi sla ssz res) := by
  unfold MV
  refine Met.ofW (cc := cX5_put) (maxL := 3) (ret := none) (by decide) rfl ?_
  intro p e s m args below meth c s₁ B hml hv
  obtain ⟨rfl, hsz, hP, hK, hD0⟩ := hv
  have hx := B.exec
  have hb := B.bytes
  have hr := B.returns
  have hts := atoms_spec (ws := wsX5_put) B.pre
  have hown : s.vm.findClass RX5 = some m.cls := findClass_of_methodNamed B.named
  have hlocks := B.notSynchronized
  subst hsz
  have hD := hD0.self (sz := s.heap.size)
  generalize hAe : va_A (w_sheet ky aS aSi sla ssz sit) s.heap.size = A at hD ⊢
  have hA : ∀ q : Nat, s.heap.size ≤ q → A q := fun q h => by rw [← hAe]; exact Or.inr h
  have hS : va_S A s.heap s.heap [] := va_S.rf
  have hP : va_P D vwCl (w_sheet ky aS aSi sla ssz sit) s.heap := hP
  have hl := lv_entry ([.ref aS, .int p0, .int p1]) (n := 3) (Nat.le_of_ble_eq_true rfl)
  rw [lg_entry_eq]
  generalize (lg_sl ([.ref aS, .int p0, .int p1]) ++ List.replicate (3 - (lg_sl ([.ref aS, .int p0, .int p1])).length) Slot.unset).toArray = ls at hl ⊢
  have hl : lv_has ls 3 [(0, .ref aS), (1, .int p0), (2, .int p1)] := hl
  have C : cx p s m c ([.ref aS, .int p0, .int p1]).toArray D ky A cX5_put 3 wsX5_put RX5 := ⟨hx, hb, hml, hown, hts, hK, hA⟩
  have hQ : ∀ (pc : Nat) (H : Heap) (locs : List Loc) (ls : Array Slot), decode cX5_put pc = .ok (.return_, 1) → va_P D vwCl (w_sheet ky aS aSi sla ssz res) H → va_D A (w_sheet ky aS aSi sla ssz res) → va_S A s.heap H locs → W p l e rm_X5_put s m ([.ref aS, .int p0, .int p1]).toArray below meth c H locs 0 0 (MQ below (va_Qv (S := Unit) (fun _ => True) (fun _ t => va_P D vwCl (w_sheet ky aS aSi sla ssz res) t.heap ∧ va_K D vwCl (tyW ky) t ∧ va_D A (w_sheet ky aS aSi sla ssz res)) A) ([.ref aS, .int p0, .int p1]).toArray s 0 0 A) (F0 m pc ls []) := fun pc H locs ls hd hP hD hS => W.vret hx hb hr (fun t ht hW => ⟨⟨(), rfl, trivial, by rw [ht]; exact hP, va_K.moved hW.alike hK, hD⟩, hS.F ht⟩) hS.2.2 hd
  unfold f_X5_put at hF
  refine lv_iload_n hx hb dX5_put_0 rfl (lv_at hl 1 rfl) ?_
  refine lv_if_lt (tgt := 50) hx hb dX5_put_1 (by decide) (fun c1 => ?_) (fun c1 => ?_)
  · have hF := if_t c1 hF
    have hF := Option.some.inj hF
    subst hF
    exact hQ _ _ _ _ dX5_put_50 hP hD hS
  · have hF := if_f c1 hF
    refine lv_iload_n hx hb dX5_put_4 rfl (lv_at hl 1 rfl) ?_
    refine lv_aload_n hx hb dX5_put_5 rfl (lv_at hl 0 rfl) ?_
    refine va_get (D := D) (ci := 4) (v := .int ssz) (C := RX5) (T := TX5) (N := 3) hx hb hts iX5_put_X5 hown hK hP 0 rfl rfl 2 (by decide) (hts _ kX5_put_1) (fun _ h9 => h9) rfl dX5_put_6 ?_
    refine lv_icmp_ge (tgt := 50) hx hb dX5_put_9 (by decide) (fun c2 => ?_) (fun c2 => ?_)
    · have hF := if_t c2 hF
      have hF := Option.some.inj hF
      subst hF
      exact hQ _ _ _ _ dX5_put_50 hP hD hS
    · have hF := if_f c2 hF
      refine lv_iload_n hx hb dX5_put_12 rfl (lv_at hl 1 rfl) ?_
      refine lv_bipush (v := (36 : Int32)) hx hb dX5_put_13 (by decide) ?_
      refine lv_icmp_ge (tgt := 50) hx hb dX5_put_15 (by decide) (fun c3 => ?_) (fun c3 => ?_)
      · have hF := if_t c3 hF
        have hF := Option.some.inj hF
        subst hF
        exact hQ _ _ _ _ dX5_put_50 hP hD hS
      · have hF := if_f c3 hF
        refine lv_aload_n hx hb dX5_put_18 rfl (lv_at hl 0 rfl) ?_
        refine va_get (D := D) (ci := 4) (v := .ref aSi) (C := RX5) (T := TX5) (N := 3) hx hb hts iX5_put_X5 hown hK hP 0 rfl rfl 0 (by decide) (hts _ kX5_put_2) (fun _ h9 => h9) rfl dX5_put_19 ?_
        refine lv_iload_n hx hb dX5_put_22 rfl (lv_at hl 1 rfl) ?_
        refine lv_aload_n hx hb dX5_put_23 rfl (lv_at hl 0 rfl) ?_
        refine va_get (D := D) (ci := 4) (v := .int sla) (C := RX5) (T := TX5) (N := 3) hx hb hts iX5_put_X5 hown hK hP 0 rfl rfl 1 (by decide) (hts _ kX5_put_3) (fun _ h9 => h9) rfl dX5_put_24 ?_
        refine lv_if_ne (tgt := 35) hx hb dX5_put_27 (by decide) (fun c4 => ?_) (fun c4 => ?_)
        · have hF := if_f c4 hF
          refine lv_aload_n hx hb dX5_put_35 rfl (lv_at hl 0 rfl) ?_
          refine va_get (D := D) (ci := 4) (v := .int sla) (C := RX5) (T := TX5) (N := 3) hx hb hts iX5_put_X5 hown hK hP 0 rfl rfl 1 (by decide) (hts _ kX5_put_3) (fun _ h9 => h9) rfl dX5_put_36 ?_
          refine lv_iconst (v := (1 : Int32)) hx hb dX5_put_39 (by decide) ?_
          refine lv_icmp_ne (tgt := 48) hx hb dX5_put_40 (by decide) (fun c5 => ?_) (fun c5 => ?_)
          · have hF := if_f c5 hF
            refine lv_iload_n hx hb dX5_put_48 rfl (lv_at hl 2 rfl) ?_
            obtain ⟨h6, hF⟩ := gi_s hF
            refine va_iast hx hb hK hP hD hS 1 0 rfl rfl h6 dX5_put_49 (fun H locs hP hD hS => ?_)
            have hP : va_P D vwCl (w_sheet ky aS aSi sla ssz (upd sit p0.toNatClampNeg p1)) H := hP
            have hD : va_D A (w_sheet ky aS aSi sla ssz (upd sit p0.toNatClampNeg p1)) := hD
            have hF := Option.some.inj hF
            subst hF
            exact hQ _ _ _ _ dX5_put_50 hP hD hS
          · have hF := if_t c5 hF
            refine lv_iload_n hx hb dX5_put_43 rfl (lv_at hl 2 rfl) ?_
            refine lv_i2s (v := (p1.toInt16.toInt32)) hx hb dX5_put_44 rfl ?_
            refine lv_goto (tgt := 49) hx hb dX5_put_45 (by decide) ?_
            obtain ⟨h7, hF⟩ := gi_s hF
            refine va_iast hx hb hK hP hD hS 1 0 rfl rfl h7 dX5_put_49 (fun H locs hP hD hS => ?_)
            have hP : va_P D vwCl (w_sheet ky aS aSi sla ssz (upd sit p0.toNatClampNeg (p1.toInt16.toInt32))) H := hP
            have hD : va_D A (w_sheet ky aS aSi sla ssz (upd sit p0.toNatClampNeg (p1.toInt16.toInt32))) := hD
            have hF := Option.some.inj hF
            subst hF
            exact hQ _ _ _ _ dX5_put_50 hP hD hS
        · have hF := if_t c4 hF
          refine lv_iload_n hx hb dX5_put_30 rfl (lv_at hl 2 rfl) ?_
          refine lv_i2b (v := (p1.toInt8.toInt32)) hx hb dX5_put_31 rfl ?_
          refine lv_goto (tgt := 49) hx hb dX5_put_32 (by decide) ?_
          obtain ⟨h8, hF⟩ := gi_s hF
          refine va_iast hx hb hK hP hD hS 1 0 rfl rfl h8 dX5_put_49 (fun H locs hP hD hS => ?_)
          have hP : va_P D vwCl (w_sheet ky aS aSi sla ssz (upd sit p0.toNatClampNeg (p1.toInt8.toInt32))) H := hP
          have hD : va_D A (w_sheet ky aS aSi sla ssz (upd sit p0.toNatClampNeg (p1.toInt8.toInt32))) := hD
          have hF := Option.some.inj hF
          subst hF
          exact hQ _ _ _ _ dX5_put_50 hP hD hS
theorem c_X5_put (l : Launch) (D : va_G) (ky : Nat → ClassId) (aS aSi : Nat) (sz N : Nat)  (sla : Int32) (ssz : Int32) (sit : Nat → Int32) (p0 : Int32) (p1 : Int32) (sit' : Nat → Int32) (hF : f_X5_put N p0 p1 sla ssz sit = some (sit')) : MV l yX5_put wsX5_put rm_X5_put D ky sz [.ref aS, .int p0, .int p1] (w_sheet ky aS aSi sla ssz sit) (w_sheet ky aS aSi sla ssz sit') :=
  cr_X5_put l D ky aS aSi sz N sla ssz sit p0 p1 (sit') hF
abbrev rm_X5_allWithin : Room := { frames := 1, cells := 0, slots := 0, locals := 21 }
set_option maxHeartbeats 4000000 in
set_option maxRecDepth 100000 in
theorem w_X5_allWithin_3 {p : Program} {l : Launch} {e : Env} {s : State} {m : MethodId} {args : Array Value} {below : List Frame} {meth : Method} {c : Code} {Q : State → Prop} {A : Nat → Prop} {D : va_G} {ky : Nat → ClassId} {aS aSi : Nat} {sla : Int32} {ssz : Int32} {sit : Nat → Int32} (N : Nat) (C : cx p s m c args D ky A cX5_allWithin 6 wsX5_allWithin RX5) (res : Int32) (hQ : ∀ (pc : Nat) (H : Heap) (locs : List Loc) (ls : Array Slot), decode cX5_allWithin pc = .ok (.ireturn, 1) → (res = 0 ∨ res = 1) → va_P D vwCl (w_sheet ky aS aSi sla ssz sit) H → va_D A (w_sheet ky aS aSi sla ssz sit) → va_S A s.heap H locs → W p l e rm_X5_allWithin s m args below meth c H locs 0 0 Q (F0 m pc ls [.int res])) (l1 : Int32) (l2 : Int32) (l3 : Int32) (l4 : Int32) : ∀ (n : Nat) (l5 : Int32), f_X5_allWithin_3 N l1 l2 l3 l4 ssz sit n l5 = some res → ∀ (H : Heap) (locs : List Loc) (ls : Array Slot), va_P D vwCl (w_sheet ky aS aSi sla ssz sit) H → va_D A (w_sheet ky aS aSi sla ssz sit) → va_S A s.heap H locs → lv_has ls 6 [(0, .ref aS), (1, .int l1), (2, .int l2), (3, .int l3), (4, .int l4), (5, .int l5)] → W p l e rm_X5_allWithin s m args below meth c H locs 0 0 Q (F0 m 3 ls []) := by
  obtain ⟨hx, hb, hml, hown, hts, hK, hA⟩ := id C
  intro n
  induction n with
  | zero =>
    intro l5 hF
    cases hF
  | succ n ih =>
    intro l5 hF H locs ls hP hD hS hl
    have hF : b_X5_allWithin_3 N l1 l2 l3 l4 ssz sit (f_X5_allWithin_3 N l1 l2 l3 l4 ssz sit n) l5 = some res := hF
    unfold b_X5_allWithin_3 at hF
    refine lv_iload hx hb dX5_allWithin_3 (lv_at hl 5 rfl) ?_
    refine lv_iload_n hx hb dX5_allWithin_5 rfl (lv_at hl 2 rfl) ?_
    refine lv_icmp_ge (tgt := 42) hx hb dX5_allWithin_6 (by decide) (fun c1 => ?_) (fun c1 => ?_)
    · have hF := if_t c1 hF
      refine lv_iconst (v := (1 : Int32)) hx hb dX5_allWithin_42 (by decide) ?_
      have hF := Option.some.inj hF
      subst hF
      exact hQ _ H _ _ dX5_allWithin_43 (Or.inr rfl) hP hD hS
    · have hF := if_f c1 hF
      refine lv_aload_n hx hb dX5_allWithin_9 rfl (lv_at hl 0 rfl) ?_
      refine lv_iload_n hx hb dX5_allWithin_10 rfl (lv_at hl 1 rfl) ?_
      refine lv_iload hx hb dX5_allWithin_11 (lv_at hl 5 rfl) ?_
      refine lv_iadd hx hb dX5_allWithin_13 ?_
      obtain ⟨r3, h2, hF⟩ := b1_s hF
      refine cl_vi (As := [.int (l1 + l5)]) (rest := []) (w' := (w_sheet ky aS aSi sla ssz sit)) ⟨hx, hb, hml, hown, hts⟩ hK hP hD hS hA (c_X5_at l D ky aS aSi _ N  sla ssz sit (l1 + l5) r3 h2) (cwV 1 hts gX5_allWithin_X5_at rfl rfl rfl (by decide +kernel) ⟨Nat.le_of_ble_eq_true rfl, Nat.le_of_ble_eq_true rfl⟩) [0, 1] [] [0, 1] 0 4 rfl rfl rfl rfl (wr := []) rfl (by decide) rfl rfl hl.1 (Nat.le_of_ble_eq_true rfl) dX5_allWithin_14 ⟨Nat.zero_le _, Nat.zero_le _⟩ (fun H locs hP hD hS => ?_)
      refine lv_iload_n hx hb dX5_allWithin_17 rfl (lv_at hl 3 rfl) ?_
      refine lv_icmp_lt (tgt := 34) hx hb dX5_allWithin_18 (by decide) (fun c4 => ?_) (fun c4 => ?_)
      · have hF := if_t c4 hF
        refine lv_iconst (v := (0 : Int32)) hx hb dX5_allWithin_34 (by decide) ?_
        have hF := Option.some.inj hF
        subst hF
        exact hQ _ H _ _ dX5_allWithin_35 (Or.inl rfl) hP hD hS
      · have hF := if_f c4 hF
        refine lv_aload_n hx hb dX5_allWithin_21 rfl (lv_at hl 0 rfl) ?_
        refine lv_iload_n hx hb dX5_allWithin_22 rfl (lv_at hl 1 rfl) ?_
        refine lv_iload hx hb dX5_allWithin_23 (lv_at hl 5 rfl) ?_
        refine lv_iadd hx hb dX5_allWithin_25 ?_
        obtain ⟨r6, h5, hF⟩ := b1_s hF
        refine cl_vi (As := [.int (l1 + l5)]) (rest := []) (w' := (w_sheet ky aS aSi sla ssz sit)) ⟨hx, hb, hml, hown, hts⟩ hK hP hD hS hA (c_X5_at l D ky aS aSi _ N  sla ssz sit (l1 + l5) r6 h5) (cwV 1 hts gX5_allWithin_X5_at rfl rfl rfl (by decide +kernel) ⟨Nat.le_of_ble_eq_true rfl, Nat.le_of_ble_eq_true rfl⟩) [0, 1] [] [0, 1] 0 4 rfl rfl rfl rfl (wr := []) rfl (by decide) rfl rfl hl.1 (Nat.le_of_ble_eq_true rfl) dX5_allWithin_26 ⟨Nat.zero_le _, Nat.zero_le _⟩ (fun H locs hP hD hS => ?_)
        refine lv_iload hx hb dX5_allWithin_29 (lv_at hl 4 rfl) ?_
        refine lv_icmp_le (tgt := 36) hx hb dX5_allWithin_31 (by decide) (fun c7 => ?_) (fun c7 => ?_)
        · have hF := if_t c7 hF
          refine lv_iinc (v := (l5 + (1 : Int32))) (lv' := [(5, .int (l5 + (1 : Int32))), (0, .ref aS), (1, .int l1), (2, .int l2), (3, .int l3), (4, .int l4)]) hx hb dX5_allWithin_36 hl (k := 5) rfl rfl (by decide) rfl (fun ls hl => ?_)
          refine lv_goto (tgt := 3) hx hb dX5_allWithin_39 (by decide) ?_
          exact ih (l5 + (1 : Int32)) hF H _ _ hP hD hS (lv_sub hl [1, 2, 3, 4, 5, 0] rfl)
        · have hF := if_f c7 hF
          refine lv_iconst (v := (0 : Int32)) hx hb dX5_allWithin_34 (by decide) ?_
          have hF := Option.some.inj hF
          subst hF
          exact hQ _ H _ _ dX5_allWithin_35 (Or.inl rfl) hP hD hS
set_option maxHeartbeats 4000000 in
set_option maxRecDepth 100000 in
theorem cr_X5_allWithin (l : Launch) (D : va_G) (ky : Nat → ClassId) (aS aSi : Nat) (sz N : Nat)  (sla : Int32) (ssz : Int32) (sit : Nat → Int32) (p0 : Int32) (p1 : Int32) (p2 : Int32) (p3 : Int32) (res : Int32) (hF : f_X5_allWithin N p0 p1 p2 p3 ssz sit = some res) : MI l yX5_allWithin wsX5_allWithin rm_X5_allWithin D ky sz [.ref aS, .int p0, .int p1, .int p2, .int p3] (w_sheet ky aS aSi sla ssz sit) (w_sheet ky aS aSi sla ssz sit) res := by
  unfold MI
  refine Met.ofW (cc := cX5_allWithin) (maxL := 6) (ret := (some .boolean)) (by decide) rfl ?_
  intro p e s m args below meth c s₁ B hml hv
  obtain ⟨rfl, hsz, hP, hK, hD0⟩ := hv
  have hx := B.exec
  have hb := B.bytes
  have hr := B.returns
  have hts := atoms_spec (ws := wsX5_allWithin) B.pre
  have hown : s.vm.findClass RX5 = some m.cls := findClass_of_methodNamed B.named
  have hlocks := B.notSynchronized
  subst hsz
  have hD := hD0.self (sz := s.heap.size)
  generalize hAe : va_A (w_sheet ky aS aSi sla ssz sit) s.heap.size = A at hD ⊢
  have hA : ∀ q : Nat, s.heap.size ≤ q → A q := fun q h => by rw [← hAe]; exact Or.inr h
  have hS : va_S A s.heap s.heap [] := va_S.rf
  have hP : va_P D vwCl (w_sheet ky aS aSi sla ssz sit) s.heap := hP
  have hl := lv_entry ([.ref aS, .int p0, .int p1, .int p2, .int p3]) (n := 6) (Nat.le_of_ble_eq_true rfl)
  rw [lg_entry_eq]
  generalize (lg_sl ([.ref aS, .int p0, .int p1, .int p2, .int p3]) ++ List.replicate (6 - (lg_sl ([.ref aS, .int p0, .int p1, .int p2, .int p3])).length) Slot.unset).toArray = ls at hl ⊢
  have hl : lv_has ls 6 [(0, .ref aS), (1, .int p0), (2, .int p1), (3, .int p2), (4, .int p3)] := hl
  have C : cx p s m c ([.ref aS, .int p0, .int p1, .int p2, .int p3]).toArray D ky A cX5_allWithin 6 wsX5_allWithin RX5 := ⟨hx, hb, hml, hown, hts, hK, hA⟩
  have hQ : ∀ (pc : Nat) (H : Heap) (locs : List Loc) (ls : Array Slot), decode cX5_allWithin pc = .ok (.ireturn, 1) → (res = 0 ∨ res = 1) → va_P D vwCl (w_sheet ky aS aSi sla ssz sit) H → va_D A (w_sheet ky aS aSi sla ssz sit) → va_S A s.heap H locs → W p l e rm_X5_allWithin s m ([.ref aS, .int p0, .int p1, .int p2, .int p3]).toArray below meth c H locs 0 0 (MQ below (va_Qi (S := Unit) (fun r _ => r = res) (fun _ t => va_P D vwCl (w_sheet ky aS aSi sla ssz sit) t.heap ∧ va_K D vwCl (tyW ky) t ∧ va_D A (w_sheet ky aS aSi sla ssz sit)) A) ([.ref aS, .int p0, .int p1, .int p2, .int p3]).toArray s 0 0 A) (F0 m pc ls [.int res]) := fun pc H locs ls hd hz hP hD hS => W.zret hx hb hr (gz_n hz) (fun t ht hW => ⟨⟨res, (), rfl, rfl, by rw [ht]; exact hP, va_K.moved hW.alike hK, hD⟩, hS.F ht⟩) hS.2.2 hd
  unfold f_X5_allWithin at hF
  refine lv_iconst (v := (0 : Int32)) hx hb dX5_allWithin_0 (by decide) ?_
  refine lv_istore (lv' := [(5, .int (0 : Int32)), (0, .ref aS), (1, .int p0), (2, .int p1), (3, .int p2), (4, .int p3)]) hx hb dX5_allWithin_1 hl (by decide) rfl (fun ls hl => ?_)
  exact w_X5_allWithin_3 N C res hQ p0 p1 p2 p3 N (0 : Int32) hF _ _ _ hP hD hS (lv_sub hl [1, 2, 3, 4, 5, 0] rfl)
theorem c_X5_allWithin (l : Launch) (D : va_G) (ky : Nat → ClassId) (aS aSi : Nat) (sz N : Nat)  (sla : Int32) (ssz : Int32) (sit : Nat → Int32) (p0 : Int32) (p1 : Int32) (p2 : Int32) (p3 : Int32) (rv : Int32) (hF : f_X5_allWithin N p0 p1 p2 p3 ssz sit = some (rv)) : MI l yX5_allWithin wsX5_allWithin rm_X5_allWithin D ky sz [.ref aS, .int p0, .int p1, .int p2, .int p3] (w_sheet ky aS aSi sla ssz sit) (w_sheet ky aS aSi sla ssz sit) rv :=
  cr_X5_allWithin l D ky aS aSi sz N sla ssz sit p0 p1 p2 p3 (rv) hF
abbrev rm_X5_placesOf : Room := { frames := 1, cells := 0, slots := 0, locals := 21 }
set_option maxHeartbeats 4000000 in
set_option maxRecDepth 100000 in
theorem w_X5_placesOf_6 {p : Program} {l : Launch} {e : Env} {s : State} {m : MethodId} {args : Array Value} {below : List Frame} {meth : Method} {c : Code} {Q : State → Prop} {A : Nat → Prop} {D : va_G} {ky : Nat → ClassId} {aS aSi : Nat} {sla : Int32} {ssz : Int32} {sit : Nat → Int32} (N : Nat) (C : cx p s m c args D ky A cX5_placesOf 6 wsX5_placesOf RX5) (res : Int32) (hQ : ∀ (pc : Nat) (H : Heap) (locs : List Loc) (ls : Array Slot), decode cX5_placesOf pc = .ok (.ireturn, 1) → va_P D vwCl (w_sheet ky aS aSi sla ssz sit) H → va_D A (w_sheet ky aS aSi sla ssz sit) → va_S A s.heap H locs → W p l e rm_X5_placesOf s m args below meth c H locs 0 0 Q (F0 m pc ls [.int res])) (l1 : Int32) (l2 : Int32) (l3 : Int32) : ∀ (n : Nat) (l4 : Int32) (l5 : Int32), f_X5_placesOf_6 N l1 l2 l3 ssz sit n l4 l5 = some res → ∀ (H : Heap) (locs : List Loc) (ls : Array Slot), va_P D vwCl (w_sheet ky aS aSi sla ssz sit) H → va_D A (w_sheet ky aS aSi sla ssz sit) → va_S A s.heap H locs → lv_has ls 6 [(0, .ref aS), (1, .int l1), (2, .int l2), (3, .int l3), (4, .int l4), (5, .int l5)] → W p l e rm_X5_placesOf s m args below meth c H locs 0 0 Q (F0 m 6 ls []) := by
  obtain ⟨hx, hb, hml, hown, hts, hK, hA⟩ := id C
  intro n
  induction n with
  | zero =>
    intro l4 l5 hF
    cases hF
  | succ n ih =>
    intro l4 l5 hF H locs ls hP hD hS hl
    have hF : b_X5_placesOf_6 N l1 l2 l3 ssz sit (f_X5_placesOf_6 N l1 l2 l3 ssz sit n) l4 l5 = some res := hF
    unfold b_X5_placesOf_6 at hF
    refine lv_iload hx hb dX5_placesOf_6 (lv_at hl 5 rfl) ?_
    refine lv_iload_n hx hb dX5_placesOf_8 rfl (lv_at hl 3 rfl) ?_
    refine lv_icmp_ge (tgt := 46) hx hb dX5_placesOf_9 (by decide) (fun c1 => ?_) (fun c1 => ?_)
    · have hF := if_t c1 hF
      refine lv_iload hx hb dX5_placesOf_46 (lv_at hl 4 rfl) ?_
      have hF := Option.some.inj hF
      subst hF
      exact hQ _ H _ _ dX5_placesOf_48 hP hD hS
    · have hF := if_f c1 hF
      refine lv_iload hx hb dX5_placesOf_12 (lv_at hl 5 rfl) ?_
      refine lv_bipush (v := (12 : Int32)) hx hb dX5_placesOf_14 (by decide) ?_
      refine lv_icmp_ge (tgt := 46) hx hb dX5_placesOf_16 (by decide) (fun c2 => ?_) (fun c2 => ?_)
      · have hF := if_t c2 hF
        refine lv_iload hx hb dX5_placesOf_46 (lv_at hl 4 rfl) ?_
        have hF := Option.some.inj hF
        subst hF
        exact hQ _ H _ _ dX5_placesOf_48 hP hD hS
      · have hF := if_f c2 hF
        refine lv_aload_n hx hb dX5_placesOf_19 rfl (lv_at hl 0 rfl) ?_
        refine lv_iload_n hx hb dX5_placesOf_20 rfl (lv_at hl 2 rfl) ?_
        refine lv_iload hx hb dX5_placesOf_21 (lv_at hl 5 rfl) ?_
        refine lv_iadd hx hb dX5_placesOf_23 ?_
        obtain ⟨r4, h3, hF⟩ := b1_s hF
        refine cl_vi (As := [.int (l2 + l5)]) (rest := []) (w' := (w_sheet ky aS aSi sla ssz sit)) ⟨hx, hb, hml, hown, hts⟩ hK hP hD hS hA (c_X5_at l D ky aS aSi _ N  sla ssz sit (l2 + l5) r4 h3) (cwV 1 hts gX5_placesOf_X5_at rfl rfl rfl (by decide +kernel) ⟨Nat.le_of_ble_eq_true rfl, Nat.le_of_ble_eq_true rfl⟩) [0, 1] [] [0, 1] 0 4 rfl rfl rfl rfl (wr := []) rfl (by decide) rfl rfl hl.1 (Nat.le_of_ble_eq_true rfl) dX5_placesOf_24 ⟨Nat.zero_le _, Nat.zero_le _⟩ (fun H locs hP hD hS => ?_)
        refine lv_iload_n hx hb dX5_placesOf_27 rfl (lv_at hl 1 rfl) ?_
        refine lv_icmp_ne (tgt := 40) hx hb dX5_placesOf_28 (by decide) (fun c5 => ?_) (fun c5 => ?_)
        · have hF := if_f c5 hF
          refine lv_iinc (v := (l5 + (1 : Int32))) (lv' := [(5, .int (l5 + (1 : Int32))), (0, .ref aS), (1, .int l1), (2, .int l2), (3, .int l3), (4, .int l4)]) hx hb dX5_placesOf_40 hl (k := 5) rfl rfl (by decide) rfl (fun ls hl => ?_)
          refine lv_goto (tgt := 6) hx hb dX5_placesOf_43 (by decide) ?_
          exact ih l4 (l5 + (1 : Int32)) hF H _ _ hP hD hS (lv_sub hl [1, 2, 3, 4, 5, 0] rfl)
        · have hF := if_t c5 hF
          refine lv_iload hx hb dX5_placesOf_31 (lv_at hl 4 rfl) ?_
          refine lv_iconst (v := (1 : Int32)) hx hb dX5_placesOf_33 (by decide) ?_
          refine lv_iload hx hb dX5_placesOf_34 (lv_at hl 5 rfl) ?_
          refine lv_ishl hx hb dX5_placesOf_36 ?_
          refine lv_ior hx hb dX5_placesOf_37 ?_
          refine lv_istore (lv' := [(4, .int (l4 ||| ((1 : Int32) <<< (l5 &&& 31)))), (0, .ref aS), (1, .int l1), (2, .int l2), (3, .int l3), (5, .int l5)]) hx hb dX5_placesOf_38 hl (by decide) rfl (fun ls hl => ?_)
          refine lv_iinc (v := (l5 + (1 : Int32))) (lv' := [(5, .int (l5 + (1 : Int32))), (4, .int (l4 ||| ((1 : Int32) <<< (l5 &&& 31)))), (0, .ref aS), (1, .int l1), (2, .int l2), (3, .int l3)]) hx hb dX5_placesOf_40 hl (k := 5) rfl rfl (by decide) rfl (fun ls hl => ?_)
          refine lv_goto (tgt := 6) hx hb dX5_placesOf_43 (by decide) ?_
          exact ih (l4 ||| ((1 : Int32) <<< (l5 &&& 31))) (l5 + (1 : Int32)) hF H _ _ hP hD hS (lv_sub hl [2, 3, 4, 5, 1, 0] rfl)
set_option maxHeartbeats 4000000 in
set_option maxRecDepth 100000 in
theorem cr_X5_placesOf (l : Launch) (D : va_G) (ky : Nat → ClassId) (aS aSi : Nat) (sz N : Nat)  (sla : Int32) (ssz : Int32) (sit : Nat → Int32) (p0 : Int32) (p1 : Int32) (p2 : Int32) (res : Int32) (hF : f_X5_placesOf N p0 p1 p2 ssz sit = some res) : MI l yX5_placesOf wsX5_placesOf rm_X5_placesOf D ky sz [.ref aS, .int p0, .int p1, .int p2] (w_sheet ky aS aSi sla ssz sit) (w_sheet ky aS aSi sla ssz sit) res := by
  unfold MI
  refine Met.ofW (cc := cX5_placesOf) (maxL := 6) (ret := (some .int)) (by decide) rfl ?_
  intro p e s m args below meth c s₁ B hml hv
  obtain ⟨rfl, hsz, hP, hK, hD0⟩ := hv
  have hx := B.exec
  have hb := B.bytes
  have hr := B.returns
  have hts := atoms_spec (ws := wsX5_placesOf) B.pre
  have hown : s.vm.findClass RX5 = some m.cls := findClass_of_methodNamed B.named
  have hlocks := B.notSynchronized
  subst hsz
  have hD := hD0.self (sz := s.heap.size)
  generalize hAe : va_A (w_sheet ky aS aSi sla ssz sit) s.heap.size = A at hD ⊢
  have hA : ∀ q : Nat, s.heap.size ≤ q → A q := fun q h => by rw [← hAe]; exact Or.inr h
  have hS : va_S A s.heap s.heap [] := va_S.rf
  have hP : va_P D vwCl (w_sheet ky aS aSi sla ssz sit) s.heap := hP
  have hl := lv_entry ([.ref aS, .int p0, .int p1, .int p2]) (n := 6) (Nat.le_of_ble_eq_true rfl)
  rw [lg_entry_eq]
  generalize (lg_sl ([.ref aS, .int p0, .int p1, .int p2]) ++ List.replicate (6 - (lg_sl ([.ref aS, .int p0, .int p1, .int p2])).length) Slot.unset).toArray = ls at hl ⊢
  have hl : lv_has ls 6 [(0, .ref aS), (1, .int p0), (2, .int p1), (3, .int p2)] := hl
  have C : cx p s m c ([.ref aS, .int p0, .int p1, .int p2]).toArray D ky A cX5_placesOf 6 wsX5_placesOf RX5 := ⟨hx, hb, hml, hown, hts, hK, hA⟩
  have hQ : ∀ (pc : Nat) (H : Heap) (locs : List Loc) (ls : Array Slot), decode cX5_placesOf pc = .ok (.ireturn, 1) → va_P D vwCl (w_sheet ky aS aSi sla ssz sit) H → va_D A (w_sheet ky aS aSi sla ssz sit) → va_S A s.heap H locs → W p l e rm_X5_placesOf s m ([.ref aS, .int p0, .int p1, .int p2]).toArray below meth c H locs 0 0 (MQ below (va_Qi (S := Unit) (fun r _ => r = res) (fun _ t => va_P D vwCl (w_sheet ky aS aSi sla ssz sit) t.heap ∧ va_K D vwCl (tyW ky) t ∧ va_D A (w_sheet ky aS aSi sla ssz sit)) A) ([.ref aS, .int p0, .int p1, .int p2]).toArray s 0 0 A) (F0 m pc ls [.int res]) := fun pc H locs ls hd hP hD hS => W.iret hx hb hr (fun t ht hW => ⟨⟨res, (), rfl, rfl, by rw [ht]; exact hP, va_K.moved hW.alike hK, hD⟩, hS.F ht⟩) hS.2.2 hd
  unfold f_X5_placesOf at hF
  refine lv_iconst (v := (0 : Int32)) hx hb dX5_placesOf_0 (by decide) ?_
  refine lv_istore (lv' := [(4, .int (0 : Int32)), (0, .ref aS), (1, .int p0), (2, .int p1), (3, .int p2)]) hx hb dX5_placesOf_1 hl (by decide) rfl (fun ls hl => ?_)
  refine lv_iconst (v := (0 : Int32)) hx hb dX5_placesOf_3 (by decide) ?_
  refine lv_istore (lv' := [(5, .int (0 : Int32)), (4, .int (0 : Int32)), (0, .ref aS), (1, .int p0), (2, .int p1), (3, .int p2)]) hx hb dX5_placesOf_4 hl (by decide) rfl (fun ls hl => ?_)
  exact w_X5_placesOf_6 N C res hQ p0 p1 p2 N (0 : Int32) (0 : Int32) hF _ _ _ hP hD hS (lv_sub hl [2, 3, 4, 5, 1, 0] rfl)
theorem c_X5_placesOf (l : Launch) (D : va_G) (ky : Nat → ClassId) (aS aSi : Nat) (sz N : Nat)  (sla : Int32) (ssz : Int32) (sit : Nat → Int32) (p0 : Int32) (p1 : Int32) (p2 : Int32) (rv : Int32) (hF : f_X5_placesOf N p0 p1 p2 ssz sit = some (rv)) : MI l yX5_placesOf wsX5_placesOf rm_X5_placesOf D ky sz [.ref aS, .int p0, .int p1, .int p2] (w_sheet ky aS aSi sla ssz sit) (w_sheet ky aS aSi sla ssz sit) rv :=
  cr_X5_placesOf l D ky aS aSi sz N sla ssz sit p0 p1 p2 (rv) hF
