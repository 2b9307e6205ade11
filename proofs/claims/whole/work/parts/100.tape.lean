def f_X6_byteOf (N : Nat) (p0 : Int64) (p1 : Int32) : Option (Int32) :=
  some ((((p0 >>> (((8 : Int32) * p1).toInt64 &&& 63)) &&& (255 : Int64)).toInt32))
def f_X6_isDigit (N : Nat) (p0 : Int32) : Option (Int32) :=
  (if p0 < (48 : Int32) then some ((0 : Int32)) else (if (57 : Int32) < p0 then some ((0 : Int32)) else some ((1 : Int32))))
def b_X6_append_71 (N : Nat)  (l1 : Int64) (k71 : Int32 → Int32 → (Nat → Int32) → Option (Int32 × Int32 × (Nat → Int32))) (l4 : Int32) (tle : Int32) (tby : Nat → Int32) : Option (Int32 × Int32 × (Nat → Int32)) :=
  (if l4 < 0 then some (tle, tle, tby) else (if (120 : Int32) ≤ tle then some (tle, tle, tby) else b1 (f_X6_byteOf N l1 l4) (fun r14 => gi tle 120 (k71 (l4 + (-1 : Int32)) (tle + (1 : Int32)) (upd tby tle.toNatClampNeg r14)))))
def f_X6_append_71 (N : Nat)  (l1 : Int64) : Nat → Int32 → Int32 → (Nat → Int32) → Option (Int32 × Int32 × (Nat → Int32))
  | 0, _, _, _ => none
  | n + 1, l4, tle, tby => b_X6_append_71 N l1 (f_X6_append_71 N l1 n) l4 tle tby
def b_X6_append_16 (N : Nat)  (l1 : Int64) (l3 : Int32) (tle : Int32) (tby : Nat → Int32) (k16 : Int32 → Option (Int32 × Int32 × (Nat → Int32))) (l4 : Int32) : Option (Int32 × Int32 × (Nat → Int32)) :=
  (if l3 ≤ l4 then (if l3 ≤ ((120 : Int32) - tle) then f_X6_append_71 N l1 N (l3 - (1 : Int32)) tle tby else some ((-3 : Int32), tle, tby)) else b1 (f_X6_byteOf N l1 l4) (fun r6 => (if r6 < (32 : Int32) then some ((-1 : Int32), tle, tby) else b1 (f_X6_byteOf N l1 l4) (fun r9 => (if r9 ≤ (126 : Int32) then k16 (l4 + (1 : Int32)) else some ((-1 : Int32), tle, tby))))))
def f_X6_append_16 (N : Nat)  (l1 : Int64) (l3 : Int32) (tle : Int32) (tby : Nat → Int32) : Nat → Int32 → Option (Int32 × Int32 × (Nat → Int32))
  | 0, _ => none
  | n + 1, l4 => b_X6_append_16 N l1 l3 tle tby (f_X6_append_16 N l1 l3 tle tby n) l4
def f_X6_append (N : Nat) (p0 : Int64) (p1 : Int32) (tle : Int32) (tby : Nat → Int32) : Option (Int32 × Int32 × (Nat → Int32)) :=
  (if p1 < (1 : Int32) then some ((-1 : Int32), tle, tby) else (if p1 ≤ (8 : Int32) then f_X6_append_16 N p0 p1 tle tby N (0 : Int32) else some ((-1 : Int32), tle, tby)))
def f_X6_refuse (N : Nat) (p0 : Int32) : Option (Int32 × Int32) :=
  some ((0 : Int32), p0)
def f_X6_look_47 (N : Nat)  (tle : Int32) (tat : Int32) (tby : Nat → Int32) : Option (Int32 × Int32) :=
  (if tle ≤ tat then some ((-1 : Int32), tat) else (if (120 : Int32) ≤ tat then some ((-1 : Int32), tat) else gi tat 120 (some ((tby tat.toNatClampNeg), tat))))
def b_X6_look_0 (N : Nat)  (tle : Int32) (tby : Nat → Int32) (k0 : Int32 → Option (Int32 × Int32)) (tat : Int32) : Option (Int32 × Int32) :=
  (if tle ≤ tat then f_X6_look_47 N tle tat tby else (if (120 : Int32) ≤ tat then f_X6_look_47 N tle tat tby else gi tat 120 ((if (tby tat.toNatClampNeg) = (32 : Int32) then k0 (tat + (1 : Int32)) else f_X6_look_47 N tle tat tby))))
def f_X6_look_0 (N : Nat)  (tle : Int32) (tby : Nat → Int32) : Nat → Int32 → Option (Int32 × Int32)
  | 0, _ => none
  | n + 1, tat => b_X6_look_0 N tle tby (f_X6_look_0 N tle tby n) tat
def f_X6_look (N : Nat) (tle : Int32) (tat : Int32) (tby : Nat → Int32) : Option (Int32 × Int32) :=
  f_X6_look_0 N tle tby N tat
def f_X6_pass (N : Nat) (p0 : Int32) (tle : Int32) (tat : Int32) (tfa : Int32) (tby : Nat → Int32) : Option (Int32 × Int32 × Int32) :=
  b2 (f_X6_look N tle tat tby) (fun r2 v3 => (if r2 = p0 then some ((1 : Int32), (v3 + (1 : Int32)), tfa) else b2 (f_X6_refuse N v3) (fun r6 v7 => gz r6 (some (r6, v3, v7)))))
def f_X6_store (N : Nat) (p0 : Int32) (p1 : Int32) (tnu : Nat → Int32) : Option ((Nat → Int32)) :=
  (if p0 < 0 then some (tnu) else (if (36 : Int32) ≤ p0 then some (tnu) else gi p0 36 (some ((upd tnu p0.toNatClampNeg p1)))))
def f_X6_readNumber_134 (N : Nat)  (l1 : Int32) (l2 : Int32) (l3 : Int32) (l4 : Int32) (tat : Int32) (tfa : Int32) (tnu : Nat → Int32) : Option (Int32 × Int32 × Int32 × (Nat → Int32)) :=
  (if l4 ≤ (99 : Int32) then (if l3 = 0 then b1 (f_X6_store N l1 l4 tnu) (fun v30 => some ((1 : Int32), tat, tfa, v30)) else b1 (f_X6_store N l1 (-l4) tnu) (fun v32 => some ((1 : Int32), tat, tfa, v32))) else b2 (f_X6_refuse N l2) (fun r34 v35 => gz r34 (some (r34, tat, v35, tnu))))
def b_X6_readNumber_61 (N : Nat)  (l1 : Int32) (l2 : Int32) (l3 : Int32) (tle : Int32) (tfa : Int32) (tby : Nat → Int32) (tnu : Nat → Int32) (k61 : Int32 → Int32 → Option (Int32 × Int32 × Int32 × (Nat → Int32))) (l4 : Int32) (tat : Int32) : Option (Int32 × Int32 × Int32 × (Nat → Int32)) :=
  (if tle ≤ tat then f_X6_readNumber_134 N l1 l2 l3 l4 tat tfa tnu else (if (120 : Int32) ≤ tat then f_X6_readNumber_134 N l1 l2 l3 l4 tat tfa tnu else gi tat 120 (b1 (f_X6_isDigit N (tby tat.toNatClampNeg)) (fun r23 => (if r23 = 0 then f_X6_readNumber_134 N l1 l2 l3 l4 tat tfa tnu else gi tat 120 (nm (if (100 : Int32) < ((((10 : Int32) * l4) + (tby tat.toNatClampNeg)) - (48 : Int32)) then (100 : Int32) else ((((10 : Int32) * l4) + (tby tat.toNatClampNeg)) - (48 : Int32))) (fun v26 => k61 v26 (tat + (1 : Int32)))))))))
def f_X6_readNumber_61 (N : Nat)  (l1 : Int32) (l2 : Int32) (l3 : Int32) (tle : Int32) (tfa : Int32) (tby : Nat → Int32) (tnu : Nat → Int32) : Nat → Int32 → Int32 → Option (Int32 × Int32 × Int32 × (Nat → Int32))
  | 0, _, _ => none
  | n + 1, l4, tat => b_X6_readNumber_61 N l1 l2 l3 tle tfa tby tnu (f_X6_readNumber_61 N l1 l2 l3 tle tfa tby tnu n) l4 tat
def f_X6_readNumber_39 (N : Nat)  (l1 : Int32) (l2 : Int32) (l3 : Int32) (tle : Int32) (tat : Int32) (tfa : Int32) (tby : Nat → Int32) (tnu : Nat → Int32) : Option (Int32 × Int32 × Int32 × (Nat → Int32)) :=
  b2 (f_X6_look N tle tat tby) (fun r10 v11 => b1 (f_X6_isDigit N r10) (fun r13 => (if r13 = 0 then b2 (f_X6_refuse N v11) (fun r16 v17 => gz r16 (some (r16, v11, v17, tnu))) else f_X6_readNumber_61 N l1 l2 l3 tle tfa tby tnu N (0 : Int32) v11)))
def f_X6_readNumber_24 (N : Nat)  (l1 : Int32) (l2 : Int32) (t0 : Int32) (tle : Int32) (tat : Int32) (tfa : Int32) (tby : Nat → Int32) (tnu : Nat → Int32) : Option (Int32 × Int32 × Int32 × (Nat → Int32)) :=
  (if t0 = 0 then f_X6_readNumber_39 N l1 l2 t0 tle tat tfa tby tnu else f_X6_readNumber_39 N l1 l2 t0 tle (tat + (1 : Int32)) tfa tby tnu)
def f_X6_readNumber (N : Nat) (p0 : Int32) (tle : Int32) (tat : Int32) (tfa : Int32) (tby : Nat → Int32) (tnu : Nat → Int32) : Option (Int32 × Int32 × Int32 × (Nat → Int32)) :=
  b2 (f_X6_look N tle tat tby) (fun r2 v3 => b2 (f_X6_look N tle v3 tby) (fun r5 v6 => (if r5 = (45 : Int32) then f_X6_readNumber_24 N p0 v3 (1 : Int32) tle v6 tfa tby tnu else f_X6_readNumber_24 N p0 v3 (0 : Int32) tle v6 tfa tby tnu)))
def f_X6_readEnd (N : Nat) (p0 : Int32) (tle : Int32) (tga : Int32) (trr : Int32) (tat : Int32) (tfa : Int32) (tby : Nat → Int32) (tnu : Nat → Int32) : Option (Int32 × Int32 × Int32 × Int32 × (Nat → Int32)) :=
  b2 (f_X6_look N tle tat tby) (fun r2 v3 => (if r2 = (63 : Int32) then b1 (f_X6_store N p0 (0 : Int32) tnu) (fun v6 => b3 (f_X6_pass N (63 : Int32) tle v3 tfa tby) (fun r8 v9 v10 => gz r8 (some (r8, (tga ||| ((1 : Int32) <<< (trr &&& 31))), v9, v10, v6)))) else b4 (f_X6_readNumber N p0 tle v3 tfa tby tnu) (fun r13 v14 v15 v16 => gz r13 (some (r13, tga, v14, v15, v16)))))
def f_X6_readRow (N : Nat) (p0 : Int32) (tle : Int32) (tga : Int32) (trr : Int32) (tat : Int32) (tfa : Int32) (tby : Nat → Int32) (tnu : Nat → Int32) : Option (Int32 × Int32 × Int32 × Int32 × Int32 × (Nat → Int32)) :=
  b2 (f_X6_look N tle tat tby) (fun r2 v3 => (if p0 ≤ trr then b2 (f_X6_refuse N v3) (fun r6 v7 => gz r6 (some (r6, tga, trr, v3, v7, tnu))) else (if trr < (12 : Int32) then b3 (f_X6_pass N (120 : Int32) tle v3 tfa tby) (fun r11 v12 v13 => (if r11 = 0 then some ((0 : Int32), tga, trr, v12, v13, tnu) else b4 (f_X6_readNumber N ((3 : Int32) * trr) tle v12 v13 tby tnu) (fun r16 v17 v18 v19 => (if r16 = 0 then some ((0 : Int32), tga, trr, v17, v18, v19) else b3 (f_X6_pass N (117 : Int32) tle v17 v18 tby) (fun r22 v23 v24 => (if r22 = 0 then some ((0 : Int32), tga, trr, v23, v24, v19) else b4 (f_X6_readNumber N (((3 : Int32) * trr) + (1 : Int32)) tle v23 v24 tby v19) (fun r27 v28 v29 v30 => (if r27 = 0 then some ((0 : Int32), tga, trr, v28, v29, v30) else b3 (f_X6_pass N (121 : Int32) tle v28 v29 tby) (fun r33 v34 v35 => (if r33 = 0 then some ((0 : Int32), tga, trr, v34, v35, v30) else b5 (f_X6_readEnd N (((3 : Int32) * trr) + (2 : Int32)) tle tga trr v34 v35 tby v30) (fun r38 v39 v40 v41 v42 => (if r38 = 0 then some ((0 : Int32), v39, trr, v40, v41, v42) else some ((1 : Int32), v39, (trr + (1 : Int32)), v40, v41, v42))))))))))))) else b2 (f_X6_refuse N v3) (fun r45 v46 => gz r45 (some (r45, tga, trr, v3, v46, tnu))))))
def b_X6_readAll_2 (N : Nat)  (l1 : Int32) (tle : Int32) (tby : Nat → Int32) (k2 : Int32 → Int32 → Int32 → Int32 → Int32 → (Nat → Int32) → Option (Int32 × Int32 × Int32 × Int32 × Int32 × (Nat → Int32))) (l2 : Int32) (tga : Int32) (trr : Int32) (tat : Int32) (tfa : Int32) (tnu : Nat → Int32) : Option (Int32 × Int32 × Int32 × Int32 × Int32 × (Nat → Int32)) :=
  (if l1 < l2 then some ((0 : Int32), tga, trr, tat, tfa, tnu) else b6 (f_X6_readRow N l1 tle tga trr tat tfa tby tnu) (fun r3 v4 v5 v6 v7 v8 => (if r3 = 0 then some ((0 : Int32), v4, v5, v6, v7, v8) else b2 (f_X6_look N tle v6 tby) (fun r11 v12 => (if r11 = (-1 : Int32) then some ((1 : Int32), v4, v5, v12, v7, v8) else b3 (f_X6_pass N (59 : Int32) tle v12 v7 tby) (fun r15 v16 v17 => (if r15 = 0 then some ((0 : Int32), v4, v5, v16, v17, v8) else k2 (l2 + (1 : Int32)) v4 v5 v16 v17 v8)))))))
def f_X6_readAll_2 (N : Nat)  (l1 : Int32) (tle : Int32) (tby : Nat → Int32) : Nat → Int32 → Int32 → Int32 → Int32 → Int32 → (Nat → Int32) → Option (Int32 × Int32 × Int32 × Int32 × Int32 × (Nat → Int32))
  | 0, _, _, _, _, _, _ => none
  | n + 1, l2, tga, trr, tat, tfa, tnu => b_X6_readAll_2 N l1 tle tby (f_X6_readAll_2 N l1 tle tby n) l2 tga trr tat tfa tnu
def f_X6_readAll (N : Nat) (p0 : Int32) (tle : Int32) (tga : Int32) (trr : Int32) (tat : Int32) (tfa : Int32) (tby : Nat → Int32) (tnu : Nat → Int32) : Option (Int32 × Int32 × Int32 × Int32 × Int32 × (Nat → Int32)) :=
  f_X6_readAll_2 N p0 tle tby N (0 : Int32) tga trr tat tfa tnu
def f_X6_read (N : Nat) (p0 : Int32) (tle : Int32) (tfa : Int32) (tby : Nat → Int32) (tnu : Nat → Int32) : Option (Int32 × Int32 × Int32 × Int32 × Int32 × Int32 × (Nat → Int32)) :=
  b6 (f_X6_readAll N p0 tle (0 : Int32) (0 : Int32) (0 : Int32) tfa tby tnu) (fun r2 v3 v4 v5 v6 v7 => (if r2 = 0 then some (((-20 : Int32) - v6), (0 : Int32), v3, v4, v5, v6, v7) else some (v4, (0 : Int32), v3, v4, v5, v6, v7)))
def f_X6_hand (N : Nat) (p0 : Int32) (tga : Int32) (trr : Int32) (tnu : Nat → Int32) (bsz : Int32) (bgp : Int32) (ber : Int32) (bxs : Nat → Int32) (bus : Nat → Int32) (bys : Nat → Int32) (bme : Nat → Int32) : Option (Int32 × Int32 × (Nat → Int32) × (Nat → Int32) × (Nat → Int32) × (Nat → Int32)) :=
  (if p0 < 0 then some (bsz, bgp, bxs, bus, bys, bme) else (if trr ≤ p0 then some (bsz, bgp, bxs, bus, bys, bme) else (if (12 : Int32) ≤ p0 then some (bsz, bgp, bxs, bus, bys, bme) else gi ((3 : Int32) * p0) 36 (gi (((3 : Int32) * p0) + (1 : Int32)) 36 (gi (((3 : Int32) * p0) + (2 : Int32)) 36 ((if ((tga >>> (p0 &&& 31)) &&& (1 : Int32)) = 0 then b7 (f_X0_add N (tnu ((3 : Int32) * p0).toNatClampNeg) (tnu (((3 : Int32) * p0) + (1 : Int32)).toNatClampNeg) (tnu (((3 : Int32) * p0) + (2 : Int32)).toNatClampNeg) (0 : Int32) bsz bgp ber bxs bus bys bme) (fun r9 v10 v11 v12 v13 v14 v15 => some (v10, v11, v12, v13, v14, v15)) else b7 (f_X0_add N (tnu ((3 : Int32) * p0).toNatClampNeg) (tnu (((3 : Int32) * p0) + (1 : Int32)).toNatClampNeg) (tnu (((3 : Int32) * p0) + (2 : Int32)).toNatClampNeg) (1 : Int32) bsz bgp ber bxs bus bys bme) (fun r17 v18 v19 v20 v21 v22 v23 => some (v18, v19, v20, v21, v22, v23)))))))))
abbrev rm_X6_byteOf : Room := { frames := 0, cells := 0, slots := 0, locals := 0 }
theorem kX6_byteOf_0 : (Cond.constantLong RX6 38 (255)) ∈ wsX6_byteOf := by decide +kernel
set_option maxHeartbeats 4000000 in
set_option maxRecDepth 100000 in
theorem cr_X6_byteOf (l : Launch) (D : va_G) (ky : Nat → ClassId)  (sz N : Nat)   (p0 : Int64) (p1 : Int32) (res : Int32) (hF : f_X6_byteOf N p0 p1 = some res) : MI l yX6_byteOf wsX6_byteOf rm_X6_byteOf D ky sz [.long p0, .int p1] [] [] res := by
  unfold MI
  refine Met.ofW (cc := cX6_byteOf) (maxL := 3) (ret := (some .int)) (by decide) rfl ?_
  intro p e s m args below meth c s₁ B hml hv
  obtain ⟨rfl, hsz, hP, hK, hD0⟩ := hv
  have hx := B.exec
  have hb := B.bytes
  have hr := B.returns
  have hts := atoms_spec (ws := wsX6_byteOf) B.pre
  have hown : s.vm.findClass RX6 = some m.cls := findClass_of_methodNamed B.named
  have hlocks := B.notSynchronized
  subst hsz
  have hD := hD0.self (sz := s.heap.size)
  generalize hAe : va_A [] s.heap.size = A at hD ⊢
  have hA : ∀ q : Nat, s.heap.size ≤ q → A q := fun q h => by rw [← hAe]; exact Or.inr h
  have hS : va_S A s.heap s.heap [] := va_S.rf
  have hP : va_P D vwCl [] s.heap := hP
  have hl := lv_entry ([.long p0, .int p1]) (n := 3) (Nat.le_of_ble_eq_true rfl)
  rw [lg_entry_eq]
  generalize (lg_sl ([.long p0, .int p1]) ++ List.replicate (3 - (lg_sl ([.long p0, .int p1])).length) Slot.unset).toArray = ls at hl ⊢
  have hl : lv_has ls 3 [(0, .long p0), (2, .int p1)] := hl
  have C : cx p s m c ([.long p0, .int p1]).toArray D ky A cX6_byteOf 3 wsX6_byteOf RX6 := ⟨hx, hb, hml, hown, hts, hK, hA⟩
  have hQ : ∀ (pc : Nat) (H : Heap) (locs : List Loc) (ls : Array Slot), decode cX6_byteOf pc = .ok (.ireturn, 1) → va_P D vwCl [] H → va_D A [] → va_S A s.heap H locs → W p l e rm_X6_byteOf s m ([.long p0, .int p1]).toArray below meth c H locs 0 0 (MQ below (va_Qi (S := Unit) (fun r _ => r = res) (fun _ t => va_P D vwCl [] t.heap ∧ va_K D vwCl (tyW ky) t ∧ va_D A []) A) ([.long p0, .int p1]).toArray s 0 0 A) (F0 m pc ls [.int res]) := fun pc H locs ls hd hP hD hS => W.iret hx hb hr (fun t ht hW => ⟨⟨res, (), rfl, rfl, by rw [ht]; exact hP, va_K.moved hW.alike hK, hD⟩, hS.F ht⟩) hS.2.2 hd
  unfold f_X6_byteOf at hF
  refine lv_lload_n hx hb dX6_byteOf_0 rfl (lv_at hl 0 rfl) ?_
  refine lv_bipush (v := (8 : Int32)) hx hb dX6_byteOf_1 (by decide) ?_
  refine lv_iload_n hx hb dX6_byteOf_3 rfl (lv_at hl 1 rfl) ?_
  refine lv_imul hx hb dX6_byteOf_4 ?_
  refine lv_lshr (v := (p0 >>> (((8 : Int32) * p1).toInt64 &&& 63))) hx hb dX6_byteOf_5 rfl ?_
  refine lv_ldc2 hx hb hown (hts _ kX6_byteOf_0) dX6_byteOf_6 ?_
  refine lv_land hx hb dX6_byteOf_9 ?_
  refine lv_l2i (v := (((p0 >>> (((8 : Int32) * p1).toInt64 &&& 63)) &&& (255 : Int64)).toInt32)) hx hb dX6_byteOf_10 rfl ?_
  have hF := Option.some.inj hF
  subst hF
  exact hQ _ _ _ _ dX6_byteOf_11 hP hD hS
theorem c_X6_byteOf (l : Launch) (D : va_G) (ky : Nat → ClassId)  (sz N : Nat)   (p0 : Int64) (p1 : Int32) (rv : Int32) (hF : f_X6_byteOf N p0 p1 = some (rv)) : MI l yX6_byteOf wsX6_byteOf rm_X6_byteOf D ky sz [.long p0, .int p1] [] [] rv :=
  cr_X6_byteOf l D ky  sz N p0 p1 (rv) hF
abbrev rm_X6_isDigit : Room := { frames := 0, cells := 0, slots := 0, locals := 0 }
set_option maxHeartbeats 4000000 in
set_option maxRecDepth 100000 in
theorem cr_X6_isDigit (l : Launch) (D : va_G) (ky : Nat → ClassId)  (sz N : Nat)   (p0 : Int32) (res : Int32) (hF : f_X6_isDigit N p0 = some res) : MI l yX6_isDigit wsX6_isDigit rm_X6_isDigit D ky sz [.int p0] [] [] res := by
  unfold MI
  refine Met.ofW (cc := cX6_isDigit) (maxL := 1) (ret := (some .boolean)) (by decide) rfl ?_
  intro p e s m args below meth c s₁ B hml hv
  obtain ⟨rfl, hsz, hP, hK, hD0⟩ := hv
  have hx := B.exec
  have hb := B.bytes
  have hr := B.returns
  have hts := atoms_spec (ws := wsX6_isDigit) B.pre
  have hown : s.vm.findClass RX6 = some m.cls := findClass_of_methodNamed B.named
  have hlocks := B.notSynchronized
  subst hsz
  have hD := hD0.self (sz := s.heap.size)
  generalize hAe : va_A [] s.heap.size = A at hD ⊢
  have hA : ∀ q : Nat, s.heap.size ≤ q → A q := fun q h => by rw [← hAe]; exact Or.inr h
  have hS : va_S A s.heap s.heap [] := va_S.rf
  have hP : va_P D vwCl [] s.heap := hP
  have hl := lv_entry ([.int p0]) (n := 1) (Nat.le_of_ble_eq_true rfl)
  rw [lg_entry_eq]
  generalize (lg_sl ([.int p0]) ++ List.replicate (1 - (lg_sl ([.int p0])).length) Slot.unset).toArray = ls at hl ⊢
  have hl : lv_has ls 1 [(0, .int p0)] := hl
  have C : cx p s m c ([.int p0]).toArray D ky A cX6_isDigit 1 wsX6_isDigit RX6 := ⟨hx, hb, hml, hown, hts, hK, hA⟩
  have hQ : ∀ (pc : Nat) (H : Heap) (locs : List Loc) (ls : Array Slot), decode cX6_isDigit pc = .ok (.ireturn, 1) → (res = 0 ∨ res = 1) → va_P D vwCl [] H → va_D A [] → va_S A s.heap H locs → W p l e rm_X6_isDigit s m ([.int p0]).toArray below meth c H locs 0 0 (MQ below (va_Qi (S := Unit) (fun r _ => r = res) (fun _ t => va_P D vwCl [] t.heap ∧ va_K D vwCl (tyW ky) t ∧ va_D A []) A) ([.int p0]).toArray s 0 0 A) (F0 m pc ls [.int res]) := fun pc H locs ls hd hz hP hD hS => W.zret hx hb hr (gz_n hz) (fun t ht hW => ⟨⟨res, (), rfl, rfl, by rw [ht]; exact hP, va_K.moved hW.alike hK, hD⟩, hS.F ht⟩) hS.2.2 hd
  unfold f_X6_isDigit at hF
  refine lv_iload_n hx hb dX6_isDigit_0 rfl (lv_at hl 0 rfl) ?_
  refine lv_bipush (v := (48 : Int32)) hx hb dX6_isDigit_1 (by decide) ?_
  refine lv_icmp_lt (tgt := 16) hx hb dX6_isDigit_3 (by decide) (fun c1 => ?_) (fun c1 => ?_)
  · have hF := if_t c1 hF
    refine lv_iconst (v := (0 : Int32)) hx hb dX6_isDigit_16 (by decide) ?_
    have hF := Option.some.inj hF
    subst hF
    exact hQ _ _ _ _ dX6_isDigit_17 (Or.inl rfl) hP hD hS
  · have hF := if_f c1 hF
    refine lv_iload_n hx hb dX6_isDigit_6 rfl (lv_at hl 0 rfl) ?_
    refine lv_bipush (v := (57 : Int32)) hx hb dX6_isDigit_7 (by decide) ?_
    refine lv_icmp_gt (tgt := 16) hx hb dX6_isDigit_9 (by decide) (fun c2 => ?_) (fun c2 => ?_)
    · have hF := if_t c2 hF
      refine lv_iconst (v := (0 : Int32)) hx hb dX6_isDigit_16 (by decide) ?_
      have hF := Option.some.inj hF
      subst hF
      exact hQ _ _ _ _ dX6_isDigit_17 (Or.inl rfl) hP hD hS
    · have hF := if_f c2 hF
      refine lv_iconst (v := (1 : Int32)) hx hb dX6_isDigit_12 (by decide) ?_
      refine lv_goto (tgt := 17) hx hb dX6_isDigit_13 (by decide) ?_
      have hF := Option.some.inj hF
      subst hF
      exact hQ _ _ _ _ dX6_isDigit_17 (Or.inr rfl) hP hD hS
theorem c_X6_isDigit (l : Launch) (D : va_G) (ky : Nat → ClassId)  (sz N : Nat)   (p0 : Int32) (rv : Int32) (hF : f_X6_isDigit N p0 = some (rv)) : MI l yX6_isDigit wsX6_isDigit rm_X6_isDigit D ky sz [.int p0] [] [] rv :=
  cr_X6_isDigit l D ky  sz N p0 (rv) hF
abbrev rm_X6_append : Room := { frames := 1, cells := 0, slots := 0, locals := 22 }
theorem iX6_append_X6 : ∀ w ∈ wsX60, w ∈ wsX6_append := by decide +kernel
theorem kX6_append_1 : (Cond.fieldLink RX6 15 "TwoLaws$Tape" "length" "I") ∈ wsX6_append := by decide +kernel
theorem kX6_append_2 : (Cond.fieldLink RX6 11 "TwoLaws$Tape" "bytes" "[I") ∈ wsX6_append := by decide +kernel
set_option maxHeartbeats 4000000 in
set_option maxRecDepth 100000 in
theorem w_X6_append_71 {p : Program} {l : Launch} {e : Env} {s : State} {m : MethodId} {args : Array Value} {below : List Frame} {meth : Method} {c : Code} {Q : State → Prop} {A : Nat → Prop} {D : va_G} {ky : Nat → ClassId} {aT aTb aTn : Nat} {tga : Int32} {trr : Int32} {tat : Int32} {tfa : Int32} {tnu : Nat → Int32} (N : Nat) (C : cx p s m c args D ky A cX6_append 5 wsX6_append RX6) (res : Int32 × Int32 × (Nat → Int32)) (hQ : ∀ (pc : Nat) (H : Heap) (locs : List Loc) (ls : Array Slot), decode cX6_append pc = .ok (.ireturn, 1) → va_P D vwCl (w_tape ky aT aTb aTn res.2.1 tga trr tat tfa res.2.2 tnu) H → va_D A (w_tape ky aT aTb aTn res.2.1 tga trr tat tfa res.2.2 tnu) → va_S A s.heap H locs → W p l e rm_X6_append s m args below meth c H locs 0 0 Q (F0 m pc ls [.int res.1])) (l1 : Int64) : ∀ (n : Nat) (l4 : Int32) (tle : Int32) (tby : Nat → Int32), f_X6_append_71 N l1 n l4 tle tby = some res → ∀ (H : Heap) (locs : List Loc) (ls : Array Slot), va_P D vwCl (w_tape ky aT aTb aTn tle tga trr tat tfa tby tnu) H → va_D A (w_tape ky aT aTb aTn tle tga trr tat tfa tby tnu) → va_S A s.heap H locs → lv_has ls 5 [(0, .ref aT), (1, .long l1), (4, .int l4)] → W p l e rm_X6_append s m args below meth c H locs 0 0 Q (F0 m 71 ls []) := by
  obtain ⟨hx, hb, hml, hown, hts, hK, hA⟩ := id C
  intro n
  induction n with
  | zero =>
    intro l4 tle tby hF
    cases hF
  | succ n ih =>
    intro l4 tle tby hF H locs ls hP hD hS hl
    have hF : b_X6_append_71 N l1 (f_X6_append_71 N l1 n) l4 tle tby = some res := hF
    unfold b_X6_append_71 at hF
    refine lv_iload hx hb dX6_append_71 (lv_at hl 2 rfl) ?_
    refine lv_if_lt (tgt := 116) hx hb dX6_append_73 (by decide) (fun c11 => ?_) (fun c11 => ?_)
    · have hF := if_t c11 hF
      refine lv_aload_n hx hb dX6_append_116 rfl (lv_at hl 0 rfl) ?_
      refine va_get (D := D) (ci := 5) (v := .int tle) (C := RX6) (T := TX6) (N := 7) hx hb hts iX6_append_X6 hown hK hP 0 rfl rfl 1 (by decide) (hts _ kX6_append_1) (fun _ h9 => h9) rfl dX6_append_117 ?_
      have hF := Option.some.inj hF
      subst hF
      exact hQ _ H _ _ dX6_append_120 hP hD hS
    · have hF := if_f c11 hF
      refine lv_aload_n hx hb dX6_append_76 rfl (lv_at hl 0 rfl) ?_
      refine va_get (D := D) (ci := 5) (v := .int tle) (C := RX6) (T := TX6) (N := 7) hx hb hts iX6_append_X6 hown hK hP 0 rfl rfl 1 (by decide) (hts _ kX6_append_1) (fun _ h9 => h9) rfl dX6_append_77 ?_
      refine lv_bipush (v := (120 : Int32)) hx hb dX6_append_80 (by decide) ?_
      refine lv_icmp_ge (tgt := 116) hx hb dX6_append_82 (by decide) (fun c12 => ?_) (fun c12 => ?_)
      · have hF := if_t c12 hF
        refine lv_aload_n hx hb dX6_append_116 rfl (lv_at hl 0 rfl) ?_
        refine va_get (D := D) (ci := 5) (v := .int tle) (C := RX6) (T := TX6) (N := 7) hx hb hts iX6_append_X6 hown hK hP 0 rfl rfl 1 (by decide) (hts _ kX6_append_1) (fun _ h9 => h9) rfl dX6_append_117 ?_
        have hF := Option.some.inj hF
        subst hF
        exact hQ _ H _ _ dX6_append_120 hP hD hS
      · have hF := if_f c12 hF
        refine lv_aload_n hx hb dX6_append_85 rfl (lv_at hl 0 rfl) ?_
        refine va_get (D := D) (ci := 5) (v := .ref aTb) (C := RX6) (T := TX6) (N := 7) hx hb hts iX6_append_X6 hown hK hP 0 rfl rfl 0 (by decide) (hts _ kX6_append_2) (fun _ h9 => h9) rfl dX6_append_86 ?_
        refine lv_aload_n hx hb dX6_append_89 rfl (lv_at hl 0 rfl) ?_
        refine va_get (D := D) (ci := 5) (v := .int tle) (C := RX6) (T := TX6) (N := 7) hx hb hts iX6_append_X6 hown hK hP 0 rfl rfl 1 (by decide) (hts _ kX6_append_1) (fun _ h9 => h9) rfl dX6_append_90 ?_
        refine lv_lload_n hx hb dX6_append_93 rfl (lv_at hl 1 rfl) ?_
        refine lv_iload hx hb dX6_append_94 (lv_at hl 2 rfl) ?_
        obtain ⟨r14, h13, hF⟩ := b1_s hF
        refine cl_si (As := [.long l1, .int l4]) (rest := [.int tle, .ref aTb]) ⟨hx, hb, hml, hown, hts⟩ hK hP hD hS hA (c_X6_byteOf l D ky  _ N   l1 l4 r14 h13) (va_cwS 2 hts gX6_append_X6_byteOf rfl rfl rfl (by decide +kernel) ⟨Nat.le_of_ble_eq_true rfl, Nat.le_of_ble_eq_true rfl⟩) rfl hl.1 (Nat.le_of_ble_eq_true rfl) dX6_append_96 ⟨Nat.zero_le _, Nat.zero_le _⟩ (fun H locs hP hD hS => ?_)
        obtain ⟨h15, hF⟩ := gi_s hF
        refine va_iast hx hb hK hP hD hS 1 0 rfl rfl h15 dX6_append_99 (fun H locs hP hD hS => ?_)
        have hP : va_P D vwCl (w_tape ky aT aTb aTn tle tga trr tat tfa (upd tby tle.toNatClampNeg r14) tnu) H := hP
        have hD : va_D A (w_tape ky aT aTb aTn tle tga trr tat tfa (upd tby tle.toNatClampNeg r14) tnu) := hD
        refine lv_aload_n hx hb dX6_append_100 rfl (lv_at hl 0 rfl) ?_
        refine lv_dup hx hb dX6_append_101 rfl ?_
        refine va_get (D := D) (ci := 5) (v := .int tle) (C := RX6) (T := TX6) (N := 7) hx hb hts iX6_append_X6 hown hK hP 0 rfl rfl 1 (by decide) (hts _ kX6_append_1) (fun _ h9 => h9) rfl dX6_append_102 ?_
        refine lv_iconst (v := (1 : Int32)) hx hb dX6_append_105 (by decide) ?_
        refine lv_iadd hx hb dX6_append_106 ?_
        refine va_put (D := D) (ci := 5) (v := .int (tle + (1 : Int32))) (ty := .int) (C := RX6) (T := TX6) (N := 7) hx hb hts iX6_append_X6 tyX6 tyX6_ok nmX6 hown hK hP hD hS 0 rfl rfl 1 (by decide) (hts _ kX6_append_1) (fun _ h9 => h9) rfl (by decide +kernel) rfl rfl (Nat.le_of_ble_eq_true rfl) dX6_append_107 (fun H locs hP hD hS => ?_)
        have hP : va_P D vwCl (w_tape ky aT aTb aTn (tle + (1 : Int32)) tga trr tat tfa (upd tby tle.toNatClampNeg r14) tnu) H := hP
        have hD : va_D A (w_tape ky aT aTb aTn (tle + (1 : Int32)) tga trr tat tfa (upd tby tle.toNatClampNeg r14) tnu) := hD
        refine lv_iinc (v := (l4 + (-1 : Int32))) (lv' := [(4, .int (l4 + (-1 : Int32))), (0, .ref aT), (1, .long l1)]) hx hb dX6_append_110 hl (k := 2) rfl rfl (by decide) rfl (fun ls hl => ?_)
        refine lv_goto (tgt := 71) hx hb dX6_append_113 (by decide) ?_
        exact ih (l4 + (-1 : Int32)) (tle + (1 : Int32)) (upd tby tle.toNatClampNeg r14) hF H _ _ hP hD hS (lv_sub hl [1, 2, 0] rfl)
set_option maxHeartbeats 4000000 in
set_option maxRecDepth 100000 in
theorem w_X6_append_16 {p : Program} {l : Launch} {e : Env} {s : State} {m : MethodId} {args : Array Value} {below : List Frame} {meth : Method} {c : Code} {Q : State → Prop} {A : Nat → Prop} {D : va_G} {ky : Nat → ClassId} {aT aTb aTn : Nat} {tga : Int32} {trr : Int32} {tat : Int32} {tfa : Int32} {tnu : Nat → Int32} (N : Nat) (C : cx p s m c args D ky A cX6_append 5 wsX6_append RX6) (res : Int32 × Int32 × (Nat → Int32)) (hQ : ∀ (pc : Nat) (H : Heap) (locs : List Loc) (ls : Array Slot), decode cX6_append pc = .ok (.ireturn, 1) → va_P D vwCl (w_tape ky aT aTb aTn res.2.1 tga trr tat tfa res.2.2 tnu) H → va_D A (w_tape ky aT aTb aTn res.2.1 tga trr tat tfa res.2.2 tnu) → va_S A s.heap H locs → W p l e rm_X6_append s m args below meth c H locs 0 0 Q (F0 m pc ls [.int res.1])) (l1 : Int64) (l3 : Int32) (tle : Int32) (tby : Nat → Int32) : ∀ (n : Nat) (l4 : Int32), f_X6_append_16 N l1 l3 tle tby n l4 = some res → ∀ (H : Heap) (locs : List Loc) (ls : Array Slot), va_P D vwCl (w_tape ky aT aTb aTn tle tga trr tat tfa tby tnu) H → va_D A (w_tape ky aT aTb aTn tle tga trr tat tfa tby tnu) → va_S A s.heap H locs → lv_has ls 5 [(0, .ref aT), (1, .long l1), (3, .int l3), (4, .int l4)] → W p l e rm_X6_append s m args below meth c H locs 0 0 Q (F0 m 16 ls []) := by
  obtain ⟨hx, hb, hml, hown, hts, hK, hA⟩ := id C
  intro n
  induction n with
  | zero =>
    intro l4 hF
    cases hF
  | succ n ih =>
    intro l4 hF H locs ls hP hD hS hl
    have hF : b_X6_append_16 N l1 l3 tle tby (f_X6_append_16 N l1 l3 tle tby n) l4 = some res := hF
    unfold b_X6_append_16 at hF
    refine lv_iload hx hb dX6_append_16 (lv_at hl 3 rfl) ?_
    refine lv_iload_n hx hb dX6_append_18 rfl (lv_at hl 2 rfl) ?_
    refine lv_icmp_ge (tgt := 52) hx hb dX6_append_19 (by decide) (fun c3 => ?_) (fun c3 => ?_)
    · have hF := if_t c3 hF
      refine lv_iload_n hx hb dX6_append_52 rfl (lv_at hl 2 rfl) ?_
      refine lv_bipush (v := (120 : Int32)) hx hb dX6_append_53 (by decide) ?_
      refine lv_aload_n hx hb dX6_append_55 rfl (lv_at hl 0 rfl) ?_
      refine va_get (D := D) (ci := 5) (v := .int tle) (C := RX6) (T := TX6) (N := 7) hx hb hts iX6_append_X6 hown hK hP 0 rfl rfl 1 (by decide) (hts _ kX6_append_1) (fun _ h9 => h9) rfl dX6_append_56 ?_
      refine lv_isub hx hb dX6_append_59 ?_
      refine lv_icmp_le (tgt := 66) hx hb dX6_append_60 (by decide) (fun c4 => ?_) (fun c4 => ?_)
      · have hF := if_t c4 hF
        refine lv_iload_n hx hb dX6_append_66 rfl (lv_at hl 2 rfl) ?_
        refine lv_iconst (v := (1 : Int32)) hx hb dX6_append_67 (by decide) ?_
        refine lv_isub hx hb dX6_append_68 ?_
        refine lv_istore (lv' := [(4, .int (l3 - (1 : Int32))), (0, .ref aT), (1, .long l1), (3, .int l3)]) hx hb dX6_append_69 hl (by decide) rfl (fun ls hl => ?_)
        exact w_X6_append_71 N C res hQ l1 N (l3 - (1 : Int32)) tle tby hF H _ _ hP hD hS (lv_sub hl [1, 2, 0] rfl)
      · have hF := if_f c4 hF
        refine lv_bipush (v := (-3 : Int32)) hx hb dX6_append_63 (by decide) ?_
        have hF := Option.some.inj hF
        subst hF
        exact hQ _ H _ _ dX6_append_65 hP hD hS
    · have hF := if_f c3 hF
      refine lv_lload_n hx hb dX6_append_22 rfl (lv_at hl 1 rfl) ?_
      refine lv_iload hx hb dX6_append_23 (lv_at hl 3 rfl) ?_
      obtain ⟨r6, h5, hF⟩ := b1_s hF
      refine cl_si (As := [.long l1, .int l4]) (rest := []) ⟨hx, hb, hml, hown, hts⟩ hK hP hD hS hA (c_X6_byteOf l D ky  _ N   l1 l4 r6 h5) (va_cwS 2 hts gX6_append_X6_byteOf rfl rfl rfl (by decide +kernel) ⟨Nat.le_of_ble_eq_true rfl, Nat.le_of_ble_eq_true rfl⟩) rfl hl.1 (Nat.le_of_ble_eq_true rfl) dX6_append_25 ⟨Nat.zero_le _, Nat.zero_le _⟩ (fun H locs hP hD hS => ?_)
      refine lv_bipush (v := (32 : Int32)) hx hb dX6_append_28 (by decide) ?_
      refine lv_icmp_lt (tgt := 44) hx hb dX6_append_30 (by decide) (fun c7 => ?_) (fun c7 => ?_)
      · have hF := if_t c7 hF
        refine lv_iconst (v := (-1 : Int32)) hx hb dX6_append_44 (by decide) ?_
        have hF := Option.some.inj hF
        subst hF
        exact hQ _ H _ _ dX6_append_45 hP hD hS
      · have hF := if_f c7 hF
        refine lv_lload_n hx hb dX6_append_33 rfl (lv_at hl 1 rfl) ?_
        refine lv_iload hx hb dX6_append_34 (lv_at hl 3 rfl) ?_
        obtain ⟨r9, h8, hF⟩ := b1_s hF
        refine cl_si (As := [.long l1, .int l4]) (rest := []) ⟨hx, hb, hml, hown, hts⟩ hK hP hD hS hA (c_X6_byteOf l D ky  _ N   l1 l4 r9 h8) (va_cwS 2 hts gX6_append_X6_byteOf rfl rfl rfl (by decide +kernel) ⟨Nat.le_of_ble_eq_true rfl, Nat.le_of_ble_eq_true rfl⟩) rfl hl.1 (Nat.le_of_ble_eq_true rfl) dX6_append_36 ⟨Nat.zero_le _, Nat.zero_le _⟩ (fun H locs hP hD hS => ?_)
        refine lv_bipush (v := (126 : Int32)) hx hb dX6_append_39 (by decide) ?_
        refine lv_icmp_le (tgt := 46) hx hb dX6_append_41 (by decide) (fun c10 => ?_) (fun c10 => ?_)
        · have hF := if_t c10 hF
          refine lv_iinc (v := (l4 + (1 : Int32))) (lv' := [(4, .int (l4 + (1 : Int32))), (0, .ref aT), (1, .long l1), (3, .int l3)]) hx hb dX6_append_46 hl (k := 3) rfl rfl (by decide) rfl (fun ls hl => ?_)
          refine lv_goto (tgt := 16) hx hb dX6_append_49 (by decide) ?_
          exact ih (l4 + (1 : Int32)) hF H _ _ hP hD hS (lv_sub hl [1, 2, 3, 0] rfl)
        · have hF := if_f c10 hF
          refine lv_iconst (v := (-1 : Int32)) hx hb dX6_append_44 (by decide) ?_
          have hF := Option.some.inj hF
          subst hF
          exact hQ _ H _ _ dX6_append_45 hP hD hS
set_option maxHeartbeats 4000000 in
set_option maxRecDepth 100000 in
theorem cr_X6_append (l : Launch) (D : va_G) (ky : Nat → ClassId) (aT aTb aTn : Nat) (sz N : Nat)  (tle : Int32) (tga : Int32) (trr : Int32) (tat : Int32) (tfa : Int32) (tby : Nat → Int32) (tnu : Nat → Int32) (p0 : Int64) (p1 : Int32) (res : Int32 × Int32 × (Nat → Int32)) (hF : f_X6_append N p0 p1 tle tby = some res) : MI l yX6_append wsX6_append rm_X6_append D ky sz [.ref aT, .long p0, .int p1] (w_tape ky aT aTb aTn tle tga trr tat tfa tby tnu) (w_tape ky aT aTb aTn res.2.1 tga trr tat tfa res.2.2 tnu) res.1 := by
  unfold MI
  refine Met.ofW (cc := cX6_append) (maxL := 5) (ret := (some .int)) (by decide) rfl ?_
  intro p e s m args below meth c s₁ B hml hv
  obtain ⟨rfl, hsz, hP, hK, hD0⟩ := hv
  have hx := B.exec
  have hb := B.bytes
  have hr := B.returns
  have hts := atoms_spec (ws := wsX6_append) B.pre
  have hown : s.vm.findClass RX6 = some m.cls := findClass_of_methodNamed B.named
  have hlocks := B.notSynchronized
  subst hsz
  have hD := hD0.self (sz := s.heap.size)
  generalize hAe : va_A (w_tape ky aT aTb aTn tle tga trr tat tfa tby tnu) s.heap.size = A at hD ⊢
  have hA : ∀ q : Nat, s.heap.size ≤ q → A q := fun q h => by rw [← hAe]; exact Or.inr h
  have hS : va_S A s.heap s.heap [] := va_S.rf
  have hP : va_P D vwCl (w_tape ky aT aTb aTn tle tga trr tat tfa tby tnu) s.heap := hP
  have hl := lv_entry ([.ref aT, .long p0, .int p1]) (n := 5) (Nat.le_of_ble_eq_true rfl)
  rw [lg_entry_eq]
  generalize (lg_sl ([.ref aT, .long p0, .int p1]) ++ List.replicate (5 - (lg_sl ([.ref aT, .long p0, .int p1])).length) Slot.unset).toArray = ls at hl ⊢
  have hl : lv_has ls 5 [(0, .ref aT), (1, .long p0), (3, .int p1)] := hl
  have C : cx p s m c ([.ref aT, .long p0, .int p1]).toArray D ky A cX6_append 5 wsX6_append RX6 := ⟨hx, hb, hml, hown, hts, hK, hA⟩
  have hQ : ∀ (pc : Nat) (H : Heap) (locs : List Loc) (ls : Array Slot), decode cX6_append pc = .ok (.ireturn, 1) → va_P D vwCl (w_tape ky aT aTb aTn res.2.1 tga trr tat tfa res.2.2 tnu) H → va_D A (w_tape ky aT aTb aTn res.2.1 tga trr tat tfa res.2.2 tnu) → va_S A s.heap H locs → W p l e rm_X6_append s m ([.ref aT, .long p0, .int p1]).toArray below meth c H locs 0 0 (MQ below (va_Qi (S := Unit) (fun r _ => r = res.1) (fun _ t => va_P D vwCl (w_tape ky aT aTb aTn res.2.1 tga trr tat tfa res.2.2 tnu) t.heap ∧ va_K D vwCl (tyW ky) t ∧ va_D A (w_tape ky aT aTb aTn res.2.1 tga trr tat tfa res.2.2 tnu)) A) ([.ref aT, .long p0, .int p1]).toArray s 0 0 A) (F0 m pc ls [.int res.1]) := fun pc H locs ls hd hP hD hS => W.iret hx hb hr (fun t ht hW => ⟨⟨res.1, (), rfl, rfl, by rw [ht]; exact hP, va_K.moved hW.alike hK, hD⟩, hS.F ht⟩) hS.2.2 hd
  unfold f_X6_append at hF
  refine lv_iload_n hx hb dX6_append_0 rfl (lv_at hl 2 rfl) ?_
  refine lv_iconst (v := (1 : Int32)) hx hb dX6_append_1 (by decide) ?_
  refine lv_icmp_lt (tgt := 11) hx hb dX6_append_2 (by decide) (fun c1 => ?_) (fun c1 => ?_)
  · have hF := if_t c1 hF
    refine lv_iconst (v := (-1 : Int32)) hx hb dX6_append_11 (by decide) ?_
    have hF := Option.some.inj hF
    subst hF
    exact hQ _ _ _ _ dX6_append_12 hP hD hS
  · have hF := if_f c1 hF
    refine lv_iload_n hx hb dX6_append_5 rfl (lv_at hl 2 rfl) ?_
    refine lv_bipush (v := (8 : Int32)) hx hb dX6_append_6 (by decide) ?_
    refine lv_icmp_le (tgt := 13) hx hb dX6_append_8 (by decide) (fun c2 => ?_) (fun c2 => ?_)
    · have hF := if_t c2 hF
      refine lv_iconst (v := (0 : Int32)) hx hb dX6_append_13 (by decide) ?_
      refine lv_istore (lv' := [(4, .int (0 : Int32)), (0, .ref aT), (1, .long p0), (3, .int p1)]) hx hb dX6_append_14 hl (by decide) rfl (fun ls hl => ?_)
      exact w_X6_append_16 N C res hQ p0 p1 tle tby N (0 : Int32) hF _ _ _ hP hD hS (lv_sub hl [1, 2, 3, 0] rfl)
    · have hF := if_f c2 hF
      refine lv_iconst (v := (-1 : Int32)) hx hb dX6_append_11 (by decide) ?_
      have hF := Option.some.inj hF
      subst hF
      exact hQ _ _ _ _ dX6_append_12 hP hD hS
theorem c_X6_append (l : Launch) (D : va_G) (ky : Nat → ClassId) (aT aTb aTn : Nat) (sz N : Nat)  (tle : Int32) (tga : Int32) (trr : Int32) (tat : Int32) (tfa : Int32) (tby : Nat → Int32) (tnu : Nat → Int32) (p0 : Int64) (p1 : Int32) (rv : Int32) (tle' : Int32) (tby' : Nat → Int32) (hF : f_X6_append N p0 p1 tle tby = some (rv, tle', tby')) : MI l yX6_append wsX6_append rm_X6_append D ky sz [.ref aT, .long p0, .int p1] (w_tape ky aT aTb aTn tle tga trr tat tfa tby tnu) (w_tape ky aT aTb aTn tle' tga trr tat tfa tby' tnu) rv :=
  cr_X6_append l D ky aT aTb aTn sz N tle tga trr tat tfa tby tnu p0 p1 (rv, tle', tby') hF
abbrev rm_X6_refuse : Room := { frames := 0, cells := 0, slots := 0, locals := 0 }
theorem iX6_refuse_X6 : ∀ w ∈ wsX60, w ∈ wsX6_refuse := by decide +kernel
theorem kX6_refuse_1 : (Cond.fieldLink RX6 31 "TwoLaws$Tape" "fault" "I") ∈ wsX6_refuse := by decide +kernel
set_option maxHeartbeats 4000000 in
set_option maxRecDepth 100000 in
theorem cr_X6_refuse (l : Launch) (D : va_G) (ky : Nat → ClassId) (aT aTb aTn : Nat) (sz N : Nat)  (tle : Int32) (tga : Int32) (trr : Int32) (tat : Int32) (tfa : Int32) (tby : Nat → Int32) (tnu : Nat → Int32) (p0 : Int32) (res : Int32 × Int32) (hF : f_X6_refuse N p0 = some res) : MI l yX6_refuse wsX6_refuse rm_X6_refuse D ky sz [.ref aT, .int p0] (w_tape ky aT aTb aTn tle tga trr tat tfa tby tnu) (w_tape ky aT aTb aTn tle tga trr tat res.2 tby tnu) res.1 := by
  unfold MI
  refine Met.ofW (cc := cX6_refuse) (maxL := 2) (ret := (some .boolean)) (by decide) rfl ?_
  intro p e s m args below meth c s₁ B hml hv
  obtain ⟨rfl, hsz, hP, hK, hD0⟩ := hv
  have hx := B.exec
  have hb := B.bytes
  have hr := B.returns
  have hts := atoms_spec (ws := wsX6_refuse) B.pre
  have hown : s.vm.findClass RX6 = some m.cls := findClass_of_methodNamed B.named
  have hlocks := B.notSynchronized
  subst hsz
  have hD := hD0.self (sz := s.heap.size)
  generalize hAe : va_A (w_tape ky aT aTb aTn tle tga trr tat tfa tby tnu) s.heap.size = A at hD ⊢
  have hA : ∀ q : Nat, s.heap.size ≤ q → A q := fun q h => by rw [← hAe]; exact Or.inr h
  have hS : va_S A s.heap s.heap [] := va_S.rf
  have hP : va_P D vwCl (w_tape ky aT aTb aTn tle tga trr tat tfa tby tnu) s.heap := hP
  have hl := lv_entry ([.ref aT, .int p0]) (n := 2) (Nat.le_of_ble_eq_true rfl)
  rw [lg_entry_eq]
  generalize (lg_sl ([.ref aT, .int p0]) ++ List.replicate (2 - (lg_sl ([.ref aT, .int p0])).length) Slot.unset).toArray = ls at hl ⊢
  have hl : lv_has ls 2 [(0, .ref aT), (1, .int p0)] := hl
  have C : cx p s m c ([.ref aT, .int p0]).toArray D ky A cX6_refuse 2 wsX6_refuse RX6 := ⟨hx, hb, hml, hown, hts, hK, hA⟩
  have hQ : ∀ (pc : Nat) (H : Heap) (locs : List Loc) (ls : Array Slot), decode cX6_refuse pc = .ok (.ireturn, 1) → (res.1 = 0 ∨ res.1 = 1) → va_P D vwCl (w_tape ky aT aTb aTn tle tga trr tat res.2 tby tnu) H → va_D A (w_tape ky aT aTb aTn tle tga trr tat res.2 tby tnu) → va_S A s.heap H locs → W p l e rm_X6_refuse s m ([.ref aT, .int p0]).toArray below meth c H locs 0 0 (MQ below (va_Qi (S := Unit) (fun r _ => r = res.1) (fun _ t => va_P D vwCl (w_tape ky aT aTb aTn tle tga trr tat res.2 tby tnu) t.heap ∧ va_K D vwCl (tyW ky) t ∧ va_D A (w_tape ky aT aTb aTn tle tga trr tat res.2 tby tnu)) A) ([.ref aT, .int p0]).toArray s 0 0 A) (F0 m pc ls [.int res.1]) := fun pc H locs ls hd hz hP hD hS => W.zret hx hb hr (gz_n hz) (fun t ht hW => ⟨⟨res.1, (), rfl, rfl, by rw [ht]; exact hP, va_K.moved hW.alike hK, hD⟩, hS.F ht⟩) hS.2.2 hd
  unfold f_X6_refuse at hF
  refine lv_aload_n hx hb dX6_refuse_0 rfl (lv_at hl 0 rfl) ?_
  refine lv_iload_n hx hb dX6_refuse_1 rfl (lv_at hl 1 rfl) ?_
  refine va_put (D := D) (ci := 5) (v := .int p0) (ty := .int) (C := RX6) (T := TX6) (N := 7) hx hb hts iX6_refuse_X6 tyX6 tyX6_ok nmX6 hown hK hP hD hS 0 rfl rfl 6 (by decide) (hts _ kX6_refuse_1) (fun _ h9 => h9) rfl (by decide +kernel) rfl rfl (Nat.le_of_ble_eq_true rfl) dX6_refuse_2 (fun H locs hP hD hS => ?_)
  have hP : va_P D vwCl (w_tape ky aT aTb aTn tle tga trr tat p0 tby tnu) H := hP
  have hD : va_D A (w_tape ky aT aTb aTn tle tga trr tat p0 tby tnu) := hD
  refine lv_iconst (v := (0 : Int32)) hx hb dX6_refuse_5 (by decide) ?_
  have hF := Option.some.inj hF
  subst hF
  exact hQ _ _ _ _ dX6_refuse_6 (Or.inl rfl) hP hD hS
theorem c_X6_refuse (l : Launch) (D : va_G) (ky : Nat → ClassId) (aT aTb aTn : Nat) (sz N : Nat)  (tle : Int32) (tga : Int32) (trr : Int32) (tat : Int32) (tfa : Int32) (tby : Nat → Int32) (tnu : Nat → Int32) (p0 : Int32) (rv : Int32) (tfa' : Int32) (hF : f_X6_refuse N p0 = some (rv, tfa')) : MI l yX6_refuse wsX6_refuse rm_X6_refuse D ky sz [.ref aT, .int p0] (w_tape ky aT aTb aTn tle tga trr tat tfa tby tnu) (w_tape ky aT aTb aTn tle tga trr tat tfa' tby tnu) rv :=
  cr_X6_refuse l D ky aT aTb aTn sz N tle tga trr tat tfa tby tnu p0 (rv, tfa') hF
abbrev rm_X6_look : Room := { frames := 0, cells := 0, slots := 0, locals := 0 }
theorem iX6_look_X6 : ∀ w ∈ wsX60, w ∈ wsX6_look := by decide +kernel
theorem kX6_look_1 : (Cond.fieldLink RX6 28 "TwoLaws$Tape" "at" "I") ∈ wsX6_look := by decide +kernel
theorem kX6_look_2 : (Cond.fieldLink RX6 15 "TwoLaws$Tape" "length" "I") ∈ wsX6_look := by decide +kernel
theorem kX6_look_3 : (Cond.fieldLink RX6 11 "TwoLaws$Tape" "bytes" "[I") ∈ wsX6_look := by decide +kernel
set_option maxHeartbeats 4000000 in
set_option maxRecDepth 100000 in
theorem w_X6_look_47 {p : Program} {l : Launch} {e : Env} {s : State} {m : MethodId} {args : Array Value} {below : List Frame} {meth : Method} {c : Code} {Q : State → Prop} {A : Nat → Prop} {D : va_G} {ky : Nat → ClassId} {aT aTb aTn : Nat} {tle : Int32} {tga : Int32} {trr : Int32} {tfa : Int32} {tby : Nat → Int32} {tnu : Nat → Int32} (N : Nat) (C : cx p s m c args D ky A cX6_look 1 wsX6_look RX6) (res : Int32 × Int32) (hQ : ∀ (pc : Nat) (H : Heap) (locs : List Loc) (ls : Array Slot), decode cX6_look pc = .ok (.ireturn, 1) → va_P D vwCl (w_tape ky aT aTb aTn tle tga trr res.2 tfa tby tnu) H → va_D A (w_tape ky aT aTb aTn tle tga trr res.2 tfa tby tnu) → va_S A s.heap H locs → W p l e rm_X6_look s m args below meth c H locs 0 0 Q (F0 m pc ls [.int res.1]))  (tat : Int32) (hF : f_X6_look_47 N tle tat tby = some res) : ∀ (H : Heap) (locs : List Loc) (ls : Array Slot), va_P D vwCl (w_tape ky aT aTb aTn tle tga trr tat tfa tby tnu) H → va_D A (w_tape ky aT aTb aTn tle tga trr tat tfa tby tnu) → va_S A s.heap H locs → lv_has ls 1 [(0, .ref aT)] → W p l e rm_X6_look s m args below meth c H locs 0 0 Q (F0 m 47 ls []) := by
  obtain ⟨hx, hb, hml, hown, hts, hK, hA⟩ := id C
  intro H locs ls hP hD hS hl
  unfold f_X6_look_47 at hF
  refine lv_aload_n hx hb dX6_look_47 rfl (lv_at hl 0 rfl) ?_
  refine va_get (D := D) (ci := 5) (v := .int tat) (C := RX6) (T := TX6) (N := 7) hx hb hts iX6_look_X6 hown hK hP 0 rfl rfl 5 (by decide) (hts _ kX6_look_1) (fun _ h9 => h9) rfl dX6_look_48 ?_
  refine lv_aload_n hx hb dX6_look_51 rfl (lv_at hl 0 rfl) ?_
  refine va_get (D := D) (ci := 5) (v := .int tle) (C := RX6) (T := TX6) (N := 7) hx hb hts iX6_look_X6 hown hK hP 0 rfl rfl 1 (by decide) (hts _ kX6_look_2) (fun _ h9 => h9) rfl dX6_look_52 ?_
  refine lv_icmp_ge (tgt := 79) hx hb dX6_look_55 (by decide) (fun c5 => ?_) (fun c5 => ?_)
  · have hF := if_t c5 hF
    refine lv_iconst (v := (-1 : Int32)) hx hb dX6_look_79 (by decide) ?_
    have hF := Option.some.inj hF
    subst hF
    exact hQ _ H _ _ dX6_look_80 hP hD hS
  · have hF := if_f c5 hF
    refine lv_aload_n hx hb dX6_look_58 rfl (lv_at hl 0 rfl) ?_
    refine va_get (D := D) (ci := 5) (v := .int tat) (C := RX6) (T := TX6) (N := 7) hx hb hts iX6_look_X6 hown hK hP 0 rfl rfl 5 (by decide) (hts _ kX6_look_1) (fun _ h9 => h9) rfl dX6_look_59 ?_
    refine lv_bipush (v := (120 : Int32)) hx hb dX6_look_62 (by decide) ?_
    refine lv_icmp_ge (tgt := 79) hx hb dX6_look_64 (by decide) (fun c6 => ?_) (fun c6 => ?_)
    · have hF := if_t c6 hF
      refine lv_iconst (v := (-1 : Int32)) hx hb dX6_look_79 (by decide) ?_
      have hF := Option.some.inj hF
      subst hF
      exact hQ _ H _ _ dX6_look_80 hP hD hS
    · have hF := if_f c6 hF
      refine lv_aload_n hx hb dX6_look_67 rfl (lv_at hl 0 rfl) ?_
      refine va_get (D := D) (ci := 5) (v := .ref aTb) (C := RX6) (T := TX6) (N := 7) hx hb hts iX6_look_X6 hown hK hP 0 rfl rfl 0 (by decide) (hts _ kX6_look_3) (fun _ h9 => h9) rfl dX6_look_68 ?_
      refine lv_aload_n hx hb dX6_look_71 rfl (lv_at hl 0 rfl) ?_
      refine va_get (D := D) (ci := 5) (v := .int tat) (C := RX6) (T := TX6) (N := 7) hx hb hts iX6_look_X6 hown hK hP 0 rfl rfl 5 (by decide) (hts _ kX6_look_1) (fun _ h9 => h9) rfl dX6_look_72 ?_
      obtain ⟨h7, hF⟩ := gi_s hF
      refine va_iald hx hb hK hP 1 0 rfl rfl h7 dX6_look_75 ?_
      refine lv_goto (tgt := 80) hx hb dX6_look_76 (by decide) ?_
      have hF := Option.some.inj hF
      subst hF
      exact hQ _ H _ _ dX6_look_80 hP hD hS
set_option maxHeartbeats 4000000 in
set_option maxRecDepth 100000 in
theorem w_X6_look_0 {p : Program} {l : Launch} {e : Env} {s : State} {m : MethodId} {args : Array Value} {below : List Frame} {meth : Method} {c : Code} {Q : State → Prop} {A : Nat → Prop} {D : va_G} {ky : Nat → ClassId} {aT aTb aTn : Nat} {tle : Int32} {tga : Int32} {trr : Int32} {tfa : Int32} {tby : Nat → Int32} {tnu : Nat → Int32} (N : Nat) (C : cx p s m c args D ky A cX6_look 1 wsX6_look RX6) (res : Int32 × Int32) (hQ : ∀ (pc : Nat) (H : Heap) (locs : List Loc) (ls : Array Slot), decode cX6_look pc = .ok (.ireturn, 1) → va_P D vwCl (w_tape ky aT aTb aTn tle tga trr res.2 tfa tby tnu) H → va_D A (w_tape ky aT aTb aTn tle tga trr res.2 tfa tby tnu) → va_S A s.heap H locs → W p l e rm_X6_look s m args below meth c H locs 0 0 Q (F0 m pc ls [.int res.1]))  : ∀ (n : Nat) (tat : Int32), f_X6_look_0 N tle tby n tat = some res → ∀ (H : Heap) (locs : List Loc) (ls : Array Slot), va_P D vwCl (w_tape ky aT aTb aTn tle tga trr tat tfa tby tnu) H → va_D A (w_tape ky aT aTb aTn tle tga trr tat tfa tby tnu) → va_S A s.heap H locs → lv_has ls 1 [(0, .ref aT)] → W p l e rm_X6_look s m args below meth c H locs 0 0 Q (F0 m 0 ls []) := by
  obtain ⟨hx, hb, hml, hown, hts, hK, hA⟩ := id C
  intro n
  induction n with
  | zero =>
    intro tat hF
    cases hF
  | succ n ih =>
    intro tat hF H locs ls hP hD hS hl
    have hF : b_X6_look_0 N tle tby (f_X6_look_0 N tle tby n) tat = some res := hF
    unfold b_X6_look_0 at hF
    refine lv_aload_n hx hb dX6_look_0 rfl (lv_at hl 0 rfl) ?_
    refine va_get (D := D) (ci := 5) (v := .int tat) (C := RX6) (T := TX6) (N := 7) hx hb hts iX6_look_X6 hown hK hP 0 rfl rfl 5 (by decide) (hts _ kX6_look_1) (fun _ h9 => h9) rfl dX6_look_1 ?_
    refine lv_aload_n hx hb dX6_look_4 rfl (lv_at hl 0 rfl) ?_
    refine va_get (D := D) (ci := 5) (v := .int tle) (C := RX6) (T := TX6) (N := 7) hx hb hts iX6_look_X6 hown hK hP 0 rfl rfl 1 (by decide) (hts _ kX6_look_2) (fun _ h9 => h9) rfl dX6_look_5 ?_
    refine lv_icmp_ge (tgt := 47) hx hb dX6_look_8 (by decide) (fun c1 => ?_) (fun c1 => ?_)
    · have hF := if_t c1 hF
      exact w_X6_look_47 N C res hQ tat hF H _ _ hP hD hS (lv_sub hl [0] rfl)
    · have hF := if_f c1 hF
      refine lv_aload_n hx hb dX6_look_11 rfl (lv_at hl 0 rfl) ?_
      refine va_get (D := D) (ci := 5) (v := .int tat) (C := RX6) (T := TX6) (N := 7) hx hb hts iX6_look_X6 hown hK hP 0 rfl rfl 5 (by decide) (hts _ kX6_look_1) (fun _ h9 => h9) rfl dX6_look_12 ?_
      refine lv_bipush (v := (120 : Int32)) hx hb dX6_look_15 (by decide) ?_
      refine lv_icmp_ge (tgt := 47) hx hb dX6_look_17 (by decide) (fun c2 => ?_) (fun c2 => ?_)
      · have hF := if_t c2 hF
        exact w_X6_look_47 N C res hQ tat hF H _ _ hP hD hS (lv_sub hl [0] rfl)
      · have hF := if_f c2 hF
        refine lv_aload_n hx hb dX6_look_20 rfl (lv_at hl 0 rfl) ?_
        refine va_get (D := D) (ci := 5) (v := .ref aTb) (C := RX6) (T := TX6) (N := 7) hx hb hts iX6_look_X6 hown hK hP 0 rfl rfl 0 (by decide) (hts _ kX6_look_3) (fun _ h9 => h9) rfl dX6_look_21 ?_
        refine lv_aload_n hx hb dX6_look_24 rfl (lv_at hl 0 rfl) ?_
        refine va_get (D := D) (ci := 5) (v := .int tat) (C := RX6) (T := TX6) (N := 7) hx hb hts iX6_look_X6 hown hK hP 0 rfl rfl 5 (by decide) (hts _ kX6_look_1) (fun _ h9 => h9) rfl dX6_look_25 ?_
        obtain ⟨h3, hF⟩ := gi_s hF
        refine va_iald hx hb hK hP 1 0 rfl rfl h3 dX6_look_28 ?_
        refine lv_bipush (v := (32 : Int32)) hx hb dX6_look_29 (by decide) ?_
        refine lv_icmp_ne (tgt := 47) hx hb dX6_look_31 (by decide) (fun c4 => ?_) (fun c4 => ?_)
        · have hF := if_f c4 hF
          exact w_X6_look_47 N C res hQ tat hF H _ _ hP hD hS (lv_sub hl [0] rfl)
        · have hF := if_t c4 hF
          refine lv_aload_n hx hb dX6_look_34 rfl (lv_at hl 0 rfl) ?_
          refine lv_dup hx hb dX6_look_35 rfl ?_
          refine va_get (D := D) (ci := 5) (v := .int tat) (C := RX6) (T := TX6) (N := 7) hx hb hts iX6_look_X6 hown hK hP 0 rfl rfl 5 (by decide) (hts _ kX6_look_1) (fun _ h9 => h9) rfl dX6_look_36 ?_
          refine lv_iconst (v := (1 : Int32)) hx hb dX6_look_39 (by decide) ?_
          refine lv_iadd hx hb dX6_look_40 ?_
          refine va_put (D := D) (ci := 5) (v := .int (tat + (1 : Int32))) (ty := .int) (C := RX6) (T := TX6) (N := 7) hx hb hts iX6_look_X6 tyX6 tyX6_ok nmX6 hown hK hP hD hS 0 rfl rfl 5 (by decide) (hts _ kX6_look_1) (fun _ h9 => h9) rfl (by decide +kernel) rfl rfl (Nat.le_of_ble_eq_true rfl) dX6_look_41 (fun H locs hP hD hS => ?_)
          have hP : va_P D vwCl (w_tape ky aT aTb aTn tle tga trr (tat + (1 : Int32)) tfa tby tnu) H := hP
          have hD : va_D A (w_tape ky aT aTb aTn tle tga trr (tat + (1 : Int32)) tfa tby tnu) := hD
          refine lv_goto (tgt := 0) hx hb dX6_look_44 (by decide) ?_
          exact ih (tat + (1 : Int32)) hF H _ _ hP hD hS (lv_sub hl [0] rfl)
set_option maxHeartbeats 4000000 in
set_option maxRecDepth 100000 in
theorem cr_X6_look (l : Launch) (D : va_G) (ky : Nat → ClassId) (aT aTb aTn : Nat) (sz N : Nat)  (tle : Int32) (tga : Int32) (trr : Int32) (tat : Int32) (tfa : Int32) (tby : Nat → Int32) (tnu : Nat → Int32)  (res : Int32 × Int32) (hF : f_X6_look N tle tat tby = some res) : MI l yX6_look wsX6_look rm_X6_look D ky sz [.ref aT] (w_tape ky aT aTb aTn tle tga trr tat tfa tby tnu) (w_tape ky aT aTb aTn tle tga trr res.2 tfa tby tnu) res.1 := by
  unfold MI
  refine Met.ofW (cc := cX6_look) (maxL := 1) (ret := (some .int)) (by decide) rfl ?_
  intro p e s m args below meth c s₁ B hml hv
  obtain ⟨rfl, hsz, hP, hK, hD0⟩ := hv
  have hx := B.exec
  have hb := B.bytes
  have hr := B.returns
  have hts := atoms_spec (ws := wsX6_look) B.pre
  have hown : s.vm.findClass RX6 = some m.cls := findClass_of_methodNamed B.named
  have hlocks := B.notSynchronized
  subst hsz
  have hD := hD0.self (sz := s.heap.size)
  generalize hAe : va_A (w_tape ky aT aTb aTn tle tga trr tat tfa tby tnu) s.heap.size = A at hD ⊢
  have hA : ∀ q : Nat, s.heap.size ≤ q → A q := fun q h => by rw [← hAe]; exact Or.inr h
  have hS : va_S A s.heap s.heap [] := va_S.rf
  have hP : va_P D vwCl (w_tape ky aT aTb aTn tle tga trr tat tfa tby tnu) s.heap := hP
  have hl := lv_entry ([.ref aT]) (n := 1) (Nat.le_of_ble_eq_true rfl)
  rw [lg_entry_eq]
  generalize (lg_sl ([.ref aT]) ++ List.replicate (1 - (lg_sl ([.ref aT])).length) Slot.unset).toArray = ls at hl ⊢
  have hl : lv_has ls 1 [(0, .ref aT)] := hl
  have C : cx p s m c ([.ref aT]).toArray D ky A cX6_look 1 wsX6_look RX6 := ⟨hx, hb, hml, hown, hts, hK, hA⟩
  have hQ : ∀ (pc : Nat) (H : Heap) (locs : List Loc) (ls : Array Slot), decode cX6_look pc = .ok (.ireturn, 1) → va_P D vwCl (w_tape ky aT aTb aTn tle tga trr res.2 tfa tby tnu) H → va_D A (w_tape ky aT aTb aTn tle tga trr res.2 tfa tby tnu) → va_S A s.heap H locs → W p l e rm_X6_look s m ([.ref aT]).toArray below meth c H locs 0 0 (MQ below (va_Qi (S := Unit) (fun r _ => r = res.1) (fun _ t => va_P D vwCl (w_tape ky aT aTb aTn tle tga trr res.2 tfa tby tnu) t.heap ∧ va_K D vwCl (tyW ky) t ∧ va_D A (w_tape ky aT aTb aTn tle tga trr res.2 tfa tby tnu)) A) ([.ref aT]).toArray s 0 0 A) (F0 m pc ls [.int res.1]) := fun pc H locs ls hd hP hD hS => W.iret hx hb hr (fun t ht hW => ⟨⟨res.1, (), rfl, rfl, by rw [ht]; exact hP, va_K.moved hW.alike hK, hD⟩, hS.F ht⟩) hS.2.2 hd
  unfold f_X6_look at hF
  exact w_X6_look_0 N C res hQ  N tat hF _ _ _ hP hD hS (lv_sub hl [0] rfl)
theorem c_X6_look (l : Launch) (D : va_G) (ky : Nat → ClassId) (aT aTb aTn : Nat) (sz N : Nat)  (tle : Int32) (tga : Int32) (trr : Int32) (tat : Int32) (tfa : Int32) (tby : Nat → Int32) (tnu : Nat → Int32)  (rv : Int32) (tat' : Int32) (hF : f_X6_look N tle tat tby = some (rv, tat')) : MI l yX6_look wsX6_look rm_X6_look D ky sz [.ref aT] (w_tape ky aT aTb aTn tle tga trr tat tfa tby tnu) (w_tape ky aT aTb aTn tle tga trr tat' tfa tby tnu) rv :=
  cr_X6_look l D ky aT aTb aTn sz N tle tga trr tat tfa tby tnu (rv, tat') hF
abbrev rm_X6_pass : Room := { frames := 1, cells := 0, slots := 0, locals := 21 }
theorem iX6_pass_X6 : ∀ w ∈ wsX60, w ∈ wsX6_pass := by decide +kernel
theorem kX6_pass_1 : (Cond.fieldLink RX6 28 "TwoLaws$Tape" "at" "I") ∈ wsX6_pass := by decide +kernel
set_option maxHeartbeats 4000000 in
set_option maxRecDepth 100000 in
theorem cr_X6_pass (l : Launch) (D : va_G) (ky : Nat → ClassId) (aT aTb aTn : Nat) (sz N : Nat)  (tle : Int32) (tga : Int32) (trr : Int32) (tat : Int32) (tfa : Int32) (tby : Nat → Int32) (tnu : Nat → Int32) (p0 : Int32) (res : Int32 × Int32 × Int32) (hF : f_X6_pass N p0 tle tat tfa tby = some res) : MI l yX6_pass wsX6_pass rm_X6_pass D ky sz [.ref aT, .int p0] (w_tape ky aT aTb aTn tle tga trr tat tfa tby tnu) (w_tape ky aT aTb aTn tle tga trr res.2.1 res.2.2 tby tnu) res.1 := by
  unfold MI
  refine Met.ofW (cc := cX6_pass) (maxL := 2) (ret := (some .boolean)) (by decide) rfl ?_
  intro p e s m args below meth c s₁ B hml hv
  obtain ⟨rfl, hsz, hP, hK, hD0⟩ := hv
  have hx := B.exec
  have hb := B.bytes
  have hr := B.returns
  have hts := atoms_spec (ws := wsX6_pass) B.pre
  have hown : s.vm.findClass RX6 = some m.cls := findClass_of_methodNamed B.named
  have hlocks := B.notSynchronized
  subst hsz
  have hD := hD0.self (sz := s.heap.size)
  generalize hAe : va_A (w_tape ky aT aTb aTn tle tga trr tat tfa tby tnu) s.heap.size = A at hD ⊢
  have hA : ∀ q : Nat, s.heap.size ≤ q → A q := fun q h => by rw [← hAe]; exact Or.inr h
  have hS : va_S A s.heap s.heap [] := va_S.rf
  have hP : va_P D vwCl (w_tape ky aT aTb aTn tle tga trr tat tfa tby tnu) s.heap := hP
  have hl := lv_entry ([.ref aT, .int p0]) (n := 2) (Nat.le_of_ble_eq_true rfl)
  rw [lg_entry_eq]
  generalize (lg_sl ([.ref aT, .int p0]) ++ List.replicate (2 - (lg_sl ([.ref aT, .int p0])).length) Slot.unset).toArray = ls at hl ⊢
  have hl : lv_has ls 2 [(0, .ref aT), (1, .int p0)] := hl
  have C : cx p s m c ([.ref aT, .int p0]).toArray D ky A cX6_pass 2 wsX6_pass RX6 := ⟨hx, hb, hml, hown, hts, hK, hA⟩
  have hQ : ∀ (pc : Nat) (H : Heap) (locs : List Loc) (ls : Array Slot), decode cX6_pass pc = .ok (.ireturn, 1) → (res.1 = 0 ∨ res.1 = 1) → va_P D vwCl (w_tape ky aT aTb aTn tle tga trr res.2.1 res.2.2 tby tnu) H → va_D A (w_tape ky aT aTb aTn tle tga trr res.2.1 res.2.2 tby tnu) → va_S A s.heap H locs → W p l e rm_X6_pass s m ([.ref aT, .int p0]).toArray below meth c H locs 0 0 (MQ below (va_Qi (S := Unit) (fun r _ => r = res.1) (fun _ t => va_P D vwCl (w_tape ky aT aTb aTn tle tga trr res.2.1 res.2.2 tby tnu) t.heap ∧ va_K D vwCl (tyW ky) t ∧ va_D A (w_tape ky aT aTb aTn tle tga trr res.2.1 res.2.2 tby tnu)) A) ([.ref aT, .int p0]).toArray s 0 0 A) (F0 m pc ls [.int res.1]) := fun pc H locs ls hd hz hP hD hS => W.zret hx hb hr (gz_n hz) (fun t ht hW => ⟨⟨res.1, (), rfl, rfl, by rw [ht]; exact hP, va_K.moved hW.alike hK, hD⟩, hS.F ht⟩) hS.2.2 hd
  unfold f_X6_pass at hF
  refine lv_aload_n hx hb dX6_pass_0 rfl (lv_at hl 0 rfl) ?_
  obtain ⟨r2, v3, h1, hF⟩ := b2_s hF
  refine cl_vi (As := []) (rest := []) (w' := (w_tape ky aT aTb aTn tle tga trr v3 tfa tby tnu)) ⟨hx, hb, hml, hown, hts⟩ hK hP hD hS hA (c_X6_look l D ky aT aTb aTn _ N  tle tga trr tat tfa tby tnu  r2 v3 h1) (cwV 0 hts gX6_pass_X6_look rfl rfl rfl (by decide +kernel) ⟨Nat.le_of_ble_eq_true rfl, Nat.le_of_ble_eq_true rfl⟩) [0, 1, 2] [] [0, 1, 2] 0 5 rfl rfl rfl rfl (wr := []) rfl (by decide) rfl rfl hl.1 (Nat.le_of_ble_eq_true rfl) dX6_pass_1 ⟨Nat.zero_le _, Nat.zero_le _⟩ (fun H locs hP hD hS => ?_)
  refine lv_iload_n hx hb dX6_pass_4 rfl (lv_at hl 1 rfl) ?_
  refine lv_icmp_eq (tgt := 17) hx hb dX6_pass_5 (by decide) (fun c4 => ?_) (fun c4 => ?_)
  · have hF := if_t c4 hF
    refine lv_aload_n hx hb dX6_pass_17 rfl (lv_at hl 0 rfl) ?_
    refine lv_dup hx hb dX6_pass_18 rfl ?_
    refine va_get (D := D) (ci := 5) (v := .int v3) (C := RX6) (T := TX6) (N := 7) hx hb hts iX6_pass_X6 hown hK hP 0 rfl rfl 5 (by decide) (hts _ kX6_pass_1) (fun _ h9 => h9) rfl dX6_pass_19 ?_
    refine lv_iconst (v := (1 : Int32)) hx hb dX6_pass_22 (by decide) ?_
    refine lv_iadd hx hb dX6_pass_23 ?_
    refine va_put (D := D) (ci := 5) (v := .int (v3 + (1 : Int32))) (ty := .int) (C := RX6) (T := TX6) (N := 7) hx hb hts iX6_pass_X6 tyX6 tyX6_ok nmX6 hown hK hP hD hS 0 rfl rfl 5 (by decide) (hts _ kX6_pass_1) (fun _ h9 => h9) rfl (by decide +kernel) rfl rfl (Nat.le_of_ble_eq_true rfl) dX6_pass_24 (fun H locs hP hD hS => ?_)
    have hP : va_P D vwCl (w_tape ky aT aTb aTn tle tga trr (v3 + (1 : Int32)) tfa tby tnu) H := hP
    have hD : va_D A (w_tape ky aT aTb aTn tle tga trr (v3 + (1 : Int32)) tfa tby tnu) := hD
    refine lv_iconst (v := (1 : Int32)) hx hb dX6_pass_27 (by decide) ?_
    have hF := Option.some.inj hF
    subst hF
    exact hQ _ _ _ _ dX6_pass_28 (Or.inr rfl) hP hD hS
  · have hF := if_f c4 hF
    refine lv_aload_n hx hb dX6_pass_8 rfl (lv_at hl 0 rfl) ?_
    refine lv_aload_n hx hb dX6_pass_9 rfl (lv_at hl 0 rfl) ?_
    refine va_get (D := D) (ci := 5) (v := .int v3) (C := RX6) (T := TX6) (N := 7) hx hb hts iX6_pass_X6 hown hK hP 0 rfl rfl 5 (by decide) (hts _ kX6_pass_1) (fun _ h9 => h9) rfl dX6_pass_10 ?_
    obtain ⟨r6, v7, h5, hF⟩ := b2_s hF
    refine cl_vi (As := [.int v3]) (rest := []) (w' := (w_tape ky aT aTb aTn tle tga trr v3 v7 tby tnu)) ⟨hx, hb, hml, hown, hts⟩ hK hP hD hS hA (c_X6_refuse l D ky aT aTb aTn _ N  tle tga trr v3 tfa tby tnu v3 r6 v7 h5) (cwV 1 hts gX6_pass_X6_refuse rfl rfl rfl (by decide +kernel) ⟨Nat.le_of_ble_eq_true rfl, Nat.le_of_ble_eq_true rfl⟩) [0, 1, 2] [] [0, 1, 2] 0 5 rfl rfl rfl rfl (wr := []) rfl (by decide) rfl rfl hl.1 (Nat.le_of_ble_eq_true rfl) dX6_pass_13 ⟨Nat.zero_le _, Nat.zero_le _⟩ (fun H locs hP hD hS => ?_)
    obtain ⟨h8, hF⟩ := gz_s hF
    have hF := Option.some.inj hF
    subst hF
    exact hQ _ _ _ _ dX6_pass_16 h8 hP hD hS
theorem c_X6_pass (l : Launch) (D : va_G) (ky : Nat → ClassId) (aT aTb aTn : Nat) (sz N : Nat)  (tle : Int32) (tga : Int32) (trr : Int32) (tat : Int32) (tfa : Int32) (tby : Nat → Int32) (tnu : Nat → Int32) (p0 : Int32) (rv : Int32) (tat' : Int32) (tfa' : Int32) (hF : f_X6_pass N p0 tle tat tfa tby = some (rv, tat', tfa')) : MI l yX6_pass wsX6_pass rm_X6_pass D ky sz [.ref aT, .int p0] (w_tape ky aT aTb aTn tle tga trr tat tfa tby tnu) (w_tape ky aT aTb aTn tle tga trr tat' tfa' tby tnu) rv :=
  cr_X6_pass l D ky aT aTb aTn sz N tle tga trr tat tfa tby tnu p0 (rv, tat', tfa') hF
abbrev rm_X6_store : Room := { frames := 0, cells := 0, slots := 0, locals := 0 }
theorem iX6_store_X6 : ∀ w ∈ wsX60, w ∈ wsX6_store := by decide +kernel
theorem kX6_store_1 : (Cond.fieldLink RX6 19 "TwoLaws$Tape" "numbers" "[I") ∈ wsX6_store := by decide +kernel
set_option maxHeartbeats 4000000 in
set_option maxRecDepth 100000 in
theorem cr_X6_store (l : Launch) (D : va_G) (ky : Nat → ClassId) (aT aTb aTn : Nat) (sz N : Nat)  (tle : Int32) (tga : Int32) (trr : Int32) (tat : Int32) (tfa : Int32) (tby : Nat → Int32) (tnu : Nat → Int32) (p0 : Int32) (p1 : Int32) (res : (Nat → Int32)) (hF : f_X6_store N p0 p1 tnu = some res) : MV l yX6_store wsX6_store rm_X6_store D ky sz [.ref aT, .int p0, .int p1] (w_tape ky aT aTb aTn tle tga trr tat tfa tby tnu) (w_tape ky aT aTb aTn tle tga trr tat tfa tby res) := by
  unfold MV
  refine Met.ofW (cc := cX6_store) (maxL := 3) (ret := none) (by decide) rfl ?_
  intro p e s m args below meth c s₁ B hml hv
  obtain ⟨rfl, hsz, hP, hK, hD0⟩ := hv
  have hx := B.exec
  have hb := B.bytes
  have hr := B.returns
  have hts := atoms_spec (ws := wsX6_store) B.pre
  have hown : s.vm.findClass RX6 = some m.cls := findClass_of_methodNamed B.named
  have hlocks := B.notSynchronized
  subst hsz
  have hD := hD0.self (sz := s.heap.size)
  generalize hAe : va_A (w_tape ky aT aTb aTn tle tga trr tat tfa tby tnu) s.heap.size = A at hD ⊢
  have hA : ∀ q : Nat, s.heap.size ≤ q → A q := fun q h => by rw [← hAe]; exact Or.inr h
  have hS : va_S A s.heap s.heap [] := va_S.rf
  have hP : va_P D vwCl (w_tape ky aT aTb aTn tle tga trr tat tfa tby tnu) s.heap := hP
  have hl := lv_entry ([.ref aT, .int p0, .int p1]) (n := 3) (Nat.le_of_ble_eq_true rfl)
  rw [lg_entry_eq]
  generalize (lg_sl ([.ref aT, .int p0, .int p1]) ++ List.replicate (3 - (lg_sl ([.ref aT, .int p0, .int p1])).length) Slot.unset).toArray = ls at hl ⊢
  have hl : lv_has ls 3 [(0, .ref aT), (1, .int p0), (2, .int p1)] := hl
  have C : cx p s m c ([.ref aT, .int p0, .int p1]).toArray D ky A cX6_store 3 wsX6_store RX6 := ⟨hx, hb, hml, hown, hts, hK, hA⟩
  have hQ : ∀ (pc : Nat) (H : Heap) (locs : List Loc) (ls : Array Slot), decode cX6_store pc = .ok (.return_, 1) → va_P D vwCl (w_tape ky aT aTb aTn tle tga trr tat tfa tby res) H → va_D A (w_tape ky aT aTb aTn tle tga trr tat tfa tby res) → va_S A s.heap H locs → W p l e rm_X6_store s m ([.ref aT, .int p0, .int p1]).toArray below meth c H locs 0 0 (MQ below (va_Qv (S := Unit) (fun _ => True) (fun _ t => va_P D vwCl (w_tape ky aT aTb aTn tle tga trr tat tfa tby res) t.heap ∧ va_K D vwCl (tyW ky) t ∧ va_D A (w_tape ky aT aTb aTn tle tga trr tat tfa tby res)) A) ([.ref aT, .int p0, .int p1]).toArray s 0 0 A) (F0 m pc ls []) := fun pc H locs ls hd hP hD hS => W.vret hx hb hr (fun t ht hW => ⟨⟨(), rfl, trivial, by rw [ht]; exact hP, va_K.moved hW.alike hK, hD⟩, hS.F ht⟩) hS.2.2 hd
  unfold f_X6_store at hF
  refine lv_iload_n hx hb dX6_store_0 rfl (lv_at hl 1 rfl) ?_
  refine lv_if_lt (tgt := 20) hx hb dX6_store_1 (by decide) (fun c1 => ?_) (fun c1 => ?_)
  · have hF := if_t c1 hF
    have hF := Option.some.inj hF
    subst hF
    exact hQ _ _ _ _ dX6_store_20 hP hD hS
  · have hF := if_f c1 hF
    refine lv_iload_n hx hb dX6_store_4 rfl (lv_at hl 1 rfl) ?_
    refine lv_aload_n hx hb dX6_store_5 rfl (lv_at hl 0 rfl) ?_
    refine va_get (D := D) (ci := 5) (v := .ref aTn) (C := RX6) (T := TX6) (N := 7) hx hb hts iX6_store_X6 hown hK hP 0 rfl rfl 2 (by decide) (hts _ kX6_store_1) (fun _ h9 => h9) rfl dX6_store_6 ?_
    refine va_alen (v := (36 : Int32)) hx hb hK hP 2 0 rfl rfl rfl dX6_store_9 ?_
    refine lv_icmp_ge (tgt := 20) hx hb dX6_store_10 (by decide) (fun c2 => ?_) (fun c2 => ?_)
    · have hF := if_t c2 hF
      have hF := Option.some.inj hF
      subst hF
      exact hQ _ _ _ _ dX6_store_20 hP hD hS
    · have hF := if_f c2 hF
      refine lv_aload_n hx hb dX6_store_13 rfl (lv_at hl 0 rfl) ?_
      refine va_get (D := D) (ci := 5) (v := .ref aTn) (C := RX6) (T := TX6) (N := 7) hx hb hts iX6_store_X6 hown hK hP 0 rfl rfl 2 (by decide) (hts _ kX6_store_1) (fun _ h9 => h9) rfl dX6_store_14 ?_
      refine lv_iload_n hx hb dX6_store_17 rfl (lv_at hl 1 rfl) ?_
      refine lv_iload_n hx hb dX6_store_18 rfl (lv_at hl 2 rfl) ?_
      obtain ⟨h3, hF⟩ := gi_s hF
      refine va_iast hx hb hK hP hD hS 2 0 rfl rfl h3 dX6_store_19 (fun H locs hP hD hS => ?_)
      have hP : va_P D vwCl (w_tape ky aT aTb aTn tle tga trr tat tfa tby (upd tnu p0.toNatClampNeg p1)) H := hP
      have hD : va_D A (w_tape ky aT aTb aTn tle tga trr tat tfa tby (upd tnu p0.toNatClampNeg p1)) := hD
      have hF := Option.some.inj hF
      subst hF
      exact hQ _ _ _ _ dX6_store_20 hP hD hS
theorem c_X6_store (l : Launch) (D : va_G) (ky : Nat → ClassId) (aT aTb aTn : Nat) (sz N : Nat)  (tle : Int32) (tga : Int32) (trr : Int32) (tat : Int32) (tfa : Int32) (tby : Nat → Int32) (tnu : Nat → Int32) (p0 : Int32) (p1 : Int32) (tnu' : Nat → Int32) (hF : f_X6_store N p0 p1 tnu = some (tnu')) : MV l yX6_store wsX6_store rm_X6_store D ky sz [.ref aT, .int p0, .int p1] (w_tape ky aT aTb aTn tle tga trr tat tfa tby tnu) (w_tape ky aT aTb aTn tle tga trr tat tfa tby tnu') :=
  cr_X6_store l D ky aT aTb aTn sz N tle tga trr tat tfa tby tnu p0 p1 (tnu') hF
abbrev rm_X6_readNumber : Room := { frames := 1, cells := 0, slots := 0, locals := 22 }
theorem iX6_readNumber_X6 : ∀ w ∈ wsX60, w ∈ wsX6_readNumber := by decide +kernel
theorem kX6_readNumber_1 : (Cond.fieldLink RX6 28 "TwoLaws$Tape" "at" "I") ∈ wsX6_readNumber := by decide +kernel
theorem kX6_readNumber_2 : (Cond.fieldLink RX6 15 "TwoLaws$Tape" "length" "I") ∈ wsX6_readNumber := by decide +kernel
theorem kX6_readNumber_3 : (Cond.fieldLink RX6 11 "TwoLaws$Tape" "bytes" "[I") ∈ wsX6_readNumber := by decide +kernel
theorem kX6_readNumber_4 : (Cond.methodLink RX6 77 Lib.Math.min.name) ∈ wsX6_readNumber := by decide +kernel
theorem kX6_readNumber_5 : (Cond.static Lib.Math.min.name) ∈ wsX6_readNumber := by decide +kernel
theorem kX6_readNumber_6 : (Cond.initialized "java/lang/Math") ∈ wsX6_readNumber := by decide +kernel
theorem kX6_readNumber_7 : (Cond.code Lib.Math.min.name Lib.Math.min.code 2 (some .int)) ∈ wsX6_readNumber := by decide +kernel
set_option maxHeartbeats 4000000 in
set_option maxRecDepth 100000 in
theorem w_X6_readNumber_134 {p : Program} {l : Launch} {e : Env} {s : State} {m : MethodId} {args : Array Value} {below : List Frame} {meth : Method} {c : Code} {Q : State → Prop} {A : Nat → Prop} {D : va_G} {ky : Nat → ClassId} {aT aTb aTn : Nat} {tle : Int32} {tga : Int32} {trr : Int32} {tby : Nat → Int32} (N : Nat) (C : cx p s m c args D ky A cX6_readNumber 5 wsX6_readNumber RX6) (res : Int32 × Int32 × Int32 × (Nat → Int32)) (hQ : ∀ (pc : Nat) (H : Heap) (locs : List Loc) (ls : Array Slot), decode cX6_readNumber pc = .ok (.ireturn, 1) → (res.1 = 0 ∨ res.1 = 1) → va_P D vwCl (w_tape ky aT aTb aTn tle tga trr res.2.1 res.2.2.1 tby res.2.2.2) H → va_D A (w_tape ky aT aTb aTn tle tga trr res.2.1 res.2.2.1 tby res.2.2.2) → va_S A s.heap H locs → W p l e rm_X6_readNumber s m args below meth c H locs 0 0 Q (F0 m pc ls [.int res.1]))  (l1 : Int32) (l2 : Int32) (l3 : Int32) (l4 : Int32) (tat : Int32) (tfa : Int32) (tnu : Nat → Int32) (hF : f_X6_readNumber_134 N l1 l2 l3 l4 tat tfa tnu = some res) : ∀ (H : Heap) (locs : List Loc) (ls : Array Slot), va_P D vwCl (w_tape ky aT aTb aTn tle tga trr tat tfa tby tnu) H → va_D A (w_tape ky aT aTb aTn tle tga trr tat tfa tby tnu) → va_S A s.heap H locs → lv_has ls 5 [(0, .ref aT), (1, .int l1), (2, .int l2), (3, .int l3), (4, .int l4)] → W p l e rm_X6_readNumber s m args below meth c H locs 0 0 Q (F0 m 134 ls []) := by
  obtain ⟨hx, hb, hml, hown, hts, hK, hA⟩ := id C
  intro H locs ls hP hD hS hl
  unfold f_X6_readNumber_134 at hF
  refine lv_iload hx hb dX6_readNumber_134 (lv_at hl 4 rfl) ?_
  refine lv_bipush (v := (99 : Int32)) hx hb dX6_readNumber_136 (by decide) ?_
  refine lv_icmp_le (tgt := 147) hx hb dX6_readNumber_138 (by decide) (fun c27 => ?_) (fun c27 => ?_)
  · have hF := if_t c27 hF
    refine lv_aload_n hx hb dX6_readNumber_147 rfl (lv_at hl 0 rfl) ?_
    refine lv_iload_n hx hb dX6_readNumber_148 rfl (lv_at hl 1 rfl) ?_
    refine lv_iload_n hx hb dX6_readNumber_149 rfl (lv_at hl 3 rfl) ?_
    refine lv_if_eq (tgt := 159) hx hb dX6_readNumber_150 (by decide) (fun c28 => ?_) (fun c28 => ?_)
    · have hF := if_t c28 hF
      refine lv_iload hx hb dX6_readNumber_159 (lv_at hl 4 rfl) ?_
      obtain ⟨v30, h29, hF⟩ := b1_s hF
      refine cl_vv (As := [.int l1, .int l4]) (rest := []) (w' := (w_tape ky aT aTb aTn tle tga trr tat tfa tby v30)) ⟨hx, hb, hml, hown, hts⟩ hK hP hD hS hA (c_X6_store l D ky aT aTb aTn _ N  tle tga trr tat tfa tby tnu l1 l4 v30 h29) (cwV 2 hts gX6_readNumber_X6_store rfl rfl rfl (by decide +kernel) ⟨Nat.le_of_ble_eq_true rfl, Nat.le_of_ble_eq_true rfl⟩) [0, 1, 2] [] [0, 1, 2] 0 5 rfl rfl rfl rfl (wr := []) rfl (by decide) rfl rfl hl.1 (Nat.le_of_ble_eq_true rfl) dX6_readNumber_161 ⟨Nat.zero_le _, Nat.zero_le _⟩ (fun H locs hP hD hS => ?_)
      refine lv_iconst (v := (1 : Int32)) hx hb dX6_readNumber_164 (by decide) ?_
      have hF := Option.some.inj hF
      subst hF
      exact hQ _ H _ _ dX6_readNumber_165 (Or.inr rfl) hP hD hS
    · have hF := if_f c28 hF
      refine lv_iload hx hb dX6_readNumber_153 (lv_at hl 4 rfl) ?_
      refine lv_ineg hx hb dX6_readNumber_155 ?_
      refine lv_goto (tgt := 161) hx hb dX6_readNumber_156 (by decide) ?_
      obtain ⟨v32, h31, hF⟩ := b1_s hF
      refine cl_vv (As := [.int l1, .int (-l4)]) (rest := []) (w' := (w_tape ky aT aTb aTn tle tga trr tat tfa tby v32)) ⟨hx, hb, hml, hown, hts⟩ hK hP hD hS hA (c_X6_store l D ky aT aTb aTn _ N  tle tga trr tat tfa tby tnu l1 (-l4) v32 h31) (cwV 2 hts gX6_readNumber_X6_store rfl rfl rfl (by decide +kernel) ⟨Nat.le_of_ble_eq_true rfl, Nat.le_of_ble_eq_true rfl⟩) [0, 1, 2] [] [0, 1, 2] 0 5 rfl rfl rfl rfl (wr := []) rfl (by decide) rfl rfl hl.1 (Nat.le_of_ble_eq_true rfl) dX6_readNumber_161 ⟨Nat.zero_le _, Nat.zero_le _⟩ (fun H locs hP hD hS => ?_)
      refine lv_iconst (v := (1 : Int32)) hx hb dX6_readNumber_164 (by decide) ?_
      have hF := Option.some.inj hF
      subst hF
      exact hQ _ H _ _ dX6_readNumber_165 (Or.inr rfl) hP hD hS
  · have hF := if_f c27 hF
    refine lv_aload_n hx hb dX6_readNumber_141 rfl (lv_at hl 0 rfl) ?_
    refine lv_iload_n hx hb dX6_readNumber_142 rfl (lv_at hl 2 rfl) ?_
    obtain ⟨r34, v35, h33, hF⟩ := b2_s hF
    refine cl_vi (As := [.int l2]) (rest := []) (w' := (w_tape ky aT aTb aTn tle tga trr tat v35 tby tnu)) ⟨hx, hb, hml, hown, hts⟩ hK hP hD hS hA (c_X6_refuse l D ky aT aTb aTn _ N  tle tga trr tat tfa tby tnu l2 r34 v35 h33) (cwV 1 hts gX6_readNumber_X6_refuse rfl rfl rfl (by decide +kernel) ⟨Nat.le_of_ble_eq_true rfl, Nat.le_of_ble_eq_true rfl⟩) [0, 1, 2] [] [0, 1, 2] 0 5 rfl rfl rfl rfl (wr := []) rfl (by decide) rfl rfl hl.1 (Nat.le_of_ble_eq_true rfl) dX6_readNumber_143 ⟨Nat.zero_le _, Nat.zero_le _⟩ (fun H locs hP hD hS => ?_)
    obtain ⟨h36, hF⟩ := gz_s hF
    have hF := Option.some.inj hF
    subst hF
    exact hQ _ H _ _ dX6_readNumber_146 h36 hP hD hS
set_option maxHeartbeats 4000000 in
set_option maxRecDepth 100000 in
theorem w_X6_readNumber_61 {p : Program} {l : Launch} {e : Env} {s : State} {m : MethodId} {args : Array Value} {below : List Frame} {meth : Method} {c : Code} {Q : State → Prop} {A : Nat → Prop} {D : va_G} {ky : Nat → ClassId} {aT aTb aTn : Nat} {tle : Int32} {tga : Int32} {trr : Int32} {tby : Nat → Int32} (N : Nat) (C : cx p s m c args D ky A cX6_readNumber 5 wsX6_readNumber RX6) (res : Int32 × Int32 × Int32 × (Nat → Int32)) (hQ : ∀ (pc : Nat) (H : Heap) (locs : List Loc) (ls : Array Slot), decode cX6_readNumber pc = .ok (.ireturn, 1) → (res.1 = 0 ∨ res.1 = 1) → va_P D vwCl (w_tape ky aT aTb aTn tle tga trr res.2.1 res.2.2.1 tby res.2.2.2) H → va_D A (w_tape ky aT aTb aTn tle tga trr res.2.1 res.2.2.1 tby res.2.2.2) → va_S A s.heap H locs → W p l e rm_X6_readNumber s m args below meth c H locs 0 0 Q (F0 m pc ls [.int res.1])) (l1 : Int32) (l2 : Int32) (l3 : Int32) (tfa : Int32) (tnu : Nat → Int32) : ∀ (n : Nat) (l4 : Int32) (tat : Int32), f_X6_readNumber_61 N l1 l2 l3 tle tfa tby tnu n l4 tat = some res → ∀ (H : Heap) (locs : List Loc) (ls : Array Slot), va_P D vwCl (w_tape ky aT aTb aTn tle tga trr tat tfa tby tnu) H → va_D A (w_tape ky aT aTb aTn tle tga trr tat tfa tby tnu) → va_S A s.heap H locs → lv_has ls 5 [(0, .ref aT), (1, .int l1), (2, .int l2), (3, .int l3), (4, .int l4)] → W p l e rm_X6_readNumber s m args below meth c H locs 0 0 Q (F0 m 61 ls []) := by
  obtain ⟨hx, hb, hml, hown, hts, hK, hA⟩ := id C
  intro n
  induction n with
  | zero =>
    intro l4 tat hF
    cases hF
  | succ n ih =>
    intro l4 tat hF H locs ls hP hD hS hl
    have hF : b_X6_readNumber_61 N l1 l2 l3 tle tfa tby tnu (f_X6_readNumber_61 N l1 l2 l3 tle tfa tby tnu n) l4 tat = some res := hF
    unfold b_X6_readNumber_61 at hF
    refine lv_aload_n hx hb dX6_readNumber_61 rfl (lv_at hl 0 rfl) ?_
    refine va_get (D := D) (ci := 5) (v := .int tat) (C := RX6) (T := TX6) (N := 7) hx hb hts iX6_readNumber_X6 hown hK hP 0 rfl rfl 5 (by decide) (hts _ kX6_readNumber_1) (fun _ h9 => h9) rfl dX6_readNumber_62 ?_
    refine lv_aload_n hx hb dX6_readNumber_65 rfl (lv_at hl 0 rfl) ?_
    refine va_get (D := D) (ci := 5) (v := .int tle) (C := RX6) (T := TX6) (N := 7) hx hb hts iX6_readNumber_X6 hown hK hP 0 rfl rfl 1 (by decide) (hts _ kX6_readNumber_2) (fun _ h9 => h9) rfl dX6_readNumber_66 ?_
    refine lv_icmp_ge (tgt := 134) hx hb dX6_readNumber_69 (by decide) (fun c19 => ?_) (fun c19 => ?_)
    · have hF := if_t c19 hF
      exact w_X6_readNumber_134 N C res hQ l1 l2 l3 l4 tat tfa tnu hF H _ _ hP hD hS (lv_sub hl [0, 1, 2, 3, 4] rfl)
    · have hF := if_f c19 hF
      refine lv_aload_n hx hb dX6_readNumber_72 rfl (lv_at hl 0 rfl) ?_
      refine va_get (D := D) (ci := 5) (v := .int tat) (C := RX6) (T := TX6) (N := 7) hx hb hts iX6_readNumber_X6 hown hK hP 0 rfl rfl 5 (by decide) (hts _ kX6_readNumber_1) (fun _ h9 => h9) rfl dX6_readNumber_73 ?_
      refine lv_bipush (v := (120 : Int32)) hx hb dX6_readNumber_76 (by decide) ?_
      refine lv_icmp_ge (tgt := 134) hx hb dX6_readNumber_78 (by decide) (fun c20 => ?_) (fun c20 => ?_)
      · have hF := if_t c20 hF
        exact w_X6_readNumber_134 N C res hQ l1 l2 l3 l4 tat tfa tnu hF H _ _ hP hD hS (lv_sub hl [0, 1, 2, 3, 4] rfl)
      · have hF := if_f c20 hF
        refine lv_aload_n hx hb dX6_readNumber_81 rfl (lv_at hl 0 rfl) ?_
        refine va_get (D := D) (ci := 5) (v := .ref aTb) (C := RX6) (T := TX6) (N := 7) hx hb hts iX6_readNumber_X6 hown hK hP 0 rfl rfl 0 (by decide) (hts _ kX6_readNumber_3) (fun _ h9 => h9) rfl dX6_readNumber_82 ?_
        refine lv_aload_n hx hb dX6_readNumber_85 rfl (lv_at hl 0 rfl) ?_
        refine va_get (D := D) (ci := 5) (v := .int tat) (C := RX6) (T := TX6) (N := 7) hx hb hts iX6_readNumber_X6 hown hK hP 0 rfl rfl 5 (by decide) (hts _ kX6_readNumber_1) (fun _ h9 => h9) rfl dX6_readNumber_86 ?_
        obtain ⟨h21, hF⟩ := gi_s hF
        refine va_iald hx hb hK hP 1 0 rfl rfl h21 dX6_readNumber_89 ?_
        obtain ⟨r23, h22, hF⟩ := b1_s hF
        refine cl_si (As := [.int (tby tat.toNatClampNeg)]) (rest := []) ⟨hx, hb, hml, hown, hts⟩ hK hP hD hS hA (c_X6_isDigit l D ky  _ N   (tby tat.toNatClampNeg) r23 h22) (va_cwS 1 hts gX6_readNumber_X6_isDigit rfl rfl rfl (by decide +kernel) ⟨Nat.le_of_ble_eq_true rfl, Nat.le_of_ble_eq_true rfl⟩) rfl hl.1 (Nat.le_of_ble_eq_true rfl) dX6_readNumber_90 ⟨Nat.zero_le _, Nat.zero_le _⟩ (fun H locs hP hD hS => ?_)
        refine lv_if_eq (tgt := 134) hx hb dX6_readNumber_93 (by decide) (fun c24 => ?_) (fun c24 => ?_)
        · have hF := if_t c24 hF
          exact w_X6_readNumber_134 N C res hQ l1 l2 l3 l4 tat tfa tnu hF H _ _ hP hD hS (lv_sub hl [0, 1, 2, 3, 4] rfl)
        · have hF := if_f c24 hF
          refine lv_bipush (v := (10 : Int32)) hx hb dX6_readNumber_96 (by decide) ?_
          refine lv_iload hx hb dX6_readNumber_98 (lv_at hl 4 rfl) ?_
          refine lv_imul hx hb dX6_readNumber_100 ?_
          refine lv_aload_n hx hb dX6_readNumber_101 rfl (lv_at hl 0 rfl) ?_
          refine va_get (D := D) (ci := 5) (v := .ref aTb) (C := RX6) (T := TX6) (N := 7) hx hb hts iX6_readNumber_X6 hown hK hP 0 rfl rfl 0 (by decide) (hts _ kX6_readNumber_3) (fun _ h9 => h9) rfl dX6_readNumber_102 ?_
          refine lv_aload_n hx hb dX6_readNumber_105 rfl (lv_at hl 0 rfl) ?_
          refine va_get (D := D) (ci := 5) (v := .int tat) (C := RX6) (T := TX6) (N := 7) hx hb hts iX6_readNumber_X6 hown hK hP 0 rfl rfl 5 (by decide) (hts _ kX6_readNumber_1) (fun _ h9 => h9) rfl dX6_readNumber_106 ?_
          obtain ⟨h25, hF⟩ := gi_s hF
          refine va_iald hx hb hK hP 1 0 rfl rfl h25 dX6_readNumber_109 ?_
          refine lv_iadd hx hb dX6_readNumber_110 ?_
          refine lv_bipush (v := (48 : Int32)) hx hb dX6_readNumber_111 (by decide) ?_
          refine lv_isub hx hb dX6_readNumber_113 ?_
          refine lv_bipush (v := (100 : Int32)) hx hb dX6_readNumber_114 (by decide) ?_
          refine va_mmin hx hb (hml.trans hl.1.symm) hown (hts _ kX6_readNumber_4) (hts _ kX6_readNumber_5) (hts _ kX6_readNumber_6) (hts _ kX6_readNumber_7) (Nat.le_of_ble_eq_true rfl) (Nat.le_of_ble_eq_true rfl) (Nat.zero_le _) (Nat.zero_le _) dX6_readNumber_116 ?_
          refine lv_topi (fun v26 e_v26 => ?_)
          have hF := nm_s e_v26 hF
          refine lv_istore (lv' := [(4, .int v26), (0, .ref aT), (1, .int l1), (2, .int l2), (3, .int l3)]) hx hb dX6_readNumber_119 hl (by decide) rfl (fun ls hl => ?_)
          refine lv_aload_n hx hb dX6_readNumber_121 rfl (lv_at hl 1 rfl) ?_
          refine lv_dup hx hb dX6_readNumber_122 rfl ?_
          refine va_get (D := D) (ci := 5) (v := .int tat) (C := RX6) (T := TX6) (N := 7) hx hb hts iX6_readNumber_X6 hown hK hP 0 rfl rfl 5 (by decide) (hts _ kX6_readNumber_1) (fun _ h9 => h9) rfl dX6_readNumber_123 ?_
          refine lv_iconst (v := (1 : Int32)) hx hb dX6_readNumber_126 (by decide) ?_
          refine lv_iadd hx hb dX6_readNumber_127 ?_
          refine va_put (D := D) (ci := 5) (v := .int (tat + (1 : Int32))) (ty := .int) (C := RX6) (T := TX6) (N := 7) hx hb hts iX6_readNumber_X6 tyX6 tyX6_ok nmX6 hown hK hP hD hS 0 rfl rfl 5 (by decide) (hts _ kX6_readNumber_1) (fun _ h9 => h9) rfl (by decide +kernel) rfl rfl (Nat.le_of_ble_eq_true rfl) dX6_readNumber_128 (fun H locs hP hD hS => ?_)
          have hP : va_P D vwCl (w_tape ky aT aTb aTn tle tga trr (tat + (1 : Int32)) tfa tby tnu) H := hP
          have hD : va_D A (w_tape ky aT aTb aTn tle tga trr (tat + (1 : Int32)) tfa tby tnu) := hD
          refine lv_goto (tgt := 61) hx hb dX6_readNumber_131 (by decide) ?_
          exact ih v26 (tat + (1 : Int32)) hF H _ _ hP hD hS (lv_sub hl [1, 2, 3, 4, 0] rfl)
set_option maxHeartbeats 4000000 in
set_option maxRecDepth 100000 in
theorem w_X6_readNumber_39 {p : Program} {l : Launch} {e : Env} {s : State} {m : MethodId} {args : Array Value} {below : List Frame} {meth : Method} {c : Code} {Q : State → Prop} {A : Nat → Prop} {D : va_G} {ky : Nat → ClassId} {aT aTb aTn : Nat} {tle : Int32} {tga : Int32} {trr : Int32} {tby : Nat → Int32} (N : Nat) (C : cx p s m c args D ky A cX6_readNumber 5 wsX6_readNumber RX6) (res : Int32 × Int32 × Int32 × (Nat → Int32)) (hQ : ∀ (pc : Nat) (H : Heap) (locs : List Loc) (ls : Array Slot), decode cX6_readNumber pc = .ok (.ireturn, 1) → (res.1 = 0 ∨ res.1 = 1) → va_P D vwCl (w_tape ky aT aTb aTn tle tga trr res.2.1 res.2.2.1 tby res.2.2.2) H → va_D A (w_tape ky aT aTb aTn tle tga trr res.2.1 res.2.2.1 tby res.2.2.2) → va_S A s.heap H locs → W p l e rm_X6_readNumber s m args below meth c H locs 0 0 Q (F0 m pc ls [.int res.1]))  (l1 : Int32) (l2 : Int32) (l3 : Int32) (tat : Int32) (tfa : Int32) (tnu : Nat → Int32) (hF : f_X6_readNumber_39 N l1 l2 l3 tle tat tfa tby tnu = some res) : ∀ (H : Heap) (locs : List Loc) (ls : Array Slot), va_P D vwCl (w_tape ky aT aTb aTn tle tga trr tat tfa tby tnu) H → va_D A (w_tape ky aT aTb aTn tle tga trr tat tfa tby tnu) → va_S A s.heap H locs → lv_has ls 5 [(0, .ref aT), (1, .int l1), (2, .int l2), (3, .int l3)] → W p l e rm_X6_readNumber s m args below meth c H locs 0 0 Q (F0 m 39 ls []) := by
  obtain ⟨hx, hb, hml, hown, hts, hK, hA⟩ := id C
  intro H locs ls hP hD hS hl
  unfold f_X6_readNumber_39 at hF
  refine lv_aload_n hx hb dX6_readNumber_39 rfl (lv_at hl 0 rfl) ?_
  obtain ⟨r10, v11, h9, hF⟩ := b2_s hF
  refine cl_vi (As := []) (rest := []) (w' := (w_tape ky aT aTb aTn tle tga trr v11 tfa tby tnu)) ⟨hx, hb, hml, hown, hts⟩ hK hP hD hS hA (c_X6_look l D ky aT aTb aTn _ N  tle tga trr tat tfa tby tnu  r10 v11 h9) (cwV 0 hts gX6_readNumber_X6_look rfl rfl rfl (by decide +kernel) ⟨Nat.le_of_ble_eq_true rfl, Nat.le_of_ble_eq_true rfl⟩) [0, 1, 2] [] [0, 1, 2] 0 5 rfl rfl rfl rfl (wr := []) rfl (by decide) rfl rfl hl.1 (Nat.le_of_ble_eq_true rfl) dX6_readNumber_40 ⟨Nat.zero_le _, Nat.zero_le _⟩ (fun H locs hP hD hS => ?_)
  obtain ⟨r13, h12, hF⟩ := b1_s hF
  refine cl_si (As := [.int r10]) (rest := []) ⟨hx, hb, hml, hown, hts⟩ hK hP hD hS hA (c_X6_isDigit l D ky  _ N   r10 r13 h12) (va_cwS 1 hts gX6_readNumber_X6_isDigit rfl rfl rfl (by decide +kernel) ⟨Nat.le_of_ble_eq_true rfl, Nat.le_of_ble_eq_true rfl⟩) rfl hl.1 (Nat.le_of_ble_eq_true rfl) dX6_readNumber_43 ⟨Nat.zero_le _, Nat.zero_le _⟩ (fun H locs hP hD hS => ?_)
  refine lv_if_ne (tgt := 58) hx hb dX6_readNumber_46 (by decide) (fun c14 => ?_) (fun c14 => ?_)
  · have hF := if_f c14 hF
    refine lv_iconst (v := (0 : Int32)) hx hb dX6_readNumber_58 (by decide) ?_
    refine lv_istore (lv' := [(4, .int (0 : Int32)), (0, .ref aT), (1, .int l1), (2, .int l2), (3, .int l3)]) hx hb dX6_readNumber_59 hl (by decide) rfl (fun ls hl => ?_)
    exact w_X6_readNumber_61 N C res hQ l1 l2 l3 tfa tnu N (0 : Int32) v11 hF H _ _ hP hD hS (lv_sub hl [1, 2, 3, 4, 0] rfl)
  · have hF := if_t c14 hF
    refine lv_aload_n hx hb dX6_readNumber_49 rfl (lv_at hl 0 rfl) ?_
    refine lv_aload_n hx hb dX6_readNumber_50 rfl (lv_at hl 0 rfl) ?_
    refine va_get (D := D) (ci := 5) (v := .int v11) (C := RX6) (T := TX6) (N := 7) hx hb hts iX6_readNumber_X6 hown hK hP 0 rfl rfl 5 (by decide) (hts _ kX6_readNumber_1) (fun _ h9 => h9) rfl dX6_readNumber_51 ?_
    obtain ⟨r16, v17, h15, hF⟩ := b2_s hF
    refine cl_vi (As := [.int v11]) (rest := []) (w' := (w_tape ky aT aTb aTn tle tga trr v11 v17 tby tnu)) ⟨hx, hb, hml, hown, hts⟩ hK hP hD hS hA (c_X6_refuse l D ky aT aTb aTn _ N  tle tga trr v11 tfa tby tnu v11 r16 v17 h15) (cwV 1 hts gX6_readNumber_X6_refuse rfl rfl rfl (by decide +kernel) ⟨Nat.le_of_ble_eq_true rfl, Nat.le_of_ble_eq_true rfl⟩) [0, 1, 2] [] [0, 1, 2] 0 5 rfl rfl rfl rfl (wr := []) rfl (by decide) rfl rfl hl.1 (Nat.le_of_ble_eq_true rfl) dX6_readNumber_54 ⟨Nat.zero_le _, Nat.zero_le _⟩ (fun H locs hP hD hS => ?_)
    obtain ⟨h18, hF⟩ := gz_s hF
    have hF := Option.some.inj hF
    subst hF
    exact hQ _ H _ _ dX6_readNumber_57 h18 hP hD hS
set_option maxHeartbeats 4000000 in
set_option maxRecDepth 100000 in
theorem w_X6_readNumber_24 {p : Program} {l : Launch} {e : Env} {s : State} {m : MethodId} {args : Array Value} {below : List Frame} {meth : Method} {c : Code} {Q : State → Prop} {A : Nat → Prop} {D : va_G} {ky : Nat → ClassId} {aT aTb aTn : Nat} {tle : Int32} {tga : Int32} {trr : Int32} {tby : Nat → Int32} (N : Nat) (C : cx p s m c args D ky A cX6_readNumber 5 wsX6_readNumber RX6) (res : Int32 × Int32 × Int32 × (Nat → Int32)) (hQ : ∀ (pc : Nat) (H : Heap) (locs : List Loc) (ls : Array Slot), decode cX6_readNumber pc = .ok (.ireturn, 1) → (res.1 = 0 ∨ res.1 = 1) → va_P D vwCl (w_tape ky aT aTb aTn tle tga trr res.2.1 res.2.2.1 tby res.2.2.2) H → va_D A (w_tape ky aT aTb aTn tle tga trr res.2.1 res.2.2.1 tby res.2.2.2) → va_S A s.heap H locs → W p l e rm_X6_readNumber s m args below meth c H locs 0 0 Q (F0 m pc ls [.int res.1]))  (l1 : Int32) (l2 : Int32) (t0 : Int32) (tat : Int32) (tfa : Int32) (tnu : Nat → Int32) (hF : f_X6_readNumber_24 N l1 l2 t0 tle tat tfa tby tnu = some res) : ∀ (H : Heap) (locs : List Loc) (ls : Array Slot), va_P D vwCl (w_tape ky aT aTb aTn tle tga trr tat tfa tby tnu) H → va_D A (w_tape ky aT aTb aTn tle tga trr tat tfa tby tnu) → va_S A s.heap H locs → lv_has ls 5 [(0, .ref aT), (1, .int l1), (2, .int l2)] → W p l e rm_X6_readNumber s m args below meth c H locs 0 0 Q (F0 m 24 ls [.int t0]) := by
  obtain ⟨hx, hb, hml, hown, hts, hK, hA⟩ := id C
  intro H locs ls hP hD hS hl
  unfold f_X6_readNumber_24 at hF
  refine lv_istore_n (lv' := [(3, .int t0), (0, .ref aT), (1, .int l1), (2, .int l2)]) hx hb dX6_readNumber_24 rfl hl (by decide) rfl (fun ls hl => ?_)
  refine lv_iload_n hx hb dX6_readNumber_25 rfl (lv_at hl 0 rfl) ?_
  refine lv_if_eq (tgt := 39) hx hb dX6_readNumber_26 (by decide) (fun c8 => ?_) (fun c8 => ?_)
  · have hF := if_t c8 hF
    exact w_X6_readNumber_39 N C res hQ l1 l2 t0 tat tfa tnu hF H _ _ hP hD hS (lv_sub hl [1, 2, 3, 0] rfl)
  · have hF := if_f c8 hF
    refine lv_aload_n hx hb dX6_readNumber_29 rfl (lv_at hl 1 rfl) ?_
    refine lv_dup hx hb dX6_readNumber_30 rfl ?_
    refine va_get (D := D) (ci := 5) (v := .int tat) (C := RX6) (T := TX6) (N := 7) hx hb hts iX6_readNumber_X6 hown hK hP 0 rfl rfl 5 (by decide) (hts _ kX6_readNumber_1) (fun _ h9 => h9) rfl dX6_readNumber_31 ?_
    refine lv_iconst (v := (1 : Int32)) hx hb dX6_readNumber_34 (by decide) ?_
    refine lv_iadd hx hb dX6_readNumber_35 ?_
    refine va_put (D := D) (ci := 5) (v := .int (tat + (1 : Int32))) (ty := .int) (C := RX6) (T := TX6) (N := 7) hx hb hts iX6_readNumber_X6 tyX6 tyX6_ok nmX6 hown hK hP hD hS 0 rfl rfl 5 (by decide) (hts _ kX6_readNumber_1) (fun _ h9 => h9) rfl (by decide +kernel) rfl rfl (Nat.le_of_ble_eq_true rfl) dX6_readNumber_36 (fun H locs hP hD hS => ?_)
    have hP : va_P D vwCl (w_tape ky aT aTb aTn tle tga trr (tat + (1 : Int32)) tfa tby tnu) H := hP
    have hD : va_D A (w_tape ky aT aTb aTn tle tga trr (tat + (1 : Int32)) tfa tby tnu) := hD
    exact w_X6_readNumber_39 N C res hQ l1 l2 t0 (tat + (1 : Int32)) tfa tnu hF H _ _ hP hD hS (lv_sub hl [1, 2, 3, 0] rfl)
set_option maxHeartbeats 4000000 in
set_option maxRecDepth 100000 in
theorem cr_X6_readNumber (l : Launch) (D : va_G) (ky : Nat → ClassId) (aT aTb aTn : Nat) (sz N : Nat)  (tle : Int32) (tga : Int32) (trr : Int32) (tat : Int32) (tfa : Int32) (tby : Nat → Int32) (tnu : Nat → Int32) (p0 : Int32) (res : Int32 × Int32 × Int32 × (Nat → Int32)) (hF : f_X6_readNumber N p0 tle tat tfa tby tnu = some res) : MI l yX6_readNumber wsX6_readNumber rm_X6_readNumber D ky sz [.ref aT, .int p0] (w_tape ky aT aTb aTn tle tga trr tat tfa tby tnu) (w_tape ky aT aTb aTn tle tga trr res.2.1 res.2.2.1 tby res.2.2.2) res.1 := by
  unfold MI
  refine Met.ofW (cc := cX6_readNumber) (maxL := 5) (ret := (some .boolean)) (by decide) rfl ?_
  intro p e s m args below meth c s₁ B hml hv
  obtain ⟨rfl, hsz, hP, hK, hD0⟩ := hv
  have hx := B.exec
  have hb := B.bytes
  have hr := B.returns
  have hts := atoms_spec (ws := wsX6_readNumber) B.pre
  have hown : s.vm.findClass RX6 = some m.cls := findClass_of_methodNamed B.named
  have hlocks := B.notSynchronized
  subst hsz
  have hD := hD0.self (sz := s.heap.size)
  generalize hAe : va_A (w_tape ky aT aTb aTn tle tga trr tat tfa tby tnu) s.heap.size = A at hD ⊢
  have hA : ∀ q : Nat, s.heap.size ≤ q → A q := fun q h => by rw [← hAe]; exact Or.inr h
  have hS : va_S A s.heap s.heap [] := va_S.rf
  have hP : va_P D vwCl (w_tape ky aT aTb aTn tle tga trr tat tfa tby tnu) s.heap := hP
  have hl := lv_entry ([.ref aT, .int p0]) (n := 5) (Nat.le_of_ble_eq_true rfl)
  rw [lg_entry_eq]
  generalize (lg_sl ([.ref aT, .int p0]) ++ List.replicate (5 - (lg_sl ([.ref aT, .int p0])).length) Slot.unset).toArray = ls at hl ⊢
  have hl : lv_has ls 5 [(0, .ref aT), (1, .int p0)] := hl
  have C : cx p s m c ([.ref aT, .int p0]).toArray D ky A cX6_readNumber 5 wsX6_readNumber RX6 := ⟨hx, hb, hml, hown, hts, hK, hA⟩
  have hQ : ∀ (pc : Nat) (H : Heap) (locs : List Loc) (ls : Array Slot), decode cX6_readNumber pc = .ok (.ireturn, 1) → (res.1 = 0 ∨ res.1 = 1) → va_P D vwCl (w_tape ky aT aTb aTn tle tga trr res.2.1 res.2.2.1 tby res.2.2.2) H → va_D A (w_tape ky aT aTb aTn tle tga trr res.2.1 res.2.2.1 tby res.2.2.2) → va_S A s.heap H locs → W p l e rm_X6_readNumber s m ([.ref aT, .int p0]).toArray below meth c H locs 0 0 (MQ below (va_Qi (S := Unit) (fun r _ => r = res.1) (fun _ t => va_P D vwCl (w_tape ky aT aTb aTn tle tga trr res.2.1 res.2.2.1 tby res.2.2.2) t.heap ∧ va_K D vwCl (tyW ky) t ∧ va_D A (w_tape ky aT aTb aTn tle tga trr res.2.1 res.2.2.1 tby res.2.2.2)) A) ([.ref aT, .int p0]).toArray s 0 0 A) (F0 m pc ls [.int res.1]) := fun pc H locs ls hd hz hP hD hS => W.zret hx hb hr (gz_n hz) (fun t ht hW => ⟨⟨res.1, (), rfl, rfl, by rw [ht]; exact hP, va_K.moved hW.alike hK, hD⟩, hS.F ht⟩) hS.2.2 hd
  unfold f_X6_readNumber at hF
  refine lv_aload_n hx hb dX6_readNumber_0 rfl (lv_at hl 0 rfl) ?_
  obtain ⟨r2, v3, h1, hF⟩ := b2_s hF
  refine cl_vi (As := []) (rest := []) (w' := (w_tape ky aT aTb aTn tle tga trr v3 tfa tby tnu)) ⟨hx, hb, hml, hown, hts⟩ hK hP hD hS hA (c_X6_look l D ky aT aTb aTn _ N  tle tga trr tat tfa tby tnu  r2 v3 h1) (cwV 0 hts gX6_readNumber_X6_look rfl rfl rfl (by decide +kernel) ⟨Nat.le_of_ble_eq_true rfl, Nat.le_of_ble_eq_true rfl⟩) [0, 1, 2] [] [0, 1, 2] 0 5 rfl rfl rfl rfl (wr := []) rfl (by decide) rfl rfl hl.1 (Nat.le_of_ble_eq_true rfl) dX6_readNumber_1 ⟨Nat.zero_le _, Nat.zero_le _⟩ (fun H locs hP hD hS => ?_)
  refine lv_pop hx hb dX6_readNumber_4 rfl ?_
  refine lv_aload_n hx hb dX6_readNumber_5 rfl (lv_at hl 0 rfl) ?_
  refine va_get (D := D) (ci := 5) (v := .int v3) (C := RX6) (T := TX6) (N := 7) hx hb hts iX6_readNumber_X6 hown hK hP 0 rfl rfl 5 (by decide) (hts _ kX6_readNumber_1) (fun _ h9 => h9) rfl dX6_readNumber_6 ?_
  refine lv_istore_n (lv' := [(2, .int v3), (0, .ref aT), (1, .int p0)]) hx hb dX6_readNumber_9 rfl hl (by decide) rfl (fun ls hl => ?_)
  refine lv_aload_n hx hb dX6_readNumber_10 rfl (lv_at hl 1 rfl) ?_
  obtain ⟨r5, v6, h4, hF⟩ := b2_s hF
  refine cl_vi (As := []) (rest := []) (w' := (w_tape ky aT aTb aTn tle tga trr v6 tfa tby tnu)) ⟨hx, hb, hml, hown, hts⟩ hK hP hD hS hA (c_X6_look l D ky aT aTb aTn _ N  tle tga trr v3 tfa tby tnu  r5 v6 h4) (cwV 0 hts gX6_readNumber_X6_look rfl rfl rfl (by decide +kernel) ⟨Nat.le_of_ble_eq_true rfl, Nat.le_of_ble_eq_true rfl⟩) [0, 1, 2] [] [0, 1, 2] 0 5 rfl rfl rfl rfl (wr := []) rfl (by decide) rfl rfl hl.1 (Nat.le_of_ble_eq_true rfl) dX6_readNumber_11 ⟨Nat.zero_le _, Nat.zero_le _⟩ (fun H locs hP hD hS => ?_)
  refine lv_bipush (v := (45 : Int32)) hx hb dX6_readNumber_14 (by decide) ?_
  refine lv_icmp_ne (tgt := 23) hx hb dX6_readNumber_16 (by decide) (fun c7 => ?_) (fun c7 => ?_)
  · have hF := if_f c7 hF
    refine lv_iconst (v := (0 : Int32)) hx hb dX6_readNumber_23 (by decide) ?_
    exact w_X6_readNumber_24 N C res hQ p0 v3 (0 : Int32) v6 tfa tnu hF _ _ _ hP hD hS (lv_sub hl [1, 2, 0] rfl)
  · have hF := if_t c7 hF
    refine lv_iconst (v := (1 : Int32)) hx hb dX6_readNumber_19 (by decide) ?_
    refine lv_goto (tgt := 24) hx hb dX6_readNumber_20 (by decide) ?_
    exact w_X6_readNumber_24 N C res hQ p0 v3 (1 : Int32) v6 tfa tnu hF _ _ _ hP hD hS (lv_sub hl [1, 2, 0] rfl)
theorem c_X6_readNumber (l : Launch) (D : va_G) (ky : Nat → ClassId) (aT aTb aTn : Nat) (sz N : Nat)  (tle : Int32) (tga : Int32) (trr : Int32) (tat : Int32) (tfa : Int32) (tby : Nat → Int32) (tnu : Nat → Int32) (p0 : Int32) (rv : Int32) (tat' : Int32) (tfa' : Int32) (tnu' : Nat → Int32) (hF : f_X6_readNumber N p0 tle tat tfa tby tnu = some (rv, tat', tfa', tnu')) : MI l yX6_readNumber wsX6_readNumber rm_X6_readNumber D ky sz [.ref aT, .int p0] (w_tape ky aT aTb aTn tle tga trr tat tfa tby tnu) (w_tape ky aT aTb aTn tle tga trr tat' tfa' tby tnu') rv :=
  cr_X6_readNumber l D ky aT aTb aTn sz N tle tga trr tat tfa tby tnu p0 (rv, tat', tfa', tnu') hF
abbrev rm_X6_readEnd : Room := { frames := 2, cells := 0, slots := 0, locals := 46 }
theorem iX6_readEnd_X6 : ∀ w ∈ wsX60, w ∈ wsX6_readEnd := by decide +kernel
theorem kX6_readEnd_1 : (Cond.fieldLink RX6 22 "TwoLaws$Tape" "gaps" "I") ∈ wsX6_readEnd := by decide +kernel
theorem kX6_readEnd_2 : (Cond.fieldLink RX6 25 "TwoLaws$Tape" "rowsRead" "I") ∈ wsX6_readEnd := by decide +kernel
set_option maxHeartbeats 4000000 in
set_option maxRecDepth 100000 in
theorem cr_X6_readEnd (l : Launch) (D : va_G) (ky : Nat → ClassId) (aT aTb aTn : Nat) (sz N : Nat)  (tle : Int32) (tga : Int32) (trr : Int32) (tat : Int32) (tfa : Int32) (tby : Nat → Int32) (tnu : Nat → Int32) (p0 : Int32) (res : Int32 × Int32 × Int32 × Int32 × (Nat → Int32)) (hF : f_X6_readEnd N p0 tle tga trr tat tfa tby tnu = some res) : MI l yX6_readEnd wsX6_readEnd rm_X6_readEnd D ky sz [.ref aT, .int p0] (w_tape ky aT aTb aTn tle tga trr tat tfa tby tnu) (w_tape ky aT aTb aTn tle res.2.1 trr res.2.2.1 res.2.2.2.1 tby res.2.2.2.2) res.1 := by
  unfold MI
  refine Met.ofW (cc := cX6_readEnd) (maxL := 2) (ret := (some .boolean)) (by decide) rfl ?_
  intro p e s m args below meth c s₁ B hml hv
  obtain ⟨rfl, hsz, hP, hK, hD0⟩ := hv
  have hx := B.exec
  have hb := B.bytes
  have hr := B.returns
  have hts := atoms_spec (ws := wsX6_readEnd) B.pre
  have hown : s.vm.findClass RX6 = some m.cls := findClass_of_methodNamed B.named
  have hlocks := B.notSynchronized
  subst hsz
  have hD := hD0.self (sz := s.heap.size)
  generalize hAe : va_A (w_tape ky aT aTb aTn tle tga trr tat tfa tby tnu) s.heap.size = A at hD ⊢
  have hA : ∀ q : Nat, s.heap.size ≤ q → A q := fun q h => by rw [← hAe]; exact Or.inr h
  have hS : va_S A s.heap s.heap [] := va_S.rf
  have hP : va_P D vwCl (w_tape ky aT aTb aTn tle tga trr tat tfa tby tnu) s.heap := hP
  have hl := lv_entry ([.ref aT, .int p0]) (n := 2) (Nat.le_of_ble_eq_true rfl)
  rw [lg_entry_eq]
  generalize (lg_sl ([.ref aT, .int p0]) ++ List.replicate (2 - (lg_sl ([.ref aT, .int p0])).length) Slot.unset).toArray = ls at hl ⊢
  have hl : lv_has ls 2 [(0, .ref aT), (1, .int p0)] := hl
  have C : cx p s m c ([.ref aT, .int p0]).toArray D ky A cX6_readEnd 2 wsX6_readEnd RX6 := ⟨hx, hb, hml, hown, hts, hK, hA⟩
  have hQ : ∀ (pc : Nat) (H : Heap) (locs : List Loc) (ls : Array Slot), decode cX6_readEnd pc = .ok (.ireturn, 1) → (res.1 = 0 ∨ res.1 = 1) → va_P D vwCl (w_tape ky aT aTb aTn tle res.2.1 trr res.2.2.1 res.2.2.2.1 tby res.2.2.2.2) H → va_D A (w_tape ky aT aTb aTn tle res.2.1 trr res.2.2.1 res.2.2.2.1 tby res.2.2.2.2) → va_S A s.heap H locs → W p l e rm_X6_readEnd s m ([.ref aT, .int p0]).toArray below meth c H locs 0 0 (MQ below (va_Qi (S := Unit) (fun r _ => r = res.1) (fun _ t => va_P D vwCl (w_tape ky aT aTb aTn tle res.2.1 trr res.2.2.1 res.2.2.2.1 tby res.2.2.2.2) t.heap ∧ va_K D vwCl (tyW ky) t ∧ va_D A (w_tape ky aT aTb aTn tle res.2.1 trr res.2.2.1 res.2.2.2.1 tby res.2.2.2.2)) A) ([.ref aT, .int p0]).toArray s 0 0 A) (F0 m pc ls [.int res.1]) := fun pc H locs ls hd hz hP hD hS => W.zret hx hb hr (gz_n hz) (fun t ht hW => ⟨⟨res.1, (), rfl, rfl, by rw [ht]; exact hP, va_K.moved hW.alike hK, hD⟩, hS.F ht⟩) hS.2.2 hd
  unfold f_X6_readEnd at hF
  refine lv_aload_n hx hb dX6_readEnd_0 rfl (lv_at hl 0 rfl) ?_
  obtain ⟨r2, v3, h1, hF⟩ := b2_s hF
  refine cl_vi (As := []) (rest := []) (w' := (w_tape ky aT aTb aTn tle tga trr v3 tfa tby tnu)) ⟨hx, hb, hml, hown, hts⟩ hK hP hD hS hA (c_X6_look l D ky aT aTb aTn _ N  tle tga trr tat tfa tby tnu  r2 v3 h1) (cwV 0 hts gX6_readEnd_X6_look rfl rfl rfl (by decide +kernel) ⟨Nat.le_of_ble_eq_true rfl, Nat.le_of_ble_eq_true rfl⟩) [0, 1, 2] [] [0, 1, 2] 0 5 rfl rfl rfl rfl (wr := []) rfl (by decide) rfl rfl hl.1 (Nat.le_of_ble_eq_true rfl) dX6_readEnd_1 ⟨Nat.zero_le _, Nat.zero_le _⟩ (fun H locs hP hD hS => ?_)
  refine lv_bipush (v := (63 : Int32)) hx hb dX6_readEnd_4 (by decide) ?_
  refine lv_icmp_eq (tgt := 15) hx hb dX6_readEnd_6 (by decide) (fun c4 => ?_) (fun c4 => ?_)
  · have hF := if_t c4 hF
    refine lv_aload_n hx hb dX6_readEnd_15 rfl (lv_at hl 0 rfl) ?_
    refine lv_dup hx hb dX6_readEnd_16 rfl ?_
    refine va_get (D := D) (ci := 5) (v := .int tga) (C := RX6) (T := TX6) (N := 7) hx hb hts iX6_readEnd_X6 hown hK hP 0 rfl rfl 3 (by decide) (hts _ kX6_readEnd_1) (fun _ h9 => h9) rfl dX6_readEnd_17 ?_
    refine lv_iconst (v := (1 : Int32)) hx hb dX6_readEnd_20 (by decide) ?_
    refine lv_aload_n hx hb dX6_readEnd_21 rfl (lv_at hl 0 rfl) ?_
    refine va_get (D := D) (ci := 5) (v := .int trr) (C := RX6) (T := TX6) (N := 7) hx hb hts iX6_readEnd_X6 hown hK hP 0 rfl rfl 4 (by decide) (hts _ kX6_readEnd_2) (fun _ h9 => h9) rfl dX6_readEnd_22 ?_
    refine lv_ishl hx hb dX6_readEnd_25 ?_
    refine lv_ior hx hb dX6_readEnd_26 ?_
    refine va_put (D := D) (ci := 5) (v := .int (tga ||| ((1 : Int32) <<< (trr &&& 31)))) (ty := .int) (C := RX6) (T := TX6) (N := 7) hx hb hts iX6_readEnd_X6 tyX6 tyX6_ok nmX6 hown hK hP hD hS 0 rfl rfl 3 (by decide) (hts _ kX6_readEnd_1) (fun _ h9 => h9) rfl (by decide +kernel) rfl rfl (Nat.le_of_ble_eq_true rfl) dX6_readEnd_27 (fun H locs hP hD hS => ?_)
    have hP : va_P D vwCl (w_tape ky aT aTb aTn tle (tga ||| ((1 : Int32) <<< (trr &&& 31))) trr v3 tfa tby tnu) H := hP
    have hD : va_D A (w_tape ky aT aTb aTn tle (tga ||| ((1 : Int32) <<< (trr &&& 31))) trr v3 tfa tby tnu) := hD
    refine lv_aload_n hx hb dX6_readEnd_30 rfl (lv_at hl 0 rfl) ?_
    refine lv_iload_n hx hb dX6_readEnd_31 rfl (lv_at hl 1 rfl) ?_
    refine lv_iconst (v := (0 : Int32)) hx hb dX6_readEnd_32 (by decide) ?_
    obtain ⟨v6, h5, hF⟩ := b1_s hF
    refine cl_vv (As := [.int p0, .int (0 : Int32)]) (rest := []) (w' := (w_tape ky aT aTb aTn tle (tga ||| ((1 : Int32) <<< (trr &&& 31))) trr v3 tfa tby v6)) ⟨hx, hb, hml, hown, hts⟩ hK hP hD hS hA (c_X6_store l D ky aT aTb aTn _ N  tle (tga ||| ((1 : Int32) <<< (trr &&& 31))) trr v3 tfa tby tnu p0 (0 : Int32) v6 h5) (cwV 2 hts gX6_readEnd_X6_store rfl rfl rfl (by decide +kernel) ⟨Nat.le_of_ble_eq_true rfl, Nat.le_of_ble_eq_true rfl⟩) [0, 1, 2] [] [0, 1, 2] 0 5 rfl rfl rfl rfl (wr := []) rfl (by decide) rfl rfl hl.1 (Nat.le_of_ble_eq_true rfl) dX6_readEnd_33 ⟨Nat.zero_le _, Nat.zero_le _⟩ (fun H locs hP hD hS => ?_)
    refine lv_aload_n hx hb dX6_readEnd_36 rfl (lv_at hl 0 rfl) ?_
    refine lv_bipush (v := (63 : Int32)) hx hb dX6_readEnd_37 (by decide) ?_
    obtain ⟨r8, v9, v10, h7, hF⟩ := b3_s hF
    refine cl_vi (As := [.int (63 : Int32)]) (rest := []) (w' := (w_tape ky aT aTb aTn tle (tga ||| ((1 : Int32) <<< (trr &&& 31))) trr v9 v10 tby v6)) ⟨hx, hb, hml, hown, hts⟩ hK hP hD hS hA (c_X6_pass l D ky aT aTb aTn _ N  tle (tga ||| ((1 : Int32) <<< (trr &&& 31))) trr v3 tfa tby v6 (63 : Int32) r8 v9 v10 h7) (cwV 1 hts gX6_readEnd_X6_pass rfl rfl rfl (by decide +kernel) ⟨Nat.le_of_ble_eq_true rfl, Nat.le_of_ble_eq_true rfl⟩) [0, 1, 2] [] [0, 1, 2] 0 5 rfl rfl rfl rfl (wr := []) rfl (by decide) rfl rfl hl.1 (Nat.le_of_ble_eq_true rfl) dX6_readEnd_39 ⟨Nat.zero_le _, Nat.zero_le _⟩ (fun H locs hP hD hS => ?_)
    obtain ⟨h11, hF⟩ := gz_s hF
    have hF := Option.some.inj hF
    subst hF
    exact hQ _ _ _ _ dX6_readEnd_42 h11 hP hD hS
  · have hF := if_f c4 hF
    refine lv_aload_n hx hb dX6_readEnd_9 rfl (lv_at hl 0 rfl) ?_
    refine lv_iload_n hx hb dX6_readEnd_10 rfl (lv_at hl 1 rfl) ?_
    obtain ⟨r13, v14, v15, v16, h12, hF⟩ := b4_s hF
    refine cl_vi (As := [.int p0]) (rest := []) (w' := (w_tape ky aT aTb aTn tle tga trr v14 v15 tby v16)) ⟨hx, hb, hml, hown, hts⟩ hK hP hD hS hA (c_X6_readNumber l D ky aT aTb aTn _ N  tle tga trr v3 tfa tby tnu p0 r13 v14 v15 v16 h12) (cwV 1 hts gX6_readEnd_X6_readNumber rfl rfl rfl (by decide +kernel) ⟨Nat.le_of_ble_eq_true rfl, Nat.le_of_ble_eq_true rfl⟩) [0, 1, 2] [] [0, 1, 2] 0 5 rfl rfl rfl rfl (wr := []) rfl (by decide) rfl rfl hl.1 (Nat.le_of_ble_eq_true rfl) dX6_readEnd_11 ⟨Nat.zero_le _, Nat.zero_le _⟩ (fun H locs hP hD hS => ?_)
    obtain ⟨h17, hF⟩ := gz_s hF
    have hF := Option.some.inj hF
    subst hF
    exact hQ _ _ _ _ dX6_readEnd_14 h17 hP hD hS
theorem c_X6_readEnd (l : Launch) (D : va_G) (ky : Nat → ClassId) (aT aTb aTn : Nat) (sz N : Nat)  (tle : Int32) (tga : Int32) (trr : Int32) (tat : Int32) (tfa : Int32) (tby : Nat → Int32) (tnu : Nat → Int32) (p0 : Int32) (rv : Int32) (tga' : Int32) (tat' : Int32) (tfa' : Int32) (tnu' : Nat → Int32) (hF : f_X6_readEnd N p0 tle tga trr tat tfa tby tnu = some (rv, tga', tat', tfa', tnu')) : MI l yX6_readEnd wsX6_readEnd rm_X6_readEnd D ky sz [.ref aT, .int p0] (w_tape ky aT aTb aTn tle tga trr tat tfa tby tnu) (w_tape ky aT aTb aTn tle tga' trr tat' tfa' tby tnu') rv :=
  cr_X6_readEnd l D ky aT aTb aTn sz N tle tga trr tat tfa tby tnu p0 (rv, tga', tat', tfa', tnu') hF
abbrev rm_X6_readRow : Room := { frames := 3, cells := 0, slots := 0, locals := 67 }
theorem iX6_readRow_X6 : ∀ w ∈ wsX60, w ∈ wsX6_readRow := by decide +kernel
theorem kX6_readRow_1 : (Cond.fieldLink RX6 25 "TwoLaws$Tape" "rowsRead" "I") ∈ wsX6_readRow := by decide +kernel
theorem kX6_readRow_2 : (Cond.fieldLink RX6 28 "TwoLaws$Tape" "at" "I") ∈ wsX6_readRow := by decide +kernel
set_option maxHeartbeats 4000000 in
set_option maxRecDepth 100000 in
theorem cr_X6_readRow (l : Launch) (D : va_G) (ky : Nat → ClassId) (aT aTb aTn : Nat) (sz N : Nat)  (tle : Int32) (tga : Int32) (trr : Int32) (tat : Int32) (tfa : Int32) (tby : Nat → Int32) (tnu : Nat → Int32) (p0 : Int32) (res : Int32 × Int32 × Int32 × Int32 × Int32 × (Nat → Int32)) (hF : f_X6_readRow N p0 tle tga trr tat tfa tby tnu = some res) : MI l yX6_readRow wsX6_readRow rm_X6_readRow D ky sz [.ref aT, .int p0] (w_tape ky aT aTb aTn tle tga trr tat tfa tby tnu) (w_tape ky aT aTb aTn tle res.2.1 res.2.2.1 res.2.2.2.1 res.2.2.2.2.1 tby res.2.2.2.2.2) res.1 := by
  unfold MI
  refine Met.ofW (cc := cX6_readRow) (maxL := 3) (ret := (some .boolean)) (by decide) rfl ?_
  intro p e s m args below meth c s₁ B hml hv
  obtain ⟨rfl, hsz, hP, hK, hD0⟩ := hv
  have hx := B.exec
  have hb := B.bytes
  have hr := B.returns
  have hts := atoms_spec (ws := wsX6_readRow) B.pre
  have hown : s.vm.findClass RX6 = some m.cls := findClass_of_methodNamed B.named
  have hlocks := B.notSynchronized
  subst hsz
  have hD := hD0.self (sz := s.heap.size)
  generalize hAe : va_A (w_tape ky aT aTb aTn tle tga trr tat tfa tby tnu) s.heap.size = A at hD ⊢
  have hA : ∀ q : Nat, s.heap.size ≤ q → A q := fun q h => by rw [← hAe]; exact Or.inr h
  have hS : va_S A s.heap s.heap [] := va_S.rf
  have hP : va_P D vwCl (w_tape ky aT aTb aTn tle tga trr tat tfa tby tnu) s.heap := hP
  have hl := lv_entry ([.ref aT, .int p0]) (n := 3) (Nat.le_of_ble_eq_true rfl)
  rw [lg_entry_eq]
  generalize (lg_sl ([.ref aT, .int p0]) ++ List.replicate (3 - (lg_sl ([.ref aT, .int p0])).length) Slot.unset).toArray = ls at hl ⊢
  have hl : lv_has ls 3 [(0, .ref aT), (1, .int p0)] := hl
  have C : cx p s m c ([.ref aT, .int p0]).toArray D ky A cX6_readRow 3 wsX6_readRow RX6 := ⟨hx, hb, hml, hown, hts, hK, hA⟩
  have hQ : ∀ (pc : Nat) (H : Heap) (locs : List Loc) (ls : Array Slot), decode cX6_readRow pc = .ok (.ireturn, 1) → (res.1 = 0 ∨ res.1 = 1) → va_P D vwCl (w_tape ky aT aTb aTn tle res.2.1 res.2.2.1 res.2.2.2.1 res.2.2.2.2.1 tby res.2.2.2.2.2) H → va_D A (w_tape ky aT aTb aTn tle res.2.1 res.2.2.1 res.2.2.2.1 res.2.2.2.2.1 tby res.2.2.2.2.2) → va_S A s.heap H locs → W p l e rm_X6_readRow s m ([.ref aT, .int p0]).toArray below meth c H locs 0 0 (MQ below (va_Qi (S := Unit) (fun r _ => r = res.1) (fun _ t => va_P D vwCl (w_tape ky aT aTb aTn tle res.2.1 res.2.2.1 res.2.2.2.1 res.2.2.2.2.1 tby res.2.2.2.2.2) t.heap ∧ va_K D vwCl (tyW ky) t ∧ va_D A (w_tape ky aT aTb aTn tle res.2.1 res.2.2.1 res.2.2.2.1 res.2.2.2.2.1 tby res.2.2.2.2.2)) A) ([.ref aT, .int p0]).toArray s 0 0 A) (F0 m pc ls [.int res.1]) := fun pc H locs ls hd hz hP hD hS => W.zret hx hb hr (gz_n hz) (fun t ht hW => ⟨⟨res.1, (), rfl, rfl, by rw [ht]; exact hP, va_K.moved hW.alike hK, hD⟩, hS.F ht⟩) hS.2.2 hd
  unfold f_X6_readRow at hF
  refine lv_aload_n hx hb dX6_readRow_0 rfl (lv_at hl 0 rfl) ?_
  obtain ⟨r2, v3, h1, hF⟩ := b2_s hF
  refine cl_vi (As := []) (rest := []) (w' := (w_tape ky aT aTb aTn tle tga trr v3 tfa tby tnu)) ⟨hx, hb, hml, hown, hts⟩ hK hP hD hS hA (c_X6_look l D ky aT aTb aTn _ N  tle tga trr tat tfa tby tnu  r2 v3 h1) (cwV 0 hts gX6_readRow_X6_look rfl rfl rfl (by decide +kernel) ⟨Nat.le_of_ble_eq_true rfl, Nat.le_of_ble_eq_true rfl⟩) [0, 1, 2] [] [0, 1, 2] 0 5 rfl rfl rfl rfl (wr := []) rfl (by decide) rfl rfl hl.1 (Nat.le_of_ble_eq_true rfl) dX6_readRow_1 ⟨Nat.zero_le _, Nat.zero_le _⟩ (fun H locs hP hD hS => ?_)
  refine lv_pop hx hb dX6_readRow_4 rfl ?_
  refine lv_aload_n hx hb dX6_readRow_5 rfl (lv_at hl 0 rfl) ?_
  refine va_get (D := D) (ci := 5) (v := .int trr) (C := RX6) (T := TX6) (N := 7) hx hb hts iX6_readRow_X6 hown hK hP 0 rfl rfl 4 (by decide) (hts _ kX6_readRow_1) (fun _ h9 => h9) rfl dX6_readRow_6 ?_
  refine lv_iload_n hx hb dX6_readRow_9 rfl (lv_at hl 1 rfl) ?_
  refine lv_icmp_ge (tgt := 22) hx hb dX6_readRow_10 (by decide) (fun c4 => ?_) (fun c4 => ?_)
  · have hF := if_t c4 hF
    refine lv_aload_n hx hb dX6_readRow_22 rfl (lv_at hl 0 rfl) ?_
    refine lv_aload_n hx hb dX6_readRow_23 rfl (lv_at hl 0 rfl) ?_
    refine va_get (D := D) (ci := 5) (v := .int v3) (C := RX6) (T := TX6) (N := 7) hx hb hts iX6_readRow_X6 hown hK hP 0 rfl rfl 5 (by decide) (hts _ kX6_readRow_2) (fun _ h9 => h9) rfl dX6_readRow_24 ?_
    obtain ⟨r6, v7, h5, hF⟩ := b2_s hF
    refine cl_vi (As := [.int v3]) (rest := []) (w' := (w_tape ky aT aTb aTn tle tga trr v3 v7 tby tnu)) ⟨hx, hb, hml, hown, hts⟩ hK hP hD hS hA (c_X6_refuse l D ky aT aTb aTn _ N  tle tga trr v3 tfa tby tnu v3 r6 v7 h5) (cwV 1 hts gX6_readRow_X6_refuse rfl rfl rfl (by decide +kernel) ⟨Nat.le_of_ble_eq_true rfl, Nat.le_of_ble_eq_true rfl⟩) [0, 1, 2] [] [0, 1, 2] 0 5 rfl rfl rfl rfl (wr := []) rfl (by decide) rfl rfl hl.1 (Nat.le_of_ble_eq_true rfl) dX6_readRow_27 ⟨Nat.zero_le _, Nat.zero_le _⟩ (fun H locs hP hD hS => ?_)
    obtain ⟨h8, hF⟩ := gz_s hF
    have hF := Option.some.inj hF
    subst hF
    exact hQ _ _ _ _ dX6_readRow_30 h8 hP hD hS
  · have hF := if_f c4 hF
    refine lv_aload_n hx hb dX6_readRow_13 rfl (lv_at hl 0 rfl) ?_
    refine va_get (D := D) (ci := 5) (v := .int trr) (C := RX6) (T := TX6) (N := 7) hx hb hts iX6_readRow_X6 hown hK hP 0 rfl rfl 4 (by decide) (hts _ kX6_readRow_1) (fun _ h9 => h9) rfl dX6_readRow_14 ?_
    refine lv_bipush (v := (12 : Int32)) hx hb dX6_readRow_17 (by decide) ?_
    refine lv_icmp_lt (tgt := 31) hx hb dX6_readRow_19 (by decide) (fun c9 => ?_) (fun c9 => ?_)
    · have hF := if_t c9 hF
      refine lv_iconst (v := (3 : Int32)) hx hb dX6_readRow_31 (by decide) ?_
      refine lv_aload_n hx hb dX6_readRow_32 rfl (lv_at hl 0 rfl) ?_
      refine va_get (D := D) (ci := 5) (v := .int trr) (C := RX6) (T := TX6) (N := 7) hx hb hts iX6_readRow_X6 hown hK hP 0 rfl rfl 4 (by decide) (hts _ kX6_readRow_1) (fun _ h9 => h9) rfl dX6_readRow_33 ?_
      refine lv_imul hx hb dX6_readRow_36 ?_
      refine lv_istore_n (lv' := [(2, .int ((3 : Int32) * trr)), (0, .ref aT), (1, .int p0)]) hx hb dX6_readRow_37 rfl hl (by decide) rfl (fun ls hl => ?_)
      refine lv_aload_n hx hb dX6_readRow_38 rfl (lv_at hl 1 rfl) ?_
      refine lv_bipush (v := (120 : Int32)) hx hb dX6_readRow_39 (by decide) ?_
      obtain ⟨r11, v12, v13, h10, hF⟩ := b3_s hF
      refine cl_vi (As := [.int (120 : Int32)]) (rest := []) (w' := (w_tape ky aT aTb aTn tle tga trr v12 v13 tby tnu)) ⟨hx, hb, hml, hown, hts⟩ hK hP hD hS hA (c_X6_pass l D ky aT aTb aTn _ N  tle tga trr v3 tfa tby tnu (120 : Int32) r11 v12 v13 h10) (cwV 1 hts gX6_readRow_X6_pass rfl rfl rfl (by decide +kernel) ⟨Nat.le_of_ble_eq_true rfl, Nat.le_of_ble_eq_true rfl⟩) [0, 1, 2] [] [0, 1, 2] 0 5 rfl rfl rfl rfl (wr := []) rfl (by decide) rfl rfl hl.1 (Nat.le_of_ble_eq_true rfl) dX6_readRow_41 ⟨Nat.zero_le _, Nat.zero_le _⟩ (fun H locs hP hD hS => ?_)
      refine lv_if_eq (tgt := 105) hx hb dX6_readRow_44 (by decide) (fun c14 => ?_) (fun c14 => ?_)
      · have hF := if_t c14 hF
        refine lv_iconst (v := (0 : Int32)) hx hb dX6_readRow_105 (by decide) ?_
        have hF := Option.some.inj hF
        subst hF
        exact hQ _ _ _ _ dX6_readRow_106 (Or.inl rfl) hP hD hS
      · have hF := if_f c14 hF
        refine lv_aload_n hx hb dX6_readRow_47 rfl (lv_at hl 1 rfl) ?_
        refine lv_iload_n hx hb dX6_readRow_48 rfl (lv_at hl 0 rfl) ?_
        obtain ⟨r16, v17, v18, v19, h15, hF⟩ := b4_s hF
        refine cl_vi (As := [.int ((3 : Int32) * trr)]) (rest := []) (w' := (w_tape ky aT aTb aTn tle tga trr v17 v18 tby v19)) ⟨hx, hb, hml, hown, hts⟩ hK hP hD hS hA (c_X6_readNumber l D ky aT aTb aTn _ N  tle tga trr v12 v13 tby tnu ((3 : Int32) * trr) r16 v17 v18 v19 h15) (cwV 1 hts gX6_readRow_X6_readNumber rfl rfl rfl (by decide +kernel) ⟨Nat.le_of_ble_eq_true rfl, Nat.le_of_ble_eq_true rfl⟩) [0, 1, 2] [] [0, 1, 2] 0 5 rfl rfl rfl rfl (wr := []) rfl (by decide) rfl rfl hl.1 (Nat.le_of_ble_eq_true rfl) dX6_readRow_49 ⟨Nat.zero_le _, Nat.zero_le _⟩ (fun H locs hP hD hS => ?_)
        refine lv_if_eq (tgt := 105) hx hb dX6_readRow_52 (by decide) (fun c20 => ?_) (fun c20 => ?_)
        · have hF := if_t c20 hF
          refine lv_iconst (v := (0 : Int32)) hx hb dX6_readRow_105 (by decide) ?_
          have hF := Option.some.inj hF
          subst hF
          exact hQ _ _ _ _ dX6_readRow_106 (Or.inl rfl) hP hD hS
        · have hF := if_f c20 hF
          refine lv_aload_n hx hb dX6_readRow_55 rfl (lv_at hl 1 rfl) ?_
          refine lv_bipush (v := (117 : Int32)) hx hb dX6_readRow_56 (by decide) ?_
          obtain ⟨r22, v23, v24, h21, hF⟩ := b3_s hF
          refine cl_vi (As := [.int (117 : Int32)]) (rest := []) (w' := (w_tape ky aT aTb aTn tle tga trr v23 v24 tby v19)) ⟨hx, hb, hml, hown, hts⟩ hK hP hD hS hA (c_X6_pass l D ky aT aTb aTn _ N  tle tga trr v17 v18 tby v19 (117 : Int32) r22 v23 v24 h21) (cwV 1 hts gX6_readRow_X6_pass rfl rfl rfl (by decide +kernel) ⟨Nat.le_of_ble_eq_true rfl, Nat.le_of_ble_eq_true rfl⟩) [0, 1, 2] [] [0, 1, 2] 0 5 rfl rfl rfl rfl (wr := []) rfl (by decide) rfl rfl hl.1 (Nat.le_of_ble_eq_true rfl) dX6_readRow_58 ⟨Nat.zero_le _, Nat.zero_le _⟩ (fun H locs hP hD hS => ?_)
          refine lv_if_eq (tgt := 105) hx hb dX6_readRow_61 (by decide) (fun c25 => ?_) (fun c25 => ?_)
          · have hF := if_t c25 hF
            refine lv_iconst (v := (0 : Int32)) hx hb dX6_readRow_105 (by decide) ?_
            have hF := Option.some.inj hF
            subst hF
            exact hQ _ _ _ _ dX6_readRow_106 (Or.inl rfl) hP hD hS
          · have hF := if_f c25 hF
            refine lv_aload_n hx hb dX6_readRow_64 rfl (lv_at hl 1 rfl) ?_
            refine lv_iload_n hx hb dX6_readRow_65 rfl (lv_at hl 0 rfl) ?_
            refine lv_iconst (v := (1 : Int32)) hx hb dX6_readRow_66 (by decide) ?_
            refine lv_iadd hx hb dX6_readRow_67 ?_
            obtain ⟨r27, v28, v29, v30, h26, hF⟩ := b4_s hF
            refine cl_vi (As := [.int (((3 : Int32) * trr) + (1 : Int32))]) (rest := []) (w' := (w_tape ky aT aTb aTn tle tga trr v28 v29 tby v30)) ⟨hx, hb, hml, hown, hts⟩ hK hP hD hS hA (c_X6_readNumber l D ky aT aTb aTn _ N  tle tga trr v23 v24 tby v19 (((3 : Int32) * trr) + (1 : Int32)) r27 v28 v29 v30 h26) (cwV 1 hts gX6_readRow_X6_readNumber rfl rfl rfl (by decide +kernel) ⟨Nat.le_of_ble_eq_true rfl, Nat.le_of_ble_eq_true rfl⟩) [0, 1, 2] [] [0, 1, 2] 0 5 rfl rfl rfl rfl (wr := []) rfl (by decide) rfl rfl hl.1 (Nat.le_of_ble_eq_true rfl) dX6_readRow_68 ⟨Nat.zero_le _, Nat.zero_le _⟩ (fun H locs hP hD hS => ?_)
            refine lv_if_eq (tgt := 105) hx hb dX6_readRow_71 (by decide) (fun c31 => ?_) (fun c31 => ?_)
            · have hF := if_t c31 hF
              refine lv_iconst (v := (0 : Int32)) hx hb dX6_readRow_105 (by decide) ?_
              have hF := Option.some.inj hF
              subst hF
              exact hQ _ _ _ _ dX6_readRow_106 (Or.inl rfl) hP hD hS
            · have hF := if_f c31 hF
              refine lv_aload_n hx hb dX6_readRow_74 rfl (lv_at hl 1 rfl) ?_
              refine lv_bipush (v := (121 : Int32)) hx hb dX6_readRow_75 (by decide) ?_
              obtain ⟨r33, v34, v35, h32, hF⟩ := b3_s hF
              refine cl_vi (As := [.int (121 : Int32)]) (rest := []) (w' := (w_tape ky aT aTb aTn tle tga trr v34 v35 tby v30)) ⟨hx, hb, hml, hown, hts⟩ hK hP hD hS hA (c_X6_pass l D ky aT aTb aTn _ N  tle tga trr v28 v29 tby v30 (121 : Int32) r33 v34 v35 h32) (cwV 1 hts gX6_readRow_X6_pass rfl rfl rfl (by decide +kernel) ⟨Nat.le_of_ble_eq_true rfl, Nat.le_of_ble_eq_true rfl⟩) [0, 1, 2] [] [0, 1, 2] 0 5 rfl rfl rfl rfl (wr := []) rfl (by decide) rfl rfl hl.1 (Nat.le_of_ble_eq_true rfl) dX6_readRow_77 ⟨Nat.zero_le _, Nat.zero_le _⟩ (fun H locs hP hD hS => ?_)
              refine lv_if_eq (tgt := 105) hx hb dX6_readRow_80 (by decide) (fun c36 => ?_) (fun c36 => ?_)
              · have hF := if_t c36 hF
                refine lv_iconst (v := (0 : Int32)) hx hb dX6_readRow_105 (by decide) ?_
                have hF := Option.some.inj hF
                subst hF
                exact hQ _ _ _ _ dX6_readRow_106 (Or.inl rfl) hP hD hS
              · have hF := if_f c36 hF
                refine lv_aload_n hx hb dX6_readRow_83 rfl (lv_at hl 1 rfl) ?_
                refine lv_iload_n hx hb dX6_readRow_84 rfl (lv_at hl 0 rfl) ?_
                refine lv_iconst (v := (2 : Int32)) hx hb dX6_readRow_85 (by decide) ?_
                refine lv_iadd hx hb dX6_readRow_86 ?_
                obtain ⟨r38, v39, v40, v41, v42, h37, hF⟩ := b5_s hF
                refine cl_vi (As := [.int (((3 : Int32) * trr) + (2 : Int32))]) (rest := []) (w' := (w_tape ky aT aTb aTn tle v39 trr v40 v41 tby v42)) ⟨hx, hb, hml, hown, hts⟩ hK hP hD hS hA (c_X6_readEnd l D ky aT aTb aTn _ N  tle tga trr v34 v35 tby v30 (((3 : Int32) * trr) + (2 : Int32)) r38 v39 v40 v41 v42 h37) (cwV 1 hts gX6_readRow_X6_readEnd rfl rfl rfl (by decide +kernel) ⟨Nat.le_of_ble_eq_true rfl, Nat.le_of_ble_eq_true rfl⟩) [0, 1, 2] [] [0, 1, 2] 0 5 rfl rfl rfl rfl (wr := []) rfl (by decide) rfl rfl hl.1 (Nat.le_of_ble_eq_true rfl) dX6_readRow_87 ⟨Nat.zero_le _, Nat.zero_le _⟩ (fun H locs hP hD hS => ?_)
                refine lv_if_eq (tgt := 105) hx hb dX6_readRow_90 (by decide) (fun c43 => ?_) (fun c43 => ?_)
                · have hF := if_t c43 hF
                  refine lv_iconst (v := (0 : Int32)) hx hb dX6_readRow_105 (by decide) ?_
                  have hF := Option.some.inj hF
                  subst hF
                  exact hQ _ _ _ _ dX6_readRow_106 (Or.inl rfl) hP hD hS
                · have hF := if_f c43 hF
                  refine lv_aload_n hx hb dX6_readRow_93 rfl (lv_at hl 1 rfl) ?_
                  refine lv_dup hx hb dX6_readRow_94 rfl ?_
                  refine va_get (D := D) (ci := 5) (v := .int trr) (C := RX6) (T := TX6) (N := 7) hx hb hts iX6_readRow_X6 hown hK hP 0 rfl rfl 4 (by decide) (hts _ kX6_readRow_1) (fun _ h9 => h9) rfl dX6_readRow_95 ?_
                  refine lv_iconst (v := (1 : Int32)) hx hb dX6_readRow_98 (by decide) ?_
                  refine lv_iadd hx hb dX6_readRow_99 ?_
                  refine va_put (D := D) (ci := 5) (v := .int (trr + (1 : Int32))) (ty := .int) (C := RX6) (T := TX6) (N := 7) hx hb hts iX6_readRow_X6 tyX6 tyX6_ok nmX6 hown hK hP hD hS 0 rfl rfl 4 (by decide) (hts _ kX6_readRow_1) (fun _ h9 => h9) rfl (by decide +kernel) rfl rfl (Nat.le_of_ble_eq_true rfl) dX6_readRow_100 (fun H locs hP hD hS => ?_)
                  have hP : va_P D vwCl (w_tape ky aT aTb aTn tle v39 (trr + (1 : Int32)) v40 v41 tby v42) H := hP
                  have hD : va_D A (w_tape ky aT aTb aTn tle v39 (trr + (1 : Int32)) v40 v41 tby v42) := hD
                  refine lv_iconst (v := (1 : Int32)) hx hb dX6_readRow_103 (by decide) ?_
                  have hF := Option.some.inj hF
                  subst hF
                  exact hQ _ _ _ _ dX6_readRow_104 (Or.inr rfl) hP hD hS
    · have hF := if_f c9 hF
      refine lv_aload_n hx hb dX6_readRow_22 rfl (lv_at hl 0 rfl) ?_
      refine lv_aload_n hx hb dX6_readRow_23 rfl (lv_at hl 0 rfl) ?_
      refine va_get (D := D) (ci := 5) (v := .int v3) (C := RX6) (T := TX6) (N := 7) hx hb hts iX6_readRow_X6 hown hK hP 0 rfl rfl 5 (by decide) (hts _ kX6_readRow_2) (fun _ h9 => h9) rfl dX6_readRow_24 ?_
      obtain ⟨r45, v46, h44, hF⟩ := b2_s hF
      refine cl_vi (As := [.int v3]) (rest := []) (w' := (w_tape ky aT aTb aTn tle tga trr v3 v46 tby tnu)) ⟨hx, hb, hml, hown, hts⟩ hK hP hD hS hA (c_X6_refuse l D ky aT aTb aTn _ N  tle tga trr v3 tfa tby tnu v3 r45 v46 h44) (cwV 1 hts gX6_readRow_X6_refuse rfl rfl rfl (by decide +kernel) ⟨Nat.le_of_ble_eq_true rfl, Nat.le_of_ble_eq_true rfl⟩) [0, 1, 2] [] [0, 1, 2] 0 5 rfl rfl rfl rfl (wr := []) rfl (by decide) rfl rfl hl.1 (Nat.le_of_ble_eq_true rfl) dX6_readRow_27 ⟨Nat.zero_le _, Nat.zero_le _⟩ (fun H locs hP hD hS => ?_)
      obtain ⟨h47, hF⟩ := gz_s hF
      have hF := Option.some.inj hF
      subst hF
      exact hQ _ _ _ _ dX6_readRow_30 h47 hP hD hS
theorem c_X6_readRow (l : Launch) (D : va_G) (ky : Nat → ClassId) (aT aTb aTn : Nat) (sz N : Nat)  (tle : Int32) (tga : Int32) (trr : Int32) (tat : Int32) (tfa : Int32) (tby : Nat → Int32) (tnu : Nat → Int32) (p0 : Int32) (rv : Int32) (tga' : Int32) (trr' : Int32) (tat' : Int32) (tfa' : Int32) (tnu' : Nat → Int32) (hF : f_X6_readRow N p0 tle tga trr tat tfa tby tnu = some (rv, tga', trr', tat', tfa', tnu')) : MI l yX6_readRow wsX6_readRow rm_X6_readRow D ky sz [.ref aT, .int p0] (w_tape ky aT aTb aTn tle tga trr tat tfa tby tnu) (w_tape ky aT aTb aTn tle tga' trr' tat' tfa' tby tnu') rv :=
  cr_X6_readRow l D ky aT aTb aTn sz N tle tga trr tat tfa tby tnu p0 (rv, tga', trr', tat', tfa', tnu') hF
abbrev rm_X6_readAll : Room := { frames := 4, cells := 0, slots := 0, locals := 89 }
set_option maxHeartbeats 4000000 in
set_option maxRecDepth 100000 in
theorem w_X6_readAll_2 {p : Program} {l : Launch} {e : Env} {s : State} {m : MethodId} {args : Array Value} {below : List Frame} {meth : Method} {c : Code} {Q : State → Prop} {A : Nat → Prop} {D : va_G} {ky : Nat → ClassId} {aT aTb aTn : Nat} {tle : Int32} {tby : Nat → Int32} (N : Nat) (C : cx p s m c args D ky A cX6_readAll 3 wsX6_readAll RX6) (res : Int32 × Int32 × Int32 × Int32 × Int32 × (Nat → Int32)) (hQ : ∀ (pc : Nat) (H : Heap) (locs : List Loc) (ls : Array Slot), decode cX6_readAll pc = .ok (.ireturn, 1) → (res.1 = 0 ∨ res.1 = 1) → va_P D vwCl (w_tape ky aT aTb aTn tle res.2.1 res.2.2.1 res.2.2.2.1 res.2.2.2.2.1 tby res.2.2.2.2.2) H → va_D A (w_tape ky aT aTb aTn tle res.2.1 res.2.2.1 res.2.2.2.1 res.2.2.2.2.1 tby res.2.2.2.2.2) → va_S A s.heap H locs → W p l e rm_X6_readAll s m args below meth c H locs 0 0 Q (F0 m pc ls [.int res.1])) (l1 : Int32) : ∀ (n : Nat) (l2 : Int32) (tga : Int32) (trr : Int32) (tat : Int32) (tfa : Int32) (tnu : Nat → Int32), f_X6_readAll_2 N l1 tle tby n l2 tga trr tat tfa tnu = some res → ∀ (H : Heap) (locs : List Loc) (ls : Array Slot), va_P D vwCl (w_tape ky aT aTb aTn tle tga trr tat tfa tby tnu) H → va_D A (w_tape ky aT aTb aTn tle tga trr tat tfa tby tnu) → va_S A s.heap H locs → lv_has ls 3 [(0, .ref aT), (1, .int l1), (2, .int l2)] → W p l e rm_X6_readAll s m args below meth c H locs 0 0 Q (F0 m 2 ls []) := by
  obtain ⟨hx, hb, hml, hown, hts, hK, hA⟩ := id C
  intro n
  induction n with
  | zero =>
    intro l2 tga trr tat tfa tnu hF
    cases hF
  | succ n ih =>
    intro l2 tga trr tat tfa tnu hF H locs ls hP hD hS hl
    have hF : b_X6_readAll_2 N l1 tle tby (f_X6_readAll_2 N l1 tle tby n) l2 tga trr tat tfa tnu = some res := hF
    unfold b_X6_readAll_2 at hF
    refine lv_iload_n hx hb dX6_readAll_2 rfl (lv_at hl 2 rfl) ?_
    refine lv_iload_n hx hb dX6_readAll_3 rfl (lv_at hl 1 rfl) ?_
    refine lv_icmp_gt (tgt := 44) hx hb dX6_readAll_4 (by decide) (fun c1 => ?_) (fun c1 => ?_)
    · have hF := if_t c1 hF
      refine lv_iconst (v := (0 : Int32)) hx hb dX6_readAll_44 (by decide) ?_
      have hF := Option.some.inj hF
      subst hF
      exact hQ _ H _ _ dX6_readAll_45 (Or.inl rfl) hP hD hS
    · have hF := if_f c1 hF
      refine lv_aload_n hx hb dX6_readAll_7 rfl (lv_at hl 0 rfl) ?_
      refine lv_iload_n hx hb dX6_readAll_8 rfl (lv_at hl 1 rfl) ?_
      obtain ⟨r3, v4, v5, v6, v7, v8, h2, hF⟩ := b6_s hF
      refine cl_vi (As := [.int l1]) (rest := []) (w' := (w_tape ky aT aTb aTn tle v4 v5 v6 v7 tby v8)) ⟨hx, hb, hml, hown, hts⟩ hK hP hD hS hA (c_X6_readRow l D ky aT aTb aTn _ N  tle tga trr tat tfa tby tnu l1 r3 v4 v5 v6 v7 v8 h2) (cwV 1 hts gX6_readAll_X6_readRow rfl rfl rfl (by decide +kernel) ⟨Nat.le_of_ble_eq_true rfl, Nat.le_of_ble_eq_true rfl⟩) [0, 1, 2] [] [0, 1, 2] 0 5 rfl rfl rfl rfl (wr := []) rfl (by decide) rfl rfl hl.1 (Nat.le_of_ble_eq_true rfl) dX6_readAll_9 ⟨Nat.zero_le _, Nat.zero_le _⟩ (fun H locs hP hD hS => ?_)
      refine lv_if_ne (tgt := 17) hx hb dX6_readAll_12 (by decide) (fun c9 => ?_) (fun c9 => ?_)
      · have hF := if_f c9 hF
        refine lv_aload_n hx hb dX6_readAll_17 rfl (lv_at hl 0 rfl) ?_
        obtain ⟨r11, v12, h10, hF⟩ := b2_s hF
        refine cl_vi (As := []) (rest := []) (w' := (w_tape ky aT aTb aTn tle v4 v5 v12 v7 tby v8)) ⟨hx, hb, hml, hown, hts⟩ hK hP hD hS hA (c_X6_look l D ky aT aTb aTn _ N  tle v4 v5 v6 v7 tby v8  r11 v12 h10) (cwV 0 hts gX6_readAll_X6_look rfl rfl rfl (by decide +kernel) ⟨Nat.le_of_ble_eq_true rfl, Nat.le_of_ble_eq_true rfl⟩) [0, 1, 2] [] [0, 1, 2] 0 5 rfl rfl rfl rfl (wr := []) rfl (by decide) rfl rfl hl.1 (Nat.le_of_ble_eq_true rfl) dX6_readAll_18 ⟨Nat.zero_le _, Nat.zero_le _⟩ (fun H locs hP hD hS => ?_)
        refine lv_iconst (v := (-1 : Int32)) hx hb dX6_readAll_21 (by decide) ?_
        refine lv_icmp_ne (tgt := 27) hx hb dX6_readAll_22 (by decide) (fun c13 => ?_) (fun c13 => ?_)
        · have hF := if_f c13 hF
          refine lv_aload_n hx hb dX6_readAll_27 rfl (lv_at hl 0 rfl) ?_
          refine lv_bipush (v := (59 : Int32)) hx hb dX6_readAll_28 (by decide) ?_
          obtain ⟨r15, v16, v17, h14, hF⟩ := b3_s hF
          refine cl_vi (As := [.int (59 : Int32)]) (rest := []) (w' := (w_tape ky aT aTb aTn tle v4 v5 v16 v17 tby v8)) ⟨hx, hb, hml, hown, hts⟩ hK hP hD hS hA (c_X6_pass l D ky aT aTb aTn _ N  tle v4 v5 v12 v7 tby v8 (59 : Int32) r15 v16 v17 h14) (cwV 1 hts gX6_readAll_X6_pass rfl rfl rfl (by decide +kernel) ⟨Nat.le_of_ble_eq_true rfl, Nat.le_of_ble_eq_true rfl⟩) [0, 1, 2] [] [0, 1, 2] 0 5 rfl rfl rfl rfl (wr := []) rfl (by decide) rfl rfl hl.1 (Nat.le_of_ble_eq_true rfl) dX6_readAll_30 ⟨Nat.zero_le _, Nat.zero_le _⟩ (fun H locs hP hD hS => ?_)
          refine lv_if_ne (tgt := 38) hx hb dX6_readAll_33 (by decide) (fun c18 => ?_) (fun c18 => ?_)
          · have hF := if_f c18 hF
            refine lv_iinc (v := (l2 + (1 : Int32))) (lv' := [(2, .int (l2 + (1 : Int32))), (0, .ref aT), (1, .int l1)]) hx hb dX6_readAll_38 hl (k := 2) rfl rfl (by decide) rfl (fun ls hl => ?_)
            refine lv_goto (tgt := 2) hx hb dX6_readAll_41 (by decide) ?_
            exact ih (l2 + (1 : Int32)) v4 v5 v16 v17 v8 hF H _ _ hP hD hS (lv_sub hl [1, 2, 0] rfl)
          · have hF := if_t c18 hF
            refine lv_iconst (v := (0 : Int32)) hx hb dX6_readAll_36 (by decide) ?_
            have hF := Option.some.inj hF
            subst hF
            exact hQ _ H _ _ dX6_readAll_37 (Or.inl rfl) hP hD hS
        · have hF := if_t c13 hF
          refine lv_iconst (v := (1 : Int32)) hx hb dX6_readAll_25 (by decide) ?_
          have hF := Option.some.inj hF
          subst hF
          exact hQ _ H _ _ dX6_readAll_26 (Or.inr rfl) hP hD hS
      · have hF := if_t c9 hF
        refine lv_iconst (v := (0 : Int32)) hx hb dX6_readAll_15 (by decide) ?_
        have hF := Option.some.inj hF
        subst hF
        exact hQ _ H _ _ dX6_readAll_16 (Or.inl rfl) hP hD hS
set_option maxHeartbeats 4000000 in
set_option maxRecDepth 100000 in
theorem cr_X6_readAll (l : Launch) (D : va_G) (ky : Nat → ClassId) (aT aTb aTn : Nat) (sz N : Nat)  (tle : Int32) (tga : Int32) (trr : Int32) (tat : Int32) (tfa : Int32) (tby : Nat → Int32) (tnu : Nat → Int32) (p0 : Int32) (res : Int32 × Int32 × Int32 × Int32 × Int32 × (Nat → Int32)) (hF : f_X6_readAll N p0 tle tga trr tat tfa tby tnu = some res) : MI l yX6_readAll wsX6_readAll rm_X6_readAll D ky sz [.ref aT, .int p0] (w_tape ky aT aTb aTn tle tga trr tat tfa tby tnu) (w_tape ky aT aTb aTn tle res.2.1 res.2.2.1 res.2.2.2.1 res.2.2.2.2.1 tby res.2.2.2.2.2) res.1 := by
  unfold MI
  refine Met.ofW (cc := cX6_readAll) (maxL := 3) (ret := (some .boolean)) (by decide) rfl ?_
  intro p e s m args below meth c s₁ B hml hv
  obtain ⟨rfl, hsz, hP, hK, hD0⟩ := hv
  have hx := B.exec
  have hb := B.bytes
  have hr := B.returns
  have hts := atoms_spec (ws := wsX6_readAll) B.pre
  have hown : s.vm.findClass RX6 = some m.cls := findClass_of_methodNamed B.named
  have hlocks := B.notSynchronized
  subst hsz
  have hD := hD0.self (sz := s.heap.size)
  generalize hAe : va_A (w_tape ky aT aTb aTn tle tga trr tat tfa tby tnu) s.heap.size = A at hD ⊢
  have hA : ∀ q : Nat, s.heap.size ≤ q → A q := fun q h => by rw [← hAe]; exact Or.inr h
  have hS : va_S A s.heap s.heap [] := va_S.rf
  have hP : va_P D vwCl (w_tape ky aT aTb aTn tle tga trr tat tfa tby tnu) s.heap := hP
  have hl := lv_entry ([.ref aT, .int p0]) (n := 3) (Nat.le_of_ble_eq_true rfl)
  rw [lg_entry_eq]
  generalize (lg_sl ([.ref aT, .int p0]) ++ List.replicate (3 - (lg_sl ([.ref aT, .int p0])).length) Slot.unset).toArray = ls at hl ⊢
  have hl : lv_has ls 3 [(0, .ref aT), (1, .int p0)] := hl
  have C : cx p s m c ([.ref aT, .int p0]).toArray D ky A cX6_readAll 3 wsX6_readAll RX6 := ⟨hx, hb, hml, hown, hts, hK, hA⟩
  have hQ : ∀ (pc : Nat) (H : Heap) (locs : List Loc) (ls : Array Slot), decode cX6_readAll pc = .ok (.ireturn, 1) → (res.1 = 0 ∨ res.1 = 1) → va_P D vwCl (w_tape ky aT aTb aTn tle res.2.1 res.2.2.1 res.2.2.2.1 res.2.2.2.2.1 tby res.2.2.2.2.2) H → va_D A (w_tape ky aT aTb aTn tle res.2.1 res.2.2.1 res.2.2.2.1 res.2.2.2.2.1 tby res.2.2.2.2.2) → va_S A s.heap H locs → W p l e rm_X6_readAll s m ([.ref aT, .int p0]).toArray below meth c H locs 0 0 (MQ below (va_Qi (S := Unit) (fun r _ => r = res.1) (fun _ t => va_P D vwCl (w_tape ky aT aTb aTn tle res.2.1 res.2.2.1 res.2.2.2.1 res.2.2.2.2.1 tby res.2.2.2.2.2) t.heap ∧ va_K D vwCl (tyW ky) t ∧ va_D A (w_tape ky aT aTb aTn tle res.2.1 res.2.2.1 res.2.2.2.1 res.2.2.2.2.1 tby res.2.2.2.2.2)) A) ([.ref aT, .int p0]).toArray s 0 0 A) (F0 m pc ls [.int res.1]) := fun pc H locs ls hd hz hP hD hS => W.zret hx hb hr (gz_n hz) (fun t ht hW => ⟨⟨res.1, (), rfl, rfl, by rw [ht]; exact hP, va_K.moved hW.alike hK, hD⟩, hS.F ht⟩) hS.2.2 hd
  unfold f_X6_readAll at hF
  refine lv_iconst (v := (0 : Int32)) hx hb dX6_readAll_0 (by decide) ?_
  refine lv_istore_n (lv' := [(2, .int (0 : Int32)), (0, .ref aT), (1, .int p0)]) hx hb dX6_readAll_1 rfl hl (by decide) rfl (fun ls hl => ?_)
  exact w_X6_readAll_2 N C res hQ p0 N (0 : Int32) tga trr tat tfa tnu hF _ _ _ hP hD hS (lv_sub hl [1, 2, 0] rfl)
theorem c_X6_readAll (l : Launch) (D : va_G) (ky : Nat → ClassId) (aT aTb aTn : Nat) (sz N : Nat)  (tle : Int32) (tga : Int32) (trr : Int32) (tat : Int32) (tfa : Int32) (tby : Nat → Int32) (tnu : Nat → Int32) (p0 : Int32) (rv : Int32) (tga' : Int32) (trr' : Int32) (tat' : Int32) (tfa' : Int32) (tnu' : Nat → Int32) (hF : f_X6_readAll N p0 tle tga trr tat tfa tby tnu = some (rv, tga', trr', tat', tfa', tnu')) : MI l yX6_readAll wsX6_readAll rm_X6_readAll D ky sz [.ref aT, .int p0] (w_tape ky aT aTb aTn tle tga trr tat tfa tby tnu) (w_tape ky aT aTb aTn tle tga' trr' tat' tfa' tby tnu') rv :=
  cr_X6_readAll l D ky aT aTb aTn sz N tle tga trr tat tfa tby tnu p0 (rv, tga', trr', tat', tfa', tnu') hF
abbrev rm_X6_read : Room := { frames := 5, cells := 0, slots := 0, locals := 111 }
theorem iX6_read_X6 : ∀ w ∈ wsX60, w ∈ wsX6_read := by decide +kernel
theorem kX6_read_1 : (Cond.fieldLink RX6 28 "TwoLaws$Tape" "at" "I") ∈ wsX6_read := by decide +kernel
theorem kX6_read_2 : (Cond.fieldLink RX6 22 "TwoLaws$Tape" "gaps" "I") ∈ wsX6_read := by decide +kernel
theorem kX6_read_3 : (Cond.fieldLink RX6 25 "TwoLaws$Tape" "rowsRead" "I") ∈ wsX6_read := by decide +kernel
theorem kX6_read_4 : (Cond.fieldLink RX6 15 "TwoLaws$Tape" "length" "I") ∈ wsX6_read := by decide +kernel
theorem kX6_read_5 : (Cond.fieldLink RX6 31 "TwoLaws$Tape" "fault" "I") ∈ wsX6_read := by decide +kernel
set_option maxHeartbeats 4000000 in
set_option maxRecDepth 100000 in
theorem cr_X6_read (l : Launch) (D : va_G) (ky : Nat → ClassId) (aT aTb aTn : Nat) (sz N : Nat)  (tle : Int32) (tga : Int32) (trr : Int32) (tat : Int32) (tfa : Int32) (tby : Nat → Int32) (tnu : Nat → Int32) (p0 : Int32) (res : Int32 × Int32 × Int32 × Int32 × Int32 × Int32 × (Nat → Int32)) (hF : f_X6_read N p0 tle tfa tby tnu = some res) : MI l yX6_read wsX6_read rm_X6_read D ky sz [.ref aT, .int p0] (w_tape ky aT aTb aTn tle tga trr tat tfa tby tnu) (w_tape ky aT aTb aTn res.2.1 res.2.2.1 res.2.2.2.1 res.2.2.2.2.1 res.2.2.2.2.2.1 tby res.2.2.2.2.2.2) res.1 := by
  unfold MI
  refine Met.ofW (cc := cX6_read) (maxL := 3) (ret := (some .int)) (by decide) rfl ?_
  intro p e s m args below meth c s₁ B hml hv
  obtain ⟨rfl, hsz, hP, hK, hD0⟩ := hv
  have hx := B.exec
  have hb := B.bytes
  have hr := B.returns
  have hts := atoms_spec (ws := wsX6_read) B.pre
  have hown : s.vm.findClass RX6 = some m.cls := findClass_of_methodNamed B.named
  have hlocks := B.notSynchronized
  subst hsz
  have hD := hD0.self (sz := s.heap.size)
  generalize hAe : va_A (w_tape ky aT aTb aTn tle tga trr tat tfa tby tnu) s.heap.size = A at hD ⊢
  have hA : ∀ q : Nat, s.heap.size ≤ q → A q := fun q h => by rw [← hAe]; exact Or.inr h
  have hS : va_S A s.heap s.heap [] := va_S.rf
  have hP : va_P D vwCl (w_tape ky aT aTb aTn tle tga trr tat tfa tby tnu) s.heap := hP
  have hl := lv_entry ([.ref aT, .int p0]) (n := 3) (Nat.le_of_ble_eq_true rfl)
  rw [lg_entry_eq]
  generalize (lg_sl ([.ref aT, .int p0]) ++ List.replicate (3 - (lg_sl ([.ref aT, .int p0])).length) Slot.unset).toArray = ls at hl ⊢
  have hl : lv_has ls 3 [(0, .ref aT), (1, .int p0)] := hl
  have C : cx p s m c ([.ref aT, .int p0]).toArray D ky A cX6_read 3 wsX6_read RX6 := ⟨hx, hb, hml, hown, hts, hK, hA⟩
  have hQ : ∀ (pc : Nat) (H : Heap) (locs : List Loc) (ls : Array Slot), decode cX6_read pc = .ok (.ireturn, 1) → va_P D vwCl (w_tape ky aT aTb aTn res.2.1 res.2.2.1 res.2.2.2.1 res.2.2.2.2.1 res.2.2.2.2.2.1 tby res.2.2.2.2.2.2) H → va_D A (w_tape ky aT aTb aTn res.2.1 res.2.2.1 res.2.2.2.1 res.2.2.2.2.1 res.2.2.2.2.2.1 tby res.2.2.2.2.2.2) → va_S A s.heap H locs → W p l e rm_X6_read s m ([.ref aT, .int p0]).toArray below meth c H locs 0 0 (MQ below (va_Qi (S := Unit) (fun r _ => r = res.1) (fun _ t => va_P D vwCl (w_tape ky aT aTb aTn res.2.1 res.2.2.1 res.2.2.2.1 res.2.2.2.2.1 res.2.2.2.2.2.1 tby res.2.2.2.2.2.2) t.heap ∧ va_K D vwCl (tyW ky) t ∧ va_D A (w_tape ky aT aTb aTn res.2.1 res.2.2.1 res.2.2.2.1 res.2.2.2.2.1 res.2.2.2.2.2.1 tby res.2.2.2.2.2.2)) A) ([.ref aT, .int p0]).toArray s 0 0 A) (F0 m pc ls [.int res.1]) := fun pc H locs ls hd hP hD hS => W.iret hx hb hr (fun t ht hW => ⟨⟨res.1, (), rfl, rfl, by rw [ht]; exact hP, va_K.moved hW.alike hK, hD⟩, hS.F ht⟩) hS.2.2 hd
  unfold f_X6_read at hF
  refine lv_aload_n hx hb dX6_read_0 rfl (lv_at hl 0 rfl) ?_
  refine lv_iconst (v := (0 : Int32)) hx hb dX6_read_1 (by decide) ?_
  refine va_put (D := D) (ci := 5) (v := .int (0 : Int32)) (ty := .int) (C := RX6) (T := TX6) (N := 7) hx hb hts iX6_read_X6 tyX6 tyX6_ok nmX6 hown hK hP hD hS 0 rfl rfl 5 (by decide) (hts _ kX6_read_1) (fun _ h9 => h9) rfl (by decide +kernel) rfl rfl (Nat.le_of_ble_eq_true rfl) dX6_read_2 (fun H locs hP hD hS => ?_)
  have hP : va_P D vwCl (w_tape ky aT aTb aTn tle tga trr (0 : Int32) tfa tby tnu) H := hP
  have hD : va_D A (w_tape ky aT aTb aTn tle tga trr (0 : Int32) tfa tby tnu) := hD
  refine lv_aload_n hx hb dX6_read_5 rfl (lv_at hl 0 rfl) ?_
  refine lv_iconst (v := (0 : Int32)) hx hb dX6_read_6 (by decide) ?_
  refine va_put (D := D) (ci := 5) (v := .int (0 : Int32)) (ty := .int) (C := RX6) (T := TX6) (N := 7) hx hb hts iX6_read_X6 tyX6 tyX6_ok nmX6 hown hK hP hD hS 0 rfl rfl 3 (by decide) (hts _ kX6_read_2) (fun _ h9 => h9) rfl (by decide +kernel) rfl rfl (Nat.le_of_ble_eq_true rfl) dX6_read_7 (fun H locs hP hD hS => ?_)
  have hP : va_P D vwCl (w_tape ky aT aTb aTn tle (0 : Int32) trr (0 : Int32) tfa tby tnu) H := hP
  have hD : va_D A (w_tape ky aT aTb aTn tle (0 : Int32) trr (0 : Int32) tfa tby tnu) := hD
  refine lv_aload_n hx hb dX6_read_10 rfl (lv_at hl 0 rfl) ?_
  refine lv_iconst (v := (0 : Int32)) hx hb dX6_read_11 (by decide) ?_
  refine va_put (D := D) (ci := 5) (v := .int (0 : Int32)) (ty := .int) (C := RX6) (T := TX6) (N := 7) hx hb hts iX6_read_X6 tyX6 tyX6_ok nmX6 hown hK hP hD hS 0 rfl rfl 4 (by decide) (hts _ kX6_read_3) (fun _ h9 => h9) rfl (by decide +kernel) rfl rfl (Nat.le_of_ble_eq_true rfl) dX6_read_12 (fun H locs hP hD hS => ?_)
  have hP : va_P D vwCl (w_tape ky aT aTb aTn tle (0 : Int32) (0 : Int32) (0 : Int32) tfa tby tnu) H := hP
  have hD : va_D A (w_tape ky aT aTb aTn tle (0 : Int32) (0 : Int32) (0 : Int32) tfa tby tnu) := hD
  refine lv_aload_n hx hb dX6_read_15 rfl (lv_at hl 0 rfl) ?_
  refine lv_iload_n hx hb dX6_read_16 rfl (lv_at hl 1 rfl) ?_
  obtain ⟨r2, v3, v4, v5, v6, v7, h1, hF⟩ := b6_s hF
  refine cl_vi (As := [.int p0]) (rest := []) (w' := (w_tape ky aT aTb aTn tle v3 v4 v5 v6 tby v7)) ⟨hx, hb, hml, hown, hts⟩ hK hP hD hS hA (c_X6_readAll l D ky aT aTb aTn _ N  tle (0 : Int32) (0 : Int32) (0 : Int32) tfa tby tnu p0 r2 v3 v4 v5 v6 v7 h1) (cwV 1 hts gX6_read_X6_readAll rfl rfl rfl (by decide +kernel) ⟨Nat.le_of_ble_eq_true rfl, Nat.le_of_ble_eq_true rfl⟩) [0, 1, 2] [] [0, 1, 2] 0 5 rfl rfl rfl rfl (wr := []) rfl (by decide) rfl rfl hl.1 (Nat.le_of_ble_eq_true rfl) dX6_read_17 ⟨Nat.zero_le _, Nat.zero_le _⟩ (fun H locs hP hD hS => ?_)
  refine lv_istore_n (lv' := [(2, .int r2), (0, .ref aT), (1, .int p0)]) hx hb dX6_read_20 rfl hl (by decide) rfl (fun ls hl => ?_)
  refine lv_aload_n hx hb dX6_read_21 rfl (lv_at hl 1 rfl) ?_
  refine lv_iconst (v := (0 : Int32)) hx hb dX6_read_22 (by decide) ?_
  refine va_put (D := D) (ci := 5) (v := .int (0 : Int32)) (ty := .int) (C := RX6) (T := TX6) (N := 7) hx hb hts iX6_read_X6 tyX6 tyX6_ok nmX6 hown hK hP hD hS 0 rfl rfl 1 (by decide) (hts _ kX6_read_4) (fun _ h9 => h9) rfl (by decide +kernel) rfl rfl (Nat.le_of_ble_eq_true rfl) dX6_read_23 (fun H locs hP hD hS => ?_)
  have hP : va_P D vwCl (w_tape ky aT aTb aTn (0 : Int32) v3 v4 v5 v6 tby v7) H := hP
  have hD : va_D A (w_tape ky aT aTb aTn (0 : Int32) v3 v4 v5 v6 tby v7) := hD
  refine lv_iload_n hx hb dX6_read_26 rfl (lv_at hl 0 rfl) ?_
  refine lv_if_eq (tgt := 37) hx hb dX6_read_27 (by decide) (fun c8 => ?_) (fun c8 => ?_)
  · have hF := if_t c8 hF
    refine lv_bipush (v := (-20 : Int32)) hx hb dX6_read_37 (by decide) ?_
    refine lv_aload_n hx hb dX6_read_39 rfl (lv_at hl 1 rfl) ?_
    refine va_get (D := D) (ci := 5) (v := .int v6) (C := RX6) (T := TX6) (N := 7) hx hb hts iX6_read_X6 hown hK hP 0 rfl rfl 6 (by decide) (hts _ kX6_read_5) (fun _ h9 => h9) rfl dX6_read_40 ?_
    refine lv_isub hx hb dX6_read_43 ?_
    have hF := Option.some.inj hF
    subst hF
    exact hQ _ _ _ _ dX6_read_44 hP hD hS
  · have hF := if_f c8 hF
    refine lv_aload_n hx hb dX6_read_30 rfl (lv_at hl 1 rfl) ?_
    refine va_get (D := D) (ci := 5) (v := .int v4) (C := RX6) (T := TX6) (N := 7) hx hb hts iX6_read_X6 hown hK hP 0 rfl rfl 4 (by decide) (hts _ kX6_read_3) (fun _ h9 => h9) rfl dX6_read_31 ?_
    refine lv_goto (tgt := 44) hx hb dX6_read_34 (by decide) ?_
    have hF := Option.some.inj hF
    subst hF
    exact hQ _ _ _ _ dX6_read_44 hP hD hS
theorem c_X6_read (l : Launch) (D : va_G) (ky : Nat → ClassId) (aT aTb aTn : Nat) (sz N : Nat)  (tle : Int32) (tga : Int32) (trr : Int32) (tat : Int32) (tfa : Int32) (tby : Nat → Int32) (tnu : Nat → Int32) (p0 : Int32) (rv : Int32) (tle' : Int32) (tga' : Int32) (trr' : Int32) (tat' : Int32) (tfa' : Int32) (tnu' : Nat → Int32) (hF : f_X6_read N p0 tle tfa tby tnu = some (rv, tle', tga', trr', tat', tfa', tnu')) : MI l yX6_read wsX6_read rm_X6_read D ky sz [.ref aT, .int p0] (w_tape ky aT aTb aTn tle tga trr tat tfa tby tnu) (w_tape ky aT aTb aTn tle' tga' trr' tat' tfa' tby tnu') rv :=
  cr_X6_read l D ky aT aTb aTn sz N tle tga trr tat tfa tby tnu p0 (rv, tle', tga', trr', tat', tfa', tnu') hF
abbrev rm_X6_hand : Room := { frames := 4, cells := 0, slots := 0, locals := 90 }
theorem iX6_hand_X6 : ∀ w ∈ wsX60, w ∈ wsX6_hand := by decide +kernel
theorem kX6_hand_1 : (Cond.fieldLink RX6 25 "TwoLaws$Tape" "rowsRead" "I") ∈ wsX6_hand := by decide +kernel
theorem kX6_hand_2 : (Cond.fieldLink RX6 19 "TwoLaws$Tape" "numbers" "[I") ∈ wsX6_hand := by decide +kernel
theorem kX6_hand_3 : (Cond.fieldLink RX6 22 "TwoLaws$Tape" "gaps" "I") ∈ wsX6_hand := by decide +kernel
set_option maxHeartbeats 4000000 in
set_option maxRecDepth 100000 in
theorem cr_X6_hand (l : Launch) (D : va_G) (ky : Nat → ClassId) (aT aTb aTn aB ax au ay am : Nat) (sz N : Nat)  (tle : Int32) (tga : Int32) (trr : Int32) (tat : Int32) (tfa : Int32) (tby : Nat → Int32) (tnu : Nat → Int32) (bsz : Int32) (bgp : Int32) (ber : Int32) (bxs : Nat → Int32) (bus : Nat → Int32) (bys : Nat → Int32) (bme : Nat → Int32) (p0 : Int32) (res : Int32 × Int32 × (Nat → Int32) × (Nat → Int32) × (Nat → Int32) × (Nat → Int32)) (hF : f_X6_hand N p0 tga trr tnu bsz bgp ber bxs bus bys bme = some res) : MV l yX6_hand wsX6_hand rm_X6_hand D ky sz [.ref aT, .int p0, .ref aB] (w_tapebook ky aT aTb aTn aB ax au ay am tle tga trr tat tfa tby tnu bsz bgp ber bxs bus bys bme) (w_tapebook ky aT aTb aTn aB ax au ay am tle tga trr tat tfa tby tnu res.1 res.2.1 ber res.2.2.1 res.2.2.2.1 res.2.2.2.2.1 res.2.2.2.2.2) := by
  unfold MV
  refine Met.ofW (cc := cX6_hand) (maxL := 3) (ret := none) (by decide) rfl ?_
  intro p e s m args below meth c s₁ B hml hv
  obtain ⟨rfl, hsz, hP, hK, hD0⟩ := hv
  have hx := B.exec
  have hb := B.bytes
  have hr := B.returns
  have hts := atoms_spec (ws := wsX6_hand) B.pre
  have hown : s.vm.findClass RX6 = some m.cls := findClass_of_methodNamed B.named
  have hlocks := B.notSynchronized
  subst hsz
  have hD := hD0.self (sz := s.heap.size)
  generalize hAe : va_A (w_tapebook ky aT aTb aTn aB ax au ay am tle tga trr tat tfa tby tnu bsz bgp ber bxs bus bys bme) s.heap.size = A at hD ⊢
  have hA : ∀ q : Nat, s.heap.size ≤ q → A q := fun q h => by rw [← hAe]; exact Or.inr h
  have hS : va_S A s.heap s.heap [] := va_S.rf
  have hP : va_P D vwCl (w_tapebook ky aT aTb aTn aB ax au ay am tle tga trr tat tfa tby tnu bsz bgp ber bxs bus bys bme) s.heap := hP
  have hl := lv_entry ([.ref aT, .int p0, .ref aB]) (n := 3) (Nat.le_of_ble_eq_true rfl)
  rw [lg_entry_eq]
  generalize (lg_sl ([.ref aT, .int p0, .ref aB]) ++ List.replicate (3 - (lg_sl ([.ref aT, .int p0, .ref aB])).length) Slot.unset).toArray = ls at hl ⊢
  have hl : lv_has ls 3 [(0, .ref aT), (1, .int p0), (2, .ref aB)] := hl
  have C : cx p s m c ([.ref aT, .int p0, .ref aB]).toArray D ky A cX6_hand 3 wsX6_hand RX6 := ⟨hx, hb, hml, hown, hts, hK, hA⟩
  have hQ : ∀ (pc : Nat) (H : Heap) (locs : List Loc) (ls : Array Slot), decode cX6_hand pc = .ok (.return_, 1) → va_P D vwCl (w_tapebook ky aT aTb aTn aB ax au ay am tle tga trr tat tfa tby tnu res.1 res.2.1 ber res.2.2.1 res.2.2.2.1 res.2.2.2.2.1 res.2.2.2.2.2) H → va_D A (w_tapebook ky aT aTb aTn aB ax au ay am tle tga trr tat tfa tby tnu res.1 res.2.1 ber res.2.2.1 res.2.2.2.1 res.2.2.2.2.1 res.2.2.2.2.2) → va_S A s.heap H locs → W p l e rm_X6_hand s m ([.ref aT, .int p0, .ref aB]).toArray below meth c H locs 0 0 (MQ below (va_Qv (S := Unit) (fun _ => True) (fun _ t => va_P D vwCl (w_tapebook ky aT aTb aTn aB ax au ay am tle tga trr tat tfa tby tnu res.1 res.2.1 ber res.2.2.1 res.2.2.2.1 res.2.2.2.2.1 res.2.2.2.2.2) t.heap ∧ va_K D vwCl (tyW ky) t ∧ va_D A (w_tapebook ky aT aTb aTn aB ax au ay am tle tga trr tat tfa tby tnu res.1 res.2.1 ber res.2.2.1 res.2.2.2.1 res.2.2.2.2.1 res.2.2.2.2.2)) A) ([.ref aT, .int p0, .ref aB]).toArray s 0 0 A) (F0 m pc ls []) := fun pc H locs ls hd hP hD hS => W.vret hx hb hr (fun t ht hW => ⟨⟨(), rfl, trivial, by rw [ht]; exact hP, va_K.moved hW.alike hK, hD⟩, hS.F ht⟩) hS.2.2 hd
  unfold f_X6_hand at hF
  refine lv_iload_n hx hb dX6_hand_0 rfl (lv_at hl 1 rfl) ?_
  refine lv_if_lt (tgt := 67) hx hb dX6_hand_1 (by decide) (fun c1 => ?_) (fun c1 => ?_)
  · have hF := if_t c1 hF
    have hF := Option.some.inj hF
    subst hF
    exact hQ _ _ _ _ dX6_hand_67 hP hD hS
  · have hF := if_f c1 hF
    refine lv_iload_n hx hb dX6_hand_4 rfl (lv_at hl 1 rfl) ?_
    refine lv_aload_n hx hb dX6_hand_5 rfl (lv_at hl 0 rfl) ?_
    refine va_get (D := D) (ci := 5) (v := .int trr) (C := RX6) (T := TX6) (N := 7) hx hb hts iX6_hand_X6 hown hK hP 0 rfl rfl 4 (by decide) (hts _ kX6_hand_1) (fun _ h9 => h9) rfl dX6_hand_6 ?_
    refine lv_icmp_ge (tgt := 67) hx hb dX6_hand_9 (by decide) (fun c2 => ?_) (fun c2 => ?_)
    · have hF := if_t c2 hF
      have hF := Option.some.inj hF
      subst hF
      exact hQ _ _ _ _ dX6_hand_67 hP hD hS
    · have hF := if_f c2 hF
      refine lv_iload_n hx hb dX6_hand_12 rfl (lv_at hl 1 rfl) ?_
      refine lv_bipush (v := (12 : Int32)) hx hb dX6_hand_13 (by decide) ?_
      refine lv_icmp_ge (tgt := 67) hx hb dX6_hand_15 (by decide) (fun c3 => ?_) (fun c3 => ?_)
      · have hF := if_t c3 hF
        have hF := Option.some.inj hF
        subst hF
        exact hQ _ _ _ _ dX6_hand_67 hP hD hS
      · have hF := if_f c3 hF
        refine lv_aload_n hx hb dX6_hand_18 rfl (lv_at hl 2 rfl) ?_
        refine lv_aload_n hx hb dX6_hand_19 rfl (lv_at hl 0 rfl) ?_
        refine va_get (D := D) (ci := 5) (v := .ref aTn) (C := RX6) (T := TX6) (N := 7) hx hb hts iX6_hand_X6 hown hK hP 0 rfl rfl 2 (by decide) (hts _ kX6_hand_2) (fun _ h9 => h9) rfl dX6_hand_20 ?_
        refine lv_iconst (v := (3 : Int32)) hx hb dX6_hand_23 (by decide) ?_
        refine lv_iload_n hx hb dX6_hand_24 rfl (lv_at hl 1 rfl) ?_
        refine lv_imul hx hb dX6_hand_25 ?_
        obtain ⟨h4, hF⟩ := gi_s hF
        refine va_iald hx hb hK hP 2 0 rfl rfl h4 dX6_hand_26 ?_
        refine lv_aload_n hx hb dX6_hand_27 rfl (lv_at hl 0 rfl) ?_
        refine va_get (D := D) (ci := 5) (v := .ref aTn) (C := RX6) (T := TX6) (N := 7) hx hb hts iX6_hand_X6 hown hK hP 0 rfl rfl 2 (by decide) (hts _ kX6_hand_2) (fun _ h9 => h9) rfl dX6_hand_28 ?_
        refine lv_iconst (v := (3 : Int32)) hx hb dX6_hand_31 (by decide) ?_
        refine lv_iload_n hx hb dX6_hand_32 rfl (lv_at hl 1 rfl) ?_
        refine lv_imul hx hb dX6_hand_33 ?_
        refine lv_iconst (v := (1 : Int32)) hx hb dX6_hand_34 (by decide) ?_
        refine lv_iadd hx hb dX6_hand_35 ?_
        obtain ⟨h5, hF⟩ := gi_s hF
        refine va_iald hx hb hK hP 2 0 rfl rfl h5 dX6_hand_36 ?_
        refine lv_aload_n hx hb dX6_hand_37 rfl (lv_at hl 0 rfl) ?_
        refine va_get (D := D) (ci := 5) (v := .ref aTn) (C := RX6) (T := TX6) (N := 7) hx hb hts iX6_hand_X6 hown hK hP 0 rfl rfl 2 (by decide) (hts _ kX6_hand_2) (fun _ h9 => h9) rfl dX6_hand_38 ?_
        refine lv_iconst (v := (3 : Int32)) hx hb dX6_hand_41 (by decide) ?_
        refine lv_iload_n hx hb dX6_hand_42 rfl (lv_at hl 1 rfl) ?_
        refine lv_imul hx hb dX6_hand_43 ?_
        refine lv_iconst (v := (2 : Int32)) hx hb dX6_hand_44 (by decide) ?_
        refine lv_iadd hx hb dX6_hand_45 ?_
        obtain ⟨h6, hF⟩ := gi_s hF
        refine va_iald hx hb hK hP 2 0 rfl rfl h6 dX6_hand_46 ?_
        refine lv_aload_n hx hb dX6_hand_47 rfl (lv_at hl 0 rfl) ?_
        refine va_get (D := D) (ci := 5) (v := .int tga) (C := RX6) (T := TX6) (N := 7) hx hb hts iX6_hand_X6 hown hK hP 0 rfl rfl 3 (by decide) (hts _ kX6_hand_3) (fun _ h9 => h9) rfl dX6_hand_48 ?_
        refine lv_iload_n hx hb dX6_hand_51 rfl (lv_at hl 1 rfl) ?_
        refine lv_ishr hx hb dX6_hand_52 ?_
        refine lv_iconst (v := (1 : Int32)) hx hb dX6_hand_53 (by decide) ?_
        refine lv_iand hx hb dX6_hand_54 ?_
        refine lv_if_eq (tgt := 62) hx hb dX6_hand_55 (by decide) (fun c7 => ?_) (fun c7 => ?_)
        · have hF := if_t c7 hF
          refine lv_iconst (v := (0 : Int32)) hx hb dX6_hand_62 (by decide) ?_
          obtain ⟨r9, v10, v11, v12, v13, v14, v15, h8, hF⟩ := b7_s hF
          refine cl_vi (As := [.int (tnu ((3 : Int32) * p0).toNatClampNeg), .int (tnu (((3 : Int32) * p0) + (1 : Int32)).toNatClampNeg), .int (tnu (((3 : Int32) * p0) + (2 : Int32)).toNatClampNeg), .int (0 : Int32)]) (rest := []) (w' := (w_tapebook ky aT aTb aTn aB ax au ay am tle tga trr tat tfa tby tnu v10 v11 ber v12 v13 v14 v15)) ⟨hx, hb, hml, hown, hts⟩ hK hP hD hS hA (c_X0_add l D ky aB ax au ay am _ N  bsz bgp ber bxs bus bys bme (tnu ((3 : Int32) * p0).toNatClampNeg) (tnu (((3 : Int32) * p0) + (1 : Int32)).toNatClampNeg) (tnu (((3 : Int32) * p0) + (2 : Int32)).toNatClampNeg) (0 : Int32) r9 v10 v11 v12 v13 v14 v15 h8) (cwV 4 hts gX6_hand_X0_add rfl rfl rfl (by decide +kernel) ⟨Nat.le_of_ble_eq_true rfl, Nat.le_of_ble_eq_true rfl⟩) [3, 4, 5, 6, 7] [0, 1, 2] [0, 1, 2, 3, 4, 5, 6, 7] 0 0 rfl rfl rfl rfl (wr := [(aT, .inr (5, [.ref aTb, .int tle, .ref aTn, .int tga, .int trr, .int tat, .int tfa])), (aTb, .inl (ky 0, 120, .inl tby)), (aTn, .inl (ky 0, 36, .inl tnu))]) rfl (by decide) rfl rfl hl.1 (Nat.le_of_ble_eq_true rfl) dX6_hand_63 ⟨Nat.zero_le _, Nat.zero_le _⟩ (fun H locs hP hD hS => ?_)
          refine lv_pop hx hb dX6_hand_66 rfl ?_
          have hF := Option.some.inj hF
          subst hF
          exact hQ _ _ _ _ dX6_hand_67 hP hD hS
        · have hF := if_f c7 hF
          refine lv_iconst (v := (1 : Int32)) hx hb dX6_hand_58 (by decide) ?_
          refine lv_goto (tgt := 63) hx hb dX6_hand_59 (by decide) ?_
          obtain ⟨r17, v18, v19, v20, v21, v22, v23, h16, hF⟩ := b7_s hF
          refine cl_vi (As := [.int (tnu ((3 : Int32) * p0).toNatClampNeg), .int (tnu (((3 : Int32) * p0) + (1 : Int32)).toNatClampNeg), .int (tnu (((3 : Int32) * p0) + (2 : Int32)).toNatClampNeg), .int (1 : Int32)]) (rest := []) (w' := (w_tapebook ky aT aTb aTn aB ax au ay am tle tga trr tat tfa tby tnu v18 v19 ber v20 v21 v22 v23)) ⟨hx, hb, hml, hown, hts⟩ hK hP hD hS hA (c_X0_add l D ky aB ax au ay am _ N  bsz bgp ber bxs bus bys bme (tnu ((3 : Int32) * p0).toNatClampNeg) (tnu (((3 : Int32) * p0) + (1 : Int32)).toNatClampNeg) (tnu (((3 : Int32) * p0) + (2 : Int32)).toNatClampNeg) (1 : Int32) r17 v18 v19 v20 v21 v22 v23 h16) (cwV 4 hts gX6_hand_X0_add rfl rfl rfl (by decide +kernel) ⟨Nat.le_of_ble_eq_true rfl, Nat.le_of_ble_eq_true rfl⟩) [3, 4, 5, 6, 7] [0, 1, 2] [0, 1, 2, 3, 4, 5, 6, 7] 0 0 rfl rfl rfl rfl (wr := [(aT, .inr (5, [.ref aTb, .int tle, .ref aTn, .int tga, .int trr, .int tat, .int tfa])), (aTb, .inl (ky 0, 120, .inl tby)), (aTn, .inl (ky 0, 36, .inl tnu))]) rfl (by decide) rfl rfl hl.1 (Nat.le_of_ble_eq_true rfl) dX6_hand_63 ⟨Nat.zero_le _, Nat.zero_le _⟩ (fun H locs hP hD hS => ?_)
          refine lv_pop hx hb dX6_hand_66 rfl ?_
          have hF := Option.some.inj hF
          subst hF
          exact hQ _ _ _ _ dX6_hand_67 hP hD hS
theorem c_X6_hand (l : Launch) (D : va_G) (ky : Nat → ClassId) (aT aTb aTn aB ax au ay am : Nat) (sz N : Nat)  (tle : Int32) (tga : Int32) (trr : Int32) (tat : Int32) (tfa : Int32) (tby : Nat → Int32) (tnu : Nat → Int32) (bsz : Int32) (bgp : Int32) (ber : Int32) (bxs : Nat → Int32) (bus : Nat → Int32) (bys : Nat → Int32) (bme : Nat → Int32) (p0 : Int32) (bsz' : Int32) (bgp' : Int32) (bxs' : Nat → Int32) (bus' : Nat → Int32) (bys' : Nat → Int32) (bme' : Nat → Int32) (hF : f_X6_hand N p0 tga trr tnu bsz bgp ber bxs bus bys bme = some (bsz', bgp', bxs', bus', bys', bme')) : MV l yX6_hand wsX6_hand rm_X6_hand D ky sz [.ref aT, .int p0, .ref aB] (w_tapebook ky aT aTb aTn aB ax au ay am tle tga trr tat tfa tby tnu bsz bgp ber bxs bus bys bme) (w_tapebook ky aT aTb aTn aB ax au ay am tle tga trr tat tfa tby tnu bsz' bgp' ber bxs' bus' bys' bme') :=
  cr_X6_hand l D ky aT aTb aTn aB ax au ay am sz N tle tga trr tat tfa tby tnu bsz bgp ber bxs bus bys bme p0 (bsz', bgp', bxs', bus', bys', bme') hF
