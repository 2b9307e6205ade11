def f_X0_has (N : Nat) (p0 : Int32) (bsz : Int32) : Option (Int32) :=
  (if p0 < 0 then some ((0 : Int32)) else (if bsz ≤ p0 then some ((0 : Int32)) else (if (12 : Int32) ≤ p0 then some ((0 : Int32)) else some ((1 : Int32)))))
def f_X0_isGap (N : Nat) (p0 : Int32) (bsz : Int32) (bgp : Int32) : Option (Int32) :=
  b1 (f_X0_has N p0 bsz) (fun r2 => (if r2 = 0 then some ((0 : Int32)) else (if ((bgp >>> (p0 &&& 31)) &&& (1 : Int32)) = 0 then some ((0 : Int32)) else some ((1 : Int32)))))
def f_X0_enter_60 (N : Nat) (k11 : Int32 → (Nat → Int32) → Option ((Nat → Int32))) (l1 : Int32) (l2 : Int32) (bsz : Int32) (bgp : Int32) (ber : Int32) (bxs : Nat → Int32) (bus : Nat → Int32) (bys : Nat → Int32) (bme : Nat → Int32) : Option ((Nat → Int32)) :=
  gi l2 289 (gi l2 289 (k11 (l2 + (1 : Int32)) (upd bme l2.toNatClampNeg ((bme l2.toNatClampNeg) ||| ((1 : Int32) <<< (l1 &&& 31))))))
def b_X0_enter_11 (N : Nat)  (l1 : Int32) (bsz : Int32) (bgp : Int32) (ber : Int32) (bxs : Nat → Int32) (bus : Nat → Int32) (bys : Nat → Int32) (k11 : Int32 → (Nat → Int32) → Option ((Nat → Int32))) (l2 : Int32) (bme : Nat → Int32) : Option ((Nat → Int32)) :=
  (if (289 : Int32) ≤ l2 then some (bme) else b1 (f_X0_isGap N l1 bsz bgp) (fun r6 => (if r6 = 0 then gi l1 12 (gi l1 12 (b1 (f_X3_sum N l2 (bxs l1.toNatClampNeg) (bus l1.toNatClampNeg)) (fun r11 => gi l1 12 (b1 (f_X3_isMet N r11 (bys l1.toNatClampNeg) ber) (fun r14 => (if r14 = 0 then k11 (l2 + (1 : Int32)) bme else f_X0_enter_60 N k11 l1 l2 bsz bgp ber bxs bus bys bme)))))) else f_X0_enter_60 N k11 l1 l2 bsz bgp ber bxs bus bys bme)))
def f_X0_enter_11 (N : Nat)  (l1 : Int32) (bsz : Int32) (bgp : Int32) (ber : Int32) (bxs : Nat → Int32) (bus : Nat → Int32) (bys : Nat → Int32) : Nat → Int32 → (Nat → Int32) → Option ((Nat → Int32))
  | 0, _, _ => none
  | n + 1, l2, bme => b_X0_enter_11 N l1 bsz bgp ber bxs bus bys (f_X0_enter_11 N l1 bsz bgp ber bxs bus bys n) l2 bme
def f_X0_enter (N : Nat) (p0 : Int32) (bsz : Int32) (bgp : Int32) (ber : Int32) (bxs : Nat → Int32) (bus : Nat → Int32) (bys : Nat → Int32) (bme : Nat → Int32) : Option ((Nat → Int32)) :=
  b1 (f_X0_has N p0 bsz) (fun r2 => (if r2 = 0 then some (bme) else f_X0_enter_11 N p0 bsz bgp ber bxs bus bys N (0 : Int32) bme))
def f_X0_add_63 (N : Nat)  (l5 : Int32) (bsz : Int32) (bgp : Int32) (ber : Int32) (bxs : Nat → Int32) (bus : Nat → Int32) (bys : Nat → Int32) (bme : Nat → Int32) : Option (Int32 × Int32 × Int32 × (Nat → Int32) × (Nat → Int32) × (Nat → Int32) × (Nat → Int32)) :=
  b1 (f_X0_enter N l5 (bsz + (1 : Int32)) bgp ber bxs bus bys bme) (fun v8 => some (l5, (bsz + (1 : Int32)), bgp, bxs, bus, bys, v8))
def f_X0_add (N : Nat) (p0 : Int32) (p1 : Int32) (p2 : Int32) (p3 : Int32) (bsz : Int32) (bgp : Int32) (ber : Int32) (bxs : Nat → Int32) (bus : Nat → Int32) (bys : Nat → Int32) (bme : Nat → Int32) : Option (Int32 × Int32 × Int32 × (Nat → Int32) × (Nat → Int32) × (Nat → Int32) × (Nat → Int32)) :=
  (if bsz < 0 then some ((-3 : Int32), bsz, bgp, bxs, bus, bys, bme) else (if bsz < (12 : Int32) then gi bsz 12 (gi bsz 12 (gi bsz 12 ((if p3 = 0 then f_X0_add_63 N bsz bsz bgp ber (upd bxs bsz.toNatClampNeg p0) (upd bus bsz.toNatClampNeg p1) (upd bys bsz.toNatClampNeg p2) bme else f_X0_add_63 N bsz bsz (bgp ||| ((1 : Int32) <<< (bsz &&& 31))) ber (upd bxs bsz.toNatClampNeg p0) (upd bus bsz.toNatClampNeg p1) (upd bys bsz.toNatClampNeg p2) bme)))) else some ((-3 : Int32), bsz, bgp, bxs, bus, bys, bme)))
def f_X0_empty (N : Nat) (bsz : Int32) (bme : Nat → Int32) : Option (Int32 × Int32 × Int32 × (Nat → Int32)) :=
  b1 (f_J7_fill_53178 N (0 : Int32) 289 bme) (fun v2 => some (bsz, (0 : Int32), (0 : Int32), v2))
def b_X0_takeError_15 (N : Nat)  (bsz : Int32) (bgp : Int32) (ber : Int32) (bxs : Nat → Int32) (bus : Nat → Int32) (bys : Nat → Int32) (k15 : Int32 → (Nat → Int32) → Option (Int32 × (Nat → Int32))) (l2 : Int32) (bme : Nat → Int32) : Option (Int32 × (Nat → Int32)) :=
  (if bsz ≤ l2 then some (ber, bme) else b1 (f_X0_enter N l2 bsz bgp ber bxs bus bys bme) (fun v5 => k15 (l2 + (1 : Int32)) v5))
def f_X0_takeError_15 (N : Nat)  (bsz : Int32) (bgp : Int32) (ber : Int32) (bxs : Nat → Int32) (bus : Nat → Int32) (bys : Nat → Int32) : Nat → Int32 → (Nat → Int32) → Option (Int32 × (Nat → Int32))
  | 0, _, _ => none
  | n + 1, l2, bme => b_X0_takeError_15 N bsz bgp ber bxs bus bys (f_X0_takeError_15 N bsz bgp ber bxs bus bys n) l2 bme
def f_X0_takeError (N : Nat) (p0 : Int32) (bsz : Int32) (bgp : Int32) (bxs : Nat → Int32) (bus : Nat → Int32) (bys : Nat → Int32) (bme : Nat → Int32) : Option (Int32 × (Nat → Int32)) :=
  b1 (f_J7_fill_53178 N (0 : Int32) 289 bme) (fun v2 => f_X0_takeError_15 N bsz bgp p0 bxs bus bys N (0 : Int32) v2)
def f_X0_size (N : Nat) (bsz : Int32) : Option (Int32) :=
  some (bsz)
def f_X0_room (N : Nat) (bsz : Int32) : Option (Int32) :=
  some (((12 : Int32) - bsz))
def f_X0_errorNow (N : Nat) (ber : Int32) : Option (Int32) :=
  some (ber)
def f_X0_gapCount (N : Nat) (bgp : Int32) : Option (Int32) :=
  b1 (f_J6_bitCount_0f7a4 N bgp) (fun r2 => some (r2))
def f_X0_state (N : Nat) (p0 : Int32) (bsz : Int32) (bxs : Nat → Int32) : Option (Int32) :=
  b1 (f_X0_has N p0 bsz) (fun r2 => (if r2 = 0 then some ((0 : Int32)) else gi p0 12 (some ((bxs p0.toNatClampNeg)))))
def f_X0_push (N : Nat) (p0 : Int32) (bsz : Int32) (bus : Nat → Int32) : Option (Int32) :=
  b1 (f_X0_has N p0 bsz) (fun r2 => (if r2 = 0 then some ((0 : Int32)) else gi p0 12 (some ((bus p0.toNatClampNeg)))))
def f_X0_end (N : Nat) (p0 : Int32) (bsz : Int32) (bys : Nat → Int32) : Option (Int32) :=
  b1 (f_X0_has N p0 bsz) (fun r2 => (if r2 = 0 then some ((0 : Int32)) else gi p0 12 (some ((bys p0.toNatClampNeg)))))
def f_X0_all (N : Nat) (bsz : Int32) : Option (Int32) :=
  some ((((1 : Int32) <<< (bsz &&& 31)) - (1 : Int32)))
def f_X0_isHeap (N : Nat) (p0 : Int32) (bsz : Int32) : Option (Int32) :=
  (if p0 < 0 then some ((0 : Int32)) else b1 (f_X0_all N bsz) (fun r3 => (if r3 < p0 then some ((0 : Int32)) else some ((1 : Int32)))))
def f_X0_rowsMeeting (N : Nat) (p0 : Int32) (bme : Nat → Int32) : Option (Int32) :=
  (if p0 < 0 then some ((0 : Int32)) else (if (289 : Int32) ≤ p0 then some ((0 : Int32)) else gi p0 289 (some ((bme p0.toNatClampNeg)))))
def f_X0_letsLaw (N : Nat) (p0 : Int32) (p1 : Int32) (bme : Nat → Int32) : Option (Int32) :=
  b1 (f_X0_rowsMeeting N p1 bme) (fun r2 => (if (r2 &&& p0) = p0 then some ((1 : Int32)) else some ((0 : Int32))))
def b_X0_lawOf_5 (N : Nat)  (l1 : Int32) (l2 : Int32) (bme : Nat → Int32) (k5 : Int32 → Int32 → Option (Int32)) (l3 : Int32) (l4 : Int32) : Option (Int32) :=
  (if (289 : Int32) ≤ l4 then some ((-4 : Int32)) else b1 (f_X0_letsLaw N l1 l4 bme) (fun r3 => (if r3 = 0 then k5 l3 (l4 + (1 : Int32)) else (if l3 = l2 then some (l4) else k5 (l3 + (1 : Int32)) (l4 + (1 : Int32))))))
def f_X0_lawOf_5 (N : Nat)  (l1 : Int32) (l2 : Int32) (bme : Nat → Int32) : Nat → Int32 → Int32 → Option (Int32)
  | 0, _, _ => none
  | n + 1, l3, l4 => b_X0_lawOf_5 N l1 l2 bme (f_X0_lawOf_5 N l1 l2 bme n) l3 l4
def f_X0_lawOf (N : Nat) (p0 : Int32) (p1 : Int32) (bme : Nat → Int32) : Option (Int32) :=
  f_X0_lawOf_5 N p0 p1 bme N (0 : Int32) (0 : Int32)
def f_X0_isWhole (N : Nat) (p0 : Int32) (bme : Nat → Int32) : Option (Int32) :=
  b1 (f_X0_lawOf N p0 (0 : Int32) bme) (fun r2 => (if r2 = (-4 : Int32) then some ((0 : Int32)) else some ((1 : Int32))))
def b_X0_lawCount_4 (N : Nat)  (l1 : Int32) (bme : Nat → Int32) (k4 : Int32 → Int32 → Option (Int32)) (l2 : Int32) (l3 : Int32) : Option (Int32) :=
  (if (289 : Int32) ≤ l3 then some (l2) else b1 (f_X0_letsLaw N l1 l3 bme) (fun r3 => (if r3 = 0 then k4 l2 (l3 + (1 : Int32)) else k4 (l2 + (1 : Int32)) (l3 + (1 : Int32)))))
def f_X0_lawCount_4 (N : Nat)  (l1 : Int32) (bme : Nat → Int32) : Nat → Int32 → Int32 → Option (Int32)
  | 0, _, _ => none
  | n + 1, l2, l3 => b_X0_lawCount_4 N l1 bme (f_X0_lawCount_4 N l1 bme n) l2 l3
def f_X0_lawCount (N : Nat) (p0 : Int32) (bme : Nat → Int32) : Option (Int32) :=
  f_X0_lawCount_4 N p0 bme N (0 : Int32) (0 : Int32)
def b_X0_leastSum_8 (N : Nat)  (l1 : Int32) (l2 : Int32) (l3 : Int32) (bme : Nat → Int32) (k8 : Int32 → Int32 → Option (Int32)) (l4 : Int32) (l5 : Int32) : Option (Int32) :=
  (if (289 : Int32) ≤ l5 then some (l4) else b1 (f_X0_letsLaw N l1 l5 bme) (fun r3 => (if r3 = 0 then k8 l4 (l5 + (1 : Int32)) else b1 (f_X3_sum N l5 l2 l3) (fun r6 => k8 (if r6 < l4 then r6 else l4) (l5 + (1 : Int32))))))
def f_X0_leastSum_8 (N : Nat)  (l1 : Int32) (l2 : Int32) (l3 : Int32) (bme : Nat → Int32) : Nat → Int32 → Int32 → Option (Int32)
  | 0, _, _ => none
  | n + 1, l4, l5 => b_X0_leastSum_8 N l1 l2 l3 bme (f_X0_leastSum_8 N l1 l2 l3 bme n) l4 l5
def f_X0_leastSum (N : Nat) (p0 : Int32) (p1 : Int32) (p2 : Int32) (bme : Nat → Int32) : Option (Int32) :=
  f_X0_leastSum_8 N p0 p1 p2 bme N (10000 : Int32) (0 : Int32)
def b_X0_leastHeight_8 (N : Nat)  (l1 : Int32) (l2 : Int32) (l3 : Int32) (bsz : Int32) (bxs : Nat → Int32) (bus : Nat → Int32) (k8 : Int32 → Int32 → Option (Int32)) (l4 : Int32) (l5 : Int32) : Option (Int32) :=
  (if bsz ≤ l5 then some (l4) else (if (12 : Int32) ≤ l5 then some (l4) else (if ((l1 >>> (l5 &&& 31)) &&& (1 : Int32)) = 0 then k8 l4 (l5 + (1 : Int32)) else gi l5 12 (gi l5 12 (nm (if ((l2 * (bxs l5.toNatClampNeg)) + (l3 * (bus l5.toNatClampNeg))) < l4 then ((l2 * (bxs l5.toNatClampNeg)) + (l3 * (bus l5.toNatClampNeg))) else l4) (fun v6 => k8 v6 (l5 + (1 : Int32))))))))
def f_X0_leastHeight_8 (N : Nat)  (l1 : Int32) (l2 : Int32) (l3 : Int32) (bsz : Int32) (bxs : Nat → Int32) (bus : Nat → Int32) : Nat → Int32 → Int32 → Option (Int32)
  | 0, _, _ => none
  | n + 1, l4, l5 => b_X0_leastHeight_8 N l1 l2 l3 bsz bxs bus (f_X0_leastHeight_8 N l1 l2 l3 bsz bxs bus n) l4 l5
def f_X0_leastHeight (N : Nat) (p0 : Int32) (p1 : Int32) (p2 : Int32) (bsz : Int32) (bxs : Nat → Int32) (bus : Nat → Int32) : Option (Int32) :=
  f_X0_leastHeight_8 N p0 p1 p2 bsz bxs bus N (1000 : Int32) (0 : Int32)
abbrev rm_X0_has : Room := { frames := 0, cells := 0, slots := 0, locals := 0 }
theorem iX0_has_X0 : ∀ w ∈ wsX00, w ∈ wsX0_has := by decide +kernel
theorem kX0_has_1 : (Cond.fieldLink RX0 24 "TwoLaws$Book" "size" "I") ∈ wsX0_has := by decide +kernel
set_option maxHeartbeats 4000000 in
set_option maxRecDepth 100000 in
theorem cr_X0_has (l : Launch) (D : va_G) (ky : Nat → ClassId) (aB ax au ay am : Nat) (sz N : Nat)  (bsz : Int32) (bgp : Int32) (ber : Int32) (bxs : Nat → Int32) (bus : Nat → Int32) (bys : Nat → Int32) (bme : Nat → Int32) (p0 : Int32) (res : Int32) (hF : f_X0_has N p0 bsz = some res) : MI l yX0_has wsX0_has rm_X0_has D ky sz [.ref aB, .int p0] (w_book ky aB ax au ay am bsz bgp ber bxs bus bys bme) (w_book ky aB ax au ay am bsz bgp ber bxs bus bys bme) res := by
  unfold MI
  refine Met.ofW (cc := cX0_has) (maxL := 2) (ret := (some .boolean)) (by decide) rfl ?_
  intro p e s m args below meth c s₁ B hml hv
  obtain ⟨rfl, hsz, hP, hK, hD0⟩ := hv
  have hx := B.exec
  have hb := B.bytes
  have hr := B.returns
  have hts := atoms_spec (ws := wsX0_has) B.pre
  have hown : s.vm.findClass RX0 = some m.cls := findClass_of_methodNamed B.named
  have hlocks := B.notSynchronized
  subst hsz
  have hD := hD0.self (sz := s.heap.size)
  generalize hAe : va_A (w_book ky aB ax au ay am bsz bgp ber bxs bus bys bme) s.heap.size = A at hD ⊢
  have hA : ∀ q : Nat, s.heap.size ≤ q → A q := fun q h => by rw [← hAe]; exact Or.inr h
  have hS : va_S A s.heap s.heap [] := va_S.rf
  have hP : va_P D vwCl (w_book ky aB ax au ay am bsz bgp ber bxs bus bys bme) s.heap := hP
  have hl := lv_entry ([.ref aB, .int p0]) (n := 2) (Nat.le_of_ble_eq_true rfl)
  rw [lg_entry_eq]
  generalize (lg_sl ([.ref aB, .int p0]) ++ List.replicate (2 - (lg_sl ([.ref aB, .int p0])).length) Slot.unset).toArray = ls at hl ⊢
  have hl : lv_has ls 2 [(0, .ref aB), (1, .int p0)] := hl
  have C : cx p s m c ([.ref aB, .int p0]).toArray D ky A cX0_has 2 wsX0_has RX0 := ⟨hx, hb, hml, hown, hts, hK, hA⟩
  have hQ : ∀ (pc : Nat) (H : Heap) (locs : List Loc) (ls : Array Slot), decode cX0_has pc = .ok (.ireturn, 1) → (res = 0 ∨ res = 1) → va_P D vwCl (w_book ky aB ax au ay am bsz bgp ber bxs bus bys bme) H → va_D A (w_book ky aB ax au ay am bsz bgp ber bxs bus bys bme) → va_S A s.heap H locs → W p l e rm_X0_has s m ([.ref aB, .int p0]).toArray below meth c H locs 0 0 (MQ below (va_Qi (S := Unit) (fun r _ => r = res) (fun _ t => va_P D vwCl (w_book ky aB ax au ay am bsz bgp ber bxs bus bys bme) t.heap ∧ va_K D vwCl (tyW ky) t ∧ va_D A (w_book ky aB ax au ay am bsz bgp ber bxs bus bys bme)) A) ([.ref aB, .int p0]).toArray s 0 0 A) (F0 m pc ls [.int res]) := fun pc H locs ls hd hz hP hD hS => W.zret hx hb hr (gz_n hz) (fun t ht hW => ⟨⟨res, (), rfl, rfl, by rw [ht]; exact hP, va_K.moved hW.alike hK, hD⟩, hS.F ht⟩) hS.2.2 hd
  unfold f_X0_has at hF
  refine lv_iload_n hx hb dX0_has_0 rfl (lv_at hl 1 rfl) ?_
  refine lv_if_lt (tgt := 22) hx hb dX0_has_1 (by decide) (fun c1 => ?_) (fun c1 => ?_)
  · have hF := if_t c1 hF
    refine lv_iconst (v := (0 : Int32)) hx hb dX0_has_22 (by decide) ?_
    have hF := Option.some.inj hF
    subst hF
    exact hQ _ _ _ _ dX0_has_23 (Or.inl rfl) hP hD hS
  · have hF := if_f c1 hF
    refine lv_iload_n hx hb dX0_has_4 rfl (lv_at hl 1 rfl) ?_
    refine lv_aload_n hx hb dX0_has_5 rfl (lv_at hl 0 rfl) ?_
    refine va_get (D := D) (ci := 0) (v := .int bsz) (C := RX0) (T := TX0) (N := 7) hx hb hts iX0_has_X0 hown hK hP 0 rfl rfl 4 (by decide) (hts _ kX0_has_1) (fun _ h9 => h9) rfl dX0_has_6 ?_
    refine lv_icmp_ge (tgt := 22) hx hb dX0_has_9 (by decide) (fun c2 => ?_) (fun c2 => ?_)
    · have hF := if_t c2 hF
      refine lv_iconst (v := (0 : Int32)) hx hb dX0_has_22 (by decide) ?_
      have hF := Option.some.inj hF
      subst hF
      exact hQ _ _ _ _ dX0_has_23 (Or.inl rfl) hP hD hS
    · have hF := if_f c2 hF
      refine lv_iload_n hx hb dX0_has_12 rfl (lv_at hl 1 rfl) ?_
      refine lv_bipush (v := (12 : Int32)) hx hb dX0_has_13 (by decide) ?_
      refine lv_icmp_ge (tgt := 22) hx hb dX0_has_15 (by decide) (fun c3 => ?_) (fun c3 => ?_)
      · have hF := if_t c3 hF
        refine lv_iconst (v := (0 : Int32)) hx hb dX0_has_22 (by decide) ?_
        have hF := Option.some.inj hF
        subst hF
        exact hQ _ _ _ _ dX0_has_23 (Or.inl rfl) hP hD hS
      · have hF := if_f c3 hF
        refine lv_iconst (v := (1 : Int32)) hx hb dX0_has_18 (by decide) ?_
        refine lv_goto (tgt := 23) hx hb dX0_has_19 (by decide) ?_
        have hF := Option.some.inj hF
        subst hF
        exact hQ _ _ _ _ dX0_has_23 (Or.inr rfl) hP hD hS
theorem c_X0_has (l : Launch) (D : va_G) (ky : Nat → ClassId) (aB ax au ay am : Nat) (sz N : Nat)  (bsz : Int32) (bgp : Int32) (ber : Int32) (bxs : Nat → Int32) (bus : Nat → Int32) (bys : Nat → Int32) (bme : Nat → Int32) (p0 : Int32) (rv : Int32) (hF : f_X0_has N p0 bsz = some (rv)) : MI l yX0_has wsX0_has rm_X0_has D ky sz [.ref aB, .int p0] (w_book ky aB ax au ay am bsz bgp ber bxs bus bys bme) (w_book ky aB ax au ay am bsz bgp ber bxs bus bys bme) rv :=
  cr_X0_has l D ky aB ax au ay am sz N bsz bgp ber bxs bus bys bme p0 (rv) hF
abbrev rm_X0_isGap : Room := { frames := 1, cells := 0, slots := 0, locals := 21 }
theorem iX0_isGap_X0 : ∀ w ∈ wsX00, w ∈ wsX0_isGap := by decide +kernel
theorem kX0_isGap_1 : (Cond.fieldLink RX0 28 "TwoLaws$Book" "gaps" "I") ∈ wsX0_isGap := by decide +kernel
set_option maxHeartbeats 4000000 in
set_option maxRecDepth 100000 in
theorem cr_X0_isGap (l : Launch) (D : va_G) (ky : Nat → ClassId) (aB ax au ay am : Nat) (sz N : Nat)  (bsz : Int32) (bgp : Int32) (ber : Int32) (bxs : Nat → Int32) (bus : Nat → Int32) (bys : Nat → Int32) (bme : Nat → Int32) (p0 : Int32) (res : Int32) (hF : f_X0_isGap N p0 bsz bgp = some res) : MI l yX0_isGap wsX0_isGap rm_X0_isGap D ky sz [.ref aB, .int p0] (w_book ky aB ax au ay am bsz bgp ber bxs bus bys bme) (w_book ky aB ax au ay am bsz bgp ber bxs bus bys bme) res := by
  unfold MI
  refine Met.ofW (cc := cX0_isGap) (maxL := 2) (ret := (some .boolean)) (by decide) rfl ?_
  intro p e s m args below meth c s₁ B hml hv
  obtain ⟨rfl, hsz, hP, hK, hD0⟩ := hv
  have hx := B.exec
  have hb := B.bytes
  have hr := B.returns
  have hts := atoms_spec (ws := wsX0_isGap) B.pre
  have hown : s.vm.findClass RX0 = some m.cls := findClass_of_methodNamed B.named
  have hlocks := B.notSynchronized
  subst hsz
  have hD := hD0.self (sz := s.heap.size)
  generalize hAe : va_A (w_book ky aB ax au ay am bsz bgp ber bxs bus bys bme) s.heap.size = A at hD ⊢
  have hA : ∀ q : Nat, s.heap.size ≤ q → A q := fun q h => by rw [← hAe]; exact Or.inr h
  have hS : va_S A s.heap s.heap [] := va_S.rf
  have hP : va_P D vwCl (w_book ky aB ax au ay am bsz bgp ber bxs bus bys bme) s.heap := hP
  have hl := lv_entry ([.ref aB, .int p0]) (n := 2) (Nat.le_of_ble_eq_true rfl)
  rw [lg_entry_eq]
  generalize (lg_sl ([.ref aB, .int p0]) ++ List.replicate (2 - (lg_sl ([.ref aB, .int p0])).length) Slot.unset).toArray = ls at hl ⊢
  have hl : lv_has ls 2 [(0, .ref aB), (1, .int p0)] := hl
  have C : cx p s m c ([.ref aB, .int p0]).toArray D ky A cX0_isGap 2 wsX0_isGap RX0 := ⟨hx, hb, hml, hown, hts, hK, hA⟩
  have hQ : ∀ (pc : Nat) (H : Heap) (locs : List Loc) (ls : Array Slot), decode cX0_isGap pc = .ok (.ireturn, 1) → (res = 0 ∨ res = 1) → va_P D vwCl (w_book ky aB ax au ay am bsz bgp ber bxs bus bys bme) H → va_D A (w_book ky aB ax au ay am bsz bgp ber bxs bus bys bme) → va_S A s.heap H locs → W p l e rm_X0_isGap s m ([.ref aB, .int p0]).toArray below meth c H locs 0 0 (MQ below (va_Qi (S := Unit) (fun r _ => r = res) (fun _ t => va_P D vwCl (w_book ky aB ax au ay am bsz bgp ber bxs bus bys bme) t.heap ∧ va_K D vwCl (tyW ky) t ∧ va_D A (w_book ky aB ax au ay am bsz bgp ber bxs bus bys bme)) A) ([.ref aB, .int p0]).toArray s 0 0 A) (F0 m pc ls [.int res]) := fun pc H locs ls hd hz hP hD hS => W.zret hx hb hr (gz_n hz) (fun t ht hW => ⟨⟨res, (), rfl, rfl, by rw [ht]; exact hP, va_K.moved hW.alike hK, hD⟩, hS.F ht⟩) hS.2.2 hd
  unfold f_X0_isGap at hF
  refine lv_aload_n hx hb dX0_isGap_0 rfl (lv_at hl 0 rfl) ?_
  refine lv_iload_n hx hb dX0_isGap_1 rfl (lv_at hl 1 rfl) ?_
  obtain ⟨r2, h1, hF⟩ := b1_s hF
  refine cl_vi (As := [.int p0]) (rest := []) (w' := (w_book ky aB ax au ay am bsz bgp ber bxs bus bys bme)) ⟨hx, hb, hml, hown, hts⟩ hK hP hD hS hA (c_X0_has l D ky aB ax au ay am _ N  bsz bgp ber bxs bus bys bme p0 r2 h1) (cwV 1 hts gX0_isGap_X0_has rfl rfl rfl (by decide +kernel) ⟨Nat.le_of_ble_eq_true rfl, Nat.le_of_ble_eq_true rfl⟩) [0, 1, 2, 3, 4] [] [0, 1, 2, 3, 4] 0 0 rfl rfl rfl rfl (wr := []) rfl (by decide) rfl rfl hl.1 (Nat.le_of_ble_eq_true rfl) dX0_isGap_2 ⟨Nat.zero_le _, Nat.zero_le _⟩ (fun H locs hP hD hS => ?_)
  refine lv_if_eq (tgt := 23) hx hb dX0_isGap_5 (by decide) (fun c3 => ?_) (fun c3 => ?_)
  · have hF := if_t c3 hF
    refine lv_iconst (v := (0 : Int32)) hx hb dX0_isGap_23 (by decide) ?_
    have hF := Option.some.inj hF
    subst hF
    exact hQ _ _ _ _ dX0_isGap_24 (Or.inl rfl) hP hD hS
  · have hF := if_f c3 hF
    refine lv_aload_n hx hb dX0_isGap_8 rfl (lv_at hl 0 rfl) ?_
    refine va_get (D := D) (ci := 0) (v := .int bgp) (C := RX0) (T := TX0) (N := 7) hx hb hts iX0_isGap_X0 hown hK hP 0 rfl rfl 5 (by decide) (hts _ kX0_isGap_1) (fun _ h9 => h9) rfl dX0_isGap_9 ?_
    refine lv_iload_n hx hb dX0_isGap_12 rfl (lv_at hl 1 rfl) ?_
    refine lv_ishr hx hb dX0_isGap_13 ?_
    refine lv_iconst (v := (1 : Int32)) hx hb dX0_isGap_14 (by decide) ?_
    refine lv_iand hx hb dX0_isGap_15 ?_
    refine lv_if_eq (tgt := 23) hx hb dX0_isGap_16 (by decide) (fun c4 => ?_) (fun c4 => ?_)
    · have hF := if_t c4 hF
      refine lv_iconst (v := (0 : Int32)) hx hb dX0_isGap_23 (by decide) ?_
      have hF := Option.some.inj hF
      subst hF
      exact hQ _ _ _ _ dX0_isGap_24 (Or.inl rfl) hP hD hS
    · have hF := if_f c4 hF
      refine lv_iconst (v := (1 : Int32)) hx hb dX0_isGap_19 (by decide) ?_
      refine lv_goto (tgt := 24) hx hb dX0_isGap_20 (by decide) ?_
      have hF := Option.some.inj hF
      subst hF
      exact hQ _ _ _ _ dX0_isGap_24 (Or.inr rfl) hP hD hS
theorem c_X0_isGap (l : Launch) (D : va_G) (ky : Nat → ClassId) (aB ax au ay am : Nat) (sz N : Nat)  (bsz : Int32) (bgp : Int32) (ber : Int32) (bxs : Nat → Int32) (bus : Nat → Int32) (bys : Nat → Int32) (bme : Nat → Int32) (p0 : Int32) (rv : Int32) (hF : f_X0_isGap N p0 bsz bgp = some (rv)) : MI l yX0_isGap wsX0_isGap rm_X0_isGap D ky sz [.ref aB, .int p0] (w_book ky aB ax au ay am bsz bgp ber bxs bus bys bme) (w_book ky aB ax au ay am bsz bgp ber bxs bus bys bme) rv :=
  cr_X0_isGap l D ky aB ax au ay am sz N bsz bgp ber bxs bus bys bme p0 (rv) hF
abbrev rm_X0_enter : Room := { frames := 2, cells := 0, slots := 0, locals := 43 }
theorem iX0_enter_X0 : ∀ w ∈ wsX00, w ∈ wsX0_enter := by decide +kernel
theorem kX0_enter_1 : (Cond.fieldLink RX0 21 "TwoLaws$Book" "meeting" "[I") ∈ wsX0_enter := by decide +kernel
theorem kX0_enter_2 : (Cond.fieldLink RX0 9 "TwoLaws$Book" "xs" "[I") ∈ wsX0_enter := by decide +kernel
theorem kX0_enter_3 : (Cond.fieldLink RX0 15 "TwoLaws$Book" "us" "[I") ∈ wsX0_enter := by decide +kernel
theorem kX0_enter_4 : (Cond.fieldLink RX0 18 "TwoLaws$Book" "ys" "[I") ∈ wsX0_enter := by decide +kernel
theorem kX0_enter_5 : (Cond.fieldLink RX0 31 "TwoLaws$Book" "error" "I") ∈ wsX0_enter := by decide +kernel
set_option maxHeartbeats 4000000 in
set_option maxRecDepth 100000 in
theorem w_X0_enter_60 {p : Program} {l : Launch} {e : Env} {s : State} {m : MethodId} {args : Array Value} {below : List Frame} {meth : Method} {c : Code} {Q : State → Prop} {A : Nat → Prop} {D : va_G} {ky : Nat → ClassId} {aB ax au ay am : Nat} {bsz : Int32} {bgp : Int32} {ber : Int32} {bxs : Nat → Int32} {bus : Nat → Int32} {bys : Nat → Int32} (N : Nat) (C : cx p s m c args D ky A cX0_enter 3 wsX0_enter RX0) (res : (Nat → Int32)) (hQ : ∀ (pc : Nat) (H : Heap) (locs : List Loc) (ls : Array Slot), decode cX0_enter pc = .ok (.return_, 1) → va_P D vwCl (w_book ky aB ax au ay am bsz bgp ber bxs bus bys res) H → va_D A (w_book ky aB ax au ay am bsz bgp ber bxs bus bys res) → va_S A s.heap H locs → W p l e rm_X0_enter s m args below meth c H locs 0 0 Q (F0 m pc ls [])) (l1 : Int32) (k11 : Int32 → (Nat → Int32) → Option ((Nat → Int32))) (hk11 : ∀ (l2 : Int32) (bme : Nat → Int32), k11 l2 bme = some res → ∀ (H : Heap) (locs : List Loc) (ls : Array Slot), va_P D vwCl (w_book ky aB ax au ay am bsz bgp ber bxs bus bys bme) H → va_D A (w_book ky aB ax au ay am bsz bgp ber bxs bus bys bme) → va_S A s.heap H locs → lv_has ls 3 [(0, .ref aB), (1, .int l1), (2, .int l2)] → W p l e rm_X0_enter s m args below meth c H locs 0 0 Q (F0 m 11 ls [])) (l2 : Int32) (bme : Nat → Int32) (hF : f_X0_enter_60 N k11 l1 l2 bsz bgp ber bxs bus bys bme = some res) : ∀ (H : Heap) (locs : List Loc) (ls : Array Slot), va_P D vwCl (w_book ky aB ax au ay am bsz bgp ber bxs bus bys bme) H → va_D A (w_book ky aB ax au ay am bsz bgp ber bxs bus bys bme) → va_S A s.heap H locs → lv_has ls 3 [(0, .ref aB), (1, .int l1), (2, .int l2)] → W p l e rm_X0_enter s m args below meth c H locs 0 0 Q (F0 m 60 ls []) := by
  obtain ⟨hx, hb, hml, hown, hts, hK, hA⟩ := id C
  intro H locs ls hP hD hS hl
  unfold f_X0_enter_60 at hF
  refine lv_aload_n hx hb dX0_enter_60 rfl (lv_at hl 0 rfl) ?_
  refine va_get (D := D) (ci := 0) (v := .ref am) (C := RX0) (T := TX0) (N := 7) hx hb hts iX0_enter_X0 hown hK hP 0 rfl rfl 3 (by decide) (hts _ kX0_enter_1) (fun _ h9 => h9) rfl dX0_enter_61 ?_
  refine lv_iload_n hx hb dX0_enter_64 rfl (lv_at hl 2 rfl) ?_
  refine lv_dup2_11 hx hb dX0_enter_65 rfl rfl ?_
  obtain ⟨h16, hF⟩ := gi_s hF
  refine va_iald hx hb hK hP 4 0 rfl rfl h16 dX0_enter_66 ?_
  refine lv_iconst (v := (1 : Int32)) hx hb dX0_enter_67 (by decide) ?_
  refine lv_iload_n hx hb dX0_enter_68 rfl (lv_at hl 1 rfl) ?_
  refine lv_ishl hx hb dX0_enter_69 ?_
  refine lv_ior hx hb dX0_enter_70 ?_
  obtain ⟨h17, hF⟩ := gi_s hF
  refine va_iast hx hb hK hP hD hS 4 0 rfl rfl h17 dX0_enter_71 (fun H locs hP hD hS => ?_)
  have hP : va_P D vwCl (w_book ky aB ax au ay am bsz bgp ber bxs bus bys (upd bme l2.toNatClampNeg ((bme l2.toNatClampNeg) ||| ((1 : Int32) <<< (l1 &&& 31))))) H := hP
  have hD : va_D A (w_book ky aB ax au ay am bsz bgp ber bxs bus bys (upd bme l2.toNatClampNeg ((bme l2.toNatClampNeg) ||| ((1 : Int32) <<< (l1 &&& 31))))) := hD
  refine lv_iinc (v := (l2 + (1 : Int32))) (lv' := [(2, .int (l2 + (1 : Int32))), (0, .ref aB), (1, .int l1)]) hx hb dX0_enter_72 hl (k := 2) rfl rfl (by decide) rfl (fun ls hl => ?_)
  refine lv_goto (tgt := 11) hx hb dX0_enter_75 (by decide) ?_
  exact hk11 (l2 + (1 : Int32)) (upd bme l2.toNatClampNeg ((bme l2.toNatClampNeg) ||| ((1 : Int32) <<< (l1 &&& 31)))) hF H _ _ hP hD hS (lv_sub hl [1, 2, 0] rfl)
set_option maxHeartbeats 4000000 in
set_option maxRecDepth 100000 in
theorem w_X0_enter_11 {p : Program} {l : Launch} {e : Env} {s : State} {m : MethodId} {args : Array Value} {below : List Frame} {meth : Method} {c : Code} {Q : State → Prop} {A : Nat → Prop} {D : va_G} {ky : Nat → ClassId} {aB ax au ay am : Nat} {bsz : Int32} {bgp : Int32} {ber : Int32} {bxs : Nat → Int32} {bus : Nat → Int32} {bys : Nat → Int32} (N : Nat) (C : cx p s m c args D ky A cX0_enter 3 wsX0_enter RX0) (res : (Nat → Int32)) (hQ : ∀ (pc : Nat) (H : Heap) (locs : List Loc) (ls : Array Slot), decode cX0_enter pc = .ok (.return_, 1) → va_P D vwCl (w_book ky aB ax au ay am bsz bgp ber bxs bus bys res) H → va_D A (w_book ky aB ax au ay am bsz bgp ber bxs bus bys res) → va_S A s.heap H locs → W p l e rm_X0_enter s m args below meth c H locs 0 0 Q (F0 m pc ls [])) (l1 : Int32) : ∀ (n : Nat) (l2 : Int32) (bme : Nat → Int32), f_X0_enter_11 N l1 bsz bgp ber bxs bus bys n l2 bme = some res → ∀ (H : Heap) (locs : List Loc) (ls : Array Slot), va_P D vwCl (w_book ky aB ax au ay am bsz bgp ber bxs bus bys bme) H → va_D A (w_book ky aB ax au ay am bsz bgp ber bxs bus bys bme) → va_S A s.heap H locs → lv_has ls 3 [(0, .ref aB), (1, .int l1), (2, .int l2)] → W p l e rm_X0_enter s m args below meth c H locs 0 0 Q (F0 m 11 ls []) := by
  obtain ⟨hx, hb, hml, hown, hts, hK, hA⟩ := id C
  intro n
  induction n with
  | zero =>
    intro l2 bme hF
    cases hF
  | succ n ih =>
    intro l2 bme hF H locs ls hP hD hS hl
    have hF : b_X0_enter_11 N l1 bsz bgp ber bxs bus bys (f_X0_enter_11 N l1 bsz bgp ber bxs bus bys n) l2 bme = some res := hF
    unfold b_X0_enter_11 at hF
    refine lv_iload_n hx hb dX0_enter_11 rfl (lv_at hl 2 rfl) ?_
    refine lv_aload_n hx hb dX0_enter_12 rfl (lv_at hl 0 rfl) ?_
    refine va_get (D := D) (ci := 0) (v := .ref am) (C := RX0) (T := TX0) (N := 7) hx hb hts iX0_enter_X0 hown hK hP 0 rfl rfl 3 (by decide) (hts _ kX0_enter_1) (fun _ h9 => h9) rfl dX0_enter_13 ?_
    refine va_alen (v := (289 : Int32)) hx hb hK hP 4 0 rfl rfl rfl dX0_enter_16 ?_
    refine lv_icmp_ge (tgt := 78) hx hb dX0_enter_17 (by decide) (fun c4 => ?_) (fun c4 => ?_)
    · have hF := if_t c4 hF
      have hF := Option.some.inj hF
      subst hF
      exact hQ _ H _ _ dX0_enter_78 hP hD hS
    · have hF := if_f c4 hF
      refine lv_aload_n hx hb dX0_enter_20 rfl (lv_at hl 0 rfl) ?_
      refine lv_iload_n hx hb dX0_enter_21 rfl (lv_at hl 1 rfl) ?_
      obtain ⟨r6, h5, hF⟩ := b1_s hF
      refine cl_vi (As := [.int l1]) (rest := []) (w' := (w_book ky aB ax au ay am bsz bgp ber bxs bus bys bme)) ⟨hx, hb, hml, hown, hts⟩ hK hP hD hS hA (c_X0_isGap l D ky aB ax au ay am _ N  bsz bgp ber bxs bus bys bme l1 r6 h5) (cwV 1 hts gX0_enter_X0_isGap rfl rfl rfl (by decide +kernel) ⟨Nat.le_of_ble_eq_true rfl, Nat.le_of_ble_eq_true rfl⟩) [0, 1, 2, 3, 4] [] [0, 1, 2, 3, 4] 0 0 rfl rfl rfl rfl (wr := []) rfl (by decide) rfl rfl hl.1 (Nat.le_of_ble_eq_true rfl) dX0_enter_22 ⟨Nat.zero_le _, Nat.zero_le _⟩ (fun H locs hP hD hS => ?_)
      refine lv_if_ne (tgt := 60) hx hb dX0_enter_25 (by decide) (fun c7 => ?_) (fun c7 => ?_)
      · have hF := if_f c7 hF
        exact w_X0_enter_60 N C res hQ l1 _ ih l2 bme hF H _ _ hP hD hS (lv_sub hl [0, 1, 2] rfl)
      · have hF := if_t c7 hF
        refine lv_iload_n hx hb dX0_enter_28 rfl (lv_at hl 2 rfl) ?_
        refine lv_aload_n hx hb dX0_enter_29 rfl (lv_at hl 0 rfl) ?_
        refine va_get (D := D) (ci := 0) (v := .ref ax) (C := RX0) (T := TX0) (N := 7) hx hb hts iX0_enter_X0 hown hK hP 0 rfl rfl 0 (by decide) (hts _ kX0_enter_2) (fun _ h9 => h9) rfl dX0_enter_30 ?_
        refine lv_iload_n hx hb dX0_enter_33 rfl (lv_at hl 1 rfl) ?_
        obtain ⟨h8, hF⟩ := gi_s hF
        refine va_iald hx hb hK hP 1 0 rfl rfl h8 dX0_enter_34 ?_
        refine lv_aload_n hx hb dX0_enter_35 rfl (lv_at hl 0 rfl) ?_
        refine va_get (D := D) (ci := 0) (v := .ref au) (C := RX0) (T := TX0) (N := 7) hx hb hts iX0_enter_X0 hown hK hP 0 rfl rfl 1 (by decide) (hts _ kX0_enter_3) (fun _ h9 => h9) rfl dX0_enter_36 ?_
        refine lv_iload_n hx hb dX0_enter_39 rfl (lv_at hl 1 rfl) ?_
        obtain ⟨h9, hF⟩ := gi_s hF
        refine va_iald hx hb hK hP 2 0 rfl rfl h9 dX0_enter_40 ?_
        obtain ⟨r11, h10, hF⟩ := b1_s hF
        refine cl_si (As := [.int l2, .int (bxs l1.toNatClampNeg), .int (bus l1.toNatClampNeg)]) (rest := []) ⟨hx, hb, hml, hown, hts⟩ hK hP hD hS hA (c_X3_sum l D ky  _ N   l2 (bxs l1.toNatClampNeg) (bus l1.toNatClampNeg) r11 h10) (va_cwS 3 hts gX0_enter_X3_sum rfl rfl rfl (by decide +kernel) ⟨Nat.le_of_ble_eq_true rfl, Nat.le_of_ble_eq_true rfl⟩) rfl hl.1 (Nat.le_of_ble_eq_true rfl) dX0_enter_41 ⟨Nat.zero_le _, Nat.zero_le _⟩ (fun H locs hP hD hS => ?_)
        refine lv_aload_n hx hb dX0_enter_44 rfl (lv_at hl 0 rfl) ?_
        refine va_get (D := D) (ci := 0) (v := .ref ay) (C := RX0) (T := TX0) (N := 7) hx hb hts iX0_enter_X0 hown hK hP 0 rfl rfl 2 (by decide) (hts _ kX0_enter_4) (fun _ h9 => h9) rfl dX0_enter_45 ?_
        refine lv_iload_n hx hb dX0_enter_48 rfl (lv_at hl 1 rfl) ?_
        obtain ⟨h12, hF⟩ := gi_s hF
        refine va_iald hx hb hK hP 3 0 rfl rfl h12 dX0_enter_49 ?_
        refine lv_aload_n hx hb dX0_enter_50 rfl (lv_at hl 0 rfl) ?_
        refine va_get (D := D) (ci := 0) (v := .int ber) (C := RX0) (T := TX0) (N := 7) hx hb hts iX0_enter_X0 hown hK hP 0 rfl rfl 6 (by decide) (hts _ kX0_enter_5) (fun _ h9 => h9) rfl dX0_enter_51 ?_
        obtain ⟨r14, h13, hF⟩ := b1_s hF
        refine cl_si (As := [.int r11, .int (bys l1.toNatClampNeg), .int ber]) (rest := []) ⟨hx, hb, hml, hown, hts⟩ hK hP hD hS hA (c_X3_isMet l D ky  _ N   r11 (bys l1.toNatClampNeg) ber r14 h13) (va_cwS 3 hts gX0_enter_X3_isMet rfl rfl rfl (by decide +kernel) ⟨Nat.le_of_ble_eq_true rfl, Nat.le_of_ble_eq_true rfl⟩) rfl hl.1 (Nat.le_of_ble_eq_true rfl) dX0_enter_54 ⟨Nat.zero_le _, Nat.zero_le _⟩ (fun H locs hP hD hS => ?_)
        refine lv_if_eq (tgt := 72) hx hb dX0_enter_57 (by decide) (fun c15 => ?_) (fun c15 => ?_)
        · have hF := if_t c15 hF
          refine lv_iinc (v := (l2 + (1 : Int32))) (lv' := [(2, .int (l2 + (1 : Int32))), (0, .ref aB), (1, .int l1)]) hx hb dX0_enter_72 hl (k := 2) rfl rfl (by decide) rfl (fun ls hl => ?_)
          refine lv_goto (tgt := 11) hx hb dX0_enter_75 (by decide) ?_
          exact ih (l2 + (1 : Int32)) bme hF H _ _ hP hD hS (lv_sub hl [1, 2, 0] rfl)
        · have hF := if_f c15 hF
          exact w_X0_enter_60 N C res hQ l1 _ ih l2 bme hF H _ _ hP hD hS (lv_sub hl [0, 1, 2] rfl)
set_option maxHeartbeats 4000000 in
set_option maxRecDepth 100000 in
theorem cr_X0_enter (l : Launch) (D : va_G) (ky : Nat → ClassId) (aB ax au ay am : Nat) (sz N : Nat)  (bsz : Int32) (bgp : Int32) (ber : Int32) (bxs : Nat → Int32) (bus : Nat → Int32) (bys : Nat → Int32) (bme : Nat → Int32) (p0 : Int32) (res : (Nat → Int32)) (hF : f_X0_enter N p0 bsz bgp ber bxs bus bys bme = some res) : MV l yX0_enter wsX0_enter rm_X0_enter D ky sz [.ref aB, .int p0] (w_book ky aB ax au ay am bsz bgp ber bxs bus bys bme) (w_book ky aB ax au ay am bsz bgp ber bxs bus bys res) := by
  unfold MV
  refine Met.ofW (cc := cX0_enter) (maxL := 3) (ret := none) (by decide) rfl ?_
  intro p e s m args below meth c s₁ B hml hv
  obtain ⟨rfl, hsz, hP, hK, hD0⟩ := hv
  have hx := B.exec
  have hb := B.bytes
  have hr := B.returns
  have hts := atoms_spec (ws := wsX0_enter) B.pre
  have hown : s.vm.findClass RX0 = some m.cls := findClass_of_methodNamed B.named
  have hlocks := B.notSynchronized
  subst hsz
  have hD := hD0.self (sz := s.heap.size)
  generalize hAe : va_A (w_book ky aB ax au ay am bsz bgp ber bxs bus bys bme) s.heap.size = A at hD ⊢
  have hA : ∀ q : Nat, s.heap.size ≤ q → A q := fun q h => by rw [← hAe]; exact Or.inr h
  have hS : va_S A s.heap s.heap [] := va_S.rf
  have hP : va_P D vwCl (w_book ky aB ax au ay am bsz bgp ber bxs bus bys bme) s.heap := hP
  have hl := lv_entry ([.ref aB, .int p0]) (n := 3) (Nat.le_of_ble_eq_true rfl)
  rw [lg_entry_eq]
  generalize (lg_sl ([.ref aB, .int p0]) ++ List.replicate (3 - (lg_sl ([.ref aB, .int p0])).length) Slot.unset).toArray = ls at hl ⊢
  have hl : lv_has ls 3 [(0, .ref aB), (1, .int p0)] := hl
  have C : cx p s m c ([.ref aB, .int p0]).toArray D ky A cX0_enter 3 wsX0_enter RX0 := ⟨hx, hb, hml, hown, hts, hK, hA⟩
  have hQ : ∀ (pc : Nat) (H : Heap) (locs : List Loc) (ls : Array Slot), decode cX0_enter pc = .ok (.return_, 1) → va_P D vwCl (w_book ky aB ax au ay am bsz bgp ber bxs bus bys res) H → va_D A (w_book ky aB ax au ay am bsz bgp ber bxs bus bys res) → va_S A s.heap H locs → W p l e rm_X0_enter s m ([.ref aB, .int p0]).toArray below meth c H locs 0 0 (MQ below (va_Qv (S := Unit) (fun _ => True) (fun _ t => va_P D vwCl (w_book ky aB ax au ay am bsz bgp ber bxs bus bys res) t.heap ∧ va_K D vwCl (tyW ky) t ∧ va_D A (w_book ky aB ax au ay am bsz bgp ber bxs bus bys res)) A) ([.ref aB, .int p0]).toArray s 0 0 A) (F0 m pc ls []) := fun pc H locs ls hd hP hD hS => W.vret hx hb hr (fun t ht hW => ⟨⟨(), rfl, trivial, by rw [ht]; exact hP, va_K.moved hW.alike hK, hD⟩, hS.F ht⟩) hS.2.2 hd
  unfold f_X0_enter at hF
  refine lv_aload_n hx hb dX0_enter_0 rfl (lv_at hl 0 rfl) ?_
  refine lv_iload_n hx hb dX0_enter_1 rfl (lv_at hl 1 rfl) ?_
  obtain ⟨r2, h1, hF⟩ := b1_s hF
  refine cl_vi (As := [.int p0]) (rest := []) (w' := (w_book ky aB ax au ay am bsz bgp ber bxs bus bys bme)) ⟨hx, hb, hml, hown, hts⟩ hK hP hD hS hA (c_X0_has l D ky aB ax au ay am _ N  bsz bgp ber bxs bus bys bme p0 r2 h1) (cwV 1 hts gX0_enter_X0_has rfl rfl rfl (by decide +kernel) ⟨Nat.le_of_ble_eq_true rfl, Nat.le_of_ble_eq_true rfl⟩) [0, 1, 2, 3, 4] [] [0, 1, 2, 3, 4] 0 0 rfl rfl rfl rfl (wr := []) rfl (by decide) rfl rfl hl.1 (Nat.le_of_ble_eq_true rfl) dX0_enter_2 ⟨Nat.zero_le _, Nat.zero_le _⟩ (fun H locs hP hD hS => ?_)
  refine lv_if_ne (tgt := 9) hx hb dX0_enter_5 (by decide) (fun c3 => ?_) (fun c3 => ?_)
  · have hF := if_f c3 hF
    refine lv_iconst (v := (0 : Int32)) hx hb dX0_enter_9 (by decide) ?_
    refine lv_istore_n (lv' := [(2, .int (0 : Int32)), (0, .ref aB), (1, .int p0)]) hx hb dX0_enter_10 rfl hl (by decide) rfl (fun ls hl => ?_)
    exact w_X0_enter_11 N C res hQ p0 N (0 : Int32) bme hF _ _ _ hP hD hS (lv_sub hl [1, 2, 0] rfl)
  · have hF := if_t c3 hF
    have hF := Option.some.inj hF
    subst hF
    exact hQ _ _ _ _ dX0_enter_8 hP hD hS
theorem c_X0_enter (l : Launch) (D : va_G) (ky : Nat → ClassId) (aB ax au ay am : Nat) (sz N : Nat)  (bsz : Int32) (bgp : Int32) (ber : Int32) (bxs : Nat → Int32) (bus : Nat → Int32) (bys : Nat → Int32) (bme : Nat → Int32) (p0 : Int32) (bme' : Nat → Int32) (hF : f_X0_enter N p0 bsz bgp ber bxs bus bys bme = some (bme')) : MV l yX0_enter wsX0_enter rm_X0_enter D ky sz [.ref aB, .int p0] (w_book ky aB ax au ay am bsz bgp ber bxs bus bys bme) (w_book ky aB ax au ay am bsz bgp ber bxs bus bys bme') :=
  cr_X0_enter l D ky aB ax au ay am sz N bsz bgp ber bxs bus bys bme p0 (bme') hF
abbrev rm_X0_add : Room := { frames := 3, cells := 0, slots := 0, locals := 65 }
theorem iX0_add_X0 : ∀ w ∈ wsX00, w ∈ wsX0_add := by decide +kernel
theorem kX0_add_1 : (Cond.fieldLink RX0 24 "TwoLaws$Book" "size" "I") ∈ wsX0_add := by decide +kernel
theorem kX0_add_2 : (Cond.fieldLink RX0 9 "TwoLaws$Book" "xs" "[I") ∈ wsX0_add := by decide +kernel
theorem kX0_add_3 : (Cond.fieldLink RX0 15 "TwoLaws$Book" "us" "[I") ∈ wsX0_add := by decide +kernel
theorem kX0_add_4 : (Cond.fieldLink RX0 18 "TwoLaws$Book" "ys" "[I") ∈ wsX0_add := by decide +kernel
theorem kX0_add_5 : (Cond.fieldLink RX0 28 "TwoLaws$Book" "gaps" "I") ∈ wsX0_add := by decide +kernel
set_option maxHeartbeats 4000000 in
set_option maxRecDepth 100000 in
theorem w_X0_add_63 {p : Program} {l : Launch} {e : Env} {s : State} {m : MethodId} {args : Array Value} {below : List Frame} {meth : Method} {c : Code} {Q : State → Prop} {A : Nat → Prop} {D : va_G} {ky : Nat → ClassId} {aB ax au ay am : Nat} {ber : Int32} (N : Nat) (C : cx p s m c args D ky A cX0_add 6 wsX0_add RX0) (res : Int32 × Int32 × Int32 × (Nat → Int32) × (Nat → Int32) × (Nat → Int32) × (Nat → Int32)) (hQ : ∀ (pc : Nat) (H : Heap) (locs : List Loc) (ls : Array Slot), decode cX0_add pc = .ok (.ireturn, 1) → va_P D vwCl (w_book ky aB ax au ay am res.2.1 res.2.2.1 ber res.2.2.2.1 res.2.2.2.2.1 res.2.2.2.2.2.1 res.2.2.2.2.2.2) H → va_D A (w_book ky aB ax au ay am res.2.1 res.2.2.1 ber res.2.2.2.1 res.2.2.2.2.1 res.2.2.2.2.2.1 res.2.2.2.2.2.2) → va_S A s.heap H locs → W p l e rm_X0_add s m args below meth c H locs 0 0 Q (F0 m pc ls [.int res.1]))  (l5 : Int32) (bsz : Int32) (bgp : Int32) (bxs : Nat → Int32) (bus : Nat → Int32) (bys : Nat → Int32) (bme : Nat → Int32) (hF : f_X0_add_63 N l5 bsz bgp ber bxs bus bys bme = some res) : ∀ (H : Heap) (locs : List Loc) (ls : Array Slot), va_P D vwCl (w_book ky aB ax au ay am bsz bgp ber bxs bus bys bme) H → va_D A (w_book ky aB ax au ay am bsz bgp ber bxs bus bys bme) → va_S A s.heap H locs → lv_has ls 6 [(0, .ref aB), (5, .int l5)] → W p l e rm_X0_add s m args below meth c H locs 0 0 Q (F0 m 63 ls []) := by
  obtain ⟨hx, hb, hml, hown, hts, hK, hA⟩ := id C
  intro H locs ls hP hD hS hl
  unfold f_X0_add_63 at hF
  refine lv_aload_n hx hb dX0_add_63 rfl (lv_at hl 0 rfl) ?_
  refine lv_dup hx hb dX0_add_64 rfl ?_
  refine va_get (D := D) (ci := 0) (v := .int bsz) (C := RX0) (T := TX0) (N := 7) hx hb hts iX0_add_X0 hown hK hP 0 rfl rfl 4 (by decide) (hts _ kX0_add_1) (fun _ h9 => h9) rfl dX0_add_65 ?_
  refine lv_iconst (v := (1 : Int32)) hx hb dX0_add_68 (by decide) ?_
  refine lv_iadd hx hb dX0_add_69 ?_
  refine va_put (D := D) (ci := 0) (v := .int (bsz + (1 : Int32))) (ty := .int) (C := RX0) (T := TX0) (N := 7) hx hb hts iX0_add_X0 tyX0 tyX0_ok nmX0 hown hK hP hD hS 0 rfl rfl 4 (by decide) (hts _ kX0_add_1) (fun _ h9 => h9) rfl (by decide +kernel) rfl rfl (Nat.le_of_ble_eq_true rfl) dX0_add_70 (fun H locs hP hD hS => ?_)
  have hP : va_P D vwCl (w_book ky aB ax au ay am (bsz + (1 : Int32)) bgp ber bxs bus bys bme) H := hP
  have hD : va_D A (w_book ky aB ax au ay am (bsz + (1 : Int32)) bgp ber bxs bus bys bme) := hD
  refine lv_aload_n hx hb dX0_add_73 rfl (lv_at hl 0 rfl) ?_
  refine lv_iload hx hb dX0_add_74 (lv_at hl 1 rfl) ?_
  obtain ⟨v8, h7, hF⟩ := b1_s hF
  refine cl_vv (As := [.int l5]) (rest := []) (w' := (w_book ky aB ax au ay am (bsz + (1 : Int32)) bgp ber bxs bus bys v8)) ⟨hx, hb, hml, hown, hts⟩ hK hP hD hS hA (c_X0_enter l D ky aB ax au ay am _ N  (bsz + (1 : Int32)) bgp ber bxs bus bys bme l5 v8 h7) (cwV 1 hts gX0_add_X0_enter rfl rfl rfl (by decide +kernel) ⟨Nat.le_of_ble_eq_true rfl, Nat.le_of_ble_eq_true rfl⟩) [0, 1, 2, 3, 4] [] [0, 1, 2, 3, 4] 0 0 rfl rfl rfl rfl (wr := []) rfl (by decide) rfl rfl hl.1 (Nat.le_of_ble_eq_true rfl) dX0_add_76 ⟨Nat.zero_le _, Nat.zero_le _⟩ (fun H locs hP hD hS => ?_)
  refine lv_iload hx hb dX0_add_79 (lv_at hl 1 rfl) ?_
  have hF := Option.some.inj hF
  subst hF
  exact hQ _ H _ _ dX0_add_81 hP hD hS
set_option maxHeartbeats 4000000 in
set_option maxRecDepth 100000 in
theorem cr_X0_add (l : Launch) (D : va_G) (ky : Nat → ClassId) (aB ax au ay am : Nat) (sz N : Nat)  (bsz : Int32) (bgp : Int32) (ber : Int32) (bxs : Nat → Int32) (bus : Nat → Int32) (bys : Nat → Int32) (bme : Nat → Int32) (p0 : Int32) (p1 : Int32) (p2 : Int32) (p3 : Int32) (res : Int32 × Int32 × Int32 × (Nat → Int32) × (Nat → Int32) × (Nat → Int32) × (Nat → Int32)) (hF : f_X0_add N p0 p1 p2 p3 bsz bgp ber bxs bus bys bme = some res) : MI l yX0_add wsX0_add rm_X0_add D ky sz [.ref aB, .int p0, .int p1, .int p2, .int p3] (w_book ky aB ax au ay am bsz bgp ber bxs bus bys bme) (w_book ky aB ax au ay am res.2.1 res.2.2.1 ber res.2.2.2.1 res.2.2.2.2.1 res.2.2.2.2.2.1 res.2.2.2.2.2.2) res.1 := by
  unfold MI
  refine Met.ofW (cc := cX0_add) (maxL := 6) (ret := (some .int)) (by decide) rfl ?_
  intro p e s m args below meth c s₁ B hml hv
  obtain ⟨rfl, hsz, hP, hK, hD0⟩ := hv
  have hx := B.exec
  have hb := B.bytes
  have hr := B.returns
  have hts := atoms_spec (ws := wsX0_add) B.pre
  have hown : s.vm.findClass RX0 = some m.cls := findClass_of_methodNamed B.named
  have hlocks := B.notSynchronized
  subst hsz
  have hD := hD0.self (sz := s.heap.size)
  generalize hAe : va_A (w_book ky aB ax au ay am bsz bgp ber bxs bus bys bme) s.heap.size = A at hD ⊢
  have hA : ∀ q : Nat, s.heap.size ≤ q → A q := fun q h => by rw [← hAe]; exact Or.inr h
  have hS : va_S A s.heap s.heap [] := va_S.rf
  have hP : va_P D vwCl (w_book ky aB ax au ay am bsz bgp ber bxs bus bys bme) s.heap := hP
  have hl := lv_entry ([.ref aB, .int p0, .int p1, .int p2, .int p3]) (n := 6) (Nat.le_of_ble_eq_true rfl)
  rw [lg_entry_eq]
  generalize (lg_sl ([.ref aB, .int p0, .int p1, .int p2, .int p3]) ++ List.replicate (6 - (lg_sl ([.ref aB, .int p0, .int p1, .int p2, .int p3])).length) Slot.unset).toArray = ls at hl ⊢
  have hl : lv_has ls 6 [(0, .ref aB), (1, .int p0), (2, .int p1), (3, .int p2), (4, .int p3)] := hl
  have C : cx p s m c ([.ref aB, .int p0, .int p1, .int p2, .int p3]).toArray D ky A cX0_add 6 wsX0_add RX0 := ⟨hx, hb, hml, hown, hts, hK, hA⟩
  have hQ : ∀ (pc : Nat) (H : Heap) (locs : List Loc) (ls : Array Slot), decode cX0_add pc = .ok (.ireturn, 1) → va_P D vwCl (w_book ky aB ax au ay am res.2.1 res.2.2.1 ber res.2.2.2.1 res.2.2.2.2.1 res.2.2.2.2.2.1 res.2.2.2.2.2.2) H → va_D A (w_book ky aB ax au ay am res.2.1 res.2.2.1 ber res.2.2.2.1 res.2.2.2.2.1 res.2.2.2.2.2.1 res.2.2.2.2.2.2) → va_S A s.heap H locs → W p l e rm_X0_add s m ([.ref aB, .int p0, .int p1, .int p2, .int p3]).toArray below meth c H locs 0 0 (MQ below (va_Qi (S := Unit) (fun r _ => r = res.1) (fun _ t => va_P D vwCl (w_book ky aB ax au ay am res.2.1 res.2.2.1 ber res.2.2.2.1 res.2.2.2.2.1 res.2.2.2.2.2.1 res.2.2.2.2.2.2) t.heap ∧ va_K D vwCl (tyW ky) t ∧ va_D A (w_book ky aB ax au ay am res.2.1 res.2.2.1 ber res.2.2.2.1 res.2.2.2.2.1 res.2.2.2.2.2.1 res.2.2.2.2.2.2)) A) ([.ref aB, .int p0, .int p1, .int p2, .int p3]).toArray s 0 0 A) (F0 m pc ls [.int res.1]) := fun pc H locs ls hd hP hD hS => W.iret hx hb hr (fun t ht hW => ⟨⟨res.1, (), rfl, rfl, by rw [ht]; exact hP, va_K.moved hW.alike hK, hD⟩, hS.F ht⟩) hS.2.2 hd
  unfold f_X0_add at hF
  refine lv_aload_n hx hb dX0_add_0 rfl (lv_at hl 0 rfl) ?_
  refine va_get (D := D) (ci := 0) (v := .int bsz) (C := RX0) (T := TX0) (N := 7) hx hb hts iX0_add_X0 hown hK hP 0 rfl rfl 4 (by decide) (hts _ kX0_add_1) (fun _ h9 => h9) rfl dX0_add_1 ?_
  refine lv_istore (lv' := [(5, .int bsz), (0, .ref aB), (1, .int p0), (2, .int p1), (3, .int p2), (4, .int p3)]) hx hb dX0_add_4 hl (by decide) rfl (fun ls hl => ?_)
  refine lv_iload hx hb dX0_add_6 (lv_at hl 0 rfl) ?_
  refine lv_if_lt (tgt := 18) hx hb dX0_add_8 (by decide) (fun c1 => ?_) (fun c1 => ?_)
  · have hF := if_t c1 hF
    refine lv_bipush (v := (-3 : Int32)) hx hb dX0_add_18 (by decide) ?_
    have hF := Option.some.inj hF
    subst hF
    exact hQ _ _ _ _ dX0_add_20 hP hD hS
  · have hF := if_f c1 hF
    refine lv_iload hx hb dX0_add_11 (lv_at hl 0 rfl) ?_
    refine lv_bipush (v := (12 : Int32)) hx hb dX0_add_13 (by decide) ?_
    refine lv_icmp_lt (tgt := 21) hx hb dX0_add_15 (by decide) (fun c2 => ?_) (fun c2 => ?_)
    · have hF := if_t c2 hF
      refine lv_aload_n hx hb dX0_add_21 rfl (lv_at hl 1 rfl) ?_
      refine va_get (D := D) (ci := 0) (v := .ref ax) (C := RX0) (T := TX0) (N := 7) hx hb hts iX0_add_X0 hown hK hP 0 rfl rfl 0 (by decide) (hts _ kX0_add_2) (fun _ h9 => h9) rfl dX0_add_22 ?_
      refine lv_iload hx hb dX0_add_25 (lv_at hl 0 rfl) ?_
      refine lv_iload_n hx hb dX0_add_27 rfl (lv_at hl 2 rfl) ?_
      obtain ⟨h3, hF⟩ := gi_s hF
      refine va_iast hx hb hK hP hD hS 1 0 rfl rfl h3 dX0_add_28 (fun H locs hP hD hS => ?_)
      have hP : va_P D vwCl (w_book ky aB ax au ay am bsz bgp ber (upd bxs bsz.toNatClampNeg p0) bus bys bme) H := hP
      have hD : va_D A (w_book ky aB ax au ay am bsz bgp ber (upd bxs bsz.toNatClampNeg p0) bus bys bme) := hD
      refine lv_aload_n hx hb dX0_add_29 rfl (lv_at hl 1 rfl) ?_
      refine va_get (D := D) (ci := 0) (v := .ref au) (C := RX0) (T := TX0) (N := 7) hx hb hts iX0_add_X0 hown hK hP 0 rfl rfl 1 (by decide) (hts _ kX0_add_3) (fun _ h9 => h9) rfl dX0_add_30 ?_
      refine lv_iload hx hb dX0_add_33 (lv_at hl 0 rfl) ?_
      refine lv_iload_n hx hb dX0_add_35 rfl (lv_at hl 3 rfl) ?_
      obtain ⟨h4, hF⟩ := gi_s hF
      refine va_iast hx hb hK hP hD hS 2 0 rfl rfl h4 dX0_add_36 (fun H locs hP hD hS => ?_)
      have hP : va_P D vwCl (w_book ky aB ax au ay am bsz bgp ber (upd bxs bsz.toNatClampNeg p0) (upd bus bsz.toNatClampNeg p1) bys bme) H := hP
      have hD : va_D A (w_book ky aB ax au ay am bsz bgp ber (upd bxs bsz.toNatClampNeg p0) (upd bus bsz.toNatClampNeg p1) bys bme) := hD
      refine lv_aload_n hx hb dX0_add_37 rfl (lv_at hl 1 rfl) ?_
      refine va_get (D := D) (ci := 0) (v := .ref ay) (C := RX0) (T := TX0) (N := 7) hx hb hts iX0_add_X0 hown hK hP 0 rfl rfl 2 (by decide) (hts _ kX0_add_4) (fun _ h9 => h9) rfl dX0_add_38 ?_
      refine lv_iload hx hb dX0_add_41 (lv_at hl 0 rfl) ?_
      refine lv_iload_n hx hb dX0_add_43 rfl (lv_at hl 4 rfl) ?_
      obtain ⟨h5, hF⟩ := gi_s hF
      refine va_iast hx hb hK hP hD hS 3 0 rfl rfl h5 dX0_add_44 (fun H locs hP hD hS => ?_)
      have hP : va_P D vwCl (w_book ky aB ax au ay am bsz bgp ber (upd bxs bsz.toNatClampNeg p0) (upd bus bsz.toNatClampNeg p1) (upd bys bsz.toNatClampNeg p2) bme) H := hP
      have hD : va_D A (w_book ky aB ax au ay am bsz bgp ber (upd bxs bsz.toNatClampNeg p0) (upd bus bsz.toNatClampNeg p1) (upd bys bsz.toNatClampNeg p2) bme) := hD
      refine lv_iload hx hb dX0_add_45 (lv_at hl 5 rfl) ?_
      refine lv_if_eq (tgt := 63) hx hb dX0_add_47 (by decide) (fun c6 => ?_) (fun c6 => ?_)
      · have hF := if_t c6 hF
        exact w_X0_add_63 N C res hQ bsz bsz bgp (upd bxs bsz.toNatClampNeg p0) (upd bus bsz.toNatClampNeg p1) (upd bys bsz.toNatClampNeg p2) bme hF _ _ _ hP hD hS (lv_sub hl [1, 0] rfl)
      · have hF := if_f c6 hF
        refine lv_aload_n hx hb dX0_add_50 rfl (lv_at hl 1 rfl) ?_
        refine lv_dup hx hb dX0_add_51 rfl ?_
        refine va_get (D := D) (ci := 0) (v := .int bgp) (C := RX0) (T := TX0) (N := 7) hx hb hts iX0_add_X0 hown hK hP 0 rfl rfl 5 (by decide) (hts _ kX0_add_5) (fun _ h9 => h9) rfl dX0_add_52 ?_
        refine lv_iconst (v := (1 : Int32)) hx hb dX0_add_55 (by decide) ?_
        refine lv_iload hx hb dX0_add_56 (lv_at hl 0 rfl) ?_
        refine lv_ishl hx hb dX0_add_58 ?_
        refine lv_ior hx hb dX0_add_59 ?_
        refine va_put (D := D) (ci := 0) (v := .int (bgp ||| ((1 : Int32) <<< (bsz &&& 31)))) (ty := .int) (C := RX0) (T := TX0) (N := 7) hx hb hts iX0_add_X0 tyX0 tyX0_ok nmX0 hown hK hP hD hS 0 rfl rfl 5 (by decide) (hts _ kX0_add_5) (fun _ h9 => h9) rfl (by decide +kernel) rfl rfl (Nat.le_of_ble_eq_true rfl) dX0_add_60 (fun H locs hP hD hS => ?_)
        have hP : va_P D vwCl (w_book ky aB ax au ay am bsz (bgp ||| ((1 : Int32) <<< (bsz &&& 31))) ber (upd bxs bsz.toNatClampNeg p0) (upd bus bsz.toNatClampNeg p1) (upd bys bsz.toNatClampNeg p2) bme) H := hP
        have hD : va_D A (w_book ky aB ax au ay am bsz (bgp ||| ((1 : Int32) <<< (bsz &&& 31))) ber (upd bxs bsz.toNatClampNeg p0) (upd bus bsz.toNatClampNeg p1) (upd bys bsz.toNatClampNeg p2) bme) := hD
        exact w_X0_add_63 N C res hQ bsz bsz (bgp ||| ((1 : Int32) <<< (bsz &&& 31))) (upd bxs bsz.toNatClampNeg p0) (upd bus bsz.toNatClampNeg p1) (upd bys bsz.toNatClampNeg p2) bme hF _ _ _ hP hD hS (lv_sub hl [1, 0] rfl)
    · have hF := if_f c2 hF
      refine lv_bipush (v := (-3 : Int32)) hx hb dX0_add_18 (by decide) ?_
      have hF := Option.some.inj hF
      subst hF
      exact hQ _ _ _ _ dX0_add_20 hP hD hS
theorem c_X0_add (l : Launch) (D : va_G) (ky : Nat → ClassId) (aB ax au ay am : Nat) (sz N : Nat)  (bsz : Int32) (bgp : Int32) (ber : Int32) (bxs : Nat → Int32) (bus : Nat → Int32) (bys : Nat → Int32) (bme : Nat → Int32) (p0 : Int32) (p1 : Int32) (p2 : Int32) (p3 : Int32) (rv : Int32) (bsz' : Int32) (bgp' : Int32) (bxs' : Nat → Int32) (bus' : Nat → Int32) (bys' : Nat → Int32) (bme' : Nat → Int32) (hF : f_X0_add N p0 p1 p2 p3 bsz bgp ber bxs bus bys bme = some (rv, bsz', bgp', bxs', bus', bys', bme')) : MI l yX0_add wsX0_add rm_X0_add D ky sz [.ref aB, .int p0, .int p1, .int p2, .int p3] (w_book ky aB ax au ay am bsz bgp ber bxs bus bys bme) (w_book ky aB ax au ay am bsz' bgp' ber bxs' bus' bys' bme') rv :=
  cr_X0_add l D ky aB ax au ay am sz N bsz bgp ber bxs bus bys bme p0 p1 p2 p3 (rv, bsz', bgp', bxs', bus', bys', bme') hF
abbrev rm_X0_empty : Room := { frames := 1, cells := 0, slots := 0, locals := 23 }
theorem iX0_empty_X0 : ∀ w ∈ wsX00, w ∈ wsX0_empty := by decide +kernel
theorem kX0_empty_1 : (Cond.fieldLink RX0 24 "TwoLaws$Book" "size" "I") ∈ wsX0_empty := by decide +kernel
theorem kX0_empty_2 : (Cond.fieldLink RX0 28 "TwoLaws$Book" "gaps" "I") ∈ wsX0_empty := by decide +kernel
theorem kX0_empty_3 : (Cond.fieldLink RX0 21 "TwoLaws$Book" "meeting" "[I") ∈ wsX0_empty := by decide +kernel
set_option maxHeartbeats 4000000 in
set_option maxRecDepth 100000 in
theorem cr_X0_empty (l : Launch) (D : va_G) (ky : Nat → ClassId) (aB ax au ay am : Nat) (sz N : Nat)  (bsz : Int32) (bgp : Int32) (ber : Int32) (bxs : Nat → Int32) (bus : Nat → Int32) (bys : Nat → Int32) (bme : Nat → Int32)  (res : Int32 × Int32 × Int32 × (Nat → Int32)) (hF : f_X0_empty N bsz bme = some res) : MI l yX0_empty wsX0_empty rm_X0_empty D ky sz [.ref aB] (w_book ky aB ax au ay am bsz bgp ber bxs bus bys bme) (w_book ky aB ax au ay am res.2.1 res.2.2.1 ber bxs bus bys res.2.2.2) res.1 := by
  unfold MI
  refine Met.ofW (cc := cX0_empty) (maxL := 2) (ret := (some .int)) (by decide) rfl ?_
  intro p e s m args below meth c s₁ B hml hv
  obtain ⟨rfl, hsz, hP, hK, hD0⟩ := hv
  have hx := B.exec
  have hb := B.bytes
  have hr := B.returns
  have hts := atoms_spec (ws := wsX0_empty) B.pre
  have hown : s.vm.findClass RX0 = some m.cls := findClass_of_methodNamed B.named
  have hlocks := B.notSynchronized
  subst hsz
  have hD := hD0.self (sz := s.heap.size)
  generalize hAe : va_A (w_book ky aB ax au ay am bsz bgp ber bxs bus bys bme) s.heap.size = A at hD ⊢
  have hA : ∀ q : Nat, s.heap.size ≤ q → A q := fun q h => by rw [← hAe]; exact Or.inr h
  have hS : va_S A s.heap s.heap [] := va_S.rf
  have hP : va_P D vwCl (w_book ky aB ax au ay am bsz bgp ber bxs bus bys bme) s.heap := hP
  have hl := lv_entry ([.ref aB]) (n := 2) (Nat.le_of_ble_eq_true rfl)
  rw [lg_entry_eq]
  generalize (lg_sl ([.ref aB]) ++ List.replicate (2 - (lg_sl ([.ref aB])).length) Slot.unset).toArray = ls at hl ⊢
  have hl : lv_has ls 2 [(0, .ref aB)] := hl
  have C : cx p s m c ([.ref aB]).toArray D ky A cX0_empty 2 wsX0_empty RX0 := ⟨hx, hb, hml, hown, hts, hK, hA⟩
  have hQ : ∀ (pc : Nat) (H : Heap) (locs : List Loc) (ls : Array Slot), decode cX0_empty pc = .ok (.ireturn, 1) → va_P D vwCl (w_book ky aB ax au ay am res.2.1 res.2.2.1 ber bxs bus bys res.2.2.2) H → va_D A (w_book ky aB ax au ay am res.2.1 res.2.2.1 ber bxs bus bys res.2.2.2) → va_S A s.heap H locs → W p l e rm_X0_empty s m ([.ref aB]).toArray below meth c H locs 0 0 (MQ below (va_Qi (S := Unit) (fun r _ => r = res.1) (fun _ t => va_P D vwCl (w_book ky aB ax au ay am res.2.1 res.2.2.1 ber bxs bus bys res.2.2.2) t.heap ∧ va_K D vwCl (tyW ky) t ∧ va_D A (w_book ky aB ax au ay am res.2.1 res.2.2.1 ber bxs bus bys res.2.2.2)) A) ([.ref aB]).toArray s 0 0 A) (F0 m pc ls [.int res.1]) := fun pc H locs ls hd hP hD hS => W.iret hx hb hr (fun t ht hW => ⟨⟨res.1, (), rfl, rfl, by rw [ht]; exact hP, va_K.moved hW.alike hK, hD⟩, hS.F ht⟩) hS.2.2 hd
  unfold f_X0_empty at hF
  refine lv_aload_n hx hb dX0_empty_0 rfl (lv_at hl 0 rfl) ?_
  refine va_get (D := D) (ci := 0) (v := .int bsz) (C := RX0) (T := TX0) (N := 7) hx hb hts iX0_empty_X0 hown hK hP 0 rfl rfl 4 (by decide) (hts _ kX0_empty_1) (fun _ h9 => h9) rfl dX0_empty_1 ?_
  refine lv_istore_n (lv' := [(1, .int bsz), (0, .ref aB)]) hx hb dX0_empty_4 rfl hl (by decide) rfl (fun ls hl => ?_)
  refine lv_aload_n hx hb dX0_empty_5 rfl (lv_at hl 1 rfl) ?_
  refine lv_iconst (v := (0 : Int32)) hx hb dX0_empty_6 (by decide) ?_
  refine va_put (D := D) (ci := 0) (v := .int (0 : Int32)) (ty := .int) (C := RX0) (T := TX0) (N := 7) hx hb hts iX0_empty_X0 tyX0 tyX0_ok nmX0 hown hK hP hD hS 0 rfl rfl 4 (by decide) (hts _ kX0_empty_1) (fun _ h9 => h9) rfl (by decide +kernel) rfl rfl (Nat.le_of_ble_eq_true rfl) dX0_empty_7 (fun H locs hP hD hS => ?_)
  have hP : va_P D vwCl (w_book ky aB ax au ay am (0 : Int32) bgp ber bxs bus bys bme) H := hP
  have hD : va_D A (w_book ky aB ax au ay am (0 : Int32) bgp ber bxs bus bys bme) := hD
  refine lv_aload_n hx hb dX0_empty_10 rfl (lv_at hl 1 rfl) ?_
  refine lv_iconst (v := (0 : Int32)) hx hb dX0_empty_11 (by decide) ?_
  refine va_put (D := D) (ci := 0) (v := .int (0 : Int32)) (ty := .int) (C := RX0) (T := TX0) (N := 7) hx hb hts iX0_empty_X0 tyX0 tyX0_ok nmX0 hown hK hP hD hS 0 rfl rfl 5 (by decide) (hts _ kX0_empty_2) (fun _ h9 => h9) rfl (by decide +kernel) rfl rfl (Nat.le_of_ble_eq_true rfl) dX0_empty_12 (fun H locs hP hD hS => ?_)
  have hP : va_P D vwCl (w_book ky aB ax au ay am (0 : Int32) (0 : Int32) ber bxs bus bys bme) H := hP
  have hD : va_D A (w_book ky aB ax au ay am (0 : Int32) (0 : Int32) ber bxs bus bys bme) := hD
  refine lv_aload_n hx hb dX0_empty_15 rfl (lv_at hl 1 rfl) ?_
  refine va_get (D := D) (ci := 0) (v := .ref am) (C := RX0) (T := TX0) (N := 7) hx hb hts iX0_empty_X0 hown hK hP 0 rfl rfl 3 (by decide) (hts _ kX0_empty_3) (fun _ h9 => h9) rfl dX0_empty_16 ?_
  refine lv_iconst (v := (0 : Int32)) hx hb dX0_empty_19 (by decide) ?_
  obtain ⟨v2, h1, hF⟩ := b1_s hF
  refine cl_sv (As := [.ref am, .int (0 : Int32)]) (rest := []) (w' := (w_book ky aB ax au ay am (0 : Int32) (0 : Int32) ber bxs bus bys v2)) ⟨hx, hb, hml, hown, hts⟩ hK hP hD hS hA (c_J7_fill_53178 l D ky am _ N 289 bme (0 : Int32) v2 h1) (va_cwS 2 hts gX0_empty_J7_fill_53178 rfl rfl rfl (by decide +kernel) ⟨Nat.le_of_ble_eq_true rfl, Nat.le_of_ble_eq_true rfl⟩) [4] [0, 1, 2, 3] [0, 1, 2, 3, 4] rfl (wr := [(aB, .inr (0, [.ref ax, .ref au, .ref ay, .ref am, .int (0 : Int32), .int (0 : Int32), .int ber])), (ax, .inl (ky 0, 12, .inl bxs)), (au, .inl (ky 0, 12, .inl bus)), (ay, .inl (ky 0, 12, .inl bys))]) rfl (by decide) rfl rfl hl.1 (Nat.le_of_ble_eq_true rfl) dX0_empty_20 ⟨Nat.zero_le _, Nat.zero_le _⟩ (fun H locs hP hD hS => ?_)
  refine lv_iload_n hx hb dX0_empty_23 rfl (lv_at hl 0 rfl) ?_
  have hF := Option.some.inj hF
  subst hF
  exact hQ _ _ _ _ dX0_empty_24 hP hD hS
theorem c_X0_empty (l : Launch) (D : va_G) (ky : Nat → ClassId) (aB ax au ay am : Nat) (sz N : Nat)  (bsz : Int32) (bgp : Int32) (ber : Int32) (bxs : Nat → Int32) (bus : Nat → Int32) (bys : Nat → Int32) (bme : Nat → Int32)  (rv : Int32) (bsz' : Int32) (bgp' : Int32) (bme' : Nat → Int32) (hF : f_X0_empty N bsz bme = some (rv, bsz', bgp', bme')) : MI l yX0_empty wsX0_empty rm_X0_empty D ky sz [.ref aB] (w_book ky aB ax au ay am bsz bgp ber bxs bus bys bme) (w_book ky aB ax au ay am bsz' bgp' ber bxs bus bys bme') rv :=
  cr_X0_empty l D ky aB ax au ay am sz N bsz bgp ber bxs bus bys bme (rv, bsz', bgp', bme') hF
abbrev rm_X0_takeError : Room := { frames := 3, cells := 0, slots := 0, locals := 65 }
theorem iX0_takeError_X0 : ∀ w ∈ wsX00, w ∈ wsX0_takeError := by decide +kernel
theorem kX0_takeError_1 : (Cond.fieldLink RX0 31 "TwoLaws$Book" "error" "I") ∈ wsX0_takeError := by decide +kernel
theorem kX0_takeError_2 : (Cond.fieldLink RX0 21 "TwoLaws$Book" "meeting" "[I") ∈ wsX0_takeError := by decide +kernel
theorem kX0_takeError_3 : (Cond.fieldLink RX0 24 "TwoLaws$Book" "size" "I") ∈ wsX0_takeError := by decide +kernel
set_option maxHeartbeats 4000000 in
set_option maxRecDepth 100000 in
theorem w_X0_takeError_15 {p : Program} {l : Launch} {e : Env} {s : State} {m : MethodId} {args : Array Value} {below : List Frame} {meth : Method} {c : Code} {Q : State → Prop} {A : Nat → Prop} {D : va_G} {ky : Nat → ClassId} {aB ax au ay am : Nat} {bsz : Int32} {bgp : Int32} {bxs : Nat → Int32} {bus : Nat → Int32} {bys : Nat → Int32} (N : Nat) (C : cx p s m c args D ky A cX0_takeError 3 wsX0_takeError RX0) (res : Int32 × (Nat → Int32)) (hQ : ∀ (pc : Nat) (H : Heap) (locs : List Loc) (ls : Array Slot), decode cX0_takeError pc = .ok (.return_, 1) → va_P D vwCl (w_book ky aB ax au ay am bsz bgp res.1 bxs bus bys res.2) H → va_D A (w_book ky aB ax au ay am bsz bgp res.1 bxs bus bys res.2) → va_S A s.heap H locs → W p l e rm_X0_takeError s m args below meth c H locs 0 0 Q (F0 m pc ls [])) (ber : Int32) : ∀ (n : Nat) (l2 : Int32) (bme : Nat → Int32), f_X0_takeError_15 N bsz bgp ber bxs bus bys n l2 bme = some res → ∀ (H : Heap) (locs : List Loc) (ls : Array Slot), va_P D vwCl (w_book ky aB ax au ay am bsz bgp ber bxs bus bys bme) H → va_D A (w_book ky aB ax au ay am bsz bgp ber bxs bus bys bme) → va_S A s.heap H locs → lv_has ls 3 [(0, .ref aB), (2, .int l2)] → W p l e rm_X0_takeError s m args below meth c H locs 0 0 Q (F0 m 15 ls []) := by
  obtain ⟨hx, hb, hml, hown, hts, hK, hA⟩ := id C
  intro n
  induction n with
  | zero =>
    intro l2 bme hF
    cases hF
  | succ n ih =>
    intro l2 bme hF H locs ls hP hD hS hl
    have hF : b_X0_takeError_15 N bsz bgp ber bxs bus bys (f_X0_takeError_15 N bsz bgp ber bxs bus bys n) l2 bme = some res := hF
    unfold b_X0_takeError_15 at hF
    refine lv_iload_n hx hb dX0_takeError_15 rfl (lv_at hl 1 rfl) ?_
    refine lv_aload_n hx hb dX0_takeError_16 rfl (lv_at hl 0 rfl) ?_
    refine va_get (D := D) (ci := 0) (v := .int bsz) (C := RX0) (T := TX0) (N := 7) hx hb hts iX0_takeError_X0 hown hK hP 0 rfl rfl 4 (by decide) (hts _ kX0_takeError_3) (fun _ h9 => h9) rfl dX0_takeError_17 ?_
    refine lv_icmp_ge (tgt := 34) hx hb dX0_takeError_20 (by decide) (fun c3 => ?_) (fun c3 => ?_)
    · have hF := if_t c3 hF
      have hF := Option.some.inj hF
      subst hF
      exact hQ _ H _ _ dX0_takeError_34 hP hD hS
    · have hF := if_f c3 hF
      refine lv_aload_n hx hb dX0_takeError_23 rfl (lv_at hl 0 rfl) ?_
      refine lv_iload_n hx hb dX0_takeError_24 rfl (lv_at hl 1 rfl) ?_
      obtain ⟨v5, h4, hF⟩ := b1_s hF
      refine cl_vv (As := [.int l2]) (rest := []) (w' := (w_book ky aB ax au ay am bsz bgp ber bxs bus bys v5)) ⟨hx, hb, hml, hown, hts⟩ hK hP hD hS hA (c_X0_enter l D ky aB ax au ay am _ N  bsz bgp ber bxs bus bys bme l2 v5 h4) (cwV 1 hts gX0_takeError_X0_enter rfl rfl rfl (by decide +kernel) ⟨Nat.le_of_ble_eq_true rfl, Nat.le_of_ble_eq_true rfl⟩) [0, 1, 2, 3, 4] [] [0, 1, 2, 3, 4] 0 0 rfl rfl rfl rfl (wr := []) rfl (by decide) rfl rfl hl.1 (Nat.le_of_ble_eq_true rfl) dX0_takeError_25 ⟨Nat.zero_le _, Nat.zero_le _⟩ (fun H locs hP hD hS => ?_)
      refine lv_iinc (v := (l2 + (1 : Int32))) (lv' := [(2, .int (l2 + (1 : Int32))), (0, .ref aB)]) hx hb dX0_takeError_28 hl (k := 1) rfl rfl (by decide) rfl (fun ls hl => ?_)
      refine lv_goto (tgt := 15) hx hb dX0_takeError_31 (by decide) ?_
      exact ih (l2 + (1 : Int32)) v5 hF H _ _ hP hD hS (lv_sub hl [1, 0] rfl)
set_option maxHeartbeats 4000000 in
set_option maxRecDepth 100000 in
theorem cr_X0_takeError (l : Launch) (D : va_G) (ky : Nat → ClassId) (aB ax au ay am : Nat) (sz N : Nat)  (bsz : Int32) (bgp : Int32) (ber : Int32) (bxs : Nat → Int32) (bus : Nat → Int32) (bys : Nat → Int32) (bme : Nat → Int32) (p0 : Int32) (res : Int32 × (Nat → Int32)) (hF : f_X0_takeError N p0 bsz bgp bxs bus bys bme = some res) : MV l yX0_takeError wsX0_takeError rm_X0_takeError D ky sz [.ref aB, .int p0] (w_book ky aB ax au ay am bsz bgp ber bxs bus bys bme) (w_book ky aB ax au ay am bsz bgp res.1 bxs bus bys res.2) := by
  unfold MV
  refine Met.ofW (cc := cX0_takeError) (maxL := 3) (ret := none) (by decide) rfl ?_
  intro p e s m args below meth c s₁ B hml hv
  obtain ⟨rfl, hsz, hP, hK, hD0⟩ := hv
  have hx := B.exec
  have hb := B.bytes
  have hr := B.returns
  have hts := atoms_spec (ws := wsX0_takeError) B.pre
  have hown : s.vm.findClass RX0 = some m.cls := findClass_of_methodNamed B.named
  have hlocks := B.notSynchronized
  subst hsz
  have hD := hD0.self (sz := s.heap.size)
  generalize hAe : va_A (w_book ky aB ax au ay am bsz bgp ber bxs bus bys bme) s.heap.size = A at hD ⊢
  have hA : ∀ q : Nat, s.heap.size ≤ q → A q := fun q h => by rw [← hAe]; exact Or.inr h
  have hS : va_S A s.heap s.heap [] := va_S.rf
  have hP : va_P D vwCl (w_book ky aB ax au ay am bsz bgp ber bxs bus bys bme) s.heap := hP
  have hl := lv_entry ([.ref aB, .int p0]) (n := 3) (Nat.le_of_ble_eq_true rfl)
  rw [lg_entry_eq]
  generalize (lg_sl ([.ref aB, .int p0]) ++ List.replicate (3 - (lg_sl ([.ref aB, .int p0])).length) Slot.unset).toArray = ls at hl ⊢
  have hl : lv_has ls 3 [(0, .ref aB), (1, .int p0)] := hl
  have C : cx p s m c ([.ref aB, .int p0]).toArray D ky A cX0_takeError 3 wsX0_takeError RX0 := ⟨hx, hb, hml, hown, hts, hK, hA⟩
  have hQ : ∀ (pc : Nat) (H : Heap) (locs : List Loc) (ls : Array Slot), decode cX0_takeError pc = .ok (.return_, 1) → va_P D vwCl (w_book ky aB ax au ay am bsz bgp res.1 bxs bus bys res.2) H → va_D A (w_book ky aB ax au ay am bsz bgp res.1 bxs bus bys res.2) → va_S A s.heap H locs → W p l e rm_X0_takeError s m ([.ref aB, .int p0]).toArray below meth c H locs 0 0 (MQ below (va_Qv (S := Unit) (fun _ => True) (fun _ t => va_P D vwCl (w_book ky aB ax au ay am bsz bgp res.1 bxs bus bys res.2) t.heap ∧ va_K D vwCl (tyW ky) t ∧ va_D A (w_book ky aB ax au ay am bsz bgp res.1 bxs bus bys res.2)) A) ([.ref aB, .int p0]).toArray s 0 0 A) (F0 m pc ls []) := fun pc H locs ls hd hP hD hS => W.vret hx hb hr (fun t ht hW => ⟨⟨(), rfl, trivial, by rw [ht]; exact hP, va_K.moved hW.alike hK, hD⟩, hS.F ht⟩) hS.2.2 hd
  unfold f_X0_takeError at hF
  refine lv_aload_n hx hb dX0_takeError_0 rfl (lv_at hl 0 rfl) ?_
  refine lv_iload_n hx hb dX0_takeError_1 rfl (lv_at hl 1 rfl) ?_
  refine va_put (D := D) (ci := 0) (v := .int p0) (ty := .int) (C := RX0) (T := TX0) (N := 7) hx hb hts iX0_takeError_X0 tyX0 tyX0_ok nmX0 hown hK hP hD hS 0 rfl rfl 6 (by decide) (hts _ kX0_takeError_1) (fun _ h9 => h9) rfl (by decide +kernel) rfl rfl (Nat.le_of_ble_eq_true rfl) dX0_takeError_2 (fun H locs hP hD hS => ?_)
  have hP : va_P D vwCl (w_book ky aB ax au ay am bsz bgp p0 bxs bus bys bme) H := hP
  have hD : va_D A (w_book ky aB ax au ay am bsz bgp p0 bxs bus bys bme) := hD
  refine lv_aload_n hx hb dX0_takeError_5 rfl (lv_at hl 0 rfl) ?_
  refine va_get (D := D) (ci := 0) (v := .ref am) (C := RX0) (T := TX0) (N := 7) hx hb hts iX0_takeError_X0 hown hK hP 0 rfl rfl 3 (by decide) (hts _ kX0_takeError_2) (fun _ h9 => h9) rfl dX0_takeError_6 ?_
  refine lv_iconst (v := (0 : Int32)) hx hb dX0_takeError_9 (by decide) ?_
  obtain ⟨v2, h1, hF⟩ := b1_s hF
  refine cl_sv (As := [.ref am, .int (0 : Int32)]) (rest := []) (w' := (w_book ky aB ax au ay am bsz bgp p0 bxs bus bys v2)) ⟨hx, hb, hml, hown, hts⟩ hK hP hD hS hA (c_J7_fill_53178 l D ky am _ N 289 bme (0 : Int32) v2 h1) (va_cwS 2 hts gX0_takeError_J7_fill_53178 rfl rfl rfl (by decide +kernel) ⟨Nat.le_of_ble_eq_true rfl, Nat.le_of_ble_eq_true rfl⟩) [4] [0, 1, 2, 3] [0, 1, 2, 3, 4] rfl (wr := [(aB, .inr (0, [.ref ax, .ref au, .ref ay, .ref am, .int bsz, .int bgp, .int p0])), (ax, .inl (ky 0, 12, .inl bxs)), (au, .inl (ky 0, 12, .inl bus)), (ay, .inl (ky 0, 12, .inl bys))]) rfl (by decide) rfl rfl hl.1 (Nat.le_of_ble_eq_true rfl) dX0_takeError_10 ⟨Nat.zero_le _, Nat.zero_le _⟩ (fun H locs hP hD hS => ?_)
  refine lv_iconst (v := (0 : Int32)) hx hb dX0_takeError_13 (by decide) ?_
  refine lv_istore_n (lv' := [(2, .int (0 : Int32)), (0, .ref aB), (1, .int p0)]) hx hb dX0_takeError_14 rfl hl (by decide) rfl (fun ls hl => ?_)
  exact w_X0_takeError_15 N C res hQ p0 N (0 : Int32) v2 hF _ _ _ hP hD hS (lv_sub hl [1, 0] rfl)
theorem c_X0_takeError (l : Launch) (D : va_G) (ky : Nat → ClassId) (aB ax au ay am : Nat) (sz N : Nat)  (bsz : Int32) (bgp : Int32) (ber : Int32) (bxs : Nat → Int32) (bus : Nat → Int32) (bys : Nat → Int32) (bme : Nat → Int32) (p0 : Int32) (ber' : Int32) (bme' : Nat → Int32) (hF : f_X0_takeError N p0 bsz bgp bxs bus bys bme = some (ber', bme')) : MV l yX0_takeError wsX0_takeError rm_X0_takeError D ky sz [.ref aB, .int p0] (w_book ky aB ax au ay am bsz bgp ber bxs bus bys bme) (w_book ky aB ax au ay am bsz bgp ber' bxs bus bys bme') :=
  cr_X0_takeError l D ky aB ax au ay am sz N bsz bgp ber bxs bus bys bme p0 (ber', bme') hF
abbrev rm_X0_size : Room := { frames := 0, cells := 0, slots := 0, locals := 0 }
theorem iX0_size_X0 : ∀ w ∈ wsX00, w ∈ wsX0_size := by decide +kernel
theorem kX0_size_1 : (Cond.fieldLink RX0 24 "TwoLaws$Book" "size" "I") ∈ wsX0_size := by decide +kernel
set_option maxHeartbeats 4000000 in
set_option maxRecDepth 100000 in
theorem cr_X0_size (l : Launch) (D : va_G) (ky : Nat → ClassId) (aB ax au ay am : Nat) (sz N : Nat)  (bsz : Int32) (bgp : Int32) (ber : Int32) (bxs : Nat → Int32) (bus : Nat → Int32) (bys : Nat → Int32) (bme : Nat → Int32)  (res : Int32) (hF : f_X0_size N bsz = some res) : MI l yX0_size wsX0_size rm_X0_size D ky sz [.ref aB] (w_book ky aB ax au ay am bsz bgp ber bxs bus bys bme) (w_book ky aB ax au ay am bsz bgp ber bxs bus bys bme) res := by
  unfold MI
  refine Met.ofW (cc := cX0_size) (maxL := 1) (ret := (some .int)) (by decide) rfl ?_
  intro p e s m args below meth c s₁ B hml hv
  obtain ⟨rfl, hsz, hP, hK, hD0⟩ := hv
  have hx := B.exec
  have hb := B.bytes
  have hr := B.returns
  have hts := atoms_spec (ws := wsX0_size) B.pre
  have hown : s.vm.findClass RX0 = some m.cls := findClass_of_methodNamed B.named
  have hlocks := B.notSynchronized
  subst hsz
  have hD := hD0.self (sz := s.heap.size)
  generalize hAe : va_A (w_book ky aB ax au ay am bsz bgp ber bxs bus bys bme) s.heap.size = A at hD ⊢
  have hA : ∀ q : Nat, s.heap.size ≤ q → A q := fun q h => by rw [← hAe]; exact Or.inr h
  have hS : va_S A s.heap s.heap [] := va_S.rf
  have hP : va_P D vwCl (w_book ky aB ax au ay am bsz bgp ber bxs bus bys bme) s.heap := hP
  have hl := lv_entry ([.ref aB]) (n := 1) (Nat.le_of_ble_eq_true rfl)
  rw [lg_entry_eq]
  generalize (lg_sl ([.ref aB]) ++ List.replicate (1 - (lg_sl ([.ref aB])).length) Slot.unset).toArray = ls at hl ⊢
  have hl : lv_has ls 1 [(0, .ref aB)] := hl
  have C : cx p s m c ([.ref aB]).toArray D ky A cX0_size 1 wsX0_size RX0 := ⟨hx, hb, hml, hown, hts, hK, hA⟩
  have hQ : ∀ (pc : Nat) (H : Heap) (locs : List Loc) (ls : Array Slot), decode cX0_size pc = .ok (.ireturn, 1) → va_P D vwCl (w_book ky aB ax au ay am bsz bgp ber bxs bus bys bme) H → va_D A (w_book ky aB ax au ay am bsz bgp ber bxs bus bys bme) → va_S A s.heap H locs → W p l e rm_X0_size s m ([.ref aB]).toArray below meth c H locs 0 0 (MQ below (va_Qi (S := Unit) (fun r _ => r = res) (fun _ t => va_P D vwCl (w_book ky aB ax au ay am bsz bgp ber bxs bus bys bme) t.heap ∧ va_K D vwCl (tyW ky) t ∧ va_D A (w_book ky aB ax au ay am bsz bgp ber bxs bus bys bme)) A) ([.ref aB]).toArray s 0 0 A) (F0 m pc ls [.int res]) := fun pc H locs ls hd hP hD hS => W.iret hx hb hr (fun t ht hW => ⟨⟨res, (), rfl, rfl, by rw [ht]; exact hP, va_K.moved hW.alike hK, hD⟩, hS.F ht⟩) hS.2.2 hd
  unfold f_X0_size at hF
  refine lv_aload_n hx hb dX0_size_0 rfl (lv_at hl 0 rfl) ?_
  refine va_get (D := D) (ci := 0) (v := .int bsz) (C := RX0) (T := TX0) (N := 7) hx hb hts iX0_size_X0 hown hK hP 0 rfl rfl 4 (by decide) (hts _ kX0_size_1) (fun _ h9 => h9) rfl dX0_size_1 ?_
  have hF := Option.some.inj hF
  subst hF
  exact hQ _ _ _ _ dX0_size_4 hP hD hS
theorem c_X0_size (l : Launch) (D : va_G) (ky : Nat → ClassId) (aB ax au ay am : Nat) (sz N : Nat)  (bsz : Int32) (bgp : Int32) (ber : Int32) (bxs : Nat → Int32) (bus : Nat → Int32) (bys : Nat → Int32) (bme : Nat → Int32)  (rv : Int32) (hF : f_X0_size N bsz = some (rv)) : MI l yX0_size wsX0_size rm_X0_size D ky sz [.ref aB] (w_book ky aB ax au ay am bsz bgp ber bxs bus bys bme) (w_book ky aB ax au ay am bsz bgp ber bxs bus bys bme) rv :=
  cr_X0_size l D ky aB ax au ay am sz N bsz bgp ber bxs bus bys bme (rv) hF
abbrev rm_X0_room : Room := { frames := 0, cells := 0, slots := 0, locals := 0 }
theorem iX0_room_X0 : ∀ w ∈ wsX00, w ∈ wsX0_room := by decide +kernel
theorem kX0_room_1 : (Cond.fieldLink RX0 24 "TwoLaws$Book" "size" "I") ∈ wsX0_room := by decide +kernel
set_option maxHeartbeats 4000000 in
set_option maxRecDepth 100000 in
theorem cr_X0_room (l : Launch) (D : va_G) (ky : Nat → ClassId) (aB ax au ay am : Nat) (sz N : Nat)  (bsz : Int32) (bgp : Int32) (ber : Int32) (bxs : Nat → Int32) (bus : Nat → Int32) (bys : Nat → Int32) (bme : Nat → Int32)  (res : Int32) (hF : f_X0_room N bsz = some res) : MI l yX0_room wsX0_room rm_X0_room D ky sz [.ref aB] (w_book ky aB ax au ay am bsz bgp ber bxs bus bys bme) (w_book ky aB ax au ay am bsz bgp ber bxs bus bys bme) res := by
  unfold MI
  refine Met.ofW (cc := cX0_room) (maxL := 1) (ret := (some .int)) (by decide) rfl ?_
  intro p e s m args below meth c s₁ B hml hv
  obtain ⟨rfl, hsz, hP, hK, hD0⟩ := hv
  have hx := B.exec
  have hb := B.bytes
  have hr := B.returns
  have hts := atoms_spec (ws := wsX0_room) B.pre
  have hown : s.vm.findClass RX0 = some m.cls := findClass_of_methodNamed B.named
  have hlocks := B.notSynchronized
  subst hsz
  have hD := hD0.self (sz := s.heap.size)
  generalize hAe : va_A (w_book ky aB ax au ay am bsz bgp ber bxs bus bys bme) s.heap.size = A at hD ⊢
  have hA : ∀ q : Nat, s.heap.size ≤ q → A q := fun q h => by rw [← hAe]; exact Or.inr h
  have hS : va_S A s.heap s.heap [] := va_S.rf
  have hP : va_P D vwCl (w_book ky aB ax au ay am bsz bgp ber bxs bus bys bme) s.heap := hP
  have hl := lv_entry ([.ref aB]) (n := 1) (Nat.le_of_ble_eq_true rfl)
  rw [lg_entry_eq]
  generalize (lg_sl ([.ref aB]) ++ List.replicate (1 - (lg_sl ([.ref aB])).length) Slot.unset).toArray = ls at hl ⊢
  have hl : lv_has ls 1 [(0, .ref aB)] := hl
  have C : cx p s m c ([.ref aB]).toArray D ky A cX0_room 1 wsX0_room RX0 := ⟨hx, hb, hml, hown, hts, hK, hA⟩
  have hQ : ∀ (pc : Nat) (H : Heap) (locs : List Loc) (ls : Array Slot), decode cX0_room pc = .ok (.ireturn, 1) → va_P D vwCl (w_book ky aB ax au ay am bsz bgp ber bxs bus bys bme) H → va_D A (w_book ky aB ax au ay am bsz bgp ber bxs bus bys bme) → va_S A s.heap H locs → W p l e rm_X0_room s m ([.ref aB]).toArray below meth c H locs 0 0 (MQ below (va_Qi (S := Unit) (fun r _ => r = res) (fun _ t => va_P D vwCl (w_book ky aB ax au ay am bsz bgp ber bxs bus bys bme) t.heap ∧ va_K D vwCl (tyW ky) t ∧ va_D A (w_book ky aB ax au ay am bsz bgp ber bxs bus bys bme)) A) ([.ref aB]).toArray s 0 0 A) (F0 m pc ls [.int res]) := fun pc H locs ls hd hP hD hS => W.iret hx hb hr (fun t ht hW => ⟨⟨res, (), rfl, rfl, by rw [ht]; exact hP, va_K.moved hW.alike hK, hD⟩, hS.F ht⟩) hS.2.2 hd
  unfold f_X0_room at hF
  refine lv_bipush (v := (12 : Int32)) hx hb dX0_room_0 (by decide) ?_
  refine lv_aload_n hx hb dX0_room_2 rfl (lv_at hl 0 rfl) ?_
  refine va_get (D := D) (ci := 0) (v := .int bsz) (C := RX0) (T := TX0) (N := 7) hx hb hts iX0_room_X0 hown hK hP 0 rfl rfl 4 (by decide) (hts _ kX0_room_1) (fun _ h9 => h9) rfl dX0_room_3 ?_
  refine lv_isub hx hb dX0_room_6 ?_
  have hF := Option.some.inj hF
  subst hF
  exact hQ _ _ _ _ dX0_room_7 hP hD hS
theorem c_X0_room (l : Launch) (D : va_G) (ky : Nat → ClassId) (aB ax au ay am : Nat) (sz N : Nat)  (bsz : Int32) (bgp : Int32) (ber : Int32) (bxs : Nat → Int32) (bus : Nat → Int32) (bys : Nat → Int32) (bme : Nat → Int32)  (rv : Int32) (hF : f_X0_room N bsz = some (rv)) : MI l yX0_room wsX0_room rm_X0_room D ky sz [.ref aB] (w_book ky aB ax au ay am bsz bgp ber bxs bus bys bme) (w_book ky aB ax au ay am bsz bgp ber bxs bus bys bme) rv :=
  cr_X0_room l D ky aB ax au ay am sz N bsz bgp ber bxs bus bys bme (rv) hF
abbrev rm_X0_errorNow : Room := { frames := 0, cells := 0, slots := 0, locals := 0 }
theorem iX0_errorNow_X0 : ∀ w ∈ wsX00, w ∈ wsX0_errorNow := by decide +kernel
theorem kX0_errorNow_1 : (Cond.fieldLink RX0 31 "TwoLaws$Book" "error" "I") ∈ wsX0_errorNow := by decide +kernel
set_option maxHeartbeats 4000000 in
set_option maxRecDepth 100000 in
theorem cr_X0_errorNow (l : Launch) (D : va_G) (ky : Nat → ClassId) (aB ax au ay am : Nat) (sz N : Nat)  (bsz : Int32) (bgp : Int32) (ber : Int32) (bxs : Nat → Int32) (bus : Nat → Int32) (bys : Nat → Int32) (bme : Nat → Int32)  (res : Int32) (hF : f_X0_errorNow N ber = some res) : MI l yX0_errorNow wsX0_errorNow rm_X0_errorNow D ky sz [.ref aB] (w_book ky aB ax au ay am bsz bgp ber bxs bus bys bme) (w_book ky aB ax au ay am bsz bgp ber bxs bus bys bme) res := by
  unfold MI
  refine Met.ofW (cc := cX0_errorNow) (maxL := 1) (ret := (some .int)) (by decide) rfl ?_
  intro p e s m args below meth c s₁ B hml hv
  obtain ⟨rfl, hsz, hP, hK, hD0⟩ := hv
  have hx := B.exec
  have hb := B.bytes
  have hr := B.returns
  have hts := atoms_spec (ws := wsX0_errorNow) B.pre
  have hown : s.vm.findClass RX0 = some m.cls := findClass_of_methodNamed B.named
  have hlocks := B.notSynchronized
  subst hsz
  have hD := hD0.self (sz := s.heap.size)
  generalize hAe : va_A (w_book ky aB ax au ay am bsz bgp ber bxs bus bys bme) s.heap.size = A at hD ⊢
  have hA : ∀ q : Nat, s.heap.size ≤ q → A q := fun q h => by rw [← hAe]; exact Or.inr h
  have hS : va_S A s.heap s.heap [] := va_S.rf
  have hP : va_P D vwCl (w_book ky aB ax au ay am bsz bgp ber bxs bus bys bme) s.heap := hP
  have hl := lv_entry ([.ref aB]) (n := 1) (Nat.le_of_ble_eq_true rfl)
  rw [lg_entry_eq]
  generalize (lg_sl ([.ref aB]) ++ List.replicate (1 - (lg_sl ([.ref aB])).length) Slot.unset).toArray = ls at hl ⊢
  have hl : lv_has ls 1 [(0, .ref aB)] := hl
  have C : cx p s m c ([.ref aB]).toArray D ky A cX0_errorNow 1 wsX0_errorNow RX0 := ⟨hx, hb, hml, hown, hts, hK, hA⟩
  have hQ : ∀ (pc : Nat) (H : Heap) (locs : List Loc) (ls : Array Slot), decode cX0_errorNow pc = .ok (.ireturn, 1) → va_P D vwCl (w_book ky aB ax au ay am bsz bgp ber bxs bus bys bme) H → va_D A (w_book ky aB ax au ay am bsz bgp ber bxs bus bys bme) → va_S A s.heap H locs → W p l e rm_X0_errorNow s m ([.ref aB]).toArray below meth c H locs 0 0 (MQ below (va_Qi (S := Unit) (fun r _ => r = res) (fun _ t => va_P D vwCl (w_book ky aB ax au ay am bsz bgp ber bxs bus bys bme) t.heap ∧ va_K D vwCl (tyW ky) t ∧ va_D A (w_book ky aB ax au ay am bsz bgp ber bxs bus bys bme)) A) ([.ref aB]).toArray s 0 0 A) (F0 m pc ls [.int res]) := fun pc H locs ls hd hP hD hS => W.iret hx hb hr (fun t ht hW => ⟨⟨res, (), rfl, rfl, by rw [ht]; exact hP, va_K.moved hW.alike hK, hD⟩, hS.F ht⟩) hS.2.2 hd
  unfold f_X0_errorNow at hF
  refine lv_aload_n hx hb dX0_errorNow_0 rfl (lv_at hl 0 rfl) ?_
  refine va_get (D := D) (ci := 0) (v := .int ber) (C := RX0) (T := TX0) (N := 7) hx hb hts iX0_errorNow_X0 hown hK hP 0 rfl rfl 6 (by decide) (hts _ kX0_errorNow_1) (fun _ h9 => h9) rfl dX0_errorNow_1 ?_
  have hF := Option.some.inj hF
  subst hF
  exact hQ _ _ _ _ dX0_errorNow_4 hP hD hS
theorem c_X0_errorNow (l : Launch) (D : va_G) (ky : Nat → ClassId) (aB ax au ay am : Nat) (sz N : Nat)  (bsz : Int32) (bgp : Int32) (ber : Int32) (bxs : Nat → Int32) (bus : Nat → Int32) (bys : Nat → Int32) (bme : Nat → Int32)  (rv : Int32) (hF : f_X0_errorNow N ber = some (rv)) : MI l yX0_errorNow wsX0_errorNow rm_X0_errorNow D ky sz [.ref aB] (w_book ky aB ax au ay am bsz bgp ber bxs bus bys bme) (w_book ky aB ax au ay am bsz bgp ber bxs bus bys bme) rv :=
  cr_X0_errorNow l D ky aB ax au ay am sz N bsz bgp ber bxs bus bys bme (rv) hF
abbrev rm_X0_gapCount : Room := { frames := 1, cells := 0, slots := 0, locals := 20 }
theorem iX0_gapCount_X0 : ∀ w ∈ wsX00, w ∈ wsX0_gapCount := by decide +kernel
theorem kX0_gapCount_1 : (Cond.fieldLink RX0 28 "TwoLaws$Book" "gaps" "I") ∈ wsX0_gapCount := by decide +kernel
set_option maxHeartbeats 4000000 in
set_option maxRecDepth 100000 in
theorem cr_X0_gapCount (l : Launch) (D : va_G) (ky : Nat → ClassId) (aB ax au ay am : Nat) (sz N : Nat)  (bsz : Int32) (bgp : Int32) (ber : Int32) (bxs : Nat → Int32) (bus : Nat → Int32) (bys : Nat → Int32) (bme : Nat → Int32)  (res : Int32) (hF : f_X0_gapCount N bgp = some res) : MI l yX0_gapCount wsX0_gapCount rm_X0_gapCount D ky sz [.ref aB] (w_book ky aB ax au ay am bsz bgp ber bxs bus bys bme) (w_book ky aB ax au ay am bsz bgp ber bxs bus bys bme) res := by
  unfold MI
  refine Met.ofW (cc := cX0_gapCount) (maxL := 1) (ret := (some .int)) (by decide) rfl ?_
  intro p e s m args below meth c s₁ B hml hv
  obtain ⟨rfl, hsz, hP, hK, hD0⟩ := hv
  have hx := B.exec
  have hb := B.bytes
  have hr := B.returns
  have hts := atoms_spec (ws := wsX0_gapCount) B.pre
  have hown : s.vm.findClass RX0 = some m.cls := findClass_of_methodNamed B.named
  have hlocks := B.notSynchronized
  subst hsz
  have hD := hD0.self (sz := s.heap.size)
  generalize hAe : va_A (w_book ky aB ax au ay am bsz bgp ber bxs bus bys bme) s.heap.size = A at hD ⊢
  have hA : ∀ q : Nat, s.heap.size ≤ q → A q := fun q h => by rw [← hAe]; exact Or.inr h
  have hS : va_S A s.heap s.heap [] := va_S.rf
  have hP : va_P D vwCl (w_book ky aB ax au ay am bsz bgp ber bxs bus bys bme) s.heap := hP
  have hl := lv_entry ([.ref aB]) (n := 1) (Nat.le_of_ble_eq_true rfl)
  rw [lg_entry_eq]
  generalize (lg_sl ([.ref aB]) ++ List.replicate (1 - (lg_sl ([.ref aB])).length) Slot.unset).toArray = ls at hl ⊢
  have hl : lv_has ls 1 [(0, .ref aB)] := hl
  have C : cx p s m c ([.ref aB]).toArray D ky A cX0_gapCount 1 wsX0_gapCount RX0 := ⟨hx, hb, hml, hown, hts, hK, hA⟩
  have hQ : ∀ (pc : Nat) (H : Heap) (locs : List Loc) (ls : Array Slot), decode cX0_gapCount pc = .ok (.ireturn, 1) → va_P D vwCl (w_book ky aB ax au ay am bsz bgp ber bxs bus bys bme) H → va_D A (w_book ky aB ax au ay am bsz bgp ber bxs bus bys bme) → va_S A s.heap H locs → W p l e rm_X0_gapCount s m ([.ref aB]).toArray below meth c H locs 0 0 (MQ below (va_Qi (S := Unit) (fun r _ => r = res) (fun _ t => va_P D vwCl (w_book ky aB ax au ay am bsz bgp ber bxs bus bys bme) t.heap ∧ va_K D vwCl (tyW ky) t ∧ va_D A (w_book ky aB ax au ay am bsz bgp ber bxs bus bys bme)) A) ([.ref aB]).toArray s 0 0 A) (F0 m pc ls [.int res]) := fun pc H locs ls hd hP hD hS => W.iret hx hb hr (fun t ht hW => ⟨⟨res, (), rfl, rfl, by rw [ht]; exact hP, va_K.moved hW.alike hK, hD⟩, hS.F ht⟩) hS.2.2 hd
  unfold f_X0_gapCount at hF
  refine lv_aload_n hx hb dX0_gapCount_0 rfl (lv_at hl 0 rfl) ?_
  refine va_get (D := D) (ci := 0) (v := .int bgp) (C := RX0) (T := TX0) (N := 7) hx hb hts iX0_gapCount_X0 hown hK hP 0 rfl rfl 5 (by decide) (hts _ kX0_gapCount_1) (fun _ h9 => h9) rfl dX0_gapCount_1 ?_
  obtain ⟨r2, h1, hF⟩ := b1_s hF
  refine cl_si (As := [.int bgp]) (rest := []) ⟨hx, hb, hml, hown, hts⟩ hK hP hD hS hA (c_J6_bitCount_0f7a4 l D ky  _ N   bgp r2 h1) (va_cwS 1 hts gX0_gapCount_J6_bitCount_0f7a4 rfl rfl rfl (by decide +kernel) ⟨Nat.le_of_ble_eq_true rfl, Nat.le_of_ble_eq_true rfl⟩) rfl hl.1 (Nat.le_of_ble_eq_true rfl) dX0_gapCount_4 ⟨Nat.zero_le _, Nat.zero_le _⟩ (fun H locs hP hD hS => ?_)
  have hF := Option.some.inj hF
  subst hF
  exact hQ _ _ _ _ dX0_gapCount_7 hP hD hS
theorem c_X0_gapCount (l : Launch) (D : va_G) (ky : Nat → ClassId) (aB ax au ay am : Nat) (sz N : Nat)  (bsz : Int32) (bgp : Int32) (ber : Int32) (bxs : Nat → Int32) (bus : Nat → Int32) (bys : Nat → Int32) (bme : Nat → Int32)  (rv : Int32) (hF : f_X0_gapCount N bgp = some (rv)) : MI l yX0_gapCount wsX0_gapCount rm_X0_gapCount D ky sz [.ref aB] (w_book ky aB ax au ay am bsz bgp ber bxs bus bys bme) (w_book ky aB ax au ay am bsz bgp ber bxs bus bys bme) rv :=
  cr_X0_gapCount l D ky aB ax au ay am sz N bsz bgp ber bxs bus bys bme (rv) hF
abbrev rm_X0_state : Room := { frames := 1, cells := 0, slots := 0, locals := 21 }
theorem iX0_state_X0 : ∀ w ∈ wsX00, w ∈ wsX0_state := by decide +kernel
theorem kX0_state_1 : (Cond.fieldLink RX0 9 "TwoLaws$Book" "xs" "[I") ∈ wsX0_state := by decide +kernel
set_option maxHeartbeats 4000000 in
set_option maxRecDepth 100000 in
theorem cr_X0_state (l : Launch) (D : va_G) (ky : Nat → ClassId) (aB ax au ay am : Nat) (sz N : Nat)  (bsz : Int32) (bgp : Int32) (ber : Int32) (bxs : Nat → Int32) (bus : Nat → Int32) (bys : Nat → Int32) (bme : Nat → Int32) (p0 : Int32) (res : Int32) (hF : f_X0_state N p0 bsz bxs = some res) : MI l yX0_state wsX0_state rm_X0_state D ky sz [.ref aB, .int p0] (w_book ky aB ax au ay am bsz bgp ber bxs bus bys bme) (w_book ky aB ax au ay am bsz bgp ber bxs bus bys bme) res := by
  unfold MI
  refine Met.ofW (cc := cX0_state) (maxL := 2) (ret := (some .int)) (by decide) rfl ?_
  intro p e s m args below meth c s₁ B hml hv
  obtain ⟨rfl, hsz, hP, hK, hD0⟩ := hv
  have hx := B.exec
  have hb := B.bytes
  have hr := B.returns
  have hts := atoms_spec (ws := wsX0_state) B.pre
  have hown : s.vm.findClass RX0 = some m.cls := findClass_of_methodNamed B.named
  have hlocks := B.notSynchronized
  subst hsz
  have hD := hD0.self (sz := s.heap.size)
  generalize hAe : va_A (w_book ky aB ax au ay am bsz bgp ber bxs bus bys bme) s.heap.size = A at hD ⊢
  have hA : ∀ q : Nat, s.heap.size ≤ q → A q := fun q h => by rw [← hAe]; exact Or.inr h
  have hS : va_S A s.heap s.heap [] := va_S.rf
  have hP : va_P D vwCl (w_book ky aB ax au ay am bsz bgp ber bxs bus bys bme) s.heap := hP
  have hl := lv_entry ([.ref aB, .int p0]) (n := 2) (Nat.le_of_ble_eq_true rfl)
  rw [lg_entry_eq]
  generalize (lg_sl ([.ref aB, .int p0]) ++ List.replicate (2 - (lg_sl ([.ref aB, .int p0])).length) Slot.unset).toArray = ls at hl ⊢
  have hl : lv_has ls 2 [(0, .ref aB), (1, .int p0)] := hl
  have C : cx p s m c ([.ref aB, .int p0]).toArray D ky A cX0_state 2 wsX0_state RX0 := ⟨hx, hb, hml, hown, hts, hK, hA⟩
  have hQ : ∀ (pc : Nat) (H : Heap) (locs : List Loc) (ls : Array Slot), decode cX0_state pc = .ok (.ireturn, 1) → va_P D vwCl (w_book ky aB ax au ay am bsz bgp ber bxs bus bys bme) H → va_D A (w_book ky aB ax au ay am bsz bgp ber bxs bus bys bme) → va_S A s.heap H locs → W p l e rm_X0_state s m ([.ref aB, .int p0]).toArray below meth c H locs 0 0 (MQ below (va_Qi (S := Unit) (fun r _ => r = res) (fun _ t => va_P D vwCl (w_book ky aB ax au ay am bsz bgp ber bxs bus bys bme) t.heap ∧ va_K D vwCl (tyW ky) t ∧ va_D A (w_book ky aB ax au ay am bsz bgp ber bxs bus bys bme)) A) ([.ref aB, .int p0]).toArray s 0 0 A) (F0 m pc ls [.int res]) := fun pc H locs ls hd hP hD hS => W.iret hx hb hr (fun t ht hW => ⟨⟨res, (), rfl, rfl, by rw [ht]; exact hP, va_K.moved hW.alike hK, hD⟩, hS.F ht⟩) hS.2.2 hd
  unfold f_X0_state at hF
  refine lv_aload_n hx hb dX0_state_0 rfl (lv_at hl 0 rfl) ?_
  refine lv_iload_n hx hb dX0_state_1 rfl (lv_at hl 1 rfl) ?_
  obtain ⟨r2, h1, hF⟩ := b1_s hF
  refine cl_vi (As := [.int p0]) (rest := []) (w' := (w_book ky aB ax au ay am bsz bgp ber bxs bus bys bme)) ⟨hx, hb, hml, hown, hts⟩ hK hP hD hS hA (c_X0_has l D ky aB ax au ay am _ N  bsz bgp ber bxs bus bys bme p0 r2 h1) (cwV 1 hts gX0_state_X0_has rfl rfl rfl (by decide +kernel) ⟨Nat.le_of_ble_eq_true rfl, Nat.le_of_ble_eq_true rfl⟩) [0, 1, 2, 3, 4] [] [0, 1, 2, 3, 4] 0 0 rfl rfl rfl rfl (wr := []) rfl (by decide) rfl rfl hl.1 (Nat.le_of_ble_eq_true rfl) dX0_state_2 ⟨Nat.zero_le _, Nat.zero_le _⟩ (fun H locs hP hD hS => ?_)
  refine lv_if_eq (tgt := 17) hx hb dX0_state_5 (by decide) (fun c3 => ?_) (fun c3 => ?_)
  · have hF := if_t c3 hF
    refine lv_iconst (v := (0 : Int32)) hx hb dX0_state_17 (by decide) ?_
    have hF := Option.some.inj hF
    subst hF
    exact hQ _ _ _ _ dX0_state_18 hP hD hS
  · have hF := if_f c3 hF
    refine lv_aload_n hx hb dX0_state_8 rfl (lv_at hl 0 rfl) ?_
    refine va_get (D := D) (ci := 0) (v := .ref ax) (C := RX0) (T := TX0) (N := 7) hx hb hts iX0_state_X0 hown hK hP 0 rfl rfl 0 (by decide) (hts _ kX0_state_1) (fun _ h9 => h9) rfl dX0_state_9 ?_
    refine lv_iload_n hx hb dX0_state_12 rfl (lv_at hl 1 rfl) ?_
    obtain ⟨h4, hF⟩ := gi_s hF
    refine va_iald hx hb hK hP 1 0 rfl rfl h4 dX0_state_13 ?_
    refine lv_goto (tgt := 18) hx hb dX0_state_14 (by decide) ?_
    have hF := Option.some.inj hF
    subst hF
    exact hQ _ _ _ _ dX0_state_18 hP hD hS
theorem c_X0_state (l : Launch) (D : va_G) (ky : Nat → ClassId) (aB ax au ay am : Nat) (sz N : Nat)  (bsz : Int32) (bgp : Int32) (ber : Int32) (bxs : Nat → Int32) (bus : Nat → Int32) (bys : Nat → Int32) (bme : Nat → Int32) (p0 : Int32) (rv : Int32) (hF : f_X0_state N p0 bsz bxs = some (rv)) : MI l yX0_state wsX0_state rm_X0_state D ky sz [.ref aB, .int p0] (w_book ky aB ax au ay am bsz bgp ber bxs bus bys bme) (w_book ky aB ax au ay am bsz bgp ber bxs bus bys bme) rv :=
  cr_X0_state l D ky aB ax au ay am sz N bsz bgp ber bxs bus bys bme p0 (rv) hF
abbrev rm_X0_push : Room := { frames := 1, cells := 0, slots := 0, locals := 21 }
theorem iX0_push_X0 : ∀ w ∈ wsX00, w ∈ wsX0_push := by decide +kernel
theorem kX0_push_1 : (Cond.fieldLink RX0 15 "TwoLaws$Book" "us" "[I") ∈ wsX0_push := by decide +kernel
set_option maxHeartbeats 4000000 in
set_option maxRecDepth 100000 in
theorem cr_X0_push (l : Launch) (D : va_G) (ky : Nat → ClassId) (aB ax au ay am : Nat) (sz N : Nat)  (bsz : Int32) (bgp : Int32) (ber : Int32) (bxs : Nat → Int32) (bus : Nat → Int32) (bys : Nat → Int32) (bme : Nat → Int32) (p0 : Int32) (res : Int32) (hF : f_X0_push N p0 bsz bus = some res) : MI l yX0_push wsX0_push rm_X0_push D ky sz [.ref aB, .int p0] (w_book ky aB ax au ay am bsz bgp ber bxs bus bys bme) (w_book ky aB ax au ay am bsz bgp ber bxs bus bys bme) res := by
  unfold MI
  refine Met.ofW (cc := cX0_push) (maxL := 2) (ret := (some .int)) (by decide) rfl ?_
  intro p e s m args below meth c s₁ B hml hv
  obtain ⟨rfl, hsz, hP, hK, hD0⟩ := hv
  have hx := B.exec
  have hb := B.bytes
  have hr := B.returns
  have hts := atoms_spec (ws := wsX0_push) B.pre
  have hown : s.vm.findClass RX0 = some m.cls := findClass_of_methodNamed B.named
  have hlocks := B.notSynchronized
  subst hsz
  have hD := hD0.self (sz := s.heap.size)
  generalize hAe : va_A (w_book ky aB ax au ay am bsz bgp ber bxs bus bys bme) s.heap.size = A at hD ⊢
  have hA : ∀ q : Nat, s.heap.size ≤ q → A q := fun q h => by rw [← hAe]; exact Or.inr h
  have hS : va_S A s.heap s.heap [] := va_S.rf
  have hP : va_P D vwCl (w_book ky aB ax au ay am bsz bgp ber bxs bus bys bme) s.heap := hP
  have hl := lv_entry ([.ref aB, .int p0]) (n := 2) (Nat.le_of_ble_eq_true rfl)
  rw [lg_entry_eq]
  generalize (lg_sl ([.ref aB, .int p0]) ++ List.replicate (2 - (lg_sl ([.ref aB, .int p0])).length) Slot.unset).toArray = ls at hl ⊢
  have hl : lv_has ls 2 [(0, .ref aB), (1, .int p0)] := hl
  have C : cx p s m c ([.ref aB, .int p0]).toArray D ky A cX0_push 2 wsX0_push RX0 := ⟨hx, hb, hml, hown, hts, hK, hA⟩
  have hQ : ∀ (pc : Nat) (H : Heap) (locs : List Loc) (ls : Array Slot), decode cX0_push pc = .ok (.ireturn, 1) → va_P D vwCl (w_book ky aB ax au ay am bsz bgp ber bxs bus bys bme) H → va_D A (w_book ky aB ax au ay am bsz bgp ber bxs bus bys bme) → va_S A s.heap H locs → W p l e rm_X0_push s m ([.ref aB, .int p0]).toArray below meth c H locs 0 0 (MQ below (va_Qi (S := Unit) (fun r _ => r = res) (fun _ t => va_P D vwCl (w_book ky aB ax au ay am bsz bgp ber bxs bus bys bme) t.heap ∧ va_K D vwCl (tyW ky) t ∧ va_D A (w_book ky aB ax au ay am bsz bgp ber bxs bus bys bme)) A) ([.ref aB, .int p0]).toArray s 0 0 A) (F0 m pc ls [.int res]) := fun pc H locs ls hd hP hD hS => W.iret hx hb hr (fun t ht hW => ⟨⟨res, (), rfl, rfl, by rw [ht]; exact hP, va_K.moved hW.alike hK, hD⟩, hS.F ht⟩) hS.2.2 hd
  unfold f_X0_push at hF
  refine lv_aload_n hx hb dX0_push_0 rfl (lv_at hl 0 rfl) ?_
  refine lv_iload_n hx hb dX0_push_1 rfl (lv_at hl 1 rfl) ?_
  obtain ⟨r2, h1, hF⟩ := b1_s hF
  refine cl_vi (As := [.int p0]) (rest := []) (w' := (w_book ky aB ax au ay am bsz bgp ber bxs bus bys bme)) ⟨hx, hb, hml, hown, hts⟩ hK hP hD hS hA (c_X0_has l D ky aB ax au ay am _ N  bsz bgp ber bxs bus bys bme p0 r2 h1) (cwV 1 hts gX0_push_X0_has rfl rfl rfl (by decide +kernel) ⟨Nat.le_of_ble_eq_true rfl, Nat.le_of_ble_eq_true rfl⟩) [0, 1, 2, 3, 4] [] [0, 1, 2, 3, 4] 0 0 rfl rfl rfl rfl (wr := []) rfl (by decide) rfl rfl hl.1 (Nat.le_of_ble_eq_true rfl) dX0_push_2 ⟨Nat.zero_le _, Nat.zero_le _⟩ (fun H locs hP hD hS => ?_)
  refine lv_if_eq (tgt := 17) hx hb dX0_push_5 (by decide) (fun c3 => ?_) (fun c3 => ?_)
  · have hF := if_t c3 hF
    refine lv_iconst (v := (0 : Int32)) hx hb dX0_push_17 (by decide) ?_
    have hF := Option.some.inj hF
    subst hF
    exact hQ _ _ _ _ dX0_push_18 hP hD hS
  · have hF := if_f c3 hF
    refine lv_aload_n hx hb dX0_push_8 rfl (lv_at hl 0 rfl) ?_
    refine va_get (D := D) (ci := 0) (v := .ref au) (C := RX0) (T := TX0) (N := 7) hx hb hts iX0_push_X0 hown hK hP 0 rfl rfl 1 (by decide) (hts _ kX0_push_1) (fun _ h9 => h9) rfl dX0_push_9 ?_
    refine lv_iload_n hx hb dX0_push_12 rfl (lv_at hl 1 rfl) ?_
    obtain ⟨h4, hF⟩ := gi_s hF
    refine va_iald hx hb hK hP 2 0 rfl rfl h4 dX0_push_13 ?_
    refine lv_goto (tgt := 18) hx hb dX0_push_14 (by decide) ?_
    have hF := Option.some.inj hF
    subst hF
    exact hQ _ _ _ _ dX0_push_18 hP hD hS
theorem c_X0_push (l : Launch) (D : va_G) (ky : Nat → ClassId) (aB ax au ay am : Nat) (sz N : Nat)  (bsz : Int32) (bgp : Int32) (ber : Int32) (bxs : Nat → Int32) (bus : Nat → Int32) (bys : Nat → Int32) (bme : Nat → Int32) (p0 : Int32) (rv : Int32) (hF : f_X0_push N p0 bsz bus = some (rv)) : MI l yX0_push wsX0_push rm_X0_push D ky sz [.ref aB, .int p0] (w_book ky aB ax au ay am bsz bgp ber bxs bus bys bme) (w_book ky aB ax au ay am bsz bgp ber bxs bus bys bme) rv :=
  cr_X0_push l D ky aB ax au ay am sz N bsz bgp ber bxs bus bys bme p0 (rv) hF
abbrev rm_X0_end : Room := { frames := 1, cells := 0, slots := 0, locals := 21 }
theorem iX0_end_X0 : ∀ w ∈ wsX00, w ∈ wsX0_end := by decide +kernel
theorem kX0_end_1 : (Cond.fieldLink RX0 18 "TwoLaws$Book" "ys" "[I") ∈ wsX0_end := by decide +kernel
set_option maxHeartbeats 4000000 in
set_option maxRecDepth 100000 in
theorem cr_X0_end (l : Launch) (D : va_G) (ky : Nat → ClassId) (aB ax au ay am : Nat) (sz N : Nat)  (bsz : Int32) (bgp : Int32) (ber : Int32) (bxs : Nat → Int32) (bus : Nat → Int32) (bys : Nat → Int32) (bme : Nat → Int32) (p0 : Int32) (res : Int32) (hF : f_X0_end N p0 bsz bys = some res) : MI l yX0_end wsX0_end rm_X0_end D ky sz [.ref aB, .int p0] (w_book ky aB ax au ay am bsz bgp ber bxs bus bys bme) (w_book ky aB ax au ay am bsz bgp ber bxs bus bys bme) res := by
  unfold MI
  refine Met.ofW (cc := cX0_end) (maxL := 2) (ret := (some .int)) (by decide) rfl ?_
  intro p e s m args below meth c s₁ B hml hv
  obtain ⟨rfl, hsz, hP, hK, hD0⟩ := hv
  have hx := B.exec
  have hb := B.bytes
  have hr := B.returns
  have hts := atoms_spec (ws := wsX0_end) B.pre
  have hown : s.vm.findClass RX0 = some m.cls := findClass_of_methodNamed B.named
  have hlocks := B.notSynchronized
  subst hsz
  have hD := hD0.self (sz := s.heap.size)
  generalize hAe : va_A (w_book ky aB ax au ay am bsz bgp ber bxs bus bys bme) s.heap.size = A at hD ⊢
  have hA : ∀ q : Nat, s.heap.size ≤ q → A q := fun q h => by rw [← hAe]; exact Or.inr h
  have hS : va_S A s.heap s.heap [] := va_S.rf
  have hP : va_P D vwCl (w_book ky aB ax au ay am bsz bgp ber bxs bus bys bme) s.heap := hP
  have hl := lv_entry ([.ref aB, .int p0]) (n := 2) (Nat.le_of_ble_eq_true rfl)
  rw [lg_entry_eq]
  generalize (lg_sl ([.ref aB, .int p0]) ++ List.replicate (2 - (lg_sl ([.ref aB, .int p0])).length) Slot.unset).toArray = ls at hl ⊢
  have hl : lv_has ls 2 [(0, .ref aB), (1, .int p0)] := hl
  have C : cx p s m c ([.ref aB, .int p0]).toArray D ky A cX0_end 2 wsX0_end RX0 := ⟨hx, hb, hml, hown, hts, hK, hA⟩
  have hQ : ∀ (pc : Nat) (H : Heap) (locs : List Loc) (ls : Array Slot), decode cX0_end pc = .ok (.ireturn, 1) → va_P D vwCl (w_book ky aB ax au ay am bsz bgp ber bxs bus bys bme) H → va_D A (w_book ky aB ax au ay am bsz bgp ber bxs bus bys bme) → va_S A s.heap H locs → W p l e rm_X0_end s m ([.ref aB, .int p0]).toArray below meth c H locs 0 0 (MQ below (va_Qi (S := Unit) (fun r _ => r = res) (fun _ t => va_P D vwCl (w_book ky aB ax au ay am bsz bgp ber bxs bus bys bme) t.heap ∧ va_K D vwCl (tyW ky) t ∧ va_D A (w_book ky aB ax au ay am bsz bgp ber bxs bus bys bme)) A) ([.ref aB, .int p0]).toArray s 0 0 A) (F0 m pc ls [.int res]) := fun pc H locs ls hd hP hD hS => W.iret hx hb hr (fun t ht hW => ⟨⟨res, (), rfl, rfl, by rw [ht]; exact hP, va_K.moved hW.alike hK, hD⟩, hS.F ht⟩) hS.2.2 hd
  unfold f_X0_end at hF
  refine lv_aload_n hx hb dX0_end_0 rfl (lv_at hl 0 rfl) ?_
  refine lv_iload_n hx hb dX0_end_1 rfl (lv_at hl 1 rfl) ?_
  obtain ⟨r2, h1, hF⟩ := b1_s hF
  refine cl_vi (As := [.int p0]) (rest := []) (w' := (w_book ky aB ax au ay am bsz bgp ber bxs bus bys bme)) ⟨hx, hb, hml, hown, hts⟩ hK hP hD hS hA (c_X0_has l D ky aB ax au ay am _ N  bsz bgp ber bxs bus bys bme p0 r2 h1) (cwV 1 hts gX0_end_X0_has rfl rfl rfl (by decide +kernel) ⟨Nat.le_of_ble_eq_true rfl, Nat.le_of_ble_eq_true rfl⟩) [0, 1, 2, 3, 4] [] [0, 1, 2, 3, 4] 0 0 rfl rfl rfl rfl (wr := []) rfl (by decide) rfl rfl hl.1 (Nat.le_of_ble_eq_true rfl) dX0_end_2 ⟨Nat.zero_le _, Nat.zero_le _⟩ (fun H locs hP hD hS => ?_)
  refine lv_if_eq (tgt := 17) hx hb dX0_end_5 (by decide) (fun c3 => ?_) (fun c3 => ?_)
  · have hF := if_t c3 hF
    refine lv_iconst (v := (0 : Int32)) hx hb dX0_end_17 (by decide) ?_
    have hF := Option.some.inj hF
    subst hF
    exact hQ _ _ _ _ dX0_end_18 hP hD hS
  · have hF := if_f c3 hF
    refine lv_aload_n hx hb dX0_end_8 rfl (lv_at hl 0 rfl) ?_
    refine va_get (D := D) (ci := 0) (v := .ref ay) (C := RX0) (T := TX0) (N := 7) hx hb hts iX0_end_X0 hown hK hP 0 rfl rfl 2 (by decide) (hts _ kX0_end_1) (fun _ h9 => h9) rfl dX0_end_9 ?_
    refine lv_iload_n hx hb dX0_end_12 rfl (lv_at hl 1 rfl) ?_
    obtain ⟨h4, hF⟩ := gi_s hF
    refine va_iald hx hb hK hP 3 0 rfl rfl h4 dX0_end_13 ?_
    refine lv_goto (tgt := 18) hx hb dX0_end_14 (by decide) ?_
    have hF := Option.some.inj hF
    subst hF
    exact hQ _ _ _ _ dX0_end_18 hP hD hS
theorem c_X0_end (l : Launch) (D : va_G) (ky : Nat → ClassId) (aB ax au ay am : Nat) (sz N : Nat)  (bsz : Int32) (bgp : Int32) (ber : Int32) (bxs : Nat → Int32) (bus : Nat → Int32) (bys : Nat → Int32) (bme : Nat → Int32) (p0 : Int32) (rv : Int32) (hF : f_X0_end N p0 bsz bys = some (rv)) : MI l yX0_end wsX0_end rm_X0_end D ky sz [.ref aB, .int p0] (w_book ky aB ax au ay am bsz bgp ber bxs bus bys bme) (w_book ky aB ax au ay am bsz bgp ber bxs bus bys bme) rv :=
  cr_X0_end l D ky aB ax au ay am sz N bsz bgp ber bxs bus bys bme p0 (rv) hF
abbrev rm_X0_all : Room := { frames := 0, cells := 0, slots := 0, locals := 0 }
theorem iX0_all_X0 : ∀ w ∈ wsX00, w ∈ wsX0_all := by decide +kernel
theorem kX0_all_1 : (Cond.fieldLink RX0 24 "TwoLaws$Book" "size" "I") ∈ wsX0_all := by decide +kernel
set_option maxHeartbeats 4000000 in
set_option maxRecDepth 100000 in
theorem cr_X0_all (l : Launch) (D : va_G) (ky : Nat → ClassId) (aB ax au ay am : Nat) (sz N : Nat)  (bsz : Int32) (bgp : Int32) (ber : Int32) (bxs : Nat → Int32) (bus : Nat → Int32) (bys : Nat → Int32) (bme : Nat → Int32)  (res : Int32) (hF : f_X0_all N bsz = some res) : MI l yX0_all wsX0_all rm_X0_all D ky sz [.ref aB] (w_book ky aB ax au ay am bsz bgp ber bxs bus bys bme) (w_book ky aB ax au ay am bsz bgp ber bxs bus bys bme) res := by
  unfold MI
  refine Met.ofW (cc := cX0_all) (maxL := 1) (ret := (some .int)) (by decide) rfl ?_
  intro p e s m args below meth c s₁ B hml hv
  obtain ⟨rfl, hsz, hP, hK, hD0⟩ := hv
  have hx := B.exec
  have hb := B.bytes
  have hr := B.returns
  have hts := atoms_spec (ws := wsX0_all) B.pre
  have hown : s.vm.findClass RX0 = some m.cls := findClass_of_methodNamed B.named
  have hlocks := B.notSynchronized
  subst hsz
  have hD := hD0.self (sz := s.heap.size)
  generalize hAe : va_A (w_book ky aB ax au ay am bsz bgp ber bxs bus bys bme) s.heap.size = A at hD ⊢
  have hA : ∀ q : Nat, s.heap.size ≤ q → A q := fun q h => by rw [← hAe]; exact Or.inr h
  have hS : va_S A s.heap s.heap [] := va_S.rf
  have hP : va_P D vwCl (w_book ky aB ax au ay am bsz bgp ber bxs bus bys bme) s.heap := hP
  have hl := lv_entry ([.ref aB]) (n := 1) (Nat.le_of_ble_eq_true rfl)
  rw [lg_entry_eq]
  generalize (lg_sl ([.ref aB]) ++ List.replicate (1 - (lg_sl ([.ref aB])).length) Slot.unset).toArray = ls at hl ⊢
  have hl : lv_has ls 1 [(0, .ref aB)] := hl
  have C : cx p s m c ([.ref aB]).toArray D ky A cX0_all 1 wsX0_all RX0 := ⟨hx, hb, hml, hown, hts, hK, hA⟩
  have hQ : ∀ (pc : Nat) (H : Heap) (locs : List Loc) (ls : Array Slot), decode cX0_all pc = .ok (.ireturn, 1) → va_P D vwCl (w_book ky aB ax au ay am bsz bgp ber bxs bus bys bme) H → va_D A (w_book ky aB ax au ay am bsz bgp ber bxs bus bys bme) → va_S A s.heap H locs → W p l e rm_X0_all s m ([.ref aB]).toArray below meth c H locs 0 0 (MQ below (va_Qi (S := Unit) (fun r _ => r = res) (fun _ t => va_P D vwCl (w_book ky aB ax au ay am bsz bgp ber bxs bus bys bme) t.heap ∧ va_K D vwCl (tyW ky) t ∧ va_D A (w_book ky aB ax au ay am bsz bgp ber bxs bus bys bme)) A) ([.ref aB]).toArray s 0 0 A) (F0 m pc ls [.int res]) := fun pc H locs ls hd hP hD hS => W.iret hx hb hr (fun t ht hW => ⟨⟨res, (), rfl, rfl, by rw [ht]; exact hP, va_K.moved hW.alike hK, hD⟩, hS.F ht⟩) hS.2.2 hd
  unfold f_X0_all at hF
  refine lv_iconst (v := (1 : Int32)) hx hb dX0_all_0 (by decide) ?_
  refine lv_aload_n hx hb dX0_all_1 rfl (lv_at hl 0 rfl) ?_
  refine va_get (D := D) (ci := 0) (v := .int bsz) (C := RX0) (T := TX0) (N := 7) hx hb hts iX0_all_X0 hown hK hP 0 rfl rfl 4 (by decide) (hts _ kX0_all_1) (fun _ h9 => h9) rfl dX0_all_2 ?_
  refine lv_ishl hx hb dX0_all_5 ?_
  refine lv_iconst (v := (1 : Int32)) hx hb dX0_all_6 (by decide) ?_
  refine lv_isub hx hb dX0_all_7 ?_
  have hF := Option.some.inj hF
  subst hF
  exact hQ _ _ _ _ dX0_all_8 hP hD hS
theorem c_X0_all (l : Launch) (D : va_G) (ky : Nat → ClassId) (aB ax au ay am : Nat) (sz N : Nat)  (bsz : Int32) (bgp : Int32) (ber : Int32) (bxs : Nat → Int32) (bus : Nat → Int32) (bys : Nat → Int32) (bme : Nat → Int32)  (rv : Int32) (hF : f_X0_all N bsz = some (rv)) : MI l yX0_all wsX0_all rm_X0_all D ky sz [.ref aB] (w_book ky aB ax au ay am bsz bgp ber bxs bus bys bme) (w_book ky aB ax au ay am bsz bgp ber bxs bus bys bme) rv :=
  cr_X0_all l D ky aB ax au ay am sz N bsz bgp ber bxs bus bys bme (rv) hF
abbrev rm_X0_isHeap : Room := { frames := 1, cells := 0, slots := 0, locals := 20 }
set_option maxHeartbeats 4000000 in
set_option maxRecDepth 100000 in
theorem cr_X0_isHeap (l : Launch) (D : va_G) (ky : Nat → ClassId) (aB ax au ay am : Nat) (sz N : Nat)  (bsz : Int32) (bgp : Int32) (ber : Int32) (bxs : Nat → Int32) (bus : Nat → Int32) (bys : Nat → Int32) (bme : Nat → Int32) (p0 : Int32) (res : Int32) (hF : f_X0_isHeap N p0 bsz = some res) : MI l yX0_isHeap wsX0_isHeap rm_X0_isHeap D ky sz [.ref aB, .int p0] (w_book ky aB ax au ay am bsz bgp ber bxs bus bys bme) (w_book ky aB ax au ay am bsz bgp ber bxs bus bys bme) res := by
  unfold MI
  refine Met.ofW (cc := cX0_isHeap) (maxL := 2) (ret := (some .boolean)) (by decide) rfl ?_
  intro p e s m args below meth c s₁ B hml hv
  obtain ⟨rfl, hsz, hP, hK, hD0⟩ := hv
  have hx := B.exec
  have hb := B.bytes
  have hr := B.returns
  have hts := atoms_spec (ws := wsX0_isHeap) B.pre
  have hown : s.vm.findClass RX0 = some m.cls := findClass_of_methodNamed B.named
  have hlocks := B.notSynchronized
  subst hsz
  have hD := hD0.self (sz := s.heap.size)
  generalize hAe : va_A (w_book ky aB ax au ay am bsz bgp ber bxs bus bys bme) s.heap.size = A at hD ⊢
  have hA : ∀ q : Nat, s.heap.size ≤ q → A q := fun q h => by rw [← hAe]; exact Or.inr h
  have hS : va_S A s.heap s.heap [] := va_S.rf
  have hP : va_P D vwCl (w_book ky aB ax au ay am bsz bgp ber bxs bus bys bme) s.heap := hP
  have hl := lv_entry ([.ref aB, .int p0]) (n := 2) (Nat.le_of_ble_eq_true rfl)
  rw [lg_entry_eq]
  generalize (lg_sl ([.ref aB, .int p0]) ++ List.replicate (2 - (lg_sl ([.ref aB, .int p0])).length) Slot.unset).toArray = ls at hl ⊢
  have hl : lv_has ls 2 [(0, .ref aB), (1, .int p0)] := hl
  have C : cx p s m c ([.ref aB, .int p0]).toArray D ky A cX0_isHeap 2 wsX0_isHeap RX0 := ⟨hx, hb, hml, hown, hts, hK, hA⟩
  have hQ : ∀ (pc : Nat) (H : Heap) (locs : List Loc) (ls : Array Slot), decode cX0_isHeap pc = .ok (.ireturn, 1) → (res = 0 ∨ res = 1) → va_P D vwCl (w_book ky aB ax au ay am bsz bgp ber bxs bus bys bme) H → va_D A (w_book ky aB ax au ay am bsz bgp ber bxs bus bys bme) → va_S A s.heap H locs → W p l e rm_X0_isHeap s m ([.ref aB, .int p0]).toArray below meth c H locs 0 0 (MQ below (va_Qi (S := Unit) (fun r _ => r = res) (fun _ t => va_P D vwCl (w_book ky aB ax au ay am bsz bgp ber bxs bus bys bme) t.heap ∧ va_K D vwCl (tyW ky) t ∧ va_D A (w_book ky aB ax au ay am bsz bgp ber bxs bus bys bme)) A) ([.ref aB, .int p0]).toArray s 0 0 A) (F0 m pc ls [.int res]) := fun pc H locs ls hd hz hP hD hS => W.zret hx hb hr (gz_n hz) (fun t ht hW => ⟨⟨res, (), rfl, rfl, by rw [ht]; exact hP, va_K.moved hW.alike hK, hD⟩, hS.F ht⟩) hS.2.2 hd
  unfold f_X0_isHeap at hF
  refine lv_iload_n hx hb dX0_isHeap_0 rfl (lv_at hl 1 rfl) ?_
  refine lv_if_lt (tgt := 16) hx hb dX0_isHeap_1 (by decide) (fun c1 => ?_) (fun c1 => ?_)
  · have hF := if_t c1 hF
    refine lv_iconst (v := (0 : Int32)) hx hb dX0_isHeap_16 (by decide) ?_
    have hF := Option.some.inj hF
    subst hF
    exact hQ _ _ _ _ dX0_isHeap_17 (Or.inl rfl) hP hD hS
  · have hF := if_f c1 hF
    refine lv_iload_n hx hb dX0_isHeap_4 rfl (lv_at hl 1 rfl) ?_
    refine lv_aload_n hx hb dX0_isHeap_5 rfl (lv_at hl 0 rfl) ?_
    obtain ⟨r3, h2, hF⟩ := b1_s hF
    refine cl_vi (As := []) (rest := [.int p0]) (w' := (w_book ky aB ax au ay am bsz bgp ber bxs bus bys bme)) ⟨hx, hb, hml, hown, hts⟩ hK hP hD hS hA (c_X0_all l D ky aB ax au ay am _ N  bsz bgp ber bxs bus bys bme  r3 h2) (cwV 0 hts gX0_isHeap_X0_all rfl rfl rfl (by decide +kernel) ⟨Nat.le_of_ble_eq_true rfl, Nat.le_of_ble_eq_true rfl⟩) [0, 1, 2, 3, 4] [] [0, 1, 2, 3, 4] 0 0 rfl rfl rfl rfl (wr := []) rfl (by decide) rfl rfl hl.1 (Nat.le_of_ble_eq_true rfl) dX0_isHeap_6 ⟨Nat.zero_le _, Nat.zero_le _⟩ (fun H locs hP hD hS => ?_)
    refine lv_icmp_gt (tgt := 16) hx hb dX0_isHeap_9 (by decide) (fun c4 => ?_) (fun c4 => ?_)
    · have hF := if_t c4 hF
      refine lv_iconst (v := (0 : Int32)) hx hb dX0_isHeap_16 (by decide) ?_
      have hF := Option.some.inj hF
      subst hF
      exact hQ _ _ _ _ dX0_isHeap_17 (Or.inl rfl) hP hD hS
    · have hF := if_f c4 hF
      refine lv_iconst (v := (1 : Int32)) hx hb dX0_isHeap_12 (by decide) ?_
      refine lv_goto (tgt := 17) hx hb dX0_isHeap_13 (by decide) ?_
      have hF := Option.some.inj hF
      subst hF
      exact hQ _ _ _ _ dX0_isHeap_17 (Or.inr rfl) hP hD hS
theorem c_X0_isHeap (l : Launch) (D : va_G) (ky : Nat → ClassId) (aB ax au ay am : Nat) (sz N : Nat)  (bsz : Int32) (bgp : Int32) (ber : Int32) (bxs : Nat → Int32) (bus : Nat → Int32) (bys : Nat → Int32) (bme : Nat → Int32) (p0 : Int32) (rv : Int32) (hF : f_X0_isHeap N p0 bsz = some (rv)) : MI l yX0_isHeap wsX0_isHeap rm_X0_isHeap D ky sz [.ref aB, .int p0] (w_book ky aB ax au ay am bsz bgp ber bxs bus bys bme) (w_book ky aB ax au ay am bsz bgp ber bxs bus bys bme) rv :=
  cr_X0_isHeap l D ky aB ax au ay am sz N bsz bgp ber bxs bus bys bme p0 (rv) hF
abbrev rm_X0_rowsMeeting : Room := { frames := 0, cells := 0, slots := 0, locals := 0 }
theorem iX0_rowsMeeting_X0 : ∀ w ∈ wsX00, w ∈ wsX0_rowsMeeting := by decide +kernel
theorem kX0_rowsMeeting_1 : (Cond.fieldLink RX0 21 "TwoLaws$Book" "meeting" "[I") ∈ wsX0_rowsMeeting := by decide +kernel
set_option maxHeartbeats 4000000 in
set_option maxRecDepth 100000 in
theorem cr_X0_rowsMeeting (l : Launch) (D : va_G) (ky : Nat → ClassId) (aB ax au ay am : Nat) (sz N : Nat)  (bsz : Int32) (bgp : Int32) (ber : Int32) (bxs : Nat → Int32) (bus : Nat → Int32) (bys : Nat → Int32) (bme : Nat → Int32) (p0 : Int32) (res : Int32) (hF : f_X0_rowsMeeting N p0 bme = some res) : MI l yX0_rowsMeeting wsX0_rowsMeeting rm_X0_rowsMeeting D ky sz [.ref aB, .int p0] (w_book ky aB ax au ay am bsz bgp ber bxs bus bys bme) (w_book ky aB ax au ay am bsz bgp ber bxs bus bys bme) res := by
  unfold MI
  refine Met.ofW (cc := cX0_rowsMeeting) (maxL := 2) (ret := (some .int)) (by decide) rfl ?_
  intro p e s m args below meth c s₁ B hml hv
  obtain ⟨rfl, hsz, hP, hK, hD0⟩ := hv
  have hx := B.exec
  have hb := B.bytes
  have hr := B.returns
  have hts := atoms_spec (ws := wsX0_rowsMeeting) B.pre
  have hown : s.vm.findClass RX0 = some m.cls := findClass_of_methodNamed B.named
  have hlocks := B.notSynchronized
  subst hsz
  have hD := hD0.self (sz := s.heap.size)
  generalize hAe : va_A (w_book ky aB ax au ay am bsz bgp ber bxs bus bys bme) s.heap.size = A at hD ⊢
  have hA : ∀ q : Nat, s.heap.size ≤ q → A q := fun q h => by rw [← hAe]; exact Or.inr h
  have hS : va_S A s.heap s.heap [] := va_S.rf
  have hP : va_P D vwCl (w_book ky aB ax au ay am bsz bgp ber bxs bus bys bme) s.heap := hP
  have hl := lv_entry ([.ref aB, .int p0]) (n := 2) (Nat.le_of_ble_eq_true rfl)
  rw [lg_entry_eq]
  generalize (lg_sl ([.ref aB, .int p0]) ++ List.replicate (2 - (lg_sl ([.ref aB, .int p0])).length) Slot.unset).toArray = ls at hl ⊢
  have hl : lv_has ls 2 [(0, .ref aB), (1, .int p0)] := hl
  have C : cx p s m c ([.ref aB, .int p0]).toArray D ky A cX0_rowsMeeting 2 wsX0_rowsMeeting RX0 := ⟨hx, hb, hml, hown, hts, hK, hA⟩
  have hQ : ∀ (pc : Nat) (H : Heap) (locs : List Loc) (ls : Array Slot), decode cX0_rowsMeeting pc = .ok (.ireturn, 1) → va_P D vwCl (w_book ky aB ax au ay am bsz bgp ber bxs bus bys bme) H → va_D A (w_book ky aB ax au ay am bsz bgp ber bxs bus bys bme) → va_S A s.heap H locs → W p l e rm_X0_rowsMeeting s m ([.ref aB, .int p0]).toArray below meth c H locs 0 0 (MQ below (va_Qi (S := Unit) (fun r _ => r = res) (fun _ t => va_P D vwCl (w_book ky aB ax au ay am bsz bgp ber bxs bus bys bme) t.heap ∧ va_K D vwCl (tyW ky) t ∧ va_D A (w_book ky aB ax au ay am bsz bgp ber bxs bus bys bme)) A) ([.ref aB, .int p0]).toArray s 0 0 A) (F0 m pc ls [.int res]) := fun pc H locs ls hd hP hD hS => W.iret hx hb hr (fun t ht hW => ⟨⟨res, (), rfl, rfl, by rw [ht]; exact hP, va_K.moved hW.alike hK, hD⟩, hS.F ht⟩) hS.2.2 hd
  unfold f_X0_rowsMeeting at hF
  refine lv_iload_n hx hb dX0_rowsMeeting_0 rfl (lv_at hl 1 rfl) ?_
  refine lv_if_lt (tgt := 22) hx hb dX0_rowsMeeting_1 (by decide) (fun c1 => ?_) (fun c1 => ?_)
  · have hF := if_t c1 hF
    refine lv_iconst (v := (0 : Int32)) hx hb dX0_rowsMeeting_22 (by decide) ?_
    have hF := Option.some.inj hF
    subst hF
    exact hQ _ _ _ _ dX0_rowsMeeting_23 hP hD hS
  · have hF := if_f c1 hF
    refine lv_iload_n hx hb dX0_rowsMeeting_4 rfl (lv_at hl 1 rfl) ?_
    refine lv_aload_n hx hb dX0_rowsMeeting_5 rfl (lv_at hl 0 rfl) ?_
    refine va_get (D := D) (ci := 0) (v := .ref am) (C := RX0) (T := TX0) (N := 7) hx hb hts iX0_rowsMeeting_X0 hown hK hP 0 rfl rfl 3 (by decide) (hts _ kX0_rowsMeeting_1) (fun _ h9 => h9) rfl dX0_rowsMeeting_6 ?_
    refine va_alen (v := (289 : Int32)) hx hb hK hP 4 0 rfl rfl rfl dX0_rowsMeeting_9 ?_
    refine lv_icmp_ge (tgt := 22) hx hb dX0_rowsMeeting_10 (by decide) (fun c2 => ?_) (fun c2 => ?_)
    · have hF := if_t c2 hF
      refine lv_iconst (v := (0 : Int32)) hx hb dX0_rowsMeeting_22 (by decide) ?_
      have hF := Option.some.inj hF
      subst hF
      exact hQ _ _ _ _ dX0_rowsMeeting_23 hP hD hS
    · have hF := if_f c2 hF
      refine lv_aload_n hx hb dX0_rowsMeeting_13 rfl (lv_at hl 0 rfl) ?_
      refine va_get (D := D) (ci := 0) (v := .ref am) (C := RX0) (T := TX0) (N := 7) hx hb hts iX0_rowsMeeting_X0 hown hK hP 0 rfl rfl 3 (by decide) (hts _ kX0_rowsMeeting_1) (fun _ h9 => h9) rfl dX0_rowsMeeting_14 ?_
      refine lv_iload_n hx hb dX0_rowsMeeting_17 rfl (lv_at hl 1 rfl) ?_
      obtain ⟨h3, hF⟩ := gi_s hF
      refine va_iald hx hb hK hP 4 0 rfl rfl h3 dX0_rowsMeeting_18 ?_
      refine lv_goto (tgt := 23) hx hb dX0_rowsMeeting_19 (by decide) ?_
      have hF := Option.some.inj hF
      subst hF
      exact hQ _ _ _ _ dX0_rowsMeeting_23 hP hD hS
theorem c_X0_rowsMeeting (l : Launch) (D : va_G) (ky : Nat → ClassId) (aB ax au ay am : Nat) (sz N : Nat)  (bsz : Int32) (bgp : Int32) (ber : Int32) (bxs : Nat → Int32) (bus : Nat → Int32) (bys : Nat → Int32) (bme : Nat → Int32) (p0 : Int32) (rv : Int32) (hF : f_X0_rowsMeeting N p0 bme = some (rv)) : MI l yX0_rowsMeeting wsX0_rowsMeeting rm_X0_rowsMeeting D ky sz [.ref aB, .int p0] (w_book ky aB ax au ay am bsz bgp ber bxs bus bys bme) (w_book ky aB ax au ay am bsz bgp ber bxs bus bys bme) rv :=
  cr_X0_rowsMeeting l D ky aB ax au ay am sz N bsz bgp ber bxs bus bys bme p0 (rv) hF
abbrev rm_X0_letsLaw : Room := { frames := 1, cells := 0, slots := 0, locals := 21 }
set_option maxHeartbeats 4000000 in
set_option maxRecDepth 100000 in
theorem cr_X0_letsLaw (l : Launch) (D : va_G) (ky : Nat → ClassId) (aB ax au ay am : Nat) (sz N : Nat)  (bsz : Int32) (bgp : Int32) (ber : Int32) (bxs : Nat → Int32) (bus : Nat → Int32) (bys : Nat → Int32) (bme : Nat → Int32) (p0 : Int32) (p1 : Int32) (res : Int32) (hF : f_X0_letsLaw N p0 p1 bme = some res) : MI l yX0_letsLaw wsX0_letsLaw rm_X0_letsLaw D ky sz [.ref aB, .int p0, .int p1] (w_book ky aB ax au ay am bsz bgp ber bxs bus bys bme) (w_book ky aB ax au ay am bsz bgp ber bxs bus bys bme) res := by
  unfold MI
  refine Met.ofW (cc := cX0_letsLaw) (maxL := 3) (ret := (some .boolean)) (by decide) rfl ?_
  intro p e s m args below meth c s₁ B hml hv
  obtain ⟨rfl, hsz, hP, hK, hD0⟩ := hv
  have hx := B.exec
  have hb := B.bytes
  have hr := B.returns
  have hts := atoms_spec (ws := wsX0_letsLaw) B.pre
  have hown : s.vm.findClass RX0 = some m.cls := findClass_of_methodNamed B.named
  have hlocks := B.notSynchronized
  subst hsz
  have hD := hD0.self (sz := s.heap.size)
  generalize hAe : va_A (w_book ky aB ax au ay am bsz bgp ber bxs bus bys bme) s.heap.size = A at hD ⊢
  have hA : ∀ q : Nat, s.heap.size ≤ q → A q := fun q h => by rw [← hAe]; exact Or.inr h
  have hS : va_S A s.heap s.heap [] := va_S.rf
  have hP : va_P D vwCl (w_book ky aB ax au ay am bsz bgp ber bxs bus bys bme) s.heap := hP
  have hl := lv_entry ([.ref aB, .int p0, .int p1]) (n := 3) (Nat.le_of_ble_eq_true rfl)
  rw [lg_entry_eq]
  generalize (lg_sl ([.ref aB, .int p0, .int p1]) ++ List.replicate (3 - (lg_sl ([.ref aB, .int p0, .int p1])).length) Slot.unset).toArray = ls at hl ⊢
  have hl : lv_has ls 3 [(0, .ref aB), (1, .int p0), (2, .int p1)] := hl
  have C : cx p s m c ([.ref aB, .int p0, .int p1]).toArray D ky A cX0_letsLaw 3 wsX0_letsLaw RX0 := ⟨hx, hb, hml, hown, hts, hK, hA⟩
  have hQ : ∀ (pc : Nat) (H : Heap) (locs : List Loc) (ls : Array Slot), decode cX0_letsLaw pc = .ok (.ireturn, 1) → (res = 0 ∨ res = 1) → va_P D vwCl (w_book ky aB ax au ay am bsz bgp ber bxs bus bys bme) H → va_D A (w_book ky aB ax au ay am bsz bgp ber bxs bus bys bme) → va_S A s.heap H locs → W p l e rm_X0_letsLaw s m ([.ref aB, .int p0, .int p1]).toArray below meth c H locs 0 0 (MQ below (va_Qi (S := Unit) (fun r _ => r = res) (fun _ t => va_P D vwCl (w_book ky aB ax au ay am bsz bgp ber bxs bus bys bme) t.heap ∧ va_K D vwCl (tyW ky) t ∧ va_D A (w_book ky aB ax au ay am bsz bgp ber bxs bus bys bme)) A) ([.ref aB, .int p0, .int p1]).toArray s 0 0 A) (F0 m pc ls [.int res]) := fun pc H locs ls hd hz hP hD hS => W.zret hx hb hr (gz_n hz) (fun t ht hW => ⟨⟨res, (), rfl, rfl, by rw [ht]; exact hP, va_K.moved hW.alike hK, hD⟩, hS.F ht⟩) hS.2.2 hd
  unfold f_X0_letsLaw at hF
  refine lv_aload_n hx hb dX0_letsLaw_0 rfl (lv_at hl 0 rfl) ?_
  refine lv_iload_n hx hb dX0_letsLaw_1 rfl (lv_at hl 2 rfl) ?_
  obtain ⟨r2, h1, hF⟩ := b1_s hF
  refine cl_vi (As := [.int p1]) (rest := []) (w' := (w_book ky aB ax au ay am bsz bgp ber bxs bus bys bme)) ⟨hx, hb, hml, hown, hts⟩ hK hP hD hS hA (c_X0_rowsMeeting l D ky aB ax au ay am _ N  bsz bgp ber bxs bus bys bme p1 r2 h1) (cwV 1 hts gX0_letsLaw_X0_rowsMeeting rfl rfl rfl (by decide +kernel) ⟨Nat.le_of_ble_eq_true rfl, Nat.le_of_ble_eq_true rfl⟩) [0, 1, 2, 3, 4] [] [0, 1, 2, 3, 4] 0 0 rfl rfl rfl rfl (wr := []) rfl (by decide) rfl rfl hl.1 (Nat.le_of_ble_eq_true rfl) dX0_letsLaw_2 ⟨Nat.zero_le _, Nat.zero_le _⟩ (fun H locs hP hD hS => ?_)
  refine lv_iload_n hx hb dX0_letsLaw_5 rfl (lv_at hl 1 rfl) ?_
  refine lv_iand hx hb dX0_letsLaw_6 ?_
  refine lv_iload_n hx hb dX0_letsLaw_7 rfl (lv_at hl 1 rfl) ?_
  refine lv_icmp_ne (tgt := 15) hx hb dX0_letsLaw_8 (by decide) (fun c3 => ?_) (fun c3 => ?_)
  · have hF := if_f c3 hF
    refine lv_iconst (v := (0 : Int32)) hx hb dX0_letsLaw_15 (by decide) ?_
    have hF := Option.some.inj hF
    subst hF
    exact hQ _ _ _ _ dX0_letsLaw_16 (Or.inl rfl) hP hD hS
  · have hF := if_t c3 hF
    refine lv_iconst (v := (1 : Int32)) hx hb dX0_letsLaw_11 (by decide) ?_
    refine lv_goto (tgt := 16) hx hb dX0_letsLaw_12 (by decide) ?_
    have hF := Option.some.inj hF
    subst hF
    exact hQ _ _ _ _ dX0_letsLaw_16 (Or.inr rfl) hP hD hS
theorem c_X0_letsLaw (l : Launch) (D : va_G) (ky : Nat → ClassId) (aB ax au ay am : Nat) (sz N : Nat)  (bsz : Int32) (bgp : Int32) (ber : Int32) (bxs : Nat → Int32) (bus : Nat → Int32) (bys : Nat → Int32) (bme : Nat → Int32) (p0 : Int32) (p1 : Int32) (rv : Int32) (hF : f_X0_letsLaw N p0 p1 bme = some (rv)) : MI l yX0_letsLaw wsX0_letsLaw rm_X0_letsLaw D ky sz [.ref aB, .int p0, .int p1] (w_book ky aB ax au ay am bsz bgp ber bxs bus bys bme) (w_book ky aB ax au ay am bsz bgp ber bxs bus bys bme) rv :=
  cr_X0_letsLaw l D ky aB ax au ay am sz N bsz bgp ber bxs bus bys bme p0 p1 (rv) hF
abbrev rm_X0_lawOf : Room := { frames := 2, cells := 0, slots := 0, locals := 43 }
set_option maxHeartbeats 4000000 in
set_option maxRecDepth 100000 in
theorem w_X0_lawOf_5 {p : Program} {l : Launch} {e : Env} {s : State} {m : MethodId} {args : Array Value} {below : List Frame} {meth : Method} {c : Code} {Q : State → Prop} {A : Nat → Prop} {D : va_G} {ky : Nat → ClassId} {aB ax au ay am : Nat} {bsz : Int32} {bgp : Int32} {ber : Int32} {bxs : Nat → Int32} {bus : Nat → Int32} {bys : Nat → Int32} {bme : Nat → Int32} (N : Nat) (C : cx p s m c args D ky A cX0_lawOf 5 wsX0_lawOf RX0) (res : Int32) (hQ : ∀ (pc : Nat) (H : Heap) (locs : List Loc) (ls : Array Slot), decode cX0_lawOf pc = .ok (.ireturn, 1) → va_P D vwCl (w_book ky aB ax au ay am bsz bgp ber bxs bus bys bme) H → va_D A (w_book ky aB ax au ay am bsz bgp ber bxs bus bys bme) → va_S A s.heap H locs → W p l e rm_X0_lawOf s m args below meth c H locs 0 0 Q (F0 m pc ls [.int res])) (l1 : Int32) (l2 : Int32) : ∀ (n : Nat) (l3 : Int32) (l4 : Int32), f_X0_lawOf_5 N l1 l2 bme n l3 l4 = some res → ∀ (H : Heap) (locs : List Loc) (ls : Array Slot), va_P D vwCl (w_book ky aB ax au ay am bsz bgp ber bxs bus bys bme) H → va_D A (w_book ky aB ax au ay am bsz bgp ber bxs bus bys bme) → va_S A s.heap H locs → lv_has ls 5 [(0, .ref aB), (1, .int l1), (2, .int l2), (3, .int l3), (4, .int l4)] → W p l e rm_X0_lawOf s m args below meth c H locs 0 0 Q (F0 m 5 ls []) := by
  obtain ⟨hx, hb, hml, hown, hts, hK, hA⟩ := id C
  intro n
  induction n with
  | zero =>
    intro l3 l4 hF
    cases hF
  | succ n ih =>
    intro l3 l4 hF H locs ls hP hD hS hl
    have hF : b_X0_lawOf_5 N l1 l2 bme (f_X0_lawOf_5 N l1 l2 bme n) l3 l4 = some res := hF
    unfold b_X0_lawOf_5 at hF
    refine lv_iload hx hb dX0_lawOf_5 (lv_at hl 4 rfl) ?_
    refine lv_sipush (v := (289 : Int32)) hx hb dX0_lawOf_7 (by decide) ?_
    refine lv_icmp_ge (tgt := 40) hx hb dX0_lawOf_10 (by decide) (fun c1 => ?_) (fun c1 => ?_)
    · have hF := if_t c1 hF
      refine lv_bipush (v := (-4 : Int32)) hx hb dX0_lawOf_40 (by decide) ?_
      have hF := Option.some.inj hF
      subst hF
      exact hQ _ H _ _ dX0_lawOf_42 hP hD hS
    · have hF := if_f c1 hF
      refine lv_aload_n hx hb dX0_lawOf_13 rfl (lv_at hl 0 rfl) ?_
      refine lv_iload_n hx hb dX0_lawOf_14 rfl (lv_at hl 1 rfl) ?_
      refine lv_iload hx hb dX0_lawOf_15 (lv_at hl 4 rfl) ?_
      obtain ⟨r3, h2, hF⟩ := b1_s hF
      refine cl_vi (As := [.int l1, .int l4]) (rest := []) (w' := (w_book ky aB ax au ay am bsz bgp ber bxs bus bys bme)) ⟨hx, hb, hml, hown, hts⟩ hK hP hD hS hA (c_X0_letsLaw l D ky aB ax au ay am _ N  bsz bgp ber bxs bus bys bme l1 l4 r3 h2) (cwV 2 hts gX0_lawOf_X0_letsLaw rfl rfl rfl (by decide +kernel) ⟨Nat.le_of_ble_eq_true rfl, Nat.le_of_ble_eq_true rfl⟩) [0, 1, 2, 3, 4] [] [0, 1, 2, 3, 4] 0 0 rfl rfl rfl rfl (wr := []) rfl (by decide) rfl rfl hl.1 (Nat.le_of_ble_eq_true rfl) dX0_lawOf_17 ⟨Nat.zero_le _, Nat.zero_le _⟩ (fun H locs hP hD hS => ?_)
      refine lv_if_eq (tgt := 34) hx hb dX0_lawOf_20 (by decide) (fun c4 => ?_) (fun c4 => ?_)
      · have hF := if_t c4 hF
        refine lv_iinc (v := (l4 + (1 : Int32))) (lv' := [(4, .int (l4 + (1 : Int32))), (0, .ref aB), (1, .int l1), (2, .int l2), (3, .int l3)]) hx hb dX0_lawOf_34 hl (k := 4) rfl rfl (by decide) rfl (fun ls hl => ?_)
        refine lv_goto (tgt := 5) hx hb dX0_lawOf_37 (by decide) ?_
        exact ih l3 (l4 + (1 : Int32)) hF H _ _ hP hD hS (lv_sub hl [1, 2, 3, 4, 0] rfl)
      · have hF := if_f c4 hF
        refine lv_iload_n hx hb dX0_lawOf_23 rfl (lv_at hl 3 rfl) ?_
        refine lv_iload_n hx hb dX0_lawOf_24 rfl (lv_at hl 2 rfl) ?_
        refine lv_icmp_ne (tgt := 31) hx hb dX0_lawOf_25 (by decide) (fun c5 => ?_) (fun c5 => ?_)
        · have hF := if_f c5 hF
          refine lv_iinc (v := (l3 + (1 : Int32))) (lv' := [(3, .int (l3 + (1 : Int32))), (0, .ref aB), (1, .int l1), (2, .int l2), (4, .int l4)]) hx hb dX0_lawOf_31 hl (k := 3) rfl rfl (by decide) rfl (fun ls hl => ?_)
          refine lv_iinc (v := (l4 + (1 : Int32))) (lv' := [(4, .int (l4 + (1 : Int32))), (3, .int (l3 + (1 : Int32))), (0, .ref aB), (1, .int l1), (2, .int l2)]) hx hb dX0_lawOf_34 hl (k := 4) rfl rfl (by decide) rfl (fun ls hl => ?_)
          refine lv_goto (tgt := 5) hx hb dX0_lawOf_37 (by decide) ?_
          exact ih (l3 + (1 : Int32)) (l4 + (1 : Int32)) hF H _ _ hP hD hS (lv_sub hl [2, 3, 4, 1, 0] rfl)
        · have hF := if_t c5 hF
          refine lv_iload hx hb dX0_lawOf_28 (lv_at hl 4 rfl) ?_
          have hF := Option.some.inj hF
          subst hF
          exact hQ _ H _ _ dX0_lawOf_30 hP hD hS
set_option maxHeartbeats 4000000 in
set_option maxRecDepth 100000 in
theorem cr_X0_lawOf (l : Launch) (D : va_G) (ky : Nat → ClassId) (aB ax au ay am : Nat) (sz N : Nat)  (bsz : Int32) (bgp : Int32) (ber : Int32) (bxs : Nat → Int32) (bus : Nat → Int32) (bys : Nat → Int32) (bme : Nat → Int32) (p0 : Int32) (p1 : Int32) (res : Int32) (hF : f_X0_lawOf N p0 p1 bme = some res) : MI l yX0_lawOf wsX0_lawOf rm_X0_lawOf D ky sz [.ref aB, .int p0, .int p1] (w_book ky aB ax au ay am bsz bgp ber bxs bus bys bme) (w_book ky aB ax au ay am bsz bgp ber bxs bus bys bme) res := by
  unfold MI
  refine Met.ofW (cc := cX0_lawOf) (maxL := 5) (ret := (some .int)) (by decide) rfl ?_
  intro p e s m args below meth c s₁ B hml hv
  obtain ⟨rfl, hsz, hP, hK, hD0⟩ := hv
  have hx := B.exec
  have hb := B.bytes
  have hr := B.returns
  have hts := atoms_spec (ws := wsX0_lawOf) B.pre
  have hown : s.vm.findClass RX0 = some m.cls := findClass_of_methodNamed B.named
  have hlocks := B.notSynchronized
  subst hsz
  have hD := hD0.self (sz := s.heap.size)
  generalize hAe : va_A (w_book ky aB ax au ay am bsz bgp ber bxs bus bys bme) s.heap.size = A at hD ⊢
  have hA : ∀ q : Nat, s.heap.size ≤ q → A q := fun q h => by rw [← hAe]; exact Or.inr h
  have hS : va_S A s.heap s.heap [] := va_S.rf
  have hP : va_P D vwCl (w_book ky aB ax au ay am bsz bgp ber bxs bus bys bme) s.heap := hP
  have hl := lv_entry ([.ref aB, .int p0, .int p1]) (n := 5) (Nat.le_of_ble_eq_true rfl)
  rw [lg_entry_eq]
  generalize (lg_sl ([.ref aB, .int p0, .int p1]) ++ List.replicate (5 - (lg_sl ([.ref aB, .int p0, .int p1])).length) Slot.unset).toArray = ls at hl ⊢
  have hl : lv_has ls 5 [(0, .ref aB), (1, .int p0), (2, .int p1)] := hl
  have C : cx p s m c ([.ref aB, .int p0, .int p1]).toArray D ky A cX0_lawOf 5 wsX0_lawOf RX0 := ⟨hx, hb, hml, hown, hts, hK, hA⟩
  have hQ : ∀ (pc : Nat) (H : Heap) (locs : List Loc) (ls : Array Slot), decode cX0_lawOf pc = .ok (.ireturn, 1) → va_P D vwCl (w_book ky aB ax au ay am bsz bgp ber bxs bus bys bme) H → va_D A (w_book ky aB ax au ay am bsz bgp ber bxs bus bys bme) → va_S A s.heap H locs → W p l e rm_X0_lawOf s m ([.ref aB, .int p0, .int p1]).toArray below meth c H locs 0 0 (MQ below (va_Qi (S := Unit) (fun r _ => r = res) (fun _ t => va_P D vwCl (w_book ky aB ax au ay am bsz bgp ber bxs bus bys bme) t.heap ∧ va_K D vwCl (tyW ky) t ∧ va_D A (w_book ky aB ax au ay am bsz bgp ber bxs bus bys bme)) A) ([.ref aB, .int p0, .int p1]).toArray s 0 0 A) (F0 m pc ls [.int res]) := fun pc H locs ls hd hP hD hS => W.iret hx hb hr (fun t ht hW => ⟨⟨res, (), rfl, rfl, by rw [ht]; exact hP, va_K.moved hW.alike hK, hD⟩, hS.F ht⟩) hS.2.2 hd
  unfold f_X0_lawOf at hF
  refine lv_iconst (v := (0 : Int32)) hx hb dX0_lawOf_0 (by decide) ?_
  refine lv_istore_n (lv' := [(3, .int (0 : Int32)), (0, .ref aB), (1, .int p0), (2, .int p1)]) hx hb dX0_lawOf_1 rfl hl (by decide) rfl (fun ls hl => ?_)
  refine lv_iconst (v := (0 : Int32)) hx hb dX0_lawOf_2 (by decide) ?_
  refine lv_istore (lv' := [(4, .int (0 : Int32)), (3, .int (0 : Int32)), (0, .ref aB), (1, .int p0), (2, .int p1)]) hx hb dX0_lawOf_3 hl (by decide) rfl (fun ls hl => ?_)
  exact w_X0_lawOf_5 N C res hQ p0 p1 N (0 : Int32) (0 : Int32) hF _ _ _ hP hD hS (lv_sub hl [2, 3, 4, 1, 0] rfl)
theorem c_X0_lawOf (l : Launch) (D : va_G) (ky : Nat → ClassId) (aB ax au ay am : Nat) (sz N : Nat)  (bsz : Int32) (bgp : Int32) (ber : Int32) (bxs : Nat → Int32) (bus : Nat → Int32) (bys : Nat → Int32) (bme : Nat → Int32) (p0 : Int32) (p1 : Int32) (rv : Int32) (hF : f_X0_lawOf N p0 p1 bme = some (rv)) : MI l yX0_lawOf wsX0_lawOf rm_X0_lawOf D ky sz [.ref aB, .int p0, .int p1] (w_book ky aB ax au ay am bsz bgp ber bxs bus bys bme) (w_book ky aB ax au ay am bsz bgp ber bxs bus bys bme) rv :=
  cr_X0_lawOf l D ky aB ax au ay am sz N bsz bgp ber bxs bus bys bme p0 p1 (rv) hF
abbrev rm_X0_isWhole : Room := { frames := 3, cells := 0, slots := 0, locals := 67 }
set_option maxHeartbeats 4000000 in
set_option maxRecDepth 100000 in
theorem cr_X0_isWhole (l : Launch) (D : va_G) (ky : Nat → ClassId) (aB ax au ay am : Nat) (sz N : Nat)  (bsz : Int32) (bgp : Int32) (ber : Int32) (bxs : Nat → Int32) (bus : Nat → Int32) (bys : Nat → Int32) (bme : Nat → Int32) (p0 : Int32) (res : Int32) (hF : f_X0_isWhole N p0 bme = some res) : MI l yX0_isWhole wsX0_isWhole rm_X0_isWhole D ky sz [.ref aB, .int p0] (w_book ky aB ax au ay am bsz bgp ber bxs bus bys bme) (w_book ky aB ax au ay am bsz bgp ber bxs bus bys bme) res := by
  unfold MI
  refine Met.ofW (cc := cX0_isWhole) (maxL := 2) (ret := (some .boolean)) (by decide) rfl ?_
  intro p e s m args below meth c s₁ B hml hv
  obtain ⟨rfl, hsz, hP, hK, hD0⟩ := hv
  have hx := B.exec
  have hb := B.bytes
  have hr := B.returns
  have hts := atoms_spec (ws := wsX0_isWhole) B.pre
  have hown : s.vm.findClass RX0 = some m.cls := findClass_of_methodNamed B.named
  have hlocks := B.notSynchronized
  subst hsz
  have hD := hD0.self (sz := s.heap.size)
  generalize hAe : va_A (w_book ky aB ax au ay am bsz bgp ber bxs bus bys bme) s.heap.size = A at hD ⊢
  have hA : ∀ q : Nat, s.heap.size ≤ q → A q := fun q h => by rw [← hAe]; exact Or.inr h
  have hS : va_S A s.heap s.heap [] := va_S.rf
  have hP : va_P D vwCl (w_book ky aB ax au ay am bsz bgp ber bxs bus bys bme) s.heap := hP
  have hl := lv_entry ([.ref aB, .int p0]) (n := 2) (Nat.le_of_ble_eq_true rfl)
  rw [lg_entry_eq]
  generalize (lg_sl ([.ref aB, .int p0]) ++ List.replicate (2 - (lg_sl ([.ref aB, .int p0])).length) Slot.unset).toArray = ls at hl ⊢
  have hl : lv_has ls 2 [(0, .ref aB), (1, .int p0)] := hl
  have C : cx p s m c ([.ref aB, .int p0]).toArray D ky A cX0_isWhole 2 wsX0_isWhole RX0 := ⟨hx, hb, hml, hown, hts, hK, hA⟩
  have hQ : ∀ (pc : Nat) (H : Heap) (locs : List Loc) (ls : Array Slot), decode cX0_isWhole pc = .ok (.ireturn, 1) → (res = 0 ∨ res = 1) → va_P D vwCl (w_book ky aB ax au ay am bsz bgp ber bxs bus bys bme) H → va_D A (w_book ky aB ax au ay am bsz bgp ber bxs bus bys bme) → va_S A s.heap H locs → W p l e rm_X0_isWhole s m ([.ref aB, .int p0]).toArray below meth c H locs 0 0 (MQ below (va_Qi (S := Unit) (fun r _ => r = res) (fun _ t => va_P D vwCl (w_book ky aB ax au ay am bsz bgp ber bxs bus bys bme) t.heap ∧ va_K D vwCl (tyW ky) t ∧ va_D A (w_book ky aB ax au ay am bsz bgp ber bxs bus bys bme)) A) ([.ref aB, .int p0]).toArray s 0 0 A) (F0 m pc ls [.int res]) := fun pc H locs ls hd hz hP hD hS => W.zret hx hb hr (gz_n hz) (fun t ht hW => ⟨⟨res, (), rfl, rfl, by rw [ht]; exact hP, va_K.moved hW.alike hK, hD⟩, hS.F ht⟩) hS.2.2 hd
  unfold f_X0_isWhole at hF
  refine lv_aload_n hx hb dX0_isWhole_0 rfl (lv_at hl 0 rfl) ?_
  refine lv_iload_n hx hb dX0_isWhole_1 rfl (lv_at hl 1 rfl) ?_
  refine lv_iconst (v := (0 : Int32)) hx hb dX0_isWhole_2 (by decide) ?_
  obtain ⟨r2, h1, hF⟩ := b1_s hF
  refine cl_vi (As := [.int p0, .int (0 : Int32)]) (rest := []) (w' := (w_book ky aB ax au ay am bsz bgp ber bxs bus bys bme)) ⟨hx, hb, hml, hown, hts⟩ hK hP hD hS hA (c_X0_lawOf l D ky aB ax au ay am _ N  bsz bgp ber bxs bus bys bme p0 (0 : Int32) r2 h1) (cwV 2 hts gX0_isWhole_X0_lawOf rfl rfl rfl (by decide +kernel) ⟨Nat.le_of_ble_eq_true rfl, Nat.le_of_ble_eq_true rfl⟩) [0, 1, 2, 3, 4] [] [0, 1, 2, 3, 4] 0 0 rfl rfl rfl rfl (wr := []) rfl (by decide) rfl rfl hl.1 (Nat.le_of_ble_eq_true rfl) dX0_isWhole_3 ⟨Nat.zero_le _, Nat.zero_le _⟩ (fun H locs hP hD hS => ?_)
  refine lv_bipush (v := (-4 : Int32)) hx hb dX0_isWhole_6 (by decide) ?_
  refine lv_icmp_eq (tgt := 15) hx hb dX0_isWhole_8 (by decide) (fun c3 => ?_) (fun c3 => ?_)
  · have hF := if_t c3 hF
    refine lv_iconst (v := (0 : Int32)) hx hb dX0_isWhole_15 (by decide) ?_
    have hF := Option.some.inj hF
    subst hF
    exact hQ _ _ _ _ dX0_isWhole_16 (Or.inl rfl) hP hD hS
  · have hF := if_f c3 hF
    refine lv_iconst (v := (1 : Int32)) hx hb dX0_isWhole_11 (by decide) ?_
    refine lv_goto (tgt := 16) hx hb dX0_isWhole_12 (by decide) ?_
    have hF := Option.some.inj hF
    subst hF
    exact hQ _ _ _ _ dX0_isWhole_16 (Or.inr rfl) hP hD hS
theorem c_X0_isWhole (l : Launch) (D : va_G) (ky : Nat → ClassId) (aB ax au ay am : Nat) (sz N : Nat)  (bsz : Int32) (bgp : Int32) (ber : Int32) (bxs : Nat → Int32) (bus : Nat → Int32) (bys : Nat → Int32) (bme : Nat → Int32) (p0 : Int32) (rv : Int32) (hF : f_X0_isWhole N p0 bme = some (rv)) : MI l yX0_isWhole wsX0_isWhole rm_X0_isWhole D ky sz [.ref aB, .int p0] (w_book ky aB ax au ay am bsz bgp ber bxs bus bys bme) (w_book ky aB ax au ay am bsz bgp ber bxs bus bys bme) rv :=
  cr_X0_isWhole l D ky aB ax au ay am sz N bsz bgp ber bxs bus bys bme p0 (rv) hF
abbrev rm_X0_lawCount : Room := { frames := 2, cells := 0, slots := 0, locals := 43 }
set_option maxHeartbeats 4000000 in
set_option maxRecDepth 100000 in
theorem w_X0_lawCount_4 {p : Program} {l : Launch} {e : Env} {s : State} {m : MethodId} {args : Array Value} {below : List Frame} {meth : Method} {c : Code} {Q : State → Prop} {A : Nat → Prop} {D : va_G} {ky : Nat → ClassId} {aB ax au ay am : Nat} {bsz : Int32} {bgp : Int32} {ber : Int32} {bxs : Nat → Int32} {bus : Nat → Int32} {bys : Nat → Int32} {bme : Nat → Int32} (N : Nat) (C : cx p s m c args D ky A cX0_lawCount 4 wsX0_lawCount RX0) (res : Int32) (hQ : ∀ (pc : Nat) (H : Heap) (locs : List Loc) (ls : Array Slot), decode cX0_lawCount pc = .ok (.ireturn, 1) → va_P D vwCl (w_book ky aB ax au ay am bsz bgp ber bxs bus bys bme) H → va_D A (w_book ky aB ax au ay am bsz bgp ber bxs bus bys bme) → va_S A s.heap H locs → W p l e rm_X0_lawCount s m args below meth c H locs 0 0 Q (F0 m pc ls [.int res])) (l1 : Int32) : ∀ (n : Nat) (l2 : Int32) (l3 : Int32), f_X0_lawCount_4 N l1 bme n l2 l3 = some res → ∀ (H : Heap) (locs : List Loc) (ls : Array Slot), va_P D vwCl (w_book ky aB ax au ay am bsz bgp ber bxs bus bys bme) H → va_D A (w_book ky aB ax au ay am bsz bgp ber bxs bus bys bme) → va_S A s.heap H locs → lv_has ls 4 [(0, .ref aB), (1, .int l1), (2, .int l2), (3, .int l3)] → W p l e rm_X0_lawCount s m args below meth c H locs 0 0 Q (F0 m 4 ls []) := by
  obtain ⟨hx, hb, hml, hown, hts, hK, hA⟩ := id C
  intro n
  induction n with
  | zero =>
    intro l2 l3 hF
    cases hF
  | succ n ih =>
    intro l2 l3 hF H locs ls hP hD hS hl
    have hF : b_X0_lawCount_4 N l1 bme (f_X0_lawCount_4 N l1 bme n) l2 l3 = some res := hF
    unfold b_X0_lawCount_4 at hF
    refine lv_iload_n hx hb dX0_lawCount_4 rfl (lv_at hl 3 rfl) ?_
    refine lv_sipush (v := (289 : Int32)) hx hb dX0_lawCount_5 (by decide) ?_
    refine lv_icmp_ge (tgt := 29) hx hb dX0_lawCount_8 (by decide) (fun c1 => ?_) (fun c1 => ?_)
    · have hF := if_t c1 hF
      refine lv_iload_n hx hb dX0_lawCount_29 rfl (lv_at hl 2 rfl) ?_
      have hF := Option.some.inj hF
      subst hF
      exact hQ _ H _ _ dX0_lawCount_30 hP hD hS
    · have hF := if_f c1 hF
      refine lv_aload_n hx hb dX0_lawCount_11 rfl (lv_at hl 0 rfl) ?_
      refine lv_iload_n hx hb dX0_lawCount_12 rfl (lv_at hl 1 rfl) ?_
      refine lv_iload_n hx hb dX0_lawCount_13 rfl (lv_at hl 3 rfl) ?_
      obtain ⟨r3, h2, hF⟩ := b1_s hF
      refine cl_vi (As := [.int l1, .int l3]) (rest := []) (w' := (w_book ky aB ax au ay am bsz bgp ber bxs bus bys bme)) ⟨hx, hb, hml, hown, hts⟩ hK hP hD hS hA (c_X0_letsLaw l D ky aB ax au ay am _ N  bsz bgp ber bxs bus bys bme l1 l3 r3 h2) (cwV 2 hts gX0_lawCount_X0_letsLaw rfl rfl rfl (by decide +kernel) ⟨Nat.le_of_ble_eq_true rfl, Nat.le_of_ble_eq_true rfl⟩) [0, 1, 2, 3, 4] [] [0, 1, 2, 3, 4] 0 0 rfl rfl rfl rfl (wr := []) rfl (by decide) rfl rfl hl.1 (Nat.le_of_ble_eq_true rfl) dX0_lawCount_14 ⟨Nat.zero_le _, Nat.zero_le _⟩ (fun H locs hP hD hS => ?_)
      refine lv_if_eq (tgt := 23) hx hb dX0_lawCount_17 (by decide) (fun c4 => ?_) (fun c4 => ?_)
      · have hF := if_t c4 hF
        refine lv_iinc (v := (l3 + (1 : Int32))) (lv' := [(3, .int (l3 + (1 : Int32))), (0, .ref aB), (1, .int l1), (2, .int l2)]) hx hb dX0_lawCount_23 hl (k := 3) rfl rfl (by decide) rfl (fun ls hl => ?_)
        refine lv_goto (tgt := 4) hx hb dX0_lawCount_26 (by decide) ?_
        exact ih l2 (l3 + (1 : Int32)) hF H _ _ hP hD hS (lv_sub hl [1, 2, 3, 0] rfl)
      · have hF := if_f c4 hF
        refine lv_iinc (v := (l2 + (1 : Int32))) (lv' := [(2, .int (l2 + (1 : Int32))), (0, .ref aB), (1, .int l1), (3, .int l3)]) hx hb dX0_lawCount_20 hl (k := 2) rfl rfl (by decide) rfl (fun ls hl => ?_)
        refine lv_iinc (v := (l3 + (1 : Int32))) (lv' := [(3, .int (l3 + (1 : Int32))), (2, .int (l2 + (1 : Int32))), (0, .ref aB), (1, .int l1)]) hx hb dX0_lawCount_23 hl (k := 3) rfl rfl (by decide) rfl (fun ls hl => ?_)
        refine lv_goto (tgt := 4) hx hb dX0_lawCount_26 (by decide) ?_
        exact ih (l2 + (1 : Int32)) (l3 + (1 : Int32)) hF H _ _ hP hD hS (lv_sub hl [2, 3, 1, 0] rfl)
set_option maxHeartbeats 4000000 in
set_option maxRecDepth 100000 in
theorem cr_X0_lawCount (l : Launch) (D : va_G) (ky : Nat → ClassId) (aB ax au ay am : Nat) (sz N : Nat)  (bsz : Int32) (bgp : Int32) (ber : Int32) (bxs : Nat → Int32) (bus : Nat → Int32) (bys : Nat → Int32) (bme : Nat → Int32) (p0 : Int32) (res : Int32) (hF : f_X0_lawCount N p0 bme = some res) : MI l yX0_lawCount wsX0_lawCount rm_X0_lawCount D ky sz [.ref aB, .int p0] (w_book ky aB ax au ay am bsz bgp ber bxs bus bys bme) (w_book ky aB ax au ay am bsz bgp ber bxs bus bys bme) res := by
  unfold MI
  refine Met.ofW (cc := cX0_lawCount) (maxL := 4) (ret := (some .int)) (by decide) rfl ?_
  intro p e s m args below meth c s₁ B hml hv
  obtain ⟨rfl, hsz, hP, hK, hD0⟩ := hv
  have hx := B.exec
  have hb := B.bytes
  have hr := B.returns
  have hts := atoms_spec (ws := wsX0_lawCount) B.pre
  have hown : s.vm.findClass RX0 = some m.cls := findClass_of_methodNamed B.named
  have hlocks := B.notSynchronized
  subst hsz
  have hD := hD0.self (sz := s.heap.size)
  generalize hAe : va_A (w_book ky aB ax au ay am bsz bgp ber bxs bus bys bme) s.heap.size = A at hD ⊢
  have hA : ∀ q : Nat, s.heap.size ≤ q → A q := fun q h => by rw [← hAe]; exact Or.inr h
  have hS : va_S A s.heap s.heap [] := va_S.rf
  have hP : va_P D vwCl (w_book ky aB ax au ay am bsz bgp ber bxs bus bys bme) s.heap := hP
  have hl := lv_entry ([.ref aB, .int p0]) (n := 4) (Nat.le_of_ble_eq_true rfl)
  rw [lg_entry_eq]
  generalize (lg_sl ([.ref aB, .int p0]) ++ List.replicate (4 - (lg_sl ([.ref aB, .int p0])).length) Slot.unset).toArray = ls at hl ⊢
  have hl : lv_has ls 4 [(0, .ref aB), (1, .int p0)] := hl
  have C : cx p s m c ([.ref aB, .int p0]).toArray D ky A cX0_lawCount 4 wsX0_lawCount RX0 := ⟨hx, hb, hml, hown, hts, hK, hA⟩
  have hQ : ∀ (pc : Nat) (H : Heap) (locs : List Loc) (ls : Array Slot), decode cX0_lawCount pc = .ok (.ireturn, 1) → va_P D vwCl (w_book ky aB ax au ay am bsz bgp ber bxs bus bys bme) H → va_D A (w_book ky aB ax au ay am bsz bgp ber bxs bus bys bme) → va_S A s.heap H locs → W p l e rm_X0_lawCount s m ([.ref aB, .int p0]).toArray below meth c H locs 0 0 (MQ below (va_Qi (S := Unit) (fun r _ => r = res) (fun _ t => va_P D vwCl (w_book ky aB ax au ay am bsz bgp ber bxs bus bys bme) t.heap ∧ va_K D vwCl (tyW ky) t ∧ va_D A (w_book ky aB ax au ay am bsz bgp ber bxs bus bys bme)) A) ([.ref aB, .int p0]).toArray s 0 0 A) (F0 m pc ls [.int res]) := fun pc H locs ls hd hP hD hS => W.iret hx hb hr (fun t ht hW => ⟨⟨res, (), rfl, rfl, by rw [ht]; exact hP, va_K.moved hW.alike hK, hD⟩, hS.F ht⟩) hS.2.2 hd
  unfold f_X0_lawCount at hF
  refine lv_iconst (v := (0 : Int32)) hx hb dX0_lawCount_0 (by decide) ?_
  refine lv_istore_n (lv' := [(2, .int (0 : Int32)), (0, .ref aB), (1, .int p0)]) hx hb dX0_lawCount_1 rfl hl (by decide) rfl (fun ls hl => ?_)
  refine lv_iconst (v := (0 : Int32)) hx hb dX0_lawCount_2 (by decide) ?_
  refine lv_istore_n (lv' := [(3, .int (0 : Int32)), (2, .int (0 : Int32)), (0, .ref aB), (1, .int p0)]) hx hb dX0_lawCount_3 rfl hl (by decide) rfl (fun ls hl => ?_)
  exact w_X0_lawCount_4 N C res hQ p0 N (0 : Int32) (0 : Int32) hF _ _ _ hP hD hS (lv_sub hl [2, 3, 1, 0] rfl)
theorem c_X0_lawCount (l : Launch) (D : va_G) (ky : Nat → ClassId) (aB ax au ay am : Nat) (sz N : Nat)  (bsz : Int32) (bgp : Int32) (ber : Int32) (bxs : Nat → Int32) (bus : Nat → Int32) (bys : Nat → Int32) (bme : Nat → Int32) (p0 : Int32) (rv : Int32) (hF : f_X0_lawCount N p0 bme = some (rv)) : MI l yX0_lawCount wsX0_lawCount rm_X0_lawCount D ky sz [.ref aB, .int p0] (w_book ky aB ax au ay am bsz bgp ber bxs bus bys bme) (w_book ky aB ax au ay am bsz bgp ber bxs bus bys bme) rv :=
  cr_X0_lawCount l D ky aB ax au ay am sz N bsz bgp ber bxs bus bys bme p0 (rv) hF
abbrev rm_X0_leastSum : Room := { frames := 2, cells := 0, slots := 0, locals := 43 }
theorem kX0_leastSum_0 : (Cond.methodLink RX0 82 Lib.Math.min.name) ∈ wsX0_leastSum := by decide +kernel
theorem kX0_leastSum_1 : (Cond.static Lib.Math.min.name) ∈ wsX0_leastSum := by decide +kernel
theorem kX0_leastSum_2 : (Cond.initialized "java/lang/Math") ∈ wsX0_leastSum := by decide +kernel
theorem kX0_leastSum_3 : (Cond.code Lib.Math.min.name Lib.Math.min.code 2 (some .int)) ∈ wsX0_leastSum := by decide +kernel
set_option maxHeartbeats 4000000 in
set_option maxRecDepth 100000 in
theorem w_X0_leastSum_8 {p : Program} {l : Launch} {e : Env} {s : State} {m : MethodId} {args : Array Value} {below : List Frame} {meth : Method} {c : Code} {Q : State → Prop} {A : Nat → Prop} {D : va_G} {ky : Nat → ClassId} {aB ax au ay am : Nat} {bsz : Int32} {bgp : Int32} {ber : Int32} {bxs : Nat → Int32} {bus : Nat → Int32} {bys : Nat → Int32} {bme : Nat → Int32} (N : Nat) (C : cx p s m c args D ky A cX0_leastSum 6 wsX0_leastSum RX0) (res : Int32) (hQ : ∀ (pc : Nat) (H : Heap) (locs : List Loc) (ls : Array Slot), decode cX0_leastSum pc = .ok (.ireturn, 1) → va_P D vwCl (w_book ky aB ax au ay am bsz bgp ber bxs bus bys bme) H → va_D A (w_book ky aB ax au ay am bsz bgp ber bxs bus bys bme) → va_S A s.heap H locs → W p l e rm_X0_leastSum s m args below meth c H locs 0 0 Q (F0 m pc ls [.int res])) (l1 : Int32) (l2 : Int32) (l3 : Int32) : ∀ (n : Nat) (l4 : Int32) (l5 : Int32), f_X0_leastSum_8 N l1 l2 l3 bme n l4 l5 = some res → ∀ (H : Heap) (locs : List Loc) (ls : Array Slot), va_P D vwCl (w_book ky aB ax au ay am bsz bgp ber bxs bus bys bme) H → va_D A (w_book ky aB ax au ay am bsz bgp ber bxs bus bys bme) → va_S A s.heap H locs → lv_has ls 6 [(0, .ref aB), (1, .int l1), (2, .int l2), (3, .int l3), (4, .int l4), (5, .int l5)] → W p l e rm_X0_leastSum s m args below meth c H locs 0 0 Q (F0 m 8 ls []) := by
  obtain ⟨hx, hb, hml, hown, hts, hK, hA⟩ := id C
  intro n
  induction n with
  | zero =>
    intro l4 l5 hF
    cases hF
  | succ n ih =>
    intro l4 l5 hF H locs ls hP hD hS hl
    have hF : b_X0_leastSum_8 N l1 l2 l3 bme (f_X0_leastSum_8 N l1 l2 l3 bme n) l4 l5 = some res := hF
    unfold b_X0_leastSum_8 at hF
    refine lv_iload hx hb dX0_leastSum_8 (lv_at hl 5 rfl) ?_
    refine lv_sipush (v := (289 : Int32)) hx hb dX0_leastSum_10 (by decide) ?_
    refine lv_icmp_ge (tgt := 46) hx hb dX0_leastSum_13 (by decide) (fun c1 => ?_) (fun c1 => ?_)
    · have hF := if_t c1 hF
      refine lv_iload hx hb dX0_leastSum_46 (lv_at hl 4 rfl) ?_
      have hF := Option.some.inj hF
      subst hF
      exact hQ _ H _ _ dX0_leastSum_48 hP hD hS
    · have hF := if_f c1 hF
      refine lv_aload_n hx hb dX0_leastSum_16 rfl (lv_at hl 0 rfl) ?_
      refine lv_iload_n hx hb dX0_leastSum_17 rfl (lv_at hl 1 rfl) ?_
      refine lv_iload hx hb dX0_leastSum_18 (lv_at hl 5 rfl) ?_
      obtain ⟨r3, h2, hF⟩ := b1_s hF
      refine cl_vi (As := [.int l1, .int l5]) (rest := []) (w' := (w_book ky aB ax au ay am bsz bgp ber bxs bus bys bme)) ⟨hx, hb, hml, hown, hts⟩ hK hP hD hS hA (c_X0_letsLaw l D ky aB ax au ay am _ N  bsz bgp ber bxs bus bys bme l1 l5 r3 h2) (cwV 2 hts gX0_leastSum_X0_letsLaw rfl rfl rfl (by decide +kernel) ⟨Nat.le_of_ble_eq_true rfl, Nat.le_of_ble_eq_true rfl⟩) [0, 1, 2, 3, 4] [] [0, 1, 2, 3, 4] 0 0 rfl rfl rfl rfl (wr := []) rfl (by decide) rfl rfl hl.1 (Nat.le_of_ble_eq_true rfl) dX0_leastSum_20 ⟨Nat.zero_le _, Nat.zero_le _⟩ (fun H locs hP hD hS => ?_)
      refine lv_if_eq (tgt := 40) hx hb dX0_leastSum_23 (by decide) (fun c4 => ?_) (fun c4 => ?_)
      · have hF := if_t c4 hF
        refine lv_iinc (v := (l5 + (1 : Int32))) (lv' := [(5, .int (l5 + (1 : Int32))), (0, .ref aB), (1, .int l1), (2, .int l2), (3, .int l3), (4, .int l4)]) hx hb dX0_leastSum_40 hl (k := 5) rfl rfl (by decide) rfl (fun ls hl => ?_)
        refine lv_goto (tgt := 8) hx hb dX0_leastSum_43 (by decide) ?_
        exact ih l4 (l5 + (1 : Int32)) hF H _ _ hP hD hS (lv_sub hl [1, 2, 3, 4, 5, 0] rfl)
      · have hF := if_f c4 hF
        refine lv_iload hx hb dX0_leastSum_26 (lv_at hl 4 rfl) ?_
        refine lv_iload hx hb dX0_leastSum_28 (lv_at hl 5 rfl) ?_
        refine lv_iload_n hx hb dX0_leastSum_30 rfl (lv_at hl 2 rfl) ?_
        refine lv_iload_n hx hb dX0_leastSum_31 rfl (lv_at hl 3 rfl) ?_
        obtain ⟨r6, h5, hF⟩ := b1_s hF
        refine cl_si (As := [.int l5, .int l2, .int l3]) (rest := [.int l4]) ⟨hx, hb, hml, hown, hts⟩ hK hP hD hS hA (c_X3_sum l D ky  _ N   l5 l2 l3 r6 h5) (va_cwS 3 hts gX0_leastSum_X3_sum rfl rfl rfl (by decide +kernel) ⟨Nat.le_of_ble_eq_true rfl, Nat.le_of_ble_eq_true rfl⟩) rfl hl.1 (Nat.le_of_ble_eq_true rfl) dX0_leastSum_32 ⟨Nat.zero_le _, Nat.zero_le _⟩ (fun H locs hP hD hS => ?_)
        refine va_mmin hx hb (hml.trans hl.1.symm) hown (hts _ kX0_leastSum_0) (hts _ kX0_leastSum_1) (hts _ kX0_leastSum_2) (hts _ kX0_leastSum_3) (Nat.le_of_ble_eq_true rfl) (Nat.le_of_ble_eq_true rfl) (Nat.zero_le _) (Nat.zero_le _) dX0_leastSum_35 ?_
        refine lv_istore (lv' := [(4, .int (if r6 < l4 then r6 else l4)), (0, .ref aB), (1, .int l1), (2, .int l2), (3, .int l3), (5, .int l5)]) hx hb dX0_leastSum_38 hl (by decide) rfl (fun ls hl => ?_)
        refine lv_iinc (v := (l5 + (1 : Int32))) (lv' := [(5, .int (l5 + (1 : Int32))), (4, .int (if r6 < l4 then r6 else l4)), (0, .ref aB), (1, .int l1), (2, .int l2), (3, .int l3)]) hx hb dX0_leastSum_40 hl (k := 5) rfl rfl (by decide) rfl (fun ls hl => ?_)
        refine lv_goto (tgt := 8) hx hb dX0_leastSum_43 (by decide) ?_
        exact ih (if r6 < l4 then r6 else l4) (l5 + (1 : Int32)) hF H _ _ hP hD hS (lv_sub hl [2, 3, 4, 5, 1, 0] rfl)
set_option maxHeartbeats 4000000 in
set_option maxRecDepth 100000 in
theorem cr_X0_leastSum (l : Launch) (D : va_G) (ky : Nat → ClassId) (aB ax au ay am : Nat) (sz N : Nat)  (bsz : Int32) (bgp : Int32) (ber : Int32) (bxs : Nat → Int32) (bus : Nat → Int32) (bys : Nat → Int32) (bme : Nat → Int32) (p0 : Int32) (p1 : Int32) (p2 : Int32) (res : Int32) (hF : f_X0_leastSum N p0 p1 p2 bme = some res) : MI l yX0_leastSum wsX0_leastSum rm_X0_leastSum D ky sz [.ref aB, .int p0, .int p1, .int p2] (w_book ky aB ax au ay am bsz bgp ber bxs bus bys bme) (w_book ky aB ax au ay am bsz bgp ber bxs bus bys bme) res := by
  unfold MI
  refine Met.ofW (cc := cX0_leastSum) (maxL := 6) (ret := (some .int)) (by decide) rfl ?_
  intro p e s m args below meth c s₁ B hml hv
  obtain ⟨rfl, hsz, hP, hK, hD0⟩ := hv
  have hx := B.exec
  have hb := B.bytes
  have hr := B.returns
  have hts := atoms_spec (ws := wsX0_leastSum) B.pre
  have hown : s.vm.findClass RX0 = some m.cls := findClass_of_methodNamed B.named
  have hlocks := B.notSynchronized
  subst hsz
  have hD := hD0.self (sz := s.heap.size)
  generalize hAe : va_A (w_book ky aB ax au ay am bsz bgp ber bxs bus bys bme) s.heap.size = A at hD ⊢
  have hA : ∀ q : Nat, s.heap.size ≤ q → A q := fun q h => by rw [← hAe]; exact Or.inr h
  have hS : va_S A s.heap s.heap [] := va_S.rf
  have hP : va_P D vwCl (w_book ky aB ax au ay am bsz bgp ber bxs bus bys bme) s.heap := hP
  have hl := lv_entry ([.ref aB, .int p0, .int p1, .int p2]) (n := 6) (Nat.le_of_ble_eq_true rfl)
  rw [lg_entry_eq]
  generalize (lg_sl ([.ref aB, .int p0, .int p1, .int p2]) ++ List.replicate (6 - (lg_sl ([.ref aB, .int p0, .int p1, .int p2])).length) Slot.unset).toArray = ls at hl ⊢
  have hl : lv_has ls 6 [(0, .ref aB), (1, .int p0), (2, .int p1), (3, .int p2)] := hl
  have C : cx p s m c ([.ref aB, .int p0, .int p1, .int p2]).toArray D ky A cX0_leastSum 6 wsX0_leastSum RX0 := ⟨hx, hb, hml, hown, hts, hK, hA⟩
  have hQ : ∀ (pc : Nat) (H : Heap) (locs : List Loc) (ls : Array Slot), decode cX0_leastSum pc = .ok (.ireturn, 1) → va_P D vwCl (w_book ky aB ax au ay am bsz bgp ber bxs bus bys bme) H → va_D A (w_book ky aB ax au ay am bsz bgp ber bxs bus bys bme) → va_S A s.heap H locs → W p l e rm_X0_leastSum s m ([.ref aB, .int p0, .int p1, .int p2]).toArray below meth c H locs 0 0 (MQ below (va_Qi (S := Unit) (fun r _ => r = res) (fun _ t => va_P D vwCl (w_book ky aB ax au ay am bsz bgp ber bxs bus bys bme) t.heap ∧ va_K D vwCl (tyW ky) t ∧ va_D A (w_book ky aB ax au ay am bsz bgp ber bxs bus bys bme)) A) ([.ref aB, .int p0, .int p1, .int p2]).toArray s 0 0 A) (F0 m pc ls [.int res]) := fun pc H locs ls hd hP hD hS => W.iret hx hb hr (fun t ht hW => ⟨⟨res, (), rfl, rfl, by rw [ht]; exact hP, va_K.moved hW.alike hK, hD⟩, hS.F ht⟩) hS.2.2 hd
  unfold f_X0_leastSum at hF
  refine lv_sipush (v := (10000 : Int32)) hx hb dX0_leastSum_0 (by decide) ?_
  refine lv_istore (lv' := [(4, .int (10000 : Int32)), (0, .ref aB), (1, .int p0), (2, .int p1), (3, .int p2)]) hx hb dX0_leastSum_3 hl (by decide) rfl (fun ls hl => ?_)
  refine lv_iconst (v := (0 : Int32)) hx hb dX0_leastSum_5 (by decide) ?_
  refine lv_istore (lv' := [(5, .int (0 : Int32)), (4, .int (10000 : Int32)), (0, .ref aB), (1, .int p0), (2, .int p1), (3, .int p2)]) hx hb dX0_leastSum_6 hl (by decide) rfl (fun ls hl => ?_)
  exact w_X0_leastSum_8 N C res hQ p0 p1 p2 N (10000 : Int32) (0 : Int32) hF _ _ _ hP hD hS (lv_sub hl [2, 3, 4, 5, 1, 0] rfl)
theorem c_X0_leastSum (l : Launch) (D : va_G) (ky : Nat → ClassId) (aB ax au ay am : Nat) (sz N : Nat)  (bsz : Int32) (bgp : Int32) (ber : Int32) (bxs : Nat → Int32) (bus : Nat → Int32) (bys : Nat → Int32) (bme : Nat → Int32) (p0 : Int32) (p1 : Int32) (p2 : Int32) (rv : Int32) (hF : f_X0_leastSum N p0 p1 p2 bme = some (rv)) : MI l yX0_leastSum wsX0_leastSum rm_X0_leastSum D ky sz [.ref aB, .int p0, .int p1, .int p2] (w_book ky aB ax au ay am bsz bgp ber bxs bus bys bme) (w_book ky aB ax au ay am bsz bgp ber bxs bus bys bme) rv :=
  cr_X0_leastSum l D ky aB ax au ay am sz N bsz bgp ber bxs bus bys bme p0 p1 p2 (rv) hF
abbrev rm_X0_leastHeight : Room := { frames := 1, cells := 0, slots := 0, locals := 21 }
theorem iX0_leastHeight_X0 : ∀ w ∈ wsX00, w ∈ wsX0_leastHeight := by decide +kernel
theorem kX0_leastHeight_1 : (Cond.fieldLink RX0 24 "TwoLaws$Book" "size" "I") ∈ wsX0_leastHeight := by decide +kernel
theorem kX0_leastHeight_2 : (Cond.fieldLink RX0 9 "TwoLaws$Book" "xs" "[I") ∈ wsX0_leastHeight := by decide +kernel
theorem kX0_leastHeight_3 : (Cond.fieldLink RX0 15 "TwoLaws$Book" "us" "[I") ∈ wsX0_leastHeight := by decide +kernel
theorem kX0_leastHeight_4 : (Cond.methodLink RX0 82 Lib.Math.min.name) ∈ wsX0_leastHeight := by decide +kernel
theorem kX0_leastHeight_5 : (Cond.static Lib.Math.min.name) ∈ wsX0_leastHeight := by decide +kernel
theorem kX0_leastHeight_6 : (Cond.initialized "java/lang/Math") ∈ wsX0_leastHeight := by decide +kernel
theorem kX0_leastHeight_7 : (Cond.code Lib.Math.min.name Lib.Math.min.code 2 (some .int)) ∈ wsX0_leastHeight := by decide +kernel
set_option maxHeartbeats 4000000 in
set_option maxRecDepth 100000 in
theorem w_X0_leastHeight_8 {p : Program} {l : Launch} {e : Env} {s : State} {m : MethodId} {args : Array Value} {below : List Frame} {meth : Method} {c : Code} {Q : State → Prop} {A : Nat → Prop} {D : va_G} {ky : Nat → ClassId} {aB ax au ay am : Nat} {bsz : Int32} {bgp : Int32} {ber : Int32} {bxs : Nat → Int32} {bus : Nat → Int32} {bys : Nat → Int32} {bme : Nat → Int32} (N : Nat) (C : cx p s m c args D ky A cX0_leastHeight 6 wsX0_leastHeight RX0) (res : Int32) (hQ : ∀ (pc : Nat) (H : Heap) (locs : List Loc) (ls : Array Slot), decode cX0_leastHeight pc = .ok (.ireturn, 1) → va_P D vwCl (w_book ky aB ax au ay am bsz bgp ber bxs bus bys bme) H → va_D A (w_book ky aB ax au ay am bsz bgp ber bxs bus bys bme) → va_S A s.heap H locs → W p l e rm_X0_leastHeight s m args below meth c H locs 0 0 Q (F0 m pc ls [.int res])) (l1 : Int32) (l2 : Int32) (l3 : Int32) : ∀ (n : Nat) (l4 : Int32) (l5 : Int32), f_X0_leastHeight_8 N l1 l2 l3 bsz bxs bus n l4 l5 = some res → ∀ (H : Heap) (locs : List Loc) (ls : Array Slot), va_P D vwCl (w_book ky aB ax au ay am bsz bgp ber bxs bus bys bme) H → va_D A (w_book ky aB ax au ay am bsz bgp ber bxs bus bys bme) → va_S A s.heap H locs → lv_has ls 6 [(0, .ref aB), (1, .int l1), (2, .int l2), (3, .int l3), (4, .int l4), (5, .int l5)] → W p l e rm_X0_leastHeight s m args below meth c H locs 0 0 Q (F0 m 8 ls []) := by
  obtain ⟨hx, hb, hml, hown, hts, hK, hA⟩ := id C
  intro n
  induction n with
  | zero =>
    intro l4 l5 hF
    cases hF
  | succ n ih =>
    intro l4 l5 hF H locs ls hP hD hS hl
    have hF : b_X0_leastHeight_8 N l1 l2 l3 bsz bxs bus (f_X0_leastHeight_8 N l1 l2 l3 bsz bxs bus n) l4 l5 = some res := hF
    unfold b_X0_leastHeight_8 at hF
    refine lv_iload hx hb dX0_leastHeight_8 (lv_at hl 5 rfl) ?_
    refine lv_aload_n hx hb dX0_leastHeight_10 rfl (lv_at hl 0 rfl) ?_
    refine va_get (D := D) (ci := 0) (v := .int bsz) (C := RX0) (T := TX0) (N := 7) hx hb hts iX0_leastHeight_X0 hown hK hP 0 rfl rfl 4 (by decide) (hts _ kX0_leastHeight_1) (fun _ h9 => h9) rfl dX0_leastHeight_11 ?_
    refine lv_icmp_ge (tgt := 65) hx hb dX0_leastHeight_14 (by decide) (fun c1 => ?_) (fun c1 => ?_)
    · have hF := if_t c1 hF
      refine lv_iload hx hb dX0_leastHeight_65 (lv_at hl 4 rfl) ?_
      have hF := Option.some.inj hF
      subst hF
      exact hQ _ H _ _ dX0_leastHeight_67 hP hD hS
    · have hF := if_f c1 hF
      refine lv_iload hx hb dX0_leastHeight_17 (lv_at hl 5 rfl) ?_
      refine lv_bipush (v := (12 : Int32)) hx hb dX0_leastHeight_19 (by decide) ?_
      refine lv_icmp_ge (tgt := 65) hx hb dX0_leastHeight_21 (by decide) (fun c2 => ?_) (fun c2 => ?_)
      · have hF := if_t c2 hF
        refine lv_iload hx hb dX0_leastHeight_65 (lv_at hl 4 rfl) ?_
        have hF := Option.some.inj hF
        subst hF
        exact hQ _ H _ _ dX0_leastHeight_67 hP hD hS
      · have hF := if_f c2 hF
        refine lv_iload_n hx hb dX0_leastHeight_24 rfl (lv_at hl 1 rfl) ?_
        refine lv_iload hx hb dX0_leastHeight_25 (lv_at hl 5 rfl) ?_
        refine lv_ishr hx hb dX0_leastHeight_27 ?_
        refine lv_iconst (v := (1 : Int32)) hx hb dX0_leastHeight_28 (by decide) ?_
        refine lv_iand hx hb dX0_leastHeight_29 ?_
        refine lv_if_eq (tgt := 59) hx hb dX0_leastHeight_30 (by decide) (fun c3 => ?_) (fun c3 => ?_)
        · have hF := if_t c3 hF
          refine lv_iinc (v := (l5 + (1 : Int32))) (lv' := [(5, .int (l5 + (1 : Int32))), (0, .ref aB), (1, .int l1), (2, .int l2), (3, .int l3), (4, .int l4)]) hx hb dX0_leastHeight_59 hl (k := 5) rfl rfl (by decide) rfl (fun ls hl => ?_)
          refine lv_goto (tgt := 8) hx hb dX0_leastHeight_62 (by decide) ?_
          exact ih l4 (l5 + (1 : Int32)) hF H _ _ hP hD hS (lv_sub hl [1, 2, 3, 4, 5, 0] rfl)
        · have hF := if_f c3 hF
          refine lv_iload hx hb dX0_leastHeight_33 (lv_at hl 4 rfl) ?_
          refine lv_iload_n hx hb dX0_leastHeight_35 rfl (lv_at hl 2 rfl) ?_
          refine lv_aload_n hx hb dX0_leastHeight_36 rfl (lv_at hl 0 rfl) ?_
          refine va_get (D := D) (ci := 0) (v := .ref ax) (C := RX0) (T := TX0) (N := 7) hx hb hts iX0_leastHeight_X0 hown hK hP 0 rfl rfl 0 (by decide) (hts _ kX0_leastHeight_2) (fun _ h9 => h9) rfl dX0_leastHeight_37 ?_
          refine lv_iload hx hb dX0_leastHeight_40 (lv_at hl 5 rfl) ?_
          obtain ⟨h4, hF⟩ := gi_s hF
          refine va_iald hx hb hK hP 1 0 rfl rfl h4 dX0_leastHeight_42 ?_
          refine lv_imul hx hb dX0_leastHeight_43 ?_
          refine lv_iload_n hx hb dX0_leastHeight_44 rfl (lv_at hl 3 rfl) ?_
          refine lv_aload_n hx hb dX0_leastHeight_45 rfl (lv_at hl 0 rfl) ?_
          refine va_get (D := D) (ci := 0) (v := .ref au) (C := RX0) (T := TX0) (N := 7) hx hb hts iX0_leastHeight_X0 hown hK hP 0 rfl rfl 1 (by decide) (hts _ kX0_leastHeight_3) (fun _ h9 => h9) rfl dX0_leastHeight_46 ?_
          refine lv_iload hx hb dX0_leastHeight_49 (lv_at hl 5 rfl) ?_
          obtain ⟨h5, hF⟩ := gi_s hF
          refine va_iald hx hb hK hP 2 0 rfl rfl h5 dX0_leastHeight_51 ?_
          refine lv_imul hx hb dX0_leastHeight_52 ?_
          refine lv_iadd hx hb dX0_leastHeight_53 ?_
          refine va_mmin hx hb (hml.trans hl.1.symm) hown (hts _ kX0_leastHeight_4) (hts _ kX0_leastHeight_5) (hts _ kX0_leastHeight_6) (hts _ kX0_leastHeight_7) (Nat.le_of_ble_eq_true rfl) (Nat.le_of_ble_eq_true rfl) (Nat.zero_le _) (Nat.zero_le _) dX0_leastHeight_54 ?_
          refine lv_topi (fun v6 e_v6 => ?_)
          have hF := nm_s e_v6 hF
          refine lv_istore (lv' := [(4, .int v6), (0, .ref aB), (1, .int l1), (2, .int l2), (3, .int l3), (5, .int l5)]) hx hb dX0_leastHeight_57 hl (by decide) rfl (fun ls hl => ?_)
          refine lv_iinc (v := (l5 + (1 : Int32))) (lv' := [(5, .int (l5 + (1 : Int32))), (4, .int v6), (0, .ref aB), (1, .int l1), (2, .int l2), (3, .int l3)]) hx hb dX0_leastHeight_59 hl (k := 5) rfl rfl (by decide) rfl (fun ls hl => ?_)
          refine lv_goto (tgt := 8) hx hb dX0_leastHeight_62 (by decide) ?_
          exact ih v6 (l5 + (1 : Int32)) hF H _ _ hP hD hS (lv_sub hl [2, 3, 4, 5, 1, 0] rfl)
set_option maxHeartbeats 4000000 in
set_option maxRecDepth 100000 in
theorem cr_X0_leastHeight (l : Launch) (D : va_G) (ky : Nat → ClassId) (aB ax au ay am : Nat) (sz N : Nat)  (bsz : Int32) (bgp : Int32) (ber : Int32) (bxs : Nat → Int32) (bus : Nat → Int32) (bys : Nat → Int32) (bme : Nat → Int32) (p0 : Int32) (p1 : Int32) (p2 : Int32) (res : Int32) (hF : f_X0_leastHeight N p0 p1 p2 bsz bxs bus = some res) : MI l yX0_leastHeight wsX0_leastHeight rm_X0_leastHeight D ky sz [.ref aB, .int p0, .int p1, .int p2] (w_book ky aB ax au ay am bsz bgp ber bxs bus bys bme) (w_book ky aB ax au ay am bsz bgp ber bxs bus bys bme) res := by
  unfold MI
  refine Met.ofW (cc := cX0_leastHeight) (maxL := 6) (ret := (some .int)) (by decide) rfl ?_
  intro p e s m args below meth c s₁ B hml hv
  obtain ⟨rfl, hsz, hP, hK, hD0⟩ := hv
  have hx := B.exec
  have hb := B.bytes
  have hr := B.returns
  have hts := atoms_spec (ws := wsX0_leastHeight) B.pre
  have hown : s.vm.findClass RX0 = some m.cls := findClass_of_methodNamed B.named
  have hlocks := B.notSynchronized
  subst hsz
  have hD := hD0.self (sz := s.heap.size)
  generalize hAe : va_A (w_book ky aB ax au ay am bsz bgp ber bxs bus bys bme) s.heap.size = A at hD ⊢
  have hA : ∀ q : Nat, s.heap.size ≤ q → A q := fun q h => by rw [← hAe]; exact Or.inr h
  have hS : va_S A s.heap s.heap [] := va_S.rf
  have hP : va_P D vwCl (w_book ky aB ax au ay am bsz bgp ber bxs bus bys bme) s.heap := hP
  have hl := lv_entry ([.ref aB, .int p0, .int p1, .int p2]) (n := 6) (Nat.le_of_ble_eq_true rfl)
  rw [lg_entry_eq]
  generalize (lg_sl ([.ref aB, .int p0, .int p1, .int p2]) ++ List.replicate (6 - (lg_sl ([.ref aB, .int p0, .int p1, .int p2])).length) Slot.unset).toArray = ls at hl ⊢
  have hl : lv_has ls 6 [(0, .ref aB), (1, .int p0), (2, .int p1), (3, .int p2)] := hl
  have C : cx p s m c ([.ref aB, .int p0, .int p1, .int p2]).toArray D ky A cX0_leastHeight 6 wsX0_leastHeight RX0 := ⟨hx, hb, hml, hown, hts, hK, hA⟩
  have hQ : ∀ (pc : Nat) (H : Heap) (locs : List Loc) (ls : Array Slot), decode cX0_leastHeight pc = .ok (.ireturn, 1) → va_P D vwCl (w_book ky aB ax au ay am bsz bgp ber bxs bus bys bme) H → va_D A (w_book ky aB ax au ay am bsz bgp ber bxs bus bys bme) → va_S A s.heap H locs → W p l e rm_X0_leastHeight s m ([.ref aB, .int p0, .int p1, .int p2]).toArray below meth c H locs 0 0 (MQ below (va_Qi (S := Unit) (fun r _ => r = res) (fun _ t => va_P D vwCl (w_book ky aB ax au ay am bsz bgp ber bxs bus bys bme) t.heap ∧ va_K D vwCl (tyW ky) t ∧ va_D A (w_book ky aB ax au ay am bsz bgp ber bxs bus bys bme)) A) ([.ref aB, .int p0, .int p1, .int p2]).toArray s 0 0 A) (F0 m pc ls [.int res]) := fun pc H locs ls hd hP hD hS => W.iret hx hb hr (fun t ht hW => ⟨⟨res, (), rfl, rfl, by rw [ht]; exact hP, va_K.moved hW.alike hK, hD⟩, hS.F ht⟩) hS.2.2 hd
  unfold f_X0_leastHeight at hF
  refine lv_sipush (v := (1000 : Int32)) hx hb dX0_leastHeight_0 (by decide) ?_
  refine lv_istore (lv' := [(4, .int (1000 : Int32)), (0, .ref aB), (1, .int p0), (2, .int p1), (3, .int p2)]) hx hb dX0_leastHeight_3 hl (by decide) rfl (fun ls hl => ?_)
  refine lv_iconst (v := (0 : Int32)) hx hb dX0_leastHeight_5 (by decide) ?_
  refine lv_istore (lv' := [(5, .int (0 : Int32)), (4, .int (1000 : Int32)), (0, .ref aB), (1, .int p0), (2, .int p1), (3, .int p2)]) hx hb dX0_leastHeight_6 hl (by decide) rfl (fun ls hl => ?_)
  exact w_X0_leastHeight_8 N C res hQ p0 p1 p2 N (1000 : Int32) (0 : Int32) hF _ _ _ hP hD hS (lv_sub hl [2, 3, 4, 5, 1, 0] rfl)
theorem c_X0_leastHeight (l : Launch) (D : va_G) (ky : Nat → ClassId) (aB ax au ay am : Nat) (sz N : Nat)  (bsz : Int32) (bgp : Int32) (ber : Int32) (bxs : Nat → Int32) (bus : Nat → Int32) (bys : Nat → Int32) (bme : Nat → Int32) (p0 : Int32) (p1 : Int32) (p2 : Int32) (rv : Int32) (hF : f_X0_leastHeight N p0 p1 p2 bsz bxs bus = some (rv)) : MI l yX0_leastHeight wsX0_leastHeight rm_X0_leastHeight D ky sz [.ref aB, .int p0, .int p1, .int p2] (w_book ky aB ax au ay am bsz bgp ber bxs bus bys bme) (w_book ky aB ax au ay am bsz bgp ber bxs bus bys bme) rv :=
  cr_X0_leastHeight l D ky aB ax au ay am sz N bsz bgp ber bxs bus bys bme p0 p1 p2 (rv) hF
