def f_X7_add (N : Nat) (p0 : Int32) (p1 : Int32) (rmo : Nat → Int32) : Option ((Nat → Int32)) :=
  (if (p0 + (236 : Int32)) < 0 then some (rmo) else (if (474 : Int32) ≤ (p0 + (236 : Int32)) then some (rmo) else gi (p0 + (236 : Int32)) 474 (gi (p0 + (236 : Int32)) 474 (some ((upd rmo (p0 + (236 : Int32)).toNatClampNeg ((rmo (p0 + (236 : Int32)).toNatClampNeg) + p1)))))))
def b_X7_gather_7 (N : Nat)  (l1 : Int32) (bme : Nat → Int32) (k7 : Int32 → Int32 → (Nat → Int32) → Option (Int32 × (Nat → Int32))) (l2 : Int32) (rlc : Int32) (rla : Nat → Int32) : Option (Int32 × (Nat → Int32)) :=
  (if (289 : Int32) ≤ l2 then some (rlc, rla) else b1 (f_X0_letsLaw N l1 l2 bme) (fun r3 => (if r3 = 0 then k7 (l2 + (1 : Int32)) rlc rla else (if (289 : Int32) ≤ rlc then k7 (l2 + (1 : Int32)) rlc rla else gi rlc 289 (k7 (l2 + (1 : Int32)) (rlc + (1 : Int32)) (upd rla rlc.toNatClampNeg l2))))))
def f_X7_gather_7 (N : Nat)  (l1 : Int32) (bme : Nat → Int32) : Nat → Int32 → Int32 → (Nat → Int32) → Option (Int32 × (Nat → Int32))
  | 0, _, _, _ => none
  | n + 1, l2, rlc, rla => b_X7_gather_7 N l1 bme (f_X7_gather_7 N l1 bme n) l2 rlc rla
def f_X7_gather (N : Nat) (p0 : Int32) (rla : Nat → Int32) (bme : Nat → Int32) : Option (Int32 × (Nat → Int32)) :=
  f_X7_gather_7 N p0 bme N (0 : Int32) (0 : Int32) rla
def b_X7_leftAtWorst_90 (N : Nat)  (rmo : Nat → Int32) (k90 : Int32 → Int32 → Int32 → Option (Int32 × (Nat → Int32))) (l3 : Int32) (l4 : Int32) (l5 : Int32) : Option (Int32 × (Nat → Int32)) :=
  (if (474 : Int32) ≤ l5 then some (l4, rmo) else gi l5 474 (nm (if l4 < (l3 + (rmo l5.toNatClampNeg)) then (l3 + (rmo l5.toNatClampNeg)) else l4) (fun v22 => k90 (l3 + (rmo l5.toNatClampNeg)) v22 (l5 + (1 : Int32)))))
def f_X7_leftAtWorst_90 (N : Nat)  (rmo : Nat → Int32) : Nat → Int32 → Int32 → Int32 → Option (Int32 × (Nat → Int32))
  | 0, _, _, _ => none
  | n + 1, l3, l4, l5 => b_X7_leftAtWorst_90 N rmo (f_X7_leftAtWorst_90 N rmo n) l3 l4 l5
def b_X7_leftAtWorst_10 (N : Nat)  (l1 : Int32) (l2 : Int32) (rlc : Int32) (rla : Nat → Int32) (ber : Int32) (k10 : Int32 → (Nat → Int32) → Option (Int32 × (Nat → Int32))) (l3 : Int32) (rmo : Nat → Int32) : Option (Int32 × (Nat → Int32)) :=
  (if rlc ≤ l3 then f_X7_leftAtWorst_90 N rmo N (0 : Int32) (0 : Int32) (0 : Int32) else (if (289 : Int32) ≤ l3 then f_X7_leftAtWorst_90 N rmo N (0 : Int32) (0 : Int32) (0 : Int32) else gi l3 289 (b1 (f_X3_sum N (rla l3.toNatClampNeg) l1 l2) (fun r7 => b1 (f_X0_errorNow N ber) (fun r9 => b1 (f_X3_leastEnd N r7 r9) (fun r11 => b1 (f_X7_add N r11 (1 : Int32) rmo) (fun v13 => b1 (f_X0_errorNow N ber) (fun r15 => b1 (f_X3_greatestEnd N r7 r15) (fun r17 => b1 (f_X7_add N (r17 + (1 : Int32)) (-1 : Int32) v13) (fun v19 => k10 (l3 + (1 : Int32)) v19))))))))))
def f_X7_leftAtWorst_10 (N : Nat)  (l1 : Int32) (l2 : Int32) (rlc : Int32) (rla : Nat → Int32) (ber : Int32) : Nat → Int32 → (Nat → Int32) → Option (Int32 × (Nat → Int32))
  | 0, _, _ => none
  | n + 1, l3, rmo => b_X7_leftAtWorst_10 N l1 l2 rlc rla ber (f_X7_leftAtWorst_10 N l1 l2 rlc rla ber n) l3 rmo
def f_X7_leftAtWorst (N : Nat) (p0 : Int32) (p1 : Int32) (rlc : Int32) (rla : Nat → Int32) (rmo : Nat → Int32) (ber : Int32) : Option (Int32 × (Nat → Int32)) :=
  b1 (f_J7_fill_53178 N (0 : Int32) 474 rmo) (fun v2 => f_X7_leftAtWorst_10 N p0 p1 rlc rla ber N (0 : Int32) v2)
abbrev rm_X7_add : Room := { frames := 0, cells := 0, slots := 0, locals := 0 }
theorem iX7_add_X7 : ∀ w ∈ wsX70, w ∈ wsX7_add := by decide +kernel
theorem kX7_add_1 : (Cond.fieldLink RX7 19 "TwoLaws$Trial" "more" "[I") ∈ wsX7_add := by decide +kernel
set_option maxHeartbeats 4000000 in
set_option maxRecDepth 100000 in
theorem cr_X7_add (l : Launch) (D : va_G) (ky : Nat → ClassId) (aR aB aw ao : Nat) (sz N : Nat)  (rlc : Int32) (rla : Nat → Int32) (rmo : Nat → Int32) (p0 : Int32) (p1 : Int32) (res : (Nat → Int32)) (hF : f_X7_add N p0 p1 rmo = some res) : MV l yX7_add wsX7_add rm_X7_add D ky sz [.ref aR, .int p0, .int p1] (w_trial ky aR aB aw ao rlc rla rmo) (w_trial ky aR aB aw ao rlc rla res) := by
  unfold MV
  refine Met.ofW (cc := cX7_add) (maxL := 4) (ret := none) (by decide) rfl ?_
  intro p e s m args below meth c s₁ B hml hv
  obtain ⟨rfl, hsz, hP, hK, hD0⟩ := hv
  have hx := B.exec
  have hb := B.bytes
  have hr := B.returns
  have hts := atoms_spec (ws := wsX7_add) B.pre
  have hown : s.vm.findClass RX7 = some m.cls := findClass_of_methodNamed B.named
  have hlocks := B.notSynchronized
  subst hsz
  have hD := hD0.self (sz := s.heap.size)
  generalize hAe : va_A (w_trial ky aR aB aw ao rlc rla rmo) s.heap.size = A at hD ⊢
  have hA : ∀ q : Nat, s.heap.size ≤ q → A q := fun q h => by rw [← hAe]; exact Or.inr h
  have hS : va_S A s.heap s.heap [] := va_S.rf
  have hP : va_P D vwCl (w_trial ky aR aB aw ao rlc rla rmo) s.heap := hP
  have hl := lv_entry ([.ref aR, .int p0, .int p1]) (n := 4) (Nat.le_of_ble_eq_true rfl)
  rw [lg_entry_eq]
  generalize (lg_sl ([.ref aR, .int p0, .int p1]) ++ List.replicate (4 - (lg_sl ([.ref aR, .int p0, .int p1])).length) Slot.unset).toArray = ls at hl ⊢
  have hl : lv_has ls 4 [(0, .ref aR), (1, .int p0), (2, .int p1)] := hl
  have C : cx p s m c ([.ref aR, .int p0, .int p1]).toArray D ky A cX7_add 4 wsX7_add RX7 := ⟨hx, hb, hml, hown, hts, hK, hA⟩
  have hQ : ∀ (pc : Nat) (H : Heap) (locs : List Loc) (ls : Array Slot), decode cX7_add pc = .ok (.return_, 1) → va_P D vwCl (w_trial ky aR aB aw ao rlc rla res) H → va_D A (w_trial ky aR aB aw ao rlc rla res) → va_S A s.heap H locs → W p l e rm_X7_add s m ([.ref aR, .int p0, .int p1]).toArray below meth c H locs 0 0 (MQ below (va_Qv (S := Unit) (fun _ => True) (fun _ t => va_P D vwCl (w_trial ky aR aB aw ao rlc rla res) t.heap ∧ va_K D vwCl (tyW ky) t ∧ va_D A (w_trial ky aR aB aw ao rlc rla res)) A) ([.ref aR, .int p0, .int p1]).toArray s 0 0 A) (F0 m pc ls []) := fun pc H locs ls hd hP hD hS => W.vret hx hb hr (fun t ht hW => ⟨⟨(), rfl, trivial, by rw [ht]; exact hP, va_K.moved hW.alike hK, hD⟩, hS.F ht⟩) hS.2.2 hd
  unfold f_X7_add at hF
  refine lv_iload_n hx hb dX7_add_0 rfl (lv_at hl 1 rfl) ?_
  refine lv_sipush (v := (236 : Int32)) hx hb dX7_add_1 (by decide) ?_
  refine lv_iadd hx hb dX7_add_4 ?_
  refine lv_istore_n (lv' := [(3, .int (p0 + (236 : Int32))), (0, .ref aR), (1, .int p0), (2, .int p1)]) hx hb dX7_add_5 rfl hl (by decide) rfl (fun ls hl => ?_)
  refine lv_iload_n hx hb dX7_add_6 rfl (lv_at hl 0 rfl) ?_
  refine lv_if_lt (tgt := 29) hx hb dX7_add_7 (by decide) (fun c1 => ?_) (fun c1 => ?_)
  · have hF := if_t c1 hF
    have hF := Option.some.inj hF
    subst hF
    exact hQ _ _ _ _ dX7_add_29 hP hD hS
  · have hF := if_f c1 hF
    refine lv_iload_n hx hb dX7_add_10 rfl (lv_at hl 0 rfl) ?_
    refine lv_aload_n hx hb dX7_add_11 rfl (lv_at hl 1 rfl) ?_
    refine va_get (D := D) (ci := 6) (v := .ref ao) (C := RX7) (T := TX7) (N := 4) hx hb hts iX7_add_X7 hown hK hP 0 rfl rfl 3 (by decide) (hts _ kX7_add_1) (fun _ h9 => h9) rfl dX7_add_12 ?_
    refine va_alen (v := (474 : Int32)) hx hb hK hP 2 0 rfl rfl rfl dX7_add_15 ?_
    refine lv_icmp_ge (tgt := 29) hx hb dX7_add_16 (by decide) (fun c2 => ?_) (fun c2 => ?_)
    · have hF := if_t c2 hF
      have hF := Option.some.inj hF
      subst hF
      exact hQ _ _ _ _ dX7_add_29 hP hD hS
    · have hF := if_f c2 hF
      refine lv_aload_n hx hb dX7_add_19 rfl (lv_at hl 1 rfl) ?_
      refine va_get (D := D) (ci := 6) (v := .ref ao) (C := RX7) (T := TX7) (N := 4) hx hb hts iX7_add_X7 hown hK hP 0 rfl rfl 3 (by decide) (hts _ kX7_add_1) (fun _ h9 => h9) rfl dX7_add_20 ?_
      refine lv_iload_n hx hb dX7_add_23 rfl (lv_at hl 0 rfl) ?_
      refine lv_dup2_11 hx hb dX7_add_24 rfl rfl ?_
      obtain ⟨h3, hF⟩ := gi_s hF
      refine va_iald hx hb hK hP 2 0 rfl rfl h3 dX7_add_25 ?_
      refine lv_iload_n hx hb dX7_add_26 rfl (lv_at hl 3 rfl) ?_
      refine lv_iadd hx hb dX7_add_27 ?_
      obtain ⟨h4, hF⟩ := gi_s hF
      refine va_iast hx hb hK hP hD hS 2 0 rfl rfl h4 dX7_add_28 (fun H locs hP hD hS => ?_)
      have hP : va_P D vwCl (w_trial ky aR aB aw ao rlc rla (upd rmo (p0 + (236 : Int32)).toNatClampNeg ((rmo (p0 + (236 : Int32)).toNatClampNeg) + p1))) H := hP
      have hD : va_D A (w_trial ky aR aB aw ao rlc rla (upd rmo (p0 + (236 : Int32)).toNatClampNeg ((rmo (p0 + (236 : Int32)).toNatClampNeg) + p1))) := hD
      have hF := Option.some.inj hF
      subst hF
      exact hQ _ _ _ _ dX7_add_29 hP hD hS
theorem c_X7_add (l : Launch) (D : va_G) (ky : Nat → ClassId) (aR aB aw ao : Nat) (sz N : Nat)  (rlc : Int32) (rla : Nat → Int32) (rmo : Nat → Int32) (p0 : Int32) (p1 : Int32) (rmo' : Nat → Int32) (hF : f_X7_add N p0 p1 rmo = some (rmo')) : MV l yX7_add wsX7_add rm_X7_add D ky sz [.ref aR, .int p0, .int p1] (w_trial ky aR aB aw ao rlc rla rmo) (w_trial ky aR aB aw ao rlc rla rmo') :=
  cr_X7_add l D ky aR aB aw ao sz N rlc rla rmo p0 p1 (rmo') hF
abbrev rm_X7_gather : Room := { frames := 2, cells := 0, slots := 0, locals := 43 }
theorem iX7_gather_X7 : ∀ w ∈ wsX70, w ∈ wsX7_gather := by decide +kernel
theorem kX7_gather_1 : (Cond.fieldLink RX7 15 "TwoLaws$Trial" "lawCount" "I") ∈ wsX7_gather := by decide +kernel
theorem kX7_gather_2 : (Cond.fieldLink RX7 9 "TwoLaws$Trial" "laws" "[I") ∈ wsX7_gather := by decide +kernel
theorem kX7_gather_3 : (Cond.fieldLink RX7 22 "TwoLaws$Trial" "book" "LTwoLaws$Book;") ∈ wsX7_gather := by decide +kernel
set_option maxHeartbeats 4000000 in
set_option maxRecDepth 100000 in
theorem w_X7_gather_7 {p : Program} {l : Launch} {e : Env} {s : State} {m : MethodId} {args : Array Value} {below : List Frame} {meth : Method} {c : Code} {Q : State → Prop} {A : Nat → Prop} {D : va_G} {ky : Nat → ClassId} {aR aB aw ao ax au ay am : Nat} {rmo : Nat → Int32} {bsz : Int32} {bgp : Int32} {ber : Int32} {bxs : Nat → Int32} {bus : Nat → Int32} {bys : Nat → Int32} {bme : Nat → Int32} (N : Nat) (C : cx p s m c args D ky A cX7_gather 3 wsX7_gather RX7) (res : Int32 × (Nat → Int32)) (hQ : ∀ (pc : Nat) (H : Heap) (locs : List Loc) (ls : Array Slot), decode cX7_gather pc = .ok (.return_, 1) → va_P D vwCl (w_trialbook ky aR aB aw ao ax au ay am res.1 res.2 rmo bsz bgp ber bxs bus bys bme) H → va_D A (w_trialbook ky aR aB aw ao ax au ay am res.1 res.2 rmo bsz bgp ber bxs bus bys bme) → va_S A s.heap H locs → W p l e rm_X7_gather s m args below meth c H locs 0 0 Q (F0 m pc ls [])) (l1 : Int32) : ∀ (n : Nat) (l2 : Int32) (rlc : Int32) (rla : Nat → Int32), f_X7_gather_7 N l1 bme n l2 rlc rla = some res → ∀ (H : Heap) (locs : List Loc) (ls : Array Slot), va_P D vwCl (w_trialbook ky aR aB aw ao ax au ay am rlc rla rmo bsz bgp ber bxs bus bys bme) H → va_D A (w_trialbook ky aR aB aw ao ax au ay am rlc rla rmo bsz bgp ber bxs bus bys bme) → va_S A s.heap H locs → lv_has ls 3 [(0, .ref aR), (1, .int l1), (2, .int l2)] → W p l e rm_X7_gather s m args below meth c H locs 0 0 Q (F0 m 7 ls []) := by
  obtain ⟨hx, hb, hml, hown, hts, hK, hA⟩ := id C
  intro n
  induction n with
  | zero =>
    intro l2 rlc rla hF
    cases hF
  | succ n ih =>
    intro l2 rlc rla hF H locs ls hP hD hS hl
    have hF : b_X7_gather_7 N l1 bme (f_X7_gather_7 N l1 bme n) l2 rlc rla = some res := hF
    unfold b_X7_gather_7 at hF
    refine lv_iload_n hx hb dX7_gather_7 rfl (lv_at hl 2 rfl) ?_
    refine lv_aload_n hx hb dX7_gather_8 rfl (lv_at hl 0 rfl) ?_
    refine va_get (D := D) (ci := 6) (v := .ref aw) (C := RX7) (T := TX7) (N := 4) hx hb hts iX7_gather_X7 hown hK hP 0 rfl rfl 1 (by decide) (hts _ kX7_gather_2) (fun _ h9 => h9) rfl dX7_gather_9 ?_
    refine va_alen (v := (289 : Int32)) hx hb hK hP 1 0 rfl rfl rfl dX7_gather_12 ?_
    refine lv_icmp_ge (tgt := 66) hx hb dX7_gather_13 (by decide) (fun c1 => ?_) (fun c1 => ?_)
    · have hF := if_t c1 hF
      have hF := Option.some.inj hF
      subst hF
      exact hQ _ H _ _ dX7_gather_66 hP hD hS
    · have hF := if_f c1 hF
      refine lv_aload_n hx hb dX7_gather_16 rfl (lv_at hl 0 rfl) ?_
      refine va_get (D := D) (ci := 6) (v := .ref aB) (C := RX7) (T := TX7) (N := 4) hx hb hts iX7_gather_X7 hown hK hP 0 rfl rfl 0 (by decide) (hts _ kX7_gather_3) (fun _ h9 => h9) rfl dX7_gather_17 ?_
      refine lv_iload_n hx hb dX7_gather_20 rfl (lv_at hl 1 rfl) ?_
      refine lv_iload_n hx hb dX7_gather_21 rfl (lv_at hl 2 rfl) ?_
      obtain ⟨r3, h2, hF⟩ := b1_s hF
      refine cl_vi (As := [.int l1, .int l2]) (rest := []) (w' := (w_trialbook ky aR aB aw ao ax au ay am rlc rla rmo bsz bgp ber bxs bus bys bme)) ⟨hx, hb, hml, hown, hts⟩ hK hP hD hS hA (c_X0_letsLaw l D ky aB ax au ay am _ N  bsz bgp ber bxs bus bys bme l1 l2 r3 h2) (cwV 2 hts gX7_gather_X0_letsLaw rfl rfl rfl (by decide +kernel) ⟨Nat.le_of_ble_eq_true rfl, Nat.le_of_ble_eq_true rfl⟩) [3, 4, 5, 6, 7] [0, 1, 2] [0, 1, 2, 3, 4, 5, 6, 7] 0 0 rfl rfl rfl rfl (wr := [(aR, .inr (6, [.ref aB, .ref aw, .int rlc, .ref ao])), (aw, .inl (ky 0, 289, .inl rla)), (ao, .inl (ky 0, 474, .inl rmo))]) rfl (by decide) rfl rfl hl.1 (Nat.le_of_ble_eq_true rfl) dX7_gather_22 ⟨Nat.zero_le _, Nat.zero_le _⟩ (fun H locs hP hD hS => ?_)
      refine lv_if_eq (tgt := 60) hx hb dX7_gather_25 (by decide) (fun c4 => ?_) (fun c4 => ?_)
      · have hF := if_t c4 hF
        refine lv_iinc (v := (l2 + (1 : Int32))) (lv' := [(2, .int (l2 + (1 : Int32))), (0, .ref aR), (1, .int l1)]) hx hb dX7_gather_60 hl (k := 2) rfl rfl (by decide) rfl (fun ls hl => ?_)
        refine lv_goto (tgt := 7) hx hb dX7_gather_63 (by decide) ?_
        exact ih (l2 + (1 : Int32)) rlc rla hF H _ _ hP hD hS (lv_sub hl [1, 2, 0] rfl)
      · have hF := if_f c4 hF
        refine lv_aload_n hx hb dX7_gather_28 rfl (lv_at hl 0 rfl) ?_
        refine va_get (D := D) (ci := 6) (v := .int rlc) (C := RX7) (T := TX7) (N := 4) hx hb hts iX7_gather_X7 hown hK hP 0 rfl rfl 2 (by decide) (hts _ kX7_gather_1) (fun _ h9 => h9) rfl dX7_gather_29 ?_
        refine lv_aload_n hx hb dX7_gather_32 rfl (lv_at hl 0 rfl) ?_
        refine va_get (D := D) (ci := 6) (v := .ref aw) (C := RX7) (T := TX7) (N := 4) hx hb hts iX7_gather_X7 hown hK hP 0 rfl rfl 1 (by decide) (hts _ kX7_gather_2) (fun _ h9 => h9) rfl dX7_gather_33 ?_
        refine va_alen (v := (289 : Int32)) hx hb hK hP 1 0 rfl rfl rfl dX7_gather_36 ?_
        refine lv_icmp_ge (tgt := 60) hx hb dX7_gather_37 (by decide) (fun c5 => ?_) (fun c5 => ?_)
        · have hF := if_t c5 hF
          refine lv_iinc (v := (l2 + (1 : Int32))) (lv' := [(2, .int (l2 + (1 : Int32))), (0, .ref aR), (1, .int l1)]) hx hb dX7_gather_60 hl (k := 2) rfl rfl (by decide) rfl (fun ls hl => ?_)
          refine lv_goto (tgt := 7) hx hb dX7_gather_63 (by decide) ?_
          exact ih (l2 + (1 : Int32)) rlc rla hF H _ _ hP hD hS (lv_sub hl [1, 2, 0] rfl)
        · have hF := if_f c5 hF
          refine lv_aload_n hx hb dX7_gather_40 rfl (lv_at hl 0 rfl) ?_
          refine va_get (D := D) (ci := 6) (v := .ref aw) (C := RX7) (T := TX7) (N := 4) hx hb hts iX7_gather_X7 hown hK hP 0 rfl rfl 1 (by decide) (hts _ kX7_gather_2) (fun _ h9 => h9) rfl dX7_gather_41 ?_
          refine lv_aload_n hx hb dX7_gather_44 rfl (lv_at hl 0 rfl) ?_
          refine va_get (D := D) (ci := 6) (v := .int rlc) (C := RX7) (T := TX7) (N := 4) hx hb hts iX7_gather_X7 hown hK hP 0 rfl rfl 2 (by decide) (hts _ kX7_gather_1) (fun _ h9 => h9) rfl dX7_gather_45 ?_
          refine lv_iload_n hx hb dX7_gather_48 rfl (lv_at hl 2 rfl) ?_
          obtain ⟨h6, hF⟩ := gi_s hF
          refine va_iast hx hb hK hP hD hS 1 0 rfl rfl h6 dX7_gather_49 (fun H locs hP hD hS => ?_)
          have hP : va_P D vwCl (w_trialbook ky aR aB aw ao ax au ay am rlc (upd rla rlc.toNatClampNeg l2) rmo bsz bgp ber bxs bus bys bme) H := hP
          have hD : va_D A (w_trialbook ky aR aB aw ao ax au ay am rlc (upd rla rlc.toNatClampNeg l2) rmo bsz bgp ber bxs bus bys bme) := hD
          refine lv_aload_n hx hb dX7_gather_50 rfl (lv_at hl 0 rfl) ?_
          refine lv_dup hx hb dX7_gather_51 rfl ?_
          refine va_get (D := D) (ci := 6) (v := .int rlc) (C := RX7) (T := TX7) (N := 4) hx hb hts iX7_gather_X7 hown hK hP 0 rfl rfl 2 (by decide) (hts _ kX7_gather_1) (fun _ h9 => h9) rfl dX7_gather_52 ?_
          refine lv_iconst (v := (1 : Int32)) hx hb dX7_gather_55 (by decide) ?_
          refine lv_iadd hx hb dX7_gather_56 ?_
          refine va_put (D := D) (ci := 6) (v := .int (rlc + (1 : Int32))) (ty := .int) (C := RX7) (T := TX7) (N := 4) hx hb hts iX7_gather_X7 tyX7 tyX7_ok nmX7 hown hK hP hD hS 0 rfl rfl 2 (by decide) (hts _ kX7_gather_1) (fun _ h9 => h9) rfl (by decide +kernel) rfl rfl (Nat.le_of_ble_eq_true rfl) dX7_gather_57 (fun H locs hP hD hS => ?_)
          have hP : va_P D vwCl (w_trialbook ky aR aB aw ao ax au ay am (rlc + (1 : Int32)) (upd rla rlc.toNatClampNeg l2) rmo bsz bgp ber bxs bus bys bme) H := hP
          have hD : va_D A (w_trialbook ky aR aB aw ao ax au ay am (rlc + (1 : Int32)) (upd rla rlc.toNatClampNeg l2) rmo bsz bgp ber bxs bus bys bme) := hD
          refine lv_iinc (v := (l2 + (1 : Int32))) (lv' := [(2, .int (l2 + (1 : Int32))), (0, .ref aR), (1, .int l1)]) hx hb dX7_gather_60 hl (k := 2) rfl rfl (by decide) rfl (fun ls hl => ?_)
          refine lv_goto (tgt := 7) hx hb dX7_gather_63 (by decide) ?_
          exact ih (l2 + (1 : Int32)) (rlc + (1 : Int32)) (upd rla rlc.toNatClampNeg l2) hF H _ _ hP hD hS (lv_sub hl [1, 2, 0] rfl)
set_option maxHeartbeats 4000000 in
set_option maxRecDepth 100000 in
theorem cr_X7_gather (l : Launch) (D : va_G) (ky : Nat → ClassId) (aR aB aw ao ax au ay am : Nat) (sz N : Nat)  (rlc : Int32) (rla : Nat → Int32) (rmo : Nat → Int32) (bsz : Int32) (bgp : Int32) (ber : Int32) (bxs : Nat → Int32) (bus : Nat → Int32) (bys : Nat → Int32) (bme : Nat → Int32) (p0 : Int32) (res : Int32 × (Nat → Int32)) (hF : f_X7_gather N p0 rla bme = some res) : MV l yX7_gather wsX7_gather rm_X7_gather D ky sz [.ref aR, .int p0] (w_trialbook ky aR aB aw ao ax au ay am rlc rla rmo bsz bgp ber bxs bus bys bme) (w_trialbook ky aR aB aw ao ax au ay am res.1 res.2 rmo bsz bgp ber bxs bus bys bme) := by
  unfold MV
  refine Met.ofW (cc := cX7_gather) (maxL := 3) (ret := none) (by decide) rfl ?_
  intro p e s m args below meth c s₁ B hml hv
  obtain ⟨rfl, hsz, hP, hK, hD0⟩ := hv
  have hx := B.exec
  have hb := B.bytes
  have hr := B.returns
  have hts := atoms_spec (ws := wsX7_gather) B.pre
  have hown : s.vm.findClass RX7 = some m.cls := findClass_of_methodNamed B.named
  have hlocks := B.notSynchronized
  subst hsz
  have hD := hD0.self (sz := s.heap.size)
  generalize hAe : va_A (w_trialbook ky aR aB aw ao ax au ay am rlc rla rmo bsz bgp ber bxs bus bys bme) s.heap.size = A at hD ⊢
  have hA : ∀ q : Nat, s.heap.size ≤ q → A q := fun q h => by rw [← hAe]; exact Or.inr h
  have hS : va_S A s.heap s.heap [] := va_S.rf
  have hP : va_P D vwCl (w_trialbook ky aR aB aw ao ax au ay am rlc rla rmo bsz bgp ber bxs bus bys bme) s.heap := hP
  have hl := lv_entry ([.ref aR, .int p0]) (n := 3) (Nat.le_of_ble_eq_true rfl)
  rw [lg_entry_eq]
  generalize (lg_sl ([.ref aR, .int p0]) ++ List.replicate (3 - (lg_sl ([.ref aR, .int p0])).length) Slot.unset).toArray = ls at hl ⊢
  have hl : lv_has ls 3 [(0, .ref aR), (1, .int p0)] := hl
  have C : cx p s m c ([.ref aR, .int p0]).toArray D ky A cX7_gather 3 wsX7_gather RX7 := ⟨hx, hb, hml, hown, hts, hK, hA⟩
  have hQ : ∀ (pc : Nat) (H : Heap) (locs : List Loc) (ls : Array Slot), decode cX7_gather pc = .ok (.return_, 1) → va_P D vwCl (w_trialbook ky aR aB aw ao ax au ay am res.1 res.2 rmo bsz bgp ber bxs bus bys bme) H → va_D A (w_trialbook ky aR aB aw ao ax au ay am res.1 res.2 rmo bsz bgp ber bxs bus bys bme) → va_S A s.heap H locs → W p l e rm_X7_gather s m ([.ref aR, .int p0]).toArray below meth c H locs 0 0 (MQ below (va_Qv (S := Unit) (fun _ => True) (fun _ t => va_P D vwCl (w_trialbook ky aR aB aw ao ax au ay am res.1 res.2 rmo bsz bgp ber bxs bus bys bme) t.heap ∧ va_K D vwCl (tyW ky) t ∧ va_D A (w_trialbook ky aR aB aw ao ax au ay am res.1 res.2 rmo bsz bgp ber bxs bus bys bme)) A) ([.ref aR, .int p0]).toArray s 0 0 A) (F0 m pc ls []) := fun pc H locs ls hd hP hD hS => W.vret hx hb hr (fun t ht hW => ⟨⟨(), rfl, trivial, by rw [ht]; exact hP, va_K.moved hW.alike hK, hD⟩, hS.F ht⟩) hS.2.2 hd
  unfold f_X7_gather at hF
  refine lv_aload_n hx hb dX7_gather_0 rfl (lv_at hl 0 rfl) ?_
  refine lv_iconst (v := (0 : Int32)) hx hb dX7_gather_1 (by decide) ?_
  refine va_put (D := D) (ci := 6) (v := .int (0 : Int32)) (ty := .int) (C := RX7) (T := TX7) (N := 4) hx hb hts iX7_gather_X7 tyX7 tyX7_ok nmX7 hown hK hP hD hS 0 rfl rfl 2 (by decide) (hts _ kX7_gather_1) (fun _ h9 => h9) rfl (by decide +kernel) rfl rfl (Nat.le_of_ble_eq_true rfl) dX7_gather_2 (fun H locs hP hD hS => ?_)
  have hP : va_P D vwCl (w_trialbook ky aR aB aw ao ax au ay am (0 : Int32) rla rmo bsz bgp ber bxs bus bys bme) H := hP
  have hD : va_D A (w_trialbook ky aR aB aw ao ax au ay am (0 : Int32) rla rmo bsz bgp ber bxs bus bys bme) := hD
  refine lv_iconst (v := (0 : Int32)) hx hb dX7_gather_5 (by decide) ?_
  refine lv_istore_n (lv' := [(2, .int (0 : Int32)), (0, .ref aR), (1, .int p0)]) hx hb dX7_gather_6 rfl hl (by decide) rfl (fun ls hl => ?_)
  exact w_X7_gather_7 N C res hQ p0 N (0 : Int32) (0 : Int32) rla hF _ _ _ hP hD hS (lv_sub hl [1, 2, 0] rfl)
theorem c_X7_gather (l : Launch) (D : va_G) (ky : Nat → ClassId) (aR aB aw ao ax au ay am : Nat) (sz N : Nat)  (rlc : Int32) (rla : Nat → Int32) (rmo : Nat → Int32) (bsz : Int32) (bgp : Int32) (ber : Int32) (bxs : Nat → Int32) (bus : Nat → Int32) (bys : Nat → Int32) (bme : Nat → Int32) (p0 : Int32) (rlc' : Int32) (rla' : Nat → Int32) (hF : f_X7_gather N p0 rla bme = some (rlc', rla')) : MV l yX7_gather wsX7_gather rm_X7_gather D ky sz [.ref aR, .int p0] (w_trialbook ky aR aB aw ao ax au ay am rlc rla rmo bsz bgp ber bxs bus bys bme) (w_trialbook ky aR aB aw ao ax au ay am rlc' rla' rmo bsz bgp ber bxs bus bys bme) :=
  cr_X7_gather l D ky aR aB aw ao ax au ay am sz N rlc rla rmo bsz bgp ber bxs bus bys bme p0 (rlc', rla') hF
abbrev rm_X7_leftAtWorst : Room := { frames := 2, cells := 0, slots := 0, locals := 43 }
theorem iX7_leftAtWorst_X7 : ∀ w ∈ wsX70, w ∈ wsX7_leftAtWorst := by decide +kernel
theorem kX7_leftAtWorst_1 : (Cond.fieldLink RX7 19 "TwoLaws$Trial" "more" "[I") ∈ wsX7_leftAtWorst := by decide +kernel
theorem kX7_leftAtWorst_2 : (Cond.fieldLink RX7 15 "TwoLaws$Trial" "lawCount" "I") ∈ wsX7_leftAtWorst := by decide +kernel
theorem kX7_leftAtWorst_3 : (Cond.fieldLink RX7 9 "TwoLaws$Trial" "laws" "[I") ∈ wsX7_leftAtWorst := by decide +kernel
theorem kX7_leftAtWorst_4 : (Cond.fieldLink RX7 22 "TwoLaws$Trial" "book" "LTwoLaws$Book;") ∈ wsX7_leftAtWorst := by decide +kernel
theorem kX7_leftAtWorst_5 : (Cond.methodLink RX7 59 Lib.Math.max.name) ∈ wsX7_leftAtWorst := by decide +kernel
theorem kX7_leftAtWorst_6 : (Cond.static Lib.Math.max.name) ∈ wsX7_leftAtWorst := by decide +kernel
theorem kX7_leftAtWorst_7 : (Cond.initialized "java/lang/Math") ∈ wsX7_leftAtWorst := by decide +kernel
theorem kX7_leftAtWorst_8 : (Cond.code Lib.Math.max.name Lib.Math.max.code 2 (some .int)) ∈ wsX7_leftAtWorst := by decide +kernel
set_option maxHeartbeats 4000000 in
set_option maxRecDepth 100000 in
theorem w_X7_leftAtWorst_90 {p : Program} {l : Launch} {e : Env} {s : State} {m : MethodId} {args : Array Value} {below : List Frame} {meth : Method} {c : Code} {Q : State → Prop} {A : Nat → Prop} {D : va_G} {ky : Nat → ClassId} {aR aB aw ao ax au ay am : Nat} {rlc : Int32} {rla : Nat → Int32} {bsz : Int32} {bgp : Int32} {ber : Int32} {bxs : Nat → Int32} {bus : Nat → Int32} {bys : Nat → Int32} {bme : Nat → Int32} (N : Nat) (C : cx p s m c args D ky A cX7_leftAtWorst 6 wsX7_leftAtWorst RX7) (res : Int32 × (Nat → Int32)) (hQ : ∀ (pc : Nat) (H : Heap) (locs : List Loc) (ls : Array Slot), decode cX7_leftAtWorst pc = .ok (.ireturn, 1) → va_P D vwCl (w_trialbook ky aR aB aw ao ax au ay am rlc rla res.2 bsz bgp ber bxs bus bys bme) H → va_D A (w_trialbook ky aR aB aw ao ax au ay am rlc rla res.2 bsz bgp ber bxs bus bys bme) → va_S A s.heap H locs → W p l e rm_X7_leftAtWorst s m args below meth c H locs 0 0 Q (F0 m pc ls [.int res.1])) (rmo : Nat → Int32) : ∀ (n : Nat) (l3 : Int32) (l4 : Int32) (l5 : Int32), f_X7_leftAtWorst_90 N rmo n l3 l4 l5 = some res → ∀ (H : Heap) (locs : List Loc) (ls : Array Slot), va_P D vwCl (w_trialbook ky aR aB aw ao ax au ay am rlc rla rmo bsz bgp ber bxs bus bys bme) H → va_D A (w_trialbook ky aR aB aw ao ax au ay am rlc rla rmo bsz bgp ber bxs bus bys bme) → va_S A s.heap H locs → lv_has ls 6 [(0, .ref aR), (3, .int l3), (4, .int l4), (5, .int l5)] → W p l e rm_X7_leftAtWorst s m args below meth c H locs 0 0 Q (F0 m 90 ls []) := by
  obtain ⟨hx, hb, hml, hown, hts, hK, hA⟩ := id C
  intro n
  induction n with
  | zero =>
    intro l3 l4 l5 hF
    cases hF
  | succ n ih =>
    intro l3 l4 l5 hF H locs ls hP hD hS hl
    have hF : b_X7_leftAtWorst_90 N rmo (f_X7_leftAtWorst_90 N rmo n) l3 l4 l5 = some res := hF
    unfold b_X7_leftAtWorst_90 at hF
    refine lv_iload hx hb dX7_leftAtWorst_90 (lv_at hl 3 rfl) ?_
    refine lv_aload_n hx hb dX7_leftAtWorst_92 rfl (lv_at hl 0 rfl) ?_
    refine va_get (D := D) (ci := 6) (v := .ref ao) (C := RX7) (T := TX7) (N := 4) hx hb hts iX7_leftAtWorst_X7 hown hK hP 0 rfl rfl 3 (by decide) (hts _ kX7_leftAtWorst_1) (fun _ h9 => h9) rfl dX7_leftAtWorst_93 ?_
    refine va_alen (v := (474 : Int32)) hx hb hK hP 2 0 rfl rfl rfl dX7_leftAtWorst_96 ?_
    refine lv_icmp_ge (tgt := 124) hx hb dX7_leftAtWorst_97 (by decide) (fun c20 => ?_) (fun c20 => ?_)
    · have hF := if_t c20 hF
      refine lv_iload hx hb dX7_leftAtWorst_124 (lv_at hl 2 rfl) ?_
      have hF := Option.some.inj hF
      subst hF
      exact hQ _ H _ _ dX7_leftAtWorst_126 hP hD hS
    · have hF := if_f c20 hF
      refine lv_iload_n hx hb dX7_leftAtWorst_100 rfl (lv_at hl 1 rfl) ?_
      refine lv_aload_n hx hb dX7_leftAtWorst_101 rfl (lv_at hl 0 rfl) ?_
      refine va_get (D := D) (ci := 6) (v := .ref ao) (C := RX7) (T := TX7) (N := 4) hx hb hts iX7_leftAtWorst_X7 hown hK hP 0 rfl rfl 3 (by decide) (hts _ kX7_leftAtWorst_1) (fun _ h9 => h9) rfl dX7_leftAtWorst_102 ?_
      refine lv_iload hx hb dX7_leftAtWorst_105 (lv_at hl 3 rfl) ?_
      obtain ⟨h21, hF⟩ := gi_s hF
      refine va_iald hx hb hK hP 2 0 rfl rfl h21 dX7_leftAtWorst_107 ?_
      refine lv_iadd hx hb dX7_leftAtWorst_108 ?_
      refine lv_istore_n (lv' := [(3, .int (l3 + (rmo l5.toNatClampNeg))), (0, .ref aR), (4, .int l4), (5, .int l5)]) hx hb dX7_leftAtWorst_109 rfl hl (by decide) rfl (fun ls hl => ?_)
      refine lv_iload hx hb dX7_leftAtWorst_110 (lv_at hl 2 rfl) ?_
      refine lv_iload_n hx hb dX7_leftAtWorst_112 rfl (lv_at hl 0 rfl) ?_
      refine va_mmax hx hb (hml.trans hl.1.symm) hown (hts _ kX7_leftAtWorst_5) (hts _ kX7_leftAtWorst_6) (hts _ kX7_leftAtWorst_7) (hts _ kX7_leftAtWorst_8) (Nat.le_of_ble_eq_true rfl) (Nat.le_of_ble_eq_true rfl) (Nat.zero_le _) (Nat.zero_le _) dX7_leftAtWorst_113 ?_
      refine lv_topi (fun v22 e_v22 => ?_)
      have hF := nm_s e_v22 hF
      refine lv_istore (lv' := [(4, .int v22), (3, .int (l3 + (rmo l5.toNatClampNeg))), (0, .ref aR), (5, .int l5)]) hx hb dX7_leftAtWorst_116 hl (by decide) rfl (fun ls hl => ?_)
      refine lv_iinc (v := (l5 + (1 : Int32))) (lv' := [(5, .int (l5 + (1 : Int32))), (4, .int v22), (3, .int (l3 + (rmo l5.toNatClampNeg))), (0, .ref aR)]) hx hb dX7_leftAtWorst_118 hl (k := 3) rfl rfl (by decide) rfl (fun ls hl => ?_)
      refine lv_goto (tgt := 90) hx hb dX7_leftAtWorst_121 (by decide) ?_
      exact ih (l3 + (rmo l5.toNatClampNeg)) v22 (l5 + (1 : Int32)) hF H _ _ hP hD hS (lv_sub hl [3, 2, 1, 0] rfl)
set_option maxHeartbeats 4000000 in
set_option maxRecDepth 100000 in
theorem w_X7_leftAtWorst_10 {p : Program} {l : Launch} {e : Env} {s : State} {m : MethodId} {args : Array Value} {below : List Frame} {meth : Method} {c : Code} {Q : State → Prop} {A : Nat → Prop} {D : va_G} {ky : Nat → ClassId} {aR aB aw ao ax au ay am : Nat} {rlc : Int32} {rla : Nat → Int32} {bsz : Int32} {bgp : Int32} {ber : Int32} {bxs : Nat → Int32} {bus : Nat → Int32} {bys : Nat → Int32} {bme : Nat → Int32} (N : Nat) (C : cx p s m c args D ky A cX7_leftAtWorst 6 wsX7_leftAtWorst RX7) (res : Int32 × (Nat → Int32)) (hQ : ∀ (pc : Nat) (H : Heap) (locs : List Loc) (ls : Array Slot), decode cX7_leftAtWorst pc = .ok (.ireturn, 1) → va_P D vwCl (w_trialbook ky aR aB aw ao ax au ay am rlc rla res.2 bsz bgp ber bxs bus bys bme) H → va_D A (w_trialbook ky aR aB aw ao ax au ay am rlc rla res.2 bsz bgp ber bxs bus bys bme) → va_S A s.heap H locs → W p l e rm_X7_leftAtWorst s m args below meth c H locs 0 0 Q (F0 m pc ls [.int res.1])) (l1 : Int32) (l2 : Int32) : ∀ (n : Nat) (l3 : Int32) (rmo : Nat → Int32), f_X7_leftAtWorst_10 N l1 l2 rlc rla ber n l3 rmo = some res → ∀ (H : Heap) (locs : List Loc) (ls : Array Slot), va_P D vwCl (w_trialbook ky aR aB aw ao ax au ay am rlc rla rmo bsz bgp ber bxs bus bys bme) H → va_D A (w_trialbook ky aR aB aw ao ax au ay am rlc rla rmo bsz bgp ber bxs bus bys bme) → va_S A s.heap H locs → lv_has ls 6 [(0, .ref aR), (1, .int l1), (2, .int l2), (3, .int l3)] → W p l e rm_X7_leftAtWorst s m args below meth c H locs 0 0 Q (F0 m 10 ls []) := by
  obtain ⟨hx, hb, hml, hown, hts, hK, hA⟩ := id C
  intro n
  induction n with
  | zero =>
    intro l3 rmo hF
    cases hF
  | succ n ih =>
    intro l3 rmo hF H locs ls hP hD hS hl
    have hF : b_X7_leftAtWorst_10 N l1 l2 rlc rla ber (f_X7_leftAtWorst_10 N l1 l2 rlc rla ber n) l3 rmo = some res := hF
    unfold b_X7_leftAtWorst_10 at hF
    refine lv_iload_n hx hb dX7_leftAtWorst_10 rfl (lv_at hl 3 rfl) ?_
    refine lv_aload_n hx hb dX7_leftAtWorst_11 rfl (lv_at hl 0 rfl) ?_
    refine va_get (D := D) (ci := 6) (v := .int rlc) (C := RX7) (T := TX7) (N := 4) hx hb hts iX7_leftAtWorst_X7 hown hK hP 0 rfl rfl 2 (by decide) (hts _ kX7_leftAtWorst_2) (fun _ h9 => h9) rfl dX7_leftAtWorst_12 ?_
    refine lv_icmp_ge (tgt := 82) hx hb dX7_leftAtWorst_15 (by decide) (fun c3 => ?_) (fun c3 => ?_)
    · have hF := if_t c3 hF
      refine lv_iconst (v := (0 : Int32)) hx hb dX7_leftAtWorst_82 (by decide) ?_
      refine lv_istore_n (lv' := [(3, .int (0 : Int32)), (0, .ref aR), (1, .int l1), (2, .int l2)]) hx hb dX7_leftAtWorst_83 rfl hl (by decide) rfl (fun ls hl => ?_)
      refine lv_iconst (v := (0 : Int32)) hx hb dX7_leftAtWorst_84 (by decide) ?_
      refine lv_istore (lv' := [(4, .int (0 : Int32)), (3, .int (0 : Int32)), (0, .ref aR), (1, .int l1), (2, .int l2)]) hx hb dX7_leftAtWorst_85 hl (by decide) rfl (fun ls hl => ?_)
      refine lv_iconst (v := (0 : Int32)) hx hb dX7_leftAtWorst_87 (by decide) ?_
      refine lv_istore (lv' := [(5, .int (0 : Int32)), (4, .int (0 : Int32)), (3, .int (0 : Int32)), (0, .ref aR), (1, .int l1), (2, .int l2)]) hx hb dX7_leftAtWorst_88 hl (by decide) rfl (fun ls hl => ?_)
      exact w_X7_leftAtWorst_90 N C res hQ rmo N (0 : Int32) (0 : Int32) (0 : Int32) hF H _ _ hP hD hS (lv_sub hl [3, 2, 1, 0] rfl)
    · have hF := if_f c3 hF
      refine lv_iload_n hx hb dX7_leftAtWorst_18 rfl (lv_at hl 3 rfl) ?_
      refine lv_aload_n hx hb dX7_leftAtWorst_19 rfl (lv_at hl 0 rfl) ?_
      refine va_get (D := D) (ci := 6) (v := .ref aw) (C := RX7) (T := TX7) (N := 4) hx hb hts iX7_leftAtWorst_X7 hown hK hP 0 rfl rfl 1 (by decide) (hts _ kX7_leftAtWorst_3) (fun _ h9 => h9) rfl dX7_leftAtWorst_20 ?_
      refine va_alen (v := (289 : Int32)) hx hb hK hP 1 0 rfl rfl rfl dX7_leftAtWorst_23 ?_
      refine lv_icmp_ge (tgt := 82) hx hb dX7_leftAtWorst_24 (by decide) (fun c4 => ?_) (fun c4 => ?_)
      · have hF := if_t c4 hF
        refine lv_iconst (v := (0 : Int32)) hx hb dX7_leftAtWorst_82 (by decide) ?_
        refine lv_istore_n (lv' := [(3, .int (0 : Int32)), (0, .ref aR), (1, .int l1), (2, .int l2)]) hx hb dX7_leftAtWorst_83 rfl hl (by decide) rfl (fun ls hl => ?_)
        refine lv_iconst (v := (0 : Int32)) hx hb dX7_leftAtWorst_84 (by decide) ?_
        refine lv_istore (lv' := [(4, .int (0 : Int32)), (3, .int (0 : Int32)), (0, .ref aR), (1, .int l1), (2, .int l2)]) hx hb dX7_leftAtWorst_85 hl (by decide) rfl (fun ls hl => ?_)
        refine lv_iconst (v := (0 : Int32)) hx hb dX7_leftAtWorst_87 (by decide) ?_
        refine lv_istore (lv' := [(5, .int (0 : Int32)), (4, .int (0 : Int32)), (3, .int (0 : Int32)), (0, .ref aR), (1, .int l1), (2, .int l2)]) hx hb dX7_leftAtWorst_88 hl (by decide) rfl (fun ls hl => ?_)
        exact w_X7_leftAtWorst_90 N C res hQ rmo N (0 : Int32) (0 : Int32) (0 : Int32) hF H _ _ hP hD hS (lv_sub hl [3, 2, 1, 0] rfl)
      · have hF := if_f c4 hF
        refine lv_aload_n hx hb dX7_leftAtWorst_27 rfl (lv_at hl 0 rfl) ?_
        refine va_get (D := D) (ci := 6) (v := .ref aw) (C := RX7) (T := TX7) (N := 4) hx hb hts iX7_leftAtWorst_X7 hown hK hP 0 rfl rfl 1 (by decide) (hts _ kX7_leftAtWorst_3) (fun _ h9 => h9) rfl dX7_leftAtWorst_28 ?_
        refine lv_iload_n hx hb dX7_leftAtWorst_31 rfl (lv_at hl 3 rfl) ?_
        obtain ⟨h5, hF⟩ := gi_s hF
        refine va_iald hx hb hK hP 1 0 rfl rfl h5 dX7_leftAtWorst_32 ?_
        refine lv_iload_n hx hb dX7_leftAtWorst_33 rfl (lv_at hl 1 rfl) ?_
        refine lv_iload_n hx hb dX7_leftAtWorst_34 rfl (lv_at hl 2 rfl) ?_
        obtain ⟨r7, h6, hF⟩ := b1_s hF
        refine cl_si (As := [.int (rla l3.toNatClampNeg), .int l1, .int l2]) (rest := []) ⟨hx, hb, hml, hown, hts⟩ hK hP hD hS hA (c_X3_sum l D ky  _ N   (rla l3.toNatClampNeg) l1 l2 r7 h6) (va_cwS 3 hts gX7_leftAtWorst_X3_sum rfl rfl rfl (by decide +kernel) ⟨Nat.le_of_ble_eq_true rfl, Nat.le_of_ble_eq_true rfl⟩) rfl hl.1 (Nat.le_of_ble_eq_true rfl) dX7_leftAtWorst_35 ⟨Nat.zero_le _, Nat.zero_le _⟩ (fun H locs hP hD hS => ?_)
        refine lv_istore (lv' := [(4, .int r7), (0, .ref aR), (1, .int l1), (2, .int l2), (3, .int l3)]) hx hb dX7_leftAtWorst_38 hl (by decide) rfl (fun ls hl => ?_)
        refine lv_aload_n hx hb dX7_leftAtWorst_40 rfl (lv_at hl 1 rfl) ?_
        refine lv_iload hx hb dX7_leftAtWorst_41 (lv_at hl 0 rfl) ?_
        refine lv_aload_n hx hb dX7_leftAtWorst_43 rfl (lv_at hl 1 rfl) ?_
        refine va_get (D := D) (ci := 6) (v := .ref aB) (C := RX7) (T := TX7) (N := 4) hx hb hts iX7_leftAtWorst_X7 hown hK hP 0 rfl rfl 0 (by decide) (hts _ kX7_leftAtWorst_4) (fun _ h9 => h9) rfl dX7_leftAtWorst_44 ?_
        obtain ⟨r9, h8, hF⟩ := b1_s hF
        refine cl_vi (As := []) (rest := [.int r7, .ref aR]) (w' := (w_trialbook ky aR aB aw ao ax au ay am rlc rla rmo bsz bgp ber bxs bus bys bme)) ⟨hx, hb, hml, hown, hts⟩ hK hP hD hS hA (c_X0_errorNow l D ky aB ax au ay am _ N  bsz bgp ber bxs bus bys bme  r9 h8) (cwV 0 hts gX7_leftAtWorst_X0_errorNow rfl rfl rfl (by decide +kernel) ⟨Nat.le_of_ble_eq_true rfl, Nat.le_of_ble_eq_true rfl⟩) [3, 4, 5, 6, 7] [0, 1, 2] [0, 1, 2, 3, 4, 5, 6, 7] 0 0 rfl rfl rfl rfl (wr := [(aR, .inr (6, [.ref aB, .ref aw, .int rlc, .ref ao])), (aw, .inl (ky 0, 289, .inl rla)), (ao, .inl (ky 0, 474, .inl rmo))]) rfl (by decide) rfl rfl hl.1 (Nat.le_of_ble_eq_true rfl) dX7_leftAtWorst_47 ⟨Nat.zero_le _, Nat.zero_le _⟩ (fun H locs hP hD hS => ?_)
        obtain ⟨r11, h10, hF⟩ := b1_s hF
        refine cl_si (As := [.int r7, .int r9]) (rest := [.ref aR]) ⟨hx, hb, hml, hown, hts⟩ hK hP hD hS hA (c_X3_leastEnd l D ky  _ N   r7 r9 r11 h10) (va_cwS 2 hts gX7_leftAtWorst_X3_leastEnd rfl rfl rfl (by decide +kernel) ⟨Nat.le_of_ble_eq_true rfl, Nat.le_of_ble_eq_true rfl⟩) rfl hl.1 (Nat.le_of_ble_eq_true rfl) dX7_leftAtWorst_50 ⟨Nat.zero_le _, Nat.zero_le _⟩ (fun H locs hP hD hS => ?_)
        refine lv_iconst (v := (1 : Int32)) hx hb dX7_leftAtWorst_53 (by decide) ?_
        obtain ⟨v13, h12, hF⟩ := b1_s hF
        refine cl_vv (As := [.int r11, .int (1 : Int32)]) (rest := []) (w' := (w_trialbook ky aR aB aw ao ax au ay am rlc rla v13 bsz bgp ber bxs bus bys bme)) ⟨hx, hb, hml, hown, hts⟩ hK hP hD hS hA (c_X7_add l D ky aR aB aw ao _ N  rlc rla rmo r11 (1 : Int32) v13 h12) (cwV 2 hts gX7_leftAtWorst_X7_add rfl rfl rfl (by decide +kernel) ⟨Nat.le_of_ble_eq_true rfl, Nat.le_of_ble_eq_true rfl⟩) [0, 1, 2] [3, 4, 5, 6, 7] [5, 6, 7, 0, 1, 2, 3, 4] 0 6 rfl rfl rfl rfl (wr := [(aB, .inr (0, [.ref ax, .ref au, .ref ay, .ref am, .int bsz, .int bgp, .int ber])), (ax, .inl (ky 0, 12, .inl bxs)), (au, .inl (ky 0, 12, .inl bus)), (ay, .inl (ky 0, 12, .inl bys)), (am, .inl (ky 0, 289, .inl bme))]) rfl (by decide) rfl rfl hl.1 (Nat.le_of_ble_eq_true rfl) dX7_leftAtWorst_54 ⟨Nat.zero_le _, Nat.zero_le _⟩ (fun H locs hP hD hS => ?_)
        refine lv_aload_n hx hb dX7_leftAtWorst_57 rfl (lv_at hl 1 rfl) ?_
        refine lv_iload hx hb dX7_leftAtWorst_58 (lv_at hl 0 rfl) ?_
        refine lv_aload_n hx hb dX7_leftAtWorst_60 rfl (lv_at hl 1 rfl) ?_
        refine va_get (D := D) (ci := 6) (v := .ref aB) (C := RX7) (T := TX7) (N := 4) hx hb hts iX7_leftAtWorst_X7 hown hK hP 0 rfl rfl 0 (by decide) (hts _ kX7_leftAtWorst_4) (fun _ h9 => h9) rfl dX7_leftAtWorst_61 ?_
        obtain ⟨r15, h14, hF⟩ := b1_s hF
        refine cl_vi (As := []) (rest := [.int r7, .ref aR]) (w' := (w_trialbook ky aR aB aw ao ax au ay am rlc rla v13 bsz bgp ber bxs bus bys bme)) ⟨hx, hb, hml, hown, hts⟩ hK hP hD hS hA (c_X0_errorNow l D ky aB ax au ay am _ N  bsz bgp ber bxs bus bys bme  r15 h14) (cwV 0 hts gX7_leftAtWorst_X0_errorNow rfl rfl rfl (by decide +kernel) ⟨Nat.le_of_ble_eq_true rfl, Nat.le_of_ble_eq_true rfl⟩) [3, 4, 5, 6, 7] [0, 1, 2] [0, 1, 2, 3, 4, 5, 6, 7] 0 0 rfl rfl rfl rfl (wr := [(aR, .inr (6, [.ref aB, .ref aw, .int rlc, .ref ao])), (aw, .inl (ky 0, 289, .inl rla)), (ao, .inl (ky 0, 474, .inl v13))]) rfl (by decide) rfl rfl hl.1 (Nat.le_of_ble_eq_true rfl) dX7_leftAtWorst_64 ⟨Nat.zero_le _, Nat.zero_le _⟩ (fun H locs hP hD hS => ?_)
        obtain ⟨r17, h16, hF⟩ := b1_s hF
        refine cl_si (As := [.int r7, .int r15]) (rest := [.ref aR]) ⟨hx, hb, hml, hown, hts⟩ hK hP hD hS hA (c_X3_greatestEnd l D ky  _ N   r7 r15 r17 h16) (va_cwS 2 hts gX7_leftAtWorst_X3_greatestEnd rfl rfl rfl (by decide +kernel) ⟨Nat.le_of_ble_eq_true rfl, Nat.le_of_ble_eq_true rfl⟩) rfl hl.1 (Nat.le_of_ble_eq_true rfl) dX7_leftAtWorst_67 ⟨Nat.zero_le _, Nat.zero_le _⟩ (fun H locs hP hD hS => ?_)
        refine lv_iconst (v := (1 : Int32)) hx hb dX7_leftAtWorst_70 (by decide) ?_
        refine lv_iadd hx hb dX7_leftAtWorst_71 ?_
        refine lv_iconst (v := (-1 : Int32)) hx hb dX7_leftAtWorst_72 (by decide) ?_
        obtain ⟨v19, h18, hF⟩ := b1_s hF
        refine cl_vv (As := [.int (r17 + (1 : Int32)), .int (-1 : Int32)]) (rest := []) (w' := (w_trialbook ky aR aB aw ao ax au ay am rlc rla v19 bsz bgp ber bxs bus bys bme)) ⟨hx, hb, hml, hown, hts⟩ hK hP hD hS hA (c_X7_add l D ky aR aB aw ao _ N  rlc rla v13 (r17 + (1 : Int32)) (-1 : Int32) v19 h18) (cwV 2 hts gX7_leftAtWorst_X7_add rfl rfl rfl (by decide +kernel) ⟨Nat.le_of_ble_eq_true rfl, Nat.le_of_ble_eq_true rfl⟩) [0, 1, 2] [3, 4, 5, 6, 7] [5, 6, 7, 0, 1, 2, 3, 4] 0 6 rfl rfl rfl rfl (wr := [(aB, .inr (0, [.ref ax, .ref au, .ref ay, .ref am, .int bsz, .int bgp, .int ber])), (ax, .inl (ky 0, 12, .inl bxs)), (au, .inl (ky 0, 12, .inl bus)), (ay, .inl (ky 0, 12, .inl bys)), (am, .inl (ky 0, 289, .inl bme))]) rfl (by decide) rfl rfl hl.1 (Nat.le_of_ble_eq_true rfl) dX7_leftAtWorst_73 ⟨Nat.zero_le _, Nat.zero_le _⟩ (fun H locs hP hD hS => ?_)
        refine lv_iinc (v := (l3 + (1 : Int32))) (lv' := [(3, .int (l3 + (1 : Int32))), (4, .int r7), (0, .ref aR), (1, .int l1), (2, .int l2)]) hx hb dX7_leftAtWorst_76 hl (k := 4) rfl rfl (by decide) rfl (fun ls hl => ?_)
        refine lv_goto (tgt := 10) hx hb dX7_leftAtWorst_79 (by decide) ?_
        exact ih (l3 + (1 : Int32)) v19 hF H _ _ hP hD hS (lv_sub hl [2, 3, 4, 0] rfl)
set_option maxHeartbeats 4000000 in
set_option maxRecDepth 100000 in
theorem cr_X7_leftAtWorst (l : Launch) (D : va_G) (ky : Nat → ClassId) (aR aB aw ao ax au ay am : Nat) (sz N : Nat)  (rlc : Int32) (rla : Nat → Int32) (rmo : Nat → Int32) (bsz : Int32) (bgp : Int32) (ber : Int32) (bxs : Nat → Int32) (bus : Nat → Int32) (bys : Nat → Int32) (bme : Nat → Int32) (p0 : Int32) (p1 : Int32) (res : Int32 × (Nat → Int32)) (hF : f_X7_leftAtWorst N p0 p1 rlc rla rmo ber = some res) : MI l yX7_leftAtWorst wsX7_leftAtWorst rm_X7_leftAtWorst D ky sz [.ref aR, .int p0, .int p1] (w_trialbook ky aR aB aw ao ax au ay am rlc rla rmo bsz bgp ber bxs bus bys bme) (w_trialbook ky aR aB aw ao ax au ay am rlc rla res.2 bsz bgp ber bxs bus bys bme) res.1 := by
  unfold MI
  refine Met.ofW (cc := cX7_leftAtWorst) (maxL := 6) (ret := (some .int)) (by decide) rfl ?_
  intro p e s m args below meth c s₁ B hml hv
  obtain ⟨rfl, hsz, hP, hK, hD0⟩ := hv
  have hx := B.exec
  have hb := B.bytes
  have hr := B.returns
  have hts := atoms_spec (ws := wsX7_leftAtWorst) B.pre
  have hown : s.vm.findClass RX7 = some m.cls := findClass_of_methodNamed B.named
  have hlocks := B.notSynchronized
  subst hsz
  have hD := hD0.self (sz := s.heap.size)
  generalize hAe : va_A (w_trialbook ky aR aB aw ao ax au ay am rlc rla rmo bsz bgp ber bxs bus bys bme) s.heap.size = A at hD ⊢
  have hA : ∀ q : Nat, s.heap.size ≤ q → A q := fun q h => by rw [← hAe]; exact Or.inr h
  have hS : va_S A s.heap s.heap [] := va_S.rf
  have hP : va_P D vwCl (w_trialbook ky aR aB aw ao ax au ay am rlc rla rmo bsz bgp ber bxs bus bys bme) s.heap := hP
  have hl := lv_entry ([.ref aR, .int p0, .int p1]) (n := 6) (Nat.le_of_ble_eq_true rfl)
  rw [lg_entry_eq]
  generalize (lg_sl ([.ref aR, .int p0, .int p1]) ++ List.replicate (6 - (lg_sl ([.ref aR, .int p0, .int p1])).length) Slot.unset).toArray = ls at hl ⊢
  have hl : lv_has ls 6 [(0, .ref aR), (1, .int p0), (2, .int p1)] := hl
  have C : cx p s m c ([.ref aR, .int p0, .int p1]).toArray D ky A cX7_leftAtWorst 6 wsX7_leftAtWorst RX7 := ⟨hx, hb, hml, hown, hts, hK, hA⟩
  have hQ : ∀ (pc : Nat) (H : Heap) (locs : List Loc) (ls : Array Slot), decode cX7_leftAtWorst pc = .ok (.ireturn, 1) → va_P D vwCl (w_trialbook ky aR aB aw ao ax au ay am rlc rla res.2 bsz bgp ber bxs bus bys bme) H → va_D A (w_trialbook ky aR aB aw ao ax au ay am rlc rla res.2 bsz bgp ber bxs bus bys bme) → va_S A s.heap H locs → W p l e rm_X7_leftAtWorst s m ([.ref aR, .int p0, .int p1]).toArray below meth c H locs 0 0 (MQ below (va_Qi (S := Unit) (fun r _ => r = res.1) (fun _ t => va_P D vwCl (w_trialbook ky aR aB aw ao ax au ay am rlc rla res.2 bsz bgp ber bxs bus bys bme) t.heap ∧ va_K D vwCl (tyW ky) t ∧ va_D A (w_trialbook ky aR aB aw ao ax au ay am rlc rla res.2 bsz bgp ber bxs bus bys bme)) A) ([.ref aR, .int p0, .int p1]).toArray s 0 0 A) (F0 m pc ls [.int res.1]) := fun pc H locs ls hd hP hD hS => W.iret hx hb hr (fun t ht hW => ⟨⟨res.1, (), rfl, rfl, by rw [ht]; exact hP, va_K.moved hW.alike hK, hD⟩, hS.F ht⟩) hS.2.2 hd
  unfold f_X7_leftAtWorst at hF
  refine lv_aload_n hx hb dX7_leftAtWorst_0 rfl (lv_at hl 0 rfl) ?_
  refine va_get (D := D) (ci := 6) (v := .ref ao) (C := RX7) (T := TX7) (N := 4) hx hb hts iX7_leftAtWorst_X7 hown hK hP 0 rfl rfl 3 (by decide) (hts _ kX7_leftAtWorst_1) (fun _ h9 => h9) rfl dX7_leftAtWorst_1 ?_
  refine lv_iconst (v := (0 : Int32)) hx hb dX7_leftAtWorst_4 (by decide) ?_
  obtain ⟨v2, h1, hF⟩ := b1_s hF
  refine cl_sv (As := [.ref ao, .int (0 : Int32)]) (rest := []) (w' := (w_trialbook ky aR aB aw ao ax au ay am rlc rla v2 bsz bgp ber bxs bus bys bme)) ⟨hx, hb, hml, hown, hts⟩ hK hP hD hS hA (c_J7_fill_53178 l D ky ao _ N 474 rmo (0 : Int32) v2 h1) (va_cwS 2 hts gX7_leftAtWorst_J7_fill_53178 rfl rfl rfl (by decide +kernel) ⟨Nat.le_of_ble_eq_true rfl, Nat.le_of_ble_eq_true rfl⟩) [2] [0, 1, 3, 4, 5, 6, 7] [0, 1, 7, 2, 3, 4, 5, 6] rfl (wr := [(aR, .inr (6, [.ref aB, .ref aw, .int rlc, .ref ao])), (aw, .inl (ky 0, 289, .inl rla)), (aB, .inr (0, [.ref ax, .ref au, .ref ay, .ref am, .int bsz, .int bgp, .int ber])), (ax, .inl (ky 0, 12, .inl bxs)), (au, .inl (ky 0, 12, .inl bus)), (ay, .inl (ky 0, 12, .inl bys)), (am, .inl (ky 0, 289, .inl bme))]) rfl (by decide) rfl rfl hl.1 (Nat.le_of_ble_eq_true rfl) dX7_leftAtWorst_5 ⟨Nat.zero_le _, Nat.zero_le _⟩ (fun H locs hP hD hS => ?_)
  refine lv_iconst (v := (0 : Int32)) hx hb dX7_leftAtWorst_8 (by decide) ?_
  refine lv_istore_n (lv' := [(3, .int (0 : Int32)), (0, .ref aR), (1, .int p0), (2, .int p1)]) hx hb dX7_leftAtWorst_9 rfl hl (by decide) rfl (fun ls hl => ?_)
  exact w_X7_leftAtWorst_10 N C res hQ p0 p1 N (0 : Int32) v2 hF _ _ _ hP hD hS (lv_sub hl [1, 2, 3, 0] rfl)
theorem c_X7_leftAtWorst (l : Launch) (D : va_G) (ky : Nat → ClassId) (aR aB aw ao ax au ay am : Nat) (sz N : Nat)  (rlc : Int32) (rla : Nat → Int32) (rmo : Nat → Int32) (bsz : Int32) (bgp : Int32) (ber : Int32) (bxs : Nat → Int32) (bus : Nat → Int32) (bys : Nat → Int32) (bme : Nat → Int32) (p0 : Int32) (p1 : Int32) (rv : Int32) (rmo' : Nat → Int32) (hF : f_X7_leftAtWorst N p0 p1 rlc rla rmo ber = some (rv, rmo')) : MI l yX7_leftAtWorst wsX7_leftAtWorst rm_X7_leftAtWorst D ky sz [.ref aR, .int p0, .int p1] (w_trialbook ky aR aB aw ao ax au ay am rlc rla rmo bsz bgp ber bxs bus bys bme) (w_trialbook ky aR aB aw ao ax au ay am rlc rla rmo' bsz bgp ber bxs bus bys bme) rv :=
  cr_X7_leftAtWorst l D ky aR aB aw ao ax au ay am sz N rlc rla rmo bsz bgp ber bxs bus bys bme p0 p1 (rv, rmo') hF
