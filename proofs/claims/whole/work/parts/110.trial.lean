def f_X7_add (N : Nat) (p0 : Int32) (p1 : Int32) (rmo : Nat → Int32) : Option ((Nat → Int32)) :=
  (if (p0 + (236 : Int32)) < 0 then some (rmo) else (if (474 : Int32) ≤ (p0 + (236 : Int32)) then some (rmo) else gi (p0 + (236 : Int32)) 474 (gi (p0 + (236 : Int32)) 474 (some ((upd rmo (p0 + (236 : Int32)).toNatClampNeg ((rmo (p0 + (236 : Int32)).toNatClampNeg) + p1)))))))
def b_X7_gather_7 (N : Nat)  (l2 : Int32) (bme : Nat → Int32) (k7 : Int32 → Int32 → (Nat → Int32) → Option (Int32 × (Nat → Int32))) (l3 : Int32) (rlc : Int32) (rla : Nat → Int32) : Option (Int32 × (Nat → Int32)) :=
  (if (289 : Int32) ≤ l3 then some (rlc, rla) else b1 (f_X0_letsLaw N l2 l3 bme) (fun r3 => (if r3 = 0 then k7 (l3 + (1 : Int32)) rlc rla else (if (289 : Int32) ≤ rlc then k7 (l3 + (1 : Int32)) rlc rla else gi rlc 289 (k7 (l3 + (1 : Int32)) (rlc + (1 : Int32)) (upd rla rlc.toNatClampNeg l3))))))
def f_X7_gather_7 (N : Nat)  (l2 : Int32) (bme : Nat → Int32) : Nat → Int32 → Int32 → (Nat → Int32) → Option (Int32 × (Nat → Int32))
  | 0, _, _, _ => none
  | n + 1, l3, rlc, rla => b_X7_gather_7 N l2 bme (f_X7_gather_7 N l2 bme n) l3 rlc rla
def f_X7_gather (N : Nat) (p1 : Int32) (rla : Nat → Int32) (bme : Nat → Int32) : Option (Int32 × (Nat → Int32)) :=
  f_X7_gather_7 N p1 bme N (0 : Int32) (0 : Int32) rla
def b_X7_leftAtWorst_83 (N : Nat)  (rmo : Nat → Int32) (k83 : Int32 → Int32 → Int32 → Option (Int32 × (Nat → Int32))) (l4 : Int32) (l5 : Int32) (l6 : Int32) : Option (Int32 × (Nat → Int32)) :=
  (if (474 : Int32) ≤ l6 then some (l5, rmo) else gi l6 474 (nm (if l5 < (l4 + (rmo l6.toNatClampNeg)) then (l4 + (rmo l6.toNatClampNeg)) else l5) (fun v18 => k83 (l4 + (rmo l6.toNatClampNeg)) v18 (l6 + (1 : Int32)))))
def f_X7_leftAtWorst_83 (N : Nat)  (rmo : Nat → Int32) : Nat → Int32 → Int32 → Int32 → Option (Int32 × (Nat → Int32))
  | 0, _, _, _ => none
  | n + 1, l4, l5, l6 => b_X7_leftAtWorst_83 N rmo (f_X7_leftAtWorst_83 N rmo n) l4 l5 l6
def b_X7_leftAtWorst_11 (N : Nat)  (l1 : Int32) (l2 : Int32) (l3 : Int32) (rlc : Int32) (rla : Nat → Int32) (k11 : Int32 → (Nat → Int32) → Option (Int32 × (Nat → Int32))) (l4 : Int32) (rmo : Nat → Int32) : Option (Int32 × (Nat → Int32)) :=
  (if rlc ≤ l4 then f_X7_leftAtWorst_83 N rmo N (0 : Int32) (0 : Int32) (0 : Int32) else (if (289 : Int32) ≤ l4 then f_X7_leftAtWorst_83 N rmo N (0 : Int32) (0 : Int32) (0 : Int32) else gi l4 289 (b1 (f_X3_sum N (rla l4.toNatClampNeg) l1 l2) (fun r7 => b1 (f_X3_leastEnd N r7 l3) (fun r9 => b1 (f_X7_add N r9 (1 : Int32) rmo) (fun v11 => b1 (f_X3_greatestEnd N r7 l3) (fun r13 => b1 (f_X7_add N (r13 + (1 : Int32)) (-1 : Int32) v11) (fun v15 => k11 (l4 + (1 : Int32)) v15))))))))
def f_X7_leftAtWorst_11 (N : Nat)  (l1 : Int32) (l2 : Int32) (l3 : Int32) (rlc : Int32) (rla : Nat → Int32) : Nat → Int32 → (Nat → Int32) → Option (Int32 × (Nat → Int32))
  | 0, _, _ => none
  | n + 1, l4, rmo => b_X7_leftAtWorst_11 N l1 l2 l3 rlc rla (f_X7_leftAtWorst_11 N l1 l2 l3 rlc rla n) l4 rmo
def f_X7_leftAtWorst (N : Nat) (p0 : Int32) (p1 : Int32) (p2 : Int32) (rlc : Int32) (rla : Nat → Int32) (rmo : Nat → Int32) : Option (Int32 × (Nat → Int32)) :=
  b1 (f_J7_fill_53178 N (0 : Int32) 474 rmo) (fun v2 => f_X7_leftAtWorst_11 N p0 p1 p2 rlc rla N (0 : Int32) v2)
abbrev rm_X7_add : Room := { frames := 0, cells := 0, slots := 0, locals := 0 }
theorem iX7_add_X7 : ∀ w ∈ wsX70, w ∈ wsX7_add := by decide +kernel
theorem kX7_add_1 : (Cond.fieldLink RX7 19 "TwoLaws$Trial" "more" "[I") ∈ wsX7_add := by decide +kernel
set_option maxHeartbeats 4000000 in
set_option maxRecDepth 100000 in
theorem cr_X7_add (l : Launch) (D : va_G) (ky : Nat → ClassId) (aR aw ao : Nat) (sz N : Nat)  (rlc : Int32) (rla : Nat → Int32) (rmo : Nat → Int32) (p0 : Int32) (p1 : Int32) (res : (Nat → Int32)) (hF : f_X7_add N p0 p1 rmo = some res) : MV l yX7_add wsX7_add rm_X7_add D ky sz [.ref aR, .int p0, .int p1] (w_trial ky aR aw ao rlc rla rmo) (w_trial ky aR aw ao rlc rla res) := by
  unfold MV
  refine Met.ofW (cc := cX7_add) (maxL := 4) (ret := none) (by decide) rfl ?_
  intro p e s m args below meth c s₁ B hml hv
  obtain ⟨rfl, hsz, hP, hK, hD0⟩ := hv
  have hx := B.exec
  have hb := B.bytes
  have hr := B.returns
  have hts := atoms_spec (ws := wsX7_add) B.pre
  have hown : s.vm.findClass RX7 = some m.cls := findClass_of_methodNamed B.named
  have hlocks := B.notSynchronized
  subst hsz
  have hD := hD0.self (sz := s.heap.size)
  generalize hAe : va_A (w_trial ky aR aw ao rlc rla rmo) s.heap.size = A at hD ⊢
  have hA : ∀ q : Nat, s.heap.size ≤ q → A q := fun q h => by rw [← hAe]; exact Or.inr h
  have hS : va_S A s.heap s.heap [] := va_S.rf
  have hP : va_P D vwCl (w_trial ky aR aw ao rlc rla rmo) s.heap := hP
  have hl := lv_entry ([.ref aR, .int p0, .int p1]) (n := 4) (Nat.le_of_ble_eq_true rfl)
  rw [lg_entry_eq]
  generalize (lg_sl ([.ref aR, .int p0, .int p1]) ++ List.replicate (4 - (lg_sl ([.ref aR, .int p0, .int p1])).length) Slot.unset).toArray = ls at hl ⊢
  have hl : lv_has ls 4 [(0, .ref aR), (1, .int p0), (2, .int p1)] := hl
  have C : cx p s m c ([.ref aR, .int p0, .int p1]).toArray D ky A cX7_add 4 wsX7_add RX7 := ⟨hx, hb, hml, hown, hts, hK, hA⟩
  have hQ : ∀ (pc : Nat) (H : Heap) (locs : List Loc) (ls : Array Slot), decode cX7_add pc = .ok (.return_, 1) → va_P D vwCl (w_trial ky aR aw ao rlc rla res) H → va_D A (w_trial ky aR aw ao rlc rla res) → va_S A s.heap H locs → W p l e rm_X7_add s m ([.ref aR, .int p0, .int p1]).toArray below meth c H locs 0 0 (MQ below (va_Qv (S := Unit) (fun _ => True) (fun _ t => va_P D vwCl (w_trial ky aR aw ao rlc rla res) t.heap ∧ va_K D vwCl (tyW ky) t ∧ va_D A (w_trial ky aR aw ao rlc rla res)) A) ([.ref aR, .int p0, .int p1]).toArray s 0 0 A) (F0 m pc ls []) := fun pc H locs ls hd hP hD hS => W.vret hx hb hr (fun t ht hW => ⟨⟨(), rfl, trivial, by rw [ht]; exact hP, va_K.moved hW.alike hK, hD⟩, hS.F ht⟩) hS.2.2 hd
  unfold f_X7_add at hF
  refine lv_iload_n hx hb dX7_add_0 rfl (lv_at hl 1 rfl) ?_
  refine lv_sipush (v := (236 : Int32)) hx hb dX7_add_1 (by decide) ?_
  refine lv_iadd hx hb dX7_add_4 ?_
  refine lv_istore_n (lv' := [(3, .int (p0 + (236 : Int32))), (0, .ref aR), (1, .int p0), (2, .int p1)]) hx hb dX7_add_5 rfl hl (by decide) rfl (fun ls hl => ?_)
  refine lv_iload_n hx hb dX7_add_6 rfl (lv_at hl 0 rfl) ?_
  refine lv_if_lt (tgt := 29) hx hb dX7_add_7 (by decide) (fun c1 => ?_) (fun c1 => ?_)
  · have hF := if_t c1 hF
    have hF := Option.some.inj hF
    subst hF
    exact hQ _ _ _ _ dX7_add_29 hP hD hS
  · have hF := if_f c1 hF
    refine lv_iload_n hx hb dX7_add_10 rfl (lv_at hl 0 rfl) ?_
    refine lv_aload_n hx hb dX7_add_11 rfl (lv_at hl 1 rfl) ?_
    refine va_get (D := D) (ci := 6) (v := .ref ao) (C := RX7) (T := TX7) (N := 3) hx hb hts iX7_add_X7 hown hK hP 0 rfl rfl 2 (by decide) (hts _ kX7_add_1) (fun _ h9 => h9) rfl dX7_add_12 ?_
    refine va_alen (v := (474 : Int32)) hx hb hK hP 2 0 rfl rfl rfl dX7_add_15 ?_
    refine lv_icmp_ge (tgt := 29) hx hb dX7_add_16 (by decide) (fun c2 => ?_) (fun c2 => ?_)
    · have hF := if_t c2 hF
      have hF := Option.some.inj hF
      subst hF
      exact hQ _ _ _ _ dX7_add_29 hP hD hS
    · have hF := if_f c2 hF
      refine lv_aload_n hx hb dX7_add_19 rfl (lv_at hl 1 rfl) ?_
      refine va_get (D := D) (ci := 6) (v := .ref ao) (C := RX7) (T := TX7) (N := 3) hx hb hts iX7_add_X7 hown hK hP 0 rfl rfl 2 (by decide) (hts _ kX7_add_1) (fun _ h9 => h9) rfl dX7_add_20 ?_
      refine lv_iload_n hx hb dX7_add_23 rfl (lv_at hl 0 rfl) ?_
      refine lv_dup2_11 hx hb dX7_add_24 rfl rfl ?_
      obtain ⟨h3, hF⟩ := gi_s hF
      refine va_iald hx hb hK hP 2 0 rfl rfl h3 dX7_add_25 ?_
      refine lv_iload_n hx hb dX7_add_26 rfl (lv_at hl 3 rfl) ?_
      refine lv_iadd hx hb dX7_add_27 ?_
      obtain ⟨h4, hF⟩ := gi_s hF
      refine va_iast hx hb hK hP hD hS 2 0 rfl rfl h4 dX7_add_28 (fun H locs hP hD hS => ?_)
      have hP : va_P D vwCl (w_trial ky aR aw ao rlc rla (upd rmo (p0 + (236 : Int32)).toNatClampNeg ((rmo (p0 + (236 : Int32)).toNatClampNeg) + p1))) H := hP
      have hD : va_D A (w_trial ky aR aw ao rlc rla (upd rmo (p0 + (236 : Int32)).toNatClampNeg ((rmo (p0 + (236 : Int32)).toNatClampNeg) + p1))) := hD
      have hF := Option.some.inj hF
      subst hF
      exact hQ _ _ _ _ dX7_add_29 hP hD hS
theorem c_X7_add (l : Launch) (D : va_G) (ky : Nat → ClassId) (aR aw ao : Nat) (sz N : Nat)  (rlc : Int32) (rla : Nat → Int32) (rmo : Nat → Int32) (p0 : Int32) (p1 : Int32) (rmo' : Nat → Int32) (hF : f_X7_add N p0 p1 rmo = some (rmo')) : MV l yX7_add wsX7_add rm_X7_add D ky sz [.ref aR, .int p0, .int p1] (w_trial ky aR aw ao rlc rla rmo) (w_trial ky aR aw ao rlc rla rmo') :=
  cr_X7_add l D ky aR aw ao sz N rlc rla rmo p0 p1 (rmo') hF
abbrev rm_X7_gather : Room := { frames := 2, cells := 0, slots := 0, locals := 43 }
theorem iX7_gather_X7 : ∀ w ∈ wsX70, w ∈ wsX7_gather := by decide +kernel
theorem kX7_gather_1 : (Cond.fieldLink RX7 15 "TwoLaws$Trial" "lawCount" "I") ∈ wsX7_gather := by decide +kernel
theorem kX7_gather_2 : (Cond.fieldLink RX7 9 "TwoLaws$Trial" "laws" "[I") ∈ wsX7_gather := by decide +kernel
set_option maxHeartbeats 4000000 in
set_option maxRecDepth 100000 in
theorem w_X7_gather_7 {p : Program} {l : Launch} {e : Env} {s : State} {m : MethodId} {args : Array Value} {below : List Frame} {meth : Method} {c : Code} {Q : State → Prop} {A : Nat → Prop} {D : va_G} {ky : Nat → ClassId} {aR aw ao aB ax au ay am : Nat} {rmo : Nat → Int32} {bsz : Int32} {bgp : Int32} {ber : Int32} {bxs : Nat → Int32} {bus : Nat → Int32} {bys : Nat → Int32} {bme : Nat → Int32} (N : Nat) (C : cx p s m c args D ky A cX7_gather 4 wsX7_gather RX7) (res : Int32 × (Nat → Int32)) (hQ : ∀ (pc : Nat) (H : Heap) (locs : List Loc) (ls : Array Slot), decode cX7_gather pc = .ok (.return_, 1) → va_P D vwCl (w_trialbook ky aR aw ao aB ax au ay am res.1 res.2 rmo bsz bgp ber bxs bus bys bme) H → va_D A (w_trialbook ky aR aw ao aB ax au ay am res.1 res.2 rmo bsz bgp ber bxs bus bys bme) → va_S A s.heap H locs → W p l e rm_X7_gather s m args below meth c H locs 0 0 Q (F0 m pc ls [])) (l2 : Int32) : ∀ (n : Nat) (l3 : Int32) (rlc : Int32) (rla : Nat → Int32), f_X7_gather_7 N l2 bme n l3 rlc rla = some res → ∀ (H : Heap) (locs : List Loc) (ls : Array Slot), va_P D vwCl (w_trialbook ky aR aw ao aB ax au ay am rlc rla rmo bsz bgp ber bxs bus bys bme) H → va_D A (w_trialbook ky aR aw ao aB ax au ay am rlc rla rmo bsz bgp ber bxs bus bys bme) → va_S A s.heap H locs → lv_has ls 4 [(0, .ref aR), (1, .ref aB), (2, .int l2), (3, .int l3)] → W p l e rm_X7_gather s m args below meth c H locs 0 0 Q (F0 m 7 ls []) := by
  obtain ⟨hx, hb, hml, hown, hts, hK, hA⟩ := id C
  intro n
  induction n with
  | zero =>
    intro l3 rlc rla hF
    cases hF
  | succ n ih =>
    intro l3 rlc rla hF H locs ls hP hD hS hl
    have hF : b_X7_gather_7 N l2 bme (f_X7_gather_7 N l2 bme n) l3 rlc rla = some res := hF
    unfold b_X7_gather_7 at hF
    refine lv_iload_n hx hb dX7_gather_7 rfl (lv_at hl 3 rfl) ?_
    refine lv_aload_n hx hb dX7_gather_8 rfl (lv_at hl 0 rfl) ?_
    refine va_get (D := D) (ci := 6) (v := .ref aw) (C := RX7) (T := TX7) (N := 3) hx hb hts iX7_gather_X7 hown hK hP 0 rfl rfl 0 (by decide) (hts _ kX7_gather_2) (fun _ h9 => h9) rfl dX7_gather_9 ?_
    refine va_alen (v := (289 : Int32)) hx hb hK hP 1 0 rfl rfl rfl dX7_gather_12 ?_
    refine lv_icmp_ge (tgt := 63) hx hb dX7_gather_13 (by decide) (fun c1 => ?_) (fun c1 => ?_)
    · have hF := if_t c1 hF
      have hF := Option.some.inj hF
      subst hF
      exact hQ _ H _ _ dX7_gather_63 hP hD hS
    · have hF := if_f c1 hF
      refine lv_aload_n hx hb dX7_gather_16 rfl (lv_at hl 1 rfl) ?_
      refine lv_iload_n hx hb dX7_gather_17 rfl (lv_at hl 2 rfl) ?_
      refine lv_iload_n hx hb dX7_gather_18 rfl (lv_at hl 3 rfl) ?_
      obtain ⟨r3, h2, hF⟩ := b1_s hF
      refine cl_vi (As := [.int l2, .int l3]) (rest := []) (w' := (w_trialbook ky aR aw ao aB ax au ay am rlc rla rmo bsz bgp ber bxs bus bys bme)) ⟨hx, hb, hml, hown, hts⟩ hK hP hD hS hA (c_X0_letsLaw l D ky aB ax au ay am _ N  bsz bgp ber bxs bus bys bme l2 l3 r3 h2) (cwV 2 hts gX7_gather_X0_letsLaw rfl rfl rfl (by decide +kernel) ⟨Nat.le_of_ble_eq_true rfl, Nat.le_of_ble_eq_true rfl⟩) [3, 4, 5, 6, 7] [0, 1, 2] [0, 1, 2, 3, 4, 5, 6, 7] 0 0 rfl rfl rfl rfl (wr := [(aR, .inr (6, [.ref aw, .int rlc, .ref ao])), (aw, .inl (ky 0, 289, .inl rla)), (ao, .inl (ky 0, 474, .inl rmo))]) rfl (by decide) rfl rfl hl.1 (Nat.le_of_ble_eq_true rfl) dX7_gather_19 ⟨Nat.zero_le _, Nat.zero_le _⟩ (fun H locs hP hD hS => ?_)
      refine lv_if_eq (tgt := 57) hx hb dX7_gather_22 (by decide) (fun c4 => ?_) (fun c4 => ?_)
      · have hF := if_t c4 hF
        refine lv_iinc (v := (l3 + (1 : Int32))) (lv' := [(3, .int (l3 + (1 : Int32))), (0, .ref aR), (1, .ref aB), (2, .int l2)]) hx hb dX7_gather_57 hl (k := 3) rfl rfl (by decide) rfl (fun ls hl => ?_)
        refine lv_goto (tgt := 7) hx hb dX7_gather_60 (by decide) ?_
        exact ih (l3 + (1 : Int32)) rlc rla hF H _ _ hP hD hS (lv_sub hl [1, 2, 3, 0] rfl)
      · have hF := if_f c4 hF
        refine lv_aload_n hx hb dX7_gather_25 rfl (lv_at hl 0 rfl) ?_
        refine va_get (D := D) (ci := 6) (v := .int rlc) (C := RX7) (T := TX7) (N := 3) hx hb hts iX7_gather_X7 hown hK hP 0 rfl rfl 1 (by decide) (hts _ kX7_gather_1) (fun _ h9 => h9) rfl dX7_gather_26 ?_
        refine lv_aload_n hx hb dX7_gather_29 rfl (lv_at hl 0 rfl) ?_
        refine va_get (D := D) (ci := 6) (v := .ref aw) (C := RX7) (T := TX7) (N := 3) hx hb hts iX7_gather_X7 hown hK hP 0 rfl rfl 0 (by decide) (hts _ kX7_gather_2) (fun _ h9 => h9) rfl dX7_gather_30 ?_
        refine va_alen (v := (289 : Int32)) hx hb hK hP 1 0 rfl rfl rfl dX7_gather_33 ?_
        refine lv_icmp_ge (tgt := 57) hx hb dX7_gather_34 (by decide) (fun c5 => ?_) (fun c5 => ?_)
        · have hF := if_t c5 hF
          refine lv_iinc (v := (l3 + (1 : Int32))) (lv' := [(3, .int (l3 + (1 : Int32))), (0, .ref aR), (1, .ref aB), (2, .int l2)]) hx hb dX7_gather_57 hl (k := 3) rfl rfl (by decide) rfl (fun ls hl => ?_)
          refine lv_goto (tgt := 7) hx hb dX7_gather_60 (by decide) ?_
          exact ih (l3 + (1 : Int32)) rlc rla hF H _ _ hP hD hS (lv_sub hl [1, 2, 3, 0] rfl)
        · have hF := if_f c5 hF
          refine lv_aload_n hx hb dX7_gather_37 rfl (lv_at hl 0 rfl) ?_
          refine va_get (D := D) (ci := 6) (v := .ref aw) (C := RX7) (T := TX7) (N := 3) hx hb hts iX7_gather_X7 hown hK hP 0 rfl rfl 0 (by decide) (hts _ kX7_gather_2) (fun _ h9 => h9) rfl dX7_gather_38 ?_
          refine lv_aload_n hx hb dX7_gather_41 rfl (lv_at hl 0 rfl) ?_
          refine va_get (D := D) (ci := 6) (v := .int rlc) (C := RX7) (T := TX7) (N := 3) hx hb hts iX7_gather_X7 hown hK hP 0 rfl rfl 1 (by decide) (hts _ kX7_gather_1) (fun _ h9 => h9) rfl dX7_gather_42 ?_
          refine lv_iload_n hx hb dX7_gather_45 rfl (lv_at hl 3 rfl) ?_
          obtain ⟨h6, hF⟩ := gi_s hF
          refine va_iast hx hb hK hP hD hS 1 0 rfl rfl h6 dX7_gather_46 (fun H locs hP hD hS => ?_)
          have hP : va_P D vwCl (w_trialbook ky aR aw ao aB ax au ay am rlc (upd rla rlc.toNatClampNeg l3) rmo bsz bgp ber bxs bus bys bme) H := hP
          have hD : va_D A (w_trialbook ky aR aw ao aB ax au ay am rlc (upd rla rlc.toNatClampNeg l3) rmo bsz bgp ber bxs bus bys bme) := hD
          refine lv_aload_n hx hb dX7_gather_47 rfl (lv_at hl 0 rfl) ?_
          refine lv_dup hx hb dX7_gather_48 rfl ?_
          refine va_get (D := D) (ci := 6) (v := .int rlc) (C := RX7) (T := TX7) (N := 3) hx hb hts iX7_gather_X7 hown hK hP 0 rfl rfl 1 (by decide) (hts _ kX7_gather_1) (fun _ h9 => h9) rfl dX7_gather_49 ?_
          refine lv_iconst (v := (1 : Int32)) hx hb dX7_gather_52 (by decide) ?_
          refine lv_iadd hx hb dX7_gather_53 ?_
          refine va_put (D := D) (ci := 6) (v := .int (rlc + (1 : Int32))) (ty := .int) (C := RX7) (T := TX7) (N := 3) hx hb hts iX7_gather_X7 tyX7 tyX7_ok nmX7 hown hK hP hD hS 0 rfl rfl 1 (by decide) (hts _ kX7_gather_1) (fun _ h9 => h9) rfl (by decide +kernel) rfl rfl (Nat.le_of_ble_eq_true rfl) dX7_gather_54 (fun H locs hP hD hS => ?_)
          have hP : va_P D vwCl (w_trialbook ky aR aw ao aB ax au ay am (rlc + (1 : Int32)) (upd rla rlc.toNatClampNeg l3) rmo bsz bgp ber bxs bus bys bme) H := hP
          have hD : va_D A (w_trialbook ky aR aw ao aB ax au ay am (rlc + (1 : Int32)) (upd rla rlc.toNatClampNeg l3) rmo bsz bgp ber bxs bus bys bme) := hD
          refine lv_iinc (v := (l3 + (1 : Int32))) (lv' := [(3, .int (l3 + (1 : Int32))), (0, .ref aR), (1, .ref aB), (2, .int l2)]) hx hb dX7_gather_57 hl (k := 3) rfl rfl (by decide) rfl (fun ls hl => ?_)
          refine lv_goto (tgt := 7) hx hb dX7_gather_60 (by decide) ?_
          exact ih (l3 + (1 : Int32)) (rlc + (1 : Int32)) (upd rla rlc.toNatClampNeg l3) hF H _ _ hP hD hS (lv_sub hl [1, 2, 3, 0] rfl)
set_option maxHeartbeats 4000000 in
set_option maxRecDepth 100000 in
theorem cr_X7_gather (l : Launch) (D : va_G) (ky : Nat → ClassId) (aR aw ao aB ax au ay am : Nat) (sz N : Nat)  (rlc : Int32) (rla : Nat → Int32) (rmo : Nat → Int32) (bsz : Int32) (bgp : Int32) (ber : Int32) (bxs : Nat → Int32) (bus : Nat → Int32) (bys : Nat → Int32) (bme : Nat → Int32) (p1 : Int32) (res : Int32 × (Nat → Int32)) (hF : f_X7_gather N p1 rla bme = some res) : MV l yX7_gather wsX7_gather rm_X7_gather D ky sz [.ref aR, .ref aB, .int p1] (w_trialbook ky aR aw ao aB ax au ay am rlc rla rmo bsz bgp ber bxs bus bys bme) (w_trialbook ky aR aw ao aB ax au ay am res.1 res.2 rmo bsz bgp ber bxs bus bys bme) := by
  unfold MV
  refine Met.ofW (cc := cX7_gather) (maxL := 4) (ret := none) (by decide) rfl ?_
  intro p e s m args below meth c s₁ B hml hv
  obtain ⟨rfl, hsz, hP, hK, hD0⟩ := hv
  have hx := B.exec
  have hb := B.bytes
  have hr := B.returns
  have hts := atoms_spec (ws := wsX7_gather) B.pre
  have hown : s.vm.findClass RX7 = some m.cls := findClass_of_methodNamed B.named
  have hlocks := B.notSynchronized
  subst hsz
  have hD := hD0.self (sz := s.heap.size)
  generalize hAe : va_A (w_trialbook ky aR aw ao aB ax au ay am rlc rla rmo bsz bgp ber bxs bus bys bme) s.heap.size = A at hD ⊢
  have hA : ∀ q : Nat, s.heap.size ≤ q → A q := fun q h => by rw [← hAe]; exact Or.inr h
  have hS : va_S A s.heap s.heap [] := va_S.rf
  have hP : va_P D vwCl (w_trialbook ky aR aw ao aB ax au ay am rlc rla rmo bsz bgp ber bxs bus bys bme) s.heap := hP
  have hl := lv_entry ([.ref aR, .ref aB, .int p1]) (n := 4) (Nat.le_of_ble_eq_true rfl)
  rw [lg_entry_eq]
  generalize (lg_sl ([.ref aR, .ref aB, .int p1]) ++ List.replicate (4 - (lg_sl ([.ref aR, .ref aB, .int p1])).length) Slot.unset).toArray = ls at hl ⊢
  have hl : lv_has ls 4 [(0, .ref aR), (1, .ref aB), (2, .int p1)] := hl
  have C : cx p s m c ([.ref aR, .ref aB, .int p1]).toArray D ky A cX7_gather 4 wsX7_gather RX7 := ⟨hx, hb, hml, hown, hts, hK, hA⟩
  have hQ : ∀ (pc : Nat) (H : Heap) (locs : List Loc) (ls : Array Slot), decode cX7_gather pc = .ok (.return_, 1) → va_P D vwCl (w_trialbook ky aR aw ao aB ax au ay am res.1 res.2 rmo bsz bgp ber bxs bus bys bme) H → va_D A (w_trialbook ky aR aw ao aB ax au ay am res.1 res.2 rmo bsz bgp ber bxs bus bys bme) → va_S A s.heap H locs → W p l e rm_X7_gather s m ([.ref aR, .ref aB, .int p1]).toArray below meth c H locs 0 0 (MQ below (va_Qv (S := Unit) (fun _ => True) (fun _ t => va_P D vwCl (w_trialbook ky aR aw ao aB ax au ay am res.1 res.2 rmo bsz bgp ber bxs bus bys bme) t.heap ∧ va_K D vwCl (tyW ky) t ∧ va_D A (w_trialbook ky aR aw ao aB ax au ay am res.1 res.2 rmo bsz bgp ber bxs bus bys bme)) A) ([.ref aR, .ref aB, .int p1]).toArray s 0 0 A) (F0 m pc ls []) := fun pc H locs ls hd hP hD hS => W.vret hx hb hr (fun t ht hW => ⟨⟨(), rfl, trivial, by rw [ht]; exact hP, va_K.moved hW.alike hK, hD⟩, hS.F ht⟩) hS.2.2 hd
  unfold f_X7_gather at hF
  refine lv_aload_n hx hb dX7_gather_0 rfl (lv_at hl 0 rfl) ?_
  refine lv_iconst (v := (0 : Int32)) hx hb dX7_gather_1 (by decide) ?_
  refine va_put (D := D) (ci := 6) (v := .int (0 : Int32)) (ty := .int) (C := RX7) (T := TX7) (N := 3) hx hb hts iX7_gather_X7 tyX7 tyX7_ok nmX7 hown hK hP hD hS 0 rfl rfl 1 (by decide) (hts _ kX7_gather_1) (fun _ h9 => h9) rfl (by decide +kernel) rfl rfl (Nat.le_of_ble_eq_true rfl) dX7_gather_2 (fun H locs hP hD hS => ?_)
  have hP : va_P D vwCl (w_trialbook ky aR aw ao aB ax au ay am (0 : Int32) rla rmo bsz bgp ber bxs bus bys bme) H := hP
  have hD : va_D A (w_trialbook ky aR aw ao aB ax au ay am (0 : Int32) rla rmo bsz bgp ber bxs bus bys bme) := hD
  refine lv_iconst (v := (0 : Int32)) hx hb dX7_gather_5 (by decide) ?_
  refine lv_istore_n (lv' := [(3, .int (0 : Int32)), (0, .ref aR), (1, .ref aB), (2, .int p1)]) hx hb dX7_gather_6 rfl hl (by decide) rfl (fun ls hl => ?_)
  exact w_X7_gather_7 N C res hQ p1 N (0 : Int32) (0 : Int32) rla hF _ _ _ hP hD hS (lv_sub hl [1, 2, 3, 0] rfl)
theorem c_X7_gather (l : Launch) (D : va_G) (ky : Nat → ClassId) (aR aw ao aB ax au ay am : Nat) (sz N : Nat)  (rlc : Int32) (rla : Nat → Int32) (rmo : Nat → Int32) (bsz : Int32) (bgp : Int32) (ber : Int32) (bxs : Nat → Int32) (bus : Nat → Int32) (bys : Nat → Int32) (bme : Nat → Int32) (p1 : Int32) (rlc' : Int32) (rla' : Nat → Int32) (hF : f_X7_gather N p1 rla bme = some (rlc', rla')) : MV l yX7_gather wsX7_gather rm_X7_gather D ky sz [.ref aR, .ref aB, .int p1] (w_trialbook ky aR aw ao aB ax au ay am rlc rla rmo bsz bgp ber bxs bus bys bme) (w_trialbook ky aR aw ao aB ax au ay am rlc' rla' rmo bsz bgp ber bxs bus bys bme) :=
  cr_X7_gather l D ky aR aw ao aB ax au ay am sz N rlc rla rmo bsz bgp ber bxs bus bys bme p1 (rlc', rla') hF
abbrev rm_X7_leftAtWorst : Room := { frames := 2, cells := 0, slots := 0, locals := 43 }
theorem iX7_leftAtWorst_X7 : ∀ w ∈ wsX70, w ∈ wsX7_leftAtWorst := by decide +kernel
theorem kX7_leftAtWorst_1 : (Cond.fieldLink RX7 19 "TwoLaws$Trial" "more" "[I") ∈ wsX7_leftAtWorst := by decide +kernel
theorem kX7_leftAtWorst_2 : (Cond.fieldLink RX7 15 "TwoLaws$Trial" "lawCount" "I") ∈ wsX7_leftAtWorst := by decide +kernel
theorem kX7_leftAtWorst_3 : (Cond.fieldLink RX7 9 "TwoLaws$Trial" "laws" "[I") ∈ wsX7_leftAtWorst := by decide +kernel
theorem kX7_leftAtWorst_4 : (Cond.methodLink RX7 51 Lib.Math.max.name) ∈ wsX7_leftAtWorst := by decide +kernel
theorem kX7_leftAtWorst_5 : (Cond.static Lib.Math.max.name) ∈ wsX7_leftAtWorst := by decide +kernel
theorem kX7_leftAtWorst_6 : (Cond.initialized "java/lang/Math") ∈ wsX7_leftAtWorst := by decide +kernel
theorem kX7_leftAtWorst_7 : (Cond.code Lib.Math.max.name Lib.Math.max.code 2 (some .int)) ∈ wsX7_leftAtWorst := by decide +kernel
set_option maxHeartbeats 4000000 in
set_option maxRecDepth 100000 in
theorem w_X7_leftAtWorst_83 {p : Program} {l : Launch} {e : Env} {s : State} {m : MethodId} {args : Array Value} {below : List Frame} {meth : Method} {c : Code} {Q : State → Prop} {A : Nat → Prop} {D : va_G} {ky : Nat → ClassId} {aR aw ao : Nat} {rlc : Int32} {rla : Nat → Int32} (N : Nat) (C : cx p s m c args D ky A cX7_leftAtWorst 7 wsX7_leftAtWorst RX7) (res : Int32 × (Nat → Int32)) (hQ : ∀ (pc : Nat) (H : Heap) (locs : List Loc) (ls : Array Slot), decode cX7_leftAtWorst pc = .ok (.ireturn, 1) → va_P D vwCl (w_trial ky aR aw ao rlc rla res.2) H → va_D A (w_trial ky aR aw ao rlc rla res.2) → va_S A s.heap H locs → W p l e rm_X7_leftAtWorst s m args below meth c H locs 0 0 Q (F0 m pc ls [.int res.1])) (rmo : Nat → Int32) : ∀ (n : Nat) (l4 : Int32) (l5 : Int32) (l6 : Int32), f_X7_leftAtWorst_83 N rmo n l4 l5 l6 = some res → ∀ (H : Heap) (locs : List Loc) (ls : Array Slot), va_P D vwCl (w_trial ky aR aw ao rlc rla rmo) H → va_D A (w_trial ky aR aw ao rlc rla rmo) → va_S A s.heap H locs → lv_has ls 7 [(0, .ref aR), (4, .int l4), (5, .int l5), (6, .int l6)] → W p l e rm_X7_leftAtWorst s m args below meth c H locs 0 0 Q (F0 m 83 ls []) := by
  obtain ⟨hx, hb, hml, hown, hts, hK, hA⟩ := id C
  intro n
  induction n with
  | zero =>
    intro l4 l5 l6 hF
    cases hF
  | succ n ih =>
    intro l4 l5 l6 hF H locs ls hP hD hS hl
    have hF : b_X7_leftAtWorst_83 N rmo (f_X7_leftAtWorst_83 N rmo n) l4 l5 l6 = some res := hF
    unfold b_X7_leftAtWorst_83 at hF
    refine lv_iload hx hb dX7_leftAtWorst_83 (lv_at hl 3 rfl) ?_
    refine lv_aload_n hx hb dX7_leftAtWorst_85 rfl (lv_at hl 0 rfl) ?_
    refine va_get (D := D) (ci := 6) (v := .ref ao) (C := RX7) (T := TX7) (N := 3) hx hb hts iX7_leftAtWorst_X7 hown hK hP 0 rfl rfl 2 (by decide) (hts _ kX7_leftAtWorst_1) (fun _ h9 => h9) rfl dX7_leftAtWorst_86 ?_
    refine va_alen (v := (474 : Int32)) hx hb hK hP 2 0 rfl rfl rfl dX7_leftAtWorst_89 ?_
    refine lv_icmp_ge (tgt := 120) hx hb dX7_leftAtWorst_90 (by decide) (fun c16 => ?_) (fun c16 => ?_)
    · have hF := if_t c16 hF
      refine lv_iload hx hb dX7_leftAtWorst_120 (lv_at hl 2 rfl) ?_
      have hF := Option.some.inj hF
      subst hF
      exact hQ _ H _ _ dX7_leftAtWorst_122 hP hD hS
    · have hF := if_f c16 hF
      refine lv_iload hx hb dX7_leftAtWorst_93 (lv_at hl 1 rfl) ?_
      refine lv_aload_n hx hb dX7_leftAtWorst_95 rfl (lv_at hl 0 rfl) ?_
      refine va_get (D := D) (ci := 6) (v := .ref ao) (C := RX7) (T := TX7) (N := 3) hx hb hts iX7_leftAtWorst_X7 hown hK hP 0 rfl rfl 2 (by decide) (hts _ kX7_leftAtWorst_1) (fun _ h9 => h9) rfl dX7_leftAtWorst_96 ?_
      refine lv_iload hx hb dX7_leftAtWorst_99 (lv_at hl 3 rfl) ?_
      obtain ⟨h17, hF⟩ := gi_s hF
      refine va_iald hx hb hK hP 2 0 rfl rfl h17 dX7_leftAtWorst_101 ?_
      refine lv_iadd hx hb dX7_leftAtWorst_102 ?_
      refine lv_istore (lv' := [(4, .int (l4 + (rmo l6.toNatClampNeg))), (0, .ref aR), (5, .int l5), (6, .int l6)]) hx hb dX7_leftAtWorst_103 hl (by decide) rfl (fun ls hl => ?_)
      refine lv_iload hx hb dX7_leftAtWorst_105 (lv_at hl 2 rfl) ?_
      refine lv_iload hx hb dX7_leftAtWorst_107 (lv_at hl 0 rfl) ?_
      refine va_mmax hx hb (hml.trans hl.1.symm) hown (hts _ kX7_leftAtWorst_4) (hts _ kX7_leftAtWorst_5) (hts _ kX7_leftAtWorst_6) (hts _ kX7_leftAtWorst_7) (Nat.le_of_ble_eq_true rfl) (Nat.le_of_ble_eq_true rfl) (Nat.zero_le _) (Nat.zero_le _) dX7_leftAtWorst_109 ?_
      refine lv_topi (fun v18 e_v18 => ?_)
      have hF := nm_s e_v18 hF
      refine lv_istore (lv' := [(5, .int v18), (4, .int (l4 + (rmo l6.toNatClampNeg))), (0, .ref aR), (6, .int l6)]) hx hb dX7_leftAtWorst_112 hl (by decide) rfl (fun ls hl => ?_)
      refine lv_iinc (v := (l6 + (1 : Int32))) (lv' := [(6, .int (l6 + (1 : Int32))), (5, .int v18), (4, .int (l4 + (rmo l6.toNatClampNeg))), (0, .ref aR)]) hx hb dX7_leftAtWorst_114 hl (k := 3) rfl rfl (by decide) rfl (fun ls hl => ?_)
      refine lv_goto (tgt := 83) hx hb dX7_leftAtWorst_117 (by decide) ?_
      exact ih (l4 + (rmo l6.toNatClampNeg)) v18 (l6 + (1 : Int32)) hF H _ _ hP hD hS (lv_sub hl [3, 2, 1, 0] rfl)
set_option maxHeartbeats 4000000 in
set_option maxRecDepth 100000 in
theorem w_X7_leftAtWorst_11 {p : Program} {l : Launch} {e : Env} {s : State} {m : MethodId} {args : Array Value} {below : List Frame} {meth : Method} {c : Code} {Q : State → Prop} {A : Nat → Prop} {D : va_G} {ky : Nat → ClassId} {aR aw ao : Nat} {rlc : Int32} {rla : Nat → Int32} (N : Nat) (C : cx p s m c args D ky A cX7_leftAtWorst 7 wsX7_leftAtWorst RX7) (res : Int32 × (Nat → Int32)) (hQ : ∀ (pc : Nat) (H : Heap) (locs : List Loc) (ls : Array Slot), decode cX7_leftAtWorst pc = .ok (.ireturn, 1) → va_P D vwCl (w_trial ky aR aw ao rlc rla res.2) H → va_D A (w_trial ky aR aw ao rlc rla res.2) → va_S A s.heap H locs → W p l e rm_X7_leftAtWorst s m args below meth c H locs 0 0 Q (F0 m pc ls [.int res.1])) (l1 : Int32) (l2 : Int32) (l3 : Int32) : ∀ (n : Nat) (l4 : Int32) (rmo : Nat → Int32), f_X7_leftAtWorst_11 N l1 l2 l3 rlc rla n l4 rmo = some res → ∀ (H : Heap) (locs : List Loc) (ls : Array Slot), va_P D vwCl (w_trial ky aR aw ao rlc rla rmo) H → va_D A (w_trial ky aR aw ao rlc rla rmo) → va_S A s.heap H locs → lv_has ls 7 [(0, .ref aR), (1, .int l1), (2, .int l2), (3, .int l3), (4, .int l4)] → W p l e rm_X7_leftAtWorst s m args below meth c H locs 0 0 Q (F0 m 11 ls []) := by
  obtain ⟨hx, hb, hml, hown, hts, hK, hA⟩ := id C
  intro n
  induction n with
  | zero =>
    intro l4 rmo hF
    cases hF
  | succ n ih =>
    intro l4 rmo hF H locs ls hP hD hS hl
    have hF : b_X7_leftAtWorst_11 N l1 l2 l3 rlc rla (f_X7_leftAtWorst_11 N l1 l2 l3 rlc rla n) l4 rmo = some res := hF
    unfold b_X7_leftAtWorst_11 at hF
    refine lv_iload hx hb dX7_leftAtWorst_11 (lv_at hl 4 rfl) ?_
    refine lv_aload_n hx hb dX7_leftAtWorst_13 rfl (lv_at hl 0 rfl) ?_
    refine va_get (D := D) (ci := 6) (v := .int rlc) (C := RX7) (T := TX7) (N := 3) hx hb hts iX7_leftAtWorst_X7 hown hK hP 0 rfl rfl 1 (by decide) (hts _ kX7_leftAtWorst_2) (fun _ h9 => h9) rfl dX7_leftAtWorst_14 ?_
    refine lv_icmp_ge (tgt := 74) hx hb dX7_leftAtWorst_17 (by decide) (fun c3 => ?_) (fun c3 => ?_)
    · have hF := if_t c3 hF
      refine lv_iconst (v := (0 : Int32)) hx hb dX7_leftAtWorst_74 (by decide) ?_
      refine lv_istore (lv' := [(4, .int (0 : Int32)), (0, .ref aR), (1, .int l1), (2, .int l2), (3, .int l3)]) hx hb dX7_leftAtWorst_75 hl (by decide) rfl (fun ls hl => ?_)
      refine lv_iconst (v := (0 : Int32)) hx hb dX7_leftAtWorst_77 (by decide) ?_
      refine lv_istore (lv' := [(5, .int (0 : Int32)), (4, .int (0 : Int32)), (0, .ref aR), (1, .int l1), (2, .int l2), (3, .int l3)]) hx hb dX7_leftAtWorst_78 hl (by decide) rfl (fun ls hl => ?_)
      refine lv_iconst (v := (0 : Int32)) hx hb dX7_leftAtWorst_80 (by decide) ?_
      refine lv_istore (lv' := [(6, .int (0 : Int32)), (5, .int (0 : Int32)), (4, .int (0 : Int32)), (0, .ref aR), (1, .int l1), (2, .int l2), (3, .int l3)]) hx hb dX7_leftAtWorst_81 hl (by decide) rfl (fun ls hl => ?_)
      exact w_X7_leftAtWorst_83 N C res hQ rmo N (0 : Int32) (0 : Int32) (0 : Int32) hF H _ _ hP hD hS (lv_sub hl [3, 2, 1, 0] rfl)
    · have hF := if_f c3 hF
      refine lv_iload hx hb dX7_leftAtWorst_20 (lv_at hl 4 rfl) ?_
      refine lv_aload_n hx hb dX7_leftAtWorst_22 rfl (lv_at hl 0 rfl) ?_
      refine va_get (D := D) (ci := 6) (v := .ref aw) (C := RX7) (T := TX7) (N := 3) hx hb hts iX7_leftAtWorst_X7 hown hK hP 0 rfl rfl 0 (by decide) (hts _ kX7_leftAtWorst_3) (fun _ h9 => h9) rfl dX7_leftAtWorst_23 ?_
      refine va_alen (v := (289 : Int32)) hx hb hK hP 1 0 rfl rfl rfl dX7_leftAtWorst_26 ?_
      refine lv_icmp_ge (tgt := 74) hx hb dX7_leftAtWorst_27 (by decide) (fun c4 => ?_) (fun c4 => ?_)
      · have hF := if_t c4 hF
        refine lv_iconst (v := (0 : Int32)) hx hb dX7_leftAtWorst_74 (by decide) ?_
        refine lv_istore (lv' := [(4, .int (0 : Int32)), (0, .ref aR), (1, .int l1), (2, .int l2), (3, .int l3)]) hx hb dX7_leftAtWorst_75 hl (by decide) rfl (fun ls hl => ?_)
        refine lv_iconst (v := (0 : Int32)) hx hb dX7_leftAtWorst_77 (by decide) ?_
        refine lv_istore (lv' := [(5, .int (0 : Int32)), (4, .int (0 : Int32)), (0, .ref aR), (1, .int l1), (2, .int l2), (3, .int l3)]) hx hb dX7_leftAtWorst_78 hl (by decide) rfl (fun ls hl => ?_)
        refine lv_iconst (v := (0 : Int32)) hx hb dX7_leftAtWorst_80 (by decide) ?_
        refine lv_istore (lv' := [(6, .int (0 : Int32)), (5, .int (0 : Int32)), (4, .int (0 : Int32)), (0, .ref aR), (1, .int l1), (2, .int l2), (3, .int l3)]) hx hb dX7_leftAtWorst_81 hl (by decide) rfl (fun ls hl => ?_)
        exact w_X7_leftAtWorst_83 N C res hQ rmo N (0 : Int32) (0 : Int32) (0 : Int32) hF H _ _ hP hD hS (lv_sub hl [3, 2, 1, 0] rfl)
      · have hF := if_f c4 hF
        refine lv_aload_n hx hb dX7_leftAtWorst_30 rfl (lv_at hl 0 rfl) ?_
        refine va_get (D := D) (ci := 6) (v := .ref aw) (C := RX7) (T := TX7) (N := 3) hx hb hts iX7_leftAtWorst_X7 hown hK hP 0 rfl rfl 0 (by decide) (hts _ kX7_leftAtWorst_3) (fun _ h9 => h9) rfl dX7_leftAtWorst_31 ?_
        refine lv_iload hx hb dX7_leftAtWorst_34 (lv_at hl 4 rfl) ?_
        obtain ⟨h5, hF⟩ := gi_s hF
        refine va_iald hx hb hK hP 1 0 rfl rfl h5 dX7_leftAtWorst_36 ?_
        refine lv_iload_n hx hb dX7_leftAtWorst_37 rfl (lv_at hl 1 rfl) ?_
        refine lv_iload_n hx hb dX7_leftAtWorst_38 rfl (lv_at hl 2 rfl) ?_
        obtain ⟨r7, h6, hF⟩ := b1_s hF
        refine cl_si (As := [.int (rla l4.toNatClampNeg), .int l1, .int l2]) (rest := []) ⟨hx, hb, hml, hown, hts⟩ hK hP hD hS hA (c_X3_sum l D ky  _ N   (rla l4.toNatClampNeg) l1 l2 r7 h6) (va_cwS 3 hts gX7_leftAtWorst_X3_sum rfl rfl rfl (by decide +kernel) ⟨Nat.le_of_ble_eq_true rfl, Nat.le_of_ble_eq_true rfl⟩) rfl hl.1 (Nat.le_of_ble_eq_true rfl) dX7_leftAtWorst_39 ⟨Nat.zero_le _, Nat.zero_le _⟩ (fun H locs hP hD hS => ?_)
        refine lv_istore (lv' := [(5, .int r7), (0, .ref aR), (1, .int l1), (2, .int l2), (3, .int l3), (4, .int l4)]) hx hb dX7_leftAtWorst_42 hl (by decide) rfl (fun ls hl => ?_)
        refine lv_aload_n hx hb dX7_leftAtWorst_44 rfl (lv_at hl 1 rfl) ?_
        refine lv_iload hx hb dX7_leftAtWorst_45 (lv_at hl 0 rfl) ?_
        refine lv_iload_n hx hb dX7_leftAtWorst_47 rfl (lv_at hl 4 rfl) ?_
        obtain ⟨r9, h8, hF⟩ := b1_s hF
        refine cl_si (As := [.int r7, .int l3]) (rest := [.ref aR]) ⟨hx, hb, hml, hown, hts⟩ hK hP hD hS hA (c_X3_leastEnd l D ky  _ N   r7 l3 r9 h8) (va_cwS 2 hts gX7_leftAtWorst_X3_leastEnd rfl rfl rfl (by decide +kernel) ⟨Nat.le_of_ble_eq_true rfl, Nat.le_of_ble_eq_true rfl⟩) rfl hl.1 (Nat.le_of_ble_eq_true rfl) dX7_leftAtWorst_48 ⟨Nat.zero_le _, Nat.zero_le _⟩ (fun H locs hP hD hS => ?_)
        refine lv_iconst (v := (1 : Int32)) hx hb dX7_leftAtWorst_51 (by decide) ?_
        obtain ⟨v11, h10, hF⟩ := b1_s hF
        refine cl_vv (As := [.int r9, .int (1 : Int32)]) (rest := []) (w' := (w_trial ky aR aw ao rlc rla v11)) ⟨hx, hb, hml, hown, hts⟩ hK hP hD hS hA (c_X7_add l D ky aR aw ao _ N  rlc rla rmo r9 (1 : Int32) v11 h10) (cwV 2 hts gX7_leftAtWorst_X7_add rfl rfl rfl (by decide +kernel) ⟨Nat.le_of_ble_eq_true rfl, Nat.le_of_ble_eq_true rfl⟩) [0, 1, 2] [] [0, 1, 2] 0 6 rfl rfl rfl rfl (wr := []) rfl (by decide) rfl rfl hl.1 (Nat.le_of_ble_eq_true rfl) dX7_leftAtWorst_52 ⟨Nat.zero_le _, Nat.zero_le _⟩ (fun H locs hP hD hS => ?_)
        refine lv_aload_n hx hb dX7_leftAtWorst_55 rfl (lv_at hl 1 rfl) ?_
        refine lv_iload hx hb dX7_leftAtWorst_56 (lv_at hl 0 rfl) ?_
        refine lv_iload_n hx hb dX7_leftAtWorst_58 rfl (lv_at hl 4 rfl) ?_
        obtain ⟨r13, h12, hF⟩ := b1_s hF
        refine cl_si (As := [.int r7, .int l3]) (rest := [.ref aR]) ⟨hx, hb, hml, hown, hts⟩ hK hP hD hS hA (c_X3_greatestEnd l D ky  _ N   r7 l3 r13 h12) (va_cwS 2 hts gX7_leftAtWorst_X3_greatestEnd rfl rfl rfl (by decide +kernel) ⟨Nat.le_of_ble_eq_true rfl, Nat.le_of_ble_eq_true rfl⟩) rfl hl.1 (Nat.le_of_ble_eq_true rfl) dX7_leftAtWorst_59 ⟨Nat.zero_le _, Nat.zero_le _⟩ (fun H locs hP hD hS => ?_)
        refine lv_iconst (v := (1 : Int32)) hx hb dX7_leftAtWorst_62 (by decide) ?_
        refine lv_iadd hx hb dX7_leftAtWorst_63 ?_
        refine lv_iconst (v := (-1 : Int32)) hx hb dX7_leftAtWorst_64 (by decide) ?_
        obtain ⟨v15, h14, hF⟩ := b1_s hF
        refine cl_vv (As := [.int (r13 + (1 : Int32)), .int (-1 : Int32)]) (rest := []) (w' := (w_trial ky aR aw ao rlc rla v15)) ⟨hx, hb, hml, hown, hts⟩ hK hP hD hS hA (c_X7_add l D ky aR aw ao _ N  rlc rla v11 (r13 + (1 : Int32)) (-1 : Int32) v15 h14) (cwV 2 hts gX7_leftAtWorst_X7_add rfl rfl rfl (by decide +kernel) ⟨Nat.le_of_ble_eq_true rfl, Nat.le_of_ble_eq_true rfl⟩) [0, 1, 2] [] [0, 1, 2] 0 6 rfl rfl rfl rfl (wr := []) rfl (by decide) rfl rfl hl.1 (Nat.le_of_ble_eq_true rfl) dX7_leftAtWorst_65 ⟨Nat.zero_le _, Nat.zero_le _⟩ (fun H locs hP hD hS => ?_)
        refine lv_iinc (v := (l4 + (1 : Int32))) (lv' := [(4, .int (l4 + (1 : Int32))), (5, .int r7), (0, .ref aR), (1, .int l1), (2, .int l2), (3, .int l3)]) hx hb dX7_leftAtWorst_68 hl (k := 5) rfl rfl (by decide) rfl (fun ls hl => ?_)
        refine lv_goto (tgt := 11) hx hb dX7_leftAtWorst_71 (by decide) ?_
        exact ih (l4 + (1 : Int32)) v15 hF H _ _ hP hD hS (lv_sub hl [2, 3, 4, 5, 0] rfl)
set_option maxHeartbeats 4000000 in
set_option maxRecDepth 100000 in
theorem cr_X7_leftAtWorst (l : Launch) (D : va_G) (ky : Nat → ClassId) (aR aw ao : Nat) (sz N : Nat)  (rlc : Int32) (rla : Nat → Int32) (rmo : Nat → Int32) (p0 : Int32) (p1 : Int32) (p2 : Int32) (res : Int32 × (Nat → Int32)) (hF : f_X7_leftAtWorst N p0 p1 p2 rlc rla rmo = some res) : MI l yX7_leftAtWorst wsX7_leftAtWorst rm_X7_leftAtWorst D ky sz [.ref aR, .int p0, .int p1, .int p2] (w_trial ky aR aw ao rlc rla rmo) (w_trial ky aR aw ao rlc rla res.2) res.1 := by
  unfold MI
  refine Met.ofW (cc := cX7_leftAtWorst) (maxL := 7) (ret := (some .int)) (by decide) rfl ?_
  intro p e s m args below meth c s₁ B hml hv
  obtain ⟨rfl, hsz, hP, hK, hD0⟩ := hv
  have hx := B.exec
  have hb := B.bytes
  have hr := B.returns
  have hts := atoms_spec (ws := wsX7_leftAtWorst) B.pre
  have hown : s.vm.findClass RX7 = some m.cls := findClass_of_methodNamed B.named
  have hlocks := B.notSynchronized
  subst hsz
  have hD := hD0.self (sz := s.heap.size)
  generalize hAe : va_A (w_trial ky aR aw ao rlc rla rmo) s.heap.size = A at hD ⊢
  have hA : ∀ q : Nat, s.heap.size ≤ q → A q := fun q h => by rw [← hAe]; exact Or.inr h
  have hS : va_S A s.heap s.heap [] := va_S.rf
  have hP : va_P D vwCl (w_trial ky aR aw ao rlc rla rmo) s.heap := hP
  have hl := lv_entry ([.ref aR, .int p0, .int p1, .int p2]) (n := 7) (Nat.le_of_ble_eq_true rfl)
  rw [lg_entry_eq]
  generalize (lg_sl ([.ref aR, .int p0, .int p1, .int p2]) ++ List.replicate (7 - (lg_sl ([.ref aR, .int p0, .int p1, .int p2])).length) Slot.unset).toArray = ls at hl ⊢
  have hl : lv_has ls 7 [(0, .ref aR), (1, .int p0), (2, .int p1), (3, .int p2)] := hl
  have C : cx p s m c ([.ref aR, .int p0, .int p1, .int p2]).toArray D ky A cX7_leftAtWorst 7 wsX7_leftAtWorst RX7 := ⟨hx, hb, hml, hown, hts, hK, hA⟩
  have hQ : ∀ (pc : Nat) (H : Heap) (locs : List Loc) (ls : Array Slot), decode cX7_leftAtWorst pc = .ok (.ireturn, 1) → va_P D vwCl (w_trial ky aR aw ao rlc rla res.2) H → va_D A (w_trial ky aR aw ao rlc rla res.2) → va_S A s.heap H locs → W p l e rm_X7_leftAtWorst s m ([.ref aR, .int p0, .int p1, .int p2]).toArray below meth c H locs 0 0 (MQ below (va_Qi (S := Unit) (fun r _ => r = res.1) (fun _ t => va_P D vwCl (w_trial ky aR aw ao rlc rla res.2) t.heap ∧ va_K D vwCl (tyW ky) t ∧ va_D A (w_trial ky aR aw ao rlc rla res.2)) A) ([.ref aR, .int p0, .int p1, .int p2]).toArray s 0 0 A) (F0 m pc ls [.int res.1]) := fun pc H locs ls hd hP hD hS => W.iret hx hb hr (fun t ht hW => ⟨⟨res.1, (), rfl, rfl, by rw [ht]; exact hP, va_K.moved hW.alike hK, hD⟩, hS.F ht⟩) hS.2.2 hd
  unfold f_X7_leftAtWorst at hF
  refine lv_aload_n hx hb dX7_leftAtWorst_0 rfl (lv_at hl 0 rfl) ?_
  refine va_get (D := D) (ci := 6) (v := .ref ao) (C := RX7) (T := TX7) (N := 3) hx hb hts iX7_leftAtWorst_X7 hown hK hP 0 rfl rfl 2 (by decide) (hts _ kX7_leftAtWorst_1) (fun _ h9 => h9) rfl dX7_leftAtWorst_1 ?_
  refine lv_iconst (v := (0 : Int32)) hx hb dX7_leftAtWorst_4 (by decide) ?_
  obtain ⟨v2, h1, hF⟩ := b1_s hF
  refine cl_sv (As := [.ref ao, .int (0 : Int32)]) (rest := []) (w' := (w_trial ky aR aw ao rlc rla v2)) ⟨hx, hb, hml, hown, hts⟩ hK hP hD hS hA (c_J7_fill_53178 l D ky ao _ N 474 rmo (0 : Int32) v2 h1) (va_cwS 2 hts gX7_leftAtWorst_J7_fill_53178 rfl rfl rfl (by decide +kernel) ⟨Nat.le_of_ble_eq_true rfl, Nat.le_of_ble_eq_true rfl⟩) [2] [0, 1] [0, 1, 2] rfl (wr := [(aR, .inr (6, [.ref aw, .int rlc, .ref ao])), (aw, .inl (ky 0, 289, .inl rla))]) rfl (by decide) rfl rfl hl.1 (Nat.le_of_ble_eq_true rfl) dX7_leftAtWorst_5 ⟨Nat.zero_le _, Nat.zero_le _⟩ (fun H locs hP hD hS => ?_)
  refine lv_iconst (v := (0 : Int32)) hx hb dX7_leftAtWorst_8 (by decide) ?_
  refine lv_istore (lv' := [(4, .int (0 : Int32)), (0, .ref aR), (1, .int p0), (2, .int p1), (3, .int p2)]) hx hb dX7_leftAtWorst_9 hl (by decide) rfl (fun ls hl => ?_)
  exact w_X7_leftAtWorst_11 N C res hQ p0 p1 p2 N (0 : Int32) v2 hF _ _ _ hP hD hS (lv_sub hl [1, 2, 3, 4, 0] rfl)
theorem c_X7_leftAtWorst (l : Launch) (D : va_G) (ky : Nat → ClassId) (aR aw ao : Nat) (sz N : Nat)  (rlc : Int32) (rla : Nat → Int32) (rmo : Nat → Int32) (p0 : Int32) (p1 : Int32) (p2 : Int32) (rv : Int32) (rmo' : Nat → Int32) (hF : f_X7_leftAtWorst N p0 p1 p2 rlc rla rmo = some (rv, rmo')) : MI l yX7_leftAtWorst wsX7_leftAtWorst rm_X7_leftAtWorst D ky sz [.ref aR, .int p0, .int p1, .int p2] (w_trial ky aR aw ao rlc rla rmo) (w_trial ky aR aw ao rlc rla rmo') rv :=
  cr_X7_leftAtWorst l D ky aR aw ao sz N rlc rla rmo p0 p1 p2 (rv, rmo') hF
