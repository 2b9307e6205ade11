def f_X2_all (N : Nat) (ksz : Int32) : Option (Int32) :=
  some ((((1 : Int32) <<< (ksz &&& 31)) - (1 : Int32)))
def f_X2_add_34 (N : Nat)  (l1 : Int32) (ksz : Int32) (kmb : Int32) (kla : Nat → Int32) : Option (Int32 × Int32 × Int32 × (Nat → Int32)) :=
  (if ksz < 0 then some ((-3 : Int32), ksz, kmb, kla) else (if ksz < (4 : Int32) then gi ksz 4 (b1 (f_X2_all N (ksz + (1 : Int32))) (fun r9 => some (ksz, (ksz + (1 : Int32)), r9, (upd kla ksz.toNatClampNeg l1)))) else some ((-3 : Int32), ksz, kmb, kla)))
def b_X2_add_2 (N : Nat)  (l1 : Int32) (ksz : Int32) (kmb : Int32) (kla : Nat → Int32) (k2 : Int32 → Option (Int32 × Int32 × Int32 × (Nat → Int32))) (l2 : Int32) : Option (Int32 × Int32 × Int32 × (Nat → Int32)) :=
  (if ksz ≤ l2 then f_X2_add_34 N l1 ksz kmb kla else (if (4 : Int32) ≤ l2 then f_X2_add_34 N l1 ksz kmb kla else gi l2 4 ((if (kla l2.toNatClampNeg) = l1 then some ((-2 : Int32), ksz, kmb, kla) else k2 (l2 + (1 : Int32))))))
def f_X2_add_2 (N : Nat)  (l1 : Int32) (ksz : Int32) (kmb : Int32) (kla : Nat → Int32) : Nat → Int32 → Option (Int32 × Int32 × Int32 × (Nat → Int32))
  | 0, _ => none
  | n + 1, l2 => b_X2_add_2 N l1 ksz kmb kla (f_X2_add_2 N l1 ksz kmb kla n) l2
def f_X2_add (N : Nat) (p0 : Int32) (ksz : Int32) (kmb : Int32) (kla : Nat → Int32) : Option (Int32 × Int32 × Int32 × (Nat → Int32)) :=
  f_X2_add_2 N p0 ksz kmb kla N (0 : Int32)
def f_X2_size (N : Nat) (ksz : Int32) : Option (Int32) :=
  some (ksz)
def f_X2_lawAt (N : Nat) (p0 : Int32) (ksz : Int32) (kla : Nat → Int32) : Option (Int32) :=
  (if p0 < 0 then some ((0 : Int32)) else (if ksz ≤ p0 then some ((0 : Int32)) else (if (4 : Int32) ≤ p0 then some ((0 : Int32)) else gi p0 4 (some ((kla p0.toNatClampNeg))))))
def f_X2_watchedCount (N : Nat) (kwa : Int32) : Option (Int32) :=
  some (kwa)
def f_X2_rangCount (N : Nat) (kra : Int32) : Option (Int32) :=
  some (kra)
def f_X2_see_57 (N : Nat)  (l5 : Int32) (ksz : Int32) (kmb : Int32) (kwa : Int32) (kra : Int32) : Option (Int32 × Int32 × Int32 × Int32) :=
  (if (kmb &&& l5) = 0 then (if l5 = 0 then b1 (f_X2_all N ksz) (fun r12 => some (((16 : Int32) + r12), r12, (kwa + (1 : Int32)), (kra + (1 : Int32)))) else some (((16 : Int32) + l5), l5, (kwa + (1 : Int32)), (kra + (1 : Int32)))) else some ((kmb &&& l5), (kmb &&& l5), (kwa + (1 : Int32)), kra))
def b_X2_see_6 (N : Nat)  (l1 : Int32) (l2 : Int32) (l3 : Int32) (l4 : Int32) (ksz : Int32) (kmb : Int32) (kwa : Int32) (kra : Int32) (kla : Nat → Int32) (k6 : Int32 → Int32 → Option (Int32 × Int32 × Int32 × Int32)) (l5 : Int32) (l6 : Int32) : Option (Int32 × Int32 × Int32 × Int32) :=
  (if ksz ≤ l6 then f_X2_see_57 N l5 ksz kmb kwa kra else (if (4 : Int32) ≤ l6 then f_X2_see_57 N l5 ksz kmb kwa kra else gi l6 4 (b1 (f_X3_sum N (kla l6.toNatClampNeg) l1 l2) (fun r5 => b1 (f_X3_isMet N r5 l3 l4) (fun r7 => (if r7 = 0 then k6 l5 (l6 + (1 : Int32)) else k6 (l5 ||| ((1 : Int32) <<< (l6 &&& 31))) (l6 + (1 : Int32))))))))
def f_X2_see_6 (N : Nat)  (l1 : Int32) (l2 : Int32) (l3 : Int32) (l4 : Int32) (ksz : Int32) (kmb : Int32) (kwa : Int32) (kra : Int32) (kla : Nat → Int32) : Nat → Int32 → Int32 → Option (Int32 × Int32 × Int32 × Int32)
  | 0, _, _ => none
  | n + 1, l5, l6 => b_X2_see_6 N l1 l2 l3 l4 ksz kmb kwa kra kla (f_X2_see_6 N l1 l2 l3 l4 ksz kmb kwa kra kla n) l5 l6
def f_X2_see (N : Nat) (p0 : Int32) (p1 : Int32) (p2 : Int32) (p3 : Int32) (ksz : Int32) (kmb : Int32) (kwa : Int32) (kra : Int32) (kla : Nat → Int32) : Option (Int32 × Int32 × Int32 × Int32) :=
  f_X2_see_6 N p0 p1 p2 p3 ksz kmb kwa kra kla N (0 : Int32) (0 : Int32)
def f_X1_become (N : Nat) (p0 : Int32) (p1 : Int32) : Option (Int32 × Int32) :=
  some (p0, p1)
def f_X1_least (N : Nat) (lo : Int32) : Option (Int32) :=
  some (lo)
def f_X1_greatest (N : Nat) (hi : Int32) : Option (Int32) :=
  some (hi)
def f_X1_within (N : Nat) (p0 : Int32) : Option (Int32) :=
  some ((if (-9999 : Int32) < (if p0 < (9999 : Int32) then p0 else (9999 : Int32)) then (if p0 < (9999 : Int32) then p0 else (9999 : Int32)) else (-9999 : Int32)))
def b_X1_move_30 (N : Nat)  (l2 : Int32) (l3 : Int32) (ksz : Int32) (kla : Nat → Int32) (k30 : Int32 → Int32 → Int32 → Int32 → Int32 → Option (Int32 × Int32)) (l4 : Int32) (l5 : Int32) (l6 : Int32) (lo : Int32) (hi : Int32) : Option (Int32 × Int32) :=
  b1 (f_X2_size N ksz) (fun r9 => (if r9 ≤ l6 then b1 (f_J9_floorDiv_7cf53 N l4 (4 : Int32)) (fun r12 => b1 (f_X1_within N (r12 - l3)) (fun r14 => b1 (f_J9_floorDiv_7cf53 N (-l5) (4 : Int32)) (fun r16 => b1 (f_X1_within N (l3 - r16)) (fun r18 => some (r14, r18))))) else b1 (f_X2_lawAt N l6 ksz kla) (fun r20 => b1 (f_X3_sum N r20 lo l2) (fun r22 => b1 (f_X2_lawAt N l6 ksz kla) (fun r24 => b1 (f_X3_sum N r24 hi l2) (fun r26 => nm (if (if r26 < r22 then r26 else r22) < l4 then (if r26 < r22 then r26 else r22) else l4) (fun v27 => nm (if l5 < (if r22 < r26 then r26 else r22) then (if r22 < r26 then r26 else r22) else l5) (fun v28 => k30 v27 v28 (l6 + (1 : Int32)) lo hi))))))))
def f_X1_move_30 (N : Nat)  (l2 : Int32) (l3 : Int32) (ksz : Int32) (kla : Nat → Int32) : Nat → Int32 → Int32 → Int32 → Int32 → Int32 → Option (Int32 × Int32)
  | 0, _, _, _, _, _ => none
  | n + 1, l4, l5, l6, lo, hi => b_X1_move_30 N l2 l3 ksz kla (f_X1_move_30 N l2 l3 ksz kla n) l4 l5 l6 lo hi
def f_X1_move (N : Nat) (p1 : Int32) (p2 : Int32) (lo : Int32) (hi : Int32) (ksz : Int32) (kla : Nat → Int32) : Option (Int32 × Int32) :=
  b1 (f_X2_size N ksz) (fun r2 => (if r2 = 0 then some (lo, hi) else b1 (f_X2_lawAt N (0 : Int32) ksz kla) (fun r5 => b1 (f_X3_sum N r5 lo p1) (fun r7 => f_X1_move_30 N p1 p2 ksz kla N r7 r7 (0 : Int32) lo hi))))
abbrev rm_X2_all : Room := { frames := 0, cells := 0, slots := 0, locals := 0 }
theorem iX2_all_X2 : ∀ w ∈ wsX20, w ∈ wsX2_all := by decide +kernel
theorem kX2_all_1 : (Cond.fieldLink RX2 15 "TwoLaws$Known" "size" "I") ∈ wsX2_all := by decide +kernel
set_option maxHeartbeats 4000000 in
set_option maxRecDepth 100000 in
theorem cr_X2_all (l : Launch) (D : va_G) (ky : Nat → ClassId) (aK ak : Nat) (sz N : Nat)  (ksz : Int32) (kmb : Int32) (kwa : Int32) (kra : Int32) (kla : Nat → Int32)  (res : Int32) (hF : f_X2_all N ksz = some res) : MI l yX2_all wsX2_all rm_X2_all D ky sz [.ref aK] (w_known ky aK ak ksz kmb kwa kra kla) (w_known ky aK ak ksz kmb kwa kra kla) res := by
  unfold MI
  refine Met.ofW (cc := cX2_all) (maxL := 1) (ret := (some .int)) (by decide) rfl ?_
  intro p e s m args below meth c s₁ B hml hv
  obtain ⟨rfl, hsz, hP, hK, hD0⟩ := hv
  have hx := B.exec
  have hb := B.bytes
  have hr := B.returns
  have hts := atoms_spec (ws := wsX2_all) B.pre
  have hown : s.vm.findClass RX2 = some m.cls := findClass_of_methodNamed B.named
  have hlocks := B.notSynchronized
  subst hsz
  have hD := hD0.self (sz := s.heap.size)
  generalize hAe : va_A (w_known ky aK ak ksz kmb kwa kra kla) s.heap.size = A at hD ⊢
  have hA : ∀ q : Nat, s.heap.size ≤ q → A q := fun q h => by rw [← hAe]; exact Or.inr h
  have hS : va_S A s.heap s.heap [] := va_S.rf
  have hP : va_P D vwCl (w_known ky aK ak ksz kmb kwa kra kla) s.heap := hP
  have hl := lv_entry ([.ref aK]) (n := 1) (Nat.le_of_ble_eq_true rfl)
  rw [lg_entry_eq]
  generalize (lg_sl ([.ref aK]) ++ List.replicate (1 - (lg_sl ([.ref aK])).length) Slot.unset).toArray = ls at hl ⊢
  have hl : lv_has ls 1 [(0, .ref aK)] := hl
  have C : cx p s m c ([.ref aK]).toArray D ky A cX2_all 1 wsX2_all RX2 := ⟨hx, hb, hml, hown, hts, hK, hA⟩
  have hQ : ∀ (pc : Nat) (H : Heap) (locs : List Loc) (ls : Array Slot), decode cX2_all pc = .ok (.ireturn, 1) → va_P D vwCl (w_known ky aK ak ksz kmb kwa kra kla) H → va_D A (w_known ky aK ak ksz kmb kwa kra kla) → va_S A s.heap H locs → W p l e rm_X2_all s m ([.ref aK]).toArray below meth c H locs 0 0 (MQ below (va_Qi (S := Unit) (fun r _ => r = res) (fun _ t => va_P D vwCl (w_known ky aK ak ksz kmb kwa kra kla) t.heap ∧ va_K D vwCl (tyW ky) t ∧ va_D A (w_known ky aK ak ksz kmb kwa kra kla)) A) ([.ref aK]).toArray s 0 0 A) (F0 m pc ls [.int res]) := fun pc H locs ls hd hP hD hS => W.iret hx hb hr (fun t ht hW => ⟨⟨res, (), rfl, rfl, by rw [ht]; exact hP, va_K.moved hW.alike hK, hD⟩, hS.F ht⟩) hS.2.2 hd
  unfold f_X2_all at hF
  refine lv_iconst (v := (1 : Int32)) hx hb dX2_all_0 (by decide) ?_
  refine lv_aload_n hx hb dX2_all_1 rfl (lv_at hl 0 rfl) ?_
  refine va_get (D := D) (ci := 2) (v := .int ksz) (C := RX2) (T := TX2) (N := 5) hx hb hts iX2_all_X2 hown hK hP 0 rfl rfl 1 (by decide) (hts _ kX2_all_1) (fun _ h9 => h9) rfl dX2_all_2 ?_
  refine lv_ishl hx hb dX2_all_5 ?_
  refine lv_iconst (v := (1 : Int32)) hx hb dX2_all_6 (by decide) ?_
  refine lv_isub hx hb dX2_all_7 ?_
  have hF := Option.some.inj hF
  subst hF
  exact hQ _ _ _ _ dX2_all_8 hP hD hS
theorem c_X2_all (l : Launch) (D : va_G) (ky : Nat → ClassId) (aK ak : Nat) (sz N : Nat)  (ksz : Int32) (kmb : Int32) (kwa : Int32) (kra : Int32) (kla : Nat → Int32)  (rv : Int32) (hF : f_X2_all N ksz = some (rv)) : MI l yX2_all wsX2_all rm_X2_all D ky sz [.ref aK] (w_known ky aK ak ksz kmb kwa kra kla) (w_known ky aK ak ksz kmb kwa kra kla) rv :=
  cr_X2_all l D ky aK ak sz N ksz kmb kwa kra kla (rv) hF
abbrev rm_X2_add : Room := { frames := 1, cells := 0, slots := 0, locals := 20 }
theorem iX2_add_X2 : ∀ w ∈ wsX20, w ∈ wsX2_add := by decide +kernel
theorem kX2_add_1 : (Cond.fieldLink RX2 15 "TwoLaws$Known" "size" "I") ∈ wsX2_add := by decide +kernel
theorem kX2_add_2 : (Cond.fieldLink RX2 11 "TwoLaws$Known" "laws" "[I") ∈ wsX2_add := by decide +kernel
theorem kX2_add_3 : (Cond.fieldLink RX2 19 "TwoLaws$Known" "mayBe" "I") ∈ wsX2_add := by decide +kernel
set_option maxHeartbeats 4000000 in
set_option maxRecDepth 100000 in
theorem w_X2_add_34 {p : Program} {l : Launch} {e : Env} {s : State} {m : MethodId} {args : Array Value} {below : List Frame} {meth : Method} {c : Code} {Q : State → Prop} {A : Nat → Prop} {D : va_G} {ky : Nat → ClassId} {aK ak : Nat} {kwa : Int32} {kra : Int32} (N : Nat) (C : cx p s m c args D ky A cX2_add 3 wsX2_add RX2) (res : Int32 × Int32 × Int32 × (Nat → Int32)) (hQ : ∀ (pc : Nat) (H : Heap) (locs : List Loc) (ls : Array Slot), decode cX2_add pc = .ok (.ireturn, 1) → va_P D vwCl (w_known ky aK ak res.2.1 res.2.2.1 kwa kra res.2.2.2) H → va_D A (w_known ky aK ak res.2.1 res.2.2.1 kwa kra res.2.2.2) → va_S A s.heap H locs → W p l e rm_X2_add s m args below meth c H locs 0 0 Q (F0 m pc ls [.int res.1]))  (l1 : Int32) (ksz : Int32) (kmb : Int32) (kla : Nat → Int32) (hF : f_X2_add_34 N l1 ksz kmb kla = some res) : ∀ (H : Heap) (locs : List Loc) (ls : Array Slot), va_P D vwCl (w_known ky aK ak ksz kmb kwa kra kla) H → va_D A (w_known ky aK ak ksz kmb kwa kra kla) → va_S A s.heap H locs → lv_has ls 3 [(0, .ref aK), (1, .int l1)] → W p l e rm_X2_add s m args below meth c H locs 0 0 Q (F0 m 34 ls []) := by
  obtain ⟨hx, hb, hml, hown, hts, hK, hA⟩ := id C
  intro H locs ls hP hD hS hl
  unfold f_X2_add_34 at hF
  refine lv_aload_n hx hb dX2_add_34 rfl (lv_at hl 0 rfl) ?_
  refine va_get (D := D) (ci := 2) (v := .int ksz) (C := RX2) (T := TX2) (N := 5) hx hb hts iX2_add_X2 hown hK hP 0 rfl rfl 1 (by decide) (hts _ kX2_add_1) (fun _ h9 => h9) rfl dX2_add_35 ?_
  refine lv_istore_n (lv' := [(2, .int ksz), (0, .ref aK), (1, .int l1)]) hx hb dX2_add_38 rfl hl (by decide) rfl (fun ls hl => ?_)
  refine lv_iload_n hx hb dX2_add_39 rfl (lv_at hl 0 rfl) ?_
  refine lv_if_lt (tgt := 48) hx hb dX2_add_40 (by decide) (fun c5 => ?_) (fun c5 => ?_)
  · have hF := if_t c5 hF
    refine lv_bipush (v := (-3 : Int32)) hx hb dX2_add_48 (by decide) ?_
    have hF := Option.some.inj hF
    subst hF
    exact hQ _ H _ _ dX2_add_50 hP hD hS
  · have hF := if_f c5 hF
    refine lv_iload_n hx hb dX2_add_43 rfl (lv_at hl 0 rfl) ?_
    refine lv_iconst (v := (4 : Int32)) hx hb dX2_add_44 (by decide) ?_
    refine lv_icmp_lt (tgt := 51) hx hb dX2_add_45 (by decide) (fun c6 => ?_) (fun c6 => ?_)
    · have hF := if_t c6 hF
      refine lv_aload_n hx hb dX2_add_51 rfl (lv_at hl 1 rfl) ?_
      refine va_get (D := D) (ci := 2) (v := .ref ak) (C := RX2) (T := TX2) (N := 5) hx hb hts iX2_add_X2 hown hK hP 0 rfl rfl 0 (by decide) (hts _ kX2_add_2) (fun _ h9 => h9) rfl dX2_add_52 ?_
      refine lv_iload_n hx hb dX2_add_55 rfl (lv_at hl 0 rfl) ?_
      refine lv_iload_n hx hb dX2_add_56 rfl (lv_at hl 2 rfl) ?_
      obtain ⟨h7, hF⟩ := gi_s hF
      refine va_iast hx hb hK hP hD hS 1 0 rfl rfl h7 dX2_add_57 (fun H locs hP hD hS => ?_)
      have hP : va_P D vwCl (w_known ky aK ak ksz kmb kwa kra (upd kla ksz.toNatClampNeg l1)) H := hP
      have hD : va_D A (w_known ky aK ak ksz kmb kwa kra (upd kla ksz.toNatClampNeg l1)) := hD
      refine lv_aload_n hx hb dX2_add_58 rfl (lv_at hl 1 rfl) ?_
      refine lv_dup hx hb dX2_add_59 rfl ?_
      refine va_get (D := D) (ci := 2) (v := .int ksz) (C := RX2) (T := TX2) (N := 5) hx hb hts iX2_add_X2 hown hK hP 0 rfl rfl 1 (by decide) (hts _ kX2_add_1) (fun _ h9 => h9) rfl dX2_add_60 ?_
      refine lv_iconst (v := (1 : Int32)) hx hb dX2_add_63 (by decide) ?_
      refine lv_iadd hx hb dX2_add_64 ?_
      refine va_put (D := D) (ci := 2) (v := .int (ksz + (1 : Int32))) (ty := .int) (C := RX2) (T := TX2) (N := 5) hx hb hts iX2_add_X2 tyX2 tyX2_ok nmX2 hown hK hP hD hS 0 rfl rfl 1 (by decide) (hts _ kX2_add_1) (fun _ h9 => h9) rfl (by decide +kernel) rfl rfl (Nat.le_of_ble_eq_true rfl) dX2_add_65 (fun H locs hP hD hS => ?_)
      have hP : va_P D vwCl (w_known ky aK ak (ksz + (1 : Int32)) kmb kwa kra (upd kla ksz.toNatClampNeg l1)) H := hP
      have hD : va_D A (w_known ky aK ak (ksz + (1 : Int32)) kmb kwa kra (upd kla ksz.toNatClampNeg l1)) := hD
      refine lv_aload_n hx hb dX2_add_68 rfl (lv_at hl 1 rfl) ?_
      refine lv_aload_n hx hb dX2_add_69 rfl (lv_at hl 1 rfl) ?_
      obtain ⟨r9, h8, hF⟩ := b1_s hF
      refine cl_vi (As := []) (rest := [.ref aK]) (w' := (w_known ky aK ak (ksz + (1 : Int32)) kmb kwa kra (upd kla ksz.toNatClampNeg l1))) ⟨hx, hb, hml, hown, hts⟩ hK hP hD hS hA (c_X2_all l D ky aK ak _ N  (ksz + (1 : Int32)) kmb kwa kra (upd kla ksz.toNatClampNeg l1)  r9 h8) (cwV 0 hts gX2_add_X2_all rfl rfl rfl (by decide +kernel) ⟨Nat.le_of_ble_eq_true rfl, Nat.le_of_ble_eq_true rfl⟩) [0, 1] [] [0, 1] 0 2 rfl rfl rfl rfl (wr := []) rfl (by decide) rfl rfl hl.1 (Nat.le_of_ble_eq_true rfl) dX2_add_70 ⟨Nat.zero_le _, Nat.zero_le _⟩ (fun H locs hP hD hS => ?_)
      refine va_put (D := D) (ci := 2) (v := .int r9) (ty := .int) (C := RX2) (T := TX2) (N := 5) hx hb hts iX2_add_X2 tyX2 tyX2_ok nmX2 hown hK hP hD hS 0 rfl rfl 2 (by decide) (hts _ kX2_add_3) (fun _ h9 => h9) rfl (by decide +kernel) rfl rfl (Nat.le_of_ble_eq_true rfl) dX2_add_73 (fun H locs hP hD hS => ?_)
      have hP : va_P D vwCl (w_known ky aK ak (ksz + (1 : Int32)) r9 kwa kra (upd kla ksz.toNatClampNeg l1)) H := hP
      have hD : va_D A (w_known ky aK ak (ksz + (1 : Int32)) r9 kwa kra (upd kla ksz.toNatClampNeg l1)) := hD
      refine lv_iload_n hx hb dX2_add_76 rfl (lv_at hl 0 rfl) ?_
      have hF := Option.some.inj hF
      subst hF
      exact hQ _ H _ _ dX2_add_77 hP hD hS
    · have hF := if_f c6 hF
      refine lv_bipush (v := (-3 : Int32)) hx hb dX2_add_48 (by decide) ?_
      have hF := Option.some.inj hF
      subst hF
      exact hQ _ H _ _ dX2_add_50 hP hD hS
set_option maxHeartbeats 4000000 in
set_option maxRecDepth 100000 in
theorem w_X2_add_2 {p : Program} {l : Launch} {e : Env} {s : State} {m : MethodId} {args : Array Value} {below : List Frame} {meth : Method} {c : Code} {Q : State → Prop} {A : Nat → Prop} {D : va_G} {ky : Nat → ClassId} {aK ak : Nat} {kwa : Int32} {kra : Int32} (N : Nat) (C : cx p s m c args D ky A cX2_add 3 wsX2_add RX2) (res : Int32 × Int32 × Int32 × (Nat → Int32)) (hQ : ∀ (pc : Nat) (H : Heap) (locs : List Loc) (ls : Array Slot), decode cX2_add pc = .ok (.ireturn, 1) → va_P D vwCl (w_known ky aK ak res.2.1 res.2.2.1 kwa kra res.2.2.2) H → va_D A (w_known ky aK ak res.2.1 res.2.2.1 kwa kra res.2.2.2) → va_S A s.heap H locs → W p l e rm_X2_add s m args below meth c H locs 0 0 Q (F0 m pc ls [.int res.1])) (l1 : Int32) (ksz : Int32) (kmb : Int32) (kla : Nat → Int32) : ∀ (n : Nat) (l2 : Int32), f_X2_add_2 N l1 ksz kmb kla n l2 = some res → ∀ (H : Heap) (locs : List Loc) (ls : Array Slot), va_P D vwCl (w_known ky aK ak ksz kmb kwa kra kla) H → va_D A (w_known ky aK ak ksz kmb kwa kra kla) → va_S A s.heap H locs → lv_has ls 3 [(0, .ref aK), (1, .int l1), (2, .int l2)] → W p l e rm_X2_add s m args below meth c H locs 0 0 Q (F0 m 2 ls []) := by
  obtain ⟨hx, hb, hml, hown, hts, hK, hA⟩ := id C
  intro n
  induction n with
  | zero =>
    intro l2 hF
    cases hF
  | succ n ih =>
    intro l2 hF H locs ls hP hD hS hl
    have hF : b_X2_add_2 N l1 ksz kmb kla (f_X2_add_2 N l1 ksz kmb kla n) l2 = some res := hF
    unfold b_X2_add_2 at hF
    refine lv_iload_n hx hb dX2_add_2 rfl (lv_at hl 2 rfl) ?_
    refine lv_aload_n hx hb dX2_add_3 rfl (lv_at hl 0 rfl) ?_
    refine va_get (D := D) (ci := 2) (v := .int ksz) (C := RX2) (T := TX2) (N := 5) hx hb hts iX2_add_X2 hown hK hP 0 rfl rfl 1 (by decide) (hts _ kX2_add_1) (fun _ h9 => h9) rfl dX2_add_4 ?_
    refine lv_icmp_ge (tgt := 34) hx hb dX2_add_7 (by decide) (fun c1 => ?_) (fun c1 => ?_)
    · have hF := if_t c1 hF
      exact w_X2_add_34 N C res hQ l1 ksz kmb kla hF H _ _ hP hD hS (lv_sub hl [0, 1] rfl)
    · have hF := if_f c1 hF
      refine lv_iload_n hx hb dX2_add_10 rfl (lv_at hl 2 rfl) ?_
      refine lv_iconst (v := (4 : Int32)) hx hb dX2_add_11 (by decide) ?_
      refine lv_icmp_ge (tgt := 34) hx hb dX2_add_12 (by decide) (fun c2 => ?_) (fun c2 => ?_)
      · have hF := if_t c2 hF
        exact w_X2_add_34 N C res hQ l1 ksz kmb kla hF H _ _ hP hD hS (lv_sub hl [0, 1] rfl)
      · have hF := if_f c2 hF
        refine lv_aload_n hx hb dX2_add_15 rfl (lv_at hl 0 rfl) ?_
        refine va_get (D := D) (ci := 2) (v := .ref ak) (C := RX2) (T := TX2) (N := 5) hx hb hts iX2_add_X2 hown hK hP 0 rfl rfl 0 (by decide) (hts _ kX2_add_2) (fun _ h9 => h9) rfl dX2_add_16 ?_
        refine lv_iload_n hx hb dX2_add_19 rfl (lv_at hl 2 rfl) ?_
        obtain ⟨h3, hF⟩ := gi_s hF
        refine va_iald hx hb hK hP 1 0 rfl rfl h3 dX2_add_20 ?_
        refine lv_iload_n hx hb dX2_add_21 rfl (lv_at hl 1 rfl) ?_
        refine lv_icmp_ne (tgt := 28) hx hb dX2_add_22 (by decide) (fun c4 => ?_) (fun c4 => ?_)
        · have hF := if_f c4 hF
          refine lv_iinc (v := (l2 + (1 : Int32))) (lv' := [(2, .int (l2 + (1 : Int32))), (0, .ref aK), (1, .int l1)]) hx hb dX2_add_28 hl (k := 2) rfl rfl (by decide) rfl (fun ls hl => ?_)
          refine lv_goto (tgt := 2) hx hb dX2_add_31 (by decide) ?_
          exact ih (l2 + (1 : Int32)) hF H _ _ hP hD hS (lv_sub hl [1, 2, 0] rfl)
        · have hF := if_t c4 hF
          refine lv_bipush (v := (-2 : Int32)) hx hb dX2_add_25 (by decide) ?_
          have hF := Option.some.inj hF
          subst hF
          exact hQ _ H _ _ dX2_add_27 hP hD hS
set_option maxHeartbeats 4000000 in
set_option maxRecDepth 100000 in
theorem cr_X2_add (l : Launch) (D : va_G) (ky : Nat → ClassId) (aK ak : Nat) (sz N : Nat)  (ksz : Int32) (kmb : Int32) (kwa : Int32) (kra : Int32) (kla : Nat → Int32) (p0 : Int32) (res : Int32 × Int32 × Int32 × (Nat → Int32)) (hF : f_X2_add N p0 ksz kmb kla = some res) : MI l yX2_add wsX2_add rm_X2_add D ky sz [.ref aK, .int p0] (w_known ky aK ak ksz kmb kwa kra kla) (w_known ky aK ak res.2.1 res.2.2.1 kwa kra res.2.2.2) res.1 := by
  unfold MI
  refine Met.ofW (cc := cX2_add) (maxL := 3) (ret := (some .int)) (by decide) rfl ?_
  intro p e s m args below meth c s₁ B hml hv
  obtain ⟨rfl, hsz, hP, hK, hD0⟩ := hv
  have hx := B.exec
  have hb := B.bytes
  have hr := B.returns
  have hts := atoms_spec (ws := wsX2_add) B.pre
  have hown : s.vm.findClass RX2 = some m.cls := findClass_of_methodNamed B.named
  have hlocks := B.notSynchronized
  subst hsz
  have hD := hD0.self (sz := s.heap.size)
  generalize hAe : va_A (w_known ky aK ak ksz kmb kwa kra kla) s.heap.size = A at hD ⊢
  have hA : ∀ q : Nat, s.heap.size ≤ q → A q := fun q h => by rw [← hAe]; exact Or.inr h
  have hS : va_S A s.heap s.heap [] := va_S.rf
  have hP : va_P D vwCl (w_known ky aK ak ksz kmb kwa kra kla) s.heap := hP
  have hl := lv_entry ([.ref aK, .int p0]) (n := 3) (Nat.le_of_ble_eq_true rfl)
  rw [lg_entry_eq]
  generalize (lg_sl ([.ref aK, .int p0]) ++ List.replicate (3 - (lg_sl ([.ref aK, .int p0])).length) Slot.unset).toArray = ls at hl ⊢
  have hl : lv_has ls 3 [(0, .ref aK), (1, .int p0)] := hl
  have C : cx p s m c ([.ref aK, .int p0]).toArray D ky A cX2_add 3 wsX2_add RX2 := ⟨hx, hb, hml, hown, hts, hK, hA⟩
  have hQ : ∀ (pc : Nat) (H : Heap) (locs : List Loc) (ls : Array Slot), decode cX2_add pc = .ok (.ireturn, 1) → va_P D vwCl (w_known ky aK ak res.2.1 res.2.2.1 kwa kra res.2.2.2) H → va_D A (w_known ky aK ak res.2.1 res.2.2.1 kwa kra res.2.2.2) → va_S A s.heap H locs → W p l e rm_X2_add s m ([.ref aK, .int p0]).toArray below meth c H locs 0 0 (MQ below (va_Qi (S := Unit) (fun r _ => r = res.1) (fun _ t => va_P D vwCl (w_known ky aK ak res.2.1 res.2.2.1 kwa kra res.2.2.2) t.heap ∧ va_K D vwCl (tyW ky) t ∧ va_D A (w_known ky aK ak res.2.1 res.2.2.1 kwa kra res.2.2.2)) A) ([.ref aK, .int p0]).toArray s 0 0 A) (F0 m pc ls [.int res.1]) := fun pc H locs ls hd hP hD hS => W.iret hx hb hr (fun t ht hW => ⟨⟨res.1, (), rfl, rfl, by rw [ht]; exact hP, va_K.moved hW.alike hK, hD⟩, hS.F ht⟩) hS.2.2 hd
  unfold f_X2_add at hF
  refine lv_iconst (v := (0 : Int32)) hx hb dX2_add_0 (by decide) ?_
  refine lv_istore_n (lv' := [(2, .int (0 : Int32)), (0, .ref aK), (1, .int p0)]) hx hb dX2_add_1 rfl hl (by decide) rfl (fun ls hl => ?_)
  exact w_X2_add_2 N C res hQ p0 ksz kmb kla N (0 : Int32) hF _ _ _ hP hD hS (lv_sub hl [1, 2, 0] rfl)
theorem c_X2_add (l : Launch) (D : va_G) (ky : Nat → ClassId) (aK ak : Nat) (sz N : Nat)  (ksz : Int32) (kmb : Int32) (kwa : Int32) (kra : Int32) (kla : Nat → Int32) (p0 : Int32) (rv : Int32) (ksz' : Int32) (kmb' : Int32) (kla' : Nat → Int32) (hF : f_X2_add N p0 ksz kmb kla = some (rv, ksz', kmb', kla')) : MI l yX2_add wsX2_add rm_X2_add D ky sz [.ref aK, .int p0] (w_known ky aK ak ksz kmb kwa kra kla) (w_known ky aK ak ksz' kmb' kwa kra kla') rv :=
  cr_X2_add l D ky aK ak sz N ksz kmb kwa kra kla p0 (rv, ksz', kmb', kla') hF
abbrev rm_X2_size : Room := { frames := 0, cells := 0, slots := 0, locals := 0 }
theorem iX2_size_X2 : ∀ w ∈ wsX20, w ∈ wsX2_size := by decide +kernel
theorem kX2_size_1 : (Cond.fieldLink RX2 15 "TwoLaws$Known" "size" "I") ∈ wsX2_size := by decide +kernel
set_option maxHeartbeats 4000000 in
set_option maxRecDepth 100000 in
theorem cr_X2_size (l : Launch) (D : va_G) (ky : Nat → ClassId) (aK ak : Nat) (sz N : Nat)  (ksz : Int32) (kmb : Int32) (kwa : Int32) (kra : Int32) (kla : Nat → Int32)  (res : Int32) (hF : f_X2_size N ksz = some res) : MI l yX2_size wsX2_size rm_X2_size D ky sz [.ref aK] (w_known ky aK ak ksz kmb kwa kra kla) (w_known ky aK ak ksz kmb kwa kra kla) res := by
  unfold MI
  refine Met.ofW (cc := cX2_size) (maxL := 1) (ret := (some .int)) (by decide) rfl ?_
  intro p e s m args below meth c s₁ B hml hv
  obtain ⟨rfl, hsz, hP, hK, hD0⟩ := hv
  have hx := B.exec
  have hb := B.bytes
  have hr := B.returns
  have hts := atoms_spec (ws := wsX2_size) B.pre
  have hown : s.vm.findClass RX2 = some m.cls := findClass_of_methodNamed B.named
  have hlocks := B.notSynchronized
  subst hsz
  have hD := hD0.self (sz := s.heap.size)
  generalize hAe : va_A (w_known ky aK ak ksz kmb kwa kra kla) s.heap.size = A at hD ⊢
  have hA : ∀ q : Nat, s.heap.size ≤ q → A q := fun q h => by rw [← hAe]; exact Or.inr h
  have hS : va_S A s.heap s.heap [] := va_S.rf
  have hP : va_P D vwCl (w_known ky aK ak ksz kmb kwa kra kla) s.heap := hP
  have hl := lv_entry ([.ref aK]) (n := 1) (Nat.le_of_ble_eq_true rfl)
  rw [lg_entry_eq]
  generalize (lg_sl ([.ref aK]) ++ List.replicate (1 - (lg_sl ([.ref aK])).length) Slot.unset).toArray = ls at hl ⊢
  have hl : lv_has ls 1 [(0, .ref aK)] := hl
  have C : cx p s m c ([.ref aK]).toArray D ky A cX2_size 1 wsX2_size RX2 := ⟨hx, hb, hml, hown, hts, hK, hA⟩
  have hQ : ∀ (pc : Nat) (H : Heap) (locs : List Loc) (ls : Array Slot), decode cX2_size pc = .ok (.ireturn, 1) → va_P D vwCl (w_known ky aK ak ksz kmb kwa kra kla) H → va_D A (w_known ky aK ak ksz kmb kwa kra kla) → va_S A s.heap H locs → W p l e rm_X2_size s m ([.ref aK]).toArray below meth c H locs 0 0 (MQ below (va_Qi (S := Unit) (fun r _ => r = res) (fun _ t => va_P D vwCl (w_known ky aK ak ksz kmb kwa kra kla) t.heap ∧ va_K D vwCl (tyW ky) t ∧ va_D A (w_known ky aK ak ksz kmb kwa kra kla)) A) ([.ref aK]).toArray s 0 0 A) (F0 m pc ls [.int res]) := fun pc H locs ls hd hP hD hS => W.iret hx hb hr (fun t ht hW => ⟨⟨res, (), rfl, rfl, by rw [ht]; exact hP, va_K.moved hW.alike hK, hD⟩, hS.F ht⟩) hS.2.2 hd
  unfold f_X2_size at hF
  refine lv_aload_n hx hb dX2_size_0 rfl (lv_at hl 0 rfl) ?_
  refine va_get (D := D) (ci := 2) (v := .int ksz) (C := RX2) (T := TX2) (N := 5) hx hb hts iX2_size_X2 hown hK hP 0 rfl rfl 1 (by decide) (hts _ kX2_size_1) (fun _ h9 => h9) rfl dX2_size_1 ?_
  have hF := Option.some.inj hF
  subst hF
  exact hQ _ _ _ _ dX2_size_4 hP hD hS
theorem c_X2_size (l : Launch) (D : va_G) (ky : Nat → ClassId) (aK ak : Nat) (sz N : Nat)  (ksz : Int32) (kmb : Int32) (kwa : Int32) (kra : Int32) (kla : Nat → Int32)  (rv : Int32) (hF : f_X2_size N ksz = some (rv)) : MI l yX2_size wsX2_size rm_X2_size D ky sz [.ref aK] (w_known ky aK ak ksz kmb kwa kra kla) (w_known ky aK ak ksz kmb kwa kra kla) rv :=
  cr_X2_size l D ky aK ak sz N ksz kmb kwa kra kla (rv) hF
abbrev rm_X2_lawAt : Room := { frames := 0, cells := 0, slots := 0, locals := 0 }
theorem iX2_lawAt_X2 : ∀ w ∈ wsX20, w ∈ wsX2_lawAt := by decide +kernel
theorem kX2_lawAt_1 : (Cond.fieldLink RX2 15 "TwoLaws$Known" "size" "I") ∈ wsX2_lawAt := by decide +kernel
theorem kX2_lawAt_2 : (Cond.fieldLink RX2 11 "TwoLaws$Known" "laws" "[I") ∈ wsX2_lawAt := by decide +kernel
set_option maxHeartbeats 4000000 in
set_option maxRecDepth 100000 in
theorem cr_X2_lawAt (l : Launch) (D : va_G) (ky : Nat → ClassId) (aK ak : Nat) (sz N : Nat)  (ksz : Int32) (kmb : Int32) (kwa : Int32) (kra : Int32) (kla : Nat → Int32) (p0 : Int32) (res : Int32) (hF : f_X2_lawAt N p0 ksz kla = some res) : MI l yX2_lawAt wsX2_lawAt rm_X2_lawAt D ky sz [.ref aK, .int p0] (w_known ky aK ak ksz kmb kwa kra kla) (w_known ky aK ak ksz kmb kwa kra kla) res := by
  unfold MI
  refine Met.ofW (cc := cX2_lawAt) (maxL := 2) (ret := (some .int)) (by decide) rfl ?_
  intro p e s m args below meth c s₁ B hml hv
  obtain ⟨rfl, hsz, hP, hK, hD0⟩ := hv
  have hx := B.exec
  have hb := B.bytes
  have hr := B.returns
  have hts := atoms_spec (ws := wsX2_lawAt) B.pre
  have hown : s.vm.findClass RX2 = some m.cls := findClass_of_methodNamed B.named
  have hlocks := B.notSynchronized
  subst hsz
  have hD := hD0.self (sz := s.heap.size)
  generalize hAe : va_A (w_known ky aK ak ksz kmb kwa kra kla) s.heap.size = A at hD ⊢
  have hA : ∀ q : Nat, s.heap.size ≤ q → A q := fun q h => by rw [← hAe]; exact Or.inr h
  have hS : va_S A s.heap s.heap [] := va_S.rf
  have hP : va_P D vwCl (w_known ky aK ak ksz kmb kwa kra kla) s.heap := hP
  have hl := lv_entry ([.ref aK, .int p0]) (n := 2) (Nat.le_of_ble_eq_true rfl)
  rw [lg_entry_eq]
  generalize (lg_sl ([.ref aK, .int p0]) ++ List.replicate (2 - (lg_sl ([.ref aK, .int p0])).length) Slot.unset).toArray = ls at hl ⊢
  have hl : lv_has ls 2 [(0, .ref aK), (1, .int p0)] := hl
  have C : cx p s m c ([.ref aK, .int p0]).toArray D ky A cX2_lawAt 2 wsX2_lawAt RX2 := ⟨hx, hb, hml, hown, hts, hK, hA⟩
  have hQ : ∀ (pc : Nat) (H : Heap) (locs : List Loc) (ls : Array Slot), decode cX2_lawAt pc = .ok (.ireturn, 1) → va_P D vwCl (w_known ky aK ak ksz kmb kwa kra kla) H → va_D A (w_known ky aK ak ksz kmb kwa kra kla) → va_S A s.heap H locs → W p l e rm_X2_lawAt s m ([.ref aK, .int p0]).toArray below meth c H locs 0 0 (MQ below (va_Qi (S := Unit) (fun r _ => r = res) (fun _ t => va_P D vwCl (w_known ky aK ak ksz kmb kwa kra kla) t.heap ∧ va_K D vwCl (tyW ky) t ∧ va_D A (w_known ky aK ak ksz kmb kwa kra kla)) A) ([.ref aK, .int p0]).toArray s 0 0 A) (F0 m pc ls [.int res]) := fun pc H locs ls hd hP hD hS => W.iret hx hb hr (fun t ht hW => ⟨⟨res, (), rfl, rfl, by rw [ht]; exact hP, va_K.moved hW.alike hK, hD⟩, hS.F ht⟩) hS.2.2 hd
  unfold f_X2_lawAt at hF
  refine lv_iload_n hx hb dX2_lawAt_0 rfl (lv_at hl 1 rfl) ?_
  refine lv_if_lt (tgt := 26) hx hb dX2_lawAt_1 (by decide) (fun c1 => ?_) (fun c1 => ?_)
  · have hF := if_t c1 hF
    refine lv_iconst (v := (0 : Int32)) hx hb dX2_lawAt_26 (by decide) ?_
    have hF := Option.some.inj hF
    subst hF
    exact hQ _ _ _ _ dX2_lawAt_27 hP hD hS
  · have hF := if_f c1 hF
    refine lv_iload_n hx hb dX2_lawAt_4 rfl (lv_at hl 1 rfl) ?_
    refine lv_aload_n hx hb dX2_lawAt_5 rfl (lv_at hl 0 rfl) ?_
    refine va_get (D := D) (ci := 2) (v := .int ksz) (C := RX2) (T := TX2) (N := 5) hx hb hts iX2_lawAt_X2 hown hK hP 0 rfl rfl 1 (by decide) (hts _ kX2_lawAt_1) (fun _ h9 => h9) rfl dX2_lawAt_6 ?_
    refine lv_icmp_ge (tgt := 26) hx hb dX2_lawAt_9 (by decide) (fun c2 => ?_) (fun c2 => ?_)
    · have hF := if_t c2 hF
      refine lv_iconst (v := (0 : Int32)) hx hb dX2_lawAt_26 (by decide) ?_
      have hF := Option.some.inj hF
      subst hF
      exact hQ _ _ _ _ dX2_lawAt_27 hP hD hS
    · have hF := if_f c2 hF
      refine lv_iload_n hx hb dX2_lawAt_12 rfl (lv_at hl 1 rfl) ?_
      refine lv_iconst (v := (4 : Int32)) hx hb dX2_lawAt_13 (by decide) ?_
      refine lv_icmp_ge (tgt := 26) hx hb dX2_lawAt_14 (by decide) (fun c3 => ?_) (fun c3 => ?_)
      · have hF := if_t c3 hF
        refine lv_iconst (v := (0 : Int32)) hx hb dX2_lawAt_26 (by decide) ?_
        have hF := Option.some.inj hF
        subst hF
        exact hQ _ _ _ _ dX2_lawAt_27 hP hD hS
      · have hF := if_f c3 hF
        refine lv_aload_n hx hb dX2_lawAt_17 rfl (lv_at hl 0 rfl) ?_
        refine va_get (D := D) (ci := 2) (v := .ref ak) (C := RX2) (T := TX2) (N := 5) hx hb hts iX2_lawAt_X2 hown hK hP 0 rfl rfl 0 (by decide) (hts _ kX2_lawAt_2) (fun _ h9 => h9) rfl dX2_lawAt_18 ?_
        refine lv_iload_n hx hb dX2_lawAt_21 rfl (lv_at hl 1 rfl) ?_
        obtain ⟨h4, hF⟩ := gi_s hF
        refine va_iald hx hb hK hP 1 0 rfl rfl h4 dX2_lawAt_22 ?_
        refine lv_goto (tgt := 27) hx hb dX2_lawAt_23 (by decide) ?_
        have hF := Option.some.inj hF
        subst hF
        exact hQ _ _ _ _ dX2_lawAt_27 hP hD hS
theorem c_X2_lawAt (l : Launch) (D : va_G) (ky : Nat → ClassId) (aK ak : Nat) (sz N : Nat)  (ksz : Int32) (kmb : Int32) (kwa : Int32) (kra : Int32) (kla : Nat → Int32) (p0 : Int32) (rv : Int32) (hF : f_X2_lawAt N p0 ksz kla = some (rv)) : MI l yX2_lawAt wsX2_lawAt rm_X2_lawAt D ky sz [.ref aK, .int p0] (w_known ky aK ak ksz kmb kwa kra kla) (w_known ky aK ak ksz kmb kwa kra kla) rv :=
  cr_X2_lawAt l D ky aK ak sz N ksz kmb kwa kra kla p0 (rv) hF
abbrev rm_X2_watchedCount : Room := { frames := 0, cells := 0, slots := 0, locals := 0 }
theorem iX2_watchedCount_X2 : ∀ w ∈ wsX20, w ∈ wsX2_watchedCount := by decide +kernel
theorem kX2_watchedCount_1 : (Cond.fieldLink RX2 22 "TwoLaws$Known" "watched" "I") ∈ wsX2_watchedCount := by decide +kernel
set_option maxHeartbeats 4000000 in
set_option maxRecDepth 100000 in
theorem cr_X2_watchedCount (l : Launch) (D : va_G) (ky : Nat → ClassId) (aK ak : Nat) (sz N : Nat)  (ksz : Int32) (kmb : Int32) (kwa : Int32) (kra : Int32) (kla : Nat → Int32)  (res : Int32) (hF : f_X2_watchedCount N kwa = some res) : MI l yX2_watchedCount wsX2_watchedCount rm_X2_watchedCount D ky sz [.ref aK] (w_known ky aK ak ksz kmb kwa kra kla) (w_known ky aK ak ksz kmb kwa kra kla) res := by
  unfold MI
  refine Met.ofW (cc := cX2_watchedCount) (maxL := 1) (ret := (some .int)) (by decide) rfl ?_
  intro p e s m args below meth c s₁ B hml hv
  obtain ⟨rfl, hsz, hP, hK, hD0⟩ := hv
  have hx := B.exec
  have hb := B.bytes
  have hr := B.returns
  have hts := atoms_spec (ws := wsX2_watchedCount) B.pre
  have hown : s.vm.findClass RX2 = some m.cls := findClass_of_methodNamed B.named
  have hlocks := B.notSynchronized
  subst hsz
  have hD := hD0.self (sz := s.heap.size)
  generalize hAe : va_A (w_known ky aK ak ksz kmb kwa kra kla) s.heap.size = A at hD ⊢
  have hA : ∀ q : Nat, s.heap.size ≤ q → A q := fun q h => by rw [← hAe]; exact Or.inr h
  have hS : va_S A s.heap s.heap [] := va_S.rf
  have hP : va_P D vwCl (w_known ky aK ak ksz kmb kwa kra kla) s.heap := hP
  have hl := lv_entry ([.ref aK]) (n := 1) (Nat.le_of_ble_eq_true rfl)
  rw [lg_entry_eq]
  generalize (lg_sl ([.ref aK]) ++ List.replicate (1 - (lg_sl ([.ref aK])).length) Slot.unset).toArray = ls at hl ⊢
  have hl : lv_has ls 1 [(0, .ref aK)] := hl
  have C : cx p s m c ([.ref aK]).toArray D ky A cX2_watchedCount 1 wsX2_watchedCount RX2 := ⟨hx, hb, hml, hown, hts, hK, hA⟩
  have hQ : ∀ (pc : Nat) (H : Heap) (locs : List Loc) (ls : Array Slot), decode cX2_watchedCount pc = .ok (.ireturn, 1) → va_P D vwCl (w_known ky aK ak ksz kmb kwa kra kla) H → va_D A (w_known ky aK ak ksz kmb kwa kra kla) → va_S A s.heap H locs → W p l e rm_X2_watchedCount s m ([.ref aK]).toArray below meth c H locs 0 0 (MQ below (va_Qi (S := Unit) (fun r _ => r = res) (fun _ t => va_P D vwCl (w_known ky aK ak ksz kmb kwa kra kla) t.heap ∧ va_K D vwCl (tyW ky) t ∧ va_D A (w_known ky aK ak ksz kmb kwa kra kla)) A) ([.ref aK]).toArray s 0 0 A) (F0 m pc ls [.int res]) := fun pc H locs ls hd hP hD hS => W.iret hx hb hr (fun t ht hW => ⟨⟨res, (), rfl, rfl, by rw [ht]; exact hP, va_K.moved hW.alike hK, hD⟩, hS.F ht⟩) hS.2.2 hd
  unfold f_X2_watchedCount at hF
  refine lv_aload_n hx hb dX2_watchedCount_0 rfl (lv_at hl 0 rfl) ?_
  refine va_get (D := D) (ci := 2) (v := .int kwa) (C := RX2) (T := TX2) (N := 5) hx hb hts iX2_watchedCount_X2 hown hK hP 0 rfl rfl 3 (by decide) (hts _ kX2_watchedCount_1) (fun _ h9 => h9) rfl dX2_watchedCount_1 ?_
  have hF := Option.some.inj hF
  subst hF
  exact hQ _ _ _ _ dX2_watchedCount_4 hP hD hS
theorem c_X2_watchedCount (l : Launch) (D : va_G) (ky : Nat → ClassId) (aK ak : Nat) (sz N : Nat)  (ksz : Int32) (kmb : Int32) (kwa : Int32) (kra : Int32) (kla : Nat → Int32)  (rv : Int32) (hF : f_X2_watchedCount N kwa = some (rv)) : MI l yX2_watchedCount wsX2_watchedCount rm_X2_watchedCount D ky sz [.ref aK] (w_known ky aK ak ksz kmb kwa kra kla) (w_known ky aK ak ksz kmb kwa kra kla) rv :=
  cr_X2_watchedCount l D ky aK ak sz N ksz kmb kwa kra kla (rv) hF
abbrev rm_X2_rangCount : Room := { frames := 0, cells := 0, slots := 0, locals := 0 }
theorem iX2_rangCount_X2 : ∀ w ∈ wsX20, w ∈ wsX2_rangCount := by decide +kernel
theorem kX2_rangCount_1 : (Cond.fieldLink RX2 25 "TwoLaws$Known" "rang" "I") ∈ wsX2_rangCount := by decide +kernel
set_option maxHeartbeats 4000000 in
set_option maxRecDepth 100000 in
theorem cr_X2_rangCount (l : Launch) (D : va_G) (ky : Nat → ClassId) (aK ak : Nat) (sz N : Nat)  (ksz : Int32) (kmb : Int32) (kwa : Int32) (kra : Int32) (kla : Nat → Int32)  (res : Int32) (hF : f_X2_rangCount N kra = some res) : MI l yX2_rangCount wsX2_rangCount rm_X2_rangCount D ky sz [.ref aK] (w_known ky aK ak ksz kmb kwa kra kla) (w_known ky aK ak ksz kmb kwa kra kla) res := by
  unfold MI
  refine Met.ofW (cc := cX2_rangCount) (maxL := 1) (ret := (some .int)) (by decide) rfl ?_
  intro p e s m args below meth c s₁ B hml hv
  obtain ⟨rfl, hsz, hP, hK, hD0⟩ := hv
  have hx := B.exec
  have hb := B.bytes
  have hr := B.returns
  have hts := atoms_spec (ws := wsX2_rangCount) B.pre
  have hown : s.vm.findClass RX2 = some m.cls := findClass_of_methodNamed B.named
  have hlocks := B.notSynchronized
  subst hsz
  have hD := hD0.self (sz := s.heap.size)
  generalize hAe : va_A (w_known ky aK ak ksz kmb kwa kra kla) s.heap.size = A at hD ⊢
  have hA : ∀ q : Nat, s.heap.size ≤ q → A q := fun q h => by rw [← hAe]; exact Or.inr h
  have hS : va_S A s.heap s.heap [] := va_S.rf
  have hP : va_P D vwCl (w_known ky aK ak ksz kmb kwa kra kla) s.heap := hP
  have hl := lv_entry ([.ref aK]) (n := 1) (Nat.le_of_ble_eq_true rfl)
  rw [lg_entry_eq]
  generalize (lg_sl ([.ref aK]) ++ List.replicate (1 - (lg_sl ([.ref aK])).length) Slot.unset).toArray = ls at hl ⊢
  have hl : lv_has ls 1 [(0, .ref aK)] := hl
  have C : cx p s m c ([.ref aK]).toArray D ky A cX2_rangCount 1 wsX2_rangCount RX2 := ⟨hx, hb, hml, hown, hts, hK, hA⟩
  have hQ : ∀ (pc : Nat) (H : Heap) (locs : List Loc) (ls : Array Slot), decode cX2_rangCount pc = .ok (.ireturn, 1) → va_P D vwCl (w_known ky aK ak ksz kmb kwa kra kla) H → va_D A (w_known ky aK ak ksz kmb kwa kra kla) → va_S A s.heap H locs → W p l e rm_X2_rangCount s m ([.ref aK]).toArray below meth c H locs 0 0 (MQ below (va_Qi (S := Unit) (fun r _ => r = res) (fun _ t => va_P D vwCl (w_known ky aK ak ksz kmb kwa kra kla) t.heap ∧ va_K D vwCl (tyW ky) t ∧ va_D A (w_known ky aK ak ksz kmb kwa kra kla)) A) ([.ref aK]).toArray s 0 0 A) (F0 m pc ls [.int res]) := fun pc H locs ls hd hP hD hS => W.iret hx hb hr (fun t ht hW => ⟨⟨res, (), rfl, rfl, by rw [ht]; exact hP, va_K.moved hW.alike hK, hD⟩, hS.F ht⟩) hS.2.2 hd
  unfold f_X2_rangCount at hF
  refine lv_aload_n hx hb dX2_rangCount_0 rfl (lv_at hl 0 rfl) ?_
  refine va_get (D := D) (ci := 2) (v := .int kra) (C := RX2) (T := TX2) (N := 5) hx hb hts iX2_rangCount_X2 hown hK hP 0 rfl rfl 4 (by decide) (hts _ kX2_rangCount_1) (fun _ h9 => h9) rfl dX2_rangCount_1 ?_
  have hF := Option.some.inj hF
  subst hF
  exact hQ _ _ _ _ dX2_rangCount_4 hP hD hS
theorem c_X2_rangCount (l : Launch) (D : va_G) (ky : Nat → ClassId) (aK ak : Nat) (sz N : Nat)  (ksz : Int32) (kmb : Int32) (kwa : Int32) (kra : Int32) (kla : Nat → Int32)  (rv : Int32) (hF : f_X2_rangCount N kra = some (rv)) : MI l yX2_rangCount wsX2_rangCount rm_X2_rangCount D ky sz [.ref aK] (w_known ky aK ak ksz kmb kwa kra kla) (w_known ky aK ak ksz kmb kwa kra kla) rv :=
  cr_X2_rangCount l D ky aK ak sz N ksz kmb kwa kra kla (rv) hF
abbrev rm_X2_see : Room := { frames := 2, cells := 0, slots := 0, locals := 43 }
theorem iX2_see_X2 : ∀ w ∈ wsX20, w ∈ wsX2_see := by decide +kernel
theorem kX2_see_1 : (Cond.fieldLink RX2 15 "TwoLaws$Known" "size" "I") ∈ wsX2_see := by decide +kernel
theorem kX2_see_2 : (Cond.fieldLink RX2 11 "TwoLaws$Known" "laws" "[I") ∈ wsX2_see := by decide +kernel
theorem kX2_see_3 : (Cond.fieldLink RX2 22 "TwoLaws$Known" "watched" "I") ∈ wsX2_see := by decide +kernel
theorem kX2_see_4 : (Cond.fieldLink RX2 19 "TwoLaws$Known" "mayBe" "I") ∈ wsX2_see := by decide +kernel
theorem kX2_see_5 : (Cond.fieldLink RX2 25 "TwoLaws$Known" "rang" "I") ∈ wsX2_see := by decide +kernel
set_option maxHeartbeats 4000000 in
set_option maxRecDepth 100000 in
theorem w_X2_see_57 {p : Program} {l : Launch} {e : Env} {s : State} {m : MethodId} {args : Array Value} {below : List Frame} {meth : Method} {c : Code} {Q : State → Prop} {A : Nat → Prop} {D : va_G} {ky : Nat → ClassId} {aK ak : Nat} {ksz : Int32} {kla : Nat → Int32} (N : Nat) (C : cx p s m c args D ky A cX2_see 7 wsX2_see RX2) (res : Int32 × Int32 × Int32 × Int32) (hQ : ∀ (pc : Nat) (H : Heap) (locs : List Loc) (ls : Array Slot), decode cX2_see pc = .ok (.ireturn, 1) → va_P D vwCl (w_known ky aK ak ksz res.2.1 res.2.2.1 res.2.2.2 kla) H → va_D A (w_known ky aK ak ksz res.2.1 res.2.2.1 res.2.2.2 kla) → va_S A s.heap H locs → W p l e rm_X2_see s m args below meth c H locs 0 0 Q (F0 m pc ls [.int res.1]))  (l5 : Int32) (kmb : Int32) (kwa : Int32) (kra : Int32) (hF : f_X2_see_57 N l5 ksz kmb kwa kra = some res) : ∀ (H : Heap) (locs : List Loc) (ls : Array Slot), va_P D vwCl (w_known ky aK ak ksz kmb kwa kra kla) H → va_D A (w_known ky aK ak ksz kmb kwa kra kla) → va_S A s.heap H locs → lv_has ls 7 [(0, .ref aK), (5, .int l5)] → W p l e rm_X2_see s m args below meth c H locs 0 0 Q (F0 m 57 ls []) := by
  obtain ⟨hx, hb, hml, hown, hts, hK, hA⟩ := id C
  intro H locs ls hP hD hS hl
  unfold f_X2_see_57 at hF
  refine lv_aload_n hx hb dX2_see_57 rfl (lv_at hl 0 rfl) ?_
  refine lv_dup hx hb dX2_see_58 rfl ?_
  refine va_get (D := D) (ci := 2) (v := .int kwa) (C := RX2) (T := TX2) (N := 5) hx hb hts iX2_see_X2 hown hK hP 0 rfl rfl 3 (by decide) (hts _ kX2_see_3) (fun _ h9 => h9) rfl dX2_see_59 ?_
  refine lv_iconst (v := (1 : Int32)) hx hb dX2_see_62 (by decide) ?_
  refine lv_iadd hx hb dX2_see_63 ?_
  refine va_put (D := D) (ci := 2) (v := .int (kwa + (1 : Int32))) (ty := .int) (C := RX2) (T := TX2) (N := 5) hx hb hts iX2_see_X2 tyX2 tyX2_ok nmX2 hown hK hP hD hS 0 rfl rfl 3 (by decide) (hts _ kX2_see_3) (fun _ h9 => h9) rfl (by decide +kernel) rfl rfl (Nat.le_of_ble_eq_true rfl) dX2_see_64 (fun H locs hP hD hS => ?_)
  have hP : va_P D vwCl (w_known ky aK ak ksz kmb (kwa + (1 : Int32)) kra kla) H := hP
  have hD : va_D A (w_known ky aK ak ksz kmb (kwa + (1 : Int32)) kra kla) := hD
  refine lv_aload_n hx hb dX2_see_67 rfl (lv_at hl 0 rfl) ?_
  refine va_get (D := D) (ci := 2) (v := .int kmb) (C := RX2) (T := TX2) (N := 5) hx hb hts iX2_see_X2 hown hK hP 0 rfl rfl 2 (by decide) (hts _ kX2_see_4) (fun _ h9 => h9) rfl dX2_see_68 ?_
  refine lv_iload hx hb dX2_see_71 (lv_at hl 1 rfl) ?_
  refine lv_iand hx hb dX2_see_73 ?_
  refine lv_if_eq (tgt := 93) hx hb dX2_see_74 (by decide) (fun c9 => ?_) (fun c9 => ?_)
  · have hF := if_t c9 hF
    refine lv_aload_n hx hb dX2_see_93 rfl (lv_at hl 0 rfl) ?_
    refine lv_dup hx hb dX2_see_94 rfl ?_
    refine va_get (D := D) (ci := 2) (v := .int kra) (C := RX2) (T := TX2) (N := 5) hx hb hts iX2_see_X2 hown hK hP 0 rfl rfl 4 (by decide) (hts _ kX2_see_5) (fun _ h9 => h9) rfl dX2_see_95 ?_
    refine lv_iconst (v := (1 : Int32)) hx hb dX2_see_98 (by decide) ?_
    refine lv_iadd hx hb dX2_see_99 ?_
    refine va_put (D := D) (ci := 2) (v := .int (kra + (1 : Int32))) (ty := .int) (C := RX2) (T := TX2) (N := 5) hx hb hts iX2_see_X2 tyX2 tyX2_ok nmX2 hown hK hP hD hS 0 rfl rfl 4 (by decide) (hts _ kX2_see_5) (fun _ h9 => h9) rfl (by decide +kernel) rfl rfl (Nat.le_of_ble_eq_true rfl) dX2_see_100 (fun H locs hP hD hS => ?_)
    have hP : va_P D vwCl (w_known ky aK ak ksz kmb (kwa + (1 : Int32)) (kra + (1 : Int32)) kla) H := hP
    have hD : va_D A (w_known ky aK ak ksz kmb (kwa + (1 : Int32)) (kra + (1 : Int32)) kla) := hD
    refine lv_aload_n hx hb dX2_see_103 rfl (lv_at hl 0 rfl) ?_
    refine lv_iload hx hb dX2_see_104 (lv_at hl 1 rfl) ?_
    refine lv_if_eq (tgt := 114) hx hb dX2_see_106 (by decide) (fun c10 => ?_) (fun c10 => ?_)
    · have hF := if_t c10 hF
      refine lv_aload_n hx hb dX2_see_114 rfl (lv_at hl 0 rfl) ?_
      obtain ⟨r12, h11, hF⟩ := b1_s hF
      refine cl_vi (As := []) (rest := [.ref aK]) (w' := (w_known ky aK ak ksz kmb (kwa + (1 : Int32)) (kra + (1 : Int32)) kla)) ⟨hx, hb, hml, hown, hts⟩ hK hP hD hS hA (c_X2_all l D ky aK ak _ N  ksz kmb (kwa + (1 : Int32)) (kra + (1 : Int32)) kla  r12 h11) (cwV 0 hts gX2_see_X2_all rfl rfl rfl (by decide +kernel) ⟨Nat.le_of_ble_eq_true rfl, Nat.le_of_ble_eq_true rfl⟩) [0, 1] [] [0, 1] 0 2 rfl rfl rfl rfl (wr := []) rfl (by decide) rfl rfl hl.1 (Nat.le_of_ble_eq_true rfl) dX2_see_115 ⟨Nat.zero_le _, Nat.zero_le _⟩ (fun H locs hP hD hS => ?_)
      refine va_put (D := D) (ci := 2) (v := .int r12) (ty := .int) (C := RX2) (T := TX2) (N := 5) hx hb hts iX2_see_X2 tyX2 tyX2_ok nmX2 hown hK hP hD hS 0 rfl rfl 2 (by decide) (hts _ kX2_see_4) (fun _ h9 => h9) rfl (by decide +kernel) rfl rfl (Nat.le_of_ble_eq_true rfl) dX2_see_118 (fun H locs hP hD hS => ?_)
      have hP : va_P D vwCl (w_known ky aK ak ksz r12 (kwa + (1 : Int32)) (kra + (1 : Int32)) kla) H := hP
      have hD : va_D A (w_known ky aK ak ksz r12 (kwa + (1 : Int32)) (kra + (1 : Int32)) kla) := hD
      refine lv_bipush (v := (16 : Int32)) hx hb dX2_see_121 (by decide) ?_
      refine lv_aload_n hx hb dX2_see_123 rfl (lv_at hl 0 rfl) ?_
      refine va_get (D := D) (ci := 2) (v := .int r12) (C := RX2) (T := TX2) (N := 5) hx hb hts iX2_see_X2 hown hK hP 0 rfl rfl 2 (by decide) (hts _ kX2_see_4) (fun _ h9 => h9) rfl dX2_see_124 ?_
      refine lv_iadd hx hb dX2_see_127 ?_
      have hF := Option.some.inj hF
      subst hF
      exact hQ _ H _ _ dX2_see_128 hP hD hS
    · have hF := if_f c10 hF
      refine lv_iload hx hb dX2_see_109 (lv_at hl 1 rfl) ?_
      refine lv_goto (tgt := 118) hx hb dX2_see_111 (by decide) ?_
      refine va_put (D := D) (ci := 2) (v := .int l5) (ty := .int) (C := RX2) (T := TX2) (N := 5) hx hb hts iX2_see_X2 tyX2 tyX2_ok nmX2 hown hK hP hD hS 0 rfl rfl 2 (by decide) (hts _ kX2_see_4) (fun _ h9 => h9) rfl (by decide +kernel) rfl rfl (Nat.le_of_ble_eq_true rfl) dX2_see_118 (fun H locs hP hD hS => ?_)
      have hP : va_P D vwCl (w_known ky aK ak ksz l5 (kwa + (1 : Int32)) (kra + (1 : Int32)) kla) H := hP
      have hD : va_D A (w_known ky aK ak ksz l5 (kwa + (1 : Int32)) (kra + (1 : Int32)) kla) := hD
      refine lv_bipush (v := (16 : Int32)) hx hb dX2_see_121 (by decide) ?_
      refine lv_aload_n hx hb dX2_see_123 rfl (lv_at hl 0 rfl) ?_
      refine va_get (D := D) (ci := 2) (v := .int l5) (C := RX2) (T := TX2) (N := 5) hx hb hts iX2_see_X2 hown hK hP 0 rfl rfl 2 (by decide) (hts _ kX2_see_4) (fun _ h9 => h9) rfl dX2_see_124 ?_
      refine lv_iadd hx hb dX2_see_127 ?_
      have hF := Option.some.inj hF
      subst hF
      exact hQ _ H _ _ dX2_see_128 hP hD hS
  · have hF := if_f c9 hF
    refine lv_aload_n hx hb dX2_see_77 rfl (lv_at hl 0 rfl) ?_
    refine lv_dup hx hb dX2_see_78 rfl ?_
    refine va_get (D := D) (ci := 2) (v := .int kmb) (C := RX2) (T := TX2) (N := 5) hx hb hts iX2_see_X2 hown hK hP 0 rfl rfl 2 (by decide) (hts _ kX2_see_4) (fun _ h9 => h9) rfl dX2_see_79 ?_
    refine lv_iload hx hb dX2_see_82 (lv_at hl 1 rfl) ?_
    refine lv_iand hx hb dX2_see_84 ?_
    refine va_put (D := D) (ci := 2) (v := .int (kmb &&& l5)) (ty := .int) (C := RX2) (T := TX2) (N := 5) hx hb hts iX2_see_X2 tyX2 tyX2_ok nmX2 hown hK hP hD hS 0 rfl rfl 2 (by decide) (hts _ kX2_see_4) (fun _ h9 => h9) rfl (by decide +kernel) rfl rfl (Nat.le_of_ble_eq_true rfl) dX2_see_85 (fun H locs hP hD hS => ?_)
    have hP : va_P D vwCl (w_known ky aK ak ksz (kmb &&& l5) (kwa + (1 : Int32)) kra kla) H := hP
    have hD : va_D A (w_known ky aK ak ksz (kmb &&& l5) (kwa + (1 : Int32)) kra kla) := hD
    refine lv_aload_n hx hb dX2_see_88 rfl (lv_at hl 0 rfl) ?_
    refine va_get (D := D) (ci := 2) (v := .int (kmb &&& l5)) (C := RX2) (T := TX2) (N := 5) hx hb hts iX2_see_X2 hown hK hP 0 rfl rfl 2 (by decide) (hts _ kX2_see_4) (fun _ h9 => h9) rfl dX2_see_89 ?_
    have hF := Option.some.inj hF
    subst hF
    exact hQ _ H _ _ dX2_see_92 hP hD hS
set_option maxHeartbeats 4000000 in
set_option maxRecDepth 100000 in
theorem w_X2_see_6 {p : Program} {l : Launch} {e : Env} {s : State} {m : MethodId} {args : Array Value} {below : List Frame} {meth : Method} {c : Code} {Q : State → Prop} {A : Nat → Prop} {D : va_G} {ky : Nat → ClassId} {aK ak : Nat} {ksz : Int32} {kla : Nat → Int32} (N : Nat) (C : cx p s m c args D ky A cX2_see 7 wsX2_see RX2) (res : Int32 × Int32 × Int32 × Int32) (hQ : ∀ (pc : Nat) (H : Heap) (locs : List Loc) (ls : Array Slot), decode cX2_see pc = .ok (.ireturn, 1) → va_P D vwCl (w_known ky aK ak ksz res.2.1 res.2.2.1 res.2.2.2 kla) H → va_D A (w_known ky aK ak ksz res.2.1 res.2.2.1 res.2.2.2 kla) → va_S A s.heap H locs → W p l e rm_X2_see s m args below meth c H locs 0 0 Q (F0 m pc ls [.int res.1])) (l1 : Int32) (l2 : Int32) (l3 : Int32) (l4 : Int32) (kmb : Int32) (kwa : Int32) (kra : Int32) : ∀ (n : Nat) (l5 : Int32) (l6 : Int32), f_X2_see_6 N l1 l2 l3 l4 ksz kmb kwa kra kla n l5 l6 = some res → ∀ (H : Heap) (locs : List Loc) (ls : Array Slot), va_P D vwCl (w_known ky aK ak ksz kmb kwa kra kla) H → va_D A (w_known ky aK ak ksz kmb kwa kra kla) → va_S A s.heap H locs → lv_has ls 7 [(0, .ref aK), (1, .int l1), (2, .int l2), (3, .int l3), (4, .int l4), (5, .int l5), (6, .int l6)] → W p l e rm_X2_see s m args below meth c H locs 0 0 Q (F0 m 6 ls []) := by
  obtain ⟨hx, hb, hml, hown, hts, hK, hA⟩ := id C
  intro n
  induction n with
  | zero =>
    intro l5 l6 hF
    cases hF
  | succ n ih =>
    intro l5 l6 hF H locs ls hP hD hS hl
    have hF : b_X2_see_6 N l1 l2 l3 l4 ksz kmb kwa kra kla (f_X2_see_6 N l1 l2 l3 l4 ksz kmb kwa kra kla n) l5 l6 = some res := hF
    unfold b_X2_see_6 at hF
    refine lv_iload hx hb dX2_see_6 (lv_at hl 6 rfl) ?_
    refine lv_aload_n hx hb dX2_see_8 rfl (lv_at hl 0 rfl) ?_
    refine va_get (D := D) (ci := 2) (v := .int ksz) (C := RX2) (T := TX2) (N := 5) hx hb hts iX2_see_X2 hown hK hP 0 rfl rfl 1 (by decide) (hts _ kX2_see_1) (fun _ h9 => h9) rfl dX2_see_9 ?_
    refine lv_icmp_ge (tgt := 57) hx hb dX2_see_12 (by decide) (fun c1 => ?_) (fun c1 => ?_)
    · have hF := if_t c1 hF
      exact w_X2_see_57 N C res hQ l5 kmb kwa kra hF H _ _ hP hD hS (lv_sub hl [0, 5] rfl)
    · have hF := if_f c1 hF
      refine lv_iload hx hb dX2_see_15 (lv_at hl 6 rfl) ?_
      refine lv_iconst (v := (4 : Int32)) hx hb dX2_see_17 (by decide) ?_
      refine lv_icmp_ge (tgt := 57) hx hb dX2_see_18 (by decide) (fun c2 => ?_) (fun c2 => ?_)
      · have hF := if_t c2 hF
        exact w_X2_see_57 N C res hQ l5 kmb kwa kra hF H _ _ hP hD hS (lv_sub hl [0, 5] rfl)
      · have hF := if_f c2 hF
        refine lv_aload_n hx hb dX2_see_21 rfl (lv_at hl 0 rfl) ?_
        refine va_get (D := D) (ci := 2) (v := .ref ak) (C := RX2) (T := TX2) (N := 5) hx hb hts iX2_see_X2 hown hK hP 0 rfl rfl 0 (by decide) (hts _ kX2_see_2) (fun _ h9 => h9) rfl dX2_see_22 ?_
        refine lv_iload hx hb dX2_see_25 (lv_at hl 6 rfl) ?_
        obtain ⟨h3, hF⟩ := gi_s hF
        refine va_iald hx hb hK hP 1 0 rfl rfl h3 dX2_see_27 ?_
        refine lv_iload_n hx hb dX2_see_28 rfl (lv_at hl 1 rfl) ?_
        refine lv_iload_n hx hb dX2_see_29 rfl (lv_at hl 2 rfl) ?_
        obtain ⟨r5, h4, hF⟩ := b1_s hF
        refine cl_si (As := [.int (kla l6.toNatClampNeg), .int l1, .int l2]) (rest := []) ⟨hx, hb, hml, hown, hts⟩ hK hP hD hS hA (c_X3_sum l D ky  _ N   (kla l6.toNatClampNeg) l1 l2 r5 h4) (va_cwS 3 hts gX2_see_X3_sum rfl rfl rfl (by decide +kernel) ⟨Nat.le_of_ble_eq_true rfl, Nat.le_of_ble_eq_true rfl⟩) rfl hl.1 (Nat.le_of_ble_eq_true rfl) dX2_see_30 ⟨Nat.zero_le _, Nat.zero_le _⟩ (fun H locs hP hD hS => ?_)
        refine lv_iload_n hx hb dX2_see_33 rfl (lv_at hl 3 rfl) ?_
        refine lv_iload hx hb dX2_see_34 (lv_at hl 4 rfl) ?_
        obtain ⟨r7, h6, hF⟩ := b1_s hF
        refine cl_si (As := [.int r5, .int l3, .int l4]) (rest := []) ⟨hx, hb, hml, hown, hts⟩ hK hP hD hS hA (c_X3_isMet l D ky  _ N   r5 l3 l4 r7 h6) (va_cwS 3 hts gX2_see_X3_isMet rfl rfl rfl (by decide +kernel) ⟨Nat.le_of_ble_eq_true rfl, Nat.le_of_ble_eq_true rfl⟩) rfl hl.1 (Nat.le_of_ble_eq_true rfl) dX2_see_36 ⟨Nat.zero_le _, Nat.zero_le _⟩ (fun H locs hP hD hS => ?_)
        refine lv_if_eq (tgt := 51) hx hb dX2_see_39 (by decide) (fun c8 => ?_) (fun c8 => ?_)
        · have hF := if_t c8 hF
          refine lv_iinc (v := (l6 + (1 : Int32))) (lv' := [(6, .int (l6 + (1 : Int32))), (0, .ref aK), (1, .int l1), (2, .int l2), (3, .int l3), (4, .int l4), (5, .int l5)]) hx hb dX2_see_51 hl (k := 6) rfl rfl (by decide) rfl (fun ls hl => ?_)
          refine lv_goto (tgt := 6) hx hb dX2_see_54 (by decide) ?_
          exact ih l5 (l6 + (1 : Int32)) hF H _ _ hP hD hS (lv_sub hl [1, 2, 3, 4, 5, 6, 0] rfl)
        · have hF := if_f c8 hF
          refine lv_iload hx hb dX2_see_42 (lv_at hl 5 rfl) ?_
          refine lv_iconst (v := (1 : Int32)) hx hb dX2_see_44 (by decide) ?_
          refine lv_iload hx hb dX2_see_45 (lv_at hl 6 rfl) ?_
          refine lv_ishl hx hb dX2_see_47 ?_
          refine lv_ior hx hb dX2_see_48 ?_
          refine lv_istore (lv' := [(5, .int (l5 ||| ((1 : Int32) <<< (l6 &&& 31)))), (0, .ref aK), (1, .int l1), (2, .int l2), (3, .int l3), (4, .int l4), (6, .int l6)]) hx hb dX2_see_49 hl (by decide) rfl (fun ls hl => ?_)
          refine lv_iinc (v := (l6 + (1 : Int32))) (lv' := [(6, .int (l6 + (1 : Int32))), (5, .int (l5 ||| ((1 : Int32) <<< (l6 &&& 31)))), (0, .ref aK), (1, .int l1), (2, .int l2), (3, .int l3), (4, .int l4)]) hx hb dX2_see_51 hl (k := 6) rfl rfl (by decide) rfl (fun ls hl => ?_)
          refine lv_goto (tgt := 6) hx hb dX2_see_54 (by decide) ?_
          exact ih (l5 ||| ((1 : Int32) <<< (l6 &&& 31))) (l6 + (1 : Int32)) hF H _ _ hP hD hS (lv_sub hl [2, 3, 4, 5, 6, 1, 0] rfl)
set_option maxHeartbeats 4000000 in
set_option maxRecDepth 100000 in
theorem cr_X2_see (l : Launch) (D : va_G) (ky : Nat → ClassId) (aK ak : Nat) (sz N : Nat)  (ksz : Int32) (kmb : Int32) (kwa : Int32) (kra : Int32) (kla : Nat → Int32) (p0 : Int32) (p1 : Int32) (p2 : Int32) (p3 : Int32) (res : Int32 × Int32 × Int32 × Int32) (hF : f_X2_see N p0 p1 p2 p3 ksz kmb kwa kra kla = some res) : MI l yX2_see wsX2_see rm_X2_see D ky sz [.ref aK, .int p0, .int p1, .int p2, .int p3] (w_known ky aK ak ksz kmb kwa kra kla) (w_known ky aK ak ksz res.2.1 res.2.2.1 res.2.2.2 kla) res.1 := by
  unfold MI
  refine Met.ofW (cc := cX2_see) (maxL := 7) (ret := (some .int)) (by decide) rfl ?_
  intro p e s m args below meth c s₁ B hml hv
  obtain ⟨rfl, hsz, hP, hK, hD0⟩ := hv
  have hx := B.exec
  have hb := B.bytes
  have hr := B.returns
  have hts := atoms_spec (ws := wsX2_see) B.pre
  have hown : s.vm.findClass RX2 = some m.cls := findClass_of_methodNamed B.named
  have hlocks := B.notSynchronized
  subst hsz
  have hD := hD0.self (sz := s.heap.size)
  generalize hAe : va_A (w_known ky aK ak ksz kmb kwa kra kla) s.heap.size = A at hD ⊢
  have hA : ∀ q : Nat, s.heap.size ≤ q → A q := fun q h => by rw [← hAe]; exact Or.inr h
  have hS : va_S A s.heap s.heap [] := va_S.rf
  have hP : va_P D vwCl (w_known ky aK ak ksz kmb kwa kra kla) s.heap := hP
  have hl := lv_entry ([.ref aK, .int p0, .int p1, .int p2, .int p3]) (n := 7) (Nat.le_of_ble_eq_true rfl)
  rw [lg_entry_eq]
  generalize (lg_sl ([.ref aK, .int p0, .int p1, .int p2, .int p3]) ++ List.replicate (7 - (lg_sl ([.ref aK, .int p0, .int p1, .int p2, .int p3])).length) Slot.unset).toArray = ls at hl ⊢
  have hl : lv_has ls 7 [(0, .ref aK), (1, .int p0), (2, .int p1), (3, .int p2), (4, .int p3)] := hl
  have C : cx p s m c ([.ref aK, .int p0, .int p1, .int p2, .int p3]).toArray D ky A cX2_see 7 wsX2_see RX2 := ⟨hx, hb, hml, hown, hts, hK, hA⟩
  have hQ : ∀ (pc : Nat) (H : Heap) (locs : List Loc) (ls : Array Slot), decode cX2_see pc = .ok (.ireturn, 1) → va_P D vwCl (w_known ky aK ak ksz res.2.1 res.2.2.1 res.2.2.2 kla) H → va_D A (w_known ky aK ak ksz res.2.1 res.2.2.1 res.2.2.2 kla) → va_S A s.heap H locs → W p l e rm_X2_see s m ([.ref aK, .int p0, .int p1, .int p2, .int p3]).toArray below meth c H locs 0 0 (MQ below (va_Qi (S := Unit) (fun r _ => r = res.1) (fun _ t => va_P D vwCl (w_known ky aK ak ksz res.2.1 res.2.2.1 res.2.2.2 kla) t.heap ∧ va_K D vwCl (tyW ky) t ∧ va_D A (w_known ky aK ak ksz res.2.1 res.2.2.1 res.2.2.2 kla)) A) ([.ref aK, .int p0, .int p1, .int p2, .int p3]).toArray s 0 0 A) (F0 m pc ls [.int res.1]) := fun pc H locs ls hd hP hD hS => W.iret hx hb hr (fun t ht hW => ⟨⟨res.1, (), rfl, rfl, by rw [ht]; exact hP, va_K.moved hW.alike hK, hD⟩, hS.F ht⟩) hS.2.2 hd
  unfold f_X2_see at hF
  refine lv_iconst (v := (0 : Int32)) hx hb dX2_see_0 (by decide) ?_
  refine lv_istore (lv' := [(5, .int (0 : Int32)), (0, .ref aK), (1, .int p0), (2, .int p1), (3, .int p2), (4, .int p3)]) hx hb dX2_see_1 hl (by decide) rfl (fun ls hl => ?_)
  refine lv_iconst (v := (0 : Int32)) hx hb dX2_see_3 (by decide) ?_
  refine lv_istore (lv' := [(6, .int (0 : Int32)), (5, .int (0 : Int32)), (0, .ref aK), (1, .int p0), (2, .int p1), (3, .int p2), (4, .int p3)]) hx hb dX2_see_4 hl (by decide) rfl (fun ls hl => ?_)
  exact w_X2_see_6 N C res hQ p0 p1 p2 p3 kmb kwa kra N (0 : Int32) (0 : Int32) hF _ _ _ hP hD hS (lv_sub hl [2, 3, 4, 5, 6, 1, 0] rfl)
theorem c_X2_see (l : Launch) (D : va_G) (ky : Nat → ClassId) (aK ak : Nat) (sz N : Nat)  (ksz : Int32) (kmb : Int32) (kwa : Int32) (kra : Int32) (kla : Nat → Int32) (p0 : Int32) (p1 : Int32) (p2 : Int32) (p3 : Int32) (rv : Int32) (kmb' : Int32) (kwa' : Int32) (kra' : Int32) (hF : f_X2_see N p0 p1 p2 p3 ksz kmb kwa kra kla = some (rv, kmb', kwa', kra')) : MI l yX2_see wsX2_see rm_X2_see D ky sz [.ref aK, .int p0, .int p1, .int p2, .int p3] (w_known ky aK ak ksz kmb kwa kra kla) (w_known ky aK ak ksz kmb' kwa' kra' kla) rv :=
  cr_X2_see l D ky aK ak sz N ksz kmb kwa kra kla p0 p1 p2 p3 (rv, kmb', kwa', kra') hF
abbrev rm_X1_become : Room := { frames := 0, cells := 0, slots := 0, locals := 0 }
theorem iX1_become_X1 : ∀ w ∈ wsX10, w ∈ wsX1_become := by decide +kernel
theorem kX1_become_1 : (Cond.fieldLink RX1 9 "TwoLaws$Box" "low" "I") ∈ wsX1_become := by decide +kernel
theorem kX1_become_2 : (Cond.fieldLink RX1 15 "TwoLaws$Box" "high" "I") ∈ wsX1_become := by decide +kernel
set_option maxHeartbeats 4000000 in
set_option maxRecDepth 100000 in
theorem cr_X1_become (l : Launch) (D : va_G) (ky : Nat → ClassId) (aH : Nat) (sz N : Nat)  (lo : Int32) (hi : Int32) (p0 : Int32) (p1 : Int32) (res : Int32 × Int32) (hF : f_X1_become N p0 p1 = some res) : MV l yX1_become wsX1_become rm_X1_become D ky sz [.ref aH, .int p0, .int p1] (w_box ky aH lo hi) (w_box ky aH res.1 res.2) := by
  unfold MV
  refine Met.ofW (cc := cX1_become) (maxL := 3) (ret := none) (by decide) rfl ?_
  intro p e s m args below meth c s₁ B hml hv
  obtain ⟨rfl, hsz, hP, hK, hD0⟩ := hv
  have hx := B.exec
  have hb := B.bytes
  have hr := B.returns
  have hts := atoms_spec (ws := wsX1_become) B.pre
  have hown : s.vm.findClass RX1 = some m.cls := findClass_of_methodNamed B.named
  have hlocks := B.notSynchronized
  subst hsz
  have hD := hD0.self (sz := s.heap.size)
  generalize hAe : va_A (w_box ky aH lo hi) s.heap.size = A at hD ⊢
  have hA : ∀ q : Nat, s.heap.size ≤ q → A q := fun q h => by rw [← hAe]; exact Or.inr h
  have hS : va_S A s.heap s.heap [] := va_S.rf
  have hP : va_P D vwCl (w_box ky aH lo hi) s.heap := hP
  have hl := lv_entry ([.ref aH, .int p0, .int p1]) (n := 3) (Nat.le_of_ble_eq_true rfl)
  rw [lg_entry_eq]
  generalize (lg_sl ([.ref aH, .int p0, .int p1]) ++ List.replicate (3 - (lg_sl ([.ref aH, .int p0, .int p1])).length) Slot.unset).toArray = ls at hl ⊢
  have hl : lv_has ls 3 [(0, .ref aH), (1, .int p0), (2, .int p1)] := hl
  have C : cx p s m c ([.ref aH, .int p0, .int p1]).toArray D ky A cX1_become 3 wsX1_become RX1 := ⟨hx, hb, hml, hown, hts, hK, hA⟩
  have hQ : ∀ (pc : Nat) (H : Heap) (locs : List Loc) (ls : Array Slot), decode cX1_become pc = .ok (.return_, 1) → va_P D vwCl (w_box ky aH res.1 res.2) H → va_D A (w_box ky aH res.1 res.2) → va_S A s.heap H locs → W p l e rm_X1_become s m ([.ref aH, .int p0, .int p1]).toArray below meth c H locs 0 0 (MQ below (va_Qv (S := Unit) (fun _ => True) (fun _ t => va_P D vwCl (w_box ky aH res.1 res.2) t.heap ∧ va_K D vwCl (tyW ky) t ∧ va_D A (w_box ky aH res.1 res.2)) A) ([.ref aH, .int p0, .int p1]).toArray s 0 0 A) (F0 m pc ls []) := fun pc H locs ls hd hP hD hS => W.vret hx hb hr (fun t ht hW => ⟨⟨(), rfl, trivial, by rw [ht]; exact hP, va_K.moved hW.alike hK, hD⟩, hS.F ht⟩) hS.2.2 hd
  unfold f_X1_become at hF
  refine lv_aload_n hx hb dX1_become_0 rfl (lv_at hl 0 rfl) ?_
  refine lv_iload_n hx hb dX1_become_1 rfl (lv_at hl 1 rfl) ?_
  refine va_put (D := D) (ci := 1) (v := .int p0) (ty := .int) (C := RX1) (T := TX1) (N := 2) hx hb hts iX1_become_X1 tyX1 tyX1_ok nmX1 hown hK hP hD hS 0 rfl rfl 0 (by decide) (hts _ kX1_become_1) (fun _ h9 => h9) rfl (by decide +kernel) rfl rfl (Nat.le_of_ble_eq_true rfl) dX1_become_2 (fun H locs hP hD hS => ?_)
  have hP : va_P D vwCl (w_box ky aH p0 hi) H := hP
  have hD : va_D A (w_box ky aH p0 hi) := hD
  refine lv_aload_n hx hb dX1_become_5 rfl (lv_at hl 0 rfl) ?_
  refine lv_iload_n hx hb dX1_become_6 rfl (lv_at hl 2 rfl) ?_
  refine va_put (D := D) (ci := 1) (v := .int p1) (ty := .int) (C := RX1) (T := TX1) (N := 2) hx hb hts iX1_become_X1 tyX1 tyX1_ok nmX1 hown hK hP hD hS 0 rfl rfl 1 (by decide) (hts _ kX1_become_2) (fun _ h9 => h9) rfl (by decide +kernel) rfl rfl (Nat.le_of_ble_eq_true rfl) dX1_become_7 (fun H locs hP hD hS => ?_)
  have hP : va_P D vwCl (w_box ky aH p0 p1) H := hP
  have hD : va_D A (w_box ky aH p0 p1) := hD
  have hF := Option.some.inj hF
  subst hF
  exact hQ _ _ _ _ dX1_become_10 hP hD hS
theorem c_X1_become (l : Launch) (D : va_G) (ky : Nat → ClassId) (aH : Nat) (sz N : Nat)  (lo : Int32) (hi : Int32) (p0 : Int32) (p1 : Int32) (lo' : Int32) (hi' : Int32) (hF : f_X1_become N p0 p1 = some (lo', hi')) : MV l yX1_become wsX1_become rm_X1_become D ky sz [.ref aH, .int p0, .int p1] (w_box ky aH lo hi) (w_box ky aH lo' hi') :=
  cr_X1_become l D ky aH sz N lo hi p0 p1 (lo', hi') hF
abbrev rm_X1_least : Room := { frames := 0, cells := 0, slots := 0, locals := 0 }
theorem iX1_least_X1 : ∀ w ∈ wsX10, w ∈ wsX1_least := by decide +kernel
theorem kX1_least_1 : (Cond.fieldLink RX1 9 "TwoLaws$Box" "low" "I") ∈ wsX1_least := by decide +kernel
set_option maxHeartbeats 4000000 in
set_option maxRecDepth 100000 in
theorem cr_X1_least (l : Launch) (D : va_G) (ky : Nat → ClassId) (aH : Nat) (sz N : Nat)  (lo : Int32) (hi : Int32)  (res : Int32) (hF : f_X1_least N lo = some res) : MI l yX1_least wsX1_least rm_X1_least D ky sz [.ref aH] (w_box ky aH lo hi) (w_box ky aH lo hi) res := by
  unfold MI
  refine Met.ofW (cc := cX1_least) (maxL := 1) (ret := (some .int)) (by decide) rfl ?_
  intro p e s m args below meth c s₁ B hml hv
  obtain ⟨rfl, hsz, hP, hK, hD0⟩ := hv
  have hx := B.exec
  have hb := B.bytes
  have hr := B.returns
  have hts := atoms_spec (ws := wsX1_least) B.pre
  have hown : s.vm.findClass RX1 = some m.cls := findClass_of_methodNamed B.named
  have hlocks := B.notSynchronized
  subst hsz
  have hD := hD0.self (sz := s.heap.size)
  generalize hAe : va_A (w_box ky aH lo hi) s.heap.size = A at hD ⊢
  have hA : ∀ q : Nat, s.heap.size ≤ q → A q := fun q h => by rw [← hAe]; exact Or.inr h
  have hS : va_S A s.heap s.heap [] := va_S.rf
  have hP : va_P D vwCl (w_box ky aH lo hi) s.heap := hP
  have hl := lv_entry ([.ref aH]) (n := 1) (Nat.le_of_ble_eq_true rfl)
  rw [lg_entry_eq]
  generalize (lg_sl ([.ref aH]) ++ List.replicate (1 - (lg_sl ([.ref aH])).length) Slot.unset).toArray = ls at hl ⊢
  have hl : lv_has ls 1 [(0, .ref aH)] := hl
  have C : cx p s m c ([.ref aH]).toArray D ky A cX1_least 1 wsX1_least RX1 := ⟨hx, hb, hml, hown, hts, hK, hA⟩
  have hQ : ∀ (pc : Nat) (H : Heap) (locs : List Loc) (ls : Array Slot), decode cX1_least pc = .ok (.ireturn, 1) → va_P D vwCl (w_box ky aH lo hi) H → va_D A (w_box ky aH lo hi) → va_S A s.heap H locs → W p l e rm_X1_least s m ([.ref aH]).toArray below meth c H locs 0 0 (MQ below (va_Qi (S := Unit) (fun r _ => r = res) (fun _ t => va_P D vwCl (w_box ky aH lo hi) t.heap ∧ va_K D vwCl (tyW ky) t ∧ va_D A (w_box ky aH lo hi)) A) ([.ref aH]).toArray s 0 0 A) (F0 m pc ls [.int res]) := fun pc H locs ls hd hP hD hS => W.iret hx hb hr (fun t ht hW => ⟨⟨res, (), rfl, rfl, by rw [ht]; exact hP, va_K.moved hW.alike hK, hD⟩, hS.F ht⟩) hS.2.2 hd
  unfold f_X1_least at hF
  refine lv_aload_n hx hb dX1_least_0 rfl (lv_at hl 0 rfl) ?_
  refine va_get (D := D) (ci := 1) (v := .int lo) (C := RX1) (T := TX1) (N := 2) hx hb hts iX1_least_X1 hown hK hP 0 rfl rfl 0 (by decide) (hts _ kX1_least_1) (fun _ h9 => h9) rfl dX1_least_1 ?_
  have hF := Option.some.inj hF
  subst hF
  exact hQ _ _ _ _ dX1_least_4 hP hD hS
theorem c_X1_least (l : Launch) (D : va_G) (ky : Nat → ClassId) (aH : Nat) (sz N : Nat)  (lo : Int32) (hi : Int32)  (rv : Int32) (hF : f_X1_least N lo = some (rv)) : MI l yX1_least wsX1_least rm_X1_least D ky sz [.ref aH] (w_box ky aH lo hi) (w_box ky aH lo hi) rv :=
  cr_X1_least l D ky aH sz N lo hi (rv) hF
abbrev rm_X1_greatest : Room := { frames := 0, cells := 0, slots := 0, locals := 0 }
theorem iX1_greatest_X1 : ∀ w ∈ wsX10, w ∈ wsX1_greatest := by decide +kernel
theorem kX1_greatest_1 : (Cond.fieldLink RX1 15 "TwoLaws$Box" "high" "I") ∈ wsX1_greatest := by decide +kernel
set_option maxHeartbeats 4000000 in
set_option maxRecDepth 100000 in
theorem cr_X1_greatest (l : Launch) (D : va_G) (ky : Nat → ClassId) (aH : Nat) (sz N : Nat)  (lo : Int32) (hi : Int32)  (res : Int32) (hF : f_X1_greatest N hi = some res) : MI l yX1_greatest wsX1_greatest rm_X1_greatest D ky sz [.ref aH] (w_box ky aH lo hi) (w_box ky aH lo hi) res := by
  unfold MI
  refine Met.ofW (cc := cX1_greatest) (maxL := 1) (ret := (some .int)) (by decide) rfl ?_
  intro p e s m args below meth c s₁ B hml hv
  obtain ⟨rfl, hsz, hP, hK, hD0⟩ := hv
  have hx := B.exec
  have hb := B.bytes
  have hr := B.returns
  have hts := atoms_spec (ws := wsX1_greatest) B.pre
  have hown : s.vm.findClass RX1 = some m.cls := findClass_of_methodNamed B.named
  have hlocks := B.notSynchronized
  subst hsz
  have hD := hD0.self (sz := s.heap.size)
  generalize hAe : va_A (w_box ky aH lo hi) s.heap.size = A at hD ⊢
  have hA : ∀ q : Nat, s.heap.size ≤ q → A q := fun q h => by rw [← hAe]; exact Or.inr h
  have hS : va_S A s.heap s.heap [] := va_S.rf
  have hP : va_P D vwCl (w_box ky aH lo hi) s.heap := hP
  have hl := lv_entry ([.ref aH]) (n := 1) (Nat.le_of_ble_eq_true rfl)
  rw [lg_entry_eq]
  generalize (lg_sl ([.ref aH]) ++ List.replicate (1 - (lg_sl ([.ref aH])).length) Slot.unset).toArray = ls at hl ⊢
  have hl : lv_has ls 1 [(0, .ref aH)] := hl
  have C : cx p s m c ([.ref aH]).toArray D ky A cX1_greatest 1 wsX1_greatest RX1 := ⟨hx, hb, hml, hown, hts, hK, hA⟩
  have hQ : ∀ (pc : Nat) (H : Heap) (locs : List Loc) (ls : Array Slot), decode cX1_greatest pc = .ok (.ireturn, 1) → va_P D vwCl (w_box ky aH lo hi) H → va_D A (w_box ky aH lo hi) → va_S A s.heap H locs → W p l e rm_X1_greatest s m ([.ref aH]).toArray below meth c H locs 0 0 (MQ below (va_Qi (S := Unit) (fun r _ => r = res) (fun _ t => va_P D vwCl (w_box ky aH lo hi) t.heap ∧ va_K D vwCl (tyW ky) t ∧ va_D A (w_box ky aH lo hi)) A) ([.ref aH]).toArray s 0 0 A) (F0 m pc ls [.int res]) := fun pc H locs ls hd hP hD hS => W.iret hx hb hr (fun t ht hW => ⟨⟨res, (), rfl, rfl, by rw [ht]; exact hP, va_K.moved hW.alike hK, hD⟩, hS.F ht⟩) hS.2.2 hd
  unfold f_X1_greatest at hF
  refine lv_aload_n hx hb dX1_greatest_0 rfl (lv_at hl 0 rfl) ?_
  refine va_get (D := D) (ci := 1) (v := .int hi) (C := RX1) (T := TX1) (N := 2) hx hb hts iX1_greatest_X1 hown hK hP 0 rfl rfl 1 (by decide) (hts _ kX1_greatest_1) (fun _ h9 => h9) rfl dX1_greatest_1 ?_
  have hF := Option.some.inj hF
  subst hF
  exact hQ _ _ _ _ dX1_greatest_4 hP hD hS
theorem c_X1_greatest (l : Launch) (D : va_G) (ky : Nat → ClassId) (aH : Nat) (sz N : Nat)  (lo : Int32) (hi : Int32)  (rv : Int32) (hF : f_X1_greatest N hi = some (rv)) : MI l yX1_greatest wsX1_greatest rm_X1_greatest D ky sz [.ref aH] (w_box ky aH lo hi) (w_box ky aH lo hi) rv :=
  cr_X1_greatest l D ky aH sz N lo hi (rv) hF
abbrev rm_X1_within : Room := { frames := 1, cells := 0, slots := 0, locals := 21 }
theorem kX1_within_0 : (Cond.methodLink RX1 34 Lib.Math.min.name) ∈ wsX1_within := by decide +kernel
theorem kX1_within_1 : (Cond.static Lib.Math.min.name) ∈ wsX1_within := by decide +kernel
theorem kX1_within_2 : (Cond.initialized "java/lang/Math") ∈ wsX1_within := by decide +kernel
theorem kX1_within_3 : (Cond.code Lib.Math.min.name Lib.Math.min.code 2 (some .int)) ∈ wsX1_within := by decide +kernel
theorem kX1_within_4 : (Cond.methodLink RX1 40 Lib.Math.max.name) ∈ wsX1_within := by decide +kernel
theorem kX1_within_5 : (Cond.static Lib.Math.max.name) ∈ wsX1_within := by decide +kernel
theorem kX1_within_6 : (Cond.code Lib.Math.max.name Lib.Math.max.code 2 (some .int)) ∈ wsX1_within := by decide +kernel
set_option maxHeartbeats 4000000 in
set_option maxRecDepth 100000 in
theorem cr_X1_within (l : Launch) (D : va_G) (ky : Nat → ClassId)  (sz N : Nat)   (p0 : Int32) (res : Int32) (hF : f_X1_within N p0 = some res) : MI l yX1_within wsX1_within rm_X1_within D ky sz [.int p0] [] [] res := by
  unfold MI
  refine Met.ofW (cc := cX1_within) (maxL := 1) (ret := (some .int)) (by decide) rfl ?_
  intro p e s m args below meth c s₁ B hml hv
  obtain ⟨rfl, hsz, hP, hK, hD0⟩ := hv
  have hx := B.exec
  have hb := B.bytes
  have hr := B.returns
  have hts := atoms_spec (ws := wsX1_within) B.pre
  have hown : s.vm.findClass RX1 = some m.cls := findClass_of_methodNamed B.named
  have hlocks := B.notSynchronized
  subst hsz
  have hD := hD0.self (sz := s.heap.size)
  generalize hAe : va_A [] s.heap.size = A at hD ⊢
  have hA : ∀ q : Nat, s.heap.size ≤ q → A q := fun q h => by rw [← hAe]; exact Or.inr h
  have hS : va_S A s.heap s.heap [] := va_S.rf
  have hP : va_P D vwCl [] s.heap := hP
  have hl := lv_entry ([.int p0]) (n := 1) (Nat.le_of_ble_eq_true rfl)
  rw [lg_entry_eq]
  generalize (lg_sl ([.int p0]) ++ List.replicate (1 - (lg_sl ([.int p0])).length) Slot.unset).toArray = ls at hl ⊢
  have hl : lv_has ls 1 [(0, .int p0)] := hl
  have C : cx p s m c ([.int p0]).toArray D ky A cX1_within 1 wsX1_within RX1 := ⟨hx, hb, hml, hown, hts, hK, hA⟩
  have hQ : ∀ (pc : Nat) (H : Heap) (locs : List Loc) (ls : Array Slot), decode cX1_within pc = .ok (.ireturn, 1) → va_P D vwCl [] H → va_D A [] → va_S A s.heap H locs → W p l e rm_X1_within s m ([.int p0]).toArray below meth c H locs 0 0 (MQ below (va_Qi (S := Unit) (fun r _ => r = res) (fun _ t => va_P D vwCl [] t.heap ∧ va_K D vwCl (tyW ky) t ∧ va_D A []) A) ([.int p0]).toArray s 0 0 A) (F0 m pc ls [.int res]) := fun pc H locs ls hd hP hD hS => W.iret hx hb hr (fun t ht hW => ⟨⟨res, (), rfl, rfl, by rw [ht]; exact hP, va_K.moved hW.alike hK, hD⟩, hS.F ht⟩) hS.2.2 hd
  unfold f_X1_within at hF
  refine lv_sipush (v := (-9999 : Int32)) hx hb dX1_within_0 (by decide) ?_
  refine lv_sipush (v := (9999 : Int32)) hx hb dX1_within_3 (by decide) ?_
  refine lv_iload_n hx hb dX1_within_6 rfl (lv_at hl 0 rfl) ?_
  refine va_mmin hx hb (hml.trans hl.1.symm) hown (hts _ kX1_within_0) (hts _ kX1_within_1) (hts _ kX1_within_2) (hts _ kX1_within_3) (Nat.le_of_ble_eq_true rfl) (Nat.le_of_ble_eq_true rfl) (Nat.zero_le _) (Nat.zero_le _) dX1_within_7 ?_
  refine va_mmax hx hb (hml.trans hl.1.symm) hown (hts _ kX1_within_4) (hts _ kX1_within_5) (hts _ kX1_within_2) (hts _ kX1_within_6) (Nat.le_of_ble_eq_true rfl) (Nat.le_of_ble_eq_true rfl) (Nat.zero_le _) (Nat.zero_le _) dX1_within_10 ?_
  have hF := Option.some.inj hF
  subst hF
  exact hQ _ _ _ _ dX1_within_13 hP hD hS
theorem c_X1_within (l : Launch) (D : va_G) (ky : Nat → ClassId)  (sz N : Nat)   (p0 : Int32) (rv : Int32) (hF : f_X1_within N p0 = some (rv)) : MI l yX1_within wsX1_within rm_X1_within D ky sz [.int p0] [] [] rv :=
  cr_X1_within l D ky  sz N p0 (rv) hF
abbrev rm_X1_move : Room := { frames := 2, cells := 0, slots := 0, locals := 42 }
theorem iX1_move_X1 : ∀ w ∈ wsX10, w ∈ wsX1_move := by decide +kernel
theorem kX1_move_1 : (Cond.fieldLink RX1 9 "TwoLaws$Box" "low" "I") ∈ wsX1_move := by decide +kernel
theorem kX1_move_2 : (Cond.fieldLink RX1 15 "TwoLaws$Box" "high" "I") ∈ wsX1_move := by decide +kernel
theorem kX1_move_3 : (Cond.methodLink RX1 34 Lib.Math.min.name) ∈ wsX1_move := by decide +kernel
theorem kX1_move_4 : (Cond.static Lib.Math.min.name) ∈ wsX1_move := by decide +kernel
theorem kX1_move_5 : (Cond.initialized "java/lang/Math") ∈ wsX1_move := by decide +kernel
theorem kX1_move_6 : (Cond.code Lib.Math.min.name Lib.Math.min.code 2 (some .int)) ∈ wsX1_move := by decide +kernel
theorem kX1_move_7 : (Cond.methodLink RX1 40 Lib.Math.max.name) ∈ wsX1_move := by decide +kernel
theorem kX1_move_8 : (Cond.static Lib.Math.max.name) ∈ wsX1_move := by decide +kernel
theorem kX1_move_9 : (Cond.code Lib.Math.max.name Lib.Math.max.code 2 (some .int)) ∈ wsX1_move := by decide +kernel
set_option maxHeartbeats 4000000 in
set_option maxRecDepth 100000 in
theorem w_X1_move_30 {p : Program} {l : Launch} {e : Env} {s : State} {m : MethodId} {args : Array Value} {below : List Frame} {meth : Method} {c : Code} {Q : State → Prop} {A : Nat → Prop} {D : va_G} {ky : Nat → ClassId} {aH aK ak : Nat} {ksz : Int32} {kmb : Int32} {kwa : Int32} {kra : Int32} {kla : Nat → Int32} (N : Nat) (C : cx p s m c args D ky A cX1_move 9 wsX1_move RX1) (res : Int32 × Int32) (hQ : ∀ (pc : Nat) (H : Heap) (locs : List Loc) (ls : Array Slot), decode cX1_move pc = .ok (.return_, 1) → va_P D vwCl (w_boxknown ky aH aK ak res.1 res.2 ksz kmb kwa kra kla) H → va_D A (w_boxknown ky aH aK ak res.1 res.2 ksz kmb kwa kra kla) → va_S A s.heap H locs → W p l e rm_X1_move s m args below meth c H locs 0 0 Q (F0 m pc ls [])) (l2 : Int32) (l3 : Int32) : ∀ (n : Nat) (l4 : Int32) (l5 : Int32) (l6 : Int32) (lo : Int32) (hi : Int32), f_X1_move_30 N l2 l3 ksz kla n l4 l5 l6 lo hi = some res → ∀ (H : Heap) (locs : List Loc) (ls : Array Slot), va_P D vwCl (w_boxknown ky aH aK ak lo hi ksz kmb kwa kra kla) H → va_D A (w_boxknown ky aH aK ak lo hi ksz kmb kwa kra kla) → va_S A s.heap H locs → lv_has ls 9 [(0, .ref aH), (1, .ref aK), (2, .int l2), (3, .int l3), (4, .int l4), (5, .int l5), (6, .int l6)] → W p l e rm_X1_move s m args below meth c H locs 0 0 Q (F0 m 30 ls []) := by
  obtain ⟨hx, hb, hml, hown, hts, hK, hA⟩ := id C
  intro n
  induction n with
  | zero =>
    intro l4 l5 l6 lo hi hF
    cases hF
  | succ n ih =>
    intro l4 l5 l6 lo hi hF H locs ls hP hD hS hl
    have hF : b_X1_move_30 N l2 l3 ksz kla (f_X1_move_30 N l2 l3 ksz kla n) l4 l5 l6 lo hi = some res := hF
    unfold b_X1_move_30 at hF
    refine lv_iload hx hb dX1_move_30 (lv_at hl 6 rfl) ?_
    refine lv_aload_n hx hb dX1_move_32 rfl (lv_at hl 1 rfl) ?_
    obtain ⟨r9, h8, hF⟩ := b1_s hF
    refine cl_vi (As := []) (rest := [.int l6]) (w' := (w_boxknown ky aH aK ak lo hi ksz kmb kwa kra kla)) ⟨hx, hb, hml, hown, hts⟩ hK hP hD hS hA (c_X2_size l D ky aK ak _ N  ksz kmb kwa kra kla  r9 h8) (cwV 0 hts gX1_move_X2_size rfl rfl rfl (by decide +kernel) ⟨Nat.le_of_ble_eq_true rfl, Nat.le_of_ble_eq_true rfl⟩) [1, 2] [0] [0, 1, 2] 0 2 rfl rfl rfl rfl (wr := [(aH, .inr (1, [.int lo, .int hi]))]) rfl (by decide) rfl rfl hl.1 (Nat.le_of_ble_eq_true rfl) dX1_move_33 ⟨Nat.zero_le _, Nat.zero_le _⟩ (fun H locs hP hD hS => ?_)
    refine lv_icmp_ge (tgt := 105) hx hb dX1_move_36 (by decide) (fun c10 => ?_) (fun c10 => ?_)
    · have hF := if_t c10 hF
      refine lv_aload_n hx hb dX1_move_105 rfl (lv_at hl 0 rfl) ?_
      refine lv_iload hx hb dX1_move_106 (lv_at hl 4 rfl) ?_
      refine lv_iconst (v := (4 : Int32)) hx hb dX1_move_108 (by decide) ?_
      obtain ⟨r12, h11, hF⟩ := b1_s hF
      refine cl_si (As := [.int l4, .int (4 : Int32)]) (rest := [.ref aH]) ⟨hx, hb, hml, hown, hts⟩ hK hP hD hS hA (c_J9_floorDiv_7cf53 l D ky  _ N   l4 (4 : Int32) r12 h11) (va_cwS 2 hts gX1_move_J9_floorDiv_7cf53 rfl rfl rfl (by decide +kernel) ⟨Nat.le_of_ble_eq_true rfl, Nat.le_of_ble_eq_true rfl⟩) rfl hl.1 (Nat.le_of_ble_eq_true rfl) dX1_move_109 ⟨Nat.zero_le _, Nat.zero_le _⟩ (fun H locs hP hD hS => ?_)
      refine lv_iload_n hx hb dX1_move_112 rfl (lv_at hl 3 rfl) ?_
      refine lv_isub hx hb dX1_move_113 ?_
      obtain ⟨r14, h13, hF⟩ := b1_s hF
      refine cl_si (As := [.int (r12 - l3)]) (rest := [.ref aH]) ⟨hx, hb, hml, hown, hts⟩ hK hP hD hS hA (c_X1_within l D ky  _ N   (r12 - l3) r14 h13) (va_cwS 1 hts gX1_move_X1_within rfl rfl rfl (by decide +kernel) ⟨Nat.le_of_ble_eq_true rfl, Nat.le_of_ble_eq_true rfl⟩) rfl hl.1 (Nat.le_of_ble_eq_true rfl) dX1_move_114 ⟨Nat.zero_le _, Nat.zero_le _⟩ (fun H locs hP hD hS => ?_)
      refine va_put (D := D) (ci := 1) (v := .int r14) (ty := .int) (C := RX1) (T := TX1) (N := 2) hx hb hts iX1_move_X1 tyX1 tyX1_ok nmX1 hown hK hP hD hS 0 rfl rfl 0 (by decide) (hts _ kX1_move_1) (fun _ h9 => h9) rfl (by decide +kernel) rfl rfl (Nat.le_of_ble_eq_true rfl) dX1_move_117 (fun H locs hP hD hS => ?_)
      have hP : va_P D vwCl (w_boxknown ky aH aK ak r14 hi ksz kmb kwa kra kla) H := hP
      have hD : va_D A (w_boxknown ky aH aK ak r14 hi ksz kmb kwa kra kla) := hD
      refine lv_aload_n hx hb dX1_move_120 rfl (lv_at hl 0 rfl) ?_
      refine lv_iload_n hx hb dX1_move_121 rfl (lv_at hl 3 rfl) ?_
      refine lv_iload hx hb dX1_move_122 (lv_at hl 5 rfl) ?_
      refine lv_ineg hx hb dX1_move_124 ?_
      refine lv_iconst (v := (4 : Int32)) hx hb dX1_move_125 (by decide) ?_
      obtain ⟨r16, h15, hF⟩ := b1_s hF
      refine cl_si (As := [.int (-l5), .int (4 : Int32)]) (rest := [.int l3, .ref aH]) ⟨hx, hb, hml, hown, hts⟩ hK hP hD hS hA (c_J9_floorDiv_7cf53 l D ky  _ N   (-l5) (4 : Int32) r16 h15) (va_cwS 2 hts gX1_move_J9_floorDiv_7cf53 rfl rfl rfl (by decide +kernel) ⟨Nat.le_of_ble_eq_true rfl, Nat.le_of_ble_eq_true rfl⟩) rfl hl.1 (Nat.le_of_ble_eq_true rfl) dX1_move_126 ⟨Nat.zero_le _, Nat.zero_le _⟩ (fun H locs hP hD hS => ?_)
      refine lv_isub hx hb dX1_move_129 ?_
      obtain ⟨r18, h17, hF⟩ := b1_s hF
      refine cl_si (As := [.int (l3 - r16)]) (rest := [.ref aH]) ⟨hx, hb, hml, hown, hts⟩ hK hP hD hS hA (c_X1_within l D ky  _ N   (l3 - r16) r18 h17) (va_cwS 1 hts gX1_move_X1_within rfl rfl rfl (by decide +kernel) ⟨Nat.le_of_ble_eq_true rfl, Nat.le_of_ble_eq_true rfl⟩) rfl hl.1 (Nat.le_of_ble_eq_true rfl) dX1_move_130 ⟨Nat.zero_le _, Nat.zero_le _⟩ (fun H locs hP hD hS => ?_)
      refine va_put (D := D) (ci := 1) (v := .int r18) (ty := .int) (C := RX1) (T := TX1) (N := 2) hx hb hts iX1_move_X1 tyX1 tyX1_ok nmX1 hown hK hP hD hS 0 rfl rfl 1 (by decide) (hts _ kX1_move_2) (fun _ h9 => h9) rfl (by decide +kernel) rfl rfl (Nat.le_of_ble_eq_true rfl) dX1_move_133 (fun H locs hP hD hS => ?_)
      have hP : va_P D vwCl (w_boxknown ky aH aK ak r14 r18 ksz kmb kwa kra kla) H := hP
      have hD : va_D A (w_boxknown ky aH aK ak r14 r18 ksz kmb kwa kra kla) := hD
      have hF := Option.some.inj hF
      subst hF
      exact hQ _ H _ _ dX1_move_136 hP hD hS
    · have hF := if_f c10 hF
      refine lv_aload_n hx hb dX1_move_39 rfl (lv_at hl 1 rfl) ?_
      refine lv_iload hx hb dX1_move_40 (lv_at hl 6 rfl) ?_
      obtain ⟨r20, h19, hF⟩ := b1_s hF
      refine cl_vi (As := [.int l6]) (rest := []) (w' := (w_boxknown ky aH aK ak lo hi ksz kmb kwa kra kla)) ⟨hx, hb, hml, hown, hts⟩ hK hP hD hS hA (c_X2_lawAt l D ky aK ak _ N  ksz kmb kwa kra kla l6 r20 h19) (cwV 1 hts gX1_move_X2_lawAt rfl rfl rfl (by decide +kernel) ⟨Nat.le_of_ble_eq_true rfl, Nat.le_of_ble_eq_true rfl⟩) [1, 2] [0] [0, 1, 2] 0 2 rfl rfl rfl rfl (wr := [(aH, .inr (1, [.int lo, .int hi]))]) rfl (by decide) rfl rfl hl.1 (Nat.le_of_ble_eq_true rfl) dX1_move_42 ⟨Nat.zero_le _, Nat.zero_le _⟩ (fun H locs hP hD hS => ?_)
      refine lv_aload_n hx hb dX1_move_45 rfl (lv_at hl 0 rfl) ?_
      refine va_get (D := D) (ci := 1) (v := .int lo) (C := RX1) (T := TX1) (N := 2) hx hb hts iX1_move_X1 hown hK hP 0 rfl rfl 0 (by decide) (hts _ kX1_move_1) (fun _ h9 => h9) rfl dX1_move_46 ?_
      refine lv_iload_n hx hb dX1_move_49 rfl (lv_at hl 2 rfl) ?_
      obtain ⟨r22, h21, hF⟩ := b1_s hF
      refine cl_si (As := [.int r20, .int lo, .int l2]) (rest := []) ⟨hx, hb, hml, hown, hts⟩ hK hP hD hS hA (c_X3_sum l D ky  _ N   r20 lo l2 r22 h21) (va_cwS 3 hts gX1_move_X3_sum rfl rfl rfl (by decide +kernel) ⟨Nat.le_of_ble_eq_true rfl, Nat.le_of_ble_eq_true rfl⟩) rfl hl.1 (Nat.le_of_ble_eq_true rfl) dX1_move_50 ⟨Nat.zero_le _, Nat.zero_le _⟩ (fun H locs hP hD hS => ?_)
      refine lv_istore (lv' := [(7, .int r22), (0, .ref aH), (1, .ref aK), (2, .int l2), (3, .int l3), (4, .int l4), (5, .int l5), (6, .int l6)]) hx hb dX1_move_53 hl (by decide) rfl (fun ls hl => ?_)
      refine lv_aload_n hx hb dX1_move_55 rfl (lv_at hl 2 rfl) ?_
      refine lv_iload hx hb dX1_move_56 (lv_at hl 7 rfl) ?_
      obtain ⟨r24, h23, hF⟩ := b1_s hF
      refine cl_vi (As := [.int l6]) (rest := []) (w' := (w_boxknown ky aH aK ak lo hi ksz kmb kwa kra kla)) ⟨hx, hb, hml, hown, hts⟩ hK hP hD hS hA (c_X2_lawAt l D ky aK ak _ N  ksz kmb kwa kra kla l6 r24 h23) (cwV 1 hts gX1_move_X2_lawAt rfl rfl rfl (by decide +kernel) ⟨Nat.le_of_ble_eq_true rfl, Nat.le_of_ble_eq_true rfl⟩) [1, 2] [0] [0, 1, 2] 0 2 rfl rfl rfl rfl (wr := [(aH, .inr (1, [.int lo, .int hi]))]) rfl (by decide) rfl rfl hl.1 (Nat.le_of_ble_eq_true rfl) dX1_move_58 ⟨Nat.zero_le _, Nat.zero_le _⟩ (fun H locs hP hD hS => ?_)
      refine lv_aload_n hx hb dX1_move_61 rfl (lv_at hl 1 rfl) ?_
      refine va_get (D := D) (ci := 1) (v := .int hi) (C := RX1) (T := TX1) (N := 2) hx hb hts iX1_move_X1 hown hK hP 0 rfl rfl 1 (by decide) (hts _ kX1_move_2) (fun _ h9 => h9) rfl dX1_move_62 ?_
      refine lv_iload_n hx hb dX1_move_65 rfl (lv_at hl 3 rfl) ?_
      obtain ⟨r26, h25, hF⟩ := b1_s hF
      refine cl_si (As := [.int r24, .int hi, .int l2]) (rest := []) ⟨hx, hb, hml, hown, hts⟩ hK hP hD hS hA (c_X3_sum l D ky  _ N   r24 hi l2 r26 h25) (va_cwS 3 hts gX1_move_X3_sum rfl rfl rfl (by decide +kernel) ⟨Nat.le_of_ble_eq_true rfl, Nat.le_of_ble_eq_true rfl⟩) rfl hl.1 (Nat.le_of_ble_eq_true rfl) dX1_move_66 ⟨Nat.zero_le _, Nat.zero_le _⟩ (fun H locs hP hD hS => ?_)
      refine lv_istore (lv' := [(8, .int r26), (7, .int r22), (0, .ref aH), (1, .ref aK), (2, .int l2), (3, .int l3), (4, .int l4), (5, .int l5), (6, .int l6)]) hx hb dX1_move_69 hl (by decide) rfl (fun ls hl => ?_)
      refine lv_iload hx hb dX1_move_71 (lv_at hl 6 rfl) ?_
      refine lv_iload hx hb dX1_move_73 (lv_at hl 1 rfl) ?_
      refine lv_iload hx hb dX1_move_75 (lv_at hl 0 rfl) ?_
      refine va_mmin hx hb (hml.trans hl.1.symm) hown (hts _ kX1_move_3) (hts _ kX1_move_4) (hts _ kX1_move_5) (hts _ kX1_move_6) (Nat.le_of_ble_eq_true rfl) (Nat.le_of_ble_eq_true rfl) (Nat.zero_le _) (Nat.zero_le _) dX1_move_77 ?_
      refine va_mmin hx hb (hml.trans hl.1.symm) hown (hts _ kX1_move_3) (hts _ kX1_move_4) (hts _ kX1_move_5) (hts _ kX1_move_6) (Nat.le_of_ble_eq_true rfl) (Nat.le_of_ble_eq_true rfl) (Nat.zero_le _) (Nat.zero_le _) dX1_move_80 ?_
      refine lv_topi (fun v27 e_v27 => ?_)
      have hF := nm_s e_v27 hF
      refine lv_istore (lv' := [(4, .int v27), (8, .int r26), (7, .int r22), (0, .ref aH), (1, .ref aK), (2, .int l2), (3, .int l3), (5, .int l5), (6, .int l6)]) hx hb dX1_move_83 hl (by decide) rfl (fun ls hl => ?_)
      refine lv_iload hx hb dX1_move_85 (lv_at hl 7 rfl) ?_
      refine lv_iload hx hb dX1_move_87 (lv_at hl 2 rfl) ?_
      refine lv_iload hx hb dX1_move_89 (lv_at hl 1 rfl) ?_
      refine va_mmax hx hb (hml.trans hl.1.symm) hown (hts _ kX1_move_7) (hts _ kX1_move_8) (hts _ kX1_move_5) (hts _ kX1_move_9) (Nat.le_of_ble_eq_true rfl) (Nat.le_of_ble_eq_true rfl) (Nat.zero_le _) (Nat.zero_le _) dX1_move_91 ?_
      refine va_mmax hx hb (hml.trans hl.1.symm) hown (hts _ kX1_move_7) (hts _ kX1_move_8) (hts _ kX1_move_5) (hts _ kX1_move_9) (Nat.le_of_ble_eq_true rfl) (Nat.le_of_ble_eq_true rfl) (Nat.zero_le _) (Nat.zero_le _) dX1_move_94 ?_
      refine lv_topi (fun v28 e_v28 => ?_)
      have hF := nm_s e_v28 hF
      refine lv_istore (lv' := [(5, .int v28), (4, .int v27), (8, .int r26), (7, .int r22), (0, .ref aH), (1, .ref aK), (2, .int l2), (3, .int l3), (6, .int l6)]) hx hb dX1_move_97 hl (by decide) rfl (fun ls hl => ?_)
      refine lv_iinc (v := (l6 + (1 : Int32))) (lv' := [(6, .int (l6 + (1 : Int32))), (5, .int v28), (4, .int v27), (8, .int r26), (7, .int r22), (0, .ref aH), (1, .ref aK), (2, .int l2), (3, .int l3)]) hx hb dX1_move_99 hl (k := 8) rfl rfl (by decide) rfl (fun ls hl => ?_)
      refine lv_goto (tgt := 30) hx hb dX1_move_102 (by decide) ?_
      exact ih v27 v28 (l6 + (1 : Int32)) lo hi hF H _ _ hP hD hS (lv_sub hl [5, 6, 7, 8, 2, 1, 0] rfl)
set_option maxHeartbeats 4000000 in
set_option maxRecDepth 100000 in
theorem cr_X1_move (l : Launch) (D : va_G) (ky : Nat → ClassId) (aH aK ak : Nat) (sz N : Nat)  (lo : Int32) (hi : Int32) (ksz : Int32) (kmb : Int32) (kwa : Int32) (kra : Int32) (kla : Nat → Int32) (p1 : Int32) (p2 : Int32) (res : Int32 × Int32) (hF : f_X1_move N p1 p2 lo hi ksz kla = some res) : MV l yX1_move wsX1_move rm_X1_move D ky sz [.ref aH, .ref aK, .int p1, .int p2] (w_boxknown ky aH aK ak lo hi ksz kmb kwa kra kla) (w_boxknown ky aH aK ak res.1 res.2 ksz kmb kwa kra kla) := by
  unfold MV
  refine Met.ofW (cc := cX1_move) (maxL := 9) (ret := none) (by decide) rfl ?_
  intro p e s m args below meth c s₁ B hml hv
  obtain ⟨rfl, hsz, hP, hK, hD0⟩ := hv
  have hx := B.exec
  have hb := B.bytes
  have hr := B.returns
  have hts := atoms_spec (ws := wsX1_move) B.pre
  have hown : s.vm.findClass RX1 = some m.cls := findClass_of_methodNamed B.named
  have hlocks := B.notSynchronized
  subst hsz
  have hD := hD0.self (sz := s.heap.size)
  generalize hAe : va_A (w_boxknown ky aH aK ak lo hi ksz kmb kwa kra kla) s.heap.size = A at hD ⊢
  have hA : ∀ q : Nat, s.heap.size ≤ q → A q := fun q h => by rw [← hAe]; exact Or.inr h
  have hS : va_S A s.heap s.heap [] := va_S.rf
  have hP : va_P D vwCl (w_boxknown ky aH aK ak lo hi ksz kmb kwa kra kla) s.heap := hP
  have hl := lv_entry ([.ref aH, .ref aK, .int p1, .int p2]) (n := 9) (Nat.le_of_ble_eq_true rfl)
  rw [lg_entry_eq]
  generalize (lg_sl ([.ref aH, .ref aK, .int p1, .int p2]) ++ List.replicate (9 - (lg_sl ([.ref aH, .ref aK, .int p1, .int p2])).length) Slot.unset).toArray = ls at hl ⊢
  have hl : lv_has ls 9 [(0, .ref aH), (1, .ref aK), (2, .int p1), (3, .int p2)] := hl
  have C : cx p s m c ([.ref aH, .ref aK, .int p1, .int p2]).toArray D ky A cX1_move 9 wsX1_move RX1 := ⟨hx, hb, hml, hown, hts, hK, hA⟩
  have hQ : ∀ (pc : Nat) (H : Heap) (locs : List Loc) (ls : Array Slot), decode cX1_move pc = .ok (.return_, 1) → va_P D vwCl (w_boxknown ky aH aK ak res.1 res.2 ksz kmb kwa kra kla) H → va_D A (w_boxknown ky aH aK ak res.1 res.2 ksz kmb kwa kra kla) → va_S A s.heap H locs → W p l e rm_X1_move s m ([.ref aH, .ref aK, .int p1, .int p2]).toArray below meth c H locs 0 0 (MQ below (va_Qv (S := Unit) (fun _ => True) (fun _ t => va_P D vwCl (w_boxknown ky aH aK ak res.1 res.2 ksz kmb kwa kra kla) t.heap ∧ va_K D vwCl (tyW ky) t ∧ va_D A (w_boxknown ky aH aK ak res.1 res.2 ksz kmb kwa kra kla)) A) ([.ref aH, .ref aK, .int p1, .int p2]).toArray s 0 0 A) (F0 m pc ls []) := fun pc H locs ls hd hP hD hS => W.vret hx hb hr (fun t ht hW => ⟨⟨(), rfl, trivial, by rw [ht]; exact hP, va_K.moved hW.alike hK, hD⟩, hS.F ht⟩) hS.2.2 hd
  unfold f_X1_move at hF
  refine lv_aload_n hx hb dX1_move_0 rfl (lv_at hl 1 rfl) ?_
  obtain ⟨r2, h1, hF⟩ := b1_s hF
  refine cl_vi (As := []) (rest := []) (w' := (w_boxknown ky aH aK ak lo hi ksz kmb kwa kra kla)) ⟨hx, hb, hml, hown, hts⟩ hK hP hD hS hA (c_X2_size l D ky aK ak _ N  ksz kmb kwa kra kla  r2 h1) (cwV 0 hts gX1_move_X2_size rfl rfl rfl (by decide +kernel) ⟨Nat.le_of_ble_eq_true rfl, Nat.le_of_ble_eq_true rfl⟩) [1, 2] [0] [0, 1, 2] 0 2 rfl rfl rfl rfl (wr := [(aH, .inr (1, [.int lo, .int hi]))]) rfl (by decide) rfl rfl hl.1 (Nat.le_of_ble_eq_true rfl) dX1_move_1 ⟨Nat.zero_le _, Nat.zero_le _⟩ (fun H locs hP hD hS => ?_)
  refine lv_if_ne (tgt := 8) hx hb dX1_move_4 (by decide) (fun c3 => ?_) (fun c3 => ?_)
  · have hF := if_f c3 hF
    refine lv_aload_n hx hb dX1_move_8 rfl (lv_at hl 1 rfl) ?_
    refine lv_iconst (v := (0 : Int32)) hx hb dX1_move_9 (by decide) ?_
    obtain ⟨r5, h4, hF⟩ := b1_s hF
    refine cl_vi (As := [.int (0 : Int32)]) (rest := []) (w' := (w_boxknown ky aH aK ak lo hi ksz kmb kwa kra kla)) ⟨hx, hb, hml, hown, hts⟩ hK hP hD hS hA (c_X2_lawAt l D ky aK ak _ N  ksz kmb kwa kra kla (0 : Int32) r5 h4) (cwV 1 hts gX1_move_X2_lawAt rfl rfl rfl (by decide +kernel) ⟨Nat.le_of_ble_eq_true rfl, Nat.le_of_ble_eq_true rfl⟩) [1, 2] [0] [0, 1, 2] 0 2 rfl rfl rfl rfl (wr := [(aH, .inr (1, [.int lo, .int hi]))]) rfl (by decide) rfl rfl hl.1 (Nat.le_of_ble_eq_true rfl) dX1_move_10 ⟨Nat.zero_le _, Nat.zero_le _⟩ (fun H locs hP hD hS => ?_)
    refine lv_aload_n hx hb dX1_move_13 rfl (lv_at hl 0 rfl) ?_
    refine va_get (D := D) (ci := 1) (v := .int lo) (C := RX1) (T := TX1) (N := 2) hx hb hts iX1_move_X1 hown hK hP 0 rfl rfl 0 (by decide) (hts _ kX1_move_1) (fun _ h9 => h9) rfl dX1_move_14 ?_
    refine lv_iload_n hx hb dX1_move_17 rfl (lv_at hl 2 rfl) ?_
    obtain ⟨r7, h6, hF⟩ := b1_s hF
    refine cl_si (As := [.int r5, .int lo, .int p1]) (rest := []) ⟨hx, hb, hml, hown, hts⟩ hK hP hD hS hA (c_X3_sum l D ky  _ N   r5 lo p1 r7 h6) (va_cwS 3 hts gX1_move_X3_sum rfl rfl rfl (by decide +kernel) ⟨Nat.le_of_ble_eq_true rfl, Nat.le_of_ble_eq_true rfl⟩) rfl hl.1 (Nat.le_of_ble_eq_true rfl) dX1_move_18 ⟨Nat.zero_le _, Nat.zero_le _⟩ (fun H locs hP hD hS => ?_)
    refine lv_istore (lv' := [(4, .int r7), (0, .ref aH), (1, .ref aK), (2, .int p1), (3, .int p2)]) hx hb dX1_move_21 hl (by decide) rfl (fun ls hl => ?_)
    refine lv_iload hx hb dX1_move_23 (lv_at hl 0 rfl) ?_
    refine lv_istore (lv' := [(5, .int r7), (4, .int r7), (0, .ref aH), (1, .ref aK), (2, .int p1), (3, .int p2)]) hx hb dX1_move_25 hl (by decide) rfl (fun ls hl => ?_)
    refine lv_iconst (v := (0 : Int32)) hx hb dX1_move_27 (by decide) ?_
    refine lv_istore (lv' := [(6, .int (0 : Int32)), (5, .int r7), (4, .int r7), (0, .ref aH), (1, .ref aK), (2, .int p1), (3, .int p2)]) hx hb dX1_move_28 hl (by decide) rfl (fun ls hl => ?_)
    exact w_X1_move_30 N C res hQ p1 p2 N r7 r7 (0 : Int32) lo hi hF _ _ _ hP hD hS (lv_sub hl [3, 4, 5, 6, 2, 1, 0] rfl)
  · have hF := if_t c3 hF
    have hF := Option.some.inj hF
    subst hF
    exact hQ _ _ _ _ dX1_move_7 hP hD hS
theorem c_X1_move (l : Launch) (D : va_G) (ky : Nat → ClassId) (aH aK ak : Nat) (sz N : Nat)  (lo : Int32) (hi : Int32) (ksz : Int32) (kmb : Int32) (kwa : Int32) (kra : Int32) (kla : Nat → Int32) (p1 : Int32) (p2 : Int32) (lo' : Int32) (hi' : Int32) (hF : f_X1_move N p1 p2 lo hi ksz kla = some (lo', hi')) : MV l yX1_move wsX1_move rm_X1_move D ky sz [.ref aH, .ref aK, .int p1, .int p2] (w_boxknown ky aH aK ak lo hi ksz kmb kwa kra kla) (w_boxknown ky aH aK ak lo' hi' ksz kmb kwa kra kla) :=
  cr_X1_move l D ky aH aK ak sz N lo hi ksz kmb kwa kra kla p1 p2 (lo', hi') hF
