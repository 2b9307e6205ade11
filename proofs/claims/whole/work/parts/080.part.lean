def f_X4_forget (N : Nat)  : Option (Int32) :=
  some ((0 : Int32))
def f_X4_lawsFor (N : Nat) (p0 : Int32) (pla : Nat → Int32) : Option (Int32) :=
  (if p0 < 0 then some ((100 : Int32)) else (if (4096 : Int32) ≤ p0 then some ((100 : Int32)) else gi p0 4096 (some ((pla p0.toNatClampNeg)))))
def b_X4_isWithinGreatest_2 (N : Nat)  (l1 : Int32) (pgc : Int32) (pgr : Nat → Int32) (k2 : Int32 → Option (Int32)) (l2 : Int32) : Option (Int32) :=
  (if pgc ≤ l2 then some ((0 : Int32)) else (if (289 : Int32) ≤ l2 then some ((0 : Int32)) else gi l2 289 ((if (l1 &&& ((pgr l2.toNatClampNeg) ^^^ (-1 : Int32))) = 0 then some ((1 : Int32)) else k2 (l2 + (1 : Int32))))))
def f_X4_isWithinGreatest_2 (N : Nat)  (l1 : Int32) (pgc : Int32) (pgr : Nat → Int32) : Nat → Int32 → Option (Int32)
  | 0, _ => none
  | n + 1, l2 => b_X4_isWithinGreatest_2 N l1 pgc pgr (f_X4_isWithinGreatest_2 N l1 pgc pgr n) l2
def f_X4_isWithinGreatest (N : Nat) (p0 : Int32) (pgc : Int32) (pgr : Nat → Int32) : Option (Int32) :=
  f_X4_isWithinGreatest_2 N p0 pgc pgr N (0 : Int32)
def b_X4_dropWithin_4 (N : Nat)  (l1 : Int32) (k4 : Int32 → Int32 → Int32 → (Nat → Int32) → Option (Int32 × (Nat → Int32))) (l2 : Int32) (l3 : Int32) (pgc : Int32) (pgr : Nat → Int32) : Option (Int32 × (Nat → Int32)) :=
  (if pgc ≤ l3 then some (l2, pgr) else (if (289 : Int32) ≤ l3 then some (l2, pgr) else gi l3 289 ((if ((pgr l3.toNatClampNeg) &&& (l1 ^^^ (-1 : Int32))) = 0 then k4 l2 (l3 + (1 : Int32)) pgc pgr else (if (289 : Int32) ≤ l2 then k4 l2 (l3 + (1 : Int32)) pgc pgr else gi l3 289 (gi l2 289 (k4 (l2 + (1 : Int32)) (l3 + (1 : Int32)) pgc (upd pgr l2.toNatClampNeg (pgr l3.toNatClampNeg)))))))))
def f_X4_dropWithin_4 (N : Nat)  (l1 : Int32) : Nat → Int32 → Int32 → Int32 → (Nat → Int32) → Option (Int32 × (Nat → Int32))
  | 0, _, _, _, _ => none
  | n + 1, l2, l3, pgc, pgr => b_X4_dropWithin_4 N l1 (f_X4_dropWithin_4 N l1 n) l2 l3 pgc pgr
def f_X4_dropWithin (N : Nat) (p0 : Int32) (pgc : Int32) (pgr : Nat → Int32) : Option (Int32 × (Nat → Int32)) :=
  f_X4_dropWithin_4 N p0 N (0 : Int32) (0 : Int32) pgc pgr
def f_X4_keep (N : Nat) (p0 : Int32) (pgc : Int32) (pgr : Nat → Int32) : Option (Int32 × (Nat → Int32)) :=
  (if pgc < 0 then some (pgc, pgr) else (if (289 : Int32) ≤ pgc then some (pgc, pgr) else gi pgc 289 (some ((pgc + (1 : Int32)), (upd pgr pgc.toNatClampNeg p0)))))
def b_X4_findGreatest_7 (N : Nat)  (bme : Nat → Int32) (k7 : Int32 → Int32 → (Nat → Int32) → Option (Int32 × (Nat → Int32))) (l2 : Int32) (pgc : Int32) (pgr : Nat → Int32) : Option (Int32 × (Nat → Int32)) :=
  (if (289 : Int32) ≤ l2 then some (pgc, pgr) else b1 (f_X0_rowsMeeting N l2 bme) (fun r3 => b1 (f_X4_isWithinGreatest N r3 pgc pgr) (fun r5 => (if r5 = 0 then b2 (f_X4_dropWithin N r3 pgc pgr) (fun v8 v9 => b2 (f_X4_keep N r3 v8 v9) (fun v11 v12 => k7 (l2 + (1 : Int32)) v11 v12)) else k7 (l2 + (1 : Int32)) pgc pgr))))
def f_X4_findGreatest_7 (N : Nat)  (bme : Nat → Int32) : Nat → Int32 → Int32 → (Nat → Int32) → Option (Int32 × (Nat → Int32))
  | 0, _, _, _ => none
  | n + 1, l2, pgc, pgr => b_X4_findGreatest_7 N bme (f_X4_findGreatest_7 N bme n) l2 pgc pgr
def f_X4_findGreatest (N : Nat) (pgr : Nat → Int32) (bme : Nat → Int32) : Option (Int32 × (Nat → Int32)) :=
  f_X4_findGreatest_7 N bme N (0 : Int32) (0 : Int32) pgr
def b_X4_countLaws_11 (N : Nat)  (l1 : Int32) (l2 : Int32) (pgc : Int32) (pgr : Nat → Int32) (pla : Nat → Int32) (k11 : Int32 → Int32 → Option (Int32)) (l3 : Int32) (l4 : Int32) : Option (Int32) :=
  (if pgc ≤ l4 then some (l3) else (if (289 : Int32) ≤ l4 then some (l3) else gi l4 289 ((if ((pgr l4.toNatClampNeg) &&& l2) = 0 then k11 l3 (l4 + (1 : Int32)) else gi l4 289 (b1 (f_X4_lawsFor N (l1 &&& ((pgr l4.toNatClampNeg) ^^^ (-1 : Int32))) pla) (fun r7 => k11 (if ((1 : Int32) + r7) < l3 then ((1 : Int32) + r7) else l3) (l4 + (1 : Int32))))))))
def f_X4_countLaws_11 (N : Nat)  (l1 : Int32) (l2 : Int32) (pgc : Int32) (pgr : Nat → Int32) (pla : Nat → Int32) : Nat → Int32 → Int32 → Option (Int32)
  | 0, _, _ => none
  | n + 1, l3, l4 => b_X4_countLaws_11 N l1 l2 pgc pgr pla (f_X4_countLaws_11 N l1 l2 pgc pgr pla n) l3 l4
def f_X4_countLaws (N : Nat) (p0 : Int32) (pgc : Int32) (pgr : Nat → Int32) (pla : Nat → Int32) : Option (Int32) :=
  f_X4_countLaws_11 N p0 (p0 &&& (-p0)) pgc pgr pla N (100 : Int32) (0 : Int32)
def b_X4_countHeaps_24 (N : Nat)  (pgc : Int32) (pgr : Nat → Int32) (bsz : Int32) (k24 : Int32 → (Nat → Int32) → Option (Int32 × Int32 × (Nat → Int32) × (Nat → Int32))) (l2 : Int32) (pla : Nat → Int32) : Option (Int32 × Int32 × (Nat → Int32) × (Nat → Int32)) :=
  b1 (f_X0_all N bsz) (fun r8 => (if r8 < l2 then b1 (f_X0_size N bsz) (fun r11 => some (pgc, r11, pgr, pla)) else (if (4096 : Int32) ≤ l2 then b1 (f_X0_size N bsz) (fun r14 => some (pgc, r14, pgr, pla)) else b1 (f_X4_countLaws N l2 pgc pgr pla) (fun r16 => gi l2 4096 (k24 (l2 + (1 : Int32)) (upd pla l2.toNatClampNeg (vp_nar .byte (r16.toInt8.toInt32))))))))
def f_X4_countHeaps_24 (N : Nat)  (pgc : Int32) (pgr : Nat → Int32) (bsz : Int32) : Nat → Int32 → (Nat → Int32) → Option (Int32 × Int32 × (Nat → Int32) × (Nat → Int32))
  | 0, _, _ => none
  | n + 1, l2, pla => b_X4_countHeaps_24 N pgc pgr bsz (f_X4_countHeaps_24 N pgc pgr bsz n) l2 pla
def f_X4_countHeaps (N : Nat) (pgc : Int32) (prc : Int32) (pgr : Nat → Int32) (pla : Nat → Int32) (bsz : Int32) (bme : Nat → Int32) : Option (Int32 × Int32 × (Nat → Int32) × (Nat → Int32)) :=
  b1 (f_X0_size N bsz) (fun r2 => (if prc = r2 then some (pgc, prc, pgr, pla) else b2 (f_X4_findGreatest N pgr bme) (fun v5 v6 => f_X4_countHeaps_24 N v5 v6 bsz N ((1 : Int32) <<< (prc &&& 31)) pla)))
def f_X4_leastLaws (N : Nat) (pgc : Int32) (prc : Int32) (pgr : Nat → Int32) (pla : Nat → Int32) (bsz : Int32) (bme : Nat → Int32) : Option (Int32 × Int32 × Int32 × (Nat → Int32) × (Nat → Int32)) :=
  b4 (f_X4_countHeaps N pgc prc pgr pla bsz bme) (fun v2 v3 v4 v5 => b1 (f_X0_all N bsz) (fun r7 => b1 (f_X4_lawsFor N r7 v5) (fun r9 => (if r9 < (100 : Int32) then some (r9, v2, v3, v4, v5) else some ((-4 : Int32), v2, v3, v4, v5)))))
def b_X4_leftOut_10 (N : Nat)  (l2 : Int32) (pgc : Int32) (prc : Int32) (pgr : Nat → Int32) (pla : Nat → Int32) (bsz : Int32) (k10 : Int32 → Int32 → Option (Int32 × Int32 × Int32 × (Nat → Int32) × (Nat → Int32))) (l3 : Int32) (l4 : Int32) : Option (Int32 × Int32 × Int32 × (Nat → Int32) × (Nat → Int32)) :=
  b1 (f_X0_all N bsz) (fun r7 => (if r7 < l4 then b1 (f_X0_all N bsz) (fun r10 => some ((r10 &&& (l3 ^^^ (-1 : Int32))), pgc, prc, pgr, pla)) else b1 (f_X4_lawsFor N l4 pla) (fun r12 => (if l2 < r12 then k10 l3 (l4 + (1 : Int32)) else b1 (f_J6_bitCount_0f7a4 N l4) (fun r15 => b1 (f_J6_bitCount_0f7a4 N l3) (fun r17 => (if r15 < r17 then k10 l3 (l4 + (1 : Int32)) else k10 l4 (l4 + (1 : Int32)))))))))
def f_X4_leftOut_10 (N : Nat)  (l2 : Int32) (pgc : Int32) (prc : Int32) (pgr : Nat → Int32) (pla : Nat → Int32) (bsz : Int32) : Nat → Int32 → Int32 → Option (Int32 × Int32 × Int32 × (Nat → Int32) × (Nat → Int32))
  | 0, _, _ => none
  | n + 1, l3, l4 => b_X4_leftOut_10 N l2 pgc prc pgr pla bsz (f_X4_leftOut_10 N l2 pgc prc pgr pla bsz n) l3 l4
def f_X4_leftOut (N : Nat) (p1 : Int32) (pgc : Int32) (prc : Int32) (pgr : Nat → Int32) (pla : Nat → Int32) (bsz : Int32) (bme : Nat → Int32) : Option (Int32 × Int32 × Int32 × (Nat → Int32) × (Nat → Int32)) :=
  b4 (f_X4_countHeaps N pgc prc pgr pla bsz bme) (fun v2 v3 v4 v5 => f_X4_leftOut_10 N p1 v2 v3 v4 v5 bsz N (0 : Int32) (0 : Int32))
def b_X4_canBeTogether_3 (N : Nat)  (l1 : Int32) (l2 : Int32) (l3 : Int32) (pgc : Int32) (pgr : Nat → Int32) (pla : Nat → Int32) (k3 : Int32 → Option (Int32)) (l4 : Int32) : Option (Int32) :=
  (if pgc ≤ l4 then some ((0 : Int32)) else (if (289 : Int32) ≤ l4 then some ((0 : Int32)) else gi l4 289 ((if ((pgr l4.toNatClampNeg) &&& l2) = l2 then gi l4 289 (b1 (f_X4_lawsFor N (l1 &&& ((pgr l4.toNatClampNeg) ^^^ (-1 : Int32))) pla) (fun r7 => (if l3 ≤ r7 then k3 (l4 + (1 : Int32)) else some ((1 : Int32))))) else k3 (l4 + (1 : Int32))))))
def f_X4_canBeTogether_3 (N : Nat)  (l1 : Int32) (l2 : Int32) (l3 : Int32) (pgc : Int32) (pgr : Nat → Int32) (pla : Nat → Int32) : Nat → Int32 → Option (Int32)
  | 0, _ => none
  | n + 1, l4 => b_X4_canBeTogether_3 N l1 l2 l3 pgc pgr pla (f_X4_canBeTogether_3 N l1 l2 l3 pgc pgr pla n) l4
def f_X4_canBeTogether (N : Nat) (p0 : Int32) (p1 : Int32) (p2 : Int32) (pgc : Int32) (pgr : Nat → Int32) (pla : Nat → Int32) : Option (Int32) :=
  f_X4_canBeTogether_3 N p0 p1 p2 pgc pgr pla N (0 : Int32)
def b_X4_canBeBeside_3 (N : Nat)  (l1 : Int32) (l2 : Int32) (l3 : Int32) (pgc : Int32) (pgr : Nat → Int32) (pla : Nat → Int32) (k3 : Int32 → Option (Int32)) (l4 : Int32) : Option (Int32) :=
  (if pgc ≤ l4 then some ((0 : Int32)) else (if (289 : Int32) ≤ l4 then some ((0 : Int32)) else gi l4 289 ((if ((pgr l4.toNatClampNeg) &&& l2) = 0 then k3 (l4 + (1 : Int32)) else gi l4 289 (b1 (f_X4_lawsFor N (l1 &&& ((pgr l4.toNatClampNeg) ^^^ (-1 : Int32))) pla) (fun r7 => (if (l3 - (1 : Int32)) ≤ r7 then k3 (l4 + (1 : Int32)) else some ((1 : Int32)))))))))
def f_X4_canBeBeside_3 (N : Nat)  (l1 : Int32) (l2 : Int32) (l3 : Int32) (pgc : Int32) (pgr : Nat → Int32) (pla : Nat → Int32) : Nat → Int32 → Option (Int32)
  | 0, _ => none
  | n + 1, l4 => b_X4_canBeBeside_3 N l1 l2 l3 pgc pgr pla (f_X4_canBeBeside_3 N l1 l2 l3 pgc pgr pla n) l4
def f_X4_canBeBeside (N : Nat) (p0 : Int32) (p1 : Int32) (p2 : Int32) (pgc : Int32) (pgr : Nat → Int32) (pla : Nat → Int32) : Option (Int32) :=
  f_X4_canBeBeside_3 N p0 p1 p2 pgc pgr pla N (0 : Int32)
def b_X4_canBeApart_3 (N : Nat)  (l1 : Int32) (l2 : Int32) (l3 : Int32) (l4 : Int32) (pgc : Int32) (pgr : Nat → Int32) (pla : Nat → Int32) (k3 : Int32 → Option (Int32)) (l5 : Int32) : Option (Int32) :=
  (if pgc ≤ l5 then some ((0 : Int32)) else (if (289 : Int32) ≤ l5 then some ((0 : Int32)) else gi l5 289 ((if ((pgr l5.toNatClampNeg) &&& l2) = 0 then k3 (l5 + (1 : Int32)) else gi l5 289 (b1 (f_X4_canBeBeside N (l1 &&& ((pgr l5.toNatClampNeg) ^^^ (-1 : Int32))) l3 l4 pgc pgr pla) (fun r7 => (if r7 = 0 then k3 (l5 + (1 : Int32)) else some ((1 : Int32)))))))))
def f_X4_canBeApart_3 (N : Nat)  (l1 : Int32) (l2 : Int32) (l3 : Int32) (l4 : Int32) (pgc : Int32) (pgr : Nat → Int32) (pla : Nat → Int32) : Nat → Int32 → Option (Int32)
  | 0, _ => none
  | n + 1, l5 => b_X4_canBeApart_3 N l1 l2 l3 l4 pgc pgr pla (f_X4_canBeApart_3 N l1 l2 l3 l4 pgc pgr pla n) l5
def f_X4_canBeApart (N : Nat) (p0 : Int32) (p1 : Int32) (p2 : Int32) (p3 : Int32) (pgc : Int32) (pgr : Nat → Int32) (pla : Nat → Int32) : Option (Int32) :=
  f_X4_canBeApart_3 N p0 p1 p2 p3 pgc pgr pla N (0 : Int32)
def f_X4_howTogether (N : Nat) (p1 : Int32) (p2 : Int32) (pgc : Int32) (prc : Int32) (pgr : Nat → Int32) (pla : Nat → Int32) (bsz : Int32) (bme : Nat → Int32) : Option (Int32 × Int32 × Int32 × (Nat → Int32) × (Nat → Int32)) :=
  b5 (f_X4_leastLaws N pgc prc pgr pla bsz bme) (fun r2 v3 v4 v5 v6 => (if 0 ≤ r2 then b1 (f_X0_all N bsz) (fun r9 => b1 (f_X4_canBeTogether N r9 (((1 : Int32) <<< (p1 &&& 31)) ||| ((1 : Int32) <<< (p2 &&& 31))) r2 v3 v5 v6) (fun r11 => (if r11 = 0 then some ((0 : Int32), v3, v4, v5, v6) else b1 (f_X0_all N bsz) (fun r14 => b1 (f_X4_canBeApart N r14 ((1 : Int32) <<< (p1 &&& 31)) ((1 : Int32) <<< (p2 &&& 31)) r2 v3 v5 v6) (fun r16 => (if r16 = 0 then some ((2 : Int32), v3, v4, v5, v6) else some ((1 : Int32), v3, v4, v5, v6))))))) else some ((-4 : Int32), v3, v4, v5, v6)))
abbrev rm_X4_forget : Room := { frames := 0, cells := 0, slots := 0, locals := 0 }
theorem iX4_forget_X4 : ∀ w ∈ wsX40, w ∈ wsX4_forget := by decide +kernel
theorem kX4_forget_1 : (Cond.fieldLink RX4 23 "TwoLaws$Partings" "rowsCounted" "I") ∈ wsX4_forget := by decide +kernel
set_option maxHeartbeats 4000000 in
set_option maxRecDepth 100000 in
theorem cr_X4_forget (l : Launch) (D : va_G) (ky : Nat → ClassId) (aP ag al : Nat) (sz N : Nat)  (pgc : Int32) (prc : Int32) (pgr : Nat → Int32) (pla : Nat → Int32)  (res : Int32) (hF : f_X4_forget N  = some res) : MV l yX4_forget wsX4_forget rm_X4_forget D ky sz [.ref aP] (w_part ky aP ag al pgc prc pgr pla) (w_part ky aP ag al pgc res pgr pla) := by
  unfold MV
  refine Met.ofW (cc := cX4_forget) (maxL := 1) (ret := none) (by decide) rfl ?_
  intro p e s m args below meth c s₁ B hml hv
  obtain ⟨rfl, hsz, hP, hK, hD0⟩ := hv
  have hx := B.exec
  have hb := B.bytes
  have hr := B.returns
  have hts := atoms_spec (ws := wsX4_forget) B.pre
  have hown : s.vm.findClass RX4 = some m.cls := findClass_of_methodNamed B.named
  have hlocks := B.notSynchronized
  subst hsz
  have hD := hD0.self (sz := s.heap.size)
  generalize hAe : va_A (w_part ky aP ag al pgc prc pgr pla) s.heap.size = A at hD ⊢
  have hA : ∀ q : Nat, s.heap.size ≤ q → A q := fun q h => by rw [← hAe]; exact Or.inr h
  have hS : va_S A s.heap s.heap [] := va_S.rf
  have hP : va_P D vwCl (w_part ky aP ag al pgc prc pgr pla) s.heap := hP
  have hl := lv_entry ([.ref aP]) (n := 1) (Nat.le_of_ble_eq_true rfl)
  rw [lg_entry_eq]
  generalize (lg_sl ([.ref aP]) ++ List.replicate (1 - (lg_sl ([.ref aP])).length) Slot.unset).toArray = ls at hl ⊢
  have hl : lv_has ls 1 [(0, .ref aP)] := hl
  have C : cx p s m c ([.ref aP]).toArray D ky A cX4_forget 1 wsX4_forget RX4 := ⟨hx, hb, hml, hown, hts, hK, hA⟩
  have hQ : ∀ (pc : Nat) (H : Heap) (locs : List Loc) (ls : Array Slot), decode cX4_forget pc = .ok (.return_, 1) → va_P D vwCl (w_part ky aP ag al pgc res pgr pla) H → va_D A (w_part ky aP ag al pgc res pgr pla) → va_S A s.heap H locs → W p l e rm_X4_forget s m ([.ref aP]).toArray below meth c H locs 0 0 (MQ below (va_Qv (S := Unit) (fun _ => True) (fun _ t => va_P D vwCl (w_part ky aP ag al pgc res pgr pla) t.heap ∧ va_K D vwCl (tyW ky) t ∧ va_D A (w_part ky aP ag al pgc res pgr pla)) A) ([.ref aP]).toArray s 0 0 A) (F0 m pc ls []) := fun pc H locs ls hd hP hD hS => W.vret hx hb hr (fun t ht hW => ⟨⟨(), rfl, trivial, by rw [ht]; exact hP, va_K.moved hW.alike hK, hD⟩, hS.F ht⟩) hS.2.2 hd
  unfold f_X4_forget at hF
  refine lv_aload_n hx hb dX4_forget_0 rfl (lv_at hl 0 rfl) ?_
  refine lv_iconst (v := (0 : Int32)) hx hb dX4_forget_1 (by decide) ?_
  refine va_put (D := D) (ci := 3) (v := .int (0 : Int32)) (ty := .int) (C := RX4) (T := TX4) (N := 4) hx hb hts iX4_forget_X4 tyX4 tyX4_ok nmX4 hown hK hP hD hS 0 rfl rfl 3 (by decide) (hts _ kX4_forget_1) (fun _ h9 => h9) rfl (by decide +kernel) rfl rfl (Nat.le_of_ble_eq_true rfl) dX4_forget_2 (fun H locs hP hD hS => ?_)
  have hP : va_P D vwCl (w_part ky aP ag al pgc (0 : Int32) pgr pla) H := hP
  have hD : va_D A (w_part ky aP ag al pgc (0 : Int32) pgr pla) := hD
  have hF := Option.some.inj hF
  subst hF
  exact hQ _ _ _ _ dX4_forget_5 hP hD hS
theorem c_X4_forget (l : Launch) (D : va_G) (ky : Nat → ClassId) (aP ag al : Nat) (sz N : Nat)  (pgc : Int32) (prc : Int32) (pgr : Nat → Int32) (pla : Nat → Int32)  (prc' : Int32) (hF : f_X4_forget N  = some (prc')) : MV l yX4_forget wsX4_forget rm_X4_forget D ky sz [.ref aP] (w_part ky aP ag al pgc prc pgr pla) (w_part ky aP ag al pgc prc' pgr pla) :=
  cr_X4_forget l D ky aP ag al sz N pgc prc pgr pla (prc') hF
abbrev rm_X4_lawsFor : Room := { frames := 0, cells := 0, slots := 0, locals := 0 }
theorem iX4_lawsFor_X4 : ∀ w ∈ wsX40, w ∈ wsX4_lawsFor := by decide +kernel
theorem kX4_lawsFor_1 : (Cond.fieldLink RX4 19 "TwoLaws$Partings" "laws" "[B") ∈ wsX4_lawsFor := by decide +kernel
set_option maxHeartbeats 4000000 in
set_option maxRecDepth 100000 in
theorem cr_X4_lawsFor (l : Launch) (D : va_G) (ky : Nat → ClassId) (aP ag al : Nat) (sz N : Nat)  (pgc : Int32) (prc : Int32) (pgr : Nat → Int32) (pla : Nat → Int32) (p0 : Int32) (res : Int32) (hF : f_X4_lawsFor N p0 pla = some res) : MI l yX4_lawsFor wsX4_lawsFor rm_X4_lawsFor D ky sz [.ref aP, .int p0] (w_part ky aP ag al pgc prc pgr pla) (w_part ky aP ag al pgc prc pgr pla) res := by
  unfold MI
  refine Met.ofW (cc := cX4_lawsFor) (maxL := 2) (ret := (some .int)) (by decide) rfl ?_
  intro p e s m args below meth c s₁ B hml hv
  obtain ⟨rfl, hsz, hP, hK, hD0⟩ := hv
  have hx := B.exec
  have hb := B.bytes
  have hr := B.returns
  have hts := atoms_spec (ws := wsX4_lawsFor) B.pre
  have hown : s.vm.findClass RX4 = some m.cls := findClass_of_methodNamed B.named
  have hlocks := B.notSynchronized
  subst hsz
  have hD := hD0.self (sz := s.heap.size)
  generalize hAe : va_A (w_part ky aP ag al pgc prc pgr pla) s.heap.size = A at hD ⊢
  have hA : ∀ q : Nat, s.heap.size ≤ q → A q := fun q h => by rw [← hAe]; exact Or.inr h
  have hS : va_S A s.heap s.heap [] := va_S.rf
  have hP : va_P D vwCl (w_part ky aP ag al pgc prc pgr pla) s.heap := hP
  have hl := lv_entry ([.ref aP, .int p0]) (n := 2) (Nat.le_of_ble_eq_true rfl)
  rw [lg_entry_eq]
  generalize (lg_sl ([.ref aP, .int p0]) ++ List.replicate (2 - (lg_sl ([.ref aP, .int p0])).length) Slot.unset).toArray = ls at hl ⊢
  have hl : lv_has ls 2 [(0, .ref aP), (1, .int p0)] := hl
  have C : cx p s m c ([.ref aP, .int p0]).toArray D ky A cX4_lawsFor 2 wsX4_lawsFor RX4 := ⟨hx, hb, hml, hown, hts, hK, hA⟩
  have hQ : ∀ (pc : Nat) (H : Heap) (locs : List Loc) (ls : Array Slot), decode cX4_lawsFor pc = .ok (.ireturn, 1) → va_P D vwCl (w_part ky aP ag al pgc prc pgr pla) H → va_D A (w_part ky aP ag al pgc prc pgr pla) → va_S A s.heap H locs → W p l e rm_X4_lawsFor s m ([.ref aP, .int p0]).toArray below meth c H locs 0 0 (MQ below (va_Qi (S := Unit) (fun r _ => r = res) (fun _ t => va_P D vwCl (w_part ky aP ag al pgc prc pgr pla) t.heap ∧ va_K D vwCl (tyW ky) t ∧ va_D A (w_part ky aP ag al pgc prc pgr pla)) A) ([.ref aP, .int p0]).toArray s 0 0 A) (F0 m pc ls [.int res]) := fun pc H locs ls hd hP hD hS => W.iret hx hb hr (fun t ht hW => ⟨⟨res, (), rfl, rfl, by rw [ht]; exact hP, va_K.moved hW.alike hK, hD⟩, hS.F ht⟩) hS.2.2 hd
  unfold f_X4_lawsFor at hF
  refine lv_iload_n hx hb dX4_lawsFor_0 rfl (lv_at hl 1 rfl) ?_
  refine lv_if_lt (tgt := 22) hx hb dX4_lawsFor_1 (by decide) (fun c1 => ?_) (fun c1 => ?_)
  · have hF := if_t c1 hF
    refine lv_bipush (v := (100 : Int32)) hx hb dX4_lawsFor_22 (by decide) ?_
    have hF := Option.some.inj hF
    subst hF
    exact hQ _ _ _ _ dX4_lawsFor_24 hP hD hS
  · have hF := if_f c1 hF
    refine lv_iload_n hx hb dX4_lawsFor_4 rfl (lv_at hl 1 rfl) ?_
    refine lv_aload_n hx hb dX4_lawsFor_5 rfl (lv_at hl 0 rfl) ?_
    refine va_get (D := D) (ci := 3) (v := .ref al) (C := RX4) (T := TX4) (N := 4) hx hb hts iX4_lawsFor_X4 hown hK hP 0 rfl rfl 2 (by decide) (hts _ kX4_lawsFor_1) (fun _ h9 => h9) rfl dX4_lawsFor_6 ?_
    refine va_alen (v := (4096 : Int32)) hx hb hK hP 2 1 rfl rfl rfl dX4_lawsFor_9 ?_
    refine lv_icmp_ge (tgt := 22) hx hb dX4_lawsFor_10 (by decide) (fun c2 => ?_) (fun c2 => ?_)
    · have hF := if_t c2 hF
      refine lv_bipush (v := (100 : Int32)) hx hb dX4_lawsFor_22 (by decide) ?_
      have hF := Option.some.inj hF
      subst hF
      exact hQ _ _ _ _ dX4_lawsFor_24 hP hD hS
    · have hF := if_f c2 hF
      refine lv_aload_n hx hb dX4_lawsFor_13 rfl (lv_at hl 0 rfl) ?_
      refine va_get (D := D) (ci := 3) (v := .ref al) (C := RX4) (T := TX4) (N := 4) hx hb hts iX4_lawsFor_X4 hown hK hP 0 rfl rfl 2 (by decide) (hts _ kX4_lawsFor_1) (fun _ h9 => h9) rfl dX4_lawsFor_14 ?_
      refine lv_iload_n hx hb dX4_lawsFor_17 rfl (lv_at hl 1 rfl) ?_
      obtain ⟨h3, hF⟩ := gi_s hF
      refine va_bald hx hb hK hP 2 1 rfl rfl h3 dX4_lawsFor_18 ?_
      refine lv_goto (tgt := 24) hx hb dX4_lawsFor_19 (by decide) ?_
      have hF := Option.some.inj hF
      subst hF
      exact hQ _ _ _ _ dX4_lawsFor_24 hP hD hS
theorem c_X4_lawsFor (l : Launch) (D : va_G) (ky : Nat → ClassId) (aP ag al : Nat) (sz N : Nat)  (pgc : Int32) (prc : Int32) (pgr : Nat → Int32) (pla : Nat → Int32) (p0 : Int32) (rv : Int32) (hF : f_X4_lawsFor N p0 pla = some (rv)) : MI l yX4_lawsFor wsX4_lawsFor rm_X4_lawsFor D ky sz [.ref aP, .int p0] (w_part ky aP ag al pgc prc pgr pla) (w_part ky aP ag al pgc prc pgr pla) rv :=
  cr_X4_lawsFor l D ky aP ag al sz N pgc prc pgr pla p0 (rv) hF
abbrev rm_X4_isWithinGreatest : Room := { frames := 0, cells := 0, slots := 0, locals := 0 }
theorem iX4_isWithinGreatest_X4 : ∀ w ∈ wsX40, w ∈ wsX4_isWithinGreatest := by decide +kernel
theorem kX4_isWithinGreatest_1 : (Cond.fieldLink RX4 15 "TwoLaws$Partings" "greatestCount" "I") ∈ wsX4_isWithinGreatest := by decide +kernel
theorem kX4_isWithinGreatest_2 : (Cond.fieldLink RX4 9 "TwoLaws$Partings" "greatest" "[I") ∈ wsX4_isWithinGreatest := by decide +kernel
set_option maxHeartbeats 4000000 in
set_option maxRecDepth 100000 in
theorem w_X4_isWithinGreatest_2 {p : Program} {l : Launch} {e : Env} {s : State} {m : MethodId} {args : Array Value} {below : List Frame} {meth : Method} {c : Code} {Q : State → Prop} {A : Nat → Prop} {D : va_G} {ky : Nat → ClassId} {aP ag al : Nat} {pgc : Int32} {prc : Int32} {pgr : Nat → Int32} {pla : Nat → Int32} (N : Nat) (C : cx p s m c args D ky A cX4_isWithinGreatest 3 wsX4_isWithinGreatest RX4) (res : Int32) (hQ : ∀ (pc : Nat) (H : Heap) (locs : List Loc) (ls : Array Slot), decode cX4_isWithinGreatest pc = .ok (.ireturn, 1) → (res = 0 ∨ res = 1) → va_P D vwCl (w_part ky aP ag al pgc prc pgr pla) H → va_D A (w_part ky aP ag al pgc prc pgr pla) → va_S A s.heap H locs → W p l e rm_X4_isWithinGreatest s m args below meth c H locs 0 0 Q (F0 m pc ls [.int res])) (l1 : Int32) : ∀ (n : Nat) (l2 : Int32), f_X4_isWithinGreatest_2 N l1 pgc pgr n l2 = some res → ∀ (H : Heap) (locs : List Loc) (ls : Array Slot), va_P D vwCl (w_part ky aP ag al pgc prc pgr pla) H → va_D A (w_part ky aP ag al pgc prc pgr pla) → va_S A s.heap H locs → lv_has ls 3 [(0, .ref aP), (1, .int l1), (2, .int l2)] → W p l e rm_X4_isWithinGreatest s m args below meth c H locs 0 0 Q (F0 m 2 ls []) := by
  obtain ⟨hx, hb, hml, hown, hts, hK, hA⟩ := id C
  intro n
  induction n with
  | zero =>
    intro l2 hF
    cases hF
  | succ n ih =>
    intro l2 hF H locs ls hP hD hS hl
    have hF : b_X4_isWithinGreatest_2 N l1 pgc pgr (f_X4_isWithinGreatest_2 N l1 pgc pgr n) l2 = some res := hF
    unfold b_X4_isWithinGreatest_2 at hF
    refine lv_iload_n hx hb dX4_isWithinGreatest_2 rfl (lv_at hl 2 rfl) ?_
    refine lv_aload_n hx hb dX4_isWithinGreatest_3 rfl (lv_at hl 0 rfl) ?_
    refine va_get (D := D) (ci := 3) (v := .int pgc) (C := RX4) (T := TX4) (N := 4) hx hb hts iX4_isWithinGreatest_X4 hown hK hP 0 rfl rfl 1 (by decide) (hts _ kX4_isWithinGreatest_1) (fun _ h9 => h9) rfl dX4_isWithinGreatest_4 ?_
    refine lv_icmp_ge (tgt := 40) hx hb dX4_isWithinGreatest_7 (by decide) (fun c1 => ?_) (fun c1 => ?_)
    · have hF := if_t c1 hF
      refine lv_iconst (v := (0 : Int32)) hx hb dX4_isWithinGreatest_40 (by decide) ?_
      have hF := Option.some.inj hF
      subst hF
      exact hQ _ H _ _ dX4_isWithinGreatest_41 (Or.inl rfl) hP hD hS
    · have hF := if_f c1 hF
      refine lv_iload_n hx hb dX4_isWithinGreatest_10 rfl (lv_at hl 2 rfl) ?_
      refine lv_aload_n hx hb dX4_isWithinGreatest_11 rfl (lv_at hl 0 rfl) ?_
      refine va_get (D := D) (ci := 3) (v := .ref ag) (C := RX4) (T := TX4) (N := 4) hx hb hts iX4_isWithinGreatest_X4 hown hK hP 0 rfl rfl 0 (by decide) (hts _ kX4_isWithinGreatest_2) (fun _ h9 => h9) rfl dX4_isWithinGreatest_12 ?_
      refine va_alen (v := (289 : Int32)) hx hb hK hP 1 0 rfl rfl rfl dX4_isWithinGreatest_15 ?_
      refine lv_icmp_ge (tgt := 40) hx hb dX4_isWithinGreatest_16 (by decide) (fun c2 => ?_) (fun c2 => ?_)
      · have hF := if_t c2 hF
        refine lv_iconst (v := (0 : Int32)) hx hb dX4_isWithinGreatest_40 (by decide) ?_
        have hF := Option.some.inj hF
        subst hF
        exact hQ _ H _ _ dX4_isWithinGreatest_41 (Or.inl rfl) hP hD hS
      · have hF := if_f c2 hF
        refine lv_iload_n hx hb dX4_isWithinGreatest_19 rfl (lv_at hl 1 rfl) ?_
        refine lv_aload_n hx hb dX4_isWithinGreatest_20 rfl (lv_at hl 0 rfl) ?_
        refine va_get (D := D) (ci := 3) (v := .ref ag) (C := RX4) (T := TX4) (N := 4) hx hb hts iX4_isWithinGreatest_X4 hown hK hP 0 rfl rfl 0 (by decide) (hts _ kX4_isWithinGreatest_2) (fun _ h9 => h9) rfl dX4_isWithinGreatest_21 ?_
        refine lv_iload_n hx hb dX4_isWithinGreatest_24 rfl (lv_at hl 2 rfl) ?_
        obtain ⟨h3, hF⟩ := gi_s hF
        refine va_iald hx hb hK hP 1 0 rfl rfl h3 dX4_isWithinGreatest_25 ?_
        refine lv_iconst (v := (-1 : Int32)) hx hb dX4_isWithinGreatest_26 (by decide) ?_
        refine lv_ixor hx hb dX4_isWithinGreatest_27 ?_
        refine lv_iand hx hb dX4_isWithinGreatest_28 ?_
        refine lv_if_ne (tgt := 34) hx hb dX4_isWithinGreatest_29 (by decide) (fun c4 => ?_) (fun c4 => ?_)
        · have hF := if_f c4 hF
          refine lv_iinc (v := (l2 + (1 : Int32))) (lv' := [(2, .int (l2 + (1 : Int32))), (0, .ref aP), (1, .int l1)]) hx hb dX4_isWithinGreatest_34 hl (k := 2) rfl rfl (by decide) rfl (fun ls hl => ?_)
          refine lv_goto (tgt := 2) hx hb dX4_isWithinGreatest_37 (by decide) ?_
          exact ih (l2 + (1 : Int32)) hF H _ _ hP hD hS (lv_sub hl [1, 2, 0] rfl)
        · have hF := if_t c4 hF
          refine lv_iconst (v := (1 : Int32)) hx hb dX4_isWithinGreatest_32 (by decide) ?_
          have hF := Option.some.inj hF
          subst hF
          exact hQ _ H _ _ dX4_isWithinGreatest_33 (Or.inr rfl) hP hD hS
set_option maxHeartbeats 4000000 in
set_option maxRecDepth 100000 in
theorem cr_X4_isWithinGreatest (l : Launch) (D : va_G) (ky : Nat → ClassId) (aP ag al : Nat) (sz N : Nat)  (pgc : Int32) (prc : Int32) (pgr : Nat → Int32) (pla : Nat → Int32) (p0 : Int32) (res : Int32) (hF : f_X4_isWithinGreatest N p0 pgc pgr = some res) : MI l yX4_isWithinGreatest wsX4_isWithinGreatest rm_X4_isWithinGreatest D ky sz [.ref aP, .int p0] (w_part ky aP ag al pgc prc pgr pla) (w_part ky aP ag al pgc prc pgr pla) res := by
  unfold MI
  refine Met.ofW (cc := cX4_isWithinGreatest) (maxL := 3) (ret := (some .boolean)) (by decide) rfl ?_
  intro p e s m args below meth c s₁ B hml hv
  obtain ⟨rfl, hsz, hP, hK, hD0⟩ := hv
  have hx := B.exec
  have hb := B.bytes
  have hr := B.returns
  have hts := atoms_spec (ws := wsX4_isWithinGreatest) B.pre
  have hown : s.vm.findClass RX4 = some m.cls := findClass_of_methodNamed B.named
  have hlocks := B.notSynchronized
  subst hsz
  have hD := hD0.self (sz := s.heap.size)
  generalize hAe : va_A (w_part ky aP ag al pgc prc pgr pla) s.heap.size = A at hD ⊢
  have hA : ∀ q : Nat, s.heap.size ≤ q → A q := fun q h => by rw [← hAe]; exact Or.inr h
  have hS : va_S A s.heap s.heap [] := va_S.rf
  have hP : va_P D vwCl (w_part ky aP ag al pgc prc pgr pla) s.heap := hP
  have hl := lv_entry ([.ref aP, .int p0]) (n := 3) (Nat.le_of_ble_eq_true rfl)
  rw [lg_entry_eq]
  generalize (lg_sl ([.ref aP, .int p0]) ++ List.replicate (3 - (lg_sl ([.ref aP, .int p0])).length) Slot.unset).toArray = ls at hl ⊢
  have hl : lv_has ls 3 [(0, .ref aP), (1, .int p0)] := hl
  have C : cx p s m c ([.ref aP, .int p0]).toArray D ky A cX4_isWithinGreatest 3 wsX4_isWithinGreatest RX4 := ⟨hx, hb, hml, hown, hts, hK, hA⟩
  have hQ : ∀ (pc : Nat) (H : Heap) (locs : List Loc) (ls : Array Slot), decode cX4_isWithinGreatest pc = .ok (.ireturn, 1) → (res = 0 ∨ res = 1) → va_P D vwCl (w_part ky aP ag al pgc prc pgr pla) H → va_D A (w_part ky aP ag al pgc prc pgr pla) → va_S A s.heap H locs → W p l e rm_X4_isWithinGreatest s m ([.ref aP, .int p0]).toArray below meth c H locs 0 0 (MQ below (va_Qi (S := Unit) (fun r _ => r = res) (fun _ t => va_P D vwCl (w_part ky aP ag al pgc prc pgr pla) t.heap ∧ va_K D vwCl (tyW ky) t ∧ va_D A (w_part ky aP ag al pgc prc pgr pla)) A) ([.ref aP, .int p0]).toArray s 0 0 A) (F0 m pc ls [.int res]) := fun pc H locs ls hd hz hP hD hS => W.zret hx hb hr (gz_n hz) (fun t ht hW => ⟨⟨res, (), rfl, rfl, by rw [ht]; exact hP, va_K.moved hW.alike hK, hD⟩, hS.F ht⟩) hS.2.2 hd
  unfold f_X4_isWithinGreatest at hF
  refine lv_iconst (v := (0 : Int32)) hx hb dX4_isWithinGreatest_0 (by decide) ?_
  refine lv_istore_n (lv' := [(2, .int (0 : Int32)), (0, .ref aP), (1, .int p0)]) hx hb dX4_isWithinGreatest_1 rfl hl (by decide) rfl (fun ls hl => ?_)
  exact w_X4_isWithinGreatest_2 N C res hQ p0 N (0 : Int32) hF _ _ _ hP hD hS (lv_sub hl [1, 2, 0] rfl)
theorem c_X4_isWithinGreatest (l : Launch) (D : va_G) (ky : Nat → ClassId) (aP ag al : Nat) (sz N : Nat)  (pgc : Int32) (prc : Int32) (pgr : Nat → Int32) (pla : Nat → Int32) (p0 : Int32) (rv : Int32) (hF : f_X4_isWithinGreatest N p0 pgc pgr = some (rv)) : MI l yX4_isWithinGreatest wsX4_isWithinGreatest rm_X4_isWithinGreatest D ky sz [.ref aP, .int p0] (w_part ky aP ag al pgc prc pgr pla) (w_part ky aP ag al pgc prc pgr pla) rv :=
  cr_X4_isWithinGreatest l D ky aP ag al sz N pgc prc pgr pla p0 (rv) hF
abbrev rm_X4_dropWithin : Room := { frames := 0, cells := 0, slots := 0, locals := 0 }
theorem iX4_dropWithin_X4 : ∀ w ∈ wsX40, w ∈ wsX4_dropWithin := by decide +kernel
theorem kX4_dropWithin_1 : (Cond.fieldLink RX4 15 "TwoLaws$Partings" "greatestCount" "I") ∈ wsX4_dropWithin := by decide +kernel
theorem kX4_dropWithin_2 : (Cond.fieldLink RX4 9 "TwoLaws$Partings" "greatest" "[I") ∈ wsX4_dropWithin := by decide +kernel
set_option maxHeartbeats 4000000 in
set_option maxRecDepth 100000 in
theorem w_X4_dropWithin_4 {p : Program} {l : Launch} {e : Env} {s : State} {m : MethodId} {args : Array Value} {below : List Frame} {meth : Method} {c : Code} {Q : State → Prop} {A : Nat → Prop} {D : va_G} {ky : Nat → ClassId} {aP ag al : Nat} {prc : Int32} {pla : Nat → Int32} (N : Nat) (C : cx p s m c args D ky A cX4_dropWithin 4 wsX4_dropWithin RX4) (res : Int32 × (Nat → Int32)) (hQ : ∀ (pc : Nat) (H : Heap) (locs : List Loc) (ls : Array Slot), decode cX4_dropWithin pc = .ok (.return_, 1) → va_P D vwCl (w_part ky aP ag al res.1 prc res.2 pla) H → va_D A (w_part ky aP ag al res.1 prc res.2 pla) → va_S A s.heap H locs → W p l e rm_X4_dropWithin s m args below meth c H locs 0 0 Q (F0 m pc ls [])) (l1 : Int32) : ∀ (n : Nat) (l2 : Int32) (l3 : Int32) (pgc : Int32) (pgr : Nat → Int32), f_X4_dropWithin_4 N l1 n l2 l3 pgc pgr = some res → ∀ (H : Heap) (locs : List Loc) (ls : Array Slot), va_P D vwCl (w_part ky aP ag al pgc prc pgr pla) H → va_D A (w_part ky aP ag al pgc prc pgr pla) → va_S A s.heap H locs → lv_has ls 4 [(0, .ref aP), (1, .int l1), (2, .int l2), (3, .int l3)] → W p l e rm_X4_dropWithin s m args below meth c H locs 0 0 Q (F0 m 4 ls []) := by
  obtain ⟨hx, hb, hml, hown, hts, hK, hA⟩ := id C
  intro n
  induction n with
  | zero =>
    intro l2 l3 pgc pgr hF
    cases hF
  | succ n ih =>
    intro l2 l3 pgc pgr hF H locs ls hP hD hS hl
    have hF : b_X4_dropWithin_4 N l1 (f_X4_dropWithin_4 N l1 n) l2 l3 pgc pgr = some res := hF
    unfold b_X4_dropWithin_4 at hF
    refine lv_iload_n hx hb dX4_dropWithin_4 rfl (lv_at hl 3 rfl) ?_
    refine lv_aload_n hx hb dX4_dropWithin_5 rfl (lv_at hl 0 rfl) ?_
    refine va_get (D := D) (ci := 3) (v := .int pgc) (C := RX4) (T := TX4) (N := 4) hx hb hts iX4_dropWithin_X4 hown hK hP 0 rfl rfl 1 (by decide) (hts _ kX4_dropWithin_1) (fun _ h9 => h9) rfl dX4_dropWithin_6 ?_
    refine lv_icmp_ge (tgt := 64) hx hb dX4_dropWithin_9 (by decide) (fun c1 => ?_) (fun c1 => ?_)
    · have hF := if_t c1 hF
      refine lv_aload_n hx hb dX4_dropWithin_64 rfl (lv_at hl 0 rfl) ?_
      refine lv_iload_n hx hb dX4_dropWithin_65 rfl (lv_at hl 2 rfl) ?_
      refine va_put (D := D) (ci := 3) (v := .int l2) (ty := .int) (C := RX4) (T := TX4) (N := 4) hx hb hts iX4_dropWithin_X4 tyX4 tyX4_ok nmX4 hown hK hP hD hS 0 rfl rfl 1 (by decide) (hts _ kX4_dropWithin_1) (fun _ h9 => h9) rfl (by decide +kernel) rfl rfl (Nat.le_of_ble_eq_true rfl) dX4_dropWithin_66 (fun H locs hP hD hS => ?_)
      have hP : va_P D vwCl (w_part ky aP ag al l2 prc pgr pla) H := hP
      have hD : va_D A (w_part ky aP ag al l2 prc pgr pla) := hD
      have hF := Option.some.inj hF
      subst hF
      exact hQ _ H _ _ dX4_dropWithin_69 hP hD hS
    · have hF := if_f c1 hF
      refine lv_iload_n hx hb dX4_dropWithin_12 rfl (lv_at hl 3 rfl) ?_
      refine lv_aload_n hx hb dX4_dropWithin_13 rfl (lv_at hl 0 rfl) ?_
      refine va_get (D := D) (ci := 3) (v := .ref ag) (C := RX4) (T := TX4) (N := 4) hx hb hts iX4_dropWithin_X4 hown hK hP 0 rfl rfl 0 (by decide) (hts _ kX4_dropWithin_2) (fun _ h9 => h9) rfl dX4_dropWithin_14 ?_
      refine va_alen (v := (289 : Int32)) hx hb hK hP 1 0 rfl rfl rfl dX4_dropWithin_17 ?_
      refine lv_icmp_ge (tgt := 64) hx hb dX4_dropWithin_18 (by decide) (fun c2 => ?_) (fun c2 => ?_)
      · have hF := if_t c2 hF
        refine lv_aload_n hx hb dX4_dropWithin_64 rfl (lv_at hl 0 rfl) ?_
        refine lv_iload_n hx hb dX4_dropWithin_65 rfl (lv_at hl 2 rfl) ?_
        refine va_put (D := D) (ci := 3) (v := .int l2) (ty := .int) (C := RX4) (T := TX4) (N := 4) hx hb hts iX4_dropWithin_X4 tyX4 tyX4_ok nmX4 hown hK hP hD hS 0 rfl rfl 1 (by decide) (hts _ kX4_dropWithin_1) (fun _ h9 => h9) rfl (by decide +kernel) rfl rfl (Nat.le_of_ble_eq_true rfl) dX4_dropWithin_66 (fun H locs hP hD hS => ?_)
        have hP : va_P D vwCl (w_part ky aP ag al l2 prc pgr pla) H := hP
        have hD : va_D A (w_part ky aP ag al l2 prc pgr pla) := hD
        have hF := Option.some.inj hF
        subst hF
        exact hQ _ H _ _ dX4_dropWithin_69 hP hD hS
      · have hF := if_f c2 hF
        refine lv_aload_n hx hb dX4_dropWithin_21 rfl (lv_at hl 0 rfl) ?_
        refine va_get (D := D) (ci := 3) (v := .ref ag) (C := RX4) (T := TX4) (N := 4) hx hb hts iX4_dropWithin_X4 hown hK hP 0 rfl rfl 0 (by decide) (hts _ kX4_dropWithin_2) (fun _ h9 => h9) rfl dX4_dropWithin_22 ?_
        refine lv_iload_n hx hb dX4_dropWithin_25 rfl (lv_at hl 3 rfl) ?_
        obtain ⟨h3, hF⟩ := gi_s hF
        refine va_iald hx hb hK hP 1 0 rfl rfl h3 dX4_dropWithin_26 ?_
        refine lv_iload_n hx hb dX4_dropWithin_27 rfl (lv_at hl 1 rfl) ?_
        refine lv_iconst (v := (-1 : Int32)) hx hb dX4_dropWithin_28 (by decide) ?_
        refine lv_ixor hx hb dX4_dropWithin_29 ?_
        refine lv_iand hx hb dX4_dropWithin_30 ?_
        refine lv_if_eq (tgt := 58) hx hb dX4_dropWithin_31 (by decide) (fun c4 => ?_) (fun c4 => ?_)
        · have hF := if_t c4 hF
          refine lv_iinc (v := (l3 + (1 : Int32))) (lv' := [(3, .int (l3 + (1 : Int32))), (0, .ref aP), (1, .int l1), (2, .int l2)]) hx hb dX4_dropWithin_58 hl (k := 3) rfl rfl (by decide) rfl (fun ls hl => ?_)
          refine lv_goto (tgt := 4) hx hb dX4_dropWithin_61 (by decide) ?_
          exact ih l2 (l3 + (1 : Int32)) pgc pgr hF H _ _ hP hD hS (lv_sub hl [1, 2, 3, 0] rfl)
        · have hF := if_f c4 hF
          refine lv_iload_n hx hb dX4_dropWithin_34 rfl (lv_at hl 2 rfl) ?_
          refine lv_aload_n hx hb dX4_dropWithin_35 rfl (lv_at hl 0 rfl) ?_
          refine va_get (D := D) (ci := 3) (v := .ref ag) (C := RX4) (T := TX4) (N := 4) hx hb hts iX4_dropWithin_X4 hown hK hP 0 rfl rfl 0 (by decide) (hts _ kX4_dropWithin_2) (fun _ h9 => h9) rfl dX4_dropWithin_36 ?_
          refine va_alen (v := (289 : Int32)) hx hb hK hP 1 0 rfl rfl rfl dX4_dropWithin_39 ?_
          refine lv_icmp_ge (tgt := 58) hx hb dX4_dropWithin_40 (by decide) (fun c5 => ?_) (fun c5 => ?_)
          · have hF := if_t c5 hF
            refine lv_iinc (v := (l3 + (1 : Int32))) (lv' := [(3, .int (l3 + (1 : Int32))), (0, .ref aP), (1, .int l1), (2, .int l2)]) hx hb dX4_dropWithin_58 hl (k := 3) rfl rfl (by decide) rfl (fun ls hl => ?_)
            refine lv_goto (tgt := 4) hx hb dX4_dropWithin_61 (by decide) ?_
            exact ih l2 (l3 + (1 : Int32)) pgc pgr hF H _ _ hP hD hS (lv_sub hl [1, 2, 3, 0] rfl)
          · have hF := if_f c5 hF
            refine lv_aload_n hx hb dX4_dropWithin_43 rfl (lv_at hl 0 rfl) ?_
            refine va_get (D := D) (ci := 3) (v := .ref ag) (C := RX4) (T := TX4) (N := 4) hx hb hts iX4_dropWithin_X4 hown hK hP 0 rfl rfl 0 (by decide) (hts _ kX4_dropWithin_2) (fun _ h9 => h9) rfl dX4_dropWithin_44 ?_
            refine lv_iload_n hx hb dX4_dropWithin_47 rfl (lv_at hl 2 rfl) ?_
            refine lv_aload_n hx hb dX4_dropWithin_48 rfl (lv_at hl 0 rfl) ?_
            refine va_get (D := D) (ci := 3) (v := .ref ag) (C := RX4) (T := TX4) (N := 4) hx hb hts iX4_dropWithin_X4 hown hK hP 0 rfl rfl 0 (by decide) (hts _ kX4_dropWithin_2) (fun _ h9 => h9) rfl dX4_dropWithin_49 ?_
            refine lv_iload_n hx hb dX4_dropWithin_52 rfl (lv_at hl 3 rfl) ?_
            obtain ⟨h6, hF⟩ := gi_s hF
            refine va_iald hx hb hK hP 1 0 rfl rfl h6 dX4_dropWithin_53 ?_
            obtain ⟨h7, hF⟩ := gi_s hF
            refine va_iast hx hb hK hP hD hS 1 0 rfl rfl h7 dX4_dropWithin_54 (fun H locs hP hD hS => ?_)
            have hP : va_P D vwCl (w_part ky aP ag al pgc prc (upd pgr l2.toNatClampNeg (pgr l3.toNatClampNeg)) pla) H := hP
            have hD : va_D A (w_part ky aP ag al pgc prc (upd pgr l2.toNatClampNeg (pgr l3.toNatClampNeg)) pla) := hD
            refine lv_iinc (v := (l2 + (1 : Int32))) (lv' := [(2, .int (l2 + (1 : Int32))), (0, .ref aP), (1, .int l1), (3, .int l3)]) hx hb dX4_dropWithin_55 hl (k := 2) rfl rfl (by decide) rfl (fun ls hl => ?_)
            refine lv_iinc (v := (l3 + (1 : Int32))) (lv' := [(3, .int (l3 + (1 : Int32))), (2, .int (l2 + (1 : Int32))), (0, .ref aP), (1, .int l1)]) hx hb dX4_dropWithin_58 hl (k := 3) rfl rfl (by decide) rfl (fun ls hl => ?_)
            refine lv_goto (tgt := 4) hx hb dX4_dropWithin_61 (by decide) ?_
            exact ih (l2 + (1 : Int32)) (l3 + (1 : Int32)) pgc (upd pgr l2.toNatClampNeg (pgr l3.toNatClampNeg)) hF H _ _ hP hD hS (lv_sub hl [2, 3, 1, 0] rfl)
set_option maxHeartbeats 4000000 in
set_option maxRecDepth 100000 in
theorem cr_X4_dropWithin (l : Launch) (D : va_G) (ky : Nat → ClassId) (aP ag al : Nat) (sz N : Nat)  (pgc : Int32) (prc : Int32) (pgr : Nat → Int32) (pla : Nat → Int32) (p0 : Int32) (res : Int32 × (Nat → Int32)) (hF : f_X4_dropWithin N p0 pgc pgr = some res) : MV l yX4_dropWithin wsX4_dropWithin rm_X4_dropWithin D ky sz [.ref aP, .int p0] (w_part ky aP ag al pgc prc pgr pla) (w_part ky aP ag al res.1 prc res.2 pla) := by
  unfold MV
  refine Met.ofW (cc := cX4_dropWithin) (maxL := 4) (ret := none) (by decide) rfl ?_
  intro p e s m args below meth c s₁ B hml hv
  obtain ⟨rfl, hsz, hP, hK, hD0⟩ := hv
  have hx := B.exec
  have hb := B.bytes
  have hr := B.returns
  have hts := atoms_spec (ws := wsX4_dropWithin) B.pre
  have hown : s.vm.findClass RX4 = some m.cls := findClass_of_methodNamed B.named
  have hlocks := B.notSynchronized
  subst hsz
  have hD := hD0.self (sz := s.heap.size)
  generalize hAe : va_A (w_part ky aP ag al pgc prc pgr pla) s.heap.size = A at hD ⊢
  have hA : ∀ q : Nat, s.heap.size ≤ q → A q := fun q h => by rw [← hAe]; exact Or.inr h
  have hS : va_S A s.heap s.heap [] := va_S.rf
  have hP : va_P D vwCl (w_part ky aP ag al pgc prc pgr pla) s.heap := hP
  have hl := lv_entry ([.ref aP, .int p0]) (n := 4) (Nat.le_of_ble_eq_true rfl)
  rw [lg_entry_eq]
  generalize (lg_sl ([.ref aP, .int p0]) ++ List.replicate (4 - (lg_sl ([.ref aP, .int p0])).length) Slot.unset).toArray = ls at hl ⊢
  have hl : lv_has ls 4 [(0, .ref aP), (1, .int p0)] := hl
  have C : cx p s m c ([.ref aP, .int p0]).toArray D ky A cX4_dropWithin 4 wsX4_dropWithin RX4 := ⟨hx, hb, hml, hown, hts, hK, hA⟩
  have hQ : ∀ (pc : Nat) (H : Heap) (locs : List Loc) (ls : Array Slot), decode cX4_dropWithin pc = .ok (.return_, 1) → va_P D vwCl (w_part ky aP ag al res.1 prc res.2 pla) H → va_D A (w_part ky aP ag al res.1 prc res.2 pla) → va_S A s.heap H locs → W p l e rm_X4_dropWithin s m ([.ref aP, .int p0]).toArray below meth c H locs 0 0 (MQ below (va_Qv (S := Unit) (fun _ => True) (fun _ t => va_P D vwCl (w_part ky aP ag al res.1 prc res.2 pla) t.heap ∧ va_K D vwCl (tyW ky) t ∧ va_D A (w_part ky aP ag al res.1 prc res.2 pla)) A) ([.ref aP, .int p0]).toArray s 0 0 A) (F0 m pc ls []) := fun pc H locs ls hd hP hD hS => W.vret hx hb hr (fun t ht hW => ⟨⟨(), rfl, trivial, by rw [ht]; exact hP, va_K.moved hW.alike hK, hD⟩, hS.F ht⟩) hS.2.2 hd
  unfold f_X4_dropWithin at hF
  refine lv_iconst (v := (0 : Int32)) hx hb dX4_dropWithin_0 (by decide) ?_
  refine lv_istore_n (lv' := [(2, .int (0 : Int32)), (0, .ref aP), (1, .int p0)]) hx hb dX4_dropWithin_1 rfl hl (by decide) rfl (fun ls hl => ?_)
  refine lv_iconst (v := (0 : Int32)) hx hb dX4_dropWithin_2 (by decide) ?_
  refine lv_istore_n (lv' := [(3, .int (0 : Int32)), (2, .int (0 : Int32)), (0, .ref aP), (1, .int p0)]) hx hb dX4_dropWithin_3 rfl hl (by decide) rfl (fun ls hl => ?_)
  exact w_X4_dropWithin_4 N C res hQ p0 N (0 : Int32) (0 : Int32) pgc pgr hF _ _ _ hP hD hS (lv_sub hl [2, 3, 1, 0] rfl)
theorem c_X4_dropWithin (l : Launch) (D : va_G) (ky : Nat → ClassId) (aP ag al : Nat) (sz N : Nat)  (pgc : Int32) (prc : Int32) (pgr : Nat → Int32) (pla : Nat → Int32) (p0 : Int32) (pgc' : Int32) (pgr' : Nat → Int32) (hF : f_X4_dropWithin N p0 pgc pgr = some (pgc', pgr')) : MV l yX4_dropWithin wsX4_dropWithin rm_X4_dropWithin D ky sz [.ref aP, .int p0] (w_part ky aP ag al pgc prc pgr pla) (w_part ky aP ag al pgc' prc pgr' pla) :=
  cr_X4_dropWithin l D ky aP ag al sz N pgc prc pgr pla p0 (pgc', pgr') hF
abbrev rm_X4_keep : Room := { frames := 0, cells := 0, slots := 0, locals := 0 }
theorem iX4_keep_X4 : ∀ w ∈ wsX40, w ∈ wsX4_keep := by decide +kernel
theorem kX4_keep_1 : (Cond.fieldLink RX4 15 "TwoLaws$Partings" "greatestCount" "I") ∈ wsX4_keep := by decide +kernel
theorem kX4_keep_2 : (Cond.fieldLink RX4 9 "TwoLaws$Partings" "greatest" "[I") ∈ wsX4_keep := by decide +kernel
set_option maxHeartbeats 4000000 in
set_option maxRecDepth 100000 in
theorem cr_X4_keep (l : Launch) (D : va_G) (ky : Nat → ClassId) (aP ag al : Nat) (sz N : Nat)  (pgc : Int32) (prc : Int32) (pgr : Nat → Int32) (pla : Nat → Int32) (p0 : Int32) (res : Int32 × (Nat → Int32)) (hF : f_X4_keep N p0 pgc pgr = some res) : MV l yX4_keep wsX4_keep rm_X4_keep D ky sz [.ref aP, .int p0] (w_part ky aP ag al pgc prc pgr pla) (w_part ky aP ag al res.1 prc res.2 pla) := by
  unfold MV
  refine Met.ofW (cc := cX4_keep) (maxL := 2) (ret := none) (by decide) rfl ?_
  intro p e s m args below meth c s₁ B hml hv
  obtain ⟨rfl, hsz, hP, hK, hD0⟩ := hv
  have hx := B.exec
  have hb := B.bytes
  have hr := B.returns
  have hts := atoms_spec (ws := wsX4_keep) B.pre
  have hown : s.vm.findClass RX4 = some m.cls := findClass_of_methodNamed B.named
  have hlocks := B.notSynchronized
  subst hsz
  have hD := hD0.self (sz := s.heap.size)
  generalize hAe : va_A (w_part ky aP ag al pgc prc pgr pla) s.heap.size = A at hD ⊢
  have hA : ∀ q : Nat, s.heap.size ≤ q → A q := fun q h => by rw [← hAe]; exact Or.inr h
  have hS : va_S A s.heap s.heap [] := va_S.rf
  have hP : va_P D vwCl (w_part ky aP ag al pgc prc pgr pla) s.heap := hP
  have hl := lv_entry ([.ref aP, .int p0]) (n := 2) (Nat.le_of_ble_eq_true rfl)
  rw [lg_entry_eq]
  generalize (lg_sl ([.ref aP, .int p0]) ++ List.replicate (2 - (lg_sl ([.ref aP, .int p0])).length) Slot.unset).toArray = ls at hl ⊢
  have hl : lv_has ls 2 [(0, .ref aP), (1, .int p0)] := hl
  have C : cx p s m c ([.ref aP, .int p0]).toArray D ky A cX4_keep 2 wsX4_keep RX4 := ⟨hx, hb, hml, hown, hts, hK, hA⟩
  have hQ : ∀ (pc : Nat) (H : Heap) (locs : List Loc) (ls : Array Slot), decode cX4_keep pc = .ok (.return_, 1) → va_P D vwCl (w_part ky aP ag al res.1 prc res.2 pla) H → va_D A (w_part ky aP ag al res.1 prc res.2 pla) → va_S A s.heap H locs → W p l e rm_X4_keep s m ([.ref aP, .int p0]).toArray below meth c H locs 0 0 (MQ below (va_Qv (S := Unit) (fun _ => True) (fun _ t => va_P D vwCl (w_part ky aP ag al res.1 prc res.2 pla) t.heap ∧ va_K D vwCl (tyW ky) t ∧ va_D A (w_part ky aP ag al res.1 prc res.2 pla)) A) ([.ref aP, .int p0]).toArray s 0 0 A) (F0 m pc ls []) := fun pc H locs ls hd hP hD hS => W.vret hx hb hr (fun t ht hW => ⟨⟨(), rfl, trivial, by rw [ht]; exact hP, va_K.moved hW.alike hK, hD⟩, hS.F ht⟩) hS.2.2 hd
  unfold f_X4_keep at hF
  refine lv_aload_n hx hb dX4_keep_0 rfl (lv_at hl 0 rfl) ?_
  refine va_get (D := D) (ci := 3) (v := .int pgc) (C := RX4) (T := TX4) (N := 4) hx hb hts iX4_keep_X4 hown hK hP 0 rfl rfl 1 (by decide) (hts _ kX4_keep_1) (fun _ h9 => h9) rfl dX4_keep_1 ?_
  refine lv_if_lt (tgt := 39) hx hb dX4_keep_4 (by decide) (fun c1 => ?_) (fun c1 => ?_)
  · have hF := if_t c1 hF
    have hF := Option.some.inj hF
    subst hF
    exact hQ _ _ _ _ dX4_keep_39 hP hD hS
  · have hF := if_f c1 hF
    refine lv_aload_n hx hb dX4_keep_7 rfl (lv_at hl 0 rfl) ?_
    refine va_get (D := D) (ci := 3) (v := .int pgc) (C := RX4) (T := TX4) (N := 4) hx hb hts iX4_keep_X4 hown hK hP 0 rfl rfl 1 (by decide) (hts _ kX4_keep_1) (fun _ h9 => h9) rfl dX4_keep_8 ?_
    refine lv_aload_n hx hb dX4_keep_11 rfl (lv_at hl 0 rfl) ?_
    refine va_get (D := D) (ci := 3) (v := .ref ag) (C := RX4) (T := TX4) (N := 4) hx hb hts iX4_keep_X4 hown hK hP 0 rfl rfl 0 (by decide) (hts _ kX4_keep_2) (fun _ h9 => h9) rfl dX4_keep_12 ?_
    refine va_alen (v := (289 : Int32)) hx hb hK hP 1 0 rfl rfl rfl dX4_keep_15 ?_
    refine lv_icmp_ge (tgt := 39) hx hb dX4_keep_16 (by decide) (fun c2 => ?_) (fun c2 => ?_)
    · have hF := if_t c2 hF
      have hF := Option.some.inj hF
      subst hF
      exact hQ _ _ _ _ dX4_keep_39 hP hD hS
    · have hF := if_f c2 hF
      refine lv_aload_n hx hb dX4_keep_19 rfl (lv_at hl 0 rfl) ?_
      refine va_get (D := D) (ci := 3) (v := .ref ag) (C := RX4) (T := TX4) (N := 4) hx hb hts iX4_keep_X4 hown hK hP 0 rfl rfl 0 (by decide) (hts _ kX4_keep_2) (fun _ h9 => h9) rfl dX4_keep_20 ?_
      refine lv_aload_n hx hb dX4_keep_23 rfl (lv_at hl 0 rfl) ?_
      refine va_get (D := D) (ci := 3) (v := .int pgc) (C := RX4) (T := TX4) (N := 4) hx hb hts iX4_keep_X4 hown hK hP 0 rfl rfl 1 (by decide) (hts _ kX4_keep_1) (fun _ h9 => h9) rfl dX4_keep_24 ?_
      refine lv_iload_n hx hb dX4_keep_27 rfl (lv_at hl 1 rfl) ?_
      obtain ⟨h3, hF⟩ := gi_s hF
      refine va_iast hx hb hK hP hD hS 1 0 rfl rfl h3 dX4_keep_28 (fun H locs hP hD hS => ?_)
      have hP : va_P D vwCl (w_part ky aP ag al pgc prc (upd pgr pgc.toNatClampNeg p0) pla) H := hP
      have hD : va_D A (w_part ky aP ag al pgc prc (upd pgr pgc.toNatClampNeg p0) pla) := hD
      refine lv_aload_n hx hb dX4_keep_29 rfl (lv_at hl 0 rfl) ?_
      refine lv_dup hx hb dX4_keep_30 rfl ?_
      refine va_get (D := D) (ci := 3) (v := .int pgc) (C := RX4) (T := TX4) (N := 4) hx hb hts iX4_keep_X4 hown hK hP 0 rfl rfl 1 (by decide) (hts _ kX4_keep_1) (fun _ h9 => h9) rfl dX4_keep_31 ?_
      refine lv_iconst (v := (1 : Int32)) hx hb dX4_keep_34 (by decide) ?_
      refine lv_iadd hx hb dX4_keep_35 ?_
      refine va_put (D := D) (ci := 3) (v := .int (pgc + (1 : Int32))) (ty := .int) (C := RX4) (T := TX4) (N := 4) hx hb hts iX4_keep_X4 tyX4 tyX4_ok nmX4 hown hK hP hD hS 0 rfl rfl 1 (by decide) (hts _ kX4_keep_1) (fun _ h9 => h9) rfl (by decide +kernel) rfl rfl (Nat.le_of_ble_eq_true rfl) dX4_keep_36 (fun H locs hP hD hS => ?_)
      have hP : va_P D vwCl (w_part ky aP ag al (pgc + (1 : Int32)) prc (upd pgr pgc.toNatClampNeg p0) pla) H := hP
      have hD : va_D A (w_part ky aP ag al (pgc + (1 : Int32)) prc (upd pgr pgc.toNatClampNeg p0) pla) := hD
      have hF := Option.some.inj hF
      subst hF
      exact hQ _ _ _ _ dX4_keep_39 hP hD hS
theorem c_X4_keep (l : Launch) (D : va_G) (ky : Nat → ClassId) (aP ag al : Nat) (sz N : Nat)  (pgc : Int32) (prc : Int32) (pgr : Nat → Int32) (pla : Nat → Int32) (p0 : Int32) (pgc' : Int32) (pgr' : Nat → Int32) (hF : f_X4_keep N p0 pgc pgr = some (pgc', pgr')) : MV l yX4_keep wsX4_keep rm_X4_keep D ky sz [.ref aP, .int p0] (w_part ky aP ag al pgc prc pgr pla) (w_part ky aP ag al pgc' prc pgr' pla) :=
  cr_X4_keep l D ky aP ag al sz N pgc prc pgr pla p0 (pgc', pgr') hF
abbrev rm_X4_findGreatest : Room := { frames := 1, cells := 0, slots := 0, locals := 23 }
theorem iX4_findGreatest_X4 : ∀ w ∈ wsX40, w ∈ wsX4_findGreatest := by decide +kernel
theorem kX4_findGreatest_1 : (Cond.fieldLink RX4 15 "TwoLaws$Partings" "greatestCount" "I") ∈ wsX4_findGreatest := by decide +kernel
set_option maxHeartbeats 4000000 in
set_option maxRecDepth 100000 in
theorem w_X4_findGreatest_7 {p : Program} {l : Launch} {e : Env} {s : State} {m : MethodId} {args : Array Value} {below : List Frame} {meth : Method} {c : Code} {Q : State → Prop} {A : Nat → Prop} {D : va_G} {ky : Nat → ClassId} {aP ag al aB ax au ay am : Nat} {prc : Int32} {pla : Nat → Int32} {bsz : Int32} {bgp : Int32} {ber : Int32} {bxs : Nat → Int32} {bus : Nat → Int32} {bys : Nat → Int32} {bme : Nat → Int32} (N : Nat) (C : cx p s m c args D ky A cX4_findGreatest 4 wsX4_findGreatest RX4) (res : Int32 × (Nat → Int32)) (hQ : ∀ (pc : Nat) (H : Heap) (locs : List Loc) (ls : Array Slot), decode cX4_findGreatest pc = .ok (.return_, 1) → va_P D vwCl (w_partbook ky aP ag al aB ax au ay am res.1 prc res.2 pla bsz bgp ber bxs bus bys bme) H → va_D A (w_partbook ky aP ag al aB ax au ay am res.1 prc res.2 pla bsz bgp ber bxs bus bys bme) → va_S A s.heap H locs → W p l e rm_X4_findGreatest s m args below meth c H locs 0 0 Q (F0 m pc ls []))  : ∀ (n : Nat) (l2 : Int32) (pgc : Int32) (pgr : Nat → Int32), f_X4_findGreatest_7 N bme n l2 pgc pgr = some res → ∀ (H : Heap) (locs : List Loc) (ls : Array Slot), va_P D vwCl (w_partbook ky aP ag al aB ax au ay am pgc prc pgr pla bsz bgp ber bxs bus bys bme) H → va_D A (w_partbook ky aP ag al aB ax au ay am pgc prc pgr pla bsz bgp ber bxs bus bys bme) → va_S A s.heap H locs → lv_has ls 4 [(0, .ref aP), (1, .ref aB), (2, .int l2)] → W p l e rm_X4_findGreatest s m args below meth c H locs 0 0 Q (F0 m 7 ls []) := by
  obtain ⟨hx, hb, hml, hown, hts, hK, hA⟩ := id C
  intro n
  induction n with
  | zero =>
    intro l2 pgc pgr hF
    cases hF
  | succ n ih =>
    intro l2 pgc pgr hF H locs ls hP hD hS hl
    have hF : b_X4_findGreatest_7 N bme (f_X4_findGreatest_7 N bme n) l2 pgc pgr = some res := hF
    unfold b_X4_findGreatest_7 at hF
    refine lv_iload_n hx hb dX4_findGreatest_7 rfl (lv_at hl 2 rfl) ?_
    refine lv_sipush (v := (289 : Int32)) hx hb dX4_findGreatest_8 (by decide) ?_
    refine lv_icmp_ge (tgt := 44) hx hb dX4_findGreatest_11 (by decide) (fun c1 => ?_) (fun c1 => ?_)
    · have hF := if_t c1 hF
      have hF := Option.some.inj hF
      subst hF
      exact hQ _ H _ _ dX4_findGreatest_44 hP hD hS
    · have hF := if_f c1 hF
      refine lv_aload_n hx hb dX4_findGreatest_14 rfl (lv_at hl 1 rfl) ?_
      refine lv_iload_n hx hb dX4_findGreatest_15 rfl (lv_at hl 2 rfl) ?_
      obtain ⟨r3, h2, hF⟩ := b1_s hF
      refine cl_vi (As := [.int l2]) (rest := []) (w' := (w_partbook ky aP ag al aB ax au ay am pgc prc pgr pla bsz bgp ber bxs bus bys bme)) ⟨hx, hb, hml, hown, hts⟩ hK hP hD hS hA (c_X0_rowsMeeting l D ky aB ax au ay am _ N  bsz bgp ber bxs bus bys bme l2 r3 h2) (cwV 1 hts gX4_findGreatest_X0_rowsMeeting rfl rfl rfl (by decide +kernel) ⟨Nat.le_of_ble_eq_true rfl, Nat.le_of_ble_eq_true rfl⟩) [3, 4, 5, 6, 7] [0, 1, 2] [0, 1, 2, 3, 4, 5, 6, 7] 0 0 rfl rfl rfl rfl (wr := [(aP, .inr (3, [.ref ag, .int pgc, .ref al, .int prc])), (ag, .inl (ky 0, 289, .inl pgr)), (al, .inl (ky 1, 4096, .inl pla))]) rfl (by decide) rfl rfl hl.1 (Nat.le_of_ble_eq_true rfl) dX4_findGreatest_16 ⟨Nat.zero_le _, Nat.zero_le _⟩ (fun H locs hP hD hS => ?_)
      refine lv_istore_n (lv' := [(3, .int r3), (0, .ref aP), (1, .ref aB), (2, .int l2)]) hx hb dX4_findGreatest_19 rfl hl (by decide) rfl (fun ls hl => ?_)
      refine lv_aload_n hx hb dX4_findGreatest_20 rfl (lv_at hl 1 rfl) ?_
      refine lv_iload_n hx hb dX4_findGreatest_21 rfl (lv_at hl 0 rfl) ?_
      obtain ⟨r5, h4, hF⟩ := b1_s hF
      refine cl_vi (As := [.int r3]) (rest := []) (w' := (w_partbook ky aP ag al aB ax au ay am pgc prc pgr pla bsz bgp ber bxs bus bys bme)) ⟨hx, hb, hml, hown, hts⟩ hK hP hD hS hA (c_X4_isWithinGreatest l D ky aP ag al _ N  pgc prc pgr pla r3 r5 h4) (cwV 1 hts gX4_findGreatest_X4_isWithinGreatest rfl rfl rfl (by decide +kernel) ⟨Nat.le_of_ble_eq_true rfl, Nat.le_of_ble_eq_true rfl⟩) [0, 1, 2] [3, 4, 5, 6, 7] [5, 6, 7, 0, 1, 2, 3, 4] 0 3 rfl rfl rfl rfl (wr := [(aB, .inr (0, [.ref ax, .ref au, .ref ay, .ref am, .int bsz, .int bgp, .int ber])), (ax, .inl (ky 0, 12, .inl bxs)), (au, .inl (ky 0, 12, .inl bus)), (ay, .inl (ky 0, 12, .inl bys)), (am, .inl (ky 0, 289, .inl bme))]) rfl (by decide) rfl rfl hl.1 (Nat.le_of_ble_eq_true rfl) dX4_findGreatest_22 ⟨Nat.zero_le _, Nat.zero_le _⟩ (fun H locs hP hD hS => ?_)
      refine lv_if_ne (tgt := 38) hx hb dX4_findGreatest_25 (by decide) (fun c6 => ?_) (fun c6 => ?_)
      · have hF := if_f c6 hF
        refine lv_iinc (v := (l2 + (1 : Int32))) (lv' := [(2, .int (l2 + (1 : Int32))), (3, .int r3), (0, .ref aP), (1, .ref aB)]) hx hb dX4_findGreatest_38 hl (k := 3) rfl rfl (by decide) rfl (fun ls hl => ?_)
        refine lv_goto (tgt := 7) hx hb dX4_findGreatest_41 (by decide) ?_
        exact ih (l2 + (1 : Int32)) pgc pgr hF H _ _ hP hD hS (lv_sub hl [2, 3, 0] rfl)
      · have hF := if_t c6 hF
        refine lv_aload_n hx hb dX4_findGreatest_28 rfl (lv_at hl 1 rfl) ?_
        refine lv_iload_n hx hb dX4_findGreatest_29 rfl (lv_at hl 0 rfl) ?_
        obtain ⟨v8, v9, h7, hF⟩ := b2_s hF
        refine cl_vv (As := [.int r3]) (rest := []) (w' := (w_partbook ky aP ag al aB ax au ay am v8 prc v9 pla bsz bgp ber bxs bus bys bme)) ⟨hx, hb, hml, hown, hts⟩ hK hP hD hS hA (c_X4_dropWithin l D ky aP ag al _ N  pgc prc pgr pla r3 v8 v9 h7) (cwV 1 hts gX4_findGreatest_X4_dropWithin rfl rfl rfl (by decide +kernel) ⟨Nat.le_of_ble_eq_true rfl, Nat.le_of_ble_eq_true rfl⟩) [0, 1, 2] [3, 4, 5, 6, 7] [5, 6, 7, 0, 1, 2, 3, 4] 0 3 rfl rfl rfl rfl (wr := [(aB, .inr (0, [.ref ax, .ref au, .ref ay, .ref am, .int bsz, .int bgp, .int ber])), (ax, .inl (ky 0, 12, .inl bxs)), (au, .inl (ky 0, 12, .inl bus)), (ay, .inl (ky 0, 12, .inl bys)), (am, .inl (ky 0, 289, .inl bme))]) rfl (by decide) rfl rfl hl.1 (Nat.le_of_ble_eq_true rfl) dX4_findGreatest_30 ⟨Nat.zero_le _, Nat.zero_le _⟩ (fun H locs hP hD hS => ?_)
        refine lv_aload_n hx hb dX4_findGreatest_33 rfl (lv_at hl 1 rfl) ?_
        refine lv_iload_n hx hb dX4_findGreatest_34 rfl (lv_at hl 0 rfl) ?_
        obtain ⟨v11, v12, h10, hF⟩ := b2_s hF
        refine cl_vv (As := [.int r3]) (rest := []) (w' := (w_partbook ky aP ag al aB ax au ay am v11 prc v12 pla bsz bgp ber bxs bus bys bme)) ⟨hx, hb, hml, hown, hts⟩ hK hP hD hS hA (c_X4_keep l D ky aP ag al _ N  v8 prc v9 pla r3 v11 v12 h10) (cwV 1 hts gX4_findGreatest_X4_keep rfl rfl rfl (by decide +kernel) ⟨Nat.le_of_ble_eq_true rfl, Nat.le_of_ble_eq_true rfl⟩) [0, 1, 2] [3, 4, 5, 6, 7] [5, 6, 7, 0, 1, 2, 3, 4] 0 3 rfl rfl rfl rfl (wr := [(aB, .inr (0, [.ref ax, .ref au, .ref ay, .ref am, .int bsz, .int bgp, .int ber])), (ax, .inl (ky 0, 12, .inl bxs)), (au, .inl (ky 0, 12, .inl bus)), (ay, .inl (ky 0, 12, .inl bys)), (am, .inl (ky 0, 289, .inl bme))]) rfl (by decide) rfl rfl hl.1 (Nat.le_of_ble_eq_true rfl) dX4_findGreatest_35 ⟨Nat.zero_le _, Nat.zero_le _⟩ (fun H locs hP hD hS => ?_)
        refine lv_iinc (v := (l2 + (1 : Int32))) (lv' := [(2, .int (l2 + (1 : Int32))), (3, .int r3), (0, .ref aP), (1, .ref aB)]) hx hb dX4_findGreatest_38 hl (k := 3) rfl rfl (by decide) rfl (fun ls hl => ?_)
        refine lv_goto (tgt := 7) hx hb dX4_findGreatest_41 (by decide) ?_
        exact ih (l2 + (1 : Int32)) v11 v12 hF H _ _ hP hD hS (lv_sub hl [2, 3, 0] rfl)
set_option maxHeartbeats 4000000 in
set_option maxRecDepth 100000 in
theorem cr_X4_findGreatest (l : Launch) (D : va_G) (ky : Nat → ClassId) (aP ag al aB ax au ay am : Nat) (sz N : Nat)  (pgc : Int32) (prc : Int32) (pgr : Nat → Int32) (pla : Nat → Int32) (bsz : Int32) (bgp : Int32) (ber : Int32) (bxs : Nat → Int32) (bus : Nat → Int32) (bys : Nat → Int32) (bme : Nat → Int32)  (res : Int32 × (Nat → Int32)) (hF : f_X4_findGreatest N pgr bme = some res) : MV l yX4_findGreatest wsX4_findGreatest rm_X4_findGreatest D ky sz [.ref aP, .ref aB] (w_partbook ky aP ag al aB ax au ay am pgc prc pgr pla bsz bgp ber bxs bus bys bme) (w_partbook ky aP ag al aB ax au ay am res.1 prc res.2 pla bsz bgp ber bxs bus bys bme) := by
  unfold MV
  refine Met.ofW (cc := cX4_findGreatest) (maxL := 4) (ret := none) (by decide) rfl ?_
  intro p e s m args below meth c s₁ B hml hv
  obtain ⟨rfl, hsz, hP, hK, hD0⟩ := hv
  have hx := B.exec
  have hb := B.bytes
  have hr := B.returns
  have hts := atoms_spec (ws := wsX4_findGreatest) B.pre
  have hown : s.vm.findClass RX4 = some m.cls := findClass_of_methodNamed B.named
  have hlocks := B.notSynchronized
  subst hsz
  have hD := hD0.self (sz := s.heap.size)
  generalize hAe : va_A (w_partbook ky aP ag al aB ax au ay am pgc prc pgr pla bsz bgp ber bxs bus bys bme) s.heap.size = A at hD ⊢
  have hA : ∀ q : Nat, s.heap.size ≤ q → A q := fun q h => by rw [← hAe]; exact Or.inr h
  have hS : va_S A s.heap s.heap [] := va_S.rf
  have hP : va_P D vwCl (w_partbook ky aP ag al aB ax au ay am pgc prc pgr pla bsz bgp ber bxs bus bys bme) s.heap := hP
  have hl := lv_entry ([.ref aP, .ref aB]) (n := 4) (Nat.le_of_ble_eq_true rfl)
  rw [lg_entry_eq]
  generalize (lg_sl ([.ref aP, .ref aB]) ++ List.replicate (4 - (lg_sl ([.ref aP, .ref aB])).length) Slot.unset).toArray = ls at hl ⊢
  have hl : lv_has ls 4 [(0, .ref aP), (1, .ref aB)] := hl
  have C : cx p s m c ([.ref aP, .ref aB]).toArray D ky A cX4_findGreatest 4 wsX4_findGreatest RX4 := ⟨hx, hb, hml, hown, hts, hK, hA⟩
  have hQ : ∀ (pc : Nat) (H : Heap) (locs : List Loc) (ls : Array Slot), decode cX4_findGreatest pc = .ok (.return_, 1) → va_P D vwCl (w_partbook ky aP ag al aB ax au ay am res.1 prc res.2 pla bsz bgp ber bxs bus bys bme) H → va_D A (w_partbook ky aP ag al aB ax au ay am res.1 prc res.2 pla bsz bgp ber bxs bus bys bme) → va_S A s.heap H locs → W p l e rm_X4_findGreatest s m ([.ref aP, .ref aB]).toArray below meth c H locs 0 0 (MQ below (va_Qv (S := Unit) (fun _ => True) (fun _ t => va_P D vwCl (w_partbook ky aP ag al aB ax au ay am res.1 prc res.2 pla bsz bgp ber bxs bus bys bme) t.heap ∧ va_K D vwCl (tyW ky) t ∧ va_D A (w_partbook ky aP ag al aB ax au ay am res.1 prc res.2 pla bsz bgp ber bxs bus bys bme)) A) ([.ref aP, .ref aB]).toArray s 0 0 A) (F0 m pc ls []) := fun pc H locs ls hd hP hD hS => W.vret hx hb hr (fun t ht hW => ⟨⟨(), rfl, trivial, by rw [ht]; exact hP, va_K.moved hW.alike hK, hD⟩, hS.F ht⟩) hS.2.2 hd
  unfold f_X4_findGreatest at hF
  refine lv_aload_n hx hb dX4_findGreatest_0 rfl (lv_at hl 0 rfl) ?_
  refine lv_iconst (v := (0 : Int32)) hx hb dX4_findGreatest_1 (by decide) ?_
  refine va_put (D := D) (ci := 3) (v := .int (0 : Int32)) (ty := .int) (C := RX4) (T := TX4) (N := 4) hx hb hts iX4_findGreatest_X4 tyX4 tyX4_ok nmX4 hown hK hP hD hS 0 rfl rfl 1 (by decide) (hts _ kX4_findGreatest_1) (fun _ h9 => h9) rfl (by decide +kernel) rfl rfl (Nat.le_of_ble_eq_true rfl) dX4_findGreatest_2 (fun H locs hP hD hS => ?_)
  have hP : va_P D vwCl (w_partbook ky aP ag al aB ax au ay am (0 : Int32) prc pgr pla bsz bgp ber bxs bus bys bme) H := hP
  have hD : va_D A (w_partbook ky aP ag al aB ax au ay am (0 : Int32) prc pgr pla bsz bgp ber bxs bus bys bme) := hD
  refine lv_iconst (v := (0 : Int32)) hx hb dX4_findGreatest_5 (by decide) ?_
  refine lv_istore_n (lv' := [(2, .int (0 : Int32)), (0, .ref aP), (1, .ref aB)]) hx hb dX4_findGreatest_6 rfl hl (by decide) rfl (fun ls hl => ?_)
  exact w_X4_findGreatest_7 N C res hQ  N (0 : Int32) (0 : Int32) pgr hF _ _ _ hP hD hS (lv_sub hl [1, 2, 0] rfl)
theorem c_X4_findGreatest (l : Launch) (D : va_G) (ky : Nat → ClassId) (aP ag al aB ax au ay am : Nat) (sz N : Nat)  (pgc : Int32) (prc : Int32) (pgr : Nat → Int32) (pla : Nat → Int32) (bsz : Int32) (bgp : Int32) (ber : Int32) (bxs : Nat → Int32) (bus : Nat → Int32) (bys : Nat → Int32) (bme : Nat → Int32)  (pgc' : Int32) (pgr' : Nat → Int32) (hF : f_X4_findGreatest N pgr bme = some (pgc', pgr')) : MV l yX4_findGreatest wsX4_findGreatest rm_X4_findGreatest D ky sz [.ref aP, .ref aB] (w_partbook ky aP ag al aB ax au ay am pgc prc pgr pla bsz bgp ber bxs bus bys bme) (w_partbook ky aP ag al aB ax au ay am pgc' prc pgr' pla bsz bgp ber bxs bus bys bme) :=
  cr_X4_findGreatest l D ky aP ag al aB ax au ay am sz N pgc prc pgr pla bsz bgp ber bxs bus bys bme (pgc', pgr') hF
abbrev rm_X4_countLaws : Room := { frames := 1, cells := 0, slots := 0, locals := 21 }
theorem iX4_countLaws_X4 : ∀ w ∈ wsX40, w ∈ wsX4_countLaws := by decide +kernel
theorem kX4_countLaws_1 : (Cond.fieldLink RX4 15 "TwoLaws$Partings" "greatestCount" "I") ∈ wsX4_countLaws := by decide +kernel
theorem kX4_countLaws_2 : (Cond.fieldLink RX4 9 "TwoLaws$Partings" "greatest" "[I") ∈ wsX4_countLaws := by decide +kernel
theorem kX4_countLaws_3 : (Cond.methodLink RX4 69 Lib.Math.min.name) ∈ wsX4_countLaws := by decide +kernel
theorem kX4_countLaws_4 : (Cond.static Lib.Math.min.name) ∈ wsX4_countLaws := by decide +kernel
theorem kX4_countLaws_5 : (Cond.initialized "java/lang/Math") ∈ wsX4_countLaws := by decide +kernel
theorem kX4_countLaws_6 : (Cond.code Lib.Math.min.name Lib.Math.min.code 2 (some .int)) ∈ wsX4_countLaws := by decide +kernel
set_option maxHeartbeats 4000000 in
set_option maxRecDepth 100000 in
theorem w_X4_countLaws_11 {p : Program} {l : Launch} {e : Env} {s : State} {m : MethodId} {args : Array Value} {below : List Frame} {meth : Method} {c : Code} {Q : State → Prop} {A : Nat → Prop} {D : va_G} {ky : Nat → ClassId} {aP ag al : Nat} {pgc : Int32} {prc : Int32} {pgr : Nat → Int32} {pla : Nat → Int32} (N : Nat) (C : cx p s m c args D ky A cX4_countLaws 5 wsX4_countLaws RX4) (res : Int32) (hQ : ∀ (pc : Nat) (H : Heap) (locs : List Loc) (ls : Array Slot), decode cX4_countLaws pc = .ok (.ireturn, 1) → va_P D vwCl (w_part ky aP ag al pgc prc pgr pla) H → va_D A (w_part ky aP ag al pgc prc pgr pla) → va_S A s.heap H locs → W p l e rm_X4_countLaws s m args below meth c H locs 0 0 Q (F0 m pc ls [.int res])) (l1 : Int32) (l2 : Int32) : ∀ (n : Nat) (l3 : Int32) (l4 : Int32), f_X4_countLaws_11 N l1 l2 pgc pgr pla n l3 l4 = some res → ∀ (H : Heap) (locs : List Loc) (ls : Array Slot), va_P D vwCl (w_part ky aP ag al pgc prc pgr pla) H → va_D A (w_part ky aP ag al pgc prc pgr pla) → va_S A s.heap H locs → lv_has ls 5 [(0, .ref aP), (1, .int l1), (2, .int l2), (3, .int l3), (4, .int l4)] → W p l e rm_X4_countLaws s m args below meth c H locs 0 0 Q (F0 m 11 ls []) := by
  obtain ⟨hx, hb, hml, hown, hts, hK, hA⟩ := id C
  intro n
  induction n with
  | zero =>
    intro l3 l4 hF
    cases hF
  | succ n ih =>
    intro l3 l4 hF H locs ls hP hD hS hl
    have hF : b_X4_countLaws_11 N l1 l2 pgc pgr pla (f_X4_countLaws_11 N l1 l2 pgc pgr pla n) l3 l4 = some res := hF
    unfold b_X4_countLaws_11 at hF
    refine lv_iload hx hb dX4_countLaws_11 (lv_at hl 4 rfl) ?_
    refine lv_aload_n hx hb dX4_countLaws_13 rfl (lv_at hl 0 rfl) ?_
    refine va_get (D := D) (ci := 3) (v := .int pgc) (C := RX4) (T := TX4) (N := 4) hx hb hts iX4_countLaws_X4 hown hK hP 0 rfl rfl 1 (by decide) (hts _ kX4_countLaws_1) (fun _ h9 => h9) rfl dX4_countLaws_14 ?_
    refine lv_icmp_ge (tgt := 70) hx hb dX4_countLaws_17 (by decide) (fun c1 => ?_) (fun c1 => ?_)
    · have hF := if_t c1 hF
      refine lv_iload_n hx hb dX4_countLaws_70 rfl (lv_at hl 3 rfl) ?_
      have hF := Option.some.inj hF
      subst hF
      exact hQ _ H _ _ dX4_countLaws_71 hP hD hS
    · have hF := if_f c1 hF
      refine lv_iload hx hb dX4_countLaws_20 (lv_at hl 4 rfl) ?_
      refine lv_aload_n hx hb dX4_countLaws_22 rfl (lv_at hl 0 rfl) ?_
      refine va_get (D := D) (ci := 3) (v := .ref ag) (C := RX4) (T := TX4) (N := 4) hx hb hts iX4_countLaws_X4 hown hK hP 0 rfl rfl 0 (by decide) (hts _ kX4_countLaws_2) (fun _ h9 => h9) rfl dX4_countLaws_23 ?_
      refine va_alen (v := (289 : Int32)) hx hb hK hP 1 0 rfl rfl rfl dX4_countLaws_26 ?_
      refine lv_icmp_ge (tgt := 70) hx hb dX4_countLaws_27 (by decide) (fun c2 => ?_) (fun c2 => ?_)
      · have hF := if_t c2 hF
        refine lv_iload_n hx hb dX4_countLaws_70 rfl (lv_at hl 3 rfl) ?_
        have hF := Option.some.inj hF
        subst hF
        exact hQ _ H _ _ dX4_countLaws_71 hP hD hS
      · have hF := if_f c2 hF
        refine lv_aload_n hx hb dX4_countLaws_30 rfl (lv_at hl 0 rfl) ?_
        refine va_get (D := D) (ci := 3) (v := .ref ag) (C := RX4) (T := TX4) (N := 4) hx hb hts iX4_countLaws_X4 hown hK hP 0 rfl rfl 0 (by decide) (hts _ kX4_countLaws_2) (fun _ h9 => h9) rfl dX4_countLaws_31 ?_
        refine lv_iload hx hb dX4_countLaws_34 (lv_at hl 4 rfl) ?_
        obtain ⟨h3, hF⟩ := gi_s hF
        refine va_iald hx hb hK hP 1 0 rfl rfl h3 dX4_countLaws_36 ?_
        refine lv_iload_n hx hb dX4_countLaws_37 rfl (lv_at hl 2 rfl) ?_
        refine lv_iand hx hb dX4_countLaws_38 ?_
        refine lv_if_eq (tgt := 64) hx hb dX4_countLaws_39 (by decide) (fun c4 => ?_) (fun c4 => ?_)
        · have hF := if_t c4 hF
          refine lv_iinc (v := (l4 + (1 : Int32))) (lv' := [(4, .int (l4 + (1 : Int32))), (0, .ref aP), (1, .int l1), (2, .int l2), (3, .int l3)]) hx hb dX4_countLaws_64 hl (k := 4) rfl rfl (by decide) rfl (fun ls hl => ?_)
          refine lv_goto (tgt := 11) hx hb dX4_countLaws_67 (by decide) ?_
          exact ih l3 (l4 + (1 : Int32)) hF H _ _ hP hD hS (lv_sub hl [1, 2, 3, 4, 0] rfl)
        · have hF := if_f c4 hF
          refine lv_iload_n hx hb dX4_countLaws_42 rfl (lv_at hl 3 rfl) ?_
          refine lv_iconst (v := (1 : Int32)) hx hb dX4_countLaws_43 (by decide) ?_
          refine lv_aload_n hx hb dX4_countLaws_44 rfl (lv_at hl 0 rfl) ?_
          refine lv_iload_n hx hb dX4_countLaws_45 rfl (lv_at hl 1 rfl) ?_
          refine lv_aload_n hx hb dX4_countLaws_46 rfl (lv_at hl 0 rfl) ?_
          refine va_get (D := D) (ci := 3) (v := .ref ag) (C := RX4) (T := TX4) (N := 4) hx hb hts iX4_countLaws_X4 hown hK hP 0 rfl rfl 0 (by decide) (hts _ kX4_countLaws_2) (fun _ h9 => h9) rfl dX4_countLaws_47 ?_
          refine lv_iload hx hb dX4_countLaws_50 (lv_at hl 4 rfl) ?_
          obtain ⟨h5, hF⟩ := gi_s hF
          refine va_iald hx hb hK hP 1 0 rfl rfl h5 dX4_countLaws_52 ?_
          refine lv_iconst (v := (-1 : Int32)) hx hb dX4_countLaws_53 (by decide) ?_
          refine lv_ixor hx hb dX4_countLaws_54 ?_
          refine lv_iand hx hb dX4_countLaws_55 ?_
          obtain ⟨r7, h6, hF⟩ := b1_s hF
          refine cl_vi (As := [.int (l1 &&& ((pgr l4.toNatClampNeg) ^^^ (-1 : Int32)))]) (rest := [.int (1 : Int32), .int l3]) (w' := (w_part ky aP ag al pgc prc pgr pla)) ⟨hx, hb, hml, hown, hts⟩ hK hP hD hS hA (c_X4_lawsFor l D ky aP ag al _ N  pgc prc pgr pla (l1 &&& ((pgr l4.toNatClampNeg) ^^^ (-1 : Int32))) r7 h6) (cwV 1 hts gX4_countLaws_X4_lawsFor rfl rfl rfl (by decide +kernel) ⟨Nat.le_of_ble_eq_true rfl, Nat.le_of_ble_eq_true rfl⟩) [0, 1, 2] [] [0, 1, 2] 0 3 rfl rfl rfl rfl (wr := []) rfl (by decide) rfl rfl hl.1 (Nat.le_of_ble_eq_true rfl) dX4_countLaws_56 ⟨Nat.zero_le _, Nat.zero_le _⟩ (fun H locs hP hD hS => ?_)
          refine lv_iadd hx hb dX4_countLaws_59 ?_
          refine va_mmin hx hb (hml.trans hl.1.symm) hown (hts _ kX4_countLaws_3) (hts _ kX4_countLaws_4) (hts _ kX4_countLaws_5) (hts _ kX4_countLaws_6) (Nat.le_of_ble_eq_true rfl) (Nat.le_of_ble_eq_true rfl) (Nat.zero_le _) (Nat.zero_le _) dX4_countLaws_60 ?_
          refine lv_istore_n (lv' := [(3, .int (if ((1 : Int32) + r7) < l3 then ((1 : Int32) + r7) else l3)), (0, .ref aP), (1, .int l1), (2, .int l2), (4, .int l4)]) hx hb dX4_countLaws_63 rfl hl (by decide) rfl (fun ls hl => ?_)
          refine lv_iinc (v := (l4 + (1 : Int32))) (lv' := [(4, .int (l4 + (1 : Int32))), (3, .int (if ((1 : Int32) + r7) < l3 then ((1 : Int32) + r7) else l3)), (0, .ref aP), (1, .int l1), (2, .int l2)]) hx hb dX4_countLaws_64 hl (k := 4) rfl rfl (by decide) rfl (fun ls hl => ?_)
          refine lv_goto (tgt := 11) hx hb dX4_countLaws_67 (by decide) ?_
          exact ih (if ((1 : Int32) + r7) < l3 then ((1 : Int32) + r7) else l3) (l4 + (1 : Int32)) hF H _ _ hP hD hS (lv_sub hl [2, 3, 4, 1, 0] rfl)
set_option maxHeartbeats 4000000 in
set_option maxRecDepth 100000 in
theorem cr_X4_countLaws (l : Launch) (D : va_G) (ky : Nat → ClassId) (aP ag al : Nat) (sz N : Nat)  (pgc : Int32) (prc : Int32) (pgr : Nat → Int32) (pla : Nat → Int32) (p0 : Int32) (res : Int32) (hF : f_X4_countLaws N p0 pgc pgr pla = some res) : MI l yX4_countLaws wsX4_countLaws rm_X4_countLaws D ky sz [.ref aP, .int p0] (w_part ky aP ag al pgc prc pgr pla) (w_part ky aP ag al pgc prc pgr pla) res := by
  unfold MI
  refine Met.ofW (cc := cX4_countLaws) (maxL := 5) (ret := (some .int)) (by decide) rfl ?_
  intro p e s m args below meth c s₁ B hml hv
  obtain ⟨rfl, hsz, hP, hK, hD0⟩ := hv
  have hx := B.exec
  have hb := B.bytes
  have hr := B.returns
  have hts := atoms_spec (ws := wsX4_countLaws) B.pre
  have hown : s.vm.findClass RX4 = some m.cls := findClass_of_methodNamed B.named
  have hlocks := B.notSynchronized
  subst hsz
  have hD := hD0.self (sz := s.heap.size)
  generalize hAe : va_A (w_part ky aP ag al pgc prc pgr pla) s.heap.size = A at hD ⊢
  have hA : ∀ q : Nat, s.heap.size ≤ q → A q := fun q h => by rw [← hAe]; exact Or.inr h
  have hS : va_S A s.heap s.heap [] := va_S.rf
  have hP : va_P D vwCl (w_part ky aP ag al pgc prc pgr pla) s.heap := hP
  have hl := lv_entry ([.ref aP, .int p0]) (n := 5) (Nat.le_of_ble_eq_true rfl)
  rw [lg_entry_eq]
  generalize (lg_sl ([.ref aP, .int p0]) ++ List.replicate (5 - (lg_sl ([.ref aP, .int p0])).length) Slot.unset).toArray = ls at hl ⊢
  have hl : lv_has ls 5 [(0, .ref aP), (1, .int p0)] := hl
  have C : cx p s m c ([.ref aP, .int p0]).toArray D ky A cX4_countLaws 5 wsX4_countLaws RX4 := ⟨hx, hb, hml, hown, hts, hK, hA⟩
  have hQ : ∀ (pc : Nat) (H : Heap) (locs : List Loc) (ls : Array Slot), decode cX4_countLaws pc = .ok (.ireturn, 1) → va_P D vwCl (w_part ky aP ag al pgc prc pgr pla) H → va_D A (w_part ky aP ag al pgc prc pgr pla) → va_S A s.heap H locs → W p l e rm_X4_countLaws s m ([.ref aP, .int p0]).toArray below meth c H locs 0 0 (MQ below (va_Qi (S := Unit) (fun r _ => r = res) (fun _ t => va_P D vwCl (w_part ky aP ag al pgc prc pgr pla) t.heap ∧ va_K D vwCl (tyW ky) t ∧ va_D A (w_part ky aP ag al pgc prc pgr pla)) A) ([.ref aP, .int p0]).toArray s 0 0 A) (F0 m pc ls [.int res]) := fun pc H locs ls hd hP hD hS => W.iret hx hb hr (fun t ht hW => ⟨⟨res, (), rfl, rfl, by rw [ht]; exact hP, va_K.moved hW.alike hK, hD⟩, hS.F ht⟩) hS.2.2 hd
  unfold f_X4_countLaws at hF
  refine lv_iload_n hx hb dX4_countLaws_0 rfl (lv_at hl 1 rfl) ?_
  refine lv_iload_n hx hb dX4_countLaws_1 rfl (lv_at hl 1 rfl) ?_
  refine lv_ineg hx hb dX4_countLaws_2 ?_
  refine lv_iand hx hb dX4_countLaws_3 ?_
  refine lv_istore_n (lv' := [(2, .int (p0 &&& (-p0))), (0, .ref aP), (1, .int p0)]) hx hb dX4_countLaws_4 rfl hl (by decide) rfl (fun ls hl => ?_)
  refine lv_bipush (v := (100 : Int32)) hx hb dX4_countLaws_5 (by decide) ?_
  refine lv_istore_n (lv' := [(3, .int (100 : Int32)), (2, .int (p0 &&& (-p0))), (0, .ref aP), (1, .int p0)]) hx hb dX4_countLaws_7 rfl hl (by decide) rfl (fun ls hl => ?_)
  refine lv_iconst (v := (0 : Int32)) hx hb dX4_countLaws_8 (by decide) ?_
  refine lv_istore (lv' := [(4, .int (0 : Int32)), (3, .int (100 : Int32)), (2, .int (p0 &&& (-p0))), (0, .ref aP), (1, .int p0)]) hx hb dX4_countLaws_9 hl (by decide) rfl (fun ls hl => ?_)
  exact w_X4_countLaws_11 N C res hQ p0 (p0 &&& (-p0)) N (100 : Int32) (0 : Int32) hF _ _ _ hP hD hS (lv_sub hl [3, 4, 2, 1, 0] rfl)
theorem c_X4_countLaws (l : Launch) (D : va_G) (ky : Nat → ClassId) (aP ag al : Nat) (sz N : Nat)  (pgc : Int32) (prc : Int32) (pgr : Nat → Int32) (pla : Nat → Int32) (p0 : Int32) (rv : Int32) (hF : f_X4_countLaws N p0 pgc pgr pla = some (rv)) : MI l yX4_countLaws wsX4_countLaws rm_X4_countLaws D ky sz [.ref aP, .int p0] (w_part ky aP ag al pgc prc pgr pla) (w_part ky aP ag al pgc prc pgr pla) rv :=
  cr_X4_countLaws l D ky aP ag al sz N pgc prc pgr pla p0 (rv) hF
abbrev rm_X4_countHeaps : Room := { frames := 2, cells := 0, slots := 0, locals := 46 }
theorem iX4_countHeaps_X4 : ∀ w ∈ wsX40, w ∈ wsX4_countHeaps := by decide +kernel
theorem kX4_countHeaps_1 : (Cond.fieldLink RX4 23 "TwoLaws$Partings" "rowsCounted" "I") ∈ wsX4_countHeaps := by decide +kernel
theorem kX4_countHeaps_2 : (Cond.fieldLink RX4 19 "TwoLaws$Partings" "laws" "[B") ∈ wsX4_countHeaps := by decide +kernel
set_option maxHeartbeats 4000000 in
set_option maxRecDepth 100000 in
theorem w_X4_countHeaps_24 {p : Program} {l : Launch} {e : Env} {s : State} {m : MethodId} {args : Array Value} {below : List Frame} {meth : Method} {c : Code} {Q : State → Prop} {A : Nat → Prop} {D : va_G} {ky : Nat → ClassId} {aP ag al aB ax au ay am : Nat} {bsz : Int32} {bgp : Int32} {ber : Int32} {bxs : Nat → Int32} {bus : Nat → Int32} {bys : Nat → Int32} {bme : Nat → Int32} (N : Nat) (C : cx p s m c args D ky A cX4_countHeaps 3 wsX4_countHeaps RX4) (res : Int32 × Int32 × (Nat → Int32) × (Nat → Int32)) (hQ : ∀ (pc : Nat) (H : Heap) (locs : List Loc) (ls : Array Slot), decode cX4_countHeaps pc = .ok (.return_, 1) → va_P D vwCl (w_partbook ky aP ag al aB ax au ay am res.1 res.2.1 res.2.2.1 res.2.2.2 bsz bgp ber bxs bus bys bme) H → va_D A (w_partbook ky aP ag al aB ax au ay am res.1 res.2.1 res.2.2.1 res.2.2.2 bsz bgp ber bxs bus bys bme) → va_S A s.heap H locs → W p l e rm_X4_countHeaps s m args below meth c H locs 0 0 Q (F0 m pc ls [])) (pgc : Int32) (pgr : Nat → Int32) : ∀ (n : Nat) (l2 : Int32) (prc : Int32) (pla : Nat → Int32), f_X4_countHeaps_24 N pgc pgr bsz n l2 pla = some res → ∀ (H : Heap) (locs : List Loc) (ls : Array Slot), va_P D vwCl (w_partbook ky aP ag al aB ax au ay am pgc prc pgr pla bsz bgp ber bxs bus bys bme) H → va_D A (w_partbook ky aP ag al aB ax au ay am pgc prc pgr pla bsz bgp ber bxs bus bys bme) → va_S A s.heap H locs → lv_has ls 3 [(0, .ref aP), (1, .ref aB), (2, .int l2)] → W p l e rm_X4_countHeaps s m args below meth c H locs 0 0 Q (F0 m 24 ls []) := by
  obtain ⟨hx, hb, hml, hown, hts, hK, hA⟩ := id C
  intro n
  induction n with
  | zero =>
    intro l2 prc pla hF
    cases hF
  | succ n ih =>
    intro l2 prc pla hF H locs ls hP hD hS hl
    have hF : b_X4_countHeaps_24 N pgc pgr bsz (f_X4_countHeaps_24 N pgc pgr bsz n) l2 pla = some res := hF
    unfold b_X4_countHeaps_24 at hF
    refine lv_iload_n hx hb dX4_countHeaps_24 rfl (lv_at hl 2 rfl) ?_
    refine lv_aload_n hx hb dX4_countHeaps_25 rfl (lv_at hl 1 rfl) ?_
    obtain ⟨r8, h7, hF⟩ := b1_s hF
    refine cl_vi (As := []) (rest := [.int l2]) (w' := (w_partbook ky aP ag al aB ax au ay am pgc prc pgr pla bsz bgp ber bxs bus bys bme)) ⟨hx, hb, hml, hown, hts⟩ hK hP hD hS hA (c_X0_all l D ky aB ax au ay am _ N  bsz bgp ber bxs bus bys bme  r8 h7) (cwV 0 hts gX4_countHeaps_X0_all rfl rfl rfl (by decide +kernel) ⟨Nat.le_of_ble_eq_true rfl, Nat.le_of_ble_eq_true rfl⟩) [3, 4, 5, 6, 7] [0, 1, 2] [0, 1, 2, 3, 4, 5, 6, 7] 0 0 rfl rfl rfl rfl (wr := [(aP, .inr (3, [.ref ag, .int pgc, .ref al, .int prc])), (ag, .inl (ky 0, 289, .inl pgr)), (al, .inl (ky 1, 4096, .inl pla))]) rfl (by decide) rfl rfl hl.1 (Nat.le_of_ble_eq_true rfl) dX4_countHeaps_26 ⟨Nat.zero_le _, Nat.zero_le _⟩ (fun H locs hP hD hS => ?_)
    refine lv_icmp_gt (tgt := 59) hx hb dX4_countHeaps_29 (by decide) (fun c9 => ?_) (fun c9 => ?_)
    · have hF := if_t c9 hF
      refine lv_aload_n hx hb dX4_countHeaps_59 rfl (lv_at hl 0 rfl) ?_
      refine lv_aload_n hx hb dX4_countHeaps_60 rfl (lv_at hl 1 rfl) ?_
      obtain ⟨r11, h10, hF⟩ := b1_s hF
      refine cl_vi (As := []) (rest := [.ref aP]) (w' := (w_partbook ky aP ag al aB ax au ay am pgc prc pgr pla bsz bgp ber bxs bus bys bme)) ⟨hx, hb, hml, hown, hts⟩ hK hP hD hS hA (c_X0_size l D ky aB ax au ay am _ N  bsz bgp ber bxs bus bys bme  r11 h10) (cwV 0 hts gX4_countHeaps_X0_size rfl rfl rfl (by decide +kernel) ⟨Nat.le_of_ble_eq_true rfl, Nat.le_of_ble_eq_true rfl⟩) [3, 4, 5, 6, 7] [0, 1, 2] [0, 1, 2, 3, 4, 5, 6, 7] 0 0 rfl rfl rfl rfl (wr := [(aP, .inr (3, [.ref ag, .int pgc, .ref al, .int prc])), (ag, .inl (ky 0, 289, .inl pgr)), (al, .inl (ky 1, 4096, .inl pla))]) rfl (by decide) rfl rfl hl.1 (Nat.le_of_ble_eq_true rfl) dX4_countHeaps_61 ⟨Nat.zero_le _, Nat.zero_le _⟩ (fun H locs hP hD hS => ?_)
      refine va_put (D := D) (ci := 3) (v := .int r11) (ty := .int) (C := RX4) (T := TX4) (N := 4) hx hb hts iX4_countHeaps_X4 tyX4 tyX4_ok nmX4 hown hK hP hD hS 0 rfl rfl 3 (by decide) (hts _ kX4_countHeaps_1) (fun _ h9 => h9) rfl (by decide +kernel) rfl rfl (Nat.le_of_ble_eq_true rfl) dX4_countHeaps_64 (fun H locs hP hD hS => ?_)
      have hP : va_P D vwCl (w_partbook ky aP ag al aB ax au ay am pgc r11 pgr pla bsz bgp ber bxs bus bys bme) H := hP
      have hD : va_D A (w_partbook ky aP ag al aB ax au ay am pgc r11 pgr pla bsz bgp ber bxs bus bys bme) := hD
      have hF := Option.some.inj hF
      subst hF
      exact hQ _ H _ _ dX4_countHeaps_67 hP hD hS
    · have hF := if_f c9 hF
      refine lv_iload_n hx hb dX4_countHeaps_32 rfl (lv_at hl 2 rfl) ?_
      refine lv_aload_n hx hb dX4_countHeaps_33 rfl (lv_at hl 0 rfl) ?_
      refine va_get (D := D) (ci := 3) (v := .ref al) (C := RX4) (T := TX4) (N := 4) hx hb hts iX4_countHeaps_X4 hown hK hP 0 rfl rfl 2 (by decide) (hts _ kX4_countHeaps_2) (fun _ h9 => h9) rfl dX4_countHeaps_34 ?_
      refine va_alen (v := (4096 : Int32)) hx hb hK hP 2 1 rfl rfl rfl dX4_countHeaps_37 ?_
      refine lv_icmp_ge (tgt := 59) hx hb dX4_countHeaps_38 (by decide) (fun c12 => ?_) (fun c12 => ?_)
      · have hF := if_t c12 hF
        refine lv_aload_n hx hb dX4_countHeaps_59 rfl (lv_at hl 0 rfl) ?_
        refine lv_aload_n hx hb dX4_countHeaps_60 rfl (lv_at hl 1 rfl) ?_
        obtain ⟨r14, h13, hF⟩ := b1_s hF
        refine cl_vi (As := []) (rest := [.ref aP]) (w' := (w_partbook ky aP ag al aB ax au ay am pgc prc pgr pla bsz bgp ber bxs bus bys bme)) ⟨hx, hb, hml, hown, hts⟩ hK hP hD hS hA (c_X0_size l D ky aB ax au ay am _ N  bsz bgp ber bxs bus bys bme  r14 h13) (cwV 0 hts gX4_countHeaps_X0_size rfl rfl rfl (by decide +kernel) ⟨Nat.le_of_ble_eq_true rfl, Nat.le_of_ble_eq_true rfl⟩) [3, 4, 5, 6, 7] [0, 1, 2] [0, 1, 2, 3, 4, 5, 6, 7] 0 0 rfl rfl rfl rfl (wr := [(aP, .inr (3, [.ref ag, .int pgc, .ref al, .int prc])), (ag, .inl (ky 0, 289, .inl pgr)), (al, .inl (ky 1, 4096, .inl pla))]) rfl (by decide) rfl rfl hl.1 (Nat.le_of_ble_eq_true rfl) dX4_countHeaps_61 ⟨Nat.zero_le _, Nat.zero_le _⟩ (fun H locs hP hD hS => ?_)
        refine va_put (D := D) (ci := 3) (v := .int r14) (ty := .int) (C := RX4) (T := TX4) (N := 4) hx hb hts iX4_countHeaps_X4 tyX4 tyX4_ok nmX4 hown hK hP hD hS 0 rfl rfl 3 (by decide) (hts _ kX4_countHeaps_1) (fun _ h9 => h9) rfl (by decide +kernel) rfl rfl (Nat.le_of_ble_eq_true rfl) dX4_countHeaps_64 (fun H locs hP hD hS => ?_)
        have hP : va_P D vwCl (w_partbook ky aP ag al aB ax au ay am pgc r14 pgr pla bsz bgp ber bxs bus bys bme) H := hP
        have hD : va_D A (w_partbook ky aP ag al aB ax au ay am pgc r14 pgr pla bsz bgp ber bxs bus bys bme) := hD
        have hF := Option.some.inj hF
        subst hF
        exact hQ _ H _ _ dX4_countHeaps_67 hP hD hS
      · have hF := if_f c12 hF
        refine lv_aload_n hx hb dX4_countHeaps_41 rfl (lv_at hl 0 rfl) ?_
        refine va_get (D := D) (ci := 3) (v := .ref al) (C := RX4) (T := TX4) (N := 4) hx hb hts iX4_countHeaps_X4 hown hK hP 0 rfl rfl 2 (by decide) (hts _ kX4_countHeaps_2) (fun _ h9 => h9) rfl dX4_countHeaps_42 ?_
        refine lv_iload_n hx hb dX4_countHeaps_45 rfl (lv_at hl 2 rfl) ?_
        refine lv_aload_n hx hb dX4_countHeaps_46 rfl (lv_at hl 0 rfl) ?_
        refine lv_iload_n hx hb dX4_countHeaps_47 rfl (lv_at hl 2 rfl) ?_
        obtain ⟨r16, h15, hF⟩ := b1_s hF
        refine cl_vi (As := [.int l2]) (rest := [.int l2, .ref al]) (w' := (w_partbook ky aP ag al aB ax au ay am pgc prc pgr pla bsz bgp ber bxs bus bys bme)) ⟨hx, hb, hml, hown, hts⟩ hK hP hD hS hA (c_X4_countLaws l D ky aP ag al _ N  pgc prc pgr pla l2 r16 h15) (cwV 1 hts gX4_countHeaps_X4_countLaws rfl rfl rfl (by decide +kernel) ⟨Nat.le_of_ble_eq_true rfl, Nat.le_of_ble_eq_true rfl⟩) [0, 1, 2] [3, 4, 5, 6, 7] [5, 6, 7, 0, 1, 2, 3, 4] 0 3 rfl rfl rfl rfl (wr := [(aB, .inr (0, [.ref ax, .ref au, .ref ay, .ref am, .int bsz, .int bgp, .int ber])), (ax, .inl (ky 0, 12, .inl bxs)), (au, .inl (ky 0, 12, .inl bus)), (ay, .inl (ky 0, 12, .inl bys)), (am, .inl (ky 0, 289, .inl bme))]) rfl (by decide) rfl rfl hl.1 (Nat.le_of_ble_eq_true rfl) dX4_countHeaps_48 ⟨Nat.zero_le _, Nat.zero_le _⟩ (fun H locs hP hD hS => ?_)
        refine lv_i2b (v := (r16.toInt8.toInt32)) hx hb dX4_countHeaps_51 rfl ?_
        obtain ⟨h17, hF⟩ := gi_s hF
        refine va_bast hx hb hK hP hD hS 2 1 rfl rfl h17 dX4_countHeaps_52 (fun H locs hP hD hS => ?_)
        have hP : va_P D vwCl (w_partbook ky aP ag al aB ax au ay am pgc prc pgr (upd pla l2.toNatClampNeg (vp_nar .byte (r16.toInt8.toInt32))) bsz bgp ber bxs bus bys bme) H := hP
        have hD : va_D A (w_partbook ky aP ag al aB ax au ay am pgc prc pgr (upd pla l2.toNatClampNeg (vp_nar .byte (r16.toInt8.toInt32))) bsz bgp ber bxs bus bys bme) := hD
        refine lv_iinc (v := (l2 + (1 : Int32))) (lv' := [(2, .int (l2 + (1 : Int32))), (0, .ref aP), (1, .ref aB)]) hx hb dX4_countHeaps_53 hl (k := 2) rfl rfl (by decide) rfl (fun ls hl => ?_)
        refine lv_goto (tgt := 24) hx hb dX4_countHeaps_56 (by decide) ?_
        exact ih (l2 + (1 : Int32)) prc (upd pla l2.toNatClampNeg (vp_nar .byte (r16.toInt8.toInt32))) hF H _ _ hP hD hS (lv_sub hl [1, 2, 0] rfl)
set_option maxHeartbeats 4000000 in
set_option maxRecDepth 100000 in
theorem cr_X4_countHeaps (l : Launch) (D : va_G) (ky : Nat → ClassId) (aP ag al aB ax au ay am : Nat) (sz N : Nat)  (pgc : Int32) (prc : Int32) (pgr : Nat → Int32) (pla : Nat → Int32) (bsz : Int32) (bgp : Int32) (ber : Int32) (bxs : Nat → Int32) (bus : Nat → Int32) (bys : Nat → Int32) (bme : Nat → Int32)  (res : Int32 × Int32 × (Nat → Int32) × (Nat → Int32)) (hF : f_X4_countHeaps N pgc prc pgr pla bsz bme = some res) : MV l yX4_countHeaps wsX4_countHeaps rm_X4_countHeaps D ky sz [.ref aP, .ref aB] (w_partbook ky aP ag al aB ax au ay am pgc prc pgr pla bsz bgp ber bxs bus bys bme) (w_partbook ky aP ag al aB ax au ay am res.1 res.2.1 res.2.2.1 res.2.2.2 bsz bgp ber bxs bus bys bme) := by
  unfold MV
  refine Met.ofW (cc := cX4_countHeaps) (maxL := 3) (ret := none) (by decide) rfl ?_
  intro p e s m args below meth c s₁ B hml hv
  obtain ⟨rfl, hsz, hP, hK, hD0⟩ := hv
  have hx := B.exec
  have hb := B.bytes
  have hr := B.returns
  have hts := atoms_spec (ws := wsX4_countHeaps) B.pre
  have hown : s.vm.findClass RX4 = some m.cls := findClass_of_methodNamed B.named
  have hlocks := B.notSynchronized
  subst hsz
  have hD := hD0.self (sz := s.heap.size)
  generalize hAe : va_A (w_partbook ky aP ag al aB ax au ay am pgc prc pgr pla bsz bgp ber bxs bus bys bme) s.heap.size = A at hD ⊢
  have hA : ∀ q : Nat, s.heap.size ≤ q → A q := fun q h => by rw [← hAe]; exact Or.inr h
  have hS : va_S A s.heap s.heap [] := va_S.rf
  have hP : va_P D vwCl (w_partbook ky aP ag al aB ax au ay am pgc prc pgr pla bsz bgp ber bxs bus bys bme) s.heap := hP
  have hl := lv_entry ([.ref aP, .ref aB]) (n := 3) (Nat.le_of_ble_eq_true rfl)
  rw [lg_entry_eq]
  generalize (lg_sl ([.ref aP, .ref aB]) ++ List.replicate (3 - (lg_sl ([.ref aP, .ref aB])).length) Slot.unset).toArray = ls at hl ⊢
  have hl : lv_has ls 3 [(0, .ref aP), (1, .ref aB)] := hl
  have C : cx p s m c ([.ref aP, .ref aB]).toArray D ky A cX4_countHeaps 3 wsX4_countHeaps RX4 := ⟨hx, hb, hml, hown, hts, hK, hA⟩
  have hQ : ∀ (pc : Nat) (H : Heap) (locs : List Loc) (ls : Array Slot), decode cX4_countHeaps pc = .ok (.return_, 1) → va_P D vwCl (w_partbook ky aP ag al aB ax au ay am res.1 res.2.1 res.2.2.1 res.2.2.2 bsz bgp ber bxs bus bys bme) H → va_D A (w_partbook ky aP ag al aB ax au ay am res.1 res.2.1 res.2.2.1 res.2.2.2 bsz bgp ber bxs bus bys bme) → va_S A s.heap H locs → W p l e rm_X4_countHeaps s m ([.ref aP, .ref aB]).toArray below meth c H locs 0 0 (MQ below (va_Qv (S := Unit) (fun _ => True) (fun _ t => va_P D vwCl (w_partbook ky aP ag al aB ax au ay am res.1 res.2.1 res.2.2.1 res.2.2.2 bsz bgp ber bxs bus bys bme) t.heap ∧ va_K D vwCl (tyW ky) t ∧ va_D A (w_partbook ky aP ag al aB ax au ay am res.1 res.2.1 res.2.2.1 res.2.2.2 bsz bgp ber bxs bus bys bme)) A) ([.ref aP, .ref aB]).toArray s 0 0 A) (F0 m pc ls []) := fun pc H locs ls hd hP hD hS => W.vret hx hb hr (fun t ht hW => ⟨⟨(), rfl, trivial, by rw [ht]; exact hP, va_K.moved hW.alike hK, hD⟩, hS.F ht⟩) hS.2.2 hd
  unfold f_X4_countHeaps at hF
  refine lv_aload_n hx hb dX4_countHeaps_0 rfl (lv_at hl 0 rfl) ?_
  refine va_get (D := D) (ci := 3) (v := .int prc) (C := RX4) (T := TX4) (N := 4) hx hb hts iX4_countHeaps_X4 hown hK hP 0 rfl rfl 3 (by decide) (hts _ kX4_countHeaps_1) (fun _ h9 => h9) rfl dX4_countHeaps_1 ?_
  refine lv_aload_n hx hb dX4_countHeaps_4 rfl (lv_at hl 1 rfl) ?_
  obtain ⟨r2, h1, hF⟩ := b1_s hF
  refine cl_vi (As := []) (rest := [.int prc]) (w' := (w_partbook ky aP ag al aB ax au ay am pgc prc pgr pla bsz bgp ber bxs bus bys bme)) ⟨hx, hb, hml, hown, hts⟩ hK hP hD hS hA (c_X0_size l D ky aB ax au ay am _ N  bsz bgp ber bxs bus bys bme  r2 h1) (cwV 0 hts gX4_countHeaps_X0_size rfl rfl rfl (by decide +kernel) ⟨Nat.le_of_ble_eq_true rfl, Nat.le_of_ble_eq_true rfl⟩) [3, 4, 5, 6, 7] [0, 1, 2] [0, 1, 2, 3, 4, 5, 6, 7] 0 0 rfl rfl rfl rfl (wr := [(aP, .inr (3, [.ref ag, .int pgc, .ref al, .int prc])), (ag, .inl (ky 0, 289, .inl pgr)), (al, .inl (ky 1, 4096, .inl pla))]) rfl (by decide) rfl rfl hl.1 (Nat.le_of_ble_eq_true rfl) dX4_countHeaps_5 ⟨Nat.zero_le _, Nat.zero_le _⟩ (fun H locs hP hD hS => ?_)
  refine lv_icmp_ne (tgt := 12) hx hb dX4_countHeaps_8 (by decide) (fun c3 => ?_) (fun c3 => ?_)
  · have hF := if_f c3 hF
    refine lv_aload_n hx hb dX4_countHeaps_12 rfl (lv_at hl 0 rfl) ?_
    refine lv_aload_n hx hb dX4_countHeaps_13 rfl (lv_at hl 1 rfl) ?_
    obtain ⟨v5, v6, h4, hF⟩ := b2_s hF
    refine cl_vv (As := [.ref aB]) (rest := []) (w' := (w_partbook ky aP ag al aB ax au ay am v5 prc v6 pla bsz bgp ber bxs bus bys bme)) ⟨hx, hb, hml, hown, hts⟩ hK hP hD hS hA (c_X4_findGreatest l D ky aP ag al aB ax au ay am _ N  pgc prc pgr pla bsz bgp ber bxs bus bys bme  v5 v6 h4) (cwV 1 hts gX4_countHeaps_X4_findGreatest rfl rfl rfl (by decide +kernel) ⟨Nat.le_of_ble_eq_true rfl, Nat.le_of_ble_eq_true rfl⟩) [0, 1, 2, 3, 4, 5, 6, 7] [] [0, 1, 2, 3, 4, 5, 6, 7] 0 3 rfl rfl rfl rfl (wr := []) rfl (by decide) rfl rfl hl.1 (Nat.le_of_ble_eq_true rfl) dX4_countHeaps_14 ⟨Nat.zero_le _, Nat.zero_le _⟩ (fun H locs hP hD hS => ?_)
    refine lv_iconst (v := (1 : Int32)) hx hb dX4_countHeaps_17 (by decide) ?_
    refine lv_aload_n hx hb dX4_countHeaps_18 rfl (lv_at hl 0 rfl) ?_
    refine va_get (D := D) (ci := 3) (v := .int prc) (C := RX4) (T := TX4) (N := 4) hx hb hts iX4_countHeaps_X4 hown hK hP 0 rfl rfl 3 (by decide) (hts _ kX4_countHeaps_1) (fun _ h9 => h9) rfl dX4_countHeaps_19 ?_
    refine lv_ishl hx hb dX4_countHeaps_22 ?_
    refine lv_istore_n (lv' := [(2, .int ((1 : Int32) <<< (prc &&& 31))), (0, .ref aP), (1, .ref aB)]) hx hb dX4_countHeaps_23 rfl hl (by decide) rfl (fun ls hl => ?_)
    exact w_X4_countHeaps_24 N C res hQ v5 v6 N ((1 : Int32) <<< (prc &&& 31)) prc pla hF _ _ _ hP hD hS (lv_sub hl [1, 2, 0] rfl)
  · have hF := if_t c3 hF
    have hF := Option.some.inj hF
    subst hF
    exact hQ _ _ _ _ dX4_countHeaps_11 hP hD hS
theorem c_X4_countHeaps (l : Launch) (D : va_G) (ky : Nat → ClassId) (aP ag al aB ax au ay am : Nat) (sz N : Nat)  (pgc : Int32) (prc : Int32) (pgr : Nat → Int32) (pla : Nat → Int32) (bsz : Int32) (bgp : Int32) (ber : Int32) (bxs : Nat → Int32) (bus : Nat → Int32) (bys : Nat → Int32) (bme : Nat → Int32)  (pgc' : Int32) (prc' : Int32) (pgr' : Nat → Int32) (pla' : Nat → Int32) (hF : f_X4_countHeaps N pgc prc pgr pla bsz bme = some (pgc', prc', pgr', pla')) : MV l yX4_countHeaps wsX4_countHeaps rm_X4_countHeaps D ky sz [.ref aP, .ref aB] (w_partbook ky aP ag al aB ax au ay am pgc prc pgr pla bsz bgp ber bxs bus bys bme) (w_partbook ky aP ag al aB ax au ay am pgc' prc' pgr' pla' bsz bgp ber bxs bus bys bme) :=
  cr_X4_countHeaps l D ky aP ag al aB ax au ay am sz N pgc prc pgr pla bsz bgp ber bxs bus bys bme (pgc', prc', pgr', pla') hF
abbrev rm_X4_leastLaws : Room := { frames := 3, cells := 0, slots := 0, locals := 68 }
set_option maxHeartbeats 4000000 in
set_option maxRecDepth 100000 in
theorem cr_X4_leastLaws (l : Launch) (D : va_G) (ky : Nat → ClassId) (aP ag al aB ax au ay am : Nat) (sz N : Nat)  (pgc : Int32) (prc : Int32) (pgr : Nat → Int32) (pla : Nat → Int32) (bsz : Int32) (bgp : Int32) (ber : Int32) (bxs : Nat → Int32) (bus : Nat → Int32) (bys : Nat → Int32) (bme : Nat → Int32)  (res : Int32 × Int32 × Int32 × (Nat → Int32) × (Nat → Int32)) (hF : f_X4_leastLaws N pgc prc pgr pla bsz bme = some res) : MI l yX4_leastLaws wsX4_leastLaws rm_X4_leastLaws D ky sz [.ref aP, .ref aB] (w_partbook ky aP ag al aB ax au ay am pgc prc pgr pla bsz bgp ber bxs bus bys bme) (w_partbook ky aP ag al aB ax au ay am res.2.1 res.2.2.1 res.2.2.2.1 res.2.2.2.2 bsz bgp ber bxs bus bys bme) res.1 := by
  unfold MI
  refine Met.ofW (cc := cX4_leastLaws) (maxL := 3) (ret := (some .int)) (by decide) rfl ?_
  intro p e s m args below meth c s₁ B hml hv
  obtain ⟨rfl, hsz, hP, hK, hD0⟩ := hv
  have hx := B.exec
  have hb := B.bytes
  have hr := B.returns
  have hts := atoms_spec (ws := wsX4_leastLaws) B.pre
  have hown : s.vm.findClass RX4 = some m.cls := findClass_of_methodNamed B.named
  have hlocks := B.notSynchronized
  subst hsz
  have hD := hD0.self (sz := s.heap.size)
  generalize hAe : va_A (w_partbook ky aP ag al aB ax au ay am pgc prc pgr pla bsz bgp ber bxs bus bys bme) s.heap.size = A at hD ⊢
  have hA : ∀ q : Nat, s.heap.size ≤ q → A q := fun q h => by rw [← hAe]; exact Or.inr h
  have hS : va_S A s.heap s.heap [] := va_S.rf
  have hP : va_P D vwCl (w_partbook ky aP ag al aB ax au ay am pgc prc pgr pla bsz bgp ber bxs bus bys bme) s.heap := hP
  have hl := lv_entry ([.ref aP, .ref aB]) (n := 3) (Nat.le_of_ble_eq_true rfl)
  rw [lg_entry_eq]
  generalize (lg_sl ([.ref aP, .ref aB]) ++ List.replicate (3 - (lg_sl ([.ref aP, .ref aB])).length) Slot.unset).toArray = ls at hl ⊢
  have hl : lv_has ls 3 [(0, .ref aP), (1, .ref aB)] := hl
  have C : cx p s m c ([.ref aP, .ref aB]).toArray D ky A cX4_leastLaws 3 wsX4_leastLaws RX4 := ⟨hx, hb, hml, hown, hts, hK, hA⟩
  have hQ : ∀ (pc : Nat) (H : Heap) (locs : List Loc) (ls : Array Slot), decode cX4_leastLaws pc = .ok (.ireturn, 1) → va_P D vwCl (w_partbook ky aP ag al aB ax au ay am res.2.1 res.2.2.1 res.2.2.2.1 res.2.2.2.2 bsz bgp ber bxs bus bys bme) H → va_D A (w_partbook ky aP ag al aB ax au ay am res.2.1 res.2.2.1 res.2.2.2.1 res.2.2.2.2 bsz bgp ber bxs bus bys bme) → va_S A s.heap H locs → W p l e rm_X4_leastLaws s m ([.ref aP, .ref aB]).toArray below meth c H locs 0 0 (MQ below (va_Qi (S := Unit) (fun r _ => r = res.1) (fun _ t => va_P D vwCl (w_partbook ky aP ag al aB ax au ay am res.2.1 res.2.2.1 res.2.2.2.1 res.2.2.2.2 bsz bgp ber bxs bus bys bme) t.heap ∧ va_K D vwCl (tyW ky) t ∧ va_D A (w_partbook ky aP ag al aB ax au ay am res.2.1 res.2.2.1 res.2.2.2.1 res.2.2.2.2 bsz bgp ber bxs bus bys bme)) A) ([.ref aP, .ref aB]).toArray s 0 0 A) (F0 m pc ls [.int res.1]) := fun pc H locs ls hd hP hD hS => W.iret hx hb hr (fun t ht hW => ⟨⟨res.1, (), rfl, rfl, by rw [ht]; exact hP, va_K.moved hW.alike hK, hD⟩, hS.F ht⟩) hS.2.2 hd
  unfold f_X4_leastLaws at hF
  refine lv_aload_n hx hb dX4_leastLaws_0 rfl (lv_at hl 0 rfl) ?_
  refine lv_aload_n hx hb dX4_leastLaws_1 rfl (lv_at hl 1 rfl) ?_
  obtain ⟨v2, v3, v4, v5, h1, hF⟩ := b4_s hF
  refine cl_vv (As := [.ref aB]) (rest := []) (w' := (w_partbook ky aP ag al aB ax au ay am v2 v3 v4 v5 bsz bgp ber bxs bus bys bme)) ⟨hx, hb, hml, hown, hts⟩ hK hP hD hS hA (c_X4_countHeaps l D ky aP ag al aB ax au ay am _ N  pgc prc pgr pla bsz bgp ber bxs bus bys bme  v2 v3 v4 v5 h1) (cwV 1 hts gX4_leastLaws_X4_countHeaps rfl rfl rfl (by decide +kernel) ⟨Nat.le_of_ble_eq_true rfl, Nat.le_of_ble_eq_true rfl⟩) [0, 1, 2, 3, 4, 5, 6, 7] [] [0, 1, 2, 3, 4, 5, 6, 7] 0 3 rfl rfl rfl rfl (wr := []) rfl (by decide) rfl rfl hl.1 (Nat.le_of_ble_eq_true rfl) dX4_leastLaws_2 ⟨Nat.zero_le _, Nat.zero_le _⟩ (fun H locs hP hD hS => ?_)
  refine lv_aload_n hx hb dX4_leastLaws_5 rfl (lv_at hl 0 rfl) ?_
  refine lv_aload_n hx hb dX4_leastLaws_6 rfl (lv_at hl 1 rfl) ?_
  obtain ⟨r7, h6, hF⟩ := b1_s hF
  refine cl_vi (As := []) (rest := [.ref aP]) (w' := (w_partbook ky aP ag al aB ax au ay am v2 v3 v4 v5 bsz bgp ber bxs bus bys bme)) ⟨hx, hb, hml, hown, hts⟩ hK hP hD hS hA (c_X0_all l D ky aB ax au ay am _ N  bsz bgp ber bxs bus bys bme  r7 h6) (cwV 0 hts gX4_leastLaws_X0_all rfl rfl rfl (by decide +kernel) ⟨Nat.le_of_ble_eq_true rfl, Nat.le_of_ble_eq_true rfl⟩) [3, 4, 5, 6, 7] [0, 1, 2] [0, 1, 2, 3, 4, 5, 6, 7] 0 0 rfl rfl rfl rfl (wr := [(aP, .inr (3, [.ref ag, .int v2, .ref al, .int v3])), (ag, .inl (ky 0, 289, .inl v4)), (al, .inl (ky 1, 4096, .inl v5))]) rfl (by decide) rfl rfl hl.1 (Nat.le_of_ble_eq_true rfl) dX4_leastLaws_7 ⟨Nat.zero_le _, Nat.zero_le _⟩ (fun H locs hP hD hS => ?_)
  obtain ⟨r9, h8, hF⟩ := b1_s hF
  refine cl_vi (As := [.int r7]) (rest := []) (w' := (w_partbook ky aP ag al aB ax au ay am v2 v3 v4 v5 bsz bgp ber bxs bus bys bme)) ⟨hx, hb, hml, hown, hts⟩ hK hP hD hS hA (c_X4_lawsFor l D ky aP ag al _ N  v2 v3 v4 v5 r7 r9 h8) (cwV 1 hts gX4_leastLaws_X4_lawsFor rfl rfl rfl (by decide +kernel) ⟨Nat.le_of_ble_eq_true rfl, Nat.le_of_ble_eq_true rfl⟩) [0, 1, 2] [3, 4, 5, 6, 7] [5, 6, 7, 0, 1, 2, 3, 4] 0 3 rfl rfl rfl rfl (wr := [(aB, .inr (0, [.ref ax, .ref au, .ref ay, .ref am, .int bsz, .int bgp, .int ber])), (ax, .inl (ky 0, 12, .inl bxs)), (au, .inl (ky 0, 12, .inl bus)), (ay, .inl (ky 0, 12, .inl bys)), (am, .inl (ky 0, 289, .inl bme))]) rfl (by decide) rfl rfl hl.1 (Nat.le_of_ble_eq_true rfl) dX4_leastLaws_10 ⟨Nat.zero_le _, Nat.zero_le _⟩ (fun H locs hP hD hS => ?_)
  refine lv_istore_n (lv' := [(2, .int r9), (0, .ref aP), (1, .ref aB)]) hx hb dX4_leastLaws_13 rfl hl (by decide) rfl (fun ls hl => ?_)
  refine lv_iload_n hx hb dX4_leastLaws_14 rfl (lv_at hl 0 rfl) ?_
  refine lv_bipush (v := (100 : Int32)) hx hb dX4_leastLaws_15 (by decide) ?_
  refine lv_icmp_lt (tgt := 25) hx hb dX4_leastLaws_17 (by decide) (fun c10 => ?_) (fun c10 => ?_)
  · have hF := if_t c10 hF
    refine lv_iload_n hx hb dX4_leastLaws_25 rfl (lv_at hl 0 rfl) ?_
    have hF := Option.some.inj hF
    subst hF
    exact hQ _ _ _ _ dX4_leastLaws_26 hP hD hS
  · have hF := if_f c10 hF
    refine lv_bipush (v := (-4 : Int32)) hx hb dX4_leastLaws_20 (by decide) ?_
    refine lv_goto (tgt := 26) hx hb dX4_leastLaws_22 (by decide) ?_
    have hF := Option.some.inj hF
    subst hF
    exact hQ _ _ _ _ dX4_leastLaws_26 hP hD hS
theorem c_X4_leastLaws (l : Launch) (D : va_G) (ky : Nat → ClassId) (aP ag al aB ax au ay am : Nat) (sz N : Nat)  (pgc : Int32) (prc : Int32) (pgr : Nat → Int32) (pla : Nat → Int32) (bsz : Int32) (bgp : Int32) (ber : Int32) (bxs : Nat → Int32) (bus : Nat → Int32) (bys : Nat → Int32) (bme : Nat → Int32)  (rv : Int32) (pgc' : Int32) (prc' : Int32) (pgr' : Nat → Int32) (pla' : Nat → Int32) (hF : f_X4_leastLaws N pgc prc pgr pla bsz bme = some (rv, pgc', prc', pgr', pla')) : MI l yX4_leastLaws wsX4_leastLaws rm_X4_leastLaws D ky sz [.ref aP, .ref aB] (w_partbook ky aP ag al aB ax au ay am pgc prc pgr pla bsz bgp ber bxs bus bys bme) (w_partbook ky aP ag al aB ax au ay am pgc' prc' pgr' pla' bsz bgp ber bxs bus bys bme) rv :=
  cr_X4_leastLaws l D ky aP ag al aB ax au ay am sz N pgc prc pgr pla bsz bgp ber bxs bus bys bme (rv, pgc', prc', pgr', pla') hF
abbrev rm_X4_leftOut : Room := { frames := 3, cells := 0, slots := 0, locals := 68 }
set_option maxHeartbeats 4000000 in
set_option maxRecDepth 100000 in
theorem w_X4_leftOut_10 {p : Program} {l : Launch} {e : Env} {s : State} {m : MethodId} {args : Array Value} {below : List Frame} {meth : Method} {c : Code} {Q : State → Prop} {A : Nat → Prop} {D : va_G} {ky : Nat → ClassId} {aP ag al aB ax au ay am : Nat} {bsz : Int32} {bgp : Int32} {ber : Int32} {bxs : Nat → Int32} {bus : Nat → Int32} {bys : Nat → Int32} {bme : Nat → Int32} (N : Nat) (C : cx p s m c args D ky A cX4_leftOut 5 wsX4_leftOut RX4) (res : Int32 × Int32 × Int32 × (Nat → Int32) × (Nat → Int32)) (hQ : ∀ (pc : Nat) (H : Heap) (locs : List Loc) (ls : Array Slot), decode cX4_leftOut pc = .ok (.ireturn, 1) → va_P D vwCl (w_partbook ky aP ag al aB ax au ay am res.2.1 res.2.2.1 res.2.2.2.1 res.2.2.2.2 bsz bgp ber bxs bus bys bme) H → va_D A (w_partbook ky aP ag al aB ax au ay am res.2.1 res.2.2.1 res.2.2.2.1 res.2.2.2.2 bsz bgp ber bxs bus bys bme) → va_S A s.heap H locs → W p l e rm_X4_leftOut s m args below meth c H locs 0 0 Q (F0 m pc ls [.int res.1])) (l2 : Int32) (pgc : Int32) (prc : Int32) (pgr : Nat → Int32) (pla : Nat → Int32) : ∀ (n : Nat) (l3 : Int32) (l4 : Int32), f_X4_leftOut_10 N l2 pgc prc pgr pla bsz n l3 l4 = some res → ∀ (H : Heap) (locs : List Loc) (ls : Array Slot), va_P D vwCl (w_partbook ky aP ag al aB ax au ay am pgc prc pgr pla bsz bgp ber bxs bus bys bme) H → va_D A (w_partbook ky aP ag al aB ax au ay am pgc prc pgr pla bsz bgp ber bxs bus bys bme) → va_S A s.heap H locs → lv_has ls 5 [(0, .ref aP), (1, .ref aB), (2, .int l2), (3, .int l3), (4, .int l4)] → W p l e rm_X4_leftOut s m args below meth c H locs 0 0 Q (F0 m 10 ls []) := by
  obtain ⟨hx, hb, hml, hown, hts, hK, hA⟩ := id C
  intro n
  induction n with
  | zero =>
    intro l3 l4 hF
    cases hF
  | succ n ih =>
    intro l3 l4 hF H locs ls hP hD hS hl
    have hF : b_X4_leftOut_10 N l2 pgc prc pgr pla bsz (f_X4_leftOut_10 N l2 pgc prc pgr pla bsz n) l3 l4 = some res := hF
    unfold b_X4_leftOut_10 at hF
    refine lv_iload hx hb dX4_leftOut_10 (lv_at hl 4 rfl) ?_
    refine lv_aload_n hx hb dX4_leftOut_12 rfl (lv_at hl 1 rfl) ?_
    obtain ⟨r7, h6, hF⟩ := b1_s hF
    refine cl_vi (As := []) (rest := [.int l4]) (w' := (w_partbook ky aP ag al aB ax au ay am pgc prc pgr pla bsz bgp ber bxs bus bys bme)) ⟨hx, hb, hml, hown, hts⟩ hK hP hD hS hA (c_X0_all l D ky aB ax au ay am _ N  bsz bgp ber bxs bus bys bme  r7 h6) (cwV 0 hts gX4_leftOut_X0_all rfl rfl rfl (by decide +kernel) ⟨Nat.le_of_ble_eq_true rfl, Nat.le_of_ble_eq_true rfl⟩) [3, 4, 5, 6, 7] [0, 1, 2] [0, 1, 2, 3, 4, 5, 6, 7] 0 0 rfl rfl rfl rfl (wr := [(aP, .inr (3, [.ref ag, .int pgc, .ref al, .int prc])), (ag, .inl (ky 0, 289, .inl pgr)), (al, .inl (ky 1, 4096, .inl pla))]) rfl (by decide) rfl rfl hl.1 (Nat.le_of_ble_eq_true rfl) dX4_leftOut_13 ⟨Nat.zero_le _, Nat.zero_le _⟩ (fun H locs hP hD hS => ?_)
    refine lv_icmp_gt (tgt := 50) hx hb dX4_leftOut_16 (by decide) (fun c8 => ?_) (fun c8 => ?_)
    · have hF := if_t c8 hF
      refine lv_aload_n hx hb dX4_leftOut_50 rfl (lv_at hl 1 rfl) ?_
      obtain ⟨r10, h9, hF⟩ := b1_s hF
      refine cl_vi (As := []) (rest := []) (w' := (w_partbook ky aP ag al aB ax au ay am pgc prc pgr pla bsz bgp ber bxs bus bys bme)) ⟨hx, hb, hml, hown, hts⟩ hK hP hD hS hA (c_X0_all l D ky aB ax au ay am _ N  bsz bgp ber bxs bus bys bme  r10 h9) (cwV 0 hts gX4_leftOut_X0_all rfl rfl rfl (by decide +kernel) ⟨Nat.le_of_ble_eq_true rfl, Nat.le_of_ble_eq_true rfl⟩) [3, 4, 5, 6, 7] [0, 1, 2] [0, 1, 2, 3, 4, 5, 6, 7] 0 0 rfl rfl rfl rfl (wr := [(aP, .inr (3, [.ref ag, .int pgc, .ref al, .int prc])), (ag, .inl (ky 0, 289, .inl pgr)), (al, .inl (ky 1, 4096, .inl pla))]) rfl (by decide) rfl rfl hl.1 (Nat.le_of_ble_eq_true rfl) dX4_leftOut_51 ⟨Nat.zero_le _, Nat.zero_le _⟩ (fun H locs hP hD hS => ?_)
      refine lv_iload_n hx hb dX4_leftOut_54 rfl (lv_at hl 3 rfl) ?_
      refine lv_iconst (v := (-1 : Int32)) hx hb dX4_leftOut_55 (by decide) ?_
      refine lv_ixor hx hb dX4_leftOut_56 ?_
      refine lv_iand hx hb dX4_leftOut_57 ?_
      have hF := Option.some.inj hF
      subst hF
      exact hQ _ H _ _ dX4_leftOut_58 hP hD hS
    · have hF := if_f c8 hF
      refine lv_aload_n hx hb dX4_leftOut_19 rfl (lv_at hl 0 rfl) ?_
      refine lv_iload hx hb dX4_leftOut_20 (lv_at hl 4 rfl) ?_
      obtain ⟨r12, h11, hF⟩ := b1_s hF
      refine cl_vi (As := [.int l4]) (rest := []) (w' := (w_partbook ky aP ag al aB ax au ay am pgc prc pgr pla bsz bgp ber bxs bus bys bme)) ⟨hx, hb, hml, hown, hts⟩ hK hP hD hS hA (c_X4_lawsFor l D ky aP ag al _ N  pgc prc pgr pla l4 r12 h11) (cwV 1 hts gX4_leftOut_X4_lawsFor rfl rfl rfl (by decide +kernel) ⟨Nat.le_of_ble_eq_true rfl, Nat.le_of_ble_eq_true rfl⟩) [0, 1, 2] [3, 4, 5, 6, 7] [5, 6, 7, 0, 1, 2, 3, 4] 0 3 rfl rfl rfl rfl (wr := [(aB, .inr (0, [.ref ax, .ref au, .ref ay, .ref am, .int bsz, .int bgp, .int ber])), (ax, .inl (ky 0, 12, .inl bxs)), (au, .inl (ky 0, 12, .inl bus)), (ay, .inl (ky 0, 12, .inl bys)), (am, .inl (ky 0, 289, .inl bme))]) rfl (by decide) rfl rfl hl.1 (Nat.le_of_ble_eq_true rfl) dX4_leftOut_22 ⟨Nat.zero_le _, Nat.zero_le _⟩ (fun H locs hP hD hS => ?_)
      refine lv_iload_n hx hb dX4_leftOut_25 rfl (lv_at hl 2 rfl) ?_
      refine lv_icmp_gt (tgt := 44) hx hb dX4_leftOut_26 (by decide) (fun c13 => ?_) (fun c13 => ?_)
      · have hF := if_t c13 hF
        refine lv_iinc (v := (l4 + (1 : Int32))) (lv' := [(4, .int (l4 + (1 : Int32))), (0, .ref aP), (1, .ref aB), (2, .int l2), (3, .int l3)]) hx hb dX4_leftOut_44 hl (k := 4) rfl rfl (by decide) rfl (fun ls hl => ?_)
        refine lv_goto (tgt := 10) hx hb dX4_leftOut_47 (by decide) ?_
        exact ih l3 (l4 + (1 : Int32)) hF H _ _ hP hD hS (lv_sub hl [1, 2, 3, 4, 0] rfl)
      · have hF := if_f c13 hF
        refine lv_iload hx hb dX4_leftOut_29 (lv_at hl 4 rfl) ?_
        obtain ⟨r15, h14, hF⟩ := b1_s hF
        refine cl_si (As := [.int l4]) (rest := []) ⟨hx, hb, hml, hown, hts⟩ hK hP hD hS hA (c_J6_bitCount_0f7a4 l D ky  _ N   l4 r15 h14) (va_cwS 1 hts gX4_leftOut_J6_bitCount_0f7a4 rfl rfl rfl (by decide +kernel) ⟨Nat.le_of_ble_eq_true rfl, Nat.le_of_ble_eq_true rfl⟩) rfl hl.1 (Nat.le_of_ble_eq_true rfl) dX4_leftOut_31 ⟨Nat.zero_le _, Nat.zero_le _⟩ (fun H locs hP hD hS => ?_)
        refine lv_iload_n hx hb dX4_leftOut_34 rfl (lv_at hl 3 rfl) ?_
        obtain ⟨r17, h16, hF⟩ := b1_s hF
        refine cl_si (As := [.int l3]) (rest := [.int r15]) ⟨hx, hb, hml, hown, hts⟩ hK hP hD hS hA (c_J6_bitCount_0f7a4 l D ky  _ N   l3 r17 h16) (va_cwS 1 hts gX4_leftOut_J6_bitCount_0f7a4 rfl rfl rfl (by decide +kernel) ⟨Nat.le_of_ble_eq_true rfl, Nat.le_of_ble_eq_true rfl⟩) rfl hl.1 (Nat.le_of_ble_eq_true rfl) dX4_leftOut_35 ⟨Nat.zero_le _, Nat.zero_le _⟩ (fun H locs hP hD hS => ?_)
        refine lv_icmp_lt (tgt := 44) hx hb dX4_leftOut_38 (by decide) (fun c18 => ?_) (fun c18 => ?_)
        · have hF := if_t c18 hF
          refine lv_iinc (v := (l4 + (1 : Int32))) (lv' := [(4, .int (l4 + (1 : Int32))), (0, .ref aP), (1, .ref aB), (2, .int l2), (3, .int l3)]) hx hb dX4_leftOut_44 hl (k := 4) rfl rfl (by decide) rfl (fun ls hl => ?_)
          refine lv_goto (tgt := 10) hx hb dX4_leftOut_47 (by decide) ?_
          exact ih l3 (l4 + (1 : Int32)) hF H _ _ hP hD hS (lv_sub hl [1, 2, 3, 4, 0] rfl)
        · have hF := if_f c18 hF
          refine lv_iload hx hb dX4_leftOut_41 (lv_at hl 4 rfl) ?_
          refine lv_istore_n (lv' := [(3, .int l4), (0, .ref aP), (1, .ref aB), (2, .int l2), (4, .int l4)]) hx hb dX4_leftOut_43 rfl hl (by decide) rfl (fun ls hl => ?_)
          refine lv_iinc (v := (l4 + (1 : Int32))) (lv' := [(4, .int (l4 + (1 : Int32))), (3, .int l4), (0, .ref aP), (1, .ref aB), (2, .int l2)]) hx hb dX4_leftOut_44 hl (k := 4) rfl rfl (by decide) rfl (fun ls hl => ?_)
          refine lv_goto (tgt := 10) hx hb dX4_leftOut_47 (by decide) ?_
          exact ih l4 (l4 + (1 : Int32)) hF H _ _ hP hD hS (lv_sub hl [2, 3, 4, 1, 0] rfl)
set_option maxHeartbeats 4000000 in
set_option maxRecDepth 100000 in
theorem cr_X4_leftOut (l : Launch) (D : va_G) (ky : Nat → ClassId) (aP ag al aB ax au ay am : Nat) (sz N : Nat)  (pgc : Int32) (prc : Int32) (pgr : Nat → Int32) (pla : Nat → Int32) (bsz : Int32) (bgp : Int32) (ber : Int32) (bxs : Nat → Int32) (bus : Nat → Int32) (bys : Nat → Int32) (bme : Nat → Int32) (p1 : Int32) (res : Int32 × Int32 × Int32 × (Nat → Int32) × (Nat → Int32)) (hF : f_X4_leftOut N p1 pgc prc pgr pla bsz bme = some res) : MI l yX4_leftOut wsX4_leftOut rm_X4_leftOut D ky sz [.ref aP, .ref aB, .int p1] (w_partbook ky aP ag al aB ax au ay am pgc prc pgr pla bsz bgp ber bxs bus bys bme) (w_partbook ky aP ag al aB ax au ay am res.2.1 res.2.2.1 res.2.2.2.1 res.2.2.2.2 bsz bgp ber bxs bus bys bme) res.1 := by
  unfold MI
  refine Met.ofW (cc := cX4_leftOut) (maxL := 5) (ret := (some .int)) (by decide) rfl ?_
  intro p e s m args below meth c s₁ B hml hv
  obtain ⟨rfl, hsz, hP, hK, hD0⟩ := hv
  have hx := B.exec
  have hb := B.bytes
  have hr := B.returns
  have hts := atoms_spec (ws := wsX4_leftOut) B.pre
  have hown : s.vm.findClass RX4 = some m.cls := findClass_of_methodNamed B.named
  have hlocks := B.notSynchronized
  subst hsz
  have hD := hD0.self (sz := s.heap.size)
  generalize hAe : va_A (w_partbook ky aP ag al aB ax au ay am pgc prc pgr pla bsz bgp ber bxs bus bys bme) s.heap.size = A at hD ⊢
  have hA : ∀ q : Nat, s.heap.size ≤ q → A q := fun q h => by rw [← hAe]; exact Or.inr h
  have hS : va_S A s.heap s.heap [] := va_S.rf
  have hP : va_P D vwCl (w_partbook ky aP ag al aB ax au ay am pgc prc pgr pla bsz bgp ber bxs bus bys bme) s.heap := hP
  have hl := lv_entry ([.ref aP, .ref aB, .int p1]) (n := 5) (Nat.le_of_ble_eq_true rfl)
  rw [lg_entry_eq]
  generalize (lg_sl ([.ref aP, .ref aB, .int p1]) ++ List.replicate (5 - (lg_sl ([.ref aP, .ref aB, .int p1])).length) Slot.unset).toArray = ls at hl ⊢
  have hl : lv_has ls 5 [(0, .ref aP), (1, .ref aB), (2, .int p1)] := hl
  have C : cx p s m c ([.ref aP, .ref aB, .int p1]).toArray D ky A cX4_leftOut 5 wsX4_leftOut RX4 := ⟨hx, hb, hml, hown, hts, hK, hA⟩
  have hQ : ∀ (pc : Nat) (H : Heap) (locs : List Loc) (ls : Array Slot), decode cX4_leftOut pc = .ok (.ireturn, 1) → va_P D vwCl (w_partbook ky aP ag al aB ax au ay am res.2.1 res.2.2.1 res.2.2.2.1 res.2.2.2.2 bsz bgp ber bxs bus bys bme) H → va_D A (w_partbook ky aP ag al aB ax au ay am res.2.1 res.2.2.1 res.2.2.2.1 res.2.2.2.2 bsz bgp ber bxs bus bys bme) → va_S A s.heap H locs → W p l e rm_X4_leftOut s m ([.ref aP, .ref aB, .int p1]).toArray below meth c H locs 0 0 (MQ below (va_Qi (S := Unit) (fun r _ => r = res.1) (fun _ t => va_P D vwCl (w_partbook ky aP ag al aB ax au ay am res.2.1 res.2.2.1 res.2.2.2.1 res.2.2.2.2 bsz bgp ber bxs bus bys bme) t.heap ∧ va_K D vwCl (tyW ky) t ∧ va_D A (w_partbook ky aP ag al aB ax au ay am res.2.1 res.2.2.1 res.2.2.2.1 res.2.2.2.2 bsz bgp ber bxs bus bys bme)) A) ([.ref aP, .ref aB, .int p1]).toArray s 0 0 A) (F0 m pc ls [.int res.1]) := fun pc H locs ls hd hP hD hS => W.iret hx hb hr (fun t ht hW => ⟨⟨res.1, (), rfl, rfl, by rw [ht]; exact hP, va_K.moved hW.alike hK, hD⟩, hS.F ht⟩) hS.2.2 hd
  unfold f_X4_leftOut at hF
  refine lv_aload_n hx hb dX4_leftOut_0 rfl (lv_at hl 0 rfl) ?_
  refine lv_aload_n hx hb dX4_leftOut_1 rfl (lv_at hl 1 rfl) ?_
  obtain ⟨v2, v3, v4, v5, h1, hF⟩ := b4_s hF
  refine cl_vv (As := [.ref aB]) (rest := []) (w' := (w_partbook ky aP ag al aB ax au ay am v2 v3 v4 v5 bsz bgp ber bxs bus bys bme)) ⟨hx, hb, hml, hown, hts⟩ hK hP hD hS hA (c_X4_countHeaps l D ky aP ag al aB ax au ay am _ N  pgc prc pgr pla bsz bgp ber bxs bus bys bme  v2 v3 v4 v5 h1) (cwV 1 hts gX4_leftOut_X4_countHeaps rfl rfl rfl (by decide +kernel) ⟨Nat.le_of_ble_eq_true rfl, Nat.le_of_ble_eq_true rfl⟩) [0, 1, 2, 3, 4, 5, 6, 7] [] [0, 1, 2, 3, 4, 5, 6, 7] 0 3 rfl rfl rfl rfl (wr := []) rfl (by decide) rfl rfl hl.1 (Nat.le_of_ble_eq_true rfl) dX4_leftOut_2 ⟨Nat.zero_le _, Nat.zero_le _⟩ (fun H locs hP hD hS => ?_)
  refine lv_iconst (v := (0 : Int32)) hx hb dX4_leftOut_5 (by decide) ?_
  refine lv_istore_n (lv' := [(3, .int (0 : Int32)), (0, .ref aP), (1, .ref aB), (2, .int p1)]) hx hb dX4_leftOut_6 rfl hl (by decide) rfl (fun ls hl => ?_)
  refine lv_iconst (v := (0 : Int32)) hx hb dX4_leftOut_7 (by decide) ?_
  refine lv_istore (lv' := [(4, .int (0 : Int32)), (3, .int (0 : Int32)), (0, .ref aP), (1, .ref aB), (2, .int p1)]) hx hb dX4_leftOut_8 hl (by decide) rfl (fun ls hl => ?_)
  exact w_X4_leftOut_10 N C res hQ p1 v2 v3 v4 v5 N (0 : Int32) (0 : Int32) hF _ _ _ hP hD hS (lv_sub hl [2, 3, 4, 1, 0] rfl)
theorem c_X4_leftOut (l : Launch) (D : va_G) (ky : Nat → ClassId) (aP ag al aB ax au ay am : Nat) (sz N : Nat)  (pgc : Int32) (prc : Int32) (pgr : Nat → Int32) (pla : Nat → Int32) (bsz : Int32) (bgp : Int32) (ber : Int32) (bxs : Nat → Int32) (bus : Nat → Int32) (bys : Nat → Int32) (bme : Nat → Int32) (p1 : Int32) (rv : Int32) (pgc' : Int32) (prc' : Int32) (pgr' : Nat → Int32) (pla' : Nat → Int32) (hF : f_X4_leftOut N p1 pgc prc pgr pla bsz bme = some (rv, pgc', prc', pgr', pla')) : MI l yX4_leftOut wsX4_leftOut rm_X4_leftOut D ky sz [.ref aP, .ref aB, .int p1] (w_partbook ky aP ag al aB ax au ay am pgc prc pgr pla bsz bgp ber bxs bus bys bme) (w_partbook ky aP ag al aB ax au ay am pgc' prc' pgr' pla' bsz bgp ber bxs bus bys bme) rv :=
  cr_X4_leftOut l D ky aP ag al aB ax au ay am sz N pgc prc pgr pla bsz bgp ber bxs bus bys bme p1 (rv, pgc', prc', pgr', pla') hF
abbrev rm_X4_canBeTogether : Room := { frames := 1, cells := 0, slots := 0, locals := 21 }
theorem iX4_canBeTogether_X4 : ∀ w ∈ wsX40, w ∈ wsX4_canBeTogether := by decide +kernel
theorem kX4_canBeTogether_1 : (Cond.fieldLink RX4 15 "TwoLaws$Partings" "greatestCount" "I") ∈ wsX4_canBeTogether := by decide +kernel
theorem kX4_canBeTogether_2 : (Cond.fieldLink RX4 9 "TwoLaws$Partings" "greatest" "[I") ∈ wsX4_canBeTogether := by decide +kernel
set_option maxHeartbeats 4000000 in
set_option maxRecDepth 100000 in
theorem w_X4_canBeTogether_3 {p : Program} {l : Launch} {e : Env} {s : State} {m : MethodId} {args : Array Value} {below : List Frame} {meth : Method} {c : Code} {Q : State → Prop} {A : Nat → Prop} {D : va_G} {ky : Nat → ClassId} {aP ag al : Nat} {pgc : Int32} {prc : Int32} {pgr : Nat → Int32} {pla : Nat → Int32} (N : Nat) (C : cx p s m c args D ky A cX4_canBeTogether 5 wsX4_canBeTogether RX4) (res : Int32) (hQ : ∀ (pc : Nat) (H : Heap) (locs : List Loc) (ls : Array Slot), decode cX4_canBeTogether pc = .ok (.ireturn, 1) → (res = 0 ∨ res = 1) → va_P D vwCl (w_part ky aP ag al pgc prc pgr pla) H → va_D A (w_part ky aP ag al pgc prc pgr pla) → va_S A s.heap H locs → W p l e rm_X4_canBeTogether s m args below meth c H locs 0 0 Q (F0 m pc ls [.int res])) (l1 : Int32) (l2 : Int32) (l3 : Int32) : ∀ (n : Nat) (l4 : Int32), f_X4_canBeTogether_3 N l1 l2 l3 pgc pgr pla n l4 = some res → ∀ (H : Heap) (locs : List Loc) (ls : Array Slot), va_P D vwCl (w_part ky aP ag al pgc prc pgr pla) H → va_D A (w_part ky aP ag al pgc prc pgr pla) → va_S A s.heap H locs → lv_has ls 5 [(0, .ref aP), (1, .int l1), (2, .int l2), (3, .int l3), (4, .int l4)] → W p l e rm_X4_canBeTogether s m args below meth c H locs 0 0 Q (F0 m 3 ls []) := by
  obtain ⟨hx, hb, hml, hown, hts, hK, hA⟩ := id C
  intro n
  induction n with
  | zero =>
    intro l4 hF
    cases hF
  | succ n ih =>
    intro l4 hF H locs ls hP hD hS hl
    have hF : b_X4_canBeTogether_3 N l1 l2 l3 pgc pgr pla (f_X4_canBeTogether_3 N l1 l2 l3 pgc pgr pla n) l4 = some res := hF
    unfold b_X4_canBeTogether_3 at hF
    refine lv_iload hx hb dX4_canBeTogether_3 (lv_at hl 4 rfl) ?_
    refine lv_aload_n hx hb dX4_canBeTogether_5 rfl (lv_at hl 0 rfl) ?_
    refine va_get (D := D) (ci := 3) (v := .int pgc) (C := RX4) (T := TX4) (N := 4) hx hb hts iX4_canBeTogether_X4 hown hK hP 0 rfl rfl 1 (by decide) (hts _ kX4_canBeTogether_1) (fun _ h9 => h9) rfl dX4_canBeTogether_6 ?_
    refine lv_icmp_ge (tgt := 62) hx hb dX4_canBeTogether_9 (by decide) (fun c1 => ?_) (fun c1 => ?_)
    · have hF := if_t c1 hF
      refine lv_iconst (v := (0 : Int32)) hx hb dX4_canBeTogether_62 (by decide) ?_
      have hF := Option.some.inj hF
      subst hF
      exact hQ _ H _ _ dX4_canBeTogether_63 (Or.inl rfl) hP hD hS
    · have hF := if_f c1 hF
      refine lv_iload hx hb dX4_canBeTogether_12 (lv_at hl 4 rfl) ?_
      refine lv_aload_n hx hb dX4_canBeTogether_14 rfl (lv_at hl 0 rfl) ?_
      refine va_get (D := D) (ci := 3) (v := .ref ag) (C := RX4) (T := TX4) (N := 4) hx hb hts iX4_canBeTogether_X4 hown hK hP 0 rfl rfl 0 (by decide) (hts _ kX4_canBeTogether_2) (fun _ h9 => h9) rfl dX4_canBeTogether_15 ?_
      refine va_alen (v := (289 : Int32)) hx hb hK hP 1 0 rfl rfl rfl dX4_canBeTogether_18 ?_
      refine lv_icmp_ge (tgt := 62) hx hb dX4_canBeTogether_19 (by decide) (fun c2 => ?_) (fun c2 => ?_)
      · have hF := if_t c2 hF
        refine lv_iconst (v := (0 : Int32)) hx hb dX4_canBeTogether_62 (by decide) ?_
        have hF := Option.some.inj hF
        subst hF
        exact hQ _ H _ _ dX4_canBeTogether_63 (Or.inl rfl) hP hD hS
      · have hF := if_f c2 hF
        refine lv_aload_n hx hb dX4_canBeTogether_22 rfl (lv_at hl 0 rfl) ?_
        refine va_get (D := D) (ci := 3) (v := .ref ag) (C := RX4) (T := TX4) (N := 4) hx hb hts iX4_canBeTogether_X4 hown hK hP 0 rfl rfl 0 (by decide) (hts _ kX4_canBeTogether_2) (fun _ h9 => h9) rfl dX4_canBeTogether_23 ?_
        refine lv_iload hx hb dX4_canBeTogether_26 (lv_at hl 4 rfl) ?_
        obtain ⟨h3, hF⟩ := gi_s hF
        refine va_iald hx hb hK hP 1 0 rfl rfl h3 dX4_canBeTogether_28 ?_
        refine lv_iload_n hx hb dX4_canBeTogether_29 rfl (lv_at hl 2 rfl) ?_
        refine lv_iand hx hb dX4_canBeTogether_30 ?_
        refine lv_iload_n hx hb dX4_canBeTogether_31 rfl (lv_at hl 2 rfl) ?_
        refine lv_icmp_ne (tgt := 56) hx hb dX4_canBeTogether_32 (by decide) (fun c4 => ?_) (fun c4 => ?_)
        · have hF := if_f c4 hF
          refine lv_iinc (v := (l4 + (1 : Int32))) (lv' := [(4, .int (l4 + (1 : Int32))), (0, .ref aP), (1, .int l1), (2, .int l2), (3, .int l3)]) hx hb dX4_canBeTogether_56 hl (k := 4) rfl rfl (by decide) rfl (fun ls hl => ?_)
          refine lv_goto (tgt := 3) hx hb dX4_canBeTogether_59 (by decide) ?_
          exact ih (l4 + (1 : Int32)) hF H _ _ hP hD hS (lv_sub hl [1, 2, 3, 4, 0] rfl)
        · have hF := if_t c4 hF
          refine lv_aload_n hx hb dX4_canBeTogether_35 rfl (lv_at hl 0 rfl) ?_
          refine lv_iload_n hx hb dX4_canBeTogether_36 rfl (lv_at hl 1 rfl) ?_
          refine lv_aload_n hx hb dX4_canBeTogether_37 rfl (lv_at hl 0 rfl) ?_
          refine va_get (D := D) (ci := 3) (v := .ref ag) (C := RX4) (T := TX4) (N := 4) hx hb hts iX4_canBeTogether_X4 hown hK hP 0 rfl rfl 0 (by decide) (hts _ kX4_canBeTogether_2) (fun _ h9 => h9) rfl dX4_canBeTogether_38 ?_
          refine lv_iload hx hb dX4_canBeTogether_41 (lv_at hl 4 rfl) ?_
          obtain ⟨h5, hF⟩ := gi_s hF
          refine va_iald hx hb hK hP 1 0 rfl rfl h5 dX4_canBeTogether_43 ?_
          refine lv_iconst (v := (-1 : Int32)) hx hb dX4_canBeTogether_44 (by decide) ?_
          refine lv_ixor hx hb dX4_canBeTogether_45 ?_
          refine lv_iand hx hb dX4_canBeTogether_46 ?_
          obtain ⟨r7, h6, hF⟩ := b1_s hF
          refine cl_vi (As := [.int (l1 &&& ((pgr l4.toNatClampNeg) ^^^ (-1 : Int32)))]) (rest := []) (w' := (w_part ky aP ag al pgc prc pgr pla)) ⟨hx, hb, hml, hown, hts⟩ hK hP hD hS hA (c_X4_lawsFor l D ky aP ag al _ N  pgc prc pgr pla (l1 &&& ((pgr l4.toNatClampNeg) ^^^ (-1 : Int32))) r7 h6) (cwV 1 hts gX4_canBeTogether_X4_lawsFor rfl rfl rfl (by decide +kernel) ⟨Nat.le_of_ble_eq_true rfl, Nat.le_of_ble_eq_true rfl⟩) [0, 1, 2] [] [0, 1, 2] 0 3 rfl rfl rfl rfl (wr := []) rfl (by decide) rfl rfl hl.1 (Nat.le_of_ble_eq_true rfl) dX4_canBeTogether_47 ⟨Nat.zero_le _, Nat.zero_le _⟩ (fun H locs hP hD hS => ?_)
          refine lv_iload_n hx hb dX4_canBeTogether_50 rfl (lv_at hl 3 rfl) ?_
          refine lv_icmp_ge (tgt := 56) hx hb dX4_canBeTogether_51 (by decide) (fun c8 => ?_) (fun c8 => ?_)
          · have hF := if_t c8 hF
            refine lv_iinc (v := (l4 + (1 : Int32))) (lv' := [(4, .int (l4 + (1 : Int32))), (0, .ref aP), (1, .int l1), (2, .int l2), (3, .int l3)]) hx hb dX4_canBeTogether_56 hl (k := 4) rfl rfl (by decide) rfl (fun ls hl => ?_)
            refine lv_goto (tgt := 3) hx hb dX4_canBeTogether_59 (by decide) ?_
            exact ih (l4 + (1 : Int32)) hF H _ _ hP hD hS (lv_sub hl [1, 2, 3, 4, 0] rfl)
          · have hF := if_f c8 hF
            refine lv_iconst (v := (1 : Int32)) hx hb dX4_canBeTogether_54 (by decide) ?_
            have hF := Option.some.inj hF
            subst hF
            exact hQ _ H _ _ dX4_canBeTogether_55 (Or.inr rfl) hP hD hS
set_option maxHeartbeats 4000000 in
set_option maxRecDepth 100000 in
theorem cr_X4_canBeTogether (l : Launch) (D : va_G) (ky : Nat → ClassId) (aP ag al : Nat) (sz N : Nat)  (pgc : Int32) (prc : Int32) (pgr : Nat → Int32) (pla : Nat → Int32) (p0 : Int32) (p1 : Int32) (p2 : Int32) (res : Int32) (hF : f_X4_canBeTogether N p0 p1 p2 pgc pgr pla = some res) : MI l yX4_canBeTogether wsX4_canBeTogether rm_X4_canBeTogether D ky sz [.ref aP, .int p0, .int p1, .int p2] (w_part ky aP ag al pgc prc pgr pla) (w_part ky aP ag al pgc prc pgr pla) res := by
  unfold MI
  refine Met.ofW (cc := cX4_canBeTogether) (maxL := 5) (ret := (some .boolean)) (by decide) rfl ?_
  intro p e s m args below meth c s₁ B hml hv
  obtain ⟨rfl, hsz, hP, hK, hD0⟩ := hv
  have hx := B.exec
  have hb := B.bytes
  have hr := B.returns
  have hts := atoms_spec (ws := wsX4_canBeTogether) B.pre
  have hown : s.vm.findClass RX4 = some m.cls := findClass_of_methodNamed B.named
  have hlocks := B.notSynchronized
  subst hsz
  have hD := hD0.self (sz := s.heap.size)
  generalize hAe : va_A (w_part ky aP ag al pgc prc pgr pla) s.heap.size = A at hD ⊢
  have hA : ∀ q : Nat, s.heap.size ≤ q → A q := fun q h => by rw [← hAe]; exact Or.inr h
  have hS : va_S A s.heap s.heap [] := va_S.rf
  have hP : va_P D vwCl (w_part ky aP ag al pgc prc pgr pla) s.heap := hP
  have hl := lv_entry ([.ref aP, .int p0, .int p1, .int p2]) (n := 5) (Nat.le_of_ble_eq_true rfl)
  rw [lg_entry_eq]
  generalize (lg_sl ([.ref aP, .int p0, .int p1, .int p2]) ++ List.replicate (5 - (lg_sl ([.ref aP, .int p0, .int p1, .int p2])).length) Slot.unset).toArray = ls at hl ⊢
  have hl : lv_has ls 5 [(0, .ref aP), (1, .int p0), (2, .int p1), (3, .int p2)] := hl
  have C : cx p s m c ([.ref aP, .int p0, .int p1, .int p2]).toArray D ky A cX4_canBeTogether 5 wsX4_canBeTogether RX4 := ⟨hx, hb, hml, hown, hts, hK, hA⟩
  have hQ : ∀ (pc : Nat) (H : Heap) (locs : List Loc) (ls : Array Slot), decode cX4_canBeTogether pc = .ok (.ireturn, 1) → (res = 0 ∨ res = 1) → va_P D vwCl (w_part ky aP ag al pgc prc pgr pla) H → va_D A (w_part ky aP ag al pgc prc pgr pla) → va_S A s.heap H locs → W p l e rm_X4_canBeTogether s m ([.ref aP, .int p0, .int p1, .int p2]).toArray below meth c H locs 0 0 (MQ below (va_Qi (S := Unit) (fun r _ => r = res) (fun _ t => va_P D vwCl (w_part ky aP ag al pgc prc pgr pla) t.heap ∧ va_K D vwCl (tyW ky) t ∧ va_D A (w_part ky aP ag al pgc prc pgr pla)) A) ([.ref aP, .int p0, .int p1, .int p2]).toArray s 0 0 A) (F0 m pc ls [.int res]) := fun pc H locs ls hd hz hP hD hS => W.zret hx hb hr (gz_n hz) (fun t ht hW => ⟨⟨res, (), rfl, rfl, by rw [ht]; exact hP, va_K.moved hW.alike hK, hD⟩, hS.F ht⟩) hS.2.2 hd
  unfold f_X4_canBeTogether at hF
  refine lv_iconst (v := (0 : Int32)) hx hb dX4_canBeTogether_0 (by decide) ?_
  refine lv_istore (lv' := [(4, .int (0 : Int32)), (0, .ref aP), (1, .int p0), (2, .int p1), (3, .int p2)]) hx hb dX4_canBeTogether_1 hl (by decide) rfl (fun ls hl => ?_)
  exact w_X4_canBeTogether_3 N C res hQ p0 p1 p2 N (0 : Int32) hF _ _ _ hP hD hS (lv_sub hl [1, 2, 3, 4, 0] rfl)
theorem c_X4_canBeTogether (l : Launch) (D : va_G) (ky : Nat → ClassId) (aP ag al : Nat) (sz N : Nat)  (pgc : Int32) (prc : Int32) (pgr : Nat → Int32) (pla : Nat → Int32) (p0 : Int32) (p1 : Int32) (p2 : Int32) (rv : Int32) (hF : f_X4_canBeTogether N p0 p1 p2 pgc pgr pla = some (rv)) : MI l yX4_canBeTogether wsX4_canBeTogether rm_X4_canBeTogether D ky sz [.ref aP, .int p0, .int p1, .int p2] (w_part ky aP ag al pgc prc pgr pla) (w_part ky aP ag al pgc prc pgr pla) rv :=
  cr_X4_canBeTogether l D ky aP ag al sz N pgc prc pgr pla p0 p1 p2 (rv) hF
abbrev rm_X4_canBeBeside : Room := { frames := 1, cells := 0, slots := 0, locals := 21 }
theorem iX4_canBeBeside_X4 : ∀ w ∈ wsX40, w ∈ wsX4_canBeBeside := by decide +kernel
theorem kX4_canBeBeside_1 : (Cond.fieldLink RX4 15 "TwoLaws$Partings" "greatestCount" "I") ∈ wsX4_canBeBeside := by decide +kernel
theorem kX4_canBeBeside_2 : (Cond.fieldLink RX4 9 "TwoLaws$Partings" "greatest" "[I") ∈ wsX4_canBeBeside := by decide +kernel
set_option maxHeartbeats 4000000 in
set_option maxRecDepth 100000 in
theorem w_X4_canBeBeside_3 {p : Program} {l : Launch} {e : Env} {s : State} {m : MethodId} {args : Array Value} {below : List Frame} {meth : Method} {c : Code} {Q : State → Prop} {A : Nat → Prop} {D : va_G} {ky : Nat → ClassId} {aP ag al : Nat} {pgc : Int32} {prc : Int32} {pgr : Nat → Int32} {pla : Nat → Int32} (N : Nat) (C : cx p s m c args D ky A cX4_canBeBeside 5 wsX4_canBeBeside RX4) (res : Int32) (hQ : ∀ (pc : Nat) (H : Heap) (locs : List Loc) (ls : Array Slot), decode cX4_canBeBeside pc = .ok (.ireturn, 1) → (res = 0 ∨ res = 1) → va_P D vwCl (w_part ky aP ag al pgc prc pgr pla) H → va_D A (w_part ky aP ag al pgc prc pgr pla) → va_S A s.heap H locs → W p l e rm_X4_canBeBeside s m args below meth c H locs 0 0 Q (F0 m pc ls [.int res])) (l1 : Int32) (l2 : Int32) (l3 : Int32) : ∀ (n : Nat) (l4 : Int32), f_X4_canBeBeside_3 N l1 l2 l3 pgc pgr pla n l4 = some res → ∀ (H : Heap) (locs : List Loc) (ls : Array Slot), va_P D vwCl (w_part ky aP ag al pgc prc pgr pla) H → va_D A (w_part ky aP ag al pgc prc pgr pla) → va_S A s.heap H locs → lv_has ls 5 [(0, .ref aP), (1, .int l1), (2, .int l2), (3, .int l3), (4, .int l4)] → W p l e rm_X4_canBeBeside s m args below meth c H locs 0 0 Q (F0 m 3 ls []) := by
  obtain ⟨hx, hb, hml, hown, hts, hK, hA⟩ := id C
  intro n
  induction n with
  | zero =>
    intro l4 hF
    cases hF
  | succ n ih =>
    intro l4 hF H locs ls hP hD hS hl
    have hF : b_X4_canBeBeside_3 N l1 l2 l3 pgc pgr pla (f_X4_canBeBeside_3 N l1 l2 l3 pgc pgr pla n) l4 = some res := hF
    unfold b_X4_canBeBeside_3 at hF
    refine lv_iload hx hb dX4_canBeBeside_3 (lv_at hl 4 rfl) ?_
    refine lv_aload_n hx hb dX4_canBeBeside_5 rfl (lv_at hl 0 rfl) ?_
    refine va_get (D := D) (ci := 3) (v := .int pgc) (C := RX4) (T := TX4) (N := 4) hx hb hts iX4_canBeBeside_X4 hown hK hP 0 rfl rfl 1 (by decide) (hts _ kX4_canBeBeside_1) (fun _ h9 => h9) rfl dX4_canBeBeside_6 ?_
    refine lv_icmp_ge (tgt := 63) hx hb dX4_canBeBeside_9 (by decide) (fun c1 => ?_) (fun c1 => ?_)
    · have hF := if_t c1 hF
      refine lv_iconst (v := (0 : Int32)) hx hb dX4_canBeBeside_63 (by decide) ?_
      have hF := Option.some.inj hF
      subst hF
      exact hQ _ H _ _ dX4_canBeBeside_64 (Or.inl rfl) hP hD hS
    · have hF := if_f c1 hF
      refine lv_iload hx hb dX4_canBeBeside_12 (lv_at hl 4 rfl) ?_
      refine lv_aload_n hx hb dX4_canBeBeside_14 rfl (lv_at hl 0 rfl) ?_
      refine va_get (D := D) (ci := 3) (v := .ref ag) (C := RX4) (T := TX4) (N := 4) hx hb hts iX4_canBeBeside_X4 hown hK hP 0 rfl rfl 0 (by decide) (hts _ kX4_canBeBeside_2) (fun _ h9 => h9) rfl dX4_canBeBeside_15 ?_
      refine va_alen (v := (289 : Int32)) hx hb hK hP 1 0 rfl rfl rfl dX4_canBeBeside_18 ?_
      refine lv_icmp_ge (tgt := 63) hx hb dX4_canBeBeside_19 (by decide) (fun c2 => ?_) (fun c2 => ?_)
      · have hF := if_t c2 hF
        refine lv_iconst (v := (0 : Int32)) hx hb dX4_canBeBeside_63 (by decide) ?_
        have hF := Option.some.inj hF
        subst hF
        exact hQ _ H _ _ dX4_canBeBeside_64 (Or.inl rfl) hP hD hS
      · have hF := if_f c2 hF
        refine lv_aload_n hx hb dX4_canBeBeside_22 rfl (lv_at hl 0 rfl) ?_
        refine va_get (D := D) (ci := 3) (v := .ref ag) (C := RX4) (T := TX4) (N := 4) hx hb hts iX4_canBeBeside_X4 hown hK hP 0 rfl rfl 0 (by decide) (hts _ kX4_canBeBeside_2) (fun _ h9 => h9) rfl dX4_canBeBeside_23 ?_
        refine lv_iload hx hb dX4_canBeBeside_26 (lv_at hl 4 rfl) ?_
        obtain ⟨h3, hF⟩ := gi_s hF
        refine va_iald hx hb hK hP 1 0 rfl rfl h3 dX4_canBeBeside_28 ?_
        refine lv_iload_n hx hb dX4_canBeBeside_29 rfl (lv_at hl 2 rfl) ?_
        refine lv_iand hx hb dX4_canBeBeside_30 ?_
        refine lv_if_eq (tgt := 57) hx hb dX4_canBeBeside_31 (by decide) (fun c4 => ?_) (fun c4 => ?_)
        · have hF := if_t c4 hF
          refine lv_iinc (v := (l4 + (1 : Int32))) (lv' := [(4, .int (l4 + (1 : Int32))), (0, .ref aP), (1, .int l1), (2, .int l2), (3, .int l3)]) hx hb dX4_canBeBeside_57 hl (k := 4) rfl rfl (by decide) rfl (fun ls hl => ?_)
          refine lv_goto (tgt := 3) hx hb dX4_canBeBeside_60 (by decide) ?_
          exact ih (l4 + (1 : Int32)) hF H _ _ hP hD hS (lv_sub hl [1, 2, 3, 4, 0] rfl)
        · have hF := if_f c4 hF
          refine lv_aload_n hx hb dX4_canBeBeside_34 rfl (lv_at hl 0 rfl) ?_
          refine lv_iload_n hx hb dX4_canBeBeside_35 rfl (lv_at hl 1 rfl) ?_
          refine lv_aload_n hx hb dX4_canBeBeside_36 rfl (lv_at hl 0 rfl) ?_
          refine va_get (D := D) (ci := 3) (v := .ref ag) (C := RX4) (T := TX4) (N := 4) hx hb hts iX4_canBeBeside_X4 hown hK hP 0 rfl rfl 0 (by decide) (hts _ kX4_canBeBeside_2) (fun _ h9 => h9) rfl dX4_canBeBeside_37 ?_
          refine lv_iload hx hb dX4_canBeBeside_40 (lv_at hl 4 rfl) ?_
          obtain ⟨h5, hF⟩ := gi_s hF
          refine va_iald hx hb hK hP 1 0 rfl rfl h5 dX4_canBeBeside_42 ?_
          refine lv_iconst (v := (-1 : Int32)) hx hb dX4_canBeBeside_43 (by decide) ?_
          refine lv_ixor hx hb dX4_canBeBeside_44 ?_
          refine lv_iand hx hb dX4_canBeBeside_45 ?_
          obtain ⟨r7, h6, hF⟩ := b1_s hF
          refine cl_vi (As := [.int (l1 &&& ((pgr l4.toNatClampNeg) ^^^ (-1 : Int32)))]) (rest := []) (w' := (w_part ky aP ag al pgc prc pgr pla)) ⟨hx, hb, hml, hown, hts⟩ hK hP hD hS hA (c_X4_lawsFor l D ky aP ag al _ N  pgc prc pgr pla (l1 &&& ((pgr l4.toNatClampNeg) ^^^ (-1 : Int32))) r7 h6) (cwV 1 hts gX4_canBeBeside_X4_lawsFor rfl rfl rfl (by decide +kernel) ⟨Nat.le_of_ble_eq_true rfl, Nat.le_of_ble_eq_true rfl⟩) [0, 1, 2] [] [0, 1, 2] 0 3 rfl rfl rfl rfl (wr := []) rfl (by decide) rfl rfl hl.1 (Nat.le_of_ble_eq_true rfl) dX4_canBeBeside_46 ⟨Nat.zero_le _, Nat.zero_le _⟩ (fun H locs hP hD hS => ?_)
          refine lv_iload_n hx hb dX4_canBeBeside_49 rfl (lv_at hl 3 rfl) ?_
          refine lv_iconst (v := (1 : Int32)) hx hb dX4_canBeBeside_50 (by decide) ?_
          refine lv_isub hx hb dX4_canBeBeside_51 ?_
          refine lv_icmp_ge (tgt := 57) hx hb dX4_canBeBeside_52 (by decide) (fun c8 => ?_) (fun c8 => ?_)
          · have hF := if_t c8 hF
            refine lv_iinc (v := (l4 + (1 : Int32))) (lv' := [(4, .int (l4 + (1 : Int32))), (0, .ref aP), (1, .int l1), (2, .int l2), (3, .int l3)]) hx hb dX4_canBeBeside_57 hl (k := 4) rfl rfl (by decide) rfl (fun ls hl => ?_)
            refine lv_goto (tgt := 3) hx hb dX4_canBeBeside_60 (by decide) ?_
            exact ih (l4 + (1 : Int32)) hF H _ _ hP hD hS (lv_sub hl [1, 2, 3, 4, 0] rfl)
          · have hF := if_f c8 hF
            refine lv_iconst (v := (1 : Int32)) hx hb dX4_canBeBeside_55 (by decide) ?_
            have hF := Option.some.inj hF
            subst hF
            exact hQ _ H _ _ dX4_canBeBeside_56 (Or.inr rfl) hP hD hS
set_option maxHeartbeats 4000000 in
set_option maxRecDepth 100000 in
theorem cr_X4_canBeBeside (l : Launch) (D : va_G) (ky : Nat → ClassId) (aP ag al : Nat) (sz N : Nat)  (pgc : Int32) (prc : Int32) (pgr : Nat → Int32) (pla : Nat → Int32) (p0 : Int32) (p1 : Int32) (p2 : Int32) (res : Int32) (hF : f_X4_canBeBeside N p0 p1 p2 pgc pgr pla = some res) : MI l yX4_canBeBeside wsX4_canBeBeside rm_X4_canBeBeside D ky sz [.ref aP, .int p0, .int p1, .int p2] (w_part ky aP ag al pgc prc pgr pla) (w_part ky aP ag al pgc prc pgr pla) res := by
  unfold MI
  refine Met.ofW (cc := cX4_canBeBeside) (maxL := 5) (ret := (some .boolean)) (by decide) rfl ?_
  intro p e s m args below meth c s₁ B hml hv
  obtain ⟨rfl, hsz, hP, hK, hD0⟩ := hv
  have hx := B.exec
  have hb := B.bytes
  have hr := B.returns
  have hts := atoms_spec (ws := wsX4_canBeBeside) B.pre
  have hown : s.vm.findClass RX4 = some m.cls := findClass_of_methodNamed B.named
  have hlocks := B.notSynchronized
  subst hsz
  have hD := hD0.self (sz := s.heap.size)
  generalize hAe : va_A (w_part ky aP ag al pgc prc pgr pla) s.heap.size = A at hD ⊢
  have hA : ∀ q : Nat, s.heap.size ≤ q → A q := fun q h => by rw [← hAe]; exact Or.inr h
  have hS : va_S A s.heap s.heap [] := va_S.rf
  have hP : va_P D vwCl (w_part ky aP ag al pgc prc pgr pla) s.heap := hP
  have hl := lv_entry ([.ref aP, .int p0, .int p1, .int p2]) (n := 5) (Nat.le_of_ble_eq_true rfl)
  rw [lg_entry_eq]
  generalize (lg_sl ([.ref aP, .int p0, .int p1, .int p2]) ++ List.replicate (5 - (lg_sl ([.ref aP, .int p0, .int p1, .int p2])).length) Slot.unset).toArray = ls at hl ⊢
  have hl : lv_has ls 5 [(0, .ref aP), (1, .int p0), (2, .int p1), (3, .int p2)] := hl
  have C : cx p s m c ([.ref aP, .int p0, .int p1, .int p2]).toArray D ky A cX4_canBeBeside 5 wsX4_canBeBeside RX4 := ⟨hx, hb, hml, hown, hts, hK, hA⟩
  have hQ : ∀ (pc : Nat) (H : Heap) (locs : List Loc) (ls : Array Slot), decode cX4_canBeBeside pc = .ok (.ireturn, 1) → (res = 0 ∨ res = 1) → va_P D vwCl (w_part ky aP ag al pgc prc pgr pla) H → va_D A (w_part ky aP ag al pgc prc pgr pla) → va_S A s.heap H locs → W p l e rm_X4_canBeBeside s m ([.ref aP, .int p0, .int p1, .int p2]).toArray below meth c H locs 0 0 (MQ below (va_Qi (S := Unit) (fun r _ => r = res) (fun _ t => va_P D vwCl (w_part ky aP ag al pgc prc pgr pla) t.heap ∧ va_K D vwCl (tyW ky) t ∧ va_D A (w_part ky aP ag al pgc prc pgr pla)) A) ([.ref aP, .int p0, .int p1, .int p2]).toArray s 0 0 A) (F0 m pc ls [.int res]) := fun pc H locs ls hd hz hP hD hS => W.zret hx hb hr (gz_n hz) (fun t ht hW => ⟨⟨res, (), rfl, rfl, by rw [ht]; exact hP, va_K.moved hW.alike hK, hD⟩, hS.F ht⟩) hS.2.2 hd
  unfold f_X4_canBeBeside at hF
  refine lv_iconst (v := (0 : Int32)) hx hb dX4_canBeBeside_0 (by decide) ?_
  refine lv_istore (lv' := [(4, .int (0 : Int32)), (0, .ref aP), (1, .int p0), (2, .int p1), (3, .int p2)]) hx hb dX4_canBeBeside_1 hl (by decide) rfl (fun ls hl => ?_)
  exact w_X4_canBeBeside_3 N C res hQ p0 p1 p2 N (0 : Int32) hF _ _ _ hP hD hS (lv_sub hl [1, 2, 3, 4, 0] rfl)
theorem c_X4_canBeBeside (l : Launch) (D : va_G) (ky : Nat → ClassId) (aP ag al : Nat) (sz N : Nat)  (pgc : Int32) (prc : Int32) (pgr : Nat → Int32) (pla : Nat → Int32) (p0 : Int32) (p1 : Int32) (p2 : Int32) (rv : Int32) (hF : f_X4_canBeBeside N p0 p1 p2 pgc pgr pla = some (rv)) : MI l yX4_canBeBeside wsX4_canBeBeside rm_X4_canBeBeside D ky sz [.ref aP, .int p0, .int p1, .int p2] (w_part ky aP ag al pgc prc pgr pla) (w_part ky aP ag al pgc prc pgr pla) rv :=
  cr_X4_canBeBeside l D ky aP ag al sz N pgc prc pgr pla p0 p1 p2 (rv) hF
abbrev rm_X4_canBeApart : Room := { frames := 2, cells := 0, slots := 0, locals := 45 }
theorem iX4_canBeApart_X4 : ∀ w ∈ wsX40, w ∈ wsX4_canBeApart := by decide +kernel
theorem kX4_canBeApart_1 : (Cond.fieldLink RX4 15 "TwoLaws$Partings" "greatestCount" "I") ∈ wsX4_canBeApart := by decide +kernel
theorem kX4_canBeApart_2 : (Cond.fieldLink RX4 9 "TwoLaws$Partings" "greatest" "[I") ∈ wsX4_canBeApart := by decide +kernel
set_option maxHeartbeats 4000000 in
set_option maxRecDepth 100000 in
theorem w_X4_canBeApart_3 {p : Program} {l : Launch} {e : Env} {s : State} {m : MethodId} {args : Array Value} {below : List Frame} {meth : Method} {c : Code} {Q : State → Prop} {A : Nat → Prop} {D : va_G} {ky : Nat → ClassId} {aP ag al : Nat} {pgc : Int32} {prc : Int32} {pgr : Nat → Int32} {pla : Nat → Int32} (N : Nat) (C : cx p s m c args D ky A cX4_canBeApart 6 wsX4_canBeApart RX4) (res : Int32) (hQ : ∀ (pc : Nat) (H : Heap) (locs : List Loc) (ls : Array Slot), decode cX4_canBeApart pc = .ok (.ireturn, 1) → (res = 0 ∨ res = 1) → va_P D vwCl (w_part ky aP ag al pgc prc pgr pla) H → va_D A (w_part ky aP ag al pgc prc pgr pla) → va_S A s.heap H locs → W p l e rm_X4_canBeApart s m args below meth c H locs 0 0 Q (F0 m pc ls [.int res])) (l1 : Int32) (l2 : Int32) (l3 : Int32) (l4 : Int32) : ∀ (n : Nat) (l5 : Int32), f_X4_canBeApart_3 N l1 l2 l3 l4 pgc pgr pla n l5 = some res → ∀ (H : Heap) (locs : List Loc) (ls : Array Slot), va_P D vwCl (w_part ky aP ag al pgc prc pgr pla) H → va_D A (w_part ky aP ag al pgc prc pgr pla) → va_S A s.heap H locs → lv_has ls 6 [(0, .ref aP), (1, .int l1), (2, .int l2), (3, .int l3), (4, .int l4), (5, .int l5)] → W p l e rm_X4_canBeApart s m args below meth c H locs 0 0 Q (F0 m 3 ls []) := by
  obtain ⟨hx, hb, hml, hown, hts, hK, hA⟩ := id C
  intro n
  induction n with
  | zero =>
    intro l5 hF
    cases hF
  | succ n ih =>
    intro l5 hF H locs ls hP hD hS hl
    have hF : b_X4_canBeApart_3 N l1 l2 l3 l4 pgc pgr pla (f_X4_canBeApart_3 N l1 l2 l3 l4 pgc pgr pla n) l5 = some res := hF
    unfold b_X4_canBeApart_3 at hF
    refine lv_iload hx hb dX4_canBeApart_3 (lv_at hl 5 rfl) ?_
    refine lv_aload_n hx hb dX4_canBeApart_5 rfl (lv_at hl 0 rfl) ?_
    refine va_get (D := D) (ci := 3) (v := .int pgc) (C := RX4) (T := TX4) (N := 4) hx hb hts iX4_canBeApart_X4 hown hK hP 0 rfl rfl 1 (by decide) (hts _ kX4_canBeApart_1) (fun _ h9 => h9) rfl dX4_canBeApart_6 ?_
    refine lv_icmp_ge (tgt := 63) hx hb dX4_canBeApart_9 (by decide) (fun c1 => ?_) (fun c1 => ?_)
    · have hF := if_t c1 hF
      refine lv_iconst (v := (0 : Int32)) hx hb dX4_canBeApart_63 (by decide) ?_
      have hF := Option.some.inj hF
      subst hF
      exact hQ _ H _ _ dX4_canBeApart_64 (Or.inl rfl) hP hD hS
    · have hF := if_f c1 hF
      refine lv_iload hx hb dX4_canBeApart_12 (lv_at hl 5 rfl) ?_
      refine lv_aload_n hx hb dX4_canBeApart_14 rfl (lv_at hl 0 rfl) ?_
      refine va_get (D := D) (ci := 3) (v := .ref ag) (C := RX4) (T := TX4) (N := 4) hx hb hts iX4_canBeApart_X4 hown hK hP 0 rfl rfl 0 (by decide) (hts _ kX4_canBeApart_2) (fun _ h9 => h9) rfl dX4_canBeApart_15 ?_
      refine va_alen (v := (289 : Int32)) hx hb hK hP 1 0 rfl rfl rfl dX4_canBeApart_18 ?_
      refine lv_icmp_ge (tgt := 63) hx hb dX4_canBeApart_19 (by decide) (fun c2 => ?_) (fun c2 => ?_)
      · have hF := if_t c2 hF
        refine lv_iconst (v := (0 : Int32)) hx hb dX4_canBeApart_63 (by decide) ?_
        have hF := Option.some.inj hF
        subst hF
        exact hQ _ H _ _ dX4_canBeApart_64 (Or.inl rfl) hP hD hS
      · have hF := if_f c2 hF
        refine lv_aload_n hx hb dX4_canBeApart_22 rfl (lv_at hl 0 rfl) ?_
        refine va_get (D := D) (ci := 3) (v := .ref ag) (C := RX4) (T := TX4) (N := 4) hx hb hts iX4_canBeApart_X4 hown hK hP 0 rfl rfl 0 (by decide) (hts _ kX4_canBeApart_2) (fun _ h9 => h9) rfl dX4_canBeApart_23 ?_
        refine lv_iload hx hb dX4_canBeApart_26 (lv_at hl 5 rfl) ?_
        obtain ⟨h3, hF⟩ := gi_s hF
        refine va_iald hx hb hK hP 1 0 rfl rfl h3 dX4_canBeApart_28 ?_
        refine lv_iload_n hx hb dX4_canBeApart_29 rfl (lv_at hl 2 rfl) ?_
        refine lv_iand hx hb dX4_canBeApart_30 ?_
        refine lv_if_eq (tgt := 57) hx hb dX4_canBeApart_31 (by decide) (fun c4 => ?_) (fun c4 => ?_)
        · have hF := if_t c4 hF
          refine lv_iinc (v := (l5 + (1 : Int32))) (lv' := [(5, .int (l5 + (1 : Int32))), (0, .ref aP), (1, .int l1), (2, .int l2), (3, .int l3), (4, .int l4)]) hx hb dX4_canBeApart_57 hl (k := 5) rfl rfl (by decide) rfl (fun ls hl => ?_)
          refine lv_goto (tgt := 3) hx hb dX4_canBeApart_60 (by decide) ?_
          exact ih (l5 + (1 : Int32)) hF H _ _ hP hD hS (lv_sub hl [1, 2, 3, 4, 5, 0] rfl)
        · have hF := if_f c4 hF
          refine lv_aload_n hx hb dX4_canBeApart_34 rfl (lv_at hl 0 rfl) ?_
          refine lv_iload_n hx hb dX4_canBeApart_35 rfl (lv_at hl 1 rfl) ?_
          refine lv_aload_n hx hb dX4_canBeApart_36 rfl (lv_at hl 0 rfl) ?_
          refine va_get (D := D) (ci := 3) (v := .ref ag) (C := RX4) (T := TX4) (N := 4) hx hb hts iX4_canBeApart_X4 hown hK hP 0 rfl rfl 0 (by decide) (hts _ kX4_canBeApart_2) (fun _ h9 => h9) rfl dX4_canBeApart_37 ?_
          refine lv_iload hx hb dX4_canBeApart_40 (lv_at hl 5 rfl) ?_
          obtain ⟨h5, hF⟩ := gi_s hF
          refine va_iald hx hb hK hP 1 0 rfl rfl h5 dX4_canBeApart_42 ?_
          refine lv_iconst (v := (-1 : Int32)) hx hb dX4_canBeApart_43 (by decide) ?_
          refine lv_ixor hx hb dX4_canBeApart_44 ?_
          refine lv_iand hx hb dX4_canBeApart_45 ?_
          refine lv_iload_n hx hb dX4_canBeApart_46 rfl (lv_at hl 3 rfl) ?_
          refine lv_iload hx hb dX4_canBeApart_47 (lv_at hl 4 rfl) ?_
          obtain ⟨r7, h6, hF⟩ := b1_s hF
          refine cl_vi (As := [.int (l1 &&& ((pgr l5.toNatClampNeg) ^^^ (-1 : Int32))), .int l3, .int l4]) (rest := []) (w' := (w_part ky aP ag al pgc prc pgr pla)) ⟨hx, hb, hml, hown, hts⟩ hK hP hD hS hA (c_X4_canBeBeside l D ky aP ag al _ N  pgc prc pgr pla (l1 &&& ((pgr l5.toNatClampNeg) ^^^ (-1 : Int32))) l3 l4 r7 h6) (cwV 3 hts gX4_canBeApart_X4_canBeBeside rfl rfl rfl (by decide +kernel) ⟨Nat.le_of_ble_eq_true rfl, Nat.le_of_ble_eq_true rfl⟩) [0, 1, 2] [] [0, 1, 2] 0 3 rfl rfl rfl rfl (wr := []) rfl (by decide) rfl rfl hl.1 (Nat.le_of_ble_eq_true rfl) dX4_canBeApart_49 ⟨Nat.zero_le _, Nat.zero_le _⟩ (fun H locs hP hD hS => ?_)
          refine lv_if_eq (tgt := 57) hx hb dX4_canBeApart_52 (by decide) (fun c8 => ?_) (fun c8 => ?_)
          · have hF := if_t c8 hF
            refine lv_iinc (v := (l5 + (1 : Int32))) (lv' := [(5, .int (l5 + (1 : Int32))), (0, .ref aP), (1, .int l1), (2, .int l2), (3, .int l3), (4, .int l4)]) hx hb dX4_canBeApart_57 hl (k := 5) rfl rfl (by decide) rfl (fun ls hl => ?_)
            refine lv_goto (tgt := 3) hx hb dX4_canBeApart_60 (by decide) ?_
            exact ih (l5 + (1 : Int32)) hF H _ _ hP hD hS (lv_sub hl [1, 2, 3, 4, 5, 0] rfl)
          · have hF := if_f c8 hF
            refine lv_iconst (v := (1 : Int32)) hx hb dX4_canBeApart_55 (by decide) ?_
            have hF := Option.some.inj hF
            subst hF
            exact hQ _ H _ _ dX4_canBeApart_56 (Or.inr rfl) hP hD hS
set_option maxHeartbeats 4000000 in
set_option maxRecDepth 100000 in
theorem cr_X4_canBeApart (l : Launch) (D : va_G) (ky : Nat → ClassId) (aP ag al : Nat) (sz N : Nat)  (pgc : Int32) (prc : Int32) (pgr : Nat → Int32) (pla : Nat → Int32) (p0 : Int32) (p1 : Int32) (p2 : Int32) (p3 : Int32) (res : Int32) (hF : f_X4_canBeApart N p0 p1 p2 p3 pgc pgr pla = some res) : MI l yX4_canBeApart wsX4_canBeApart rm_X4_canBeApart D ky sz [.ref aP, .int p0, .int p1, .int p2, .int p3] (w_part ky aP ag al pgc prc pgr pla) (w_part ky aP ag al pgc prc pgr pla) res := by
  unfold MI
  refine Met.ofW (cc := cX4_canBeApart) (maxL := 6) (ret := (some .boolean)) (by decide) rfl ?_
  intro p e s m args below meth c s₁ B hml hv
  obtain ⟨rfl, hsz, hP, hK, hD0⟩ := hv
  have hx := B.exec
  have hb := B.bytes
  have hr := B.returns
  have hts := atoms_spec (ws := wsX4_canBeApart) B.pre
  have hown : s.vm.findClass RX4 = some m.cls := findClass_of_methodNamed B.named
  have hlocks := B.notSynchronized
  subst hsz
  have hD := hD0.self (sz := s.heap.size)
  generalize hAe : va_A (w_part ky aP ag al pgc prc pgr pla) s.heap.size = A at hD ⊢
  have hA : ∀ q : Nat, s.heap.size ≤ q → A q := fun q h => by rw [← hAe]; exact Or.inr h
  have hS : va_S A s.heap s.heap [] := va_S.rf
  have hP : va_P D vwCl (w_part ky aP ag al pgc prc pgr pla) s.heap := hP
  have hl := lv_entry ([.ref aP, .int p0, .int p1, .int p2, .int p3]) (n := 6) (Nat.le_of_ble_eq_true rfl)
  rw [lg_entry_eq]
  generalize (lg_sl ([.ref aP, .int p0, .int p1, .int p2, .int p3]) ++ List.replicate (6 - (lg_sl ([.ref aP, .int p0, .int p1, .int p2, .int p3])).length) Slot.unset).toArray = ls at hl ⊢
  have hl : lv_has ls 6 [(0, .ref aP), (1, .int p0), (2, .int p1), (3, .int p2), (4, .int p3)] := hl
  have C : cx p s m c ([.ref aP, .int p0, .int p1, .int p2, .int p3]).toArray D ky A cX4_canBeApart 6 wsX4_canBeApart RX4 := ⟨hx, hb, hml, hown, hts, hK, hA⟩
  have hQ : ∀ (pc : Nat) (H : Heap) (locs : List Loc) (ls : Array Slot), decode cX4_canBeApart pc = .ok (.ireturn, 1) → (res = 0 ∨ res = 1) → va_P D vwCl (w_part ky aP ag al pgc prc pgr pla) H → va_D A (w_part ky aP ag al pgc prc pgr pla) → va_S A s.heap H locs → W p l e rm_X4_canBeApart s m ([.ref aP, .int p0, .int p1, .int p2, .int p3]).toArray below meth c H locs 0 0 (MQ below (va_Qi (S := Unit) (fun r _ => r = res) (fun _ t => va_P D vwCl (w_part ky aP ag al pgc prc pgr pla) t.heap ∧ va_K D vwCl (tyW ky) t ∧ va_D A (w_part ky aP ag al pgc prc pgr pla)) A) ([.ref aP, .int p0, .int p1, .int p2, .int p3]).toArray s 0 0 A) (F0 m pc ls [.int res]) := fun pc H locs ls hd hz hP hD hS => W.zret hx hb hr (gz_n hz) (fun t ht hW => ⟨⟨res, (), rfl, rfl, by rw [ht]; exact hP, va_K.moved hW.alike hK, hD⟩, hS.F ht⟩) hS.2.2 hd
  unfold f_X4_canBeApart at hF
  refine lv_iconst (v := (0 : Int32)) hx hb dX4_canBeApart_0 (by decide) ?_
  refine lv_istore (lv' := [(5, .int (0 : Int32)), (0, .ref aP), (1, .int p0), (2, .int p1), (3, .int p2), (4, .int p3)]) hx hb dX4_canBeApart_1 hl (by decide) rfl (fun ls hl => ?_)
  exact w_X4_canBeApart_3 N C res hQ p0 p1 p2 p3 N (0 : Int32) hF _ _ _ hP hD hS (lv_sub hl [1, 2, 3, 4, 5, 0] rfl)
theorem c_X4_canBeApart (l : Launch) (D : va_G) (ky : Nat → ClassId) (aP ag al : Nat) (sz N : Nat)  (pgc : Int32) (prc : Int32) (pgr : Nat → Int32) (pla : Nat → Int32) (p0 : Int32) (p1 : Int32) (p2 : Int32) (p3 : Int32) (rv : Int32) (hF : f_X4_canBeApart N p0 p1 p2 p3 pgc pgr pla = some (rv)) : MI l yX4_canBeApart wsX4_canBeApart rm_X4_canBeApart D ky sz [.ref aP, .int p0, .int p1, .int p2, .int p3] (w_part ky aP ag al pgc prc pgr pla) (w_part ky aP ag al pgc prc pgr pla) rv :=
  cr_X4_canBeApart l D ky aP ag al sz N pgc prc pgr pla p0 p1 p2 p3 (rv) hF
abbrev rm_X4_howTogether : Room := { frames := 4, cells := 0, slots := 0, locals := 90 }
set_option maxHeartbeats 4000000 in
set_option maxRecDepth 100000 in
theorem cr_X4_howTogether (l : Launch) (D : va_G) (ky : Nat → ClassId) (aP ag al aB ax au ay am : Nat) (sz N : Nat)  (pgc : Int32) (prc : Int32) (pgr : Nat → Int32) (pla : Nat → Int32) (bsz : Int32) (bgp : Int32) (ber : Int32) (bxs : Nat → Int32) (bus : Nat → Int32) (bys : Nat → Int32) (bme : Nat → Int32) (p1 : Int32) (p2 : Int32) (res : Int32 × Int32 × Int32 × (Nat → Int32) × (Nat → Int32)) (hF : f_X4_howTogether N p1 p2 pgc prc pgr pla bsz bme = some res) : MI l yX4_howTogether wsX4_howTogether rm_X4_howTogether D ky sz [.ref aP, .ref aB, .int p1, .int p2] (w_partbook ky aP ag al aB ax au ay am pgc prc pgr pla bsz bgp ber bxs bus bys bme) (w_partbook ky aP ag al aB ax au ay am res.2.1 res.2.2.1 res.2.2.2.1 res.2.2.2.2 bsz bgp ber bxs bus bys bme) res.1 := by
  unfold MI
  refine Met.ofW (cc := cX4_howTogether) (maxL := 5) (ret := (some .int)) (by decide) rfl ?_
  intro p e s m args below meth c s₁ B hml hv
  obtain ⟨rfl, hsz, hP, hK, hD0⟩ := hv
  have hx := B.exec
  have hb := B.bytes
  have hr := B.returns
  have hts := atoms_spec (ws := wsX4_howTogether) B.pre
  have hown : s.vm.findClass RX4 = some m.cls := findClass_of_methodNamed B.named
  have hlocks := B.notSynchronized
  subst hsz
  have hD := hD0.self (sz := s.heap.size)
  generalize hAe : va_A (w_partbook ky aP ag al aB ax au ay am pgc prc pgr pla bsz bgp ber bxs bus bys bme) s.heap.size = A at hD ⊢
  have hA : ∀ q : Nat, s.heap.size ≤ q → A q := fun q h => by rw [← hAe]; exact Or.inr h
  have hS : va_S A s.heap s.heap [] := va_S.rf
  have hP : va_P D vwCl (w_partbook ky aP ag al aB ax au ay am pgc prc pgr pla bsz bgp ber bxs bus bys bme) s.heap := hP
  have hl := lv_entry ([.ref aP, .ref aB, .int p1, .int p2]) (n := 5) (Nat.le_of_ble_eq_true rfl)
  rw [lg_entry_eq]
  generalize (lg_sl ([.ref aP, .ref aB, .int p1, .int p2]) ++ List.replicate (5 - (lg_sl ([.ref aP, .ref aB, .int p1, .int p2])).length) Slot.unset).toArray = ls at hl ⊢
  have hl : lv_has ls 5 [(0, .ref aP), (1, .ref aB), (2, .int p1), (3, .int p2)] := hl
  have C : cx p s m c ([.ref aP, .ref aB, .int p1, .int p2]).toArray D ky A cX4_howTogether 5 wsX4_howTogether RX4 := ⟨hx, hb, hml, hown, hts, hK, hA⟩
  have hQ : ∀ (pc : Nat) (H : Heap) (locs : List Loc) (ls : Array Slot), decode cX4_howTogether pc = .ok (.ireturn, 1) → va_P D vwCl (w_partbook ky aP ag al aB ax au ay am res.2.1 res.2.2.1 res.2.2.2.1 res.2.2.2.2 bsz bgp ber bxs bus bys bme) H → va_D A (w_partbook ky aP ag al aB ax au ay am res.2.1 res.2.2.1 res.2.2.2.1 res.2.2.2.2 bsz bgp ber bxs bus bys bme) → va_S A s.heap H locs → W p l e rm_X4_howTogether s m ([.ref aP, .ref aB, .int p1, .int p2]).toArray below meth c H locs 0 0 (MQ below (va_Qi (S := Unit) (fun r _ => r = res.1) (fun _ t => va_P D vwCl (w_partbook ky aP ag al aB ax au ay am res.2.1 res.2.2.1 res.2.2.2.1 res.2.2.2.2 bsz bgp ber bxs bus bys bme) t.heap ∧ va_K D vwCl (tyW ky) t ∧ va_D A (w_partbook ky aP ag al aB ax au ay am res.2.1 res.2.2.1 res.2.2.2.1 res.2.2.2.2 bsz bgp ber bxs bus bys bme)) A) ([.ref aP, .ref aB, .int p1, .int p2]).toArray s 0 0 A) (F0 m pc ls [.int res.1]) := fun pc H locs ls hd hP hD hS => W.iret hx hb hr (fun t ht hW => ⟨⟨res.1, (), rfl, rfl, by rw [ht]; exact hP, va_K.moved hW.alike hK, hD⟩, hS.F ht⟩) hS.2.2 hd
  unfold f_X4_howTogether at hF
  refine lv_aload_n hx hb dX4_howTogether_0 rfl (lv_at hl 0 rfl) ?_
  refine lv_aload_n hx hb dX4_howTogether_1 rfl (lv_at hl 1 rfl) ?_
  obtain ⟨r2, v3, v4, v5, v6, h1, hF⟩ := b5_s hF
  refine cl_vi (As := [.ref aB]) (rest := []) (w' := (w_partbook ky aP ag al aB ax au ay am v3 v4 v5 v6 bsz bgp ber bxs bus bys bme)) ⟨hx, hb, hml, hown, hts⟩ hK hP hD hS hA (c_X4_leastLaws l D ky aP ag al aB ax au ay am _ N  pgc prc pgr pla bsz bgp ber bxs bus bys bme  r2 v3 v4 v5 v6 h1) (cwV 1 hts gX4_howTogether_X4_leastLaws rfl rfl rfl (by decide +kernel) ⟨Nat.le_of_ble_eq_true rfl, Nat.le_of_ble_eq_true rfl⟩) [0, 1, 2, 3, 4, 5, 6, 7] [] [0, 1, 2, 3, 4, 5, 6, 7] 0 3 rfl rfl rfl rfl (wr := []) rfl (by decide) rfl rfl hl.1 (Nat.le_of_ble_eq_true rfl) dX4_howTogether_2 ⟨Nat.zero_le _, Nat.zero_le _⟩ (fun H locs hP hD hS => ?_)
  refine lv_istore (lv' := [(4, .int r2), (0, .ref aP), (1, .ref aB), (2, .int p1), (3, .int p2)]) hx hb dX4_howTogether_5 hl (by decide) rfl (fun ls hl => ?_)
  refine lv_iload hx hb dX4_howTogether_7 (lv_at hl 0 rfl) ?_
  refine lv_if_ge (tgt := 15) hx hb dX4_howTogether_9 (by decide) (fun c7 => ?_) (fun c7 => ?_)
  · have hF := if_t c7 hF
    refine lv_aload_n hx hb dX4_howTogether_15 rfl (lv_at hl 1 rfl) ?_
    refine lv_aload_n hx hb dX4_howTogether_16 rfl (lv_at hl 2 rfl) ?_
    obtain ⟨r9, h8, hF⟩ := b1_s hF
    refine cl_vi (As := []) (rest := [.ref aP]) (w' := (w_partbook ky aP ag al aB ax au ay am v3 v4 v5 v6 bsz bgp ber bxs bus bys bme)) ⟨hx, hb, hml, hown, hts⟩ hK hP hD hS hA (c_X0_all l D ky aB ax au ay am _ N  bsz bgp ber bxs bus bys bme  r9 h8) (cwV 0 hts gX4_howTogether_X0_all rfl rfl rfl (by decide +kernel) ⟨Nat.le_of_ble_eq_true rfl, Nat.le_of_ble_eq_true rfl⟩) [3, 4, 5, 6, 7] [0, 1, 2] [0, 1, 2, 3, 4, 5, 6, 7] 0 0 rfl rfl rfl rfl (wr := [(aP, .inr (3, [.ref ag, .int v3, .ref al, .int v4])), (ag, .inl (ky 0, 289, .inl v5)), (al, .inl (ky 1, 4096, .inl v6))]) rfl (by decide) rfl rfl hl.1 (Nat.le_of_ble_eq_true rfl) dX4_howTogether_17 ⟨Nat.zero_le _, Nat.zero_le _⟩ (fun H locs hP hD hS => ?_)
    refine lv_iconst (v := (1 : Int32)) hx hb dX4_howTogether_20 (by decide) ?_
    refine lv_iload_n hx hb dX4_howTogether_21 rfl (lv_at hl 3 rfl) ?_
    refine lv_ishl hx hb dX4_howTogether_22 ?_
    refine lv_iconst (v := (1 : Int32)) hx hb dX4_howTogether_23 (by decide) ?_
    refine lv_iload_n hx hb dX4_howTogether_24 rfl (lv_at hl 4 rfl) ?_
    refine lv_ishl hx hb dX4_howTogether_25 ?_
    refine lv_ior hx hb dX4_howTogether_26 ?_
    refine lv_iload hx hb dX4_howTogether_27 (lv_at hl 0 rfl) ?_
    obtain ⟨r11, h10, hF⟩ := b1_s hF
    refine cl_vi (As := [.int r9, .int (((1 : Int32) <<< (p1 &&& 31)) ||| ((1 : Int32) <<< (p2 &&& 31))), .int r2]) (rest := []) (w' := (w_partbook ky aP ag al aB ax au ay am v3 v4 v5 v6 bsz bgp ber bxs bus bys bme)) ⟨hx, hb, hml, hown, hts⟩ hK hP hD hS hA (c_X4_canBeTogether l D ky aP ag al _ N  v3 v4 v5 v6 r9 (((1 : Int32) <<< (p1 &&& 31)) ||| ((1 : Int32) <<< (p2 &&& 31))) r2 r11 h10) (cwV 3 hts gX4_howTogether_X4_canBeTogether rfl rfl rfl (by decide +kernel) ⟨Nat.le_of_ble_eq_true rfl, Nat.le_of_ble_eq_true rfl⟩) [0, 1, 2] [3, 4, 5, 6, 7] [5, 6, 7, 0, 1, 2, 3, 4] 0 3 rfl rfl rfl rfl (wr := [(aB, .inr (0, [.ref ax, .ref au, .ref ay, .ref am, .int bsz, .int bgp, .int ber])), (ax, .inl (ky 0, 12, .inl bxs)), (au, .inl (ky 0, 12, .inl bus)), (ay, .inl (ky 0, 12, .inl bys)), (am, .inl (ky 0, 289, .inl bme))]) rfl (by decide) rfl rfl hl.1 (Nat.le_of_ble_eq_true rfl) dX4_howTogether_29 ⟨Nat.zero_le _, Nat.zero_le _⟩ (fun H locs hP hD hS => ?_)
    refine lv_if_ne (tgt := 37) hx hb dX4_howTogether_32 (by decide) (fun c12 => ?_) (fun c12 => ?_)
    · have hF := if_f c12 hF
      refine lv_aload_n hx hb dX4_howTogether_37 rfl (lv_at hl 1 rfl) ?_
      refine lv_aload_n hx hb dX4_howTogether_38 rfl (lv_at hl 2 rfl) ?_
      obtain ⟨r14, h13, hF⟩ := b1_s hF
      refine cl_vi (As := []) (rest := [.ref aP]) (w' := (w_partbook ky aP ag al aB ax au ay am v3 v4 v5 v6 bsz bgp ber bxs bus bys bme)) ⟨hx, hb, hml, hown, hts⟩ hK hP hD hS hA (c_X0_all l D ky aB ax au ay am _ N  bsz bgp ber bxs bus bys bme  r14 h13) (cwV 0 hts gX4_howTogether_X0_all rfl rfl rfl (by decide +kernel) ⟨Nat.le_of_ble_eq_true rfl, Nat.le_of_ble_eq_true rfl⟩) [3, 4, 5, 6, 7] [0, 1, 2] [0, 1, 2, 3, 4, 5, 6, 7] 0 0 rfl rfl rfl rfl (wr := [(aP, .inr (3, [.ref ag, .int v3, .ref al, .int v4])), (ag, .inl (ky 0, 289, .inl v5)), (al, .inl (ky 1, 4096, .inl v6))]) rfl (by decide) rfl rfl hl.1 (Nat.le_of_ble_eq_true rfl) dX4_howTogether_39 ⟨Nat.zero_le _, Nat.zero_le _⟩ (fun H locs hP hD hS => ?_)
      refine lv_iconst (v := (1 : Int32)) hx hb dX4_howTogether_42 (by decide) ?_
      refine lv_iload_n hx hb dX4_howTogether_43 rfl (lv_at hl 3 rfl) ?_
      refine lv_ishl hx hb dX4_howTogether_44 ?_
      refine lv_iconst (v := (1 : Int32)) hx hb dX4_howTogether_45 (by decide) ?_
      refine lv_iload_n hx hb dX4_howTogether_46 rfl (lv_at hl 4 rfl) ?_
      refine lv_ishl hx hb dX4_howTogether_47 ?_
      refine lv_iload hx hb dX4_howTogether_48 (lv_at hl 0 rfl) ?_
      obtain ⟨r16, h15, hF⟩ := b1_s hF
      refine cl_vi (As := [.int r14, .int ((1 : Int32) <<< (p1 &&& 31)), .int ((1 : Int32) <<< (p2 &&& 31)), .int r2]) (rest := []) (w' := (w_partbook ky aP ag al aB ax au ay am v3 v4 v5 v6 bsz bgp ber bxs bus bys bme)) ⟨hx, hb, hml, hown, hts⟩ hK hP hD hS hA (c_X4_canBeApart l D ky aP ag al _ N  v3 v4 v5 v6 r14 ((1 : Int32) <<< (p1 &&& 31)) ((1 : Int32) <<< (p2 &&& 31)) r2 r16 h15) (cwV 4 hts gX4_howTogether_X4_canBeApart rfl rfl rfl (by decide +kernel) ⟨Nat.le_of_ble_eq_true rfl, Nat.le_of_ble_eq_true rfl⟩) [0, 1, 2] [3, 4, 5, 6, 7] [5, 6, 7, 0, 1, 2, 3, 4] 0 3 rfl rfl rfl rfl (wr := [(aB, .inr (0, [.ref ax, .ref au, .ref ay, .ref am, .int bsz, .int bgp, .int ber])), (ax, .inl (ky 0, 12, .inl bxs)), (au, .inl (ky 0, 12, .inl bus)), (ay, .inl (ky 0, 12, .inl bys)), (am, .inl (ky 0, 289, .inl bme))]) rfl (by decide) rfl rfl hl.1 (Nat.le_of_ble_eq_true rfl) dX4_howTogether_50 ⟨Nat.zero_le _, Nat.zero_le _⟩ (fun H locs hP hD hS => ?_)
      refine lv_if_eq (tgt := 60) hx hb dX4_howTogether_53 (by decide) (fun c17 => ?_) (fun c17 => ?_)
      · have hF := if_t c17 hF
        refine lv_iconst (v := (2 : Int32)) hx hb dX4_howTogether_60 (by decide) ?_
        have hF := Option.some.inj hF
        subst hF
        exact hQ _ _ _ _ dX4_howTogether_61 hP hD hS
      · have hF := if_f c17 hF
        refine lv_iconst (v := (1 : Int32)) hx hb dX4_howTogether_56 (by decide) ?_
        refine lv_goto (tgt := 61) hx hb dX4_howTogether_57 (by decide) ?_
        have hF := Option.some.inj hF
        subst hF
        exact hQ _ _ _ _ dX4_howTogether_61 hP hD hS
    · have hF := if_t c12 hF
      refine lv_iconst (v := (0 : Int32)) hx hb dX4_howTogether_35 (by decide) ?_
      have hF := Option.some.inj hF
      subst hF
      exact hQ _ _ _ _ dX4_howTogether_36 hP hD hS
  · have hF := if_f c7 hF
    refine lv_bipush (v := (-4 : Int32)) hx hb dX4_howTogether_12 (by decide) ?_
    have hF := Option.some.inj hF
    subst hF
    exact hQ _ _ _ _ dX4_howTogether_14 hP hD hS
theorem c_X4_howTogether (l : Launch) (D : va_G) (ky : Nat → ClassId) (aP ag al aB ax au ay am : Nat) (sz N : Nat)  (pgc : Int32) (prc : Int32) (pgr : Nat → Int32) (pla : Nat → Int32) (bsz : Int32) (bgp : Int32) (ber : Int32) (bxs : Nat → Int32) (bus : Nat → Int32) (bys : Nat → Int32) (bme : Nat → Int32) (p1 : Int32) (p2 : Int32) (rv : Int32) (pgc' : Int32) (prc' : Int32) (pgr' : Nat → Int32) (pla' : Nat → Int32) (hF : f_X4_howTogether N p1 p2 pgc prc pgr pla bsz bme = some (rv, pgc', prc', pgr', pla')) : MI l yX4_howTogether wsX4_howTogether rm_X4_howTogether D ky sz [.ref aP, .ref aB, .int p1, .int p2] (w_partbook ky aP ag al aB ax au ay am pgc prc pgr pla bsz bgp ber bxs bus bys bme) (w_partbook ky aP ag al aB ax au ay am pgc' prc' pgr' pla' bsz bgp ber bxs bus bys bme) rv :=
  cr_X4_howTogether l D ky aP ag al aB ax au ay am sz N pgc prc pgr pla bsz bgp ber bxs bus bys bme p1 p2 (rv, pgc', prc', pgr', pla') hF
