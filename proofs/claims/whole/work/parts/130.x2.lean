def f_X8_span (N : Nat) (p0 : Int32) (p1 : Int32) (p2 : Int32) (p3 : Int32) (bsz : Int32) (bme : Nat → Int32) : Option (Int32) :=
  b1 (f_X0_isHeap N p0 bsz) (fun r2 => (if r2 = 0 then some ((-1000001 : Int32)) else b1 (f_X8_isNear N p1 (99 : Int32)) (fun r5 => (if r5 = 0 then some ((-1000001 : Int32)) else b1 (f_X8_isNear N p2 (99 : Int32)) (fun r8 => (if r8 = 0 then some ((-1000001 : Int32)) else (if p3 < 0 then some ((-1000001 : Int32)) else (if p3 ≤ (1 : Int32) then b1 (f_X0_isWhole N p0 bme) (fun r13 => (if r13 = 0 then some ((-1000004 : Int32)) else (if p3 = 0 then b1 (f_X0_leastSum N p0 p1 p2 bme) (fun r19 => some (r19)) else b1 (f_X0_leastSum N p0 (-p1) (-p2) bme) (fun r17 => some ((-r17)))))) else some ((-1000001 : Int32))))))))))
def b_X8_line_54 (N : Nat) (k44 : Int32 → Option (Int32)) (l1 : Int32) (l2 : Int32) (l3 : Int32) (l4 : Int32) (bsz : Int32) (bxs : Nat → Int32) (bus : Nat → Int32) (k54 : Int32 → Option (Int32)) (l5 : Int32) : Option (Int32) :=
  (if (3 : Int32) < l5 then k44 (l4 + (1 : Int32)) else b1 (f_X0_leastHeight N l2 (-l4) (-l5) bsz bxs bus) (fun r13 => nm (if (-99 : Int32) < ((1 : Int32) - r13) then ((1 : Int32) - r13) else (-99 : Int32)) (fun v14 => (if (99 : Int32) < v14 then k54 (l5 + (1 : Int32)) else b1 (f_X0_leastHeight N l1 l4 l5 bsz bxs bus) (fun r17 => (if r17 < v14 then k54 (l5 + (1 : Int32)) else (if l3 = 0 then some (l4) else (if l3 = (1 : Int32) then some (l5) else some (v14)))))))))
def f_X8_line_54 (N : Nat) (k44 : Int32 → Option (Int32)) (l1 : Int32) (l2 : Int32) (l3 : Int32) (l4 : Int32) (bsz : Int32) (bxs : Nat → Int32) (bus : Nat → Int32) : Nat → Int32 → Option (Int32)
  | 0, _ => none
  | n + 1, l5 => b_X8_line_54 N k44 l1 l2 l3 l4 bsz bxs bus (f_X8_line_54 N k44 l1 l2 l3 l4 bsz bxs bus n) l5
def b_X8_line_44 (N : Nat)  (l1 : Int32) (l2 : Int32) (l3 : Int32) (bsz : Int32) (bxs : Nat → Int32) (bus : Nat → Int32) (k44 : Int32 → Option (Int32)) (l4 : Int32) : Option (Int32) :=
  (if (3 : Int32) < l4 then some ((-1000004 : Int32)) else f_X8_line_54 N k44 l1 l2 l3 l4 bsz bxs bus N (-3 : Int32))
def f_X8_line_44 (N : Nat)  (l1 : Int32) (l2 : Int32) (l3 : Int32) (bsz : Int32) (bxs : Nat → Int32) (bus : Nat → Int32) : Nat → Int32 → Option (Int32)
  | 0, _ => none
  | n + 1, l4 => b_X8_line_44 N l1 l2 l3 bsz bxs bus (f_X8_line_44 N l1 l2 l3 bsz bxs bus n) l4
def f_X8_line (N : Nat) (p0 : Int32) (p1 : Int32) (p2 : Int32) (bsz : Int32) (bxs : Nat → Int32) (bus : Nat → Int32) : Option (Int32) :=
  b1 (f_X0_isHeap N p0 bsz) (fun r2 => (if r2 = 0 then some ((-1000001 : Int32)) else b1 (f_X0_isHeap N p1 bsz) (fun r5 => (if r5 = 0 then some ((-1000001 : Int32)) else (if (p0 &&& p1) = 0 then (if p2 < 0 then some ((-1000001 : Int32)) else (if p2 ≤ (2 : Int32) then f_X8_line_44 N p0 p1 p2 bsz bxs bus N (-3 : Int32) else some ((-1000001 : Int32)))) else some ((-1000001 : Int32)))))))
def b_X8_hours_26 (N : Nat)  (l1 : Int32) (l2 : Int32) (bsz : Int32) (k26 : Int32 → Option (Int32)) (l3 : Int32) : Option (Int32) :=
  (if (6 : Int32) < l3 then some ((-4 : Int32)) else b1 (f_X8_rests N l1 l3 bsz) (fun r9 => b1 (f_X8_rests N l2 l3 bsz) (fun r11 => (if (r9 &&& r11) = 0 then some (l3) else k26 (l3 + (1 : Int32))))))
def f_X8_hours_26 (N : Nat)  (l1 : Int32) (l2 : Int32) (bsz : Int32) : Nat → Int32 → Option (Int32)
  | 0, _ => none
  | n + 1, l3 => b_X8_hours_26 N l1 l2 bsz (f_X8_hours_26 N l1 l2 bsz n) l3
def f_X8_hours (N : Nat) (p0 : Int32) (p1 : Int32) (bsz : Int32) : Option (Int32) :=
  b1 (f_X0_isHeap N p0 bsz) (fun r2 => (if r2 = 0 then some ((-1 : Int32)) else b1 (f_X0_isHeap N p1 bsz) (fun r5 => (if r5 = 0 then some ((-1 : Int32)) else f_X8_hours_26 N p0 p1 bsz N (1 : Int32)))))
def b_X8_wear_84 (N : Nat)  (l1 : Int32) (l6 : Int32) (bsz : Int32) (bme : Nat → Int32) (k84 : Int32 → Option (Int32)) (l7 : Int32) : Option (Int32) :=
  b1 (f_X0_size N bsz) (fun r25 => (if r25 < l7 then some ((-4 : Int32)) else b1 (f_X0_letsLaw N (((1 : Int32) <<< (l7 &&& 31)) - (1 : Int32)) l1 bme) (fun r28 => (if r28 = 0 then k84 (l7 + (1 : Int32)) else b1 (f_X0_all N bsz) (fun r31 => b1 (f_X0_letsLaw N (r31 &&& ((((1 : Int32) <<< (l7 &&& 31)) - (1 : Int32)) ^^^ (-1 : Int32))) l6 bme) (fun r33 => (if r33 = 0 then k84 (l7 + (1 : Int32)) else some (l7))))))))
def f_X8_wear_84 (N : Nat)  (l1 : Int32) (l6 : Int32) (bsz : Int32) (bme : Nat → Int32) : Nat → Int32 → Option (Int32)
  | 0, _ => none
  | n + 1, l7 => b_X8_wear_84 N l1 l6 bsz bme (f_X8_wear_84 N l1 l6 bsz bme n) l7
def f_X8_wear_33 (N : Nat)  (l1 : Int32) (l2 : Int32) (l3 : Int32) (bsz : Int32) (bme : Nat → Int32) : Option (Int32) :=
  b1 (f_X3_partOfState N l1) (fun r13 => b1 (f_X3_partOfPush N l1) (fun r15 => b1 (f_X8_isNear N (r13 + l2) (8 : Int32)) (fun r17 => (if r17 = 0 then some ((-2 : Int32)) else b1 (f_X8_isNear N (r15 + l3) (8 : Int32)) (fun r20 => (if r20 = 0 then some ((-2 : Int32)) else b1 (f_X3_number N (r13 + l2) (r15 + l3)) (fun r23 => f_X8_wear_84 N l1 r23 bsz bme N (0 : Int32))))))))
def f_X8_wear (N : Nat) (p0 : Int32) (p1 : Int32) (p2 : Int32) (bsz : Int32) (bme : Nat → Int32) : Option (Int32) :=
  b1 (f_X3_is N p0) (fun r2 => (if r2 = 0 then some ((-1 : Int32)) else b1 (f_X8_isNear N p1 (1 : Int32)) (fun r5 => (if r5 = 0 then some ((-1 : Int32)) else b1 (f_X8_isNear N p2 (1 : Int32)) (fun r8 => (if r8 = 0 then some ((-1 : Int32)) else (if p1 = 0 then (if p2 = 0 then some ((-1 : Int32)) else f_X8_wear_33 N p0 p1 p2 bsz bme) else f_X8_wear_33 N p0 p1 p2 bsz bme)))))))
def f_X8_tries (N : Nat) (p0 : Int32) (p1 : Int32) (p2 : Int32) (rlc : Int32) (rla : Nat → Int32) (rmo : Nat → Int32) (bsz : Int32) (ber : Int32) (bme : Nat → Int32) : Option (Int32 × Int32 × (Nat → Int32) × (Nat → Int32)) :=
  b1 (f_X0_isHeap N p0 bsz) (fun r2 => (if r2 = 0 then some ((-1 : Int32), rlc, rla, rmo) else b1 (f_X8_isNear N p1 (99 : Int32)) (fun r5 => (if r5 = 0 then some ((-1 : Int32), rlc, rla, rmo) else b1 (f_X8_isNear N p2 (9 : Int32)) (fun r8 => (if r8 = 0 then some ((-1 : Int32), rlc, rla, rmo) else b1 (f_X0_isWhole N p0 bme) (fun r11 => (if r11 = 0 then some ((-4 : Int32), rlc, rla, rmo) else b2 (f_X7_gather N p0 rla bme) (fun v14 v15 => b1 (f_X0_errorNow N ber) (fun r17 => b2 (f_X7_leftAtWorst N p1 p2 r17 v14 v15 rmo) (fun r19 v20 => some (r19, v14, v15, v20))))))))))))
def b_X8_best_59 (N : Nat)  (l2 : Int32) (rlc : Int32) (rla : Nat → Int32) (ber : Int32) (k59 : Int32 → Int32 → Int32 → (Nat → Int32) → Option (Int32 × Int32 × (Nat → Int32) × (Nat → Int32))) (l3 : Int32) (l4 : Int32) (l5 : Int32) (rmo : Nat → Int32) : Option (Int32 × Int32 × (Nat → Int32) × (Nat → Int32)) :=
  (if (18 : Int32) < l5 then some (l3, rlc, rla, rmo) else b1 (f_X8_pushInTurn N l5) (fun r15 => b1 (f_X0_errorNow N ber) (fun r17 => b2 (f_X7_leftAtWorst N l2 r15 r17 rlc rla rmo) (fun r19 v20 => (if l4 ≤ r19 then k59 l3 l4 (l5 + (1 : Int32)) v20 else b1 (f_X8_pushInTurn N l5) (fun r23 => k59 r23 r19 (l5 + (1 : Int32)) v20))))))
def f_X8_best_59 (N : Nat)  (l2 : Int32) (rlc : Int32) (rla : Nat → Int32) (ber : Int32) : Nat → Int32 → Int32 → Int32 → (Nat → Int32) → Option (Int32 × Int32 × (Nat → Int32) × (Nat → Int32))
  | 0, _, _, _, _ => none
  | n + 1, l3, l4, l5, rmo => b_X8_best_59 N l2 rlc rla ber (f_X8_best_59 N l2 rlc rla ber n) l3 l4 l5 rmo
def f_X8_best (N : Nat) (p0 : Int32) (p1 : Int32) (rlc : Int32) (rla : Nat → Int32) (rmo : Nat → Int32) (bsz : Int32) (ber : Int32) (bme : Nat → Int32) : Option (Int32 × Int32 × (Nat → Int32) × (Nat → Int32)) :=
  b1 (f_X0_isHeap N p0 bsz) (fun r2 => (if r2 = 0 then some ((-1000001 : Int32), rlc, rla, rmo) else b1 (f_X8_isNear N p1 (99 : Int32)) (fun r5 => (if r5 = 0 then some ((-1000001 : Int32), rlc, rla, rmo) else b1 (f_X0_isWhole N p0 bme) (fun r8 => (if r8 = 0 then some ((-1000004 : Int32), rlc, rla, rmo) else b2 (f_X7_gather N p0 rla bme) (fun v11 v12 => f_X8_best_59 N p1 v11 v12 ber N (0 : Int32) (290 : Int32) (0 : Int32) rmo)))))))
def b_X8_apart_29 (N : Nat)  (l1 : Int32) (l2 : Int32) (l3 : Int32) (ber : Int32) (k29 : Int32 → Option (Int32)) (l4 : Int32) : Option (Int32) :=
  (if (18 : Int32) < l4 then some ((-1000004 : Int32)) else b1 (f_X8_pushInTurn N l4) (fun r12 => b1 (f_X3_sum N l1 l3 r12) (fun r14 => b1 (f_X3_sum N l2 l3 r12) (fun r16 => b1 (f_X0_errorNow N ber) (fun r18 => b1 (f_X3_leastEnd N (if r14 < r16 then r16 else r14) r18) (fun r20 => b1 (f_X3_greatestEnd N (if r16 < r14 then r16 else r14) r18) (fun r22 => (if r20 ≤ r22 then k29 (l4 + (1 : Int32)) else some (r12)))))))))
def f_X8_apart_29 (N : Nat)  (l1 : Int32) (l2 : Int32) (l3 : Int32) (ber : Int32) : Nat → Int32 → Option (Int32)
  | 0, _ => none
  | n + 1, l4 => b_X8_apart_29 N l1 l2 l3 ber (f_X8_apart_29 N l1 l2 l3 ber n) l4
def f_X8_apart (N : Nat) (p0 : Int32) (p1 : Int32) (p2 : Int32) (ber : Int32) : Option (Int32) :=
  b1 (f_X3_is N p0) (fun r2 => (if r2 = 0 then some ((-1000001 : Int32)) else b1 (f_X3_is N p1) (fun r5 => (if r5 = 0 then some ((-1000001 : Int32)) else b1 (f_X8_isNear N p2 (99 : Int32)) (fun r8 => (if r8 = 0 then some ((-1000001 : Int32)) else f_X8_apart_29 N p0 p1 p2 ber N (0 : Int32)))))))
def f_X8_know (N : Nat) (p0 : Int32) (ksz : Int32) (kmb : Int32) (kla : Nat → Int32) : Option (Int32 × Int32 × Int32 × (Nat → Int32)) :=
  b1 (f_X3_is N p0) (fun r2 => (if r2 = 0 then some ((-1 : Int32), ksz, kmb, kla) else b4 (f_X2_add N p0 ksz kmb kla) (fun r5 v6 v7 v8 => some (r5, v6, v7, v8))))
def f_X8_box (N : Nat) (p0 : Int32) (p1 : Int32) (lo : Int32) (hi : Int32) : Option (Int32 × Int32 × Int32) :=
  b1 (f_X8_isNear N p0 (9999 : Int32)) (fun r2 => (if r2 = 0 then some ((-1 : Int32), lo, hi) else b1 (f_X8_isNear N p1 (9999 : Int32)) (fun r5 => (if r5 = 0 then some ((-1 : Int32), lo, hi) else (if p0 ≤ p1 then b2 (f_X1_become N p0 p1) (fun v9 v10 => some ((1 : Int32), v9, v10)) else some ((-1 : Int32), lo, hi))))))
def f_X8_step (N : Nat) (p0 : Int32) (lo : Int32) (hi : Int32) (ksz : Int32) (kla : Nat → Int32) (ber : Int32) : Option (Int32 × Int32 × Int32) :=
  b1 (f_X8_isNear N p0 (99 : Int32)) (fun r2 => (if r2 = 0 then some ((-1 : Int32), lo, hi) else b1 (f_X2_size N ksz) (fun r5 => (if r5 = 0 then some ((-4 : Int32), lo, hi) else b1 (f_X0_errorNow N ber) (fun r8 => b2 (f_X1_move N p0 r8 lo hi ksz kla) (fun v10 v11 => some ((1 : Int32), v10, v11)))))))
def f_X8_holds (N : Nat) (p0 : Int32) (lo : Int32) (hi : Int32) : Option (Int32) :=
  (if p0 < 0 then some ((-1000001 : Int32)) else (if p0 ≤ (1 : Int32) then (if p0 = 0 then b1 (f_X1_least N lo) (fun r7 => some (r7)) else b1 (f_X1_greatest N hi) (fun r5 => some (r5))) else some ((-1000001 : Int32))))
def b_X8_brake_86 (N : Nat)  (l1 : Int32) (l2 : Int32) (l3 : Int32) (l4 : Int32) (ksz : Int32) (kla : Nat → Int32) (ber : Int32) (k86 : Int32 → Int32 → Int32 → Option (Int32 × Int32 × Int32)) (l5 : Int32) (glo : Int32) (ghi : Int32) : Option (Int32 × Int32 × Int32) :=
  (if l2 < l5 then some ((-4 : Int32), glo, ghi) else b1 (f_X0_errorNow N ber) (fun r25 => b2 (f_X1_move N l1 r25 glo ghi ksz kla) (fun v27 v28 => b1 (f_X1_least N v27) (fun r30 => (if r30 < l3 then some (l5, v27, v28) else b1 (f_X1_greatest N v28) (fun r33 => (if r33 ≤ l4 then k86 (l5 + (1 : Int32)) v27 v28 else some (l5, v27, v28))))))))
def f_X8_brake_86 (N : Nat)  (l1 : Int32) (l2 : Int32) (l3 : Int32) (l4 : Int32) (ksz : Int32) (kla : Nat → Int32) (ber : Int32) : Nat → Int32 → Int32 → Int32 → Option (Int32 × Int32 × Int32)
  | 0, _, _, _ => none
  | n + 1, l5, glo, ghi => b_X8_brake_86 N l1 l2 l3 l4 ksz kla ber (f_X8_brake_86 N l1 l2 l3 l4 ksz kla ber n) l5 glo ghi
def f_X8_brake (N : Nat) (p0 : Int32) (p1 : Int32) (p2 : Int32) (p3 : Int32) (lo : Int32) (hi : Int32) (glo : Int32) (ghi : Int32) (ksz : Int32) (kla : Nat → Int32) (ber : Int32) : Option (Int32 × Int32 × Int32) :=
  b1 (f_X8_isNear N p0 (99 : Int32)) (fun r2 => (if r2 = 0 then some ((-1 : Int32), glo, ghi) else (if p1 < (1 : Int32) then some ((-1 : Int32), glo, ghi) else (if (40 : Int32) < p1 then some ((-1 : Int32), glo, ghi) else b1 (f_X8_isNear N p2 (9999 : Int32)) (fun r7 => (if r7 = 0 then some ((-1 : Int32), glo, ghi) else b1 (f_X8_isNear N p3 (9999 : Int32)) (fun r10 => (if r10 = 0 then some ((-1 : Int32), glo, ghi) else (if p2 ≤ p3 then b1 (f_X2_size N ksz) (fun r14 => (if r14 = 0 then some ((-2 : Int32), glo, ghi) else b1 (f_X1_least N lo) (fun r17 => b1 (f_X1_greatest N hi) (fun r19 => b2 (f_X1_become N r17 r19) (fun v21 v22 => f_X8_brake_86 N p0 p1 p2 p3 ksz kla ber N (1 : Int32) v21 v22))))) else some ((-1 : Int32), glo, ghi))))))))))
def f_X8_watch (N : Nat) (p0 : Int32) (p1 : Int32) (p2 : Int32) (ksz : Int32) (kmb : Int32) (kwa : Int32) (kra : Int32) (kla : Nat → Int32) (ber : Int32) : Option (Int32 × Int32 × Int32 × Int32) :=
  b1 (f_X8_isNear N p0 (99 : Int32)) (fun r2 => (if r2 = 0 then some ((-1 : Int32), kmb, kwa, kra) else b1 (f_X8_isNear N p1 (99 : Int32)) (fun r5 => (if r5 = 0 then some ((-1 : Int32), kmb, kwa, kra) else b1 (f_X8_isNear N p2 (99 : Int32)) (fun r8 => (if r8 = 0 then some ((-1 : Int32), kmb, kwa, kra) else b1 (f_X2_size N ksz) (fun r11 => (if r11 = 0 then some ((-2 : Int32), kmb, kwa, kra) else b1 (f_X0_errorNow N ber) (fun r14 => b4 (f_X2_see N p0 p1 p2 r14 ksz kmb kwa kra kla) (fun r16 v17 v18 v19 => some (r16, v17, v18, v19)))))))))))
abbrev rm_X8_span : Room := { frames := 4, cells := 0, slots := 0, locals := 88 }
theorem iX8_span_X8 : ∀ w ∈ wsX80, w ∈ wsX8_span := by decide +kernel
theorem kX8_span_1 : (Cond.fieldLink RX8 10 "TwoLaws" "book" "LTwoLaws$Book;") ∈ wsX8_span := by decide +kernel
theorem kX8_span_2 : (Cond.constant RX8 107 (-1000001)) ∈ wsX8_span := by decide +kernel
theorem kX8_span_3 : (Cond.constant RX8 117 (-1000004)) ∈ wsX8_span := by decide +kernel
set_option maxHeartbeats 4000000 in
set_option maxRecDepth 100000 in
theorem cr_X8_span (l : Launch) (D : va_G) (ky : Nat → ClassId) (aX aB aP aT aR aK aH aG aS ax au ay am : Nat) (sz N : Nat)  (bsz : Int32) (bgp : Int32) (ber : Int32) (bxs : Nat → Int32) (bus : Nat → Int32) (bys : Nat → Int32) (bme : Nat → Int32) (p0 : Int32) (p1 : Int32) (p2 : Int32) (p3 : Int32) (res : Int32) (hF : f_X8_span N p0 p1 p2 p3 bsz bme = some res) : MI l yX8_span wsX8_span rm_X8_span D ky sz [.ref aX, .int p0, .int p1, .int p2, .int p3] (w_xbook ky aX aB aP aT aR aK aH aG aS ax au ay am bsz bgp ber bxs bus bys bme) (w_xbook ky aX aB aP aT aR aK aH aG aS ax au ay am bsz bgp ber bxs bus bys bme) res := by
  unfold MI
  refine Met.ofW (cc := cX8_span) (maxL := 5) (ret := (some .int)) (by decide) rfl ?_
  intro p e s m args below meth c s₁ B hml hv
  obtain ⟨rfl, hsz, hP, hK, hD0⟩ := hv
  have hx := B.exec
  have hb := B.bytes
  have hr := B.returns
  have hts := atoms_spec (ws := wsX8_span) B.pre
  have hown : s.vm.findClass RX8 = some m.cls := findClass_of_methodNamed B.named
  have hlocks := B.notSynchronized
  subst hsz
  have hD := hD0.self (sz := s.heap.size)
  generalize hAe : va_A (w_xbook ky aX aB aP aT aR aK aH aG aS ax au ay am bsz bgp ber bxs bus bys bme) s.heap.size = A at hD ⊢
  have hA : ∀ q : Nat, s.heap.size ≤ q → A q := fun q h => by rw [← hAe]; exact Or.inr h
  have hS : va_S A s.heap s.heap [] := va_S.rf
  have hP : va_P D vwCl (w_xbook ky aX aB aP aT aR aK aH aG aS ax au ay am bsz bgp ber bxs bus bys bme) s.heap := hP
  have hl := lv_entry ([.ref aX, .int p0, .int p1, .int p2, .int p3]) (n := 5) (Nat.le_of_ble_eq_true rfl)
  rw [lg_entry_eq]
  generalize (lg_sl ([.ref aX, .int p0, .int p1, .int p2, .int p3]) ++ List.replicate (5 - (lg_sl ([.ref aX, .int p0, .int p1, .int p2, .int p3])).length) Slot.unset).toArray = ls at hl ⊢
  have hl : lv_has ls 5 [(0, .ref aX), (1, .int p0), (2, .int p1), (3, .int p2), (4, .int p3)] := hl
  have C : cx p s m c ([.ref aX, .int p0, .int p1, .int p2, .int p3]).toArray D ky A cX8_span 5 wsX8_span RX8 := ⟨hx, hb, hml, hown, hts, hK, hA⟩
  have hQ : ∀ (pc : Nat) (H : Heap) (locs : List Loc) (ls : Array Slot), decode cX8_span pc = .ok (.ireturn, 1) → va_P D vwCl (w_xbook ky aX aB aP aT aR aK aH aG aS ax au ay am bsz bgp ber bxs bus bys bme) H → va_D A (w_xbook ky aX aB aP aT aR aK aH aG aS ax au ay am bsz bgp ber bxs bus bys bme) → va_S A s.heap H locs → W p l e rm_X8_span s m ([.ref aX, .int p0, .int p1, .int p2, .int p3]).toArray below meth c H locs 0 0 (MQ below (va_Qi (S := Unit) (fun r _ => r = res) (fun _ t => va_P D vwCl (w_xbook ky aX aB aP aT aR aK aH aG aS ax au ay am bsz bgp ber bxs bus bys bme) t.heap ∧ va_K D vwCl (tyW ky) t ∧ va_D A (w_xbook ky aX aB aP aT aR aK aH aG aS ax au ay am bsz bgp ber bxs bus bys bme)) A) ([.ref aX, .int p0, .int p1, .int p2, .int p3]).toArray s 0 0 A) (F0 m pc ls [.int res]) := fun pc H locs ls hd hP hD hS => W.iret hx hb hr (fun t ht hW => ⟨⟨res, (), rfl, rfl, by rw [ht]; exact hP, va_K.moved hW.alike hK, hD⟩, hS.F ht⟩) hS.2.2 hd
  unfold f_X8_span at hF
  refine lv_aload_n hx hb dX8_span_0 rfl (lv_at hl 0 rfl) ?_
  refine va_get (D := D) (ci := 7) (v := .ref aB) (C := RX8) (T := TX8) (N := 8) hx hb hts iX8_span_X8 hown hK hP 0 rfl rfl 0 (by decide) (hts _ kX8_span_1) (fun _ h9 => h9) rfl dX8_span_1 ?_
  refine lv_iload_n hx hb dX8_span_4 rfl (lv_at hl 1 rfl) ?_
  obtain ⟨r2, h1, hF⟩ := b1_s hF
  refine cl_vi (As := [.int p0]) (rest := []) (w' := (w_xbook ky aX aB aP aT aR aK aH aG aS ax au ay am bsz bgp ber bxs bus bys bme)) ⟨hx, hb, hml, hown, hts⟩ hK hP hD hS hA (c_X0_isHeap l D ky aB ax au ay am _ N  bsz bgp ber bxs bus bys bme p0 r2 h1) (cwV 1 hts gX8_span_X0_isHeap rfl rfl rfl (by decide +kernel) ⟨Nat.le_of_ble_eq_true rfl, Nat.le_of_ble_eq_true rfl⟩) [1, 2, 3, 4, 5] [0] [0, 1, 2, 3, 4, 5] 0 0 rfl rfl rfl rfl (wr := [(aX, .inr (7, [.ref aB, .ref aP, .ref aT, .ref aR, .ref aK, .ref aH, .ref aG, .ref aS]))]) rfl (by decide) rfl rfl hl.1 (Nat.le_of_ble_eq_true rfl) dX8_span_5 ⟨Nat.zero_le _, Nat.zero_le _⟩ (fun H locs hP hD hS => ?_)
  refine lv_if_eq (tgt := 40) hx hb dX8_span_8 (by decide) (fun c3 => ?_) (fun c3 => ?_)
  · have hF := if_t c3 hF
    refine lv_ldc hx hb hown (hts _ kX8_span_2) dX8_span_40 ?_
    have hF := Option.some.inj hF
    subst hF
    exact hQ _ _ _ _ dX8_span_42 hP hD hS
  · have hF := if_f c3 hF
    refine lv_iload_n hx hb dX8_span_11 rfl (lv_at hl 2 rfl) ?_
    refine lv_bipush (v := (99 : Int32)) hx hb dX8_span_12 (by decide) ?_
    obtain ⟨r5, h4, hF⟩ := b1_s hF
    refine cl_si (As := [.int p1, .int (99 : Int32)]) (rest := []) ⟨hx, hb, hml, hown, hts⟩ hK hP hD hS hA (c_X8_isNear l D ky  _ N   p1 (99 : Int32) r5 h4) (va_cwS 2 hts gX8_span_X8_isNear rfl rfl rfl (by decide +kernel) ⟨Nat.le_of_ble_eq_true rfl, Nat.le_of_ble_eq_true rfl⟩) rfl hl.1 (Nat.le_of_ble_eq_true rfl) dX8_span_14 ⟨Nat.zero_le _, Nat.zero_le _⟩ (fun H locs hP hD hS => ?_)
    refine lv_if_eq (tgt := 40) hx hb dX8_span_17 (by decide) (fun c6 => ?_) (fun c6 => ?_)
    · have hF := if_t c6 hF
      refine lv_ldc hx hb hown (hts _ kX8_span_2) dX8_span_40 ?_
      have hF := Option.some.inj hF
      subst hF
      exact hQ _ _ _ _ dX8_span_42 hP hD hS
    · have hF := if_f c6 hF
      refine lv_iload_n hx hb dX8_span_20 rfl (lv_at hl 3 rfl) ?_
      refine lv_bipush (v := (99 : Int32)) hx hb dX8_span_21 (by decide) ?_
      obtain ⟨r8, h7, hF⟩ := b1_s hF
      refine cl_si (As := [.int p2, .int (99 : Int32)]) (rest := []) ⟨hx, hb, hml, hown, hts⟩ hK hP hD hS hA (c_X8_isNear l D ky  _ N   p2 (99 : Int32) r8 h7) (va_cwS 2 hts gX8_span_X8_isNear rfl rfl rfl (by decide +kernel) ⟨Nat.le_of_ble_eq_true rfl, Nat.le_of_ble_eq_true rfl⟩) rfl hl.1 (Nat.le_of_ble_eq_true rfl) dX8_span_23 ⟨Nat.zero_le _, Nat.zero_le _⟩ (fun H locs hP hD hS => ?_)
      refine lv_if_eq (tgt := 40) hx hb dX8_span_26 (by decide) (fun c9 => ?_) (fun c9 => ?_)
      · have hF := if_t c9 hF
        refine lv_ldc hx hb hown (hts _ kX8_span_2) dX8_span_40 ?_
        have hF := Option.some.inj hF
        subst hF
        exact hQ _ _ _ _ dX8_span_42 hP hD hS
      · have hF := if_f c9 hF
        refine lv_iload hx hb dX8_span_29 (lv_at hl 4 rfl) ?_
        refine lv_if_lt (tgt := 40) hx hb dX8_span_31 (by decide) (fun c10 => ?_) (fun c10 => ?_)
        · have hF := if_t c10 hF
          refine lv_ldc hx hb hown (hts _ kX8_span_2) dX8_span_40 ?_
          have hF := Option.some.inj hF
          subst hF
          exact hQ _ _ _ _ dX8_span_42 hP hD hS
        · have hF := if_f c10 hF
          refine lv_iload hx hb dX8_span_34 (lv_at hl 4 rfl) ?_
          refine lv_iconst (v := (1 : Int32)) hx hb dX8_span_36 (by decide) ?_
          refine lv_icmp_le (tgt := 43) hx hb dX8_span_37 (by decide) (fun c11 => ?_) (fun c11 => ?_)
          · have hF := if_t c11 hF
            refine lv_aload_n hx hb dX8_span_43 rfl (lv_at hl 0 rfl) ?_
            refine va_get (D := D) (ci := 7) (v := .ref aB) (C := RX8) (T := TX8) (N := 8) hx hb hts iX8_span_X8 hown hK hP 0 rfl rfl 0 (by decide) (hts _ kX8_span_1) (fun _ h9 => h9) rfl dX8_span_44 ?_
            refine lv_iload_n hx hb dX8_span_47 rfl (lv_at hl 1 rfl) ?_
            obtain ⟨r13, h12, hF⟩ := b1_s hF
            refine cl_vi (As := [.int p0]) (rest := []) (w' := (w_xbook ky aX aB aP aT aR aK aH aG aS ax au ay am bsz bgp ber bxs bus bys bme)) ⟨hx, hb, hml, hown, hts⟩ hK hP hD hS hA (c_X0_isWhole l D ky aB ax au ay am _ N  bsz bgp ber bxs bus bys bme p0 r13 h12) (cwV 1 hts gX8_span_X0_isWhole rfl rfl rfl (by decide +kernel) ⟨Nat.le_of_ble_eq_true rfl, Nat.le_of_ble_eq_true rfl⟩) [1, 2, 3, 4, 5] [0] [0, 1, 2, 3, 4, 5] 0 0 rfl rfl rfl rfl (wr := [(aX, .inr (7, [.ref aB, .ref aP, .ref aT, .ref aR, .ref aK, .ref aH, .ref aG, .ref aS]))]) rfl (by decide) rfl rfl hl.1 (Nat.le_of_ble_eq_true rfl) dX8_span_48 ⟨Nat.zero_le _, Nat.zero_le _⟩ (fun H locs hP hD hS => ?_)
            refine lv_if_ne (tgt := 57) hx hb dX8_span_51 (by decide) (fun c14 => ?_) (fun c14 => ?_)
            · have hF := if_f c14 hF
              refine lv_iload hx hb dX8_span_57 (lv_at hl 4 rfl) ?_
              refine lv_if_ne (tgt := 75) hx hb dX8_span_59 (by decide) (fun c15 => ?_) (fun c15 => ?_)
              · have hF := if_f c15 hF
                refine lv_aload_n hx hb dX8_span_75 rfl (lv_at hl 0 rfl) ?_
                refine va_get (D := D) (ci := 7) (v := .ref aB) (C := RX8) (T := TX8) (N := 8) hx hb hts iX8_span_X8 hown hK hP 0 rfl rfl 0 (by decide) (hts _ kX8_span_1) (fun _ h9 => h9) rfl dX8_span_76 ?_
                refine lv_iload_n hx hb dX8_span_79 rfl (lv_at hl 1 rfl) ?_
                refine lv_iload_n hx hb dX8_span_80 rfl (lv_at hl 2 rfl) ?_
                refine lv_ineg hx hb dX8_span_81 ?_
                refine lv_iload_n hx hb dX8_span_82 rfl (lv_at hl 3 rfl) ?_
                refine lv_ineg hx hb dX8_span_83 ?_
                obtain ⟨r17, h16, hF⟩ := b1_s hF
                refine cl_vi (As := [.int p0, .int (-p1), .int (-p2)]) (rest := []) (w' := (w_xbook ky aX aB aP aT aR aK aH aG aS ax au ay am bsz bgp ber bxs bus bys bme)) ⟨hx, hb, hml, hown, hts⟩ hK hP hD hS hA (c_X0_leastSum l D ky aB ax au ay am _ N  bsz bgp ber bxs bus bys bme p0 (-p1) (-p2) r17 h16) (cwV 3 hts gX8_span_X0_leastSum rfl rfl rfl (by decide +kernel) ⟨Nat.le_of_ble_eq_true rfl, Nat.le_of_ble_eq_true rfl⟩) [1, 2, 3, 4, 5] [0] [0, 1, 2, 3, 4, 5] 0 0 rfl rfl rfl rfl (wr := [(aX, .inr (7, [.ref aB, .ref aP, .ref aT, .ref aR, .ref aK, .ref aH, .ref aG, .ref aS]))]) rfl (by decide) rfl rfl hl.1 (Nat.le_of_ble_eq_true rfl) dX8_span_84 ⟨Nat.zero_le _, Nat.zero_le _⟩ (fun H locs hP hD hS => ?_)
                refine lv_ineg hx hb dX8_span_87 ?_
                have hF := Option.some.inj hF
                subst hF
                exact hQ _ _ _ _ dX8_span_88 hP hD hS
              · have hF := if_t c15 hF
                refine lv_aload_n hx hb dX8_span_62 rfl (lv_at hl 0 rfl) ?_
                refine va_get (D := D) (ci := 7) (v := .ref aB) (C := RX8) (T := TX8) (N := 8) hx hb hts iX8_span_X8 hown hK hP 0 rfl rfl 0 (by decide) (hts _ kX8_span_1) (fun _ h9 => h9) rfl dX8_span_63 ?_
                refine lv_iload_n hx hb dX8_span_66 rfl (lv_at hl 1 rfl) ?_
                refine lv_iload_n hx hb dX8_span_67 rfl (lv_at hl 2 rfl) ?_
                refine lv_iload_n hx hb dX8_span_68 rfl (lv_at hl 3 rfl) ?_
                obtain ⟨r19, h18, hF⟩ := b1_s hF
                refine cl_vi (As := [.int p0, .int p1, .int p2]) (rest := []) (w' := (w_xbook ky aX aB aP aT aR aK aH aG aS ax au ay am bsz bgp ber bxs bus bys bme)) ⟨hx, hb, hml, hown, hts⟩ hK hP hD hS hA (c_X0_leastSum l D ky aB ax au ay am _ N  bsz bgp ber bxs bus bys bme p0 p1 p2 r19 h18) (cwV 3 hts gX8_span_X0_leastSum rfl rfl rfl (by decide +kernel) ⟨Nat.le_of_ble_eq_true rfl, Nat.le_of_ble_eq_true rfl⟩) [1, 2, 3, 4, 5] [0] [0, 1, 2, 3, 4, 5] 0 0 rfl rfl rfl rfl (wr := [(aX, .inr (7, [.ref aB, .ref aP, .ref aT, .ref aR, .ref aK, .ref aH, .ref aG, .ref aS]))]) rfl (by decide) rfl rfl hl.1 (Nat.le_of_ble_eq_true rfl) dX8_span_69 ⟨Nat.zero_le _, Nat.zero_le _⟩ (fun H locs hP hD hS => ?_)
                refine lv_goto (tgt := 88) hx hb dX8_span_72 (by decide) ?_
                have hF := Option.some.inj hF
                subst hF
                exact hQ _ _ _ _ dX8_span_88 hP hD hS
            · have hF := if_t c14 hF
              refine lv_ldc hx hb hown (hts _ kX8_span_3) dX8_span_54 ?_
              have hF := Option.some.inj hF
              subst hF
              exact hQ _ _ _ _ dX8_span_56 hP hD hS
          · have hF := if_f c11 hF
            refine lv_ldc hx hb hown (hts _ kX8_span_2) dX8_span_40 ?_
            have hF := Option.some.inj hF
            subst hF
            exact hQ _ _ _ _ dX8_span_42 hP hD hS
theorem c_X8_span (l : Launch) (D : va_G) (ky : Nat → ClassId) (aX aB aP aT aR aK aH aG aS ax au ay am : Nat) (sz N : Nat)  (bsz : Int32) (bgp : Int32) (ber : Int32) (bxs : Nat → Int32) (bus : Nat → Int32) (bys : Nat → Int32) (bme : Nat → Int32) (p0 : Int32) (p1 : Int32) (p2 : Int32) (p3 : Int32) (rv : Int32) (hF : f_X8_span N p0 p1 p2 p3 bsz bme = some (rv)) : MI l yX8_span wsX8_span rm_X8_span D ky sz [.ref aX, .int p0, .int p1, .int p2, .int p3] (w_xbook ky aX aB aP aT aR aK aH aG aS ax au ay am bsz bgp ber bxs bus bys bme) (w_xbook ky aX aB aP aT aR aK aH aG aS ax au ay am bsz bgp ber bxs bus bys bme) rv :=
  cr_X8_span l D ky aX aB aP aT aR aK aH aG aS ax au ay am sz N bsz bgp ber bxs bus bys bme p0 p1 p2 p3 (rv) hF
abbrev rm_X8_line : Room := { frames := 2, cells := 0, slots := 0, locals := 46 }
theorem iX8_line_X8 : ∀ w ∈ wsX80, w ∈ wsX8_line := by decide +kernel
theorem kX8_line_1 : (Cond.fieldLink RX8 10 "TwoLaws" "book" "LTwoLaws$Book;") ∈ wsX8_line := by decide +kernel
theorem kX8_line_2 : (Cond.constant RX8 107 (-1000001)) ∈ wsX8_line := by decide +kernel
theorem kX8_line_3 : (Cond.constant RX8 117 (-1000004)) ∈ wsX8_line := by decide +kernel
theorem kX8_line_4 : (Cond.methodLink RX8 191 Lib.Math.max.name) ∈ wsX8_line := by decide +kernel
theorem kX8_line_5 : (Cond.static Lib.Math.max.name) ∈ wsX8_line := by decide +kernel
theorem kX8_line_6 : (Cond.initialized "java/lang/Math") ∈ wsX8_line := by decide +kernel
theorem kX8_line_7 : (Cond.code Lib.Math.max.name Lib.Math.max.code 2 (some .int)) ∈ wsX8_line := by decide +kernel
set_option maxHeartbeats 4000000 in
set_option maxRecDepth 100000 in
theorem w_X8_line_54 {p : Program} {l : Launch} {e : Env} {s : State} {m : MethodId} {args : Array Value} {below : List Frame} {meth : Method} {c : Code} {Q : State → Prop} {A : Nat → Prop} {D : va_G} {ky : Nat → ClassId} {aX aB aP aT aR aK aH aG aS ax au ay am : Nat} {bsz : Int32} {bgp : Int32} {ber : Int32} {bxs : Nat → Int32} {bus : Nat → Int32} {bys : Nat → Int32} {bme : Nat → Int32} (N : Nat) (C : cx p s m c args D ky A cX8_line 7 wsX8_line RX8) (res : Int32) (hQ : ∀ (pc : Nat) (H : Heap) (locs : List Loc) (ls : Array Slot), decode cX8_line pc = .ok (.ireturn, 1) → va_P D vwCl (w_xbook ky aX aB aP aT aR aK aH aG aS ax au ay am bsz bgp ber bxs bus bys bme) H → va_D A (w_xbook ky aX aB aP aT aR aK aH aG aS ax au ay am bsz bgp ber bxs bus bys bme) → va_S A s.heap H locs → W p l e rm_X8_line s m args below meth c H locs 0 0 Q (F0 m pc ls [.int res])) (l1 : Int32) (l2 : Int32) (l3 : Int32) (k44 : Int32 → Option (Int32)) (hk44 : ∀ (l4 : Int32), k44 l4 = some res → ∀ (H : Heap) (locs : List Loc) (ls : Array Slot), va_P D vwCl (w_xbook ky aX aB aP aT aR aK aH aG aS ax au ay am bsz bgp ber bxs bus bys bme) H → va_D A (w_xbook ky aX aB aP aT aR aK aH aG aS ax au ay am bsz bgp ber bxs bus bys bme) → va_S A s.heap H locs → lv_has ls 7 [(0, .ref aX), (1, .int l1), (2, .int l2), (3, .int l3), (4, .int l4)] → W p l e rm_X8_line s m args below meth c H locs 0 0 Q (F0 m 44 ls [])) (l4 : Int32) : ∀ (n : Nat) (l5 : Int32), f_X8_line_54 N k44 l1 l2 l3 l4 bsz bxs bus n l5 = some res → ∀ (H : Heap) (locs : List Loc) (ls : Array Slot), va_P D vwCl (w_xbook ky aX aB aP aT aR aK aH aG aS ax au ay am bsz bgp ber bxs bus bys bme) H → va_D A (w_xbook ky aX aB aP aT aR aK aH aG aS ax au ay am bsz bgp ber bxs bus bys bme) → va_S A s.heap H locs → lv_has ls 7 [(0, .ref aX), (1, .int l1), (2, .int l2), (3, .int l3), (4, .int l4), (5, .int l5)] → W p l e rm_X8_line s m args below meth c H locs 0 0 Q (F0 m 54 ls []) := by
  obtain ⟨hx, hb, hml, hown, hts, hK, hA⟩ := id C
  intro n
  induction n with
  | zero =>
    intro l5 hF
    cases hF
  | succ n ih =>
    intro l5 hF H locs ls hP hD hS hl
    have hF : b_X8_line_54 N k44 l1 l2 l3 l4 bsz bxs bus (f_X8_line_54 N k44 l1 l2 l3 l4 bsz bxs bus n) l5 = some res := hF
    unfold b_X8_line_54 at hF
    refine lv_iload hx hb dX8_line_54 (lv_at hl 5 rfl) ?_
    refine lv_iconst (v := (3 : Int32)) hx hb dX8_line_56 (by decide) ?_
    refine lv_icmp_gt (tgt := 135) hx hb dX8_line_57 (by decide) (fun c11 => ?_) (fun c11 => ?_)
    · have hF := if_t c11 hF
      refine lv_iinc (v := (l4 + (1 : Int32))) (lv' := [(4, .int (l4 + (1 : Int32))), (0, .ref aX), (1, .int l1), (2, .int l2), (3, .int l3), (5, .int l5)]) hx hb dX8_line_135 hl (k := 4) rfl rfl (by decide) rfl (fun ls hl => ?_)
      refine lv_goto (tgt := 44) hx hb dX8_line_138 (by decide) ?_
      exact hk44 (l4 + (1 : Int32)) hF H _ _ hP hD hS (lv_sub hl [1, 2, 3, 4, 0] rfl)
    · have hF := if_f c11 hF
      refine lv_bipush (v := (-99 : Int32)) hx hb dX8_line_60 (by decide) ?_
      refine lv_iconst (v := (1 : Int32)) hx hb dX8_line_62 (by decide) ?_
      refine lv_aload_n hx hb dX8_line_63 rfl (lv_at hl 0 rfl) ?_
      refine va_get (D := D) (ci := 7) (v := .ref aB) (C := RX8) (T := TX8) (N := 8) hx hb hts iX8_line_X8 hown hK hP 0 rfl rfl 0 (by decide) (hts _ kX8_line_1) (fun _ h9 => h9) rfl dX8_line_64 ?_
      refine lv_iload_n hx hb dX8_line_67 rfl (lv_at hl 2 rfl) ?_
      refine lv_iload hx hb dX8_line_68 (lv_at hl 4 rfl) ?_
      refine lv_ineg hx hb dX8_line_70 ?_
      refine lv_iload hx hb dX8_line_71 (lv_at hl 5 rfl) ?_
      refine lv_ineg hx hb dX8_line_73 ?_
      obtain ⟨r13, h12, hF⟩ := b1_s hF
      refine cl_vi (As := [.int l2, .int (-l4), .int (-l5)]) (rest := [.int (1 : Int32), .int (-99 : Int32)]) (w' := (w_xbook ky aX aB aP aT aR aK aH aG aS ax au ay am bsz bgp ber bxs bus bys bme)) ⟨hx, hb, hml, hown, hts⟩ hK hP hD hS hA (c_X0_leastHeight l D ky aB ax au ay am _ N  bsz bgp ber bxs bus bys bme l2 (-l4) (-l5) r13 h12) (cwV 3 hts gX8_line_X0_leastHeight rfl rfl rfl (by decide +kernel) ⟨Nat.le_of_ble_eq_true rfl, Nat.le_of_ble_eq_true rfl⟩) [1, 2, 3, 4, 5] [0] [0, 1, 2, 3, 4, 5] 0 0 rfl rfl rfl rfl (wr := [(aX, .inr (7, [.ref aB, .ref aP, .ref aT, .ref aR, .ref aK, .ref aH, .ref aG, .ref aS]))]) rfl (by decide) rfl rfl hl.1 (Nat.le_of_ble_eq_true rfl) dX8_line_74 ⟨Nat.zero_le _, Nat.zero_le _⟩ (fun H locs hP hD hS => ?_)
      refine lv_isub hx hb dX8_line_77 ?_
      refine va_mmax hx hb (hml.trans hl.1.symm) hown (hts _ kX8_line_4) (hts _ kX8_line_5) (hts _ kX8_line_6) (hts _ kX8_line_7) (Nat.le_of_ble_eq_true rfl) (Nat.le_of_ble_eq_true rfl) (Nat.zero_le _) (Nat.zero_le _) dX8_line_78 ?_
      refine lv_topi (fun v14 e_v14 => ?_)
      have hF := nm_s e_v14 hF
      refine lv_istore (lv' := [(6, .int v14), (0, .ref aX), (1, .int l1), (2, .int l2), (3, .int l3), (4, .int l4), (5, .int l5)]) hx hb dX8_line_81 hl (by decide) rfl (fun ls hl => ?_)
      refine lv_iload hx hb dX8_line_83 (lv_at hl 0 rfl) ?_
      refine lv_bipush (v := (99 : Int32)) hx hb dX8_line_85 (by decide) ?_
      refine lv_icmp_gt (tgt := 129) hx hb dX8_line_87 (by decide) (fun c15 => ?_) (fun c15 => ?_)
      · have hF := if_t c15 hF
        refine lv_iinc (v := (l5 + (1 : Int32))) (lv' := [(5, .int (l5 + (1 : Int32))), (6, .int v14), (0, .ref aX), (1, .int l1), (2, .int l2), (3, .int l3), (4, .int l4)]) hx hb dX8_line_129 hl (k := 6) rfl rfl (by decide) rfl (fun ls hl => ?_)
        refine lv_goto (tgt := 54) hx hb dX8_line_132 (by decide) ?_
        exact ih (l5 + (1 : Int32)) hF H _ _ hP hD hS (lv_sub hl [2, 3, 4, 5, 6, 0] rfl)
      · have hF := if_f c15 hF
        refine lv_iload hx hb dX8_line_90 (lv_at hl 0 rfl) ?_
        refine lv_aload_n hx hb dX8_line_92 rfl (lv_at hl 1 rfl) ?_
        refine va_get (D := D) (ci := 7) (v := .ref aB) (C := RX8) (T := TX8) (N := 8) hx hb hts iX8_line_X8 hown hK hP 0 rfl rfl 0 (by decide) (hts _ kX8_line_1) (fun _ h9 => h9) rfl dX8_line_93 ?_
        refine lv_iload_n hx hb dX8_line_96 rfl (lv_at hl 2 rfl) ?_
        refine lv_iload hx hb dX8_line_97 (lv_at hl 5 rfl) ?_
        refine lv_iload hx hb dX8_line_99 (lv_at hl 6 rfl) ?_
        obtain ⟨r17, h16, hF⟩ := b1_s hF
        refine cl_vi (As := [.int l1, .int l4, .int l5]) (rest := [.int v14]) (w' := (w_xbook ky aX aB aP aT aR aK aH aG aS ax au ay am bsz bgp ber bxs bus bys bme)) ⟨hx, hb, hml, hown, hts⟩ hK hP hD hS hA (c_X0_leastHeight l D ky aB ax au ay am _ N  bsz bgp ber bxs bus bys bme l1 l4 l5 r17 h16) (cwV 3 hts gX8_line_X0_leastHeight rfl rfl rfl (by decide +kernel) ⟨Nat.le_of_ble_eq_true rfl, Nat.le_of_ble_eq_true rfl⟩) [1, 2, 3, 4, 5] [0] [0, 1, 2, 3, 4, 5] 0 0 rfl rfl rfl rfl (wr := [(aX, .inr (7, [.ref aB, .ref aP, .ref aT, .ref aR, .ref aK, .ref aH, .ref aG, .ref aS]))]) rfl (by decide) rfl rfl hl.1 (Nat.le_of_ble_eq_true rfl) dX8_line_101 ⟨Nat.zero_le _, Nat.zero_le _⟩ (fun H locs hP hD hS => ?_)
        refine lv_icmp_gt (tgt := 129) hx hb dX8_line_104 (by decide) (fun c18 => ?_) (fun c18 => ?_)
        · have hF := if_t c18 hF
          refine lv_iinc (v := (l5 + (1 : Int32))) (lv' := [(5, .int (l5 + (1 : Int32))), (6, .int v14), (0, .ref aX), (1, .int l1), (2, .int l2), (3, .int l3), (4, .int l4)]) hx hb dX8_line_129 hl (k := 6) rfl rfl (by decide) rfl (fun ls hl => ?_)
          refine lv_goto (tgt := 54) hx hb dX8_line_132 (by decide) ?_
          exact ih (l5 + (1 : Int32)) hF H _ _ hP hD hS (lv_sub hl [2, 3, 4, 5, 6, 0] rfl)
        · have hF := if_f c18 hF
          refine lv_iload_n hx hb dX8_line_107 rfl (lv_at hl 4 rfl) ?_
          refine lv_if_ne (tgt := 116) hx hb dX8_line_108 (by decide) (fun c19 => ?_) (fun c19 => ?_)
          · have hF := if_f c19 hF
            refine lv_iload_n hx hb dX8_line_116 rfl (lv_at hl 4 rfl) ?_
            refine lv_iconst (v := (1 : Int32)) hx hb dX8_line_117 (by decide) ?_
            refine lv_icmp_ne (tgt := 126) hx hb dX8_line_118 (by decide) (fun c20 => ?_) (fun c20 => ?_)
            · have hF := if_f c20 hF
              refine lv_iload hx hb dX8_line_126 (lv_at hl 0 rfl) ?_
              have hF := Option.some.inj hF
              subst hF
              exact hQ _ H _ _ dX8_line_128 hP hD hS
            · have hF := if_t c20 hF
              refine lv_iload hx hb dX8_line_121 (lv_at hl 6 rfl) ?_
              refine lv_goto (tgt := 128) hx hb dX8_line_123 (by decide) ?_
              have hF := Option.some.inj hF
              subst hF
              exact hQ _ H _ _ dX8_line_128 hP hD hS
          · have hF := if_t c19 hF
            refine lv_iload hx hb dX8_line_111 (lv_at hl 5 rfl) ?_
            refine lv_goto (tgt := 128) hx hb dX8_line_113 (by decide) ?_
            have hF := Option.some.inj hF
            subst hF
            exact hQ _ H _ _ dX8_line_128 hP hD hS
set_option maxHeartbeats 4000000 in
set_option maxRecDepth 100000 in
theorem w_X8_line_44 {p : Program} {l : Launch} {e : Env} {s : State} {m : MethodId} {args : Array Value} {below : List Frame} {meth : Method} {c : Code} {Q : State → Prop} {A : Nat → Prop} {D : va_G} {ky : Nat → ClassId} {aX aB aP aT aR aK aH aG aS ax au ay am : Nat} {bsz : Int32} {bgp : Int32} {ber : Int32} {bxs : Nat → Int32} {bus : Nat → Int32} {bys : Nat → Int32} {bme : Nat → Int32} (N : Nat) (C : cx p s m c args D ky A cX8_line 7 wsX8_line RX8) (res : Int32) (hQ : ∀ (pc : Nat) (H : Heap) (locs : List Loc) (ls : Array Slot), decode cX8_line pc = .ok (.ireturn, 1) → va_P D vwCl (w_xbook ky aX aB aP aT aR aK aH aG aS ax au ay am bsz bgp ber bxs bus bys bme) H → va_D A (w_xbook ky aX aB aP aT aR aK aH aG aS ax au ay am bsz bgp ber bxs bus bys bme) → va_S A s.heap H locs → W p l e rm_X8_line s m args below meth c H locs 0 0 Q (F0 m pc ls [.int res])) (l1 : Int32) (l2 : Int32) (l3 : Int32) : ∀ (n : Nat) (l4 : Int32), f_X8_line_44 N l1 l2 l3 bsz bxs bus n l4 = some res → ∀ (H : Heap) (locs : List Loc) (ls : Array Slot), va_P D vwCl (w_xbook ky aX aB aP aT aR aK aH aG aS ax au ay am bsz bgp ber bxs bus bys bme) H → va_D A (w_xbook ky aX aB aP aT aR aK aH aG aS ax au ay am bsz bgp ber bxs bus bys bme) → va_S A s.heap H locs → lv_has ls 7 [(0, .ref aX), (1, .int l1), (2, .int l2), (3, .int l3), (4, .int l4)] → W p l e rm_X8_line s m args below meth c H locs 0 0 Q (F0 m 44 ls []) := by
  obtain ⟨hx, hb, hml, hown, hts, hK, hA⟩ := id C
  intro n
  induction n with
  | zero =>
    intro l4 hF
    cases hF
  | succ n ih =>
    intro l4 hF H locs ls hP hD hS hl
    have hF : b_X8_line_44 N l1 l2 l3 bsz bxs bus (f_X8_line_44 N l1 l2 l3 bsz bxs bus n) l4 = some res := hF
    unfold b_X8_line_44 at hF
    refine lv_iload hx hb dX8_line_44 (lv_at hl 4 rfl) ?_
    refine lv_iconst (v := (3 : Int32)) hx hb dX8_line_46 (by decide) ?_
    refine lv_icmp_gt (tgt := 141) hx hb dX8_line_47 (by decide) (fun c10 => ?_) (fun c10 => ?_)
    · have hF := if_t c10 hF
      refine lv_ldc hx hb hown (hts _ kX8_line_3) dX8_line_141 ?_
      have hF := Option.some.inj hF
      subst hF
      exact hQ _ H _ _ dX8_line_143 hP hD hS
    · have hF := if_f c10 hF
      refine lv_bipush (v := (-3 : Int32)) hx hb dX8_line_50 (by decide) ?_
      refine lv_istore (lv' := [(5, .int (-3 : Int32)), (0, .ref aX), (1, .int l1), (2, .int l2), (3, .int l3), (4, .int l4)]) hx hb dX8_line_52 hl (by decide) rfl (fun ls hl => ?_)
      exact w_X8_line_54 N C res hQ l1 l2 l3 _ ih l4 N (-3 : Int32) hF H _ _ hP hD hS (lv_sub hl [1, 2, 3, 4, 5, 0] rfl)
set_option maxHeartbeats 4000000 in
set_option maxRecDepth 100000 in
theorem cr_X8_line (l : Launch) (D : va_G) (ky : Nat → ClassId) (aX aB aP aT aR aK aH aG aS ax au ay am : Nat) (sz N : Nat)  (bsz : Int32) (bgp : Int32) (ber : Int32) (bxs : Nat → Int32) (bus : Nat → Int32) (bys : Nat → Int32) (bme : Nat → Int32) (p0 : Int32) (p1 : Int32) (p2 : Int32) (res : Int32) (hF : f_X8_line N p0 p1 p2 bsz bxs bus = some res) : MI l yX8_line wsX8_line rm_X8_line D ky sz [.ref aX, .int p0, .int p1, .int p2] (w_xbook ky aX aB aP aT aR aK aH aG aS ax au ay am bsz bgp ber bxs bus bys bme) (w_xbook ky aX aB aP aT aR aK aH aG aS ax au ay am bsz bgp ber bxs bus bys bme) res := by
  unfold MI
  refine Met.ofW (cc := cX8_line) (maxL := 7) (ret := (some .int)) (by decide) rfl ?_
  intro p e s m args below meth c s₁ B hml hv
  obtain ⟨rfl, hsz, hP, hK, hD0⟩ := hv
  have hx := B.exec
  have hb := B.bytes
  have hr := B.returns
  have hts := atoms_spec (ws := wsX8_line) B.pre
  have hown : s.vm.findClass RX8 = some m.cls := findClass_of_methodNamed B.named
  have hlocks := B.notSynchronized
  subst hsz
  have hD := hD0.self (sz := s.heap.size)
  generalize hAe : va_A (w_xbook ky aX aB aP aT aR aK aH aG aS ax au ay am bsz bgp ber bxs bus bys bme) s.heap.size = A at hD ⊢
  have hA : ∀ q : Nat, s.heap.size ≤ q → A q := fun q h => by rw [← hAe]; exact Or.inr h
  have hS : va_S A s.heap s.heap [] := va_S.rf
  have hP : va_P D vwCl (w_xbook ky aX aB aP aT aR aK aH aG aS ax au ay am bsz bgp ber bxs bus bys bme) s.heap := hP
  have hl := lv_entry ([.ref aX, .int p0, .int p1, .int p2]) (n := 7) (Nat.le_of_ble_eq_true rfl)
  rw [lg_entry_eq]
  generalize (lg_sl ([.ref aX, .int p0, .int p1, .int p2]) ++ List.replicate (7 - (lg_sl ([.ref aX, .int p0, .int p1, .int p2])).length) Slot.unset).toArray = ls at hl ⊢
  have hl : lv_has ls 7 [(0, .ref aX), (1, .int p0), (2, .int p1), (3, .int p2)] := hl
  have C : cx p s m c ([.ref aX, .int p0, .int p1, .int p2]).toArray D ky A cX8_line 7 wsX8_line RX8 := ⟨hx, hb, hml, hown, hts, hK, hA⟩
  have hQ : ∀ (pc : Nat) (H : Heap) (locs : List Loc) (ls : Array Slot), decode cX8_line pc = .ok (.ireturn, 1) → va_P D vwCl (w_xbook ky aX aB aP aT aR aK aH aG aS ax au ay am bsz bgp ber bxs bus bys bme) H → va_D A (w_xbook ky aX aB aP aT aR aK aH aG aS ax au ay am bsz bgp ber bxs bus bys bme) → va_S A s.heap H locs → W p l e rm_X8_line s m ([.ref aX, .int p0, .int p1, .int p2]).toArray below meth c H locs 0 0 (MQ below (va_Qi (S := Unit) (fun r _ => r = res) (fun _ t => va_P D vwCl (w_xbook ky aX aB aP aT aR aK aH aG aS ax au ay am bsz bgp ber bxs bus bys bme) t.heap ∧ va_K D vwCl (tyW ky) t ∧ va_D A (w_xbook ky aX aB aP aT aR aK aH aG aS ax au ay am bsz bgp ber bxs bus bys bme)) A) ([.ref aX, .int p0, .int p1, .int p2]).toArray s 0 0 A) (F0 m pc ls [.int res]) := fun pc H locs ls hd hP hD hS => W.iret hx hb hr (fun t ht hW => ⟨⟨res, (), rfl, rfl, by rw [ht]; exact hP, va_K.moved hW.alike hK, hD⟩, hS.F ht⟩) hS.2.2 hd
  unfold f_X8_line at hF
  refine lv_aload_n hx hb dX8_line_0 rfl (lv_at hl 0 rfl) ?_
  refine va_get (D := D) (ci := 7) (v := .ref aB) (C := RX8) (T := TX8) (N := 8) hx hb hts iX8_line_X8 hown hK hP 0 rfl rfl 0 (by decide) (hts _ kX8_line_1) (fun _ h9 => h9) rfl dX8_line_1 ?_
  refine lv_iload_n hx hb dX8_line_4 rfl (lv_at hl 1 rfl) ?_
  obtain ⟨r2, h1, hF⟩ := b1_s hF
  refine cl_vi (As := [.int p0]) (rest := []) (w' := (w_xbook ky aX aB aP aT aR aK aH aG aS ax au ay am bsz bgp ber bxs bus bys bme)) ⟨hx, hb, hml, hown, hts⟩ hK hP hD hS hA (c_X0_isHeap l D ky aB ax au ay am _ N  bsz bgp ber bxs bus bys bme p0 r2 h1) (cwV 1 hts gX8_line_X0_isHeap rfl rfl rfl (by decide +kernel) ⟨Nat.le_of_ble_eq_true rfl, Nat.le_of_ble_eq_true rfl⟩) [1, 2, 3, 4, 5] [0] [0, 1, 2, 3, 4, 5] 0 0 rfl rfl rfl rfl (wr := [(aX, .inr (7, [.ref aB, .ref aP, .ref aT, .ref aR, .ref aK, .ref aH, .ref aG, .ref aS]))]) rfl (by decide) rfl rfl hl.1 (Nat.le_of_ble_eq_true rfl) dX8_line_5 ⟨Nat.zero_le _, Nat.zero_le _⟩ (fun H locs hP hD hS => ?_)
  refine lv_if_eq (tgt := 37) hx hb dX8_line_8 (by decide) (fun c3 => ?_) (fun c3 => ?_)
  · have hF := if_t c3 hF
    refine lv_ldc hx hb hown (hts _ kX8_line_2) dX8_line_37 ?_
    have hF := Option.some.inj hF
    subst hF
    exact hQ _ _ _ _ dX8_line_39 hP hD hS
  · have hF := if_f c3 hF
    refine lv_aload_n hx hb dX8_line_11 rfl (lv_at hl 0 rfl) ?_
    refine va_get (D := D) (ci := 7) (v := .ref aB) (C := RX8) (T := TX8) (N := 8) hx hb hts iX8_line_X8 hown hK hP 0 rfl rfl 0 (by decide) (hts _ kX8_line_1) (fun _ h9 => h9) rfl dX8_line_12 ?_
    refine lv_iload_n hx hb dX8_line_15 rfl (lv_at hl 2 rfl) ?_
    obtain ⟨r5, h4, hF⟩ := b1_s hF
    refine cl_vi (As := [.int p1]) (rest := []) (w' := (w_xbook ky aX aB aP aT aR aK aH aG aS ax au ay am bsz bgp ber bxs bus bys bme)) ⟨hx, hb, hml, hown, hts⟩ hK hP hD hS hA (c_X0_isHeap l D ky aB ax au ay am _ N  bsz bgp ber bxs bus bys bme p1 r5 h4) (cwV 1 hts gX8_line_X0_isHeap rfl rfl rfl (by decide +kernel) ⟨Nat.le_of_ble_eq_true rfl, Nat.le_of_ble_eq_true rfl⟩) [1, 2, 3, 4, 5] [0] [0, 1, 2, 3, 4, 5] 0 0 rfl rfl rfl rfl (wr := [(aX, .inr (7, [.ref aB, .ref aP, .ref aT, .ref aR, .ref aK, .ref aH, .ref aG, .ref aS]))]) rfl (by decide) rfl rfl hl.1 (Nat.le_of_ble_eq_true rfl) dX8_line_16 ⟨Nat.zero_le _, Nat.zero_le _⟩ (fun H locs hP hD hS => ?_)
    refine lv_if_eq (tgt := 37) hx hb dX8_line_19 (by decide) (fun c6 => ?_) (fun c6 => ?_)
    · have hF := if_t c6 hF
      refine lv_ldc hx hb hown (hts _ kX8_line_2) dX8_line_37 ?_
      have hF := Option.some.inj hF
      subst hF
      exact hQ _ _ _ _ dX8_line_39 hP hD hS
    · have hF := if_f c6 hF
      refine lv_iload_n hx hb dX8_line_22 rfl (lv_at hl 1 rfl) ?_
      refine lv_iload_n hx hb dX8_line_23 rfl (lv_at hl 2 rfl) ?_
      refine lv_iand hx hb dX8_line_24 ?_
      refine lv_if_ne (tgt := 37) hx hb dX8_line_25 (by decide) (fun c7 => ?_) (fun c7 => ?_)
      · have hF := if_f c7 hF
        refine lv_ldc hx hb hown (hts _ kX8_line_2) dX8_line_37 ?_
        have hF := Option.some.inj hF
        subst hF
        exact hQ _ _ _ _ dX8_line_39 hP hD hS
      · have hF := if_t c7 hF
        refine lv_iload_n hx hb dX8_line_28 rfl (lv_at hl 3 rfl) ?_
        refine lv_if_lt (tgt := 37) hx hb dX8_line_29 (by decide) (fun c8 => ?_) (fun c8 => ?_)
        · have hF := if_t c8 hF
          refine lv_ldc hx hb hown (hts _ kX8_line_2) dX8_line_37 ?_
          have hF := Option.some.inj hF
          subst hF
          exact hQ _ _ _ _ dX8_line_39 hP hD hS
        · have hF := if_f c8 hF
          refine lv_iload_n hx hb dX8_line_32 rfl (lv_at hl 3 rfl) ?_
          refine lv_iconst (v := (2 : Int32)) hx hb dX8_line_33 (by decide) ?_
          refine lv_icmp_le (tgt := 40) hx hb dX8_line_34 (by decide) (fun c9 => ?_) (fun c9 => ?_)
          · have hF := if_t c9 hF
            refine lv_bipush (v := (-3 : Int32)) hx hb dX8_line_40 (by decide) ?_
            refine lv_istore (lv' := [(4, .int (-3 : Int32)), (0, .ref aX), (1, .int p0), (2, .int p1), (3, .int p2)]) hx hb dX8_line_42 hl (by decide) rfl (fun ls hl => ?_)
            exact w_X8_line_44 N C res hQ p0 p1 p2 N (-3 : Int32) hF _ _ _ hP hD hS (lv_sub hl [1, 2, 3, 4, 0] rfl)
          · have hF := if_f c9 hF
            refine lv_ldc hx hb hown (hts _ kX8_line_2) dX8_line_37 ?_
            have hF := Option.some.inj hF
            subst hF
            exact hQ _ _ _ _ dX8_line_39 hP hD hS
theorem c_X8_line (l : Launch) (D : va_G) (ky : Nat → ClassId) (aX aB aP aT aR aK aH aG aS ax au ay am : Nat) (sz N : Nat)  (bsz : Int32) (bgp : Int32) (ber : Int32) (bxs : Nat → Int32) (bus : Nat → Int32) (bys : Nat → Int32) (bme : Nat → Int32) (p0 : Int32) (p1 : Int32) (p2 : Int32) (rv : Int32) (hF : f_X8_line N p0 p1 p2 bsz bxs bus = some (rv)) : MI l yX8_line wsX8_line rm_X8_line D ky sz [.ref aX, .int p0, .int p1, .int p2] (w_xbook ky aX aB aP aT aR aK aH aG aS ax au ay am bsz bgp ber bxs bus bys bme) (w_xbook ky aX aB aP aT aR aK aH aG aS ax au ay am bsz bgp ber bxs bus bys bme) rv :=
  cr_X8_line l D ky aX aB aP aT aR aK aH aG aS ax au ay am sz N bsz bgp ber bxs bus bys bme p0 p1 p2 (rv) hF
abbrev rm_X8_hours : Room := { frames := 2, cells := 0, slots := 0, locals := 44 }
theorem iX8_hours_X8 : ∀ w ∈ wsX80, w ∈ wsX8_hours := by decide +kernel
theorem kX8_hours_1 : (Cond.fieldLink RX8 10 "TwoLaws" "book" "LTwoLaws$Book;") ∈ wsX8_hours := by decide +kernel
set_option maxHeartbeats 4000000 in
set_option maxRecDepth 100000 in
theorem w_X8_hours_26 {p : Program} {l : Launch} {e : Env} {s : State} {m : MethodId} {args : Array Value} {below : List Frame} {meth : Method} {c : Code} {Q : State → Prop} {A : Nat → Prop} {D : va_G} {ky : Nat → ClassId} {aX aB aP aT aR aK aH aG aS ax au ay am : Nat} {bsz : Int32} {bgp : Int32} {ber : Int32} {bxs : Nat → Int32} {bus : Nat → Int32} {bys : Nat → Int32} {bme : Nat → Int32} (N : Nat) (C : cx p s m c args D ky A cX8_hours 4 wsX8_hours RX8) (res : Int32) (hQ : ∀ (pc : Nat) (H : Heap) (locs : List Loc) (ls : Array Slot), decode cX8_hours pc = .ok (.ireturn, 1) → va_P D vwCl (w_xbook ky aX aB aP aT aR aK aH aG aS ax au ay am bsz bgp ber bxs bus bys bme) H → va_D A (w_xbook ky aX aB aP aT aR aK aH aG aS ax au ay am bsz bgp ber bxs bus bys bme) → va_S A s.heap H locs → W p l e rm_X8_hours s m args below meth c H locs 0 0 Q (F0 m pc ls [.int res])) (l1 : Int32) (l2 : Int32) : ∀ (n : Nat) (l3 : Int32), f_X8_hours_26 N l1 l2 bsz n l3 = some res → ∀ (H : Heap) (locs : List Loc) (ls : Array Slot), va_P D vwCl (w_xbook ky aX aB aP aT aR aK aH aG aS ax au ay am bsz bgp ber bxs bus bys bme) H → va_D A (w_xbook ky aX aB aP aT aR aK aH aG aS ax au ay am bsz bgp ber bxs bus bys bme) → va_S A s.heap H locs → lv_has ls 4 [(0, .ref aX), (1, .int l1), (2, .int l2), (3, .int l3)] → W p l e rm_X8_hours s m args below meth c H locs 0 0 Q (F0 m 26 ls []) := by
  obtain ⟨hx, hb, hml, hown, hts, hK, hA⟩ := id C
  intro n
  induction n with
  | zero =>
    intro l3 hF
    cases hF
  | succ n ih =>
    intro l3 hF H locs ls hP hD hS hl
    have hF : b_X8_hours_26 N l1 l2 bsz (f_X8_hours_26 N l1 l2 bsz n) l3 = some res := hF
    unfold b_X8_hours_26 at hF
    refine lv_iload_n hx hb dX8_hours_26 rfl (lv_at hl 3 rfl) ?_
    refine lv_bipush (v := (6 : Int32)) hx hb dX8_hours_27 (by decide) ?_
    refine lv_icmp_gt (tgt := 56) hx hb dX8_hours_29 (by decide) (fun c7 => ?_) (fun c7 => ?_)
    · have hF := if_t c7 hF
      refine lv_bipush (v := (-4 : Int32)) hx hb dX8_hours_56 (by decide) ?_
      have hF := Option.some.inj hF
      subst hF
      exact hQ _ H _ _ dX8_hours_58 hP hD hS
    · have hF := if_f c7 hF
      refine lv_aload_n hx hb dX8_hours_32 rfl (lv_at hl 0 rfl) ?_
      refine lv_iload_n hx hb dX8_hours_33 rfl (lv_at hl 1 rfl) ?_
      refine lv_iload_n hx hb dX8_hours_34 rfl (lv_at hl 3 rfl) ?_
      obtain ⟨r9, h8, hF⟩ := b1_s hF
      refine cl_vi (As := [.int l1, .int l3]) (rest := []) (w' := (w_xbook ky aX aB aP aT aR aK aH aG aS ax au ay am bsz bgp ber bxs bus bys bme)) ⟨hx, hb, hml, hown, hts⟩ hK hP hD hS hA (c_X8_rests l D ky aX aB aP aT aR aK aH aG aS ax au ay am _ N  bsz bgp ber bxs bus bys bme l1 l3 r9 h8) (cwV 2 hts gX8_hours_X8_rests rfl rfl rfl (by decide +kernel) ⟨Nat.le_of_ble_eq_true rfl, Nat.le_of_ble_eq_true rfl⟩) [0, 1, 2, 3, 4, 5] [] [0, 1, 2, 3, 4, 5] 0 7 rfl rfl rfl rfl (wr := []) rfl (by decide) rfl rfl hl.1 (Nat.le_of_ble_eq_true rfl) dX8_hours_35 ⟨Nat.zero_le _, Nat.zero_le _⟩ (fun H locs hP hD hS => ?_)
      refine lv_aload_n hx hb dX8_hours_38 rfl (lv_at hl 0 rfl) ?_
      refine lv_iload_n hx hb dX8_hours_39 rfl (lv_at hl 2 rfl) ?_
      refine lv_iload_n hx hb dX8_hours_40 rfl (lv_at hl 3 rfl) ?_
      obtain ⟨r11, h10, hF⟩ := b1_s hF
      refine cl_vi (As := [.int l2, .int l3]) (rest := [.int r9]) (w' := (w_xbook ky aX aB aP aT aR aK aH aG aS ax au ay am bsz bgp ber bxs bus bys bme)) ⟨hx, hb, hml, hown, hts⟩ hK hP hD hS hA (c_X8_rests l D ky aX aB aP aT aR aK aH aG aS ax au ay am _ N  bsz bgp ber bxs bus bys bme l2 l3 r11 h10) (cwV 2 hts gX8_hours_X8_rests rfl rfl rfl (by decide +kernel) ⟨Nat.le_of_ble_eq_true rfl, Nat.le_of_ble_eq_true rfl⟩) [0, 1, 2, 3, 4, 5] [] [0, 1, 2, 3, 4, 5] 0 7 rfl rfl rfl rfl (wr := []) rfl (by decide) rfl rfl hl.1 (Nat.le_of_ble_eq_true rfl) dX8_hours_41 ⟨Nat.zero_le _, Nat.zero_le _⟩ (fun H locs hP hD hS => ?_)
      refine lv_iand hx hb dX8_hours_44 ?_
      refine lv_if_ne (tgt := 50) hx hb dX8_hours_45 (by decide) (fun c12 => ?_) (fun c12 => ?_)
      · have hF := if_f c12 hF
        refine lv_iinc (v := (l3 + (1 : Int32))) (lv' := [(3, .int (l3 + (1 : Int32))), (0, .ref aX), (1, .int l1), (2, .int l2)]) hx hb dX8_hours_50 hl (k := 3) rfl rfl (by decide) rfl (fun ls hl => ?_)
        refine lv_goto (tgt := 26) hx hb dX8_hours_53 (by decide) ?_
        exact ih (l3 + (1 : Int32)) hF H _ _ hP hD hS (lv_sub hl [1, 2, 3, 0] rfl)
      · have hF := if_t c12 hF
        refine lv_iload_n hx hb dX8_hours_48 rfl (lv_at hl 3 rfl) ?_
        have hF := Option.some.inj hF
        subst hF
        exact hQ _ H _ _ dX8_hours_49 hP hD hS
set_option maxHeartbeats 4000000 in
set_option maxRecDepth 100000 in
theorem cr_X8_hours (l : Launch) (D : va_G) (ky : Nat → ClassId) (aX aB aP aT aR aK aH aG aS ax au ay am : Nat) (sz N : Nat)  (bsz : Int32) (bgp : Int32) (ber : Int32) (bxs : Nat → Int32) (bus : Nat → Int32) (bys : Nat → Int32) (bme : Nat → Int32) (p0 : Int32) (p1 : Int32) (res : Int32) (hF : f_X8_hours N p0 p1 bsz = some res) : MI l yX8_hours wsX8_hours rm_X8_hours D ky sz [.ref aX, .int p0, .int p1] (w_xbook ky aX aB aP aT aR aK aH aG aS ax au ay am bsz bgp ber bxs bus bys bme) (w_xbook ky aX aB aP aT aR aK aH aG aS ax au ay am bsz bgp ber bxs bus bys bme) res := by
  unfold MI
  refine Met.ofW (cc := cX8_hours) (maxL := 4) (ret := (some .int)) (by decide) rfl ?_
  intro p e s m args below meth c s₁ B hml hv
  obtain ⟨rfl, hsz, hP, hK, hD0⟩ := hv
  have hx := B.exec
  have hb := B.bytes
  have hr := B.returns
  have hts := atoms_spec (ws := wsX8_hours) B.pre
  have hown : s.vm.findClass RX8 = some m.cls := findClass_of_methodNamed B.named
  have hlocks := B.notSynchronized
  subst hsz
  have hD := hD0.self (sz := s.heap.size)
  generalize hAe : va_A (w_xbook ky aX aB aP aT aR aK aH aG aS ax au ay am bsz bgp ber bxs bus bys bme) s.heap.size = A at hD ⊢
  have hA : ∀ q : Nat, s.heap.size ≤ q → A q := fun q h => by rw [← hAe]; exact Or.inr h
  have hS : va_S A s.heap s.heap [] := va_S.rf
  have hP : va_P D vwCl (w_xbook ky aX aB aP aT aR aK aH aG aS ax au ay am bsz bgp ber bxs bus bys bme) s.heap := hP
  have hl := lv_entry ([.ref aX, .int p0, .int p1]) (n := 4) (Nat.le_of_ble_eq_true rfl)
  rw [lg_entry_eq]
  generalize (lg_sl ([.ref aX, .int p0, .int p1]) ++ List.replicate (4 - (lg_sl ([.ref aX, .int p0, .int p1])).length) Slot.unset).toArray = ls at hl ⊢
  have hl : lv_has ls 4 [(0, .ref aX), (1, .int p0), (2, .int p1)] := hl
  have C : cx p s m c ([.ref aX, .int p0, .int p1]).toArray D ky A cX8_hours 4 wsX8_hours RX8 := ⟨hx, hb, hml, hown, hts, hK, hA⟩
  have hQ : ∀ (pc : Nat) (H : Heap) (locs : List Loc) (ls : Array Slot), decode cX8_hours pc = .ok (.ireturn, 1) → va_P D vwCl (w_xbook ky aX aB aP aT aR aK aH aG aS ax au ay am bsz bgp ber bxs bus bys bme) H → va_D A (w_xbook ky aX aB aP aT aR aK aH aG aS ax au ay am bsz bgp ber bxs bus bys bme) → va_S A s.heap H locs → W p l e rm_X8_hours s m ([.ref aX, .int p0, .int p1]).toArray below meth c H locs 0 0 (MQ below (va_Qi (S := Unit) (fun r _ => r = res) (fun _ t => va_P D vwCl (w_xbook ky aX aB aP aT aR aK aH aG aS ax au ay am bsz bgp ber bxs bus bys bme) t.heap ∧ va_K D vwCl (tyW ky) t ∧ va_D A (w_xbook ky aX aB aP aT aR aK aH aG aS ax au ay am bsz bgp ber bxs bus bys bme)) A) ([.ref aX, .int p0, .int p1]).toArray s 0 0 A) (F0 m pc ls [.int res]) := fun pc H locs ls hd hP hD hS => W.iret hx hb hr (fun t ht hW => ⟨⟨res, (), rfl, rfl, by rw [ht]; exact hP, va_K.moved hW.alike hK, hD⟩, hS.F ht⟩) hS.2.2 hd
  unfold f_X8_hours at hF
  refine lv_aload_n hx hb dX8_hours_0 rfl (lv_at hl 0 rfl) ?_
  refine va_get (D := D) (ci := 7) (v := .ref aB) (C := RX8) (T := TX8) (N := 8) hx hb hts iX8_hours_X8 hown hK hP 0 rfl rfl 0 (by decide) (hts _ kX8_hours_1) (fun _ h9 => h9) rfl dX8_hours_1 ?_
  refine lv_iload_n hx hb dX8_hours_4 rfl (lv_at hl 1 rfl) ?_
  obtain ⟨r2, h1, hF⟩ := b1_s hF
  refine cl_vi (As := [.int p0]) (rest := []) (w' := (w_xbook ky aX aB aP aT aR aK aH aG aS ax au ay am bsz bgp ber bxs bus bys bme)) ⟨hx, hb, hml, hown, hts⟩ hK hP hD hS hA (c_X0_isHeap l D ky aB ax au ay am _ N  bsz bgp ber bxs bus bys bme p0 r2 h1) (cwV 1 hts gX8_hours_X0_isHeap rfl rfl rfl (by decide +kernel) ⟨Nat.le_of_ble_eq_true rfl, Nat.le_of_ble_eq_true rfl⟩) [1, 2, 3, 4, 5] [0] [0, 1, 2, 3, 4, 5] 0 0 rfl rfl rfl rfl (wr := [(aX, .inr (7, [.ref aB, .ref aP, .ref aT, .ref aR, .ref aK, .ref aH, .ref aG, .ref aS]))]) rfl (by decide) rfl rfl hl.1 (Nat.le_of_ble_eq_true rfl) dX8_hours_5 ⟨Nat.zero_le _, Nat.zero_le _⟩ (fun H locs hP hD hS => ?_)
  refine lv_if_eq (tgt := 22) hx hb dX8_hours_8 (by decide) (fun c3 => ?_) (fun c3 => ?_)
  · have hF := if_t c3 hF
    refine lv_iconst (v := (-1 : Int32)) hx hb dX8_hours_22 (by decide) ?_
    have hF := Option.some.inj hF
    subst hF
    exact hQ _ _ _ _ dX8_hours_23 hP hD hS
  · have hF := if_f c3 hF
    refine lv_aload_n hx hb dX8_hours_11 rfl (lv_at hl 0 rfl) ?_
    refine va_get (D := D) (ci := 7) (v := .ref aB) (C := RX8) (T := TX8) (N := 8) hx hb hts iX8_hours_X8 hown hK hP 0 rfl rfl 0 (by decide) (hts _ kX8_hours_1) (fun _ h9 => h9) rfl dX8_hours_12 ?_
    refine lv_iload_n hx hb dX8_hours_15 rfl (lv_at hl 2 rfl) ?_
    obtain ⟨r5, h4, hF⟩ := b1_s hF
    refine cl_vi (As := [.int p1]) (rest := []) (w' := (w_xbook ky aX aB aP aT aR aK aH aG aS ax au ay am bsz bgp ber bxs bus bys bme)) ⟨hx, hb, hml, hown, hts⟩ hK hP hD hS hA (c_X0_isHeap l D ky aB ax au ay am _ N  bsz bgp ber bxs bus bys bme p1 r5 h4) (cwV 1 hts gX8_hours_X0_isHeap rfl rfl rfl (by decide +kernel) ⟨Nat.le_of_ble_eq_true rfl, Nat.le_of_ble_eq_true rfl⟩) [1, 2, 3, 4, 5] [0] [0, 1, 2, 3, 4, 5] 0 0 rfl rfl rfl rfl (wr := [(aX, .inr (7, [.ref aB, .ref aP, .ref aT, .ref aR, .ref aK, .ref aH, .ref aG, .ref aS]))]) rfl (by decide) rfl rfl hl.1 (Nat.le_of_ble_eq_true rfl) dX8_hours_16 ⟨Nat.zero_le _, Nat.zero_le _⟩ (fun H locs hP hD hS => ?_)
    refine lv_if_ne (tgt := 24) hx hb dX8_hours_19 (by decide) (fun c6 => ?_) (fun c6 => ?_)
    · have hF := if_f c6 hF
      refine lv_iconst (v := (1 : Int32)) hx hb dX8_hours_24 (by decide) ?_
      refine lv_istore_n (lv' := [(3, .int (1 : Int32)), (0, .ref aX), (1, .int p0), (2, .int p1)]) hx hb dX8_hours_25 rfl hl (by decide) rfl (fun ls hl => ?_)
      exact w_X8_hours_26 N C res hQ p0 p1 N (1 : Int32) hF _ _ _ hP hD hS (lv_sub hl [1, 2, 3, 0] rfl)
    · have hF := if_t c6 hF
      refine lv_iconst (v := (-1 : Int32)) hx hb dX8_hours_22 (by decide) ?_
      have hF := Option.some.inj hF
      subst hF
      exact hQ _ _ _ _ dX8_hours_23 hP hD hS
theorem c_X8_hours (l : Launch) (D : va_G) (ky : Nat → ClassId) (aX aB aP aT aR aK aH aG aS ax au ay am : Nat) (sz N : Nat)  (bsz : Int32) (bgp : Int32) (ber : Int32) (bxs : Nat → Int32) (bus : Nat → Int32) (bys : Nat → Int32) (bme : Nat → Int32) (p0 : Int32) (p1 : Int32) (rv : Int32) (hF : f_X8_hours N p0 p1 bsz = some (rv)) : MI l yX8_hours wsX8_hours rm_X8_hours D ky sz [.ref aX, .int p0, .int p1] (w_xbook ky aX aB aP aT aR aK aH aG aS ax au ay am bsz bgp ber bxs bus bys bme) (w_xbook ky aX aB aP aT aR aK aH aG aS ax au ay am bsz bgp ber bxs bus bys bme) rv :=
  cr_X8_hours l D ky aX aB aP aT aR aK aH aG aS ax au ay am sz N bsz bgp ber bxs bus bys bme p0 p1 (rv) hF
abbrev rm_X8_wear : Room := { frames := 2, cells := 0, slots := 0, locals := 43 }
theorem iX8_wear_X8 : ∀ w ∈ wsX80, w ∈ wsX8_wear := by decide +kernel
theorem kX8_wear_1 : (Cond.fieldLink RX8 10 "TwoLaws" "book" "LTwoLaws$Book;") ∈ wsX8_wear := by decide +kernel
set_option maxHeartbeats 4000000 in
set_option maxRecDepth 100000 in
theorem w_X8_wear_84 {p : Program} {l : Launch} {e : Env} {s : State} {m : MethodId} {args : Array Value} {below : List Frame} {meth : Method} {c : Code} {Q : State → Prop} {A : Nat → Prop} {D : va_G} {ky : Nat → ClassId} {aX aB aP aT aR aK aH aG aS ax au ay am : Nat} {bsz : Int32} {bgp : Int32} {ber : Int32} {bxs : Nat → Int32} {bus : Nat → Int32} {bys : Nat → Int32} {bme : Nat → Int32} (N : Nat) (C : cx p s m c args D ky A cX8_wear 9 wsX8_wear RX8) (res : Int32) (hQ : ∀ (pc : Nat) (H : Heap) (locs : List Loc) (ls : Array Slot), decode cX8_wear pc = .ok (.ireturn, 1) → va_P D vwCl (w_xbook ky aX aB aP aT aR aK aH aG aS ax au ay am bsz bgp ber bxs bus bys bme) H → va_D A (w_xbook ky aX aB aP aT aR aK aH aG aS ax au ay am bsz bgp ber bxs bus bys bme) → va_S A s.heap H locs → W p l e rm_X8_wear s m args below meth c H locs 0 0 Q (F0 m pc ls [.int res])) (l1 : Int32) (l6 : Int32) : ∀ (n : Nat) (l7 : Int32), f_X8_wear_84 N l1 l6 bsz bme n l7 = some res → ∀ (H : Heap) (locs : List Loc) (ls : Array Slot), va_P D vwCl (w_xbook ky aX aB aP aT aR aK aH aG aS ax au ay am bsz bgp ber bxs bus bys bme) H → va_D A (w_xbook ky aX aB aP aT aR aK aH aG aS ax au ay am bsz bgp ber bxs bus bys bme) → va_S A s.heap H locs → lv_has ls 9 [(0, .ref aX), (1, .int l1), (6, .int l6), (7, .int l7)] → W p l e rm_X8_wear s m args below meth c H locs 0 0 Q (F0 m 84 ls []) := by
  obtain ⟨hx, hb, hml, hown, hts, hK, hA⟩ := id C
  intro n
  induction n with
  | zero =>
    intro l7 hF
    cases hF
  | succ n ih =>
    intro l7 hF H locs ls hP hD hS hl
    have hF : b_X8_wear_84 N l1 l6 bsz bme (f_X8_wear_84 N l1 l6 bsz bme n) l7 = some res := hF
    unfold b_X8_wear_84 at hF
    refine lv_iload hx hb dX8_wear_84 (lv_at hl 3 rfl) ?_
    refine lv_aload_n hx hb dX8_wear_86 rfl (lv_at hl 0 rfl) ?_
    refine va_get (D := D) (ci := 7) (v := .ref aB) (C := RX8) (T := TX8) (N := 8) hx hb hts iX8_wear_X8 hown hK hP 0 rfl rfl 0 (by decide) (hts _ kX8_wear_1) (fun _ h9 => h9) rfl dX8_wear_87 ?_
    obtain ⟨r25, h24, hF⟩ := b1_s hF
    refine cl_vi (As := []) (rest := [.int l7]) (w' := (w_xbook ky aX aB aP aT aR aK aH aG aS ax au ay am bsz bgp ber bxs bus bys bme)) ⟨hx, hb, hml, hown, hts⟩ hK hP hD hS hA (c_X0_size l D ky aB ax au ay am _ N  bsz bgp ber bxs bus bys bme  r25 h24) (cwV 0 hts gX8_wear_X0_size rfl rfl rfl (by decide +kernel) ⟨Nat.le_of_ble_eq_true rfl, Nat.le_of_ble_eq_true rfl⟩) [1, 2, 3, 4, 5] [0] [0, 1, 2, 3, 4, 5] 0 0 rfl rfl rfl rfl (wr := [(aX, .inr (7, [.ref aB, .ref aP, .ref aT, .ref aR, .ref aK, .ref aH, .ref aG, .ref aS]))]) rfl (by decide) rfl rfl hl.1 (Nat.le_of_ble_eq_true rfl) dX8_wear_90 ⟨Nat.zero_le _, Nat.zero_le _⟩ (fun H locs hP hD hS => ?_)
    refine lv_icmp_gt (tgt := 150) hx hb dX8_wear_93 (by decide) (fun c26 => ?_) (fun c26 => ?_)
    · have hF := if_t c26 hF
      refine lv_bipush (v := (-4 : Int32)) hx hb dX8_wear_150 (by decide) ?_
      have hF := Option.some.inj hF
      subst hF
      exact hQ _ H _ _ dX8_wear_152 hP hD hS
    · have hF := if_f c26 hF
      refine lv_iconst (v := (1 : Int32)) hx hb dX8_wear_96 (by decide) ?_
      refine lv_iload hx hb dX8_wear_97 (lv_at hl 3 rfl) ?_
      refine lv_ishl hx hb dX8_wear_99 ?_
      refine lv_iconst (v := (1 : Int32)) hx hb dX8_wear_100 (by decide) ?_
      refine lv_isub hx hb dX8_wear_101 ?_
      refine lv_istore (lv' := [(8, .int (((1 : Int32) <<< (l7 &&& 31)) - (1 : Int32))), (0, .ref aX), (1, .int l1), (6, .int l6), (7, .int l7)]) hx hb dX8_wear_102 hl (by decide) rfl (fun ls hl => ?_)
      refine lv_aload_n hx hb dX8_wear_104 rfl (lv_at hl 1 rfl) ?_
      refine va_get (D := D) (ci := 7) (v := .ref aB) (C := RX8) (T := TX8) (N := 8) hx hb hts iX8_wear_X8 hown hK hP 0 rfl rfl 0 (by decide) (hts _ kX8_wear_1) (fun _ h9 => h9) rfl dX8_wear_105 ?_
      refine lv_iload hx hb dX8_wear_108 (lv_at hl 0 rfl) ?_
      refine lv_iload_n hx hb dX8_wear_110 rfl (lv_at hl 2 rfl) ?_
      obtain ⟨r28, h27, hF⟩ := b1_s hF
      refine cl_vi (As := [.int (((1 : Int32) <<< (l7 &&& 31)) - (1 : Int32)), .int l1]) (rest := []) (w' := (w_xbook ky aX aB aP aT aR aK aH aG aS ax au ay am bsz bgp ber bxs bus bys bme)) ⟨hx, hb, hml, hown, hts⟩ hK hP hD hS hA (c_X0_letsLaw l D ky aB ax au ay am _ N  bsz bgp ber bxs bus bys bme (((1 : Int32) <<< (l7 &&& 31)) - (1 : Int32)) l1 r28 h27) (cwV 2 hts gX8_wear_X0_letsLaw rfl rfl rfl (by decide +kernel) ⟨Nat.le_of_ble_eq_true rfl, Nat.le_of_ble_eq_true rfl⟩) [1, 2, 3, 4, 5] [0] [0, 1, 2, 3, 4, 5] 0 0 rfl rfl rfl rfl (wr := [(aX, .inr (7, [.ref aB, .ref aP, .ref aT, .ref aR, .ref aK, .ref aH, .ref aG, .ref aS]))]) rfl (by decide) rfl rfl hl.1 (Nat.le_of_ble_eq_true rfl) dX8_wear_111 ⟨Nat.zero_le _, Nat.zero_le _⟩ (fun H locs hP hD hS => ?_)
      refine lv_if_eq (tgt := 144) hx hb dX8_wear_114 (by decide) (fun c29 => ?_) (fun c29 => ?_)
      · have hF := if_t c29 hF
        refine lv_iinc (v := (l7 + (1 : Int32))) (lv' := [(7, .int (l7 + (1 : Int32))), (8, .int (((1 : Int32) <<< (l7 &&& 31)) - (1 : Int32))), (0, .ref aX), (1, .int l1), (6, .int l6)]) hx hb dX8_wear_144 hl (k := 4) rfl rfl (by decide) rfl (fun ls hl => ?_)
        refine lv_goto (tgt := 84) hx hb dX8_wear_147 (by decide) ?_
        exact ih (l7 + (1 : Int32)) hF H _ _ hP hD hS (lv_sub hl [2, 3, 4, 0] rfl)
      · have hF := if_f c29 hF
        refine lv_aload_n hx hb dX8_wear_117 rfl (lv_at hl 1 rfl) ?_
        refine va_get (D := D) (ci := 7) (v := .ref aB) (C := RX8) (T := TX8) (N := 8) hx hb hts iX8_wear_X8 hown hK hP 0 rfl rfl 0 (by decide) (hts _ kX8_wear_1) (fun _ h9 => h9) rfl dX8_wear_118 ?_
        refine lv_aload_n hx hb dX8_wear_121 rfl (lv_at hl 1 rfl) ?_
        refine va_get (D := D) (ci := 7) (v := .ref aB) (C := RX8) (T := TX8) (N := 8) hx hb hts iX8_wear_X8 hown hK hP 0 rfl rfl 0 (by decide) (hts _ kX8_wear_1) (fun _ h9 => h9) rfl dX8_wear_122 ?_
        obtain ⟨r31, h30, hF⟩ := b1_s hF
        refine cl_vi (As := []) (rest := [.ref aB]) (w' := (w_xbook ky aX aB aP aT aR aK aH aG aS ax au ay am bsz bgp ber bxs bus bys bme)) ⟨hx, hb, hml, hown, hts⟩ hK hP hD hS hA (c_X0_all l D ky aB ax au ay am _ N  bsz bgp ber bxs bus bys bme  r31 h30) (cwV 0 hts gX8_wear_X0_all rfl rfl rfl (by decide +kernel) ⟨Nat.le_of_ble_eq_true rfl, Nat.le_of_ble_eq_true rfl⟩) [1, 2, 3, 4, 5] [0] [0, 1, 2, 3, 4, 5] 0 0 rfl rfl rfl rfl (wr := [(aX, .inr (7, [.ref aB, .ref aP, .ref aT, .ref aR, .ref aK, .ref aH, .ref aG, .ref aS]))]) rfl (by decide) rfl rfl hl.1 (Nat.le_of_ble_eq_true rfl) dX8_wear_125 ⟨Nat.zero_le _, Nat.zero_le _⟩ (fun H locs hP hD hS => ?_)
        refine lv_iload hx hb dX8_wear_128 (lv_at hl 0 rfl) ?_
        refine lv_iconst (v := (-1 : Int32)) hx hb dX8_wear_130 (by decide) ?_
        refine lv_ixor hx hb dX8_wear_131 ?_
        refine lv_iand hx hb dX8_wear_132 ?_
        refine lv_iload hx hb dX8_wear_133 (lv_at hl 3 rfl) ?_
        obtain ⟨r33, h32, hF⟩ := b1_s hF
        refine cl_vi (As := [.int (r31 &&& ((((1 : Int32) <<< (l7 &&& 31)) - (1 : Int32)) ^^^ (-1 : Int32))), .int l6]) (rest := []) (w' := (w_xbook ky aX aB aP aT aR aK aH aG aS ax au ay am bsz bgp ber bxs bus bys bme)) ⟨hx, hb, hml, hown, hts⟩ hK hP hD hS hA (c_X0_letsLaw l D ky aB ax au ay am _ N  bsz bgp ber bxs bus bys bme (r31 &&& ((((1 : Int32) <<< (l7 &&& 31)) - (1 : Int32)) ^^^ (-1 : Int32))) l6 r33 h32) (cwV 2 hts gX8_wear_X0_letsLaw rfl rfl rfl (by decide +kernel) ⟨Nat.le_of_ble_eq_true rfl, Nat.le_of_ble_eq_true rfl⟩) [1, 2, 3, 4, 5] [0] [0, 1, 2, 3, 4, 5] 0 0 rfl rfl rfl rfl (wr := [(aX, .inr (7, [.ref aB, .ref aP, .ref aT, .ref aR, .ref aK, .ref aH, .ref aG, .ref aS]))]) rfl (by decide) rfl rfl hl.1 (Nat.le_of_ble_eq_true rfl) dX8_wear_135 ⟨Nat.zero_le _, Nat.zero_le _⟩ (fun H locs hP hD hS => ?_)
        refine lv_if_eq (tgt := 144) hx hb dX8_wear_138 (by decide) (fun c34 => ?_) (fun c34 => ?_)
        · have hF := if_t c34 hF
          refine lv_iinc (v := (l7 + (1 : Int32))) (lv' := [(7, .int (l7 + (1 : Int32))), (8, .int (((1 : Int32) <<< (l7 &&& 31)) - (1 : Int32))), (0, .ref aX), (1, .int l1), (6, .int l6)]) hx hb dX8_wear_144 hl (k := 4) rfl rfl (by decide) rfl (fun ls hl => ?_)
          refine lv_goto (tgt := 84) hx hb dX8_wear_147 (by decide) ?_
          exact ih (l7 + (1 : Int32)) hF H _ _ hP hD hS (lv_sub hl [2, 3, 4, 0] rfl)
        · have hF := if_f c34 hF
          refine lv_iload hx hb dX8_wear_141 (lv_at hl 4 rfl) ?_
          have hF := Option.some.inj hF
          subst hF
          exact hQ _ H _ _ dX8_wear_143 hP hD hS
set_option maxHeartbeats 4000000 in
set_option maxRecDepth 100000 in
theorem w_X8_wear_33 {p : Program} {l : Launch} {e : Env} {s : State} {m : MethodId} {args : Array Value} {below : List Frame} {meth : Method} {c : Code} {Q : State → Prop} {A : Nat → Prop} {D : va_G} {ky : Nat → ClassId} {aX aB aP aT aR aK aH aG aS ax au ay am : Nat} {bsz : Int32} {bgp : Int32} {ber : Int32} {bxs : Nat → Int32} {bus : Nat → Int32} {bys : Nat → Int32} {bme : Nat → Int32} (N : Nat) (C : cx p s m c args D ky A cX8_wear 9 wsX8_wear RX8) (res : Int32) (hQ : ∀ (pc : Nat) (H : Heap) (locs : List Loc) (ls : Array Slot), decode cX8_wear pc = .ok (.ireturn, 1) → va_P D vwCl (w_xbook ky aX aB aP aT aR aK aH aG aS ax au ay am bsz bgp ber bxs bus bys bme) H → va_D A (w_xbook ky aX aB aP aT aR aK aH aG aS ax au ay am bsz bgp ber bxs bus bys bme) → va_S A s.heap H locs → W p l e rm_X8_wear s m args below meth c H locs 0 0 Q (F0 m pc ls [.int res]))  (l1 : Int32) (l2 : Int32) (l3 : Int32) (hF : f_X8_wear_33 N l1 l2 l3 bsz bme = some res) : ∀ (H : Heap) (locs : List Loc) (ls : Array Slot), va_P D vwCl (w_xbook ky aX aB aP aT aR aK aH aG aS ax au ay am bsz bgp ber bxs bus bys bme) H → va_D A (w_xbook ky aX aB aP aT aR aK aH aG aS ax au ay am bsz bgp ber bxs bus bys bme) → va_S A s.heap H locs → lv_has ls 9 [(0, .ref aX), (1, .int l1), (2, .int l2), (3, .int l3)] → W p l e rm_X8_wear s m args below meth c H locs 0 0 Q (F0 m 33 ls []) := by
  obtain ⟨hx, hb, hml, hown, hts, hK, hA⟩ := id C
  intro H locs ls hP hD hS hl
  unfold f_X8_wear_33 at hF
  refine lv_iload_n hx hb dX8_wear_33 rfl (lv_at hl 1 rfl) ?_
  obtain ⟨r13, h12, hF⟩ := b1_s hF
  refine cl_si (As := [.int l1]) (rest := []) ⟨hx, hb, hml, hown, hts⟩ hK hP hD hS hA (c_X3_partOfState l D ky  _ N   l1 r13 h12) (va_cwS 1 hts gX8_wear_X3_partOfState rfl rfl rfl (by decide +kernel) ⟨Nat.le_of_ble_eq_true rfl, Nat.le_of_ble_eq_true rfl⟩) rfl hl.1 (Nat.le_of_ble_eq_true rfl) dX8_wear_34 ⟨Nat.zero_le _, Nat.zero_le _⟩ (fun H locs hP hD hS => ?_)
  refine lv_iload_n hx hb dX8_wear_37 rfl (lv_at hl 2 rfl) ?_
  refine lv_iadd hx hb dX8_wear_38 ?_
  refine lv_istore (lv' := [(4, .int (r13 + l2)), (0, .ref aX), (1, .int l1), (2, .int l2), (3, .int l3)]) hx hb dX8_wear_39 hl (by decide) rfl (fun ls hl => ?_)
  refine lv_iload_n hx hb dX8_wear_41 rfl (lv_at hl 2 rfl) ?_
  obtain ⟨r15, h14, hF⟩ := b1_s hF
  refine cl_si (As := [.int l1]) (rest := []) ⟨hx, hb, hml, hown, hts⟩ hK hP hD hS hA (c_X3_partOfPush l D ky  _ N   l1 r15 h14) (va_cwS 1 hts gX8_wear_X3_partOfPush rfl rfl rfl (by decide +kernel) ⟨Nat.le_of_ble_eq_true rfl, Nat.le_of_ble_eq_true rfl⟩) rfl hl.1 (Nat.le_of_ble_eq_true rfl) dX8_wear_42 ⟨Nat.zero_le _, Nat.zero_le _⟩ (fun H locs hP hD hS => ?_)
  refine lv_iload_n hx hb dX8_wear_45 rfl (lv_at hl 4 rfl) ?_
  refine lv_iadd hx hb dX8_wear_46 ?_
  refine lv_istore (lv' := [(5, .int (r15 + l3)), (4, .int (r13 + l2)), (0, .ref aX), (1, .int l1), (2, .int l2), (3, .int l3)]) hx hb dX8_wear_47 hl (by decide) rfl (fun ls hl => ?_)
  refine lv_iload hx hb dX8_wear_49 (lv_at hl 1 rfl) ?_
  refine lv_bipush (v := (8 : Int32)) hx hb dX8_wear_51 (by decide) ?_
  obtain ⟨r17, h16, hF⟩ := b1_s hF
  refine cl_si (As := [.int (r13 + l2), .int (8 : Int32)]) (rest := []) ⟨hx, hb, hml, hown, hts⟩ hK hP hD hS hA (c_X8_isNear l D ky  _ N   (r13 + l2) (8 : Int32) r17 h16) (va_cwS 2 hts gX8_wear_X8_isNear rfl rfl rfl (by decide +kernel) ⟨Nat.le_of_ble_eq_true rfl, Nat.le_of_ble_eq_true rfl⟩) rfl hl.1 (Nat.le_of_ble_eq_true rfl) dX8_wear_53 ⟨Nat.zero_le _, Nat.zero_le _⟩ (fun H locs hP hD hS => ?_)
  refine lv_if_eq (tgt := 69) hx hb dX8_wear_56 (by decide) (fun c18 => ?_) (fun c18 => ?_)
  · have hF := if_t c18 hF
    refine lv_bipush (v := (-2 : Int32)) hx hb dX8_wear_69 (by decide) ?_
    have hF := Option.some.inj hF
    subst hF
    exact hQ _ H _ _ dX8_wear_71 hP hD hS
  · have hF := if_f c18 hF
    refine lv_iload hx hb dX8_wear_59 (lv_at hl 0 rfl) ?_
    refine lv_bipush (v := (8 : Int32)) hx hb dX8_wear_61 (by decide) ?_
    obtain ⟨r20, h19, hF⟩ := b1_s hF
    refine cl_si (As := [.int (r15 + l3), .int (8 : Int32)]) (rest := []) ⟨hx, hb, hml, hown, hts⟩ hK hP hD hS hA (c_X8_isNear l D ky  _ N   (r15 + l3) (8 : Int32) r20 h19) (va_cwS 2 hts gX8_wear_X8_isNear rfl rfl rfl (by decide +kernel) ⟨Nat.le_of_ble_eq_true rfl, Nat.le_of_ble_eq_true rfl⟩) rfl hl.1 (Nat.le_of_ble_eq_true rfl) dX8_wear_63 ⟨Nat.zero_le _, Nat.zero_le _⟩ (fun H locs hP hD hS => ?_)
    refine lv_if_ne (tgt := 72) hx hb dX8_wear_66 (by decide) (fun c21 => ?_) (fun c21 => ?_)
    · have hF := if_f c21 hF
      refine lv_iload hx hb dX8_wear_72 (lv_at hl 1 rfl) ?_
      refine lv_iload hx hb dX8_wear_74 (lv_at hl 0 rfl) ?_
      obtain ⟨r23, h22, hF⟩ := b1_s hF
      refine cl_si (As := [.int (r13 + l2), .int (r15 + l3)]) (rest := []) ⟨hx, hb, hml, hown, hts⟩ hK hP hD hS hA (c_X3_number l D ky  _ N   (r13 + l2) (r15 + l3) r23 h22) (va_cwS 2 hts gX8_wear_X3_number rfl rfl rfl (by decide +kernel) ⟨Nat.le_of_ble_eq_true rfl, Nat.le_of_ble_eq_true rfl⟩) rfl hl.1 (Nat.le_of_ble_eq_true rfl) dX8_wear_76 ⟨Nat.zero_le _, Nat.zero_le _⟩ (fun H locs hP hD hS => ?_)
      refine lv_istore (lv' := [(6, .int r23), (5, .int (r15 + l3)), (4, .int (r13 + l2)), (0, .ref aX), (1, .int l1), (2, .int l2), (3, .int l3)]) hx hb dX8_wear_79 hl (by decide) rfl (fun ls hl => ?_)
      refine lv_iconst (v := (0 : Int32)) hx hb dX8_wear_81 (by decide) ?_
      refine lv_istore (lv' := [(7, .int (0 : Int32)), (6, .int r23), (5, .int (r15 + l3)), (4, .int (r13 + l2)), (0, .ref aX), (1, .int l1), (2, .int l2), (3, .int l3)]) hx hb dX8_wear_82 hl (by decide) rfl (fun ls hl => ?_)
      exact w_X8_wear_84 N C res hQ l1 r23 N (0 : Int32) hF H _ _ hP hD hS (lv_sub hl [4, 5, 1, 0] rfl)
    · have hF := if_t c21 hF
      refine lv_bipush (v := (-2 : Int32)) hx hb dX8_wear_69 (by decide) ?_
      have hF := Option.some.inj hF
      subst hF
      exact hQ _ H _ _ dX8_wear_71 hP hD hS
set_option maxHeartbeats 4000000 in
set_option maxRecDepth 100000 in
theorem cr_X8_wear (l : Launch) (D : va_G) (ky : Nat → ClassId) (aX aB aP aT aR aK aH aG aS ax au ay am : Nat) (sz N : Nat)  (bsz : Int32) (bgp : Int32) (ber : Int32) (bxs : Nat → Int32) (bus : Nat → Int32) (bys : Nat → Int32) (bme : Nat → Int32) (p0 : Int32) (p1 : Int32) (p2 : Int32) (res : Int32) (hF : f_X8_wear N p0 p1 p2 bsz bme = some res) : MI l yX8_wear wsX8_wear rm_X8_wear D ky sz [.ref aX, .int p0, .int p1, .int p2] (w_xbook ky aX aB aP aT aR aK aH aG aS ax au ay am bsz bgp ber bxs bus bys bme) (w_xbook ky aX aB aP aT aR aK aH aG aS ax au ay am bsz bgp ber bxs bus bys bme) res := by
  unfold MI
  refine Met.ofW (cc := cX8_wear) (maxL := 9) (ret := (some .int)) (by decide) rfl ?_
  intro p e s m args below meth c s₁ B hml hv
  obtain ⟨rfl, hsz, hP, hK, hD0⟩ := hv
  have hx := B.exec
  have hb := B.bytes
  have hr := B.returns
  have hts := atoms_spec (ws := wsX8_wear) B.pre
  have hown : s.vm.findClass RX8 = some m.cls := findClass_of_methodNamed B.named
  have hlocks := B.notSynchronized
  subst hsz
  have hD := hD0.self (sz := s.heap.size)
  generalize hAe : va_A (w_xbook ky aX aB aP aT aR aK aH aG aS ax au ay am bsz bgp ber bxs bus bys bme) s.heap.size = A at hD ⊢
  have hA : ∀ q : Nat, s.heap.size ≤ q → A q := fun q h => by rw [← hAe]; exact Or.inr h
  have hS : va_S A s.heap s.heap [] := va_S.rf
  have hP : va_P D vwCl (w_xbook ky aX aB aP aT aR aK aH aG aS ax au ay am bsz bgp ber bxs bus bys bme) s.heap := hP
  have hl := lv_entry ([.ref aX, .int p0, .int p1, .int p2]) (n := 9) (Nat.le_of_ble_eq_true rfl)
  rw [lg_entry_eq]
  generalize (lg_sl ([.ref aX, .int p0, .int p1, .int p2]) ++ List.replicate (9 - (lg_sl ([.ref aX, .int p0, .int p1, .int p2])).length) Slot.unset).toArray = ls at hl ⊢
  have hl : lv_has ls 9 [(0, .ref aX), (1, .int p0), (2, .int p1), (3, .int p2)] := hl
  have C : cx p s m c ([.ref aX, .int p0, .int p1, .int p2]).toArray D ky A cX8_wear 9 wsX8_wear RX8 := ⟨hx, hb, hml, hown, hts, hK, hA⟩
  have hQ : ∀ (pc : Nat) (H : Heap) (locs : List Loc) (ls : Array Slot), decode cX8_wear pc = .ok (.ireturn, 1) → va_P D vwCl (w_xbook ky aX aB aP aT aR aK aH aG aS ax au ay am bsz bgp ber bxs bus bys bme) H → va_D A (w_xbook ky aX aB aP aT aR aK aH aG aS ax au ay am bsz bgp ber bxs bus bys bme) → va_S A s.heap H locs → W p l e rm_X8_wear s m ([.ref aX, .int p0, .int p1, .int p2]).toArray below meth c H locs 0 0 (MQ below (va_Qi (S := Unit) (fun r _ => r = res) (fun _ t => va_P D vwCl (w_xbook ky aX aB aP aT aR aK aH aG aS ax au ay am bsz bgp ber bxs bus bys bme) t.heap ∧ va_K D vwCl (tyW ky) t ∧ va_D A (w_xbook ky aX aB aP aT aR aK aH aG aS ax au ay am bsz bgp ber bxs bus bys bme)) A) ([.ref aX, .int p0, .int p1, .int p2]).toArray s 0 0 A) (F0 m pc ls [.int res]) := fun pc H locs ls hd hP hD hS => W.iret hx hb hr (fun t ht hW => ⟨⟨res, (), rfl, rfl, by rw [ht]; exact hP, va_K.moved hW.alike hK, hD⟩, hS.F ht⟩) hS.2.2 hd
  unfold f_X8_wear at hF
  refine lv_iload_n hx hb dX8_wear_0 rfl (lv_at hl 1 rfl) ?_
  obtain ⟨r2, h1, hF⟩ := b1_s hF
  refine cl_si (As := [.int p0]) (rest := []) ⟨hx, hb, hml, hown, hts⟩ hK hP hD hS hA (c_X3_is l D ky  _ N   p0 r2 h1) (va_cwS 1 hts gX8_wear_X3_is rfl rfl rfl (by decide +kernel) ⟨Nat.le_of_ble_eq_true rfl, Nat.le_of_ble_eq_true rfl⟩) rfl hl.1 (Nat.le_of_ble_eq_true rfl) dX8_wear_1 ⟨Nat.zero_le _, Nat.zero_le _⟩ (fun H locs hP hD hS => ?_)
  refine lv_if_eq (tgt := 31) hx hb dX8_wear_4 (by decide) (fun c3 => ?_) (fun c3 => ?_)
  · have hF := if_t c3 hF
    refine lv_iconst (v := (-1 : Int32)) hx hb dX8_wear_31 (by decide) ?_
    have hF := Option.some.inj hF
    subst hF
    exact hQ _ _ _ _ dX8_wear_32 hP hD hS
  · have hF := if_f c3 hF
    refine lv_iload_n hx hb dX8_wear_7 rfl (lv_at hl 2 rfl) ?_
    refine lv_iconst (v := (1 : Int32)) hx hb dX8_wear_8 (by decide) ?_
    obtain ⟨r5, h4, hF⟩ := b1_s hF
    refine cl_si (As := [.int p1, .int (1 : Int32)]) (rest := []) ⟨hx, hb, hml, hown, hts⟩ hK hP hD hS hA (c_X8_isNear l D ky  _ N   p1 (1 : Int32) r5 h4) (va_cwS 2 hts gX8_wear_X8_isNear rfl rfl rfl (by decide +kernel) ⟨Nat.le_of_ble_eq_true rfl, Nat.le_of_ble_eq_true rfl⟩) rfl hl.1 (Nat.le_of_ble_eq_true rfl) dX8_wear_9 ⟨Nat.zero_le _, Nat.zero_le _⟩ (fun H locs hP hD hS => ?_)
    refine lv_if_eq (tgt := 31) hx hb dX8_wear_12 (by decide) (fun c6 => ?_) (fun c6 => ?_)
    · have hF := if_t c6 hF
      refine lv_iconst (v := (-1 : Int32)) hx hb dX8_wear_31 (by decide) ?_
      have hF := Option.some.inj hF
      subst hF
      exact hQ _ _ _ _ dX8_wear_32 hP hD hS
    · have hF := if_f c6 hF
      refine lv_iload_n hx hb dX8_wear_15 rfl (lv_at hl 3 rfl) ?_
      refine lv_iconst (v := (1 : Int32)) hx hb dX8_wear_16 (by decide) ?_
      obtain ⟨r8, h7, hF⟩ := b1_s hF
      refine cl_si (As := [.int p2, .int (1 : Int32)]) (rest := []) ⟨hx, hb, hml, hown, hts⟩ hK hP hD hS hA (c_X8_isNear l D ky  _ N   p2 (1 : Int32) r8 h7) (va_cwS 2 hts gX8_wear_X8_isNear rfl rfl rfl (by decide +kernel) ⟨Nat.le_of_ble_eq_true rfl, Nat.le_of_ble_eq_true rfl⟩) rfl hl.1 (Nat.le_of_ble_eq_true rfl) dX8_wear_17 ⟨Nat.zero_le _, Nat.zero_le _⟩ (fun H locs hP hD hS => ?_)
      refine lv_if_eq (tgt := 31) hx hb dX8_wear_20 (by decide) (fun c9 => ?_) (fun c9 => ?_)
      · have hF := if_t c9 hF
        refine lv_iconst (v := (-1 : Int32)) hx hb dX8_wear_31 (by decide) ?_
        have hF := Option.some.inj hF
        subst hF
        exact hQ _ _ _ _ dX8_wear_32 hP hD hS
      · have hF := if_f c9 hF
        refine lv_iload_n hx hb dX8_wear_23 rfl (lv_at hl 2 rfl) ?_
        refine lv_if_ne (tgt := 33) hx hb dX8_wear_24 (by decide) (fun c10 => ?_) (fun c10 => ?_)
        · have hF := if_f c10 hF
          exact w_X8_wear_33 N C res hQ p0 p1 p2 hF _ _ _ hP hD hS (lv_sub hl [0, 1, 2, 3] rfl)
        · have hF := if_t c10 hF
          refine lv_iload_n hx hb dX8_wear_27 rfl (lv_at hl 3 rfl) ?_
          refine lv_if_ne (tgt := 33) hx hb dX8_wear_28 (by decide) (fun c11 => ?_) (fun c11 => ?_)
          · have hF := if_f c11 hF
            exact w_X8_wear_33 N C res hQ p0 p1 p2 hF _ _ _ hP hD hS (lv_sub hl [0, 1, 2, 3] rfl)
          · have hF := if_t c11 hF
            refine lv_iconst (v := (-1 : Int32)) hx hb dX8_wear_31 (by decide) ?_
            have hF := Option.some.inj hF
            subst hF
            exact hQ _ _ _ _ dX8_wear_32 hP hD hS
theorem c_X8_wear (l : Launch) (D : va_G) (ky : Nat → ClassId) (aX aB aP aT aR aK aH aG aS ax au ay am : Nat) (sz N : Nat)  (bsz : Int32) (bgp : Int32) (ber : Int32) (bxs : Nat → Int32) (bus : Nat → Int32) (bys : Nat → Int32) (bme : Nat → Int32) (p0 : Int32) (p1 : Int32) (p2 : Int32) (rv : Int32) (hF : f_X8_wear N p0 p1 p2 bsz bme = some (rv)) : MI l yX8_wear wsX8_wear rm_X8_wear D ky sz [.ref aX, .int p0, .int p1, .int p2] (w_xbook ky aX aB aP aT aR aK aH aG aS ax au ay am bsz bgp ber bxs bus bys bme) (w_xbook ky aX aB aP aT aR aK aH aG aS ax au ay am bsz bgp ber bxs bus bys bme) rv :=
  cr_X8_wear l D ky aX aB aP aT aR aK aH aG aS ax au ay am sz N bsz bgp ber bxs bus bys bme p0 p1 p2 (rv) hF
abbrev rm_X8_tries : Room := { frames := 4, cells := 0, slots := 0, locals := 88 }
theorem iX8_tries_X8 : ∀ w ∈ wsX80, w ∈ wsX8_tries := by decide +kernel
theorem kX8_tries_1 : (Cond.fieldLink RX8 10 "TwoLaws" "book" "LTwoLaws$Book;") ∈ wsX8_tries := by decide +kernel
theorem kX8_tries_2 : (Cond.fieldLink RX8 33 "TwoLaws" "trial" "LTwoLaws$Trial;") ∈ wsX8_tries := by decide +kernel
set_option maxHeartbeats 4000000 in
set_option maxRecDepth 100000 in
theorem cr_X8_tries (l : Launch) (D : va_G) (ky : Nat → ClassId) (aX aB aP aT aR aK aH aG aS aw ao ax au ay am : Nat) (sz N : Nat)  (rlc : Int32) (rla : Nat → Int32) (rmo : Nat → Int32) (bsz : Int32) (bgp : Int32) (ber : Int32) (bxs : Nat → Int32) (bus : Nat → Int32) (bys : Nat → Int32) (bme : Nat → Int32) (p0 : Int32) (p1 : Int32) (p2 : Int32) (res : Int32 × Int32 × (Nat → Int32) × (Nat → Int32)) (hF : f_X8_tries N p0 p1 p2 rlc rla rmo bsz ber bme = some res) : MI l yX8_tries wsX8_tries rm_X8_tries D ky sz [.ref aX, .int p0, .int p1, .int p2] (w_xtrial ky aX aB aP aT aR aK aH aG aS aw ao ax au ay am rlc rla rmo bsz bgp ber bxs bus bys bme) (w_xtrial ky aX aB aP aT aR aK aH aG aS aw ao ax au ay am res.2.1 res.2.2.1 res.2.2.2 bsz bgp ber bxs bus bys bme) res.1 := by
  unfold MI
  refine Met.ofW (cc := cX8_tries) (maxL := 4) (ret := (some .int)) (by decide) rfl ?_
  intro p e s m args below meth c s₁ B hml hv
  obtain ⟨rfl, hsz, hP, hK, hD0⟩ := hv
  have hx := B.exec
  have hb := B.bytes
  have hr := B.returns
  have hts := atoms_spec (ws := wsX8_tries) B.pre
  have hown : s.vm.findClass RX8 = some m.cls := findClass_of_methodNamed B.named
  have hlocks := B.notSynchronized
  subst hsz
  have hD := hD0.self (sz := s.heap.size)
  generalize hAe : va_A (w_xtrial ky aX aB aP aT aR aK aH aG aS aw ao ax au ay am rlc rla rmo bsz bgp ber bxs bus bys bme) s.heap.size = A at hD ⊢
  have hA : ∀ q : Nat, s.heap.size ≤ q → A q := fun q h => by rw [← hAe]; exact Or.inr h
  have hS : va_S A s.heap s.heap [] := va_S.rf
  have hP : va_P D vwCl (w_xtrial ky aX aB aP aT aR aK aH aG aS aw ao ax au ay am rlc rla rmo bsz bgp ber bxs bus bys bme) s.heap := hP
  have hl := lv_entry ([.ref aX, .int p0, .int p1, .int p2]) (n := 4) (Nat.le_of_ble_eq_true rfl)
  rw [lg_entry_eq]
  generalize (lg_sl ([.ref aX, .int p0, .int p1, .int p2]) ++ List.replicate (4 - (lg_sl ([.ref aX, .int p0, .int p1, .int p2])).length) Slot.unset).toArray = ls at hl ⊢
  have hl : lv_has ls 4 [(0, .ref aX), (1, .int p0), (2, .int p1), (3, .int p2)] := hl
  have C : cx p s m c ([.ref aX, .int p0, .int p1, .int p2]).toArray D ky A cX8_tries 4 wsX8_tries RX8 := ⟨hx, hb, hml, hown, hts, hK, hA⟩
  have hQ : ∀ (pc : Nat) (H : Heap) (locs : List Loc) (ls : Array Slot), decode cX8_tries pc = .ok (.ireturn, 1) → va_P D vwCl (w_xtrial ky aX aB aP aT aR aK aH aG aS aw ao ax au ay am res.2.1 res.2.2.1 res.2.2.2 bsz bgp ber bxs bus bys bme) H → va_D A (w_xtrial ky aX aB aP aT aR aK aH aG aS aw ao ax au ay am res.2.1 res.2.2.1 res.2.2.2 bsz bgp ber bxs bus bys bme) → va_S A s.heap H locs → W p l e rm_X8_tries s m ([.ref aX, .int p0, .int p1, .int p2]).toArray below meth c H locs 0 0 (MQ below (va_Qi (S := Unit) (fun r _ => r = res.1) (fun _ t => va_P D vwCl (w_xtrial ky aX aB aP aT aR aK aH aG aS aw ao ax au ay am res.2.1 res.2.2.1 res.2.2.2 bsz bgp ber bxs bus bys bme) t.heap ∧ va_K D vwCl (tyW ky) t ∧ va_D A (w_xtrial ky aX aB aP aT aR aK aH aG aS aw ao ax au ay am res.2.1 res.2.2.1 res.2.2.2 bsz bgp ber bxs bus bys bme)) A) ([.ref aX, .int p0, .int p1, .int p2]).toArray s 0 0 A) (F0 m pc ls [.int res.1]) := fun pc H locs ls hd hP hD hS => W.iret hx hb hr (fun t ht hW => ⟨⟨res.1, (), rfl, rfl, by rw [ht]; exact hP, va_K.moved hW.alike hK, hD⟩, hS.F ht⟩) hS.2.2 hd
  unfold f_X8_tries at hF
  refine lv_aload_n hx hb dX8_tries_0 rfl (lv_at hl 0 rfl) ?_
  refine va_get (D := D) (ci := 7) (v := .ref aB) (C := RX8) (T := TX8) (N := 8) hx hb hts iX8_tries_X8 hown hK hP 0 rfl rfl 0 (by decide) (hts _ kX8_tries_1) (fun _ h9 => h9) rfl dX8_tries_1 ?_
  refine lv_iload_n hx hb dX8_tries_4 rfl (lv_at hl 1 rfl) ?_
  obtain ⟨r2, h1, hF⟩ := b1_s hF
  refine cl_vi (As := [.int p0]) (rest := []) (w' := (w_xtrial ky aX aB aP aT aR aK aH aG aS aw ao ax au ay am rlc rla rmo bsz bgp ber bxs bus bys bme)) ⟨hx, hb, hml, hown, hts⟩ hK hP hD hS hA (c_X0_isHeap l D ky aB ax au ay am _ N  bsz bgp ber bxs bus bys bme p0 r2 h1) (cwV 1 hts gX8_tries_X0_isHeap rfl rfl rfl (by decide +kernel) ⟨Nat.le_of_ble_eq_true rfl, Nat.le_of_ble_eq_true rfl⟩) [4, 5, 6, 7, 8] [0, 1, 2, 3] [0, 1, 2, 3, 4, 5, 6, 7, 8] 0 0 rfl rfl rfl rfl (wr := [(aX, .inr (7, [.ref aB, .ref aP, .ref aT, .ref aR, .ref aK, .ref aH, .ref aG, .ref aS])), (aR, .inr (6, [.ref aw, .int rlc, .ref ao])), (aw, .inl (ky 0, 289, .inl rla)), (ao, .inl (ky 0, 474, .inl rmo))]) rfl (by decide) rfl rfl hl.1 (Nat.le_of_ble_eq_true rfl) dX8_tries_5 ⟨Nat.zero_le _, Nat.zero_le _⟩ (fun H locs hP hD hS => ?_)
  refine lv_if_eq (tgt := 29) hx hb dX8_tries_8 (by decide) (fun c3 => ?_) (fun c3 => ?_)
  · have hF := if_t c3 hF
    refine lv_iconst (v := (-1 : Int32)) hx hb dX8_tries_29 (by decide) ?_
    have hF := Option.some.inj hF
    subst hF
    exact hQ _ _ _ _ dX8_tries_30 hP hD hS
  · have hF := if_f c3 hF
    refine lv_iload_n hx hb dX8_tries_11 rfl (lv_at hl 2 rfl) ?_
    refine lv_bipush (v := (99 : Int32)) hx hb dX8_tries_12 (by decide) ?_
    obtain ⟨r5, h4, hF⟩ := b1_s hF
    refine cl_si (As := [.int p1, .int (99 : Int32)]) (rest := []) ⟨hx, hb, hml, hown, hts⟩ hK hP hD hS hA (c_X8_isNear l D ky  _ N   p1 (99 : Int32) r5 h4) (va_cwS 2 hts gX8_tries_X8_isNear rfl rfl rfl (by decide +kernel) ⟨Nat.le_of_ble_eq_true rfl, Nat.le_of_ble_eq_true rfl⟩) rfl hl.1 (Nat.le_of_ble_eq_true rfl) dX8_tries_14 ⟨Nat.zero_le _, Nat.zero_le _⟩ (fun H locs hP hD hS => ?_)
    refine lv_if_eq (tgt := 29) hx hb dX8_tries_17 (by decide) (fun c6 => ?_) (fun c6 => ?_)
    · have hF := if_t c6 hF
      refine lv_iconst (v := (-1 : Int32)) hx hb dX8_tries_29 (by decide) ?_
      have hF := Option.some.inj hF
      subst hF
      exact hQ _ _ _ _ dX8_tries_30 hP hD hS
    · have hF := if_f c6 hF
      refine lv_iload_n hx hb dX8_tries_20 rfl (lv_at hl 3 rfl) ?_
      refine lv_bipush (v := (9 : Int32)) hx hb dX8_tries_21 (by decide) ?_
      obtain ⟨r8, h7, hF⟩ := b1_s hF
      refine cl_si (As := [.int p2, .int (9 : Int32)]) (rest := []) ⟨hx, hb, hml, hown, hts⟩ hK hP hD hS hA (c_X8_isNear l D ky  _ N   p2 (9 : Int32) r8 h7) (va_cwS 2 hts gX8_tries_X8_isNear rfl rfl rfl (by decide +kernel) ⟨Nat.le_of_ble_eq_true rfl, Nat.le_of_ble_eq_true rfl⟩) rfl hl.1 (Nat.le_of_ble_eq_true rfl) dX8_tries_23 ⟨Nat.zero_le _, Nat.zero_le _⟩ (fun H locs hP hD hS => ?_)
      refine lv_if_ne (tgt := 31) hx hb dX8_tries_26 (by decide) (fun c9 => ?_) (fun c9 => ?_)
      · have hF := if_f c9 hF
        refine lv_aload_n hx hb dX8_tries_31 rfl (lv_at hl 0 rfl) ?_
        refine va_get (D := D) (ci := 7) (v := .ref aB) (C := RX8) (T := TX8) (N := 8) hx hb hts iX8_tries_X8 hown hK hP 0 rfl rfl 0 (by decide) (hts _ kX8_tries_1) (fun _ h9 => h9) rfl dX8_tries_32 ?_
        refine lv_iload_n hx hb dX8_tries_35 rfl (lv_at hl 1 rfl) ?_
        obtain ⟨r11, h10, hF⟩ := b1_s hF
        refine cl_vi (As := [.int p0]) (rest := []) (w' := (w_xtrial ky aX aB aP aT aR aK aH aG aS aw ao ax au ay am rlc rla rmo bsz bgp ber bxs bus bys bme)) ⟨hx, hb, hml, hown, hts⟩ hK hP hD hS hA (c_X0_isWhole l D ky aB ax au ay am _ N  bsz bgp ber bxs bus bys bme p0 r11 h10) (cwV 1 hts gX8_tries_X0_isWhole rfl rfl rfl (by decide +kernel) ⟨Nat.le_of_ble_eq_true rfl, Nat.le_of_ble_eq_true rfl⟩) [4, 5, 6, 7, 8] [0, 1, 2, 3] [0, 1, 2, 3, 4, 5, 6, 7, 8] 0 0 rfl rfl rfl rfl (wr := [(aX, .inr (7, [.ref aB, .ref aP, .ref aT, .ref aR, .ref aK, .ref aH, .ref aG, .ref aS])), (aR, .inr (6, [.ref aw, .int rlc, .ref ao])), (aw, .inl (ky 0, 289, .inl rla)), (ao, .inl (ky 0, 474, .inl rmo))]) rfl (by decide) rfl rfl hl.1 (Nat.le_of_ble_eq_true rfl) dX8_tries_36 ⟨Nat.zero_le _, Nat.zero_le _⟩ (fun H locs hP hD hS => ?_)
        refine lv_if_ne (tgt := 45) hx hb dX8_tries_39 (by decide) (fun c12 => ?_) (fun c12 => ?_)
        · have hF := if_f c12 hF
          refine lv_aload_n hx hb dX8_tries_45 rfl (lv_at hl 0 rfl) ?_
          refine va_get (D := D) (ci := 7) (v := .ref aR) (C := RX8) (T := TX8) (N := 8) hx hb hts iX8_tries_X8 hown hK hP 0 rfl rfl 3 (by decide) (hts _ kX8_tries_2) (fun _ h9 => h9) rfl dX8_tries_46 ?_
          refine lv_aload_n hx hb dX8_tries_49 rfl (lv_at hl 0 rfl) ?_
          refine va_get (D := D) (ci := 7) (v := .ref aB) (C := RX8) (T := TX8) (N := 8) hx hb hts iX8_tries_X8 hown hK hP 0 rfl rfl 0 (by decide) (hts _ kX8_tries_1) (fun _ h9 => h9) rfl dX8_tries_50 ?_
          refine lv_iload_n hx hb dX8_tries_53 rfl (lv_at hl 1 rfl) ?_
          obtain ⟨v14, v15, h13, hF⟩ := b2_s hF
          refine cl_vv (As := [.ref aB, .int p0]) (rest := []) (w' := (w_xtrial ky aX aB aP aT aR aK aH aG aS aw ao ax au ay am v14 v15 rmo bsz bgp ber bxs bus bys bme)) ⟨hx, hb, hml, hown, hts⟩ hK hP hD hS hA (c_X7_gather l D ky aR aw ao aB ax au ay am _ N  rlc rla rmo bsz bgp ber bxs bus bys bme p0 v14 v15 h13) (cwV 2 hts gX8_tries_X7_gather rfl rfl rfl (by decide +kernel) ⟨Nat.le_of_ble_eq_true rfl, Nat.le_of_ble_eq_true rfl⟩) [1, 2, 3, 4, 5, 6, 7, 8] [0] [0, 1, 2, 3, 4, 5, 6, 7, 8] 0 6 rfl rfl rfl rfl (wr := [(aX, .inr (7, [.ref aB, .ref aP, .ref aT, .ref aR, .ref aK, .ref aH, .ref aG, .ref aS]))]) rfl (by decide) rfl rfl hl.1 (Nat.le_of_ble_eq_true rfl) dX8_tries_54 ⟨Nat.zero_le _, Nat.zero_le _⟩ (fun H locs hP hD hS => ?_)
          refine lv_aload_n hx hb dX8_tries_57 rfl (lv_at hl 0 rfl) ?_
          refine va_get (D := D) (ci := 7) (v := .ref aR) (C := RX8) (T := TX8) (N := 8) hx hb hts iX8_tries_X8 hown hK hP 0 rfl rfl 3 (by decide) (hts _ kX8_tries_2) (fun _ h9 => h9) rfl dX8_tries_58 ?_
          refine lv_iload_n hx hb dX8_tries_61 rfl (lv_at hl 2 rfl) ?_
          refine lv_iload_n hx hb dX8_tries_62 rfl (lv_at hl 3 rfl) ?_
          refine lv_aload_n hx hb dX8_tries_63 rfl (lv_at hl 0 rfl) ?_
          refine va_get (D := D) (ci := 7) (v := .ref aB) (C := RX8) (T := TX8) (N := 8) hx hb hts iX8_tries_X8 hown hK hP 0 rfl rfl 0 (by decide) (hts _ kX8_tries_1) (fun _ h9 => h9) rfl dX8_tries_64 ?_
          obtain ⟨r17, h16, hF⟩ := b1_s hF
          refine cl_vi (As := []) (rest := [.int p2, .int p1, .ref aR]) (w' := (w_xtrial ky aX aB aP aT aR aK aH aG aS aw ao ax au ay am v14 v15 rmo bsz bgp ber bxs bus bys bme)) ⟨hx, hb, hml, hown, hts⟩ hK hP hD hS hA (c_X0_errorNow l D ky aB ax au ay am _ N  bsz bgp ber bxs bus bys bme  r17 h16) (cwV 0 hts gX8_tries_X0_errorNow rfl rfl rfl (by decide +kernel) ⟨Nat.le_of_ble_eq_true rfl, Nat.le_of_ble_eq_true rfl⟩) [4, 5, 6, 7, 8] [0, 1, 2, 3] [0, 1, 2, 3, 4, 5, 6, 7, 8] 0 0 rfl rfl rfl rfl (wr := [(aX, .inr (7, [.ref aB, .ref aP, .ref aT, .ref aR, .ref aK, .ref aH, .ref aG, .ref aS])), (aR, .inr (6, [.ref aw, .int v14, .ref ao])), (aw, .inl (ky 0, 289, .inl v15)), (ao, .inl (ky 0, 474, .inl rmo))]) rfl (by decide) rfl rfl hl.1 (Nat.le_of_ble_eq_true rfl) dX8_tries_67 ⟨Nat.zero_le _, Nat.zero_le _⟩ (fun H locs hP hD hS => ?_)
          obtain ⟨r19, v20, h18, hF⟩ := b2_s hF
          refine cl_vi (As := [.int p1, .int p2, .int r17]) (rest := []) (w' := (w_xtrial ky aX aB aP aT aR aK aH aG aS aw ao ax au ay am v14 v15 v20 bsz bgp ber bxs bus bys bme)) ⟨hx, hb, hml, hown, hts⟩ hK hP hD hS hA (c_X7_leftAtWorst l D ky aR aw ao _ N  v14 v15 rmo p1 p2 r17 r19 v20 h18) (cwV 3 hts gX8_tries_X7_leftAtWorst rfl rfl rfl (by decide +kernel) ⟨Nat.le_of_ble_eq_true rfl, Nat.le_of_ble_eq_true rfl⟩) [1, 2, 3] [0, 4, 5, 6, 7, 8] [0, 6, 7, 8, 1, 2, 3, 4, 5] 0 6 rfl rfl rfl rfl (wr := [(aX, .inr (7, [.ref aB, .ref aP, .ref aT, .ref aR, .ref aK, .ref aH, .ref aG, .ref aS])), (aB, .inr (0, [.ref ax, .ref au, .ref ay, .ref am, .int bsz, .int bgp, .int ber])), (ax, .inl (ky 0, 12, .inl bxs)), (au, .inl (ky 0, 12, .inl bus)), (ay, .inl (ky 0, 12, .inl bys)), (am, .inl (ky 0, 289, .inl bme))]) rfl (by decide) rfl rfl hl.1 (Nat.le_of_ble_eq_true rfl) dX8_tries_70 ⟨Nat.zero_le _, Nat.zero_le _⟩ (fun H locs hP hD hS => ?_)
          have hF := Option.some.inj hF
          subst hF
          exact hQ _ _ _ _ dX8_tries_73 hP hD hS
        · have hF := if_t c12 hF
          refine lv_bipush (v := (-4 : Int32)) hx hb dX8_tries_42 (by decide) ?_
          have hF := Option.some.inj hF
          subst hF
          exact hQ _ _ _ _ dX8_tries_44 hP hD hS
      · have hF := if_t c9 hF
        refine lv_iconst (v := (-1 : Int32)) hx hb dX8_tries_29 (by decide) ?_
        have hF := Option.some.inj hF
        subst hF
        exact hQ _ _ _ _ dX8_tries_30 hP hD hS
theorem c_X8_tries (l : Launch) (D : va_G) (ky : Nat → ClassId) (aX aB aP aT aR aK aH aG aS aw ao ax au ay am : Nat) (sz N : Nat)  (rlc : Int32) (rla : Nat → Int32) (rmo : Nat → Int32) (bsz : Int32) (bgp : Int32) (ber : Int32) (bxs : Nat → Int32) (bus : Nat → Int32) (bys : Nat → Int32) (bme : Nat → Int32) (p0 : Int32) (p1 : Int32) (p2 : Int32) (rv : Int32) (rlc' : Int32) (rla' : Nat → Int32) (rmo' : Nat → Int32) (hF : f_X8_tries N p0 p1 p2 rlc rla rmo bsz ber bme = some (rv, rlc', rla', rmo')) : MI l yX8_tries wsX8_tries rm_X8_tries D ky sz [.ref aX, .int p0, .int p1, .int p2] (w_xtrial ky aX aB aP aT aR aK aH aG aS aw ao ax au ay am rlc rla rmo bsz bgp ber bxs bus bys bme) (w_xtrial ky aX aB aP aT aR aK aH aG aS aw ao ax au ay am rlc' rla' rmo' bsz bgp ber bxs bus bys bme) rv :=
  cr_X8_tries l D ky aX aB aP aT aR aK aH aG aS aw ao ax au ay am sz N rlc rla rmo bsz bgp ber bxs bus bys bme p0 p1 p2 (rv, rlc', rla', rmo') hF
abbrev rm_X8_best : Room := { frames := 4, cells := 0, slots := 0, locals := 88 }
theorem iX8_best_X8 : ∀ w ∈ wsX80, w ∈ wsX8_best := by decide +kernel
theorem kX8_best_1 : (Cond.fieldLink RX8 10 "TwoLaws" "book" "LTwoLaws$Book;") ∈ wsX8_best := by decide +kernel
theorem kX8_best_2 : (Cond.constant RX8 107 (-1000001)) ∈ wsX8_best := by decide +kernel
theorem kX8_best_3 : (Cond.fieldLink RX8 33 "TwoLaws" "trial" "LTwoLaws$Trial;") ∈ wsX8_best := by decide +kernel
theorem kX8_best_4 : (Cond.constant RX8 117 (-1000004)) ∈ wsX8_best := by decide +kernel
set_option maxHeartbeats 4000000 in
set_option maxRecDepth 100000 in
theorem w_X8_best_59 {p : Program} {l : Launch} {e : Env} {s : State} {m : MethodId} {args : Array Value} {below : List Frame} {meth : Method} {c : Code} {Q : State → Prop} {A : Nat → Prop} {D : va_G} {ky : Nat → ClassId} {aX aB aP aT aR aK aH aG aS aw ao ax au ay am : Nat} {bsz : Int32} {bgp : Int32} {ber : Int32} {bxs : Nat → Int32} {bus : Nat → Int32} {bys : Nat → Int32} {bme : Nat → Int32} (N : Nat) (C : cx p s m c args D ky A cX8_best 7 wsX8_best RX8) (res : Int32 × Int32 × (Nat → Int32) × (Nat → Int32)) (hQ : ∀ (pc : Nat) (H : Heap) (locs : List Loc) (ls : Array Slot), decode cX8_best pc = .ok (.ireturn, 1) → va_P D vwCl (w_xtrial ky aX aB aP aT aR aK aH aG aS aw ao ax au ay am res.2.1 res.2.2.1 res.2.2.2 bsz bgp ber bxs bus bys bme) H → va_D A (w_xtrial ky aX aB aP aT aR aK aH aG aS aw ao ax au ay am res.2.1 res.2.2.1 res.2.2.2 bsz bgp ber bxs bus bys bme) → va_S A s.heap H locs → W p l e rm_X8_best s m args below meth c H locs 0 0 Q (F0 m pc ls [.int res.1])) (l2 : Int32) (rlc : Int32) (rla : Nat → Int32) : ∀ (n : Nat) (l3 : Int32) (l4 : Int32) (l5 : Int32) (rmo : Nat → Int32), f_X8_best_59 N l2 rlc rla ber n l3 l4 l5 rmo = some res → ∀ (H : Heap) (locs : List Loc) (ls : Array Slot), va_P D vwCl (w_xtrial ky aX aB aP aT aR aK aH aG aS aw ao ax au ay am rlc rla rmo bsz bgp ber bxs bus bys bme) H → va_D A (w_xtrial ky aX aB aP aT aR aK aH aG aS aw ao ax au ay am rlc rla rmo bsz bgp ber bxs bus bys bme) → va_S A s.heap H locs → lv_has ls 7 [(0, .ref aX), (2, .int l2), (3, .int l3), (4, .int l4), (5, .int l5)] → W p l e rm_X8_best s m args below meth c H locs 0 0 Q (F0 m 59 ls []) := by
  obtain ⟨hx, hb, hml, hown, hts, hK, hA⟩ := id C
  intro n
  induction n with
  | zero =>
    intro l3 l4 l5 rmo hF
    cases hF
  | succ n ih =>
    intro l3 l4 l5 rmo hF H locs ls hP hD hS hl
    have hF : b_X8_best_59 N l2 rlc rla ber (f_X8_best_59 N l2 rlc rla ber n) l3 l4 l5 rmo = some res := hF
    unfold b_X8_best_59 at hF
    refine lv_iload hx hb dX8_best_59 (lv_at hl 4 rfl) ?_
    refine lv_bipush (v := (18 : Int32)) hx hb dX8_best_61 (by decide) ?_
    refine lv_icmp_gt (tgt := 111) hx hb dX8_best_63 (by decide) (fun c13 => ?_) (fun c13 => ?_)
    · have hF := if_t c13 hF
      refine lv_iload_n hx hb dX8_best_111 rfl (lv_at hl 2 rfl) ?_
      have hF := Option.some.inj hF
      subst hF
      exact hQ _ H _ _ dX8_best_112 hP hD hS
    · have hF := if_f c13 hF
      refine lv_aload_n hx hb dX8_best_66 rfl (lv_at hl 0 rfl) ?_
      refine va_get (D := D) (ci := 7) (v := .ref aR) (C := RX8) (T := TX8) (N := 8) hx hb hts iX8_best_X8 hown hK hP 0 rfl rfl 3 (by decide) (hts _ kX8_best_3) (fun _ h9 => h9) rfl dX8_best_67 ?_
      refine lv_iload_n hx hb dX8_best_70 rfl (lv_at hl 1 rfl) ?_
      refine lv_iload hx hb dX8_best_71 (lv_at hl 4 rfl) ?_
      obtain ⟨r15, h14, hF⟩ := b1_s hF
      refine cl_si (As := [.int l5]) (rest := [.int l2, .ref aR]) ⟨hx, hb, hml, hown, hts⟩ hK hP hD hS hA (c_X8_pushInTurn l D ky  _ N   l5 r15 h14) (va_cwS 1 hts gX8_best_X8_pushInTurn rfl rfl rfl (by decide +kernel) ⟨Nat.le_of_ble_eq_true rfl, Nat.le_of_ble_eq_true rfl⟩) rfl hl.1 (Nat.le_of_ble_eq_true rfl) dX8_best_73 ⟨Nat.zero_le _, Nat.zero_le _⟩ (fun H locs hP hD hS => ?_)
      refine lv_aload_n hx hb dX8_best_76 rfl (lv_at hl 0 rfl) ?_
      refine va_get (D := D) (ci := 7) (v := .ref aB) (C := RX8) (T := TX8) (N := 8) hx hb hts iX8_best_X8 hown hK hP 0 rfl rfl 0 (by decide) (hts _ kX8_best_1) (fun _ h9 => h9) rfl dX8_best_77 ?_
      obtain ⟨r17, h16, hF⟩ := b1_s hF
      refine cl_vi (As := []) (rest := [.int r15, .int l2, .ref aR]) (w' := (w_xtrial ky aX aB aP aT aR aK aH aG aS aw ao ax au ay am rlc rla rmo bsz bgp ber bxs bus bys bme)) ⟨hx, hb, hml, hown, hts⟩ hK hP hD hS hA (c_X0_errorNow l D ky aB ax au ay am _ N  bsz bgp ber bxs bus bys bme  r17 h16) (cwV 0 hts gX8_best_X0_errorNow rfl rfl rfl (by decide +kernel) ⟨Nat.le_of_ble_eq_true rfl, Nat.le_of_ble_eq_true rfl⟩) [4, 5, 6, 7, 8] [0, 1, 2, 3] [0, 1, 2, 3, 4, 5, 6, 7, 8] 0 0 rfl rfl rfl rfl (wr := [(aX, .inr (7, [.ref aB, .ref aP, .ref aT, .ref aR, .ref aK, .ref aH, .ref aG, .ref aS])), (aR, .inr (6, [.ref aw, .int rlc, .ref ao])), (aw, .inl (ky 0, 289, .inl rla)), (ao, .inl (ky 0, 474, .inl rmo))]) rfl (by decide) rfl rfl hl.1 (Nat.le_of_ble_eq_true rfl) dX8_best_80 ⟨Nat.zero_le _, Nat.zero_le _⟩ (fun H locs hP hD hS => ?_)
      obtain ⟨r19, v20, h18, hF⟩ := b2_s hF
      refine cl_vi (As := [.int l2, .int r15, .int r17]) (rest := []) (w' := (w_xtrial ky aX aB aP aT aR aK aH aG aS aw ao ax au ay am rlc rla v20 bsz bgp ber bxs bus bys bme)) ⟨hx, hb, hml, hown, hts⟩ hK hP hD hS hA (c_X7_leftAtWorst l D ky aR aw ao _ N  rlc rla rmo l2 r15 r17 r19 v20 h18) (cwV 3 hts gX8_best_X7_leftAtWorst rfl rfl rfl (by decide +kernel) ⟨Nat.le_of_ble_eq_true rfl, Nat.le_of_ble_eq_true rfl⟩) [1, 2, 3] [0, 4, 5, 6, 7, 8] [0, 6, 7, 8, 1, 2, 3, 4, 5] 0 6 rfl rfl rfl rfl (wr := [(aX, .inr (7, [.ref aB, .ref aP, .ref aT, .ref aR, .ref aK, .ref aH, .ref aG, .ref aS])), (aB, .inr (0, [.ref ax, .ref au, .ref ay, .ref am, .int bsz, .int bgp, .int ber])), (ax, .inl (ky 0, 12, .inl bxs)), (au, .inl (ky 0, 12, .inl bus)), (ay, .inl (ky 0, 12, .inl bys)), (am, .inl (ky 0, 289, .inl bme))]) rfl (by decide) rfl rfl hl.1 (Nat.le_of_ble_eq_true rfl) dX8_best_83 ⟨Nat.zero_le _, Nat.zero_le _⟩ (fun H locs hP hD hS => ?_)
      refine lv_istore (lv' := [(6, .int r19), (0, .ref aX), (2, .int l2), (3, .int l3), (4, .int l4), (5, .int l5)]) hx hb dX8_best_86 hl (by decide) rfl (fun ls hl => ?_)
      refine lv_iload hx hb dX8_best_88 (lv_at hl 0 rfl) ?_
      refine lv_iload hx hb dX8_best_90 (lv_at hl 4 rfl) ?_
      refine lv_icmp_ge (tgt := 105) hx hb dX8_best_92 (by decide) (fun c21 => ?_) (fun c21 => ?_)
      · have hF := if_t c21 hF
        refine lv_iinc (v := (l5 + (1 : Int32))) (lv' := [(5, .int (l5 + (1 : Int32))), (6, .int r19), (0, .ref aX), (2, .int l2), (3, .int l3), (4, .int l4)]) hx hb dX8_best_105 hl (k := 5) rfl rfl (by decide) rfl (fun ls hl => ?_)
        refine lv_goto (tgt := 59) hx hb dX8_best_108 (by decide) ?_
        exact ih l3 l4 (l5 + (1 : Int32)) v20 hF H _ _ hP hD hS (lv_sub hl [2, 3, 4, 5, 0] rfl)
      · have hF := if_f c21 hF
        refine lv_iload hx hb dX8_best_95 (lv_at hl 0 rfl) ?_
        refine lv_istore (lv' := [(4, .int r19), (6, .int r19), (0, .ref aX), (2, .int l2), (3, .int l3), (5, .int l5)]) hx hb dX8_best_97 hl (by decide) rfl (fun ls hl => ?_)
        refine lv_iload hx hb dX8_best_99 (lv_at hl 5 rfl) ?_
        obtain ⟨r23, h22, hF⟩ := b1_s hF
        refine cl_si (As := [.int l5]) (rest := []) ⟨hx, hb, hml, hown, hts⟩ hK hP hD hS hA (c_X8_pushInTurn l D ky  _ N   l5 r23 h22) (va_cwS 1 hts gX8_best_X8_pushInTurn rfl rfl rfl (by decide +kernel) ⟨Nat.le_of_ble_eq_true rfl, Nat.le_of_ble_eq_true rfl⟩) rfl hl.1 (Nat.le_of_ble_eq_true rfl) dX8_best_101 ⟨Nat.zero_le _, Nat.zero_le _⟩ (fun H locs hP hD hS => ?_)
        refine lv_istore_n (lv' := [(3, .int r23), (4, .int r19), (6, .int r19), (0, .ref aX), (2, .int l2), (5, .int l5)]) hx hb dX8_best_104 rfl hl (by decide) rfl (fun ls hl => ?_)
        refine lv_iinc (v := (l5 + (1 : Int32))) (lv' := [(5, .int (l5 + (1 : Int32))), (3, .int r23), (4, .int r19), (6, .int r19), (0, .ref aX), (2, .int l2)]) hx hb dX8_best_105 hl (k := 5) rfl rfl (by decide) rfl (fun ls hl => ?_)
        refine lv_goto (tgt := 59) hx hb dX8_best_108 (by decide) ?_
        exact ih r23 r19 (l5 + (1 : Int32)) v20 hF H _ _ hP hD hS (lv_sub hl [4, 5, 1, 2, 0] rfl)
set_option maxHeartbeats 4000000 in
set_option maxRecDepth 100000 in
theorem cr_X8_best (l : Launch) (D : va_G) (ky : Nat → ClassId) (aX aB aP aT aR aK aH aG aS aw ao ax au ay am : Nat) (sz N : Nat)  (rlc : Int32) (rla : Nat → Int32) (rmo : Nat → Int32) (bsz : Int32) (bgp : Int32) (ber : Int32) (bxs : Nat → Int32) (bus : Nat → Int32) (bys : Nat → Int32) (bme : Nat → Int32) (p0 : Int32) (p1 : Int32) (res : Int32 × Int32 × (Nat → Int32) × (Nat → Int32)) (hF : f_X8_best N p0 p1 rlc rla rmo bsz ber bme = some res) : MI l yX8_best wsX8_best rm_X8_best D ky sz [.ref aX, .int p0, .int p1] (w_xtrial ky aX aB aP aT aR aK aH aG aS aw ao ax au ay am rlc rla rmo bsz bgp ber bxs bus bys bme) (w_xtrial ky aX aB aP aT aR aK aH aG aS aw ao ax au ay am res.2.1 res.2.2.1 res.2.2.2 bsz bgp ber bxs bus bys bme) res.1 := by
  unfold MI
  refine Met.ofW (cc := cX8_best) (maxL := 7) (ret := (some .int)) (by decide) rfl ?_
  intro p e s m args below meth c s₁ B hml hv
  obtain ⟨rfl, hsz, hP, hK, hD0⟩ := hv
  have hx := B.exec
  have hb := B.bytes
  have hr := B.returns
  have hts := atoms_spec (ws := wsX8_best) B.pre
  have hown : s.vm.findClass RX8 = some m.cls := findClass_of_methodNamed B.named
  have hlocks := B.notSynchronized
  subst hsz
  have hD := hD0.self (sz := s.heap.size)
  generalize hAe : va_A (w_xtrial ky aX aB aP aT aR aK aH aG aS aw ao ax au ay am rlc rla rmo bsz bgp ber bxs bus bys bme) s.heap.size = A at hD ⊢
  have hA : ∀ q : Nat, s.heap.size ≤ q → A q := fun q h => by rw [← hAe]; exact Or.inr h
  have hS : va_S A s.heap s.heap [] := va_S.rf
  have hP : va_P D vwCl (w_xtrial ky aX aB aP aT aR aK aH aG aS aw ao ax au ay am rlc rla rmo bsz bgp ber bxs bus bys bme) s.heap := hP
  have hl := lv_entry ([.ref aX, .int p0, .int p1]) (n := 7) (Nat.le_of_ble_eq_true rfl)
  rw [lg_entry_eq]
  generalize (lg_sl ([.ref aX, .int p0, .int p1]) ++ List.replicate (7 - (lg_sl ([.ref aX, .int p0, .int p1])).length) Slot.unset).toArray = ls at hl ⊢
  have hl : lv_has ls 7 [(0, .ref aX), (1, .int p0), (2, .int p1)] := hl
  have C : cx p s m c ([.ref aX, .int p0, .int p1]).toArray D ky A cX8_best 7 wsX8_best RX8 := ⟨hx, hb, hml, hown, hts, hK, hA⟩
  have hQ : ∀ (pc : Nat) (H : Heap) (locs : List Loc) (ls : Array Slot), decode cX8_best pc = .ok (.ireturn, 1) → va_P D vwCl (w_xtrial ky aX aB aP aT aR aK aH aG aS aw ao ax au ay am res.2.1 res.2.2.1 res.2.2.2 bsz bgp ber bxs bus bys bme) H → va_D A (w_xtrial ky aX aB aP aT aR aK aH aG aS aw ao ax au ay am res.2.1 res.2.2.1 res.2.2.2 bsz bgp ber bxs bus bys bme) → va_S A s.heap H locs → W p l e rm_X8_best s m ([.ref aX, .int p0, .int p1]).toArray below meth c H locs 0 0 (MQ below (va_Qi (S := Unit) (fun r _ => r = res.1) (fun _ t => va_P D vwCl (w_xtrial ky aX aB aP aT aR aK aH aG aS aw ao ax au ay am res.2.1 res.2.2.1 res.2.2.2 bsz bgp ber bxs bus bys bme) t.heap ∧ va_K D vwCl (tyW ky) t ∧ va_D A (w_xtrial ky aX aB aP aT aR aK aH aG aS aw ao ax au ay am res.2.1 res.2.2.1 res.2.2.2 bsz bgp ber bxs bus bys bme)) A) ([.ref aX, .int p0, .int p1]).toArray s 0 0 A) (F0 m pc ls [.int res.1]) := fun pc H locs ls hd hP hD hS => W.iret hx hb hr (fun t ht hW => ⟨⟨res.1, (), rfl, rfl, by rw [ht]; exact hP, va_K.moved hW.alike hK, hD⟩, hS.F ht⟩) hS.2.2 hd
  unfold f_X8_best at hF
  refine lv_aload_n hx hb dX8_best_0 rfl (lv_at hl 0 rfl) ?_
  refine va_get (D := D) (ci := 7) (v := .ref aB) (C := RX8) (T := TX8) (N := 8) hx hb hts iX8_best_X8 hown hK hP 0 rfl rfl 0 (by decide) (hts _ kX8_best_1) (fun _ h9 => h9) rfl dX8_best_1 ?_
  refine lv_iload_n hx hb dX8_best_4 rfl (lv_at hl 1 rfl) ?_
  obtain ⟨r2, h1, hF⟩ := b1_s hF
  refine cl_vi (As := [.int p0]) (rest := []) (w' := (w_xtrial ky aX aB aP aT aR aK aH aG aS aw ao ax au ay am rlc rla rmo bsz bgp ber bxs bus bys bme)) ⟨hx, hb, hml, hown, hts⟩ hK hP hD hS hA (c_X0_isHeap l D ky aB ax au ay am _ N  bsz bgp ber bxs bus bys bme p0 r2 h1) (cwV 1 hts gX8_best_X0_isHeap rfl rfl rfl (by decide +kernel) ⟨Nat.le_of_ble_eq_true rfl, Nat.le_of_ble_eq_true rfl⟩) [4, 5, 6, 7, 8] [0, 1, 2, 3] [0, 1, 2, 3, 4, 5, 6, 7, 8] 0 0 rfl rfl rfl rfl (wr := [(aX, .inr (7, [.ref aB, .ref aP, .ref aT, .ref aR, .ref aK, .ref aH, .ref aG, .ref aS])), (aR, .inr (6, [.ref aw, .int rlc, .ref ao])), (aw, .inl (ky 0, 289, .inl rla)), (ao, .inl (ky 0, 474, .inl rmo))]) rfl (by decide) rfl rfl hl.1 (Nat.le_of_ble_eq_true rfl) dX8_best_5 ⟨Nat.zero_le _, Nat.zero_le _⟩ (fun H locs hP hD hS => ?_)
  refine lv_if_eq (tgt := 20) hx hb dX8_best_8 (by decide) (fun c3 => ?_) (fun c3 => ?_)
  · have hF := if_t c3 hF
    refine lv_ldc hx hb hown (hts _ kX8_best_2) dX8_best_20 ?_
    have hF := Option.some.inj hF
    subst hF
    exact hQ _ _ _ _ dX8_best_22 hP hD hS
  · have hF := if_f c3 hF
    refine lv_iload_n hx hb dX8_best_11 rfl (lv_at hl 2 rfl) ?_
    refine lv_bipush (v := (99 : Int32)) hx hb dX8_best_12 (by decide) ?_
    obtain ⟨r5, h4, hF⟩ := b1_s hF
    refine cl_si (As := [.int p1, .int (99 : Int32)]) (rest := []) ⟨hx, hb, hml, hown, hts⟩ hK hP hD hS hA (c_X8_isNear l D ky  _ N   p1 (99 : Int32) r5 h4) (va_cwS 2 hts gX8_best_X8_isNear rfl rfl rfl (by decide +kernel) ⟨Nat.le_of_ble_eq_true rfl, Nat.le_of_ble_eq_true rfl⟩) rfl hl.1 (Nat.le_of_ble_eq_true rfl) dX8_best_14 ⟨Nat.zero_le _, Nat.zero_le _⟩ (fun H locs hP hD hS => ?_)
    refine lv_if_ne (tgt := 23) hx hb dX8_best_17 (by decide) (fun c6 => ?_) (fun c6 => ?_)
    · have hF := if_f c6 hF
      refine lv_aload_n hx hb dX8_best_23 rfl (lv_at hl 0 rfl) ?_
      refine va_get (D := D) (ci := 7) (v := .ref aB) (C := RX8) (T := TX8) (N := 8) hx hb hts iX8_best_X8 hown hK hP 0 rfl rfl 0 (by decide) (hts _ kX8_best_1) (fun _ h9 => h9) rfl dX8_best_24 ?_
      refine lv_iload_n hx hb dX8_best_27 rfl (lv_at hl 1 rfl) ?_
      obtain ⟨r8, h7, hF⟩ := b1_s hF
      refine cl_vi (As := [.int p0]) (rest := []) (w' := (w_xtrial ky aX aB aP aT aR aK aH aG aS aw ao ax au ay am rlc rla rmo bsz bgp ber bxs bus bys bme)) ⟨hx, hb, hml, hown, hts⟩ hK hP hD hS hA (c_X0_isWhole l D ky aB ax au ay am _ N  bsz bgp ber bxs bus bys bme p0 r8 h7) (cwV 1 hts gX8_best_X0_isWhole rfl rfl rfl (by decide +kernel) ⟨Nat.le_of_ble_eq_true rfl, Nat.le_of_ble_eq_true rfl⟩) [4, 5, 6, 7, 8] [0, 1, 2, 3] [0, 1, 2, 3, 4, 5, 6, 7, 8] 0 0 rfl rfl rfl rfl (wr := [(aX, .inr (7, [.ref aB, .ref aP, .ref aT, .ref aR, .ref aK, .ref aH, .ref aG, .ref aS])), (aR, .inr (6, [.ref aw, .int rlc, .ref ao])), (aw, .inl (ky 0, 289, .inl rla)), (ao, .inl (ky 0, 474, .inl rmo))]) rfl (by decide) rfl rfl hl.1 (Nat.le_of_ble_eq_true rfl) dX8_best_28 ⟨Nat.zero_le _, Nat.zero_le _⟩ (fun H locs hP hD hS => ?_)
      refine lv_if_ne (tgt := 37) hx hb dX8_best_31 (by decide) (fun c9 => ?_) (fun c9 => ?_)
      · have hF := if_f c9 hF
        refine lv_aload_n hx hb dX8_best_37 rfl (lv_at hl 0 rfl) ?_
        refine va_get (D := D) (ci := 7) (v := .ref aR) (C := RX8) (T := TX8) (N := 8) hx hb hts iX8_best_X8 hown hK hP 0 rfl rfl 3 (by decide) (hts _ kX8_best_3) (fun _ h9 => h9) rfl dX8_best_38 ?_
        refine lv_aload_n hx hb dX8_best_41 rfl (lv_at hl 0 rfl) ?_
        refine va_get (D := D) (ci := 7) (v := .ref aB) (C := RX8) (T := TX8) (N := 8) hx hb hts iX8_best_X8 hown hK hP 0 rfl rfl 0 (by decide) (hts _ kX8_best_1) (fun _ h9 => h9) rfl dX8_best_42 ?_
        refine lv_iload_n hx hb dX8_best_45 rfl (lv_at hl 1 rfl) ?_
        obtain ⟨v11, v12, h10, hF⟩ := b2_s hF
        refine cl_vv (As := [.ref aB, .int p0]) (rest := []) (w' := (w_xtrial ky aX aB aP aT aR aK aH aG aS aw ao ax au ay am v11 v12 rmo bsz bgp ber bxs bus bys bme)) ⟨hx, hb, hml, hown, hts⟩ hK hP hD hS hA (c_X7_gather l D ky aR aw ao aB ax au ay am _ N  rlc rla rmo bsz bgp ber bxs bus bys bme p0 v11 v12 h10) (cwV 2 hts gX8_best_X7_gather rfl rfl rfl (by decide +kernel) ⟨Nat.le_of_ble_eq_true rfl, Nat.le_of_ble_eq_true rfl⟩) [1, 2, 3, 4, 5, 6, 7, 8] [0] [0, 1, 2, 3, 4, 5, 6, 7, 8] 0 6 rfl rfl rfl rfl (wr := [(aX, .inr (7, [.ref aB, .ref aP, .ref aT, .ref aR, .ref aK, .ref aH, .ref aG, .ref aS]))]) rfl (by decide) rfl rfl hl.1 (Nat.le_of_ble_eq_true rfl) dX8_best_46 ⟨Nat.zero_le _, Nat.zero_le _⟩ (fun H locs hP hD hS => ?_)
        refine lv_iconst (v := (0 : Int32)) hx hb dX8_best_49 (by decide) ?_
        refine lv_istore_n (lv' := [(3, .int (0 : Int32)), (0, .ref aX), (1, .int p0), (2, .int p1)]) hx hb dX8_best_50 rfl hl (by decide) rfl (fun ls hl => ?_)
        refine lv_sipush (v := (290 : Int32)) hx hb dX8_best_51 (by decide) ?_
        refine lv_istore (lv' := [(4, .int (290 : Int32)), (3, .int (0 : Int32)), (0, .ref aX), (1, .int p0), (2, .int p1)]) hx hb dX8_best_54 hl (by decide) rfl (fun ls hl => ?_)
        refine lv_iconst (v := (0 : Int32)) hx hb dX8_best_56 (by decide) ?_
        refine lv_istore (lv' := [(5, .int (0 : Int32)), (4, .int (290 : Int32)), (3, .int (0 : Int32)), (0, .ref aX), (1, .int p0), (2, .int p1)]) hx hb dX8_best_57 hl (by decide) rfl (fun ls hl => ?_)
        exact w_X8_best_59 N C res hQ p1 v11 v12 N (0 : Int32) (290 : Int32) (0 : Int32) rmo hF _ _ _ hP hD hS (lv_sub hl [3, 5, 2, 1, 0] rfl)
      · have hF := if_t c9 hF
        refine lv_ldc hx hb hown (hts _ kX8_best_4) dX8_best_34 ?_
        have hF := Option.some.inj hF
        subst hF
        exact hQ _ _ _ _ dX8_best_36 hP hD hS
    · have hF := if_t c6 hF
      refine lv_ldc hx hb hown (hts _ kX8_best_2) dX8_best_20 ?_
      have hF := Option.some.inj hF
      subst hF
      exact hQ _ _ _ _ dX8_best_22 hP hD hS
theorem c_X8_best (l : Launch) (D : va_G) (ky : Nat → ClassId) (aX aB aP aT aR aK aH aG aS aw ao ax au ay am : Nat) (sz N : Nat)  (rlc : Int32) (rla : Nat → Int32) (rmo : Nat → Int32) (bsz : Int32) (bgp : Int32) (ber : Int32) (bxs : Nat → Int32) (bus : Nat → Int32) (bys : Nat → Int32) (bme : Nat → Int32) (p0 : Int32) (p1 : Int32) (rv : Int32) (rlc' : Int32) (rla' : Nat → Int32) (rmo' : Nat → Int32) (hF : f_X8_best N p0 p1 rlc rla rmo bsz ber bme = some (rv, rlc', rla', rmo')) : MI l yX8_best wsX8_best rm_X8_best D ky sz [.ref aX, .int p0, .int p1] (w_xtrial ky aX aB aP aT aR aK aH aG aS aw ao ax au ay am rlc rla rmo bsz bgp ber bxs bus bys bme) (w_xtrial ky aX aB aP aT aR aK aH aG aS aw ao ax au ay am rlc' rla' rmo' bsz bgp ber bxs bus bys bme) rv :=
  cr_X8_best l D ky aX aB aP aT aR aK aH aG aS aw ao ax au ay am sz N rlc rla rmo bsz bgp ber bxs bus bys bme p0 p1 (rv, rlc', rla', rmo') hF
abbrev rm_X8_apart : Room := { frames := 2, cells := 0, slots := 0, locals := 43 }
theorem kX8_apart_0 : (Cond.constant RX8 107 (-1000001)) ∈ wsX8_apart := by decide +kernel
theorem kX8_apart_1 : (Cond.constant RX8 117 (-1000004)) ∈ wsX8_apart := by decide +kernel
theorem iX8_apart_X8 : ∀ w ∈ wsX80, w ∈ wsX8_apart := by decide +kernel
theorem kX8_apart_3 : (Cond.fieldLink RX8 10 "TwoLaws" "book" "LTwoLaws$Book;") ∈ wsX8_apart := by decide +kernel
theorem kX8_apart_4 : (Cond.methodLink RX8 191 Lib.Math.max.name) ∈ wsX8_apart := by decide +kernel
theorem kX8_apart_5 : (Cond.static Lib.Math.max.name) ∈ wsX8_apart := by decide +kernel
theorem kX8_apart_6 : (Cond.initialized "java/lang/Math") ∈ wsX8_apart := by decide +kernel
theorem kX8_apart_7 : (Cond.code Lib.Math.max.name Lib.Math.max.code 2 (some .int)) ∈ wsX8_apart := by decide +kernel
theorem kX8_apart_8 : (Cond.methodLink RX8 230 Lib.Math.min.name) ∈ wsX8_apart := by decide +kernel
theorem kX8_apart_9 : (Cond.static Lib.Math.min.name) ∈ wsX8_apart := by decide +kernel
theorem kX8_apart_10 : (Cond.code Lib.Math.min.name Lib.Math.min.code 2 (some .int)) ∈ wsX8_apart := by decide +kernel
set_option maxHeartbeats 4000000 in
set_option maxRecDepth 100000 in
theorem w_X8_apart_29 {p : Program} {l : Launch} {e : Env} {s : State} {m : MethodId} {args : Array Value} {below : List Frame} {meth : Method} {c : Code} {Q : State → Prop} {A : Nat → Prop} {D : va_G} {ky : Nat → ClassId} {aX aB aP aT aR aK aH aG aS ax au ay am : Nat} {bsz : Int32} {bgp : Int32} {ber : Int32} {bxs : Nat → Int32} {bus : Nat → Int32} {bys : Nat → Int32} {bme : Nat → Int32} (N : Nat) (C : cx p s m c args D ky A cX8_apart 9 wsX8_apart RX8) (res : Int32) (hQ : ∀ (pc : Nat) (H : Heap) (locs : List Loc) (ls : Array Slot), decode cX8_apart pc = .ok (.ireturn, 1) → va_P D vwCl (w_xbook ky aX aB aP aT aR aK aH aG aS ax au ay am bsz bgp ber bxs bus bys bme) H → va_D A (w_xbook ky aX aB aP aT aR aK aH aG aS ax au ay am bsz bgp ber bxs bus bys bme) → va_S A s.heap H locs → W p l e rm_X8_apart s m args below meth c H locs 0 0 Q (F0 m pc ls [.int res])) (l1 : Int32) (l2 : Int32) (l3 : Int32) : ∀ (n : Nat) (l4 : Int32), f_X8_apart_29 N l1 l2 l3 ber n l4 = some res → ∀ (H : Heap) (locs : List Loc) (ls : Array Slot), va_P D vwCl (w_xbook ky aX aB aP aT aR aK aH aG aS ax au ay am bsz bgp ber bxs bus bys bme) H → va_D A (w_xbook ky aX aB aP aT aR aK aH aG aS ax au ay am bsz bgp ber bxs bus bys bme) → va_S A s.heap H locs → lv_has ls 9 [(0, .ref aX), (1, .int l1), (2, .int l2), (3, .int l3), (4, .int l4)] → W p l e rm_X8_apart s m args below meth c H locs 0 0 Q (F0 m 29 ls []) := by
  obtain ⟨hx, hb, hml, hown, hts, hK, hA⟩ := id C
  intro n
  induction n with
  | zero =>
    intro l4 hF
    cases hF
  | succ n ih =>
    intro l4 hF H locs ls hP hD hS hl
    have hF : b_X8_apart_29 N l1 l2 l3 ber (f_X8_apart_29 N l1 l2 l3 ber n) l4 = some res := hF
    unfold b_X8_apart_29 at hF
    refine lv_iload hx hb dX8_apart_29 (lv_at hl 4 rfl) ?_
    refine lv_bipush (v := (18 : Int32)) hx hb dX8_apart_31 (by decide) ?_
    refine lv_icmp_gt (tgt := 106) hx hb dX8_apart_33 (by decide) (fun c10 => ?_) (fun c10 => ?_)
    · have hF := if_t c10 hF
      refine lv_ldc hx hb hown (hts _ kX8_apart_1) dX8_apart_106 ?_
      have hF := Option.some.inj hF
      subst hF
      exact hQ _ H _ _ dX8_apart_108 hP hD hS
    · have hF := if_f c10 hF
      refine lv_iload hx hb dX8_apart_36 (lv_at hl 4 rfl) ?_
      obtain ⟨r12, h11, hF⟩ := b1_s hF
      refine cl_si (As := [.int l4]) (rest := []) ⟨hx, hb, hml, hown, hts⟩ hK hP hD hS hA (c_X8_pushInTurn l D ky  _ N   l4 r12 h11) (va_cwS 1 hts gX8_apart_X8_pushInTurn rfl rfl rfl (by decide +kernel) ⟨Nat.le_of_ble_eq_true rfl, Nat.le_of_ble_eq_true rfl⟩) rfl hl.1 (Nat.le_of_ble_eq_true rfl) dX8_apart_38 ⟨Nat.zero_le _, Nat.zero_le _⟩ (fun H locs hP hD hS => ?_)
      refine lv_istore (lv' := [(5, .int r12), (0, .ref aX), (1, .int l1), (2, .int l2), (3, .int l3), (4, .int l4)]) hx hb dX8_apart_41 hl (by decide) rfl (fun ls hl => ?_)
      refine lv_iload_n hx hb dX8_apart_43 rfl (lv_at hl 2 rfl) ?_
      refine lv_iload_n hx hb dX8_apart_44 rfl (lv_at hl 4 rfl) ?_
      refine lv_iload hx hb dX8_apart_45 (lv_at hl 0 rfl) ?_
      obtain ⟨r14, h13, hF⟩ := b1_s hF
      refine cl_si (As := [.int l1, .int l3, .int r12]) (rest := []) ⟨hx, hb, hml, hown, hts⟩ hK hP hD hS hA (c_X3_sum l D ky  _ N   l1 l3 r12 r14 h13) (va_cwS 3 hts gX8_apart_X3_sum rfl rfl rfl (by decide +kernel) ⟨Nat.le_of_ble_eq_true rfl, Nat.le_of_ble_eq_true rfl⟩) rfl hl.1 (Nat.le_of_ble_eq_true rfl) dX8_apart_47 ⟨Nat.zero_le _, Nat.zero_le _⟩ (fun H locs hP hD hS => ?_)
      refine lv_istore (lv' := [(6, .int r14), (5, .int r12), (0, .ref aX), (1, .int l1), (2, .int l2), (3, .int l3), (4, .int l4)]) hx hb dX8_apart_50 hl (by decide) rfl (fun ls hl => ?_)
      refine lv_iload_n hx hb dX8_apart_52 rfl (lv_at hl 4 rfl) ?_
      refine lv_iload_n hx hb dX8_apart_53 rfl (lv_at hl 5 rfl) ?_
      refine lv_iload hx hb dX8_apart_54 (lv_at hl 1 rfl) ?_
      obtain ⟨r16, h15, hF⟩ := b1_s hF
      refine cl_si (As := [.int l2, .int l3, .int r12]) (rest := []) ⟨hx, hb, hml, hown, hts⟩ hK hP hD hS hA (c_X3_sum l D ky  _ N   l2 l3 r12 r16 h15) (va_cwS 3 hts gX8_apart_X3_sum rfl rfl rfl (by decide +kernel) ⟨Nat.le_of_ble_eq_true rfl, Nat.le_of_ble_eq_true rfl⟩) rfl hl.1 (Nat.le_of_ble_eq_true rfl) dX8_apart_56 ⟨Nat.zero_le _, Nat.zero_le _⟩ (fun H locs hP hD hS => ?_)
      refine lv_istore (lv' := [(7, .int r16), (6, .int r14), (5, .int r12), (0, .ref aX), (1, .int l1), (2, .int l2), (3, .int l3), (4, .int l4)]) hx hb dX8_apart_59 hl (by decide) rfl (fun ls hl => ?_)
      refine lv_aload_n hx hb dX8_apart_61 rfl (lv_at hl 3 rfl) ?_
      refine va_get (D := D) (ci := 7) (v := .ref aB) (C := RX8) (T := TX8) (N := 8) hx hb hts iX8_apart_X8 hown hK hP 0 rfl rfl 0 (by decide) (hts _ kX8_apart_3) (fun _ h9 => h9) rfl dX8_apart_62 ?_
      obtain ⟨r18, h17, hF⟩ := b1_s hF
      refine cl_vi (As := []) (rest := []) (w' := (w_xbook ky aX aB aP aT aR aK aH aG aS ax au ay am bsz bgp ber bxs bus bys bme)) ⟨hx, hb, hml, hown, hts⟩ hK hP hD hS hA (c_X0_errorNow l D ky aB ax au ay am _ N  bsz bgp ber bxs bus bys bme  r18 h17) (cwV 0 hts gX8_apart_X0_errorNow rfl rfl rfl (by decide +kernel) ⟨Nat.le_of_ble_eq_true rfl, Nat.le_of_ble_eq_true rfl⟩) [1, 2, 3, 4, 5] [0] [0, 1, 2, 3, 4, 5] 0 0 rfl rfl rfl rfl (wr := [(aX, .inr (7, [.ref aB, .ref aP, .ref aT, .ref aR, .ref aK, .ref aH, .ref aG, .ref aS]))]) rfl (by decide) rfl rfl hl.1 (Nat.le_of_ble_eq_true rfl) dX8_apart_65 ⟨Nat.zero_le _, Nat.zero_le _⟩ (fun H locs hP hD hS => ?_)
      refine lv_istore (lv' := [(8, .int r18), (7, .int r16), (6, .int r14), (5, .int r12), (0, .ref aX), (1, .int l1), (2, .int l2), (3, .int l3), (4, .int l4)]) hx hb dX8_apart_68 hl (by decide) rfl (fun ls hl => ?_)
      refine lv_iload hx hb dX8_apart_70 (lv_at hl 2 rfl) ?_
      refine lv_iload hx hb dX8_apart_72 (lv_at hl 1 rfl) ?_
      refine va_mmax hx hb (hml.trans hl.1.symm) hown (hts _ kX8_apart_4) (hts _ kX8_apart_5) (hts _ kX8_apart_6) (hts _ kX8_apart_7) (Nat.le_of_ble_eq_true rfl) (Nat.le_of_ble_eq_true rfl) (Nat.zero_le _) (Nat.zero_le _) dX8_apart_74 ?_
      refine lv_iload hx hb dX8_apart_77 (lv_at hl 0 rfl) ?_
      obtain ⟨r20, h19, hF⟩ := b1_s hF
      refine cl_si (As := [.int (if r14 < r16 then r16 else r14), .int r18]) (rest := []) ⟨hx, hb, hml, hown, hts⟩ hK hP hD hS hA (c_X3_leastEnd l D ky  _ N   (if r14 < r16 then r16 else r14) r18 r20 h19) (va_cwS 2 hts gX8_apart_X3_leastEnd rfl rfl rfl (by decide +kernel) ⟨Nat.le_of_ble_eq_true rfl, Nat.le_of_ble_eq_true rfl⟩) rfl hl.1 (Nat.le_of_ble_eq_true rfl) dX8_apart_79 ⟨Nat.zero_le _, Nat.zero_le _⟩ (fun H locs hP hD hS => ?_)
      refine lv_iload hx hb dX8_apart_82 (lv_at hl 2 rfl) ?_
      refine lv_iload hx hb dX8_apart_84 (lv_at hl 1 rfl) ?_
      refine va_mmin hx hb (hml.trans hl.1.symm) hown (hts _ kX8_apart_8) (hts _ kX8_apart_9) (hts _ kX8_apart_6) (hts _ kX8_apart_10) (Nat.le_of_ble_eq_true rfl) (Nat.le_of_ble_eq_true rfl) (Nat.zero_le _) (Nat.zero_le _) dX8_apart_86 ?_
      refine lv_iload hx hb dX8_apart_89 (lv_at hl 0 rfl) ?_
      obtain ⟨r22, h21, hF⟩ := b1_s hF
      refine cl_si (As := [.int (if r16 < r14 then r16 else r14), .int r18]) (rest := [.int r20]) ⟨hx, hb, hml, hown, hts⟩ hK hP hD hS hA (c_X3_greatestEnd l D ky  _ N   (if r16 < r14 then r16 else r14) r18 r22 h21) (va_cwS 2 hts gX8_apart_X3_greatestEnd rfl rfl rfl (by decide +kernel) ⟨Nat.le_of_ble_eq_true rfl, Nat.le_of_ble_eq_true rfl⟩) rfl hl.1 (Nat.le_of_ble_eq_true rfl) dX8_apart_91 ⟨Nat.zero_le _, Nat.zero_le _⟩ (fun H locs hP hD hS => ?_)
      refine lv_icmp_le (tgt := 100) hx hb dX8_apart_94 (by decide) (fun c23 => ?_) (fun c23 => ?_)
      · have hF := if_t c23 hF
        refine lv_iinc (v := (l4 + (1 : Int32))) (lv' := [(4, .int (l4 + (1 : Int32))), (8, .int r18), (7, .int r16), (6, .int r14), (5, .int r12), (0, .ref aX), (1, .int l1), (2, .int l2), (3, .int l3)]) hx hb dX8_apart_100 hl (k := 8) rfl rfl (by decide) rfl (fun ls hl => ?_)
        refine lv_goto (tgt := 29) hx hb dX8_apart_103 (by decide) ?_
        exact ih (l4 + (1 : Int32)) hF H _ _ hP hD hS (lv_sub hl [5, 6, 7, 8, 0] rfl)
      · have hF := if_f c23 hF
        refine lv_iload hx hb dX8_apart_97 (lv_at hl 3 rfl) ?_
        have hF := Option.some.inj hF
        subst hF
        exact hQ _ H _ _ dX8_apart_99 hP hD hS
set_option maxHeartbeats 4000000 in
set_option maxRecDepth 100000 in
theorem cr_X8_apart (l : Launch) (D : va_G) (ky : Nat → ClassId) (aX aB aP aT aR aK aH aG aS ax au ay am : Nat) (sz N : Nat)  (bsz : Int32) (bgp : Int32) (ber : Int32) (bxs : Nat → Int32) (bus : Nat → Int32) (bys : Nat → Int32) (bme : Nat → Int32) (p0 : Int32) (p1 : Int32) (p2 : Int32) (res : Int32) (hF : f_X8_apart N p0 p1 p2 ber = some res) : MI l yX8_apart wsX8_apart rm_X8_apart D ky sz [.ref aX, .int p0, .int p1, .int p2] (w_xbook ky aX aB aP aT aR aK aH aG aS ax au ay am bsz bgp ber bxs bus bys bme) (w_xbook ky aX aB aP aT aR aK aH aG aS ax au ay am bsz bgp ber bxs bus bys bme) res := by
  unfold MI
  refine Met.ofW (cc := cX8_apart) (maxL := 9) (ret := (some .int)) (by decide) rfl ?_
  intro p e s m args below meth c s₁ B hml hv
  obtain ⟨rfl, hsz, hP, hK, hD0⟩ := hv
  have hx := B.exec
  have hb := B.bytes
  have hr := B.returns
  have hts := atoms_spec (ws := wsX8_apart) B.pre
  have hown : s.vm.findClass RX8 = some m.cls := findClass_of_methodNamed B.named
  have hlocks := B.notSynchronized
  subst hsz
  have hD := hD0.self (sz := s.heap.size)
  generalize hAe : va_A (w_xbook ky aX aB aP aT aR aK aH aG aS ax au ay am bsz bgp ber bxs bus bys bme) s.heap.size = A at hD ⊢
  have hA : ∀ q : Nat, s.heap.size ≤ q → A q := fun q h => by rw [← hAe]; exact Or.inr h
  have hS : va_S A s.heap s.heap [] := va_S.rf
  have hP : va_P D vwCl (w_xbook ky aX aB aP aT aR aK aH aG aS ax au ay am bsz bgp ber bxs bus bys bme) s.heap := hP
  have hl := lv_entry ([.ref aX, .int p0, .int p1, .int p2]) (n := 9) (Nat.le_of_ble_eq_true rfl)
  rw [lg_entry_eq]
  generalize (lg_sl ([.ref aX, .int p0, .int p1, .int p2]) ++ List.replicate (9 - (lg_sl ([.ref aX, .int p0, .int p1, .int p2])).length) Slot.unset).toArray = ls at hl ⊢
  have hl : lv_has ls 9 [(0, .ref aX), (1, .int p0), (2, .int p1), (3, .int p2)] := hl
  have C : cx p s m c ([.ref aX, .int p0, .int p1, .int p2]).toArray D ky A cX8_apart 9 wsX8_apart RX8 := ⟨hx, hb, hml, hown, hts, hK, hA⟩
  have hQ : ∀ (pc : Nat) (H : Heap) (locs : List Loc) (ls : Array Slot), decode cX8_apart pc = .ok (.ireturn, 1) → va_P D vwCl (w_xbook ky aX aB aP aT aR aK aH aG aS ax au ay am bsz bgp ber bxs bus bys bme) H → va_D A (w_xbook ky aX aB aP aT aR aK aH aG aS ax au ay am bsz bgp ber bxs bus bys bme) → va_S A s.heap H locs → W p l e rm_X8_apart s m ([.ref aX, .int p0, .int p1, .int p2]).toArray below meth c H locs 0 0 (MQ below (va_Qi (S := Unit) (fun r _ => r = res) (fun _ t => va_P D vwCl (w_xbook ky aX aB aP aT aR aK aH aG aS ax au ay am bsz bgp ber bxs bus bys bme) t.heap ∧ va_K D vwCl (tyW ky) t ∧ va_D A (w_xbook ky aX aB aP aT aR aK aH aG aS ax au ay am bsz bgp ber bxs bus bys bme)) A) ([.ref aX, .int p0, .int p1, .int p2]).toArray s 0 0 A) (F0 m pc ls [.int res]) := fun pc H locs ls hd hP hD hS => W.iret hx hb hr (fun t ht hW => ⟨⟨res, (), rfl, rfl, by rw [ht]; exact hP, va_K.moved hW.alike hK, hD⟩, hS.F ht⟩) hS.2.2 hd
  unfold f_X8_apart at hF
  refine lv_iload_n hx hb dX8_apart_0 rfl (lv_at hl 1 rfl) ?_
  obtain ⟨r2, h1, hF⟩ := b1_s hF
  refine cl_si (As := [.int p0]) (rest := []) ⟨hx, hb, hml, hown, hts⟩ hK hP hD hS hA (c_X3_is l D ky  _ N   p0 r2 h1) (va_cwS 1 hts gX8_apart_X3_is rfl rfl rfl (by decide +kernel) ⟨Nat.le_of_ble_eq_true rfl, Nat.le_of_ble_eq_true rfl⟩) rfl hl.1 (Nat.le_of_ble_eq_true rfl) dX8_apart_1 ⟨Nat.zero_le _, Nat.zero_le _⟩ (fun H locs hP hD hS => ?_)
  refine lv_if_eq (tgt := 23) hx hb dX8_apart_4 (by decide) (fun c3 => ?_) (fun c3 => ?_)
  · have hF := if_t c3 hF
    refine lv_ldc hx hb hown (hts _ kX8_apart_0) dX8_apart_23 ?_
    have hF := Option.some.inj hF
    subst hF
    exact hQ _ _ _ _ dX8_apart_25 hP hD hS
  · have hF := if_f c3 hF
    refine lv_iload_n hx hb dX8_apart_7 rfl (lv_at hl 2 rfl) ?_
    obtain ⟨r5, h4, hF⟩ := b1_s hF
    refine cl_si (As := [.int p1]) (rest := []) ⟨hx, hb, hml, hown, hts⟩ hK hP hD hS hA (c_X3_is l D ky  _ N   p1 r5 h4) (va_cwS 1 hts gX8_apart_X3_is rfl rfl rfl (by decide +kernel) ⟨Nat.le_of_ble_eq_true rfl, Nat.le_of_ble_eq_true rfl⟩) rfl hl.1 (Nat.le_of_ble_eq_true rfl) dX8_apart_8 ⟨Nat.zero_le _, Nat.zero_le _⟩ (fun H locs hP hD hS => ?_)
    refine lv_if_eq (tgt := 23) hx hb dX8_apart_11 (by decide) (fun c6 => ?_) (fun c6 => ?_)
    · have hF := if_t c6 hF
      refine lv_ldc hx hb hown (hts _ kX8_apart_0) dX8_apart_23 ?_
      have hF := Option.some.inj hF
      subst hF
      exact hQ _ _ _ _ dX8_apart_25 hP hD hS
    · have hF := if_f c6 hF
      refine lv_iload_n hx hb dX8_apart_14 rfl (lv_at hl 3 rfl) ?_
      refine lv_bipush (v := (99 : Int32)) hx hb dX8_apart_15 (by decide) ?_
      obtain ⟨r8, h7, hF⟩ := b1_s hF
      refine cl_si (As := [.int p2, .int (99 : Int32)]) (rest := []) ⟨hx, hb, hml, hown, hts⟩ hK hP hD hS hA (c_X8_isNear l D ky  _ N   p2 (99 : Int32) r8 h7) (va_cwS 2 hts gX8_apart_X8_isNear rfl rfl rfl (by decide +kernel) ⟨Nat.le_of_ble_eq_true rfl, Nat.le_of_ble_eq_true rfl⟩) rfl hl.1 (Nat.le_of_ble_eq_true rfl) dX8_apart_17 ⟨Nat.zero_le _, Nat.zero_le _⟩ (fun H locs hP hD hS => ?_)
      refine lv_if_ne (tgt := 26) hx hb dX8_apart_20 (by decide) (fun c9 => ?_) (fun c9 => ?_)
      · have hF := if_f c9 hF
        refine lv_iconst (v := (0 : Int32)) hx hb dX8_apart_26 (by decide) ?_
        refine lv_istore (lv' := [(4, .int (0 : Int32)), (0, .ref aX), (1, .int p0), (2, .int p1), (3, .int p2)]) hx hb dX8_apart_27 hl (by decide) rfl (fun ls hl => ?_)
        exact w_X8_apart_29 N C res hQ p0 p1 p2 N (0 : Int32) hF _ _ _ hP hD hS (lv_sub hl [1, 2, 3, 4, 0] rfl)
      · have hF := if_t c9 hF
        refine lv_ldc hx hb hown (hts _ kX8_apart_0) dX8_apart_23 ?_
        have hF := Option.some.inj hF
        subst hF
        exact hQ _ _ _ _ dX8_apart_25 hP hD hS
theorem c_X8_apart (l : Launch) (D : va_G) (ky : Nat → ClassId) (aX aB aP aT aR aK aH aG aS ax au ay am : Nat) (sz N : Nat)  (bsz : Int32) (bgp : Int32) (ber : Int32) (bxs : Nat → Int32) (bus : Nat → Int32) (bys : Nat → Int32) (bme : Nat → Int32) (p0 : Int32) (p1 : Int32) (p2 : Int32) (rv : Int32) (hF : f_X8_apart N p0 p1 p2 ber = some (rv)) : MI l yX8_apart wsX8_apart rm_X8_apart D ky sz [.ref aX, .int p0, .int p1, .int p2] (w_xbook ky aX aB aP aT aR aK aH aG aS ax au ay am bsz bgp ber bxs bus bys bme) (w_xbook ky aX aB aP aT aR aK aH aG aS ax au ay am bsz bgp ber bxs bus bys bme) rv :=
  cr_X8_apart l D ky aX aB aP aT aR aK aH aG aS ax au ay am sz N bsz bgp ber bxs bus bys bme p0 p1 p2 (rv) hF
abbrev rm_X8_know : Room := { frames := 2, cells := 0, slots := 0, locals := 42 }
theorem iX8_know_X8 : ∀ w ∈ wsX80, w ∈ wsX8_know := by decide +kernel
theorem kX8_know_1 : (Cond.fieldLink RX8 40 "TwoLaws" "known" "LTwoLaws$Known;") ∈ wsX8_know := by decide +kernel
set_option maxHeartbeats 4000000 in
set_option maxRecDepth 100000 in
theorem cr_X8_know (l : Launch) (D : va_G) (ky : Nat → ClassId) (aX aB aP aT aR aK aH aG aS ak : Nat) (sz N : Nat)  (ksz : Int32) (kmb : Int32) (kwa : Int32) (kra : Int32) (kla : Nat → Int32) (p0 : Int32) (res : Int32 × Int32 × Int32 × (Nat → Int32)) (hF : f_X8_know N p0 ksz kmb kla = some res) : MI l yX8_know wsX8_know rm_X8_know D ky sz [.ref aX, .int p0] (w_xknown ky aX aB aP aT aR aK aH aG aS ak ksz kmb kwa kra kla) (w_xknown ky aX aB aP aT aR aK aH aG aS ak res.2.1 res.2.2.1 kwa kra res.2.2.2) res.1 := by
  unfold MI
  refine Met.ofW (cc := cX8_know) (maxL := 2) (ret := (some .int)) (by decide) rfl ?_
  intro p e s m args below meth c s₁ B hml hv
  obtain ⟨rfl, hsz, hP, hK, hD0⟩ := hv
  have hx := B.exec
  have hb := B.bytes
  have hr := B.returns
  have hts := atoms_spec (ws := wsX8_know) B.pre
  have hown : s.vm.findClass RX8 = some m.cls := findClass_of_methodNamed B.named
  have hlocks := B.notSynchronized
  subst hsz
  have hD := hD0.self (sz := s.heap.size)
  generalize hAe : va_A (w_xknown ky aX aB aP aT aR aK aH aG aS ak ksz kmb kwa kra kla) s.heap.size = A at hD ⊢
  have hA : ∀ q : Nat, s.heap.size ≤ q → A q := fun q h => by rw [← hAe]; exact Or.inr h
  have hS : va_S A s.heap s.heap [] := va_S.rf
  have hP : va_P D vwCl (w_xknown ky aX aB aP aT aR aK aH aG aS ak ksz kmb kwa kra kla) s.heap := hP
  have hl := lv_entry ([.ref aX, .int p0]) (n := 2) (Nat.le_of_ble_eq_true rfl)
  rw [lg_entry_eq]
  generalize (lg_sl ([.ref aX, .int p0]) ++ List.replicate (2 - (lg_sl ([.ref aX, .int p0])).length) Slot.unset).toArray = ls at hl ⊢
  have hl : lv_has ls 2 [(0, .ref aX), (1, .int p0)] := hl
  have C : cx p s m c ([.ref aX, .int p0]).toArray D ky A cX8_know 2 wsX8_know RX8 := ⟨hx, hb, hml, hown, hts, hK, hA⟩
  have hQ : ∀ (pc : Nat) (H : Heap) (locs : List Loc) (ls : Array Slot), decode cX8_know pc = .ok (.ireturn, 1) → va_P D vwCl (w_xknown ky aX aB aP aT aR aK aH aG aS ak res.2.1 res.2.2.1 kwa kra res.2.2.2) H → va_D A (w_xknown ky aX aB aP aT aR aK aH aG aS ak res.2.1 res.2.2.1 kwa kra res.2.2.2) → va_S A s.heap H locs → W p l e rm_X8_know s m ([.ref aX, .int p0]).toArray below meth c H locs 0 0 (MQ below (va_Qi (S := Unit) (fun r _ => r = res.1) (fun _ t => va_P D vwCl (w_xknown ky aX aB aP aT aR aK aH aG aS ak res.2.1 res.2.2.1 kwa kra res.2.2.2) t.heap ∧ va_K D vwCl (tyW ky) t ∧ va_D A (w_xknown ky aX aB aP aT aR aK aH aG aS ak res.2.1 res.2.2.1 kwa kra res.2.2.2)) A) ([.ref aX, .int p0]).toArray s 0 0 A) (F0 m pc ls [.int res.1]) := fun pc H locs ls hd hP hD hS => W.iret hx hb hr (fun t ht hW => ⟨⟨res.1, (), rfl, rfl, by rw [ht]; exact hP, va_K.moved hW.alike hK, hD⟩, hS.F ht⟩) hS.2.2 hd
  unfold f_X8_know at hF
  refine lv_iload_n hx hb dX8_know_0 rfl (lv_at hl 1 rfl) ?_
  obtain ⟨r2, h1, hF⟩ := b1_s hF
  refine cl_si (As := [.int p0]) (rest := []) ⟨hx, hb, hml, hown, hts⟩ hK hP hD hS hA (c_X3_is l D ky  _ N   p0 r2 h1) (va_cwS 1 hts gX8_know_X3_is rfl rfl rfl (by decide +kernel) ⟨Nat.le_of_ble_eq_true rfl, Nat.le_of_ble_eq_true rfl⟩) rfl hl.1 (Nat.le_of_ble_eq_true rfl) dX8_know_1 ⟨Nat.zero_le _, Nat.zero_le _⟩ (fun H locs hP hD hS => ?_)
  refine lv_if_eq (tgt := 18) hx hb dX8_know_4 (by decide) (fun c3 => ?_) (fun c3 => ?_)
  · have hF := if_t c3 hF
    refine lv_iconst (v := (-1 : Int32)) hx hb dX8_know_18 (by decide) ?_
    have hF := Option.some.inj hF
    subst hF
    exact hQ _ _ _ _ dX8_know_19 hP hD hS
  · have hF := if_f c3 hF
    refine lv_aload_n hx hb dX8_know_7 rfl (lv_at hl 0 rfl) ?_
    refine va_get (D := D) (ci := 7) (v := .ref aK) (C := RX8) (T := TX8) (N := 8) hx hb hts iX8_know_X8 hown hK hP 0 rfl rfl 4 (by decide) (hts _ kX8_know_1) (fun _ h9 => h9) rfl dX8_know_8 ?_
    refine lv_iload_n hx hb dX8_know_11 rfl (lv_at hl 1 rfl) ?_
    obtain ⟨r5, v6, v7, v8, h4, hF⟩ := b4_s hF
    refine cl_vi (As := [.int p0]) (rest := []) (w' := (w_xknown ky aX aB aP aT aR aK aH aG aS ak v6 v7 kwa kra v8)) ⟨hx, hb, hml, hown, hts⟩ hK hP hD hS hA (c_X2_add l D ky aK ak _ N  ksz kmb kwa kra kla p0 r5 v6 v7 v8 h4) (cwV 1 hts gX8_know_X2_add rfl rfl rfl (by decide +kernel) ⟨Nat.le_of_ble_eq_true rfl, Nat.le_of_ble_eq_true rfl⟩) [1, 2] [0] [0, 1, 2] 0 2 rfl rfl rfl rfl (wr := [(aX, .inr (7, [.ref aB, .ref aP, .ref aT, .ref aR, .ref aK, .ref aH, .ref aG, .ref aS]))]) rfl (by decide) rfl rfl hl.1 (Nat.le_of_ble_eq_true rfl) dX8_know_12 ⟨Nat.zero_le _, Nat.zero_le _⟩ (fun H locs hP hD hS => ?_)
    refine lv_goto (tgt := 19) hx hb dX8_know_15 (by decide) ?_
    have hF := Option.some.inj hF
    subst hF
    exact hQ _ _ _ _ dX8_know_19 hP hD hS
theorem c_X8_know (l : Launch) (D : va_G) (ky : Nat → ClassId) (aX aB aP aT aR aK aH aG aS ak : Nat) (sz N : Nat)  (ksz : Int32) (kmb : Int32) (kwa : Int32) (kra : Int32) (kla : Nat → Int32) (p0 : Int32) (rv : Int32) (ksz' : Int32) (kmb' : Int32) (kla' : Nat → Int32) (hF : f_X8_know N p0 ksz kmb kla = some (rv, ksz', kmb', kla')) : MI l yX8_know wsX8_know rm_X8_know D ky sz [.ref aX, .int p0] (w_xknown ky aX aB aP aT aR aK aH aG aS ak ksz kmb kwa kra kla) (w_xknown ky aX aB aP aT aR aK aH aG aS ak ksz' kmb' kwa kra kla') rv :=
  cr_X8_know l D ky aX aB aP aT aR aK aH aG aS ak sz N ksz kmb kwa kra kla p0 (rv, ksz', kmb', kla') hF
abbrev rm_X8_box : Room := { frames := 1, cells := 0, slots := 0, locals := 22 }
theorem iX8_box_X8 : ∀ w ∈ wsX80, w ∈ wsX8_box := by decide +kernel
theorem kX8_box_1 : (Cond.fieldLink RX8 47 "TwoLaws" "held" "LTwoLaws$Box;") ∈ wsX8_box := by decide +kernel
set_option maxHeartbeats 4000000 in
set_option maxRecDepth 100000 in
theorem cr_X8_box (l : Launch) (D : va_G) (ky : Nat → ClassId) (aX aB aP aT aR aK aH aG aS : Nat) (sz N : Nat)  (lo : Int32) (hi : Int32) (p0 : Int32) (p1 : Int32) (res : Int32 × Int32 × Int32) (hF : f_X8_box N p0 p1 lo hi = some res) : MI l yX8_box wsX8_box rm_X8_box D ky sz [.ref aX, .int p0, .int p1] (w_xbox ky aX aB aP aT aR aK aH aG aS lo hi) (w_xbox ky aX aB aP aT aR aK aH aG aS res.2.1 res.2.2) res.1 := by
  unfold MI
  refine Met.ofW (cc := cX8_box) (maxL := 3) (ret := (some .int)) (by decide) rfl ?_
  intro p e s m args below meth c s₁ B hml hv
  obtain ⟨rfl, hsz, hP, hK, hD0⟩ := hv
  have hx := B.exec
  have hb := B.bytes
  have hr := B.returns
  have hts := atoms_spec (ws := wsX8_box) B.pre
  have hown : s.vm.findClass RX8 = some m.cls := findClass_of_methodNamed B.named
  have hlocks := B.notSynchronized
  subst hsz
  have hD := hD0.self (sz := s.heap.size)
  generalize hAe : va_A (w_xbox ky aX aB aP aT aR aK aH aG aS lo hi) s.heap.size = A at hD ⊢
  have hA : ∀ q : Nat, s.heap.size ≤ q → A q := fun q h => by rw [← hAe]; exact Or.inr h
  have hS : va_S A s.heap s.heap [] := va_S.rf
  have hP : va_P D vwCl (w_xbox ky aX aB aP aT aR aK aH aG aS lo hi) s.heap := hP
  have hl := lv_entry ([.ref aX, .int p0, .int p1]) (n := 3) (Nat.le_of_ble_eq_true rfl)
  rw [lg_entry_eq]
  generalize (lg_sl ([.ref aX, .int p0, .int p1]) ++ List.replicate (3 - (lg_sl ([.ref aX, .int p0, .int p1])).length) Slot.unset).toArray = ls at hl ⊢
  have hl : lv_has ls 3 [(0, .ref aX), (1, .int p0), (2, .int p1)] := hl
  have C : cx p s m c ([.ref aX, .int p0, .int p1]).toArray D ky A cX8_box 3 wsX8_box RX8 := ⟨hx, hb, hml, hown, hts, hK, hA⟩
  have hQ : ∀ (pc : Nat) (H : Heap) (locs : List Loc) (ls : Array Slot), decode cX8_box pc = .ok (.ireturn, 1) → va_P D vwCl (w_xbox ky aX aB aP aT aR aK aH aG aS res.2.1 res.2.2) H → va_D A (w_xbox ky aX aB aP aT aR aK aH aG aS res.2.1 res.2.2) → va_S A s.heap H locs → W p l e rm_X8_box s m ([.ref aX, .int p0, .int p1]).toArray below meth c H locs 0 0 (MQ below (va_Qi (S := Unit) (fun r _ => r = res.1) (fun _ t => va_P D vwCl (w_xbox ky aX aB aP aT aR aK aH aG aS res.2.1 res.2.2) t.heap ∧ va_K D vwCl (tyW ky) t ∧ va_D A (w_xbox ky aX aB aP aT aR aK aH aG aS res.2.1 res.2.2)) A) ([.ref aX, .int p0, .int p1]).toArray s 0 0 A) (F0 m pc ls [.int res.1]) := fun pc H locs ls hd hP hD hS => W.iret hx hb hr (fun t ht hW => ⟨⟨res.1, (), rfl, rfl, by rw [ht]; exact hP, va_K.moved hW.alike hK, hD⟩, hS.F ht⟩) hS.2.2 hd
  unfold f_X8_box at hF
  refine lv_iload_n hx hb dX8_box_0 rfl (lv_at hl 1 rfl) ?_
  refine lv_sipush (v := (9999 : Int32)) hx hb dX8_box_1 (by decide) ?_
  obtain ⟨r2, h1, hF⟩ := b1_s hF
  refine cl_si (As := [.int p0, .int (9999 : Int32)]) (rest := []) ⟨hx, hb, hml, hown, hts⟩ hK hP hD hS hA (c_X8_isNear l D ky  _ N   p0 (9999 : Int32) r2 h1) (va_cwS 2 hts gX8_box_X8_isNear rfl rfl rfl (by decide +kernel) ⟨Nat.le_of_ble_eq_true rfl, Nat.le_of_ble_eq_true rfl⟩) rfl hl.1 (Nat.le_of_ble_eq_true rfl) dX8_box_4 ⟨Nat.zero_le _, Nat.zero_le _⟩ (fun H locs hP hD hS => ?_)
  refine lv_if_eq (tgt := 25) hx hb dX8_box_7 (by decide) (fun c3 => ?_) (fun c3 => ?_)
  · have hF := if_t c3 hF
    refine lv_iconst (v := (-1 : Int32)) hx hb dX8_box_25 (by decide) ?_
    have hF := Option.some.inj hF
    subst hF
    exact hQ _ _ _ _ dX8_box_26 hP hD hS
  · have hF := if_f c3 hF
    refine lv_iload_n hx hb dX8_box_10 rfl (lv_at hl 2 rfl) ?_
    refine lv_sipush (v := (9999 : Int32)) hx hb dX8_box_11 (by decide) ?_
    obtain ⟨r5, h4, hF⟩ := b1_s hF
    refine cl_si (As := [.int p1, .int (9999 : Int32)]) (rest := []) ⟨hx, hb, hml, hown, hts⟩ hK hP hD hS hA (c_X8_isNear l D ky  _ N   p1 (9999 : Int32) r5 h4) (va_cwS 2 hts gX8_box_X8_isNear rfl rfl rfl (by decide +kernel) ⟨Nat.le_of_ble_eq_true rfl, Nat.le_of_ble_eq_true rfl⟩) rfl hl.1 (Nat.le_of_ble_eq_true rfl) dX8_box_14 ⟨Nat.zero_le _, Nat.zero_le _⟩ (fun H locs hP hD hS => ?_)
    refine lv_if_eq (tgt := 25) hx hb dX8_box_17 (by decide) (fun c6 => ?_) (fun c6 => ?_)
    · have hF := if_t c6 hF
      refine lv_iconst (v := (-1 : Int32)) hx hb dX8_box_25 (by decide) ?_
      have hF := Option.some.inj hF
      subst hF
      exact hQ _ _ _ _ dX8_box_26 hP hD hS
    · have hF := if_f c6 hF
      refine lv_iload_n hx hb dX8_box_20 rfl (lv_at hl 1 rfl) ?_
      refine lv_iload_n hx hb dX8_box_21 rfl (lv_at hl 2 rfl) ?_
      refine lv_icmp_le (tgt := 27) hx hb dX8_box_22 (by decide) (fun c7 => ?_) (fun c7 => ?_)
      · have hF := if_t c7 hF
        refine lv_aload_n hx hb dX8_box_27 rfl (lv_at hl 0 rfl) ?_
        refine va_get (D := D) (ci := 7) (v := .ref aH) (C := RX8) (T := TX8) (N := 8) hx hb hts iX8_box_X8 hown hK hP 0 rfl rfl 5 (by decide) (hts _ kX8_box_1) (fun _ h9 => h9) rfl dX8_box_28 ?_
        refine lv_iload_n hx hb dX8_box_31 rfl (lv_at hl 1 rfl) ?_
        refine lv_iload_n hx hb dX8_box_32 rfl (lv_at hl 2 rfl) ?_
        obtain ⟨v9, v10, h8, hF⟩ := b2_s hF
        refine cl_vv (As := [.int p0, .int p1]) (rest := []) (w' := (w_xbox ky aX aB aP aT aR aK aH aG aS v9 v10)) ⟨hx, hb, hml, hown, hts⟩ hK hP hD hS hA (c_X1_become l D ky aH _ N  lo hi p0 p1 v9 v10 h8) (cwV 2 hts gX8_box_X1_become rfl rfl rfl (by decide +kernel) ⟨Nat.le_of_ble_eq_true rfl, Nat.le_of_ble_eq_true rfl⟩) [1] [0] [0, 1] 0 1 rfl rfl rfl rfl (wr := [(aX, .inr (7, [.ref aB, .ref aP, .ref aT, .ref aR, .ref aK, .ref aH, .ref aG, .ref aS]))]) rfl (by decide) rfl rfl hl.1 (Nat.le_of_ble_eq_true rfl) dX8_box_33 ⟨Nat.zero_le _, Nat.zero_le _⟩ (fun H locs hP hD hS => ?_)
        refine lv_iconst (v := (1 : Int32)) hx hb dX8_box_36 (by decide) ?_
        have hF := Option.some.inj hF
        subst hF
        exact hQ _ _ _ _ dX8_box_37 hP hD hS
      · have hF := if_f c7 hF
        refine lv_iconst (v := (-1 : Int32)) hx hb dX8_box_25 (by decide) ?_
        have hF := Option.some.inj hF
        subst hF
        exact hQ _ _ _ _ dX8_box_26 hP hD hS
theorem c_X8_box (l : Launch) (D : va_G) (ky : Nat → ClassId) (aX aB aP aT aR aK aH aG aS : Nat) (sz N : Nat)  (lo : Int32) (hi : Int32) (p0 : Int32) (p1 : Int32) (rv : Int32) (lo' : Int32) (hi' : Int32) (hF : f_X8_box N p0 p1 lo hi = some (rv, lo', hi')) : MI l yX8_box wsX8_box rm_X8_box D ky sz [.ref aX, .int p0, .int p1] (w_xbox ky aX aB aP aT aR aK aH aG aS lo hi) (w_xbox ky aX aB aP aT aR aK aH aG aS lo' hi') rv :=
  cr_X8_box l D ky aX aB aP aT aR aK aH aG aS sz N lo hi p0 p1 (rv, lo', hi') hF
abbrev rm_X8_step : Room := { frames := 3, cells := 0, slots := 0, locals := 70 }
theorem iX8_step_X8 : ∀ w ∈ wsX80, w ∈ wsX8_step := by decide +kernel
theorem kX8_step_1 : (Cond.fieldLink RX8 40 "TwoLaws" "known" "LTwoLaws$Known;") ∈ wsX8_step := by decide +kernel
theorem kX8_step_2 : (Cond.fieldLink RX8 47 "TwoLaws" "held" "LTwoLaws$Box;") ∈ wsX8_step := by decide +kernel
theorem kX8_step_3 : (Cond.fieldLink RX8 10 "TwoLaws" "book" "LTwoLaws$Book;") ∈ wsX8_step := by decide +kernel
set_option maxHeartbeats 4000000 in
set_option maxRecDepth 100000 in
theorem cr_X8_step (l : Launch) (D : va_G) (ky : Nat → ClassId) (aX aB aP aT aR aK aH aG aS ak ax au ay am : Nat) (sz N : Nat)  (lo : Int32) (hi : Int32) (ksz : Int32) (kmb : Int32) (kwa : Int32) (kra : Int32) (kla : Nat → Int32) (bsz : Int32) (bgp : Int32) (ber : Int32) (bxs : Nat → Int32) (bus : Nat → Int32) (bys : Nat → Int32) (bme : Nat → Int32) (p0 : Int32) (res : Int32 × Int32 × Int32) (hF : f_X8_step N p0 lo hi ksz kla ber = some res) : MI l yX8_step wsX8_step rm_X8_step D ky sz [.ref aX, .int p0] (w_xstep ky aX aB aP aT aR aK aH aG aS ak ax au ay am lo hi ksz kmb kwa kra kla bsz bgp ber bxs bus bys bme) (w_xstep ky aX aB aP aT aR aK aH aG aS ak ax au ay am res.2.1 res.2.2 ksz kmb kwa kra kla bsz bgp ber bxs bus bys bme) res.1 := by
  unfold MI
  refine Met.ofW (cc := cX8_step) (maxL := 2) (ret := (some .int)) (by decide) rfl ?_
  intro p e s m args below meth c s₁ B hml hv
  obtain ⟨rfl, hsz, hP, hK, hD0⟩ := hv
  have hx := B.exec
  have hb := B.bytes
  have hr := B.returns
  have hts := atoms_spec (ws := wsX8_step) B.pre
  have hown : s.vm.findClass RX8 = some m.cls := findClass_of_methodNamed B.named
  have hlocks := B.notSynchronized
  subst hsz
  have hD := hD0.self (sz := s.heap.size)
  generalize hAe : va_A (w_xstep ky aX aB aP aT aR aK aH aG aS ak ax au ay am lo hi ksz kmb kwa kra kla bsz bgp ber bxs bus bys bme) s.heap.size = A at hD ⊢
  have hA : ∀ q : Nat, s.heap.size ≤ q → A q := fun q h => by rw [← hAe]; exact Or.inr h
  have hS : va_S A s.heap s.heap [] := va_S.rf
  have hP : va_P D vwCl (w_xstep ky aX aB aP aT aR aK aH aG aS ak ax au ay am lo hi ksz kmb kwa kra kla bsz bgp ber bxs bus bys bme) s.heap := hP
  have hl := lv_entry ([.ref aX, .int p0]) (n := 2) (Nat.le_of_ble_eq_true rfl)
  rw [lg_entry_eq]
  generalize (lg_sl ([.ref aX, .int p0]) ++ List.replicate (2 - (lg_sl ([.ref aX, .int p0])).length) Slot.unset).toArray = ls at hl ⊢
  have hl : lv_has ls 2 [(0, .ref aX), (1, .int p0)] := hl
  have C : cx p s m c ([.ref aX, .int p0]).toArray D ky A cX8_step 2 wsX8_step RX8 := ⟨hx, hb, hml, hown, hts, hK, hA⟩
  have hQ : ∀ (pc : Nat) (H : Heap) (locs : List Loc) (ls : Array Slot), decode cX8_step pc = .ok (.ireturn, 1) → va_P D vwCl (w_xstep ky aX aB aP aT aR aK aH aG aS ak ax au ay am res.2.1 res.2.2 ksz kmb kwa kra kla bsz bgp ber bxs bus bys bme) H → va_D A (w_xstep ky aX aB aP aT aR aK aH aG aS ak ax au ay am res.2.1 res.2.2 ksz kmb kwa kra kla bsz bgp ber bxs bus bys bme) → va_S A s.heap H locs → W p l e rm_X8_step s m ([.ref aX, .int p0]).toArray below meth c H locs 0 0 (MQ below (va_Qi (S := Unit) (fun r _ => r = res.1) (fun _ t => va_P D vwCl (w_xstep ky aX aB aP aT aR aK aH aG aS ak ax au ay am res.2.1 res.2.2 ksz kmb kwa kra kla bsz bgp ber bxs bus bys bme) t.heap ∧ va_K D vwCl (tyW ky) t ∧ va_D A (w_xstep ky aX aB aP aT aR aK aH aG aS ak ax au ay am res.2.1 res.2.2 ksz kmb kwa kra kla bsz bgp ber bxs bus bys bme)) A) ([.ref aX, .int p0]).toArray s 0 0 A) (F0 m pc ls [.int res.1]) := fun pc H locs ls hd hP hD hS => W.iret hx hb hr (fun t ht hW => ⟨⟨res.1, (), rfl, rfl, by rw [ht]; exact hP, va_K.moved hW.alike hK, hD⟩, hS.F ht⟩) hS.2.2 hd
  unfold f_X8_step at hF
  refine lv_iload_n hx hb dX8_step_0 rfl (lv_at hl 1 rfl) ?_
  refine lv_bipush (v := (99 : Int32)) hx hb dX8_step_1 (by decide) ?_
  obtain ⟨r2, h1, hF⟩ := b1_s hF
  refine cl_si (As := [.int p0, .int (99 : Int32)]) (rest := []) ⟨hx, hb, hml, hown, hts⟩ hK hP hD hS hA (c_X8_isNear l D ky  _ N   p0 (99 : Int32) r2 h1) (va_cwS 2 hts gX8_step_X8_isNear rfl rfl rfl (by decide +kernel) ⟨Nat.le_of_ble_eq_true rfl, Nat.le_of_ble_eq_true rfl⟩) rfl hl.1 (Nat.le_of_ble_eq_true rfl) dX8_step_3 ⟨Nat.zero_le _, Nat.zero_le _⟩ (fun H locs hP hD hS => ?_)
  refine lv_if_ne (tgt := 11) hx hb dX8_step_6 (by decide) (fun c3 => ?_) (fun c3 => ?_)
  · have hF := if_f c3 hF
    refine lv_aload_n hx hb dX8_step_11 rfl (lv_at hl 0 rfl) ?_
    refine va_get (D := D) (ci := 7) (v := .ref aK) (C := RX8) (T := TX8) (N := 8) hx hb hts iX8_step_X8 hown hK hP 0 rfl rfl 4 (by decide) (hts _ kX8_step_1) (fun _ h9 => h9) rfl dX8_step_12 ?_
    obtain ⟨r5, h4, hF⟩ := b1_s hF
    refine cl_vi (As := []) (rest := []) (w' := (w_xstep ky aX aB aP aT aR aK aH aG aS ak ax au ay am lo hi ksz kmb kwa kra kla bsz bgp ber bxs bus bys bme)) ⟨hx, hb, hml, hown, hts⟩ hK hP hD hS hA (c_X2_size l D ky aK ak _ N  ksz kmb kwa kra kla  r5 h4) (cwV 0 hts gX8_step_X2_size rfl rfl rfl (by decide +kernel) ⟨Nat.le_of_ble_eq_true rfl, Nat.le_of_ble_eq_true rfl⟩) [2, 3] [0, 1, 4, 5, 6, 7, 8] [0, 1, 7, 8, 2, 3, 4, 5, 6] 0 2 rfl rfl rfl rfl (wr := [(aX, .inr (7, [.ref aB, .ref aP, .ref aT, .ref aR, .ref aK, .ref aH, .ref aG, .ref aS])), (aH, .inr (1, [.int lo, .int hi])), (aB, .inr (0, [.ref ax, .ref au, .ref ay, .ref am, .int bsz, .int bgp, .int ber])), (ax, .inl (ky 0, 12, .inl bxs)), (au, .inl (ky 0, 12, .inl bus)), (ay, .inl (ky 0, 12, .inl bys)), (am, .inl (ky 0, 289, .inl bme))]) rfl (by decide) rfl rfl hl.1 (Nat.le_of_ble_eq_true rfl) dX8_step_15 ⟨Nat.zero_le _, Nat.zero_le _⟩ (fun H locs hP hD hS => ?_)
    refine lv_if_ne (tgt := 24) hx hb dX8_step_18 (by decide) (fun c6 => ?_) (fun c6 => ?_)
    · have hF := if_f c6 hF
      refine lv_aload_n hx hb dX8_step_24 rfl (lv_at hl 0 rfl) ?_
      refine va_get (D := D) (ci := 7) (v := .ref aH) (C := RX8) (T := TX8) (N := 8) hx hb hts iX8_step_X8 hown hK hP 0 rfl rfl 5 (by decide) (hts _ kX8_step_2) (fun _ h9 => h9) rfl dX8_step_25 ?_
      refine lv_aload_n hx hb dX8_step_28 rfl (lv_at hl 0 rfl) ?_
      refine va_get (D := D) (ci := 7) (v := .ref aK) (C := RX8) (T := TX8) (N := 8) hx hb hts iX8_step_X8 hown hK hP 0 rfl rfl 4 (by decide) (hts _ kX8_step_1) (fun _ h9 => h9) rfl dX8_step_29 ?_
      refine lv_iload_n hx hb dX8_step_32 rfl (lv_at hl 1 rfl) ?_
      refine lv_aload_n hx hb dX8_step_33 rfl (lv_at hl 0 rfl) ?_
      refine va_get (D := D) (ci := 7) (v := .ref aB) (C := RX8) (T := TX8) (N := 8) hx hb hts iX8_step_X8 hown hK hP 0 rfl rfl 0 (by decide) (hts _ kX8_step_3) (fun _ h9 => h9) rfl dX8_step_34 ?_
      obtain ⟨r8, h7, hF⟩ := b1_s hF
      refine cl_vi (As := []) (rest := [.int p0, .ref aK, .ref aH]) (w' := (w_xstep ky aX aB aP aT aR aK aH aG aS ak ax au ay am lo hi ksz kmb kwa kra kla bsz bgp ber bxs bus bys bme)) ⟨hx, hb, hml, hown, hts⟩ hK hP hD hS hA (c_X0_errorNow l D ky aB ax au ay am _ N  bsz bgp ber bxs bus bys bme  r8 h7) (cwV 0 hts gX8_step_X0_errorNow rfl rfl rfl (by decide +kernel) ⟨Nat.le_of_ble_eq_true rfl, Nat.le_of_ble_eq_true rfl⟩) [4, 5, 6, 7, 8] [0, 1, 2, 3] [0, 1, 2, 3, 4, 5, 6, 7, 8] 0 0 rfl rfl rfl rfl (wr := [(aX, .inr (7, [.ref aB, .ref aP, .ref aT, .ref aR, .ref aK, .ref aH, .ref aG, .ref aS])), (aH, .inr (1, [.int lo, .int hi])), (aK, .inr (2, [.ref ak, .int ksz, .int kmb, .int kwa, .int kra])), (ak, .inl (ky 0, 4, .inl kla))]) rfl (by decide) rfl rfl hl.1 (Nat.le_of_ble_eq_true rfl) dX8_step_37 ⟨Nat.zero_le _, Nat.zero_le _⟩ (fun H locs hP hD hS => ?_)
      obtain ⟨v10, v11, h9, hF⟩ := b2_s hF
      refine cl_vv (As := [.ref aK, .int p0, .int r8]) (rest := []) (w' := (w_xstep ky aX aB aP aT aR aK aH aG aS ak ax au ay am v10 v11 ksz kmb kwa kra kla bsz bgp ber bxs bus bys bme)) ⟨hx, hb, hml, hown, hts⟩ hK hP hD hS hA (c_X1_move l D ky aH aK ak _ N  lo hi ksz kmb kwa kra kla p0 r8 v10 v11 h9) (cwV 3 hts gX8_step_X1_move rfl rfl rfl (by decide +kernel) ⟨Nat.le_of_ble_eq_true rfl, Nat.le_of_ble_eq_true rfl⟩) [1, 2, 3] [0, 4, 5, 6, 7, 8] [0, 6, 7, 8, 1, 2, 3, 4, 5] 0 1 rfl rfl rfl rfl (wr := [(aX, .inr (7, [.ref aB, .ref aP, .ref aT, .ref aR, .ref aK, .ref aH, .ref aG, .ref aS])), (aB, .inr (0, [.ref ax, .ref au, .ref ay, .ref am, .int bsz, .int bgp, .int ber])), (ax, .inl (ky 0, 12, .inl bxs)), (au, .inl (ky 0, 12, .inl bus)), (ay, .inl (ky 0, 12, .inl bys)), (am, .inl (ky 0, 289, .inl bme))]) rfl (by decide) rfl rfl hl.1 (Nat.le_of_ble_eq_true rfl) dX8_step_40 ⟨Nat.zero_le _, Nat.zero_le _⟩ (fun H locs hP hD hS => ?_)
      refine lv_iconst (v := (1 : Int32)) hx hb dX8_step_43 (by decide) ?_
      have hF := Option.some.inj hF
      subst hF
      exact hQ _ _ _ _ dX8_step_44 hP hD hS
    · have hF := if_t c6 hF
      refine lv_bipush (v := (-4 : Int32)) hx hb dX8_step_21 (by decide) ?_
      have hF := Option.some.inj hF
      subst hF
      exact hQ _ _ _ _ dX8_step_23 hP hD hS
  · have hF := if_t c3 hF
    refine lv_iconst (v := (-1 : Int32)) hx hb dX8_step_9 (by decide) ?_
    have hF := Option.some.inj hF
    subst hF
    exact hQ _ _ _ _ dX8_step_10 hP hD hS
theorem c_X8_step (l : Launch) (D : va_G) (ky : Nat → ClassId) (aX aB aP aT aR aK aH aG aS ak ax au ay am : Nat) (sz N : Nat)  (lo : Int32) (hi : Int32) (ksz : Int32) (kmb : Int32) (kwa : Int32) (kra : Int32) (kla : Nat → Int32) (bsz : Int32) (bgp : Int32) (ber : Int32) (bxs : Nat → Int32) (bus : Nat → Int32) (bys : Nat → Int32) (bme : Nat → Int32) (p0 : Int32) (rv : Int32) (lo' : Int32) (hi' : Int32) (hF : f_X8_step N p0 lo hi ksz kla ber = some (rv, lo', hi')) : MI l yX8_step wsX8_step rm_X8_step D ky sz [.ref aX, .int p0] (w_xstep ky aX aB aP aT aR aK aH aG aS ak ax au ay am lo hi ksz kmb kwa kra kla bsz bgp ber bxs bus bys bme) (w_xstep ky aX aB aP aT aR aK aH aG aS ak ax au ay am lo' hi' ksz kmb kwa kra kla bsz bgp ber bxs bus bys bme) rv :=
  cr_X8_step l D ky aX aB aP aT aR aK aH aG aS ak ax au ay am sz N lo hi ksz kmb kwa kra kla bsz bgp ber bxs bus bys bme p0 (rv, lo', hi') hF
abbrev rm_X8_holds : Room := { frames := 1, cells := 0, slots := 0, locals := 20 }
theorem kX8_holds_0 : (Cond.constant RX8 107 (-1000001)) ∈ wsX8_holds := by decide +kernel
theorem iX8_holds_X8 : ∀ w ∈ wsX80, w ∈ wsX8_holds := by decide +kernel
theorem kX8_holds_2 : (Cond.fieldLink RX8 47 "TwoLaws" "held" "LTwoLaws$Box;") ∈ wsX8_holds := by decide +kernel
set_option maxHeartbeats 4000000 in
set_option maxRecDepth 100000 in
theorem cr_X8_holds (l : Launch) (D : va_G) (ky : Nat → ClassId) (aX aB aP aT aR aK aH aG aS : Nat) (sz N : Nat)  (lo : Int32) (hi : Int32) (p0 : Int32) (res : Int32) (hF : f_X8_holds N p0 lo hi = some res) : MI l yX8_holds wsX8_holds rm_X8_holds D ky sz [.ref aX, .int p0] (w_xbox ky aX aB aP aT aR aK aH aG aS lo hi) (w_xbox ky aX aB aP aT aR aK aH aG aS lo hi) res := by
  unfold MI
  refine Met.ofW (cc := cX8_holds) (maxL := 2) (ret := (some .int)) (by decide) rfl ?_
  intro p e s m args below meth c s₁ B hml hv
  obtain ⟨rfl, hsz, hP, hK, hD0⟩ := hv
  have hx := B.exec
  have hb := B.bytes
  have hr := B.returns
  have hts := atoms_spec (ws := wsX8_holds) B.pre
  have hown : s.vm.findClass RX8 = some m.cls := findClass_of_methodNamed B.named
  have hlocks := B.notSynchronized
  subst hsz
  have hD := hD0.self (sz := s.heap.size)
  generalize hAe : va_A (w_xbox ky aX aB aP aT aR aK aH aG aS lo hi) s.heap.size = A at hD ⊢
  have hA : ∀ q : Nat, s.heap.size ≤ q → A q := fun q h => by rw [← hAe]; exact Or.inr h
  have hS : va_S A s.heap s.heap [] := va_S.rf
  have hP : va_P D vwCl (w_xbox ky aX aB aP aT aR aK aH aG aS lo hi) s.heap := hP
  have hl := lv_entry ([.ref aX, .int p0]) (n := 2) (Nat.le_of_ble_eq_true rfl)
  rw [lg_entry_eq]
  generalize (lg_sl ([.ref aX, .int p0]) ++ List.replicate (2 - (lg_sl ([.ref aX, .int p0])).length) Slot.unset).toArray = ls at hl ⊢
  have hl : lv_has ls 2 [(0, .ref aX), (1, .int p0)] := hl
  have C : cx p s m c ([.ref aX, .int p0]).toArray D ky A cX8_holds 2 wsX8_holds RX8 := ⟨hx, hb, hml, hown, hts, hK, hA⟩
  have hQ : ∀ (pc : Nat) (H : Heap) (locs : List Loc) (ls : Array Slot), decode cX8_holds pc = .ok (.ireturn, 1) → va_P D vwCl (w_xbox ky aX aB aP aT aR aK aH aG aS lo hi) H → va_D A (w_xbox ky aX aB aP aT aR aK aH aG aS lo hi) → va_S A s.heap H locs → W p l e rm_X8_holds s m ([.ref aX, .int p0]).toArray below meth c H locs 0 0 (MQ below (va_Qi (S := Unit) (fun r _ => r = res) (fun _ t => va_P D vwCl (w_xbox ky aX aB aP aT aR aK aH aG aS lo hi) t.heap ∧ va_K D vwCl (tyW ky) t ∧ va_D A (w_xbox ky aX aB aP aT aR aK aH aG aS lo hi)) A) ([.ref aX, .int p0]).toArray s 0 0 A) (F0 m pc ls [.int res]) := fun pc H locs ls hd hP hD hS => W.iret hx hb hr (fun t ht hW => ⟨⟨res, (), rfl, rfl, by rw [ht]; exact hP, va_K.moved hW.alike hK, hD⟩, hS.F ht⟩) hS.2.2 hd
  unfold f_X8_holds at hF
  refine lv_iload_n hx hb dX8_holds_0 rfl (lv_at hl 1 rfl) ?_
  refine lv_if_lt (tgt := 9) hx hb dX8_holds_1 (by decide) (fun c1 => ?_) (fun c1 => ?_)
  · have hF := if_t c1 hF
    refine lv_ldc hx hb hown (hts _ kX8_holds_0) dX8_holds_9 ?_
    have hF := Option.some.inj hF
    subst hF
    exact hQ _ _ _ _ dX8_holds_11 hP hD hS
  · have hF := if_f c1 hF
    refine lv_iload_n hx hb dX8_holds_4 rfl (lv_at hl 1 rfl) ?_
    refine lv_iconst (v := (1 : Int32)) hx hb dX8_holds_5 (by decide) ?_
    refine lv_icmp_le (tgt := 12) hx hb dX8_holds_6 (by decide) (fun c2 => ?_) (fun c2 => ?_)
    · have hF := if_t c2 hF
      refine lv_iload_n hx hb dX8_holds_12 rfl (lv_at hl 1 rfl) ?_
      refine lv_if_ne (tgt := 26) hx hb dX8_holds_13 (by decide) (fun c3 => ?_) (fun c3 => ?_)
      · have hF := if_f c3 hF
        refine lv_aload_n hx hb dX8_holds_26 rfl (lv_at hl 0 rfl) ?_
        refine va_get (D := D) (ci := 7) (v := .ref aH) (C := RX8) (T := TX8) (N := 8) hx hb hts iX8_holds_X8 hown hK hP 0 rfl rfl 5 (by decide) (hts _ kX8_holds_2) (fun _ h9 => h9) rfl dX8_holds_27 ?_
        obtain ⟨r5, h4, hF⟩ := b1_s hF
        refine cl_vi (As := []) (rest := []) (w' := (w_xbox ky aX aB aP aT aR aK aH aG aS lo hi)) ⟨hx, hb, hml, hown, hts⟩ hK hP hD hS hA (c_X1_greatest l D ky aH _ N  lo hi  r5 h4) (cwV 0 hts gX8_holds_X1_greatest rfl rfl rfl (by decide +kernel) ⟨Nat.le_of_ble_eq_true rfl, Nat.le_of_ble_eq_true rfl⟩) [1] [0] [0, 1] 0 1 rfl rfl rfl rfl (wr := [(aX, .inr (7, [.ref aB, .ref aP, .ref aT, .ref aR, .ref aK, .ref aH, .ref aG, .ref aS]))]) rfl (by decide) rfl rfl hl.1 (Nat.le_of_ble_eq_true rfl) dX8_holds_30 ⟨Nat.zero_le _, Nat.zero_le _⟩ (fun H locs hP hD hS => ?_)
        have hF := Option.some.inj hF
        subst hF
        exact hQ _ _ _ _ dX8_holds_33 hP hD hS
      · have hF := if_t c3 hF
        refine lv_aload_n hx hb dX8_holds_16 rfl (lv_at hl 0 rfl) ?_
        refine va_get (D := D) (ci := 7) (v := .ref aH) (C := RX8) (T := TX8) (N := 8) hx hb hts iX8_holds_X8 hown hK hP 0 rfl rfl 5 (by decide) (hts _ kX8_holds_2) (fun _ h9 => h9) rfl dX8_holds_17 ?_
        obtain ⟨r7, h6, hF⟩ := b1_s hF
        refine cl_vi (As := []) (rest := []) (w' := (w_xbox ky aX aB aP aT aR aK aH aG aS lo hi)) ⟨hx, hb, hml, hown, hts⟩ hK hP hD hS hA (c_X1_least l D ky aH _ N  lo hi  r7 h6) (cwV 0 hts gX8_holds_X1_least rfl rfl rfl (by decide +kernel) ⟨Nat.le_of_ble_eq_true rfl, Nat.le_of_ble_eq_true rfl⟩) [1] [0] [0, 1] 0 1 rfl rfl rfl rfl (wr := [(aX, .inr (7, [.ref aB, .ref aP, .ref aT, .ref aR, .ref aK, .ref aH, .ref aG, .ref aS]))]) rfl (by decide) rfl rfl hl.1 (Nat.le_of_ble_eq_true rfl) dX8_holds_20 ⟨Nat.zero_le _, Nat.zero_le _⟩ (fun H locs hP hD hS => ?_)
        refine lv_goto (tgt := 33) hx hb dX8_holds_23 (by decide) ?_
        have hF := Option.some.inj hF
        subst hF
        exact hQ _ _ _ _ dX8_holds_33 hP hD hS
    · have hF := if_f c2 hF
      refine lv_ldc hx hb hown (hts _ kX8_holds_0) dX8_holds_9 ?_
      have hF := Option.some.inj hF
      subst hF
      exact hQ _ _ _ _ dX8_holds_11 hP hD hS
theorem c_X8_holds (l : Launch) (D : va_G) (ky : Nat → ClassId) (aX aB aP aT aR aK aH aG aS : Nat) (sz N : Nat)  (lo : Int32) (hi : Int32) (p0 : Int32) (rv : Int32) (hF : f_X8_holds N p0 lo hi = some (rv)) : MI l yX8_holds wsX8_holds rm_X8_holds D ky sz [.ref aX, .int p0] (w_xbox ky aX aB aP aT aR aK aH aG aS lo hi) (w_xbox ky aX aB aP aT aR aK aH aG aS lo hi) rv :=
  cr_X8_holds l D ky aX aB aP aT aR aK aH aG aS sz N lo hi p0 (rv) hF
abbrev rm_X8_brake : Room := { frames := 3, cells := 0, slots := 0, locals := 70 }
theorem iX8_brake_X8 : ∀ w ∈ wsX80, w ∈ wsX8_brake := by decide +kernel
theorem kX8_brake_1 : (Cond.fieldLink RX8 40 "TwoLaws" "known" "LTwoLaws$Known;") ∈ wsX8_brake := by decide +kernel
theorem kX8_brake_2 : (Cond.fieldLink RX8 51 "TwoLaws" "tried" "LTwoLaws$Box;") ∈ wsX8_brake := by decide +kernel
theorem kX8_brake_3 : (Cond.fieldLink RX8 47 "TwoLaws" "held" "LTwoLaws$Box;") ∈ wsX8_brake := by decide +kernel
theorem kX8_brake_4 : (Cond.fieldLink RX8 10 "TwoLaws" "book" "LTwoLaws$Book;") ∈ wsX8_brake := by decide +kernel
set_option maxHeartbeats 4000000 in
set_option maxRecDepth 100000 in
theorem w_X8_brake_86 {p : Program} {l : Launch} {e : Env} {s : State} {m : MethodId} {args : Array Value} {below : List Frame} {meth : Method} {c : Code} {Q : State → Prop} {A : Nat → Prop} {D : va_G} {ky : Nat → ClassId} {aX aB aP aT aR aK aH aG aS ak ax au ay am : Nat} {lo : Int32} {hi : Int32} {ksz : Int32} {kmb : Int32} {kwa : Int32} {kra : Int32} {kla : Nat → Int32} {bsz : Int32} {bgp : Int32} {ber : Int32} {bxs : Nat → Int32} {bus : Nat → Int32} {bys : Nat → Int32} {bme : Nat → Int32} (N : Nat) (C : cx p s m c args D ky A cX8_brake 6 wsX8_brake RX8) (res : Int32 × Int32 × Int32) (hQ : ∀ (pc : Nat) (H : Heap) (locs : List Loc) (ls : Array Slot), decode cX8_brake pc = .ok (.ireturn, 1) → va_P D vwCl (w_xbrake ky aX aB aP aT aR aK aH aG aS ak ax au ay am lo hi res.2.1 res.2.2 ksz kmb kwa kra kla bsz bgp ber bxs bus bys bme) H → va_D A (w_xbrake ky aX aB aP aT aR aK aH aG aS ak ax au ay am lo hi res.2.1 res.2.2 ksz kmb kwa kra kla bsz bgp ber bxs bus bys bme) → va_S A s.heap H locs → W p l e rm_X8_brake s m args below meth c H locs 0 0 Q (F0 m pc ls [.int res.1])) (l1 : Int32) (l2 : Int32) (l3 : Int32) (l4 : Int32) : ∀ (n : Nat) (l5 : Int32) (glo : Int32) (ghi : Int32), f_X8_brake_86 N l1 l2 l3 l4 ksz kla ber n l5 glo ghi = some res → ∀ (H : Heap) (locs : List Loc) (ls : Array Slot), va_P D vwCl (w_xbrake ky aX aB aP aT aR aK aH aG aS ak ax au ay am lo hi glo ghi ksz kmb kwa kra kla bsz bgp ber bxs bus bys bme) H → va_D A (w_xbrake ky aX aB aP aT aR aK aH aG aS ak ax au ay am lo hi glo ghi ksz kmb kwa kra kla bsz bgp ber bxs bus bys bme) → va_S A s.heap H locs → lv_has ls 6 [(0, .ref aX), (1, .int l1), (2, .int l2), (3, .int l3), (4, .int l4), (5, .int l5)] → W p l e rm_X8_brake s m args below meth c H locs 0 0 Q (F0 m 86 ls []) := by
  obtain ⟨hx, hb, hml, hown, hts, hK, hA⟩ := id C
  intro n
  induction n with
  | zero =>
    intro l5 glo ghi hF
    cases hF
  | succ n ih =>
    intro l5 glo ghi hF H locs ls hP hD hS hl
    have hF : b_X8_brake_86 N l1 l2 l3 l4 ksz kla ber (f_X8_brake_86 N l1 l2 l3 l4 ksz kla ber n) l5 glo ghi = some res := hF
    unfold b_X8_brake_86 at hF
    refine lv_iload hx hb dX8_brake_86 (lv_at hl 5 rfl) ?_
    refine lv_iload_n hx hb dX8_brake_88 rfl (lv_at hl 2 rfl) ?_
    refine lv_icmp_gt (tgt := 143) hx hb dX8_brake_89 (by decide) (fun c23 => ?_) (fun c23 => ?_)
    · have hF := if_t c23 hF
      refine lv_bipush (v := (-4 : Int32)) hx hb dX8_brake_143 (by decide) ?_
      have hF := Option.some.inj hF
      subst hF
      exact hQ _ H _ _ dX8_brake_145 hP hD hS
    · have hF := if_f c23 hF
      refine lv_aload_n hx hb dX8_brake_92 rfl (lv_at hl 0 rfl) ?_
      refine va_get (D := D) (ci := 7) (v := .ref aG) (C := RX8) (T := TX8) (N := 8) hx hb hts iX8_brake_X8 hown hK hP 0 rfl rfl 6 (by decide) (hts _ kX8_brake_2) (fun _ h9 => h9) rfl dX8_brake_93 ?_
      refine lv_aload_n hx hb dX8_brake_96 rfl (lv_at hl 0 rfl) ?_
      refine va_get (D := D) (ci := 7) (v := .ref aK) (C := RX8) (T := TX8) (N := 8) hx hb hts iX8_brake_X8 hown hK hP 0 rfl rfl 4 (by decide) (hts _ kX8_brake_1) (fun _ h9 => h9) rfl dX8_brake_97 ?_
      refine lv_iload_n hx hb dX8_brake_100 rfl (lv_at hl 1 rfl) ?_
      refine lv_aload_n hx hb dX8_brake_101 rfl (lv_at hl 0 rfl) ?_
      refine va_get (D := D) (ci := 7) (v := .ref aB) (C := RX8) (T := TX8) (N := 8) hx hb hts iX8_brake_X8 hown hK hP 0 rfl rfl 0 (by decide) (hts _ kX8_brake_4) (fun _ h9 => h9) rfl dX8_brake_102 ?_
      obtain ⟨r25, h24, hF⟩ := b1_s hF
      refine cl_vi (As := []) (rest := [.int l1, .ref aK, .ref aG]) (w' := (w_xbrake ky aX aB aP aT aR aK aH aG aS ak ax au ay am lo hi glo ghi ksz kmb kwa kra kla bsz bgp ber bxs bus bys bme)) ⟨hx, hb, hml, hown, hts⟩ hK hP hD hS hA (c_X0_errorNow l D ky aB ax au ay am _ N  bsz bgp ber bxs bus bys bme  r25 h24) (cwV 0 hts gX8_brake_X0_errorNow rfl rfl rfl (by decide +kernel) ⟨Nat.le_of_ble_eq_true rfl, Nat.le_of_ble_eq_true rfl⟩) [5, 6, 7, 8, 9] [0, 1, 2, 3, 4] [0, 1, 2, 3, 4, 5, 6, 7, 8, 9] 0 0 rfl rfl rfl rfl (wr := [(aX, .inr (7, [.ref aB, .ref aP, .ref aT, .ref aR, .ref aK, .ref aH, .ref aG, .ref aS])), (aH, .inr (1, [.int lo, .int hi])), (aG, .inr (1, [.int glo, .int ghi])), (aK, .inr (2, [.ref ak, .int ksz, .int kmb, .int kwa, .int kra])), (ak, .inl (ky 0, 4, .inl kla))]) rfl (by decide) rfl rfl hl.1 (Nat.le_of_ble_eq_true rfl) dX8_brake_105 ⟨Nat.zero_le _, Nat.zero_le _⟩ (fun H locs hP hD hS => ?_)
      obtain ⟨v27, v28, h26, hF⟩ := b2_s hF
      refine cl_vv (As := [.ref aK, .int l1, .int r25]) (rest := []) (w' := (w_xbrake ky aX aB aP aT aR aK aH aG aS ak ax au ay am lo hi v27 v28 ksz kmb kwa kra kla bsz bgp ber bxs bus bys bme)) ⟨hx, hb, hml, hown, hts⟩ hK hP hD hS hA (c_X1_move l D ky aG aK ak _ N  glo ghi ksz kmb kwa kra kla l1 r25 v27 v28 h26) (cwV 3 hts gX8_brake_X1_move rfl rfl rfl (by decide +kernel) ⟨Nat.le_of_ble_eq_true rfl, Nat.le_of_ble_eq_true rfl⟩) [2, 3, 4] [0, 1, 5, 6, 7, 8, 9] [0, 1, 7, 8, 9, 2, 3, 4, 5, 6] 0 1 rfl rfl rfl rfl (wr := [(aX, .inr (7, [.ref aB, .ref aP, .ref aT, .ref aR, .ref aK, .ref aH, .ref aG, .ref aS])), (aH, .inr (1, [.int lo, .int hi])), (aB, .inr (0, [.ref ax, .ref au, .ref ay, .ref am, .int bsz, .int bgp, .int ber])), (ax, .inl (ky 0, 12, .inl bxs)), (au, .inl (ky 0, 12, .inl bus)), (ay, .inl (ky 0, 12, .inl bys)), (am, .inl (ky 0, 289, .inl bme))]) rfl (by decide) rfl rfl hl.1 (Nat.le_of_ble_eq_true rfl) dX8_brake_108 ⟨Nat.zero_le _, Nat.zero_le _⟩ (fun H locs hP hD hS => ?_)
      refine lv_aload_n hx hb dX8_brake_111 rfl (lv_at hl 0 rfl) ?_
      refine va_get (D := D) (ci := 7) (v := .ref aG) (C := RX8) (T := TX8) (N := 8) hx hb hts iX8_brake_X8 hown hK hP 0 rfl rfl 6 (by decide) (hts _ kX8_brake_2) (fun _ h9 => h9) rfl dX8_brake_112 ?_
      obtain ⟨r30, h29, hF⟩ := b1_s hF
      refine cl_vi (As := []) (rest := []) (w' := (w_xbrake ky aX aB aP aT aR aK aH aG aS ak ax au ay am lo hi v27 v28 ksz kmb kwa kra kla bsz bgp ber bxs bus bys bme)) ⟨hx, hb, hml, hown, hts⟩ hK hP hD hS hA (c_X1_least l D ky aG _ N  v27 v28  r30 h29) (cwV 0 hts gX8_brake_X1_least rfl rfl rfl (by decide +kernel) ⟨Nat.le_of_ble_eq_true rfl, Nat.le_of_ble_eq_true rfl⟩) [2] [0, 1, 3, 4, 5, 6, 7, 8, 9] [0, 1, 9, 2, 3, 4, 5, 6, 7, 8] 0 1 rfl rfl rfl rfl (wr := [(aX, .inr (7, [.ref aB, .ref aP, .ref aT, .ref aR, .ref aK, .ref aH, .ref aG, .ref aS])), (aH, .inr (1, [.int lo, .int hi])), (aK, .inr (2, [.ref ak, .int ksz, .int kmb, .int kwa, .int kra])), (ak, .inl (ky 0, 4, .inl kla)), (aB, .inr (0, [.ref ax, .ref au, .ref ay, .ref am, .int bsz, .int bgp, .int ber])), (ax, .inl (ky 0, 12, .inl bxs)), (au, .inl (ky 0, 12, .inl bus)), (ay, .inl (ky 0, 12, .inl bys)), (am, .inl (ky 0, 289, .inl bme))]) rfl (by decide) rfl rfl hl.1 (Nat.le_of_ble_eq_true rfl) dX8_brake_115 ⟨Nat.zero_le _, Nat.zero_le _⟩ (fun H locs hP hD hS => ?_)
      refine lv_iload_n hx hb dX8_brake_118 rfl (lv_at hl 3 rfl) ?_
      refine lv_icmp_lt (tgt := 134) hx hb dX8_brake_119 (by decide) (fun c31 => ?_) (fun c31 => ?_)
      · have hF := if_t c31 hF
        refine lv_iload hx hb dX8_brake_134 (lv_at hl 5 rfl) ?_
        have hF := Option.some.inj hF
        subst hF
        exact hQ _ H _ _ dX8_brake_136 hP hD hS
      · have hF := if_f c31 hF
        refine lv_aload_n hx hb dX8_brake_122 rfl (lv_at hl 0 rfl) ?_
        refine va_get (D := D) (ci := 7) (v := .ref aG) (C := RX8) (T := TX8) (N := 8) hx hb hts iX8_brake_X8 hown hK hP 0 rfl rfl 6 (by decide) (hts _ kX8_brake_2) (fun _ h9 => h9) rfl dX8_brake_123 ?_
        obtain ⟨r33, h32, hF⟩ := b1_s hF
        refine cl_vi (As := []) (rest := []) (w' := (w_xbrake ky aX aB aP aT aR aK aH aG aS ak ax au ay am lo hi v27 v28 ksz kmb kwa kra kla bsz bgp ber bxs bus bys bme)) ⟨hx, hb, hml, hown, hts⟩ hK hP hD hS hA (c_X1_greatest l D ky aG _ N  v27 v28  r33 h32) (cwV 0 hts gX8_brake_X1_greatest rfl rfl rfl (by decide +kernel) ⟨Nat.le_of_ble_eq_true rfl, Nat.le_of_ble_eq_true rfl⟩) [2] [0, 1, 3, 4, 5, 6, 7, 8, 9] [0, 1, 9, 2, 3, 4, 5, 6, 7, 8] 0 1 rfl rfl rfl rfl (wr := [(aX, .inr (7, [.ref aB, .ref aP, .ref aT, .ref aR, .ref aK, .ref aH, .ref aG, .ref aS])), (aH, .inr (1, [.int lo, .int hi])), (aK, .inr (2, [.ref ak, .int ksz, .int kmb, .int kwa, .int kra])), (ak, .inl (ky 0, 4, .inl kla)), (aB, .inr (0, [.ref ax, .ref au, .ref ay, .ref am, .int bsz, .int bgp, .int ber])), (ax, .inl (ky 0, 12, .inl bxs)), (au, .inl (ky 0, 12, .inl bus)), (ay, .inl (ky 0, 12, .inl bys)), (am, .inl (ky 0, 289, .inl bme))]) rfl (by decide) rfl rfl hl.1 (Nat.le_of_ble_eq_true rfl) dX8_brake_126 ⟨Nat.zero_le _, Nat.zero_le _⟩ (fun H locs hP hD hS => ?_)
        refine lv_iload hx hb dX8_brake_129 (lv_at hl 4 rfl) ?_
        refine lv_icmp_le (tgt := 137) hx hb dX8_brake_131 (by decide) (fun c34 => ?_) (fun c34 => ?_)
        · have hF := if_t c34 hF
          refine lv_iinc (v := (l5 + (1 : Int32))) (lv' := [(5, .int (l5 + (1 : Int32))), (0, .ref aX), (1, .int l1), (2, .int l2), (3, .int l3), (4, .int l4)]) hx hb dX8_brake_137 hl (k := 5) rfl rfl (by decide) rfl (fun ls hl => ?_)
          refine lv_goto (tgt := 86) hx hb dX8_brake_140 (by decide) ?_
          exact ih (l5 + (1 : Int32)) v27 v28 hF H _ _ hP hD hS (lv_sub hl [1, 2, 3, 4, 5, 0] rfl)
        · have hF := if_f c34 hF
          refine lv_iload hx hb dX8_brake_134 (lv_at hl 5 rfl) ?_
          have hF := Option.some.inj hF
          subst hF
          exact hQ _ H _ _ dX8_brake_136 hP hD hS
set_option maxHeartbeats 4000000 in
set_option maxRecDepth 100000 in
theorem cr_X8_brake (l : Launch) (D : va_G) (ky : Nat → ClassId) (aX aB aP aT aR aK aH aG aS ak ax au ay am : Nat) (sz N : Nat)  (lo : Int32) (hi : Int32) (glo : Int32) (ghi : Int32) (ksz : Int32) (kmb : Int32) (kwa : Int32) (kra : Int32) (kla : Nat → Int32) (bsz : Int32) (bgp : Int32) (ber : Int32) (bxs : Nat → Int32) (bus : Nat → Int32) (bys : Nat → Int32) (bme : Nat → Int32) (p0 : Int32) (p1 : Int32) (p2 : Int32) (p3 : Int32) (res : Int32 × Int32 × Int32) (hF : f_X8_brake N p0 p1 p2 p3 lo hi glo ghi ksz kla ber = some res) : MI l yX8_brake wsX8_brake rm_X8_brake D ky sz [.ref aX, .int p0, .int p1, .int p2, .int p3] (w_xbrake ky aX aB aP aT aR aK aH aG aS ak ax au ay am lo hi glo ghi ksz kmb kwa kra kla bsz bgp ber bxs bus bys bme) (w_xbrake ky aX aB aP aT aR aK aH aG aS ak ax au ay am lo hi res.2.1 res.2.2 ksz kmb kwa kra kla bsz bgp ber bxs bus bys bme) res.1 := by
  unfold MI
  refine Met.ofW (cc := cX8_brake) (maxL := 6) (ret := (some .int)) (by decide) rfl ?_
  intro p e s m args below meth c s₁ B hml hv
  obtain ⟨rfl, hsz, hP, hK, hD0⟩ := hv
  have hx := B.exec
  have hb := B.bytes
  have hr := B.returns
  have hts := atoms_spec (ws := wsX8_brake) B.pre
  have hown : s.vm.findClass RX8 = some m.cls := findClass_of_methodNamed B.named
  have hlocks := B.notSynchronized
  subst hsz
  have hD := hD0.self (sz := s.heap.size)
  generalize hAe : va_A (w_xbrake ky aX aB aP aT aR aK aH aG aS ak ax au ay am lo hi glo ghi ksz kmb kwa kra kla bsz bgp ber bxs bus bys bme) s.heap.size = A at hD ⊢
  have hA : ∀ q : Nat, s.heap.size ≤ q → A q := fun q h => by rw [← hAe]; exact Or.inr h
  have hS : va_S A s.heap s.heap [] := va_S.rf
  have hP : va_P D vwCl (w_xbrake ky aX aB aP aT aR aK aH aG aS ak ax au ay am lo hi glo ghi ksz kmb kwa kra kla bsz bgp ber bxs bus bys bme) s.heap := hP
  have hl := lv_entry ([.ref aX, .int p0, .int p1, .int p2, .int p3]) (n := 6) (Nat.le_of_ble_eq_true rfl)
  rw [lg_entry_eq]
  generalize (lg_sl ([.ref aX, .int p0, .int p1, .int p2, .int p3]) ++ List.replicate (6 - (lg_sl ([.ref aX, .int p0, .int p1, .int p2, .int p3])).length) Slot.unset).toArray = ls at hl ⊢
  have hl : lv_has ls 6 [(0, .ref aX), (1, .int p0), (2, .int p1), (3, .int p2), (4, .int p3)] := hl
  have C : cx p s m c ([.ref aX, .int p0, .int p1, .int p2, .int p3]).toArray D ky A cX8_brake 6 wsX8_brake RX8 := ⟨hx, hb, hml, hown, hts, hK, hA⟩
  have hQ : ∀ (pc : Nat) (H : Heap) (locs : List Loc) (ls : Array Slot), decode cX8_brake pc = .ok (.ireturn, 1) → va_P D vwCl (w_xbrake ky aX aB aP aT aR aK aH aG aS ak ax au ay am lo hi res.2.1 res.2.2 ksz kmb kwa kra kla bsz bgp ber bxs bus bys bme) H → va_D A (w_xbrake ky aX aB aP aT aR aK aH aG aS ak ax au ay am lo hi res.2.1 res.2.2 ksz kmb kwa kra kla bsz bgp ber bxs bus bys bme) → va_S A s.heap H locs → W p l e rm_X8_brake s m ([.ref aX, .int p0, .int p1, .int p2, .int p3]).toArray below meth c H locs 0 0 (MQ below (va_Qi (S := Unit) (fun r _ => r = res.1) (fun _ t => va_P D vwCl (w_xbrake ky aX aB aP aT aR aK aH aG aS ak ax au ay am lo hi res.2.1 res.2.2 ksz kmb kwa kra kla bsz bgp ber bxs bus bys bme) t.heap ∧ va_K D vwCl (tyW ky) t ∧ va_D A (w_xbrake ky aX aB aP aT aR aK aH aG aS ak ax au ay am lo hi res.2.1 res.2.2 ksz kmb kwa kra kla bsz bgp ber bxs bus bys bme)) A) ([.ref aX, .int p0, .int p1, .int p2, .int p3]).toArray s 0 0 A) (F0 m pc ls [.int res.1]) := fun pc H locs ls hd hP hD hS => W.iret hx hb hr (fun t ht hW => ⟨⟨res.1, (), rfl, rfl, by rw [ht]; exact hP, va_K.moved hW.alike hK, hD⟩, hS.F ht⟩) hS.2.2 hd
  unfold f_X8_brake at hF
  refine lv_iload_n hx hb dX8_brake_0 rfl (lv_at hl 1 rfl) ?_
  refine lv_bipush (v := (99 : Int32)) hx hb dX8_brake_1 (by decide) ?_
  obtain ⟨r2, h1, hF⟩ := b1_s hF
  refine cl_si (As := [.int p0, .int (99 : Int32)]) (rest := []) ⟨hx, hb, hml, hown, hts⟩ hK hP hD hS hA (c_X8_isNear l D ky  _ N   p0 (99 : Int32) r2 h1) (va_cwS 2 hts gX8_brake_X8_isNear rfl rfl rfl (by decide +kernel) ⟨Nat.le_of_ble_eq_true rfl, Nat.le_of_ble_eq_true rfl⟩) rfl hl.1 (Nat.le_of_ble_eq_true rfl) dX8_brake_3 ⟨Nat.zero_le _, Nat.zero_le _⟩ (fun H locs hP hD hS => ?_)
  refine lv_if_eq (tgt := 47) hx hb dX8_brake_6 (by decide) (fun c3 => ?_) (fun c3 => ?_)
  · have hF := if_t c3 hF
    refine lv_iconst (v := (-1 : Int32)) hx hb dX8_brake_47 (by decide) ?_
    have hF := Option.some.inj hF
    subst hF
    exact hQ _ _ _ _ dX8_brake_48 hP hD hS
  · have hF := if_f c3 hF
    refine lv_iload_n hx hb dX8_brake_9 rfl (lv_at hl 2 rfl) ?_
    refine lv_iconst (v := (1 : Int32)) hx hb dX8_brake_10 (by decide) ?_
    refine lv_icmp_lt (tgt := 47) hx hb dX8_brake_11 (by decide) (fun c4 => ?_) (fun c4 => ?_)
    · have hF := if_t c4 hF
      refine lv_iconst (v := (-1 : Int32)) hx hb dX8_brake_47 (by decide) ?_
      have hF := Option.some.inj hF
      subst hF
      exact hQ _ _ _ _ dX8_brake_48 hP hD hS
    · have hF := if_f c4 hF
      refine lv_iload_n hx hb dX8_brake_14 rfl (lv_at hl 2 rfl) ?_
      refine lv_bipush (v := (40 : Int32)) hx hb dX8_brake_15 (by decide) ?_
      refine lv_icmp_gt (tgt := 47) hx hb dX8_brake_17 (by decide) (fun c5 => ?_) (fun c5 => ?_)
      · have hF := if_t c5 hF
        refine lv_iconst (v := (-1 : Int32)) hx hb dX8_brake_47 (by decide) ?_
        have hF := Option.some.inj hF
        subst hF
        exact hQ _ _ _ _ dX8_brake_48 hP hD hS
      · have hF := if_f c5 hF
        refine lv_iload_n hx hb dX8_brake_20 rfl (lv_at hl 3 rfl) ?_
        refine lv_sipush (v := (9999 : Int32)) hx hb dX8_brake_21 (by decide) ?_
        obtain ⟨r7, h6, hF⟩ := b1_s hF
        refine cl_si (As := [.int p2, .int (9999 : Int32)]) (rest := []) ⟨hx, hb, hml, hown, hts⟩ hK hP hD hS hA (c_X8_isNear l D ky  _ N   p2 (9999 : Int32) r7 h6) (va_cwS 2 hts gX8_brake_X8_isNear rfl rfl rfl (by decide +kernel) ⟨Nat.le_of_ble_eq_true rfl, Nat.le_of_ble_eq_true rfl⟩) rfl hl.1 (Nat.le_of_ble_eq_true rfl) dX8_brake_24 ⟨Nat.zero_le _, Nat.zero_le _⟩ (fun H locs hP hD hS => ?_)
        refine lv_if_eq (tgt := 47) hx hb dX8_brake_27 (by decide) (fun c8 => ?_) (fun c8 => ?_)
        · have hF := if_t c8 hF
          refine lv_iconst (v := (-1 : Int32)) hx hb dX8_brake_47 (by decide) ?_
          have hF := Option.some.inj hF
          subst hF
          exact hQ _ _ _ _ dX8_brake_48 hP hD hS
        · have hF := if_f c8 hF
          refine lv_iload hx hb dX8_brake_30 (lv_at hl 4 rfl) ?_
          refine lv_sipush (v := (9999 : Int32)) hx hb dX8_brake_32 (by decide) ?_
          obtain ⟨r10, h9, hF⟩ := b1_s hF
          refine cl_si (As := [.int p3, .int (9999 : Int32)]) (rest := []) ⟨hx, hb, hml, hown, hts⟩ hK hP hD hS hA (c_X8_isNear l D ky  _ N   p3 (9999 : Int32) r10 h9) (va_cwS 2 hts gX8_brake_X8_isNear rfl rfl rfl (by decide +kernel) ⟨Nat.le_of_ble_eq_true rfl, Nat.le_of_ble_eq_true rfl⟩) rfl hl.1 (Nat.le_of_ble_eq_true rfl) dX8_brake_35 ⟨Nat.zero_le _, Nat.zero_le _⟩ (fun H locs hP hD hS => ?_)
          refine lv_if_eq (tgt := 47) hx hb dX8_brake_38 (by decide) (fun c11 => ?_) (fun c11 => ?_)
          · have hF := if_t c11 hF
            refine lv_iconst (v := (-1 : Int32)) hx hb dX8_brake_47 (by decide) ?_
            have hF := Option.some.inj hF
            subst hF
            exact hQ _ _ _ _ dX8_brake_48 hP hD hS
          · have hF := if_f c11 hF
            refine lv_iload_n hx hb dX8_brake_41 rfl (lv_at hl 3 rfl) ?_
            refine lv_iload hx hb dX8_brake_42 (lv_at hl 4 rfl) ?_
            refine lv_icmp_le (tgt := 49) hx hb dX8_brake_44 (by decide) (fun c12 => ?_) (fun c12 => ?_)
            · have hF := if_t c12 hF
              refine lv_aload_n hx hb dX8_brake_49 rfl (lv_at hl 0 rfl) ?_
              refine va_get (D := D) (ci := 7) (v := .ref aK) (C := RX8) (T := TX8) (N := 8) hx hb hts iX8_brake_X8 hown hK hP 0 rfl rfl 4 (by decide) (hts _ kX8_brake_1) (fun _ h9 => h9) rfl dX8_brake_50 ?_
              obtain ⟨r14, h13, hF⟩ := b1_s hF
              refine cl_vi (As := []) (rest := []) (w' := (w_xbrake ky aX aB aP aT aR aK aH aG aS ak ax au ay am lo hi glo ghi ksz kmb kwa kra kla bsz bgp ber bxs bus bys bme)) ⟨hx, hb, hml, hown, hts⟩ hK hP hD hS hA (c_X2_size l D ky aK ak _ N  ksz kmb kwa kra kla  r14 h13) (cwV 0 hts gX8_brake_X2_size rfl rfl rfl (by decide +kernel) ⟨Nat.le_of_ble_eq_true rfl, Nat.le_of_ble_eq_true rfl⟩) [3, 4] [0, 1, 2, 5, 6, 7, 8, 9] [0, 1, 2, 8, 9, 3, 4, 5, 6, 7] 0 2 rfl rfl rfl rfl (wr := [(aX, .inr (7, [.ref aB, .ref aP, .ref aT, .ref aR, .ref aK, .ref aH, .ref aG, .ref aS])), (aH, .inr (1, [.int lo, .int hi])), (aG, .inr (1, [.int glo, .int ghi])), (aB, .inr (0, [.ref ax, .ref au, .ref ay, .ref am, .int bsz, .int bgp, .int ber])), (ax, .inl (ky 0, 12, .inl bxs)), (au, .inl (ky 0, 12, .inl bus)), (ay, .inl (ky 0, 12, .inl bys)), (am, .inl (ky 0, 289, .inl bme))]) rfl (by decide) rfl rfl hl.1 (Nat.le_of_ble_eq_true rfl) dX8_brake_53 ⟨Nat.zero_le _, Nat.zero_le _⟩ (fun H locs hP hD hS => ?_)
              refine lv_if_ne (tgt := 62) hx hb dX8_brake_56 (by decide) (fun c15 => ?_) (fun c15 => ?_)
              · have hF := if_f c15 hF
                refine lv_aload_n hx hb dX8_brake_62 rfl (lv_at hl 0 rfl) ?_
                refine va_get (D := D) (ci := 7) (v := .ref aG) (C := RX8) (T := TX8) (N := 8) hx hb hts iX8_brake_X8 hown hK hP 0 rfl rfl 6 (by decide) (hts _ kX8_brake_2) (fun _ h9 => h9) rfl dX8_brake_63 ?_
                refine lv_aload_n hx hb dX8_brake_66 rfl (lv_at hl 0 rfl) ?_
                refine va_get (D := D) (ci := 7) (v := .ref aH) (C := RX8) (T := TX8) (N := 8) hx hb hts iX8_brake_X8 hown hK hP 0 rfl rfl 5 (by decide) (hts _ kX8_brake_3) (fun _ h9 => h9) rfl dX8_brake_67 ?_
                obtain ⟨r17, h16, hF⟩ := b1_s hF
                refine cl_vi (As := []) (rest := [.ref aG]) (w' := (w_xbrake ky aX aB aP aT aR aK aH aG aS ak ax au ay am lo hi glo ghi ksz kmb kwa kra kla bsz bgp ber bxs bus bys bme)) ⟨hx, hb, hml, hown, hts⟩ hK hP hD hS hA (c_X1_least l D ky aH _ N  lo hi  r17 h16) (cwV 0 hts gX8_brake_X1_least rfl rfl rfl (by decide +kernel) ⟨Nat.le_of_ble_eq_true rfl, Nat.le_of_ble_eq_true rfl⟩) [1] [0, 2, 3, 4, 5, 6, 7, 8, 9] [0, 9, 1, 2, 3, 4, 5, 6, 7, 8] 0 1 rfl rfl rfl rfl (wr := [(aX, .inr (7, [.ref aB, .ref aP, .ref aT, .ref aR, .ref aK, .ref aH, .ref aG, .ref aS])), (aG, .inr (1, [.int glo, .int ghi])), (aK, .inr (2, [.ref ak, .int ksz, .int kmb, .int kwa, .int kra])), (ak, .inl (ky 0, 4, .inl kla)), (aB, .inr (0, [.ref ax, .ref au, .ref ay, .ref am, .int bsz, .int bgp, .int ber])), (ax, .inl (ky 0, 12, .inl bxs)), (au, .inl (ky 0, 12, .inl bus)), (ay, .inl (ky 0, 12, .inl bys)), (am, .inl (ky 0, 289, .inl bme))]) rfl (by decide) rfl rfl hl.1 (Nat.le_of_ble_eq_true rfl) dX8_brake_70 ⟨Nat.zero_le _, Nat.zero_le _⟩ (fun H locs hP hD hS => ?_)
                refine lv_aload_n hx hb dX8_brake_73 rfl (lv_at hl 0 rfl) ?_
                refine va_get (D := D) (ci := 7) (v := .ref aH) (C := RX8) (T := TX8) (N := 8) hx hb hts iX8_brake_X8 hown hK hP 0 rfl rfl 5 (by decide) (hts _ kX8_brake_3) (fun _ h9 => h9) rfl dX8_brake_74 ?_
                obtain ⟨r19, h18, hF⟩ := b1_s hF
                refine cl_vi (As := []) (rest := [.int r17, .ref aG]) (w' := (w_xbrake ky aX aB aP aT aR aK aH aG aS ak ax au ay am lo hi glo ghi ksz kmb kwa kra kla bsz bgp ber bxs bus bys bme)) ⟨hx, hb, hml, hown, hts⟩ hK hP hD hS hA (c_X1_greatest l D ky aH _ N  lo hi  r19 h18) (cwV 0 hts gX8_brake_X1_greatest rfl rfl rfl (by decide +kernel) ⟨Nat.le_of_ble_eq_true rfl, Nat.le_of_ble_eq_true rfl⟩) [1] [0, 2, 3, 4, 5, 6, 7, 8, 9] [0, 9, 1, 2, 3, 4, 5, 6, 7, 8] 0 1 rfl rfl rfl rfl (wr := [(aX, .inr (7, [.ref aB, .ref aP, .ref aT, .ref aR, .ref aK, .ref aH, .ref aG, .ref aS])), (aG, .inr (1, [.int glo, .int ghi])), (aK, .inr (2, [.ref ak, .int ksz, .int kmb, .int kwa, .int kra])), (ak, .inl (ky 0, 4, .inl kla)), (aB, .inr (0, [.ref ax, .ref au, .ref ay, .ref am, .int bsz, .int bgp, .int ber])), (ax, .inl (ky 0, 12, .inl bxs)), (au, .inl (ky 0, 12, .inl bus)), (ay, .inl (ky 0, 12, .inl bys)), (am, .inl (ky 0, 289, .inl bme))]) rfl (by decide) rfl rfl hl.1 (Nat.le_of_ble_eq_true rfl) dX8_brake_77 ⟨Nat.zero_le _, Nat.zero_le _⟩ (fun H locs hP hD hS => ?_)
                obtain ⟨v21, v22, h20, hF⟩ := b2_s hF
                refine cl_vv (As := [.int r17, .int r19]) (rest := []) (w' := (w_xbrake ky aX aB aP aT aR aK aH aG aS ak ax au ay am lo hi v21 v22 ksz kmb kwa kra kla bsz bgp ber bxs bus bys bme)) ⟨hx, hb, hml, hown, hts⟩ hK hP hD hS hA (c_X1_become l D ky aG _ N  glo ghi r17 r19 v21 v22 h20) (cwV 2 hts gX8_brake_X1_become rfl rfl rfl (by decide +kernel) ⟨Nat.le_of_ble_eq_true rfl, Nat.le_of_ble_eq_true rfl⟩) [2] [0, 1, 3, 4, 5, 6, 7, 8, 9] [0, 1, 9, 2, 3, 4, 5, 6, 7, 8] 0 1 rfl rfl rfl rfl (wr := [(aX, .inr (7, [.ref aB, .ref aP, .ref aT, .ref aR, .ref aK, .ref aH, .ref aG, .ref aS])), (aH, .inr (1, [.int lo, .int hi])), (aK, .inr (2, [.ref ak, .int ksz, .int kmb, .int kwa, .int kra])), (ak, .inl (ky 0, 4, .inl kla)), (aB, .inr (0, [.ref ax, .ref au, .ref ay, .ref am, .int bsz, .int bgp, .int ber])), (ax, .inl (ky 0, 12, .inl bxs)), (au, .inl (ky 0, 12, .inl bus)), (ay, .inl (ky 0, 12, .inl bys)), (am, .inl (ky 0, 289, .inl bme))]) rfl (by decide) rfl rfl hl.1 (Nat.le_of_ble_eq_true rfl) dX8_brake_80 ⟨Nat.zero_le _, Nat.zero_le _⟩ (fun H locs hP hD hS => ?_)
                refine lv_iconst (v := (1 : Int32)) hx hb dX8_brake_83 (by decide) ?_
                refine lv_istore (lv' := [(5, .int (1 : Int32)), (0, .ref aX), (1, .int p0), (2, .int p1), (3, .int p2), (4, .int p3)]) hx hb dX8_brake_84 hl (by decide) rfl (fun ls hl => ?_)
                exact w_X8_brake_86 N C res hQ p0 p1 p2 p3 N (1 : Int32) v21 v22 hF _ _ _ hP hD hS (lv_sub hl [1, 2, 3, 4, 5, 0] rfl)
              · have hF := if_t c15 hF
                refine lv_bipush (v := (-2 : Int32)) hx hb dX8_brake_59 (by decide) ?_
                have hF := Option.some.inj hF
                subst hF
                exact hQ _ _ _ _ dX8_brake_61 hP hD hS
            · have hF := if_f c12 hF
              refine lv_iconst (v := (-1 : Int32)) hx hb dX8_brake_47 (by decide) ?_
              have hF := Option.some.inj hF
              subst hF
              exact hQ _ _ _ _ dX8_brake_48 hP hD hS
theorem c_X8_brake (l : Launch) (D : va_G) (ky : Nat → ClassId) (aX aB aP aT aR aK aH aG aS ak ax au ay am : Nat) (sz N : Nat)  (lo : Int32) (hi : Int32) (glo : Int32) (ghi : Int32) (ksz : Int32) (kmb : Int32) (kwa : Int32) (kra : Int32) (kla : Nat → Int32) (bsz : Int32) (bgp : Int32) (ber : Int32) (bxs : Nat → Int32) (bus : Nat → Int32) (bys : Nat → Int32) (bme : Nat → Int32) (p0 : Int32) (p1 : Int32) (p2 : Int32) (p3 : Int32) (rv : Int32) (glo' : Int32) (ghi' : Int32) (hF : f_X8_brake N p0 p1 p2 p3 lo hi glo ghi ksz kla ber = some (rv, glo', ghi')) : MI l yX8_brake wsX8_brake rm_X8_brake D ky sz [.ref aX, .int p0, .int p1, .int p2, .int p3] (w_xbrake ky aX aB aP aT aR aK aH aG aS ak ax au ay am lo hi glo ghi ksz kmb kwa kra kla bsz bgp ber bxs bus bys bme) (w_xbrake ky aX aB aP aT aR aK aH aG aS ak ax au ay am lo hi glo' ghi' ksz kmb kwa kra kla bsz bgp ber bxs bus bys bme) rv :=
  cr_X8_brake l D ky aX aB aP aT aR aK aH aG aS ak ax au ay am sz N lo hi glo ghi ksz kmb kwa kra kla bsz bgp ber bxs bus bys bme p0 p1 p2 p3 (rv, glo', ghi') hF
abbrev rm_X8_watch : Room := { frames := 3, cells := 0, slots := 0, locals := 69 }
theorem iX8_watch_X8 : ∀ w ∈ wsX80, w ∈ wsX8_watch := by decide +kernel
theorem kX8_watch_1 : (Cond.fieldLink RX8 40 "TwoLaws" "known" "LTwoLaws$Known;") ∈ wsX8_watch := by decide +kernel
theorem kX8_watch_2 : (Cond.fieldLink RX8 10 "TwoLaws" "book" "LTwoLaws$Book;") ∈ wsX8_watch := by decide +kernel
set_option maxHeartbeats 4000000 in
set_option maxRecDepth 100000 in
theorem cr_X8_watch (l : Launch) (D : va_G) (ky : Nat → ClassId) (aX aB aP aT aR aK aH aG aS ak ax au ay am : Nat) (sz N : Nat)  (ksz : Int32) (kmb : Int32) (kwa : Int32) (kra : Int32) (kla : Nat → Int32) (bsz : Int32) (bgp : Int32) (ber : Int32) (bxs : Nat → Int32) (bus : Nat → Int32) (bys : Nat → Int32) (bme : Nat → Int32) (p0 : Int32) (p1 : Int32) (p2 : Int32) (res : Int32 × Int32 × Int32 × Int32) (hF : f_X8_watch N p0 p1 p2 ksz kmb kwa kra kla ber = some res) : MI l yX8_watch wsX8_watch rm_X8_watch D ky sz [.ref aX, .int p0, .int p1, .int p2] (w_xkb ky aX aB aP aT aR aK aH aG aS ak ax au ay am ksz kmb kwa kra kla bsz bgp ber bxs bus bys bme) (w_xkb ky aX aB aP aT aR aK aH aG aS ak ax au ay am ksz res.2.1 res.2.2.1 res.2.2.2 kla bsz bgp ber bxs bus bys bme) res.1 := by
  unfold MI
  refine Met.ofW (cc := cX8_watch) (maxL := 4) (ret := (some .int)) (by decide) rfl ?_
  intro p e s m args below meth c s₁ B hml hv
  obtain ⟨rfl, hsz, hP, hK, hD0⟩ := hv
  have hx := B.exec
  have hb := B.bytes
  have hr := B.returns
  have hts := atoms_spec (ws := wsX8_watch) B.pre
  have hown : s.vm.findClass RX8 = some m.cls := findClass_of_methodNamed B.named
  have hlocks := B.notSynchronized
  subst hsz
  have hD := hD0.self (sz := s.heap.size)
  generalize hAe : va_A (w_xkb ky aX aB aP aT aR aK aH aG aS ak ax au ay am ksz kmb kwa kra kla bsz bgp ber bxs bus bys bme) s.heap.size = A at hD ⊢
  have hA : ∀ q : Nat, s.heap.size ≤ q → A q := fun q h => by rw [← hAe]; exact Or.inr h
  have hS : va_S A s.heap s.heap [] := va_S.rf
  have hP : va_P D vwCl (w_xkb ky aX aB aP aT aR aK aH aG aS ak ax au ay am ksz kmb kwa kra kla bsz bgp ber bxs bus bys bme) s.heap := hP
  have hl := lv_entry ([.ref aX, .int p0, .int p1, .int p2]) (n := 4) (Nat.le_of_ble_eq_true rfl)
  rw [lg_entry_eq]
  generalize (lg_sl ([.ref aX, .int p0, .int p1, .int p2]) ++ List.replicate (4 - (lg_sl ([.ref aX, .int p0, .int p1, .int p2])).length) Slot.unset).toArray = ls at hl ⊢
  have hl : lv_has ls 4 [(0, .ref aX), (1, .int p0), (2, .int p1), (3, .int p2)] := hl
  have C : cx p s m c ([.ref aX, .int p0, .int p1, .int p2]).toArray D ky A cX8_watch 4 wsX8_watch RX8 := ⟨hx, hb, hml, hown, hts, hK, hA⟩
  have hQ : ∀ (pc : Nat) (H : Heap) (locs : List Loc) (ls : Array Slot), decode cX8_watch pc = .ok (.ireturn, 1) → va_P D vwCl (w_xkb ky aX aB aP aT aR aK aH aG aS ak ax au ay am ksz res.2.1 res.2.2.1 res.2.2.2 kla bsz bgp ber bxs bus bys bme) H → va_D A (w_xkb ky aX aB aP aT aR aK aH aG aS ak ax au ay am ksz res.2.1 res.2.2.1 res.2.2.2 kla bsz bgp ber bxs bus bys bme) → va_S A s.heap H locs → W p l e rm_X8_watch s m ([.ref aX, .int p0, .int p1, .int p2]).toArray below meth c H locs 0 0 (MQ below (va_Qi (S := Unit) (fun r _ => r = res.1) (fun _ t => va_P D vwCl (w_xkb ky aX aB aP aT aR aK aH aG aS ak ax au ay am ksz res.2.1 res.2.2.1 res.2.2.2 kla bsz bgp ber bxs bus bys bme) t.heap ∧ va_K D vwCl (tyW ky) t ∧ va_D A (w_xkb ky aX aB aP aT aR aK aH aG aS ak ax au ay am ksz res.2.1 res.2.2.1 res.2.2.2 kla bsz bgp ber bxs bus bys bme)) A) ([.ref aX, .int p0, .int p1, .int p2]).toArray s 0 0 A) (F0 m pc ls [.int res.1]) := fun pc H locs ls hd hP hD hS => W.iret hx hb hr (fun t ht hW => ⟨⟨res.1, (), rfl, rfl, by rw [ht]; exact hP, va_K.moved hW.alike hK, hD⟩, hS.F ht⟩) hS.2.2 hd
  unfold f_X8_watch at hF
  refine lv_iload_n hx hb dX8_watch_0 rfl (lv_at hl 1 rfl) ?_
  refine lv_bipush (v := (99 : Int32)) hx hb dX8_watch_1 (by decide) ?_
  obtain ⟨r2, h1, hF⟩ := b1_s hF
  refine cl_si (As := [.int p0, .int (99 : Int32)]) (rest := []) ⟨hx, hb, hml, hown, hts⟩ hK hP hD hS hA (c_X8_isNear l D ky  _ N   p0 (99 : Int32) r2 h1) (va_cwS 2 hts gX8_watch_X8_isNear rfl rfl rfl (by decide +kernel) ⟨Nat.le_of_ble_eq_true rfl, Nat.le_of_ble_eq_true rfl⟩) rfl hl.1 (Nat.le_of_ble_eq_true rfl) dX8_watch_3 ⟨Nat.zero_le _, Nat.zero_le _⟩ (fun H locs hP hD hS => ?_)
  refine lv_if_eq (tgt := 27) hx hb dX8_watch_6 (by decide) (fun c3 => ?_) (fun c3 => ?_)
  · have hF := if_t c3 hF
    refine lv_iconst (v := (-1 : Int32)) hx hb dX8_watch_27 (by decide) ?_
    have hF := Option.some.inj hF
    subst hF
    exact hQ _ _ _ _ dX8_watch_28 hP hD hS
  · have hF := if_f c3 hF
    refine lv_iload_n hx hb dX8_watch_9 rfl (lv_at hl 2 rfl) ?_
    refine lv_bipush (v := (99 : Int32)) hx hb dX8_watch_10 (by decide) ?_
    obtain ⟨r5, h4, hF⟩ := b1_s hF
    refine cl_si (As := [.int p1, .int (99 : Int32)]) (rest := []) ⟨hx, hb, hml, hown, hts⟩ hK hP hD hS hA (c_X8_isNear l D ky  _ N   p1 (99 : Int32) r5 h4) (va_cwS 2 hts gX8_watch_X8_isNear rfl rfl rfl (by decide +kernel) ⟨Nat.le_of_ble_eq_true rfl, Nat.le_of_ble_eq_true rfl⟩) rfl hl.1 (Nat.le_of_ble_eq_true rfl) dX8_watch_12 ⟨Nat.zero_le _, Nat.zero_le _⟩ (fun H locs hP hD hS => ?_)
    refine lv_if_eq (tgt := 27) hx hb dX8_watch_15 (by decide) (fun c6 => ?_) (fun c6 => ?_)
    · have hF := if_t c6 hF
      refine lv_iconst (v := (-1 : Int32)) hx hb dX8_watch_27 (by decide) ?_
      have hF := Option.some.inj hF
      subst hF
      exact hQ _ _ _ _ dX8_watch_28 hP hD hS
    · have hF := if_f c6 hF
      refine lv_iload_n hx hb dX8_watch_18 rfl (lv_at hl 3 rfl) ?_
      refine lv_bipush (v := (99 : Int32)) hx hb dX8_watch_19 (by decide) ?_
      obtain ⟨r8, h7, hF⟩ := b1_s hF
      refine cl_si (As := [.int p2, .int (99 : Int32)]) (rest := []) ⟨hx, hb, hml, hown, hts⟩ hK hP hD hS hA (c_X8_isNear l D ky  _ N   p2 (99 : Int32) r8 h7) (va_cwS 2 hts gX8_watch_X8_isNear rfl rfl rfl (by decide +kernel) ⟨Nat.le_of_ble_eq_true rfl, Nat.le_of_ble_eq_true rfl⟩) rfl hl.1 (Nat.le_of_ble_eq_true rfl) dX8_watch_21 ⟨Nat.zero_le _, Nat.zero_le _⟩ (fun H locs hP hD hS => ?_)
      refine lv_if_ne (tgt := 29) hx hb dX8_watch_24 (by decide) (fun c9 => ?_) (fun c9 => ?_)
      · have hF := if_f c9 hF
        refine lv_aload_n hx hb dX8_watch_29 rfl (lv_at hl 0 rfl) ?_
        refine va_get (D := D) (ci := 7) (v := .ref aK) (C := RX8) (T := TX8) (N := 8) hx hb hts iX8_watch_X8 hown hK hP 0 rfl rfl 4 (by decide) (hts _ kX8_watch_1) (fun _ h9 => h9) rfl dX8_watch_30 ?_
        obtain ⟨r11, h10, hF⟩ := b1_s hF
        refine cl_vi (As := []) (rest := []) (w' := (w_xkb ky aX aB aP aT aR aK aH aG aS ak ax au ay am ksz kmb kwa kra kla bsz bgp ber bxs bus bys bme)) ⟨hx, hb, hml, hown, hts⟩ hK hP hD hS hA (c_X2_size l D ky aK ak _ N  ksz kmb kwa kra kla  r11 h10) (cwV 0 hts gX8_watch_X2_size rfl rfl rfl (by decide +kernel) ⟨Nat.le_of_ble_eq_true rfl, Nat.le_of_ble_eq_true rfl⟩) [1, 2] [0, 3, 4, 5, 6, 7] [0, 6, 7, 1, 2, 3, 4, 5] 0 2 rfl rfl rfl rfl (wr := [(aX, .inr (7, [.ref aB, .ref aP, .ref aT, .ref aR, .ref aK, .ref aH, .ref aG, .ref aS])), (aB, .inr (0, [.ref ax, .ref au, .ref ay, .ref am, .int bsz, .int bgp, .int ber])), (ax, .inl (ky 0, 12, .inl bxs)), (au, .inl (ky 0, 12, .inl bus)), (ay, .inl (ky 0, 12, .inl bys)), (am, .inl (ky 0, 289, .inl bme))]) rfl (by decide) rfl rfl hl.1 (Nat.le_of_ble_eq_true rfl) dX8_watch_33 ⟨Nat.zero_le _, Nat.zero_le _⟩ (fun H locs hP hD hS => ?_)
        refine lv_if_ne (tgt := 42) hx hb dX8_watch_36 (by decide) (fun c12 => ?_) (fun c12 => ?_)
        · have hF := if_f c12 hF
          refine lv_aload_n hx hb dX8_watch_42 rfl (lv_at hl 0 rfl) ?_
          refine va_get (D := D) (ci := 7) (v := .ref aK) (C := RX8) (T := TX8) (N := 8) hx hb hts iX8_watch_X8 hown hK hP 0 rfl rfl 4 (by decide) (hts _ kX8_watch_1) (fun _ h9 => h9) rfl dX8_watch_43 ?_
          refine lv_iload_n hx hb dX8_watch_46 rfl (lv_at hl 1 rfl) ?_
          refine lv_iload_n hx hb dX8_watch_47 rfl (lv_at hl 2 rfl) ?_
          refine lv_iload_n hx hb dX8_watch_48 rfl (lv_at hl 3 rfl) ?_
          refine lv_aload_n hx hb dX8_watch_49 rfl (lv_at hl 0 rfl) ?_
          refine va_get (D := D) (ci := 7) (v := .ref aB) (C := RX8) (T := TX8) (N := 8) hx hb hts iX8_watch_X8 hown hK hP 0 rfl rfl 0 (by decide) (hts _ kX8_watch_2) (fun _ h9 => h9) rfl dX8_watch_50 ?_
          obtain ⟨r14, h13, hF⟩ := b1_s hF
          refine cl_vi (As := []) (rest := [.int p2, .int p1, .int p0, .ref aK]) (w' := (w_xkb ky aX aB aP aT aR aK aH aG aS ak ax au ay am ksz kmb kwa kra kla bsz bgp ber bxs bus bys bme)) ⟨hx, hb, hml, hown, hts⟩ hK hP hD hS hA (c_X0_errorNow l D ky aB ax au ay am _ N  bsz bgp ber bxs bus bys bme  r14 h13) (cwV 0 hts gX8_watch_X0_errorNow rfl rfl rfl (by decide +kernel) ⟨Nat.le_of_ble_eq_true rfl, Nat.le_of_ble_eq_true rfl⟩) [3, 4, 5, 6, 7] [0, 1, 2] [0, 1, 2, 3, 4, 5, 6, 7] 0 0 rfl rfl rfl rfl (wr := [(aX, .inr (7, [.ref aB, .ref aP, .ref aT, .ref aR, .ref aK, .ref aH, .ref aG, .ref aS])), (aK, .inr (2, [.ref ak, .int ksz, .int kmb, .int kwa, .int kra])), (ak, .inl (ky 0, 4, .inl kla))]) rfl (by decide) rfl rfl hl.1 (Nat.le_of_ble_eq_true rfl) dX8_watch_53 ⟨Nat.zero_le _, Nat.zero_le _⟩ (fun H locs hP hD hS => ?_)
          obtain ⟨r16, v17, v18, v19, h15, hF⟩ := b4_s hF
          refine cl_vi (As := [.int p0, .int p1, .int p2, .int r14]) (rest := []) (w' := (w_xkb ky aX aB aP aT aR aK aH aG aS ak ax au ay am ksz v17 v18 v19 kla bsz bgp ber bxs bus bys bme)) ⟨hx, hb, hml, hown, hts⟩ hK hP hD hS hA (c_X2_see l D ky aK ak _ N  ksz kmb kwa kra kla p0 p1 p2 r14 r16 v17 v18 v19 h15) (cwV 4 hts gX8_watch_X2_see rfl rfl rfl (by decide +kernel) ⟨Nat.le_of_ble_eq_true rfl, Nat.le_of_ble_eq_true rfl⟩) [1, 2] [0, 3, 4, 5, 6, 7] [0, 6, 7, 1, 2, 3, 4, 5] 0 2 rfl rfl rfl rfl (wr := [(aX, .inr (7, [.ref aB, .ref aP, .ref aT, .ref aR, .ref aK, .ref aH, .ref aG, .ref aS])), (aB, .inr (0, [.ref ax, .ref au, .ref ay, .ref am, .int bsz, .int bgp, .int ber])), (ax, .inl (ky 0, 12, .inl bxs)), (au, .inl (ky 0, 12, .inl bus)), (ay, .inl (ky 0, 12, .inl bys)), (am, .inl (ky 0, 289, .inl bme))]) rfl (by decide) rfl rfl hl.1 (Nat.le_of_ble_eq_true rfl) dX8_watch_56 ⟨Nat.zero_le _, Nat.zero_le _⟩ (fun H locs hP hD hS => ?_)
          have hF := Option.some.inj hF
          subst hF
          exact hQ _ _ _ _ dX8_watch_59 hP hD hS
        · have hF := if_t c12 hF
          refine lv_bipush (v := (-2 : Int32)) hx hb dX8_watch_39 (by decide) ?_
          have hF := Option.some.inj hF
          subst hF
          exact hQ _ _ _ _ dX8_watch_41 hP hD hS
      · have hF := if_t c9 hF
        refine lv_iconst (v := (-1 : Int32)) hx hb dX8_watch_27 (by decide) ?_
        have hF := Option.some.inj hF
        subst hF
        exact hQ _ _ _ _ dX8_watch_28 hP hD hS
theorem c_X8_watch (l : Launch) (D : va_G) (ky : Nat → ClassId) (aX aB aP aT aR aK aH aG aS ak ax au ay am : Nat) (sz N : Nat)  (ksz : Int32) (kmb : Int32) (kwa : Int32) (kra : Int32) (kla : Nat → Int32) (bsz : Int32) (bgp : Int32) (ber : Int32) (bxs : Nat → Int32) (bus : Nat → Int32) (bys : Nat → Int32) (bme : Nat → Int32) (p0 : Int32) (p1 : Int32) (p2 : Int32) (rv : Int32) (kmb' : Int32) (kwa' : Int32) (kra' : Int32) (hF : f_X8_watch N p0 p1 p2 ksz kmb kwa kra kla ber = some (rv, kmb', kwa', kra')) : MI l yX8_watch wsX8_watch rm_X8_watch D ky sz [.ref aX, .int p0, .int p1, .int p2] (w_xkb ky aX aB aP aT aR aK aH aG aS ak ax au ay am ksz kmb kwa kra kla bsz bgp ber bxs bus bys bme) (w_xkb ky aX aB aP aT aR aK aH aG aS ak ax au ay am ksz kmb' kwa' kra' kla bsz bgp ber bxs bus bys bme) rv :=
  cr_X8_watch l D ky aX aB aP aT aR aK aH aG aS ak ax au ay am sz N ksz kmb kwa kra kla bsz bgp ber bxs bus bys bme p0 p1 p2 (rv, kmb', kwa', kra') hF
