def b_X9_worst_22 (N : Nat) (k8 : Int32 → Int32 → Option (Int32)) (l1 : Int32) (l2 : Int32) (l3 : Int32) (l4 : Int32) (l5 : Int32) (mer : Int32) (dlt : Nat → Int32) (k22 : Int32 → Int32 → Option (Int32)) (l6 : Int32) (l7 : Int32) : Option (Int32) :=
  (if (289 : Int32) ≤ l7 then (if l6 ≤ l4 then k8 l4 (l5 + (1 : Int32)) else k8 l6 (l5 + (1 : Int32))) else gi l7 289 ((if (dlt l7.toNatClampNeg) = 0 then k22 (l6 + (0 : Int32)) (l7 + (1 : Int32)) else b1 (f_X9_fits N l7 l2 l3 l5 mer) (fun r8 => (if r8 = 0 then k22 (l6 + (0 : Int32)) (l7 + (1 : Int32)) else k22 (l6 + (1 : Int32)) (l7 + (1 : Int32)))))))
def f_X9_worst_22 (N : Nat) (k8 : Int32 → Int32 → Option (Int32)) (l1 : Int32) (l2 : Int32) (l3 : Int32) (l4 : Int32) (l5 : Int32) (mer : Int32) (dlt : Nat → Int32) : Nat → Int32 → Int32 → Option (Int32)
  | 0, _, _ => none
  | n + 1, l6, l7 => b_X9_worst_22 N k8 l1 l2 l3 l4 l5 mer dlt (f_X9_worst_22 N k8 l1 l2 l3 l4 l5 mer dlt n) l6 l7
def b_X9_worst_8 (N : Nat)  (l1 : Int32) (l2 : Int32) (l3 : Int32) (mer : Int32) (dlt : Nat → Int32) (k8 : Int32 → Int32 → Option (Int32)) (l4 : Int32) (l5 : Int32) : Option (Int32) :=
  (if (260 : Int32) < l5 then (if 0 ≤ l1 then some (l4) else some ((0 : Int32))) else f_X9_worst_22 N k8 l1 l2 l3 l4 l5 mer dlt N (0 : Int32) (0 : Int32))
def f_X9_worst_8 (N : Nat)  (l1 : Int32) (l2 : Int32) (l3 : Int32) (mer : Int32) (dlt : Nat → Int32) : Nat → Int32 → Int32 → Option (Int32)
  | 0, _, _ => none
  | n + 1, l4, l5 => b_X9_worst_8 N l1 l2 l3 mer dlt (f_X9_worst_8 N l1 l2 l3 mer dlt n) l4 l5
def f_X9_worst (N : Nat) (p0 : Int32) (p1 : Int32) (p2 : Int32) (mer : Int32) (dlt : Nat → Int32) : Option (Int32) :=
  f_X9_worst_8 N p0 p1 p2 mer dlt N (0 : Int32) (-260 : Int32)
def b_X9_laysLet_4 (N : Nat)  (l1 : Int32) (mrm : Int32) (mer : Int32) (dxs : Nat → Int32) (dus : Nat → Int32) (dys : Nat → Int32) (dgp : Nat → Int32) (k4 : Int32 → Int32 → (Nat → Int32) → Option (Int32 × (Nat → Int32))) (l2 : Int32) (l3 : Int32) (dlt : Nat → Int32) : Option (Int32 × (Nat → Int32)) :=
  (if (289 : Int32) ≤ l3 then some (l2, dlt) else b1 (f_X9_isLet N l1 l3 mrm mer dxs dus dys dgp) (fun r3 => gi l3 289 (gi l3 289 ((if ((upd dlt l3.toNatClampNeg (vp_nar .boolean r3)) l3.toNatClampNeg) = 0 then k4 (l2 + (0 : Int32)) (l3 + (1 : Int32)) (upd dlt l3.toNatClampNeg (vp_nar .boolean r3)) else k4 (l2 + (1 : Int32)) (l3 + (1 : Int32)) (upd dlt l3.toNatClampNeg (vp_nar .boolean r3)))))))
def f_X9_laysLet_4 (N : Nat)  (l1 : Int32) (mrm : Int32) (mer : Int32) (dxs : Nat → Int32) (dus : Nat → Int32) (dys : Nat → Int32) (dgp : Nat → Int32) : Nat → Int32 → Int32 → (Nat → Int32) → Option (Int32 × (Nat → Int32))
  | 0, _, _, _ => none
  | n + 1, l2, l3, dlt => b_X9_laysLet_4 N l1 mrm mer dxs dus dys dgp (f_X9_laysLet_4 N l1 mrm mer dxs dus dys dgp n) l2 l3 dlt
def f_X9_laysLet (N : Nat) (p0 : Int32) (mrm : Int32) (mer : Int32) (dxs : Nat → Int32) (dus : Nat → Int32) (dys : Nat → Int32) (dgp : Nat → Int32) (dlt : Nat → Int32) : Option (Int32 × (Nat → Int32)) :=
  f_X9_laysLet_4 N p0 mrm mer dxs dus dys dgp N (0 : Int32) (0 : Int32) dlt
def f_X9_tries (N : Nat) (p0 : Int32) (p1 : Int32) (p2 : Int32) (mrm : Int32) (mer : Int32) (dxs : Nat → Int32) (dus : Nat → Int32) (dys : Nat → Int32) (dgp : Nat → Int32) (dlt : Nat → Int32) : Option (Int32 × (Nat → Int32)) :=
  b1 (f_X9_isHeap N p0 mrm) (fun r2 => (if r2 = 0 then some ((-1 : Int32), dlt) else b1 (f_X9_isSmall N p1) (fun r5 => (if r5 = 0 then some ((-1 : Int32), dlt) else b1 (f_X9_in N (p2.toInt64) (-9 : Int64) (9 : Int64)) (fun r8 => (if r8 = 0 then some ((-1 : Int32), dlt) else b2 (f_X9_laysLet N p0 mrm mer dxs dus dys dgp dlt) (fun r11 v12 => (if r11 = 0 then some ((-4 : Int32), v12) else b1 (f_X9_worst N p0 p1 p2 mer v12) (fun r15 => some (r15, v12))))))))))
def f_X9_best_75 (N : Nat) (k39 : Int32 → Int32 → Int32 → Option (Int32 × (Nat → Int32))) (l1 : Int32) (l2 : Int32) (l4 : Int32) (l5 : Int32) (l6 : Int32) (t0 : Int32) (mer : Int32) (dlt : Nat → Int32) : Option (Int32 × (Nat → Int32)) :=
  (if l4 ≤ l6 then k39 t0 l4 (l5 + (1 : Int32)) else k39 t0 l6 (l5 + (1 : Int32)))
def b_X9_best_39 (N : Nat)  (l1 : Int32) (l2 : Int32) (mer : Int32) (dlt : Nat → Int32) (k39 : Int32 → Int32 → Int32 → Option (Int32 × (Nat → Int32))) (l3 : Int32) (l4 : Int32) (l5 : Int32) : Option (Int32 × (Nat → Int32)) :=
  (if (19 : Int32) ≤ l5 then some (l3, dlt) else b1 (f_X9_pushAt N l5) (fun r13 => b1 (f_X9_worst N l1 l2 r13 mer dlt) (fun r15 => (if l4 ≤ r15 then f_X9_best_75 N k39 l1 l2 l4 l5 r15 l3 mer dlt else b1 (f_X9_pushAt N l5) (fun r18 => f_X9_best_75 N k39 l1 l2 l4 l5 r15 r18 mer dlt)))))
def f_X9_best_39 (N : Nat)  (l1 : Int32) (l2 : Int32) (mer : Int32) (dlt : Nat → Int32) : Nat → Int32 → Int32 → Int32 → Option (Int32 × (Nat → Int32))
  | 0, _, _, _ => none
  | n + 1, l3, l4, l5 => b_X9_best_39 N l1 l2 mer dlt (f_X9_best_39 N l1 l2 mer dlt n) l3 l4 l5
def f_X9_best (N : Nat) (p0 : Int32) (p1 : Int32) (mrm : Int32) (mer : Int32) (dxs : Nat → Int32) (dus : Nat → Int32) (dys : Nat → Int32) (dgp : Nat → Int32) (dlt : Nat → Int32) : Option (Int32 × (Nat → Int32)) :=
  b1 (f_X9_isHeap N p0 mrm) (fun r2 => (if r2 = 0 then some ((-1000001 : Int32), dlt) else b1 (f_X9_isSmall N p1) (fun r5 => (if r5 = 0 then some ((-1000001 : Int32), dlt) else b2 (f_X9_laysLet N p0 mrm mer dxs dus dys dgp dlt) (fun r8 v9 => (if r8 = 0 then some ((-1000004 : Int32), v9) else f_X9_best_39 N p0 p1 mer v9 N (0 : Int32) (1000 : Int32) (0 : Int32)))))))
def f_X9_apart_95 (N : Nat) (k27 : Int32 → Option (Int32)) (l1 : Int32) (l2 : Int32) (l3 : Int32) (l4 : Int32) (l7 : Int32) (t0 : Int32) (mer : Int32) : Option (Int32) :=
  b1 (f_X9_higher N l7) (fun r22 => b1 (f_X9_lower N (t0 + ((4 : Int32) * mer))) (fun r24 => (if r22 ≤ r24 then k27 (l4 + (1 : Int32)) else b1 (f_X9_pushAt N l4) (fun r27 => some (r27)))))
def f_X9_apart_72 (N : Nat) (k27 : Int32 → Option (Int32)) (l1 : Int32) (l2 : Int32) (l3 : Int32) (l4 : Int32) (l5 : Int32) (l6 : Int32) (t0 : Int32) (mer : Int32) : Option (Int32) :=
  (if l6 ≤ l5 then f_X9_apart_95 N k27 l1 l2 l3 l4 (t0 - ((4 : Int32) * mer)) l6 mer else f_X9_apart_95 N k27 l1 l2 l3 l4 (t0 - ((4 : Int32) * mer)) l5 mer)
def b_X9_apart_27 (N : Nat)  (l1 : Int32) (l2 : Int32) (l3 : Int32) (mer : Int32) (k27 : Int32 → Option (Int32)) (l4 : Int32) : Option (Int32) :=
  (if (19 : Int32) ≤ l4 then some ((-1000004 : Int32)) else b1 (f_X9_pushAt N l4) (fun r12 => b1 (f_X9_sumOf N l1 l3 r12) (fun r14 => b1 (f_X9_pushAt N l4) (fun r16 => b1 (f_X9_sumOf N l2 l3 r16) (fun r18 => (if r14 ≤ r18 then f_X9_apart_72 N k27 l1 l2 l3 l4 r14 r18 r18 mer else f_X9_apart_72 N k27 l1 l2 l3 l4 r14 r18 r14 mer))))))
def f_X9_apart_27 (N : Nat)  (l1 : Int32) (l2 : Int32) (l3 : Int32) (mer : Int32) : Nat → Int32 → Option (Int32)
  | 0, _ => none
  | n + 1, l4 => b_X9_apart_27 N l1 l2 l3 mer (f_X9_apart_27 N l1 l2 l3 mer n) l4
def f_X9_apart (N : Nat) (p0 : Int32) (p1 : Int32) (p2 : Int32) (mer : Int32) : Option (Int32) :=
  b1 (f_X9_isLaw N p0) (fun r2 => (if r2 = 0 then some ((-1000001 : Int32)) else b1 (f_X9_isLaw N p1) (fun r5 => (if r5 = 0 then some ((-1000001 : Int32)) else b1 (f_X9_isSmall N p2) (fun r8 => (if r8 = 0 then some ((-1000001 : Int32)) else f_X9_apart_27 N p0 p1 p2 mer N (0 : Int32)))))))
def b_X9_know_11 (N : Nat)  (l1 : Int32) (k11 : Int32 → Int32 → Int32 → (Nat → Int32) → Option (Int32 × Int32 × Int32 × (Nat → Int32))) (l2 : Int32) (mkn : Int32) (mmb : Int32) (dkl : Nat → Int32) : Option (Int32 × Int32 × Int32 × (Nat → Int32)) :=
  (if mkn ≤ l2 then (if mkn = (4 : Int32) then some ((-3 : Int32), mkn, mmb, dkl) else gi mkn 4 (nm (((1 : Int32) <<< ((mkn + (1 : Int32)) &&& 31)) - (1 : Int32)) (fun v7 => some (((mkn + (1 : Int32)) - (1 : Int32)), (mkn + (1 : Int32)), v7, (upd dkl mkn.toNatClampNeg l1))))) else gi l2 4 ((if (dkl l2.toNatClampNeg) = l1 then some ((-2 : Int32), mkn, mmb, dkl) else k11 (l2 + (1 : Int32)) mkn mmb dkl)))
def f_X9_know_11 (N : Nat)  (l1 : Int32) : Nat → Int32 → Int32 → Int32 → (Nat → Int32) → Option (Int32 × Int32 × Int32 × (Nat → Int32))
  | 0, _, _, _, _ => none
  | n + 1, l2, mkn, mmb, dkl => b_X9_know_11 N l1 (f_X9_know_11 N l1 n) l2 mkn mmb dkl
def f_X9_know (N : Nat) (p0 : Int32) (mkn : Int32) (mmb : Int32) (dkl : Nat → Int32) : Option (Int32 × Int32 × Int32 × (Nat → Int32)) :=
  b1 (f_X9_isLaw N p0) (fun r2 => (if r2 = 0 then some ((-1 : Int32), mkn, mmb, dkl) else f_X9_know_11 N p0 N (0 : Int32) mkn mmb dkl))
def f_X9_box (N : Nat) (p0 : Int32) (p1 : Int32) (mbl : Int32) (mbh : Int32) : Option (Int32 × Int32 × Int32) :=
  b1 (f_X9_isState N p0) (fun r2 => (if r2 = 0 then some ((-1 : Int32), mbl, mbh) else b1 (f_X9_isState N p1) (fun r5 => (if r5 = 0 then some ((-1 : Int32), mbl, mbh) else (if p0 ≤ p1 then some ((1 : Int32), p0, p1) else some ((-1 : Int32), mbl, mbh))))))
def f_X9_steps_99 (N : Nat) (k7 : Int32 → Int32 → Int32 → Int32 → Int32 → Option (Int32 × Int32)) (l1 : Int32) (l3 : Int32) (l4 : Int32) (l8 : Int32) (t0 : Int32) (mer : Int32) (mkn : Int32) (mbl : Int32) (mbh : Int32) (dkl : Nat → Int32) : Option (Int32 × Int32) :=
  (if l4 = 0 then k7 t0 l8 (l4 + (1 : Int32)) mbl mbh else (if l8 ≤ l3 then k7 t0 l3 (l4 + (1 : Int32)) mbl mbh else k7 t0 l8 (l4 + (1 : Int32)) mbl mbh))
def f_X9_steps_80 (N : Nat) (k7 : Int32 → Int32 → Int32 → Int32 → Int32 → Option (Int32 × Int32)) (l1 : Int32) (l2 : Int32) (l3 : Int32) (l4 : Int32) (l7 : Int32) (t0 : Int32) (mer : Int32) (mkn : Int32) (mbl : Int32) (mbh : Int32) (dkl : Nat → Int32) : Option (Int32 × Int32) :=
  (if l4 = 0 then f_X9_steps_99 N k7 l1 l3 l4 t0 l7 mer mkn mbl mbh dkl else (if l2 ≤ l7 then f_X9_steps_99 N k7 l1 l3 l4 t0 l2 mer mkn mbl mbh dkl else f_X9_steps_99 N k7 l1 l3 l4 t0 l7 mer mkn mbl mbh dkl))
def f_X9_steps_64 (N : Nat) (k7 : Int32 → Int32 → Int32 → Int32 → Int32 → Option (Int32 × Int32)) (l1 : Int32) (l2 : Int32) (l3 : Int32) (l4 : Int32) (l5 : Int32) (l6 : Int32) (t0 : Int32) (mer : Int32) (mkn : Int32) (mbl : Int32) (mbh : Int32) (dkl : Nat → Int32) : Option (Int32 × Int32) :=
  (if l6 ≤ l5 then f_X9_steps_80 N k7 l1 l2 l3 l4 t0 l5 mer mkn mbl mbh dkl else f_X9_steps_80 N k7 l1 l2 l3 l4 t0 l6 mer mkn mbl mbh dkl)
def b_X9_steps_7 (N : Nat)  (l1 : Int32) (mer : Int32) (mkn : Int32) (dkl : Nat → Int32) (k7 : Int32 → Int32 → Int32 → Int32 → Int32 → Option (Int32 × Int32)) (l2 : Int32) (l3 : Int32) (l4 : Int32) (mbl : Int32) (mbh : Int32) : Option (Int32 × Int32) :=
  (if mkn ≤ l4 then b1 (f_X9_lower N (l2 - ((4 : Int32) * mer))) (fun r3 => b1 (f_X9_held N r3) (fun r5 => b1 (f_X9_higher N (l3 + ((4 : Int32) * mer))) (fun r7 => b1 (f_X9_held N r7) (fun r9 => some (r5, r9))))) else gi l4 4 (b1 (f_X9_sumOf N (dkl l4.toNatClampNeg) mbl l1) (fun r12 => gi l4 4 (b1 (f_X9_sumOf N (dkl l4.toNatClampNeg) mbh l1) (fun r15 => (if r15 ≤ r12 then f_X9_steps_64 N k7 l1 l2 l3 l4 r12 r15 r15 mer mkn mbl mbh dkl else f_X9_steps_64 N k7 l1 l2 l3 l4 r12 r15 r12 mer mkn mbl mbh dkl))))))
def f_X9_steps_7 (N : Nat)  (l1 : Int32) (mer : Int32) (mkn : Int32) (dkl : Nat → Int32) : Nat → Int32 → Int32 → Int32 → Int32 → Int32 → Option (Int32 × Int32)
  | 0, _, _, _, _, _ => none
  | n + 1, l2, l3, l4, mbl, mbh => b_X9_steps_7 N l1 mer mkn dkl (f_X9_steps_7 N l1 mer mkn dkl n) l2 l3 l4 mbl mbh
def f_X9_steps (N : Nat) (p0 : Int32) (mer : Int32) (mkn : Int32) (mbl : Int32) (mbh : Int32) (dkl : Nat → Int32) : Option (Int32 × Int32) :=
  f_X9_steps_7 N p0 mer mkn dkl N (0 : Int32) (0 : Int32) (0 : Int32) mbl mbh
def f_X9_step (N : Nat) (p0 : Int32) (mer : Int32) (mkn : Int32) (mbl : Int32) (mbh : Int32) (dkl : Nat → Int32) : Option (Int32 × Int32 × Int32) :=
  b1 (f_X9_isSmall N p0) (fun r2 => (if r2 = 0 then some ((-1 : Int32), mbl, mbh) else (if mkn = 0 then some ((-4 : Int32), mbl, mbh) else b2 (f_X9_steps N p0 mer mkn mbl mbh dkl) (fun v6 v7 => some ((1 : Int32), v6, v7)))))
def f_X9_holds (N : Nat) (p0 : Int32) (mbl : Int32) (mbh : Int32) : Option (Int32) :=
  (if p0 = 0 then some (mbl) else (if p0 = (1 : Int32) then some (mbh) else some ((-1000001 : Int32))))
def b_X9_brake_71 (N : Nat)  (l1 : Int32) (l2 : Int32) (l3 : Int32) (l4 : Int32) (l5 : Int32) (l6 : Int32) (mer : Int32) (mkn : Int32) (dkl : Nat → Int32) (k71 : Int32 → Int32 → Int32 → Int32 → Option (Int32 × Int32 × Int32)) (l7 : Int32) (l8 : Int32) (mbl : Int32) (mbh : Int32) : Option (Int32 × Int32 × Int32) :=
  (if l2 < l8 then some (l7, l5, l6) else (if 0 ≤ l7 then some (l7, l5, l6) else b2 (f_X9_steps N l1 mer mkn mbl mbh dkl) (fun v18 v19 => (if v18 < l3 then k71 l8 (l8 + (1 : Int32)) v18 v19 else (if v19 ≤ l4 then k71 (-4 : Int32) (l8 + (1 : Int32)) v18 v19 else k71 l8 (l8 + (1 : Int32)) v18 v19)))))
def f_X9_brake_71 (N : Nat)  (l1 : Int32) (l2 : Int32) (l3 : Int32) (l4 : Int32) (l5 : Int32) (l6 : Int32) (mer : Int32) (mkn : Int32) (dkl : Nat → Int32) : Nat → Int32 → Int32 → Int32 → Int32 → Option (Int32 × Int32 × Int32)
  | 0, _, _, _, _ => none
  | n + 1, l7, l8, mbl, mbh => b_X9_brake_71 N l1 l2 l3 l4 l5 l6 mer mkn dkl (f_X9_brake_71 N l1 l2 l3 l4 l5 l6 mer mkn dkl n) l7 l8 mbl mbh
def f_X9_brake (N : Nat) (p0 : Int32) (p1 : Int32) (p2 : Int32) (p3 : Int32) (mer : Int32) (mkn : Int32) (mbl : Int32) (mbh : Int32) (dkl : Nat → Int32) : Option (Int32 × Int32 × Int32) :=
  b1 (f_X9_isSmall N p0) (fun r2 => (if r2 = 0 then some ((-1 : Int32), mbl, mbh) else b1 (f_X9_in N (p1.toInt64) (1 : Int64) (40 : Int64)) (fun r5 => (if r5 = 0 then some ((-1 : Int32), mbl, mbh) else b1 (f_X9_isState N p2) (fun r8 => (if r8 = 0 then some ((-1 : Int32), mbl, mbh) else b1 (f_X9_isState N p3) (fun r11 => (if r11 = 0 then some ((-1 : Int32), mbl, mbh) else (if p2 ≤ p3 then (if mkn = 0 then some ((-2 : Int32), mbl, mbh) else f_X9_brake_71 N p0 p1 p2 p3 mbl mbh mer mkn dkl N (-4 : Int32) (1 : Int32) mbl mbh) else some ((-1 : Int32), mbl, mbh))))))))))
def f_X9_watch_167 (N : Nat)  (l6 : Int32) (t0 : Int32) (t1 : Int32) (mmb : Int32) (mwa : Int32) : Option (Int32 × Int32 × Int32 × Int32) :=
  (if l6 = 0 then some ((mmb + (0 : Int32)), mmb, mwa, (t1 + t0)) else some ((mmb + (16 : Int32)), mmb, mwa, (t1 + t0)))
def f_X9_watch_139 (N : Nat)  (l6 : Int32) (t0 : Int32) (mwa : Int32) (mra : Int32) : Option (Int32 × Int32 × Int32 × Int32) :=
  (if l6 = 0 then f_X9_watch_167 N l6 (0 : Int32) mra t0 (mwa + (1 : Int32)) else f_X9_watch_167 N l6 (1 : Int32) mra t0 (mwa + (1 : Int32)))
def f_X9_watch_109 (N : Nat)  (l4 : Int32) (l5 : Int32) (t0 : Int32) (mmb : Int32) (mwa : Int32) (mra : Int32) : Option (Int32 × Int32 × Int32 × Int32) :=
  (if t0 = 0 then f_X9_watch_139 N t0 (mmb &&& l5) mwa mra else (if l5 = 0 then f_X9_watch_139 N t0 l4 mwa mra else f_X9_watch_139 N t0 l5 mwa mra))
def b_X9_watch_49 (N : Nat)  (l1 : Int32) (l2 : Int32) (l3 : Int32) (l4 : Int32) (mer : Int32) (mkn : Int32) (mmb : Int32) (mwa : Int32) (mra : Int32) (dkl : Nat → Int32) (k49 : Int32 → Int32 → Option (Int32 × Int32 × Int32 × Int32)) (l5 : Int32) (l6 : Int32) : Option (Int32 × Int32 × Int32 × Int32) :=
  (if mkn ≤ l6 then (if (mmb &&& l5) = 0 then f_X9_watch_109 N l4 l5 (1 : Int32) mmb mwa mra else f_X9_watch_109 N l4 l5 (0 : Int32) mmb mwa mra) else gi l6 4 (b1 (f_X9_fits N (dkl l6.toNatClampNeg) l1 l2 l3 mer) (fun r15 => (if r15 = 0 then k49 (l5 ||| (0 : Int32)) (l6 + (1 : Int32)) else k49 (l5 ||| ((1 : Int32) <<< (l6 &&& 31))) (l6 + (1 : Int32))))))
def f_X9_watch_49 (N : Nat)  (l1 : Int32) (l2 : Int32) (l3 : Int32) (l4 : Int32) (mer : Int32) (mkn : Int32) (mmb : Int32) (mwa : Int32) (mra : Int32) (dkl : Nat → Int32) : Nat → Int32 → Int32 → Option (Int32 × Int32 × Int32 × Int32)
  | 0, _, _ => none
  | n + 1, l5, l6 => b_X9_watch_49 N l1 l2 l3 l4 mer mkn mmb mwa mra dkl (f_X9_watch_49 N l1 l2 l3 l4 mer mkn mmb mwa mra dkl n) l5 l6
def f_X9_watch (N : Nat) (p0 : Int32) (p1 : Int32) (p2 : Int32) (mer : Int32) (mkn : Int32) (mmb : Int32) (mwa : Int32) (mra : Int32) (dkl : Nat → Int32) : Option (Int32 × Int32 × Int32 × Int32) :=
  b1 (f_X9_isSmall N p0) (fun r2 => (if r2 = 0 then some ((-1 : Int32), mmb, mwa, mra) else b1 (f_X9_isSmall N p1) (fun r5 => (if r5 = 0 then some ((-1 : Int32), mmb, mwa, mra) else b1 (f_X9_isSmall N p2) (fun r8 => (if r8 = 0 then some ((-1 : Int32), mmb, mwa, mra) else (if mkn = 0 then some ((-2 : Int32), mmb, mwa, mra) else f_X9_watch_49 N p0 p1 p2 (((1 : Int32) <<< (mkn &&& 31)) - (1 : Int32)) mer mkn mmb mwa mra dkl N (0 : Int32) (0 : Int32))))))))
def b_X9_sheet_46 (N : Nat)  (l1 : Int32) (l3 : Int32) (dln : Nat → Int32) (dsz : Nat → Int32) (k46 : Int32 → (Nat → Int32) → Option (Int32 × (Nat → Int32) × (Nat → Int32) × (Nat → Int32))) (l4 : Int32) (dit : Nat → Int32) : Option (Int32 × (Nat → Int32) × (Nat → Int32) × (Nat → Int32)) :=
  (if (36 : Int32) ≤ l4 then some (l3, dln, dsz, dit) else gi (((36 : Int32) * l1) + l4) 144 (k46 (l4 + (1 : Int32)) (upd dit (((36 : Int32) * l1) + l4).toNatClampNeg (0 : Int32))))
def f_X9_sheet_46 (N : Nat)  (l1 : Int32) (l3 : Int32) (dln : Nat → Int32) (dsz : Nat → Int32) : Nat → Int32 → (Nat → Int32) → Option (Int32 × (Nat → Int32) × (Nat → Int32) × (Nat → Int32))
  | 0, _, _ => none
  | n + 1, l4, dit => b_X9_sheet_46 N l1 l3 dln dsz (f_X9_sheet_46 N l1 l3 dln dsz n) l4 dit
def f_X9_sheet (N : Nat) (p0 : Int32) (p1 : Int32) (p2 : Int32) (dln : Nat → Int32) (dsz : Nat → Int32) (dit : Nat → Int32) : Option (Int32 × (Nat → Int32) × (Nat → Int32) × (Nat → Int32)) :=
  b1 (f_X9_isSheet N p0) (fun r2 => (if r2 = 0 then some ((-1 : Int32), dln, dsz, dit) else b1 (f_X9_isLane N p1) (fun r5 => (if r5 = 0 then some ((-1 : Int32), dln, dsz, dit) else (if p2 ≤ (36 : Int32) then (if 0 ≤ p2 then gi p0 4 (gi p0 4 (f_X9_sheet_46 N p0 p2 (upd dln p0.toNatClampNeg p1) (upd dsz p0.toNatClampNeg p2) N (0 : Int32) dit)) else some ((-14 : Int32), dln, dsz, dit)) else some ((-1 : Int32), dln, dsz, dit))))))
def f_X9_drop (N : Nat) (p0 : Int32) (dln : Nat → Int32) (dsz : Nat → Int32) : Option (Int32 × (Nat → Int32)) :=
  b1 (f_X9_isSheet N p0) (fun r2 => (if r2 = 0 then some ((-1 : Int32), dln) else gi p0 4 ((if 0 ≤ (dln p0.toNatClampNeg) then gi p0 4 (gi p0 4 (some ((dsz p0.toNatClampNeg), (upd dln p0.toNatClampNeg (-1 : Int32))))) else some ((-11 : Int32), dln)))))
def f_X9_item (N : Nat) (p0 : Int32) (p1 : Int32) (p2 : Int32) (p3 : Int32) (dln : Nat → Int32) (dsz : Nat → Int32) (dit : Nat → Int32) : Option (Int32 × (Nat → Int32)) :=
  b1 (f_X9_isSheet N p0) (fun r2 => (if r2 = 0 then some ((-1 : Int32), dit) else b1 (f_X9_isLane N p1) (fun r5 => (if r5 = 0 then some ((-1 : Int32), dit) else b1 (f_X9_finds N p0 p1 p2 (1 : Int32) dln dsz) (fun r8 => (if 0 ≤ r8 then (if p1 = 0 then gi (((36 : Int32) * p0) + p2) 144 (some ((1 : Int32), (upd dit (((36 : Int32) * p0) + p2).toNatClampNeg (p3.toInt8.toInt32)))) else (if p1 = (1 : Int32) then gi (((36 : Int32) * p0) + p2) 144 (some ((1 : Int32), (upd dit (((36 : Int32) * p0) + p2).toNatClampNeg (p3.toInt16.toInt32)))) else gi (((36 : Int32) * p0) + p2) 144 (some ((1 : Int32), (upd dit (((36 : Int32) * p0) + p2).toNatClampNeg p3))))) else some (r8, dit)))))))
def b_X9_copy_138 (N : Nat)  (l3 : Int32) (l4 : Int32) (l5 : Int32) (dmv : Nat → Int32) (k138 : Int32 → (Nat → Int32) → Option (Int32 × (Nat → Int32) × (Nat → Int32))) (l6 : Int32) (dit : Nat → Int32) : Option (Int32 × (Nat → Int32) × (Nat → Int32)) :=
  (if l5 ≤ l6 then some (l5, dit, dmv) else gi l6 36 (gi ((((36 : Int32) * l3) + l4) + l6) 144 (k138 (l6 + (1 : Int32)) (upd dit ((((36 : Int32) * l3) + l4) + l6).toNatClampNeg (dmv l6.toNatClampNeg)))))
def f_X9_copy_138 (N : Nat)  (l3 : Int32) (l4 : Int32) (l5 : Int32) (dmv : Nat → Int32) : Nat → Int32 → (Nat → Int32) → Option (Int32 × (Nat → Int32) × (Nat → Int32))
  | 0, _, _ => none
  | n + 1, l6, dit => b_X9_copy_138 N l3 l4 l5 dmv (f_X9_copy_138 N l3 l4 l5 dmv n) l6 dit
def b_X9_copy_101 (N : Nat)  (l1 : Int32) (l2 : Int32) (l3 : Int32) (l4 : Int32) (l5 : Int32) (dit : Nat → Int32) (k101 : Int32 → (Nat → Int32) → Option (Int32 × (Nat → Int32) × (Nat → Int32))) (l6 : Int32) (dmv : Nat → Int32) : Option (Int32 × (Nat → Int32) × (Nat → Int32)) :=
  (if l5 ≤ l6 then f_X9_copy_138 N l3 l4 l5 dmv N (0 : Int32) dit else gi ((((36 : Int32) * l1) + l2) + l6) 144 (gi l6 36 (k101 (l6 + (1 : Int32)) (upd dmv l6.toNatClampNeg (dit ((((36 : Int32) * l1) + l2) + l6).toNatClampNeg)))))
def f_X9_copy_101 (N : Nat)  (l1 : Int32) (l2 : Int32) (l3 : Int32) (l4 : Int32) (l5 : Int32) (dit : Nat → Int32) : Nat → Int32 → (Nat → Int32) → Option (Int32 × (Nat → Int32) × (Nat → Int32))
  | 0, _, _ => none
  | n + 1, l6, dmv => b_X9_copy_101 N l1 l2 l3 l4 l5 dit (f_X9_copy_101 N l1 l2 l3 l4 l5 dit n) l6 dmv
def f_X9_copy (N : Nat) (p0 : Int32) (p1 : Int32) (p2 : Int32) (p3 : Int32) (p4 : Int32) (dln : Nat → Int32) (dsz : Nat → Int32) (dit : Nat → Int32) (dmv : Nat → Int32) : Option (Int32 × (Nat → Int32) × (Nat → Int32)) :=
  b1 (f_X9_isSheet N p0) (fun r2 => (if r2 = 0 then some ((-1 : Int32), dit, dmv) else b1 (f_X9_isSheet N p2) (fun r5 => (if r5 = 0 then some ((-1 : Int32), dit, dmv) else gi p0 4 ((if (dln p0.toNatClampNeg) < 0 then some ((-11 : Int32), dit, dmv) else gi p2 4 ((if 0 ≤ (dln p2.toNatClampNeg) then gi p0 4 (gi p2 4 ((if (dln p0.toNatClampNeg) = (dln p2.toNatClampNeg) then (if p4 < 0 then some ((-13 : Int32), dit, dmv) else gi p0 4 (b1 (f_X9_finds N p0 (dln p0.toNatClampNeg) p1 p4 dln dsz) (fun r17 => (if r17 < 0 then some ((-13 : Int32), dit, dmv) else gi p2 4 (b1 (f_X9_finds N p2 (dln p2.toNatClampNeg) p3 p4 dln dsz) (fun r21 => (if 0 ≤ r21 then f_X9_copy_101 N p0 p1 p2 p3 p4 dit N (0 : Int32) dmv else some ((-13 : Int32), dit, dmv)))))))) else some ((-12 : Int32), dit, dmv)))) else some ((-11 : Int32), dit, dmv)))))))))
abbrev rm_X9_worst : Room := { frames := 2, cells := 0, slots := 0, locals := 50 }
theorem iX9_worst_X9 : ∀ w ∈ wsX90, w ∈ wsX9_worst := by decide +kernel
theorem kX9_worst_1 : (Cond.fieldLink RX9 36 "TwoLawsModel" "let" "[Z") ∈ wsX9_worst := by decide +kernel
set_option maxHeartbeats 4000000 in
set_option maxRecDepth 100000 in
theorem w_X9_worst_22 {p : Program} {l : Launch} {e : Env} {s : State} {m : MethodId} {args : Array Value} {below : List Frame} {meth : Method} {c : Code} {Q : State → Prop} {A : Nat → Prop} {D : va_G} {ky : Nat → ClassId} {aM mxs mus mys mgp mtp mme mle mlt mkl mln msz mit mmv : Nat} {mrm : Int32} {mer : Int32} {mtd : Int32} {mat : Int32} {mwr : Int32} {mkn : Int32} {mmb : Int32} {mwa : Int32} {mra : Int32} {mbl : Int32} {mbh : Int32} {dxs : Nat → Int32} {dus : Nat → Int32} {dys : Nat → Int32} {dgp : Nat → Int32} {dtp : Nat → Int32} {dme : Nat → Int32} {dle : Nat → Int32} {dlt : Nat → Int32} {dkl : Nat → Int32} {dln : Nat → Int32} {dsz : Nat → Int32} {dit : Nat → Int32} {dmv : Nat → Int32} (N : Nat) (C : cx p s m c args D ky A cX9_worst 8 wsX9_worst RX9) (res : Int32) (hQ : ∀ (pc : Nat) (H : Heap) (locs : List Loc) (ls : Array Slot), decode cX9_worst pc = .ok (.ireturn, 1) → va_P D vwCl (w_model ky aM mxs mus mys mgp mtp mme mle mlt mkl mln msz mit mmv mrm mer mtd mat mwr mkn mmb mwa mra mbl mbh dxs dus dys dgp dtp dme dle dlt dkl dln dsz dit dmv) H → va_D A (w_model ky aM mxs mus mys mgp mtp mme mle mlt mkl mln msz mit mmv mrm mer mtd mat mwr mkn mmb mwa mra mbl mbh dxs dus dys dgp dtp dme dle dlt dkl dln dsz dit dmv) → va_S A s.heap H locs → W p l e rm_X9_worst s m args below meth c H locs 0 0 Q (F0 m pc ls [.int res])) (l1 : Int32) (l2 : Int32) (l3 : Int32) (k8 : Int32 → Int32 → Option (Int32)) (hk8 : ∀ (l4 : Int32) (l5 : Int32), k8 l4 l5 = some res → ∀ (H : Heap) (locs : List Loc) (ls : Array Slot), va_P D vwCl (w_model ky aM mxs mus mys mgp mtp mme mle mlt mkl mln msz mit mmv mrm mer mtd mat mwr mkn mmb mwa mra mbl mbh dxs dus dys dgp dtp dme dle dlt dkl dln dsz dit dmv) H → va_D A (w_model ky aM mxs mus mys mgp mtp mme mle mlt mkl mln msz mit mmv mrm mer mtd mat mwr mkn mmb mwa mra mbl mbh dxs dus dys dgp dtp dme dle dlt dkl dln dsz dit dmv) → va_S A s.heap H locs → lv_has ls 8 [(0, .ref aM), (1, .int l1), (2, .int l2), (3, .int l3), (4, .int l4), (5, .int l5)] → W p l e rm_X9_worst s m args below meth c H locs 0 0 Q (F0 m 8 ls [])) (l4 : Int32) (l5 : Int32) : ∀ (n : Nat) (l6 : Int32) (l7 : Int32), f_X9_worst_22 N k8 l1 l2 l3 l4 l5 mer dlt n l6 l7 = some res → ∀ (H : Heap) (locs : List Loc) (ls : Array Slot), va_P D vwCl (w_model ky aM mxs mus mys mgp mtp mme mle mlt mkl mln msz mit mmv mrm mer mtd mat mwr mkn mmb mwa mra mbl mbh dxs dus dys dgp dtp dme dle dlt dkl dln dsz dit dmv) H → va_D A (w_model ky aM mxs mus mys mgp mtp mme mle mlt mkl mln msz mit mmv mrm mer mtd mat mwr mkn mmb mwa mra mbl mbh dxs dus dys dgp dtp dme dle dlt dkl dln dsz dit dmv) → va_S A s.heap H locs → lv_has ls 8 [(0, .ref aM), (1, .int l1), (2, .int l2), (3, .int l3), (4, .int l4), (5, .int l5), (6, .int l6), (7, .int l7)] → W p l e rm_X9_worst s m args below meth c H locs 0 0 Q (F0 m 22 ls []) := by
  obtain ⟨hx, hb, hml, hown, hts, hK, hA⟩ := id C
  intro n
  induction n with
  | zero =>
    intro l6 l7 hF
    cases hF
  | succ n ih =>
    intro l6 l7 hF H locs ls hP hD hS hl
    have hF : b_X9_worst_22 N k8 l1 l2 l3 l4 l5 mer dlt (f_X9_worst_22 N k8 l1 l2 l3 l4 l5 mer dlt n) l6 l7 = some res := hF
    unfold b_X9_worst_22 at hF
    refine lv_iload hx hb dX9_worst_22 (lv_at hl 7 rfl) ?_
    refine lv_sipush (v := (289 : Int32)) hx hb dX9_worst_24 (by decide) ?_
    refine lv_icmp_ge (tgt := 69) hx hb dX9_worst_27 (by decide) (fun c3 => ?_) (fun c3 => ?_)
    · have hF := if_t c3 hF
      refine lv_iload hx hb dX9_worst_69 (lv_at hl 6 rfl) ?_
      refine lv_iload hx hb dX9_worst_71 (lv_at hl 4 rfl) ?_
      refine lv_icmp_le (tgt := 81) hx hb dX9_worst_73 (by decide) (fun c4 => ?_) (fun c4 => ?_)
      · have hF := if_t c4 hF
        refine lv_iload hx hb dX9_worst_81 (lv_at hl 4 rfl) ?_
        refine lv_istore (lv' := [(4, .int l4), (0, .ref aM), (1, .int l1), (2, .int l2), (3, .int l3), (5, .int l5), (6, .int l6), (7, .int l7)]) hx hb dX9_worst_83 hl (by decide) rfl (fun ls hl => ?_)
        refine lv_iinc (v := (l5 + (1 : Int32))) (lv' := [(5, .int (l5 + (1 : Int32))), (4, .int l4), (0, .ref aM), (1, .int l1), (2, .int l2), (3, .int l3), (6, .int l6), (7, .int l7)]) hx hb dX9_worst_85 hl (k := 5) rfl rfl (by decide) rfl (fun ls hl => ?_)
        refine lv_goto (tgt := 8) hx hb dX9_worst_88 (by decide) ?_
        exact hk8 l4 (l5 + (1 : Int32)) hF H _ _ hP hD hS (lv_sub hl [2, 3, 4, 5, 1, 0] rfl)
      · have hF := if_f c4 hF
        refine lv_iload hx hb dX9_worst_76 (lv_at hl 6 rfl) ?_
        refine lv_goto (tgt := 83) hx hb dX9_worst_78 (by decide) ?_
        refine lv_istore (lv' := [(4, .int l6), (0, .ref aM), (1, .int l1), (2, .int l2), (3, .int l3), (5, .int l5), (6, .int l6), (7, .int l7)]) hx hb dX9_worst_83 hl (by decide) rfl (fun ls hl => ?_)
        refine lv_iinc (v := (l5 + (1 : Int32))) (lv' := [(5, .int (l5 + (1 : Int32))), (4, .int l6), (0, .ref aM), (1, .int l1), (2, .int l2), (3, .int l3), (6, .int l6), (7, .int l7)]) hx hb dX9_worst_85 hl (k := 5) rfl rfl (by decide) rfl (fun ls hl => ?_)
        refine lv_goto (tgt := 8) hx hb dX9_worst_88 (by decide) ?_
        exact hk8 l6 (l5 + (1 : Int32)) hF H _ _ hP hD hS (lv_sub hl [2, 3, 4, 5, 1, 0] rfl)
    · have hF := if_f c3 hF
      refine lv_iload hx hb dX9_worst_30 (lv_at hl 6 rfl) ?_
      refine lv_aload_n hx hb dX9_worst_32 rfl (lv_at hl 0 rfl) ?_
      refine va_get (D := D) (ci := 8) (v := .ref mlt) (C := RX9) (T := TX9) (N := 24) hx hb hts iX9_worst_X9 hown hK hP 0 rfl rfl 12 (by decide) (hts _ kX9_worst_1) (fun _ h9 => h9) rfl dX9_worst_33 ?_
      refine lv_iload hx hb dX9_worst_36 (lv_at hl 7 rfl) ?_
      obtain ⟨h5, hF⟩ := gi_s hF
      refine va_zald hx hb hK hP 8 2 rfl rfl h5 dX9_worst_38 ?_
      refine lv_if_eq (tgt := 59) hx hb dX9_worst_39 (by decide) (fun c6 => ?_) (fun c6 => ?_)
      · have hF := if_t c6 hF
        refine lv_iconst (v := (0 : Int32)) hx hb dX9_worst_59 (by decide) ?_
        refine lv_iadd hx hb dX9_worst_60 ?_
        refine lv_istore (lv' := [(6, .int (l6 + (0 : Int32))), (0, .ref aM), (1, .int l1), (2, .int l2), (3, .int l3), (4, .int l4), (5, .int l5), (7, .int l7)]) hx hb dX9_worst_61 hl (by decide) rfl (fun ls hl => ?_)
        refine lv_iinc (v := (l7 + (1 : Int32))) (lv' := [(7, .int (l7 + (1 : Int32))), (6, .int (l6 + (0 : Int32))), (0, .ref aM), (1, .int l1), (2, .int l2), (3, .int l3), (4, .int l4), (5, .int l5)]) hx hb dX9_worst_63 hl (k := 7) rfl rfl (by decide) rfl (fun ls hl => ?_)
        refine lv_goto (tgt := 22) hx hb dX9_worst_66 (by decide) ?_
        exact ih (l6 + (0 : Int32)) (l7 + (1 : Int32)) hF H _ _ hP hD hS (lv_sub hl [2, 3, 4, 5, 6, 7, 1, 0] rfl)
      · have hF := if_f c6 hF
        refine lv_aload_n hx hb dX9_worst_42 rfl (lv_at hl 0 rfl) ?_
        refine lv_iload hx hb dX9_worst_43 (lv_at hl 7 rfl) ?_
        refine lv_iload_n hx hb dX9_worst_45 rfl (lv_at hl 2 rfl) ?_
        refine lv_iload_n hx hb dX9_worst_46 rfl (lv_at hl 3 rfl) ?_
        refine lv_iload hx hb dX9_worst_47 (lv_at hl 5 rfl) ?_
        obtain ⟨r8, h7, hF⟩ := b1_s hF
        refine cl_vi (As := [.int l7, .int l2, .int l3, .int l5]) (rest := [.int l6]) (w' := (w_model ky aM mxs mus mys mgp mtp mme mle mlt mkl mln msz mit mmv mrm mer mtd mat mwr mkn mmb mwa mra mbl mbh dxs dus dys dgp dtp dme dle dlt dkl dln dsz dit dmv)) ⟨hx, hb, hml, hown, hts⟩ hK hP hD hS hA (c_X9_fits l D ky aM mxs mus mys mgp mtp mme mle mlt mkl mln msz mit mmv _ N  mrm mer mtd mat mwr mkn mmb mwa mra mbl mbh dxs dus dys dgp dtp dme dle dlt dkl dln dsz dit dmv l7 l2 l3 l5 r8 h7) (cwV 4 hts gX9_worst_X9_fits rfl rfl rfl (by decide +kernel) ⟨Nat.le_of_ble_eq_true rfl, Nat.le_of_ble_eq_true rfl⟩) [0, 1, 2, 3, 4, 5, 6, 7, 8, 9, 10, 11, 12, 13] [] [0, 1, 2, 3, 4, 5, 6, 7, 8, 9, 10, 11, 12, 13] 0 8 rfl rfl rfl rfl (wr := []) rfl (by decide) rfl rfl hl.1 (Nat.le_of_ble_eq_true rfl) dX9_worst_49 ⟨Nat.zero_le _, Nat.zero_le _⟩ (fun H locs hP hD hS => ?_)
        refine lv_if_eq (tgt := 59) hx hb dX9_worst_52 (by decide) (fun c9 => ?_) (fun c9 => ?_)
        · have hF := if_t c9 hF
          refine lv_iconst (v := (0 : Int32)) hx hb dX9_worst_59 (by decide) ?_
          refine lv_iadd hx hb dX9_worst_60 ?_
          refine lv_istore (lv' := [(6, .int (l6 + (0 : Int32))), (0, .ref aM), (1, .int l1), (2, .int l2), (3, .int l3), (4, .int l4), (5, .int l5), (7, .int l7)]) hx hb dX9_worst_61 hl (by decide) rfl (fun ls hl => ?_)
          refine lv_iinc (v := (l7 + (1 : Int32))) (lv' := [(7, .int (l7 + (1 : Int32))), (6, .int (l6 + (0 : Int32))), (0, .ref aM), (1, .int l1), (2, .int l2), (3, .int l3), (4, .int l4), (5, .int l5)]) hx hb dX9_worst_63 hl (k := 7) rfl rfl (by decide) rfl (fun ls hl => ?_)
          refine lv_goto (tgt := 22) hx hb dX9_worst_66 (by decide) ?_
          exact ih (l6 + (0 : Int32)) (l7 + (1 : Int32)) hF H _ _ hP hD hS (lv_sub hl [2, 3, 4, 5, 6, 7, 1, 0] rfl)
        · have hF := if_f c9 hF
          refine lv_iconst (v := (1 : Int32)) hx hb dX9_worst_55 (by decide) ?_
          refine lv_goto (tgt := 60) hx hb dX9_worst_56 (by decide) ?_
          refine lv_iadd hx hb dX9_worst_60 ?_
          refine lv_istore (lv' := [(6, .int (l6 + (1 : Int32))), (0, .ref aM), (1, .int l1), (2, .int l2), (3, .int l3), (4, .int l4), (5, .int l5), (7, .int l7)]) hx hb dX9_worst_61 hl (by decide) rfl (fun ls hl => ?_)
          refine lv_iinc (v := (l7 + (1 : Int32))) (lv' := [(7, .int (l7 + (1 : Int32))), (6, .int (l6 + (1 : Int32))), (0, .ref aM), (1, .int l1), (2, .int l2), (3, .int l3), (4, .int l4), (5, .int l5)]) hx hb dX9_worst_63 hl (k := 7) rfl rfl (by decide) rfl (fun ls hl => ?_)
          refine lv_goto (tgt := 22) hx hb dX9_worst_66 (by decide) ?_
          exact ih (l6 + (1 : Int32)) (l7 + (1 : Int32)) hF H _ _ hP hD hS (lv_sub hl [2, 3, 4, 5, 6, 7, 1, 0] rfl)
set_option maxHeartbeats 4000000 in
set_option maxRecDepth 100000 in
theorem w_X9_worst_8 {p : Program} {l : Launch} {e : Env} {s : State} {m : MethodId} {args : Array Value} {below : List Frame} {meth : Method} {c : Code} {Q : State → Prop} {A : Nat → Prop} {D : va_G} {ky : Nat → ClassId} {aM mxs mus mys mgp mtp mme mle mlt mkl mln msz mit mmv : Nat} {mrm : Int32} {mer : Int32} {mtd : Int32} {mat : Int32} {mwr : Int32} {mkn : Int32} {mmb : Int32} {mwa : Int32} {mra : Int32} {mbl : Int32} {mbh : Int32} {dxs : Nat → Int32} {dus : Nat → Int32} {dys : Nat → Int32} {dgp : Nat → Int32} {dtp : Nat → Int32} {dme : Nat → Int32} {dle : Nat → Int32} {dlt : Nat → Int32} {dkl : Nat → Int32} {dln : Nat → Int32} {dsz : Nat → Int32} {dit : Nat → Int32} {dmv : Nat → Int32} (N : Nat) (C : cx p s m c args D ky A cX9_worst 8 wsX9_worst RX9) (res : Int32) (hQ : ∀ (pc : Nat) (H : Heap) (locs : List Loc) (ls : Array Slot), decode cX9_worst pc = .ok (.ireturn, 1) → va_P D vwCl (w_model ky aM mxs mus mys mgp mtp mme mle mlt mkl mln msz mit mmv mrm mer mtd mat mwr mkn mmb mwa mra mbl mbh dxs dus dys dgp dtp dme dle dlt dkl dln dsz dit dmv) H → va_D A (w_model ky aM mxs mus mys mgp mtp mme mle mlt mkl mln msz mit mmv mrm mer mtd mat mwr mkn mmb mwa mra mbl mbh dxs dus dys dgp dtp dme dle dlt dkl dln dsz dit dmv) → va_S A s.heap H locs → W p l e rm_X9_worst s m args below meth c H locs 0 0 Q (F0 m pc ls [.int res])) (l1 : Int32) (l2 : Int32) (l3 : Int32) : ∀ (n : Nat) (l4 : Int32) (l5 : Int32), f_X9_worst_8 N l1 l2 l3 mer dlt n l4 l5 = some res → ∀ (H : Heap) (locs : List Loc) (ls : Array Slot), va_P D vwCl (w_model ky aM mxs mus mys mgp mtp mme mle mlt mkl mln msz mit mmv mrm mer mtd mat mwr mkn mmb mwa mra mbl mbh dxs dus dys dgp dtp dme dle dlt dkl dln dsz dit dmv) H → va_D A (w_model ky aM mxs mus mys mgp mtp mme mle mlt mkl mln msz mit mmv mrm mer mtd mat mwr mkn mmb mwa mra mbl mbh dxs dus dys dgp dtp dme dle dlt dkl dln dsz dit dmv) → va_S A s.heap H locs → lv_has ls 8 [(0, .ref aM), (1, .int l1), (2, .int l2), (3, .int l3), (4, .int l4), (5, .int l5)] → W p l e rm_X9_worst s m args below meth c H locs 0 0 Q (F0 m 8 ls []) := by
  obtain ⟨hx, hb, hml, hown, hts, hK, hA⟩ := id C
  intro n
  induction n with
  | zero =>
    intro l4 l5 hF
    cases hF
  | succ n ih =>
    intro l4 l5 hF H locs ls hP hD hS hl
    have hF : b_X9_worst_8 N l1 l2 l3 mer dlt (f_X9_worst_8 N l1 l2 l3 mer dlt n) l4 l5 = some res := hF
    unfold b_X9_worst_8 at hF
    refine lv_iload hx hb dX9_worst_8 (lv_at hl 5 rfl) ?_
    refine lv_sipush (v := (260 : Int32)) hx hb dX9_worst_10 (by decide) ?_
    refine lv_icmp_gt (tgt := 91) hx hb dX9_worst_13 (by decide) (fun c1 => ?_) (fun c1 => ?_)
    · have hF := if_t c1 hF
      refine lv_iload_n hx hb dX9_worst_91 rfl (lv_at hl 1 rfl) ?_
      refine lv_if_ge (tgt := 99) hx hb dX9_worst_92 (by decide) (fun c2 => ?_) (fun c2 => ?_)
      · have hF := if_t c2 hF
        refine lv_iload hx hb dX9_worst_99 (lv_at hl 4 rfl) ?_
        have hF := Option.some.inj hF
        subst hF
        exact hQ _ H _ _ dX9_worst_101 hP hD hS
      · have hF := if_f c2 hF
        refine lv_iconst (v := (0 : Int32)) hx hb dX9_worst_95 (by decide) ?_
        refine lv_goto (tgt := 101) hx hb dX9_worst_96 (by decide) ?_
        have hF := Option.some.inj hF
        subst hF
        exact hQ _ H _ _ dX9_worst_101 hP hD hS
    · have hF := if_f c1 hF
      refine lv_iconst (v := (0 : Int32)) hx hb dX9_worst_16 (by decide) ?_
      refine lv_istore (lv' := [(6, .int (0 : Int32)), (0, .ref aM), (1, .int l1), (2, .int l2), (3, .int l3), (4, .int l4), (5, .int l5)]) hx hb dX9_worst_17 hl (by decide) rfl (fun ls hl => ?_)
      refine lv_iconst (v := (0 : Int32)) hx hb dX9_worst_19 (by decide) ?_
      refine lv_istore (lv' := [(7, .int (0 : Int32)), (6, .int (0 : Int32)), (0, .ref aM), (1, .int l1), (2, .int l2), (3, .int l3), (4, .int l4), (5, .int l5)]) hx hb dX9_worst_20 hl (by decide) rfl (fun ls hl => ?_)
      exact w_X9_worst_22 N C res hQ l1 l2 l3 _ ih l4 l5 N (0 : Int32) (0 : Int32) hF H _ _ hP hD hS (lv_sub hl [2, 3, 4, 5, 6, 7, 1, 0] rfl)
set_option maxHeartbeats 4000000 in
set_option maxRecDepth 100000 in
theorem cr_X9_worst (l : Launch) (D : va_G) (ky : Nat → ClassId) (aM mxs mus mys mgp mtp mme mle mlt mkl mln msz mit mmv : Nat) (sz N : Nat)  (mrm : Int32) (mer : Int32) (mtd : Int32) (mat : Int32) (mwr : Int32) (mkn : Int32) (mmb : Int32) (mwa : Int32) (mra : Int32) (mbl : Int32) (mbh : Int32) (dxs : Nat → Int32) (dus : Nat → Int32) (dys : Nat → Int32) (dgp : Nat → Int32) (dtp : Nat → Int32) (dme : Nat → Int32) (dle : Nat → Int32) (dlt : Nat → Int32) (dkl : Nat → Int32) (dln : Nat → Int32) (dsz : Nat → Int32) (dit : Nat → Int32) (dmv : Nat → Int32) (p0 : Int32) (p1 : Int32) (p2 : Int32) (res : Int32) (hF : f_X9_worst N p0 p1 p2 mer dlt = some res) : MI l yX9_worst wsX9_worst rm_X9_worst D ky sz [.ref aM, .int p0, .int p1, .int p2] (w_model ky aM mxs mus mys mgp mtp mme mle mlt mkl mln msz mit mmv mrm mer mtd mat mwr mkn mmb mwa mra mbl mbh dxs dus dys dgp dtp dme dle dlt dkl dln dsz dit dmv) (w_model ky aM mxs mus mys mgp mtp mme mle mlt mkl mln msz mit mmv mrm mer mtd mat mwr mkn mmb mwa mra mbl mbh dxs dus dys dgp dtp dme dle dlt dkl dln dsz dit dmv) res := by
  unfold MI
  refine Met.ofW (cc := cX9_worst) (maxL := 8) (ret := (some .int)) (by decide) rfl ?_
  intro p e s m args below meth c s₁ B hml hv
  obtain ⟨rfl, hsz, hP, hK, hD0⟩ := hv
  have hx := B.exec
  have hb := B.bytes
  have hr := B.returns
  have hts := atoms_spec (ws := wsX9_worst) B.pre
  have hown : s.vm.findClass RX9 = some m.cls := findClass_of_methodNamed B.named
  have hlocks := B.notSynchronized
  subst hsz
  have hD := hD0.self (sz := s.heap.size)
  generalize hAe : va_A (w_model ky aM mxs mus mys mgp mtp mme mle mlt mkl mln msz mit mmv mrm mer mtd mat mwr mkn mmb mwa mra mbl mbh dxs dus dys dgp dtp dme dle dlt dkl dln dsz dit dmv) s.heap.size = A at hD ⊢
  have hA : ∀ q : Nat, s.heap.size ≤ q → A q := fun q h => by rw [← hAe]; exact Or.inr h
  have hS : va_S A s.heap s.heap [] := va_S.rf
  have hP : va_P D vwCl (w_model ky aM mxs mus mys mgp mtp mme mle mlt mkl mln msz mit mmv mrm mer mtd mat mwr mkn mmb mwa mra mbl mbh dxs dus dys dgp dtp dme dle dlt dkl dln dsz dit dmv) s.heap := hP
  have hl := lv_entry ([.ref aM, .int p0, .int p1, .int p2]) (n := 8) (Nat.le_of_ble_eq_true rfl)
  rw [lg_entry_eq]
  generalize (lg_sl ([.ref aM, .int p0, .int p1, .int p2]) ++ List.replicate (8 - (lg_sl ([.ref aM, .int p0, .int p1, .int p2])).length) Slot.unset).toArray = ls at hl ⊢
  have hl : lv_has ls 8 [(0, .ref aM), (1, .int p0), (2, .int p1), (3, .int p2)] := hl
  have C : cx p s m c ([.ref aM, .int p0, .int p1, .int p2]).toArray D ky A cX9_worst 8 wsX9_worst RX9 := ⟨hx, hb, hml, hown, hts, hK, hA⟩
  have hQ : ∀ (pc : Nat) (H : Heap) (locs : List Loc) (ls : Array Slot), decode cX9_worst pc = .ok (.ireturn, 1) → va_P D vwCl (w_model ky aM mxs mus mys mgp mtp mme mle mlt mkl mln msz mit mmv mrm mer mtd mat mwr mkn mmb mwa mra mbl mbh dxs dus dys dgp dtp dme dle dlt dkl dln dsz dit dmv) H → va_D A (w_model ky aM mxs mus mys mgp mtp mme mle mlt mkl mln msz mit mmv mrm mer mtd mat mwr mkn mmb mwa mra mbl mbh dxs dus dys dgp dtp dme dle dlt dkl dln dsz dit dmv) → va_S A s.heap H locs → W p l e rm_X9_worst s m ([.ref aM, .int p0, .int p1, .int p2]).toArray below meth c H locs 0 0 (MQ below (va_Qi (S := Unit) (fun r _ => r = res) (fun _ t => va_P D vwCl (w_model ky aM mxs mus mys mgp mtp mme mle mlt mkl mln msz mit mmv mrm mer mtd mat mwr mkn mmb mwa mra mbl mbh dxs dus dys dgp dtp dme dle dlt dkl dln dsz dit dmv) t.heap ∧ va_K D vwCl (tyW ky) t ∧ va_D A (w_model ky aM mxs mus mys mgp mtp mme mle mlt mkl mln msz mit mmv mrm mer mtd mat mwr mkn mmb mwa mra mbl mbh dxs dus dys dgp dtp dme dle dlt dkl dln dsz dit dmv)) A) ([.ref aM, .int p0, .int p1, .int p2]).toArray s 0 0 A) (F0 m pc ls [.int res]) := fun pc H locs ls hd hP hD hS => W.iret hx hb hr (fun t ht hW => ⟨⟨res, (), rfl, rfl, by rw [ht]; exact hP, va_K.moved hW.alike hK, hD⟩, hS.F ht⟩) hS.2.2 hd
  unfold f_X9_worst at hF
  refine lv_iconst (v := (0 : Int32)) hx hb dX9_worst_0 (by decide) ?_
  refine lv_istore (lv' := [(4, .int (0 : Int32)), (0, .ref aM), (1, .int p0), (2, .int p1), (3, .int p2)]) hx hb dX9_worst_1 hl (by decide) rfl (fun ls hl => ?_)
  refine lv_sipush (v := (-260 : Int32)) hx hb dX9_worst_3 (by decide) ?_
  refine lv_istore (lv' := [(5, .int (-260 : Int32)), (4, .int (0 : Int32)), (0, .ref aM), (1, .int p0), (2, .int p1), (3, .int p2)]) hx hb dX9_worst_6 hl (by decide) rfl (fun ls hl => ?_)
  exact w_X9_worst_8 N C res hQ p0 p1 p2 N (0 : Int32) (-260 : Int32) hF _ _ _ hP hD hS (lv_sub hl [2, 3, 4, 5, 1, 0] rfl)
theorem c_X9_worst (l : Launch) (D : va_G) (ky : Nat → ClassId) (aM mxs mus mys mgp mtp mme mle mlt mkl mln msz mit mmv : Nat) (sz N : Nat)  (mrm : Int32) (mer : Int32) (mtd : Int32) (mat : Int32) (mwr : Int32) (mkn : Int32) (mmb : Int32) (mwa : Int32) (mra : Int32) (mbl : Int32) (mbh : Int32) (dxs : Nat → Int32) (dus : Nat → Int32) (dys : Nat → Int32) (dgp : Nat → Int32) (dtp : Nat → Int32) (dme : Nat → Int32) (dle : Nat → Int32) (dlt : Nat → Int32) (dkl : Nat → Int32) (dln : Nat → Int32) (dsz : Nat → Int32) (dit : Nat → Int32) (dmv : Nat → Int32) (p0 : Int32) (p1 : Int32) (p2 : Int32) (rv : Int32) (hF : f_X9_worst N p0 p1 p2 mer dlt = some (rv)) : MI l yX9_worst wsX9_worst rm_X9_worst D ky sz [.ref aM, .int p0, .int p1, .int p2] (w_model ky aM mxs mus mys mgp mtp mme mle mlt mkl mln msz mit mmv mrm mer mtd mat mwr mkn mmb mwa mra mbl mbh dxs dus dys dgp dtp dme dle dlt dkl dln dsz dit dmv) (w_model ky aM mxs mus mys mgp mtp mme mle mlt mkl mln msz mit mmv mrm mer mtd mat mwr mkn mmb mwa mra mbl mbh dxs dus dys dgp dtp dme dle dlt dkl dln dsz dit dmv) rv :=
  cr_X9_worst l D ky aM mxs mus mys mgp mtp mme mle mlt mkl mln msz mit mmv sz N mrm mer mtd mat mwr mkn mmb mwa mra mbl mbh dxs dus dys dgp dtp dme dle dlt dkl dln dsz dit dmv p0 p1 p2 (rv) hF
abbrev rm_X9_laysLet : Room := { frames := 4, cells := 0, slots := 0, locals := 96 }
theorem iX9_laysLet_X9 : ∀ w ∈ wsX90, w ∈ wsX9_laysLet := by decide +kernel
theorem kX9_laysLet_1 : (Cond.fieldLink RX9 36 "TwoLawsModel" "let" "[Z") ∈ wsX9_laysLet := by decide +kernel
set_option maxHeartbeats 4000000 in
set_option maxRecDepth 100000 in
theorem w_X9_laysLet_4 {p : Program} {l : Launch} {e : Env} {s : State} {m : MethodId} {args : Array Value} {below : List Frame} {meth : Method} {c : Code} {Q : State → Prop} {A : Nat → Prop} {D : va_G} {ky : Nat → ClassId} {aM mxs mus mys mgp mtp mme mle mlt mkl mln msz mit mmv : Nat} {mrm : Int32} {mer : Int32} {mtd : Int32} {mat : Int32} {mwr : Int32} {mkn : Int32} {mmb : Int32} {mwa : Int32} {mra : Int32} {mbl : Int32} {mbh : Int32} {dxs : Nat → Int32} {dus : Nat → Int32} {dys : Nat → Int32} {dgp : Nat → Int32} {dtp : Nat → Int32} {dme : Nat → Int32} {dle : Nat → Int32} {dkl : Nat → Int32} {dln : Nat → Int32} {dsz : Nat → Int32} {dit : Nat → Int32} {dmv : Nat → Int32} (N : Nat) (C : cx p s m c args D ky A cX9_laysLet 4 wsX9_laysLet RX9) (res : Int32 × (Nat → Int32)) (hQ : ∀ (pc : Nat) (H : Heap) (locs : List Loc) (ls : Array Slot), decode cX9_laysLet pc = .ok (.ireturn, 1) → va_P D vwCl (w_model ky aM mxs mus mys mgp mtp mme mle mlt mkl mln msz mit mmv mrm mer mtd mat mwr mkn mmb mwa mra mbl mbh dxs dus dys dgp dtp dme dle res.2 dkl dln dsz dit dmv) H → va_D A (w_model ky aM mxs mus mys mgp mtp mme mle mlt mkl mln msz mit mmv mrm mer mtd mat mwr mkn mmb mwa mra mbl mbh dxs dus dys dgp dtp dme dle res.2 dkl dln dsz dit dmv) → va_S A s.heap H locs → W p l e rm_X9_laysLet s m args below meth c H locs 0 0 Q (F0 m pc ls [.int res.1])) (l1 : Int32) : ∀ (n : Nat) (l2 : Int32) (l3 : Int32) (dlt : Nat → Int32), f_X9_laysLet_4 N l1 mrm mer dxs dus dys dgp n l2 l3 dlt = some res → ∀ (H : Heap) (locs : List Loc) (ls : Array Slot), va_P D vwCl (w_model ky aM mxs mus mys mgp mtp mme mle mlt mkl mln msz mit mmv mrm mer mtd mat mwr mkn mmb mwa mra mbl mbh dxs dus dys dgp dtp dme dle dlt dkl dln dsz dit dmv) H → va_D A (w_model ky aM mxs mus mys mgp mtp mme mle mlt mkl mln msz mit mmv mrm mer mtd mat mwr mkn mmb mwa mra mbl mbh dxs dus dys dgp dtp dme dle dlt dkl dln dsz dit dmv) → va_S A s.heap H locs → lv_has ls 4 [(0, .ref aM), (1, .int l1), (2, .int l2), (3, .int l3)] → W p l e rm_X9_laysLet s m args below meth c H locs 0 0 Q (F0 m 4 ls []) := by
  obtain ⟨hx, hb, hml, hown, hts, hK, hA⟩ := id C
  intro n
  induction n with
  | zero =>
    intro l2 l3 dlt hF
    cases hF
  | succ n ih =>
    intro l2 l3 dlt hF H locs ls hP hD hS hl
    have hF : b_X9_laysLet_4 N l1 mrm mer dxs dus dys dgp (f_X9_laysLet_4 N l1 mrm mer dxs dus dys dgp n) l2 l3 dlt = some res := hF
    unfold b_X9_laysLet_4 at hF
    refine lv_iload_n hx hb dX9_laysLet_4 rfl (lv_at hl 3 rfl) ?_
    refine lv_sipush (v := (289 : Int32)) hx hb dX9_laysLet_5 (by decide) ?_
    refine lv_icmp_ge (tgt := 46) hx hb dX9_laysLet_8 (by decide) (fun c1 => ?_) (fun c1 => ?_)
    · have hF := if_t c1 hF
      refine lv_iload_n hx hb dX9_laysLet_46 rfl (lv_at hl 2 rfl) ?_
      have hF := Option.some.inj hF
      subst hF
      exact hQ _ H _ _ dX9_laysLet_47 hP hD hS
    · have hF := if_f c1 hF
      refine lv_aload_n hx hb dX9_laysLet_11 rfl (lv_at hl 0 rfl) ?_
      refine va_get (D := D) (ci := 8) (v := .ref mlt) (C := RX9) (T := TX9) (N := 24) hx hb hts iX9_laysLet_X9 hown hK hP 0 rfl rfl 12 (by decide) (hts _ kX9_laysLet_1) (fun _ h9 => h9) rfl dX9_laysLet_12 ?_
      refine lv_iload_n hx hb dX9_laysLet_15 rfl (lv_at hl 3 rfl) ?_
      refine lv_aload_n hx hb dX9_laysLet_16 rfl (lv_at hl 0 rfl) ?_
      refine lv_iload_n hx hb dX9_laysLet_17 rfl (lv_at hl 1 rfl) ?_
      refine lv_iload_n hx hb dX9_laysLet_18 rfl (lv_at hl 3 rfl) ?_
      obtain ⟨r3, h2, hF⟩ := b1_s hF
      refine cl_vi (As := [.int l1, .int l3]) (rest := [.int l3, .ref mlt]) (w' := (w_model ky aM mxs mus mys mgp mtp mme mle mlt mkl mln msz mit mmv mrm mer mtd mat mwr mkn mmb mwa mra mbl mbh dxs dus dys dgp dtp dme dle dlt dkl dln dsz dit dmv)) ⟨hx, hb, hml, hown, hts⟩ hK hP hD hS hA (c_X9_isLet l D ky aM mxs mus mys mgp mtp mme mle mlt mkl mln msz mit mmv _ N  mrm mer mtd mat mwr mkn mmb mwa mra mbl mbh dxs dus dys dgp dtp dme dle dlt dkl dln dsz dit dmv l1 l3 r3 h2) (cwV 2 hts gX9_laysLet_X9_isLet rfl rfl rfl (by decide +kernel) ⟨Nat.le_of_ble_eq_true rfl, Nat.le_of_ble_eq_true rfl⟩) [0, 1, 2, 3, 4, 5, 6, 7, 8, 9, 10, 11, 12, 13] [] [0, 1, 2, 3, 4, 5, 6, 7, 8, 9, 10, 11, 12, 13] 0 8 rfl rfl rfl rfl (wr := []) rfl (by decide) rfl rfl hl.1 (Nat.le_of_ble_eq_true rfl) dX9_laysLet_19 ⟨Nat.zero_le _, Nat.zero_le _⟩ (fun H locs hP hD hS => ?_)
      obtain ⟨h4, hF⟩ := gi_s hF
      refine va_zast hx hb hK hP hD hS 8 2 rfl rfl h4 dX9_laysLet_22 (fun H locs hP hD hS => ?_)
      have hP : va_P D vwCl (w_model ky aM mxs mus mys mgp mtp mme mle mlt mkl mln msz mit mmv mrm mer mtd mat mwr mkn mmb mwa mra mbl mbh dxs dus dys dgp dtp dme dle (upd dlt l3.toNatClampNeg (vp_nar .boolean r3)) dkl dln dsz dit dmv) H := hP
      have hD : va_D A (w_model ky aM mxs mus mys mgp mtp mme mle mlt mkl mln msz mit mmv mrm mer mtd mat mwr mkn mmb mwa mra mbl mbh dxs dus dys dgp dtp dme dle (upd dlt l3.toNatClampNeg (vp_nar .boolean r3)) dkl dln dsz dit dmv) := hD
      refine lv_iload_n hx hb dX9_laysLet_23 rfl (lv_at hl 2 rfl) ?_
      refine lv_aload_n hx hb dX9_laysLet_24 rfl (lv_at hl 0 rfl) ?_
      refine va_get (D := D) (ci := 8) (v := .ref mlt) (C := RX9) (T := TX9) (N := 24) hx hb hts iX9_laysLet_X9 hown hK hP 0 rfl rfl 12 (by decide) (hts _ kX9_laysLet_1) (fun _ h9 => h9) rfl dX9_laysLet_25 ?_
      refine lv_iload_n hx hb dX9_laysLet_28 rfl (lv_at hl 3 rfl) ?_
      obtain ⟨h5, hF⟩ := gi_s hF
      refine va_zald hx hb hK hP 8 2 rfl rfl h5 dX9_laysLet_29 ?_
      refine lv_if_eq (tgt := 37) hx hb dX9_laysLet_30 (by decide) (fun c6 => ?_) (fun c6 => ?_)
      · have hF := if_t c6 hF
        refine lv_iconst (v := (0 : Int32)) hx hb dX9_laysLet_37 (by decide) ?_
        refine lv_iadd hx hb dX9_laysLet_38 ?_
        refine lv_istore_n (lv' := [(2, .int (l2 + (0 : Int32))), (0, .ref aM), (1, .int l1), (3, .int l3)]) hx hb dX9_laysLet_39 rfl hl (by decide) rfl (fun ls hl => ?_)
        refine lv_iinc (v := (l3 + (1 : Int32))) (lv' := [(3, .int (l3 + (1 : Int32))), (2, .int (l2 + (0 : Int32))), (0, .ref aM), (1, .int l1)]) hx hb dX9_laysLet_40 hl (k := 3) rfl rfl (by decide) rfl (fun ls hl => ?_)
        refine lv_goto (tgt := 4) hx hb dX9_laysLet_43 (by decide) ?_
        exact ih (l2 + (0 : Int32)) (l3 + (1 : Int32)) (upd dlt l3.toNatClampNeg (vp_nar .boolean r3)) hF H _ _ hP hD hS (lv_sub hl [2, 3, 1, 0] rfl)
      · have hF := if_f c6 hF
        refine lv_iconst (v := (1 : Int32)) hx hb dX9_laysLet_33 (by decide) ?_
        refine lv_goto (tgt := 38) hx hb dX9_laysLet_34 (by decide) ?_
        refine lv_iadd hx hb dX9_laysLet_38 ?_
        refine lv_istore_n (lv' := [(2, .int (l2 + (1 : Int32))), (0, .ref aM), (1, .int l1), (3, .int l3)]) hx hb dX9_laysLet_39 rfl hl (by decide) rfl (fun ls hl => ?_)
        refine lv_iinc (v := (l3 + (1 : Int32))) (lv' := [(3, .int (l3 + (1 : Int32))), (2, .int (l2 + (1 : Int32))), (0, .ref aM), (1, .int l1)]) hx hb dX9_laysLet_40 hl (k := 3) rfl rfl (by decide) rfl (fun ls hl => ?_)
        refine lv_goto (tgt := 4) hx hb dX9_laysLet_43 (by decide) ?_
        exact ih (l2 + (1 : Int32)) (l3 + (1 : Int32)) (upd dlt l3.toNatClampNeg (vp_nar .boolean r3)) hF H _ _ hP hD hS (lv_sub hl [2, 3, 1, 0] rfl)
set_option maxHeartbeats 4000000 in
set_option maxRecDepth 100000 in
theorem cr_X9_laysLet (l : Launch) (D : va_G) (ky : Nat → ClassId) (aM mxs mus mys mgp mtp mme mle mlt mkl mln msz mit mmv : Nat) (sz N : Nat)  (mrm : Int32) (mer : Int32) (mtd : Int32) (mat : Int32) (mwr : Int32) (mkn : Int32) (mmb : Int32) (mwa : Int32) (mra : Int32) (mbl : Int32) (mbh : Int32) (dxs : Nat → Int32) (dus : Nat → Int32) (dys : Nat → Int32) (dgp : Nat → Int32) (dtp : Nat → Int32) (dme : Nat → Int32) (dle : Nat → Int32) (dlt : Nat → Int32) (dkl : Nat → Int32) (dln : Nat → Int32) (dsz : Nat → Int32) (dit : Nat → Int32) (dmv : Nat → Int32) (p0 : Int32) (res : Int32 × (Nat → Int32)) (hF : f_X9_laysLet N p0 mrm mer dxs dus dys dgp dlt = some res) : MI l yX9_laysLet wsX9_laysLet rm_X9_laysLet D ky sz [.ref aM, .int p0] (w_model ky aM mxs mus mys mgp mtp mme mle mlt mkl mln msz mit mmv mrm mer mtd mat mwr mkn mmb mwa mra mbl mbh dxs dus dys dgp dtp dme dle dlt dkl dln dsz dit dmv) (w_model ky aM mxs mus mys mgp mtp mme mle mlt mkl mln msz mit mmv mrm mer mtd mat mwr mkn mmb mwa mra mbl mbh dxs dus dys dgp dtp dme dle res.2 dkl dln dsz dit dmv) res.1 := by
  unfold MI
  refine Met.ofW (cc := cX9_laysLet) (maxL := 4) (ret := (some .int)) (by decide) rfl ?_
  intro p e s m args below meth c s₁ B hml hv
  obtain ⟨rfl, hsz, hP, hK, hD0⟩ := hv
  have hx := B.exec
  have hb := B.bytes
  have hr := B.returns
  have hts := atoms_spec (ws := wsX9_laysLet) B.pre
  have hown : s.vm.findClass RX9 = some m.cls := findClass_of_methodNamed B.named
  have hlocks := B.notSynchronized
  subst hsz
  have hD := hD0.self (sz := s.heap.size)
  generalize hAe : va_A (w_model ky aM mxs mus mys mgp mtp mme mle mlt mkl mln msz mit mmv mrm mer mtd mat mwr mkn mmb mwa mra mbl mbh dxs dus dys dgp dtp dme dle dlt dkl dln dsz dit dmv) s.heap.size = A at hD ⊢
  have hA : ∀ q : Nat, s.heap.size ≤ q → A q := fun q h => by rw [← hAe]; exact Or.inr h
  have hS : va_S A s.heap s.heap [] := va_S.rf
  have hP : va_P D vwCl (w_model ky aM mxs mus mys mgp mtp mme mle mlt mkl mln msz mit mmv mrm mer mtd mat mwr mkn mmb mwa mra mbl mbh dxs dus dys dgp dtp dme dle dlt dkl dln dsz dit dmv) s.heap := hP
  have hl := lv_entry ([.ref aM, .int p0]) (n := 4) (Nat.le_of_ble_eq_true rfl)
  rw [lg_entry_eq]
  generalize (lg_sl ([.ref aM, .int p0]) ++ List.replicate (4 - (lg_sl ([.ref aM, .int p0])).length) Slot.unset).toArray = ls at hl ⊢
  have hl : lv_has ls 4 [(0, .ref aM), (1, .int p0)] := hl
  have C : cx p s m c ([.ref aM, .int p0]).toArray D ky A cX9_laysLet 4 wsX9_laysLet RX9 := ⟨hx, hb, hml, hown, hts, hK, hA⟩
  have hQ : ∀ (pc : Nat) (H : Heap) (locs : List Loc) (ls : Array Slot), decode cX9_laysLet pc = .ok (.ireturn, 1) → va_P D vwCl (w_model ky aM mxs mus mys mgp mtp mme mle mlt mkl mln msz mit mmv mrm mer mtd mat mwr mkn mmb mwa mra mbl mbh dxs dus dys dgp dtp dme dle res.2 dkl dln dsz dit dmv) H → va_D A (w_model ky aM mxs mus mys mgp mtp mme mle mlt mkl mln msz mit mmv mrm mer mtd mat mwr mkn mmb mwa mra mbl mbh dxs dus dys dgp dtp dme dle res.2 dkl dln dsz dit dmv) → va_S A s.heap H locs → W p l e rm_X9_laysLet s m ([.ref aM, .int p0]).toArray below meth c H locs 0 0 (MQ below (va_Qi (S := Unit) (fun r _ => r = res.1) (fun _ t => va_P D vwCl (w_model ky aM mxs mus mys mgp mtp mme mle mlt mkl mln msz mit mmv mrm mer mtd mat mwr mkn mmb mwa mra mbl mbh dxs dus dys dgp dtp dme dle res.2 dkl dln dsz dit dmv) t.heap ∧ va_K D vwCl (tyW ky) t ∧ va_D A (w_model ky aM mxs mus mys mgp mtp mme mle mlt mkl mln msz mit mmv mrm mer mtd mat mwr mkn mmb mwa mra mbl mbh dxs dus dys dgp dtp dme dle res.2 dkl dln dsz dit dmv)) A) ([.ref aM, .int p0]).toArray s 0 0 A) (F0 m pc ls [.int res.1]) := fun pc H locs ls hd hP hD hS => W.iret hx hb hr (fun t ht hW => ⟨⟨res.1, (), rfl, rfl, by rw [ht]; exact hP, va_K.moved hW.alike hK, hD⟩, hS.F ht⟩) hS.2.2 hd
  unfold f_X9_laysLet at hF
  refine lv_iconst (v := (0 : Int32)) hx hb dX9_laysLet_0 (by decide) ?_
  refine lv_istore_n (lv' := [(2, .int (0 : Int32)), (0, .ref aM), (1, .int p0)]) hx hb dX9_laysLet_1 rfl hl (by decide) rfl (fun ls hl => ?_)
  refine lv_iconst (v := (0 : Int32)) hx hb dX9_laysLet_2 (by decide) ?_
  refine lv_istore_n (lv' := [(3, .int (0 : Int32)), (2, .int (0 : Int32)), (0, .ref aM), (1, .int p0)]) hx hb dX9_laysLet_3 rfl hl (by decide) rfl (fun ls hl => ?_)
  exact w_X9_laysLet_4 N C res hQ p0 N (0 : Int32) (0 : Int32) dlt hF _ _ _ hP hD hS (lv_sub hl [2, 3, 1, 0] rfl)
theorem c_X9_laysLet (l : Launch) (D : va_G) (ky : Nat → ClassId) (aM mxs mus mys mgp mtp mme mle mlt mkl mln msz mit mmv : Nat) (sz N : Nat)  (mrm : Int32) (mer : Int32) (mtd : Int32) (mat : Int32) (mwr : Int32) (mkn : Int32) (mmb : Int32) (mwa : Int32) (mra : Int32) (mbl : Int32) (mbh : Int32) (dxs : Nat → Int32) (dus : Nat → Int32) (dys : Nat → Int32) (dgp : Nat → Int32) (dtp : Nat → Int32) (dme : Nat → Int32) (dle : Nat → Int32) (dlt : Nat → Int32) (dkl : Nat → Int32) (dln : Nat → Int32) (dsz : Nat → Int32) (dit : Nat → Int32) (dmv : Nat → Int32) (p0 : Int32) (rv : Int32) (dlt' : Nat → Int32) (hF : f_X9_laysLet N p0 mrm mer dxs dus dys dgp dlt = some (rv, dlt')) : MI l yX9_laysLet wsX9_laysLet rm_X9_laysLet D ky sz [.ref aM, .int p0] (w_model ky aM mxs mus mys mgp mtp mme mle mlt mkl mln msz mit mmv mrm mer mtd mat mwr mkn mmb mwa mra mbl mbh dxs dus dys dgp dtp dme dle dlt dkl dln dsz dit dmv) (w_model ky aM mxs mus mys mgp mtp mme mle mlt mkl mln msz mit mmv mrm mer mtd mat mwr mkn mmb mwa mra mbl mbh dxs dus dys dgp dtp dme dle dlt' dkl dln dsz dit dmv) rv :=
  cr_X9_laysLet l D ky aM mxs mus mys mgp mtp mme mle mlt mkl mln msz mit mmv sz N mrm mer mtd mat mwr mkn mmb mwa mra mbl mbh dxs dus dys dgp dtp dme dle dlt dkl dln dsz dit dmv p0 (rv, dlt') hF
abbrev rm_X9_tries : Room := { frames := 5, cells := 0, slots := 0, locals := 119 }
theorem kX9_tries_0 : (Cond.constantLong RX9 182 (-9)) ∈ wsX9_tries := by decide +kernel
theorem kX9_tries_1 : (Cond.constantLong RX9 184 (9)) ∈ wsX9_tries := by decide +kernel
set_option maxHeartbeats 4000000 in
set_option maxRecDepth 100000 in
theorem cr_X9_tries (l : Launch) (D : va_G) (ky : Nat → ClassId) (aM mxs mus mys mgp mtp mme mle mlt mkl mln msz mit mmv : Nat) (sz N : Nat)  (mrm : Int32) (mer : Int32) (mtd : Int32) (mat : Int32) (mwr : Int32) (mkn : Int32) (mmb : Int32) (mwa : Int32) (mra : Int32) (mbl : Int32) (mbh : Int32) (dxs : Nat → Int32) (dus : Nat → Int32) (dys : Nat → Int32) (dgp : Nat → Int32) (dtp : Nat → Int32) (dme : Nat → Int32) (dle : Nat → Int32) (dlt : Nat → Int32) (dkl : Nat → Int32) (dln : Nat → Int32) (dsz : Nat → Int32) (dit : Nat → Int32) (dmv : Nat → Int32) (p0 : Int32) (p1 : Int32) (p2 : Int32) (res : Int32 × (Nat → Int32)) (hF : f_X9_tries N p0 p1 p2 mrm mer dxs dus dys dgp dlt = some res) : MI l yX9_tries wsX9_tries rm_X9_tries D ky sz [.ref aM, .int p0, .int p1, .int p2] (w_model ky aM mxs mus mys mgp mtp mme mle mlt mkl mln msz mit mmv mrm mer mtd mat mwr mkn mmb mwa mra mbl mbh dxs dus dys dgp dtp dme dle dlt dkl dln dsz dit dmv) (w_model ky aM mxs mus mys mgp mtp mme mle mlt mkl mln msz mit mmv mrm mer mtd mat mwr mkn mmb mwa mra mbl mbh dxs dus dys dgp dtp dme dle res.2 dkl dln dsz dit dmv) res.1 := by
  unfold MI
  refine Met.ofW (cc := cX9_tries) (maxL := 4) (ret := (some .int)) (by decide) rfl ?_
  intro p e s m args below meth c s₁ B hml hv
  obtain ⟨rfl, hsz, hP, hK, hD0⟩ := hv
  have hx := B.exec
  have hb := B.bytes
  have hr := B.returns
  have hts := atoms_spec (ws := wsX9_tries) B.pre
  have hown : s.vm.findClass RX9 = some m.cls := findClass_of_methodNamed B.named
  have hlocks := B.notSynchronized
  subst hsz
  have hD := hD0.self (sz := s.heap.size)
  generalize hAe : va_A (w_model ky aM mxs mus mys mgp mtp mme mle mlt mkl mln msz mit mmv mrm mer mtd mat mwr mkn mmb mwa mra mbl mbh dxs dus dys dgp dtp dme dle dlt dkl dln dsz dit dmv) s.heap.size = A at hD ⊢
  have hA : ∀ q : Nat, s.heap.size ≤ q → A q := fun q h => by rw [← hAe]; exact Or.inr h
  have hS : va_S A s.heap s.heap [] := va_S.rf
  have hP : va_P D vwCl (w_model ky aM mxs mus mys mgp mtp mme mle mlt mkl mln msz mit mmv mrm mer mtd mat mwr mkn mmb mwa mra mbl mbh dxs dus dys dgp dtp dme dle dlt dkl dln dsz dit dmv) s.heap := hP
  have hl := lv_entry ([.ref aM, .int p0, .int p1, .int p2]) (n := 4) (Nat.le_of_ble_eq_true rfl)
  rw [lg_entry_eq]
  generalize (lg_sl ([.ref aM, .int p0, .int p1, .int p2]) ++ List.replicate (4 - (lg_sl ([.ref aM, .int p0, .int p1, .int p2])).length) Slot.unset).toArray = ls at hl ⊢
  have hl : lv_has ls 4 [(0, .ref aM), (1, .int p0), (2, .int p1), (3, .int p2)] := hl
  have C : cx p s m c ([.ref aM, .int p0, .int p1, .int p2]).toArray D ky A cX9_tries 4 wsX9_tries RX9 := ⟨hx, hb, hml, hown, hts, hK, hA⟩
  have hQ : ∀ (pc : Nat) (H : Heap) (locs : List Loc) (ls : Array Slot), decode cX9_tries pc = .ok (.ireturn, 1) → va_P D vwCl (w_model ky aM mxs mus mys mgp mtp mme mle mlt mkl mln msz mit mmv mrm mer mtd mat mwr mkn mmb mwa mra mbl mbh dxs dus dys dgp dtp dme dle res.2 dkl dln dsz dit dmv) H → va_D A (w_model ky aM mxs mus mys mgp mtp mme mle mlt mkl mln msz mit mmv mrm mer mtd mat mwr mkn mmb mwa mra mbl mbh dxs dus dys dgp dtp dme dle res.2 dkl dln dsz dit dmv) → va_S A s.heap H locs → W p l e rm_X9_tries s m ([.ref aM, .int p0, .int p1, .int p2]).toArray below meth c H locs 0 0 (MQ below (va_Qi (S := Unit) (fun r _ => r = res.1) (fun _ t => va_P D vwCl (w_model ky aM mxs mus mys mgp mtp mme mle mlt mkl mln msz mit mmv mrm mer mtd mat mwr mkn mmb mwa mra mbl mbh dxs dus dys dgp dtp dme dle res.2 dkl dln dsz dit dmv) t.heap ∧ va_K D vwCl (tyW ky) t ∧ va_D A (w_model ky aM mxs mus mys mgp mtp mme mle mlt mkl mln msz mit mmv mrm mer mtd mat mwr mkn mmb mwa mra mbl mbh dxs dus dys dgp dtp dme dle res.2 dkl dln dsz dit dmv)) A) ([.ref aM, .int p0, .int p1, .int p2]).toArray s 0 0 A) (F0 m pc ls [.int res.1]) := fun pc H locs ls hd hP hD hS => W.iret hx hb hr (fun t ht hW => ⟨⟨res.1, (), rfl, rfl, by rw [ht]; exact hP, va_K.moved hW.alike hK, hD⟩, hS.F ht⟩) hS.2.2 hd
  unfold f_X9_tries at hF
  refine lv_aload_n hx hb dX9_tries_0 rfl (lv_at hl 0 rfl) ?_
  refine lv_iload_n hx hb dX9_tries_1 rfl (lv_at hl 1 rfl) ?_
  obtain ⟨r2, h1, hF⟩ := b1_s hF
  refine cl_vi (As := [.int p0]) (rest := []) (w' := (w_model ky aM mxs mus mys mgp mtp mme mle mlt mkl mln msz mit mmv mrm mer mtd mat mwr mkn mmb mwa mra mbl mbh dxs dus dys dgp dtp dme dle dlt dkl dln dsz dit dmv)) ⟨hx, hb, hml, hown, hts⟩ hK hP hD hS hA (c_X9_isHeap l D ky aM mxs mus mys mgp mtp mme mle mlt mkl mln msz mit mmv _ N  mrm mer mtd mat mwr mkn mmb mwa mra mbl mbh dxs dus dys dgp dtp dme dle dlt dkl dln dsz dit dmv p0 r2 h1) (cwV 1 hts gX9_tries_X9_isHeap rfl rfl rfl (by decide +kernel) ⟨Nat.le_of_ble_eq_true rfl, Nat.le_of_ble_eq_true rfl⟩) [0, 1, 2, 3, 4, 5, 6, 7, 8, 9, 10, 11, 12, 13] [] [0, 1, 2, 3, 4, 5, 6, 7, 8, 9, 10, 11, 12, 13] 0 8 rfl rfl rfl rfl (wr := []) rfl (by decide) rfl rfl hl.1 (Nat.le_of_ble_eq_true rfl) dX9_tries_2 ⟨Nat.zero_le _, Nat.zero_le _⟩ (fun H locs hP hD hS => ?_)
  refine lv_if_eq (tgt := 29) hx hb dX9_tries_5 (by decide) (fun c3 => ?_) (fun c3 => ?_)
  · have hF := if_t c3 hF
    refine lv_iconst (v := (-1 : Int32)) hx hb dX9_tries_29 (by decide) ?_
    have hF := Option.some.inj hF
    subst hF
    exact hQ _ _ _ _ dX9_tries_30 hP hD hS
  · have hF := if_f c3 hF
    refine lv_iload_n hx hb dX9_tries_8 rfl (lv_at hl 2 rfl) ?_
    obtain ⟨r5, h4, hF⟩ := b1_s hF
    refine cl_si (As := [.int p1]) (rest := []) ⟨hx, hb, hml, hown, hts⟩ hK hP hD hS hA (c_X9_isSmall l D ky  _ N   p1 r5 h4) (va_cwS 1 hts gX9_tries_X9_isSmall rfl rfl rfl (by decide +kernel) ⟨Nat.le_of_ble_eq_true rfl, Nat.le_of_ble_eq_true rfl⟩) rfl hl.1 (Nat.le_of_ble_eq_true rfl) dX9_tries_9 ⟨Nat.zero_le _, Nat.zero_le _⟩ (fun H locs hP hD hS => ?_)
    refine lv_if_eq (tgt := 29) hx hb dX9_tries_12 (by decide) (fun c6 => ?_) (fun c6 => ?_)
    · have hF := if_t c6 hF
      refine lv_iconst (v := (-1 : Int32)) hx hb dX9_tries_29 (by decide) ?_
      have hF := Option.some.inj hF
      subst hF
      exact hQ _ _ _ _ dX9_tries_30 hP hD hS
    · have hF := if_f c6 hF
      refine lv_iload_n hx hb dX9_tries_15 rfl (lv_at hl 3 rfl) ?_
      refine lv_i2l (v := (p2.toInt64)) hx hb dX9_tries_16 rfl ?_
      refine lv_ldc2 hx hb hown (hts _ kX9_tries_0) dX9_tries_17 ?_
      refine lv_ldc2 hx hb hown (hts _ kX9_tries_1) dX9_tries_20 ?_
      obtain ⟨r8, h7, hF⟩ := b1_s hF
      refine cl_si (As := [.long (p2.toInt64), .long (-9 : Int64), .long (9 : Int64)]) (rest := []) ⟨hx, hb, hml, hown, hts⟩ hK hP hD hS hA (c_X9_in l D ky  _ N   (p2.toInt64) (-9 : Int64) (9 : Int64) r8 h7) (va_cwS 3 hts gX9_tries_X9_in rfl rfl rfl (by decide +kernel) ⟨Nat.le_of_ble_eq_true rfl, Nat.le_of_ble_eq_true rfl⟩) rfl hl.1 (Nat.le_of_ble_eq_true rfl) dX9_tries_23 ⟨Nat.zero_le _, Nat.zero_le _⟩ (fun H locs hP hD hS => ?_)
      refine lv_if_ne (tgt := 31) hx hb dX9_tries_26 (by decide) (fun c9 => ?_) (fun c9 => ?_)
      · have hF := if_f c9 hF
        refine lv_aload_n hx hb dX9_tries_31 rfl (lv_at hl 0 rfl) ?_
        refine lv_iload_n hx hb dX9_tries_32 rfl (lv_at hl 1 rfl) ?_
        obtain ⟨r11, v12, h10, hF⟩ := b2_s hF
        refine cl_vi (As := [.int p0]) (rest := []) (w' := (w_model ky aM mxs mus mys mgp mtp mme mle mlt mkl mln msz mit mmv mrm mer mtd mat mwr mkn mmb mwa mra mbl mbh dxs dus dys dgp dtp dme dle v12 dkl dln dsz dit dmv)) ⟨hx, hb, hml, hown, hts⟩ hK hP hD hS hA (c_X9_laysLet l D ky aM mxs mus mys mgp mtp mme mle mlt mkl mln msz mit mmv _ N  mrm mer mtd mat mwr mkn mmb mwa mra mbl mbh dxs dus dys dgp dtp dme dle dlt dkl dln dsz dit dmv p0 r11 v12 h10) (cwV 1 hts gX9_tries_X9_laysLet rfl rfl rfl (by decide +kernel) ⟨Nat.le_of_ble_eq_true rfl, Nat.le_of_ble_eq_true rfl⟩) [0, 1, 2, 3, 4, 5, 6, 7, 8, 9, 10, 11, 12, 13] [] [0, 1, 2, 3, 4, 5, 6, 7, 8, 9, 10, 11, 12, 13] 0 8 rfl rfl rfl rfl (wr := []) rfl (by decide) rfl rfl hl.1 (Nat.le_of_ble_eq_true rfl) dX9_tries_33 ⟨Nat.zero_le _, Nat.zero_le _⟩ (fun H locs hP hD hS => ?_)
        refine lv_if_ne (tgt := 44) hx hb dX9_tries_36 (by decide) (fun c13 => ?_) (fun c13 => ?_)
        · have hF := if_f c13 hF
          refine lv_aload_n hx hb dX9_tries_44 rfl (lv_at hl 0 rfl) ?_
          refine lv_iload_n hx hb dX9_tries_45 rfl (lv_at hl 1 rfl) ?_
          refine lv_iload_n hx hb dX9_tries_46 rfl (lv_at hl 2 rfl) ?_
          refine lv_iload_n hx hb dX9_tries_47 rfl (lv_at hl 3 rfl) ?_
          obtain ⟨r15, h14, hF⟩ := b1_s hF
          refine cl_vi (As := [.int p0, .int p1, .int p2]) (rest := []) (w' := (w_model ky aM mxs mus mys mgp mtp mme mle mlt mkl mln msz mit mmv mrm mer mtd mat mwr mkn mmb mwa mra mbl mbh dxs dus dys dgp dtp dme dle v12 dkl dln dsz dit dmv)) ⟨hx, hb, hml, hown, hts⟩ hK hP hD hS hA (c_X9_worst l D ky aM mxs mus mys mgp mtp mme mle mlt mkl mln msz mit mmv _ N  mrm mer mtd mat mwr mkn mmb mwa mra mbl mbh dxs dus dys dgp dtp dme dle v12 dkl dln dsz dit dmv p0 p1 p2 r15 h14) (cwV 3 hts gX9_tries_X9_worst rfl rfl rfl (by decide +kernel) ⟨Nat.le_of_ble_eq_true rfl, Nat.le_of_ble_eq_true rfl⟩) [0, 1, 2, 3, 4, 5, 6, 7, 8, 9, 10, 11, 12, 13] [] [0, 1, 2, 3, 4, 5, 6, 7, 8, 9, 10, 11, 12, 13] 0 8 rfl rfl rfl rfl (wr := []) rfl (by decide) rfl rfl hl.1 (Nat.le_of_ble_eq_true rfl) dX9_tries_48 ⟨Nat.zero_le _, Nat.zero_le _⟩ (fun H locs hP hD hS => ?_)
          have hF := Option.some.inj hF
          subst hF
          exact hQ _ _ _ _ dX9_tries_51 hP hD hS
        · have hF := if_t c13 hF
          refine lv_bipush (v := (-4 : Int32)) hx hb dX9_tries_39 (by decide) ?_
          refine lv_goto (tgt := 51) hx hb dX9_tries_41 (by decide) ?_
          have hF := Option.some.inj hF
          subst hF
          exact hQ _ _ _ _ dX9_tries_51 hP hD hS
      · have hF := if_t c9 hF
        refine lv_iconst (v := (-1 : Int32)) hx hb dX9_tries_29 (by decide) ?_
        have hF := Option.some.inj hF
        subst hF
        exact hQ _ _ _ _ dX9_tries_30 hP hD hS
theorem c_X9_tries (l : Launch) (D : va_G) (ky : Nat → ClassId) (aM mxs mus mys mgp mtp mme mle mlt mkl mln msz mit mmv : Nat) (sz N : Nat)  (mrm : Int32) (mer : Int32) (mtd : Int32) (mat : Int32) (mwr : Int32) (mkn : Int32) (mmb : Int32) (mwa : Int32) (mra : Int32) (mbl : Int32) (mbh : Int32) (dxs : Nat → Int32) (dus : Nat → Int32) (dys : Nat → Int32) (dgp : Nat → Int32) (dtp : Nat → Int32) (dme : Nat → Int32) (dle : Nat → Int32) (dlt : Nat → Int32) (dkl : Nat → Int32) (dln : Nat → Int32) (dsz : Nat → Int32) (dit : Nat → Int32) (dmv : Nat → Int32) (p0 : Int32) (p1 : Int32) (p2 : Int32) (rv : Int32) (dlt' : Nat → Int32) (hF : f_X9_tries N p0 p1 p2 mrm mer dxs dus dys dgp dlt = some (rv, dlt')) : MI l yX9_tries wsX9_tries rm_X9_tries D ky sz [.ref aM, .int p0, .int p1, .int p2] (w_model ky aM mxs mus mys mgp mtp mme mle mlt mkl mln msz mit mmv mrm mer mtd mat mwr mkn mmb mwa mra mbl mbh dxs dus dys dgp dtp dme dle dlt dkl dln dsz dit dmv) (w_model ky aM mxs mus mys mgp mtp mme mle mlt mkl mln msz mit mmv mrm mer mtd mat mwr mkn mmb mwa mra mbl mbh dxs dus dys dgp dtp dme dle dlt' dkl dln dsz dit dmv) rv :=
  cr_X9_tries l D ky aM mxs mus mys mgp mtp mme mle mlt mkl mln msz mit mmv sz N mrm mer mtd mat mwr mkn mmb mwa mra mbl mbh dxs dus dys dgp dtp dme dle dlt dkl dln dsz dit dmv p0 p1 p2 (rv, dlt') hF
abbrev rm_X9_best : Room := { frames := 5, cells := 0, slots := 0, locals := 119 }
theorem kX9_best_0 : (Cond.constant RX9 129 (-1000001)) ∈ wsX9_best := by decide +kernel
theorem kX9_best_1 : (Cond.constant RX9 130 (-1000004)) ∈ wsX9_best := by decide +kernel
set_option maxHeartbeats 4000000 in
set_option maxRecDepth 100000 in
theorem w_X9_best_75 {p : Program} {l : Launch} {e : Env} {s : State} {m : MethodId} {args : Array Value} {below : List Frame} {meth : Method} {c : Code} {Q : State → Prop} {A : Nat → Prop} {D : va_G} {ky : Nat → ClassId} {aM mxs mus mys mgp mtp mme mle mlt mkl mln msz mit mmv : Nat} {mrm : Int32} {mer : Int32} {mtd : Int32} {mat : Int32} {mwr : Int32} {mkn : Int32} {mmb : Int32} {mwa : Int32} {mra : Int32} {mbl : Int32} {mbh : Int32} {dxs : Nat → Int32} {dus : Nat → Int32} {dys : Nat → Int32} {dgp : Nat → Int32} {dtp : Nat → Int32} {dme : Nat → Int32} {dle : Nat → Int32} {dkl : Nat → Int32} {dln : Nat → Int32} {dsz : Nat → Int32} {dit : Nat → Int32} {dmv : Nat → Int32} (N : Nat) (C : cx p s m c args D ky A cX9_best 7 wsX9_best RX9) (res : Int32 × (Nat → Int32)) (hQ : ∀ (pc : Nat) (H : Heap) (locs : List Loc) (ls : Array Slot), decode cX9_best pc = .ok (.ireturn, 1) → va_P D vwCl (w_model ky aM mxs mus mys mgp mtp mme mle mlt mkl mln msz mit mmv mrm mer mtd mat mwr mkn mmb mwa mra mbl mbh dxs dus dys dgp dtp dme dle res.2 dkl dln dsz dit dmv) H → va_D A (w_model ky aM mxs mus mys mgp mtp mme mle mlt mkl mln msz mit mmv mrm mer mtd mat mwr mkn mmb mwa mra mbl mbh dxs dus dys dgp dtp dme dle res.2 dkl dln dsz dit dmv) → va_S A s.heap H locs → W p l e rm_X9_best s m args below meth c H locs 0 0 Q (F0 m pc ls [.int res.1])) (l1 : Int32) (l2 : Int32) (dlt : Nat → Int32) (k39 : Int32 → Int32 → Int32 → Option (Int32 × (Nat → Int32))) (hk39 : ∀ (l3 : Int32) (l4 : Int32) (l5 : Int32), k39 l3 l4 l5 = some res → ∀ (H : Heap) (locs : List Loc) (ls : Array Slot), va_P D vwCl (w_model ky aM mxs mus mys mgp mtp mme mle mlt mkl mln msz mit mmv mrm mer mtd mat mwr mkn mmb mwa mra mbl mbh dxs dus dys dgp dtp dme dle dlt dkl dln dsz dit dmv) H → va_D A (w_model ky aM mxs mus mys mgp mtp mme mle mlt mkl mln msz mit mmv mrm mer mtd mat mwr mkn mmb mwa mra mbl mbh dxs dus dys dgp dtp dme dle dlt dkl dln dsz dit dmv) → va_S A s.heap H locs → lv_has ls 7 [(0, .ref aM), (1, .int l1), (2, .int l2), (3, .int l3), (4, .int l4), (5, .int l5)] → W p l e rm_X9_best s m args below meth c H locs 0 0 Q (F0 m 39 ls [])) (l4 : Int32) (l5 : Int32) (l6 : Int32) (t0 : Int32) (hF : f_X9_best_75 N k39 l1 l2 l4 l5 l6 t0 mer dlt = some res) : ∀ (H : Heap) (locs : List Loc) (ls : Array Slot), va_P D vwCl (w_model ky aM mxs mus mys mgp mtp mme mle mlt mkl mln msz mit mmv mrm mer mtd mat mwr mkn mmb mwa mra mbl mbh dxs dus dys dgp dtp dme dle dlt dkl dln dsz dit dmv) H → va_D A (w_model ky aM mxs mus mys mgp mtp mme mle mlt mkl mln msz mit mmv mrm mer mtd mat mwr mkn mmb mwa mra mbl mbh dxs dus dys dgp dtp dme dle dlt dkl dln dsz dit dmv) → va_S A s.heap H locs → lv_has ls 7 [(0, .ref aM), (1, .int l1), (2, .int l2), (4, .int l4), (5, .int l5), (6, .int l6)] → W p l e rm_X9_best s m args below meth c H locs 0 0 Q (F0 m 75 ls [.int t0]) := by
  obtain ⟨hx, hb, hml, hown, hts, hK, hA⟩ := id C
  intro H locs ls hP hD hS hl
  unfold f_X9_best_75 at hF
  refine lv_istore_n (lv' := [(3, .int t0), (0, .ref aM), (1, .int l1), (2, .int l2), (4, .int l4), (5, .int l5), (6, .int l6)]) hx hb dX9_best_75 rfl hl (by decide) rfl (fun ls hl => ?_)
  refine lv_iload hx hb dX9_best_76 (lv_at hl 6 rfl) ?_
  refine lv_iload hx hb dX9_best_78 (lv_at hl 4 rfl) ?_
  refine lv_icmp_ge (tgt := 88) hx hb dX9_best_80 (by decide) (fun c19 => ?_) (fun c19 => ?_)
  · have hF := if_t c19 hF
    refine lv_iload hx hb dX9_best_88 (lv_at hl 4 rfl) ?_
    refine lv_istore (lv' := [(4, .int l4), (3, .int t0), (0, .ref aM), (1, .int l1), (2, .int l2), (5, .int l5), (6, .int l6)]) hx hb dX9_best_90 hl (by decide) rfl (fun ls hl => ?_)
    refine lv_iinc (v := (l5 + (1 : Int32))) (lv' := [(5, .int (l5 + (1 : Int32))), (4, .int l4), (3, .int t0), (0, .ref aM), (1, .int l1), (2, .int l2), (6, .int l6)]) hx hb dX9_best_92 hl (k := 5) rfl rfl (by decide) rfl (fun ls hl => ?_)
    refine lv_goto (tgt := 39) hx hb dX9_best_95 (by decide) ?_
    exact hk39 t0 l4 (l5 + (1 : Int32)) hF H _ _ hP hD hS (lv_sub hl [3, 4, 5, 2, 1, 0] rfl)
  · have hF := if_f c19 hF
    refine lv_iload hx hb dX9_best_83 (lv_at hl 6 rfl) ?_
    refine lv_goto (tgt := 90) hx hb dX9_best_85 (by decide) ?_
    refine lv_istore (lv' := [(4, .int l6), (3, .int t0), (0, .ref aM), (1, .int l1), (2, .int l2), (5, .int l5), (6, .int l6)]) hx hb dX9_best_90 hl (by decide) rfl (fun ls hl => ?_)
    refine lv_iinc (v := (l5 + (1 : Int32))) (lv' := [(5, .int (l5 + (1 : Int32))), (4, .int l6), (3, .int t0), (0, .ref aM), (1, .int l1), (2, .int l2), (6, .int l6)]) hx hb dX9_best_92 hl (k := 5) rfl rfl (by decide) rfl (fun ls hl => ?_)
    refine lv_goto (tgt := 39) hx hb dX9_best_95 (by decide) ?_
    exact hk39 t0 l6 (l5 + (1 : Int32)) hF H _ _ hP hD hS (lv_sub hl [3, 4, 5, 2, 1, 0] rfl)
set_option maxHeartbeats 4000000 in
set_option maxRecDepth 100000 in
theorem w_X9_best_39 {p : Program} {l : Launch} {e : Env} {s : State} {m : MethodId} {args : Array Value} {below : List Frame} {meth : Method} {c : Code} {Q : State → Prop} {A : Nat → Prop} {D : va_G} {ky : Nat → ClassId} {aM mxs mus mys mgp mtp mme mle mlt mkl mln msz mit mmv : Nat} {mrm : Int32} {mer : Int32} {mtd : Int32} {mat : Int32} {mwr : Int32} {mkn : Int32} {mmb : Int32} {mwa : Int32} {mra : Int32} {mbl : Int32} {mbh : Int32} {dxs : Nat → Int32} {dus : Nat → Int32} {dys : Nat → Int32} {dgp : Nat → Int32} {dtp : Nat → Int32} {dme : Nat → Int32} {dle : Nat → Int32} {dkl : Nat → Int32} {dln : Nat → Int32} {dsz : Nat → Int32} {dit : Nat → Int32} {dmv : Nat → Int32} (N : Nat) (C : cx p s m c args D ky A cX9_best 7 wsX9_best RX9) (res : Int32 × (Nat → Int32)) (hQ : ∀ (pc : Nat) (H : Heap) (locs : List Loc) (ls : Array Slot), decode cX9_best pc = .ok (.ireturn, 1) → va_P D vwCl (w_model ky aM mxs mus mys mgp mtp mme mle mlt mkl mln msz mit mmv mrm mer mtd mat mwr mkn mmb mwa mra mbl mbh dxs dus dys dgp dtp dme dle res.2 dkl dln dsz dit dmv) H → va_D A (w_model ky aM mxs mus mys mgp mtp mme mle mlt mkl mln msz mit mmv mrm mer mtd mat mwr mkn mmb mwa mra mbl mbh dxs dus dys dgp dtp dme dle res.2 dkl dln dsz dit dmv) → va_S A s.heap H locs → W p l e rm_X9_best s m args below meth c H locs 0 0 Q (F0 m pc ls [.int res.1])) (l1 : Int32) (l2 : Int32) (dlt : Nat → Int32) : ∀ (n : Nat) (l3 : Int32) (l4 : Int32) (l5 : Int32), f_X9_best_39 N l1 l2 mer dlt n l3 l4 l5 = some res → ∀ (H : Heap) (locs : List Loc) (ls : Array Slot), va_P D vwCl (w_model ky aM mxs mus mys mgp mtp mme mle mlt mkl mln msz mit mmv mrm mer mtd mat mwr mkn mmb mwa mra mbl mbh dxs dus dys dgp dtp dme dle dlt dkl dln dsz dit dmv) H → va_D A (w_model ky aM mxs mus mys mgp mtp mme mle mlt mkl mln msz mit mmv mrm mer mtd mat mwr mkn mmb mwa mra mbl mbh dxs dus dys dgp dtp dme dle dlt dkl dln dsz dit dmv) → va_S A s.heap H locs → lv_has ls 7 [(0, .ref aM), (1, .int l1), (2, .int l2), (3, .int l3), (4, .int l4), (5, .int l5)] → W p l e rm_X9_best s m args below meth c H locs 0 0 Q (F0 m 39 ls []) := by
  obtain ⟨hx, hb, hml, hown, hts, hK, hA⟩ := id C
  intro n
  induction n with
  | zero =>
    intro l3 l4 l5 hF
    cases hF
  | succ n ih =>
    intro l3 l4 l5 hF H locs ls hP hD hS hl
    have hF : b_X9_best_39 N l1 l2 mer dlt (f_X9_best_39 N l1 l2 mer dlt n) l3 l4 l5 = some res := hF
    unfold b_X9_best_39 at hF
    refine lv_iload hx hb dX9_best_39 (lv_at hl 5 rfl) ?_
    refine lv_bipush (v := (19 : Int32)) hx hb dX9_best_41 (by decide) ?_
    refine lv_icmp_ge (tgt := 98) hx hb dX9_best_43 (by decide) (fun c11 => ?_) (fun c11 => ?_)
    · have hF := if_t c11 hF
      refine lv_iload_n hx hb dX9_best_98 rfl (lv_at hl 3 rfl) ?_
      have hF := Option.some.inj hF
      subst hF
      exact hQ _ H _ _ dX9_best_99 hP hD hS
    · have hF := if_f c11 hF
      refine lv_aload_n hx hb dX9_best_46 rfl (lv_at hl 0 rfl) ?_
      refine lv_iload_n hx hb dX9_best_47 rfl (lv_at hl 1 rfl) ?_
      refine lv_iload_n hx hb dX9_best_48 rfl (lv_at hl 2 rfl) ?_
      refine lv_iload hx hb dX9_best_49 (lv_at hl 5 rfl) ?_
      obtain ⟨r13, h12, hF⟩ := b1_s hF
      refine cl_si (As := [.int l5]) (rest := [.int l2, .int l1, .ref aM]) ⟨hx, hb, hml, hown, hts⟩ hK hP hD hS hA (c_X9_pushAt l D ky  _ N   l5 r13 h12) (va_cwS 1 hts gX9_best_X9_pushAt rfl rfl rfl (by decide +kernel) ⟨Nat.le_of_ble_eq_true rfl, Nat.le_of_ble_eq_true rfl⟩) rfl hl.1 (Nat.le_of_ble_eq_true rfl) dX9_best_51 ⟨Nat.zero_le _, Nat.zero_le _⟩ (fun H locs hP hD hS => ?_)
      obtain ⟨r15, h14, hF⟩ := b1_s hF
      refine cl_vi (As := [.int l1, .int l2, .int r13]) (rest := []) (w' := (w_model ky aM mxs mus mys mgp mtp mme mle mlt mkl mln msz mit mmv mrm mer mtd mat mwr mkn mmb mwa mra mbl mbh dxs dus dys dgp dtp dme dle dlt dkl dln dsz dit dmv)) ⟨hx, hb, hml, hown, hts⟩ hK hP hD hS hA (c_X9_worst l D ky aM mxs mus mys mgp mtp mme mle mlt mkl mln msz mit mmv _ N  mrm mer mtd mat mwr mkn mmb mwa mra mbl mbh dxs dus dys dgp dtp dme dle dlt dkl dln dsz dit dmv l1 l2 r13 r15 h14) (cwV 3 hts gX9_best_X9_worst rfl rfl rfl (by decide +kernel) ⟨Nat.le_of_ble_eq_true rfl, Nat.le_of_ble_eq_true rfl⟩) [0, 1, 2, 3, 4, 5, 6, 7, 8, 9, 10, 11, 12, 13] [] [0, 1, 2, 3, 4, 5, 6, 7, 8, 9, 10, 11, 12, 13] 0 8 rfl rfl rfl rfl (wr := []) rfl (by decide) rfl rfl hl.1 (Nat.le_of_ble_eq_true rfl) dX9_best_54 ⟨Nat.zero_le _, Nat.zero_le _⟩ (fun H locs hP hD hS => ?_)
      refine lv_istore (lv' := [(6, .int r15), (0, .ref aM), (1, .int l1), (2, .int l2), (3, .int l3), (4, .int l4), (5, .int l5)]) hx hb dX9_best_57 hl (by decide) rfl (fun ls hl => ?_)
      refine lv_iload hx hb dX9_best_59 (lv_at hl 0 rfl) ?_
      refine lv_iload hx hb dX9_best_61 (lv_at hl 5 rfl) ?_
      refine lv_icmp_ge (tgt := 74) hx hb dX9_best_63 (by decide) (fun c16 => ?_) (fun c16 => ?_)
      · have hF := if_t c16 hF
        refine lv_iload_n hx hb dX9_best_74 rfl (lv_at hl 4 rfl) ?_
        exact w_X9_best_75 N C res hQ l1 l2 dlt _ ih l4 l5 r15 l3 hF H _ _ hP hD hS (lv_sub hl [1, 2, 3, 5, 6, 0] rfl)
      · have hF := if_f c16 hF
        refine lv_iload hx hb dX9_best_66 (lv_at hl 6 rfl) ?_
        obtain ⟨r18, h17, hF⟩ := b1_s hF
        refine cl_si (As := [.int l5]) (rest := []) ⟨hx, hb, hml, hown, hts⟩ hK hP hD hS hA (c_X9_pushAt l D ky  _ N   l5 r18 h17) (va_cwS 1 hts gX9_best_X9_pushAt rfl rfl rfl (by decide +kernel) ⟨Nat.le_of_ble_eq_true rfl, Nat.le_of_ble_eq_true rfl⟩) rfl hl.1 (Nat.le_of_ble_eq_true rfl) dX9_best_68 ⟨Nat.zero_le _, Nat.zero_le _⟩ (fun H locs hP hD hS => ?_)
        refine lv_goto (tgt := 75) hx hb dX9_best_71 (by decide) ?_
        exact w_X9_best_75 N C res hQ l1 l2 dlt _ ih l4 l5 r15 r18 hF H _ _ hP hD hS (lv_sub hl [1, 2, 3, 5, 6, 0] rfl)
set_option maxHeartbeats 4000000 in
set_option maxRecDepth 100000 in
theorem cr_X9_best (l : Launch) (D : va_G) (ky : Nat → ClassId) (aM mxs mus mys mgp mtp mme mle mlt mkl mln msz mit mmv : Nat) (sz N : Nat)  (mrm : Int32) (mer : Int32) (mtd : Int32) (mat : Int32) (mwr : Int32) (mkn : Int32) (mmb : Int32) (mwa : Int32) (mra : Int32) (mbl : Int32) (mbh : Int32) (dxs : Nat → Int32) (dus : Nat → Int32) (dys : Nat → Int32) (dgp : Nat → Int32) (dtp : Nat → Int32) (dme : Nat → Int32) (dle : Nat → Int32) (dlt : Nat → Int32) (dkl : Nat → Int32) (dln : Nat → Int32) (dsz : Nat → Int32) (dit : Nat → Int32) (dmv : Nat → Int32) (p0 : Int32) (p1 : Int32) (res : Int32 × (Nat → Int32)) (hF : f_X9_best N p0 p1 mrm mer dxs dus dys dgp dlt = some res) : MI l yX9_best wsX9_best rm_X9_best D ky sz [.ref aM, .int p0, .int p1] (w_model ky aM mxs mus mys mgp mtp mme mle mlt mkl mln msz mit mmv mrm mer mtd mat mwr mkn mmb mwa mra mbl mbh dxs dus dys dgp dtp dme dle dlt dkl dln dsz dit dmv) (w_model ky aM mxs mus mys mgp mtp mme mle mlt mkl mln msz mit mmv mrm mer mtd mat mwr mkn mmb mwa mra mbl mbh dxs dus dys dgp dtp dme dle res.2 dkl dln dsz dit dmv) res.1 := by
  unfold MI
  refine Met.ofW (cc := cX9_best) (maxL := 7) (ret := (some .int)) (by decide) rfl ?_
  intro p e s m args below meth c s₁ B hml hv
  obtain ⟨rfl, hsz, hP, hK, hD0⟩ := hv
  have hx := B.exec
  have hb := B.bytes
  have hr := B.returns
  have hts := atoms_spec (ws := wsX9_best) B.pre
  have hown : s.vm.findClass RX9 = some m.cls := findClass_of_methodNamed B.named
  have hlocks := B.notSynchronized
  subst hsz
  have hD := hD0.self (sz := s.heap.size)
  generalize hAe : va_A (w_model ky aM mxs mus mys mgp mtp mme mle mlt mkl mln msz mit mmv mrm mer mtd mat mwr mkn mmb mwa mra mbl mbh dxs dus dys dgp dtp dme dle dlt dkl dln dsz dit dmv) s.heap.size = A at hD ⊢
  have hA : ∀ q : Nat, s.heap.size ≤ q → A q := fun q h => by rw [← hAe]; exact Or.inr h
  have hS : va_S A s.heap s.heap [] := va_S.rf
  have hP : va_P D vwCl (w_model ky aM mxs mus mys mgp mtp mme mle mlt mkl mln msz mit mmv mrm mer mtd mat mwr mkn mmb mwa mra mbl mbh dxs dus dys dgp dtp dme dle dlt dkl dln dsz dit dmv) s.heap := hP
  have hl := lv_entry ([.ref aM, .int p0, .int p1]) (n := 7) (Nat.le_of_ble_eq_true rfl)
  rw [lg_entry_eq]
  generalize (lg_sl ([.ref aM, .int p0, .int p1]) ++ List.replicate (7 - (lg_sl ([.ref aM, .int p0, .int p1])).length) Slot.unset).toArray = ls at hl ⊢
  have hl : lv_has ls 7 [(0, .ref aM), (1, .int p0), (2, .int p1)] := hl
  have C : cx p s m c ([.ref aM, .int p0, .int p1]).toArray D ky A cX9_best 7 wsX9_best RX9 := ⟨hx, hb, hml, hown, hts, hK, hA⟩
  have hQ : ∀ (pc : Nat) (H : Heap) (locs : List Loc) (ls : Array Slot), decode cX9_best pc = .ok (.ireturn, 1) → va_P D vwCl (w_model ky aM mxs mus mys mgp mtp mme mle mlt mkl mln msz mit mmv mrm mer mtd mat mwr mkn mmb mwa mra mbl mbh dxs dus dys dgp dtp dme dle res.2 dkl dln dsz dit dmv) H → va_D A (w_model ky aM mxs mus mys mgp mtp mme mle mlt mkl mln msz mit mmv mrm mer mtd mat mwr mkn mmb mwa mra mbl mbh dxs dus dys dgp dtp dme dle res.2 dkl dln dsz dit dmv) → va_S A s.heap H locs → W p l e rm_X9_best s m ([.ref aM, .int p0, .int p1]).toArray below meth c H locs 0 0 (MQ below (va_Qi (S := Unit) (fun r _ => r = res.1) (fun _ t => va_P D vwCl (w_model ky aM mxs mus mys mgp mtp mme mle mlt mkl mln msz mit mmv mrm mer mtd mat mwr mkn mmb mwa mra mbl mbh dxs dus dys dgp dtp dme dle res.2 dkl dln dsz dit dmv) t.heap ∧ va_K D vwCl (tyW ky) t ∧ va_D A (w_model ky aM mxs mus mys mgp mtp mme mle mlt mkl mln msz mit mmv mrm mer mtd mat mwr mkn mmb mwa mra mbl mbh dxs dus dys dgp dtp dme dle res.2 dkl dln dsz dit dmv)) A) ([.ref aM, .int p0, .int p1]).toArray s 0 0 A) (F0 m pc ls [.int res.1]) := fun pc H locs ls hd hP hD hS => W.iret hx hb hr (fun t ht hW => ⟨⟨res.1, (), rfl, rfl, by rw [ht]; exact hP, va_K.moved hW.alike hK, hD⟩, hS.F ht⟩) hS.2.2 hd
  unfold f_X9_best at hF
  refine lv_aload_n hx hb dX9_best_0 rfl (lv_at hl 0 rfl) ?_
  refine lv_iload_n hx hb dX9_best_1 rfl (lv_at hl 1 rfl) ?_
  obtain ⟨r2, h1, hF⟩ := b1_s hF
  refine cl_vi (As := [.int p0]) (rest := []) (w' := (w_model ky aM mxs mus mys mgp mtp mme mle mlt mkl mln msz mit mmv mrm mer mtd mat mwr mkn mmb mwa mra mbl mbh dxs dus dys dgp dtp dme dle dlt dkl dln dsz dit dmv)) ⟨hx, hb, hml, hown, hts⟩ hK hP hD hS hA (c_X9_isHeap l D ky aM mxs mus mys mgp mtp mme mle mlt mkl mln msz mit mmv _ N  mrm mer mtd mat mwr mkn mmb mwa mra mbl mbh dxs dus dys dgp dtp dme dle dlt dkl dln dsz dit dmv p0 r2 h1) (cwV 1 hts gX9_best_X9_isHeap rfl rfl rfl (by decide +kernel) ⟨Nat.le_of_ble_eq_true rfl, Nat.le_of_ble_eq_true rfl⟩) [0, 1, 2, 3, 4, 5, 6, 7, 8, 9, 10, 11, 12, 13] [] [0, 1, 2, 3, 4, 5, 6, 7, 8, 9, 10, 11, 12, 13] 0 8 rfl rfl rfl rfl (wr := []) rfl (by decide) rfl rfl hl.1 (Nat.le_of_ble_eq_true rfl) dX9_best_2 ⟨Nat.zero_le _, Nat.zero_le _⟩ (fun H locs hP hD hS => ?_)
  refine lv_if_eq (tgt := 15) hx hb dX9_best_5 (by decide) (fun c3 => ?_) (fun c3 => ?_)
  · have hF := if_t c3 hF
    refine lv_ldc hx hb hown (hts _ kX9_best_0) dX9_best_15 ?_
    have hF := Option.some.inj hF
    subst hF
    exact hQ _ _ _ _ dX9_best_17 hP hD hS
  · have hF := if_f c3 hF
    refine lv_iload_n hx hb dX9_best_8 rfl (lv_at hl 2 rfl) ?_
    obtain ⟨r5, h4, hF⟩ := b1_s hF
    refine cl_si (As := [.int p1]) (rest := []) ⟨hx, hb, hml, hown, hts⟩ hK hP hD hS hA (c_X9_isSmall l D ky  _ N   p1 r5 h4) (va_cwS 1 hts gX9_best_X9_isSmall rfl rfl rfl (by decide +kernel) ⟨Nat.le_of_ble_eq_true rfl, Nat.le_of_ble_eq_true rfl⟩) rfl hl.1 (Nat.le_of_ble_eq_true rfl) dX9_best_9 ⟨Nat.zero_le _, Nat.zero_le _⟩ (fun H locs hP hD hS => ?_)
    refine lv_if_ne (tgt := 18) hx hb dX9_best_12 (by decide) (fun c6 => ?_) (fun c6 => ?_)
    · have hF := if_f c6 hF
      refine lv_aload_n hx hb dX9_best_18 rfl (lv_at hl 0 rfl) ?_
      refine lv_iload_n hx hb dX9_best_19 rfl (lv_at hl 1 rfl) ?_
      obtain ⟨r8, v9, h7, hF⟩ := b2_s hF
      refine cl_vi (As := [.int p0]) (rest := []) (w' := (w_model ky aM mxs mus mys mgp mtp mme mle mlt mkl mln msz mit mmv mrm mer mtd mat mwr mkn mmb mwa mra mbl mbh dxs dus dys dgp dtp dme dle v9 dkl dln dsz dit dmv)) ⟨hx, hb, hml, hown, hts⟩ hK hP hD hS hA (c_X9_laysLet l D ky aM mxs mus mys mgp mtp mme mle mlt mkl mln msz mit mmv _ N  mrm mer mtd mat mwr mkn mmb mwa mra mbl mbh dxs dus dys dgp dtp dme dle dlt dkl dln dsz dit dmv p0 r8 v9 h7) (cwV 1 hts gX9_best_X9_laysLet rfl rfl rfl (by decide +kernel) ⟨Nat.le_of_ble_eq_true rfl, Nat.le_of_ble_eq_true rfl⟩) [0, 1, 2, 3, 4, 5, 6, 7, 8, 9, 10, 11, 12, 13] [] [0, 1, 2, 3, 4, 5, 6, 7, 8, 9, 10, 11, 12, 13] 0 8 rfl rfl rfl rfl (wr := []) rfl (by decide) rfl rfl hl.1 (Nat.le_of_ble_eq_true rfl) dX9_best_20 ⟨Nat.zero_le _, Nat.zero_le _⟩ (fun H locs hP hD hS => ?_)
      refine lv_if_ne (tgt := 29) hx hb dX9_best_23 (by decide) (fun c10 => ?_) (fun c10 => ?_)
      · have hF := if_f c10 hF
        refine lv_iconst (v := (0 : Int32)) hx hb dX9_best_29 (by decide) ?_
        refine lv_istore_n (lv' := [(3, .int (0 : Int32)), (0, .ref aM), (1, .int p0), (2, .int p1)]) hx hb dX9_best_30 rfl hl (by decide) rfl (fun ls hl => ?_)
        refine lv_sipush (v := (1000 : Int32)) hx hb dX9_best_31 (by decide) ?_
        refine lv_istore (lv' := [(4, .int (1000 : Int32)), (3, .int (0 : Int32)), (0, .ref aM), (1, .int p0), (2, .int p1)]) hx hb dX9_best_34 hl (by decide) rfl (fun ls hl => ?_)
        refine lv_iconst (v := (0 : Int32)) hx hb dX9_best_36 (by decide) ?_
        refine lv_istore (lv' := [(5, .int (0 : Int32)), (4, .int (1000 : Int32)), (3, .int (0 : Int32)), (0, .ref aM), (1, .int p0), (2, .int p1)]) hx hb dX9_best_37 hl (by decide) rfl (fun ls hl => ?_)
        exact w_X9_best_39 N C res hQ p0 p1 v9 N (0 : Int32) (1000 : Int32) (0 : Int32) hF _ _ _ hP hD hS (lv_sub hl [3, 4, 5, 2, 1, 0] rfl)
      · have hF := if_t c10 hF
        refine lv_ldc hx hb hown (hts _ kX9_best_1) dX9_best_26 ?_
        have hF := Option.some.inj hF
        subst hF
        exact hQ _ _ _ _ dX9_best_28 hP hD hS
    · have hF := if_t c6 hF
      refine lv_ldc hx hb hown (hts _ kX9_best_0) dX9_best_15 ?_
      have hF := Option.some.inj hF
      subst hF
      exact hQ _ _ _ _ dX9_best_17 hP hD hS
theorem c_X9_best (l : Launch) (D : va_G) (ky : Nat → ClassId) (aM mxs mus mys mgp mtp mme mle mlt mkl mln msz mit mmv : Nat) (sz N : Nat)  (mrm : Int32) (mer : Int32) (mtd : Int32) (mat : Int32) (mwr : Int32) (mkn : Int32) (mmb : Int32) (mwa : Int32) (mra : Int32) (mbl : Int32) (mbh : Int32) (dxs : Nat → Int32) (dus : Nat → Int32) (dys : Nat → Int32) (dgp : Nat → Int32) (dtp : Nat → Int32) (dme : Nat → Int32) (dle : Nat → Int32) (dlt : Nat → Int32) (dkl : Nat → Int32) (dln : Nat → Int32) (dsz : Nat → Int32) (dit : Nat → Int32) (dmv : Nat → Int32) (p0 : Int32) (p1 : Int32) (rv : Int32) (dlt' : Nat → Int32) (hF : f_X9_best N p0 p1 mrm mer dxs dus dys dgp dlt = some (rv, dlt')) : MI l yX9_best wsX9_best rm_X9_best D ky sz [.ref aM, .int p0, .int p1] (w_model ky aM mxs mus mys mgp mtp mme mle mlt mkl mln msz mit mmv mrm mer mtd mat mwr mkn mmb mwa mra mbl mbh dxs dus dys dgp dtp dme dle dlt dkl dln dsz dit dmv) (w_model ky aM mxs mus mys mgp mtp mme mle mlt mkl mln msz mit mmv mrm mer mtd mat mwr mkn mmb mwa mra mbl mbh dxs dus dys dgp dtp dme dle dlt' dkl dln dsz dit dmv) rv :=
  cr_X9_best l D ky aM mxs mus mys mgp mtp mme mle mlt mkl mln msz mit mmv sz N mrm mer mtd mat mwr mkn mmb mwa mra mbl mbh dxs dus dys dgp dtp dme dle dlt dkl dln dsz dit dmv p0 p1 (rv, dlt') hF
abbrev rm_X9_apart : Room := { frames := 2, cells := 0, slots := 0, locals := 45 }
theorem kX9_apart_0 : (Cond.constant RX9 129 (-1000001)) ∈ wsX9_apart := by decide +kernel
theorem kX9_apart_1 : (Cond.constant RX9 130 (-1000004)) ∈ wsX9_apart := by decide +kernel
theorem iX9_apart_X9 : ∀ w ∈ wsX90, w ∈ wsX9_apart := by decide +kernel
theorem kX9_apart_3 : (Cond.fieldLink RX9 23 "TwoLawsModel" "error" "I") ∈ wsX9_apart := by decide +kernel
set_option maxHeartbeats 4000000 in
set_option maxRecDepth 100000 in
theorem w_X9_apart_95 {p : Program} {l : Launch} {e : Env} {s : State} {m : MethodId} {args : Array Value} {below : List Frame} {meth : Method} {c : Code} {Q : State → Prop} {A : Nat → Prop} {D : va_G} {ky : Nat → ClassId} {aM mxs mus mys mgp mtp mme mle mlt mkl mln msz mit mmv : Nat} {mrm : Int32} {mer : Int32} {mtd : Int32} {mat : Int32} {mwr : Int32} {mkn : Int32} {mmb : Int32} {mwa : Int32} {mra : Int32} {mbl : Int32} {mbh : Int32} {dxs : Nat → Int32} {dus : Nat → Int32} {dys : Nat → Int32} {dgp : Nat → Int32} {dtp : Nat → Int32} {dme : Nat → Int32} {dle : Nat → Int32} {dlt : Nat → Int32} {dkl : Nat → Int32} {dln : Nat → Int32} {dsz : Nat → Int32} {dit : Nat → Int32} {dmv : Nat → Int32} (N : Nat) (C : cx p s m c args D ky A cX9_apart 9 wsX9_apart RX9) (res : Int32) (hQ : ∀ (pc : Nat) (H : Heap) (locs : List Loc) (ls : Array Slot), decode cX9_apart pc = .ok (.ireturn, 1) → va_P D vwCl (w_model ky aM mxs mus mys mgp mtp mme mle mlt mkl mln msz mit mmv mrm mer mtd mat mwr mkn mmb mwa mra mbl mbh dxs dus dys dgp dtp dme dle dlt dkl dln dsz dit dmv) H → va_D A (w_model ky aM mxs mus mys mgp mtp mme mle mlt mkl mln msz mit mmv mrm mer mtd mat mwr mkn mmb mwa mra mbl mbh dxs dus dys dgp dtp dme dle dlt dkl dln dsz dit dmv) → va_S A s.heap H locs → W p l e rm_X9_apart s m args below meth c H locs 0 0 Q (F0 m pc ls [.int res])) (l1 : Int32) (l2 : Int32) (l3 : Int32) (k27 : Int32 → Option (Int32)) (hk27 : ∀ (l4 : Int32), k27 l4 = some res → ∀ (H : Heap) (locs : List Loc) (ls : Array Slot), va_P D vwCl (w_model ky aM mxs mus mys mgp mtp mme mle mlt mkl mln msz mit mmv mrm mer mtd mat mwr mkn mmb mwa mra mbl mbh dxs dus dys dgp dtp dme dle dlt dkl dln dsz dit dmv) H → va_D A (w_model ky aM mxs mus mys mgp mtp mme mle mlt mkl mln msz mit mmv mrm mer mtd mat mwr mkn mmb mwa mra mbl mbh dxs dus dys dgp dtp dme dle dlt dkl dln dsz dit dmv) → va_S A s.heap H locs → lv_has ls 9 [(0, .ref aM), (1, .int l1), (2, .int l2), (3, .int l3), (4, .int l4)] → W p l e rm_X9_apart s m args below meth c H locs 0 0 Q (F0 m 27 ls [])) (l4 : Int32) (l7 : Int32) (t0 : Int32) (hF : f_X9_apart_95 N k27 l1 l2 l3 l4 l7 t0 mer = some res) : ∀ (H : Heap) (locs : List Loc) (ls : Array Slot), va_P D vwCl (w_model ky aM mxs mus mys mgp mtp mme mle mlt mkl mln msz mit mmv mrm mer mtd mat mwr mkn mmb mwa mra mbl mbh dxs dus dys dgp dtp dme dle dlt dkl dln dsz dit dmv) H → va_D A (w_model ky aM mxs mus mys mgp mtp mme mle mlt mkl mln msz mit mmv mrm mer mtd mat mwr mkn mmb mwa mra mbl mbh dxs dus dys dgp dtp dme dle dlt dkl dln dsz dit dmv) → va_S A s.heap H locs → lv_has ls 9 [(0, .ref aM), (1, .int l1), (2, .int l2), (3, .int l3), (4, .int l4), (7, .int l7)] → W p l e rm_X9_apart s m args below meth c H locs 0 0 Q (F0 m 95 ls [.int t0]) := by
  obtain ⟨hx, hb, hml, hown, hts, hK, hA⟩ := id C
  intro H locs ls hP hD hS hl
  unfold f_X9_apart_95 at hF
  refine lv_iconst (v := (4 : Int32)) hx hb dX9_apart_95 (by decide) ?_
  refine lv_aload_n hx hb dX9_apart_96 rfl (lv_at hl 0 rfl) ?_
  refine va_get (D := D) (ci := 8) (v := .int mer) (C := RX9) (T := TX9) (N := 24) hx hb hts iX9_apart_X9 hown hK hP 0 rfl rfl 5 (by decide) (hts _ kX9_apart_3) (fun _ h9 => h9) rfl dX9_apart_97 ?_
  refine lv_imul hx hb dX9_apart_100 ?_
  refine lv_iadd hx hb dX9_apart_101 ?_
  refine lv_istore (lv' := [(8, .int (t0 + ((4 : Int32) * mer))), (0, .ref aM), (1, .int l1), (2, .int l2), (3, .int l3), (4, .int l4), (7, .int l7)]) hx hb dX9_apart_102 hl (by decide) rfl (fun ls hl => ?_)
  refine lv_iload hx hb dX9_apart_104 (lv_at hl 6 rfl) ?_
  obtain ⟨r22, h21, hF⟩ := b1_s hF
  refine cl_si (As := [.int l7]) (rest := []) ⟨hx, hb, hml, hown, hts⟩ hK hP hD hS hA (c_X9_higher l D ky  _ N   l7 r22 h21) (va_cwS 1 hts gX9_apart_X9_higher rfl rfl rfl (by decide +kernel) ⟨Nat.le_of_ble_eq_true rfl, Nat.le_of_ble_eq_true rfl⟩) rfl hl.1 (Nat.le_of_ble_eq_true rfl) dX9_apart_106 ⟨Nat.zero_le _, Nat.zero_le _⟩ (fun H locs hP hD hS => ?_)
  refine lv_iload hx hb dX9_apart_109 (lv_at hl 0 rfl) ?_
  obtain ⟨r24, h23, hF⟩ := b1_s hF
  refine cl_si (As := [.int (t0 + ((4 : Int32) * mer))]) (rest := [.int r22]) ⟨hx, hb, hml, hown, hts⟩ hK hP hD hS hA (c_X9_lower l D ky  _ N   (t0 + ((4 : Int32) * mer)) r24 h23) (va_cwS 1 hts gX9_apart_X9_lower rfl rfl rfl (by decide +kernel) ⟨Nat.le_of_ble_eq_true rfl, Nat.le_of_ble_eq_true rfl⟩) rfl hl.1 (Nat.le_of_ble_eq_true rfl) dX9_apart_111 ⟨Nat.zero_le _, Nat.zero_le _⟩ (fun H locs hP hD hS => ?_)
  refine lv_icmp_le (tgt := 123) hx hb dX9_apart_114 (by decide) (fun c25 => ?_) (fun c25 => ?_)
  · have hF := if_t c25 hF
    refine lv_iinc (v := (l4 + (1 : Int32))) (lv' := [(4, .int (l4 + (1 : Int32))), (8, .int (t0 + ((4 : Int32) * mer))), (0, .ref aM), (1, .int l1), (2, .int l2), (3, .int l3), (7, .int l7)]) hx hb dX9_apart_123 hl (k := 5) rfl rfl (by decide) rfl (fun ls hl => ?_)
    refine lv_goto (tgt := 27) hx hb dX9_apart_126 (by decide) ?_
    exact hk27 (l4 + (1 : Int32)) hF H _ _ hP hD hS (lv_sub hl [2, 3, 4, 5, 0] rfl)
  · have hF := if_f c25 hF
    refine lv_iload hx hb dX9_apart_117 (lv_at hl 5 rfl) ?_
    obtain ⟨r27, h26, hF⟩ := b1_s hF
    refine cl_si (As := [.int l4]) (rest := []) ⟨hx, hb, hml, hown, hts⟩ hK hP hD hS hA (c_X9_pushAt l D ky  _ N   l4 r27 h26) (va_cwS 1 hts gX9_apart_X9_pushAt rfl rfl rfl (by decide +kernel) ⟨Nat.le_of_ble_eq_true rfl, Nat.le_of_ble_eq_true rfl⟩) rfl hl.1 (Nat.le_of_ble_eq_true rfl) dX9_apart_119 ⟨Nat.zero_le _, Nat.zero_le _⟩ (fun H locs hP hD hS => ?_)
    have hF := Option.some.inj hF
    subst hF
    exact hQ _ H _ _ dX9_apart_122 hP hD hS
set_option maxHeartbeats 4000000 in
set_option maxRecDepth 100000 in
theorem w_X9_apart_72 {p : Program} {l : Launch} {e : Env} {s : State} {m : MethodId} {args : Array Value} {below : List Frame} {meth : Method} {c : Code} {Q : State → Prop} {A : Nat → Prop} {D : va_G} {ky : Nat → ClassId} {aM mxs mus mys mgp mtp mme mle mlt mkl mln msz mit mmv : Nat} {mrm : Int32} {mer : Int32} {mtd : Int32} {mat : Int32} {mwr : Int32} {mkn : Int32} {mmb : Int32} {mwa : Int32} {mra : Int32} {mbl : Int32} {mbh : Int32} {dxs : Nat → Int32} {dus : Nat → Int32} {dys : Nat → Int32} {dgp : Nat → Int32} {dtp : Nat → Int32} {dme : Nat → Int32} {dle : Nat → Int32} {dlt : Nat → Int32} {dkl : Nat → Int32} {dln : Nat → Int32} {dsz : Nat → Int32} {dit : Nat → Int32} {dmv : Nat → Int32} (N : Nat) (C : cx p s m c args D ky A cX9_apart 9 wsX9_apart RX9) (res : Int32) (hQ : ∀ (pc : Nat) (H : Heap) (locs : List Loc) (ls : Array Slot), decode cX9_apart pc = .ok (.ireturn, 1) → va_P D vwCl (w_model ky aM mxs mus mys mgp mtp mme mle mlt mkl mln msz mit mmv mrm mer mtd mat mwr mkn mmb mwa mra mbl mbh dxs dus dys dgp dtp dme dle dlt dkl dln dsz dit dmv) H → va_D A (w_model ky aM mxs mus mys mgp mtp mme mle mlt mkl mln msz mit mmv mrm mer mtd mat mwr mkn mmb mwa mra mbl mbh dxs dus dys dgp dtp dme dle dlt dkl dln dsz dit dmv) → va_S A s.heap H locs → W p l e rm_X9_apart s m args below meth c H locs 0 0 Q (F0 m pc ls [.int res])) (l1 : Int32) (l2 : Int32) (l3 : Int32) (k27 : Int32 → Option (Int32)) (hk27 : ∀ (l4 : Int32), k27 l4 = some res → ∀ (H : Heap) (locs : List Loc) (ls : Array Slot), va_P D vwCl (w_model ky aM mxs mus mys mgp mtp mme mle mlt mkl mln msz mit mmv mrm mer mtd mat mwr mkn mmb mwa mra mbl mbh dxs dus dys dgp dtp dme dle dlt dkl dln dsz dit dmv) H → va_D A (w_model ky aM mxs mus mys mgp mtp mme mle mlt mkl mln msz mit mmv mrm mer mtd mat mwr mkn mmb mwa mra mbl mbh dxs dus dys dgp dtp dme dle dlt dkl dln dsz dit dmv) → va_S A s.heap H locs → lv_has ls 9 [(0, .ref aM), (1, .int l1), (2, .int l2), (3, .int l3), (4, .int l4)] → W p l e rm_X9_apart s m args below meth c H locs 0 0 Q (F0 m 27 ls [])) (l4 : Int32) (l5 : Int32) (l6 : Int32) (t0 : Int32) (hF : f_X9_apart_72 N k27 l1 l2 l3 l4 l5 l6 t0 mer = some res) : ∀ (H : Heap) (locs : List Loc) (ls : Array Slot), va_P D vwCl (w_model ky aM mxs mus mys mgp mtp mme mle mlt mkl mln msz mit mmv mrm mer mtd mat mwr mkn mmb mwa mra mbl mbh dxs dus dys dgp dtp dme dle dlt dkl dln dsz dit dmv) H → va_D A (w_model ky aM mxs mus mys mgp mtp mme mle mlt mkl mln msz mit mmv mrm mer mtd mat mwr mkn mmb mwa mra mbl mbh dxs dus dys dgp dtp dme dle dlt dkl dln dsz dit dmv) → va_S A s.heap H locs → lv_has ls 9 [(0, .ref aM), (1, .int l1), (2, .int l2), (3, .int l3), (4, .int l4), (5, .int l5), (6, .int l6)] → W p l e rm_X9_apart s m args below meth c H locs 0 0 Q (F0 m 72 ls [.int t0]) := by
  obtain ⟨hx, hb, hml, hown, hts, hK, hA⟩ := id C
  intro H locs ls hP hD hS hl
  unfold f_X9_apart_72 at hF
  refine lv_iconst (v := (4 : Int32)) hx hb dX9_apart_72 (by decide) ?_
  refine lv_aload_n hx hb dX9_apart_73 rfl (lv_at hl 0 rfl) ?_
  refine va_get (D := D) (ci := 8) (v := .int mer) (C := RX9) (T := TX9) (N := 24) hx hb hts iX9_apart_X9 hown hK hP 0 rfl rfl 5 (by decide) (hts _ kX9_apart_3) (fun _ h9 => h9) rfl dX9_apart_74 ?_
  refine lv_imul hx hb dX9_apart_77 ?_
  refine lv_isub hx hb dX9_apart_78 ?_
  refine lv_istore (lv' := [(7, .int (t0 - ((4 : Int32) * mer))), (0, .ref aM), (1, .int l1), (2, .int l2), (3, .int l3), (4, .int l4), (5, .int l5), (6, .int l6)]) hx hb dX9_apart_79 hl (by decide) rfl (fun ls hl => ?_)
  refine lv_iload hx hb dX9_apart_81 (lv_at hl 6 rfl) ?_
  refine lv_iload hx hb dX9_apart_83 (lv_at hl 7 rfl) ?_
  refine lv_icmp_ge (tgt := 93) hx hb dX9_apart_85 (by decide) (fun c20 => ?_) (fun c20 => ?_)
  · have hF := if_t c20 hF
    refine lv_iload hx hb dX9_apart_93 (lv_at hl 7 rfl) ?_
    exact w_X9_apart_95 N C res hQ l1 l2 l3 k27 hk27 l4 (t0 - ((4 : Int32) * mer)) l6 hF H _ _ hP hD hS (lv_sub hl [1, 2, 3, 4, 5, 0] rfl)
  · have hF := if_f c20 hF
    refine lv_iload hx hb dX9_apart_88 (lv_at hl 6 rfl) ?_
    refine lv_goto (tgt := 95) hx hb dX9_apart_90 (by decide) ?_
    exact w_X9_apart_95 N C res hQ l1 l2 l3 k27 hk27 l4 (t0 - ((4 : Int32) * mer)) l5 hF H _ _ hP hD hS (lv_sub hl [1, 2, 3, 4, 5, 0] rfl)
set_option maxHeartbeats 4000000 in
set_option maxRecDepth 100000 in
theorem w_X9_apart_27 {p : Program} {l : Launch} {e : Env} {s : State} {m : MethodId} {args : Array Value} {below : List Frame} {meth : Method} {c : Code} {Q : State → Prop} {A : Nat → Prop} {D : va_G} {ky : Nat → ClassId} {aM mxs mus mys mgp mtp mme mle mlt mkl mln msz mit mmv : Nat} {mrm : Int32} {mer : Int32} {mtd : Int32} {mat : Int32} {mwr : Int32} {mkn : Int32} {mmb : Int32} {mwa : Int32} {mra : Int32} {mbl : Int32} {mbh : Int32} {dxs : Nat → Int32} {dus : Nat → Int32} {dys : Nat → Int32} {dgp : Nat → Int32} {dtp : Nat → Int32} {dme : Nat → Int32} {dle : Nat → Int32} {dlt : Nat → Int32} {dkl : Nat → Int32} {dln : Nat → Int32} {dsz : Nat → Int32} {dit : Nat → Int32} {dmv : Nat → Int32} (N : Nat) (C : cx p s m c args D ky A cX9_apart 9 wsX9_apart RX9) (res : Int32) (hQ : ∀ (pc : Nat) (H : Heap) (locs : List Loc) (ls : Array Slot), decode cX9_apart pc = .ok (.ireturn, 1) → va_P D vwCl (w_model ky aM mxs mus mys mgp mtp mme mle mlt mkl mln msz mit mmv mrm mer mtd mat mwr mkn mmb mwa mra mbl mbh dxs dus dys dgp dtp dme dle dlt dkl dln dsz dit dmv) H → va_D A (w_model ky aM mxs mus mys mgp mtp mme mle mlt mkl mln msz mit mmv mrm mer mtd mat mwr mkn mmb mwa mra mbl mbh dxs dus dys dgp dtp dme dle dlt dkl dln dsz dit dmv) → va_S A s.heap H locs → W p l e rm_X9_apart s m args below meth c H locs 0 0 Q (F0 m pc ls [.int res])) (l1 : Int32) (l2 : Int32) (l3 : Int32) : ∀ (n : Nat) (l4 : Int32), f_X9_apart_27 N l1 l2 l3 mer n l4 = some res → ∀ (H : Heap) (locs : List Loc) (ls : Array Slot), va_P D vwCl (w_model ky aM mxs mus mys mgp mtp mme mle mlt mkl mln msz mit mmv mrm mer mtd mat mwr mkn mmb mwa mra mbl mbh dxs dus dys dgp dtp dme dle dlt dkl dln dsz dit dmv) H → va_D A (w_model ky aM mxs mus mys mgp mtp mme mle mlt mkl mln msz mit mmv mrm mer mtd mat mwr mkn mmb mwa mra mbl mbh dxs dus dys dgp dtp dme dle dlt dkl dln dsz dit dmv) → va_S A s.heap H locs → lv_has ls 9 [(0, .ref aM), (1, .int l1), (2, .int l2), (3, .int l3), (4, .int l4)] → W p l e rm_X9_apart s m args below meth c H locs 0 0 Q (F0 m 27 ls []) := by
  obtain ⟨hx, hb, hml, hown, hts, hK, hA⟩ := id C
  intro n
  induction n with
  | zero =>
    intro l4 hF
    cases hF
  | succ n ih =>
    intro l4 hF H locs ls hP hD hS hl
    have hF : b_X9_apart_27 N l1 l2 l3 mer (f_X9_apart_27 N l1 l2 l3 mer n) l4 = some res := hF
    unfold b_X9_apart_27 at hF
    refine lv_iload hx hb dX9_apart_27 (lv_at hl 4 rfl) ?_
    refine lv_bipush (v := (19 : Int32)) hx hb dX9_apart_29 (by decide) ?_
    refine lv_icmp_ge (tgt := 129) hx hb dX9_apart_31 (by decide) (fun c10 => ?_) (fun c10 => ?_)
    · have hF := if_t c10 hF
      refine lv_ldc hx hb hown (hts _ kX9_apart_1) dX9_apart_129 ?_
      have hF := Option.some.inj hF
      subst hF
      exact hQ _ H _ _ dX9_apart_131 hP hD hS
    · have hF := if_f c10 hF
      refine lv_iload_n hx hb dX9_apart_34 rfl (lv_at hl 1 rfl) ?_
      refine lv_iload_n hx hb dX9_apart_35 rfl (lv_at hl 3 rfl) ?_
      refine lv_iload hx hb dX9_apart_36 (lv_at hl 4 rfl) ?_
      obtain ⟨r12, h11, hF⟩ := b1_s hF
      refine cl_si (As := [.int l4]) (rest := [.int l3, .int l1]) ⟨hx, hb, hml, hown, hts⟩ hK hP hD hS hA (c_X9_pushAt l D ky  _ N   l4 r12 h11) (va_cwS 1 hts gX9_apart_X9_pushAt rfl rfl rfl (by decide +kernel) ⟨Nat.le_of_ble_eq_true rfl, Nat.le_of_ble_eq_true rfl⟩) rfl hl.1 (Nat.le_of_ble_eq_true rfl) dX9_apart_38 ⟨Nat.zero_le _, Nat.zero_le _⟩ (fun H locs hP hD hS => ?_)
      obtain ⟨r14, h13, hF⟩ := b1_s hF
      refine cl_si (As := [.int l1, .int l3, .int r12]) (rest := []) ⟨hx, hb, hml, hown, hts⟩ hK hP hD hS hA (c_X9_sumOf l D ky  _ N   l1 l3 r12 r14 h13) (va_cwS 3 hts gX9_apart_X9_sumOf rfl rfl rfl (by decide +kernel) ⟨Nat.le_of_ble_eq_true rfl, Nat.le_of_ble_eq_true rfl⟩) rfl hl.1 (Nat.le_of_ble_eq_true rfl) dX9_apart_41 ⟨Nat.zero_le _, Nat.zero_le _⟩ (fun H locs hP hD hS => ?_)
      refine lv_istore (lv' := [(5, .int r14), (0, .ref aM), (1, .int l1), (2, .int l2), (3, .int l3), (4, .int l4)]) hx hb dX9_apart_44 hl (by decide) rfl (fun ls hl => ?_)
      refine lv_iload_n hx hb dX9_apart_46 rfl (lv_at hl 3 rfl) ?_
      refine lv_iload_n hx hb dX9_apart_47 rfl (lv_at hl 4 rfl) ?_
      refine lv_iload hx hb dX9_apart_48 (lv_at hl 5 rfl) ?_
      obtain ⟨r16, h15, hF⟩ := b1_s hF
      refine cl_si (As := [.int l4]) (rest := [.int l3, .int l2]) ⟨hx, hb, hml, hown, hts⟩ hK hP hD hS hA (c_X9_pushAt l D ky  _ N   l4 r16 h15) (va_cwS 1 hts gX9_apart_X9_pushAt rfl rfl rfl (by decide +kernel) ⟨Nat.le_of_ble_eq_true rfl, Nat.le_of_ble_eq_true rfl⟩) rfl hl.1 (Nat.le_of_ble_eq_true rfl) dX9_apart_50 ⟨Nat.zero_le _, Nat.zero_le _⟩ (fun H locs hP hD hS => ?_)
      obtain ⟨r18, h17, hF⟩ := b1_s hF
      refine cl_si (As := [.int l2, .int l3, .int r16]) (rest := []) ⟨hx, hb, hml, hown, hts⟩ hK hP hD hS hA (c_X9_sumOf l D ky  _ N   l2 l3 r16 r18 h17) (va_cwS 3 hts gX9_apart_X9_sumOf rfl rfl rfl (by decide +kernel) ⟨Nat.le_of_ble_eq_true rfl, Nat.le_of_ble_eq_true rfl⟩) rfl hl.1 (Nat.le_of_ble_eq_true rfl) dX9_apart_53 ⟨Nat.zero_le _, Nat.zero_le _⟩ (fun H locs hP hD hS => ?_)
      refine lv_istore (lv' := [(6, .int r18), (5, .int r14), (0, .ref aM), (1, .int l1), (2, .int l2), (3, .int l3), (4, .int l4)]) hx hb dX9_apart_56 hl (by decide) rfl (fun ls hl => ?_)
      refine lv_iload hx hb dX9_apart_58 (lv_at hl 1 rfl) ?_
      refine lv_iload hx hb dX9_apart_60 (lv_at hl 0 rfl) ?_
      refine lv_icmp_le (tgt := 70) hx hb dX9_apart_62 (by decide) (fun c19 => ?_) (fun c19 => ?_)
      · have hF := if_t c19 hF
        refine lv_iload hx hb dX9_apart_70 (lv_at hl 0 rfl) ?_
        exact w_X9_apart_72 N C res hQ l1 l2 l3 _ ih l4 r14 r18 r18 hF H _ _ hP hD hS (lv_sub hl [2, 3, 4, 5, 6, 1, 0] rfl)
      · have hF := if_f c19 hF
        refine lv_iload hx hb dX9_apart_65 (lv_at hl 1 rfl) ?_
        refine lv_goto (tgt := 72) hx hb dX9_apart_67 (by decide) ?_
        exact w_X9_apart_72 N C res hQ l1 l2 l3 _ ih l4 r14 r18 r14 hF H _ _ hP hD hS (lv_sub hl [2, 3, 4, 5, 6, 1, 0] rfl)
set_option maxHeartbeats 4000000 in
set_option maxRecDepth 100000 in
theorem cr_X9_apart (l : Launch) (D : va_G) (ky : Nat → ClassId) (aM mxs mus mys mgp mtp mme mle mlt mkl mln msz mit mmv : Nat) (sz N : Nat)  (mrm : Int32) (mer : Int32) (mtd : Int32) (mat : Int32) (mwr : Int32) (mkn : Int32) (mmb : Int32) (mwa : Int32) (mra : Int32) (mbl : Int32) (mbh : Int32) (dxs : Nat → Int32) (dus : Nat → Int32) (dys : Nat → Int32) (dgp : Nat → Int32) (dtp : Nat → Int32) (dme : Nat → Int32) (dle : Nat → Int32) (dlt : Nat → Int32) (dkl : Nat → Int32) (dln : Nat → Int32) (dsz : Nat → Int32) (dit : Nat → Int32) (dmv : Nat → Int32) (p0 : Int32) (p1 : Int32) (p2 : Int32) (res : Int32) (hF : f_X9_apart N p0 p1 p2 mer = some res) : MI l yX9_apart wsX9_apart rm_X9_apart D ky sz [.ref aM, .int p0, .int p1, .int p2] (w_model ky aM mxs mus mys mgp mtp mme mle mlt mkl mln msz mit mmv mrm mer mtd mat mwr mkn mmb mwa mra mbl mbh dxs dus dys dgp dtp dme dle dlt dkl dln dsz dit dmv) (w_model ky aM mxs mus mys mgp mtp mme mle mlt mkl mln msz mit mmv mrm mer mtd mat mwr mkn mmb mwa mra mbl mbh dxs dus dys dgp dtp dme dle dlt dkl dln dsz dit dmv) res := by
  unfold MI
  refine Met.ofW (cc := cX9_apart) (maxL := 9) (ret := (some .int)) (by decide) rfl ?_
  intro p e s m args below meth c s₁ B hml hv
  obtain ⟨rfl, hsz, hP, hK, hD0⟩ := hv
  have hx := B.exec
  have hb := B.bytes
  have hr := B.returns
  have hts := atoms_spec (ws := wsX9_apart) B.pre
  have hown : s.vm.findClass RX9 = some m.cls := findClass_of_methodNamed B.named
  have hlocks := B.notSynchronized
  subst hsz
  have hD := hD0.self (sz := s.heap.size)
  generalize hAe : va_A (w_model ky aM mxs mus mys mgp mtp mme mle mlt mkl mln msz mit mmv mrm mer mtd mat mwr mkn mmb mwa mra mbl mbh dxs dus dys dgp dtp dme dle dlt dkl dln dsz dit dmv) s.heap.size = A at hD ⊢
  have hA : ∀ q : Nat, s.heap.size ≤ q → A q := fun q h => by rw [← hAe]; exact Or.inr h
  have hS : va_S A s.heap s.heap [] := va_S.rf
  have hP : va_P D vwCl (w_model ky aM mxs mus mys mgp mtp mme mle mlt mkl mln msz mit mmv mrm mer mtd mat mwr mkn mmb mwa mra mbl mbh dxs dus dys dgp dtp dme dle dlt dkl dln dsz dit dmv) s.heap := hP
  have hl := lv_entry ([.ref aM, .int p0, .int p1, .int p2]) (n := 9) (Nat.le_of_ble_eq_true rfl)
  rw [lg_entry_eq]
  generalize (lg_sl ([.ref aM, .int p0, .int p1, .int p2]) ++ List.replicate (9 - (lg_sl ([.ref aM, .int p0, .int p1, .int p2])).length) Slot.unset).toArray = ls at hl ⊢
  have hl : lv_has ls 9 [(0, .ref aM), (1, .int p0), (2, .int p1), (3, .int p2)] := hl
  have C : cx p s m c ([.ref aM, .int p0, .int p1, .int p2]).toArray D ky A cX9_apart 9 wsX9_apart RX9 := ⟨hx, hb, hml, hown, hts, hK, hA⟩
  have hQ : ∀ (pc : Nat) (H : Heap) (locs : List Loc) (ls : Array Slot), decode cX9_apart pc = .ok (.ireturn, 1) → va_P D vwCl (w_model ky aM mxs mus mys mgp mtp mme mle mlt mkl mln msz mit mmv mrm mer mtd mat mwr mkn mmb mwa mra mbl mbh dxs dus dys dgp dtp dme dle dlt dkl dln dsz dit dmv) H → va_D A (w_model ky aM mxs mus mys mgp mtp mme mle mlt mkl mln msz mit mmv mrm mer mtd mat mwr mkn mmb mwa mra mbl mbh dxs dus dys dgp dtp dme dle dlt dkl dln dsz dit dmv) → va_S A s.heap H locs → W p l e rm_X9_apart s m ([.ref aM, .int p0, .int p1, .int p2]).toArray below meth c H locs 0 0 (MQ below (va_Qi (S := Unit) (fun r _ => r = res) (fun _ t => va_P D vwCl (w_model ky aM mxs mus mys mgp mtp mme mle mlt mkl mln msz mit mmv mrm mer mtd mat mwr mkn mmb mwa mra mbl mbh dxs dus dys dgp dtp dme dle dlt dkl dln dsz dit dmv) t.heap ∧ va_K D vwCl (tyW ky) t ∧ va_D A (w_model ky aM mxs mus mys mgp mtp mme mle mlt mkl mln msz mit mmv mrm mer mtd mat mwr mkn mmb mwa mra mbl mbh dxs dus dys dgp dtp dme dle dlt dkl dln dsz dit dmv)) A) ([.ref aM, .int p0, .int p1, .int p2]).toArray s 0 0 A) (F0 m pc ls [.int res]) := fun pc H locs ls hd hP hD hS => W.iret hx hb hr (fun t ht hW => ⟨⟨res, (), rfl, rfl, by rw [ht]; exact hP, va_K.moved hW.alike hK, hD⟩, hS.F ht⟩) hS.2.2 hd
  unfold f_X9_apart at hF
  refine lv_iload_n hx hb dX9_apart_0 rfl (lv_at hl 1 rfl) ?_
  obtain ⟨r2, h1, hF⟩ := b1_s hF
  refine cl_si (As := [.int p0]) (rest := []) ⟨hx, hb, hml, hown, hts⟩ hK hP hD hS hA (c_X9_isLaw l D ky  _ N   p0 r2 h1) (va_cwS 1 hts gX9_apart_X9_isLaw rfl rfl rfl (by decide +kernel) ⟨Nat.le_of_ble_eq_true rfl, Nat.le_of_ble_eq_true rfl⟩) rfl hl.1 (Nat.le_of_ble_eq_true rfl) dX9_apart_1 ⟨Nat.zero_le _, Nat.zero_le _⟩ (fun H locs hP hD hS => ?_)
  refine lv_if_eq (tgt := 21) hx hb dX9_apart_4 (by decide) (fun c3 => ?_) (fun c3 => ?_)
  · have hF := if_t c3 hF
    refine lv_ldc hx hb hown (hts _ kX9_apart_0) dX9_apart_21 ?_
    have hF := Option.some.inj hF
    subst hF
    exact hQ _ _ _ _ dX9_apart_23 hP hD hS
  · have hF := if_f c3 hF
    refine lv_iload_n hx hb dX9_apart_7 rfl (lv_at hl 2 rfl) ?_
    obtain ⟨r5, h4, hF⟩ := b1_s hF
    refine cl_si (As := [.int p1]) (rest := []) ⟨hx, hb, hml, hown, hts⟩ hK hP hD hS hA (c_X9_isLaw l D ky  _ N   p1 r5 h4) (va_cwS 1 hts gX9_apart_X9_isLaw rfl rfl rfl (by decide +kernel) ⟨Nat.le_of_ble_eq_true rfl, Nat.le_of_ble_eq_true rfl⟩) rfl hl.1 (Nat.le_of_ble_eq_true rfl) dX9_apart_8 ⟨Nat.zero_le _, Nat.zero_le _⟩ (fun H locs hP hD hS => ?_)
    refine lv_if_eq (tgt := 21) hx hb dX9_apart_11 (by decide) (fun c6 => ?_) (fun c6 => ?_)
    · have hF := if_t c6 hF
      refine lv_ldc hx hb hown (hts _ kX9_apart_0) dX9_apart_21 ?_
      have hF := Option.some.inj hF
      subst hF
      exact hQ _ _ _ _ dX9_apart_23 hP hD hS
    · have hF := if_f c6 hF
      refine lv_iload_n hx hb dX9_apart_14 rfl (lv_at hl 3 rfl) ?_
      obtain ⟨r8, h7, hF⟩ := b1_s hF
      refine cl_si (As := [.int p2]) (rest := []) ⟨hx, hb, hml, hown, hts⟩ hK hP hD hS hA (c_X9_isSmall l D ky  _ N   p2 r8 h7) (va_cwS 1 hts gX9_apart_X9_isSmall rfl rfl rfl (by decide +kernel) ⟨Nat.le_of_ble_eq_true rfl, Nat.le_of_ble_eq_true rfl⟩) rfl hl.1 (Nat.le_of_ble_eq_true rfl) dX9_apart_15 ⟨Nat.zero_le _, Nat.zero_le _⟩ (fun H locs hP hD hS => ?_)
      refine lv_if_ne (tgt := 24) hx hb dX9_apart_18 (by decide) (fun c9 => ?_) (fun c9 => ?_)
      · have hF := if_f c9 hF
        refine lv_iconst (v := (0 : Int32)) hx hb dX9_apart_24 (by decide) ?_
        refine lv_istore (lv' := [(4, .int (0 : Int32)), (0, .ref aM), (1, .int p0), (2, .int p1), (3, .int p2)]) hx hb dX9_apart_25 hl (by decide) rfl (fun ls hl => ?_)
        exact w_X9_apart_27 N C res hQ p0 p1 p2 N (0 : Int32) hF _ _ _ hP hD hS (lv_sub hl [1, 2, 3, 4, 0] rfl)
      · have hF := if_t c9 hF
        refine lv_ldc hx hb hown (hts _ kX9_apart_0) dX9_apart_21 ?_
        have hF := Option.some.inj hF
        subst hF
        exact hQ _ _ _ _ dX9_apart_23 hP hD hS
theorem c_X9_apart (l : Launch) (D : va_G) (ky : Nat → ClassId) (aM mxs mus mys mgp mtp mme mle mlt mkl mln msz mit mmv : Nat) (sz N : Nat)  (mrm : Int32) (mer : Int32) (mtd : Int32) (mat : Int32) (mwr : Int32) (mkn : Int32) (mmb : Int32) (mwa : Int32) (mra : Int32) (mbl : Int32) (mbh : Int32) (dxs : Nat → Int32) (dus : Nat → Int32) (dys : Nat → Int32) (dgp : Nat → Int32) (dtp : Nat → Int32) (dme : Nat → Int32) (dle : Nat → Int32) (dlt : Nat → Int32) (dkl : Nat → Int32) (dln : Nat → Int32) (dsz : Nat → Int32) (dit : Nat → Int32) (dmv : Nat → Int32) (p0 : Int32) (p1 : Int32) (p2 : Int32) (rv : Int32) (hF : f_X9_apart N p0 p1 p2 mer = some (rv)) : MI l yX9_apart wsX9_apart rm_X9_apart D ky sz [.ref aM, .int p0, .int p1, .int p2] (w_model ky aM mxs mus mys mgp mtp mme mle mlt mkl mln msz mit mmv mrm mer mtd mat mwr mkn mmb mwa mra mbl mbh dxs dus dys dgp dtp dme dle dlt dkl dln dsz dit dmv) (w_model ky aM mxs mus mys mgp mtp mme mle mlt mkl mln msz mit mmv mrm mer mtd mat mwr mkn mmb mwa mra mbl mbh dxs dus dys dgp dtp dme dle dlt dkl dln dsz dit dmv) rv :=
  cr_X9_apart l D ky aM mxs mus mys mgp mtp mme mle mlt mkl mln msz mit mmv sz N mrm mer mtd mat mwr mkn mmb mwa mra mbl mbh dxs dus dys dgp dtp dme dle dlt dkl dln dsz dit dmv p0 p1 p2 (rv) hF
abbrev rm_X9_know : Room := { frames := 2, cells := 0, slots := 0, locals := 45 }
theorem iX9_know_X9 : ∀ w ∈ wsX90, w ∈ wsX9_know := by decide +kernel
theorem kX9_know_1 : (Cond.fieldLink RX9 156 "TwoLawsModel" "known" "I") ∈ wsX9_know := by decide +kernel
theorem kX9_know_2 : (Cond.fieldLink RX9 39 "TwoLawsModel" "knownLaws" "[I") ∈ wsX9_know := by decide +kernel
theorem kX9_know_3 : (Cond.fieldLink RX9 201 "TwoLawsModel" "mayBe" "I") ∈ wsX9_know := by decide +kernel
set_option maxHeartbeats 4000000 in
set_option maxRecDepth 100000 in
theorem w_X9_know_11 {p : Program} {l : Launch} {e : Env} {s : State} {m : MethodId} {args : Array Value} {below : List Frame} {meth : Method} {c : Code} {Q : State → Prop} {A : Nat → Prop} {D : va_G} {ky : Nat → ClassId} {aM mxs mus mys mgp mtp mme mle mlt mkl mln msz mit mmv : Nat} {mrm : Int32} {mer : Int32} {mtd : Int32} {mat : Int32} {mwr : Int32} {mwa : Int32} {mra : Int32} {mbl : Int32} {mbh : Int32} {dxs : Nat → Int32} {dus : Nat → Int32} {dys : Nat → Int32} {dgp : Nat → Int32} {dtp : Nat → Int32} {dme : Nat → Int32} {dle : Nat → Int32} {dlt : Nat → Int32} {dln : Nat → Int32} {dsz : Nat → Int32} {dit : Nat → Int32} {dmv : Nat → Int32} (N : Nat) (C : cx p s m c args D ky A cX9_know 3 wsX9_know RX9) (res : Int32 × Int32 × Int32 × (Nat → Int32)) (hQ : ∀ (pc : Nat) (H : Heap) (locs : List Loc) (ls : Array Slot), decode cX9_know pc = .ok (.ireturn, 1) → va_P D vwCl (w_model ky aM mxs mus mys mgp mtp mme mle mlt mkl mln msz mit mmv mrm mer mtd mat mwr res.2.1 res.2.2.1 mwa mra mbl mbh dxs dus dys dgp dtp dme dle dlt res.2.2.2 dln dsz dit dmv) H → va_D A (w_model ky aM mxs mus mys mgp mtp mme mle mlt mkl mln msz mit mmv mrm mer mtd mat mwr res.2.1 res.2.2.1 mwa mra mbl mbh dxs dus dys dgp dtp dme dle dlt res.2.2.2 dln dsz dit dmv) → va_S A s.heap H locs → W p l e rm_X9_know s m args below meth c H locs 0 0 Q (F0 m pc ls [.int res.1])) (l1 : Int32) : ∀ (n : Nat) (l2 : Int32) (mkn : Int32) (mmb : Int32) (dkl : Nat → Int32), f_X9_know_11 N l1 n l2 mkn mmb dkl = some res → ∀ (H : Heap) (locs : List Loc) (ls : Array Slot), va_P D vwCl (w_model ky aM mxs mus mys mgp mtp mme mle mlt mkl mln msz mit mmv mrm mer mtd mat mwr mkn mmb mwa mra mbl mbh dxs dus dys dgp dtp dme dle dlt dkl dln dsz dit dmv) H → va_D A (w_model ky aM mxs mus mys mgp mtp mme mle mlt mkl mln msz mit mmv mrm mer mtd mat mwr mkn mmb mwa mra mbl mbh dxs dus dys dgp dtp dme dle dlt dkl dln dsz dit dmv) → va_S A s.heap H locs → lv_has ls 3 [(0, .ref aM), (1, .int l1), (2, .int l2)] → W p l e rm_X9_know s m args below meth c H locs 0 0 Q (F0 m 11 ls []) := by
  obtain ⟨hx, hb, hml, hown, hts, hK, hA⟩ := id C
  intro n
  induction n with
  | zero =>
    intro l2 mkn mmb dkl hF
    cases hF
  | succ n ih =>
    intro l2 mkn mmb dkl hF H locs ls hP hD hS hl
    have hF : b_X9_know_11 N l1 (f_X9_know_11 N l1 n) l2 mkn mmb dkl = some res := hF
    unfold b_X9_know_11 at hF
    refine lv_iload_n hx hb dX9_know_11 rfl (lv_at hl 2 rfl) ?_
    refine lv_aload_n hx hb dX9_know_12 rfl (lv_at hl 0 rfl) ?_
    refine va_get (D := D) (ci := 8) (v := .int mkn) (C := RX9) (T := TX9) (N := 24) hx hb hts iX9_know_X9 hown hK hP 0 rfl rfl 13 (by decide) (hts _ kX9_know_1) (fun _ h9 => h9) rfl dX9_know_13 ?_
    refine lv_icmp_ge (tgt := 38) hx hb dX9_know_16 (by decide) (fun c4 => ?_) (fun c4 => ?_)
    · have hF := if_t c4 hF
      refine lv_aload_n hx hb dX9_know_38 rfl (lv_at hl 0 rfl) ?_
      refine va_get (D := D) (ci := 8) (v := .int mkn) (C := RX9) (T := TX9) (N := 24) hx hb hts iX9_know_X9 hown hK hP 0 rfl rfl 13 (by decide) (hts _ kX9_know_1) (fun _ h9 => h9) rfl dX9_know_39 ?_
      refine lv_iconst (v := (4 : Int32)) hx hb dX9_know_42 (by decide) ?_
      refine lv_icmp_ne (tgt := 49) hx hb dX9_know_43 (by decide) (fun c5 => ?_) (fun c5 => ?_)
      · have hF := if_f c5 hF
        refine lv_aload_n hx hb dX9_know_49 rfl (lv_at hl 0 rfl) ?_
        refine va_get (D := D) (ci := 8) (v := .ref mkl) (C := RX9) (T := TX9) (N := 24) hx hb hts iX9_know_X9 hown hK hP 0 rfl rfl 14 (by decide) (hts _ kX9_know_2) (fun _ h9 => h9) rfl dX9_know_50 ?_
        refine lv_aload_n hx hb dX9_know_53 rfl (lv_at hl 0 rfl) ?_
        refine va_get (D := D) (ci := 8) (v := .int mkn) (C := RX9) (T := TX9) (N := 24) hx hb hts iX9_know_X9 hown hK hP 0 rfl rfl 13 (by decide) (hts _ kX9_know_1) (fun _ h9 => h9) rfl dX9_know_54 ?_
        refine lv_iload_n hx hb dX9_know_57 rfl (lv_at hl 1 rfl) ?_
        obtain ⟨h6, hF⟩ := gi_s hF
        refine va_iast hx hb hK hP hD hS 9 0 rfl rfl h6 dX9_know_58 (fun H locs hP hD hS => ?_)
        have hP : va_P D vwCl (w_model ky aM mxs mus mys mgp mtp mme mle mlt mkl mln msz mit mmv mrm mer mtd mat mwr mkn mmb mwa mra mbl mbh dxs dus dys dgp dtp dme dle dlt (upd dkl mkn.toNatClampNeg l1) dln dsz dit dmv) H := hP
        have hD : va_D A (w_model ky aM mxs mus mys mgp mtp mme mle mlt mkl mln msz mit mmv mrm mer mtd mat mwr mkn mmb mwa mra mbl mbh dxs dus dys dgp dtp dme dle dlt (upd dkl mkn.toNatClampNeg l1) dln dsz dit dmv) := hD
        refine lv_aload_n hx hb dX9_know_59 rfl (lv_at hl 0 rfl) ?_
        refine lv_dup hx hb dX9_know_60 rfl ?_
        refine va_get (D := D) (ci := 8) (v := .int mkn) (C := RX9) (T := TX9) (N := 24) hx hb hts iX9_know_X9 hown hK hP 0 rfl rfl 13 (by decide) (hts _ kX9_know_1) (fun _ h9 => h9) rfl dX9_know_61 ?_
        refine lv_iconst (v := (1 : Int32)) hx hb dX9_know_64 (by decide) ?_
        refine lv_iadd hx hb dX9_know_65 ?_
        refine va_put (D := D) (ci := 8) (v := .int (mkn + (1 : Int32))) (ty := .int) (C := RX9) (T := TX9) (N := 24) hx hb hts iX9_know_X9 tyX9 tyX9_ok nmX9 hown hK hP hD hS 0 rfl rfl 13 (by decide) (hts _ kX9_know_1) (fun _ h9 => h9) rfl (by decide +kernel) rfl rfl (Nat.le_of_ble_eq_true rfl) dX9_know_66 (fun H locs hP hD hS => ?_)
        have hP : va_P D vwCl (w_model ky aM mxs mus mys mgp mtp mme mle mlt mkl mln msz mit mmv mrm mer mtd mat mwr (mkn + (1 : Int32)) mmb mwa mra mbl mbh dxs dus dys dgp dtp dme dle dlt (upd dkl mkn.toNatClampNeg l1) dln dsz dit dmv) H := hP
        have hD : va_D A (w_model ky aM mxs mus mys mgp mtp mme mle mlt mkl mln msz mit mmv mrm mer mtd mat mwr (mkn + (1 : Int32)) mmb mwa mra mbl mbh dxs dus dys dgp dtp dme dle dlt (upd dkl mkn.toNatClampNeg l1) dln dsz dit dmv) := hD
        refine lv_aload_n hx hb dX9_know_69 rfl (lv_at hl 0 rfl) ?_
        refine lv_iconst (v := (1 : Int32)) hx hb dX9_know_70 (by decide) ?_
        refine lv_aload_n hx hb dX9_know_71 rfl (lv_at hl 0 rfl) ?_
        refine va_get (D := D) (ci := 8) (v := .int (mkn + (1 : Int32))) (C := RX9) (T := TX9) (N := 24) hx hb hts iX9_know_X9 hown hK hP 0 rfl rfl 13 (by decide) (hts _ kX9_know_1) (fun _ h9 => h9) rfl dX9_know_72 ?_
        refine lv_ishl hx hb dX9_know_75 ?_
        refine lv_iconst (v := (1 : Int32)) hx hb dX9_know_76 (by decide) ?_
        refine lv_isub hx hb dX9_know_77 ?_
        refine lv_topi (fun v7 e_v7 => ?_)
        have hF := nm_s e_v7 hF
        refine va_put (D := D) (ci := 8) (v := .int v7) (ty := .int) (C := RX9) (T := TX9) (N := 24) hx hb hts iX9_know_X9 tyX9 tyX9_ok nmX9 hown hK hP hD hS 0 rfl rfl 15 (by decide) (hts _ kX9_know_3) (fun _ h9 => h9) rfl (by decide +kernel) rfl rfl (Nat.le_of_ble_eq_true rfl) dX9_know_78 (fun H locs hP hD hS => ?_)
        have hP : va_P D vwCl (w_model ky aM mxs mus mys mgp mtp mme mle mlt mkl mln msz mit mmv mrm mer mtd mat mwr (mkn + (1 : Int32)) v7 mwa mra mbl mbh dxs dus dys dgp dtp dme dle dlt (upd dkl mkn.toNatClampNeg l1) dln dsz dit dmv) H := hP
        have hD : va_D A (w_model ky aM mxs mus mys mgp mtp mme mle mlt mkl mln msz mit mmv mrm mer mtd mat mwr (mkn + (1 : Int32)) v7 mwa mra mbl mbh dxs dus dys dgp dtp dme dle dlt (upd dkl mkn.toNatClampNeg l1) dln dsz dit dmv) := hD
        refine lv_aload_n hx hb dX9_know_81 rfl (lv_at hl 0 rfl) ?_
        refine va_get (D := D) (ci := 8) (v := .int (mkn + (1 : Int32))) (C := RX9) (T := TX9) (N := 24) hx hb hts iX9_know_X9 hown hK hP 0 rfl rfl 13 (by decide) (hts _ kX9_know_1) (fun _ h9 => h9) rfl dX9_know_82 ?_
        refine lv_iconst (v := (1 : Int32)) hx hb dX9_know_85 (by decide) ?_
        refine lv_isub hx hb dX9_know_86 ?_
        have hF := Option.some.inj hF
        subst hF
        exact hQ _ H _ _ dX9_know_87 hP hD hS
      · have hF := if_t c5 hF
        refine lv_bipush (v := (-3 : Int32)) hx hb dX9_know_46 (by decide) ?_
        have hF := Option.some.inj hF
        subst hF
        exact hQ _ H _ _ dX9_know_48 hP hD hS
    · have hF := if_f c4 hF
      refine lv_aload_n hx hb dX9_know_19 rfl (lv_at hl 0 rfl) ?_
      refine va_get (D := D) (ci := 8) (v := .ref mkl) (C := RX9) (T := TX9) (N := 24) hx hb hts iX9_know_X9 hown hK hP 0 rfl rfl 14 (by decide) (hts _ kX9_know_2) (fun _ h9 => h9) rfl dX9_know_20 ?_
      refine lv_iload_n hx hb dX9_know_23 rfl (lv_at hl 2 rfl) ?_
      obtain ⟨h8, hF⟩ := gi_s hF
      refine va_iald hx hb hK hP 9 0 rfl rfl h8 dX9_know_24 ?_
      refine lv_iload_n hx hb dX9_know_25 rfl (lv_at hl 1 rfl) ?_
      refine lv_icmp_ne (tgt := 32) hx hb dX9_know_26 (by decide) (fun c9 => ?_) (fun c9 => ?_)
      · have hF := if_f c9 hF
        refine lv_iinc (v := (l2 + (1 : Int32))) (lv' := [(2, .int (l2 + (1 : Int32))), (0, .ref aM), (1, .int l1)]) hx hb dX9_know_32 hl (k := 2) rfl rfl (by decide) rfl (fun ls hl => ?_)
        refine lv_goto (tgt := 11) hx hb dX9_know_35 (by decide) ?_
        exact ih (l2 + (1 : Int32)) mkn mmb dkl hF H _ _ hP hD hS (lv_sub hl [1, 2, 0] rfl)
      · have hF := if_t c9 hF
        refine lv_bipush (v := (-2 : Int32)) hx hb dX9_know_29 (by decide) ?_
        have hF := Option.some.inj hF
        subst hF
        exact hQ _ H _ _ dX9_know_31 hP hD hS
set_option maxHeartbeats 4000000 in
set_option maxRecDepth 100000 in
theorem cr_X9_know (l : Launch) (D : va_G) (ky : Nat → ClassId) (aM mxs mus mys mgp mtp mme mle mlt mkl mln msz mit mmv : Nat) (sz N : Nat)  (mrm : Int32) (mer : Int32) (mtd : Int32) (mat : Int32) (mwr : Int32) (mkn : Int32) (mmb : Int32) (mwa : Int32) (mra : Int32) (mbl : Int32) (mbh : Int32) (dxs : Nat → Int32) (dus : Nat → Int32) (dys : Nat → Int32) (dgp : Nat → Int32) (dtp : Nat → Int32) (dme : Nat → Int32) (dle : Nat → Int32) (dlt : Nat → Int32) (dkl : Nat → Int32) (dln : Nat → Int32) (dsz : Nat → Int32) (dit : Nat → Int32) (dmv : Nat → Int32) (p0 : Int32) (res : Int32 × Int32 × Int32 × (Nat → Int32)) (hF : f_X9_know N p0 mkn mmb dkl = some res) : MI l yX9_know wsX9_know rm_X9_know D ky sz [.ref aM, .int p0] (w_model ky aM mxs mus mys mgp mtp mme mle mlt mkl mln msz mit mmv mrm mer mtd mat mwr mkn mmb mwa mra mbl mbh dxs dus dys dgp dtp dme dle dlt dkl dln dsz dit dmv) (w_model ky aM mxs mus mys mgp mtp mme mle mlt mkl mln msz mit mmv mrm mer mtd mat mwr res.2.1 res.2.2.1 mwa mra mbl mbh dxs dus dys dgp dtp dme dle dlt res.2.2.2 dln dsz dit dmv) res.1 := by
  unfold MI
  refine Met.ofW (cc := cX9_know) (maxL := 3) (ret := (some .int)) (by decide) rfl ?_
  intro p e s m args below meth c s₁ B hml hv
  obtain ⟨rfl, hsz, hP, hK, hD0⟩ := hv
  have hx := B.exec
  have hb := B.bytes
  have hr := B.returns
  have hts := atoms_spec (ws := wsX9_know) B.pre
  have hown : s.vm.findClass RX9 = some m.cls := findClass_of_methodNamed B.named
  have hlocks := B.notSynchronized
  subst hsz
  have hD := hD0.self (sz := s.heap.size)
  generalize hAe : va_A (w_model ky aM mxs mus mys mgp mtp mme mle mlt mkl mln msz mit mmv mrm mer mtd mat mwr mkn mmb mwa mra mbl mbh dxs dus dys dgp dtp dme dle dlt dkl dln dsz dit dmv) s.heap.size = A at hD ⊢
  have hA : ∀ q : Nat, s.heap.size ≤ q → A q := fun q h => by rw [← hAe]; exact Or.inr h
  have hS : va_S A s.heap s.heap [] := va_S.rf
  have hP : va_P D vwCl (w_model ky aM mxs mus mys mgp mtp mme mle mlt mkl mln msz mit mmv mrm mer mtd mat mwr mkn mmb mwa mra mbl mbh dxs dus dys dgp dtp dme dle dlt dkl dln dsz dit dmv) s.heap := hP
  have hl := lv_entry ([.ref aM, .int p0]) (n := 3) (Nat.le_of_ble_eq_true rfl)
  rw [lg_entry_eq]
  generalize (lg_sl ([.ref aM, .int p0]) ++ List.replicate (3 - (lg_sl ([.ref aM, .int p0])).length) Slot.unset).toArray = ls at hl ⊢
  have hl : lv_has ls 3 [(0, .ref aM), (1, .int p0)] := hl
  have C : cx p s m c ([.ref aM, .int p0]).toArray D ky A cX9_know 3 wsX9_know RX9 := ⟨hx, hb, hml, hown, hts, hK, hA⟩
  have hQ : ∀ (pc : Nat) (H : Heap) (locs : List Loc) (ls : Array Slot), decode cX9_know pc = .ok (.ireturn, 1) → va_P D vwCl (w_model ky aM mxs mus mys mgp mtp mme mle mlt mkl mln msz mit mmv mrm mer mtd mat mwr res.2.1 res.2.2.1 mwa mra mbl mbh dxs dus dys dgp dtp dme dle dlt res.2.2.2 dln dsz dit dmv) H → va_D A (w_model ky aM mxs mus mys mgp mtp mme mle mlt mkl mln msz mit mmv mrm mer mtd mat mwr res.2.1 res.2.2.1 mwa mra mbl mbh dxs dus dys dgp dtp dme dle dlt res.2.2.2 dln dsz dit dmv) → va_S A s.heap H locs → W p l e rm_X9_know s m ([.ref aM, .int p0]).toArray below meth c H locs 0 0 (MQ below (va_Qi (S := Unit) (fun r _ => r = res.1) (fun _ t => va_P D vwCl (w_model ky aM mxs mus mys mgp mtp mme mle mlt mkl mln msz mit mmv mrm mer mtd mat mwr res.2.1 res.2.2.1 mwa mra mbl mbh dxs dus dys dgp dtp dme dle dlt res.2.2.2 dln dsz dit dmv) t.heap ∧ va_K D vwCl (tyW ky) t ∧ va_D A (w_model ky aM mxs mus mys mgp mtp mme mle mlt mkl mln msz mit mmv mrm mer mtd mat mwr res.2.1 res.2.2.1 mwa mra mbl mbh dxs dus dys dgp dtp dme dle dlt res.2.2.2 dln dsz dit dmv)) A) ([.ref aM, .int p0]).toArray s 0 0 A) (F0 m pc ls [.int res.1]) := fun pc H locs ls hd hP hD hS => W.iret hx hb hr (fun t ht hW => ⟨⟨res.1, (), rfl, rfl, by rw [ht]; exact hP, va_K.moved hW.alike hK, hD⟩, hS.F ht⟩) hS.2.2 hd
  unfold f_X9_know at hF
  refine lv_iload_n hx hb dX9_know_0 rfl (lv_at hl 1 rfl) ?_
  obtain ⟨r2, h1, hF⟩ := b1_s hF
  refine cl_si (As := [.int p0]) (rest := []) ⟨hx, hb, hml, hown, hts⟩ hK hP hD hS hA (c_X9_isLaw l D ky  _ N   p0 r2 h1) (va_cwS 1 hts gX9_know_X9_isLaw rfl rfl rfl (by decide +kernel) ⟨Nat.le_of_ble_eq_true rfl, Nat.le_of_ble_eq_true rfl⟩) rfl hl.1 (Nat.le_of_ble_eq_true rfl) dX9_know_1 ⟨Nat.zero_le _, Nat.zero_le _⟩ (fun H locs hP hD hS => ?_)
  refine lv_if_ne (tgt := 9) hx hb dX9_know_4 (by decide) (fun c3 => ?_) (fun c3 => ?_)
  · have hF := if_f c3 hF
    refine lv_iconst (v := (0 : Int32)) hx hb dX9_know_9 (by decide) ?_
    refine lv_istore_n (lv' := [(2, .int (0 : Int32)), (0, .ref aM), (1, .int p0)]) hx hb dX9_know_10 rfl hl (by decide) rfl (fun ls hl => ?_)
    exact w_X9_know_11 N C res hQ p0 N (0 : Int32) mkn mmb dkl hF _ _ _ hP hD hS (lv_sub hl [1, 2, 0] rfl)
  · have hF := if_t c3 hF
    refine lv_iconst (v := (-1 : Int32)) hx hb dX9_know_7 (by decide) ?_
    have hF := Option.some.inj hF
    subst hF
    exact hQ _ _ _ _ dX9_know_8 hP hD hS
theorem c_X9_know (l : Launch) (D : va_G) (ky : Nat → ClassId) (aM mxs mus mys mgp mtp mme mle mlt mkl mln msz mit mmv : Nat) (sz N : Nat)  (mrm : Int32) (mer : Int32) (mtd : Int32) (mat : Int32) (mwr : Int32) (mkn : Int32) (mmb : Int32) (mwa : Int32) (mra : Int32) (mbl : Int32) (mbh : Int32) (dxs : Nat → Int32) (dus : Nat → Int32) (dys : Nat → Int32) (dgp : Nat → Int32) (dtp : Nat → Int32) (dme : Nat → Int32) (dle : Nat → Int32) (dlt : Nat → Int32) (dkl : Nat → Int32) (dln : Nat → Int32) (dsz : Nat → Int32) (dit : Nat → Int32) (dmv : Nat → Int32) (p0 : Int32) (rv : Int32) (mkn' : Int32) (mmb' : Int32) (dkl' : Nat → Int32) (hF : f_X9_know N p0 mkn mmb dkl = some (rv, mkn', mmb', dkl')) : MI l yX9_know wsX9_know rm_X9_know D ky sz [.ref aM, .int p0] (w_model ky aM mxs mus mys mgp mtp mme mle mlt mkl mln msz mit mmv mrm mer mtd mat mwr mkn mmb mwa mra mbl mbh dxs dus dys dgp dtp dme dle dlt dkl dln dsz dit dmv) (w_model ky aM mxs mus mys mgp mtp mme mle mlt mkl mln msz mit mmv mrm mer mtd mat mwr mkn' mmb' mwa mra mbl mbh dxs dus dys dgp dtp dme dle dlt dkl' dln dsz dit dmv) rv :=
  cr_X9_know l D ky aM mxs mus mys mgp mtp mme mle mlt mkl mln msz mit mmv sz N mrm mer mtd mat mwr mkn mmb mwa mra mbl mbh dxs dus dys dgp dtp dme dle dlt dkl dln dsz dit dmv p0 (rv, mkn', mmb', dkl') hF
abbrev rm_X9_box : Room := { frames := 2, cells := 0, slots := 0, locals := 45 }
theorem iX9_box_X9 : ∀ w ∈ wsX90, w ∈ wsX9_box := by decide +kernel
theorem kX9_box_1 : (Cond.fieldLink RX9 211 "TwoLawsModel" "boxLow" "I") ∈ wsX9_box := by decide +kernel
theorem kX9_box_2 : (Cond.fieldLink RX9 214 "TwoLawsModel" "boxHigh" "I") ∈ wsX9_box := by decide +kernel
set_option maxHeartbeats 4000000 in
set_option maxRecDepth 100000 in
theorem cr_X9_box (l : Launch) (D : va_G) (ky : Nat → ClassId) (aM mxs mus mys mgp mtp mme mle mlt mkl mln msz mit mmv : Nat) (sz N : Nat)  (mrm : Int32) (mer : Int32) (mtd : Int32) (mat : Int32) (mwr : Int32) (mkn : Int32) (mmb : Int32) (mwa : Int32) (mra : Int32) (mbl : Int32) (mbh : Int32) (dxs : Nat → Int32) (dus : Nat → Int32) (dys : Nat → Int32) (dgp : Nat → Int32) (dtp : Nat → Int32) (dme : Nat → Int32) (dle : Nat → Int32) (dlt : Nat → Int32) (dkl : Nat → Int32) (dln : Nat → Int32) (dsz : Nat → Int32) (dit : Nat → Int32) (dmv : Nat → Int32) (p0 : Int32) (p1 : Int32) (res : Int32 × Int32 × Int32) (hF : f_X9_box N p0 p1 mbl mbh = some res) : MI l yX9_box wsX9_box rm_X9_box D ky sz [.ref aM, .int p0, .int p1] (w_model ky aM mxs mus mys mgp mtp mme mle mlt mkl mln msz mit mmv mrm mer mtd mat mwr mkn mmb mwa mra mbl mbh dxs dus dys dgp dtp dme dle dlt dkl dln dsz dit dmv) (w_model ky aM mxs mus mys mgp mtp mme mle mlt mkl mln msz mit mmv mrm mer mtd mat mwr mkn mmb mwa mra res.2.1 res.2.2 dxs dus dys dgp dtp dme dle dlt dkl dln dsz dit dmv) res.1 := by
  unfold MI
  refine Met.ofW (cc := cX9_box) (maxL := 3) (ret := (some .int)) (by decide) rfl ?_
  intro p e s m args below meth c s₁ B hml hv
  obtain ⟨rfl, hsz, hP, hK, hD0⟩ := hv
  have hx := B.exec
  have hb := B.bytes
  have hr := B.returns
  have hts := atoms_spec (ws := wsX9_box) B.pre
  have hown : s.vm.findClass RX9 = some m.cls := findClass_of_methodNamed B.named
  have hlocks := B.notSynchronized
  subst hsz
  have hD := hD0.self (sz := s.heap.size)
  generalize hAe : va_A (w_model ky aM mxs mus mys mgp mtp mme mle mlt mkl mln msz mit mmv mrm mer mtd mat mwr mkn mmb mwa mra mbl mbh dxs dus dys dgp dtp dme dle dlt dkl dln dsz dit dmv) s.heap.size = A at hD ⊢
  have hA : ∀ q : Nat, s.heap.size ≤ q → A q := fun q h => by rw [← hAe]; exact Or.inr h
  have hS : va_S A s.heap s.heap [] := va_S.rf
  have hP : va_P D vwCl (w_model ky aM mxs mus mys mgp mtp mme mle mlt mkl mln msz mit mmv mrm mer mtd mat mwr mkn mmb mwa mra mbl mbh dxs dus dys dgp dtp dme dle dlt dkl dln dsz dit dmv) s.heap := hP
  have hl := lv_entry ([.ref aM, .int p0, .int p1]) (n := 3) (Nat.le_of_ble_eq_true rfl)
  rw [lg_entry_eq]
  generalize (lg_sl ([.ref aM, .int p0, .int p1]) ++ List.replicate (3 - (lg_sl ([.ref aM, .int p0, .int p1])).length) Slot.unset).toArray = ls at hl ⊢
  have hl : lv_has ls 3 [(0, .ref aM), (1, .int p0), (2, .int p1)] := hl
  have C : cx p s m c ([.ref aM, .int p0, .int p1]).toArray D ky A cX9_box 3 wsX9_box RX9 := ⟨hx, hb, hml, hown, hts, hK, hA⟩
  have hQ : ∀ (pc : Nat) (H : Heap) (locs : List Loc) (ls : Array Slot), decode cX9_box pc = .ok (.ireturn, 1) → va_P D vwCl (w_model ky aM mxs mus mys mgp mtp mme mle mlt mkl mln msz mit mmv mrm mer mtd mat mwr mkn mmb mwa mra res.2.1 res.2.2 dxs dus dys dgp dtp dme dle dlt dkl dln dsz dit dmv) H → va_D A (w_model ky aM mxs mus mys mgp mtp mme mle mlt mkl mln msz mit mmv mrm mer mtd mat mwr mkn mmb mwa mra res.2.1 res.2.2 dxs dus dys dgp dtp dme dle dlt dkl dln dsz dit dmv) → va_S A s.heap H locs → W p l e rm_X9_box s m ([.ref aM, .int p0, .int p1]).toArray below meth c H locs 0 0 (MQ below (va_Qi (S := Unit) (fun r _ => r = res.1) (fun _ t => va_P D vwCl (w_model ky aM mxs mus mys mgp mtp mme mle mlt mkl mln msz mit mmv mrm mer mtd mat mwr mkn mmb mwa mra res.2.1 res.2.2 dxs dus dys dgp dtp dme dle dlt dkl dln dsz dit dmv) t.heap ∧ va_K D vwCl (tyW ky) t ∧ va_D A (w_model ky aM mxs mus mys mgp mtp mme mle mlt mkl mln msz mit mmv mrm mer mtd mat mwr mkn mmb mwa mra res.2.1 res.2.2 dxs dus dys dgp dtp dme dle dlt dkl dln dsz dit dmv)) A) ([.ref aM, .int p0, .int p1]).toArray s 0 0 A) (F0 m pc ls [.int res.1]) := fun pc H locs ls hd hP hD hS => W.iret hx hb hr (fun t ht hW => ⟨⟨res.1, (), rfl, rfl, by rw [ht]; exact hP, va_K.moved hW.alike hK, hD⟩, hS.F ht⟩) hS.2.2 hd
  unfold f_X9_box at hF
  refine lv_iload_n hx hb dX9_box_0 rfl (lv_at hl 1 rfl) ?_
  obtain ⟨r2, h1, hF⟩ := b1_s hF
  refine cl_si (As := [.int p0]) (rest := []) ⟨hx, hb, hml, hown, hts⟩ hK hP hD hS hA (c_X9_isState l D ky  _ N   p0 r2 h1) (va_cwS 1 hts gX9_box_X9_isState rfl rfl rfl (by decide +kernel) ⟨Nat.le_of_ble_eq_true rfl, Nat.le_of_ble_eq_true rfl⟩) rfl hl.1 (Nat.le_of_ble_eq_true rfl) dX9_box_1 ⟨Nat.zero_le _, Nat.zero_le _⟩ (fun H locs hP hD hS => ?_)
  refine lv_if_eq (tgt := 19) hx hb dX9_box_4 (by decide) (fun c3 => ?_) (fun c3 => ?_)
  · have hF := if_t c3 hF
    refine lv_iconst (v := (-1 : Int32)) hx hb dX9_box_19 (by decide) ?_
    have hF := Option.some.inj hF
    subst hF
    exact hQ _ _ _ _ dX9_box_20 hP hD hS
  · have hF := if_f c3 hF
    refine lv_iload_n hx hb dX9_box_7 rfl (lv_at hl 2 rfl) ?_
    obtain ⟨r5, h4, hF⟩ := b1_s hF
    refine cl_si (As := [.int p1]) (rest := []) ⟨hx, hb, hml, hown, hts⟩ hK hP hD hS hA (c_X9_isState l D ky  _ N   p1 r5 h4) (va_cwS 1 hts gX9_box_X9_isState rfl rfl rfl (by decide +kernel) ⟨Nat.le_of_ble_eq_true rfl, Nat.le_of_ble_eq_true rfl⟩) rfl hl.1 (Nat.le_of_ble_eq_true rfl) dX9_box_8 ⟨Nat.zero_le _, Nat.zero_le _⟩ (fun H locs hP hD hS => ?_)
    refine lv_if_eq (tgt := 19) hx hb dX9_box_11 (by decide) (fun c6 => ?_) (fun c6 => ?_)
    · have hF := if_t c6 hF
      refine lv_iconst (v := (-1 : Int32)) hx hb dX9_box_19 (by decide) ?_
      have hF := Option.some.inj hF
      subst hF
      exact hQ _ _ _ _ dX9_box_20 hP hD hS
    · have hF := if_f c6 hF
      refine lv_iload_n hx hb dX9_box_14 rfl (lv_at hl 1 rfl) ?_
      refine lv_iload_n hx hb dX9_box_15 rfl (lv_at hl 2 rfl) ?_
      refine lv_icmp_le (tgt := 21) hx hb dX9_box_16 (by decide) (fun c7 => ?_) (fun c7 => ?_)
      · have hF := if_t c7 hF
        refine lv_aload_n hx hb dX9_box_21 rfl (lv_at hl 0 rfl) ?_
        refine lv_iload_n hx hb dX9_box_22 rfl (lv_at hl 1 rfl) ?_
        refine va_put (D := D) (ci := 8) (v := .int p0) (ty := .int) (C := RX9) (T := TX9) (N := 24) hx hb hts iX9_box_X9 tyX9 tyX9_ok nmX9 hown hK hP hD hS 0 rfl rfl 18 (by decide) (hts _ kX9_box_1) (fun _ h9 => h9) rfl (by decide +kernel) rfl rfl (Nat.le_of_ble_eq_true rfl) dX9_box_23 (fun H locs hP hD hS => ?_)
        have hP : va_P D vwCl (w_model ky aM mxs mus mys mgp mtp mme mle mlt mkl mln msz mit mmv mrm mer mtd mat mwr mkn mmb mwa mra p0 mbh dxs dus dys dgp dtp dme dle dlt dkl dln dsz dit dmv) H := hP
        have hD : va_D A (w_model ky aM mxs mus mys mgp mtp mme mle mlt mkl mln msz mit mmv mrm mer mtd mat mwr mkn mmb mwa mra p0 mbh dxs dus dys dgp dtp dme dle dlt dkl dln dsz dit dmv) := hD
        refine lv_aload_n hx hb dX9_box_26 rfl (lv_at hl 0 rfl) ?_
        refine lv_iload_n hx hb dX9_box_27 rfl (lv_at hl 2 rfl) ?_
        refine va_put (D := D) (ci := 8) (v := .int p1) (ty := .int) (C := RX9) (T := TX9) (N := 24) hx hb hts iX9_box_X9 tyX9 tyX9_ok nmX9 hown hK hP hD hS 0 rfl rfl 19 (by decide) (hts _ kX9_box_2) (fun _ h9 => h9) rfl (by decide +kernel) rfl rfl (Nat.le_of_ble_eq_true rfl) dX9_box_28 (fun H locs hP hD hS => ?_)
        have hP : va_P D vwCl (w_model ky aM mxs mus mys mgp mtp mme mle mlt mkl mln msz mit mmv mrm mer mtd mat mwr mkn mmb mwa mra p0 p1 dxs dus dys dgp dtp dme dle dlt dkl dln dsz dit dmv) H := hP
        have hD : va_D A (w_model ky aM mxs mus mys mgp mtp mme mle mlt mkl mln msz mit mmv mrm mer mtd mat mwr mkn mmb mwa mra p0 p1 dxs dus dys dgp dtp dme dle dlt dkl dln dsz dit dmv) := hD
        refine lv_iconst (v := (1 : Int32)) hx hb dX9_box_31 (by decide) ?_
        have hF := Option.some.inj hF
        subst hF
        exact hQ _ _ _ _ dX9_box_32 hP hD hS
      · have hF := if_f c7 hF
        refine lv_iconst (v := (-1 : Int32)) hx hb dX9_box_19 (by decide) ?_
        have hF := Option.some.inj hF
        subst hF
        exact hQ _ _ _ _ dX9_box_20 hP hD hS
theorem c_X9_box (l : Launch) (D : va_G) (ky : Nat → ClassId) (aM mxs mus mys mgp mtp mme mle mlt mkl mln msz mit mmv : Nat) (sz N : Nat)  (mrm : Int32) (mer : Int32) (mtd : Int32) (mat : Int32) (mwr : Int32) (mkn : Int32) (mmb : Int32) (mwa : Int32) (mra : Int32) (mbl : Int32) (mbh : Int32) (dxs : Nat → Int32) (dus : Nat → Int32) (dys : Nat → Int32) (dgp : Nat → Int32) (dtp : Nat → Int32) (dme : Nat → Int32) (dle : Nat → Int32) (dlt : Nat → Int32) (dkl : Nat → Int32) (dln : Nat → Int32) (dsz : Nat → Int32) (dit : Nat → Int32) (dmv : Nat → Int32) (p0 : Int32) (p1 : Int32) (rv : Int32) (mbl' : Int32) (mbh' : Int32) (hF : f_X9_box N p0 p1 mbl mbh = some (rv, mbl', mbh')) : MI l yX9_box wsX9_box rm_X9_box D ky sz [.ref aM, .int p0, .int p1] (w_model ky aM mxs mus mys mgp mtp mme mle mlt mkl mln msz mit mmv mrm mer mtd mat mwr mkn mmb mwa mra mbl mbh dxs dus dys dgp dtp dme dle dlt dkl dln dsz dit dmv) (w_model ky aM mxs mus mys mgp mtp mme mle mlt mkl mln msz mit mmv mrm mer mtd mat mwr mkn mmb mwa mra mbl' mbh' dxs dus dys dgp dtp dme dle dlt dkl dln dsz dit dmv) rv :=
  cr_X9_box l D ky aM mxs mus mys mgp mtp mme mle mlt mkl mln msz mit mmv sz N mrm mer mtd mat mwr mkn mmb mwa mra mbl mbh dxs dus dys dgp dtp dme dle dlt dkl dln dsz dit dmv p0 p1 (rv, mbl', mbh') hF
abbrev rm_X9_steps : Room := { frames := 2, cells := 0, slots := 0, locals := 41 }
theorem iX9_steps_X9 : ∀ w ∈ wsX90, w ∈ wsX9_steps := by decide +kernel
theorem kX9_steps_1 : (Cond.fieldLink RX9 156 "TwoLawsModel" "known" "I") ∈ wsX9_steps := by decide +kernel
theorem kX9_steps_2 : (Cond.fieldLink RX9 23 "TwoLawsModel" "error" "I") ∈ wsX9_steps := by decide +kernel
theorem kX9_steps_3 : (Cond.fieldLink RX9 211 "TwoLawsModel" "boxLow" "I") ∈ wsX9_steps := by decide +kernel
theorem kX9_steps_4 : (Cond.fieldLink RX9 214 "TwoLawsModel" "boxHigh" "I") ∈ wsX9_steps := by decide +kernel
theorem kX9_steps_5 : (Cond.fieldLink RX9 39 "TwoLawsModel" "knownLaws" "[I") ∈ wsX9_steps := by decide +kernel
set_option maxHeartbeats 4000000 in
set_option maxRecDepth 100000 in
theorem w_X9_steps_99 {p : Program} {l : Launch} {e : Env} {s : State} {m : MethodId} {args : Array Value} {below : List Frame} {meth : Method} {c : Code} {Q : State → Prop} {A : Nat → Prop} {D : va_G} {ky : Nat → ClassId} {aM mxs mus mys mgp mtp mme mle mlt mkl mln msz mit mmv : Nat} {mrm : Int32} {mer : Int32} {mtd : Int32} {mat : Int32} {mwr : Int32} {mkn : Int32} {mmb : Int32} {mwa : Int32} {mra : Int32} {dxs : Nat → Int32} {dus : Nat → Int32} {dys : Nat → Int32} {dgp : Nat → Int32} {dtp : Nat → Int32} {dme : Nat → Int32} {dle : Nat → Int32} {dlt : Nat → Int32} {dkl : Nat → Int32} {dln : Nat → Int32} {dsz : Nat → Int32} {dit : Nat → Int32} {dmv : Nat → Int32} (N : Nat) (C : cx p s m c args D ky A cX9_steps 9 wsX9_steps RX9) (res : Int32 × Int32) (hQ : ∀ (pc : Nat) (H : Heap) (locs : List Loc) (ls : Array Slot), decode cX9_steps pc = .ok (.return_, 1) → va_P D vwCl (w_model ky aM mxs mus mys mgp mtp mme mle mlt mkl mln msz mit mmv mrm mer mtd mat mwr mkn mmb mwa mra res.1 res.2 dxs dus dys dgp dtp dme dle dlt dkl dln dsz dit dmv) H → va_D A (w_model ky aM mxs mus mys mgp mtp mme mle mlt mkl mln msz mit mmv mrm mer mtd mat mwr mkn mmb mwa mra res.1 res.2 dxs dus dys dgp dtp dme dle dlt dkl dln dsz dit dmv) → va_S A s.heap H locs → W p l e rm_X9_steps s m args below meth c H locs 0 0 Q (F0 m pc ls [])) (l1 : Int32) (k7 : Int32 → Int32 → Int32 → Int32 → Int32 → Option (Int32 × Int32)) (hk7 : ∀ (l2 : Int32) (l3 : Int32) (l4 : Int32) (mbl : Int32) (mbh : Int32), k7 l2 l3 l4 mbl mbh = some res → ∀ (H : Heap) (locs : List Loc) (ls : Array Slot), va_P D vwCl (w_model ky aM mxs mus mys mgp mtp mme mle mlt mkl mln msz mit mmv mrm mer mtd mat mwr mkn mmb mwa mra mbl mbh dxs dus dys dgp dtp dme dle dlt dkl dln dsz dit dmv) H → va_D A (w_model ky aM mxs mus mys mgp mtp mme mle mlt mkl mln msz mit mmv mrm mer mtd mat mwr mkn mmb mwa mra mbl mbh dxs dus dys dgp dtp dme dle dlt dkl dln dsz dit dmv) → va_S A s.heap H locs → lv_has ls 9 [(0, .ref aM), (1, .int l1), (2, .int l2), (3, .int l3), (4, .int l4)] → W p l e rm_X9_steps s m args below meth c H locs 0 0 Q (F0 m 7 ls [])) (l3 : Int32) (l4 : Int32) (l8 : Int32) (t0 : Int32) (mbl : Int32) (mbh : Int32) (hF : f_X9_steps_99 N k7 l1 l3 l4 l8 t0 mer mkn mbl mbh dkl = some res) : ∀ (H : Heap) (locs : List Loc) (ls : Array Slot), va_P D vwCl (w_model ky aM mxs mus mys mgp mtp mme mle mlt mkl mln msz mit mmv mrm mer mtd mat mwr mkn mmb mwa mra mbl mbh dxs dus dys dgp dtp dme dle dlt dkl dln dsz dit dmv) H → va_D A (w_model ky aM mxs mus mys mgp mtp mme mle mlt mkl mln msz mit mmv mrm mer mtd mat mwr mkn mmb mwa mra mbl mbh dxs dus dys dgp dtp dme dle dlt dkl dln dsz dit dmv) → va_S A s.heap H locs → lv_has ls 9 [(0, .ref aM), (1, .int l1), (3, .int l3), (4, .int l4), (8, .int l8)] → W p l e rm_X9_steps s m args below meth c H locs 0 0 Q (F0 m 99 ls [.int t0]) := by
  obtain ⟨hx, hb, hml, hown, hts, hK, hA⟩ := id C
  intro H locs ls hP hD hS hl
  unfold f_X9_steps_99 at hF
  refine lv_istore_n (lv' := [(2, .int t0), (0, .ref aM), (1, .int l1), (3, .int l3), (4, .int l4), (8, .int l8)]) hx hb dX9_steps_99 rfl hl (by decide) rfl (fun ls hl => ?_)
  refine lv_iload hx hb dX9_steps_100 (lv_at hl 4 rfl) ?_
  refine lv_if_eq (tgt := 111) hx hb dX9_steps_102 (by decide) (fun c20 => ?_) (fun c20 => ?_)
  · have hF := if_t c20 hF
    refine lv_iload hx hb dX9_steps_111 (lv_at hl 5 rfl) ?_
    refine lv_goto (tgt := 117) hx hb dX9_steps_113 (by decide) ?_
    refine lv_istore_n (lv' := [(3, .int l8), (2, .int t0), (0, .ref aM), (1, .int l1), (4, .int l4), (8, .int l8)]) hx hb dX9_steps_117 rfl hl (by decide) rfl (fun ls hl => ?_)
    refine lv_iinc (v := (l4 + (1 : Int32))) (lv' := [(4, .int (l4 + (1 : Int32))), (3, .int l8), (2, .int t0), (0, .ref aM), (1, .int l1), (8, .int l8)]) hx hb dX9_steps_118 hl (k := 4) rfl rfl (by decide) rfl (fun ls hl => ?_)
    refine lv_goto (tgt := 7) hx hb dX9_steps_121 (by decide) ?_
    exact hk7 t0 l8 (l4 + (1 : Int32)) mbl mbh hF H _ _ hP hD hS (lv_sub hl [3, 4, 2, 1, 0] rfl)
  · have hF := if_f c20 hF
    refine lv_iload hx hb dX9_steps_105 (lv_at hl 5 rfl) ?_
    refine lv_iload_n hx hb dX9_steps_107 rfl (lv_at hl 3 rfl) ?_
    refine lv_icmp_le (tgt := 116) hx hb dX9_steps_108 (by decide) (fun c21 => ?_) (fun c21 => ?_)
    · have hF := if_t c21 hF
      refine lv_iload_n hx hb dX9_steps_116 rfl (lv_at hl 3 rfl) ?_
      refine lv_istore_n (lv' := [(3, .int l3), (2, .int t0), (0, .ref aM), (1, .int l1), (4, .int l4), (8, .int l8)]) hx hb dX9_steps_117 rfl hl (by decide) rfl (fun ls hl => ?_)
      refine lv_iinc (v := (l4 + (1 : Int32))) (lv' := [(4, .int (l4 + (1 : Int32))), (3, .int l3), (2, .int t0), (0, .ref aM), (1, .int l1), (8, .int l8)]) hx hb dX9_steps_118 hl (k := 4) rfl rfl (by decide) rfl (fun ls hl => ?_)
      refine lv_goto (tgt := 7) hx hb dX9_steps_121 (by decide) ?_
      exact hk7 t0 l3 (l4 + (1 : Int32)) mbl mbh hF H _ _ hP hD hS (lv_sub hl [3, 4, 2, 1, 0] rfl)
    · have hF := if_f c21 hF
      refine lv_iload hx hb dX9_steps_111 (lv_at hl 5 rfl) ?_
      refine lv_goto (tgt := 117) hx hb dX9_steps_113 (by decide) ?_
      refine lv_istore_n (lv' := [(3, .int l8), (2, .int t0), (0, .ref aM), (1, .int l1), (4, .int l4), (8, .int l8)]) hx hb dX9_steps_117 rfl hl (by decide) rfl (fun ls hl => ?_)
      refine lv_iinc (v := (l4 + (1 : Int32))) (lv' := [(4, .int (l4 + (1 : Int32))), (3, .int l8), (2, .int t0), (0, .ref aM), (1, .int l1), (8, .int l8)]) hx hb dX9_steps_118 hl (k := 4) rfl rfl (by decide) rfl (fun ls hl => ?_)
      refine lv_goto (tgt := 7) hx hb dX9_steps_121 (by decide) ?_
      exact hk7 t0 l8 (l4 + (1 : Int32)) mbl mbh hF H _ _ hP hD hS (lv_sub hl [3, 4, 2, 1, 0] rfl)
set_option maxHeartbeats 4000000 in
set_option maxRecDepth 100000 in
theorem w_X9_steps_80 {p : Program} {l : Launch} {e : Env} {s : State} {m : MethodId} {args : Array Value} {below : List Frame} {meth : Method} {c : Code} {Q : State → Prop} {A : Nat → Prop} {D : va_G} {ky : Nat → ClassId} {aM mxs mus mys mgp mtp mme mle mlt mkl mln msz mit mmv : Nat} {mrm : Int32} {mer : Int32} {mtd : Int32} {mat : Int32} {mwr : Int32} {mkn : Int32} {mmb : Int32} {mwa : Int32} {mra : Int32} {dxs : Nat → Int32} {dus : Nat → Int32} {dys : Nat → Int32} {dgp : Nat → Int32} {dtp : Nat → Int32} {dme : Nat → Int32} {dle : Nat → Int32} {dlt : Nat → Int32} {dkl : Nat → Int32} {dln : Nat → Int32} {dsz : Nat → Int32} {dit : Nat → Int32} {dmv : Nat → Int32} (N : Nat) (C : cx p s m c args D ky A cX9_steps 9 wsX9_steps RX9) (res : Int32 × Int32) (hQ : ∀ (pc : Nat) (H : Heap) (locs : List Loc) (ls : Array Slot), decode cX9_steps pc = .ok (.return_, 1) → va_P D vwCl (w_model ky aM mxs mus mys mgp mtp mme mle mlt mkl mln msz mit mmv mrm mer mtd mat mwr mkn mmb mwa mra res.1 res.2 dxs dus dys dgp dtp dme dle dlt dkl dln dsz dit dmv) H → va_D A (w_model ky aM mxs mus mys mgp mtp mme mle mlt mkl mln msz mit mmv mrm mer mtd mat mwr mkn mmb mwa mra res.1 res.2 dxs dus dys dgp dtp dme dle dlt dkl dln dsz dit dmv) → va_S A s.heap H locs → W p l e rm_X9_steps s m args below meth c H locs 0 0 Q (F0 m pc ls [])) (l1 : Int32) (k7 : Int32 → Int32 → Int32 → Int32 → Int32 → Option (Int32 × Int32)) (hk7 : ∀ (l2 : Int32) (l3 : Int32) (l4 : Int32) (mbl : Int32) (mbh : Int32), k7 l2 l3 l4 mbl mbh = some res → ∀ (H : Heap) (locs : List Loc) (ls : Array Slot), va_P D vwCl (w_model ky aM mxs mus mys mgp mtp mme mle mlt mkl mln msz mit mmv mrm mer mtd mat mwr mkn mmb mwa mra mbl mbh dxs dus dys dgp dtp dme dle dlt dkl dln dsz dit dmv) H → va_D A (w_model ky aM mxs mus mys mgp mtp mme mle mlt mkl mln msz mit mmv mrm mer mtd mat mwr mkn mmb mwa mra mbl mbh dxs dus dys dgp dtp dme dle dlt dkl dln dsz dit dmv) → va_S A s.heap H locs → lv_has ls 9 [(0, .ref aM), (1, .int l1), (2, .int l2), (3, .int l3), (4, .int l4)] → W p l e rm_X9_steps s m args below meth c H locs 0 0 Q (F0 m 7 ls [])) (l2 : Int32) (l3 : Int32) (l4 : Int32) (l7 : Int32) (t0 : Int32) (mbl : Int32) (mbh : Int32) (hF : f_X9_steps_80 N k7 l1 l2 l3 l4 l7 t0 mer mkn mbl mbh dkl = some res) : ∀ (H : Heap) (locs : List Loc) (ls : Array Slot), va_P D vwCl (w_model ky aM mxs mus mys mgp mtp mme mle mlt mkl mln msz mit mmv mrm mer mtd mat mwr mkn mmb mwa mra mbl mbh dxs dus dys dgp dtp dme dle dlt dkl dln dsz dit dmv) H → va_D A (w_model ky aM mxs mus mys mgp mtp mme mle mlt mkl mln msz mit mmv mrm mer mtd mat mwr mkn mmb mwa mra mbl mbh dxs dus dys dgp dtp dme dle dlt dkl dln dsz dit dmv) → va_S A s.heap H locs → lv_has ls 9 [(0, .ref aM), (1, .int l1), (2, .int l2), (3, .int l3), (4, .int l4), (7, .int l7)] → W p l e rm_X9_steps s m args below meth c H locs 0 0 Q (F0 m 80 ls [.int t0]) := by
  obtain ⟨hx, hb, hml, hown, hts, hK, hA⟩ := id C
  intro H locs ls hP hD hS hl
  unfold f_X9_steps_80 at hF
  refine lv_istore (lv' := [(8, .int t0), (0, .ref aM), (1, .int l1), (2, .int l2), (3, .int l3), (4, .int l4), (7, .int l7)]) hx hb dX9_steps_80 hl (by decide) rfl (fun ls hl => ?_)
  refine lv_iload hx hb dX9_steps_82 (lv_at hl 5 rfl) ?_
  refine lv_if_eq (tgt := 93) hx hb dX9_steps_84 (by decide) (fun c18 => ?_) (fun c18 => ?_)
  · have hF := if_t c18 hF
    refine lv_iload hx hb dX9_steps_93 (lv_at hl 6 rfl) ?_
    refine lv_goto (tgt := 99) hx hb dX9_steps_95 (by decide) ?_
    exact w_X9_steps_99 N C res hQ l1 k7 hk7 l3 l4 t0 l7 mbl mbh hF H _ _ hP hD hS (lv_sub hl [1, 2, 4, 5, 0] rfl)
  · have hF := if_f c18 hF
    refine lv_iload hx hb dX9_steps_87 (lv_at hl 6 rfl) ?_
    refine lv_iload_n hx hb dX9_steps_89 rfl (lv_at hl 3 rfl) ?_
    refine lv_icmp_ge (tgt := 98) hx hb dX9_steps_90 (by decide) (fun c19 => ?_) (fun c19 => ?_)
    · have hF := if_t c19 hF
      refine lv_iload_n hx hb dX9_steps_98 rfl (lv_at hl 3 rfl) ?_
      exact w_X9_steps_99 N C res hQ l1 k7 hk7 l3 l4 t0 l2 mbl mbh hF H _ _ hP hD hS (lv_sub hl [1, 2, 4, 5, 0] rfl)
    · have hF := if_f c19 hF
      refine lv_iload hx hb dX9_steps_93 (lv_at hl 6 rfl) ?_
      refine lv_goto (tgt := 99) hx hb dX9_steps_95 (by decide) ?_
      exact w_X9_steps_99 N C res hQ l1 k7 hk7 l3 l4 t0 l7 mbl mbh hF H _ _ hP hD hS (lv_sub hl [1, 2, 4, 5, 0] rfl)
set_option maxHeartbeats 4000000 in
set_option maxRecDepth 100000 in
theorem w_X9_steps_64 {p : Program} {l : Launch} {e : Env} {s : State} {m : MethodId} {args : Array Value} {below : List Frame} {meth : Method} {c : Code} {Q : State → Prop} {A : Nat → Prop} {D : va_G} {ky : Nat → ClassId} {aM mxs mus mys mgp mtp mme mle mlt mkl mln msz mit mmv : Nat} {mrm : Int32} {mer : Int32} {mtd : Int32} {mat : Int32} {mwr : Int32} {mkn : Int32} {mmb : Int32} {mwa : Int32} {mra : Int32} {dxs : Nat → Int32} {dus : Nat → Int32} {dys : Nat → Int32} {dgp : Nat → Int32} {dtp : Nat → Int32} {dme : Nat → Int32} {dle : Nat → Int32} {dlt : Nat → Int32} {dkl : Nat → Int32} {dln : Nat → Int32} {dsz : Nat → Int32} {dit : Nat → Int32} {dmv : Nat → Int32} (N : Nat) (C : cx p s m c args D ky A cX9_steps 9 wsX9_steps RX9) (res : Int32 × Int32) (hQ : ∀ (pc : Nat) (H : Heap) (locs : List Loc) (ls : Array Slot), decode cX9_steps pc = .ok (.return_, 1) → va_P D vwCl (w_model ky aM mxs mus mys mgp mtp mme mle mlt mkl mln msz mit mmv mrm mer mtd mat mwr mkn mmb mwa mra res.1 res.2 dxs dus dys dgp dtp dme dle dlt dkl dln dsz dit dmv) H → va_D A (w_model ky aM mxs mus mys mgp mtp mme mle mlt mkl mln msz mit mmv mrm mer mtd mat mwr mkn mmb mwa mra res.1 res.2 dxs dus dys dgp dtp dme dle dlt dkl dln dsz dit dmv) → va_S A s.heap H locs → W p l e rm_X9_steps s m args below meth c H locs 0 0 Q (F0 m pc ls [])) (l1 : Int32) (k7 : Int32 → Int32 → Int32 → Int32 → Int32 → Option (Int32 × Int32)) (hk7 : ∀ (l2 : Int32) (l3 : Int32) (l4 : Int32) (mbl : Int32) (mbh : Int32), k7 l2 l3 l4 mbl mbh = some res → ∀ (H : Heap) (locs : List Loc) (ls : Array Slot), va_P D vwCl (w_model ky aM mxs mus mys mgp mtp mme mle mlt mkl mln msz mit mmv mrm mer mtd mat mwr mkn mmb mwa mra mbl mbh dxs dus dys dgp dtp dme dle dlt dkl dln dsz dit dmv) H → va_D A (w_model ky aM mxs mus mys mgp mtp mme mle mlt mkl mln msz mit mmv mrm mer mtd mat mwr mkn mmb mwa mra mbl mbh dxs dus dys dgp dtp dme dle dlt dkl dln dsz dit dmv) → va_S A s.heap H locs → lv_has ls 9 [(0, .ref aM), (1, .int l1), (2, .int l2), (3, .int l3), (4, .int l4)] → W p l e rm_X9_steps s m args below meth c H locs 0 0 Q (F0 m 7 ls [])) (l2 : Int32) (l3 : Int32) (l4 : Int32) (l5 : Int32) (l6 : Int32) (t0 : Int32) (mbl : Int32) (mbh : Int32) (hF : f_X9_steps_64 N k7 l1 l2 l3 l4 l5 l6 t0 mer mkn mbl mbh dkl = some res) : ∀ (H : Heap) (locs : List Loc) (ls : Array Slot), va_P D vwCl (w_model ky aM mxs mus mys mgp mtp mme mle mlt mkl mln msz mit mmv mrm mer mtd mat mwr mkn mmb mwa mra mbl mbh dxs dus dys dgp dtp dme dle dlt dkl dln dsz dit dmv) H → va_D A (w_model ky aM mxs mus mys mgp mtp mme mle mlt mkl mln msz mit mmv mrm mer mtd mat mwr mkn mmb mwa mra mbl mbh dxs dus dys dgp dtp dme dle dlt dkl dln dsz dit dmv) → va_S A s.heap H locs → lv_has ls 9 [(0, .ref aM), (1, .int l1), (2, .int l2), (3, .int l3), (4, .int l4), (5, .int l5), (6, .int l6)] → W p l e rm_X9_steps s m args below meth c H locs 0 0 Q (F0 m 64 ls [.int t0]) := by
  obtain ⟨hx, hb, hml, hown, hts, hK, hA⟩ := id C
  intro H locs ls hP hD hS hl
  unfold f_X9_steps_64 at hF
  refine lv_istore (lv' := [(7, .int t0), (0, .ref aM), (1, .int l1), (2, .int l2), (3, .int l3), (4, .int l4), (5, .int l5), (6, .int l6)]) hx hb dX9_steps_64 hl (by decide) rfl (fun ls hl => ?_)
  refine lv_iload hx hb dX9_steps_66 (lv_at hl 6 rfl) ?_
  refine lv_iload hx hb dX9_steps_68 (lv_at hl 7 rfl) ?_
  refine lv_icmp_ge (tgt := 78) hx hb dX9_steps_70 (by decide) (fun c17 => ?_) (fun c17 => ?_)
  · have hF := if_t c17 hF
    refine lv_iload hx hb dX9_steps_78 (lv_at hl 6 rfl) ?_
    exact w_X9_steps_80 N C res hQ l1 k7 hk7 l2 l3 l4 t0 l5 mbl mbh hF H _ _ hP hD hS (lv_sub hl [1, 2, 3, 4, 5, 0] rfl)
  · have hF := if_f c17 hF
    refine lv_iload hx hb dX9_steps_73 (lv_at hl 7 rfl) ?_
    refine lv_goto (tgt := 80) hx hb dX9_steps_75 (by decide) ?_
    exact w_X9_steps_80 N C res hQ l1 k7 hk7 l2 l3 l4 t0 l6 mbl mbh hF H _ _ hP hD hS (lv_sub hl [1, 2, 3, 4, 5, 0] rfl)
set_option maxHeartbeats 4000000 in
set_option maxRecDepth 100000 in
theorem w_X9_steps_7 {p : Program} {l : Launch} {e : Env} {s : State} {m : MethodId} {args : Array Value} {below : List Frame} {meth : Method} {c : Code} {Q : State → Prop} {A : Nat → Prop} {D : va_G} {ky : Nat → ClassId} {aM mxs mus mys mgp mtp mme mle mlt mkl mln msz mit mmv : Nat} {mrm : Int32} {mer : Int32} {mtd : Int32} {mat : Int32} {mwr : Int32} {mkn : Int32} {mmb : Int32} {mwa : Int32} {mra : Int32} {dxs : Nat → Int32} {dus : Nat → Int32} {dys : Nat → Int32} {dgp : Nat → Int32} {dtp : Nat → Int32} {dme : Nat → Int32} {dle : Nat → Int32} {dlt : Nat → Int32} {dkl : Nat → Int32} {dln : Nat → Int32} {dsz : Nat → Int32} {dit : Nat → Int32} {dmv : Nat → Int32} (N : Nat) (C : cx p s m c args D ky A cX9_steps 9 wsX9_steps RX9) (res : Int32 × Int32) (hQ : ∀ (pc : Nat) (H : Heap) (locs : List Loc) (ls : Array Slot), decode cX9_steps pc = .ok (.return_, 1) → va_P D vwCl (w_model ky aM mxs mus mys mgp mtp mme mle mlt mkl mln msz mit mmv mrm mer mtd mat mwr mkn mmb mwa mra res.1 res.2 dxs dus dys dgp dtp dme dle dlt dkl dln dsz dit dmv) H → va_D A (w_model ky aM mxs mus mys mgp mtp mme mle mlt mkl mln msz mit mmv mrm mer mtd mat mwr mkn mmb mwa mra res.1 res.2 dxs dus dys dgp dtp dme dle dlt dkl dln dsz dit dmv) → va_S A s.heap H locs → W p l e rm_X9_steps s m args below meth c H locs 0 0 Q (F0 m pc ls [])) (l1 : Int32) : ∀ (n : Nat) (l2 : Int32) (l3 : Int32) (l4 : Int32) (mbl : Int32) (mbh : Int32), f_X9_steps_7 N l1 mer mkn dkl n l2 l3 l4 mbl mbh = some res → ∀ (H : Heap) (locs : List Loc) (ls : Array Slot), va_P D vwCl (w_model ky aM mxs mus mys mgp mtp mme mle mlt mkl mln msz mit mmv mrm mer mtd mat mwr mkn mmb mwa mra mbl mbh dxs dus dys dgp dtp dme dle dlt dkl dln dsz dit dmv) H → va_D A (w_model ky aM mxs mus mys mgp mtp mme mle mlt mkl mln msz mit mmv mrm mer mtd mat mwr mkn mmb mwa mra mbl mbh dxs dus dys dgp dtp dme dle dlt dkl dln dsz dit dmv) → va_S A s.heap H locs → lv_has ls 9 [(0, .ref aM), (1, .int l1), (2, .int l2), (3, .int l3), (4, .int l4)] → W p l e rm_X9_steps s m args below meth c H locs 0 0 Q (F0 m 7 ls []) := by
  obtain ⟨hx, hb, hml, hown, hts, hK, hA⟩ := id C
  intro n
  induction n with
  | zero =>
    intro l2 l3 l4 mbl mbh hF
    cases hF
  | succ n ih =>
    intro l2 l3 l4 mbl mbh hF H locs ls hP hD hS hl
    have hF : b_X9_steps_7 N l1 mer mkn dkl (f_X9_steps_7 N l1 mer mkn dkl n) l2 l3 l4 mbl mbh = some res := hF
    unfold b_X9_steps_7 at hF
    refine lv_iload hx hb dX9_steps_7 (lv_at hl 4 rfl) ?_
    refine lv_aload_n hx hb dX9_steps_9 rfl (lv_at hl 0 rfl) ?_
    refine va_get (D := D) (ci := 8) (v := .int mkn) (C := RX9) (T := TX9) (N := 24) hx hb hts iX9_steps_X9 hown hK hP 0 rfl rfl 13 (by decide) (hts _ kX9_steps_1) (fun _ h9 => h9) rfl dX9_steps_10 ?_
    refine lv_icmp_ge (tgt := 124) hx hb dX9_steps_13 (by decide) (fun c1 => ?_) (fun c1 => ?_)
    · have hF := if_t c1 hF
      refine lv_aload_n hx hb dX9_steps_124 rfl (lv_at hl 0 rfl) ?_
      refine lv_iload_n hx hb dX9_steps_125 rfl (lv_at hl 2 rfl) ?_
      refine lv_iconst (v := (4 : Int32)) hx hb dX9_steps_126 (by decide) ?_
      refine lv_aload_n hx hb dX9_steps_127 rfl (lv_at hl 0 rfl) ?_
      refine va_get (D := D) (ci := 8) (v := .int mer) (C := RX9) (T := TX9) (N := 24) hx hb hts iX9_steps_X9 hown hK hP 0 rfl rfl 5 (by decide) (hts _ kX9_steps_2) (fun _ h9 => h9) rfl dX9_steps_128 ?_
      refine lv_imul hx hb dX9_steps_131 ?_
      refine lv_isub hx hb dX9_steps_132 ?_
      obtain ⟨r3, h2, hF⟩ := b1_s hF
      refine cl_si (As := [.int (l2 - ((4 : Int32) * mer))]) (rest := [.ref aM]) ⟨hx, hb, hml, hown, hts⟩ hK hP hD hS hA (c_X9_lower l D ky  _ N   (l2 - ((4 : Int32) * mer)) r3 h2) (va_cwS 1 hts gX9_steps_X9_lower rfl rfl rfl (by decide +kernel) ⟨Nat.le_of_ble_eq_true rfl, Nat.le_of_ble_eq_true rfl⟩) rfl hl.1 (Nat.le_of_ble_eq_true rfl) dX9_steps_133 ⟨Nat.zero_le _, Nat.zero_le _⟩ (fun H locs hP hD hS => ?_)
      obtain ⟨r5, h4, hF⟩ := b1_s hF
      refine cl_si (As := [.int r3]) (rest := [.ref aM]) ⟨hx, hb, hml, hown, hts⟩ hK hP hD hS hA (c_X9_held l D ky  _ N   r3 r5 h4) (va_cwS 1 hts gX9_steps_X9_held rfl rfl rfl (by decide +kernel) ⟨Nat.le_of_ble_eq_true rfl, Nat.le_of_ble_eq_true rfl⟩) rfl hl.1 (Nat.le_of_ble_eq_true rfl) dX9_steps_136 ⟨Nat.zero_le _, Nat.zero_le _⟩ (fun H locs hP hD hS => ?_)
      refine va_put (D := D) (ci := 8) (v := .int r5) (ty := .int) (C := RX9) (T := TX9) (N := 24) hx hb hts iX9_steps_X9 tyX9 tyX9_ok nmX9 hown hK hP hD hS 0 rfl rfl 18 (by decide) (hts _ kX9_steps_3) (fun _ h9 => h9) rfl (by decide +kernel) rfl rfl (Nat.le_of_ble_eq_true rfl) dX9_steps_139 (fun H locs hP hD hS => ?_)
      have hP : va_P D vwCl (w_model ky aM mxs mus mys mgp mtp mme mle mlt mkl mln msz mit mmv mrm mer mtd mat mwr mkn mmb mwa mra r5 mbh dxs dus dys dgp dtp dme dle dlt dkl dln dsz dit dmv) H := hP
      have hD : va_D A (w_model ky aM mxs mus mys mgp mtp mme mle mlt mkl mln msz mit mmv mrm mer mtd mat mwr mkn mmb mwa mra r5 mbh dxs dus dys dgp dtp dme dle dlt dkl dln dsz dit dmv) := hD
      refine lv_aload_n hx hb dX9_steps_142 rfl (lv_at hl 0 rfl) ?_
      refine lv_iload_n hx hb dX9_steps_143 rfl (lv_at hl 3 rfl) ?_
      refine lv_iconst (v := (4 : Int32)) hx hb dX9_steps_144 (by decide) ?_
      refine lv_aload_n hx hb dX9_steps_145 rfl (lv_at hl 0 rfl) ?_
      refine va_get (D := D) (ci := 8) (v := .int mer) (C := RX9) (T := TX9) (N := 24) hx hb hts iX9_steps_X9 hown hK hP 0 rfl rfl 5 (by decide) (hts _ kX9_steps_2) (fun _ h9 => h9) rfl dX9_steps_146 ?_
      refine lv_imul hx hb dX9_steps_149 ?_
      refine lv_iadd hx hb dX9_steps_150 ?_
      obtain ⟨r7, h6, hF⟩ := b1_s hF
      refine cl_si (As := [.int (l3 + ((4 : Int32) * mer))]) (rest := [.ref aM]) ⟨hx, hb, hml, hown, hts⟩ hK hP hD hS hA (c_X9_higher l D ky  _ N   (l3 + ((4 : Int32) * mer)) r7 h6) (va_cwS 1 hts gX9_steps_X9_higher rfl rfl rfl (by decide +kernel) ⟨Nat.le_of_ble_eq_true rfl, Nat.le_of_ble_eq_true rfl⟩) rfl hl.1 (Nat.le_of_ble_eq_true rfl) dX9_steps_151 ⟨Nat.zero_le _, Nat.zero_le _⟩ (fun H locs hP hD hS => ?_)
      obtain ⟨r9, h8, hF⟩ := b1_s hF
      refine cl_si (As := [.int r7]) (rest := [.ref aM]) ⟨hx, hb, hml, hown, hts⟩ hK hP hD hS hA (c_X9_held l D ky  _ N   r7 r9 h8) (va_cwS 1 hts gX9_steps_X9_held rfl rfl rfl (by decide +kernel) ⟨Nat.le_of_ble_eq_true rfl, Nat.le_of_ble_eq_true rfl⟩) rfl hl.1 (Nat.le_of_ble_eq_true rfl) dX9_steps_154 ⟨Nat.zero_le _, Nat.zero_le _⟩ (fun H locs hP hD hS => ?_)
      refine va_put (D := D) (ci := 8) (v := .int r9) (ty := .int) (C := RX9) (T := TX9) (N := 24) hx hb hts iX9_steps_X9 tyX9 tyX9_ok nmX9 hown hK hP hD hS 0 rfl rfl 19 (by decide) (hts _ kX9_steps_4) (fun _ h9 => h9) rfl (by decide +kernel) rfl rfl (Nat.le_of_ble_eq_true rfl) dX9_steps_157 (fun H locs hP hD hS => ?_)
      have hP : va_P D vwCl (w_model ky aM mxs mus mys mgp mtp mme mle mlt mkl mln msz mit mmv mrm mer mtd mat mwr mkn mmb mwa mra r5 r9 dxs dus dys dgp dtp dme dle dlt dkl dln dsz dit dmv) H := hP
      have hD : va_D A (w_model ky aM mxs mus mys mgp mtp mme mle mlt mkl mln msz mit mmv mrm mer mtd mat mwr mkn mmb mwa mra r5 r9 dxs dus dys dgp dtp dme dle dlt dkl dln dsz dit dmv) := hD
      have hF := Option.some.inj hF
      subst hF
      exact hQ _ H _ _ dX9_steps_160 hP hD hS
    · have hF := if_f c1 hF
      refine lv_aload_n hx hb dX9_steps_16 rfl (lv_at hl 0 rfl) ?_
      refine va_get (D := D) (ci := 8) (v := .ref mkl) (C := RX9) (T := TX9) (N := 24) hx hb hts iX9_steps_X9 hown hK hP 0 rfl rfl 14 (by decide) (hts _ kX9_steps_5) (fun _ h9 => h9) rfl dX9_steps_17 ?_
      refine lv_iload hx hb dX9_steps_20 (lv_at hl 4 rfl) ?_
      obtain ⟨h10, hF⟩ := gi_s hF
      refine va_iald hx hb hK hP 9 0 rfl rfl h10 dX9_steps_22 ?_
      refine lv_aload_n hx hb dX9_steps_23 rfl (lv_at hl 0 rfl) ?_
      refine va_get (D := D) (ci := 8) (v := .int mbl) (C := RX9) (T := TX9) (N := 24) hx hb hts iX9_steps_X9 hown hK hP 0 rfl rfl 18 (by decide) (hts _ kX9_steps_3) (fun _ h9 => h9) rfl dX9_steps_24 ?_
      refine lv_iload_n hx hb dX9_steps_27 rfl (lv_at hl 1 rfl) ?_
      obtain ⟨r12, h11, hF⟩ := b1_s hF
      refine cl_si (As := [.int (dkl l4.toNatClampNeg), .int mbl, .int l1]) (rest := []) ⟨hx, hb, hml, hown, hts⟩ hK hP hD hS hA (c_X9_sumOf l D ky  _ N   (dkl l4.toNatClampNeg) mbl l1 r12 h11) (va_cwS 3 hts gX9_steps_X9_sumOf rfl rfl rfl (by decide +kernel) ⟨Nat.le_of_ble_eq_true rfl, Nat.le_of_ble_eq_true rfl⟩) rfl hl.1 (Nat.le_of_ble_eq_true rfl) dX9_steps_28 ⟨Nat.zero_le _, Nat.zero_le _⟩ (fun H locs hP hD hS => ?_)
      refine lv_istore (lv' := [(5, .int r12), (0, .ref aM), (1, .int l1), (2, .int l2), (3, .int l3), (4, .int l4)]) hx hb dX9_steps_31 hl (by decide) rfl (fun ls hl => ?_)
      refine lv_aload_n hx hb dX9_steps_33 rfl (lv_at hl 1 rfl) ?_
      refine va_get (D := D) (ci := 8) (v := .ref mkl) (C := RX9) (T := TX9) (N := 24) hx hb hts iX9_steps_X9 hown hK hP 0 rfl rfl 14 (by decide) (hts _ kX9_steps_5) (fun _ h9 => h9) rfl dX9_steps_34 ?_
      refine lv_iload hx hb dX9_steps_37 (lv_at hl 5 rfl) ?_
      obtain ⟨h13, hF⟩ := gi_s hF
      refine va_iald hx hb hK hP 9 0 rfl rfl h13 dX9_steps_39 ?_
      refine lv_aload_n hx hb dX9_steps_40 rfl (lv_at hl 1 rfl) ?_
      refine va_get (D := D) (ci := 8) (v := .int mbh) (C := RX9) (T := TX9) (N := 24) hx hb hts iX9_steps_X9 hown hK hP 0 rfl rfl 19 (by decide) (hts _ kX9_steps_4) (fun _ h9 => h9) rfl dX9_steps_41 ?_
      refine lv_iload_n hx hb dX9_steps_44 rfl (lv_at hl 2 rfl) ?_
      obtain ⟨r15, h14, hF⟩ := b1_s hF
      refine cl_si (As := [.int (dkl l4.toNatClampNeg), .int mbh, .int l1]) (rest := []) ⟨hx, hb, hml, hown, hts⟩ hK hP hD hS hA (c_X9_sumOf l D ky  _ N   (dkl l4.toNatClampNeg) mbh l1 r15 h14) (va_cwS 3 hts gX9_steps_X9_sumOf rfl rfl rfl (by decide +kernel) ⟨Nat.le_of_ble_eq_true rfl, Nat.le_of_ble_eq_true rfl⟩) rfl hl.1 (Nat.le_of_ble_eq_true rfl) dX9_steps_45 ⟨Nat.zero_le _, Nat.zero_le _⟩ (fun H locs hP hD hS => ?_)
      refine lv_istore (lv' := [(6, .int r15), (5, .int r12), (0, .ref aM), (1, .int l1), (2, .int l2), (3, .int l3), (4, .int l4)]) hx hb dX9_steps_48 hl (by decide) rfl (fun ls hl => ?_)
      refine lv_iload hx hb dX9_steps_50 (lv_at hl 1 rfl) ?_
      refine lv_iload hx hb dX9_steps_52 (lv_at hl 0 rfl) ?_
      refine lv_icmp_ge (tgt := 62) hx hb dX9_steps_54 (by decide) (fun c16 => ?_) (fun c16 => ?_)
      · have hF := if_t c16 hF
        refine lv_iload hx hb dX9_steps_62 (lv_at hl 0 rfl) ?_
        exact w_X9_steps_64 N C res hQ l1 _ ih l2 l3 l4 r12 r15 r15 mbl mbh hF H _ _ hP hD hS (lv_sub hl [2, 3, 4, 5, 6, 1, 0] rfl)
      · have hF := if_f c16 hF
        refine lv_iload hx hb dX9_steps_57 (lv_at hl 1 rfl) ?_
        refine lv_goto (tgt := 64) hx hb dX9_steps_59 (by decide) ?_
        exact w_X9_steps_64 N C res hQ l1 _ ih l2 l3 l4 r12 r15 r12 mbl mbh hF H _ _ hP hD hS (lv_sub hl [2, 3, 4, 5, 6, 1, 0] rfl)
set_option maxHeartbeats 4000000 in
set_option maxRecDepth 100000 in
theorem cr_X9_steps (l : Launch) (D : va_G) (ky : Nat → ClassId) (aM mxs mus mys mgp mtp mme mle mlt mkl mln msz mit mmv : Nat) (sz N : Nat)  (mrm : Int32) (mer : Int32) (mtd : Int32) (mat : Int32) (mwr : Int32) (mkn : Int32) (mmb : Int32) (mwa : Int32) (mra : Int32) (mbl : Int32) (mbh : Int32) (dxs : Nat → Int32) (dus : Nat → Int32) (dys : Nat → Int32) (dgp : Nat → Int32) (dtp : Nat → Int32) (dme : Nat → Int32) (dle : Nat → Int32) (dlt : Nat → Int32) (dkl : Nat → Int32) (dln : Nat → Int32) (dsz : Nat → Int32) (dit : Nat → Int32) (dmv : Nat → Int32) (p0 : Int32) (res : Int32 × Int32) (hF : f_X9_steps N p0 mer mkn mbl mbh dkl = some res) : MV l yX9_steps wsX9_steps rm_X9_steps D ky sz [.ref aM, .int p0] (w_model ky aM mxs mus mys mgp mtp mme mle mlt mkl mln msz mit mmv mrm mer mtd mat mwr mkn mmb mwa mra mbl mbh dxs dus dys dgp dtp dme dle dlt dkl dln dsz dit dmv) (w_model ky aM mxs mus mys mgp mtp mme mle mlt mkl mln msz mit mmv mrm mer mtd mat mwr mkn mmb mwa mra res.1 res.2 dxs dus dys dgp dtp dme dle dlt dkl dln dsz dit dmv) := by
  unfold MV
  refine Met.ofW (cc := cX9_steps) (maxL := 9) (ret := none) (by decide) rfl ?_
  intro p e s m args below meth c s₁ B hml hv
  obtain ⟨rfl, hsz, hP, hK, hD0⟩ := hv
  have hx := B.exec
  have hb := B.bytes
  have hr := B.returns
  have hts := atoms_spec (ws := wsX9_steps) B.pre
  have hown : s.vm.findClass RX9 = some m.cls := findClass_of_methodNamed B.named
  have hlocks := B.notSynchronized
  subst hsz
  have hD := hD0.self (sz := s.heap.size)
  generalize hAe : va_A (w_model ky aM mxs mus mys mgp mtp mme mle mlt mkl mln msz mit mmv mrm mer mtd mat mwr mkn mmb mwa mra mbl mbh dxs dus dys dgp dtp dme dle dlt dkl dln dsz dit dmv) s.heap.size = A at hD ⊢
  have hA : ∀ q : Nat, s.heap.size ≤ q → A q := fun q h => by rw [← hAe]; exact Or.inr h
  have hS : va_S A s.heap s.heap [] := va_S.rf
  have hP : va_P D vwCl (w_model ky aM mxs mus mys mgp mtp mme mle mlt mkl mln msz mit mmv mrm mer mtd mat mwr mkn mmb mwa mra mbl mbh dxs dus dys dgp dtp dme dle dlt dkl dln dsz dit dmv) s.heap := hP
  have hl := lv_entry ([.ref aM, .int p0]) (n := 9) (Nat.le_of_ble_eq_true rfl)
  rw [lg_entry_eq]
  generalize (lg_sl ([.ref aM, .int p0]) ++ List.replicate (9 - (lg_sl ([.ref aM, .int p0])).length) Slot.unset).toArray = ls at hl ⊢
  have hl : lv_has ls 9 [(0, .ref aM), (1, .int p0)] := hl
  have C : cx p s m c ([.ref aM, .int p0]).toArray D ky A cX9_steps 9 wsX9_steps RX9 := ⟨hx, hb, hml, hown, hts, hK, hA⟩
  have hQ : ∀ (pc : Nat) (H : Heap) (locs : List Loc) (ls : Array Slot), decode cX9_steps pc = .ok (.return_, 1) → va_P D vwCl (w_model ky aM mxs mus mys mgp mtp mme mle mlt mkl mln msz mit mmv mrm mer mtd mat mwr mkn mmb mwa mra res.1 res.2 dxs dus dys dgp dtp dme dle dlt dkl dln dsz dit dmv) H → va_D A (w_model ky aM mxs mus mys mgp mtp mme mle mlt mkl mln msz mit mmv mrm mer mtd mat mwr mkn mmb mwa mra res.1 res.2 dxs dus dys dgp dtp dme dle dlt dkl dln dsz dit dmv) → va_S A s.heap H locs → W p l e rm_X9_steps s m ([.ref aM, .int p0]).toArray below meth c H locs 0 0 (MQ below (va_Qv (S := Unit) (fun _ => True) (fun _ t => va_P D vwCl (w_model ky aM mxs mus mys mgp mtp mme mle mlt mkl mln msz mit mmv mrm mer mtd mat mwr mkn mmb mwa mra res.1 res.2 dxs dus dys dgp dtp dme dle dlt dkl dln dsz dit dmv) t.heap ∧ va_K D vwCl (tyW ky) t ∧ va_D A (w_model ky aM mxs mus mys mgp mtp mme mle mlt mkl mln msz mit mmv mrm mer mtd mat mwr mkn mmb mwa mra res.1 res.2 dxs dus dys dgp dtp dme dle dlt dkl dln dsz dit dmv)) A) ([.ref aM, .int p0]).toArray s 0 0 A) (F0 m pc ls []) := fun pc H locs ls hd hP hD hS => W.vret hx hb hr (fun t ht hW => ⟨⟨(), rfl, trivial, by rw [ht]; exact hP, va_K.moved hW.alike hK, hD⟩, hS.F ht⟩) hS.2.2 hd
  unfold f_X9_steps at hF
  refine lv_iconst (v := (0 : Int32)) hx hb dX9_steps_0 (by decide) ?_
  refine lv_istore_n (lv' := [(2, .int (0 : Int32)), (0, .ref aM), (1, .int p0)]) hx hb dX9_steps_1 rfl hl (by decide) rfl (fun ls hl => ?_)
  refine lv_iconst (v := (0 : Int32)) hx hb dX9_steps_2 (by decide) ?_
  refine lv_istore_n (lv' := [(3, .int (0 : Int32)), (2, .int (0 : Int32)), (0, .ref aM), (1, .int p0)]) hx hb dX9_steps_3 rfl hl (by decide) rfl (fun ls hl => ?_)
  refine lv_iconst (v := (0 : Int32)) hx hb dX9_steps_4 (by decide) ?_
  refine lv_istore (lv' := [(4, .int (0 : Int32)), (3, .int (0 : Int32)), (2, .int (0 : Int32)), (0, .ref aM), (1, .int p0)]) hx hb dX9_steps_5 hl (by decide) rfl (fun ls hl => ?_)
  exact w_X9_steps_7 N C res hQ p0 N (0 : Int32) (0 : Int32) (0 : Int32) mbl mbh hF _ _ _ hP hD hS (lv_sub hl [3, 4, 2, 1, 0] rfl)
theorem c_X9_steps (l : Launch) (D : va_G) (ky : Nat → ClassId) (aM mxs mus mys mgp mtp mme mle mlt mkl mln msz mit mmv : Nat) (sz N : Nat)  (mrm : Int32) (mer : Int32) (mtd : Int32) (mat : Int32) (mwr : Int32) (mkn : Int32) (mmb : Int32) (mwa : Int32) (mra : Int32) (mbl : Int32) (mbh : Int32) (dxs : Nat → Int32) (dus : Nat → Int32) (dys : Nat → Int32) (dgp : Nat → Int32) (dtp : Nat → Int32) (dme : Nat → Int32) (dle : Nat → Int32) (dlt : Nat → Int32) (dkl : Nat → Int32) (dln : Nat → Int32) (dsz : Nat → Int32) (dit : Nat → Int32) (dmv : Nat → Int32) (p0 : Int32) (mbl' : Int32) (mbh' : Int32) (hF : f_X9_steps N p0 mer mkn mbl mbh dkl = some (mbl', mbh')) : MV l yX9_steps wsX9_steps rm_X9_steps D ky sz [.ref aM, .int p0] (w_model ky aM mxs mus mys mgp mtp mme mle mlt mkl mln msz mit mmv mrm mer mtd mat mwr mkn mmb mwa mra mbl mbh dxs dus dys dgp dtp dme dle dlt dkl dln dsz dit dmv) (w_model ky aM mxs mus mys mgp mtp mme mle mlt mkl mln msz mit mmv mrm mer mtd mat mwr mkn mmb mwa mra mbl' mbh' dxs dus dys dgp dtp dme dle dlt dkl dln dsz dit dmv) :=
  cr_X9_steps l D ky aM mxs mus mys mgp mtp mme mle mlt mkl mln msz mit mmv sz N mrm mer mtd mat mwr mkn mmb mwa mra mbl mbh dxs dus dys dgp dtp dme dle dlt dkl dln dsz dit dmv p0 (mbl', mbh') hF
abbrev rm_X9_step : Room := { frames := 3, cells := 0, slots := 0, locals := 69 }
theorem iX9_step_X9 : ∀ w ∈ wsX90, w ∈ wsX9_step := by decide +kernel
theorem kX9_step_1 : (Cond.fieldLink RX9 156 "TwoLawsModel" "known" "I") ∈ wsX9_step := by decide +kernel
set_option maxHeartbeats 4000000 in
set_option maxRecDepth 100000 in
theorem cr_X9_step (l : Launch) (D : va_G) (ky : Nat → ClassId) (aM mxs mus mys mgp mtp mme mle mlt mkl mln msz mit mmv : Nat) (sz N : Nat)  (mrm : Int32) (mer : Int32) (mtd : Int32) (mat : Int32) (mwr : Int32) (mkn : Int32) (mmb : Int32) (mwa : Int32) (mra : Int32) (mbl : Int32) (mbh : Int32) (dxs : Nat → Int32) (dus : Nat → Int32) (dys : Nat → Int32) (dgp : Nat → Int32) (dtp : Nat → Int32) (dme : Nat → Int32) (dle : Nat → Int32) (dlt : Nat → Int32) (dkl : Nat → Int32) (dln : Nat → Int32) (dsz : Nat → Int32) (dit : Nat → Int32) (dmv : Nat → Int32) (p0 : Int32) (res : Int32 × Int32 × Int32) (hF : f_X9_step N p0 mer mkn mbl mbh dkl = some res) : MI l yX9_step wsX9_step rm_X9_step D ky sz [.ref aM, .int p0] (w_model ky aM mxs mus mys mgp mtp mme mle mlt mkl mln msz mit mmv mrm mer mtd mat mwr mkn mmb mwa mra mbl mbh dxs dus dys dgp dtp dme dle dlt dkl dln dsz dit dmv) (w_model ky aM mxs mus mys mgp mtp mme mle mlt mkl mln msz mit mmv mrm mer mtd mat mwr mkn mmb mwa mra res.2.1 res.2.2 dxs dus dys dgp dtp dme dle dlt dkl dln dsz dit dmv) res.1 := by
  unfold MI
  refine Met.ofW (cc := cX9_step) (maxL := 2) (ret := (some .int)) (by decide) rfl ?_
  intro p e s m args below meth c s₁ B hml hv
  obtain ⟨rfl, hsz, hP, hK, hD0⟩ := hv
  have hx := B.exec
  have hb := B.bytes
  have hr := B.returns
  have hts := atoms_spec (ws := wsX9_step) B.pre
  have hown : s.vm.findClass RX9 = some m.cls := findClass_of_methodNamed B.named
  have hlocks := B.notSynchronized
  subst hsz
  have hD := hD0.self (sz := s.heap.size)
  generalize hAe : va_A (w_model ky aM mxs mus mys mgp mtp mme mle mlt mkl mln msz mit mmv mrm mer mtd mat mwr mkn mmb mwa mra mbl mbh dxs dus dys dgp dtp dme dle dlt dkl dln dsz dit dmv) s.heap.size = A at hD ⊢
  have hA : ∀ q : Nat, s.heap.size ≤ q → A q := fun q h => by rw [← hAe]; exact Or.inr h
  have hS : va_S A s.heap s.heap [] := va_S.rf
  have hP : va_P D vwCl (w_model ky aM mxs mus mys mgp mtp mme mle mlt mkl mln msz mit mmv mrm mer mtd mat mwr mkn mmb mwa mra mbl mbh dxs dus dys dgp dtp dme dle dlt dkl dln dsz dit dmv) s.heap := hP
  have hl := lv_entry ([.ref aM, .int p0]) (n := 2) (Nat.le_of_ble_eq_true rfl)
  rw [lg_entry_eq]
  generalize (lg_sl ([.ref aM, .int p0]) ++ List.replicate (2 - (lg_sl ([.ref aM, .int p0])).length) Slot.unset).toArray = ls at hl ⊢
  have hl : lv_has ls 2 [(0, .ref aM), (1, .int p0)] := hl
  have C : cx p s m c ([.ref aM, .int p0]).toArray D ky A cX9_step 2 wsX9_step RX9 := ⟨hx, hb, hml, hown, hts, hK, hA⟩
  have hQ : ∀ (pc : Nat) (H : Heap) (locs : List Loc) (ls : Array Slot), decode cX9_step pc = .ok (.ireturn, 1) → va_P D vwCl (w_model ky aM mxs mus mys mgp mtp mme mle mlt mkl mln msz mit mmv mrm mer mtd mat mwr mkn mmb mwa mra res.2.1 res.2.2 dxs dus dys dgp dtp dme dle dlt dkl dln dsz dit dmv) H → va_D A (w_model ky aM mxs mus mys mgp mtp mme mle mlt mkl mln msz mit mmv mrm mer mtd mat mwr mkn mmb mwa mra res.2.1 res.2.2 dxs dus dys dgp dtp dme dle dlt dkl dln dsz dit dmv) → va_S A s.heap H locs → W p l e rm_X9_step s m ([.ref aM, .int p0]).toArray below meth c H locs 0 0 (MQ below (va_Qi (S := Unit) (fun r _ => r = res.1) (fun _ t => va_P D vwCl (w_model ky aM mxs mus mys mgp mtp mme mle mlt mkl mln msz mit mmv mrm mer mtd mat mwr mkn mmb mwa mra res.2.1 res.2.2 dxs dus dys dgp dtp dme dle dlt dkl dln dsz dit dmv) t.heap ∧ va_K D vwCl (tyW ky) t ∧ va_D A (w_model ky aM mxs mus mys mgp mtp mme mle mlt mkl mln msz mit mmv mrm mer mtd mat mwr mkn mmb mwa mra res.2.1 res.2.2 dxs dus dys dgp dtp dme dle dlt dkl dln dsz dit dmv)) A) ([.ref aM, .int p0]).toArray s 0 0 A) (F0 m pc ls [.int res.1]) := fun pc H locs ls hd hP hD hS => W.iret hx hb hr (fun t ht hW => ⟨⟨res.1, (), rfl, rfl, by rw [ht]; exact hP, va_K.moved hW.alike hK, hD⟩, hS.F ht⟩) hS.2.2 hd
  unfold f_X9_step at hF
  refine lv_iload_n hx hb dX9_step_0 rfl (lv_at hl 1 rfl) ?_
  obtain ⟨r2, h1, hF⟩ := b1_s hF
  refine cl_si (As := [.int p0]) (rest := []) ⟨hx, hb, hml, hown, hts⟩ hK hP hD hS hA (c_X9_isSmall l D ky  _ N   p0 r2 h1) (va_cwS 1 hts gX9_step_X9_isSmall rfl rfl rfl (by decide +kernel) ⟨Nat.le_of_ble_eq_true rfl, Nat.le_of_ble_eq_true rfl⟩) rfl hl.1 (Nat.le_of_ble_eq_true rfl) dX9_step_1 ⟨Nat.zero_le _, Nat.zero_le _⟩ (fun H locs hP hD hS => ?_)
  refine lv_if_ne (tgt := 9) hx hb dX9_step_4 (by decide) (fun c3 => ?_) (fun c3 => ?_)
  · have hF := if_f c3 hF
    refine lv_aload_n hx hb dX9_step_9 rfl (lv_at hl 0 rfl) ?_
    refine va_get (D := D) (ci := 8) (v := .int mkn) (C := RX9) (T := TX9) (N := 24) hx hb hts iX9_step_X9 hown hK hP 0 rfl rfl 13 (by decide) (hts _ kX9_step_1) (fun _ h9 => h9) rfl dX9_step_10 ?_
    refine lv_if_ne (tgt := 19) hx hb dX9_step_13 (by decide) (fun c4 => ?_) (fun c4 => ?_)
    · have hF := if_f c4 hF
      refine lv_aload_n hx hb dX9_step_19 rfl (lv_at hl 0 rfl) ?_
      refine lv_iload_n hx hb dX9_step_20 rfl (lv_at hl 1 rfl) ?_
      obtain ⟨v6, v7, h5, hF⟩ := b2_s hF
      refine cl_vv (As := [.int p0]) (rest := []) (w' := (w_model ky aM mxs mus mys mgp mtp mme mle mlt mkl mln msz mit mmv mrm mer mtd mat mwr mkn mmb mwa mra v6 v7 dxs dus dys dgp dtp dme dle dlt dkl dln dsz dit dmv)) ⟨hx, hb, hml, hown, hts⟩ hK hP hD hS hA (c_X9_steps l D ky aM mxs mus mys mgp mtp mme mle mlt mkl mln msz mit mmv _ N  mrm mer mtd mat mwr mkn mmb mwa mra mbl mbh dxs dus dys dgp dtp dme dle dlt dkl dln dsz dit dmv p0 v6 v7 h5) (cwV 1 hts gX9_step_X9_steps rfl rfl rfl (by decide +kernel) ⟨Nat.le_of_ble_eq_true rfl, Nat.le_of_ble_eq_true rfl⟩) [0, 1, 2, 3, 4, 5, 6, 7, 8, 9, 10, 11, 12, 13] [] [0, 1, 2, 3, 4, 5, 6, 7, 8, 9, 10, 11, 12, 13] 0 8 rfl rfl rfl rfl (wr := []) rfl (by decide) rfl rfl hl.1 (Nat.le_of_ble_eq_true rfl) dX9_step_21 ⟨Nat.zero_le _, Nat.zero_le _⟩ (fun H locs hP hD hS => ?_)
      refine lv_iconst (v := (1 : Int32)) hx hb dX9_step_24 (by decide) ?_
      have hF := Option.some.inj hF
      subst hF
      exact hQ _ _ _ _ dX9_step_25 hP hD hS
    · have hF := if_t c4 hF
      refine lv_bipush (v := (-4 : Int32)) hx hb dX9_step_16 (by decide) ?_
      have hF := Option.some.inj hF
      subst hF
      exact hQ _ _ _ _ dX9_step_18 hP hD hS
  · have hF := if_t c3 hF
    refine lv_iconst (v := (-1 : Int32)) hx hb dX9_step_7 (by decide) ?_
    have hF := Option.some.inj hF
    subst hF
    exact hQ _ _ _ _ dX9_step_8 hP hD hS
theorem c_X9_step (l : Launch) (D : va_G) (ky : Nat → ClassId) (aM mxs mus mys mgp mtp mme mle mlt mkl mln msz mit mmv : Nat) (sz N : Nat)  (mrm : Int32) (mer : Int32) (mtd : Int32) (mat : Int32) (mwr : Int32) (mkn : Int32) (mmb : Int32) (mwa : Int32) (mra : Int32) (mbl : Int32) (mbh : Int32) (dxs : Nat → Int32) (dus : Nat → Int32) (dys : Nat → Int32) (dgp : Nat → Int32) (dtp : Nat → Int32) (dme : Nat → Int32) (dle : Nat → Int32) (dlt : Nat → Int32) (dkl : Nat → Int32) (dln : Nat → Int32) (dsz : Nat → Int32) (dit : Nat → Int32) (dmv : Nat → Int32) (p0 : Int32) (rv : Int32) (mbl' : Int32) (mbh' : Int32) (hF : f_X9_step N p0 mer mkn mbl mbh dkl = some (rv, mbl', mbh')) : MI l yX9_step wsX9_step rm_X9_step D ky sz [.ref aM, .int p0] (w_model ky aM mxs mus mys mgp mtp mme mle mlt mkl mln msz mit mmv mrm mer mtd mat mwr mkn mmb mwa mra mbl mbh dxs dus dys dgp dtp dme dle dlt dkl dln dsz dit dmv) (w_model ky aM mxs mus mys mgp mtp mme mle mlt mkl mln msz mit mmv mrm mer mtd mat mwr mkn mmb mwa mra mbl' mbh' dxs dus dys dgp dtp dme dle dlt dkl dln dsz dit dmv) rv :=
  cr_X9_step l D ky aM mxs mus mys mgp mtp mme mle mlt mkl mln msz mit mmv sz N mrm mer mtd mat mwr mkn mmb mwa mra mbl mbh dxs dus dys dgp dtp dme dle dlt dkl dln dsz dit dmv p0 (rv, mbl', mbh') hF
abbrev rm_X9_holds : Room := { frames := 0, cells := 0, slots := 0, locals := 0 }
theorem kX9_holds_0 : (Cond.constant RX9 129 (-1000001)) ∈ wsX9_holds := by decide +kernel
theorem iX9_holds_X9 : ∀ w ∈ wsX90, w ∈ wsX9_holds := by decide +kernel
theorem kX9_holds_2 : (Cond.fieldLink RX9 214 "TwoLawsModel" "boxHigh" "I") ∈ wsX9_holds := by decide +kernel
theorem kX9_holds_3 : (Cond.fieldLink RX9 211 "TwoLawsModel" "boxLow" "I") ∈ wsX9_holds := by decide +kernel
set_option maxHeartbeats 4000000 in
set_option maxRecDepth 100000 in
theorem cr_X9_holds (l : Launch) (D : va_G) (ky : Nat → ClassId) (aM mxs mus mys mgp mtp mme mle mlt mkl mln msz mit mmv : Nat) (sz N : Nat)  (mrm : Int32) (mer : Int32) (mtd : Int32) (mat : Int32) (mwr : Int32) (mkn : Int32) (mmb : Int32) (mwa : Int32) (mra : Int32) (mbl : Int32) (mbh : Int32) (dxs : Nat → Int32) (dus : Nat → Int32) (dys : Nat → Int32) (dgp : Nat → Int32) (dtp : Nat → Int32) (dme : Nat → Int32) (dle : Nat → Int32) (dlt : Nat → Int32) (dkl : Nat → Int32) (dln : Nat → Int32) (dsz : Nat → Int32) (dit : Nat → Int32) (dmv : Nat → Int32) (p0 : Int32) (res : Int32) (hF : f_X9_holds N p0 mbl mbh = some res) : MI l yX9_holds wsX9_holds rm_X9_holds D ky sz [.ref aM, .int p0] (w_model ky aM mxs mus mys mgp mtp mme mle mlt mkl mln msz mit mmv mrm mer mtd mat mwr mkn mmb mwa mra mbl mbh dxs dus dys dgp dtp dme dle dlt dkl dln dsz dit dmv) (w_model ky aM mxs mus mys mgp mtp mme mle mlt mkl mln msz mit mmv mrm mer mtd mat mwr mkn mmb mwa mra mbl mbh dxs dus dys dgp dtp dme dle dlt dkl dln dsz dit dmv) res := by
  unfold MI
  refine Met.ofW (cc := cX9_holds) (maxL := 2) (ret := (some .int)) (by decide) rfl ?_
  intro p e s m args below meth c s₁ B hml hv
  obtain ⟨rfl, hsz, hP, hK, hD0⟩ := hv
  have hx := B.exec
  have hb := B.bytes
  have hr := B.returns
  have hts := atoms_spec (ws := wsX9_holds) B.pre
  have hown : s.vm.findClass RX9 = some m.cls := findClass_of_methodNamed B.named
  have hlocks := B.notSynchronized
  subst hsz
  have hD := hD0.self (sz := s.heap.size)
  generalize hAe : va_A (w_model ky aM mxs mus mys mgp mtp mme mle mlt mkl mln msz mit mmv mrm mer mtd mat mwr mkn mmb mwa mra mbl mbh dxs dus dys dgp dtp dme dle dlt dkl dln dsz dit dmv) s.heap.size = A at hD ⊢
  have hA : ∀ q : Nat, s.heap.size ≤ q → A q := fun q h => by rw [← hAe]; exact Or.inr h
  have hS : va_S A s.heap s.heap [] := va_S.rf
  have hP : va_P D vwCl (w_model ky aM mxs mus mys mgp mtp mme mle mlt mkl mln msz mit mmv mrm mer mtd mat mwr mkn mmb mwa mra mbl mbh dxs dus dys dgp dtp dme dle dlt dkl dln dsz dit dmv) s.heap := hP
  have hl := lv_entry ([.ref aM, .int p0]) (n := 2) (Nat.le_of_ble_eq_true rfl)
  rw [lg_entry_eq]
  generalize (lg_sl ([.ref aM, .int p0]) ++ List.replicate (2 - (lg_sl ([.ref aM, .int p0])).length) Slot.unset).toArray = ls at hl ⊢
  have hl : lv_has ls 2 [(0, .ref aM), (1, .int p0)] := hl
  have C : cx p s m c ([.ref aM, .int p0]).toArray D ky A cX9_holds 2 wsX9_holds RX9 := ⟨hx, hb, hml, hown, hts, hK, hA⟩
  have hQ : ∀ (pc : Nat) (H : Heap) (locs : List Loc) (ls : Array Slot), decode cX9_holds pc = .ok (.ireturn, 1) → va_P D vwCl (w_model ky aM mxs mus mys mgp mtp mme mle mlt mkl mln msz mit mmv mrm mer mtd mat mwr mkn mmb mwa mra mbl mbh dxs dus dys dgp dtp dme dle dlt dkl dln dsz dit dmv) H → va_D A (w_model ky aM mxs mus mys mgp mtp mme mle mlt mkl mln msz mit mmv mrm mer mtd mat mwr mkn mmb mwa mra mbl mbh dxs dus dys dgp dtp dme dle dlt dkl dln dsz dit dmv) → va_S A s.heap H locs → W p l e rm_X9_holds s m ([.ref aM, .int p0]).toArray below meth c H locs 0 0 (MQ below (va_Qi (S := Unit) (fun r _ => r = res) (fun _ t => va_P D vwCl (w_model ky aM mxs mus mys mgp mtp mme mle mlt mkl mln msz mit mmv mrm mer mtd mat mwr mkn mmb mwa mra mbl mbh dxs dus dys dgp dtp dme dle dlt dkl dln dsz dit dmv) t.heap ∧ va_K D vwCl (tyW ky) t ∧ va_D A (w_model ky aM mxs mus mys mgp mtp mme mle mlt mkl mln msz mit mmv mrm mer mtd mat mwr mkn mmb mwa mra mbl mbh dxs dus dys dgp dtp dme dle dlt dkl dln dsz dit dmv)) A) ([.ref aM, .int p0]).toArray s 0 0 A) (F0 m pc ls [.int res]) := fun pc H locs ls hd hP hD hS => W.iret hx hb hr (fun t ht hW => ⟨⟨res, (), rfl, rfl, by rw [ht]; exact hP, va_K.moved hW.alike hK, hD⟩, hS.F ht⟩) hS.2.2 hd
  unfold f_X9_holds at hF
  refine lv_iload_n hx hb dX9_holds_0 rfl (lv_at hl 1 rfl) ?_
  refine lv_if_ne (tgt := 11) hx hb dX9_holds_1 (by decide) (fun c1 => ?_) (fun c1 => ?_)
  · have hF := if_f c1 hF
    refine lv_iload_n hx hb dX9_holds_11 rfl (lv_at hl 1 rfl) ?_
    refine lv_iconst (v := (1 : Int32)) hx hb dX9_holds_12 (by decide) ?_
    refine lv_icmp_ne (tgt := 23) hx hb dX9_holds_13 (by decide) (fun c2 => ?_) (fun c2 => ?_)
    · have hF := if_f c2 hF
      refine lv_ldc hx hb hown (hts _ kX9_holds_0) dX9_holds_23 ?_
      have hF := Option.some.inj hF
      subst hF
      exact hQ _ _ _ _ dX9_holds_25 hP hD hS
    · have hF := if_t c2 hF
      refine lv_aload_n hx hb dX9_holds_16 rfl (lv_at hl 0 rfl) ?_
      refine va_get (D := D) (ci := 8) (v := .int mbh) (C := RX9) (T := TX9) (N := 24) hx hb hts iX9_holds_X9 hown hK hP 0 rfl rfl 19 (by decide) (hts _ kX9_holds_2) (fun _ h9 => h9) rfl dX9_holds_17 ?_
      refine lv_goto (tgt := 25) hx hb dX9_holds_20 (by decide) ?_
      have hF := Option.some.inj hF
      subst hF
      exact hQ _ _ _ _ dX9_holds_25 hP hD hS
  · have hF := if_t c1 hF
    refine lv_aload_n hx hb dX9_holds_4 rfl (lv_at hl 0 rfl) ?_
    refine va_get (D := D) (ci := 8) (v := .int mbl) (C := RX9) (T := TX9) (N := 24) hx hb hts iX9_holds_X9 hown hK hP 0 rfl rfl 18 (by decide) (hts _ kX9_holds_3) (fun _ h9 => h9) rfl dX9_holds_5 ?_
    refine lv_goto (tgt := 25) hx hb dX9_holds_8 (by decide) ?_
    have hF := Option.some.inj hF
    subst hF
    exact hQ _ _ _ _ dX9_holds_25 hP hD hS
theorem c_X9_holds (l : Launch) (D : va_G) (ky : Nat → ClassId) (aM mxs mus mys mgp mtp mme mle mlt mkl mln msz mit mmv : Nat) (sz N : Nat)  (mrm : Int32) (mer : Int32) (mtd : Int32) (mat : Int32) (mwr : Int32) (mkn : Int32) (mmb : Int32) (mwa : Int32) (mra : Int32) (mbl : Int32) (mbh : Int32) (dxs : Nat → Int32) (dus : Nat → Int32) (dys : Nat → Int32) (dgp : Nat → Int32) (dtp : Nat → Int32) (dme : Nat → Int32) (dle : Nat → Int32) (dlt : Nat → Int32) (dkl : Nat → Int32) (dln : Nat → Int32) (dsz : Nat → Int32) (dit : Nat → Int32) (dmv : Nat → Int32) (p0 : Int32) (rv : Int32) (hF : f_X9_holds N p0 mbl mbh = some (rv)) : MI l yX9_holds wsX9_holds rm_X9_holds D ky sz [.ref aM, .int p0] (w_model ky aM mxs mus mys mgp mtp mme mle mlt mkl mln msz mit mmv mrm mer mtd mat mwr mkn mmb mwa mra mbl mbh dxs dus dys dgp dtp dme dle dlt dkl dln dsz dit dmv) (w_model ky aM mxs mus mys mgp mtp mme mle mlt mkl mln msz mit mmv mrm mer mtd mat mwr mkn mmb mwa mra mbl mbh dxs dus dys dgp dtp dme dle dlt dkl dln dsz dit dmv) rv :=
  cr_X9_holds l D ky aM mxs mus mys mgp mtp mme mle mlt mkl mln msz mit mmv sz N mrm mer mtd mat mwr mkn mmb mwa mra mbl mbh dxs dus dys dgp dtp dme dle dlt dkl dln dsz dit dmv p0 (rv) hF
abbrev rm_X9_brake : Room := { frames := 3, cells := 0, slots := 0, locals := 69 }
theorem kX9_brake_0 : (Cond.constantLong RX9 224 (40)) ∈ wsX9_brake := by decide +kernel
theorem iX9_brake_X9 : ∀ w ∈ wsX90, w ∈ wsX9_brake := by decide +kernel
theorem kX9_brake_2 : (Cond.fieldLink RX9 156 "TwoLawsModel" "known" "I") ∈ wsX9_brake := by decide +kernel
theorem kX9_brake_3 : (Cond.fieldLink RX9 211 "TwoLawsModel" "boxLow" "I") ∈ wsX9_brake := by decide +kernel
theorem kX9_brake_4 : (Cond.fieldLink RX9 214 "TwoLawsModel" "boxHigh" "I") ∈ wsX9_brake := by decide +kernel
set_option maxHeartbeats 4000000 in
set_option maxRecDepth 100000 in
theorem w_X9_brake_71 {p : Program} {l : Launch} {e : Env} {s : State} {m : MethodId} {args : Array Value} {below : List Frame} {meth : Method} {c : Code} {Q : State → Prop} {A : Nat → Prop} {D : va_G} {ky : Nat → ClassId} {aM mxs mus mys mgp mtp mme mle mlt mkl mln msz mit mmv : Nat} {mrm : Int32} {mer : Int32} {mtd : Int32} {mat : Int32} {mwr : Int32} {mkn : Int32} {mmb : Int32} {mwa : Int32} {mra : Int32} {dxs : Nat → Int32} {dus : Nat → Int32} {dys : Nat → Int32} {dgp : Nat → Int32} {dtp : Nat → Int32} {dme : Nat → Int32} {dle : Nat → Int32} {dlt : Nat → Int32} {dkl : Nat → Int32} {dln : Nat → Int32} {dsz : Nat → Int32} {dit : Nat → Int32} {dmv : Nat → Int32} (N : Nat) (C : cx p s m c args D ky A cX9_brake 9 wsX9_brake RX9) (res : Int32 × Int32 × Int32) (hQ : ∀ (pc : Nat) (H : Heap) (locs : List Loc) (ls : Array Slot), decode cX9_brake pc = .ok (.ireturn, 1) → va_P D vwCl (w_model ky aM mxs mus mys mgp mtp mme mle mlt mkl mln msz mit mmv mrm mer mtd mat mwr mkn mmb mwa mra res.2.1 res.2.2 dxs dus dys dgp dtp dme dle dlt dkl dln dsz dit dmv) H → va_D A (w_model ky aM mxs mus mys mgp mtp mme mle mlt mkl mln msz mit mmv mrm mer mtd mat mwr mkn mmb mwa mra res.2.1 res.2.2 dxs dus dys dgp dtp dme dle dlt dkl dln dsz dit dmv) → va_S A s.heap H locs → W p l e rm_X9_brake s m args below meth c H locs 0 0 Q (F0 m pc ls [.int res.1])) (l1 : Int32) (l2 : Int32) (l3 : Int32) (l4 : Int32) (l5 : Int32) (l6 : Int32) : ∀ (n : Nat) (l7 : Int32) (l8 : Int32) (mbl : Int32) (mbh : Int32), f_X9_brake_71 N l1 l2 l3 l4 l5 l6 mer mkn dkl n l7 l8 mbl mbh = some res → ∀ (H : Heap) (locs : List Loc) (ls : Array Slot), va_P D vwCl (w_model ky aM mxs mus mys mgp mtp mme mle mlt mkl mln msz mit mmv mrm mer mtd mat mwr mkn mmb mwa mra mbl mbh dxs dus dys dgp dtp dme dle dlt dkl dln dsz dit dmv) H → va_D A (w_model ky aM mxs mus mys mgp mtp mme mle mlt mkl mln msz mit mmv mrm mer mtd mat mwr mkn mmb mwa mra mbl mbh dxs dus dys dgp dtp dme dle dlt dkl dln dsz dit dmv) → va_S A s.heap H locs → lv_has ls 9 [(0, .ref aM), (1, .int l1), (2, .int l2), (3, .int l3), (4, .int l4), (5, .int l5), (6, .int l6), (7, .int l7), (8, .int l8)] → W p l e rm_X9_brake s m args below meth c H locs 0 0 Q (F0 m 71 ls []) := by
  obtain ⟨hx, hb, hml, hown, hts, hK, hA⟩ := id C
  intro n
  induction n with
  | zero =>
    intro l7 l8 mbl mbh hF
    cases hF
  | succ n ih =>
    intro l7 l8 mbl mbh hF H locs ls hP hD hS hl
    have hF : b_X9_brake_71 N l1 l2 l3 l4 l5 l6 mer mkn dkl (f_X9_brake_71 N l1 l2 l3 l4 l5 l6 mer mkn dkl n) l7 l8 mbl mbh = some res := hF
    unfold b_X9_brake_71 at hF
    refine lv_iload hx hb dX9_brake_71 (lv_at hl 8 rfl) ?_
    refine lv_iload_n hx hb dX9_brake_73 rfl (lv_at hl 2 rfl) ?_
    refine lv_icmp_gt (tgt := 119) hx hb dX9_brake_74 (by decide) (fun c15 => ?_) (fun c15 => ?_)
    · have hF := if_t c15 hF
      refine lv_aload_n hx hb dX9_brake_119 rfl (lv_at hl 0 rfl) ?_
      refine lv_iload hx hb dX9_brake_120 (lv_at hl 5 rfl) ?_
      refine va_put (D := D) (ci := 8) (v := .int l5) (ty := .int) (C := RX9) (T := TX9) (N := 24) hx hb hts iX9_brake_X9 tyX9 tyX9_ok nmX9 hown hK hP hD hS 0 rfl rfl 18 (by decide) (hts _ kX9_brake_3) (fun _ h9 => h9) rfl (by decide +kernel) rfl rfl (Nat.le_of_ble_eq_true rfl) dX9_brake_122 (fun H locs hP hD hS => ?_)
      have hP : va_P D vwCl (w_model ky aM mxs mus mys mgp mtp mme mle mlt mkl mln msz mit mmv mrm mer mtd mat mwr mkn mmb mwa mra l5 mbh dxs dus dys dgp dtp dme dle dlt dkl dln dsz dit dmv) H := hP
      have hD : va_D A (w_model ky aM mxs mus mys mgp mtp mme mle mlt mkl mln msz mit mmv mrm mer mtd mat mwr mkn mmb mwa mra l5 mbh dxs dus dys dgp dtp dme dle dlt dkl dln dsz dit dmv) := hD
      refine lv_aload_n hx hb dX9_brake_125 rfl (lv_at hl 0 rfl) ?_
      refine lv_iload hx hb dX9_brake_126 (lv_at hl 6 rfl) ?_
      refine va_put (D := D) (ci := 8) (v := .int l6) (ty := .int) (C := RX9) (T := TX9) (N := 24) hx hb hts iX9_brake_X9 tyX9 tyX9_ok nmX9 hown hK hP hD hS 0 rfl rfl 19 (by decide) (hts _ kX9_brake_4) (fun _ h9 => h9) rfl (by decide +kernel) rfl rfl (Nat.le_of_ble_eq_true rfl) dX9_brake_128 (fun H locs hP hD hS => ?_)
      have hP : va_P D vwCl (w_model ky aM mxs mus mys mgp mtp mme mle mlt mkl mln msz mit mmv mrm mer mtd mat mwr mkn mmb mwa mra l5 l6 dxs dus dys dgp dtp dme dle dlt dkl dln dsz dit dmv) H := hP
      have hD : va_D A (w_model ky aM mxs mus mys mgp mtp mme mle mlt mkl mln msz mit mmv mrm mer mtd mat mwr mkn mmb mwa mra l5 l6 dxs dus dys dgp dtp dme dle dlt dkl dln dsz dit dmv) := hD
      refine lv_iload hx hb dX9_brake_131 (lv_at hl 7 rfl) ?_
      have hF := Option.some.inj hF
      subst hF
      exact hQ _ H _ _ dX9_brake_133 hP hD hS
    · have hF := if_f c15 hF
      refine lv_iload hx hb dX9_brake_77 (lv_at hl 7 rfl) ?_
      refine lv_if_ge (tgt := 119) hx hb dX9_brake_79 (by decide) (fun c16 => ?_) (fun c16 => ?_)
      · have hF := if_t c16 hF
        refine lv_aload_n hx hb dX9_brake_119 rfl (lv_at hl 0 rfl) ?_
        refine lv_iload hx hb dX9_brake_120 (lv_at hl 5 rfl) ?_
        refine va_put (D := D) (ci := 8) (v := .int l5) (ty := .int) (C := RX9) (T := TX9) (N := 24) hx hb hts iX9_brake_X9 tyX9 tyX9_ok nmX9 hown hK hP hD hS 0 rfl rfl 18 (by decide) (hts _ kX9_brake_3) (fun _ h9 => h9) rfl (by decide +kernel) rfl rfl (Nat.le_of_ble_eq_true rfl) dX9_brake_122 (fun H locs hP hD hS => ?_)
        have hP : va_P D vwCl (w_model ky aM mxs mus mys mgp mtp mme mle mlt mkl mln msz mit mmv mrm mer mtd mat mwr mkn mmb mwa mra l5 mbh dxs dus dys dgp dtp dme dle dlt dkl dln dsz dit dmv) H := hP
        have hD : va_D A (w_model ky aM mxs mus mys mgp mtp mme mle mlt mkl mln msz mit mmv mrm mer mtd mat mwr mkn mmb mwa mra l5 mbh dxs dus dys dgp dtp dme dle dlt dkl dln dsz dit dmv) := hD
        refine lv_aload_n hx hb dX9_brake_125 rfl (lv_at hl 0 rfl) ?_
        refine lv_iload hx hb dX9_brake_126 (lv_at hl 6 rfl) ?_
        refine va_put (D := D) (ci := 8) (v := .int l6) (ty := .int) (C := RX9) (T := TX9) (N := 24) hx hb hts iX9_brake_X9 tyX9 tyX9_ok nmX9 hown hK hP hD hS 0 rfl rfl 19 (by decide) (hts _ kX9_brake_4) (fun _ h9 => h9) rfl (by decide +kernel) rfl rfl (Nat.le_of_ble_eq_true rfl) dX9_brake_128 (fun H locs hP hD hS => ?_)
        have hP : va_P D vwCl (w_model ky aM mxs mus mys mgp mtp mme mle mlt mkl mln msz mit mmv mrm mer mtd mat mwr mkn mmb mwa mra l5 l6 dxs dus dys dgp dtp dme dle dlt dkl dln dsz dit dmv) H := hP
        have hD : va_D A (w_model ky aM mxs mus mys mgp mtp mme mle mlt mkl mln msz mit mmv mrm mer mtd mat mwr mkn mmb mwa mra l5 l6 dxs dus dys dgp dtp dme dle dlt dkl dln dsz dit dmv) := hD
        refine lv_iload hx hb dX9_brake_131 (lv_at hl 7 rfl) ?_
        have hF := Option.some.inj hF
        subst hF
        exact hQ _ H _ _ dX9_brake_133 hP hD hS
      · have hF := if_f c16 hF
        refine lv_aload_n hx hb dX9_brake_82 rfl (lv_at hl 0 rfl) ?_
        refine lv_iload_n hx hb dX9_brake_83 rfl (lv_at hl 1 rfl) ?_
        obtain ⟨v18, v19, h17, hF⟩ := b2_s hF
        refine cl_vv (As := [.int l1]) (rest := []) (w' := (w_model ky aM mxs mus mys mgp mtp mme mle mlt mkl mln msz mit mmv mrm mer mtd mat mwr mkn mmb mwa mra v18 v19 dxs dus dys dgp dtp dme dle dlt dkl dln dsz dit dmv)) ⟨hx, hb, hml, hown, hts⟩ hK hP hD hS hA (c_X9_steps l D ky aM mxs mus mys mgp mtp mme mle mlt mkl mln msz mit mmv _ N  mrm mer mtd mat mwr mkn mmb mwa mra mbl mbh dxs dus dys dgp dtp dme dle dlt dkl dln dsz dit dmv l1 v18 v19 h17) (cwV 1 hts gX9_brake_X9_steps rfl rfl rfl (by decide +kernel) ⟨Nat.le_of_ble_eq_true rfl, Nat.le_of_ble_eq_true rfl⟩) [0, 1, 2, 3, 4, 5, 6, 7, 8, 9, 10, 11, 12, 13] [] [0, 1, 2, 3, 4, 5, 6, 7, 8, 9, 10, 11, 12, 13] 0 8 rfl rfl rfl rfl (wr := []) rfl (by decide) rfl rfl hl.1 (Nat.le_of_ble_eq_true rfl) dX9_brake_84 ⟨Nat.zero_le _, Nat.zero_le _⟩ (fun H locs hP hD hS => ?_)
        refine lv_aload_n hx hb dX9_brake_87 rfl (lv_at hl 0 rfl) ?_
        refine va_get (D := D) (ci := 8) (v := .int v18) (C := RX9) (T := TX9) (N := 24) hx hb hts iX9_brake_X9 hown hK hP 0 rfl rfl 18 (by decide) (hts _ kX9_brake_3) (fun _ h9 => h9) rfl dX9_brake_88 ?_
        refine lv_iload_n hx hb dX9_brake_91 rfl (lv_at hl 3 rfl) ?_
        refine lv_icmp_lt (tgt := 104) hx hb dX9_brake_92 (by decide) (fun c20 => ?_) (fun c20 => ?_)
        · have hF := if_t c20 hF
          refine lv_iload hx hb dX9_brake_104 (lv_at hl 8 rfl) ?_
          refine lv_goto (tgt := 111) hx hb dX9_brake_106 (by decide) ?_
          refine lv_istore (lv' := [(7, .int l8), (0, .ref aM), (1, .int l1), (2, .int l2), (3, .int l3), (4, .int l4), (5, .int l5), (6, .int l6), (8, .int l8)]) hx hb dX9_brake_111 hl (by decide) rfl (fun ls hl => ?_)
          refine lv_iinc (v := (l8 + (1 : Int32))) (lv' := [(8, .int (l8 + (1 : Int32))), (7, .int l8), (0, .ref aM), (1, .int l1), (2, .int l2), (3, .int l3), (4, .int l4), (5, .int l5), (6, .int l6)]) hx hb dX9_brake_113 hl (k := 8) rfl rfl (by decide) rfl (fun ls hl => ?_)
          refine lv_goto (tgt := 71) hx hb dX9_brake_116 (by decide) ?_
          exact ih l8 (l8 + (1 : Int32)) v18 v19 hF H _ _ hP hD hS (lv_sub hl [2, 3, 4, 5, 6, 7, 8, 1, 0] rfl)
        · have hF := if_f c20 hF
          refine lv_aload_n hx hb dX9_brake_95 rfl (lv_at hl 0 rfl) ?_
          refine va_get (D := D) (ci := 8) (v := .int v19) (C := RX9) (T := TX9) (N := 24) hx hb hts iX9_brake_X9 hown hK hP 0 rfl rfl 19 (by decide) (hts _ kX9_brake_4) (fun _ h9 => h9) rfl dX9_brake_96 ?_
          refine lv_iload hx hb dX9_brake_99 (lv_at hl 4 rfl) ?_
          refine lv_icmp_le (tgt := 109) hx hb dX9_brake_101 (by decide) (fun c21 => ?_) (fun c21 => ?_)
          · have hF := if_t c21 hF
            refine lv_bipush (v := (-4 : Int32)) hx hb dX9_brake_109 (by decide) ?_
            refine lv_istore (lv' := [(7, .int (-4 : Int32)), (0, .ref aM), (1, .int l1), (2, .int l2), (3, .int l3), (4, .int l4), (5, .int l5), (6, .int l6), (8, .int l8)]) hx hb dX9_brake_111 hl (by decide) rfl (fun ls hl => ?_)
            refine lv_iinc (v := (l8 + (1 : Int32))) (lv' := [(8, .int (l8 + (1 : Int32))), (7, .int (-4 : Int32)), (0, .ref aM), (1, .int l1), (2, .int l2), (3, .int l3), (4, .int l4), (5, .int l5), (6, .int l6)]) hx hb dX9_brake_113 hl (k := 8) rfl rfl (by decide) rfl (fun ls hl => ?_)
            refine lv_goto (tgt := 71) hx hb dX9_brake_116 (by decide) ?_
            exact ih (-4 : Int32) (l8 + (1 : Int32)) v18 v19 hF H _ _ hP hD hS (lv_sub hl [2, 3, 4, 5, 6, 7, 8, 1, 0] rfl)
          · have hF := if_f c21 hF
            refine lv_iload hx hb dX9_brake_104 (lv_at hl 8 rfl) ?_
            refine lv_goto (tgt := 111) hx hb dX9_brake_106 (by decide) ?_
            refine lv_istore (lv' := [(7, .int l8), (0, .ref aM), (1, .int l1), (2, .int l2), (3, .int l3), (4, .int l4), (5, .int l5), (6, .int l6), (8, .int l8)]) hx hb dX9_brake_111 hl (by decide) rfl (fun ls hl => ?_)
            refine lv_iinc (v := (l8 + (1 : Int32))) (lv' := [(8, .int (l8 + (1 : Int32))), (7, .int l8), (0, .ref aM), (1, .int l1), (2, .int l2), (3, .int l3), (4, .int l4), (5, .int l5), (6, .int l6)]) hx hb dX9_brake_113 hl (k := 8) rfl rfl (by decide) rfl (fun ls hl => ?_)
            refine lv_goto (tgt := 71) hx hb dX9_brake_116 (by decide) ?_
            exact ih l8 (l8 + (1 : Int32)) v18 v19 hF H _ _ hP hD hS (lv_sub hl [2, 3, 4, 5, 6, 7, 8, 1, 0] rfl)
set_option maxHeartbeats 4000000 in
set_option maxRecDepth 100000 in
theorem cr_X9_brake (l : Launch) (D : va_G) (ky : Nat → ClassId) (aM mxs mus mys mgp mtp mme mle mlt mkl mln msz mit mmv : Nat) (sz N : Nat)  (mrm : Int32) (mer : Int32) (mtd : Int32) (mat : Int32) (mwr : Int32) (mkn : Int32) (mmb : Int32) (mwa : Int32) (mra : Int32) (mbl : Int32) (mbh : Int32) (dxs : Nat → Int32) (dus : Nat → Int32) (dys : Nat → Int32) (dgp : Nat → Int32) (dtp : Nat → Int32) (dme : Nat → Int32) (dle : Nat → Int32) (dlt : Nat → Int32) (dkl : Nat → Int32) (dln : Nat → Int32) (dsz : Nat → Int32) (dit : Nat → Int32) (dmv : Nat → Int32) (p0 : Int32) (p1 : Int32) (p2 : Int32) (p3 : Int32) (res : Int32 × Int32 × Int32) (hF : f_X9_brake N p0 p1 p2 p3 mer mkn mbl mbh dkl = some res) : MI l yX9_brake wsX9_brake rm_X9_brake D ky sz [.ref aM, .int p0, .int p1, .int p2, .int p3] (w_model ky aM mxs mus mys mgp mtp mme mle mlt mkl mln msz mit mmv mrm mer mtd mat mwr mkn mmb mwa mra mbl mbh dxs dus dys dgp dtp dme dle dlt dkl dln dsz dit dmv) (w_model ky aM mxs mus mys mgp mtp mme mle mlt mkl mln msz mit mmv mrm mer mtd mat mwr mkn mmb mwa mra res.2.1 res.2.2 dxs dus dys dgp dtp dme dle dlt dkl dln dsz dit dmv) res.1 := by
  unfold MI
  refine Met.ofW (cc := cX9_brake) (maxL := 9) (ret := (some .int)) (by decide) rfl ?_
  intro p e s m args below meth c s₁ B hml hv
  obtain ⟨rfl, hsz, hP, hK, hD0⟩ := hv
  have hx := B.exec
  have hb := B.bytes
  have hr := B.returns
  have hts := atoms_spec (ws := wsX9_brake) B.pre
  have hown : s.vm.findClass RX9 = some m.cls := findClass_of_methodNamed B.named
  have hlocks := B.notSynchronized
  subst hsz
  have hD := hD0.self (sz := s.heap.size)
  generalize hAe : va_A (w_model ky aM mxs mus mys mgp mtp mme mle mlt mkl mln msz mit mmv mrm mer mtd mat mwr mkn mmb mwa mra mbl mbh dxs dus dys dgp dtp dme dle dlt dkl dln dsz dit dmv) s.heap.size = A at hD ⊢
  have hA : ∀ q : Nat, s.heap.size ≤ q → A q := fun q h => by rw [← hAe]; exact Or.inr h
  have hS : va_S A s.heap s.heap [] := va_S.rf
  have hP : va_P D vwCl (w_model ky aM mxs mus mys mgp mtp mme mle mlt mkl mln msz mit mmv mrm mer mtd mat mwr mkn mmb mwa mra mbl mbh dxs dus dys dgp dtp dme dle dlt dkl dln dsz dit dmv) s.heap := hP
  have hl := lv_entry ([.ref aM, .int p0, .int p1, .int p2, .int p3]) (n := 9) (Nat.le_of_ble_eq_true rfl)
  rw [lg_entry_eq]
  generalize (lg_sl ([.ref aM, .int p0, .int p1, .int p2, .int p3]) ++ List.replicate (9 - (lg_sl ([.ref aM, .int p0, .int p1, .int p2, .int p3])).length) Slot.unset).toArray = ls at hl ⊢
  have hl : lv_has ls 9 [(0, .ref aM), (1, .int p0), (2, .int p1), (3, .int p2), (4, .int p3)] := hl
  have C : cx p s m c ([.ref aM, .int p0, .int p1, .int p2, .int p3]).toArray D ky A cX9_brake 9 wsX9_brake RX9 := ⟨hx, hb, hml, hown, hts, hK, hA⟩
  have hQ : ∀ (pc : Nat) (H : Heap) (locs : List Loc) (ls : Array Slot), decode cX9_brake pc = .ok (.ireturn, 1) → va_P D vwCl (w_model ky aM mxs mus mys mgp mtp mme mle mlt mkl mln msz mit mmv mrm mer mtd mat mwr mkn mmb mwa mra res.2.1 res.2.2 dxs dus dys dgp dtp dme dle dlt dkl dln dsz dit dmv) H → va_D A (w_model ky aM mxs mus mys mgp mtp mme mle mlt mkl mln msz mit mmv mrm mer mtd mat mwr mkn mmb mwa mra res.2.1 res.2.2 dxs dus dys dgp dtp dme dle dlt dkl dln dsz dit dmv) → va_S A s.heap H locs → W p l e rm_X9_brake s m ([.ref aM, .int p0, .int p1, .int p2, .int p3]).toArray below meth c H locs 0 0 (MQ below (va_Qi (S := Unit) (fun r _ => r = res.1) (fun _ t => va_P D vwCl (w_model ky aM mxs mus mys mgp mtp mme mle mlt mkl mln msz mit mmv mrm mer mtd mat mwr mkn mmb mwa mra res.2.1 res.2.2 dxs dus dys dgp dtp dme dle dlt dkl dln dsz dit dmv) t.heap ∧ va_K D vwCl (tyW ky) t ∧ va_D A (w_model ky aM mxs mus mys mgp mtp mme mle mlt mkl mln msz mit mmv mrm mer mtd mat mwr mkn mmb mwa mra res.2.1 res.2.2 dxs dus dys dgp dtp dme dle dlt dkl dln dsz dit dmv)) A) ([.ref aM, .int p0, .int p1, .int p2, .int p3]).toArray s 0 0 A) (F0 m pc ls [.int res.1]) := fun pc H locs ls hd hP hD hS => W.iret hx hb hr (fun t ht hW => ⟨⟨res.1, (), rfl, rfl, by rw [ht]; exact hP, va_K.moved hW.alike hK, hD⟩, hS.F ht⟩) hS.2.2 hd
  unfold f_X9_brake at hF
  refine lv_iload_n hx hb dX9_brake_0 rfl (lv_at hl 1 rfl) ?_
  obtain ⟨r2, h1, hF⟩ := b1_s hF
  refine cl_si (As := [.int p0]) (rest := []) ⟨hx, hb, hml, hown, hts⟩ hK hP hD hS hA (c_X9_isSmall l D ky  _ N   p0 r2 h1) (va_cwS 1 hts gX9_brake_X9_isSmall rfl rfl rfl (by decide +kernel) ⟨Nat.le_of_ble_eq_true rfl, Nat.le_of_ble_eq_true rfl⟩) rfl hl.1 (Nat.le_of_ble_eq_true rfl) dX9_brake_1 ⟨Nat.zero_le _, Nat.zero_le _⟩ (fun H locs hP hD hS => ?_)
  refine lv_if_eq (tgt := 40) hx hb dX9_brake_4 (by decide) (fun c3 => ?_) (fun c3 => ?_)
  · have hF := if_t c3 hF
    refine lv_iconst (v := (-1 : Int32)) hx hb dX9_brake_40 (by decide) ?_
    have hF := Option.some.inj hF
    subst hF
    exact hQ _ _ _ _ dX9_brake_41 hP hD hS
  · have hF := if_f c3 hF
    refine lv_iload_n hx hb dX9_brake_7 rfl (lv_at hl 2 rfl) ?_
    refine lv_i2l (v := (p1.toInt64)) hx hb dX9_brake_8 rfl ?_
    refine lv_lconst (v := (1 : Int64)) hx hb dX9_brake_9 (by decide) ?_
    refine lv_ldc2 hx hb hown (hts _ kX9_brake_0) dX9_brake_10 ?_
    obtain ⟨r5, h4, hF⟩ := b1_s hF
    refine cl_si (As := [.long (p1.toInt64), .long (1 : Int64), .long (40 : Int64)]) (rest := []) ⟨hx, hb, hml, hown, hts⟩ hK hP hD hS hA (c_X9_in l D ky  _ N   (p1.toInt64) (1 : Int64) (40 : Int64) r5 h4) (va_cwS 3 hts gX9_brake_X9_in rfl rfl rfl (by decide +kernel) ⟨Nat.le_of_ble_eq_true rfl, Nat.le_of_ble_eq_true rfl⟩) rfl hl.1 (Nat.le_of_ble_eq_true rfl) dX9_brake_13 ⟨Nat.zero_le _, Nat.zero_le _⟩ (fun H locs hP hD hS => ?_)
    refine lv_if_eq (tgt := 40) hx hb dX9_brake_16 (by decide) (fun c6 => ?_) (fun c6 => ?_)
    · have hF := if_t c6 hF
      refine lv_iconst (v := (-1 : Int32)) hx hb dX9_brake_40 (by decide) ?_
      have hF := Option.some.inj hF
      subst hF
      exact hQ _ _ _ _ dX9_brake_41 hP hD hS
    · have hF := if_f c6 hF
      refine lv_iload_n hx hb dX9_brake_19 rfl (lv_at hl 3 rfl) ?_
      obtain ⟨r8, h7, hF⟩ := b1_s hF
      refine cl_si (As := [.int p2]) (rest := []) ⟨hx, hb, hml, hown, hts⟩ hK hP hD hS hA (c_X9_isState l D ky  _ N   p2 r8 h7) (va_cwS 1 hts gX9_brake_X9_isState rfl rfl rfl (by decide +kernel) ⟨Nat.le_of_ble_eq_true rfl, Nat.le_of_ble_eq_true rfl⟩) rfl hl.1 (Nat.le_of_ble_eq_true rfl) dX9_brake_20 ⟨Nat.zero_le _, Nat.zero_le _⟩ (fun H locs hP hD hS => ?_)
      refine lv_if_eq (tgt := 40) hx hb dX9_brake_23 (by decide) (fun c9 => ?_) (fun c9 => ?_)
      · have hF := if_t c9 hF
        refine lv_iconst (v := (-1 : Int32)) hx hb dX9_brake_40 (by decide) ?_
        have hF := Option.some.inj hF
        subst hF
        exact hQ _ _ _ _ dX9_brake_41 hP hD hS
      · have hF := if_f c9 hF
        refine lv_iload hx hb dX9_brake_26 (lv_at hl 4 rfl) ?_
        obtain ⟨r11, h10, hF⟩ := b1_s hF
        refine cl_si (As := [.int p3]) (rest := []) ⟨hx, hb, hml, hown, hts⟩ hK hP hD hS hA (c_X9_isState l D ky  _ N   p3 r11 h10) (va_cwS 1 hts gX9_brake_X9_isState rfl rfl rfl (by decide +kernel) ⟨Nat.le_of_ble_eq_true rfl, Nat.le_of_ble_eq_true rfl⟩) rfl hl.1 (Nat.le_of_ble_eq_true rfl) dX9_brake_28 ⟨Nat.zero_le _, Nat.zero_le _⟩ (fun H locs hP hD hS => ?_)
        refine lv_if_eq (tgt := 40) hx hb dX9_brake_31 (by decide) (fun c12 => ?_) (fun c12 => ?_)
        · have hF := if_t c12 hF
          refine lv_iconst (v := (-1 : Int32)) hx hb dX9_brake_40 (by decide) ?_
          have hF := Option.some.inj hF
          subst hF
          exact hQ _ _ _ _ dX9_brake_41 hP hD hS
        · have hF := if_f c12 hF
          refine lv_iload_n hx hb dX9_brake_34 rfl (lv_at hl 3 rfl) ?_
          refine lv_iload hx hb dX9_brake_35 (lv_at hl 4 rfl) ?_
          refine lv_icmp_le (tgt := 42) hx hb dX9_brake_37 (by decide) (fun c13 => ?_) (fun c13 => ?_)
          · have hF := if_t c13 hF
            refine lv_aload_n hx hb dX9_brake_42 rfl (lv_at hl 0 rfl) ?_
            refine va_get (D := D) (ci := 8) (v := .int mkn) (C := RX9) (T := TX9) (N := 24) hx hb hts iX9_brake_X9 hown hK hP 0 rfl rfl 13 (by decide) (hts _ kX9_brake_2) (fun _ h9 => h9) rfl dX9_brake_43 ?_
            refine lv_if_ne (tgt := 52) hx hb dX9_brake_46 (by decide) (fun c14 => ?_) (fun c14 => ?_)
            · have hF := if_f c14 hF
              refine lv_aload_n hx hb dX9_brake_52 rfl (lv_at hl 0 rfl) ?_
              refine va_get (D := D) (ci := 8) (v := .int mbl) (C := RX9) (T := TX9) (N := 24) hx hb hts iX9_brake_X9 hown hK hP 0 rfl rfl 18 (by decide) (hts _ kX9_brake_3) (fun _ h9 => h9) rfl dX9_brake_53 ?_
              refine lv_istore (lv' := [(5, .int mbl), (0, .ref aM), (1, .int p0), (2, .int p1), (3, .int p2), (4, .int p3)]) hx hb dX9_brake_56 hl (by decide) rfl (fun ls hl => ?_)
              refine lv_aload_n hx hb dX9_brake_58 rfl (lv_at hl 1 rfl) ?_
              refine va_get (D := D) (ci := 8) (v := .int mbh) (C := RX9) (T := TX9) (N := 24) hx hb hts iX9_brake_X9 hown hK hP 0 rfl rfl 19 (by decide) (hts _ kX9_brake_4) (fun _ h9 => h9) rfl dX9_brake_59 ?_
              refine lv_istore (lv' := [(6, .int mbh), (5, .int mbl), (0, .ref aM), (1, .int p0), (2, .int p1), (3, .int p2), (4, .int p3)]) hx hb dX9_brake_62 hl (by decide) rfl (fun ls hl => ?_)
              refine lv_bipush (v := (-4 : Int32)) hx hb dX9_brake_64 (by decide) ?_
              refine lv_istore (lv' := [(7, .int (-4 : Int32)), (6, .int mbh), (5, .int mbl), (0, .ref aM), (1, .int p0), (2, .int p1), (3, .int p2), (4, .int p3)]) hx hb dX9_brake_66 hl (by decide) rfl (fun ls hl => ?_)
              refine lv_iconst (v := (1 : Int32)) hx hb dX9_brake_68 (by decide) ?_
              refine lv_istore (lv' := [(8, .int (1 : Int32)), (7, .int (-4 : Int32)), (6, .int mbh), (5, .int mbl), (0, .ref aM), (1, .int p0), (2, .int p1), (3, .int p2), (4, .int p3)]) hx hb dX9_brake_69 hl (by decide) rfl (fun ls hl => ?_)
              exact w_X9_brake_71 N C res hQ p0 p1 p2 p3 mbl mbh N (-4 : Int32) (1 : Int32) mbl mbh hF _ _ _ hP hD hS (lv_sub hl [4, 5, 6, 7, 8, 3, 2, 1, 0] rfl)
            · have hF := if_t c14 hF
              refine lv_bipush (v := (-2 : Int32)) hx hb dX9_brake_49 (by decide) ?_
              have hF := Option.some.inj hF
              subst hF
              exact hQ _ _ _ _ dX9_brake_51 hP hD hS
          · have hF := if_f c13 hF
            refine lv_iconst (v := (-1 : Int32)) hx hb dX9_brake_40 (by decide) ?_
            have hF := Option.some.inj hF
            subst hF
            exact hQ _ _ _ _ dX9_brake_41 hP hD hS
theorem c_X9_brake (l : Launch) (D : va_G) (ky : Nat → ClassId) (aM mxs mus mys mgp mtp mme mle mlt mkl mln msz mit mmv : Nat) (sz N : Nat)  (mrm : Int32) (mer : Int32) (mtd : Int32) (mat : Int32) (mwr : Int32) (mkn : Int32) (mmb : Int32) (mwa : Int32) (mra : Int32) (mbl : Int32) (mbh : Int32) (dxs : Nat → Int32) (dus : Nat → Int32) (dys : Nat → Int32) (dgp : Nat → Int32) (dtp : Nat → Int32) (dme : Nat → Int32) (dle : Nat → Int32) (dlt : Nat → Int32) (dkl : Nat → Int32) (dln : Nat → Int32) (dsz : Nat → Int32) (dit : Nat → Int32) (dmv : Nat → Int32) (p0 : Int32) (p1 : Int32) (p2 : Int32) (p3 : Int32) (rv : Int32) (mbl' : Int32) (mbh' : Int32) (hF : f_X9_brake N p0 p1 p2 p3 mer mkn mbl mbh dkl = some (rv, mbl', mbh')) : MI l yX9_brake wsX9_brake rm_X9_brake D ky sz [.ref aM, .int p0, .int p1, .int p2, .int p3] (w_model ky aM mxs mus mys mgp mtp mme mle mlt mkl mln msz mit mmv mrm mer mtd mat mwr mkn mmb mwa mra mbl mbh dxs dus dys dgp dtp dme dle dlt dkl dln dsz dit dmv) (w_model ky aM mxs mus mys mgp mtp mme mle mlt mkl mln msz mit mmv mrm mer mtd mat mwr mkn mmb mwa mra mbl' mbh' dxs dus dys dgp dtp dme dle dlt dkl dln dsz dit dmv) rv :=
  cr_X9_brake l D ky aM mxs mus mys mgp mtp mme mle mlt mkl mln msz mit mmv sz N mrm mer mtd mat mwr mkn mmb mwa mra mbl mbh dxs dus dys dgp dtp dme dle dlt dkl dln dsz dit dmv p0 p1 p2 p3 (rv, mbl', mbh') hF
abbrev rm_X9_watch : Room := { frames := 2, cells := 0, slots := 0, locals := 50 }
theorem iX9_watch_X9 : ∀ w ∈ wsX90, w ∈ wsX9_watch := by decide +kernel
theorem kX9_watch_1 : (Cond.fieldLink RX9 156 "TwoLawsModel" "known" "I") ∈ wsX9_watch := by decide +kernel
theorem kX9_watch_2 : (Cond.fieldLink RX9 201 "TwoLawsModel" "mayBe" "I") ∈ wsX9_watch := by decide +kernel
theorem kX9_watch_3 : (Cond.fieldLink RX9 39 "TwoLawsModel" "knownLaws" "[I") ∈ wsX9_watch := by decide +kernel
theorem kX9_watch_4 : (Cond.fieldLink RX9 159 "TwoLawsModel" "watched" "I") ∈ wsX9_watch := by decide +kernel
theorem kX9_watch_5 : (Cond.fieldLink RX9 162 "TwoLawsModel" "rang" "I") ∈ wsX9_watch := by decide +kernel
set_option maxHeartbeats 4000000 in
set_option maxRecDepth 100000 in
theorem w_X9_watch_167 {p : Program} {l : Launch} {e : Env} {s : State} {m : MethodId} {args : Array Value} {below : List Frame} {meth : Method} {c : Code} {Q : State → Prop} {A : Nat → Prop} {D : va_G} {ky : Nat → ClassId} {aM mxs mus mys mgp mtp mme mle mlt mkl mln msz mit mmv : Nat} {mrm : Int32} {mer : Int32} {mtd : Int32} {mat : Int32} {mwr : Int32} {mkn : Int32} {mbl : Int32} {mbh : Int32} {dxs : Nat → Int32} {dus : Nat → Int32} {dys : Nat → Int32} {dgp : Nat → Int32} {dtp : Nat → Int32} {dme : Nat → Int32} {dle : Nat → Int32} {dlt : Nat → Int32} {dkl : Nat → Int32} {dln : Nat → Int32} {dsz : Nat → Int32} {dit : Nat → Int32} {dmv : Nat → Int32} (N : Nat) (C : cx p s m c args D ky A cX9_watch 7 wsX9_watch RX9) (res : Int32 × Int32 × Int32 × Int32) (hQ : ∀ (pc : Nat) (H : Heap) (locs : List Loc) (ls : Array Slot), decode cX9_watch pc = .ok (.ireturn, 1) → va_P D vwCl (w_model ky aM mxs mus mys mgp mtp mme mle mlt mkl mln msz mit mmv mrm mer mtd mat mwr mkn res.2.1 res.2.2.1 res.2.2.2 mbl mbh dxs dus dys dgp dtp dme dle dlt dkl dln dsz dit dmv) H → va_D A (w_model ky aM mxs mus mys mgp mtp mme mle mlt mkl mln msz mit mmv mrm mer mtd mat mwr mkn res.2.1 res.2.2.1 res.2.2.2 mbl mbh dxs dus dys dgp dtp dme dle dlt dkl dln dsz dit dmv) → va_S A s.heap H locs → W p l e rm_X9_watch s m args below meth c H locs 0 0 Q (F0 m pc ls [.int res.1]))  (l6 : Int32) (t0 : Int32) (t1 : Int32) (mmb : Int32) (mwa : Int32) (mra : Int32) (hF : f_X9_watch_167 N l6 t0 t1 mmb mwa = some res) : ∀ (H : Heap) (locs : List Loc) (ls : Array Slot), va_P D vwCl (w_model ky aM mxs mus mys mgp mtp mme mle mlt mkl mln msz mit mmv mrm mer mtd mat mwr mkn mmb mwa mra mbl mbh dxs dus dys dgp dtp dme dle dlt dkl dln dsz dit dmv) H → va_D A (w_model ky aM mxs mus mys mgp mtp mme mle mlt mkl mln msz mit mmv mrm mer mtd mat mwr mkn mmb mwa mra mbl mbh dxs dus dys dgp dtp dme dle dlt dkl dln dsz dit dmv) → va_S A s.heap H locs → lv_has ls 7 [(0, .ref aM), (6, .int l6)] → W p l e rm_X9_watch s m args below meth c H locs 0 0 Q (F0 m 167 ls [.int t0, .int t1, .ref aM]) := by
  obtain ⟨hx, hb, hml, hown, hts, hK, hA⟩ := id C
  intro H locs ls hP hD hS hl
  unfold f_X9_watch_167 at hF
  refine lv_iadd hx hb dX9_watch_167 ?_
  refine va_put (D := D) (ci := 8) (v := .int (t1 + t0)) (ty := .int) (C := RX9) (T := TX9) (N := 24) hx hb hts iX9_watch_X9 tyX9 tyX9_ok nmX9 hown hK hP hD hS 0 rfl rfl 17 (by decide) (hts _ kX9_watch_5) (fun _ h9 => h9) rfl (by decide +kernel) rfl rfl (Nat.le_of_ble_eq_true rfl) dX9_watch_168 (fun H locs hP hD hS => ?_)
  have hP : va_P D vwCl (w_model ky aM mxs mus mys mgp mtp mme mle mlt mkl mln msz mit mmv mrm mer mtd mat mwr mkn mmb mwa (t1 + t0) mbl mbh dxs dus dys dgp dtp dme dle dlt dkl dln dsz dit dmv) H := hP
  have hD : va_D A (w_model ky aM mxs mus mys mgp mtp mme mle mlt mkl mln msz mit mmv mrm mer mtd mat mwr mkn mmb mwa (t1 + t0) mbl mbh dxs dus dys dgp dtp dme dle dlt dkl dln dsz dit dmv) := hD
  refine lv_aload_n hx hb dX9_watch_171 rfl (lv_at hl 0 rfl) ?_
  refine va_get (D := D) (ci := 8) (v := .int mmb) (C := RX9) (T := TX9) (N := 24) hx hb hts iX9_watch_X9 hown hK hP 0 rfl rfl 15 (by decide) (hts _ kX9_watch_2) (fun _ h9 => h9) rfl dX9_watch_172 ?_
  refine lv_iload hx hb dX9_watch_175 (lv_at hl 1 rfl) ?_
  refine lv_if_eq (tgt := 185) hx hb dX9_watch_177 (by decide) (fun c20 => ?_) (fun c20 => ?_)
  · have hF := if_t c20 hF
    refine lv_iconst (v := (0 : Int32)) hx hb dX9_watch_185 (by decide) ?_
    refine lv_iadd hx hb dX9_watch_186 ?_
    have hF := Option.some.inj hF
    subst hF
    exact hQ _ H _ _ dX9_watch_187 hP hD hS
  · have hF := if_f c20 hF
    refine lv_bipush (v := (16 : Int32)) hx hb dX9_watch_180 (by decide) ?_
    refine lv_goto (tgt := 186) hx hb dX9_watch_182 (by decide) ?_
    refine lv_iadd hx hb dX9_watch_186 ?_
    have hF := Option.some.inj hF
    subst hF
    exact hQ _ H _ _ dX9_watch_187 hP hD hS
set_option maxHeartbeats 4000000 in
set_option maxRecDepth 100000 in
theorem w_X9_watch_139 {p : Program} {l : Launch} {e : Env} {s : State} {m : MethodId} {args : Array Value} {below : List Frame} {meth : Method} {c : Code} {Q : State → Prop} {A : Nat → Prop} {D : va_G} {ky : Nat → ClassId} {aM mxs mus mys mgp mtp mme mle mlt mkl mln msz mit mmv : Nat} {mrm : Int32} {mer : Int32} {mtd : Int32} {mat : Int32} {mwr : Int32} {mkn : Int32} {mbl : Int32} {mbh : Int32} {dxs : Nat → Int32} {dus : Nat → Int32} {dys : Nat → Int32} {dgp : Nat → Int32} {dtp : Nat → Int32} {dme : Nat → Int32} {dle : Nat → Int32} {dlt : Nat → Int32} {dkl : Nat → Int32} {dln : Nat → Int32} {dsz : Nat → Int32} {dit : Nat → Int32} {dmv : Nat → Int32} (N : Nat) (C : cx p s m c args D ky A cX9_watch 7 wsX9_watch RX9) (res : Int32 × Int32 × Int32 × Int32) (hQ : ∀ (pc : Nat) (H : Heap) (locs : List Loc) (ls : Array Slot), decode cX9_watch pc = .ok (.ireturn, 1) → va_P D vwCl (w_model ky aM mxs mus mys mgp mtp mme mle mlt mkl mln msz mit mmv mrm mer mtd mat mwr mkn res.2.1 res.2.2.1 res.2.2.2 mbl mbh dxs dus dys dgp dtp dme dle dlt dkl dln dsz dit dmv) H → va_D A (w_model ky aM mxs mus mys mgp mtp mme mle mlt mkl mln msz mit mmv mrm mer mtd mat mwr mkn res.2.1 res.2.2.1 res.2.2.2 mbl mbh dxs dus dys dgp dtp dme dle dlt dkl dln dsz dit dmv) → va_S A s.heap H locs → W p l e rm_X9_watch s m args below meth c H locs 0 0 Q (F0 m pc ls [.int res.1]))  (l6 : Int32) (t0 : Int32) (mmb : Int32) (mwa : Int32) (mra : Int32) (hF : f_X9_watch_139 N l6 t0 mwa mra = some res) : ∀ (H : Heap) (locs : List Loc) (ls : Array Slot), va_P D vwCl (w_model ky aM mxs mus mys mgp mtp mme mle mlt mkl mln msz mit mmv mrm mer mtd mat mwr mkn mmb mwa mra mbl mbh dxs dus dys dgp dtp dme dle dlt dkl dln dsz dit dmv) H → va_D A (w_model ky aM mxs mus mys mgp mtp mme mle mlt mkl mln msz mit mmv mrm mer mtd mat mwr mkn mmb mwa mra mbl mbh dxs dus dys dgp dtp dme dle dlt dkl dln dsz dit dmv) → va_S A s.heap H locs → lv_has ls 7 [(0, .ref aM), (6, .int l6)] → W p l e rm_X9_watch s m args below meth c H locs 0 0 Q (F0 m 139 ls [.int t0, .ref aM]) := by
  obtain ⟨hx, hb, hml, hown, hts, hK, hA⟩ := id C
  intro H locs ls hP hD hS hl
  unfold f_X9_watch_139 at hF
  refine va_put (D := D) (ci := 8) (v := .int t0) (ty := .int) (C := RX9) (T := TX9) (N := 24) hx hb hts iX9_watch_X9 tyX9 tyX9_ok nmX9 hown hK hP hD hS 0 rfl rfl 15 (by decide) (hts _ kX9_watch_2) (fun _ h9 => h9) rfl (by decide +kernel) rfl rfl (Nat.le_of_ble_eq_true rfl) dX9_watch_139 (fun H locs hP hD hS => ?_)
  have hP : va_P D vwCl (w_model ky aM mxs mus mys mgp mtp mme mle mlt mkl mln msz mit mmv mrm mer mtd mat mwr mkn t0 mwa mra mbl mbh dxs dus dys dgp dtp dme dle dlt dkl dln dsz dit dmv) H := hP
  have hD : va_D A (w_model ky aM mxs mus mys mgp mtp mme mle mlt mkl mln msz mit mmv mrm mer mtd mat mwr mkn t0 mwa mra mbl mbh dxs dus dys dgp dtp dme dle dlt dkl dln dsz dit dmv) := hD
  refine lv_aload_n hx hb dX9_watch_142 rfl (lv_at hl 0 rfl) ?_
  refine lv_dup hx hb dX9_watch_143 rfl ?_
  refine va_get (D := D) (ci := 8) (v := .int mwa) (C := RX9) (T := TX9) (N := 24) hx hb hts iX9_watch_X9 hown hK hP 0 rfl rfl 16 (by decide) (hts _ kX9_watch_4) (fun _ h9 => h9) rfl dX9_watch_144 ?_
  refine lv_iconst (v := (1 : Int32)) hx hb dX9_watch_147 (by decide) ?_
  refine lv_iadd hx hb dX9_watch_148 ?_
  refine va_put (D := D) (ci := 8) (v := .int (mwa + (1 : Int32))) (ty := .int) (C := RX9) (T := TX9) (N := 24) hx hb hts iX9_watch_X9 tyX9 tyX9_ok nmX9 hown hK hP hD hS 0 rfl rfl 16 (by decide) (hts _ kX9_watch_4) (fun _ h9 => h9) rfl (by decide +kernel) rfl rfl (Nat.le_of_ble_eq_true rfl) dX9_watch_149 (fun H locs hP hD hS => ?_)
  have hP : va_P D vwCl (w_model ky aM mxs mus mys mgp mtp mme mle mlt mkl mln msz mit mmv mrm mer mtd mat mwr mkn t0 (mwa + (1 : Int32)) mra mbl mbh dxs dus dys dgp dtp dme dle dlt dkl dln dsz dit dmv) H := hP
  have hD : va_D A (w_model ky aM mxs mus mys mgp mtp mme mle mlt mkl mln msz mit mmv mrm mer mtd mat mwr mkn t0 (mwa + (1 : Int32)) mra mbl mbh dxs dus dys dgp dtp dme dle dlt dkl dln dsz dit dmv) := hD
  refine lv_aload_n hx hb dX9_watch_152 rfl (lv_at hl 0 rfl) ?_
  refine lv_dup hx hb dX9_watch_153 rfl ?_
  refine va_get (D := D) (ci := 8) (v := .int mra) (C := RX9) (T := TX9) (N := 24) hx hb hts iX9_watch_X9 hown hK hP 0 rfl rfl 17 (by decide) (hts _ kX9_watch_5) (fun _ h9 => h9) rfl dX9_watch_154 ?_
  refine lv_iload hx hb dX9_watch_157 (lv_at hl 1 rfl) ?_
  refine lv_if_eq (tgt := 166) hx hb dX9_watch_159 (by decide) (fun c19 => ?_) (fun c19 => ?_)
  · have hF := if_t c19 hF
    refine lv_iconst (v := (0 : Int32)) hx hb dX9_watch_166 (by decide) ?_
    exact w_X9_watch_167 N C res hQ l6 (0 : Int32) mra t0 (mwa + (1 : Int32)) mra hF H _ _ hP hD hS (lv_sub hl [0, 1] rfl)
  · have hF := if_f c19 hF
    refine lv_iconst (v := (1 : Int32)) hx hb dX9_watch_162 (by decide) ?_
    refine lv_goto (tgt := 167) hx hb dX9_watch_163 (by decide) ?_
    exact w_X9_watch_167 N C res hQ l6 (1 : Int32) mra t0 (mwa + (1 : Int32)) mra hF H _ _ hP hD hS (lv_sub hl [0, 1] rfl)
set_option maxHeartbeats 4000000 in
set_option maxRecDepth 100000 in
theorem w_X9_watch_109 {p : Program} {l : Launch} {e : Env} {s : State} {m : MethodId} {args : Array Value} {below : List Frame} {meth : Method} {c : Code} {Q : State → Prop} {A : Nat → Prop} {D : va_G} {ky : Nat → ClassId} {aM mxs mus mys mgp mtp mme mle mlt mkl mln msz mit mmv : Nat} {mrm : Int32} {mer : Int32} {mtd : Int32} {mat : Int32} {mwr : Int32} {mkn : Int32} {mbl : Int32} {mbh : Int32} {dxs : Nat → Int32} {dus : Nat → Int32} {dys : Nat → Int32} {dgp : Nat → Int32} {dtp : Nat → Int32} {dme : Nat → Int32} {dle : Nat → Int32} {dlt : Nat → Int32} {dkl : Nat → Int32} {dln : Nat → Int32} {dsz : Nat → Int32} {dit : Nat → Int32} {dmv : Nat → Int32} (N : Nat) (C : cx p s m c args D ky A cX9_watch 7 wsX9_watch RX9) (res : Int32 × Int32 × Int32 × Int32) (hQ : ∀ (pc : Nat) (H : Heap) (locs : List Loc) (ls : Array Slot), decode cX9_watch pc = .ok (.ireturn, 1) → va_P D vwCl (w_model ky aM mxs mus mys mgp mtp mme mle mlt mkl mln msz mit mmv mrm mer mtd mat mwr mkn res.2.1 res.2.2.1 res.2.2.2 mbl mbh dxs dus dys dgp dtp dme dle dlt dkl dln dsz dit dmv) H → va_D A (w_model ky aM mxs mus mys mgp mtp mme mle mlt mkl mln msz mit mmv mrm mer mtd mat mwr mkn res.2.1 res.2.2.1 res.2.2.2 mbl mbh dxs dus dys dgp dtp dme dle dlt dkl dln dsz dit dmv) → va_S A s.heap H locs → W p l e rm_X9_watch s m args below meth c H locs 0 0 Q (F0 m pc ls [.int res.1]))  (l4 : Int32) (l5 : Int32) (t0 : Int32) (mmb : Int32) (mwa : Int32) (mra : Int32) (hF : f_X9_watch_109 N l4 l5 t0 mmb mwa mra = some res) : ∀ (H : Heap) (locs : List Loc) (ls : Array Slot), va_P D vwCl (w_model ky aM mxs mus mys mgp mtp mme mle mlt mkl mln msz mit mmv mrm mer mtd mat mwr mkn mmb mwa mra mbl mbh dxs dus dys dgp dtp dme dle dlt dkl dln dsz dit dmv) H → va_D A (w_model ky aM mxs mus mys mgp mtp mme mle mlt mkl mln msz mit mmv mrm mer mtd mat mwr mkn mmb mwa mra mbl mbh dxs dus dys dgp dtp dme dle dlt dkl dln dsz dit dmv) → va_S A s.heap H locs → lv_has ls 7 [(0, .ref aM), (4, .int l4), (5, .int l5)] → W p l e rm_X9_watch s m args below meth c H locs 0 0 Q (F0 m 109 ls [.int t0]) := by
  obtain ⟨hx, hb, hml, hown, hts, hK, hA⟩ := id C
  intro H locs ls hP hD hS hl
  unfold f_X9_watch_109 at hF
  refine lv_istore (lv' := [(6, .int t0), (0, .ref aM), (4, .int l4), (5, .int l5)]) hx hb dX9_watch_109 hl (by decide) rfl (fun ls hl => ?_)
  refine lv_aload_n hx hb dX9_watch_111 rfl (lv_at hl 1 rfl) ?_
  refine lv_iload hx hb dX9_watch_112 (lv_at hl 0 rfl) ?_
  refine lv_if_ne (tgt := 127) hx hb dX9_watch_114 (by decide) (fun c17 => ?_) (fun c17 => ?_)
  · have hF := if_f c17 hF
    refine lv_iload hx hb dX9_watch_127 (lv_at hl 3 rfl) ?_
    refine lv_if_ne (tgt := 137) hx hb dX9_watch_129 (by decide) (fun c18 => ?_) (fun c18 => ?_)
    · have hF := if_f c18 hF
      refine lv_iload hx hb dX9_watch_137 (lv_at hl 3 rfl) ?_
      exact w_X9_watch_139 N C res hQ t0 l5 mmb mwa mra hF H _ _ hP hD hS (lv_sub hl [1, 0] rfl)
    · have hF := if_t c18 hF
      refine lv_iload hx hb dX9_watch_132 (lv_at hl 2 rfl) ?_
      refine lv_goto (tgt := 139) hx hb dX9_watch_134 (by decide) ?_
      exact w_X9_watch_139 N C res hQ t0 l4 mmb mwa mra hF H _ _ hP hD hS (lv_sub hl [1, 0] rfl)
  · have hF := if_t c17 hF
    refine lv_aload_n hx hb dX9_watch_117 rfl (lv_at hl 1 rfl) ?_
    refine va_get (D := D) (ci := 8) (v := .int mmb) (C := RX9) (T := TX9) (N := 24) hx hb hts iX9_watch_X9 hown hK hP 0 rfl rfl 15 (by decide) (hts _ kX9_watch_2) (fun _ h9 => h9) rfl dX9_watch_118 ?_
    refine lv_iload hx hb dX9_watch_121 (lv_at hl 3 rfl) ?_
    refine lv_iand hx hb dX9_watch_123 ?_
    refine lv_goto (tgt := 139) hx hb dX9_watch_124 (by decide) ?_
    exact w_X9_watch_139 N C res hQ t0 (mmb &&& l5) mmb mwa mra hF H _ _ hP hD hS (lv_sub hl [1, 0] rfl)
set_option maxHeartbeats 4000000 in
set_option maxRecDepth 100000 in
theorem w_X9_watch_49 {p : Program} {l : Launch} {e : Env} {s : State} {m : MethodId} {args : Array Value} {below : List Frame} {meth : Method} {c : Code} {Q : State → Prop} {A : Nat → Prop} {D : va_G} {ky : Nat → ClassId} {aM mxs mus mys mgp mtp mme mle mlt mkl mln msz mit mmv : Nat} {mrm : Int32} {mer : Int32} {mtd : Int32} {mat : Int32} {mwr : Int32} {mkn : Int32} {mbl : Int32} {mbh : Int32} {dxs : Nat → Int32} {dus : Nat → Int32} {dys : Nat → Int32} {dgp : Nat → Int32} {dtp : Nat → Int32} {dme : Nat → Int32} {dle : Nat → Int32} {dlt : Nat → Int32} {dkl : Nat → Int32} {dln : Nat → Int32} {dsz : Nat → Int32} {dit : Nat → Int32} {dmv : Nat → Int32} (N : Nat) (C : cx p s m c args D ky A cX9_watch 7 wsX9_watch RX9) (res : Int32 × Int32 × Int32 × Int32) (hQ : ∀ (pc : Nat) (H : Heap) (locs : List Loc) (ls : Array Slot), decode cX9_watch pc = .ok (.ireturn, 1) → va_P D vwCl (w_model ky aM mxs mus mys mgp mtp mme mle mlt mkl mln msz mit mmv mrm mer mtd mat mwr mkn res.2.1 res.2.2.1 res.2.2.2 mbl mbh dxs dus dys dgp dtp dme dle dlt dkl dln dsz dit dmv) H → va_D A (w_model ky aM mxs mus mys mgp mtp mme mle mlt mkl mln msz mit mmv mrm mer mtd mat mwr mkn res.2.1 res.2.2.1 res.2.2.2 mbl mbh dxs dus dys dgp dtp dme dle dlt dkl dln dsz dit dmv) → va_S A s.heap H locs → W p l e rm_X9_watch s m args below meth c H locs 0 0 Q (F0 m pc ls [.int res.1])) (l1 : Int32) (l2 : Int32) (l3 : Int32) (l4 : Int32) (mmb : Int32) (mwa : Int32) (mra : Int32) : ∀ (n : Nat) (l5 : Int32) (l6 : Int32), f_X9_watch_49 N l1 l2 l3 l4 mer mkn mmb mwa mra dkl n l5 l6 = some res → ∀ (H : Heap) (locs : List Loc) (ls : Array Slot), va_P D vwCl (w_model ky aM mxs mus mys mgp mtp mme mle mlt mkl mln msz mit mmv mrm mer mtd mat mwr mkn mmb mwa mra mbl mbh dxs dus dys dgp dtp dme dle dlt dkl dln dsz dit dmv) H → va_D A (w_model ky aM mxs mus mys mgp mtp mme mle mlt mkl mln msz mit mmv mrm mer mtd mat mwr mkn mmb mwa mra mbl mbh dxs dus dys dgp dtp dme dle dlt dkl dln dsz dit dmv) → va_S A s.heap H locs → lv_has ls 7 [(0, .ref aM), (1, .int l1), (2, .int l2), (3, .int l3), (4, .int l4), (5, .int l5), (6, .int l6)] → W p l e rm_X9_watch s m args below meth c H locs 0 0 Q (F0 m 49 ls []) := by
  obtain ⟨hx, hb, hml, hown, hts, hK, hA⟩ := id C
  intro n
  induction n with
  | zero =>
    intro l5 l6 hF
    cases hF
  | succ n ih =>
    intro l5 l6 hF H locs ls hP hD hS hl
    have hF : b_X9_watch_49 N l1 l2 l3 l4 mer mkn mmb mwa mra dkl (f_X9_watch_49 N l1 l2 l3 l4 mer mkn mmb mwa mra dkl n) l5 l6 = some res := hF
    unfold b_X9_watch_49 at hF
    refine lv_iload hx hb dX9_watch_49 (lv_at hl 6 rfl) ?_
    refine lv_aload_n hx hb dX9_watch_51 rfl (lv_at hl 0 rfl) ?_
    refine va_get (D := D) (ci := 8) (v := .int mkn) (C := RX9) (T := TX9) (N := 24) hx hb hts iX9_watch_X9 hown hK hP 0 rfl rfl 13 (by decide) (hts _ kX9_watch_1) (fun _ h9 => h9) rfl dX9_watch_52 ?_
    refine lv_icmp_ge (tgt := 94) hx hb dX9_watch_55 (by decide) (fun c11 => ?_) (fun c11 => ?_)
    · have hF := if_t c11 hF
      refine lv_aload_n hx hb dX9_watch_94 rfl (lv_at hl 0 rfl) ?_
      refine va_get (D := D) (ci := 8) (v := .int mmb) (C := RX9) (T := TX9) (N := 24) hx hb hts iX9_watch_X9 hown hK hP 0 rfl rfl 15 (by decide) (hts _ kX9_watch_2) (fun _ h9 => h9) rfl dX9_watch_95 ?_
      refine lv_iload hx hb dX9_watch_98 (lv_at hl 5 rfl) ?_
      refine lv_iand hx hb dX9_watch_100 ?_
      refine lv_if_ne (tgt := 108) hx hb dX9_watch_101 (by decide) (fun c12 => ?_) (fun c12 => ?_)
      · have hF := if_f c12 hF
        refine lv_iconst (v := (0 : Int32)) hx hb dX9_watch_108 (by decide) ?_
        exact w_X9_watch_109 N C res hQ l4 l5 (0 : Int32) mmb mwa mra hF H _ _ hP hD hS (lv_sub hl [0, 4, 5] rfl)
      · have hF := if_t c12 hF
        refine lv_iconst (v := (1 : Int32)) hx hb dX9_watch_104 (by decide) ?_
        refine lv_goto (tgt := 109) hx hb dX9_watch_105 (by decide) ?_
        exact w_X9_watch_109 N C res hQ l4 l5 (1 : Int32) mmb mwa mra hF H _ _ hP hD hS (lv_sub hl [0, 4, 5] rfl)
    · have hF := if_f c11 hF
      refine lv_iload hx hb dX9_watch_58 (lv_at hl 5 rfl) ?_
      refine lv_aload_n hx hb dX9_watch_60 rfl (lv_at hl 0 rfl) ?_
      refine lv_aload_n hx hb dX9_watch_61 rfl (lv_at hl 0 rfl) ?_
      refine va_get (D := D) (ci := 8) (v := .ref mkl) (C := RX9) (T := TX9) (N := 24) hx hb hts iX9_watch_X9 hown hK hP 0 rfl rfl 14 (by decide) (hts _ kX9_watch_3) (fun _ h9 => h9) rfl dX9_watch_62 ?_
      refine lv_iload hx hb dX9_watch_65 (lv_at hl 6 rfl) ?_
      obtain ⟨h13, hF⟩ := gi_s hF
      refine va_iald hx hb hK hP 9 0 rfl rfl h13 dX9_watch_67 ?_
      refine lv_iload_n hx hb dX9_watch_68 rfl (lv_at hl 1 rfl) ?_
      refine lv_iload_n hx hb dX9_watch_69 rfl (lv_at hl 2 rfl) ?_
      refine lv_iload_n hx hb dX9_watch_70 rfl (lv_at hl 3 rfl) ?_
      obtain ⟨r15, h14, hF⟩ := b1_s hF
      refine cl_vi (As := [.int (dkl l6.toNatClampNeg), .int l1, .int l2, .int l3]) (rest := [.int l5]) (w' := (w_model ky aM mxs mus mys mgp mtp mme mle mlt mkl mln msz mit mmv mrm mer mtd mat mwr mkn mmb mwa mra mbl mbh dxs dus dys dgp dtp dme dle dlt dkl dln dsz dit dmv)) ⟨hx, hb, hml, hown, hts⟩ hK hP hD hS hA (c_X9_fits l D ky aM mxs mus mys mgp mtp mme mle mlt mkl mln msz mit mmv _ N  mrm mer mtd mat mwr mkn mmb mwa mra mbl mbh dxs dus dys dgp dtp dme dle dlt dkl dln dsz dit dmv (dkl l6.toNatClampNeg) l1 l2 l3 r15 h14) (cwV 4 hts gX9_watch_X9_fits rfl rfl rfl (by decide +kernel) ⟨Nat.le_of_ble_eq_true rfl, Nat.le_of_ble_eq_true rfl⟩) [0, 1, 2, 3, 4, 5, 6, 7, 8, 9, 10, 11, 12, 13] [] [0, 1, 2, 3, 4, 5, 6, 7, 8, 9, 10, 11, 12, 13] 0 8 rfl rfl rfl rfl (wr := []) rfl (by decide) rfl rfl hl.1 (Nat.le_of_ble_eq_true rfl) dX9_watch_71 ⟨Nat.zero_le _, Nat.zero_le _⟩ (fun H locs hP hD hS => ?_)
      refine lv_if_eq (tgt := 84) hx hb dX9_watch_74 (by decide) (fun c16 => ?_) (fun c16 => ?_)
      · have hF := if_t c16 hF
        refine lv_iconst (v := (0 : Int32)) hx hb dX9_watch_84 (by decide) ?_
        refine lv_ior hx hb dX9_watch_85 ?_
        refine lv_istore (lv' := [(5, .int (l5 ||| (0 : Int32))), (0, .ref aM), (1, .int l1), (2, .int l2), (3, .int l3), (4, .int l4), (6, .int l6)]) hx hb dX9_watch_86 hl (by decide) rfl (fun ls hl => ?_)
        refine lv_iinc (v := (l6 + (1 : Int32))) (lv' := [(6, .int (l6 + (1 : Int32))), (5, .int (l5 ||| (0 : Int32))), (0, .ref aM), (1, .int l1), (2, .int l2), (3, .int l3), (4, .int l4)]) hx hb dX9_watch_88 hl (k := 6) rfl rfl (by decide) rfl (fun ls hl => ?_)
        refine lv_goto (tgt := 49) hx hb dX9_watch_91 (by decide) ?_
        exact ih (l5 ||| (0 : Int32)) (l6 + (1 : Int32)) hF H _ _ hP hD hS (lv_sub hl [2, 3, 4, 5, 6, 1, 0] rfl)
      · have hF := if_f c16 hF
        refine lv_iconst (v := (1 : Int32)) hx hb dX9_watch_77 (by decide) ?_
        refine lv_iload hx hb dX9_watch_78 (lv_at hl 6 rfl) ?_
        refine lv_ishl hx hb dX9_watch_80 ?_
        refine lv_goto (tgt := 85) hx hb dX9_watch_81 (by decide) ?_
        refine lv_ior hx hb dX9_watch_85 ?_
        refine lv_istore (lv' := [(5, .int (l5 ||| ((1 : Int32) <<< (l6 &&& 31)))), (0, .ref aM), (1, .int l1), (2, .int l2), (3, .int l3), (4, .int l4), (6, .int l6)]) hx hb dX9_watch_86 hl (by decide) rfl (fun ls hl => ?_)
        refine lv_iinc (v := (l6 + (1 : Int32))) (lv' := [(6, .int (l6 + (1 : Int32))), (5, .int (l5 ||| ((1 : Int32) <<< (l6 &&& 31)))), (0, .ref aM), (1, .int l1), (2, .int l2), (3, .int l3), (4, .int l4)]) hx hb dX9_watch_88 hl (k := 6) rfl rfl (by decide) rfl (fun ls hl => ?_)
        refine lv_goto (tgt := 49) hx hb dX9_watch_91 (by decide) ?_
        exact ih (l5 ||| ((1 : Int32) <<< (l6 &&& 31))) (l6 + (1 : Int32)) hF H _ _ hP hD hS (lv_sub hl [2, 3, 4, 5, 6, 1, 0] rfl)
set_option maxHeartbeats 4000000 in
set_option maxRecDepth 100000 in
theorem cr_X9_watch (l : Launch) (D : va_G) (ky : Nat → ClassId) (aM mxs mus mys mgp mtp mme mle mlt mkl mln msz mit mmv : Nat) (sz N : Nat)  (mrm : Int32) (mer : Int32) (mtd : Int32) (mat : Int32) (mwr : Int32) (mkn : Int32) (mmb : Int32) (mwa : Int32) (mra : Int32) (mbl : Int32) (mbh : Int32) (dxs : Nat → Int32) (dus : Nat → Int32) (dys : Nat → Int32) (dgp : Nat → Int32) (dtp : Nat → Int32) (dme : Nat → Int32) (dle : Nat → Int32) (dlt : Nat → Int32) (dkl : Nat → Int32) (dln : Nat → Int32) (dsz : Nat → Int32) (dit : Nat → Int32) (dmv : Nat → Int32) (p0 : Int32) (p1 : Int32) (p2 : Int32) (res : Int32 × Int32 × Int32 × Int32) (hF : f_X9_watch N p0 p1 p2 mer mkn mmb mwa mra dkl = some res) : MI l yX9_watch wsX9_watch rm_X9_watch D ky sz [.ref aM, .int p0, .int p1, .int p2] (w_model ky aM mxs mus mys mgp mtp mme mle mlt mkl mln msz mit mmv mrm mer mtd mat mwr mkn mmb mwa mra mbl mbh dxs dus dys dgp dtp dme dle dlt dkl dln dsz dit dmv) (w_model ky aM mxs mus mys mgp mtp mme mle mlt mkl mln msz mit mmv mrm mer mtd mat mwr mkn res.2.1 res.2.2.1 res.2.2.2 mbl mbh dxs dus dys dgp dtp dme dle dlt dkl dln dsz dit dmv) res.1 := by
  unfold MI
  refine Met.ofW (cc := cX9_watch) (maxL := 7) (ret := (some .int)) (by decide) rfl ?_
  intro p e s m args below meth c s₁ B hml hv
  obtain ⟨rfl, hsz, hP, hK, hD0⟩ := hv
  have hx := B.exec
  have hb := B.bytes
  have hr := B.returns
  have hts := atoms_spec (ws := wsX9_watch) B.pre
  have hown : s.vm.findClass RX9 = some m.cls := findClass_of_methodNamed B.named
  have hlocks := B.notSynchronized
  subst hsz
  have hD := hD0.self (sz := s.heap.size)
  generalize hAe : va_A (w_model ky aM mxs mus mys mgp mtp mme mle mlt mkl mln msz mit mmv mrm mer mtd mat mwr mkn mmb mwa mra mbl mbh dxs dus dys dgp dtp dme dle dlt dkl dln dsz dit dmv) s.heap.size = A at hD ⊢
  have hA : ∀ q : Nat, s.heap.size ≤ q → A q := fun q h => by rw [← hAe]; exact Or.inr h
  have hS : va_S A s.heap s.heap [] := va_S.rf
  have hP : va_P D vwCl (w_model ky aM mxs mus mys mgp mtp mme mle mlt mkl mln msz mit mmv mrm mer mtd mat mwr mkn mmb mwa mra mbl mbh dxs dus dys dgp dtp dme dle dlt dkl dln dsz dit dmv) s.heap := hP
  have hl := lv_entry ([.ref aM, .int p0, .int p1, .int p2]) (n := 7) (Nat.le_of_ble_eq_true rfl)
  rw [lg_entry_eq]
  generalize (lg_sl ([.ref aM, .int p0, .int p1, .int p2]) ++ List.replicate (7 - (lg_sl ([.ref aM, .int p0, .int p1, .int p2])).length) Slot.unset).toArray = ls at hl ⊢
  have hl : lv_has ls 7 [(0, .ref aM), (1, .int p0), (2, .int p1), (3, .int p2)] := hl
  have C : cx p s m c ([.ref aM, .int p0, .int p1, .int p2]).toArray D ky A cX9_watch 7 wsX9_watch RX9 := ⟨hx, hb, hml, hown, hts, hK, hA⟩
  have hQ : ∀ (pc : Nat) (H : Heap) (locs : List Loc) (ls : Array Slot), decode cX9_watch pc = .ok (.ireturn, 1) → va_P D vwCl (w_model ky aM mxs mus mys mgp mtp mme mle mlt mkl mln msz mit mmv mrm mer mtd mat mwr mkn res.2.1 res.2.2.1 res.2.2.2 mbl mbh dxs dus dys dgp dtp dme dle dlt dkl dln dsz dit dmv) H → va_D A (w_model ky aM mxs mus mys mgp mtp mme mle mlt mkl mln msz mit mmv mrm mer mtd mat mwr mkn res.2.1 res.2.2.1 res.2.2.2 mbl mbh dxs dus dys dgp dtp dme dle dlt dkl dln dsz dit dmv) → va_S A s.heap H locs → W p l e rm_X9_watch s m ([.ref aM, .int p0, .int p1, .int p2]).toArray below meth c H locs 0 0 (MQ below (va_Qi (S := Unit) (fun r _ => r = res.1) (fun _ t => va_P D vwCl (w_model ky aM mxs mus mys mgp mtp mme mle mlt mkl mln msz mit mmv mrm mer mtd mat mwr mkn res.2.1 res.2.2.1 res.2.2.2 mbl mbh dxs dus dys dgp dtp dme dle dlt dkl dln dsz dit dmv) t.heap ∧ va_K D vwCl (tyW ky) t ∧ va_D A (w_model ky aM mxs mus mys mgp mtp mme mle mlt mkl mln msz mit mmv mrm mer mtd mat mwr mkn res.2.1 res.2.2.1 res.2.2.2 mbl mbh dxs dus dys dgp dtp dme dle dlt dkl dln dsz dit dmv)) A) ([.ref aM, .int p0, .int p1, .int p2]).toArray s 0 0 A) (F0 m pc ls [.int res.1]) := fun pc H locs ls hd hP hD hS => W.iret hx hb hr (fun t ht hW => ⟨⟨res.1, (), rfl, rfl, by rw [ht]; exact hP, va_K.moved hW.alike hK, hD⟩, hS.F ht⟩) hS.2.2 hd
  unfold f_X9_watch at hF
  refine lv_iload_n hx hb dX9_watch_0 rfl (lv_at hl 1 rfl) ?_
  obtain ⟨r2, h1, hF⟩ := b1_s hF
  refine cl_si (As := [.int p0]) (rest := []) ⟨hx, hb, hml, hown, hts⟩ hK hP hD hS hA (c_X9_isSmall l D ky  _ N   p0 r2 h1) (va_cwS 1 hts gX9_watch_X9_isSmall rfl rfl rfl (by decide +kernel) ⟨Nat.le_of_ble_eq_true rfl, Nat.le_of_ble_eq_true rfl⟩) rfl hl.1 (Nat.le_of_ble_eq_true rfl) dX9_watch_1 ⟨Nat.zero_le _, Nat.zero_le _⟩ (fun H locs hP hD hS => ?_)
  refine lv_if_eq (tgt := 21) hx hb dX9_watch_4 (by decide) (fun c3 => ?_) (fun c3 => ?_)
  · have hF := if_t c3 hF
    refine lv_iconst (v := (-1 : Int32)) hx hb dX9_watch_21 (by decide) ?_
    have hF := Option.some.inj hF
    subst hF
    exact hQ _ _ _ _ dX9_watch_22 hP hD hS
  · have hF := if_f c3 hF
    refine lv_iload_n hx hb dX9_watch_7 rfl (lv_at hl 2 rfl) ?_
    obtain ⟨r5, h4, hF⟩ := b1_s hF
    refine cl_si (As := [.int p1]) (rest := []) ⟨hx, hb, hml, hown, hts⟩ hK hP hD hS hA (c_X9_isSmall l D ky  _ N   p1 r5 h4) (va_cwS 1 hts gX9_watch_X9_isSmall rfl rfl rfl (by decide +kernel) ⟨Nat.le_of_ble_eq_true rfl, Nat.le_of_ble_eq_true rfl⟩) rfl hl.1 (Nat.le_of_ble_eq_true rfl) dX9_watch_8 ⟨Nat.zero_le _, Nat.zero_le _⟩ (fun H locs hP hD hS => ?_)
    refine lv_if_eq (tgt := 21) hx hb dX9_watch_11 (by decide) (fun c6 => ?_) (fun c6 => ?_)
    · have hF := if_t c6 hF
      refine lv_iconst (v := (-1 : Int32)) hx hb dX9_watch_21 (by decide) ?_
      have hF := Option.some.inj hF
      subst hF
      exact hQ _ _ _ _ dX9_watch_22 hP hD hS
    · have hF := if_f c6 hF
      refine lv_iload_n hx hb dX9_watch_14 rfl (lv_at hl 3 rfl) ?_
      obtain ⟨r8, h7, hF⟩ := b1_s hF
      refine cl_si (As := [.int p2]) (rest := []) ⟨hx, hb, hml, hown, hts⟩ hK hP hD hS hA (c_X9_isSmall l D ky  _ N   p2 r8 h7) (va_cwS 1 hts gX9_watch_X9_isSmall rfl rfl rfl (by decide +kernel) ⟨Nat.le_of_ble_eq_true rfl, Nat.le_of_ble_eq_true rfl⟩) rfl hl.1 (Nat.le_of_ble_eq_true rfl) dX9_watch_15 ⟨Nat.zero_le _, Nat.zero_le _⟩ (fun H locs hP hD hS => ?_)
      refine lv_if_ne (tgt := 23) hx hb dX9_watch_18 (by decide) (fun c9 => ?_) (fun c9 => ?_)
      · have hF := if_f c9 hF
        refine lv_aload_n hx hb dX9_watch_23 rfl (lv_at hl 0 rfl) ?_
        refine va_get (D := D) (ci := 8) (v := .int mkn) (C := RX9) (T := TX9) (N := 24) hx hb hts iX9_watch_X9 hown hK hP 0 rfl rfl 13 (by decide) (hts _ kX9_watch_1) (fun _ h9 => h9) rfl dX9_watch_24 ?_
        refine lv_if_ne (tgt := 33) hx hb dX9_watch_27 (by decide) (fun c10 => ?_) (fun c10 => ?_)
        · have hF := if_f c10 hF
          refine lv_iconst (v := (1 : Int32)) hx hb dX9_watch_33 (by decide) ?_
          refine lv_aload_n hx hb dX9_watch_34 rfl (lv_at hl 0 rfl) ?_
          refine va_get (D := D) (ci := 8) (v := .int mkn) (C := RX9) (T := TX9) (N := 24) hx hb hts iX9_watch_X9 hown hK hP 0 rfl rfl 13 (by decide) (hts _ kX9_watch_1) (fun _ h9 => h9) rfl dX9_watch_35 ?_
          refine lv_ishl hx hb dX9_watch_38 ?_
          refine lv_iconst (v := (1 : Int32)) hx hb dX9_watch_39 (by decide) ?_
          refine lv_isub hx hb dX9_watch_40 ?_
          refine lv_istore (lv' := [(4, .int (((1 : Int32) <<< (mkn &&& 31)) - (1 : Int32))), (0, .ref aM), (1, .int p0), (2, .int p1), (3, .int p2)]) hx hb dX9_watch_41 hl (by decide) rfl (fun ls hl => ?_)
          refine lv_iconst (v := (0 : Int32)) hx hb dX9_watch_43 (by decide) ?_
          refine lv_istore (lv' := [(5, .int (0 : Int32)), (4, .int (((1 : Int32) <<< (mkn &&& 31)) - (1 : Int32))), (0, .ref aM), (1, .int p0), (2, .int p1), (3, .int p2)]) hx hb dX9_watch_44 hl (by decide) rfl (fun ls hl => ?_)
          refine lv_iconst (v := (0 : Int32)) hx hb dX9_watch_46 (by decide) ?_
          refine lv_istore (lv' := [(6, .int (0 : Int32)), (5, .int (0 : Int32)), (4, .int (((1 : Int32) <<< (mkn &&& 31)) - (1 : Int32))), (0, .ref aM), (1, .int p0), (2, .int p1), (3, .int p2)]) hx hb dX9_watch_47 hl (by decide) rfl (fun ls hl => ?_)
          exact w_X9_watch_49 N C res hQ p0 p1 p2 (((1 : Int32) <<< (mkn &&& 31)) - (1 : Int32)) mmb mwa mra N (0 : Int32) (0 : Int32) hF _ _ _ hP hD hS (lv_sub hl [3, 4, 5, 6, 2, 1, 0] rfl)
        · have hF := if_t c10 hF
          refine lv_bipush (v := (-2 : Int32)) hx hb dX9_watch_30 (by decide) ?_
          have hF := Option.some.inj hF
          subst hF
          exact hQ _ _ _ _ dX9_watch_32 hP hD hS
      · have hF := if_t c9 hF
        refine lv_iconst (v := (-1 : Int32)) hx hb dX9_watch_21 (by decide) ?_
        have hF := Option.some.inj hF
        subst hF
        exact hQ _ _ _ _ dX9_watch_22 hP hD hS
theorem c_X9_watch (l : Launch) (D : va_G) (ky : Nat → ClassId) (aM mxs mus mys mgp mtp mme mle mlt mkl mln msz mit mmv : Nat) (sz N : Nat)  (mrm : Int32) (mer : Int32) (mtd : Int32) (mat : Int32) (mwr : Int32) (mkn : Int32) (mmb : Int32) (mwa : Int32) (mra : Int32) (mbl : Int32) (mbh : Int32) (dxs : Nat → Int32) (dus : Nat → Int32) (dys : Nat → Int32) (dgp : Nat → Int32) (dtp : Nat → Int32) (dme : Nat → Int32) (dle : Nat → Int32) (dlt : Nat → Int32) (dkl : Nat → Int32) (dln : Nat → Int32) (dsz : Nat → Int32) (dit : Nat → Int32) (dmv : Nat → Int32) (p0 : Int32) (p1 : Int32) (p2 : Int32) (rv : Int32) (mmb' : Int32) (mwa' : Int32) (mra' : Int32) (hF : f_X9_watch N p0 p1 p2 mer mkn mmb mwa mra dkl = some (rv, mmb', mwa', mra')) : MI l yX9_watch wsX9_watch rm_X9_watch D ky sz [.ref aM, .int p0, .int p1, .int p2] (w_model ky aM mxs mus mys mgp mtp mme mle mlt mkl mln msz mit mmv mrm mer mtd mat mwr mkn mmb mwa mra mbl mbh dxs dus dys dgp dtp dme dle dlt dkl dln dsz dit dmv) (w_model ky aM mxs mus mys mgp mtp mme mle mlt mkl mln msz mit mmv mrm mer mtd mat mwr mkn mmb' mwa' mra' mbl mbh dxs dus dys dgp dtp dme dle dlt dkl dln dsz dit dmv) rv :=
  cr_X9_watch l D ky aM mxs mus mys mgp mtp mme mle mlt mkl mln msz mit mmv sz N mrm mer mtd mat mwr mkn mmb mwa mra mbl mbh dxs dus dys dgp dtp dme dle dlt dkl dln dsz dit dmv p0 p1 p2 (rv, mmb', mwa', mra') hF
abbrev rm_X9_sheet : Room := { frames := 2, cells := 0, slots := 0, locals := 45 }
theorem iX9_sheet_X9 : ∀ w ∈ wsX90, w ∈ wsX9_sheet := by decide +kernel
theorem kX9_sheet_1 : (Cond.fieldLink RX9 42 "TwoLawsModel" "lanes" "[I") ∈ wsX9_sheet := by decide +kernel
theorem kX9_sheet_2 : (Cond.fieldLink RX9 45 "TwoLawsModel" "sizes" "[I") ∈ wsX9_sheet := by decide +kernel
theorem kX9_sheet_3 : (Cond.fieldLink RX9 48 "TwoLawsModel" "items" "[I") ∈ wsX9_sheet := by decide +kernel
set_option maxHeartbeats 4000000 in
set_option maxRecDepth 100000 in
theorem w_X9_sheet_46 {p : Program} {l : Launch} {e : Env} {s : State} {m : MethodId} {args : Array Value} {below : List Frame} {meth : Method} {c : Code} {Q : State → Prop} {A : Nat → Prop} {D : va_G} {ky : Nat → ClassId} {aM mxs mus mys mgp mtp mme mle mlt mkl mln msz mit mmv : Nat} {mrm : Int32} {mer : Int32} {mtd : Int32} {mat : Int32} {mwr : Int32} {mkn : Int32} {mmb : Int32} {mwa : Int32} {mra : Int32} {mbl : Int32} {mbh : Int32} {dxs : Nat → Int32} {dus : Nat → Int32} {dys : Nat → Int32} {dgp : Nat → Int32} {dtp : Nat → Int32} {dme : Nat → Int32} {dle : Nat → Int32} {dlt : Nat → Int32} {dkl : Nat → Int32} {dmv : Nat → Int32} (N : Nat) (C : cx p s m c args D ky A cX9_sheet 5 wsX9_sheet RX9) (res : Int32 × (Nat → Int32) × (Nat → Int32) × (Nat → Int32)) (hQ : ∀ (pc : Nat) (H : Heap) (locs : List Loc) (ls : Array Slot), decode cX9_sheet pc = .ok (.ireturn, 1) → va_P D vwCl (w_model ky aM mxs mus mys mgp mtp mme mle mlt mkl mln msz mit mmv mrm mer mtd mat mwr mkn mmb mwa mra mbl mbh dxs dus dys dgp dtp dme dle dlt dkl res.2.1 res.2.2.1 res.2.2.2 dmv) H → va_D A (w_model ky aM mxs mus mys mgp mtp mme mle mlt mkl mln msz mit mmv mrm mer mtd mat mwr mkn mmb mwa mra mbl mbh dxs dus dys dgp dtp dme dle dlt dkl res.2.1 res.2.2.1 res.2.2.2 dmv) → va_S A s.heap H locs → W p l e rm_X9_sheet s m args below meth c H locs 0 0 Q (F0 m pc ls [.int res.1])) (l1 : Int32) (l3 : Int32) (dln : Nat → Int32) (dsz : Nat → Int32) : ∀ (n : Nat) (l4 : Int32) (dit : Nat → Int32), f_X9_sheet_46 N l1 l3 dln dsz n l4 dit = some res → ∀ (H : Heap) (locs : List Loc) (ls : Array Slot), va_P D vwCl (w_model ky aM mxs mus mys mgp mtp mme mle mlt mkl mln msz mit mmv mrm mer mtd mat mwr mkn mmb mwa mra mbl mbh dxs dus dys dgp dtp dme dle dlt dkl dln dsz dit dmv) H → va_D A (w_model ky aM mxs mus mys mgp mtp mme mle mlt mkl mln msz mit mmv mrm mer mtd mat mwr mkn mmb mwa mra mbl mbh dxs dus dys dgp dtp dme dle dlt dkl dln dsz dit dmv) → va_S A s.heap H locs → lv_has ls 5 [(0, .ref aM), (1, .int l1), (3, .int l3), (4, .int l4)] → W p l e rm_X9_sheet s m args below meth c H locs 0 0 Q (F0 m 46 ls []) := by
  obtain ⟨hx, hb, hml, hown, hts, hK, hA⟩ := id C
  intro n
  induction n with
  | zero =>
    intro l4 dit hF
    cases hF
  | succ n ih =>
    intro l4 dit hF H locs ls hP hD hS hl
    have hF : b_X9_sheet_46 N l1 l3 dln dsz (f_X9_sheet_46 N l1 l3 dln dsz n) l4 dit = some res := hF
    unfold b_X9_sheet_46 at hF
    refine lv_iload hx hb dX9_sheet_46 (lv_at hl 3 rfl) ?_
    refine lv_bipush (v := (36 : Int32)) hx hb dX9_sheet_48 (by decide) ?_
    refine lv_icmp_ge (tgt := 72) hx hb dX9_sheet_50 (by decide) (fun c11 => ?_) (fun c11 => ?_)
    · have hF := if_t c11 hF
      refine lv_iload_n hx hb dX9_sheet_72 rfl (lv_at hl 2 rfl) ?_
      have hF := Option.some.inj hF
      subst hF
      exact hQ _ H _ _ dX9_sheet_73 hP hD hS
    · have hF := if_f c11 hF
      refine lv_aload_n hx hb dX9_sheet_53 rfl (lv_at hl 0 rfl) ?_
      refine va_get (D := D) (ci := 8) (v := .ref mit) (C := RX9) (T := TX9) (N := 24) hx hb hts iX9_sheet_X9 hown hK hP 0 rfl rfl 22 (by decide) (hts _ kX9_sheet_3) (fun _ h9 => h9) rfl dX9_sheet_54 ?_
      refine lv_bipush (v := (36 : Int32)) hx hb dX9_sheet_57 (by decide) ?_
      refine lv_iload_n hx hb dX9_sheet_59 rfl (lv_at hl 1 rfl) ?_
      refine lv_imul hx hb dX9_sheet_60 ?_
      refine lv_iload hx hb dX9_sheet_61 (lv_at hl 3 rfl) ?_
      refine lv_iadd hx hb dX9_sheet_63 ?_
      refine lv_iconst (v := (0 : Int32)) hx hb dX9_sheet_64 (by decide) ?_
      obtain ⟨h12, hF⟩ := gi_s hF
      refine va_iast hx hb hK hP hD hS 12 0 rfl rfl h12 dX9_sheet_65 (fun H locs hP hD hS => ?_)
      have hP : va_P D vwCl (w_model ky aM mxs mus mys mgp mtp mme mle mlt mkl mln msz mit mmv mrm mer mtd mat mwr mkn mmb mwa mra mbl mbh dxs dus dys dgp dtp dme dle dlt dkl dln dsz (upd dit (((36 : Int32) * l1) + l4).toNatClampNeg (0 : Int32)) dmv) H := hP
      have hD : va_D A (w_model ky aM mxs mus mys mgp mtp mme mle mlt mkl mln msz mit mmv mrm mer mtd mat mwr mkn mmb mwa mra mbl mbh dxs dus dys dgp dtp dme dle dlt dkl dln dsz (upd dit (((36 : Int32) * l1) + l4).toNatClampNeg (0 : Int32)) dmv) := hD
      refine lv_iinc (v := (l4 + (1 : Int32))) (lv' := [(4, .int (l4 + (1 : Int32))), (0, .ref aM), (1, .int l1), (3, .int l3)]) hx hb dX9_sheet_66 hl (k := 3) rfl rfl (by decide) rfl (fun ls hl => ?_)
      refine lv_goto (tgt := 46) hx hb dX9_sheet_69 (by decide) ?_
      exact ih (l4 + (1 : Int32)) (upd dit (((36 : Int32) * l1) + l4).toNatClampNeg (0 : Int32)) hF H _ _ hP hD hS (lv_sub hl [1, 2, 3, 0] rfl)
set_option maxHeartbeats 4000000 in
set_option maxRecDepth 100000 in
theorem cr_X9_sheet (l : Launch) (D : va_G) (ky : Nat → ClassId) (aM mxs mus mys mgp mtp mme mle mlt mkl mln msz mit mmv : Nat) (sz N : Nat)  (mrm : Int32) (mer : Int32) (mtd : Int32) (mat : Int32) (mwr : Int32) (mkn : Int32) (mmb : Int32) (mwa : Int32) (mra : Int32) (mbl : Int32) (mbh : Int32) (dxs : Nat → Int32) (dus : Nat → Int32) (dys : Nat → Int32) (dgp : Nat → Int32) (dtp : Nat → Int32) (dme : Nat → Int32) (dle : Nat → Int32) (dlt : Nat → Int32) (dkl : Nat → Int32) (dln : Nat → Int32) (dsz : Nat → Int32) (dit : Nat → Int32) (dmv : Nat → Int32) (p0 : Int32) (p1 : Int32) (p2 : Int32) (res : Int32 × (Nat → Int32) × (Nat → Int32) × (Nat → Int32)) (hF : f_X9_sheet N p0 p1 p2 dln dsz dit = some res) : MI l yX9_sheet wsX9_sheet rm_X9_sheet D ky sz [.ref aM, .int p0, .int p1, .int p2] (w_model ky aM mxs mus mys mgp mtp mme mle mlt mkl mln msz mit mmv mrm mer mtd mat mwr mkn mmb mwa mra mbl mbh dxs dus dys dgp dtp dme dle dlt dkl dln dsz dit dmv) (w_model ky aM mxs mus mys mgp mtp mme mle mlt mkl mln msz mit mmv mrm mer mtd mat mwr mkn mmb mwa mra mbl mbh dxs dus dys dgp dtp dme dle dlt dkl res.2.1 res.2.2.1 res.2.2.2 dmv) res.1 := by
  unfold MI
  refine Met.ofW (cc := cX9_sheet) (maxL := 5) (ret := (some .int)) (by decide) rfl ?_
  intro p e s m args below meth c s₁ B hml hv
  obtain ⟨rfl, hsz, hP, hK, hD0⟩ := hv
  have hx := B.exec
  have hb := B.bytes
  have hr := B.returns
  have hts := atoms_spec (ws := wsX9_sheet) B.pre
  have hown : s.vm.findClass RX9 = some m.cls := findClass_of_methodNamed B.named
  have hlocks := B.notSynchronized
  subst hsz
  have hD := hD0.self (sz := s.heap.size)
  generalize hAe : va_A (w_model ky aM mxs mus mys mgp mtp mme mle mlt mkl mln msz mit mmv mrm mer mtd mat mwr mkn mmb mwa mra mbl mbh dxs dus dys dgp dtp dme dle dlt dkl dln dsz dit dmv) s.heap.size = A at hD ⊢
  have hA : ∀ q : Nat, s.heap.size ≤ q → A q := fun q h => by rw [← hAe]; exact Or.inr h
  have hS : va_S A s.heap s.heap [] := va_S.rf
  have hP : va_P D vwCl (w_model ky aM mxs mus mys mgp mtp mme mle mlt mkl mln msz mit mmv mrm mer mtd mat mwr mkn mmb mwa mra mbl mbh dxs dus dys dgp dtp dme dle dlt dkl dln dsz dit dmv) s.heap := hP
  have hl := lv_entry ([.ref aM, .int p0, .int p1, .int p2]) (n := 5) (Nat.le_of_ble_eq_true rfl)
  rw [lg_entry_eq]
  generalize (lg_sl ([.ref aM, .int p0, .int p1, .int p2]) ++ List.replicate (5 - (lg_sl ([.ref aM, .int p0, .int p1, .int p2])).length) Slot.unset).toArray = ls at hl ⊢
  have hl : lv_has ls 5 [(0, .ref aM), (1, .int p0), (2, .int p1), (3, .int p2)] := hl
  have C : cx p s m c ([.ref aM, .int p0, .int p1, .int p2]).toArray D ky A cX9_sheet 5 wsX9_sheet RX9 := ⟨hx, hb, hml, hown, hts, hK, hA⟩
  have hQ : ∀ (pc : Nat) (H : Heap) (locs : List Loc) (ls : Array Slot), decode cX9_sheet pc = .ok (.ireturn, 1) → va_P D vwCl (w_model ky aM mxs mus mys mgp mtp mme mle mlt mkl mln msz mit mmv mrm mer mtd mat mwr mkn mmb mwa mra mbl mbh dxs dus dys dgp dtp dme dle dlt dkl res.2.1 res.2.2.1 res.2.2.2 dmv) H → va_D A (w_model ky aM mxs mus mys mgp mtp mme mle mlt mkl mln msz mit mmv mrm mer mtd mat mwr mkn mmb mwa mra mbl mbh dxs dus dys dgp dtp dme dle dlt dkl res.2.1 res.2.2.1 res.2.2.2 dmv) → va_S A s.heap H locs → W p l e rm_X9_sheet s m ([.ref aM, .int p0, .int p1, .int p2]).toArray below meth c H locs 0 0 (MQ below (va_Qi (S := Unit) (fun r _ => r = res.1) (fun _ t => va_P D vwCl (w_model ky aM mxs mus mys mgp mtp mme mle mlt mkl mln msz mit mmv mrm mer mtd mat mwr mkn mmb mwa mra mbl mbh dxs dus dys dgp dtp dme dle dlt dkl res.2.1 res.2.2.1 res.2.2.2 dmv) t.heap ∧ va_K D vwCl (tyW ky) t ∧ va_D A (w_model ky aM mxs mus mys mgp mtp mme mle mlt mkl mln msz mit mmv mrm mer mtd mat mwr mkn mmb mwa mra mbl mbh dxs dus dys dgp dtp dme dle dlt dkl res.2.1 res.2.2.1 res.2.2.2 dmv)) A) ([.ref aM, .int p0, .int p1, .int p2]).toArray s 0 0 A) (F0 m pc ls [.int res.1]) := fun pc H locs ls hd hP hD hS => W.iret hx hb hr (fun t ht hW => ⟨⟨res.1, (), rfl, rfl, by rw [ht]; exact hP, va_K.moved hW.alike hK, hD⟩, hS.F ht⟩) hS.2.2 hd
  unfold f_X9_sheet at hF
  refine lv_iload_n hx hb dX9_sheet_0 rfl (lv_at hl 1 rfl) ?_
  obtain ⟨r2, h1, hF⟩ := b1_s hF
  refine cl_si (As := [.int p0]) (rest := []) ⟨hx, hb, hml, hown, hts⟩ hK hP hD hS hA (c_X9_isSheet l D ky  _ N   p0 r2 h1) (va_cwS 1 hts gX9_sheet_X9_isSheet rfl rfl rfl (by decide +kernel) ⟨Nat.le_of_ble_eq_true rfl, Nat.le_of_ble_eq_true rfl⟩) rfl hl.1 (Nat.le_of_ble_eq_true rfl) dX9_sheet_1 ⟨Nat.zero_le _, Nat.zero_le _⟩ (fun H locs hP hD hS => ?_)
  refine lv_if_eq (tgt := 20) hx hb dX9_sheet_4 (by decide) (fun c3 => ?_) (fun c3 => ?_)
  · have hF := if_t c3 hF
    refine lv_iconst (v := (-1 : Int32)) hx hb dX9_sheet_20 (by decide) ?_
    have hF := Option.some.inj hF
    subst hF
    exact hQ _ _ _ _ dX9_sheet_21 hP hD hS
  · have hF := if_f c3 hF
    refine lv_iload_n hx hb dX9_sheet_7 rfl (lv_at hl 2 rfl) ?_
    obtain ⟨r5, h4, hF⟩ := b1_s hF
    refine cl_si (As := [.int p1]) (rest := []) ⟨hx, hb, hml, hown, hts⟩ hK hP hD hS hA (c_X9_isLane l D ky  _ N   p1 r5 h4) (va_cwS 1 hts gX9_sheet_X9_isLane rfl rfl rfl (by decide +kernel) ⟨Nat.le_of_ble_eq_true rfl, Nat.le_of_ble_eq_true rfl⟩) rfl hl.1 (Nat.le_of_ble_eq_true rfl) dX9_sheet_8 ⟨Nat.zero_le _, Nat.zero_le _⟩ (fun H locs hP hD hS => ?_)
    refine lv_if_eq (tgt := 20) hx hb dX9_sheet_11 (by decide) (fun c6 => ?_) (fun c6 => ?_)
    · have hF := if_t c6 hF
      refine lv_iconst (v := (-1 : Int32)) hx hb dX9_sheet_20 (by decide) ?_
      have hF := Option.some.inj hF
      subst hF
      exact hQ _ _ _ _ dX9_sheet_21 hP hD hS
    · have hF := if_f c6 hF
      refine lv_iload_n hx hb dX9_sheet_14 rfl (lv_at hl 3 rfl) ?_
      refine lv_bipush (v := (36 : Int32)) hx hb dX9_sheet_15 (by decide) ?_
      refine lv_icmp_le (tgt := 22) hx hb dX9_sheet_17 (by decide) (fun c7 => ?_) (fun c7 => ?_)
      · have hF := if_t c7 hF
        refine lv_iload_n hx hb dX9_sheet_22 rfl (lv_at hl 3 rfl) ?_
        refine lv_if_ge (tgt := 29) hx hb dX9_sheet_23 (by decide) (fun c8 => ?_) (fun c8 => ?_)
        · have hF := if_t c8 hF
          refine lv_aload_n hx hb dX9_sheet_29 rfl (lv_at hl 0 rfl) ?_
          refine va_get (D := D) (ci := 8) (v := .ref mln) (C := RX9) (T := TX9) (N := 24) hx hb hts iX9_sheet_X9 hown hK hP 0 rfl rfl 20 (by decide) (hts _ kX9_sheet_1) (fun _ h9 => h9) rfl dX9_sheet_30 ?_
          refine lv_iload_n hx hb dX9_sheet_33 rfl (lv_at hl 1 rfl) ?_
          refine lv_iload_n hx hb dX9_sheet_34 rfl (lv_at hl 2 rfl) ?_
          obtain ⟨h9, hF⟩ := gi_s hF
          refine va_iast hx hb hK hP hD hS 10 0 rfl rfl h9 dX9_sheet_35 (fun H locs hP hD hS => ?_)
          have hP : va_P D vwCl (w_model ky aM mxs mus mys mgp mtp mme mle mlt mkl mln msz mit mmv mrm mer mtd mat mwr mkn mmb mwa mra mbl mbh dxs dus dys dgp dtp dme dle dlt dkl (upd dln p0.toNatClampNeg p1) dsz dit dmv) H := hP
          have hD : va_D A (w_model ky aM mxs mus mys mgp mtp mme mle mlt mkl mln msz mit mmv mrm mer mtd mat mwr mkn mmb mwa mra mbl mbh dxs dus dys dgp dtp dme dle dlt dkl (upd dln p0.toNatClampNeg p1) dsz dit dmv) := hD
          refine lv_aload_n hx hb dX9_sheet_36 rfl (lv_at hl 0 rfl) ?_
          refine va_get (D := D) (ci := 8) (v := .ref msz) (C := RX9) (T := TX9) (N := 24) hx hb hts iX9_sheet_X9 hown hK hP 0 rfl rfl 21 (by decide) (hts _ kX9_sheet_2) (fun _ h9 => h9) rfl dX9_sheet_37 ?_
          refine lv_iload_n hx hb dX9_sheet_40 rfl (lv_at hl 1 rfl) ?_
          refine lv_iload_n hx hb dX9_sheet_41 rfl (lv_at hl 3 rfl) ?_
          obtain ⟨h10, hF⟩ := gi_s hF
          refine va_iast hx hb hK hP hD hS 11 0 rfl rfl h10 dX9_sheet_42 (fun H locs hP hD hS => ?_)
          have hP : va_P D vwCl (w_model ky aM mxs mus mys mgp mtp mme mle mlt mkl mln msz mit mmv mrm mer mtd mat mwr mkn mmb mwa mra mbl mbh dxs dus dys dgp dtp dme dle dlt dkl (upd dln p0.toNatClampNeg p1) (upd dsz p0.toNatClampNeg p2) dit dmv) H := hP
          have hD : va_D A (w_model ky aM mxs mus mys mgp mtp mme mle mlt mkl mln msz mit mmv mrm mer mtd mat mwr mkn mmb mwa mra mbl mbh dxs dus dys dgp dtp dme dle dlt dkl (upd dln p0.toNatClampNeg p1) (upd dsz p0.toNatClampNeg p2) dit dmv) := hD
          refine lv_iconst (v := (0 : Int32)) hx hb dX9_sheet_43 (by decide) ?_
          refine lv_istore (lv' := [(4, .int (0 : Int32)), (0, .ref aM), (1, .int p0), (2, .int p1), (3, .int p2)]) hx hb dX9_sheet_44 hl (by decide) rfl (fun ls hl => ?_)
          exact w_X9_sheet_46 N C res hQ p0 p2 (upd dln p0.toNatClampNeg p1) (upd dsz p0.toNatClampNeg p2) N (0 : Int32) dit hF _ _ _ hP hD hS (lv_sub hl [1, 2, 4, 0] rfl)
        · have hF := if_f c8 hF
          refine lv_bipush (v := (-14 : Int32)) hx hb dX9_sheet_26 (by decide) ?_
          have hF := Option.some.inj hF
          subst hF
          exact hQ _ _ _ _ dX9_sheet_28 hP hD hS
      · have hF := if_f c7 hF
        refine lv_iconst (v := (-1 : Int32)) hx hb dX9_sheet_20 (by decide) ?_
        have hF := Option.some.inj hF
        subst hF
        exact hQ _ _ _ _ dX9_sheet_21 hP hD hS
theorem c_X9_sheet (l : Launch) (D : va_G) (ky : Nat → ClassId) (aM mxs mus mys mgp mtp mme mle mlt mkl mln msz mit mmv : Nat) (sz N : Nat)  (mrm : Int32) (mer : Int32) (mtd : Int32) (mat : Int32) (mwr : Int32) (mkn : Int32) (mmb : Int32) (mwa : Int32) (mra : Int32) (mbl : Int32) (mbh : Int32) (dxs : Nat → Int32) (dus : Nat → Int32) (dys : Nat → Int32) (dgp : Nat → Int32) (dtp : Nat → Int32) (dme : Nat → Int32) (dle : Nat → Int32) (dlt : Nat → Int32) (dkl : Nat → Int32) (dln : Nat → Int32) (dsz : Nat → Int32) (dit : Nat → Int32) (dmv : Nat → Int32) (p0 : Int32) (p1 : Int32) (p2 : Int32) (rv : Int32) (dln' : Nat → Int32) (dsz' : Nat → Int32) (dit' : Nat → Int32) (hF : f_X9_sheet N p0 p1 p2 dln dsz dit = some (rv, dln', dsz', dit')) : MI l yX9_sheet wsX9_sheet rm_X9_sheet D ky sz [.ref aM, .int p0, .int p1, .int p2] (w_model ky aM mxs mus mys mgp mtp mme mle mlt mkl mln msz mit mmv mrm mer mtd mat mwr mkn mmb mwa mra mbl mbh dxs dus dys dgp dtp dme dle dlt dkl dln dsz dit dmv) (w_model ky aM mxs mus mys mgp mtp mme mle mlt mkl mln msz mit mmv mrm mer mtd mat mwr mkn mmb mwa mra mbl mbh dxs dus dys dgp dtp dme dle dlt dkl dln' dsz' dit' dmv) rv :=
  cr_X9_sheet l D ky aM mxs mus mys mgp mtp mme mle mlt mkl mln msz mit mmv sz N mrm mer mtd mat mwr mkn mmb mwa mra mbl mbh dxs dus dys dgp dtp dme dle dlt dkl dln dsz dit dmv p0 p1 p2 (rv, dln', dsz', dit') hF
abbrev rm_X9_drop : Room := { frames := 2, cells := 0, slots := 0, locals := 45 }
theorem iX9_drop_X9 : ∀ w ∈ wsX90, w ∈ wsX9_drop := by decide +kernel
theorem kX9_drop_1 : (Cond.fieldLink RX9 42 "TwoLawsModel" "lanes" "[I") ∈ wsX9_drop := by decide +kernel
theorem kX9_drop_2 : (Cond.fieldLink RX9 45 "TwoLawsModel" "sizes" "[I") ∈ wsX9_drop := by decide +kernel
set_option maxHeartbeats 4000000 in
set_option maxRecDepth 100000 in
theorem cr_X9_drop (l : Launch) (D : va_G) (ky : Nat → ClassId) (aM mxs mus mys mgp mtp mme mle mlt mkl mln msz mit mmv : Nat) (sz N : Nat)  (mrm : Int32) (mer : Int32) (mtd : Int32) (mat : Int32) (mwr : Int32) (mkn : Int32) (mmb : Int32) (mwa : Int32) (mra : Int32) (mbl : Int32) (mbh : Int32) (dxs : Nat → Int32) (dus : Nat → Int32) (dys : Nat → Int32) (dgp : Nat → Int32) (dtp : Nat → Int32) (dme : Nat → Int32) (dle : Nat → Int32) (dlt : Nat → Int32) (dkl : Nat → Int32) (dln : Nat → Int32) (dsz : Nat → Int32) (dit : Nat → Int32) (dmv : Nat → Int32) (p0 : Int32) (res : Int32 × (Nat → Int32)) (hF : f_X9_drop N p0 dln dsz = some res) : MI l yX9_drop wsX9_drop rm_X9_drop D ky sz [.ref aM, .int p0] (w_model ky aM mxs mus mys mgp mtp mme mle mlt mkl mln msz mit mmv mrm mer mtd mat mwr mkn mmb mwa mra mbl mbh dxs dus dys dgp dtp dme dle dlt dkl dln dsz dit dmv) (w_model ky aM mxs mus mys mgp mtp mme mle mlt mkl mln msz mit mmv mrm mer mtd mat mwr mkn mmb mwa mra mbl mbh dxs dus dys dgp dtp dme dle dlt dkl res.2 dsz dit dmv) res.1 := by
  unfold MI
  refine Met.ofW (cc := cX9_drop) (maxL := 2) (ret := (some .int)) (by decide) rfl ?_
  intro p e s m args below meth c s₁ B hml hv
  obtain ⟨rfl, hsz, hP, hK, hD0⟩ := hv
  have hx := B.exec
  have hb := B.bytes
  have hr := B.returns
  have hts := atoms_spec (ws := wsX9_drop) B.pre
  have hown : s.vm.findClass RX9 = some m.cls := findClass_of_methodNamed B.named
  have hlocks := B.notSynchronized
  subst hsz
  have hD := hD0.self (sz := s.heap.size)
  generalize hAe : va_A (w_model ky aM mxs mus mys mgp mtp mme mle mlt mkl mln msz mit mmv mrm mer mtd mat mwr mkn mmb mwa mra mbl mbh dxs dus dys dgp dtp dme dle dlt dkl dln dsz dit dmv) s.heap.size = A at hD ⊢
  have hA : ∀ q : Nat, s.heap.size ≤ q → A q := fun q h => by rw [← hAe]; exact Or.inr h
  have hS : va_S A s.heap s.heap [] := va_S.rf
  have hP : va_P D vwCl (w_model ky aM mxs mus mys mgp mtp mme mle mlt mkl mln msz mit mmv mrm mer mtd mat mwr mkn mmb mwa mra mbl mbh dxs dus dys dgp dtp dme dle dlt dkl dln dsz dit dmv) s.heap := hP
  have hl := lv_entry ([.ref aM, .int p0]) (n := 2) (Nat.le_of_ble_eq_true rfl)
  rw [lg_entry_eq]
  generalize (lg_sl ([.ref aM, .int p0]) ++ List.replicate (2 - (lg_sl ([.ref aM, .int p0])).length) Slot.unset).toArray = ls at hl ⊢
  have hl : lv_has ls 2 [(0, .ref aM), (1, .int p0)] := hl
  have C : cx p s m c ([.ref aM, .int p0]).toArray D ky A cX9_drop 2 wsX9_drop RX9 := ⟨hx, hb, hml, hown, hts, hK, hA⟩
  have hQ : ∀ (pc : Nat) (H : Heap) (locs : List Loc) (ls : Array Slot), decode cX9_drop pc = .ok (.ireturn, 1) → va_P D vwCl (w_model ky aM mxs mus mys mgp mtp mme mle mlt mkl mln msz mit mmv mrm mer mtd mat mwr mkn mmb mwa mra mbl mbh dxs dus dys dgp dtp dme dle dlt dkl res.2 dsz dit dmv) H → va_D A (w_model ky aM mxs mus mys mgp mtp mme mle mlt mkl mln msz mit mmv mrm mer mtd mat mwr mkn mmb mwa mra mbl mbh dxs dus dys dgp dtp dme dle dlt dkl res.2 dsz dit dmv) → va_S A s.heap H locs → W p l e rm_X9_drop s m ([.ref aM, .int p0]).toArray below meth c H locs 0 0 (MQ below (va_Qi (S := Unit) (fun r _ => r = res.1) (fun _ t => va_P D vwCl (w_model ky aM mxs mus mys mgp mtp mme mle mlt mkl mln msz mit mmv mrm mer mtd mat mwr mkn mmb mwa mra mbl mbh dxs dus dys dgp dtp dme dle dlt dkl res.2 dsz dit dmv) t.heap ∧ va_K D vwCl (tyW ky) t ∧ va_D A (w_model ky aM mxs mus mys mgp mtp mme mle mlt mkl mln msz mit mmv mrm mer mtd mat mwr mkn mmb mwa mra mbl mbh dxs dus dys dgp dtp dme dle dlt dkl res.2 dsz dit dmv)) A) ([.ref aM, .int p0]).toArray s 0 0 A) (F0 m pc ls [.int res.1]) := fun pc H locs ls hd hP hD hS => W.iret hx hb hr (fun t ht hW => ⟨⟨res.1, (), rfl, rfl, by rw [ht]; exact hP, va_K.moved hW.alike hK, hD⟩, hS.F ht⟩) hS.2.2 hd
  unfold f_X9_drop at hF
  refine lv_iload_n hx hb dX9_drop_0 rfl (lv_at hl 1 rfl) ?_
  obtain ⟨r2, h1, hF⟩ := b1_s hF
  refine cl_si (As := [.int p0]) (rest := []) ⟨hx, hb, hml, hown, hts⟩ hK hP hD hS hA (c_X9_isSheet l D ky  _ N   p0 r2 h1) (va_cwS 1 hts gX9_drop_X9_isSheet rfl rfl rfl (by decide +kernel) ⟨Nat.le_of_ble_eq_true rfl, Nat.le_of_ble_eq_true rfl⟩) rfl hl.1 (Nat.le_of_ble_eq_true rfl) dX9_drop_1 ⟨Nat.zero_le _, Nat.zero_le _⟩ (fun H locs hP hD hS => ?_)
  refine lv_if_ne (tgt := 9) hx hb dX9_drop_4 (by decide) (fun c3 => ?_) (fun c3 => ?_)
  · have hF := if_f c3 hF
    refine lv_aload_n hx hb dX9_drop_9 rfl (lv_at hl 0 rfl) ?_
    refine va_get (D := D) (ci := 8) (v := .ref mln) (C := RX9) (T := TX9) (N := 24) hx hb hts iX9_drop_X9 hown hK hP 0 rfl rfl 20 (by decide) (hts _ kX9_drop_1) (fun _ h9 => h9) rfl dX9_drop_10 ?_
    refine lv_iload_n hx hb dX9_drop_13 rfl (lv_at hl 1 rfl) ?_
    obtain ⟨h4, hF⟩ := gi_s hF
    refine va_iald hx hb hK hP 10 0 rfl rfl h4 dX9_drop_14 ?_
    refine lv_if_ge (tgt := 21) hx hb dX9_drop_15 (by decide) (fun c5 => ?_) (fun c5 => ?_)
    · have hF := if_t c5 hF
      refine lv_aload_n hx hb dX9_drop_21 rfl (lv_at hl 0 rfl) ?_
      refine va_get (D := D) (ci := 8) (v := .ref mln) (C := RX9) (T := TX9) (N := 24) hx hb hts iX9_drop_X9 hown hK hP 0 rfl rfl 20 (by decide) (hts _ kX9_drop_1) (fun _ h9 => h9) rfl dX9_drop_22 ?_
      refine lv_iload_n hx hb dX9_drop_25 rfl (lv_at hl 1 rfl) ?_
      refine lv_iconst (v := (-1 : Int32)) hx hb dX9_drop_26 (by decide) ?_
      obtain ⟨h6, hF⟩ := gi_s hF
      refine va_iast hx hb hK hP hD hS 10 0 rfl rfl h6 dX9_drop_27 (fun H locs hP hD hS => ?_)
      have hP : va_P D vwCl (w_model ky aM mxs mus mys mgp mtp mme mle mlt mkl mln msz mit mmv mrm mer mtd mat mwr mkn mmb mwa mra mbl mbh dxs dus dys dgp dtp dme dle dlt dkl (upd dln p0.toNatClampNeg (-1 : Int32)) dsz dit dmv) H := hP
      have hD : va_D A (w_model ky aM mxs mus mys mgp mtp mme mle mlt mkl mln msz mit mmv mrm mer mtd mat mwr mkn mmb mwa mra mbl mbh dxs dus dys dgp dtp dme dle dlt dkl (upd dln p0.toNatClampNeg (-1 : Int32)) dsz dit dmv) := hD
      refine lv_aload_n hx hb dX9_drop_28 rfl (lv_at hl 0 rfl) ?_
      refine va_get (D := D) (ci := 8) (v := .ref msz) (C := RX9) (T := TX9) (N := 24) hx hb hts iX9_drop_X9 hown hK hP 0 rfl rfl 21 (by decide) (hts _ kX9_drop_2) (fun _ h9 => h9) rfl dX9_drop_29 ?_
      refine lv_iload_n hx hb dX9_drop_32 rfl (lv_at hl 1 rfl) ?_
      obtain ⟨h7, hF⟩ := gi_s hF
      refine va_iald hx hb hK hP 11 0 rfl rfl h7 dX9_drop_33 ?_
      have hF := Option.some.inj hF
      subst hF
      exact hQ _ _ _ _ dX9_drop_34 hP hD hS
    · have hF := if_f c5 hF
      refine lv_bipush (v := (-11 : Int32)) hx hb dX9_drop_18 (by decide) ?_
      have hF := Option.some.inj hF
      subst hF
      exact hQ _ _ _ _ dX9_drop_20 hP hD hS
  · have hF := if_t c3 hF
    refine lv_iconst (v := (-1 : Int32)) hx hb dX9_drop_7 (by decide) ?_
    have hF := Option.some.inj hF
    subst hF
    exact hQ _ _ _ _ dX9_drop_8 hP hD hS
theorem c_X9_drop (l : Launch) (D : va_G) (ky : Nat → ClassId) (aM mxs mus mys mgp mtp mme mle mlt mkl mln msz mit mmv : Nat) (sz N : Nat)  (mrm : Int32) (mer : Int32) (mtd : Int32) (mat : Int32) (mwr : Int32) (mkn : Int32) (mmb : Int32) (mwa : Int32) (mra : Int32) (mbl : Int32) (mbh : Int32) (dxs : Nat → Int32) (dus : Nat → Int32) (dys : Nat → Int32) (dgp : Nat → Int32) (dtp : Nat → Int32) (dme : Nat → Int32) (dle : Nat → Int32) (dlt : Nat → Int32) (dkl : Nat → Int32) (dln : Nat → Int32) (dsz : Nat → Int32) (dit : Nat → Int32) (dmv : Nat → Int32) (p0 : Int32) (rv : Int32) (dln' : Nat → Int32) (hF : f_X9_drop N p0 dln dsz = some (rv, dln')) : MI l yX9_drop wsX9_drop rm_X9_drop D ky sz [.ref aM, .int p0] (w_model ky aM mxs mus mys mgp mtp mme mle mlt mkl mln msz mit mmv mrm mer mtd mat mwr mkn mmb mwa mra mbl mbh dxs dus dys dgp dtp dme dle dlt dkl dln dsz dit dmv) (w_model ky aM mxs mus mys mgp mtp mme mle mlt mkl mln msz mit mmv mrm mer mtd mat mwr mkn mmb mwa mra mbl mbh dxs dus dys dgp dtp dme dle dlt dkl dln' dsz dit dmv) rv :=
  cr_X9_drop l D ky aM mxs mus mys mgp mtp mme mle mlt mkl mln msz mit mmv sz N mrm mer mtd mat mwr mkn mmb mwa mra mbl mbh dxs dus dys dgp dtp dme dle dlt dkl dln dsz dit dmv p0 (rv, dln') hF
abbrev rm_X9_item : Room := { frames := 2, cells := 0, slots := 0, locals := 45 }
theorem iX9_item_X9 : ∀ w ∈ wsX90, w ∈ wsX9_item := by decide +kernel
theorem kX9_item_1 : (Cond.fieldLink RX9 48 "TwoLawsModel" "items" "[I") ∈ wsX9_item := by decide +kernel
set_option maxHeartbeats 4000000 in
set_option maxRecDepth 100000 in
theorem cr_X9_item (l : Launch) (D : va_G) (ky : Nat → ClassId) (aM mxs mus mys mgp mtp mme mle mlt mkl mln msz mit mmv : Nat) (sz N : Nat)  (mrm : Int32) (mer : Int32) (mtd : Int32) (mat : Int32) (mwr : Int32) (mkn : Int32) (mmb : Int32) (mwa : Int32) (mra : Int32) (mbl : Int32) (mbh : Int32) (dxs : Nat → Int32) (dus : Nat → Int32) (dys : Nat → Int32) (dgp : Nat → Int32) (dtp : Nat → Int32) (dme : Nat → Int32) (dle : Nat → Int32) (dlt : Nat → Int32) (dkl : Nat → Int32) (dln : Nat → Int32) (dsz : Nat → Int32) (dit : Nat → Int32) (dmv : Nat → Int32) (p0 : Int32) (p1 : Int32) (p2 : Int32) (p3 : Int32) (res : Int32 × (Nat → Int32)) (hF : f_X9_item N p0 p1 p2 p3 dln dsz dit = some res) : MI l yX9_item wsX9_item rm_X9_item D ky sz [.ref aM, .int p0, .int p1, .int p2, .int p3] (w_model ky aM mxs mus mys mgp mtp mme mle mlt mkl mln msz mit mmv mrm mer mtd mat mwr mkn mmb mwa mra mbl mbh dxs dus dys dgp dtp dme dle dlt dkl dln dsz dit dmv) (w_model ky aM mxs mus mys mgp mtp mme mle mlt mkl mln msz mit mmv mrm mer mtd mat mwr mkn mmb mwa mra mbl mbh dxs dus dys dgp dtp dme dle dlt dkl dln dsz res.2 dmv) res.1 := by
  unfold MI
  refine Met.ofW (cc := cX9_item) (maxL := 6) (ret := (some .int)) (by decide) rfl ?_
  intro p e s m args below meth c s₁ B hml hv
  obtain ⟨rfl, hsz, hP, hK, hD0⟩ := hv
  have hx := B.exec
  have hb := B.bytes
  have hr := B.returns
  have hts := atoms_spec (ws := wsX9_item) B.pre
  have hown : s.vm.findClass RX9 = some m.cls := findClass_of_methodNamed B.named
  have hlocks := B.notSynchronized
  subst hsz
  have hD := hD0.self (sz := s.heap.size)
  generalize hAe : va_A (w_model ky aM mxs mus mys mgp mtp mme mle mlt mkl mln msz mit mmv mrm mer mtd mat mwr mkn mmb mwa mra mbl mbh dxs dus dys dgp dtp dme dle dlt dkl dln dsz dit dmv) s.heap.size = A at hD ⊢
  have hA : ∀ q : Nat, s.heap.size ≤ q → A q := fun q h => by rw [← hAe]; exact Or.inr h
  have hS : va_S A s.heap s.heap [] := va_S.rf
  have hP : va_P D vwCl (w_model ky aM mxs mus mys mgp mtp mme mle mlt mkl mln msz mit mmv mrm mer mtd mat mwr mkn mmb mwa mra mbl mbh dxs dus dys dgp dtp dme dle dlt dkl dln dsz dit dmv) s.heap := hP
  have hl := lv_entry ([.ref aM, .int p0, .int p1, .int p2, .int p3]) (n := 6) (Nat.le_of_ble_eq_true rfl)
  rw [lg_entry_eq]
  generalize (lg_sl ([.ref aM, .int p0, .int p1, .int p2, .int p3]) ++ List.replicate (6 - (lg_sl ([.ref aM, .int p0, .int p1, .int p2, .int p3])).length) Slot.unset).toArray = ls at hl ⊢
  have hl : lv_has ls 6 [(0, .ref aM), (1, .int p0), (2, .int p1), (3, .int p2), (4, .int p3)] := hl
  have C : cx p s m c ([.ref aM, .int p0, .int p1, .int p2, .int p3]).toArray D ky A cX9_item 6 wsX9_item RX9 := ⟨hx, hb, hml, hown, hts, hK, hA⟩
  have hQ : ∀ (pc : Nat) (H : Heap) (locs : List Loc) (ls : Array Slot), decode cX9_item pc = .ok (.ireturn, 1) → va_P D vwCl (w_model ky aM mxs mus mys mgp mtp mme mle mlt mkl mln msz mit mmv mrm mer mtd mat mwr mkn mmb mwa mra mbl mbh dxs dus dys dgp dtp dme dle dlt dkl dln dsz res.2 dmv) H → va_D A (w_model ky aM mxs mus mys mgp mtp mme mle mlt mkl mln msz mit mmv mrm mer mtd mat mwr mkn mmb mwa mra mbl mbh dxs dus dys dgp dtp dme dle dlt dkl dln dsz res.2 dmv) → va_S A s.heap H locs → W p l e rm_X9_item s m ([.ref aM, .int p0, .int p1, .int p2, .int p3]).toArray below meth c H locs 0 0 (MQ below (va_Qi (S := Unit) (fun r _ => r = res.1) (fun _ t => va_P D vwCl (w_model ky aM mxs mus mys mgp mtp mme mle mlt mkl mln msz mit mmv mrm mer mtd mat mwr mkn mmb mwa mra mbl mbh dxs dus dys dgp dtp dme dle dlt dkl dln dsz res.2 dmv) t.heap ∧ va_K D vwCl (tyW ky) t ∧ va_D A (w_model ky aM mxs mus mys mgp mtp mme mle mlt mkl mln msz mit mmv mrm mer mtd mat mwr mkn mmb mwa mra mbl mbh dxs dus dys dgp dtp dme dle dlt dkl dln dsz res.2 dmv)) A) ([.ref aM, .int p0, .int p1, .int p2, .int p3]).toArray s 0 0 A) (F0 m pc ls [.int res.1]) := fun pc H locs ls hd hP hD hS => W.iret hx hb hr (fun t ht hW => ⟨⟨res.1, (), rfl, rfl, by rw [ht]; exact hP, va_K.moved hW.alike hK, hD⟩, hS.F ht⟩) hS.2.2 hd
  unfold f_X9_item at hF
  refine lv_iload_n hx hb dX9_item_0 rfl (lv_at hl 1 rfl) ?_
  obtain ⟨r2, h1, hF⟩ := b1_s hF
  refine cl_si (As := [.int p0]) (rest := []) ⟨hx, hb, hml, hown, hts⟩ hK hP hD hS hA (c_X9_isSheet l D ky  _ N   p0 r2 h1) (va_cwS 1 hts gX9_item_X9_isSheet rfl rfl rfl (by decide +kernel) ⟨Nat.le_of_ble_eq_true rfl, Nat.le_of_ble_eq_true rfl⟩) rfl hl.1 (Nat.le_of_ble_eq_true rfl) dX9_item_1 ⟨Nat.zero_le _, Nat.zero_le _⟩ (fun H locs hP hD hS => ?_)
  refine lv_if_eq (tgt := 14) hx hb dX9_item_4 (by decide) (fun c3 => ?_) (fun c3 => ?_)
  · have hF := if_t c3 hF
    refine lv_iconst (v := (-1 : Int32)) hx hb dX9_item_14 (by decide) ?_
    have hF := Option.some.inj hF
    subst hF
    exact hQ _ _ _ _ dX9_item_15 hP hD hS
  · have hF := if_f c3 hF
    refine lv_iload_n hx hb dX9_item_7 rfl (lv_at hl 2 rfl) ?_
    obtain ⟨r5, h4, hF⟩ := b1_s hF
    refine cl_si (As := [.int p1]) (rest := []) ⟨hx, hb, hml, hown, hts⟩ hK hP hD hS hA (c_X9_isLane l D ky  _ N   p1 r5 h4) (va_cwS 1 hts gX9_item_X9_isLane rfl rfl rfl (by decide +kernel) ⟨Nat.le_of_ble_eq_true rfl, Nat.le_of_ble_eq_true rfl⟩) rfl hl.1 (Nat.le_of_ble_eq_true rfl) dX9_item_8 ⟨Nat.zero_le _, Nat.zero_le _⟩ (fun H locs hP hD hS => ?_)
    refine lv_if_ne (tgt := 16) hx hb dX9_item_11 (by decide) (fun c6 => ?_) (fun c6 => ?_)
    · have hF := if_f c6 hF
      refine lv_aload_n hx hb dX9_item_16 rfl (lv_at hl 0 rfl) ?_
      refine lv_iload_n hx hb dX9_item_17 rfl (lv_at hl 1 rfl) ?_
      refine lv_iload_n hx hb dX9_item_18 rfl (lv_at hl 2 rfl) ?_
      refine lv_iload_n hx hb dX9_item_19 rfl (lv_at hl 3 rfl) ?_
      refine lv_iconst (v := (1 : Int32)) hx hb dX9_item_20 (by decide) ?_
      obtain ⟨r8, h7, hF⟩ := b1_s hF
      refine cl_vi (As := [.int p0, .int p1, .int p2, .int (1 : Int32)]) (rest := []) (w' := (w_model ky aM mxs mus mys mgp mtp mme mle mlt mkl mln msz mit mmv mrm mer mtd mat mwr mkn mmb mwa mra mbl mbh dxs dus dys dgp dtp dme dle dlt dkl dln dsz dit dmv)) ⟨hx, hb, hml, hown, hts⟩ hK hP hD hS hA (c_X9_finds l D ky aM mxs mus mys mgp mtp mme mle mlt mkl mln msz mit mmv _ N  mrm mer mtd mat mwr mkn mmb mwa mra mbl mbh dxs dus dys dgp dtp dme dle dlt dkl dln dsz dit dmv p0 p1 p2 (1 : Int32) r8 h7) (cwV 4 hts gX9_item_X9_finds rfl rfl rfl (by decide +kernel) ⟨Nat.le_of_ble_eq_true rfl, Nat.le_of_ble_eq_true rfl⟩) [0, 1, 2, 3, 4, 5, 6, 7, 8, 9, 10, 11, 12, 13] [] [0, 1, 2, 3, 4, 5, 6, 7, 8, 9, 10, 11, 12, 13] 0 8 rfl rfl rfl rfl (wr := []) rfl (by decide) rfl rfl hl.1 (Nat.le_of_ble_eq_true rfl) dX9_item_21 ⟨Nat.zero_le _, Nat.zero_le _⟩ (fun H locs hP hD hS => ?_)
      refine lv_istore (lv' := [(5, .int r8), (0, .ref aM), (1, .int p0), (2, .int p1), (3, .int p2), (4, .int p3)]) hx hb dX9_item_24 hl (by decide) rfl (fun ls hl => ?_)
      refine lv_iload hx hb dX9_item_26 (lv_at hl 0 rfl) ?_
      refine lv_if_ge (tgt := 34) hx hb dX9_item_28 (by decide) (fun c9 => ?_) (fun c9 => ?_)
      · have hF := if_t c9 hF
        refine lv_aload_n hx hb dX9_item_34 rfl (lv_at hl 1 rfl) ?_
        refine va_get (D := D) (ci := 8) (v := .ref mit) (C := RX9) (T := TX9) (N := 24) hx hb hts iX9_item_X9 hown hK hP 0 rfl rfl 22 (by decide) (hts _ kX9_item_1) (fun _ h9 => h9) rfl dX9_item_35 ?_
        refine lv_bipush (v := (36 : Int32)) hx hb dX9_item_38 (by decide) ?_
        refine lv_iload_n hx hb dX9_item_40 rfl (lv_at hl 2 rfl) ?_
        refine lv_imul hx hb dX9_item_41 ?_
        refine lv_iload_n hx hb dX9_item_42 rfl (lv_at hl 4 rfl) ?_
        refine lv_iadd hx hb dX9_item_43 ?_
        refine lv_iload_n hx hb dX9_item_44 rfl (lv_at hl 3 rfl) ?_
        refine lv_if_ne (tgt := 54) hx hb dX9_item_45 (by decide) (fun c10 => ?_) (fun c10 => ?_)
        · have hF := if_f c10 hF
          refine lv_iload_n hx hb dX9_item_54 rfl (lv_at hl 3 rfl) ?_
          refine lv_iconst (v := (1 : Int32)) hx hb dX9_item_55 (by decide) ?_
          refine lv_icmp_ne (tgt := 65) hx hb dX9_item_56 (by decide) (fun c11 => ?_) (fun c11 => ?_)
          · have hF := if_f c11 hF
            refine lv_iload hx hb dX9_item_65 (lv_at hl 5 rfl) ?_
            obtain ⟨h12, hF⟩ := gi_s hF
            refine va_iast hx hb hK hP hD hS 12 0 rfl rfl h12 dX9_item_67 (fun H locs hP hD hS => ?_)
            have hP : va_P D vwCl (w_model ky aM mxs mus mys mgp mtp mme mle mlt mkl mln msz mit mmv mrm mer mtd mat mwr mkn mmb mwa mra mbl mbh dxs dus dys dgp dtp dme dle dlt dkl dln dsz (upd dit (((36 : Int32) * p0) + p2).toNatClampNeg p3) dmv) H := hP
            have hD : va_D A (w_model ky aM mxs mus mys mgp mtp mme mle mlt mkl mln msz mit mmv mrm mer mtd mat mwr mkn mmb mwa mra mbl mbh dxs dus dys dgp dtp dme dle dlt dkl dln dsz (upd dit (((36 : Int32) * p0) + p2).toNatClampNeg p3) dmv) := hD
            refine lv_iconst (v := (1 : Int32)) hx hb dX9_item_68 (by decide) ?_
            have hF := Option.some.inj hF
            subst hF
            exact hQ _ _ _ _ dX9_item_69 hP hD hS
          · have hF := if_t c11 hF
            refine lv_iload hx hb dX9_item_59 (lv_at hl 5 rfl) ?_
            refine lv_i2s (v := (p3.toInt16.toInt32)) hx hb dX9_item_61 rfl ?_
            refine lv_goto (tgt := 67) hx hb dX9_item_62 (by decide) ?_
            obtain ⟨h13, hF⟩ := gi_s hF
            refine va_iast hx hb hK hP hD hS 12 0 rfl rfl h13 dX9_item_67 (fun H locs hP hD hS => ?_)
            have hP : va_P D vwCl (w_model ky aM mxs mus mys mgp mtp mme mle mlt mkl mln msz mit mmv mrm mer mtd mat mwr mkn mmb mwa mra mbl mbh dxs dus dys dgp dtp dme dle dlt dkl dln dsz (upd dit (((36 : Int32) * p0) + p2).toNatClampNeg (p3.toInt16.toInt32)) dmv) H := hP
            have hD : va_D A (w_model ky aM mxs mus mys mgp mtp mme mle mlt mkl mln msz mit mmv mrm mer mtd mat mwr mkn mmb mwa mra mbl mbh dxs dus dys dgp dtp dme dle dlt dkl dln dsz (upd dit (((36 : Int32) * p0) + p2).toNatClampNeg (p3.toInt16.toInt32)) dmv) := hD
            refine lv_iconst (v := (1 : Int32)) hx hb dX9_item_68 (by decide) ?_
            have hF := Option.some.inj hF
            subst hF
            exact hQ _ _ _ _ dX9_item_69 hP hD hS
        · have hF := if_t c10 hF
          refine lv_iload hx hb dX9_item_48 (lv_at hl 5 rfl) ?_
          refine lv_i2b (v := (p3.toInt8.toInt32)) hx hb dX9_item_50 rfl ?_
          refine lv_goto (tgt := 67) hx hb dX9_item_51 (by decide) ?_
          obtain ⟨h14, hF⟩ := gi_s hF
          refine va_iast hx hb hK hP hD hS 12 0 rfl rfl h14 dX9_item_67 (fun H locs hP hD hS => ?_)
          have hP : va_P D vwCl (w_model ky aM mxs mus mys mgp mtp mme mle mlt mkl mln msz mit mmv mrm mer mtd mat mwr mkn mmb mwa mra mbl mbh dxs dus dys dgp dtp dme dle dlt dkl dln dsz (upd dit (((36 : Int32) * p0) + p2).toNatClampNeg (p3.toInt8.toInt32)) dmv) H := hP
          have hD : va_D A (w_model ky aM mxs mus mys mgp mtp mme mle mlt mkl mln msz mit mmv mrm mer mtd mat mwr mkn mmb mwa mra mbl mbh dxs dus dys dgp dtp dme dle dlt dkl dln dsz (upd dit (((36 : Int32) * p0) + p2).toNatClampNeg (p3.toInt8.toInt32)) dmv) := hD
          refine lv_iconst (v := (1 : Int32)) hx hb dX9_item_68 (by decide) ?_
          have hF := Option.some.inj hF
          subst hF
          exact hQ _ _ _ _ dX9_item_69 hP hD hS
      · have hF := if_f c9 hF
        refine lv_iload hx hb dX9_item_31 (lv_at hl 0 rfl) ?_
        have hF := Option.some.inj hF
        subst hF
        exact hQ _ _ _ _ dX9_item_33 hP hD hS
    · have hF := if_t c6 hF
      refine lv_iconst (v := (-1 : Int32)) hx hb dX9_item_14 (by decide) ?_
      have hF := Option.some.inj hF
      subst hF
      exact hQ _ _ _ _ dX9_item_15 hP hD hS
theorem c_X9_item (l : Launch) (D : va_G) (ky : Nat → ClassId) (aM mxs mus mys mgp mtp mme mle mlt mkl mln msz mit mmv : Nat) (sz N : Nat)  (mrm : Int32) (mer : Int32) (mtd : Int32) (mat : Int32) (mwr : Int32) (mkn : Int32) (mmb : Int32) (mwa : Int32) (mra : Int32) (mbl : Int32) (mbh : Int32) (dxs : Nat → Int32) (dus : Nat → Int32) (dys : Nat → Int32) (dgp : Nat → Int32) (dtp : Nat → Int32) (dme : Nat → Int32) (dle : Nat → Int32) (dlt : Nat → Int32) (dkl : Nat → Int32) (dln : Nat → Int32) (dsz : Nat → Int32) (dit : Nat → Int32) (dmv : Nat → Int32) (p0 : Int32) (p1 : Int32) (p2 : Int32) (p3 : Int32) (rv : Int32) (dit' : Nat → Int32) (hF : f_X9_item N p0 p1 p2 p3 dln dsz dit = some (rv, dit')) : MI l yX9_item wsX9_item rm_X9_item D ky sz [.ref aM, .int p0, .int p1, .int p2, .int p3] (w_model ky aM mxs mus mys mgp mtp mme mle mlt mkl mln msz mit mmv mrm mer mtd mat mwr mkn mmb mwa mra mbl mbh dxs dus dys dgp dtp dme dle dlt dkl dln dsz dit dmv) (w_model ky aM mxs mus mys mgp mtp mme mle mlt mkl mln msz mit mmv mrm mer mtd mat mwr mkn mmb mwa mra mbl mbh dxs dus dys dgp dtp dme dle dlt dkl dln dsz dit' dmv) rv :=
  cr_X9_item l D ky aM mxs mus mys mgp mtp mme mle mlt mkl mln msz mit mmv sz N mrm mer mtd mat mwr mkn mmb mwa mra mbl mbh dxs dus dys dgp dtp dme dle dlt dkl dln dsz dit dmv p0 p1 p2 p3 (rv, dit') hF
abbrev rm_X9_copy : Room := { frames := 2, cells := 0, slots := 0, locals := 45 }
theorem iX9_copy_X9 : ∀ w ∈ wsX90, w ∈ wsX9_copy := by decide +kernel
theorem kX9_copy_1 : (Cond.fieldLink RX9 42 "TwoLawsModel" "lanes" "[I") ∈ wsX9_copy := by decide +kernel
theorem kX9_copy_2 : (Cond.fieldLink RX9 51 "TwoLawsModel" "moved" "[I") ∈ wsX9_copy := by decide +kernel
theorem kX9_copy_3 : (Cond.fieldLink RX9 48 "TwoLawsModel" "items" "[I") ∈ wsX9_copy := by decide +kernel
set_option maxHeartbeats 4000000 in
set_option maxRecDepth 100000 in
theorem w_X9_copy_138 {p : Program} {l : Launch} {e : Env} {s : State} {m : MethodId} {args : Array Value} {below : List Frame} {meth : Method} {c : Code} {Q : State → Prop} {A : Nat → Prop} {D : va_G} {ky : Nat → ClassId} {aM mxs mus mys mgp mtp mme mle mlt mkl mln msz mit mmv : Nat} {mrm : Int32} {mer : Int32} {mtd : Int32} {mat : Int32} {mwr : Int32} {mkn : Int32} {mmb : Int32} {mwa : Int32} {mra : Int32} {mbl : Int32} {mbh : Int32} {dxs : Nat → Int32} {dus : Nat → Int32} {dys : Nat → Int32} {dgp : Nat → Int32} {dtp : Nat → Int32} {dme : Nat → Int32} {dle : Nat → Int32} {dlt : Nat → Int32} {dkl : Nat → Int32} {dln : Nat → Int32} {dsz : Nat → Int32} (N : Nat) (C : cx p s m c args D ky A cX9_copy 7 wsX9_copy RX9) (res : Int32 × (Nat → Int32) × (Nat → Int32)) (hQ : ∀ (pc : Nat) (H : Heap) (locs : List Loc) (ls : Array Slot), decode cX9_copy pc = .ok (.ireturn, 1) → va_P D vwCl (w_model ky aM mxs mus mys mgp mtp mme mle mlt mkl mln msz mit mmv mrm mer mtd mat mwr mkn mmb mwa mra mbl mbh dxs dus dys dgp dtp dme dle dlt dkl dln dsz res.2.1 res.2.2) H → va_D A (w_model ky aM mxs mus mys mgp mtp mme mle mlt mkl mln msz mit mmv mrm mer mtd mat mwr mkn mmb mwa mra mbl mbh dxs dus dys dgp dtp dme dle dlt dkl dln dsz res.2.1 res.2.2) → va_S A s.heap H locs → W p l e rm_X9_copy s m args below meth c H locs 0 0 Q (F0 m pc ls [.int res.1])) (l3 : Int32) (l4 : Int32) (l5 : Int32) (dmv : Nat → Int32) : ∀ (n : Nat) (l6 : Int32) (dit : Nat → Int32), f_X9_copy_138 N l3 l4 l5 dmv n l6 dit = some res → ∀ (H : Heap) (locs : List Loc) (ls : Array Slot), va_P D vwCl (w_model ky aM mxs mus mys mgp mtp mme mle mlt mkl mln msz mit mmv mrm mer mtd mat mwr mkn mmb mwa mra mbl mbh dxs dus dys dgp dtp dme dle dlt dkl dln dsz dit dmv) H → va_D A (w_model ky aM mxs mus mys mgp mtp mme mle mlt mkl mln msz mit mmv mrm mer mtd mat mwr mkn mmb mwa mra mbl mbh dxs dus dys dgp dtp dme dle dlt dkl dln dsz dit dmv) → va_S A s.heap H locs → lv_has ls 7 [(0, .ref aM), (3, .int l3), (4, .int l4), (5, .int l5), (6, .int l6)] → W p l e rm_X9_copy s m args below meth c H locs 0 0 Q (F0 m 138 ls []) := by
  obtain ⟨hx, hb, hml, hown, hts, hK, hA⟩ := id C
  intro n
  induction n with
  | zero =>
    intro l6 dit hF
    cases hF
  | succ n ih =>
    intro l6 dit hF H locs ls hP hD hS hl
    have hF : b_X9_copy_138 N l3 l4 l5 dmv (f_X9_copy_138 N l3 l4 l5 dmv n) l6 dit = some res := hF
    unfold b_X9_copy_138 at hF
    refine lv_iload hx hb dX9_copy_138 (lv_at hl 4 rfl) ?_
    refine lv_iload hx hb dX9_copy_140 (lv_at hl 3 rfl) ?_
    refine lv_icmp_ge (tgt := 173) hx hb dX9_copy_142 (by decide) (fun c26 => ?_) (fun c26 => ?_)
    · have hF := if_t c26 hF
      refine lv_iload hx hb dX9_copy_173 (lv_at hl 3 rfl) ?_
      have hF := Option.some.inj hF
      subst hF
      exact hQ _ H _ _ dX9_copy_175 hP hD hS
    · have hF := if_f c26 hF
      refine lv_aload_n hx hb dX9_copy_145 rfl (lv_at hl 0 rfl) ?_
      refine va_get (D := D) (ci := 8) (v := .ref mit) (C := RX9) (T := TX9) (N := 24) hx hb hts iX9_copy_X9 hown hK hP 0 rfl rfl 22 (by decide) (hts _ kX9_copy_3) (fun _ h9 => h9) rfl dX9_copy_146 ?_
      refine lv_bipush (v := (36 : Int32)) hx hb dX9_copy_149 (by decide) ?_
      refine lv_iload_n hx hb dX9_copy_151 rfl (lv_at hl 1 rfl) ?_
      refine lv_imul hx hb dX9_copy_152 ?_
      refine lv_iload hx hb dX9_copy_153 (lv_at hl 2 rfl) ?_
      refine lv_iadd hx hb dX9_copy_155 ?_
      refine lv_iload hx hb dX9_copy_156 (lv_at hl 4 rfl) ?_
      refine lv_iadd hx hb dX9_copy_158 ?_
      refine lv_aload_n hx hb dX9_copy_159 rfl (lv_at hl 0 rfl) ?_
      refine va_get (D := D) (ci := 8) (v := .ref mmv) (C := RX9) (T := TX9) (N := 24) hx hb hts iX9_copy_X9 hown hK hP 0 rfl rfl 23 (by decide) (hts _ kX9_copy_2) (fun _ h9 => h9) rfl dX9_copy_160 ?_
      refine lv_iload hx hb dX9_copy_163 (lv_at hl 4 rfl) ?_
      obtain ⟨h27, hF⟩ := gi_s hF
      refine va_iald hx hb hK hP 13 0 rfl rfl h27 dX9_copy_165 ?_
      obtain ⟨h28, hF⟩ := gi_s hF
      refine va_iast hx hb hK hP hD hS 12 0 rfl rfl h28 dX9_copy_166 (fun H locs hP hD hS => ?_)
      have hP : va_P D vwCl (w_model ky aM mxs mus mys mgp mtp mme mle mlt mkl mln msz mit mmv mrm mer mtd mat mwr mkn mmb mwa mra mbl mbh dxs dus dys dgp dtp dme dle dlt dkl dln dsz (upd dit ((((36 : Int32) * l3) + l4) + l6).toNatClampNeg (dmv l6.toNatClampNeg)) dmv) H := hP
      have hD : va_D A (w_model ky aM mxs mus mys mgp mtp mme mle mlt mkl mln msz mit mmv mrm mer mtd mat mwr mkn mmb mwa mra mbl mbh dxs dus dys dgp dtp dme dle dlt dkl dln dsz (upd dit ((((36 : Int32) * l3) + l4) + l6).toNatClampNeg (dmv l6.toNatClampNeg)) dmv) := hD
      refine lv_iinc (v := (l6 + (1 : Int32))) (lv' := [(6, .int (l6 + (1 : Int32))), (0, .ref aM), (3, .int l3), (4, .int l4), (5, .int l5)]) hx hb dX9_copy_167 hl (k := 4) rfl rfl (by decide) rfl (fun ls hl => ?_)
      refine lv_goto (tgt := 138) hx hb dX9_copy_170 (by decide) ?_
      exact ih (l6 + (1 : Int32)) (upd dit ((((36 : Int32) * l3) + l4) + l6).toNatClampNeg (dmv l6.toNatClampNeg)) hF H _ _ hP hD hS (lv_sub hl [1, 2, 3, 4, 0] rfl)
set_option maxHeartbeats 4000000 in
set_option maxRecDepth 100000 in
theorem w_X9_copy_101 {p : Program} {l : Launch} {e : Env} {s : State} {m : MethodId} {args : Array Value} {below : List Frame} {meth : Method} {c : Code} {Q : State → Prop} {A : Nat → Prop} {D : va_G} {ky : Nat → ClassId} {aM mxs mus mys mgp mtp mme mle mlt mkl mln msz mit mmv : Nat} {mrm : Int32} {mer : Int32} {mtd : Int32} {mat : Int32} {mwr : Int32} {mkn : Int32} {mmb : Int32} {mwa : Int32} {mra : Int32} {mbl : Int32} {mbh : Int32} {dxs : Nat → Int32} {dus : Nat → Int32} {dys : Nat → Int32} {dgp : Nat → Int32} {dtp : Nat → Int32} {dme : Nat → Int32} {dle : Nat → Int32} {dlt : Nat → Int32} {dkl : Nat → Int32} {dln : Nat → Int32} {dsz : Nat → Int32} (N : Nat) (C : cx p s m c args D ky A cX9_copy 7 wsX9_copy RX9) (res : Int32 × (Nat → Int32) × (Nat → Int32)) (hQ : ∀ (pc : Nat) (H : Heap) (locs : List Loc) (ls : Array Slot), decode cX9_copy pc = .ok (.ireturn, 1) → va_P D vwCl (w_model ky aM mxs mus mys mgp mtp mme mle mlt mkl mln msz mit mmv mrm mer mtd mat mwr mkn mmb mwa mra mbl mbh dxs dus dys dgp dtp dme dle dlt dkl dln dsz res.2.1 res.2.2) H → va_D A (w_model ky aM mxs mus mys mgp mtp mme mle mlt mkl mln msz mit mmv mrm mer mtd mat mwr mkn mmb mwa mra mbl mbh dxs dus dys dgp dtp dme dle dlt dkl dln dsz res.2.1 res.2.2) → va_S A s.heap H locs → W p l e rm_X9_copy s m args below meth c H locs 0 0 Q (F0 m pc ls [.int res.1])) (l1 : Int32) (l2 : Int32) (l3 : Int32) (l4 : Int32) (l5 : Int32) (dit : Nat → Int32) : ∀ (n : Nat) (l6 : Int32) (dmv : Nat → Int32), f_X9_copy_101 N l1 l2 l3 l4 l5 dit n l6 dmv = some res → ∀ (H : Heap) (locs : List Loc) (ls : Array Slot), va_P D vwCl (w_model ky aM mxs mus mys mgp mtp mme mle mlt mkl mln msz mit mmv mrm mer mtd mat mwr mkn mmb mwa mra mbl mbh dxs dus dys dgp dtp dme dle dlt dkl dln dsz dit dmv) H → va_D A (w_model ky aM mxs mus mys mgp mtp mme mle mlt mkl mln msz mit mmv mrm mer mtd mat mwr mkn mmb mwa mra mbl mbh dxs dus dys dgp dtp dme dle dlt dkl dln dsz dit dmv) → va_S A s.heap H locs → lv_has ls 7 [(0, .ref aM), (1, .int l1), (2, .int l2), (3, .int l3), (4, .int l4), (5, .int l5), (6, .int l6)] → W p l e rm_X9_copy s m args below meth c H locs 0 0 Q (F0 m 101 ls []) := by
  obtain ⟨hx, hb, hml, hown, hts, hK, hA⟩ := id C
  intro n
  induction n with
  | zero =>
    intro l6 dmv hF
    cases hF
  | succ n ih =>
    intro l6 dmv hF H locs ls hP hD hS hl
    have hF : b_X9_copy_101 N l1 l2 l3 l4 l5 dit (f_X9_copy_101 N l1 l2 l3 l4 l5 dit n) l6 dmv = some res := hF
    unfold b_X9_copy_101 at hF
    refine lv_iload hx hb dX9_copy_101 (lv_at hl 6 rfl) ?_
    refine lv_iload hx hb dX9_copy_103 (lv_at hl 5 rfl) ?_
    refine lv_icmp_ge (tgt := 135) hx hb dX9_copy_105 (by decide) (fun c23 => ?_) (fun c23 => ?_)
    · have hF := if_t c23 hF
      refine lv_iconst (v := (0 : Int32)) hx hb dX9_copy_135 (by decide) ?_
      refine lv_istore (lv' := [(6, .int (0 : Int32)), (0, .ref aM), (1, .int l1), (2, .int l2), (3, .int l3), (4, .int l4), (5, .int l5)]) hx hb dX9_copy_136 hl (by decide) rfl (fun ls hl => ?_)
      exact w_X9_copy_138 N C res hQ l3 l4 l5 dmv N (0 : Int32) dit hF H _ _ hP hD hS (lv_sub hl [1, 4, 5, 6, 0] rfl)
    · have hF := if_f c23 hF
      refine lv_aload_n hx hb dX9_copy_108 rfl (lv_at hl 0 rfl) ?_
      refine va_get (D := D) (ci := 8) (v := .ref mmv) (C := RX9) (T := TX9) (N := 24) hx hb hts iX9_copy_X9 hown hK hP 0 rfl rfl 23 (by decide) (hts _ kX9_copy_2) (fun _ h9 => h9) rfl dX9_copy_109 ?_
      refine lv_iload hx hb dX9_copy_112 (lv_at hl 6 rfl) ?_
      refine lv_aload_n hx hb dX9_copy_114 rfl (lv_at hl 0 rfl) ?_
      refine va_get (D := D) (ci := 8) (v := .ref mit) (C := RX9) (T := TX9) (N := 24) hx hb hts iX9_copy_X9 hown hK hP 0 rfl rfl 22 (by decide) (hts _ kX9_copy_3) (fun _ h9 => h9) rfl dX9_copy_115 ?_
      refine lv_bipush (v := (36 : Int32)) hx hb dX9_copy_118 (by decide) ?_
      refine lv_iload_n hx hb dX9_copy_120 rfl (lv_at hl 1 rfl) ?_
      refine lv_imul hx hb dX9_copy_121 ?_
      refine lv_iload_n hx hb dX9_copy_122 rfl (lv_at hl 2 rfl) ?_
      refine lv_iadd hx hb dX9_copy_123 ?_
      refine lv_iload hx hb dX9_copy_124 (lv_at hl 6 rfl) ?_
      refine lv_iadd hx hb dX9_copy_126 ?_
      obtain ⟨h24, hF⟩ := gi_s hF
      refine va_iald hx hb hK hP 12 0 rfl rfl h24 dX9_copy_127 ?_
      obtain ⟨h25, hF⟩ := gi_s hF
      refine va_iast hx hb hK hP hD hS 13 0 rfl rfl h25 dX9_copy_128 (fun H locs hP hD hS => ?_)
      have hP : va_P D vwCl (w_model ky aM mxs mus mys mgp mtp mme mle mlt mkl mln msz mit mmv mrm mer mtd mat mwr mkn mmb mwa mra mbl mbh dxs dus dys dgp dtp dme dle dlt dkl dln dsz dit (upd dmv l6.toNatClampNeg (dit ((((36 : Int32) * l1) + l2) + l6).toNatClampNeg))) H := hP
      have hD : va_D A (w_model ky aM mxs mus mys mgp mtp mme mle mlt mkl mln msz mit mmv mrm mer mtd mat mwr mkn mmb mwa mra mbl mbh dxs dus dys dgp dtp dme dle dlt dkl dln dsz dit (upd dmv l6.toNatClampNeg (dit ((((36 : Int32) * l1) + l2) + l6).toNatClampNeg))) := hD
      refine lv_iinc (v := (l6 + (1 : Int32))) (lv' := [(6, .int (l6 + (1 : Int32))), (0, .ref aM), (1, .int l1), (2, .int l2), (3, .int l3), (4, .int l4), (5, .int l5)]) hx hb dX9_copy_129 hl (k := 6) rfl rfl (by decide) rfl (fun ls hl => ?_)
      refine lv_goto (tgt := 101) hx hb dX9_copy_132 (by decide) ?_
      exact ih (l6 + (1 : Int32)) (upd dmv l6.toNatClampNeg (dit ((((36 : Int32) * l1) + l2) + l6).toNatClampNeg)) hF H _ _ hP hD hS (lv_sub hl [1, 2, 3, 4, 5, 6, 0] rfl)
set_option maxHeartbeats 4000000 in
set_option maxRecDepth 100000 in
theorem cr_X9_copy (l : Launch) (D : va_G) (ky : Nat → ClassId) (aM mxs mus mys mgp mtp mme mle mlt mkl mln msz mit mmv : Nat) (sz N : Nat)  (mrm : Int32) (mer : Int32) (mtd : Int32) (mat : Int32) (mwr : Int32) (mkn : Int32) (mmb : Int32) (mwa : Int32) (mra : Int32) (mbl : Int32) (mbh : Int32) (dxs : Nat → Int32) (dus : Nat → Int32) (dys : Nat → Int32) (dgp : Nat → Int32) (dtp : Nat → Int32) (dme : Nat → Int32) (dle : Nat → Int32) (dlt : Nat → Int32) (dkl : Nat → Int32) (dln : Nat → Int32) (dsz : Nat → Int32) (dit : Nat → Int32) (dmv : Nat → Int32) (p0 : Int32) (p1 : Int32) (p2 : Int32) (p3 : Int32) (p4 : Int32) (res : Int32 × (Nat → Int32) × (Nat → Int32)) (hF : f_X9_copy N p0 p1 p2 p3 p4 dln dsz dit dmv = some res) : MI l yX9_copy wsX9_copy rm_X9_copy D ky sz [.ref aM, .int p0, .int p1, .int p2, .int p3, .int p4] (w_model ky aM mxs mus mys mgp mtp mme mle mlt mkl mln msz mit mmv mrm mer mtd mat mwr mkn mmb mwa mra mbl mbh dxs dus dys dgp dtp dme dle dlt dkl dln dsz dit dmv) (w_model ky aM mxs mus mys mgp mtp mme mle mlt mkl mln msz mit mmv mrm mer mtd mat mwr mkn mmb mwa mra mbl mbh dxs dus dys dgp dtp dme dle dlt dkl dln dsz res.2.1 res.2.2) res.1 := by
  unfold MI
  refine Met.ofW (cc := cX9_copy) (maxL := 7) (ret := (some .int)) (by decide) rfl ?_
  intro p e s m args below meth c s₁ B hml hv
  obtain ⟨rfl, hsz, hP, hK, hD0⟩ := hv
  have hx := B.exec
  have hb := B.bytes
  have hr := B.returns
  have hts := atoms_spec (ws := wsX9_copy) B.pre
  have hown : s.vm.findClass RX9 = some m.cls := findClass_of_methodNamed B.named
  have hlocks := B.notSynchronized
  subst hsz
  have hD := hD0.self (sz := s.heap.size)
  generalize hAe : va_A (w_model ky aM mxs mus mys mgp mtp mme mle mlt mkl mln msz mit mmv mrm mer mtd mat mwr mkn mmb mwa mra mbl mbh dxs dus dys dgp dtp dme dle dlt dkl dln dsz dit dmv) s.heap.size = A at hD ⊢
  have hA : ∀ q : Nat, s.heap.size ≤ q → A q := fun q h => by rw [← hAe]; exact Or.inr h
  have hS : va_S A s.heap s.heap [] := va_S.rf
  have hP : va_P D vwCl (w_model ky aM mxs mus mys mgp mtp mme mle mlt mkl mln msz mit mmv mrm mer mtd mat mwr mkn mmb mwa mra mbl mbh dxs dus dys dgp dtp dme dle dlt dkl dln dsz dit dmv) s.heap := hP
  have hl := lv_entry ([.ref aM, .int p0, .int p1, .int p2, .int p3, .int p4]) (n := 7) (Nat.le_of_ble_eq_true rfl)
  rw [lg_entry_eq]
  generalize (lg_sl ([.ref aM, .int p0, .int p1, .int p2, .int p3, .int p4]) ++ List.replicate (7 - (lg_sl ([.ref aM, .int p0, .int p1, .int p2, .int p3, .int p4])).length) Slot.unset).toArray = ls at hl ⊢
  have hl : lv_has ls 7 [(0, .ref aM), (1, .int p0), (2, .int p1), (3, .int p2), (4, .int p3), (5, .int p4)] := hl
  have C : cx p s m c ([.ref aM, .int p0, .int p1, .int p2, .int p3, .int p4]).toArray D ky A cX9_copy 7 wsX9_copy RX9 := ⟨hx, hb, hml, hown, hts, hK, hA⟩
  have hQ : ∀ (pc : Nat) (H : Heap) (locs : List Loc) (ls : Array Slot), decode cX9_copy pc = .ok (.ireturn, 1) → va_P D vwCl (w_model ky aM mxs mus mys mgp mtp mme mle mlt mkl mln msz mit mmv mrm mer mtd mat mwr mkn mmb mwa mra mbl mbh dxs dus dys dgp dtp dme dle dlt dkl dln dsz res.2.1 res.2.2) H → va_D A (w_model ky aM mxs mus mys mgp mtp mme mle mlt mkl mln msz mit mmv mrm mer mtd mat mwr mkn mmb mwa mra mbl mbh dxs dus dys dgp dtp dme dle dlt dkl dln dsz res.2.1 res.2.2) → va_S A s.heap H locs → W p l e rm_X9_copy s m ([.ref aM, .int p0, .int p1, .int p2, .int p3, .int p4]).toArray below meth c H locs 0 0 (MQ below (va_Qi (S := Unit) (fun r _ => r = res.1) (fun _ t => va_P D vwCl (w_model ky aM mxs mus mys mgp mtp mme mle mlt mkl mln msz mit mmv mrm mer mtd mat mwr mkn mmb mwa mra mbl mbh dxs dus dys dgp dtp dme dle dlt dkl dln dsz res.2.1 res.2.2) t.heap ∧ va_K D vwCl (tyW ky) t ∧ va_D A (w_model ky aM mxs mus mys mgp mtp mme mle mlt mkl mln msz mit mmv mrm mer mtd mat mwr mkn mmb mwa mra mbl mbh dxs dus dys dgp dtp dme dle dlt dkl dln dsz res.2.1 res.2.2)) A) ([.ref aM, .int p0, .int p1, .int p2, .int p3, .int p4]).toArray s 0 0 A) (F0 m pc ls [.int res.1]) := fun pc H locs ls hd hP hD hS => W.iret hx hb hr (fun t ht hW => ⟨⟨res.1, (), rfl, rfl, by rw [ht]; exact hP, va_K.moved hW.alike hK, hD⟩, hS.F ht⟩) hS.2.2 hd
  unfold f_X9_copy at hF
  refine lv_iload_n hx hb dX9_copy_0 rfl (lv_at hl 1 rfl) ?_
  obtain ⟨r2, h1, hF⟩ := b1_s hF
  refine cl_si (As := [.int p0]) (rest := []) ⟨hx, hb, hml, hown, hts⟩ hK hP hD hS hA (c_X9_isSheet l D ky  _ N   p0 r2 h1) (va_cwS 1 hts gX9_copy_X9_isSheet rfl rfl rfl (by decide +kernel) ⟨Nat.le_of_ble_eq_true rfl, Nat.le_of_ble_eq_true rfl⟩) rfl hl.1 (Nat.le_of_ble_eq_true rfl) dX9_copy_1 ⟨Nat.zero_le _, Nat.zero_le _⟩ (fun H locs hP hD hS => ?_)
  refine lv_if_eq (tgt := 14) hx hb dX9_copy_4 (by decide) (fun c3 => ?_) (fun c3 => ?_)
  · have hF := if_t c3 hF
    refine lv_iconst (v := (-1 : Int32)) hx hb dX9_copy_14 (by decide) ?_
    have hF := Option.some.inj hF
    subst hF
    exact hQ _ _ _ _ dX9_copy_15 hP hD hS
  · have hF := if_f c3 hF
    refine lv_iload_n hx hb dX9_copy_7 rfl (lv_at hl 3 rfl) ?_
    obtain ⟨r5, h4, hF⟩ := b1_s hF
    refine cl_si (As := [.int p2]) (rest := []) ⟨hx, hb, hml, hown, hts⟩ hK hP hD hS hA (c_X9_isSheet l D ky  _ N   p2 r5 h4) (va_cwS 1 hts gX9_copy_X9_isSheet rfl rfl rfl (by decide +kernel) ⟨Nat.le_of_ble_eq_true rfl, Nat.le_of_ble_eq_true rfl⟩) rfl hl.1 (Nat.le_of_ble_eq_true rfl) dX9_copy_8 ⟨Nat.zero_le _, Nat.zero_le _⟩ (fun H locs hP hD hS => ?_)
    refine lv_if_ne (tgt := 16) hx hb dX9_copy_11 (by decide) (fun c6 => ?_) (fun c6 => ?_)
    · have hF := if_f c6 hF
      refine lv_aload_n hx hb dX9_copy_16 rfl (lv_at hl 0 rfl) ?_
      refine va_get (D := D) (ci := 8) (v := .ref mln) (C := RX9) (T := TX9) (N := 24) hx hb hts iX9_copy_X9 hown hK hP 0 rfl rfl 20 (by decide) (hts _ kX9_copy_1) (fun _ h9 => h9) rfl dX9_copy_17 ?_
      refine lv_iload_n hx hb dX9_copy_20 rfl (lv_at hl 1 rfl) ?_
      obtain ⟨h7, hF⟩ := gi_s hF
      refine va_iald hx hb hK hP 10 0 rfl rfl h7 dX9_copy_21 ?_
      refine lv_if_lt (tgt := 34) hx hb dX9_copy_22 (by decide) (fun c8 => ?_) (fun c8 => ?_)
      · have hF := if_t c8 hF
        refine lv_bipush (v := (-11 : Int32)) hx hb dX9_copy_34 (by decide) ?_
        have hF := Option.some.inj hF
        subst hF
        exact hQ _ _ _ _ dX9_copy_36 hP hD hS
      · have hF := if_f c8 hF
        refine lv_aload_n hx hb dX9_copy_25 rfl (lv_at hl 0 rfl) ?_
        refine va_get (D := D) (ci := 8) (v := .ref mln) (C := RX9) (T := TX9) (N := 24) hx hb hts iX9_copy_X9 hown hK hP 0 rfl rfl 20 (by decide) (hts _ kX9_copy_1) (fun _ h9 => h9) rfl dX9_copy_26 ?_
        refine lv_iload_n hx hb dX9_copy_29 rfl (lv_at hl 3 rfl) ?_
        obtain ⟨h9, hF⟩ := gi_s hF
        refine va_iald hx hb hK hP 10 0 rfl rfl h9 dX9_copy_30 ?_
        refine lv_if_ge (tgt := 37) hx hb dX9_copy_31 (by decide) (fun c10 => ?_) (fun c10 => ?_)
        · have hF := if_t c10 hF
          refine lv_aload_n hx hb dX9_copy_37 rfl (lv_at hl 0 rfl) ?_
          refine va_get (D := D) (ci := 8) (v := .ref mln) (C := RX9) (T := TX9) (N := 24) hx hb hts iX9_copy_X9 hown hK hP 0 rfl rfl 20 (by decide) (hts _ kX9_copy_1) (fun _ h9 => h9) rfl dX9_copy_38 ?_
          refine lv_iload_n hx hb dX9_copy_41 rfl (lv_at hl 1 rfl) ?_
          obtain ⟨h11, hF⟩ := gi_s hF
          refine va_iald hx hb hK hP 10 0 rfl rfl h11 dX9_copy_42 ?_
          refine lv_aload_n hx hb dX9_copy_43 rfl (lv_at hl 0 rfl) ?_
          refine va_get (D := D) (ci := 8) (v := .ref mln) (C := RX9) (T := TX9) (N := 24) hx hb hts iX9_copy_X9 hown hK hP 0 rfl rfl 20 (by decide) (hts _ kX9_copy_1) (fun _ h9 => h9) rfl dX9_copy_44 ?_
          refine lv_iload_n hx hb dX9_copy_47 rfl (lv_at hl 3 rfl) ?_
          obtain ⟨h12, hF⟩ := gi_s hF
          refine va_iald hx hb hK hP 10 0 rfl rfl h12 dX9_copy_48 ?_
          refine lv_icmp_eq (tgt := 55) hx hb dX9_copy_49 (by decide) (fun c13 => ?_) (fun c13 => ?_)
          · have hF := if_t c13 hF
            refine lv_iload hx hb dX9_copy_55 (lv_at hl 5 rfl) ?_
            refine lv_if_lt (tgt := 95) hx hb dX9_copy_57 (by decide) (fun c14 => ?_) (fun c14 => ?_)
            · have hF := if_t c14 hF
              refine lv_bipush (v := (-13 : Int32)) hx hb dX9_copy_95 (by decide) ?_
              have hF := Option.some.inj hF
              subst hF
              exact hQ _ _ _ _ dX9_copy_97 hP hD hS
            · have hF := if_f c14 hF
              refine lv_aload_n hx hb dX9_copy_60 rfl (lv_at hl 0 rfl) ?_
              refine lv_iload_n hx hb dX9_copy_61 rfl (lv_at hl 1 rfl) ?_
              refine lv_aload_n hx hb dX9_copy_62 rfl (lv_at hl 0 rfl) ?_
              refine va_get (D := D) (ci := 8) (v := .ref mln) (C := RX9) (T := TX9) (N := 24) hx hb hts iX9_copy_X9 hown hK hP 0 rfl rfl 20 (by decide) (hts _ kX9_copy_1) (fun _ h9 => h9) rfl dX9_copy_63 ?_
              refine lv_iload_n hx hb dX9_copy_66 rfl (lv_at hl 1 rfl) ?_
              obtain ⟨h15, hF⟩ := gi_s hF
              refine va_iald hx hb hK hP 10 0 rfl rfl h15 dX9_copy_67 ?_
              refine lv_iload_n hx hb dX9_copy_68 rfl (lv_at hl 2 rfl) ?_
              refine lv_iload hx hb dX9_copy_69 (lv_at hl 5 rfl) ?_
              obtain ⟨r17, h16, hF⟩ := b1_s hF
              refine cl_vi (As := [.int p0, .int (dln p0.toNatClampNeg), .int p1, .int p4]) (rest := []) (w' := (w_model ky aM mxs mus mys mgp mtp mme mle mlt mkl mln msz mit mmv mrm mer mtd mat mwr mkn mmb mwa mra mbl mbh dxs dus dys dgp dtp dme dle dlt dkl dln dsz dit dmv)) ⟨hx, hb, hml, hown, hts⟩ hK hP hD hS hA (c_X9_finds l D ky aM mxs mus mys mgp mtp mme mle mlt mkl mln msz mit mmv _ N  mrm mer mtd mat mwr mkn mmb mwa mra mbl mbh dxs dus dys dgp dtp dme dle dlt dkl dln dsz dit dmv p0 (dln p0.toNatClampNeg) p1 p4 r17 h16) (cwV 4 hts gX9_copy_X9_finds rfl rfl rfl (by decide +kernel) ⟨Nat.le_of_ble_eq_true rfl, Nat.le_of_ble_eq_true rfl⟩) [0, 1, 2, 3, 4, 5, 6, 7, 8, 9, 10, 11, 12, 13] [] [0, 1, 2, 3, 4, 5, 6, 7, 8, 9, 10, 11, 12, 13] 0 8 rfl rfl rfl rfl (wr := []) rfl (by decide) rfl rfl hl.1 (Nat.le_of_ble_eq_true rfl) dX9_copy_71 ⟨Nat.zero_le _, Nat.zero_le _⟩ (fun H locs hP hD hS => ?_)
              refine lv_if_lt (tgt := 95) hx hb dX9_copy_74 (by decide) (fun c18 => ?_) (fun c18 => ?_)
              · have hF := if_t c18 hF
                refine lv_bipush (v := (-13 : Int32)) hx hb dX9_copy_95 (by decide) ?_
                have hF := Option.some.inj hF
                subst hF
                exact hQ _ _ _ _ dX9_copy_97 hP hD hS
              · have hF := if_f c18 hF
                refine lv_aload_n hx hb dX9_copy_77 rfl (lv_at hl 0 rfl) ?_
                refine lv_iload_n hx hb dX9_copy_78 rfl (lv_at hl 3 rfl) ?_
                refine lv_aload_n hx hb dX9_copy_79 rfl (lv_at hl 0 rfl) ?_
                refine va_get (D := D) (ci := 8) (v := .ref mln) (C := RX9) (T := TX9) (N := 24) hx hb hts iX9_copy_X9 hown hK hP 0 rfl rfl 20 (by decide) (hts _ kX9_copy_1) (fun _ h9 => h9) rfl dX9_copy_80 ?_
                refine lv_iload_n hx hb dX9_copy_83 rfl (lv_at hl 3 rfl) ?_
                obtain ⟨h19, hF⟩ := gi_s hF
                refine va_iald hx hb hK hP 10 0 rfl rfl h19 dX9_copy_84 ?_
                refine lv_iload hx hb dX9_copy_85 (lv_at hl 4 rfl) ?_
                refine lv_iload hx hb dX9_copy_87 (lv_at hl 5 rfl) ?_
                obtain ⟨r21, h20, hF⟩ := b1_s hF
                refine cl_vi (As := [.int p2, .int (dln p2.toNatClampNeg), .int p3, .int p4]) (rest := []) (w' := (w_model ky aM mxs mus mys mgp mtp mme mle mlt mkl mln msz mit mmv mrm mer mtd mat mwr mkn mmb mwa mra mbl mbh dxs dus dys dgp dtp dme dle dlt dkl dln dsz dit dmv)) ⟨hx, hb, hml, hown, hts⟩ hK hP hD hS hA (c_X9_finds l D ky aM mxs mus mys mgp mtp mme mle mlt mkl mln msz mit mmv _ N  mrm mer mtd mat mwr mkn mmb mwa mra mbl mbh dxs dus dys dgp dtp dme dle dlt dkl dln dsz dit dmv p2 (dln p2.toNatClampNeg) p3 p4 r21 h20) (cwV 4 hts gX9_copy_X9_finds rfl rfl rfl (by decide +kernel) ⟨Nat.le_of_ble_eq_true rfl, Nat.le_of_ble_eq_true rfl⟩) [0, 1, 2, 3, 4, 5, 6, 7, 8, 9, 10, 11, 12, 13] [] [0, 1, 2, 3, 4, 5, 6, 7, 8, 9, 10, 11, 12, 13] 0 8 rfl rfl rfl rfl (wr := []) rfl (by decide) rfl rfl hl.1 (Nat.le_of_ble_eq_true rfl) dX9_copy_89 ⟨Nat.zero_le _, Nat.zero_le _⟩ (fun H locs hP hD hS => ?_)
                refine lv_if_ge (tgt := 98) hx hb dX9_copy_92 (by decide) (fun c22 => ?_) (fun c22 => ?_)
                · have hF := if_t c22 hF
                  refine lv_iconst (v := (0 : Int32)) hx hb dX9_copy_98 (by decide) ?_
                  refine lv_istore (lv' := [(6, .int (0 : Int32)), (0, .ref aM), (1, .int p0), (2, .int p1), (3, .int p2), (4, .int p3), (5, .int p4)]) hx hb dX9_copy_99 hl (by decide) rfl (fun ls hl => ?_)
                  exact w_X9_copy_101 N C res hQ p0 p1 p2 p3 p4 dit N (0 : Int32) dmv hF _ _ _ hP hD hS (lv_sub hl [1, 2, 3, 4, 5, 6, 0] rfl)
                · have hF := if_f c22 hF
                  refine lv_bipush (v := (-13 : Int32)) hx hb dX9_copy_95 (by decide) ?_
                  have hF := Option.some.inj hF
                  subst hF
                  exact hQ _ _ _ _ dX9_copy_97 hP hD hS
          · have hF := if_f c13 hF
            refine lv_bipush (v := (-12 : Int32)) hx hb dX9_copy_52 (by decide) ?_
            have hF := Option.some.inj hF
            subst hF
            exact hQ _ _ _ _ dX9_copy_54 hP hD hS
        · have hF := if_f c10 hF
          refine lv_bipush (v := (-11 : Int32)) hx hb dX9_copy_34 (by decide) ?_
          have hF := Option.some.inj hF
          subst hF
          exact hQ _ _ _ _ dX9_copy_36 hP hD hS
    · have hF := if_t c6 hF
      refine lv_iconst (v := (-1 : Int32)) hx hb dX9_copy_14 (by decide) ?_
      have hF := Option.some.inj hF
      subst hF
      exact hQ _ _ _ _ dX9_copy_15 hP hD hS
theorem c_X9_copy (l : Launch) (D : va_G) (ky : Nat → ClassId) (aM mxs mus mys mgp mtp mme mle mlt mkl mln msz mit mmv : Nat) (sz N : Nat)  (mrm : Int32) (mer : Int32) (mtd : Int32) (mat : Int32) (mwr : Int32) (mkn : Int32) (mmb : Int32) (mwa : Int32) (mra : Int32) (mbl : Int32) (mbh : Int32) (dxs : Nat → Int32) (dus : Nat → Int32) (dys : Nat → Int32) (dgp : Nat → Int32) (dtp : Nat → Int32) (dme : Nat → Int32) (dle : Nat → Int32) (dlt : Nat → Int32) (dkl : Nat → Int32) (dln : Nat → Int32) (dsz : Nat → Int32) (dit : Nat → Int32) (dmv : Nat → Int32) (p0 : Int32) (p1 : Int32) (p2 : Int32) (p3 : Int32) (p4 : Int32) (rv : Int32) (dit' : Nat → Int32) (dmv' : Nat → Int32) (hF : f_X9_copy N p0 p1 p2 p3 p4 dln dsz dit dmv = some (rv, dit', dmv')) : MI l yX9_copy wsX9_copy rm_X9_copy D ky sz [.ref aM, .int p0, .int p1, .int p2, .int p3, .int p4] (w_model ky aM mxs mus mys mgp mtp mme mle mlt mkl mln msz mit mmv mrm mer mtd mat mwr mkn mmb mwa mra mbl mbh dxs dus dys dgp dtp dme dle dlt dkl dln dsz dit dmv) (w_model ky aM mxs mus mys mgp mtp mme mle mlt mkl mln msz mit mmv mrm mer mtd mat mwr mkn mmb mwa mra mbl mbh dxs dus dys dgp dtp dme dle dlt dkl dln dsz dit' dmv') rv :=
  cr_X9_copy l D ky aM mxs mus mys mgp mtp mme mle mlt mkl mln msz mit mmv sz N mrm mer mtd mat mwr mkn mmb mwa mra mbl mbh dxs dus dys dgp dtp dme dle dlt dkl dln dsz dit dmv p0 p1 p2 p3 p4 (rv, dit', dmv') hF
