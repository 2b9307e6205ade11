def f_X9_isHeap (N : Nat) (p0 : Int32) (mrm : Int32) : Option (Int32) :=
  b1 (f_X9_in N (p0.toInt64) (0 : Int64) ((((1 : Int32) <<< (mrm &&& 31)) - (1 : Int32)).toInt64)) (fun r2 => gz r2 (some (r2)))
def b_X9_isLet_5 (N : Nat)  (l1 : Int32) (l2 : Int32) (mrm : Int32) (mer : Int32) (dxs : Nat → Int32) (dus : Nat → Int32) (dys : Nat → Int32) (dgp : Nat → Int32) (k5 : Int32 → Int32 → Option (Int32)) (l3 : Int32) (l4 : Int32) : Option (Int32) :=
  (if mrm ≤ l4 then gz l3 (some (l3)) else (if l3 = 0 then gz l3 (some (l3)) else (if ((l1 >>> (l4 &&& 31)) &&& (1 : Int32)) = 0 then k5 (1 : Int32) (l4 + (1 : Int32)) else b1 (f_X9_doesMeet N l4 l2 mer dxs dus dys dgp) (fun r7 => (if r7 = 0 then k5 (0 : Int32) (l4 + (1 : Int32)) else k5 (1 : Int32) (l4 + (1 : Int32)))))))
def f_X9_isLet_5 (N : Nat)  (l1 : Int32) (l2 : Int32) (mrm : Int32) (mer : Int32) (dxs : Nat → Int32) (dus : Nat → Int32) (dys : Nat → Int32) (dgp : Nat → Int32) : Nat → Int32 → Int32 → Option (Int32)
  | 0, _, _ => none
  | n + 1, l3, l4 => b_X9_isLet_5 N l1 l2 mrm mer dxs dus dys dgp (f_X9_isLet_5 N l1 l2 mrm mer dxs dus dys dgp n) l3 l4
def f_X9_isLet (N : Nat) (p0 : Int32) (p1 : Int32) (mrm : Int32) (mer : Int32) (dxs : Nat → Int32) (dus : Nat → Int32) (dys : Nat → Int32) (dgp : Nat → Int32) : Option (Int32) :=
  f_X9_isLet_5 N p0 p1 mrm mer dxs dus dys dgp N (1 : Int32) (0 : Int32)
def b_X9_isWhole_4 (N : Nat)  (l1 : Int32) (mrm : Int32) (mer : Int32) (dxs : Nat → Int32) (dus : Nat → Int32) (dys : Nat → Int32) (dgp : Nat → Int32) (k4 : Int32 → Int32 → Option (Int32)) (l2 : Int32) (l3 : Int32) : Option (Int32) :=
  (if (289 : Int32) ≤ l3 then gz l2 (some (l2)) else (if l2 = 0 then b1 (f_X9_isLet N l1 l3 mrm mer dxs dus dys dgp) (fun r6 => k4 r6 (l3 + (1 : Int32))) else gz l2 (some (l2))))
def f_X9_isWhole_4 (N : Nat)  (l1 : Int32) (mrm : Int32) (mer : Int32) (dxs : Nat → Int32) (dus : Nat → Int32) (dys : Nat → Int32) (dgp : Nat → Int32) : Nat → Int32 → Int32 → Option (Int32)
  | 0, _, _ => none
  | n + 1, l2, l3 => b_X9_isWhole_4 N l1 mrm mer dxs dus dys dgp (f_X9_isWhole_4 N l1 mrm mer dxs dus dys dgp n) l2 l3
def f_X9_isWhole (N : Nat) (p0 : Int32) (mrm : Int32) (mer : Int32) (dxs : Nat → Int32) (dus : Nat → Int32) (dys : Nat → Int32) (dgp : Nat → Int32) : Option (Int32) :=
  f_X9_isWhole_4 N p0 mrm mer dxs dus dys dgp N (0 : Int32) (0 : Int32)
def f_X9_lets_50 (N : Nat) (k20 : Int32 → Int32 → Option (Int32)) (l1 : Int32) (l2 : Int32) (l3 : Int32) (l4 : Int32) (l5 : Int32) (mrm : Int32) (mer : Int32) (dxs : Nat → Int32) (dus : Nat → Int32) (dys : Nat → Int32) (dgp : Nat → Int32) : Option (Int32) :=
  (if l5 = 0 then k20 (l3 + (0 : Int32)) (l4 + (1 : Int32)) else k20 (l3 + (1 : Int32)) (l4 + (1 : Int32)))
def b_X9_lets_20 (N : Nat)  (l1 : Int32) (l2 : Int32) (mrm : Int32) (mer : Int32) (dxs : Nat → Int32) (dus : Nat → Int32) (dys : Nat → Int32) (dgp : Nat → Int32) (k20 : Int32 → Int32 → Option (Int32)) (l3 : Int32) (l4 : Int32) : Option (Int32) :=
  (if (289 : Int32) ≤ l4 then (if 0 ≤ l2 then some ((-4 : Int32)) else some (l3)) else b1 (f_X9_isLet N l1 l4 mrm mer dxs dus dys dgp) (fun r8 => (if r8 = 0 then f_X9_lets_50 N k20 l1 l2 l3 l4 r8 mrm mer dxs dus dys dgp else (if l3 = l2 then some (l4) else f_X9_lets_50 N k20 l1 l2 l3 l4 r8 mrm mer dxs dus dys dgp))))
def f_X9_lets_20 (N : Nat)  (l1 : Int32) (l2 : Int32) (mrm : Int32) (mer : Int32) (dxs : Nat → Int32) (dus : Nat → Int32) (dys : Nat → Int32) (dgp : Nat → Int32) : Nat → Int32 → Int32 → Option (Int32)
  | 0, _, _ => none
  | n + 1, l3, l4 => b_X9_lets_20 N l1 l2 mrm mer dxs dus dys dgp (f_X9_lets_20 N l1 l2 mrm mer dxs dus dys dgp n) l3 l4
def f_X9_lets (N : Nat) (p0 : Int32) (p1 : Int32) (mrm : Int32) (mer : Int32) (dxs : Nat → Int32) (dus : Nat → Int32) (dys : Nat → Int32) (dgp : Nat → Int32) : Option (Int32) :=
  b1 (f_X9_isHeap N p0 mrm) (fun r2 => (if r2 = 0 then some ((-1 : Int32)) else (if (-1 : Int32) ≤ p1 then f_X9_lets_20 N p0 p1 mrm mer dxs dus dys dgp N (0 : Int32) (0 : Int32) else some ((-1 : Int32)))))
def b_X9_count_4 (N : Nat)  (l1 : Int32) (mrm : Int32) (mkn : Int32) (mwa : Int32) (mra : Int32) (dgp : Nat → Int32) (k4 : Int32 → Int32 → Option (Int32)) (l2 : Int32) (l3 : Int32) : Option (Int32) :=
  (if mrm ≤ l3 then (if l1 = (0 : Int32) then some (mrm) else (if l1 = (1 : Int32) then some (l2) else (if l1 = (2 : Int32) then some (mkn) else (if l1 = (3 : Int32) then some (mwa) else (if l1 = (4 : Int32) then some (mra) else some ((-1 : Int32))))))) else gi l3 12 ((if (dgp l3.toNatClampNeg) = 0 then k4 (l2 + (0 : Int32)) (l3 + (1 : Int32)) else k4 (l2 + (1 : Int32)) (l3 + (1 : Int32)))))
def f_X9_count_4 (N : Nat)  (l1 : Int32) (mrm : Int32) (mkn : Int32) (mwa : Int32) (mra : Int32) (dgp : Nat → Int32) : Nat → Int32 → Int32 → Option (Int32)
  | 0, _, _ => none
  | n + 1, l2, l3 => b_X9_count_4 N l1 mrm mkn mwa mra dgp (f_X9_count_4 N l1 mrm mkn mwa mra dgp n) l2 l3
def f_X9_count (N : Nat) (p0 : Int32) (mrm : Int32) (mkn : Int32) (mwa : Int32) (mra : Int32) (dgp : Nat → Int32) : Option (Int32) :=
  f_X9_count_4 N p0 mrm mkn mwa mra dgp N (0 : Int32) (0 : Int32)
def b_X9_tables_93 (N : Nat) (k72 : Int32 → (Nat → Int32) → Option ((Nat → Int32) × (Nat → Int32))) (l1 : Int32) (l2 : Int32) (mrm : Int32) (dme : Nat → Int32) (k93 : Int32 → Int32 → (Nat → Int32) → Option ((Nat → Int32) × (Nat → Int32))) (l3 : Int32) (l4 : Int32) (dle : Nat → Int32) : Option ((Nat → Int32) × (Nat → Int32)) :=
  (if (289 : Int32) ≤ l4 then gi l1 4096 (k72 (l1 + (1 : Int32)) (upd dle l1.toNatClampNeg l3)) else gi l4 289 ((if ((dme l4.toNatClampNeg) &&& l2) = 0 then k93 l3 (l4 + (1 : Int32)) dle else gi l4 289 (gi (l1 &&& ((dme l4.toNatClampNeg) ^^^ (-1 : Int32))) 4096 (nm ((dle (l1 &&& ((dme l4.toNatClampNeg) ^^^ (-1 : Int32))).toNatClampNeg) + (1 : Int32)) (fun v18 => (if l3 ≤ v18 then k93 l3 (l4 + (1 : Int32)) dle else k93 v18 (l4 + (1 : Int32)) dle)))))))
def f_X9_tables_93 (N : Nat) (k72 : Int32 → (Nat → Int32) → Option ((Nat → Int32) × (Nat → Int32))) (l1 : Int32) (l2 : Int32) (mrm : Int32) (dme : Nat → Int32) : Nat → Int32 → Int32 → (Nat → Int32) → Option ((Nat → Int32) × (Nat → Int32))
  | 0, _, _, _ => none
  | n + 1, l3, l4, dle => b_X9_tables_93 N k72 l1 l2 mrm dme (f_X9_tables_93 N k72 l1 l2 mrm dme n) l3 l4 dle
def b_X9_tables_72 (N : Nat)  (mrm : Int32) (dme : Nat → Int32) (k72 : Int32 → (Nat → Int32) → Option ((Nat → Int32) × (Nat → Int32))) (l1 : Int32) (dle : Nat → Int32) : Option ((Nat → Int32) × (Nat → Int32)) :=
  (if ((1 : Int32) <<< (mrm &&& 31)) ≤ l1 then some (dme, dle) else f_X9_tables_93 N k72 l1 (l1 &&& (-l1)) mrm dme N (100 : Int32) (0 : Int32) dle)
def f_X9_tables_72 (N : Nat)  (mrm : Int32) (dme : Nat → Int32) : Nat → Int32 → (Nat → Int32) → Option ((Nat → Int32) × (Nat → Int32))
  | 0, _, _ => none
  | n + 1, l1, dle => b_X9_tables_72 N mrm dme (f_X9_tables_72 N mrm dme n) l1 dle
def b_X9_tables_18 (N : Nat) (k2 : Int32 → (Nat → Int32) → (Nat → Int32) → Option ((Nat → Int32) × (Nat → Int32))) (l1 : Int32) (mrm : Int32) (mer : Int32) (dxs : Nat → Int32) (dus : Nat → Int32) (dys : Nat → Int32) (dgp : Nat → Int32) (dle : Nat → Int32) (k18 : Int32 → (Nat → Int32) → Option ((Nat → Int32) × (Nat → Int32))) (l2 : Int32) (dme : Nat → Int32) : Option ((Nat → Int32) × (Nat → Int32)) :=
  (if mrm ≤ l2 then k2 (l1 + (1 : Int32)) dme dle else gi l1 289 (b1 (f_X9_doesMeet N l2 l1 mer dxs dus dys dgp) (fun r7 => (if r7 = 0 then gi l1 289 (k18 (l2 + (1 : Int32)) (upd dme l1.toNatClampNeg ((dme l1.toNatClampNeg) ||| (0 : Int32)))) else gi l1 289 (k18 (l2 + (1 : Int32)) (upd dme l1.toNatClampNeg ((dme l1.toNatClampNeg) ||| ((1 : Int32) <<< (l2 &&& 31)))))))))
def f_X9_tables_18 (N : Nat) (k2 : Int32 → (Nat → Int32) → (Nat → Int32) → Option ((Nat → Int32) × (Nat → Int32))) (l1 : Int32) (mrm : Int32) (mer : Int32) (dxs : Nat → Int32) (dus : Nat → Int32) (dys : Nat → Int32) (dgp : Nat → Int32) (dle : Nat → Int32) : Nat → Int32 → (Nat → Int32) → Option ((Nat → Int32) × (Nat → Int32))
  | 0, _, _ => none
  | n + 1, l2, dme => b_X9_tables_18 N k2 l1 mrm mer dxs dus dys dgp dle (f_X9_tables_18 N k2 l1 mrm mer dxs dus dys dgp dle n) l2 dme
def b_X9_tables_2 (N : Nat)  (mrm : Int32) (mer : Int32) (dxs : Nat → Int32) (dus : Nat → Int32) (dys : Nat → Int32) (dgp : Nat → Int32) (k2 : Int32 → (Nat → Int32) → (Nat → Int32) → Option ((Nat → Int32) × (Nat → Int32))) (l1 : Int32) (dme : Nat → Int32) (dle : Nat → Int32) : Option ((Nat → Int32) × (Nat → Int32)) :=
  (if (289 : Int32) ≤ l1 then gi (0 : Int32) 4096 (f_X9_tables_72 N mrm dme N (1 : Int32) (upd dle (0 : Int32).toNatClampNeg (0 : Int32))) else gi l1 289 (f_X9_tables_18 N k2 l1 mrm mer dxs dus dys dgp dle N (0 : Int32) (upd dme l1.toNatClampNeg (0 : Int32))))
def f_X9_tables_2 (N : Nat)  (mrm : Int32) (mer : Int32) (dxs : Nat → Int32) (dus : Nat → Int32) (dys : Nat → Int32) (dgp : Nat → Int32) : Nat → Int32 → (Nat → Int32) → (Nat → Int32) → Option ((Nat → Int32) × (Nat → Int32))
  | 0, _, _, _ => none
  | n + 1, l1, dme, dle => b_X9_tables_2 N mrm mer dxs dus dys dgp (f_X9_tables_2 N mrm mer dxs dus dys dgp n) l1 dme dle
def f_X9_tables (N : Nat) (mrm : Int32) (mer : Int32) (dxs : Nat → Int32) (dus : Nat → Int32) (dys : Nat → Int32) (dgp : Nat → Int32) (dme : Nat → Int32) (dle : Nat → Int32) : Option ((Nat → Int32) × (Nat → Int32)) :=
  f_X9_tables_2 N mrm mer dxs dus dys dgp N (0 : Int32) dme dle
def f_X9_fewest (N : Nat) (mrm : Int32) (mer : Int32) (dxs : Nat → Int32) (dus : Nat → Int32) (dys : Nat → Int32) (dgp : Nat → Int32) (dme : Nat → Int32) (dle : Nat → Int32) : Option (Int32 × (Nat → Int32) × (Nat → Int32)) :=
  b2 (f_X9_tables N mrm mer dxs dus dys dgp dme dle) (fun v2 v3 => gi (((1 : Int32) <<< (mrm &&& 31)) - (1 : Int32)) 4096 (nm (v3 (((1 : Int32) <<< (mrm &&& 31)) - (1 : Int32)).toNatClampNeg) (fun v5 => (if v5 < (100 : Int32) then some (v5, v2, v3) else some ((-4 : Int32), v2, v3)))))
def f_X9_letGo_87 (N : Nat) (k43 : Int32 → Int32 → Option (Int32 × (Nat → Int32) × (Nat → Int32))) (l1 : Int32) (l2 : Int32) (l3 : Int32) (l4 : Int32) (l5 : Int32) (t0 : Int32) (dme : Nat → Int32) (dle : Nat → Int32) : Option (Int32 × (Nat → Int32) × (Nat → Int32)) :=
  (if t0 = 0 then k43 l4 (l5 + (1 : Int32)) else gi (l3 &&& (l5 ^^^ (-1 : Int32))) 4096 ((if l1 < (dle (l3 &&& (l5 ^^^ (-1 : Int32))).toNatClampNeg) then k43 l4 (l5 + (1 : Int32)) else k43 l5 (l5 + (1 : Int32)))))
def b_X9_letGo_43 (N : Nat)  (l1 : Int32) (l2 : Int32) (l3 : Int32) (dme : Nat → Int32) (dle : Nat → Int32) (k43 : Int32 → Int32 → Option (Int32 × (Nat → Int32) × (Nat → Int32))) (l4 : Int32) (l5 : Int32) : Option (Int32 × (Nat → Int32) × (Nat → Int32)) :=
  (if l3 < l5 then (if l2 = 0 then b1 (f_X9_size N l4) (fun r13 => some (r13, dme, dle)) else some (l4, dme, dle)) else b1 (f_X9_size N l5) (fun r15 => b1 (f_X9_size N l4) (fun r17 => (if r15 < r17 then f_X9_letGo_87 N k43 l1 l2 l3 l4 l5 (1 : Int32) dme dle else b1 (f_X9_size N l5) (fun r20 => b1 (f_X9_size N l4) (fun r22 => (if r20 = r22 then (if l4 ≤ l5 then f_X9_letGo_87 N k43 l1 l2 l3 l4 l5 (0 : Int32) dme dle else f_X9_letGo_87 N k43 l1 l2 l3 l4 l5 (1 : Int32) dme dle) else f_X9_letGo_87 N k43 l1 l2 l3 l4 l5 (0 : Int32) dme dle)))))))
def f_X9_letGo_43 (N : Nat)  (l1 : Int32) (l2 : Int32) (l3 : Int32) (dme : Nat → Int32) (dle : Nat → Int32) : Nat → Int32 → Int32 → Option (Int32 × (Nat → Int32) × (Nat → Int32))
  | 0, _, _ => none
  | n + 1, l4, l5 => b_X9_letGo_43 N l1 l2 l3 dme dle (f_X9_letGo_43 N l1 l2 l3 dme dle n) l4 l5
def f_X9_letGo (N : Nat) (p0 : Int32) (p1 : Int32) (mrm : Int32) (mer : Int32) (dxs : Nat → Int32) (dus : Nat → Int32) (dys : Nat → Int32) (dgp : Nat → Int32) (dme : Nat → Int32) (dle : Nat → Int32) : Option (Int32 × (Nat → Int32) × (Nat → Int32)) :=
  b1 (f_X9_in N (p0.toInt64) (0 : Int64) (6 : Int64)) (fun r2 => (if r2 = 0 then some ((-1 : Int32), dme, dle) else b1 (f_X9_in N (p1.toInt64) (0 : Int64) (1 : Int64)) (fun r5 => (if r5 = 0 then some ((-1 : Int32), dme, dle) else b2 (f_X9_tables N mrm mer dxs dus dys dgp dme dle) (fun v8 v9 => f_X9_letGo_43 N p0 p1 (((1 : Int32) <<< (mrm &&& 31)) - (1 : Int32)) v8 v9 N (((1 : Int32) <<< (mrm &&& 31)) - (1 : Int32)) (0 : Int32))))))
def f_X9_together_134 (N : Nat) (k63 : Int32 → Int32 → Int32 → Option (Int32 × (Nat → Int32) × (Nat → Int32))) (l1 : Int32) (l2 : Int32) (l3 : Int32) (l4 : Int32) (l6 : Int32) (l7 : Int32) (t0 : Int32) (dme : Nat → Int32) (dle : Nat → Int32) : Option (Int32 × (Nat → Int32) × (Nat → Int32)) :=
  (if l6 = 0 then gi l7 289 (gi (l3 &&& (((dme l7.toNatClampNeg) &&& (((1 : Int32) <<< (l2 &&& 31)) ^^^ (-1 : Int32))) ^^^ (-1 : Int32))) 4096 ((if (dle (l3 &&& (((dme l7.toNatClampNeg) &&& (((1 : Int32) <<< (l2 &&& 31)) ^^^ (-1 : Int32))) ^^^ (-1 : Int32))).toNatClampNeg) = (l4 - (1 : Int32)) then k63 t0 (1 : Int32) (l7 + (1 : Int32)) else k63 t0 (0 : Int32) (l7 + (1 : Int32))))) else k63 t0 (1 : Int32) (l7 + (1 : Int32)))
def b_X9_together_63 (N : Nat)  (l1 : Int32) (l2 : Int32) (l3 : Int32) (l4 : Int32) (dme : Nat → Int32) (dle : Nat → Int32) (k63 : Int32 → Int32 → Int32 → Option (Int32 × (Nat → Int32) × (Nat → Int32))) (l5 : Int32) (l6 : Int32) (l7 : Int32) : Option (Int32 × (Nat → Int32) × (Nat → Int32)) :=
  (if (289 : Int32) ≤ l7 then (if l5 = 0 then some ((0 : Int32), dme, dle) else (if l6 = 0 then some ((2 : Int32), dme, dle) else some ((1 : Int32), dme, dle))) else gi l7 289 ((if (((dme l7.toNatClampNeg) >>> (l1 &&& 31)) &&& (1 : Int32)) = (1 : Int32) then (if l5 = 0 then gi l7 289 ((if (((dme l7.toNatClampNeg) >>> (l2 &&& 31)) &&& (1 : Int32)) = (1 : Int32) then gi l7 289 (gi (l3 &&& ((dme l7.toNatClampNeg) ^^^ (-1 : Int32))) 4096 ((if (dle (l3 &&& ((dme l7.toNatClampNeg) ^^^ (-1 : Int32))).toNatClampNeg) = (l4 - (1 : Int32)) then f_X9_together_134 N k63 l1 l2 l3 l4 l6 l7 (1 : Int32) dme dle else f_X9_together_134 N k63 l1 l2 l3 l4 l6 l7 (0 : Int32) dme dle))) else f_X9_together_134 N k63 l1 l2 l3 l4 l6 l7 (0 : Int32) dme dle)) else f_X9_together_134 N k63 l1 l2 l3 l4 l6 l7 (1 : Int32) dme dle) else k63 l5 l6 (l7 + (1 : Int32)))))
def f_X9_together_63 (N : Nat)  (l1 : Int32) (l2 : Int32) (l3 : Int32) (l4 : Int32) (dme : Nat → Int32) (dle : Nat → Int32) : Nat → Int32 → Int32 → Int32 → Option (Int32 × (Nat → Int32) × (Nat → Int32))
  | 0, _, _, _ => none
  | n + 1, l5, l6, l7 => b_X9_together_63 N l1 l2 l3 l4 dme dle (f_X9_together_63 N l1 l2 l3 l4 dme dle n) l5 l6 l7
def f_X9_together (N : Nat) (p0 : Int32) (p1 : Int32) (mrm : Int32) (mer : Int32) (dxs : Nat → Int32) (dus : Nat → Int32) (dys : Nat → Int32) (dgp : Nat → Int32) (dme : Nat → Int32) (dle : Nat → Int32) : Option (Int32 × (Nat → Int32) × (Nat → Int32)) :=
  b1 (f_X9_isRow N p0 mrm) (fun r2 => (if r2 = 0 then some ((-1 : Int32), dme, dle) else b1 (f_X9_isRow N p1 mrm) (fun r5 => (if r5 = 0 then some ((-1 : Int32), dme, dle) else (if p0 = p1 then some ((-1 : Int32), dme, dle) else b2 (f_X9_tables N mrm mer dxs dus dys dgp dme dle) (fun v9 v10 => gi (((1 : Int32) <<< (mrm &&& 31)) - (1 : Int32)) 4096 (nm (v10 (((1 : Int32) <<< (mrm &&& 31)) - (1 : Int32)).toNatClampNeg) (fun v12 => (if v12 < (100 : Int32) then f_X9_together_63 N p0 p1 (((1 : Int32) <<< (mrm &&& 31)) - (1 : Int32)) v12 v9 v10 N (0 : Int32) (0 : Int32) (0 : Int32) else some ((-4 : Int32), v9, v10))))))))))
def b_X9_span_45 (N : Nat)  (l1 : Int32) (l2 : Int32) (l3 : Int32) (l4 : Int32) (mrm : Int32) (mer : Int32) (dxs : Nat → Int32) (dus : Nat → Int32) (dys : Nat → Int32) (dgp : Nat → Int32) (k45 : Int32 → Int32 → Int32 → Option (Int32)) (l5 : Int32) (l6 : Int32) (l7 : Int32) : Option (Int32) :=
  (if (289 : Int32) ≤ l7 then (if l5 = 0 then some ((-1000004 : Int32)) else some (l6)) else b1 (f_X9_isLet N l1 l7 mrm mer dxs dus dys dgp) (fun r16 => (if r16 = 0 then k45 l5 l6 (l7 + (1 : Int32)) else b1 (f_X9_sumOf N l7 l2 l3) (fun r19 => (if l5 = 0 then k45 (l5 + (1 : Int32)) r19 (l7 + (1 : Int32)) else (if l4 = 0 then (if l6 ≤ r19 then k45 (l5 + (1 : Int32)) l6 (l7 + (1 : Int32)) else k45 (l5 + (1 : Int32)) r19 (l7 + (1 : Int32))) else (if r19 ≤ l6 then k45 (l5 + (1 : Int32)) l6 (l7 + (1 : Int32)) else k45 (l5 + (1 : Int32)) r19 (l7 + (1 : Int32)))))))))
def f_X9_span_45 (N : Nat)  (l1 : Int32) (l2 : Int32) (l3 : Int32) (l4 : Int32) (mrm : Int32) (mer : Int32) (dxs : Nat → Int32) (dus : Nat → Int32) (dys : Nat → Int32) (dgp : Nat → Int32) : Nat → Int32 → Int32 → Int32 → Option (Int32)
  | 0, _, _, _ => none
  | n + 1, l5, l6, l7 => b_X9_span_45 N l1 l2 l3 l4 mrm mer dxs dus dys dgp (f_X9_span_45 N l1 l2 l3 l4 mrm mer dxs dus dys dgp n) l5 l6 l7
def f_X9_span (N : Nat) (p0 : Int32) (p1 : Int32) (p2 : Int32) (p3 : Int32) (mrm : Int32) (mer : Int32) (dxs : Nat → Int32) (dus : Nat → Int32) (dys : Nat → Int32) (dgp : Nat → Int32) : Option (Int32) :=
  b1 (f_X9_isHeap N p0 mrm) (fun r2 => (if r2 = 0 then some ((-1000001 : Int32)) else b1 (f_X9_isSmall N p1) (fun r5 => (if r5 = 0 then some ((-1000001 : Int32)) else b1 (f_X9_isSmall N p2) (fun r8 => (if r8 = 0 then some ((-1000001 : Int32)) else b1 (f_X9_in N (p3.toInt64) (0 : Int64) (1 : Int64)) (fun r11 => (if r11 = 0 then some ((-1000001 : Int32)) else f_X9_span_45 N p0 p1 p2 p3 mrm mer dxs dus dys dgp N (0 : Int32) (0 : Int32) (0 : Int32)))))))))
def f_X9_line_124 (N : Nat) (k41 : Int32 → Option (Int32)) (k51 : Int32 → Option (Int32)) (k68 : Int32 → Int32 → Int32 → Option (Int32)) (l1 : Int32) (l2 : Int32) (l3 : Int32) (l4 : Int32) (l5 : Int32) (l7 : Int32) (l8 : Int32) (l9 : Int32) (t0 : Int32) (mrm : Int32) (dxs : Nat → Int32) (dus : Nat → Int32) : Option (Int32) :=
  (if ((l2 >>> (l8 &&& 31)) &&& (1 : Int32)) = (1 : Int32) then (if l9 ≤ l7 then k68 t0 l7 (l8 + (1 : Int32)) else k68 t0 l9 (l8 + (1 : Int32))) else k68 t0 l7 (l8 + (1 : Int32)))
def b_X9_line_68 (N : Nat) (k41 : Int32 → Option (Int32)) (k51 : Int32 → Option (Int32)) (l1 : Int32) (l2 : Int32) (l3 : Int32) (l4 : Int32) (l5 : Int32) (mrm : Int32) (dxs : Nat → Int32) (dus : Nat → Int32) (k68 : Int32 → Int32 → Int32 → Option (Int32)) (l6 : Int32) (l7 : Int32) (l8 : Int32) : Option (Int32) :=
  (if mrm ≤ l8 then (if l6 < (l7 + (1 : Int32)) then k51 (l5 + (1 : Int32)) else (if l3 = 0 then some (l4) else (if l3 = (1 : Int32) then some (l5) else some ((l7 + (1 : Int32)))))) else gi l8 12 (gi l8 12 (nm ((l4 * (dxs l8.toNatClampNeg)) + (l5 * (dus l8.toNatClampNeg))) (fun v19 => (if ((l1 >>> (l8 &&& 31)) &&& (1 : Int32)) = (1 : Int32) then (if l6 ≤ v19 then f_X9_line_124 N k41 k51 k68 l1 l2 l3 l4 l5 l7 l8 v19 l6 mrm dxs dus else f_X9_line_124 N k41 k51 k68 l1 l2 l3 l4 l5 l7 l8 v19 v19 mrm dxs dus) else f_X9_line_124 N k41 k51 k68 l1 l2 l3 l4 l5 l7 l8 v19 l6 mrm dxs dus)))))
def f_X9_line_68 (N : Nat) (k41 : Int32 → Option (Int32)) (k51 : Int32 → Option (Int32)) (l1 : Int32) (l2 : Int32) (l3 : Int32) (l4 : Int32) (l5 : Int32) (mrm : Int32) (dxs : Nat → Int32) (dus : Nat → Int32) : Nat → Int32 → Int32 → Int32 → Option (Int32)
  | 0, _, _, _ => none
  | n + 1, l6, l7, l8 => b_X9_line_68 N k41 k51 l1 l2 l3 l4 l5 mrm dxs dus (f_X9_line_68 N k41 k51 l1 l2 l3 l4 l5 mrm dxs dus n) l6 l7 l8
def b_X9_line_51 (N : Nat) (k41 : Int32 → Option (Int32)) (l1 : Int32) (l2 : Int32) (l3 : Int32) (l4 : Int32) (mrm : Int32) (dxs : Nat → Int32) (dus : Nat → Int32) (k51 : Int32 → Option (Int32)) (l5 : Int32) : Option (Int32) :=
  (if (3 : Int32) < l5 then k41 (l4 + (1 : Int32)) else f_X9_line_68 N k41 k51 l1 l2 l3 l4 l5 mrm dxs dus N (99 : Int32) (-100 : Int32) (0 : Int32))
def f_X9_line_51 (N : Nat) (k41 : Int32 → Option (Int32)) (l1 : Int32) (l2 : Int32) (l3 : Int32) (l4 : Int32) (mrm : Int32) (dxs : Nat → Int32) (dus : Nat → Int32) : Nat → Int32 → Option (Int32)
  | 0, _ => none
  | n + 1, l5 => b_X9_line_51 N k41 l1 l2 l3 l4 mrm dxs dus (f_X9_line_51 N k41 l1 l2 l3 l4 mrm dxs dus n) l5
def b_X9_line_41 (N : Nat)  (l1 : Int32) (l2 : Int32) (l3 : Int32) (mrm : Int32) (dxs : Nat → Int32) (dus : Nat → Int32) (k41 : Int32 → Option (Int32)) (l4 : Int32) : Option (Int32) :=
  (if (3 : Int32) < l4 then some ((-1000004 : Int32)) else f_X9_line_51 N k41 l1 l2 l3 l4 mrm dxs dus N (-3 : Int32))
def f_X9_line_41 (N : Nat)  (l1 : Int32) (l2 : Int32) (l3 : Int32) (mrm : Int32) (dxs : Nat → Int32) (dus : Nat → Int32) : Nat → Int32 → Option (Int32)
  | 0, _ => none
  | n + 1, l4 => b_X9_line_41 N l1 l2 l3 mrm dxs dus (f_X9_line_41 N l1 l2 l3 mrm dxs dus n) l4
def f_X9_line (N : Nat) (p0 : Int32) (p1 : Int32) (p2 : Int32) (mrm : Int32) (dxs : Nat → Int32) (dus : Nat → Int32) : Option (Int32) :=
  b1 (f_X9_isHeap N p0 mrm) (fun r2 => (if r2 = 0 then some ((-1000001 : Int32)) else b1 (f_X9_isHeap N p1 mrm) (fun r5 => (if r5 = 0 then some ((-1000001 : Int32)) else (if (p0 &&& p1) = 0 then b1 (f_X9_in N (p2.toInt64) (0 : Int64) (2 : Int64)) (fun r9 => (if r9 = 0 then some ((-1000001 : Int32)) else f_X9_line_41 N p0 p1 p2 mrm dxs dus N (-3 : Int32))) else some ((-1000001 : Int32)))))))
def b_X9_hours_35 (N : Nat) (k20 : Int32 → Option (Int32)) (l1 : Int32) (l2 : Int32) (l3 : Int32) (mrm : Int32) (k35 : Int32 → Int32 → Int32 → Option (Int32)) (l4 : Int32) (l5 : Int32) (l6 : Int32) : Option (Int32) :=
  (if mrm ≤ l6 then (if (l4 &&& l5) = 0 then some (l3) else k20 (l3 + (1 : Int32))) else gd l3 (nm (l4 ||| (((l1 >>> (l6 &&& 31)) &&& (1 : Int32)) <<< ((l6 - l6 / l3 * l3) &&& 31))) (fun v11 => gd l3 (nm (l5 ||| (((l2 >>> (l6 &&& 31)) &&& (1 : Int32)) <<< ((l6 - l6 / l3 * l3) &&& 31))) (fun v13 => k35 v11 v13 (l6 + (1 : Int32)))))))
def f_X9_hours_35 (N : Nat) (k20 : Int32 → Option (Int32)) (l1 : Int32) (l2 : Int32) (l3 : Int32) (mrm : Int32) : Nat → Int32 → Int32 → Int32 → Option (Int32)
  | 0, _, _, _ => none
  | n + 1, l4, l5, l6 => b_X9_hours_35 N k20 l1 l2 l3 mrm (f_X9_hours_35 N k20 l1 l2 l3 mrm n) l4 l5 l6
def b_X9_hours_20 (N : Nat)  (l1 : Int32) (l2 : Int32) (mrm : Int32) (k20 : Int32 → Option (Int32)) (l3 : Int32) : Option (Int32) :=
  (if (6 : Int32) < l3 then some ((-4 : Int32)) else f_X9_hours_35 N k20 l1 l2 l3 mrm N (0 : Int32) (0 : Int32) (0 : Int32))
def f_X9_hours_20 (N : Nat)  (l1 : Int32) (l2 : Int32) (mrm : Int32) : Nat → Int32 → Option (Int32)
  | 0, _ => none
  | n + 1, l3 => b_X9_hours_20 N l1 l2 mrm (f_X9_hours_20 N l1 l2 mrm n) l3
def f_X9_hours (N : Nat) (p0 : Int32) (p1 : Int32) (mrm : Int32) : Option (Int32) :=
  b1 (f_X9_isHeap N p0 mrm) (fun r2 => (if r2 = 0 then some ((-1 : Int32)) else b1 (f_X9_isHeap N p1 mrm) (fun r5 => (if r5 = 0 then some ((-1 : Int32)) else f_X9_hours_20 N p0 p1 mrm N (1 : Int32)))))
def b_X9_wear_99 (N : Nat)  (l1 : Int32) (l4 : Int32) (l5 : Int32) (l6 : Int32) (mrm : Int32) (mer : Int32) (dxs : Nat → Int32) (dus : Nat → Int32) (dys : Nat → Int32) (dgp : Nat → Int32) (k99 : Int32 → Option (Int32)) (l7 : Int32) : Option (Int32) :=
  (if mrm < l7 then some ((-4 : Int32)) else b1 (f_X9_isLet N (((1 : Int32) <<< (l7 &&& 31)) - (1 : Int32)) l1 mrm mer dxs dus dys dgp) (fun r20 => (if r20 = 0 then k99 (l7 + (1 : Int32)) else b1 (f_X9_isLet N (l6 &&& ((((1 : Int32) <<< (l7 &&& 31)) - (1 : Int32)) ^^^ (-1 : Int32))) (((17 : Int32) * l4) + l5) mrm mer dxs dus dys dgp) (fun r23 => (if r23 = 0 then k99 (l7 + (1 : Int32)) else some (l7))))))
def f_X9_wear_99 (N : Nat)  (l1 : Int32) (l4 : Int32) (l5 : Int32) (l6 : Int32) (mrm : Int32) (mer : Int32) (dxs : Nat → Int32) (dus : Nat → Int32) (dys : Nat → Int32) (dgp : Nat → Int32) : Nat → Int32 → Option (Int32)
  | 0, _ => none
  | n + 1, l7 => b_X9_wear_99 N l1 l4 l5 l6 mrm mer dxs dus dys dgp (f_X9_wear_99 N l1 l4 l5 l6 mrm mer dxs dus dys dgp n) l7
def f_X9_wear_41 (N : Nat)  (l1 : Int32) (l2 : Int32) (l3 : Int32) (mrm : Int32) (mer : Int32) (dxs : Nat → Int32) (dus : Nat → Int32) (dys : Nat → Int32) (dgp : Nat → Int32) : Option (Int32) :=
  b1 (f_X9_in N (((l1 / (17 : Int32)) + l2).toInt64) (0 : Int64) (16 : Int64)) (fun r13 => (if r13 = 0 then some ((-2 : Int32)) else b1 (f_X9_in N (((l1 - l1 / (17 : Int32) * (17 : Int32)) + l3).toInt64) (0 : Int64) (16 : Int64)) (fun r16 => (if r16 = 0 then some ((-2 : Int32)) else f_X9_wear_99 N l1 ((l1 / (17 : Int32)) + l2) ((l1 - l1 / (17 : Int32) * (17 : Int32)) + l3) (((1 : Int32) <<< (mrm &&& 31)) - (1 : Int32)) mrm mer dxs dus dys dgp N (0 : Int32)))))
def f_X9_wear (N : Nat) (p0 : Int32) (p1 : Int32) (p2 : Int32) (mrm : Int32) (mer : Int32) (dxs : Nat → Int32) (dus : Nat → Int32) (dys : Nat → Int32) (dgp : Nat → Int32) : Option (Int32) :=
  b1 (f_X9_isLaw N p0) (fun r2 => (if r2 = 0 then some ((-1 : Int32)) else b1 (f_X9_in N (p1.toInt64) (-1 : Int64) (1 : Int64)) (fun r5 => (if r5 = 0 then some ((-1 : Int32)) else b1 (f_X9_in N (p2.toInt64) (-1 : Int64) (1 : Int64)) (fun r8 => (if r8 = 0 then some ((-1 : Int32)) else (if p1 = 0 then (if p2 = 0 then some ((-1 : Int32)) else f_X9_wear_41 N p0 p1 p2 mrm mer dxs dus dys dgp) else f_X9_wear_41 N p0 p1 p2 mrm mer dxs dus dys dgp)))))))
def b_X9_check_103 (N : Nat) (k90 : Int32 → Option (Int32)) (l5 : Int32) (l6 : Int32) (mrm : Int32) (mer : Int32) (dxs : Nat → Int32) (dus : Nat → Int32) (dys : Nat → Int32) (dgp : Nat → Int32) (dit : Nat → Int32) (k103 : Int32 → Int32 → Option (Int32)) (l7 : Int32) (l8 : Int32) : Option (Int32) :=
  (if mrm ≤ l8 then b1 (f_X9_isWhole N l7 mrm mer dxs dus dys dgp) (fun r18 => (if r18 = 0 then some (l6) else k90 (l6 + (1 : Int32)))) else gi (l5 + l8) 144 ((if (dit (l5 + l8).toNatClampNeg) = l6 then k103 (l7 ||| ((1 : Int32) <<< (l8 &&& 31))) (l8 + (1 : Int32)) else k103 (l7 ||| (0 : Int32)) (l8 + (1 : Int32)))))
def f_X9_check_103 (N : Nat) (k90 : Int32 → Option (Int32)) (l5 : Int32) (l6 : Int32) (mrm : Int32) (mer : Int32) (dxs : Nat → Int32) (dus : Nat → Int32) (dys : Nat → Int32) (dgp : Nat → Int32) (dit : Nat → Int32) : Nat → Int32 → Int32 → Option (Int32)
  | 0, _, _ => none
  | n + 1, l7, l8 => b_X9_check_103 N k90 l5 l6 mrm mer dxs dus dys dgp dit (f_X9_check_103 N k90 l5 l6 mrm mer dxs dus dys dgp dit n) l7 l8
def b_X9_check_90 (N : Nat)  (l5 : Int32) (mrm : Int32) (mer : Int32) (dxs : Nat → Int32) (dus : Nat → Int32) (dys : Nat → Int32) (dgp : Nat → Int32) (dit : Nat → Int32) (k90 : Int32 → Option (Int32)) (l6 : Int32) : Option (Int32) :=
  (if (12 : Int32) ≤ l6 then some ((-4 : Int32)) else f_X9_check_103 N k90 l5 l6 mrm mer dxs dus dys dgp dit N (0 : Int32) (0 : Int32))
def f_X9_check_90 (N : Nat)  (l5 : Int32) (mrm : Int32) (mer : Int32) (dxs : Nat → Int32) (dus : Nat → Int32) (dys : Nat → Int32) (dgp : Nat → Int32) (dit : Nat → Int32) : Nat → Int32 → Option (Int32)
  | 0, _ => none
  | n + 1, l6 => b_X9_check_90 N l5 mrm mer dxs dus dys dgp dit (f_X9_check_90 N l5 mrm mer dxs dus dys dgp dit n) l6
def b_X9_check_48 (N : Nat)  (l5 : Int32) (mrm : Int32) (mer : Int32) (dxs : Nat → Int32) (dus : Nat → Int32) (dys : Nat → Int32) (dgp : Nat → Int32) (dit : Nat → Int32) (k48 : Int32 → Option (Int32)) (l6 : Int32) : Option (Int32) :=
  (if mrm ≤ l6 then f_X9_check_90 N l5 mrm mer dxs dus dys dgp dit N (0 : Int32) else gi (l5 + l6) 144 (b1 (f_X9_in N ((dit (l5 + l6).toNatClampNeg).toInt64) (0 : Int64) (11 : Int64)) (fun r13 => (if r13 = 0 then some ((-2 : Int32)) else k48 (l6 + (1 : Int32))))))
def f_X9_check_48 (N : Nat)  (l5 : Int32) (mrm : Int32) (mer : Int32) (dxs : Nat → Int32) (dus : Nat → Int32) (dys : Nat → Int32) (dgp : Nat → Int32) (dit : Nat → Int32) : Nat → Int32 → Option (Int32)
  | 0, _ => none
  | n + 1, l6 => b_X9_check_48 N l5 mrm mer dxs dus dys dgp dit (f_X9_check_48 N l5 mrm mer dxs dus dys dgp dit n) l6
def f_X9_check (N : Nat) (p0 : Int32) (p1 : Int32) (p2 : Int32) (mrm : Int32) (mer : Int32) (dxs : Nat → Int32) (dus : Nat → Int32) (dys : Nat → Int32) (dgp : Nat → Int32) (dln : Nat → Int32) (dsz : Nat → Int32) (dit : Nat → Int32) : Option (Int32) :=
  b1 (f_X9_isSheet N p0) (fun r2 => (if r2 = 0 then some ((-1 : Int32)) else b1 (f_X9_isLane N p1) (fun r5 => (if r5 = 0 then some ((-1 : Int32)) else b1 (f_X9_finds N p0 p1 p2 mrm dln dsz) (fun r8 => (if 0 ≤ r8 then f_X9_check_48 N (((36 : Int32) * p0) + p2) mrm mer dxs dus dys dgp dit N (0 : Int32) else some (r8)))))))
abbrev rm_X9_isHeap : Room := { frames := 1, cells := 0, slots := 0, locals := 25 }
theorem iX9_isHeap_X9 : ∀ w ∈ wsX90, w ∈ wsX9_isHeap := by decide +kernel
theorem kX9_isHeap_1 : (Cond.fieldLink RX9 62 "TwoLawsModel" "rowMany" "I") ∈ wsX9_isHeap := by decide +kernel
set_option maxHeartbeats 4000000 in
set_option maxRecDepth 100000 in
theorem cr_X9_isHeap (l : Launch) (D : va_G) (ky : Nat → ClassId) (aM mxs mus mys mgp mtp mme mle mlt mkl mln msz mit mmv : Nat) (sz N : Nat)  (mrm : Int32) (mer : Int32) (mtd : Int32) (mat : Int32) (mwr : Int32) (mkn : Int32) (mmb : Int32) (mwa : Int32) (mra : Int32) (mbl : Int32) (mbh : Int32) (dxs : Nat → Int32) (dus : Nat → Int32) (dys : Nat → Int32) (dgp : Nat → Int32) (dtp : Nat → Int32) (dme : Nat → Int32) (dle : Nat → Int32) (dlt : Nat → Int32) (dkl : Nat → Int32) (dln : Nat → Int32) (dsz : Nat → Int32) (dit : Nat → Int32) (dmv : Nat → Int32) (p0 : Int32) (res : Int32) (hF : f_X9_isHeap N p0 mrm = some res) : MI l yX9_isHeap wsX9_isHeap rm_X9_isHeap D ky sz [.ref aM, .int p0] (w_model ky aM mxs mus mys mgp mtp mme mle mlt mkl mln msz mit mmv mrm mer mtd mat mwr mkn mmb mwa mra mbl mbh dxs dus dys dgp dtp dme dle dlt dkl dln dsz dit dmv) (w_model ky aM mxs mus mys mgp mtp mme mle mlt mkl mln msz mit mmv mrm mer mtd mat mwr mkn mmb mwa mra mbl mbh dxs dus dys dgp dtp dme dle dlt dkl dln dsz dit dmv) res := by
  unfold MI
  refine Met.ofW (cc := cX9_isHeap) (maxL := 2) (ret := (some .boolean)) (by decide) rfl ?_
  intro p e s m args below meth c s₁ B hml hv
  obtain ⟨rfl, hsz, hP, hK, hD0⟩ := hv
  have hx := B.exec
  have hb := B.bytes
  have hr := B.returns
  have hts := atoms_spec (ws := wsX9_isHeap) B.pre
  have hown : s.vm.findClass RX9 = some m.cls := findClass_of_methodNamed B.named
  have hlocks := B.notSynchronized
  subst hsz
  have hD := hD0.self (sz := s.heap.size)
  generalize hAe : va_A (w_model ky aM mxs mus mys mgp mtp mme mle mlt mkl mln msz mit mmv mrm mer mtd mat mwr mkn mmb mwa mra mbl mbh dxs dus dys dgp dtp dme dle dlt dkl dln dsz dit dmv) s.heap.size = A at hD ⊢
  have hA : ∀ q : Nat, s.heap.size ≤ q → A q := fun q h => by rw [← hAe]; exact Or.inr h
  have hS : va_S A s.heap s.heap [] := va_S.rf
  have hP : va_P D vwCl (w_model ky aM mxs mus mys mgp mtp mme mle mlt mkl mln msz mit mmv mrm mer mtd mat mwr mkn mmb mwa mra mbl mbh dxs dus dys dgp dtp dme dle dlt dkl dln dsz dit dmv) s.heap := hP
  have hl := lv_entry ([.ref aM, .int p0]) (n := 2) (Nat.le_of_ble_eq_true rfl)
  rw [lg_entry_eq]
  generalize (lg_sl ([.ref aM, .int p0]) ++ List.replicate (2 - (lg_sl ([.ref aM, .int p0])).length) Slot.unset).toArray = ls at hl ⊢
  have hl : lv_has ls 2 [(0, .ref aM), (1, .int p0)] := hl
  have C : cx p s m c ([.ref aM, .int p0]).toArray D ky A cX9_isHeap 2 wsX9_isHeap RX9 := ⟨hx, hb, hml, hown, hts, hK, hA⟩
  have hQ : ∀ (pc : Nat) (H : Heap) (locs : List Loc) (ls : Array Slot), decode cX9_isHeap pc = .ok (.ireturn, 1) → (res = 0 ∨ res = 1) → va_P D vwCl (w_model ky aM mxs mus mys mgp mtp mme mle mlt mkl mln msz mit mmv mrm mer mtd mat mwr mkn mmb mwa mra mbl mbh dxs dus dys dgp dtp dme dle dlt dkl dln dsz dit dmv) H → va_D A (w_model ky aM mxs mus mys mgp mtp mme mle mlt mkl mln msz mit mmv mrm mer mtd mat mwr mkn mmb mwa mra mbl mbh dxs dus dys dgp dtp dme dle dlt dkl dln dsz dit dmv) → va_S A s.heap H locs → W p l e rm_X9_isHeap s m ([.ref aM, .int p0]).toArray below meth c H locs 0 0 (MQ below (va_Qi (S := Unit) (fun r _ => r = res) (fun _ t => va_P D vwCl (w_model ky aM mxs mus mys mgp mtp mme mle mlt mkl mln msz mit mmv mrm mer mtd mat mwr mkn mmb mwa mra mbl mbh dxs dus dys dgp dtp dme dle dlt dkl dln dsz dit dmv) t.heap ∧ va_K D vwCl (tyW ky) t ∧ va_D A (w_model ky aM mxs mus mys mgp mtp mme mle mlt mkl mln msz mit mmv mrm mer mtd mat mwr mkn mmb mwa mra mbl mbh dxs dus dys dgp dtp dme dle dlt dkl dln dsz dit dmv)) A) ([.ref aM, .int p0]).toArray s 0 0 A) (F0 m pc ls [.int res]) := fun pc H locs ls hd hz hP hD hS => W.zret hx hb hr (gz_n hz) (fun t ht hW => ⟨⟨res, (), rfl, rfl, by rw [ht]; exact hP, va_K.moved hW.alike hK, hD⟩, hS.F ht⟩) hS.2.2 hd
  unfold f_X9_isHeap at hF
  refine lv_iload_n hx hb dX9_isHeap_0 rfl (lv_at hl 1 rfl) ?_
  refine lv_i2l (v := (p0.toInt64)) hx hb dX9_isHeap_1 rfl ?_
  refine lv_lconst (v := (0 : Int64)) hx hb dX9_isHeap_2 (by decide) ?_
  refine lv_iconst (v := (1 : Int32)) hx hb dX9_isHeap_3 (by decide) ?_
  refine lv_aload_n hx hb dX9_isHeap_4 rfl (lv_at hl 0 rfl) ?_
  refine va_get (D := D) (ci := 8) (v := .int mrm) (C := RX9) (T := TX9) (N := 24) hx hb hts iX9_isHeap_X9 hown hK hP 0 rfl rfl 0 (by decide) (hts _ kX9_isHeap_1) (fun _ h9 => h9) rfl dX9_isHeap_5 ?_
  refine lv_ishl hx hb dX9_isHeap_8 ?_
  refine lv_iconst (v := (1 : Int32)) hx hb dX9_isHeap_9 (by decide) ?_
  refine lv_isub hx hb dX9_isHeap_10 ?_
  refine lv_i2l (v := ((((1 : Int32) <<< (mrm &&& 31)) - (1 : Int32)).toInt64)) hx hb dX9_isHeap_11 rfl ?_
  obtain ⟨r2, h1, hF⟩ := b1_s hF
  refine cl_si (As := [.long (p0.toInt64), .long (0 : Int64), .long ((((1 : Int32) <<< (mrm &&& 31)) - (1 : Int32)).toInt64)]) (rest := []) ⟨hx, hb, hml, hown, hts⟩ hK hP hD hS hA (c_X9_in l D ky  _ N   (p0.toInt64) (0 : Int64) ((((1 : Int32) <<< (mrm &&& 31)) - (1 : Int32)).toInt64) r2 h1) (va_cwS 3 hts gX9_isHeap_X9_in rfl rfl rfl (by decide +kernel) ⟨Nat.le_of_ble_eq_true rfl, Nat.le_of_ble_eq_true rfl⟩) rfl hl.1 (Nat.le_of_ble_eq_true rfl) dX9_isHeap_12 ⟨Nat.zero_le _, Nat.zero_le _⟩ (fun H locs hP hD hS => ?_)
  obtain ⟨h3, hF⟩ := gz_s hF
  have hF := Option.some.inj hF
  subst hF
  exact hQ _ _ _ _ dX9_isHeap_15 h3 hP hD hS
theorem c_X9_isHeap (l : Launch) (D : va_G) (ky : Nat → ClassId) (aM mxs mus mys mgp mtp mme mle mlt mkl mln msz mit mmv : Nat) (sz N : Nat)  (mrm : Int32) (mer : Int32) (mtd : Int32) (mat : Int32) (mwr : Int32) (mkn : Int32) (mmb : Int32) (mwa : Int32) (mra : Int32) (mbl : Int32) (mbh : Int32) (dxs : Nat → Int32) (dus : Nat → Int32) (dys : Nat → Int32) (dgp : Nat → Int32) (dtp : Nat → Int32) (dme : Nat → Int32) (dle : Nat → Int32) (dlt : Nat → Int32) (dkl : Nat → Int32) (dln : Nat → Int32) (dsz : Nat → Int32) (dit : Nat → Int32) (dmv : Nat → Int32) (p0 : Int32) (rv : Int32) (hF : f_X9_isHeap N p0 mrm = some (rv)) : MI l yX9_isHeap wsX9_isHeap rm_X9_isHeap D ky sz [.ref aM, .int p0] (w_model ky aM mxs mus mys mgp mtp mme mle mlt mkl mln msz mit mmv mrm mer mtd mat mwr mkn mmb mwa mra mbl mbh dxs dus dys dgp dtp dme dle dlt dkl dln dsz dit dmv) (w_model ky aM mxs mus mys mgp mtp mme mle mlt mkl mln msz mit mmv mrm mer mtd mat mwr mkn mmb mwa mra mbl mbh dxs dus dys dgp dtp dme dle dlt dkl dln dsz dit dmv) rv :=
  cr_X9_isHeap l D ky aM mxs mus mys mgp mtp mme mle mlt mkl mln msz mit mmv sz N mrm mer mtd mat mwr mkn mmb mwa mra mbl mbh dxs dus dys dgp dtp dme dle dlt dkl dln dsz dit dmv p0 (rv) hF
abbrev rm_X9_isLet : Room := { frames := 3, cells := 0, slots := 0, locals := 72 }
theorem iX9_isLet_X9 : ∀ w ∈ wsX90, w ∈ wsX9_isLet := by decide +kernel
theorem kX9_isLet_1 : (Cond.fieldLink RX9 62 "TwoLawsModel" "rowMany" "I") ∈ wsX9_isLet := by decide +kernel
set_option maxHeartbeats 4000000 in
set_option maxRecDepth 100000 in
theorem w_X9_isLet_5 {p : Program} {l : Launch} {e : Env} {s : State} {m : MethodId} {args : Array Value} {below : List Frame} {meth : Method} {c : Code} {Q : State → Prop} {A : Nat → Prop} {D : va_G} {ky : Nat → ClassId} {aM mxs mus mys mgp mtp mme mle mlt mkl mln msz mit mmv : Nat} {mrm : Int32} {mer : Int32} {mtd : Int32} {mat : Int32} {mwr : Int32} {mkn : Int32} {mmb : Int32} {mwa : Int32} {mra : Int32} {mbl : Int32} {mbh : Int32} {dxs : Nat → Int32} {dus : Nat → Int32} {dys : Nat → Int32} {dgp : Nat → Int32} {dtp : Nat → Int32} {dme : Nat → Int32} {dle : Nat → Int32} {dlt : Nat → Int32} {dkl : Nat → Int32} {dln : Nat → Int32} {dsz : Nat → Int32} {dit : Nat → Int32} {dmv : Nat → Int32} (N : Nat) (C : cx p s m c args D ky A cX9_isLet 5 wsX9_isLet RX9) (res : Int32) (hQ : ∀ (pc : Nat) (H : Heap) (locs : List Loc) (ls : Array Slot), decode cX9_isLet pc = .ok (.ireturn, 1) → (res = 0 ∨ res = 1) → va_P D vwCl (w_model ky aM mxs mus mys mgp mtp mme mle mlt mkl mln msz mit mmv mrm mer mtd mat mwr mkn mmb mwa mra mbl mbh dxs dus dys dgp dtp dme dle dlt dkl dln dsz dit dmv) H → va_D A (w_model ky aM mxs mus mys mgp mtp mme mle mlt mkl mln msz mit mmv mrm mer mtd mat mwr mkn mmb mwa mra mbl mbh dxs dus dys dgp dtp dme dle dlt dkl dln dsz dit dmv) → va_S A s.heap H locs → W p l e rm_X9_isLet s m args below meth c H locs 0 0 Q (F0 m pc ls [.int res])) (l1 : Int32) (l2 : Int32) : ∀ (n : Nat) (l3 : Int32) (l4 : Int32), f_X9_isLet_5 N l1 l2 mrm mer dxs dus dys dgp n l3 l4 = some res → ∀ (H : Heap) (locs : List Loc) (ls : Array Slot), va_P D vwCl (w_model ky aM mxs mus mys mgp mtp mme mle mlt mkl mln msz mit mmv mrm mer mtd mat mwr mkn mmb mwa mra mbl mbh dxs dus dys dgp dtp dme dle dlt dkl dln dsz dit dmv) H → va_D A (w_model ky aM mxs mus mys mgp mtp mme mle mlt mkl mln msz mit mmv mrm mer mtd mat mwr mkn mmb mwa mra mbl mbh dxs dus dys dgp dtp dme dle dlt dkl dln dsz dit dmv) → va_S A s.heap H locs → lv_has ls 5 [(0, .ref aM), (1, .int l1), (2, .int l2), (3, .int l3), (4, .int l4)] → W p l e rm_X9_isLet s m args below meth c H locs 0 0 Q (F0 m 5 ls []) := by
  obtain ⟨hx, hb, hml, hown, hts, hK, hA⟩ := id C
  intro n
  induction n with
  | zero =>
    intro l3 l4 hF
    cases hF
  | succ n ih =>
    intro l3 l4 hF H locs ls hP hD hS hl
    have hF : b_X9_isLet_5 N l1 l2 mrm mer dxs dus dys dgp (f_X9_isLet_5 N l1 l2 mrm mer dxs dus dys dgp n) l3 l4 = some res := hF
    unfold b_X9_isLet_5 at hF
    refine lv_iload hx hb dX9_isLet_5 (lv_at hl 4 rfl) ?_
    refine lv_aload_n hx hb dX9_isLet_7 rfl (lv_at hl 0 rfl) ?_
    refine va_get (D := D) (ci := 8) (v := .int mrm) (C := RX9) (T := TX9) (N := 24) hx hb hts iX9_isLet_X9 hown hK hP 0 rfl rfl 0 (by decide) (hts _ kX9_isLet_1) (fun _ h9 => h9) rfl dX9_isLet_8 ?_
    refine lv_icmp_ge (tgt := 49) hx hb dX9_isLet_11 (by decide) (fun c1 => ?_) (fun c1 => ?_)
    · have hF := if_t c1 hF
      refine lv_iload_n hx hb dX9_isLet_49 rfl (lv_at hl 3 rfl) ?_
      obtain ⟨h2, hF⟩ := gz_s hF
      have hF := Option.some.inj hF
      subst hF
      exact hQ _ H _ _ dX9_isLet_50 h2 hP hD hS
    · have hF := if_f c1 hF
      refine lv_iload_n hx hb dX9_isLet_14 rfl (lv_at hl 3 rfl) ?_
      refine lv_if_eq (tgt := 49) hx hb dX9_isLet_15 (by decide) (fun c3 => ?_) (fun c3 => ?_)
      · have hF := if_t c3 hF
        refine lv_iload_n hx hb dX9_isLet_49 rfl (lv_at hl 3 rfl) ?_
        obtain ⟨h4, hF⟩ := gz_s hF
        have hF := Option.some.inj hF
        subst hF
        exact hQ _ H _ _ dX9_isLet_50 h4 hP hD hS
      · have hF := if_f c3 hF
        refine lv_iload_n hx hb dX9_isLet_18 rfl (lv_at hl 1 rfl) ?_
        refine lv_iload hx hb dX9_isLet_19 (lv_at hl 4 rfl) ?_
        refine lv_ishr hx hb dX9_isLet_21 ?_
        refine lv_iconst (v := (1 : Int32)) hx hb dX9_isLet_22 (by decide) ?_
        refine lv_iand hx hb dX9_isLet_23 ?_
        refine lv_if_eq (tgt := 37) hx hb dX9_isLet_24 (by decide) (fun c5 => ?_) (fun c5 => ?_)
        · have hF := if_t c5 hF
          refine lv_iconst (v := (1 : Int32)) hx hb dX9_isLet_37 (by decide) ?_
          refine lv_goto (tgt := 42) hx hb dX9_isLet_38 (by decide) ?_
          refine lv_istore_n (lv' := [(3, .int (1 : Int32)), (0, .ref aM), (1, .int l1), (2, .int l2), (4, .int l4)]) hx hb dX9_isLet_42 rfl hl (by decide) rfl (fun ls hl => ?_)
          refine lv_iinc (v := (l4 + (1 : Int32))) (lv' := [(4, .int (l4 + (1 : Int32))), (3, .int (1 : Int32)), (0, .ref aM), (1, .int l1), (2, .int l2)]) hx hb dX9_isLet_43 hl (k := 4) rfl rfl (by decide) rfl (fun ls hl => ?_)
          refine lv_goto (tgt := 5) hx hb dX9_isLet_46 (by decide) ?_
          exact ih (1 : Int32) (l4 + (1 : Int32)) hF H _ _ hP hD hS (lv_sub hl [2, 3, 4, 1, 0] rfl)
        · have hF := if_f c5 hF
          refine lv_aload_n hx hb dX9_isLet_27 rfl (lv_at hl 0 rfl) ?_
          refine lv_iload hx hb dX9_isLet_28 (lv_at hl 4 rfl) ?_
          refine lv_iload_n hx hb dX9_isLet_30 rfl (lv_at hl 2 rfl) ?_
          obtain ⟨r7, h6, hF⟩ := b1_s hF
          refine cl_vi (As := [.int l4, .int l2]) (rest := []) (w' := (w_model ky aM mxs mus mys mgp mtp mme mle mlt mkl mln msz mit mmv mrm mer mtd mat mwr mkn mmb mwa mra mbl mbh dxs dus dys dgp dtp dme dle dlt dkl dln dsz dit dmv)) ⟨hx, hb, hml, hown, hts⟩ hK hP hD hS hA (c_X9_doesMeet l D ky aM mxs mus mys mgp mtp mme mle mlt mkl mln msz mit mmv _ N  mrm mer mtd mat mwr mkn mmb mwa mra mbl mbh dxs dus dys dgp dtp dme dle dlt dkl dln dsz dit dmv l4 l2 r7 h6) (cwV 2 hts gX9_isLet_X9_doesMeet rfl rfl rfl (by decide +kernel) ⟨Nat.le_of_ble_eq_true rfl, Nat.le_of_ble_eq_true rfl⟩) [0, 1, 2, 3, 4, 5, 6, 7, 8, 9, 10, 11, 12, 13] [] [0, 1, 2, 3, 4, 5, 6, 7, 8, 9, 10, 11, 12, 13] 0 8 rfl rfl rfl rfl (wr := []) rfl (by decide) rfl rfl hl.1 (Nat.le_of_ble_eq_true rfl) dX9_isLet_31 ⟨Nat.zero_le _, Nat.zero_le _⟩ (fun H locs hP hD hS => ?_)
          refine lv_if_eq (tgt := 41) hx hb dX9_isLet_34 (by decide) (fun c8 => ?_) (fun c8 => ?_)
          · have hF := if_t c8 hF
            refine lv_iconst (v := (0 : Int32)) hx hb dX9_isLet_41 (by decide) ?_
            refine lv_istore_n (lv' := [(3, .int (0 : Int32)), (0, .ref aM), (1, .int l1), (2, .int l2), (4, .int l4)]) hx hb dX9_isLet_42 rfl hl (by decide) rfl (fun ls hl => ?_)
            refine lv_iinc (v := (l4 + (1 : Int32))) (lv' := [(4, .int (l4 + (1 : Int32))), (3, .int (0 : Int32)), (0, .ref aM), (1, .int l1), (2, .int l2)]) hx hb dX9_isLet_43 hl (k := 4) rfl rfl (by decide) rfl (fun ls hl => ?_)
            refine lv_goto (tgt := 5) hx hb dX9_isLet_46 (by decide) ?_
            exact ih (0 : Int32) (l4 + (1 : Int32)) hF H _ _ hP hD hS (lv_sub hl [2, 3, 4, 1, 0] rfl)
          · have hF := if_f c8 hF
            refine lv_iconst (v := (1 : Int32)) hx hb dX9_isLet_37 (by decide) ?_
            refine lv_goto (tgt := 42) hx hb dX9_isLet_38 (by decide) ?_
            refine lv_istore_n (lv' := [(3, .int (1 : Int32)), (0, .ref aM), (1, .int l1), (2, .int l2), (4, .int l4)]) hx hb dX9_isLet_42 rfl hl (by decide) rfl (fun ls hl => ?_)
            refine lv_iinc (v := (l4 + (1 : Int32))) (lv' := [(4, .int (l4 + (1 : Int32))), (3, .int (1 : Int32)), (0, .ref aM), (1, .int l1), (2, .int l2)]) hx hb dX9_isLet_43 hl (k := 4) rfl rfl (by decide) rfl (fun ls hl => ?_)
            refine lv_goto (tgt := 5) hx hb dX9_isLet_46 (by decide) ?_
            exact ih (1 : Int32) (l4 + (1 : Int32)) hF H _ _ hP hD hS (lv_sub hl [2, 3, 4, 1, 0] rfl)
set_option maxHeartbeats 4000000 in
set_option maxRecDepth 100000 in
theorem cr_X9_isLet (l : Launch) (D : va_G) (ky : Nat → ClassId) (aM mxs mus mys mgp mtp mme mle mlt mkl mln msz mit mmv : Nat) (sz N : Nat)  (mrm : Int32) (mer : Int32) (mtd : Int32) (mat : Int32) (mwr : Int32) (mkn : Int32) (mmb : Int32) (mwa : Int32) (mra : Int32) (mbl : Int32) (mbh : Int32) (dxs : Nat → Int32) (dus : Nat → Int32) (dys : Nat → Int32) (dgp : Nat → Int32) (dtp : Nat → Int32) (dme : Nat → Int32) (dle : Nat → Int32) (dlt : Nat → Int32) (dkl : Nat → Int32) (dln : Nat → Int32) (dsz : Nat → Int32) (dit : Nat → Int32) (dmv : Nat → Int32) (p0 : Int32) (p1 : Int32) (res : Int32) (hF : f_X9_isLet N p0 p1 mrm mer dxs dus dys dgp = some res) : MI l yX9_isLet wsX9_isLet rm_X9_isLet D ky sz [.ref aM, .int p0, .int p1] (w_model ky aM mxs mus mys mgp mtp mme mle mlt mkl mln msz mit mmv mrm mer mtd mat mwr mkn mmb mwa mra mbl mbh dxs dus dys dgp dtp dme dle dlt dkl dln dsz dit dmv) (w_model ky aM mxs mus mys mgp mtp mme mle mlt mkl mln msz mit mmv mrm mer mtd mat mwr mkn mmb mwa mra mbl mbh dxs dus dys dgp dtp dme dle dlt dkl dln dsz dit dmv) res := by
  unfold MI
  refine Met.ofW (cc := cX9_isLet) (maxL := 5) (ret := (some .boolean)) (by decide) rfl ?_
  intro p e s m args below meth c s₁ B hml hv
  obtain ⟨rfl, hsz, hP, hK, hD0⟩ := hv
  have hx := B.exec
  have hb := B.bytes
  have hr := B.returns
  have hts := atoms_spec (ws := wsX9_isLet) B.pre
  have hown : s.vm.findClass RX9 = some m.cls := findClass_of_methodNamed B.named
  have hlocks := B.notSynchronized
  subst hsz
  have hD := hD0.self (sz := s.heap.size)
  generalize hAe : va_A (w_model ky aM mxs mus mys mgp mtp mme mle mlt mkl mln msz mit mmv mrm mer mtd mat mwr mkn mmb mwa mra mbl mbh dxs dus dys dgp dtp dme dle dlt dkl dln dsz dit dmv) s.heap.size = A at hD ⊢
  have hA : ∀ q : Nat, s.heap.size ≤ q → A q := fun q h => by rw [← hAe]; exact Or.inr h
  have hS : va_S A s.heap s.heap [] := va_S.rf
  have hP : va_P D vwCl (w_model ky aM mxs mus mys mgp mtp mme mle mlt mkl mln msz mit mmv mrm mer mtd mat mwr mkn mmb mwa mra mbl mbh dxs dus dys dgp dtp dme dle dlt dkl dln dsz dit dmv) s.heap := hP
  have hl := lv_entry ([.ref aM, .int p0, .int p1]) (n := 5) (Nat.le_of_ble_eq_true rfl)
  rw [lg_entry_eq]
  generalize (lg_sl ([.ref aM, .int p0, .int p1]) ++ List.replicate (5 - (lg_sl ([.ref aM, .int p0, .int p1])).length) Slot.unset).toArray = ls at hl ⊢
  have hl : lv_has ls 5 [(0, .ref aM), (1, .int p0), (2, .int p1)] := hl
  have C : cx p s m c ([.ref aM, .int p0, .int p1]).toArray D ky A cX9_isLet 5 wsX9_isLet RX9 := ⟨hx, hb, hml, hown, hts, hK, hA⟩
  have hQ : ∀ (pc : Nat) (H : Heap) (locs : List Loc) (ls : Array Slot), decode cX9_isLet pc = .ok (.ireturn, 1) → (res = 0 ∨ res = 1) → va_P D vwCl (w_model ky aM mxs mus mys mgp mtp mme mle mlt mkl mln msz mit mmv mrm mer mtd mat mwr mkn mmb mwa mra mbl mbh dxs dus dys dgp dtp dme dle dlt dkl dln dsz dit dmv) H → va_D A (w_model ky aM mxs mus mys mgp mtp mme mle mlt mkl mln msz mit mmv mrm mer mtd mat mwr mkn mmb mwa mra mbl mbh dxs dus dys dgp dtp dme dle dlt dkl dln dsz dit dmv) → va_S A s.heap H locs → W p l e rm_X9_isLet s m ([.ref aM, .int p0, .int p1]).toArray below meth c H locs 0 0 (MQ below (va_Qi (S := Unit) (fun r _ => r = res) (fun _ t => va_P D vwCl (w_model ky aM mxs mus mys mgp mtp mme mle mlt mkl mln msz mit mmv mrm mer mtd mat mwr mkn mmb mwa mra mbl mbh dxs dus dys dgp dtp dme dle dlt dkl dln dsz dit dmv) t.heap ∧ va_K D vwCl (tyW ky) t ∧ va_D A (w_model ky aM mxs mus mys mgp mtp mme mle mlt mkl mln msz mit mmv mrm mer mtd mat mwr mkn mmb mwa mra mbl mbh dxs dus dys dgp dtp dme dle dlt dkl dln dsz dit dmv)) A) ([.ref aM, .int p0, .int p1]).toArray s 0 0 A) (F0 m pc ls [.int res]) := fun pc H locs ls hd hz hP hD hS => W.zret hx hb hr (gz_n hz) (fun t ht hW => ⟨⟨res, (), rfl, rfl, by rw [ht]; exact hP, va_K.moved hW.alike hK, hD⟩, hS.F ht⟩) hS.2.2 hd
  unfold f_X9_isLet at hF
  refine lv_iconst (v := (1 : Int32)) hx hb dX9_isLet_0 (by decide) ?_
  refine lv_istore_n (lv' := [(3, .int (1 : Int32)), (0, .ref aM), (1, .int p0), (2, .int p1)]) hx hb dX9_isLet_1 rfl hl (by decide) rfl (fun ls hl => ?_)
  refine lv_iconst (v := (0 : Int32)) hx hb dX9_isLet_2 (by decide) ?_
  refine lv_istore (lv' := [(4, .int (0 : Int32)), (3, .int (1 : Int32)), (0, .ref aM), (1, .int p0), (2, .int p1)]) hx hb dX9_isLet_3 hl (by decide) rfl (fun ls hl => ?_)
  exact w_X9_isLet_5 N C res hQ p0 p1 N (1 : Int32) (0 : Int32) hF _ _ _ hP hD hS (lv_sub hl [2, 3, 4, 1, 0] rfl)
theorem c_X9_isLet (l : Launch) (D : va_G) (ky : Nat → ClassId) (aM mxs mus mys mgp mtp mme mle mlt mkl mln msz mit mmv : Nat) (sz N : Nat)  (mrm : Int32) (mer : Int32) (mtd : Int32) (mat : Int32) (mwr : Int32) (mkn : Int32) (mmb : Int32) (mwa : Int32) (mra : Int32) (mbl : Int32) (mbh : Int32) (dxs : Nat → Int32) (dus : Nat → Int32) (dys : Nat → Int32) (dgp : Nat → Int32) (dtp : Nat → Int32) (dme : Nat → Int32) (dle : Nat → Int32) (dlt : Nat → Int32) (dkl : Nat → Int32) (dln : Nat → Int32) (dsz : Nat → Int32) (dit : Nat → Int32) (dmv : Nat → Int32) (p0 : Int32) (p1 : Int32) (rv : Int32) (hF : f_X9_isLet N p0 p1 mrm mer dxs dus dys dgp = some (rv)) : MI l yX9_isLet wsX9_isLet rm_X9_isLet D ky sz [.ref aM, .int p0, .int p1] (w_model ky aM mxs mus mys mgp mtp mme mle mlt mkl mln msz mit mmv mrm mer mtd mat mwr mkn mmb mwa mra mbl mbh dxs dus dys dgp dtp dme dle dlt dkl dln dsz dit dmv) (w_model ky aM mxs mus mys mgp mtp mme mle mlt mkl mln msz mit mmv mrm mer mtd mat mwr mkn mmb mwa mra mbl mbh dxs dus dys dgp dtp dme dle dlt dkl dln dsz dit dmv) rv :=
  cr_X9_isLet l D ky aM mxs mus mys mgp mtp mme mle mlt mkl mln msz mit mmv sz N mrm mer mtd mat mwr mkn mmb mwa mra mbl mbh dxs dus dys dgp dtp dme dle dlt dkl dln dsz dit dmv p0 p1 (rv) hF
abbrev rm_X9_isWhole : Room := { frames := 4, cells := 0, slots := 0, locals := 96 }
set_option maxHeartbeats 4000000 in
set_option maxRecDepth 100000 in
theorem w_X9_isWhole_4 {p : Program} {l : Launch} {e : Env} {s : State} {m : MethodId} {args : Array Value} {below : List Frame} {meth : Method} {c : Code} {Q : State → Prop} {A : Nat → Prop} {D : va_G} {ky : Nat → ClassId} {aM mxs mus mys mgp mtp mme mle mlt mkl mln msz mit mmv : Nat} {mrm : Int32} {mer : Int32} {mtd : Int32} {mat : Int32} {mwr : Int32} {mkn : Int32} {mmb : Int32} {mwa : Int32} {mra : Int32} {mbl : Int32} {mbh : Int32} {dxs : Nat → Int32} {dus : Nat → Int32} {dys : Nat → Int32} {dgp : Nat → Int32} {dtp : Nat → Int32} {dme : Nat → Int32} {dle : Nat → Int32} {dlt : Nat → Int32} {dkl : Nat → Int32} {dln : Nat → Int32} {dsz : Nat → Int32} {dit : Nat → Int32} {dmv : Nat → Int32} (N : Nat) (C : cx p s m c args D ky A cX9_isWhole 4 wsX9_isWhole RX9) (res : Int32) (hQ : ∀ (pc : Nat) (H : Heap) (locs : List Loc) (ls : Array Slot), decode cX9_isWhole pc = .ok (.ireturn, 1) → (res = 0 ∨ res = 1) → va_P D vwCl (w_model ky aM mxs mus mys mgp mtp mme mle mlt mkl mln msz mit mmv mrm mer mtd mat mwr mkn mmb mwa mra mbl mbh dxs dus dys dgp dtp dme dle dlt dkl dln dsz dit dmv) H → va_D A (w_model ky aM mxs mus mys mgp mtp mme mle mlt mkl mln msz mit mmv mrm mer mtd mat mwr mkn mmb mwa mra mbl mbh dxs dus dys dgp dtp dme dle dlt dkl dln dsz dit dmv) → va_S A s.heap H locs → W p l e rm_X9_isWhole s m args below meth c H locs 0 0 Q (F0 m pc ls [.int res])) (l1 : Int32) : ∀ (n : Nat) (l2 : Int32) (l3 : Int32), f_X9_isWhole_4 N l1 mrm mer dxs dus dys dgp n l2 l3 = some res → ∀ (H : Heap) (locs : List Loc) (ls : Array Slot), va_P D vwCl (w_model ky aM mxs mus mys mgp mtp mme mle mlt mkl mln msz mit mmv mrm mer mtd mat mwr mkn mmb mwa mra mbl mbh dxs dus dys dgp dtp dme dle dlt dkl dln dsz dit dmv) H → va_D A (w_model ky aM mxs mus mys mgp mtp mme mle mlt mkl mln msz mit mmv mrm mer mtd mat mwr mkn mmb mwa mra mbl mbh dxs dus dys dgp dtp dme dle dlt dkl dln dsz dit dmv) → va_S A s.heap H locs → lv_has ls 4 [(0, .ref aM), (1, .int l1), (2, .int l2), (3, .int l3)] → W p l e rm_X9_isWhole s m args below meth c H locs 0 0 Q (F0 m 4 ls []) := by
  obtain ⟨hx, hb, hml, hown, hts, hK, hA⟩ := id C
  intro n
  induction n with
  | zero =>
    intro l2 l3 hF
    cases hF
  | succ n ih =>
    intro l2 l3 hF H locs ls hP hD hS hl
    have hF : b_X9_isWhole_4 N l1 mrm mer dxs dus dys dgp (f_X9_isWhole_4 N l1 mrm mer dxs dus dys dgp n) l2 l3 = some res := hF
    unfold b_X9_isWhole_4 at hF
    refine lv_iload_n hx hb dX9_isWhole_4 rfl (lv_at hl 3 rfl) ?_
    refine lv_sipush (v := (289 : Int32)) hx hb dX9_isWhole_5 (by decide) ?_
    refine lv_icmp_ge (tgt := 28) hx hb dX9_isWhole_8 (by decide) (fun c1 => ?_) (fun c1 => ?_)
    · have hF := if_t c1 hF
      refine lv_iload_n hx hb dX9_isWhole_28 rfl (lv_at hl 2 rfl) ?_
      obtain ⟨h2, hF⟩ := gz_s hF
      have hF := Option.some.inj hF
      subst hF
      exact hQ _ H _ _ dX9_isWhole_29 h2 hP hD hS
    · have hF := if_f c1 hF
      refine lv_iload_n hx hb dX9_isWhole_11 rfl (lv_at hl 2 rfl) ?_
      refine lv_if_ne (tgt := 28) hx hb dX9_isWhole_12 (by decide) (fun c3 => ?_) (fun c3 => ?_)
      · have hF := if_f c3 hF
        refine lv_iload_n hx hb dX9_isWhole_28 rfl (lv_at hl 2 rfl) ?_
        obtain ⟨h4, hF⟩ := gz_s hF
        have hF := Option.some.inj hF
        subst hF
        exact hQ _ H _ _ dX9_isWhole_29 h4 hP hD hS
      · have hF := if_t c3 hF
        refine lv_aload_n hx hb dX9_isWhole_15 rfl (lv_at hl 0 rfl) ?_
        refine lv_iload_n hx hb dX9_isWhole_16 rfl (lv_at hl 1 rfl) ?_
        refine lv_iload_n hx hb dX9_isWhole_17 rfl (lv_at hl 3 rfl) ?_
        obtain ⟨r6, h5, hF⟩ := b1_s hF
        refine cl_vi (As := [.int l1, .int l3]) (rest := []) (w' := (w_model ky aM mxs mus mys mgp mtp mme mle mlt mkl mln msz mit mmv mrm mer mtd mat mwr mkn mmb mwa mra mbl mbh dxs dus dys dgp dtp dme dle dlt dkl dln dsz dit dmv)) ⟨hx, hb, hml, hown, hts⟩ hK hP hD hS hA (c_X9_isLet l D ky aM mxs mus mys mgp mtp mme mle mlt mkl mln msz mit mmv _ N  mrm mer mtd mat mwr mkn mmb mwa mra mbl mbh dxs dus dys dgp dtp dme dle dlt dkl dln dsz dit dmv l1 l3 r6 h5) (cwV 2 hts gX9_isWhole_X9_isLet rfl rfl rfl (by decide +kernel) ⟨Nat.le_of_ble_eq_true rfl, Nat.le_of_ble_eq_true rfl⟩) [0, 1, 2, 3, 4, 5, 6, 7, 8, 9, 10, 11, 12, 13] [] [0, 1, 2, 3, 4, 5, 6, 7, 8, 9, 10, 11, 12, 13] 0 8 rfl rfl rfl rfl (wr := []) rfl (by decide) rfl rfl hl.1 (Nat.le_of_ble_eq_true rfl) dX9_isWhole_18 ⟨Nat.zero_le _, Nat.zero_le _⟩ (fun H locs hP hD hS => ?_)
        refine lv_istore_n (lv' := [(2, .int r6), (0, .ref aM), (1, .int l1), (3, .int l3)]) hx hb dX9_isWhole_21 rfl hl (by decide) rfl (fun ls hl => ?_)
        refine lv_iinc (v := (l3 + (1 : Int32))) (lv' := [(3, .int (l3 + (1 : Int32))), (2, .int r6), (0, .ref aM), (1, .int l1)]) hx hb dX9_isWhole_22 hl (k := 3) rfl rfl (by decide) rfl (fun ls hl => ?_)
        refine lv_goto (tgt := 4) hx hb dX9_isWhole_25 (by decide) ?_
        exact ih r6 (l3 + (1 : Int32)) hF H _ _ hP hD hS (lv_sub hl [2, 3, 1, 0] rfl)
set_option maxHeartbeats 4000000 in
set_option maxRecDepth 100000 in
theorem cr_X9_isWhole (l : Launch) (D : va_G) (ky : Nat → ClassId) (aM mxs mus mys mgp mtp mme mle mlt mkl mln msz mit mmv : Nat) (sz N : Nat)  (mrm : Int32) (mer : Int32) (mtd : Int32) (mat : Int32) (mwr : Int32) (mkn : Int32) (mmb : Int32) (mwa : Int32) (mra : Int32) (mbl : Int32) (mbh : Int32) (dxs : Nat → Int32) (dus : Nat → Int32) (dys : Nat → Int32) (dgp : Nat → Int32) (dtp : Nat → Int32) (dme : Nat → Int32) (dle : Nat → Int32) (dlt : Nat → Int32) (dkl : Nat → Int32) (dln : Nat → Int32) (dsz : Nat → Int32) (dit : Nat → Int32) (dmv : Nat → Int32) (p0 : Int32) (res : Int32) (hF : f_X9_isWhole N p0 mrm mer dxs dus dys dgp = some res) : MI l yX9_isWhole wsX9_isWhole rm_X9_isWhole D ky sz [.ref aM, .int p0] (w_model ky aM mxs mus mys mgp mtp mme mle mlt mkl mln msz mit mmv mrm mer mtd mat mwr mkn mmb mwa mra mbl mbh dxs dus dys dgp dtp dme dle dlt dkl dln dsz dit dmv) (w_model ky aM mxs mus mys mgp mtp mme mle mlt mkl mln msz mit mmv mrm mer mtd mat mwr mkn mmb mwa mra mbl mbh dxs dus dys dgp dtp dme dle dlt dkl dln dsz dit dmv) res := by
  unfold MI
  refine Met.ofW (cc := cX9_isWhole) (maxL := 4) (ret := (some .boolean)) (by decide) rfl ?_
  intro p e s m args below meth c s₁ B hml hv
  obtain ⟨rfl, hsz, hP, hK, hD0⟩ := hv
  have hx := B.exec
  have hb := B.bytes
  have hr := B.returns
  have hts := atoms_spec (ws := wsX9_isWhole) B.pre
  have hown : s.vm.findClass RX9 = some m.cls := findClass_of_methodNamed B.named
  have hlocks := B.notSynchronized
  subst hsz
  have hD := hD0.self (sz := s.heap.size)
  generalize hAe : va_A (w_model ky aM mxs mus mys mgp mtp mme mle mlt mkl mln msz mit mmv mrm mer mtd mat mwr mkn mmb mwa mra mbl mbh dxs dus dys dgp dtp dme dle dlt dkl dln dsz dit dmv) s.heap.size = A at hD ⊢
  have hA : ∀ q : Nat, s.heap.size ≤ q → A q := fun q h => by rw [← hAe]; exact Or.inr h
  have hS : va_S A s.heap s.heap [] := va_S.rf
  have hP : va_P D vwCl (w_model ky aM mxs mus mys mgp mtp mme mle mlt mkl mln msz mit mmv mrm mer mtd mat mwr mkn mmb mwa mra mbl mbh dxs dus dys dgp dtp dme dle dlt dkl dln dsz dit dmv) s.heap := hP
  have hl := lv_entry ([.ref aM, .int p0]) (n := 4) (Nat.le_of_ble_eq_true rfl)
  rw [lg_entry_eq]
  generalize (lg_sl ([.ref aM, .int p0]) ++ List.replicate (4 - (lg_sl ([.ref aM, .int p0])).length) Slot.unset).toArray = ls at hl ⊢
  have hl : lv_has ls 4 [(0, .ref aM), (1, .int p0)] := hl
  have C : cx p s m c ([.ref aM, .int p0]).toArray D ky A cX9_isWhole 4 wsX9_isWhole RX9 := ⟨hx, hb, hml, hown, hts, hK, hA⟩
  have hQ : ∀ (pc : Nat) (H : Heap) (locs : List Loc) (ls : Array Slot), decode cX9_isWhole pc = .ok (.ireturn, 1) → (res = 0 ∨ res = 1) → va_P D vwCl (w_model ky aM mxs mus mys mgp mtp mme mle mlt mkl mln msz mit mmv mrm mer mtd mat mwr mkn mmb mwa mra mbl mbh dxs dus dys dgp dtp dme dle dlt dkl dln dsz dit dmv) H → va_D A (w_model ky aM mxs mus mys mgp mtp mme mle mlt mkl mln msz mit mmv mrm mer mtd mat mwr mkn mmb mwa mra mbl mbh dxs dus dys dgp dtp dme dle dlt dkl dln dsz dit dmv) → va_S A s.heap H locs → W p l e rm_X9_isWhole s m ([.ref aM, .int p0]).toArray below meth c H locs 0 0 (MQ below (va_Qi (S := Unit) (fun r _ => r = res) (fun _ t => va_P D vwCl (w_model ky aM mxs mus mys mgp mtp mme mle mlt mkl mln msz mit mmv mrm mer mtd mat mwr mkn mmb mwa mra mbl mbh dxs dus dys dgp dtp dme dle dlt dkl dln dsz dit dmv) t.heap ∧ va_K D vwCl (tyW ky) t ∧ va_D A (w_model ky aM mxs mus mys mgp mtp mme mle mlt mkl mln msz mit mmv mrm mer mtd mat mwr mkn mmb mwa mra mbl mbh dxs dus dys dgp dtp dme dle dlt dkl dln dsz dit dmv)) A) ([.ref aM, .int p0]).toArray s 0 0 A) (F0 m pc ls [.int res]) := fun pc H locs ls hd hz hP hD hS => W.zret hx hb hr (gz_n hz) (fun t ht hW => ⟨⟨res, (), rfl, rfl, by rw [ht]; exact hP, va_K.moved hW.alike hK, hD⟩, hS.F ht⟩) hS.2.2 hd
  unfold f_X9_isWhole at hF
  refine lv_iconst (v := (0 : Int32)) hx hb dX9_isWhole_0 (by decide) ?_
  refine lv_istore_n (lv' := [(2, .int (0 : Int32)), (0, .ref aM), (1, .int p0)]) hx hb dX9_isWhole_1 rfl hl (by decide) rfl (fun ls hl => ?_)
  refine lv_iconst (v := (0 : Int32)) hx hb dX9_isWhole_2 (by decide) ?_
  refine lv_istore_n (lv' := [(3, .int (0 : Int32)), (2, .int (0 : Int32)), (0, .ref aM), (1, .int p0)]) hx hb dX9_isWhole_3 rfl hl (by decide) rfl (fun ls hl => ?_)
  exact w_X9_isWhole_4 N C res hQ p0 N (0 : Int32) (0 : Int32) hF _ _ _ hP hD hS (lv_sub hl [2, 3, 1, 0] rfl)
theorem c_X9_isWhole (l : Launch) (D : va_G) (ky : Nat → ClassId) (aM mxs mus mys mgp mtp mme mle mlt mkl mln msz mit mmv : Nat) (sz N : Nat)  (mrm : Int32) (mer : Int32) (mtd : Int32) (mat : Int32) (mwr : Int32) (mkn : Int32) (mmb : Int32) (mwa : Int32) (mra : Int32) (mbl : Int32) (mbh : Int32) (dxs : Nat → Int32) (dus : Nat → Int32) (dys : Nat → Int32) (dgp : Nat → Int32) (dtp : Nat → Int32) (dme : Nat → Int32) (dle : Nat → Int32) (dlt : Nat → Int32) (dkl : Nat → Int32) (dln : Nat → Int32) (dsz : Nat → Int32) (dit : Nat → Int32) (dmv : Nat → Int32) (p0 : Int32) (rv : Int32) (hF : f_X9_isWhole N p0 mrm mer dxs dus dys dgp = some (rv)) : MI l yX9_isWhole wsX9_isWhole rm_X9_isWhole D ky sz [.ref aM, .int p0] (w_model ky aM mxs mus mys mgp mtp mme mle mlt mkl mln msz mit mmv mrm mer mtd mat mwr mkn mmb mwa mra mbl mbh dxs dus dys dgp dtp dme dle dlt dkl dln dsz dit dmv) (w_model ky aM mxs mus mys mgp mtp mme mle mlt mkl mln msz mit mmv mrm mer mtd mat mwr mkn mmb mwa mra mbl mbh dxs dus dys dgp dtp dme dle dlt dkl dln dsz dit dmv) rv :=
  cr_X9_isWhole l D ky aM mxs mus mys mgp mtp mme mle mlt mkl mln msz mit mmv sz N mrm mer mtd mat mwr mkn mmb mwa mra mbl mbh dxs dus dys dgp dtp dme dle dlt dkl dln dsz dit dmv p0 (rv) hF
abbrev rm_X9_lets : Room := { frames := 4, cells := 0, slots := 0, locals := 96 }
set_option maxHeartbeats 4000000 in
set_option maxRecDepth 100000 in
theorem w_X9_lets_50 {p : Program} {l : Launch} {e : Env} {s : State} {m : MethodId} {args : Array Value} {below : List Frame} {meth : Method} {c : Code} {Q : State → Prop} {A : Nat → Prop} {D : va_G} {ky : Nat → ClassId} {aM mxs mus mys mgp mtp mme mle mlt mkl mln msz mit mmv : Nat} {mrm : Int32} {mer : Int32} {mtd : Int32} {mat : Int32} {mwr : Int32} {mkn : Int32} {mmb : Int32} {mwa : Int32} {mra : Int32} {mbl : Int32} {mbh : Int32} {dxs : Nat → Int32} {dus : Nat → Int32} {dys : Nat → Int32} {dgp : Nat → Int32} {dtp : Nat → Int32} {dme : Nat → Int32} {dle : Nat → Int32} {dlt : Nat → Int32} {dkl : Nat → Int32} {dln : Nat → Int32} {dsz : Nat → Int32} {dit : Nat → Int32} {dmv : Nat → Int32} (N : Nat) (C : cx p s m c args D ky A cX9_lets 6 wsX9_lets RX9) (res : Int32) (hQ : ∀ (pc : Nat) (H : Heap) (locs : List Loc) (ls : Array Slot), decode cX9_lets pc = .ok (.ireturn, 1) → va_P D vwCl (w_model ky aM mxs mus mys mgp mtp mme mle mlt mkl mln msz mit mmv mrm mer mtd mat mwr mkn mmb mwa mra mbl mbh dxs dus dys dgp dtp dme dle dlt dkl dln dsz dit dmv) H → va_D A (w_model ky aM mxs mus mys mgp mtp mme mle mlt mkl mln msz mit mmv mrm mer mtd mat mwr mkn mmb mwa mra mbl mbh dxs dus dys dgp dtp dme dle dlt dkl dln dsz dit dmv) → va_S A s.heap H locs → W p l e rm_X9_lets s m args below meth c H locs 0 0 Q (F0 m pc ls [.int res])) (l1 : Int32) (l2 : Int32) (k20 : Int32 → Int32 → Option (Int32)) (hk20 : ∀ (l3 : Int32) (l4 : Int32), k20 l3 l4 = some res → ∀ (H : Heap) (locs : List Loc) (ls : Array Slot), va_P D vwCl (w_model ky aM mxs mus mys mgp mtp mme mle mlt mkl mln msz mit mmv mrm mer mtd mat mwr mkn mmb mwa mra mbl mbh dxs dus dys dgp dtp dme dle dlt dkl dln dsz dit dmv) H → va_D A (w_model ky aM mxs mus mys mgp mtp mme mle mlt mkl mln msz mit mmv mrm mer mtd mat mwr mkn mmb mwa mra mbl mbh dxs dus dys dgp dtp dme dle dlt dkl dln dsz dit dmv) → va_S A s.heap H locs → lv_has ls 6 [(0, .ref aM), (1, .int l1), (2, .int l2), (3, .int l3), (4, .int l4)] → W p l e rm_X9_lets s m args below meth c H locs 0 0 Q (F0 m 20 ls [])) (l3 : Int32) (l4 : Int32) (l5 : Int32) (hF : f_X9_lets_50 N k20 l1 l2 l3 l4 l5 mrm mer dxs dus dys dgp = some res) : ∀ (H : Heap) (locs : List Loc) (ls : Array Slot), va_P D vwCl (w_model ky aM mxs mus mys mgp mtp mme mle mlt mkl mln msz mit mmv mrm mer mtd mat mwr mkn mmb mwa mra mbl mbh dxs dus dys dgp dtp dme dle dlt dkl dln dsz dit dmv) H → va_D A (w_model ky aM mxs mus mys mgp mtp mme mle mlt mkl mln msz mit mmv mrm mer mtd mat mwr mkn mmb mwa mra mbl mbh dxs dus dys dgp dtp dme dle dlt dkl dln dsz dit dmv) → va_S A s.heap H locs → lv_has ls 6 [(0, .ref aM), (1, .int l1), (2, .int l2), (3, .int l3), (4, .int l4), (5, .int l5)] → W p l e rm_X9_lets s m args below meth c H locs 0 0 Q (F0 m 50 ls []) := by
  obtain ⟨hx, hb, hml, hown, hts, hK, hA⟩ := id C
  intro H locs ls hP hD hS hl
  unfold f_X9_lets_50 at hF
  refine lv_iload_n hx hb dX9_lets_50 rfl (lv_at hl 3 rfl) ?_
  refine lv_iload hx hb dX9_lets_51 (lv_at hl 5 rfl) ?_
  refine lv_if_eq (tgt := 60) hx hb dX9_lets_53 (by decide) (fun c11 => ?_) (fun c11 => ?_)
  · have hF := if_t c11 hF
    refine lv_iconst (v := (0 : Int32)) hx hb dX9_lets_60 (by decide) ?_
    refine lv_iadd hx hb dX9_lets_61 ?_
    refine lv_istore_n (lv' := [(3, .int (l3 + (0 : Int32))), (0, .ref aM), (1, .int l1), (2, .int l2), (4, .int l4), (5, .int l5)]) hx hb dX9_lets_62 rfl hl (by decide) rfl (fun ls hl => ?_)
    refine lv_iinc (v := (l4 + (1 : Int32))) (lv' := [(4, .int (l4 + (1 : Int32))), (3, .int (l3 + (0 : Int32))), (0, .ref aM), (1, .int l1), (2, .int l2), (5, .int l5)]) hx hb dX9_lets_63 hl (k := 4) rfl rfl (by decide) rfl (fun ls hl => ?_)
    refine lv_goto (tgt := 20) hx hb dX9_lets_66 (by decide) ?_
    exact hk20 (l3 + (0 : Int32)) (l4 + (1 : Int32)) hF H _ _ hP hD hS (lv_sub hl [2, 3, 4, 1, 0] rfl)
  · have hF := if_f c11 hF
    refine lv_iconst (v := (1 : Int32)) hx hb dX9_lets_56 (by decide) ?_
    refine lv_goto (tgt := 61) hx hb dX9_lets_57 (by decide) ?_
    refine lv_iadd hx hb dX9_lets_61 ?_
    refine lv_istore_n (lv' := [(3, .int (l3 + (1 : Int32))), (0, .ref aM), (1, .int l1), (2, .int l2), (4, .int l4), (5, .int l5)]) hx hb dX9_lets_62 rfl hl (by decide) rfl (fun ls hl => ?_)
    refine lv_iinc (v := (l4 + (1 : Int32))) (lv' := [(4, .int (l4 + (1 : Int32))), (3, .int (l3 + (1 : Int32))), (0, .ref aM), (1, .int l1), (2, .int l2), (5, .int l5)]) hx hb dX9_lets_63 hl (k := 4) rfl rfl (by decide) rfl (fun ls hl => ?_)
    refine lv_goto (tgt := 20) hx hb dX9_lets_66 (by decide) ?_
    exact hk20 (l3 + (1 : Int32)) (l4 + (1 : Int32)) hF H _ _ hP hD hS (lv_sub hl [2, 3, 4, 1, 0] rfl)
set_option maxHeartbeats 4000000 in
set_option maxRecDepth 100000 in
theorem w_X9_lets_20 {p : Program} {l : Launch} {e : Env} {s : State} {m : MethodId} {args : Array Value} {below : List Frame} {meth : Method} {c : Code} {Q : State → Prop} {A : Nat → Prop} {D : va_G} {ky : Nat → ClassId} {aM mxs mus mys mgp mtp mme mle mlt mkl mln msz mit mmv : Nat} {mrm : Int32} {mer : Int32} {mtd : Int32} {mat : Int32} {mwr : Int32} {mkn : Int32} {mmb : Int32} {mwa : Int32} {mra : Int32} {mbl : Int32} {mbh : Int32} {dxs : Nat → Int32} {dus : Nat → Int32} {dys : Nat → Int32} {dgp : Nat → Int32} {dtp : Nat → Int32} {dme : Nat → Int32} {dle : Nat → Int32} {dlt : Nat → Int32} {dkl : Nat → Int32} {dln : Nat → Int32} {dsz : Nat → Int32} {dit : Nat → Int32} {dmv : Nat → Int32} (N : Nat) (C : cx p s m c args D ky A cX9_lets 6 wsX9_lets RX9) (res : Int32) (hQ : ∀ (pc : Nat) (H : Heap) (locs : List Loc) (ls : Array Slot), decode cX9_lets pc = .ok (.ireturn, 1) → va_P D vwCl (w_model ky aM mxs mus mys mgp mtp mme mle mlt mkl mln msz mit mmv mrm mer mtd mat mwr mkn mmb mwa mra mbl mbh dxs dus dys dgp dtp dme dle dlt dkl dln dsz dit dmv) H → va_D A (w_model ky aM mxs mus mys mgp mtp mme mle mlt mkl mln msz mit mmv mrm mer mtd mat mwr mkn mmb mwa mra mbl mbh dxs dus dys dgp dtp dme dle dlt dkl dln dsz dit dmv) → va_S A s.heap H locs → W p l e rm_X9_lets s m args below meth c H locs 0 0 Q (F0 m pc ls [.int res])) (l1 : Int32) (l2 : Int32) : ∀ (n : Nat) (l3 : Int32) (l4 : Int32), f_X9_lets_20 N l1 l2 mrm mer dxs dus dys dgp n l3 l4 = some res → ∀ (H : Heap) (locs : List Loc) (ls : Array Slot), va_P D vwCl (w_model ky aM mxs mus mys mgp mtp mme mle mlt mkl mln msz mit mmv mrm mer mtd mat mwr mkn mmb mwa mra mbl mbh dxs dus dys dgp dtp dme dle dlt dkl dln dsz dit dmv) H → va_D A (w_model ky aM mxs mus mys mgp mtp mme mle mlt mkl mln msz mit mmv mrm mer mtd mat mwr mkn mmb mwa mra mbl mbh dxs dus dys dgp dtp dme dle dlt dkl dln dsz dit dmv) → va_S A s.heap H locs → lv_has ls 6 [(0, .ref aM), (1, .int l1), (2, .int l2), (3, .int l3), (4, .int l4)] → W p l e rm_X9_lets s m args below meth c H locs 0 0 Q (F0 m 20 ls []) := by
  obtain ⟨hx, hb, hml, hown, hts, hK, hA⟩ := id C
  intro n
  induction n with
  | zero =>
    intro l3 l4 hF
    cases hF
  | succ n ih =>
    intro l3 l4 hF H locs ls hP hD hS hl
    have hF : b_X9_lets_20 N l1 l2 mrm mer dxs dus dys dgp (f_X9_lets_20 N l1 l2 mrm mer dxs dus dys dgp n) l3 l4 = some res := hF
    unfold b_X9_lets_20 at hF
    refine lv_iload hx hb dX9_lets_20 (lv_at hl 4 rfl) ?_
    refine lv_sipush (v := (289 : Int32)) hx hb dX9_lets_22 (by decide) ?_
    refine lv_icmp_ge (tgt := 69) hx hb dX9_lets_25 (by decide) (fun c5 => ?_) (fun c5 => ?_)
    · have hF := if_t c5 hF
      refine lv_iload_n hx hb dX9_lets_69 rfl (lv_at hl 2 rfl) ?_
      refine lv_if_ge (tgt := 77) hx hb dX9_lets_70 (by decide) (fun c6 => ?_) (fun c6 => ?_)
      · have hF := if_t c6 hF
        refine lv_bipush (v := (-4 : Int32)) hx hb dX9_lets_77 (by decide) ?_
        have hF := Option.some.inj hF
        subst hF
        exact hQ _ H _ _ dX9_lets_79 hP hD hS
      · have hF := if_f c6 hF
        refine lv_iload_n hx hb dX9_lets_73 rfl (lv_at hl 3 rfl) ?_
        refine lv_goto (tgt := 79) hx hb dX9_lets_74 (by decide) ?_
        have hF := Option.some.inj hF
        subst hF
        exact hQ _ H _ _ dX9_lets_79 hP hD hS
    · have hF := if_f c5 hF
      refine lv_aload_n hx hb dX9_lets_28 rfl (lv_at hl 0 rfl) ?_
      refine lv_iload_n hx hb dX9_lets_29 rfl (lv_at hl 1 rfl) ?_
      refine lv_iload hx hb dX9_lets_30 (lv_at hl 4 rfl) ?_
      obtain ⟨r8, h7, hF⟩ := b1_s hF
      refine cl_vi (As := [.int l1, .int l4]) (rest := []) (w' := (w_model ky aM mxs mus mys mgp mtp mme mle mlt mkl mln msz mit mmv mrm mer mtd mat mwr mkn mmb mwa mra mbl mbh dxs dus dys dgp dtp dme dle dlt dkl dln dsz dit dmv)) ⟨hx, hb, hml, hown, hts⟩ hK hP hD hS hA (c_X9_isLet l D ky aM mxs mus mys mgp mtp mme mle mlt mkl mln msz mit mmv _ N  mrm mer mtd mat mwr mkn mmb mwa mra mbl mbh dxs dus dys dgp dtp dme dle dlt dkl dln dsz dit dmv l1 l4 r8 h7) (cwV 2 hts gX9_lets_X9_isLet rfl rfl rfl (by decide +kernel) ⟨Nat.le_of_ble_eq_true rfl, Nat.le_of_ble_eq_true rfl⟩) [0, 1, 2, 3, 4, 5, 6, 7, 8, 9, 10, 11, 12, 13] [] [0, 1, 2, 3, 4, 5, 6, 7, 8, 9, 10, 11, 12, 13] 0 8 rfl rfl rfl rfl (wr := []) rfl (by decide) rfl rfl hl.1 (Nat.le_of_ble_eq_true rfl) dX9_lets_32 ⟨Nat.zero_le _, Nat.zero_le _⟩ (fun H locs hP hD hS => ?_)
      refine lv_istore (lv' := [(5, .int r8), (0, .ref aM), (1, .int l1), (2, .int l2), (3, .int l3), (4, .int l4)]) hx hb dX9_lets_35 hl (by decide) rfl (fun ls hl => ?_)
      refine lv_iload hx hb dX9_lets_37 (lv_at hl 0 rfl) ?_
      refine lv_if_eq (tgt := 50) hx hb dX9_lets_39 (by decide) (fun c9 => ?_) (fun c9 => ?_)
      · have hF := if_t c9 hF
        exact w_X9_lets_50 N C res hQ l1 l2 _ ih l3 l4 r8 hF H _ _ hP hD hS (lv_sub hl [1, 2, 3, 4, 5, 0] rfl)
      · have hF := if_f c9 hF
        refine lv_iload_n hx hb dX9_lets_42 rfl (lv_at hl 4 rfl) ?_
        refine lv_iload_n hx hb dX9_lets_43 rfl (lv_at hl 3 rfl) ?_
        refine lv_icmp_ne (tgt := 50) hx hb dX9_lets_44 (by decide) (fun c10 => ?_) (fun c10 => ?_)
        · have hF := if_f c10 hF
          exact w_X9_lets_50 N C res hQ l1 l2 _ ih l3 l4 r8 hF H _ _ hP hD hS (lv_sub hl [1, 2, 3, 4, 5, 0] rfl)
        · have hF := if_t c10 hF
          refine lv_iload hx hb dX9_lets_47 (lv_at hl 5 rfl) ?_
          have hF := Option.some.inj hF
          subst hF
          exact hQ _ H _ _ dX9_lets_49 hP hD hS
set_option maxHeartbeats 4000000 in
set_option maxRecDepth 100000 in
theorem cr_X9_lets (l : Launch) (D : va_G) (ky : Nat → ClassId) (aM mxs mus mys mgp mtp mme mle mlt mkl mln msz mit mmv : Nat) (sz N : Nat)  (mrm : Int32) (mer : Int32) (mtd : Int32) (mat : Int32) (mwr : Int32) (mkn : Int32) (mmb : Int32) (mwa : Int32) (mra : Int32) (mbl : Int32) (mbh : Int32) (dxs : Nat → Int32) (dus : Nat → Int32) (dys : Nat → Int32) (dgp : Nat → Int32) (dtp : Nat → Int32) (dme : Nat → Int32) (dle : Nat → Int32) (dlt : Nat → Int32) (dkl : Nat → Int32) (dln : Nat → Int32) (dsz : Nat → Int32) (dit : Nat → Int32) (dmv : Nat → Int32) (p0 : Int32) (p1 : Int32) (res : Int32) (hF : f_X9_lets N p0 p1 mrm mer dxs dus dys dgp = some res) : MI l yX9_lets wsX9_lets rm_X9_lets D ky sz [.ref aM, .int p0, .int p1] (w_model ky aM mxs mus mys mgp mtp mme mle mlt mkl mln msz mit mmv mrm mer mtd mat mwr mkn mmb mwa mra mbl mbh dxs dus dys dgp dtp dme dle dlt dkl dln dsz dit dmv) (w_model ky aM mxs mus mys mgp mtp mme mle mlt mkl mln msz mit mmv mrm mer mtd mat mwr mkn mmb mwa mra mbl mbh dxs dus dys dgp dtp dme dle dlt dkl dln dsz dit dmv) res := by
  unfold MI
  refine Met.ofW (cc := cX9_lets) (maxL := 6) (ret := (some .int)) (by decide) rfl ?_
  intro p e s m args below meth c s₁ B hml hv
  obtain ⟨rfl, hsz, hP, hK, hD0⟩ := hv
  have hx := B.exec
  have hb := B.bytes
  have hr := B.returns
  have hts := atoms_spec (ws := wsX9_lets) B.pre
  have hown : s.vm.findClass RX9 = some m.cls := findClass_of_methodNamed B.named
  have hlocks := B.notSynchronized
  subst hsz
  have hD := hD0.self (sz := s.heap.size)
  generalize hAe : va_A (w_model ky aM mxs mus mys mgp mtp mme mle mlt mkl mln msz mit mmv mrm mer mtd mat mwr mkn mmb mwa mra mbl mbh dxs dus dys dgp dtp dme dle dlt dkl dln dsz dit dmv) s.heap.size = A at hD ⊢
  have hA : ∀ q : Nat, s.heap.size ≤ q → A q := fun q h => by rw [← hAe]; exact Or.inr h
  have hS : va_S A s.heap s.heap [] := va_S.rf
  have hP : va_P D vwCl (w_model ky aM mxs mus mys mgp mtp mme mle mlt mkl mln msz mit mmv mrm mer mtd mat mwr mkn mmb mwa mra mbl mbh dxs dus dys dgp dtp dme dle dlt dkl dln dsz dit dmv) s.heap := hP
  have hl := lv_entry ([.ref aM, .int p0, .int p1]) (n := 6) (Nat.le_of_ble_eq_true rfl)
  rw [lg_entry_eq]
  generalize (lg_sl ([.ref aM, .int p0, .int p1]) ++ List.replicate (6 - (lg_sl ([.ref aM, .int p0, .int p1])).length) Slot.unset).toArray = ls at hl ⊢
  have hl : lv_has ls 6 [(0, .ref aM), (1, .int p0), (2, .int p1)] := hl
  have C : cx p s m c ([.ref aM, .int p0, .int p1]).toArray D ky A cX9_lets 6 wsX9_lets RX9 := ⟨hx, hb, hml, hown, hts, hK, hA⟩
  have hQ : ∀ (pc : Nat) (H : Heap) (locs : List Loc) (ls : Array Slot), decode cX9_lets pc = .ok (.ireturn, 1) → va_P D vwCl (w_model ky aM mxs mus mys mgp mtp mme mle mlt mkl mln msz mit mmv mrm mer mtd mat mwr mkn mmb mwa mra mbl mbh dxs dus dys dgp dtp dme dle dlt dkl dln dsz dit dmv) H → va_D A (w_model ky aM mxs mus mys mgp mtp mme mle mlt mkl mln msz mit mmv mrm mer mtd mat mwr mkn mmb mwa mra mbl mbh dxs dus dys dgp dtp dme dle dlt dkl dln dsz dit dmv) → va_S A s.heap H locs → W p l e rm_X9_lets s m ([.ref aM, .int p0, .int p1]).toArray below meth c H locs 0 0 (MQ below (va_Qi (S := Unit) (fun r _ => r = res) (fun _ t => va_P D vwCl (w_model ky aM mxs mus mys mgp mtp mme mle mlt mkl mln msz mit mmv mrm mer mtd mat mwr mkn mmb mwa mra mbl mbh dxs dus dys dgp dtp dme dle dlt dkl dln dsz dit dmv) t.heap ∧ va_K D vwCl (tyW ky) t ∧ va_D A (w_model ky aM mxs mus mys mgp mtp mme mle mlt mkl mln msz mit mmv mrm mer mtd mat mwr mkn mmb mwa mra mbl mbh dxs dus dys dgp dtp dme dle dlt dkl dln dsz dit dmv)) A) ([.ref aM, .int p0, .int p1]).toArray s 0 0 A) (F0 m pc ls [.int res]) := fun pc H locs ls hd hP hD hS => W.iret hx hb hr (fun t ht hW => ⟨⟨res, (), rfl, rfl, by rw [ht]; exact hP, va_K.moved hW.alike hK, hD⟩, hS.F ht⟩) hS.2.2 hd
  unfold f_X9_lets at hF
  refine lv_aload_n hx hb dX9_lets_0 rfl (lv_at hl 0 rfl) ?_
  refine lv_iload_n hx hb dX9_lets_1 rfl (lv_at hl 1 rfl) ?_
  obtain ⟨r2, h1, hF⟩ := b1_s hF
  refine cl_vi (As := [.int p0]) (rest := []) (w' := (w_model ky aM mxs mus mys mgp mtp mme mle mlt mkl mln msz mit mmv mrm mer mtd mat mwr mkn mmb mwa mra mbl mbh dxs dus dys dgp dtp dme dle dlt dkl dln dsz dit dmv)) ⟨hx, hb, hml, hown, hts⟩ hK hP hD hS hA (c_X9_isHeap l D ky aM mxs mus mys mgp mtp mme mle mlt mkl mln msz mit mmv _ N  mrm mer mtd mat mwr mkn mmb mwa mra mbl mbh dxs dus dys dgp dtp dme dle dlt dkl dln dsz dit dmv p0 r2 h1) (cwV 1 hts gX9_lets_X9_isHeap rfl rfl rfl (by decide +kernel) ⟨Nat.le_of_ble_eq_true rfl, Nat.le_of_ble_eq_true rfl⟩) [0, 1, 2, 3, 4, 5, 6, 7, 8, 9, 10, 11, 12, 13] [] [0, 1, 2, 3, 4, 5, 6, 7, 8, 9, 10, 11, 12, 13] 0 8 rfl rfl rfl rfl (wr := []) rfl (by decide) rfl rfl hl.1 (Nat.le_of_ble_eq_true rfl) dX9_lets_2 ⟨Nat.zero_le _, Nat.zero_le _⟩ (fun H locs hP hD hS => ?_)
  refine lv_if_eq (tgt := 13) hx hb dX9_lets_5 (by decide) (fun c3 => ?_) (fun c3 => ?_)
  · have hF := if_t c3 hF
    refine lv_iconst (v := (-1 : Int32)) hx hb dX9_lets_13 (by decide) ?_
    have hF := Option.some.inj hF
    subst hF
    exact hQ _ _ _ _ dX9_lets_14 hP hD hS
  · have hF := if_f c3 hF
    refine lv_iload_n hx hb dX9_lets_8 rfl (lv_at hl 2 rfl) ?_
    refine lv_iconst (v := (-1 : Int32)) hx hb dX9_lets_9 (by decide) ?_
    refine lv_icmp_ge (tgt := 15) hx hb dX9_lets_10 (by decide) (fun c4 => ?_) (fun c4 => ?_)
    · have hF := if_t c4 hF
      refine lv_iconst (v := (0 : Int32)) hx hb dX9_lets_15 (by decide) ?_
      refine lv_istore_n (lv' := [(3, .int (0 : Int32)), (0, .ref aM), (1, .int p0), (2, .int p1)]) hx hb dX9_lets_16 rfl hl (by decide) rfl (fun ls hl => ?_)
      refine lv_iconst (v := (0 : Int32)) hx hb dX9_lets_17 (by decide) ?_
      refine lv_istore (lv' := [(4, .int (0 : Int32)), (3, .int (0 : Int32)), (0, .ref aM), (1, .int p0), (2, .int p1)]) hx hb dX9_lets_18 hl (by decide) rfl (fun ls hl => ?_)
      exact w_X9_lets_20 N C res hQ p0 p1 N (0 : Int32) (0 : Int32) hF _ _ _ hP hD hS (lv_sub hl [2, 3, 4, 1, 0] rfl)
    · have hF := if_f c4 hF
      refine lv_iconst (v := (-1 : Int32)) hx hb dX9_lets_13 (by decide) ?_
      have hF := Option.some.inj hF
      subst hF
      exact hQ _ _ _ _ dX9_lets_14 hP hD hS
theorem c_X9_lets (l : Launch) (D : va_G) (ky : Nat → ClassId) (aM mxs mus mys mgp mtp mme mle mlt mkl mln msz mit mmv : Nat) (sz N : Nat)  (mrm : Int32) (mer : Int32) (mtd : Int32) (mat : Int32) (mwr : Int32) (mkn : Int32) (mmb : Int32) (mwa : Int32) (mra : Int32) (mbl : Int32) (mbh : Int32) (dxs : Nat → Int32) (dus : Nat → Int32) (dys : Nat → Int32) (dgp : Nat → Int32) (dtp : Nat → Int32) (dme : Nat → Int32) (dle : Nat → Int32) (dlt : Nat → Int32) (dkl : Nat → Int32) (dln : Nat → Int32) (dsz : Nat → Int32) (dit : Nat → Int32) (dmv : Nat → Int32) (p0 : Int32) (p1 : Int32) (rv : Int32) (hF : f_X9_lets N p0 p1 mrm mer dxs dus dys dgp = some (rv)) : MI l yX9_lets wsX9_lets rm_X9_lets D ky sz [.ref aM, .int p0, .int p1] (w_model ky aM mxs mus mys mgp mtp mme mle mlt mkl mln msz mit mmv mrm mer mtd mat mwr mkn mmb mwa mra mbl mbh dxs dus dys dgp dtp dme dle dlt dkl dln dsz dit dmv) (w_model ky aM mxs mus mys mgp mtp mme mle mlt mkl mln msz mit mmv mrm mer mtd mat mwr mkn mmb mwa mra mbl mbh dxs dus dys dgp dtp dme dle dlt dkl dln dsz dit dmv) rv :=
  cr_X9_lets l D ky aM mxs mus mys mgp mtp mme mle mlt mkl mln msz mit mmv sz N mrm mer mtd mat mwr mkn mmb mwa mra mbl mbh dxs dus dys dgp dtp dme dle dlt dkl dln dsz dit dmv p0 p1 (rv) hF
abbrev rm_X9_count : Room := { frames := 0, cells := 0, slots := 0, locals := 0 }
theorem iX9_count_X9 : ∀ w ∈ wsX90, w ∈ wsX9_count := by decide +kernel
theorem kX9_count_1 : (Cond.fieldLink RX9 62 "TwoLawsModel" "rowMany" "I") ∈ wsX9_count := by decide +kernel
theorem kX9_count_2 : (Cond.fieldLink RX9 156 "TwoLawsModel" "known" "I") ∈ wsX9_count := by decide +kernel
theorem kX9_count_3 : (Cond.fieldLink RX9 159 "TwoLawsModel" "watched" "I") ∈ wsX9_count := by decide +kernel
theorem kX9_count_4 : (Cond.fieldLink RX9 162 "TwoLawsModel" "rang" "I") ∈ wsX9_count := by decide +kernel
theorem kX9_count_5 : (Cond.fieldLink RX9 19 "TwoLawsModel" "isGap" "[Z") ∈ wsX9_count := by decide +kernel
set_option maxHeartbeats 4000000 in
set_option maxRecDepth 100000 in
theorem w_X9_count_4 {p : Program} {l : Launch} {e : Env} {s : State} {m : MethodId} {args : Array Value} {below : List Frame} {meth : Method} {c : Code} {Q : State → Prop} {A : Nat → Prop} {D : va_G} {ky : Nat → ClassId} {aM mxs mus mys mgp mtp mme mle mlt mkl mln msz mit mmv : Nat} {mrm : Int32} {mer : Int32} {mtd : Int32} {mat : Int32} {mwr : Int32} {mkn : Int32} {mmb : Int32} {mwa : Int32} {mra : Int32} {mbl : Int32} {mbh : Int32} {dxs : Nat → Int32} {dus : Nat → Int32} {dys : Nat → Int32} {dgp : Nat → Int32} {dtp : Nat → Int32} {dme : Nat → Int32} {dle : Nat → Int32} {dlt : Nat → Int32} {dkl : Nat → Int32} {dln : Nat → Int32} {dsz : Nat → Int32} {dit : Nat → Int32} {dmv : Nat → Int32} (N : Nat) (C : cx p s m c args D ky A cX9_count 4 wsX9_count RX9) (res : Int32) (hQ : ∀ (pc : Nat) (H : Heap) (locs : List Loc) (ls : Array Slot), decode cX9_count pc = .ok (.ireturn, 1) → va_P D vwCl (w_model ky aM mxs mus mys mgp mtp mme mle mlt mkl mln msz mit mmv mrm mer mtd mat mwr mkn mmb mwa mra mbl mbh dxs dus dys dgp dtp dme dle dlt dkl dln dsz dit dmv) H → va_D A (w_model ky aM mxs mus mys mgp mtp mme mle mlt mkl mln msz mit mmv mrm mer mtd mat mwr mkn mmb mwa mra mbl mbh dxs dus dys dgp dtp dme dle dlt dkl dln dsz dit dmv) → va_S A s.heap H locs → W p l e rm_X9_count s m args below meth c H locs 0 0 Q (F0 m pc ls [.int res])) (l1 : Int32) : ∀ (n : Nat) (l2 : Int32) (l3 : Int32), f_X9_count_4 N l1 mrm mkn mwa mra dgp n l2 l3 = some res → ∀ (H : Heap) (locs : List Loc) (ls : Array Slot), va_P D vwCl (w_model ky aM mxs mus mys mgp mtp mme mle mlt mkl mln msz mit mmv mrm mer mtd mat mwr mkn mmb mwa mra mbl mbh dxs dus dys dgp dtp dme dle dlt dkl dln dsz dit dmv) H → va_D A (w_model ky aM mxs mus mys mgp mtp mme mle mlt mkl mln msz mit mmv mrm mer mtd mat mwr mkn mmb mwa mra mbl mbh dxs dus dys dgp dtp dme dle dlt dkl dln dsz dit dmv) → va_S A s.heap H locs → lv_has ls 4 [(0, .ref aM), (1, .int l1), (2, .int l2), (3, .int l3)] → W p l e rm_X9_count s m args below meth c H locs 0 0 Q (F0 m 4 ls []) := by
  obtain ⟨hx, hb, hml, hown, hts, hK, hA⟩ := id C
  intro n
  induction n with
  | zero =>
    intro l2 l3 hF
    cases hF
  | succ n ih =>
    intro l2 l3 hF H locs ls hP hD hS hl
    have hF : b_X9_count_4 N l1 mrm mkn mwa mra dgp (f_X9_count_4 N l1 mrm mkn mwa mra dgp n) l2 l3 = some res := hF
    unfold b_X9_count_4 at hF
    refine lv_iload_n hx hb dX9_count_4 rfl (lv_at hl 3 rfl) ?_
    refine lv_aload_n hx hb dX9_count_5 rfl (lv_at hl 0 rfl) ?_
    refine va_get (D := D) (ci := 8) (v := .int mrm) (C := RX9) (T := TX9) (N := 24) hx hb hts iX9_count_X9 hown hK hP 0 rfl rfl 0 (by decide) (hts _ kX9_count_1) (fun _ h9 => h9) rfl dX9_count_6 ?_
    refine lv_icmp_ge (tgt := 35) hx hb dX9_count_9 (by decide) (fun c1 => ?_) (fun c1 => ?_)
    · have hF := if_t c1 hF
      refine lv_iload_n hx hb dX9_count_35 rfl (lv_at hl 1 rfl) ?_
      by_cases cs_36_0 : l1 = (0 : Int32)
      · have hF := if_t cs_36_0 hF
        refine lv_tableIn (tgt := 72) hx hb dX9_count_36 (by rw [cs_36_0]; decide) (by rw [cs_36_0]; decide) (by rw [cs_36_0]; rfl) (by decide) ?_
        refine lv_aload_n hx hb dX9_count_72 rfl (lv_at hl 0 rfl) ?_
        refine va_get (D := D) (ci := 8) (v := .int mrm) (C := RX9) (T := TX9) (N := 24) hx hb hts iX9_count_X9 hown hK hP 0 rfl rfl 0 (by decide) (hts _ kX9_count_1) (fun _ h9 => h9) rfl dX9_count_73 ?_
        have hF := Option.some.inj hF
        subst hF
        exact hQ _ H _ _ dX9_count_76 hP hD hS
      · have hF := if_f cs_36_0 hF
        by_cases cs_36_1 : l1 = (1 : Int32)
        · have hF := if_t cs_36_1 hF
          refine lv_tableIn (tgt := 77) hx hb dX9_count_36 (by rw [cs_36_1]; decide) (by rw [cs_36_1]; decide) (by rw [cs_36_1]; rfl) (by decide) ?_
          refine lv_iload_n hx hb dX9_count_77 rfl (lv_at hl 2 rfl) ?_
          have hF := Option.some.inj hF
          subst hF
          exact hQ _ H _ _ dX9_count_78 hP hD hS
        · have hF := if_f cs_36_1 hF
          by_cases cs_36_2 : l1 = (2 : Int32)
          · have hF := if_t cs_36_2 hF
            refine lv_tableIn (tgt := 79) hx hb dX9_count_36 (by rw [cs_36_2]; decide) (by rw [cs_36_2]; decide) (by rw [cs_36_2]; rfl) (by decide) ?_
            refine lv_aload_n hx hb dX9_count_79 rfl (lv_at hl 0 rfl) ?_
            refine va_get (D := D) (ci := 8) (v := .int mkn) (C := RX9) (T := TX9) (N := 24) hx hb hts iX9_count_X9 hown hK hP 0 rfl rfl 13 (by decide) (hts _ kX9_count_2) (fun _ h9 => h9) rfl dX9_count_80 ?_
            have hF := Option.some.inj hF
            subst hF
            exact hQ _ H _ _ dX9_count_83 hP hD hS
          · have hF := if_f cs_36_2 hF
            by_cases cs_36_3 : l1 = (3 : Int32)
            · have hF := if_t cs_36_3 hF
              refine lv_tableIn (tgt := 84) hx hb dX9_count_36 (by rw [cs_36_3]; decide) (by rw [cs_36_3]; decide) (by rw [cs_36_3]; rfl) (by decide) ?_
              refine lv_aload_n hx hb dX9_count_84 rfl (lv_at hl 0 rfl) ?_
              refine va_get (D := D) (ci := 8) (v := .int mwa) (C := RX9) (T := TX9) (N := 24) hx hb hts iX9_count_X9 hown hK hP 0 rfl rfl 16 (by decide) (hts _ kX9_count_3) (fun _ h9 => h9) rfl dX9_count_85 ?_
              have hF := Option.some.inj hF
              subst hF
              exact hQ _ H _ _ dX9_count_88 hP hD hS
            · have hF := if_f cs_36_3 hF
              by_cases cs_36_4 : l1 = (4 : Int32)
              · have hF := if_t cs_36_4 hF
                refine lv_tableIn (tgt := 89) hx hb dX9_count_36 (by rw [cs_36_4]; decide) (by rw [cs_36_4]; decide) (by rw [cs_36_4]; rfl) (by decide) ?_
                refine lv_aload_n hx hb dX9_count_89 rfl (lv_at hl 0 rfl) ?_
                refine va_get (D := D) (ci := 8) (v := .int mra) (C := RX9) (T := TX9) (N := 24) hx hb hts iX9_count_X9 hown hK hP 0 rfl rfl 17 (by decide) (hts _ kX9_count_4) (fun _ h9 => h9) rfl dX9_count_90 ?_
                have hF := Option.some.inj hF
                subst hF
                exact hQ _ H _ _ dX9_count_93 hP hD hS
              · have hF := if_f cs_36_4 hF
                refine lv_tableOut (tgt := 94) hx hb dX9_count_36 (sw_out cs_36_0 cs_36_1 cs_36_2 cs_36_3 cs_36_4) (by decide) ?_
                refine lv_iconst (v := (-1 : Int32)) hx hb dX9_count_94 (by decide) ?_
                have hF := Option.some.inj hF
                subst hF
                exact hQ _ H _ _ dX9_count_95 hP hD hS
    · have hF := if_f c1 hF
      refine lv_iload_n hx hb dX9_count_12 rfl (lv_at hl 2 rfl) ?_
      refine lv_aload_n hx hb dX9_count_13 rfl (lv_at hl 0 rfl) ?_
      refine va_get (D := D) (ci := 8) (v := .ref mgp) (C := RX9) (T := TX9) (N := 24) hx hb hts iX9_count_X9 hown hK hP 0 rfl rfl 4 (by decide) (hts _ kX9_count_5) (fun _ h9 => h9) rfl dX9_count_14 ?_
      refine lv_iload_n hx hb dX9_count_17 rfl (lv_at hl 3 rfl) ?_
      obtain ⟨h2, hF⟩ := gi_s hF
      refine va_zald hx hb hK hP 4 2 rfl rfl h2 dX9_count_18 ?_
      refine lv_if_eq (tgt := 26) hx hb dX9_count_19 (by decide) (fun c3 => ?_) (fun c3 => ?_)
      · have hF := if_t c3 hF
        refine lv_iconst (v := (0 : Int32)) hx hb dX9_count_26 (by decide) ?_
        refine lv_iadd hx hb dX9_count_27 ?_
        refine lv_istore_n (lv' := [(2, .int (l2 + (0 : Int32))), (0, .ref aM), (1, .int l1), (3, .int l3)]) hx hb dX9_count_28 rfl hl (by decide) rfl (fun ls hl => ?_)
        refine lv_iinc (v := (l3 + (1 : Int32))) (lv' := [(3, .int (l3 + (1 : Int32))), (2, .int (l2 + (0 : Int32))), (0, .ref aM), (1, .int l1)]) hx hb dX9_count_29 hl (k := 3) rfl rfl (by decide) rfl (fun ls hl => ?_)
        refine lv_goto (tgt := 4) hx hb dX9_count_32 (by decide) ?_
        exact ih (l2 + (0 : Int32)) (l3 + (1 : Int32)) hF H _ _ hP hD hS (lv_sub hl [2, 3, 1, 0] rfl)
      · have hF := if_f c3 hF
        refine lv_iconst (v := (1 : Int32)) hx hb dX9_count_22 (by decide) ?_
        refine lv_goto (tgt := 27) hx hb dX9_count_23 (by decide) ?_
        refine lv_iadd hx hb dX9_count_27 ?_
        refine lv_istore_n (lv' := [(2, .int (l2 + (1 : Int32))), (0, .ref aM), (1, .int l1), (3, .int l3)]) hx hb dX9_count_28 rfl hl (by decide) rfl (fun ls hl => ?_)
        refine lv_iinc (v := (l3 + (1 : Int32))) (lv' := [(3, .int (l3 + (1 : Int32))), (2, .int (l2 + (1 : Int32))), (0, .ref aM), (1, .int l1)]) hx hb dX9_count_29 hl (k := 3) rfl rfl (by decide) rfl (fun ls hl => ?_)
        refine lv_goto (tgt := 4) hx hb dX9_count_32 (by decide) ?_
        exact ih (l2 + (1 : Int32)) (l3 + (1 : Int32)) hF H _ _ hP hD hS (lv_sub hl [2, 3, 1, 0] rfl)
set_option maxHeartbeats 4000000 in
set_option maxRecDepth 100000 in
theorem cr_X9_count (l : Launch) (D : va_G) (ky : Nat → ClassId) (aM mxs mus mys mgp mtp mme mle mlt mkl mln msz mit mmv : Nat) (sz N : Nat)  (mrm : Int32) (mer : Int32) (mtd : Int32) (mat : Int32) (mwr : Int32) (mkn : Int32) (mmb : Int32) (mwa : Int32) (mra : Int32) (mbl : Int32) (mbh : Int32) (dxs : Nat → Int32) (dus : Nat → Int32) (dys : Nat → Int32) (dgp : Nat → Int32) (dtp : Nat → Int32) (dme : Nat → Int32) (dle : Nat → Int32) (dlt : Nat → Int32) (dkl : Nat → Int32) (dln : Nat → Int32) (dsz : Nat → Int32) (dit : Nat → Int32) (dmv : Nat → Int32) (p0 : Int32) (res : Int32) (hF : f_X9_count N p0 mrm mkn mwa mra dgp = some res) : MI l yX9_count wsX9_count rm_X9_count D ky sz [.ref aM, .int p0] (w_model ky aM mxs mus mys mgp mtp mme mle mlt mkl mln msz mit mmv mrm mer mtd mat mwr mkn mmb mwa mra mbl mbh dxs dus dys dgp dtp dme dle dlt dkl dln dsz dit dmv) (w_model ky aM mxs mus mys mgp mtp mme mle mlt mkl mln msz mit mmv mrm mer mtd mat mwr mkn mmb mwa mra mbl mbh dxs dus dys dgp dtp dme dle dlt dkl dln dsz dit dmv) res := by
  unfold MI
  refine Met.ofW (cc := cX9_count) (maxL := 4) (ret := (some .int)) (by decide) rfl ?_
  intro p e s m args below meth c s₁ B hml hv
  obtain ⟨rfl, hsz, hP, hK, hD0⟩ := hv
  have hx := B.exec
  have hb := B.bytes
  have hr := B.returns
  have hts := atoms_spec (ws := wsX9_count) B.pre
  have hown : s.vm.findClass RX9 = some m.cls := findClass_of_methodNamed B.named
  have hlocks := B.notSynchronized
  subst hsz
  have hD := hD0.self (sz := s.heap.size)
  generalize hAe : va_A (w_model ky aM mxs mus mys mgp mtp mme mle mlt mkl mln msz mit mmv mrm mer mtd mat mwr mkn mmb mwa mra mbl mbh dxs dus dys dgp dtp dme dle dlt dkl dln dsz dit dmv) s.heap.size = A at hD ⊢
  have hA : ∀ q : Nat, s.heap.size ≤ q → A q := fun q h => by rw [← hAe]; exact Or.inr h
  have hS : va_S A s.heap s.heap [] := va_S.rf
  have hP : va_P D vwCl (w_model ky aM mxs mus mys mgp mtp mme mle mlt mkl mln msz mit mmv mrm mer mtd mat mwr mkn mmb mwa mra mbl mbh dxs dus dys dgp dtp dme dle dlt dkl dln dsz dit dmv) s.heap := hP
  have hl := lv_entry ([.ref aM, .int p0]) (n := 4) (Nat.le_of_ble_eq_true rfl)
  rw [lg_entry_eq]
  generalize (lg_sl ([.ref aM, .int p0]) ++ List.replicate (4 - (lg_sl ([.ref aM, .int p0])).length) Slot.unset).toArray = ls at hl ⊢
  have hl : lv_has ls 4 [(0, .ref aM), (1, .int p0)] := hl
  have C : cx p s m c ([.ref aM, .int p0]).toArray D ky A cX9_count 4 wsX9_count RX9 := ⟨hx, hb, hml, hown, hts, hK, hA⟩
  have hQ : ∀ (pc : Nat) (H : Heap) (locs : List Loc) (ls : Array Slot), decode cX9_count pc = .ok (.ireturn, 1) → va_P D vwCl (w_model ky aM mxs mus mys mgp mtp mme mle mlt mkl mln msz mit mmv mrm mer mtd mat mwr mkn mmb mwa mra mbl mbh dxs dus dys dgp dtp dme dle dlt dkl dln dsz dit dmv) H → va_D A (w_model ky aM mxs mus mys mgp mtp mme mle mlt mkl mln msz mit mmv mrm mer mtd mat mwr mkn mmb mwa mra mbl mbh dxs dus dys dgp dtp dme dle dlt dkl dln dsz dit dmv) → va_S A s.heap H locs → W p l e rm_X9_count s m ([.ref aM, .int p0]).toArray below meth c H locs 0 0 (MQ below (va_Qi (S := Unit) (fun r _ => r = res) (fun _ t => va_P D vwCl (w_model ky aM mxs mus mys mgp mtp mme mle mlt mkl mln msz mit mmv mrm mer mtd mat mwr mkn mmb mwa mra mbl mbh dxs dus dys dgp dtp dme dle dlt dkl dln dsz dit dmv) t.heap ∧ va_K D vwCl (tyW ky) t ∧ va_D A (w_model ky aM mxs mus mys mgp mtp mme mle mlt mkl mln msz mit mmv mrm mer mtd mat mwr mkn mmb mwa mra mbl mbh dxs dus dys dgp dtp dme dle dlt dkl dln dsz dit dmv)) A) ([.ref aM, .int p0]).toArray s 0 0 A) (F0 m pc ls [.int res]) := fun pc H locs ls hd hP hD hS => W.iret hx hb hr (fun t ht hW => ⟨⟨res, (), rfl, rfl, by rw [ht]; exact hP, va_K.moved hW.alike hK, hD⟩, hS.F ht⟩) hS.2.2 hd
  unfold f_X9_count at hF
  refine lv_iconst (v := (0 : Int32)) hx hb dX9_count_0 (by decide) ?_
  refine lv_istore_n (lv' := [(2, .int (0 : Int32)), (0, .ref aM), (1, .int p0)]) hx hb dX9_count_1 rfl hl (by decide) rfl (fun ls hl => ?_)
  refine lv_iconst (v := (0 : Int32)) hx hb dX9_count_2 (by decide) ?_
  refine lv_istore_n (lv' := [(3, .int (0 : Int32)), (2, .int (0 : Int32)), (0, .ref aM), (1, .int p0)]) hx hb dX9_count_3 rfl hl (by decide) rfl (fun ls hl => ?_)
  exact w_X9_count_4 N C res hQ p0 N (0 : Int32) (0 : Int32) hF _ _ _ hP hD hS (lv_sub hl [2, 3, 1, 0] rfl)
theorem c_X9_count (l : Launch) (D : va_G) (ky : Nat → ClassId) (aM mxs mus mys mgp mtp mme mle mlt mkl mln msz mit mmv : Nat) (sz N : Nat)  (mrm : Int32) (mer : Int32) (mtd : Int32) (mat : Int32) (mwr : Int32) (mkn : Int32) (mmb : Int32) (mwa : Int32) (mra : Int32) (mbl : Int32) (mbh : Int32) (dxs : Nat → Int32) (dus : Nat → Int32) (dys : Nat → Int32) (dgp : Nat → Int32) (dtp : Nat → Int32) (dme : Nat → Int32) (dle : Nat → Int32) (dlt : Nat → Int32) (dkl : Nat → Int32) (dln : Nat → Int32) (dsz : Nat → Int32) (dit : Nat → Int32) (dmv : Nat → Int32) (p0 : Int32) (rv : Int32) (hF : f_X9_count N p0 mrm mkn mwa mra dgp = some (rv)) : MI l yX9_count wsX9_count rm_X9_count D ky sz [.ref aM, .int p0] (w_model ky aM mxs mus mys mgp mtp mme mle mlt mkl mln msz mit mmv mrm mer mtd mat mwr mkn mmb mwa mra mbl mbh dxs dus dys dgp dtp dme dle dlt dkl dln dsz dit dmv) (w_model ky aM mxs mus mys mgp mtp mme mle mlt mkl mln msz mit mmv mrm mer mtd mat mwr mkn mmb mwa mra mbl mbh dxs dus dys dgp dtp dme dle dlt dkl dln dsz dit dmv) rv :=
  cr_X9_count l D ky aM mxs mus mys mgp mtp mme mle mlt mkl mln msz mit mmv sz N mrm mer mtd mat mwr mkn mmb mwa mra mbl mbh dxs dus dys dgp dtp dme dle dlt dkl dln dsz dit dmv p0 (rv) hF
abbrev rm_X9_tables : Room := { frames := 3, cells := 0, slots := 0, locals := 72 }
theorem iX9_tables_X9 : ∀ w ∈ wsX90, w ∈ wsX9_tables := by decide +kernel
theorem kX9_tables_1 : (Cond.fieldLink RX9 33 "TwoLawsModel" "least" "[I") ∈ wsX9_tables := by decide +kernel
theorem kX9_tables_2 : (Cond.fieldLink RX9 30 "TwoLawsModel" "met" "[I") ∈ wsX9_tables := by decide +kernel
theorem kX9_tables_3 : (Cond.fieldLink RX9 62 "TwoLawsModel" "rowMany" "I") ∈ wsX9_tables := by decide +kernel
set_option maxHeartbeats 4000000 in
set_option maxRecDepth 100000 in
theorem w_X9_tables_93 {p : Program} {l : Launch} {e : Env} {s : State} {m : MethodId} {args : Array Value} {below : List Frame} {meth : Method} {c : Code} {Q : State → Prop} {A : Nat → Prop} {D : va_G} {ky : Nat → ClassId} {aM mxs mus mys mgp mtp mme mle mlt mkl mln msz mit mmv : Nat} {mrm : Int32} {mer : Int32} {mtd : Int32} {mat : Int32} {mwr : Int32} {mkn : Int32} {mmb : Int32} {mwa : Int32} {mra : Int32} {mbl : Int32} {mbh : Int32} {dxs : Nat → Int32} {dus : Nat → Int32} {dys : Nat → Int32} {dgp : Nat → Int32} {dtp : Nat → Int32} {dlt : Nat → Int32} {dkl : Nat → Int32} {dln : Nat → Int32} {dsz : Nat → Int32} {dit : Nat → Int32} {dmv : Nat → Int32} (N : Nat) (C : cx p s m c args D ky A cX9_tables 6 wsX9_tables RX9) (res : (Nat → Int32) × (Nat → Int32)) (hQ : ∀ (pc : Nat) (H : Heap) (locs : List Loc) (ls : Array Slot), decode cX9_tables pc = .ok (.return_, 1) → va_P D vwCl (w_model ky aM mxs mus mys mgp mtp mme mle mlt mkl mln msz mit mmv mrm mer mtd mat mwr mkn mmb mwa mra mbl mbh dxs dus dys dgp dtp res.1 res.2 dlt dkl dln dsz dit dmv) H → va_D A (w_model ky aM mxs mus mys mgp mtp mme mle mlt mkl mln msz mit mmv mrm mer mtd mat mwr mkn mmb mwa mra mbl mbh dxs dus dys dgp dtp res.1 res.2 dlt dkl dln dsz dit dmv) → va_S A s.heap H locs → W p l e rm_X9_tables s m args below meth c H locs 0 0 Q (F0 m pc ls [])) (dme : Nat → Int32) (k72 : Int32 → (Nat → Int32) → Option ((Nat → Int32) × (Nat → Int32))) (hk72 : ∀ (l1 : Int32) (dle : Nat → Int32), k72 l1 dle = some res → ∀ (H : Heap) (locs : List Loc) (ls : Array Slot), va_P D vwCl (w_model ky aM mxs mus mys mgp mtp mme mle mlt mkl mln msz mit mmv mrm mer mtd mat mwr mkn mmb mwa mra mbl mbh dxs dus dys dgp dtp dme dle dlt dkl dln dsz dit dmv) H → va_D A (w_model ky aM mxs mus mys mgp mtp mme mle mlt mkl mln msz mit mmv mrm mer mtd mat mwr mkn mmb mwa mra mbl mbh dxs dus dys dgp dtp dme dle dlt dkl dln dsz dit dmv) → va_S A s.heap H locs → lv_has ls 6 [(0, .ref aM), (1, .int l1)] → W p l e rm_X9_tables s m args below meth c H locs 0 0 Q (F0 m 72 ls [])) (l1 : Int32) (l2 : Int32) : ∀ (n : Nat) (l3 : Int32) (l4 : Int32) (dle : Nat → Int32), f_X9_tables_93 N k72 l1 l2 mrm dme n l3 l4 dle = some res → ∀ (H : Heap) (locs : List Loc) (ls : Array Slot), va_P D vwCl (w_model ky aM mxs mus mys mgp mtp mme mle mlt mkl mln msz mit mmv mrm mer mtd mat mwr mkn mmb mwa mra mbl mbh dxs dus dys dgp dtp dme dle dlt dkl dln dsz dit dmv) H → va_D A (w_model ky aM mxs mus mys mgp mtp mme mle mlt mkl mln msz mit mmv mrm mer mtd mat mwr mkn mmb mwa mra mbl mbh dxs dus dys dgp dtp dme dle dlt dkl dln dsz dit dmv) → va_S A s.heap H locs → lv_has ls 6 [(0, .ref aM), (1, .int l1), (2, .int l2), (3, .int l3), (4, .int l4)] → W p l e rm_X9_tables s m args below meth c H locs 0 0 Q (F0 m 93 ls []) := by
  obtain ⟨hx, hb, hml, hown, hts, hK, hA⟩ := id C
  intro n
  induction n with
  | zero =>
    intro l3 l4 dle hF
    cases hF
  | succ n ih =>
    intro l3 l4 dle hF H locs ls hP hD hS hl
    have hF : b_X9_tables_93 N k72 l1 l2 mrm dme (f_X9_tables_93 N k72 l1 l2 mrm dme n) l3 l4 dle = some res := hF
    unfold b_X9_tables_93 at hF
    refine lv_iload hx hb dX9_tables_93 (lv_at hl 4 rfl) ?_
    refine lv_sipush (v := (289 : Int32)) hx hb dX9_tables_95 (by decide) ?_
    refine lv_icmp_ge (tgt := 152) hx hb dX9_tables_98 (by decide) (fun c12 => ?_) (fun c12 => ?_)
    · have hF := if_t c12 hF
      refine lv_aload_n hx hb dX9_tables_152 rfl (lv_at hl 0 rfl) ?_
      refine va_get (D := D) (ci := 8) (v := .ref mle) (C := RX9) (T := TX9) (N := 24) hx hb hts iX9_tables_X9 hown hK hP 0 rfl rfl 11 (by decide) (hts _ kX9_tables_1) (fun _ h9 => h9) rfl dX9_tables_153 ?_
      refine lv_iload_n hx hb dX9_tables_156 rfl (lv_at hl 1 rfl) ?_
      refine lv_iload_n hx hb dX9_tables_157 rfl (lv_at hl 3 rfl) ?_
      obtain ⟨h13, hF⟩ := gi_s hF
      refine va_iast hx hb hK hP hD hS 7 0 rfl rfl h13 dX9_tables_158 (fun H locs hP hD hS => ?_)
      have hP : va_P D vwCl (w_model ky aM mxs mus mys mgp mtp mme mle mlt mkl mln msz mit mmv mrm mer mtd mat mwr mkn mmb mwa mra mbl mbh dxs dus dys dgp dtp dme (upd dle l1.toNatClampNeg l3) dlt dkl dln dsz dit dmv) H := hP
      have hD : va_D A (w_model ky aM mxs mus mys mgp mtp mme mle mlt mkl mln msz mit mmv mrm mer mtd mat mwr mkn mmb mwa mra mbl mbh dxs dus dys dgp dtp dme (upd dle l1.toNatClampNeg l3) dlt dkl dln dsz dit dmv) := hD
      refine lv_iinc (v := (l1 + (1 : Int32))) (lv' := [(1, .int (l1 + (1 : Int32))), (0, .ref aM), (2, .int l2), (3, .int l3), (4, .int l4)]) hx hb dX9_tables_159 hl (k := 1) rfl rfl (by decide) rfl (fun ls hl => ?_)
      refine lv_goto (tgt := 72) hx hb dX9_tables_162 (by decide) ?_
      exact hk72 (l1 + (1 : Int32)) (upd dle l1.toNatClampNeg l3) hF H _ _ hP hD hS (lv_sub hl [1, 0] rfl)
    · have hF := if_f c12 hF
      refine lv_aload_n hx hb dX9_tables_101 rfl (lv_at hl 0 rfl) ?_
      refine va_get (D := D) (ci := 8) (v := .ref mme) (C := RX9) (T := TX9) (N := 24) hx hb hts iX9_tables_X9 hown hK hP 0 rfl rfl 10 (by decide) (hts _ kX9_tables_2) (fun _ h9 => h9) rfl dX9_tables_102 ?_
      refine lv_iload hx hb dX9_tables_105 (lv_at hl 4 rfl) ?_
      obtain ⟨h14, hF⟩ := gi_s hF
      refine va_iald hx hb hK hP 6 0 rfl rfl h14 dX9_tables_107 ?_
      refine lv_iload_n hx hb dX9_tables_108 rfl (lv_at hl 2 rfl) ?_
      refine lv_iand hx hb dX9_tables_109 ?_
      refine lv_if_eq (tgt := 146) hx hb dX9_tables_110 (by decide) (fun c15 => ?_) (fun c15 => ?_)
      · have hF := if_t c15 hF
        refine lv_iinc (v := (l4 + (1 : Int32))) (lv' := [(4, .int (l4 + (1 : Int32))), (0, .ref aM), (1, .int l1), (2, .int l2), (3, .int l3)]) hx hb dX9_tables_146 hl (k := 4) rfl rfl (by decide) rfl (fun ls hl => ?_)
        refine lv_goto (tgt := 93) hx hb dX9_tables_149 (by decide) ?_
        exact ih l3 (l4 + (1 : Int32)) dle hF H _ _ hP hD hS (lv_sub hl [1, 2, 3, 4, 0] rfl)
      · have hF := if_f c15 hF
        refine lv_aload_n hx hb dX9_tables_113 rfl (lv_at hl 0 rfl) ?_
        refine va_get (D := D) (ci := 8) (v := .ref mle) (C := RX9) (T := TX9) (N := 24) hx hb hts iX9_tables_X9 hown hK hP 0 rfl rfl 11 (by decide) (hts _ kX9_tables_1) (fun _ h9 => h9) rfl dX9_tables_114 ?_
        refine lv_iload_n hx hb dX9_tables_117 rfl (lv_at hl 1 rfl) ?_
        refine lv_aload_n hx hb dX9_tables_118 rfl (lv_at hl 0 rfl) ?_
        refine va_get (D := D) (ci := 8) (v := .ref mme) (C := RX9) (T := TX9) (N := 24) hx hb hts iX9_tables_X9 hown hK hP 0 rfl rfl 10 (by decide) (hts _ kX9_tables_2) (fun _ h9 => h9) rfl dX9_tables_119 ?_
        refine lv_iload hx hb dX9_tables_122 (lv_at hl 4 rfl) ?_
        obtain ⟨h16, hF⟩ := gi_s hF
        refine va_iald hx hb hK hP 6 0 rfl rfl h16 dX9_tables_124 ?_
        refine lv_iconst (v := (-1 : Int32)) hx hb dX9_tables_125 (by decide) ?_
        refine lv_ixor hx hb dX9_tables_126 ?_
        refine lv_iand hx hb dX9_tables_127 ?_
        obtain ⟨h17, hF⟩ := gi_s hF
        refine va_iald hx hb hK hP 7 0 rfl rfl h17 dX9_tables_128 ?_
        refine lv_iconst (v := (1 : Int32)) hx hb dX9_tables_129 (by decide) ?_
        refine lv_iadd hx hb dX9_tables_130 ?_
        refine lv_topi (fun v18 e_v18 => ?_)
        have hF := nm_s e_v18 hF
        refine lv_istore (lv' := [(5, .int v18), (0, .ref aM), (1, .int l1), (2, .int l2), (3, .int l3), (4, .int l4)]) hx hb dX9_tables_131 hl (by decide) rfl (fun ls hl => ?_)
        refine lv_iload hx hb dX9_tables_133 (lv_at hl 0 rfl) ?_
        refine lv_iload_n hx hb dX9_tables_135 rfl (lv_at hl 4 rfl) ?_
        refine lv_icmp_ge (tgt := 144) hx hb dX9_tables_136 (by decide) (fun c19 => ?_) (fun c19 => ?_)
        · have hF := if_t c19 hF
          refine lv_iload_n hx hb dX9_tables_144 rfl (lv_at hl 4 rfl) ?_
          refine lv_istore_n (lv' := [(3, .int l3), (5, .int v18), (0, .ref aM), (1, .int l1), (2, .int l2), (4, .int l4)]) hx hb dX9_tables_145 rfl hl (by decide) rfl (fun ls hl => ?_)
          refine lv_iinc (v := (l4 + (1 : Int32))) (lv' := [(4, .int (l4 + (1 : Int32))), (3, .int l3), (5, .int v18), (0, .ref aM), (1, .int l1), (2, .int l2)]) hx hb dX9_tables_146 hl (k := 5) rfl rfl (by decide) rfl (fun ls hl => ?_)
          refine lv_goto (tgt := 93) hx hb dX9_tables_149 (by decide) ?_
          exact ih l3 (l4 + (1 : Int32)) dle hF H _ _ hP hD hS (lv_sub hl [3, 4, 5, 1, 0] rfl)
        · have hF := if_f c19 hF
          refine lv_iload hx hb dX9_tables_139 (lv_at hl 0 rfl) ?_
          refine lv_goto (tgt := 145) hx hb dX9_tables_141 (by decide) ?_
          refine lv_istore_n (lv' := [(3, .int v18), (5, .int v18), (0, .ref aM), (1, .int l1), (2, .int l2), (4, .int l4)]) hx hb dX9_tables_145 rfl hl (by decide) rfl (fun ls hl => ?_)
          refine lv_iinc (v := (l4 + (1 : Int32))) (lv' := [(4, .int (l4 + (1 : Int32))), (3, .int v18), (5, .int v18), (0, .ref aM), (1, .int l1), (2, .int l2)]) hx hb dX9_tables_146 hl (k := 5) rfl rfl (by decide) rfl (fun ls hl => ?_)
          refine lv_goto (tgt := 93) hx hb dX9_tables_149 (by decide) ?_
          exact ih v18 (l4 + (1 : Int32)) dle hF H _ _ hP hD hS (lv_sub hl [3, 4, 5, 1, 0] rfl)
set_option maxHeartbeats 4000000 in
set_option maxRecDepth 100000 in
theorem w_X9_tables_72 {p : Program} {l : Launch} {e : Env} {s : State} {m : MethodId} {args : Array Value} {below : List Frame} {meth : Method} {c : Code} {Q : State → Prop} {A : Nat → Prop} {D : va_G} {ky : Nat → ClassId} {aM mxs mus mys mgp mtp mme mle mlt mkl mln msz mit mmv : Nat} {mrm : Int32} {mer : Int32} {mtd : Int32} {mat : Int32} {mwr : Int32} {mkn : Int32} {mmb : Int32} {mwa : Int32} {mra : Int32} {mbl : Int32} {mbh : Int32} {dxs : Nat → Int32} {dus : Nat → Int32} {dys : Nat → Int32} {dgp : Nat → Int32} {dtp : Nat → Int32} {dlt : Nat → Int32} {dkl : Nat → Int32} {dln : Nat → Int32} {dsz : Nat → Int32} {dit : Nat → Int32} {dmv : Nat → Int32} (N : Nat) (C : cx p s m c args D ky A cX9_tables 6 wsX9_tables RX9) (res : (Nat → Int32) × (Nat → Int32)) (hQ : ∀ (pc : Nat) (H : Heap) (locs : List Loc) (ls : Array Slot), decode cX9_tables pc = .ok (.return_, 1) → va_P D vwCl (w_model ky aM mxs mus mys mgp mtp mme mle mlt mkl mln msz mit mmv mrm mer mtd mat mwr mkn mmb mwa mra mbl mbh dxs dus dys dgp dtp res.1 res.2 dlt dkl dln dsz dit dmv) H → va_D A (w_model ky aM mxs mus mys mgp mtp mme mle mlt mkl mln msz mit mmv mrm mer mtd mat mwr mkn mmb mwa mra mbl mbh dxs dus dys dgp dtp res.1 res.2 dlt dkl dln dsz dit dmv) → va_S A s.heap H locs → W p l e rm_X9_tables s m args below meth c H locs 0 0 Q (F0 m pc ls [])) (dme : Nat → Int32) : ∀ (n : Nat) (l1 : Int32) (dle : Nat → Int32), f_X9_tables_72 N mrm dme n l1 dle = some res → ∀ (H : Heap) (locs : List Loc) (ls : Array Slot), va_P D vwCl (w_model ky aM mxs mus mys mgp mtp mme mle mlt mkl mln msz mit mmv mrm mer mtd mat mwr mkn mmb mwa mra mbl mbh dxs dus dys dgp dtp dme dle dlt dkl dln dsz dit dmv) H → va_D A (w_model ky aM mxs mus mys mgp mtp mme mle mlt mkl mln msz mit mmv mrm mer mtd mat mwr mkn mmb mwa mra mbl mbh dxs dus dys dgp dtp dme dle dlt dkl dln dsz dit dmv) → va_S A s.heap H locs → lv_has ls 6 [(0, .ref aM), (1, .int l1)] → W p l e rm_X9_tables s m args below meth c H locs 0 0 Q (F0 m 72 ls []) := by
  obtain ⟨hx, hb, hml, hown, hts, hK, hA⟩ := id C
  intro n
  induction n with
  | zero =>
    intro l1 dle hF
    cases hF
  | succ n ih =>
    intro l1 dle hF H locs ls hP hD hS hl
    have hF : b_X9_tables_72 N mrm dme (f_X9_tables_72 N mrm dme n) l1 dle = some res := hF
    unfold b_X9_tables_72 at hF
    refine lv_iload_n hx hb dX9_tables_72 rfl (lv_at hl 1 rfl) ?_
    refine lv_iconst (v := (1 : Int32)) hx hb dX9_tables_73 (by decide) ?_
    refine lv_aload_n hx hb dX9_tables_74 rfl (lv_at hl 0 rfl) ?_
    refine va_get (D := D) (ci := 8) (v := .int mrm) (C := RX9) (T := TX9) (N := 24) hx hb hts iX9_tables_X9 hown hK hP 0 rfl rfl 0 (by decide) (hts _ kX9_tables_3) (fun _ h9 => h9) rfl dX9_tables_75 ?_
    refine lv_ishl hx hb dX9_tables_78 ?_
    refine lv_icmp_ge (tgt := 165) hx hb dX9_tables_79 (by decide) (fun c11 => ?_) (fun c11 => ?_)
    · have hF := if_t c11 hF
      have hF := Option.some.inj hF
      subst hF
      exact hQ _ H _ _ dX9_tables_165 hP hD hS
    · have hF := if_f c11 hF
      refine lv_iload_n hx hb dX9_tables_82 rfl (lv_at hl 1 rfl) ?_
      refine lv_iload_n hx hb dX9_tables_83 rfl (lv_at hl 1 rfl) ?_
      refine lv_ineg hx hb dX9_tables_84 ?_
      refine lv_iand hx hb dX9_tables_85 ?_
      refine lv_istore_n (lv' := [(2, .int (l1 &&& (-l1))), (0, .ref aM), (1, .int l1)]) hx hb dX9_tables_86 rfl hl (by decide) rfl (fun ls hl => ?_)
      refine lv_bipush (v := (100 : Int32)) hx hb dX9_tables_87 (by decide) ?_
      refine lv_istore_n (lv' := [(3, .int (100 : Int32)), (2, .int (l1 &&& (-l1))), (0, .ref aM), (1, .int l1)]) hx hb dX9_tables_89 rfl hl (by decide) rfl (fun ls hl => ?_)
      refine lv_iconst (v := (0 : Int32)) hx hb dX9_tables_90 (by decide) ?_
      refine lv_istore (lv' := [(4, .int (0 : Int32)), (3, .int (100 : Int32)), (2, .int (l1 &&& (-l1))), (0, .ref aM), (1, .int l1)]) hx hb dX9_tables_91 hl (by decide) rfl (fun ls hl => ?_)
      exact w_X9_tables_93 N C res hQ dme _ ih l1 (l1 &&& (-l1)) N (100 : Int32) (0 : Int32) dle hF H _ _ hP hD hS (lv_sub hl [3, 4, 2, 1, 0] rfl)
set_option maxHeartbeats 4000000 in
set_option maxRecDepth 100000 in
theorem w_X9_tables_18 {p : Program} {l : Launch} {e : Env} {s : State} {m : MethodId} {args : Array Value} {below : List Frame} {meth : Method} {c : Code} {Q : State → Prop} {A : Nat → Prop} {D : va_G} {ky : Nat → ClassId} {aM mxs mus mys mgp mtp mme mle mlt mkl mln msz mit mmv : Nat} {mrm : Int32} {mer : Int32} {mtd : Int32} {mat : Int32} {mwr : Int32} {mkn : Int32} {mmb : Int32} {mwa : Int32} {mra : Int32} {mbl : Int32} {mbh : Int32} {dxs : Nat → Int32} {dus : Nat → Int32} {dys : Nat → Int32} {dgp : Nat → Int32} {dtp : Nat → Int32} {dlt : Nat → Int32} {dkl : Nat → Int32} {dln : Nat → Int32} {dsz : Nat → Int32} {dit : Nat → Int32} {dmv : Nat → Int32} (N : Nat) (C : cx p s m c args D ky A cX9_tables 6 wsX9_tables RX9) (res : (Nat → Int32) × (Nat → Int32)) (hQ : ∀ (pc : Nat) (H : Heap) (locs : List Loc) (ls : Array Slot), decode cX9_tables pc = .ok (.return_, 1) → va_P D vwCl (w_model ky aM mxs mus mys mgp mtp mme mle mlt mkl mln msz mit mmv mrm mer mtd mat mwr mkn mmb mwa mra mbl mbh dxs dus dys dgp dtp res.1 res.2 dlt dkl dln dsz dit dmv) H → va_D A (w_model ky aM mxs mus mys mgp mtp mme mle mlt mkl mln msz mit mmv mrm mer mtd mat mwr mkn mmb mwa mra mbl mbh dxs dus dys dgp dtp res.1 res.2 dlt dkl dln dsz dit dmv) → va_S A s.heap H locs → W p l e rm_X9_tables s m args below meth c H locs 0 0 Q (F0 m pc ls [])) (k2 : Int32 → (Nat → Int32) → (Nat → Int32) → Option ((Nat → Int32) × (Nat → Int32))) (hk2 : ∀ (l1 : Int32) (dme : Nat → Int32) (dle : Nat → Int32), k2 l1 dme dle = some res → ∀ (H : Heap) (locs : List Loc) (ls : Array Slot), va_P D vwCl (w_model ky aM mxs mus mys mgp mtp mme mle mlt mkl mln msz mit mmv mrm mer mtd mat mwr mkn mmb mwa mra mbl mbh dxs dus dys dgp dtp dme dle dlt dkl dln dsz dit dmv) H → va_D A (w_model ky aM mxs mus mys mgp mtp mme mle mlt mkl mln msz mit mmv mrm mer mtd mat mwr mkn mmb mwa mra mbl mbh dxs dus dys dgp dtp dme dle dlt dkl dln dsz dit dmv) → va_S A s.heap H locs → lv_has ls 6 [(0, .ref aM), (1, .int l1)] → W p l e rm_X9_tables s m args below meth c H locs 0 0 Q (F0 m 2 ls [])) (l1 : Int32) (dle : Nat → Int32) : ∀ (n : Nat) (l2 : Int32) (dme : Nat → Int32), f_X9_tables_18 N k2 l1 mrm mer dxs dus dys dgp dle n l2 dme = some res → ∀ (H : Heap) (locs : List Loc) (ls : Array Slot), va_P D vwCl (w_model ky aM mxs mus mys mgp mtp mme mle mlt mkl mln msz mit mmv mrm mer mtd mat mwr mkn mmb mwa mra mbl mbh dxs dus dys dgp dtp dme dle dlt dkl dln dsz dit dmv) H → va_D A (w_model ky aM mxs mus mys mgp mtp mme mle mlt mkl mln msz mit mmv mrm mer mtd mat mwr mkn mmb mwa mra mbl mbh dxs dus dys dgp dtp dme dle dlt dkl dln dsz dit dmv) → va_S A s.heap H locs → lv_has ls 6 [(0, .ref aM), (1, .int l1), (2, .int l2)] → W p l e rm_X9_tables s m args below meth c H locs 0 0 Q (F0 m 18 ls []) := by
  obtain ⟨hx, hb, hml, hown, hts, hK, hA⟩ := id C
  intro n
  induction n with
  | zero =>
    intro l2 dme hF
    cases hF
  | succ n ih =>
    intro l2 dme hF H locs ls hP hD hS hl
    have hF : b_X9_tables_18 N k2 l1 mrm mer dxs dus dys dgp dle (f_X9_tables_18 N k2 l1 mrm mer dxs dus dys dgp dle n) l2 dme = some res := hF
    unfold b_X9_tables_18 at hF
    refine lv_iload_n hx hb dX9_tables_18 rfl (lv_at hl 2 rfl) ?_
    refine lv_aload_n hx hb dX9_tables_19 rfl (lv_at hl 0 rfl) ?_
    refine va_get (D := D) (ci := 8) (v := .int mrm) (C := RX9) (T := TX9) (N := 24) hx hb hts iX9_tables_X9 hown hK hP 0 rfl rfl 0 (by decide) (hts _ kX9_tables_3) (fun _ h9 => h9) rfl dX9_tables_20 ?_
    refine lv_icmp_ge (tgt := 57) hx hb dX9_tables_23 (by decide) (fun c4 => ?_) (fun c4 => ?_)
    · have hF := if_t c4 hF
      refine lv_iinc (v := (l1 + (1 : Int32))) (lv' := [(1, .int (l1 + (1 : Int32))), (0, .ref aM), (2, .int l2)]) hx hb dX9_tables_57 hl (k := 1) rfl rfl (by decide) rfl (fun ls hl => ?_)
      refine lv_goto (tgt := 2) hx hb dX9_tables_60 (by decide) ?_
      exact hk2 (l1 + (1 : Int32)) dme dle hF H _ _ hP hD hS (lv_sub hl [1, 0] rfl)
    · have hF := if_f c4 hF
      refine lv_aload_n hx hb dX9_tables_26 rfl (lv_at hl 0 rfl) ?_
      refine va_get (D := D) (ci := 8) (v := .ref mme) (C := RX9) (T := TX9) (N := 24) hx hb hts iX9_tables_X9 hown hK hP 0 rfl rfl 10 (by decide) (hts _ kX9_tables_2) (fun _ h9 => h9) rfl dX9_tables_27 ?_
      refine lv_iload_n hx hb dX9_tables_30 rfl (lv_at hl 1 rfl) ?_
      refine lv_dup2_11 hx hb dX9_tables_31 rfl rfl ?_
      obtain ⟨h5, hF⟩ := gi_s hF
      refine va_iald hx hb hK hP 6 0 rfl rfl h5 dX9_tables_32 ?_
      refine lv_aload_n hx hb dX9_tables_33 rfl (lv_at hl 0 rfl) ?_
      refine lv_iload_n hx hb dX9_tables_34 rfl (lv_at hl 2 rfl) ?_
      refine lv_iload_n hx hb dX9_tables_35 rfl (lv_at hl 1 rfl) ?_
      obtain ⟨r7, h6, hF⟩ := b1_s hF
      refine cl_vi (As := [.int l2, .int l1]) (rest := [.int (dme l1.toNatClampNeg), .int l1, .ref mme]) (w' := (w_model ky aM mxs mus mys mgp mtp mme mle mlt mkl mln msz mit mmv mrm mer mtd mat mwr mkn mmb mwa mra mbl mbh dxs dus dys dgp dtp dme dle dlt dkl dln dsz dit dmv)) ⟨hx, hb, hml, hown, hts⟩ hK hP hD hS hA (c_X9_doesMeet l D ky aM mxs mus mys mgp mtp mme mle mlt mkl mln msz mit mmv _ N  mrm mer mtd mat mwr mkn mmb mwa mra mbl mbh dxs dus dys dgp dtp dme dle dlt dkl dln dsz dit dmv l2 l1 r7 h6) (cwV 2 hts gX9_tables_X9_doesMeet rfl rfl rfl (by decide +kernel) ⟨Nat.le_of_ble_eq_true rfl, Nat.le_of_ble_eq_true rfl⟩) [0, 1, 2, 3, 4, 5, 6, 7, 8, 9, 10, 11, 12, 13] [] [0, 1, 2, 3, 4, 5, 6, 7, 8, 9, 10, 11, 12, 13] 0 8 rfl rfl rfl rfl (wr := []) rfl (by decide) rfl rfl hl.1 (Nat.le_of_ble_eq_true rfl) dX9_tables_36 ⟨Nat.zero_le _, Nat.zero_le _⟩ (fun H locs hP hD hS => ?_)
      refine lv_if_eq (tgt := 48) hx hb dX9_tables_39 (by decide) (fun c8 => ?_) (fun c8 => ?_)
      · have hF := if_t c8 hF
        refine lv_iconst (v := (0 : Int32)) hx hb dX9_tables_48 (by decide) ?_
        refine lv_ior hx hb dX9_tables_49 ?_
        obtain ⟨h9, hF⟩ := gi_s hF
        refine va_iast hx hb hK hP hD hS 6 0 rfl rfl h9 dX9_tables_50 (fun H locs hP hD hS => ?_)
        have hP : va_P D vwCl (w_model ky aM mxs mus mys mgp mtp mme mle mlt mkl mln msz mit mmv mrm mer mtd mat mwr mkn mmb mwa mra mbl mbh dxs dus dys dgp dtp (upd dme l1.toNatClampNeg ((dme l1.toNatClampNeg) ||| (0 : Int32))) dle dlt dkl dln dsz dit dmv) H := hP
        have hD : va_D A (w_model ky aM mxs mus mys mgp mtp mme mle mlt mkl mln msz mit mmv mrm mer mtd mat mwr mkn mmb mwa mra mbl mbh dxs dus dys dgp dtp (upd dme l1.toNatClampNeg ((dme l1.toNatClampNeg) ||| (0 : Int32))) dle dlt dkl dln dsz dit dmv) := hD
        refine lv_iinc (v := (l2 + (1 : Int32))) (lv' := [(2, .int (l2 + (1 : Int32))), (0, .ref aM), (1, .int l1)]) hx hb dX9_tables_51 hl (k := 2) rfl rfl (by decide) rfl (fun ls hl => ?_)
        refine lv_goto (tgt := 18) hx hb dX9_tables_54 (by decide) ?_
        exact ih (l2 + (1 : Int32)) (upd dme l1.toNatClampNeg ((dme l1.toNatClampNeg) ||| (0 : Int32))) hF H _ _ hP hD hS (lv_sub hl [1, 2, 0] rfl)
      · have hF := if_f c8 hF
        refine lv_iconst (v := (1 : Int32)) hx hb dX9_tables_42 (by decide) ?_
        refine lv_iload_n hx hb dX9_tables_43 rfl (lv_at hl 2 rfl) ?_
        refine lv_ishl hx hb dX9_tables_44 ?_
        refine lv_goto (tgt := 49) hx hb dX9_tables_45 (by decide) ?_
        refine lv_ior hx hb dX9_tables_49 ?_
        obtain ⟨h10, hF⟩ := gi_s hF
        refine va_iast hx hb hK hP hD hS 6 0 rfl rfl h10 dX9_tables_50 (fun H locs hP hD hS => ?_)
        have hP : va_P D vwCl (w_model ky aM mxs mus mys mgp mtp mme mle mlt mkl mln msz mit mmv mrm mer mtd mat mwr mkn mmb mwa mra mbl mbh dxs dus dys dgp dtp (upd dme l1.toNatClampNeg ((dme l1.toNatClampNeg) ||| ((1 : Int32) <<< (l2 &&& 31)))) dle dlt dkl dln dsz dit dmv) H := hP
        have hD : va_D A (w_model ky aM mxs mus mys mgp mtp mme mle mlt mkl mln msz mit mmv mrm mer mtd mat mwr mkn mmb mwa mra mbl mbh dxs dus dys dgp dtp (upd dme l1.toNatClampNeg ((dme l1.toNatClampNeg) ||| ((1 : Int32) <<< (l2 &&& 31)))) dle dlt dkl dln dsz dit dmv) := hD
        refine lv_iinc (v := (l2 + (1 : Int32))) (lv' := [(2, .int (l2 + (1 : Int32))), (0, .ref aM), (1, .int l1)]) hx hb dX9_tables_51 hl (k := 2) rfl rfl (by decide) rfl (fun ls hl => ?_)
        refine lv_goto (tgt := 18) hx hb dX9_tables_54 (by decide) ?_
        exact ih (l2 + (1 : Int32)) (upd dme l1.toNatClampNeg ((dme l1.toNatClampNeg) ||| ((1 : Int32) <<< (l2 &&& 31)))) hF H _ _ hP hD hS (lv_sub hl [1, 2, 0] rfl)
set_option maxHeartbeats 4000000 in
set_option maxRecDepth 100000 in
theorem w_X9_tables_2 {p : Program} {l : Launch} {e : Env} {s : State} {m : MethodId} {args : Array Value} {below : List Frame} {meth : Method} {c : Code} {Q : State → Prop} {A : Nat → Prop} {D : va_G} {ky : Nat → ClassId} {aM mxs mus mys mgp mtp mme mle mlt mkl mln msz mit mmv : Nat} {mrm : Int32} {mer : Int32} {mtd : Int32} {mat : Int32} {mwr : Int32} {mkn : Int32} {mmb : Int32} {mwa : Int32} {mra : Int32} {mbl : Int32} {mbh : Int32} {dxs : Nat → Int32} {dus : Nat → Int32} {dys : Nat → Int32} {dgp : Nat → Int32} {dtp : Nat → Int32} {dlt : Nat → Int32} {dkl : Nat → Int32} {dln : Nat → Int32} {dsz : Nat → Int32} {dit : Nat → Int32} {dmv : Nat → Int32} (N : Nat) (C : cx p s m c args D ky A cX9_tables 6 wsX9_tables RX9) (res : (Nat → Int32) × (Nat → Int32)) (hQ : ∀ (pc : Nat) (H : Heap) (locs : List Loc) (ls : Array Slot), decode cX9_tables pc = .ok (.return_, 1) → va_P D vwCl (w_model ky aM mxs mus mys mgp mtp mme mle mlt mkl mln msz mit mmv mrm mer mtd mat mwr mkn mmb mwa mra mbl mbh dxs dus dys dgp dtp res.1 res.2 dlt dkl dln dsz dit dmv) H → va_D A (w_model ky aM mxs mus mys mgp mtp mme mle mlt mkl mln msz mit mmv mrm mer mtd mat mwr mkn mmb mwa mra mbl mbh dxs dus dys dgp dtp res.1 res.2 dlt dkl dln dsz dit dmv) → va_S A s.heap H locs → W p l e rm_X9_tables s m args below meth c H locs 0 0 Q (F0 m pc ls []))  : ∀ (n : Nat) (l1 : Int32) (dme : Nat → Int32) (dle : Nat → Int32), f_X9_tables_2 N mrm mer dxs dus dys dgp n l1 dme dle = some res → ∀ (H : Heap) (locs : List Loc) (ls : Array Slot), va_P D vwCl (w_model ky aM mxs mus mys mgp mtp mme mle mlt mkl mln msz mit mmv mrm mer mtd mat mwr mkn mmb mwa mra mbl mbh dxs dus dys dgp dtp dme dle dlt dkl dln dsz dit dmv) H → va_D A (w_model ky aM mxs mus mys mgp mtp mme mle mlt mkl mln msz mit mmv mrm mer mtd mat mwr mkn mmb mwa mra mbl mbh dxs dus dys dgp dtp dme dle dlt dkl dln dsz dit dmv) → va_S A s.heap H locs → lv_has ls 6 [(0, .ref aM), (1, .int l1)] → W p l e rm_X9_tables s m args below meth c H locs 0 0 Q (F0 m 2 ls []) := by
  obtain ⟨hx, hb, hml, hown, hts, hK, hA⟩ := id C
  intro n
  induction n with
  | zero =>
    intro l1 dme dle hF
    cases hF
  | succ n ih =>
    intro l1 dme dle hF H locs ls hP hD hS hl
    have hF : b_X9_tables_2 N mrm mer dxs dus dys dgp (f_X9_tables_2 N mrm mer dxs dus dys dgp n) l1 dme dle = some res := hF
    unfold b_X9_tables_2 at hF
    refine lv_iload_n hx hb dX9_tables_2 rfl (lv_at hl 1 rfl) ?_
    refine lv_sipush (v := (289 : Int32)) hx hb dX9_tables_3 (by decide) ?_
    refine lv_icmp_ge (tgt := 63) hx hb dX9_tables_6 (by decide) (fun c1 => ?_) (fun c1 => ?_)
    · have hF := if_t c1 hF
      refine lv_aload_n hx hb dX9_tables_63 rfl (lv_at hl 0 rfl) ?_
      refine va_get (D := D) (ci := 8) (v := .ref mle) (C := RX9) (T := TX9) (N := 24) hx hb hts iX9_tables_X9 hown hK hP 0 rfl rfl 11 (by decide) (hts _ kX9_tables_1) (fun _ h9 => h9) rfl dX9_tables_64 ?_
      refine lv_iconst (v := (0 : Int32)) hx hb dX9_tables_67 (by decide) ?_
      refine lv_iconst (v := (0 : Int32)) hx hb dX9_tables_68 (by decide) ?_
      obtain ⟨h2, hF⟩ := gi_s hF
      refine va_iast hx hb hK hP hD hS 7 0 rfl rfl h2 dX9_tables_69 (fun H locs hP hD hS => ?_)
      have hP : va_P D vwCl (w_model ky aM mxs mus mys mgp mtp mme mle mlt mkl mln msz mit mmv mrm mer mtd mat mwr mkn mmb mwa mra mbl mbh dxs dus dys dgp dtp dme (upd dle (0 : Int32).toNatClampNeg (0 : Int32)) dlt dkl dln dsz dit dmv) H := hP
      have hD : va_D A (w_model ky aM mxs mus mys mgp mtp mme mle mlt mkl mln msz mit mmv mrm mer mtd mat mwr mkn mmb mwa mra mbl mbh dxs dus dys dgp dtp dme (upd dle (0 : Int32).toNatClampNeg (0 : Int32)) dlt dkl dln dsz dit dmv) := hD
      refine lv_iconst (v := (1 : Int32)) hx hb dX9_tables_70 (by decide) ?_
      refine lv_istore_n (lv' := [(1, .int (1 : Int32)), (0, .ref aM)]) hx hb dX9_tables_71 rfl hl (by decide) rfl (fun ls hl => ?_)
      exact w_X9_tables_72 N C res hQ dme N (1 : Int32) (upd dle (0 : Int32).toNatClampNeg (0 : Int32)) hF H _ _ hP hD hS (lv_sub hl [1, 0] rfl)
    · have hF := if_f c1 hF
      refine lv_aload_n hx hb dX9_tables_9 rfl (lv_at hl 0 rfl) ?_
      refine va_get (D := D) (ci := 8) (v := .ref mme) (C := RX9) (T := TX9) (N := 24) hx hb hts iX9_tables_X9 hown hK hP 0 rfl rfl 10 (by decide) (hts _ kX9_tables_2) (fun _ h9 => h9) rfl dX9_tables_10 ?_
      refine lv_iload_n hx hb dX9_tables_13 rfl (lv_at hl 1 rfl) ?_
      refine lv_iconst (v := (0 : Int32)) hx hb dX9_tables_14 (by decide) ?_
      obtain ⟨h3, hF⟩ := gi_s hF
      refine va_iast hx hb hK hP hD hS 6 0 rfl rfl h3 dX9_tables_15 (fun H locs hP hD hS => ?_)
      have hP : va_P D vwCl (w_model ky aM mxs mus mys mgp mtp mme mle mlt mkl mln msz mit mmv mrm mer mtd mat mwr mkn mmb mwa mra mbl mbh dxs dus dys dgp dtp (upd dme l1.toNatClampNeg (0 : Int32)) dle dlt dkl dln dsz dit dmv) H := hP
      have hD : va_D A (w_model ky aM mxs mus mys mgp mtp mme mle mlt mkl mln msz mit mmv mrm mer mtd mat mwr mkn mmb mwa mra mbl mbh dxs dus dys dgp dtp (upd dme l1.toNatClampNeg (0 : Int32)) dle dlt dkl dln dsz dit dmv) := hD
      refine lv_iconst (v := (0 : Int32)) hx hb dX9_tables_16 (by decide) ?_
      refine lv_istore_n (lv' := [(2, .int (0 : Int32)), (0, .ref aM), (1, .int l1)]) hx hb dX9_tables_17 rfl hl (by decide) rfl (fun ls hl => ?_)
      exact w_X9_tables_18 N C res hQ _ ih l1 dle N (0 : Int32) (upd dme l1.toNatClampNeg (0 : Int32)) hF H _ _ hP hD hS (lv_sub hl [1, 2, 0] rfl)
set_option maxHeartbeats 4000000 in
set_option maxRecDepth 100000 in
theorem cr_X9_tables (l : Launch) (D : va_G) (ky : Nat → ClassId) (aM mxs mus mys mgp mtp mme mle mlt mkl mln msz mit mmv : Nat) (sz N : Nat)  (mrm : Int32) (mer : Int32) (mtd : Int32) (mat : Int32) (mwr : Int32) (mkn : Int32) (mmb : Int32) (mwa : Int32) (mra : Int32) (mbl : Int32) (mbh : Int32) (dxs : Nat → Int32) (dus : Nat → Int32) (dys : Nat → Int32) (dgp : Nat → Int32) (dtp : Nat → Int32) (dme : Nat → Int32) (dle : Nat → Int32) (dlt : Nat → Int32) (dkl : Nat → Int32) (dln : Nat → Int32) (dsz : Nat → Int32) (dit : Nat → Int32) (dmv : Nat → Int32)  (res : (Nat → Int32) × (Nat → Int32)) (hF : f_X9_tables N mrm mer dxs dus dys dgp dme dle = some res) : MV l yX9_tables wsX9_tables rm_X9_tables D ky sz [.ref aM] (w_model ky aM mxs mus mys mgp mtp mme mle mlt mkl mln msz mit mmv mrm mer mtd mat mwr mkn mmb mwa mra mbl mbh dxs dus dys dgp dtp dme dle dlt dkl dln dsz dit dmv) (w_model ky aM mxs mus mys mgp mtp mme mle mlt mkl mln msz mit mmv mrm mer mtd mat mwr mkn mmb mwa mra mbl mbh dxs dus dys dgp dtp res.1 res.2 dlt dkl dln dsz dit dmv) := by
  unfold MV
  refine Met.ofW (cc := cX9_tables) (maxL := 6) (ret := none) (by decide) rfl ?_
  intro p e s m args below meth c s₁ B hml hv
  obtain ⟨rfl, hsz, hP, hK, hD0⟩ := hv
  have hx := B.exec
  have hb := B.bytes
  have hr := B.returns
  have hts := atoms_spec (ws := wsX9_tables) B.pre
  have hown : s.vm.findClass RX9 = some m.cls := findClass_of_methodNamed B.named
  have hlocks := B.notSynchronized
  subst hsz
  have hD := hD0.self (sz := s.heap.size)
  generalize hAe : va_A (w_model ky aM mxs mus mys mgp mtp mme mle mlt mkl mln msz mit mmv mrm mer mtd mat mwr mkn mmb mwa mra mbl mbh dxs dus dys dgp dtp dme dle dlt dkl dln dsz dit dmv) s.heap.size = A at hD ⊢
  have hA : ∀ q : Nat, s.heap.size ≤ q → A q := fun q h => by rw [← hAe]; exact Or.inr h
  have hS : va_S A s.heap s.heap [] := va_S.rf
  have hP : va_P D vwCl (w_model ky aM mxs mus mys mgp mtp mme mle mlt mkl mln msz mit mmv mrm mer mtd mat mwr mkn mmb mwa mra mbl mbh dxs dus dys dgp dtp dme dle dlt dkl dln dsz dit dmv) s.heap := hP
  have hl := lv_entry ([.ref aM]) (n := 6) (Nat.le_of_ble_eq_true rfl)
  rw [lg_entry_eq]
  generalize (lg_sl ([.ref aM]) ++ List.replicate (6 - (lg_sl ([.ref aM])).length) Slot.unset).toArray = ls at hl ⊢
  have hl : lv_has ls 6 [(0, .ref aM)] := hl
  have C : cx p s m c ([.ref aM]).toArray D ky A cX9_tables 6 wsX9_tables RX9 := ⟨hx, hb, hml, hown, hts, hK, hA⟩
  have hQ : ∀ (pc : Nat) (H : Heap) (locs : List Loc) (ls : Array Slot), decode cX9_tables pc = .ok (.return_, 1) → va_P D vwCl (w_model ky aM mxs mus mys mgp mtp mme mle mlt mkl mln msz mit mmv mrm mer mtd mat mwr mkn mmb mwa mra mbl mbh dxs dus dys dgp dtp res.1 res.2 dlt dkl dln dsz dit dmv) H → va_D A (w_model ky aM mxs mus mys mgp mtp mme mle mlt mkl mln msz mit mmv mrm mer mtd mat mwr mkn mmb mwa mra mbl mbh dxs dus dys dgp dtp res.1 res.2 dlt dkl dln dsz dit dmv) → va_S A s.heap H locs → W p l e rm_X9_tables s m ([.ref aM]).toArray below meth c H locs 0 0 (MQ below (va_Qv (S := Unit) (fun _ => True) (fun _ t => va_P D vwCl (w_model ky aM mxs mus mys mgp mtp mme mle mlt mkl mln msz mit mmv mrm mer mtd mat mwr mkn mmb mwa mra mbl mbh dxs dus dys dgp dtp res.1 res.2 dlt dkl dln dsz dit dmv) t.heap ∧ va_K D vwCl (tyW ky) t ∧ va_D A (w_model ky aM mxs mus mys mgp mtp mme mle mlt mkl mln msz mit mmv mrm mer mtd mat mwr mkn mmb mwa mra mbl mbh dxs dus dys dgp dtp res.1 res.2 dlt dkl dln dsz dit dmv)) A) ([.ref aM]).toArray s 0 0 A) (F0 m pc ls []) := fun pc H locs ls hd hP hD hS => W.vret hx hb hr (fun t ht hW => ⟨⟨(), rfl, trivial, by rw [ht]; exact hP, va_K.moved hW.alike hK, hD⟩, hS.F ht⟩) hS.2.2 hd
  unfold f_X9_tables at hF
  refine lv_iconst (v := (0 : Int32)) hx hb dX9_tables_0 (by decide) ?_
  refine lv_istore_n (lv' := [(1, .int (0 : Int32)), (0, .ref aM)]) hx hb dX9_tables_1 rfl hl (by decide) rfl (fun ls hl => ?_)
  exact w_X9_tables_2 N C res hQ  N (0 : Int32) dme dle hF _ _ _ hP hD hS (lv_sub hl [1, 0] rfl)
theorem c_X9_tables (l : Launch) (D : va_G) (ky : Nat → ClassId) (aM mxs mus mys mgp mtp mme mle mlt mkl mln msz mit mmv : Nat) (sz N : Nat)  (mrm : Int32) (mer : Int32) (mtd : Int32) (mat : Int32) (mwr : Int32) (mkn : Int32) (mmb : Int32) (mwa : Int32) (mra : Int32) (mbl : Int32) (mbh : Int32) (dxs : Nat → Int32) (dus : Nat → Int32) (dys : Nat → Int32) (dgp : Nat → Int32) (dtp : Nat → Int32) (dme : Nat → Int32) (dle : Nat → Int32) (dlt : Nat → Int32) (dkl : Nat → Int32) (dln : Nat → Int32) (dsz : Nat → Int32) (dit : Nat → Int32) (dmv : Nat → Int32)  (dme' : Nat → Int32) (dle' : Nat → Int32) (hF : f_X9_tables N mrm mer dxs dus dys dgp dme dle = some (dme', dle')) : MV l yX9_tables wsX9_tables rm_X9_tables D ky sz [.ref aM] (w_model ky aM mxs mus mys mgp mtp mme mle mlt mkl mln msz mit mmv mrm mer mtd mat mwr mkn mmb mwa mra mbl mbh dxs dus dys dgp dtp dme dle dlt dkl dln dsz dit dmv) (w_model ky aM mxs mus mys mgp mtp mme mle mlt mkl mln msz mit mmv mrm mer mtd mat mwr mkn mmb mwa mra mbl mbh dxs dus dys dgp dtp dme' dle' dlt dkl dln dsz dit dmv) :=
  cr_X9_tables l D ky aM mxs mus mys mgp mtp mme mle mlt mkl mln msz mit mmv sz N mrm mer mtd mat mwr mkn mmb mwa mra mbl mbh dxs dus dys dgp dtp dme dle dlt dkl dln dsz dit dmv (dme', dle') hF
abbrev rm_X9_fewest : Room := { frames := 4, cells := 0, slots := 0, locals := 97 }
theorem iX9_fewest_X9 : ∀ w ∈ wsX90, w ∈ wsX9_fewest := by decide +kernel
theorem kX9_fewest_1 : (Cond.fieldLink RX9 33 "TwoLawsModel" "least" "[I") ∈ wsX9_fewest := by decide +kernel
theorem kX9_fewest_2 : (Cond.fieldLink RX9 62 "TwoLawsModel" "rowMany" "I") ∈ wsX9_fewest := by decide +kernel
set_option maxHeartbeats 4000000 in
set_option maxRecDepth 100000 in
theorem cr_X9_fewest (l : Launch) (D : va_G) (ky : Nat → ClassId) (aM mxs mus mys mgp mtp mme mle mlt mkl mln msz mit mmv : Nat) (sz N : Nat)  (mrm : Int32) (mer : Int32) (mtd : Int32) (mat : Int32) (mwr : Int32) (mkn : Int32) (mmb : Int32) (mwa : Int32) (mra : Int32) (mbl : Int32) (mbh : Int32) (dxs : Nat → Int32) (dus : Nat → Int32) (dys : Nat → Int32) (dgp : Nat → Int32) (dtp : Nat → Int32) (dme : Nat → Int32) (dle : Nat → Int32) (dlt : Nat → Int32) (dkl : Nat → Int32) (dln : Nat → Int32) (dsz : Nat → Int32) (dit : Nat → Int32) (dmv : Nat → Int32)  (res : Int32 × (Nat → Int32) × (Nat → Int32)) (hF : f_X9_fewest N mrm mer dxs dus dys dgp dme dle = some res) : MI l yX9_fewest wsX9_fewest rm_X9_fewest D ky sz [.ref aM] (w_model ky aM mxs mus mys mgp mtp mme mle mlt mkl mln msz mit mmv mrm mer mtd mat mwr mkn mmb mwa mra mbl mbh dxs dus dys dgp dtp dme dle dlt dkl dln dsz dit dmv) (w_model ky aM mxs mus mys mgp mtp mme mle mlt mkl mln msz mit mmv mrm mer mtd mat mwr mkn mmb mwa mra mbl mbh dxs dus dys dgp dtp res.2.1 res.2.2 dlt dkl dln dsz dit dmv) res.1 := by
  unfold MI
  refine Met.ofW (cc := cX9_fewest) (maxL := 2) (ret := (some .int)) (by decide) rfl ?_
  intro p e s m args below meth c s₁ B hml hv
  obtain ⟨rfl, hsz, hP, hK, hD0⟩ := hv
  have hx := B.exec
  have hb := B.bytes
  have hr := B.returns
  have hts := atoms_spec (ws := wsX9_fewest) B.pre
  have hown : s.vm.findClass RX9 = some m.cls := findClass_of_methodNamed B.named
  have hlocks := B.notSynchronized
  subst hsz
  have hD := hD0.self (sz := s.heap.size)
  generalize hAe : va_A (w_model ky aM mxs mus mys mgp mtp mme mle mlt mkl mln msz mit mmv mrm mer mtd mat mwr mkn mmb mwa mra mbl mbh dxs dus dys dgp dtp dme dle dlt dkl dln dsz dit dmv) s.heap.size = A at hD ⊢
  have hA : ∀ q : Nat, s.heap.size ≤ q → A q := fun q h => by rw [← hAe]; exact Or.inr h
  have hS : va_S A s.heap s.heap [] := va_S.rf
  have hP : va_P D vwCl (w_model ky aM mxs mus mys mgp mtp mme mle mlt mkl mln msz mit mmv mrm mer mtd mat mwr mkn mmb mwa mra mbl mbh dxs dus dys dgp dtp dme dle dlt dkl dln dsz dit dmv) s.heap := hP
  have hl := lv_entry ([.ref aM]) (n := 2) (Nat.le_of_ble_eq_true rfl)
  rw [lg_entry_eq]
  generalize (lg_sl ([.ref aM]) ++ List.replicate (2 - (lg_sl ([.ref aM])).length) Slot.unset).toArray = ls at hl ⊢
  have hl : lv_has ls 2 [(0, .ref aM)] := hl
  have C : cx p s m c ([.ref aM]).toArray D ky A cX9_fewest 2 wsX9_fewest RX9 := ⟨hx, hb, hml, hown, hts, hK, hA⟩
  have hQ : ∀ (pc : Nat) (H : Heap) (locs : List Loc) (ls : Array Slot), decode cX9_fewest pc = .ok (.ireturn, 1) → va_P D vwCl (w_model ky aM mxs mus mys mgp mtp mme mle mlt mkl mln msz mit mmv mrm mer mtd mat mwr mkn mmb mwa mra mbl mbh dxs dus dys dgp dtp res.2.1 res.2.2 dlt dkl dln dsz dit dmv) H → va_D A (w_model ky aM mxs mus mys mgp mtp mme mle mlt mkl mln msz mit mmv mrm mer mtd mat mwr mkn mmb mwa mra mbl mbh dxs dus dys dgp dtp res.2.1 res.2.2 dlt dkl dln dsz dit dmv) → va_S A s.heap H locs → W p l e rm_X9_fewest s m ([.ref aM]).toArray below meth c H locs 0 0 (MQ below (va_Qi (S := Unit) (fun r _ => r = res.1) (fun _ t => va_P D vwCl (w_model ky aM mxs mus mys mgp mtp mme mle mlt mkl mln msz mit mmv mrm mer mtd mat mwr mkn mmb mwa mra mbl mbh dxs dus dys dgp dtp res.2.1 res.2.2 dlt dkl dln dsz dit dmv) t.heap ∧ va_K D vwCl (tyW ky) t ∧ va_D A (w_model ky aM mxs mus mys mgp mtp mme mle mlt mkl mln msz mit mmv mrm mer mtd mat mwr mkn mmb mwa mra mbl mbh dxs dus dys dgp dtp res.2.1 res.2.2 dlt dkl dln dsz dit dmv)) A) ([.ref aM]).toArray s 0 0 A) (F0 m pc ls [.int res.1]) := fun pc H locs ls hd hP hD hS => W.iret hx hb hr (fun t ht hW => ⟨⟨res.1, (), rfl, rfl, by rw [ht]; exact hP, va_K.moved hW.alike hK, hD⟩, hS.F ht⟩) hS.2.2 hd
  unfold f_X9_fewest at hF
  refine lv_aload_n hx hb dX9_fewest_0 rfl (lv_at hl 0 rfl) ?_
  obtain ⟨v2, v3, h1, hF⟩ := b2_s hF
  refine cl_vv (As := []) (rest := []) (w' := (w_model ky aM mxs mus mys mgp mtp mme mle mlt mkl mln msz mit mmv mrm mer mtd mat mwr mkn mmb mwa mra mbl mbh dxs dus dys dgp dtp v2 v3 dlt dkl dln dsz dit dmv)) ⟨hx, hb, hml, hown, hts⟩ hK hP hD hS hA (c_X9_tables l D ky aM mxs mus mys mgp mtp mme mle mlt mkl mln msz mit mmv _ N  mrm mer mtd mat mwr mkn mmb mwa mra mbl mbh dxs dus dys dgp dtp dme dle dlt dkl dln dsz dit dmv  v2 v3 h1) (cwV 0 hts gX9_fewest_X9_tables rfl rfl rfl (by decide +kernel) ⟨Nat.le_of_ble_eq_true rfl, Nat.le_of_ble_eq_true rfl⟩) [0, 1, 2, 3, 4, 5, 6, 7, 8, 9, 10, 11, 12, 13] [] [0, 1, 2, 3, 4, 5, 6, 7, 8, 9, 10, 11, 12, 13] 0 8 rfl rfl rfl rfl (wr := []) rfl (by decide) rfl rfl hl.1 (Nat.le_of_ble_eq_true rfl) dX9_fewest_1 ⟨Nat.zero_le _, Nat.zero_le _⟩ (fun H locs hP hD hS => ?_)
  refine lv_aload_n hx hb dX9_fewest_4 rfl (lv_at hl 0 rfl) ?_
  refine va_get (D := D) (ci := 8) (v := .ref mle) (C := RX9) (T := TX9) (N := 24) hx hb hts iX9_fewest_X9 hown hK hP 0 rfl rfl 11 (by decide) (hts _ kX9_fewest_1) (fun _ h9 => h9) rfl dX9_fewest_5 ?_
  refine lv_iconst (v := (1 : Int32)) hx hb dX9_fewest_8 (by decide) ?_
  refine lv_aload_n hx hb dX9_fewest_9 rfl (lv_at hl 0 rfl) ?_
  refine va_get (D := D) (ci := 8) (v := .int mrm) (C := RX9) (T := TX9) (N := 24) hx hb hts iX9_fewest_X9 hown hK hP 0 rfl rfl 0 (by decide) (hts _ kX9_fewest_2) (fun _ h9 => h9) rfl dX9_fewest_10 ?_
  refine lv_ishl hx hb dX9_fewest_13 ?_
  refine lv_iconst (v := (1 : Int32)) hx hb dX9_fewest_14 (by decide) ?_
  refine lv_isub hx hb dX9_fewest_15 ?_
  obtain ⟨h4, hF⟩ := gi_s hF
  refine va_iald hx hb hK hP 7 0 rfl rfl h4 dX9_fewest_16 ?_
  refine lv_topi (fun v5 e_v5 => ?_)
  have hF := nm_s e_v5 hF
  refine lv_istore_n (lv' := [(1, .int v5), (0, .ref aM)]) hx hb dX9_fewest_17 rfl hl (by decide) rfl (fun ls hl => ?_)
  refine lv_iload_n hx hb dX9_fewest_18 rfl (lv_at hl 0 rfl) ?_
  refine lv_bipush (v := (100 : Int32)) hx hb dX9_fewest_19 (by decide) ?_
  refine lv_icmp_lt (tgt := 29) hx hb dX9_fewest_21 (by decide) (fun c6 => ?_) (fun c6 => ?_)
  · have hF := if_t c6 hF
    refine lv_iload_n hx hb dX9_fewest_29 rfl (lv_at hl 0 rfl) ?_
    have hF := Option.some.inj hF
    subst hF
    exact hQ _ _ _ _ dX9_fewest_30 hP hD hS
  · have hF := if_f c6 hF
    refine lv_bipush (v := (-4 : Int32)) hx hb dX9_fewest_24 (by decide) ?_
    refine lv_goto (tgt := 30) hx hb dX9_fewest_26 (by decide) ?_
    have hF := Option.some.inj hF
    subst hF
    exact hQ _ _ _ _ dX9_fewest_30 hP hD hS
theorem c_X9_fewest (l : Launch) (D : va_G) (ky : Nat → ClassId) (aM mxs mus mys mgp mtp mme mle mlt mkl mln msz mit mmv : Nat) (sz N : Nat)  (mrm : Int32) (mer : Int32) (mtd : Int32) (mat : Int32) (mwr : Int32) (mkn : Int32) (mmb : Int32) (mwa : Int32) (mra : Int32) (mbl : Int32) (mbh : Int32) (dxs : Nat → Int32) (dus : Nat → Int32) (dys : Nat → Int32) (dgp : Nat → Int32) (dtp : Nat → Int32) (dme : Nat → Int32) (dle : Nat → Int32) (dlt : Nat → Int32) (dkl : Nat → Int32) (dln : Nat → Int32) (dsz : Nat → Int32) (dit : Nat → Int32) (dmv : Nat → Int32)  (rv : Int32) (dme' : Nat → Int32) (dle' : Nat → Int32) (hF : f_X9_fewest N mrm mer dxs dus dys dgp dme dle = some (rv, dme', dle')) : MI l yX9_fewest wsX9_fewest rm_X9_fewest D ky sz [.ref aM] (w_model ky aM mxs mus mys mgp mtp mme mle mlt mkl mln msz mit mmv mrm mer mtd mat mwr mkn mmb mwa mra mbl mbh dxs dus dys dgp dtp dme dle dlt dkl dln dsz dit dmv) (w_model ky aM mxs mus mys mgp mtp mme mle mlt mkl mln msz mit mmv mrm mer mtd mat mwr mkn mmb mwa mra mbl mbh dxs dus dys dgp dtp dme' dle' dlt dkl dln dsz dit dmv) rv :=
  cr_X9_fewest l D ky aM mxs mus mys mgp mtp mme mle mlt mkl mln msz mit mmv sz N mrm mer mtd mat mwr mkn mmb mwa mra mbl mbh dxs dus dys dgp dtp dme dle dlt dkl dln dsz dit dmv (rv, dme', dle') hF
abbrev rm_X9_letGo : Room := { frames := 4, cells := 0, slots := 0, locals := 97 }
theorem kX9_letGo_0 : (Cond.constantLong RX9 168 (6)) ∈ wsX9_letGo := by decide +kernel
theorem iX9_letGo_X9 : ∀ w ∈ wsX90, w ∈ wsX9_letGo := by decide +kernel
theorem kX9_letGo_2 : (Cond.fieldLink RX9 62 "TwoLawsModel" "rowMany" "I") ∈ wsX9_letGo := by decide +kernel
theorem kX9_letGo_3 : (Cond.fieldLink RX9 33 "TwoLawsModel" "least" "[I") ∈ wsX9_letGo := by decide +kernel
set_option maxHeartbeats 4000000 in
set_option maxRecDepth 100000 in
theorem w_X9_letGo_87 {p : Program} {l : Launch} {e : Env} {s : State} {m : MethodId} {args : Array Value} {below : List Frame} {meth : Method} {c : Code} {Q : State → Prop} {A : Nat → Prop} {D : va_G} {ky : Nat → ClassId} {aM mxs mus mys mgp mtp mme mle mlt mkl mln msz mit mmv : Nat} {mrm : Int32} {mer : Int32} {mtd : Int32} {mat : Int32} {mwr : Int32} {mkn : Int32} {mmb : Int32} {mwa : Int32} {mra : Int32} {mbl : Int32} {mbh : Int32} {dxs : Nat → Int32} {dus : Nat → Int32} {dys : Nat → Int32} {dgp : Nat → Int32} {dtp : Nat → Int32} {dlt : Nat → Int32} {dkl : Nat → Int32} {dln : Nat → Int32} {dsz : Nat → Int32} {dit : Nat → Int32} {dmv : Nat → Int32} (N : Nat) (C : cx p s m c args D ky A cX9_letGo 7 wsX9_letGo RX9) (res : Int32 × (Nat → Int32) × (Nat → Int32)) (hQ : ∀ (pc : Nat) (H : Heap) (locs : List Loc) (ls : Array Slot), decode cX9_letGo pc = .ok (.ireturn, 1) → va_P D vwCl (w_model ky aM mxs mus mys mgp mtp mme mle mlt mkl mln msz mit mmv mrm mer mtd mat mwr mkn mmb mwa mra mbl mbh dxs dus dys dgp dtp res.2.1 res.2.2 dlt dkl dln dsz dit dmv) H → va_D A (w_model ky aM mxs mus mys mgp mtp mme mle mlt mkl mln msz mit mmv mrm mer mtd mat mwr mkn mmb mwa mra mbl mbh dxs dus dys dgp dtp res.2.1 res.2.2 dlt dkl dln dsz dit dmv) → va_S A s.heap H locs → W p l e rm_X9_letGo s m args below meth c H locs 0 0 Q (F0 m pc ls [.int res.1])) (l1 : Int32) (l2 : Int32) (l3 : Int32) (dme : Nat → Int32) (dle : Nat → Int32) (k43 : Int32 → Int32 → Option (Int32 × (Nat → Int32) × (Nat → Int32))) (hk43 : ∀ (l4 : Int32) (l5 : Int32), k43 l4 l5 = some res → ∀ (H : Heap) (locs : List Loc) (ls : Array Slot), va_P D vwCl (w_model ky aM mxs mus mys mgp mtp mme mle mlt mkl mln msz mit mmv mrm mer mtd mat mwr mkn mmb mwa mra mbl mbh dxs dus dys dgp dtp dme dle dlt dkl dln dsz dit dmv) H → va_D A (w_model ky aM mxs mus mys mgp mtp mme mle mlt mkl mln msz mit mmv mrm mer mtd mat mwr mkn mmb mwa mra mbl mbh dxs dus dys dgp dtp dme dle dlt dkl dln dsz dit dmv) → va_S A s.heap H locs → lv_has ls 7 [(0, .ref aM), (1, .int l1), (2, .int l2), (3, .int l3), (4, .int l4), (5, .int l5)] → W p l e rm_X9_letGo s m args below meth c H locs 0 0 Q (F0 m 43 ls [])) (l4 : Int32) (l5 : Int32) (t0 : Int32) (hF : f_X9_letGo_87 N k43 l1 l2 l3 l4 l5 t0 dme dle = some res) : ∀ (H : Heap) (locs : List Loc) (ls : Array Slot), va_P D vwCl (w_model ky aM mxs mus mys mgp mtp mme mle mlt mkl mln msz mit mmv mrm mer mtd mat mwr mkn mmb mwa mra mbl mbh dxs dus dys dgp dtp dme dle dlt dkl dln dsz dit dmv) H → va_D A (w_model ky aM mxs mus mys mgp mtp mme mle mlt mkl mln msz mit mmv mrm mer mtd mat mwr mkn mmb mwa mra mbl mbh dxs dus dys dgp dtp dme dle dlt dkl dln dsz dit dmv) → va_S A s.heap H locs → lv_has ls 7 [(0, .ref aM), (1, .int l1), (2, .int l2), (3, .int l3), (4, .int l4), (5, .int l5)] → W p l e rm_X9_letGo s m args below meth c H locs 0 0 Q (F0 m 87 ls [.int t0]) := by
  obtain ⟨hx, hb, hml, hown, hts, hK, hA⟩ := id C
  intro H locs ls hP hD hS hl
  unfold f_X9_letGo_87 at hF
  refine lv_istore (lv' := [(6, .int t0), (0, .ref aM), (1, .int l1), (2, .int l2), (3, .int l3), (4, .int l4), (5, .int l5)]) hx hb dX9_letGo_87 hl (by decide) rfl (fun ls hl => ?_)
  refine lv_iload hx hb dX9_letGo_89 (lv_at hl 0 rfl) ?_
  refine lv_if_eq (tgt := 114) hx hb dX9_letGo_91 (by decide) (fun c25 => ?_) (fun c25 => ?_)
  · have hF := if_t c25 hF
    refine lv_iload hx hb dX9_letGo_114 (lv_at hl 5 rfl) ?_
    refine lv_istore (lv' := [(4, .int l4), (6, .int t0), (0, .ref aM), (1, .int l1), (2, .int l2), (3, .int l3), (5, .int l5)]) hx hb dX9_letGo_116 hl (by decide) rfl (fun ls hl => ?_)
    refine lv_iinc (v := (l5 + (1 : Int32))) (lv' := [(5, .int (l5 + (1 : Int32))), (4, .int l4), (6, .int t0), (0, .ref aM), (1, .int l1), (2, .int l2), (3, .int l3)]) hx hb dX9_letGo_118 hl (k := 6) rfl rfl (by decide) rfl (fun ls hl => ?_)
    refine lv_goto (tgt := 43) hx hb dX9_letGo_121 (by decide) ?_
    exact hk43 l4 (l5 + (1 : Int32)) hF H _ _ hP hD hS (lv_sub hl [3, 4, 5, 6, 1, 0] rfl)
  · have hF := if_f c25 hF
    refine lv_aload_n hx hb dX9_letGo_94 rfl (lv_at hl 1 rfl) ?_
    refine va_get (D := D) (ci := 8) (v := .ref mle) (C := RX9) (T := TX9) (N := 24) hx hb hts iX9_letGo_X9 hown hK hP 0 rfl rfl 11 (by decide) (hts _ kX9_letGo_3) (fun _ h9 => h9) rfl dX9_letGo_95 ?_
    refine lv_iload_n hx hb dX9_letGo_98 rfl (lv_at hl 4 rfl) ?_
    refine lv_iload hx hb dX9_letGo_99 (lv_at hl 6 rfl) ?_
    refine lv_iconst (v := (-1 : Int32)) hx hb dX9_letGo_101 (by decide) ?_
    refine lv_ixor hx hb dX9_letGo_102 ?_
    refine lv_iand hx hb dX9_letGo_103 ?_
    obtain ⟨h26, hF⟩ := gi_s hF
    refine va_iald hx hb hK hP 7 0 rfl rfl h26 dX9_letGo_104 ?_
    refine lv_iload_n hx hb dX9_letGo_105 rfl (lv_at hl 2 rfl) ?_
    refine lv_icmp_gt (tgt := 114) hx hb dX9_letGo_106 (by decide) (fun c27 => ?_) (fun c27 => ?_)
    · have hF := if_t c27 hF
      refine lv_iload hx hb dX9_letGo_114 (lv_at hl 5 rfl) ?_
      refine lv_istore (lv' := [(4, .int l4), (6, .int t0), (0, .ref aM), (1, .int l1), (2, .int l2), (3, .int l3), (5, .int l5)]) hx hb dX9_letGo_116 hl (by decide) rfl (fun ls hl => ?_)
      refine lv_iinc (v := (l5 + (1 : Int32))) (lv' := [(5, .int (l5 + (1 : Int32))), (4, .int l4), (6, .int t0), (0, .ref aM), (1, .int l1), (2, .int l2), (3, .int l3)]) hx hb dX9_letGo_118 hl (k := 6) rfl rfl (by decide) rfl (fun ls hl => ?_)
      refine lv_goto (tgt := 43) hx hb dX9_letGo_121 (by decide) ?_
      exact hk43 l4 (l5 + (1 : Int32)) hF H _ _ hP hD hS (lv_sub hl [3, 4, 5, 6, 1, 0] rfl)
    · have hF := if_f c27 hF
      refine lv_iload hx hb dX9_letGo_109 (lv_at hl 6 rfl) ?_
      refine lv_goto (tgt := 116) hx hb dX9_letGo_111 (by decide) ?_
      refine lv_istore (lv' := [(4, .int l5), (6, .int t0), (0, .ref aM), (1, .int l1), (2, .int l2), (3, .int l3), (5, .int l5)]) hx hb dX9_letGo_116 hl (by decide) rfl (fun ls hl => ?_)
      refine lv_iinc (v := (l5 + (1 : Int32))) (lv' := [(5, .int (l5 + (1 : Int32))), (4, .int l5), (6, .int t0), (0, .ref aM), (1, .int l1), (2, .int l2), (3, .int l3)]) hx hb dX9_letGo_118 hl (k := 6) rfl rfl (by decide) rfl (fun ls hl => ?_)
      refine lv_goto (tgt := 43) hx hb dX9_letGo_121 (by decide) ?_
      exact hk43 l5 (l5 + (1 : Int32)) hF H _ _ hP hD hS (lv_sub hl [3, 4, 5, 6, 1, 0] rfl)
set_option maxHeartbeats 4000000 in
set_option maxRecDepth 100000 in
theorem w_X9_letGo_43 {p : Program} {l : Launch} {e : Env} {s : State} {m : MethodId} {args : Array Value} {below : List Frame} {meth : Method} {c : Code} {Q : State → Prop} {A : Nat → Prop} {D : va_G} {ky : Nat → ClassId} {aM mxs mus mys mgp mtp mme mle mlt mkl mln msz mit mmv : Nat} {mrm : Int32} {mer : Int32} {mtd : Int32} {mat : Int32} {mwr : Int32} {mkn : Int32} {mmb : Int32} {mwa : Int32} {mra : Int32} {mbl : Int32} {mbh : Int32} {dxs : Nat → Int32} {dus : Nat → Int32} {dys : Nat → Int32} {dgp : Nat → Int32} {dtp : Nat → Int32} {dlt : Nat → Int32} {dkl : Nat → Int32} {dln : Nat → Int32} {dsz : Nat → Int32} {dit : Nat → Int32} {dmv : Nat → Int32} (N : Nat) (C : cx p s m c args D ky A cX9_letGo 7 wsX9_letGo RX9) (res : Int32 × (Nat → Int32) × (Nat → Int32)) (hQ : ∀ (pc : Nat) (H : Heap) (locs : List Loc) (ls : Array Slot), decode cX9_letGo pc = .ok (.ireturn, 1) → va_P D vwCl (w_model ky aM mxs mus mys mgp mtp mme mle mlt mkl mln msz mit mmv mrm mer mtd mat mwr mkn mmb mwa mra mbl mbh dxs dus dys dgp dtp res.2.1 res.2.2 dlt dkl dln dsz dit dmv) H → va_D A (w_model ky aM mxs mus mys mgp mtp mme mle mlt mkl mln msz mit mmv mrm mer mtd mat mwr mkn mmb mwa mra mbl mbh dxs dus dys dgp dtp res.2.1 res.2.2 dlt dkl dln dsz dit dmv) → va_S A s.heap H locs → W p l e rm_X9_letGo s m args below meth c H locs 0 0 Q (F0 m pc ls [.int res.1])) (l1 : Int32) (l2 : Int32) (l3 : Int32) (dme : Nat → Int32) (dle : Nat → Int32) : ∀ (n : Nat) (l4 : Int32) (l5 : Int32), f_X9_letGo_43 N l1 l2 l3 dme dle n l4 l5 = some res → ∀ (H : Heap) (locs : List Loc) (ls : Array Slot), va_P D vwCl (w_model ky aM mxs mus mys mgp mtp mme mle mlt mkl mln msz mit mmv mrm mer mtd mat mwr mkn mmb mwa mra mbl mbh dxs dus dys dgp dtp dme dle dlt dkl dln dsz dit dmv) H → va_D A (w_model ky aM mxs mus mys mgp mtp mme mle mlt mkl mln msz mit mmv mrm mer mtd mat mwr mkn mmb mwa mra mbl mbh dxs dus dys dgp dtp dme dle dlt dkl dln dsz dit dmv) → va_S A s.heap H locs → lv_has ls 7 [(0, .ref aM), (1, .int l1), (2, .int l2), (3, .int l3), (4, .int l4), (5, .int l5)] → W p l e rm_X9_letGo s m args below meth c H locs 0 0 Q (F0 m 43 ls []) := by
  obtain ⟨hx, hb, hml, hown, hts, hK, hA⟩ := id C
  intro n
  induction n with
  | zero =>
    intro l4 l5 hF
    cases hF
  | succ n ih =>
    intro l4 l5 hF H locs ls hP hD hS hl
    have hF : b_X9_letGo_43 N l1 l2 l3 dme dle (f_X9_letGo_43 N l1 l2 l3 dme dle n) l4 l5 = some res := hF
    unfold b_X9_letGo_43 at hF
    refine lv_iload hx hb dX9_letGo_43 (lv_at hl 5 rfl) ?_
    refine lv_iload_n hx hb dX9_letGo_45 rfl (lv_at hl 3 rfl) ?_
    refine lv_icmp_gt (tgt := 124) hx hb dX9_letGo_46 (by decide) (fun c10 => ?_) (fun c10 => ?_)
    · have hF := if_t c10 hF
      refine lv_iload_n hx hb dX9_letGo_124 rfl (lv_at hl 2 rfl) ?_
      refine lv_if_ne (tgt := 136) hx hb dX9_letGo_125 (by decide) (fun c11 => ?_) (fun c11 => ?_)
      · have hF := if_f c11 hF
        refine lv_iload hx hb dX9_letGo_136 (lv_at hl 4 rfl) ?_
        have hF := Option.some.inj hF
        subst hF
        exact hQ _ H _ _ dX9_letGo_138 hP hD hS
      · have hF := if_t c11 hF
        refine lv_iload hx hb dX9_letGo_128 (lv_at hl 4 rfl) ?_
        obtain ⟨r13, h12, hF⟩ := b1_s hF
        refine cl_si (As := [.int l4]) (rest := []) ⟨hx, hb, hml, hown, hts⟩ hK hP hD hS hA (c_X9_size l D ky  _ N   l4 r13 h12) (va_cwS 1 hts gX9_letGo_X9_size rfl rfl rfl (by decide +kernel) ⟨Nat.le_of_ble_eq_true rfl, Nat.le_of_ble_eq_true rfl⟩) rfl hl.1 (Nat.le_of_ble_eq_true rfl) dX9_letGo_130 ⟨Nat.zero_le _, Nat.zero_le _⟩ (fun H locs hP hD hS => ?_)
        refine lv_goto (tgt := 138) hx hb dX9_letGo_133 (by decide) ?_
        have hF := Option.some.inj hF
        subst hF
        exact hQ _ H _ _ dX9_letGo_138 hP hD hS
    · have hF := if_f c10 hF
      refine lv_iload hx hb dX9_letGo_49 (lv_at hl 5 rfl) ?_
      obtain ⟨r15, h14, hF⟩ := b1_s hF
      refine cl_si (As := [.int l5]) (rest := []) ⟨hx, hb, hml, hown, hts⟩ hK hP hD hS hA (c_X9_size l D ky  _ N   l5 r15 h14) (va_cwS 1 hts gX9_letGo_X9_size rfl rfl rfl (by decide +kernel) ⟨Nat.le_of_ble_eq_true rfl, Nat.le_of_ble_eq_true rfl⟩) rfl hl.1 (Nat.le_of_ble_eq_true rfl) dX9_letGo_51 ⟨Nat.zero_le _, Nat.zero_le _⟩ (fun H locs hP hD hS => ?_)
      refine lv_iload hx hb dX9_letGo_54 (lv_at hl 4 rfl) ?_
      obtain ⟨r17, h16, hF⟩ := b1_s hF
      refine cl_si (As := [.int l4]) (rest := [.int r15]) ⟨hx, hb, hml, hown, hts⟩ hK hP hD hS hA (c_X9_size l D ky  _ N   l4 r17 h16) (va_cwS 1 hts gX9_letGo_X9_size rfl rfl rfl (by decide +kernel) ⟨Nat.le_of_ble_eq_true rfl, Nat.le_of_ble_eq_true rfl⟩) rfl hl.1 (Nat.le_of_ble_eq_true rfl) dX9_letGo_56 ⟨Nat.zero_le _, Nat.zero_le _⟩ (fun H locs hP hD hS => ?_)
      refine lv_icmp_lt (tgt := 82) hx hb dX9_letGo_59 (by decide) (fun c18 => ?_) (fun c18 => ?_)
      · have hF := if_t c18 hF
        refine lv_iconst (v := (1 : Int32)) hx hb dX9_letGo_82 (by decide) ?_
        refine lv_goto (tgt := 87) hx hb dX9_letGo_83 (by decide) ?_
        exact w_X9_letGo_87 N C res hQ l1 l2 l3 dme dle _ ih l4 l5 (1 : Int32) hF H _ _ hP hD hS (lv_sub hl [0, 1, 2, 3, 4, 5] rfl)
      · have hF := if_f c18 hF
        refine lv_iload hx hb dX9_letGo_62 (lv_at hl 5 rfl) ?_
        obtain ⟨r20, h19, hF⟩ := b1_s hF
        refine cl_si (As := [.int l5]) (rest := []) ⟨hx, hb, hml, hown, hts⟩ hK hP hD hS hA (c_X9_size l D ky  _ N   l5 r20 h19) (va_cwS 1 hts gX9_letGo_X9_size rfl rfl rfl (by decide +kernel) ⟨Nat.le_of_ble_eq_true rfl, Nat.le_of_ble_eq_true rfl⟩) rfl hl.1 (Nat.le_of_ble_eq_true rfl) dX9_letGo_64 ⟨Nat.zero_le _, Nat.zero_le _⟩ (fun H locs hP hD hS => ?_)
        refine lv_iload hx hb dX9_letGo_67 (lv_at hl 4 rfl) ?_
        obtain ⟨r22, h21, hF⟩ := b1_s hF
        refine cl_si (As := [.int l4]) (rest := [.int r20]) ⟨hx, hb, hml, hown, hts⟩ hK hP hD hS hA (c_X9_size l D ky  _ N   l4 r22 h21) (va_cwS 1 hts gX9_letGo_X9_size rfl rfl rfl (by decide +kernel) ⟨Nat.le_of_ble_eq_true rfl, Nat.le_of_ble_eq_true rfl⟩) rfl hl.1 (Nat.le_of_ble_eq_true rfl) dX9_letGo_69 ⟨Nat.zero_le _, Nat.zero_le _⟩ (fun H locs hP hD hS => ?_)
        refine lv_icmp_ne (tgt := 86) hx hb dX9_letGo_72 (by decide) (fun c23 => ?_) (fun c23 => ?_)
        · have hF := if_f c23 hF
          refine lv_iconst (v := (0 : Int32)) hx hb dX9_letGo_86 (by decide) ?_
          exact w_X9_letGo_87 N C res hQ l1 l2 l3 dme dle _ ih l4 l5 (0 : Int32) hF H _ _ hP hD hS (lv_sub hl [0, 1, 2, 3, 4, 5] rfl)
        · have hF := if_t c23 hF
          refine lv_iload hx hb dX9_letGo_75 (lv_at hl 5 rfl) ?_
          refine lv_iload hx hb dX9_letGo_77 (lv_at hl 4 rfl) ?_
          refine lv_icmp_ge (tgt := 86) hx hb dX9_letGo_79 (by decide) (fun c24 => ?_) (fun c24 => ?_)
          · have hF := if_t c24 hF
            refine lv_iconst (v := (0 : Int32)) hx hb dX9_letGo_86 (by decide) ?_
            exact w_X9_letGo_87 N C res hQ l1 l2 l3 dme dle _ ih l4 l5 (0 : Int32) hF H _ _ hP hD hS (lv_sub hl [0, 1, 2, 3, 4, 5] rfl)
          · have hF := if_f c24 hF
            refine lv_iconst (v := (1 : Int32)) hx hb dX9_letGo_82 (by decide) ?_
            refine lv_goto (tgt := 87) hx hb dX9_letGo_83 (by decide) ?_
            exact w_X9_letGo_87 N C res hQ l1 l2 l3 dme dle _ ih l4 l5 (1 : Int32) hF H _ _ hP hD hS (lv_sub hl [0, 1, 2, 3, 4, 5] rfl)
set_option maxHeartbeats 4000000 in
set_option maxRecDepth 100000 in
theorem cr_X9_letGo (l : Launch) (D : va_G) (ky : Nat → ClassId) (aM mxs mus mys mgp mtp mme mle mlt mkl mln msz mit mmv : Nat) (sz N : Nat)  (mrm : Int32) (mer : Int32) (mtd : Int32) (mat : Int32) (mwr : Int32) (mkn : Int32) (mmb : Int32) (mwa : Int32) (mra : Int32) (mbl : Int32) (mbh : Int32) (dxs : Nat → Int32) (dus : Nat → Int32) (dys : Nat → Int32) (dgp : Nat → Int32) (dtp : Nat → Int32) (dme : Nat → Int32) (dle : Nat → Int32) (dlt : Nat → Int32) (dkl : Nat → Int32) (dln : Nat → Int32) (dsz : Nat → Int32) (dit : Nat → Int32) (dmv : Nat → Int32) (p0 : Int32) (p1 : Int32) (res : Int32 × (Nat → Int32) × (Nat → Int32)) (hF : f_X9_letGo N p0 p1 mrm mer dxs dus dys dgp dme dle = some res) : MI l yX9_letGo wsX9_letGo rm_X9_letGo D ky sz [.ref aM, .int p0, .int p1] (w_model ky aM mxs mus mys mgp mtp mme mle mlt mkl mln msz mit mmv mrm mer mtd mat mwr mkn mmb mwa mra mbl mbh dxs dus dys dgp dtp dme dle dlt dkl dln dsz dit dmv) (w_model ky aM mxs mus mys mgp mtp mme mle mlt mkl mln msz mit mmv mrm mer mtd mat mwr mkn mmb mwa mra mbl mbh dxs dus dys dgp dtp res.2.1 res.2.2 dlt dkl dln dsz dit dmv) res.1 := by
  unfold MI
  refine Met.ofW (cc := cX9_letGo) (maxL := 7) (ret := (some .int)) (by decide) rfl ?_
  intro p e s m args below meth c s₁ B hml hv
  obtain ⟨rfl, hsz, hP, hK, hD0⟩ := hv
  have hx := B.exec
  have hb := B.bytes
  have hr := B.returns
  have hts := atoms_spec (ws := wsX9_letGo) B.pre
  have hown : s.vm.findClass RX9 = some m.cls := findClass_of_methodNamed B.named
  have hlocks := B.notSynchronized
  subst hsz
  have hD := hD0.self (sz := s.heap.size)
  generalize hAe : va_A (w_model ky aM mxs mus mys mgp mtp mme mle mlt mkl mln msz mit mmv mrm mer mtd mat mwr mkn mmb mwa mra mbl mbh dxs dus dys dgp dtp dme dle dlt dkl dln dsz dit dmv) s.heap.size = A at hD ⊢
  have hA : ∀ q : Nat, s.heap.size ≤ q → A q := fun q h => by rw [← hAe]; exact Or.inr h
  have hS : va_S A s.heap s.heap [] := va_S.rf
  have hP : va_P D vwCl (w_model ky aM mxs mus mys mgp mtp mme mle mlt mkl mln msz mit mmv mrm mer mtd mat mwr mkn mmb mwa mra mbl mbh dxs dus dys dgp dtp dme dle dlt dkl dln dsz dit dmv) s.heap := hP
  have hl := lv_entry ([.ref aM, .int p0, .int p1]) (n := 7) (Nat.le_of_ble_eq_true rfl)
  rw [lg_entry_eq]
  generalize (lg_sl ([.ref aM, .int p0, .int p1]) ++ List.replicate (7 - (lg_sl ([.ref aM, .int p0, .int p1])).length) Slot.unset).toArray = ls at hl ⊢
  have hl : lv_has ls 7 [(0, .ref aM), (1, .int p0), (2, .int p1)] := hl
  have C : cx p s m c ([.ref aM, .int p0, .int p1]).toArray D ky A cX9_letGo 7 wsX9_letGo RX9 := ⟨hx, hb, hml, hown, hts, hK, hA⟩
  have hQ : ∀ (pc : Nat) (H : Heap) (locs : List Loc) (ls : Array Slot), decode cX9_letGo pc = .ok (.ireturn, 1) → va_P D vwCl (w_model ky aM mxs mus mys mgp mtp mme mle mlt mkl mln msz mit mmv mrm mer mtd mat mwr mkn mmb mwa mra mbl mbh dxs dus dys dgp dtp res.2.1 res.2.2 dlt dkl dln dsz dit dmv) H → va_D A (w_model ky aM mxs mus mys mgp mtp mme mle mlt mkl mln msz mit mmv mrm mer mtd mat mwr mkn mmb mwa mra mbl mbh dxs dus dys dgp dtp res.2.1 res.2.2 dlt dkl dln dsz dit dmv) → va_S A s.heap H locs → W p l e rm_X9_letGo s m ([.ref aM, .int p0, .int p1]).toArray below meth c H locs 0 0 (MQ below (va_Qi (S := Unit) (fun r _ => r = res.1) (fun _ t => va_P D vwCl (w_model ky aM mxs mus mys mgp mtp mme mle mlt mkl mln msz mit mmv mrm mer mtd mat mwr mkn mmb mwa mra mbl mbh dxs dus dys dgp dtp res.2.1 res.2.2 dlt dkl dln dsz dit dmv) t.heap ∧ va_K D vwCl (tyW ky) t ∧ va_D A (w_model ky aM mxs mus mys mgp mtp mme mle mlt mkl mln msz mit mmv mrm mer mtd mat mwr mkn mmb mwa mra mbl mbh dxs dus dys dgp dtp res.2.1 res.2.2 dlt dkl dln dsz dit dmv)) A) ([.ref aM, .int p0, .int p1]).toArray s 0 0 A) (F0 m pc ls [.int res.1]) := fun pc H locs ls hd hP hD hS => W.iret hx hb hr (fun t ht hW => ⟨⟨res.1, (), rfl, rfl, by rw [ht]; exact hP, va_K.moved hW.alike hK, hD⟩, hS.F ht⟩) hS.2.2 hd
  unfold f_X9_letGo at hF
  refine lv_iload_n hx hb dX9_letGo_0 rfl (lv_at hl 1 rfl) ?_
  refine lv_i2l (v := (p0.toInt64)) hx hb dX9_letGo_1 rfl ?_
  refine lv_lconst (v := (0 : Int64)) hx hb dX9_letGo_2 (by decide) ?_
  refine lv_ldc2 hx hb hown (hts _ kX9_letGo_0) dX9_letGo_3 ?_
  obtain ⟨r2, h1, hF⟩ := b1_s hF
  refine cl_si (As := [.long (p0.toInt64), .long (0 : Int64), .long (6 : Int64)]) (rest := []) ⟨hx, hb, hml, hown, hts⟩ hK hP hD hS hA (c_X9_in l D ky  _ N   (p0.toInt64) (0 : Int64) (6 : Int64) r2 h1) (va_cwS 3 hts gX9_letGo_X9_in rfl rfl rfl (by decide +kernel) ⟨Nat.le_of_ble_eq_true rfl, Nat.le_of_ble_eq_true rfl⟩) rfl hl.1 (Nat.le_of_ble_eq_true rfl) dX9_letGo_6 ⟨Nat.zero_le _, Nat.zero_le _⟩ (fun H locs hP hD hS => ?_)
  refine lv_if_eq (tgt := 22) hx hb dX9_letGo_9 (by decide) (fun c3 => ?_) (fun c3 => ?_)
  · have hF := if_t c3 hF
    refine lv_iconst (v := (-1 : Int32)) hx hb dX9_letGo_22 (by decide) ?_
    have hF := Option.some.inj hF
    subst hF
    exact hQ _ _ _ _ dX9_letGo_23 hP hD hS
  · have hF := if_f c3 hF
    refine lv_iload_n hx hb dX9_letGo_12 rfl (lv_at hl 2 rfl) ?_
    refine lv_i2l (v := (p1.toInt64)) hx hb dX9_letGo_13 rfl ?_
    refine lv_lconst (v := (0 : Int64)) hx hb dX9_letGo_14 (by decide) ?_
    refine lv_lconst (v := (1 : Int64)) hx hb dX9_letGo_15 (by decide) ?_
    obtain ⟨r5, h4, hF⟩ := b1_s hF
    refine cl_si (As := [.long (p1.toInt64), .long (0 : Int64), .long (1 : Int64)]) (rest := []) ⟨hx, hb, hml, hown, hts⟩ hK hP hD hS hA (c_X9_in l D ky  _ N   (p1.toInt64) (0 : Int64) (1 : Int64) r5 h4) (va_cwS 3 hts gX9_letGo_X9_in rfl rfl rfl (by decide +kernel) ⟨Nat.le_of_ble_eq_true rfl, Nat.le_of_ble_eq_true rfl⟩) rfl hl.1 (Nat.le_of_ble_eq_true rfl) dX9_letGo_16 ⟨Nat.zero_le _, Nat.zero_le _⟩ (fun H locs hP hD hS => ?_)
    refine lv_if_ne (tgt := 24) hx hb dX9_letGo_19 (by decide) (fun c6 => ?_) (fun c6 => ?_)
    · have hF := if_f c6 hF
      refine lv_aload_n hx hb dX9_letGo_24 rfl (lv_at hl 0 rfl) ?_
      obtain ⟨v8, v9, h7, hF⟩ := b2_s hF
      refine cl_vv (As := []) (rest := []) (w' := (w_model ky aM mxs mus mys mgp mtp mme mle mlt mkl mln msz mit mmv mrm mer mtd mat mwr mkn mmb mwa mra mbl mbh dxs dus dys dgp dtp v8 v9 dlt dkl dln dsz dit dmv)) ⟨hx, hb, hml, hown, hts⟩ hK hP hD hS hA (c_X9_tables l D ky aM mxs mus mys mgp mtp mme mle mlt mkl mln msz mit mmv _ N  mrm mer mtd mat mwr mkn mmb mwa mra mbl mbh dxs dus dys dgp dtp dme dle dlt dkl dln dsz dit dmv  v8 v9 h7) (cwV 0 hts gX9_letGo_X9_tables rfl rfl rfl (by decide +kernel) ⟨Nat.le_of_ble_eq_true rfl, Nat.le_of_ble_eq_true rfl⟩) [0, 1, 2, 3, 4, 5, 6, 7, 8, 9, 10, 11, 12, 13] [] [0, 1, 2, 3, 4, 5, 6, 7, 8, 9, 10, 11, 12, 13] 0 8 rfl rfl rfl rfl (wr := []) rfl (by decide) rfl rfl hl.1 (Nat.le_of_ble_eq_true rfl) dX9_letGo_25 ⟨Nat.zero_le _, Nat.zero_le _⟩ (fun H locs hP hD hS => ?_)
      refine lv_iconst (v := (1 : Int32)) hx hb dX9_letGo_28 (by decide) ?_
      refine lv_aload_n hx hb dX9_letGo_29 rfl (lv_at hl 0 rfl) ?_
      refine va_get (D := D) (ci := 8) (v := .int mrm) (C := RX9) (T := TX9) (N := 24) hx hb hts iX9_letGo_X9 hown hK hP 0 rfl rfl 0 (by decide) (hts _ kX9_letGo_2) (fun _ h9 => h9) rfl dX9_letGo_30 ?_
      refine lv_ishl hx hb dX9_letGo_33 ?_
      refine lv_iconst (v := (1 : Int32)) hx hb dX9_letGo_34 (by decide) ?_
      refine lv_isub hx hb dX9_letGo_35 ?_
      refine lv_istore_n (lv' := [(3, .int (((1 : Int32) <<< (mrm &&& 31)) - (1 : Int32))), (0, .ref aM), (1, .int p0), (2, .int p1)]) hx hb dX9_letGo_36 rfl hl (by decide) rfl (fun ls hl => ?_)
      refine lv_iload_n hx hb dX9_letGo_37 rfl (lv_at hl 0 rfl) ?_
      refine lv_istore (lv' := [(4, .int (((1 : Int32) <<< (mrm &&& 31)) - (1 : Int32))), (3, .int (((1 : Int32) <<< (mrm &&& 31)) - (1 : Int32))), (0, .ref aM), (1, .int p0), (2, .int p1)]) hx hb dX9_letGo_38 hl (by decide) rfl (fun ls hl => ?_)
      refine lv_iconst (v := (0 : Int32)) hx hb dX9_letGo_40 (by decide) ?_
      refine lv_istore (lv' := [(5, .int (0 : Int32)), (4, .int (((1 : Int32) <<< (mrm &&& 31)) - (1 : Int32))), (3, .int (((1 : Int32) <<< (mrm &&& 31)) - (1 : Int32))), (0, .ref aM), (1, .int p0), (2, .int p1)]) hx hb dX9_letGo_41 hl (by decide) rfl (fun ls hl => ?_)
      exact w_X9_letGo_43 N C res hQ p0 p1 (((1 : Int32) <<< (mrm &&& 31)) - (1 : Int32)) v8 v9 N (((1 : Int32) <<< (mrm &&& 31)) - (1 : Int32)) (0 : Int32) hF _ _ _ hP hD hS (lv_sub hl [3, 4, 5, 2, 1, 0] rfl)
    · have hF := if_t c6 hF
      refine lv_iconst (v := (-1 : Int32)) hx hb dX9_letGo_22 (by decide) ?_
      have hF := Option.some.inj hF
      subst hF
      exact hQ _ _ _ _ dX9_letGo_23 hP hD hS
theorem c_X9_letGo (l : Launch) (D : va_G) (ky : Nat → ClassId) (aM mxs mus mys mgp mtp mme mle mlt mkl mln msz mit mmv : Nat) (sz N : Nat)  (mrm : Int32) (mer : Int32) (mtd : Int32) (mat : Int32) (mwr : Int32) (mkn : Int32) (mmb : Int32) (mwa : Int32) (mra : Int32) (mbl : Int32) (mbh : Int32) (dxs : Nat → Int32) (dus : Nat → Int32) (dys : Nat → Int32) (dgp : Nat → Int32) (dtp : Nat → Int32) (dme : Nat → Int32) (dle : Nat → Int32) (dlt : Nat → Int32) (dkl : Nat → Int32) (dln : Nat → Int32) (dsz : Nat → Int32) (dit : Nat → Int32) (dmv : Nat → Int32) (p0 : Int32) (p1 : Int32) (rv : Int32) (dme' : Nat → Int32) (dle' : Nat → Int32) (hF : f_X9_letGo N p0 p1 mrm mer dxs dus dys dgp dme dle = some (rv, dme', dle')) : MI l yX9_letGo wsX9_letGo rm_X9_letGo D ky sz [.ref aM, .int p0, .int p1] (w_model ky aM mxs mus mys mgp mtp mme mle mlt mkl mln msz mit mmv mrm mer mtd mat mwr mkn mmb mwa mra mbl mbh dxs dus dys dgp dtp dme dle dlt dkl dln dsz dit dmv) (w_model ky aM mxs mus mys mgp mtp mme mle mlt mkl mln msz mit mmv mrm mer mtd mat mwr mkn mmb mwa mra mbl mbh dxs dus dys dgp dtp dme' dle' dlt dkl dln dsz dit dmv) rv :=
  cr_X9_letGo l D ky aM mxs mus mys mgp mtp mme mle mlt mkl mln msz mit mmv sz N mrm mer mtd mat mwr mkn mmb mwa mra mbl mbh dxs dus dys dgp dtp dme dle dlt dkl dln dsz dit dmv p0 p1 (rv, dme', dle') hF
abbrev rm_X9_together : Room := { frames := 4, cells := 0, slots := 0, locals := 97 }
theorem iX9_together_X9 : ∀ w ∈ wsX90, w ∈ wsX9_together := by decide +kernel
theorem kX9_together_1 : (Cond.fieldLink RX9 62 "TwoLawsModel" "rowMany" "I") ∈ wsX9_together := by decide +kernel
theorem kX9_together_2 : (Cond.fieldLink RX9 33 "TwoLawsModel" "least" "[I") ∈ wsX9_together := by decide +kernel
theorem kX9_together_3 : (Cond.fieldLink RX9 30 "TwoLawsModel" "met" "[I") ∈ wsX9_together := by decide +kernel
set_option maxHeartbeats 4000000 in
set_option maxRecDepth 100000 in
theorem w_X9_together_134 {p : Program} {l : Launch} {e : Env} {s : State} {m : MethodId} {args : Array Value} {below : List Frame} {meth : Method} {c : Code} {Q : State → Prop} {A : Nat → Prop} {D : va_G} {ky : Nat → ClassId} {aM mxs mus mys mgp mtp mme mle mlt mkl mln msz mit mmv : Nat} {mrm : Int32} {mer : Int32} {mtd : Int32} {mat : Int32} {mwr : Int32} {mkn : Int32} {mmb : Int32} {mwa : Int32} {mra : Int32} {mbl : Int32} {mbh : Int32} {dxs : Nat → Int32} {dus : Nat → Int32} {dys : Nat → Int32} {dgp : Nat → Int32} {dtp : Nat → Int32} {dlt : Nat → Int32} {dkl : Nat → Int32} {dln : Nat → Int32} {dsz : Nat → Int32} {dit : Nat → Int32} {dmv : Nat → Int32} (N : Nat) (C : cx p s m c args D ky A cX9_together 8 wsX9_together RX9) (res : Int32 × (Nat → Int32) × (Nat → Int32)) (hQ : ∀ (pc : Nat) (H : Heap) (locs : List Loc) (ls : Array Slot), decode cX9_together pc = .ok (.ireturn, 1) → va_P D vwCl (w_model ky aM mxs mus mys mgp mtp mme mle mlt mkl mln msz mit mmv mrm mer mtd mat mwr mkn mmb mwa mra mbl mbh dxs dus dys dgp dtp res.2.1 res.2.2 dlt dkl dln dsz dit dmv) H → va_D A (w_model ky aM mxs mus mys mgp mtp mme mle mlt mkl mln msz mit mmv mrm mer mtd mat mwr mkn mmb mwa mra mbl mbh dxs dus dys dgp dtp res.2.1 res.2.2 dlt dkl dln dsz dit dmv) → va_S A s.heap H locs → W p l e rm_X9_together s m args below meth c H locs 0 0 Q (F0 m pc ls [.int res.1])) (l1 : Int32) (l2 : Int32) (l3 : Int32) (l4 : Int32) (dme : Nat → Int32) (dle : Nat → Int32) (k63 : Int32 → Int32 → Int32 → Option (Int32 × (Nat → Int32) × (Nat → Int32))) (hk63 : ∀ (l5 : Int32) (l6 : Int32) (l7 : Int32), k63 l5 l6 l7 = some res → ∀ (H : Heap) (locs : List Loc) (ls : Array Slot), va_P D vwCl (w_model ky aM mxs mus mys mgp mtp mme mle mlt mkl mln msz mit mmv mrm mer mtd mat mwr mkn mmb mwa mra mbl mbh dxs dus dys dgp dtp dme dle dlt dkl dln dsz dit dmv) H → va_D A (w_model ky aM mxs mus mys mgp mtp mme mle mlt mkl mln msz mit mmv mrm mer mtd mat mwr mkn mmb mwa mra mbl mbh dxs dus dys dgp dtp dme dle dlt dkl dln dsz dit dmv) → va_S A s.heap H locs → lv_has ls 8 [(0, .ref aM), (1, .int l1), (2, .int l2), (3, .int l3), (4, .int l4), (5, .int l5), (6, .int l6), (7, .int l7)] → W p l e rm_X9_together s m args below meth c H locs 0 0 Q (F0 m 63 ls [])) (l6 : Int32) (l7 : Int32) (t0 : Int32) (hF : f_X9_together_134 N k63 l1 l2 l3 l4 l6 l7 t0 dme dle = some res) : ∀ (H : Heap) (locs : List Loc) (ls : Array Slot), va_P D vwCl (w_model ky aM mxs mus mys mgp mtp mme mle mlt mkl mln msz mit mmv mrm mer mtd mat mwr mkn mmb mwa mra mbl mbh dxs dus dys dgp dtp dme dle dlt dkl dln dsz dit dmv) H → va_D A (w_model ky aM mxs mus mys mgp mtp mme mle mlt mkl mln msz mit mmv mrm mer mtd mat mwr mkn mmb mwa mra mbl mbh dxs dus dys dgp dtp dme dle dlt dkl dln dsz dit dmv) → va_S A s.heap H locs → lv_has ls 8 [(0, .ref aM), (1, .int l1), (2, .int l2), (3, .int l3), (4, .int l4), (6, .int l6), (7, .int l7)] → W p l e rm_X9_together s m args below meth c H locs 0 0 Q (F0 m 134 ls [.int t0]) := by
  obtain ⟨hx, hb, hml, hown, hts, hK, hA⟩ := id C
  intro H locs ls hP hD hS hl
  unfold f_X9_together_134 at hF
  refine lv_istore (lv' := [(5, .int t0), (0, .ref aM), (1, .int l1), (2, .int l2), (3, .int l3), (4, .int l4), (6, .int l6), (7, .int l7)]) hx hb dX9_together_134 hl (by decide) rfl (fun ls hl => ?_)
  refine lv_iload hx hb dX9_together_136 (lv_at hl 6 rfl) ?_
  refine lv_if_ne (tgt := 170) hx hb dX9_together_138 (by decide) (fun c25 => ?_) (fun c25 => ?_)
  · have hF := if_f c25 hF
    refine lv_iconst (v := (1 : Int32)) hx hb dX9_together_170 (by decide) ?_
    refine lv_goto (tgt := 175) hx hb dX9_together_171 (by decide) ?_
    refine lv_istore (lv' := [(6, .int (1 : Int32)), (5, .int t0), (0, .ref aM), (1, .int l1), (2, .int l2), (3, .int l3), (4, .int l4), (7, .int l7)]) hx hb dX9_together_175 hl (by decide) rfl (fun ls hl => ?_)
    refine lv_iinc (v := (l7 + (1 : Int32))) (lv' := [(7, .int (l7 + (1 : Int32))), (6, .int (1 : Int32)), (5, .int t0), (0, .ref aM), (1, .int l1), (2, .int l2), (3, .int l3), (4, .int l4)]) hx hb dX9_together_177 hl (k := 7) rfl rfl (by decide) rfl (fun ls hl => ?_)
    refine lv_goto (tgt := 63) hx hb dX9_together_180 (by decide) ?_
    exact hk63 t0 (1 : Int32) (l7 + (1 : Int32)) hF H _ _ hP hD hS (lv_sub hl [3, 4, 5, 6, 7, 2, 1, 0] rfl)
  · have hF := if_t c25 hF
    refine lv_aload_n hx hb dX9_together_141 rfl (lv_at hl 1 rfl) ?_
    refine va_get (D := D) (ci := 8) (v := .ref mle) (C := RX9) (T := TX9) (N := 24) hx hb hts iX9_together_X9 hown hK hP 0 rfl rfl 11 (by decide) (hts _ kX9_together_2) (fun _ h9 => h9) rfl dX9_together_142 ?_
    refine lv_iload_n hx hb dX9_together_145 rfl (lv_at hl 4 rfl) ?_
    refine lv_aload_n hx hb dX9_together_146 rfl (lv_at hl 1 rfl) ?_
    refine va_get (D := D) (ci := 8) (v := .ref mme) (C := RX9) (T := TX9) (N := 24) hx hb hts iX9_together_X9 hown hK hP 0 rfl rfl 10 (by decide) (hts _ kX9_together_3) (fun _ h9 => h9) rfl dX9_together_147 ?_
    refine lv_iload hx hb dX9_together_150 (lv_at hl 7 rfl) ?_
    obtain ⟨h26, hF⟩ := gi_s hF
    refine va_iald hx hb hK hP 6 0 rfl rfl h26 dX9_together_152 ?_
    refine lv_iconst (v := (1 : Int32)) hx hb dX9_together_153 (by decide) ?_
    refine lv_iload_n hx hb dX9_together_154 rfl (lv_at hl 3 rfl) ?_
    refine lv_ishl hx hb dX9_together_155 ?_
    refine lv_iconst (v := (-1 : Int32)) hx hb dX9_together_156 (by decide) ?_
    refine lv_ixor hx hb dX9_together_157 ?_
    refine lv_iand hx hb dX9_together_158 ?_
    refine lv_iconst (v := (-1 : Int32)) hx hb dX9_together_159 (by decide) ?_
    refine lv_ixor hx hb dX9_together_160 ?_
    refine lv_iand hx hb dX9_together_161 ?_
    obtain ⟨h27, hF⟩ := gi_s hF
    refine va_iald hx hb hK hP 7 0 rfl rfl h27 dX9_together_162 ?_
    refine lv_iload hx hb dX9_together_163 (lv_at hl 5 rfl) ?_
    refine lv_iconst (v := (1 : Int32)) hx hb dX9_together_165 (by decide) ?_
    refine lv_isub hx hb dX9_together_166 ?_
    refine lv_icmp_ne (tgt := 174) hx hb dX9_together_167 (by decide) (fun c28 => ?_) (fun c28 => ?_)
    · have hF := if_f c28 hF
      refine lv_iconst (v := (0 : Int32)) hx hb dX9_together_174 (by decide) ?_
      refine lv_istore (lv' := [(6, .int (0 : Int32)), (5, .int t0), (0, .ref aM), (1, .int l1), (2, .int l2), (3, .int l3), (4, .int l4), (7, .int l7)]) hx hb dX9_together_175 hl (by decide) rfl (fun ls hl => ?_)
      refine lv_iinc (v := (l7 + (1 : Int32))) (lv' := [(7, .int (l7 + (1 : Int32))), (6, .int (0 : Int32)), (5, .int t0), (0, .ref aM), (1, .int l1), (2, .int l2), (3, .int l3), (4, .int l4)]) hx hb dX9_together_177 hl (k := 7) rfl rfl (by decide) rfl (fun ls hl => ?_)
      refine lv_goto (tgt := 63) hx hb dX9_together_180 (by decide) ?_
      exact hk63 t0 (0 : Int32) (l7 + (1 : Int32)) hF H _ _ hP hD hS (lv_sub hl [3, 4, 5, 6, 7, 2, 1, 0] rfl)
    · have hF := if_t c28 hF
      refine lv_iconst (v := (1 : Int32)) hx hb dX9_together_170 (by decide) ?_
      refine lv_goto (tgt := 175) hx hb dX9_together_171 (by decide) ?_
      refine lv_istore (lv' := [(6, .int (1 : Int32)), (5, .int t0), (0, .ref aM), (1, .int l1), (2, .int l2), (3, .int l3), (4, .int l4), (7, .int l7)]) hx hb dX9_together_175 hl (by decide) rfl (fun ls hl => ?_)
      refine lv_iinc (v := (l7 + (1 : Int32))) (lv' := [(7, .int (l7 + (1 : Int32))), (6, .int (1 : Int32)), (5, .int t0), (0, .ref aM), (1, .int l1), (2, .int l2), (3, .int l3), (4, .int l4)]) hx hb dX9_together_177 hl (k := 7) rfl rfl (by decide) rfl (fun ls hl => ?_)
      refine lv_goto (tgt := 63) hx hb dX9_together_180 (by decide) ?_
      exact hk63 t0 (1 : Int32) (l7 + (1 : Int32)) hF H _ _ hP hD hS (lv_sub hl [3, 4, 5, 6, 7, 2, 1, 0] rfl)
set_option maxHeartbeats 4000000 in
set_option maxRecDepth 100000 in
theorem w_X9_together_63 {p : Program} {l : Launch} {e : Env} {s : State} {m : MethodId} {args : Array Value} {below : List Frame} {meth : Method} {c : Code} {Q : State → Prop} {A : Nat → Prop} {D : va_G} {ky : Nat → ClassId} {aM mxs mus mys mgp mtp mme mle mlt mkl mln msz mit mmv : Nat} {mrm : Int32} {mer : Int32} {mtd : Int32} {mat : Int32} {mwr : Int32} {mkn : Int32} {mmb : Int32} {mwa : Int32} {mra : Int32} {mbl : Int32} {mbh : Int32} {dxs : Nat → Int32} {dus : Nat → Int32} {dys : Nat → Int32} {dgp : Nat → Int32} {dtp : Nat → Int32} {dlt : Nat → Int32} {dkl : Nat → Int32} {dln : Nat → Int32} {dsz : Nat → Int32} {dit : Nat → Int32} {dmv : Nat → Int32} (N : Nat) (C : cx p s m c args D ky A cX9_together 8 wsX9_together RX9) (res : Int32 × (Nat → Int32) × (Nat → Int32)) (hQ : ∀ (pc : Nat) (H : Heap) (locs : List Loc) (ls : Array Slot), decode cX9_together pc = .ok (.ireturn, 1) → va_P D vwCl (w_model ky aM mxs mus mys mgp mtp mme mle mlt mkl mln msz mit mmv mrm mer mtd mat mwr mkn mmb mwa mra mbl mbh dxs dus dys dgp dtp res.2.1 res.2.2 dlt dkl dln dsz dit dmv) H → va_D A (w_model ky aM mxs mus mys mgp mtp mme mle mlt mkl mln msz mit mmv mrm mer mtd mat mwr mkn mmb mwa mra mbl mbh dxs dus dys dgp dtp res.2.1 res.2.2 dlt dkl dln dsz dit dmv) → va_S A s.heap H locs → W p l e rm_X9_together s m args below meth c H locs 0 0 Q (F0 m pc ls [.int res.1])) (l1 : Int32) (l2 : Int32) (l3 : Int32) (l4 : Int32) (dme : Nat → Int32) (dle : Nat → Int32) : ∀ (n : Nat) (l5 : Int32) (l6 : Int32) (l7 : Int32), f_X9_together_63 N l1 l2 l3 l4 dme dle n l5 l6 l7 = some res → ∀ (H : Heap) (locs : List Loc) (ls : Array Slot), va_P D vwCl (w_model ky aM mxs mus mys mgp mtp mme mle mlt mkl mln msz mit mmv mrm mer mtd mat mwr mkn mmb mwa mra mbl mbh dxs dus dys dgp dtp dme dle dlt dkl dln dsz dit dmv) H → va_D A (w_model ky aM mxs mus mys mgp mtp mme mle mlt mkl mln msz mit mmv mrm mer mtd mat mwr mkn mmb mwa mra mbl mbh dxs dus dys dgp dtp dme dle dlt dkl dln dsz dit dmv) → va_S A s.heap H locs → lv_has ls 8 [(0, .ref aM), (1, .int l1), (2, .int l2), (3, .int l3), (4, .int l4), (5, .int l5), (6, .int l6), (7, .int l7)] → W p l e rm_X9_together s m args below meth c H locs 0 0 Q (F0 m 63 ls []) := by
  obtain ⟨hx, hb, hml, hown, hts, hK, hA⟩ := id C
  intro n
  induction n with
  | zero =>
    intro l5 l6 l7 hF
    cases hF
  | succ n ih =>
    intro l5 l6 l7 hF H locs ls hP hD hS hl
    have hF : b_X9_together_63 N l1 l2 l3 l4 dme dle (f_X9_together_63 N l1 l2 l3 l4 dme dle n) l5 l6 l7 = some res := hF
    unfold b_X9_together_63 at hF
    refine lv_iload hx hb dX9_together_63 (lv_at hl 7 rfl) ?_
    refine lv_sipush (v := (289 : Int32)) hx hb dX9_together_65 (by decide) ?_
    refine lv_icmp_ge (tgt := 183) hx hb dX9_together_68 (by decide) (fun c14 => ?_) (fun c14 => ?_)
    · have hF := if_t c14 hF
      refine lv_iload hx hb dX9_together_183 (lv_at hl 5 rfl) ?_
      refine lv_if_ne (tgt := 192) hx hb dX9_together_185 (by decide) (fun c15 => ?_) (fun c15 => ?_)
      · have hF := if_f c15 hF
        refine lv_iload hx hb dX9_together_192 (lv_at hl 6 rfl) ?_
        refine lv_if_eq (tgt := 201) hx hb dX9_together_194 (by decide) (fun c16 => ?_) (fun c16 => ?_)
        · have hF := if_t c16 hF
          refine lv_iconst (v := (2 : Int32)) hx hb dX9_together_201 (by decide) ?_
          have hF := Option.some.inj hF
          subst hF
          exact hQ _ H _ _ dX9_together_202 hP hD hS
        · have hF := if_f c16 hF
          refine lv_iconst (v := (1 : Int32)) hx hb dX9_together_197 (by decide) ?_
          refine lv_goto (tgt := 202) hx hb dX9_together_198 (by decide) ?_
          have hF := Option.some.inj hF
          subst hF
          exact hQ _ H _ _ dX9_together_202 hP hD hS
      · have hF := if_t c15 hF
        refine lv_iconst (v := (0 : Int32)) hx hb dX9_together_188 (by decide) ?_
        refine lv_goto (tgt := 202) hx hb dX9_together_189 (by decide) ?_
        have hF := Option.some.inj hF
        subst hF
        exact hQ _ H _ _ dX9_together_202 hP hD hS
    · have hF := if_f c14 hF
      refine lv_aload_n hx hb dX9_together_71 rfl (lv_at hl 0 rfl) ?_
      refine va_get (D := D) (ci := 8) (v := .ref mme) (C := RX9) (T := TX9) (N := 24) hx hb hts iX9_together_X9 hown hK hP 0 rfl rfl 10 (by decide) (hts _ kX9_together_3) (fun _ h9 => h9) rfl dX9_together_72 ?_
      refine lv_iload hx hb dX9_together_75 (lv_at hl 7 rfl) ?_
      obtain ⟨h17, hF⟩ := gi_s hF
      refine va_iald hx hb hK hP 6 0 rfl rfl h17 dX9_together_77 ?_
      refine lv_iload_n hx hb dX9_together_78 rfl (lv_at hl 1 rfl) ?_
      refine lv_ishr hx hb dX9_together_79 ?_
      refine lv_iconst (v := (1 : Int32)) hx hb dX9_together_80 (by decide) ?_
      refine lv_iand hx hb dX9_together_81 ?_
      refine lv_iconst (v := (1 : Int32)) hx hb dX9_together_82 (by decide) ?_
      refine lv_icmp_ne (tgt := 177) hx hb dX9_together_83 (by decide) (fun c18 => ?_) (fun c18 => ?_)
      · have hF := if_f c18 hF
        refine lv_iinc (v := (l7 + (1 : Int32))) (lv' := [(7, .int (l7 + (1 : Int32))), (0, .ref aM), (1, .int l1), (2, .int l2), (3, .int l3), (4, .int l4), (5, .int l5), (6, .int l6)]) hx hb dX9_together_177 hl (k := 7) rfl rfl (by decide) rfl (fun ls hl => ?_)
        refine lv_goto (tgt := 63) hx hb dX9_together_180 (by decide) ?_
        exact ih l5 l6 (l7 + (1 : Int32)) hF H _ _ hP hD hS (lv_sub hl [1, 2, 3, 4, 5, 6, 7, 0] rfl)
      · have hF := if_t c18 hF
        refine lv_iload hx hb dX9_together_86 (lv_at hl 5 rfl) ?_
        refine lv_if_ne (tgt := 129) hx hb dX9_together_88 (by decide) (fun c19 => ?_) (fun c19 => ?_)
        · have hF := if_f c19 hF
          refine lv_iconst (v := (1 : Int32)) hx hb dX9_together_129 (by decide) ?_
          refine lv_goto (tgt := 134) hx hb dX9_together_130 (by decide) ?_
          exact w_X9_together_134 N C res hQ l1 l2 l3 l4 dme dle _ ih l6 l7 (1 : Int32) hF H _ _ hP hD hS (lv_sub hl [0, 1, 2, 3, 4, 6, 7] rfl)
        · have hF := if_t c19 hF
          refine lv_aload_n hx hb dX9_together_91 rfl (lv_at hl 0 rfl) ?_
          refine va_get (D := D) (ci := 8) (v := .ref mme) (C := RX9) (T := TX9) (N := 24) hx hb hts iX9_together_X9 hown hK hP 0 rfl rfl 10 (by decide) (hts _ kX9_together_3) (fun _ h9 => h9) rfl dX9_together_92 ?_
          refine lv_iload hx hb dX9_together_95 (lv_at hl 7 rfl) ?_
          obtain ⟨h20, hF⟩ := gi_s hF
          refine va_iald hx hb hK hP 6 0 rfl rfl h20 dX9_together_97 ?_
          refine lv_iload_n hx hb dX9_together_98 rfl (lv_at hl 2 rfl) ?_
          refine lv_ishr hx hb dX9_together_99 ?_
          refine lv_iconst (v := (1 : Int32)) hx hb dX9_together_100 (by decide) ?_
          refine lv_iand hx hb dX9_together_101 ?_
          refine lv_iconst (v := (1 : Int32)) hx hb dX9_together_102 (by decide) ?_
          refine lv_icmp_ne (tgt := 133) hx hb dX9_together_103 (by decide) (fun c21 => ?_) (fun c21 => ?_)
          · have hF := if_f c21 hF
            refine lv_iconst (v := (0 : Int32)) hx hb dX9_together_133 (by decide) ?_
            exact w_X9_together_134 N C res hQ l1 l2 l3 l4 dme dle _ ih l6 l7 (0 : Int32) hF H _ _ hP hD hS (lv_sub hl [0, 1, 2, 3, 4, 6, 7] rfl)
          · have hF := if_t c21 hF
            refine lv_aload_n hx hb dX9_together_106 rfl (lv_at hl 0 rfl) ?_
            refine va_get (D := D) (ci := 8) (v := .ref mle) (C := RX9) (T := TX9) (N := 24) hx hb hts iX9_together_X9 hown hK hP 0 rfl rfl 11 (by decide) (hts _ kX9_together_2) (fun _ h9 => h9) rfl dX9_together_107 ?_
            refine lv_iload_n hx hb dX9_together_110 rfl (lv_at hl 3 rfl) ?_
            refine lv_aload_n hx hb dX9_together_111 rfl (lv_at hl 0 rfl) ?_
            refine va_get (D := D) (ci := 8) (v := .ref mme) (C := RX9) (T := TX9) (N := 24) hx hb hts iX9_together_X9 hown hK hP 0 rfl rfl 10 (by decide) (hts _ kX9_together_3) (fun _ h9 => h9) rfl dX9_together_112 ?_
            refine lv_iload hx hb dX9_together_115 (lv_at hl 7 rfl) ?_
            obtain ⟨h22, hF⟩ := gi_s hF
            refine va_iald hx hb hK hP 6 0 rfl rfl h22 dX9_together_117 ?_
            refine lv_iconst (v := (-1 : Int32)) hx hb dX9_together_118 (by decide) ?_
            refine lv_ixor hx hb dX9_together_119 ?_
            refine lv_iand hx hb dX9_together_120 ?_
            obtain ⟨h23, hF⟩ := gi_s hF
            refine va_iald hx hb hK hP 7 0 rfl rfl h23 dX9_together_121 ?_
            refine lv_iload hx hb dX9_together_122 (lv_at hl 4 rfl) ?_
            refine lv_iconst (v := (1 : Int32)) hx hb dX9_together_124 (by decide) ?_
            refine lv_isub hx hb dX9_together_125 ?_
            refine lv_icmp_ne (tgt := 133) hx hb dX9_together_126 (by decide) (fun c24 => ?_) (fun c24 => ?_)
            · have hF := if_f c24 hF
              refine lv_iconst (v := (0 : Int32)) hx hb dX9_together_133 (by decide) ?_
              exact w_X9_together_134 N C res hQ l1 l2 l3 l4 dme dle _ ih l6 l7 (0 : Int32) hF H _ _ hP hD hS (lv_sub hl [0, 1, 2, 3, 4, 6, 7] rfl)
            · have hF := if_t c24 hF
              refine lv_iconst (v := (1 : Int32)) hx hb dX9_together_129 (by decide) ?_
              refine lv_goto (tgt := 134) hx hb dX9_together_130 (by decide) ?_
              exact w_X9_together_134 N C res hQ l1 l2 l3 l4 dme dle _ ih l6 l7 (1 : Int32) hF H _ _ hP hD hS (lv_sub hl [0, 1, 2, 3, 4, 6, 7] rfl)
set_option maxHeartbeats 4000000 in
set_option maxRecDepth 100000 in
theorem cr_X9_together (l : Launch) (D : va_G) (ky : Nat → ClassId) (aM mxs mus mys mgp mtp mme mle mlt mkl mln msz mit mmv : Nat) (sz N : Nat)  (mrm : Int32) (mer : Int32) (mtd : Int32) (mat : Int32) (mwr : Int32) (mkn : Int32) (mmb : Int32) (mwa : Int32) (mra : Int32) (mbl : Int32) (mbh : Int32) (dxs : Nat → Int32) (dus : Nat → Int32) (dys : Nat → Int32) (dgp : Nat → Int32) (dtp : Nat → Int32) (dme : Nat → Int32) (dle : Nat → Int32) (dlt : Nat → Int32) (dkl : Nat → Int32) (dln : Nat → Int32) (dsz : Nat → Int32) (dit : Nat → Int32) (dmv : Nat → Int32) (p0 : Int32) (p1 : Int32) (res : Int32 × (Nat → Int32) × (Nat → Int32)) (hF : f_X9_together N p0 p1 mrm mer dxs dus dys dgp dme dle = some res) : MI l yX9_together wsX9_together rm_X9_together D ky sz [.ref aM, .int p0, .int p1] (w_model ky aM mxs mus mys mgp mtp mme mle mlt mkl mln msz mit mmv mrm mer mtd mat mwr mkn mmb mwa mra mbl mbh dxs dus dys dgp dtp dme dle dlt dkl dln dsz dit dmv) (w_model ky aM mxs mus mys mgp mtp mme mle mlt mkl mln msz mit mmv mrm mer mtd mat mwr mkn mmb mwa mra mbl mbh dxs dus dys dgp dtp res.2.1 res.2.2 dlt dkl dln dsz dit dmv) res.1 := by
  unfold MI
  refine Met.ofW (cc := cX9_together) (maxL := 8) (ret := (some .int)) (by decide) rfl ?_
  intro p e s m args below meth c s₁ B hml hv
  obtain ⟨rfl, hsz, hP, hK, hD0⟩ := hv
  have hx := B.exec
  have hb := B.bytes
  have hr := B.returns
  have hts := atoms_spec (ws := wsX9_together) B.pre
  have hown : s.vm.findClass RX9 = some m.cls := findClass_of_methodNamed B.named
  have hlocks := B.notSynchronized
  subst hsz
  have hD := hD0.self (sz := s.heap.size)
  generalize hAe : va_A (w_model ky aM mxs mus mys mgp mtp mme mle mlt mkl mln msz mit mmv mrm mer mtd mat mwr mkn mmb mwa mra mbl mbh dxs dus dys dgp dtp dme dle dlt dkl dln dsz dit dmv) s.heap.size = A at hD ⊢
  have hA : ∀ q : Nat, s.heap.size ≤ q → A q := fun q h => by rw [← hAe]; exact Or.inr h
  have hS : va_S A s.heap s.heap [] := va_S.rf
  have hP : va_P D vwCl (w_model ky aM mxs mus mys mgp mtp mme mle mlt mkl mln msz mit mmv mrm mer mtd mat mwr mkn mmb mwa mra mbl mbh dxs dus dys dgp dtp dme dle dlt dkl dln dsz dit dmv) s.heap := hP
  have hl := lv_entry ([.ref aM, .int p0, .int p1]) (n := 8) (Nat.le_of_ble_eq_true rfl)
  rw [lg_entry_eq]
  generalize (lg_sl ([.ref aM, .int p0, .int p1]) ++ List.replicate (8 - (lg_sl ([.ref aM, .int p0, .int p1])).length) Slot.unset).toArray = ls at hl ⊢
  have hl : lv_has ls 8 [(0, .ref aM), (1, .int p0), (2, .int p1)] := hl
  have C : cx p s m c ([.ref aM, .int p0, .int p1]).toArray D ky A cX9_together 8 wsX9_together RX9 := ⟨hx, hb, hml, hown, hts, hK, hA⟩
  have hQ : ∀ (pc : Nat) (H : Heap) (locs : List Loc) (ls : Array Slot), decode cX9_together pc = .ok (.ireturn, 1) → va_P D vwCl (w_model ky aM mxs mus mys mgp mtp mme mle mlt mkl mln msz mit mmv mrm mer mtd mat mwr mkn mmb mwa mra mbl mbh dxs dus dys dgp dtp res.2.1 res.2.2 dlt dkl dln dsz dit dmv) H → va_D A (w_model ky aM mxs mus mys mgp mtp mme mle mlt mkl mln msz mit mmv mrm mer mtd mat mwr mkn mmb mwa mra mbl mbh dxs dus dys dgp dtp res.2.1 res.2.2 dlt dkl dln dsz dit dmv) → va_S A s.heap H locs → W p l e rm_X9_together s m ([.ref aM, .int p0, .int p1]).toArray below meth c H locs 0 0 (MQ below (va_Qi (S := Unit) (fun r _ => r = res.1) (fun _ t => va_P D vwCl (w_model ky aM mxs mus mys mgp mtp mme mle mlt mkl mln msz mit mmv mrm mer mtd mat mwr mkn mmb mwa mra mbl mbh dxs dus dys dgp dtp res.2.1 res.2.2 dlt dkl dln dsz dit dmv) t.heap ∧ va_K D vwCl (tyW ky) t ∧ va_D A (w_model ky aM mxs mus mys mgp mtp mme mle mlt mkl mln msz mit mmv mrm mer mtd mat mwr mkn mmb mwa mra mbl mbh dxs dus dys dgp dtp res.2.1 res.2.2 dlt dkl dln dsz dit dmv)) A) ([.ref aM, .int p0, .int p1]).toArray s 0 0 A) (F0 m pc ls [.int res.1]) := fun pc H locs ls hd hP hD hS => W.iret hx hb hr (fun t ht hW => ⟨⟨res.1, (), rfl, rfl, by rw [ht]; exact hP, va_K.moved hW.alike hK, hD⟩, hS.F ht⟩) hS.2.2 hd
  unfold f_X9_together at hF
  refine lv_aload_n hx hb dX9_together_0 rfl (lv_at hl 0 rfl) ?_
  refine lv_iload_n hx hb dX9_together_1 rfl (lv_at hl 1 rfl) ?_
  obtain ⟨r2, h1, hF⟩ := b1_s hF
  refine cl_vi (As := [.int p0]) (rest := []) (w' := (w_model ky aM mxs mus mys mgp mtp mme mle mlt mkl mln msz mit mmv mrm mer mtd mat mwr mkn mmb mwa mra mbl mbh dxs dus dys dgp dtp dme dle dlt dkl dln dsz dit dmv)) ⟨hx, hb, hml, hown, hts⟩ hK hP hD hS hA (c_X9_isRow l D ky aM mxs mus mys mgp mtp mme mle mlt mkl mln msz mit mmv _ N  mrm mer mtd mat mwr mkn mmb mwa mra mbl mbh dxs dus dys dgp dtp dme dle dlt dkl dln dsz dit dmv p0 r2 h1) (cwV 1 hts gX9_together_X9_isRow rfl rfl rfl (by decide +kernel) ⟨Nat.le_of_ble_eq_true rfl, Nat.le_of_ble_eq_true rfl⟩) [0, 1, 2, 3, 4, 5, 6, 7, 8, 9, 10, 11, 12, 13] [] [0, 1, 2, 3, 4, 5, 6, 7, 8, 9, 10, 11, 12, 13] 0 8 rfl rfl rfl rfl (wr := []) rfl (by decide) rfl rfl hl.1 (Nat.le_of_ble_eq_true rfl) dX9_together_2 ⟨Nat.zero_le _, Nat.zero_le _⟩ (fun H locs hP hD hS => ?_)
  refine lv_if_eq (tgt := 21) hx hb dX9_together_5 (by decide) (fun c3 => ?_) (fun c3 => ?_)
  · have hF := if_t c3 hF
    refine lv_iconst (v := (-1 : Int32)) hx hb dX9_together_21 (by decide) ?_
    have hF := Option.some.inj hF
    subst hF
    exact hQ _ _ _ _ dX9_together_22 hP hD hS
  · have hF := if_f c3 hF
    refine lv_aload_n hx hb dX9_together_8 rfl (lv_at hl 0 rfl) ?_
    refine lv_iload_n hx hb dX9_together_9 rfl (lv_at hl 2 rfl) ?_
    obtain ⟨r5, h4, hF⟩ := b1_s hF
    refine cl_vi (As := [.int p1]) (rest := []) (w' := (w_model ky aM mxs mus mys mgp mtp mme mle mlt mkl mln msz mit mmv mrm mer mtd mat mwr mkn mmb mwa mra mbl mbh dxs dus dys dgp dtp dme dle dlt dkl dln dsz dit dmv)) ⟨hx, hb, hml, hown, hts⟩ hK hP hD hS hA (c_X9_isRow l D ky aM mxs mus mys mgp mtp mme mle mlt mkl mln msz mit mmv _ N  mrm mer mtd mat mwr mkn mmb mwa mra mbl mbh dxs dus dys dgp dtp dme dle dlt dkl dln dsz dit dmv p1 r5 h4) (cwV 1 hts gX9_together_X9_isRow rfl rfl rfl (by decide +kernel) ⟨Nat.le_of_ble_eq_true rfl, Nat.le_of_ble_eq_true rfl⟩) [0, 1, 2, 3, 4, 5, 6, 7, 8, 9, 10, 11, 12, 13] [] [0, 1, 2, 3, 4, 5, 6, 7, 8, 9, 10, 11, 12, 13] 0 8 rfl rfl rfl rfl (wr := []) rfl (by decide) rfl rfl hl.1 (Nat.le_of_ble_eq_true rfl) dX9_together_10 ⟨Nat.zero_le _, Nat.zero_le _⟩ (fun H locs hP hD hS => ?_)
    refine lv_if_eq (tgt := 21) hx hb dX9_together_13 (by decide) (fun c6 => ?_) (fun c6 => ?_)
    · have hF := if_t c6 hF
      refine lv_iconst (v := (-1 : Int32)) hx hb dX9_together_21 (by decide) ?_
      have hF := Option.some.inj hF
      subst hF
      exact hQ _ _ _ _ dX9_together_22 hP hD hS
    · have hF := if_f c6 hF
      refine lv_iload_n hx hb dX9_together_16 rfl (lv_at hl 1 rfl) ?_
      refine lv_iload_n hx hb dX9_together_17 rfl (lv_at hl 2 rfl) ?_
      refine lv_icmp_ne (tgt := 23) hx hb dX9_together_18 (by decide) (fun c7 => ?_) (fun c7 => ?_)
      · have hF := if_f c7 hF
        refine lv_aload_n hx hb dX9_together_23 rfl (lv_at hl 0 rfl) ?_
        obtain ⟨v9, v10, h8, hF⟩ := b2_s hF
        refine cl_vv (As := []) (rest := []) (w' := (w_model ky aM mxs mus mys mgp mtp mme mle mlt mkl mln msz mit mmv mrm mer mtd mat mwr mkn mmb mwa mra mbl mbh dxs dus dys dgp dtp v9 v10 dlt dkl dln dsz dit dmv)) ⟨hx, hb, hml, hown, hts⟩ hK hP hD hS hA (c_X9_tables l D ky aM mxs mus mys mgp mtp mme mle mlt mkl mln msz mit mmv _ N  mrm mer mtd mat mwr mkn mmb mwa mra mbl mbh dxs dus dys dgp dtp dme dle dlt dkl dln dsz dit dmv  v9 v10 h8) (cwV 0 hts gX9_together_X9_tables rfl rfl rfl (by decide +kernel) ⟨Nat.le_of_ble_eq_true rfl, Nat.le_of_ble_eq_true rfl⟩) [0, 1, 2, 3, 4, 5, 6, 7, 8, 9, 10, 11, 12, 13] [] [0, 1, 2, 3, 4, 5, 6, 7, 8, 9, 10, 11, 12, 13] 0 8 rfl rfl rfl rfl (wr := []) rfl (by decide) rfl rfl hl.1 (Nat.le_of_ble_eq_true rfl) dX9_together_24 ⟨Nat.zero_le _, Nat.zero_le _⟩ (fun H locs hP hD hS => ?_)
        refine lv_iconst (v := (1 : Int32)) hx hb dX9_together_27 (by decide) ?_
        refine lv_aload_n hx hb dX9_together_28 rfl (lv_at hl 0 rfl) ?_
        refine va_get (D := D) (ci := 8) (v := .int mrm) (C := RX9) (T := TX9) (N := 24) hx hb hts iX9_together_X9 hown hK hP 0 rfl rfl 0 (by decide) (hts _ kX9_together_1) (fun _ h9 => h9) rfl dX9_together_29 ?_
        refine lv_ishl hx hb dX9_together_32 ?_
        refine lv_iconst (v := (1 : Int32)) hx hb dX9_together_33 (by decide) ?_
        refine lv_isub hx hb dX9_together_34 ?_
        refine lv_istore_n (lv' := [(3, .int (((1 : Int32) <<< (mrm &&& 31)) - (1 : Int32))), (0, .ref aM), (1, .int p0), (2, .int p1)]) hx hb dX9_together_35 rfl hl (by decide) rfl (fun ls hl => ?_)
        refine lv_aload_n hx hb dX9_together_36 rfl (lv_at hl 1 rfl) ?_
        refine va_get (D := D) (ci := 8) (v := .ref mle) (C := RX9) (T := TX9) (N := 24) hx hb hts iX9_together_X9 hown hK hP 0 rfl rfl 11 (by decide) (hts _ kX9_together_2) (fun _ h9 => h9) rfl dX9_together_37 ?_
        refine lv_iload_n hx hb dX9_together_40 rfl (lv_at hl 0 rfl) ?_
        obtain ⟨h11, hF⟩ := gi_s hF
        refine va_iald hx hb hK hP 7 0 rfl rfl h11 dX9_together_41 ?_
        refine lv_topi (fun v12 e_v12 => ?_)
        have hF := nm_s e_v12 hF
        refine lv_istore (lv' := [(4, .int v12), (3, .int (((1 : Int32) <<< (mrm &&& 31)) - (1 : Int32))), (0, .ref aM), (1, .int p0), (2, .int p1)]) hx hb dX9_together_42 hl (by decide) rfl (fun ls hl => ?_)
        refine lv_iload hx hb dX9_together_44 (lv_at hl 0 rfl) ?_
        refine lv_bipush (v := (100 : Int32)) hx hb dX9_together_46 (by decide) ?_
        refine lv_icmp_lt (tgt := 54) hx hb dX9_together_48 (by decide) (fun c13 => ?_) (fun c13 => ?_)
        · have hF := if_t c13 hF
          refine lv_iconst (v := (0 : Int32)) hx hb dX9_together_54 (by decide) ?_
          refine lv_istore (lv' := [(5, .int (0 : Int32)), (4, .int v12), (3, .int (((1 : Int32) <<< (mrm &&& 31)) - (1 : Int32))), (0, .ref aM), (1, .int p0), (2, .int p1)]) hx hb dX9_together_55 hl (by decide) rfl (fun ls hl => ?_)
          refine lv_iconst (v := (0 : Int32)) hx hb dX9_together_57 (by decide) ?_
          refine lv_istore (lv' := [(6, .int (0 : Int32)), (5, .int (0 : Int32)), (4, .int v12), (3, .int (((1 : Int32) <<< (mrm &&& 31)) - (1 : Int32))), (0, .ref aM), (1, .int p0), (2, .int p1)]) hx hb dX9_together_58 hl (by decide) rfl (fun ls hl => ?_)
          refine lv_iconst (v := (0 : Int32)) hx hb dX9_together_60 (by decide) ?_
          refine lv_istore (lv' := [(7, .int (0 : Int32)), (6, .int (0 : Int32)), (5, .int (0 : Int32)), (4, .int v12), (3, .int (((1 : Int32) <<< (mrm &&& 31)) - (1 : Int32))), (0, .ref aM), (1, .int p0), (2, .int p1)]) hx hb dX9_together_61 hl (by decide) rfl (fun ls hl => ?_)
          exact w_X9_together_63 N C res hQ p0 p1 (((1 : Int32) <<< (mrm &&& 31)) - (1 : Int32)) v12 v9 v10 N (0 : Int32) (0 : Int32) (0 : Int32) hF _ _ _ hP hD hS (lv_sub hl [5, 6, 7, 4, 3, 2, 1, 0] rfl)
        · have hF := if_f c13 hF
          refine lv_bipush (v := (-4 : Int32)) hx hb dX9_together_51 (by decide) ?_
          have hF := Option.some.inj hF
          subst hF
          exact hQ _ _ _ _ dX9_together_53 hP hD hS
      · have hF := if_t c7 hF
        refine lv_iconst (v := (-1 : Int32)) hx hb dX9_together_21 (by decide) ?_
        have hF := Option.some.inj hF
        subst hF
        exact hQ _ _ _ _ dX9_together_22 hP hD hS
theorem c_X9_together (l : Launch) (D : va_G) (ky : Nat → ClassId) (aM mxs mus mys mgp mtp mme mle mlt mkl mln msz mit mmv : Nat) (sz N : Nat)  (mrm : Int32) (mer : Int32) (mtd : Int32) (mat : Int32) (mwr : Int32) (mkn : Int32) (mmb : Int32) (mwa : Int32) (mra : Int32) (mbl : Int32) (mbh : Int32) (dxs : Nat → Int32) (dus : Nat → Int32) (dys : Nat → Int32) (dgp : Nat → Int32) (dtp : Nat → Int32) (dme : Nat → Int32) (dle : Nat → Int32) (dlt : Nat → Int32) (dkl : Nat → Int32) (dln : Nat → Int32) (dsz : Nat → Int32) (dit : Nat → Int32) (dmv : Nat → Int32) (p0 : Int32) (p1 : Int32) (rv : Int32) (dme' : Nat → Int32) (dle' : Nat → Int32) (hF : f_X9_together N p0 p1 mrm mer dxs dus dys dgp dme dle = some (rv, dme', dle')) : MI l yX9_together wsX9_together rm_X9_together D ky sz [.ref aM, .int p0, .int p1] (w_model ky aM mxs mus mys mgp mtp mme mle mlt mkl mln msz mit mmv mrm mer mtd mat mwr mkn mmb mwa mra mbl mbh dxs dus dys dgp dtp dme dle dlt dkl dln dsz dit dmv) (w_model ky aM mxs mus mys mgp mtp mme mle mlt mkl mln msz mit mmv mrm mer mtd mat mwr mkn mmb mwa mra mbl mbh dxs dus dys dgp dtp dme' dle' dlt dkl dln dsz dit dmv) rv :=
  cr_X9_together l D ky aM mxs mus mys mgp mtp mme mle mlt mkl mln msz mit mmv sz N mrm mer mtd mat mwr mkn mmb mwa mra mbl mbh dxs dus dys dgp dtp dme dle dlt dkl dln dsz dit dmv p0 p1 (rv, dme', dle') hF
abbrev rm_X9_span : Room := { frames := 4, cells := 0, slots := 0, locals := 96 }
theorem kX9_span_0 : (Cond.constant RX9 129 (-1000001)) ∈ wsX9_span := by decide +kernel
theorem kX9_span_1 : (Cond.constant RX9 130 (-1000004)) ∈ wsX9_span := by decide +kernel
set_option maxHeartbeats 4000000 in
set_option maxRecDepth 100000 in
theorem w_X9_span_45 {p : Program} {l : Launch} {e : Env} {s : State} {m : MethodId} {args : Array Value} {below : List Frame} {meth : Method} {c : Code} {Q : State → Prop} {A : Nat → Prop} {D : va_G} {ky : Nat → ClassId} {aM mxs mus mys mgp mtp mme mle mlt mkl mln msz mit mmv : Nat} {mrm : Int32} {mer : Int32} {mtd : Int32} {mat : Int32} {mwr : Int32} {mkn : Int32} {mmb : Int32} {mwa : Int32} {mra : Int32} {mbl : Int32} {mbh : Int32} {dxs : Nat → Int32} {dus : Nat → Int32} {dys : Nat → Int32} {dgp : Nat → Int32} {dtp : Nat → Int32} {dme : Nat → Int32} {dle : Nat → Int32} {dlt : Nat → Int32} {dkl : Nat → Int32} {dln : Nat → Int32} {dsz : Nat → Int32} {dit : Nat → Int32} {dmv : Nat → Int32} (N : Nat) (C : cx p s m c args D ky A cX9_span 9 wsX9_span RX9) (res : Int32) (hQ : ∀ (pc : Nat) (H : Heap) (locs : List Loc) (ls : Array Slot), decode cX9_span pc = .ok (.ireturn, 1) → va_P D vwCl (w_model ky aM mxs mus mys mgp mtp mme mle mlt mkl mln msz mit mmv mrm mer mtd mat mwr mkn mmb mwa mra mbl mbh dxs dus dys dgp dtp dme dle dlt dkl dln dsz dit dmv) H → va_D A (w_model ky aM mxs mus mys mgp mtp mme mle mlt mkl mln msz mit mmv mrm mer mtd mat mwr mkn mmb mwa mra mbl mbh dxs dus dys dgp dtp dme dle dlt dkl dln dsz dit dmv) → va_S A s.heap H locs → W p l e rm_X9_span s m args below meth c H locs 0 0 Q (F0 m pc ls [.int res])) (l1 : Int32) (l2 : Int32) (l3 : Int32) (l4 : Int32) : ∀ (n : Nat) (l5 : Int32) (l6 : Int32) (l7 : Int32), f_X9_span_45 N l1 l2 l3 l4 mrm mer dxs dus dys dgp n l5 l6 l7 = some res → ∀ (H : Heap) (locs : List Loc) (ls : Array Slot), va_P D vwCl (w_model ky aM mxs mus mys mgp mtp mme mle mlt mkl mln msz mit mmv mrm mer mtd mat mwr mkn mmb mwa mra mbl mbh dxs dus dys dgp dtp dme dle dlt dkl dln dsz dit dmv) H → va_D A (w_model ky aM mxs mus mys mgp mtp mme mle mlt mkl mln msz mit mmv mrm mer mtd mat mwr mkn mmb mwa mra mbl mbh dxs dus dys dgp dtp dme dle dlt dkl dln dsz dit dmv) → va_S A s.heap H locs → lv_has ls 9 [(0, .ref aM), (1, .int l1), (2, .int l2), (3, .int l3), (4, .int l4), (5, .int l5), (6, .int l6), (7, .int l7)] → W p l e rm_X9_span s m args below meth c H locs 0 0 Q (F0 m 45 ls []) := by
  obtain ⟨hx, hb, hml, hown, hts, hK, hA⟩ := id C
  intro n
  induction n with
  | zero =>
    intro l5 l6 l7 hF
    cases hF
  | succ n ih =>
    intro l5 l6 l7 hF H locs ls hP hD hS hl
    have hF : b_X9_span_45 N l1 l2 l3 l4 mrm mer dxs dus dys dgp (f_X9_span_45 N l1 l2 l3 l4 mrm mer dxs dus dys dgp n) l5 l6 l7 = some res := hF
    unfold b_X9_span_45 at hF
    refine lv_iload hx hb dX9_span_45 (lv_at hl 7 rfl) ?_
    refine lv_sipush (v := (289 : Int32)) hx hb dX9_span_47 (by decide) ?_
    refine lv_icmp_ge (tgt := 117) hx hb dX9_span_50 (by decide) (fun c13 => ?_) (fun c13 => ?_)
    · have hF := if_t c13 hF
      refine lv_iload hx hb dX9_span_117 (lv_at hl 5 rfl) ?_
      refine lv_if_ne (tgt := 127) hx hb dX9_span_119 (by decide) (fun c14 => ?_) (fun c14 => ?_)
      · have hF := if_f c14 hF
        refine lv_iload hx hb dX9_span_127 (lv_at hl 6 rfl) ?_
        have hF := Option.some.inj hF
        subst hF
        exact hQ _ H _ _ dX9_span_129 hP hD hS
      · have hF := if_t c14 hF
        refine lv_ldc hx hb hown (hts _ kX9_span_1) dX9_span_122 ?_
        refine lv_goto (tgt := 129) hx hb dX9_span_124 (by decide) ?_
        have hF := Option.some.inj hF
        subst hF
        exact hQ _ H _ _ dX9_span_129 hP hD hS
    · have hF := if_f c13 hF
      refine lv_aload_n hx hb dX9_span_53 rfl (lv_at hl 0 rfl) ?_
      refine lv_iload_n hx hb dX9_span_54 rfl (lv_at hl 1 rfl) ?_
      refine lv_iload hx hb dX9_span_55 (lv_at hl 7 rfl) ?_
      obtain ⟨r16, h15, hF⟩ := b1_s hF
      refine cl_vi (As := [.int l1, .int l7]) (rest := []) (w' := (w_model ky aM mxs mus mys mgp mtp mme mle mlt mkl mln msz mit mmv mrm mer mtd mat mwr mkn mmb mwa mra mbl mbh dxs dus dys dgp dtp dme dle dlt dkl dln dsz dit dmv)) ⟨hx, hb, hml, hown, hts⟩ hK hP hD hS hA (c_X9_isLet l D ky aM mxs mus mys mgp mtp mme mle mlt mkl mln msz mit mmv _ N  mrm mer mtd mat mwr mkn mmb mwa mra mbl mbh dxs dus dys dgp dtp dme dle dlt dkl dln dsz dit dmv l1 l7 r16 h15) (cwV 2 hts gX9_span_X9_isLet rfl rfl rfl (by decide +kernel) ⟨Nat.le_of_ble_eq_true rfl, Nat.le_of_ble_eq_true rfl⟩) [0, 1, 2, 3, 4, 5, 6, 7, 8, 9, 10, 11, 12, 13] [] [0, 1, 2, 3, 4, 5, 6, 7, 8, 9, 10, 11, 12, 13] 0 8 rfl rfl rfl rfl (wr := []) rfl (by decide) rfl rfl hl.1 (Nat.le_of_ble_eq_true rfl) dX9_span_57 ⟨Nat.zero_le _, Nat.zero_le _⟩ (fun H locs hP hD hS => ?_)
      refine lv_if_eq (tgt := 111) hx hb dX9_span_60 (by decide) (fun c17 => ?_) (fun c17 => ?_)
      · have hF := if_t c17 hF
        refine lv_iinc (v := (l7 + (1 : Int32))) (lv' := [(7, .int (l7 + (1 : Int32))), (0, .ref aM), (1, .int l1), (2, .int l2), (3, .int l3), (4, .int l4), (5, .int l5), (6, .int l6)]) hx hb dX9_span_111 hl (k := 7) rfl rfl (by decide) rfl (fun ls hl => ?_)
        refine lv_goto (tgt := 45) hx hb dX9_span_114 (by decide) ?_
        exact ih l5 l6 (l7 + (1 : Int32)) hF H _ _ hP hD hS (lv_sub hl [1, 2, 3, 4, 5, 6, 7, 0] rfl)
      · have hF := if_f c17 hF
        refine lv_iload hx hb dX9_span_63 (lv_at hl 7 rfl) ?_
        refine lv_iload_n hx hb dX9_span_65 rfl (lv_at hl 2 rfl) ?_
        refine lv_iload_n hx hb dX9_span_66 rfl (lv_at hl 3 rfl) ?_
        obtain ⟨r19, h18, hF⟩ := b1_s hF
        refine cl_si (As := [.int l7, .int l2, .int l3]) (rest := []) ⟨hx, hb, hml, hown, hts⟩ hK hP hD hS hA (c_X9_sumOf l D ky  _ N   l7 l2 l3 r19 h18) (va_cwS 3 hts gX9_span_X9_sumOf rfl rfl rfl (by decide +kernel) ⟨Nat.le_of_ble_eq_true rfl, Nat.le_of_ble_eq_true rfl⟩) rfl hl.1 (Nat.le_of_ble_eq_true rfl) dX9_span_67 ⟨Nat.zero_le _, Nat.zero_le _⟩ (fun H locs hP hD hS => ?_)
        refine lv_istore (lv' := [(8, .int r19), (0, .ref aM), (1, .int l1), (2, .int l2), (3, .int l3), (4, .int l4), (5, .int l5), (6, .int l6), (7, .int l7)]) hx hb dX9_span_70 hl (by decide) rfl (fun ls hl => ?_)
        refine lv_iload hx hb dX9_span_72 (lv_at hl 6 rfl) ?_
        refine lv_if_eq (tgt := 99) hx hb dX9_span_74 (by decide) (fun c20 => ?_) (fun c20 => ?_)
        · have hF := if_t c20 hF
          refine lv_iload hx hb dX9_span_99 (lv_at hl 0 rfl) ?_
          refine lv_goto (tgt := 106) hx hb dX9_span_101 (by decide) ?_
          refine lv_istore (lv' := [(6, .int r19), (8, .int r19), (0, .ref aM), (1, .int l1), (2, .int l2), (3, .int l3), (4, .int l4), (5, .int l5), (7, .int l7)]) hx hb dX9_span_106 hl (by decide) rfl (fun ls hl => ?_)
          refine lv_iinc (v := (l5 + (1 : Int32))) (lv' := [(5, .int (l5 + (1 : Int32))), (6, .int r19), (8, .int r19), (0, .ref aM), (1, .int l1), (2, .int l2), (3, .int l3), (4, .int l4), (7, .int l7)]) hx hb dX9_span_108 hl (k := 7) rfl rfl (by decide) rfl (fun ls hl => ?_)
          refine lv_iinc (v := (l7 + (1 : Int32))) (lv' := [(7, .int (l7 + (1 : Int32))), (5, .int (l5 + (1 : Int32))), (6, .int r19), (8, .int r19), (0, .ref aM), (1, .int l1), (2, .int l2), (3, .int l3), (4, .int l4)]) hx hb dX9_span_111 hl (k := 8) rfl rfl (by decide) rfl (fun ls hl => ?_)
          refine lv_goto (tgt := 45) hx hb dX9_span_114 (by decide) ?_
          exact ih (l5 + (1 : Int32)) r19 (l7 + (1 : Int32)) hF H _ _ hP hD hS (lv_sub hl [4, 5, 6, 7, 8, 1, 2, 0] rfl)
        · have hF := if_f c20 hF
          refine lv_iload hx hb dX9_span_77 (lv_at hl 5 rfl) ?_
          refine lv_if_ne (tgt := 92) hx hb dX9_span_79 (by decide) (fun c21 => ?_) (fun c21 => ?_)
          · have hF := if_f c21 hF
            refine lv_iload hx hb dX9_span_92 (lv_at hl 0 rfl) ?_
            refine lv_iload hx hb dX9_span_94 (lv_at hl 7 rfl) ?_
            refine lv_icmp_le (tgt := 104) hx hb dX9_span_96 (by decide) (fun c22 => ?_) (fun c22 => ?_)
            · have hF := if_t c22 hF
              refine lv_iload hx hb dX9_span_104 (lv_at hl 7 rfl) ?_
              refine lv_istore (lv' := [(6, .int l6), (8, .int r19), (0, .ref aM), (1, .int l1), (2, .int l2), (3, .int l3), (4, .int l4), (5, .int l5), (7, .int l7)]) hx hb dX9_span_106 hl (by decide) rfl (fun ls hl => ?_)
              refine lv_iinc (v := (l5 + (1 : Int32))) (lv' := [(5, .int (l5 + (1 : Int32))), (6, .int l6), (8, .int r19), (0, .ref aM), (1, .int l1), (2, .int l2), (3, .int l3), (4, .int l4), (7, .int l7)]) hx hb dX9_span_108 hl (k := 7) rfl rfl (by decide) rfl (fun ls hl => ?_)
              refine lv_iinc (v := (l7 + (1 : Int32))) (lv' := [(7, .int (l7 + (1 : Int32))), (5, .int (l5 + (1 : Int32))), (6, .int l6), (8, .int r19), (0, .ref aM), (1, .int l1), (2, .int l2), (3, .int l3), (4, .int l4)]) hx hb dX9_span_111 hl (k := 8) rfl rfl (by decide) rfl (fun ls hl => ?_)
              refine lv_goto (tgt := 45) hx hb dX9_span_114 (by decide) ?_
              exact ih (l5 + (1 : Int32)) l6 (l7 + (1 : Int32)) hF H _ _ hP hD hS (lv_sub hl [4, 5, 6, 7, 8, 1, 2, 0] rfl)
            · have hF := if_f c22 hF
              refine lv_iload hx hb dX9_span_99 (lv_at hl 0 rfl) ?_
              refine lv_goto (tgt := 106) hx hb dX9_span_101 (by decide) ?_
              refine lv_istore (lv' := [(6, .int r19), (8, .int r19), (0, .ref aM), (1, .int l1), (2, .int l2), (3, .int l3), (4, .int l4), (5, .int l5), (7, .int l7)]) hx hb dX9_span_106 hl (by decide) rfl (fun ls hl => ?_)
              refine lv_iinc (v := (l5 + (1 : Int32))) (lv' := [(5, .int (l5 + (1 : Int32))), (6, .int r19), (8, .int r19), (0, .ref aM), (1, .int l1), (2, .int l2), (3, .int l3), (4, .int l4), (7, .int l7)]) hx hb dX9_span_108 hl (k := 7) rfl rfl (by decide) rfl (fun ls hl => ?_)
              refine lv_iinc (v := (l7 + (1 : Int32))) (lv' := [(7, .int (l7 + (1 : Int32))), (5, .int (l5 + (1 : Int32))), (6, .int r19), (8, .int r19), (0, .ref aM), (1, .int l1), (2, .int l2), (3, .int l3), (4, .int l4)]) hx hb dX9_span_111 hl (k := 8) rfl rfl (by decide) rfl (fun ls hl => ?_)
              refine lv_goto (tgt := 45) hx hb dX9_span_114 (by decide) ?_
              exact ih (l5 + (1 : Int32)) r19 (l7 + (1 : Int32)) hF H _ _ hP hD hS (lv_sub hl [4, 5, 6, 7, 8, 1, 2, 0] rfl)
          · have hF := if_t c21 hF
            refine lv_iload hx hb dX9_span_82 (lv_at hl 0 rfl) ?_
            refine lv_iload hx hb dX9_span_84 (lv_at hl 7 rfl) ?_
            refine lv_icmp_ge (tgt := 104) hx hb dX9_span_86 (by decide) (fun c23 => ?_) (fun c23 => ?_)
            · have hF := if_t c23 hF
              refine lv_iload hx hb dX9_span_104 (lv_at hl 7 rfl) ?_
              refine lv_istore (lv' := [(6, .int l6), (8, .int r19), (0, .ref aM), (1, .int l1), (2, .int l2), (3, .int l3), (4, .int l4), (5, .int l5), (7, .int l7)]) hx hb dX9_span_106 hl (by decide) rfl (fun ls hl => ?_)
              refine lv_iinc (v := (l5 + (1 : Int32))) (lv' := [(5, .int (l5 + (1 : Int32))), (6, .int l6), (8, .int r19), (0, .ref aM), (1, .int l1), (2, .int l2), (3, .int l3), (4, .int l4), (7, .int l7)]) hx hb dX9_span_108 hl (k := 7) rfl rfl (by decide) rfl (fun ls hl => ?_)
              refine lv_iinc (v := (l7 + (1 : Int32))) (lv' := [(7, .int (l7 + (1 : Int32))), (5, .int (l5 + (1 : Int32))), (6, .int l6), (8, .int r19), (0, .ref aM), (1, .int l1), (2, .int l2), (3, .int l3), (4, .int l4)]) hx hb dX9_span_111 hl (k := 8) rfl rfl (by decide) rfl (fun ls hl => ?_)
              refine lv_goto (tgt := 45) hx hb dX9_span_114 (by decide) ?_
              exact ih (l5 + (1 : Int32)) l6 (l7 + (1 : Int32)) hF H _ _ hP hD hS (lv_sub hl [4, 5, 6, 7, 8, 1, 2, 0] rfl)
            · have hF := if_f c23 hF
              refine lv_goto (tgt := 99) hx hb dX9_span_89 (by decide) ?_
              refine lv_iload hx hb dX9_span_99 (lv_at hl 0 rfl) ?_
              refine lv_goto (tgt := 106) hx hb dX9_span_101 (by decide) ?_
              refine lv_istore (lv' := [(6, .int r19), (8, .int r19), (0, .ref aM), (1, .int l1), (2, .int l2), (3, .int l3), (4, .int l4), (5, .int l5), (7, .int l7)]) hx hb dX9_span_106 hl (by decide) rfl (fun ls hl => ?_)
              refine lv_iinc (v := (l5 + (1 : Int32))) (lv' := [(5, .int (l5 + (1 : Int32))), (6, .int r19), (8, .int r19), (0, .ref aM), (1, .int l1), (2, .int l2), (3, .int l3), (4, .int l4), (7, .int l7)]) hx hb dX9_span_108 hl (k := 7) rfl rfl (by decide) rfl (fun ls hl => ?_)
              refine lv_iinc (v := (l7 + (1 : Int32))) (lv' := [(7, .int (l7 + (1 : Int32))), (5, .int (l5 + (1 : Int32))), (6, .int r19), (8, .int r19), (0, .ref aM), (1, .int l1), (2, .int l2), (3, .int l3), (4, .int l4)]) hx hb dX9_span_111 hl (k := 8) rfl rfl (by decide) rfl (fun ls hl => ?_)
              refine lv_goto (tgt := 45) hx hb dX9_span_114 (by decide) ?_
              exact ih (l5 + (1 : Int32)) r19 (l7 + (1 : Int32)) hF H _ _ hP hD hS (lv_sub hl [4, 5, 6, 7, 8, 1, 2, 0] rfl)
set_option maxHeartbeats 4000000 in
set_option maxRecDepth 100000 in
theorem cr_X9_span (l : Launch) (D : va_G) (ky : Nat → ClassId) (aM mxs mus mys mgp mtp mme mle mlt mkl mln msz mit mmv : Nat) (sz N : Nat)  (mrm : Int32) (mer : Int32) (mtd : Int32) (mat : Int32) (mwr : Int32) (mkn : Int32) (mmb : Int32) (mwa : Int32) (mra : Int32) (mbl : Int32) (mbh : Int32) (dxs : Nat → Int32) (dus : Nat → Int32) (dys : Nat → Int32) (dgp : Nat → Int32) (dtp : Nat → Int32) (dme : Nat → Int32) (dle : Nat → Int32) (dlt : Nat → Int32) (dkl : Nat → Int32) (dln : Nat → Int32) (dsz : Nat → Int32) (dit : Nat → Int32) (dmv : Nat → Int32) (p0 : Int32) (p1 : Int32) (p2 : Int32) (p3 : Int32) (res : Int32) (hF : f_X9_span N p0 p1 p2 p3 mrm mer dxs dus dys dgp = some res) : MI l yX9_span wsX9_span rm_X9_span D ky sz [.ref aM, .int p0, .int p1, .int p2, .int p3] (w_model ky aM mxs mus mys mgp mtp mme mle mlt mkl mln msz mit mmv mrm mer mtd mat mwr mkn mmb mwa mra mbl mbh dxs dus dys dgp dtp dme dle dlt dkl dln dsz dit dmv) (w_model ky aM mxs mus mys mgp mtp mme mle mlt mkl mln msz mit mmv mrm mer mtd mat mwr mkn mmb mwa mra mbl mbh dxs dus dys dgp dtp dme dle dlt dkl dln dsz dit dmv) res := by
  unfold MI
  refine Met.ofW (cc := cX9_span) (maxL := 9) (ret := (some .int)) (by decide) rfl ?_
  intro p e s m args below meth c s₁ B hml hv
  obtain ⟨rfl, hsz, hP, hK, hD0⟩ := hv
  have hx := B.exec
  have hb := B.bytes
  have hr := B.returns
  have hts := atoms_spec (ws := wsX9_span) B.pre
  have hown : s.vm.findClass RX9 = some m.cls := findClass_of_methodNamed B.named
  have hlocks := B.notSynchronized
  subst hsz
  have hD := hD0.self (sz := s.heap.size)
  generalize hAe : va_A (w_model ky aM mxs mus mys mgp mtp mme mle mlt mkl mln msz mit mmv mrm mer mtd mat mwr mkn mmb mwa mra mbl mbh dxs dus dys dgp dtp dme dle dlt dkl dln dsz dit dmv) s.heap.size = A at hD ⊢
  have hA : ∀ q : Nat, s.heap.size ≤ q → A q := fun q h => by rw [← hAe]; exact Or.inr h
  have hS : va_S A s.heap s.heap [] := va_S.rf
  have hP : va_P D vwCl (w_model ky aM mxs mus mys mgp mtp mme mle mlt mkl mln msz mit mmv mrm mer mtd mat mwr mkn mmb mwa mra mbl mbh dxs dus dys dgp dtp dme dle dlt dkl dln dsz dit dmv) s.heap := hP
  have hl := lv_entry ([.ref aM, .int p0, .int p1, .int p2, .int p3]) (n := 9) (Nat.le_of_ble_eq_true rfl)
  rw [lg_entry_eq]
  generalize (lg_sl ([.ref aM, .int p0, .int p1, .int p2, .int p3]) ++ List.replicate (9 - (lg_sl ([.ref aM, .int p0, .int p1, .int p2, .int p3])).length) Slot.unset).toArray = ls at hl ⊢
  have hl : lv_has ls 9 [(0, .ref aM), (1, .int p0), (2, .int p1), (3, .int p2), (4, .int p3)] := hl
  have C : cx p s m c ([.ref aM, .int p0, .int p1, .int p2, .int p3]).toArray D ky A cX9_span 9 wsX9_span RX9 := ⟨hx, hb, hml, hown, hts, hK, hA⟩
  have hQ : ∀ (pc : Nat) (H : Heap) (locs : List Loc) (ls : Array Slot), decode cX9_span pc = .ok (.ireturn, 1) → va_P D vwCl (w_model ky aM mxs mus mys mgp mtp mme mle mlt mkl mln msz mit mmv mrm mer mtd mat mwr mkn mmb mwa mra mbl mbh dxs dus dys dgp dtp dme dle dlt dkl dln dsz dit dmv) H → va_D A (w_model ky aM mxs mus mys mgp mtp mme mle mlt mkl mln msz mit mmv mrm mer mtd mat mwr mkn mmb mwa mra mbl mbh dxs dus dys dgp dtp dme dle dlt dkl dln dsz dit dmv) → va_S A s.heap H locs → W p l e rm_X9_span s m ([.ref aM, .int p0, .int p1, .int p2, .int p3]).toArray below meth c H locs 0 0 (MQ below (va_Qi (S := Unit) (fun r _ => r = res) (fun _ t => va_P D vwCl (w_model ky aM mxs mus mys mgp mtp mme mle mlt mkl mln msz mit mmv mrm mer mtd mat mwr mkn mmb mwa mra mbl mbh dxs dus dys dgp dtp dme dle dlt dkl dln dsz dit dmv) t.heap ∧ va_K D vwCl (tyW ky) t ∧ va_D A (w_model ky aM mxs mus mys mgp mtp mme mle mlt mkl mln msz mit mmv mrm mer mtd mat mwr mkn mmb mwa mra mbl mbh dxs dus dys dgp dtp dme dle dlt dkl dln dsz dit dmv)) A) ([.ref aM, .int p0, .int p1, .int p2, .int p3]).toArray s 0 0 A) (F0 m pc ls [.int res]) := fun pc H locs ls hd hP hD hS => W.iret hx hb hr (fun t ht hW => ⟨⟨res, (), rfl, rfl, by rw [ht]; exact hP, va_K.moved hW.alike hK, hD⟩, hS.F ht⟩) hS.2.2 hd
  unfold f_X9_span at hF
  refine lv_aload_n hx hb dX9_span_0 rfl (lv_at hl 0 rfl) ?_
  refine lv_iload_n hx hb dX9_span_1 rfl (lv_at hl 1 rfl) ?_
  obtain ⟨r2, h1, hF⟩ := b1_s hF
  refine cl_vi (As := [.int p0]) (rest := []) (w' := (w_model ky aM mxs mus mys mgp mtp mme mle mlt mkl mln msz mit mmv mrm mer mtd mat mwr mkn mmb mwa mra mbl mbh dxs dus dys dgp dtp dme dle dlt dkl dln dsz dit dmv)) ⟨hx, hb, hml, hown, hts⟩ hK hP hD hS hA (c_X9_isHeap l D ky aM mxs mus mys mgp mtp mme mle mlt mkl mln msz mit mmv _ N  mrm mer mtd mat mwr mkn mmb mwa mra mbl mbh dxs dus dys dgp dtp dme dle dlt dkl dln dsz dit dmv p0 r2 h1) (cwV 1 hts gX9_span_X9_isHeap rfl rfl rfl (by decide +kernel) ⟨Nat.le_of_ble_eq_true rfl, Nat.le_of_ble_eq_true rfl⟩) [0, 1, 2, 3, 4, 5, 6, 7, 8, 9, 10, 11, 12, 13] [] [0, 1, 2, 3, 4, 5, 6, 7, 8, 9, 10, 11, 12, 13] 0 8 rfl rfl rfl rfl (wr := []) rfl (by decide) rfl rfl hl.1 (Nat.le_of_ble_eq_true rfl) dX9_span_2 ⟨Nat.zero_le _, Nat.zero_le _⟩ (fun H locs hP hD hS => ?_)
  refine lv_if_eq (tgt := 33) hx hb dX9_span_5 (by decide) (fun c3 => ?_) (fun c3 => ?_)
  · have hF := if_t c3 hF
    refine lv_ldc hx hb hown (hts _ kX9_span_0) dX9_span_33 ?_
    have hF := Option.some.inj hF
    subst hF
    exact hQ _ _ _ _ dX9_span_35 hP hD hS
  · have hF := if_f c3 hF
    refine lv_iload_n hx hb dX9_span_8 rfl (lv_at hl 2 rfl) ?_
    obtain ⟨r5, h4, hF⟩ := b1_s hF
    refine cl_si (As := [.int p1]) (rest := []) ⟨hx, hb, hml, hown, hts⟩ hK hP hD hS hA (c_X9_isSmall l D ky  _ N   p1 r5 h4) (va_cwS 1 hts gX9_span_X9_isSmall rfl rfl rfl (by decide +kernel) ⟨Nat.le_of_ble_eq_true rfl, Nat.le_of_ble_eq_true rfl⟩) rfl hl.1 (Nat.le_of_ble_eq_true rfl) dX9_span_9 ⟨Nat.zero_le _, Nat.zero_le _⟩ (fun H locs hP hD hS => ?_)
    refine lv_if_eq (tgt := 33) hx hb dX9_span_12 (by decide) (fun c6 => ?_) (fun c6 => ?_)
    · have hF := if_t c6 hF
      refine lv_ldc hx hb hown (hts _ kX9_span_0) dX9_span_33 ?_
      have hF := Option.some.inj hF
      subst hF
      exact hQ _ _ _ _ dX9_span_35 hP hD hS
    · have hF := if_f c6 hF
      refine lv_iload_n hx hb dX9_span_15 rfl (lv_at hl 3 rfl) ?_
      obtain ⟨r8, h7, hF⟩ := b1_s hF
      refine cl_si (As := [.int p2]) (rest := []) ⟨hx, hb, hml, hown, hts⟩ hK hP hD hS hA (c_X9_isSmall l D ky  _ N   p2 r8 h7) (va_cwS 1 hts gX9_span_X9_isSmall rfl rfl rfl (by decide +kernel) ⟨Nat.le_of_ble_eq_true rfl, Nat.le_of_ble_eq_true rfl⟩) rfl hl.1 (Nat.le_of_ble_eq_true rfl) dX9_span_16 ⟨Nat.zero_le _, Nat.zero_le _⟩ (fun H locs hP hD hS => ?_)
      refine lv_if_eq (tgt := 33) hx hb dX9_span_19 (by decide) (fun c9 => ?_) (fun c9 => ?_)
      · have hF := if_t c9 hF
        refine lv_ldc hx hb hown (hts _ kX9_span_0) dX9_span_33 ?_
        have hF := Option.some.inj hF
        subst hF
        exact hQ _ _ _ _ dX9_span_35 hP hD hS
      · have hF := if_f c9 hF
        refine lv_iload hx hb dX9_span_22 (lv_at hl 4 rfl) ?_
        refine lv_i2l (v := (p3.toInt64)) hx hb dX9_span_24 rfl ?_
        refine lv_lconst (v := (0 : Int64)) hx hb dX9_span_25 (by decide) ?_
        refine lv_lconst (v := (1 : Int64)) hx hb dX9_span_26 (by decide) ?_
        obtain ⟨r11, h10, hF⟩ := b1_s hF
        refine cl_si (As := [.long (p3.toInt64), .long (0 : Int64), .long (1 : Int64)]) (rest := []) ⟨hx, hb, hml, hown, hts⟩ hK hP hD hS hA (c_X9_in l D ky  _ N   (p3.toInt64) (0 : Int64) (1 : Int64) r11 h10) (va_cwS 3 hts gX9_span_X9_in rfl rfl rfl (by decide +kernel) ⟨Nat.le_of_ble_eq_true rfl, Nat.le_of_ble_eq_true rfl⟩) rfl hl.1 (Nat.le_of_ble_eq_true rfl) dX9_span_27 ⟨Nat.zero_le _, Nat.zero_le _⟩ (fun H locs hP hD hS => ?_)
        refine lv_if_ne (tgt := 36) hx hb dX9_span_30 (by decide) (fun c12 => ?_) (fun c12 => ?_)
        · have hF := if_f c12 hF
          refine lv_iconst (v := (0 : Int32)) hx hb dX9_span_36 (by decide) ?_
          refine lv_istore (lv' := [(5, .int (0 : Int32)), (0, .ref aM), (1, .int p0), (2, .int p1), (3, .int p2), (4, .int p3)]) hx hb dX9_span_37 hl (by decide) rfl (fun ls hl => ?_)
          refine lv_iconst (v := (0 : Int32)) hx hb dX9_span_39 (by decide) ?_
          refine lv_istore (lv' := [(6, .int (0 : Int32)), (5, .int (0 : Int32)), (0, .ref aM), (1, .int p0), (2, .int p1), (3, .int p2), (4, .int p3)]) hx hb dX9_span_40 hl (by decide) rfl (fun ls hl => ?_)
          refine lv_iconst (v := (0 : Int32)) hx hb dX9_span_42 (by decide) ?_
          refine lv_istore (lv' := [(7, .int (0 : Int32)), (6, .int (0 : Int32)), (5, .int (0 : Int32)), (0, .ref aM), (1, .int p0), (2, .int p1), (3, .int p2), (4, .int p3)]) hx hb dX9_span_43 hl (by decide) rfl (fun ls hl => ?_)
          exact w_X9_span_45 N C res hQ p0 p1 p2 p3 N (0 : Int32) (0 : Int32) (0 : Int32) hF _ _ _ hP hD hS (lv_sub hl [3, 4, 5, 6, 7, 2, 1, 0] rfl)
        · have hF := if_t c12 hF
          refine lv_ldc hx hb hown (hts _ kX9_span_0) dX9_span_33 ?_
          have hF := Option.some.inj hF
          subst hF
          exact hQ _ _ _ _ dX9_span_35 hP hD hS
theorem c_X9_span (l : Launch) (D : va_G) (ky : Nat → ClassId) (aM mxs mus mys mgp mtp mme mle mlt mkl mln msz mit mmv : Nat) (sz N : Nat)  (mrm : Int32) (mer : Int32) (mtd : Int32) (mat : Int32) (mwr : Int32) (mkn : Int32) (mmb : Int32) (mwa : Int32) (mra : Int32) (mbl : Int32) (mbh : Int32) (dxs : Nat → Int32) (dus : Nat → Int32) (dys : Nat → Int32) (dgp : Nat → Int32) (dtp : Nat → Int32) (dme : Nat → Int32) (dle : Nat → Int32) (dlt : Nat → Int32) (dkl : Nat → Int32) (dln : Nat → Int32) (dsz : Nat → Int32) (dit : Nat → Int32) (dmv : Nat → Int32) (p0 : Int32) (p1 : Int32) (p2 : Int32) (p3 : Int32) (rv : Int32) (hF : f_X9_span N p0 p1 p2 p3 mrm mer dxs dus dys dgp = some (rv)) : MI l yX9_span wsX9_span rm_X9_span D ky sz [.ref aM, .int p0, .int p1, .int p2, .int p3] (w_model ky aM mxs mus mys mgp mtp mme mle mlt mkl mln msz mit mmv mrm mer mtd mat mwr mkn mmb mwa mra mbl mbh dxs dus dys dgp dtp dme dle dlt dkl dln dsz dit dmv) (w_model ky aM mxs mus mys mgp mtp mme mle mlt mkl mln msz mit mmv mrm mer mtd mat mwr mkn mmb mwa mra mbl mbh dxs dus dys dgp dtp dme dle dlt dkl dln dsz dit dmv) rv :=
  cr_X9_span l D ky aM mxs mus mys mgp mtp mme mle mlt mkl mln msz mit mmv sz N mrm mer mtd mat mwr mkn mmb mwa mra mbl mbh dxs dus dys dgp dtp dme dle dlt dkl dln dsz dit dmv p0 p1 p2 p3 (rv) hF
abbrev rm_X9_line : Room := { frames := 2, cells := 0, slots := 0, locals := 46 }
theorem kX9_line_0 : (Cond.constant RX9 129 (-1000001)) ∈ wsX9_line := by decide +kernel
theorem kX9_line_1 : (Cond.constantLong RX9 127 (2)) ∈ wsX9_line := by decide +kernel
theorem kX9_line_2 : (Cond.constant RX9 130 (-1000004)) ∈ wsX9_line := by decide +kernel
theorem iX9_line_X9 : ∀ w ∈ wsX90, w ∈ wsX9_line := by decide +kernel
theorem kX9_line_4 : (Cond.fieldLink RX9 62 "TwoLawsModel" "rowMany" "I") ∈ wsX9_line := by decide +kernel
theorem kX9_line_5 : (Cond.fieldLink RX9 7 "TwoLawsModel" "xs" "[I") ∈ wsX9_line := by decide +kernel
theorem kX9_line_6 : (Cond.fieldLink RX9 13 "TwoLawsModel" "us" "[I") ∈ wsX9_line := by decide +kernel
set_option maxHeartbeats 4000000 in
set_option maxRecDepth 100000 in
theorem w_X9_line_124 {p : Program} {l : Launch} {e : Env} {s : State} {m : MethodId} {args : Array Value} {below : List Frame} {meth : Method} {c : Code} {Q : State → Prop} {A : Nat → Prop} {D : va_G} {ky : Nat → ClassId} {aM mxs mus mys mgp mtp mme mle mlt mkl mln msz mit mmv : Nat} {mrm : Int32} {mer : Int32} {mtd : Int32} {mat : Int32} {mwr : Int32} {mkn : Int32} {mmb : Int32} {mwa : Int32} {mra : Int32} {mbl : Int32} {mbh : Int32} {dxs : Nat → Int32} {dus : Nat → Int32} {dys : Nat → Int32} {dgp : Nat → Int32} {dtp : Nat → Int32} {dme : Nat → Int32} {dle : Nat → Int32} {dlt : Nat → Int32} {dkl : Nat → Int32} {dln : Nat → Int32} {dsz : Nat → Int32} {dit : Nat → Int32} {dmv : Nat → Int32} (N : Nat) (C : cx p s m c args D ky A cX9_line 10 wsX9_line RX9) (res : Int32) (hQ : ∀ (pc : Nat) (H : Heap) (locs : List Loc) (ls : Array Slot), decode cX9_line pc = .ok (.ireturn, 1) → va_P D vwCl (w_model ky aM mxs mus mys mgp mtp mme mle mlt mkl mln msz mit mmv mrm mer mtd mat mwr mkn mmb mwa mra mbl mbh dxs dus dys dgp dtp dme dle dlt dkl dln dsz dit dmv) H → va_D A (w_model ky aM mxs mus mys mgp mtp mme mle mlt mkl mln msz mit mmv mrm mer mtd mat mwr mkn mmb mwa mra mbl mbh dxs dus dys dgp dtp dme dle dlt dkl dln dsz dit dmv) → va_S A s.heap H locs → W p l e rm_X9_line s m args below meth c H locs 0 0 Q (F0 m pc ls [.int res])) (l1 : Int32) (l2 : Int32) (l3 : Int32) (k41 : Int32 → Option (Int32)) (hk41 : ∀ (l4 : Int32), k41 l4 = some res → ∀ (H : Heap) (locs : List Loc) (ls : Array Slot), va_P D vwCl (w_model ky aM mxs mus mys mgp mtp mme mle mlt mkl mln msz mit mmv mrm mer mtd mat mwr mkn mmb mwa mra mbl mbh dxs dus dys dgp dtp dme dle dlt dkl dln dsz dit dmv) H → va_D A (w_model ky aM mxs mus mys mgp mtp mme mle mlt mkl mln msz mit mmv mrm mer mtd mat mwr mkn mmb mwa mra mbl mbh dxs dus dys dgp dtp dme dle dlt dkl dln dsz dit dmv) → va_S A s.heap H locs → lv_has ls 10 [(0, .ref aM), (1, .int l1), (2, .int l2), (3, .int l3), (4, .int l4)] → W p l e rm_X9_line s m args below meth c H locs 0 0 Q (F0 m 41 ls [])) (l4 : Int32) (k51 : Int32 → Option (Int32)) (hk51 : ∀ (l5 : Int32), k51 l5 = some res → ∀ (H : Heap) (locs : List Loc) (ls : Array Slot), va_P D vwCl (w_model ky aM mxs mus mys mgp mtp mme mle mlt mkl mln msz mit mmv mrm mer mtd mat mwr mkn mmb mwa mra mbl mbh dxs dus dys dgp dtp dme dle dlt dkl dln dsz dit dmv) H → va_D A (w_model ky aM mxs mus mys mgp mtp mme mle mlt mkl mln msz mit mmv mrm mer mtd mat mwr mkn mmb mwa mra mbl mbh dxs dus dys dgp dtp dme dle dlt dkl dln dsz dit dmv) → va_S A s.heap H locs → lv_has ls 10 [(0, .ref aM), (1, .int l1), (2, .int l2), (3, .int l3), (4, .int l4), (5, .int l5)] → W p l e rm_X9_line s m args below meth c H locs 0 0 Q (F0 m 51 ls [])) (l5 : Int32) (k68 : Int32 → Int32 → Int32 → Option (Int32)) (hk68 : ∀ (l6 : Int32) (l7 : Int32) (l8 : Int32), k68 l6 l7 l8 = some res → ∀ (H : Heap) (locs : List Loc) (ls : Array Slot), va_P D vwCl (w_model ky aM mxs mus mys mgp mtp mme mle mlt mkl mln msz mit mmv mrm mer mtd mat mwr mkn mmb mwa mra mbl mbh dxs dus dys dgp dtp dme dle dlt dkl dln dsz dit dmv) H → va_D A (w_model ky aM mxs mus mys mgp mtp mme mle mlt mkl mln msz mit mmv mrm mer mtd mat mwr mkn mmb mwa mra mbl mbh dxs dus dys dgp dtp dme dle dlt dkl dln dsz dit dmv) → va_S A s.heap H locs → lv_has ls 10 [(0, .ref aM), (1, .int l1), (2, .int l2), (3, .int l3), (4, .int l4), (5, .int l5), (6, .int l6), (7, .int l7), (8, .int l8)] → W p l e rm_X9_line s m args below meth c H locs 0 0 Q (F0 m 68 ls [])) (l7 : Int32) (l8 : Int32) (l9 : Int32) (t0 : Int32) (hF : f_X9_line_124 N k41 k51 k68 l1 l2 l3 l4 l5 l7 l8 l9 t0 mrm dxs dus = some res) : ∀ (H : Heap) (locs : List Loc) (ls : Array Slot), va_P D vwCl (w_model ky aM mxs mus mys mgp mtp mme mle mlt mkl mln msz mit mmv mrm mer mtd mat mwr mkn mmb mwa mra mbl mbh dxs dus dys dgp dtp dme dle dlt dkl dln dsz dit dmv) H → va_D A (w_model ky aM mxs mus mys mgp mtp mme mle mlt mkl mln msz mit mmv mrm mer mtd mat mwr mkn mmb mwa mra mbl mbh dxs dus dys dgp dtp dme dle dlt dkl dln dsz dit dmv) → va_S A s.heap H locs → lv_has ls 10 [(0, .ref aM), (1, .int l1), (2, .int l2), (3, .int l3), (4, .int l4), (5, .int l5), (7, .int l7), (8, .int l8), (9, .int l9)] → W p l e rm_X9_line s m args below meth c H locs 0 0 Q (F0 m 124 ls [.int t0]) := by
  obtain ⟨hx, hb, hml, hown, hts, hK, hA⟩ := id C
  intro H locs ls hP hD hS hl
  unfold f_X9_line_124 at hF
  refine lv_istore (lv' := [(6, .int t0), (0, .ref aM), (1, .int l1), (2, .int l2), (3, .int l3), (4, .int l4), (5, .int l5), (7, .int l7), (8, .int l8), (9, .int l9)]) hx hb dX9_line_124 hl (by decide) rfl (fun ls hl => ?_)
  refine lv_iload_n hx hb dX9_line_126 rfl (lv_at hl 3 rfl) ?_
  refine lv_iload hx hb dX9_line_127 (lv_at hl 8 rfl) ?_
  refine lv_ishr hx hb dX9_line_129 ?_
  refine lv_iconst (v := (1 : Int32)) hx hb dX9_line_130 (by decide) ?_
  refine lv_iand hx hb dX9_line_131 ?_
  refine lv_iconst (v := (1 : Int32)) hx hb dX9_line_132 (by decide) ?_
  refine lv_icmp_ne (tgt := 148) hx hb dX9_line_133 (by decide) (fun c22 => ?_) (fun c22 => ?_)
  · have hF := if_f c22 hF
    refine lv_iload hx hb dX9_line_148 (lv_at hl 7 rfl) ?_
    refine lv_istore (lv' := [(7, .int l7), (6, .int t0), (0, .ref aM), (1, .int l1), (2, .int l2), (3, .int l3), (4, .int l4), (5, .int l5), (8, .int l8), (9, .int l9)]) hx hb dX9_line_150 hl (by decide) rfl (fun ls hl => ?_)
    refine lv_iinc (v := (l8 + (1 : Int32))) (lv' := [(8, .int (l8 + (1 : Int32))), (7, .int l7), (6, .int t0), (0, .ref aM), (1, .int l1), (2, .int l2), (3, .int l3), (4, .int l4), (5, .int l5), (9, .int l9)]) hx hb dX9_line_152 hl (k := 8) rfl rfl (by decide) rfl (fun ls hl => ?_)
    refine lv_goto (tgt := 68) hx hb dX9_line_155 (by decide) ?_
    exact hk68 t0 l7 (l8 + (1 : Int32)) hF H _ _ hP hD hS (lv_sub hl [3, 4, 5, 6, 7, 8, 2, 1, 0] rfl)
  · have hF := if_t c22 hF
    refine lv_iload hx hb dX9_line_136 (lv_at hl 9 rfl) ?_
    refine lv_iload hx hb dX9_line_138 (lv_at hl 7 rfl) ?_
    refine lv_icmp_le (tgt := 148) hx hb dX9_line_140 (by decide) (fun c23 => ?_) (fun c23 => ?_)
    · have hF := if_t c23 hF
      refine lv_iload hx hb dX9_line_148 (lv_at hl 7 rfl) ?_
      refine lv_istore (lv' := [(7, .int l7), (6, .int t0), (0, .ref aM), (1, .int l1), (2, .int l2), (3, .int l3), (4, .int l4), (5, .int l5), (8, .int l8), (9, .int l9)]) hx hb dX9_line_150 hl (by decide) rfl (fun ls hl => ?_)
      refine lv_iinc (v := (l8 + (1 : Int32))) (lv' := [(8, .int (l8 + (1 : Int32))), (7, .int l7), (6, .int t0), (0, .ref aM), (1, .int l1), (2, .int l2), (3, .int l3), (4, .int l4), (5, .int l5), (9, .int l9)]) hx hb dX9_line_152 hl (k := 8) rfl rfl (by decide) rfl (fun ls hl => ?_)
      refine lv_goto (tgt := 68) hx hb dX9_line_155 (by decide) ?_
      exact hk68 t0 l7 (l8 + (1 : Int32)) hF H _ _ hP hD hS (lv_sub hl [3, 4, 5, 6, 7, 8, 2, 1, 0] rfl)
    · have hF := if_f c23 hF
      refine lv_iload hx hb dX9_line_143 (lv_at hl 9 rfl) ?_
      refine lv_goto (tgt := 150) hx hb dX9_line_145 (by decide) ?_
      refine lv_istore (lv' := [(7, .int l9), (6, .int t0), (0, .ref aM), (1, .int l1), (2, .int l2), (3, .int l3), (4, .int l4), (5, .int l5), (8, .int l8), (9, .int l9)]) hx hb dX9_line_150 hl (by decide) rfl (fun ls hl => ?_)
      refine lv_iinc (v := (l8 + (1 : Int32))) (lv' := [(8, .int (l8 + (1 : Int32))), (7, .int l9), (6, .int t0), (0, .ref aM), (1, .int l1), (2, .int l2), (3, .int l3), (4, .int l4), (5, .int l5), (9, .int l9)]) hx hb dX9_line_152 hl (k := 8) rfl rfl (by decide) rfl (fun ls hl => ?_)
      refine lv_goto (tgt := 68) hx hb dX9_line_155 (by decide) ?_
      exact hk68 t0 l9 (l8 + (1 : Int32)) hF H _ _ hP hD hS (lv_sub hl [3, 4, 5, 6, 7, 8, 2, 1, 0] rfl)
set_option maxHeartbeats 4000000 in
set_option maxRecDepth 100000 in
theorem w_X9_line_68 {p : Program} {l : Launch} {e : Env} {s : State} {m : MethodId} {args : Array Value} {below : List Frame} {meth : Method} {c : Code} {Q : State → Prop} {A : Nat → Prop} {D : va_G} {ky : Nat → ClassId} {aM mxs mus mys mgp mtp mme mle mlt mkl mln msz mit mmv : Nat} {mrm : Int32} {mer : Int32} {mtd : Int32} {mat : Int32} {mwr : Int32} {mkn : Int32} {mmb : Int32} {mwa : Int32} {mra : Int32} {mbl : Int32} {mbh : Int32} {dxs : Nat → Int32} {dus : Nat → Int32} {dys : Nat → Int32} {dgp : Nat → Int32} {dtp : Nat → Int32} {dme : Nat → Int32} {dle : Nat → Int32} {dlt : Nat → Int32} {dkl : Nat → Int32} {dln : Nat → Int32} {dsz : Nat → Int32} {dit : Nat → Int32} {dmv : Nat → Int32} (N : Nat) (C : cx p s m c args D ky A cX9_line 10 wsX9_line RX9) (res : Int32) (hQ : ∀ (pc : Nat) (H : Heap) (locs : List Loc) (ls : Array Slot), decode cX9_line pc = .ok (.ireturn, 1) → va_P D vwCl (w_model ky aM mxs mus mys mgp mtp mme mle mlt mkl mln msz mit mmv mrm mer mtd mat mwr mkn mmb mwa mra mbl mbh dxs dus dys dgp dtp dme dle dlt dkl dln dsz dit dmv) H → va_D A (w_model ky aM mxs mus mys mgp mtp mme mle mlt mkl mln msz mit mmv mrm mer mtd mat mwr mkn mmb mwa mra mbl mbh dxs dus dys dgp dtp dme dle dlt dkl dln dsz dit dmv) → va_S A s.heap H locs → W p l e rm_X9_line s m args below meth c H locs 0 0 Q (F0 m pc ls [.int res])) (l1 : Int32) (l2 : Int32) (l3 : Int32) (k41 : Int32 → Option (Int32)) (hk41 : ∀ (l4 : Int32), k41 l4 = some res → ∀ (H : Heap) (locs : List Loc) (ls : Array Slot), va_P D vwCl (w_model ky aM mxs mus mys mgp mtp mme mle mlt mkl mln msz mit mmv mrm mer mtd mat mwr mkn mmb mwa mra mbl mbh dxs dus dys dgp dtp dme dle dlt dkl dln dsz dit dmv) H → va_D A (w_model ky aM mxs mus mys mgp mtp mme mle mlt mkl mln msz mit mmv mrm mer mtd mat mwr mkn mmb mwa mra mbl mbh dxs dus dys dgp dtp dme dle dlt dkl dln dsz dit dmv) → va_S A s.heap H locs → lv_has ls 10 [(0, .ref aM), (1, .int l1), (2, .int l2), (3, .int l3), (4, .int l4)] → W p l e rm_X9_line s m args below meth c H locs 0 0 Q (F0 m 41 ls [])) (l4 : Int32) (k51 : Int32 → Option (Int32)) (hk51 : ∀ (l5 : Int32), k51 l5 = some res → ∀ (H : Heap) (locs : List Loc) (ls : Array Slot), va_P D vwCl (w_model ky aM mxs mus mys mgp mtp mme mle mlt mkl mln msz mit mmv mrm mer mtd mat mwr mkn mmb mwa mra mbl mbh dxs dus dys dgp dtp dme dle dlt dkl dln dsz dit dmv) H → va_D A (w_model ky aM mxs mus mys mgp mtp mme mle mlt mkl mln msz mit mmv mrm mer mtd mat mwr mkn mmb mwa mra mbl mbh dxs dus dys dgp dtp dme dle dlt dkl dln dsz dit dmv) → va_S A s.heap H locs → lv_has ls 10 [(0, .ref aM), (1, .int l1), (2, .int l2), (3, .int l3), (4, .int l4), (5, .int l5)] → W p l e rm_X9_line s m args below meth c H locs 0 0 Q (F0 m 51 ls [])) (l5 : Int32) : ∀ (n : Nat) (l6 : Int32) (l7 : Int32) (l8 : Int32), f_X9_line_68 N k41 k51 l1 l2 l3 l4 l5 mrm dxs dus n l6 l7 l8 = some res → ∀ (H : Heap) (locs : List Loc) (ls : Array Slot), va_P D vwCl (w_model ky aM mxs mus mys mgp mtp mme mle mlt mkl mln msz mit mmv mrm mer mtd mat mwr mkn mmb mwa mra mbl mbh dxs dus dys dgp dtp dme dle dlt dkl dln dsz dit dmv) H → va_D A (w_model ky aM mxs mus mys mgp mtp mme mle mlt mkl mln msz mit mmv mrm mer mtd mat mwr mkn mmb mwa mra mbl mbh dxs dus dys dgp dtp dme dle dlt dkl dln dsz dit dmv) → va_S A s.heap H locs → lv_has ls 10 [(0, .ref aM), (1, .int l1), (2, .int l2), (3, .int l3), (4, .int l4), (5, .int l5), (6, .int l6), (7, .int l7), (8, .int l8)] → W p l e rm_X9_line s m args below meth c H locs 0 0 Q (F0 m 68 ls []) := by
  obtain ⟨hx, hb, hml, hown, hts, hK, hA⟩ := id C
  intro n
  induction n with
  | zero =>
    intro l6 l7 l8 hF
    cases hF
  | succ n ih =>
    intro l6 l7 l8 hF H locs ls hP hD hS hl
    have hF : b_X9_line_68 N k41 k51 l1 l2 l3 l4 l5 mrm dxs dus (f_X9_line_68 N k41 k51 l1 l2 l3 l4 l5 mrm dxs dus n) l6 l7 l8 = some res := hF
    unfold b_X9_line_68 at hF
    refine lv_iload hx hb dX9_line_68 (lv_at hl 8 rfl) ?_
    refine lv_aload_n hx hb dX9_line_70 rfl (lv_at hl 0 rfl) ?_
    refine va_get (D := D) (ci := 8) (v := .int mrm) (C := RX9) (T := TX9) (N := 24) hx hb hts iX9_line_X9 hown hK hP 0 rfl rfl 0 (by decide) (hts _ kX9_line_4) (fun _ h9 => h9) rfl dX9_line_71 ?_
    refine lv_icmp_ge (tgt := 158) hx hb dX9_line_74 (by decide) (fun c13 => ?_) (fun c13 => ?_)
    · have hF := if_t c13 hF
      refine lv_iload hx hb dX9_line_158 (lv_at hl 7 rfl) ?_
      refine lv_iconst (v := (1 : Int32)) hx hb dX9_line_160 (by decide) ?_
      refine lv_iadd hx hb dX9_line_161 ?_
      refine lv_iload hx hb dX9_line_162 (lv_at hl 6 rfl) ?_
      refine lv_icmp_gt (tgt := 191) hx hb dX9_line_164 (by decide) (fun c14 => ?_) (fun c14 => ?_)
      · have hF := if_t c14 hF
        refine lv_iinc (v := (l5 + (1 : Int32))) (lv' := [(5, .int (l5 + (1 : Int32))), (0, .ref aM), (1, .int l1), (2, .int l2), (3, .int l3), (4, .int l4), (6, .int l6), (7, .int l7), (8, .int l8)]) hx hb dX9_line_191 hl (k := 5) rfl rfl (by decide) rfl (fun ls hl => ?_)
        refine lv_goto (tgt := 51) hx hb dX9_line_194 (by decide) ?_
        exact hk51 (l5 + (1 : Int32)) hF H _ _ hP hD hS (lv_sub hl [1, 2, 3, 4, 5, 0] rfl)
      · have hF := if_f c14 hF
        refine lv_iload_n hx hb dX9_line_167 rfl (lv_at hl 3 rfl) ?_
        refine lv_if_ne (tgt := 176) hx hb dX9_line_168 (by decide) (fun c15 => ?_) (fun c15 => ?_)
        · have hF := if_f c15 hF
          refine lv_iload_n hx hb dX9_line_176 rfl (lv_at hl 3 rfl) ?_
          refine lv_iconst (v := (1 : Int32)) hx hb dX9_line_177 (by decide) ?_
          refine lv_icmp_ne (tgt := 186) hx hb dX9_line_178 (by decide) (fun c16 => ?_) (fun c16 => ?_)
          · have hF := if_f c16 hF
            refine lv_iload hx hb dX9_line_186 (lv_at hl 7 rfl) ?_
            refine lv_iconst (v := (1 : Int32)) hx hb dX9_line_188 (by decide) ?_
            refine lv_iadd hx hb dX9_line_189 ?_
            have hF := Option.some.inj hF
            subst hF
            exact hQ _ H _ _ dX9_line_190 hP hD hS
          · have hF := if_t c16 hF
            refine lv_iload hx hb dX9_line_181 (lv_at hl 5 rfl) ?_
            refine lv_goto (tgt := 190) hx hb dX9_line_183 (by decide) ?_
            have hF := Option.some.inj hF
            subst hF
            exact hQ _ H _ _ dX9_line_190 hP hD hS
        · have hF := if_t c15 hF
          refine lv_iload hx hb dX9_line_171 (lv_at hl 4 rfl) ?_
          refine lv_goto (tgt := 190) hx hb dX9_line_173 (by decide) ?_
          have hF := Option.some.inj hF
          subst hF
          exact hQ _ H _ _ dX9_line_190 hP hD hS
    · have hF := if_f c13 hF
      refine lv_iload hx hb dX9_line_77 (lv_at hl 4 rfl) ?_
      refine lv_aload_n hx hb dX9_line_79 rfl (lv_at hl 0 rfl) ?_
      refine va_get (D := D) (ci := 8) (v := .ref mxs) (C := RX9) (T := TX9) (N := 24) hx hb hts iX9_line_X9 hown hK hP 0 rfl rfl 1 (by decide) (hts _ kX9_line_5) (fun _ h9 => h9) rfl dX9_line_80 ?_
      refine lv_iload hx hb dX9_line_83 (lv_at hl 8 rfl) ?_
      obtain ⟨h17, hF⟩ := gi_s hF
      refine va_iald hx hb hK hP 1 0 rfl rfl h17 dX9_line_85 ?_
      refine lv_imul hx hb dX9_line_86 ?_
      refine lv_iload hx hb dX9_line_87 (lv_at hl 5 rfl) ?_
      refine lv_aload_n hx hb dX9_line_89 rfl (lv_at hl 0 rfl) ?_
      refine va_get (D := D) (ci := 8) (v := .ref mus) (C := RX9) (T := TX9) (N := 24) hx hb hts iX9_line_X9 hown hK hP 0 rfl rfl 2 (by decide) (hts _ kX9_line_6) (fun _ h9 => h9) rfl dX9_line_90 ?_
      refine lv_iload hx hb dX9_line_93 (lv_at hl 8 rfl) ?_
      obtain ⟨h18, hF⟩ := gi_s hF
      refine va_iald hx hb hK hP 2 0 rfl rfl h18 dX9_line_95 ?_
      refine lv_imul hx hb dX9_line_96 ?_
      refine lv_iadd hx hb dX9_line_97 ?_
      refine lv_topi (fun v19 e_v19 => ?_)
      have hF := nm_s e_v19 hF
      refine lv_istore (lv' := [(9, .int v19), (0, .ref aM), (1, .int l1), (2, .int l2), (3, .int l3), (4, .int l4), (5, .int l5), (6, .int l6), (7, .int l7), (8, .int l8)]) hx hb dX9_line_98 hl (by decide) rfl (fun ls hl => ?_)
      refine lv_iload_n hx hb dX9_line_100 rfl (lv_at hl 2 rfl) ?_
      refine lv_iload hx hb dX9_line_101 (lv_at hl 9 rfl) ?_
      refine lv_ishr hx hb dX9_line_103 ?_
      refine lv_iconst (v := (1 : Int32)) hx hb dX9_line_104 (by decide) ?_
      refine lv_iand hx hb dX9_line_105 ?_
      refine lv_iconst (v := (1 : Int32)) hx hb dX9_line_106 (by decide) ?_
      refine lv_icmp_ne (tgt := 122) hx hb dX9_line_107 (by decide) (fun c20 => ?_) (fun c20 => ?_)
      · have hF := if_f c20 hF
        refine lv_iload hx hb dX9_line_122 (lv_at hl 7 rfl) ?_
        exact w_X9_line_124 N C res hQ l1 l2 l3 k41 hk41 l4 k51 hk51 l5 _ ih l7 l8 v19 l6 hF H _ _ hP hD hS (lv_sub hl [1, 2, 3, 4, 5, 6, 8, 9, 0] rfl)
      · have hF := if_t c20 hF
        refine lv_iload hx hb dX9_line_110 (lv_at hl 0 rfl) ?_
        refine lv_iload hx hb dX9_line_112 (lv_at hl 7 rfl) ?_
        refine lv_icmp_ge (tgt := 122) hx hb dX9_line_114 (by decide) (fun c21 => ?_) (fun c21 => ?_)
        · have hF := if_t c21 hF
          refine lv_iload hx hb dX9_line_122 (lv_at hl 7 rfl) ?_
          exact w_X9_line_124 N C res hQ l1 l2 l3 k41 hk41 l4 k51 hk51 l5 _ ih l7 l8 v19 l6 hF H _ _ hP hD hS (lv_sub hl [1, 2, 3, 4, 5, 6, 8, 9, 0] rfl)
        · have hF := if_f c21 hF
          refine lv_iload hx hb dX9_line_117 (lv_at hl 0 rfl) ?_
          refine lv_goto (tgt := 124) hx hb dX9_line_119 (by decide) ?_
          exact w_X9_line_124 N C res hQ l1 l2 l3 k41 hk41 l4 k51 hk51 l5 _ ih l7 l8 v19 v19 hF H _ _ hP hD hS (lv_sub hl [1, 2, 3, 4, 5, 6, 8, 9, 0] rfl)
set_option maxHeartbeats 4000000 in
set_option maxRecDepth 100000 in
theorem w_X9_line_51 {p : Program} {l : Launch} {e : Env} {s : State} {m : MethodId} {args : Array Value} {below : List Frame} {meth : Method} {c : Code} {Q : State → Prop} {A : Nat → Prop} {D : va_G} {ky : Nat → ClassId} {aM mxs mus mys mgp mtp mme mle mlt mkl mln msz mit mmv : Nat} {mrm : Int32} {mer : Int32} {mtd : Int32} {mat : Int32} {mwr : Int32} {mkn : Int32} {mmb : Int32} {mwa : Int32} {mra : Int32} {mbl : Int32} {mbh : Int32} {dxs : Nat → Int32} {dus : Nat → Int32} {dys : Nat → Int32} {dgp : Nat → Int32} {dtp : Nat → Int32} {dme : Nat → Int32} {dle : Nat → Int32} {dlt : Nat → Int32} {dkl : Nat → Int32} {dln : Nat → Int32} {dsz : Nat → Int32} {dit : Nat → Int32} {dmv : Nat → Int32} (N : Nat) (C : cx p s m c args D ky A cX9_line 10 wsX9_line RX9) (res : Int32) (hQ : ∀ (pc : Nat) (H : Heap) (locs : List Loc) (ls : Array Slot), decode cX9_line pc = .ok (.ireturn, 1) → va_P D vwCl (w_model ky aM mxs mus mys mgp mtp mme mle mlt mkl mln msz mit mmv mrm mer mtd mat mwr mkn mmb mwa mra mbl mbh dxs dus dys dgp dtp dme dle dlt dkl dln dsz dit dmv) H → va_D A (w_model ky aM mxs mus mys mgp mtp mme mle mlt mkl mln msz mit mmv mrm mer mtd mat mwr mkn mmb mwa mra mbl mbh dxs dus dys dgp dtp dme dle dlt dkl dln dsz dit dmv) → va_S A s.heap H locs → W p l e rm_X9_line s m args below meth c H locs 0 0 Q (F0 m pc ls [.int res])) (l1 : Int32) (l2 : Int32) (l3 : Int32) (k41 : Int32 → Option (Int32)) (hk41 : ∀ (l4 : Int32), k41 l4 = some res → ∀ (H : Heap) (locs : List Loc) (ls : Array Slot), va_P D vwCl (w_model ky aM mxs mus mys mgp mtp mme mle mlt mkl mln msz mit mmv mrm mer mtd mat mwr mkn mmb mwa mra mbl mbh dxs dus dys dgp dtp dme dle dlt dkl dln dsz dit dmv) H → va_D A (w_model ky aM mxs mus mys mgp mtp mme mle mlt mkl mln msz mit mmv mrm mer mtd mat mwr mkn mmb mwa mra mbl mbh dxs dus dys dgp dtp dme dle dlt dkl dln dsz dit dmv) → va_S A s.heap H locs → lv_has ls 10 [(0, .ref aM), (1, .int l1), (2, .int l2), (3, .int l3), (4, .int l4)] → W p l e rm_X9_line s m args below meth c H locs 0 0 Q (F0 m 41 ls [])) (l4 : Int32) : ∀ (n : Nat) (l5 : Int32), f_X9_line_51 N k41 l1 l2 l3 l4 mrm dxs dus n l5 = some res → ∀ (H : Heap) (locs : List Loc) (ls : Array Slot), va_P D vwCl (w_model ky aM mxs mus mys mgp mtp mme mle mlt mkl mln msz mit mmv mrm mer mtd mat mwr mkn mmb mwa mra mbl mbh dxs dus dys dgp dtp dme dle dlt dkl dln dsz dit dmv) H → va_D A (w_model ky aM mxs mus mys mgp mtp mme mle mlt mkl mln msz mit mmv mrm mer mtd mat mwr mkn mmb mwa mra mbl mbh dxs dus dys dgp dtp dme dle dlt dkl dln dsz dit dmv) → va_S A s.heap H locs → lv_has ls 10 [(0, .ref aM), (1, .int l1), (2, .int l2), (3, .int l3), (4, .int l4), (5, .int l5)] → W p l e rm_X9_line s m args below meth c H locs 0 0 Q (F0 m 51 ls []) := by
  obtain ⟨hx, hb, hml, hown, hts, hK, hA⟩ := id C
  intro n
  induction n with
  | zero =>
    intro l5 hF
    cases hF
  | succ n ih =>
    intro l5 hF H locs ls hP hD hS hl
    have hF : b_X9_line_51 N k41 l1 l2 l3 l4 mrm dxs dus (f_X9_line_51 N k41 l1 l2 l3 l4 mrm dxs dus n) l5 = some res := hF
    unfold b_X9_line_51 at hF
    refine lv_iload hx hb dX9_line_51 (lv_at hl 5 rfl) ?_
    refine lv_iconst (v := (3 : Int32)) hx hb dX9_line_53 (by decide) ?_
    refine lv_icmp_gt (tgt := 197) hx hb dX9_line_54 (by decide) (fun c12 => ?_) (fun c12 => ?_)
    · have hF := if_t c12 hF
      refine lv_iinc (v := (l4 + (1 : Int32))) (lv' := [(4, .int (l4 + (1 : Int32))), (0, .ref aM), (1, .int l1), (2, .int l2), (3, .int l3), (5, .int l5)]) hx hb dX9_line_197 hl (k := 4) rfl rfl (by decide) rfl (fun ls hl => ?_)
      refine lv_goto (tgt := 41) hx hb dX9_line_200 (by decide) ?_
      exact hk41 (l4 + (1 : Int32)) hF H _ _ hP hD hS (lv_sub hl [1, 2, 3, 4, 0] rfl)
    · have hF := if_f c12 hF
      refine lv_bipush (v := (99 : Int32)) hx hb dX9_line_57 (by decide) ?_
      refine lv_istore (lv' := [(6, .int (99 : Int32)), (0, .ref aM), (1, .int l1), (2, .int l2), (3, .int l3), (4, .int l4), (5, .int l5)]) hx hb dX9_line_59 hl (by decide) rfl (fun ls hl => ?_)
      refine lv_bipush (v := (-100 : Int32)) hx hb dX9_line_61 (by decide) ?_
      refine lv_istore (lv' := [(7, .int (-100 : Int32)), (6, .int (99 : Int32)), (0, .ref aM), (1, .int l1), (2, .int l2), (3, .int l3), (4, .int l4), (5, .int l5)]) hx hb dX9_line_63 hl (by decide) rfl (fun ls hl => ?_)
      refine lv_iconst (v := (0 : Int32)) hx hb dX9_line_65 (by decide) ?_
      refine lv_istore (lv' := [(8, .int (0 : Int32)), (7, .int (-100 : Int32)), (6, .int (99 : Int32)), (0, .ref aM), (1, .int l1), (2, .int l2), (3, .int l3), (4, .int l4), (5, .int l5)]) hx hb dX9_line_66 hl (by decide) rfl (fun ls hl => ?_)
      exact w_X9_line_68 N C res hQ l1 l2 l3 k41 hk41 l4 _ ih l5 N (99 : Int32) (-100 : Int32) (0 : Int32) hF H _ _ hP hD hS (lv_sub hl [3, 4, 5, 6, 7, 8, 2, 1, 0] rfl)
set_option maxHeartbeats 4000000 in
set_option maxRecDepth 100000 in
theorem w_X9_line_41 {p : Program} {l : Launch} {e : Env} {s : State} {m : MethodId} {args : Array Value} {below : List Frame} {meth : Method} {c : Code} {Q : State → Prop} {A : Nat → Prop} {D : va_G} {ky : Nat → ClassId} {aM mxs mus mys mgp mtp mme mle mlt mkl mln msz mit mmv : Nat} {mrm : Int32} {mer : Int32} {mtd : Int32} {mat : Int32} {mwr : Int32} {mkn : Int32} {mmb : Int32} {mwa : Int32} {mra : Int32} {mbl : Int32} {mbh : Int32} {dxs : Nat → Int32} {dus : Nat → Int32} {dys : Nat → Int32} {dgp : Nat → Int32} {dtp : Nat → Int32} {dme : Nat → Int32} {dle : Nat → Int32} {dlt : Nat → Int32} {dkl : Nat → Int32} {dln : Nat → Int32} {dsz : Nat → Int32} {dit : Nat → Int32} {dmv : Nat → Int32} (N : Nat) (C : cx p s m c args D ky A cX9_line 10 wsX9_line RX9) (res : Int32) (hQ : ∀ (pc : Nat) (H : Heap) (locs : List Loc) (ls : Array Slot), decode cX9_line pc = .ok (.ireturn, 1) → va_P D vwCl (w_model ky aM mxs mus mys mgp mtp mme mle mlt mkl mln msz mit mmv mrm mer mtd mat mwr mkn mmb mwa mra mbl mbh dxs dus dys dgp dtp dme dle dlt dkl dln dsz dit dmv) H → va_D A (w_model ky aM mxs mus mys mgp mtp mme mle mlt mkl mln msz mit mmv mrm mer mtd mat mwr mkn mmb mwa mra mbl mbh dxs dus dys dgp dtp dme dle dlt dkl dln dsz dit dmv) → va_S A s.heap H locs → W p l e rm_X9_line s m args below meth c H locs 0 0 Q (F0 m pc ls [.int res])) (l1 : Int32) (l2 : Int32) (l3 : Int32) : ∀ (n : Nat) (l4 : Int32), f_X9_line_41 N l1 l2 l3 mrm dxs dus n l4 = some res → ∀ (H : Heap) (locs : List Loc) (ls : Array Slot), va_P D vwCl (w_model ky aM mxs mus mys mgp mtp mme mle mlt mkl mln msz mit mmv mrm mer mtd mat mwr mkn mmb mwa mra mbl mbh dxs dus dys dgp dtp dme dle dlt dkl dln dsz dit dmv) H → va_D A (w_model ky aM mxs mus mys mgp mtp mme mle mlt mkl mln msz mit mmv mrm mer mtd mat mwr mkn mmb mwa mra mbl mbh dxs dus dys dgp dtp dme dle dlt dkl dln dsz dit dmv) → va_S A s.heap H locs → lv_has ls 10 [(0, .ref aM), (1, .int l1), (2, .int l2), (3, .int l3), (4, .int l4)] → W p l e rm_X9_line s m args below meth c H locs 0 0 Q (F0 m 41 ls []) := by
  obtain ⟨hx, hb, hml, hown, hts, hK, hA⟩ := id C
  intro n
  induction n with
  | zero =>
    intro l4 hF
    cases hF
  | succ n ih =>
    intro l4 hF H locs ls hP hD hS hl
    have hF : b_X9_line_41 N l1 l2 l3 mrm dxs dus (f_X9_line_41 N l1 l2 l3 mrm dxs dus n) l4 = some res := hF
    unfold b_X9_line_41 at hF
    refine lv_iload hx hb dX9_line_41 (lv_at hl 4 rfl) ?_
    refine lv_iconst (v := (3 : Int32)) hx hb dX9_line_43 (by decide) ?_
    refine lv_icmp_gt (tgt := 203) hx hb dX9_line_44 (by decide) (fun c11 => ?_) (fun c11 => ?_)
    · have hF := if_t c11 hF
      refine lv_ldc hx hb hown (hts _ kX9_line_2) dX9_line_203 ?_
      have hF := Option.some.inj hF
      subst hF
      exact hQ _ H _ _ dX9_line_205 hP hD hS
    · have hF := if_f c11 hF
      refine lv_bipush (v := (-3 : Int32)) hx hb dX9_line_47 (by decide) ?_
      refine lv_istore (lv' := [(5, .int (-3 : Int32)), (0, .ref aM), (1, .int l1), (2, .int l2), (3, .int l3), (4, .int l4)]) hx hb dX9_line_49 hl (by decide) rfl (fun ls hl => ?_)
      exact w_X9_line_51 N C res hQ l1 l2 l3 _ ih l4 N (-3 : Int32) hF H _ _ hP hD hS (lv_sub hl [1, 2, 3, 4, 5, 0] rfl)
set_option maxHeartbeats 4000000 in
set_option maxRecDepth 100000 in
theorem cr_X9_line (l : Launch) (D : va_G) (ky : Nat → ClassId) (aM mxs mus mys mgp mtp mme mle mlt mkl mln msz mit mmv : Nat) (sz N : Nat)  (mrm : Int32) (mer : Int32) (mtd : Int32) (mat : Int32) (mwr : Int32) (mkn : Int32) (mmb : Int32) (mwa : Int32) (mra : Int32) (mbl : Int32) (mbh : Int32) (dxs : Nat → Int32) (dus : Nat → Int32) (dys : Nat → Int32) (dgp : Nat → Int32) (dtp : Nat → Int32) (dme : Nat → Int32) (dle : Nat → Int32) (dlt : Nat → Int32) (dkl : Nat → Int32) (dln : Nat → Int32) (dsz : Nat → Int32) (dit : Nat → Int32) (dmv : Nat → Int32) (p0 : Int32) (p1 : Int32) (p2 : Int32) (res : Int32) (hF : f_X9_line N p0 p1 p2 mrm dxs dus = some res) : MI l yX9_line wsX9_line rm_X9_line D ky sz [.ref aM, .int p0, .int p1, .int p2] (w_model ky aM mxs mus mys mgp mtp mme mle mlt mkl mln msz mit mmv mrm mer mtd mat mwr mkn mmb mwa mra mbl mbh dxs dus dys dgp dtp dme dle dlt dkl dln dsz dit dmv) (w_model ky aM mxs mus mys mgp mtp mme mle mlt mkl mln msz mit mmv mrm mer mtd mat mwr mkn mmb mwa mra mbl mbh dxs dus dys dgp dtp dme dle dlt dkl dln dsz dit dmv) res := by
  unfold MI
  refine Met.ofW (cc := cX9_line) (maxL := 10) (ret := (some .int)) (by decide) rfl ?_
  intro p e s m args below meth c s₁ B hml hv
  obtain ⟨rfl, hsz, hP, hK, hD0⟩ := hv
  have hx := B.exec
  have hb := B.bytes
  have hr := B.returns
  have hts := atoms_spec (ws := wsX9_line) B.pre
  have hown : s.vm.findClass RX9 = some m.cls := findClass_of_methodNamed B.named
  have hlocks := B.notSynchronized
  subst hsz
  have hD := hD0.self (sz := s.heap.size)
  generalize hAe : va_A (w_model ky aM mxs mus mys mgp mtp mme mle mlt mkl mln msz mit mmv mrm mer mtd mat mwr mkn mmb mwa mra mbl mbh dxs dus dys dgp dtp dme dle dlt dkl dln dsz dit dmv) s.heap.size = A at hD ⊢
  have hA : ∀ q : Nat, s.heap.size ≤ q → A q := fun q h => by rw [← hAe]; exact Or.inr h
  have hS : va_S A s.heap s.heap [] := va_S.rf
  have hP : va_P D vwCl (w_model ky aM mxs mus mys mgp mtp mme mle mlt mkl mln msz mit mmv mrm mer mtd mat mwr mkn mmb mwa mra mbl mbh dxs dus dys dgp dtp dme dle dlt dkl dln dsz dit dmv) s.heap := hP
  have hl := lv_entry ([.ref aM, .int p0, .int p1, .int p2]) (n := 10) (Nat.le_of_ble_eq_true rfl)
  rw [lg_entry_eq]
  generalize (lg_sl ([.ref aM, .int p0, .int p1, .int p2]) ++ List.replicate (10 - (lg_sl ([.ref aM, .int p0, .int p1, .int p2])).length) Slot.unset).toArray = ls at hl ⊢
  have hl : lv_has ls 10 [(0, .ref aM), (1, .int p0), (2, .int p1), (3, .int p2)] := hl
  have C : cx p s m c ([.ref aM, .int p0, .int p1, .int p2]).toArray D ky A cX9_line 10 wsX9_line RX9 := ⟨hx, hb, hml, hown, hts, hK, hA⟩
  have hQ : ∀ (pc : Nat) (H : Heap) (locs : List Loc) (ls : Array Slot), decode cX9_line pc = .ok (.ireturn, 1) → va_P D vwCl (w_model ky aM mxs mus mys mgp mtp mme mle mlt mkl mln msz mit mmv mrm mer mtd mat mwr mkn mmb mwa mra mbl mbh dxs dus dys dgp dtp dme dle dlt dkl dln dsz dit dmv) H → va_D A (w_model ky aM mxs mus mys mgp mtp mme mle mlt mkl mln msz mit mmv mrm mer mtd mat mwr mkn mmb mwa mra mbl mbh dxs dus dys dgp dtp dme dle dlt dkl dln dsz dit dmv) → va_S A s.heap H locs → W p l e rm_X9_line s m ([.ref aM, .int p0, .int p1, .int p2]).toArray below meth c H locs 0 0 (MQ below (va_Qi (S := Unit) (fun r _ => r = res) (fun _ t => va_P D vwCl (w_model ky aM mxs mus mys mgp mtp mme mle mlt mkl mln msz mit mmv mrm mer mtd mat mwr mkn mmb mwa mra mbl mbh dxs dus dys dgp dtp dme dle dlt dkl dln dsz dit dmv) t.heap ∧ va_K D vwCl (tyW ky) t ∧ va_D A (w_model ky aM mxs mus mys mgp mtp mme mle mlt mkl mln msz mit mmv mrm mer mtd mat mwr mkn mmb mwa mra mbl mbh dxs dus dys dgp dtp dme dle dlt dkl dln dsz dit dmv)) A) ([.ref aM, .int p0, .int p1, .int p2]).toArray s 0 0 A) (F0 m pc ls [.int res]) := fun pc H locs ls hd hP hD hS => W.iret hx hb hr (fun t ht hW => ⟨⟨res, (), rfl, rfl, by rw [ht]; exact hP, va_K.moved hW.alike hK, hD⟩, hS.F ht⟩) hS.2.2 hd
  unfold f_X9_line at hF
  refine lv_aload_n hx hb dX9_line_0 rfl (lv_at hl 0 rfl) ?_
  refine lv_iload_n hx hb dX9_line_1 rfl (lv_at hl 1 rfl) ?_
  obtain ⟨r2, h1, hF⟩ := b1_s hF
  refine cl_vi (As := [.int p0]) (rest := []) (w' := (w_model ky aM mxs mus mys mgp mtp mme mle mlt mkl mln msz mit mmv mrm mer mtd mat mwr mkn mmb mwa mra mbl mbh dxs dus dys dgp dtp dme dle dlt dkl dln dsz dit dmv)) ⟨hx, hb, hml, hown, hts⟩ hK hP hD hS hA (c_X9_isHeap l D ky aM mxs mus mys mgp mtp mme mle mlt mkl mln msz mit mmv _ N  mrm mer mtd mat mwr mkn mmb mwa mra mbl mbh dxs dus dys dgp dtp dme dle dlt dkl dln dsz dit dmv p0 r2 h1) (cwV 1 hts gX9_line_X9_isHeap rfl rfl rfl (by decide +kernel) ⟨Nat.le_of_ble_eq_true rfl, Nat.le_of_ble_eq_true rfl⟩) [0, 1, 2, 3, 4, 5, 6, 7, 8, 9, 10, 11, 12, 13] [] [0, 1, 2, 3, 4, 5, 6, 7, 8, 9, 10, 11, 12, 13] 0 8 rfl rfl rfl rfl (wr := []) rfl (by decide) rfl rfl hl.1 (Nat.le_of_ble_eq_true rfl) dX9_line_2 ⟨Nat.zero_le _, Nat.zero_le _⟩ (fun H locs hP hD hS => ?_)
  refine lv_if_eq (tgt := 34) hx hb dX9_line_5 (by decide) (fun c3 => ?_) (fun c3 => ?_)
  · have hF := if_t c3 hF
    refine lv_ldc hx hb hown (hts _ kX9_line_0) dX9_line_34 ?_
    have hF := Option.some.inj hF
    subst hF
    exact hQ _ _ _ _ dX9_line_36 hP hD hS
  · have hF := if_f c3 hF
    refine lv_aload_n hx hb dX9_line_8 rfl (lv_at hl 0 rfl) ?_
    refine lv_iload_n hx hb dX9_line_9 rfl (lv_at hl 2 rfl) ?_
    obtain ⟨r5, h4, hF⟩ := b1_s hF
    refine cl_vi (As := [.int p1]) (rest := []) (w' := (w_model ky aM mxs mus mys mgp mtp mme mle mlt mkl mln msz mit mmv mrm mer mtd mat mwr mkn mmb mwa mra mbl mbh dxs dus dys dgp dtp dme dle dlt dkl dln dsz dit dmv)) ⟨hx, hb, hml, hown, hts⟩ hK hP hD hS hA (c_X9_isHeap l D ky aM mxs mus mys mgp mtp mme mle mlt mkl mln msz mit mmv _ N  mrm mer mtd mat mwr mkn mmb mwa mra mbl mbh dxs dus dys dgp dtp dme dle dlt dkl dln dsz dit dmv p1 r5 h4) (cwV 1 hts gX9_line_X9_isHeap rfl rfl rfl (by decide +kernel) ⟨Nat.le_of_ble_eq_true rfl, Nat.le_of_ble_eq_true rfl⟩) [0, 1, 2, 3, 4, 5, 6, 7, 8, 9, 10, 11, 12, 13] [] [0, 1, 2, 3, 4, 5, 6, 7, 8, 9, 10, 11, 12, 13] 0 8 rfl rfl rfl rfl (wr := []) rfl (by decide) rfl rfl hl.1 (Nat.le_of_ble_eq_true rfl) dX9_line_10 ⟨Nat.zero_le _, Nat.zero_le _⟩ (fun H locs hP hD hS => ?_)
    refine lv_if_eq (tgt := 34) hx hb dX9_line_13 (by decide) (fun c6 => ?_) (fun c6 => ?_)
    · have hF := if_t c6 hF
      refine lv_ldc hx hb hown (hts _ kX9_line_0) dX9_line_34 ?_
      have hF := Option.some.inj hF
      subst hF
      exact hQ _ _ _ _ dX9_line_36 hP hD hS
    · have hF := if_f c6 hF
      refine lv_iload_n hx hb dX9_line_16 rfl (lv_at hl 1 rfl) ?_
      refine lv_iload_n hx hb dX9_line_17 rfl (lv_at hl 2 rfl) ?_
      refine lv_iand hx hb dX9_line_18 ?_
      refine lv_if_ne (tgt := 34) hx hb dX9_line_19 (by decide) (fun c7 => ?_) (fun c7 => ?_)
      · have hF := if_f c7 hF
        refine lv_ldc hx hb hown (hts _ kX9_line_0) dX9_line_34 ?_
        have hF := Option.some.inj hF
        subst hF
        exact hQ _ _ _ _ dX9_line_36 hP hD hS
      · have hF := if_t c7 hF
        refine lv_iload_n hx hb dX9_line_22 rfl (lv_at hl 3 rfl) ?_
        refine lv_i2l (v := (p2.toInt64)) hx hb dX9_line_23 rfl ?_
        refine lv_lconst (v := (0 : Int64)) hx hb dX9_line_24 (by decide) ?_
        refine lv_ldc2 hx hb hown (hts _ kX9_line_1) dX9_line_25 ?_
        obtain ⟨r9, h8, hF⟩ := b1_s hF
        refine cl_si (As := [.long (p2.toInt64), .long (0 : Int64), .long (2 : Int64)]) (rest := []) ⟨hx, hb, hml, hown, hts⟩ hK hP hD hS hA (c_X9_in l D ky  _ N   (p2.toInt64) (0 : Int64) (2 : Int64) r9 h8) (va_cwS 3 hts gX9_line_X9_in rfl rfl rfl (by decide +kernel) ⟨Nat.le_of_ble_eq_true rfl, Nat.le_of_ble_eq_true rfl⟩) rfl hl.1 (Nat.le_of_ble_eq_true rfl) dX9_line_28 ⟨Nat.zero_le _, Nat.zero_le _⟩ (fun H locs hP hD hS => ?_)
        refine lv_if_ne (tgt := 37) hx hb dX9_line_31 (by decide) (fun c10 => ?_) (fun c10 => ?_)
        · have hF := if_f c10 hF
          refine lv_bipush (v := (-3 : Int32)) hx hb dX9_line_37 (by decide) ?_
          refine lv_istore (lv' := [(4, .int (-3 : Int32)), (0, .ref aM), (1, .int p0), (2, .int p1), (3, .int p2)]) hx hb dX9_line_39 hl (by decide) rfl (fun ls hl => ?_)
          exact w_X9_line_41 N C res hQ p0 p1 p2 N (-3 : Int32) hF _ _ _ hP hD hS (lv_sub hl [1, 2, 3, 4, 0] rfl)
        · have hF := if_t c10 hF
          refine lv_ldc hx hb hown (hts _ kX9_line_0) dX9_line_34 ?_
          have hF := Option.some.inj hF
          subst hF
          exact hQ _ _ _ _ dX9_line_36 hP hD hS
theorem c_X9_line (l : Launch) (D : va_G) (ky : Nat → ClassId) (aM mxs mus mys mgp mtp mme mle mlt mkl mln msz mit mmv : Nat) (sz N : Nat)  (mrm : Int32) (mer : Int32) (mtd : Int32) (mat : Int32) (mwr : Int32) (mkn : Int32) (mmb : Int32) (mwa : Int32) (mra : Int32) (mbl : Int32) (mbh : Int32) (dxs : Nat → Int32) (dus : Nat → Int32) (dys : Nat → Int32) (dgp : Nat → Int32) (dtp : Nat → Int32) (dme : Nat → Int32) (dle : Nat → Int32) (dlt : Nat → Int32) (dkl : Nat → Int32) (dln : Nat → Int32) (dsz : Nat → Int32) (dit : Nat → Int32) (dmv : Nat → Int32) (p0 : Int32) (p1 : Int32) (p2 : Int32) (rv : Int32) (hF : f_X9_line N p0 p1 p2 mrm dxs dus = some (rv)) : MI l yX9_line wsX9_line rm_X9_line D ky sz [.ref aM, .int p0, .int p1, .int p2] (w_model ky aM mxs mus mys mgp mtp mme mle mlt mkl mln msz mit mmv mrm mer mtd mat mwr mkn mmb mwa mra mbl mbh dxs dus dys dgp dtp dme dle dlt dkl dln dsz dit dmv) (w_model ky aM mxs mus mys mgp mtp mme mle mlt mkl mln msz mit mmv mrm mer mtd mat mwr mkn mmb mwa mra mbl mbh dxs dus dys dgp dtp dme dle dlt dkl dln dsz dit dmv) rv :=
  cr_X9_line l D ky aM mxs mus mys mgp mtp mme mle mlt mkl mln msz mit mmv sz N mrm mer mtd mat mwr mkn mmb mwa mra mbl mbh dxs dus dys dgp dtp dme dle dlt dkl dln dsz dit dmv p0 p1 p2 (rv) hF
abbrev rm_X9_hours : Room := { frames := 2, cells := 0, slots := 0, locals := 46 }
theorem iX9_hours_X9 : ∀ w ∈ wsX90, w ∈ wsX9_hours := by decide +kernel
theorem kX9_hours_1 : (Cond.fieldLink RX9 62 "TwoLawsModel" "rowMany" "I") ∈ wsX9_hours := by decide +kernel
set_option maxHeartbeats 4000000 in
set_option maxRecDepth 100000 in
theorem w_X9_hours_35 {p : Program} {l : Launch} {e : Env} {s : State} {m : MethodId} {args : Array Value} {below : List Frame} {meth : Method} {c : Code} {Q : State → Prop} {A : Nat → Prop} {D : va_G} {ky : Nat → ClassId} {aM mxs mus mys mgp mtp mme mle mlt mkl mln msz mit mmv : Nat} {mrm : Int32} {mer : Int32} {mtd : Int32} {mat : Int32} {mwr : Int32} {mkn : Int32} {mmb : Int32} {mwa : Int32} {mra : Int32} {mbl : Int32} {mbh : Int32} {dxs : Nat → Int32} {dus : Nat → Int32} {dys : Nat → Int32} {dgp : Nat → Int32} {dtp : Nat → Int32} {dme : Nat → Int32} {dle : Nat → Int32} {dlt : Nat → Int32} {dkl : Nat → Int32} {dln : Nat → Int32} {dsz : Nat → Int32} {dit : Nat → Int32} {dmv : Nat → Int32} (N : Nat) (C : cx p s m c args D ky A cX9_hours 7 wsX9_hours RX9) (res : Int32) (hQ : ∀ (pc : Nat) (H : Heap) (locs : List Loc) (ls : Array Slot), decode cX9_hours pc = .ok (.ireturn, 1) → va_P D vwCl (w_model ky aM mxs mus mys mgp mtp mme mle mlt mkl mln msz mit mmv mrm mer mtd mat mwr mkn mmb mwa mra mbl mbh dxs dus dys dgp dtp dme dle dlt dkl dln dsz dit dmv) H → va_D A (w_model ky aM mxs mus mys mgp mtp mme mle mlt mkl mln msz mit mmv mrm mer mtd mat mwr mkn mmb mwa mra mbl mbh dxs dus dys dgp dtp dme dle dlt dkl dln dsz dit dmv) → va_S A s.heap H locs → W p l e rm_X9_hours s m args below meth c H locs 0 0 Q (F0 m pc ls [.int res])) (l1 : Int32) (l2 : Int32) (k20 : Int32 → Option (Int32)) (hk20 : ∀ (l3 : Int32), k20 l3 = some res → ∀ (H : Heap) (locs : List Loc) (ls : Array Slot), va_P D vwCl (w_model ky aM mxs mus mys mgp mtp mme mle mlt mkl mln msz mit mmv mrm mer mtd mat mwr mkn mmb mwa mra mbl mbh dxs dus dys dgp dtp dme dle dlt dkl dln dsz dit dmv) H → va_D A (w_model ky aM mxs mus mys mgp mtp mme mle mlt mkl mln msz mit mmv mrm mer mtd mat mwr mkn mmb mwa mra mbl mbh dxs dus dys dgp dtp dme dle dlt dkl dln dsz dit dmv) → va_S A s.heap H locs → lv_has ls 7 [(0, .ref aM), (1, .int l1), (2, .int l2), (3, .int l3)] → W p l e rm_X9_hours s m args below meth c H locs 0 0 Q (F0 m 20 ls [])) (l3 : Int32) : ∀ (n : Nat) (l4 : Int32) (l5 : Int32) (l6 : Int32), f_X9_hours_35 N k20 l1 l2 l3 mrm n l4 l5 l6 = some res → ∀ (H : Heap) (locs : List Loc) (ls : Array Slot), va_P D vwCl (w_model ky aM mxs mus mys mgp mtp mme mle mlt mkl mln msz mit mmv mrm mer mtd mat mwr mkn mmb mwa mra mbl mbh dxs dus dys dgp dtp dme dle dlt dkl dln dsz dit dmv) H → va_D A (w_model ky aM mxs mus mys mgp mtp mme mle mlt mkl mln msz mit mmv mrm mer mtd mat mwr mkn mmb mwa mra mbl mbh dxs dus dys dgp dtp dme dle dlt dkl dln dsz dit dmv) → va_S A s.heap H locs → lv_has ls 7 [(0, .ref aM), (1, .int l1), (2, .int l2), (3, .int l3), (4, .int l4), (5, .int l5), (6, .int l6)] → W p l e rm_X9_hours s m args below meth c H locs 0 0 Q (F0 m 35 ls []) := by
  obtain ⟨hx, hb, hml, hown, hts, hK, hA⟩ := id C
  intro n
  induction n with
  | zero =>
    intro l4 l5 l6 hF
    cases hF
  | succ n ih =>
    intro l4 l5 l6 hF H locs ls hP hD hS hl
    have hF : b_X9_hours_35 N k20 l1 l2 l3 mrm (f_X9_hours_35 N k20 l1 l2 l3 mrm n) l4 l5 l6 = some res := hF
    unfold b_X9_hours_35 at hF
    refine lv_iload hx hb dX9_hours_35 (lv_at hl 6 rfl) ?_
    refine lv_aload_n hx hb dX9_hours_37 rfl (lv_at hl 0 rfl) ?_
    refine va_get (D := D) (ci := 8) (v := .int mrm) (C := RX9) (T := TX9) (N := 24) hx hb hts iX9_hours_X9 hown hK hP 0 rfl rfl 0 (by decide) (hts _ kX9_hours_1) (fun _ h9 => h9) rfl dX9_hours_38 ?_
    refine lv_icmp_ge (tgt := 82) hx hb dX9_hours_41 (by decide) (fun c8 => ?_) (fun c8 => ?_)
    · have hF := if_t c8 hF
      refine lv_iload hx hb dX9_hours_82 (lv_at hl 4 rfl) ?_
      refine lv_iload hx hb dX9_hours_84 (lv_at hl 5 rfl) ?_
      refine lv_iand hx hb dX9_hours_86 ?_
      refine lv_if_ne (tgt := 92) hx hb dX9_hours_87 (by decide) (fun c9 => ?_) (fun c9 => ?_)
      · have hF := if_f c9 hF
        refine lv_iinc (v := (l3 + (1 : Int32))) (lv' := [(3, .int (l3 + (1 : Int32))), (0, .ref aM), (1, .int l1), (2, .int l2), (4, .int l4), (5, .int l5), (6, .int l6)]) hx hb dX9_hours_92 hl (k := 3) rfl rfl (by decide) rfl (fun ls hl => ?_)
        refine lv_goto (tgt := 20) hx hb dX9_hours_95 (by decide) ?_
        exact hk20 (l3 + (1 : Int32)) hF H _ _ hP hD hS (lv_sub hl [1, 2, 3, 0] rfl)
      · have hF := if_t c9 hF
        refine lv_iload_n hx hb dX9_hours_90 rfl (lv_at hl 3 rfl) ?_
        have hF := Option.some.inj hF
        subst hF
        exact hQ _ H _ _ dX9_hours_91 hP hD hS
    · have hF := if_f c8 hF
      refine lv_iload hx hb dX9_hours_44 (lv_at hl 4 rfl) ?_
      refine lv_iload_n hx hb dX9_hours_46 rfl (lv_at hl 1 rfl) ?_
      refine lv_iload hx hb dX9_hours_47 (lv_at hl 6 rfl) ?_
      refine lv_ishr hx hb dX9_hours_49 ?_
      refine lv_iconst (v := (1 : Int32)) hx hb dX9_hours_50 (by decide) ?_
      refine lv_iand hx hb dX9_hours_51 ?_
      refine lv_iload hx hb dX9_hours_52 (lv_at hl 6 rfl) ?_
      refine lv_iload_n hx hb dX9_hours_54 rfl (lv_at hl 3 rfl) ?_
      obtain ⟨h10, hF⟩ := gd_s hF
      refine lv_irem hx hb dX9_hours_55 h10 ?_
      refine lv_ishl hx hb dX9_hours_56 ?_
      refine lv_ior hx hb dX9_hours_57 ?_
      refine lv_topi (fun v11 e_v11 => ?_)
      have hF := nm_s e_v11 hF
      refine lv_istore (lv' := [(4, .int v11), (0, .ref aM), (1, .int l1), (2, .int l2), (3, .int l3), (5, .int l5), (6, .int l6)]) hx hb dX9_hours_58 hl (by decide) rfl (fun ls hl => ?_)
      refine lv_iload hx hb dX9_hours_60 (lv_at hl 5 rfl) ?_
      refine lv_iload_n hx hb dX9_hours_62 rfl (lv_at hl 3 rfl) ?_
      refine lv_iload hx hb dX9_hours_63 (lv_at hl 6 rfl) ?_
      refine lv_ishr hx hb dX9_hours_65 ?_
      refine lv_iconst (v := (1 : Int32)) hx hb dX9_hours_66 (by decide) ?_
      refine lv_iand hx hb dX9_hours_67 ?_
      refine lv_iload hx hb dX9_hours_68 (lv_at hl 6 rfl) ?_
      refine lv_iload_n hx hb dX9_hours_70 rfl (lv_at hl 4 rfl) ?_
      obtain ⟨h12, hF⟩ := gd_s hF
      refine lv_irem hx hb dX9_hours_71 h12 ?_
      refine lv_ishl hx hb dX9_hours_72 ?_
      refine lv_ior hx hb dX9_hours_73 ?_
      refine lv_topi (fun v13 e_v13 => ?_)
      have hF := nm_s e_v13 hF
      refine lv_istore (lv' := [(5, .int v13), (4, .int v11), (0, .ref aM), (1, .int l1), (2, .int l2), (3, .int l3), (6, .int l6)]) hx hb dX9_hours_74 hl (by decide) rfl (fun ls hl => ?_)
      refine lv_iinc (v := (l6 + (1 : Int32))) (lv' := [(6, .int (l6 + (1 : Int32))), (5, .int v13), (4, .int v11), (0, .ref aM), (1, .int l1), (2, .int l2), (3, .int l3)]) hx hb dX9_hours_76 hl (k := 6) rfl rfl (by decide) rfl (fun ls hl => ?_)
      refine lv_goto (tgt := 35) hx hb dX9_hours_79 (by decide) ?_
      exact ih v11 v13 (l6 + (1 : Int32)) hF H _ _ hP hD hS (lv_sub hl [3, 4, 5, 6, 2, 1, 0] rfl)
set_option maxHeartbeats 4000000 in
set_option maxRecDepth 100000 in
theorem w_X9_hours_20 {p : Program} {l : Launch} {e : Env} {s : State} {m : MethodId} {args : Array Value} {below : List Frame} {meth : Method} {c : Code} {Q : State → Prop} {A : Nat → Prop} {D : va_G} {ky : Nat → ClassId} {aM mxs mus mys mgp mtp mme mle mlt mkl mln msz mit mmv : Nat} {mrm : Int32} {mer : Int32} {mtd : Int32} {mat : Int32} {mwr : Int32} {mkn : Int32} {mmb : Int32} {mwa : Int32} {mra : Int32} {mbl : Int32} {mbh : Int32} {dxs : Nat → Int32} {dus : Nat → Int32} {dys : Nat → Int32} {dgp : Nat → Int32} {dtp : Nat → Int32} {dme : Nat → Int32} {dle : Nat → Int32} {dlt : Nat → Int32} {dkl : Nat → Int32} {dln : Nat → Int32} {dsz : Nat → Int32} {dit : Nat → Int32} {dmv : Nat → Int32} (N : Nat) (C : cx p s m c args D ky A cX9_hours 7 wsX9_hours RX9) (res : Int32) (hQ : ∀ (pc : Nat) (H : Heap) (locs : List Loc) (ls : Array Slot), decode cX9_hours pc = .ok (.ireturn, 1) → va_P D vwCl (w_model ky aM mxs mus mys mgp mtp mme mle mlt mkl mln msz mit mmv mrm mer mtd mat mwr mkn mmb mwa mra mbl mbh dxs dus dys dgp dtp dme dle dlt dkl dln dsz dit dmv) H → va_D A (w_model ky aM mxs mus mys mgp mtp mme mle mlt mkl mln msz mit mmv mrm mer mtd mat mwr mkn mmb mwa mra mbl mbh dxs dus dys dgp dtp dme dle dlt dkl dln dsz dit dmv) → va_S A s.heap H locs → W p l e rm_X9_hours s m args below meth c H locs 0 0 Q (F0 m pc ls [.int res])) (l1 : Int32) (l2 : Int32) : ∀ (n : Nat) (l3 : Int32), f_X9_hours_20 N l1 l2 mrm n l3 = some res → ∀ (H : Heap) (locs : List Loc) (ls : Array Slot), va_P D vwCl (w_model ky aM mxs mus mys mgp mtp mme mle mlt mkl mln msz mit mmv mrm mer mtd mat mwr mkn mmb mwa mra mbl mbh dxs dus dys dgp dtp dme dle dlt dkl dln dsz dit dmv) H → va_D A (w_model ky aM mxs mus mys mgp mtp mme mle mlt mkl mln msz mit mmv mrm mer mtd mat mwr mkn mmb mwa mra mbl mbh dxs dus dys dgp dtp dme dle dlt dkl dln dsz dit dmv) → va_S A s.heap H locs → lv_has ls 7 [(0, .ref aM), (1, .int l1), (2, .int l2), (3, .int l3)] → W p l e rm_X9_hours s m args below meth c H locs 0 0 Q (F0 m 20 ls []) := by
  obtain ⟨hx, hb, hml, hown, hts, hK, hA⟩ := id C
  intro n
  induction n with
  | zero =>
    intro l3 hF
    cases hF
  | succ n ih =>
    intro l3 hF H locs ls hP hD hS hl
    have hF : b_X9_hours_20 N l1 l2 mrm (f_X9_hours_20 N l1 l2 mrm n) l3 = some res := hF
    unfold b_X9_hours_20 at hF
    refine lv_iload_n hx hb dX9_hours_20 rfl (lv_at hl 3 rfl) ?_
    refine lv_bipush (v := (6 : Int32)) hx hb dX9_hours_21 (by decide) ?_
    refine lv_icmp_gt (tgt := 98) hx hb dX9_hours_23 (by decide) (fun c7 => ?_) (fun c7 => ?_)
    · have hF := if_t c7 hF
      refine lv_bipush (v := (-4 : Int32)) hx hb dX9_hours_98 (by decide) ?_
      have hF := Option.some.inj hF
      subst hF
      exact hQ _ H _ _ dX9_hours_100 hP hD hS
    · have hF := if_f c7 hF
      refine lv_iconst (v := (0 : Int32)) hx hb dX9_hours_26 (by decide) ?_
      refine lv_istore (lv' := [(4, .int (0 : Int32)), (0, .ref aM), (1, .int l1), (2, .int l2), (3, .int l3)]) hx hb dX9_hours_27 hl (by decide) rfl (fun ls hl => ?_)
      refine lv_iconst (v := (0 : Int32)) hx hb dX9_hours_29 (by decide) ?_
      refine lv_istore (lv' := [(5, .int (0 : Int32)), (4, .int (0 : Int32)), (0, .ref aM), (1, .int l1), (2, .int l2), (3, .int l3)]) hx hb dX9_hours_30 hl (by decide) rfl (fun ls hl => ?_)
      refine lv_iconst (v := (0 : Int32)) hx hb dX9_hours_32 (by decide) ?_
      refine lv_istore (lv' := [(6, .int (0 : Int32)), (5, .int (0 : Int32)), (4, .int (0 : Int32)), (0, .ref aM), (1, .int l1), (2, .int l2), (3, .int l3)]) hx hb dX9_hours_33 hl (by decide) rfl (fun ls hl => ?_)
      exact w_X9_hours_35 N C res hQ l1 l2 _ ih l3 N (0 : Int32) (0 : Int32) (0 : Int32) hF H _ _ hP hD hS (lv_sub hl [3, 4, 5, 6, 2, 1, 0] rfl)
set_option maxHeartbeats 4000000 in
set_option maxRecDepth 100000 in
theorem cr_X9_hours (l : Launch) (D : va_G) (ky : Nat → ClassId) (aM mxs mus mys mgp mtp mme mle mlt mkl mln msz mit mmv : Nat) (sz N : Nat)  (mrm : Int32) (mer : Int32) (mtd : Int32) (mat : Int32) (mwr : Int32) (mkn : Int32) (mmb : Int32) (mwa : Int32) (mra : Int32) (mbl : Int32) (mbh : Int32) (dxs : Nat → Int32) (dus : Nat → Int32) (dys : Nat → Int32) (dgp : Nat → Int32) (dtp : Nat → Int32) (dme : Nat → Int32) (dle : Nat → Int32) (dlt : Nat → Int32) (dkl : Nat → Int32) (dln : Nat → Int32) (dsz : Nat → Int32) (dit : Nat → Int32) (dmv : Nat → Int32) (p0 : Int32) (p1 : Int32) (res : Int32) (hF : f_X9_hours N p0 p1 mrm = some res) : MI l yX9_hours wsX9_hours rm_X9_hours D ky sz [.ref aM, .int p0, .int p1] (w_model ky aM mxs mus mys mgp mtp mme mle mlt mkl mln msz mit mmv mrm mer mtd mat mwr mkn mmb mwa mra mbl mbh dxs dus dys dgp dtp dme dle dlt dkl dln dsz dit dmv) (w_model ky aM mxs mus mys mgp mtp mme mle mlt mkl mln msz mit mmv mrm mer mtd mat mwr mkn mmb mwa mra mbl mbh dxs dus dys dgp dtp dme dle dlt dkl dln dsz dit dmv) res := by
  unfold MI
  refine Met.ofW (cc := cX9_hours) (maxL := 7) (ret := (some .int)) (by decide) rfl ?_
  intro p e s m args below meth c s₁ B hml hv
  obtain ⟨rfl, hsz, hP, hK, hD0⟩ := hv
  have hx := B.exec
  have hb := B.bytes
  have hr := B.returns
  have hts := atoms_spec (ws := wsX9_hours) B.pre
  have hown : s.vm.findClass RX9 = some m.cls := findClass_of_methodNamed B.named
  have hlocks := B.notSynchronized
  subst hsz
  have hD := hD0.self (sz := s.heap.size)
  generalize hAe : va_A (w_model ky aM mxs mus mys mgp mtp mme mle mlt mkl mln msz mit mmv mrm mer mtd mat mwr mkn mmb mwa mra mbl mbh dxs dus dys dgp dtp dme dle dlt dkl dln dsz dit dmv) s.heap.size = A at hD ⊢
  have hA : ∀ q : Nat, s.heap.size ≤ q → A q := fun q h => by rw [← hAe]; exact Or.inr h
  have hS : va_S A s.heap s.heap [] := va_S.rf
  have hP : va_P D vwCl (w_model ky aM mxs mus mys mgp mtp mme mle mlt mkl mln msz mit mmv mrm mer mtd mat mwr mkn mmb mwa mra mbl mbh dxs dus dys dgp dtp dme dle dlt dkl dln dsz dit dmv) s.heap := hP
  have hl := lv_entry ([.ref aM, .int p0, .int p1]) (n := 7) (Nat.le_of_ble_eq_true rfl)
  rw [lg_entry_eq]
  generalize (lg_sl ([.ref aM, .int p0, .int p1]) ++ List.replicate (7 - (lg_sl ([.ref aM, .int p0, .int p1])).length) Slot.unset).toArray = ls at hl ⊢
  have hl : lv_has ls 7 [(0, .ref aM), (1, .int p0), (2, .int p1)] := hl
  have C : cx p s m c ([.ref aM, .int p0, .int p1]).toArray D ky A cX9_hours 7 wsX9_hours RX9 := ⟨hx, hb, hml, hown, hts, hK, hA⟩
  have hQ : ∀ (pc : Nat) (H : Heap) (locs : List Loc) (ls : Array Slot), decode cX9_hours pc = .ok (.ireturn, 1) → va_P D vwCl (w_model ky aM mxs mus mys mgp mtp mme mle mlt mkl mln msz mit mmv mrm mer mtd mat mwr mkn mmb mwa mra mbl mbh dxs dus dys dgp dtp dme dle dlt dkl dln dsz dit dmv) H → va_D A (w_model ky aM mxs mus mys mgp mtp mme mle mlt mkl mln msz mit mmv mrm mer mtd mat mwr mkn mmb mwa mra mbl mbh dxs dus dys dgp dtp dme dle dlt dkl dln dsz dit dmv) → va_S A s.heap H locs → W p l e rm_X9_hours s m ([.ref aM, .int p0, .int p1]).toArray below meth c H locs 0 0 (MQ below (va_Qi (S := Unit) (fun r _ => r = res) (fun _ t => va_P D vwCl (w_model ky aM mxs mus mys mgp mtp mme mle mlt mkl mln msz mit mmv mrm mer mtd mat mwr mkn mmb mwa mra mbl mbh dxs dus dys dgp dtp dme dle dlt dkl dln dsz dit dmv) t.heap ∧ va_K D vwCl (tyW ky) t ∧ va_D A (w_model ky aM mxs mus mys mgp mtp mme mle mlt mkl mln msz mit mmv mrm mer mtd mat mwr mkn mmb mwa mra mbl mbh dxs dus dys dgp dtp dme dle dlt dkl dln dsz dit dmv)) A) ([.ref aM, .int p0, .int p1]).toArray s 0 0 A) (F0 m pc ls [.int res]) := fun pc H locs ls hd hP hD hS => W.iret hx hb hr (fun t ht hW => ⟨⟨res, (), rfl, rfl, by rw [ht]; exact hP, va_K.moved hW.alike hK, hD⟩, hS.F ht⟩) hS.2.2 hd
  unfold f_X9_hours at hF
  refine lv_aload_n hx hb dX9_hours_0 rfl (lv_at hl 0 rfl) ?_
  refine lv_iload_n hx hb dX9_hours_1 rfl (lv_at hl 1 rfl) ?_
  obtain ⟨r2, h1, hF⟩ := b1_s hF
  refine cl_vi (As := [.int p0]) (rest := []) (w' := (w_model ky aM mxs mus mys mgp mtp mme mle mlt mkl mln msz mit mmv mrm mer mtd mat mwr mkn mmb mwa mra mbl mbh dxs dus dys dgp dtp dme dle dlt dkl dln dsz dit dmv)) ⟨hx, hb, hml, hown, hts⟩ hK hP hD hS hA (c_X9_isHeap l D ky aM mxs mus mys mgp mtp mme mle mlt mkl mln msz mit mmv _ N  mrm mer mtd mat mwr mkn mmb mwa mra mbl mbh dxs dus dys dgp dtp dme dle dlt dkl dln dsz dit dmv p0 r2 h1) (cwV 1 hts gX9_hours_X9_isHeap rfl rfl rfl (by decide +kernel) ⟨Nat.le_of_ble_eq_true rfl, Nat.le_of_ble_eq_true rfl⟩) [0, 1, 2, 3, 4, 5, 6, 7, 8, 9, 10, 11, 12, 13] [] [0, 1, 2, 3, 4, 5, 6, 7, 8, 9, 10, 11, 12, 13] 0 8 rfl rfl rfl rfl (wr := []) rfl (by decide) rfl rfl hl.1 (Nat.le_of_ble_eq_true rfl) dX9_hours_2 ⟨Nat.zero_le _, Nat.zero_le _⟩ (fun H locs hP hD hS => ?_)
  refine lv_if_eq (tgt := 16) hx hb dX9_hours_5 (by decide) (fun c3 => ?_) (fun c3 => ?_)
  · have hF := if_t c3 hF
    refine lv_iconst (v := (-1 : Int32)) hx hb dX9_hours_16 (by decide) ?_
    have hF := Option.some.inj hF
    subst hF
    exact hQ _ _ _ _ dX9_hours_17 hP hD hS
  · have hF := if_f c3 hF
    refine lv_aload_n hx hb dX9_hours_8 rfl (lv_at hl 0 rfl) ?_
    refine lv_iload_n hx hb dX9_hours_9 rfl (lv_at hl 2 rfl) ?_
    obtain ⟨r5, h4, hF⟩ := b1_s hF
    refine cl_vi (As := [.int p1]) (rest := []) (w' := (w_model ky aM mxs mus mys mgp mtp mme mle mlt mkl mln msz mit mmv mrm mer mtd mat mwr mkn mmb mwa mra mbl mbh dxs dus dys dgp dtp dme dle dlt dkl dln dsz dit dmv)) ⟨hx, hb, hml, hown, hts⟩ hK hP hD hS hA (c_X9_isHeap l D ky aM mxs mus mys mgp mtp mme mle mlt mkl mln msz mit mmv _ N  mrm mer mtd mat mwr mkn mmb mwa mra mbl mbh dxs dus dys dgp dtp dme dle dlt dkl dln dsz dit dmv p1 r5 h4) (cwV 1 hts gX9_hours_X9_isHeap rfl rfl rfl (by decide +kernel) ⟨Nat.le_of_ble_eq_true rfl, Nat.le_of_ble_eq_true rfl⟩) [0, 1, 2, 3, 4, 5, 6, 7, 8, 9, 10, 11, 12, 13] [] [0, 1, 2, 3, 4, 5, 6, 7, 8, 9, 10, 11, 12, 13] 0 8 rfl rfl rfl rfl (wr := []) rfl (by decide) rfl rfl hl.1 (Nat.le_of_ble_eq_true rfl) dX9_hours_10 ⟨Nat.zero_le _, Nat.zero_le _⟩ (fun H locs hP hD hS => ?_)
    refine lv_if_ne (tgt := 18) hx hb dX9_hours_13 (by decide) (fun c6 => ?_) (fun c6 => ?_)
    · have hF := if_f c6 hF
      refine lv_iconst (v := (1 : Int32)) hx hb dX9_hours_18 (by decide) ?_
      refine lv_istore_n (lv' := [(3, .int (1 : Int32)), (0, .ref aM), (1, .int p0), (2, .int p1)]) hx hb dX9_hours_19 rfl hl (by decide) rfl (fun ls hl => ?_)
      exact w_X9_hours_20 N C res hQ p0 p1 N (1 : Int32) hF _ _ _ hP hD hS (lv_sub hl [1, 2, 3, 0] rfl)
    · have hF := if_t c6 hF
      refine lv_iconst (v := (-1 : Int32)) hx hb dX9_hours_16 (by decide) ?_
      have hF := Option.some.inj hF
      subst hF
      exact hQ _ _ _ _ dX9_hours_17 hP hD hS
theorem c_X9_hours (l : Launch) (D : va_G) (ky : Nat → ClassId) (aM mxs mus mys mgp mtp mme mle mlt mkl mln msz mit mmv : Nat) (sz N : Nat)  (mrm : Int32) (mer : Int32) (mtd : Int32) (mat : Int32) (mwr : Int32) (mkn : Int32) (mmb : Int32) (mwa : Int32) (mra : Int32) (mbl : Int32) (mbh : Int32) (dxs : Nat → Int32) (dus : Nat → Int32) (dys : Nat → Int32) (dgp : Nat → Int32) (dtp : Nat → Int32) (dme : Nat → Int32) (dle : Nat → Int32) (dlt : Nat → Int32) (dkl : Nat → Int32) (dln : Nat → Int32) (dsz : Nat → Int32) (dit : Nat → Int32) (dmv : Nat → Int32) (p0 : Int32) (p1 : Int32) (rv : Int32) (hF : f_X9_hours N p0 p1 mrm = some (rv)) : MI l yX9_hours wsX9_hours rm_X9_hours D ky sz [.ref aM, .int p0, .int p1] (w_model ky aM mxs mus mys mgp mtp mme mle mlt mkl mln msz mit mmv mrm mer mtd mat mwr mkn mmb mwa mra mbl mbh dxs dus dys dgp dtp dme dle dlt dkl dln dsz dit dmv) (w_model ky aM mxs mus mys mgp mtp mme mle mlt mkl mln msz mit mmv mrm mer mtd mat mwr mkn mmb mwa mra mbl mbh dxs dus dys dgp dtp dme dle dlt dkl dln dsz dit dmv) rv :=
  cr_X9_hours l D ky aM mxs mus mys mgp mtp mme mle mlt mkl mln msz mit mmv sz N mrm mer mtd mat mwr mkn mmb mwa mra mbl mbh dxs dus dys dgp dtp dme dle dlt dkl dln dsz dit dmv p0 p1 (rv) hF
abbrev rm_X9_wear : Room := { frames := 4, cells := 0, slots := 0, locals := 96 }
theorem kX9_wear_0 : (Cond.constantLong RX9 173 (-1)) ∈ wsX9_wear := by decide +kernel
theorem kX9_wear_1 : (Cond.constantLong RX9 175 (16)) ∈ wsX9_wear := by decide +kernel
theorem iX9_wear_X9 : ∀ w ∈ wsX90, w ∈ wsX9_wear := by decide +kernel
theorem kX9_wear_3 : (Cond.fieldLink RX9 62 "TwoLawsModel" "rowMany" "I") ∈ wsX9_wear := by decide +kernel
set_option maxHeartbeats 4000000 in
set_option maxRecDepth 100000 in
theorem w_X9_wear_99 {p : Program} {l : Launch} {e : Env} {s : State} {m : MethodId} {args : Array Value} {below : List Frame} {meth : Method} {c : Code} {Q : State → Prop} {A : Nat → Prop} {D : va_G} {ky : Nat → ClassId} {aM mxs mus mys mgp mtp mme mle mlt mkl mln msz mit mmv : Nat} {mrm : Int32} {mer : Int32} {mtd : Int32} {mat : Int32} {mwr : Int32} {mkn : Int32} {mmb : Int32} {mwa : Int32} {mra : Int32} {mbl : Int32} {mbh : Int32} {dxs : Nat → Int32} {dus : Nat → Int32} {dys : Nat → Int32} {dgp : Nat → Int32} {dtp : Nat → Int32} {dme : Nat → Int32} {dle : Nat → Int32} {dlt : Nat → Int32} {dkl : Nat → Int32} {dln : Nat → Int32} {dsz : Nat → Int32} {dit : Nat → Int32} {dmv : Nat → Int32} (N : Nat) (C : cx p s m c args D ky A cX9_wear 9 wsX9_wear RX9) (res : Int32) (hQ : ∀ (pc : Nat) (H : Heap) (locs : List Loc) (ls : Array Slot), decode cX9_wear pc = .ok (.ireturn, 1) → va_P D vwCl (w_model ky aM mxs mus mys mgp mtp mme mle mlt mkl mln msz mit mmv mrm mer mtd mat mwr mkn mmb mwa mra mbl mbh dxs dus dys dgp dtp dme dle dlt dkl dln dsz dit dmv) H → va_D A (w_model ky aM mxs mus mys mgp mtp mme mle mlt mkl mln msz mit mmv mrm mer mtd mat mwr mkn mmb mwa mra mbl mbh dxs dus dys dgp dtp dme dle dlt dkl dln dsz dit dmv) → va_S A s.heap H locs → W p l e rm_X9_wear s m args below meth c H locs 0 0 Q (F0 m pc ls [.int res])) (l1 : Int32) (l4 : Int32) (l5 : Int32) (l6 : Int32) : ∀ (n : Nat) (l7 : Int32), f_X9_wear_99 N l1 l4 l5 l6 mrm mer dxs dus dys dgp n l7 = some res → ∀ (H : Heap) (locs : List Loc) (ls : Array Slot), va_P D vwCl (w_model ky aM mxs mus mys mgp mtp mme mle mlt mkl mln msz mit mmv mrm mer mtd mat mwr mkn mmb mwa mra mbl mbh dxs dus dys dgp dtp dme dle dlt dkl dln dsz dit dmv) H → va_D A (w_model ky aM mxs mus mys mgp mtp mme mle mlt mkl mln msz mit mmv mrm mer mtd mat mwr mkn mmb mwa mra mbl mbh dxs dus dys dgp dtp dme dle dlt dkl dln dsz dit dmv) → va_S A s.heap H locs → lv_has ls 9 [(0, .ref aM), (1, .int l1), (4, .int l4), (5, .int l5), (6, .int l6), (7, .int l7)] → W p l e rm_X9_wear s m args below meth c H locs 0 0 Q (F0 m 99 ls []) := by
  obtain ⟨hx, hb, hml, hown, hts, hK, hA⟩ := id C
  intro n
  induction n with
  | zero =>
    intro l7 hF
    cases hF
  | succ n ih =>
    intro l7 hF H locs ls hP hD hS hl
    have hF : b_X9_wear_99 N l1 l4 l5 l6 mrm mer dxs dus dys dgp (f_X9_wear_99 N l1 l4 l5 l6 mrm mer dxs dus dys dgp n) l7 = some res := hF
    unfold b_X9_wear_99 at hF
    refine lv_iload hx hb dX9_wear_99 (lv_at hl 5 rfl) ?_
    refine lv_aload_n hx hb dX9_wear_101 rfl (lv_at hl 0 rfl) ?_
    refine va_get (D := D) (ci := 8) (v := .int mrm) (C := RX9) (T := TX9) (N := 24) hx hb hts iX9_wear_X9 hown hK hP 0 rfl rfl 0 (by decide) (hts _ kX9_wear_3) (fun _ h9 => h9) rfl dX9_wear_102 ?_
    refine lv_icmp_gt (tgt := 157) hx hb dX9_wear_105 (by decide) (fun c18 => ?_) (fun c18 => ?_)
    · have hF := if_t c18 hF
      refine lv_bipush (v := (-4 : Int32)) hx hb dX9_wear_157 (by decide) ?_
      have hF := Option.some.inj hF
      subst hF
      exact hQ _ H _ _ dX9_wear_159 hP hD hS
    · have hF := if_f c18 hF
      refine lv_iconst (v := (1 : Int32)) hx hb dX9_wear_108 (by decide) ?_
      refine lv_iload hx hb dX9_wear_109 (lv_at hl 5 rfl) ?_
      refine lv_ishl hx hb dX9_wear_111 ?_
      refine lv_iconst (v := (1 : Int32)) hx hb dX9_wear_112 (by decide) ?_
      refine lv_isub hx hb dX9_wear_113 ?_
      refine lv_istore (lv' := [(8, .int (((1 : Int32) <<< (l7 &&& 31)) - (1 : Int32))), (0, .ref aM), (1, .int l1), (4, .int l4), (5, .int l5), (6, .int l6), (7, .int l7)]) hx hb dX9_wear_114 hl (by decide) rfl (fun ls hl => ?_)
      refine lv_aload_n hx hb dX9_wear_116 rfl (lv_at hl 1 rfl) ?_
      refine lv_iload hx hb dX9_wear_117 (lv_at hl 0 rfl) ?_
      refine lv_iload_n hx hb dX9_wear_119 rfl (lv_at hl 2 rfl) ?_
      obtain ⟨r20, h19, hF⟩ := b1_s hF
      refine cl_vi (As := [.int (((1 : Int32) <<< (l7 &&& 31)) - (1 : Int32)), .int l1]) (rest := []) (w' := (w_model ky aM mxs mus mys mgp mtp mme mle mlt mkl mln msz mit mmv mrm mer mtd mat mwr mkn mmb mwa mra mbl mbh dxs dus dys dgp dtp dme dle dlt dkl dln dsz dit dmv)) ⟨hx, hb, hml, hown, hts⟩ hK hP hD hS hA (c_X9_isLet l D ky aM mxs mus mys mgp mtp mme mle mlt mkl mln msz mit mmv _ N  mrm mer mtd mat mwr mkn mmb mwa mra mbl mbh dxs dus dys dgp dtp dme dle dlt dkl dln dsz dit dmv (((1 : Int32) <<< (l7 &&& 31)) - (1 : Int32)) l1 r20 h19) (cwV 2 hts gX9_wear_X9_isLet rfl rfl rfl (by decide +kernel) ⟨Nat.le_of_ble_eq_true rfl, Nat.le_of_ble_eq_true rfl⟩) [0, 1, 2, 3, 4, 5, 6, 7, 8, 9, 10, 11, 12, 13] [] [0, 1, 2, 3, 4, 5, 6, 7, 8, 9, 10, 11, 12, 13] 0 8 rfl rfl rfl rfl (wr := []) rfl (by decide) rfl rfl hl.1 (Nat.le_of_ble_eq_true rfl) dX9_wear_120 ⟨Nat.zero_le _, Nat.zero_le _⟩ (fun H locs hP hD hS => ?_)
      refine lv_if_eq (tgt := 151) hx hb dX9_wear_123 (by decide) (fun c21 => ?_) (fun c21 => ?_)
      · have hF := if_t c21 hF
        refine lv_iinc (v := (l7 + (1 : Int32))) (lv' := [(7, .int (l7 + (1 : Int32))), (8, .int (((1 : Int32) <<< (l7 &&& 31)) - (1 : Int32))), (0, .ref aM), (1, .int l1), (4, .int l4), (5, .int l5), (6, .int l6)]) hx hb dX9_wear_151 hl (k := 6) rfl rfl (by decide) rfl (fun ls hl => ?_)
        refine lv_goto (tgt := 99) hx hb dX9_wear_154 (by decide) ?_
        exact ih (l7 + (1 : Int32)) hF H _ _ hP hD hS (lv_sub hl [2, 3, 4, 5, 6, 0] rfl)
      · have hF := if_f c21 hF
        refine lv_aload_n hx hb dX9_wear_126 rfl (lv_at hl 1 rfl) ?_
        refine lv_iload hx hb dX9_wear_127 (lv_at hl 5 rfl) ?_
        refine lv_iload hx hb dX9_wear_129 (lv_at hl 0 rfl) ?_
        refine lv_iconst (v := (-1 : Int32)) hx hb dX9_wear_131 (by decide) ?_
        refine lv_ixor hx hb dX9_wear_132 ?_
        refine lv_iand hx hb dX9_wear_133 ?_
        refine lv_bipush (v := (17 : Int32)) hx hb dX9_wear_134 (by decide) ?_
        refine lv_iload hx hb dX9_wear_136 (lv_at hl 3 rfl) ?_
        refine lv_imul hx hb dX9_wear_138 ?_
        refine lv_iload hx hb dX9_wear_139 (lv_at hl 4 rfl) ?_
        refine lv_iadd hx hb dX9_wear_141 ?_
        obtain ⟨r23, h22, hF⟩ := b1_s hF
        refine cl_vi (As := [.int (l6 &&& ((((1 : Int32) <<< (l7 &&& 31)) - (1 : Int32)) ^^^ (-1 : Int32))), .int (((17 : Int32) * l4) + l5)]) (rest := []) (w' := (w_model ky aM mxs mus mys mgp mtp mme mle mlt mkl mln msz mit mmv mrm mer mtd mat mwr mkn mmb mwa mra mbl mbh dxs dus dys dgp dtp dme dle dlt dkl dln dsz dit dmv)) ⟨hx, hb, hml, hown, hts⟩ hK hP hD hS hA (c_X9_isLet l D ky aM mxs mus mys mgp mtp mme mle mlt mkl mln msz mit mmv _ N  mrm mer mtd mat mwr mkn mmb mwa mra mbl mbh dxs dus dys dgp dtp dme dle dlt dkl dln dsz dit dmv (l6 &&& ((((1 : Int32) <<< (l7 &&& 31)) - (1 : Int32)) ^^^ (-1 : Int32))) (((17 : Int32) * l4) + l5) r23 h22) (cwV 2 hts gX9_wear_X9_isLet rfl rfl rfl (by decide +kernel) ⟨Nat.le_of_ble_eq_true rfl, Nat.le_of_ble_eq_true rfl⟩) [0, 1, 2, 3, 4, 5, 6, 7, 8, 9, 10, 11, 12, 13] [] [0, 1, 2, 3, 4, 5, 6, 7, 8, 9, 10, 11, 12, 13] 0 8 rfl rfl rfl rfl (wr := []) rfl (by decide) rfl rfl hl.1 (Nat.le_of_ble_eq_true rfl) dX9_wear_142 ⟨Nat.zero_le _, Nat.zero_le _⟩ (fun H locs hP hD hS => ?_)
        refine lv_if_eq (tgt := 151) hx hb dX9_wear_145 (by decide) (fun c24 => ?_) (fun c24 => ?_)
        · have hF := if_t c24 hF
          refine lv_iinc (v := (l7 + (1 : Int32))) (lv' := [(7, .int (l7 + (1 : Int32))), (8, .int (((1 : Int32) <<< (l7 &&& 31)) - (1 : Int32))), (0, .ref aM), (1, .int l1), (4, .int l4), (5, .int l5), (6, .int l6)]) hx hb dX9_wear_151 hl (k := 6) rfl rfl (by decide) rfl (fun ls hl => ?_)
          refine lv_goto (tgt := 99) hx hb dX9_wear_154 (by decide) ?_
          exact ih (l7 + (1 : Int32)) hF H _ _ hP hD hS (lv_sub hl [2, 3, 4, 5, 6, 0] rfl)
        · have hF := if_f c24 hF
          refine lv_iload hx hb dX9_wear_148 (lv_at hl 6 rfl) ?_
          have hF := Option.some.inj hF
          subst hF
          exact hQ _ H _ _ dX9_wear_150 hP hD hS
set_option maxHeartbeats 4000000 in
set_option maxRecDepth 100000 in
theorem w_X9_wear_41 {p : Program} {l : Launch} {e : Env} {s : State} {m : MethodId} {args : Array Value} {below : List Frame} {meth : Method} {c : Code} {Q : State → Prop} {A : Nat → Prop} {D : va_G} {ky : Nat → ClassId} {aM mxs mus mys mgp mtp mme mle mlt mkl mln msz mit mmv : Nat} {mrm : Int32} {mer : Int32} {mtd : Int32} {mat : Int32} {mwr : Int32} {mkn : Int32} {mmb : Int32} {mwa : Int32} {mra : Int32} {mbl : Int32} {mbh : Int32} {dxs : Nat → Int32} {dus : Nat → Int32} {dys : Nat → Int32} {dgp : Nat → Int32} {dtp : Nat → Int32} {dme : Nat → Int32} {dle : Nat → Int32} {dlt : Nat → Int32} {dkl : Nat → Int32} {dln : Nat → Int32} {dsz : Nat → Int32} {dit : Nat → Int32} {dmv : Nat → Int32} (N : Nat) (C : cx p s m c args D ky A cX9_wear 9 wsX9_wear RX9) (res : Int32) (hQ : ∀ (pc : Nat) (H : Heap) (locs : List Loc) (ls : Array Slot), decode cX9_wear pc = .ok (.ireturn, 1) → va_P D vwCl (w_model ky aM mxs mus mys mgp mtp mme mle mlt mkl mln msz mit mmv mrm mer mtd mat mwr mkn mmb mwa mra mbl mbh dxs dus dys dgp dtp dme dle dlt dkl dln dsz dit dmv) H → va_D A (w_model ky aM mxs mus mys mgp mtp mme mle mlt mkl mln msz mit mmv mrm mer mtd mat mwr mkn mmb mwa mra mbl mbh dxs dus dys dgp dtp dme dle dlt dkl dln dsz dit dmv) → va_S A s.heap H locs → W p l e rm_X9_wear s m args below meth c H locs 0 0 Q (F0 m pc ls [.int res]))  (l1 : Int32) (l2 : Int32) (l3 : Int32) (hF : f_X9_wear_41 N l1 l2 l3 mrm mer dxs dus dys dgp = some res) : ∀ (H : Heap) (locs : List Loc) (ls : Array Slot), va_P D vwCl (w_model ky aM mxs mus mys mgp mtp mme mle mlt mkl mln msz mit mmv mrm mer mtd mat mwr mkn mmb mwa mra mbl mbh dxs dus dys dgp dtp dme dle dlt dkl dln dsz dit dmv) H → va_D A (w_model ky aM mxs mus mys mgp mtp mme mle mlt mkl mln msz mit mmv mrm mer mtd mat mwr mkn mmb mwa mra mbl mbh dxs dus dys dgp dtp dme dle dlt dkl dln dsz dit dmv) → va_S A s.heap H locs → lv_has ls 9 [(0, .ref aM), (1, .int l1), (2, .int l2), (3, .int l3)] → W p l e rm_X9_wear s m args below meth c H locs 0 0 Q (F0 m 41 ls []) := by
  obtain ⟨hx, hb, hml, hown, hts, hK, hA⟩ := id C
  intro H locs ls hP hD hS hl
  unfold f_X9_wear_41 at hF
  refine lv_iload_n hx hb dX9_wear_41 rfl (lv_at hl 1 rfl) ?_
  refine lv_bipush (v := (17 : Int32)) hx hb dX9_wear_42 (by decide) ?_
  refine lv_idiv hx hb dX9_wear_44 (by decide) ?_
  refine lv_iload_n hx hb dX9_wear_45 rfl (lv_at hl 2 rfl) ?_
  refine lv_iadd hx hb dX9_wear_46 ?_
  refine lv_istore (lv' := [(4, .int ((l1 / (17 : Int32)) + l2)), (0, .ref aM), (1, .int l1), (2, .int l2), (3, .int l3)]) hx hb dX9_wear_47 hl (by decide) rfl (fun ls hl => ?_)
  refine lv_iload_n hx hb dX9_wear_49 rfl (lv_at hl 2 rfl) ?_
  refine lv_bipush (v := (17 : Int32)) hx hb dX9_wear_50 (by decide) ?_
  refine lv_irem hx hb dX9_wear_52 (by decide) ?_
  refine lv_iload_n hx hb dX9_wear_53 rfl (lv_at hl 4 rfl) ?_
  refine lv_iadd hx hb dX9_wear_54 ?_
  refine lv_istore (lv' := [(5, .int ((l1 - l1 / (17 : Int32) * (17 : Int32)) + l3)), (4, .int ((l1 / (17 : Int32)) + l2)), (0, .ref aM), (1, .int l1), (2, .int l2), (3, .int l3)]) hx hb dX9_wear_55 hl (by decide) rfl (fun ls hl => ?_)
  refine lv_iload hx hb dX9_wear_57 (lv_at hl 1 rfl) ?_
  refine lv_i2l (v := (((l1 / (17 : Int32)) + l2).toInt64)) hx hb dX9_wear_59 rfl ?_
  refine lv_lconst (v := (0 : Int64)) hx hb dX9_wear_60 (by decide) ?_
  refine lv_ldc2 hx hb hown (hts _ kX9_wear_1) dX9_wear_61 ?_
  obtain ⟨r13, h12, hF⟩ := b1_s hF
  refine cl_si (As := [.long (((l1 / (17 : Int32)) + l2).toInt64), .long (0 : Int64), .long (16 : Int64)]) (rest := []) ⟨hx, hb, hml, hown, hts⟩ hK hP hD hS hA (c_X9_in l D ky  _ N   (((l1 / (17 : Int32)) + l2).toInt64) (0 : Int64) (16 : Int64) r13 h12) (va_cwS 3 hts gX9_wear_X9_in rfl rfl rfl (by decide +kernel) ⟨Nat.le_of_ble_eq_true rfl, Nat.le_of_ble_eq_true rfl⟩) rfl hl.1 (Nat.le_of_ble_eq_true rfl) dX9_wear_64 ⟨Nat.zero_le _, Nat.zero_le _⟩ (fun H locs hP hD hS => ?_)
  refine lv_if_eq (tgt := 83) hx hb dX9_wear_67 (by decide) (fun c14 => ?_) (fun c14 => ?_)
  · have hF := if_t c14 hF
    refine lv_bipush (v := (-2 : Int32)) hx hb dX9_wear_83 (by decide) ?_
    have hF := Option.some.inj hF
    subst hF
    exact hQ _ H _ _ dX9_wear_85 hP hD hS
  · have hF := if_f c14 hF
    refine lv_iload hx hb dX9_wear_70 (lv_at hl 0 rfl) ?_
    refine lv_i2l (v := (((l1 - l1 / (17 : Int32) * (17 : Int32)) + l3).toInt64)) hx hb dX9_wear_72 rfl ?_
    refine lv_lconst (v := (0 : Int64)) hx hb dX9_wear_73 (by decide) ?_
    refine lv_ldc2 hx hb hown (hts _ kX9_wear_1) dX9_wear_74 ?_
    obtain ⟨r16, h15, hF⟩ := b1_s hF
    refine cl_si (As := [.long (((l1 - l1 / (17 : Int32) * (17 : Int32)) + l3).toInt64), .long (0 : Int64), .long (16 : Int64)]) (rest := []) ⟨hx, hb, hml, hown, hts⟩ hK hP hD hS hA (c_X9_in l D ky  _ N   (((l1 - l1 / (17 : Int32) * (17 : Int32)) + l3).toInt64) (0 : Int64) (16 : Int64) r16 h15) (va_cwS 3 hts gX9_wear_X9_in rfl rfl rfl (by decide +kernel) ⟨Nat.le_of_ble_eq_true rfl, Nat.le_of_ble_eq_true rfl⟩) rfl hl.1 (Nat.le_of_ble_eq_true rfl) dX9_wear_77 ⟨Nat.zero_le _, Nat.zero_le _⟩ (fun H locs hP hD hS => ?_)
    refine lv_if_ne (tgt := 86) hx hb dX9_wear_80 (by decide) (fun c17 => ?_) (fun c17 => ?_)
    · have hF := if_f c17 hF
      refine lv_iconst (v := (1 : Int32)) hx hb dX9_wear_86 (by decide) ?_
      refine lv_aload_n hx hb dX9_wear_87 rfl (lv_at hl 2 rfl) ?_
      refine va_get (D := D) (ci := 8) (v := .int mrm) (C := RX9) (T := TX9) (N := 24) hx hb hts iX9_wear_X9 hown hK hP 0 rfl rfl 0 (by decide) (hts _ kX9_wear_3) (fun _ h9 => h9) rfl dX9_wear_88 ?_
      refine lv_ishl hx hb dX9_wear_91 ?_
      refine lv_iconst (v := (1 : Int32)) hx hb dX9_wear_92 (by decide) ?_
      refine lv_isub hx hb dX9_wear_93 ?_
      refine lv_istore (lv' := [(6, .int (((1 : Int32) <<< (mrm &&& 31)) - (1 : Int32))), (5, .int ((l1 - l1 / (17 : Int32) * (17 : Int32)) + l3)), (4, .int ((l1 / (17 : Int32)) + l2)), (0, .ref aM), (1, .int l1), (2, .int l2), (3, .int l3)]) hx hb dX9_wear_94 hl (by decide) rfl (fun ls hl => ?_)
      refine lv_iconst (v := (0 : Int32)) hx hb dX9_wear_96 (by decide) ?_
      refine lv_istore (lv' := [(7, .int (0 : Int32)), (6, .int (((1 : Int32) <<< (mrm &&& 31)) - (1 : Int32))), (5, .int ((l1 - l1 / (17 : Int32) * (17 : Int32)) + l3)), (4, .int ((l1 / (17 : Int32)) + l2)), (0, .ref aM), (1, .int l1), (2, .int l2), (3, .int l3)]) hx hb dX9_wear_97 hl (by decide) rfl (fun ls hl => ?_)
      exact w_X9_wear_99 N C res hQ l1 ((l1 / (17 : Int32)) + l2) ((l1 - l1 / (17 : Int32) * (17 : Int32)) + l3) (((1 : Int32) <<< (mrm &&& 31)) - (1 : Int32)) N (0 : Int32) hF H _ _ hP hD hS (lv_sub hl [4, 5, 3, 2, 1, 0] rfl)
    · have hF := if_t c17 hF
      refine lv_bipush (v := (-2 : Int32)) hx hb dX9_wear_83 (by decide) ?_
      have hF := Option.some.inj hF
      subst hF
      exact hQ _ H _ _ dX9_wear_85 hP hD hS
set_option maxHeartbeats 4000000 in
set_option maxRecDepth 100000 in
theorem cr_X9_wear (l : Launch) (D : va_G) (ky : Nat → ClassId) (aM mxs mus mys mgp mtp mme mle mlt mkl mln msz mit mmv : Nat) (sz N : Nat)  (mrm : Int32) (mer : Int32) (mtd : Int32) (mat : Int32) (mwr : Int32) (mkn : Int32) (mmb : Int32) (mwa : Int32) (mra : Int32) (mbl : Int32) (mbh : Int32) (dxs : Nat → Int32) (dus : Nat → Int32) (dys : Nat → Int32) (dgp : Nat → Int32) (dtp : Nat → Int32) (dme : Nat → Int32) (dle : Nat → Int32) (dlt : Nat → Int32) (dkl : Nat → Int32) (dln : Nat → Int32) (dsz : Nat → Int32) (dit : Nat → Int32) (dmv : Nat → Int32) (p0 : Int32) (p1 : Int32) (p2 : Int32) (res : Int32) (hF : f_X9_wear N p0 p1 p2 mrm mer dxs dus dys dgp = some res) : MI l yX9_wear wsX9_wear rm_X9_wear D ky sz [.ref aM, .int p0, .int p1, .int p2] (w_model ky aM mxs mus mys mgp mtp mme mle mlt mkl mln msz mit mmv mrm mer mtd mat mwr mkn mmb mwa mra mbl mbh dxs dus dys dgp dtp dme dle dlt dkl dln dsz dit dmv) (w_model ky aM mxs mus mys mgp mtp mme mle mlt mkl mln msz mit mmv mrm mer mtd mat mwr mkn mmb mwa mra mbl mbh dxs dus dys dgp dtp dme dle dlt dkl dln dsz dit dmv) res := by
  unfold MI
  refine Met.ofW (cc := cX9_wear) (maxL := 9) (ret := (some .int)) (by decide) rfl ?_
  intro p e s m args below meth c s₁ B hml hv
  obtain ⟨rfl, hsz, hP, hK, hD0⟩ := hv
  have hx := B.exec
  have hb := B.bytes
  have hr := B.returns
  have hts := atoms_spec (ws := wsX9_wear) B.pre
  have hown : s.vm.findClass RX9 = some m.cls := findClass_of_methodNamed B.named
  have hlocks := B.notSynchronized
  subst hsz
  have hD := hD0.self (sz := s.heap.size)
  generalize hAe : va_A (w_model ky aM mxs mus mys mgp mtp mme mle mlt mkl mln msz mit mmv mrm mer mtd mat mwr mkn mmb mwa mra mbl mbh dxs dus dys dgp dtp dme dle dlt dkl dln dsz dit dmv) s.heap.size = A at hD ⊢
  have hA : ∀ q : Nat, s.heap.size ≤ q → A q := fun q h => by rw [← hAe]; exact Or.inr h
  have hS : va_S A s.heap s.heap [] := va_S.rf
  have hP : va_P D vwCl (w_model ky aM mxs mus mys mgp mtp mme mle mlt mkl mln msz mit mmv mrm mer mtd mat mwr mkn mmb mwa mra mbl mbh dxs dus dys dgp dtp dme dle dlt dkl dln dsz dit dmv) s.heap := hP
  have hl := lv_entry ([.ref aM, .int p0, .int p1, .int p2]) (n := 9) (Nat.le_of_ble_eq_true rfl)
  rw [lg_entry_eq]
  generalize (lg_sl ([.ref aM, .int p0, .int p1, .int p2]) ++ List.replicate (9 - (lg_sl ([.ref aM, .int p0, .int p1, .int p2])).length) Slot.unset).toArray = ls at hl ⊢
  have hl : lv_has ls 9 [(0, .ref aM), (1, .int p0), (2, .int p1), (3, .int p2)] := hl
  have C : cx p s m c ([.ref aM, .int p0, .int p1, .int p2]).toArray D ky A cX9_wear 9 wsX9_wear RX9 := ⟨hx, hb, hml, hown, hts, hK, hA⟩
  have hQ : ∀ (pc : Nat) (H : Heap) (locs : List Loc) (ls : Array Slot), decode cX9_wear pc = .ok (.ireturn, 1) → va_P D vwCl (w_model ky aM mxs mus mys mgp mtp mme mle mlt mkl mln msz mit mmv mrm mer mtd mat mwr mkn mmb mwa mra mbl mbh dxs dus dys dgp dtp dme dle dlt dkl dln dsz dit dmv) H → va_D A (w_model ky aM mxs mus mys mgp mtp mme mle mlt mkl mln msz mit mmv mrm mer mtd mat mwr mkn mmb mwa mra mbl mbh dxs dus dys dgp dtp dme dle dlt dkl dln dsz dit dmv) → va_S A s.heap H locs → W p l e rm_X9_wear s m ([.ref aM, .int p0, .int p1, .int p2]).toArray below meth c H locs 0 0 (MQ below (va_Qi (S := Unit) (fun r _ => r = res) (fun _ t => va_P D vwCl (w_model ky aM mxs mus mys mgp mtp mme mle mlt mkl mln msz mit mmv mrm mer mtd mat mwr mkn mmb mwa mra mbl mbh dxs dus dys dgp dtp dme dle dlt dkl dln dsz dit dmv) t.heap ∧ va_K D vwCl (tyW ky) t ∧ va_D A (w_model ky aM mxs mus mys mgp mtp mme mle mlt mkl mln msz mit mmv mrm mer mtd mat mwr mkn mmb mwa mra mbl mbh dxs dus dys dgp dtp dme dle dlt dkl dln dsz dit dmv)) A) ([.ref aM, .int p0, .int p1, .int p2]).toArray s 0 0 A) (F0 m pc ls [.int res]) := fun pc H locs ls hd hP hD hS => W.iret hx hb hr (fun t ht hW => ⟨⟨res, (), rfl, rfl, by rw [ht]; exact hP, va_K.moved hW.alike hK, hD⟩, hS.F ht⟩) hS.2.2 hd
  unfold f_X9_wear at hF
  refine lv_iload_n hx hb dX9_wear_0 rfl (lv_at hl 1 rfl) ?_
  obtain ⟨r2, h1, hF⟩ := b1_s hF
  refine cl_si (As := [.int p0]) (rest := []) ⟨hx, hb, hml, hown, hts⟩ hK hP hD hS hA (c_X9_isLaw l D ky  _ N   p0 r2 h1) (va_cwS 1 hts gX9_wear_X9_isLaw rfl rfl rfl (by decide +kernel) ⟨Nat.le_of_ble_eq_true rfl, Nat.le_of_ble_eq_true rfl⟩) rfl hl.1 (Nat.le_of_ble_eq_true rfl) dX9_wear_1 ⟨Nat.zero_le _, Nat.zero_le _⟩ (fun H locs hP hD hS => ?_)
  refine lv_if_eq (tgt := 39) hx hb dX9_wear_4 (by decide) (fun c3 => ?_) (fun c3 => ?_)
  · have hF := if_t c3 hF
    refine lv_iconst (v := (-1 : Int32)) hx hb dX9_wear_39 (by decide) ?_
    have hF := Option.some.inj hF
    subst hF
    exact hQ _ _ _ _ dX9_wear_40 hP hD hS
  · have hF := if_f c3 hF
    refine lv_iload_n hx hb dX9_wear_7 rfl (lv_at hl 2 rfl) ?_
    refine lv_i2l (v := (p1.toInt64)) hx hb dX9_wear_8 rfl ?_
    refine lv_ldc2 hx hb hown (hts _ kX9_wear_0) dX9_wear_9 ?_
    refine lv_lconst (v := (1 : Int64)) hx hb dX9_wear_12 (by decide) ?_
    obtain ⟨r5, h4, hF⟩ := b1_s hF
    refine cl_si (As := [.long (p1.toInt64), .long (-1 : Int64), .long (1 : Int64)]) (rest := []) ⟨hx, hb, hml, hown, hts⟩ hK hP hD hS hA (c_X9_in l D ky  _ N   (p1.toInt64) (-1 : Int64) (1 : Int64) r5 h4) (va_cwS 3 hts gX9_wear_X9_in rfl rfl rfl (by decide +kernel) ⟨Nat.le_of_ble_eq_true rfl, Nat.le_of_ble_eq_true rfl⟩) rfl hl.1 (Nat.le_of_ble_eq_true rfl) dX9_wear_13 ⟨Nat.zero_le _, Nat.zero_le _⟩ (fun H locs hP hD hS => ?_)
    refine lv_if_eq (tgt := 39) hx hb dX9_wear_16 (by decide) (fun c6 => ?_) (fun c6 => ?_)
    · have hF := if_t c6 hF
      refine lv_iconst (v := (-1 : Int32)) hx hb dX9_wear_39 (by decide) ?_
      have hF := Option.some.inj hF
      subst hF
      exact hQ _ _ _ _ dX9_wear_40 hP hD hS
    · have hF := if_f c6 hF
      refine lv_iload_n hx hb dX9_wear_19 rfl (lv_at hl 3 rfl) ?_
      refine lv_i2l (v := (p2.toInt64)) hx hb dX9_wear_20 rfl ?_
      refine lv_ldc2 hx hb hown (hts _ kX9_wear_0) dX9_wear_21 ?_
      refine lv_lconst (v := (1 : Int64)) hx hb dX9_wear_24 (by decide) ?_
      obtain ⟨r8, h7, hF⟩ := b1_s hF
      refine cl_si (As := [.long (p2.toInt64), .long (-1 : Int64), .long (1 : Int64)]) (rest := []) ⟨hx, hb, hml, hown, hts⟩ hK hP hD hS hA (c_X9_in l D ky  _ N   (p2.toInt64) (-1 : Int64) (1 : Int64) r8 h7) (va_cwS 3 hts gX9_wear_X9_in rfl rfl rfl (by decide +kernel) ⟨Nat.le_of_ble_eq_true rfl, Nat.le_of_ble_eq_true rfl⟩) rfl hl.1 (Nat.le_of_ble_eq_true rfl) dX9_wear_25 ⟨Nat.zero_le _, Nat.zero_le _⟩ (fun H locs hP hD hS => ?_)
      refine lv_if_eq (tgt := 39) hx hb dX9_wear_28 (by decide) (fun c9 => ?_) (fun c9 => ?_)
      · have hF := if_t c9 hF
        refine lv_iconst (v := (-1 : Int32)) hx hb dX9_wear_39 (by decide) ?_
        have hF := Option.some.inj hF
        subst hF
        exact hQ _ _ _ _ dX9_wear_40 hP hD hS
      · have hF := if_f c9 hF
        refine lv_iload_n hx hb dX9_wear_31 rfl (lv_at hl 2 rfl) ?_
        refine lv_if_ne (tgt := 41) hx hb dX9_wear_32 (by decide) (fun c10 => ?_) (fun c10 => ?_)
        · have hF := if_f c10 hF
          exact w_X9_wear_41 N C res hQ p0 p1 p2 hF _ _ _ hP hD hS (lv_sub hl [0, 1, 2, 3] rfl)
        · have hF := if_t c10 hF
          refine lv_iload_n hx hb dX9_wear_35 rfl (lv_at hl 3 rfl) ?_
          refine lv_if_ne (tgt := 41) hx hb dX9_wear_36 (by decide) (fun c11 => ?_) (fun c11 => ?_)
          · have hF := if_f c11 hF
            exact w_X9_wear_41 N C res hQ p0 p1 p2 hF _ _ _ hP hD hS (lv_sub hl [0, 1, 2, 3] rfl)
          · have hF := if_t c11 hF
            refine lv_iconst (v := (-1 : Int32)) hx hb dX9_wear_39 (by decide) ?_
            have hF := Option.some.inj hF
            subst hF
            exact hQ _ _ _ _ dX9_wear_40 hP hD hS
theorem c_X9_wear (l : Launch) (D : va_G) (ky : Nat → ClassId) (aM mxs mus mys mgp mtp mme mle mlt mkl mln msz mit mmv : Nat) (sz N : Nat)  (mrm : Int32) (mer : Int32) (mtd : Int32) (mat : Int32) (mwr : Int32) (mkn : Int32) (mmb : Int32) (mwa : Int32) (mra : Int32) (mbl : Int32) (mbh : Int32) (dxs : Nat → Int32) (dus : Nat → Int32) (dys : Nat → Int32) (dgp : Nat → Int32) (dtp : Nat → Int32) (dme : Nat → Int32) (dle : Nat → Int32) (dlt : Nat → Int32) (dkl : Nat → Int32) (dln : Nat → Int32) (dsz : Nat → Int32) (dit : Nat → Int32) (dmv : Nat → Int32) (p0 : Int32) (p1 : Int32) (p2 : Int32) (rv : Int32) (hF : f_X9_wear N p0 p1 p2 mrm mer dxs dus dys dgp = some (rv)) : MI l yX9_wear wsX9_wear rm_X9_wear D ky sz [.ref aM, .int p0, .int p1, .int p2] (w_model ky aM mxs mus mys mgp mtp mme mle mlt mkl mln msz mit mmv mrm mer mtd mat mwr mkn mmb mwa mra mbl mbh dxs dus dys dgp dtp dme dle dlt dkl dln dsz dit dmv) (w_model ky aM mxs mus mys mgp mtp mme mle mlt mkl mln msz mit mmv mrm mer mtd mat mwr mkn mmb mwa mra mbl mbh dxs dus dys dgp dtp dme dle dlt dkl dln dsz dit dmv) rv :=
  cr_X9_wear l D ky aM mxs mus mys mgp mtp mme mle mlt mkl mln msz mit mmv sz N mrm mer mtd mat mwr mkn mmb mwa mra mbl mbh dxs dus dys dgp dtp dme dle dlt dkl dln dsz dit dmv p0 p1 p2 (rv) hF
abbrev rm_X9_check : Room := { frames := 5, cells := 0, slots := 0, locals := 119 }
theorem iX9_check_X9 : ∀ w ∈ wsX90, w ∈ wsX9_check := by decide +kernel
theorem kX9_check_1 : (Cond.fieldLink RX9 62 "TwoLawsModel" "rowMany" "I") ∈ wsX9_check := by decide +kernel
theorem kX9_check_2 : (Cond.fieldLink RX9 48 "TwoLawsModel" "items" "[I") ∈ wsX9_check := by decide +kernel
theorem kX9_check_3 : (Cond.constantLong RX9 177 (11)) ∈ wsX9_check := by decide +kernel
set_option maxHeartbeats 4000000 in
set_option maxRecDepth 100000 in
theorem w_X9_check_103 {p : Program} {l : Launch} {e : Env} {s : State} {m : MethodId} {args : Array Value} {below : List Frame} {meth : Method} {c : Code} {Q : State → Prop} {A : Nat → Prop} {D : va_G} {ky : Nat → ClassId} {aM mxs mus mys mgp mtp mme mle mlt mkl mln msz mit mmv : Nat} {mrm : Int32} {mer : Int32} {mtd : Int32} {mat : Int32} {mwr : Int32} {mkn : Int32} {mmb : Int32} {mwa : Int32} {mra : Int32} {mbl : Int32} {mbh : Int32} {dxs : Nat → Int32} {dus : Nat → Int32} {dys : Nat → Int32} {dgp : Nat → Int32} {dtp : Nat → Int32} {dme : Nat → Int32} {dle : Nat → Int32} {dlt : Nat → Int32} {dkl : Nat → Int32} {dln : Nat → Int32} {dsz : Nat → Int32} {dit : Nat → Int32} {dmv : Nat → Int32} (N : Nat) (C : cx p s m c args D ky A cX9_check 9 wsX9_check RX9) (res : Int32) (hQ : ∀ (pc : Nat) (H : Heap) (locs : List Loc) (ls : Array Slot), decode cX9_check pc = .ok (.ireturn, 1) → va_P D vwCl (w_model ky aM mxs mus mys mgp mtp mme mle mlt mkl mln msz mit mmv mrm mer mtd mat mwr mkn mmb mwa mra mbl mbh dxs dus dys dgp dtp dme dle dlt dkl dln dsz dit dmv) H → va_D A (w_model ky aM mxs mus mys mgp mtp mme mle mlt mkl mln msz mit mmv mrm mer mtd mat mwr mkn mmb mwa mra mbl mbh dxs dus dys dgp dtp dme dle dlt dkl dln dsz dit dmv) → va_S A s.heap H locs → W p l e rm_X9_check s m args below meth c H locs 0 0 Q (F0 m pc ls [.int res])) (l5 : Int32) (k90 : Int32 → Option (Int32)) (hk90 : ∀ (l6 : Int32), k90 l6 = some res → ∀ (H : Heap) (locs : List Loc) (ls : Array Slot), va_P D vwCl (w_model ky aM mxs mus mys mgp mtp mme mle mlt mkl mln msz mit mmv mrm mer mtd mat mwr mkn mmb mwa mra mbl mbh dxs dus dys dgp dtp dme dle dlt dkl dln dsz dit dmv) H → va_D A (w_model ky aM mxs mus mys mgp mtp mme mle mlt mkl mln msz mit mmv mrm mer mtd mat mwr mkn mmb mwa mra mbl mbh dxs dus dys dgp dtp dme dle dlt dkl dln dsz dit dmv) → va_S A s.heap H locs → lv_has ls 9 [(0, .ref aM), (5, .int l5), (6, .int l6)] → W p l e rm_X9_check s m args below meth c H locs 0 0 Q (F0 m 90 ls [])) (l6 : Int32) : ∀ (n : Nat) (l7 : Int32) (l8 : Int32), f_X9_check_103 N k90 l5 l6 mrm mer dxs dus dys dgp dit n l7 l8 = some res → ∀ (H : Heap) (locs : List Loc) (ls : Array Slot), va_P D vwCl (w_model ky aM mxs mus mys mgp mtp mme mle mlt mkl mln msz mit mmv mrm mer mtd mat mwr mkn mmb mwa mra mbl mbh dxs dus dys dgp dtp dme dle dlt dkl dln dsz dit dmv) H → va_D A (w_model ky aM mxs mus mys mgp mtp mme mle mlt mkl mln msz mit mmv mrm mer mtd mat mwr mkn mmb mwa mra mbl mbh dxs dus dys dgp dtp dme dle dlt dkl dln dsz dit dmv) → va_S A s.heap H locs → lv_has ls 9 [(0, .ref aM), (5, .int l5), (6, .int l6), (7, .int l7), (8, .int l8)] → W p l e rm_X9_check s m args below meth c H locs 0 0 Q (F0 m 103 ls []) := by
  obtain ⟨hx, hb, hml, hown, hts, hK, hA⟩ := id C
  intro n
  induction n with
  | zero =>
    intro l7 l8 hF
    cases hF
  | succ n ih =>
    intro l7 l8 hF H locs ls hP hD hS hl
    have hF : b_X9_check_103 N k90 l5 l6 mrm mer dxs dus dys dgp dit (f_X9_check_103 N k90 l5 l6 mrm mer dxs dus dys dgp dit n) l7 l8 = some res := hF
    unfold b_X9_check_103 at hF
    refine lv_iload hx hb dX9_check_103 (lv_at hl 4 rfl) ?_
    refine lv_aload_n hx hb dX9_check_105 rfl (lv_at hl 0 rfl) ?_
    refine va_get (D := D) (ci := 8) (v := .int mrm) (C := RX9) (T := TX9) (N := 24) hx hb hts iX9_check_X9 hown hK hP 0 rfl rfl 0 (by decide) (hts _ kX9_check_1) (fun _ h9 => h9) rfl dX9_check_106 ?_
    refine lv_icmp_ge (tgt := 146) hx hb dX9_check_109 (by decide) (fun c16 => ?_) (fun c16 => ?_)
    · have hF := if_t c16 hF
      refine lv_aload_n hx hb dX9_check_146 rfl (lv_at hl 0 rfl) ?_
      refine lv_iload hx hb dX9_check_147 (lv_at hl 3 rfl) ?_
      obtain ⟨r18, h17, hF⟩ := b1_s hF
      refine cl_vi (As := [.int l7]) (rest := []) (w' := (w_model ky aM mxs mus mys mgp mtp mme mle mlt mkl mln msz mit mmv mrm mer mtd mat mwr mkn mmb mwa mra mbl mbh dxs dus dys dgp dtp dme dle dlt dkl dln dsz dit dmv)) ⟨hx, hb, hml, hown, hts⟩ hK hP hD hS hA (c_X9_isWhole l D ky aM mxs mus mys mgp mtp mme mle mlt mkl mln msz mit mmv _ N  mrm mer mtd mat mwr mkn mmb mwa mra mbl mbh dxs dus dys dgp dtp dme dle dlt dkl dln dsz dit dmv l7 r18 h17) (cwV 1 hts gX9_check_X9_isWhole rfl rfl rfl (by decide +kernel) ⟨Nat.le_of_ble_eq_true rfl, Nat.le_of_ble_eq_true rfl⟩) [0, 1, 2, 3, 4, 5, 6, 7, 8, 9, 10, 11, 12, 13] [] [0, 1, 2, 3, 4, 5, 6, 7, 8, 9, 10, 11, 12, 13] 0 8 rfl rfl rfl rfl (wr := []) rfl (by decide) rfl rfl hl.1 (Nat.le_of_ble_eq_true rfl) dX9_check_149 ⟨Nat.zero_le _, Nat.zero_le _⟩ (fun H locs hP hD hS => ?_)
      refine lv_if_ne (tgt := 158) hx hb dX9_check_152 (by decide) (fun c19 => ?_) (fun c19 => ?_)
      · have hF := if_f c19 hF
        refine lv_iinc (v := (l6 + (1 : Int32))) (lv' := [(6, .int (l6 + (1 : Int32))), (0, .ref aM), (5, .int l5), (7, .int l7), (8, .int l8)]) hx hb dX9_check_158 hl (k := 2) rfl rfl (by decide) rfl (fun ls hl => ?_)
        refine lv_goto (tgt := 90) hx hb dX9_check_161 (by decide) ?_
        exact hk90 (l6 + (1 : Int32)) hF H _ _ hP hD hS (lv_sub hl [1, 2, 0] rfl)
      · have hF := if_t c19 hF
        refine lv_iload hx hb dX9_check_155 (lv_at hl 2 rfl) ?_
        have hF := Option.some.inj hF
        subst hF
        exact hQ _ H _ _ dX9_check_157 hP hD hS
    · have hF := if_f c16 hF
      refine lv_iload hx hb dX9_check_112 (lv_at hl 3 rfl) ?_
      refine lv_aload_n hx hb dX9_check_114 rfl (lv_at hl 0 rfl) ?_
      refine va_get (D := D) (ci := 8) (v := .ref mit) (C := RX9) (T := TX9) (N := 24) hx hb hts iX9_check_X9 hown hK hP 0 rfl rfl 22 (by decide) (hts _ kX9_check_2) (fun _ h9 => h9) rfl dX9_check_115 ?_
      refine lv_iload hx hb dX9_check_118 (lv_at hl 1 rfl) ?_
      refine lv_iload hx hb dX9_check_120 (lv_at hl 4 rfl) ?_
      refine lv_iadd hx hb dX9_check_122 ?_
      obtain ⟨h20, hF⟩ := gi_s hF
      refine va_iald hx hb hK hP 12 0 rfl rfl h20 dX9_check_123 ?_
      refine lv_iload hx hb dX9_check_124 (lv_at hl 2 rfl) ?_
      refine lv_icmp_ne (tgt := 136) hx hb dX9_check_126 (by decide) (fun c21 => ?_) (fun c21 => ?_)
      · have hF := if_f c21 hF
        refine lv_iconst (v := (0 : Int32)) hx hb dX9_check_136 (by decide) ?_
        refine lv_ior hx hb dX9_check_137 ?_
        refine lv_istore (lv' := [(7, .int (l7 ||| (0 : Int32))), (0, .ref aM), (5, .int l5), (6, .int l6), (8, .int l8)]) hx hb dX9_check_138 hl (by decide) rfl (fun ls hl => ?_)
        refine lv_iinc (v := (l8 + (1 : Int32))) (lv' := [(8, .int (l8 + (1 : Int32))), (7, .int (l7 ||| (0 : Int32))), (0, .ref aM), (5, .int l5), (6, .int l6)]) hx hb dX9_check_140 hl (k := 4) rfl rfl (by decide) rfl (fun ls hl => ?_)
        refine lv_goto (tgt := 103) hx hb dX9_check_143 (by decide) ?_
        exact ih (l7 ||| (0 : Int32)) (l8 + (1 : Int32)) hF H _ _ hP hD hS (lv_sub hl [2, 3, 4, 1, 0] rfl)
      · have hF := if_t c21 hF
        refine lv_iconst (v := (1 : Int32)) hx hb dX9_check_129 (by decide) ?_
        refine lv_iload hx hb dX9_check_130 (lv_at hl 4 rfl) ?_
        refine lv_ishl hx hb dX9_check_132 ?_
        refine lv_goto (tgt := 137) hx hb dX9_check_133 (by decide) ?_
        refine lv_ior hx hb dX9_check_137 ?_
        refine lv_istore (lv' := [(7, .int (l7 ||| ((1 : Int32) <<< (l8 &&& 31)))), (0, .ref aM), (5, .int l5), (6, .int l6), (8, .int l8)]) hx hb dX9_check_138 hl (by decide) rfl (fun ls hl => ?_)
        refine lv_iinc (v := (l8 + (1 : Int32))) (lv' := [(8, .int (l8 + (1 : Int32))), (7, .int (l7 ||| ((1 : Int32) <<< (l8 &&& 31)))), (0, .ref aM), (5, .int l5), (6, .int l6)]) hx hb dX9_check_140 hl (k := 4) rfl rfl (by decide) rfl (fun ls hl => ?_)
        refine lv_goto (tgt := 103) hx hb dX9_check_143 (by decide) ?_
        exact ih (l7 ||| ((1 : Int32) <<< (l8 &&& 31))) (l8 + (1 : Int32)) hF H _ _ hP hD hS (lv_sub hl [2, 3, 4, 1, 0] rfl)
set_option maxHeartbeats 4000000 in
set_option maxRecDepth 100000 in
theorem w_X9_check_90 {p : Program} {l : Launch} {e : Env} {s : State} {m : MethodId} {args : Array Value} {below : List Frame} {meth : Method} {c : Code} {Q : State → Prop} {A : Nat → Prop} {D : va_G} {ky : Nat → ClassId} {aM mxs mus mys mgp mtp mme mle mlt mkl mln msz mit mmv : Nat} {mrm : Int32} {mer : Int32} {mtd : Int32} {mat : Int32} {mwr : Int32} {mkn : Int32} {mmb : Int32} {mwa : Int32} {mra : Int32} {mbl : Int32} {mbh : Int32} {dxs : Nat → Int32} {dus : Nat → Int32} {dys : Nat → Int32} {dgp : Nat → Int32} {dtp : Nat → Int32} {dme : Nat → Int32} {dle : Nat → Int32} {dlt : Nat → Int32} {dkl : Nat → Int32} {dln : Nat → Int32} {dsz : Nat → Int32} {dit : Nat → Int32} {dmv : Nat → Int32} (N : Nat) (C : cx p s m c args D ky A cX9_check 9 wsX9_check RX9) (res : Int32) (hQ : ∀ (pc : Nat) (H : Heap) (locs : List Loc) (ls : Array Slot), decode cX9_check pc = .ok (.ireturn, 1) → va_P D vwCl (w_model ky aM mxs mus mys mgp mtp mme mle mlt mkl mln msz mit mmv mrm mer mtd mat mwr mkn mmb mwa mra mbl mbh dxs dus dys dgp dtp dme dle dlt dkl dln dsz dit dmv) H → va_D A (w_model ky aM mxs mus mys mgp mtp mme mle mlt mkl mln msz mit mmv mrm mer mtd mat mwr mkn mmb mwa mra mbl mbh dxs dus dys dgp dtp dme dle dlt dkl dln dsz dit dmv) → va_S A s.heap H locs → W p l e rm_X9_check s m args below meth c H locs 0 0 Q (F0 m pc ls [.int res])) (l5 : Int32) : ∀ (n : Nat) (l6 : Int32), f_X9_check_90 N l5 mrm mer dxs dus dys dgp dit n l6 = some res → ∀ (H : Heap) (locs : List Loc) (ls : Array Slot), va_P D vwCl (w_model ky aM mxs mus mys mgp mtp mme mle mlt mkl mln msz mit mmv mrm mer mtd mat mwr mkn mmb mwa mra mbl mbh dxs dus dys dgp dtp dme dle dlt dkl dln dsz dit dmv) H → va_D A (w_model ky aM mxs mus mys mgp mtp mme mle mlt mkl mln msz mit mmv mrm mer mtd mat mwr mkn mmb mwa mra mbl mbh dxs dus dys dgp dtp dme dle dlt dkl dln dsz dit dmv) → va_S A s.heap H locs → lv_has ls 9 [(0, .ref aM), (5, .int l5), (6, .int l6)] → W p l e rm_X9_check s m args below meth c H locs 0 0 Q (F0 m 90 ls []) := by
  obtain ⟨hx, hb, hml, hown, hts, hK, hA⟩ := id C
  intro n
  induction n with
  | zero =>
    intro l6 hF
    cases hF
  | succ n ih =>
    intro l6 hF H locs ls hP hD hS hl
    have hF : b_X9_check_90 N l5 mrm mer dxs dus dys dgp dit (f_X9_check_90 N l5 mrm mer dxs dus dys dgp dit n) l6 = some res := hF
    unfold b_X9_check_90 at hF
    refine lv_iload hx hb dX9_check_90 (lv_at hl 2 rfl) ?_
    refine lv_bipush (v := (12 : Int32)) hx hb dX9_check_92 (by decide) ?_
    refine lv_icmp_ge (tgt := 164) hx hb dX9_check_94 (by decide) (fun c15 => ?_) (fun c15 => ?_)
    · have hF := if_t c15 hF
      refine lv_bipush (v := (-4 : Int32)) hx hb dX9_check_164 (by decide) ?_
      have hF := Option.some.inj hF
      subst hF
      exact hQ _ H _ _ dX9_check_166 hP hD hS
    · have hF := if_f c15 hF
      refine lv_iconst (v := (0 : Int32)) hx hb dX9_check_97 (by decide) ?_
      refine lv_istore (lv' := [(7, .int (0 : Int32)), (0, .ref aM), (5, .int l5), (6, .int l6)]) hx hb dX9_check_98 hl (by decide) rfl (fun ls hl => ?_)
      refine lv_iconst (v := (0 : Int32)) hx hb dX9_check_100 (by decide) ?_
      refine lv_istore (lv' := [(8, .int (0 : Int32)), (7, .int (0 : Int32)), (0, .ref aM), (5, .int l5), (6, .int l6)]) hx hb dX9_check_101 hl (by decide) rfl (fun ls hl => ?_)
      exact w_X9_check_103 N C res hQ l5 _ ih l6 N (0 : Int32) (0 : Int32) hF H _ _ hP hD hS (lv_sub hl [2, 3, 4, 1, 0] rfl)
set_option maxHeartbeats 4000000 in
set_option maxRecDepth 100000 in
theorem w_X9_check_48 {p : Program} {l : Launch} {e : Env} {s : State} {m : MethodId} {args : Array Value} {below : List Frame} {meth : Method} {c : Code} {Q : State → Prop} {A : Nat → Prop} {D : va_G} {ky : Nat → ClassId} {aM mxs mus mys mgp mtp mme mle mlt mkl mln msz mit mmv : Nat} {mrm : Int32} {mer : Int32} {mtd : Int32} {mat : Int32} {mwr : Int32} {mkn : Int32} {mmb : Int32} {mwa : Int32} {mra : Int32} {mbl : Int32} {mbh : Int32} {dxs : Nat → Int32} {dus : Nat → Int32} {dys : Nat → Int32} {dgp : Nat → Int32} {dtp : Nat → Int32} {dme : Nat → Int32} {dle : Nat → Int32} {dlt : Nat → Int32} {dkl : Nat → Int32} {dln : Nat → Int32} {dsz : Nat → Int32} {dit : Nat → Int32} {dmv : Nat → Int32} (N : Nat) (C : cx p s m c args D ky A cX9_check 9 wsX9_check RX9) (res : Int32) (hQ : ∀ (pc : Nat) (H : Heap) (locs : List Loc) (ls : Array Slot), decode cX9_check pc = .ok (.ireturn, 1) → va_P D vwCl (w_model ky aM mxs mus mys mgp mtp mme mle mlt mkl mln msz mit mmv mrm mer mtd mat mwr mkn mmb mwa mra mbl mbh dxs dus dys dgp dtp dme dle dlt dkl dln dsz dit dmv) H → va_D A (w_model ky aM mxs mus mys mgp mtp mme mle mlt mkl mln msz mit mmv mrm mer mtd mat mwr mkn mmb mwa mra mbl mbh dxs dus dys dgp dtp dme dle dlt dkl dln dsz dit dmv) → va_S A s.heap H locs → W p l e rm_X9_check s m args below meth c H locs 0 0 Q (F0 m pc ls [.int res])) (l5 : Int32) : ∀ (n : Nat) (l6 : Int32), f_X9_check_48 N l5 mrm mer dxs dus dys dgp dit n l6 = some res → ∀ (H : Heap) (locs : List Loc) (ls : Array Slot), va_P D vwCl (w_model ky aM mxs mus mys mgp mtp mme mle mlt mkl mln msz mit mmv mrm mer mtd mat mwr mkn mmb mwa mra mbl mbh dxs dus dys dgp dtp dme dle dlt dkl dln dsz dit dmv) H → va_D A (w_model ky aM mxs mus mys mgp mtp mme mle mlt mkl mln msz mit mmv mrm mer mtd mat mwr mkn mmb mwa mra mbl mbh dxs dus dys dgp dtp dme dle dlt dkl dln dsz dit dmv) → va_S A s.heap H locs → lv_has ls 9 [(0, .ref aM), (5, .int l5), (6, .int l6)] → W p l e rm_X9_check s m args below meth c H locs 0 0 Q (F0 m 48 ls []) := by
  obtain ⟨hx, hb, hml, hown, hts, hK, hA⟩ := id C
  intro n
  induction n with
  | zero =>
    intro l6 hF
    cases hF
  | succ n ih =>
    intro l6 hF H locs ls hP hD hS hl
    have hF : b_X9_check_48 N l5 mrm mer dxs dus dys dgp dit (f_X9_check_48 N l5 mrm mer dxs dus dys dgp dit n) l6 = some res := hF
    unfold b_X9_check_48 at hF
    refine lv_iload hx hb dX9_check_48 (lv_at hl 2 rfl) ?_
    refine lv_aload_n hx hb dX9_check_50 rfl (lv_at hl 0 rfl) ?_
    refine va_get (D := D) (ci := 8) (v := .int mrm) (C := RX9) (T := TX9) (N := 24) hx hb hts iX9_check_X9 hown hK hP 0 rfl rfl 0 (by decide) (hts _ kX9_check_1) (fun _ h9 => h9) rfl dX9_check_51 ?_
    refine lv_icmp_ge (tgt := 87) hx hb dX9_check_54 (by decide) (fun c10 => ?_) (fun c10 => ?_)
    · have hF := if_t c10 hF
      refine lv_iconst (v := (0 : Int32)) hx hb dX9_check_87 (by decide) ?_
      refine lv_istore (lv' := [(6, .int (0 : Int32)), (0, .ref aM), (5, .int l5)]) hx hb dX9_check_88 hl (by decide) rfl (fun ls hl => ?_)
      exact w_X9_check_90 N C res hQ l5 N (0 : Int32) hF H _ _ hP hD hS (lv_sub hl [1, 2, 0] rfl)
    · have hF := if_f c10 hF
      refine lv_aload_n hx hb dX9_check_57 rfl (lv_at hl 0 rfl) ?_
      refine va_get (D := D) (ci := 8) (v := .ref mit) (C := RX9) (T := TX9) (N := 24) hx hb hts iX9_check_X9 hown hK hP 0 rfl rfl 22 (by decide) (hts _ kX9_check_2) (fun _ h9 => h9) rfl dX9_check_58 ?_
      refine lv_iload hx hb dX9_check_61 (lv_at hl 1 rfl) ?_
      refine lv_iload hx hb dX9_check_63 (lv_at hl 2 rfl) ?_
      refine lv_iadd hx hb dX9_check_65 ?_
      obtain ⟨h11, hF⟩ := gi_s hF
      refine va_iald hx hb hK hP 12 0 rfl rfl h11 dX9_check_66 ?_
      refine lv_i2l (v := ((dit (l5 + l6).toNatClampNeg).toInt64)) hx hb dX9_check_67 rfl ?_
      refine lv_lconst (v := (0 : Int64)) hx hb dX9_check_68 (by decide) ?_
      refine lv_ldc2 hx hb hown (hts _ kX9_check_3) dX9_check_69 ?_
      obtain ⟨r13, h12, hF⟩ := b1_s hF
      refine cl_si (As := [.long ((dit (l5 + l6).toNatClampNeg).toInt64), .long (0 : Int64), .long (11 : Int64)]) (rest := []) ⟨hx, hb, hml, hown, hts⟩ hK hP hD hS hA (c_X9_in l D ky  _ N   ((dit (l5 + l6).toNatClampNeg).toInt64) (0 : Int64) (11 : Int64) r13 h12) (va_cwS 3 hts gX9_check_X9_in rfl rfl rfl (by decide +kernel) ⟨Nat.le_of_ble_eq_true rfl, Nat.le_of_ble_eq_true rfl⟩) rfl hl.1 (Nat.le_of_ble_eq_true rfl) dX9_check_72 ⟨Nat.zero_le _, Nat.zero_le _⟩ (fun H locs hP hD hS => ?_)
      refine lv_if_ne (tgt := 81) hx hb dX9_check_75 (by decide) (fun c14 => ?_) (fun c14 => ?_)
      · have hF := if_f c14 hF
        refine lv_iinc (v := (l6 + (1 : Int32))) (lv' := [(6, .int (l6 + (1 : Int32))), (0, .ref aM), (5, .int l5)]) hx hb dX9_check_81 hl (k := 2) rfl rfl (by decide) rfl (fun ls hl => ?_)
        refine lv_goto (tgt := 48) hx hb dX9_check_84 (by decide) ?_
        exact ih (l6 + (1 : Int32)) hF H _ _ hP hD hS (lv_sub hl [1, 2, 0] rfl)
      · have hF := if_t c14 hF
        refine lv_bipush (v := (-2 : Int32)) hx hb dX9_check_78 (by decide) ?_
        have hF := Option.some.inj hF
        subst hF
        exact hQ _ H _ _ dX9_check_80 hP hD hS
set_option maxHeartbeats 4000000 in
set_option maxRecDepth 100000 in
theorem cr_X9_check (l : Launch) (D : va_G) (ky : Nat → ClassId) (aM mxs mus mys mgp mtp mme mle mlt mkl mln msz mit mmv : Nat) (sz N : Nat)  (mrm : Int32) (mer : Int32) (mtd : Int32) (mat : Int32) (mwr : Int32) (mkn : Int32) (mmb : Int32) (mwa : Int32) (mra : Int32) (mbl : Int32) (mbh : Int32) (dxs : Nat → Int32) (dus : Nat → Int32) (dys : Nat → Int32) (dgp : Nat → Int32) (dtp : Nat → Int32) (dme : Nat → Int32) (dle : Nat → Int32) (dlt : Nat → Int32) (dkl : Nat → Int32) (dln : Nat → Int32) (dsz : Nat → Int32) (dit : Nat → Int32) (dmv : Nat → Int32) (p0 : Int32) (p1 : Int32) (p2 : Int32) (res : Int32) (hF : f_X9_check N p0 p1 p2 mrm mer dxs dus dys dgp dln dsz dit = some res) : MI l yX9_check wsX9_check rm_X9_check D ky sz [.ref aM, .int p0, .int p1, .int p2] (w_model ky aM mxs mus mys mgp mtp mme mle mlt mkl mln msz mit mmv mrm mer mtd mat mwr mkn mmb mwa mra mbl mbh dxs dus dys dgp dtp dme dle dlt dkl dln dsz dit dmv) (w_model ky aM mxs mus mys mgp mtp mme mle mlt mkl mln msz mit mmv mrm mer mtd mat mwr mkn mmb mwa mra mbl mbh dxs dus dys dgp dtp dme dle dlt dkl dln dsz dit dmv) res := by
  unfold MI
  refine Met.ofW (cc := cX9_check) (maxL := 9) (ret := (some .int)) (by decide) rfl ?_
  intro p e s m args below meth c s₁ B hml hv
  obtain ⟨rfl, hsz, hP, hK, hD0⟩ := hv
  have hx := B.exec
  have hb := B.bytes
  have hr := B.returns
  have hts := atoms_spec (ws := wsX9_check) B.pre
  have hown : s.vm.findClass RX9 = some m.cls := findClass_of_methodNamed B.named
  have hlocks := B.notSynchronized
  subst hsz
  have hD := hD0.self (sz := s.heap.size)
  generalize hAe : va_A (w_model ky aM mxs mus mys mgp mtp mme mle mlt mkl mln msz mit mmv mrm mer mtd mat mwr mkn mmb mwa mra mbl mbh dxs dus dys dgp dtp dme dle dlt dkl dln dsz dit dmv) s.heap.size = A at hD ⊢
  have hA : ∀ q : Nat, s.heap.size ≤ q → A q := fun q h => by rw [← hAe]; exact Or.inr h
  have hS : va_S A s.heap s.heap [] := va_S.rf
  have hP : va_P D vwCl (w_model ky aM mxs mus mys mgp mtp mme mle mlt mkl mln msz mit mmv mrm mer mtd mat mwr mkn mmb mwa mra mbl mbh dxs dus dys dgp dtp dme dle dlt dkl dln dsz dit dmv) s.heap := hP
  have hl := lv_entry ([.ref aM, .int p0, .int p1, .int p2]) (n := 9) (Nat.le_of_ble_eq_true rfl)
  rw [lg_entry_eq]
  generalize (lg_sl ([.ref aM, .int p0, .int p1, .int p2]) ++ List.replicate (9 - (lg_sl ([.ref aM, .int p0, .int p1, .int p2])).length) Slot.unset).toArray = ls at hl ⊢
  have hl : lv_has ls 9 [(0, .ref aM), (1, .int p0), (2, .int p1), (3, .int p2)] := hl
  have C : cx p s m c ([.ref aM, .int p0, .int p1, .int p2]).toArray D ky A cX9_check 9 wsX9_check RX9 := ⟨hx, hb, hml, hown, hts, hK, hA⟩
  have hQ : ∀ (pc : Nat) (H : Heap) (locs : List Loc) (ls : Array Slot), decode cX9_check pc = .ok (.ireturn, 1) → va_P D vwCl (w_model ky aM mxs mus mys mgp mtp mme mle mlt mkl mln msz mit mmv mrm mer mtd mat mwr mkn mmb mwa mra mbl mbh dxs dus dys dgp dtp dme dle dlt dkl dln dsz dit dmv) H → va_D A (w_model ky aM mxs mus mys mgp mtp mme mle mlt mkl mln msz mit mmv mrm mer mtd mat mwr mkn mmb mwa mra mbl mbh dxs dus dys dgp dtp dme dle dlt dkl dln dsz dit dmv) → va_S A s.heap H locs → W p l e rm_X9_check s m ([.ref aM, .int p0, .int p1, .int p2]).toArray below meth c H locs 0 0 (MQ below (va_Qi (S := Unit) (fun r _ => r = res) (fun _ t => va_P D vwCl (w_model ky aM mxs mus mys mgp mtp mme mle mlt mkl mln msz mit mmv mrm mer mtd mat mwr mkn mmb mwa mra mbl mbh dxs dus dys dgp dtp dme dle dlt dkl dln dsz dit dmv) t.heap ∧ va_K D vwCl (tyW ky) t ∧ va_D A (w_model ky aM mxs mus mys mgp mtp mme mle mlt mkl mln msz mit mmv mrm mer mtd mat mwr mkn mmb mwa mra mbl mbh dxs dus dys dgp dtp dme dle dlt dkl dln dsz dit dmv)) A) ([.ref aM, .int p0, .int p1, .int p2]).toArray s 0 0 A) (F0 m pc ls [.int res]) := fun pc H locs ls hd hP hD hS => W.iret hx hb hr (fun t ht hW => ⟨⟨res, (), rfl, rfl, by rw [ht]; exact hP, va_K.moved hW.alike hK, hD⟩, hS.F ht⟩) hS.2.2 hd
  unfold f_X9_check at hF
  refine lv_iload_n hx hb dX9_check_0 rfl (lv_at hl 1 rfl) ?_
  obtain ⟨r2, h1, hF⟩ := b1_s hF
  refine cl_si (As := [.int p0]) (rest := []) ⟨hx, hb, hml, hown, hts⟩ hK hP hD hS hA (c_X9_isSheet l D ky  _ N   p0 r2 h1) (va_cwS 1 hts gX9_check_X9_isSheet rfl rfl rfl (by decide +kernel) ⟨Nat.le_of_ble_eq_true rfl, Nat.le_of_ble_eq_true rfl⟩) rfl hl.1 (Nat.le_of_ble_eq_true rfl) dX9_check_1 ⟨Nat.zero_le _, Nat.zero_le _⟩ (fun H locs hP hD hS => ?_)
  refine lv_if_eq (tgt := 14) hx hb dX9_check_4 (by decide) (fun c3 => ?_) (fun c3 => ?_)
  · have hF := if_t c3 hF
    refine lv_iconst (v := (-1 : Int32)) hx hb dX9_check_14 (by decide) ?_
    have hF := Option.some.inj hF
    subst hF
    exact hQ _ _ _ _ dX9_check_15 hP hD hS
  · have hF := if_f c3 hF
    refine lv_iload_n hx hb dX9_check_7 rfl (lv_at hl 2 rfl) ?_
    obtain ⟨r5, h4, hF⟩ := b1_s hF
    refine cl_si (As := [.int p1]) (rest := []) ⟨hx, hb, hml, hown, hts⟩ hK hP hD hS hA (c_X9_isLane l D ky  _ N   p1 r5 h4) (va_cwS 1 hts gX9_check_X9_isLane rfl rfl rfl (by decide +kernel) ⟨Nat.le_of_ble_eq_true rfl, Nat.le_of_ble_eq_true rfl⟩) rfl hl.1 (Nat.le_of_ble_eq_true rfl) dX9_check_8 ⟨Nat.zero_le _, Nat.zero_le _⟩ (fun H locs hP hD hS => ?_)
    refine lv_if_ne (tgt := 16) hx hb dX9_check_11 (by decide) (fun c6 => ?_) (fun c6 => ?_)
    · have hF := if_f c6 hF
      refine lv_aload_n hx hb dX9_check_16 rfl (lv_at hl 0 rfl) ?_
      refine lv_iload_n hx hb dX9_check_17 rfl (lv_at hl 1 rfl) ?_
      refine lv_iload_n hx hb dX9_check_18 rfl (lv_at hl 2 rfl) ?_
      refine lv_iload_n hx hb dX9_check_19 rfl (lv_at hl 3 rfl) ?_
      refine lv_aload_n hx hb dX9_check_20 rfl (lv_at hl 0 rfl) ?_
      refine va_get (D := D) (ci := 8) (v := .int mrm) (C := RX9) (T := TX9) (N := 24) hx hb hts iX9_check_X9 hown hK hP 0 rfl rfl 0 (by decide) (hts _ kX9_check_1) (fun _ h9 => h9) rfl dX9_check_21 ?_
      obtain ⟨r8, h7, hF⟩ := b1_s hF
      refine cl_vi (As := [.int p0, .int p1, .int p2, .int mrm]) (rest := []) (w' := (w_model ky aM mxs mus mys mgp mtp mme mle mlt mkl mln msz mit mmv mrm mer mtd mat mwr mkn mmb mwa mra mbl mbh dxs dus dys dgp dtp dme dle dlt dkl dln dsz dit dmv)) ⟨hx, hb, hml, hown, hts⟩ hK hP hD hS hA (c_X9_finds l D ky aM mxs mus mys mgp mtp mme mle mlt mkl mln msz mit mmv _ N  mrm mer mtd mat mwr mkn mmb mwa mra mbl mbh dxs dus dys dgp dtp dme dle dlt dkl dln dsz dit dmv p0 p1 p2 mrm r8 h7) (cwV 4 hts gX9_check_X9_finds rfl rfl rfl (by decide +kernel) ⟨Nat.le_of_ble_eq_true rfl, Nat.le_of_ble_eq_true rfl⟩) [0, 1, 2, 3, 4, 5, 6, 7, 8, 9, 10, 11, 12, 13] [] [0, 1, 2, 3, 4, 5, 6, 7, 8, 9, 10, 11, 12, 13] 0 8 rfl rfl rfl rfl (wr := []) rfl (by decide) rfl rfl hl.1 (Nat.le_of_ble_eq_true rfl) dX9_check_24 ⟨Nat.zero_le _, Nat.zero_le _⟩ (fun H locs hP hD hS => ?_)
      refine lv_istore (lv' := [(4, .int r8), (0, .ref aM), (1, .int p0), (2, .int p1), (3, .int p2)]) hx hb dX9_check_27 hl (by decide) rfl (fun ls hl => ?_)
      refine lv_iload hx hb dX9_check_29 (lv_at hl 0 rfl) ?_
      refine lv_if_ge (tgt := 37) hx hb dX9_check_31 (by decide) (fun c9 => ?_) (fun c9 => ?_)
      · have hF := if_t c9 hF
        refine lv_bipush (v := (36 : Int32)) hx hb dX9_check_37 (by decide) ?_
        refine lv_iload_n hx hb dX9_check_39 rfl (lv_at hl 2 rfl) ?_
        refine lv_imul hx hb dX9_check_40 ?_
        refine lv_iload_n hx hb dX9_check_41 rfl (lv_at hl 4 rfl) ?_
        refine lv_iadd hx hb dX9_check_42 ?_
        refine lv_istore (lv' := [(5, .int (((36 : Int32) * p0) + p2)), (4, .int r8), (0, .ref aM), (1, .int p0), (2, .int p1), (3, .int p2)]) hx hb dX9_check_43 hl (by decide) rfl (fun ls hl => ?_)
        refine lv_iconst (v := (0 : Int32)) hx hb dX9_check_45 (by decide) ?_
        refine lv_istore (lv' := [(6, .int (0 : Int32)), (5, .int (((36 : Int32) * p0) + p2)), (4, .int r8), (0, .ref aM), (1, .int p0), (2, .int p1), (3, .int p2)]) hx hb dX9_check_46 hl (by decide) rfl (fun ls hl => ?_)
        exact w_X9_check_48 N C res hQ (((36 : Int32) * p0) + p2) N (0 : Int32) hF _ _ _ hP hD hS (lv_sub hl [3, 1, 0] rfl)
      · have hF := if_f c9 hF
        refine lv_iload hx hb dX9_check_34 (lv_at hl 0 rfl) ?_
        have hF := Option.some.inj hF
        subst hF
        exact hQ _ _ _ _ dX9_check_36 hP hD hS
    · have hF := if_t c6 hF
      refine lv_iconst (v := (-1 : Int32)) hx hb dX9_check_14 (by decide) ?_
      have hF := Option.some.inj hF
      subst hF
      exact hQ _ _ _ _ dX9_check_15 hP hD hS
theorem c_X9_check (l : Launch) (D : va_G) (ky : Nat → ClassId) (aM mxs mus mys mgp mtp mme mle mlt mkl mln msz mit mmv : Nat) (sz N : Nat)  (mrm : Int32) (mer : Int32) (mtd : Int32) (mat : Int32) (mwr : Int32) (mkn : Int32) (mmb : Int32) (mwa : Int32) (mra : Int32) (mbl : Int32) (mbh : Int32) (dxs : Nat → Int32) (dus : Nat → Int32) (dys : Nat → Int32) (dgp : Nat → Int32) (dtp : Nat → Int32) (dme : Nat → Int32) (dle : Nat → Int32) (dlt : Nat → Int32) (dkl : Nat → Int32) (dln : Nat → Int32) (dsz : Nat → Int32) (dit : Nat → Int32) (dmv : Nat → Int32) (p0 : Int32) (p1 : Int32) (p2 : Int32) (rv : Int32) (hF : f_X9_check N p0 p1 p2 mrm mer dxs dus dys dgp dln dsz dit = some (rv)) : MI l yX9_check wsX9_check rm_X9_check D ky sz [.ref aM, .int p0, .int p1, .int p2] (w_model ky aM mxs mus mys mgp mtp mme mle mlt mkl mln msz mit mmv mrm mer mtd mat mwr mkn mmb mwa mra mbl mbh dxs dus dys dgp dtp dme dle dlt dkl dln dsz dit dmv) (w_model ky aM mxs mus mys mgp mtp mme mle mlt mkl mln msz mit mmv mrm mer mtd mat mwr mkn mmb mwa mra mbl mbh dxs dus dys dgp dtp dme dle dlt dkl dln dsz dit dmv) rv :=
  cr_X9_check l D ky aM mxs mus mys mgp mtp mme mle mlt mkl mln msz mit mmv sz N mrm mer mtd mat mwr mkn mmb mwa mra mbl mbh dxs dus dys dgp dtp dme dle dlt dkl dln dsz dit dmv p0 p1 p2 (rv) hF
