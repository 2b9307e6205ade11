def f_X9_in (N : Nat) (p0 : Int64) (p1 : Int64) (p2 : Int64) : Option (Int32) :=
  (if (lg_cmp p0 p1) < 0 then some ((0 : Int32)) else (if 0 < (lg_cmp p0 p2) then some ((0 : Int32)) else some ((1 : Int32))))
def f_X9_isSmall (N : Nat) (p0 : Int32) : Option (Int32) :=
  b1 (f_X9_in N (p0.toInt64) (-99 : Int64) (99 : Int64)) (fun r2 => gz r2 (some (r2)))
def f_X9_isLaw (N : Nat) (p0 : Int32) : Option (Int32) :=
  b1 (f_X9_in N (p0.toInt64) (0 : Int64) (288 : Int64)) (fun r2 => gz r2 (some (r2)))
def f_X9_sumOf (N : Nat) (p0 : Int32) (p1 : Int32) (p2 : Int32) : Option (Int32) :=
  some (((((p0 / (17 : Int32)) - (8 : Int32)) * p1) + (((p0 - p0 / (17 : Int32) * (17 : Int32)) - (8 : Int32)) * p2)))
def b_X9_size_4 (N : Nat)   (k4 : Int32 → Int32 → Option (Int32)) (l1 : Int32) (l2 : Int32) : Option (Int32) :=
  (if l2 = 0 then some (l1) else k4 (l1 + (1 : Int32)) (l2 &&& (l2 - (1 : Int32))))
def f_X9_size_4 (N : Nat)   : Nat → Int32 → Int32 → Option (Int32)
  | 0, _, _ => none
  | n + 1, l1, l2 => b_X9_size_4 N  (f_X9_size_4 N  n) l1 l2
def f_X9_size (N : Nat) (p0 : Int32) : Option (Int32) :=
  f_X9_size_4 N  N (0 : Int32) p0
def f_X9_pushAt (N : Nat) (p0 : Int32) : Option (Int32) :=
  (if (p0 - p0 / (2 : Int32) * (2 : Int32)) = (1 : Int32) then some (((p0 + (1 : Int32)) / (2 : Int32))) else some (((-p0) / (2 : Int32))))
def f_X9_lower (N : Nat) (p0 : Int32) : Option (Int32) :=
  (if 0 ≤ p0 then some ((p0 / (4 : Int32))) else (if ((4 : Int32) * (p0 / (4 : Int32))) = p0 then some ((p0 / (4 : Int32))) else some (((p0 / (4 : Int32)) - (1 : Int32)))))
def f_X9_higher (N : Nat) (p0 : Int32) : Option (Int32) :=
  b1 (f_X9_lower N (-p0)) (fun r2 => some ((-r2)))
def f_X9_isState (N : Nat) (p0 : Int32) : Option (Int32) :=
  b1 (f_X9_in N (p0.toInt64) (-9999 : Int64) (9999 : Int64)) (fun r2 => gz r2 (some (r2)))
def f_X9_held (N : Nat) (p0 : Int32) : Option (Int32) :=
  (if (-9999 : Int32) ≤ p0 then (if p0 ≤ (9999 : Int32) then some (p0) else some ((9999 : Int32))) else some ((-9999 : Int32)))
def f_X9_isSheet (N : Nat) (p0 : Int32) : Option (Int32) :=
  b1 (f_X9_in N (p0.toInt64) (0 : Int64) (3 : Int64)) (fun r2 => gz r2 (some (r2)))
def f_X9_isLane (N : Nat) (p0 : Int32) : Option (Int32) :=
  b1 (f_X9_in N (p0.toInt64) (0 : Int64) (2 : Int64)) (fun r2 => gz r2 (some (r2)))
def f_X9_isRow (N : Nat) (p0 : Int32) (mrm : Int32) : Option (Int32) :=
  b1 (f_X9_in N (p0.toInt64) (0 : Int64) ((mrm - (1 : Int32)).toInt64)) (fun r2 => gz r2 (some (r2)))
def f_X9_puts_38 (N : Nat)  (l4 : Int32) (t0 : Int32) (t1 : Int32) (mrm : Int32) (dxs : Nat → Int32) (dus : Nat → Int32) (dys : Nat → Int32) (dgp : Nat → Int32) : Option (Int32 × (Nat → Int32) × (Nat → Int32) × (Nat → Int32) × (Nat → Int32)) :=
  gi t1 12 (gi mrm 12 (some ((mrm + (1 : Int32)), dxs, dus, (upd dys t1.toNatClampNeg t0), (upd dgp mrm.toNatClampNeg (vp_nar .boolean l4)))))
def f_X9_puts (N : Nat) (p0 : Int32) (p1 : Int32) (p2 : Int32) (p3 : Int32) (mrm : Int32) (dxs : Nat → Int32) (dus : Nat → Int32) (dys : Nat → Int32) (dgp : Nat → Int32) : Option (Int32 × (Nat → Int32) × (Nat → Int32) × (Nat → Int32) × (Nat → Int32)) :=
  gi mrm 12 (gi mrm 12 ((if p3 = 0 then f_X9_puts_38 N p3 p2 mrm mrm (upd dxs mrm.toNatClampNeg p0) (upd dus mrm.toNatClampNeg p1) dys dgp else f_X9_puts_38 N p3 (0 : Int32) mrm mrm (upd dxs mrm.toNatClampNeg p0) (upd dus mrm.toNatClampNeg p1) dys dgp)))
def f_X9_row (N : Nat) (p0 : Int32) (p1 : Int32) (p2 : Int32) (mrm : Int32) (dxs : Nat → Int32) (dus : Nat → Int32) (dys : Nat → Int32) (dgp : Nat → Int32) : Option (Int32 × Int32 × (Nat → Int32) × (Nat → Int32) × (Nat → Int32) × (Nat → Int32)) :=
  b1 (f_X9_isSmall N p0) (fun r2 => (if r2 = 0 then some ((-1 : Int32), mrm, dxs, dus, dys, dgp) else b1 (f_X9_isSmall N p1) (fun r5 => (if r5 = 0 then some ((-1 : Int32), mrm, dxs, dus, dys, dgp) else b1 (f_X9_isSmall N p2) (fun r8 => (if r8 = 0 then some ((-1 : Int32), mrm, dxs, dus, dys, dgp) else (if mrm = (12 : Int32) then some ((-3 : Int32), mrm, dxs, dus, dys, dgp) else b5 (f_X9_puts N p0 p1 p2 (0 : Int32) mrm dxs dus dys dgp) (fun v12 v13 v14 v15 v16 => some ((v12 - (1 : Int32)), v12, v13, v14, v15, v16)))))))))
def f_X9_gap (N : Nat) (p0 : Int32) (p1 : Int32) (mrm : Int32) (dxs : Nat → Int32) (dus : Nat → Int32) (dys : Nat → Int32) (dgp : Nat → Int32) : Option (Int32 × Int32 × (Nat → Int32) × (Nat → Int32) × (Nat → Int32) × (Nat → Int32)) :=
  b1 (f_X9_isSmall N p0) (fun r2 => (if r2 = 0 then some ((-1 : Int32), mrm, dxs, dus, dys, dgp) else b1 (f_X9_isSmall N p1) (fun r5 => (if r5 = 0 then some ((-1 : Int32), mrm, dxs, dus, dys, dgp) else (if mrm = (12 : Int32) then some ((-3 : Int32), mrm, dxs, dus, dys, dgp) else b5 (f_X9_puts N p0 p1 (0 : Int32) (1 : Int32) mrm dxs dus dys dgp) (fun v9 v10 v11 v12 v13 => some ((v9 - (1 : Int32)), v9, v10, v11, v12, v13)))))))
def f_X9_finds (N : Nat) (p0 : Int32) (p1 : Int32) (p2 : Int32) (p3 : Int32) (dln : Nat → Int32) (dsz : Nat → Int32) : Option (Int32) :=
  gi p0 4 ((if 0 ≤ (dln p0.toNatClampNeg) then gi p0 4 ((if (dln p0.toNatClampNeg) = p1 then (if p2 < 0 then some ((-13 : Int32)) else gi p0 4 ((if (lg_cmp ((p2.toInt64) + (p3.toInt64)) ((dsz p0.toNatClampNeg).toInt64)) ≤ 0 then some ((0 : Int32)) else some ((-13 : Int32))))) else some ((-12 : Int32)))) else some ((-11 : Int32))))
def b_X9_rows_113 (N : Nat)  (l4 : Int32) (l6 : Int32) (dit : Nat → Int32) (k113 : Int32 → Int32 → (Nat → Int32) → (Nat → Int32) → (Nat → Int32) → (Nat → Int32) → Option (Int32 × Int32 × (Nat → Int32) × (Nat → Int32) × (Nat → Int32) × (Nat → Int32))) (l7 : Int32) (mrm : Int32) (dxs : Nat → Int32) (dus : Nat → Int32) (dys : Nat → Int32) (dgp : Nat → Int32) : Option (Int32 × Int32 × (Nat → Int32) × (Nat → Int32) × (Nat → Int32) × (Nat → Int32)) :=
  (if l4 ≤ l7 then some (l4, mrm, dxs, dus, dys, dgp) else gi (l6 + ((3 : Int32) * l7)) 144 (gi ((l6 + ((3 : Int32) * l7)) + (1 : Int32)) 144 (gi ((l6 + ((3 : Int32) * l7)) + (2 : Int32)) 144 (b5 (f_X9_puts N (dit (l6 + ((3 : Int32) * l7)).toNatClampNeg) (dit ((l6 + ((3 : Int32) * l7)) + (1 : Int32)).toNatClampNeg) (dit ((l6 + ((3 : Int32) * l7)) + (2 : Int32)).toNatClampNeg) (0 : Int32) mrm dxs dus dys dgp) (fun v24 v25 v26 v27 v28 => k113 (l7 + (1 : Int32)) v24 v25 v26 v27 v28)))))
def f_X9_rows_113 (N : Nat)  (l4 : Int32) (l6 : Int32) (dit : Nat → Int32) : Nat → Int32 → Int32 → (Nat → Int32) → (Nat → Int32) → (Nat → Int32) → (Nat → Int32) → Option (Int32 × Int32 × (Nat → Int32) × (Nat → Int32) × (Nat → Int32) × (Nat → Int32))
  | 0, _, _, _, _, _, _ => none
  | n + 1, l7, mrm, dxs, dus, dys, dgp => b_X9_rows_113 N l4 l6 dit (f_X9_rows_113 N l4 l6 dit n) l7 mrm dxs dus dys dgp
def b_X9_rows_61 (N : Nat)  (l4 : Int32) (l6 : Int32) (mrm : Int32) (dxs : Nat → Int32) (dus : Nat → Int32) (dys : Nat → Int32) (dgp : Nat → Int32) (dit : Nat → Int32) (k61 : Int32 → Option (Int32 × Int32 × (Nat → Int32) × (Nat → Int32) × (Nat → Int32) × (Nat → Int32))) (l7 : Int32) : Option (Int32 × Int32 × (Nat → Int32) × (Nat → Int32) × (Nat → Int32) × (Nat → Int32)) :=
  (if ((3 : Int32) * l4) ≤ l7 then (if (mrm + l4) ≤ (12 : Int32) then f_X9_rows_113 N l4 l6 dit N (0 : Int32) mrm dxs dus dys dgp else some ((-3 : Int32), mrm, dxs, dus, dys, dgp)) else gi (l6 + l7) 144 (b1 (f_X9_isSmall N (dit (l6 + l7).toNatClampNeg)) (fun r17 => (if r17 = 0 then some ((-2 : Int32), mrm, dxs, dus, dys, dgp) else k61 (l7 + (1 : Int32))))))
def f_X9_rows_61 (N : Nat)  (l4 : Int32) (l6 : Int32) (mrm : Int32) (dxs : Nat → Int32) (dus : Nat → Int32) (dys : Nat → Int32) (dgp : Nat → Int32) (dit : Nat → Int32) : Nat → Int32 → Option (Int32 × Int32 × (Nat → Int32) × (Nat → Int32) × (Nat → Int32) × (Nat → Int32))
  | 0, _ => none
  | n + 1, l7 => b_X9_rows_61 N l4 l6 mrm dxs dus dys dgp dit (f_X9_rows_61 N l4 l6 mrm dxs dus dys dgp dit n) l7
def f_X9_rows (N : Nat) (p0 : Int32) (p1 : Int32) (p2 : Int32) (p3 : Int32) (mrm : Int32) (dxs : Nat → Int32) (dus : Nat → Int32) (dys : Nat → Int32) (dgp : Nat → Int32) (dln : Nat → Int32) (dsz : Nat → Int32) (dit : Nat → Int32) : Option (Int32 × Int32 × (Nat → Int32) × (Nat → Int32) × (Nat → Int32) × (Nat → Int32)) :=
  b1 (f_X9_isSheet N p0) (fun r2 => (if r2 = 0 then some ((-1 : Int32), mrm, dxs, dus, dys, dgp) else b1 (f_X9_isLane N p1) (fun r5 => (if r5 = 0 then some ((-1 : Int32), mrm, dxs, dus, dys, dgp) else b1 (f_X9_in N (p3.toInt64) (0 : Int64) (12 : Int64)) (fun r8 => (if r8 = 0 then some ((-1 : Int32), mrm, dxs, dus, dys, dgp) else b1 (f_X9_finds N p0 p1 p2 ((3 : Int32) * p3) dln dsz) (fun r11 => (if 0 ≤ r11 then f_X9_rows_61 N p3 (((36 : Int32) * p0) + p2) mrm dxs dus dys dgp dit N (0 : Int32) else some (r11, mrm, dxs, dus, dys, dgp)))))))))
def b_X9_type_73 (N : Nat)  (l1 : Int64) (k73 : Int32 → Int32 → (Nat → Int32) → Option (Int32 × Int32 × (Nat → Int32))) (l4 : Int32) (mtd : Int32) (dtp : Nat → Int32) : Option (Int32 × Int32 × (Nat → Int32)) :=
  (if l4 < 0 then some (mtd, mtd, dtp) else nm (((l1 >>> (((8 : Int32) * l4).toInt64 &&& 63)) &&& (255 : Int64)).toInt32) (fun v11 => gi mtd 120 (k73 (l4 + (-1 : Int32)) (mtd + (1 : Int32)) (upd dtp mtd.toNatClampNeg v11))))
def f_X9_type_73 (N : Nat)  (l1 : Int64) : Nat → Int32 → Int32 → (Nat → Int32) → Option (Int32 × Int32 × (Nat → Int32))
  | 0, _, _, _ => none
  | n + 1, l4, mtd, dtp => b_X9_type_73 N l1 (f_X9_type_73 N l1 n) l4 mtd dtp
def b_X9_type_17 (N : Nat)  (l1 : Int64) (l3 : Int32) (mtd : Int32) (dtp : Nat → Int32) (k17 : Int32 → Option (Int32 × Int32 × (Nat → Int32))) (l4 : Int32) : Option (Int32 × Int32 × (Nat → Int32)) :=
  (if l3 ≤ l4 then (if (mtd + l3) ≤ (120 : Int32) then f_X9_type_73 N l1 N (l3 - (1 : Int32)) mtd dtp else some ((-3 : Int32), mtd, dtp)) else b1 (f_X9_in N ((l1 >>> (((8 : Int32) * l4).toInt64 &&& 63)) &&& (255 : Int64)) (32 : Int64) (126 : Int64)) (fun r7 => (if r7 = 0 then some ((-1 : Int32), mtd, dtp) else k17 (l4 + (1 : Int32)))))
def f_X9_type_17 (N : Nat)  (l1 : Int64) (l3 : Int32) (mtd : Int32) (dtp : Nat → Int32) : Nat → Int32 → Option (Int32 × Int32 × (Nat → Int32))
  | 0, _ => none
  | n + 1, l4 => b_X9_type_17 N l1 l3 mtd dtp (f_X9_type_17 N l1 l3 mtd dtp n) l4
def f_X9_type (N : Nat) (p0 : Int64) (p1 : Int32) (mtd : Int32) (dtp : Nat → Int32) : Option (Int32 × Int32 × (Nat → Int32)) :=
  b1 (f_X9_in N (p1.toInt64) (1 : Int64) (8 : Int64)) (fun r2 => (if r2 = 0 then some ((-1 : Int32), mtd, dtp) else f_X9_type_17 N p0 p1 mtd dtp N (0 : Int32)))
def f_X9_next_38 (N : Nat)  (mtd : Int32) (mat : Int32) (dtp : Nat → Int32) : Option (Int32 × Int32) :=
  (if mtd ≤ mat then some ((0 : Int32), mat) else gi mat 120 (some ((dtp mat.toNatClampNeg), mat)))
def b_X9_next_0 (N : Nat)  (mtd : Int32) (dtp : Nat → Int32) (k0 : Int32 → Option (Int32 × Int32)) (mat : Int32) : Option (Int32 × Int32) :=
  (if mtd ≤ mat then f_X9_next_38 N mtd mat dtp else gi mat 120 ((if (dtp mat.toNatClampNeg) = (32 : Int32) then k0 (mat + (1 : Int32)) else f_X9_next_38 N mtd mat dtp)))
def f_X9_next_0 (N : Nat)  (mtd : Int32) (dtp : Nat → Int32) : Nat → Int32 → Option (Int32 × Int32)
  | 0, _ => none
  | n + 1, mat => b_X9_next_0 N mtd dtp (f_X9_next_0 N mtd dtp n) mat
def f_X9_next (N : Nat) (mtd : Int32) (mat : Int32) (dtp : Nat → Int32) : Option (Int32 × Int32) :=
  f_X9_next_0 N mtd dtp N mat
def f_X9_passes_20 (N : Nat)  (t0 : Int32) (mat : Int32) : Option (Int32 × Int32) :=
  (if t0 = 0 then gz t0 (some (t0, (mat + (0 : Int32)))) else gz t0 (some (t0, (mat + (1 : Int32)))))
def f_X9_passes (N : Nat) (p0 : Int32) (mtd : Int32) (mat : Int32) (mwr : Int32) (dtp : Nat → Int32) : Option (Int32 × Int32) :=
  (if mwr = 0 then b2 (f_X9_next N mtd mat dtp) (fun r3 v4 => (if r3 = p0 then f_X9_passes_20 N (1 : Int32) v4 else f_X9_passes_20 N (0 : Int32) v4)) else f_X9_passes_20 N (0 : Int32) mat)
def f_X9_number_174 (N : Nat)  (l3 : Int32) (l4 : Int32) (t0 : Int32) (mwr : Int32) : Option (Int32 × Int32 × Int32) :=
  (if l3 = 0 then some (l4, t0, mwr) else some ((-l4), t0, mwr))
def f_X9_number_155 (N : Nat)  (l2 : Int32) (l3 : Int32) (l4 : Int32) (t0 : Int32) (mat : Int32) : Option (Int32 × Int32 × Int32) :=
  gz t0 ((if t0 = 0 then f_X9_number_174 N l3 l4 mat t0 else f_X9_number_174 N l3 l4 l2 t0))
def f_X9_number_142 (N : Nat)  (l2 : Int32) (l3 : Int32) (l4 : Int32) (mat : Int32) : Option (Int32 × Int32 × Int32) :=
  (if l4 ≤ (99 : Int32) then f_X9_number_155 N l2 l3 l4 (0 : Int32) mat else f_X9_number_155 N l2 l3 l4 (1 : Int32) mat)
def b_X9_number_63 (N : Nat)  (l2 : Int32) (l3 : Int32) (mtd : Int32) (dtp : Nat → Int32) (k63 : Int32 → Int32 → Option (Int32 × Int32 × Int32)) (l4 : Int32) (mat : Int32) : Option (Int32 × Int32 × Int32) :=
  (if mtd ≤ mat then f_X9_number_142 N l2 l3 l4 mat else gi mat 120 (b1 (f_X9_in N ((dtp mat.toNatClampNeg).toInt64) (48 : Int64) (57 : Int64)) (fun r19 => (if r19 = 0 then f_X9_number_142 N l2 l3 l4 mat else (if l4 ≤ (999 : Int32) then gi mat 120 (nm ((((10 : Int32) * l4) + (dtp mat.toNatClampNeg)) - (48 : Int32)) (fun v23 => k63 v23 (mat + (1 : Int32)))) else k63 l4 (mat + (1 : Int32)))))))
def f_X9_number_63 (N : Nat)  (l2 : Int32) (l3 : Int32) (mtd : Int32) (dtp : Nat → Int32) : Nat → Int32 → Int32 → Option (Int32 × Int32 × Int32)
  | 0, _, _ => none
  | n + 1, l4, mat => b_X9_number_63 N l2 l3 mtd dtp (f_X9_number_63 N l2 l3 mtd dtp n) l4 mat
def f_X9_number_12 (N : Nat)  (t0 : Int32) (mtd : Int32) (mat : Int32) (mwr : Int32) (dtp : Nat → Int32) : Option (Int32 × Int32 × Int32) :=
  b2 (f_X9_passes N (45 : Int32) mtd mat mwr dtp) (fun r6 v7 => (if mwr = 0 then (if t0 = 0 then b2 (f_X9_next N mtd v7 dtp) (fun r11 v12 => b1 (f_X9_in N (r11.toInt64) (48 : Int64) (57 : Int64)) (fun r14 => (if r14 = 0 then some ((0 : Int32), v12, (1 : Int32)) else f_X9_number_63 N mat r6 mtd dtp N (0 : Int32) v12))) else some ((0 : Int32), v7, (1 : Int32))) else some ((0 : Int32), v7, (1 : Int32))))
def f_X9_number (N : Nat) (mtd : Int32) (mat : Int32) (mwr : Int32) (dtp : Nat → Int32) : Option (Int32 × Int32 × Int32) :=
  b2 (f_X9_next N mtd mat dtp) (fun r2 v3 => (if r2 = 0 then f_X9_number_12 N (1 : Int32) mtd v3 mwr dtp else f_X9_number_12 N (0 : Int32) mtd v3 mwr dtp))
def f_X9_named_21 (N : Nat)  (t0 : Int32) (mtd : Int32) (mat : Int32) (dtp : Nat → Int32) : Option (Int32 × Int32 × Int32) :=
  gz t0 ((if t0 = 0 then b3 (f_X9_number N mtd mat t0 dtp) (fun r9 v10 v11 => some (r9, v10, v11)) else some ((0 : Int32), mat, t0)))
def f_X9_named (N : Nat) (p0 : Int32) (mtd : Int32) (mat : Int32) (mwr : Int32) (dtp : Nat → Int32) : Option (Int32 × Int32 × Int32) :=
  (if mwr = 0 then b2 (f_X9_passes N p0 mtd mat mwr dtp) (fun r3 v4 => (if r3 = 0 then f_X9_named_21 N (1 : Int32) mtd v4 dtp else f_X9_named_21 N (0 : Int32) mtd v4 dtp)) else f_X9_named_21 N (1 : Int32) mtd mat dtp)
def f_X9_oneRow_141 (N : Nat)  (l3 : Int32) (l4 : Int32) (l5 : Int32) (t0 : Int32) (mrm : Int32) (mat : Int32) (mwr : Int32) (dxs : Nat → Int32) (dus : Nat → Int32) (dys : Nat → Int32) (dgp : Nat → Int32) : Option (Int32 × Int32 × Int32 × (Nat → Int32) × (Nat → Int32) × (Nat → Int32) × (Nat → Int32)) :=
  (if mwr = 0 then b5 (f_X9_puts N l3 l4 t0 l5 mrm dxs dus dys dgp) (fun v36 v37 v38 v39 v40 => some (v36, mat, mwr, v37, v38, v39, v40)) else some (mrm, mat, mwr, dxs, dus, dys, dgp))
def f_X9_oneRow_119 (N : Nat)  (l3 : Int32) (l4 : Int32) (t0 : Int32) (mrm : Int32) (mtd : Int32) (mat : Int32) (mwr : Int32) (dxs : Nat → Int32) (dus : Nat → Int32) (dys : Nat → Int32) (dgp : Nat → Int32) (dtp : Nat → Int32) : Option (Int32 × Int32 × Int32 × (Nat → Int32) × (Nat → Int32) × (Nat → Int32) × (Nat → Int32)) :=
  (if mwr = 0 then (if t0 = 0 then b3 (f_X9_number N mtd mat mwr dtp) (fun r31 v32 v33 => f_X9_oneRow_141 N l3 l4 t0 r31 mrm v32 v33 dxs dus dys dgp) else f_X9_oneRow_141 N l3 l4 t0 (0 : Int32) mrm mat mwr dxs dus dys dgp) else f_X9_oneRow_141 N l3 l4 t0 (0 : Int32) mrm mat mwr dxs dus dys dgp)
def f_X9_oneRow_95 (N : Nat)  (l3 : Int32) (l4 : Int32) (t0 : Int32) (mrm : Int32) (mtd : Int32) (mat : Int32) (dxs : Nat → Int32) (dus : Nat → Int32) (dys : Nat → Int32) (dgp : Nat → Int32) (dtp : Nat → Int32) : Option (Int32 × Int32 × Int32 × (Nat → Int32) × (Nat → Int32) × (Nat → Int32) × (Nat → Int32)) :=
  gz t0 ((if t0 = 0 then b2 (f_X9_passes N (63 : Int32) mtd mat t0 dtp) (fun r25 v26 => (if r25 = 0 then f_X9_oneRow_119 N l3 l4 (0 : Int32) mrm mtd v26 t0 dxs dus dys dgp dtp else f_X9_oneRow_119 N l3 l4 (1 : Int32) mrm mtd v26 t0 dxs dus dys dgp dtp)) else f_X9_oneRow_119 N l3 l4 (0 : Int32) mrm mtd mat t0 dxs dus dys dgp dtp))
def f_X9_oneRow_55 (N : Nat)  (t0 : Int32) (mrm : Int32) (mtd : Int32) (mwr : Int32) (dxs : Nat → Int32) (dus : Nat → Int32) (dys : Nat → Int32) (dgp : Nat → Int32) (dtp : Nat → Int32) : Option (Int32 × Int32 × Int32 × (Nat → Int32) × (Nat → Int32) × (Nat → Int32) × (Nat → Int32)) :=
  b3 (f_X9_named N (120 : Int32) mtd t0 mwr dtp) (fun r10 v11 v12 => b3 (f_X9_named N (117 : Int32) mtd v11 v12 dtp) (fun r14 v15 v16 => (if v16 = 0 then b2 (f_X9_passes N (121 : Int32) mtd v15 v16 dtp) (fun r19 v20 => (if r19 = 0 then f_X9_oneRow_95 N r10 r14 (1 : Int32) mrm mtd v20 dxs dus dys dgp dtp else f_X9_oneRow_95 N r10 r14 (0 : Int32) mrm mtd v20 dxs dus dys dgp dtp)) else f_X9_oneRow_95 N r10 r14 (1 : Int32) mrm mtd v15 dxs dus dys dgp dtp)))
def f_X9_oneRow_32 (N : Nat)  (l1 : Int32) (t0 : Int32) (mrm : Int32) (mtd : Int32) (mat : Int32) (dxs : Nat → Int32) (dus : Nat → Int32) (dys : Nat → Int32) (dgp : Nat → Int32) (dtp : Nat → Int32) : Option (Int32 × Int32 × Int32 × (Nat → Int32) × (Nat → Int32) × (Nat → Int32) × (Nat → Int32)) :=
  gz l1 ((if l1 = 0 then f_X9_oneRow_55 N mat mrm mtd l1 dxs dus dys dgp dtp else (if t0 < 0 then f_X9_oneRow_55 N mat mrm mtd l1 dxs dus dys dgp dtp else f_X9_oneRow_55 N t0 mrm mtd l1 dxs dus dys dgp dtp)))
def f_X9_oneRow_14 (N : Nat)  (t0 : Int32) (mrm : Int32) (mtd : Int32) (mat : Int32) (dxs : Nat → Int32) (dus : Nat → Int32) (dys : Nat → Int32) (dgp : Nat → Int32) (dtp : Nat → Int32) : Option (Int32 × Int32 × Int32 × (Nat → Int32) × (Nat → Int32) × (Nat → Int32) × (Nat → Int32)) :=
  b2 (f_X9_next N mtd mat dtp) (fun r3 v4 => (if r3 = (120 : Int32) then f_X9_oneRow_32 N t0 v4 mrm mtd v4 dxs dus dys dgp dtp else f_X9_oneRow_32 N t0 (-1 : Int32) mrm mtd v4 dxs dus dys dgp dtp))
def f_X9_oneRow (N : Nat) (mrm : Int32) (mtd : Int32) (mat : Int32) (dxs : Nat → Int32) (dus : Nat → Int32) (dys : Nat → Int32) (dgp : Nat → Int32) (dtp : Nat → Int32) : Option (Int32 × Int32 × Int32 × (Nat → Int32) × (Nat → Int32) × (Nat → Int32) × (Nat → Int32)) :=
  (if mrm = (12 : Int32) then f_X9_oneRow_14 N (1 : Int32) mrm mtd mat dxs dus dys dgp dtp else f_X9_oneRow_14 N (0 : Int32) mrm mtd mat dxs dus dys dgp dtp)
def f_X9_text_55 (N : Nat)  (l1 : Int32) (t0 : Int32) (mrm : Int32) (mat : Int32) (dxs : Nat → Int32) (dus : Nat → Int32) (dys : Nat → Int32) (dgp : Nat → Int32) : Option (Int32 × Int32 × Int32 × Int32 × Int32 × (Nat → Int32) × (Nat → Int32) × (Nat → Int32) × (Nat → Int32)) :=
  gz t0 ((if t0 = 0 then some ((mrm - l1), mrm, (0 : Int32), mat, t0, dxs, dus, dys, dgp) else some (((-20 : Int32) - mat), l1, (0 : Int32), mat, t0, dxs, dus, dys, dgp)))
def b_X9_text_17 (N : Nat)  (l1 : Int32) (mtd : Int32) (dtp : Nat → Int32) (k17 : Int32 → Int32 → Int32 → Int32 → (Nat → Int32) → (Nat → Int32) → (Nat → Int32) → (Nat → Int32) → Option (Int32 × Int32 × Int32 × Int32 × Int32 × (Nat → Int32) × (Nat → Int32) × (Nat → Int32) × (Nat → Int32))) (l2 : Int32) (mrm : Int32) (mat : Int32) (mwr : Int32) (dxs : Nat → Int32) (dus : Nat → Int32) (dys : Nat → Int32) (dgp : Nat → Int32) : Option (Int32 × Int32 × Int32 × Int32 × Int32 × (Nat → Int32) × (Nat → Int32) × (Nat → Int32) × (Nat → Int32)) :=
  (if l2 = 0 then (if mwr = 0 then b2 (f_X9_next N mtd mat dtp) (fun r4 v5 => (if r4 = 0 then f_X9_text_55 N l1 (0 : Int32) mrm v5 dxs dus dys dgp else f_X9_text_55 N l1 (1 : Int32) mrm v5 dxs dus dys dgp)) else f_X9_text_55 N l1 (1 : Int32) mrm mat dxs dus dys dgp) else b7 (f_X9_oneRow N mrm mtd mat dxs dus dys dgp dtp) (fun v8 v9 v10 v11 v12 v13 v14 => b2 (f_X9_passes N (59 : Int32) mtd v9 v10 dtp) (fun r16 v17 => k17 r16 v8 v17 v10 v11 v12 v13 v14)))
def f_X9_text_17 (N : Nat)  (l1 : Int32) (mtd : Int32) (dtp : Nat → Int32) : Nat → Int32 → Int32 → Int32 → Int32 → (Nat → Int32) → (Nat → Int32) → (Nat → Int32) → (Nat → Int32) → Option (Int32 × Int32 × Int32 × Int32 × Int32 × (Nat → Int32) × (Nat → Int32) × (Nat → Int32) × (Nat → Int32))
  | 0, _, _, _, _, _, _, _, _ => none
  | n + 1, l2, mrm, mat, mwr, dxs, dus, dys, dgp => b_X9_text_17 N l1 mtd dtp (f_X9_text_17 N l1 mtd dtp n) l2 mrm mat mwr dxs dus dys dgp
def f_X9_text (N : Nat) (mrm : Int32) (mtd : Int32) (dxs : Nat → Int32) (dus : Nat → Int32) (dys : Nat → Int32) (dgp : Nat → Int32) (dtp : Nat → Int32) : Option (Int32 × Int32 × Int32 × Int32 × Int32 × (Nat → Int32) × (Nat → Int32) × (Nat → Int32) × (Nat → Int32)) :=
  f_X9_text_17 N mrm mtd dtp N (1 : Int32) mrm (0 : Int32) (0 : Int32) dxs dus dys dgp
def f_X9_told (N : Nat) (p0 : Int32) (p1 : Int32) (mrm : Int32) (dxs : Nat → Int32) (dus : Nat → Int32) (dys : Nat → Int32) (dgp : Nat → Int32) : Option (Int32) :=
  b1 (f_X9_isRow N p0 mrm) (fun r2 => (if r2 = 0 then some ((-1000001 : Int32)) else b1 (f_X9_in N (p1.toInt64) (0 : Int64) (2 : Int64)) (fun r5 => (if r5 = 0 then some ((-1000001 : Int32)) else (if p1 = 0 then gi p0 12 (some ((dxs p0.toNatClampNeg))) else (if p1 = (1 : Int32) then gi p0 12 (some ((dus p0.toNatClampNeg))) else gi p0 12 ((if (dgp p0.toNatClampNeg) = 0 then gi p0 12 (some ((dys p0.toNatClampNeg))) else some ((-1000004 : Int32))))))))))
def f_X9_clear (N : Nat) (mrm : Int32) : Option (Int32 × Int32) :=
  some (mrm, (0 : Int32))
def f_X9_error (N : Nat) (p0 : Int32) (mer : Int32) : Option (Int32 × Int32) :=
  b1 (f_X9_in N (p0.toInt64) (0 : Int64) (20 : Int64)) (fun r2 => (if r2 = 0 then some ((-1 : Int32), mer) else some (mer, p0)))
def f_X9_fits (N : Nat) (p0 : Int32) (p1 : Int32) (p2 : Int32) (p3 : Int32) (mer : Int32) : Option (Int32) :=
  b1 (f_X9_sumOf N p0 p1 p2) (fun r2 => b1 (f_X9_in N ((((4 : Int32) * p3) - r2).toInt64) (((-4 : Int32) * mer).toInt64) (((4 : Int32) * mer).toInt64)) (fun r4 => gz r4 (some (r4))))
def f_X9_doesMeet (N : Nat) (p0 : Int32) (p1 : Int32) (mer : Int32) (dxs : Nat → Int32) (dus : Nat → Int32) (dys : Nat → Int32) (dgp : Nat → Int32) : Option (Int32) :=
  gi p0 12 ((if (dgp p0.toNatClampNeg) = 0 then gi p0 12 (gi p0 12 (gi p0 12 (b1 (f_X9_fits N p1 (dxs p0.toNatClampNeg) (dus p0.toNatClampNeg) (dys p0.toNatClampNeg) mer) (fun r7 => (if r7 = 0 then some ((0 : Int32)) else some ((1 : Int32))))))) else some ((1 : Int32))))
def f_X9_meets (N : Nat) (p0 : Int32) (p1 : Int32) (mrm : Int32) (mer : Int32) (dxs : Nat → Int32) (dus : Nat → Int32) (dys : Nat → Int32) (dgp : Nat → Int32) : Option (Int32) :=
  b1 (f_X9_isRow N p0 mrm) (fun r2 => (if r2 = 0 then some ((-1 : Int32)) else b1 (f_X9_isLaw N p1) (fun r5 => (if r5 = 0 then some ((-1 : Int32)) else b1 (f_X9_doesMeet N p0 p1 mer dxs dus dys dgp) (fun r8 => (if r8 = 0 then some ((0 : Int32)) else some ((1 : Int32))))))))
abbrev rm_X9_in : Room := { frames := 0, cells := 0, slots := 0, locals := 0 }
set_option maxHeartbeats 4000000 in
set_option maxRecDepth 100000 in
theorem cr_X9_in (l : Launch) (D : va_G) (ky : Nat → ClassId)  (sz N : Nat)   (p0 : Int64) (p1 : Int64) (p2 : Int64) (res : Int32) (hF : f_X9_in N p0 p1 p2 = some res) : MI l yX9_in wsX9_in rm_X9_in D ky sz [.long p0, .long p1, .long p2] [] [] res := by
  unfold MI
  refine Met.ofW (cc := cX9_in) (maxL := 6) (ret := (some .boolean)) (by decide) rfl ?_
  intro p e s m args below meth c s₁ B hml hv
  obtain ⟨rfl, hsz, hP, hK, hD0⟩ := hv
  have hx := B.exec
  have hb := B.bytes
  have hr := B.returns
  have hts := atoms_spec (ws := wsX9_in) B.pre
  have hown : s.vm.findClass RX9 = some m.cls := findClass_of_methodNamed B.named
  have hlocks := B.notSynchronized
  subst hsz
  have hD := hD0.self (sz := s.heap.size)
  generalize hAe : va_A [] s.heap.size = A at hD ⊢
  have hA : ∀ q : Nat, s.heap.size ≤ q → A q := fun q h => by rw [← hAe]; exact Or.inr h
  have hS : va_S A s.heap s.heap [] := va_S.rf
  have hP : va_P D vwCl [] s.heap := hP
  have hl := lv_entry ([.long p0, .long p1, .long p2]) (n := 6) (Nat.le_of_ble_eq_true rfl)
  rw [lg_entry_eq]
  generalize (lg_sl ([.long p0, .long p1, .long p2]) ++ List.replicate (6 - (lg_sl ([.long p0, .long p1, .long p2])).length) Slot.unset).toArray = ls at hl ⊢
  have hl : lv_has ls 6 [(0, .long p0), (2, .long p1), (4, .long p2)] := hl
  have C : cx p s m c ([.long p0, .long p1, .long p2]).toArray D ky A cX9_in 6 wsX9_in RX9 := ⟨hx, hb, hml, hown, hts, hK, hA⟩
  have hQ : ∀ (pc : Nat) (H : Heap) (locs : List Loc) (ls : Array Slot), decode cX9_in pc = .ok (.ireturn, 1) → (res = 0 ∨ res = 1) → va_P D vwCl [] H → va_D A [] → va_S A s.heap H locs → W p l e rm_X9_in s m ([.long p0, .long p1, .long p2]).toArray below meth c H locs 0 0 (MQ below (va_Qi (S := Unit) (fun r _ => r = res) (fun _ t => va_P D vwCl [] t.heap ∧ va_K D vwCl (tyW ky) t ∧ va_D A []) A) ([.long p0, .long p1, .long p2]).toArray s 0 0 A) (F0 m pc ls [.int res]) := fun pc H locs ls hd hz hP hD hS => W.zret hx hb hr (gz_n hz) (fun t ht hW => ⟨⟨res, (), rfl, rfl, by rw [ht]; exact hP, va_K.moved hW.alike hK, hD⟩, hS.F ht⟩) hS.2.2 hd
  unfold f_X9_in at hF
  refine lv_lload_n hx hb dX9_in_0 rfl (lv_at hl 0 rfl) ?_
  refine lv_lload_n hx hb dX9_in_1 rfl (lv_at hl 1 rfl) ?_
  refine W.lcmp hx hb dX9_in_2 ?_
  refine lv_if_lt (tgt := 17) hx hb dX9_in_3 (by decide) (fun c1 => ?_) (fun c1 => ?_)
  · have hF := if_t c1 hF
    refine lv_iconst (v := (0 : Int32)) hx hb dX9_in_17 (by decide) ?_
    have hF := Option.some.inj hF
    subst hF
    exact hQ _ _ _ _ dX9_in_18 (Or.inl rfl) hP hD hS
  · have hF := if_f c1 hF
    refine lv_lload_n hx hb dX9_in_6 rfl (lv_at hl 0 rfl) ?_
    refine lv_lload hx hb dX9_in_7 (lv_at hl 2 rfl) ?_
    refine W.lcmp hx hb dX9_in_9 ?_
    refine lv_if_gt (tgt := 17) hx hb dX9_in_10 (by decide) (fun c2 => ?_) (fun c2 => ?_)
    · have hF := if_t c2 hF
      refine lv_iconst (v := (0 : Int32)) hx hb dX9_in_17 (by decide) ?_
      have hF := Option.some.inj hF
      subst hF
      exact hQ _ _ _ _ dX9_in_18 (Or.inl rfl) hP hD hS
    · have hF := if_f c2 hF
      refine lv_iconst (v := (1 : Int32)) hx hb dX9_in_13 (by decide) ?_
      refine lv_goto (tgt := 18) hx hb dX9_in_14 (by decide) ?_
      have hF := Option.some.inj hF
      subst hF
      exact hQ _ _ _ _ dX9_in_18 (Or.inr rfl) hP hD hS
theorem c_X9_in (l : Launch) (D : va_G) (ky : Nat → ClassId)  (sz N : Nat)   (p0 : Int64) (p1 : Int64) (p2 : Int64) (rv : Int32) (hF : f_X9_in N p0 p1 p2 = some (rv)) : MI l yX9_in wsX9_in rm_X9_in D ky sz [.long p0, .long p1, .long p2] [] [] rv :=
  cr_X9_in l D ky  sz N p0 p1 p2 (rv) hF
abbrev rm_X9_isSmall : Room := { frames := 1, cells := 0, slots := 0, locals := 25 }
theorem kX9_isSmall_0 : (Cond.constantLong RX9 54 (-99)) ∈ wsX9_isSmall := by decide +kernel
theorem kX9_isSmall_1 : (Cond.constantLong RX9 56 (99)) ∈ wsX9_isSmall := by decide +kernel
set_option maxHeartbeats 4000000 in
set_option maxRecDepth 100000 in
theorem cr_X9_isSmall (l : Launch) (D : va_G) (ky : Nat → ClassId)  (sz N : Nat)   (p0 : Int32) (res : Int32) (hF : f_X9_isSmall N p0 = some res) : MI l yX9_isSmall wsX9_isSmall rm_X9_isSmall D ky sz [.int p0] [] [] res := by
  unfold MI
  refine Met.ofW (cc := cX9_isSmall) (maxL := 1) (ret := (some .boolean)) (by decide) rfl ?_
  intro p e s m args below meth c s₁ B hml hv
  obtain ⟨rfl, hsz, hP, hK, hD0⟩ := hv
  have hx := B.exec
  have hb := B.bytes
  have hr := B.returns
  have hts := atoms_spec (ws := wsX9_isSmall) B.pre
  have hown : s.vm.findClass RX9 = some m.cls := findClass_of_methodNamed B.named
  have hlocks := B.notSynchronized
  subst hsz
  have hD := hD0.self (sz := s.heap.size)
  generalize hAe : va_A [] s.heap.size = A at hD ⊢
  have hA : ∀ q : Nat, s.heap.size ≤ q → A q := fun q h => by rw [← hAe]; exact Or.inr h
  have hS : va_S A s.heap s.heap [] := va_S.rf
  have hP : va_P D vwCl [] s.heap := hP
  have hl := lv_entry ([.int p0]) (n := 1) (Nat.le_of_ble_eq_true rfl)
  rw [lg_entry_eq]
  generalize (lg_sl ([.int p0]) ++ List.replicate (1 - (lg_sl ([.int p0])).length) Slot.unset).toArray = ls at hl ⊢
  have hl : lv_has ls 1 [(0, .int p0)] := hl
  have C : cx p s m c ([.int p0]).toArray D ky A cX9_isSmall 1 wsX9_isSmall RX9 := ⟨hx, hb, hml, hown, hts, hK, hA⟩
  have hQ : ∀ (pc : Nat) (H : Heap) (locs : List Loc) (ls : Array Slot), decode cX9_isSmall pc = .ok (.ireturn, 1) → (res = 0 ∨ res = 1) → va_P D vwCl [] H → va_D A [] → va_S A s.heap H locs → W p l e rm_X9_isSmall s m ([.int p0]).toArray below meth c H locs 0 0 (MQ below (va_Qi (S := Unit) (fun r _ => r = res) (fun _ t => va_P D vwCl [] t.heap ∧ va_K D vwCl (tyW ky) t ∧ va_D A []) A) ([.int p0]).toArray s 0 0 A) (F0 m pc ls [.int res]) := fun pc H locs ls hd hz hP hD hS => W.zret hx hb hr (gz_n hz) (fun t ht hW => ⟨⟨res, (), rfl, rfl, by rw [ht]; exact hP, va_K.moved hW.alike hK, hD⟩, hS.F ht⟩) hS.2.2 hd
  unfold f_X9_isSmall at hF
  refine lv_iload_n hx hb dX9_isSmall_0 rfl (lv_at hl 0 rfl) ?_
  refine lv_i2l (v := (p0.toInt64)) hx hb dX9_isSmall_1 rfl ?_
  refine lv_ldc2 hx hb hown (hts _ kX9_isSmall_0) dX9_isSmall_2 ?_
  refine lv_ldc2 hx hb hown (hts _ kX9_isSmall_1) dX9_isSmall_5 ?_
  obtain ⟨r2, h1, hF⟩ := b1_s hF
  refine cl_si (As := [.long (p0.toInt64), .long (-99 : Int64), .long (99 : Int64)]) (rest := []) ⟨hx, hb, hml, hown, hts⟩ hK hP hD hS hA (c_X9_in l D ky  _ N   (p0.toInt64) (-99 : Int64) (99 : Int64) r2 h1) (va_cwS 3 hts gX9_isSmall_X9_in rfl rfl rfl (by decide +kernel) ⟨Nat.le_of_ble_eq_true rfl, Nat.le_of_ble_eq_true rfl⟩) rfl hl.1 (Nat.le_of_ble_eq_true rfl) dX9_isSmall_8 ⟨Nat.zero_le _, Nat.zero_le _⟩ (fun H locs hP hD hS => ?_)
  obtain ⟨h3, hF⟩ := gz_s hF
  have hF := Option.some.inj hF
  subst hF
  exact hQ _ _ _ _ dX9_isSmall_11 h3 hP hD hS
theorem c_X9_isSmall (l : Launch) (D : va_G) (ky : Nat → ClassId)  (sz N : Nat)   (p0 : Int32) (rv : Int32) (hF : f_X9_isSmall N p0 = some (rv)) : MI l yX9_isSmall wsX9_isSmall rm_X9_isSmall D ky sz [.int p0] [] [] rv :=
  cr_X9_isSmall l D ky  sz N p0 (rv) hF
abbrev rm_X9_isLaw : Room := { frames := 1, cells := 0, slots := 0, locals := 25 }
theorem kX9_isLaw_0 : (Cond.constantLong RX9 133 (288)) ∈ wsX9_isLaw := by decide +kernel
set_option maxHeartbeats 4000000 in
set_option maxRecDepth 100000 in
theorem cr_X9_isLaw (l : Launch) (D : va_G) (ky : Nat → ClassId)  (sz N : Nat)   (p0 : Int32) (res : Int32) (hF : f_X9_isLaw N p0 = some res) : MI l yX9_isLaw wsX9_isLaw rm_X9_isLaw D ky sz [.int p0] [] [] res := by
  unfold MI
  refine Met.ofW (cc := cX9_isLaw) (maxL := 1) (ret := (some .boolean)) (by decide) rfl ?_
  intro p e s m args below meth c s₁ B hml hv
  obtain ⟨rfl, hsz, hP, hK, hD0⟩ := hv
  have hx := B.exec
  have hb := B.bytes
  have hr := B.returns
  have hts := atoms_spec (ws := wsX9_isLaw) B.pre
  have hown : s.vm.findClass RX9 = some m.cls := findClass_of_methodNamed B.named
  have hlocks := B.notSynchronized
  subst hsz
  have hD := hD0.self (sz := s.heap.size)
  generalize hAe : va_A [] s.heap.size = A at hD ⊢
  have hA : ∀ q : Nat, s.heap.size ≤ q → A q := fun q h => by rw [← hAe]; exact Or.inr h
  have hS : va_S A s.heap s.heap [] := va_S.rf
  have hP : va_P D vwCl [] s.heap := hP
  have hl := lv_entry ([.int p0]) (n := 1) (Nat.le_of_ble_eq_true rfl)
  rw [lg_entry_eq]
  generalize (lg_sl ([.int p0]) ++ List.replicate (1 - (lg_sl ([.int p0])).length) Slot.unset).toArray = ls at hl ⊢
  have hl : lv_has ls 1 [(0, .int p0)] := hl
  have C : cx p s m c ([.int p0]).toArray D ky A cX9_isLaw 1 wsX9_isLaw RX9 := ⟨hx, hb, hml, hown, hts, hK, hA⟩
  have hQ : ∀ (pc : Nat) (H : Heap) (locs : List Loc) (ls : Array Slot), decode cX9_isLaw pc = .ok (.ireturn, 1) → (res = 0 ∨ res = 1) → va_P D vwCl [] H → va_D A [] → va_S A s.heap H locs → W p l e rm_X9_isLaw s m ([.int p0]).toArray below meth c H locs 0 0 (MQ below (va_Qi (S := Unit) (fun r _ => r = res) (fun _ t => va_P D vwCl [] t.heap ∧ va_K D vwCl (tyW ky) t ∧ va_D A []) A) ([.int p0]).toArray s 0 0 A) (F0 m pc ls [.int res]) := fun pc H locs ls hd hz hP hD hS => W.zret hx hb hr (gz_n hz) (fun t ht hW => ⟨⟨res, (), rfl, rfl, by rw [ht]; exact hP, va_K.moved hW.alike hK, hD⟩, hS.F ht⟩) hS.2.2 hd
  unfold f_X9_isLaw at hF
  refine lv_iload_n hx hb dX9_isLaw_0 rfl (lv_at hl 0 rfl) ?_
  refine lv_i2l (v := (p0.toInt64)) hx hb dX9_isLaw_1 rfl ?_
  refine lv_lconst (v := (0 : Int64)) hx hb dX9_isLaw_2 (by decide) ?_
  refine lv_ldc2 hx hb hown (hts _ kX9_isLaw_0) dX9_isLaw_3 ?_
  obtain ⟨r2, h1, hF⟩ := b1_s hF
  refine cl_si (As := [.long (p0.toInt64), .long (0 : Int64), .long (288 : Int64)]) (rest := []) ⟨hx, hb, hml, hown, hts⟩ hK hP hD hS hA (c_X9_in l D ky  _ N   (p0.toInt64) (0 : Int64) (288 : Int64) r2 h1) (va_cwS 3 hts gX9_isLaw_X9_in rfl rfl rfl (by decide +kernel) ⟨Nat.le_of_ble_eq_true rfl, Nat.le_of_ble_eq_true rfl⟩) rfl hl.1 (Nat.le_of_ble_eq_true rfl) dX9_isLaw_6 ⟨Nat.zero_le _, Nat.zero_le _⟩ (fun H locs hP hD hS => ?_)
  obtain ⟨h3, hF⟩ := gz_s hF
  have hF := Option.some.inj hF
  subst hF
  exact hQ _ _ _ _ dX9_isLaw_9 h3 hP hD hS
theorem c_X9_isLaw (l : Launch) (D : va_G) (ky : Nat → ClassId)  (sz N : Nat)   (p0 : Int32) (rv : Int32) (hF : f_X9_isLaw N p0 = some (rv)) : MI l yX9_isLaw wsX9_isLaw rm_X9_isLaw D ky sz [.int p0] [] [] rv :=
  cr_X9_isLaw l D ky  sz N p0 (rv) hF
abbrev rm_X9_sumOf : Room := { frames := 0, cells := 0, slots := 0, locals := 0 }
set_option maxHeartbeats 4000000 in
set_option maxRecDepth 100000 in
theorem cr_X9_sumOf (l : Launch) (D : va_G) (ky : Nat → ClassId)  (sz N : Nat)   (p0 : Int32) (p1 : Int32) (p2 : Int32) (res : Int32) (hF : f_X9_sumOf N p0 p1 p2 = some res) : MI l yX9_sumOf wsX9_sumOf rm_X9_sumOf D ky sz [.int p0, .int p1, .int p2] [] [] res := by
  unfold MI
  refine Met.ofW (cc := cX9_sumOf) (maxL := 3) (ret := (some .int)) (by decide) rfl ?_
  intro p e s m args below meth c s₁ B hml hv
  obtain ⟨rfl, hsz, hP, hK, hD0⟩ := hv
  have hx := B.exec
  have hb := B.bytes
  have hr := B.returns
  have hts := atoms_spec (ws := wsX9_sumOf) B.pre
  have hown : s.vm.findClass RX9 = some m.cls := findClass_of_methodNamed B.named
  have hlocks := B.notSynchronized
  subst hsz
  have hD := hD0.self (sz := s.heap.size)
  generalize hAe : va_A [] s.heap.size = A at hD ⊢
  have hA : ∀ q : Nat, s.heap.size ≤ q → A q := fun q h => by rw [← hAe]; exact Or.inr h
  have hS : va_S A s.heap s.heap [] := va_S.rf
  have hP : va_P D vwCl [] s.heap := hP
  have hl := lv_entry ([.int p0, .int p1, .int p2]) (n := 3) (Nat.le_of_ble_eq_true rfl)
  rw [lg_entry_eq]
  generalize (lg_sl ([.int p0, .int p1, .int p2]) ++ List.replicate (3 - (lg_sl ([.int p0, .int p1, .int p2])).length) Slot.unset).toArray = ls at hl ⊢
  have hl : lv_has ls 3 [(0, .int p0), (1, .int p1), (2, .int p2)] := hl
  have C : cx p s m c ([.int p0, .int p1, .int p2]).toArray D ky A cX9_sumOf 3 wsX9_sumOf RX9 := ⟨hx, hb, hml, hown, hts, hK, hA⟩
  have hQ : ∀ (pc : Nat) (H : Heap) (locs : List Loc) (ls : Array Slot), decode cX9_sumOf pc = .ok (.ireturn, 1) → va_P D vwCl [] H → va_D A [] → va_S A s.heap H locs → W p l e rm_X9_sumOf s m ([.int p0, .int p1, .int p2]).toArray below meth c H locs 0 0 (MQ below (va_Qi (S := Unit) (fun r _ => r = res) (fun _ t => va_P D vwCl [] t.heap ∧ va_K D vwCl (tyW ky) t ∧ va_D A []) A) ([.int p0, .int p1, .int p2]).toArray s 0 0 A) (F0 m pc ls [.int res]) := fun pc H locs ls hd hP hD hS => W.iret hx hb hr (fun t ht hW => ⟨⟨res, (), rfl, rfl, by rw [ht]; exact hP, va_K.moved hW.alike hK, hD⟩, hS.F ht⟩) hS.2.2 hd
  unfold f_X9_sumOf at hF
  refine lv_iload_n hx hb dX9_sumOf_0 rfl (lv_at hl 0 rfl) ?_
  refine lv_bipush (v := (17 : Int32)) hx hb dX9_sumOf_1 (by decide) ?_
  refine lv_idiv hx hb dX9_sumOf_3 (by decide) ?_
  refine lv_bipush (v := (8 : Int32)) hx hb dX9_sumOf_4 (by decide) ?_
  refine lv_isub hx hb dX9_sumOf_6 ?_
  refine lv_iload_n hx hb dX9_sumOf_7 rfl (lv_at hl 1 rfl) ?_
  refine lv_imul hx hb dX9_sumOf_8 ?_
  refine lv_iload_n hx hb dX9_sumOf_9 rfl (lv_at hl 0 rfl) ?_
  refine lv_bipush (v := (17 : Int32)) hx hb dX9_sumOf_10 (by decide) ?_
  refine lv_irem hx hb dX9_sumOf_12 (by decide) ?_
  refine lv_bipush (v := (8 : Int32)) hx hb dX9_sumOf_13 (by decide) ?_
  refine lv_isub hx hb dX9_sumOf_15 ?_
  refine lv_iload_n hx hb dX9_sumOf_16 rfl (lv_at hl 2 rfl) ?_
  refine lv_imul hx hb dX9_sumOf_17 ?_
  refine lv_iadd hx hb dX9_sumOf_18 ?_
  have hF := Option.some.inj hF
  subst hF
  exact hQ _ _ _ _ dX9_sumOf_19 hP hD hS
theorem c_X9_sumOf (l : Launch) (D : va_G) (ky : Nat → ClassId)  (sz N : Nat)   (p0 : Int32) (p1 : Int32) (p2 : Int32) (rv : Int32) (hF : f_X9_sumOf N p0 p1 p2 = some (rv)) : MI l yX9_sumOf wsX9_sumOf rm_X9_sumOf D ky sz [.int p0, .int p1, .int p2] [] [] rv :=
  cr_X9_sumOf l D ky  sz N p0 p1 p2 (rv) hF
abbrev rm_X9_size : Room := { frames := 0, cells := 0, slots := 0, locals := 0 }
set_option maxHeartbeats 4000000 in
set_option maxRecDepth 100000 in
theorem w_X9_size_4 {p : Program} {l : Launch} {e : Env} {s : State} {m : MethodId} {args : Array Value} {below : List Frame} {meth : Method} {c : Code} {Q : State → Prop} {A : Nat → Prop} {D : va_G} {ky : Nat → ClassId} (N : Nat) (C : cx p s m c args D ky A cX9_size 3 wsX9_size RX9) (res : Int32) (hQ : ∀ (pc : Nat) (H : Heap) (locs : List Loc) (ls : Array Slot), decode cX9_size pc = .ok (.ireturn, 1) → va_P D vwCl [] H → va_D A [] → va_S A s.heap H locs → W p l e rm_X9_size s m args below meth c H locs 0 0 Q (F0 m pc ls [.int res]))  : ∀ (n : Nat) (l1 : Int32) (l2 : Int32), f_X9_size_4 N  n l1 l2 = some res → ∀ (H : Heap) (locs : List Loc) (ls : Array Slot), va_P D vwCl [] H → va_D A [] → va_S A s.heap H locs → lv_has ls 3 [(1, .int l1), (2, .int l2)] → W p l e rm_X9_size s m args below meth c H locs 0 0 Q (F0 m 4 ls []) := by
  obtain ⟨hx, hb, hml, hown, hts, hK, hA⟩ := id C
  intro n
  induction n with
  | zero =>
    intro l1 l2 hF
    cases hF
  | succ n ih =>
    intro l1 l2 hF H locs ls hP hD hS hl
    have hF : b_X9_size_4 N  (f_X9_size_4 N  n) l1 l2 = some res := hF
    unfold b_X9_size_4 at hF
    refine lv_iload_n hx hb dX9_size_4 rfl (lv_at hl 1 rfl) ?_
    refine lv_if_eq (tgt := 20) hx hb dX9_size_5 (by decide) (fun c1 => ?_) (fun c1 => ?_)
    · have hF := if_t c1 hF
      refine lv_iload_n hx hb dX9_size_20 rfl (lv_at hl 0 rfl) ?_
      have hF := Option.some.inj hF
      subst hF
      exact hQ _ H _ _ dX9_size_21 hP hD hS
    · have hF := if_f c1 hF
      refine lv_iinc (v := (l1 + (1 : Int32))) (lv' := [(1, .int (l1 + (1 : Int32))), (2, .int l2)]) hx hb dX9_size_8 hl (k := 0) rfl rfl (by decide) rfl (fun ls hl => ?_)
      refine lv_iload_n hx hb dX9_size_11 rfl (lv_at hl 1 rfl) ?_
      refine lv_iload_n hx hb dX9_size_12 rfl (lv_at hl 1 rfl) ?_
      refine lv_iconst (v := (1 : Int32)) hx hb dX9_size_13 (by decide) ?_
      refine lv_isub hx hb dX9_size_14 ?_
      refine lv_iand hx hb dX9_size_15 ?_
      refine lv_istore_n (lv' := [(2, .int (l2 &&& (l2 - (1 : Int32)))), (1, .int (l1 + (1 : Int32)))]) hx hb dX9_size_16 rfl hl (by decide) rfl (fun ls hl => ?_)
      refine lv_goto (tgt := 4) hx hb dX9_size_17 (by decide) ?_
      exact ih (l1 + (1 : Int32)) (l2 &&& (l2 - (1 : Int32))) hF H _ _ hP hD hS (lv_sub hl [1, 0] rfl)
set_option maxHeartbeats 4000000 in
set_option maxRecDepth 100000 in
theorem cr_X9_size (l : Launch) (D : va_G) (ky : Nat → ClassId)  (sz N : Nat)   (p0 : Int32) (res : Int32) (hF : f_X9_size N p0 = some res) : MI l yX9_size wsX9_size rm_X9_size D ky sz [.int p0] [] [] res := by
  unfold MI
  refine Met.ofW (cc := cX9_size) (maxL := 3) (ret := (some .int)) (by decide) rfl ?_
  intro p e s m args below meth c s₁ B hml hv
  obtain ⟨rfl, hsz, hP, hK, hD0⟩ := hv
  have hx := B.exec
  have hb := B.bytes
  have hr := B.returns
  have hts := atoms_spec (ws := wsX9_size) B.pre
  have hown : s.vm.findClass RX9 = some m.cls := findClass_of_methodNamed B.named
  have hlocks := B.notSynchronized
  subst hsz
  have hD := hD0.self (sz := s.heap.size)
  generalize hAe : va_A [] s.heap.size = A at hD ⊢
  have hA : ∀ q : Nat, s.heap.size ≤ q → A q := fun q h => by rw [← hAe]; exact Or.inr h
  have hS : va_S A s.heap s.heap [] := va_S.rf
  have hP : va_P D vwCl [] s.heap := hP
  have hl := lv_entry ([.int p0]) (n := 3) (Nat.le_of_ble_eq_true rfl)
  rw [lg_entry_eq]
  generalize (lg_sl ([.int p0]) ++ List.replicate (3 - (lg_sl ([.int p0])).length) Slot.unset).toArray = ls at hl ⊢
  have hl : lv_has ls 3 [(0, .int p0)] := hl
  have C : cx p s m c ([.int p0]).toArray D ky A cX9_size 3 wsX9_size RX9 := ⟨hx, hb, hml, hown, hts, hK, hA⟩
  have hQ : ∀ (pc : Nat) (H : Heap) (locs : List Loc) (ls : Array Slot), decode cX9_size pc = .ok (.ireturn, 1) → va_P D vwCl [] H → va_D A [] → va_S A s.heap H locs → W p l e rm_X9_size s m ([.int p0]).toArray below meth c H locs 0 0 (MQ below (va_Qi (S := Unit) (fun r _ => r = res) (fun _ t => va_P D vwCl [] t.heap ∧ va_K D vwCl (tyW ky) t ∧ va_D A []) A) ([.int p0]).toArray s 0 0 A) (F0 m pc ls [.int res]) := fun pc H locs ls hd hP hD hS => W.iret hx hb hr (fun t ht hW => ⟨⟨res, (), rfl, rfl, by rw [ht]; exact hP, va_K.moved hW.alike hK, hD⟩, hS.F ht⟩) hS.2.2 hd
  unfold f_X9_size at hF
  refine lv_iconst (v := (0 : Int32)) hx hb dX9_size_0 (by decide) ?_
  refine lv_istore_n (lv' := [(1, .int (0 : Int32)), (0, .int p0)]) hx hb dX9_size_1 rfl hl (by decide) rfl (fun ls hl => ?_)
  refine lv_iload_n hx hb dX9_size_2 rfl (lv_at hl 1 rfl) ?_
  refine lv_istore_n (lv' := [(2, .int p0), (1, .int (0 : Int32)), (0, .int p0)]) hx hb dX9_size_3 rfl hl (by decide) rfl (fun ls hl => ?_)
  exact w_X9_size_4 N C res hQ  N (0 : Int32) p0 hF _ _ _ hP hD hS (lv_sub hl [1, 0] rfl)
theorem c_X9_size (l : Launch) (D : va_G) (ky : Nat → ClassId)  (sz N : Nat)   (p0 : Int32) (rv : Int32) (hF : f_X9_size N p0 = some (rv)) : MI l yX9_size wsX9_size rm_X9_size D ky sz [.int p0] [] [] rv :=
  cr_X9_size l D ky  sz N p0 (rv) hF
abbrev rm_X9_pushAt : Room := { frames := 0, cells := 0, slots := 0, locals := 0 }
set_option maxHeartbeats 4000000 in
set_option maxRecDepth 100000 in
theorem cr_X9_pushAt (l : Launch) (D : va_G) (ky : Nat → ClassId)  (sz N : Nat)   (p0 : Int32) (res : Int32) (hF : f_X9_pushAt N p0 = some res) : MI l yX9_pushAt wsX9_pushAt rm_X9_pushAt D ky sz [.int p0] [] [] res := by
  unfold MI
  refine Met.ofW (cc := cX9_pushAt) (maxL := 1) (ret := (some .int)) (by decide) rfl ?_
  intro p e s m args below meth c s₁ B hml hv
  obtain ⟨rfl, hsz, hP, hK, hD0⟩ := hv
  have hx := B.exec
  have hb := B.bytes
  have hr := B.returns
  have hts := atoms_spec (ws := wsX9_pushAt) B.pre
  have hown : s.vm.findClass RX9 = some m.cls := findClass_of_methodNamed B.named
  have hlocks := B.notSynchronized
  subst hsz
  have hD := hD0.self (sz := s.heap.size)
  generalize hAe : va_A [] s.heap.size = A at hD ⊢
  have hA : ∀ q : Nat, s.heap.size ≤ q → A q := fun q h => by rw [← hAe]; exact Or.inr h
  have hS : va_S A s.heap s.heap [] := va_S.rf
  have hP : va_P D vwCl [] s.heap := hP
  have hl := lv_entry ([.int p0]) (n := 1) (Nat.le_of_ble_eq_true rfl)
  rw [lg_entry_eq]
  generalize (lg_sl ([.int p0]) ++ List.replicate (1 - (lg_sl ([.int p0])).length) Slot.unset).toArray = ls at hl ⊢
  have hl : lv_has ls 1 [(0, .int p0)] := hl
  have C : cx p s m c ([.int p0]).toArray D ky A cX9_pushAt 1 wsX9_pushAt RX9 := ⟨hx, hb, hml, hown, hts, hK, hA⟩
  have hQ : ∀ (pc : Nat) (H : Heap) (locs : List Loc) (ls : Array Slot), decode cX9_pushAt pc = .ok (.ireturn, 1) → va_P D vwCl [] H → va_D A [] → va_S A s.heap H locs → W p l e rm_X9_pushAt s m ([.int p0]).toArray below meth c H locs 0 0 (MQ below (va_Qi (S := Unit) (fun r _ => r = res) (fun _ t => va_P D vwCl [] t.heap ∧ va_K D vwCl (tyW ky) t ∧ va_D A []) A) ([.int p0]).toArray s 0 0 A) (F0 m pc ls [.int res]) := fun pc H locs ls hd hP hD hS => W.iret hx hb hr (fun t ht hW => ⟨⟨res, (), rfl, rfl, by rw [ht]; exact hP, va_K.moved hW.alike hK, hD⟩, hS.F ht⟩) hS.2.2 hd
  unfold f_X9_pushAt at hF
  refine lv_iload_n hx hb dX9_pushAt_0 rfl (lv_at hl 0 rfl) ?_
  refine lv_iconst (v := (2 : Int32)) hx hb dX9_pushAt_1 (by decide) ?_
  refine lv_irem hx hb dX9_pushAt_2 (by decide) ?_
  refine lv_iconst (v := (1 : Int32)) hx hb dX9_pushAt_3 (by decide) ?_
  refine lv_icmp_ne (tgt := 15) hx hb dX9_pushAt_4 (by decide) (fun c1 => ?_) (fun c1 => ?_)
  · have hF := if_f c1 hF
    refine lv_iload_n hx hb dX9_pushAt_15 rfl (lv_at hl 0 rfl) ?_
    refine lv_ineg hx hb dX9_pushAt_16 ?_
    refine lv_iconst (v := (2 : Int32)) hx hb dX9_pushAt_17 (by decide) ?_
    refine lv_idiv hx hb dX9_pushAt_18 (by decide) ?_
    have hF := Option.some.inj hF
    subst hF
    exact hQ _ _ _ _ dX9_pushAt_19 hP hD hS
  · have hF := if_t c1 hF
    refine lv_iload_n hx hb dX9_pushAt_7 rfl (lv_at hl 0 rfl) ?_
    refine lv_iconst (v := (1 : Int32)) hx hb dX9_pushAt_8 (by decide) ?_
    refine lv_iadd hx hb dX9_pushAt_9 ?_
    refine lv_iconst (v := (2 : Int32)) hx hb dX9_pushAt_10 (by decide) ?_
    refine lv_idiv hx hb dX9_pushAt_11 (by decide) ?_
    refine lv_goto (tgt := 19) hx hb dX9_pushAt_12 (by decide) ?_
    have hF := Option.some.inj hF
    subst hF
    exact hQ _ _ _ _ dX9_pushAt_19 hP hD hS
theorem c_X9_pushAt (l : Launch) (D : va_G) (ky : Nat → ClassId)  (sz N : Nat)   (p0 : Int32) (rv : Int32) (hF : f_X9_pushAt N p0 = some (rv)) : MI l yX9_pushAt wsX9_pushAt rm_X9_pushAt D ky sz [.int p0] [] [] rv :=
  cr_X9_pushAt l D ky  sz N p0 (rv) hF
abbrev rm_X9_lower : Room := { frames := 0, cells := 0, slots := 0, locals := 0 }
set_option maxHeartbeats 4000000 in
set_option maxRecDepth 100000 in
theorem cr_X9_lower (l : Launch) (D : va_G) (ky : Nat → ClassId)  (sz N : Nat)   (p0 : Int32) (res : Int32) (hF : f_X9_lower N p0 = some res) : MI l yX9_lower wsX9_lower rm_X9_lower D ky sz [.int p0] [] [] res := by
  unfold MI
  refine Met.ofW (cc := cX9_lower) (maxL := 2) (ret := (some .int)) (by decide) rfl ?_
  intro p e s m args below meth c s₁ B hml hv
  obtain ⟨rfl, hsz, hP, hK, hD0⟩ := hv
  have hx := B.exec
  have hb := B.bytes
  have hr := B.returns
  have hts := atoms_spec (ws := wsX9_lower) B.pre
  have hown : s.vm.findClass RX9 = some m.cls := findClass_of_methodNamed B.named
  have hlocks := B.notSynchronized
  subst hsz
  have hD := hD0.self (sz := s.heap.size)
  generalize hAe : va_A [] s.heap.size = A at hD ⊢
  have hA : ∀ q : Nat, s.heap.size ≤ q → A q := fun q h => by rw [← hAe]; exact Or.inr h
  have hS : va_S A s.heap s.heap [] := va_S.rf
  have hP : va_P D vwCl [] s.heap := hP
  have hl := lv_entry ([.int p0]) (n := 2) (Nat.le_of_ble_eq_true rfl)
  rw [lg_entry_eq]
  generalize (lg_sl ([.int p0]) ++ List.replicate (2 - (lg_sl ([.int p0])).length) Slot.unset).toArray = ls at hl ⊢
  have hl : lv_has ls 2 [(0, .int p0)] := hl
  have C : cx p s m c ([.int p0]).toArray D ky A cX9_lower 2 wsX9_lower RX9 := ⟨hx, hb, hml, hown, hts, hK, hA⟩
  have hQ : ∀ (pc : Nat) (H : Heap) (locs : List Loc) (ls : Array Slot), decode cX9_lower pc = .ok (.ireturn, 1) → va_P D vwCl [] H → va_D A [] → va_S A s.heap H locs → W p l e rm_X9_lower s m ([.int p0]).toArray below meth c H locs 0 0 (MQ below (va_Qi (S := Unit) (fun r _ => r = res) (fun _ t => va_P D vwCl [] t.heap ∧ va_K D vwCl (tyW ky) t ∧ va_D A []) A) ([.int p0]).toArray s 0 0 A) (F0 m pc ls [.int res]) := fun pc H locs ls hd hP hD hS => W.iret hx hb hr (fun t ht hW => ⟨⟨res, (), rfl, rfl, by rw [ht]; exact hP, va_K.moved hW.alike hK, hD⟩, hS.F ht⟩) hS.2.2 hd
  unfold f_X9_lower at hF
  refine lv_iload_n hx hb dX9_lower_0 rfl (lv_at hl 0 rfl) ?_
  refine lv_iconst (v := (4 : Int32)) hx hb dX9_lower_1 (by decide) ?_
  refine lv_idiv hx hb dX9_lower_2 (by decide) ?_
  refine lv_istore_n (lv' := [(1, .int (p0 / (4 : Int32))), (0, .int p0)]) hx hb dX9_lower_3 rfl hl (by decide) rfl (fun ls hl => ?_)
  refine lv_iload_n hx hb dX9_lower_4 rfl (lv_at hl 1 rfl) ?_
  refine lv_if_ge (tgt := 21) hx hb dX9_lower_5 (by decide) (fun c1 => ?_) (fun c1 => ?_)
  · have hF := if_t c1 hF
    refine lv_iload_n hx hb dX9_lower_21 rfl (lv_at hl 0 rfl) ?_
    have hF := Option.some.inj hF
    subst hF
    exact hQ _ _ _ _ dX9_lower_22 hP hD hS
  · have hF := if_f c1 hF
    refine lv_iconst (v := (4 : Int32)) hx hb dX9_lower_8 (by decide) ?_
    refine lv_iload_n hx hb dX9_lower_9 rfl (lv_at hl 0 rfl) ?_
    refine lv_imul hx hb dX9_lower_10 ?_
    refine lv_iload_n hx hb dX9_lower_11 rfl (lv_at hl 1 rfl) ?_
    refine lv_icmp_eq (tgt := 21) hx hb dX9_lower_12 (by decide) (fun c2 => ?_) (fun c2 => ?_)
    · have hF := if_t c2 hF
      refine lv_iload_n hx hb dX9_lower_21 rfl (lv_at hl 0 rfl) ?_
      have hF := Option.some.inj hF
      subst hF
      exact hQ _ _ _ _ dX9_lower_22 hP hD hS
    · have hF := if_f c2 hF
      refine lv_iload_n hx hb dX9_lower_15 rfl (lv_at hl 0 rfl) ?_
      refine lv_iconst (v := (1 : Int32)) hx hb dX9_lower_16 (by decide) ?_
      refine lv_isub hx hb dX9_lower_17 ?_
      refine lv_goto (tgt := 22) hx hb dX9_lower_18 (by decide) ?_
      have hF := Option.some.inj hF
      subst hF
      exact hQ _ _ _ _ dX9_lower_22 hP hD hS
theorem c_X9_lower (l : Launch) (D : va_G) (ky : Nat → ClassId)  (sz N : Nat)   (p0 : Int32) (rv : Int32) (hF : f_X9_lower N p0 = some (rv)) : MI l yX9_lower wsX9_lower rm_X9_lower D ky sz [.int p0] [] [] rv :=
  cr_X9_lower l D ky  sz N p0 (rv) hF
abbrev rm_X9_higher : Room := { frames := 1, cells := 0, slots := 0, locals := 21 }
set_option maxHeartbeats 4000000 in
set_option maxRecDepth 100000 in
theorem cr_X9_higher (l : Launch) (D : va_G) (ky : Nat → ClassId)  (sz N : Nat)   (p0 : Int32) (res : Int32) (hF : f_X9_higher N p0 = some res) : MI l yX9_higher wsX9_higher rm_X9_higher D ky sz [.int p0] [] [] res := by
  unfold MI
  refine Met.ofW (cc := cX9_higher) (maxL := 1) (ret := (some .int)) (by decide) rfl ?_
  intro p e s m args below meth c s₁ B hml hv
  obtain ⟨rfl, hsz, hP, hK, hD0⟩ := hv
  have hx := B.exec
  have hb := B.bytes
  have hr := B.returns
  have hts := atoms_spec (ws := wsX9_higher) B.pre
  have hown : s.vm.findClass RX9 = some m.cls := findClass_of_methodNamed B.named
  have hlocks := B.notSynchronized
  subst hsz
  have hD := hD0.self (sz := s.heap.size)
  generalize hAe : va_A [] s.heap.size = A at hD ⊢
  have hA : ∀ q : Nat, s.heap.size ≤ q → A q := fun q h => by rw [← hAe]; exact Or.inr h
  have hS : va_S A s.heap s.heap [] := va_S.rf
  have hP : va_P D vwCl [] s.heap := hP
  have hl := lv_entry ([.int p0]) (n := 1) (Nat.le_of_ble_eq_true rfl)
  rw [lg_entry_eq]
  generalize (lg_sl ([.int p0]) ++ List.replicate (1 - (lg_sl ([.int p0])).length) Slot.unset).toArray = ls at hl ⊢
  have hl : lv_has ls 1 [(0, .int p0)] := hl
  have C : cx p s m c ([.int p0]).toArray D ky A cX9_higher 1 wsX9_higher RX9 := ⟨hx, hb, hml, hown, hts, hK, hA⟩
  have hQ : ∀ (pc : Nat) (H : Heap) (locs : List Loc) (ls : Array Slot), decode cX9_higher pc = .ok (.ireturn, 1) → va_P D vwCl [] H → va_D A [] → va_S A s.heap H locs → W p l e rm_X9_higher s m ([.int p0]).toArray below meth c H locs 0 0 (MQ below (va_Qi (S := Unit) (fun r _ => r = res) (fun _ t => va_P D vwCl [] t.heap ∧ va_K D vwCl (tyW ky) t ∧ va_D A []) A) ([.int p0]).toArray s 0 0 A) (F0 m pc ls [.int res]) := fun pc H locs ls hd hP hD hS => W.iret hx hb hr (fun t ht hW => ⟨⟨res, (), rfl, rfl, by rw [ht]; exact hP, va_K.moved hW.alike hK, hD⟩, hS.F ht⟩) hS.2.2 hd
  unfold f_X9_higher at hF
  refine lv_iload_n hx hb dX9_higher_0 rfl (lv_at hl 0 rfl) ?_
  refine lv_ineg hx hb dX9_higher_1 ?_
  obtain ⟨r2, h1, hF⟩ := b1_s hF
  refine cl_si (As := [.int (-p0)]) (rest := []) ⟨hx, hb, hml, hown, hts⟩ hK hP hD hS hA (c_X9_lower l D ky  _ N   (-p0) r2 h1) (va_cwS 1 hts gX9_higher_X9_lower rfl rfl rfl (by decide +kernel) ⟨Nat.le_of_ble_eq_true rfl, Nat.le_of_ble_eq_true rfl⟩) rfl hl.1 (Nat.le_of_ble_eq_true rfl) dX9_higher_2 ⟨Nat.zero_le _, Nat.zero_le _⟩ (fun H locs hP hD hS => ?_)
  refine lv_ineg hx hb dX9_higher_5 ?_
  have hF := Option.some.inj hF
  subst hF
  exact hQ _ _ _ _ dX9_higher_6 hP hD hS
theorem c_X9_higher (l : Launch) (D : va_G) (ky : Nat → ClassId)  (sz N : Nat)   (p0 : Int32) (rv : Int32) (hF : f_X9_higher N p0 = some (rv)) : MI l yX9_higher wsX9_higher rm_X9_higher D ky sz [.int p0] [] [] rv :=
  cr_X9_higher l D ky  sz N p0 (rv) hF
abbrev rm_X9_isState : Room := { frames := 1, cells := 0, slots := 0, locals := 25 }
theorem kX9_isState_0 : (Cond.constantLong RX9 204 (-9999)) ∈ wsX9_isState := by decide +kernel
theorem kX9_isState_1 : (Cond.constantLong RX9 206 (9999)) ∈ wsX9_isState := by decide +kernel
set_option maxHeartbeats 4000000 in
set_option maxRecDepth 100000 in
theorem cr_X9_isState (l : Launch) (D : va_G) (ky : Nat → ClassId)  (sz N : Nat)   (p0 : Int32) (res : Int32) (hF : f_X9_isState N p0 = some res) : MI l yX9_isState wsX9_isState rm_X9_isState D ky sz [.int p0] [] [] res := by
  unfold MI
  refine Met.ofW (cc := cX9_isState) (maxL := 1) (ret := (some .boolean)) (by decide) rfl ?_
  intro p e s m args below meth c s₁ B hml hv
  obtain ⟨rfl, hsz, hP, hK, hD0⟩ := hv
  have hx := B.exec
  have hb := B.bytes
  have hr := B.returns
  have hts := atoms_spec (ws := wsX9_isState) B.pre
  have hown : s.vm.findClass RX9 = some m.cls := findClass_of_methodNamed B.named
  have hlocks := B.notSynchronized
  subst hsz
  have hD := hD0.self (sz := s.heap.size)
  generalize hAe : va_A [] s.heap.size = A at hD ⊢
  have hA : ∀ q : Nat, s.heap.size ≤ q → A q := fun q h => by rw [← hAe]; exact Or.inr h
  have hS : va_S A s.heap s.heap [] := va_S.rf
  have hP : va_P D vwCl [] s.heap := hP
  have hl := lv_entry ([.int p0]) (n := 1) (Nat.le_of_ble_eq_true rfl)
  rw [lg_entry_eq]
  generalize (lg_sl ([.int p0]) ++ List.replicate (1 - (lg_sl ([.int p0])).length) Slot.unset).toArray = ls at hl ⊢
  have hl : lv_has ls 1 [(0, .int p0)] := hl
  have C : cx p s m c ([.int p0]).toArray D ky A cX9_isState 1 wsX9_isState RX9 := ⟨hx, hb, hml, hown, hts, hK, hA⟩
  have hQ : ∀ (pc : Nat) (H : Heap) (locs : List Loc) (ls : Array Slot), decode cX9_isState pc = .ok (.ireturn, 1) → (res = 0 ∨ res = 1) → va_P D vwCl [] H → va_D A [] → va_S A s.heap H locs → W p l e rm_X9_isState s m ([.int p0]).toArray below meth c H locs 0 0 (MQ below (va_Qi (S := Unit) (fun r _ => r = res) (fun _ t => va_P D vwCl [] t.heap ∧ va_K D vwCl (tyW ky) t ∧ va_D A []) A) ([.int p0]).toArray s 0 0 A) (F0 m pc ls [.int res]) := fun pc H locs ls hd hz hP hD hS => W.zret hx hb hr (gz_n hz) (fun t ht hW => ⟨⟨res, (), rfl, rfl, by rw [ht]; exact hP, va_K.moved hW.alike hK, hD⟩, hS.F ht⟩) hS.2.2 hd
  unfold f_X9_isState at hF
  refine lv_iload_n hx hb dX9_isState_0 rfl (lv_at hl 0 rfl) ?_
  refine lv_i2l (v := (p0.toInt64)) hx hb dX9_isState_1 rfl ?_
  refine lv_ldc2 hx hb hown (hts _ kX9_isState_0) dX9_isState_2 ?_
  refine lv_ldc2 hx hb hown (hts _ kX9_isState_1) dX9_isState_5 ?_
  obtain ⟨r2, h1, hF⟩ := b1_s hF
  refine cl_si (As := [.long (p0.toInt64), .long (-9999 : Int64), .long (9999 : Int64)]) (rest := []) ⟨hx, hb, hml, hown, hts⟩ hK hP hD hS hA (c_X9_in l D ky  _ N   (p0.toInt64) (-9999 : Int64) (9999 : Int64) r2 h1) (va_cwS 3 hts gX9_isState_X9_in rfl rfl rfl (by decide +kernel) ⟨Nat.le_of_ble_eq_true rfl, Nat.le_of_ble_eq_true rfl⟩) rfl hl.1 (Nat.le_of_ble_eq_true rfl) dX9_isState_8 ⟨Nat.zero_le _, Nat.zero_le _⟩ (fun H locs hP hD hS => ?_)
  obtain ⟨h3, hF⟩ := gz_s hF
  have hF := Option.some.inj hF
  subst hF
  exact hQ _ _ _ _ dX9_isState_11 h3 hP hD hS
theorem c_X9_isState (l : Launch) (D : va_G) (ky : Nat → ClassId)  (sz N : Nat)   (p0 : Int32) (rv : Int32) (hF : f_X9_isState N p0 = some (rv)) : MI l yX9_isState wsX9_isState rm_X9_isState D ky sz [.int p0] [] [] rv :=
  cr_X9_isState l D ky  sz N p0 (rv) hF
abbrev rm_X9_held : Room := { frames := 0, cells := 0, slots := 0, locals := 0 }
set_option maxHeartbeats 4000000 in
set_option maxRecDepth 100000 in
theorem cr_X9_held (l : Launch) (D : va_G) (ky : Nat → ClassId)  (sz N : Nat)   (p0 : Int32) (res : Int32) (hF : f_X9_held N p0 = some res) : MI l yX9_held wsX9_held rm_X9_held D ky sz [.int p0] [] [] res := by
  unfold MI
  refine Met.ofW (cc := cX9_held) (maxL := 1) (ret := (some .int)) (by decide) rfl ?_
  intro p e s m args below meth c s₁ B hml hv
  obtain ⟨rfl, hsz, hP, hK, hD0⟩ := hv
  have hx := B.exec
  have hb := B.bytes
  have hr := B.returns
  have hts := atoms_spec (ws := wsX9_held) B.pre
  have hown : s.vm.findClass RX9 = some m.cls := findClass_of_methodNamed B.named
  have hlocks := B.notSynchronized
  subst hsz
  have hD := hD0.self (sz := s.heap.size)
  generalize hAe : va_A [] s.heap.size = A at hD ⊢
  have hA : ∀ q : Nat, s.heap.size ≤ q → A q := fun q h => by rw [← hAe]; exact Or.inr h
  have hS : va_S A s.heap s.heap [] := va_S.rf
  have hP : va_P D vwCl [] s.heap := hP
  have hl := lv_entry ([.int p0]) (n := 1) (Nat.le_of_ble_eq_true rfl)
  rw [lg_entry_eq]
  generalize (lg_sl ([.int p0]) ++ List.replicate (1 - (lg_sl ([.int p0])).length) Slot.unset).toArray = ls at hl ⊢
  have hl : lv_has ls 1 [(0, .int p0)] := hl
  have C : cx p s m c ([.int p0]).toArray D ky A cX9_held 1 wsX9_held RX9 := ⟨hx, hb, hml, hown, hts, hK, hA⟩
  have hQ : ∀ (pc : Nat) (H : Heap) (locs : List Loc) (ls : Array Slot), decode cX9_held pc = .ok (.ireturn, 1) → va_P D vwCl [] H → va_D A [] → va_S A s.heap H locs → W p l e rm_X9_held s m ([.int p0]).toArray below meth c H locs 0 0 (MQ below (va_Qi (S := Unit) (fun r _ => r = res) (fun _ t => va_P D vwCl [] t.heap ∧ va_K D vwCl (tyW ky) t ∧ va_D A []) A) ([.int p0]).toArray s 0 0 A) (F0 m pc ls [.int res]) := fun pc H locs ls hd hP hD hS => W.iret hx hb hr (fun t ht hW => ⟨⟨res, (), rfl, rfl, by rw [ht]; exact hP, va_K.moved hW.alike hK, hD⟩, hS.F ht⟩) hS.2.2 hd
  unfold f_X9_held at hF
  refine lv_iload_n hx hb dX9_held_0 rfl (lv_at hl 0 rfl) ?_
  refine lv_sipush (v := (-9999 : Int32)) hx hb dX9_held_1 (by decide) ?_
  refine lv_icmp_ge (tgt := 13) hx hb dX9_held_4 (by decide) (fun c1 => ?_) (fun c1 => ?_)
  · have hF := if_t c1 hF
    refine lv_iload_n hx hb dX9_held_13 rfl (lv_at hl 0 rfl) ?_
    refine lv_sipush (v := (9999 : Int32)) hx hb dX9_held_14 (by decide) ?_
    refine lv_icmp_le (tgt := 26) hx hb dX9_held_17 (by decide) (fun c2 => ?_) (fun c2 => ?_)
    · have hF := if_t c2 hF
      refine lv_iload_n hx hb dX9_held_26 rfl (lv_at hl 0 rfl) ?_
      have hF := Option.some.inj hF
      subst hF
      exact hQ _ _ _ _ dX9_held_27 hP hD hS
    · have hF := if_f c2 hF
      refine lv_sipush (v := (9999 : Int32)) hx hb dX9_held_20 (by decide) ?_
      refine lv_goto (tgt := 27) hx hb dX9_held_23 (by decide) ?_
      have hF := Option.some.inj hF
      subst hF
      exact hQ _ _ _ _ dX9_held_27 hP hD hS
  · have hF := if_f c1 hF
    refine lv_sipush (v := (-9999 : Int32)) hx hb dX9_held_7 (by decide) ?_
    refine lv_goto (tgt := 27) hx hb dX9_held_10 (by decide) ?_
    have hF := Option.some.inj hF
    subst hF
    exact hQ _ _ _ _ dX9_held_27 hP hD hS
theorem c_X9_held (l : Launch) (D : va_G) (ky : Nat → ClassId)  (sz N : Nat)   (p0 : Int32) (rv : Int32) (hF : f_X9_held N p0 = some (rv)) : MI l yX9_held wsX9_held rm_X9_held D ky sz [.int p0] [] [] rv :=
  cr_X9_held l D ky  sz N p0 (rv) hF
abbrev rm_X9_isSheet : Room := { frames := 1, cells := 0, slots := 0, locals := 25 }
theorem kX9_isSheet_0 : (Cond.constantLong RX9 226 (3)) ∈ wsX9_isSheet := by decide +kernel
set_option maxHeartbeats 4000000 in
set_option maxRecDepth 100000 in
theorem cr_X9_isSheet (l : Launch) (D : va_G) (ky : Nat → ClassId)  (sz N : Nat)   (p0 : Int32) (res : Int32) (hF : f_X9_isSheet N p0 = some res) : MI l yX9_isSheet wsX9_isSheet rm_X9_isSheet D ky sz [.int p0] [] [] res := by
  unfold MI
  refine Met.ofW (cc := cX9_isSheet) (maxL := 1) (ret := (some .boolean)) (by decide) rfl ?_
  intro p e s m args below meth c s₁ B hml hv
  obtain ⟨rfl, hsz, hP, hK, hD0⟩ := hv
  have hx := B.exec
  have hb := B.bytes
  have hr := B.returns
  have hts := atoms_spec (ws := wsX9_isSheet) B.pre
  have hown : s.vm.findClass RX9 = some m.cls := findClass_of_methodNamed B.named
  have hlocks := B.notSynchronized
  subst hsz
  have hD := hD0.self (sz := s.heap.size)
  generalize hAe : va_A [] s.heap.size = A at hD ⊢
  have hA : ∀ q : Nat, s.heap.size ≤ q → A q := fun q h => by rw [← hAe]; exact Or.inr h
  have hS : va_S A s.heap s.heap [] := va_S.rf
  have hP : va_P D vwCl [] s.heap := hP
  have hl := lv_entry ([.int p0]) (n := 1) (Nat.le_of_ble_eq_true rfl)
  rw [lg_entry_eq]
  generalize (lg_sl ([.int p0]) ++ List.replicate (1 - (lg_sl ([.int p0])).length) Slot.unset).toArray = ls at hl ⊢
  have hl : lv_has ls 1 [(0, .int p0)] := hl
  have C : cx p s m c ([.int p0]).toArray D ky A cX9_isSheet 1 wsX9_isSheet RX9 := ⟨hx, hb, hml, hown, hts, hK, hA⟩
  have hQ : ∀ (pc : Nat) (H : Heap) (locs : List Loc) (ls : Array Slot), decode cX9_isSheet pc = .ok (.ireturn, 1) → (res = 0 ∨ res = 1) → va_P D vwCl [] H → va_D A [] → va_S A s.heap H locs → W p l e rm_X9_isSheet s m ([.int p0]).toArray below meth c H locs 0 0 (MQ below (va_Qi (S := Unit) (fun r _ => r = res) (fun _ t => va_P D vwCl [] t.heap ∧ va_K D vwCl (tyW ky) t ∧ va_D A []) A) ([.int p0]).toArray s 0 0 A) (F0 m pc ls [.int res]) := fun pc H locs ls hd hz hP hD hS => W.zret hx hb hr (gz_n hz) (fun t ht hW => ⟨⟨res, (), rfl, rfl, by rw [ht]; exact hP, va_K.moved hW.alike hK, hD⟩, hS.F ht⟩) hS.2.2 hd
  unfold f_X9_isSheet at hF
  refine lv_iload_n hx hb dX9_isSheet_0 rfl (lv_at hl 0 rfl) ?_
  refine lv_i2l (v := (p0.toInt64)) hx hb dX9_isSheet_1 rfl ?_
  refine lv_lconst (v := (0 : Int64)) hx hb dX9_isSheet_2 (by decide) ?_
  refine lv_ldc2 hx hb hown (hts _ kX9_isSheet_0) dX9_isSheet_3 ?_
  obtain ⟨r2, h1, hF⟩ := b1_s hF
  refine cl_si (As := [.long (p0.toInt64), .long (0 : Int64), .long (3 : Int64)]) (rest := []) ⟨hx, hb, hml, hown, hts⟩ hK hP hD hS hA (c_X9_in l D ky  _ N   (p0.toInt64) (0 : Int64) (3 : Int64) r2 h1) (va_cwS 3 hts gX9_isSheet_X9_in rfl rfl rfl (by decide +kernel) ⟨Nat.le_of_ble_eq_true rfl, Nat.le_of_ble_eq_true rfl⟩) rfl hl.1 (Nat.le_of_ble_eq_true rfl) dX9_isSheet_6 ⟨Nat.zero_le _, Nat.zero_le _⟩ (fun H locs hP hD hS => ?_)
  obtain ⟨h3, hF⟩ := gz_s hF
  have hF := Option.some.inj hF
  subst hF
  exact hQ _ _ _ _ dX9_isSheet_9 h3 hP hD hS
theorem c_X9_isSheet (l : Launch) (D : va_G) (ky : Nat → ClassId)  (sz N : Nat)   (p0 : Int32) (rv : Int32) (hF : f_X9_isSheet N p0 = some (rv)) : MI l yX9_isSheet wsX9_isSheet rm_X9_isSheet D ky sz [.int p0] [] [] rv :=
  cr_X9_isSheet l D ky  sz N p0 (rv) hF
abbrev rm_X9_isLane : Room := { frames := 1, cells := 0, slots := 0, locals := 25 }
theorem kX9_isLane_0 : (Cond.constantLong RX9 127 (2)) ∈ wsX9_isLane := by decide +kernel
set_option maxHeartbeats 4000000 in
set_option maxRecDepth 100000 in
theorem cr_X9_isLane (l : Launch) (D : va_G) (ky : Nat → ClassId)  (sz N : Nat)   (p0 : Int32) (res : Int32) (hF : f_X9_isLane N p0 = some res) : MI l yX9_isLane wsX9_isLane rm_X9_isLane D ky sz [.int p0] [] [] res := by
  unfold MI
  refine Met.ofW (cc := cX9_isLane) (maxL := 1) (ret := (some .boolean)) (by decide) rfl ?_
  intro p e s m args below meth c s₁ B hml hv
  obtain ⟨rfl, hsz, hP, hK, hD0⟩ := hv
  have hx := B.exec
  have hb := B.bytes
  have hr := B.returns
  have hts := atoms_spec (ws := wsX9_isLane) B.pre
  have hown : s.vm.findClass RX9 = some m.cls := findClass_of_methodNamed B.named
  have hlocks := B.notSynchronized
  subst hsz
  have hD := hD0.self (sz := s.heap.size)
  generalize hAe : va_A [] s.heap.size = A at hD ⊢
  have hA : ∀ q : Nat, s.heap.size ≤ q → A q := fun q h => by rw [← hAe]; exact Or.inr h
  have hS : va_S A s.heap s.heap [] := va_S.rf
  have hP : va_P D vwCl [] s.heap := hP
  have hl := lv_entry ([.int p0]) (n := 1) (Nat.le_of_ble_eq_true rfl)
  rw [lg_entry_eq]
  generalize (lg_sl ([.int p0]) ++ List.replicate (1 - (lg_sl ([.int p0])).length) Slot.unset).toArray = ls at hl ⊢
  have hl : lv_has ls 1 [(0, .int p0)] := hl
  have C : cx p s m c ([.int p0]).toArray D ky A cX9_isLane 1 wsX9_isLane RX9 := ⟨hx, hb, hml, hown, hts, hK, hA⟩
  have hQ : ∀ (pc : Nat) (H : Heap) (locs : List Loc) (ls : Array Slot), decode cX9_isLane pc = .ok (.ireturn, 1) → (res = 0 ∨ res = 1) → va_P D vwCl [] H → va_D A [] → va_S A s.heap H locs → W p l e rm_X9_isLane s m ([.int p0]).toArray below meth c H locs 0 0 (MQ below (va_Qi (S := Unit) (fun r _ => r = res) (fun _ t => va_P D vwCl [] t.heap ∧ va_K D vwCl (tyW ky) t ∧ va_D A []) A) ([.int p0]).toArray s 0 0 A) (F0 m pc ls [.int res]) := fun pc H locs ls hd hz hP hD hS => W.zret hx hb hr (gz_n hz) (fun t ht hW => ⟨⟨res, (), rfl, rfl, by rw [ht]; exact hP, va_K.moved hW.alike hK, hD⟩, hS.F ht⟩) hS.2.2 hd
  unfold f_X9_isLane at hF
  refine lv_iload_n hx hb dX9_isLane_0 rfl (lv_at hl 0 rfl) ?_
  refine lv_i2l (v := (p0.toInt64)) hx hb dX9_isLane_1 rfl ?_
  refine lv_lconst (v := (0 : Int64)) hx hb dX9_isLane_2 (by decide) ?_
  refine lv_ldc2 hx hb hown (hts _ kX9_isLane_0) dX9_isLane_3 ?_
  obtain ⟨r2, h1, hF⟩ := b1_s hF
  refine cl_si (As := [.long (p0.toInt64), .long (0 : Int64), .long (2 : Int64)]) (rest := []) ⟨hx, hb, hml, hown, hts⟩ hK hP hD hS hA (c_X9_in l D ky  _ N   (p0.toInt64) (0 : Int64) (2 : Int64) r2 h1) (va_cwS 3 hts gX9_isLane_X9_in rfl rfl rfl (by decide +kernel) ⟨Nat.le_of_ble_eq_true rfl, Nat.le_of_ble_eq_true rfl⟩) rfl hl.1 (Nat.le_of_ble_eq_true rfl) dX9_isLane_6 ⟨Nat.zero_le _, Nat.zero_le _⟩ (fun H locs hP hD hS => ?_)
  obtain ⟨h3, hF⟩ := gz_s hF
  have hF := Option.some.inj hF
  subst hF
  exact hQ _ _ _ _ dX9_isLane_9 h3 hP hD hS
theorem c_X9_isLane (l : Launch) (D : va_G) (ky : Nat → ClassId)  (sz N : Nat)   (p0 : Int32) (rv : Int32) (hF : f_X9_isLane N p0 = some (rv)) : MI l yX9_isLane wsX9_isLane rm_X9_isLane D ky sz [.int p0] [] [] rv :=
  cr_X9_isLane l D ky  sz N p0 (rv) hF
abbrev rm_X9_isRow : Room := { frames := 1, cells := 0, slots := 0, locals := 25 }
theorem iX9_isRow_X9 : ∀ w ∈ wsX90, w ∈ wsX9_isRow := by decide +kernel
theorem kX9_isRow_1 : (Cond.fieldLink RX9 62 "TwoLawsModel" "rowMany" "I") ∈ wsX9_isRow := by decide +kernel
set_option maxHeartbeats 4000000 in
set_option maxRecDepth 100000 in
theorem cr_X9_isRow (l : Launch) (D : va_G) (ky : Nat → ClassId) (aM mxs mus mys mgp mtp mme mle mlt mkl mln msz mit mmv : Nat) (sz N : Nat)  (mrm : Int32) (mer : Int32) (mtd : Int32) (mat : Int32) (mwr : Int32) (mkn : Int32) (mmb : Int32) (mwa : Int32) (mra : Int32) (mbl : Int32) (mbh : Int32) (dxs : Nat → Int32) (dus : Nat → Int32) (dys : Nat → Int32) (dgp : Nat → Int32) (dtp : Nat → Int32) (dme : Nat → Int32) (dle : Nat → Int32) (dlt : Nat → Int32) (dkl : Nat → Int32) (dln : Nat → Int32) (dsz : Nat → Int32) (dit : Nat → Int32) (dmv : Nat → Int32) (p0 : Int32) (res : Int32) (hF : f_X9_isRow N p0 mrm = some res) : MI l yX9_isRow wsX9_isRow rm_X9_isRow D ky sz [.ref aM, .int p0] (w_model ky aM mxs mus mys mgp mtp mme mle mlt mkl mln msz mit mmv mrm mer mtd mat mwr mkn mmb mwa mra mbl mbh dxs dus dys dgp dtp dme dle dlt dkl dln dsz dit dmv) (w_model ky aM mxs mus mys mgp mtp mme mle mlt mkl mln msz mit mmv mrm mer mtd mat mwr mkn mmb mwa mra mbl mbh dxs dus dys dgp dtp dme dle dlt dkl dln dsz dit dmv) res := by
  unfold MI
  refine Met.ofW (cc := cX9_isRow) (maxL := 2) (ret := (some .boolean)) (by decide) rfl ?_
  intro p e s m args below meth c s₁ B hml hv
  obtain ⟨rfl, hsz, hP, hK, hD0⟩ := hv
  have hx := B.exec
  have hb := B.bytes
  have hr := B.returns
  have hts := atoms_spec (ws := wsX9_isRow) B.pre
  have hown : s.vm.findClass RX9 = some m.cls := findClass_of_methodNamed B.named
  have hlocks := B.notSynchronized
  subst hsz
  have hD := hD0.self (sz := s.heap.size)
  generalize hAe : va_A (w_model ky aM mxs mus mys mgp mtp mme mle mlt mkl mln msz mit mmv mrm mer mtd mat mwr mkn mmb mwa mra mbl mbh dxs dus dys dgp dtp dme dle dlt dkl dln dsz dit dmv) s.heap.size = A at hD ⊢
  have hA : ∀ q : Nat, s.heap.size ≤ q → A q := fun q h => by rw [← hAe]; exact Or.inr h
  have hS : va_S A s.heap s.heap [] := va_S.rf
  have hP : va_P D vwCl (w_model ky aM mxs mus mys mgp mtp mme mle mlt mkl mln msz mit mmv mrm mer mtd mat mwr mkn mmb mwa mra mbl mbh dxs dus dys dgp dtp dme dle dlt dkl dln dsz dit dmv) s.heap := hP
  have hl := lv_entry ([.ref aM, .int p0]) (n := 2) (Nat.le_of_ble_eq_true rfl)
  rw [lg_entry_eq]
  generalize (lg_sl ([.ref aM, .int p0]) ++ List.replicate (2 - (lg_sl ([.ref aM, .int p0])).length) Slot.unset).toArray = ls at hl ⊢
  have hl : lv_has ls 2 [(0, .ref aM), (1, .int p0)] := hl
  have C : cx p s m c ([.ref aM, .int p0]).toArray D ky A cX9_isRow 2 wsX9_isRow RX9 := ⟨hx, hb, hml, hown, hts, hK, hA⟩
  have hQ : ∀ (pc : Nat) (H : Heap) (locs : List Loc) (ls : Array Slot), decode cX9_isRow pc = .ok (.ireturn, 1) → (res = 0 ∨ res = 1) → va_P D vwCl (w_model ky aM mxs mus mys mgp mtp mme mle mlt mkl mln msz mit mmv mrm mer mtd mat mwr mkn mmb mwa mra mbl mbh dxs dus dys dgp dtp dme dle dlt dkl dln dsz dit dmv) H → va_D A (w_model ky aM mxs mus mys mgp mtp mme mle mlt mkl mln msz mit mmv mrm mer mtd mat mwr mkn mmb mwa mra mbl mbh dxs dus dys dgp dtp dme dle dlt dkl dln dsz dit dmv) → va_S A s.heap H locs → W p l e rm_X9_isRow s m ([.ref aM, .int p0]).toArray below meth c H locs 0 0 (MQ below (va_Qi (S := Unit) (fun r _ => r = res) (fun _ t => va_P D vwCl (w_model ky aM mxs mus mys mgp mtp mme mle mlt mkl mln msz mit mmv mrm mer mtd mat mwr mkn mmb mwa mra mbl mbh dxs dus dys dgp dtp dme dle dlt dkl dln dsz dit dmv) t.heap ∧ va_K D vwCl (tyW ky) t ∧ va_D A (w_model ky aM mxs mus mys mgp mtp mme mle mlt mkl mln msz mit mmv mrm mer mtd mat mwr mkn mmb mwa mra mbl mbh dxs dus dys dgp dtp dme dle dlt dkl dln dsz dit dmv)) A) ([.ref aM, .int p0]).toArray s 0 0 A) (F0 m pc ls [.int res]) := fun pc H locs ls hd hz hP hD hS => W.zret hx hb hr (gz_n hz) (fun t ht hW => ⟨⟨res, (), rfl, rfl, by rw [ht]; exact hP, va_K.moved hW.alike hK, hD⟩, hS.F ht⟩) hS.2.2 hd
  unfold f_X9_isRow at hF
  refine lv_iload_n hx hb dX9_isRow_0 rfl (lv_at hl 1 rfl) ?_
  refine lv_i2l (v := (p0.toInt64)) hx hb dX9_isRow_1 rfl ?_
  refine lv_lconst (v := (0 : Int64)) hx hb dX9_isRow_2 (by decide) ?_
  refine lv_aload_n hx hb dX9_isRow_3 rfl (lv_at hl 0 rfl) ?_
  refine va_get (D := D) (ci := 8) (v := .int mrm) (C := RX9) (T := TX9) (N := 24) hx hb hts iX9_isRow_X9 hown hK hP 0 rfl rfl 0 (by decide) (hts _ kX9_isRow_1) (fun _ h9 => h9) rfl dX9_isRow_4 ?_
  refine lv_iconst (v := (1 : Int32)) hx hb dX9_isRow_7 (by decide) ?_
  refine lv_isub hx hb dX9_isRow_8 ?_
  refine lv_i2l (v := ((mrm - (1 : Int32)).toInt64)) hx hb dX9_isRow_9 rfl ?_
  obtain ⟨r2, h1, hF⟩ := b1_s hF
  refine cl_si (As := [.long (p0.toInt64), .long (0 : Int64), .long ((mrm - (1 : Int32)).toInt64)]) (rest := []) ⟨hx, hb, hml, hown, hts⟩ hK hP hD hS hA (c_X9_in l D ky  _ N   (p0.toInt64) (0 : Int64) ((mrm - (1 : Int32)).toInt64) r2 h1) (va_cwS 3 hts gX9_isRow_X9_in rfl rfl rfl (by decide +kernel) ⟨Nat.le_of_ble_eq_true rfl, Nat.le_of_ble_eq_true rfl⟩) rfl hl.1 (Nat.le_of_ble_eq_true rfl) dX9_isRow_10 ⟨Nat.zero_le _, Nat.zero_le _⟩ (fun H locs hP hD hS => ?_)
  obtain ⟨h3, hF⟩ := gz_s hF
  have hF := Option.some.inj hF
  subst hF
  exact hQ _ _ _ _ dX9_isRow_13 h3 hP hD hS
theorem c_X9_isRow (l : Launch) (D : va_G) (ky : Nat → ClassId) (aM mxs mus mys mgp mtp mme mle mlt mkl mln msz mit mmv : Nat) (sz N : Nat)  (mrm : Int32) (mer : Int32) (mtd : Int32) (mat : Int32) (mwr : Int32) (mkn : Int32) (mmb : Int32) (mwa : Int32) (mra : Int32) (mbl : Int32) (mbh : Int32) (dxs : Nat → Int32) (dus : Nat → Int32) (dys : Nat → Int32) (dgp : Nat → Int32) (dtp : Nat → Int32) (dme : Nat → Int32) (dle : Nat → Int32) (dlt : Nat → Int32) (dkl : Nat → Int32) (dln : Nat → Int32) (dsz : Nat → Int32) (dit : Nat → Int32) (dmv : Nat → Int32) (p0 : Int32) (rv : Int32) (hF : f_X9_isRow N p0 mrm = some (rv)) : MI l yX9_isRow wsX9_isRow rm_X9_isRow D ky sz [.ref aM, .int p0] (w_model ky aM mxs mus mys mgp mtp mme mle mlt mkl mln msz mit mmv mrm mer mtd mat mwr mkn mmb mwa mra mbl mbh dxs dus dys dgp dtp dme dle dlt dkl dln dsz dit dmv) (w_model ky aM mxs mus mys mgp mtp mme mle mlt mkl mln msz mit mmv mrm mer mtd mat mwr mkn mmb mwa mra mbl mbh dxs dus dys dgp dtp dme dle dlt dkl dln dsz dit dmv) rv :=
  cr_X9_isRow l D ky aM mxs mus mys mgp mtp mme mle mlt mkl mln msz mit mmv sz N mrm mer mtd mat mwr mkn mmb mwa mra mbl mbh dxs dus dys dgp dtp dme dle dlt dkl dln dsz dit dmv p0 (rv) hF
abbrev rm_X9_puts : Room := { frames := 0, cells := 0, slots := 0, locals := 0 }
theorem iX9_puts_X9 : ∀ w ∈ wsX90, w ∈ wsX9_puts := by decide +kernel
theorem kX9_puts_1 : (Cond.fieldLink RX9 7 "TwoLawsModel" "xs" "[I") ∈ wsX9_puts := by decide +kernel
theorem kX9_puts_2 : (Cond.fieldLink RX9 62 "TwoLawsModel" "rowMany" "I") ∈ wsX9_puts := by decide +kernel
theorem kX9_puts_3 : (Cond.fieldLink RX9 13 "TwoLawsModel" "us" "[I") ∈ wsX9_puts := by decide +kernel
theorem kX9_puts_4 : (Cond.fieldLink RX9 16 "TwoLawsModel" "ys" "[I") ∈ wsX9_puts := by decide +kernel
theorem kX9_puts_5 : (Cond.fieldLink RX9 19 "TwoLawsModel" "isGap" "[Z") ∈ wsX9_puts := by decide +kernel
set_option maxHeartbeats 4000000 in
set_option maxRecDepth 100000 in
theorem w_X9_puts_38 {p : Program} {l : Launch} {e : Env} {s : State} {m : MethodId} {args : Array Value} {below : List Frame} {meth : Method} {c : Code} {Q : State → Prop} {A : Nat → Prop} {D : va_G} {ky : Nat → ClassId} {aM mxs mus mys mgp mtp mme mle mlt mkl mln msz mit mmv : Nat} {mer : Int32} {mtd : Int32} {mat : Int32} {mwr : Int32} {mkn : Int32} {mmb : Int32} {mwa : Int32} {mra : Int32} {mbl : Int32} {mbh : Int32} {dtp : Nat → Int32} {dme : Nat → Int32} {dle : Nat → Int32} {dlt : Nat → Int32} {dkl : Nat → Int32} {dln : Nat → Int32} {dsz : Nat → Int32} {dit : Nat → Int32} {dmv : Nat → Int32} (N : Nat) (C : cx p s m c args D ky A cX9_puts 5 wsX9_puts RX9) (res : Int32 × (Nat → Int32) × (Nat → Int32) × (Nat → Int32) × (Nat → Int32)) (hQ : ∀ (pc : Nat) (H : Heap) (locs : List Loc) (ls : Array Slot), decode cX9_puts pc = .ok (.return_, 1) → va_P D vwCl (w_model ky aM mxs mus mys mgp mtp mme mle mlt mkl mln msz mit mmv res.1 mer mtd mat mwr mkn mmb mwa mra mbl mbh res.2.1 res.2.2.1 res.2.2.2.1 res.2.2.2.2 dtp dme dle dlt dkl dln dsz dit dmv) H → va_D A (w_model ky aM mxs mus mys mgp mtp mme mle mlt mkl mln msz mit mmv res.1 mer mtd mat mwr mkn mmb mwa mra mbl mbh res.2.1 res.2.2.1 res.2.2.2.1 res.2.2.2.2 dtp dme dle dlt dkl dln dsz dit dmv) → va_S A s.heap H locs → W p l e rm_X9_puts s m args below meth c H locs 0 0 Q (F0 m pc ls []))  (l4 : Int32) (t0 : Int32) (t1 : Int32) (mrm : Int32) (dxs : Nat → Int32) (dus : Nat → Int32) (dys : Nat → Int32) (dgp : Nat → Int32) (hF : f_X9_puts_38 N l4 t0 t1 mrm dxs dus dys dgp = some res) : ∀ (H : Heap) (locs : List Loc) (ls : Array Slot), va_P D vwCl (w_model ky aM mxs mus mys mgp mtp mme mle mlt mkl mln msz mit mmv mrm mer mtd mat mwr mkn mmb mwa mra mbl mbh dxs dus dys dgp dtp dme dle dlt dkl dln dsz dit dmv) H → va_D A (w_model ky aM mxs mus mys mgp mtp mme mle mlt mkl mln msz mit mmv mrm mer mtd mat mwr mkn mmb mwa mra mbl mbh dxs dus dys dgp dtp dme dle dlt dkl dln dsz dit dmv) → va_S A s.heap H locs → lv_has ls 5 [(0, .ref aM), (4, .int l4)] → W p l e rm_X9_puts s m args below meth c H locs 0 0 Q (F0 m 38 ls [.int t0, .int t1, .ref mys]) := by
  obtain ⟨hx, hb, hml, hown, hts, hK, hA⟩ := id C
  intro H locs ls hP hD hS hl
  unfold f_X9_puts_38 at hF
  obtain ⟨h4, hF⟩ := gi_s hF
  refine va_iast hx hb hK hP hD hS 3 0 rfl rfl h4 dX9_puts_38 (fun H locs hP hD hS => ?_)
  have hP : va_P D vwCl (w_model ky aM mxs mus mys mgp mtp mme mle mlt mkl mln msz mit mmv mrm mer mtd mat mwr mkn mmb mwa mra mbl mbh dxs dus (upd dys t1.toNatClampNeg t0) dgp dtp dme dle dlt dkl dln dsz dit dmv) H := hP
  have hD : va_D A (w_model ky aM mxs mus mys mgp mtp mme mle mlt mkl mln msz mit mmv mrm mer mtd mat mwr mkn mmb mwa mra mbl mbh dxs dus (upd dys t1.toNatClampNeg t0) dgp dtp dme dle dlt dkl dln dsz dit dmv) := hD
  refine lv_aload_n hx hb dX9_puts_39 rfl (lv_at hl 0 rfl) ?_
  refine va_get (D := D) (ci := 8) (v := .ref mgp) (C := RX9) (T := TX9) (N := 24) hx hb hts iX9_puts_X9 hown hK hP 0 rfl rfl 4 (by decide) (hts _ kX9_puts_5) (fun _ h9 => h9) rfl dX9_puts_40 ?_
  refine lv_aload_n hx hb dX9_puts_43 rfl (lv_at hl 0 rfl) ?_
  refine va_get (D := D) (ci := 8) (v := .int mrm) (C := RX9) (T := TX9) (N := 24) hx hb hts iX9_puts_X9 hown hK hP 0 rfl rfl 0 (by decide) (hts _ kX9_puts_2) (fun _ h9 => h9) rfl dX9_puts_44 ?_
  refine lv_iload hx hb dX9_puts_47 (lv_at hl 1 rfl) ?_
  obtain ⟨h5, hF⟩ := gi_s hF
  refine va_zast hx hb hK hP hD hS 4 2 rfl rfl h5 dX9_puts_49 (fun H locs hP hD hS => ?_)
  have hP : va_P D vwCl (w_model ky aM mxs mus mys mgp mtp mme mle mlt mkl mln msz mit mmv mrm mer mtd mat mwr mkn mmb mwa mra mbl mbh dxs dus (upd dys t1.toNatClampNeg t0) (upd dgp mrm.toNatClampNeg (vp_nar .boolean l4)) dtp dme dle dlt dkl dln dsz dit dmv) H := hP
  have hD : va_D A (w_model ky aM mxs mus mys mgp mtp mme mle mlt mkl mln msz mit mmv mrm mer mtd mat mwr mkn mmb mwa mra mbl mbh dxs dus (upd dys t1.toNatClampNeg t0) (upd dgp mrm.toNatClampNeg (vp_nar .boolean l4)) dtp dme dle dlt dkl dln dsz dit dmv) := hD
  refine lv_aload_n hx hb dX9_puts_50 rfl (lv_at hl 0 rfl) ?_
  refine lv_dup hx hb dX9_puts_51 rfl ?_
  refine va_get (D := D) (ci := 8) (v := .int mrm) (C := RX9) (T := TX9) (N := 24) hx hb hts iX9_puts_X9 hown hK hP 0 rfl rfl 0 (by decide) (hts _ kX9_puts_2) (fun _ h9 => h9) rfl dX9_puts_52 ?_
  refine lv_iconst (v := (1 : Int32)) hx hb dX9_puts_55 (by decide) ?_
  refine lv_iadd hx hb dX9_puts_56 ?_
  refine va_put (D := D) (ci := 8) (v := .int (mrm + (1 : Int32))) (ty := .int) (C := RX9) (T := TX9) (N := 24) hx hb hts iX9_puts_X9 tyX9 tyX9_ok nmX9 hown hK hP hD hS 0 rfl rfl 0 (by decide) (hts _ kX9_puts_2) (fun _ h9 => h9) rfl (by decide +kernel) rfl rfl (Nat.le_of_ble_eq_true rfl) dX9_puts_57 (fun H locs hP hD hS => ?_)
  have hP : va_P D vwCl (w_model ky aM mxs mus mys mgp mtp mme mle mlt mkl mln msz mit mmv (mrm + (1 : Int32)) mer mtd mat mwr mkn mmb mwa mra mbl mbh dxs dus (upd dys t1.toNatClampNeg t0) (upd dgp mrm.toNatClampNeg (vp_nar .boolean l4)) dtp dme dle dlt dkl dln dsz dit dmv) H := hP
  have hD : va_D A (w_model ky aM mxs mus mys mgp mtp mme mle mlt mkl mln msz mit mmv (mrm + (1 : Int32)) mer mtd mat mwr mkn mmb mwa mra mbl mbh dxs dus (upd dys t1.toNatClampNeg t0) (upd dgp mrm.toNatClampNeg (vp_nar .boolean l4)) dtp dme dle dlt dkl dln dsz dit dmv) := hD
  have hF := Option.some.inj hF
  subst hF
  exact hQ _ H _ _ dX9_puts_60 hP hD hS
set_option maxHeartbeats 4000000 in
set_option maxRecDepth 100000 in
theorem cr_X9_puts (l : Launch) (D : va_G) (ky : Nat → ClassId) (aM mxs mus mys mgp mtp mme mle mlt mkl mln msz mit mmv : Nat) (sz N : Nat)  (mrm : Int32) (mer : Int32) (mtd : Int32) (mat : Int32) (mwr : Int32) (mkn : Int32) (mmb : Int32) (mwa : Int32) (mra : Int32) (mbl : Int32) (mbh : Int32) (dxs : Nat → Int32) (dus : Nat → Int32) (dys : Nat → Int32) (dgp : Nat → Int32) (dtp : Nat → Int32) (dme : Nat → Int32) (dle : Nat → Int32) (dlt : Nat → Int32) (dkl : Nat → Int32) (dln : Nat → Int32) (dsz : Nat → Int32) (dit : Nat → Int32) (dmv : Nat → Int32) (p0 : Int32) (p1 : Int32) (p2 : Int32) (p3 : Int32) (res : Int32 × (Nat → Int32) × (Nat → Int32) × (Nat → Int32) × (Nat → Int32)) (hF : f_X9_puts N p0 p1 p2 p3 mrm dxs dus dys dgp = some res) : MV l yX9_puts wsX9_puts rm_X9_puts D ky sz [.ref aM, .int p0, .int p1, .int p2, .int p3] (w_model ky aM mxs mus mys mgp mtp mme mle mlt mkl mln msz mit mmv mrm mer mtd mat mwr mkn mmb mwa mra mbl mbh dxs dus dys dgp dtp dme dle dlt dkl dln dsz dit dmv) (w_model ky aM mxs mus mys mgp mtp mme mle mlt mkl mln msz mit mmv res.1 mer mtd mat mwr mkn mmb mwa mra mbl mbh res.2.1 res.2.2.1 res.2.2.2.1 res.2.2.2.2 dtp dme dle dlt dkl dln dsz dit dmv) := by
  unfold MV
  refine Met.ofW (cc := cX9_puts) (maxL := 5) (ret := none) (by decide) rfl ?_
  intro p e s m args below meth c s₁ B hml hv
  obtain ⟨rfl, hsz, hP, hK, hD0⟩ := hv
  have hx := B.exec
  have hb := B.bytes
  have hr := B.returns
  have hts := atoms_spec (ws := wsX9_puts) B.pre
  have hown : s.vm.findClass RX9 = some m.cls := findClass_of_methodNamed B.named
  have hlocks := B.notSynchronized
  subst hsz
  have hD := hD0.self (sz := s.heap.size)
  generalize hAe : va_A (w_model ky aM mxs mus mys mgp mtp mme mle mlt mkl mln msz mit mmv mrm mer mtd mat mwr mkn mmb mwa mra mbl mbh dxs dus dys dgp dtp dme dle dlt dkl dln dsz dit dmv) s.heap.size = A at hD ⊢
  have hA : ∀ q : Nat, s.heap.size ≤ q → A q := fun q h => by rw [← hAe]; exact Or.inr h
  have hS : va_S A s.heap s.heap [] := va_S.rf
  have hP : va_P D vwCl (w_model ky aM mxs mus mys mgp mtp mme mle mlt mkl mln msz mit mmv mrm mer mtd mat mwr mkn mmb mwa mra mbl mbh dxs dus dys dgp dtp dme dle dlt dkl dln dsz dit dmv) s.heap := hP
  have hl := lv_entry ([.ref aM, .int p0, .int p1, .int p2, .int p3]) (n := 5) (Nat.le_of_ble_eq_true rfl)
  rw [lg_entry_eq]
  generalize (lg_sl ([.ref aM, .int p0, .int p1, .int p2, .int p3]) ++ List.replicate (5 - (lg_sl ([.ref aM, .int p0, .int p1, .int p2, .int p3])).length) Slot.unset).toArray = ls at hl ⊢
  have hl : lv_has ls 5 [(0, .ref aM), (1, .int p0), (2, .int p1), (3, .int p2), (4, .int p3)] := hl
  have C : cx p s m c ([.ref aM, .int p0, .int p1, .int p2, .int p3]).toArray D ky A cX9_puts 5 wsX9_puts RX9 := ⟨hx, hb, hml, hown, hts, hK, hA⟩
  have hQ : ∀ (pc : Nat) (H : Heap) (locs : List Loc) (ls : Array Slot), decode cX9_puts pc = .ok (.return_, 1) → va_P D vwCl (w_model ky aM mxs mus mys mgp mtp mme mle mlt mkl mln msz mit mmv res.1 mer mtd mat mwr mkn mmb mwa mra mbl mbh res.2.1 res.2.2.1 res.2.2.2.1 res.2.2.2.2 dtp dme dle dlt dkl dln dsz dit dmv) H → va_D A (w_model ky aM mxs mus mys mgp mtp mme mle mlt mkl mln msz mit mmv res.1 mer mtd mat mwr mkn mmb mwa mra mbl mbh res.2.1 res.2.2.1 res.2.2.2.1 res.2.2.2.2 dtp dme dle dlt dkl dln dsz dit dmv) → va_S A s.heap H locs → W p l e rm_X9_puts s m ([.ref aM, .int p0, .int p1, .int p2, .int p3]).toArray below meth c H locs 0 0 (MQ below (va_Qv (S := Unit) (fun _ => True) (fun _ t => va_P D vwCl (w_model ky aM mxs mus mys mgp mtp mme mle mlt mkl mln msz mit mmv res.1 mer mtd mat mwr mkn mmb mwa mra mbl mbh res.2.1 res.2.2.1 res.2.2.2.1 res.2.2.2.2 dtp dme dle dlt dkl dln dsz dit dmv) t.heap ∧ va_K D vwCl (tyW ky) t ∧ va_D A (w_model ky aM mxs mus mys mgp mtp mme mle mlt mkl mln msz mit mmv res.1 mer mtd mat mwr mkn mmb mwa mra mbl mbh res.2.1 res.2.2.1 res.2.2.2.1 res.2.2.2.2 dtp dme dle dlt dkl dln dsz dit dmv)) A) ([.ref aM, .int p0, .int p1, .int p2, .int p3]).toArray s 0 0 A) (F0 m pc ls []) := fun pc H locs ls hd hP hD hS => W.vret hx hb hr (fun t ht hW => ⟨⟨(), rfl, trivial, by rw [ht]; exact hP, va_K.moved hW.alike hK, hD⟩, hS.F ht⟩) hS.2.2 hd
  unfold f_X9_puts at hF
  refine lv_aload_n hx hb dX9_puts_0 rfl (lv_at hl 0 rfl) ?_
  refine va_get (D := D) (ci := 8) (v := .ref mxs) (C := RX9) (T := TX9) (N := 24) hx hb hts iX9_puts_X9 hown hK hP 0 rfl rfl 1 (by decide) (hts _ kX9_puts_1) (fun _ h9 => h9) rfl dX9_puts_1 ?_
  refine lv_aload_n hx hb dX9_puts_4 rfl (lv_at hl 0 rfl) ?_
  refine va_get (D := D) (ci := 8) (v := .int mrm) (C := RX9) (T := TX9) (N := 24) hx hb hts iX9_puts_X9 hown hK hP 0 rfl rfl 0 (by decide) (hts _ kX9_puts_2) (fun _ h9 => h9) rfl dX9_puts_5 ?_
  refine lv_iload_n hx hb dX9_puts_8 rfl (lv_at hl 1 rfl) ?_
  obtain ⟨h1, hF⟩ := gi_s hF
  refine va_iast hx hb hK hP hD hS 1 0 rfl rfl h1 dX9_puts_9 (fun H locs hP hD hS => ?_)
  have hP : va_P D vwCl (w_model ky aM mxs mus mys mgp mtp mme mle mlt mkl mln msz mit mmv mrm mer mtd mat mwr mkn mmb mwa mra mbl mbh (upd dxs mrm.toNatClampNeg p0) dus dys dgp dtp dme dle dlt dkl dln dsz dit dmv) H := hP
  have hD : va_D A (w_model ky aM mxs mus mys mgp mtp mme mle mlt mkl mln msz mit mmv mrm mer mtd mat mwr mkn mmb mwa mra mbl mbh (upd dxs mrm.toNatClampNeg p0) dus dys dgp dtp dme dle dlt dkl dln dsz dit dmv) := hD
  refine lv_aload_n hx hb dX9_puts_10 rfl (lv_at hl 0 rfl) ?_
  refine va_get (D := D) (ci := 8) (v := .ref mus) (C := RX9) (T := TX9) (N := 24) hx hb hts iX9_puts_X9 hown hK hP 0 rfl rfl 2 (by decide) (hts _ kX9_puts_3) (fun _ h9 => h9) rfl dX9_puts_11 ?_
  refine lv_aload_n hx hb dX9_puts_14 rfl (lv_at hl 0 rfl) ?_
  refine va_get (D := D) (ci := 8) (v := .int mrm) (C := RX9) (T := TX9) (N := 24) hx hb hts iX9_puts_X9 hown hK hP 0 rfl rfl 0 (by decide) (hts _ kX9_puts_2) (fun _ h9 => h9) rfl dX9_puts_15 ?_
  refine lv_iload_n hx hb dX9_puts_18 rfl (lv_at hl 2 rfl) ?_
  obtain ⟨h2, hF⟩ := gi_s hF
  refine va_iast hx hb hK hP hD hS 2 0 rfl rfl h2 dX9_puts_19 (fun H locs hP hD hS => ?_)
  have hP : va_P D vwCl (w_model ky aM mxs mus mys mgp mtp mme mle mlt mkl mln msz mit mmv mrm mer mtd mat mwr mkn mmb mwa mra mbl mbh (upd dxs mrm.toNatClampNeg p0) (upd dus mrm.toNatClampNeg p1) dys dgp dtp dme dle dlt dkl dln dsz dit dmv) H := hP
  have hD : va_D A (w_model ky aM mxs mus mys mgp mtp mme mle mlt mkl mln msz mit mmv mrm mer mtd mat mwr mkn mmb mwa mra mbl mbh (upd dxs mrm.toNatClampNeg p0) (upd dus mrm.toNatClampNeg p1) dys dgp dtp dme dle dlt dkl dln dsz dit dmv) := hD
  refine lv_aload_n hx hb dX9_puts_20 rfl (lv_at hl 0 rfl) ?_
  refine va_get (D := D) (ci := 8) (v := .ref mys) (C := RX9) (T := TX9) (N := 24) hx hb hts iX9_puts_X9 hown hK hP 0 rfl rfl 3 (by decide) (hts _ kX9_puts_4) (fun _ h9 => h9) rfl dX9_puts_21 ?_
  refine lv_aload_n hx hb dX9_puts_24 rfl (lv_at hl 0 rfl) ?_
  refine va_get (D := D) (ci := 8) (v := .int mrm) (C := RX9) (T := TX9) (N := 24) hx hb hts iX9_puts_X9 hown hK hP 0 rfl rfl 0 (by decide) (hts _ kX9_puts_2) (fun _ h9 => h9) rfl dX9_puts_25 ?_
  refine lv_iload hx hb dX9_puts_28 (lv_at hl 4 rfl) ?_
  refine lv_if_eq (tgt := 37) hx hb dX9_puts_30 (by decide) (fun c3 => ?_) (fun c3 => ?_)
  · have hF := if_t c3 hF
    refine lv_iload_n hx hb dX9_puts_37 rfl (lv_at hl 3 rfl) ?_
    exact w_X9_puts_38 N C res hQ p3 p2 mrm mrm (upd dxs mrm.toNatClampNeg p0) (upd dus mrm.toNatClampNeg p1) dys dgp hF _ _ _ hP hD hS (lv_sub hl [0, 4] rfl)
  · have hF := if_f c3 hF
    refine lv_iconst (v := (0 : Int32)) hx hb dX9_puts_33 (by decide) ?_
    refine lv_goto (tgt := 38) hx hb dX9_puts_34 (by decide) ?_
    exact w_X9_puts_38 N C res hQ p3 (0 : Int32) mrm mrm (upd dxs mrm.toNatClampNeg p0) (upd dus mrm.toNatClampNeg p1) dys dgp hF _ _ _ hP hD hS (lv_sub hl [0, 4] rfl)
theorem c_X9_puts (l : Launch) (D : va_G) (ky : Nat → ClassId) (aM mxs mus mys mgp mtp mme mle mlt mkl mln msz mit mmv : Nat) (sz N : Nat)  (mrm : Int32) (mer : Int32) (mtd : Int32) (mat : Int32) (mwr : Int32) (mkn : Int32) (mmb : Int32) (mwa : Int32) (mra : Int32) (mbl : Int32) (mbh : Int32) (dxs : Nat → Int32) (dus : Nat → Int32) (dys : Nat → Int32) (dgp : Nat → Int32) (dtp : Nat → Int32) (dme : Nat → Int32) (dle : Nat → Int32) (dlt : Nat → Int32) (dkl : Nat → Int32) (dln : Nat → Int32) (dsz : Nat → Int32) (dit : Nat → Int32) (dmv : Nat → Int32) (p0 : Int32) (p1 : Int32) (p2 : Int32) (p3 : Int32) (mrm' : Int32) (dxs' : Nat → Int32) (dus' : Nat → Int32) (dys' : Nat → Int32) (dgp' : Nat → Int32) (hF : f_X9_puts N p0 p1 p2 p3 mrm dxs dus dys dgp = some (mrm', dxs', dus', dys', dgp')) : MV l yX9_puts wsX9_puts rm_X9_puts D ky sz [.ref aM, .int p0, .int p1, .int p2, .int p3] (w_model ky aM mxs mus mys mgp mtp mme mle mlt mkl mln msz mit mmv mrm mer mtd mat mwr mkn mmb mwa mra mbl mbh dxs dus dys dgp dtp dme dle dlt dkl dln dsz dit dmv) (w_model ky aM mxs mus mys mgp mtp mme mle mlt mkl mln msz mit mmv mrm' mer mtd mat mwr mkn mmb mwa mra mbl mbh dxs' dus' dys' dgp' dtp dme dle dlt dkl dln dsz dit dmv) :=
  cr_X9_puts l D ky aM mxs mus mys mgp mtp mme mle mlt mkl mln msz mit mmv sz N mrm mer mtd mat mwr mkn mmb mwa mra mbl mbh dxs dus dys dgp dtp dme dle dlt dkl dln dsz dit dmv p0 p1 p2 p3 (mrm', dxs', dus', dys', dgp') hF
abbrev rm_X9_row : Room := { frames := 2, cells := 0, slots := 0, locals := 45 }
theorem iX9_row_X9 : ∀ w ∈ wsX90, w ∈ wsX9_row := by decide +kernel
theorem kX9_row_1 : (Cond.fieldLink RX9 62 "TwoLawsModel" "rowMany" "I") ∈ wsX9_row := by decide +kernel
set_option maxHeartbeats 4000000 in
set_option maxRecDepth 100000 in
theorem cr_X9_row (l : Launch) (D : va_G) (ky : Nat → ClassId) (aM mxs mus mys mgp mtp mme mle mlt mkl mln msz mit mmv : Nat) (sz N : Nat)  (mrm : Int32) (mer : Int32) (mtd : Int32) (mat : Int32) (mwr : Int32) (mkn : Int32) (mmb : Int32) (mwa : Int32) (mra : Int32) (mbl : Int32) (mbh : Int32) (dxs : Nat → Int32) (dus : Nat → Int32) (dys : Nat → Int32) (dgp : Nat → Int32) (dtp : Nat → Int32) (dme : Nat → Int32) (dle : Nat → Int32) (dlt : Nat → Int32) (dkl : Nat → Int32) (dln : Nat → Int32) (dsz : Nat → Int32) (dit : Nat → Int32) (dmv : Nat → Int32) (p0 : Int32) (p1 : Int32) (p2 : Int32) (res : Int32 × Int32 × (Nat → Int32) × (Nat → Int32) × (Nat → Int32) × (Nat → Int32)) (hF : f_X9_row N p0 p1 p2 mrm dxs dus dys dgp = some res) : MI l yX9_row wsX9_row rm_X9_row D ky sz [.ref aM, .int p0, .int p1, .int p2] (w_model ky aM mxs mus mys mgp mtp mme mle mlt mkl mln msz mit mmv mrm mer mtd mat mwr mkn mmb mwa mra mbl mbh dxs dus dys dgp dtp dme dle dlt dkl dln dsz dit dmv) (w_model ky aM mxs mus mys mgp mtp mme mle mlt mkl mln msz mit mmv res.2.1 mer mtd mat mwr mkn mmb mwa mra mbl mbh res.2.2.1 res.2.2.2.1 res.2.2.2.2.1 res.2.2.2.2.2 dtp dme dle dlt dkl dln dsz dit dmv) res.1 := by
  unfold MI
  refine Met.ofW (cc := cX9_row) (maxL := 4) (ret := (some .int)) (by decide) rfl ?_
  intro p e s m args below meth c s₁ B hml hv
  obtain ⟨rfl, hsz, hP, hK, hD0⟩ := hv
  have hx := B.exec
  have hb := B.bytes
  have hr := B.returns
  have hts := atoms_spec (ws := wsX9_row) B.pre
  have hown : s.vm.findClass RX9 = some m.cls := findClass_of_methodNamed B.named
  have hlocks := B.notSynchronized
  subst hsz
  have hD := hD0.self (sz := s.heap.size)
  generalize hAe : va_A (w_model ky aM mxs mus mys mgp mtp mme mle mlt mkl mln msz mit mmv mrm mer mtd mat mwr mkn mmb mwa mra mbl mbh dxs dus dys dgp dtp dme dle dlt dkl dln dsz dit dmv) s.heap.size = A at hD ⊢
  have hA : ∀ q : Nat, s.heap.size ≤ q → A q := fun q h => by rw [← hAe]; exact Or.inr h
  have hS : va_S A s.heap s.heap [] := va_S.rf
  have hP : va_P D vwCl (w_model ky aM mxs mus mys mgp mtp mme mle mlt mkl mln msz mit mmv mrm mer mtd mat mwr mkn mmb mwa mra mbl mbh dxs dus dys dgp dtp dme dle dlt dkl dln dsz dit dmv) s.heap := hP
  have hl := lv_entry ([.ref aM, .int p0, .int p1, .int p2]) (n := 4) (Nat.le_of_ble_eq_true rfl)
  rw [lg_entry_eq]
  generalize (lg_sl ([.ref aM, .int p0, .int p1, .int p2]) ++ List.replicate (4 - (lg_sl ([.ref aM, .int p0, .int p1, .int p2])).length) Slot.unset).toArray = ls at hl ⊢
  have hl : lv_has ls 4 [(0, .ref aM), (1, .int p0), (2, .int p1), (3, .int p2)] := hl
  have C : cx p s m c ([.ref aM, .int p0, .int p1, .int p2]).toArray D ky A cX9_row 4 wsX9_row RX9 := ⟨hx, hb, hml, hown, hts, hK, hA⟩
  have hQ : ∀ (pc : Nat) (H : Heap) (locs : List Loc) (ls : Array Slot), decode cX9_row pc = .ok (.ireturn, 1) → va_P D vwCl (w_model ky aM mxs mus mys mgp mtp mme mle mlt mkl mln msz mit mmv res.2.1 mer mtd mat mwr mkn mmb mwa mra mbl mbh res.2.2.1 res.2.2.2.1 res.2.2.2.2.1 res.2.2.2.2.2 dtp dme dle dlt dkl dln dsz dit dmv) H → va_D A (w_model ky aM mxs mus mys mgp mtp mme mle mlt mkl mln msz mit mmv res.2.1 mer mtd mat mwr mkn mmb mwa mra mbl mbh res.2.2.1 res.2.2.2.1 res.2.2.2.2.1 res.2.2.2.2.2 dtp dme dle dlt dkl dln dsz dit dmv) → va_S A s.heap H locs → W p l e rm_X9_row s m ([.ref aM, .int p0, .int p1, .int p2]).toArray below meth c H locs 0 0 (MQ below (va_Qi (S := Unit) (fun r _ => r = res.1) (fun _ t => va_P D vwCl (w_model ky aM mxs mus mys mgp mtp mme mle mlt mkl mln msz mit mmv res.2.1 mer mtd mat mwr mkn mmb mwa mra mbl mbh res.2.2.1 res.2.2.2.1 res.2.2.2.2.1 res.2.2.2.2.2 dtp dme dle dlt dkl dln dsz dit dmv) t.heap ∧ va_K D vwCl (tyW ky) t ∧ va_D A (w_model ky aM mxs mus mys mgp mtp mme mle mlt mkl mln msz mit mmv res.2.1 mer mtd mat mwr mkn mmb mwa mra mbl mbh res.2.2.1 res.2.2.2.1 res.2.2.2.2.1 res.2.2.2.2.2 dtp dme dle dlt dkl dln dsz dit dmv)) A) ([.ref aM, .int p0, .int p1, .int p2]).toArray s 0 0 A) (F0 m pc ls [.int res.1]) := fun pc H locs ls hd hP hD hS => W.iret hx hb hr (fun t ht hW => ⟨⟨res.1, (), rfl, rfl, by rw [ht]; exact hP, va_K.moved hW.alike hK, hD⟩, hS.F ht⟩) hS.2.2 hd
  unfold f_X9_row at hF
  refine lv_iload_n hx hb dX9_row_0 rfl (lv_at hl 1 rfl) ?_
  obtain ⟨r2, h1, hF⟩ := b1_s hF
  refine cl_si (As := [.int p0]) (rest := []) ⟨hx, hb, hml, hown, hts⟩ hK hP hD hS hA (c_X9_isSmall l D ky  _ N   p0 r2 h1) (va_cwS 1 hts gX9_row_X9_isSmall rfl rfl rfl (by decide +kernel) ⟨Nat.le_of_ble_eq_true rfl, Nat.le_of_ble_eq_true rfl⟩) rfl hl.1 (Nat.le_of_ble_eq_true rfl) dX9_row_1 ⟨Nat.zero_le _, Nat.zero_le _⟩ (fun H locs hP hD hS => ?_)
  refine lv_if_eq (tgt := 21) hx hb dX9_row_4 (by decide) (fun c3 => ?_) (fun c3 => ?_)
  · have hF := if_t c3 hF
    refine lv_iconst (v := (-1 : Int32)) hx hb dX9_row_21 (by decide) ?_
    have hF := Option.some.inj hF
    subst hF
    exact hQ _ _ _ _ dX9_row_22 hP hD hS
  · have hF := if_f c3 hF
    refine lv_iload_n hx hb dX9_row_7 rfl (lv_at hl 2 rfl) ?_
    obtain ⟨r5, h4, hF⟩ := b1_s hF
    refine cl_si (As := [.int p1]) (rest := []) ⟨hx, hb, hml, hown, hts⟩ hK hP hD hS hA (c_X9_isSmall l D ky  _ N   p1 r5 h4) (va_cwS 1 hts gX9_row_X9_isSmall rfl rfl rfl (by decide +kernel) ⟨Nat.le_of_ble_eq_true rfl, Nat.le_of_ble_eq_true rfl⟩) rfl hl.1 (Nat.le_of_ble_eq_true rfl) dX9_row_8 ⟨Nat.zero_le _, Nat.zero_le _⟩ (fun H locs hP hD hS => ?_)
    refine lv_if_eq (tgt := 21) hx hb dX9_row_11 (by decide) (fun c6 => ?_) (fun c6 => ?_)
    · have hF := if_t c6 hF
      refine lv_iconst (v := (-1 : Int32)) hx hb dX9_row_21 (by decide) ?_
      have hF := Option.some.inj hF
      subst hF
      exact hQ _ _ _ _ dX9_row_22 hP hD hS
    · have hF := if_f c6 hF
      refine lv_iload_n hx hb dX9_row_14 rfl (lv_at hl 3 rfl) ?_
      obtain ⟨r8, h7, hF⟩ := b1_s hF
      refine cl_si (As := [.int p2]) (rest := []) ⟨hx, hb, hml, hown, hts⟩ hK hP hD hS hA (c_X9_isSmall l D ky  _ N   p2 r8 h7) (va_cwS 1 hts gX9_row_X9_isSmall rfl rfl rfl (by decide +kernel) ⟨Nat.le_of_ble_eq_true rfl, Nat.le_of_ble_eq_true rfl⟩) rfl hl.1 (Nat.le_of_ble_eq_true rfl) dX9_row_15 ⟨Nat.zero_le _, Nat.zero_le _⟩ (fun H locs hP hD hS => ?_)
      refine lv_if_ne (tgt := 23) hx hb dX9_row_18 (by decide) (fun c9 => ?_) (fun c9 => ?_)
      · have hF := if_f c9 hF
        refine lv_aload_n hx hb dX9_row_23 rfl (lv_at hl 0 rfl) ?_
        refine va_get (D := D) (ci := 8) (v := .int mrm) (C := RX9) (T := TX9) (N := 24) hx hb hts iX9_row_X9 hown hK hP 0 rfl rfl 0 (by decide) (hts _ kX9_row_1) (fun _ h9 => h9) rfl dX9_row_24 ?_
        refine lv_bipush (v := (12 : Int32)) hx hb dX9_row_27 (by decide) ?_
        refine lv_icmp_ne (tgt := 35) hx hb dX9_row_29 (by decide) (fun c10 => ?_) (fun c10 => ?_)
        · have hF := if_f c10 hF
          refine lv_aload_n hx hb dX9_row_35 rfl (lv_at hl 0 rfl) ?_
          refine lv_iload_n hx hb dX9_row_36 rfl (lv_at hl 1 rfl) ?_
          refine lv_iload_n hx hb dX9_row_37 rfl (lv_at hl 2 rfl) ?_
          refine lv_iload_n hx hb dX9_row_38 rfl (lv_at hl 3 rfl) ?_
          refine lv_iconst (v := (0 : Int32)) hx hb dX9_row_39 (by decide) ?_
          obtain ⟨v12, v13, v14, v15, v16, h11, hF⟩ := b5_s hF
          refine cl_vv (As := [.int p0, .int p1, .int p2, .int (0 : Int32)]) (rest := []) (w' := (w_model ky aM mxs mus mys mgp mtp mme mle mlt mkl mln msz mit mmv v12 mer mtd mat mwr mkn mmb mwa mra mbl mbh v13 v14 v15 v16 dtp dme dle dlt dkl dln dsz dit dmv)) ⟨hx, hb, hml, hown, hts⟩ hK hP hD hS hA (c_X9_puts l D ky aM mxs mus mys mgp mtp mme mle mlt mkl mln msz mit mmv _ N  mrm mer mtd mat mwr mkn mmb mwa mra mbl mbh dxs dus dys dgp dtp dme dle dlt dkl dln dsz dit dmv p0 p1 p2 (0 : Int32) v12 v13 v14 v15 v16 h11) (cwV 4 hts gX9_row_X9_puts rfl rfl rfl (by decide +kernel) ⟨Nat.le_of_ble_eq_true rfl, Nat.le_of_ble_eq_true rfl⟩) [0, 1, 2, 3, 4, 5, 6, 7, 8, 9, 10, 11, 12, 13] [] [0, 1, 2, 3, 4, 5, 6, 7, 8, 9, 10, 11, 12, 13] 0 8 rfl rfl rfl rfl (wr := []) rfl (by decide) rfl rfl hl.1 (Nat.le_of_ble_eq_true rfl) dX9_row_40 ⟨Nat.zero_le _, Nat.zero_le _⟩ (fun H locs hP hD hS => ?_)
          refine lv_aload_n hx hb dX9_row_43 rfl (lv_at hl 0 rfl) ?_
          refine va_get (D := D) (ci := 8) (v := .int v12) (C := RX9) (T := TX9) (N := 24) hx hb hts iX9_row_X9 hown hK hP 0 rfl rfl 0 (by decide) (hts _ kX9_row_1) (fun _ h9 => h9) rfl dX9_row_44 ?_
          refine lv_iconst (v := (1 : Int32)) hx hb dX9_row_47 (by decide) ?_
          refine lv_isub hx hb dX9_row_48 ?_
          have hF := Option.some.inj hF
          subst hF
          exact hQ _ _ _ _ dX9_row_49 hP hD hS
        · have hF := if_t c10 hF
          refine lv_bipush (v := (-3 : Int32)) hx hb dX9_row_32 (by decide) ?_
          have hF := Option.some.inj hF
          subst hF
          exact hQ _ _ _ _ dX9_row_34 hP hD hS
      · have hF := if_t c9 hF
        refine lv_iconst (v := (-1 : Int32)) hx hb dX9_row_21 (by decide) ?_
        have hF := Option.some.inj hF
        subst hF
        exact hQ _ _ _ _ dX9_row_22 hP hD hS
theorem c_X9_row (l : Launch) (D : va_G) (ky : Nat → ClassId) (aM mxs mus mys mgp mtp mme mle mlt mkl mln msz mit mmv : Nat) (sz N : Nat)  (mrm : Int32) (mer : Int32) (mtd : Int32) (mat : Int32) (mwr : Int32) (mkn : Int32) (mmb : Int32) (mwa : Int32) (mra : Int32) (mbl : Int32) (mbh : Int32) (dxs : Nat → Int32) (dus : Nat → Int32) (dys : Nat → Int32) (dgp : Nat → Int32) (dtp : Nat → Int32) (dme : Nat → Int32) (dle : Nat → Int32) (dlt : Nat → Int32) (dkl : Nat → Int32) (dln : Nat → Int32) (dsz : Nat → Int32) (dit : Nat → Int32) (dmv : Nat → Int32) (p0 : Int32) (p1 : Int32) (p2 : Int32) (rv : Int32) (mrm' : Int32) (dxs' : Nat → Int32) (dus' : Nat → Int32) (dys' : Nat → Int32) (dgp' : Nat → Int32) (hF : f_X9_row N p0 p1 p2 mrm dxs dus dys dgp = some (rv, mrm', dxs', dus', dys', dgp')) : MI l yX9_row wsX9_row rm_X9_row D ky sz [.ref aM, .int p0, .int p1, .int p2] (w_model ky aM mxs mus mys mgp mtp mme mle mlt mkl mln msz mit mmv mrm mer mtd mat mwr mkn mmb mwa mra mbl mbh dxs dus dys dgp dtp dme dle dlt dkl dln dsz dit dmv) (w_model ky aM mxs mus mys mgp mtp mme mle mlt mkl mln msz mit mmv mrm' mer mtd mat mwr mkn mmb mwa mra mbl mbh dxs' dus' dys' dgp' dtp dme dle dlt dkl dln dsz dit dmv) rv :=
  cr_X9_row l D ky aM mxs mus mys mgp mtp mme mle mlt mkl mln msz mit mmv sz N mrm mer mtd mat mwr mkn mmb mwa mra mbl mbh dxs dus dys dgp dtp dme dle dlt dkl dln dsz dit dmv p0 p1 p2 (rv, mrm', dxs', dus', dys', dgp') hF
abbrev rm_X9_gap : Room := { frames := 2, cells := 0, slots := 0, locals := 45 }
theorem iX9_gap_X9 : ∀ w ∈ wsX90, w ∈ wsX9_gap := by decide +kernel
theorem kX9_gap_1 : (Cond.fieldLink RX9 62 "TwoLawsModel" "rowMany" "I") ∈ wsX9_gap := by decide +kernel
set_option maxHeartbeats 4000000 in
set_option maxRecDepth 100000 in
theorem cr_X9_gap (l : Launch) (D : va_G) (ky : Nat → ClassId) (aM mxs mus mys mgp mtp mme mle mlt mkl mln msz mit mmv : Nat) (sz N : Nat)  (mrm : Int32) (mer : Int32) (mtd : Int32) (mat : Int32) (mwr : Int32) (mkn : Int32) (mmb : Int32) (mwa : Int32) (mra : Int32) (mbl : Int32) (mbh : Int32) (dxs : Nat → Int32) (dus : Nat → Int32) (dys : Nat → Int32) (dgp : Nat → Int32) (dtp : Nat → Int32) (dme : Nat → Int32) (dle : Nat → Int32) (dlt : Nat → Int32) (dkl : Nat → Int32) (dln : Nat → Int32) (dsz : Nat → Int32) (dit : Nat → Int32) (dmv : Nat → Int32) (p0 : Int32) (p1 : Int32) (res : Int32 × Int32 × (Nat → Int32) × (Nat → Int32) × (Nat → Int32) × (Nat → Int32)) (hF : f_X9_gap N p0 p1 mrm dxs dus dys dgp = some res) : MI l yX9_gap wsX9_gap rm_X9_gap D ky sz [.ref aM, .int p0, .int p1] (w_model ky aM mxs mus mys mgp mtp mme mle mlt mkl mln msz mit mmv mrm mer mtd mat mwr mkn mmb mwa mra mbl mbh dxs dus dys dgp dtp dme dle dlt dkl dln dsz dit dmv) (w_model ky aM mxs mus mys mgp mtp mme mle mlt mkl mln msz mit mmv res.2.1 mer mtd mat mwr mkn mmb mwa mra mbl mbh res.2.2.1 res.2.2.2.1 res.2.2.2.2.1 res.2.2.2.2.2 dtp dme dle dlt dkl dln dsz dit dmv) res.1 := by
  unfold MI
  refine Met.ofW (cc := cX9_gap) (maxL := 3) (ret := (some .int)) (by decide) rfl ?_
  intro p e s m args below meth c s₁ B hml hv
  obtain ⟨rfl, hsz, hP, hK, hD0⟩ := hv
  have hx := B.exec
  have hb := B.bytes
  have hr := B.returns
  have hts := atoms_spec (ws := wsX9_gap) B.pre
  have hown : s.vm.findClass RX9 = some m.cls := findClass_of_methodNamed B.named
  have hlocks := B.notSynchronized
  subst hsz
  have hD := hD0.self (sz := s.heap.size)
  generalize hAe : va_A (w_model ky aM mxs mus mys mgp mtp mme mle mlt mkl mln msz mit mmv mrm mer mtd mat mwr mkn mmb mwa mra mbl mbh dxs dus dys dgp dtp dme dle dlt dkl dln dsz dit dmv) s.heap.size = A at hD ⊢
  have hA : ∀ q : Nat, s.heap.size ≤ q → A q := fun q h => by rw [← hAe]; exact Or.inr h
  have hS : va_S A s.heap s.heap [] := va_S.rf
  have hP : va_P D vwCl (w_model ky aM mxs mus mys mgp mtp mme mle mlt mkl mln msz mit mmv mrm mer mtd mat mwr mkn mmb mwa mra mbl mbh dxs dus dys dgp dtp dme dle dlt dkl dln dsz dit dmv) s.heap := hP
  have hl := lv_entry ([.ref aM, .int p0, .int p1]) (n := 3) (Nat.le_of_ble_eq_true rfl)
  rw [lg_entry_eq]
  generalize (lg_sl ([.ref aM, .int p0, .int p1]) ++ List.replicate (3 - (lg_sl ([.ref aM, .int p0, .int p1])).length) Slot.unset).toArray = ls at hl ⊢
  have hl : lv_has ls 3 [(0, .ref aM), (1, .int p0), (2, .int p1)] := hl
  have C : cx p s m c ([.ref aM, .int p0, .int p1]).toArray D ky A cX9_gap 3 wsX9_gap RX9 := ⟨hx, hb, hml, hown, hts, hK, hA⟩
  have hQ : ∀ (pc : Nat) (H : Heap) (locs : List Loc) (ls : Array Slot), decode cX9_gap pc = .ok (.ireturn, 1) → va_P D vwCl (w_model ky aM mxs mus mys mgp mtp mme mle mlt mkl mln msz mit mmv res.2.1 mer mtd mat mwr mkn mmb mwa mra mbl mbh res.2.2.1 res.2.2.2.1 res.2.2.2.2.1 res.2.2.2.2.2 dtp dme dle dlt dkl dln dsz dit dmv) H → va_D A (w_model ky aM mxs mus mys mgp mtp mme mle mlt mkl mln msz mit mmv res.2.1 mer mtd mat mwr mkn mmb mwa mra mbl mbh res.2.2.1 res.2.2.2.1 res.2.2.2.2.1 res.2.2.2.2.2 dtp dme dle dlt dkl dln dsz dit dmv) → va_S A s.heap H locs → W p l e rm_X9_gap s m ([.ref aM, .int p0, .int p1]).toArray below meth c H locs 0 0 (MQ below (va_Qi (S := Unit) (fun r _ => r = res.1) (fun _ t => va_P D vwCl (w_model ky aM mxs mus mys mgp mtp mme mle mlt mkl mln msz mit mmv res.2.1 mer mtd mat mwr mkn mmb mwa mra mbl mbh res.2.2.1 res.2.2.2.1 res.2.2.2.2.1 res.2.2.2.2.2 dtp dme dle dlt dkl dln dsz dit dmv) t.heap ∧ va_K D vwCl (tyW ky) t ∧ va_D A (w_model ky aM mxs mus mys mgp mtp mme mle mlt mkl mln msz mit mmv res.2.1 mer mtd mat mwr mkn mmb mwa mra mbl mbh res.2.2.1 res.2.2.2.1 res.2.2.2.2.1 res.2.2.2.2.2 dtp dme dle dlt dkl dln dsz dit dmv)) A) ([.ref aM, .int p0, .int p1]).toArray s 0 0 A) (F0 m pc ls [.int res.1]) := fun pc H locs ls hd hP hD hS => W.iret hx hb hr (fun t ht hW => ⟨⟨res.1, (), rfl, rfl, by rw [ht]; exact hP, va_K.moved hW.alike hK, hD⟩, hS.F ht⟩) hS.2.2 hd
  unfold f_X9_gap at hF
  refine lv_iload_n hx hb dX9_gap_0 rfl (lv_at hl 1 rfl) ?_
  obtain ⟨r2, h1, hF⟩ := b1_s hF
  refine cl_si (As := [.int p0]) (rest := []) ⟨hx, hb, hml, hown, hts⟩ hK hP hD hS hA (c_X9_isSmall l D ky  _ N   p0 r2 h1) (va_cwS 1 hts gX9_gap_X9_isSmall rfl rfl rfl (by decide +kernel) ⟨Nat.le_of_ble_eq_true rfl, Nat.le_of_ble_eq_true rfl⟩) rfl hl.1 (Nat.le_of_ble_eq_true rfl) dX9_gap_1 ⟨Nat.zero_le _, Nat.zero_le _⟩ (fun H locs hP hD hS => ?_)
  refine lv_if_eq (tgt := 14) hx hb dX9_gap_4 (by decide) (fun c3 => ?_) (fun c3 => ?_)
  · have hF := if_t c3 hF
    refine lv_iconst (v := (-1 : Int32)) hx hb dX9_gap_14 (by decide) ?_
    have hF := Option.some.inj hF
    subst hF
    exact hQ _ _ _ _ dX9_gap_15 hP hD hS
  · have hF := if_f c3 hF
    refine lv_iload_n hx hb dX9_gap_7 rfl (lv_at hl 2 rfl) ?_
    obtain ⟨r5, h4, hF⟩ := b1_s hF
    refine cl_si (As := [.int p1]) (rest := []) ⟨hx, hb, hml, hown, hts⟩ hK hP hD hS hA (c_X9_isSmall l D ky  _ N   p1 r5 h4) (va_cwS 1 hts gX9_gap_X9_isSmall rfl rfl rfl (by decide +kernel) ⟨Nat.le_of_ble_eq_true rfl, Nat.le_of_ble_eq_true rfl⟩) rfl hl.1 (Nat.le_of_ble_eq_true rfl) dX9_gap_8 ⟨Nat.zero_le _, Nat.zero_le _⟩ (fun H locs hP hD hS => ?_)
    refine lv_if_ne (tgt := 16) hx hb dX9_gap_11 (by decide) (fun c6 => ?_) (fun c6 => ?_)
    · have hF := if_f c6 hF
      refine lv_aload_n hx hb dX9_gap_16 rfl (lv_at hl 0 rfl) ?_
      refine va_get (D := D) (ci := 8) (v := .int mrm) (C := RX9) (T := TX9) (N := 24) hx hb hts iX9_gap_X9 hown hK hP 0 rfl rfl 0 (by decide) (hts _ kX9_gap_1) (fun _ h9 => h9) rfl dX9_gap_17 ?_
      refine lv_bipush (v := (12 : Int32)) hx hb dX9_gap_20 (by decide) ?_
      refine lv_icmp_ne (tgt := 28) hx hb dX9_gap_22 (by decide) (fun c7 => ?_) (fun c7 => ?_)
      · have hF := if_f c7 hF
        refine lv_aload_n hx hb dX9_gap_28 rfl (lv_at hl 0 rfl) ?_
        refine lv_iload_n hx hb dX9_gap_29 rfl (lv_at hl 1 rfl) ?_
        refine lv_iload_n hx hb dX9_gap_30 rfl (lv_at hl 2 rfl) ?_
        refine lv_iconst (v := (0 : Int32)) hx hb dX9_gap_31 (by decide) ?_
        refine lv_iconst (v := (1 : Int32)) hx hb dX9_gap_32 (by decide) ?_
        obtain ⟨v9, v10, v11, v12, v13, h8, hF⟩ := b5_s hF
        refine cl_vv (As := [.int p0, .int p1, .int (0 : Int32), .int (1 : Int32)]) (rest := []) (w' := (w_model ky aM mxs mus mys mgp mtp mme mle mlt mkl mln msz mit mmv v9 mer mtd mat mwr mkn mmb mwa mra mbl mbh v10 v11 v12 v13 dtp dme dle dlt dkl dln dsz dit dmv)) ⟨hx, hb, hml, hown, hts⟩ hK hP hD hS hA (c_X9_puts l D ky aM mxs mus mys mgp mtp mme mle mlt mkl mln msz mit mmv _ N  mrm mer mtd mat mwr mkn mmb mwa mra mbl mbh dxs dus dys dgp dtp dme dle dlt dkl dln dsz dit dmv p0 p1 (0 : Int32) (1 : Int32) v9 v10 v11 v12 v13 h8) (cwV 4 hts gX9_gap_X9_puts rfl rfl rfl (by decide +kernel) ⟨Nat.le_of_ble_eq_true rfl, Nat.le_of_ble_eq_true rfl⟩) [0, 1, 2, 3, 4, 5, 6, 7, 8, 9, 10, 11, 12, 13] [] [0, 1, 2, 3, 4, 5, 6, 7, 8, 9, 10, 11, 12, 13] 0 8 rfl rfl rfl rfl (wr := []) rfl (by decide) rfl rfl hl.1 (Nat.le_of_ble_eq_true rfl) dX9_gap_33 ⟨Nat.zero_le _, Nat.zero_le _⟩ (fun H locs hP hD hS => ?_)
        refine lv_aload_n hx hb dX9_gap_36 rfl (lv_at hl 0 rfl) ?_
        refine va_get (D := D) (ci := 8) (v := .int v9) (C := RX9) (T := TX9) (N := 24) hx hb hts iX9_gap_X9 hown hK hP 0 rfl rfl 0 (by decide) (hts _ kX9_gap_1) (fun _ h9 => h9) rfl dX9_gap_37 ?_
        refine lv_iconst (v := (1 : Int32)) hx hb dX9_gap_40 (by decide) ?_
        refine lv_isub hx hb dX9_gap_41 ?_
        have hF := Option.some.inj hF
        subst hF
        exact hQ _ _ _ _ dX9_gap_42 hP hD hS
      · have hF := if_t c7 hF
        refine lv_bipush (v := (-3 : Int32)) hx hb dX9_gap_25 (by decide) ?_
        have hF := Option.some.inj hF
        subst hF
        exact hQ _ _ _ _ dX9_gap_27 hP hD hS
    · have hF := if_t c6 hF
      refine lv_iconst (v := (-1 : Int32)) hx hb dX9_gap_14 (by decide) ?_
      have hF := Option.some.inj hF
      subst hF
      exact hQ _ _ _ _ dX9_gap_15 hP hD hS
theorem c_X9_gap (l : Launch) (D : va_G) (ky : Nat → ClassId) (aM mxs mus mys mgp mtp mme mle mlt mkl mln msz mit mmv : Nat) (sz N : Nat)  (mrm : Int32) (mer : Int32) (mtd : Int32) (mat : Int32) (mwr : Int32) (mkn : Int32) (mmb : Int32) (mwa : Int32) (mra : Int32) (mbl : Int32) (mbh : Int32) (dxs : Nat → Int32) (dus : Nat → Int32) (dys : Nat → Int32) (dgp : Nat → Int32) (dtp : Nat → Int32) (dme : Nat → Int32) (dle : Nat → Int32) (dlt : Nat → Int32) (dkl : Nat → Int32) (dln : Nat → Int32) (dsz : Nat → Int32) (dit : Nat → Int32) (dmv : Nat → Int32) (p0 : Int32) (p1 : Int32) (rv : Int32) (mrm' : Int32) (dxs' : Nat → Int32) (dus' : Nat → Int32) (dys' : Nat → Int32) (dgp' : Nat → Int32) (hF : f_X9_gap N p0 p1 mrm dxs dus dys dgp = some (rv, mrm', dxs', dus', dys', dgp')) : MI l yX9_gap wsX9_gap rm_X9_gap D ky sz [.ref aM, .int p0, .int p1] (w_model ky aM mxs mus mys mgp mtp mme mle mlt mkl mln msz mit mmv mrm mer mtd mat mwr mkn mmb mwa mra mbl mbh dxs dus dys dgp dtp dme dle dlt dkl dln dsz dit dmv) (w_model ky aM mxs mus mys mgp mtp mme mle mlt mkl mln msz mit mmv mrm' mer mtd mat mwr mkn mmb mwa mra mbl mbh dxs' dus' dys' dgp' dtp dme dle dlt dkl dln dsz dit dmv) rv :=
  cr_X9_gap l D ky aM mxs mus mys mgp mtp mme mle mlt mkl mln msz mit mmv sz N mrm mer mtd mat mwr mkn mmb mwa mra mbl mbh dxs dus dys dgp dtp dme dle dlt dkl dln dsz dit dmv p0 p1 (rv, mrm', dxs', dus', dys', dgp') hF
abbrev rm_X9_finds : Room := { frames := 0, cells := 0, slots := 0, locals := 0 }
theorem iX9_finds_X9 : ∀ w ∈ wsX90, w ∈ wsX9_finds := by decide +kernel
theorem kX9_finds_1 : (Cond.fieldLink RX9 42 "TwoLawsModel" "lanes" "[I") ∈ wsX9_finds := by decide +kernel
theorem kX9_finds_2 : (Cond.fieldLink RX9 45 "TwoLawsModel" "sizes" "[I") ∈ wsX9_finds := by decide +kernel
set_option maxHeartbeats 4000000 in
set_option maxRecDepth 100000 in
theorem cr_X9_finds (l : Launch) (D : va_G) (ky : Nat → ClassId) (aM mxs mus mys mgp mtp mme mle mlt mkl mln msz mit mmv : Nat) (sz N : Nat)  (mrm : Int32) (mer : Int32) (mtd : Int32) (mat : Int32) (mwr : Int32) (mkn : Int32) (mmb : Int32) (mwa : Int32) (mra : Int32) (mbl : Int32) (mbh : Int32) (dxs : Nat → Int32) (dus : Nat → Int32) (dys : Nat → Int32) (dgp : Nat → Int32) (dtp : Nat → Int32) (dme : Nat → Int32) (dle : Nat → Int32) (dlt : Nat → Int32) (dkl : Nat → Int32) (dln : Nat → Int32) (dsz : Nat → Int32) (dit : Nat → Int32) (dmv : Nat → Int32) (p0 : Int32) (p1 : Int32) (p2 : Int32) (p3 : Int32) (res : Int32) (hF : f_X9_finds N p0 p1 p2 p3 dln dsz = some res) : MI l yX9_finds wsX9_finds rm_X9_finds D ky sz [.ref aM, .int p0, .int p1, .int p2, .int p3] (w_model ky aM mxs mus mys mgp mtp mme mle mlt mkl mln msz mit mmv mrm mer mtd mat mwr mkn mmb mwa mra mbl mbh dxs dus dys dgp dtp dme dle dlt dkl dln dsz dit dmv) (w_model ky aM mxs mus mys mgp mtp mme mle mlt mkl mln msz mit mmv mrm mer mtd mat mwr mkn mmb mwa mra mbl mbh dxs dus dys dgp dtp dme dle dlt dkl dln dsz dit dmv) res := by
  unfold MI
  refine Met.ofW (cc := cX9_finds) (maxL := 5) (ret := (some .int)) (by decide) rfl ?_
  intro p e s m args below meth c s₁ B hml hv
  obtain ⟨rfl, hsz, hP, hK, hD0⟩ := hv
  have hx := B.exec
  have hb := B.bytes
  have hr := B.returns
  have hts := atoms_spec (ws := wsX9_finds) B.pre
  have hown : s.vm.findClass RX9 = some m.cls := findClass_of_methodNamed B.named
  have hlocks := B.notSynchronized
  subst hsz
  have hD := hD0.self (sz := s.heap.size)
  generalize hAe : va_A (w_model ky aM mxs mus mys mgp mtp mme mle mlt mkl mln msz mit mmv mrm mer mtd mat mwr mkn mmb mwa mra mbl mbh dxs dus dys dgp dtp dme dle dlt dkl dln dsz dit dmv) s.heap.size = A at hD ⊢
  have hA : ∀ q : Nat, s.heap.size ≤ q → A q := fun q h => by rw [← hAe]; exact Or.inr h
  have hS : va_S A s.heap s.heap [] := va_S.rf
  have hP : va_P D vwCl (w_model ky aM mxs mus mys mgp mtp mme mle mlt mkl mln msz mit mmv mrm mer mtd mat mwr mkn mmb mwa mra mbl mbh dxs dus dys dgp dtp dme dle dlt dkl dln dsz dit dmv) s.heap := hP
  have hl := lv_entry ([.ref aM, .int p0, .int p1, .int p2, .int p3]) (n := 5) (Nat.le_of_ble_eq_true rfl)
  rw [lg_entry_eq]
  generalize (lg_sl ([.ref aM, .int p0, .int p1, .int p2, .int p3]) ++ List.replicate (5 - (lg_sl ([.ref aM, .int p0, .int p1, .int p2, .int p3])).length) Slot.unset).toArray = ls at hl ⊢
  have hl : lv_has ls 5 [(0, .ref aM), (1, .int p0), (2, .int p1), (3, .int p2), (4, .int p3)] := hl
  have C : cx p s m c ([.ref aM, .int p0, .int p1, .int p2, .int p3]).toArray D ky A cX9_finds 5 wsX9_finds RX9 := ⟨hx, hb, hml, hown, hts, hK, hA⟩
  have hQ : ∀ (pc : Nat) (H : Heap) (locs : List Loc) (ls : Array Slot), decode cX9_finds pc = .ok (.ireturn, 1) → va_P D vwCl (w_model ky aM mxs mus mys mgp mtp mme mle mlt mkl mln msz mit mmv mrm mer mtd mat mwr mkn mmb mwa mra mbl mbh dxs dus dys dgp dtp dme dle dlt dkl dln dsz dit dmv) H → va_D A (w_model ky aM mxs mus mys mgp mtp mme mle mlt mkl mln msz mit mmv mrm mer mtd mat mwr mkn mmb mwa mra mbl mbh dxs dus dys dgp dtp dme dle dlt dkl dln dsz dit dmv) → va_S A s.heap H locs → W p l e rm_X9_finds s m ([.ref aM, .int p0, .int p1, .int p2, .int p3]).toArray below meth c H locs 0 0 (MQ below (va_Qi (S := Unit) (fun r _ => r = res) (fun _ t => va_P D vwCl (w_model ky aM mxs mus mys mgp mtp mme mle mlt mkl mln msz mit mmv mrm mer mtd mat mwr mkn mmb mwa mra mbl mbh dxs dus dys dgp dtp dme dle dlt dkl dln dsz dit dmv) t.heap ∧ va_K D vwCl (tyW ky) t ∧ va_D A (w_model ky aM mxs mus mys mgp mtp mme mle mlt mkl mln msz mit mmv mrm mer mtd mat mwr mkn mmb mwa mra mbl mbh dxs dus dys dgp dtp dme dle dlt dkl dln dsz dit dmv)) A) ([.ref aM, .int p0, .int p1, .int p2, .int p3]).toArray s 0 0 A) (F0 m pc ls [.int res]) := fun pc H locs ls hd hP hD hS => W.iret hx hb hr (fun t ht hW => ⟨⟨res, (), rfl, rfl, by rw [ht]; exact hP, va_K.moved hW.alike hK, hD⟩, hS.F ht⟩) hS.2.2 hd
  unfold f_X9_finds at hF
  refine lv_aload_n hx hb dX9_finds_0 rfl (lv_at hl 0 rfl) ?_
  refine va_get (D := D) (ci := 8) (v := .ref mln) (C := RX9) (T := TX9) (N := 24) hx hb hts iX9_finds_X9 hown hK hP 0 rfl rfl 20 (by decide) (hts _ kX9_finds_1) (fun _ h9 => h9) rfl dX9_finds_1 ?_
  refine lv_iload_n hx hb dX9_finds_4 rfl (lv_at hl 1 rfl) ?_
  obtain ⟨h1, hF⟩ := gi_s hF
  refine va_iald hx hb hK hP 10 0 rfl rfl h1 dX9_finds_5 ?_
  refine lv_if_ge (tgt := 12) hx hb dX9_finds_6 (by decide) (fun c2 => ?_) (fun c2 => ?_)
  · have hF := if_t c2 hF
    refine lv_aload_n hx hb dX9_finds_12 rfl (lv_at hl 0 rfl) ?_
    refine va_get (D := D) (ci := 8) (v := .ref mln) (C := RX9) (T := TX9) (N := 24) hx hb hts iX9_finds_X9 hown hK hP 0 rfl rfl 20 (by decide) (hts _ kX9_finds_1) (fun _ h9 => h9) rfl dX9_finds_13 ?_
    refine lv_iload_n hx hb dX9_finds_16 rfl (lv_at hl 1 rfl) ?_
    obtain ⟨h3, hF⟩ := gi_s hF
    refine va_iald hx hb hK hP 10 0 rfl rfl h3 dX9_finds_17 ?_
    refine lv_iload_n hx hb dX9_finds_18 rfl (lv_at hl 2 rfl) ?_
    refine lv_icmp_eq (tgt := 25) hx hb dX9_finds_19 (by decide) (fun c4 => ?_) (fun c4 => ?_)
    · have hF := if_t c4 hF
      refine lv_iload_n hx hb dX9_finds_25 rfl (lv_at hl 3 rfl) ?_
      refine lv_if_lt (tgt := 46) hx hb dX9_finds_26 (by decide) (fun c5 => ?_) (fun c5 => ?_)
      · have hF := if_t c5 hF
        refine lv_bipush (v := (-13 : Int32)) hx hb dX9_finds_46 (by decide) ?_
        refine lv_goto (tgt := 52) hx hb dX9_finds_48 (by decide) ?_
        have hF := Option.some.inj hF
        subst hF
        exact hQ _ _ _ _ dX9_finds_52 hP hD hS
      · have hF := if_f c5 hF
        refine lv_iload_n hx hb dX9_finds_29 rfl (lv_at hl 3 rfl) ?_
        refine lv_i2l (v := (p2.toInt64)) hx hb dX9_finds_30 rfl ?_
        refine lv_iload hx hb dX9_finds_31 (lv_at hl 4 rfl) ?_
        refine lv_i2l (v := (p3.toInt64)) hx hb dX9_finds_33 rfl ?_
        refine lv_ladd hx hb dX9_finds_34 ?_
        refine lv_aload_n hx hb dX9_finds_35 rfl (lv_at hl 0 rfl) ?_
        refine va_get (D := D) (ci := 8) (v := .ref msz) (C := RX9) (T := TX9) (N := 24) hx hb hts iX9_finds_X9 hown hK hP 0 rfl rfl 21 (by decide) (hts _ kX9_finds_2) (fun _ h9 => h9) rfl dX9_finds_36 ?_
        refine lv_iload_n hx hb dX9_finds_39 rfl (lv_at hl 1 rfl) ?_
        obtain ⟨h6, hF⟩ := gi_s hF
        refine va_iald hx hb hK hP 11 0 rfl rfl h6 dX9_finds_40 ?_
        refine lv_i2l (v := ((dsz p0.toNatClampNeg).toInt64)) hx hb dX9_finds_41 rfl ?_
        refine W.lcmp hx hb dX9_finds_42 ?_
        refine lv_if_le (tgt := 51) hx hb dX9_finds_43 (by decide) (fun c7 => ?_) (fun c7 => ?_)
        · have hF := if_t c7 hF
          refine lv_iconst (v := (0 : Int32)) hx hb dX9_finds_51 (by decide) ?_
          have hF := Option.some.inj hF
          subst hF
          exact hQ _ _ _ _ dX9_finds_52 hP hD hS
        · have hF := if_f c7 hF
          refine lv_bipush (v := (-13 : Int32)) hx hb dX9_finds_46 (by decide) ?_
          refine lv_goto (tgt := 52) hx hb dX9_finds_48 (by decide) ?_
          have hF := Option.some.inj hF
          subst hF
          exact hQ _ _ _ _ dX9_finds_52 hP hD hS
    · have hF := if_f c4 hF
      refine lv_bipush (v := (-12 : Int32)) hx hb dX9_finds_22 (by decide) ?_
      have hF := Option.some.inj hF
      subst hF
      exact hQ _ _ _ _ dX9_finds_24 hP hD hS
  · have hF := if_f c2 hF
    refine lv_bipush (v := (-11 : Int32)) hx hb dX9_finds_9 (by decide) ?_
    have hF := Option.some.inj hF
    subst hF
    exact hQ _ _ _ _ dX9_finds_11 hP hD hS
theorem c_X9_finds (l : Launch) (D : va_G) (ky : Nat → ClassId) (aM mxs mus mys mgp mtp mme mle mlt mkl mln msz mit mmv : Nat) (sz N : Nat)  (mrm : Int32) (mer : Int32) (mtd : Int32) (mat : Int32) (mwr : Int32) (mkn : Int32) (mmb : Int32) (mwa : Int32) (mra : Int32) (mbl : Int32) (mbh : Int32) (dxs : Nat → Int32) (dus : Nat → Int32) (dys : Nat → Int32) (dgp : Nat → Int32) (dtp : Nat → Int32) (dme : Nat → Int32) (dle : Nat → Int32) (dlt : Nat → Int32) (dkl : Nat → Int32) (dln : Nat → Int32) (dsz : Nat → Int32) (dit : Nat → Int32) (dmv : Nat → Int32) (p0 : Int32) (p1 : Int32) (p2 : Int32) (p3 : Int32) (rv : Int32) (hF : f_X9_finds N p0 p1 p2 p3 dln dsz = some (rv)) : MI l yX9_finds wsX9_finds rm_X9_finds D ky sz [.ref aM, .int p0, .int p1, .int p2, .int p3] (w_model ky aM mxs mus mys mgp mtp mme mle mlt mkl mln msz mit mmv mrm mer mtd mat mwr mkn mmb mwa mra mbl mbh dxs dus dys dgp dtp dme dle dlt dkl dln dsz dit dmv) (w_model ky aM mxs mus mys mgp mtp mme mle mlt mkl mln msz mit mmv mrm mer mtd mat mwr mkn mmb mwa mra mbl mbh dxs dus dys dgp dtp dme dle dlt dkl dln dsz dit dmv) rv :=
  cr_X9_finds l D ky aM mxs mus mys mgp mtp mme mle mlt mkl mln msz mit mmv sz N mrm mer mtd mat mwr mkn mmb mwa mra mbl mbh dxs dus dys dgp dtp dme dle dlt dkl dln dsz dit dmv p0 p1 p2 p3 (rv) hF
abbrev rm_X9_rows : Room := { frames := 2, cells := 0, slots := 0, locals := 45 }
theorem kX9_rows_0 : (Cond.constantLong RX9 79 (12)) ∈ wsX9_rows := by decide +kernel
theorem iX9_rows_X9 : ∀ w ∈ wsX90, w ∈ wsX9_rows := by decide +kernel
theorem kX9_rows_2 : (Cond.fieldLink RX9 62 "TwoLawsModel" "rowMany" "I") ∈ wsX9_rows := by decide +kernel
theorem kX9_rows_3 : (Cond.fieldLink RX9 48 "TwoLawsModel" "items" "[I") ∈ wsX9_rows := by decide +kernel
set_option maxHeartbeats 4000000 in
set_option maxRecDepth 100000 in
theorem w_X9_rows_113 {p : Program} {l : Launch} {e : Env} {s : State} {m : MethodId} {args : Array Value} {below : List Frame} {meth : Method} {c : Code} {Q : State → Prop} {A : Nat → Prop} {D : va_G} {ky : Nat → ClassId} {aM mxs mus mys mgp mtp mme mle mlt mkl mln msz mit mmv : Nat} {mer : Int32} {mtd : Int32} {mat : Int32} {mwr : Int32} {mkn : Int32} {mmb : Int32} {mwa : Int32} {mra : Int32} {mbl : Int32} {mbh : Int32} {dtp : Nat → Int32} {dme : Nat → Int32} {dle : Nat → Int32} {dlt : Nat → Int32} {dkl : Nat → Int32} {dln : Nat → Int32} {dsz : Nat → Int32} {dit : Nat → Int32} {dmv : Nat → Int32} (N : Nat) (C : cx p s m c args D ky A cX9_rows 8 wsX9_rows RX9) (res : Int32 × Int32 × (Nat → Int32) × (Nat → Int32) × (Nat → Int32) × (Nat → Int32)) (hQ : ∀ (pc : Nat) (H : Heap) (locs : List Loc) (ls : Array Slot), decode cX9_rows pc = .ok (.ireturn, 1) → va_P D vwCl (w_model ky aM mxs mus mys mgp mtp mme mle mlt mkl mln msz mit mmv res.2.1 mer mtd mat mwr mkn mmb mwa mra mbl mbh res.2.2.1 res.2.2.2.1 res.2.2.2.2.1 res.2.2.2.2.2 dtp dme dle dlt dkl dln dsz dit dmv) H → va_D A (w_model ky aM mxs mus mys mgp mtp mme mle mlt mkl mln msz mit mmv res.2.1 mer mtd mat mwr mkn mmb mwa mra mbl mbh res.2.2.1 res.2.2.2.1 res.2.2.2.2.1 res.2.2.2.2.2 dtp dme dle dlt dkl dln dsz dit dmv) → va_S A s.heap H locs → W p l e rm_X9_rows s m args below meth c H locs 0 0 Q (F0 m pc ls [.int res.1])) (l4 : Int32) (l6 : Int32) : ∀ (n : Nat) (l7 : Int32) (mrm : Int32) (dxs : Nat → Int32) (dus : Nat → Int32) (dys : Nat → Int32) (dgp : Nat → Int32), f_X9_rows_113 N l4 l6 dit n l7 mrm dxs dus dys dgp = some res → ∀ (H : Heap) (locs : List Loc) (ls : Array Slot), va_P D vwCl (w_model ky aM mxs mus mys mgp mtp mme mle mlt mkl mln msz mit mmv mrm mer mtd mat mwr mkn mmb mwa mra mbl mbh dxs dus dys dgp dtp dme dle dlt dkl dln dsz dit dmv) H → va_D A (w_model ky aM mxs mus mys mgp mtp mme mle mlt mkl mln msz mit mmv mrm mer mtd mat mwr mkn mmb mwa mra mbl mbh dxs dus dys dgp dtp dme dle dlt dkl dln dsz dit dmv) → va_S A s.heap H locs → lv_has ls 8 [(0, .ref aM), (4, .int l4), (6, .int l6), (7, .int l7)] → W p l e rm_X9_rows s m args below meth c H locs 0 0 Q (F0 m 113 ls []) := by
  obtain ⟨hx, hb, hml, hown, hts, hK, hA⟩ := id C
  intro n
  induction n with
  | zero =>
    intro l7 mrm dxs dus dys dgp hF
    cases hF
  | succ n ih =>
    intro l7 mrm dxs dus dys dgp hF H locs ls hP hD hS hl
    have hF : b_X9_rows_113 N l4 l6 dit (f_X9_rows_113 N l4 l6 dit n) l7 mrm dxs dus dys dgp = some res := hF
    unfold b_X9_rows_113 at hF
    refine lv_iload hx hb dX9_rows_113 (lv_at hl 3 rfl) ?_
    refine lv_iload hx hb dX9_rows_115 (lv_at hl 1 rfl) ?_
    refine lv_icmp_ge (tgt := 171) hx hb dX9_rows_117 (by decide) (fun c19 => ?_) (fun c19 => ?_)
    · have hF := if_t c19 hF
      refine lv_iload hx hb dX9_rows_171 (lv_at hl 1 rfl) ?_
      have hF := Option.some.inj hF
      subst hF
      exact hQ _ H _ _ dX9_rows_173 hP hD hS
    · have hF := if_f c19 hF
      refine lv_aload_n hx hb dX9_rows_120 rfl (lv_at hl 0 rfl) ?_
      refine lv_aload_n hx hb dX9_rows_121 rfl (lv_at hl 0 rfl) ?_
      refine va_get (D := D) (ci := 8) (v := .ref mit) (C := RX9) (T := TX9) (N := 24) hx hb hts iX9_rows_X9 hown hK hP 0 rfl rfl 22 (by decide) (hts _ kX9_rows_3) (fun _ h9 => h9) rfl dX9_rows_122 ?_
      refine lv_iload hx hb dX9_rows_125 (lv_at hl 2 rfl) ?_
      refine lv_iconst (v := (3 : Int32)) hx hb dX9_rows_127 (by decide) ?_
      refine lv_iload hx hb dX9_rows_128 (lv_at hl 3 rfl) ?_
      refine lv_imul hx hb dX9_rows_130 ?_
      refine lv_iadd hx hb dX9_rows_131 ?_
      obtain ⟨h20, hF⟩ := gi_s hF
      refine va_iald hx hb hK hP 12 0 rfl rfl h20 dX9_rows_132 ?_
      refine lv_aload_n hx hb dX9_rows_133 rfl (lv_at hl 0 rfl) ?_
      refine va_get (D := D) (ci := 8) (v := .ref mit) (C := RX9) (T := TX9) (N := 24) hx hb hts iX9_rows_X9 hown hK hP 0 rfl rfl 22 (by decide) (hts _ kX9_rows_3) (fun _ h9 => h9) rfl dX9_rows_134 ?_
      refine lv_iload hx hb dX9_rows_137 (lv_at hl 2 rfl) ?_
      refine lv_iconst (v := (3 : Int32)) hx hb dX9_rows_139 (by decide) ?_
      refine lv_iload hx hb dX9_rows_140 (lv_at hl 3 rfl) ?_
      refine lv_imul hx hb dX9_rows_142 ?_
      refine lv_iadd hx hb dX9_rows_143 ?_
      refine lv_iconst (v := (1 : Int32)) hx hb dX9_rows_144 (by decide) ?_
      refine lv_iadd hx hb dX9_rows_145 ?_
      obtain ⟨h21, hF⟩ := gi_s hF
      refine va_iald hx hb hK hP 12 0 rfl rfl h21 dX9_rows_146 ?_
      refine lv_aload_n hx hb dX9_rows_147 rfl (lv_at hl 0 rfl) ?_
      refine va_get (D := D) (ci := 8) (v := .ref mit) (C := RX9) (T := TX9) (N := 24) hx hb hts iX9_rows_X9 hown hK hP 0 rfl rfl 22 (by decide) (hts _ kX9_rows_3) (fun _ h9 => h9) rfl dX9_rows_148 ?_
      refine lv_iload hx hb dX9_rows_151 (lv_at hl 2 rfl) ?_
      refine lv_iconst (v := (3 : Int32)) hx hb dX9_rows_153 (by decide) ?_
      refine lv_iload hx hb dX9_rows_154 (lv_at hl 3 rfl) ?_
      refine lv_imul hx hb dX9_rows_156 ?_
      refine lv_iadd hx hb dX9_rows_157 ?_
      refine lv_iconst (v := (2 : Int32)) hx hb dX9_rows_158 (by decide) ?_
      refine lv_iadd hx hb dX9_rows_159 ?_
      obtain ⟨h22, hF⟩ := gi_s hF
      refine va_iald hx hb hK hP 12 0 rfl rfl h22 dX9_rows_160 ?_
      refine lv_iconst (v := (0 : Int32)) hx hb dX9_rows_161 (by decide) ?_
      obtain ⟨v24, v25, v26, v27, v28, h23, hF⟩ := b5_s hF
      refine cl_vv (As := [.int (dit (l6 + ((3 : Int32) * l7)).toNatClampNeg), .int (dit ((l6 + ((3 : Int32) * l7)) + (1 : Int32)).toNatClampNeg), .int (dit ((l6 + ((3 : Int32) * l7)) + (2 : Int32)).toNatClampNeg), .int (0 : Int32)]) (rest := []) (w' := (w_model ky aM mxs mus mys mgp mtp mme mle mlt mkl mln msz mit mmv v24 mer mtd mat mwr mkn mmb mwa mra mbl mbh v25 v26 v27 v28 dtp dme dle dlt dkl dln dsz dit dmv)) ⟨hx, hb, hml, hown, hts⟩ hK hP hD hS hA (c_X9_puts l D ky aM mxs mus mys mgp mtp mme mle mlt mkl mln msz mit mmv _ N  mrm mer mtd mat mwr mkn mmb mwa mra mbl mbh dxs dus dys dgp dtp dme dle dlt dkl dln dsz dit dmv (dit (l6 + ((3 : Int32) * l7)).toNatClampNeg) (dit ((l6 + ((3 : Int32) * l7)) + (1 : Int32)).toNatClampNeg) (dit ((l6 + ((3 : Int32) * l7)) + (2 : Int32)).toNatClampNeg) (0 : Int32) v24 v25 v26 v27 v28 h23) (cwV 4 hts gX9_rows_X9_puts rfl rfl rfl (by decide +kernel) ⟨Nat.le_of_ble_eq_true rfl, Nat.le_of_ble_eq_true rfl⟩) [0, 1, 2, 3, 4, 5, 6, 7, 8, 9, 10, 11, 12, 13] [] [0, 1, 2, 3, 4, 5, 6, 7, 8, 9, 10, 11, 12, 13] 0 8 rfl rfl rfl rfl (wr := []) rfl (by decide) rfl rfl hl.1 (Nat.le_of_ble_eq_true rfl) dX9_rows_162 ⟨Nat.zero_le _, Nat.zero_le _⟩ (fun H locs hP hD hS => ?_)
      refine lv_iinc (v := (l7 + (1 : Int32))) (lv' := [(7, .int (l7 + (1 : Int32))), (0, .ref aM), (4, .int l4), (6, .int l6)]) hx hb dX9_rows_165 hl (k := 3) rfl rfl (by decide) rfl (fun ls hl => ?_)
      refine lv_goto (tgt := 113) hx hb dX9_rows_168 (by decide) ?_
      exact ih (l7 + (1 : Int32)) v24 v25 v26 v27 v28 hF H _ _ hP hD hS (lv_sub hl [1, 2, 3, 0] rfl)
set_option maxHeartbeats 4000000 in
set_option maxRecDepth 100000 in
theorem w_X9_rows_61 {p : Program} {l : Launch} {e : Env} {s : State} {m : MethodId} {args : Array Value} {below : List Frame} {meth : Method} {c : Code} {Q : State → Prop} {A : Nat → Prop} {D : va_G} {ky : Nat → ClassId} {aM mxs mus mys mgp mtp mme mle mlt mkl mln msz mit mmv : Nat} {mer : Int32} {mtd : Int32} {mat : Int32} {mwr : Int32} {mkn : Int32} {mmb : Int32} {mwa : Int32} {mra : Int32} {mbl : Int32} {mbh : Int32} {dtp : Nat → Int32} {dme : Nat → Int32} {dle : Nat → Int32} {dlt : Nat → Int32} {dkl : Nat → Int32} {dln : Nat → Int32} {dsz : Nat → Int32} {dit : Nat → Int32} {dmv : Nat → Int32} (N : Nat) (C : cx p s m c args D ky A cX9_rows 8 wsX9_rows RX9) (res : Int32 × Int32 × (Nat → Int32) × (Nat → Int32) × (Nat → Int32) × (Nat → Int32)) (hQ : ∀ (pc : Nat) (H : Heap) (locs : List Loc) (ls : Array Slot), decode cX9_rows pc = .ok (.ireturn, 1) → va_P D vwCl (w_model ky aM mxs mus mys mgp mtp mme mle mlt mkl mln msz mit mmv res.2.1 mer mtd mat mwr mkn mmb mwa mra mbl mbh res.2.2.1 res.2.2.2.1 res.2.2.2.2.1 res.2.2.2.2.2 dtp dme dle dlt dkl dln dsz dit dmv) H → va_D A (w_model ky aM mxs mus mys mgp mtp mme mle mlt mkl mln msz mit mmv res.2.1 mer mtd mat mwr mkn mmb mwa mra mbl mbh res.2.2.1 res.2.2.2.1 res.2.2.2.2.1 res.2.2.2.2.2 dtp dme dle dlt dkl dln dsz dit dmv) → va_S A s.heap H locs → W p l e rm_X9_rows s m args below meth c H locs 0 0 Q (F0 m pc ls [.int res.1])) (l4 : Int32) (l6 : Int32) (mrm : Int32) (dxs : Nat → Int32) (dus : Nat → Int32) (dys : Nat → Int32) (dgp : Nat → Int32) : ∀ (n : Nat) (l7 : Int32), f_X9_rows_61 N l4 l6 mrm dxs dus dys dgp dit n l7 = some res → ∀ (H : Heap) (locs : List Loc) (ls : Array Slot), va_P D vwCl (w_model ky aM mxs mus mys mgp mtp mme mle mlt mkl mln msz mit mmv mrm mer mtd mat mwr mkn mmb mwa mra mbl mbh dxs dus dys dgp dtp dme dle dlt dkl dln dsz dit dmv) H → va_D A (w_model ky aM mxs mus mys mgp mtp mme mle mlt mkl mln msz mit mmv mrm mer mtd mat mwr mkn mmb mwa mra mbl mbh dxs dus dys dgp dtp dme dle dlt dkl dln dsz dit dmv) → va_S A s.heap H locs → lv_has ls 8 [(0, .ref aM), (4, .int l4), (6, .int l6), (7, .int l7)] → W p l e rm_X9_rows s m args below meth c H locs 0 0 Q (F0 m 61 ls []) := by
  obtain ⟨hx, hb, hml, hown, hts, hK, hA⟩ := id C
  intro n
  induction n with
  | zero =>
    intro l7 hF
    cases hF
  | succ n ih =>
    intro l7 hF H locs ls hP hD hS hl
    have hF : b_X9_rows_61 N l4 l6 mrm dxs dus dys dgp dit (f_X9_rows_61 N l4 l6 mrm dxs dus dys dgp dit n) l7 = some res := hF
    unfold b_X9_rows_61 at hF
    refine lv_iload hx hb dX9_rows_61 (lv_at hl 3 rfl) ?_
    refine lv_iconst (v := (3 : Int32)) hx hb dX9_rows_63 (by decide) ?_
    refine lv_iload hx hb dX9_rows_64 (lv_at hl 1 rfl) ?_
    refine lv_imul hx hb dX9_rows_66 ?_
    refine lv_icmp_ge (tgt := 95) hx hb dX9_rows_67 (by decide) (fun c13 => ?_) (fun c13 => ?_)
    · have hF := if_t c13 hF
      refine lv_aload_n hx hb dX9_rows_95 rfl (lv_at hl 0 rfl) ?_
      refine va_get (D := D) (ci := 8) (v := .int mrm) (C := RX9) (T := TX9) (N := 24) hx hb hts iX9_rows_X9 hown hK hP 0 rfl rfl 0 (by decide) (hts _ kX9_rows_2) (fun _ h9 => h9) rfl dX9_rows_96 ?_
      refine lv_iload hx hb dX9_rows_99 (lv_at hl 1 rfl) ?_
      refine lv_iadd hx hb dX9_rows_101 ?_
      refine lv_bipush (v := (12 : Int32)) hx hb dX9_rows_102 (by decide) ?_
      refine lv_icmp_le (tgt := 110) hx hb dX9_rows_104 (by decide) (fun c14 => ?_) (fun c14 => ?_)
      · have hF := if_t c14 hF
        refine lv_iconst (v := (0 : Int32)) hx hb dX9_rows_110 (by decide) ?_
        refine lv_istore (lv' := [(7, .int (0 : Int32)), (0, .ref aM), (4, .int l4), (6, .int l6)]) hx hb dX9_rows_111 hl (by decide) rfl (fun ls hl => ?_)
        exact w_X9_rows_113 N C res hQ l4 l6 N (0 : Int32) mrm dxs dus dys dgp hF H _ _ hP hD hS (lv_sub hl [1, 2, 3, 0] rfl)
      · have hF := if_f c14 hF
        refine lv_bipush (v := (-3 : Int32)) hx hb dX9_rows_107 (by decide) ?_
        have hF := Option.some.inj hF
        subst hF
        exact hQ _ H _ _ dX9_rows_109 hP hD hS
    · have hF := if_f c13 hF
      refine lv_aload_n hx hb dX9_rows_70 rfl (lv_at hl 0 rfl) ?_
      refine va_get (D := D) (ci := 8) (v := .ref mit) (C := RX9) (T := TX9) (N := 24) hx hb hts iX9_rows_X9 hown hK hP 0 rfl rfl 22 (by decide) (hts _ kX9_rows_3) (fun _ h9 => h9) rfl dX9_rows_71 ?_
      refine lv_iload hx hb dX9_rows_74 (lv_at hl 2 rfl) ?_
      refine lv_iload hx hb dX9_rows_76 (lv_at hl 3 rfl) ?_
      refine lv_iadd hx hb dX9_rows_78 ?_
      obtain ⟨h15, hF⟩ := gi_s hF
      refine va_iald hx hb hK hP 12 0 rfl rfl h15 dX9_rows_79 ?_
      obtain ⟨r17, h16, hF⟩ := b1_s hF
      refine cl_si (As := [.int (dit (l6 + l7).toNatClampNeg)]) (rest := []) ⟨hx, hb, hml, hown, hts⟩ hK hP hD hS hA (c_X9_isSmall l D ky  _ N   (dit (l6 + l7).toNatClampNeg) r17 h16) (va_cwS 1 hts gX9_rows_X9_isSmall rfl rfl rfl (by decide +kernel) ⟨Nat.le_of_ble_eq_true rfl, Nat.le_of_ble_eq_true rfl⟩) rfl hl.1 (Nat.le_of_ble_eq_true rfl) dX9_rows_80 ⟨Nat.zero_le _, Nat.zero_le _⟩ (fun H locs hP hD hS => ?_)
      refine lv_if_ne (tgt := 89) hx hb dX9_rows_83 (by decide) (fun c18 => ?_) (fun c18 => ?_)
      · have hF := if_f c18 hF
        refine lv_iinc (v := (l7 + (1 : Int32))) (lv' := [(7, .int (l7 + (1 : Int32))), (0, .ref aM), (4, .int l4), (6, .int l6)]) hx hb dX9_rows_89 hl (k := 3) rfl rfl (by decide) rfl (fun ls hl => ?_)
        refine lv_goto (tgt := 61) hx hb dX9_rows_92 (by decide) ?_
        exact ih (l7 + (1 : Int32)) hF H _ _ hP hD hS (lv_sub hl [1, 2, 3, 0] rfl)
      · have hF := if_t c18 hF
        refine lv_bipush (v := (-2 : Int32)) hx hb dX9_rows_86 (by decide) ?_
        have hF := Option.some.inj hF
        subst hF
        exact hQ _ H _ _ dX9_rows_88 hP hD hS
set_option maxHeartbeats 4000000 in
set_option maxRecDepth 100000 in
theorem cr_X9_rows (l : Launch) (D : va_G) (ky : Nat → ClassId) (aM mxs mus mys mgp mtp mme mle mlt mkl mln msz mit mmv : Nat) (sz N : Nat)  (mrm : Int32) (mer : Int32) (mtd : Int32) (mat : Int32) (mwr : Int32) (mkn : Int32) (mmb : Int32) (mwa : Int32) (mra : Int32) (mbl : Int32) (mbh : Int32) (dxs : Nat → Int32) (dus : Nat → Int32) (dys : Nat → Int32) (dgp : Nat → Int32) (dtp : Nat → Int32) (dme : Nat → Int32) (dle : Nat → Int32) (dlt : Nat → Int32) (dkl : Nat → Int32) (dln : Nat → Int32) (dsz : Nat → Int32) (dit : Nat → Int32) (dmv : Nat → Int32) (p0 : Int32) (p1 : Int32) (p2 : Int32) (p3 : Int32) (res : Int32 × Int32 × (Nat → Int32) × (Nat → Int32) × (Nat → Int32) × (Nat → Int32)) (hF : f_X9_rows N p0 p1 p2 p3 mrm dxs dus dys dgp dln dsz dit = some res) : MI l yX9_rows wsX9_rows rm_X9_rows D ky sz [.ref aM, .int p0, .int p1, .int p2, .int p3] (w_model ky aM mxs mus mys mgp mtp mme mle mlt mkl mln msz mit mmv mrm mer mtd mat mwr mkn mmb mwa mra mbl mbh dxs dus dys dgp dtp dme dle dlt dkl dln dsz dit dmv) (w_model ky aM mxs mus mys mgp mtp mme mle mlt mkl mln msz mit mmv res.2.1 mer mtd mat mwr mkn mmb mwa mra mbl mbh res.2.2.1 res.2.2.2.1 res.2.2.2.2.1 res.2.2.2.2.2 dtp dme dle dlt dkl dln dsz dit dmv) res.1 := by
  unfold MI
  refine Met.ofW (cc := cX9_rows) (maxL := 8) (ret := (some .int)) (by decide) rfl ?_
  intro p e s m args below meth c s₁ B hml hv
  obtain ⟨rfl, hsz, hP, hK, hD0⟩ := hv
  have hx := B.exec
  have hb := B.bytes
  have hr := B.returns
  have hts := atoms_spec (ws := wsX9_rows) B.pre
  have hown : s.vm.findClass RX9 = some m.cls := findClass_of_methodNamed B.named
  have hlocks := B.notSynchronized
  subst hsz
  have hD := hD0.self (sz := s.heap.size)
  generalize hAe : va_A (w_model ky aM mxs mus mys mgp mtp mme mle mlt mkl mln msz mit mmv mrm mer mtd mat mwr mkn mmb mwa mra mbl mbh dxs dus dys dgp dtp dme dle dlt dkl dln dsz dit dmv) s.heap.size = A at hD ⊢
  have hA : ∀ q : Nat, s.heap.size ≤ q → A q := fun q h => by rw [← hAe]; exact Or.inr h
  have hS : va_S A s.heap s.heap [] := va_S.rf
  have hP : va_P D vwCl (w_model ky aM mxs mus mys mgp mtp mme mle mlt mkl mln msz mit mmv mrm mer mtd mat mwr mkn mmb mwa mra mbl mbh dxs dus dys dgp dtp dme dle dlt dkl dln dsz dit dmv) s.heap := hP
  have hl := lv_entry ([.ref aM, .int p0, .int p1, .int p2, .int p3]) (n := 8) (Nat.le_of_ble_eq_true rfl)
  rw [lg_entry_eq]
  generalize (lg_sl ([.ref aM, .int p0, .int p1, .int p2, .int p3]) ++ List.replicate (8 - (lg_sl ([.ref aM, .int p0, .int p1, .int p2, .int p3])).length) Slot.unset).toArray = ls at hl ⊢
  have hl : lv_has ls 8 [(0, .ref aM), (1, .int p0), (2, .int p1), (3, .int p2), (4, .int p3)] := hl
  have C : cx p s m c ([.ref aM, .int p0, .int p1, .int p2, .int p3]).toArray D ky A cX9_rows 8 wsX9_rows RX9 := ⟨hx, hb, hml, hown, hts, hK, hA⟩
  have hQ : ∀ (pc : Nat) (H : Heap) (locs : List Loc) (ls : Array Slot), decode cX9_rows pc = .ok (.ireturn, 1) → va_P D vwCl (w_model ky aM mxs mus mys mgp mtp mme mle mlt mkl mln msz mit mmv res.2.1 mer mtd mat mwr mkn mmb mwa mra mbl mbh res.2.2.1 res.2.2.2.1 res.2.2.2.2.1 res.2.2.2.2.2 dtp dme dle dlt dkl dln dsz dit dmv) H → va_D A (w_model ky aM mxs mus mys mgp mtp mme mle mlt mkl mln msz mit mmv res.2.1 mer mtd mat mwr mkn mmb mwa mra mbl mbh res.2.2.1 res.2.2.2.1 res.2.2.2.2.1 res.2.2.2.2.2 dtp dme dle dlt dkl dln dsz dit dmv) → va_S A s.heap H locs → W p l e rm_X9_rows s m ([.ref aM, .int p0, .int p1, .int p2, .int p3]).toArray below meth c H locs 0 0 (MQ below (va_Qi (S := Unit) (fun r _ => r = res.1) (fun _ t => va_P D vwCl (w_model ky aM mxs mus mys mgp mtp mme mle mlt mkl mln msz mit mmv res.2.1 mer mtd mat mwr mkn mmb mwa mra mbl mbh res.2.2.1 res.2.2.2.1 res.2.2.2.2.1 res.2.2.2.2.2 dtp dme dle dlt dkl dln dsz dit dmv) t.heap ∧ va_K D vwCl (tyW ky) t ∧ va_D A (w_model ky aM mxs mus mys mgp mtp mme mle mlt mkl mln msz mit mmv res.2.1 mer mtd mat mwr mkn mmb mwa mra mbl mbh res.2.2.1 res.2.2.2.1 res.2.2.2.2.1 res.2.2.2.2.2 dtp dme dle dlt dkl dln dsz dit dmv)) A) ([.ref aM, .int p0, .int p1, .int p2, .int p3]).toArray s 0 0 A) (F0 m pc ls [.int res.1]) := fun pc H locs ls hd hP hD hS => W.iret hx hb hr (fun t ht hW => ⟨⟨res.1, (), rfl, rfl, by rw [ht]; exact hP, va_K.moved hW.alike hK, hD⟩, hS.F ht⟩) hS.2.2 hd
  unfold f_X9_rows at hF
  refine lv_iload_n hx hb dX9_rows_0 rfl (lv_at hl 1 rfl) ?_
  obtain ⟨r2, h1, hF⟩ := b1_s hF
  refine cl_si (As := [.int p0]) (rest := []) ⟨hx, hb, hml, hown, hts⟩ hK hP hD hS hA (c_X9_isSheet l D ky  _ N   p0 r2 h1) (va_cwS 1 hts gX9_rows_X9_isSheet rfl rfl rfl (by decide +kernel) ⟨Nat.le_of_ble_eq_true rfl, Nat.le_of_ble_eq_true rfl⟩) rfl hl.1 (Nat.le_of_ble_eq_true rfl) dX9_rows_1 ⟨Nat.zero_le _, Nat.zero_le _⟩ (fun H locs hP hD hS => ?_)
  refine lv_if_eq (tgt := 27) hx hb dX9_rows_4 (by decide) (fun c3 => ?_) (fun c3 => ?_)
  · have hF := if_t c3 hF
    refine lv_iconst (v := (-1 : Int32)) hx hb dX9_rows_27 (by decide) ?_
    have hF := Option.some.inj hF
    subst hF
    exact hQ _ _ _ _ dX9_rows_28 hP hD hS
  · have hF := if_f c3 hF
    refine lv_iload_n hx hb dX9_rows_7 rfl (lv_at hl 2 rfl) ?_
    obtain ⟨r5, h4, hF⟩ := b1_s hF
    refine cl_si (As := [.int p1]) (rest := []) ⟨hx, hb, hml, hown, hts⟩ hK hP hD hS hA (c_X9_isLane l D ky  _ N   p1 r5 h4) (va_cwS 1 hts gX9_rows_X9_isLane rfl rfl rfl (by decide +kernel) ⟨Nat.le_of_ble_eq_true rfl, Nat.le_of_ble_eq_true rfl⟩) rfl hl.1 (Nat.le_of_ble_eq_true rfl) dX9_rows_8 ⟨Nat.zero_le _, Nat.zero_le _⟩ (fun H locs hP hD hS => ?_)
    refine lv_if_eq (tgt := 27) hx hb dX9_rows_11 (by decide) (fun c6 => ?_) (fun c6 => ?_)
    · have hF := if_t c6 hF
      refine lv_iconst (v := (-1 : Int32)) hx hb dX9_rows_27 (by decide) ?_
      have hF := Option.some.inj hF
      subst hF
      exact hQ _ _ _ _ dX9_rows_28 hP hD hS
    · have hF := if_f c6 hF
      refine lv_iload hx hb dX9_rows_14 (lv_at hl 4 rfl) ?_
      refine lv_i2l (v := (p3.toInt64)) hx hb dX9_rows_16 rfl ?_
      refine lv_lconst (v := (0 : Int64)) hx hb dX9_rows_17 (by decide) ?_
      refine lv_ldc2 hx hb hown (hts _ kX9_rows_0) dX9_rows_18 ?_
      obtain ⟨r8, h7, hF⟩ := b1_s hF
      refine cl_si (As := [.long (p3.toInt64), .long (0 : Int64), .long (12 : Int64)]) (rest := []) ⟨hx, hb, hml, hown, hts⟩ hK hP hD hS hA (c_X9_in l D ky  _ N   (p3.toInt64) (0 : Int64) (12 : Int64) r8 h7) (va_cwS 3 hts gX9_rows_X9_in rfl rfl rfl (by decide +kernel) ⟨Nat.le_of_ble_eq_true rfl, Nat.le_of_ble_eq_true rfl⟩) rfl hl.1 (Nat.le_of_ble_eq_true rfl) dX9_rows_21 ⟨Nat.zero_le _, Nat.zero_le _⟩ (fun H locs hP hD hS => ?_)
      refine lv_if_ne (tgt := 29) hx hb dX9_rows_24 (by decide) (fun c9 => ?_) (fun c9 => ?_)
      · have hF := if_f c9 hF
        refine lv_aload_n hx hb dX9_rows_29 rfl (lv_at hl 0 rfl) ?_
        refine lv_iload_n hx hb dX9_rows_30 rfl (lv_at hl 1 rfl) ?_
        refine lv_iload_n hx hb dX9_rows_31 rfl (lv_at hl 2 rfl) ?_
        refine lv_iload_n hx hb dX9_rows_32 rfl (lv_at hl 3 rfl) ?_
        refine lv_iconst (v := (3 : Int32)) hx hb dX9_rows_33 (by decide) ?_
        refine lv_iload hx hb dX9_rows_34 (lv_at hl 4 rfl) ?_
        refine lv_imul hx hb dX9_rows_36 ?_
        obtain ⟨r11, h10, hF⟩ := b1_s hF
        refine cl_vi (As := [.int p0, .int p1, .int p2, .int ((3 : Int32) * p3)]) (rest := []) (w' := (w_model ky aM mxs mus mys mgp mtp mme mle mlt mkl mln msz mit mmv mrm mer mtd mat mwr mkn mmb mwa mra mbl mbh dxs dus dys dgp dtp dme dle dlt dkl dln dsz dit dmv)) ⟨hx, hb, hml, hown, hts⟩ hK hP hD hS hA (c_X9_finds l D ky aM mxs mus mys mgp mtp mme mle mlt mkl mln msz mit mmv _ N  mrm mer mtd mat mwr mkn mmb mwa mra mbl mbh dxs dus dys dgp dtp dme dle dlt dkl dln dsz dit dmv p0 p1 p2 ((3 : Int32) * p3) r11 h10) (cwV 4 hts gX9_rows_X9_finds rfl rfl rfl (by decide +kernel) ⟨Nat.le_of_ble_eq_true rfl, Nat.le_of_ble_eq_true rfl⟩) [0, 1, 2, 3, 4, 5, 6, 7, 8, 9, 10, 11, 12, 13] [] [0, 1, 2, 3, 4, 5, 6, 7, 8, 9, 10, 11, 12, 13] 0 8 rfl rfl rfl rfl (wr := []) rfl (by decide) rfl rfl hl.1 (Nat.le_of_ble_eq_true rfl) dX9_rows_37 ⟨Nat.zero_le _, Nat.zero_le _⟩ (fun H locs hP hD hS => ?_)
        refine lv_istore (lv' := [(5, .int r11), (0, .ref aM), (1, .int p0), (2, .int p1), (3, .int p2), (4, .int p3)]) hx hb dX9_rows_40 hl (by decide) rfl (fun ls hl => ?_)
        refine lv_iload hx hb dX9_rows_42 (lv_at hl 0 rfl) ?_
        refine lv_if_ge (tgt := 50) hx hb dX9_rows_44 (by decide) (fun c12 => ?_) (fun c12 => ?_)
        · have hF := if_t c12 hF
          refine lv_bipush (v := (36 : Int32)) hx hb dX9_rows_50 (by decide) ?_
          refine lv_iload_n hx hb dX9_rows_52 rfl (lv_at hl 2 rfl) ?_
          refine lv_imul hx hb dX9_rows_53 ?_
          refine lv_iload_n hx hb dX9_rows_54 rfl (lv_at hl 4 rfl) ?_
          refine lv_iadd hx hb dX9_rows_55 ?_
          refine lv_istore (lv' := [(6, .int (((36 : Int32) * p0) + p2)), (5, .int r11), (0, .ref aM), (1, .int p0), (2, .int p1), (3, .int p2), (4, .int p3)]) hx hb dX9_rows_56 hl (by decide) rfl (fun ls hl => ?_)
          refine lv_iconst (v := (0 : Int32)) hx hb dX9_rows_58 (by decide) ?_
          refine lv_istore (lv' := [(7, .int (0 : Int32)), (6, .int (((36 : Int32) * p0) + p2)), (5, .int r11), (0, .ref aM), (1, .int p0), (2, .int p1), (3, .int p2), (4, .int p3)]) hx hb dX9_rows_59 hl (by decide) rfl (fun ls hl => ?_)
          exact w_X9_rows_61 N C res hQ p3 (((36 : Int32) * p0) + p2) mrm dxs dus dys dgp N (0 : Int32) hF _ _ _ hP hD hS (lv_sub hl [3, 7, 1, 0] rfl)
        · have hF := if_f c12 hF
          refine lv_iload hx hb dX9_rows_47 (lv_at hl 0 rfl) ?_
          have hF := Option.some.inj hF
          subst hF
          exact hQ _ _ _ _ dX9_rows_49 hP hD hS
      · have hF := if_t c9 hF
        refine lv_iconst (v := (-1 : Int32)) hx hb dX9_rows_27 (by decide) ?_
        have hF := Option.some.inj hF
        subst hF
        exact hQ _ _ _ _ dX9_rows_28 hP hD hS
theorem c_X9_rows (l : Launch) (D : va_G) (ky : Nat → ClassId) (aM mxs mus mys mgp mtp mme mle mlt mkl mln msz mit mmv : Nat) (sz N : Nat)  (mrm : Int32) (mer : Int32) (mtd : Int32) (mat : Int32) (mwr : Int32) (mkn : Int32) (mmb : Int32) (mwa : Int32) (mra : Int32) (mbl : Int32) (mbh : Int32) (dxs : Nat → Int32) (dus : Nat → Int32) (dys : Nat → Int32) (dgp : Nat → Int32) (dtp : Nat → Int32) (dme : Nat → Int32) (dle : Nat → Int32) (dlt : Nat → Int32) (dkl : Nat → Int32) (dln : Nat → Int32) (dsz : Nat → Int32) (dit : Nat → Int32) (dmv : Nat → Int32) (p0 : Int32) (p1 : Int32) (p2 : Int32) (p3 : Int32) (rv : Int32) (mrm' : Int32) (dxs' : Nat → Int32) (dus' : Nat → Int32) (dys' : Nat → Int32) (dgp' : Nat → Int32) (hF : f_X9_rows N p0 p1 p2 p3 mrm dxs dus dys dgp dln dsz dit = some (rv, mrm', dxs', dus', dys', dgp')) : MI l yX9_rows wsX9_rows rm_X9_rows D ky sz [.ref aM, .int p0, .int p1, .int p2, .int p3] (w_model ky aM mxs mus mys mgp mtp mme mle mlt mkl mln msz mit mmv mrm mer mtd mat mwr mkn mmb mwa mra mbl mbh dxs dus dys dgp dtp dme dle dlt dkl dln dsz dit dmv) (w_model ky aM mxs mus mys mgp mtp mme mle mlt mkl mln msz mit mmv mrm' mer mtd mat mwr mkn mmb mwa mra mbl mbh dxs' dus' dys' dgp' dtp dme dle dlt dkl dln dsz dit dmv) rv :=
  cr_X9_rows l D ky aM mxs mus mys mgp mtp mme mle mlt mkl mln msz mit mmv sz N mrm mer mtd mat mwr mkn mmb mwa mra mbl mbh dxs dus dys dgp dtp dme dle dlt dkl dln dsz dit dmv p0 p1 p2 p3 (rv, mrm', dxs', dus', dys', dgp') hF
abbrev rm_X9_type : Room := { frames := 1, cells := 0, slots := 0, locals := 25 }
theorem kX9_type_0 : (Cond.constantLong RX9 85 (8)) ∈ wsX9_type := by decide +kernel
theorem iX9_type_X9 : ∀ w ∈ wsX90, w ∈ wsX9_type := by decide +kernel
theorem kX9_type_2 : (Cond.fieldLink RX9 93 "TwoLawsModel" "taped" "I") ∈ wsX9_type := by decide +kernel
theorem kX9_type_3 : (Cond.constantLong RX9 87 (255)) ∈ wsX9_type := by decide +kernel
theorem kX9_type_4 : (Cond.constantLong RX9 89 (32)) ∈ wsX9_type := by decide +kernel
theorem kX9_type_5 : (Cond.constantLong RX9 91 (126)) ∈ wsX9_type := by decide +kernel
theorem kX9_type_6 : (Cond.fieldLink RX9 27 "TwoLawsModel" "tape" "[I") ∈ wsX9_type := by decide +kernel
set_option maxHeartbeats 4000000 in
set_option maxRecDepth 100000 in
theorem w_X9_type_73 {p : Program} {l : Launch} {e : Env} {s : State} {m : MethodId} {args : Array Value} {below : List Frame} {meth : Method} {c : Code} {Q : State → Prop} {A : Nat → Prop} {D : va_G} {ky : Nat → ClassId} {aM mxs mus mys mgp mtp mme mle mlt mkl mln msz mit mmv : Nat} {mrm : Int32} {mer : Int32} {mat : Int32} {mwr : Int32} {mkn : Int32} {mmb : Int32} {mwa : Int32} {mra : Int32} {mbl : Int32} {mbh : Int32} {dxs : Nat → Int32} {dus : Nat → Int32} {dys : Nat → Int32} {dgp : Nat → Int32} {dme : Nat → Int32} {dle : Nat → Int32} {dlt : Nat → Int32} {dkl : Nat → Int32} {dln : Nat → Int32} {dsz : Nat → Int32} {dit : Nat → Int32} {dmv : Nat → Int32} (N : Nat) (C : cx p s m c args D ky A cX9_type 5 wsX9_type RX9) (res : Int32 × Int32 × (Nat → Int32)) (hQ : ∀ (pc : Nat) (H : Heap) (locs : List Loc) (ls : Array Slot), decode cX9_type pc = .ok (.ireturn, 1) → va_P D vwCl (w_model ky aM mxs mus mys mgp mtp mme mle mlt mkl mln msz mit mmv mrm mer res.2.1 mat mwr mkn mmb mwa mra mbl mbh dxs dus dys dgp res.2.2 dme dle dlt dkl dln dsz dit dmv) H → va_D A (w_model ky aM mxs mus mys mgp mtp mme mle mlt mkl mln msz mit mmv mrm mer res.2.1 mat mwr mkn mmb mwa mra mbl mbh dxs dus dys dgp res.2.2 dme dle dlt dkl dln dsz dit dmv) → va_S A s.heap H locs → W p l e rm_X9_type s m args below meth c H locs 0 0 Q (F0 m pc ls [.int res.1])) (l1 : Int64) : ∀ (n : Nat) (l4 : Int32) (mtd : Int32) (dtp : Nat → Int32), f_X9_type_73 N l1 n l4 mtd dtp = some res → ∀ (H : Heap) (locs : List Loc) (ls : Array Slot), va_P D vwCl (w_model ky aM mxs mus mys mgp mtp mme mle mlt mkl mln msz mit mmv mrm mer mtd mat mwr mkn mmb mwa mra mbl mbh dxs dus dys dgp dtp dme dle dlt dkl dln dsz dit dmv) H → va_D A (w_model ky aM mxs mus mys mgp mtp mme mle mlt mkl mln msz mit mmv mrm mer mtd mat mwr mkn mmb mwa mra mbl mbh dxs dus dys dgp dtp dme dle dlt dkl dln dsz dit dmv) → va_S A s.heap H locs → lv_has ls 5 [(0, .ref aM), (1, .long l1), (4, .int l4)] → W p l e rm_X9_type s m args below meth c H locs 0 0 Q (F0 m 73 ls []) := by
  obtain ⟨hx, hb, hml, hown, hts, hK, hA⟩ := id C
  intro n
  induction n with
  | zero =>
    intro l4 mtd dtp hF
    cases hF
  | succ n ih =>
    intro l4 mtd dtp hF H locs ls hP hD hS hl
    have hF : b_X9_type_73 N l1 (f_X9_type_73 N l1 n) l4 mtd dtp = some res := hF
    unfold b_X9_type_73 at hF
    refine lv_iload hx hb dX9_type_73 (lv_at hl 2 rfl) ?_
    refine lv_if_lt (tgt := 115) hx hb dX9_type_75 (by decide) (fun c9 => ?_) (fun c9 => ?_)
    · have hF := if_t c9 hF
      refine lv_aload_n hx hb dX9_type_115 rfl (lv_at hl 0 rfl) ?_
      refine va_get (D := D) (ci := 8) (v := .int mtd) (C := RX9) (T := TX9) (N := 24) hx hb hts iX9_type_X9 hown hK hP 0 rfl rfl 7 (by decide) (hts _ kX9_type_2) (fun _ h9 => h9) rfl dX9_type_116 ?_
      have hF := Option.some.inj hF
      subst hF
      exact hQ _ H _ _ dX9_type_119 hP hD hS
    · have hF := if_f c9 hF
      refine lv_aload_n hx hb dX9_type_78 rfl (lv_at hl 0 rfl) ?_
      refine va_get (D := D) (ci := 8) (v := .ref mtp) (C := RX9) (T := TX9) (N := 24) hx hb hts iX9_type_X9 hown hK hP 0 rfl rfl 6 (by decide) (hts _ kX9_type_6) (fun _ h9 => h9) rfl dX9_type_79 ?_
      refine lv_aload_n hx hb dX9_type_82 rfl (lv_at hl 0 rfl) ?_
      refine va_get (D := D) (ci := 8) (v := .int mtd) (C := RX9) (T := TX9) (N := 24) hx hb hts iX9_type_X9 hown hK hP 0 rfl rfl 7 (by decide) (hts _ kX9_type_2) (fun _ h9 => h9) rfl dX9_type_83 ?_
      refine lv_lload_n hx hb dX9_type_86 rfl (lv_at hl 1 rfl) ?_
      refine lv_bipush (v := (8 : Int32)) hx hb dX9_type_87 (by decide) ?_
      refine lv_iload hx hb dX9_type_89 (lv_at hl 2 rfl) ?_
      refine lv_imul hx hb dX9_type_91 ?_
      refine lv_lshr (v := (l1 >>> (((8 : Int32) * l4).toInt64 &&& 63))) hx hb dX9_type_92 rfl ?_
      refine lv_ldc2 hx hb hown (hts _ kX9_type_3) dX9_type_93 ?_
      refine lv_land hx hb dX9_type_96 ?_
      refine lv_l2i (v := (((l1 >>> (((8 : Int32) * l4).toInt64 &&& 63)) &&& (255 : Int64)).toInt32)) hx hb dX9_type_97 rfl ?_
      refine lv_topi (fun v11 e_v11 => ?_)
      have hF := nm_s e_v11 hF
      obtain ⟨h10, hF⟩ := gi_s hF
      refine va_iast hx hb hK hP hD hS 5 0 rfl rfl h10 dX9_type_98 (fun H locs hP hD hS => ?_)
      have hP : va_P D vwCl (w_model ky aM mxs mus mys mgp mtp mme mle mlt mkl mln msz mit mmv mrm mer mtd mat mwr mkn mmb mwa mra mbl mbh dxs dus dys dgp (upd dtp mtd.toNatClampNeg v11) dme dle dlt dkl dln dsz dit dmv) H := hP
      have hD : va_D A (w_model ky aM mxs mus mys mgp mtp mme mle mlt mkl mln msz mit mmv mrm mer mtd mat mwr mkn mmb mwa mra mbl mbh dxs dus dys dgp (upd dtp mtd.toNatClampNeg v11) dme dle dlt dkl dln dsz dit dmv) := hD
      refine lv_aload_n hx hb dX9_type_99 rfl (lv_at hl 0 rfl) ?_
      refine lv_dup hx hb dX9_type_100 rfl ?_
      refine va_get (D := D) (ci := 8) (v := .int mtd) (C := RX9) (T := TX9) (N := 24) hx hb hts iX9_type_X9 hown hK hP 0 rfl rfl 7 (by decide) (hts _ kX9_type_2) (fun _ h9 => h9) rfl dX9_type_101 ?_
      refine lv_iconst (v := (1 : Int32)) hx hb dX9_type_104 (by decide) ?_
      refine lv_iadd hx hb dX9_type_105 ?_
      refine va_put (D := D) (ci := 8) (v := .int (mtd + (1 : Int32))) (ty := .int) (C := RX9) (T := TX9) (N := 24) hx hb hts iX9_type_X9 tyX9 tyX9_ok nmX9 hown hK hP hD hS 0 rfl rfl 7 (by decide) (hts _ kX9_type_2) (fun _ h9 => h9) rfl (by decide +kernel) rfl rfl (Nat.le_of_ble_eq_true rfl) dX9_type_106 (fun H locs hP hD hS => ?_)
      have hP : va_P D vwCl (w_model ky aM mxs mus mys mgp mtp mme mle mlt mkl mln msz mit mmv mrm mer (mtd + (1 : Int32)) mat mwr mkn mmb mwa mra mbl mbh dxs dus dys dgp (upd dtp mtd.toNatClampNeg v11) dme dle dlt dkl dln dsz dit dmv) H := hP
      have hD : va_D A (w_model ky aM mxs mus mys mgp mtp mme mle mlt mkl mln msz mit mmv mrm mer (mtd + (1 : Int32)) mat mwr mkn mmb mwa mra mbl mbh dxs dus dys dgp (upd dtp mtd.toNatClampNeg v11) dme dle dlt dkl dln dsz dit dmv) := hD
      refine lv_iinc (v := (l4 + (-1 : Int32))) (lv' := [(4, .int (l4 + (-1 : Int32))), (0, .ref aM), (1, .long l1)]) hx hb dX9_type_109 hl (k := 2) rfl rfl (by decide) rfl (fun ls hl => ?_)
      refine lv_goto (tgt := 73) hx hb dX9_type_112 (by decide) ?_
      exact ih (l4 + (-1 : Int32)) (mtd + (1 : Int32)) (upd dtp mtd.toNatClampNeg v11) hF H _ _ hP hD hS (lv_sub hl [1, 2, 0] rfl)
set_option maxHeartbeats 4000000 in
set_option maxRecDepth 100000 in
theorem w_X9_type_17 {p : Program} {l : Launch} {e : Env} {s : State} {m : MethodId} {args : Array Value} {below : List Frame} {meth : Method} {c : Code} {Q : State → Prop} {A : Nat → Prop} {D : va_G} {ky : Nat → ClassId} {aM mxs mus mys mgp mtp mme mle mlt mkl mln msz mit mmv : Nat} {mrm : Int32} {mer : Int32} {mat : Int32} {mwr : Int32} {mkn : Int32} {mmb : Int32} {mwa : Int32} {mra : Int32} {mbl : Int32} {mbh : Int32} {dxs : Nat → Int32} {dus : Nat → Int32} {dys : Nat → Int32} {dgp : Nat → Int32} {dme : Nat → Int32} {dle : Nat → Int32} {dlt : Nat → Int32} {dkl : Nat → Int32} {dln : Nat → Int32} {dsz : Nat → Int32} {dit : Nat → Int32} {dmv : Nat → Int32} (N : Nat) (C : cx p s m c args D ky A cX9_type 5 wsX9_type RX9) (res : Int32 × Int32 × (Nat → Int32)) (hQ : ∀ (pc : Nat) (H : Heap) (locs : List Loc) (ls : Array Slot), decode cX9_type pc = .ok (.ireturn, 1) → va_P D vwCl (w_model ky aM mxs mus mys mgp mtp mme mle mlt mkl mln msz mit mmv mrm mer res.2.1 mat mwr mkn mmb mwa mra mbl mbh dxs dus dys dgp res.2.2 dme dle dlt dkl dln dsz dit dmv) H → va_D A (w_model ky aM mxs mus mys mgp mtp mme mle mlt mkl mln msz mit mmv mrm mer res.2.1 mat mwr mkn mmb mwa mra mbl mbh dxs dus dys dgp res.2.2 dme dle dlt dkl dln dsz dit dmv) → va_S A s.heap H locs → W p l e rm_X9_type s m args below meth c H locs 0 0 Q (F0 m pc ls [.int res.1])) (l1 : Int64) (l3 : Int32) (mtd : Int32) (dtp : Nat → Int32) : ∀ (n : Nat) (l4 : Int32), f_X9_type_17 N l1 l3 mtd dtp n l4 = some res → ∀ (H : Heap) (locs : List Loc) (ls : Array Slot), va_P D vwCl (w_model ky aM mxs mus mys mgp mtp mme mle mlt mkl mln msz mit mmv mrm mer mtd mat mwr mkn mmb mwa mra mbl mbh dxs dus dys dgp dtp dme dle dlt dkl dln dsz dit dmv) H → va_D A (w_model ky aM mxs mus mys mgp mtp mme mle mlt mkl mln msz mit mmv mrm mer mtd mat mwr mkn mmb mwa mra mbl mbh dxs dus dys dgp dtp dme dle dlt dkl dln dsz dit dmv) → va_S A s.heap H locs → lv_has ls 5 [(0, .ref aM), (1, .long l1), (3, .int l3), (4, .int l4)] → W p l e rm_X9_type s m args below meth c H locs 0 0 Q (F0 m 17 ls []) := by
  obtain ⟨hx, hb, hml, hown, hts, hK, hA⟩ := id C
  intro n
  induction n with
  | zero =>
    intro l4 hF
    cases hF
  | succ n ih =>
    intro l4 hF H locs ls hP hD hS hl
    have hF : b_X9_type_17 N l1 l3 mtd dtp (f_X9_type_17 N l1 l3 mtd dtp n) l4 = some res := hF
    unfold b_X9_type_17 at hF
    refine lv_iload hx hb dX9_type_17 (lv_at hl 3 rfl) ?_
    refine lv_iload_n hx hb dX9_type_19 rfl (lv_at hl 2 rfl) ?_
    refine lv_icmp_ge (tgt := 54) hx hb dX9_type_20 (by decide) (fun c4 => ?_) (fun c4 => ?_)
    · have hF := if_t c4 hF
      refine lv_aload_n hx hb dX9_type_54 rfl (lv_at hl 0 rfl) ?_
      refine va_get (D := D) (ci := 8) (v := .int mtd) (C := RX9) (T := TX9) (N := 24) hx hb hts iX9_type_X9 hown hK hP 0 rfl rfl 7 (by decide) (hts _ kX9_type_2) (fun _ h9 => h9) rfl dX9_type_55 ?_
      refine lv_iload_n hx hb dX9_type_58 rfl (lv_at hl 2 rfl) ?_
      refine lv_iadd hx hb dX9_type_59 ?_
      refine lv_bipush (v := (120 : Int32)) hx hb dX9_type_60 (by decide) ?_
      refine lv_icmp_le (tgt := 68) hx hb dX9_type_62 (by decide) (fun c5 => ?_) (fun c5 => ?_)
      · have hF := if_t c5 hF
        refine lv_iload_n hx hb dX9_type_68 rfl (lv_at hl 2 rfl) ?_
        refine lv_iconst (v := (1 : Int32)) hx hb dX9_type_69 (by decide) ?_
        refine lv_isub hx hb dX9_type_70 ?_
        refine lv_istore (lv' := [(4, .int (l3 - (1 : Int32))), (0, .ref aM), (1, .long l1), (3, .int l3)]) hx hb dX9_type_71 hl (by decide) rfl (fun ls hl => ?_)
        exact w_X9_type_73 N C res hQ l1 N (l3 - (1 : Int32)) mtd dtp hF H _ _ hP hD hS (lv_sub hl [1, 2, 0] rfl)
      · have hF := if_f c5 hF
        refine lv_bipush (v := (-3 : Int32)) hx hb dX9_type_65 (by decide) ?_
        have hF := Option.some.inj hF
        subst hF
        exact hQ _ H _ _ dX9_type_67 hP hD hS
    · have hF := if_f c4 hF
      refine lv_lload_n hx hb dX9_type_23 rfl (lv_at hl 1 rfl) ?_
      refine lv_bipush (v := (8 : Int32)) hx hb dX9_type_24 (by decide) ?_
      refine lv_iload hx hb dX9_type_26 (lv_at hl 3 rfl) ?_
      refine lv_imul hx hb dX9_type_28 ?_
      refine lv_lshr (v := (l1 >>> (((8 : Int32) * l4).toInt64 &&& 63))) hx hb dX9_type_29 rfl ?_
      refine lv_ldc2 hx hb hown (hts _ kX9_type_3) dX9_type_30 ?_
      refine lv_land hx hb dX9_type_33 ?_
      refine lv_ldc2 hx hb hown (hts _ kX9_type_4) dX9_type_34 ?_
      refine lv_ldc2 hx hb hown (hts _ kX9_type_5) dX9_type_37 ?_
      obtain ⟨r7, h6, hF⟩ := b1_s hF
      refine cl_si (As := [.long ((l1 >>> (((8 : Int32) * l4).toInt64 &&& 63)) &&& (255 : Int64)), .long (32 : Int64), .long (126 : Int64)]) (rest := []) ⟨hx, hb, hml, hown, hts⟩ hK hP hD hS hA (c_X9_in l D ky  _ N   ((l1 >>> (((8 : Int32) * l4).toInt64 &&& 63)) &&& (255 : Int64)) (32 : Int64) (126 : Int64) r7 h6) (va_cwS 3 hts gX9_type_X9_in rfl rfl rfl (by decide +kernel) ⟨Nat.le_of_ble_eq_true rfl, Nat.le_of_ble_eq_true rfl⟩) rfl hl.1 (Nat.le_of_ble_eq_true rfl) dX9_type_40 ⟨Nat.zero_le _, Nat.zero_le _⟩ (fun H locs hP hD hS => ?_)
      refine lv_if_ne (tgt := 48) hx hb dX9_type_43 (by decide) (fun c8 => ?_) (fun c8 => ?_)
      · have hF := if_f c8 hF
        refine lv_iinc (v := (l4 + (1 : Int32))) (lv' := [(4, .int (l4 + (1 : Int32))), (0, .ref aM), (1, .long l1), (3, .int l3)]) hx hb dX9_type_48 hl (k := 3) rfl rfl (by decide) rfl (fun ls hl => ?_)
        refine lv_goto (tgt := 17) hx hb dX9_type_51 (by decide) ?_
        exact ih (l4 + (1 : Int32)) hF H _ _ hP hD hS (lv_sub hl [1, 2, 3, 0] rfl)
      · have hF := if_t c8 hF
        refine lv_iconst (v := (-1 : Int32)) hx hb dX9_type_46 (by decide) ?_
        have hF := Option.some.inj hF
        subst hF
        exact hQ _ H _ _ dX9_type_47 hP hD hS
set_option maxHeartbeats 4000000 in
set_option maxRecDepth 100000 in
theorem cr_X9_type (l : Launch) (D : va_G) (ky : Nat → ClassId) (aM mxs mus mys mgp mtp mme mle mlt mkl mln msz mit mmv : Nat) (sz N : Nat)  (mrm : Int32) (mer : Int32) (mtd : Int32) (mat : Int32) (mwr : Int32) (mkn : Int32) (mmb : Int32) (mwa : Int32) (mra : Int32) (mbl : Int32) (mbh : Int32) (dxs : Nat → Int32) (dus : Nat → Int32) (dys : Nat → Int32) (dgp : Nat → Int32) (dtp : Nat → Int32) (dme : Nat → Int32) (dle : Nat → Int32) (dlt : Nat → Int32) (dkl : Nat → Int32) (dln : Nat → Int32) (dsz : Nat → Int32) (dit : Nat → Int32) (dmv : Nat → Int32) (p0 : Int64) (p1 : Int32) (res : Int32 × Int32 × (Nat → Int32)) (hF : f_X9_type N p0 p1 mtd dtp = some res) : MI l yX9_type wsX9_type rm_X9_type D ky sz [.ref aM, .long p0, .int p1] (w_model ky aM mxs mus mys mgp mtp mme mle mlt mkl mln msz mit mmv mrm mer mtd mat mwr mkn mmb mwa mra mbl mbh dxs dus dys dgp dtp dme dle dlt dkl dln dsz dit dmv) (w_model ky aM mxs mus mys mgp mtp mme mle mlt mkl mln msz mit mmv mrm mer res.2.1 mat mwr mkn mmb mwa mra mbl mbh dxs dus dys dgp res.2.2 dme dle dlt dkl dln dsz dit dmv) res.1 := by
  unfold MI
  refine Met.ofW (cc := cX9_type) (maxL := 5) (ret := (some .int)) (by decide) rfl ?_
  intro p e s m args below meth c s₁ B hml hv
  obtain ⟨rfl, hsz, hP, hK, hD0⟩ := hv
  have hx := B.exec
  have hb := B.bytes
  have hr := B.returns
  have hts := atoms_spec (ws := wsX9_type) B.pre
  have hown : s.vm.findClass RX9 = some m.cls := findClass_of_methodNamed B.named
  have hlocks := B.notSynchronized
  subst hsz
  have hD := hD0.self (sz := s.heap.size)
  generalize hAe : va_A (w_model ky aM mxs mus mys mgp mtp mme mle mlt mkl mln msz mit mmv mrm mer mtd mat mwr mkn mmb mwa mra mbl mbh dxs dus dys dgp dtp dme dle dlt dkl dln dsz dit dmv) s.heap.size = A at hD ⊢
  have hA : ∀ q : Nat, s.heap.size ≤ q → A q := fun q h => by rw [← hAe]; exact Or.inr h
  have hS : va_S A s.heap s.heap [] := va_S.rf
  have hP : va_P D vwCl (w_model ky aM mxs mus mys mgp mtp mme mle mlt mkl mln msz mit mmv mrm mer mtd mat mwr mkn mmb mwa mra mbl mbh dxs dus dys dgp dtp dme dle dlt dkl dln dsz dit dmv) s.heap := hP
  have hl := lv_entry ([.ref aM, .long p0, .int p1]) (n := 5) (Nat.le_of_ble_eq_true rfl)
  rw [lg_entry_eq]
  generalize (lg_sl ([.ref aM, .long p0, .int p1]) ++ List.replicate (5 - (lg_sl ([.ref aM, .long p0, .int p1])).length) Slot.unset).toArray = ls at hl ⊢
  have hl : lv_has ls 5 [(0, .ref aM), (1, .long p0), (3, .int p1)] := hl
  have C : cx p s m c ([.ref aM, .long p0, .int p1]).toArray D ky A cX9_type 5 wsX9_type RX9 := ⟨hx, hb, hml, hown, hts, hK, hA⟩
  have hQ : ∀ (pc : Nat) (H : Heap) (locs : List Loc) (ls : Array Slot), decode cX9_type pc = .ok (.ireturn, 1) → va_P D vwCl (w_model ky aM mxs mus mys mgp mtp mme mle mlt mkl mln msz mit mmv mrm mer res.2.1 mat mwr mkn mmb mwa mra mbl mbh dxs dus dys dgp res.2.2 dme dle dlt dkl dln dsz dit dmv) H → va_D A (w_model ky aM mxs mus mys mgp mtp mme mle mlt mkl mln msz mit mmv mrm mer res.2.1 mat mwr mkn mmb mwa mra mbl mbh dxs dus dys dgp res.2.2 dme dle dlt dkl dln dsz dit dmv) → va_S A s.heap H locs → W p l e rm_X9_type s m ([.ref aM, .long p0, .int p1]).toArray below meth c H locs 0 0 (MQ below (va_Qi (S := Unit) (fun r _ => r = res.1) (fun _ t => va_P D vwCl (w_model ky aM mxs mus mys mgp mtp mme mle mlt mkl mln msz mit mmv mrm mer res.2.1 mat mwr mkn mmb mwa mra mbl mbh dxs dus dys dgp res.2.2 dme dle dlt dkl dln dsz dit dmv) t.heap ∧ va_K D vwCl (tyW ky) t ∧ va_D A (w_model ky aM mxs mus mys mgp mtp mme mle mlt mkl mln msz mit mmv mrm mer res.2.1 mat mwr mkn mmb mwa mra mbl mbh dxs dus dys dgp res.2.2 dme dle dlt dkl dln dsz dit dmv)) A) ([.ref aM, .long p0, .int p1]).toArray s 0 0 A) (F0 m pc ls [.int res.1]) := fun pc H locs ls hd hP hD hS => W.iret hx hb hr (fun t ht hW => ⟨⟨res.1, (), rfl, rfl, by rw [ht]; exact hP, va_K.moved hW.alike hK, hD⟩, hS.F ht⟩) hS.2.2 hd
  unfold f_X9_type at hF
  refine lv_iload_n hx hb dX9_type_0 rfl (lv_at hl 2 rfl) ?_
  refine lv_i2l (v := (p1.toInt64)) hx hb dX9_type_1 rfl ?_
  refine lv_lconst (v := (1 : Int64)) hx hb dX9_type_2 (by decide) ?_
  refine lv_ldc2 hx hb hown (hts _ kX9_type_0) dX9_type_3 ?_
  obtain ⟨r2, h1, hF⟩ := b1_s hF
  refine cl_si (As := [.long (p1.toInt64), .long (1 : Int64), .long (8 : Int64)]) (rest := []) ⟨hx, hb, hml, hown, hts⟩ hK hP hD hS hA (c_X9_in l D ky  _ N   (p1.toInt64) (1 : Int64) (8 : Int64) r2 h1) (va_cwS 3 hts gX9_type_X9_in rfl rfl rfl (by decide +kernel) ⟨Nat.le_of_ble_eq_true rfl, Nat.le_of_ble_eq_true rfl⟩) rfl hl.1 (Nat.le_of_ble_eq_true rfl) dX9_type_6 ⟨Nat.zero_le _, Nat.zero_le _⟩ (fun H locs hP hD hS => ?_)
  refine lv_if_ne (tgt := 14) hx hb dX9_type_9 (by decide) (fun c3 => ?_) (fun c3 => ?_)
  · have hF := if_f c3 hF
    refine lv_iconst (v := (0 : Int32)) hx hb dX9_type_14 (by decide) ?_
    refine lv_istore (lv' := [(4, .int (0 : Int32)), (0, .ref aM), (1, .long p0), (3, .int p1)]) hx hb dX9_type_15 hl (by decide) rfl (fun ls hl => ?_)
    exact w_X9_type_17 N C res hQ p0 p1 mtd dtp N (0 : Int32) hF _ _ _ hP hD hS (lv_sub hl [1, 2, 3, 0] rfl)
  · have hF := if_t c3 hF
    refine lv_iconst (v := (-1 : Int32)) hx hb dX9_type_12 (by decide) ?_
    have hF := Option.some.inj hF
    subst hF
    exact hQ _ _ _ _ dX9_type_13 hP hD hS
theorem c_X9_type (l : Launch) (D : va_G) (ky : Nat → ClassId) (aM mxs mus mys mgp mtp mme mle mlt mkl mln msz mit mmv : Nat) (sz N : Nat)  (mrm : Int32) (mer : Int32) (mtd : Int32) (mat : Int32) (mwr : Int32) (mkn : Int32) (mmb : Int32) (mwa : Int32) (mra : Int32) (mbl : Int32) (mbh : Int32) (dxs : Nat → Int32) (dus : Nat → Int32) (dys : Nat → Int32) (dgp : Nat → Int32) (dtp : Nat → Int32) (dme : Nat → Int32) (dle : Nat → Int32) (dlt : Nat → Int32) (dkl : Nat → Int32) (dln : Nat → Int32) (dsz : Nat → Int32) (dit : Nat → Int32) (dmv : Nat → Int32) (p0 : Int64) (p1 : Int32) (rv : Int32) (mtd' : Int32) (dtp' : Nat → Int32) (hF : f_X9_type N p0 p1 mtd dtp = some (rv, mtd', dtp')) : MI l yX9_type wsX9_type rm_X9_type D ky sz [.ref aM, .long p0, .int p1] (w_model ky aM mxs mus mys mgp mtp mme mle mlt mkl mln msz mit mmv mrm mer mtd mat mwr mkn mmb mwa mra mbl mbh dxs dus dys dgp dtp dme dle dlt dkl dln dsz dit dmv) (w_model ky aM mxs mus mys mgp mtp mme mle mlt mkl mln msz mit mmv mrm mer mtd' mat mwr mkn mmb mwa mra mbl mbh dxs dus dys dgp dtp' dme dle dlt dkl dln dsz dit dmv) rv :=
  cr_X9_type l D ky aM mxs mus mys mgp mtp mme mle mlt mkl mln msz mit mmv sz N mrm mer mtd mat mwr mkn mmb mwa mra mbl mbh dxs dus dys dgp dtp dme dle dlt dkl dln dsz dit dmv p0 p1 (rv, mtd', dtp') hF
abbrev rm_X9_next : Room := { frames := 0, cells := 0, slots := 0, locals := 0 }
theorem iX9_next_X9 : ∀ w ∈ wsX90, w ∈ wsX9_next := by decide +kernel
theorem kX9_next_1 : (Cond.fieldLink RX9 96 "TwoLawsModel" "at" "I") ∈ wsX9_next := by decide +kernel
theorem kX9_next_2 : (Cond.fieldLink RX9 93 "TwoLawsModel" "taped" "I") ∈ wsX9_next := by decide +kernel
theorem kX9_next_3 : (Cond.fieldLink RX9 27 "TwoLawsModel" "tape" "[I") ∈ wsX9_next := by decide +kernel
set_option maxHeartbeats 4000000 in
set_option maxRecDepth 100000 in
theorem w_X9_next_38 {p : Program} {l : Launch} {e : Env} {s : State} {m : MethodId} {args : Array Value} {below : List Frame} {meth : Method} {c : Code} {Q : State → Prop} {A : Nat → Prop} {D : va_G} {ky : Nat → ClassId} {aM mxs mus mys mgp mtp mme mle mlt mkl mln msz mit mmv : Nat} {mrm : Int32} {mer : Int32} {mtd : Int32} {mwr : Int32} {mkn : Int32} {mmb : Int32} {mwa : Int32} {mra : Int32} {mbl : Int32} {mbh : Int32} {dxs : Nat → Int32} {dus : Nat → Int32} {dys : Nat → Int32} {dgp : Nat → Int32} {dtp : Nat → Int32} {dme : Nat → Int32} {dle : Nat → Int32} {dlt : Nat → Int32} {dkl : Nat → Int32} {dln : Nat → Int32} {dsz : Nat → Int32} {dit : Nat → Int32} {dmv : Nat → Int32} (N : Nat) (C : cx p s m c args D ky A cX9_next 1 wsX9_next RX9) (res : Int32 × Int32) (hQ : ∀ (pc : Nat) (H : Heap) (locs : List Loc) (ls : Array Slot), decode cX9_next pc = .ok (.ireturn, 1) → va_P D vwCl (w_model ky aM mxs mus mys mgp mtp mme mle mlt mkl mln msz mit mmv mrm mer mtd res.2 mwr mkn mmb mwa mra mbl mbh dxs dus dys dgp dtp dme dle dlt dkl dln dsz dit dmv) H → va_D A (w_model ky aM mxs mus mys mgp mtp mme mle mlt mkl mln msz mit mmv mrm mer mtd res.2 mwr mkn mmb mwa mra mbl mbh dxs dus dys dgp dtp dme dle dlt dkl dln dsz dit dmv) → va_S A s.heap H locs → W p l e rm_X9_next s m args below meth c H locs 0 0 Q (F0 m pc ls [.int res.1]))  (mat : Int32) (hF : f_X9_next_38 N mtd mat dtp = some res) : ∀ (H : Heap) (locs : List Loc) (ls : Array Slot), va_P D vwCl (w_model ky aM mxs mus mys mgp mtp mme mle mlt mkl mln msz mit mmv mrm mer mtd mat mwr mkn mmb mwa mra mbl mbh dxs dus dys dgp dtp dme dle dlt dkl dln dsz dit dmv) H → va_D A (w_model ky aM mxs mus mys mgp mtp mme mle mlt mkl mln msz mit mmv mrm mer mtd mat mwr mkn mmb mwa mra mbl mbh dxs dus dys dgp dtp dme dle dlt dkl dln dsz dit dmv) → va_S A s.heap H locs → lv_has ls 1 [(0, .ref aM)] → W p l e rm_X9_next s m args below meth c H locs 0 0 Q (F0 m 38 ls []) := by
  obtain ⟨hx, hb, hml, hown, hts, hK, hA⟩ := id C
  intro H locs ls hP hD hS hl
  unfold f_X9_next_38 at hF
  refine lv_aload_n hx hb dX9_next_38 rfl (lv_at hl 0 rfl) ?_
  refine va_get (D := D) (ci := 8) (v := .int mat) (C := RX9) (T := TX9) (N := 24) hx hb hts iX9_next_X9 hown hK hP 0 rfl rfl 8 (by decide) (hts _ kX9_next_1) (fun _ h9 => h9) rfl dX9_next_39 ?_
  refine lv_aload_n hx hb dX9_next_42 rfl (lv_at hl 0 rfl) ?_
  refine va_get (D := D) (ci := 8) (v := .int mtd) (C := RX9) (T := TX9) (N := 24) hx hb hts iX9_next_X9 hown hK hP 0 rfl rfl 7 (by decide) (hts _ kX9_next_2) (fun _ h9 => h9) rfl dX9_next_43 ?_
  refine lv_icmp_ge (tgt := 61) hx hb dX9_next_46 (by decide) (fun c4 => ?_) (fun c4 => ?_)
  · have hF := if_t c4 hF
    refine lv_iconst (v := (0 : Int32)) hx hb dX9_next_61 (by decide) ?_
    have hF := Option.some.inj hF
    subst hF
    exact hQ _ H _ _ dX9_next_62 hP hD hS
  · have hF := if_f c4 hF
    refine lv_aload_n hx hb dX9_next_49 rfl (lv_at hl 0 rfl) ?_
    refine va_get (D := D) (ci := 8) (v := .ref mtp) (C := RX9) (T := TX9) (N := 24) hx hb hts iX9_next_X9 hown hK hP 0 rfl rfl 6 (by decide) (hts _ kX9_next_3) (fun _ h9 => h9) rfl dX9_next_50 ?_
    refine lv_aload_n hx hb dX9_next_53 rfl (lv_at hl 0 rfl) ?_
    refine va_get (D := D) (ci := 8) (v := .int mat) (C := RX9) (T := TX9) (N := 24) hx hb hts iX9_next_X9 hown hK hP 0 rfl rfl 8 (by decide) (hts _ kX9_next_1) (fun _ h9 => h9) rfl dX9_next_54 ?_
    obtain ⟨h5, hF⟩ := gi_s hF
    refine va_iald hx hb hK hP 5 0 rfl rfl h5 dX9_next_57 ?_
    refine lv_goto (tgt := 62) hx hb dX9_next_58 (by decide) ?_
    have hF := Option.some.inj hF
    subst hF
    exact hQ _ H _ _ dX9_next_62 hP hD hS
set_option maxHeartbeats 4000000 in
set_option maxRecDepth 100000 in
theorem w_X9_next_0 {p : Program} {l : Launch} {e : Env} {s : State} {m : MethodId} {args : Array Value} {below : List Frame} {meth : Method} {c : Code} {Q : State → Prop} {A : Nat → Prop} {D : va_G} {ky : Nat → ClassId} {aM mxs mus mys mgp mtp mme mle mlt mkl mln msz mit mmv : Nat} {mrm : Int32} {mer : Int32} {mtd : Int32} {mwr : Int32} {mkn : Int32} {mmb : Int32} {mwa : Int32} {mra : Int32} {mbl : Int32} {mbh : Int32} {dxs : Nat → Int32} {dus : Nat → Int32} {dys : Nat → Int32} {dgp : Nat → Int32} {dtp : Nat → Int32} {dme : Nat → Int32} {dle : Nat → Int32} {dlt : Nat → Int32} {dkl : Nat → Int32} {dln : Nat → Int32} {dsz : Nat → Int32} {dit : Nat → Int32} {dmv : Nat → Int32} (N : Nat) (C : cx p s m c args D ky A cX9_next 1 wsX9_next RX9) (res : Int32 × Int32) (hQ : ∀ (pc : Nat) (H : Heap) (locs : List Loc) (ls : Array Slot), decode cX9_next pc = .ok (.ireturn, 1) → va_P D vwCl (w_model ky aM mxs mus mys mgp mtp mme mle mlt mkl mln msz mit mmv mrm mer mtd res.2 mwr mkn mmb mwa mra mbl mbh dxs dus dys dgp dtp dme dle dlt dkl dln dsz dit dmv) H → va_D A (w_model ky aM mxs mus mys mgp mtp mme mle mlt mkl mln msz mit mmv mrm mer mtd res.2 mwr mkn mmb mwa mra mbl mbh dxs dus dys dgp dtp dme dle dlt dkl dln dsz dit dmv) → va_S A s.heap H locs → W p l e rm_X9_next s m args below meth c H locs 0 0 Q (F0 m pc ls [.int res.1]))  : ∀ (n : Nat) (mat : Int32), f_X9_next_0 N mtd dtp n mat = some res → ∀ (H : Heap) (locs : List Loc) (ls : Array Slot), va_P D vwCl (w_model ky aM mxs mus mys mgp mtp mme mle mlt mkl mln msz mit mmv mrm mer mtd mat mwr mkn mmb mwa mra mbl mbh dxs dus dys dgp dtp dme dle dlt dkl dln dsz dit dmv) H → va_D A (w_model ky aM mxs mus mys mgp mtp mme mle mlt mkl mln msz mit mmv mrm mer mtd mat mwr mkn mmb mwa mra mbl mbh dxs dus dys dgp dtp dme dle dlt dkl dln dsz dit dmv) → va_S A s.heap H locs → lv_has ls 1 [(0, .ref aM)] → W p l e rm_X9_next s m args below meth c H locs 0 0 Q (F0 m 0 ls []) := by
  obtain ⟨hx, hb, hml, hown, hts, hK, hA⟩ := id C
  intro n
  induction n with
  | zero =>
    intro mat hF
    cases hF
  | succ n ih =>
    intro mat hF H locs ls hP hD hS hl
    have hF : b_X9_next_0 N mtd dtp (f_X9_next_0 N mtd dtp n) mat = some res := hF
    unfold b_X9_next_0 at hF
    refine lv_aload_n hx hb dX9_next_0 rfl (lv_at hl 0 rfl) ?_
    refine va_get (D := D) (ci := 8) (v := .int mat) (C := RX9) (T := TX9) (N := 24) hx hb hts iX9_next_X9 hown hK hP 0 rfl rfl 8 (by decide) (hts _ kX9_next_1) (fun _ h9 => h9) rfl dX9_next_1 ?_
    refine lv_aload_n hx hb dX9_next_4 rfl (lv_at hl 0 rfl) ?_
    refine va_get (D := D) (ci := 8) (v := .int mtd) (C := RX9) (T := TX9) (N := 24) hx hb hts iX9_next_X9 hown hK hP 0 rfl rfl 7 (by decide) (hts _ kX9_next_2) (fun _ h9 => h9) rfl dX9_next_5 ?_
    refine lv_icmp_ge (tgt := 38) hx hb dX9_next_8 (by decide) (fun c1 => ?_) (fun c1 => ?_)
    · have hF := if_t c1 hF
      exact w_X9_next_38 N C res hQ mat hF H _ _ hP hD hS (lv_sub hl [0] rfl)
    · have hF := if_f c1 hF
      refine lv_aload_n hx hb dX9_next_11 rfl (lv_at hl 0 rfl) ?_
      refine va_get (D := D) (ci := 8) (v := .ref mtp) (C := RX9) (T := TX9) (N := 24) hx hb hts iX9_next_X9 hown hK hP 0 rfl rfl 6 (by decide) (hts _ kX9_next_3) (fun _ h9 => h9) rfl dX9_next_12 ?_
      refine lv_aload_n hx hb dX9_next_15 rfl (lv_at hl 0 rfl) ?_
      refine va_get (D := D) (ci := 8) (v := .int mat) (C := RX9) (T := TX9) (N := 24) hx hb hts iX9_next_X9 hown hK hP 0 rfl rfl 8 (by decide) (hts _ kX9_next_1) (fun _ h9 => h9) rfl dX9_next_16 ?_
      obtain ⟨h2, hF⟩ := gi_s hF
      refine va_iald hx hb hK hP 5 0 rfl rfl h2 dX9_next_19 ?_
      refine lv_bipush (v := (32 : Int32)) hx hb dX9_next_20 (by decide) ?_
      refine lv_icmp_ne (tgt := 38) hx hb dX9_next_22 (by decide) (fun c3 => ?_) (fun c3 => ?_)
      · have hF := if_f c3 hF
        exact w_X9_next_38 N C res hQ mat hF H _ _ hP hD hS (lv_sub hl [0] rfl)
      · have hF := if_t c3 hF
        refine lv_aload_n hx hb dX9_next_25 rfl (lv_at hl 0 rfl) ?_
        refine lv_dup hx hb dX9_next_26 rfl ?_
        refine va_get (D := D) (ci := 8) (v := .int mat) (C := RX9) (T := TX9) (N := 24) hx hb hts iX9_next_X9 hown hK hP 0 rfl rfl 8 (by decide) (hts _ kX9_next_1) (fun _ h9 => h9) rfl dX9_next_27 ?_
        refine lv_iconst (v := (1 : Int32)) hx hb dX9_next_30 (by decide) ?_
        refine lv_iadd hx hb dX9_next_31 ?_
        refine va_put (D := D) (ci := 8) (v := .int (mat + (1 : Int32))) (ty := .int) (C := RX9) (T := TX9) (N := 24) hx hb hts iX9_next_X9 tyX9 tyX9_ok nmX9 hown hK hP hD hS 0 rfl rfl 8 (by decide) (hts _ kX9_next_1) (fun _ h9 => h9) rfl (by decide +kernel) rfl rfl (Nat.le_of_ble_eq_true rfl) dX9_next_32 (fun H locs hP hD hS => ?_)
        have hP : va_P D vwCl (w_model ky aM mxs mus mys mgp mtp mme mle mlt mkl mln msz mit mmv mrm mer mtd (mat + (1 : Int32)) mwr mkn mmb mwa mra mbl mbh dxs dus dys dgp dtp dme dle dlt dkl dln dsz dit dmv) H := hP
        have hD : va_D A (w_model ky aM mxs mus mys mgp mtp mme mle mlt mkl mln msz mit mmv mrm mer mtd (mat + (1 : Int32)) mwr mkn mmb mwa mra mbl mbh dxs dus dys dgp dtp dme dle dlt dkl dln dsz dit dmv) := hD
        refine lv_goto (tgt := 0) hx hb dX9_next_35 (by decide) ?_
        exact ih (mat + (1 : Int32)) hF H _ _ hP hD hS (lv_sub hl [0] rfl)
set_option maxHeartbeats 4000000 in
set_option maxRecDepth 100000 in
theorem cr_X9_next (l : Launch) (D : va_G) (ky : Nat → ClassId) (aM mxs mus mys mgp mtp mme mle mlt mkl mln msz mit mmv : Nat) (sz N : Nat)  (mrm : Int32) (mer : Int32) (mtd : Int32) (mat : Int32) (mwr : Int32) (mkn : Int32) (mmb : Int32) (mwa : Int32) (mra : Int32) (mbl : Int32) (mbh : Int32) (dxs : Nat → Int32) (dus : Nat → Int32) (dys : Nat → Int32) (dgp : Nat → Int32) (dtp : Nat → Int32) (dme : Nat → Int32) (dle : Nat → Int32) (dlt : Nat → Int32) (dkl : Nat → Int32) (dln : Nat → Int32) (dsz : Nat → Int32) (dit : Nat → Int32) (dmv : Nat → Int32)  (res : Int32 × Int32) (hF : f_X9_next N mtd mat dtp = some res) : MI l yX9_next wsX9_next rm_X9_next D ky sz [.ref aM] (w_model ky aM mxs mus mys mgp mtp mme mle mlt mkl mln msz mit mmv mrm mer mtd mat mwr mkn mmb mwa mra mbl mbh dxs dus dys dgp dtp dme dle dlt dkl dln dsz dit dmv) (w_model ky aM mxs mus mys mgp mtp mme mle mlt mkl mln msz mit mmv mrm mer mtd res.2 mwr mkn mmb mwa mra mbl mbh dxs dus dys dgp dtp dme dle dlt dkl dln dsz dit dmv) res.1 := by
  unfold MI
  refine Met.ofW (cc := cX9_next) (maxL := 1) (ret := (some .int)) (by decide) rfl ?_
  intro p e s m args below meth c s₁ B hml hv
  obtain ⟨rfl, hsz, hP, hK, hD0⟩ := hv
  have hx := B.exec
  have hb := B.bytes
  have hr := B.returns
  have hts := atoms_spec (ws := wsX9_next) B.pre
  have hown : s.vm.findClass RX9 = some m.cls := findClass_of_methodNamed B.named
  have hlocks := B.notSynchronized
  subst hsz
  have hD := hD0.self (sz := s.heap.size)
  generalize hAe : va_A (w_model ky aM mxs mus mys mgp mtp mme mle mlt mkl mln msz mit mmv mrm mer mtd mat mwr mkn mmb mwa mra mbl mbh dxs dus dys dgp dtp dme dle dlt dkl dln dsz dit dmv) s.heap.size = A at hD ⊢
  have hA : ∀ q : Nat, s.heap.size ≤ q → A q := fun q h => by rw [← hAe]; exact Or.inr h
  have hS : va_S A s.heap s.heap [] := va_S.rf
  have hP : va_P D vwCl (w_model ky aM mxs mus mys mgp mtp mme mle mlt mkl mln msz mit mmv mrm mer mtd mat mwr mkn mmb mwa mra mbl mbh dxs dus dys dgp dtp dme dle dlt dkl dln dsz dit dmv) s.heap := hP
  have hl := lv_entry ([.ref aM]) (n := 1) (Nat.le_of_ble_eq_true rfl)
  rw [lg_entry_eq]
  generalize (lg_sl ([.ref aM]) ++ List.replicate (1 - (lg_sl ([.ref aM])).length) Slot.unset).toArray = ls at hl ⊢
  have hl : lv_has ls 1 [(0, .ref aM)] := hl
  have C : cx p s m c ([.ref aM]).toArray D ky A cX9_next 1 wsX9_next RX9 := ⟨hx, hb, hml, hown, hts, hK, hA⟩
  have hQ : ∀ (pc : Nat) (H : Heap) (locs : List Loc) (ls : Array Slot), decode cX9_next pc = .ok (.ireturn, 1) → va_P D vwCl (w_model ky aM mxs mus mys mgp mtp mme mle mlt mkl mln msz mit mmv mrm mer mtd res.2 mwr mkn mmb mwa mra mbl mbh dxs dus dys dgp dtp dme dle dlt dkl dln dsz dit dmv) H → va_D A (w_model ky aM mxs mus mys mgp mtp mme mle mlt mkl mln msz mit mmv mrm mer mtd res.2 mwr mkn mmb mwa mra mbl mbh dxs dus dys dgp dtp dme dle dlt dkl dln dsz dit dmv) → va_S A s.heap H locs → W p l e rm_X9_next s m ([.ref aM]).toArray below meth c H locs 0 0 (MQ below (va_Qi (S := Unit) (fun r _ => r = res.1) (fun _ t => va_P D vwCl (w_model ky aM mxs mus mys mgp mtp mme mle mlt mkl mln msz mit mmv mrm mer mtd res.2 mwr mkn mmb mwa mra mbl mbh dxs dus dys dgp dtp dme dle dlt dkl dln dsz dit dmv) t.heap ∧ va_K D vwCl (tyW ky) t ∧ va_D A (w_model ky aM mxs mus mys mgp mtp mme mle mlt mkl mln msz mit mmv mrm mer mtd res.2 mwr mkn mmb mwa mra mbl mbh dxs dus dys dgp dtp dme dle dlt dkl dln dsz dit dmv)) A) ([.ref aM]).toArray s 0 0 A) (F0 m pc ls [.int res.1]) := fun pc H locs ls hd hP hD hS => W.iret hx hb hr (fun t ht hW => ⟨⟨res.1, (), rfl, rfl, by rw [ht]; exact hP, va_K.moved hW.alike hK, hD⟩, hS.F ht⟩) hS.2.2 hd
  unfold f_X9_next at hF
  exact w_X9_next_0 N C res hQ  N mat hF _ _ _ hP hD hS (lv_sub hl [0] rfl)
theorem c_X9_next (l : Launch) (D : va_G) (ky : Nat → ClassId) (aM mxs mus mys mgp mtp mme mle mlt mkl mln msz mit mmv : Nat) (sz N : Nat)  (mrm : Int32) (mer : Int32) (mtd : Int32) (mat : Int32) (mwr : Int32) (mkn : Int32) (mmb : Int32) (mwa : Int32) (mra : Int32) (mbl : Int32) (mbh : Int32) (dxs : Nat → Int32) (dus : Nat → Int32) (dys : Nat → Int32) (dgp : Nat → Int32) (dtp : Nat → Int32) (dme : Nat → Int32) (dle : Nat → Int32) (dlt : Nat → Int32) (dkl : Nat → Int32) (dln : Nat → Int32) (dsz : Nat → Int32) (dit : Nat → Int32) (dmv : Nat → Int32)  (rv : Int32) (mat' : Int32) (hF : f_X9_next N mtd mat dtp = some (rv, mat')) : MI l yX9_next wsX9_next rm_X9_next D ky sz [.ref aM] (w_model ky aM mxs mus mys mgp mtp mme mle mlt mkl mln msz mit mmv mrm mer mtd mat mwr mkn mmb mwa mra mbl mbh dxs dus dys dgp dtp dme dle dlt dkl dln dsz dit dmv) (w_model ky aM mxs mus mys mgp mtp mme mle mlt mkl mln msz mit mmv mrm mer mtd mat' mwr mkn mmb mwa mra mbl mbh dxs dus dys dgp dtp dme dle dlt dkl dln dsz dit dmv) rv :=
  cr_X9_next l D ky aM mxs mus mys mgp mtp mme mle mlt mkl mln msz mit mmv sz N mrm mer mtd mat mwr mkn mmb mwa mra mbl mbh dxs dus dys dgp dtp dme dle dlt dkl dln dsz dit dmv (rv, mat') hF
abbrev rm_X9_passes : Room := { frames := 1, cells := 0, slots := 0, locals := 20 }
theorem iX9_passes_X9 : ∀ w ∈ wsX90, w ∈ wsX9_passes := by decide +kernel
theorem kX9_passes_1 : (Cond.fieldLink RX9 99 "TwoLawsModel" "wrong" "Z") ∈ wsX9_passes := by decide +kernel
theorem kX9_passes_2 : (Cond.fieldLink RX9 96 "TwoLawsModel" "at" "I") ∈ wsX9_passes := by decide +kernel
set_option maxHeartbeats 4000000 in
set_option maxRecDepth 100000 in
theorem w_X9_passes_20 {p : Program} {l : Launch} {e : Env} {s : State} {m : MethodId} {args : Array Value} {below : List Frame} {meth : Method} {c : Code} {Q : State → Prop} {A : Nat → Prop} {D : va_G} {ky : Nat → ClassId} {aM mxs mus mys mgp mtp mme mle mlt mkl mln msz mit mmv : Nat} {mrm : Int32} {mer : Int32} {mtd : Int32} {mwr : Int32} {mkn : Int32} {mmb : Int32} {mwa : Int32} {mra : Int32} {mbl : Int32} {mbh : Int32} {dxs : Nat → Int32} {dus : Nat → Int32} {dys : Nat → Int32} {dgp : Nat → Int32} {dtp : Nat → Int32} {dme : Nat → Int32} {dle : Nat → Int32} {dlt : Nat → Int32} {dkl : Nat → Int32} {dln : Nat → Int32} {dsz : Nat → Int32} {dit : Nat → Int32} {dmv : Nat → Int32} (N : Nat) (C : cx p s m c args D ky A cX9_passes 3 wsX9_passes RX9) (res : Int32 × Int32) (hQ : ∀ (pc : Nat) (H : Heap) (locs : List Loc) (ls : Array Slot), decode cX9_passes pc = .ok (.ireturn, 1) → (res.1 = 0 ∨ res.1 = 1) → va_P D vwCl (w_model ky aM mxs mus mys mgp mtp mme mle mlt mkl mln msz mit mmv mrm mer mtd res.2 mwr mkn mmb mwa mra mbl mbh dxs dus dys dgp dtp dme dle dlt dkl dln dsz dit dmv) H → va_D A (w_model ky aM mxs mus mys mgp mtp mme mle mlt mkl mln msz mit mmv mrm mer mtd res.2 mwr mkn mmb mwa mra mbl mbh dxs dus dys dgp dtp dme dle dlt dkl dln dsz dit dmv) → va_S A s.heap H locs → W p l e rm_X9_passes s m args below meth c H locs 0 0 Q (F0 m pc ls [.int res.1]))  (t0 : Int32) (mat : Int32) (hF : f_X9_passes_20 N t0 mat = some res) : ∀ (H : Heap) (locs : List Loc) (ls : Array Slot), va_P D vwCl (w_model ky aM mxs mus mys mgp mtp mme mle mlt mkl mln msz mit mmv mrm mer mtd mat mwr mkn mmb mwa mra mbl mbh dxs dus dys dgp dtp dme dle dlt dkl dln dsz dit dmv) H → va_D A (w_model ky aM mxs mus mys mgp mtp mme mle mlt mkl mln msz mit mmv mrm mer mtd mat mwr mkn mmb mwa mra mbl mbh dxs dus dys dgp dtp dme dle dlt dkl dln dsz dit dmv) → va_S A s.heap H locs → lv_has ls 3 [(0, .ref aM)] → W p l e rm_X9_passes s m args below meth c H locs 0 0 Q (F0 m 20 ls [.int t0]) := by
  obtain ⟨hx, hb, hml, hown, hts, hK, hA⟩ := id C
  intro H locs ls hP hD hS hl
  unfold f_X9_passes_20 at hF
  refine lv_istore_n (lv' := [(2, .int t0), (0, .ref aM)]) hx hb dX9_passes_20 rfl hl (by decide) rfl (fun ls hl => ?_)
  refine lv_aload_n hx hb dX9_passes_21 rfl (lv_at hl 1 rfl) ?_
  refine lv_dup hx hb dX9_passes_22 rfl ?_
  refine va_get (D := D) (ci := 8) (v := .int mat) (C := RX9) (T := TX9) (N := 24) hx hb hts iX9_passes_X9 hown hK hP 0 rfl rfl 8 (by decide) (hts _ kX9_passes_2) (fun _ h9 => h9) rfl dX9_passes_23 ?_
  refine lv_iload_n hx hb dX9_passes_26 rfl (lv_at hl 0 rfl) ?_
  refine lv_if_eq (tgt := 34) hx hb dX9_passes_27 (by decide) (fun c6 => ?_) (fun c6 => ?_)
  · have hF := if_t c6 hF
    refine lv_iconst (v := (0 : Int32)) hx hb dX9_passes_34 (by decide) ?_
    refine lv_iadd hx hb dX9_passes_35 ?_
    refine va_put (D := D) (ci := 8) (v := .int (mat + (0 : Int32))) (ty := .int) (C := RX9) (T := TX9) (N := 24) hx hb hts iX9_passes_X9 tyX9 tyX9_ok nmX9 hown hK hP hD hS 0 rfl rfl 8 (by decide) (hts _ kX9_passes_2) (fun _ h9 => h9) rfl (by decide +kernel) rfl rfl (Nat.le_of_ble_eq_true rfl) dX9_passes_36 (fun H locs hP hD hS => ?_)
    have hP : va_P D vwCl (w_model ky aM mxs mus mys mgp mtp mme mle mlt mkl mln msz mit mmv mrm mer mtd (mat + (0 : Int32)) mwr mkn mmb mwa mra mbl mbh dxs dus dys dgp dtp dme dle dlt dkl dln dsz dit dmv) H := hP
    have hD : va_D A (w_model ky aM mxs mus mys mgp mtp mme mle mlt mkl mln msz mit mmv mrm mer mtd (mat + (0 : Int32)) mwr mkn mmb mwa mra mbl mbh dxs dus dys dgp dtp dme dle dlt dkl dln dsz dit dmv) := hD
    refine lv_iload_n hx hb dX9_passes_39 rfl (lv_at hl 0 rfl) ?_
    obtain ⟨h7, hF⟩ := gz_s hF
    have hF := Option.some.inj hF
    subst hF
    exact hQ _ H _ _ dX9_passes_40 h7 hP hD hS
  · have hF := if_f c6 hF
    refine lv_iconst (v := (1 : Int32)) hx hb dX9_passes_30 (by decide) ?_
    refine lv_goto (tgt := 35) hx hb dX9_passes_31 (by decide) ?_
    refine lv_iadd hx hb dX9_passes_35 ?_
    refine va_put (D := D) (ci := 8) (v := .int (mat + (1 : Int32))) (ty := .int) (C := RX9) (T := TX9) (N := 24) hx hb hts iX9_passes_X9 tyX9 tyX9_ok nmX9 hown hK hP hD hS 0 rfl rfl 8 (by decide) (hts _ kX9_passes_2) (fun _ h9 => h9) rfl (by decide +kernel) rfl rfl (Nat.le_of_ble_eq_true rfl) dX9_passes_36 (fun H locs hP hD hS => ?_)
    have hP : va_P D vwCl (w_model ky aM mxs mus mys mgp mtp mme mle mlt mkl mln msz mit mmv mrm mer mtd (mat + (1 : Int32)) mwr mkn mmb mwa mra mbl mbh dxs dus dys dgp dtp dme dle dlt dkl dln dsz dit dmv) H := hP
    have hD : va_D A (w_model ky aM mxs mus mys mgp mtp mme mle mlt mkl mln msz mit mmv mrm mer mtd (mat + (1 : Int32)) mwr mkn mmb mwa mra mbl mbh dxs dus dys dgp dtp dme dle dlt dkl dln dsz dit dmv) := hD
    refine lv_iload_n hx hb dX9_passes_39 rfl (lv_at hl 0 rfl) ?_
    obtain ⟨h8, hF⟩ := gz_s hF
    have hF := Option.some.inj hF
    subst hF
    exact hQ _ H _ _ dX9_passes_40 h8 hP hD hS
set_option maxHeartbeats 4000000 in
set_option maxRecDepth 100000 in
theorem cr_X9_passes (l : Launch) (D : va_G) (ky : Nat → ClassId) (aM mxs mus mys mgp mtp mme mle mlt mkl mln msz mit mmv : Nat) (sz N : Nat)  (mrm : Int32) (mer : Int32) (mtd : Int32) (mat : Int32) (mwr : Int32) (mkn : Int32) (mmb : Int32) (mwa : Int32) (mra : Int32) (mbl : Int32) (mbh : Int32) (dxs : Nat → Int32) (dus : Nat → Int32) (dys : Nat → Int32) (dgp : Nat → Int32) (dtp : Nat → Int32) (dme : Nat → Int32) (dle : Nat → Int32) (dlt : Nat → Int32) (dkl : Nat → Int32) (dln : Nat → Int32) (dsz : Nat → Int32) (dit : Nat → Int32) (dmv : Nat → Int32) (p0 : Int32) (res : Int32 × Int32) (hF : f_X9_passes N p0 mtd mat mwr dtp = some res) : MI l yX9_passes wsX9_passes rm_X9_passes D ky sz [.ref aM, .int p0] (w_model ky aM mxs mus mys mgp mtp mme mle mlt mkl mln msz mit mmv mrm mer mtd mat mwr mkn mmb mwa mra mbl mbh dxs dus dys dgp dtp dme dle dlt dkl dln dsz dit dmv) (w_model ky aM mxs mus mys mgp mtp mme mle mlt mkl mln msz mit mmv mrm mer mtd res.2 mwr mkn mmb mwa mra mbl mbh dxs dus dys dgp dtp dme dle dlt dkl dln dsz dit dmv) res.1 := by
  unfold MI
  refine Met.ofW (cc := cX9_passes) (maxL := 3) (ret := (some .boolean)) (by decide) rfl ?_
  intro p e s m args below meth c s₁ B hml hv
  obtain ⟨rfl, hsz, hP, hK, hD0⟩ := hv
  have hx := B.exec
  have hb := B.bytes
  have hr := B.returns
  have hts := atoms_spec (ws := wsX9_passes) B.pre
  have hown : s.vm.findClass RX9 = some m.cls := findClass_of_methodNamed B.named
  have hlocks := B.notSynchronized
  subst hsz
  have hD := hD0.self (sz := s.heap.size)
  generalize hAe : va_A (w_model ky aM mxs mus mys mgp mtp mme mle mlt mkl mln msz mit mmv mrm mer mtd mat mwr mkn mmb mwa mra mbl mbh dxs dus dys dgp dtp dme dle dlt dkl dln dsz dit dmv) s.heap.size = A at hD ⊢
  have hA : ∀ q : Nat, s.heap.size ≤ q → A q := fun q h => by rw [← hAe]; exact Or.inr h
  have hS : va_S A s.heap s.heap [] := va_S.rf
  have hP : va_P D vwCl (w_model ky aM mxs mus mys mgp mtp mme mle mlt mkl mln msz mit mmv mrm mer mtd mat mwr mkn mmb mwa mra mbl mbh dxs dus dys dgp dtp dme dle dlt dkl dln dsz dit dmv) s.heap := hP
  have hl := lv_entry ([.ref aM, .int p0]) (n := 3) (Nat.le_of_ble_eq_true rfl)
  rw [lg_entry_eq]
  generalize (lg_sl ([.ref aM, .int p0]) ++ List.replicate (3 - (lg_sl ([.ref aM, .int p0])).length) Slot.unset).toArray = ls at hl ⊢
  have hl : lv_has ls 3 [(0, .ref aM), (1, .int p0)] := hl
  have C : cx p s m c ([.ref aM, .int p0]).toArray D ky A cX9_passes 3 wsX9_passes RX9 := ⟨hx, hb, hml, hown, hts, hK, hA⟩
  have hQ : ∀ (pc : Nat) (H : Heap) (locs : List Loc) (ls : Array Slot), decode cX9_passes pc = .ok (.ireturn, 1) → (res.1 = 0 ∨ res.1 = 1) → va_P D vwCl (w_model ky aM mxs mus mys mgp mtp mme mle mlt mkl mln msz mit mmv mrm mer mtd res.2 mwr mkn mmb mwa mra mbl mbh dxs dus dys dgp dtp dme dle dlt dkl dln dsz dit dmv) H → va_D A (w_model ky aM mxs mus mys mgp mtp mme mle mlt mkl mln msz mit mmv mrm mer mtd res.2 mwr mkn mmb mwa mra mbl mbh dxs dus dys dgp dtp dme dle dlt dkl dln dsz dit dmv) → va_S A s.heap H locs → W p l e rm_X9_passes s m ([.ref aM, .int p0]).toArray below meth c H locs 0 0 (MQ below (va_Qi (S := Unit) (fun r _ => r = res.1) (fun _ t => va_P D vwCl (w_model ky aM mxs mus mys mgp mtp mme mle mlt mkl mln msz mit mmv mrm mer mtd res.2 mwr mkn mmb mwa mra mbl mbh dxs dus dys dgp dtp dme dle dlt dkl dln dsz dit dmv) t.heap ∧ va_K D vwCl (tyW ky) t ∧ va_D A (w_model ky aM mxs mus mys mgp mtp mme mle mlt mkl mln msz mit mmv mrm mer mtd res.2 mwr mkn mmb mwa mra mbl mbh dxs dus dys dgp dtp dme dle dlt dkl dln dsz dit dmv)) A) ([.ref aM, .int p0]).toArray s 0 0 A) (F0 m pc ls [.int res.1]) := fun pc H locs ls hd hz hP hD hS => W.zret hx hb hr (gz_n hz) (fun t ht hW => ⟨⟨res.1, (), rfl, rfl, by rw [ht]; exact hP, va_K.moved hW.alike hK, hD⟩, hS.F ht⟩) hS.2.2 hd
  unfold f_X9_passes at hF
  refine lv_aload_n hx hb dX9_passes_0 rfl (lv_at hl 0 rfl) ?_
  refine va_get (D := D) (ci := 8) (v := .int mwr) (C := RX9) (T := TX9) (N := 24) hx hb hts iX9_passes_X9 hown hK hP 0 rfl rfl 9 (by decide) (hts _ kX9_passes_1) (fun _ h9 => h9) rfl dX9_passes_1 ?_
  refine lv_if_ne (tgt := 19) hx hb dX9_passes_4 (by decide) (fun c1 => ?_) (fun c1 => ?_)
  · have hF := if_f c1 hF
    refine lv_iconst (v := (0 : Int32)) hx hb dX9_passes_19 (by decide) ?_
    exact w_X9_passes_20 N C res hQ (0 : Int32) mat hF _ _ _ hP hD hS (lv_sub hl [0] rfl)
  · have hF := if_t c1 hF
    refine lv_aload_n hx hb dX9_passes_7 rfl (lv_at hl 0 rfl) ?_
    obtain ⟨r3, v4, h2, hF⟩ := b2_s hF
    refine cl_vi (As := []) (rest := []) (w' := (w_model ky aM mxs mus mys mgp mtp mme mle mlt mkl mln msz mit mmv mrm mer mtd v4 mwr mkn mmb mwa mra mbl mbh dxs dus dys dgp dtp dme dle dlt dkl dln dsz dit dmv)) ⟨hx, hb, hml, hown, hts⟩ hK hP hD hS hA (c_X9_next l D ky aM mxs mus mys mgp mtp mme mle mlt mkl mln msz mit mmv _ N  mrm mer mtd mat mwr mkn mmb mwa mra mbl mbh dxs dus dys dgp dtp dme dle dlt dkl dln dsz dit dmv  r3 v4 h2) (cwV 0 hts gX9_passes_X9_next rfl rfl rfl (by decide +kernel) ⟨Nat.le_of_ble_eq_true rfl, Nat.le_of_ble_eq_true rfl⟩) [0, 1, 2, 3, 4, 5, 6, 7, 8, 9, 10, 11, 12, 13] [] [0, 1, 2, 3, 4, 5, 6, 7, 8, 9, 10, 11, 12, 13] 0 8 rfl rfl rfl rfl (wr := []) rfl (by decide) rfl rfl hl.1 (Nat.le_of_ble_eq_true rfl) dX9_passes_8 ⟨Nat.zero_le _, Nat.zero_le _⟩ (fun H locs hP hD hS => ?_)
    refine lv_iload_n hx hb dX9_passes_11 rfl (lv_at hl 1 rfl) ?_
    refine lv_icmp_ne (tgt := 19) hx hb dX9_passes_12 (by decide) (fun c5 => ?_) (fun c5 => ?_)
    · have hF := if_f c5 hF
      refine lv_iconst (v := (0 : Int32)) hx hb dX9_passes_19 (by decide) ?_
      exact w_X9_passes_20 N C res hQ (0 : Int32) v4 hF _ _ _ hP hD hS (lv_sub hl [0] rfl)
    · have hF := if_t c5 hF
      refine lv_iconst (v := (1 : Int32)) hx hb dX9_passes_15 (by decide) ?_
      refine lv_goto (tgt := 20) hx hb dX9_passes_16 (by decide) ?_
      exact w_X9_passes_20 N C res hQ (1 : Int32) v4 hF _ _ _ hP hD hS (lv_sub hl [0] rfl)
theorem c_X9_passes (l : Launch) (D : va_G) (ky : Nat → ClassId) (aM mxs mus mys mgp mtp mme mle mlt mkl mln msz mit mmv : Nat) (sz N : Nat)  (mrm : Int32) (mer : Int32) (mtd : Int32) (mat : Int32) (mwr : Int32) (mkn : Int32) (mmb : Int32) (mwa : Int32) (mra : Int32) (mbl : Int32) (mbh : Int32) (dxs : Nat → Int32) (dus : Nat → Int32) (dys : Nat → Int32) (dgp : Nat → Int32) (dtp : Nat → Int32) (dme : Nat → Int32) (dle : Nat → Int32) (dlt : Nat → Int32) (dkl : Nat → Int32) (dln : Nat → Int32) (dsz : Nat → Int32) (dit : Nat → Int32) (dmv : Nat → Int32) (p0 : Int32) (rv : Int32) (mat' : Int32) (hF : f_X9_passes N p0 mtd mat mwr dtp = some (rv, mat')) : MI l yX9_passes wsX9_passes rm_X9_passes D ky sz [.ref aM, .int p0] (w_model ky aM mxs mus mys mgp mtp mme mle mlt mkl mln msz mit mmv mrm mer mtd mat mwr mkn mmb mwa mra mbl mbh dxs dus dys dgp dtp dme dle dlt dkl dln dsz dit dmv) (w_model ky aM mxs mus mys mgp mtp mme mle mlt mkl mln msz mit mmv mrm mer mtd mat' mwr mkn mmb mwa mra mbl mbh dxs dus dys dgp dtp dme dle dlt dkl dln dsz dit dmv) rv :=
  cr_X9_passes l D ky aM mxs mus mys mgp mtp mme mle mlt mkl mln msz mit mmv sz N mrm mer mtd mat mwr mkn mmb mwa mra mbl mbh dxs dus dys dgp dtp dme dle dlt dkl dln dsz dit dmv p0 (rv, mat') hF
abbrev rm_X9_number : Room := { frames := 2, cells := 0, slots := 0, locals := 42 }
theorem iX9_number_X9 : ∀ w ∈ wsX90, w ∈ wsX9_number := by decide +kernel
theorem kX9_number_1 : (Cond.fieldLink RX9 96 "TwoLawsModel" "at" "I") ∈ wsX9_number := by decide +kernel
theorem kX9_number_2 : (Cond.fieldLink RX9 99 "TwoLawsModel" "wrong" "Z") ∈ wsX9_number := by decide +kernel
theorem kX9_number_3 : (Cond.constantLong RX9 110 (48)) ∈ wsX9_number := by decide +kernel
theorem kX9_number_4 : (Cond.constantLong RX9 112 (57)) ∈ wsX9_number := by decide +kernel
theorem kX9_number_5 : (Cond.fieldLink RX9 93 "TwoLawsModel" "taped" "I") ∈ wsX9_number := by decide +kernel
theorem kX9_number_6 : (Cond.fieldLink RX9 27 "TwoLawsModel" "tape" "[I") ∈ wsX9_number := by decide +kernel
set_option maxHeartbeats 4000000 in
set_option maxRecDepth 100000 in
theorem w_X9_number_174 {p : Program} {l : Launch} {e : Env} {s : State} {m : MethodId} {args : Array Value} {below : List Frame} {meth : Method} {c : Code} {Q : State → Prop} {A : Nat → Prop} {D : va_G} {ky : Nat → ClassId} {aM mxs mus mys mgp mtp mme mle mlt mkl mln msz mit mmv : Nat} {mrm : Int32} {mer : Int32} {mtd : Int32} {mkn : Int32} {mmb : Int32} {mwa : Int32} {mra : Int32} {mbl : Int32} {mbh : Int32} {dxs : Nat → Int32} {dus : Nat → Int32} {dys : Nat → Int32} {dgp : Nat → Int32} {dtp : Nat → Int32} {dme : Nat → Int32} {dle : Nat → Int32} {dlt : Nat → Int32} {dkl : Nat → Int32} {dln : Nat → Int32} {dsz : Nat → Int32} {dit : Nat → Int32} {dmv : Nat → Int32} (N : Nat) (C : cx p s m c args D ky A cX9_number 5 wsX9_number RX9) (res : Int32 × Int32 × Int32) (hQ : ∀ (pc : Nat) (H : Heap) (locs : List Loc) (ls : Array Slot), decode cX9_number pc = .ok (.ireturn, 1) → va_P D vwCl (w_model ky aM mxs mus mys mgp mtp mme mle mlt mkl mln msz mit mmv mrm mer mtd res.2.1 res.2.2 mkn mmb mwa mra mbl mbh dxs dus dys dgp dtp dme dle dlt dkl dln dsz dit dmv) H → va_D A (w_model ky aM mxs mus mys mgp mtp mme mle mlt mkl mln msz mit mmv mrm mer mtd res.2.1 res.2.2 mkn mmb mwa mra mbl mbh dxs dus dys dgp dtp dme dle dlt dkl dln dsz dit dmv) → va_S A s.heap H locs → W p l e rm_X9_number s m args below meth c H locs 0 0 Q (F0 m pc ls [.int res.1]))  (l3 : Int32) (l4 : Int32) (t0 : Int32) (mat : Int32) (mwr : Int32) (hF : f_X9_number_174 N l3 l4 t0 mwr = some res) : ∀ (H : Heap) (locs : List Loc) (ls : Array Slot), va_P D vwCl (w_model ky aM mxs mus mys mgp mtp mme mle mlt mkl mln msz mit mmv mrm mer mtd mat mwr mkn mmb mwa mra mbl mbh dxs dus dys dgp dtp dme dle dlt dkl dln dsz dit dmv) H → va_D A (w_model ky aM mxs mus mys mgp mtp mme mle mlt mkl mln msz mit mmv mrm mer mtd mat mwr mkn mmb mwa mra mbl mbh dxs dus dys dgp dtp dme dle dlt dkl dln dsz dit dmv) → va_S A s.heap H locs → lv_has ls 5 [(3, .int l3), (4, .int l4)] → W p l e rm_X9_number s m args below meth c H locs 0 0 Q (F0 m 174 ls [.int t0, .ref aM]) := by
  obtain ⟨hx, hb, hml, hown, hts, hK, hA⟩ := id C
  intro H locs ls hP hD hS hl
  unfold f_X9_number_174 at hF
  refine va_put (D := D) (ci := 8) (v := .int t0) (ty := .int) (C := RX9) (T := TX9) (N := 24) hx hb hts iX9_number_X9 tyX9 tyX9_ok nmX9 hown hK hP hD hS 0 rfl rfl 8 (by decide) (hts _ kX9_number_1) (fun _ h9 => h9) rfl (by decide +kernel) rfl rfl (Nat.le_of_ble_eq_true rfl) dX9_number_174 (fun H locs hP hD hS => ?_)
  have hP : va_P D vwCl (w_model ky aM mxs mus mys mgp mtp mme mle mlt mkl mln msz mit mmv mrm mer mtd t0 mwr mkn mmb mwa mra mbl mbh dxs dus dys dgp dtp dme dle dlt dkl dln dsz dit dmv) H := hP
  have hD : va_D A (w_model ky aM mxs mus mys mgp mtp mme mle mlt mkl mln msz mit mmv mrm mer mtd t0 mwr mkn mmb mwa mra mbl mbh dxs dus dys dgp dtp dme dle dlt dkl dln dsz dit dmv) := hD
  refine lv_iload_n hx hb dX9_number_177 rfl (lv_at hl 0 rfl) ?_
  refine lv_if_eq (tgt := 187) hx hb dX9_number_178 (by decide) (fun c27 => ?_) (fun c27 => ?_)
  · have hF := if_t c27 hF
    refine lv_iload hx hb dX9_number_187 (lv_at hl 1 rfl) ?_
    have hF := Option.some.inj hF
    subst hF
    exact hQ _ H _ _ dX9_number_189 hP hD hS
  · have hF := if_f c27 hF
    refine lv_iload hx hb dX9_number_181 (lv_at hl 1 rfl) ?_
    refine lv_ineg hx hb dX9_number_183 ?_
    refine lv_goto (tgt := 189) hx hb dX9_number_184 (by decide) ?_
    have hF := Option.some.inj hF
    subst hF
    exact hQ _ H _ _ dX9_number_189 hP hD hS
set_option maxHeartbeats 4000000 in
set_option maxRecDepth 100000 in
theorem w_X9_number_155 {p : Program} {l : Launch} {e : Env} {s : State} {m : MethodId} {args : Array Value} {below : List Frame} {meth : Method} {c : Code} {Q : State → Prop} {A : Nat → Prop} {D : va_G} {ky : Nat → ClassId} {aM mxs mus mys mgp mtp mme mle mlt mkl mln msz mit mmv : Nat} {mrm : Int32} {mer : Int32} {mtd : Int32} {mkn : Int32} {mmb : Int32} {mwa : Int32} {mra : Int32} {mbl : Int32} {mbh : Int32} {dxs : Nat → Int32} {dus : Nat → Int32} {dys : Nat → Int32} {dgp : Nat → Int32} {dtp : Nat → Int32} {dme : Nat → Int32} {dle : Nat → Int32} {dlt : Nat → Int32} {dkl : Nat → Int32} {dln : Nat → Int32} {dsz : Nat → Int32} {dit : Nat → Int32} {dmv : Nat → Int32} (N : Nat) (C : cx p s m c args D ky A cX9_number 5 wsX9_number RX9) (res : Int32 × Int32 × Int32) (hQ : ∀ (pc : Nat) (H : Heap) (locs : List Loc) (ls : Array Slot), decode cX9_number pc = .ok (.ireturn, 1) → va_P D vwCl (w_model ky aM mxs mus mys mgp mtp mme mle mlt mkl mln msz mit mmv mrm mer mtd res.2.1 res.2.2 mkn mmb mwa mra mbl mbh dxs dus dys dgp dtp dme dle dlt dkl dln dsz dit dmv) H → va_D A (w_model ky aM mxs mus mys mgp mtp mme mle mlt mkl mln msz mit mmv mrm mer mtd res.2.1 res.2.2 mkn mmb mwa mra mbl mbh dxs dus dys dgp dtp dme dle dlt dkl dln dsz dit dmv) → va_S A s.heap H locs → W p l e rm_X9_number s m args below meth c H locs 0 0 Q (F0 m pc ls [.int res.1]))  (l2 : Int32) (l3 : Int32) (l4 : Int32) (t0 : Int32) (mat : Int32) (mwr : Int32) (hF : f_X9_number_155 N l2 l3 l4 t0 mat = some res) : ∀ (H : Heap) (locs : List Loc) (ls : Array Slot), va_P D vwCl (w_model ky aM mxs mus mys mgp mtp mme mle mlt mkl mln msz mit mmv mrm mer mtd mat mwr mkn mmb mwa mra mbl mbh dxs dus dys dgp dtp dme dle dlt dkl dln dsz dit dmv) H → va_D A (w_model ky aM mxs mus mys mgp mtp mme mle mlt mkl mln msz mit mmv mrm mer mtd mat mwr mkn mmb mwa mra mbl mbh dxs dus dys dgp dtp dme dle dlt dkl dln dsz dit dmv) → va_S A s.heap H locs → lv_has ls 5 [(0, .ref aM), (2, .int l2), (3, .int l3), (4, .int l4)] → W p l e rm_X9_number s m args below meth c H locs 0 0 Q (F0 m 155 ls [.int t0, .ref aM]) := by
  obtain ⟨hx, hb, hml, hown, hts, hK, hA⟩ := id C
  intro H locs ls hP hD hS hl
  unfold f_X9_number_155 at hF
  obtain ⟨h25, hF⟩ := gz_s hF
  refine va_put (D := D) (ci := 8) (v := .int t0) (ty := .boolean) (C := RX9) (T := TX9) (N := 24) hx hb hts iX9_number_X9 tyX9 tyX9_ok nmX9 hown hK hP hD hS 0 rfl rfl 9 (by decide) (hts _ kX9_number_2) (fun _ h9 => h9) rfl (by decide +kernel) (gz_n h25) (gz_f h25) (Nat.le_of_ble_eq_true rfl) dX9_number_155 (fun H locs hP hD hS => ?_)
  have hP : va_P D vwCl (w_model ky aM mxs mus mys mgp mtp mme mle mlt mkl mln msz mit mmv mrm mer mtd mat t0 mkn mmb mwa mra mbl mbh dxs dus dys dgp dtp dme dle dlt dkl dln dsz dit dmv) H := hP
  have hD : va_D A (w_model ky aM mxs mus mys mgp mtp mme mle mlt mkl mln msz mit mmv mrm mer mtd mat t0 mkn mmb mwa mra mbl mbh dxs dus dys dgp dtp dme dle dlt dkl dln dsz dit dmv) := hD
  refine lv_aload_n hx hb dX9_number_158 rfl (lv_at hl 0 rfl) ?_
  refine lv_aload_n hx hb dX9_number_159 rfl (lv_at hl 0 rfl) ?_
  refine va_get (D := D) (ci := 8) (v := .int t0) (C := RX9) (T := TX9) (N := 24) hx hb hts iX9_number_X9 hown hK hP 0 rfl rfl 9 (by decide) (hts _ kX9_number_2) (fun _ h9 => h9) rfl dX9_number_160 ?_
  refine lv_if_eq (tgt := 170) hx hb dX9_number_163 (by decide) (fun c26 => ?_) (fun c26 => ?_)
  · have hF := if_t c26 hF
    refine lv_aload_n hx hb dX9_number_170 rfl (lv_at hl 0 rfl) ?_
    refine va_get (D := D) (ci := 8) (v := .int mat) (C := RX9) (T := TX9) (N := 24) hx hb hts iX9_number_X9 hown hK hP 0 rfl rfl 8 (by decide) (hts _ kX9_number_1) (fun _ h9 => h9) rfl dX9_number_171 ?_
    exact w_X9_number_174 N C res hQ l3 l4 mat mat t0 hF H _ _ hP hD hS (lv_sub hl [2, 3] rfl)
  · have hF := if_f c26 hF
    refine lv_iload_n hx hb dX9_number_166 rfl (lv_at hl 1 rfl) ?_
    refine lv_goto (tgt := 174) hx hb dX9_number_167 (by decide) ?_
    exact w_X9_number_174 N C res hQ l3 l4 l2 mat t0 hF H _ _ hP hD hS (lv_sub hl [2, 3] rfl)
set_option maxHeartbeats 4000000 in
set_option maxRecDepth 100000 in
theorem w_X9_number_142 {p : Program} {l : Launch} {e : Env} {s : State} {m : MethodId} {args : Array Value} {below : List Frame} {meth : Method} {c : Code} {Q : State → Prop} {A : Nat → Prop} {D : va_G} {ky : Nat → ClassId} {aM mxs mus mys mgp mtp mme mle mlt mkl mln msz mit mmv : Nat} {mrm : Int32} {mer : Int32} {mtd : Int32} {mkn : Int32} {mmb : Int32} {mwa : Int32} {mra : Int32} {mbl : Int32} {mbh : Int32} {dxs : Nat → Int32} {dus : Nat → Int32} {dys : Nat → Int32} {dgp : Nat → Int32} {dtp : Nat → Int32} {dme : Nat → Int32} {dle : Nat → Int32} {dlt : Nat → Int32} {dkl : Nat → Int32} {dln : Nat → Int32} {dsz : Nat → Int32} {dit : Nat → Int32} {dmv : Nat → Int32} (N : Nat) (C : cx p s m c args D ky A cX9_number 5 wsX9_number RX9) (res : Int32 × Int32 × Int32) (hQ : ∀ (pc : Nat) (H : Heap) (locs : List Loc) (ls : Array Slot), decode cX9_number pc = .ok (.ireturn, 1) → va_P D vwCl (w_model ky aM mxs mus mys mgp mtp mme mle mlt mkl mln msz mit mmv mrm mer mtd res.2.1 res.2.2 mkn mmb mwa mra mbl mbh dxs dus dys dgp dtp dme dle dlt dkl dln dsz dit dmv) H → va_D A (w_model ky aM mxs mus mys mgp mtp mme mle mlt mkl mln msz mit mmv mrm mer mtd res.2.1 res.2.2 mkn mmb mwa mra mbl mbh dxs dus dys dgp dtp dme dle dlt dkl dln dsz dit dmv) → va_S A s.heap H locs → W p l e rm_X9_number s m args below meth c H locs 0 0 Q (F0 m pc ls [.int res.1]))  (l2 : Int32) (l3 : Int32) (l4 : Int32) (mat : Int32) (mwr : Int32) (hF : f_X9_number_142 N l2 l3 l4 mat = some res) : ∀ (H : Heap) (locs : List Loc) (ls : Array Slot), va_P D vwCl (w_model ky aM mxs mus mys mgp mtp mme mle mlt mkl mln msz mit mmv mrm mer mtd mat mwr mkn mmb mwa mra mbl mbh dxs dus dys dgp dtp dme dle dlt dkl dln dsz dit dmv) H → va_D A (w_model ky aM mxs mus mys mgp mtp mme mle mlt mkl mln msz mit mmv mrm mer mtd mat mwr mkn mmb mwa mra mbl mbh dxs dus dys dgp dtp dme dle dlt dkl dln dsz dit dmv) → va_S A s.heap H locs → lv_has ls 5 [(0, .ref aM), (2, .int l2), (3, .int l3), (4, .int l4)] → W p l e rm_X9_number s m args below meth c H locs 0 0 Q (F0 m 142 ls []) := by
  obtain ⟨hx, hb, hml, hown, hts, hK, hA⟩ := id C
  intro H locs ls hP hD hS hl
  unfold f_X9_number_142 at hF
  refine lv_aload_n hx hb dX9_number_142 rfl (lv_at hl 0 rfl) ?_
  refine lv_iload hx hb dX9_number_143 (lv_at hl 3 rfl) ?_
  refine lv_bipush (v := (99 : Int32)) hx hb dX9_number_145 (by decide) ?_
  refine lv_icmp_le (tgt := 154) hx hb dX9_number_147 (by decide) (fun c24 => ?_) (fun c24 => ?_)
  · have hF := if_t c24 hF
    refine lv_iconst (v := (0 : Int32)) hx hb dX9_number_154 (by decide) ?_
    exact w_X9_number_155 N C res hQ l2 l3 l4 (0 : Int32) mat mwr hF H _ _ hP hD hS (lv_sub hl [0, 1, 2, 3] rfl)
  · have hF := if_f c24 hF
    refine lv_iconst (v := (1 : Int32)) hx hb dX9_number_150 (by decide) ?_
    refine lv_goto (tgt := 155) hx hb dX9_number_151 (by decide) ?_
    exact w_X9_number_155 N C res hQ l2 l3 l4 (1 : Int32) mat mwr hF H _ _ hP hD hS (lv_sub hl [0, 1, 2, 3] rfl)
set_option maxHeartbeats 4000000 in
set_option maxRecDepth 100000 in
theorem w_X9_number_63 {p : Program} {l : Launch} {e : Env} {s : State} {m : MethodId} {args : Array Value} {below : List Frame} {meth : Method} {c : Code} {Q : State → Prop} {A : Nat → Prop} {D : va_G} {ky : Nat → ClassId} {aM mxs mus mys mgp mtp mme mle mlt mkl mln msz mit mmv : Nat} {mrm : Int32} {mer : Int32} {mtd : Int32} {mkn : Int32} {mmb : Int32} {mwa : Int32} {mra : Int32} {mbl : Int32} {mbh : Int32} {dxs : Nat → Int32} {dus : Nat → Int32} {dys : Nat → Int32} {dgp : Nat → Int32} {dtp : Nat → Int32} {dme : Nat → Int32} {dle : Nat → Int32} {dlt : Nat → Int32} {dkl : Nat → Int32} {dln : Nat → Int32} {dsz : Nat → Int32} {dit : Nat → Int32} {dmv : Nat → Int32} (N : Nat) (C : cx p s m c args D ky A cX9_number 5 wsX9_number RX9) (res : Int32 × Int32 × Int32) (hQ : ∀ (pc : Nat) (H : Heap) (locs : List Loc) (ls : Array Slot), decode cX9_number pc = .ok (.ireturn, 1) → va_P D vwCl (w_model ky aM mxs mus mys mgp mtp mme mle mlt mkl mln msz mit mmv mrm mer mtd res.2.1 res.2.2 mkn mmb mwa mra mbl mbh dxs dus dys dgp dtp dme dle dlt dkl dln dsz dit dmv) H → va_D A (w_model ky aM mxs mus mys mgp mtp mme mle mlt mkl mln msz mit mmv mrm mer mtd res.2.1 res.2.2 mkn mmb mwa mra mbl mbh dxs dus dys dgp dtp dme dle dlt dkl dln dsz dit dmv) → va_S A s.heap H locs → W p l e rm_X9_number s m args below meth c H locs 0 0 Q (F0 m pc ls [.int res.1])) (l2 : Int32) (l3 : Int32) (mwr : Int32) : ∀ (n : Nat) (l4 : Int32) (mat : Int32), f_X9_number_63 N l2 l3 mtd dtp n l4 mat = some res → ∀ (H : Heap) (locs : List Loc) (ls : Array Slot), va_P D vwCl (w_model ky aM mxs mus mys mgp mtp mme mle mlt mkl mln msz mit mmv mrm mer mtd mat mwr mkn mmb mwa mra mbl mbh dxs dus dys dgp dtp dme dle dlt dkl dln dsz dit dmv) H → va_D A (w_model ky aM mxs mus mys mgp mtp mme mle mlt mkl mln msz mit mmv mrm mer mtd mat mwr mkn mmb mwa mra mbl mbh dxs dus dys dgp dtp dme dle dlt dkl dln dsz dit dmv) → va_S A s.heap H locs → lv_has ls 5 [(0, .ref aM), (2, .int l2), (3, .int l3), (4, .int l4)] → W p l e rm_X9_number s m args below meth c H locs 0 0 Q (F0 m 63 ls []) := by
  obtain ⟨hx, hb, hml, hown, hts, hK, hA⟩ := id C
  intro n
  induction n with
  | zero =>
    intro l4 mat hF
    cases hF
  | succ n ih =>
    intro l4 mat hF H locs ls hP hD hS hl
    have hF : b_X9_number_63 N l2 l3 mtd dtp (f_X9_number_63 N l2 l3 mtd dtp n) l4 mat = some res := hF
    unfold b_X9_number_63 at hF
    refine lv_aload_n hx hb dX9_number_63 rfl (lv_at hl 0 rfl) ?_
    refine va_get (D := D) (ci := 8) (v := .int mat) (C := RX9) (T := TX9) (N := 24) hx hb hts iX9_number_X9 hown hK hP 0 rfl rfl 8 (by decide) (hts _ kX9_number_1) (fun _ h9 => h9) rfl dX9_number_64 ?_
    refine lv_aload_n hx hb dX9_number_67 rfl (lv_at hl 0 rfl) ?_
    refine va_get (D := D) (ci := 8) (v := .int mtd) (C := RX9) (T := TX9) (N := 24) hx hb hts iX9_number_X9 hown hK hP 0 rfl rfl 7 (by decide) (hts _ kX9_number_5) (fun _ h9 => h9) rfl dX9_number_68 ?_
    refine lv_icmp_ge (tgt := 142) hx hb dX9_number_71 (by decide) (fun c16 => ?_) (fun c16 => ?_)
    · have hF := if_t c16 hF
      exact w_X9_number_142 N C res hQ l2 l3 l4 mat mwr hF H _ _ hP hD hS (lv_sub hl [0, 1, 2, 3] rfl)
    · have hF := if_f c16 hF
      refine lv_aload_n hx hb dX9_number_74 rfl (lv_at hl 0 rfl) ?_
      refine va_get (D := D) (ci := 8) (v := .ref mtp) (C := RX9) (T := TX9) (N := 24) hx hb hts iX9_number_X9 hown hK hP 0 rfl rfl 6 (by decide) (hts _ kX9_number_6) (fun _ h9 => h9) rfl dX9_number_75 ?_
      refine lv_aload_n hx hb dX9_number_78 rfl (lv_at hl 0 rfl) ?_
      refine va_get (D := D) (ci := 8) (v := .int mat) (C := RX9) (T := TX9) (N := 24) hx hb hts iX9_number_X9 hown hK hP 0 rfl rfl 8 (by decide) (hts _ kX9_number_1) (fun _ h9 => h9) rfl dX9_number_79 ?_
      obtain ⟨h17, hF⟩ := gi_s hF
      refine va_iald hx hb hK hP 5 0 rfl rfl h17 dX9_number_82 ?_
      refine lv_i2l (v := ((dtp mat.toNatClampNeg).toInt64)) hx hb dX9_number_83 rfl ?_
      refine lv_ldc2 hx hb hown (hts _ kX9_number_3) dX9_number_84 ?_
      refine lv_ldc2 hx hb hown (hts _ kX9_number_4) dX9_number_87 ?_
      obtain ⟨r19, h18, hF⟩ := b1_s hF
      refine cl_si (As := [.long ((dtp mat.toNatClampNeg).toInt64), .long (48 : Int64), .long (57 : Int64)]) (rest := []) ⟨hx, hb, hml, hown, hts⟩ hK hP hD hS hA (c_X9_in l D ky  _ N   ((dtp mat.toNatClampNeg).toInt64) (48 : Int64) (57 : Int64) r19 h18) (va_cwS 3 hts gX9_number_X9_in rfl rfl rfl (by decide +kernel) ⟨Nat.le_of_ble_eq_true rfl, Nat.le_of_ble_eq_true rfl⟩) rfl hl.1 (Nat.le_of_ble_eq_true rfl) dX9_number_90 ⟨Nat.zero_le _, Nat.zero_le _⟩ (fun H locs hP hD hS => ?_)
      refine lv_if_eq (tgt := 142) hx hb dX9_number_93 (by decide) (fun c20 => ?_) (fun c20 => ?_)
      · have hF := if_t c20 hF
        exact w_X9_number_142 N C res hQ l2 l3 l4 mat mwr hF H _ _ hP hD hS (lv_sub hl [0, 1, 2, 3] rfl)
      · have hF := if_f c20 hF
        refine lv_iload hx hb dX9_number_96 (lv_at hl 3 rfl) ?_
        refine lv_sipush (v := (999 : Int32)) hx hb dX9_number_98 (by decide) ?_
        refine lv_icmp_le (tgt := 109) hx hb dX9_number_101 (by decide) (fun c21 => ?_) (fun c21 => ?_)
        · have hF := if_t c21 hF
          refine lv_bipush (v := (10 : Int32)) hx hb dX9_number_109 (by decide) ?_
          refine lv_iload hx hb dX9_number_111 (lv_at hl 3 rfl) ?_
          refine lv_imul hx hb dX9_number_113 ?_
          refine lv_aload_n hx hb dX9_number_114 rfl (lv_at hl 0 rfl) ?_
          refine va_get (D := D) (ci := 8) (v := .ref mtp) (C := RX9) (T := TX9) (N := 24) hx hb hts iX9_number_X9 hown hK hP 0 rfl rfl 6 (by decide) (hts _ kX9_number_6) (fun _ h9 => h9) rfl dX9_number_115 ?_
          refine lv_aload_n hx hb dX9_number_118 rfl (lv_at hl 0 rfl) ?_
          refine va_get (D := D) (ci := 8) (v := .int mat) (C := RX9) (T := TX9) (N := 24) hx hb hts iX9_number_X9 hown hK hP 0 rfl rfl 8 (by decide) (hts _ kX9_number_1) (fun _ h9 => h9) rfl dX9_number_119 ?_
          obtain ⟨h22, hF⟩ := gi_s hF
          refine va_iald hx hb hK hP 5 0 rfl rfl h22 dX9_number_122 ?_
          refine lv_iadd hx hb dX9_number_123 ?_
          refine lv_bipush (v := (48 : Int32)) hx hb dX9_number_124 (by decide) ?_
          refine lv_isub hx hb dX9_number_126 ?_
          refine lv_topi (fun v23 e_v23 => ?_)
          have hF := nm_s e_v23 hF
          refine lv_istore (lv' := [(4, .int v23), (0, .ref aM), (2, .int l2), (3, .int l3)]) hx hb dX9_number_127 hl (by decide) rfl (fun ls hl => ?_)
          refine lv_aload_n hx hb dX9_number_129 rfl (lv_at hl 1 rfl) ?_
          refine lv_dup hx hb dX9_number_130 rfl ?_
          refine va_get (D := D) (ci := 8) (v := .int mat) (C := RX9) (T := TX9) (N := 24) hx hb hts iX9_number_X9 hown hK hP 0 rfl rfl 8 (by decide) (hts _ kX9_number_1) (fun _ h9 => h9) rfl dX9_number_131 ?_
          refine lv_iconst (v := (1 : Int32)) hx hb dX9_number_134 (by decide) ?_
          refine lv_iadd hx hb dX9_number_135 ?_
          refine va_put (D := D) (ci := 8) (v := .int (mat + (1 : Int32))) (ty := .int) (C := RX9) (T := TX9) (N := 24) hx hb hts iX9_number_X9 tyX9 tyX9_ok nmX9 hown hK hP hD hS 0 rfl rfl 8 (by decide) (hts _ kX9_number_1) (fun _ h9 => h9) rfl (by decide +kernel) rfl rfl (Nat.le_of_ble_eq_true rfl) dX9_number_136 (fun H locs hP hD hS => ?_)
          have hP : va_P D vwCl (w_model ky aM mxs mus mys mgp mtp mme mle mlt mkl mln msz mit mmv mrm mer mtd (mat + (1 : Int32)) mwr mkn mmb mwa mra mbl mbh dxs dus dys dgp dtp dme dle dlt dkl dln dsz dit dmv) H := hP
          have hD : va_D A (w_model ky aM mxs mus mys mgp mtp mme mle mlt mkl mln msz mit mmv mrm mer mtd (mat + (1 : Int32)) mwr mkn mmb mwa mra mbl mbh dxs dus dys dgp dtp dme dle dlt dkl dln dsz dit dmv) := hD
          refine lv_goto (tgt := 63) hx hb dX9_number_139 (by decide) ?_
          exact ih v23 (mat + (1 : Int32)) hF H _ _ hP hD hS (lv_sub hl [1, 2, 3, 0] rfl)
        · have hF := if_f c21 hF
          refine lv_iload hx hb dX9_number_104 (lv_at hl 3 rfl) ?_
          refine lv_goto (tgt := 127) hx hb dX9_number_106 (by decide) ?_
          refine lv_istore (lv' := [(4, .int l4), (0, .ref aM), (2, .int l2), (3, .int l3)]) hx hb dX9_number_127 hl (by decide) rfl (fun ls hl => ?_)
          refine lv_aload_n hx hb dX9_number_129 rfl (lv_at hl 1 rfl) ?_
          refine lv_dup hx hb dX9_number_130 rfl ?_
          refine va_get (D := D) (ci := 8) (v := .int mat) (C := RX9) (T := TX9) (N := 24) hx hb hts iX9_number_X9 hown hK hP 0 rfl rfl 8 (by decide) (hts _ kX9_number_1) (fun _ h9 => h9) rfl dX9_number_131 ?_
          refine lv_iconst (v := (1 : Int32)) hx hb dX9_number_134 (by decide) ?_
          refine lv_iadd hx hb dX9_number_135 ?_
          refine va_put (D := D) (ci := 8) (v := .int (mat + (1 : Int32))) (ty := .int) (C := RX9) (T := TX9) (N := 24) hx hb hts iX9_number_X9 tyX9 tyX9_ok nmX9 hown hK hP hD hS 0 rfl rfl 8 (by decide) (hts _ kX9_number_1) (fun _ h9 => h9) rfl (by decide +kernel) rfl rfl (Nat.le_of_ble_eq_true rfl) dX9_number_136 (fun H locs hP hD hS => ?_)
          have hP : va_P D vwCl (w_model ky aM mxs mus mys mgp mtp mme mle mlt mkl mln msz mit mmv mrm mer mtd (mat + (1 : Int32)) mwr mkn mmb mwa mra mbl mbh dxs dus dys dgp dtp dme dle dlt dkl dln dsz dit dmv) H := hP
          have hD : va_D A (w_model ky aM mxs mus mys mgp mtp mme mle mlt mkl mln msz mit mmv mrm mer mtd (mat + (1 : Int32)) mwr mkn mmb mwa mra mbl mbh dxs dus dys dgp dtp dme dle dlt dkl dln dsz dit dmv) := hD
          refine lv_goto (tgt := 63) hx hb dX9_number_139 (by decide) ?_
          exact ih l4 (mat + (1 : Int32)) hF H _ _ hP hD hS (lv_sub hl [1, 2, 3, 0] rfl)
set_option maxHeartbeats 4000000 in
set_option maxRecDepth 100000 in
theorem w_X9_number_12 {p : Program} {l : Launch} {e : Env} {s : State} {m : MethodId} {args : Array Value} {below : List Frame} {meth : Method} {c : Code} {Q : State → Prop} {A : Nat → Prop} {D : va_G} {ky : Nat → ClassId} {aM mxs mus mys mgp mtp mme mle mlt mkl mln msz mit mmv : Nat} {mrm : Int32} {mer : Int32} {mtd : Int32} {mkn : Int32} {mmb : Int32} {mwa : Int32} {mra : Int32} {mbl : Int32} {mbh : Int32} {dxs : Nat → Int32} {dus : Nat → Int32} {dys : Nat → Int32} {dgp : Nat → Int32} {dtp : Nat → Int32} {dme : Nat → Int32} {dle : Nat → Int32} {dlt : Nat → Int32} {dkl : Nat → Int32} {dln : Nat → Int32} {dsz : Nat → Int32} {dit : Nat → Int32} {dmv : Nat → Int32} (N : Nat) (C : cx p s m c args D ky A cX9_number 5 wsX9_number RX9) (res : Int32 × Int32 × Int32) (hQ : ∀ (pc : Nat) (H : Heap) (locs : List Loc) (ls : Array Slot), decode cX9_number pc = .ok (.ireturn, 1) → va_P D vwCl (w_model ky aM mxs mus mys mgp mtp mme mle mlt mkl mln msz mit mmv mrm mer mtd res.2.1 res.2.2 mkn mmb mwa mra mbl mbh dxs dus dys dgp dtp dme dle dlt dkl dln dsz dit dmv) H → va_D A (w_model ky aM mxs mus mys mgp mtp mme mle mlt mkl mln msz mit mmv mrm mer mtd res.2.1 res.2.2 mkn mmb mwa mra mbl mbh dxs dus dys dgp dtp dme dle dlt dkl dln dsz dit dmv) → va_S A s.heap H locs → W p l e rm_X9_number s m args below meth c H locs 0 0 Q (F0 m pc ls [.int res.1]))  (t0 : Int32) (mat : Int32) (mwr : Int32) (hF : f_X9_number_12 N t0 mtd mat mwr dtp = some res) : ∀ (H : Heap) (locs : List Loc) (ls : Array Slot), va_P D vwCl (w_model ky aM mxs mus mys mgp mtp mme mle mlt mkl mln msz mit mmv mrm mer mtd mat mwr mkn mmb mwa mra mbl mbh dxs dus dys dgp dtp dme dle dlt dkl dln dsz dit dmv) H → va_D A (w_model ky aM mxs mus mys mgp mtp mme mle mlt mkl mln msz mit mmv mrm mer mtd mat mwr mkn mmb mwa mra mbl mbh dxs dus dys dgp dtp dme dle dlt dkl dln dsz dit dmv) → va_S A s.heap H locs → lv_has ls 5 [(0, .ref aM)] → W p l e rm_X9_number s m args below meth c H locs 0 0 Q (F0 m 12 ls [.int t0]) := by
  obtain ⟨hx, hb, hml, hown, hts, hK, hA⟩ := id C
  intro H locs ls hP hD hS hl
  unfold f_X9_number_12 at hF
  refine lv_istore_n (lv' := [(1, .int t0), (0, .ref aM)]) hx hb dX9_number_12 rfl hl (by decide) rfl (fun ls hl => ?_)
  refine lv_aload_n hx hb dX9_number_13 rfl (lv_at hl 1 rfl) ?_
  refine va_get (D := D) (ci := 8) (v := .int mat) (C := RX9) (T := TX9) (N := 24) hx hb hts iX9_number_X9 hown hK hP 0 rfl rfl 8 (by decide) (hts _ kX9_number_1) (fun _ h9 => h9) rfl dX9_number_14 ?_
  refine lv_istore_n (lv' := [(2, .int mat), (1, .int t0), (0, .ref aM)]) hx hb dX9_number_17 rfl hl (by decide) rfl (fun ls hl => ?_)
  refine lv_aload_n hx hb dX9_number_18 rfl (lv_at hl 2 rfl) ?_
  refine lv_bipush (v := (45 : Int32)) hx hb dX9_number_19 (by decide) ?_
  obtain ⟨r6, v7, h5, hF⟩ := b2_s hF
  refine cl_vi (As := [.int (45 : Int32)]) (rest := []) (w' := (w_model ky aM mxs mus mys mgp mtp mme mle mlt mkl mln msz mit mmv mrm mer mtd v7 mwr mkn mmb mwa mra mbl mbh dxs dus dys dgp dtp dme dle dlt dkl dln dsz dit dmv)) ⟨hx, hb, hml, hown, hts⟩ hK hP hD hS hA (c_X9_passes l D ky aM mxs mus mys mgp mtp mme mle mlt mkl mln msz mit mmv _ N  mrm mer mtd mat mwr mkn mmb mwa mra mbl mbh dxs dus dys dgp dtp dme dle dlt dkl dln dsz dit dmv (45 : Int32) r6 v7 h5) (cwV 1 hts gX9_number_X9_passes rfl rfl rfl (by decide +kernel) ⟨Nat.le_of_ble_eq_true rfl, Nat.le_of_ble_eq_true rfl⟩) [0, 1, 2, 3, 4, 5, 6, 7, 8, 9, 10, 11, 12, 13] [] [0, 1, 2, 3, 4, 5, 6, 7, 8, 9, 10, 11, 12, 13] 0 8 rfl rfl rfl rfl (wr := []) rfl (by decide) rfl rfl hl.1 (Nat.le_of_ble_eq_true rfl) dX9_number_21 ⟨Nat.zero_le _, Nat.zero_le _⟩ (fun H locs hP hD hS => ?_)
  refine lv_istore_n (lv' := [(3, .int r6), (2, .int mat), (1, .int t0), (0, .ref aM)]) hx hb dX9_number_24 rfl hl (by decide) rfl (fun ls hl => ?_)
  refine lv_aload_n hx hb dX9_number_25 rfl (lv_at hl 3 rfl) ?_
  refine va_get (D := D) (ci := 8) (v := .int mwr) (C := RX9) (T := TX9) (N := 24) hx hb hts iX9_number_X9 hown hK hP 0 rfl rfl 9 (by decide) (hts _ kX9_number_2) (fun _ h9 => h9) rfl dX9_number_26 ?_
  refine lv_if_ne (tgt := 53) hx hb dX9_number_29 (by decide) (fun c8 => ?_) (fun c8 => ?_)
  · have hF := if_f c8 hF
    refine lv_aload_n hx hb dX9_number_53 rfl (lv_at hl 3 rfl) ?_
    refine lv_iconst (v := (1 : Int32)) hx hb dX9_number_54 (by decide) ?_
    refine va_put (D := D) (ci := 8) (v := .int (1 : Int32)) (ty := .boolean) (C := RX9) (T := TX9) (N := 24) hx hb hts iX9_number_X9 tyX9 tyX9_ok nmX9 hown hK hP hD hS 0 rfl rfl 9 (by decide) (hts _ kX9_number_2) (fun _ h9 => h9) rfl (by decide +kernel) rfl rfl (Nat.le_of_ble_eq_true rfl) dX9_number_55 (fun H locs hP hD hS => ?_)
    have hP : va_P D vwCl (w_model ky aM mxs mus mys mgp mtp mme mle mlt mkl mln msz mit mmv mrm mer mtd v7 (1 : Int32) mkn mmb mwa mra mbl mbh dxs dus dys dgp dtp dme dle dlt dkl dln dsz dit dmv) H := hP
    have hD : va_D A (w_model ky aM mxs mus mys mgp mtp mme mle mlt mkl mln msz mit mmv mrm mer mtd v7 (1 : Int32) mkn mmb mwa mra mbl mbh dxs dus dys dgp dtp dme dle dlt dkl dln dsz dit dmv) := hD
    refine lv_iconst (v := (0 : Int32)) hx hb dX9_number_58 (by decide) ?_
    have hF := Option.some.inj hF
    subst hF
    exact hQ _ H _ _ dX9_number_59 hP hD hS
  · have hF := if_t c8 hF
    refine lv_iload_n hx hb dX9_number_32 rfl (lv_at hl 2 rfl) ?_
    refine lv_if_ne (tgt := 53) hx hb dX9_number_33 (by decide) (fun c9 => ?_) (fun c9 => ?_)
    · have hF := if_f c9 hF
      refine lv_aload_n hx hb dX9_number_53 rfl (lv_at hl 3 rfl) ?_
      refine lv_iconst (v := (1 : Int32)) hx hb dX9_number_54 (by decide) ?_
      refine va_put (D := D) (ci := 8) (v := .int (1 : Int32)) (ty := .boolean) (C := RX9) (T := TX9) (N := 24) hx hb hts iX9_number_X9 tyX9 tyX9_ok nmX9 hown hK hP hD hS 0 rfl rfl 9 (by decide) (hts _ kX9_number_2) (fun _ h9 => h9) rfl (by decide +kernel) rfl rfl (Nat.le_of_ble_eq_true rfl) dX9_number_55 (fun H locs hP hD hS => ?_)
      have hP : va_P D vwCl (w_model ky aM mxs mus mys mgp mtp mme mle mlt mkl mln msz mit mmv mrm mer mtd v7 (1 : Int32) mkn mmb mwa mra mbl mbh dxs dus dys dgp dtp dme dle dlt dkl dln dsz dit dmv) H := hP
      have hD : va_D A (w_model ky aM mxs mus mys mgp mtp mme mle mlt mkl mln msz mit mmv mrm mer mtd v7 (1 : Int32) mkn mmb mwa mra mbl mbh dxs dus dys dgp dtp dme dle dlt dkl dln dsz dit dmv) := hD
      refine lv_iconst (v := (0 : Int32)) hx hb dX9_number_58 (by decide) ?_
      have hF := Option.some.inj hF
      subst hF
      exact hQ _ H _ _ dX9_number_59 hP hD hS
    · have hF := if_t c9 hF
      refine lv_aload_n hx hb dX9_number_36 rfl (lv_at hl 3 rfl) ?_
      obtain ⟨r11, v12, h10, hF⟩ := b2_s hF
      refine cl_vi (As := []) (rest := []) (w' := (w_model ky aM mxs mus mys mgp mtp mme mle mlt mkl mln msz mit mmv mrm mer mtd v12 mwr mkn mmb mwa mra mbl mbh dxs dus dys dgp dtp dme dle dlt dkl dln dsz dit dmv)) ⟨hx, hb, hml, hown, hts⟩ hK hP hD hS hA (c_X9_next l D ky aM mxs mus mys mgp mtp mme mle mlt mkl mln msz mit mmv _ N  mrm mer mtd v7 mwr mkn mmb mwa mra mbl mbh dxs dus dys dgp dtp dme dle dlt dkl dln dsz dit dmv  r11 v12 h10) (cwV 0 hts gX9_number_X9_next rfl rfl rfl (by decide +kernel) ⟨Nat.le_of_ble_eq_true rfl, Nat.le_of_ble_eq_true rfl⟩) [0, 1, 2, 3, 4, 5, 6, 7, 8, 9, 10, 11, 12, 13] [] [0, 1, 2, 3, 4, 5, 6, 7, 8, 9, 10, 11, 12, 13] 0 8 rfl rfl rfl rfl (wr := []) rfl (by decide) rfl rfl hl.1 (Nat.le_of_ble_eq_true rfl) dX9_number_37 ⟨Nat.zero_le _, Nat.zero_le _⟩ (fun H locs hP hD hS => ?_)
      refine lv_i2l (v := (r11.toInt64)) hx hb dX9_number_40 rfl ?_
      refine lv_ldc2 hx hb hown (hts _ kX9_number_3) dX9_number_41 ?_
      refine lv_ldc2 hx hb hown (hts _ kX9_number_4) dX9_number_44 ?_
      obtain ⟨r14, h13, hF⟩ := b1_s hF
      refine cl_si (As := [.long (r11.toInt64), .long (48 : Int64), .long (57 : Int64)]) (rest := []) ⟨hx, hb, hml, hown, hts⟩ hK hP hD hS hA (c_X9_in l D ky  _ N   (r11.toInt64) (48 : Int64) (57 : Int64) r14 h13) (va_cwS 3 hts gX9_number_X9_in rfl rfl rfl (by decide +kernel) ⟨Nat.le_of_ble_eq_true rfl, Nat.le_of_ble_eq_true rfl⟩) rfl hl.1 (Nat.le_of_ble_eq_true rfl) dX9_number_47 ⟨Nat.zero_le _, Nat.zero_le _⟩ (fun H locs hP hD hS => ?_)
      refine lv_if_ne (tgt := 60) hx hb dX9_number_50 (by decide) (fun c15 => ?_) (fun c15 => ?_)
      · have hF := if_f c15 hF
        refine lv_iconst (v := (0 : Int32)) hx hb dX9_number_60 (by decide) ?_
        refine lv_istore (lv' := [(4, .int (0 : Int32)), (3, .int r6), (2, .int mat), (1, .int t0), (0, .ref aM)]) hx hb dX9_number_61 hl (by decide) rfl (fun ls hl => ?_)
        exact w_X9_number_63 N C res hQ mat r6 mwr N (0 : Int32) v12 hF H _ _ hP hD hS (lv_sub hl [4, 2, 1, 0] rfl)
      · have hF := if_t c15 hF
        refine lv_aload_n hx hb dX9_number_53 rfl (lv_at hl 3 rfl) ?_
        refine lv_iconst (v := (1 : Int32)) hx hb dX9_number_54 (by decide) ?_
        refine va_put (D := D) (ci := 8) (v := .int (1 : Int32)) (ty := .boolean) (C := RX9) (T := TX9) (N := 24) hx hb hts iX9_number_X9 tyX9 tyX9_ok nmX9 hown hK hP hD hS 0 rfl rfl 9 (by decide) (hts _ kX9_number_2) (fun _ h9 => h9) rfl (by decide +kernel) rfl rfl (Nat.le_of_ble_eq_true rfl) dX9_number_55 (fun H locs hP hD hS => ?_)
        have hP : va_P D vwCl (w_model ky aM mxs mus mys mgp mtp mme mle mlt mkl mln msz mit mmv mrm mer mtd v12 (1 : Int32) mkn mmb mwa mra mbl mbh dxs dus dys dgp dtp dme dle dlt dkl dln dsz dit dmv) H := hP
        have hD : va_D A (w_model ky aM mxs mus mys mgp mtp mme mle mlt mkl mln msz mit mmv mrm mer mtd v12 (1 : Int32) mkn mmb mwa mra mbl mbh dxs dus dys dgp dtp dme dle dlt dkl dln dsz dit dmv) := hD
        refine lv_iconst (v := (0 : Int32)) hx hb dX9_number_58 (by decide) ?_
        have hF := Option.some.inj hF
        subst hF
        exact hQ _ H _ _ dX9_number_59 hP hD hS
set_option maxHeartbeats 4000000 in
set_option maxRecDepth 100000 in
theorem cr_X9_number (l : Launch) (D : va_G) (ky : Nat → ClassId) (aM mxs mus mys mgp mtp mme mle mlt mkl mln msz mit mmv : Nat) (sz N : Nat)  (mrm : Int32) (mer : Int32) (mtd : Int32) (mat : Int32) (mwr : Int32) (mkn : Int32) (mmb : Int32) (mwa : Int32) (mra : Int32) (mbl : Int32) (mbh : Int32) (dxs : Nat → Int32) (dus : Nat → Int32) (dys : Nat → Int32) (dgp : Nat → Int32) (dtp : Nat → Int32) (dme : Nat → Int32) (dle : Nat → Int32) (dlt : Nat → Int32) (dkl : Nat → Int32) (dln : Nat → Int32) (dsz : Nat → Int32) (dit : Nat → Int32) (dmv : Nat → Int32)  (res : Int32 × Int32 × Int32) (hF : f_X9_number N mtd mat mwr dtp = some res) : MI l yX9_number wsX9_number rm_X9_number D ky sz [.ref aM] (w_model ky aM mxs mus mys mgp mtp mme mle mlt mkl mln msz mit mmv mrm mer mtd mat mwr mkn mmb mwa mra mbl mbh dxs dus dys dgp dtp dme dle dlt dkl dln dsz dit dmv) (w_model ky aM mxs mus mys mgp mtp mme mle mlt mkl mln msz mit mmv mrm mer mtd res.2.1 res.2.2 mkn mmb mwa mra mbl mbh dxs dus dys dgp dtp dme dle dlt dkl dln dsz dit dmv) res.1 := by
  unfold MI
  refine Met.ofW (cc := cX9_number) (maxL := 5) (ret := (some .int)) (by decide) rfl ?_
  intro p e s m args below meth c s₁ B hml hv
  obtain ⟨rfl, hsz, hP, hK, hD0⟩ := hv
  have hx := B.exec
  have hb := B.bytes
  have hr := B.returns
  have hts := atoms_spec (ws := wsX9_number) B.pre
  have hown : s.vm.findClass RX9 = some m.cls := findClass_of_methodNamed B.named
  have hlocks := B.notSynchronized
  subst hsz
  have hD := hD0.self (sz := s.heap.size)
  generalize hAe : va_A (w_model ky aM mxs mus mys mgp mtp mme mle mlt mkl mln msz mit mmv mrm mer mtd mat mwr mkn mmb mwa mra mbl mbh dxs dus dys dgp dtp dme dle dlt dkl dln dsz dit dmv) s.heap.size = A at hD ⊢
  have hA : ∀ q : Nat, s.heap.size ≤ q → A q := fun q h => by rw [← hAe]; exact Or.inr h
  have hS : va_S A s.heap s.heap [] := va_S.rf
  have hP : va_P D vwCl (w_model ky aM mxs mus mys mgp mtp mme mle mlt mkl mln msz mit mmv mrm mer mtd mat mwr mkn mmb mwa mra mbl mbh dxs dus dys dgp dtp dme dle dlt dkl dln dsz dit dmv) s.heap := hP
  have hl := lv_entry ([.ref aM]) (n := 5) (Nat.le_of_ble_eq_true rfl)
  rw [lg_entry_eq]
  generalize (lg_sl ([.ref aM]) ++ List.replicate (5 - (lg_sl ([.ref aM])).length) Slot.unset).toArray = ls at hl ⊢
  have hl : lv_has ls 5 [(0, .ref aM)] := hl
  have C : cx p s m c ([.ref aM]).toArray D ky A cX9_number 5 wsX9_number RX9 := ⟨hx, hb, hml, hown, hts, hK, hA⟩
  have hQ : ∀ (pc : Nat) (H : Heap) (locs : List Loc) (ls : Array Slot), decode cX9_number pc = .ok (.ireturn, 1) → va_P D vwCl (w_model ky aM mxs mus mys mgp mtp mme mle mlt mkl mln msz mit mmv mrm mer mtd res.2.1 res.2.2 mkn mmb mwa mra mbl mbh dxs dus dys dgp dtp dme dle dlt dkl dln dsz dit dmv) H → va_D A (w_model ky aM mxs mus mys mgp mtp mme mle mlt mkl mln msz mit mmv mrm mer mtd res.2.1 res.2.2 mkn mmb mwa mra mbl mbh dxs dus dys dgp dtp dme dle dlt dkl dln dsz dit dmv) → va_S A s.heap H locs → W p l e rm_X9_number s m ([.ref aM]).toArray below meth c H locs 0 0 (MQ below (va_Qi (S := Unit) (fun r _ => r = res.1) (fun _ t => va_P D vwCl (w_model ky aM mxs mus mys mgp mtp mme mle mlt mkl mln msz mit mmv mrm mer mtd res.2.1 res.2.2 mkn mmb mwa mra mbl mbh dxs dus dys dgp dtp dme dle dlt dkl dln dsz dit dmv) t.heap ∧ va_K D vwCl (tyW ky) t ∧ va_D A (w_model ky aM mxs mus mys mgp mtp mme mle mlt mkl mln msz mit mmv mrm mer mtd res.2.1 res.2.2 mkn mmb mwa mra mbl mbh dxs dus dys dgp dtp dme dle dlt dkl dln dsz dit dmv)) A) ([.ref aM]).toArray s 0 0 A) (F0 m pc ls [.int res.1]) := fun pc H locs ls hd hP hD hS => W.iret hx hb hr (fun t ht hW => ⟨⟨res.1, (), rfl, rfl, by rw [ht]; exact hP, va_K.moved hW.alike hK, hD⟩, hS.F ht⟩) hS.2.2 hd
  unfold f_X9_number at hF
  refine lv_aload_n hx hb dX9_number_0 rfl (lv_at hl 0 rfl) ?_
  obtain ⟨r2, v3, h1, hF⟩ := b2_s hF
  refine cl_vi (As := []) (rest := []) (w' := (w_model ky aM mxs mus mys mgp mtp mme mle mlt mkl mln msz mit mmv mrm mer mtd v3 mwr mkn mmb mwa mra mbl mbh dxs dus dys dgp dtp dme dle dlt dkl dln dsz dit dmv)) ⟨hx, hb, hml, hown, hts⟩ hK hP hD hS hA (c_X9_next l D ky aM mxs mus mys mgp mtp mme mle mlt mkl mln msz mit mmv _ N  mrm mer mtd mat mwr mkn mmb mwa mra mbl mbh dxs dus dys dgp dtp dme dle dlt dkl dln dsz dit dmv  r2 v3 h1) (cwV 0 hts gX9_number_X9_next rfl rfl rfl (by decide +kernel) ⟨Nat.le_of_ble_eq_true rfl, Nat.le_of_ble_eq_true rfl⟩) [0, 1, 2, 3, 4, 5, 6, 7, 8, 9, 10, 11, 12, 13] [] [0, 1, 2, 3, 4, 5, 6, 7, 8, 9, 10, 11, 12, 13] 0 8 rfl rfl rfl rfl (wr := []) rfl (by decide) rfl rfl hl.1 (Nat.le_of_ble_eq_true rfl) dX9_number_1 ⟨Nat.zero_le _, Nat.zero_le _⟩ (fun H locs hP hD hS => ?_)
  refine lv_if_ne (tgt := 11) hx hb dX9_number_4 (by decide) (fun c4 => ?_) (fun c4 => ?_)
  · have hF := if_f c4 hF
    refine lv_iconst (v := (0 : Int32)) hx hb dX9_number_11 (by decide) ?_
    exact w_X9_number_12 N C res hQ (0 : Int32) v3 mwr hF _ _ _ hP hD hS (lv_sub hl [0] rfl)
  · have hF := if_t c4 hF
    refine lv_iconst (v := (1 : Int32)) hx hb dX9_number_7 (by decide) ?_
    refine lv_goto (tgt := 12) hx hb dX9_number_8 (by decide) ?_
    exact w_X9_number_12 N C res hQ (1 : Int32) v3 mwr hF _ _ _ hP hD hS (lv_sub hl [0] rfl)
theorem c_X9_number (l : Launch) (D : va_G) (ky : Nat → ClassId) (aM mxs mus mys mgp mtp mme mle mlt mkl mln msz mit mmv : Nat) (sz N : Nat)  (mrm : Int32) (mer : Int32) (mtd : Int32) (mat : Int32) (mwr : Int32) (mkn : Int32) (mmb : Int32) (mwa : Int32) (mra : Int32) (mbl : Int32) (mbh : Int32) (dxs : Nat → Int32) (dus : Nat → Int32) (dys : Nat → Int32) (dgp : Nat → Int32) (dtp : Nat → Int32) (dme : Nat → Int32) (dle : Nat → Int32) (dlt : Nat → Int32) (dkl : Nat → Int32) (dln : Nat → Int32) (dsz : Nat → Int32) (dit : Nat → Int32) (dmv : Nat → Int32)  (rv : Int32) (mat' : Int32) (mwr' : Int32) (hF : f_X9_number N mtd mat mwr dtp = some (rv, mat', mwr')) : MI l yX9_number wsX9_number rm_X9_number D ky sz [.ref aM] (w_model ky aM mxs mus mys mgp mtp mme mle mlt mkl mln msz mit mmv mrm mer mtd mat mwr mkn mmb mwa mra mbl mbh dxs dus dys dgp dtp dme dle dlt dkl dln dsz dit dmv) (w_model ky aM mxs mus mys mgp mtp mme mle mlt mkl mln msz mit mmv mrm mer mtd mat' mwr' mkn mmb mwa mra mbl mbh dxs dus dys dgp dtp dme dle dlt dkl dln dsz dit dmv) rv :=
  cr_X9_number l D ky aM mxs mus mys mgp mtp mme mle mlt mkl mln msz mit mmv sz N mrm mer mtd mat mwr mkn mmb mwa mra mbl mbh dxs dus dys dgp dtp dme dle dlt dkl dln dsz dit dmv (rv, mat', mwr') hF
abbrev rm_X9_named : Room := { frames := 3, cells := 0, slots := 0, locals := 66 }
theorem iX9_named_X9 : ∀ w ∈ wsX90, w ∈ wsX9_named := by decide +kernel
theorem kX9_named_1 : (Cond.fieldLink RX9 99 "TwoLawsModel" "wrong" "Z") ∈ wsX9_named := by decide +kernel
set_option maxHeartbeats 4000000 in
set_option maxRecDepth 100000 in
theorem w_X9_named_21 {p : Program} {l : Launch} {e : Env} {s : State} {m : MethodId} {args : Array Value} {below : List Frame} {meth : Method} {c : Code} {Q : State → Prop} {A : Nat → Prop} {D : va_G} {ky : Nat → ClassId} {aM mxs mus mys mgp mtp mme mle mlt mkl mln msz mit mmv : Nat} {mrm : Int32} {mer : Int32} {mtd : Int32} {mkn : Int32} {mmb : Int32} {mwa : Int32} {mra : Int32} {mbl : Int32} {mbh : Int32} {dxs : Nat → Int32} {dus : Nat → Int32} {dys : Nat → Int32} {dgp : Nat → Int32} {dtp : Nat → Int32} {dme : Nat → Int32} {dle : Nat → Int32} {dlt : Nat → Int32} {dkl : Nat → Int32} {dln : Nat → Int32} {dsz : Nat → Int32} {dit : Nat → Int32} {dmv : Nat → Int32} (N : Nat) (C : cx p s m c args D ky A cX9_named 2 wsX9_named RX9) (res : Int32 × Int32 × Int32) (hQ : ∀ (pc : Nat) (H : Heap) (locs : List Loc) (ls : Array Slot), decode cX9_named pc = .ok (.ireturn, 1) → va_P D vwCl (w_model ky aM mxs mus mys mgp mtp mme mle mlt mkl mln msz mit mmv mrm mer mtd res.2.1 res.2.2 mkn mmb mwa mra mbl mbh dxs dus dys dgp dtp dme dle dlt dkl dln dsz dit dmv) H → va_D A (w_model ky aM mxs mus mys mgp mtp mme mle mlt mkl mln msz mit mmv mrm mer mtd res.2.1 res.2.2 mkn mmb mwa mra mbl mbh dxs dus dys dgp dtp dme dle dlt dkl dln dsz dit dmv) → va_S A s.heap H locs → W p l e rm_X9_named s m args below meth c H locs 0 0 Q (F0 m pc ls [.int res.1]))  (t0 : Int32) (mat : Int32) (mwr : Int32) (hF : f_X9_named_21 N t0 mtd mat dtp = some res) : ∀ (H : Heap) (locs : List Loc) (ls : Array Slot), va_P D vwCl (w_model ky aM mxs mus mys mgp mtp mme mle mlt mkl mln msz mit mmv mrm mer mtd mat mwr mkn mmb mwa mra mbl mbh dxs dus dys dgp dtp dme dle dlt dkl dln dsz dit dmv) H → va_D A (w_model ky aM mxs mus mys mgp mtp mme mle mlt mkl mln msz mit mmv mrm mer mtd mat mwr mkn mmb mwa mra mbl mbh dxs dus dys dgp dtp dme dle dlt dkl dln dsz dit dmv) → va_S A s.heap H locs → lv_has ls 2 [(0, .ref aM)] → W p l e rm_X9_named s m args below meth c H locs 0 0 Q (F0 m 21 ls [.int t0, .ref aM]) := by
  obtain ⟨hx, hb, hml, hown, hts, hK, hA⟩ := id C
  intro H locs ls hP hD hS hl
  unfold f_X9_named_21 at hF
  obtain ⟨h6, hF⟩ := gz_s hF
  refine va_put (D := D) (ci := 8) (v := .int t0) (ty := .boolean) (C := RX9) (T := TX9) (N := 24) hx hb hts iX9_named_X9 tyX9 tyX9_ok nmX9 hown hK hP hD hS 0 rfl rfl 9 (by decide) (hts _ kX9_named_1) (fun _ h9 => h9) rfl (by decide +kernel) (gz_n h6) (gz_f h6) (Nat.le_of_ble_eq_true rfl) dX9_named_21 (fun H locs hP hD hS => ?_)
  have hP : va_P D vwCl (w_model ky aM mxs mus mys mgp mtp mme mle mlt mkl mln msz mit mmv mrm mer mtd mat t0 mkn mmb mwa mra mbl mbh dxs dus dys dgp dtp dme dle dlt dkl dln dsz dit dmv) H := hP
  have hD : va_D A (w_model ky aM mxs mus mys mgp mtp mme mle mlt mkl mln msz mit mmv mrm mer mtd mat t0 mkn mmb mwa mra mbl mbh dxs dus dys dgp dtp dme dle dlt dkl dln dsz dit dmv) := hD
  refine lv_aload_n hx hb dX9_named_24 rfl (lv_at hl 0 rfl) ?_
  refine va_get (D := D) (ci := 8) (v := .int t0) (C := RX9) (T := TX9) (N := 24) hx hb hts iX9_named_X9 hown hK hP 0 rfl rfl 9 (by decide) (hts _ kX9_named_1) (fun _ h9 => h9) rfl dX9_named_25 ?_
  refine lv_if_eq (tgt := 35) hx hb dX9_named_28 (by decide) (fun c7 => ?_) (fun c7 => ?_)
  · have hF := if_t c7 hF
    refine lv_aload_n hx hb dX9_named_35 rfl (lv_at hl 0 rfl) ?_
    obtain ⟨r9, v10, v11, h8, hF⟩ := b3_s hF
    refine cl_vi (As := []) (rest := []) (w' := (w_model ky aM mxs mus mys mgp mtp mme mle mlt mkl mln msz mit mmv mrm mer mtd v10 v11 mkn mmb mwa mra mbl mbh dxs dus dys dgp dtp dme dle dlt dkl dln dsz dit dmv)) ⟨hx, hb, hml, hown, hts⟩ hK hP hD hS hA (c_X9_number l D ky aM mxs mus mys mgp mtp mme mle mlt mkl mln msz mit mmv _ N  mrm mer mtd mat t0 mkn mmb mwa mra mbl mbh dxs dus dys dgp dtp dme dle dlt dkl dln dsz dit dmv  r9 v10 v11 h8) (cwV 0 hts gX9_named_X9_number rfl rfl rfl (by decide +kernel) ⟨Nat.le_of_ble_eq_true rfl, Nat.le_of_ble_eq_true rfl⟩) [0, 1, 2, 3, 4, 5, 6, 7, 8, 9, 10, 11, 12, 13] [] [0, 1, 2, 3, 4, 5, 6, 7, 8, 9, 10, 11, 12, 13] 0 8 rfl rfl rfl rfl (wr := []) rfl (by decide) rfl rfl hl.1 (Nat.le_of_ble_eq_true rfl) dX9_named_36 ⟨Nat.zero_le _, Nat.zero_le _⟩ (fun H locs hP hD hS => ?_)
    have hF := Option.some.inj hF
    subst hF
    exact hQ _ H _ _ dX9_named_39 hP hD hS
  · have hF := if_f c7 hF
    refine lv_iconst (v := (0 : Int32)) hx hb dX9_named_31 (by decide) ?_
    refine lv_goto (tgt := 39) hx hb dX9_named_32 (by decide) ?_
    have hF := Option.some.inj hF
    subst hF
    exact hQ _ H _ _ dX9_named_39 hP hD hS
set_option maxHeartbeats 4000000 in
set_option maxRecDepth 100000 in
theorem cr_X9_named (l : Launch) (D : va_G) (ky : Nat → ClassId) (aM mxs mus mys mgp mtp mme mle mlt mkl mln msz mit mmv : Nat) (sz N : Nat)  (mrm : Int32) (mer : Int32) (mtd : Int32) (mat : Int32) (mwr : Int32) (mkn : Int32) (mmb : Int32) (mwa : Int32) (mra : Int32) (mbl : Int32) (mbh : Int32) (dxs : Nat → Int32) (dus : Nat → Int32) (dys : Nat → Int32) (dgp : Nat → Int32) (dtp : Nat → Int32) (dme : Nat → Int32) (dle : Nat → Int32) (dlt : Nat → Int32) (dkl : Nat → Int32) (dln : Nat → Int32) (dsz : Nat → Int32) (dit : Nat → Int32) (dmv : Nat → Int32) (p0 : Int32) (res : Int32 × Int32 × Int32) (hF : f_X9_named N p0 mtd mat mwr dtp = some res) : MI l yX9_named wsX9_named rm_X9_named D ky sz [.ref aM, .int p0] (w_model ky aM mxs mus mys mgp mtp mme mle mlt mkl mln msz mit mmv mrm mer mtd mat mwr mkn mmb mwa mra mbl mbh dxs dus dys dgp dtp dme dle dlt dkl dln dsz dit dmv) (w_model ky aM mxs mus mys mgp mtp mme mle mlt mkl mln msz mit mmv mrm mer mtd res.2.1 res.2.2 mkn mmb mwa mra mbl mbh dxs dus dys dgp dtp dme dle dlt dkl dln dsz dit dmv) res.1 := by
  unfold MI
  refine Met.ofW (cc := cX9_named) (maxL := 2) (ret := (some .int)) (by decide) rfl ?_
  intro p e s m args below meth c s₁ B hml hv
  obtain ⟨rfl, hsz, hP, hK, hD0⟩ := hv
  have hx := B.exec
  have hb := B.bytes
  have hr := B.returns
  have hts := atoms_spec (ws := wsX9_named) B.pre
  have hown : s.vm.findClass RX9 = some m.cls := findClass_of_methodNamed B.named
  have hlocks := B.notSynchronized
  subst hsz
  have hD := hD0.self (sz := s.heap.size)
  generalize hAe : va_A (w_model ky aM mxs mus mys mgp mtp mme mle mlt mkl mln msz mit mmv mrm mer mtd mat mwr mkn mmb mwa mra mbl mbh dxs dus dys dgp dtp dme dle dlt dkl dln dsz dit dmv) s.heap.size = A at hD ⊢
  have hA : ∀ q : Nat, s.heap.size ≤ q → A q := fun q h => by rw [← hAe]; exact Or.inr h
  have hS : va_S A s.heap s.heap [] := va_S.rf
  have hP : va_P D vwCl (w_model ky aM mxs mus mys mgp mtp mme mle mlt mkl mln msz mit mmv mrm mer mtd mat mwr mkn mmb mwa mra mbl mbh dxs dus dys dgp dtp dme dle dlt dkl dln dsz dit dmv) s.heap := hP
  have hl := lv_entry ([.ref aM, .int p0]) (n := 2) (Nat.le_of_ble_eq_true rfl)
  rw [lg_entry_eq]
  generalize (lg_sl ([.ref aM, .int p0]) ++ List.replicate (2 - (lg_sl ([.ref aM, .int p0])).length) Slot.unset).toArray = ls at hl ⊢
  have hl : lv_has ls 2 [(0, .ref aM), (1, .int p0)] := hl
  have C : cx p s m c ([.ref aM, .int p0]).toArray D ky A cX9_named 2 wsX9_named RX9 := ⟨hx, hb, hml, hown, hts, hK, hA⟩
  have hQ : ∀ (pc : Nat) (H : Heap) (locs : List Loc) (ls : Array Slot), decode cX9_named pc = .ok (.ireturn, 1) → va_P D vwCl (w_model ky aM mxs mus mys mgp mtp mme mle mlt mkl mln msz mit mmv mrm mer mtd res.2.1 res.2.2 mkn mmb mwa mra mbl mbh dxs dus dys dgp dtp dme dle dlt dkl dln dsz dit dmv) H → va_D A (w_model ky aM mxs mus mys mgp mtp mme mle mlt mkl mln msz mit mmv mrm mer mtd res.2.1 res.2.2 mkn mmb mwa mra mbl mbh dxs dus dys dgp dtp dme dle dlt dkl dln dsz dit dmv) → va_S A s.heap H locs → W p l e rm_X9_named s m ([.ref aM, .int p0]).toArray below meth c H locs 0 0 (MQ below (va_Qi (S := Unit) (fun r _ => r = res.1) (fun _ t => va_P D vwCl (w_model ky aM mxs mus mys mgp mtp mme mle mlt mkl mln msz mit mmv mrm mer mtd res.2.1 res.2.2 mkn mmb mwa mra mbl mbh dxs dus dys dgp dtp dme dle dlt dkl dln dsz dit dmv) t.heap ∧ va_K D vwCl (tyW ky) t ∧ va_D A (w_model ky aM mxs mus mys mgp mtp mme mle mlt mkl mln msz mit mmv mrm mer mtd res.2.1 res.2.2 mkn mmb mwa mra mbl mbh dxs dus dys dgp dtp dme dle dlt dkl dln dsz dit dmv)) A) ([.ref aM, .int p0]).toArray s 0 0 A) (F0 m pc ls [.int res.1]) := fun pc H locs ls hd hP hD hS => W.iret hx hb hr (fun t ht hW => ⟨⟨res.1, (), rfl, rfl, by rw [ht]; exact hP, va_K.moved hW.alike hK, hD⟩, hS.F ht⟩) hS.2.2 hd
  unfold f_X9_named at hF
  refine lv_aload_n hx hb dX9_named_0 rfl (lv_at hl 0 rfl) ?_
  refine lv_aload_n hx hb dX9_named_1 rfl (lv_at hl 0 rfl) ?_
  refine va_get (D := D) (ci := 8) (v := .int mwr) (C := RX9) (T := TX9) (N := 24) hx hb hts iX9_named_X9 hown hK hP 0 rfl rfl 9 (by decide) (hts _ kX9_named_1) (fun _ h9 => h9) rfl dX9_named_2 ?_
  refine lv_if_ne (tgt := 16) hx hb dX9_named_5 (by decide) (fun c1 => ?_) (fun c1 => ?_)
  · have hF := if_f c1 hF
    refine lv_iconst (v := (1 : Int32)) hx hb dX9_named_16 (by decide) ?_
    refine lv_goto (tgt := 21) hx hb dX9_named_17 (by decide) ?_
    exact w_X9_named_21 N C res hQ (1 : Int32) mat mwr hF _ _ _ hP hD hS (lv_sub hl [0] rfl)
  · have hF := if_t c1 hF
    refine lv_aload_n hx hb dX9_named_8 rfl (lv_at hl 0 rfl) ?_
    refine lv_iload_n hx hb dX9_named_9 rfl (lv_at hl 1 rfl) ?_
    obtain ⟨r3, v4, h2, hF⟩ := b2_s hF
    refine cl_vi (As := [.int p0]) (rest := [.ref aM]) (w' := (w_model ky aM mxs mus mys mgp mtp mme mle mlt mkl mln msz mit mmv mrm mer mtd v4 mwr mkn mmb mwa mra mbl mbh dxs dus dys dgp dtp dme dle dlt dkl dln dsz dit dmv)) ⟨hx, hb, hml, hown, hts⟩ hK hP hD hS hA (c_X9_passes l D ky aM mxs mus mys mgp mtp mme mle mlt mkl mln msz mit mmv _ N  mrm mer mtd mat mwr mkn mmb mwa mra mbl mbh dxs dus dys dgp dtp dme dle dlt dkl dln dsz dit dmv p0 r3 v4 h2) (cwV 1 hts gX9_named_X9_passes rfl rfl rfl (by decide +kernel) ⟨Nat.le_of_ble_eq_true rfl, Nat.le_of_ble_eq_true rfl⟩) [0, 1, 2, 3, 4, 5, 6, 7, 8, 9, 10, 11, 12, 13] [] [0, 1, 2, 3, 4, 5, 6, 7, 8, 9, 10, 11, 12, 13] 0 8 rfl rfl rfl rfl (wr := []) rfl (by decide) rfl rfl hl.1 (Nat.le_of_ble_eq_true rfl) dX9_named_10 ⟨Nat.zero_le _, Nat.zero_le _⟩ (fun H locs hP hD hS => ?_)
    refine lv_if_ne (tgt := 20) hx hb dX9_named_13 (by decide) (fun c5 => ?_) (fun c5 => ?_)
    · have hF := if_f c5 hF
      refine lv_iconst (v := (0 : Int32)) hx hb dX9_named_20 (by decide) ?_
      exact w_X9_named_21 N C res hQ (0 : Int32) v4 mwr hF _ _ _ hP hD hS (lv_sub hl [0] rfl)
    · have hF := if_t c5 hF
      refine lv_iconst (v := (1 : Int32)) hx hb dX9_named_16 (by decide) ?_
      refine lv_goto (tgt := 21) hx hb dX9_named_17 (by decide) ?_
      exact w_X9_named_21 N C res hQ (1 : Int32) v4 mwr hF _ _ _ hP hD hS (lv_sub hl [0] rfl)
theorem c_X9_named (l : Launch) (D : va_G) (ky : Nat → ClassId) (aM mxs mus mys mgp mtp mme mle mlt mkl mln msz mit mmv : Nat) (sz N : Nat)  (mrm : Int32) (mer : Int32) (mtd : Int32) (mat : Int32) (mwr : Int32) (mkn : Int32) (mmb : Int32) (mwa : Int32) (mra : Int32) (mbl : Int32) (mbh : Int32) (dxs : Nat → Int32) (dus : Nat → Int32) (dys : Nat → Int32) (dgp : Nat → Int32) (dtp : Nat → Int32) (dme : Nat → Int32) (dle : Nat → Int32) (dlt : Nat → Int32) (dkl : Nat → Int32) (dln : Nat → Int32) (dsz : Nat → Int32) (dit : Nat → Int32) (dmv : Nat → Int32) (p0 : Int32) (rv : Int32) (mat' : Int32) (mwr' : Int32) (hF : f_X9_named N p0 mtd mat mwr dtp = some (rv, mat', mwr')) : MI l yX9_named wsX9_named rm_X9_named D ky sz [.ref aM, .int p0] (w_model ky aM mxs mus mys mgp mtp mme mle mlt mkl mln msz mit mmv mrm mer mtd mat mwr mkn mmb mwa mra mbl mbh dxs dus dys dgp dtp dme dle dlt dkl dln dsz dit dmv) (w_model ky aM mxs mus mys mgp mtp mme mle mlt mkl mln msz mit mmv mrm mer mtd mat' mwr' mkn mmb mwa mra mbl mbh dxs dus dys dgp dtp dme dle dlt dkl dln dsz dit dmv) rv :=
  cr_X9_named l D ky aM mxs mus mys mgp mtp mme mle mlt mkl mln msz mit mmv sz N mrm mer mtd mat mwr mkn mmb mwa mra mbl mbh dxs dus dys dgp dtp dme dle dlt dkl dln dsz dit dmv p0 (rv, mat', mwr') hF
abbrev rm_X9_oneRow : Room := { frames := 4, cells := 0, slots := 0, locals := 87 }
theorem iX9_oneRow_X9 : ∀ w ∈ wsX90, w ∈ wsX9_oneRow := by decide +kernel
theorem kX9_oneRow_1 : (Cond.fieldLink RX9 62 "TwoLawsModel" "rowMany" "I") ∈ wsX9_oneRow := by decide +kernel
theorem kX9_oneRow_2 : (Cond.fieldLink RX9 96 "TwoLawsModel" "at" "I") ∈ wsX9_oneRow := by decide +kernel
theorem kX9_oneRow_3 : (Cond.fieldLink RX9 99 "TwoLawsModel" "wrong" "Z") ∈ wsX9_oneRow := by decide +kernel
set_option maxHeartbeats 4000000 in
set_option maxRecDepth 100000 in
theorem w_X9_oneRow_141 {p : Program} {l : Launch} {e : Env} {s : State} {m : MethodId} {args : Array Value} {below : List Frame} {meth : Method} {c : Code} {Q : State → Prop} {A : Nat → Prop} {D : va_G} {ky : Nat → ClassId} {aM mxs mus mys mgp mtp mme mle mlt mkl mln msz mit mmv : Nat} {mer : Int32} {mtd : Int32} {mkn : Int32} {mmb : Int32} {mwa : Int32} {mra : Int32} {mbl : Int32} {mbh : Int32} {dtp : Nat → Int32} {dme : Nat → Int32} {dle : Nat → Int32} {dlt : Nat → Int32} {dkl : Nat → Int32} {dln : Nat → Int32} {dsz : Nat → Int32} {dit : Nat → Int32} {dmv : Nat → Int32} (N : Nat) (C : cx p s m c args D ky A cX9_oneRow 7 wsX9_oneRow RX9) (res : Int32 × Int32 × Int32 × (Nat → Int32) × (Nat → Int32) × (Nat → Int32) × (Nat → Int32)) (hQ : ∀ (pc : Nat) (H : Heap) (locs : List Loc) (ls : Array Slot), decode cX9_oneRow pc = .ok (.return_, 1) → va_P D vwCl (w_model ky aM mxs mus mys mgp mtp mme mle mlt mkl mln msz mit mmv res.1 mer mtd res.2.1 res.2.2.1 mkn mmb mwa mra mbl mbh res.2.2.2.1 res.2.2.2.2.1 res.2.2.2.2.2.1 res.2.2.2.2.2.2 dtp dme dle dlt dkl dln dsz dit dmv) H → va_D A (w_model ky aM mxs mus mys mgp mtp mme mle mlt mkl mln msz mit mmv res.1 mer mtd res.2.1 res.2.2.1 mkn mmb mwa mra mbl mbh res.2.2.2.1 res.2.2.2.2.1 res.2.2.2.2.2.1 res.2.2.2.2.2.2 dtp dme dle dlt dkl dln dsz dit dmv) → va_S A s.heap H locs → W p l e rm_X9_oneRow s m args below meth c H locs 0 0 Q (F0 m pc ls []))  (l3 : Int32) (l4 : Int32) (l5 : Int32) (t0 : Int32) (mrm : Int32) (mat : Int32) (mwr : Int32) (dxs : Nat → Int32) (dus : Nat → Int32) (dys : Nat → Int32) (dgp : Nat → Int32) (hF : f_X9_oneRow_141 N l3 l4 l5 t0 mrm mat mwr dxs dus dys dgp = some res) : ∀ (H : Heap) (locs : List Loc) (ls : Array Slot), va_P D vwCl (w_model ky aM mxs mus mys mgp mtp mme mle mlt mkl mln msz mit mmv mrm mer mtd mat mwr mkn mmb mwa mra mbl mbh dxs dus dys dgp dtp dme dle dlt dkl dln dsz dit dmv) H → va_D A (w_model ky aM mxs mus mys mgp mtp mme mle mlt mkl mln msz mit mmv mrm mer mtd mat mwr mkn mmb mwa mra mbl mbh dxs dus dys dgp dtp dme dle dlt dkl dln dsz dit dmv) → va_S A s.heap H locs → lv_has ls 7 [(0, .ref aM), (3, .int l3), (4, .int l4), (5, .int l5)] → W p l e rm_X9_oneRow s m args below meth c H locs 0 0 Q (F0 m 141 ls [.int t0]) := by
  obtain ⟨hx, hb, hml, hown, hts, hK, hA⟩ := id C
  intro H locs ls hP hD hS hl
  unfold f_X9_oneRow_141 at hF
  refine lv_istore (lv' := [(6, .int t0), (0, .ref aM), (3, .int l3), (4, .int l4), (5, .int l5)]) hx hb dX9_oneRow_141 hl (by decide) rfl (fun ls hl => ?_)
  refine lv_aload_n hx hb dX9_oneRow_143 rfl (lv_at hl 1 rfl) ?_
  refine va_get (D := D) (ci := 8) (v := .int mwr) (C := RX9) (T := TX9) (N := 24) hx hb hts iX9_oneRow_X9 hown hK hP 0 rfl rfl 9 (by decide) (hts _ kX9_oneRow_3) (fun _ h9 => h9) rfl dX9_oneRow_144 ?_
  refine lv_if_ne (tgt := 161) hx hb dX9_oneRow_147 (by decide) (fun c34 => ?_) (fun c34 => ?_)
  · have hF := if_f c34 hF
    have hF := Option.some.inj hF
    subst hF
    exact hQ _ H _ _ dX9_oneRow_161 hP hD hS
  · have hF := if_t c34 hF
    refine lv_aload_n hx hb dX9_oneRow_150 rfl (lv_at hl 1 rfl) ?_
    refine lv_iload_n hx hb dX9_oneRow_151 rfl (lv_at hl 2 rfl) ?_
    refine lv_iload hx hb dX9_oneRow_152 (lv_at hl 3 rfl) ?_
    refine lv_iload hx hb dX9_oneRow_154 (lv_at hl 0 rfl) ?_
    refine lv_iload hx hb dX9_oneRow_156 (lv_at hl 4 rfl) ?_
    obtain ⟨v36, v37, v38, v39, v40, h35, hF⟩ := b5_s hF
    refine cl_vv (As := [.int l3, .int l4, .int t0, .int l5]) (rest := []) (w' := (w_model ky aM mxs mus mys mgp mtp mme mle mlt mkl mln msz mit mmv v36 mer mtd mat mwr mkn mmb mwa mra mbl mbh v37 v38 v39 v40 dtp dme dle dlt dkl dln dsz dit dmv)) ⟨hx, hb, hml, hown, hts⟩ hK hP hD hS hA (c_X9_puts l D ky aM mxs mus mys mgp mtp mme mle mlt mkl mln msz mit mmv _ N  mrm mer mtd mat mwr mkn mmb mwa mra mbl mbh dxs dus dys dgp dtp dme dle dlt dkl dln dsz dit dmv l3 l4 t0 l5 v36 v37 v38 v39 v40 h35) (cwV 4 hts gX9_oneRow_X9_puts rfl rfl rfl (by decide +kernel) ⟨Nat.le_of_ble_eq_true rfl, Nat.le_of_ble_eq_true rfl⟩) [0, 1, 2, 3, 4, 5, 6, 7, 8, 9, 10, 11, 12, 13] [] [0, 1, 2, 3, 4, 5, 6, 7, 8, 9, 10, 11, 12, 13] 0 8 rfl rfl rfl rfl (wr := []) rfl (by decide) rfl rfl hl.1 (Nat.le_of_ble_eq_true rfl) dX9_oneRow_158 ⟨Nat.zero_le _, Nat.zero_le _⟩ (fun H locs hP hD hS => ?_)
    have hF := Option.some.inj hF
    subst hF
    exact hQ _ H _ _ dX9_oneRow_161 hP hD hS
set_option maxHeartbeats 4000000 in
set_option maxRecDepth 100000 in
theorem w_X9_oneRow_119 {p : Program} {l : Launch} {e : Env} {s : State} {m : MethodId} {args : Array Value} {below : List Frame} {meth : Method} {c : Code} {Q : State → Prop} {A : Nat → Prop} {D : va_G} {ky : Nat → ClassId} {aM mxs mus mys mgp mtp mme mle mlt mkl mln msz mit mmv : Nat} {mer : Int32} {mtd : Int32} {mkn : Int32} {mmb : Int32} {mwa : Int32} {mra : Int32} {mbl : Int32} {mbh : Int32} {dtp : Nat → Int32} {dme : Nat → Int32} {dle : Nat → Int32} {dlt : Nat → Int32} {dkl : Nat → Int32} {dln : Nat → Int32} {dsz : Nat → Int32} {dit : Nat → Int32} {dmv : Nat → Int32} (N : Nat) (C : cx p s m c args D ky A cX9_oneRow 7 wsX9_oneRow RX9) (res : Int32 × Int32 × Int32 × (Nat → Int32) × (Nat → Int32) × (Nat → Int32) × (Nat → Int32)) (hQ : ∀ (pc : Nat) (H : Heap) (locs : List Loc) (ls : Array Slot), decode cX9_oneRow pc = .ok (.return_, 1) → va_P D vwCl (w_model ky aM mxs mus mys mgp mtp mme mle mlt mkl mln msz mit mmv res.1 mer mtd res.2.1 res.2.2.1 mkn mmb mwa mra mbl mbh res.2.2.2.1 res.2.2.2.2.1 res.2.2.2.2.2.1 res.2.2.2.2.2.2 dtp dme dle dlt dkl dln dsz dit dmv) H → va_D A (w_model ky aM mxs mus mys mgp mtp mme mle mlt mkl mln msz mit mmv res.1 mer mtd res.2.1 res.2.2.1 mkn mmb mwa mra mbl mbh res.2.2.2.1 res.2.2.2.2.1 res.2.2.2.2.2.1 res.2.2.2.2.2.2 dtp dme dle dlt dkl dln dsz dit dmv) → va_S A s.heap H locs → W p l e rm_X9_oneRow s m args below meth c H locs 0 0 Q (F0 m pc ls []))  (l3 : Int32) (l4 : Int32) (t0 : Int32) (mrm : Int32) (mat : Int32) (mwr : Int32) (dxs : Nat → Int32) (dus : Nat → Int32) (dys : Nat → Int32) (dgp : Nat → Int32) (hF : f_X9_oneRow_119 N l3 l4 t0 mrm mtd mat mwr dxs dus dys dgp dtp = some res) : ∀ (H : Heap) (locs : List Loc) (ls : Array Slot), va_P D vwCl (w_model ky aM mxs mus mys mgp mtp mme mle mlt mkl mln msz mit mmv mrm mer mtd mat mwr mkn mmb mwa mra mbl mbh dxs dus dys dgp dtp dme dle dlt dkl dln dsz dit dmv) H → va_D A (w_model ky aM mxs mus mys mgp mtp mme mle mlt mkl mln msz mit mmv mrm mer mtd mat mwr mkn mmb mwa mra mbl mbh dxs dus dys dgp dtp dme dle dlt dkl dln dsz dit dmv) → va_S A s.heap H locs → lv_has ls 7 [(0, .ref aM), (3, .int l3), (4, .int l4)] → W p l e rm_X9_oneRow s m args below meth c H locs 0 0 Q (F0 m 119 ls [.int t0]) := by
  obtain ⟨hx, hb, hml, hown, hts, hK, hA⟩ := id C
  intro H locs ls hP hD hS hl
  unfold f_X9_oneRow_119 at hF
  refine lv_istore (lv' := [(5, .int t0), (0, .ref aM), (3, .int l3), (4, .int l4)]) hx hb dX9_oneRow_119 hl (by decide) rfl (fun ls hl => ?_)
  refine lv_aload_n hx hb dX9_oneRow_121 rfl (lv_at hl 1 rfl) ?_
  refine va_get (D := D) (ci := 8) (v := .int mwr) (C := RX9) (T := TX9) (N := 24) hx hb hts iX9_oneRow_X9 hown hK hP 0 rfl rfl 9 (by decide) (hts _ kX9_oneRow_3) (fun _ h9 => h9) rfl dX9_oneRow_122 ?_
  refine lv_if_ne (tgt := 133) hx hb dX9_oneRow_125 (by decide) (fun c28 => ?_) (fun c28 => ?_)
  · have hF := if_f c28 hF
    refine lv_iconst (v := (0 : Int32)) hx hb dX9_oneRow_133 (by decide) ?_
    refine lv_goto (tgt := 141) hx hb dX9_oneRow_134 (by decide) ?_
    exact w_X9_oneRow_141 N C res hQ l3 l4 t0 (0 : Int32) mrm mat mwr dxs dus dys dgp hF H _ _ hP hD hS (lv_sub hl [1, 2, 3, 0] rfl)
  · have hF := if_t c28 hF
    refine lv_iload hx hb dX9_oneRow_128 (lv_at hl 0 rfl) ?_
    refine lv_if_eq (tgt := 137) hx hb dX9_oneRow_130 (by decide) (fun c29 => ?_) (fun c29 => ?_)
    · have hF := if_t c29 hF
      refine lv_aload_n hx hb dX9_oneRow_137 rfl (lv_at hl 1 rfl) ?_
      obtain ⟨r31, v32, v33, h30, hF⟩ := b3_s hF
      refine cl_vi (As := []) (rest := []) (w' := (w_model ky aM mxs mus mys mgp mtp mme mle mlt mkl mln msz mit mmv mrm mer mtd v32 v33 mkn mmb mwa mra mbl mbh dxs dus dys dgp dtp dme dle dlt dkl dln dsz dit dmv)) ⟨hx, hb, hml, hown, hts⟩ hK hP hD hS hA (c_X9_number l D ky aM mxs mus mys mgp mtp mme mle mlt mkl mln msz mit mmv _ N  mrm mer mtd mat mwr mkn mmb mwa mra mbl mbh dxs dus dys dgp dtp dme dle dlt dkl dln dsz dit dmv  r31 v32 v33 h30) (cwV 0 hts gX9_oneRow_X9_number rfl rfl rfl (by decide +kernel) ⟨Nat.le_of_ble_eq_true rfl, Nat.le_of_ble_eq_true rfl⟩) [0, 1, 2, 3, 4, 5, 6, 7, 8, 9, 10, 11, 12, 13] [] [0, 1, 2, 3, 4, 5, 6, 7, 8, 9, 10, 11, 12, 13] 0 8 rfl rfl rfl rfl (wr := []) rfl (by decide) rfl rfl hl.1 (Nat.le_of_ble_eq_true rfl) dX9_oneRow_138 ⟨Nat.zero_le _, Nat.zero_le _⟩ (fun H locs hP hD hS => ?_)
      exact w_X9_oneRow_141 N C res hQ l3 l4 t0 r31 mrm v32 v33 dxs dus dys dgp hF H _ _ hP hD hS (lv_sub hl [1, 2, 3, 0] rfl)
    · have hF := if_f c29 hF
      refine lv_iconst (v := (0 : Int32)) hx hb dX9_oneRow_133 (by decide) ?_
      refine lv_goto (tgt := 141) hx hb dX9_oneRow_134 (by decide) ?_
      exact w_X9_oneRow_141 N C res hQ l3 l4 t0 (0 : Int32) mrm mat mwr dxs dus dys dgp hF H _ _ hP hD hS (lv_sub hl [1, 2, 3, 0] rfl)
set_option maxHeartbeats 4000000 in
set_option maxRecDepth 100000 in
theorem w_X9_oneRow_95 {p : Program} {l : Launch} {e : Env} {s : State} {m : MethodId} {args : Array Value} {below : List Frame} {meth : Method} {c : Code} {Q : State → Prop} {A : Nat → Prop} {D : va_G} {ky : Nat → ClassId} {aM mxs mus mys mgp mtp mme mle mlt mkl mln msz mit mmv : Nat} {mer : Int32} {mtd : Int32} {mkn : Int32} {mmb : Int32} {mwa : Int32} {mra : Int32} {mbl : Int32} {mbh : Int32} {dtp : Nat → Int32} {dme : Nat → Int32} {dle : Nat → Int32} {dlt : Nat → Int32} {dkl : Nat → Int32} {dln : Nat → Int32} {dsz : Nat → Int32} {dit : Nat → Int32} {dmv : Nat → Int32} (N : Nat) (C : cx p s m c args D ky A cX9_oneRow 7 wsX9_oneRow RX9) (res : Int32 × Int32 × Int32 × (Nat → Int32) × (Nat → Int32) × (Nat → Int32) × (Nat → Int32)) (hQ : ∀ (pc : Nat) (H : Heap) (locs : List Loc) (ls : Array Slot), decode cX9_oneRow pc = .ok (.return_, 1) → va_P D vwCl (w_model ky aM mxs mus mys mgp mtp mme mle mlt mkl mln msz mit mmv res.1 mer mtd res.2.1 res.2.2.1 mkn mmb mwa mra mbl mbh res.2.2.2.1 res.2.2.2.2.1 res.2.2.2.2.2.1 res.2.2.2.2.2.2 dtp dme dle dlt dkl dln dsz dit dmv) H → va_D A (w_model ky aM mxs mus mys mgp mtp mme mle mlt mkl mln msz mit mmv res.1 mer mtd res.2.1 res.2.2.1 mkn mmb mwa mra mbl mbh res.2.2.2.1 res.2.2.2.2.1 res.2.2.2.2.2.1 res.2.2.2.2.2.2 dtp dme dle dlt dkl dln dsz dit dmv) → va_S A s.heap H locs → W p l e rm_X9_oneRow s m args below meth c H locs 0 0 Q (F0 m pc ls []))  (l3 : Int32) (l4 : Int32) (t0 : Int32) (mrm : Int32) (mat : Int32) (mwr : Int32) (dxs : Nat → Int32) (dus : Nat → Int32) (dys : Nat → Int32) (dgp : Nat → Int32) (hF : f_X9_oneRow_95 N l3 l4 t0 mrm mtd mat dxs dus dys dgp dtp = some res) : ∀ (H : Heap) (locs : List Loc) (ls : Array Slot), va_P D vwCl (w_model ky aM mxs mus mys mgp mtp mme mle mlt mkl mln msz mit mmv mrm mer mtd mat mwr mkn mmb mwa mra mbl mbh dxs dus dys dgp dtp dme dle dlt dkl dln dsz dit dmv) H → va_D A (w_model ky aM mxs mus mys mgp mtp mme mle mlt mkl mln msz mit mmv mrm mer mtd mat mwr mkn mmb mwa mra mbl mbh dxs dus dys dgp dtp dme dle dlt dkl dln dsz dit dmv) → va_S A s.heap H locs → lv_has ls 7 [(0, .ref aM), (3, .int l3), (4, .int l4)] → W p l e rm_X9_oneRow s m args below meth c H locs 0 0 Q (F0 m 95 ls [.int t0, .ref aM]) := by
  obtain ⟨hx, hb, hml, hown, hts, hK, hA⟩ := id C
  intro H locs ls hP hD hS hl
  unfold f_X9_oneRow_95 at hF
  obtain ⟨h22, hF⟩ := gz_s hF
  refine va_put (D := D) (ci := 8) (v := .int t0) (ty := .boolean) (C := RX9) (T := TX9) (N := 24) hx hb hts iX9_oneRow_X9 tyX9 tyX9_ok nmX9 hown hK hP hD hS 0 rfl rfl 9 (by decide) (hts _ kX9_oneRow_3) (fun _ h9 => h9) rfl (by decide +kernel) (gz_n h22) (gz_f h22) (Nat.le_of_ble_eq_true rfl) dX9_oneRow_95 (fun H locs hP hD hS => ?_)
  have hP : va_P D vwCl (w_model ky aM mxs mus mys mgp mtp mme mle mlt mkl mln msz mit mmv mrm mer mtd mat t0 mkn mmb mwa mra mbl mbh dxs dus dys dgp dtp dme dle dlt dkl dln dsz dit dmv) H := hP
  have hD : va_D A (w_model ky aM mxs mus mys mgp mtp mme mle mlt mkl mln msz mit mmv mrm mer mtd mat t0 mkn mmb mwa mra mbl mbh dxs dus dys dgp dtp dme dle dlt dkl dln dsz dit dmv) := hD
  refine lv_aload_n hx hb dX9_oneRow_98 rfl (lv_at hl 0 rfl) ?_
  refine va_get (D := D) (ci := 8) (v := .int t0) (C := RX9) (T := TX9) (N := 24) hx hb hts iX9_oneRow_X9 hown hK hP 0 rfl rfl 9 (by decide) (hts _ kX9_oneRow_3) (fun _ h9 => h9) rfl dX9_oneRow_99 ?_
  refine lv_if_ne (tgt := 118) hx hb dX9_oneRow_102 (by decide) (fun c23 => ?_) (fun c23 => ?_)
  · have hF := if_f c23 hF
    refine lv_iconst (v := (0 : Int32)) hx hb dX9_oneRow_118 (by decide) ?_
    exact w_X9_oneRow_119 N C res hQ l3 l4 (0 : Int32) mrm mat t0 dxs dus dys dgp hF H _ _ hP hD hS (lv_sub hl [0, 1, 2] rfl)
  · have hF := if_t c23 hF
    refine lv_aload_n hx hb dX9_oneRow_105 rfl (lv_at hl 0 rfl) ?_
    refine lv_bipush (v := (63 : Int32)) hx hb dX9_oneRow_106 (by decide) ?_
    obtain ⟨r25, v26, h24, hF⟩ := b2_s hF
    refine cl_vi (As := [.int (63 : Int32)]) (rest := []) (w' := (w_model ky aM mxs mus mys mgp mtp mme mle mlt mkl mln msz mit mmv mrm mer mtd v26 t0 mkn mmb mwa mra mbl mbh dxs dus dys dgp dtp dme dle dlt dkl dln dsz dit dmv)) ⟨hx, hb, hml, hown, hts⟩ hK hP hD hS hA (c_X9_passes l D ky aM mxs mus mys mgp mtp mme mle mlt mkl mln msz mit mmv _ N  mrm mer mtd mat t0 mkn mmb mwa mra mbl mbh dxs dus dys dgp dtp dme dle dlt dkl dln dsz dit dmv (63 : Int32) r25 v26 h24) (cwV 1 hts gX9_oneRow_X9_passes rfl rfl rfl (by decide +kernel) ⟨Nat.le_of_ble_eq_true rfl, Nat.le_of_ble_eq_true rfl⟩) [0, 1, 2, 3, 4, 5, 6, 7, 8, 9, 10, 11, 12, 13] [] [0, 1, 2, 3, 4, 5, 6, 7, 8, 9, 10, 11, 12, 13] 0 8 rfl rfl rfl rfl (wr := []) rfl (by decide) rfl rfl hl.1 (Nat.le_of_ble_eq_true rfl) dX9_oneRow_108 ⟨Nat.zero_le _, Nat.zero_le _⟩ (fun H locs hP hD hS => ?_)
    refine lv_if_eq (tgt := 118) hx hb dX9_oneRow_111 (by decide) (fun c27 => ?_) (fun c27 => ?_)
    · have hF := if_t c27 hF
      refine lv_iconst (v := (0 : Int32)) hx hb dX9_oneRow_118 (by decide) ?_
      exact w_X9_oneRow_119 N C res hQ l3 l4 (0 : Int32) mrm v26 t0 dxs dus dys dgp hF H _ _ hP hD hS (lv_sub hl [0, 1, 2] rfl)
    · have hF := if_f c27 hF
      refine lv_iconst (v := (1 : Int32)) hx hb dX9_oneRow_114 (by decide) ?_
      refine lv_goto (tgt := 119) hx hb dX9_oneRow_115 (by decide) ?_
      exact w_X9_oneRow_119 N C res hQ l3 l4 (1 : Int32) mrm v26 t0 dxs dus dys dgp hF H _ _ hP hD hS (lv_sub hl [0, 1, 2] rfl)
set_option maxHeartbeats 4000000 in
set_option maxRecDepth 100000 in
theorem w_X9_oneRow_55 {p : Program} {l : Launch} {e : Env} {s : State} {m : MethodId} {args : Array Value} {below : List Frame} {meth : Method} {c : Code} {Q : State → Prop} {A : Nat → Prop} {D : va_G} {ky : Nat → ClassId} {aM mxs mus mys mgp mtp mme mle mlt mkl mln msz mit mmv : Nat} {mer : Int32} {mtd : Int32} {mkn : Int32} {mmb : Int32} {mwa : Int32} {mra : Int32} {mbl : Int32} {mbh : Int32} {dtp : Nat → Int32} {dme : Nat → Int32} {dle : Nat → Int32} {dlt : Nat → Int32} {dkl : Nat → Int32} {dln : Nat → Int32} {dsz : Nat → Int32} {dit : Nat → Int32} {dmv : Nat → Int32} (N : Nat) (C : cx p s m c args D ky A cX9_oneRow 7 wsX9_oneRow RX9) (res : Int32 × Int32 × Int32 × (Nat → Int32) × (Nat → Int32) × (Nat → Int32) × (Nat → Int32)) (hQ : ∀ (pc : Nat) (H : Heap) (locs : List Loc) (ls : Array Slot), decode cX9_oneRow pc = .ok (.return_, 1) → va_P D vwCl (w_model ky aM mxs mus mys mgp mtp mme mle mlt mkl mln msz mit mmv res.1 mer mtd res.2.1 res.2.2.1 mkn mmb mwa mra mbl mbh res.2.2.2.1 res.2.2.2.2.1 res.2.2.2.2.2.1 res.2.2.2.2.2.2 dtp dme dle dlt dkl dln dsz dit dmv) H → va_D A (w_model ky aM mxs mus mys mgp mtp mme mle mlt mkl mln msz mit mmv res.1 mer mtd res.2.1 res.2.2.1 mkn mmb mwa mra mbl mbh res.2.2.2.1 res.2.2.2.2.1 res.2.2.2.2.2.1 res.2.2.2.2.2.2 dtp dme dle dlt dkl dln dsz dit dmv) → va_S A s.heap H locs → W p l e rm_X9_oneRow s m args below meth c H locs 0 0 Q (F0 m pc ls []))  (t0 : Int32) (mrm : Int32) (mat : Int32) (mwr : Int32) (dxs : Nat → Int32) (dus : Nat → Int32) (dys : Nat → Int32) (dgp : Nat → Int32) (hF : f_X9_oneRow_55 N t0 mrm mtd mwr dxs dus dys dgp dtp = some res) : ∀ (H : Heap) (locs : List Loc) (ls : Array Slot), va_P D vwCl (w_model ky aM mxs mus mys mgp mtp mme mle mlt mkl mln msz mit mmv mrm mer mtd mat mwr mkn mmb mwa mra mbl mbh dxs dus dys dgp dtp dme dle dlt dkl dln dsz dit dmv) H → va_D A (w_model ky aM mxs mus mys mgp mtp mme mle mlt mkl mln msz mit mmv mrm mer mtd mat mwr mkn mmb mwa mra mbl mbh dxs dus dys dgp dtp dme dle dlt dkl dln dsz dit dmv) → va_S A s.heap H locs → lv_has ls 7 [(0, .ref aM)] → W p l e rm_X9_oneRow s m args below meth c H locs 0 0 Q (F0 m 55 ls [.int t0, .ref aM]) := by
  obtain ⟨hx, hb, hml, hown, hts, hK, hA⟩ := id C
  intro H locs ls hP hD hS hl
  unfold f_X9_oneRow_55 at hF
  refine va_put (D := D) (ci := 8) (v := .int t0) (ty := .int) (C := RX9) (T := TX9) (N := 24) hx hb hts iX9_oneRow_X9 tyX9 tyX9_ok nmX9 hown hK hP hD hS 0 rfl rfl 8 (by decide) (hts _ kX9_oneRow_2) (fun _ h9 => h9) rfl (by decide +kernel) rfl rfl (Nat.le_of_ble_eq_true rfl) dX9_oneRow_55 (fun H locs hP hD hS => ?_)
  have hP : va_P D vwCl (w_model ky aM mxs mus mys mgp mtp mme mle mlt mkl mln msz mit mmv mrm mer mtd t0 mwr mkn mmb mwa mra mbl mbh dxs dus dys dgp dtp dme dle dlt dkl dln dsz dit dmv) H := hP
  have hD : va_D A (w_model ky aM mxs mus mys mgp mtp mme mle mlt mkl mln msz mit mmv mrm mer mtd t0 mwr mkn mmb mwa mra mbl mbh dxs dus dys dgp dtp dme dle dlt dkl dln dsz dit dmv) := hD
  refine lv_aload_n hx hb dX9_oneRow_58 rfl (lv_at hl 0 rfl) ?_
  refine lv_bipush (v := (120 : Int32)) hx hb dX9_oneRow_59 (by decide) ?_
  obtain ⟨r10, v11, v12, h9, hF⟩ := b3_s hF
  refine cl_vi (As := [.int (120 : Int32)]) (rest := []) (w' := (w_model ky aM mxs mus mys mgp mtp mme mle mlt mkl mln msz mit mmv mrm mer mtd v11 v12 mkn mmb mwa mra mbl mbh dxs dus dys dgp dtp dme dle dlt dkl dln dsz dit dmv)) ⟨hx, hb, hml, hown, hts⟩ hK hP hD hS hA (c_X9_named l D ky aM mxs mus mys mgp mtp mme mle mlt mkl mln msz mit mmv _ N  mrm mer mtd t0 mwr mkn mmb mwa mra mbl mbh dxs dus dys dgp dtp dme dle dlt dkl dln dsz dit dmv (120 : Int32) r10 v11 v12 h9) (cwV 1 hts gX9_oneRow_X9_named rfl rfl rfl (by decide +kernel) ⟨Nat.le_of_ble_eq_true rfl, Nat.le_of_ble_eq_true rfl⟩) [0, 1, 2, 3, 4, 5, 6, 7, 8, 9, 10, 11, 12, 13] [] [0, 1, 2, 3, 4, 5, 6, 7, 8, 9, 10, 11, 12, 13] 0 8 rfl rfl rfl rfl (wr := []) rfl (by decide) rfl rfl hl.1 (Nat.le_of_ble_eq_true rfl) dX9_oneRow_61 ⟨Nat.zero_le _, Nat.zero_le _⟩ (fun H locs hP hD hS => ?_)
  refine lv_istore_n (lv' := [(3, .int r10), (0, .ref aM)]) hx hb dX9_oneRow_64 rfl hl (by decide) rfl (fun ls hl => ?_)
  refine lv_aload_n hx hb dX9_oneRow_65 rfl (lv_at hl 1 rfl) ?_
  refine lv_bipush (v := (117 : Int32)) hx hb dX9_oneRow_66 (by decide) ?_
  obtain ⟨r14, v15, v16, h13, hF⟩ := b3_s hF
  refine cl_vi (As := [.int (117 : Int32)]) (rest := []) (w' := (w_model ky aM mxs mus mys mgp mtp mme mle mlt mkl mln msz mit mmv mrm mer mtd v15 v16 mkn mmb mwa mra mbl mbh dxs dus dys dgp dtp dme dle dlt dkl dln dsz dit dmv)) ⟨hx, hb, hml, hown, hts⟩ hK hP hD hS hA (c_X9_named l D ky aM mxs mus mys mgp mtp mme mle mlt mkl mln msz mit mmv _ N  mrm mer mtd v11 v12 mkn mmb mwa mra mbl mbh dxs dus dys dgp dtp dme dle dlt dkl dln dsz dit dmv (117 : Int32) r14 v15 v16 h13) (cwV 1 hts gX9_oneRow_X9_named rfl rfl rfl (by decide +kernel) ⟨Nat.le_of_ble_eq_true rfl, Nat.le_of_ble_eq_true rfl⟩) [0, 1, 2, 3, 4, 5, 6, 7, 8, 9, 10, 11, 12, 13] [] [0, 1, 2, 3, 4, 5, 6, 7, 8, 9, 10, 11, 12, 13] 0 8 rfl rfl rfl rfl (wr := []) rfl (by decide) rfl rfl hl.1 (Nat.le_of_ble_eq_true rfl) dX9_oneRow_68 ⟨Nat.zero_le _, Nat.zero_le _⟩ (fun H locs hP hD hS => ?_)
  refine lv_istore (lv' := [(4, .int r14), (3, .int r10), (0, .ref aM)]) hx hb dX9_oneRow_71 hl (by decide) rfl (fun ls hl => ?_)
  refine lv_aload_n hx hb dX9_oneRow_73 rfl (lv_at hl 2 rfl) ?_
  refine lv_aload_n hx hb dX9_oneRow_74 rfl (lv_at hl 2 rfl) ?_
  refine va_get (D := D) (ci := 8) (v := .int v16) (C := RX9) (T := TX9) (N := 24) hx hb hts iX9_oneRow_X9 hown hK hP 0 rfl rfl 9 (by decide) (hts _ kX9_oneRow_3) (fun _ h9 => h9) rfl dX9_oneRow_75 ?_
  refine lv_if_ne (tgt := 90) hx hb dX9_oneRow_78 (by decide) (fun c17 => ?_) (fun c17 => ?_)
  · have hF := if_f c17 hF
    refine lv_iconst (v := (1 : Int32)) hx hb dX9_oneRow_90 (by decide) ?_
    refine lv_goto (tgt := 95) hx hb dX9_oneRow_91 (by decide) ?_
    exact w_X9_oneRow_95 N C res hQ r10 r14 (1 : Int32) mrm v15 v16 dxs dus dys dgp hF H _ _ hP hD hS (lv_sub hl [2, 1, 0] rfl)
  · have hF := if_t c17 hF
    refine lv_aload_n hx hb dX9_oneRow_81 rfl (lv_at hl 2 rfl) ?_
    refine lv_bipush (v := (121 : Int32)) hx hb dX9_oneRow_82 (by decide) ?_
    obtain ⟨r19, v20, h18, hF⟩ := b2_s hF
    refine cl_vi (As := [.int (121 : Int32)]) (rest := [.ref aM]) (w' := (w_model ky aM mxs mus mys mgp mtp mme mle mlt mkl mln msz mit mmv mrm mer mtd v20 v16 mkn mmb mwa mra mbl mbh dxs dus dys dgp dtp dme dle dlt dkl dln dsz dit dmv)) ⟨hx, hb, hml, hown, hts⟩ hK hP hD hS hA (c_X9_passes l D ky aM mxs mus mys mgp mtp mme mle mlt mkl mln msz mit mmv _ N  mrm mer mtd v15 v16 mkn mmb mwa mra mbl mbh dxs dus dys dgp dtp dme dle dlt dkl dln dsz dit dmv (121 : Int32) r19 v20 h18) (cwV 1 hts gX9_oneRow_X9_passes rfl rfl rfl (by decide +kernel) ⟨Nat.le_of_ble_eq_true rfl, Nat.le_of_ble_eq_true rfl⟩) [0, 1, 2, 3, 4, 5, 6, 7, 8, 9, 10, 11, 12, 13] [] [0, 1, 2, 3, 4, 5, 6, 7, 8, 9, 10, 11, 12, 13] 0 8 rfl rfl rfl rfl (wr := []) rfl (by decide) rfl rfl hl.1 (Nat.le_of_ble_eq_true rfl) dX9_oneRow_84 ⟨Nat.zero_le _, Nat.zero_le _⟩ (fun H locs hP hD hS => ?_)
    refine lv_if_ne (tgt := 94) hx hb dX9_oneRow_87 (by decide) (fun c21 => ?_) (fun c21 => ?_)
    · have hF := if_f c21 hF
      refine lv_iconst (v := (0 : Int32)) hx hb dX9_oneRow_94 (by decide) ?_
      exact w_X9_oneRow_95 N C res hQ r10 r14 (0 : Int32) mrm v20 v16 dxs dus dys dgp hF H _ _ hP hD hS (lv_sub hl [2, 1, 0] rfl)
    · have hF := if_t c21 hF
      refine lv_iconst (v := (1 : Int32)) hx hb dX9_oneRow_90 (by decide) ?_
      refine lv_goto (tgt := 95) hx hb dX9_oneRow_91 (by decide) ?_
      exact w_X9_oneRow_95 N C res hQ r10 r14 (1 : Int32) mrm v20 v16 dxs dus dys dgp hF H _ _ hP hD hS (lv_sub hl [2, 1, 0] rfl)
set_option maxHeartbeats 4000000 in
set_option maxRecDepth 100000 in
theorem w_X9_oneRow_32 {p : Program} {l : Launch} {e : Env} {s : State} {m : MethodId} {args : Array Value} {below : List Frame} {meth : Method} {c : Code} {Q : State → Prop} {A : Nat → Prop} {D : va_G} {ky : Nat → ClassId} {aM mxs mus mys mgp mtp mme mle mlt mkl mln msz mit mmv : Nat} {mer : Int32} {mtd : Int32} {mkn : Int32} {mmb : Int32} {mwa : Int32} {mra : Int32} {mbl : Int32} {mbh : Int32} {dtp : Nat → Int32} {dme : Nat → Int32} {dle : Nat → Int32} {dlt : Nat → Int32} {dkl : Nat → Int32} {dln : Nat → Int32} {dsz : Nat → Int32} {dit : Nat → Int32} {dmv : Nat → Int32} (N : Nat) (C : cx p s m c args D ky A cX9_oneRow 7 wsX9_oneRow RX9) (res : Int32 × Int32 × Int32 × (Nat → Int32) × (Nat → Int32) × (Nat → Int32) × (Nat → Int32)) (hQ : ∀ (pc : Nat) (H : Heap) (locs : List Loc) (ls : Array Slot), decode cX9_oneRow pc = .ok (.return_, 1) → va_P D vwCl (w_model ky aM mxs mus mys mgp mtp mme mle mlt mkl mln msz mit mmv res.1 mer mtd res.2.1 res.2.2.1 mkn mmb mwa mra mbl mbh res.2.2.2.1 res.2.2.2.2.1 res.2.2.2.2.2.1 res.2.2.2.2.2.2 dtp dme dle dlt dkl dln dsz dit dmv) H → va_D A (w_model ky aM mxs mus mys mgp mtp mme mle mlt mkl mln msz mit mmv res.1 mer mtd res.2.1 res.2.2.1 mkn mmb mwa mra mbl mbh res.2.2.2.1 res.2.2.2.2.1 res.2.2.2.2.2.1 res.2.2.2.2.2.2 dtp dme dle dlt dkl dln dsz dit dmv) → va_S A s.heap H locs → W p l e rm_X9_oneRow s m args below meth c H locs 0 0 Q (F0 m pc ls []))  (l1 : Int32) (t0 : Int32) (mrm : Int32) (mat : Int32) (mwr : Int32) (dxs : Nat → Int32) (dus : Nat → Int32) (dys : Nat → Int32) (dgp : Nat → Int32) (hF : f_X9_oneRow_32 N l1 t0 mrm mtd mat dxs dus dys dgp dtp = some res) : ∀ (H : Heap) (locs : List Loc) (ls : Array Slot), va_P D vwCl (w_model ky aM mxs mus mys mgp mtp mme mle mlt mkl mln msz mit mmv mrm mer mtd mat mwr mkn mmb mwa mra mbl mbh dxs dus dys dgp dtp dme dle dlt dkl dln dsz dit dmv) H → va_D A (w_model ky aM mxs mus mys mgp mtp mme mle mlt mkl mln msz mit mmv mrm mer mtd mat mwr mkn mmb mwa mra mbl mbh dxs dus dys dgp dtp dme dle dlt dkl dln dsz dit dmv) → va_S A s.heap H locs → lv_has ls 7 [(0, .ref aM), (1, .int l1)] → W p l e rm_X9_oneRow s m args below meth c H locs 0 0 Q (F0 m 32 ls [.int t0]) := by
  obtain ⟨hx, hb, hml, hown, hts, hK, hA⟩ := id C
  intro H locs ls hP hD hS hl
  unfold f_X9_oneRow_32 at hF
  refine lv_istore_n (lv' := [(2, .int t0), (0, .ref aM), (1, .int l1)]) hx hb dX9_oneRow_32 rfl hl (by decide) rfl (fun ls hl => ?_)
  refine lv_aload_n hx hb dX9_oneRow_33 rfl (lv_at hl 1 rfl) ?_
  refine lv_iload_n hx hb dX9_oneRow_34 rfl (lv_at hl 2 rfl) ?_
  obtain ⟨h6, hF⟩ := gz_s hF
  refine va_put (D := D) (ci := 8) (v := .int l1) (ty := .boolean) (C := RX9) (T := TX9) (N := 24) hx hb hts iX9_oneRow_X9 tyX9 tyX9_ok nmX9 hown hK hP hD hS 0 rfl rfl 9 (by decide) (hts _ kX9_oneRow_3) (fun _ h9 => h9) rfl (by decide +kernel) (gz_n h6) (gz_f h6) (Nat.le_of_ble_eq_true rfl) dX9_oneRow_35 (fun H locs hP hD hS => ?_)
  have hP : va_P D vwCl (w_model ky aM mxs mus mys mgp mtp mme mle mlt mkl mln msz mit mmv mrm mer mtd mat l1 mkn mmb mwa mra mbl mbh dxs dus dys dgp dtp dme dle dlt dkl dln dsz dit dmv) H := hP
  have hD : va_D A (w_model ky aM mxs mus mys mgp mtp mme mle mlt mkl mln msz mit mmv mrm mer mtd mat l1 mkn mmb mwa mra mbl mbh dxs dus dys dgp dtp dme dle dlt dkl dln dsz dit dmv) := hD
  refine lv_aload_n hx hb dX9_oneRow_38 rfl (lv_at hl 1 rfl) ?_
  refine lv_iload_n hx hb dX9_oneRow_39 rfl (lv_at hl 2 rfl) ?_
  refine lv_if_eq (tgt := 51) hx hb dX9_oneRow_40 (by decide) (fun c7 => ?_) (fun c7 => ?_)
  · have hF := if_t c7 hF
    refine lv_aload_n hx hb dX9_oneRow_51 rfl (lv_at hl 1 rfl) ?_
    refine va_get (D := D) (ci := 8) (v := .int mat) (C := RX9) (T := TX9) (N := 24) hx hb hts iX9_oneRow_X9 hown hK hP 0 rfl rfl 8 (by decide) (hts _ kX9_oneRow_2) (fun _ h9 => h9) rfl dX9_oneRow_52 ?_
    exact w_X9_oneRow_55 N C res hQ mat mrm mat l1 dxs dus dys dgp hF H _ _ hP hD hS (lv_sub hl [1] rfl)
  · have hF := if_f c7 hF
    refine lv_iload_n hx hb dX9_oneRow_43 rfl (lv_at hl 0 rfl) ?_
    refine lv_if_lt (tgt := 51) hx hb dX9_oneRow_44 (by decide) (fun c8 => ?_) (fun c8 => ?_)
    · have hF := if_t c8 hF
      refine lv_aload_n hx hb dX9_oneRow_51 rfl (lv_at hl 1 rfl) ?_
      refine va_get (D := D) (ci := 8) (v := .int mat) (C := RX9) (T := TX9) (N := 24) hx hb hts iX9_oneRow_X9 hown hK hP 0 rfl rfl 8 (by decide) (hts _ kX9_oneRow_2) (fun _ h9 => h9) rfl dX9_oneRow_52 ?_
      exact w_X9_oneRow_55 N C res hQ mat mrm mat l1 dxs dus dys dgp hF H _ _ hP hD hS (lv_sub hl [1] rfl)
    · have hF := if_f c8 hF
      refine lv_iload_n hx hb dX9_oneRow_47 rfl (lv_at hl 0 rfl) ?_
      refine lv_goto (tgt := 55) hx hb dX9_oneRow_48 (by decide) ?_
      exact w_X9_oneRow_55 N C res hQ t0 mrm mat l1 dxs dus dys dgp hF H _ _ hP hD hS (lv_sub hl [1] rfl)
set_option maxHeartbeats 4000000 in
set_option maxRecDepth 100000 in
theorem w_X9_oneRow_14 {p : Program} {l : Launch} {e : Env} {s : State} {m : MethodId} {args : Array Value} {below : List Frame} {meth : Method} {c : Code} {Q : State → Prop} {A : Nat → Prop} {D : va_G} {ky : Nat → ClassId} {aM mxs mus mys mgp mtp mme mle mlt mkl mln msz mit mmv : Nat} {mer : Int32} {mtd : Int32} {mkn : Int32} {mmb : Int32} {mwa : Int32} {mra : Int32} {mbl : Int32} {mbh : Int32} {dtp : Nat → Int32} {dme : Nat → Int32} {dle : Nat → Int32} {dlt : Nat → Int32} {dkl : Nat → Int32} {dln : Nat → Int32} {dsz : Nat → Int32} {dit : Nat → Int32} {dmv : Nat → Int32} (N : Nat) (C : cx p s m c args D ky A cX9_oneRow 7 wsX9_oneRow RX9) (res : Int32 × Int32 × Int32 × (Nat → Int32) × (Nat → Int32) × (Nat → Int32) × (Nat → Int32)) (hQ : ∀ (pc : Nat) (H : Heap) (locs : List Loc) (ls : Array Slot), decode cX9_oneRow pc = .ok (.return_, 1) → va_P D vwCl (w_model ky aM mxs mus mys mgp mtp mme mle mlt mkl mln msz mit mmv res.1 mer mtd res.2.1 res.2.2.1 mkn mmb mwa mra mbl mbh res.2.2.2.1 res.2.2.2.2.1 res.2.2.2.2.2.1 res.2.2.2.2.2.2 dtp dme dle dlt dkl dln dsz dit dmv) H → va_D A (w_model ky aM mxs mus mys mgp mtp mme mle mlt mkl mln msz mit mmv res.1 mer mtd res.2.1 res.2.2.1 mkn mmb mwa mra mbl mbh res.2.2.2.1 res.2.2.2.2.1 res.2.2.2.2.2.1 res.2.2.2.2.2.2 dtp dme dle dlt dkl dln dsz dit dmv) → va_S A s.heap H locs → W p l e rm_X9_oneRow s m args below meth c H locs 0 0 Q (F0 m pc ls []))  (t0 : Int32) (mrm : Int32) (mat : Int32) (mwr : Int32) (dxs : Nat → Int32) (dus : Nat → Int32) (dys : Nat → Int32) (dgp : Nat → Int32) (hF : f_X9_oneRow_14 N t0 mrm mtd mat dxs dus dys dgp dtp = some res) : ∀ (H : Heap) (locs : List Loc) (ls : Array Slot), va_P D vwCl (w_model ky aM mxs mus mys mgp mtp mme mle mlt mkl mln msz mit mmv mrm mer mtd mat mwr mkn mmb mwa mra mbl mbh dxs dus dys dgp dtp dme dle dlt dkl dln dsz dit dmv) H → va_D A (w_model ky aM mxs mus mys mgp mtp mme mle mlt mkl mln msz mit mmv mrm mer mtd mat mwr mkn mmb mwa mra mbl mbh dxs dus dys dgp dtp dme dle dlt dkl dln dsz dit dmv) → va_S A s.heap H locs → lv_has ls 7 [(0, .ref aM)] → W p l e rm_X9_oneRow s m args below meth c H locs 0 0 Q (F0 m 14 ls [.int t0]) := by
  obtain ⟨hx, hb, hml, hown, hts, hK, hA⟩ := id C
  intro H locs ls hP hD hS hl
  unfold f_X9_oneRow_14 at hF
  refine lv_istore_n (lv' := [(1, .int t0), (0, .ref aM)]) hx hb dX9_oneRow_14 rfl hl (by decide) rfl (fun ls hl => ?_)
  refine lv_aload_n hx hb dX9_oneRow_15 rfl (lv_at hl 1 rfl) ?_
  obtain ⟨r3, v4, h2, hF⟩ := b2_s hF
  refine cl_vi (As := []) (rest := []) (w' := (w_model ky aM mxs mus mys mgp mtp mme mle mlt mkl mln msz mit mmv mrm mer mtd v4 mwr mkn mmb mwa mra mbl mbh dxs dus dys dgp dtp dme dle dlt dkl dln dsz dit dmv)) ⟨hx, hb, hml, hown, hts⟩ hK hP hD hS hA (c_X9_next l D ky aM mxs mus mys mgp mtp mme mle mlt mkl mln msz mit mmv _ N  mrm mer mtd mat mwr mkn mmb mwa mra mbl mbh dxs dus dys dgp dtp dme dle dlt dkl dln dsz dit dmv  r3 v4 h2) (cwV 0 hts gX9_oneRow_X9_next rfl rfl rfl (by decide +kernel) ⟨Nat.le_of_ble_eq_true rfl, Nat.le_of_ble_eq_true rfl⟩) [0, 1, 2, 3, 4, 5, 6, 7, 8, 9, 10, 11, 12, 13] [] [0, 1, 2, 3, 4, 5, 6, 7, 8, 9, 10, 11, 12, 13] 0 8 rfl rfl rfl rfl (wr := []) rfl (by decide) rfl rfl hl.1 (Nat.le_of_ble_eq_true rfl) dX9_oneRow_16 ⟨Nat.zero_le _, Nat.zero_le _⟩ (fun H locs hP hD hS => ?_)
  refine lv_bipush (v := (120 : Int32)) hx hb dX9_oneRow_19 (by decide) ?_
  refine lv_icmp_ne (tgt := 31) hx hb dX9_oneRow_21 (by decide) (fun c5 => ?_) (fun c5 => ?_)
  · have hF := if_f c5 hF
    refine lv_iconst (v := (-1 : Int32)) hx hb dX9_oneRow_31 (by decide) ?_
    exact w_X9_oneRow_32 N C res hQ t0 (-1 : Int32) mrm v4 mwr dxs dus dys dgp hF H _ _ hP hD hS (lv_sub hl [1, 0] rfl)
  · have hF := if_t c5 hF
    refine lv_aload_n hx hb dX9_oneRow_24 rfl (lv_at hl 1 rfl) ?_
    refine va_get (D := D) (ci := 8) (v := .int v4) (C := RX9) (T := TX9) (N := 24) hx hb hts iX9_oneRow_X9 hown hK hP 0 rfl rfl 8 (by decide) (hts _ kX9_oneRow_2) (fun _ h9 => h9) rfl dX9_oneRow_25 ?_
    refine lv_goto (tgt := 32) hx hb dX9_oneRow_28 (by decide) ?_
    exact w_X9_oneRow_32 N C res hQ t0 v4 mrm v4 mwr dxs dus dys dgp hF H _ _ hP hD hS (lv_sub hl [1, 0] rfl)
set_option maxHeartbeats 4000000 in
set_option maxRecDepth 100000 in
theorem cr_X9_oneRow (l : Launch) (D : va_G) (ky : Nat → ClassId) (aM mxs mus mys mgp mtp mme mle mlt mkl mln msz mit mmv : Nat) (sz N : Nat)  (mrm : Int32) (mer : Int32) (mtd : Int32) (mat : Int32) (mwr : Int32) (mkn : Int32) (mmb : Int32) (mwa : Int32) (mra : Int32) (mbl : Int32) (mbh : Int32) (dxs : Nat → Int32) (dus : Nat → Int32) (dys : Nat → Int32) (dgp : Nat → Int32) (dtp : Nat → Int32) (dme : Nat → Int32) (dle : Nat → Int32) (dlt : Nat → Int32) (dkl : Nat → Int32) (dln : Nat → Int32) (dsz : Nat → Int32) (dit : Nat → Int32) (dmv : Nat → Int32)  (res : Int32 × Int32 × Int32 × (Nat → Int32) × (Nat → Int32) × (Nat → Int32) × (Nat → Int32)) (hF : f_X9_oneRow N mrm mtd mat dxs dus dys dgp dtp = some res) : MV l yX9_oneRow wsX9_oneRow rm_X9_oneRow D ky sz [.ref aM] (w_model ky aM mxs mus mys mgp mtp mme mle mlt mkl mln msz mit mmv mrm mer mtd mat mwr mkn mmb mwa mra mbl mbh dxs dus dys dgp dtp dme dle dlt dkl dln dsz dit dmv) (w_model ky aM mxs mus mys mgp mtp mme mle mlt mkl mln msz mit mmv res.1 mer mtd res.2.1 res.2.2.1 mkn mmb mwa mra mbl mbh res.2.2.2.1 res.2.2.2.2.1 res.2.2.2.2.2.1 res.2.2.2.2.2.2 dtp dme dle dlt dkl dln dsz dit dmv) := by
  unfold MV
  refine Met.ofW (cc := cX9_oneRow) (maxL := 7) (ret := none) (by decide) rfl ?_
  intro p e s m args below meth c s₁ B hml hv
  obtain ⟨rfl, hsz, hP, hK, hD0⟩ := hv
  have hx := B.exec
  have hb := B.bytes
  have hr := B.returns
  have hts := atoms_spec (ws := wsX9_oneRow) B.pre
  have hown : s.vm.findClass RX9 = some m.cls := findClass_of_methodNamed B.named
  have hlocks := B.notSynchronized
  subst hsz
  have hD := hD0.self (sz := s.heap.size)
  generalize hAe : va_A (w_model ky aM mxs mus mys mgp mtp mme mle mlt mkl mln msz mit mmv mrm mer mtd mat mwr mkn mmb mwa mra mbl mbh dxs dus dys dgp dtp dme dle dlt dkl dln dsz dit dmv) s.heap.size = A at hD ⊢
  have hA : ∀ q : Nat, s.heap.size ≤ q → A q := fun q h => by rw [← hAe]; exact Or.inr h
  have hS : va_S A s.heap s.heap [] := va_S.rf
  have hP : va_P D vwCl (w_model ky aM mxs mus mys mgp mtp mme mle mlt mkl mln msz mit mmv mrm mer mtd mat mwr mkn mmb mwa mra mbl mbh dxs dus dys dgp dtp dme dle dlt dkl dln dsz dit dmv) s.heap := hP
  have hl := lv_entry ([.ref aM]) (n := 7) (Nat.le_of_ble_eq_true rfl)
  rw [lg_entry_eq]
  generalize (lg_sl ([.ref aM]) ++ List.replicate (7 - (lg_sl ([.ref aM])).length) Slot.unset).toArray = ls at hl ⊢
  have hl : lv_has ls 7 [(0, .ref aM)] := hl
  have C : cx p s m c ([.ref aM]).toArray D ky A cX9_oneRow 7 wsX9_oneRow RX9 := ⟨hx, hb, hml, hown, hts, hK, hA⟩
  have hQ : ∀ (pc : Nat) (H : Heap) (locs : List Loc) (ls : Array Slot), decode cX9_oneRow pc = .ok (.return_, 1) → va_P D vwCl (w_model ky aM mxs mus mys mgp mtp mme mle mlt mkl mln msz mit mmv res.1 mer mtd res.2.1 res.2.2.1 mkn mmb mwa mra mbl mbh res.2.2.2.1 res.2.2.2.2.1 res.2.2.2.2.2.1 res.2.2.2.2.2.2 dtp dme dle dlt dkl dln dsz dit dmv) H → va_D A (w_model ky aM mxs mus mys mgp mtp mme mle mlt mkl mln msz mit mmv res.1 mer mtd res.2.1 res.2.2.1 mkn mmb mwa mra mbl mbh res.2.2.2.1 res.2.2.2.2.1 res.2.2.2.2.2.1 res.2.2.2.2.2.2 dtp dme dle dlt dkl dln dsz dit dmv) → va_S A s.heap H locs → W p l e rm_X9_oneRow s m ([.ref aM]).toArray below meth c H locs 0 0 (MQ below (va_Qv (S := Unit) (fun _ => True) (fun _ t => va_P D vwCl (w_model ky aM mxs mus mys mgp mtp mme mle mlt mkl mln msz mit mmv res.1 mer mtd res.2.1 res.2.2.1 mkn mmb mwa mra mbl mbh res.2.2.2.1 res.2.2.2.2.1 res.2.2.2.2.2.1 res.2.2.2.2.2.2 dtp dme dle dlt dkl dln dsz dit dmv) t.heap ∧ va_K D vwCl (tyW ky) t ∧ va_D A (w_model ky aM mxs mus mys mgp mtp mme mle mlt mkl mln msz mit mmv res.1 mer mtd res.2.1 res.2.2.1 mkn mmb mwa mra mbl mbh res.2.2.2.1 res.2.2.2.2.1 res.2.2.2.2.2.1 res.2.2.2.2.2.2 dtp dme dle dlt dkl dln dsz dit dmv)) A) ([.ref aM]).toArray s 0 0 A) (F0 m pc ls []) := fun pc H locs ls hd hP hD hS => W.vret hx hb hr (fun t ht hW => ⟨⟨(), rfl, trivial, by rw [ht]; exact hP, va_K.moved hW.alike hK, hD⟩, hS.F ht⟩) hS.2.2 hd
  unfold f_X9_oneRow at hF
  refine lv_aload_n hx hb dX9_oneRow_0 rfl (lv_at hl 0 rfl) ?_
  refine va_get (D := D) (ci := 8) (v := .int mrm) (C := RX9) (T := TX9) (N := 24) hx hb hts iX9_oneRow_X9 hown hK hP 0 rfl rfl 0 (by decide) (hts _ kX9_oneRow_1) (fun _ h9 => h9) rfl dX9_oneRow_1 ?_
  refine lv_bipush (v := (12 : Int32)) hx hb dX9_oneRow_4 (by decide) ?_
  refine lv_icmp_ne (tgt := 13) hx hb dX9_oneRow_6 (by decide) (fun c1 => ?_) (fun c1 => ?_)
  · have hF := if_f c1 hF
    refine lv_iconst (v := (0 : Int32)) hx hb dX9_oneRow_13 (by decide) ?_
    exact w_X9_oneRow_14 N C res hQ (0 : Int32) mrm mat mwr dxs dus dys dgp hF _ _ _ hP hD hS (lv_sub hl [0] rfl)
  · have hF := if_t c1 hF
    refine lv_iconst (v := (1 : Int32)) hx hb dX9_oneRow_9 (by decide) ?_
    refine lv_goto (tgt := 14) hx hb dX9_oneRow_10 (by decide) ?_
    exact w_X9_oneRow_14 N C res hQ (1 : Int32) mrm mat mwr dxs dus dys dgp hF _ _ _ hP hD hS (lv_sub hl [0] rfl)
theorem c_X9_oneRow (l : Launch) (D : va_G) (ky : Nat → ClassId) (aM mxs mus mys mgp mtp mme mle mlt mkl mln msz mit mmv : Nat) (sz N : Nat)  (mrm : Int32) (mer : Int32) (mtd : Int32) (mat : Int32) (mwr : Int32) (mkn : Int32) (mmb : Int32) (mwa : Int32) (mra : Int32) (mbl : Int32) (mbh : Int32) (dxs : Nat → Int32) (dus : Nat → Int32) (dys : Nat → Int32) (dgp : Nat → Int32) (dtp : Nat → Int32) (dme : Nat → Int32) (dle : Nat → Int32) (dlt : Nat → Int32) (dkl : Nat → Int32) (dln : Nat → Int32) (dsz : Nat → Int32) (dit : Nat → Int32) (dmv : Nat → Int32)  (mrm' : Int32) (mat' : Int32) (mwr' : Int32) (dxs' : Nat → Int32) (dus' : Nat → Int32) (dys' : Nat → Int32) (dgp' : Nat → Int32) (hF : f_X9_oneRow N mrm mtd mat dxs dus dys dgp dtp = some (mrm', mat', mwr', dxs', dus', dys', dgp')) : MV l yX9_oneRow wsX9_oneRow rm_X9_oneRow D ky sz [.ref aM] (w_model ky aM mxs mus mys mgp mtp mme mle mlt mkl mln msz mit mmv mrm mer mtd mat mwr mkn mmb mwa mra mbl mbh dxs dus dys dgp dtp dme dle dlt dkl dln dsz dit dmv) (w_model ky aM mxs mus mys mgp mtp mme mle mlt mkl mln msz mit mmv mrm' mer mtd mat' mwr' mkn mmb mwa mra mbl mbh dxs' dus' dys' dgp' dtp dme dle dlt dkl dln dsz dit dmv) :=
  cr_X9_oneRow l D ky aM mxs mus mys mgp mtp mme mle mlt mkl mln msz mit mmv sz N mrm mer mtd mat mwr mkn mmb mwa mra mbl mbh dxs dus dys dgp dtp dme dle dlt dkl dln dsz dit dmv (mrm', mat', mwr', dxs', dus', dys', dgp') hF
abbrev rm_X9_text : Room := { frames := 5, cells := 0, slots := 0, locals := 113 }
theorem iX9_text_X9 : ∀ w ∈ wsX90, w ∈ wsX9_text := by decide +kernel
theorem kX9_text_1 : (Cond.fieldLink RX9 62 "TwoLawsModel" "rowMany" "I") ∈ wsX9_text := by decide +kernel
theorem kX9_text_2 : (Cond.fieldLink RX9 96 "TwoLawsModel" "at" "I") ∈ wsX9_text := by decide +kernel
theorem kX9_text_3 : (Cond.fieldLink RX9 99 "TwoLawsModel" "wrong" "Z") ∈ wsX9_text := by decide +kernel
theorem kX9_text_4 : (Cond.fieldLink RX9 93 "TwoLawsModel" "taped" "I") ∈ wsX9_text := by decide +kernel
set_option maxHeartbeats 4000000 in
set_option maxRecDepth 100000 in
theorem w_X9_text_55 {p : Program} {l : Launch} {e : Env} {s : State} {m : MethodId} {args : Array Value} {below : List Frame} {meth : Method} {c : Code} {Q : State → Prop} {A : Nat → Prop} {D : va_G} {ky : Nat → ClassId} {aM mxs mus mys mgp mtp mme mle mlt mkl mln msz mit mmv : Nat} {mer : Int32} {mkn : Int32} {mmb : Int32} {mwa : Int32} {mra : Int32} {mbl : Int32} {mbh : Int32} {dtp : Nat → Int32} {dme : Nat → Int32} {dle : Nat → Int32} {dlt : Nat → Int32} {dkl : Nat → Int32} {dln : Nat → Int32} {dsz : Nat → Int32} {dit : Nat → Int32} {dmv : Nat → Int32} (N : Nat) (C : cx p s m c args D ky A cX9_text 3 wsX9_text RX9) (res : Int32 × Int32 × Int32 × Int32 × Int32 × (Nat → Int32) × (Nat → Int32) × (Nat → Int32) × (Nat → Int32)) (hQ : ∀ (pc : Nat) (H : Heap) (locs : List Loc) (ls : Array Slot), decode cX9_text pc = .ok (.ireturn, 1) → va_P D vwCl (w_model ky aM mxs mus mys mgp mtp mme mle mlt mkl mln msz mit mmv res.2.1 mer res.2.2.1 res.2.2.2.1 res.2.2.2.2.1 mkn mmb mwa mra mbl mbh res.2.2.2.2.2.1 res.2.2.2.2.2.2.1 res.2.2.2.2.2.2.2.1 res.2.2.2.2.2.2.2.2 dtp dme dle dlt dkl dln dsz dit dmv) H → va_D A (w_model ky aM mxs mus mys mgp mtp mme mle mlt mkl mln msz mit mmv res.2.1 mer res.2.2.1 res.2.2.2.1 res.2.2.2.2.1 mkn mmb mwa mra mbl mbh res.2.2.2.2.2.1 res.2.2.2.2.2.2.1 res.2.2.2.2.2.2.2.1 res.2.2.2.2.2.2.2.2 dtp dme dle dlt dkl dln dsz dit dmv) → va_S A s.heap H locs → W p l e rm_X9_text s m args below meth c H locs 0 0 Q (F0 m pc ls [.int res.1]))  (l1 : Int32) (t0 : Int32) (mrm : Int32) (mtd : Int32) (mat : Int32) (mwr : Int32) (dxs : Nat → Int32) (dus : Nat → Int32) (dys : Nat → Int32) (dgp : Nat → Int32) (hF : f_X9_text_55 N l1 t0 mrm mat dxs dus dys dgp = some res) : ∀ (H : Heap) (locs : List Loc) (ls : Array Slot), va_P D vwCl (w_model ky aM mxs mus mys mgp mtp mme mle mlt mkl mln msz mit mmv mrm mer mtd mat mwr mkn mmb mwa mra mbl mbh dxs dus dys dgp dtp dme dle dlt dkl dln dsz dit dmv) H → va_D A (w_model ky aM mxs mus mys mgp mtp mme mle mlt mkl mln msz mit mmv mrm mer mtd mat mwr mkn mmb mwa mra mbl mbh dxs dus dys dgp dtp dme dle dlt dkl dln dsz dit dmv) → va_S A s.heap H locs → lv_has ls 3 [(0, .ref aM), (1, .int l1)] → W p l e rm_X9_text s m args below meth c H locs 0 0 Q (F0 m 55 ls [.int t0, .ref aM]) := by
  obtain ⟨hx, hb, hml, hown, hts, hK, hA⟩ := id C
  intro H locs ls hP hD hS hl
  unfold f_X9_text_55 at hF
  obtain ⟨h18, hF⟩ := gz_s hF
  refine va_put (D := D) (ci := 8) (v := .int t0) (ty := .boolean) (C := RX9) (T := TX9) (N := 24) hx hb hts iX9_text_X9 tyX9 tyX9_ok nmX9 hown hK hP hD hS 0 rfl rfl 9 (by decide) (hts _ kX9_text_3) (fun _ h9 => h9) rfl (by decide +kernel) (gz_n h18) (gz_f h18) (Nat.le_of_ble_eq_true rfl) dX9_text_55 (fun H locs hP hD hS => ?_)
  have hP : va_P D vwCl (w_model ky aM mxs mus mys mgp mtp mme mle mlt mkl mln msz mit mmv mrm mer mtd mat t0 mkn mmb mwa mra mbl mbh dxs dus dys dgp dtp dme dle dlt dkl dln dsz dit dmv) H := hP
  have hD : va_D A (w_model ky aM mxs mus mys mgp mtp mme mle mlt mkl mln msz mit mmv mrm mer mtd mat t0 mkn mmb mwa mra mbl mbh dxs dus dys dgp dtp dme dle dlt dkl dln dsz dit dmv) := hD
  refine lv_aload_n hx hb dX9_text_58 rfl (lv_at hl 0 rfl) ?_
  refine lv_iconst (v := (0 : Int32)) hx hb dX9_text_59 (by decide) ?_
  refine va_put (D := D) (ci := 8) (v := .int (0 : Int32)) (ty := .int) (C := RX9) (T := TX9) (N := 24) hx hb hts iX9_text_X9 tyX9 tyX9_ok nmX9 hown hK hP hD hS 0 rfl rfl 7 (by decide) (hts _ kX9_text_4) (fun _ h9 => h9) rfl (by decide +kernel) rfl rfl (Nat.le_of_ble_eq_true rfl) dX9_text_60 (fun H locs hP hD hS => ?_)
  have hP : va_P D vwCl (w_model ky aM mxs mus mys mgp mtp mme mle mlt mkl mln msz mit mmv mrm mer (0 : Int32) mat t0 mkn mmb mwa mra mbl mbh dxs dus dys dgp dtp dme dle dlt dkl dln dsz dit dmv) H := hP
  have hD : va_D A (w_model ky aM mxs mus mys mgp mtp mme mle mlt mkl mln msz mit mmv mrm mer (0 : Int32) mat t0 mkn mmb mwa mra mbl mbh dxs dus dys dgp dtp dme dle dlt dkl dln dsz dit dmv) := hD
  refine lv_aload_n hx hb dX9_text_63 rfl (lv_at hl 0 rfl) ?_
  refine va_get (D := D) (ci := 8) (v := .int t0) (C := RX9) (T := TX9) (N := 24) hx hb hts iX9_text_X9 hown hK hP 0 rfl rfl 9 (by decide) (hts _ kX9_text_3) (fun _ h9 => h9) rfl dX9_text_64 ?_
  refine lv_if_eq (tgt := 83) hx hb dX9_text_67 (by decide) (fun c19 => ?_) (fun c19 => ?_)
  · have hF := if_t c19 hF
    refine lv_aload_n hx hb dX9_text_83 rfl (lv_at hl 0 rfl) ?_
    refine va_get (D := D) (ci := 8) (v := .int mrm) (C := RX9) (T := TX9) (N := 24) hx hb hts iX9_text_X9 hown hK hP 0 rfl rfl 0 (by decide) (hts _ kX9_text_1) (fun _ h9 => h9) rfl dX9_text_84 ?_
    refine lv_iload_n hx hb dX9_text_87 rfl (lv_at hl 1 rfl) ?_
    refine lv_isub hx hb dX9_text_88 ?_
    have hF := Option.some.inj hF
    subst hF
    exact hQ _ H _ _ dX9_text_89 hP hD hS
  · have hF := if_f c19 hF
    refine lv_aload_n hx hb dX9_text_70 rfl (lv_at hl 0 rfl) ?_
    refine lv_iload_n hx hb dX9_text_71 rfl (lv_at hl 1 rfl) ?_
    refine va_put (D := D) (ci := 8) (v := .int l1) (ty := .int) (C := RX9) (T := TX9) (N := 24) hx hb hts iX9_text_X9 tyX9 tyX9_ok nmX9 hown hK hP hD hS 0 rfl rfl 0 (by decide) (hts _ kX9_text_1) (fun _ h9 => h9) rfl (by decide +kernel) rfl rfl (Nat.le_of_ble_eq_true rfl) dX9_text_72 (fun H locs hP hD hS => ?_)
    have hP : va_P D vwCl (w_model ky aM mxs mus mys mgp mtp mme mle mlt mkl mln msz mit mmv l1 mer (0 : Int32) mat t0 mkn mmb mwa mra mbl mbh dxs dus dys dgp dtp dme dle dlt dkl dln dsz dit dmv) H := hP
    have hD : va_D A (w_model ky aM mxs mus mys mgp mtp mme mle mlt mkl mln msz mit mmv l1 mer (0 : Int32) mat t0 mkn mmb mwa mra mbl mbh dxs dus dys dgp dtp dme dle dlt dkl dln dsz dit dmv) := hD
    refine lv_bipush (v := (-20 : Int32)) hx hb dX9_text_75 (by decide) ?_
    refine lv_aload_n hx hb dX9_text_77 rfl (lv_at hl 0 rfl) ?_
    refine va_get (D := D) (ci := 8) (v := .int mat) (C := RX9) (T := TX9) (N := 24) hx hb hts iX9_text_X9 hown hK hP 0 rfl rfl 8 (by decide) (hts _ kX9_text_2) (fun _ h9 => h9) rfl dX9_text_78 ?_
    refine lv_isub hx hb dX9_text_81 ?_
    have hF := Option.some.inj hF
    subst hF
    exact hQ _ H _ _ dX9_text_82 hP hD hS
set_option maxHeartbeats 4000000 in
set_option maxRecDepth 100000 in
theorem w_X9_text_17 {p : Program} {l : Launch} {e : Env} {s : State} {m : MethodId} {args : Array Value} {below : List Frame} {meth : Method} {c : Code} {Q : State → Prop} {A : Nat → Prop} {D : va_G} {ky : Nat → ClassId} {aM mxs mus mys mgp mtp mme mle mlt mkl mln msz mit mmv : Nat} {mer : Int32} {mkn : Int32} {mmb : Int32} {mwa : Int32} {mra : Int32} {mbl : Int32} {mbh : Int32} {dtp : Nat → Int32} {dme : Nat → Int32} {dle : Nat → Int32} {dlt : Nat → Int32} {dkl : Nat → Int32} {dln : Nat → Int32} {dsz : Nat → Int32} {dit : Nat → Int32} {dmv : Nat → Int32} (N : Nat) (C : cx p s m c args D ky A cX9_text 3 wsX9_text RX9) (res : Int32 × Int32 × Int32 × Int32 × Int32 × (Nat → Int32) × (Nat → Int32) × (Nat → Int32) × (Nat → Int32)) (hQ : ∀ (pc : Nat) (H : Heap) (locs : List Loc) (ls : Array Slot), decode cX9_text pc = .ok (.ireturn, 1) → va_P D vwCl (w_model ky aM mxs mus mys mgp mtp mme mle mlt mkl mln msz mit mmv res.2.1 mer res.2.2.1 res.2.2.2.1 res.2.2.2.2.1 mkn mmb mwa mra mbl mbh res.2.2.2.2.2.1 res.2.2.2.2.2.2.1 res.2.2.2.2.2.2.2.1 res.2.2.2.2.2.2.2.2 dtp dme dle dlt dkl dln dsz dit dmv) H → va_D A (w_model ky aM mxs mus mys mgp mtp mme mle mlt mkl mln msz mit mmv res.2.1 mer res.2.2.1 res.2.2.2.1 res.2.2.2.2.1 mkn mmb mwa mra mbl mbh res.2.2.2.2.2.1 res.2.2.2.2.2.2.1 res.2.2.2.2.2.2.2.1 res.2.2.2.2.2.2.2.2 dtp dme dle dlt dkl dln dsz dit dmv) → va_S A s.heap H locs → W p l e rm_X9_text s m args below meth c H locs 0 0 Q (F0 m pc ls [.int res.1])) (l1 : Int32) (mtd : Int32) : ∀ (n : Nat) (l2 : Int32) (mrm : Int32) (mat : Int32) (mwr : Int32) (dxs : Nat → Int32) (dus : Nat → Int32) (dys : Nat → Int32) (dgp : Nat → Int32), f_X9_text_17 N l1 mtd dtp n l2 mrm mat mwr dxs dus dys dgp = some res → ∀ (H : Heap) (locs : List Loc) (ls : Array Slot), va_P D vwCl (w_model ky aM mxs mus mys mgp mtp mme mle mlt mkl mln msz mit mmv mrm mer mtd mat mwr mkn mmb mwa mra mbl mbh dxs dus dys dgp dtp dme dle dlt dkl dln dsz dit dmv) H → va_D A (w_model ky aM mxs mus mys mgp mtp mme mle mlt mkl mln msz mit mmv mrm mer mtd mat mwr mkn mmb mwa mra mbl mbh dxs dus dys dgp dtp dme dle dlt dkl dln dsz dit dmv) → va_S A s.heap H locs → lv_has ls 3 [(0, .ref aM), (1, .int l1), (2, .int l2)] → W p l e rm_X9_text s m args below meth c H locs 0 0 Q (F0 m 17 ls []) := by
  obtain ⟨hx, hb, hml, hown, hts, hK, hA⟩ := id C
  intro n
  induction n with
  | zero =>
    intro l2 mrm mat mwr dxs dus dys dgp hF
    cases hF
  | succ n ih =>
    intro l2 mrm mat mwr dxs dus dys dgp hF H locs ls hP hD hS hl
    have hF : b_X9_text_17 N l1 mtd dtp (f_X9_text_17 N l1 mtd dtp n) l2 mrm mat mwr dxs dus dys dgp = some res := hF
    unfold b_X9_text_17 at hF
    refine lv_iload_n hx hb dX9_text_17 rfl (lv_at hl 2 rfl) ?_
    refine lv_if_eq (tgt := 35) hx hb dX9_text_18 (by decide) (fun c1 => ?_) (fun c1 => ?_)
    · have hF := if_t c1 hF
      refine lv_aload_n hx hb dX9_text_35 rfl (lv_at hl 0 rfl) ?_
      refine lv_aload_n hx hb dX9_text_36 rfl (lv_at hl 0 rfl) ?_
      refine va_get (D := D) (ci := 8) (v := .int mwr) (C := RX9) (T := TX9) (N := 24) hx hb hts iX9_text_X9 hown hK hP 0 rfl rfl 9 (by decide) (hts _ kX9_text_3) (fun _ h9 => h9) rfl dX9_text_37 ?_
      refine lv_if_ne (tgt := 50) hx hb dX9_text_40 (by decide) (fun c2 => ?_) (fun c2 => ?_)
      · have hF := if_f c2 hF
        refine lv_iconst (v := (1 : Int32)) hx hb dX9_text_50 (by decide) ?_
        refine lv_goto (tgt := 55) hx hb dX9_text_51 (by decide) ?_
        exact w_X9_text_55 N C res hQ l1 (1 : Int32) mrm mtd mat mwr dxs dus dys dgp hF H _ _ hP hD hS (lv_sub hl [0, 1] rfl)
      · have hF := if_t c2 hF
        refine lv_aload_n hx hb dX9_text_43 rfl (lv_at hl 0 rfl) ?_
        obtain ⟨r4, v5, h3, hF⟩ := b2_s hF
        refine cl_vi (As := []) (rest := [.ref aM]) (w' := (w_model ky aM mxs mus mys mgp mtp mme mle mlt mkl mln msz mit mmv mrm mer mtd v5 mwr mkn mmb mwa mra mbl mbh dxs dus dys dgp dtp dme dle dlt dkl dln dsz dit dmv)) ⟨hx, hb, hml, hown, hts⟩ hK hP hD hS hA (c_X9_next l D ky aM mxs mus mys mgp mtp mme mle mlt mkl mln msz mit mmv _ N  mrm mer mtd mat mwr mkn mmb mwa mra mbl mbh dxs dus dys dgp dtp dme dle dlt dkl dln dsz dit dmv  r4 v5 h3) (cwV 0 hts gX9_text_X9_next rfl rfl rfl (by decide +kernel) ⟨Nat.le_of_ble_eq_true rfl, Nat.le_of_ble_eq_true rfl⟩) [0, 1, 2, 3, 4, 5, 6, 7, 8, 9, 10, 11, 12, 13] [] [0, 1, 2, 3, 4, 5, 6, 7, 8, 9, 10, 11, 12, 13] 0 8 rfl rfl rfl rfl (wr := []) rfl (by decide) rfl rfl hl.1 (Nat.le_of_ble_eq_true rfl) dX9_text_44 ⟨Nat.zero_le _, Nat.zero_le _⟩ (fun H locs hP hD hS => ?_)
        refine lv_if_eq (tgt := 54) hx hb dX9_text_47 (by decide) (fun c6 => ?_) (fun c6 => ?_)
        · have hF := if_t c6 hF
          refine lv_iconst (v := (0 : Int32)) hx hb dX9_text_54 (by decide) ?_
          exact w_X9_text_55 N C res hQ l1 (0 : Int32) mrm mtd v5 mwr dxs dus dys dgp hF H _ _ hP hD hS (lv_sub hl [0, 1] rfl)
        · have hF := if_f c6 hF
          refine lv_iconst (v := (1 : Int32)) hx hb dX9_text_50 (by decide) ?_
          refine lv_goto (tgt := 55) hx hb dX9_text_51 (by decide) ?_
          exact w_X9_text_55 N C res hQ l1 (1 : Int32) mrm mtd v5 mwr dxs dus dys dgp hF H _ _ hP hD hS (lv_sub hl [0, 1] rfl)
    · have hF := if_f c1 hF
      refine lv_aload_n hx hb dX9_text_21 rfl (lv_at hl 0 rfl) ?_
      obtain ⟨v8, v9, v10, v11, v12, v13, v14, h7, hF⟩ := b7_s hF
      refine cl_vv (As := []) (rest := []) (w' := (w_model ky aM mxs mus mys mgp mtp mme mle mlt mkl mln msz mit mmv v8 mer mtd v9 v10 mkn mmb mwa mra mbl mbh v11 v12 v13 v14 dtp dme dle dlt dkl dln dsz dit dmv)) ⟨hx, hb, hml, hown, hts⟩ hK hP hD hS hA (c_X9_oneRow l D ky aM mxs mus mys mgp mtp mme mle mlt mkl mln msz mit mmv _ N  mrm mer mtd mat mwr mkn mmb mwa mra mbl mbh dxs dus dys dgp dtp dme dle dlt dkl dln dsz dit dmv  v8 v9 v10 v11 v12 v13 v14 h7) (cwV 0 hts gX9_text_X9_oneRow rfl rfl rfl (by decide +kernel) ⟨Nat.le_of_ble_eq_true rfl, Nat.le_of_ble_eq_true rfl⟩) [0, 1, 2, 3, 4, 5, 6, 7, 8, 9, 10, 11, 12, 13] [] [0, 1, 2, 3, 4, 5, 6, 7, 8, 9, 10, 11, 12, 13] 0 8 rfl rfl rfl rfl (wr := []) rfl (by decide) rfl rfl hl.1 (Nat.le_of_ble_eq_true rfl) dX9_text_22 ⟨Nat.zero_le _, Nat.zero_le _⟩ (fun H locs hP hD hS => ?_)
      refine lv_aload_n hx hb dX9_text_25 rfl (lv_at hl 0 rfl) ?_
      refine lv_bipush (v := (59 : Int32)) hx hb dX9_text_26 (by decide) ?_
      obtain ⟨r16, v17, h15, hF⟩ := b2_s hF
      refine cl_vi (As := [.int (59 : Int32)]) (rest := []) (w' := (w_model ky aM mxs mus mys mgp mtp mme mle mlt mkl mln msz mit mmv v8 mer mtd v17 v10 mkn mmb mwa mra mbl mbh v11 v12 v13 v14 dtp dme dle dlt dkl dln dsz dit dmv)) ⟨hx, hb, hml, hown, hts⟩ hK hP hD hS hA (c_X9_passes l D ky aM mxs mus mys mgp mtp mme mle mlt mkl mln msz mit mmv _ N  v8 mer mtd v9 v10 mkn mmb mwa mra mbl mbh v11 v12 v13 v14 dtp dme dle dlt dkl dln dsz dit dmv (59 : Int32) r16 v17 h15) (cwV 1 hts gX9_text_X9_passes rfl rfl rfl (by decide +kernel) ⟨Nat.le_of_ble_eq_true rfl, Nat.le_of_ble_eq_true rfl⟩) [0, 1, 2, 3, 4, 5, 6, 7, 8, 9, 10, 11, 12, 13] [] [0, 1, 2, 3, 4, 5, 6, 7, 8, 9, 10, 11, 12, 13] 0 8 rfl rfl rfl rfl (wr := []) rfl (by decide) rfl rfl hl.1 (Nat.le_of_ble_eq_true rfl) dX9_text_28 ⟨Nat.zero_le _, Nat.zero_le _⟩ (fun H locs hP hD hS => ?_)
      refine lv_istore_n (lv' := [(2, .int r16), (0, .ref aM), (1, .int l1)]) hx hb dX9_text_31 rfl hl (by decide) rfl (fun ls hl => ?_)
      refine lv_goto (tgt := 17) hx hb dX9_text_32 (by decide) ?_
      exact ih r16 v8 v17 v10 v11 v12 v13 v14 hF H _ _ hP hD hS (lv_sub hl [1, 2, 0] rfl)
set_option maxHeartbeats 4000000 in
set_option maxRecDepth 100000 in
theorem cr_X9_text (l : Launch) (D : va_G) (ky : Nat → ClassId) (aM mxs mus mys mgp mtp mme mle mlt mkl mln msz mit mmv : Nat) (sz N : Nat)  (mrm : Int32) (mer : Int32) (mtd : Int32) (mat : Int32) (mwr : Int32) (mkn : Int32) (mmb : Int32) (mwa : Int32) (mra : Int32) (mbl : Int32) (mbh : Int32) (dxs : Nat → Int32) (dus : Nat → Int32) (dys : Nat → Int32) (dgp : Nat → Int32) (dtp : Nat → Int32) (dme : Nat → Int32) (dle : Nat → Int32) (dlt : Nat → Int32) (dkl : Nat → Int32) (dln : Nat → Int32) (dsz : Nat → Int32) (dit : Nat → Int32) (dmv : Nat → Int32)  (res : Int32 × Int32 × Int32 × Int32 × Int32 × (Nat → Int32) × (Nat → Int32) × (Nat → Int32) × (Nat → Int32)) (hF : f_X9_text N mrm mtd dxs dus dys dgp dtp = some res) : MI l yX9_text wsX9_text rm_X9_text D ky sz [.ref aM] (w_model ky aM mxs mus mys mgp mtp mme mle mlt mkl mln msz mit mmv mrm mer mtd mat mwr mkn mmb mwa mra mbl mbh dxs dus dys dgp dtp dme dle dlt dkl dln dsz dit dmv) (w_model ky aM mxs mus mys mgp mtp mme mle mlt mkl mln msz mit mmv res.2.1 mer res.2.2.1 res.2.2.2.1 res.2.2.2.2.1 mkn mmb mwa mra mbl mbh res.2.2.2.2.2.1 res.2.2.2.2.2.2.1 res.2.2.2.2.2.2.2.1 res.2.2.2.2.2.2.2.2 dtp dme dle dlt dkl dln dsz dit dmv) res.1 := by
  unfold MI
  refine Met.ofW (cc := cX9_text) (maxL := 3) (ret := (some .int)) (by decide) rfl ?_
  intro p e s m args below meth c s₁ B hml hv
  obtain ⟨rfl, hsz, hP, hK, hD0⟩ := hv
  have hx := B.exec
  have hb := B.bytes
  have hr := B.returns
  have hts := atoms_spec (ws := wsX9_text) B.pre
  have hown : s.vm.findClass RX9 = some m.cls := findClass_of_methodNamed B.named
  have hlocks := B.notSynchronized
  subst hsz
  have hD := hD0.self (sz := s.heap.size)
  generalize hAe : va_A (w_model ky aM mxs mus mys mgp mtp mme mle mlt mkl mln msz mit mmv mrm mer mtd mat mwr mkn mmb mwa mra mbl mbh dxs dus dys dgp dtp dme dle dlt dkl dln dsz dit dmv) s.heap.size = A at hD ⊢
  have hA : ∀ q : Nat, s.heap.size ≤ q → A q := fun q h => by rw [← hAe]; exact Or.inr h
  have hS : va_S A s.heap s.heap [] := va_S.rf
  have hP : va_P D vwCl (w_model ky aM mxs mus mys mgp mtp mme mle mlt mkl mln msz mit mmv mrm mer mtd mat mwr mkn mmb mwa mra mbl mbh dxs dus dys dgp dtp dme dle dlt dkl dln dsz dit dmv) s.heap := hP
  have hl := lv_entry ([.ref aM]) (n := 3) (Nat.le_of_ble_eq_true rfl)
  rw [lg_entry_eq]
  generalize (lg_sl ([.ref aM]) ++ List.replicate (3 - (lg_sl ([.ref aM])).length) Slot.unset).toArray = ls at hl ⊢
  have hl : lv_has ls 3 [(0, .ref aM)] := hl
  have C : cx p s m c ([.ref aM]).toArray D ky A cX9_text 3 wsX9_text RX9 := ⟨hx, hb, hml, hown, hts, hK, hA⟩
  have hQ : ∀ (pc : Nat) (H : Heap) (locs : List Loc) (ls : Array Slot), decode cX9_text pc = .ok (.ireturn, 1) → va_P D vwCl (w_model ky aM mxs mus mys mgp mtp mme mle mlt mkl mln msz mit mmv res.2.1 mer res.2.2.1 res.2.2.2.1 res.2.2.2.2.1 mkn mmb mwa mra mbl mbh res.2.2.2.2.2.1 res.2.2.2.2.2.2.1 res.2.2.2.2.2.2.2.1 res.2.2.2.2.2.2.2.2 dtp dme dle dlt dkl dln dsz dit dmv) H → va_D A (w_model ky aM mxs mus mys mgp mtp mme mle mlt mkl mln msz mit mmv res.2.1 mer res.2.2.1 res.2.2.2.1 res.2.2.2.2.1 mkn mmb mwa mra mbl mbh res.2.2.2.2.2.1 res.2.2.2.2.2.2.1 res.2.2.2.2.2.2.2.1 res.2.2.2.2.2.2.2.2 dtp dme dle dlt dkl dln dsz dit dmv) → va_S A s.heap H locs → W p l e rm_X9_text s m ([.ref aM]).toArray below meth c H locs 0 0 (MQ below (va_Qi (S := Unit) (fun r _ => r = res.1) (fun _ t => va_P D vwCl (w_model ky aM mxs mus mys mgp mtp mme mle mlt mkl mln msz mit mmv res.2.1 mer res.2.2.1 res.2.2.2.1 res.2.2.2.2.1 mkn mmb mwa mra mbl mbh res.2.2.2.2.2.1 res.2.2.2.2.2.2.1 res.2.2.2.2.2.2.2.1 res.2.2.2.2.2.2.2.2 dtp dme dle dlt dkl dln dsz dit dmv) t.heap ∧ va_K D vwCl (tyW ky) t ∧ va_D A (w_model ky aM mxs mus mys mgp mtp mme mle mlt mkl mln msz mit mmv res.2.1 mer res.2.2.1 res.2.2.2.1 res.2.2.2.2.1 mkn mmb mwa mra mbl mbh res.2.2.2.2.2.1 res.2.2.2.2.2.2.1 res.2.2.2.2.2.2.2.1 res.2.2.2.2.2.2.2.2 dtp dme dle dlt dkl dln dsz dit dmv)) A) ([.ref aM]).toArray s 0 0 A) (F0 m pc ls [.int res.1]) := fun pc H locs ls hd hP hD hS => W.iret hx hb hr (fun t ht hW => ⟨⟨res.1, (), rfl, rfl, by rw [ht]; exact hP, va_K.moved hW.alike hK, hD⟩, hS.F ht⟩) hS.2.2 hd
  unfold f_X9_text at hF
  refine lv_aload_n hx hb dX9_text_0 rfl (lv_at hl 0 rfl) ?_
  refine va_get (D := D) (ci := 8) (v := .int mrm) (C := RX9) (T := TX9) (N := 24) hx hb hts iX9_text_X9 hown hK hP 0 rfl rfl 0 (by decide) (hts _ kX9_text_1) (fun _ h9 => h9) rfl dX9_text_1 ?_
  refine lv_istore_n (lv' := [(1, .int mrm), (0, .ref aM)]) hx hb dX9_text_4 rfl hl (by decide) rfl (fun ls hl => ?_)
  refine lv_aload_n hx hb dX9_text_5 rfl (lv_at hl 1 rfl) ?_
  refine lv_iconst (v := (0 : Int32)) hx hb dX9_text_6 (by decide) ?_
  refine va_put (D := D) (ci := 8) (v := .int (0 : Int32)) (ty := .int) (C := RX9) (T := TX9) (N := 24) hx hb hts iX9_text_X9 tyX9 tyX9_ok nmX9 hown hK hP hD hS 0 rfl rfl 8 (by decide) (hts _ kX9_text_2) (fun _ h9 => h9) rfl (by decide +kernel) rfl rfl (Nat.le_of_ble_eq_true rfl) dX9_text_7 (fun H locs hP hD hS => ?_)
  have hP : va_P D vwCl (w_model ky aM mxs mus mys mgp mtp mme mle mlt mkl mln msz mit mmv mrm mer mtd (0 : Int32) mwr mkn mmb mwa mra mbl mbh dxs dus dys dgp dtp dme dle dlt dkl dln dsz dit dmv) H := hP
  have hD : va_D A (w_model ky aM mxs mus mys mgp mtp mme mle mlt mkl mln msz mit mmv mrm mer mtd (0 : Int32) mwr mkn mmb mwa mra mbl mbh dxs dus dys dgp dtp dme dle dlt dkl dln dsz dit dmv) := hD
  refine lv_aload_n hx hb dX9_text_10 rfl (lv_at hl 1 rfl) ?_
  refine lv_iconst (v := (0 : Int32)) hx hb dX9_text_11 (by decide) ?_
  refine va_put (D := D) (ci := 8) (v := .int (0 : Int32)) (ty := .boolean) (C := RX9) (T := TX9) (N := 24) hx hb hts iX9_text_X9 tyX9 tyX9_ok nmX9 hown hK hP hD hS 0 rfl rfl 9 (by decide) (hts _ kX9_text_3) (fun _ h9 => h9) rfl (by decide +kernel) rfl rfl (Nat.le_of_ble_eq_true rfl) dX9_text_12 (fun H locs hP hD hS => ?_)
  have hP : va_P D vwCl (w_model ky aM mxs mus mys mgp mtp mme mle mlt mkl mln msz mit mmv mrm mer mtd (0 : Int32) (0 : Int32) mkn mmb mwa mra mbl mbh dxs dus dys dgp dtp dme dle dlt dkl dln dsz dit dmv) H := hP
  have hD : va_D A (w_model ky aM mxs mus mys mgp mtp mme mle mlt mkl mln msz mit mmv mrm mer mtd (0 : Int32) (0 : Int32) mkn mmb mwa mra mbl mbh dxs dus dys dgp dtp dme dle dlt dkl dln dsz dit dmv) := hD
  refine lv_iconst (v := (1 : Int32)) hx hb dX9_text_15 (by decide) ?_
  refine lv_istore_n (lv' := [(2, .int (1 : Int32)), (1, .int mrm), (0, .ref aM)]) hx hb dX9_text_16 rfl hl (by decide) rfl (fun ls hl => ?_)
  exact w_X9_text_17 N C res hQ mrm mtd N (1 : Int32) mrm (0 : Int32) (0 : Int32) dxs dus dys dgp hF _ _ _ hP hD hS (lv_sub hl [2, 1, 0] rfl)
theorem c_X9_text (l : Launch) (D : va_G) (ky : Nat → ClassId) (aM mxs mus mys mgp mtp mme mle mlt mkl mln msz mit mmv : Nat) (sz N : Nat)  (mrm : Int32) (mer : Int32) (mtd : Int32) (mat : Int32) (mwr : Int32) (mkn : Int32) (mmb : Int32) (mwa : Int32) (mra : Int32) (mbl : Int32) (mbh : Int32) (dxs : Nat → Int32) (dus : Nat → Int32) (dys : Nat → Int32) (dgp : Nat → Int32) (dtp : Nat → Int32) (dme : Nat → Int32) (dle : Nat → Int32) (dlt : Nat → Int32) (dkl : Nat → Int32) (dln : Nat → Int32) (dsz : Nat → Int32) (dit : Nat → Int32) (dmv : Nat → Int32)  (rv : Int32) (mrm' : Int32) (mtd' : Int32) (mat' : Int32) (mwr' : Int32) (dxs' : Nat → Int32) (dus' : Nat → Int32) (dys' : Nat → Int32) (dgp' : Nat → Int32) (hF : f_X9_text N mrm mtd dxs dus dys dgp dtp = some (rv, mrm', mtd', mat', mwr', dxs', dus', dys', dgp')) : MI l yX9_text wsX9_text rm_X9_text D ky sz [.ref aM] (w_model ky aM mxs mus mys mgp mtp mme mle mlt mkl mln msz mit mmv mrm mer mtd mat mwr mkn mmb mwa mra mbl mbh dxs dus dys dgp dtp dme dle dlt dkl dln dsz dit dmv) (w_model ky aM mxs mus mys mgp mtp mme mle mlt mkl mln msz mit mmv mrm' mer mtd' mat' mwr' mkn mmb mwa mra mbl mbh dxs' dus' dys' dgp' dtp dme dle dlt dkl dln dsz dit dmv) rv :=
  cr_X9_text l D ky aM mxs mus mys mgp mtp mme mle mlt mkl mln msz mit mmv sz N mrm mer mtd mat mwr mkn mmb mwa mra mbl mbh dxs dus dys dgp dtp dme dle dlt dkl dln dsz dit dmv (rv, mrm', mtd', mat', mwr', dxs', dus', dys', dgp') hF
abbrev rm_X9_told : Room := { frames := 2, cells := 0, slots := 0, locals := 46 }
theorem kX9_told_0 : (Cond.constant RX9 129 (-1000001)) ∈ wsX9_told := by decide +kernel
theorem kX9_told_1 : (Cond.constantLong RX9 127 (2)) ∈ wsX9_told := by decide +kernel
theorem iX9_told_X9 : ∀ w ∈ wsX90, w ∈ wsX9_told := by decide +kernel
theorem kX9_told_3 : (Cond.fieldLink RX9 19 "TwoLawsModel" "isGap" "[Z") ∈ wsX9_told := by decide +kernel
theorem kX9_told_4 : (Cond.fieldLink RX9 16 "TwoLawsModel" "ys" "[I") ∈ wsX9_told := by decide +kernel
theorem kX9_told_5 : (Cond.constant RX9 130 (-1000004)) ∈ wsX9_told := by decide +kernel
theorem kX9_told_6 : (Cond.fieldLink RX9 13 "TwoLawsModel" "us" "[I") ∈ wsX9_told := by decide +kernel
theorem kX9_told_7 : (Cond.fieldLink RX9 7 "TwoLawsModel" "xs" "[I") ∈ wsX9_told := by decide +kernel
set_option maxHeartbeats 4000000 in
set_option maxRecDepth 100000 in
theorem cr_X9_told (l : Launch) (D : va_G) (ky : Nat → ClassId) (aM mxs mus mys mgp mtp mme mle mlt mkl mln msz mit mmv : Nat) (sz N : Nat)  (mrm : Int32) (mer : Int32) (mtd : Int32) (mat : Int32) (mwr : Int32) (mkn : Int32) (mmb : Int32) (mwa : Int32) (mra : Int32) (mbl : Int32) (mbh : Int32) (dxs : Nat → Int32) (dus : Nat → Int32) (dys : Nat → Int32) (dgp : Nat → Int32) (dtp : Nat → Int32) (dme : Nat → Int32) (dle : Nat → Int32) (dlt : Nat → Int32) (dkl : Nat → Int32) (dln : Nat → Int32) (dsz : Nat → Int32) (dit : Nat → Int32) (dmv : Nat → Int32) (p0 : Int32) (p1 : Int32) (res : Int32) (hF : f_X9_told N p0 p1 mrm dxs dus dys dgp = some res) : MI l yX9_told wsX9_told rm_X9_told D ky sz [.ref aM, .int p0, .int p1] (w_model ky aM mxs mus mys mgp mtp mme mle mlt mkl mln msz mit mmv mrm mer mtd mat mwr mkn mmb mwa mra mbl mbh dxs dus dys dgp dtp dme dle dlt dkl dln dsz dit dmv) (w_model ky aM mxs mus mys mgp mtp mme mle mlt mkl mln msz mit mmv mrm mer mtd mat mwr mkn mmb mwa mra mbl mbh dxs dus dys dgp dtp dme dle dlt dkl dln dsz dit dmv) res := by
  unfold MI
  refine Met.ofW (cc := cX9_told) (maxL := 3) (ret := (some .int)) (by decide) rfl ?_
  intro p e s m args below meth c s₁ B hml hv
  obtain ⟨rfl, hsz, hP, hK, hD0⟩ := hv
  have hx := B.exec
  have hb := B.bytes
  have hr := B.returns
  have hts := atoms_spec (ws := wsX9_told) B.pre
  have hown : s.vm.findClass RX9 = some m.cls := findClass_of_methodNamed B.named
  have hlocks := B.notSynchronized
  subst hsz
  have hD := hD0.self (sz := s.heap.size)
  generalize hAe : va_A (w_model ky aM mxs mus mys mgp mtp mme mle mlt mkl mln msz mit mmv mrm mer mtd mat mwr mkn mmb mwa mra mbl mbh dxs dus dys dgp dtp dme dle dlt dkl dln dsz dit dmv) s.heap.size = A at hD ⊢
  have hA : ∀ q : Nat, s.heap.size ≤ q → A q := fun q h => by rw [← hAe]; exact Or.inr h
  have hS : va_S A s.heap s.heap [] := va_S.rf
  have hP : va_P D vwCl (w_model ky aM mxs mus mys mgp mtp mme mle mlt mkl mln msz mit mmv mrm mer mtd mat mwr mkn mmb mwa mra mbl mbh dxs dus dys dgp dtp dme dle dlt dkl dln dsz dit dmv) s.heap := hP
  have hl := lv_entry ([.ref aM, .int p0, .int p1]) (n := 3) (Nat.le_of_ble_eq_true rfl)
  rw [lg_entry_eq]
  generalize (lg_sl ([.ref aM, .int p0, .int p1]) ++ List.replicate (3 - (lg_sl ([.ref aM, .int p0, .int p1])).length) Slot.unset).toArray = ls at hl ⊢
  have hl : lv_has ls 3 [(0, .ref aM), (1, .int p0), (2, .int p1)] := hl
  have C : cx p s m c ([.ref aM, .int p0, .int p1]).toArray D ky A cX9_told 3 wsX9_told RX9 := ⟨hx, hb, hml, hown, hts, hK, hA⟩
  have hQ : ∀ (pc : Nat) (H : Heap) (locs : List Loc) (ls : Array Slot), decode cX9_told pc = .ok (.ireturn, 1) → va_P D vwCl (w_model ky aM mxs mus mys mgp mtp mme mle mlt mkl mln msz mit mmv mrm mer mtd mat mwr mkn mmb mwa mra mbl mbh dxs dus dys dgp dtp dme dle dlt dkl dln dsz dit dmv) H → va_D A (w_model ky aM mxs mus mys mgp mtp mme mle mlt mkl mln msz mit mmv mrm mer mtd mat mwr mkn mmb mwa mra mbl mbh dxs dus dys dgp dtp dme dle dlt dkl dln dsz dit dmv) → va_S A s.heap H locs → W p l e rm_X9_told s m ([.ref aM, .int p0, .int p1]).toArray below meth c H locs 0 0 (MQ below (va_Qi (S := Unit) (fun r _ => r = res) (fun _ t => va_P D vwCl (w_model ky aM mxs mus mys mgp mtp mme mle mlt mkl mln msz mit mmv mrm mer mtd mat mwr mkn mmb mwa mra mbl mbh dxs dus dys dgp dtp dme dle dlt dkl dln dsz dit dmv) t.heap ∧ va_K D vwCl (tyW ky) t ∧ va_D A (w_model ky aM mxs mus mys mgp mtp mme mle mlt mkl mln msz mit mmv mrm mer mtd mat mwr mkn mmb mwa mra mbl mbh dxs dus dys dgp dtp dme dle dlt dkl dln dsz dit dmv)) A) ([.ref aM, .int p0, .int p1]).toArray s 0 0 A) (F0 m pc ls [.int res]) := fun pc H locs ls hd hP hD hS => W.iret hx hb hr (fun t ht hW => ⟨⟨res, (), rfl, rfl, by rw [ht]; exact hP, va_K.moved hW.alike hK, hD⟩, hS.F ht⟩) hS.2.2 hd
  unfold f_X9_told at hF
  refine lv_aload_n hx hb dX9_told_0 rfl (lv_at hl 0 rfl) ?_
  refine lv_iload_n hx hb dX9_told_1 rfl (lv_at hl 1 rfl) ?_
  obtain ⟨r2, h1, hF⟩ := b1_s hF
  refine cl_vi (As := [.int p0]) (rest := []) (w' := (w_model ky aM mxs mus mys mgp mtp mme mle mlt mkl mln msz mit mmv mrm mer mtd mat mwr mkn mmb mwa mra mbl mbh dxs dus dys dgp dtp dme dle dlt dkl dln dsz dit dmv)) ⟨hx, hb, hml, hown, hts⟩ hK hP hD hS hA (c_X9_isRow l D ky aM mxs mus mys mgp mtp mme mle mlt mkl mln msz mit mmv _ N  mrm mer mtd mat mwr mkn mmb mwa mra mbl mbh dxs dus dys dgp dtp dme dle dlt dkl dln dsz dit dmv p0 r2 h1) (cwV 1 hts gX9_told_X9_isRow rfl rfl rfl (by decide +kernel) ⟨Nat.le_of_ble_eq_true rfl, Nat.le_of_ble_eq_true rfl⟩) [0, 1, 2, 3, 4, 5, 6, 7, 8, 9, 10, 11, 12, 13] [] [0, 1, 2, 3, 4, 5, 6, 7, 8, 9, 10, 11, 12, 13] 0 8 rfl rfl rfl rfl (wr := []) rfl (by decide) rfl rfl hl.1 (Nat.le_of_ble_eq_true rfl) dX9_told_2 ⟨Nat.zero_le _, Nat.zero_le _⟩ (fun H locs hP hD hS => ?_)
  refine lv_if_eq (tgt := 20) hx hb dX9_told_5 (by decide) (fun c3 => ?_) (fun c3 => ?_)
  · have hF := if_t c3 hF
    refine lv_ldc hx hb hown (hts _ kX9_told_0) dX9_told_20 ?_
    have hF := Option.some.inj hF
    subst hF
    exact hQ _ _ _ _ dX9_told_22 hP hD hS
  · have hF := if_f c3 hF
    refine lv_iload_n hx hb dX9_told_8 rfl (lv_at hl 2 rfl) ?_
    refine lv_i2l (v := (p1.toInt64)) hx hb dX9_told_9 rfl ?_
    refine lv_lconst (v := (0 : Int64)) hx hb dX9_told_10 (by decide) ?_
    refine lv_ldc2 hx hb hown (hts _ kX9_told_1) dX9_told_11 ?_
    obtain ⟨r5, h4, hF⟩ := b1_s hF
    refine cl_si (As := [.long (p1.toInt64), .long (0 : Int64), .long (2 : Int64)]) (rest := []) ⟨hx, hb, hml, hown, hts⟩ hK hP hD hS hA (c_X9_in l D ky  _ N   (p1.toInt64) (0 : Int64) (2 : Int64) r5 h4) (va_cwS 3 hts gX9_told_X9_in rfl rfl rfl (by decide +kernel) ⟨Nat.le_of_ble_eq_true rfl, Nat.le_of_ble_eq_true rfl⟩) rfl hl.1 (Nat.le_of_ble_eq_true rfl) dX9_told_14 ⟨Nat.zero_le _, Nat.zero_le _⟩ (fun H locs hP hD hS => ?_)
    refine lv_if_ne (tgt := 23) hx hb dX9_told_17 (by decide) (fun c6 => ?_) (fun c6 => ?_)
    · have hF := if_f c6 hF
      refine lv_iload_n hx hb dX9_told_23 rfl (lv_at hl 2 rfl) ?_
      refine lv_if_ne (tgt := 36) hx hb dX9_told_24 (by decide) (fun c7 => ?_) (fun c7 => ?_)
      · have hF := if_f c7 hF
        refine lv_iload_n hx hb dX9_told_36 rfl (lv_at hl 2 rfl) ?_
        refine lv_iconst (v := (1 : Int32)) hx hb dX9_told_37 (by decide) ?_
        refine lv_icmp_ne (tgt := 50) hx hb dX9_told_38 (by decide) (fun c8 => ?_) (fun c8 => ?_)
        · have hF := if_f c8 hF
          refine lv_aload_n hx hb dX9_told_50 rfl (lv_at hl 0 rfl) ?_
          refine va_get (D := D) (ci := 8) (v := .ref mgp) (C := RX9) (T := TX9) (N := 24) hx hb hts iX9_told_X9 hown hK hP 0 rfl rfl 4 (by decide) (hts _ kX9_told_3) (fun _ h9 => h9) rfl dX9_told_51 ?_
          refine lv_iload_n hx hb dX9_told_54 rfl (lv_at hl 1 rfl) ?_
          obtain ⟨h9, hF⟩ := gi_s hF
          refine va_zald hx hb hK hP 4 2 rfl rfl h9 dX9_told_55 ?_
          refine lv_if_eq (tgt := 64) hx hb dX9_told_56 (by decide) (fun c10 => ?_) (fun c10 => ?_)
          · have hF := if_t c10 hF
            refine lv_aload_n hx hb dX9_told_64 rfl (lv_at hl 0 rfl) ?_
            refine va_get (D := D) (ci := 8) (v := .ref mys) (C := RX9) (T := TX9) (N := 24) hx hb hts iX9_told_X9 hown hK hP 0 rfl rfl 3 (by decide) (hts _ kX9_told_4) (fun _ h9 => h9) rfl dX9_told_65 ?_
            refine lv_iload_n hx hb dX9_told_68 rfl (lv_at hl 1 rfl) ?_
            obtain ⟨h11, hF⟩ := gi_s hF
            refine va_iald hx hb hK hP 3 0 rfl rfl h11 dX9_told_69 ?_
            have hF := Option.some.inj hF
            subst hF
            exact hQ _ _ _ _ dX9_told_70 hP hD hS
          · have hF := if_f c10 hF
            refine lv_ldc hx hb hown (hts _ kX9_told_5) dX9_told_59 ?_
            refine lv_goto (tgt := 70) hx hb dX9_told_61 (by decide) ?_
            have hF := Option.some.inj hF
            subst hF
            exact hQ _ _ _ _ dX9_told_70 hP hD hS
        · have hF := if_t c8 hF
          refine lv_aload_n hx hb dX9_told_41 rfl (lv_at hl 0 rfl) ?_
          refine va_get (D := D) (ci := 8) (v := .ref mus) (C := RX9) (T := TX9) (N := 24) hx hb hts iX9_told_X9 hown hK hP 0 rfl rfl 2 (by decide) (hts _ kX9_told_6) (fun _ h9 => h9) rfl dX9_told_42 ?_
          refine lv_iload_n hx hb dX9_told_45 rfl (lv_at hl 1 rfl) ?_
          obtain ⟨h12, hF⟩ := gi_s hF
          refine va_iald hx hb hK hP 2 0 rfl rfl h12 dX9_told_46 ?_
          refine lv_goto (tgt := 70) hx hb dX9_told_47 (by decide) ?_
          have hF := Option.some.inj hF
          subst hF
          exact hQ _ _ _ _ dX9_told_70 hP hD hS
      · have hF := if_t c7 hF
        refine lv_aload_n hx hb dX9_told_27 rfl (lv_at hl 0 rfl) ?_
        refine va_get (D := D) (ci := 8) (v := .ref mxs) (C := RX9) (T := TX9) (N := 24) hx hb hts iX9_told_X9 hown hK hP 0 rfl rfl 1 (by decide) (hts _ kX9_told_7) (fun _ h9 => h9) rfl dX9_told_28 ?_
        refine lv_iload_n hx hb dX9_told_31 rfl (lv_at hl 1 rfl) ?_
        obtain ⟨h13, hF⟩ := gi_s hF
        refine va_iald hx hb hK hP 1 0 rfl rfl h13 dX9_told_32 ?_
        refine lv_goto (tgt := 70) hx hb dX9_told_33 (by decide) ?_
        have hF := Option.some.inj hF
        subst hF
        exact hQ _ _ _ _ dX9_told_70 hP hD hS
    · have hF := if_t c6 hF
      refine lv_ldc hx hb hown (hts _ kX9_told_0) dX9_told_20 ?_
      have hF := Option.some.inj hF
      subst hF
      exact hQ _ _ _ _ dX9_told_22 hP hD hS
theorem c_X9_told (l : Launch) (D : va_G) (ky : Nat → ClassId) (aM mxs mus mys mgp mtp mme mle mlt mkl mln msz mit mmv : Nat) (sz N : Nat)  (mrm : Int32) (mer : Int32) (mtd : Int32) (mat : Int32) (mwr : Int32) (mkn : Int32) (mmb : Int32) (mwa : Int32) (mra : Int32) (mbl : Int32) (mbh : Int32) (dxs : Nat → Int32) (dus : Nat → Int32) (dys : Nat → Int32) (dgp : Nat → Int32) (dtp : Nat → Int32) (dme : Nat → Int32) (dle : Nat → Int32) (dlt : Nat → Int32) (dkl : Nat → Int32) (dln : Nat → Int32) (dsz : Nat → Int32) (dit : Nat → Int32) (dmv : Nat → Int32) (p0 : Int32) (p1 : Int32) (rv : Int32) (hF : f_X9_told N p0 p1 mrm dxs dus dys dgp = some (rv)) : MI l yX9_told wsX9_told rm_X9_told D ky sz [.ref aM, .int p0, .int p1] (w_model ky aM mxs mus mys mgp mtp mme mle mlt mkl mln msz mit mmv mrm mer mtd mat mwr mkn mmb mwa mra mbl mbh dxs dus dys dgp dtp dme dle dlt dkl dln dsz dit dmv) (w_model ky aM mxs mus mys mgp mtp mme mle mlt mkl mln msz mit mmv mrm mer mtd mat mwr mkn mmb mwa mra mbl mbh dxs dus dys dgp dtp dme dle dlt dkl dln dsz dit dmv) rv :=
  cr_X9_told l D ky aM mxs mus mys mgp mtp mme mle mlt mkl mln msz mit mmv sz N mrm mer mtd mat mwr mkn mmb mwa mra mbl mbh dxs dus dys dgp dtp dme dle dlt dkl dln dsz dit dmv p0 p1 (rv) hF
abbrev rm_X9_clear : Room := { frames := 0, cells := 0, slots := 0, locals := 0 }
theorem iX9_clear_X9 : ∀ w ∈ wsX90, w ∈ wsX9_clear := by decide +kernel
theorem kX9_clear_1 : (Cond.fieldLink RX9 62 "TwoLawsModel" "rowMany" "I") ∈ wsX9_clear := by decide +kernel
set_option maxHeartbeats 4000000 in
set_option maxRecDepth 100000 in
theorem cr_X9_clear (l : Launch) (D : va_G) (ky : Nat → ClassId) (aM mxs mus mys mgp mtp mme mle mlt mkl mln msz mit mmv : Nat) (sz N : Nat)  (mrm : Int32) (mer : Int32) (mtd : Int32) (mat : Int32) (mwr : Int32) (mkn : Int32) (mmb : Int32) (mwa : Int32) (mra : Int32) (mbl : Int32) (mbh : Int32) (dxs : Nat → Int32) (dus : Nat → Int32) (dys : Nat → Int32) (dgp : Nat → Int32) (dtp : Nat → Int32) (dme : Nat → Int32) (dle : Nat → Int32) (dlt : Nat → Int32) (dkl : Nat → Int32) (dln : Nat → Int32) (dsz : Nat → Int32) (dit : Nat → Int32) (dmv : Nat → Int32)  (res : Int32 × Int32) (hF : f_X9_clear N mrm = some res) : MI l yX9_clear wsX9_clear rm_X9_clear D ky sz [.ref aM] (w_model ky aM mxs mus mys mgp mtp mme mle mlt mkl mln msz mit mmv mrm mer mtd mat mwr mkn mmb mwa mra mbl mbh dxs dus dys dgp dtp dme dle dlt dkl dln dsz dit dmv) (w_model ky aM mxs mus mys mgp mtp mme mle mlt mkl mln msz mit mmv res.2 mer mtd mat mwr mkn mmb mwa mra mbl mbh dxs dus dys dgp dtp dme dle dlt dkl dln dsz dit dmv) res.1 := by
  unfold MI
  refine Met.ofW (cc := cX9_clear) (maxL := 2) (ret := (some .int)) (by decide) rfl ?_
  intro p e s m args below meth c s₁ B hml hv
  obtain ⟨rfl, hsz, hP, hK, hD0⟩ := hv
  have hx := B.exec
  have hb := B.bytes
  have hr := B.returns
  have hts := atoms_spec (ws := wsX9_clear) B.pre
  have hown : s.vm.findClass RX9 = some m.cls := findClass_of_methodNamed B.named
  have hlocks := B.notSynchronized
  subst hsz
  have hD := hD0.self (sz := s.heap.size)
  generalize hAe : va_A (w_model ky aM mxs mus mys mgp mtp mme mle mlt mkl mln msz mit mmv mrm mer mtd mat mwr mkn mmb mwa mra mbl mbh dxs dus dys dgp dtp dme dle dlt dkl dln dsz dit dmv) s.heap.size = A at hD ⊢
  have hA : ∀ q : Nat, s.heap.size ≤ q → A q := fun q h => by rw [← hAe]; exact Or.inr h
  have hS : va_S A s.heap s.heap [] := va_S.rf
  have hP : va_P D vwCl (w_model ky aM mxs mus mys mgp mtp mme mle mlt mkl mln msz mit mmv mrm mer mtd mat mwr mkn mmb mwa mra mbl mbh dxs dus dys dgp dtp dme dle dlt dkl dln dsz dit dmv) s.heap := hP
  have hl := lv_entry ([.ref aM]) (n := 2) (Nat.le_of_ble_eq_true rfl)
  rw [lg_entry_eq]
  generalize (lg_sl ([.ref aM]) ++ List.replicate (2 - (lg_sl ([.ref aM])).length) Slot.unset).toArray = ls at hl ⊢
  have hl : lv_has ls 2 [(0, .ref aM)] := hl
  have C : cx p s m c ([.ref aM]).toArray D ky A cX9_clear 2 wsX9_clear RX9 := ⟨hx, hb, hml, hown, hts, hK, hA⟩
  have hQ : ∀ (pc : Nat) (H : Heap) (locs : List Loc) (ls : Array Slot), decode cX9_clear pc = .ok (.ireturn, 1) → va_P D vwCl (w_model ky aM mxs mus mys mgp mtp mme mle mlt mkl mln msz mit mmv res.2 mer mtd mat mwr mkn mmb mwa mra mbl mbh dxs dus dys dgp dtp dme dle dlt dkl dln dsz dit dmv) H → va_D A (w_model ky aM mxs mus mys mgp mtp mme mle mlt mkl mln msz mit mmv res.2 mer mtd mat mwr mkn mmb mwa mra mbl mbh dxs dus dys dgp dtp dme dle dlt dkl dln dsz dit dmv) → va_S A s.heap H locs → W p l e rm_X9_clear s m ([.ref aM]).toArray below meth c H locs 0 0 (MQ below (va_Qi (S := Unit) (fun r _ => r = res.1) (fun _ t => va_P D vwCl (w_model ky aM mxs mus mys mgp mtp mme mle mlt mkl mln msz mit mmv res.2 mer mtd mat mwr mkn mmb mwa mra mbl mbh dxs dus dys dgp dtp dme dle dlt dkl dln dsz dit dmv) t.heap ∧ va_K D vwCl (tyW ky) t ∧ va_D A (w_model ky aM mxs mus mys mgp mtp mme mle mlt mkl mln msz mit mmv res.2 mer mtd mat mwr mkn mmb mwa mra mbl mbh dxs dus dys dgp dtp dme dle dlt dkl dln dsz dit dmv)) A) ([.ref aM]).toArray s 0 0 A) (F0 m pc ls [.int res.1]) := fun pc H locs ls hd hP hD hS => W.iret hx hb hr (fun t ht hW => ⟨⟨res.1, (), rfl, rfl, by rw [ht]; exact hP, va_K.moved hW.alike hK, hD⟩, hS.F ht⟩) hS.2.2 hd
  unfold f_X9_clear at hF
  refine lv_aload_n hx hb dX9_clear_0 rfl (lv_at hl 0 rfl) ?_
  refine va_get (D := D) (ci := 8) (v := .int mrm) (C := RX9) (T := TX9) (N := 24) hx hb hts iX9_clear_X9 hown hK hP 0 rfl rfl 0 (by decide) (hts _ kX9_clear_1) (fun _ h9 => h9) rfl dX9_clear_1 ?_
  refine lv_istore_n (lv' := [(1, .int mrm), (0, .ref aM)]) hx hb dX9_clear_4 rfl hl (by decide) rfl (fun ls hl => ?_)
  refine lv_aload_n hx hb dX9_clear_5 rfl (lv_at hl 1 rfl) ?_
  refine lv_iconst (v := (0 : Int32)) hx hb dX9_clear_6 (by decide) ?_
  refine va_put (D := D) (ci := 8) (v := .int (0 : Int32)) (ty := .int) (C := RX9) (T := TX9) (N := 24) hx hb hts iX9_clear_X9 tyX9 tyX9_ok nmX9 hown hK hP hD hS 0 rfl rfl 0 (by decide) (hts _ kX9_clear_1) (fun _ h9 => h9) rfl (by decide +kernel) rfl rfl (Nat.le_of_ble_eq_true rfl) dX9_clear_7 (fun H locs hP hD hS => ?_)
  have hP : va_P D vwCl (w_model ky aM mxs mus mys mgp mtp mme mle mlt mkl mln msz mit mmv (0 : Int32) mer mtd mat mwr mkn mmb mwa mra mbl mbh dxs dus dys dgp dtp dme dle dlt dkl dln dsz dit dmv) H := hP
  have hD : va_D A (w_model ky aM mxs mus mys mgp mtp mme mle mlt mkl mln msz mit mmv (0 : Int32) mer mtd mat mwr mkn mmb mwa mra mbl mbh dxs dus dys dgp dtp dme dle dlt dkl dln dsz dit dmv) := hD
  refine lv_iload_n hx hb dX9_clear_10 rfl (lv_at hl 0 rfl) ?_
  have hF := Option.some.inj hF
  subst hF
  exact hQ _ _ _ _ dX9_clear_11 hP hD hS
theorem c_X9_clear (l : Launch) (D : va_G) (ky : Nat → ClassId) (aM mxs mus mys mgp mtp mme mle mlt mkl mln msz mit mmv : Nat) (sz N : Nat)  (mrm : Int32) (mer : Int32) (mtd : Int32) (mat : Int32) (mwr : Int32) (mkn : Int32) (mmb : Int32) (mwa : Int32) (mra : Int32) (mbl : Int32) (mbh : Int32) (dxs : Nat → Int32) (dus : Nat → Int32) (dys : Nat → Int32) (dgp : Nat → Int32) (dtp : Nat → Int32) (dme : Nat → Int32) (dle : Nat → Int32) (dlt : Nat → Int32) (dkl : Nat → Int32) (dln : Nat → Int32) (dsz : Nat → Int32) (dit : Nat → Int32) (dmv : Nat → Int32)  (rv : Int32) (mrm' : Int32) (hF : f_X9_clear N mrm = some (rv, mrm')) : MI l yX9_clear wsX9_clear rm_X9_clear D ky sz [.ref aM] (w_model ky aM mxs mus mys mgp mtp mme mle mlt mkl mln msz mit mmv mrm mer mtd mat mwr mkn mmb mwa mra mbl mbh dxs dus dys dgp dtp dme dle dlt dkl dln dsz dit dmv) (w_model ky aM mxs mus mys mgp mtp mme mle mlt mkl mln msz mit mmv mrm' mer mtd mat mwr mkn mmb mwa mra mbl mbh dxs dus dys dgp dtp dme dle dlt dkl dln dsz dit dmv) rv :=
  cr_X9_clear l D ky aM mxs mus mys mgp mtp mme mle mlt mkl mln msz mit mmv sz N mrm mer mtd mat mwr mkn mmb mwa mra mbl mbh dxs dus dys dgp dtp dme dle dlt dkl dln dsz dit dmv (rv, mrm') hF
abbrev rm_X9_error : Room := { frames := 1, cells := 0, slots := 0, locals := 25 }
theorem kX9_error_0 : (Cond.constantLong RX9 131 (20)) ∈ wsX9_error := by decide +kernel
theorem iX9_error_X9 : ∀ w ∈ wsX90, w ∈ wsX9_error := by decide +kernel
theorem kX9_error_2 : (Cond.fieldLink RX9 23 "TwoLawsModel" "error" "I") ∈ wsX9_error := by decide +kernel
set_option maxHeartbeats 4000000 in
set_option maxRecDepth 100000 in
theorem cr_X9_error (l : Launch) (D : va_G) (ky : Nat → ClassId) (aM mxs mus mys mgp mtp mme mle mlt mkl mln msz mit mmv : Nat) (sz N : Nat)  (mrm : Int32) (mer : Int32) (mtd : Int32) (mat : Int32) (mwr : Int32) (mkn : Int32) (mmb : Int32) (mwa : Int32) (mra : Int32) (mbl : Int32) (mbh : Int32) (dxs : Nat → Int32) (dus : Nat → Int32) (dys : Nat → Int32) (dgp : Nat → Int32) (dtp : Nat → Int32) (dme : Nat → Int32) (dle : Nat → Int32) (dlt : Nat → Int32) (dkl : Nat → Int32) (dln : Nat → Int32) (dsz : Nat → Int32) (dit : Nat → Int32) (dmv : Nat → Int32) (p0 : Int32) (res : Int32 × Int32) (hF : f_X9_error N p0 mer = some res) : MI l yX9_error wsX9_error rm_X9_error D ky sz [.ref aM, .int p0] (w_model ky aM mxs mus mys mgp mtp mme mle mlt mkl mln msz mit mmv mrm mer mtd mat mwr mkn mmb mwa mra mbl mbh dxs dus dys dgp dtp dme dle dlt dkl dln dsz dit dmv) (w_model ky aM mxs mus mys mgp mtp mme mle mlt mkl mln msz mit mmv mrm res.2 mtd mat mwr mkn mmb mwa mra mbl mbh dxs dus dys dgp dtp dme dle dlt dkl dln dsz dit dmv) res.1 := by
  unfold MI
  refine Met.ofW (cc := cX9_error) (maxL := 3) (ret := (some .int)) (by decide) rfl ?_
  intro p e s m args below meth c s₁ B hml hv
  obtain ⟨rfl, hsz, hP, hK, hD0⟩ := hv
  have hx := B.exec
  have hb := B.bytes
  have hr := B.returns
  have hts := atoms_spec (ws := wsX9_error) B.pre
  have hown : s.vm.findClass RX9 = some m.cls := findClass_of_methodNamed B.named
  have hlocks := B.notSynchronized
  subst hsz
  have hD := hD0.self (sz := s.heap.size)
  generalize hAe : va_A (w_model ky aM mxs mus mys mgp mtp mme mle mlt mkl mln msz mit mmv mrm mer mtd mat mwr mkn mmb mwa mra mbl mbh dxs dus dys dgp dtp dme dle dlt dkl dln dsz dit dmv) s.heap.size = A at hD ⊢
  have hA : ∀ q : Nat, s.heap.size ≤ q → A q := fun q h => by rw [← hAe]; exact Or.inr h
  have hS : va_S A s.heap s.heap [] := va_S.rf
  have hP : va_P D vwCl (w_model ky aM mxs mus mys mgp mtp mme mle mlt mkl mln msz mit mmv mrm mer mtd mat mwr mkn mmb mwa mra mbl mbh dxs dus dys dgp dtp dme dle dlt dkl dln dsz dit dmv) s.heap := hP
  have hl := lv_entry ([.ref aM, .int p0]) (n := 3) (Nat.le_of_ble_eq_true rfl)
  rw [lg_entry_eq]
  generalize (lg_sl ([.ref aM, .int p0]) ++ List.replicate (3 - (lg_sl ([.ref aM, .int p0])).length) Slot.unset).toArray = ls at hl ⊢
  have hl : lv_has ls 3 [(0, .ref aM), (1, .int p0)] := hl
  have C : cx p s m c ([.ref aM, .int p0]).toArray D ky A cX9_error 3 wsX9_error RX9 := ⟨hx, hb, hml, hown, hts, hK, hA⟩
  have hQ : ∀ (pc : Nat) (H : Heap) (locs : List Loc) (ls : Array Slot), decode cX9_error pc = .ok (.ireturn, 1) → va_P D vwCl (w_model ky aM mxs mus mys mgp mtp mme mle mlt mkl mln msz mit mmv mrm res.2 mtd mat mwr mkn mmb mwa mra mbl mbh dxs dus dys dgp dtp dme dle dlt dkl dln dsz dit dmv) H → va_D A (w_model ky aM mxs mus mys mgp mtp mme mle mlt mkl mln msz mit mmv mrm res.2 mtd mat mwr mkn mmb mwa mra mbl mbh dxs dus dys dgp dtp dme dle dlt dkl dln dsz dit dmv) → va_S A s.heap H locs → W p l e rm_X9_error s m ([.ref aM, .int p0]).toArray below meth c H locs 0 0 (MQ below (va_Qi (S := Unit) (fun r _ => r = res.1) (fun _ t => va_P D vwCl (w_model ky aM mxs mus mys mgp mtp mme mle mlt mkl mln msz mit mmv mrm res.2 mtd mat mwr mkn mmb mwa mra mbl mbh dxs dus dys dgp dtp dme dle dlt dkl dln dsz dit dmv) t.heap ∧ va_K D vwCl (tyW ky) t ∧ va_D A (w_model ky aM mxs mus mys mgp mtp mme mle mlt mkl mln msz mit mmv mrm res.2 mtd mat mwr mkn mmb mwa mra mbl mbh dxs dus dys dgp dtp dme dle dlt dkl dln dsz dit dmv)) A) ([.ref aM, .int p0]).toArray s 0 0 A) (F0 m pc ls [.int res.1]) := fun pc H locs ls hd hP hD hS => W.iret hx hb hr (fun t ht hW => ⟨⟨res.1, (), rfl, rfl, by rw [ht]; exact hP, va_K.moved hW.alike hK, hD⟩, hS.F ht⟩) hS.2.2 hd
  unfold f_X9_error at hF
  refine lv_iload_n hx hb dX9_error_0 rfl (lv_at hl 1 rfl) ?_
  refine lv_i2l (v := (p0.toInt64)) hx hb dX9_error_1 rfl ?_
  refine lv_lconst (v := (0 : Int64)) hx hb dX9_error_2 (by decide) ?_
  refine lv_ldc2 hx hb hown (hts _ kX9_error_0) dX9_error_3 ?_
  obtain ⟨r2, h1, hF⟩ := b1_s hF
  refine cl_si (As := [.long (p0.toInt64), .long (0 : Int64), .long (20 : Int64)]) (rest := []) ⟨hx, hb, hml, hown, hts⟩ hK hP hD hS hA (c_X9_in l D ky  _ N   (p0.toInt64) (0 : Int64) (20 : Int64) r2 h1) (va_cwS 3 hts gX9_error_X9_in rfl rfl rfl (by decide +kernel) ⟨Nat.le_of_ble_eq_true rfl, Nat.le_of_ble_eq_true rfl⟩) rfl hl.1 (Nat.le_of_ble_eq_true rfl) dX9_error_6 ⟨Nat.zero_le _, Nat.zero_le _⟩ (fun H locs hP hD hS => ?_)
  refine lv_if_ne (tgt := 14) hx hb dX9_error_9 (by decide) (fun c3 => ?_) (fun c3 => ?_)
  · have hF := if_f c3 hF
    refine lv_aload_n hx hb dX9_error_14 rfl (lv_at hl 0 rfl) ?_
    refine va_get (D := D) (ci := 8) (v := .int mer) (C := RX9) (T := TX9) (N := 24) hx hb hts iX9_error_X9 hown hK hP 0 rfl rfl 5 (by decide) (hts _ kX9_error_2) (fun _ h9 => h9) rfl dX9_error_15 ?_
    refine lv_istore_n (lv' := [(2, .int mer), (0, .ref aM), (1, .int p0)]) hx hb dX9_error_18 rfl hl (by decide) rfl (fun ls hl => ?_)
    refine lv_aload_n hx hb dX9_error_19 rfl (lv_at hl 1 rfl) ?_
    refine lv_iload_n hx hb dX9_error_20 rfl (lv_at hl 2 rfl) ?_
    refine va_put (D := D) (ci := 8) (v := .int p0) (ty := .int) (C := RX9) (T := TX9) (N := 24) hx hb hts iX9_error_X9 tyX9 tyX9_ok nmX9 hown hK hP hD hS 0 rfl rfl 5 (by decide) (hts _ kX9_error_2) (fun _ h9 => h9) rfl (by decide +kernel) rfl rfl (Nat.le_of_ble_eq_true rfl) dX9_error_21 (fun H locs hP hD hS => ?_)
    have hP : va_P D vwCl (w_model ky aM mxs mus mys mgp mtp mme mle mlt mkl mln msz mit mmv mrm p0 mtd mat mwr mkn mmb mwa mra mbl mbh dxs dus dys dgp dtp dme dle dlt dkl dln dsz dit dmv) H := hP
    have hD : va_D A (w_model ky aM mxs mus mys mgp mtp mme mle mlt mkl mln msz mit mmv mrm p0 mtd mat mwr mkn mmb mwa mra mbl mbh dxs dus dys dgp dtp dme dle dlt dkl dln dsz dit dmv) := hD
    refine lv_iload_n hx hb dX9_error_24 rfl (lv_at hl 0 rfl) ?_
    have hF := Option.some.inj hF
    subst hF
    exact hQ _ _ _ _ dX9_error_25 hP hD hS
  · have hF := if_t c3 hF
    refine lv_iconst (v := (-1 : Int32)) hx hb dX9_error_12 (by decide) ?_
    have hF := Option.some.inj hF
    subst hF
    exact hQ _ _ _ _ dX9_error_13 hP hD hS
theorem c_X9_error (l : Launch) (D : va_G) (ky : Nat → ClassId) (aM mxs mus mys mgp mtp mme mle mlt mkl mln msz mit mmv : Nat) (sz N : Nat)  (mrm : Int32) (mer : Int32) (mtd : Int32) (mat : Int32) (mwr : Int32) (mkn : Int32) (mmb : Int32) (mwa : Int32) (mra : Int32) (mbl : Int32) (mbh : Int32) (dxs : Nat → Int32) (dus : Nat → Int32) (dys : Nat → Int32) (dgp : Nat → Int32) (dtp : Nat → Int32) (dme : Nat → Int32) (dle : Nat → Int32) (dlt : Nat → Int32) (dkl : Nat → Int32) (dln : Nat → Int32) (dsz : Nat → Int32) (dit : Nat → Int32) (dmv : Nat → Int32) (p0 : Int32) (rv : Int32) (mer' : Int32) (hF : f_X9_error N p0 mer = some (rv, mer')) : MI l yX9_error wsX9_error rm_X9_error D ky sz [.ref aM, .int p0] (w_model ky aM mxs mus mys mgp mtp mme mle mlt mkl mln msz mit mmv mrm mer mtd mat mwr mkn mmb mwa mra mbl mbh dxs dus dys dgp dtp dme dle dlt dkl dln dsz dit dmv) (w_model ky aM mxs mus mys mgp mtp mme mle mlt mkl mln msz mit mmv mrm mer' mtd mat mwr mkn mmb mwa mra mbl mbh dxs dus dys dgp dtp dme dle dlt dkl dln dsz dit dmv) rv :=
  cr_X9_error l D ky aM mxs mus mys mgp mtp mme mle mlt mkl mln msz mit mmv sz N mrm mer mtd mat mwr mkn mmb mwa mra mbl mbh dxs dus dys dgp dtp dme dle dlt dkl dln dsz dit dmv p0 (rv, mer') hF
abbrev rm_X9_fits : Room := { frames := 1, cells := 0, slots := 0, locals := 25 }
theorem iX9_fits_X9 : ∀ w ∈ wsX90, w ∈ wsX9_fits := by decide +kernel
theorem kX9_fits_1 : (Cond.fieldLink RX9 23 "TwoLawsModel" "error" "I") ∈ wsX9_fits := by decide +kernel
set_option maxHeartbeats 4000000 in
set_option maxRecDepth 100000 in
theorem cr_X9_fits (l : Launch) (D : va_G) (ky : Nat → ClassId) (aM mxs mus mys mgp mtp mme mle mlt mkl mln msz mit mmv : Nat) (sz N : Nat)  (mrm : Int32) (mer : Int32) (mtd : Int32) (mat : Int32) (mwr : Int32) (mkn : Int32) (mmb : Int32) (mwa : Int32) (mra : Int32) (mbl : Int32) (mbh : Int32) (dxs : Nat → Int32) (dus : Nat → Int32) (dys : Nat → Int32) (dgp : Nat → Int32) (dtp : Nat → Int32) (dme : Nat → Int32) (dle : Nat → Int32) (dlt : Nat → Int32) (dkl : Nat → Int32) (dln : Nat → Int32) (dsz : Nat → Int32) (dit : Nat → Int32) (dmv : Nat → Int32) (p0 : Int32) (p1 : Int32) (p2 : Int32) (p3 : Int32) (res : Int32) (hF : f_X9_fits N p0 p1 p2 p3 mer = some res) : MI l yX9_fits wsX9_fits rm_X9_fits D ky sz [.ref aM, .int p0, .int p1, .int p2, .int p3] (w_model ky aM mxs mus mys mgp mtp mme mle mlt mkl mln msz mit mmv mrm mer mtd mat mwr mkn mmb mwa mra mbl mbh dxs dus dys dgp dtp dme dle dlt dkl dln dsz dit dmv) (w_model ky aM mxs mus mys mgp mtp mme mle mlt mkl mln msz mit mmv mrm mer mtd mat mwr mkn mmb mwa mra mbl mbh dxs dus dys dgp dtp dme dle dlt dkl dln dsz dit dmv) res := by
  unfold MI
  refine Met.ofW (cc := cX9_fits) (maxL := 6) (ret := (some .boolean)) (by decide) rfl ?_
  intro p e s m args below meth c s₁ B hml hv
  obtain ⟨rfl, hsz, hP, hK, hD0⟩ := hv
  have hx := B.exec
  have hb := B.bytes
  have hr := B.returns
  have hts := atoms_spec (ws := wsX9_fits) B.pre
  have hown : s.vm.findClass RX9 = some m.cls := findClass_of_methodNamed B.named
  have hlocks := B.notSynchronized
  subst hsz
  have hD := hD0.self (sz := s.heap.size)
  generalize hAe : va_A (w_model ky aM mxs mus mys mgp mtp mme mle mlt mkl mln msz mit mmv mrm mer mtd mat mwr mkn mmb mwa mra mbl mbh dxs dus dys dgp dtp dme dle dlt dkl dln dsz dit dmv) s.heap.size = A at hD ⊢
  have hA : ∀ q : Nat, s.heap.size ≤ q → A q := fun q h => by rw [← hAe]; exact Or.inr h
  have hS : va_S A s.heap s.heap [] := va_S.rf
  have hP : va_P D vwCl (w_model ky aM mxs mus mys mgp mtp mme mle mlt mkl mln msz mit mmv mrm mer mtd mat mwr mkn mmb mwa mra mbl mbh dxs dus dys dgp dtp dme dle dlt dkl dln dsz dit dmv) s.heap := hP
  have hl := lv_entry ([.ref aM, .int p0, .int p1, .int p2, .int p3]) (n := 6) (Nat.le_of_ble_eq_true rfl)
  rw [lg_entry_eq]
  generalize (lg_sl ([.ref aM, .int p0, .int p1, .int p2, .int p3]) ++ List.replicate (6 - (lg_sl ([.ref aM, .int p0, .int p1, .int p2, .int p3])).length) Slot.unset).toArray = ls at hl ⊢
  have hl : lv_has ls 6 [(0, .ref aM), (1, .int p0), (2, .int p1), (3, .int p2), (4, .int p3)] := hl
  have C : cx p s m c ([.ref aM, .int p0, .int p1, .int p2, .int p3]).toArray D ky A cX9_fits 6 wsX9_fits RX9 := ⟨hx, hb, hml, hown, hts, hK, hA⟩
  have hQ : ∀ (pc : Nat) (H : Heap) (locs : List Loc) (ls : Array Slot), decode cX9_fits pc = .ok (.ireturn, 1) → (res = 0 ∨ res = 1) → va_P D vwCl (w_model ky aM mxs mus mys mgp mtp mme mle mlt mkl mln msz mit mmv mrm mer mtd mat mwr mkn mmb mwa mra mbl mbh dxs dus dys dgp dtp dme dle dlt dkl dln dsz dit dmv) H → va_D A (w_model ky aM mxs mus mys mgp mtp mme mle mlt mkl mln msz mit mmv mrm mer mtd mat mwr mkn mmb mwa mra mbl mbh dxs dus dys dgp dtp dme dle dlt dkl dln dsz dit dmv) → va_S A s.heap H locs → W p l e rm_X9_fits s m ([.ref aM, .int p0, .int p1, .int p2, .int p3]).toArray below meth c H locs 0 0 (MQ below (va_Qi (S := Unit) (fun r _ => r = res) (fun _ t => va_P D vwCl (w_model ky aM mxs mus mys mgp mtp mme mle mlt mkl mln msz mit mmv mrm mer mtd mat mwr mkn mmb mwa mra mbl mbh dxs dus dys dgp dtp dme dle dlt dkl dln dsz dit dmv) t.heap ∧ va_K D vwCl (tyW ky) t ∧ va_D A (w_model ky aM mxs mus mys mgp mtp mme mle mlt mkl mln msz mit mmv mrm mer mtd mat mwr mkn mmb mwa mra mbl mbh dxs dus dys dgp dtp dme dle dlt dkl dln dsz dit dmv)) A) ([.ref aM, .int p0, .int p1, .int p2, .int p3]).toArray s 0 0 A) (F0 m pc ls [.int res]) := fun pc H locs ls hd hz hP hD hS => W.zret hx hb hr (gz_n hz) (fun t ht hW => ⟨⟨res, (), rfl, rfl, by rw [ht]; exact hP, va_K.moved hW.alike hK, hD⟩, hS.F ht⟩) hS.2.2 hd
  unfold f_X9_fits at hF
  refine lv_iconst (v := (4 : Int32)) hx hb dX9_fits_0 (by decide) ?_
  refine lv_iload hx hb dX9_fits_1 (lv_at hl 4 rfl) ?_
  refine lv_imul hx hb dX9_fits_3 ?_
  refine lv_iload_n hx hb dX9_fits_4 rfl (lv_at hl 1 rfl) ?_
  refine lv_iload_n hx hb dX9_fits_5 rfl (lv_at hl 2 rfl) ?_
  refine lv_iload_n hx hb dX9_fits_6 rfl (lv_at hl 3 rfl) ?_
  obtain ⟨r2, h1, hF⟩ := b1_s hF
  refine cl_si (As := [.int p0, .int p1, .int p2]) (rest := [.int ((4 : Int32) * p3)]) ⟨hx, hb, hml, hown, hts⟩ hK hP hD hS hA (c_X9_sumOf l D ky  _ N   p0 p1 p2 r2 h1) (va_cwS 3 hts gX9_fits_X9_sumOf rfl rfl rfl (by decide +kernel) ⟨Nat.le_of_ble_eq_true rfl, Nat.le_of_ble_eq_true rfl⟩) rfl hl.1 (Nat.le_of_ble_eq_true rfl) dX9_fits_7 ⟨Nat.zero_le _, Nat.zero_le _⟩ (fun H locs hP hD hS => ?_)
  refine lv_isub hx hb dX9_fits_10 ?_
  refine lv_istore (lv' := [(5, .int (((4 : Int32) * p3) - r2)), (0, .ref aM), (1, .int p0), (2, .int p1), (3, .int p2), (4, .int p3)]) hx hb dX9_fits_11 hl (by decide) rfl (fun ls hl => ?_)
  refine lv_iload hx hb dX9_fits_13 (lv_at hl 0 rfl) ?_
  refine lv_i2l (v := ((((4 : Int32) * p3) - r2).toInt64)) hx hb dX9_fits_15 rfl ?_
  refine lv_bipush (v := (-4 : Int32)) hx hb dX9_fits_16 (by decide) ?_
  refine lv_aload_n hx hb dX9_fits_18 rfl (lv_at hl 1 rfl) ?_
  refine va_get (D := D) (ci := 8) (v := .int mer) (C := RX9) (T := TX9) (N := 24) hx hb hts iX9_fits_X9 hown hK hP 0 rfl rfl 5 (by decide) (hts _ kX9_fits_1) (fun _ h9 => h9) rfl dX9_fits_19 ?_
  refine lv_imul hx hb dX9_fits_22 ?_
  refine lv_i2l (v := (((-4 : Int32) * mer).toInt64)) hx hb dX9_fits_23 rfl ?_
  refine lv_iconst (v := (4 : Int32)) hx hb dX9_fits_24 (by decide) ?_
  refine lv_aload_n hx hb dX9_fits_25 rfl (lv_at hl 1 rfl) ?_
  refine va_get (D := D) (ci := 8) (v := .int mer) (C := RX9) (T := TX9) (N := 24) hx hb hts iX9_fits_X9 hown hK hP 0 rfl rfl 5 (by decide) (hts _ kX9_fits_1) (fun _ h9 => h9) rfl dX9_fits_26 ?_
  refine lv_imul hx hb dX9_fits_29 ?_
  refine lv_i2l (v := (((4 : Int32) * mer).toInt64)) hx hb dX9_fits_30 rfl ?_
  obtain ⟨r4, h3, hF⟩ := b1_s hF
  refine cl_si (As := [.long ((((4 : Int32) * p3) - r2).toInt64), .long (((-4 : Int32) * mer).toInt64), .long (((4 : Int32) * mer).toInt64)]) (rest := []) ⟨hx, hb, hml, hown, hts⟩ hK hP hD hS hA (c_X9_in l D ky  _ N   ((((4 : Int32) * p3) - r2).toInt64) (((-4 : Int32) * mer).toInt64) (((4 : Int32) * mer).toInt64) r4 h3) (va_cwS 3 hts gX9_fits_X9_in rfl rfl rfl (by decide +kernel) ⟨Nat.le_of_ble_eq_true rfl, Nat.le_of_ble_eq_true rfl⟩) rfl hl.1 (Nat.le_of_ble_eq_true rfl) dX9_fits_31 ⟨Nat.zero_le _, Nat.zero_le _⟩ (fun H locs hP hD hS => ?_)
  obtain ⟨h5, hF⟩ := gz_s hF
  have hF := Option.some.inj hF
  subst hF
  exact hQ _ _ _ _ dX9_fits_34 h5 hP hD hS
theorem c_X9_fits (l : Launch) (D : va_G) (ky : Nat → ClassId) (aM mxs mus mys mgp mtp mme mle mlt mkl mln msz mit mmv : Nat) (sz N : Nat)  (mrm : Int32) (mer : Int32) (mtd : Int32) (mat : Int32) (mwr : Int32) (mkn : Int32) (mmb : Int32) (mwa : Int32) (mra : Int32) (mbl : Int32) (mbh : Int32) (dxs : Nat → Int32) (dus : Nat → Int32) (dys : Nat → Int32) (dgp : Nat → Int32) (dtp : Nat → Int32) (dme : Nat → Int32) (dle : Nat → Int32) (dlt : Nat → Int32) (dkl : Nat → Int32) (dln : Nat → Int32) (dsz : Nat → Int32) (dit : Nat → Int32) (dmv : Nat → Int32) (p0 : Int32) (p1 : Int32) (p2 : Int32) (p3 : Int32) (rv : Int32) (hF : f_X9_fits N p0 p1 p2 p3 mer = some (rv)) : MI l yX9_fits wsX9_fits rm_X9_fits D ky sz [.ref aM, .int p0, .int p1, .int p2, .int p3] (w_model ky aM mxs mus mys mgp mtp mme mle mlt mkl mln msz mit mmv mrm mer mtd mat mwr mkn mmb mwa mra mbl mbh dxs dus dys dgp dtp dme dle dlt dkl dln dsz dit dmv) (w_model ky aM mxs mus mys mgp mtp mme mle mlt mkl mln msz mit mmv mrm mer mtd mat mwr mkn mmb mwa mra mbl mbh dxs dus dys dgp dtp dme dle dlt dkl dln dsz dit dmv) rv :=
  cr_X9_fits l D ky aM mxs mus mys mgp mtp mme mle mlt mkl mln msz mit mmv sz N mrm mer mtd mat mwr mkn mmb mwa mra mbl mbh dxs dus dys dgp dtp dme dle dlt dkl dln dsz dit dmv p0 p1 p2 p3 (rv) hF
abbrev rm_X9_doesMeet : Room := { frames := 2, cells := 0, slots := 0, locals := 50 }
theorem iX9_doesMeet_X9 : ∀ w ∈ wsX90, w ∈ wsX9_doesMeet := by decide +kernel
theorem kX9_doesMeet_1 : (Cond.fieldLink RX9 19 "TwoLawsModel" "isGap" "[Z") ∈ wsX9_doesMeet := by decide +kernel
theorem kX9_doesMeet_2 : (Cond.fieldLink RX9 7 "TwoLawsModel" "xs" "[I") ∈ wsX9_doesMeet := by decide +kernel
theorem kX9_doesMeet_3 : (Cond.fieldLink RX9 13 "TwoLawsModel" "us" "[I") ∈ wsX9_doesMeet := by decide +kernel
theorem kX9_doesMeet_4 : (Cond.fieldLink RX9 16 "TwoLawsModel" "ys" "[I") ∈ wsX9_doesMeet := by decide +kernel
set_option maxHeartbeats 4000000 in
set_option maxRecDepth 100000 in
theorem cr_X9_doesMeet (l : Launch) (D : va_G) (ky : Nat → ClassId) (aM mxs mus mys mgp mtp mme mle mlt mkl mln msz mit mmv : Nat) (sz N : Nat)  (mrm : Int32) (mer : Int32) (mtd : Int32) (mat : Int32) (mwr : Int32) (mkn : Int32) (mmb : Int32) (mwa : Int32) (mra : Int32) (mbl : Int32) (mbh : Int32) (dxs : Nat → Int32) (dus : Nat → Int32) (dys : Nat → Int32) (dgp : Nat → Int32) (dtp : Nat → Int32) (dme : Nat → Int32) (dle : Nat → Int32) (dlt : Nat → Int32) (dkl : Nat → Int32) (dln : Nat → Int32) (dsz : Nat → Int32) (dit : Nat → Int32) (dmv : Nat → Int32) (p0 : Int32) (p1 : Int32) (res : Int32) (hF : f_X9_doesMeet N p0 p1 mer dxs dus dys dgp = some res) : MI l yX9_doesMeet wsX9_doesMeet rm_X9_doesMeet D ky sz [.ref aM, .int p0, .int p1] (w_model ky aM mxs mus mys mgp mtp mme mle mlt mkl mln msz mit mmv mrm mer mtd mat mwr mkn mmb mwa mra mbl mbh dxs dus dys dgp dtp dme dle dlt dkl dln dsz dit dmv) (w_model ky aM mxs mus mys mgp mtp mme mle mlt mkl mln msz mit mmv mrm mer mtd mat mwr mkn mmb mwa mra mbl mbh dxs dus dys dgp dtp dme dle dlt dkl dln dsz dit dmv) res := by
  unfold MI
  refine Met.ofW (cc := cX9_doesMeet) (maxL := 3) (ret := (some .boolean)) (by decide) rfl ?_
  intro p e s m args below meth c s₁ B hml hv
  obtain ⟨rfl, hsz, hP, hK, hD0⟩ := hv
  have hx := B.exec
  have hb := B.bytes
  have hr := B.returns
  have hts := atoms_spec (ws := wsX9_doesMeet) B.pre
  have hown : s.vm.findClass RX9 = some m.cls := findClass_of_methodNamed B.named
  have hlocks := B.notSynchronized
  subst hsz
  have hD := hD0.self (sz := s.heap.size)
  generalize hAe : va_A (w_model ky aM mxs mus mys mgp mtp mme mle mlt mkl mln msz mit mmv mrm mer mtd mat mwr mkn mmb mwa mra mbl mbh dxs dus dys dgp dtp dme dle dlt dkl dln dsz dit dmv) s.heap.size = A at hD ⊢
  have hA : ∀ q : Nat, s.heap.size ≤ q → A q := fun q h => by rw [← hAe]; exact Or.inr h
  have hS : va_S A s.heap s.heap [] := va_S.rf
  have hP : va_P D vwCl (w_model ky aM mxs mus mys mgp mtp mme mle mlt mkl mln msz mit mmv mrm mer mtd mat mwr mkn mmb mwa mra mbl mbh dxs dus dys dgp dtp dme dle dlt dkl dln dsz dit dmv) s.heap := hP
  have hl := lv_entry ([.ref aM, .int p0, .int p1]) (n := 3) (Nat.le_of_ble_eq_true rfl)
  rw [lg_entry_eq]
  generalize (lg_sl ([.ref aM, .int p0, .int p1]) ++ List.replicate (3 - (lg_sl ([.ref aM, .int p0, .int p1])).length) Slot.unset).toArray = ls at hl ⊢
  have hl : lv_has ls 3 [(0, .ref aM), (1, .int p0), (2, .int p1)] := hl
  have C : cx p s m c ([.ref aM, .int p0, .int p1]).toArray D ky A cX9_doesMeet 3 wsX9_doesMeet RX9 := ⟨hx, hb, hml, hown, hts, hK, hA⟩
  have hQ : ∀ (pc : Nat) (H : Heap) (locs : List Loc) (ls : Array Slot), decode cX9_doesMeet pc = .ok (.ireturn, 1) → (res = 0 ∨ res = 1) → va_P D vwCl (w_model ky aM mxs mus mys mgp mtp mme mle mlt mkl mln msz mit mmv mrm mer mtd mat mwr mkn mmb mwa mra mbl mbh dxs dus dys dgp dtp dme dle dlt dkl dln dsz dit dmv) H → va_D A (w_model ky aM mxs mus mys mgp mtp mme mle mlt mkl mln msz mit mmv mrm mer mtd mat mwr mkn mmb mwa mra mbl mbh dxs dus dys dgp dtp dme dle dlt dkl dln dsz dit dmv) → va_S A s.heap H locs → W p l e rm_X9_doesMeet s m ([.ref aM, .int p0, .int p1]).toArray below meth c H locs 0 0 (MQ below (va_Qi (S := Unit) (fun r _ => r = res) (fun _ t => va_P D vwCl (w_model ky aM mxs mus mys mgp mtp mme mle mlt mkl mln msz mit mmv mrm mer mtd mat mwr mkn mmb mwa mra mbl mbh dxs dus dys dgp dtp dme dle dlt dkl dln dsz dit dmv) t.heap ∧ va_K D vwCl (tyW ky) t ∧ va_D A (w_model ky aM mxs mus mys mgp mtp mme mle mlt mkl mln msz mit mmv mrm mer mtd mat mwr mkn mmb mwa mra mbl mbh dxs dus dys dgp dtp dme dle dlt dkl dln dsz dit dmv)) A) ([.ref aM, .int p0, .int p1]).toArray s 0 0 A) (F0 m pc ls [.int res]) := fun pc H locs ls hd hz hP hD hS => W.zret hx hb hr (gz_n hz) (fun t ht hW => ⟨⟨res, (), rfl, rfl, by rw [ht]; exact hP, va_K.moved hW.alike hK, hD⟩, hS.F ht⟩) hS.2.2 hd
  unfold f_X9_doesMeet at hF
  refine lv_aload_n hx hb dX9_doesMeet_0 rfl (lv_at hl 0 rfl) ?_
  refine va_get (D := D) (ci := 8) (v := .ref mgp) (C := RX9) (T := TX9) (N := 24) hx hb hts iX9_doesMeet_X9 hown hK hP 0 rfl rfl 4 (by decide) (hts _ kX9_doesMeet_1) (fun _ h9 => h9) rfl dX9_doesMeet_1 ?_
  refine lv_iload_n hx hb dX9_doesMeet_4 rfl (lv_at hl 1 rfl) ?_
  obtain ⟨h1, hF⟩ := gi_s hF
  refine va_zald hx hb hK hP 4 2 rfl rfl h1 dX9_doesMeet_5 ?_
  refine lv_if_ne (tgt := 35) hx hb dX9_doesMeet_6 (by decide) (fun c2 => ?_) (fun c2 => ?_)
  · have hF := if_f c2 hF
    refine lv_iconst (v := (1 : Int32)) hx hb dX9_doesMeet_35 (by decide) ?_
    refine lv_goto (tgt := 40) hx hb dX9_doesMeet_36 (by decide) ?_
    have hF := Option.some.inj hF
    subst hF
    exact hQ _ _ _ _ dX9_doesMeet_40 (Or.inr rfl) hP hD hS
  · have hF := if_t c2 hF
    refine lv_aload_n hx hb dX9_doesMeet_9 rfl (lv_at hl 0 rfl) ?_
    refine lv_iload_n hx hb dX9_doesMeet_10 rfl (lv_at hl 2 rfl) ?_
    refine lv_aload_n hx hb dX9_doesMeet_11 rfl (lv_at hl 0 rfl) ?_
    refine va_get (D := D) (ci := 8) (v := .ref mxs) (C := RX9) (T := TX9) (N := 24) hx hb hts iX9_doesMeet_X9 hown hK hP 0 rfl rfl 1 (by decide) (hts _ kX9_doesMeet_2) (fun _ h9 => h9) rfl dX9_doesMeet_12 ?_
    refine lv_iload_n hx hb dX9_doesMeet_15 rfl (lv_at hl 1 rfl) ?_
    obtain ⟨h3, hF⟩ := gi_s hF
    refine va_iald hx hb hK hP 1 0 rfl rfl h3 dX9_doesMeet_16 ?_
    refine lv_aload_n hx hb dX9_doesMeet_17 rfl (lv_at hl 0 rfl) ?_
    refine va_get (D := D) (ci := 8) (v := .ref mus) (C := RX9) (T := TX9) (N := 24) hx hb hts iX9_doesMeet_X9 hown hK hP 0 rfl rfl 2 (by decide) (hts _ kX9_doesMeet_3) (fun _ h9 => h9) rfl dX9_doesMeet_18 ?_
    refine lv_iload_n hx hb dX9_doesMeet_21 rfl (lv_at hl 1 rfl) ?_
    obtain ⟨h4, hF⟩ := gi_s hF
    refine va_iald hx hb hK hP 2 0 rfl rfl h4 dX9_doesMeet_22 ?_
    refine lv_aload_n hx hb dX9_doesMeet_23 rfl (lv_at hl 0 rfl) ?_
    refine va_get (D := D) (ci := 8) (v := .ref mys) (C := RX9) (T := TX9) (N := 24) hx hb hts iX9_doesMeet_X9 hown hK hP 0 rfl rfl 3 (by decide) (hts _ kX9_doesMeet_4) (fun _ h9 => h9) rfl dX9_doesMeet_24 ?_
    refine lv_iload_n hx hb dX9_doesMeet_27 rfl (lv_at hl 1 rfl) ?_
    obtain ⟨h5, hF⟩ := gi_s hF
    refine va_iald hx hb hK hP 3 0 rfl rfl h5 dX9_doesMeet_28 ?_
    obtain ⟨r7, h6, hF⟩ := b1_s hF
    refine cl_vi (As := [.int p1, .int (dxs p0.toNatClampNeg), .int (dus p0.toNatClampNeg), .int (dys p0.toNatClampNeg)]) (rest := []) (w' := (w_model ky aM mxs mus mys mgp mtp mme mle mlt mkl mln msz mit mmv mrm mer mtd mat mwr mkn mmb mwa mra mbl mbh dxs dus dys dgp dtp dme dle dlt dkl dln dsz dit dmv)) ⟨hx, hb, hml, hown, hts⟩ hK hP hD hS hA (c_X9_fits l D ky aM mxs mus mys mgp mtp mme mle mlt mkl mln msz mit mmv _ N  mrm mer mtd mat mwr mkn mmb mwa mra mbl mbh dxs dus dys dgp dtp dme dle dlt dkl dln dsz dit dmv p1 (dxs p0.toNatClampNeg) (dus p0.toNatClampNeg) (dys p0.toNatClampNeg) r7 h6) (cwV 4 hts gX9_doesMeet_X9_fits rfl rfl rfl (by decide +kernel) ⟨Nat.le_of_ble_eq_true rfl, Nat.le_of_ble_eq_true rfl⟩) [0, 1, 2, 3, 4, 5, 6, 7, 8, 9, 10, 11, 12, 13] [] [0, 1, 2, 3, 4, 5, 6, 7, 8, 9, 10, 11, 12, 13] 0 8 rfl rfl rfl rfl (wr := []) rfl (by decide) rfl rfl hl.1 (Nat.le_of_ble_eq_true rfl) dX9_doesMeet_29 ⟨Nat.zero_le _, Nat.zero_le _⟩ (fun H locs hP hD hS => ?_)
    refine lv_if_eq (tgt := 39) hx hb dX9_doesMeet_32 (by decide) (fun c8 => ?_) (fun c8 => ?_)
    · have hF := if_t c8 hF
      refine lv_iconst (v := (0 : Int32)) hx hb dX9_doesMeet_39 (by decide) ?_
      have hF := Option.some.inj hF
      subst hF
      exact hQ _ _ _ _ dX9_doesMeet_40 (Or.inl rfl) hP hD hS
    · have hF := if_f c8 hF
      refine lv_iconst (v := (1 : Int32)) hx hb dX9_doesMeet_35 (by decide) ?_
      refine lv_goto (tgt := 40) hx hb dX9_doesMeet_36 (by decide) ?_
      have hF := Option.some.inj hF
      subst hF
      exact hQ _ _ _ _ dX9_doesMeet_40 (Or.inr rfl) hP hD hS
theorem c_X9_doesMeet (l : Launch) (D : va_G) (ky : Nat → ClassId) (aM mxs mus mys mgp mtp mme mle mlt mkl mln msz mit mmv : Nat) (sz N : Nat)  (mrm : Int32) (mer : Int32) (mtd : Int32) (mat : Int32) (mwr : Int32) (mkn : Int32) (mmb : Int32) (mwa : Int32) (mra : Int32) (mbl : Int32) (mbh : Int32) (dxs : Nat → Int32) (dus : Nat → Int32) (dys : Nat → Int32) (dgp : Nat → Int32) (dtp : Nat → Int32) (dme : Nat → Int32) (dle : Nat → Int32) (dlt : Nat → Int32) (dkl : Nat → Int32) (dln : Nat → Int32) (dsz : Nat → Int32) (dit : Nat → Int32) (dmv : Nat → Int32) (p0 : Int32) (p1 : Int32) (rv : Int32) (hF : f_X9_doesMeet N p0 p1 mer dxs dus dys dgp = some (rv)) : MI l yX9_doesMeet wsX9_doesMeet rm_X9_doesMeet D ky sz [.ref aM, .int p0, .int p1] (w_model ky aM mxs mus mys mgp mtp mme mle mlt mkl mln msz mit mmv mrm mer mtd mat mwr mkn mmb mwa mra mbl mbh dxs dus dys dgp dtp dme dle dlt dkl dln dsz dit dmv) (w_model ky aM mxs mus mys mgp mtp mme mle mlt mkl mln msz mit mmv mrm mer mtd mat mwr mkn mmb mwa mra mbl mbh dxs dus dys dgp dtp dme dle dlt dkl dln dsz dit dmv) rv :=
  cr_X9_doesMeet l D ky aM mxs mus mys mgp mtp mme mle mlt mkl mln msz mit mmv sz N mrm mer mtd mat mwr mkn mmb mwa mra mbl mbh dxs dus dys dgp dtp dme dle dlt dkl dln dsz dit dmv p0 p1 (rv) hF
abbrev rm_X9_meets : Room := { frames := 3, cells := 0, slots := 0, locals := 72 }
set_option maxHeartbeats 4000000 in
set_option maxRecDepth 100000 in
theorem cr_X9_meets (l : Launch) (D : va_G) (ky : Nat → ClassId) (aM mxs mus mys mgp mtp mme mle mlt mkl mln msz mit mmv : Nat) (sz N : Nat)  (mrm : Int32) (mer : Int32) (mtd : Int32) (mat : Int32) (mwr : Int32) (mkn : Int32) (mmb : Int32) (mwa : Int32) (mra : Int32) (mbl : Int32) (mbh : Int32) (dxs : Nat → Int32) (dus : Nat → Int32) (dys : Nat → Int32) (dgp : Nat → Int32) (dtp : Nat → Int32) (dme : Nat → Int32) (dle : Nat → Int32) (dlt : Nat → Int32) (dkl : Nat → Int32) (dln : Nat → Int32) (dsz : Nat → Int32) (dit : Nat → Int32) (dmv : Nat → Int32) (p0 : Int32) (p1 : Int32) (res : Int32) (hF : f_X9_meets N p0 p1 mrm mer dxs dus dys dgp = some res) : MI l yX9_meets wsX9_meets rm_X9_meets D ky sz [.ref aM, .int p0, .int p1] (w_model ky aM mxs mus mys mgp mtp mme mle mlt mkl mln msz mit mmv mrm mer mtd mat mwr mkn mmb mwa mra mbl mbh dxs dus dys dgp dtp dme dle dlt dkl dln dsz dit dmv) (w_model ky aM mxs mus mys mgp mtp mme mle mlt mkl mln msz mit mmv mrm mer mtd mat mwr mkn mmb mwa mra mbl mbh dxs dus dys dgp dtp dme dle dlt dkl dln dsz dit dmv) res := by
  unfold MI
  refine Met.ofW (cc := cX9_meets) (maxL := 3) (ret := (some .int)) (by decide) rfl ?_
  intro p e s m args below meth c s₁ B hml hv
  obtain ⟨rfl, hsz, hP, hK, hD0⟩ := hv
  have hx := B.exec
  have hb := B.bytes
  have hr := B.returns
  have hts := atoms_spec (ws := wsX9_meets) B.pre
  have hown : s.vm.findClass RX9 = some m.cls := findClass_of_methodNamed B.named
  have hlocks := B.notSynchronized
  subst hsz
  have hD := hD0.self (sz := s.heap.size)
  generalize hAe : va_A (w_model ky aM mxs mus mys mgp mtp mme mle mlt mkl mln msz mit mmv mrm mer mtd mat mwr mkn mmb mwa mra mbl mbh dxs dus dys dgp dtp dme dle dlt dkl dln dsz dit dmv) s.heap.size = A at hD ⊢
  have hA : ∀ q : Nat, s.heap.size ≤ q → A q := fun q h => by rw [← hAe]; exact Or.inr h
  have hS : va_S A s.heap s.heap [] := va_S.rf
  have hP : va_P D vwCl (w_model ky aM mxs mus mys mgp mtp mme mle mlt mkl mln msz mit mmv mrm mer mtd mat mwr mkn mmb mwa mra mbl mbh dxs dus dys dgp dtp dme dle dlt dkl dln dsz dit dmv) s.heap := hP
  have hl := lv_entry ([.ref aM, .int p0, .int p1]) (n := 3) (Nat.le_of_ble_eq_true rfl)
  rw [lg_entry_eq]
  generalize (lg_sl ([.ref aM, .int p0, .int p1]) ++ List.replicate (3 - (lg_sl ([.ref aM, .int p0, .int p1])).length) Slot.unset).toArray = ls at hl ⊢
  have hl : lv_has ls 3 [(0, .ref aM), (1, .int p0), (2, .int p1)] := hl
  have C : cx p s m c ([.ref aM, .int p0, .int p1]).toArray D ky A cX9_meets 3 wsX9_meets RX9 := ⟨hx, hb, hml, hown, hts, hK, hA⟩
  have hQ : ∀ (pc : Nat) (H : Heap) (locs : List Loc) (ls : Array Slot), decode cX9_meets pc = .ok (.ireturn, 1) → va_P D vwCl (w_model ky aM mxs mus mys mgp mtp mme mle mlt mkl mln msz mit mmv mrm mer mtd mat mwr mkn mmb mwa mra mbl mbh dxs dus dys dgp dtp dme dle dlt dkl dln dsz dit dmv) H → va_D A (w_model ky aM mxs mus mys mgp mtp mme mle mlt mkl mln msz mit mmv mrm mer mtd mat mwr mkn mmb mwa mra mbl mbh dxs dus dys dgp dtp dme dle dlt dkl dln dsz dit dmv) → va_S A s.heap H locs → W p l e rm_X9_meets s m ([.ref aM, .int p0, .int p1]).toArray below meth c H locs 0 0 (MQ below (va_Qi (S := Unit) (fun r _ => r = res) (fun _ t => va_P D vwCl (w_model ky aM mxs mus mys mgp mtp mme mle mlt mkl mln msz mit mmv mrm mer mtd mat mwr mkn mmb mwa mra mbl mbh dxs dus dys dgp dtp dme dle dlt dkl dln dsz dit dmv) t.heap ∧ va_K D vwCl (tyW ky) t ∧ va_D A (w_model ky aM mxs mus mys mgp mtp mme mle mlt mkl mln msz mit mmv mrm mer mtd mat mwr mkn mmb mwa mra mbl mbh dxs dus dys dgp dtp dme dle dlt dkl dln dsz dit dmv)) A) ([.ref aM, .int p0, .int p1]).toArray s 0 0 A) (F0 m pc ls [.int res]) := fun pc H locs ls hd hP hD hS => W.iret hx hb hr (fun t ht hW => ⟨⟨res, (), rfl, rfl, by rw [ht]; exact hP, va_K.moved hW.alike hK, hD⟩, hS.F ht⟩) hS.2.2 hd
  unfold f_X9_meets at hF
  refine lv_aload_n hx hb dX9_meets_0 rfl (lv_at hl 0 rfl) ?_
  refine lv_iload_n hx hb dX9_meets_1 rfl (lv_at hl 1 rfl) ?_
  obtain ⟨r2, h1, hF⟩ := b1_s hF
  refine cl_vi (As := [.int p0]) (rest := []) (w' := (w_model ky aM mxs mus mys mgp mtp mme mle mlt mkl mln msz mit mmv mrm mer mtd mat mwr mkn mmb mwa mra mbl mbh dxs dus dys dgp dtp dme dle dlt dkl dln dsz dit dmv)) ⟨hx, hb, hml, hown, hts⟩ hK hP hD hS hA (c_X9_isRow l D ky aM mxs mus mys mgp mtp mme mle mlt mkl mln msz mit mmv _ N  mrm mer mtd mat mwr mkn mmb mwa mra mbl mbh dxs dus dys dgp dtp dme dle dlt dkl dln dsz dit dmv p0 r2 h1) (cwV 1 hts gX9_meets_X9_isRow rfl rfl rfl (by decide +kernel) ⟨Nat.le_of_ble_eq_true rfl, Nat.le_of_ble_eq_true rfl⟩) [0, 1, 2, 3, 4, 5, 6, 7, 8, 9, 10, 11, 12, 13] [] [0, 1, 2, 3, 4, 5, 6, 7, 8, 9, 10, 11, 12, 13] 0 8 rfl rfl rfl rfl (wr := []) rfl (by decide) rfl rfl hl.1 (Nat.le_of_ble_eq_true rfl) dX9_meets_2 ⟨Nat.zero_le _, Nat.zero_le _⟩ (fun H locs hP hD hS => ?_)
  refine lv_if_eq (tgt := 32) hx hb dX9_meets_5 (by decide) (fun c3 => ?_) (fun c3 => ?_)
  · have hF := if_t c3 hF
    refine lv_iconst (v := (-1 : Int32)) hx hb dX9_meets_32 (by decide) ?_
    have hF := Option.some.inj hF
    subst hF
    exact hQ _ _ _ _ dX9_meets_33 hP hD hS
  · have hF := if_f c3 hF
    refine lv_iload_n hx hb dX9_meets_8 rfl (lv_at hl 2 rfl) ?_
    obtain ⟨r5, h4, hF⟩ := b1_s hF
    refine cl_si (As := [.int p1]) (rest := []) ⟨hx, hb, hml, hown, hts⟩ hK hP hD hS hA (c_X9_isLaw l D ky  _ N   p1 r5 h4) (va_cwS 1 hts gX9_meets_X9_isLaw rfl rfl rfl (by decide +kernel) ⟨Nat.le_of_ble_eq_true rfl, Nat.le_of_ble_eq_true rfl⟩) rfl hl.1 (Nat.le_of_ble_eq_true rfl) dX9_meets_9 ⟨Nat.zero_le _, Nat.zero_le _⟩ (fun H locs hP hD hS => ?_)
    refine lv_if_eq (tgt := 32) hx hb dX9_meets_12 (by decide) (fun c6 => ?_) (fun c6 => ?_)
    · have hF := if_t c6 hF
      refine lv_iconst (v := (-1 : Int32)) hx hb dX9_meets_32 (by decide) ?_
      have hF := Option.some.inj hF
      subst hF
      exact hQ _ _ _ _ dX9_meets_33 hP hD hS
    · have hF := if_f c6 hF
      refine lv_aload_n hx hb dX9_meets_15 rfl (lv_at hl 0 rfl) ?_
      refine lv_iload_n hx hb dX9_meets_16 rfl (lv_at hl 1 rfl) ?_
      refine lv_iload_n hx hb dX9_meets_17 rfl (lv_at hl 2 rfl) ?_
      obtain ⟨r8, h7, hF⟩ := b1_s hF
      refine cl_vi (As := [.int p0, .int p1]) (rest := []) (w' := (w_model ky aM mxs mus mys mgp mtp mme mle mlt mkl mln msz mit mmv mrm mer mtd mat mwr mkn mmb mwa mra mbl mbh dxs dus dys dgp dtp dme dle dlt dkl dln dsz dit dmv)) ⟨hx, hb, hml, hown, hts⟩ hK hP hD hS hA (c_X9_doesMeet l D ky aM mxs mus mys mgp mtp mme mle mlt mkl mln msz mit mmv _ N  mrm mer mtd mat mwr mkn mmb mwa mra mbl mbh dxs dus dys dgp dtp dme dle dlt dkl dln dsz dit dmv p0 p1 r8 h7) (cwV 2 hts gX9_meets_X9_doesMeet rfl rfl rfl (by decide +kernel) ⟨Nat.le_of_ble_eq_true rfl, Nat.le_of_ble_eq_true rfl⟩) [0, 1, 2, 3, 4, 5, 6, 7, 8, 9, 10, 11, 12, 13] [] [0, 1, 2, 3, 4, 5, 6, 7, 8, 9, 10, 11, 12, 13] 0 8 rfl rfl rfl rfl (wr := []) rfl (by decide) rfl rfl hl.1 (Nat.le_of_ble_eq_true rfl) dX9_meets_18 ⟨Nat.zero_le _, Nat.zero_le _⟩ (fun H locs hP hD hS => ?_)
      refine lv_if_eq (tgt := 28) hx hb dX9_meets_21 (by decide) (fun c9 => ?_) (fun c9 => ?_)
      · have hF := if_t c9 hF
        refine lv_iconst (v := (0 : Int32)) hx hb dX9_meets_28 (by decide) ?_
        refine lv_goto (tgt := 33) hx hb dX9_meets_29 (by decide) ?_
        have hF := Option.some.inj hF
        subst hF
        exact hQ _ _ _ _ dX9_meets_33 hP hD hS
      · have hF := if_f c9 hF
        refine lv_iconst (v := (1 : Int32)) hx hb dX9_meets_24 (by decide) ?_
        refine lv_goto (tgt := 33) hx hb dX9_meets_25 (by decide) ?_
        have hF := Option.some.inj hF
        subst hF
        exact hQ _ _ _ _ dX9_meets_33 hP hD hS
theorem c_X9_meets (l : Launch) (D : va_G) (ky : Nat → ClassId) (aM mxs mus mys mgp mtp mme mle mlt mkl mln msz mit mmv : Nat) (sz N : Nat)  (mrm : Int32) (mer : Int32) (mtd : Int32) (mat : Int32) (mwr : Int32) (mkn : Int32) (mmb : Int32) (mwa : Int32) (mra : Int32) (mbl : Int32) (mbh : Int32) (dxs : Nat → Int32) (dus : Nat → Int32) (dys : Nat → Int32) (dgp : Nat → Int32) (dtp : Nat → Int32) (dme : Nat → Int32) (dle : Nat → Int32) (dlt : Nat → Int32) (dkl : Nat → Int32) (dln : Nat → Int32) (dsz : Nat → Int32) (dit : Nat → Int32) (dmv : Nat → Int32) (p0 : Int32) (p1 : Int32) (rv : Int32) (hF : f_X9_meets N p0 p1 mrm mer dxs dus dys dgp = some (rv)) : MI l yX9_meets wsX9_meets rm_X9_meets D ky sz [.ref aM, .int p0, .int p1] (w_model ky aM mxs mus mys mgp mtp mme mle mlt mkl mln msz mit mmv mrm mer mtd mat mwr mkn mmb mwa mra mbl mbh dxs dus dys dgp dtp dme dle dlt dkl dln dsz dit dmv) (w_model ky aM mxs mus mys mgp mtp mme mle mlt mkl mln msz mit mmv mrm mer mtd mat mwr mkn mmb mwa mra mbl mbh dxs dus dys dgp dtp dme dle dlt dkl dln dsz dit dmv) rv :=
  cr_X9_meets l D ky aM mxs mus mys mgp mtp mme mle mlt mkl mln msz mit mmv sz N mrm mer mtd mat mwr mkn mmb mwa mra mbl mbh dxs dus dys dgp dtp dme dle dlt dkl dln dsz dit dmv p0 p1 (rv) hF
