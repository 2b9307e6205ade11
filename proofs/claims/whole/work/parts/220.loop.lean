set_option maxHeartbeats 8000000 in
set_option maxRecDepth 100000 in
theorem law_loop {p : Program} {l : Launch} {e : Env} {s : State} {m : MethodId} {below : List Frame} {meth : Method} {c : Code} {D : va_G} {ky : Nat → ClassId} {b L : Nat} {xs : Nat → Int32} {aX aB aP aT aR aK aH aG aS ax au ay am ag al aTb aTn aw ao ak aS0 aS1 aS2 aS3 aI0 aI1 aI2 aI3 aM mxs mus mys mgp mtp mme mle mlt mkl mln msz mit mmv : Nat} (C : lw_Cx p s m c b L xs D ky) (IA : Int32 → Int32 → Int32 → (Nat → Int32) → (Nat → Int32) → (Nat → Int32) → (Nat → Int32) → Int32 → Int32 → (Nat → Int32) → (Nat → Int32) → Int32 → Int32 → Int32 → Int32 → Int32 → (Nat → Int32) → (Nat → Int32) → Int32 → (Nat → Int32) → (Nat → Int32) → Int32 → Int32 → Int32 → Int32 → (Nat → Int32) → Int32 → Int32 → Int32 → Int32 → (Nat → Int32) → (Nat → Int32) → (Nat → Nat → Int32) → Int32 → Int32 → Int32 → Int32 → Int32 → Int32 → Int32 → Int32 → Int32 → Int32 → Int32 → (Nat → Int32) → (Nat → Int32) → (Nat → Int32) → (Nat → Int32) → (Nat → Int32) → (Nat → Int32) → (Nat → Int32) → (Nat → Int32) → (Nat → Int32) → (Nat → Int32) → (Nat → Int32) → (Nat → Int32) → (Nat → Int32) → Prop) (hp_0 : PS_row IA) (hp_1 : PS_gap IA) (hp_2 : PS_rows IA) (hp_3 : PS_type IA) (hp_4 : PS_text IA) (hp_5 : PS_told IA) (hp_6 : PS_clear IA) (hp_7 : PS_error IA) (hp_8 : PS_meets IA) (hp_9 : PS_lets IA) (hp_10 : PS_count IA) (hp_11 : PS_fewest IA) (hp_12 : PS_letGo IA) (hp_13 : PS_together IA) (hp_14 : PS_span IA) (hp_15 : PS_line IA) (hp_16 : PS_hours IA) (hp_17 : PS_wear IA) (hp_18 : PS_check IA) (hp_19 : PS_tries IA) (hp_20 : PS_best IA) (hp_21 : PS_apart IA) (hp_22 : PS_know IA) (hp_23 : PS_box IA) (hp_24 : PS_step IA) (hp_25 : PS_holds IA) (hp_26 : PS_brake IA) (hp_27 : PS_watch IA) (hp_28 : PS_sheet IA) (hp_29 : PS_drop IA) (hp_30 : PS_item IA) (hp_31 : PS_copy IA) (hr : meth.sig.returnType = ret) (hlocks : meth.locks = false) (hL : L ≤ 3072) : ∀ (n i : Nat) (x3 : Int32) (bsz : Int32) (bgp : Int32) (ber : Int32) (bxs : Nat → Int32) (bus : Nat → Int32) (bys : Nat → Int32) (bme : Nat → Int32) (pgc : Int32) (prc : Int32) (pgr : Nat → Int32) (pla : Nat → Int32) (tle : Int32) (tga : Int32) (trr : Int32) (tat : Int32) (tfa : Int32) (tby : Nat → Int32) (tnu : Nat → Int32) (rlc : Int32) (rla : Nat → Int32) (rmo : Nat → Int32) (ksz : Int32) (kmb : Int32) (kwa : Int32) (kra : Int32) (kla : Nat → Int32) (lo : Int32) (hi : Int32) (glo : Int32) (ghi : Int32) (sla : Nat → Int32) (ssz : Nat → Int32) (sit : Nat → Nat → Int32) (mrm : Int32) (mer : Int32) (mtd : Int32) (mat : Int32) (mwr : Int32) (mkn : Int32) (mmb : Int32) (mwa : Int32) (mra : Int32) (mbl : Int32) (mbh : Int32) (dxs : Nat → Int32) (dus : Nat → Int32) (dys : Nat → Int32) (dgp : Nat → Int32) (dtp : Nat → Int32) (dme : Nat → Int32) (dle : Nat → Int32) (dlt : Nat → Int32) (dkl : Nat → Int32) (dln : Nat → Int32) (dsz : Nat → Int32) (dit : Nat → Int32) (dmv : Nat → Int32), L + 6 ≤ i + n → i ≤ L → x3 = nI i → IA bsz bgp ber bxs bus bys bme pgc prc pgr pla tle tga trr tat tfa tby tnu rlc rla rmo ksz kmb kwa kra kla lo hi glo ghi sla ssz sit mrm mer mtd mat mwr mkn mmb mwa mra mbl mbh dxs dus dys dgp dtp dme dle dlt dkl dln dsz dit dmv → ∀ (H : Heap) (locs : List Loc) (ls : Array Slot), va_P D vwCl (w_all ky aX aB aP aT aR aK aH aG aS ax au ay am ag al aTb aTn aw ao ak aS0 aS1 aS2 aS3 aI0 aI1 aI2 aI3 aM mxs mus mys mgp mtp mme mle mlt mkl mln msz mit mmv bsz bgp ber bxs bus bys bme pgc prc pgr pla tle tga trr tat tfa tby tnu rlc rla rmo ksz kmb kwa kra kla lo hi glo ghi sla ssz sit mrm mer mtd mat mwr mkn mmb mwa mra mbl mbh dxs dus dys dgp dtp dme dle dlt dkl dln dsz dit dmv) H → va_D (fun q : Nat => s.heap.size ≤ q) (w_all ky aX aB aP aT aR aK aH aG aS ax au ay am ag al aTb aTn aw ao ak aS0 aS1 aS2 aS3 aI0 aI1 aI2 aI3 aM mxs mus mys mgp mtp mme mle mlt mkl mln msz mit mmv bsz bgp ber bxs bus bys bme pgc prc pgr pla tle tga trr tat tfa tby tnu rlc rla rmo ksz kmb kwa kra kla lo hi glo ghi sla ssz sit mrm mer mtd mat mwr mkn mmb mwa mra mbl mbh dxs dus dys dgp dtp dme dle dlt dkl dln dsz dit dmv) → va_S (fun q : Nat => s.heap.size ≤ q) s.heap H locs → lv_has ls 4 [(0, .ref b), (1, .ref aX), (2, .ref aM), (3, .int x3)] → W p l e room_1 s m #[Value.ref b] below meth c H locs 42 10889 (lw_Z below #[Value.ref b] s) (F0 m 18 ls []) := by
  obtain ⟨hx, hb, hml, hown, hts, hK, hA, hX, hbl, hbA⟩ := id C
  intro n
  induction n with
  | zero =>
    intro i x3 bsz bgp ber bxs bus bys bme pgc prc pgr pla tle tga trr tat tfa tby tnu rlc rla rmo ksz kmb kwa kra kla lo hi glo ghi sla ssz sit mrm mer mtd mat mwr mkn mmb mwa mra mbl mbh dxs dus dys dgp dtp dme dle dlt dkl dln dsz dit dmv h1 h2
    exact absurd h1 (by omega)
  | succ n ih =>
    intro i x3 bsz bgp ber bxs bus bys bme pgc prc pgr pla tle tga trr tat tfa tby tnu rlc rla rmo ksz kmb kwa kra kla lo hi glo ghi sla ssz sit mrm mer mtd mat mwr mkn mmb mwa mra mbl mbh dxs dus dys dgp dtp dme dle dlt dkl dln dsz dit dmv h1 h2 ex hI H locs ls hP hD hS hl
    refine lv_iload_n hx hb dL_law_18 rfl (lv_at hl 3 rfl) ?_
    refine lv_aload_n hx hb dL_law_19 rfl (lv_at hl 0 rfl) ?_
    refine va_slen hx hb hX hbl hbA hS dL_law_20 ?_
    refine lv_bipush (v := (6 : Int32)) hx hb dL_law_21 (by decide) ?_
    refine lv_isub hx hb dL_law_23 ?_
    refine lv_icmp_gt (tgt := 1338) hx hb dL_law_24 (by decide) (fun c1 => ?_) (fun c1 => ?_)
    · refine lv_iconst (v := 1) hx hb dL_law_1338 (by decide) ?_
      refine va_forget (fun q hq => hS.2.2 q hq) ?_
      refine W.widen (k := 600000) (n := 7302250) (Nat.le_of_ble_eq_true rfl) (Nat.le_of_ble_eq_true rfl) ?_
      exact lw_ret hx hb hr hlocks dL_law_1339
    · have hlt : i + 6 ≤ L := law_room hL h2 (by rw [← ex]; exact c1)
      have hidx : ∀ j : Nat, j < 6 → vp_in (x3 + Int32.ofNat j) L := fun j hj => by
        rw [ex]; show vp_in (nI i + nI j) L; rw [nI_add]; exact vp_in_nI (by omega) (by omega)
      have hi0 : vp_in x3 L := by rw [ex]; exact vp_in_nI (by omega) (by omega)
      refine lv_aload_n hx hb dL_law_27 rfl (lv_at hl 0 rfl) ?_
      refine lv_iload_n hx hb dL_law_28 rfl (lv_at hl 3 rfl) ?_
      refine va_sld hx hb hX hbl hbA hS hi0 dL_law_29 ?_
      refine lv_bipush (v := (31 : Int32)) hx hb dL_law_30 (by decide) ?_
      refine lv_iand hx hb dL_law_32 ?_
      refine lv_topi (fun v ev => ?_)
      have hk : ∀ (bsz : Int32) (bgp : Int32) (ber : Int32) (bxs : Nat → Int32) (bus : Nat → Int32) (bys : Nat → Int32) (bme : Nat → Int32) (pgc : Int32) (prc : Int32) (pgr : Nat → Int32) (pla : Nat → Int32) (tle : Int32) (tga : Int32) (trr : Int32) (tat : Int32) (tfa : Int32) (tby : Nat → Int32) (tnu : Nat → Int32) (rlc : Int32) (rla : Nat → Int32) (rmo : Nat → Int32) (ksz : Int32) (kmb : Int32) (kwa : Int32) (kra : Int32) (kla : Nat → Int32) (lo : Int32) (hi : Int32) (glo : Int32) (ghi : Int32) (sla : Nat → Int32) (ssz : Nat → Int32) (sit : Nat → Nat → Int32) (mrm : Int32) (mer : Int32) (mtd : Int32) (mat : Int32) (mwr : Int32) (mkn : Int32) (mmb : Int32) (mwa : Int32) (mra : Int32) (mbl : Int32) (mbh : Int32) (dxs : Nat → Int32) (dus : Nat → Int32) (dys : Nat → Int32) (dgp : Nat → Int32) (dtp : Nat → Int32) (dme : Nat → Int32) (dle : Nat → Int32) (dlt : Nat → Int32) (dkl : Nat → Int32) (dln : Nat → Int32) (dsz : Nat → Int32) (dit : Nat → Int32) (dmv : Nat → Int32), IA bsz bgp ber bxs bus bys bme pgc prc pgr pla tle tga trr tat tfa tby tnu rlc rla rmo ksz kmb kwa kra kla lo hi glo ghi sla ssz sit mrm mer mtd mat mwr mkn mmb mwa mra mbl mbh dxs dus dys dgp dtp dme dle dlt dkl dln dsz dit dmv → ∀ (H : Heap) (locs : List Loc) (ls : Array Slot), va_P D vwCl (w_all ky aX aB aP aT aR aK aH aG aS ax au ay am ag al aTb aTn aw ao ak aS0 aS1 aS2 aS3 aI0 aI1 aI2 aI3 aM mxs mus mys mgp mtp mme mle mlt mkl mln msz mit mmv bsz bgp ber bxs bus bys bme pgc prc pgr pla tle tga trr tat tfa tby tnu rlc rla rmo ksz kmb kwa kra kla lo hi glo ghi sla ssz sit mrm mer mtd mat mwr mkn mmb mwa mra mbl mbh dxs dus dys dgp dtp dme dle dlt dkl dln dsz dit dmv) H → va_D (fun q : Nat => s.heap.size ≤ q) (w_all ky aX aB aP aT aR aK aH aG aS ax au ay am ag al aTb aTn aw ao ak aS0 aS1 aS2 aS3 aI0 aI1 aI2 aI3 aM mxs mus mys mgp mtp mme mle mlt mkl mln msz mit mmv bsz bgp ber bxs bus bys bme pgc prc pgr pla tle tga trr tat tfa tby tnu rlc rla rmo ksz kmb kwa kra kla lo hi glo ghi sla ssz sit mrm mer mtd mat mwr mkn mmb mwa mra mbl mbh dxs dus dys dgp dtp dme dle dlt dkl dln dsz dit dmv) → va_S (fun q : Nat => s.heap.size ≤ q) s.heap H locs → lv_has ls 4 [(0, .ref b), (1, .ref aX), (2, .ref aM), (3, .int x3)] → W p l e room_1 s m #[Value.ref b] below meth c H locs 42 10889 (lw_Z below #[Value.ref b] s) (F0 m 1332 ls []) := by
        intro bsz bgp ber bxs bus bys bme pgc prc pgr pla tle tga trr tat tfa tby tnu rlc rla rmo ksz kmb kwa kra kla lo hi glo ghi sla ssz sit mrm mer mtd mat mwr mkn mmb mwa mra mbl mbh dxs dus dys dgp dtp dme dle dlt dkl dln dsz dit dmv hI H locs ls hP hD hS hl
        refine lv_iinc (v := x3 + (6 : Int32)) (lv' := [(3, .int (x3 + (6 : Int32))), (0, .ref b), (1, .ref aX), (2, .ref aM)]) hx hb dL_law_1332 hl (k := 3) rfl rfl (by decide) rfl (fun ls hl => ?_)
        refine lv_goto (tgt := 18) hx hb dL_law_1335 (by decide) ?_
        exact ih (i + 6) (x3 + (6 : Int32)) bsz bgp ber bxs bus bys bme pgc prc pgr pla tle tga trr tat tfa tby tnu rlc rla rmo ksz kmb kwa kra kla lo hi glo ghi sla ssz sit mrm mer mtd mat mwr mkn mmb mwa mra mbl mbh dxs dus dys dgp dtp dme dle dlt dkl dln dsz dit dmv (by omega) hlt (by rw [ex]; exact nI_add i 6) hI H _ ls hP hD hS (lv_sub hl [1, 2, 3, 0] rfl)
      have hv := law_sw (xs x3.toNatClampNeg)
      rw [← ev] at hv
      clear ev
      rcases hv with hv | hv | hv | hv | hv | hv | hv | hv | hv | hv | hv | hv | hv | hv | hv | hv | hv | hv | hv | hv | hv | hv | hv | hv | hv | hv | hv | hv | hv | hv | hv | hv
      · subst hv
        refine lv_tableIn (tgt := 176) hx hb dL_law_33 (by decide) (by decide) rfl (by decide) ?_
        exact law_case_0 C IA hp_0 x3 hidx hk bsz bgp ber bxs bus bys bme pgc prc pgr pla tle tga trr tat tfa tby tnu rlc rla rmo ksz kmb kwa kra kla lo hi glo ghi sla ssz sit mrm mer mtd mat mwr mkn mmb mwa mra mbl mbh dxs dus dys dgp dtp dme dle dlt dkl dln dsz dit dmv hI H _ ls hP hD hS hl
      · subst hv
        refine lv_tableIn (tgt := 219) hx hb dL_law_33 (by decide) (by decide) rfl (by decide) ?_
        exact law_case_1 C IA hp_1 x3 hidx hk bsz bgp ber bxs bus bys bme pgc prc pgr pla tle tga trr tat tfa tby tnu rlc rla rmo ksz kmb kwa kra kla lo hi glo ghi sla ssz sit mrm mer mtd mat mwr mkn mmb mwa mra mbl mbh dxs dus dys dgp dtp dme dle dlt dkl dln dsz dit dmv hI H _ ls hP hD hS hl
      · subst hv
        refine lv_tableIn (tgt := 252) hx hb dL_law_33 (by decide) (by decide) rfl (by decide) ?_
        exact law_case_2 C IA hp_2 x3 hidx hk bsz bgp ber bxs bus bys bme pgc prc pgr pla tle tga trr tat tfa tby tnu rlc rla rmo ksz kmb kwa kra kla lo hi glo ghi sla ssz sit mrm mer mtd mat mwr mkn mmb mwa mra mbl mbh dxs dus dys dgp dtp dme dle dlt dkl dln dsz dit dmv hI H _ ls hP hD hS hl
      · subst hv
        refine lv_tableIn (tgt := 305) hx hb dL_law_33 (by decide) (by decide) rfl (by decide) ?_
        exact law_case_3 C IA hp_3 x3 hidx hk bsz bgp ber bxs bus bys bme pgc prc pgr pla tle tga trr tat tfa tby tnu rlc rla rmo ksz kmb kwa kra kla lo hi glo ghi sla ssz sit mrm mer mtd mat mwr mkn mmb mwa mra mbl mbh dxs dus dys dgp dtp dme dle dlt dkl dln dsz dit dmv hI H _ ls hP hD hS hl
      · subst hv
        refine lv_tableIn (tgt := 368) hx hb dL_law_33 (by decide) (by decide) rfl (by decide) ?_
        exact law_case_4 C IA hp_4 x3 hidx hk bsz bgp ber bxs bus bys bme pgc prc pgr pla tle tga trr tat tfa tby tnu rlc rla rmo ksz kmb kwa kra kla lo hi glo ghi sla ssz sit mrm mer mtd mat mwr mkn mmb mwa mra mbl mbh dxs dus dys dgp dtp dme dle dlt dkl dln dsz dit dmv hI H _ ls hP hD hS hl
      · subst hv
        refine lv_tableIn (tgt := 381) hx hb dL_law_33 (by decide) (by decide) rfl (by decide) ?_
        exact law_case_5 C IA hp_5 x3 hidx hk bsz bgp ber bxs bus bys bme pgc prc pgr pla tle tga trr tat tfa tby tnu rlc rla rmo ksz kmb kwa kra kla lo hi glo ghi sla ssz sit mrm mer mtd mat mwr mkn mmb mwa mra mbl mbh dxs dus dys dgp dtp dme dle dlt dkl dln dsz dit dmv hI H _ ls hP hD hS hl
      · subst hv
        refine lv_tableIn (tgt := 414) hx hb dL_law_33 (by decide) (by decide) rfl (by decide) ?_
        exact law_case_6 C IA hp_6 x3 hidx hk bsz bgp ber bxs bus bys bme pgc prc pgr pla tle tga trr tat tfa tby tnu rlc rla rmo ksz kmb kwa kra kla lo hi glo ghi sla ssz sit mrm mer mtd mat mwr mkn mmb mwa mra mbl mbh dxs dus dys dgp dtp dme dle dlt dkl dln dsz dit dmv hI H _ ls hP hD hS hl
      · subst hv
        refine lv_tableIn (tgt := 427) hx hb dL_law_33 (by decide) (by decide) rfl (by decide) ?_
        exact law_case_7 C IA hp_7 x3 hidx hk bsz bgp ber bxs bus bys bme pgc prc pgr pla tle tga trr tat tfa tby tnu rlc rla rmo ksz kmb kwa kra kla lo hi glo ghi sla ssz sit mrm mer mtd mat mwr mkn mmb mwa mra mbl mbh dxs dus dys dgp dtp dme dle dlt dkl dln dsz dit dmv hI H _ ls hP hD hS hl
      · subst hv
        refine lv_tableIn (tgt := 450) hx hb dL_law_33 (by decide) (by decide) rfl (by decide) ?_
        exact law_case_8 C IA hp_8 x3 hidx hk bsz bgp ber bxs bus bys bme pgc prc pgr pla tle tga trr tat tfa tby tnu rlc rla rmo ksz kmb kwa kra kla lo hi glo ghi sla ssz sit mrm mer mtd mat mwr mkn mmb mwa mra mbl mbh dxs dus dys dgp dtp dme dle dlt dkl dln dsz dit dmv hI H _ ls hP hD hS hl
      · subst hv
        refine lv_tableIn (tgt := 483) hx hb dL_law_33 (by decide) (by decide) rfl (by decide) ?_
        exact law_case_9 C IA hp_9 x3 hidx hk bsz bgp ber bxs bus bys bme pgc prc pgr pla tle tga trr tat tfa tby tnu rlc rla rmo ksz kmb kwa kra kla lo hi glo ghi sla ssz sit mrm mer mtd mat mwr mkn mmb mwa mra mbl mbh dxs dus dys dgp dtp dme dle dlt dkl dln dsz dit dmv hI H _ ls hP hD hS hl
      · subst hv
        refine lv_tableIn (tgt := 516) hx hb dL_law_33 (by decide) (by decide) rfl (by decide) ?_
        exact law_case_10 C IA hp_10 x3 hidx hk bsz bgp ber bxs bus bys bme pgc prc pgr pla tle tga trr tat tfa tby tnu rlc rla rmo ksz kmb kwa kra kla lo hi glo ghi sla ssz sit mrm mer mtd mat mwr mkn mmb mwa mra mbl mbh dxs dus dys dgp dtp dme dle dlt dkl dln dsz dit dmv hI H _ ls hP hD hS hl
      · subst hv
        refine lv_tableIn (tgt := 539) hx hb dL_law_33 (by decide) (by decide) rfl (by decide) ?_
        exact law_case_11 C IA hp_11 x3 hidx hk bsz bgp ber bxs bus bys bme pgc prc pgr pla tle tga trr tat tfa tby tnu rlc rla rmo ksz kmb kwa kra kla lo hi glo ghi sla ssz sit mrm mer mtd mat mwr mkn mmb mwa mra mbl mbh dxs dus dys dgp dtp dme dle dlt dkl dln dsz dit dmv hI H _ ls hP hD hS hl
      · subst hv
        refine lv_tableIn (tgt := 552) hx hb dL_law_33 (by decide) (by decide) rfl (by decide) ?_
        exact law_case_12 C IA hp_12 x3 hidx hk bsz bgp ber bxs bus bys bme pgc prc pgr pla tle tga trr tat tfa tby tnu rlc rla rmo ksz kmb kwa kra kla lo hi glo ghi sla ssz sit mrm mer mtd mat mwr mkn mmb mwa mra mbl mbh dxs dus dys dgp dtp dme dle dlt dkl dln dsz dit dmv hI H _ ls hP hD hS hl
      · subst hv
        refine lv_tableIn (tgt := 585) hx hb dL_law_33 (by decide) (by decide) rfl (by decide) ?_
        exact law_case_13 C IA hp_13 x3 hidx hk bsz bgp ber bxs bus bys bme pgc prc pgr pla tle tga trr tat tfa tby tnu rlc rla rmo ksz kmb kwa kra kla lo hi glo ghi sla ssz sit mrm mer mtd mat mwr mkn mmb mwa mra mbl mbh dxs dus dys dgp dtp dme dle dlt dkl dln dsz dit dmv hI H _ ls hP hD hS hl
      · subst hv
        refine lv_tableIn (tgt := 618) hx hb dL_law_33 (by decide) (by decide) rfl (by decide) ?_
        exact law_case_14 C IA hp_14 x3 hidx hk bsz bgp ber bxs bus bys bme pgc prc pgr pla tle tga trr tat tfa tby tnu rlc rla rmo ksz kmb kwa kra kla lo hi glo ghi sla ssz sit mrm mer mtd mat mwr mkn mmb mwa mra mbl mbh dxs dus dys dgp dtp dme dle dlt dkl dln dsz dit dmv hI H _ ls hP hD hS hl
      · subst hv
        refine lv_tableIn (tgt := 671) hx hb dL_law_33 (by decide) (by decide) rfl (by decide) ?_
        exact law_case_15 C IA hp_15 x3 hidx hk bsz bgp ber bxs bus bys bme pgc prc pgr pla tle tga trr tat tfa tby tnu rlc rla rmo ksz kmb kwa kra kla lo hi glo ghi sla ssz sit mrm mer mtd mat mwr mkn mmb mwa mra mbl mbh dxs dus dys dgp dtp dme dle dlt dkl dln dsz dit dmv hI H _ ls hP hD hS hl
      · subst hv
        refine lv_tableIn (tgt := 714) hx hb dL_law_33 (by decide) (by decide) rfl (by decide) ?_
        exact law_case_16 C IA hp_16 x3 hidx hk bsz bgp ber bxs bus bys bme pgc prc pgr pla tle tga trr tat tfa tby tnu rlc rla rmo ksz kmb kwa kra kla lo hi glo ghi sla ssz sit mrm mer mtd mat mwr mkn mmb mwa mra mbl mbh dxs dus dys dgp dtp dme dle dlt dkl dln dsz dit dmv hI H _ ls hP hD hS hl
      · subst hv
        refine lv_tableIn (tgt := 747) hx hb dL_law_33 (by decide) (by decide) rfl (by decide) ?_
        exact law_case_17 C IA hp_17 x3 hidx hk bsz bgp ber bxs bus bys bme pgc prc pgr pla tle tga trr tat tfa tby tnu rlc rla rmo ksz kmb kwa kra kla lo hi glo ghi sla ssz sit mrm mer mtd mat mwr mkn mmb mwa mra mbl mbh dxs dus dys dgp dtp dme dle dlt dkl dln dsz dit dmv hI H _ ls hP hD hS hl
      · subst hv
        refine lv_tableIn (tgt := 790) hx hb dL_law_33 (by decide) (by decide) rfl (by decide) ?_
        exact law_case_18 C IA hp_18 x3 hidx hk bsz bgp ber bxs bus bys bme pgc prc pgr pla tle tga trr tat tfa tby tnu rlc rla rmo ksz kmb kwa kra kla lo hi glo ghi sla ssz sit mrm mer mtd mat mwr mkn mmb mwa mra mbl mbh dxs dus dys dgp dtp dme dle dlt dkl dln dsz dit dmv hI H _ ls hP hD hS hl
      · subst hv
        refine lv_tableIn (tgt := 833) hx hb dL_law_33 (by decide) (by decide) rfl (by decide) ?_
        exact law_case_19 C IA hp_19 x3 hidx hk bsz bgp ber bxs bus bys bme pgc prc pgr pla tle tga trr tat tfa tby tnu rlc rla rmo ksz kmb kwa kra kla lo hi glo ghi sla ssz sit mrm mer mtd mat mwr mkn mmb mwa mra mbl mbh dxs dus dys dgp dtp dme dle dlt dkl dln dsz dit dmv hI H _ ls hP hD hS hl
      · subst hv
        refine lv_tableIn (tgt := 876) hx hb dL_law_33 (by decide) (by decide) rfl (by decide) ?_
        exact law_case_20 C IA hp_20 x3 hidx hk bsz bgp ber bxs bus bys bme pgc prc pgr pla tle tga trr tat tfa tby tnu rlc rla rmo ksz kmb kwa kra kla lo hi glo ghi sla ssz sit mrm mer mtd mat mwr mkn mmb mwa mra mbl mbh dxs dus dys dgp dtp dme dle dlt dkl dln dsz dit dmv hI H _ ls hP hD hS hl
      · subst hv
        refine lv_tableIn (tgt := 909) hx hb dL_law_33 (by decide) (by decide) rfl (by decide) ?_
        exact law_case_21 C IA hp_21 x3 hidx hk bsz bgp ber bxs bus bys bme pgc prc pgr pla tle tga trr tat tfa tby tnu rlc rla rmo ksz kmb kwa kra kla lo hi glo ghi sla ssz sit mrm mer mtd mat mwr mkn mmb mwa mra mbl mbh dxs dus dys dgp dtp dme dle dlt dkl dln dsz dit dmv hI H _ ls hP hD hS hl
      · subst hv
        refine lv_tableIn (tgt := 952) hx hb dL_law_33 (by decide) (by decide) rfl (by decide) ?_
        exact law_case_22 C IA hp_22 x3 hidx hk bsz bgp ber bxs bus bys bme pgc prc pgr pla tle tga trr tat tfa tby tnu rlc rla rmo ksz kmb kwa kra kla lo hi glo ghi sla ssz sit mrm mer mtd mat mwr mkn mmb mwa mra mbl mbh dxs dus dys dgp dtp dme dle dlt dkl dln dsz dit dmv hI H _ ls hP hD hS hl
      · subst hv
        refine lv_tableIn (tgt := 975) hx hb dL_law_33 (by decide) (by decide) rfl (by decide) ?_
        exact law_case_23 C IA hp_23 x3 hidx hk bsz bgp ber bxs bus bys bme pgc prc pgr pla tle tga trr tat tfa tby tnu rlc rla rmo ksz kmb kwa kra kla lo hi glo ghi sla ssz sit mrm mer mtd mat mwr mkn mmb mwa mra mbl mbh dxs dus dys dgp dtp dme dle dlt dkl dln dsz dit dmv hI H _ ls hP hD hS hl
      · subst hv
        refine lv_tableIn (tgt := 1008) hx hb dL_law_33 (by decide) (by decide) rfl (by decide) ?_
        exact law_case_24 C IA hp_24 x3 hidx hk bsz bgp ber bxs bus bys bme pgc prc pgr pla tle tga trr tat tfa tby tnu rlc rla rmo ksz kmb kwa kra kla lo hi glo ghi sla ssz sit mrm mer mtd mat mwr mkn mmb mwa mra mbl mbh dxs dus dys dgp dtp dme dle dlt dkl dln dsz dit dmv hI H _ ls hP hD hS hl
      · subst hv
        refine lv_tableIn (tgt := 1031) hx hb dL_law_33 (by decide) (by decide) rfl (by decide) ?_
        exact law_case_25 C IA hp_25 x3 hidx hk bsz bgp ber bxs bus bys bme pgc prc pgr pla tle tga trr tat tfa tby tnu rlc rla rmo ksz kmb kwa kra kla lo hi glo ghi sla ssz sit mrm mer mtd mat mwr mkn mmb mwa mra mbl mbh dxs dus dys dgp dtp dme dle dlt dkl dln dsz dit dmv hI H _ ls hP hD hS hl
      · subst hv
        refine lv_tableIn (tgt := 1054) hx hb dL_law_33 (by decide) (by decide) rfl (by decide) ?_
        exact law_case_26 C IA hp_26 x3 hidx hk bsz bgp ber bxs bus bys bme pgc prc pgr pla tle tga trr tat tfa tby tnu rlc rla rmo ksz kmb kwa kra kla lo hi glo ghi sla ssz sit mrm mer mtd mat mwr mkn mmb mwa mra mbl mbh dxs dus dys dgp dtp dme dle dlt dkl dln dsz dit dmv hI H _ ls hP hD hS hl
      · subst hv
        refine lv_tableIn (tgt := 1107) hx hb dL_law_33 (by decide) (by decide) rfl (by decide) ?_
        exact law_case_27 C IA hp_27 x3 hidx hk bsz bgp ber bxs bus bys bme pgc prc pgr pla tle tga trr tat tfa tby tnu rlc rla rmo ksz kmb kwa kra kla lo hi glo ghi sla ssz sit mrm mer mtd mat mwr mkn mmb mwa mra mbl mbh dxs dus dys dgp dtp dme dle dlt dkl dln dsz dit dmv hI H _ ls hP hD hS hl
      · subst hv
        refine lv_tableIn (tgt := 1150) hx hb dL_law_33 (by decide) (by decide) rfl (by decide) ?_
        exact law_case_28 C IA hp_28 x3 hidx hk bsz bgp ber bxs bus bys bme pgc prc pgr pla tle tga trr tat tfa tby tnu rlc rla rmo ksz kmb kwa kra kla lo hi glo ghi sla ssz sit mrm mer mtd mat mwr mkn mmb mwa mra mbl mbh dxs dus dys dgp dtp dme dle dlt dkl dln dsz dit dmv hI H _ ls hP hD hS hl
      · subst hv
        refine lv_tableIn (tgt := 1193) hx hb dL_law_33 (by decide) (by decide) rfl (by decide) ?_
        exact law_case_29 C IA hp_29 x3 hidx hk bsz bgp ber bxs bus bys bme pgc prc pgr pla tle tga trr tat tfa tby tnu rlc rla rmo ksz kmb kwa kra kla lo hi glo ghi sla ssz sit mrm mer mtd mat mwr mkn mmb mwa mra mbl mbh dxs dus dys dgp dtp dme dle dlt dkl dln dsz dit dmv hI H _ ls hP hD hS hl
      · subst hv
        refine lv_tableIn (tgt := 1216) hx hb dL_law_33 (by decide) (by decide) rfl (by decide) ?_
        exact law_case_30 C IA hp_30 x3 hidx hk bsz bgp ber bxs bus bys bme pgc prc pgr pla tle tga trr tat tfa tby tnu rlc rla rmo ksz kmb kwa kra kla lo hi glo ghi sla ssz sit mrm mer mtd mat mwr mkn mmb mwa mra mbl mbh dxs dus dys dgp dtp dme dle dlt dkl dln dsz dit dmv hI H _ ls hP hD hS hl
      · subst hv
        refine lv_tableIn (tgt := 1269) hx hb dL_law_33 (by decide) (by decide) rfl (by decide) ?_
        exact law_case_31 C IA hp_31 x3 hidx hk bsz bgp ber bxs bus bys bme pgc prc pgr pla tle tga trr tat tfa tby tnu rlc rla rmo ksz kmb kwa kra kla lo hi glo ghi sla ssz sit mrm mer mtd mat mwr mkn mmb mwa mra mbl mbh dxs dus dys dgp dtp dme dle dlt dkl dln dsz dit dmv hI H _ ls hP hD hS hl
