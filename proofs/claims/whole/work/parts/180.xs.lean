def f_X8_sheet (N : Nat) (p0 : Int32) (p1 : Int32) (p2 : Int32) (sla : Nat → Int32) (ssz : Nat → Int32) (sit : Nat → Nat → Int32) : Option (Int32 × (Nat → Int32) × (Nat → Int32) × (Nat → Nat → Int32)) :=
  sh5 p0 (fun k1 => b1 (f_X8_isLane N p1) (fun r3 => (if r3 = 0 then some ((-1 : Int32), sla, ssz, sit) else (if p2 ≤ (36 : Int32) then (if 0 ≤ p2 then b3 (f_X5_become N p1 p2 (sit k1)) (fun v8 v9 v10 => some (p2, (va_up sla k1 v8), (va_up ssz k1 v9), (va_up sit k1 v10))) else some ((-14 : Int32), sla, ssz, sit)) else some ((-1 : Int32), sla, ssz, sit))))) (some ((-1 : Int32), sla, ssz, sit))
def f_X8_drop (N : Nat) (p0 : Int32) (sla : Nat → Int32) (ssz : Nat → Int32) : Option (Int32 × (Nat → Int32) × (Nat → Int32)) :=
  sh5 p0 (fun k1 => b1 (f_X5_isNothing N (sla k1)) (fun r3 => (if r3 = 0 then b3 (f_X5_empty N (ssz k1)) (fun r6 v7 v8 => some (r6, (va_up sla k1 v7), (va_up ssz k1 v8))) else some ((-11 : Int32), sla, ssz)))) (some ((-1 : Int32), sla, ssz))
def f_X8_item (N : Nat) (p0 : Int32) (p1 : Int32) (p2 : Int32) (p3 : Int32) (sla : Nat → Int32) (ssz : Nat → Int32) (sit : Nat → Nat → Int32) : Option (Int32 × (Nat → Nat → Int32)) :=
  sh5 p0 (fun k1 => b1 (f_X8_isLane N p1) (fun r3 => (if r3 = 0 then some ((-1 : Int32), sit) else b1 (f_X5_refusal N p1 p2 (1 : Int32) (sla k1) (ssz k1)) (fun r6 => (if 0 ≤ r6 then b1 (f_X5_put N p2 p3 (sla k1) (ssz k1) (sit k1)) (fun v9 => some ((1 : Int32), (va_up sit k1 v9))) else some (r6, sit)))))) (some ((-1 : Int32), sit))
def b_X8_rows_92 (N : Nat)  (k1 : Nat) (l3 : Int32) (l4 : Int32) (ssz : Nat → Int32) (sit : Nat → Nat → Int32) (ber : Int32) (k92 : Int32 → Int32 → Int32 → (Nat → Int32) → (Nat → Int32) → (Nat → Int32) → (Nat → Int32) → Option (Int32 × Int32 × Int32 × (Nat → Int32) × (Nat → Int32) × (Nat → Int32) × (Nat → Int32))) (l7 : Int32) (bsz : Int32) (bgp : Int32) (bxs : Nat → Int32) (bus : Nat → Int32) (bys : Nat → Int32) (bme : Nat → Int32) : Option (Int32 × Int32 × Int32 × (Nat → Int32) × (Nat → Int32) × (Nat → Int32) × (Nat → Int32)) :=
  (if l4 ≤ l7 then some (l4, bsz, bgp, bxs, bus, bys, bme) else b1 (f_X5_at N (l3 + ((3 : Int32) * l7)) (ssz k1) (sit k1)) (fun r18 => b1 (f_X5_at N ((l3 + ((3 : Int32) * l7)) + (1 : Int32)) (ssz k1) (sit k1)) (fun r20 => b1 (f_X5_at N ((l3 + ((3 : Int32) * l7)) + (2 : Int32)) (ssz k1) (sit k1)) (fun r22 => b7 (f_X0_add N r18 r20 r22 (0 : Int32) bsz bgp ber bxs bus bys bme) (fun r24 v25 v26 v27 v28 v29 v30 => k92 (l7 + (1 : Int32)) v25 v26 v27 v28 v29 v30)))))
def f_X8_rows_92 (N : Nat)  (k1 : Nat) (l3 : Int32) (l4 : Int32) (ssz : Nat → Int32) (sit : Nat → Nat → Int32) (ber : Int32) : Nat → Int32 → Int32 → Int32 → (Nat → Int32) → (Nat → Int32) → (Nat → Int32) → (Nat → Int32) → Option (Int32 × Int32 × Int32 × (Nat → Int32) × (Nat → Int32) × (Nat → Int32) × (Nat → Int32))
  | 0, _, _, _, _, _, _, _ => none
  | n + 1, l7, bsz, bgp, bxs, bus, bys, bme => b_X8_rows_92 N k1 l3 l4 ssz sit ber (f_X8_rows_92 N k1 l3 l4 ssz sit ber n) l7 bsz bgp bxs bus bys bme
def f_X8_rows (N : Nat) (p0 : Int32) (p1 : Int32) (p2 : Int32) (p3 : Int32) (sla : Nat → Int32) (ssz : Nat → Int32) (sit : Nat → Nat → Int32) (bsz : Int32) (bgp : Int32) (ber : Int32) (bxs : Nat → Int32) (bus : Nat → Int32) (bys : Nat → Int32) (bme : Nat → Int32) : Option (Int32 × Int32 × Int32 × (Nat → Int32) × (Nat → Int32) × (Nat → Int32) × (Nat → Int32)) :=
  sh5 p0 (fun k1 => b1 (f_X8_isLane N p1) (fun r3 => (if r3 = 0 then some ((-1 : Int32), bsz, bgp, bxs, bus, bys, bme) else (if p3 < 0 then some ((-1 : Int32), bsz, bgp, bxs, bus, bys, bme) else (if p3 ≤ (12 : Int32) then b1 (f_X5_refusal N p1 p2 ((3 : Int32) * p3) (sla k1) (ssz k1)) (fun r8 => (if 0 ≤ r8 then b1 (f_X5_allWithin N p2 ((3 : Int32) * p3) (-99 : Int32) (99 : Int32) (ssz k1) (sit k1)) (fun r11 => (if r11 = 0 then some ((-2 : Int32), bsz, bgp, bxs, bus, bys, bme) else b1 (f_X0_room N bsz) (fun r14 => (if p3 ≤ r14 then f_X8_rows_92 N k1 p2 p3 ssz sit ber N (0 : Int32) bsz bgp bxs bus bys bme else some ((-3 : Int32), bsz, bgp, bxs, bus, bys, bme))))) else some (r8, bsz, bgp, bxs, bus, bys, bme))) else some ((-1 : Int32), bsz, bgp, bxs, bus, bys, bme)))))) (some ((-1 : Int32), bsz, bgp, bxs, bus, bys, bme))
def b_X8_check_70 (N : Nat)  (k1 : Nat) (l3 : Int32) (ssz : Nat → Int32) (sit : Nat → Nat → Int32) (bsz : Int32) (bme : Nat → Int32) (k70 : Int32 → Option (Int32)) (l6 : Int32) : Option (Int32) :=
  (if (12 : Int32) ≤ l6 then some ((-4 : Int32)) else b1 (f_X0_size N bsz) (fun r17 => b1 (f_X5_placesOf N l6 l3 r17 (ssz k1) (sit k1)) (fun r19 => b1 (f_X0_isWhole N r19 bme) (fun r21 => (if r21 = 0 then some (l6) else k70 (l6 + (1 : Int32)))))))
def f_X8_check_70 (N : Nat)  (k1 : Nat) (l3 : Int32) (ssz : Nat → Int32) (sit : Nat → Nat → Int32) (bsz : Int32) (bme : Nat → Int32) : Nat → Int32 → Option (Int32)
  | 0, _ => none
  | n + 1, l6 => b_X8_check_70 N k1 l3 ssz sit bsz bme (f_X8_check_70 N k1 l3 ssz sit bsz bme n) l6
def f_X8_check (N : Nat) (p0 : Int32) (p1 : Int32) (p2 : Int32) (sla : Nat → Int32) (ssz : Nat → Int32) (sit : Nat → Nat → Int32) (bsz : Int32) (bme : Nat → Int32) : Option (Int32) :=
  sh5 p0 (fun k1 => b1 (f_X8_isLane N p1) (fun r3 => (if r3 = 0 then some ((-1 : Int32)) else b1 (f_X0_size N bsz) (fun r6 => b1 (f_X5_refusal N p1 p2 r6 (sla k1) (ssz k1)) (fun r8 => (if 0 ≤ r8 then b1 (f_X0_size N bsz) (fun r11 => b1 (f_X5_allWithin N p2 r11 (0 : Int32) (11 : Int32) (ssz k1) (sit k1)) (fun r13 => (if r13 = 0 then some ((-2 : Int32)) else f_X8_check_70 N k1 p2 ssz sit bsz bme N (0 : Int32)))) else some (r8))))))) (some ((-1 : Int32)))
abbrev rm_X8_sheet : Room := { frames := 2, cells := 0, slots := 0, locals := 45 }
set_option maxHeartbeats 4000000 in
set_option maxRecDepth 100000 in
theorem cr_X8_sheet (l : Launch) (D : va_G) (ky : Nat → ClassId) (aX aB aP aT aR aK aH aG aS aS0 aS1 aS2 aS3 aI0 aI1 aI2 aI3 : Nat) (sz N : Nat)  (sla : Nat → Int32) (ssz : Nat → Int32) (sit : Nat → Nat → Int32) (p0 : Int32) (p1 : Int32) (p2 : Int32) (res : Int32 × (Nat → Int32) × (Nat → Int32) × (Nat → Nat → Int32)) (hF : f_X8_sheet N p0 p1 p2 sla ssz sit = some res) : MI l yX8_sheet wsX8_sheet rm_X8_sheet D ky sz [.ref aX, .int p0, .int p1, .int p2] (w_xsh ky aX aB aP aT aR aK aH aG aS aS0 aS1 aS2 aS3 aI0 aI1 aI2 aI3 sla ssz sit) (w_xsh ky aX aB aP aT aR aK aH aG aS aS0 aS1 aS2 aS3 aI0 aI1 aI2 aI3 res.2.1 res.2.2.1 res.2.2.2) res.1 := by
  unfold MI
  refine Met.ofW (cc := cX8_sheet) (maxL := 5) (ret := (some .int)) (by decide) rfl ?_
  intro p e s m args below meth c s₁ B hml hv
  obtain ⟨rfl, hsz, hP, hK, hD0⟩ := hv
  have hx := B.exec
  have hb := B.bytes
  have hr := B.returns
  have hts := atoms_spec (ws := wsX8_sheet) B.pre
  have hown : s.vm.findClass RX8 = some m.cls := findClass_of_methodNamed B.named
  have hlocks := B.notSynchronized
  subst hsz
  have hD := hD0.self (sz := s.heap.size)
  generalize hAe : va_A (w_xsh ky aX aB aP aT aR aK aH aG aS aS0 aS1 aS2 aS3 aI0 aI1 aI2 aI3 sla ssz sit) s.heap.size = A at hD ⊢
  have hA : ∀ q : Nat, s.heap.size ≤ q → A q := fun q h => by rw [← hAe]; exact Or.inr h
  have hS : va_S A s.heap s.heap [] := va_S.rf
  have hP : va_P D vwCl (w_xsh ky aX aB aP aT aR aK aH aG aS aS0 aS1 aS2 aS3 aI0 aI1 aI2 aI3 sla ssz sit) s.heap := hP
  have hl := lv_entry ([.ref aX, .int p0, .int p1, .int p2]) (n := 5) (Nat.le_of_ble_eq_true rfl)
  rw [lg_entry_eq]
  generalize (lg_sl ([.ref aX, .int p0, .int p1, .int p2]) ++ List.replicate (5 - (lg_sl ([.ref aX, .int p0, .int p1, .int p2])).length) Slot.unset).toArray = ls at hl ⊢
  have hl : lv_has ls 5 [(0, .ref aX), (1, .int p0), (2, .int p1), (3, .int p2)] := hl
  have C : cx p s m c ([.ref aX, .int p0, .int p1, .int p2]).toArray D ky A cX8_sheet 5 wsX8_sheet RX8 := ⟨hx, hb, hml, hown, hts, hK, hA⟩
  have hQ : ∀ (pc : Nat) (H : Heap) (locs : List Loc) (ls : Array Slot), decode cX8_sheet pc = .ok (.ireturn, 1) → va_P D vwCl (w_xsh ky aX aB aP aT aR aK aH aG aS aS0 aS1 aS2 aS3 aI0 aI1 aI2 aI3 res.2.1 res.2.2.1 res.2.2.2) H → va_D A (w_xsh ky aX aB aP aT aR aK aH aG aS aS0 aS1 aS2 aS3 aI0 aI1 aI2 aI3 res.2.1 res.2.2.1 res.2.2.2) → va_S A s.heap H locs → W p l e rm_X8_sheet s m ([.ref aX, .int p0, .int p1, .int p2]).toArray below meth c H locs 0 0 (MQ below (va_Qi (S := Unit) (fun r _ => r = res.1) (fun _ t => va_P D vwCl (w_xsh ky aX aB aP aT aR aK aH aG aS aS0 aS1 aS2 aS3 aI0 aI1 aI2 aI3 res.2.1 res.2.2.1 res.2.2.2) t.heap ∧ va_K D vwCl (tyW ky) t ∧ va_D A (w_xsh ky aX aB aP aT aR aK aH aG aS aS0 aS1 aS2 aS3 aI0 aI1 aI2 aI3 res.2.1 res.2.2.1 res.2.2.2)) A) ([.ref aX, .int p0, .int p1, .int p2]).toArray s 0 0 A) (F0 m pc ls [.int res.1]) := fun pc H locs ls hd hP hD hS => W.iret hx hb hr (fun t ht hW => ⟨⟨res.1, (), rfl, rfl, by rw [ht]; exact hP, va_K.moved hW.alike hK, hD⟩, hS.F ht⟩) hS.2.2 hd
  unfold f_X8_sheet at hF
  refine lv_aload_n hx hb dX8_sheet_0 rfl (lv_at hl 0 rfl) ?_
  refine lv_iload_n hx hb dX8_sheet_1 rfl (lv_at hl 1 rfl) ?_
  rcases sh5_s hF with ⟨h1, hF⟩ | ⟨h1, hF⟩ | ⟨h1, hF⟩ | ⟨h1, hF⟩ | ⟨h1, hF⟩
  · refine cl_vq (ro := none) (As := [.int p0]) (rest := []) (w' := (w_xsh ky aX aB aP aT aR aK aH aG aS aS0 aS1 aS2 aS3 aI0 aI1 aI2 aI3 sla ssz sit)) ⟨hx, hb, hml, hown, hts⟩ hK hP hD hS hA (c_X8_sheetAt l D ky aX aB aP aT aR aK aH aG aS aS0 aS1 aS2 aS3 _ p0 none (Or.inl ⟨h1, rfl⟩)) (cwV 1 hts gX8_sheet_X8_sheetAt rfl rfl rfl (by decide +kernel) ⟨Nat.le_of_ble_eq_true rfl, Nat.le_of_ble_eq_true rfl⟩) [0, 1] [2, 3, 4, 5, 6, 7, 8, 9] [8, 9, 0, 1, 2, 3, 4, 5, 6, 7] 0 7 rfl rfl rfl rfl (wr := [(aS0, .inr (4, [.ref aI0, .int (sla 0), .int (ssz 0)])), (aI0, .inl (ky 0, 36, .inl (sit 0))), (aS1, .inr (4, [.ref aI1, .int (sla 1), .int (ssz 1)])), (aI1, .inl (ky 0, 36, .inl (sit 1))), (aS2, .inr (4, [.ref aI2, .int (sla 2), .int (ssz 2)])), (aI2, .inl (ky 0, 36, .inl (sit 2))), (aS3, .inr (4, [.ref aI3, .int (sla 3), .int (ssz 3)])), (aI3, .inl (ky 0, 36, .inl (sit 3)))]) rfl (by decide) rfl rfl hl.1 (Nat.le_of_ble_eq_true rfl) dX8_sheet_2 ⟨Nat.zero_le _, Nat.zero_le _⟩ (fun H locs hP hD hS => ?_)
    refine lv_astoreN (lv' := [(4, .null), (0, .ref aX), (1, .int p0), (2, .int p1), (3, .int p2)]) hx hb dX8_sheet_5 hl (by decide) rfl (fun ls hl => ?_)
    refine lv_aloadN hx hb dX8_sheet_7 (lv_at hl 0 rfl) ?_
    refine lv_ifnullN (tgt := 25) hx hb dX8_sheet_9 (by decide) ?_
    refine lv_iconst (v := (-1 : Int32)) hx hb dX8_sheet_25 (by decide) ?_
    have hF := Option.some.inj hF
    subst hF
    exact hQ _ _ _ _ dX8_sheet_26 hP hD hS
  · refine cl_vq (ro := (some aS0)) (As := [.int p0]) (rest := []) (w' := (w_xsh ky aX aB aP aT aR aK aH aG aS aS0 aS1 aS2 aS3 aI0 aI1 aI2 aI3 sla ssz sit)) ⟨hx, hb, hml, hown, hts⟩ hK hP hD hS hA (c_X8_sheetAt l D ky aX aB aP aT aR aK aH aG aS aS0 aS1 aS2 aS3 _ p0 (some aS0) (Or.inr ⟨by rw [h1]; decide, by rw [h1]; rfl⟩)) (cwV 1 hts gX8_sheet_X8_sheetAt rfl rfl rfl (by decide +kernel) ⟨Nat.le_of_ble_eq_true rfl, Nat.le_of_ble_eq_true rfl⟩) [0, 1] [2, 3, 4, 5, 6, 7, 8, 9] [8, 9, 0, 1, 2, 3, 4, 5, 6, 7] 0 7 rfl rfl rfl rfl (wr := [(aS0, .inr (4, [.ref aI0, .int (sla 0), .int (ssz 0)])), (aI0, .inl (ky 0, 36, .inl (sit 0))), (aS1, .inr (4, [.ref aI1, .int (sla 1), .int (ssz 1)])), (aI1, .inl (ky 0, 36, .inl (sit 1))), (aS2, .inr (4, [.ref aI2, .int (sla 2), .int (ssz 2)])), (aI2, .inl (ky 0, 36, .inl (sit 2))), (aS3, .inr (4, [.ref aI3, .int (sla 3), .int (ssz 3)])), (aI3, .inl (ky 0, 36, .inl (sit 3)))]) rfl (by decide) rfl rfl hl.1 (Nat.le_of_ble_eq_true rfl) dX8_sheet_2 ⟨Nat.zero_le _, Nat.zero_le _⟩ (fun H locs hP hD hS => ?_)
    refine lv_astore (lv' := [(4, .ref aS0), (0, .ref aX), (1, .int p0), (2, .int p1), (3, .int p2)]) hx hb dX8_sheet_5 hl (by decide) rfl (fun ls hl => ?_)
    refine lv_aload hx hb dX8_sheet_7 (lv_at hl 0 rfl) ?_
    refine lv_ifnull hx hb dX8_sheet_9 ?_
    refine lv_iload_n hx hb dX8_sheet_12 rfl (lv_at hl 3 rfl) ?_
    obtain ⟨r3, h2, hF⟩ := b1_s hF
    refine cl_si (As := [.int p1]) (rest := []) ⟨hx, hb, hml, hown, hts⟩ hK hP hD hS hA (c_X8_isLane l D ky  _ N   p1 r3 h2) (va_cwS 1 hts gX8_sheet_X8_isLane rfl rfl rfl (by decide +kernel) ⟨Nat.le_of_ble_eq_true rfl, Nat.le_of_ble_eq_true rfl⟩) rfl hl.1 (Nat.le_of_ble_eq_true rfl) dX8_sheet_13 ⟨Nat.zero_le _, Nat.zero_le _⟩ (fun H locs hP hD hS => ?_)
    refine lv_if_eq (tgt := 25) hx hb dX8_sheet_16 (by decide) (fun c4 => ?_) (fun c4 => ?_)
    · have hF := if_t c4 hF
      refine lv_iconst (v := (-1 : Int32)) hx hb dX8_sheet_25 (by decide) ?_
      have hF := Option.some.inj hF
      subst hF
      exact hQ _ _ _ _ dX8_sheet_26 hP hD hS
    · have hF := if_f c4 hF
      refine lv_iload_n hx hb dX8_sheet_19 rfl (lv_at hl 4 rfl) ?_
      refine lv_bipush (v := (36 : Int32)) hx hb dX8_sheet_20 (by decide) ?_
      refine lv_icmp_le (tgt := 27) hx hb dX8_sheet_22 (by decide) (fun c5 => ?_) (fun c5 => ?_)
      · have hF := if_t c5 hF
        refine lv_iload_n hx hb dX8_sheet_27 rfl (lv_at hl 4 rfl) ?_
        refine lv_if_ge (tgt := 34) hx hb dX8_sheet_28 (by decide) (fun c6 => ?_) (fun c6 => ?_)
        · have hF := if_t c6 hF
          refine lv_aload hx hb dX8_sheet_34 (lv_at hl 0 rfl) ?_
          refine lv_iload_n hx hb dX8_sheet_36 rfl (lv_at hl 3 rfl) ?_
          refine lv_iload_n hx hb dX8_sheet_37 rfl (lv_at hl 4 rfl) ?_
          obtain ⟨v8, v9, v10, h7, hF⟩ := b3_s hF
          refine cl_vv (As := [.int p1, .int p2]) (rest := []) (w' := (w_xsh ky aX aB aP aT aR aK aH aG aS aS0 aS1 aS2 aS3 aI0 aI1 aI2 aI3 (va_up sla 0 v8) (va_up ssz 0 v9) (va_up sit 0 v10))) ⟨hx, hb, hml, hown, hts⟩ hK hP hD hS hA (c_X5_become l D ky aS0 aI0 _ N  (sla 0) (ssz 0) (sit 0) p1 p2 v8 v9 v10 h7) (cwV 2 hts gX8_sheet_X5_become rfl rfl rfl (by decide +kernel) ⟨Nat.le_of_ble_eq_true rfl, Nat.le_of_ble_eq_true rfl⟩) [2, 3] [0, 1, 4, 5, 6, 7, 8, 9] [0, 1, 8, 9, 2, 3, 4, 5, 6, 7] 0 4 rfl rfl rfl rfl (wr := [(aX, .inr (7, [.ref aB, .ref aP, .ref aT, .ref aR, .ref aK, .ref aH, .ref aG, .ref aS])), (aS, .inl (ky 3, 4, .inr (.inr (.inr (.inr (shf aS0 aS1 aS2 aS3)))))), (aS1, .inr (4, [.ref aI1, .int (sla 1), .int (ssz 1)])), (aI1, .inl (ky 0, 36, .inl (sit 1))), (aS2, .inr (4, [.ref aI2, .int (sla 2), .int (ssz 2)])), (aI2, .inl (ky 0, 36, .inl (sit 2))), (aS3, .inr (4, [.ref aI3, .int (sla 3), .int (ssz 3)])), (aI3, .inl (ky 0, 36, .inl (sit 3)))]) rfl (by decide) rfl rfl hl.1 (Nat.le_of_ble_eq_true rfl) dX8_sheet_38 ⟨Nat.zero_le _, Nat.zero_le _⟩ (fun H locs hP hD hS => ?_)
          refine lv_iload_n hx hb dX8_sheet_41 rfl (lv_at hl 4 rfl) ?_
          have hF := Option.some.inj hF
          subst hF
          exact hQ _ _ _ _ dX8_sheet_42 hP hD hS
        · have hF := if_f c6 hF
          refine lv_bipush (v := (-14 : Int32)) hx hb dX8_sheet_31 (by decide) ?_
          have hF := Option.some.inj hF
          subst hF
          exact hQ _ _ _ _ dX8_sheet_33 hP hD hS
      · have hF := if_f c5 hF
        refine lv_iconst (v := (-1 : Int32)) hx hb dX8_sheet_25 (by decide) ?_
        have hF := Option.some.inj hF
        subst hF
        exact hQ _ _ _ _ dX8_sheet_26 hP hD hS
  · refine cl_vq (ro := (some aS1)) (As := [.int p0]) (rest := []) (w' := (w_xsh ky aX aB aP aT aR aK aH aG aS aS0 aS1 aS2 aS3 aI0 aI1 aI2 aI3 sla ssz sit)) ⟨hx, hb, hml, hown, hts⟩ hK hP hD hS hA (c_X8_sheetAt l D ky aX aB aP aT aR aK aH aG aS aS0 aS1 aS2 aS3 _ p0 (some aS1) (Or.inr ⟨by rw [h1]; decide, by rw [h1]; rfl⟩)) (cwV 1 hts gX8_sheet_X8_sheetAt rfl rfl rfl (by decide +kernel) ⟨Nat.le_of_ble_eq_true rfl, Nat.le_of_ble_eq_true rfl⟩) [0, 1] [2, 3, 4, 5, 6, 7, 8, 9] [8, 9, 0, 1, 2, 3, 4, 5, 6, 7] 0 7 rfl rfl rfl rfl (wr := [(aS0, .inr (4, [.ref aI0, .int (sla 0), .int (ssz 0)])), (aI0, .inl (ky 0, 36, .inl (sit 0))), (aS1, .inr (4, [.ref aI1, .int (sla 1), .int (ssz 1)])), (aI1, .inl (ky 0, 36, .inl (sit 1))), (aS2, .inr (4, [.ref aI2, .int (sla 2), .int (ssz 2)])), (aI2, .inl (ky 0, 36, .inl (sit 2))), (aS3, .inr (4, [.ref aI3, .int (sla 3), .int (ssz 3)])), (aI3, .inl (ky 0, 36, .inl (sit 3)))]) rfl (by decide) rfl rfl hl.1 (Nat.le_of_ble_eq_true rfl) dX8_sheet_2 ⟨Nat.zero_le _, Nat.zero_le _⟩ (fun H locs hP hD hS => ?_)
    refine lv_astore (lv' := [(4, .ref aS1), (0, .ref aX), (1, .int p0), (2, .int p1), (3, .int p2)]) hx hb dX8_sheet_5 hl (by decide) rfl (fun ls hl => ?_)
    refine lv_aload hx hb dX8_sheet_7 (lv_at hl 0 rfl) ?_
    refine lv_ifnull hx hb dX8_sheet_9 ?_
    refine lv_iload_n hx hb dX8_sheet_12 rfl (lv_at hl 3 rfl) ?_
    obtain ⟨r12, h11, hF⟩ := b1_s hF
    refine cl_si (As := [.int p1]) (rest := []) ⟨hx, hb, hml, hown, hts⟩ hK hP hD hS hA (c_X8_isLane l D ky  _ N   p1 r12 h11) (va_cwS 1 hts gX8_sheet_X8_isLane rfl rfl rfl (by decide +kernel) ⟨Nat.le_of_ble_eq_true rfl, Nat.le_of_ble_eq_true rfl⟩) rfl hl.1 (Nat.le_of_ble_eq_true rfl) dX8_sheet_13 ⟨Nat.zero_le _, Nat.zero_le _⟩ (fun H locs hP hD hS => ?_)
    refine lv_if_eq (tgt := 25) hx hb dX8_sheet_16 (by decide) (fun c13 => ?_) (fun c13 => ?_)
    · have hF := if_t c13 hF
      refine lv_iconst (v := (-1 : Int32)) hx hb dX8_sheet_25 (by decide) ?_
      have hF := Option.some.inj hF
      subst hF
      exact hQ _ _ _ _ dX8_sheet_26 hP hD hS
    · have hF := if_f c13 hF
      refine lv_iload_n hx hb dX8_sheet_19 rfl (lv_at hl 4 rfl) ?_
      refine lv_bipush (v := (36 : Int32)) hx hb dX8_sheet_20 (by decide) ?_
      refine lv_icmp_le (tgt := 27) hx hb dX8_sheet_22 (by decide) (fun c14 => ?_) (fun c14 => ?_)
      · have hF := if_t c14 hF
        refine lv_iload_n hx hb dX8_sheet_27 rfl (lv_at hl 4 rfl) ?_
        refine lv_if_ge (tgt := 34) hx hb dX8_sheet_28 (by decide) (fun c15 => ?_) (fun c15 => ?_)
        · have hF := if_t c15 hF
          refine lv_aload hx hb dX8_sheet_34 (lv_at hl 0 rfl) ?_
          refine lv_iload_n hx hb dX8_sheet_36 rfl (lv_at hl 3 rfl) ?_
          refine lv_iload_n hx hb dX8_sheet_37 rfl (lv_at hl 4 rfl) ?_
          obtain ⟨v17, v18, v19, h16, hF⟩ := b3_s hF
          refine cl_vv (As := [.int p1, .int p2]) (rest := []) (w' := (w_xsh ky aX aB aP aT aR aK aH aG aS aS0 aS1 aS2 aS3 aI0 aI1 aI2 aI3 (va_up sla 1 v17) (va_up ssz 1 v18) (va_up sit 1 v19))) ⟨hx, hb, hml, hown, hts⟩ hK hP hD hS hA (c_X5_become l D ky aS1 aI1 _ N  (sla 1) (ssz 1) (sit 1) p1 p2 v17 v18 v19 h16) (cwV 2 hts gX8_sheet_X5_become rfl rfl rfl (by decide +kernel) ⟨Nat.le_of_ble_eq_true rfl, Nat.le_of_ble_eq_true rfl⟩) [4, 5] [0, 1, 2, 3, 6, 7, 8, 9] [0, 1, 2, 3, 8, 9, 4, 5, 6, 7] 0 4 rfl rfl rfl rfl (wr := [(aX, .inr (7, [.ref aB, .ref aP, .ref aT, .ref aR, .ref aK, .ref aH, .ref aG, .ref aS])), (aS, .inl (ky 3, 4, .inr (.inr (.inr (.inr (shf aS0 aS1 aS2 aS3)))))), (aS0, .inr (4, [.ref aI0, .int (sla 0), .int (ssz 0)])), (aI0, .inl (ky 0, 36, .inl (sit 0))), (aS2, .inr (4, [.ref aI2, .int (sla 2), .int (ssz 2)])), (aI2, .inl (ky 0, 36, .inl (sit 2))), (aS3, .inr (4, [.ref aI3, .int (sla 3), .int (ssz 3)])), (aI3, .inl (ky 0, 36, .inl (sit 3)))]) rfl (by decide) rfl rfl hl.1 (Nat.le_of_ble_eq_true rfl) dX8_sheet_38 ⟨Nat.zero_le _, Nat.zero_le _⟩ (fun H locs hP hD hS => ?_)
          refine lv_iload_n hx hb dX8_sheet_41 rfl (lv_at hl 4 rfl) ?_
          have hF := Option.some.inj hF
          subst hF
          exact hQ _ _ _ _ dX8_sheet_42 hP hD hS
        · have hF := if_f c15 hF
          refine lv_bipush (v := (-14 : Int32)) hx hb dX8_sheet_31 (by decide) ?_
          have hF := Option.some.inj hF
          subst hF
          exact hQ _ _ _ _ dX8_sheet_33 hP hD hS
      · have hF := if_f c14 hF
        refine lv_iconst (v := (-1 : Int32)) hx hb dX8_sheet_25 (by decide) ?_
        have hF := Option.some.inj hF
        subst hF
        exact hQ _ _ _ _ dX8_sheet_26 hP hD hS
  · refine cl_vq (ro := (some aS2)) (As := [.int p0]) (rest := []) (w' := (w_xsh ky aX aB aP aT aR aK aH aG aS aS0 aS1 aS2 aS3 aI0 aI1 aI2 aI3 sla ssz sit)) ⟨hx, hb, hml, hown, hts⟩ hK hP hD hS hA (c_X8_sheetAt l D ky aX aB aP aT aR aK aH aG aS aS0 aS1 aS2 aS3 _ p0 (some aS2) (Or.inr ⟨by rw [h1]; decide, by rw [h1]; rfl⟩)) (cwV 1 hts gX8_sheet_X8_sheetAt rfl rfl rfl (by decide +kernel) ⟨Nat.le_of_ble_eq_true rfl, Nat.le_of_ble_eq_true rfl⟩) [0, 1] [2, 3, 4, 5, 6, 7, 8, 9] [8, 9, 0, 1, 2, 3, 4, 5, 6, 7] 0 7 rfl rfl rfl rfl (wr := [(aS0, .inr (4, [.ref aI0, .int (sla 0), .int (ssz 0)])), (aI0, .inl (ky 0, 36, .inl (sit 0))), (aS1, .inr (4, [.ref aI1, .int (sla 1), .int (ssz 1)])), (aI1, .inl (ky 0, 36, .inl (sit 1))), (aS2, .inr (4, [.ref aI2, .int (sla 2), .int (ssz 2)])), (aI2, .inl (ky 0, 36, .inl (sit 2))), (aS3, .inr (4, [.ref aI3, .int (sla 3), .int (ssz 3)])), (aI3, .inl (ky 0, 36, .inl (sit 3)))]) rfl (by decide) rfl rfl hl.1 (Nat.le_of_ble_eq_true rfl) dX8_sheet_2 ⟨Nat.zero_le _, Nat.zero_le _⟩ (fun H locs hP hD hS => ?_)
    refine lv_astore (lv' := [(4, .ref aS2), (0, .ref aX), (1, .int p0), (2, .int p1), (3, .int p2)]) hx hb dX8_sheet_5 hl (by decide) rfl (fun ls hl => ?_)
    refine lv_aload hx hb dX8_sheet_7 (lv_at hl 0 rfl) ?_
    refine lv_ifnull hx hb dX8_sheet_9 ?_
    refine lv_iload_n hx hb dX8_sheet_12 rfl (lv_at hl 3 rfl) ?_
    obtain ⟨r21, h20, hF⟩ := b1_s hF
    refine cl_si (As := [.int p1]) (rest := []) ⟨hx, hb, hml, hown, hts⟩ hK hP hD hS hA (c_X8_isLane l D ky  _ N   p1 r21 h20) (va_cwS 1 hts gX8_sheet_X8_isLane rfl rfl rfl (by decide +kernel) ⟨Nat.le_of_ble_eq_true rfl, Nat.le_of_ble_eq_true rfl⟩) rfl hl.1 (Nat.le_of_ble_eq_true rfl) dX8_sheet_13 ⟨Nat.zero_le _, Nat.zero_le _⟩ (fun H locs hP hD hS => ?_)
    refine lv_if_eq (tgt := 25) hx hb dX8_sheet_16 (by decide) (fun c22 => ?_) (fun c22 => ?_)
    · have hF := if_t c22 hF
      refine lv_iconst (v := (-1 : Int32)) hx hb dX8_sheet_25 (by decide) ?_
      have hF := Option.some.inj hF
      subst hF
      exact hQ _ _ _ _ dX8_sheet_26 hP hD hS
    · have hF := if_f c22 hF
      refine lv_iload_n hx hb dX8_sheet_19 rfl (lv_at hl 4 rfl) ?_
      refine lv_bipush (v := (36 : Int32)) hx hb dX8_sheet_20 (by decide) ?_
      refine lv_icmp_le (tgt := 27) hx hb dX8_sheet_22 (by decide) (fun c23 => ?_) (fun c23 => ?_)
      · have hF := if_t c23 hF
        refine lv_iload_n hx hb dX8_sheet_27 rfl (lv_at hl 4 rfl) ?_
        refine lv_if_ge (tgt := 34) hx hb dX8_sheet_28 (by decide) (fun c24 => ?_) (fun c24 => ?_)
        · have hF := if_t c24 hF
          refine lv_aload hx hb dX8_sheet_34 (lv_at hl 0 rfl) ?_
          refine lv_iload_n hx hb dX8_sheet_36 rfl (lv_at hl 3 rfl) ?_
          refine lv_iload_n hx hb dX8_sheet_37 rfl (lv_at hl 4 rfl) ?_
          obtain ⟨v26, v27, v28, h25, hF⟩ := b3_s hF
          refine cl_vv (As := [.int p1, .int p2]) (rest := []) (w' := (w_xsh ky aX aB aP aT aR aK aH aG aS aS0 aS1 aS2 aS3 aI0 aI1 aI2 aI3 (va_up sla 2 v26) (va_up ssz 2 v27) (va_up sit 2 v28))) ⟨hx, hb, hml, hown, hts⟩ hK hP hD hS hA (c_X5_become l D ky aS2 aI2 _ N  (sla 2) (ssz 2) (sit 2) p1 p2 v26 v27 v28 h25) (cwV 2 hts gX8_sheet_X5_become rfl rfl rfl (by decide +kernel) ⟨Nat.le_of_ble_eq_true rfl, Nat.le_of_ble_eq_true rfl⟩) [6, 7] [0, 1, 2, 3, 4, 5, 8, 9] [0, 1, 2, 3, 4, 5, 8, 9, 6, 7] 0 4 rfl rfl rfl rfl (wr := [(aX, .inr (7, [.ref aB, .ref aP, .ref aT, .ref aR, .ref aK, .ref aH, .ref aG, .ref aS])), (aS, .inl (ky 3, 4, .inr (.inr (.inr (.inr (shf aS0 aS1 aS2 aS3)))))), (aS0, .inr (4, [.ref aI0, .int (sla 0), .int (ssz 0)])), (aI0, .inl (ky 0, 36, .inl (sit 0))), (aS1, .inr (4, [.ref aI1, .int (sla 1), .int (ssz 1)])), (aI1, .inl (ky 0, 36, .inl (sit 1))), (aS3, .inr (4, [.ref aI3, .int (sla 3), .int (ssz 3)])), (aI3, .inl (ky 0, 36, .inl (sit 3)))]) rfl (by decide) rfl rfl hl.1 (Nat.le_of_ble_eq_true rfl) dX8_sheet_38 ⟨Nat.zero_le _, Nat.zero_le _⟩ (fun H locs hP hD hS => ?_)
          refine lv_iload_n hx hb dX8_sheet_41 rfl (lv_at hl 4 rfl) ?_
          have hF := Option.some.inj hF
          subst hF
          exact hQ _ _ _ _ dX8_sheet_42 hP hD hS
        · have hF := if_f c24 hF
          refine lv_bipush (v := (-14 : Int32)) hx hb dX8_sheet_31 (by decide) ?_
          have hF := Option.some.inj hF
          subst hF
          exact hQ _ _ _ _ dX8_sheet_33 hP hD hS
      · have hF := if_f c23 hF
        refine lv_iconst (v := (-1 : Int32)) hx hb dX8_sheet_25 (by decide) ?_
        have hF := Option.some.inj hF
        subst hF
        exact hQ _ _ _ _ dX8_sheet_26 hP hD hS
  · refine cl_vq (ro := (some aS3)) (As := [.int p0]) (rest := []) (w' := (w_xsh ky aX aB aP aT aR aK aH aG aS aS0 aS1 aS2 aS3 aI0 aI1 aI2 aI3 sla ssz sit)) ⟨hx, hb, hml, hown, hts⟩ hK hP hD hS hA (c_X8_sheetAt l D ky aX aB aP aT aR aK aH aG aS aS0 aS1 aS2 aS3 _ p0 (some aS3) (Or.inr ⟨by rw [h1]; decide, by rw [h1]; rfl⟩)) (cwV 1 hts gX8_sheet_X8_sheetAt rfl rfl rfl (by decide +kernel) ⟨Nat.le_of_ble_eq_true rfl, Nat.le_of_ble_eq_true rfl⟩) [0, 1] [2, 3, 4, 5, 6, 7, 8, 9] [8, 9, 0, 1, 2, 3, 4, 5, 6, 7] 0 7 rfl rfl rfl rfl (wr := [(aS0, .inr (4, [.ref aI0, .int (sla 0), .int (ssz 0)])), (aI0, .inl (ky 0, 36, .inl (sit 0))), (aS1, .inr (4, [.ref aI1, .int (sla 1), .int (ssz 1)])), (aI1, .inl (ky 0, 36, .inl (sit 1))), (aS2, .inr (4, [.ref aI2, .int (sla 2), .int (ssz 2)])), (aI2, .inl (ky 0, 36, .inl (sit 2))), (aS3, .inr (4, [.ref aI3, .int (sla 3), .int (ssz 3)])), (aI3, .inl (ky 0, 36, .inl (sit 3)))]) rfl (by decide) rfl rfl hl.1 (Nat.le_of_ble_eq_true rfl) dX8_sheet_2 ⟨Nat.zero_le _, Nat.zero_le _⟩ (fun H locs hP hD hS => ?_)
    refine lv_astore (lv' := [(4, .ref aS3), (0, .ref aX), (1, .int p0), (2, .int p1), (3, .int p2)]) hx hb dX8_sheet_5 hl (by decide) rfl (fun ls hl => ?_)
    refine lv_aload hx hb dX8_sheet_7 (lv_at hl 0 rfl) ?_
    refine lv_ifnull hx hb dX8_sheet_9 ?_
    refine lv_iload_n hx hb dX8_sheet_12 rfl (lv_at hl 3 rfl) ?_
    obtain ⟨r30, h29, hF⟩ := b1_s hF
    refine cl_si (As := [.int p1]) (rest := []) ⟨hx, hb, hml, hown, hts⟩ hK hP hD hS hA (c_X8_isLane l D ky  _ N   p1 r30 h29) (va_cwS 1 hts gX8_sheet_X8_isLane rfl rfl rfl (by decide +kernel) ⟨Nat.le_of_ble_eq_true rfl, Nat.le_of_ble_eq_true rfl⟩) rfl hl.1 (Nat.le_of_ble_eq_true rfl) dX8_sheet_13 ⟨Nat.zero_le _, Nat.zero_le _⟩ (fun H locs hP hD hS => ?_)
    refine lv_if_eq (tgt := 25) hx hb dX8_sheet_16 (by decide) (fun c31 => ?_) (fun c31 => ?_)
    · have hF := if_t c31 hF
      refine lv_iconst (v := (-1 : Int32)) hx hb dX8_sheet_25 (by decide) ?_
      have hF := Option.some.inj hF
      subst hF
      exact hQ _ _ _ _ dX8_sheet_26 hP hD hS
    · have hF := if_f c31 hF
      refine lv_iload_n hx hb dX8_sheet_19 rfl (lv_at hl 4 rfl) ?_
      refine lv_bipush (v := (36 : Int32)) hx hb dX8_sheet_20 (by decide) ?_
      refine lv_icmp_le (tgt := 27) hx hb dX8_sheet_22 (by decide) (fun c32 => ?_) (fun c32 => ?_)
      · have hF := if_t c32 hF
        refine lv_iload_n hx hb dX8_sheet_27 rfl (lv_at hl 4 rfl) ?_
        refine lv_if_ge (tgt := 34) hx hb dX8_sheet_28 (by decide) (fun c33 => ?_) (fun c33 => ?_)
        · have hF := if_t c33 hF
          refine lv_aload hx hb dX8_sheet_34 (lv_at hl 0 rfl) ?_
          refine lv_iload_n hx hb dX8_sheet_36 rfl (lv_at hl 3 rfl) ?_
          refine lv_iload_n hx hb dX8_sheet_37 rfl (lv_at hl 4 rfl) ?_
          obtain ⟨v35, v36, v37, h34, hF⟩ := b3_s hF
          refine cl_vv (As := [.int p1, .int p2]) (rest := []) (w' := (w_xsh ky aX aB aP aT aR aK aH aG aS aS0 aS1 aS2 aS3 aI0 aI1 aI2 aI3 (va_up sla 3 v35) (va_up ssz 3 v36) (va_up sit 3 v37))) ⟨hx, hb, hml, hown, hts⟩ hK hP hD hS hA (c_X5_become l D ky aS3 aI3 _ N  (sla 3) (ssz 3) (sit 3) p1 p2 v35 v36 v37 h34) (cwV 2 hts gX8_sheet_X5_become rfl rfl rfl (by decide +kernel) ⟨Nat.le_of_ble_eq_true rfl, Nat.le_of_ble_eq_true rfl⟩) [8, 9] [0, 1, 2, 3, 4, 5, 6, 7] [0, 1, 2, 3, 4, 5, 6, 7, 8, 9] 0 4 rfl rfl rfl rfl (wr := [(aX, .inr (7, [.ref aB, .ref aP, .ref aT, .ref aR, .ref aK, .ref aH, .ref aG, .ref aS])), (aS, .inl (ky 3, 4, .inr (.inr (.inr (.inr (shf aS0 aS1 aS2 aS3)))))), (aS0, .inr (4, [.ref aI0, .int (sla 0), .int (ssz 0)])), (aI0, .inl (ky 0, 36, .inl (sit 0))), (aS1, .inr (4, [.ref aI1, .int (sla 1), .int (ssz 1)])), (aI1, .inl (ky 0, 36, .inl (sit 1))), (aS2, .inr (4, [.ref aI2, .int (sla 2), .int (ssz 2)])), (aI2, .inl (ky 0, 36, .inl (sit 2)))]) rfl (by decide) rfl rfl hl.1 (Nat.le_of_ble_eq_true rfl) dX8_sheet_38 ⟨Nat.zero_le _, Nat.zero_le _⟩ (fun H locs hP hD hS => ?_)
          refine lv_iload_n hx hb dX8_sheet_41 rfl (lv_at hl 4 rfl) ?_
          have hF := Option.some.inj hF
          subst hF
          exact hQ _ _ _ _ dX8_sheet_42 hP hD hS
        · have hF := if_f c33 hF
          refine lv_bipush (v := (-14 : Int32)) hx hb dX8_sheet_31 (by decide) ?_
          have hF := Option.some.inj hF
          subst hF
          exact hQ _ _ _ _ dX8_sheet_33 hP hD hS
      · have hF := if_f c32 hF
        refine lv_iconst (v := (-1 : Int32)) hx hb dX8_sheet_25 (by decide) ?_
        have hF := Option.some.inj hF
        subst hF
        exact hQ _ _ _ _ dX8_sheet_26 hP hD hS
theorem c_X8_sheet (l : Launch) (D : va_G) (ky : Nat → ClassId) (aX aB aP aT aR aK aH aG aS aS0 aS1 aS2 aS3 aI0 aI1 aI2 aI3 : Nat) (sz N : Nat)  (sla : Nat → Int32) (ssz : Nat → Int32) (sit : Nat → Nat → Int32) (p0 : Int32) (p1 : Int32) (p2 : Int32) (rv : Int32) (sla' : Nat → Int32) (ssz' : Nat → Int32) (sit' : Nat → Nat → Int32) (hF : f_X8_sheet N p0 p1 p2 sla ssz sit = some (rv, sla', ssz', sit')) : MI l yX8_sheet wsX8_sheet rm_X8_sheet D ky sz [.ref aX, .int p0, .int p1, .int p2] (w_xsh ky aX aB aP aT aR aK aH aG aS aS0 aS1 aS2 aS3 aI0 aI1 aI2 aI3 sla ssz sit) (w_xsh ky aX aB aP aT aR aK aH aG aS aS0 aS1 aS2 aS3 aI0 aI1 aI2 aI3 sla' ssz' sit') rv :=
  cr_X8_sheet l D ky aX aB aP aT aR aK aH aG aS aS0 aS1 aS2 aS3 aI0 aI1 aI2 aI3 sz N sla ssz sit p0 p1 p2 (rv, sla', ssz', sit') hF
abbrev rm_X8_drop : Room := { frames := 1, cells := 0, slots := 0, locals := 21 }
set_option maxHeartbeats 4000000 in
set_option maxRecDepth 100000 in
theorem cr_X8_drop (l : Launch) (D : va_G) (ky : Nat → ClassId) (aX aB aP aT aR aK aH aG aS aS0 aS1 aS2 aS3 aI0 aI1 aI2 aI3 : Nat) (sz N : Nat)  (sla : Nat → Int32) (ssz : Nat → Int32) (sit : Nat → Nat → Int32) (p0 : Int32) (res : Int32 × (Nat → Int32) × (Nat → Int32)) (hF : f_X8_drop N p0 sla ssz = some res) : MI l yX8_drop wsX8_drop rm_X8_drop D ky sz [.ref aX, .int p0] (w_xsh ky aX aB aP aT aR aK aH aG aS aS0 aS1 aS2 aS3 aI0 aI1 aI2 aI3 sla ssz sit) (w_xsh ky aX aB aP aT aR aK aH aG aS aS0 aS1 aS2 aS3 aI0 aI1 aI2 aI3 res.2.1 res.2.2 sit) res.1 := by
  unfold MI
  refine Met.ofW (cc := cX8_drop) (maxL := 3) (ret := (some .int)) (by decide) rfl ?_
  intro p e s m args below meth c s₁ B hml hv
  obtain ⟨rfl, hsz, hP, hK, hD0⟩ := hv
  have hx := B.exec
  have hb := B.bytes
  have hr := B.returns
  have hts := atoms_spec (ws := wsX8_drop) B.pre
  have hown : s.vm.findClass RX8 = some m.cls := findClass_of_methodNamed B.named
  have hlocks := B.notSynchronized
  subst hsz
  have hD := hD0.self (sz := s.heap.size)
  generalize hAe : va_A (w_xsh ky aX aB aP aT aR aK aH aG aS aS0 aS1 aS2 aS3 aI0 aI1 aI2 aI3 sla ssz sit) s.heap.size = A at hD ⊢
  have hA : ∀ q : Nat, s.heap.size ≤ q → A q := fun q h => by rw [← hAe]; exact Or.inr h
  have hS : va_S A s.heap s.heap [] := va_S.rf
  have hP : va_P D vwCl (w_xsh ky aX aB aP aT aR aK aH aG aS aS0 aS1 aS2 aS3 aI0 aI1 aI2 aI3 sla ssz sit) s.heap := hP
  have hl := lv_entry ([.ref aX, .int p0]) (n := 3) (Nat.le_of_ble_eq_true rfl)
  rw [lg_entry_eq]
  generalize (lg_sl ([.ref aX, .int p0]) ++ List.replicate (3 - (lg_sl ([.ref aX, .int p0])).length) Slot.unset).toArray = ls at hl ⊢
  have hl : lv_has ls 3 [(0, .ref aX), (1, .int p0)] := hl
  have C : cx p s m c ([.ref aX, .int p0]).toArray D ky A cX8_drop 3 wsX8_drop RX8 := ⟨hx, hb, hml, hown, hts, hK, hA⟩
  have hQ : ∀ (pc : Nat) (H : Heap) (locs : List Loc) (ls : Array Slot), decode cX8_drop pc = .ok (.ireturn, 1) → va_P D vwCl (w_xsh ky aX aB aP aT aR aK aH aG aS aS0 aS1 aS2 aS3 aI0 aI1 aI2 aI3 res.2.1 res.2.2 sit) H → va_D A (w_xsh ky aX aB aP aT aR aK aH aG aS aS0 aS1 aS2 aS3 aI0 aI1 aI2 aI3 res.2.1 res.2.2 sit) → va_S A s.heap H locs → W p l e rm_X8_drop s m ([.ref aX, .int p0]).toArray below meth c H locs 0 0 (MQ below (va_Qi (S := Unit) (fun r _ => r = res.1) (fun _ t => va_P D vwCl (w_xsh ky aX aB aP aT aR aK aH aG aS aS0 aS1 aS2 aS3 aI0 aI1 aI2 aI3 res.2.1 res.2.2 sit) t.heap ∧ va_K D vwCl (tyW ky) t ∧ va_D A (w_xsh ky aX aB aP aT aR aK aH aG aS aS0 aS1 aS2 aS3 aI0 aI1 aI2 aI3 res.2.1 res.2.2 sit)) A) ([.ref aX, .int p0]).toArray s 0 0 A) (F0 m pc ls [.int res.1]) := fun pc H locs ls hd hP hD hS => W.iret hx hb hr (fun t ht hW => ⟨⟨res.1, (), rfl, rfl, by rw [ht]; exact hP, va_K.moved hW.alike hK, hD⟩, hS.F ht⟩) hS.2.2 hd
  unfold f_X8_drop at hF
  refine lv_aload_n hx hb dX8_drop_0 rfl (lv_at hl 0 rfl) ?_
  refine lv_iload_n hx hb dX8_drop_1 rfl (lv_at hl 1 rfl) ?_
  rcases sh5_s hF with ⟨h1, hF⟩ | ⟨h1, hF⟩ | ⟨h1, hF⟩ | ⟨h1, hF⟩ | ⟨h1, hF⟩
  · refine cl_vq (ro := none) (As := [.int p0]) (rest := []) (w' := (w_xsh ky aX aB aP aT aR aK aH aG aS aS0 aS1 aS2 aS3 aI0 aI1 aI2 aI3 sla ssz sit)) ⟨hx, hb, hml, hown, hts⟩ hK hP hD hS hA (c_X8_sheetAt l D ky aX aB aP aT aR aK aH aG aS aS0 aS1 aS2 aS3 _ p0 none (Or.inl ⟨h1, rfl⟩)) (cwV 1 hts gX8_drop_X8_sheetAt rfl rfl rfl (by decide +kernel) ⟨Nat.le_of_ble_eq_true rfl, Nat.le_of_ble_eq_true rfl⟩) [0, 1] [2, 3, 4, 5, 6, 7, 8, 9] [8, 9, 0, 1, 2, 3, 4, 5, 6, 7] 0 7 rfl rfl rfl rfl (wr := [(aS0, .inr (4, [.ref aI0, .int (sla 0), .int (ssz 0)])), (aI0, .inl (ky 0, 36, .inl (sit 0))), (aS1, .inr (4, [.ref aI1, .int (sla 1), .int (ssz 1)])), (aI1, .inl (ky 0, 36, .inl (sit 1))), (aS2, .inr (4, [.ref aI2, .int (sla 2), .int (ssz 2)])), (aI2, .inl (ky 0, 36, .inl (sit 2))), (aS3, .inr (4, [.ref aI3, .int (sla 3), .int (ssz 3)])), (aI3, .inl (ky 0, 36, .inl (sit 3)))]) rfl (by decide) rfl rfl hl.1 (Nat.le_of_ble_eq_true rfl) dX8_drop_2 ⟨Nat.zero_le _, Nat.zero_le _⟩ (fun H locs hP hD hS => ?_)
    refine lv_astore_nN (lv' := [(2, .null), (0, .ref aX), (1, .int p0)]) hx hb dX8_drop_5 rfl hl (by decide) rfl (fun ls hl => ?_)
    refine lv_aload_nN hx hb dX8_drop_6 rfl (lv_at hl 0 rfl) ?_
    refine lv_ifnonnullN hx hb dX8_drop_7 ?_
    refine lv_iconst (v := (-1 : Int32)) hx hb dX8_drop_10 (by decide) ?_
    have hF := Option.some.inj hF
    subst hF
    exact hQ _ _ _ _ dX8_drop_11 hP hD hS
  · refine cl_vq (ro := (some aS0)) (As := [.int p0]) (rest := []) (w' := (w_xsh ky aX aB aP aT aR aK aH aG aS aS0 aS1 aS2 aS3 aI0 aI1 aI2 aI3 sla ssz sit)) ⟨hx, hb, hml, hown, hts⟩ hK hP hD hS hA (c_X8_sheetAt l D ky aX aB aP aT aR aK aH aG aS aS0 aS1 aS2 aS3 _ p0 (some aS0) (Or.inr ⟨by rw [h1]; decide, by rw [h1]; rfl⟩)) (cwV 1 hts gX8_drop_X8_sheetAt rfl rfl rfl (by decide +kernel) ⟨Nat.le_of_ble_eq_true rfl, Nat.le_of_ble_eq_true rfl⟩) [0, 1] [2, 3, 4, 5, 6, 7, 8, 9] [8, 9, 0, 1, 2, 3, 4, 5, 6, 7] 0 7 rfl rfl rfl rfl (wr := [(aS0, .inr (4, [.ref aI0, .int (sla 0), .int (ssz 0)])), (aI0, .inl (ky 0, 36, .inl (sit 0))), (aS1, .inr (4, [.ref aI1, .int (sla 1), .int (ssz 1)])), (aI1, .inl (ky 0, 36, .inl (sit 1))), (aS2, .inr (4, [.ref aI2, .int (sla 2), .int (ssz 2)])), (aI2, .inl (ky 0, 36, .inl (sit 2))), (aS3, .inr (4, [.ref aI3, .int (sla 3), .int (ssz 3)])), (aI3, .inl (ky 0, 36, .inl (sit 3)))]) rfl (by decide) rfl rfl hl.1 (Nat.le_of_ble_eq_true rfl) dX8_drop_2 ⟨Nat.zero_le _, Nat.zero_le _⟩ (fun H locs hP hD hS => ?_)
    refine lv_astore_n (lv' := [(2, .ref aS0), (0, .ref aX), (1, .int p0)]) hx hb dX8_drop_5 rfl hl (by decide) rfl (fun ls hl => ?_)
    refine lv_aload_n hx hb dX8_drop_6 rfl (lv_at hl 0 rfl) ?_
    refine lv_ifnonnull (tgt := 12) hx hb dX8_drop_7 (by decide) ?_
    refine lv_aload_n hx hb dX8_drop_12 rfl (lv_at hl 0 rfl) ?_
    obtain ⟨r3, h2, hF⟩ := b1_s hF
    refine cl_vi (As := []) (rest := []) (w' := (w_xsh ky aX aB aP aT aR aK aH aG aS aS0 aS1 aS2 aS3 aI0 aI1 aI2 aI3 sla ssz sit)) ⟨hx, hb, hml, hown, hts⟩ hK hP hD hS hA (c_X5_isNothing l D ky aS0 aI0 _ N  (sla 0) (ssz 0) (sit 0)  r3 h2) (cwV 0 hts gX8_drop_X5_isNothing rfl rfl rfl (by decide +kernel) ⟨Nat.le_of_ble_eq_true rfl, Nat.le_of_ble_eq_true rfl⟩) [2, 3] [0, 1, 4, 5, 6, 7, 8, 9] [0, 1, 8, 9, 2, 3, 4, 5, 6, 7] 0 4 rfl rfl rfl rfl (wr := [(aX, .inr (7, [.ref aB, .ref aP, .ref aT, .ref aR, .ref aK, .ref aH, .ref aG, .ref aS])), (aS, .inl (ky 3, 4, .inr (.inr (.inr (.inr (shf aS0 aS1 aS2 aS3)))))), (aS1, .inr (4, [.ref aI1, .int (sla 1), .int (ssz 1)])), (aI1, .inl (ky 0, 36, .inl (sit 1))), (aS2, .inr (4, [.ref aI2, .int (sla 2), .int (ssz 2)])), (aI2, .inl (ky 0, 36, .inl (sit 2))), (aS3, .inr (4, [.ref aI3, .int (sla 3), .int (ssz 3)])), (aI3, .inl (ky 0, 36, .inl (sit 3)))]) rfl (by decide) rfl rfl hl.1 (Nat.le_of_ble_eq_true rfl) dX8_drop_13 ⟨Nat.zero_le _, Nat.zero_le _⟩ (fun H locs hP hD hS => ?_)
    refine lv_if_eq (tgt := 24) hx hb dX8_drop_16 (by decide) (fun c4 => ?_) (fun c4 => ?_)
    · have hF := if_t c4 hF
      refine lv_aload_n hx hb dX8_drop_24 rfl (lv_at hl 0 rfl) ?_
      obtain ⟨r6, v7, v8, h5, hF⟩ := b3_s hF
      refine cl_vi (As := []) (rest := []) (w' := (w_xsh ky aX aB aP aT aR aK aH aG aS aS0 aS1 aS2 aS3 aI0 aI1 aI2 aI3 (va_up sla 0 v7) (va_up ssz 0 v8) sit)) ⟨hx, hb, hml, hown, hts⟩ hK hP hD hS hA (c_X5_empty l D ky aS0 aI0 _ N  (sla 0) (ssz 0) (sit 0)  r6 v7 v8 h5) (cwV 0 hts gX8_drop_X5_empty rfl rfl rfl (by decide +kernel) ⟨Nat.le_of_ble_eq_true rfl, Nat.le_of_ble_eq_true rfl⟩) [2, 3] [0, 1, 4, 5, 6, 7, 8, 9] [0, 1, 8, 9, 2, 3, 4, 5, 6, 7] 0 4 rfl rfl rfl rfl (wr := [(aX, .inr (7, [.ref aB, .ref aP, .ref aT, .ref aR, .ref aK, .ref aH, .ref aG, .ref aS])), (aS, .inl (ky 3, 4, .inr (.inr (.inr (.inr (shf aS0 aS1 aS2 aS3)))))), (aS1, .inr (4, [.ref aI1, .int (sla 1), .int (ssz 1)])), (aI1, .inl (ky 0, 36, .inl (sit 1))), (aS2, .inr (4, [.ref aI2, .int (sla 2), .int (ssz 2)])), (aI2, .inl (ky 0, 36, .inl (sit 2))), (aS3, .inr (4, [.ref aI3, .int (sla 3), .int (ssz 3)])), (aI3, .inl (ky 0, 36, .inl (sit 3)))]) rfl (by decide) rfl rfl hl.1 (Nat.le_of_ble_eq_true rfl) dX8_drop_25 ⟨Nat.zero_le _, Nat.zero_le _⟩ (fun H locs hP hD hS => ?_)
      have hF := Option.some.inj hF
      subst hF
      exact hQ _ _ _ _ dX8_drop_28 hP hD hS
    · have hF := if_f c4 hF
      refine lv_bipush (v := (-11 : Int32)) hx hb dX8_drop_19 (by decide) ?_
      refine lv_goto (tgt := 28) hx hb dX8_drop_21 (by decide) ?_
      have hF := Option.some.inj hF
      subst hF
      exact hQ _ _ _ _ dX8_drop_28 hP hD hS
  · refine cl_vq (ro := (some aS1)) (As := [.int p0]) (rest := []) (w' := (w_xsh ky aX aB aP aT aR aK aH aG aS aS0 aS1 aS2 aS3 aI0 aI1 aI2 aI3 sla ssz sit)) ⟨hx, hb, hml, hown, hts⟩ hK hP hD hS hA (c_X8_sheetAt l D ky aX aB aP aT aR aK aH aG aS aS0 aS1 aS2 aS3 _ p0 (some aS1) (Or.inr ⟨by rw [h1]; decide, by rw [h1]; rfl⟩)) (cwV 1 hts gX8_drop_X8_sheetAt rfl rfl rfl (by decide +kernel) ⟨Nat.le_of_ble_eq_true rfl, Nat.le_of_ble_eq_true rfl⟩) [0, 1] [2, 3, 4, 5, 6, 7, 8, 9] [8, 9, 0, 1, 2, 3, 4, 5, 6, 7] 0 7 rfl rfl rfl rfl (wr := [(aS0, .inr (4, [.ref aI0, .int (sla 0), .int (ssz 0)])), (aI0, .inl (ky 0, 36, .inl (sit 0))), (aS1, .inr (4, [.ref aI1, .int (sla 1), .int (ssz 1)])), (aI1, .inl (ky 0, 36, .inl (sit 1))), (aS2, .inr (4, [.ref aI2, .int (sla 2), .int (ssz 2)])), (aI2, .inl (ky 0, 36, .inl (sit 2))), (aS3, .inr (4, [.ref aI3, .int (sla 3), .int (ssz 3)])), (aI3, .inl (ky 0, 36, .inl (sit 3)))]) rfl (by decide) rfl rfl hl.1 (Nat.le_of_ble_eq_true rfl) dX8_drop_2 ⟨Nat.zero_le _, Nat.zero_le _⟩ (fun H locs hP hD hS => ?_)
    refine lv_astore_n (lv' := [(2, .ref aS1), (0, .ref aX), (1, .int p0)]) hx hb dX8_drop_5 rfl hl (by decide) rfl (fun ls hl => ?_)
    refine lv_aload_n hx hb dX8_drop_6 rfl (lv_at hl 0 rfl) ?_
    refine lv_ifnonnull (tgt := 12) hx hb dX8_drop_7 (by decide) ?_
    refine lv_aload_n hx hb dX8_drop_12 rfl (lv_at hl 0 rfl) ?_
    obtain ⟨r10, h9, hF⟩ := b1_s hF
    refine cl_vi (As := []) (rest := []) (w' := (w_xsh ky aX aB aP aT aR aK aH aG aS aS0 aS1 aS2 aS3 aI0 aI1 aI2 aI3 sla ssz sit)) ⟨hx, hb, hml, hown, hts⟩ hK hP hD hS hA (c_X5_isNothing l D ky aS1 aI1 _ N  (sla 1) (ssz 1) (sit 1)  r10 h9) (cwV 0 hts gX8_drop_X5_isNothing rfl rfl rfl (by decide +kernel) ⟨Nat.le_of_ble_eq_true rfl, Nat.le_of_ble_eq_true rfl⟩) [4, 5] [0, 1, 2, 3, 6, 7, 8, 9] [0, 1, 2, 3, 8, 9, 4, 5, 6, 7] 0 4 rfl rfl rfl rfl (wr := [(aX, .inr (7, [.ref aB, .ref aP, .ref aT, .ref aR, .ref aK, .ref aH, .ref aG, .ref aS])), (aS, .inl (ky 3, 4, .inr (.inr (.inr (.inr (shf aS0 aS1 aS2 aS3)))))), (aS0, .inr (4, [.ref aI0, .int (sla 0), .int (ssz 0)])), (aI0, .inl (ky 0, 36, .inl (sit 0))), (aS2, .inr (4, [.ref aI2, .int (sla 2), .int (ssz 2)])), (aI2, .inl (ky 0, 36, .inl (sit 2))), (aS3, .inr (4, [.ref aI3, .int (sla 3), .int (ssz 3)])), (aI3, .inl (ky 0, 36, .inl (sit 3)))]) rfl (by decide) rfl rfl hl.1 (Nat.le_of_ble_eq_true rfl) dX8_drop_13 ⟨Nat.zero_le _, Nat.zero_le _⟩ (fun H locs hP hD hS => ?_)
    refine lv_if_eq (tgt := 24) hx hb dX8_drop_16 (by decide) (fun c11 => ?_) (fun c11 => ?_)
    · have hF := if_t c11 hF
      refine lv_aload_n hx hb dX8_drop_24 rfl (lv_at hl 0 rfl) ?_
      obtain ⟨r13, v14, v15, h12, hF⟩ := b3_s hF
      refine cl_vi (As := []) (rest := []) (w' := (w_xsh ky aX aB aP aT aR aK aH aG aS aS0 aS1 aS2 aS3 aI0 aI1 aI2 aI3 (va_up sla 1 v14) (va_up ssz 1 v15) sit)) ⟨hx, hb, hml, hown, hts⟩ hK hP hD hS hA (c_X5_empty l D ky aS1 aI1 _ N  (sla 1) (ssz 1) (sit 1)  r13 v14 v15 h12) (cwV 0 hts gX8_drop_X5_empty rfl rfl rfl (by decide +kernel) ⟨Nat.le_of_ble_eq_true rfl, Nat.le_of_ble_eq_true rfl⟩) [4, 5] [0, 1, 2, 3, 6, 7, 8, 9] [0, 1, 2, 3, 8, 9, 4, 5, 6, 7] 0 4 rfl rfl rfl rfl (wr := [(aX, .inr (7, [.ref aB, .ref aP, .ref aT, .ref aR, .ref aK, .ref aH, .ref aG, .ref aS])), (aS, .inl (ky 3, 4, .inr (.inr (.inr (.inr (shf aS0 aS1 aS2 aS3)))))), (aS0, .inr (4, [.ref aI0, .int (sla 0), .int (ssz 0)])), (aI0, .inl (ky 0, 36, .inl (sit 0))), (aS2, .inr (4, [.ref aI2, .int (sla 2), .int (ssz 2)])), (aI2, .inl (ky 0, 36, .inl (sit 2))), (aS3, .inr (4, [.ref aI3, .int (sla 3), .int (ssz 3)])), (aI3, .inl (ky 0, 36, .inl (sit 3)))]) rfl (by decide) rfl rfl hl.1 (Nat.le_of_ble_eq_true rfl) dX8_drop_25 ⟨Nat.zero_le _, Nat.zero_le _⟩ (fun H locs hP hD hS => ?_)
      have hF := Option.some.inj hF
      subst hF
      exact hQ _ _ _ _ dX8_drop_28 hP hD hS
    · have hF := if_f c11 hF
      refine lv_bipush (v := (-11 : Int32)) hx hb dX8_drop_19 (by decide) ?_
      refine lv_goto (tgt := 28) hx hb dX8_drop_21 (by decide) ?_
      have hF := Option.some.inj hF
      subst hF
      exact hQ _ _ _ _ dX8_drop_28 hP hD hS
  · refine cl_vq (ro := (some aS2)) (As := [.int p0]) (rest := []) (w' := (w_xsh ky aX aB aP aT aR aK aH aG aS aS0 aS1 aS2 aS3 aI0 aI1 aI2 aI3 sla ssz sit)) ⟨hx, hb, hml, hown, hts⟩ hK hP hD hS hA (c_X8_sheetAt l D ky aX aB aP aT aR aK aH aG aS aS0 aS1 aS2 aS3 _ p0 (some aS2) (Or.inr ⟨by rw [h1]; decide, by rw [h1]; rfl⟩)) (cwV 1 hts gX8_drop_X8_sheetAt rfl rfl rfl (by decide +kernel) ⟨Nat.le_of_ble_eq_true rfl, Nat.le_of_ble_eq_true rfl⟩) [0, 1] [2, 3, 4, 5, 6, 7, 8, 9] [8, 9, 0, 1, 2, 3, 4, 5, 6, 7] 0 7 rfl rfl rfl rfl (wr := [(aS0, .inr (4, [.ref aI0, .int (sla 0), .int (ssz 0)])), (aI0, .inl (ky 0, 36, .inl (sit 0))), (aS1, .inr (4, [.ref aI1, .int (sla 1), .int (ssz 1)])), (aI1, .inl (ky 0, 36, .inl (sit 1))), (aS2, .inr (4, [.ref aI2, .int (sla 2), .int (ssz 2)])), (aI2, .inl (ky 0, 36, .inl (sit 2))), (aS3, .inr (4, [.ref aI3, .int (sla 3), .int (ssz 3)])), (aI3, .inl (ky 0, 36, .inl (sit 3)))]) rfl (by decide) rfl rfl hl.1 (Nat.le_of_ble_eq_true rfl) dX8_drop_2 ⟨Nat.zero_le _, Nat.zero_le _⟩ (fun H locs hP hD hS => ?_)
    refine lv_astore_n (lv' := [(2, .ref aS2), (0, .ref aX), (1, .int p0)]) hx hb dX8_drop_5 rfl hl (by decide) rfl (fun ls hl => ?_)
    refine lv_aload_n hx hb dX8_drop_6 rfl (lv_at hl 0 rfl) ?_
    refine lv_ifnonnull (tgt := 12) hx hb dX8_drop_7 (by decide) ?_
    refine lv_aload_n hx hb dX8_drop_12 rfl (lv_at hl 0 rfl) ?_
    obtain ⟨r17, h16, hF⟩ := b1_s hF
    refine cl_vi (As := []) (rest := []) (w' := (w_xsh ky aX aB aP aT aR aK aH aG aS aS0 aS1 aS2 aS3 aI0 aI1 aI2 aI3 sla ssz sit)) ⟨hx, hb, hml, hown, hts⟩ hK hP hD hS hA (c_X5_isNothing l D ky aS2 aI2 _ N  (sla 2) (ssz 2) (sit 2)  r17 h16) (cwV 0 hts gX8_drop_X5_isNothing rfl rfl rfl (by decide +kernel) ⟨Nat.le_of_ble_eq_true rfl, Nat.le_of_ble_eq_true rfl⟩) [6, 7] [0, 1, 2, 3, 4, 5, 8, 9] [0, 1, 2, 3, 4, 5, 8, 9, 6, 7] 0 4 rfl rfl rfl rfl (wr := [(aX, .inr (7, [.ref aB, .ref aP, .ref aT, .ref aR, .ref aK, .ref aH, .ref aG, .ref aS])), (aS, .inl (ky 3, 4, .inr (.inr (.inr (.inr (shf aS0 aS1 aS2 aS3)))))), (aS0, .inr (4, [.ref aI0, .int (sla 0), .int (ssz 0)])), (aI0, .inl (ky 0, 36, .inl (sit 0))), (aS1, .inr (4, [.ref aI1, .int (sla 1), .int (ssz 1)])), (aI1, .inl (ky 0, 36, .inl (sit 1))), (aS3, .inr (4, [.ref aI3, .int (sla 3), .int (ssz 3)])), (aI3, .inl (ky 0, 36, .inl (sit 3)))]) rfl (by decide) rfl rfl hl.1 (Nat.le_of_ble_eq_true rfl) dX8_drop_13 ⟨Nat.zero_le _, Nat.zero_le _⟩ (fun H locs hP hD hS => ?_)
    refine lv_if_eq (tgt := 24) hx hb dX8_drop_16 (by decide) (fun c18 => ?_) (fun c18 => ?_)
    · have hF := if_t c18 hF
      refine lv_aload_n hx hb dX8_drop_24 rfl (lv_at hl 0 rfl) ?_
      obtain ⟨r20, v21, v22, h19, hF⟩ := b3_s hF
      refine cl_vi (As := []) (rest := []) (w' := (w_xsh ky aX aB aP aT aR aK aH aG aS aS0 aS1 aS2 aS3 aI0 aI1 aI2 aI3 (va_up sla 2 v21) (va_up ssz 2 v22) sit)) ⟨hx, hb, hml, hown, hts⟩ hK hP hD hS hA (c_X5_empty l D ky aS2 aI2 _ N  (sla 2) (ssz 2) (sit 2)  r20 v21 v22 h19) (cwV 0 hts gX8_drop_X5_empty rfl rfl rfl (by decide +kernel) ⟨Nat.le_of_ble_eq_true rfl, Nat.le_of_ble_eq_true rfl⟩) [6, 7] [0, 1, 2, 3, 4, 5, 8, 9] [0, 1, 2, 3, 4, 5, 8, 9, 6, 7] 0 4 rfl rfl rfl rfl (wr := [(aX, .inr (7, [.ref aB, .ref aP, .ref aT, .ref aR, .ref aK, .ref aH, .ref aG, .ref aS])), (aS, .inl (ky 3, 4, .inr (.inr (.inr (.inr (shf aS0 aS1 aS2 aS3)))))), (aS0, .inr (4, [.ref aI0, .int (sla 0), .int (ssz 0)])), (aI0, .inl (ky 0, 36, .inl (sit 0))), (aS1, .inr (4, [.ref aI1, .int (sla 1), .int (ssz 1)])), (aI1, .inl (ky 0, 36, .inl (sit 1))), (aS3, .inr (4, [.ref aI3, .int (sla 3), .int (ssz 3)])), (aI3, .inl (ky 0, 36, .inl (sit 3)))]) rfl (by decide) rfl rfl hl.1 (Nat.le_of_ble_eq_true rfl) dX8_drop_25 ⟨Nat.zero_le _, Nat.zero_le _⟩ (fun H locs hP hD hS => ?_)
      have hF := Option.some.inj hF
      subst hF
      exact hQ _ _ _ _ dX8_drop_28 hP hD hS
    · have hF := if_f c18 hF
      refine lv_bipush (v := (-11 : Int32)) hx hb dX8_drop_19 (by decide) ?_
      refine lv_goto (tgt := 28) hx hb dX8_drop_21 (by decide) ?_
      have hF := Option.some.inj hF
      subst hF
      exact hQ _ _ _ _ dX8_drop_28 hP hD hS
  · refine cl_vq (ro := (some aS3)) (As := [.int p0]) (rest := []) (w' := (w_xsh ky aX aB aP aT aR aK aH aG aS aS0 aS1 aS2 aS3 aI0 aI1 aI2 aI3 sla ssz sit)) ⟨hx, hb, hml, hown, hts⟩ hK hP hD hS hA (c_X8_sheetAt l D ky aX aB aP aT aR aK aH aG aS aS0 aS1 aS2 aS3 _ p0 (some aS3) (Or.inr ⟨by rw [h1]; decide, by rw [h1]; rfl⟩)) (cwV 1 hts gX8_drop_X8_sheetAt rfl rfl rfl (by decide +kernel) ⟨Nat.le_of_ble_eq_true rfl, Nat.le_of_ble_eq_true rfl⟩) [0, 1] [2, 3, 4, 5, 6, 7, 8, 9] [8, 9, 0, 1, 2, 3, 4, 5, 6, 7] 0 7 rfl rfl rfl rfl (wr := [(aS0, .inr (4, [.ref aI0, .int (sla 0), .int (ssz 0)])), (aI0, .inl (ky 0, 36, .inl (sit 0))), (aS1, .inr (4, [.ref aI1, .int (sla 1), .int (ssz 1)])), (aI1, .inl (ky 0, 36, .inl (sit 1))), (aS2, .inr (4, [.ref aI2, .int (sla 2), .int (ssz 2)])), (aI2, .inl (ky 0, 36, .inl (sit 2))), (aS3, .inr (4, [.ref aI3, .int (sla 3), .int (ssz 3)])), (aI3, .inl (ky 0, 36, .inl (sit 3)))]) rfl (by decide) rfl rfl hl.1 (Nat.le_of_ble_eq_true rfl) dX8_drop_2 ⟨Nat.zero_le _, Nat.zero_le _⟩ (fun H locs hP hD hS => ?_)
    refine lv_astore_n (lv' := [(2, .ref aS3), (0, .ref aX), (1, .int p0)]) hx hb dX8_drop_5 rfl hl (by decide) rfl (fun ls hl => ?_)
    refine lv_aload_n hx hb dX8_drop_6 rfl (lv_at hl 0 rfl) ?_
    refine lv_ifnonnull (tgt := 12) hx hb dX8_drop_7 (by decide) ?_
    refine lv_aload_n hx hb dX8_drop_12 rfl (lv_at hl 0 rfl) ?_
    obtain ⟨r24, h23, hF⟩ := b1_s hF
    refine cl_vi (As := []) (rest := []) (w' := (w_xsh ky aX aB aP aT aR aK aH aG aS aS0 aS1 aS2 aS3 aI0 aI1 aI2 aI3 sla ssz sit)) ⟨hx, hb, hml, hown, hts⟩ hK hP hD hS hA (c_X5_isNothing l D ky aS3 aI3 _ N  (sla 3) (ssz 3) (sit 3)  r24 h23) (cwV 0 hts gX8_drop_X5_isNothing rfl rfl rfl (by decide +kernel) ⟨Nat.le_of_ble_eq_true rfl, Nat.le_of_ble_eq_true rfl⟩) [8, 9] [0, 1, 2, 3, 4, 5, 6, 7] [0, 1, 2, 3, 4, 5, 6, 7, 8, 9] 0 4 rfl rfl rfl rfl (wr := [(aX, .inr (7, [.ref aB, .ref aP, .ref aT, .ref aR, .ref aK, .ref aH, .ref aG, .ref aS])), (aS, .inl (ky 3, 4, .inr (.inr (.inr (.inr (shf aS0 aS1 aS2 aS3)))))), (aS0, .inr (4, [.ref aI0, .int (sla 0), .int (ssz 0)])), (aI0, .inl (ky 0, 36, .inl (sit 0))), (aS1, .inr (4, [.ref aI1, .int (sla 1), .int (ssz 1)])), (aI1, .inl (ky 0, 36, .inl (sit 1))), (aS2, .inr (4, [.ref aI2, .int (sla 2), .int (ssz 2)])), (aI2, .inl (ky 0, 36, .inl (sit 2)))]) rfl (by decide) rfl rfl hl.1 (Nat.le_of_ble_eq_true rfl) dX8_drop_13 ⟨Nat.zero_le _, Nat.zero_le _⟩ (fun H locs hP hD hS => ?_)
    refine lv_if_eq (tgt := 24) hx hb dX8_drop_16 (by decide) (fun c25 => ?_) (fun c25 => ?_)
    · have hF := if_t c25 hF
      refine lv_aload_n hx hb dX8_drop_24 rfl (lv_at hl 0 rfl) ?_
      obtain ⟨r27, v28, v29, h26, hF⟩ := b3_s hF
      refine cl_vi (As := []) (rest := []) (w' := (w_xsh ky aX aB aP aT aR aK aH aG aS aS0 aS1 aS2 aS3 aI0 aI1 aI2 aI3 (va_up sla 3 v28) (va_up ssz 3 v29) sit)) ⟨hx, hb, hml, hown, hts⟩ hK hP hD hS hA (c_X5_empty l D ky aS3 aI3 _ N  (sla 3) (ssz 3) (sit 3)  r27 v28 v29 h26) (cwV 0 hts gX8_drop_X5_empty rfl rfl rfl (by decide +kernel) ⟨Nat.le_of_ble_eq_true rfl, Nat.le_of_ble_eq_true rfl⟩) [8, 9] [0, 1, 2, 3, 4, 5, 6, 7] [0, 1, 2, 3, 4, 5, 6, 7, 8, 9] 0 4 rfl rfl rfl rfl (wr := [(aX, .inr (7, [.ref aB, .ref aP, .ref aT, .ref aR, .ref aK, .ref aH, .ref aG, .ref aS])), (aS, .inl (ky 3, 4, .inr (.inr (.inr (.inr (shf aS0 aS1 aS2 aS3)))))), (aS0, .inr (4, [.ref aI0, .int (sla 0), .int (ssz 0)])), (aI0, .inl (ky 0, 36, .inl (sit 0))), (aS1, .inr (4, [.ref aI1, .int (sla 1), .int (ssz 1)])), (aI1, .inl (ky 0, 36, .inl (sit 1))), (aS2, .inr (4, [.ref aI2, .int (sla 2), .int (ssz 2)])), (aI2, .inl (ky 0, 36, .inl (sit 2)))]) rfl (by decide) rfl rfl hl.1 (Nat.le_of_ble_eq_true rfl) dX8_drop_25 ⟨Nat.zero_le _, Nat.zero_le _⟩ (fun H locs hP hD hS => ?_)
      have hF := Option.some.inj hF
      subst hF
      exact hQ _ _ _ _ dX8_drop_28 hP hD hS
    · have hF := if_f c25 hF
      refine lv_bipush (v := (-11 : Int32)) hx hb dX8_drop_19 (by decide) ?_
      refine lv_goto (tgt := 28) hx hb dX8_drop_21 (by decide) ?_
      have hF := Option.some.inj hF
      subst hF
      exact hQ _ _ _ _ dX8_drop_28 hP hD hS
theorem c_X8_drop (l : Launch) (D : va_G) (ky : Nat → ClassId) (aX aB aP aT aR aK aH aG aS aS0 aS1 aS2 aS3 aI0 aI1 aI2 aI3 : Nat) (sz N : Nat)  (sla : Nat → Int32) (ssz : Nat → Int32) (sit : Nat → Nat → Int32) (p0 : Int32) (rv : Int32) (sla' : Nat → Int32) (ssz' : Nat → Int32) (hF : f_X8_drop N p0 sla ssz = some (rv, sla', ssz')) : MI l yX8_drop wsX8_drop rm_X8_drop D ky sz [.ref aX, .int p0] (w_xsh ky aX aB aP aT aR aK aH aG aS aS0 aS1 aS2 aS3 aI0 aI1 aI2 aI3 sla ssz sit) (w_xsh ky aX aB aP aT aR aK aH aG aS aS0 aS1 aS2 aS3 aI0 aI1 aI2 aI3 sla' ssz' sit) rv :=
  cr_X8_drop l D ky aX aB aP aT aR aK aH aG aS aS0 aS1 aS2 aS3 aI0 aI1 aI2 aI3 sz N sla ssz sit p0 (rv, sla', ssz') hF
abbrev rm_X8_item : Room := { frames := 2, cells := 0, slots := 0, locals := 45 }
set_option maxHeartbeats 4000000 in
set_option maxRecDepth 100000 in
theorem cr_X8_item (l : Launch) (D : va_G) (ky : Nat → ClassId) (aX aB aP aT aR aK aH aG aS aS0 aS1 aS2 aS3 aI0 aI1 aI2 aI3 : Nat) (sz N : Nat)  (sla : Nat → Int32) (ssz : Nat → Int32) (sit : Nat → Nat → Int32) (p0 : Int32) (p1 : Int32) (p2 : Int32) (p3 : Int32) (res : Int32 × (Nat → Nat → Int32)) (hF : f_X8_item N p0 p1 p2 p3 sla ssz sit = some res) : MI l yX8_item wsX8_item rm_X8_item D ky sz [.ref aX, .int p0, .int p1, .int p2, .int p3] (w_xsh ky aX aB aP aT aR aK aH aG aS aS0 aS1 aS2 aS3 aI0 aI1 aI2 aI3 sla ssz sit) (w_xsh ky aX aB aP aT aR aK aH aG aS aS0 aS1 aS2 aS3 aI0 aI1 aI2 aI3 sla ssz res.2) res.1 := by
  unfold MI
  refine Met.ofW (cc := cX8_item) (maxL := 7) (ret := (some .int)) (by decide) rfl ?_
  intro p e s m args below meth c s₁ B hml hv
  obtain ⟨rfl, hsz, hP, hK, hD0⟩ := hv
  have hx := B.exec
  have hb := B.bytes
  have hr := B.returns
  have hts := atoms_spec (ws := wsX8_item) B.pre
  have hown : s.vm.findClass RX8 = some m.cls := findClass_of_methodNamed B.named
  have hlocks := B.notSynchronized
  subst hsz
  have hD := hD0.self (sz := s.heap.size)
  generalize hAe : va_A (w_xsh ky aX aB aP aT aR aK aH aG aS aS0 aS1 aS2 aS3 aI0 aI1 aI2 aI3 sla ssz sit) s.heap.size = A at hD ⊢
  have hA : ∀ q : Nat, s.heap.size ≤ q → A q := fun q h => by rw [← hAe]; exact Or.inr h
  have hS : va_S A s.heap s.heap [] := va_S.rf
  have hP : va_P D vwCl (w_xsh ky aX aB aP aT aR aK aH aG aS aS0 aS1 aS2 aS3 aI0 aI1 aI2 aI3 sla ssz sit) s.heap := hP
  have hl := lv_entry ([.ref aX, .int p0, .int p1, .int p2, .int p3]) (n := 7) (Nat.le_of_ble_eq_true rfl)
  rw [lg_entry_eq]
  generalize (lg_sl ([.ref aX, .int p0, .int p1, .int p2, .int p3]) ++ List.replicate (7 - (lg_sl ([.ref aX, .int p0, .int p1, .int p2, .int p3])).length) Slot.unset).toArray = ls at hl ⊢
  have hl : lv_has ls 7 [(0, .ref aX), (1, .int p0), (2, .int p1), (3, .int p2), (4, .int p3)] := hl
  have C : cx p s m c ([.ref aX, .int p0, .int p1, .int p2, .int p3]).toArray D ky A cX8_item 7 wsX8_item RX8 := ⟨hx, hb, hml, hown, hts, hK, hA⟩
  have hQ : ∀ (pc : Nat) (H : Heap) (locs : List Loc) (ls : Array Slot), decode cX8_item pc = .ok (.ireturn, 1) → va_P D vwCl (w_xsh ky aX aB aP aT aR aK aH aG aS aS0 aS1 aS2 aS3 aI0 aI1 aI2 aI3 sla ssz res.2) H → va_D A (w_xsh ky aX aB aP aT aR aK aH aG aS aS0 aS1 aS2 aS3 aI0 aI1 aI2 aI3 sla ssz res.2) → va_S A s.heap H locs → W p l e rm_X8_item s m ([.ref aX, .int p0, .int p1, .int p2, .int p3]).toArray below meth c H locs 0 0 (MQ below (va_Qi (S := Unit) (fun r _ => r = res.1) (fun _ t => va_P D vwCl (w_xsh ky aX aB aP aT aR aK aH aG aS aS0 aS1 aS2 aS3 aI0 aI1 aI2 aI3 sla ssz res.2) t.heap ∧ va_K D vwCl (tyW ky) t ∧ va_D A (w_xsh ky aX aB aP aT aR aK aH aG aS aS0 aS1 aS2 aS3 aI0 aI1 aI2 aI3 sla ssz res.2)) A) ([.ref aX, .int p0, .int p1, .int p2, .int p3]).toArray s 0 0 A) (F0 m pc ls [.int res.1]) := fun pc H locs ls hd hP hD hS => W.iret hx hb hr (fun t ht hW => ⟨⟨res.1, (), rfl, rfl, by rw [ht]; exact hP, va_K.moved hW.alike hK, hD⟩, hS.F ht⟩) hS.2.2 hd
  unfold f_X8_item at hF
  refine lv_aload_n hx hb dX8_item_0 rfl (lv_at hl 0 rfl) ?_
  refine lv_iload_n hx hb dX8_item_1 rfl (lv_at hl 1 rfl) ?_
  rcases sh5_s hF with ⟨h1, hF⟩ | ⟨h1, hF⟩ | ⟨h1, hF⟩ | ⟨h1, hF⟩ | ⟨h1, hF⟩
  · refine cl_vq (ro := none) (As := [.int p0]) (rest := []) (w' := (w_xsh ky aX aB aP aT aR aK aH aG aS aS0 aS1 aS2 aS3 aI0 aI1 aI2 aI3 sla ssz sit)) ⟨hx, hb, hml, hown, hts⟩ hK hP hD hS hA (c_X8_sheetAt l D ky aX aB aP aT aR aK aH aG aS aS0 aS1 aS2 aS3 _ p0 none (Or.inl ⟨h1, rfl⟩)) (cwV 1 hts gX8_item_X8_sheetAt rfl rfl rfl (by decide +kernel) ⟨Nat.le_of_ble_eq_true rfl, Nat.le_of_ble_eq_true rfl⟩) [0, 1] [2, 3, 4, 5, 6, 7, 8, 9] [8, 9, 0, 1, 2, 3, 4, 5, 6, 7] 0 7 rfl rfl rfl rfl (wr := [(aS0, .inr (4, [.ref aI0, .int (sla 0), .int (ssz 0)])), (aI0, .inl (ky 0, 36, .inl (sit 0))), (aS1, .inr (4, [.ref aI1, .int (sla 1), .int (ssz 1)])), (aI1, .inl (ky 0, 36, .inl (sit 1))), (aS2, .inr (4, [.ref aI2, .int (sla 2), .int (ssz 2)])), (aI2, .inl (ky 0, 36, .inl (sit 2))), (aS3, .inr (4, [.ref aI3, .int (sla 3), .int (ssz 3)])), (aI3, .inl (ky 0, 36, .inl (sit 3)))]) rfl (by decide) rfl rfl hl.1 (Nat.le_of_ble_eq_true rfl) dX8_item_2 ⟨Nat.zero_le _, Nat.zero_le _⟩ (fun H locs hP hD hS => ?_)
    refine lv_astoreN (lv' := [(5, .null), (0, .ref aX), (1, .int p0), (2, .int p1), (3, .int p2), (4, .int p3)]) hx hb dX8_item_5 hl (by decide) rfl (fun ls hl => ?_)
    refine lv_aloadN hx hb dX8_item_7 (lv_at hl 0 rfl) ?_
    refine lv_ifnullN (tgt := 19) hx hb dX8_item_9 (by decide) ?_
    refine lv_iconst (v := (-1 : Int32)) hx hb dX8_item_19 (by decide) ?_
    have hF := Option.some.inj hF
    subst hF
    exact hQ _ _ _ _ dX8_item_20 hP hD hS
  · refine cl_vq (ro := (some aS0)) (As := [.int p0]) (rest := []) (w' := (w_xsh ky aX aB aP aT aR aK aH aG aS aS0 aS1 aS2 aS3 aI0 aI1 aI2 aI3 sla ssz sit)) ⟨hx, hb, hml, hown, hts⟩ hK hP hD hS hA (c_X8_sheetAt l D ky aX aB aP aT aR aK aH aG aS aS0 aS1 aS2 aS3 _ p0 (some aS0) (Or.inr ⟨by rw [h1]; decide, by rw [h1]; rfl⟩)) (cwV 1 hts gX8_item_X8_sheetAt rfl rfl rfl (by decide +kernel) ⟨Nat.le_of_ble_eq_true rfl, Nat.le_of_ble_eq_true rfl⟩) [0, 1] [2, 3, 4, 5, 6, 7, 8, 9] [8, 9, 0, 1, 2, 3, 4, 5, 6, 7] 0 7 rfl rfl rfl rfl (wr := [(aS0, .inr (4, [.ref aI0, .int (sla 0), .int (ssz 0)])), (aI0, .inl (ky 0, 36, .inl (sit 0))), (aS1, .inr (4, [.ref aI1, .int (sla 1), .int (ssz 1)])), (aI1, .inl (ky 0, 36, .inl (sit 1))), (aS2, .inr (4, [.ref aI2, .int (sla 2), .int (ssz 2)])), (aI2, .inl (ky 0, 36, .inl (sit 2))), (aS3, .inr (4, [.ref aI3, .int (sla 3), .int (ssz 3)])), (aI3, .inl (ky 0, 36, .inl (sit 3)))]) rfl (by decide) rfl rfl hl.1 (Nat.le_of_ble_eq_true rfl) dX8_item_2 ⟨Nat.zero_le _, Nat.zero_le _⟩ (fun H locs hP hD hS => ?_)
    refine lv_astore (lv' := [(5, .ref aS0), (0, .ref aX), (1, .int p0), (2, .int p1), (3, .int p2), (4, .int p3)]) hx hb dX8_item_5 hl (by decide) rfl (fun ls hl => ?_)
    refine lv_aload hx hb dX8_item_7 (lv_at hl 0 rfl) ?_
    refine lv_ifnull hx hb dX8_item_9 ?_
    refine lv_iload_n hx hb dX8_item_12 rfl (lv_at hl 3 rfl) ?_
    obtain ⟨r3, h2, hF⟩ := b1_s hF
    refine cl_si (As := [.int p1]) (rest := []) ⟨hx, hb, hml, hown, hts⟩ hK hP hD hS hA (c_X8_isLane l D ky  _ N   p1 r3 h2) (va_cwS 1 hts gX8_item_X8_isLane rfl rfl rfl (by decide +kernel) ⟨Nat.le_of_ble_eq_true rfl, Nat.le_of_ble_eq_true rfl⟩) rfl hl.1 (Nat.le_of_ble_eq_true rfl) dX8_item_13 ⟨Nat.zero_le _, Nat.zero_le _⟩ (fun H locs hP hD hS => ?_)
    refine lv_if_ne (tgt := 21) hx hb dX8_item_16 (by decide) (fun c4 => ?_) (fun c4 => ?_)
    · have hF := if_f c4 hF
      refine lv_aload hx hb dX8_item_21 (lv_at hl 0 rfl) ?_
      refine lv_iload_n hx hb dX8_item_23 rfl (lv_at hl 3 rfl) ?_
      refine lv_iload_n hx hb dX8_item_24 rfl (lv_at hl 4 rfl) ?_
      refine lv_iconst (v := (1 : Int32)) hx hb dX8_item_25 (by decide) ?_
      obtain ⟨r6, h5, hF⟩ := b1_s hF
      refine cl_vi (As := [.int p1, .int p2, .int (1 : Int32)]) (rest := []) (w' := (w_xsh ky aX aB aP aT aR aK aH aG aS aS0 aS1 aS2 aS3 aI0 aI1 aI2 aI3 sla ssz sit)) ⟨hx, hb, hml, hown, hts⟩ hK hP hD hS hA (c_X5_refusal l D ky aS0 aI0 _ N  (sla 0) (ssz 0) (sit 0) p1 p2 (1 : Int32) r6 h5) (cwV 3 hts gX8_item_X5_refusal rfl rfl rfl (by decide +kernel) ⟨Nat.le_of_ble_eq_true rfl, Nat.le_of_ble_eq_true rfl⟩) [2, 3] [0, 1, 4, 5, 6, 7, 8, 9] [0, 1, 8, 9, 2, 3, 4, 5, 6, 7] 0 4 rfl rfl rfl rfl (wr := [(aX, .inr (7, [.ref aB, .ref aP, .ref aT, .ref aR, .ref aK, .ref aH, .ref aG, .ref aS])), (aS, .inl (ky 3, 4, .inr (.inr (.inr (.inr (shf aS0 aS1 aS2 aS3)))))), (aS1, .inr (4, [.ref aI1, .int (sla 1), .int (ssz 1)])), (aI1, .inl (ky 0, 36, .inl (sit 1))), (aS2, .inr (4, [.ref aI2, .int (sla 2), .int (ssz 2)])), (aI2, .inl (ky 0, 36, .inl (sit 2))), (aS3, .inr (4, [.ref aI3, .int (sla 3), .int (ssz 3)])), (aI3, .inl (ky 0, 36, .inl (sit 3)))]) rfl (by decide) rfl rfl hl.1 (Nat.le_of_ble_eq_true rfl) dX8_item_26 ⟨Nat.zero_le _, Nat.zero_le _⟩ (fun H locs hP hD hS => ?_)
      refine lv_istore (lv' := [(6, .int r6), (5, .ref aS0), (0, .ref aX), (1, .int p0), (2, .int p1), (3, .int p2), (4, .int p3)]) hx hb dX8_item_29 hl (by decide) rfl (fun ls hl => ?_)
      refine lv_iload hx hb dX8_item_31 (lv_at hl 0 rfl) ?_
      refine lv_if_ge (tgt := 39) hx hb dX8_item_33 (by decide) (fun c7 => ?_) (fun c7 => ?_)
      · have hF := if_t c7 hF
        refine lv_aload hx hb dX8_item_39 (lv_at hl 1 rfl) ?_
        refine lv_iload_n hx hb dX8_item_41 rfl (lv_at hl 5 rfl) ?_
        refine lv_iload hx hb dX8_item_42 (lv_at hl 6 rfl) ?_
        obtain ⟨v9, h8, hF⟩ := b1_s hF
        refine cl_vv (As := [.int p2, .int p3]) (rest := []) (w' := (w_xsh ky aX aB aP aT aR aK aH aG aS aS0 aS1 aS2 aS3 aI0 aI1 aI2 aI3 sla ssz (va_up sit 0 v9))) ⟨hx, hb, hml, hown, hts⟩ hK hP hD hS hA (c_X5_put l D ky aS0 aI0 _ N  (sla 0) (ssz 0) (sit 0) p2 p3 v9 h8) (cwV 2 hts gX8_item_X5_put rfl rfl rfl (by decide +kernel) ⟨Nat.le_of_ble_eq_true rfl, Nat.le_of_ble_eq_true rfl⟩) [2, 3] [0, 1, 4, 5, 6, 7, 8, 9] [0, 1, 8, 9, 2, 3, 4, 5, 6, 7] 0 4 rfl rfl rfl rfl (wr := [(aX, .inr (7, [.ref aB, .ref aP, .ref aT, .ref aR, .ref aK, .ref aH, .ref aG, .ref aS])), (aS, .inl (ky 3, 4, .inr (.inr (.inr (.inr (shf aS0 aS1 aS2 aS3)))))), (aS1, .inr (4, [.ref aI1, .int (sla 1), .int (ssz 1)])), (aI1, .inl (ky 0, 36, .inl (sit 1))), (aS2, .inr (4, [.ref aI2, .int (sla 2), .int (ssz 2)])), (aI2, .inl (ky 0, 36, .inl (sit 2))), (aS3, .inr (4, [.ref aI3, .int (sla 3), .int (ssz 3)])), (aI3, .inl (ky 0, 36, .inl (sit 3)))]) rfl (by decide) rfl rfl hl.1 (Nat.le_of_ble_eq_true rfl) dX8_item_44 ⟨Nat.zero_le _, Nat.zero_le _⟩ (fun H locs hP hD hS => ?_)
        refine lv_iconst (v := (1 : Int32)) hx hb dX8_item_47 (by decide) ?_
        have hF := Option.some.inj hF
        subst hF
        exact hQ _ _ _ _ dX8_item_48 hP hD hS
      · have hF := if_f c7 hF
        refine lv_iload hx hb dX8_item_36 (lv_at hl 0 rfl) ?_
        have hF := Option.some.inj hF
        subst hF
        exact hQ _ _ _ _ dX8_item_38 hP hD hS
    · have hF := if_t c4 hF
      refine lv_iconst (v := (-1 : Int32)) hx hb dX8_item_19 (by decide) ?_
      have hF := Option.some.inj hF
      subst hF
      exact hQ _ _ _ _ dX8_item_20 hP hD hS
  · refine cl_vq (ro := (some aS1)) (As := [.int p0]) (rest := []) (w' := (w_xsh ky aX aB aP aT aR aK aH aG aS aS0 aS1 aS2 aS3 aI0 aI1 aI2 aI3 sla ssz sit)) ⟨hx, hb, hml, hown, hts⟩ hK hP hD hS hA (c_X8_sheetAt l D ky aX aB aP aT aR aK aH aG aS aS0 aS1 aS2 aS3 _ p0 (some aS1) (Or.inr ⟨by rw [h1]; decide, by rw [h1]; rfl⟩)) (cwV 1 hts gX8_item_X8_sheetAt rfl rfl rfl (by decide +kernel) ⟨Nat.le_of_ble_eq_true rfl, Nat.le_of_ble_eq_true rfl⟩) [0, 1] [2, 3, 4, 5, 6, 7, 8, 9] [8, 9, 0, 1, 2, 3, 4, 5, 6, 7] 0 7 rfl rfl rfl rfl (wr := [(aS0, .inr (4, [.ref aI0, .int (sla 0), .int (ssz 0)])), (aI0, .inl (ky 0, 36, .inl (sit 0))), (aS1, .inr (4, [.ref aI1, .int (sla 1), .int (ssz 1)])), (aI1, .inl (ky 0, 36, .inl (sit 1))), (aS2, .inr (4, [.ref aI2, .int (sla 2), .int (ssz 2)])), (aI2, .inl (ky 0, 36, .inl (sit 2))), (aS3, .inr (4, [.ref aI3, .int (sla 3), .int (ssz 3)])), (aI3, .inl (ky 0, 36, .inl (sit 3)))]) rfl (by decide) rfl rfl hl.1 (Nat.le_of_ble_eq_true rfl) dX8_item_2 ⟨Nat.zero_le _, Nat.zero_le _⟩ (fun H locs hP hD hS => ?_)
    refine lv_astore (lv' := [(5, .ref aS1), (0, .ref aX), (1, .int p0), (2, .int p1), (3, .int p2), (4, .int p3)]) hx hb dX8_item_5 hl (by decide) rfl (fun ls hl => ?_)
    refine lv_aload hx hb dX8_item_7 (lv_at hl 0 rfl) ?_
    refine lv_ifnull hx hb dX8_item_9 ?_
    refine lv_iload_n hx hb dX8_item_12 rfl (lv_at hl 3 rfl) ?_
    obtain ⟨r11, h10, hF⟩ := b1_s hF
    refine cl_si (As := [.int p1]) (rest := []) ⟨hx, hb, hml, hown, hts⟩ hK hP hD hS hA (c_X8_isLane l D ky  _ N   p1 r11 h10) (va_cwS 1 hts gX8_item_X8_isLane rfl rfl rfl (by decide +kernel) ⟨Nat.le_of_ble_eq_true rfl, Nat.le_of_ble_eq_true rfl⟩) rfl hl.1 (Nat.le_of_ble_eq_true rfl) dX8_item_13 ⟨Nat.zero_le _, Nat.zero_le _⟩ (fun H locs hP hD hS => ?_)
    refine lv_if_ne (tgt := 21) hx hb dX8_item_16 (by decide) (fun c12 => ?_) (fun c12 => ?_)
    · have hF := if_f c12 hF
      refine lv_aload hx hb dX8_item_21 (lv_at hl 0 rfl) ?_
      refine lv_iload_n hx hb dX8_item_23 rfl (lv_at hl 3 rfl) ?_
      refine lv_iload_n hx hb dX8_item_24 rfl (lv_at hl 4 rfl) ?_
      refine lv_iconst (v := (1 : Int32)) hx hb dX8_item_25 (by decide) ?_
      obtain ⟨r14, h13, hF⟩ := b1_s hF
      refine cl_vi (As := [.int p1, .int p2, .int (1 : Int32)]) (rest := []) (w' := (w_xsh ky aX aB aP aT aR aK aH aG aS aS0 aS1 aS2 aS3 aI0 aI1 aI2 aI3 sla ssz sit)) ⟨hx, hb, hml, hown, hts⟩ hK hP hD hS hA (c_X5_refusal l D ky aS1 aI1 _ N  (sla 1) (ssz 1) (sit 1) p1 p2 (1 : Int32) r14 h13) (cwV 3 hts gX8_item_X5_refusal rfl rfl rfl (by decide +kernel) ⟨Nat.le_of_ble_eq_true rfl, Nat.le_of_ble_eq_true rfl⟩) [4, 5] [0, 1, 2, 3, 6, 7, 8, 9] [0, 1, 2, 3, 8, 9, 4, 5, 6, 7] 0 4 rfl rfl rfl rfl (wr := [(aX, .inr (7, [.ref aB, .ref aP, .ref aT, .ref aR, .ref aK, .ref aH, .ref aG, .ref aS])), (aS, .inl (ky 3, 4, .inr (.inr (.inr (.inr (shf aS0 aS1 aS2 aS3)))))), (aS0, .inr (4, [.ref aI0, .int (sla 0), .int (ssz 0)])), (aI0, .inl (ky 0, 36, .inl (sit 0))), (aS2, .inr (4, [.ref aI2, .int (sla 2), .int (ssz 2)])), (aI2, .inl (ky 0, 36, .inl (sit 2))), (aS3, .inr (4, [.ref aI3, .int (sla 3), .int (ssz 3)])), (aI3, .inl (ky 0, 36, .inl (sit 3)))]) rfl (by decide) rfl rfl hl.1 (Nat.le_of_ble_eq_true rfl) dX8_item_26 ⟨Nat.zero_le _, Nat.zero_le _⟩ (fun H locs hP hD hS => ?_)
      refine lv_istore (lv' := [(6, .int r14), (5, .ref aS1), (0, .ref aX), (1, .int p0), (2, .int p1), (3, .int p2), (4, .int p3)]) hx hb dX8_item_29 hl (by decide) rfl (fun ls hl => ?_)
      refine lv_iload hx hb dX8_item_31 (lv_at hl 0 rfl) ?_
      refine lv_if_ge (tgt := 39) hx hb dX8_item_33 (by decide) (fun c15 => ?_) (fun c15 => ?_)
      · have hF := if_t c15 hF
        refine lv_aload hx hb dX8_item_39 (lv_at hl 1 rfl) ?_
        refine lv_iload_n hx hb dX8_item_41 rfl (lv_at hl 5 rfl) ?_
        refine lv_iload hx hb dX8_item_42 (lv_at hl 6 rfl) ?_
        obtain ⟨v17, h16, hF⟩ := b1_s hF
        refine cl_vv (As := [.int p2, .int p3]) (rest := []) (w' := (w_xsh ky aX aB aP aT aR aK aH aG aS aS0 aS1 aS2 aS3 aI0 aI1 aI2 aI3 sla ssz (va_up sit 1 v17))) ⟨hx, hb, hml, hown, hts⟩ hK hP hD hS hA (c_X5_put l D ky aS1 aI1 _ N  (sla 1) (ssz 1) (sit 1) p2 p3 v17 h16) (cwV 2 hts gX8_item_X5_put rfl rfl rfl (by decide +kernel) ⟨Nat.le_of_ble_eq_true rfl, Nat.le_of_ble_eq_true rfl⟩) [4, 5] [0, 1, 2, 3, 6, 7, 8, 9] [0, 1, 2, 3, 8, 9, 4, 5, 6, 7] 0 4 rfl rfl rfl rfl (wr := [(aX, .inr (7, [.ref aB, .ref aP, .ref aT, .ref aR, .ref aK, .ref aH, .ref aG, .ref aS])), (aS, .inl (ky 3, 4, .inr (.inr (.inr (.inr (shf aS0 aS1 aS2 aS3)))))), (aS0, .inr (4, [.ref aI0, .int (sla 0), .int (ssz 0)])), (aI0, .inl (ky 0, 36, .inl (sit 0))), (aS2, .inr (4, [.ref aI2, .int (sla 2), .int (ssz 2)])), (aI2, .inl (ky 0, 36, .inl (sit 2))), (aS3, .inr (4, [.ref aI3, .int (sla 3), .int (ssz 3)])), (aI3, .inl (ky 0, 36, .inl (sit 3)))]) rfl (by decide) rfl rfl hl.1 (Nat.le_of_ble_eq_true rfl) dX8_item_44 ⟨Nat.zero_le _, Nat.zero_le _⟩ (fun H locs hP hD hS => ?_)
        refine lv_iconst (v := (1 : Int32)) hx hb dX8_item_47 (by decide) ?_
        have hF := Option.some.inj hF
        subst hF
        exact hQ _ _ _ _ dX8_item_48 hP hD hS
      · have hF := if_f c15 hF
        refine lv_iload hx hb dX8_item_36 (lv_at hl 0 rfl) ?_
        have hF := Option.some.inj hF
        subst hF
        exact hQ _ _ _ _ dX8_item_38 hP hD hS
    · have hF := if_t c12 hF
      refine lv_iconst (v := (-1 : Int32)) hx hb dX8_item_19 (by decide) ?_
      have hF := Option.some.inj hF
      subst hF
      exact hQ _ _ _ _ dX8_item_20 hP hD hS
  · refine cl_vq (ro := (some aS2)) (As := [.int p0]) (rest := []) (w' := (w_xsh ky aX aB aP aT aR aK aH aG aS aS0 aS1 aS2 aS3 aI0 aI1 aI2 aI3 sla ssz sit)) ⟨hx, hb, hml, hown, hts⟩ hK hP hD hS hA (c_X8_sheetAt l D ky aX aB aP aT aR aK aH aG aS aS0 aS1 aS2 aS3 _ p0 (some aS2) (Or.inr ⟨by rw [h1]; decide, by rw [h1]; rfl⟩)) (cwV 1 hts gX8_item_X8_sheetAt rfl rfl rfl (by decide +kernel) ⟨Nat.le_of_ble_eq_true rfl, Nat.le_of_ble_eq_true rfl⟩) [0, 1] [2, 3, 4, 5, 6, 7, 8, 9] [8, 9, 0, 1, 2, 3, 4, 5, 6, 7] 0 7 rfl rfl rfl rfl (wr := [(aS0, .inr (4, [.ref aI0, .int (sla 0), .int (ssz 0)])), (aI0, .inl (ky 0, 36, .inl (sit 0))), (aS1, .inr (4, [.ref aI1, .int (sla 1), .int (ssz 1)])), (aI1, .inl (ky 0, 36, .inl (sit 1))), (aS2, .inr (4, [.ref aI2, .int (sla 2), .int (ssz 2)])), (aI2, .inl (ky 0, 36, .inl (sit 2))), (aS3, .inr (4, [.ref aI3, .int (sla 3), .int (ssz 3)])), (aI3, .inl (ky 0, 36, .inl (sit 3)))]) rfl (by decide) rfl rfl hl.1 (Nat.le_of_ble_eq_true rfl) dX8_item_2 ⟨Nat.zero_le _, Nat.zero_le _⟩ (fun H locs hP hD hS => ?_)
    refine lv_astore (lv' := [(5, .ref aS2), (0, .ref aX), (1, .int p0), (2, .int p1), (3, .int p2), (4, .int p3)]) hx hb dX8_item_5 hl (by decide) rfl (fun ls hl => ?_)
    refine lv_aload hx hb dX8_item_7 (lv_at hl 0 rfl) ?_
    refine lv_ifnull hx hb dX8_item_9 ?_
    refine lv_iload_n hx hb dX8_item_12 rfl (lv_at hl 3 rfl) ?_
    obtain ⟨r19, h18, hF⟩ := b1_s hF
    refine cl_si (As := [.int p1]) (rest := []) ⟨hx, hb, hml, hown, hts⟩ hK hP hD hS hA (c_X8_isLane l D ky  _ N   p1 r19 h18) (va_cwS 1 hts gX8_item_X8_isLane rfl rfl rfl (by decide +kernel) ⟨Nat.le_of_ble_eq_true rfl, Nat.le_of_ble_eq_true rfl⟩) rfl hl.1 (Nat.le_of_ble_eq_true rfl) dX8_item_13 ⟨Nat.zero_le _, Nat.zero_le _⟩ (fun H locs hP hD hS => ?_)
    refine lv_if_ne (tgt := 21) hx hb dX8_item_16 (by decide) (fun c20 => ?_) (fun c20 => ?_)
    · have hF := if_f c20 hF
      refine lv_aload hx hb dX8_item_21 (lv_at hl 0 rfl) ?_
      refine lv_iload_n hx hb dX8_item_23 rfl (lv_at hl 3 rfl) ?_
      refine lv_iload_n hx hb dX8_item_24 rfl (lv_at hl 4 rfl) ?_
      refine lv_iconst (v := (1 : Int32)) hx hb dX8_item_25 (by decide) ?_
      obtain ⟨r22, h21, hF⟩ := b1_s hF
      refine cl_vi (As := [.int p1, .int p2, .int (1 : Int32)]) (rest := []) (w' := (w_xsh ky aX aB aP aT aR aK aH aG aS aS0 aS1 aS2 aS3 aI0 aI1 aI2 aI3 sla ssz sit)) ⟨hx, hb, hml, hown, hts⟩ hK hP hD hS hA (c_X5_refusal l D ky aS2 aI2 _ N  (sla 2) (ssz 2) (sit 2) p1 p2 (1 : Int32) r22 h21) (cwV 3 hts gX8_item_X5_refusal rfl rfl rfl (by decide +kernel) ⟨Nat.le_of_ble_eq_true rfl, Nat.le_of_ble_eq_true rfl⟩) [6, 7] [0, 1, 2, 3, 4, 5, 8, 9] [0, 1, 2, 3, 4, 5, 8, 9, 6, 7] 0 4 rfl rfl rfl rfl (wr := [(aX, .inr (7, [.ref aB, .ref aP, .ref aT, .ref aR, .ref aK, .ref aH, .ref aG, .ref aS])), (aS, .inl (ky 3, 4, .inr (.inr (.inr (.inr (shf aS0 aS1 aS2 aS3)))))), (aS0, .inr (4, [.ref aI0, .int (sla 0), .int (ssz 0)])), (aI0, .inl (ky 0, 36, .inl (sit 0))), (aS1, .inr (4, [.ref aI1, .int (sla 1), .int (ssz 1)])), (aI1, .inl (ky 0, 36, .inl (sit 1))), (aS3, .inr (4, [.ref aI3, .int (sla 3), .int (ssz 3)])), (aI3, .inl (ky 0, 36, .inl (sit 3)))]) rfl (by decide) rfl rfl hl.1 (Nat.le_of_ble_eq_true rfl) dX8_item_26 ⟨Nat.zero_le _, Nat.zero_le _⟩ (fun H locs hP hD hS => ?_)
      refine lv_istore (lv' := [(6, .int r22), (5, .ref aS2), (0, .ref aX), (1, .int p0), (2, .int p1), (3, .int p2), (4, .int p3)]) hx hb dX8_item_29 hl (by decide) rfl (fun ls hl => ?_)
      refine lv_iload hx hb dX8_item_31 (lv_at hl 0 rfl) ?_
      refine lv_if_ge (tgt := 39) hx hb dX8_item_33 (by decide) (fun c23 => ?_) (fun c23 => ?_)
      · have hF := if_t c23 hF
        refine lv_aload hx hb dX8_item_39 (lv_at hl 1 rfl) ?_
        refine lv_iload_n hx hb dX8_item_41 rfl (lv_at hl 5 rfl) ?_
        refine lv_iload hx hb dX8_item_42 (lv_at hl 6 rfl) ?_
        obtain ⟨v25, h24, hF⟩ := b1_s hF
        refine cl_vv (As := [.int p2, .int p3]) (rest := []) (w' := (w_xsh ky aX aB aP aT aR aK aH aG aS aS0 aS1 aS2 aS3 aI0 aI1 aI2 aI3 sla ssz (va_up sit 2 v25))) ⟨hx, hb, hml, hown, hts⟩ hK hP hD hS hA (c_X5_put l D ky aS2 aI2 _ N  (sla 2) (ssz 2) (sit 2) p2 p3 v25 h24) (cwV 2 hts gX8_item_X5_put rfl rfl rfl (by decide +kernel) ⟨Nat.le_of_ble_eq_true rfl, Nat.le_of_ble_eq_true rfl⟩) [6, 7] [0, 1, 2, 3, 4, 5, 8, 9] [0, 1, 2, 3, 4, 5, 8, 9, 6, 7] 0 4 rfl rfl rfl rfl (wr := [(aX, .inr (7, [.ref aB, .ref aP, .ref aT, .ref aR, .ref aK, .ref aH, .ref aG, .ref aS])), (aS, .inl (ky 3, 4, .inr (.inr (.inr (.inr (shf aS0 aS1 aS2 aS3)))))), (aS0, .inr (4, [.ref aI0, .int (sla 0), .int (ssz 0)])), (aI0, .inl (ky 0, 36, .inl (sit 0))), (aS1, .inr (4, [.ref aI1, .int (sla 1), .int (ssz 1)])), (aI1, .inl (ky 0, 36, .inl (sit 1))), (aS3, .inr (4, [.ref aI3, .int (sla 3), .int (ssz 3)])), (aI3, .inl (ky 0, 36, .inl (sit 3)))]) rfl (by decide) rfl rfl hl.1 (Nat.le_of_ble_eq_true rfl) dX8_item_44 ⟨Nat.zero_le _, Nat.zero_le _⟩ (fun H locs hP hD hS => ?_)
        refine lv_iconst (v := (1 : Int32)) hx hb dX8_item_47 (by decide) ?_
        have hF := Option.some.inj hF
        subst hF
        exact hQ _ _ _ _ dX8_item_48 hP hD hS
      · have hF := if_f c23 hF
        refine lv_iload hx hb dX8_item_36 (lv_at hl 0 rfl) ?_
        have hF := Option.some.inj hF
        subst hF
        exact hQ _ _ _ _ dX8_item_38 hP hD hS
    · have hF := if_t c20 hF
      refine lv_iconst (v := (-1 : Int32)) hx hb dX8_item_19 (by decide) ?_
      have hF := Option.some.inj hF
      subst hF
      exact hQ _ _ _ _ dX8_item_20 hP hD hS
  · refine cl_vq (ro := (some aS3)) (As := [.int p0]) (rest := []) (w' := (w_xsh ky aX aB aP aT aR aK aH aG aS aS0 aS1 aS2 aS3 aI0 aI1 aI2 aI3 sla ssz sit)) ⟨hx, hb, hml, hown, hts⟩ hK hP hD hS hA (c_X8_sheetAt l D ky aX aB aP aT aR aK aH aG aS aS0 aS1 aS2 aS3 _ p0 (some aS3) (Or.inr ⟨by rw [h1]; decide, by rw [h1]; rfl⟩)) (cwV 1 hts gX8_item_X8_sheetAt rfl rfl rfl (by decide +kernel) ⟨Nat.le_of_ble_eq_true rfl, Nat.le_of_ble_eq_true rfl⟩) [0, 1] [2, 3, 4, 5, 6, 7, 8, 9] [8, 9, 0, 1, 2, 3, 4, 5, 6, 7] 0 7 rfl rfl rfl rfl (wr := [(aS0, .inr (4, [.ref aI0, .int (sla 0), .int (ssz 0)])), (aI0, .inl (ky 0, 36, .inl (sit 0))), (aS1, .inr (4, [.ref aI1, .int (sla 1), .int (ssz 1)])), (aI1, .inl (ky 0, 36, .inl (sit 1))), (aS2, .inr (4, [.ref aI2, .int (sla 2), .int (ssz 2)])), (aI2, .inl (ky 0, 36, .inl (sit 2))), (aS3, .inr (4, [.ref aI3, .int (sla 3), .int (ssz 3)])), (aI3, .inl (ky 0, 36, .inl (sit 3)))]) rfl (by decide) rfl rfl hl.1 (Nat.le_of_ble_eq_true rfl) dX8_item_2 ⟨Nat.zero_le _, Nat.zero_le _⟩ (fun H locs hP hD hS => ?_)
    refine lv_astore (lv' := [(5, .ref aS3), (0, .ref aX), (1, .int p0), (2, .int p1), (3, .int p2), (4, .int p3)]) hx hb dX8_item_5 hl (by decide) rfl (fun ls hl => ?_)
    refine lv_aload hx hb dX8_item_7 (lv_at hl 0 rfl) ?_
    refine lv_ifnull hx hb dX8_item_9 ?_
    refine lv_iload_n hx hb dX8_item_12 rfl (lv_at hl 3 rfl) ?_
    obtain ⟨r27, h26, hF⟩ := b1_s hF
    refine cl_si (As := [.int p1]) (rest := []) ⟨hx, hb, hml, hown, hts⟩ hK hP hD hS hA (c_X8_isLane l D ky  _ N   p1 r27 h26) (va_cwS 1 hts gX8_item_X8_isLane rfl rfl rfl (by decide +kernel) ⟨Nat.le_of_ble_eq_true rfl, Nat.le_of_ble_eq_true rfl⟩) rfl hl.1 (Nat.le_of_ble_eq_true rfl) dX8_item_13 ⟨Nat.zero_le _, Nat.zero_le _⟩ (fun H locs hP hD hS => ?_)
    refine lv_if_ne (tgt := 21) hx hb dX8_item_16 (by decide) (fun c28 => ?_) (fun c28 => ?_)
    · have hF := if_f c28 hF
      refine lv_aload hx hb dX8_item_21 (lv_at hl 0 rfl) ?_
      refine lv_iload_n hx hb dX8_item_23 rfl (lv_at hl 3 rfl) ?_
      refine lv_iload_n hx hb dX8_item_24 rfl (lv_at hl 4 rfl) ?_
      refine lv_iconst (v := (1 : Int32)) hx hb dX8_item_25 (by decide) ?_
      obtain ⟨r30, h29, hF⟩ := b1_s hF
      refine cl_vi (As := [.int p1, .int p2, .int (1 : Int32)]) (rest := []) (w' := (w_xsh ky aX aB aP aT aR aK aH aG aS aS0 aS1 aS2 aS3 aI0 aI1 aI2 aI3 sla ssz sit)) ⟨hx, hb, hml, hown, hts⟩ hK hP hD hS hA (c_X5_refusal l D ky aS3 aI3 _ N  (sla 3) (ssz 3) (sit 3) p1 p2 (1 : Int32) r30 h29) (cwV 3 hts gX8_item_X5_refusal rfl rfl rfl (by decide +kernel) ⟨Nat.le_of_ble_eq_true rfl, Nat.le_of_ble_eq_true rfl⟩) [8, 9] [0, 1, 2, 3, 4, 5, 6, 7] [0, 1, 2, 3, 4, 5, 6, 7, 8, 9] 0 4 rfl rfl rfl rfl (wr := [(aX, .inr (7, [.ref aB, .ref aP, .ref aT, .ref aR, .ref aK, .ref aH, .ref aG, .ref aS])), (aS, .inl (ky 3, 4, .inr (.inr (.inr (.inr (shf aS0 aS1 aS2 aS3)))))), (aS0, .inr (4, [.ref aI0, .int (sla 0), .int (ssz 0)])), (aI0, .inl (ky 0, 36, .inl (sit 0))), (aS1, .inr (4, [.ref aI1, .int (sla 1), .int (ssz 1)])), (aI1, .inl (ky 0, 36, .inl (sit 1))), (aS2, .inr (4, [.ref aI2, .int (sla 2), .int (ssz 2)])), (aI2, .inl (ky 0, 36, .inl (sit 2)))]) rfl (by decide) rfl rfl hl.1 (Nat.le_of_ble_eq_true rfl) dX8_item_26 ⟨Nat.zero_le _, Nat.zero_le _⟩ (fun H locs hP hD hS => ?_)
      refine lv_istore (lv' := [(6, .int r30), (5, .ref aS3), (0, .ref aX), (1, .int p0), (2, .int p1), (3, .int p2), (4, .int p3)]) hx hb dX8_item_29 hl (by decide) rfl (fun ls hl => ?_)
      refine lv_iload hx hb dX8_item_31 (lv_at hl 0 rfl) ?_
      refine lv_if_ge (tgt := 39) hx hb dX8_item_33 (by decide) (fun c31 => ?_) (fun c31 => ?_)
      · have hF := if_t c31 hF
        refine lv_aload hx hb dX8_item_39 (lv_at hl 1 rfl) ?_
        refine lv_iload_n hx hb dX8_item_41 rfl (lv_at hl 5 rfl) ?_
        refine lv_iload hx hb dX8_item_42 (lv_at hl 6 rfl) ?_
        obtain ⟨v33, h32, hF⟩ := b1_s hF
        refine cl_vv (As := [.int p2, .int p3]) (rest := []) (w' := (w_xsh ky aX aB aP aT aR aK aH aG aS aS0 aS1 aS2 aS3 aI0 aI1 aI2 aI3 sla ssz (va_up sit 3 v33))) ⟨hx, hb, hml, hown, hts⟩ hK hP hD hS hA (c_X5_put l D ky aS3 aI3 _ N  (sla 3) (ssz 3) (sit 3) p2 p3 v33 h32) (cwV 2 hts gX8_item_X5_put rfl rfl rfl (by decide +kernel) ⟨Nat.le_of_ble_eq_true rfl, Nat.le_of_ble_eq_true rfl⟩) [8, 9] [0, 1, 2, 3, 4, 5, 6, 7] [0, 1, 2, 3, 4, 5, 6, 7, 8, 9] 0 4 rfl rfl rfl rfl (wr := [(aX, .inr (7, [.ref aB, .ref aP, .ref aT, .ref aR, .ref aK, .ref aH, .ref aG, .ref aS])), (aS, .inl (ky 3, 4, .inr (.inr (.inr (.inr (shf aS0 aS1 aS2 aS3)))))), (aS0, .inr (4, [.ref aI0, .int (sla 0), .int (ssz 0)])), (aI0, .inl (ky 0, 36, .inl (sit 0))), (aS1, .inr (4, [.ref aI1, .int (sla 1), .int (ssz 1)])), (aI1, .inl (ky 0, 36, .inl (sit 1))), (aS2, .inr (4, [.ref aI2, .int (sla 2), .int (ssz 2)])), (aI2, .inl (ky 0, 36, .inl (sit 2)))]) rfl (by decide) rfl rfl hl.1 (Nat.le_of_ble_eq_true rfl) dX8_item_44 ⟨Nat.zero_le _, Nat.zero_le _⟩ (fun H locs hP hD hS => ?_)
        refine lv_iconst (v := (1 : Int32)) hx hb dX8_item_47 (by decide) ?_
        have hF := Option.some.inj hF
        subst hF
        exact hQ _ _ _ _ dX8_item_48 hP hD hS
      · have hF := if_f c31 hF
        refine lv_iload hx hb dX8_item_36 (lv_at hl 0 rfl) ?_
        have hF := Option.some.inj hF
        subst hF
        exact hQ _ _ _ _ dX8_item_38 hP hD hS
    · have hF := if_t c28 hF
      refine lv_iconst (v := (-1 : Int32)) hx hb dX8_item_19 (by decide) ?_
      have hF := Option.some.inj hF
      subst hF
      exact hQ _ _ _ _ dX8_item_20 hP hD hS
theorem c_X8_item (l : Launch) (D : va_G) (ky : Nat → ClassId) (aX aB aP aT aR aK aH aG aS aS0 aS1 aS2 aS3 aI0 aI1 aI2 aI3 : Nat) (sz N : Nat)  (sla : Nat → Int32) (ssz : Nat → Int32) (sit : Nat → Nat → Int32) (p0 : Int32) (p1 : Int32) (p2 : Int32) (p3 : Int32) (rv : Int32) (sit' : Nat → Nat → Int32) (hF : f_X8_item N p0 p1 p2 p3 sla ssz sit = some (rv, sit')) : MI l yX8_item wsX8_item rm_X8_item D ky sz [.ref aX, .int p0, .int p1, .int p2, .int p3] (w_xsh ky aX aB aP aT aR aK aH aG aS aS0 aS1 aS2 aS3 aI0 aI1 aI2 aI3 sla ssz sit) (w_xsh ky aX aB aP aT aR aK aH aG aS aS0 aS1 aS2 aS3 aI0 aI1 aI2 aI3 sla ssz sit') rv :=
  cr_X8_item l D ky aX aB aP aT aR aK aH aG aS aS0 aS1 aS2 aS3 aI0 aI1 aI2 aI3 sz N sla ssz sit p0 p1 p2 p3 (rv, sit') hF
abbrev rm_X8_rows : Room := { frames := 4, cells := 0, slots := 0, locals := 90 }
theorem iX8_rows_X8 : ∀ w ∈ wsX80, w ∈ wsX8_rows := by decide +kernel
theorem kX8_rows_1 : (Cond.fieldLink RX8 10 "TwoLaws" "book" "LTwoLaws$Book;") ∈ wsX8_rows := by decide +kernel
set_option maxHeartbeats 4000000 in
set_option maxRecDepth 100000 in
theorem w_X8_rows_92_s0 {p : Program} {l : Launch} {e : Env} {s : State} {m : MethodId} {args : Array Value} {below : List Frame} {meth : Method} {c : Code} {Q : State → Prop} {A : Nat → Prop} {D : va_G} {ky : Nat → ClassId} {aX aB aP aT aR aK aH aG aS aS0 aS1 aS2 aS3 aI0 aI1 aI2 aI3 ax au ay am : Nat} {sla : Nat → Int32} {ssz : Nat → Int32} {sit : Nat → Nat → Int32} {ber : Int32} (N : Nat) (C : cx p s m c args D ky A cX8_rows 9 wsX8_rows RX8) (res : Int32 × Int32 × Int32 × (Nat → Int32) × (Nat → Int32) × (Nat → Int32) × (Nat → Int32)) (hQ : ∀ (pc : Nat) (H : Heap) (locs : List Loc) (ls : Array Slot), decode cX8_rows pc = .ok (.ireturn, 1) → va_P D vwCl (w_xshb ky aX aB aP aT aR aK aH aG aS aS0 aS1 aS2 aS3 aI0 aI1 aI2 aI3 ax au ay am sla ssz sit res.2.1 res.2.2.1 ber res.2.2.2.1 res.2.2.2.2.1 res.2.2.2.2.2.1 res.2.2.2.2.2.2) H → va_D A (w_xshb ky aX aB aP aT aR aK aH aG aS aS0 aS1 aS2 aS3 aI0 aI1 aI2 aI3 ax au ay am sla ssz sit res.2.1 res.2.2.1 ber res.2.2.2.1 res.2.2.2.2.1 res.2.2.2.2.2.1 res.2.2.2.2.2.2) → va_S A s.heap H locs → W p l e rm_X8_rows s m args below meth c H locs 0 0 Q (F0 m pc ls [.int res.1])) (l3 : Int32) (l4 : Int32) : ∀ (n : Nat) (l7 : Int32) (bsz : Int32) (bgp : Int32) (bxs : Nat → Int32) (bus : Nat → Int32) (bys : Nat → Int32) (bme : Nat → Int32), f_X8_rows_92 N 0 l3 l4 ssz sit ber n l7 bsz bgp bxs bus bys bme = some res → ∀ (H : Heap) (locs : List Loc) (ls : Array Slot), va_P D vwCl (w_xshb ky aX aB aP aT aR aK aH aG aS aS0 aS1 aS2 aS3 aI0 aI1 aI2 aI3 ax au ay am sla ssz sit bsz bgp ber bxs bus bys bme) H → va_D A (w_xshb ky aX aB aP aT aR aK aH aG aS aS0 aS1 aS2 aS3 aI0 aI1 aI2 aI3 ax au ay am sla ssz sit bsz bgp ber bxs bus bys bme) → va_S A s.heap H locs → lv_has ls 9 [(0, .ref aX), (3, .int l3), (4, .int l4), (5, .ref aS0), (7, .int l7)] → W p l e rm_X8_rows s m args below meth c H locs 0 0 Q (F0 m 92 ls []) := by
  obtain ⟨hx, hb, hml, hown, hts, hK, hA⟩ := id C
  intro n
  induction n with
  | zero =>
    intro l7 bsz bgp bxs bus bys bme hF
    cases hF
  | succ n ih =>
    intro l7 bsz bgp bxs bus bys bme hF H locs ls hP hD hS hl
    have hF : b_X8_rows_92 N 0 l3 l4 ssz sit ber (f_X8_rows_92 N 0 l3 l4 ssz sit ber n) l7 bsz bgp bxs bus bys bme = some res := hF
    unfold b_X8_rows_92 at hF
    refine lv_iload hx hb dX8_rows_92 (lv_at hl 4 rfl) ?_
    refine lv_iload hx hb dX8_rows_94 (lv_at hl 2 rfl) ?_
    refine lv_icmp_ge (tgt := 147) hx hb dX8_rows_96 (by decide) (fun c58 => ?_) (fun c58 => ?_)
    · have hF := if_t c58 hF
      refine lv_iload hx hb dX8_rows_147 (lv_at hl 2 rfl) ?_
      have hF := Option.some.inj hF
      subst hF
      exact hQ _ H _ _ dX8_rows_149 hP hD hS
    · have hF := if_f c58 hF
      refine lv_iload_n hx hb dX8_rows_99 rfl (lv_at hl 1 rfl) ?_
      refine lv_iconst (v := (3 : Int32)) hx hb dX8_rows_100 (by decide) ?_
      refine lv_iload hx hb dX8_rows_101 (lv_at hl 4 rfl) ?_
      refine lv_imul hx hb dX8_rows_103 ?_
      refine lv_iadd hx hb dX8_rows_104 ?_
      refine lv_istore (lv' := [(8, .int (l3 + ((3 : Int32) * l7))), (0, .ref aX), (3, .int l3), (4, .int l4), (5, .ref aS0), (7, .int l7)]) hx hb dX8_rows_105 hl (by decide) rfl (fun ls hl => ?_)
      refine lv_aload_n hx hb dX8_rows_107 rfl (lv_at hl 1 rfl) ?_
      refine va_get (D := D) (ci := 7) (v := .ref aB) (C := RX8) (T := TX8) (N := 8) hx hb hts iX8_rows_X8 hown hK hP 0 rfl rfl 0 (by decide) (hts _ kX8_rows_1) (fun _ h9 => h9) rfl dX8_rows_108 ?_
      refine lv_aload hx hb dX8_rows_111 (lv_at hl 4 rfl) ?_
      refine lv_iload hx hb dX8_rows_113 (lv_at hl 0 rfl) ?_
      obtain ⟨r60, h59, hF⟩ := b1_s hF
      refine cl_vi (As := [.int (l3 + ((3 : Int32) * l7))]) (rest := [.ref aB]) (w' := (w_xshb ky aX aB aP aT aR aK aH aG aS aS0 aS1 aS2 aS3 aI0 aI1 aI2 aI3 ax au ay am sla ssz sit bsz bgp ber bxs bus bys bme)) ⟨hx, hb, hml, hown, hts⟩ hK hP hD hS hA (c_X5_at l D ky aS0 aI0 _ N  (sla 0) (ssz 0) (sit 0) (l3 + ((3 : Int32) * l7)) r60 h59) (cwV 1 hts gX8_rows_X5_at rfl rfl rfl (by decide +kernel) ⟨Nat.le_of_ble_eq_true rfl, Nat.le_of_ble_eq_true rfl⟩) [2, 3] [0, 1, 4, 5, 6, 7, 8, 9, 10, 11, 12, 13, 14] [0, 1, 13, 14, 2, 3, 4, 5, 6, 7, 8, 9, 10, 11, 12] 0 4 rfl rfl rfl rfl (wr := [(aX, .inr (7, [.ref aB, .ref aP, .ref aT, .ref aR, .ref aK, .ref aH, .ref aG, .ref aS])), (aS, .inl (ky 3, 4, .inr (.inr (.inr (.inr (shf aS0 aS1 aS2 aS3)))))), (aS1, .inr (4, [.ref aI1, .int (sla 1), .int (ssz 1)])), (aI1, .inl (ky 0, 36, .inl (sit 1))), (aS2, .inr (4, [.ref aI2, .int (sla 2), .int (ssz 2)])), (aI2, .inl (ky 0, 36, .inl (sit 2))), (aS3, .inr (4, [.ref aI3, .int (sla 3), .int (ssz 3)])), (aI3, .inl (ky 0, 36, .inl (sit 3))), (aB, .inr (0, [.ref ax, .ref au, .ref ay, .ref am, .int bsz, .int bgp, .int ber])), (ax, .inl (ky 0, 12, .inl bxs)), (au, .inl (ky 0, 12, .inl bus)), (ay, .inl (ky 0, 12, .inl bys)), (am, .inl (ky 0, 289, .inl bme))]) rfl (by decide) rfl rfl hl.1 (Nat.le_of_ble_eq_true rfl) dX8_rows_115 ⟨Nat.zero_le _, Nat.zero_le _⟩ (fun H locs hP hD hS => ?_)
      refine lv_aload hx hb dX8_rows_118 (lv_at hl 4 rfl) ?_
      refine lv_iload hx hb dX8_rows_120 (lv_at hl 0 rfl) ?_
      refine lv_iconst (v := (1 : Int32)) hx hb dX8_rows_122 (by decide) ?_
      refine lv_iadd hx hb dX8_rows_123 ?_
      obtain ⟨r62, h61, hF⟩ := b1_s hF
      refine cl_vi (As := [.int ((l3 + ((3 : Int32) * l7)) + (1 : Int32))]) (rest := [.int r60, .ref aB]) (w' := (w_xshb ky aX aB aP aT aR aK aH aG aS aS0 aS1 aS2 aS3 aI0 aI1 aI2 aI3 ax au ay am sla ssz sit bsz bgp ber bxs bus bys bme)) ⟨hx, hb, hml, hown, hts⟩ hK hP hD hS hA (c_X5_at l D ky aS0 aI0 _ N  (sla 0) (ssz 0) (sit 0) ((l3 + ((3 : Int32) * l7)) + (1 : Int32)) r62 h61) (cwV 1 hts gX8_rows_X5_at rfl rfl rfl (by decide +kernel) ⟨Nat.le_of_ble_eq_true rfl, Nat.le_of_ble_eq_true rfl⟩) [2, 3] [0, 1, 4, 5, 6, 7, 8, 9, 10, 11, 12, 13, 14] [0, 1, 13, 14, 2, 3, 4, 5, 6, 7, 8, 9, 10, 11, 12] 0 4 rfl rfl rfl rfl (wr := [(aX, .inr (7, [.ref aB, .ref aP, .ref aT, .ref aR, .ref aK, .ref aH, .ref aG, .ref aS])), (aS, .inl (ky 3, 4, .inr (.inr (.inr (.inr (shf aS0 aS1 aS2 aS3)))))), (aS1, .inr (4, [.ref aI1, .int (sla 1), .int (ssz 1)])), (aI1, .inl (ky 0, 36, .inl (sit 1))), (aS2, .inr (4, [.ref aI2, .int (sla 2), .int (ssz 2)])), (aI2, .inl (ky 0, 36, .inl (sit 2))), (aS3, .inr (4, [.ref aI3, .int (sla 3), .int (ssz 3)])), (aI3, .inl (ky 0, 36, .inl (sit 3))), (aB, .inr (0, [.ref ax, .ref au, .ref ay, .ref am, .int bsz, .int bgp, .int ber])), (ax, .inl (ky 0, 12, .inl bxs)), (au, .inl (ky 0, 12, .inl bus)), (ay, .inl (ky 0, 12, .inl bys)), (am, .inl (ky 0, 289, .inl bme))]) rfl (by decide) rfl rfl hl.1 (Nat.le_of_ble_eq_true rfl) dX8_rows_124 ⟨Nat.zero_le _, Nat.zero_le _⟩ (fun H locs hP hD hS => ?_)
      refine lv_aload hx hb dX8_rows_127 (lv_at hl 4 rfl) ?_
      refine lv_iload hx hb dX8_rows_129 (lv_at hl 0 rfl) ?_
      refine lv_iconst (v := (2 : Int32)) hx hb dX8_rows_131 (by decide) ?_
      refine lv_iadd hx hb dX8_rows_132 ?_
      obtain ⟨r64, h63, hF⟩ := b1_s hF
      refine cl_vi (As := [.int ((l3 + ((3 : Int32) * l7)) + (2 : Int32))]) (rest := [.int r62, .int r60, .ref aB]) (w' := (w_xshb ky aX aB aP aT aR aK aH aG aS aS0 aS1 aS2 aS3 aI0 aI1 aI2 aI3 ax au ay am sla ssz sit bsz bgp ber bxs bus bys bme)) ⟨hx, hb, hml, hown, hts⟩ hK hP hD hS hA (c_X5_at l D ky aS0 aI0 _ N  (sla 0) (ssz 0) (sit 0) ((l3 + ((3 : Int32) * l7)) + (2 : Int32)) r64 h63) (cwV 1 hts gX8_rows_X5_at rfl rfl rfl (by decide +kernel) ⟨Nat.le_of_ble_eq_true rfl, Nat.le_of_ble_eq_true rfl⟩) [2, 3] [0, 1, 4, 5, 6, 7, 8, 9, 10, 11, 12, 13, 14] [0, 1, 13, 14, 2, 3, 4, 5, 6, 7, 8, 9, 10, 11, 12] 0 4 rfl rfl rfl rfl (wr := [(aX, .inr (7, [.ref aB, .ref aP, .ref aT, .ref aR, .ref aK, .ref aH, .ref aG, .ref aS])), (aS, .inl (ky 3, 4, .inr (.inr (.inr (.inr (shf aS0 aS1 aS2 aS3)))))), (aS1, .inr (4, [.ref aI1, .int (sla 1), .int (ssz 1)])), (aI1, .inl (ky 0, 36, .inl (sit 1))), (aS2, .inr (4, [.ref aI2, .int (sla 2), .int (ssz 2)])), (aI2, .inl (ky 0, 36, .inl (sit 2))), (aS3, .inr (4, [.ref aI3, .int (sla 3), .int (ssz 3)])), (aI3, .inl (ky 0, 36, .inl (sit 3))), (aB, .inr (0, [.ref ax, .ref au, .ref ay, .ref am, .int bsz, .int bgp, .int ber])), (ax, .inl (ky 0, 12, .inl bxs)), (au, .inl (ky 0, 12, .inl bus)), (ay, .inl (ky 0, 12, .inl bys)), (am, .inl (ky 0, 289, .inl bme))]) rfl (by decide) rfl rfl hl.1 (Nat.le_of_ble_eq_true rfl) dX8_rows_133 ⟨Nat.zero_le _, Nat.zero_le _⟩ (fun H locs hP hD hS => ?_)
      refine lv_iconst (v := (0 : Int32)) hx hb dX8_rows_136 (by decide) ?_
      obtain ⟨r66, v67, v68, v69, v70, v71, v72, h65, hF⟩ := b7_s hF
      refine cl_vi (As := [.int r60, .int r62, .int r64, .int (0 : Int32)]) (rest := []) (w' := (w_xshb ky aX aB aP aT aR aK aH aG aS aS0 aS1 aS2 aS3 aI0 aI1 aI2 aI3 ax au ay am sla ssz sit v67 v68 ber v69 v70 v71 v72)) ⟨hx, hb, hml, hown, hts⟩ hK hP hD hS hA (c_X0_add l D ky aB ax au ay am _ N  bsz bgp ber bxs bus bys bme r60 r62 r64 (0 : Int32) r66 v67 v68 v69 v70 v71 v72 h65) (cwV 4 hts gX8_rows_X0_add rfl rfl rfl (by decide +kernel) ⟨Nat.le_of_ble_eq_true rfl, Nat.le_of_ble_eq_true rfl⟩) [10, 11, 12, 13, 14] [0, 1, 2, 3, 4, 5, 6, 7, 8, 9] [0, 1, 2, 3, 4, 5, 6, 7, 8, 9, 10, 11, 12, 13, 14] 0 0 rfl rfl rfl rfl (wr := [(aX, .inr (7, [.ref aB, .ref aP, .ref aT, .ref aR, .ref aK, .ref aH, .ref aG, .ref aS])), (aS, .inl (ky 3, 4, .inr (.inr (.inr (.inr (shf aS0 aS1 aS2 aS3)))))), (aS0, .inr (4, [.ref aI0, .int (sla 0), .int (ssz 0)])), (aI0, .inl (ky 0, 36, .inl (sit 0))), (aS1, .inr (4, [.ref aI1, .int (sla 1), .int (ssz 1)])), (aI1, .inl (ky 0, 36, .inl (sit 1))), (aS2, .inr (4, [.ref aI2, .int (sla 2), .int (ssz 2)])), (aI2, .inl (ky 0, 36, .inl (sit 2))), (aS3, .inr (4, [.ref aI3, .int (sla 3), .int (ssz 3)])), (aI3, .inl (ky 0, 36, .inl (sit 3)))]) rfl (by decide) rfl rfl hl.1 (Nat.le_of_ble_eq_true rfl) dX8_rows_137 ⟨Nat.zero_le _, Nat.zero_le _⟩ (fun H locs hP hD hS => ?_)
      refine lv_pop hx hb dX8_rows_140 rfl ?_
      refine lv_iinc (v := (l7 + (1 : Int32))) (lv' := [(7, .int (l7 + (1 : Int32))), (8, .int (l3 + ((3 : Int32) * l7))), (0, .ref aX), (3, .int l3), (4, .int l4), (5, .ref aS0)]) hx hb dX8_rows_141 hl (k := 5) rfl rfl (by decide) rfl (fun ls hl => ?_)
      refine lv_goto (tgt := 92) hx hb dX8_rows_144 (by decide) ?_
      exact ih (l7 + (1 : Int32)) v67 v68 v69 v70 v71 v72 hF H _ _ hP hD hS (lv_sub hl [2, 3, 4, 5, 0] rfl)
set_option maxHeartbeats 4000000 in
set_option maxRecDepth 100000 in
theorem w_X8_rows_92_s1 {p : Program} {l : Launch} {e : Env} {s : State} {m : MethodId} {args : Array Value} {below : List Frame} {meth : Method} {c : Code} {Q : State → Prop} {A : Nat → Prop} {D : va_G} {ky : Nat → ClassId} {aX aB aP aT aR aK aH aG aS aS0 aS1 aS2 aS3 aI0 aI1 aI2 aI3 ax au ay am : Nat} {sla : Nat → Int32} {ssz : Nat → Int32} {sit : Nat → Nat → Int32} {ber : Int32} (N : Nat) (C : cx p s m c args D ky A cX8_rows 9 wsX8_rows RX8) (res : Int32 × Int32 × Int32 × (Nat → Int32) × (Nat → Int32) × (Nat → Int32) × (Nat → Int32)) (hQ : ∀ (pc : Nat) (H : Heap) (locs : List Loc) (ls : Array Slot), decode cX8_rows pc = .ok (.ireturn, 1) → va_P D vwCl (w_xshb ky aX aB aP aT aR aK aH aG aS aS0 aS1 aS2 aS3 aI0 aI1 aI2 aI3 ax au ay am sla ssz sit res.2.1 res.2.2.1 ber res.2.2.2.1 res.2.2.2.2.1 res.2.2.2.2.2.1 res.2.2.2.2.2.2) H → va_D A (w_xshb ky aX aB aP aT aR aK aH aG aS aS0 aS1 aS2 aS3 aI0 aI1 aI2 aI3 ax au ay am sla ssz sit res.2.1 res.2.2.1 ber res.2.2.2.1 res.2.2.2.2.1 res.2.2.2.2.2.1 res.2.2.2.2.2.2) → va_S A s.heap H locs → W p l e rm_X8_rows s m args below meth c H locs 0 0 Q (F0 m pc ls [.int res.1])) (l3 : Int32) (l4 : Int32) : ∀ (n : Nat) (l7 : Int32) (bsz : Int32) (bgp : Int32) (bxs : Nat → Int32) (bus : Nat → Int32) (bys : Nat → Int32) (bme : Nat → Int32), f_X8_rows_92 N 1 l3 l4 ssz sit ber n l7 bsz bgp bxs bus bys bme = some res → ∀ (H : Heap) (locs : List Loc) (ls : Array Slot), va_P D vwCl (w_xshb ky aX aB aP aT aR aK aH aG aS aS0 aS1 aS2 aS3 aI0 aI1 aI2 aI3 ax au ay am sla ssz sit bsz bgp ber bxs bus bys bme) H → va_D A (w_xshb ky aX aB aP aT aR aK aH aG aS aS0 aS1 aS2 aS3 aI0 aI1 aI2 aI3 ax au ay am sla ssz sit bsz bgp ber bxs bus bys bme) → va_S A s.heap H locs → lv_has ls 9 [(0, .ref aX), (3, .int l3), (4, .int l4), (5, .ref aS1), (7, .int l7)] → W p l e rm_X8_rows s m args below meth c H locs 0 0 Q (F0 m 92 ls []) := by
  obtain ⟨hx, hb, hml, hown, hts, hK, hA⟩ := id C
  intro n
  induction n with
  | zero =>
    intro l7 bsz bgp bxs bus bys bme hF
    cases hF
  | succ n ih =>
    intro l7 bsz bgp bxs bus bys bme hF H locs ls hP hD hS hl
    have hF : b_X8_rows_92 N 1 l3 l4 ssz sit ber (f_X8_rows_92 N 1 l3 l4 ssz sit ber n) l7 bsz bgp bxs bus bys bme = some res := hF
    unfold b_X8_rows_92 at hF
    refine lv_iload hx hb dX8_rows_92 (lv_at hl 4 rfl) ?_
    refine lv_iload hx hb dX8_rows_94 (lv_at hl 2 rfl) ?_
    refine lv_icmp_ge (tgt := 147) hx hb dX8_rows_96 (by decide) (fun c73 => ?_) (fun c73 => ?_)
    · have hF := if_t c73 hF
      refine lv_iload hx hb dX8_rows_147 (lv_at hl 2 rfl) ?_
      have hF := Option.some.inj hF
      subst hF
      exact hQ _ H _ _ dX8_rows_149 hP hD hS
    · have hF := if_f c73 hF
      refine lv_iload_n hx hb dX8_rows_99 rfl (lv_at hl 1 rfl) ?_
      refine lv_iconst (v := (3 : Int32)) hx hb dX8_rows_100 (by decide) ?_
      refine lv_iload hx hb dX8_rows_101 (lv_at hl 4 rfl) ?_
      refine lv_imul hx hb dX8_rows_103 ?_
      refine lv_iadd hx hb dX8_rows_104 ?_
      refine lv_istore (lv' := [(8, .int (l3 + ((3 : Int32) * l7))), (0, .ref aX), (3, .int l3), (4, .int l4), (5, .ref aS1), (7, .int l7)]) hx hb dX8_rows_105 hl (by decide) rfl (fun ls hl => ?_)
      refine lv_aload_n hx hb dX8_rows_107 rfl (lv_at hl 1 rfl) ?_
      refine va_get (D := D) (ci := 7) (v := .ref aB) (C := RX8) (T := TX8) (N := 8) hx hb hts iX8_rows_X8 hown hK hP 0 rfl rfl 0 (by decide) (hts _ kX8_rows_1) (fun _ h9 => h9) rfl dX8_rows_108 ?_
      refine lv_aload hx hb dX8_rows_111 (lv_at hl 4 rfl) ?_
      refine lv_iload hx hb dX8_rows_113 (lv_at hl 0 rfl) ?_
      obtain ⟨r75, h74, hF⟩ := b1_s hF
      refine cl_vi (As := [.int (l3 + ((3 : Int32) * l7))]) (rest := [.ref aB]) (w' := (w_xshb ky aX aB aP aT aR aK aH aG aS aS0 aS1 aS2 aS3 aI0 aI1 aI2 aI3 ax au ay am sla ssz sit bsz bgp ber bxs bus bys bme)) ⟨hx, hb, hml, hown, hts⟩ hK hP hD hS hA (c_X5_at l D ky aS1 aI1 _ N  (sla 1) (ssz 1) (sit 1) (l3 + ((3 : Int32) * l7)) r75 h74) (cwV 1 hts gX8_rows_X5_at rfl rfl rfl (by decide +kernel) ⟨Nat.le_of_ble_eq_true rfl, Nat.le_of_ble_eq_true rfl⟩) [4, 5] [0, 1, 2, 3, 6, 7, 8, 9, 10, 11, 12, 13, 14] [0, 1, 2, 3, 13, 14, 4, 5, 6, 7, 8, 9, 10, 11, 12] 0 4 rfl rfl rfl rfl (wr := [(aX, .inr (7, [.ref aB, .ref aP, .ref aT, .ref aR, .ref aK, .ref aH, .ref aG, .ref aS])), (aS, .inl (ky 3, 4, .inr (.inr (.inr (.inr (shf aS0 aS1 aS2 aS3)))))), (aS0, .inr (4, [.ref aI0, .int (sla 0), .int (ssz 0)])), (aI0, .inl (ky 0, 36, .inl (sit 0))), (aS2, .inr (4, [.ref aI2, .int (sla 2), .int (ssz 2)])), (aI2, .inl (ky 0, 36, .inl (sit 2))), (aS3, .inr (4, [.ref aI3, .int (sla 3), .int (ssz 3)])), (aI3, .inl (ky 0, 36, .inl (sit 3))), (aB, .inr (0, [.ref ax, .ref au, .ref ay, .ref am, .int bsz, .int bgp, .int ber])), (ax, .inl (ky 0, 12, .inl bxs)), (au, .inl (ky 0, 12, .inl bus)), (ay, .inl (ky 0, 12, .inl bys)), (am, .inl (ky 0, 289, .inl bme))]) rfl (by decide) rfl rfl hl.1 (Nat.le_of_ble_eq_true rfl) dX8_rows_115 ⟨Nat.zero_le _, Nat.zero_le _⟩ (fun H locs hP hD hS => ?_)
      refine lv_aload hx hb dX8_rows_118 (lv_at hl 4 rfl) ?_
      refine lv_iload hx hb dX8_rows_120 (lv_at hl 0 rfl) ?_
      refine lv_iconst (v := (1 : Int32)) hx hb dX8_rows_122 (by decide) ?_
      refine lv_iadd hx hb dX8_rows_123 ?_
      obtain ⟨r77, h76, hF⟩ := b1_s hF
      refine cl_vi (As := [.int ((l3 + ((3 : Int32) * l7)) + (1 : Int32))]) (rest := [.int r75, .ref aB]) (w' := (w_xshb ky aX aB aP aT aR aK aH aG aS aS0 aS1 aS2 aS3 aI0 aI1 aI2 aI3 ax au ay am sla ssz sit bsz bgp ber bxs bus bys bme)) ⟨hx, hb, hml, hown, hts⟩ hK hP hD hS hA (c_X5_at l D ky aS1 aI1 _ N  (sla 1) (ssz 1) (sit 1) ((l3 + ((3 : Int32) * l7)) + (1 : Int32)) r77 h76) (cwV 1 hts gX8_rows_X5_at rfl rfl rfl (by decide +kernel) ⟨Nat.le_of_ble_eq_true rfl, Nat.le_of_ble_eq_true rfl⟩) [4, 5] [0, 1, 2, 3, 6, 7, 8, 9, 10, 11, 12, 13, 14] [0, 1, 2, 3, 13, 14, 4, 5, 6, 7, 8, 9, 10, 11, 12] 0 4 rfl rfl rfl rfl (wr := [(aX, .inr (7, [.ref aB, .ref aP, .ref aT, .ref aR, .ref aK, .ref aH, .ref aG, .ref aS])), (aS, .inl (ky 3, 4, .inr (.inr (.inr (.inr (shf aS0 aS1 aS2 aS3)))))), (aS0, .inr (4, [.ref aI0, .int (sla 0), .int (ssz 0)])), (aI0, .inl (ky 0, 36, .inl (sit 0))), (aS2, .inr (4, [.ref aI2, .int (sla 2), .int (ssz 2)])), (aI2, .inl (ky 0, 36, .inl (sit 2))), (aS3, .inr (4, [.ref aI3, .int (sla 3), .int (ssz 3)])), (aI3, .inl (ky 0, 36, .inl (sit 3))), (aB, .inr (0, [.ref ax, .ref au, .ref ay, .ref am, .int bsz, .int bgp, .int ber])), (ax, .inl (ky 0, 12, .inl bxs)), (au, .inl (ky 0, 12, .inl bus)), (ay, .inl (ky 0, 12, .inl bys)), (am, .inl (ky 0, 289, .inl bme))]) rfl (by decide) rfl rfl hl.1 (Nat.le_of_ble_eq_true rfl) dX8_rows_124 ⟨Nat.zero_le _, Nat.zero_le _⟩ (fun H locs hP hD hS => ?_)
      refine lv_aload hx hb dX8_rows_127 (lv_at hl 4 rfl) ?_
      refine lv_iload hx hb dX8_rows_129 (lv_at hl 0 rfl) ?_
      refine lv_iconst (v := (2 : Int32)) hx hb dX8_rows_131 (by decide) ?_
      refine lv_iadd hx hb dX8_rows_132 ?_
      obtain ⟨r79, h78, hF⟩ := b1_s hF
      refine cl_vi (As := [.int ((l3 + ((3 : Int32) * l7)) + (2 : Int32))]) (rest := [.int r77, .int r75, .ref aB]) (w' := (w_xshb ky aX aB aP aT aR aK aH aG aS aS0 aS1 aS2 aS3 aI0 aI1 aI2 aI3 ax au ay am sla ssz sit bsz bgp ber bxs bus bys bme)) ⟨hx, hb, hml, hown, hts⟩ hK hP hD hS hA (c_X5_at l D ky aS1 aI1 _ N  (sla 1) (ssz 1) (sit 1) ((l3 + ((3 : Int32) * l7)) + (2 : Int32)) r79 h78) (cwV 1 hts gX8_rows_X5_at rfl rfl rfl (by decide +kernel) ⟨Nat.le_of_ble_eq_true rfl, Nat.le_of_ble_eq_true rfl⟩) [4, 5] [0, 1, 2, 3, 6, 7, 8, 9, 10, 11, 12, 13, 14] [0, 1, 2, 3, 13, 14, 4, 5, 6, 7, 8, 9, 10, 11, 12] 0 4 rfl rfl rfl rfl (wr := [(aX, .inr (7, [.ref aB, .ref aP, .ref aT, .ref aR, .ref aK, .ref aH, .ref aG, .ref aS])), (aS, .inl (ky 3, 4, .inr (.inr (.inr (.inr (shf aS0 aS1 aS2 aS3)))))), (aS0, .inr (4, [.ref aI0, .int (sla 0), .int (ssz 0)])), (aI0, .inl (ky 0, 36, .inl (sit 0))), (aS2, .inr (4, [.ref aI2, .int (sla 2), .int (ssz 2)])), (aI2, .inl (ky 0, 36, .inl (sit 2))), (aS3, .inr (4, [.ref aI3, .int (sla 3), .int (ssz 3)])), (aI3, .inl (ky 0, 36, .inl (sit 3))), (aB, .inr (0, [.ref ax, .ref au, .ref ay, .ref am, .int bsz, .int bgp, .int ber])), (ax, .inl (ky 0, 12, .inl bxs)), (au, .inl (ky 0, 12, .inl bus)), (ay, .inl (ky 0, 12, .inl bys)), (am, .inl (ky 0, 289, .inl bme))]) rfl (by decide) rfl rfl hl.1 (Nat.le_of_ble_eq_true rfl) dX8_rows_133 ⟨Nat.zero_le _, Nat.zero_le _⟩ (fun H locs hP hD hS => ?_)
      refine lv_iconst (v := (0 : Int32)) hx hb dX8_rows_136 (by decide) ?_
      obtain ⟨r81, v82, v83, v84, v85, v86, v87, h80, hF⟩ := b7_s hF
      refine cl_vi (As := [.int r75, .int r77, .int r79, .int (0 : Int32)]) (rest := []) (w' := (w_xshb ky aX aB aP aT aR aK aH aG aS aS0 aS1 aS2 aS3 aI0 aI1 aI2 aI3 ax au ay am sla ssz sit v82 v83 ber v84 v85 v86 v87)) ⟨hx, hb, hml, hown, hts⟩ hK hP hD hS hA (c_X0_add l D ky aB ax au ay am _ N  bsz bgp ber bxs bus bys bme r75 r77 r79 (0 : Int32) r81 v82 v83 v84 v85 v86 v87 h80) (cwV 4 hts gX8_rows_X0_add rfl rfl rfl (by decide +kernel) ⟨Nat.le_of_ble_eq_true rfl, Nat.le_of_ble_eq_true rfl⟩) [10, 11, 12, 13, 14] [0, 1, 2, 3, 4, 5, 6, 7, 8, 9] [0, 1, 2, 3, 4, 5, 6, 7, 8, 9, 10, 11, 12, 13, 14] 0 0 rfl rfl rfl rfl (wr := [(aX, .inr (7, [.ref aB, .ref aP, .ref aT, .ref aR, .ref aK, .ref aH, .ref aG, .ref aS])), (aS, .inl (ky 3, 4, .inr (.inr (.inr (.inr (shf aS0 aS1 aS2 aS3)))))), (aS0, .inr (4, [.ref aI0, .int (sla 0), .int (ssz 0)])), (aI0, .inl (ky 0, 36, .inl (sit 0))), (aS1, .inr (4, [.ref aI1, .int (sla 1), .int (ssz 1)])), (aI1, .inl (ky 0, 36, .inl (sit 1))), (aS2, .inr (4, [.ref aI2, .int (sla 2), .int (ssz 2)])), (aI2, .inl (ky 0, 36, .inl (sit 2))), (aS3, .inr (4, [.ref aI3, .int (sla 3), .int (ssz 3)])), (aI3, .inl (ky 0, 36, .inl (sit 3)))]) rfl (by decide) rfl rfl hl.1 (Nat.le_of_ble_eq_true rfl) dX8_rows_137 ⟨Nat.zero_le _, Nat.zero_le _⟩ (fun H locs hP hD hS => ?_)
      refine lv_pop hx hb dX8_rows_140 rfl ?_
      refine lv_iinc (v := (l7 + (1 : Int32))) (lv' := [(7, .int (l7 + (1 : Int32))), (8, .int (l3 + ((3 : Int32) * l7))), (0, .ref aX), (3, .int l3), (4, .int l4), (5, .ref aS1)]) hx hb dX8_rows_141 hl (k := 5) rfl rfl (by decide) rfl (fun ls hl => ?_)
      refine lv_goto (tgt := 92) hx hb dX8_rows_144 (by decide) ?_
      exact ih (l7 + (1 : Int32)) v82 v83 v84 v85 v86 v87 hF H _ _ hP hD hS (lv_sub hl [2, 3, 4, 5, 0] rfl)
set_option maxHeartbeats 4000000 in
set_option maxRecDepth 100000 in
theorem w_X8_rows_92_s2 {p : Program} {l : Launch} {e : Env} {s : State} {m : MethodId} {args : Array Value} {below : List Frame} {meth : Method} {c : Code} {Q : State → Prop} {A : Nat → Prop} {D : va_G} {ky : Nat → ClassId} {aX aB aP aT aR aK aH aG aS aS0 aS1 aS2 aS3 aI0 aI1 aI2 aI3 ax au ay am : Nat} {sla : Nat → Int32} {ssz : Nat → Int32} {sit : Nat → Nat → Int32} {ber : Int32} (N : Nat) (C : cx p s m c args D ky A cX8_rows 9 wsX8_rows RX8) (res : Int32 × Int32 × Int32 × (Nat → Int32) × (Nat → Int32) × (Nat → Int32) × (Nat → Int32)) (hQ : ∀ (pc : Nat) (H : Heap) (locs : List Loc) (ls : Array Slot), decode cX8_rows pc = .ok (.ireturn, 1) → va_P D vwCl (w_xshb ky aX aB aP aT aR aK aH aG aS aS0 aS1 aS2 aS3 aI0 aI1 aI2 aI3 ax au ay am sla ssz sit res.2.1 res.2.2.1 ber res.2.2.2.1 res.2.2.2.2.1 res.2.2.2.2.2.1 res.2.2.2.2.2.2) H → va_D A (w_xshb ky aX aB aP aT aR aK aH aG aS aS0 aS1 aS2 aS3 aI0 aI1 aI2 aI3 ax au ay am sla ssz sit res.2.1 res.2.2.1 ber res.2.2.2.1 res.2.2.2.2.1 res.2.2.2.2.2.1 res.2.2.2.2.2.2) → va_S A s.heap H locs → W p l e rm_X8_rows s m args below meth c H locs 0 0 Q (F0 m pc ls [.int res.1])) (l3 : Int32) (l4 : Int32) : ∀ (n : Nat) (l7 : Int32) (bsz : Int32) (bgp : Int32) (bxs : Nat → Int32) (bus : Nat → Int32) (bys : Nat → Int32) (bme : Nat → Int32), f_X8_rows_92 N 2 l3 l4 ssz sit ber n l7 bsz bgp bxs bus bys bme = some res → ∀ (H : Heap) (locs : List Loc) (ls : Array Slot), va_P D vwCl (w_xshb ky aX aB aP aT aR aK aH aG aS aS0 aS1 aS2 aS3 aI0 aI1 aI2 aI3 ax au ay am sla ssz sit bsz bgp ber bxs bus bys bme) H → va_D A (w_xshb ky aX aB aP aT aR aK aH aG aS aS0 aS1 aS2 aS3 aI0 aI1 aI2 aI3 ax au ay am sla ssz sit bsz bgp ber bxs bus bys bme) → va_S A s.heap H locs → lv_has ls 9 [(0, .ref aX), (3, .int l3), (4, .int l4), (5, .ref aS2), (7, .int l7)] → W p l e rm_X8_rows s m args below meth c H locs 0 0 Q (F0 m 92 ls []) := by
  obtain ⟨hx, hb, hml, hown, hts, hK, hA⟩ := id C
  intro n
  induction n with
  | zero =>
    intro l7 bsz bgp bxs bus bys bme hF
    cases hF
  | succ n ih =>
    intro l7 bsz bgp bxs bus bys bme hF H locs ls hP hD hS hl
    have hF : b_X8_rows_92 N 2 l3 l4 ssz sit ber (f_X8_rows_92 N 2 l3 l4 ssz sit ber n) l7 bsz bgp bxs bus bys bme = some res := hF
    unfold b_X8_rows_92 at hF
    refine lv_iload hx hb dX8_rows_92 (lv_at hl 4 rfl) ?_
    refine lv_iload hx hb dX8_rows_94 (lv_at hl 2 rfl) ?_
    refine lv_icmp_ge (tgt := 147) hx hb dX8_rows_96 (by decide) (fun c88 => ?_) (fun c88 => ?_)
    · have hF := if_t c88 hF
      refine lv_iload hx hb dX8_rows_147 (lv_at hl 2 rfl) ?_
      have hF := Option.some.inj hF
      subst hF
      exact hQ _ H _ _ dX8_rows_149 hP hD hS
    · have hF := if_f c88 hF
      refine lv_iload_n hx hb dX8_rows_99 rfl (lv_at hl 1 rfl) ?_
      refine lv_iconst (v := (3 : Int32)) hx hb dX8_rows_100 (by decide) ?_
      refine lv_iload hx hb dX8_rows_101 (lv_at hl 4 rfl) ?_
      refine lv_imul hx hb dX8_rows_103 ?_
      refine lv_iadd hx hb dX8_rows_104 ?_
      refine lv_istore (lv' := [(8, .int (l3 + ((3 : Int32) * l7))), (0, .ref aX), (3, .int l3), (4, .int l4), (5, .ref aS2), (7, .int l7)]) hx hb dX8_rows_105 hl (by decide) rfl (fun ls hl => ?_)
      refine lv_aload_n hx hb dX8_rows_107 rfl (lv_at hl 1 rfl) ?_
      refine va_get (D := D) (ci := 7) (v := .ref aB) (C := RX8) (T := TX8) (N := 8) hx hb hts iX8_rows_X8 hown hK hP 0 rfl rfl 0 (by decide) (hts _ kX8_rows_1) (fun _ h9 => h9) rfl dX8_rows_108 ?_
      refine lv_aload hx hb dX8_rows_111 (lv_at hl 4 rfl) ?_
      refine lv_iload hx hb dX8_rows_113 (lv_at hl 0 rfl) ?_
      obtain ⟨r90, h89, hF⟩ := b1_s hF
      refine cl_vi (As := [.int (l3 + ((3 : Int32) * l7))]) (rest := [.ref aB]) (w' := (w_xshb ky aX aB aP aT aR aK aH aG aS aS0 aS1 aS2 aS3 aI0 aI1 aI2 aI3 ax au ay am sla ssz sit bsz bgp ber bxs bus bys bme)) ⟨hx, hb, hml, hown, hts⟩ hK hP hD hS hA (c_X5_at l D ky aS2 aI2 _ N  (sla 2) (ssz 2) (sit 2) (l3 + ((3 : Int32) * l7)) r90 h89) (cwV 1 hts gX8_rows_X5_at rfl rfl rfl (by decide +kernel) ⟨Nat.le_of_ble_eq_true rfl, Nat.le_of_ble_eq_true rfl⟩) [6, 7] [0, 1, 2, 3, 4, 5, 8, 9, 10, 11, 12, 13, 14] [0, 1, 2, 3, 4, 5, 13, 14, 6, 7, 8, 9, 10, 11, 12] 0 4 rfl rfl rfl rfl (wr := [(aX, .inr (7, [.ref aB, .ref aP, .ref aT, .ref aR, .ref aK, .ref aH, .ref aG, .ref aS])), (aS, .inl (ky 3, 4, .inr (.inr (.inr (.inr (shf aS0 aS1 aS2 aS3)))))), (aS0, .inr (4, [.ref aI0, .int (sla 0), .int (ssz 0)])), (aI0, .inl (ky 0, 36, .inl (sit 0))), (aS1, .inr (4, [.ref aI1, .int (sla 1), .int (ssz 1)])), (aI1, .inl (ky 0, 36, .inl (sit 1))), (aS3, .inr (4, [.ref aI3, .int (sla 3), .int (ssz 3)])), (aI3, .inl (ky 0, 36, .inl (sit 3))), (aB, .inr (0, [.ref ax, .ref au, .ref ay, .ref am, .int bsz, .int bgp, .int ber])), (ax, .inl (ky 0, 12, .inl bxs)), (au, .inl (ky 0, 12, .inl bus)), (ay, .inl (ky 0, 12, .inl bys)), (am, .inl (ky 0, 289, .inl bme))]) rfl (by decide) rfl rfl hl.1 (Nat.le_of_ble_eq_true rfl) dX8_rows_115 ⟨Nat.zero_le _, Nat.zero_le _⟩ (fun H locs hP hD hS => ?_)
      refine lv_aload hx hb dX8_rows_118 (lv_at hl 4 rfl) ?_
      refine lv_iload hx hb dX8_rows_120 (lv_at hl 0 rfl) ?_
      refine lv_iconst (v := (1 : Int32)) hx hb dX8_rows_122 (by decide) ?_
      refine lv_iadd hx hb dX8_rows_123 ?_
      obtain ⟨r92, h91, hF⟩ := b1_s hF
      refine cl_vi (As := [.int ((l3 + ((3 : Int32) * l7)) + (1 : Int32))]) (rest := [.int r90, .ref aB]) (w' := (w_xshb ky aX aB aP aT aR aK aH aG aS aS0 aS1 aS2 aS3 aI0 aI1 aI2 aI3 ax au ay am sla ssz sit bsz bgp ber bxs bus bys bme)) ⟨hx, hb, hml, hown, hts⟩ hK hP hD hS hA (c_X5_at l D ky aS2 aI2 _ N  (sla 2) (ssz 2) (sit 2) ((l3 + ((3 : Int32) * l7)) + (1 : Int32)) r92 h91) (cwV 1 hts gX8_rows_X5_at rfl rfl rfl (by decide +kernel) ⟨Nat.le_of_ble_eq_true rfl, Nat.le_of_ble_eq_true rfl⟩) [6, 7] [0, 1, 2, 3, 4, 5, 8, 9, 10, 11, 12, 13, 14] [0, 1, 2, 3, 4, 5, 13, 14, 6, 7, 8, 9, 10, 11, 12] 0 4 rfl rfl rfl rfl (wr := [(aX, .inr (7, [.ref aB, .ref aP, .ref aT, .ref aR, .ref aK, .ref aH, .ref aG, .ref aS])), (aS, .inl (ky 3, 4, .inr (.inr (.inr (.inr (shf aS0 aS1 aS2 aS3)))))), (aS0, .inr (4, [.ref aI0, .int (sla 0), .int (ssz 0)])), (aI0, .inl (ky 0, 36, .inl (sit 0))), (aS1, .inr (4, [.ref aI1, .int (sla 1), .int (ssz 1)])), (aI1, .inl (ky 0, 36, .inl (sit 1))), (aS3, .inr (4, [.ref aI3, .int (sla 3), .int (ssz 3)])), (aI3, .inl (ky 0, 36, .inl (sit 3))), (aB, .inr (0, [.ref ax, .ref au, .ref ay, .ref am, .int bsz, .int bgp, .int ber])), (ax, .inl (ky 0, 12, .inl bxs)), (au, .inl (ky 0, 12, .inl bus)), (ay, .inl (ky 0, 12, .inl bys)), (am, .inl (ky 0, 289, .inl bme))]) rfl (by decide) rfl rfl hl.1 (Nat.le_of_ble_eq_true rfl) dX8_rows_124 ⟨Nat.zero_le _, Nat.zero_le _⟩ (fun H locs hP hD hS => ?_)
      refine lv_aload hx hb dX8_rows_127 (lv_at hl 4 rfl) ?_
      refine lv_iload hx hb dX8_rows_129 (lv_at hl 0 rfl) ?_
      refine lv_iconst (v := (2 : Int32)) hx hb dX8_rows_131 (by decide) ?_
      refine lv_iadd hx hb dX8_rows_132 ?_
      obtain ⟨r94, h93, hF⟩ := b1_s hF
      refine cl_vi (As := [.int ((l3 + ((3 : Int32) * l7)) + (2 : Int32))]) (rest := [.int r92, .int r90, .ref aB]) (w' := (w_xshb ky aX aB aP aT aR aK aH aG aS aS0 aS1 aS2 aS3 aI0 aI1 aI2 aI3 ax au ay am sla ssz sit bsz bgp ber bxs bus bys bme)) ⟨hx, hb, hml, hown, hts⟩ hK hP hD hS hA (c_X5_at l D ky aS2 aI2 _ N  (sla 2) (ssz 2) (sit 2) ((l3 + ((3 : Int32) * l7)) + (2 : Int32)) r94 h93) (cwV 1 hts gX8_rows_X5_at rfl rfl rfl (by decide +kernel) ⟨Nat.le_of_ble_eq_true rfl, Nat.le_of_ble_eq_true rfl⟩) [6, 7] [0, 1, 2, 3, 4, 5, 8, 9, 10, 11, 12, 13, 14] [0, 1, 2, 3, 4, 5, 13, 14, 6, 7, 8, 9, 10, 11, 12] 0 4 rfl rfl rfl rfl (wr := [(aX, .inr (7, [.ref aB, .ref aP, .ref aT, .ref aR, .ref aK, .ref aH, .ref aG, .ref aS])), (aS, .inl (ky 3, 4, .inr (.inr (.inr (.inr (shf aS0 aS1 aS2 aS3)))))), (aS0, .inr (4, [.ref aI0, .int (sla 0), .int (ssz 0)])), (aI0, .inl (ky 0, 36, .inl (sit 0))), (aS1, .inr (4, [.ref aI1, .int (sla 1), .int (ssz 1)])), (aI1, .inl (ky 0, 36, .inl (sit 1))), (aS3, .inr (4, [.ref aI3, .int (sla 3), .int (ssz 3)])), (aI3, .inl (ky 0, 36, .inl (sit 3))), (aB, .inr (0, [.ref ax, .ref au, .ref ay, .ref am, .int bsz, .int bgp, .int ber])), (ax, .inl (ky 0, 12, .inl bxs)), (au, .inl (ky 0, 12, .inl bus)), (ay, .inl (ky 0, 12, .inl bys)), (am, .inl (ky 0, 289, .inl bme))]) rfl (by decide) rfl rfl hl.1 (Nat.le_of_ble_eq_true rfl) dX8_rows_133 ⟨Nat.zero_le _, Nat.zero_le _⟩ (fun H locs hP hD hS => ?_)
      refine lv_iconst (v := (0 : Int32)) hx hb dX8_rows_136 (by decide) ?_
      obtain ⟨r96, v97, v98, v99, v100, v101, v102, h95, hF⟩ := b7_s hF
      refine cl_vi (As := [.int r90, .int r92, .int r94, .int (0 : Int32)]) (rest := []) (w' := (w_xshb ky aX aB aP aT aR aK aH aG aS aS0 aS1 aS2 aS3 aI0 aI1 aI2 aI3 ax au ay am sla ssz sit v97 v98 ber v99 v100 v101 v102)) ⟨hx, hb, hml, hown, hts⟩ hK hP hD hS hA (c_X0_add l D ky aB ax au ay am _ N  bsz bgp ber bxs bus bys bme r90 r92 r94 (0 : Int32) r96 v97 v98 v99 v100 v101 v102 h95) (cwV 4 hts gX8_rows_X0_add rfl rfl rfl (by decide +kernel) ⟨Nat.le_of_ble_eq_true rfl, Nat.le_of_ble_eq_true rfl⟩) [10, 11, 12, 13, 14] [0, 1, 2, 3, 4, 5, 6, 7, 8, 9] [0, 1, 2, 3, 4, 5, 6, 7, 8, 9, 10, 11, 12, 13, 14] 0 0 rfl rfl rfl rfl (wr := [(aX, .inr (7, [.ref aB, .ref aP, .ref aT, .ref aR, .ref aK, .ref aH, .ref aG, .ref aS])), (aS, .inl (ky 3, 4, .inr (.inr (.inr (.inr (shf aS0 aS1 aS2 aS3)))))), (aS0, .inr (4, [.ref aI0, .int (sla 0), .int (ssz 0)])), (aI0, .inl (ky 0, 36, .inl (sit 0))), (aS1, .inr (4, [.ref aI1, .int (sla 1), .int (ssz 1)])), (aI1, .inl (ky 0, 36, .inl (sit 1))), (aS2, .inr (4, [.ref aI2, .int (sla 2), .int (ssz 2)])), (aI2, .inl (ky 0, 36, .inl (sit 2))), (aS3, .inr (4, [.ref aI3, .int (sla 3), .int (ssz 3)])), (aI3, .inl (ky 0, 36, .inl (sit 3)))]) rfl (by decide) rfl rfl hl.1 (Nat.le_of_ble_eq_true rfl) dX8_rows_137 ⟨Nat.zero_le _, Nat.zero_le _⟩ (fun H locs hP hD hS => ?_)
      refine lv_pop hx hb dX8_rows_140 rfl ?_
      refine lv_iinc (v := (l7 + (1 : Int32))) (lv' := [(7, .int (l7 + (1 : Int32))), (8, .int (l3 + ((3 : Int32) * l7))), (0, .ref aX), (3, .int l3), (4, .int l4), (5, .ref aS2)]) hx hb dX8_rows_141 hl (k := 5) rfl rfl (by decide) rfl (fun ls hl => ?_)
      refine lv_goto (tgt := 92) hx hb dX8_rows_144 (by decide) ?_
      exact ih (l7 + (1 : Int32)) v97 v98 v99 v100 v101 v102 hF H _ _ hP hD hS (lv_sub hl [2, 3, 4, 5, 0] rfl)
set_option maxHeartbeats 4000000 in
set_option maxRecDepth 100000 in
theorem w_X8_rows_92_s3 {p : Program} {l : Launch} {e : Env} {s : State} {m : MethodId} {args : Array Value} {below : List Frame} {meth : Method} {c : Code} {Q : State → Prop} {A : Nat → Prop} {D : va_G} {ky : Nat → ClassId} {aX aB aP aT aR aK aH aG aS aS0 aS1 aS2 aS3 aI0 aI1 aI2 aI3 ax au ay am : Nat} {sla : Nat → Int32} {ssz : Nat → Int32} {sit : Nat → Nat → Int32} {ber : Int32} (N : Nat) (C : cx p s m c args D ky A cX8_rows 9 wsX8_rows RX8) (res : Int32 × Int32 × Int32 × (Nat → Int32) × (Nat → Int32) × (Nat → Int32) × (Nat → Int32)) (hQ : ∀ (pc : Nat) (H : Heap) (locs : List Loc) (ls : Array Slot), decode cX8_rows pc = .ok (.ireturn, 1) → va_P D vwCl (w_xshb ky aX aB aP aT aR aK aH aG aS aS0 aS1 aS2 aS3 aI0 aI1 aI2 aI3 ax au ay am sla ssz sit res.2.1 res.2.2.1 ber res.2.2.2.1 res.2.2.2.2.1 res.2.2.2.2.2.1 res.2.2.2.2.2.2) H → va_D A (w_xshb ky aX aB aP aT aR aK aH aG aS aS0 aS1 aS2 aS3 aI0 aI1 aI2 aI3 ax au ay am sla ssz sit res.2.1 res.2.2.1 ber res.2.2.2.1 res.2.2.2.2.1 res.2.2.2.2.2.1 res.2.2.2.2.2.2) → va_S A s.heap H locs → W p l e rm_X8_rows s m args below meth c H locs 0 0 Q (F0 m pc ls [.int res.1])) (l3 : Int32) (l4 : Int32) : ∀ (n : Nat) (l7 : Int32) (bsz : Int32) (bgp : Int32) (bxs : Nat → Int32) (bus : Nat → Int32) (bys : Nat → Int32) (bme : Nat → Int32), f_X8_rows_92 N 3 l3 l4 ssz sit ber n l7 bsz bgp bxs bus bys bme = some res → ∀ (H : Heap) (locs : List Loc) (ls : Array Slot), va_P D vwCl (w_xshb ky aX aB aP aT aR aK aH aG aS aS0 aS1 aS2 aS3 aI0 aI1 aI2 aI3 ax au ay am sla ssz sit bsz bgp ber bxs bus bys bme) H → va_D A (w_xshb ky aX aB aP aT aR aK aH aG aS aS0 aS1 aS2 aS3 aI0 aI1 aI2 aI3 ax au ay am sla ssz sit bsz bgp ber bxs bus bys bme) → va_S A s.heap H locs → lv_has ls 9 [(0, .ref aX), (3, .int l3), (4, .int l4), (5, .ref aS3), (7, .int l7)] → W p l e rm_X8_rows s m args below meth c H locs 0 0 Q (F0 m 92 ls []) := by
  obtain ⟨hx, hb, hml, hown, hts, hK, hA⟩ := id C
  intro n
  induction n with
  | zero =>
    intro l7 bsz bgp bxs bus bys bme hF
    cases hF
  | succ n ih =>
    intro l7 bsz bgp bxs bus bys bme hF H locs ls hP hD hS hl
    have hF : b_X8_rows_92 N 3 l3 l4 ssz sit ber (f_X8_rows_92 N 3 l3 l4 ssz sit ber n) l7 bsz bgp bxs bus bys bme = some res := hF
    unfold b_X8_rows_92 at hF
    refine lv_iload hx hb dX8_rows_92 (lv_at hl 4 rfl) ?_
    refine lv_iload hx hb dX8_rows_94 (lv_at hl 2 rfl) ?_
    refine lv_icmp_ge (tgt := 147) hx hb dX8_rows_96 (by decide) (fun c103 => ?_) (fun c103 => ?_)
    · have hF := if_t c103 hF
      refine lv_iload hx hb dX8_rows_147 (lv_at hl 2 rfl) ?_
      have hF := Option.some.inj hF
      subst hF
      exact hQ _ H _ _ dX8_rows_149 hP hD hS
    · have hF := if_f c103 hF
      refine lv_iload_n hx hb dX8_rows_99 rfl (lv_at hl 1 rfl) ?_
      refine lv_iconst (v := (3 : Int32)) hx hb dX8_rows_100 (by decide) ?_
      refine lv_iload hx hb dX8_rows_101 (lv_at hl 4 rfl) ?_
      refine lv_imul hx hb dX8_rows_103 ?_
      refine lv_iadd hx hb dX8_rows_104 ?_
      refine lv_istore (lv' := [(8, .int (l3 + ((3 : Int32) * l7))), (0, .ref aX), (3, .int l3), (4, .int l4), (5, .ref aS3), (7, .int l7)]) hx hb dX8_rows_105 hl (by decide) rfl (fun ls hl => ?_)
      refine lv_aload_n hx hb dX8_rows_107 rfl (lv_at hl 1 rfl) ?_
      refine va_get (D := D) (ci := 7) (v := .ref aB) (C := RX8) (T := TX8) (N := 8) hx hb hts iX8_rows_X8 hown hK hP 0 rfl rfl 0 (by decide) (hts _ kX8_rows_1) (fun _ h9 => h9) rfl dX8_rows_108 ?_
      refine lv_aload hx hb dX8_rows_111 (lv_at hl 4 rfl) ?_
      refine lv_iload hx hb dX8_rows_113 (lv_at hl 0 rfl) ?_
      obtain ⟨r105, h104, hF⟩ := b1_s hF
      refine cl_vi (As := [.int (l3 + ((3 : Int32) * l7))]) (rest := [.ref aB]) (w' := (w_xshb ky aX aB aP aT aR aK aH aG aS aS0 aS1 aS2 aS3 aI0 aI1 aI2 aI3 ax au ay am sla ssz sit bsz bgp ber bxs bus bys bme)) ⟨hx, hb, hml, hown, hts⟩ hK hP hD hS hA (c_X5_at l D ky aS3 aI3 _ N  (sla 3) (ssz 3) (sit 3) (l3 + ((3 : Int32) * l7)) r105 h104) (cwV 1 hts gX8_rows_X5_at rfl rfl rfl (by decide +kernel) ⟨Nat.le_of_ble_eq_true rfl, Nat.le_of_ble_eq_true rfl⟩) [8, 9] [0, 1, 2, 3, 4, 5, 6, 7, 10, 11, 12, 13, 14] [0, 1, 2, 3, 4, 5, 6, 7, 13, 14, 8, 9, 10, 11, 12] 0 4 rfl rfl rfl rfl (wr := [(aX, .inr (7, [.ref aB, .ref aP, .ref aT, .ref aR, .ref aK, .ref aH, .ref aG, .ref aS])), (aS, .inl (ky 3, 4, .inr (.inr (.inr (.inr (shf aS0 aS1 aS2 aS3)))))), (aS0, .inr (4, [.ref aI0, .int (sla 0), .int (ssz 0)])), (aI0, .inl (ky 0, 36, .inl (sit 0))), (aS1, .inr (4, [.ref aI1, .int (sla 1), .int (ssz 1)])), (aI1, .inl (ky 0, 36, .inl (sit 1))), (aS2, .inr (4, [.ref aI2, .int (sla 2), .int (ssz 2)])), (aI2, .inl (ky 0, 36, .inl (sit 2))), (aB, .inr (0, [.ref ax, .ref au, .ref ay, .ref am, .int bsz, .int bgp, .int ber])), (ax, .inl (ky 0, 12, .inl bxs)), (au, .inl (ky 0, 12, .inl bus)), (ay, .inl (ky 0, 12, .inl bys)), (am, .inl (ky 0, 289, .inl bme))]) rfl (by decide) rfl rfl hl.1 (Nat.le_of_ble_eq_true rfl) dX8_rows_115 ⟨Nat.zero_le _, Nat.zero_le _⟩ (fun H locs hP hD hS => ?_)
      refine lv_aload hx hb dX8_rows_118 (lv_at hl 4 rfl) ?_
      refine lv_iload hx hb dX8_rows_120 (lv_at hl 0 rfl) ?_
      refine lv_iconst (v := (1 : Int32)) hx hb dX8_rows_122 (by decide) ?_
      refine lv_iadd hx hb dX8_rows_123 ?_
      obtain ⟨r107, h106, hF⟩ := b1_s hF
      refine cl_vi (As := [.int ((l3 + ((3 : Int32) * l7)) + (1 : Int32))]) (rest := [.int r105, .ref aB]) (w' := (w_xshb ky aX aB aP aT aR aK aH aG aS aS0 aS1 aS2 aS3 aI0 aI1 aI2 aI3 ax au ay am sla ssz sit bsz bgp ber bxs bus bys bme)) ⟨hx, hb, hml, hown, hts⟩ hK hP hD hS hA (c_X5_at l D ky aS3 aI3 _ N  (sla 3) (ssz 3) (sit 3) ((l3 + ((3 : Int32) * l7)) + (1 : Int32)) r107 h106) (cwV 1 hts gX8_rows_X5_at rfl rfl rfl (by decide +kernel) ⟨Nat.le_of_ble_eq_true rfl, Nat.le_of_ble_eq_true rfl⟩) [8, 9] [0, 1, 2, 3, 4, 5, 6, 7, 10, 11, 12, 13, 14] [0, 1, 2, 3, 4, 5, 6, 7, 13, 14, 8, 9, 10, 11, 12] 0 4 rfl rfl rfl rfl (wr := [(aX, .inr (7, [.ref aB, .ref aP, .ref aT, .ref aR, .ref aK, .ref aH, .ref aG, .ref aS])), (aS, .inl (ky 3, 4, .inr (.inr (.inr (.inr (shf aS0 aS1 aS2 aS3)))))), (aS0, .inr (4, [.ref aI0, .int (sla 0), .int (ssz 0)])), (aI0, .inl (ky 0, 36, .inl (sit 0))), (aS1, .inr (4, [.ref aI1, .int (sla 1), .int (ssz 1)])), (aI1, .inl (ky 0, 36, .inl (sit 1))), (aS2, .inr (4, [.ref aI2, .int (sla 2), .int (ssz 2)])), (aI2, .inl (ky 0, 36, .inl (sit 2))), (aB, .inr (0, [.ref ax, .ref au, .ref ay, .ref am, .int bsz, .int bgp, .int ber])), (ax, .inl (ky 0, 12, .inl bxs)), (au, .inl (ky 0, 12, .inl bus)), (ay, .inl (ky 0, 12, .inl bys)), (am, .inl (ky 0, 289, .inl bme))]) rfl (by decide) rfl rfl hl.1 (Nat.le_of_ble_eq_true rfl) dX8_rows_124 ⟨Nat.zero_le _, Nat.zero_le _⟩ (fun H locs hP hD hS => ?_)
      refine lv_aload hx hb dX8_rows_127 (lv_at hl 4 rfl) ?_
      refine lv_iload hx hb dX8_rows_129 (lv_at hl 0 rfl) ?_
      refine lv_iconst (v := (2 : Int32)) hx hb dX8_rows_131 (by decide) ?_
      refine lv_iadd hx hb dX8_rows_132 ?_
      obtain ⟨r109, h108, hF⟩ := b1_s hF
      refine cl_vi (As := [.int ((l3 + ((3 : Int32) * l7)) + (2 : Int32))]) (rest := [.int r107, .int r105, .ref aB]) (w' := (w_xshb ky aX aB aP aT aR aK aH aG aS aS0 aS1 aS2 aS3 aI0 aI1 aI2 aI3 ax au ay am sla ssz sit bsz bgp ber bxs bus bys bme)) ⟨hx, hb, hml, hown, hts⟩ hK hP hD hS hA (c_X5_at l D ky aS3 aI3 _ N  (sla 3) (ssz 3) (sit 3) ((l3 + ((3 : Int32) * l7)) + (2 : Int32)) r109 h108) (cwV 1 hts gX8_rows_X5_at rfl rfl rfl (by decide +kernel) ⟨Nat.le_of_ble_eq_true rfl, Nat.le_of_ble_eq_true rfl⟩) [8, 9] [0, 1, 2, 3, 4, 5, 6, 7, 10, 11, 12, 13, 14] [0, 1, 2, 3, 4, 5, 6, 7, 13, 14, 8, 9, 10, 11, 12] 0 4 rfl rfl rfl rfl (wr := [(aX, .inr (7, [.ref aB, .ref aP, .ref aT, .ref aR, .ref aK, .ref aH, .ref aG, .ref aS])), (aS, .inl (ky 3, 4, .inr (.inr (.inr (.inr (shf aS0 aS1 aS2 aS3)))))), (aS0, .inr (4, [.ref aI0, .int (sla 0), .int (ssz 0)])), (aI0, .inl (ky 0, 36, .inl (sit 0))), (aS1, .inr (4, [.ref aI1, .int (sla 1), .int (ssz 1)])), (aI1, .inl (ky 0, 36, .inl (sit 1))), (aS2, .inr (4, [.ref aI2, .int (sla 2), .int (ssz 2)])), (aI2, .inl (ky 0, 36, .inl (sit 2))), (aB, .inr (0, [.ref ax, .ref au, .ref ay, .ref am, .int bsz, .int bgp, .int ber])), (ax, .inl (ky 0, 12, .inl bxs)), (au, .inl (ky 0, 12, .inl bus)), (ay, .inl (ky 0, 12, .inl bys)), (am, .inl (ky 0, 289, .inl bme))]) rfl (by decide) rfl rfl hl.1 (Nat.le_of_ble_eq_true rfl) dX8_rows_133 ⟨Nat.zero_le _, Nat.zero_le _⟩ (fun H locs hP hD hS => ?_)
      refine lv_iconst (v := (0 : Int32)) hx hb dX8_rows_136 (by decide) ?_
      obtain ⟨r111, v112, v113, v114, v115, v116, v117, h110, hF⟩ := b7_s hF
      refine cl_vi (As := [.int r105, .int r107, .int r109, .int (0 : Int32)]) (rest := []) (w' := (w_xshb ky aX aB aP aT aR aK aH aG aS aS0 aS1 aS2 aS3 aI0 aI1 aI2 aI3 ax au ay am sla ssz sit v112 v113 ber v114 v115 v116 v117)) ⟨hx, hb, hml, hown, hts⟩ hK hP hD hS hA (c_X0_add l D ky aB ax au ay am _ N  bsz bgp ber bxs bus bys bme r105 r107 r109 (0 : Int32) r111 v112 v113 v114 v115 v116 v117 h110) (cwV 4 hts gX8_rows_X0_add rfl rfl rfl (by decide +kernel) ⟨Nat.le_of_ble_eq_true rfl, Nat.le_of_ble_eq_true rfl⟩) [10, 11, 12, 13, 14] [0, 1, 2, 3, 4, 5, 6, 7, 8, 9] [0, 1, 2, 3, 4, 5, 6, 7, 8, 9, 10, 11, 12, 13, 14] 0 0 rfl rfl rfl rfl (wr := [(aX, .inr (7, [.ref aB, .ref aP, .ref aT, .ref aR, .ref aK, .ref aH, .ref aG, .ref aS])), (aS, .inl (ky 3, 4, .inr (.inr (.inr (.inr (shf aS0 aS1 aS2 aS3)))))), (aS0, .inr (4, [.ref aI0, .int (sla 0), .int (ssz 0)])), (aI0, .inl (ky 0, 36, .inl (sit 0))), (aS1, .inr (4, [.ref aI1, .int (sla 1), .int (ssz 1)])), (aI1, .inl (ky 0, 36, .inl (sit 1))), (aS2, .inr (4, [.ref aI2, .int (sla 2), .int (ssz 2)])), (aI2, .inl (ky 0, 36, .inl (sit 2))), (aS3, .inr (4, [.ref aI3, .int (sla 3), .int (ssz 3)])), (aI3, .inl (ky 0, 36, .inl (sit 3)))]) rfl (by decide) rfl rfl hl.1 (Nat.le_of_ble_eq_true rfl) dX8_rows_137 ⟨Nat.zero_le _, Nat.zero_le _⟩ (fun H locs hP hD hS => ?_)
      refine lv_pop hx hb dX8_rows_140 rfl ?_
      refine lv_iinc (v := (l7 + (1 : Int32))) (lv' := [(7, .int (l7 + (1 : Int32))), (8, .int (l3 + ((3 : Int32) * l7))), (0, .ref aX), (3, .int l3), (4, .int l4), (5, .ref aS3)]) hx hb dX8_rows_141 hl (k := 5) rfl rfl (by decide) rfl (fun ls hl => ?_)
      refine lv_goto (tgt := 92) hx hb dX8_rows_144 (by decide) ?_
      exact ih (l7 + (1 : Int32)) v112 v113 v114 v115 v116 v117 hF H _ _ hP hD hS (lv_sub hl [2, 3, 4, 5, 0] rfl)
set_option maxHeartbeats 4000000 in
set_option maxRecDepth 100000 in
theorem cr_X8_rows (l : Launch) (D : va_G) (ky : Nat → ClassId) (aX aB aP aT aR aK aH aG aS aS0 aS1 aS2 aS3 aI0 aI1 aI2 aI3 ax au ay am : Nat) (sz N : Nat)  (sla : Nat → Int32) (ssz : Nat → Int32) (sit : Nat → Nat → Int32) (bsz : Int32) (bgp : Int32) (ber : Int32) (bxs : Nat → Int32) (bus : Nat → Int32) (bys : Nat → Int32) (bme : Nat → Int32) (p0 : Int32) (p1 : Int32) (p2 : Int32) (p3 : Int32) (res : Int32 × Int32 × Int32 × (Nat → Int32) × (Nat → Int32) × (Nat → Int32) × (Nat → Int32)) (hF : f_X8_rows N p0 p1 p2 p3 sla ssz sit bsz bgp ber bxs bus bys bme = some res) : MI l yX8_rows wsX8_rows rm_X8_rows D ky sz [.ref aX, .int p0, .int p1, .int p2, .int p3] (w_xshb ky aX aB aP aT aR aK aH aG aS aS0 aS1 aS2 aS3 aI0 aI1 aI2 aI3 ax au ay am sla ssz sit bsz bgp ber bxs bus bys bme) (w_xshb ky aX aB aP aT aR aK aH aG aS aS0 aS1 aS2 aS3 aI0 aI1 aI2 aI3 ax au ay am sla ssz sit res.2.1 res.2.2.1 ber res.2.2.2.1 res.2.2.2.2.1 res.2.2.2.2.2.1 res.2.2.2.2.2.2) res.1 := by
  unfold MI
  refine Met.ofW (cc := cX8_rows) (maxL := 9) (ret := (some .int)) (by decide) rfl ?_
  intro p e s m args below meth c s₁ B hml hv
  obtain ⟨rfl, hsz, hP, hK, hD0⟩ := hv
  have hx := B.exec
  have hb := B.bytes
  have hr := B.returns
  have hts := atoms_spec (ws := wsX8_rows) B.pre
  have hown : s.vm.findClass RX8 = some m.cls := findClass_of_methodNamed B.named
  have hlocks := B.notSynchronized
  subst hsz
  have hD := hD0.self (sz := s.heap.size)
  generalize hAe : va_A (w_xshb ky aX aB aP aT aR aK aH aG aS aS0 aS1 aS2 aS3 aI0 aI1 aI2 aI3 ax au ay am sla ssz sit bsz bgp ber bxs bus bys bme) s.heap.size = A at hD ⊢
  have hA : ∀ q : Nat, s.heap.size ≤ q → A q := fun q h => by rw [← hAe]; exact Or.inr h
  have hS : va_S A s.heap s.heap [] := va_S.rf
  have hP : va_P D vwCl (w_xshb ky aX aB aP aT aR aK aH aG aS aS0 aS1 aS2 aS3 aI0 aI1 aI2 aI3 ax au ay am sla ssz sit bsz bgp ber bxs bus bys bme) s.heap := hP
  have hl := lv_entry ([.ref aX, .int p0, .int p1, .int p2, .int p3]) (n := 9) (Nat.le_of_ble_eq_true rfl)
  rw [lg_entry_eq]
  generalize (lg_sl ([.ref aX, .int p0, .int p1, .int p2, .int p3]) ++ List.replicate (9 - (lg_sl ([.ref aX, .int p0, .int p1, .int p2, .int p3])).length) Slot.unset).toArray = ls at hl ⊢
  have hl : lv_has ls 9 [(0, .ref aX), (1, .int p0), (2, .int p1), (3, .int p2), (4, .int p3)] := hl
  have C : cx p s m c ([.ref aX, .int p0, .int p1, .int p2, .int p3]).toArray D ky A cX8_rows 9 wsX8_rows RX8 := ⟨hx, hb, hml, hown, hts, hK, hA⟩
  have hQ : ∀ (pc : Nat) (H : Heap) (locs : List Loc) (ls : Array Slot), decode cX8_rows pc = .ok (.ireturn, 1) → va_P D vwCl (w_xshb ky aX aB aP aT aR aK aH aG aS aS0 aS1 aS2 aS3 aI0 aI1 aI2 aI3 ax au ay am sla ssz sit res.2.1 res.2.2.1 ber res.2.2.2.1 res.2.2.2.2.1 res.2.2.2.2.2.1 res.2.2.2.2.2.2) H → va_D A (w_xshb ky aX aB aP aT aR aK aH aG aS aS0 aS1 aS2 aS3 aI0 aI1 aI2 aI3 ax au ay am sla ssz sit res.2.1 res.2.2.1 ber res.2.2.2.1 res.2.2.2.2.1 res.2.2.2.2.2.1 res.2.2.2.2.2.2) → va_S A s.heap H locs → W p l e rm_X8_rows s m ([.ref aX, .int p0, .int p1, .int p2, .int p3]).toArray below meth c H locs 0 0 (MQ below (va_Qi (S := Unit) (fun r _ => r = res.1) (fun _ t => va_P D vwCl (w_xshb ky aX aB aP aT aR aK aH aG aS aS0 aS1 aS2 aS3 aI0 aI1 aI2 aI3 ax au ay am sla ssz sit res.2.1 res.2.2.1 ber res.2.2.2.1 res.2.2.2.2.1 res.2.2.2.2.2.1 res.2.2.2.2.2.2) t.heap ∧ va_K D vwCl (tyW ky) t ∧ va_D A (w_xshb ky aX aB aP aT aR aK aH aG aS aS0 aS1 aS2 aS3 aI0 aI1 aI2 aI3 ax au ay am sla ssz sit res.2.1 res.2.2.1 ber res.2.2.2.1 res.2.2.2.2.1 res.2.2.2.2.2.1 res.2.2.2.2.2.2)) A) ([.ref aX, .int p0, .int p1, .int p2, .int p3]).toArray s 0 0 A) (F0 m pc ls [.int res.1]) := fun pc H locs ls hd hP hD hS => W.iret hx hb hr (fun t ht hW => ⟨⟨res.1, (), rfl, rfl, by rw [ht]; exact hP, va_K.moved hW.alike hK, hD⟩, hS.F ht⟩) hS.2.2 hd
  unfold f_X8_rows at hF
  refine lv_aload_n hx hb dX8_rows_0 rfl (lv_at hl 0 rfl) ?_
  refine lv_iload_n hx hb dX8_rows_1 rfl (lv_at hl 1 rfl) ?_
  rcases sh5_s hF with ⟨h1, hF⟩ | ⟨h1, hF⟩ | ⟨h1, hF⟩ | ⟨h1, hF⟩ | ⟨h1, hF⟩
  · refine cl_vq (ro := none) (As := [.int p0]) (rest := []) (w' := (w_xshb ky aX aB aP aT aR aK aH aG aS aS0 aS1 aS2 aS3 aI0 aI1 aI2 aI3 ax au ay am sla ssz sit bsz bgp ber bxs bus bys bme)) ⟨hx, hb, hml, hown, hts⟩ hK hP hD hS hA (c_X8_sheetAt l D ky aX aB aP aT aR aK aH aG aS aS0 aS1 aS2 aS3 _ p0 none (Or.inl ⟨h1, rfl⟩)) (cwV 1 hts gX8_rows_X8_sheetAt rfl rfl rfl (by decide +kernel) ⟨Nat.le_of_ble_eq_true rfl, Nat.le_of_ble_eq_true rfl⟩) [0, 1] [2, 3, 4, 5, 6, 7, 8, 9, 10, 11, 12, 13, 14] [13, 14, 0, 1, 2, 3, 4, 5, 6, 7, 8, 9, 10, 11, 12] 0 7 rfl rfl rfl rfl (wr := [(aS0, .inr (4, [.ref aI0, .int (sla 0), .int (ssz 0)])), (aI0, .inl (ky 0, 36, .inl (sit 0))), (aS1, .inr (4, [.ref aI1, .int (sla 1), .int (ssz 1)])), (aI1, .inl (ky 0, 36, .inl (sit 1))), (aS2, .inr (4, [.ref aI2, .int (sla 2), .int (ssz 2)])), (aI2, .inl (ky 0, 36, .inl (sit 2))), (aS3, .inr (4, [.ref aI3, .int (sla 3), .int (ssz 3)])), (aI3, .inl (ky 0, 36, .inl (sit 3))), (aB, .inr (0, [.ref ax, .ref au, .ref ay, .ref am, .int bsz, .int bgp, .int ber])), (ax, .inl (ky 0, 12, .inl bxs)), (au, .inl (ky 0, 12, .inl bus)), (ay, .inl (ky 0, 12, .inl bys)), (am, .inl (ky 0, 289, .inl bme))]) rfl (by decide) rfl rfl hl.1 (Nat.le_of_ble_eq_true rfl) dX8_rows_2 ⟨Nat.zero_le _, Nat.zero_le _⟩ (fun H locs hP hD hS => ?_)
    refine lv_astoreN (lv' := [(5, .null), (0, .ref aX), (1, .int p0), (2, .int p1), (3, .int p2), (4, .int p3)]) hx hb dX8_rows_5 hl (by decide) rfl (fun ls hl => ?_)
    refine lv_aloadN hx hb dX8_rows_7 (lv_at hl 0 rfl) ?_
    refine lv_ifnullN (tgt := 31) hx hb dX8_rows_9 (by decide) ?_
    refine lv_iconst (v := (-1 : Int32)) hx hb dX8_rows_31 (by decide) ?_
    have hF := Option.some.inj hF
    subst hF
    exact hQ _ _ _ _ dX8_rows_32 hP hD hS
  · refine cl_vq (ro := (some aS0)) (As := [.int p0]) (rest := []) (w' := (w_xshb ky aX aB aP aT aR aK aH aG aS aS0 aS1 aS2 aS3 aI0 aI1 aI2 aI3 ax au ay am sla ssz sit bsz bgp ber bxs bus bys bme)) ⟨hx, hb, hml, hown, hts⟩ hK hP hD hS hA (c_X8_sheetAt l D ky aX aB aP aT aR aK aH aG aS aS0 aS1 aS2 aS3 _ p0 (some aS0) (Or.inr ⟨by rw [h1]; decide, by rw [h1]; rfl⟩)) (cwV 1 hts gX8_rows_X8_sheetAt rfl rfl rfl (by decide +kernel) ⟨Nat.le_of_ble_eq_true rfl, Nat.le_of_ble_eq_true rfl⟩) [0, 1] [2, 3, 4, 5, 6, 7, 8, 9, 10, 11, 12, 13, 14] [13, 14, 0, 1, 2, 3, 4, 5, 6, 7, 8, 9, 10, 11, 12] 0 7 rfl rfl rfl rfl (wr := [(aS0, .inr (4, [.ref aI0, .int (sla 0), .int (ssz 0)])), (aI0, .inl (ky 0, 36, .inl (sit 0))), (aS1, .inr (4, [.ref aI1, .int (sla 1), .int (ssz 1)])), (aI1, .inl (ky 0, 36, .inl (sit 1))), (aS2, .inr (4, [.ref aI2, .int (sla 2), .int (ssz 2)])), (aI2, .inl (ky 0, 36, .inl (sit 2))), (aS3, .inr (4, [.ref aI3, .int (sla 3), .int (ssz 3)])), (aI3, .inl (ky 0, 36, .inl (sit 3))), (aB, .inr (0, [.ref ax, .ref au, .ref ay, .ref am, .int bsz, .int bgp, .int ber])), (ax, .inl (ky 0, 12, .inl bxs)), (au, .inl (ky 0, 12, .inl bus)), (ay, .inl (ky 0, 12, .inl bys)), (am, .inl (ky 0, 289, .inl bme))]) rfl (by decide) rfl rfl hl.1 (Nat.le_of_ble_eq_true rfl) dX8_rows_2 ⟨Nat.zero_le _, Nat.zero_le _⟩ (fun H locs hP hD hS => ?_)
    refine lv_astore (lv' := [(5, .ref aS0), (0, .ref aX), (1, .int p0), (2, .int p1), (3, .int p2), (4, .int p3)]) hx hb dX8_rows_5 hl (by decide) rfl (fun ls hl => ?_)
    refine lv_aload hx hb dX8_rows_7 (lv_at hl 0 rfl) ?_
    refine lv_ifnull hx hb dX8_rows_9 ?_
    refine lv_iload_n hx hb dX8_rows_12 rfl (lv_at hl 3 rfl) ?_
    obtain ⟨r3, h2, hF⟩ := b1_s hF
    refine cl_si (As := [.int p1]) (rest := []) ⟨hx, hb, hml, hown, hts⟩ hK hP hD hS hA (c_X8_isLane l D ky  _ N   p1 r3 h2) (va_cwS 1 hts gX8_rows_X8_isLane rfl rfl rfl (by decide +kernel) ⟨Nat.le_of_ble_eq_true rfl, Nat.le_of_ble_eq_true rfl⟩) rfl hl.1 (Nat.le_of_ble_eq_true rfl) dX8_rows_13 ⟨Nat.zero_le _, Nat.zero_le _⟩ (fun H locs hP hD hS => ?_)
    refine lv_if_eq (tgt := 31) hx hb dX8_rows_16 (by decide) (fun c4 => ?_) (fun c4 => ?_)
    · have hF := if_t c4 hF
      refine lv_iconst (v := (-1 : Int32)) hx hb dX8_rows_31 (by decide) ?_
      have hF := Option.some.inj hF
      subst hF
      exact hQ _ _ _ _ dX8_rows_32 hP hD hS
    · have hF := if_f c4 hF
      refine lv_iload hx hb dX8_rows_19 (lv_at hl 5 rfl) ?_
      refine lv_if_lt (tgt := 31) hx hb dX8_rows_21 (by decide) (fun c5 => ?_) (fun c5 => ?_)
      · have hF := if_t c5 hF
        refine lv_iconst (v := (-1 : Int32)) hx hb dX8_rows_31 (by decide) ?_
        have hF := Option.some.inj hF
        subst hF
        exact hQ _ _ _ _ dX8_rows_32 hP hD hS
      · have hF := if_f c5 hF
        refine lv_iload hx hb dX8_rows_24 (lv_at hl 5 rfl) ?_
        refine lv_bipush (v := (12 : Int32)) hx hb dX8_rows_26 (by decide) ?_
        refine lv_icmp_le (tgt := 33) hx hb dX8_rows_28 (by decide) (fun c6 => ?_) (fun c6 => ?_)
        · have hF := if_t c6 hF
          refine lv_aload hx hb dX8_rows_33 (lv_at hl 0 rfl) ?_
          refine lv_iload_n hx hb dX8_rows_35 rfl (lv_at hl 3 rfl) ?_
          refine lv_iload_n hx hb dX8_rows_36 rfl (lv_at hl 4 rfl) ?_
          refine lv_iconst (v := (3 : Int32)) hx hb dX8_rows_37 (by decide) ?_
          refine lv_iload hx hb dX8_rows_38 (lv_at hl 5 rfl) ?_
          refine lv_imul hx hb dX8_rows_40 ?_
          obtain ⟨r8, h7, hF⟩ := b1_s hF
          refine cl_vi (As := [.int p1, .int p2, .int ((3 : Int32) * p3)]) (rest := []) (w' := (w_xshb ky aX aB aP aT aR aK aH aG aS aS0 aS1 aS2 aS3 aI0 aI1 aI2 aI3 ax au ay am sla ssz sit bsz bgp ber bxs bus bys bme)) ⟨hx, hb, hml, hown, hts⟩ hK hP hD hS hA (c_X5_refusal l D ky aS0 aI0 _ N  (sla 0) (ssz 0) (sit 0) p1 p2 ((3 : Int32) * p3) r8 h7) (cwV 3 hts gX8_rows_X5_refusal rfl rfl rfl (by decide +kernel) ⟨Nat.le_of_ble_eq_true rfl, Nat.le_of_ble_eq_true rfl⟩) [2, 3] [0, 1, 4, 5, 6, 7, 8, 9, 10, 11, 12, 13, 14] [0, 1, 13, 14, 2, 3, 4, 5, 6, 7, 8, 9, 10, 11, 12] 0 4 rfl rfl rfl rfl (wr := [(aX, .inr (7, [.ref aB, .ref aP, .ref aT, .ref aR, .ref aK, .ref aH, .ref aG, .ref aS])), (aS, .inl (ky 3, 4, .inr (.inr (.inr (.inr (shf aS0 aS1 aS2 aS3)))))), (aS1, .inr (4, [.ref aI1, .int (sla 1), .int (ssz 1)])), (aI1, .inl (ky 0, 36, .inl (sit 1))), (aS2, .inr (4, [.ref aI2, .int (sla 2), .int (ssz 2)])), (aI2, .inl (ky 0, 36, .inl (sit 2))), (aS3, .inr (4, [.ref aI3, .int (sla 3), .int (ssz 3)])), (aI3, .inl (ky 0, 36, .inl (sit 3))), (aB, .inr (0, [.ref ax, .ref au, .ref ay, .ref am, .int bsz, .int bgp, .int ber])), (ax, .inl (ky 0, 12, .inl bxs)), (au, .inl (ky 0, 12, .inl bus)), (ay, .inl (ky 0, 12, .inl bys)), (am, .inl (ky 0, 289, .inl bme))]) rfl (by decide) rfl rfl hl.1 (Nat.le_of_ble_eq_true rfl) dX8_rows_41 ⟨Nat.zero_le _, Nat.zero_le _⟩ (fun H locs hP hD hS => ?_)
          refine lv_istore (lv' := [(6, .int r8), (5, .ref aS0), (0, .ref aX), (1, .int p0), (2, .int p1), (3, .int p2), (4, .int p3)]) hx hb dX8_rows_44 hl (by decide) rfl (fun ls hl => ?_)
          refine lv_iload hx hb dX8_rows_46 (lv_at hl 0 rfl) ?_
          refine lv_if_ge (tgt := 54) hx hb dX8_rows_48 (by decide) (fun c9 => ?_) (fun c9 => ?_)
          · have hF := if_t c9 hF
            refine lv_aload hx hb dX8_rows_54 (lv_at hl 1 rfl) ?_
            refine lv_iload_n hx hb dX8_rows_56 rfl (lv_at hl 5 rfl) ?_
            refine lv_iconst (v := (3 : Int32)) hx hb dX8_rows_57 (by decide) ?_
            refine lv_iload hx hb dX8_rows_58 (lv_at hl 6 rfl) ?_
            refine lv_imul hx hb dX8_rows_60 ?_
            refine lv_bipush (v := (-99 : Int32)) hx hb dX8_rows_61 (by decide) ?_
            refine lv_bipush (v := (99 : Int32)) hx hb dX8_rows_63 (by decide) ?_
            obtain ⟨r11, h10, hF⟩ := b1_s hF
            refine cl_vi (As := [.int p2, .int ((3 : Int32) * p3), .int (-99 : Int32), .int (99 : Int32)]) (rest := []) (w' := (w_xshb ky aX aB aP aT aR aK aH aG aS aS0 aS1 aS2 aS3 aI0 aI1 aI2 aI3 ax au ay am sla ssz sit bsz bgp ber bxs bus bys bme)) ⟨hx, hb, hml, hown, hts⟩ hK hP hD hS hA (c_X5_allWithin l D ky aS0 aI0 _ N  (sla 0) (ssz 0) (sit 0) p2 ((3 : Int32) * p3) (-99 : Int32) (99 : Int32) r11 h10) (cwV 4 hts gX8_rows_X5_allWithin rfl rfl rfl (by decide +kernel) ⟨Nat.le_of_ble_eq_true rfl, Nat.le_of_ble_eq_true rfl⟩) [2, 3] [0, 1, 4, 5, 6, 7, 8, 9, 10, 11, 12, 13, 14] [0, 1, 13, 14, 2, 3, 4, 5, 6, 7, 8, 9, 10, 11, 12] 0 4 rfl rfl rfl rfl (wr := [(aX, .inr (7, [.ref aB, .ref aP, .ref aT, .ref aR, .ref aK, .ref aH, .ref aG, .ref aS])), (aS, .inl (ky 3, 4, .inr (.inr (.inr (.inr (shf aS0 aS1 aS2 aS3)))))), (aS1, .inr (4, [.ref aI1, .int (sla 1), .int (ssz 1)])), (aI1, .inl (ky 0, 36, .inl (sit 1))), (aS2, .inr (4, [.ref aI2, .int (sla 2), .int (ssz 2)])), (aI2, .inl (ky 0, 36, .inl (sit 2))), (aS3, .inr (4, [.ref aI3, .int (sla 3), .int (ssz 3)])), (aI3, .inl (ky 0, 36, .inl (sit 3))), (aB, .inr (0, [.ref ax, .ref au, .ref ay, .ref am, .int bsz, .int bgp, .int ber])), (ax, .inl (ky 0, 12, .inl bxs)), (au, .inl (ky 0, 12, .inl bus)), (ay, .inl (ky 0, 12, .inl bys)), (am, .inl (ky 0, 289, .inl bme))]) rfl (by decide) rfl rfl hl.1 (Nat.le_of_ble_eq_true rfl) dX8_rows_65 ⟨Nat.zero_le _, Nat.zero_le _⟩ (fun H locs hP hD hS => ?_)
            refine lv_if_ne (tgt := 74) hx hb dX8_rows_68 (by decide) (fun c12 => ?_) (fun c12 => ?_)
            · have hF := if_f c12 hF
              refine lv_iload hx hb dX8_rows_74 (lv_at hl 6 rfl) ?_
              refine lv_aload_n hx hb dX8_rows_76 rfl (lv_at hl 2 rfl) ?_
              refine va_get (D := D) (ci := 7) (v := .ref aB) (C := RX8) (T := TX8) (N := 8) hx hb hts iX8_rows_X8 hown hK hP 0 rfl rfl 0 (by decide) (hts _ kX8_rows_1) (fun _ h9 => h9) rfl dX8_rows_77 ?_
              obtain ⟨r14, h13, hF⟩ := b1_s hF
              refine cl_vi (As := []) (rest := [.int p3]) (w' := (w_xshb ky aX aB aP aT aR aK aH aG aS aS0 aS1 aS2 aS3 aI0 aI1 aI2 aI3 ax au ay am sla ssz sit bsz bgp ber bxs bus bys bme)) ⟨hx, hb, hml, hown, hts⟩ hK hP hD hS hA (c_X0_room l D ky aB ax au ay am _ N  bsz bgp ber bxs bus bys bme  r14 h13) (cwV 0 hts gX8_rows_X0_room rfl rfl rfl (by decide +kernel) ⟨Nat.le_of_ble_eq_true rfl, Nat.le_of_ble_eq_true rfl⟩) [10, 11, 12, 13, 14] [0, 1, 2, 3, 4, 5, 6, 7, 8, 9] [0, 1, 2, 3, 4, 5, 6, 7, 8, 9, 10, 11, 12, 13, 14] 0 0 rfl rfl rfl rfl (wr := [(aX, .inr (7, [.ref aB, .ref aP, .ref aT, .ref aR, .ref aK, .ref aH, .ref aG, .ref aS])), (aS, .inl (ky 3, 4, .inr (.inr (.inr (.inr (shf aS0 aS1 aS2 aS3)))))), (aS0, .inr (4, [.ref aI0, .int (sla 0), .int (ssz 0)])), (aI0, .inl (ky 0, 36, .inl (sit 0))), (aS1, .inr (4, [.ref aI1, .int (sla 1), .int (ssz 1)])), (aI1, .inl (ky 0, 36, .inl (sit 1))), (aS2, .inr (4, [.ref aI2, .int (sla 2), .int (ssz 2)])), (aI2, .inl (ky 0, 36, .inl (sit 2))), (aS3, .inr (4, [.ref aI3, .int (sla 3), .int (ssz 3)])), (aI3, .inl (ky 0, 36, .inl (sit 3)))]) rfl (by decide) rfl rfl hl.1 (Nat.le_of_ble_eq_true rfl) dX8_rows_80 ⟨Nat.zero_le _, Nat.zero_le _⟩ (fun H locs hP hD hS => ?_)
              refine lv_icmp_le (tgt := 89) hx hb dX8_rows_83 (by decide) (fun c15 => ?_) (fun c15 => ?_)
              · have hF := if_t c15 hF
                refine lv_iconst (v := (0 : Int32)) hx hb dX8_rows_89 (by decide) ?_
                refine lv_istore (lv' := [(7, .int (0 : Int32)), (6, .int r8), (5, .ref aS0), (0, .ref aX), (1, .int p0), (2, .int p1), (3, .int p2), (4, .int p3)]) hx hb dX8_rows_90 hl (by decide) rfl (fun ls hl => ?_)
                exact w_X8_rows_92_s0 N C res hQ p2 p3 N (0 : Int32) bsz bgp bxs bus bys bme hF _ _ _ hP hD hS (lv_sub hl [3, 6, 7, 2, 0] rfl)
              · have hF := if_f c15 hF
                refine lv_bipush (v := (-3 : Int32)) hx hb dX8_rows_86 (by decide) ?_
                have hF := Option.some.inj hF
                subst hF
                exact hQ _ _ _ _ dX8_rows_88 hP hD hS
            · have hF := if_t c12 hF
              refine lv_bipush (v := (-2 : Int32)) hx hb dX8_rows_71 (by decide) ?_
              have hF := Option.some.inj hF
              subst hF
              exact hQ _ _ _ _ dX8_rows_73 hP hD hS
          · have hF := if_f c9 hF
            refine lv_iload hx hb dX8_rows_51 (lv_at hl 0 rfl) ?_
            have hF := Option.some.inj hF
            subst hF
            exact hQ _ _ _ _ dX8_rows_53 hP hD hS
        · have hF := if_f c6 hF
          refine lv_iconst (v := (-1 : Int32)) hx hb dX8_rows_31 (by decide) ?_
          have hF := Option.some.inj hF
          subst hF
          exact hQ _ _ _ _ dX8_rows_32 hP hD hS
  · refine cl_vq (ro := (some aS1)) (As := [.int p0]) (rest := []) (w' := (w_xshb ky aX aB aP aT aR aK aH aG aS aS0 aS1 aS2 aS3 aI0 aI1 aI2 aI3 ax au ay am sla ssz sit bsz bgp ber bxs bus bys bme)) ⟨hx, hb, hml, hown, hts⟩ hK hP hD hS hA (c_X8_sheetAt l D ky aX aB aP aT aR aK aH aG aS aS0 aS1 aS2 aS3 _ p0 (some aS1) (Or.inr ⟨by rw [h1]; decide, by rw [h1]; rfl⟩)) (cwV 1 hts gX8_rows_X8_sheetAt rfl rfl rfl (by decide +kernel) ⟨Nat.le_of_ble_eq_true rfl, Nat.le_of_ble_eq_true rfl⟩) [0, 1] [2, 3, 4, 5, 6, 7, 8, 9, 10, 11, 12, 13, 14] [13, 14, 0, 1, 2, 3, 4, 5, 6, 7, 8, 9, 10, 11, 12] 0 7 rfl rfl rfl rfl (wr := [(aS0, .inr (4, [.ref aI0, .int (sla 0), .int (ssz 0)])), (aI0, .inl (ky 0, 36, .inl (sit 0))), (aS1, .inr (4, [.ref aI1, .int (sla 1), .int (ssz 1)])), (aI1, .inl (ky 0, 36, .inl (sit 1))), (aS2, .inr (4, [.ref aI2, .int (sla 2), .int (ssz 2)])), (aI2, .inl (ky 0, 36, .inl (sit 2))), (aS3, .inr (4, [.ref aI3, .int (sla 3), .int (ssz 3)])), (aI3, .inl (ky 0, 36, .inl (sit 3))), (aB, .inr (0, [.ref ax, .ref au, .ref ay, .ref am, .int bsz, .int bgp, .int ber])), (ax, .inl (ky 0, 12, .inl bxs)), (au, .inl (ky 0, 12, .inl bus)), (ay, .inl (ky 0, 12, .inl bys)), (am, .inl (ky 0, 289, .inl bme))]) rfl (by decide) rfl rfl hl.1 (Nat.le_of_ble_eq_true rfl) dX8_rows_2 ⟨Nat.zero_le _, Nat.zero_le _⟩ (fun H locs hP hD hS => ?_)
    refine lv_astore (lv' := [(5, .ref aS1), (0, .ref aX), (1, .int p0), (2, .int p1), (3, .int p2), (4, .int p3)]) hx hb dX8_rows_5 hl (by decide) rfl (fun ls hl => ?_)
    refine lv_aload hx hb dX8_rows_7 (lv_at hl 0 rfl) ?_
    refine lv_ifnull hx hb dX8_rows_9 ?_
    refine lv_iload_n hx hb dX8_rows_12 rfl (lv_at hl 3 rfl) ?_
    obtain ⟨r17, h16, hF⟩ := b1_s hF
    refine cl_si (As := [.int p1]) (rest := []) ⟨hx, hb, hml, hown, hts⟩ hK hP hD hS hA (c_X8_isLane l D ky  _ N   p1 r17 h16) (va_cwS 1 hts gX8_rows_X8_isLane rfl rfl rfl (by decide +kernel) ⟨Nat.le_of_ble_eq_true rfl, Nat.le_of_ble_eq_true rfl⟩) rfl hl.1 (Nat.le_of_ble_eq_true rfl) dX8_rows_13 ⟨Nat.zero_le _, Nat.zero_le _⟩ (fun H locs hP hD hS => ?_)
    refine lv_if_eq (tgt := 31) hx hb dX8_rows_16 (by decide) (fun c18 => ?_) (fun c18 => ?_)
    · have hF := if_t c18 hF
      refine lv_iconst (v := (-1 : Int32)) hx hb dX8_rows_31 (by decide) ?_
      have hF := Option.some.inj hF
      subst hF
      exact hQ _ _ _ _ dX8_rows_32 hP hD hS
    · have hF := if_f c18 hF
      refine lv_iload hx hb dX8_rows_19 (lv_at hl 5 rfl) ?_
      refine lv_if_lt (tgt := 31) hx hb dX8_rows_21 (by decide) (fun c19 => ?_) (fun c19 => ?_)
      · have hF := if_t c19 hF
        refine lv_iconst (v := (-1 : Int32)) hx hb dX8_rows_31 (by decide) ?_
        have hF := Option.some.inj hF
        subst hF
        exact hQ _ _ _ _ dX8_rows_32 hP hD hS
      · have hF := if_f c19 hF
        refine lv_iload hx hb dX8_rows_24 (lv_at hl 5 rfl) ?_
        refine lv_bipush (v := (12 : Int32)) hx hb dX8_rows_26 (by decide) ?_
        refine lv_icmp_le (tgt := 33) hx hb dX8_rows_28 (by decide) (fun c20 => ?_) (fun c20 => ?_)
        · have hF := if_t c20 hF
          refine lv_aload hx hb dX8_rows_33 (lv_at hl 0 rfl) ?_
          refine lv_iload_n hx hb dX8_rows_35 rfl (lv_at hl 3 rfl) ?_
          refine lv_iload_n hx hb dX8_rows_36 rfl (lv_at hl 4 rfl) ?_
          refine lv_iconst (v := (3 : Int32)) hx hb dX8_rows_37 (by decide) ?_
          refine lv_iload hx hb dX8_rows_38 (lv_at hl 5 rfl) ?_
          refine lv_imul hx hb dX8_rows_40 ?_
          obtain ⟨r22, h21, hF⟩ := b1_s hF
          refine cl_vi (As := [.int p1, .int p2, .int ((3 : Int32) * p3)]) (rest := []) (w' := (w_xshb ky aX aB aP aT aR aK aH aG aS aS0 aS1 aS2 aS3 aI0 aI1 aI2 aI3 ax au ay am sla ssz sit bsz bgp ber bxs bus bys bme)) ⟨hx, hb, hml, hown, hts⟩ hK hP hD hS hA (c_X5_refusal l D ky aS1 aI1 _ N  (sla 1) (ssz 1) (sit 1) p1 p2 ((3 : Int32) * p3) r22 h21) (cwV 3 hts gX8_rows_X5_refusal rfl rfl rfl (by decide +kernel) ⟨Nat.le_of_ble_eq_true rfl, Nat.le_of_ble_eq_true rfl⟩) [4, 5] [0, 1, 2, 3, 6, 7, 8, 9, 10, 11, 12, 13, 14] [0, 1, 2, 3, 13, 14, 4, 5, 6, 7, 8, 9, 10, 11, 12] 0 4 rfl rfl rfl rfl (wr := [(aX, .inr (7, [.ref aB, .ref aP, .ref aT, .ref aR, .ref aK, .ref aH, .ref aG, .ref aS])), (aS, .inl (ky 3, 4, .inr (.inr (.inr (.inr (shf aS0 aS1 aS2 aS3)))))), (aS0, .inr (4, [.ref aI0, .int (sla 0), .int (ssz 0)])), (aI0, .inl (ky 0, 36, .inl (sit 0))), (aS2, .inr (4, [.ref aI2, .int (sla 2), .int (ssz 2)])), (aI2, .inl (ky 0, 36, .inl (sit 2))), (aS3, .inr (4, [.ref aI3, .int (sla 3), .int (ssz 3)])), (aI3, .inl (ky 0, 36, .inl (sit 3))), (aB, .inr (0, [.ref ax, .ref au, .ref ay, .ref am, .int bsz, .int bgp, .int ber])), (ax, .inl (ky 0, 12, .inl bxs)), (au, .inl (ky 0, 12, .inl bus)), (ay, .inl (ky 0, 12, .inl bys)), (am, .inl (ky 0, 289, .inl bme))]) rfl (by decide) rfl rfl hl.1 (Nat.le_of_ble_eq_true rfl) dX8_rows_41 ⟨Nat.zero_le _, Nat.zero_le _⟩ (fun H locs hP hD hS => ?_)
          refine lv_istore (lv' := [(6, .int r22), (5, .ref aS1), (0, .ref aX), (1, .int p0), (2, .int p1), (3, .int p2), (4, .int p3)]) hx hb dX8_rows_44 hl (by decide) rfl (fun ls hl => ?_)
          refine lv_iload hx hb dX8_rows_46 (lv_at hl 0 rfl) ?_
          refine lv_if_ge (tgt := 54) hx hb dX8_rows_48 (by decide) (fun c23 => ?_) (fun c23 => ?_)
          · have hF := if_t c23 hF
            refine lv_aload hx hb dX8_rows_54 (lv_at hl 1 rfl) ?_
            refine lv_iload_n hx hb dX8_rows_56 rfl (lv_at hl 5 rfl) ?_
            refine lv_iconst (v := (3 : Int32)) hx hb dX8_rows_57 (by decide) ?_
            refine lv_iload hx hb dX8_rows_58 (lv_at hl 6 rfl) ?_
            refine lv_imul hx hb dX8_rows_60 ?_
            refine lv_bipush (v := (-99 : Int32)) hx hb dX8_rows_61 (by decide) ?_
            refine lv_bipush (v := (99 : Int32)) hx hb dX8_rows_63 (by decide) ?_
            obtain ⟨r25, h24, hF⟩ := b1_s hF
            refine cl_vi (As := [.int p2, .int ((3 : Int32) * p3), .int (-99 : Int32), .int (99 : Int32)]) (rest := []) (w' := (w_xshb ky aX aB aP aT aR aK aH aG aS aS0 aS1 aS2 aS3 aI0 aI1 aI2 aI3 ax au ay am sla ssz sit bsz bgp ber bxs bus bys bme)) ⟨hx, hb, hml, hown, hts⟩ hK hP hD hS hA (c_X5_allWithin l D ky aS1 aI1 _ N  (sla 1) (ssz 1) (sit 1) p2 ((3 : Int32) * p3) (-99 : Int32) (99 : Int32) r25 h24) (cwV 4 hts gX8_rows_X5_allWithin rfl rfl rfl (by decide +kernel) ⟨Nat.le_of_ble_eq_true rfl, Nat.le_of_ble_eq_true rfl⟩) [4, 5] [0, 1, 2, 3, 6, 7, 8, 9, 10, 11, 12, 13, 14] [0, 1, 2, 3, 13, 14, 4, 5, 6, 7, 8, 9, 10, 11, 12] 0 4 rfl rfl rfl rfl (wr := [(aX, .inr (7, [.ref aB, .ref aP, .ref aT, .ref aR, .ref aK, .ref aH, .ref aG, .ref aS])), (aS, .inl (ky 3, 4, .inr (.inr (.inr (.inr (shf aS0 aS1 aS2 aS3)))))), (aS0, .inr (4, [.ref aI0, .int (sla 0), .int (ssz 0)])), (aI0, .inl (ky 0, 36, .inl (sit 0))), (aS2, .inr (4, [.ref aI2, .int (sla 2), .int (ssz 2)])), (aI2, .inl (ky 0, 36, .inl (sit 2))), (aS3, .inr (4, [.ref aI3, .int (sla 3), .int (ssz 3)])), (aI3, .inl (ky 0, 36, .inl (sit 3))), (aB, .inr (0, [.ref ax, .ref au, .ref ay, .ref am, .int bsz, .int bgp, .int ber])), (ax, .inl (ky 0, 12, .inl bxs)), (au, .inl (ky 0, 12, .inl bus)), (ay, .inl (ky 0, 12, .inl bys)), (am, .inl (ky 0, 289, .inl bme))]) rfl (by decide) rfl rfl hl.1 (Nat.le_of_ble_eq_true rfl) dX8_rows_65 ⟨Nat.zero_le _, Nat.zero_le _⟩ (fun H locs hP hD hS => ?_)
            refine lv_if_ne (tgt := 74) hx hb dX8_rows_68 (by decide) (fun c26 => ?_) (fun c26 => ?_)
            · have hF := if_f c26 hF
              refine lv_iload hx hb dX8_rows_74 (lv_at hl 6 rfl) ?_
              refine lv_aload_n hx hb dX8_rows_76 rfl (lv_at hl 2 rfl) ?_
              refine va_get (D := D) (ci := 7) (v := .ref aB) (C := RX8) (T := TX8) (N := 8) hx hb hts iX8_rows_X8 hown hK hP 0 rfl rfl 0 (by decide) (hts _ kX8_rows_1) (fun _ h9 => h9) rfl dX8_rows_77 ?_
              obtain ⟨r28, h27, hF⟩ := b1_s hF
              refine cl_vi (As := []) (rest := [.int p3]) (w' := (w_xshb ky aX aB aP aT aR aK aH aG aS aS0 aS1 aS2 aS3 aI0 aI1 aI2 aI3 ax au ay am sla ssz sit bsz bgp ber bxs bus bys bme)) ⟨hx, hb, hml, hown, hts⟩ hK hP hD hS hA (c_X0_room l D ky aB ax au ay am _ N  bsz bgp ber bxs bus bys bme  r28 h27) (cwV 0 hts gX8_rows_X0_room rfl rfl rfl (by decide +kernel) ⟨Nat.le_of_ble_eq_true rfl, Nat.le_of_ble_eq_true rfl⟩) [10, 11, 12, 13, 14] [0, 1, 2, 3, 4, 5, 6, 7, 8, 9] [0, 1, 2, 3, 4, 5, 6, 7, 8, 9, 10, 11, 12, 13, 14] 0 0 rfl rfl rfl rfl (wr := [(aX, .inr (7, [.ref aB, .ref aP, .ref aT, .ref aR, .ref aK, .ref aH, .ref aG, .ref aS])), (aS, .inl (ky 3, 4, .inr (.inr (.inr (.inr (shf aS0 aS1 aS2 aS3)))))), (aS0, .inr (4, [.ref aI0, .int (sla 0), .int (ssz 0)])), (aI0, .inl (ky 0, 36, .inl (sit 0))), (aS1, .inr (4, [.ref aI1, .int (sla 1), .int (ssz 1)])), (aI1, .inl (ky 0, 36, .inl (sit 1))), (aS2, .inr (4, [.ref aI2, .int (sla 2), .int (ssz 2)])), (aI2, .inl (ky 0, 36, .inl (sit 2))), (aS3, .inr (4, [.ref aI3, .int (sla 3), .int (ssz 3)])), (aI3, .inl (ky 0, 36, .inl (sit 3)))]) rfl (by decide) rfl rfl hl.1 (Nat.le_of_ble_eq_true rfl) dX8_rows_80 ⟨Nat.zero_le _, Nat.zero_le _⟩ (fun H locs hP hD hS => ?_)
              refine lv_icmp_le (tgt := 89) hx hb dX8_rows_83 (by decide) (fun c29 => ?_) (fun c29 => ?_)
              · have hF := if_t c29 hF
                refine lv_iconst (v := (0 : Int32)) hx hb dX8_rows_89 (by decide) ?_
                refine lv_istore (lv' := [(7, .int (0 : Int32)), (6, .int r22), (5, .ref aS1), (0, .ref aX), (1, .int p0), (2, .int p1), (3, .int p2), (4, .int p3)]) hx hb dX8_rows_90 hl (by decide) rfl (fun ls hl => ?_)
                exact w_X8_rows_92_s1 N C res hQ p2 p3 N (0 : Int32) bsz bgp bxs bus bys bme hF _ _ _ hP hD hS (lv_sub hl [3, 6, 7, 2, 0] rfl)
              · have hF := if_f c29 hF
                refine lv_bipush (v := (-3 : Int32)) hx hb dX8_rows_86 (by decide) ?_
                have hF := Option.some.inj hF
                subst hF
                exact hQ _ _ _ _ dX8_rows_88 hP hD hS
            · have hF := if_t c26 hF
              refine lv_bipush (v := (-2 : Int32)) hx hb dX8_rows_71 (by decide) ?_
              have hF := Option.some.inj hF
              subst hF
              exact hQ _ _ _ _ dX8_rows_73 hP hD hS
          · have hF := if_f c23 hF
            refine lv_iload hx hb dX8_rows_51 (lv_at hl 0 rfl) ?_
            have hF := Option.some.inj hF
            subst hF
            exact hQ _ _ _ _ dX8_rows_53 hP hD hS
        · have hF := if_f c20 hF
          refine lv_iconst (v := (-1 : Int32)) hx hb dX8_rows_31 (by decide) ?_
          have hF := Option.some.inj hF
          subst hF
          exact hQ _ _ _ _ dX8_rows_32 hP hD hS
  · refine cl_vq (ro := (some aS2)) (As := [.int p0]) (rest := []) (w' := (w_xshb ky aX aB aP aT aR aK aH aG aS aS0 aS1 aS2 aS3 aI0 aI1 aI2 aI3 ax au ay am sla ssz sit bsz bgp ber bxs bus bys bme)) ⟨hx, hb, hml, hown, hts⟩ hK hP hD hS hA (c_X8_sheetAt l D ky aX aB aP aT aR aK aH aG aS aS0 aS1 aS2 aS3 _ p0 (some aS2) (Or.inr ⟨by rw [h1]; decide, by rw [h1]; rfl⟩)) (cwV 1 hts gX8_rows_X8_sheetAt rfl rfl rfl (by decide +kernel) ⟨Nat.le_of_ble_eq_true rfl, Nat.le_of_ble_eq_true rfl⟩) [0, 1] [2, 3, 4, 5, 6, 7, 8, 9, 10, 11, 12, 13, 14] [13, 14, 0, 1, 2, 3, 4, 5, 6, 7, 8, 9, 10, 11, 12] 0 7 rfl rfl rfl rfl (wr := [(aS0, .inr (4, [.ref aI0, .int (sla 0), .int (ssz 0)])), (aI0, .inl (ky 0, 36, .inl (sit 0))), (aS1, .inr (4, [.ref aI1, .int (sla 1), .int (ssz 1)])), (aI1, .inl (ky 0, 36, .inl (sit 1))), (aS2, .inr (4, [.ref aI2, .int (sla 2), .int (ssz 2)])), (aI2, .inl (ky 0, 36, .inl (sit 2))), (aS3, .inr (4, [.ref aI3, .int (sla 3), .int (ssz 3)])), (aI3, .inl (ky 0, 36, .inl (sit 3))), (aB, .inr (0, [.ref ax, .ref au, .ref ay, .ref am, .int bsz, .int bgp, .int ber])), (ax, .inl (ky 0, 12, .inl bxs)), (au, .inl (ky 0, 12, .inl bus)), (ay, .inl (ky 0, 12, .inl bys)), (am, .inl (ky 0, 289, .inl bme))]) rfl (by decide) rfl rfl hl.1 (Nat.le_of_ble_eq_true rfl) dX8_rows_2 ⟨Nat.zero_le _, Nat.zero_le _⟩ (fun H locs hP hD hS => ?_)
    refine lv_astore (lv' := [(5, .ref aS2), (0, .ref aX), (1, .int p0), (2, .int p1), (3, .int p2), (4, .int p3)]) hx hb dX8_rows_5 hl (by decide) rfl (fun ls hl => ?_)
    refine lv_aload hx hb dX8_rows_7 (lv_at hl 0 rfl) ?_
    refine lv_ifnull hx hb dX8_rows_9 ?_
    refine lv_iload_n hx hb dX8_rows_12 rfl (lv_at hl 3 rfl) ?_
    obtain ⟨r31, h30, hF⟩ := b1_s hF
    refine cl_si (As := [.int p1]) (rest := []) ⟨hx, hb, hml, hown, hts⟩ hK hP hD hS hA (c_X8_isLane l D ky  _ N   p1 r31 h30) (va_cwS 1 hts gX8_rows_X8_isLane rfl rfl rfl (by decide +kernel) ⟨Nat.le_of_ble_eq_true rfl, Nat.le_of_ble_eq_true rfl⟩) rfl hl.1 (Nat.le_of_ble_eq_true rfl) dX8_rows_13 ⟨Nat.zero_le _, Nat.zero_le _⟩ (fun H locs hP hD hS => ?_)
    refine lv_if_eq (tgt := 31) hx hb dX8_rows_16 (by decide) (fun c32 => ?_) (fun c32 => ?_)
    · have hF := if_t c32 hF
      refine lv_iconst (v := (-1 : Int32)) hx hb dX8_rows_31 (by decide) ?_
      have hF := Option.some.inj hF
      subst hF
      exact hQ _ _ _ _ dX8_rows_32 hP hD hS
    · have hF := if_f c32 hF
      refine lv_iload hx hb dX8_rows_19 (lv_at hl 5 rfl) ?_
      refine lv_if_lt (tgt := 31) hx hb dX8_rows_21 (by decide) (fun c33 => ?_) (fun c33 => ?_)
      · have hF := if_t c33 hF
        refine lv_iconst (v := (-1 : Int32)) hx hb dX8_rows_31 (by decide) ?_
        have hF := Option.some.inj hF
        subst hF
        exact hQ _ _ _ _ dX8_rows_32 hP hD hS
      · have hF := if_f c33 hF
        refine lv_iload hx hb dX8_rows_24 (lv_at hl 5 rfl) ?_
        refine lv_bipush (v := (12 : Int32)) hx hb dX8_rows_26 (by decide) ?_
        refine lv_icmp_le (tgt := 33) hx hb dX8_rows_28 (by decide) (fun c34 => ?_) (fun c34 => ?_)
        · have hF := if_t c34 hF
          refine lv_aload hx hb dX8_rows_33 (lv_at hl 0 rfl) ?_
          refine lv_iload_n hx hb dX8_rows_35 rfl (lv_at hl 3 rfl) ?_
          refine lv_iload_n hx hb dX8_rows_36 rfl (lv_at hl 4 rfl) ?_
          refine lv_iconst (v := (3 : Int32)) hx hb dX8_rows_37 (by decide) ?_
          refine lv_iload hx hb dX8_rows_38 (lv_at hl 5 rfl) ?_
          refine lv_imul hx hb dX8_rows_40 ?_
          obtain ⟨r36, h35, hF⟩ := b1_s hF
          refine cl_vi (As := [.int p1, .int p2, .int ((3 : Int32) * p3)]) (rest := []) (w' := (w_xshb ky aX aB aP aT aR aK aH aG aS aS0 aS1 aS2 aS3 aI0 aI1 aI2 aI3 ax au ay am sla ssz sit bsz bgp ber bxs bus bys bme)) ⟨hx, hb, hml, hown, hts⟩ hK hP hD hS hA (c_X5_refusal l D ky aS2 aI2 _ N  (sla 2) (ssz 2) (sit 2) p1 p2 ((3 : Int32) * p3) r36 h35) (cwV 3 hts gX8_rows_X5_refusal rfl rfl rfl (by decide +kernel) ⟨Nat.le_of_ble_eq_true rfl, Nat.le_of_ble_eq_true rfl⟩) [6, 7] [0, 1, 2, 3, 4, 5, 8, 9, 10, 11, 12, 13, 14] [0, 1, 2, 3, 4, 5, 13, 14, 6, 7, 8, 9, 10, 11, 12] 0 4 rfl rfl rfl rfl (wr := [(aX, .inr (7, [.ref aB, .ref aP, .ref aT, .ref aR, .ref aK, .ref aH, .ref aG, .ref aS])), (aS, .inl (ky 3, 4, .inr (.inr (.inr (.inr (shf aS0 aS1 aS2 aS3)))))), (aS0, .inr (4, [.ref aI0, .int (sla 0), .int (ssz 0)])), (aI0, .inl (ky 0, 36, .inl (sit 0))), (aS1, .inr (4, [.ref aI1, .int (sla 1), .int (ssz 1)])), (aI1, .inl (ky 0, 36, .inl (sit 1))), (aS3, .inr (4, [.ref aI3, .int (sla 3), .int (ssz 3)])), (aI3, .inl (ky 0, 36, .inl (sit 3))), (aB, .inr (0, [.ref ax, .ref au, .ref ay, .ref am, .int bsz, .int bgp, .int ber])), (ax, .inl (ky 0, 12, .inl bxs)), (au, .inl (ky 0, 12, .inl bus)), (ay, .inl (ky 0, 12, .inl bys)), (am, .inl (ky 0, 289, .inl bme))]) rfl (by decide) rfl rfl hl.1 (Nat.le_of_ble_eq_true rfl) dX8_rows_41 ⟨Nat.zero_le _, Nat.zero_le _⟩ (fun H locs hP hD hS => ?_)
          refine lv_istore (lv' := [(6, .int r36), (5, .ref aS2), (0, .ref aX), (1, .int p0), (2, .int p1), (3, .int p2), (4, .int p3)]) hx hb dX8_rows_44 hl (by decide) rfl (fun ls hl => ?_)
          refine lv_iload hx hb dX8_rows_46 (lv_at hl 0 rfl) ?_
          refine lv_if_ge (tgt := 54) hx hb dX8_rows_48 (by decide) (fun c37 => ?_) (fun c37 => ?_)
          · have hF := if_t c37 hF
            refine lv_aload hx hb dX8_rows_54 (lv_at hl 1 rfl) ?_
            refine lv_iload_n hx hb dX8_rows_56 rfl (lv_at hl 5 rfl) ?_
            refine lv_iconst (v := (3 : Int32)) hx hb dX8_rows_57 (by decide) ?_
            refine lv_iload hx hb dX8_rows_58 (lv_at hl 6 rfl) ?_
            refine lv_imul hx hb dX8_rows_60 ?_
            refine lv_bipush (v := (-99 : Int32)) hx hb dX8_rows_61 (by decide) ?_
            refine lv_bipush (v := (99 : Int32)) hx hb dX8_rows_63 (by decide) ?_
            obtain ⟨r39, h38, hF⟩ := b1_s hF
            refine cl_vi (As := [.int p2, .int ((3 : Int32) * p3), .int (-99 : Int32), .int (99 : Int32)]) (rest := []) (w' := (w_xshb ky aX aB aP aT aR aK aH aG aS aS0 aS1 aS2 aS3 aI0 aI1 aI2 aI3 ax au ay am sla ssz sit bsz bgp ber bxs bus bys bme)) ⟨hx, hb, hml, hown, hts⟩ hK hP hD hS hA (c_X5_allWithin l D ky aS2 aI2 _ N  (sla 2) (ssz 2) (sit 2) p2 ((3 : Int32) * p3) (-99 : Int32) (99 : Int32) r39 h38) (cwV 4 hts gX8_rows_X5_allWithin rfl rfl rfl (by decide +kernel) ⟨Nat.le_of_ble_eq_true rfl, Nat.le_of_ble_eq_true rfl⟩) [6, 7] [0, 1, 2, 3, 4, 5, 8, 9, 10, 11, 12, 13, 14] [0, 1, 2, 3, 4, 5, 13, 14, 6, 7, 8, 9, 10, 11, 12] 0 4 rfl rfl rfl rfl (wr := [(aX, .inr (7, [.ref aB, .ref aP, .ref aT, .ref aR, .ref aK, .ref aH, .ref aG, .ref aS])), (aS, .inl (ky 3, 4, .inr (.inr (.inr (.inr (shf aS0 aS1 aS2 aS3)))))), (aS0, .inr (4, [.ref aI0, .int (sla 0), .int (ssz 0)])), (aI0, .inl (ky 0, 36, .inl (sit 0))), (aS1, .inr (4, [.ref aI1, .int (sla 1), .int (ssz 1)])), (aI1, .inl (ky 0, 36, .inl (sit 1))), (aS3, .inr (4, [.ref aI3, .int (sla 3), .int (ssz 3)])), (aI3, .inl (ky 0, 36, .inl (sit 3))), (aB, .inr (0, [.ref ax, .ref au, .ref ay, .ref am, .int bsz, .int bgp, .int ber])), (ax, .inl (ky 0, 12, .inl bxs)), (au, .inl (ky 0, 12, .inl bus)), (ay, .inl (ky 0, 12, .inl bys)), (am, .inl (ky 0, 289, .inl bme))]) rfl (by decide) rfl rfl hl.1 (Nat.le_of_ble_eq_true rfl) dX8_rows_65 ⟨Nat.zero_le _, Nat.zero_le _⟩ (fun H locs hP hD hS => ?_)
            refine lv_if_ne (tgt := 74) hx hb dX8_rows_68 (by decide) (fun c40 => ?_) (fun c40 => ?_)
            · have hF := if_f c40 hF
              refine lv_iload hx hb dX8_rows_74 (lv_at hl 6 rfl) ?_
              refine lv_aload_n hx hb dX8_rows_76 rfl (lv_at hl 2 rfl) ?_
              refine va_get (D := D) (ci := 7) (v := .ref aB) (C := RX8) (T := TX8) (N := 8) hx hb hts iX8_rows_X8 hown hK hP 0 rfl rfl 0 (by decide) (hts _ kX8_rows_1) (fun _ h9 => h9) rfl dX8_rows_77 ?_
              obtain ⟨r42, h41, hF⟩ := b1_s hF
              refine cl_vi (As := []) (rest := [.int p3]) (w' := (w_xshb ky aX aB aP aT aR aK aH aG aS aS0 aS1 aS2 aS3 aI0 aI1 aI2 aI3 ax au ay am sla ssz sit bsz bgp ber bxs bus bys bme)) ⟨hx, hb, hml, hown, hts⟩ hK hP hD hS hA (c_X0_room l D ky aB ax au ay am _ N  bsz bgp ber bxs bus bys bme  r42 h41) (cwV 0 hts gX8_rows_X0_room rfl rfl rfl (by decide +kernel) ⟨Nat.le_of_ble_eq_true rfl, Nat.le_of_ble_eq_true rfl⟩) [10, 11, 12, 13, 14] [0, 1, 2, 3, 4, 5, 6, 7, 8, 9] [0, 1, 2, 3, 4, 5, 6, 7, 8, 9, 10, 11, 12, 13, 14] 0 0 rfl rfl rfl rfl (wr := [(aX, .inr (7, [.ref aB, .ref aP, .ref aT, .ref aR, .ref aK, .ref aH, .ref aG, .ref aS])), (aS, .inl (ky 3, 4, .inr (.inr (.inr (.inr (shf aS0 aS1 aS2 aS3)))))), (aS0, .inr (4, [.ref aI0, .int (sla 0), .int (ssz 0)])), (aI0, .inl (ky 0, 36, .inl (sit 0))), (aS1, .inr (4, [.ref aI1, .int (sla 1), .int (ssz 1)])), (aI1, .inl (ky 0, 36, .inl (sit 1))), (aS2, .inr (4, [.ref aI2, .int (sla 2), .int (ssz 2)])), (aI2, .inl (ky 0, 36, .inl (sit 2))), (aS3, .inr (4, [.ref aI3, .int (sla 3), .int (ssz 3)])), (aI3, .inl (ky 0, 36, .inl (sit 3)))]) rfl (by decide) rfl rfl hl.1 (Nat.le_of_ble_eq_true rfl) dX8_rows_80 ⟨Nat.zero_le _, Nat.zero_le _⟩ (fun H locs hP hD hS => ?_)
              refine lv_icmp_le (tgt := 89) hx hb dX8_rows_83 (by decide) (fun c43 => ?_) (fun c43 => ?_)
              · have hF := if_t c43 hF
                refine lv_iconst (v := (0 : Int32)) hx hb dX8_rows_89 (by decide) ?_
                refine lv_istore (lv' := [(7, .int (0 : Int32)), (6, .int r36), (5, .ref aS2), (0, .ref aX), (1, .int p0), (2, .int p1), (3, .int p2), (4, .int p3)]) hx hb dX8_rows_90 hl (by decide) rfl (fun ls hl => ?_)
                exact w_X8_rows_92_s2 N C res hQ p2 p3 N (0 : Int32) bsz bgp bxs bus bys bme hF _ _ _ hP hD hS (lv_sub hl [3, 6, 7, 2, 0] rfl)
              · have hF := if_f c43 hF
                refine lv_bipush (v := (-3 : Int32)) hx hb dX8_rows_86 (by decide) ?_
                have hF := Option.some.inj hF
                subst hF
                exact hQ _ _ _ _ dX8_rows_88 hP hD hS
            · have hF := if_t c40 hF
              refine lv_bipush (v := (-2 : Int32)) hx hb dX8_rows_71 (by decide) ?_
              have hF := Option.some.inj hF
              subst hF
              exact hQ _ _ _ _ dX8_rows_73 hP hD hS
          · have hF := if_f c37 hF
            refine lv_iload hx hb dX8_rows_51 (lv_at hl 0 rfl) ?_
            have hF := Option.some.inj hF
            subst hF
            exact hQ _ _ _ _ dX8_rows_53 hP hD hS
        · have hF := if_f c34 hF
          refine lv_iconst (v := (-1 : Int32)) hx hb dX8_rows_31 (by decide) ?_
          have hF := Option.some.inj hF
          subst hF
          exact hQ _ _ _ _ dX8_rows_32 hP hD hS
  · refine cl_vq (ro := (some aS3)) (As := [.int p0]) (rest := []) (w' := (w_xshb ky aX aB aP aT aR aK aH aG aS aS0 aS1 aS2 aS3 aI0 aI1 aI2 aI3 ax au ay am sla ssz sit bsz bgp ber bxs bus bys bme)) ⟨hx, hb, hml, hown, hts⟩ hK hP hD hS hA (c_X8_sheetAt l D ky aX aB aP aT aR aK aH aG aS aS0 aS1 aS2 aS3 _ p0 (some aS3) (Or.inr ⟨by rw [h1]; decide, by rw [h1]; rfl⟩)) (cwV 1 hts gX8_rows_X8_sheetAt rfl rfl rfl (by decide +kernel) ⟨Nat.le_of_ble_eq_true rfl, Nat.le_of_ble_eq_true rfl⟩) [0, 1] [2, 3, 4, 5, 6, 7, 8, 9, 10, 11, 12, 13, 14] [13, 14, 0, 1, 2, 3, 4, 5, 6, 7, 8, 9, 10, 11, 12] 0 7 rfl rfl rfl rfl (wr := [(aS0, .inr (4, [.ref aI0, .int (sla 0), .int (ssz 0)])), (aI0, .inl (ky 0, 36, .inl (sit 0))), (aS1, .inr (4, [.ref aI1, .int (sla 1), .int (ssz 1)])), (aI1, .inl (ky 0, 36, .inl (sit 1))), (aS2, .inr (4, [.ref aI2, .int (sla 2), .int (ssz 2)])), (aI2, .inl (ky 0, 36, .inl (sit 2))), (aS3, .inr (4, [.ref aI3, .int (sla 3), .int (ssz 3)])), (aI3, .inl (ky 0, 36, .inl (sit 3))), (aB, .inr (0, [.ref ax, .ref au, .ref ay, .ref am, .int bsz, .int bgp, .int ber])), (ax, .inl (ky 0, 12, .inl bxs)), (au, .inl (ky 0, 12, .inl bus)), (ay, .inl (ky 0, 12, .inl bys)), (am, .inl (ky 0, 289, .inl bme))]) rfl (by decide) rfl rfl hl.1 (Nat.le_of_ble_eq_true rfl) dX8_rows_2 ⟨Nat.zero_le _, Nat.zero_le _⟩ (fun H locs hP hD hS => ?_)
    refine lv_astore (lv' := [(5, .ref aS3), (0, .ref aX), (1, .int p0), (2, .int p1), (3, .int p2), (4, .int p3)]) hx hb dX8_rows_5 hl (by decide) rfl (fun ls hl => ?_)
    refine lv_aload hx hb dX8_rows_7 (lv_at hl 0 rfl) ?_
    refine lv_ifnull hx hb dX8_rows_9 ?_
    refine lv_iload_n hx hb dX8_rows_12 rfl (lv_at hl 3 rfl) ?_
    obtain ⟨r45, h44, hF⟩ := b1_s hF
    refine cl_si (As := [.int p1]) (rest := []) ⟨hx, hb, hml, hown, hts⟩ hK hP hD hS hA (c_X8_isLane l D ky  _ N   p1 r45 h44) (va_cwS 1 hts gX8_rows_X8_isLane rfl rfl rfl (by decide +kernel) ⟨Nat.le_of_ble_eq_true rfl, Nat.le_of_ble_eq_true rfl⟩) rfl hl.1 (Nat.le_of_ble_eq_true rfl) dX8_rows_13 ⟨Nat.zero_le _, Nat.zero_le _⟩ (fun H locs hP hD hS => ?_)
    refine lv_if_eq (tgt := 31) hx hb dX8_rows_16 (by decide) (fun c46 => ?_) (fun c46 => ?_)
    · have hF := if_t c46 hF
      refine lv_iconst (v := (-1 : Int32)) hx hb dX8_rows_31 (by decide) ?_
      have hF := Option.some.inj hF
      subst hF
      exact hQ _ _ _ _ dX8_rows_32 hP hD hS
    · have hF := if_f c46 hF
      refine lv_iload hx hb dX8_rows_19 (lv_at hl 5 rfl) ?_
      refine lv_if_lt (tgt := 31) hx hb dX8_rows_21 (by decide) (fun c47 => ?_) (fun c47 => ?_)
      · have hF := if_t c47 hF
        refine lv_iconst (v := (-1 : Int32)) hx hb dX8_rows_31 (by decide) ?_
        have hF := Option.some.inj hF
        subst hF
        exact hQ _ _ _ _ dX8_rows_32 hP hD hS
      · have hF := if_f c47 hF
        refine lv_iload hx hb dX8_rows_24 (lv_at hl 5 rfl) ?_
        refine lv_bipush (v := (12 : Int32)) hx hb dX8_rows_26 (by decide) ?_
        refine lv_icmp_le (tgt := 33) hx hb dX8_rows_28 (by decide) (fun c48 => ?_) (fun c48 => ?_)
        · have hF := if_t c48 hF
          refine lv_aload hx hb dX8_rows_33 (lv_at hl 0 rfl) ?_
          refine lv_iload_n hx hb dX8_rows_35 rfl (lv_at hl 3 rfl) ?_
          refine lv_iload_n hx hb dX8_rows_36 rfl (lv_at hl 4 rfl) ?_
          refine lv_iconst (v := (3 : Int32)) hx hb dX8_rows_37 (by decide) ?_
          refine lv_iload hx hb dX8_rows_38 (lv_at hl 5 rfl) ?_
          refine lv_imul hx hb dX8_rows_40 ?_
          obtain ⟨r50, h49, hF⟩ := b1_s hF
          refine cl_vi (As := [.int p1, .int p2, .int ((3 : Int32) * p3)]) (rest := []) (w' := (w_xshb ky aX aB aP aT aR aK aH aG aS aS0 aS1 aS2 aS3 aI0 aI1 aI2 aI3 ax au ay am sla ssz sit bsz bgp ber bxs bus bys bme)) ⟨hx, hb, hml, hown, hts⟩ hK hP hD hS hA (c_X5_refusal l D ky aS3 aI3 _ N  (sla 3) (ssz 3) (sit 3) p1 p2 ((3 : Int32) * p3) r50 h49) (cwV 3 hts gX8_rows_X5_refusal rfl rfl rfl (by decide +kernel) ⟨Nat.le_of_ble_eq_true rfl, Nat.le_of_ble_eq_true rfl⟩) [8, 9] [0, 1, 2, 3, 4, 5, 6, 7, 10, 11, 12, 13, 14] [0, 1, 2, 3, 4, 5, 6, 7, 13, 14, 8, 9, 10, 11, 12] 0 4 rfl rfl rfl rfl (wr := [(aX, .inr (7, [.ref aB, .ref aP, .ref aT, .ref aR, .ref aK, .ref aH, .ref aG, .ref aS])), (aS, .inl (ky 3, 4, .inr (.inr (.inr (.inr (shf aS0 aS1 aS2 aS3)))))), (aS0, .inr (4, [.ref aI0, .int (sla 0), .int (ssz 0)])), (aI0, .inl (ky 0, 36, .inl (sit 0))), (aS1, .inr (4, [.ref aI1, .int (sla 1), .int (ssz 1)])), (aI1, .inl (ky 0, 36, .inl (sit 1))), (aS2, .inr (4, [.ref aI2, .int (sla 2), .int (ssz 2)])), (aI2, .inl (ky 0, 36, .inl (sit 2))), (aB, .inr (0, [.ref ax, .ref au, .ref ay, .ref am, .int bsz, .int bgp, .int ber])), (ax, .inl (ky 0, 12, .inl bxs)), (au, .inl (ky 0, 12, .inl bus)), (ay, .inl (ky 0, 12, .inl bys)), (am, .inl (ky 0, 289, .inl bme))]) rfl (by decide) rfl rfl hl.1 (Nat.le_of_ble_eq_true rfl) dX8_rows_41 ⟨Nat.zero_le _, Nat.zero_le _⟩ (fun H locs hP hD hS => ?_)
          refine lv_istore (lv' := [(6, .int r50), (5, .ref aS3), (0, .ref aX), (1, .int p0), (2, .int p1), (3, .int p2), (4, .int p3)]) hx hb dX8_rows_44 hl (by decide) rfl (fun ls hl => ?_)
          refine lv_iload hx hb dX8_rows_46 (lv_at hl 0 rfl) ?_
          refine lv_if_ge (tgt := 54) hx hb dX8_rows_48 (by decide) (fun c51 => ?_) (fun c51 => ?_)
          · have hF := if_t c51 hF
            refine lv_aload hx hb dX8_rows_54 (lv_at hl 1 rfl) ?_
            refine lv_iload_n hx hb dX8_rows_56 rfl (lv_at hl 5 rfl) ?_
            refine lv_iconst (v := (3 : Int32)) hx hb dX8_rows_57 (by decide) ?_
            refine lv_iload hx hb dX8_rows_58 (lv_at hl 6 rfl) ?_
            refine lv_imul hx hb dX8_rows_60 ?_
            refine lv_bipush (v := (-99 : Int32)) hx hb dX8_rows_61 (by decide) ?_
            refine lv_bipush (v := (99 : Int32)) hx hb dX8_rows_63 (by decide) ?_
            obtain ⟨r53, h52, hF⟩ := b1_s hF
            refine cl_vi (As := [.int p2, .int ((3 : Int32) * p3), .int (-99 : Int32), .int (99 : Int32)]) (rest := []) (w' := (w_xshb ky aX aB aP aT aR aK aH aG aS aS0 aS1 aS2 aS3 aI0 aI1 aI2 aI3 ax au ay am sla ssz sit bsz bgp ber bxs bus bys bme)) ⟨hx, hb, hml, hown, hts⟩ hK hP hD hS hA (c_X5_allWithin l D ky aS3 aI3 _ N  (sla 3) (ssz 3) (sit 3) p2 ((3 : Int32) * p3) (-99 : Int32) (99 : Int32) r53 h52) (cwV 4 hts gX8_rows_X5_allWithin rfl rfl rfl (by decide +kernel) ⟨Nat.le_of_ble_eq_true rfl, Nat.le_of_ble_eq_true rfl⟩) [8, 9] [0, 1, 2, 3, 4, 5, 6, 7, 10, 11, 12, 13, 14] [0, 1, 2, 3, 4, 5, 6, 7, 13, 14, 8, 9, 10, 11, 12] 0 4 rfl rfl rfl rfl (wr := [(aX, .inr (7, [.ref aB, .ref aP, .ref aT, .ref aR, .ref aK, .ref aH, .ref aG, .ref aS])), (aS, .inl (ky 3, 4, .inr (.inr (.inr (.inr (shf aS0 aS1 aS2 aS3)))))), (aS0, .inr (4, [.ref aI0, .int (sla 0), .int (ssz 0)])), (aI0, .inl (ky 0, 36, .inl (sit 0))), (aS1, .inr (4, [.ref aI1, .int (sla 1), .int (ssz 1)])), (aI1, .inl (ky 0, 36, .inl (sit 1))), (aS2, .inr (4, [.ref aI2, .int (sla 2), .int (ssz 2)])), (aI2, .inl (ky 0, 36, .inl (sit 2))), (aB, .inr (0, [.ref ax, .ref au, .ref ay, .ref am, .int bsz, .int bgp, .int ber])), (ax, .inl (ky 0, 12, .inl bxs)), (au, .inl (ky 0, 12, .inl bus)), (ay, .inl (ky 0, 12, .inl bys)), (am, .inl (ky 0, 289, .inl bme))]) rfl (by decide) rfl rfl hl.1 (Nat.le_of_ble_eq_true rfl) dX8_rows_65 ⟨Nat.zero_le _, Nat.zero_le _⟩ (fun H locs hP hD hS => ?_)
            refine lv_if_ne (tgt := 74) hx hb dX8_rows_68 (by decide) (fun c54 => ?_) (fun c54 => ?_)
            · have hF := if_f c54 hF
              refine lv_iload hx hb dX8_rows_74 (lv_at hl 6 rfl) ?_
              refine lv_aload_n hx hb dX8_rows_76 rfl (lv_at hl 2 rfl) ?_
              refine va_get (D := D) (ci := 7) (v := .ref aB) (C := RX8) (T := TX8) (N := 8) hx hb hts iX8_rows_X8 hown hK hP 0 rfl rfl 0 (by decide) (hts _ kX8_rows_1) (fun _ h9 => h9) rfl dX8_rows_77 ?_
              obtain ⟨r56, h55, hF⟩ := b1_s hF
              refine cl_vi (As := []) (rest := [.int p3]) (w' := (w_xshb ky aX aB aP aT aR aK aH aG aS aS0 aS1 aS2 aS3 aI0 aI1 aI2 aI3 ax au ay am sla ssz sit bsz bgp ber bxs bus bys bme)) ⟨hx, hb, hml, hown, hts⟩ hK hP hD hS hA (c_X0_room l D ky aB ax au ay am _ N  bsz bgp ber bxs bus bys bme  r56 h55) (cwV 0 hts gX8_rows_X0_room rfl rfl rfl (by decide +kernel) ⟨Nat.le_of_ble_eq_true rfl, Nat.le_of_ble_eq_true rfl⟩) [10, 11, 12, 13, 14] [0, 1, 2, 3, 4, 5, 6, 7, 8, 9] [0, 1, 2, 3, 4, 5, 6, 7, 8, 9, 10, 11, 12, 13, 14] 0 0 rfl rfl rfl rfl (wr := [(aX, .inr (7, [.ref aB, .ref aP, .ref aT, .ref aR, .ref aK, .ref aH, .ref aG, .ref aS])), (aS, .inl (ky 3, 4, .inr (.inr (.inr (.inr (shf aS0 aS1 aS2 aS3)))))), (aS0, .inr (4, [.ref aI0, .int (sla 0), .int (ssz 0)])), (aI0, .inl (ky 0, 36, .inl (sit 0))), (aS1, .inr (4, [.ref aI1, .int (sla 1), .int (ssz 1)])), (aI1, .inl (ky 0, 36, .inl (sit 1))), (aS2, .inr (4, [.ref aI2, .int (sla 2), .int (ssz 2)])), (aI2, .inl (ky 0, 36, .inl (sit 2))), (aS3, .inr (4, [.ref aI3, .int (sla 3), .int (ssz 3)])), (aI3, .inl (ky 0, 36, .inl (sit 3)))]) rfl (by decide) rfl rfl hl.1 (Nat.le_of_ble_eq_true rfl) dX8_rows_80 ⟨Nat.zero_le _, Nat.zero_le _⟩ (fun H locs hP hD hS => ?_)
              refine lv_icmp_le (tgt := 89) hx hb dX8_rows_83 (by decide) (fun c57 => ?_) (fun c57 => ?_)
              · have hF := if_t c57 hF
                refine lv_iconst (v := (0 : Int32)) hx hb dX8_rows_89 (by decide) ?_
                refine lv_istore (lv' := [(7, .int (0 : Int32)), (6, .int r50), (5, .ref aS3), (0, .ref aX), (1, .int p0), (2, .int p1), (3, .int p2), (4, .int p3)]) hx hb dX8_rows_90 hl (by decide) rfl (fun ls hl => ?_)
                exact w_X8_rows_92_s3 N C res hQ p2 p3 N (0 : Int32) bsz bgp bxs bus bys bme hF _ _ _ hP hD hS (lv_sub hl [3, 6, 7, 2, 0] rfl)
              · have hF := if_f c57 hF
                refine lv_bipush (v := (-3 : Int32)) hx hb dX8_rows_86 (by decide) ?_
                have hF := Option.some.inj hF
                subst hF
                exact hQ _ _ _ _ dX8_rows_88 hP hD hS
            · have hF := if_t c54 hF
              refine lv_bipush (v := (-2 : Int32)) hx hb dX8_rows_71 (by decide) ?_
              have hF := Option.some.inj hF
              subst hF
              exact hQ _ _ _ _ dX8_rows_73 hP hD hS
          · have hF := if_f c51 hF
            refine lv_iload hx hb dX8_rows_51 (lv_at hl 0 rfl) ?_
            have hF := Option.some.inj hF
            subst hF
            exact hQ _ _ _ _ dX8_rows_53 hP hD hS
        · have hF := if_f c48 hF
          refine lv_iconst (v := (-1 : Int32)) hx hb dX8_rows_31 (by decide) ?_
          have hF := Option.some.inj hF
          subst hF
          exact hQ _ _ _ _ dX8_rows_32 hP hD hS
theorem c_X8_rows (l : Launch) (D : va_G) (ky : Nat → ClassId) (aX aB aP aT aR aK aH aG aS aS0 aS1 aS2 aS3 aI0 aI1 aI2 aI3 ax au ay am : Nat) (sz N : Nat)  (sla : Nat → Int32) (ssz : Nat → Int32) (sit : Nat → Nat → Int32) (bsz : Int32) (bgp : Int32) (ber : Int32) (bxs : Nat → Int32) (bus : Nat → Int32) (bys : Nat → Int32) (bme : Nat → Int32) (p0 : Int32) (p1 : Int32) (p2 : Int32) (p3 : Int32) (rv : Int32) (bsz' : Int32) (bgp' : Int32) (bxs' : Nat → Int32) (bus' : Nat → Int32) (bys' : Nat → Int32) (bme' : Nat → Int32) (hF : f_X8_rows N p0 p1 p2 p3 sla ssz sit bsz bgp ber bxs bus bys bme = some (rv, bsz', bgp', bxs', bus', bys', bme')) : MI l yX8_rows wsX8_rows rm_X8_rows D ky sz [.ref aX, .int p0, .int p1, .int p2, .int p3] (w_xshb ky aX aB aP aT aR aK aH aG aS aS0 aS1 aS2 aS3 aI0 aI1 aI2 aI3 ax au ay am sla ssz sit bsz bgp ber bxs bus bys bme) (w_xshb ky aX aB aP aT aR aK aH aG aS aS0 aS1 aS2 aS3 aI0 aI1 aI2 aI3 ax au ay am sla ssz sit bsz' bgp' ber bxs' bus' bys' bme') rv :=
  cr_X8_rows l D ky aX aB aP aT aR aK aH aG aS aS0 aS1 aS2 aS3 aI0 aI1 aI2 aI3 ax au ay am sz N sla ssz sit bsz bgp ber bxs bus bys bme p0 p1 p2 p3 (rv, bsz', bgp', bxs', bus', bys', bme') hF
abbrev rm_X8_check : Room := { frames := 4, cells := 0, slots := 0, locals := 88 }
theorem iX8_check_X8 : ∀ w ∈ wsX80, w ∈ wsX8_check := by decide +kernel
theorem kX8_check_1 : (Cond.fieldLink RX8 10 "TwoLaws" "book" "LTwoLaws$Book;") ∈ wsX8_check := by decide +kernel
set_option maxHeartbeats 4000000 in
set_option maxRecDepth 100000 in
theorem w_X8_check_70_s0 {p : Program} {l : Launch} {e : Env} {s : State} {m : MethodId} {args : Array Value} {below : List Frame} {meth : Method} {c : Code} {Q : State → Prop} {A : Nat → Prop} {D : va_G} {ky : Nat → ClassId} {aX aB aP aT aR aK aH aG aS aS0 aS1 aS2 aS3 aI0 aI1 aI2 aI3 ax au ay am : Nat} {sla : Nat → Int32} {ssz : Nat → Int32} {sit : Nat → Nat → Int32} {bsz : Int32} {bgp : Int32} {ber : Int32} {bxs : Nat → Int32} {bus : Nat → Int32} {bys : Nat → Int32} {bme : Nat → Int32} (N : Nat) (C : cx p s m c args D ky A cX8_check 7 wsX8_check RX8) (res : Int32) (hQ : ∀ (pc : Nat) (H : Heap) (locs : List Loc) (ls : Array Slot), decode cX8_check pc = .ok (.ireturn, 1) → va_P D vwCl (w_xshb ky aX aB aP aT aR aK aH aG aS aS0 aS1 aS2 aS3 aI0 aI1 aI2 aI3 ax au ay am sla ssz sit bsz bgp ber bxs bus bys bme) H → va_D A (w_xshb ky aX aB aP aT aR aK aH aG aS aS0 aS1 aS2 aS3 aI0 aI1 aI2 aI3 ax au ay am sla ssz sit bsz bgp ber bxs bus bys bme) → va_S A s.heap H locs → W p l e rm_X8_check s m args below meth c H locs 0 0 Q (F0 m pc ls [.int res])) (l3 : Int32) : ∀ (n : Nat) (l6 : Int32), f_X8_check_70 N 0 l3 ssz sit bsz bme n l6 = some res → ∀ (H : Heap) (locs : List Loc) (ls : Array Slot), va_P D vwCl (w_xshb ky aX aB aP aT aR aK aH aG aS aS0 aS1 aS2 aS3 aI0 aI1 aI2 aI3 ax au ay am sla ssz sit bsz bgp ber bxs bus bys bme) H → va_D A (w_xshb ky aX aB aP aT aR aK aH aG aS aS0 aS1 aS2 aS3 aI0 aI1 aI2 aI3 ax au ay am sla ssz sit bsz bgp ber bxs bus bys bme) → va_S A s.heap H locs → lv_has ls 7 [(0, .ref aX), (3, .int l3), (4, .ref aS0), (6, .int l6)] → W p l e rm_X8_check s m args below meth c H locs 0 0 Q (F0 m 70 ls []) := by
  obtain ⟨hx, hb, hml, hown, hts, hK, hA⟩ := id C
  intro n
  induction n with
  | zero =>
    intro l6 hF
    cases hF
  | succ n ih =>
    intro l6 hF H locs ls hP hD hS hl
    have hF : b_X8_check_70 N 0 l3 ssz sit bsz bme (f_X8_check_70 N 0 l3 ssz sit bsz bme n) l6 = some res := hF
    unfold b_X8_check_70 at hF
    refine lv_iload hx hb dX8_check_70 (lv_at hl 3 rfl) ?_
    refine lv_bipush (v := (12 : Int32)) hx hb dX8_check_72 (by decide) ?_
    refine lv_icmp_ge (tgt := 111) hx hb dX8_check_74 (by decide) (fun c54 => ?_) (fun c54 => ?_)
    · have hF := if_t c54 hF
      refine lv_bipush (v := (-4 : Int32)) hx hb dX8_check_111 (by decide) ?_
      have hF := Option.some.inj hF
      subst hF
      exact hQ _ H _ _ dX8_check_113 hP hD hS
    · have hF := if_f c54 hF
      refine lv_aload_n hx hb dX8_check_77 rfl (lv_at hl 0 rfl) ?_
      refine va_get (D := D) (ci := 7) (v := .ref aB) (C := RX8) (T := TX8) (N := 8) hx hb hts iX8_check_X8 hown hK hP 0 rfl rfl 0 (by decide) (hts _ kX8_check_1) (fun _ h9 => h9) rfl dX8_check_78 ?_
      refine lv_aload hx hb dX8_check_81 (lv_at hl 2 rfl) ?_
      refine lv_iload hx hb dX8_check_83 (lv_at hl 3 rfl) ?_
      refine lv_iload_n hx hb dX8_check_85 rfl (lv_at hl 1 rfl) ?_
      refine lv_aload_n hx hb dX8_check_86 rfl (lv_at hl 0 rfl) ?_
      refine va_get (D := D) (ci := 7) (v := .ref aB) (C := RX8) (T := TX8) (N := 8) hx hb hts iX8_check_X8 hown hK hP 0 rfl rfl 0 (by decide) (hts _ kX8_check_1) (fun _ h9 => h9) rfl dX8_check_87 ?_
      obtain ⟨r56, h55, hF⟩ := b1_s hF
      refine cl_vi (As := []) (rest := [.int l3, .int l6, .ref aS0, .ref aB]) (w' := (w_xshb ky aX aB aP aT aR aK aH aG aS aS0 aS1 aS2 aS3 aI0 aI1 aI2 aI3 ax au ay am sla ssz sit bsz bgp ber bxs bus bys bme)) ⟨hx, hb, hml, hown, hts⟩ hK hP hD hS hA (c_X0_size l D ky aB ax au ay am _ N  bsz bgp ber bxs bus bys bme  r56 h55) (cwV 0 hts gX8_check_X0_size rfl rfl rfl (by decide +kernel) ⟨Nat.le_of_ble_eq_true rfl, Nat.le_of_ble_eq_true rfl⟩) [10, 11, 12, 13, 14] [0, 1, 2, 3, 4, 5, 6, 7, 8, 9] [0, 1, 2, 3, 4, 5, 6, 7, 8, 9, 10, 11, 12, 13, 14] 0 0 rfl rfl rfl rfl (wr := [(aX, .inr (7, [.ref aB, .ref aP, .ref aT, .ref aR, .ref aK, .ref aH, .ref aG, .ref aS])), (aS, .inl (ky 3, 4, .inr (.inr (.inr (.inr (shf aS0 aS1 aS2 aS3)))))), (aS0, .inr (4, [.ref aI0, .int (sla 0), .int (ssz 0)])), (aI0, .inl (ky 0, 36, .inl (sit 0))), (aS1, .inr (4, [.ref aI1, .int (sla 1), .int (ssz 1)])), (aI1, .inl (ky 0, 36, .inl (sit 1))), (aS2, .inr (4, [.ref aI2, .int (sla 2), .int (ssz 2)])), (aI2, .inl (ky 0, 36, .inl (sit 2))), (aS3, .inr (4, [.ref aI3, .int (sla 3), .int (ssz 3)])), (aI3, .inl (ky 0, 36, .inl (sit 3)))]) rfl (by decide) rfl rfl hl.1 (Nat.le_of_ble_eq_true rfl) dX8_check_90 ⟨Nat.zero_le _, Nat.zero_le _⟩ (fun H locs hP hD hS => ?_)
      obtain ⟨r58, h57, hF⟩ := b1_s hF
      refine cl_vi (As := [.int l6, .int l3, .int r56]) (rest := [.ref aB]) (w' := (w_xshb ky aX aB aP aT aR aK aH aG aS aS0 aS1 aS2 aS3 aI0 aI1 aI2 aI3 ax au ay am sla ssz sit bsz bgp ber bxs bus bys bme)) ⟨hx, hb, hml, hown, hts⟩ hK hP hD hS hA (c_X5_placesOf l D ky aS0 aI0 _ N  (sla 0) (ssz 0) (sit 0) l6 l3 r56 r58 h57) (cwV 3 hts gX8_check_X5_placesOf rfl rfl rfl (by decide +kernel) ⟨Nat.le_of_ble_eq_true rfl, Nat.le_of_ble_eq_true rfl⟩) [2, 3] [0, 1, 4, 5, 6, 7, 8, 9, 10, 11, 12, 13, 14] [0, 1, 13, 14, 2, 3, 4, 5, 6, 7, 8, 9, 10, 11, 12] 0 4 rfl rfl rfl rfl (wr := [(aX, .inr (7, [.ref aB, .ref aP, .ref aT, .ref aR, .ref aK, .ref aH, .ref aG, .ref aS])), (aS, .inl (ky 3, 4, .inr (.inr (.inr (.inr (shf aS0 aS1 aS2 aS3)))))), (aS1, .inr (4, [.ref aI1, .int (sla 1), .int (ssz 1)])), (aI1, .inl (ky 0, 36, .inl (sit 1))), (aS2, .inr (4, [.ref aI2, .int (sla 2), .int (ssz 2)])), (aI2, .inl (ky 0, 36, .inl (sit 2))), (aS3, .inr (4, [.ref aI3, .int (sla 3), .int (ssz 3)])), (aI3, .inl (ky 0, 36, .inl (sit 3))), (aB, .inr (0, [.ref ax, .ref au, .ref ay, .ref am, .int bsz, .int bgp, .int ber])), (ax, .inl (ky 0, 12, .inl bxs)), (au, .inl (ky 0, 12, .inl bus)), (ay, .inl (ky 0, 12, .inl bys)), (am, .inl (ky 0, 289, .inl bme))]) rfl (by decide) rfl rfl hl.1 (Nat.le_of_ble_eq_true rfl) dX8_check_93 ⟨Nat.zero_le _, Nat.zero_le _⟩ (fun H locs hP hD hS => ?_)
      obtain ⟨r60, h59, hF⟩ := b1_s hF
      refine cl_vi (As := [.int r58]) (rest := []) (w' := (w_xshb ky aX aB aP aT aR aK aH aG aS aS0 aS1 aS2 aS3 aI0 aI1 aI2 aI3 ax au ay am sla ssz sit bsz bgp ber bxs bus bys bme)) ⟨hx, hb, hml, hown, hts⟩ hK hP hD hS hA (c_X0_isWhole l D ky aB ax au ay am _ N  bsz bgp ber bxs bus bys bme r58 r60 h59) (cwV 1 hts gX8_check_X0_isWhole rfl rfl rfl (by decide +kernel) ⟨Nat.le_of_ble_eq_true rfl, Nat.le_of_ble_eq_true rfl⟩) [10, 11, 12, 13, 14] [0, 1, 2, 3, 4, 5, 6, 7, 8, 9] [0, 1, 2, 3, 4, 5, 6, 7, 8, 9, 10, 11, 12, 13, 14] 0 0 rfl rfl rfl rfl (wr := [(aX, .inr (7, [.ref aB, .ref aP, .ref aT, .ref aR, .ref aK, .ref aH, .ref aG, .ref aS])), (aS, .inl (ky 3, 4, .inr (.inr (.inr (.inr (shf aS0 aS1 aS2 aS3)))))), (aS0, .inr (4, [.ref aI0, .int (sla 0), .int (ssz 0)])), (aI0, .inl (ky 0, 36, .inl (sit 0))), (aS1, .inr (4, [.ref aI1, .int (sla 1), .int (ssz 1)])), (aI1, .inl (ky 0, 36, .inl (sit 1))), (aS2, .inr (4, [.ref aI2, .int (sla 2), .int (ssz 2)])), (aI2, .inl (ky 0, 36, .inl (sit 2))), (aS3, .inr (4, [.ref aI3, .int (sla 3), .int (ssz 3)])), (aI3, .inl (ky 0, 36, .inl (sit 3)))]) rfl (by decide) rfl rfl hl.1 (Nat.le_of_ble_eq_true rfl) dX8_check_96 ⟨Nat.zero_le _, Nat.zero_le _⟩ (fun H locs hP hD hS => ?_)
      refine lv_if_ne (tgt := 105) hx hb dX8_check_99 (by decide) (fun c61 => ?_) (fun c61 => ?_)
      · have hF := if_f c61 hF
        refine lv_iinc (v := (l6 + (1 : Int32))) (lv' := [(6, .int (l6 + (1 : Int32))), (0, .ref aX), (3, .int l3), (4, .ref aS0)]) hx hb dX8_check_105 hl (k := 3) rfl rfl (by decide) rfl (fun ls hl => ?_)
        refine lv_goto (tgt := 70) hx hb dX8_check_108 (by decide) ?_
        exact ih (l6 + (1 : Int32)) hF H _ _ hP hD hS (lv_sub hl [1, 2, 3, 0] rfl)
      · have hF := if_t c61 hF
        refine lv_iload hx hb dX8_check_102 (lv_at hl 3 rfl) ?_
        have hF := Option.some.inj hF
        subst hF
        exact hQ _ H _ _ dX8_check_104 hP hD hS
set_option maxHeartbeats 4000000 in
set_option maxRecDepth 100000 in
theorem w_X8_check_70_s1 {p : Program} {l : Launch} {e : Env} {s : State} {m : MethodId} {args : Array Value} {below : List Frame} {meth : Method} {c : Code} {Q : State → Prop} {A : Nat → Prop} {D : va_G} {ky : Nat → ClassId} {aX aB aP aT aR aK aH aG aS aS0 aS1 aS2 aS3 aI0 aI1 aI2 aI3 ax au ay am : Nat} {sla : Nat → Int32} {ssz : Nat → Int32} {sit : Nat → Nat → Int32} {bsz : Int32} {bgp : Int32} {ber : Int32} {bxs : Nat → Int32} {bus : Nat → Int32} {bys : Nat → Int32} {bme : Nat → Int32} (N : Nat) (C : cx p s m c args D ky A cX8_check 7 wsX8_check RX8) (res : Int32) (hQ : ∀ (pc : Nat) (H : Heap) (locs : List Loc) (ls : Array Slot), decode cX8_check pc = .ok (.ireturn, 1) → va_P D vwCl (w_xshb ky aX aB aP aT aR aK aH aG aS aS0 aS1 aS2 aS3 aI0 aI1 aI2 aI3 ax au ay am sla ssz sit bsz bgp ber bxs bus bys bme) H → va_D A (w_xshb ky aX aB aP aT aR aK aH aG aS aS0 aS1 aS2 aS3 aI0 aI1 aI2 aI3 ax au ay am sla ssz sit bsz bgp ber bxs bus bys bme) → va_S A s.heap H locs → W p l e rm_X8_check s m args below meth c H locs 0 0 Q (F0 m pc ls [.int res])) (l3 : Int32) : ∀ (n : Nat) (l6 : Int32), f_X8_check_70 N 1 l3 ssz sit bsz bme n l6 = some res → ∀ (H : Heap) (locs : List Loc) (ls : Array Slot), va_P D vwCl (w_xshb ky aX aB aP aT aR aK aH aG aS aS0 aS1 aS2 aS3 aI0 aI1 aI2 aI3 ax au ay am sla ssz sit bsz bgp ber bxs bus bys bme) H → va_D A (w_xshb ky aX aB aP aT aR aK aH aG aS aS0 aS1 aS2 aS3 aI0 aI1 aI2 aI3 ax au ay am sla ssz sit bsz bgp ber bxs bus bys bme) → va_S A s.heap H locs → lv_has ls 7 [(0, .ref aX), (3, .int l3), (4, .ref aS1), (6, .int l6)] → W p l e rm_X8_check s m args below meth c H locs 0 0 Q (F0 m 70 ls []) := by
  obtain ⟨hx, hb, hml, hown, hts, hK, hA⟩ := id C
  intro n
  induction n with
  | zero =>
    intro l6 hF
    cases hF
  | succ n ih =>
    intro l6 hF H locs ls hP hD hS hl
    have hF : b_X8_check_70 N 1 l3 ssz sit bsz bme (f_X8_check_70 N 1 l3 ssz sit bsz bme n) l6 = some res := hF
    unfold b_X8_check_70 at hF
    refine lv_iload hx hb dX8_check_70 (lv_at hl 3 rfl) ?_
    refine lv_bipush (v := (12 : Int32)) hx hb dX8_check_72 (by decide) ?_
    refine lv_icmp_ge (tgt := 111) hx hb dX8_check_74 (by decide) (fun c62 => ?_) (fun c62 => ?_)
    · have hF := if_t c62 hF
      refine lv_bipush (v := (-4 : Int32)) hx hb dX8_check_111 (by decide) ?_
      have hF := Option.some.inj hF
      subst hF
      exact hQ _ H _ _ dX8_check_113 hP hD hS
    · have hF := if_f c62 hF
      refine lv_aload_n hx hb dX8_check_77 rfl (lv_at hl 0 rfl) ?_
      refine va_get (D := D) (ci := 7) (v := .ref aB) (C := RX8) (T := TX8) (N := 8) hx hb hts iX8_check_X8 hown hK hP 0 rfl rfl 0 (by decide) (hts _ kX8_check_1) (fun _ h9 => h9) rfl dX8_check_78 ?_
      refine lv_aload hx hb dX8_check_81 (lv_at hl 2 rfl) ?_
      refine lv_iload hx hb dX8_check_83 (lv_at hl 3 rfl) ?_
      refine lv_iload_n hx hb dX8_check_85 rfl (lv_at hl 1 rfl) ?_
      refine lv_aload_n hx hb dX8_check_86 rfl (lv_at hl 0 rfl) ?_
      refine va_get (D := D) (ci := 7) (v := .ref aB) (C := RX8) (T := TX8) (N := 8) hx hb hts iX8_check_X8 hown hK hP 0 rfl rfl 0 (by decide) (hts _ kX8_check_1) (fun _ h9 => h9) rfl dX8_check_87 ?_
      obtain ⟨r64, h63, hF⟩ := b1_s hF
      refine cl_vi (As := []) (rest := [.int l3, .int l6, .ref aS1, .ref aB]) (w' := (w_xshb ky aX aB aP aT aR aK aH aG aS aS0 aS1 aS2 aS3 aI0 aI1 aI2 aI3 ax au ay am sla ssz sit bsz bgp ber bxs bus bys bme)) ⟨hx, hb, hml, hown, hts⟩ hK hP hD hS hA (c_X0_size l D ky aB ax au ay am _ N  bsz bgp ber bxs bus bys bme  r64 h63) (cwV 0 hts gX8_check_X0_size rfl rfl rfl (by decide +kernel) ⟨Nat.le_of_ble_eq_true rfl, Nat.le_of_ble_eq_true rfl⟩) [10, 11, 12, 13, 14] [0, 1, 2, 3, 4, 5, 6, 7, 8, 9] [0, 1, 2, 3, 4, 5, 6, 7, 8, 9, 10, 11, 12, 13, 14] 0 0 rfl rfl rfl rfl (wr := [(aX, .inr (7, [.ref aB, .ref aP, .ref aT, .ref aR, .ref aK, .ref aH, .ref aG, .ref aS])), (aS, .inl (ky 3, 4, .inr (.inr (.inr (.inr (shf aS0 aS1 aS2 aS3)))))), (aS0, .inr (4, [.ref aI0, .int (sla 0), .int (ssz 0)])), (aI0, .inl (ky 0, 36, .inl (sit 0))), (aS1, .inr (4, [.ref aI1, .int (sla 1), .int (ssz 1)])), (aI1, .inl (ky 0, 36, .inl (sit 1))), (aS2, .inr (4, [.ref aI2, .int (sla 2), .int (ssz 2)])), (aI2, .inl (ky 0, 36, .inl (sit 2))), (aS3, .inr (4, [.ref aI3, .int (sla 3), .int (ssz 3)])), (aI3, .inl (ky 0, 36, .inl (sit 3)))]) rfl (by decide) rfl rfl hl.1 (Nat.le_of_ble_eq_true rfl) dX8_check_90 ⟨Nat.zero_le _, Nat.zero_le _⟩ (fun H locs hP hD hS => ?_)
      obtain ⟨r66, h65, hF⟩ := b1_s hF
      refine cl_vi (As := [.int l6, .int l3, .int r64]) (rest := [.ref aB]) (w' := (w_xshb ky aX aB aP aT aR aK aH aG aS aS0 aS1 aS2 aS3 aI0 aI1 aI2 aI3 ax au ay am sla ssz sit bsz bgp ber bxs bus bys bme)) ⟨hx, hb, hml, hown, hts⟩ hK hP hD hS hA (c_X5_placesOf l D ky aS1 aI1 _ N  (sla 1) (ssz 1) (sit 1) l6 l3 r64 r66 h65) (cwV 3 hts gX8_check_X5_placesOf rfl rfl rfl (by decide +kernel) ⟨Nat.le_of_ble_eq_true rfl, Nat.le_of_ble_eq_true rfl⟩) [4, 5] [0, 1, 2, 3, 6, 7, 8, 9, 10, 11, 12, 13, 14] [0, 1, 2, 3, 13, 14, 4, 5, 6, 7, 8, 9, 10, 11, 12] 0 4 rfl rfl rfl rfl (wr := [(aX, .inr (7, [.ref aB, .ref aP, .ref aT, .ref aR, .ref aK, .ref aH, .ref aG, .ref aS])), (aS, .inl (ky 3, 4, .inr (.inr (.inr (.inr (shf aS0 aS1 aS2 aS3)))))), (aS0, .inr (4, [.ref aI0, .int (sla 0), .int (ssz 0)])), (aI0, .inl (ky 0, 36, .inl (sit 0))), (aS2, .inr (4, [.ref aI2, .int (sla 2), .int (ssz 2)])), (aI2, .inl (ky 0, 36, .inl (sit 2))), (aS3, .inr (4, [.ref aI3, .int (sla 3), .int (ssz 3)])), (aI3, .inl (ky 0, 36, .inl (sit 3))), (aB, .inr (0, [.ref ax, .ref au, .ref ay, .ref am, .int bsz, .int bgp, .int ber])), (ax, .inl (ky 0, 12, .inl bxs)), (au, .inl (ky 0, 12, .inl bus)), (ay, .inl (ky 0, 12, .inl bys)), (am, .inl (ky 0, 289, .inl bme))]) rfl (by decide) rfl rfl hl.1 (Nat.le_of_ble_eq_true rfl) dX8_check_93 ⟨Nat.zero_le _, Nat.zero_le _⟩ (fun H locs hP hD hS => ?_)
      obtain ⟨r68, h67, hF⟩ := b1_s hF
      refine cl_vi (As := [.int r66]) (rest := []) (w' := (w_xshb ky aX aB aP aT aR aK aH aG aS aS0 aS1 aS2 aS3 aI0 aI1 aI2 aI3 ax au ay am sla ssz sit bsz bgp ber bxs bus bys bme)) ⟨hx, hb, hml, hown, hts⟩ hK hP hD hS hA (c_X0_isWhole l D ky aB ax au ay am _ N  bsz bgp ber bxs bus bys bme r66 r68 h67) (cwV 1 hts gX8_check_X0_isWhole rfl rfl rfl (by decide +kernel) ⟨Nat.le_of_ble_eq_true rfl, Nat.le_of_ble_eq_true rfl⟩) [10, 11, 12, 13, 14] [0, 1, 2, 3, 4, 5, 6, 7, 8, 9] [0, 1, 2, 3, 4, 5, 6, 7, 8, 9, 10, 11, 12, 13, 14] 0 0 rfl rfl rfl rfl (wr := [(aX, .inr (7, [.ref aB, .ref aP, .ref aT, .ref aR, .ref aK, .ref aH, .ref aG, .ref aS])), (aS, .inl (ky 3, 4, .inr (.inr (.inr (.inr (shf aS0 aS1 aS2 aS3)))))), (aS0, .inr (4, [.ref aI0, .int (sla 0), .int (ssz 0)])), (aI0, .inl (ky 0, 36, .inl (sit 0))), (aS1, .inr (4, [.ref aI1, .int (sla 1), .int (ssz 1)])), (aI1, .inl (ky 0, 36, .inl (sit 1))), (aS2, .inr (4, [.ref aI2, .int (sla 2), .int (ssz 2)])), (aI2, .inl (ky 0, 36, .inl (sit 2))), (aS3, .inr (4, [.ref aI3, .int (sla 3), .int (ssz 3)])), (aI3, .inl (ky 0, 36, .inl (sit 3)))]) rfl (by decide) rfl rfl hl.1 (Nat.le_of_ble_eq_true rfl) dX8_check_96 ⟨Nat.zero_le _, Nat.zero_le _⟩ (fun H locs hP hD hS => ?_)
      refine lv_if_ne (tgt := 105) hx hb dX8_check_99 (by decide) (fun c69 => ?_) (fun c69 => ?_)
      · have hF := if_f c69 hF
        refine lv_iinc (v := (l6 + (1 : Int32))) (lv' := [(6, .int (l6 + (1 : Int32))), (0, .ref aX), (3, .int l3), (4, .ref aS1)]) hx hb dX8_check_105 hl (k := 3) rfl rfl (by decide) rfl (fun ls hl => ?_)
        refine lv_goto (tgt := 70) hx hb dX8_check_108 (by decide) ?_
        exact ih (l6 + (1 : Int32)) hF H _ _ hP hD hS (lv_sub hl [1, 2, 3, 0] rfl)
      · have hF := if_t c69 hF
        refine lv_iload hx hb dX8_check_102 (lv_at hl 3 rfl) ?_
        have hF := Option.some.inj hF
        subst hF
        exact hQ _ H _ _ dX8_check_104 hP hD hS
set_option maxHeartbeats 4000000 in
set_option maxRecDepth 100000 in
theorem w_X8_check_70_s2 {p : Program} {l : Launch} {e : Env} {s : State} {m : MethodId} {args : Array Value} {below : List Frame} {meth : Method} {c : Code} {Q : State → Prop} {A : Nat → Prop} {D : va_G} {ky : Nat → ClassId} {aX aB aP aT aR aK aH aG aS aS0 aS1 aS2 aS3 aI0 aI1 aI2 aI3 ax au ay am : Nat} {sla : Nat → Int32} {ssz : Nat → Int32} {sit : Nat → Nat → Int32} {bsz : Int32} {bgp : Int32} {ber : Int32} {bxs : Nat → Int32} {bus : Nat → Int32} {bys : Nat → Int32} {bme : Nat → Int32} (N : Nat) (C : cx p s m c args D ky A cX8_check 7 wsX8_check RX8) (res : Int32) (hQ : ∀ (pc : Nat) (H : Heap) (locs : List Loc) (ls : Array Slot), decode cX8_check pc = .ok (.ireturn, 1) → va_P D vwCl (w_xshb ky aX aB aP aT aR aK aH aG aS aS0 aS1 aS2 aS3 aI0 aI1 aI2 aI3 ax au ay am sla ssz sit bsz bgp ber bxs bus bys bme) H → va_D A (w_xshb ky aX aB aP aT aR aK aH aG aS aS0 aS1 aS2 aS3 aI0 aI1 aI2 aI3 ax au ay am sla ssz sit bsz bgp ber bxs bus bys bme) → va_S A s.heap H locs → W p l e rm_X8_check s m args below meth c H locs 0 0 Q (F0 m pc ls [.int res])) (l3 : Int32) : ∀ (n : Nat) (l6 : Int32), f_X8_check_70 N 2 l3 ssz sit bsz bme n l6 = some res → ∀ (H : Heap) (locs : List Loc) (ls : Array Slot), va_P D vwCl (w_xshb ky aX aB aP aT aR aK aH aG aS aS0 aS1 aS2 aS3 aI0 aI1 aI2 aI3 ax au ay am sla ssz sit bsz bgp ber bxs bus bys bme) H → va_D A (w_xshb ky aX aB aP aT aR aK aH aG aS aS0 aS1 aS2 aS3 aI0 aI1 aI2 aI3 ax au ay am sla ssz sit bsz bgp ber bxs bus bys bme) → va_S A s.heap H locs → lv_has ls 7 [(0, .ref aX), (3, .int l3), (4, .ref aS2), (6, .int l6)] → W p l e rm_X8_check s m args below meth c H locs 0 0 Q (F0 m 70 ls []) := by
  obtain ⟨hx, hb, hml, hown, hts, hK, hA⟩ := id C
  intro n
  induction n with
  | zero =>
    intro l6 hF
    cases hF
  | succ n ih =>
    intro l6 hF H locs ls hP hD hS hl
    have hF : b_X8_check_70 N 2 l3 ssz sit bsz bme (f_X8_check_70 N 2 l3 ssz sit bsz bme n) l6 = some res := hF
    unfold b_X8_check_70 at hF
    refine lv_iload hx hb dX8_check_70 (lv_at hl 3 rfl) ?_
    refine lv_bipush (v := (12 : Int32)) hx hb dX8_check_72 (by decide) ?_
    refine lv_icmp_ge (tgt := 111) hx hb dX8_check_74 (by decide) (fun c70 => ?_) (fun c70 => ?_)
    · have hF := if_t c70 hF
      refine lv_bipush (v := (-4 : Int32)) hx hb dX8_check_111 (by decide) ?_
      have hF := Option.some.inj hF
      subst hF
      exact hQ _ H _ _ dX8_check_113 hP hD hS
    · have hF := if_f c70 hF
      refine lv_aload_n hx hb dX8_check_77 rfl (lv_at hl 0 rfl) ?_
      refine va_get (D := D) (ci := 7) (v := .ref aB) (C := RX8) (T := TX8) (N := 8) hx hb hts iX8_check_X8 hown hK hP 0 rfl rfl 0 (by decide) (hts _ kX8_check_1) (fun _ h9 => h9) rfl dX8_check_78 ?_
      refine lv_aload hx hb dX8_check_81 (lv_at hl 2 rfl) ?_
      refine lv_iload hx hb dX8_check_83 (lv_at hl 3 rfl) ?_
      refine lv_iload_n hx hb dX8_check_85 rfl (lv_at hl 1 rfl) ?_
      refine lv_aload_n hx hb dX8_check_86 rfl (lv_at hl 0 rfl) ?_
      refine va_get (D := D) (ci := 7) (v := .ref aB) (C := RX8) (T := TX8) (N := 8) hx hb hts iX8_check_X8 hown hK hP 0 rfl rfl 0 (by decide) (hts _ kX8_check_1) (fun _ h9 => h9) rfl dX8_check_87 ?_
      obtain ⟨r72, h71, hF⟩ := b1_s hF
      refine cl_vi (As := []) (rest := [.int l3, .int l6, .ref aS2, .ref aB]) (w' := (w_xshb ky aX aB aP aT aR aK aH aG aS aS0 aS1 aS2 aS3 aI0 aI1 aI2 aI3 ax au ay am sla ssz sit bsz bgp ber bxs bus bys bme)) ⟨hx, hb, hml, hown, hts⟩ hK hP hD hS hA (c_X0_size l D ky aB ax au ay am _ N  bsz bgp ber bxs bus bys bme  r72 h71) (cwV 0 hts gX8_check_X0_size rfl rfl rfl (by decide +kernel) ⟨Nat.le_of_ble_eq_true rfl, Nat.le_of_ble_eq_true rfl⟩) [10, 11, 12, 13, 14] [0, 1, 2, 3, 4, 5, 6, 7, 8, 9] [0, 1, 2, 3, 4, 5, 6, 7, 8, 9, 10, 11, 12, 13, 14] 0 0 rfl rfl rfl rfl (wr := [(aX, .inr (7, [.ref aB, .ref aP, .ref aT, .ref aR, .ref aK, .ref aH, .ref aG, .ref aS])), (aS, .inl (ky 3, 4, .inr (.inr (.inr (.inr (shf aS0 aS1 aS2 aS3)))))), (aS0, .inr (4, [.ref aI0, .int (sla 0), .int (ssz 0)])), (aI0, .inl (ky 0, 36, .inl (sit 0))), (aS1, .inr (4, [.ref aI1, .int (sla 1), .int (ssz 1)])), (aI1, .inl (ky 0, 36, .inl (sit 1))), (aS2, .inr (4, [.ref aI2, .int (sla 2), .int (ssz 2)])), (aI2, .inl (ky 0, 36, .inl (sit 2))), (aS3, .inr (4, [.ref aI3, .int (sla 3), .int (ssz 3)])), (aI3, .inl (ky 0, 36, .inl (sit 3)))]) rfl (by decide) rfl rfl hl.1 (Nat.le_of_ble_eq_true rfl) dX8_check_90 ⟨Nat.zero_le _, Nat.zero_le _⟩ (fun H locs hP hD hS => ?_)
      obtain ⟨r74, h73, hF⟩ := b1_s hF
      refine cl_vi (As := [.int l6, .int l3, .int r72]) (rest := [.ref aB]) (w' := (w_xshb ky aX aB aP aT aR aK aH aG aS aS0 aS1 aS2 aS3 aI0 aI1 aI2 aI3 ax au ay am sla ssz sit bsz bgp ber bxs bus bys bme)) ⟨hx, hb, hml, hown, hts⟩ hK hP hD hS hA (c_X5_placesOf l D ky aS2 aI2 _ N  (sla 2) (ssz 2) (sit 2) l6 l3 r72 r74 h73) (cwV 3 hts gX8_check_X5_placesOf rfl rfl rfl (by decide +kernel) ⟨Nat.le_of_ble_eq_true rfl, Nat.le_of_ble_eq_true rfl⟩) [6, 7] [0, 1, 2, 3, 4, 5, 8, 9, 10, 11, 12, 13, 14] [0, 1, 2, 3, 4, 5, 13, 14, 6, 7, 8, 9, 10, 11, 12] 0 4 rfl rfl rfl rfl (wr := [(aX, .inr (7, [.ref aB, .ref aP, .ref aT, .ref aR, .ref aK, .ref aH, .ref aG, .ref aS])), (aS, .inl (ky 3, 4, .inr (.inr (.inr (.inr (shf aS0 aS1 aS2 aS3)))))), (aS0, .inr (4, [.ref aI0, .int (sla 0), .int (ssz 0)])), (aI0, .inl (ky 0, 36, .inl (sit 0))), (aS1, .inr (4, [.ref aI1, .int (sla 1), .int (ssz 1)])), (aI1, .inl (ky 0, 36, .inl (sit 1))), (aS3, .inr (4, [.ref aI3, .int (sla 3), .int (ssz 3)])), (aI3, .inl (ky 0, 36, .inl (sit 3))), (aB, .inr (0, [.ref ax, .ref au, .ref ay, .ref am, .int bsz, .int bgp, .int ber])), (ax, .inl (ky 0, 12, .inl bxs)), (au, .inl (ky 0, 12, .inl bus)), (ay, .inl (ky 0, 12, .inl bys)), (am, .inl (ky 0, 289, .inl bme))]) rfl (by decide) rfl rfl hl.1 (Nat.le_of_ble_eq_true rfl) dX8_check_93 ⟨Nat.zero_le _, Nat.zero_le _⟩ (fun H locs hP hD hS => ?_)
      obtain ⟨r76, h75, hF⟩ := b1_s hF
      refine cl_vi (As := [.int r74]) (rest := []) (w' := (w_xshb ky aX aB aP aT aR aK aH aG aS aS0 aS1 aS2 aS3 aI0 aI1 aI2 aI3 ax au ay am sla ssz sit bsz bgp ber bxs bus bys bme)) ⟨hx, hb, hml, hown, hts⟩ hK hP hD hS hA (c_X0_isWhole l D ky aB ax au ay am _ N  bsz bgp ber bxs bus bys bme r74 r76 h75) (cwV 1 hts gX8_check_X0_isWhole rfl rfl rfl (by decide +kernel) ⟨Nat.le_of_ble_eq_true rfl, Nat.le_of_ble_eq_true rfl⟩) [10, 11, 12, 13, 14] [0, 1, 2, 3, 4, 5, 6, 7, 8, 9] [0, 1, 2, 3, 4, 5, 6, 7, 8, 9, 10, 11, 12, 13, 14] 0 0 rfl rfl rfl rfl (wr := [(aX, .inr (7, [.ref aB, .ref aP, .ref aT, .ref aR, .ref aK, .ref aH, .ref aG, .ref aS])), (aS, .inl (ky 3, 4, .inr (.inr (.inr (.inr (shf aS0 aS1 aS2 aS3)))))), (aS0, .inr (4, [.ref aI0, .int (sla 0), .int (ssz 0)])), (aI0, .inl (ky 0, 36, .inl (sit 0))), (aS1, .inr (4, [.ref aI1, .int (sla 1), .int (ssz 1)])), (aI1, .inl (ky 0, 36, .inl (sit 1))), (aS2, .inr (4, [.ref aI2, .int (sla 2), .int (ssz 2)])), (aI2, .inl (ky 0, 36, .inl (sit 2))), (aS3, .inr (4, [.ref aI3, .int (sla 3), .int (ssz 3)])), (aI3, .inl (ky 0, 36, .inl (sit 3)))]) rfl (by decide) rfl rfl hl.1 (Nat.le_of_ble_eq_true rfl) dX8_check_96 ⟨Nat.zero_le _, Nat.zero_le _⟩ (fun H locs hP hD hS => ?_)
      refine lv_if_ne (tgt := 105) hx hb dX8_check_99 (by decide) (fun c77 => ?_) (fun c77 => ?_)
      · have hF := if_f c77 hF
        refine lv_iinc (v := (l6 + (1 : Int32))) (lv' := [(6, .int (l6 + (1 : Int32))), (0, .ref aX), (3, .int l3), (4, .ref aS2)]) hx hb dX8_check_105 hl (k := 3) rfl rfl (by decide) rfl (fun ls hl => ?_)
        refine lv_goto (tgt := 70) hx hb dX8_check_108 (by decide) ?_
        exact ih (l6 + (1 : Int32)) hF H _ _ hP hD hS (lv_sub hl [1, 2, 3, 0] rfl)
      · have hF := if_t c77 hF
        refine lv_iload hx hb dX8_check_102 (lv_at hl 3 rfl) ?_
        have hF := Option.some.inj hF
        subst hF
        exact hQ _ H _ _ dX8_check_104 hP hD hS
set_option maxHeartbeats 4000000 in
set_option maxRecDepth 100000 in
theorem w_X8_check_70_s3 {p : Program} {l : Launch} {e : Env} {s : State} {m : MethodId} {args : Array Value} {below : List Frame} {meth : Method} {c : Code} {Q : State → Prop} {A : Nat → Prop} {D : va_G} {ky : Nat → ClassId} {aX aB aP aT aR aK aH aG aS aS0 aS1 aS2 aS3 aI0 aI1 aI2 aI3 ax au ay am : Nat} {sla : Nat → Int32} {ssz : Nat → Int32} {sit : Nat → Nat → Int32} {bsz : Int32} {bgp : Int32} {ber : Int32} {bxs : Nat → Int32} {bus : Nat → Int32} {bys : Nat → Int32} {bme : Nat → Int32} (N : Nat) (C : cx p s m c args D ky A cX8_check 7 wsX8_check RX8) (res : Int32) (hQ : ∀ (pc : Nat) (H : Heap) (locs : List Loc) (ls : Array Slot), decode cX8_check pc = .ok (.ireturn, 1) → va_P D vwCl (w_xshb ky aX aB aP aT aR aK aH aG aS aS0 aS1 aS2 aS3 aI0 aI1 aI2 aI3 ax au ay am sla ssz sit bsz bgp ber bxs bus bys bme) H → va_D A (w_xshb ky aX aB aP aT aR aK aH aG aS aS0 aS1 aS2 aS3 aI0 aI1 aI2 aI3 ax au ay am sla ssz sit bsz bgp ber bxs bus bys bme) → va_S A s.heap H locs → W p l e rm_X8_check s m args below meth c H locs 0 0 Q (F0 m pc ls [.int res])) (l3 : Int32) : ∀ (n : Nat) (l6 : Int32), f_X8_check_70 N 3 l3 ssz sit bsz bme n l6 = some res → ∀ (H : Heap) (locs : List Loc) (ls : Array Slot), va_P D vwCl (w_xshb ky aX aB aP aT aR aK aH aG aS aS0 aS1 aS2 aS3 aI0 aI1 aI2 aI3 ax au ay am sla ssz sit bsz bgp ber bxs bus bys bme) H → va_D A (w_xshb ky aX aB aP aT aR aK aH aG aS aS0 aS1 aS2 aS3 aI0 aI1 aI2 aI3 ax au ay am sla ssz sit bsz bgp ber bxs bus bys bme) → va_S A s.heap H locs → lv_has ls 7 [(0, .ref aX), (3, .int l3), (4, .ref aS3), (6, .int l6)] → W p l e rm_X8_check s m args below meth c H locs 0 0 Q (F0 m 70 ls []) := by
  obtain ⟨hx, hb, hml, hown, hts, hK, hA⟩ := id C
  intro n
  induction n with
  | zero =>
    intro l6 hF
    cases hF
  | succ n ih =>
    intro l6 hF H locs ls hP hD hS hl
    have hF : b_X8_check_70 N 3 l3 ssz sit bsz bme (f_X8_check_70 N 3 l3 ssz sit bsz bme n) l6 = some res := hF
    unfold b_X8_check_70 at hF
    refine lv_iload hx hb dX8_check_70 (lv_at hl 3 rfl) ?_
    refine lv_bipush (v := (12 : Int32)) hx hb dX8_check_72 (by decide) ?_
    refine lv_icmp_ge (tgt := 111) hx hb dX8_check_74 (by decide) (fun c78 => ?_) (fun c78 => ?_)
    · have hF := if_t c78 hF
      refine lv_bipush (v := (-4 : Int32)) hx hb dX8_check_111 (by decide) ?_
      have hF := Option.some.inj hF
      subst hF
      exact hQ _ H _ _ dX8_check_113 hP hD hS
    · have hF := if_f c78 hF
      refine lv_aload_n hx hb dX8_check_77 rfl (lv_at hl 0 rfl) ?_
      refine va_get (D := D) (ci := 7) (v := .ref aB) (C := RX8) (T := TX8) (N := 8) hx hb hts iX8_check_X8 hown hK hP 0 rfl rfl 0 (by decide) (hts _ kX8_check_1) (fun _ h9 => h9) rfl dX8_check_78 ?_
      refine lv_aload hx hb dX8_check_81 (lv_at hl 2 rfl) ?_
      refine lv_iload hx hb dX8_check_83 (lv_at hl 3 rfl) ?_
      refine lv_iload_n hx hb dX8_check_85 rfl (lv_at hl 1 rfl) ?_
      refine lv_aload_n hx hb dX8_check_86 rfl (lv_at hl 0 rfl) ?_
      refine va_get (D := D) (ci := 7) (v := .ref aB) (C := RX8) (T := TX8) (N := 8) hx hb hts iX8_check_X8 hown hK hP 0 rfl rfl 0 (by decide) (hts _ kX8_check_1) (fun _ h9 => h9) rfl dX8_check_87 ?_
      obtain ⟨r80, h79, hF⟩ := b1_s hF
      refine cl_vi (As := []) (rest := [.int l3, .int l6, .ref aS3, .ref aB]) (w' := (w_xshb ky aX aB aP aT aR aK aH aG aS aS0 aS1 aS2 aS3 aI0 aI1 aI2 aI3 ax au ay am sla ssz sit bsz bgp ber bxs bus bys bme)) ⟨hx, hb, hml, hown, hts⟩ hK hP hD hS hA (c_X0_size l D ky aB ax au ay am _ N  bsz bgp ber bxs bus bys bme  r80 h79) (cwV 0 hts gX8_check_X0_size rfl rfl rfl (by decide +kernel) ⟨Nat.le_of_ble_eq_true rfl, Nat.le_of_ble_eq_true rfl⟩) [10, 11, 12, 13, 14] [0, 1, 2, 3, 4, 5, 6, 7, 8, 9] [0, 1, 2, 3, 4, 5, 6, 7, 8, 9, 10, 11, 12, 13, 14] 0 0 rfl rfl rfl rfl (wr := [(aX, .inr (7, [.ref aB, .ref aP, .ref aT, .ref aR, .ref aK, .ref aH, .ref aG, .ref aS])), (aS, .inl (ky 3, 4, .inr (.inr (.inr (.inr (shf aS0 aS1 aS2 aS3)))))), (aS0, .inr (4, [.ref aI0, .int (sla 0), .int (ssz 0)])), (aI0, .inl (ky 0, 36, .inl (sit 0))), (aS1, .inr (4, [.ref aI1, .int (sla 1), .int (ssz 1)])), (aI1, .inl (ky 0, 36, .inl (sit 1))), (aS2, .inr (4, [.ref aI2, .int (sla 2), .int (ssz 2)])), (aI2, .inl (ky 0, 36, .inl (sit 2))), (aS3, .inr (4, [.ref aI3, .int (sla 3), .int (ssz 3)])), (aI3, .inl (ky 0, 36, .inl (sit 3)))]) rfl (by decide) rfl rfl hl.1 (Nat.le_of_ble_eq_true rfl) dX8_check_90 ⟨Nat.zero_le _, Nat.zero_le _⟩ (fun H locs hP hD hS => ?_)
      obtain ⟨r82, h81, hF⟩ := b1_s hF
      refine cl_vi (As := [.int l6, .int l3, .int r80]) (rest := [.ref aB]) (w' := (w_xshb ky aX aB aP aT aR aK aH aG aS aS0 aS1 aS2 aS3 aI0 aI1 aI2 aI3 ax au ay am sla ssz sit bsz bgp ber bxs bus bys bme)) ⟨hx, hb, hml, hown, hts⟩ hK hP hD hS hA (c_X5_placesOf l D ky aS3 aI3 _ N  (sla 3) (ssz 3) (sit 3) l6 l3 r80 r82 h81) (cwV 3 hts gX8_check_X5_placesOf rfl rfl rfl (by decide +kernel) ⟨Nat.le_of_ble_eq_true rfl, Nat.le_of_ble_eq_true rfl⟩) [8, 9] [0, 1, 2, 3, 4, 5, 6, 7, 10, 11, 12, 13, 14] [0, 1, 2, 3, 4, 5, 6, 7, 13, 14, 8, 9, 10, 11, 12] 0 4 rfl rfl rfl rfl (wr := [(aX, .inr (7, [.ref aB, .ref aP, .ref aT, .ref aR, .ref aK, .ref aH, .ref aG, .ref aS])), (aS, .inl (ky 3, 4, .inr (.inr (.inr (.inr (shf aS0 aS1 aS2 aS3)))))), (aS0, .inr (4, [.ref aI0, .int (sla 0), .int (ssz 0)])), (aI0, .inl (ky 0, 36, .inl (sit 0))), (aS1, .inr (4, [.ref aI1, .int (sla 1), .int (ssz 1)])), (aI1, .inl (ky 0, 36, .inl (sit 1))), (aS2, .inr (4, [.ref aI2, .int (sla 2), .int (ssz 2)])), (aI2, .inl (ky 0, 36, .inl (sit 2))), (aB, .inr (0, [.ref ax, .ref au, .ref ay, .ref am, .int bsz, .int bgp, .int ber])), (ax, .inl (ky 0, 12, .inl bxs)), (au, .inl (ky 0, 12, .inl bus)), (ay, .inl (ky 0, 12, .inl bys)), (am, .inl (ky 0, 289, .inl bme))]) rfl (by decide) rfl rfl hl.1 (Nat.le_of_ble_eq_true rfl) dX8_check_93 ⟨Nat.zero_le _, Nat.zero_le _⟩ (fun H locs hP hD hS => ?_)
      obtain ⟨r84, h83, hF⟩ := b1_s hF
      refine cl_vi (As := [.int r82]) (rest := []) (w' := (w_xshb ky aX aB aP aT aR aK aH aG aS aS0 aS1 aS2 aS3 aI0 aI1 aI2 aI3 ax au ay am sla ssz sit bsz bgp ber bxs bus bys bme)) ⟨hx, hb, hml, hown, hts⟩ hK hP hD hS hA (c_X0_isWhole l D ky aB ax au ay am _ N  bsz bgp ber bxs bus bys bme r82 r84 h83) (cwV 1 hts gX8_check_X0_isWhole rfl rfl rfl (by decide +kernel) ⟨Nat.le_of_ble_eq_true rfl, Nat.le_of_ble_eq_true rfl⟩) [10, 11, 12, 13, 14] [0, 1, 2, 3, 4, 5, 6, 7, 8, 9] [0, 1, 2, 3, 4, 5, 6, 7, 8, 9, 10, 11, 12, 13, 14] 0 0 rfl rfl rfl rfl (wr := [(aX, .inr (7, [.ref aB, .ref aP, .ref aT, .ref aR, .ref aK, .ref aH, .ref aG, .ref aS])), (aS, .inl (ky 3, 4, .inr (.inr (.inr (.inr (shf aS0 aS1 aS2 aS3)))))), (aS0, .inr (4, [.ref aI0, .int (sla 0), .int (ssz 0)])), (aI0, .inl (ky 0, 36, .inl (sit 0))), (aS1, .inr (4, [.ref aI1, .int (sla 1), .int (ssz 1)])), (aI1, .inl (ky 0, 36, .inl (sit 1))), (aS2, .inr (4, [.ref aI2, .int (sla 2), .int (ssz 2)])), (aI2, .inl (ky 0, 36, .inl (sit 2))), (aS3, .inr (4, [.ref aI3, .int (sla 3), .int (ssz 3)])), (aI3, .inl (ky 0, 36, .inl (sit 3)))]) rfl (by decide) rfl rfl hl.1 (Nat.le_of_ble_eq_true rfl) dX8_check_96 ⟨Nat.zero_le _, Nat.zero_le _⟩ (fun H locs hP hD hS => ?_)
      refine lv_if_ne (tgt := 105) hx hb dX8_check_99 (by decide) (fun c85 => ?_) (fun c85 => ?_)
      · have hF := if_f c85 hF
        refine lv_iinc (v := (l6 + (1 : Int32))) (lv' := [(6, .int (l6 + (1 : Int32))), (0, .ref aX), (3, .int l3), (4, .ref aS3)]) hx hb dX8_check_105 hl (k := 3) rfl rfl (by decide) rfl (fun ls hl => ?_)
        refine lv_goto (tgt := 70) hx hb dX8_check_108 (by decide) ?_
        exact ih (l6 + (1 : Int32)) hF H _ _ hP hD hS (lv_sub hl [1, 2, 3, 0] rfl)
      · have hF := if_t c85 hF
        refine lv_iload hx hb dX8_check_102 (lv_at hl 3 rfl) ?_
        have hF := Option.some.inj hF
        subst hF
        exact hQ _ H _ _ dX8_check_104 hP hD hS
set_option maxHeartbeats 4000000 in
set_option maxRecDepth 100000 in
theorem cr_X8_check (l : Launch) (D : va_G) (ky : Nat → ClassId) (aX aB aP aT aR aK aH aG aS aS0 aS1 aS2 aS3 aI0 aI1 aI2 aI3 ax au ay am : Nat) (sz N : Nat)  (sla : Nat → Int32) (ssz : Nat → Int32) (sit : Nat → Nat → Int32) (bsz : Int32) (bgp : Int32) (ber : Int32) (bxs : Nat → Int32) (bus : Nat → Int32) (bys : Nat → Int32) (bme : Nat → Int32) (p0 : Int32) (p1 : Int32) (p2 : Int32) (res : Int32) (hF : f_X8_check N p0 p1 p2 sla ssz sit bsz bme = some res) : MI l yX8_check wsX8_check rm_X8_check D ky sz [.ref aX, .int p0, .int p1, .int p2] (w_xshb ky aX aB aP aT aR aK aH aG aS aS0 aS1 aS2 aS3 aI0 aI1 aI2 aI3 ax au ay am sla ssz sit bsz bgp ber bxs bus bys bme) (w_xshb ky aX aB aP aT aR aK aH aG aS aS0 aS1 aS2 aS3 aI0 aI1 aI2 aI3 ax au ay am sla ssz sit bsz bgp ber bxs bus bys bme) res := by
  unfold MI
  refine Met.ofW (cc := cX8_check) (maxL := 7) (ret := (some .int)) (by decide) rfl ?_
  intro p e s m args below meth c s₁ B hml hv
  obtain ⟨rfl, hsz, hP, hK, hD0⟩ := hv
  have hx := B.exec
  have hb := B.bytes
  have hr := B.returns
  have hts := atoms_spec (ws := wsX8_check) B.pre
  have hown : s.vm.findClass RX8 = some m.cls := findClass_of_methodNamed B.named
  have hlocks := B.notSynchronized
  subst hsz
  have hD := hD0.self (sz := s.heap.size)
  generalize hAe : va_A (w_xshb ky aX aB aP aT aR aK aH aG aS aS0 aS1 aS2 aS3 aI0 aI1 aI2 aI3 ax au ay am sla ssz sit bsz bgp ber bxs bus bys bme) s.heap.size = A at hD ⊢
  have hA : ∀ q : Nat, s.heap.size ≤ q → A q := fun q h => by rw [← hAe]; exact Or.inr h
  have hS : va_S A s.heap s.heap [] := va_S.rf
  have hP : va_P D vwCl (w_xshb ky aX aB aP aT aR aK aH aG aS aS0 aS1 aS2 aS3 aI0 aI1 aI2 aI3 ax au ay am sla ssz sit bsz bgp ber bxs bus bys bme) s.heap := hP
  have hl := lv_entry ([.ref aX, .int p0, .int p1, .int p2]) (n := 7) (Nat.le_of_ble_eq_true rfl)
  rw [lg_entry_eq]
  generalize (lg_sl ([.ref aX, .int p0, .int p1, .int p2]) ++ List.replicate (7 - (lg_sl ([.ref aX, .int p0, .int p1, .int p2])).length) Slot.unset).toArray = ls at hl ⊢
  have hl : lv_has ls 7 [(0, .ref aX), (1, .int p0), (2, .int p1), (3, .int p2)] := hl
  have C : cx p s m c ([.ref aX, .int p0, .int p1, .int p2]).toArray D ky A cX8_check 7 wsX8_check RX8 := ⟨hx, hb, hml, hown, hts, hK, hA⟩
  have hQ : ∀ (pc : Nat) (H : Heap) (locs : List Loc) (ls : Array Slot), decode cX8_check pc = .ok (.ireturn, 1) → va_P D vwCl (w_xshb ky aX aB aP aT aR aK aH aG aS aS0 aS1 aS2 aS3 aI0 aI1 aI2 aI3 ax au ay am sla ssz sit bsz bgp ber bxs bus bys bme) H → va_D A (w_xshb ky aX aB aP aT aR aK aH aG aS aS0 aS1 aS2 aS3 aI0 aI1 aI2 aI3 ax au ay am sla ssz sit bsz bgp ber bxs bus bys bme) → va_S A s.heap H locs → W p l e rm_X8_check s m ([.ref aX, .int p0, .int p1, .int p2]).toArray below meth c H locs 0 0 (MQ below (va_Qi (S := Unit) (fun r _ => r = res) (fun _ t => va_P D vwCl (w_xshb ky aX aB aP aT aR aK aH aG aS aS0 aS1 aS2 aS3 aI0 aI1 aI2 aI3 ax au ay am sla ssz sit bsz bgp ber bxs bus bys bme) t.heap ∧ va_K D vwCl (tyW ky) t ∧ va_D A (w_xshb ky aX aB aP aT aR aK aH aG aS aS0 aS1 aS2 aS3 aI0 aI1 aI2 aI3 ax au ay am sla ssz sit bsz bgp ber bxs bus bys bme)) A) ([.ref aX, .int p0, .int p1, .int p2]).toArray s 0 0 A) (F0 m pc ls [.int res]) := fun pc H locs ls hd hP hD hS => W.iret hx hb hr (fun t ht hW => ⟨⟨res, (), rfl, rfl, by rw [ht]; exact hP, va_K.moved hW.alike hK, hD⟩, hS.F ht⟩) hS.2.2 hd
  unfold f_X8_check at hF
  refine lv_aload_n hx hb dX8_check_0 rfl (lv_at hl 0 rfl) ?_
  refine lv_iload_n hx hb dX8_check_1 rfl (lv_at hl 1 rfl) ?_
  rcases sh5_s hF with ⟨h1, hF⟩ | ⟨h1, hF⟩ | ⟨h1, hF⟩ | ⟨h1, hF⟩ | ⟨h1, hF⟩
  · refine cl_vq (ro := none) (As := [.int p0]) (rest := []) (w' := (w_xshb ky aX aB aP aT aR aK aH aG aS aS0 aS1 aS2 aS3 aI0 aI1 aI2 aI3 ax au ay am sla ssz sit bsz bgp ber bxs bus bys bme)) ⟨hx, hb, hml, hown, hts⟩ hK hP hD hS hA (c_X8_sheetAt l D ky aX aB aP aT aR aK aH aG aS aS0 aS1 aS2 aS3 _ p0 none (Or.inl ⟨h1, rfl⟩)) (cwV 1 hts gX8_check_X8_sheetAt rfl rfl rfl (by decide +kernel) ⟨Nat.le_of_ble_eq_true rfl, Nat.le_of_ble_eq_true rfl⟩) [0, 1] [2, 3, 4, 5, 6, 7, 8, 9, 10, 11, 12, 13, 14] [13, 14, 0, 1, 2, 3, 4, 5, 6, 7, 8, 9, 10, 11, 12] 0 7 rfl rfl rfl rfl (wr := [(aS0, .inr (4, [.ref aI0, .int (sla 0), .int (ssz 0)])), (aI0, .inl (ky 0, 36, .inl (sit 0))), (aS1, .inr (4, [.ref aI1, .int (sla 1), .int (ssz 1)])), (aI1, .inl (ky 0, 36, .inl (sit 1))), (aS2, .inr (4, [.ref aI2, .int (sla 2), .int (ssz 2)])), (aI2, .inl (ky 0, 36, .inl (sit 2))), (aS3, .inr (4, [.ref aI3, .int (sla 3), .int (ssz 3)])), (aI3, .inl (ky 0, 36, .inl (sit 3))), (aB, .inr (0, [.ref ax, .ref au, .ref ay, .ref am, .int bsz, .int bgp, .int ber])), (ax, .inl (ky 0, 12, .inl bxs)), (au, .inl (ky 0, 12, .inl bus)), (ay, .inl (ky 0, 12, .inl bys)), (am, .inl (ky 0, 289, .inl bme))]) rfl (by decide) rfl rfl hl.1 (Nat.le_of_ble_eq_true rfl) dX8_check_2 ⟨Nat.zero_le _, Nat.zero_le _⟩ (fun H locs hP hD hS => ?_)
    refine lv_astoreN (lv' := [(4, .null), (0, .ref aX), (1, .int p0), (2, .int p1), (3, .int p2)]) hx hb dX8_check_5 hl (by decide) rfl (fun ls hl => ?_)
    refine lv_aloadN hx hb dX8_check_7 (lv_at hl 0 rfl) ?_
    refine lv_ifnullN (tgt := 19) hx hb dX8_check_9 (by decide) ?_
    refine lv_iconst (v := (-1 : Int32)) hx hb dX8_check_19 (by decide) ?_
    have hF := Option.some.inj hF
    subst hF
    exact hQ _ _ _ _ dX8_check_20 hP hD hS
  · refine cl_vq (ro := (some aS0)) (As := [.int p0]) (rest := []) (w' := (w_xshb ky aX aB aP aT aR aK aH aG aS aS0 aS1 aS2 aS3 aI0 aI1 aI2 aI3 ax au ay am sla ssz sit bsz bgp ber bxs bus bys bme)) ⟨hx, hb, hml, hown, hts⟩ hK hP hD hS hA (c_X8_sheetAt l D ky aX aB aP aT aR aK aH aG aS aS0 aS1 aS2 aS3 _ p0 (some aS0) (Or.inr ⟨by rw [h1]; decide, by rw [h1]; rfl⟩)) (cwV 1 hts gX8_check_X8_sheetAt rfl rfl rfl (by decide +kernel) ⟨Nat.le_of_ble_eq_true rfl, Nat.le_of_ble_eq_true rfl⟩) [0, 1] [2, 3, 4, 5, 6, 7, 8, 9, 10, 11, 12, 13, 14] [13, 14, 0, 1, 2, 3, 4, 5, 6, 7, 8, 9, 10, 11, 12] 0 7 rfl rfl rfl rfl (wr := [(aS0, .inr (4, [.ref aI0, .int (sla 0), .int (ssz 0)])), (aI0, .inl (ky 0, 36, .inl (sit 0))), (aS1, .inr (4, [.ref aI1, .int (sla 1), .int (ssz 1)])), (aI1, .inl (ky 0, 36, .inl (sit 1))), (aS2, .inr (4, [.ref aI2, .int (sla 2), .int (ssz 2)])), (aI2, .inl (ky 0, 36, .inl (sit 2))), (aS3, .inr (4, [.ref aI3, .int (sla 3), .int (ssz 3)])), (aI3, .inl (ky 0, 36, .inl (sit 3))), (aB, .inr (0, [.ref ax, .ref au, .ref ay, .ref am, .int bsz, .int bgp, .int ber])), (ax, .inl (ky 0, 12, .inl bxs)), (au, .inl (ky 0, 12, .inl bus)), (ay, .inl (ky 0, 12, .inl bys)), (am, .inl (ky 0, 289, .inl bme))]) rfl (by decide) rfl rfl hl.1 (Nat.le_of_ble_eq_true rfl) dX8_check_2 ⟨Nat.zero_le _, Nat.zero_le _⟩ (fun H locs hP hD hS => ?_)
    refine lv_astore (lv' := [(4, .ref aS0), (0, .ref aX), (1, .int p0), (2, .int p1), (3, .int p2)]) hx hb dX8_check_5 hl (by decide) rfl (fun ls hl => ?_)
    refine lv_aload hx hb dX8_check_7 (lv_at hl 0 rfl) ?_
    refine lv_ifnull hx hb dX8_check_9 ?_
    refine lv_iload_n hx hb dX8_check_12 rfl (lv_at hl 3 rfl) ?_
    obtain ⟨r3, h2, hF⟩ := b1_s hF
    refine cl_si (As := [.int p1]) (rest := []) ⟨hx, hb, hml, hown, hts⟩ hK hP hD hS hA (c_X8_isLane l D ky  _ N   p1 r3 h2) (va_cwS 1 hts gX8_check_X8_isLane rfl rfl rfl (by decide +kernel) ⟨Nat.le_of_ble_eq_true rfl, Nat.le_of_ble_eq_true rfl⟩) rfl hl.1 (Nat.le_of_ble_eq_true rfl) dX8_check_13 ⟨Nat.zero_le _, Nat.zero_le _⟩ (fun H locs hP hD hS => ?_)
    refine lv_if_ne (tgt := 21) hx hb dX8_check_16 (by decide) (fun c4 => ?_) (fun c4 => ?_)
    · have hF := if_f c4 hF
      refine lv_aload hx hb dX8_check_21 (lv_at hl 0 rfl) ?_
      refine lv_iload_n hx hb dX8_check_23 rfl (lv_at hl 3 rfl) ?_
      refine lv_iload_n hx hb dX8_check_24 rfl (lv_at hl 4 rfl) ?_
      refine lv_aload_n hx hb dX8_check_25 rfl (lv_at hl 1 rfl) ?_
      refine va_get (D := D) (ci := 7) (v := .ref aB) (C := RX8) (T := TX8) (N := 8) hx hb hts iX8_check_X8 hown hK hP 0 rfl rfl 0 (by decide) (hts _ kX8_check_1) (fun _ h9 => h9) rfl dX8_check_26 ?_
      obtain ⟨r6, h5, hF⟩ := b1_s hF
      refine cl_vi (As := []) (rest := [.int p2, .int p1, .ref aS0]) (w' := (w_xshb ky aX aB aP aT aR aK aH aG aS aS0 aS1 aS2 aS3 aI0 aI1 aI2 aI3 ax au ay am sla ssz sit bsz bgp ber bxs bus bys bme)) ⟨hx, hb, hml, hown, hts⟩ hK hP hD hS hA (c_X0_size l D ky aB ax au ay am _ N  bsz bgp ber bxs bus bys bme  r6 h5) (cwV 0 hts gX8_check_X0_size rfl rfl rfl (by decide +kernel) ⟨Nat.le_of_ble_eq_true rfl, Nat.le_of_ble_eq_true rfl⟩) [10, 11, 12, 13, 14] [0, 1, 2, 3, 4, 5, 6, 7, 8, 9] [0, 1, 2, 3, 4, 5, 6, 7, 8, 9, 10, 11, 12, 13, 14] 0 0 rfl rfl rfl rfl (wr := [(aX, .inr (7, [.ref aB, .ref aP, .ref aT, .ref aR, .ref aK, .ref aH, .ref aG, .ref aS])), (aS, .inl (ky 3, 4, .inr (.inr (.inr (.inr (shf aS0 aS1 aS2 aS3)))))), (aS0, .inr (4, [.ref aI0, .int (sla 0), .int (ssz 0)])), (aI0, .inl (ky 0, 36, .inl (sit 0))), (aS1, .inr (4, [.ref aI1, .int (sla 1), .int (ssz 1)])), (aI1, .inl (ky 0, 36, .inl (sit 1))), (aS2, .inr (4, [.ref aI2, .int (sla 2), .int (ssz 2)])), (aI2, .inl (ky 0, 36, .inl (sit 2))), (aS3, .inr (4, [.ref aI3, .int (sla 3), .int (ssz 3)])), (aI3, .inl (ky 0, 36, .inl (sit 3)))]) rfl (by decide) rfl rfl hl.1 (Nat.le_of_ble_eq_true rfl) dX8_check_29 ⟨Nat.zero_le _, Nat.zero_le _⟩ (fun H locs hP hD hS => ?_)
      obtain ⟨r8, h7, hF⟩ := b1_s hF
      refine cl_vi (As := [.int p1, .int p2, .int r6]) (rest := []) (w' := (w_xshb ky aX aB aP aT aR aK aH aG aS aS0 aS1 aS2 aS3 aI0 aI1 aI2 aI3 ax au ay am sla ssz sit bsz bgp ber bxs bus bys bme)) ⟨hx, hb, hml, hown, hts⟩ hK hP hD hS hA (c_X5_refusal l D ky aS0 aI0 _ N  (sla 0) (ssz 0) (sit 0) p1 p2 r6 r8 h7) (cwV 3 hts gX8_check_X5_refusal rfl rfl rfl (by decide +kernel) ⟨Nat.le_of_ble_eq_true rfl, Nat.le_of_ble_eq_true rfl⟩) [2, 3] [0, 1, 4, 5, 6, 7, 8, 9, 10, 11, 12, 13, 14] [0, 1, 13, 14, 2, 3, 4, 5, 6, 7, 8, 9, 10, 11, 12] 0 4 rfl rfl rfl rfl (wr := [(aX, .inr (7, [.ref aB, .ref aP, .ref aT, .ref aR, .ref aK, .ref aH, .ref aG, .ref aS])), (aS, .inl (ky 3, 4, .inr (.inr (.inr (.inr (shf aS0 aS1 aS2 aS3)))))), (aS1, .inr (4, [.ref aI1, .int (sla 1), .int (ssz 1)])), (aI1, .inl (ky 0, 36, .inl (sit 1))), (aS2, .inr (4, [.ref aI2, .int (sla 2), .int (ssz 2)])), (aI2, .inl (ky 0, 36, .inl (sit 2))), (aS3, .inr (4, [.ref aI3, .int (sla 3), .int (ssz 3)])), (aI3, .inl (ky 0, 36, .inl (sit 3))), (aB, .inr (0, [.ref ax, .ref au, .ref ay, .ref am, .int bsz, .int bgp, .int ber])), (ax, .inl (ky 0, 12, .inl bxs)), (au, .inl (ky 0, 12, .inl bus)), (ay, .inl (ky 0, 12, .inl bys)), (am, .inl (ky 0, 289, .inl bme))]) rfl (by decide) rfl rfl hl.1 (Nat.le_of_ble_eq_true rfl) dX8_check_32 ⟨Nat.zero_le _, Nat.zero_le _⟩ (fun H locs hP hD hS => ?_)
      refine lv_istore (lv' := [(5, .int r8), (4, .ref aS0), (0, .ref aX), (1, .int p0), (2, .int p1), (3, .int p2)]) hx hb dX8_check_35 hl (by decide) rfl (fun ls hl => ?_)
      refine lv_iload hx hb dX8_check_37 (lv_at hl 0 rfl) ?_
      refine lv_if_ge (tgt := 45) hx hb dX8_check_39 (by decide) (fun c9 => ?_) (fun c9 => ?_)
      · have hF := if_t c9 hF
        refine lv_aload hx hb dX8_check_45 (lv_at hl 1 rfl) ?_
        refine lv_iload_n hx hb dX8_check_47 rfl (lv_at hl 5 rfl) ?_
        refine lv_aload_n hx hb dX8_check_48 rfl (lv_at hl 2 rfl) ?_
        refine va_get (D := D) (ci := 7) (v := .ref aB) (C := RX8) (T := TX8) (N := 8) hx hb hts iX8_check_X8 hown hK hP 0 rfl rfl 0 (by decide) (hts _ kX8_check_1) (fun _ h9 => h9) rfl dX8_check_49 ?_
        obtain ⟨r11, h10, hF⟩ := b1_s hF
        refine cl_vi (As := []) (rest := [.int p2, .ref aS0]) (w' := (w_xshb ky aX aB aP aT aR aK aH aG aS aS0 aS1 aS2 aS3 aI0 aI1 aI2 aI3 ax au ay am sla ssz sit bsz bgp ber bxs bus bys bme)) ⟨hx, hb, hml, hown, hts⟩ hK hP hD hS hA (c_X0_size l D ky aB ax au ay am _ N  bsz bgp ber bxs bus bys bme  r11 h10) (cwV 0 hts gX8_check_X0_size rfl rfl rfl (by decide +kernel) ⟨Nat.le_of_ble_eq_true rfl, Nat.le_of_ble_eq_true rfl⟩) [10, 11, 12, 13, 14] [0, 1, 2, 3, 4, 5, 6, 7, 8, 9] [0, 1, 2, 3, 4, 5, 6, 7, 8, 9, 10, 11, 12, 13, 14] 0 0 rfl rfl rfl rfl (wr := [(aX, .inr (7, [.ref aB, .ref aP, .ref aT, .ref aR, .ref aK, .ref aH, .ref aG, .ref aS])), (aS, .inl (ky 3, 4, .inr (.inr (.inr (.inr (shf aS0 aS1 aS2 aS3)))))), (aS0, .inr (4, [.ref aI0, .int (sla 0), .int (ssz 0)])), (aI0, .inl (ky 0, 36, .inl (sit 0))), (aS1, .inr (4, [.ref aI1, .int (sla 1), .int (ssz 1)])), (aI1, .inl (ky 0, 36, .inl (sit 1))), (aS2, .inr (4, [.ref aI2, .int (sla 2), .int (ssz 2)])), (aI2, .inl (ky 0, 36, .inl (sit 2))), (aS3, .inr (4, [.ref aI3, .int (sla 3), .int (ssz 3)])), (aI3, .inl (ky 0, 36, .inl (sit 3)))]) rfl (by decide) rfl rfl hl.1 (Nat.le_of_ble_eq_true rfl) dX8_check_52 ⟨Nat.zero_le _, Nat.zero_le _⟩ (fun H locs hP hD hS => ?_)
        refine lv_iconst (v := (0 : Int32)) hx hb dX8_check_55 (by decide) ?_
        refine lv_bipush (v := (11 : Int32)) hx hb dX8_check_56 (by decide) ?_
        obtain ⟨r13, h12, hF⟩ := b1_s hF
        refine cl_vi (As := [.int p2, .int r11, .int (0 : Int32), .int (11 : Int32)]) (rest := []) (w' := (w_xshb ky aX aB aP aT aR aK aH aG aS aS0 aS1 aS2 aS3 aI0 aI1 aI2 aI3 ax au ay am sla ssz sit bsz bgp ber bxs bus bys bme)) ⟨hx, hb, hml, hown, hts⟩ hK hP hD hS hA (c_X5_allWithin l D ky aS0 aI0 _ N  (sla 0) (ssz 0) (sit 0) p2 r11 (0 : Int32) (11 : Int32) r13 h12) (cwV 4 hts gX8_check_X5_allWithin rfl rfl rfl (by decide +kernel) ⟨Nat.le_of_ble_eq_true rfl, Nat.le_of_ble_eq_true rfl⟩) [2, 3] [0, 1, 4, 5, 6, 7, 8, 9, 10, 11, 12, 13, 14] [0, 1, 13, 14, 2, 3, 4, 5, 6, 7, 8, 9, 10, 11, 12] 0 4 rfl rfl rfl rfl (wr := [(aX, .inr (7, [.ref aB, .ref aP, .ref aT, .ref aR, .ref aK, .ref aH, .ref aG, .ref aS])), (aS, .inl (ky 3, 4, .inr (.inr (.inr (.inr (shf aS0 aS1 aS2 aS3)))))), (aS1, .inr (4, [.ref aI1, .int (sla 1), .int (ssz 1)])), (aI1, .inl (ky 0, 36, .inl (sit 1))), (aS2, .inr (4, [.ref aI2, .int (sla 2), .int (ssz 2)])), (aI2, .inl (ky 0, 36, .inl (sit 2))), (aS3, .inr (4, [.ref aI3, .int (sla 3), .int (ssz 3)])), (aI3, .inl (ky 0, 36, .inl (sit 3))), (aB, .inr (0, [.ref ax, .ref au, .ref ay, .ref am, .int bsz, .int bgp, .int ber])), (ax, .inl (ky 0, 12, .inl bxs)), (au, .inl (ky 0, 12, .inl bus)), (ay, .inl (ky 0, 12, .inl bys)), (am, .inl (ky 0, 289, .inl bme))]) rfl (by decide) rfl rfl hl.1 (Nat.le_of_ble_eq_true rfl) dX8_check_58 ⟨Nat.zero_le _, Nat.zero_le _⟩ (fun H locs hP hD hS => ?_)
        refine lv_if_ne (tgt := 67) hx hb dX8_check_61 (by decide) (fun c14 => ?_) (fun c14 => ?_)
        · have hF := if_f c14 hF
          refine lv_iconst (v := (0 : Int32)) hx hb dX8_check_67 (by decide) ?_
          refine lv_istore (lv' := [(6, .int (0 : Int32)), (5, .int r8), (4, .ref aS0), (0, .ref aX), (1, .int p0), (2, .int p1), (3, .int p2)]) hx hb dX8_check_68 hl (by decide) rfl (fun ls hl => ?_)
          exact w_X8_check_70_s0 N C res hQ p2 N (0 : Int32) hF _ _ _ hP hD hS (lv_sub hl [3, 6, 2, 0] rfl)
        · have hF := if_t c14 hF
          refine lv_bipush (v := (-2 : Int32)) hx hb dX8_check_64 (by decide) ?_
          have hF := Option.some.inj hF
          subst hF
          exact hQ _ _ _ _ dX8_check_66 hP hD hS
      · have hF := if_f c9 hF
        refine lv_iload hx hb dX8_check_42 (lv_at hl 0 rfl) ?_
        have hF := Option.some.inj hF
        subst hF
        exact hQ _ _ _ _ dX8_check_44 hP hD hS
    · have hF := if_t c4 hF
      refine lv_iconst (v := (-1 : Int32)) hx hb dX8_check_19 (by decide) ?_
      have hF := Option.some.inj hF
      subst hF
      exact hQ _ _ _ _ dX8_check_20 hP hD hS
  · refine cl_vq (ro := (some aS1)) (As := [.int p0]) (rest := []) (w' := (w_xshb ky aX aB aP aT aR aK aH aG aS aS0 aS1 aS2 aS3 aI0 aI1 aI2 aI3 ax au ay am sla ssz sit bsz bgp ber bxs bus bys bme)) ⟨hx, hb, hml, hown, hts⟩ hK hP hD hS hA (c_X8_sheetAt l D ky aX aB aP aT aR aK aH aG aS aS0 aS1 aS2 aS3 _ p0 (some aS1) (Or.inr ⟨by rw [h1]; decide, by rw [h1]; rfl⟩)) (cwV 1 hts gX8_check_X8_sheetAt rfl rfl rfl (by decide +kernel) ⟨Nat.le_of_ble_eq_true rfl, Nat.le_of_ble_eq_true rfl⟩) [0, 1] [2, 3, 4, 5, 6, 7, 8, 9, 10, 11, 12, 13, 14] [13, 14, 0, 1, 2, 3, 4, 5, 6, 7, 8, 9, 10, 11, 12] 0 7 rfl rfl rfl rfl (wr := [(aS0, .inr (4, [.ref aI0, .int (sla 0), .int (ssz 0)])), (aI0, .inl (ky 0, 36, .inl (sit 0))), (aS1, .inr (4, [.ref aI1, .int (sla 1), .int (ssz 1)])), (aI1, .inl (ky 0, 36, .inl (sit 1))), (aS2, .inr (4, [.ref aI2, .int (sla 2), .int (ssz 2)])), (aI2, .inl (ky 0, 36, .inl (sit 2))), (aS3, .inr (4, [.ref aI3, .int (sla 3), .int (ssz 3)])), (aI3, .inl (ky 0, 36, .inl (sit 3))), (aB, .inr (0, [.ref ax, .ref au, .ref ay, .ref am, .int bsz, .int bgp, .int ber])), (ax, .inl (ky 0, 12, .inl bxs)), (au, .inl (ky 0, 12, .inl bus)), (ay, .inl (ky 0, 12, .inl bys)), (am, .inl (ky 0, 289, .inl bme))]) rfl (by decide) rfl rfl hl.1 (Nat.le_of_ble_eq_true rfl) dX8_check_2 ⟨Nat.zero_le _, Nat.zero_le _⟩ (fun H locs hP hD hS => ?_)
    refine lv_astore (lv' := [(4, .ref aS1), (0, .ref aX), (1, .int p0), (2, .int p1), (3, .int p2)]) hx hb dX8_check_5 hl (by decide) rfl (fun ls hl => ?_)
    refine lv_aload hx hb dX8_check_7 (lv_at hl 0 rfl) ?_
    refine lv_ifnull hx hb dX8_check_9 ?_
    refine lv_iload_n hx hb dX8_check_12 rfl (lv_at hl 3 rfl) ?_
    obtain ⟨r16, h15, hF⟩ := b1_s hF
    refine cl_si (As := [.int p1]) (rest := []) ⟨hx, hb, hml, hown, hts⟩ hK hP hD hS hA (c_X8_isLane l D ky  _ N   p1 r16 h15) (va_cwS 1 hts gX8_check_X8_isLane rfl rfl rfl (by decide +kernel) ⟨Nat.le_of_ble_eq_true rfl, Nat.le_of_ble_eq_true rfl⟩) rfl hl.1 (Nat.le_of_ble_eq_true rfl) dX8_check_13 ⟨Nat.zero_le _, Nat.zero_le _⟩ (fun H locs hP hD hS => ?_)
    refine lv_if_ne (tgt := 21) hx hb dX8_check_16 (by decide) (fun c17 => ?_) (fun c17 => ?_)
    · have hF := if_f c17 hF
      refine lv_aload hx hb dX8_check_21 (lv_at hl 0 rfl) ?_
      refine lv_iload_n hx hb dX8_check_23 rfl (lv_at hl 3 rfl) ?_
      refine lv_iload_n hx hb dX8_check_24 rfl (lv_at hl 4 rfl) ?_
      refine lv_aload_n hx hb dX8_check_25 rfl (lv_at hl 1 rfl) ?_
      refine va_get (D := D) (ci := 7) (v := .ref aB) (C := RX8) (T := TX8) (N := 8) hx hb hts iX8_check_X8 hown hK hP 0 rfl rfl 0 (by decide) (hts _ kX8_check_1) (fun _ h9 => h9) rfl dX8_check_26 ?_
      obtain ⟨r19, h18, hF⟩ := b1_s hF
      refine cl_vi (As := []) (rest := [.int p2, .int p1, .ref aS1]) (w' := (w_xshb ky aX aB aP aT aR aK aH aG aS aS0 aS1 aS2 aS3 aI0 aI1 aI2 aI3 ax au ay am sla ssz sit bsz bgp ber bxs bus bys bme)) ⟨hx, hb, hml, hown, hts⟩ hK hP hD hS hA (c_X0_size l D ky aB ax au ay am _ N  bsz bgp ber bxs bus bys bme  r19 h18) (cwV 0 hts gX8_check_X0_size rfl rfl rfl (by decide +kernel) ⟨Nat.le_of_ble_eq_true rfl, Nat.le_of_ble_eq_true rfl⟩) [10, 11, 12, 13, 14] [0, 1, 2, 3, 4, 5, 6, 7, 8, 9] [0, 1, 2, 3, 4, 5, 6, 7, 8, 9, 10, 11, 12, 13, 14] 0 0 rfl rfl rfl rfl (wr := [(aX, .inr (7, [.ref aB, .ref aP, .ref aT, .ref aR, .ref aK, .ref aH, .ref aG, .ref aS])), (aS, .inl (ky 3, 4, .inr (.inr (.inr (.inr (shf aS0 aS1 aS2 aS3)))))), (aS0, .inr (4, [.ref aI0, .int (sla 0), .int (ssz 0)])), (aI0, .inl (ky 0, 36, .inl (sit 0))), (aS1, .inr (4, [.ref aI1, .int (sla 1), .int (ssz 1)])), (aI1, .inl (ky 0, 36, .inl (sit 1))), (aS2, .inr (4, [.ref aI2, .int (sla 2), .int (ssz 2)])), (aI2, .inl (ky 0, 36, .inl (sit 2))), (aS3, .inr (4, [.ref aI3, .int (sla 3), .int (ssz 3)])), (aI3, .inl (ky 0, 36, .inl (sit 3)))]) rfl (by decide) rfl rfl hl.1 (Nat.le_of_ble_eq_true rfl) dX8_check_29 ⟨Nat.zero_le _, Nat.zero_le _⟩ (fun H locs hP hD hS => ?_)
      obtain ⟨r21, h20, hF⟩ := b1_s hF
      refine cl_vi (As := [.int p1, .int p2, .int r19]) (rest := []) (w' := (w_xshb ky aX aB aP aT aR aK aH aG aS aS0 aS1 aS2 aS3 aI0 aI1 aI2 aI3 ax au ay am sla ssz sit bsz bgp ber bxs bus bys bme)) ⟨hx, hb, hml, hown, hts⟩ hK hP hD hS hA (c_X5_refusal l D ky aS1 aI1 _ N  (sla 1) (ssz 1) (sit 1) p1 p2 r19 r21 h20) (cwV 3 hts gX8_check_X5_refusal rfl rfl rfl (by decide +kernel) ⟨Nat.le_of_ble_eq_true rfl, Nat.le_of_ble_eq_true rfl⟩) [4, 5] [0, 1, 2, 3, 6, 7, 8, 9, 10, 11, 12, 13, 14] [0, 1, 2, 3, 13, 14, 4, 5, 6, 7, 8, 9, 10, 11, 12] 0 4 rfl rfl rfl rfl (wr := [(aX, .inr (7, [.ref aB, .ref aP, .ref aT, .ref aR, .ref aK, .ref aH, .ref aG, .ref aS])), (aS, .inl (ky 3, 4, .inr (.inr (.inr (.inr (shf aS0 aS1 aS2 aS3)))))), (aS0, .inr (4, [.ref aI0, .int (sla 0), .int (ssz 0)])), (aI0, .inl (ky 0, 36, .inl (sit 0))), (aS2, .inr (4, [.ref aI2, .int (sla 2), .int (ssz 2)])), (aI2, .inl (ky 0, 36, .inl (sit 2))), (aS3, .inr (4, [.ref aI3, .int (sla 3), .int (ssz 3)])), (aI3, .inl (ky 0, 36, .inl (sit 3))), (aB, .inr (0, [.ref ax, .ref au, .ref ay, .ref am, .int bsz, .int bgp, .int ber])), (ax, .inl (ky 0, 12, .inl bxs)), (au, .inl (ky 0, 12, .inl bus)), (ay, .inl (ky 0, 12, .inl bys)), (am, .inl (ky 0, 289, .inl bme))]) rfl (by decide) rfl rfl hl.1 (Nat.le_of_ble_eq_true rfl) dX8_check_32 ⟨Nat.zero_le _, Nat.zero_le _⟩ (fun H locs hP hD hS => ?_)
      refine lv_istore (lv' := [(5, .int r21), (4, .ref aS1), (0, .ref aX), (1, .int p0), (2, .int p1), (3, .int p2)]) hx hb dX8_check_35 hl (by decide) rfl (fun ls hl => ?_)
      refine lv_iload hx hb dX8_check_37 (lv_at hl 0 rfl) ?_
      refine lv_if_ge (tgt := 45) hx hb dX8_check_39 (by decide) (fun c22 => ?_) (fun c22 => ?_)
      · have hF := if_t c22 hF
        refine lv_aload hx hb dX8_check_45 (lv_at hl 1 rfl) ?_
        refine lv_iload_n hx hb dX8_check_47 rfl (lv_at hl 5 rfl) ?_
        refine lv_aload_n hx hb dX8_check_48 rfl (lv_at hl 2 rfl) ?_
        refine va_get (D := D) (ci := 7) (v := .ref aB) (C := RX8) (T := TX8) (N := 8) hx hb hts iX8_check_X8 hown hK hP 0 rfl rfl 0 (by decide) (hts _ kX8_check_1) (fun _ h9 => h9) rfl dX8_check_49 ?_
        obtain ⟨r24, h23, hF⟩ := b1_s hF
        refine cl_vi (As := []) (rest := [.int p2, .ref aS1]) (w' := (w_xshb ky aX aB aP aT aR aK aH aG aS aS0 aS1 aS2 aS3 aI0 aI1 aI2 aI3 ax au ay am sla ssz sit bsz bgp ber bxs bus bys bme)) ⟨hx, hb, hml, hown, hts⟩ hK hP hD hS hA (c_X0_size l D ky aB ax au ay am _ N  bsz bgp ber bxs bus bys bme  r24 h23) (cwV 0 hts gX8_check_X0_size rfl rfl rfl (by decide +kernel) ⟨Nat.le_of_ble_eq_true rfl, Nat.le_of_ble_eq_true rfl⟩) [10, 11, 12, 13, 14] [0, 1, 2, 3, 4, 5, 6, 7, 8, 9] [0, 1, 2, 3, 4, 5, 6, 7, 8, 9, 10, 11, 12, 13, 14] 0 0 rfl rfl rfl rfl (wr := [(aX, .inr (7, [.ref aB, .ref aP, .ref aT, .ref aR, .ref aK, .ref aH, .ref aG, .ref aS])), (aS, .inl (ky 3, 4, .inr (.inr (.inr (.inr (shf aS0 aS1 aS2 aS3)))))), (aS0, .inr (4, [.ref aI0, .int (sla 0), .int (ssz 0)])), (aI0, .inl (ky 0, 36, .inl (sit 0))), (aS1, .inr (4, [.ref aI1, .int (sla 1), .int (ssz 1)])), (aI1, .inl (ky 0, 36, .inl (sit 1))), (aS2, .inr (4, [.ref aI2, .int (sla 2), .int (ssz 2)])), (aI2, .inl (ky 0, 36, .inl (sit 2))), (aS3, .inr (4, [.ref aI3, .int (sla 3), .int (ssz 3)])), (aI3, .inl (ky 0, 36, .inl (sit 3)))]) rfl (by decide) rfl rfl hl.1 (Nat.le_of_ble_eq_true rfl) dX8_check_52 ⟨Nat.zero_le _, Nat.zero_le _⟩ (fun H locs hP hD hS => ?_)
        refine lv_iconst (v := (0 : Int32)) hx hb dX8_check_55 (by decide) ?_
        refine lv_bipush (v := (11 : Int32)) hx hb dX8_check_56 (by decide) ?_
        obtain ⟨r26, h25, hF⟩ := b1_s hF
        refine cl_vi (As := [.int p2, .int r24, .int (0 : Int32), .int (11 : Int32)]) (rest := []) (w' := (w_xshb ky aX aB aP aT aR aK aH aG aS aS0 aS1 aS2 aS3 aI0 aI1 aI2 aI3 ax au ay am sla ssz sit bsz bgp ber bxs bus bys bme)) ⟨hx, hb, hml, hown, hts⟩ hK hP hD hS hA (c_X5_allWithin l D ky aS1 aI1 _ N  (sla 1) (ssz 1) (sit 1) p2 r24 (0 : Int32) (11 : Int32) r26 h25) (cwV 4 hts gX8_check_X5_allWithin rfl rfl rfl (by decide +kernel) ⟨Nat.le_of_ble_eq_true rfl, Nat.le_of_ble_eq_true rfl⟩) [4, 5] [0, 1, 2, 3, 6, 7, 8, 9, 10, 11, 12, 13, 14] [0, 1, 2, 3, 13, 14, 4, 5, 6, 7, 8, 9, 10, 11, 12] 0 4 rfl rfl rfl rfl (wr := [(aX, .inr (7, [.ref aB, .ref aP, .ref aT, .ref aR, .ref aK, .ref aH, .ref aG, .ref aS])), (aS, .inl (ky 3, 4, .inr (.inr (.inr (.inr (shf aS0 aS1 aS2 aS3)))))), (aS0, .inr (4, [.ref aI0, .int (sla 0), .int (ssz 0)])), (aI0, .inl (ky 0, 36, .inl (sit 0))), (aS2, .inr (4, [.ref aI2, .int (sla 2), .int (ssz 2)])), (aI2, .inl (ky 0, 36, .inl (sit 2))), (aS3, .inr (4, [.ref aI3, .int (sla 3), .int (ssz 3)])), (aI3, .inl (ky 0, 36, .inl (sit 3))), (aB, .inr (0, [.ref ax, .ref au, .ref ay, .ref am, .int bsz, .int bgp, .int ber])), (ax, .inl (ky 0, 12, .inl bxs)), (au, .inl (ky 0, 12, .inl bus)), (ay, .inl (ky 0, 12, .inl bys)), (am, .inl (ky 0, 289, .inl bme))]) rfl (by decide) rfl rfl hl.1 (Nat.le_of_ble_eq_true rfl) dX8_check_58 ⟨Nat.zero_le _, Nat.zero_le _⟩ (fun H locs hP hD hS => ?_)
        refine lv_if_ne (tgt := 67) hx hb dX8_check_61 (by decide) (fun c27 => ?_) (fun c27 => ?_)
        · have hF := if_f c27 hF
          refine lv_iconst (v := (0 : Int32)) hx hb dX8_check_67 (by decide) ?_
          refine lv_istore (lv' := [(6, .int (0 : Int32)), (5, .int r21), (4, .ref aS1), (0, .ref aX), (1, .int p0), (2, .int p1), (3, .int p2)]) hx hb dX8_check_68 hl (by decide) rfl (fun ls hl => ?_)
          exact w_X8_check_70_s1 N C res hQ p2 N (0 : Int32) hF _ _ _ hP hD hS (lv_sub hl [3, 6, 2, 0] rfl)
        · have hF := if_t c27 hF
          refine lv_bipush (v := (-2 : Int32)) hx hb dX8_check_64 (by decide) ?_
          have hF := Option.some.inj hF
          subst hF
          exact hQ _ _ _ _ dX8_check_66 hP hD hS
      · have hF := if_f c22 hF
        refine lv_iload hx hb dX8_check_42 (lv_at hl 0 rfl) ?_
        have hF := Option.some.inj hF
        subst hF
        exact hQ _ _ _ _ dX8_check_44 hP hD hS
    · have hF := if_t c17 hF
      refine lv_iconst (v := (-1 : Int32)) hx hb dX8_check_19 (by decide) ?_
      have hF := Option.some.inj hF
      subst hF
      exact hQ _ _ _ _ dX8_check_20 hP hD hS
  · refine cl_vq (ro := (some aS2)) (As := [.int p0]) (rest := []) (w' := (w_xshb ky aX aB aP aT aR aK aH aG aS aS0 aS1 aS2 aS3 aI0 aI1 aI2 aI3 ax au ay am sla ssz sit bsz bgp ber bxs bus bys bme)) ⟨hx, hb, hml, hown, hts⟩ hK hP hD hS hA (c_X8_sheetAt l D ky aX aB aP aT aR aK aH aG aS aS0 aS1 aS2 aS3 _ p0 (some aS2) (Or.inr ⟨by rw [h1]; decide, by rw [h1]; rfl⟩)) (cwV 1 hts gX8_check_X8_sheetAt rfl rfl rfl (by decide +kernel) ⟨Nat.le_of_ble_eq_true rfl, Nat.le_of_ble_eq_true rfl⟩) [0, 1] [2, 3, 4, 5, 6, 7, 8, 9, 10, 11, 12, 13, 14] [13, 14, 0, 1, 2, 3, 4, 5, 6, 7, 8, 9, 10, 11, 12] 0 7 rfl rfl rfl rfl (wr := [(aS0, .inr (4, [.ref aI0, .int (sla 0), .int (ssz 0)])), (aI0, .inl (ky 0, 36, .inl (sit 0))), (aS1, .inr (4, [.ref aI1, .int (sla 1), .int (ssz 1)])), (aI1, .inl (ky 0, 36, .inl (sit 1))), (aS2, .inr (4, [.ref aI2, .int (sla 2), .int (ssz 2)])), (aI2, .inl (ky 0, 36, .inl (sit 2))), (aS3, .inr (4, [.ref aI3, .int (sla 3), .int (ssz 3)])), (aI3, .inl (ky 0, 36, .inl (sit 3))), (aB, .inr (0, [.ref ax, .ref au, .ref ay, .ref am, .int bsz, .int bgp, .int ber])), (ax, .inl (ky 0, 12, .inl bxs)), (au, .inl (ky 0, 12, .inl bus)), (ay, .inl (ky 0, 12, .inl bys)), (am, .inl (ky 0, 289, .inl bme))]) rfl (by decide) rfl rfl hl.1 (Nat.le_of_ble_eq_true rfl) dX8_check_2 ⟨Nat.zero_le _, Nat.zero_le _⟩ (fun H locs hP hD hS => ?_)
    refine lv_astore (lv' := [(4, .ref aS2), (0, .ref aX), (1, .int p0), (2, .int p1), (3, .int p2)]) hx hb dX8_check_5 hl (by decide) rfl (fun ls hl => ?_)
    refine lv_aload hx hb dX8_check_7 (lv_at hl 0 rfl) ?_
    refine lv_ifnull hx hb dX8_check_9 ?_
    refine lv_iload_n hx hb dX8_check_12 rfl (lv_at hl 3 rfl) ?_
    obtain ⟨r29, h28, hF⟩ := b1_s hF
    refine cl_si (As := [.int p1]) (rest := []) ⟨hx, hb, hml, hown, hts⟩ hK hP hD hS hA (c_X8_isLane l D ky  _ N   p1 r29 h28) (va_cwS 1 hts gX8_check_X8_isLane rfl rfl rfl (by decide +kernel) ⟨Nat.le_of_ble_eq_true rfl, Nat.le_of_ble_eq_true rfl⟩) rfl hl.1 (Nat.le_of_ble_eq_true rfl) dX8_check_13 ⟨Nat.zero_le _, Nat.zero_le _⟩ (fun H locs hP hD hS => ?_)
    refine lv_if_ne (tgt := 21) hx hb dX8_check_16 (by decide) (fun c30 => ?_) (fun c30 => ?_)
    · have hF := if_f c30 hF
      refine lv_aload hx hb dX8_check_21 (lv_at hl 0 rfl) ?_
      refine lv_iload_n hx hb dX8_check_23 rfl (lv_at hl 3 rfl) ?_
      refine lv_iload_n hx hb dX8_check_24 rfl (lv_at hl 4 rfl) ?_
      refine lv_aload_n hx hb dX8_check_25 rfl (lv_at hl 1 rfl) ?_
      refine va_get (D := D) (ci := 7) (v := .ref aB) (C := RX8) (T := TX8) (N := 8) hx hb hts iX8_check_X8 hown hK hP 0 rfl rfl 0 (by decide) (hts _ kX8_check_1) (fun _ h9 => h9) rfl dX8_check_26 ?_
      obtain ⟨r32, h31, hF⟩ := b1_s hF
      refine cl_vi (As := []) (rest := [.int p2, .int p1, .ref aS2]) (w' := (w_xshb ky aX aB aP aT aR aK aH aG aS aS0 aS1 aS2 aS3 aI0 aI1 aI2 aI3 ax au ay am sla ssz sit bsz bgp ber bxs bus bys bme)) ⟨hx, hb, hml, hown, hts⟩ hK hP hD hS hA (c_X0_size l D ky aB ax au ay am _ N  bsz bgp ber bxs bus bys bme  r32 h31) (cwV 0 hts gX8_check_X0_size rfl rfl rfl (by decide +kernel) ⟨Nat.le_of_ble_eq_true rfl, Nat.le_of_ble_eq_true rfl⟩) [10, 11, 12, 13, 14] [0, 1, 2, 3, 4, 5, 6, 7, 8, 9] [0, 1, 2, 3, 4, 5, 6, 7, 8, 9, 10, 11, 12, 13, 14] 0 0 rfl rfl rfl rfl (wr := [(aX, .inr (7, [.ref aB, .ref aP, .ref aT, .ref aR, .ref aK, .ref aH, .ref aG, .ref aS])), (aS, .inl (ky 3, 4, .inr (.inr (.inr (.inr (shf aS0 aS1 aS2 aS3)))))), (aS0, .inr (4, [.ref aI0, .int (sla 0), .int (ssz 0)])), (aI0, .inl (ky 0, 36, .inl (sit 0))), (aS1, .inr (4, [.ref aI1, .int (sla 1), .int (ssz 1)])), (aI1, .inl (ky 0, 36, .inl (sit 1))), (aS2, .inr (4, [.ref aI2, .int (sla 2), .int (ssz 2)])), (aI2, .inl (ky 0, 36, .inl (sit 2))), (aS3, .inr (4, [.ref aI3, .int (sla 3), .int (ssz 3)])), (aI3, .inl (ky 0, 36, .inl (sit 3)))]) rfl (by decide) rfl rfl hl.1 (Nat.le_of_ble_eq_true rfl) dX8_check_29 ⟨Nat.zero_le _, Nat.zero_le _⟩ (fun H locs hP hD hS => ?_)
      obtain ⟨r34, h33, hF⟩ := b1_s hF
      refine cl_vi (As := [.int p1, .int p2, .int r32]) (rest := []) (w' := (w_xshb ky aX aB aP aT aR aK aH aG aS aS0 aS1 aS2 aS3 aI0 aI1 aI2 aI3 ax au ay am sla ssz sit bsz bgp ber bxs bus bys bme)) ⟨hx, hb, hml, hown, hts⟩ hK hP hD hS hA (c_X5_refusal l D ky aS2 aI2 _ N  (sla 2) (ssz 2) (sit 2) p1 p2 r32 r34 h33) (cwV 3 hts gX8_check_X5_refusal rfl rfl rfl (by decide +kernel) ⟨Nat.le_of_ble_eq_true rfl, Nat.le_of_ble_eq_true rfl⟩) [6, 7] [0, 1, 2, 3, 4, 5, 8, 9, 10, 11, 12, 13, 14] [0, 1, 2, 3, 4, 5, 13, 14, 6, 7, 8, 9, 10, 11, 12] 0 4 rfl rfl rfl rfl (wr := [(aX, .inr (7, [.ref aB, .ref aP, .ref aT, .ref aR, .ref aK, .ref aH, .ref aG, .ref aS])), (aS, .inl (ky 3, 4, .inr (.inr (.inr (.inr (shf aS0 aS1 aS2 aS3)))))), (aS0, .inr (4, [.ref aI0, .int (sla 0), .int (ssz 0)])), (aI0, .inl (ky 0, 36, .inl (sit 0))), (aS1, .inr (4, [.ref aI1, .int (sla 1), .int (ssz 1)])), (aI1, .inl (ky 0, 36, .inl (sit 1))), (aS3, .inr (4, [.ref aI3, .int (sla 3), .int (ssz 3)])), (aI3, .inl (ky 0, 36, .inl (sit 3))), (aB, .inr (0, [.ref ax, .ref au, .ref ay, .ref am, .int bsz, .int bgp, .int ber])), (ax, .inl (ky 0, 12, .inl bxs)), (au, .inl (ky 0, 12, .inl bus)), (ay, .inl (ky 0, 12, .inl bys)), (am, .inl (ky 0, 289, .inl bme))]) rfl (by decide) rfl rfl hl.1 (Nat.le_of_ble_eq_true rfl) dX8_check_32 ⟨Nat.zero_le _, Nat.zero_le _⟩ (fun H locs hP hD hS => ?_)
      refine lv_istore (lv' := [(5, .int r34), (4, .ref aS2), (0, .ref aX), (1, .int p0), (2, .int p1), (3, .int p2)]) hx hb dX8_check_35 hl (by decide) rfl (fun ls hl => ?_)
      refine lv_iload hx hb dX8_check_37 (lv_at hl 0 rfl) ?_
      refine lv_if_ge (tgt := 45) hx hb dX8_check_39 (by decide) (fun c35 => ?_) (fun c35 => ?_)
      · have hF := if_t c35 hF
        refine lv_aload hx hb dX8_check_45 (lv_at hl 1 rfl) ?_
        refine lv_iload_n hx hb dX8_check_47 rfl (lv_at hl 5 rfl) ?_
        refine lv_aload_n hx hb dX8_check_48 rfl (lv_at hl 2 rfl) ?_
        refine va_get (D := D) (ci := 7) (v := .ref aB) (C := RX8) (T := TX8) (N := 8) hx hb hts iX8_check_X8 hown hK hP 0 rfl rfl 0 (by decide) (hts _ kX8_check_1) (fun _ h9 => h9) rfl dX8_check_49 ?_
        obtain ⟨r37, h36, hF⟩ := b1_s hF
        refine cl_vi (As := []) (rest := [.int p2, .ref aS2]) (w' := (w_xshb ky aX aB aP aT aR aK aH aG aS aS0 aS1 aS2 aS3 aI0 aI1 aI2 aI3 ax au ay am sla ssz sit bsz bgp ber bxs bus bys bme)) ⟨hx, hb, hml, hown, hts⟩ hK hP hD hS hA (c_X0_size l D ky aB ax au ay am _ N  bsz bgp ber bxs bus bys bme  r37 h36) (cwV 0 hts gX8_check_X0_size rfl rfl rfl (by decide +kernel) ⟨Nat.le_of_ble_eq_true rfl, Nat.le_of_ble_eq_true rfl⟩) [10, 11, 12, 13, 14] [0, 1, 2, 3, 4, 5, 6, 7, 8, 9] [0, 1, 2, 3, 4, 5, 6, 7, 8, 9, 10, 11, 12, 13, 14] 0 0 rfl rfl rfl rfl (wr := [(aX, .inr (7, [.ref aB, .ref aP, .ref aT, .ref aR, .ref aK, .ref aH, .ref aG, .ref aS])), (aS, .inl (ky 3, 4, .inr (.inr (.inr (.inr (shf aS0 aS1 aS2 aS3)))))), (aS0, .inr (4, [.ref aI0, .int (sla 0), .int (ssz 0)])), (aI0, .inl (ky 0, 36, .inl (sit 0))), (aS1, .inr (4, [.ref aI1, .int (sla 1), .int (ssz 1)])), (aI1, .inl (ky 0, 36, .inl (sit 1))), (aS2, .inr (4, [.ref aI2, .int (sla 2), .int (ssz 2)])), (aI2, .inl (ky 0, 36, .inl (sit 2))), (aS3, .inr (4, [.ref aI3, .int (sla 3), .int (ssz 3)])), (aI3, .inl (ky 0, 36, .inl (sit 3)))]) rfl (by decide) rfl rfl hl.1 (Nat.le_of_ble_eq_true rfl) dX8_check_52 ⟨Nat.zero_le _, Nat.zero_le _⟩ (fun H locs hP hD hS => ?_)
        refine lv_iconst (v := (0 : Int32)) hx hb dX8_check_55 (by decide) ?_
        refine lv_bipush (v := (11 : Int32)) hx hb dX8_check_56 (by decide) ?_
        obtain ⟨r39, h38, hF⟩ := b1_s hF
        refine cl_vi (As := [.int p2, .int r37, .int (0 : Int32), .int (11 : Int32)]) (rest := []) (w' := (w_xshb ky aX aB aP aT aR aK aH aG aS aS0 aS1 aS2 aS3 aI0 aI1 aI2 aI3 ax au ay am sla ssz sit bsz bgp ber bxs bus bys bme)) ⟨hx, hb, hml, hown, hts⟩ hK hP hD hS hA (c_X5_allWithin l D ky aS2 aI2 _ N  (sla 2) (ssz 2) (sit 2) p2 r37 (0 : Int32) (11 : Int32) r39 h38) (cwV 4 hts gX8_check_X5_allWithin rfl rfl rfl (by decide +kernel) ⟨Nat.le_of_ble_eq_true rfl, Nat.le_of_ble_eq_true rfl⟩) [6, 7] [0, 1, 2, 3, 4, 5, 8, 9, 10, 11, 12, 13, 14] [0, 1, 2, 3, 4, 5, 13, 14, 6, 7, 8, 9, 10, 11, 12] 0 4 rfl rfl rfl rfl (wr := [(aX, .inr (7, [.ref aB, .ref aP, .ref aT, .ref aR, .ref aK, .ref aH, .ref aG, .ref aS])), (aS, .inl (ky 3, 4, .inr (.inr (.inr (.inr (shf aS0 aS1 aS2 aS3)))))), (aS0, .inr (4, [.ref aI0, .int (sla 0), .int (ssz 0)])), (aI0, .inl (ky 0, 36, .inl (sit 0))), (aS1, .inr (4, [.ref aI1, .int (sla 1), .int (ssz 1)])), (aI1, .inl (ky 0, 36, .inl (sit 1))), (aS3, .inr (4, [.ref aI3, .int (sla 3), .int (ssz 3)])), (aI3, .inl (ky 0, 36, .inl (sit 3))), (aB, .inr (0, [.ref ax, .ref au, .ref ay, .ref am, .int bsz, .int bgp, .int ber])), (ax, .inl (ky 0, 12, .inl bxs)), (au, .inl (ky 0, 12, .inl bus)), (ay, .inl (ky 0, 12, .inl bys)), (am, .inl (ky 0, 289, .inl bme))]) rfl (by decide) rfl rfl hl.1 (Nat.le_of_ble_eq_true rfl) dX8_check_58 ⟨Nat.zero_le _, Nat.zero_le _⟩ (fun H locs hP hD hS => ?_)
        refine lv_if_ne (tgt := 67) hx hb dX8_check_61 (by decide) (fun c40 => ?_) (fun c40 => ?_)
        · have hF := if_f c40 hF
          refine lv_iconst (v := (0 : Int32)) hx hb dX8_check_67 (by decide) ?_
          refine lv_istore (lv' := [(6, .int (0 : Int32)), (5, .int r34), (4, .ref aS2), (0, .ref aX), (1, .int p0), (2, .int p1), (3, .int p2)]) hx hb dX8_check_68 hl (by decide) rfl (fun ls hl => ?_)
          exact w_X8_check_70_s2 N C res hQ p2 N (0 : Int32) hF _ _ _ hP hD hS (lv_sub hl [3, 6, 2, 0] rfl)
        · have hF := if_t c40 hF
          refine lv_bipush (v := (-2 : Int32)) hx hb dX8_check_64 (by decide) ?_
          have hF := Option.some.inj hF
          subst hF
          exact hQ _ _ _ _ dX8_check_66 hP hD hS
      · have hF := if_f c35 hF
        refine lv_iload hx hb dX8_check_42 (lv_at hl 0 rfl) ?_
        have hF := Option.some.inj hF
        subst hF
        exact hQ _ _ _ _ dX8_check_44 hP hD hS
    · have hF := if_t c30 hF
      refine lv_iconst (v := (-1 : Int32)) hx hb dX8_check_19 (by decide) ?_
      have hF := Option.some.inj hF
      subst hF
      exact hQ _ _ _ _ dX8_check_20 hP hD hS
  · refine cl_vq (ro := (some aS3)) (As := [.int p0]) (rest := []) (w' := (w_xshb ky aX aB aP aT aR aK aH aG aS aS0 aS1 aS2 aS3 aI0 aI1 aI2 aI3 ax au ay am sla ssz sit bsz bgp ber bxs bus bys bme)) ⟨hx, hb, hml, hown, hts⟩ hK hP hD hS hA (c_X8_sheetAt l D ky aX aB aP aT aR aK aH aG aS aS0 aS1 aS2 aS3 _ p0 (some aS3) (Or.inr ⟨by rw [h1]; decide, by rw [h1]; rfl⟩)) (cwV 1 hts gX8_check_X8_sheetAt rfl rfl rfl (by decide +kernel) ⟨Nat.le_of_ble_eq_true rfl, Nat.le_of_ble_eq_true rfl⟩) [0, 1] [2, 3, 4, 5, 6, 7, 8, 9, 10, 11, 12, 13, 14] [13, 14, 0, 1, 2, 3, 4, 5, 6, 7, 8, 9, 10, 11, 12] 0 7 rfl rfl rfl rfl (wr := [(aS0, .inr (4, [.ref aI0, .int (sla 0), .int (ssz 0)])), (aI0, .inl (ky 0, 36, .inl (sit 0))), (aS1, .inr (4, [.ref aI1, .int (sla 1), .int (ssz 1)])), (aI1, .inl (ky 0, 36, .inl (sit 1))), (aS2, .inr (4, [.ref aI2, .int (sla 2), .int (ssz 2)])), (aI2, .inl (ky 0, 36, .inl (sit 2))), (aS3, .inr (4, [.ref aI3, .int (sla 3), .int (ssz 3)])), (aI3, .inl (ky 0, 36, .inl (sit 3))), (aB, .inr (0, [.ref ax, .ref au, .ref ay, .ref am, .int bsz, .int bgp, .int ber])), (ax, .inl (ky 0, 12, .inl bxs)), (au, .inl (ky 0, 12, .inl bus)), (ay, .inl (ky 0, 12, .inl bys)), (am, .inl (ky 0, 289, .inl bme))]) rfl (by decide) rfl rfl hl.1 (Nat.le_of_ble_eq_true rfl) dX8_check_2 ⟨Nat.zero_le _, Nat.zero_le _⟩ (fun H locs hP hD hS => ?_)
    refine lv_astore (lv' := [(4, .ref aS3), (0, .ref aX), (1, .int p0), (2, .int p1), (3, .int p2)]) hx hb dX8_check_5 hl (by decide) rfl (fun ls hl => ?_)
    refine lv_aload hx hb dX8_check_7 (lv_at hl 0 rfl) ?_
    refine lv_ifnull hx hb dX8_check_9 ?_
    refine lv_iload_n hx hb dX8_check_12 rfl (lv_at hl 3 rfl) ?_
    obtain ⟨r42, h41, hF⟩ := b1_s hF
    refine cl_si (As := [.int p1]) (rest := []) ⟨hx, hb, hml, hown, hts⟩ hK hP hD hS hA (c_X8_isLane l D ky  _ N   p1 r42 h41) (va_cwS 1 hts gX8_check_X8_isLane rfl rfl rfl (by decide +kernel) ⟨Nat.le_of_ble_eq_true rfl, Nat.le_of_ble_eq_true rfl⟩) rfl hl.1 (Nat.le_of_ble_eq_true rfl) dX8_check_13 ⟨Nat.zero_le _, Nat.zero_le _⟩ (fun H locs hP hD hS => ?_)
    refine lv_if_ne (tgt := 21) hx hb dX8_check_16 (by decide) (fun c43 => ?_) (fun c43 => ?_)
    · have hF := if_f c43 hF
      refine lv_aload hx hb dX8_check_21 (lv_at hl 0 rfl) ?_
      refine lv_iload_n hx hb dX8_check_23 rfl (lv_at hl 3 rfl) ?_
      refine lv_iload_n hx hb dX8_check_24 rfl (lv_at hl 4 rfl) ?_
      refine lv_aload_n hx hb dX8_check_25 rfl (lv_at hl 1 rfl) ?_
      refine va_get (D := D) (ci := 7) (v := .ref aB) (C := RX8) (T := TX8) (N := 8) hx hb hts iX8_check_X8 hown hK hP 0 rfl rfl 0 (by decide) (hts _ kX8_check_1) (fun _ h9 => h9) rfl dX8_check_26 ?_
      obtain ⟨r45, h44, hF⟩ := b1_s hF
      refine cl_vi (As := []) (rest := [.int p2, .int p1, .ref aS3]) (w' := (w_xshb ky aX aB aP aT aR aK aH aG aS aS0 aS1 aS2 aS3 aI0 aI1 aI2 aI3 ax au ay am sla ssz sit bsz bgp ber bxs bus bys bme)) ⟨hx, hb, hml, hown, hts⟩ hK hP hD hS hA (c_X0_size l D ky aB ax au ay am _ N  bsz bgp ber bxs bus bys bme  r45 h44) (cwV 0 hts gX8_check_X0_size rfl rfl rfl (by decide +kernel) ⟨Nat.le_of_ble_eq_true rfl, Nat.le_of_ble_eq_true rfl⟩) [10, 11, 12, 13, 14] [0, 1, 2, 3, 4, 5, 6, 7, 8, 9] [0, 1, 2, 3, 4, 5, 6, 7, 8, 9, 10, 11, 12, 13, 14] 0 0 rfl rfl rfl rfl (wr := [(aX, .inr (7, [.ref aB, .ref aP, .ref aT, .ref aR, .ref aK, .ref aH, .ref aG, .ref aS])), (aS, .inl (ky 3, 4, .inr (.inr (.inr (.inr (shf aS0 aS1 aS2 aS3)))))), (aS0, .inr (4, [.ref aI0, .int (sla 0), .int (ssz 0)])), (aI0, .inl (ky 0, 36, .inl (sit 0))), (aS1, .inr (4, [.ref aI1, .int (sla 1), .int (ssz 1)])), (aI1, .inl (ky 0, 36, .inl (sit 1))), (aS2, .inr (4, [.ref aI2, .int (sla 2), .int (ssz 2)])), (aI2, .inl (ky 0, 36, .inl (sit 2))), (aS3, .inr (4, [.ref aI3, .int (sla 3), .int (ssz 3)])), (aI3, .inl (ky 0, 36, .inl (sit 3)))]) rfl (by decide) rfl rfl hl.1 (Nat.le_of_ble_eq_true rfl) dX8_check_29 ⟨Nat.zero_le _, Nat.zero_le _⟩ (fun H locs hP hD hS => ?_)
      obtain ⟨r47, h46, hF⟩ := b1_s hF
      refine cl_vi (As := [.int p1, .int p2, .int r45]) (rest := []) (w' := (w_xshb ky aX aB aP aT aR aK aH aG aS aS0 aS1 aS2 aS3 aI0 aI1 aI2 aI3 ax au ay am sla ssz sit bsz bgp ber bxs bus bys bme)) ⟨hx, hb, hml, hown, hts⟩ hK hP hD hS hA (c_X5_refusal l D ky aS3 aI3 _ N  (sla 3) (ssz 3) (sit 3) p1 p2 r45 r47 h46) (cwV 3 hts gX8_check_X5_refusal rfl rfl rfl (by decide +kernel) ⟨Nat.le_of_ble_eq_true rfl, Nat.le_of_ble_eq_true rfl⟩) [8, 9] [0, 1, 2, 3, 4, 5, 6, 7, 10, 11, 12, 13, 14] [0, 1, 2, 3, 4, 5, 6, 7, 13, 14, 8, 9, 10, 11, 12] 0 4 rfl rfl rfl rfl (wr := [(aX, .inr (7, [.ref aB, .ref aP, .ref aT, .ref aR, .ref aK, .ref aH, .ref aG, .ref aS])), (aS, .inl (ky 3, 4, .inr (.inr (.inr (.inr (shf aS0 aS1 aS2 aS3)))))), (aS0, .inr (4, [.ref aI0, .int (sla 0), .int (ssz 0)])), (aI0, .inl (ky 0, 36, .inl (sit 0))), (aS1, .inr (4, [.ref aI1, .int (sla 1), .int (ssz 1)])), (aI1, .inl (ky 0, 36, .inl (sit 1))), (aS2, .inr (4, [.ref aI2, .int (sla 2), .int (ssz 2)])), (aI2, .inl (ky 0, 36, .inl (sit 2))), (aB, .inr (0, [.ref ax, .ref au, .ref ay, .ref am, .int bsz, .int bgp, .int ber])), (ax, .inl (ky 0, 12, .inl bxs)), (au, .inl (ky 0, 12, .inl bus)), (ay, .inl (ky 0, 12, .inl bys)), (am, .inl (ky 0, 289, .inl bme))]) rfl (by decide) rfl rfl hl.1 (Nat.le_of_ble_eq_true rfl) dX8_check_32 ⟨Nat.zero_le _, Nat.zero_le _⟩ (fun H locs hP hD hS => ?_)
      refine lv_istore (lv' := [(5, .int r47), (4, .ref aS3), (0, .ref aX), (1, .int p0), (2, .int p1), (3, .int p2)]) hx hb dX8_check_35 hl (by decide) rfl (fun ls hl => ?_)
      refine lv_iload hx hb dX8_check_37 (lv_at hl 0 rfl) ?_
      refine lv_if_ge (tgt := 45) hx hb dX8_check_39 (by decide) (fun c48 => ?_) (fun c48 => ?_)
      · have hF := if_t c48 hF
        refine lv_aload hx hb dX8_check_45 (lv_at hl 1 rfl) ?_
        refine lv_iload_n hx hb dX8_check_47 rfl (lv_at hl 5 rfl) ?_
        refine lv_aload_n hx hb dX8_check_48 rfl (lv_at hl 2 rfl) ?_
        refine va_get (D := D) (ci := 7) (v := .ref aB) (C := RX8) (T := TX8) (N := 8) hx hb hts iX8_check_X8 hown hK hP 0 rfl rfl 0 (by decide) (hts _ kX8_check_1) (fun _ h9 => h9) rfl dX8_check_49 ?_
        obtain ⟨r50, h49, hF⟩ := b1_s hF
        refine cl_vi (As := []) (rest := [.int p2, .ref aS3]) (w' := (w_xshb ky aX aB aP aT aR aK aH aG aS aS0 aS1 aS2 aS3 aI0 aI1 aI2 aI3 ax au ay am sla ssz sit bsz bgp ber bxs bus bys bme)) ⟨hx, hb, hml, hown, hts⟩ hK hP hD hS hA (c_X0_size l D ky aB ax au ay am _ N  bsz bgp ber bxs bus bys bme  r50 h49) (cwV 0 hts gX8_check_X0_size rfl rfl rfl (by decide +kernel) ⟨Nat.le_of_ble_eq_true rfl, Nat.le_of_ble_eq_true rfl⟩) [10, 11, 12, 13, 14] [0, 1, 2, 3, 4, 5, 6, 7, 8, 9] [0, 1, 2, 3, 4, 5, 6, 7, 8, 9, 10, 11, 12, 13, 14] 0 0 rfl rfl rfl rfl (wr := [(aX, .inr (7, [.ref aB, .ref aP, .ref aT, .ref aR, .ref aK, .ref aH, .ref aG, .ref aS])), (aS, .inl (ky 3, 4, .inr (.inr (.inr (.inr (shf aS0 aS1 aS2 aS3)))))), (aS0, .inr (4, [.ref aI0, .int (sla 0), .int (ssz 0)])), (aI0, .inl (ky 0, 36, .inl (sit 0))), (aS1, .inr (4, [.ref aI1, .int (sla 1), .int (ssz 1)])), (aI1, .inl (ky 0, 36, .inl (sit 1))), (aS2, .inr (4, [.ref aI2, .int (sla 2), .int (ssz 2)])), (aI2, .inl (ky 0, 36, .inl (sit 2))), (aS3, .inr (4, [.ref aI3, .int (sla 3), .int (ssz 3)])), (aI3, .inl (ky 0, 36, .inl (sit 3)))]) rfl (by decide) rfl rfl hl.1 (Nat.le_of_ble_eq_true rfl) dX8_check_52 ⟨Nat.zero_le _, Nat.zero_le _⟩ (fun H locs hP hD hS => ?_)
        refine lv_iconst (v := (0 : Int32)) hx hb dX8_check_55 (by decide) ?_
        refine lv_bipush (v := (11 : Int32)) hx hb dX8_check_56 (by decide) ?_
        obtain ⟨r52, h51, hF⟩ := b1_s hF
        refine cl_vi (As := [.int p2, .int r50, .int (0 : Int32), .int (11 : Int32)]) (rest := []) (w' := (w_xshb ky aX aB aP aT aR aK aH aG aS aS0 aS1 aS2 aS3 aI0 aI1 aI2 aI3 ax au ay am sla ssz sit bsz bgp ber bxs bus bys bme)) ⟨hx, hb, hml, hown, hts⟩ hK hP hD hS hA (c_X5_allWithin l D ky aS3 aI3 _ N  (sla 3) (ssz 3) (sit 3) p2 r50 (0 : Int32) (11 : Int32) r52 h51) (cwV 4 hts gX8_check_X5_allWithin rfl rfl rfl (by decide +kernel) ⟨Nat.le_of_ble_eq_true rfl, Nat.le_of_ble_eq_true rfl⟩) [8, 9] [0, 1, 2, 3, 4, 5, 6, 7, 10, 11, 12, 13, 14] [0, 1, 2, 3, 4, 5, 6, 7, 13, 14, 8, 9, 10, 11, 12] 0 4 rfl rfl rfl rfl (wr := [(aX, .inr (7, [.ref aB, .ref aP, .ref aT, .ref aR, .ref aK, .ref aH, .ref aG, .ref aS])), (aS, .inl (ky 3, 4, .inr (.inr (.inr (.inr (shf aS0 aS1 aS2 aS3)))))), (aS0, .inr (4, [.ref aI0, .int (sla 0), .int (ssz 0)])), (aI0, .inl (ky 0, 36, .inl (sit 0))), (aS1, .inr (4, [.ref aI1, .int (sla 1), .int (ssz 1)])), (aI1, .inl (ky 0, 36, .inl (sit 1))), (aS2, .inr (4, [.ref aI2, .int (sla 2), .int (ssz 2)])), (aI2, .inl (ky 0, 36, .inl (sit 2))), (aB, .inr (0, [.ref ax, .ref au, .ref ay, .ref am, .int bsz, .int bgp, .int ber])), (ax, .inl (ky 0, 12, .inl bxs)), (au, .inl (ky 0, 12, .inl bus)), (ay, .inl (ky 0, 12, .inl bys)), (am, .inl (ky 0, 289, .inl bme))]) rfl (by decide) rfl rfl hl.1 (Nat.le_of_ble_eq_true rfl) dX8_check_58 ⟨Nat.zero_le _, Nat.zero_le _⟩ (fun H locs hP hD hS => ?_)
        refine lv_if_ne (tgt := 67) hx hb dX8_check_61 (by decide) (fun c53 => ?_) (fun c53 => ?_)
        · have hF := if_f c53 hF
          refine lv_iconst (v := (0 : Int32)) hx hb dX8_check_67 (by decide) ?_
          refine lv_istore (lv' := [(6, .int (0 : Int32)), (5, .int r47), (4, .ref aS3), (0, .ref aX), (1, .int p0), (2, .int p1), (3, .int p2)]) hx hb dX8_check_68 hl (by decide) rfl (fun ls hl => ?_)
          exact w_X8_check_70_s3 N C res hQ p2 N (0 : Int32) hF _ _ _ hP hD hS (lv_sub hl [3, 6, 2, 0] rfl)
        · have hF := if_t c53 hF
          refine lv_bipush (v := (-2 : Int32)) hx hb dX8_check_64 (by decide) ?_
          have hF := Option.some.inj hF
          subst hF
          exact hQ _ _ _ _ dX8_check_66 hP hD hS
      · have hF := if_f c48 hF
        refine lv_iload hx hb dX8_check_42 (lv_at hl 0 rfl) ?_
        have hF := Option.some.inj hF
        subst hF
        exact hQ _ _ _ _ dX8_check_44 hP hD hS
    · have hF := if_t c43 hF
      refine lv_iconst (v := (-1 : Int32)) hx hb dX8_check_19 (by decide) ?_
      have hF := Option.some.inj hF
      subst hF
      exact hQ _ _ _ _ dX8_check_20 hP hD hS
theorem c_X8_check (l : Launch) (D : va_G) (ky : Nat → ClassId) (aX aB aP aT aR aK aH aG aS aS0 aS1 aS2 aS3 aI0 aI1 aI2 aI3 ax au ay am : Nat) (sz N : Nat)  (sla : Nat → Int32) (ssz : Nat → Int32) (sit : Nat → Nat → Int32) (bsz : Int32) (bgp : Int32) (ber : Int32) (bxs : Nat → Int32) (bus : Nat → Int32) (bys : Nat → Int32) (bme : Nat → Int32) (p0 : Int32) (p1 : Int32) (p2 : Int32) (rv : Int32) (hF : f_X8_check N p0 p1 p2 sla ssz sit bsz bme = some (rv)) : MI l yX8_check wsX8_check rm_X8_check D ky sz [.ref aX, .int p0, .int p1, .int p2] (w_xshb ky aX aB aP aT aR aK aH aG aS aS0 aS1 aS2 aS3 aI0 aI1 aI2 aI3 ax au ay am sla ssz sit bsz bgp ber bxs bus bys bme) (w_xshb ky aX aB aP aT aR aK aH aG aS aS0 aS1 aS2 aS3 aI0 aI1 aI2 aI3 ax au ay am sla ssz sit bsz bgp ber bxs bus bys bme) rv :=
  cr_X8_check l D ky aX aB aP aT aR aK aH aG aS aS0 aS1 aS2 aS3 aI0 aI1 aI2 aI3 ax au ay am sz N sla ssz sit bsz bgp ber bxs bus bys bme p0 p1 p2 (rv) hF
