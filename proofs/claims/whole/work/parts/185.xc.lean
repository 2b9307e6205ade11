def f_X8_copy (N : Nat) (p0 : Int32) (p1 : Int32) (p2 : Int32) (p3 : Int32) (p4 : Int32) (sla : Nat → Int32) (ssz : Nat → Int32) (sit : Nat → Nat → Int32) : Option (Int32 × (Nat → Nat → Int32)) :=
  sh5 p0 (fun k1 => sh5 p2 (fun k2 => b1 (f_X5_isNothing N (sla k1)) (fun r5 => (if r5 = 0 then b1 (f_X5_isNothing N (sla k2)) (fun r8 => (if r8 = 0 then b1 (f_X5_laneNow N (sla k1)) (fun r11 => b1 (f_X5_laneNow N (sla k2)) (fun r13 => (if r11 = r13 then b1 (f_X5_covers N p1 p4 (ssz k1)) (fun r16 => (if r16 = 0 then some ((-13 : Int32), sit) else b1 (f_X5_covers N p3 p4 (ssz k2)) (fun r19 => (if r19 = 0 then some ((-13 : Int32), sit) else b1 (f_X5_take_two N p3 p1 p4 (ssz k2) (sit k2) (ssz k1) (sit k1)) (fun v22 => some (p4, (va_up sit k2 v22))))))) else some ((-12 : Int32), sit)))) else some ((-11 : Int32), sit))) else some ((-11 : Int32), sit)))) (some ((-1 : Int32), sit))) (sh5 p2 (fun k2 => some ((-1 : Int32), sit)) (some ((-1 : Int32), sit)))
abbrev rm_X8_copy : Room := { frames := 2, cells := 0, slots := 0, locals := 64 }
set_option maxHeartbeats 4000000 in
set_option maxRecDepth 100000 in
theorem cr_X8_copy (l : Launch) (D : va_G) (ky : Nat → ClassId) (aX aB aP aT aR aK aH aG aS aS0 aS1 aS2 aS3 aI0 aI1 aI2 aI3 : Nat) (sz N : Nat)  (sla : Nat → Int32) (ssz : Nat → Int32) (sit : Nat → Nat → Int32) (p0 : Int32) (p1 : Int32) (p2 : Int32) (p3 : Int32) (p4 : Int32) (res : Int32 × (Nat → Nat → Int32)) (hF : f_X8_copy N p0 p1 p2 p3 p4 sla ssz sit = some res) : MI l yX8_copy wsX8_copy rm_X8_copy D ky sz [.ref aX, .int p0, .int p1, .int p2, .int p3, .int p4] (w_xsh ky aX aB aP aT aR aK aH aG aS aS0 aS1 aS2 aS3 aI0 aI1 aI2 aI3 sla ssz sit) (w_xsh ky aX aB aP aT aR aK aH aG aS aS0 aS1 aS2 aS3 aI0 aI1 aI2 aI3 sla ssz res.2) res.1 := by
  unfold MI
  refine Met.ofW (cc := cX8_copy) (maxL := 8) (ret := (some .int)) (by decide) rfl ?_
  intro p e s m args below meth c s₁ B hml hv
  obtain ⟨rfl, hsz, hP, hK, hD0⟩ := hv
  have hx := B.exec
  have hb := B.bytes
  have hr := B.returns
  have hts := atoms_spec (ws := wsX8_copy) B.pre
  have hown : s.vm.findClass RX8 = some m.cls := findClass_of_methodNamed B.named
  have hlocks := B.notSynchronized
  subst hsz
  have hD := hD0.self (sz := s.heap.size)
  generalize hAe : va_A (w_xsh ky aX aB aP aT aR aK aH aG aS aS0 aS1 aS2 aS3 aI0 aI1 aI2 aI3 sla ssz sit) s.heap.size = A at hD ⊢
  have hA : ∀ q : Nat, s.heap.size ≤ q → A q := fun q h => by rw [← hAe]; exact Or.inr h
  have hS : va_S A s.heap s.heap [] := va_S.rf
  have hP : va_P D vwCl (w_xsh ky aX aB aP aT aR aK aH aG aS aS0 aS1 aS2 aS3 aI0 aI1 aI2 aI3 sla ssz sit) s.heap := hP
  have hl := lv_entry ([.ref aX, .int p0, .int p1, .int p2, .int p3, .int p4]) (n := 8) (Nat.le_of_ble_eq_true rfl)
  rw [lg_entry_eq]
  generalize (lg_sl ([.ref aX, .int p0, .int p1, .int p2, .int p3, .int p4]) ++ List.replicate (8 - (lg_sl ([.ref aX, .int p0, .int p1, .int p2, .int p3, .int p4])).length) Slot.unset).toArray = ls at hl ⊢
  have hl : lv_has ls 8 [(0, .ref aX), (1, .int p0), (2, .int p1), (3, .int p2), (4, .int p3), (5, .int p4)] := hl
  have C : cx p s m c ([.ref aX, .int p0, .int p1, .int p2, .int p3, .int p4]).toArray D ky A cX8_copy 8 wsX8_copy RX8 := ⟨hx, hb, hml, hown, hts, hK, hA⟩
  have hQ : ∀ (pc : Nat) (H : Heap) (locs : List Loc) (ls : Array Slot), decode cX8_copy pc = .ok (.ireturn, 1) → va_P D vwCl (w_xsh ky aX aB aP aT aR aK aH aG aS aS0 aS1 aS2 aS3 aI0 aI1 aI2 aI3 sla ssz res.2) H → va_D A (w_xsh ky aX aB aP aT aR aK aH aG aS aS0 aS1 aS2 aS3 aI0 aI1 aI2 aI3 sla ssz res.2) → va_S A s.heap H locs → W p l e rm_X8_copy s m ([.ref aX, .int p0, .int p1, .int p2, .int p3, .int p4]).toArray below meth c H locs 0 0 (MQ below (va_Qi (S := Unit) (fun r _ => r = res.1) (fun _ t => va_P D vwCl (w_xsh ky aX aB aP aT aR aK aH aG aS aS0 aS1 aS2 aS3 aI0 aI1 aI2 aI3 sla ssz res.2) t.heap ∧ va_K D vwCl (tyW ky) t ∧ va_D A (w_xsh ky aX aB aP aT aR aK aH aG aS aS0 aS1 aS2 aS3 aI0 aI1 aI2 aI3 sla ssz res.2)) A) ([.ref aX, .int p0, .int p1, .int p2, .int p3, .int p4]).toArray s 0 0 A) (F0 m pc ls [.int res.1]) := fun pc H locs ls hd hP hD hS => W.iret hx hb hr (fun t ht hW => ⟨⟨res.1, (), rfl, rfl, by rw [ht]; exact hP, va_K.moved hW.alike hK, hD⟩, hS.F ht⟩) hS.2.2 hd
  unfold f_X8_copy at hF
  refine lv_aload_n hx hb dX8_copy_0 rfl (lv_at hl 0 rfl) ?_
  refine lv_iload_n hx hb dX8_copy_1 rfl (lv_at hl 1 rfl) ?_
  rcases sh5_s hF with ⟨h1, hF⟩ | ⟨h1, hF⟩ | ⟨h1, hF⟩ | ⟨h1, hF⟩ | ⟨h1, hF⟩
  · refine cl_vq (ro := none) (As := [.int p0]) (rest := []) (w' := (w_xsh ky aX aB aP aT aR aK aH aG aS aS0 aS1 aS2 aS3 aI0 aI1 aI2 aI3 sla ssz sit)) ⟨hx, hb, hml, hown, hts⟩ hK hP hD hS hA (c_X8_sheetAt l D ky aX aB aP aT aR aK aH aG aS aS0 aS1 aS2 aS3 _ p0 none (Or.inl ⟨h1, rfl⟩)) (cwV 1 hts gX8_copy_X8_sheetAt rfl rfl rfl (by decide +kernel) ⟨Nat.le_of_ble_eq_true rfl, Nat.le_of_ble_eq_true rfl⟩) [0, 1] [2, 3, 4, 5, 6, 7, 8, 9] [8, 9, 0, 1, 2, 3, 4, 5, 6, 7] 0 7 rfl rfl rfl rfl (wr := [(aS0, .inr (4, [.ref aI0, .int (sla 0), .int (ssz 0)])), (aI0, .inl (ky 0, 36, .inl (sit 0))), (aS1, .inr (4, [.ref aI1, .int (sla 1), .int (ssz 1)])), (aI1, .inl (ky 0, 36, .inl (sit 1))), (aS2, .inr (4, [.ref aI2, .int (sla 2), .int (ssz 2)])), (aI2, .inl (ky 0, 36, .inl (sit 2))), (aS3, .inr (4, [.ref aI3, .int (sla 3), .int (ssz 3)])), (aI3, .inl (ky 0, 36, .inl (sit 3)))]) rfl (by decide) rfl rfl hl.1 (Nat.le_of_ble_eq_true rfl) dX8_copy_2 ⟨Nat.zero_le _, Nat.zero_le _⟩ (fun H locs hP hD hS => ?_)
    refine lv_astoreN (lv' := [(6, .null), (0, .ref aX), (1, .int p0), (2, .int p1), (3, .int p2), (4, .int p3), (5, .int p4)]) hx hb dX8_copy_5 hl (by decide) rfl (fun ls hl => ?_)
    refine lv_aload_n hx hb dX8_copy_7 rfl (lv_at hl 1 rfl) ?_
    refine lv_iload_n hx hb dX8_copy_8 rfl (lv_at hl 4 rfl) ?_
    rcases sh5_s hF with ⟨h2, hF⟩ | ⟨h2, hF⟩ | ⟨h2, hF⟩ | ⟨h2, hF⟩ | ⟨h2, hF⟩
    · refine cl_vq (ro := none) (As := [.int p2]) (rest := []) (w' := (w_xsh ky aX aB aP aT aR aK aH aG aS aS0 aS1 aS2 aS3 aI0 aI1 aI2 aI3 sla ssz sit)) ⟨hx, hb, hml, hown, hts⟩ hK hP hD hS hA (c_X8_sheetAt l D ky aX aB aP aT aR aK aH aG aS aS0 aS1 aS2 aS3 _ p2 none (Or.inl ⟨h2, rfl⟩)) (cwV 1 hts gX8_copy_X8_sheetAt rfl rfl rfl (by decide +kernel) ⟨Nat.le_of_ble_eq_true rfl, Nat.le_of_ble_eq_true rfl⟩) [0, 1] [2, 3, 4, 5, 6, 7, 8, 9] [8, 9, 0, 1, 2, 3, 4, 5, 6, 7] 0 7 rfl rfl rfl rfl (wr := [(aS0, .inr (4, [.ref aI0, .int (sla 0), .int (ssz 0)])), (aI0, .inl (ky 0, 36, .inl (sit 0))), (aS1, .inr (4, [.ref aI1, .int (sla 1), .int (ssz 1)])), (aI1, .inl (ky 0, 36, .inl (sit 1))), (aS2, .inr (4, [.ref aI2, .int (sla 2), .int (ssz 2)])), (aI2, .inl (ky 0, 36, .inl (sit 2))), (aS3, .inr (4, [.ref aI3, .int (sla 3), .int (ssz 3)])), (aI3, .inl (ky 0, 36, .inl (sit 3)))]) rfl (by decide) rfl rfl hl.1 (Nat.le_of_ble_eq_true rfl) dX8_copy_9 ⟨Nat.zero_le _, Nat.zero_le _⟩ (fun H locs hP hD hS => ?_)
      refine lv_astoreN (lv' := [(7, .null), (6, .null), (0, .ref aX), (1, .int p0), (2, .int p1), (3, .int p2), (4, .int p3), (5, .int p4)]) hx hb dX8_copy_12 hl (by decide) rfl (fun ls hl => ?_)
      refine lv_aloadN hx hb dX8_copy_14 (lv_at hl 1 rfl) ?_
      refine lv_ifnullN (tgt := 24) hx hb dX8_copy_16 (by decide) ?_
      refine lv_iconst (v := (-1 : Int32)) hx hb dX8_copy_24 (by decide) ?_
      have hF := Option.some.inj hF
      subst hF
      exact hQ _ _ _ _ dX8_copy_25 hP hD hS
    · refine cl_vq (ro := (some aS0)) (As := [.int p2]) (rest := []) (w' := (w_xsh ky aX aB aP aT aR aK aH aG aS aS0 aS1 aS2 aS3 aI0 aI1 aI2 aI3 sla ssz sit)) ⟨hx, hb, hml, hown, hts⟩ hK hP hD hS hA (c_X8_sheetAt l D ky aX aB aP aT aR aK aH aG aS aS0 aS1 aS2 aS3 _ p2 (some aS0) (Or.inr ⟨by rw [h2]; decide, by rw [h2]; rfl⟩)) (cwV 1 hts gX8_copy_X8_sheetAt rfl rfl rfl (by decide +kernel) ⟨Nat.le_of_ble_eq_true rfl, Nat.le_of_ble_eq_true rfl⟩) [0, 1] [2, 3, 4, 5, 6, 7, 8, 9] [8, 9, 0, 1, 2, 3, 4, 5, 6, 7] 0 7 rfl rfl rfl rfl (wr := [(aS0, .inr (4, [.ref aI0, .int (sla 0), .int (ssz 0)])), (aI0, .inl (ky 0, 36, .inl (sit 0))), (aS1, .inr (4, [.ref aI1, .int (sla 1), .int (ssz 1)])), (aI1, .inl (ky 0, 36, .inl (sit 1))), (aS2, .inr (4, [.ref aI2, .int (sla 2), .int (ssz 2)])), (aI2, .inl (ky 0, 36, .inl (sit 2))), (aS3, .inr (4, [.ref aI3, .int (sla 3), .int (ssz 3)])), (aI3, .inl (ky 0, 36, .inl (sit 3)))]) rfl (by decide) rfl rfl hl.1 (Nat.le_of_ble_eq_true rfl) dX8_copy_9 ⟨Nat.zero_le _, Nat.zero_le _⟩ (fun H locs hP hD hS => ?_)
      refine lv_astore (lv' := [(7, .ref aS0), (6, .null), (0, .ref aX), (1, .int p0), (2, .int p1), (3, .int p2), (4, .int p3), (5, .int p4)]) hx hb dX8_copy_12 hl (by decide) rfl (fun ls hl => ?_)
      refine lv_aloadN hx hb dX8_copy_14 (lv_at hl 1 rfl) ?_
      refine lv_ifnullN (tgt := 24) hx hb dX8_copy_16 (by decide) ?_
      refine lv_iconst (v := (-1 : Int32)) hx hb dX8_copy_24 (by decide) ?_
      have hF := Option.some.inj hF
      subst hF
      exact hQ _ _ _ _ dX8_copy_25 hP hD hS
    · refine cl_vq (ro := (some aS1)) (As := [.int p2]) (rest := []) (w' := (w_xsh ky aX aB aP aT aR aK aH aG aS aS0 aS1 aS2 aS3 aI0 aI1 aI2 aI3 sla ssz sit)) ⟨hx, hb, hml, hown, hts⟩ hK hP hD hS hA (c_X8_sheetAt l D ky aX aB aP aT aR aK aH aG aS aS0 aS1 aS2 aS3 _ p2 (some aS1) (Or.inr ⟨by rw [h2]; decide, by rw [h2]; rfl⟩)) (cwV 1 hts gX8_copy_X8_sheetAt rfl rfl rfl (by decide +kernel) ⟨Nat.le_of_ble_eq_true rfl, Nat.le_of_ble_eq_true rfl⟩) [0, 1] [2, 3, 4, 5, 6, 7, 8, 9] [8, 9, 0, 1, 2, 3, 4, 5, 6, 7] 0 7 rfl rfl rfl rfl (wr := [(aS0, .inr (4, [.ref aI0, .int (sla 0), .int (ssz 0)])), (aI0, .inl (ky 0, 36, .inl (sit 0))), (aS1, .inr (4, [.ref aI1, .int (sla 1), .int (ssz 1)])), (aI1, .inl (ky 0, 36, .inl (sit 1))), (aS2, .inr (4, [.ref aI2, .int (sla 2), .int (ssz 2)])), (aI2, .inl (ky 0, 36, .inl (sit 2))), (aS3, .inr (4, [.ref aI3, .int (sla 3), .int (ssz 3)])), (aI3, .inl (ky 0, 36, .inl (sit 3)))]) rfl (by decide) rfl rfl hl.1 (Nat.le_of_ble_eq_true rfl) dX8_copy_9 ⟨Nat.zero_le _, Nat.zero_le _⟩ (fun H locs hP hD hS => ?_)
      refine lv_astore (lv' := [(7, .ref aS1), (6, .null), (0, .ref aX), (1, .int p0), (2, .int p1), (3, .int p2), (4, .int p3), (5, .int p4)]) hx hb dX8_copy_12 hl (by decide) rfl (fun ls hl => ?_)
      refine lv_aloadN hx hb dX8_copy_14 (lv_at hl 1 rfl) ?_
      refine lv_ifnullN (tgt := 24) hx hb dX8_copy_16 (by decide) ?_
      refine lv_iconst (v := (-1 : Int32)) hx hb dX8_copy_24 (by decide) ?_
      have hF := Option.some.inj hF
      subst hF
      exact hQ _ _ _ _ dX8_copy_25 hP hD hS
    · refine cl_vq (ro := (some aS2)) (As := [.int p2]) (rest := []) (w' := (w_xsh ky aX aB aP aT aR aK aH aG aS aS0 aS1 aS2 aS3 aI0 aI1 aI2 aI3 sla ssz sit)) ⟨hx, hb, hml, hown, hts⟩ hK hP hD hS hA (c_X8_sheetAt l D ky aX aB aP aT aR aK aH aG aS aS0 aS1 aS2 aS3 _ p2 (some aS2) (Or.inr ⟨by rw [h2]; decide, by rw [h2]; rfl⟩)) (cwV 1 hts gX8_copy_X8_sheetAt rfl rfl rfl (by decide +kernel) ⟨Nat.le_of_ble_eq_true rfl, Nat.le_of_ble_eq_true rfl⟩) [0, 1] [2, 3, 4, 5, 6, 7, 8, 9] [8, 9, 0, 1, 2, 3, 4, 5, 6, 7] 0 7 rfl rfl rfl rfl (wr := [(aS0, .inr (4, [.ref aI0, .int (sla 0), .int (ssz 0)])), (aI0, .inl (ky 0, 36, .inl (sit 0))), (aS1, .inr (4, [.ref aI1, .int (sla 1), .int (ssz 1)])), (aI1, .inl (ky 0, 36, .inl (sit 1))), (aS2, .inr (4, [.ref aI2, .int (sla 2), .int (ssz 2)])), (aI2, .inl (ky 0, 36, .inl (sit 2))), (aS3, .inr (4, [.ref aI3, .int (sla 3), .int (ssz 3)])), (aI3, .inl (ky 0, 36, .inl (sit 3)))]) rfl (by decide) rfl rfl hl.1 (Nat.le_of_ble_eq_true rfl) dX8_copy_9 ⟨Nat.zero_le _, Nat.zero_le _⟩ (fun H locs hP hD hS => ?_)
      refine lv_astore (lv' := [(7, .ref aS2), (6, .null), (0, .ref aX), (1, .int p0), (2, .int p1), (3, .int p2), (4, .int p3), (5, .int p4)]) hx hb dX8_copy_12 hl (by decide) rfl (fun ls hl => ?_)
      refine lv_aloadN hx hb dX8_copy_14 (lv_at hl 1 rfl) ?_
      refine lv_ifnullN (tgt := 24) hx hb dX8_copy_16 (by decide) ?_
      refine lv_iconst (v := (-1 : Int32)) hx hb dX8_copy_24 (by decide) ?_
      have hF := Option.some.inj hF
      subst hF
      exact hQ _ _ _ _ dX8_copy_25 hP hD hS
    · refine cl_vq (ro := (some aS3)) (As := [.int p2]) (rest := []) (w' := (w_xsh ky aX aB aP aT aR aK aH aG aS aS0 aS1 aS2 aS3 aI0 aI1 aI2 aI3 sla ssz sit)) ⟨hx, hb, hml, hown, hts⟩ hK hP hD hS hA (c_X8_sheetAt l D ky aX aB aP aT aR aK aH aG aS aS0 aS1 aS2 aS3 _ p2 (some aS3) (Or.inr ⟨by rw [h2]; decide, by rw [h2]; rfl⟩)) (cwV 1 hts gX8_copy_X8_sheetAt rfl rfl rfl (by decide +kernel) ⟨Nat.le_of_ble_eq_true rfl, Nat.le_of_ble_eq_true rfl⟩) [0, 1] [2, 3, 4, 5, 6, 7, 8, 9] [8, 9, 0, 1, 2, 3, 4, 5, 6, 7] 0 7 rfl rfl rfl rfl (wr := [(aS0, .inr (4, [.ref aI0, .int (sla 0), .int (ssz 0)])), (aI0, .inl (ky 0, 36, .inl (sit 0))), (aS1, .inr (4, [.ref aI1, .int (sla 1), .int (ssz 1)])), (aI1, .inl (ky 0, 36, .inl (sit 1))), (aS2, .inr (4, [.ref aI2, .int (sla 2), .int (ssz 2)])), (aI2, .inl (ky 0, 36, .inl (sit 2))), (aS3, .inr (4, [.ref aI3, .int (sla 3), .int (ssz 3)])), (aI3, .inl (ky 0, 36, .inl (sit 3)))]) rfl (by decide) rfl rfl hl.1 (Nat.le_of_ble_eq_true rfl) dX8_copy_9 ⟨Nat.zero_le _, Nat.zero_le _⟩ (fun H locs hP hD hS => ?_)
      refine lv_astore (lv' := [(7, .ref aS3), (6, .null), (0, .ref aX), (1, .int p0), (2, .int p1), (3, .int p2), (4, .int p3), (5, .int p4)]) hx hb dX8_copy_12 hl (by decide) rfl (fun ls hl => ?_)
      refine lv_aloadN hx hb dX8_copy_14 (lv_at hl 1 rfl) ?_
      refine lv_ifnullN (tgt := 24) hx hb dX8_copy_16 (by decide) ?_
      refine lv_iconst (v := (-1 : Int32)) hx hb dX8_copy_24 (by decide) ?_
      have hF := Option.some.inj hF
      subst hF
      exact hQ _ _ _ _ dX8_copy_25 hP hD hS
  · refine cl_vq (ro := (some aS0)) (As := [.int p0]) (rest := []) (w' := (w_xsh ky aX aB aP aT aR aK aH aG aS aS0 aS1 aS2 aS3 aI0 aI1 aI2 aI3 sla ssz sit)) ⟨hx, hb, hml, hown, hts⟩ hK hP hD hS hA (c_X8_sheetAt l D ky aX aB aP aT aR aK aH aG aS aS0 aS1 aS2 aS3 _ p0 (some aS0) (Or.inr ⟨by rw [h1]; decide, by rw [h1]; rfl⟩)) (cwV 1 hts gX8_copy_X8_sheetAt rfl rfl rfl (by decide +kernel) ⟨Nat.le_of_ble_eq_true rfl, Nat.le_of_ble_eq_true rfl⟩) [0, 1] [2, 3, 4, 5, 6, 7, 8, 9] [8, 9, 0, 1, 2, 3, 4, 5, 6, 7] 0 7 rfl rfl rfl rfl (wr := [(aS0, .inr (4, [.ref aI0, .int (sla 0), .int (ssz 0)])), (aI0, .inl (ky 0, 36, .inl (sit 0))), (aS1, .inr (4, [.ref aI1, .int (sla 1), .int (ssz 1)])), (aI1, .inl (ky 0, 36, .inl (sit 1))), (aS2, .inr (4, [.ref aI2, .int (sla 2), .int (ssz 2)])), (aI2, .inl (ky 0, 36, .inl (sit 2))), (aS3, .inr (4, [.ref aI3, .int (sla 3), .int (ssz 3)])), (aI3, .inl (ky 0, 36, .inl (sit 3)))]) rfl (by decide) rfl rfl hl.1 (Nat.le_of_ble_eq_true rfl) dX8_copy_2 ⟨Nat.zero_le _, Nat.zero_le _⟩ (fun H locs hP hD hS => ?_)
    refine lv_astore (lv' := [(6, .ref aS0), (0, .ref aX), (1, .int p0), (2, .int p1), (3, .int p2), (4, .int p3), (5, .int p4)]) hx hb dX8_copy_5 hl (by decide) rfl (fun ls hl => ?_)
    refine lv_aload_n hx hb dX8_copy_7 rfl (lv_at hl 1 rfl) ?_
    refine lv_iload_n hx hb dX8_copy_8 rfl (lv_at hl 4 rfl) ?_
    rcases sh5_s hF with ⟨h3, hF⟩ | ⟨h3, hF⟩ | ⟨h3, hF⟩ | ⟨h3, hF⟩ | ⟨h3, hF⟩
    · refine cl_vq (ro := none) (As := [.int p2]) (rest := []) (w' := (w_xsh ky aX aB aP aT aR aK aH aG aS aS0 aS1 aS2 aS3 aI0 aI1 aI2 aI3 sla ssz sit)) ⟨hx, hb, hml, hown, hts⟩ hK hP hD hS hA (c_X8_sheetAt l D ky aX aB aP aT aR aK aH aG aS aS0 aS1 aS2 aS3 _ p2 none (Or.inl ⟨h3, rfl⟩)) (cwV 1 hts gX8_copy_X8_sheetAt rfl rfl rfl (by decide +kernel) ⟨Nat.le_of_ble_eq_true rfl, Nat.le_of_ble_eq_true rfl⟩) [0, 1] [2, 3, 4, 5, 6, 7, 8, 9] [8, 9, 0, 1, 2, 3, 4, 5, 6, 7] 0 7 rfl rfl rfl rfl (wr := [(aS0, .inr (4, [.ref aI0, .int (sla 0), .int (ssz 0)])), (aI0, .inl (ky 0, 36, .inl (sit 0))), (aS1, .inr (4, [.ref aI1, .int (sla 1), .int (ssz 1)])), (aI1, .inl (ky 0, 36, .inl (sit 1))), (aS2, .inr (4, [.ref aI2, .int (sla 2), .int (ssz 2)])), (aI2, .inl (ky 0, 36, .inl (sit 2))), (aS3, .inr (4, [.ref aI3, .int (sla 3), .int (ssz 3)])), (aI3, .inl (ky 0, 36, .inl (sit 3)))]) rfl (by decide) rfl rfl hl.1 (Nat.le_of_ble_eq_true rfl) dX8_copy_9 ⟨Nat.zero_le _, Nat.zero_le _⟩ (fun H locs hP hD hS => ?_)
      refine lv_astoreN (lv' := [(7, .null), (6, .ref aS0), (0, .ref aX), (1, .int p0), (2, .int p1), (3, .int p2), (4, .int p3), (5, .int p4)]) hx hb dX8_copy_12 hl (by decide) rfl (fun ls hl => ?_)
      refine lv_aload hx hb dX8_copy_14 (lv_at hl 1 rfl) ?_
      refine lv_ifnull hx hb dX8_copy_16 ?_
      refine lv_aloadN hx hb dX8_copy_19 (lv_at hl 0 rfl) ?_
      refine lv_ifnonnullN hx hb dX8_copy_21 ?_
      refine lv_iconst (v := (-1 : Int32)) hx hb dX8_copy_24 (by decide) ?_
      have hF := Option.some.inj hF
      subst hF
      exact hQ _ _ _ _ dX8_copy_25 hP hD hS
    · refine cl_vq (ro := (some aS0)) (As := [.int p2]) (rest := []) (w' := (w_xsh ky aX aB aP aT aR aK aH aG aS aS0 aS1 aS2 aS3 aI0 aI1 aI2 aI3 sla ssz sit)) ⟨hx, hb, hml, hown, hts⟩ hK hP hD hS hA (c_X8_sheetAt l D ky aX aB aP aT aR aK aH aG aS aS0 aS1 aS2 aS3 _ p2 (some aS0) (Or.inr ⟨by rw [h3]; decide, by rw [h3]; rfl⟩)) (cwV 1 hts gX8_copy_X8_sheetAt rfl rfl rfl (by decide +kernel) ⟨Nat.le_of_ble_eq_true rfl, Nat.le_of_ble_eq_true rfl⟩) [0, 1] [2, 3, 4, 5, 6, 7, 8, 9] [8, 9, 0, 1, 2, 3, 4, 5, 6, 7] 0 7 rfl rfl rfl rfl (wr := [(aS0, .inr (4, [.ref aI0, .int (sla 0), .int (ssz 0)])), (aI0, .inl (ky 0, 36, .inl (sit 0))), (aS1, .inr (4, [.ref aI1, .int (sla 1), .int (ssz 1)])), (aI1, .inl (ky 0, 36, .inl (sit 1))), (aS2, .inr (4, [.ref aI2, .int (sla 2), .int (ssz 2)])), (aI2, .inl (ky 0, 36, .inl (sit 2))), (aS3, .inr (4, [.ref aI3, .int (sla 3), .int (ssz 3)])), (aI3, .inl (ky 0, 36, .inl (sit 3)))]) rfl (by decide) rfl rfl hl.1 (Nat.le_of_ble_eq_true rfl) dX8_copy_9 ⟨Nat.zero_le _, Nat.zero_le _⟩ (fun H locs hP hD hS => ?_)
      refine lv_astore (lv' := [(7, .ref aS0), (6, .ref aS0), (0, .ref aX), (1, .int p0), (2, .int p1), (3, .int p2), (4, .int p3), (5, .int p4)]) hx hb dX8_copy_12 hl (by decide) rfl (fun ls hl => ?_)
      refine lv_aload hx hb dX8_copy_14 (lv_at hl 1 rfl) ?_
      refine lv_ifnull hx hb dX8_copy_16 ?_
      refine lv_aload hx hb dX8_copy_19 (lv_at hl 0 rfl) ?_
      refine lv_ifnonnull (tgt := 26) hx hb dX8_copy_21 (by decide) ?_
      refine lv_aload hx hb dX8_copy_26 (lv_at hl 1 rfl) ?_
      obtain ⟨r5, h4, hF⟩ := b1_s hF
      refine cl_vi (As := []) (rest := []) (w' := (w_xsh ky aX aB aP aT aR aK aH aG aS aS0 aS1 aS2 aS3 aI0 aI1 aI2 aI3 sla ssz sit)) ⟨hx, hb, hml, hown, hts⟩ hK hP hD hS hA (c_X5_isNothing l D ky aS0 aI0 _ N  (sla 0) (ssz 0) (sit 0)  r5 h4) (cwV 0 hts gX8_copy_X5_isNothing rfl rfl rfl (by decide +kernel) ⟨Nat.le_of_ble_eq_true rfl, Nat.le_of_ble_eq_true rfl⟩) [2, 3] [0, 1, 4, 5, 6, 7, 8, 9] [0, 1, 8, 9, 2, 3, 4, 5, 6, 7] 0 4 rfl rfl rfl rfl (wr := [(aX, .inr (7, [.ref aB, .ref aP, .ref aT, .ref aR, .ref aK, .ref aH, .ref aG, .ref aS])), (aS, .inl (ky 3, 4, .inr (.inr (.inr (.inr (shf aS0 aS1 aS2 aS3)))))), (aS1, .inr (4, [.ref aI1, .int (sla 1), .int (ssz 1)])), (aI1, .inl (ky 0, 36, .inl (sit 1))), (aS2, .inr (4, [.ref aI2, .int (sla 2), .int (ssz 2)])), (aI2, .inl (ky 0, 36, .inl (sit 2))), (aS3, .inr (4, [.ref aI3, .int (sla 3), .int (ssz 3)])), (aI3, .inl (ky 0, 36, .inl (sit 3)))]) rfl (by decide) rfl rfl hl.1 (Nat.le_of_ble_eq_true rfl) dX8_copy_28 ⟨Nat.zero_le _, Nat.zero_le _⟩ (fun H locs hP hD hS => ?_)
      refine lv_if_ne (tgt := 42) hx hb dX8_copy_31 (by decide) (fun c6 => ?_) (fun c6 => ?_)
      · have hF := if_f c6 hF
        refine lv_bipush (v := (-11 : Int32)) hx hb dX8_copy_42 (by decide) ?_
        have hF := Option.some.inj hF
        subst hF
        exact hQ _ _ _ _ dX8_copy_44 hP hD hS
      · have hF := if_t c6 hF
        refine lv_aload hx hb dX8_copy_34 (lv_at hl 0 rfl) ?_
        obtain ⟨r8, h7, hF⟩ := b1_s hF
        refine cl_vi (As := []) (rest := []) (w' := (w_xsh ky aX aB aP aT aR aK aH aG aS aS0 aS1 aS2 aS3 aI0 aI1 aI2 aI3 sla ssz sit)) ⟨hx, hb, hml, hown, hts⟩ hK hP hD hS hA (c_X5_isNothing l D ky aS0 aI0 _ N  (sla 0) (ssz 0) (sit 0)  r8 h7) (cwV 0 hts gX8_copy_X5_isNothing rfl rfl rfl (by decide +kernel) ⟨Nat.le_of_ble_eq_true rfl, Nat.le_of_ble_eq_true rfl⟩) [2, 3] [0, 1, 4, 5, 6, 7, 8, 9] [0, 1, 8, 9, 2, 3, 4, 5, 6, 7] 0 4 rfl rfl rfl rfl (wr := [(aX, .inr (7, [.ref aB, .ref aP, .ref aT, .ref aR, .ref aK, .ref aH, .ref aG, .ref aS])), (aS, .inl (ky 3, 4, .inr (.inr (.inr (.inr (shf aS0 aS1 aS2 aS3)))))), (aS1, .inr (4, [.ref aI1, .int (sla 1), .int (ssz 1)])), (aI1, .inl (ky 0, 36, .inl (sit 1))), (aS2, .inr (4, [.ref aI2, .int (sla 2), .int (ssz 2)])), (aI2, .inl (ky 0, 36, .inl (sit 2))), (aS3, .inr (4, [.ref aI3, .int (sla 3), .int (ssz 3)])), (aI3, .inl (ky 0, 36, .inl (sit 3)))]) rfl (by decide) rfl rfl hl.1 (Nat.le_of_ble_eq_true rfl) dX8_copy_36 ⟨Nat.zero_le _, Nat.zero_le _⟩ (fun H locs hP hD hS => ?_)
        refine lv_if_eq (tgt := 45) hx hb dX8_copy_39 (by decide) (fun c9 => ?_) (fun c9 => ?_)
        · have hF := if_t c9 hF
          refine lv_aload hx hb dX8_copy_45 (lv_at hl 1 rfl) ?_
          obtain ⟨r11, h10, hF⟩ := b1_s hF
          refine cl_vi (As := []) (rest := []) (w' := (w_xsh ky aX aB aP aT aR aK aH aG aS aS0 aS1 aS2 aS3 aI0 aI1 aI2 aI3 sla ssz sit)) ⟨hx, hb, hml, hown, hts⟩ hK hP hD hS hA (c_X5_laneNow l D ky aS0 aI0 _ N  (sla 0) (ssz 0) (sit 0)  r11 h10) (cwV 0 hts gX8_copy_X5_laneNow rfl rfl rfl (by decide +kernel) ⟨Nat.le_of_ble_eq_true rfl, Nat.le_of_ble_eq_true rfl⟩) [2, 3] [0, 1, 4, 5, 6, 7, 8, 9] [0, 1, 8, 9, 2, 3, 4, 5, 6, 7] 0 4 rfl rfl rfl rfl (wr := [(aX, .inr (7, [.ref aB, .ref aP, .ref aT, .ref aR, .ref aK, .ref aH, .ref aG, .ref aS])), (aS, .inl (ky 3, 4, .inr (.inr (.inr (.inr (shf aS0 aS1 aS2 aS3)))))), (aS1, .inr (4, [.ref aI1, .int (sla 1), .int (ssz 1)])), (aI1, .inl (ky 0, 36, .inl (sit 1))), (aS2, .inr (4, [.ref aI2, .int (sla 2), .int (ssz 2)])), (aI2, .inl (ky 0, 36, .inl (sit 2))), (aS3, .inr (4, [.ref aI3, .int (sla 3), .int (ssz 3)])), (aI3, .inl (ky 0, 36, .inl (sit 3)))]) rfl (by decide) rfl rfl hl.1 (Nat.le_of_ble_eq_true rfl) dX8_copy_47 ⟨Nat.zero_le _, Nat.zero_le _⟩ (fun H locs hP hD hS => ?_)
          refine lv_aload hx hb dX8_copy_50 (lv_at hl 0 rfl) ?_
          obtain ⟨r13, h12, hF⟩ := b1_s hF
          refine cl_vi (As := []) (rest := [.int r11]) (w' := (w_xsh ky aX aB aP aT aR aK aH aG aS aS0 aS1 aS2 aS3 aI0 aI1 aI2 aI3 sla ssz sit)) ⟨hx, hb, hml, hown, hts⟩ hK hP hD hS hA (c_X5_laneNow l D ky aS0 aI0 _ N  (sla 0) (ssz 0) (sit 0)  r13 h12) (cwV 0 hts gX8_copy_X5_laneNow rfl rfl rfl (by decide +kernel) ⟨Nat.le_of_ble_eq_true rfl, Nat.le_of_ble_eq_true rfl⟩) [2, 3] [0, 1, 4, 5, 6, 7, 8, 9] [0, 1, 8, 9, 2, 3, 4, 5, 6, 7] 0 4 rfl rfl rfl rfl (wr := [(aX, .inr (7, [.ref aB, .ref aP, .ref aT, .ref aR, .ref aK, .ref aH, .ref aG, .ref aS])), (aS, .inl (ky 3, 4, .inr (.inr (.inr (.inr (shf aS0 aS1 aS2 aS3)))))), (aS1, .inr (4, [.ref aI1, .int (sla 1), .int (ssz 1)])), (aI1, .inl (ky 0, 36, .inl (sit 1))), (aS2, .inr (4, [.ref aI2, .int (sla 2), .int (ssz 2)])), (aI2, .inl (ky 0, 36, .inl (sit 2))), (aS3, .inr (4, [.ref aI3, .int (sla 3), .int (ssz 3)])), (aI3, .inl (ky 0, 36, .inl (sit 3)))]) rfl (by decide) rfl rfl hl.1 (Nat.le_of_ble_eq_true rfl) dX8_copy_52 ⟨Nat.zero_le _, Nat.zero_le _⟩ (fun H locs hP hD hS => ?_)
          refine lv_icmp_eq (tgt := 61) hx hb dX8_copy_55 (by decide) (fun c14 => ?_) (fun c14 => ?_)
          · have hF := if_t c14 hF
            refine lv_aload hx hb dX8_copy_61 (lv_at hl 1 rfl) ?_
            refine lv_iload_n hx hb dX8_copy_63 rfl (lv_at hl 4 rfl) ?_
            refine lv_iload hx hb dX8_copy_64 (lv_at hl 7 rfl) ?_
            obtain ⟨r16, h15, hF⟩ := b1_s hF
            refine cl_vi (As := [.int p1, .int p4]) (rest := []) (w' := (w_xsh ky aX aB aP aT aR aK aH aG aS aS0 aS1 aS2 aS3 aI0 aI1 aI2 aI3 sla ssz sit)) ⟨hx, hb, hml, hown, hts⟩ hK hP hD hS hA (c_X5_covers l D ky aS0 aI0 _ N  (sla 0) (ssz 0) (sit 0) p1 p4 r16 h15) (cwV 2 hts gX8_copy_X5_covers rfl rfl rfl (by decide +kernel) ⟨Nat.le_of_ble_eq_true rfl, Nat.le_of_ble_eq_true rfl⟩) [2, 3] [0, 1, 4, 5, 6, 7, 8, 9] [0, 1, 8, 9, 2, 3, 4, 5, 6, 7] 0 4 rfl rfl rfl rfl (wr := [(aX, .inr (7, [.ref aB, .ref aP, .ref aT, .ref aR, .ref aK, .ref aH, .ref aG, .ref aS])), (aS, .inl (ky 3, 4, .inr (.inr (.inr (.inr (shf aS0 aS1 aS2 aS3)))))), (aS1, .inr (4, [.ref aI1, .int (sla 1), .int (ssz 1)])), (aI1, .inl (ky 0, 36, .inl (sit 1))), (aS2, .inr (4, [.ref aI2, .int (sla 2), .int (ssz 2)])), (aI2, .inl (ky 0, 36, .inl (sit 2))), (aS3, .inr (4, [.ref aI3, .int (sla 3), .int (ssz 3)])), (aI3, .inl (ky 0, 36, .inl (sit 3)))]) rfl (by decide) rfl rfl hl.1 (Nat.le_of_ble_eq_true rfl) dX8_copy_66 ⟨Nat.zero_le _, Nat.zero_le _⟩ (fun H locs hP hD hS => ?_)
            refine lv_if_eq (tgt := 84) hx hb dX8_copy_69 (by decide) (fun c17 => ?_) (fun c17 => ?_)
            · have hF := if_t c17 hF
              refine lv_bipush (v := (-13 : Int32)) hx hb dX8_copy_84 (by decide) ?_
              have hF := Option.some.inj hF
              subst hF
              exact hQ _ _ _ _ dX8_copy_86 hP hD hS
            · have hF := if_f c17 hF
              refine lv_aload hx hb dX8_copy_72 (lv_at hl 0 rfl) ?_
              refine lv_iload hx hb dX8_copy_74 (lv_at hl 6 rfl) ?_
              refine lv_iload hx hb dX8_copy_76 (lv_at hl 7 rfl) ?_
              obtain ⟨r19, h18, hF⟩ := b1_s hF
              refine cl_vi (As := [.int p3, .int p4]) (rest := []) (w' := (w_xsh ky aX aB aP aT aR aK aH aG aS aS0 aS1 aS2 aS3 aI0 aI1 aI2 aI3 sla ssz sit)) ⟨hx, hb, hml, hown, hts⟩ hK hP hD hS hA (c_X5_covers l D ky aS0 aI0 _ N  (sla 0) (ssz 0) (sit 0) p3 p4 r19 h18) (cwV 2 hts gX8_copy_X5_covers rfl rfl rfl (by decide +kernel) ⟨Nat.le_of_ble_eq_true rfl, Nat.le_of_ble_eq_true rfl⟩) [2, 3] [0, 1, 4, 5, 6, 7, 8, 9] [0, 1, 8, 9, 2, 3, 4, 5, 6, 7] 0 4 rfl rfl rfl rfl (wr := [(aX, .inr (7, [.ref aB, .ref aP, .ref aT, .ref aR, .ref aK, .ref aH, .ref aG, .ref aS])), (aS, .inl (ky 3, 4, .inr (.inr (.inr (.inr (shf aS0 aS1 aS2 aS3)))))), (aS1, .inr (4, [.ref aI1, .int (sla 1), .int (ssz 1)])), (aI1, .inl (ky 0, 36, .inl (sit 1))), (aS2, .inr (4, [.ref aI2, .int (sla 2), .int (ssz 2)])), (aI2, .inl (ky 0, 36, .inl (sit 2))), (aS3, .inr (4, [.ref aI3, .int (sla 3), .int (ssz 3)])), (aI3, .inl (ky 0, 36, .inl (sit 3)))]) rfl (by decide) rfl rfl hl.1 (Nat.le_of_ble_eq_true rfl) dX8_copy_78 ⟨Nat.zero_le _, Nat.zero_le _⟩ (fun H locs hP hD hS => ?_)
              refine lv_if_ne (tgt := 87) hx hb dX8_copy_81 (by decide) (fun c20 => ?_) (fun c20 => ?_)
              · have hF := if_f c20 hF
                refine lv_aload hx hb dX8_copy_87 (lv_at hl 0 rfl) ?_
                refine lv_iload hx hb dX8_copy_89 (lv_at hl 6 rfl) ?_
                refine lv_aload hx hb dX8_copy_91 (lv_at hl 1 rfl) ?_
                refine lv_iload_n hx hb dX8_copy_93 rfl (lv_at hl 4 rfl) ?_
                refine lv_iload hx hb dX8_copy_94 (lv_at hl 7 rfl) ?_
                obtain ⟨v22, h21, hF⟩ := b1_s hF
                refine cl_vv (As := [.int p3, .ref aS0, .int p1, .int p4]) (rest := []) (w' := (w_xsh ky aX aB aP aT aR aK aH aG aS aS0 aS1 aS2 aS3 aI0 aI1 aI2 aI3 sla ssz (va_up sit 0 v22))) ⟨hx, hb, hml, hown, hts⟩ hK hP hD hS hA (c_X5_take_same l D ky aS0 aI0 _ N  (sla 0) (ssz 0) (sit 0) p3 p1 p4 v22 h21) (cwV 4 hts gX8_copy_X5_take rfl rfl rfl (by decide +kernel) ⟨Nat.le_of_ble_eq_true rfl, Nat.le_of_ble_eq_true rfl⟩) [2, 3] [0, 1, 4, 5, 6, 7, 8, 9] [0, 1, 8, 9, 2, 3, 4, 5, 6, 7] 0 4 rfl rfl rfl rfl (wr := [(aX, .inr (7, [.ref aB, .ref aP, .ref aT, .ref aR, .ref aK, .ref aH, .ref aG, .ref aS])), (aS, .inl (ky 3, 4, .inr (.inr (.inr (.inr (shf aS0 aS1 aS2 aS3)))))), (aS1, .inr (4, [.ref aI1, .int (sla 1), .int (ssz 1)])), (aI1, .inl (ky 0, 36, .inl (sit 1))), (aS2, .inr (4, [.ref aI2, .int (sla 2), .int (ssz 2)])), (aI2, .inl (ky 0, 36, .inl (sit 2))), (aS3, .inr (4, [.ref aI3, .int (sla 3), .int (ssz 3)])), (aI3, .inl (ky 0, 36, .inl (sit 3)))]) rfl (by decide) rfl rfl hl.1 (Nat.le_of_ble_eq_true rfl) dX8_copy_96 ⟨Nat.zero_le _, Nat.zero_le _⟩ (fun H locs hP hD hS => ?_)
                refine lv_iload hx hb dX8_copy_99 (lv_at hl 7 rfl) ?_
                have hF := Option.some.inj hF
                subst hF
                exact hQ _ _ _ _ dX8_copy_101 hP hD hS
              · have hF := if_t c20 hF
                refine lv_bipush (v := (-13 : Int32)) hx hb dX8_copy_84 (by decide) ?_
                have hF := Option.some.inj hF
                subst hF
                exact hQ _ _ _ _ dX8_copy_86 hP hD hS
          · have hF := if_f c14 hF
            refine lv_bipush (v := (-12 : Int32)) hx hb dX8_copy_58 (by decide) ?_
            have hF := Option.some.inj hF
            subst hF
            exact hQ _ _ _ _ dX8_copy_60 hP hD hS
        · have hF := if_f c9 hF
          refine lv_bipush (v := (-11 : Int32)) hx hb dX8_copy_42 (by decide) ?_
          have hF := Option.some.inj hF
          subst hF
          exact hQ _ _ _ _ dX8_copy_44 hP hD hS
    · refine cl_vq (ro := (some aS1)) (As := [.int p2]) (rest := []) (w' := (w_xsh ky aX aB aP aT aR aK aH aG aS aS0 aS1 aS2 aS3 aI0 aI1 aI2 aI3 sla ssz sit)) ⟨hx, hb, hml, hown, hts⟩ hK hP hD hS hA (c_X8_sheetAt l D ky aX aB aP aT aR aK aH aG aS aS0 aS1 aS2 aS3 _ p2 (some aS1) (Or.inr ⟨by rw [h3]; decide, by rw [h3]; rfl⟩)) (cwV 1 hts gX8_copy_X8_sheetAt rfl rfl rfl (by decide +kernel) ⟨Nat.le_of_ble_eq_true rfl, Nat.le_of_ble_eq_true rfl⟩) [0, 1] [2, 3, 4, 5, 6, 7, 8, 9] [8, 9, 0, 1, 2, 3, 4, 5, 6, 7] 0 7 rfl rfl rfl rfl (wr := [(aS0, .inr (4, [.ref aI0, .int (sla 0), .int (ssz 0)])), (aI0, .inl (ky 0, 36, .inl (sit 0))), (aS1, .inr (4, [.ref aI1, .int (sla 1), .int (ssz 1)])), (aI1, .inl (ky 0, 36, .inl (sit 1))), (aS2, .inr (4, [.ref aI2, .int (sla 2), .int (ssz 2)])), (aI2, .inl (ky 0, 36, .inl (sit 2))), (aS3, .inr (4, [.ref aI3, .int (sla 3), .int (ssz 3)])), (aI3, .inl (ky 0, 36, .inl (sit 3)))]) rfl (by decide) rfl rfl hl.1 (Nat.le_of_ble_eq_true rfl) dX8_copy_9 ⟨Nat.zero_le _, Nat.zero_le _⟩ (fun H locs hP hD hS => ?_)
      refine lv_astore (lv' := [(7, .ref aS1), (6, .ref aS0), (0, .ref aX), (1, .int p0), (2, .int p1), (3, .int p2), (4, .int p3), (5, .int p4)]) hx hb dX8_copy_12 hl (by decide) rfl (fun ls hl => ?_)
      refine lv_aload hx hb dX8_copy_14 (lv_at hl 1 rfl) ?_
      refine lv_ifnull hx hb dX8_copy_16 ?_
      refine lv_aload hx hb dX8_copy_19 (lv_at hl 0 rfl) ?_
      refine lv_ifnonnull (tgt := 26) hx hb dX8_copy_21 (by decide) ?_
      refine lv_aload hx hb dX8_copy_26 (lv_at hl 1 rfl) ?_
      obtain ⟨r24, h23, hF⟩ := b1_s hF
      refine cl_vi (As := []) (rest := []) (w' := (w_xsh ky aX aB aP aT aR aK aH aG aS aS0 aS1 aS2 aS3 aI0 aI1 aI2 aI3 sla ssz sit)) ⟨hx, hb, hml, hown, hts⟩ hK hP hD hS hA (c_X5_isNothing l D ky aS0 aI0 _ N  (sla 0) (ssz 0) (sit 0)  r24 h23) (cwV 0 hts gX8_copy_X5_isNothing rfl rfl rfl (by decide +kernel) ⟨Nat.le_of_ble_eq_true rfl, Nat.le_of_ble_eq_true rfl⟩) [2, 3] [0, 1, 4, 5, 6, 7, 8, 9] [0, 1, 8, 9, 2, 3, 4, 5, 6, 7] 0 4 rfl rfl rfl rfl (wr := [(aX, .inr (7, [.ref aB, .ref aP, .ref aT, .ref aR, .ref aK, .ref aH, .ref aG, .ref aS])), (aS, .inl (ky 3, 4, .inr (.inr (.inr (.inr (shf aS0 aS1 aS2 aS3)))))), (aS1, .inr (4, [.ref aI1, .int (sla 1), .int (ssz 1)])), (aI1, .inl (ky 0, 36, .inl (sit 1))), (aS2, .inr (4, [.ref aI2, .int (sla 2), .int (ssz 2)])), (aI2, .inl (ky 0, 36, .inl (sit 2))), (aS3, .inr (4, [.ref aI3, .int (sla 3), .int (ssz 3)])), (aI3, .inl (ky 0, 36, .inl (sit 3)))]) rfl (by decide) rfl rfl hl.1 (Nat.le_of_ble_eq_true rfl) dX8_copy_28 ⟨Nat.zero_le _, Nat.zero_le _⟩ (fun H locs hP hD hS => ?_)
      refine lv_if_ne (tgt := 42) hx hb dX8_copy_31 (by decide) (fun c25 => ?_) (fun c25 => ?_)
      · have hF := if_f c25 hF
        refine lv_bipush (v := (-11 : Int32)) hx hb dX8_copy_42 (by decide) ?_
        have hF := Option.some.inj hF
        subst hF
        exact hQ _ _ _ _ dX8_copy_44 hP hD hS
      · have hF := if_t c25 hF
        refine lv_aload hx hb dX8_copy_34 (lv_at hl 0 rfl) ?_
        obtain ⟨r27, h26, hF⟩ := b1_s hF
        refine cl_vi (As := []) (rest := []) (w' := (w_xsh ky aX aB aP aT aR aK aH aG aS aS0 aS1 aS2 aS3 aI0 aI1 aI2 aI3 sla ssz sit)) ⟨hx, hb, hml, hown, hts⟩ hK hP hD hS hA (c_X5_isNothing l D ky aS1 aI1 _ N  (sla 1) (ssz 1) (sit 1)  r27 h26) (cwV 0 hts gX8_copy_X5_isNothing rfl rfl rfl (by decide +kernel) ⟨Nat.le_of_ble_eq_true rfl, Nat.le_of_ble_eq_true rfl⟩) [4, 5] [0, 1, 2, 3, 6, 7, 8, 9] [0, 1, 2, 3, 8, 9, 4, 5, 6, 7] 0 4 rfl rfl rfl rfl (wr := [(aX, .inr (7, [.ref aB, .ref aP, .ref aT, .ref aR, .ref aK, .ref aH, .ref aG, .ref aS])), (aS, .inl (ky 3, 4, .inr (.inr (.inr (.inr (shf aS0 aS1 aS2 aS3)))))), (aS0, .inr (4, [.ref aI0, .int (sla 0), .int (ssz 0)])), (aI0, .inl (ky 0, 36, .inl (sit 0))), (aS2, .inr (4, [.ref aI2, .int (sla 2), .int (ssz 2)])), (aI2, .inl (ky 0, 36, .inl (sit 2))), (aS3, .inr (4, [.ref aI3, .int (sla 3), .int (ssz 3)])), (aI3, .inl (ky 0, 36, .inl (sit 3)))]) rfl (by decide) rfl rfl hl.1 (Nat.le_of_ble_eq_true rfl) dX8_copy_36 ⟨Nat.zero_le _, Nat.zero_le _⟩ (fun H locs hP hD hS => ?_)
        refine lv_if_eq (tgt := 45) hx hb dX8_copy_39 (by decide) (fun c28 => ?_) (fun c28 => ?_)
        · have hF := if_t c28 hF
          refine lv_aload hx hb dX8_copy_45 (lv_at hl 1 rfl) ?_
          obtain ⟨r30, h29, hF⟩ := b1_s hF
          refine cl_vi (As := []) (rest := []) (w' := (w_xsh ky aX aB aP aT aR aK aH aG aS aS0 aS1 aS2 aS3 aI0 aI1 aI2 aI3 sla ssz sit)) ⟨hx, hb, hml, hown, hts⟩ hK hP hD hS hA (c_X5_laneNow l D ky aS0 aI0 _ N  (sla 0) (ssz 0) (sit 0)  r30 h29) (cwV 0 hts gX8_copy_X5_laneNow rfl rfl rfl (by decide +kernel) ⟨Nat.le_of_ble_eq_true rfl, Nat.le_of_ble_eq_true rfl⟩) [2, 3] [0, 1, 4, 5, 6, 7, 8, 9] [0, 1, 8, 9, 2, 3, 4, 5, 6, 7] 0 4 rfl rfl rfl rfl (wr := [(aX, .inr (7, [.ref aB, .ref aP, .ref aT, .ref aR, .ref aK, .ref aH, .ref aG, .ref aS])), (aS, .inl (ky 3, 4, .inr (.inr (.inr (.inr (shf aS0 aS1 aS2 aS3)))))), (aS1, .inr (4, [.ref aI1, .int (sla 1), .int (ssz 1)])), (aI1, .inl (ky 0, 36, .inl (sit 1))), (aS2, .inr (4, [.ref aI2, .int (sla 2), .int (ssz 2)])), (aI2, .inl (ky 0, 36, .inl (sit 2))), (aS3, .inr (4, [.ref aI3, .int (sla 3), .int (ssz 3)])), (aI3, .inl (ky 0, 36, .inl (sit 3)))]) rfl (by decide) rfl rfl hl.1 (Nat.le_of_ble_eq_true rfl) dX8_copy_47 ⟨Nat.zero_le _, Nat.zero_le _⟩ (fun H locs hP hD hS => ?_)
          refine lv_aload hx hb dX8_copy_50 (lv_at hl 0 rfl) ?_
          obtain ⟨r32, h31, hF⟩ := b1_s hF
          refine cl_vi (As := []) (rest := [.int r30]) (w' := (w_xsh ky aX aB aP aT aR aK aH aG aS aS0 aS1 aS2 aS3 aI0 aI1 aI2 aI3 sla ssz sit)) ⟨hx, hb, hml, hown, hts⟩ hK hP hD hS hA (c_X5_laneNow l D ky aS1 aI1 _ N  (sla 1) (ssz 1) (sit 1)  r32 h31) (cwV 0 hts gX8_copy_X5_laneNow rfl rfl rfl (by decide +kernel) ⟨Nat.le_of_ble_eq_true rfl, Nat.le_of_ble_eq_true rfl⟩) [4, 5] [0, 1, 2, 3, 6, 7, 8, 9] [0, 1, 2, 3, 8, 9, 4, 5, 6, 7] 0 4 rfl rfl rfl rfl (wr := [(aX, .inr (7, [.ref aB, .ref aP, .ref aT, .ref aR, .ref aK, .ref aH, .ref aG, .ref aS])), (aS, .inl (ky 3, 4, .inr (.inr (.inr (.inr (shf aS0 aS1 aS2 aS3)))))), (aS0, .inr (4, [.ref aI0, .int (sla 0), .int (ssz 0)])), (aI0, .inl (ky 0, 36, .inl (sit 0))), (aS2, .inr (4, [.ref aI2, .int (sla 2), .int (ssz 2)])), (aI2, .inl (ky 0, 36, .inl (sit 2))), (aS3, .inr (4, [.ref aI3, .int (sla 3), .int (ssz 3)])), (aI3, .inl (ky 0, 36, .inl (sit 3)))]) rfl (by decide) rfl rfl hl.1 (Nat.le_of_ble_eq_true rfl) dX8_copy_52 ⟨Nat.zero_le _, Nat.zero_le _⟩ (fun H locs hP hD hS => ?_)
          refine lv_icmp_eq (tgt := 61) hx hb dX8_copy_55 (by decide) (fun c33 => ?_) (fun c33 => ?_)
          · have hF := if_t c33 hF
            refine lv_aload hx hb dX8_copy_61 (lv_at hl 1 rfl) ?_
            refine lv_iload_n hx hb dX8_copy_63 rfl (lv_at hl 4 rfl) ?_
            refine lv_iload hx hb dX8_copy_64 (lv_at hl 7 rfl) ?_
            obtain ⟨r35, h34, hF⟩ := b1_s hF
            refine cl_vi (As := [.int p1, .int p4]) (rest := []) (w' := (w_xsh ky aX aB aP aT aR aK aH aG aS aS0 aS1 aS2 aS3 aI0 aI1 aI2 aI3 sla ssz sit)) ⟨hx, hb, hml, hown, hts⟩ hK hP hD hS hA (c_X5_covers l D ky aS0 aI0 _ N  (sla 0) (ssz 0) (sit 0) p1 p4 r35 h34) (cwV 2 hts gX8_copy_X5_covers rfl rfl rfl (by decide +kernel) ⟨Nat.le_of_ble_eq_true rfl, Nat.le_of_ble_eq_true rfl⟩) [2, 3] [0, 1, 4, 5, 6, 7, 8, 9] [0, 1, 8, 9, 2, 3, 4, 5, 6, 7] 0 4 rfl rfl rfl rfl (wr := [(aX, .inr (7, [.ref aB, .ref aP, .ref aT, .ref aR, .ref aK, .ref aH, .ref aG, .ref aS])), (aS, .inl (ky 3, 4, .inr (.inr (.inr (.inr (shf aS0 aS1 aS2 aS3)))))), (aS1, .inr (4, [.ref aI1, .int (sla 1), .int (ssz 1)])), (aI1, .inl (ky 0, 36, .inl (sit 1))), (aS2, .inr (4, [.ref aI2, .int (sla 2), .int (ssz 2)])), (aI2, .inl (ky 0, 36, .inl (sit 2))), (aS3, .inr (4, [.ref aI3, .int (sla 3), .int (ssz 3)])), (aI3, .inl (ky 0, 36, .inl (sit 3)))]) rfl (by decide) rfl rfl hl.1 (Nat.le_of_ble_eq_true rfl) dX8_copy_66 ⟨Nat.zero_le _, Nat.zero_le _⟩ (fun H locs hP hD hS => ?_)
            refine lv_if_eq (tgt := 84) hx hb dX8_copy_69 (by decide) (fun c36 => ?_) (fun c36 => ?_)
            · have hF := if_t c36 hF
              refine lv_bipush (v := (-13 : Int32)) hx hb dX8_copy_84 (by decide) ?_
              have hF := Option.some.inj hF
              subst hF
              exact hQ _ _ _ _ dX8_copy_86 hP hD hS
            · have hF := if_f c36 hF
              refine lv_aload hx hb dX8_copy_72 (lv_at hl 0 rfl) ?_
              refine lv_iload hx hb dX8_copy_74 (lv_at hl 6 rfl) ?_
              refine lv_iload hx hb dX8_copy_76 (lv_at hl 7 rfl) ?_
              obtain ⟨r38, h37, hF⟩ := b1_s hF
              refine cl_vi (As := [.int p3, .int p4]) (rest := []) (w' := (w_xsh ky aX aB aP aT aR aK aH aG aS aS0 aS1 aS2 aS3 aI0 aI1 aI2 aI3 sla ssz sit)) ⟨hx, hb, hml, hown, hts⟩ hK hP hD hS hA (c_X5_covers l D ky aS1 aI1 _ N  (sla 1) (ssz 1) (sit 1) p3 p4 r38 h37) (cwV 2 hts gX8_copy_X5_covers rfl rfl rfl (by decide +kernel) ⟨Nat.le_of_ble_eq_true rfl, Nat.le_of_ble_eq_true rfl⟩) [4, 5] [0, 1, 2, 3, 6, 7, 8, 9] [0, 1, 2, 3, 8, 9, 4, 5, 6, 7] 0 4 rfl rfl rfl rfl (wr := [(aX, .inr (7, [.ref aB, .ref aP, .ref aT, .ref aR, .ref aK, .ref aH, .ref aG, .ref aS])), (aS, .inl (ky 3, 4, .inr (.inr (.inr (.inr (shf aS0 aS1 aS2 aS3)))))), (aS0, .inr (4, [.ref aI0, .int (sla 0), .int (ssz 0)])), (aI0, .inl (ky 0, 36, .inl (sit 0))), (aS2, .inr (4, [.ref aI2, .int (sla 2), .int (ssz 2)])), (aI2, .inl (ky 0, 36, .inl (sit 2))), (aS3, .inr (4, [.ref aI3, .int (sla 3), .int (ssz 3)])), (aI3, .inl (ky 0, 36, .inl (sit 3)))]) rfl (by decide) rfl rfl hl.1 (Nat.le_of_ble_eq_true rfl) dX8_copy_78 ⟨Nat.zero_le _, Nat.zero_le _⟩ (fun H locs hP hD hS => ?_)
              refine lv_if_ne (tgt := 87) hx hb dX8_copy_81 (by decide) (fun c39 => ?_) (fun c39 => ?_)
              · have hF := if_f c39 hF
                refine lv_aload hx hb dX8_copy_87 (lv_at hl 0 rfl) ?_
                refine lv_iload hx hb dX8_copy_89 (lv_at hl 6 rfl) ?_
                refine lv_aload hx hb dX8_copy_91 (lv_at hl 1 rfl) ?_
                refine lv_iload_n hx hb dX8_copy_93 rfl (lv_at hl 4 rfl) ?_
                refine lv_iload hx hb dX8_copy_94 (lv_at hl 7 rfl) ?_
                obtain ⟨v41, h40, hF⟩ := b1_s hF
                refine cl_vv (As := [.int p3, .ref aS0, .int p1, .int p4]) (rest := []) (w' := (w_xsh ky aX aB aP aT aR aK aH aG aS aS0 aS1 aS2 aS3 aI0 aI1 aI2 aI3 sla ssz (va_up sit 1 v41))) ⟨hx, hb, hml, hown, hts⟩ hK hP hD hS hA (c_X5_take_two l D ky aS1 aI1 aS0 aI0 _ N  (sla 1) (ssz 1) (sit 1) (sla 0) (ssz 0) (sit 0) p3 p1 p4 v41 h40) (cwV 4 hts gX8_copy_X5_take rfl rfl rfl (by decide +kernel) ⟨Nat.le_of_ble_eq_true rfl, Nat.le_of_ble_eq_true rfl⟩) [4, 5, 2, 3] [0, 1, 6, 7, 8, 9] [0, 1, 8, 9, 6, 7, 2, 3, 4, 5] 0 4 rfl rfl rfl rfl (wr := [(aX, .inr (7, [.ref aB, .ref aP, .ref aT, .ref aR, .ref aK, .ref aH, .ref aG, .ref aS])), (aS, .inl (ky 3, 4, .inr (.inr (.inr (.inr (shf aS0 aS1 aS2 aS3)))))), (aS2, .inr (4, [.ref aI2, .int (sla 2), .int (ssz 2)])), (aI2, .inl (ky 0, 36, .inl (sit 2))), (aS3, .inr (4, [.ref aI3, .int (sla 3), .int (ssz 3)])), (aI3, .inl (ky 0, 36, .inl (sit 3)))]) rfl (by decide) rfl rfl hl.1 (Nat.le_of_ble_eq_true rfl) dX8_copy_96 ⟨Nat.zero_le _, Nat.zero_le _⟩ (fun H locs hP hD hS => ?_)
                refine lv_iload hx hb dX8_copy_99 (lv_at hl 7 rfl) ?_
                have hF := Option.some.inj hF
                subst hF
                exact hQ _ _ _ _ dX8_copy_101 hP hD hS
              · have hF := if_t c39 hF
                refine lv_bipush (v := (-13 : Int32)) hx hb dX8_copy_84 (by decide) ?_
                have hF := Option.some.inj hF
                subst hF
                exact hQ _ _ _ _ dX8_copy_86 hP hD hS
          · have hF := if_f c33 hF
            refine lv_bipush (v := (-12 : Int32)) hx hb dX8_copy_58 (by decide) ?_
            have hF := Option.some.inj hF
            subst hF
            exact hQ _ _ _ _ dX8_copy_60 hP hD hS
        · have hF := if_f c28 hF
          refine lv_bipush (v := (-11 : Int32)) hx hb dX8_copy_42 (by decide) ?_
          have hF := Option.some.inj hF
          subst hF
          exact hQ _ _ _ _ dX8_copy_44 hP hD hS
    · refine cl_vq (ro := (some aS2)) (As := [.int p2]) (rest := []) (w' := (w_xsh ky aX aB aP aT aR aK aH aG aS aS0 aS1 aS2 aS3 aI0 aI1 aI2 aI3 sla ssz sit)) ⟨hx, hb, hml, hown, hts⟩ hK hP hD hS hA (c_X8_sheetAt l D ky aX aB aP aT aR aK aH aG aS aS0 aS1 aS2 aS3 _ p2 (some aS2) (Or.inr ⟨by rw [h3]; decide, by rw [h3]; rfl⟩)) (cwV 1 hts gX8_copy_X8_sheetAt rfl rfl rfl (by decide +kernel) ⟨Nat.le_of_ble_eq_true rfl, Nat.le_of_ble_eq_true rfl⟩) [0, 1] [2, 3, 4, 5, 6, 7, 8, 9] [8, 9, 0, 1, 2, 3, 4, 5, 6, 7] 0 7 rfl rfl rfl rfl (wr := [(aS0, .inr (4, [.ref aI0, .int (sla 0), .int (ssz 0)])), (aI0, .inl (ky 0, 36, .inl (sit 0))), (aS1, .inr (4, [.ref aI1, .int (sla 1), .int (ssz 1)])), (aI1, .inl (ky 0, 36, .inl (sit 1))), (aS2, .inr (4, [.ref aI2, .int (sla 2), .int (ssz 2)])), (aI2, .inl (ky 0, 36, .inl (sit 2))), (aS3, .inr (4, [.ref aI3, .int (sla 3), .int (ssz 3)])), (aI3, .inl (ky 0, 36, .inl (sit 3)))]) rfl (by decide) rfl rfl hl.1 (Nat.le_of_ble_eq_true rfl) dX8_copy_9 ⟨Nat.zero_le _, Nat.zero_le _⟩ (fun H locs hP hD hS => ?_)
      refine lv_astore (lv' := [(7, .ref aS2), (6, .ref aS0), (0, .ref aX), (1, .int p0), (2, .int p1), (3, .int p2), (4, .int p3), (5, .int p4)]) hx hb dX8_copy_12 hl (by decide) rfl (fun ls hl => ?_)
      refine lv_aload hx hb dX8_copy_14 (lv_at hl 1 rfl) ?_
      refine lv_ifnull hx hb dX8_copy_16 ?_
      refine lv_aload hx hb dX8_copy_19 (lv_at hl 0 rfl) ?_
      refine lv_ifnonnull (tgt := 26) hx hb dX8_copy_21 (by decide) ?_
      refine lv_aload hx hb dX8_copy_26 (lv_at hl 1 rfl) ?_
      obtain ⟨r43, h42, hF⟩ := b1_s hF
      refine cl_vi (As := []) (rest := []) (w' := (w_xsh ky aX aB aP aT aR aK aH aG aS aS0 aS1 aS2 aS3 aI0 aI1 aI2 aI3 sla ssz sit)) ⟨hx, hb, hml, hown, hts⟩ hK hP hD hS hA (c_X5_isNothing l D ky aS0 aI0 _ N  (sla 0) (ssz 0) (sit 0)  r43 h42) (cwV 0 hts gX8_copy_X5_isNothing rfl rfl rfl (by decide +kernel) ⟨Nat.le_of_ble_eq_true rfl, Nat.le_of_ble_eq_true rfl⟩) [2, 3] [0, 1, 4, 5, 6, 7, 8, 9] [0, 1, 8, 9, 2, 3, 4, 5, 6, 7] 0 4 rfl rfl rfl rfl (wr := [(aX, .inr (7, [.ref aB, .ref aP, .ref aT, .ref aR, .ref aK, .ref aH, .ref aG, .ref aS])), (aS, .inl (ky 3, 4, .inr (.inr (.inr (.inr (shf aS0 aS1 aS2 aS3)))))), (aS1, .inr (4, [.ref aI1, .int (sla 1), .int (ssz 1)])), (aI1, .inl (ky 0, 36, .inl (sit 1))), (aS2, .inr (4, [.ref aI2, .int (sla 2), .int (ssz 2)])), (aI2, .inl (ky 0, 36, .inl (sit 2))), (aS3, .inr (4, [.ref aI3, .int (sla 3), .int (ssz 3)])), (aI3, .inl (ky 0, 36, .inl (sit 3)))]) rfl (by decide) rfl rfl hl.1 (Nat.le_of_ble_eq_true rfl) dX8_copy_28 ⟨Nat.zero_le _, Nat.zero_le _⟩ (fun H locs hP hD hS => ?_)
      refine lv_if_ne (tgt := 42) hx hb dX8_copy_31 (by decide) (fun c44 => ?_) (fun c44 => ?_)
      · have hF := if_f c44 hF
        refine lv_bipush (v := (-11 : Int32)) hx hb dX8_copy_42 (by decide) ?_
        have hF := Option.some.inj hF
        subst hF
        exact hQ _ _ _ _ dX8_copy_44 hP hD hS
      · have hF := if_t c44 hF
        refine lv_aload hx hb dX8_copy_34 (lv_at hl 0 rfl) ?_
        obtain ⟨r46, h45, hF⟩ := b1_s hF
        refine cl_vi (As := []) (rest := []) (w' := (w_xsh ky aX aB aP aT aR aK aH aG aS aS0 aS1 aS2 aS3 aI0 aI1 aI2 aI3 sla ssz sit)) ⟨hx, hb, hml, hown, hts⟩ hK hP hD hS hA (c_X5_isNothing l D ky aS2 aI2 _ N  (sla 2) (ssz 2) (sit 2)  r46 h45) (cwV 0 hts gX8_copy_X5_isNothing rfl rfl rfl (by decide +kernel) ⟨Nat.le_of_ble_eq_true rfl, Nat.le_of_ble_eq_true rfl⟩) [6, 7] [0, 1, 2, 3, 4, 5, 8, 9] [0, 1, 2, 3, 4, 5, 8, 9, 6, 7] 0 4 rfl rfl rfl rfl (wr := [(aX, .inr (7, [.ref aB, .ref aP, .ref aT, .ref aR, .ref aK, .ref aH, .ref aG, .ref aS])), (aS, .inl (ky 3, 4, .inr (.inr (.inr (.inr (shf aS0 aS1 aS2 aS3)))))), (aS0, .inr (4, [.ref aI0, .int (sla 0), .int (ssz 0)])), (aI0, .inl (ky 0, 36, .inl (sit 0))), (aS1, .inr (4, [.ref aI1, .int (sla 1), .int (ssz 1)])), (aI1, .inl (ky 0, 36, .inl (sit 1))), (aS3, .inr (4, [.ref aI3, .int (sla 3), .int (ssz 3)])), (aI3, .inl (ky 0, 36, .inl (sit 3)))]) rfl (by decide) rfl rfl hl.1 (Nat.le_of_ble_eq_true rfl) dX8_copy_36 ⟨Nat.zero_le _, Nat.zero_le _⟩ (fun H locs hP hD hS => ?_)
        refine lv_if_eq (tgt := 45) hx hb dX8_copy_39 (by decide) (fun c47 => ?_) (fun c47 => ?_)
        · have hF := if_t c47 hF
          refine lv_aload hx hb dX8_copy_45 (lv_at hl 1 rfl) ?_
          obtain ⟨r49, h48, hF⟩ := b1_s hF
          refine cl_vi (As := []) (rest := []) (w' := (w_xsh ky aX aB aP aT aR aK aH aG aS aS0 aS1 aS2 aS3 aI0 aI1 aI2 aI3 sla ssz sit)) ⟨hx, hb, hml, hown, hts⟩ hK hP hD hS hA (c_X5_laneNow l D ky aS0 aI0 _ N  (sla 0) (ssz 0) (sit 0)  r49 h48) (cwV 0 hts gX8_copy_X5_laneNow rfl rfl rfl (by decide +kernel) ⟨Nat.le_of_ble_eq_true rfl, Nat.le_of_ble_eq_true rfl⟩) [2, 3] [0, 1, 4, 5, 6, 7, 8, 9] [0, 1, 8, 9, 2, 3, 4, 5, 6, 7] 0 4 rfl rfl rfl rfl (wr := [(aX, .inr (7, [.ref aB, .ref aP, .ref aT, .ref aR, .ref aK, .ref aH, .ref aG, .ref aS])), (aS, .inl (ky 3, 4, .inr (.inr (.inr (.inr (shf aS0 aS1 aS2 aS3)))))), (aS1, .inr (4, [.ref aI1, .int (sla 1), .int (ssz 1)])), (aI1, .inl (ky 0, 36, .inl (sit 1))), (aS2, .inr (4, [.ref aI2, .int (sla 2), .int (ssz 2)])), (aI2, .inl (ky 0, 36, .inl (sit 2))), (aS3, .inr (4, [.ref aI3, .int (sla 3), .int (ssz 3)])), (aI3, .inl (ky 0, 36, .inl (sit 3)))]) rfl (by decide) rfl rfl hl.1 (Nat.le_of_ble_eq_true rfl) dX8_copy_47 ⟨Nat.zero_le _, Nat.zero_le _⟩ (fun H locs hP hD hS => ?_)
          refine lv_aload hx hb dX8_copy_50 (lv_at hl 0 rfl) ?_
          obtain ⟨r51, h50, hF⟩ := b1_s hF
          refine cl_vi (As := []) (rest := [.int r49]) (w' := (w_xsh ky aX aB aP aT aR aK aH aG aS aS0 aS1 aS2 aS3 aI0 aI1 aI2 aI3 sla ssz sit)) ⟨hx, hb, hml, hown, hts⟩ hK hP hD hS hA (c_X5_laneNow l D ky aS2 aI2 _ N  (sla 2) (ssz 2) (sit 2)  r51 h50) (cwV 0 hts gX8_copy_X5_laneNow rfl rfl rfl (by decide +kernel) ⟨Nat.le_of_ble_eq_true rfl, Nat.le_of_ble_eq_true rfl⟩) [6, 7] [0, 1, 2, 3, 4, 5, 8, 9] [0, 1, 2, 3, 4, 5, 8, 9, 6, 7] 0 4 rfl rfl rfl rfl (wr := [(aX, .inr (7, [.ref aB, .ref aP, .ref aT, .ref aR, .ref aK, .ref aH, .ref aG, .ref aS])), (aS, .inl (ky 3, 4, .inr (.inr (.inr (.inr (shf aS0 aS1 aS2 aS3)))))), (aS0, .inr (4, [.ref aI0, .int (sla 0), .int (ssz 0)])), (aI0, .inl (ky 0, 36, .inl (sit 0))), (aS1, .inr (4, [.ref aI1, .int (sla 1), .int (ssz 1)])), (aI1, .inl (ky 0, 36, .inl (sit 1))), (aS3, .inr (4, [.ref aI3, .int (sla 3), .int (ssz 3)])), (aI3, .inl (ky 0, 36, .inl (sit 3)))]) rfl (by decide) rfl rfl hl.1 (Nat.le_of_ble_eq_true rfl) dX8_copy_52 ⟨Nat.zero_le _, Nat.zero_le _⟩ (fun H locs hP hD hS => ?_)
          refine lv_icmp_eq (tgt := 61) hx hb dX8_copy_55 (by decide) (fun c52 => ?_) (fun c52 => ?_)
          · have hF := if_t c52 hF
            refine lv_aload hx hb dX8_copy_61 (lv_at hl 1 rfl) ?_
            refine lv_iload_n hx hb dX8_copy_63 rfl (lv_at hl 4 rfl) ?_
            refine lv_iload hx hb dX8_copy_64 (lv_at hl 7 rfl) ?_
            obtain ⟨r54, h53, hF⟩ := b1_s hF
            refine cl_vi (As := [.int p1, .int p4]) (rest := []) (w' := (w_xsh ky aX aB aP aT aR aK aH aG aS aS0 aS1 aS2 aS3 aI0 aI1 aI2 aI3 sla ssz sit)) ⟨hx, hb, hml, hown, hts⟩ hK hP hD hS hA (c_X5_covers l D ky aS0 aI0 _ N  (sla 0) (ssz 0) (sit 0) p1 p4 r54 h53) (cwV 2 hts gX8_copy_X5_covers rfl rfl rfl (by decide +kernel) ⟨Nat.le_of_ble_eq_true rfl, Nat.le_of_ble_eq_true rfl⟩) [2, 3] [0, 1, 4, 5, 6, 7, 8, 9] [0, 1, 8, 9, 2, 3, 4, 5, 6, 7] 0 4 rfl rfl rfl rfl (wr := [(aX, .inr (7, [.ref aB, .ref aP, .ref aT, .ref aR, .ref aK, .ref aH, .ref aG, .ref aS])), (aS, .inl (ky 3, 4, .inr (.inr (.inr (.inr (shf aS0 aS1 aS2 aS3)))))), (aS1, .inr (4, [.ref aI1, .int (sla 1), .int (ssz 1)])), (aI1, .inl (ky 0, 36, .inl (sit 1))), (aS2, .inr (4, [.ref aI2, .int (sla 2), .int (ssz 2)])), (aI2, .inl (ky 0, 36, .inl (sit 2))), (aS3, .inr (4, [.ref aI3, .int (sla 3), .int (ssz 3)])), (aI3, .inl (ky 0, 36, .inl (sit 3)))]) rfl (by decide) rfl rfl hl.1 (Nat.le_of_ble_eq_true rfl) dX8_copy_66 ⟨Nat.zero_le _, Nat.zero_le _⟩ (fun H locs hP hD hS => ?_)
            refine lv_if_eq (tgt := 84) hx hb dX8_copy_69 (by decide) (fun c55 => ?_) (fun c55 => ?_)
            · have hF := if_t c55 hF
              refine lv_bipush (v := (-13 : Int32)) hx hb dX8_copy_84 (by decide) ?_
              have hF := Option.some.inj hF
              subst hF
              exact hQ _ _ _ _ dX8_copy_86 hP hD hS
            · have hF := if_f c55 hF
              refine lv_aload hx hb dX8_copy_72 (lv_at hl 0 rfl) ?_
              refine lv_iload hx hb dX8_copy_74 (lv_at hl 6 rfl) ?_
              refine lv_iload hx hb dX8_copy_76 (lv_at hl 7 rfl) ?_
              obtain ⟨r57, h56, hF⟩ := b1_s hF
              refine cl_vi (As := [.int p3, .int p4]) (rest := []) (w' := (w_xsh ky aX aB aP aT aR aK aH aG aS aS0 aS1 aS2 aS3 aI0 aI1 aI2 aI3 sla ssz sit)) ⟨hx, hb, hml, hown, hts⟩ hK hP hD hS hA (c_X5_covers l D ky aS2 aI2 _ N  (sla 2) (ssz 2) (sit 2) p3 p4 r57 h56) (cwV 2 hts gX8_copy_X5_covers rfl rfl rfl (by decide +kernel) ⟨Nat.le_of_ble_eq_true rfl, Nat.le_of_ble_eq_true rfl⟩) [6, 7] [0, 1, 2, 3, 4, 5, 8, 9] [0, 1, 2, 3, 4, 5, 8, 9, 6, 7] 0 4 rfl rfl rfl rfl (wr := [(aX, .inr (7, [.ref aB, .ref aP, .ref aT, .ref aR, .ref aK, .ref aH, .ref aG, .ref aS])), (aS, .inl (ky 3, 4, .inr (.inr (.inr (.inr (shf aS0 aS1 aS2 aS3)))))), (aS0, .inr (4, [.ref aI0, .int (sla 0), .int (ssz 0)])), (aI0, .inl (ky 0, 36, .inl (sit 0))), (aS1, .inr (4, [.ref aI1, .int (sla 1), .int (ssz 1)])), (aI1, .inl (ky 0, 36, .inl (sit 1))), (aS3, .inr (4, [.ref aI3, .int (sla 3), .int (ssz 3)])), (aI3, .inl (ky 0, 36, .inl (sit 3)))]) rfl (by decide) rfl rfl hl.1 (Nat.le_of_ble_eq_true rfl) dX8_copy_78 ⟨Nat.zero_le _, Nat.zero_le _⟩ (fun H locs hP hD hS => ?_)
              refine lv_if_ne (tgt := 87) hx hb dX8_copy_81 (by decide) (fun c58 => ?_) (fun c58 => ?_)
              · have hF := if_f c58 hF
                refine lv_aload hx hb dX8_copy_87 (lv_at hl 0 rfl) ?_
                refine lv_iload hx hb dX8_copy_89 (lv_at hl 6 rfl) ?_
                refine lv_aload hx hb dX8_copy_91 (lv_at hl 1 rfl) ?_
                refine lv_iload_n hx hb dX8_copy_93 rfl (lv_at hl 4 rfl) ?_
                refine lv_iload hx hb dX8_copy_94 (lv_at hl 7 rfl) ?_
                obtain ⟨v60, h59, hF⟩ := b1_s hF
                refine cl_vv (As := [.int p3, .ref aS0, .int p1, .int p4]) (rest := []) (w' := (w_xsh ky aX aB aP aT aR aK aH aG aS aS0 aS1 aS2 aS3 aI0 aI1 aI2 aI3 sla ssz (va_up sit 2 v60))) ⟨hx, hb, hml, hown, hts⟩ hK hP hD hS hA (c_X5_take_two l D ky aS2 aI2 aS0 aI0 _ N  (sla 2) (ssz 2) (sit 2) (sla 0) (ssz 0) (sit 0) p3 p1 p4 v60 h59) (cwV 4 hts gX8_copy_X5_take rfl rfl rfl (by decide +kernel) ⟨Nat.le_of_ble_eq_true rfl, Nat.le_of_ble_eq_true rfl⟩) [6, 7, 2, 3] [0, 1, 4, 5, 8, 9] [0, 1, 8, 9, 2, 3, 6, 7, 4, 5] 0 4 rfl rfl rfl rfl (wr := [(aX, .inr (7, [.ref aB, .ref aP, .ref aT, .ref aR, .ref aK, .ref aH, .ref aG, .ref aS])), (aS, .inl (ky 3, 4, .inr (.inr (.inr (.inr (shf aS0 aS1 aS2 aS3)))))), (aS1, .inr (4, [.ref aI1, .int (sla 1), .int (ssz 1)])), (aI1, .inl (ky 0, 36, .inl (sit 1))), (aS3, .inr (4, [.ref aI3, .int (sla 3), .int (ssz 3)])), (aI3, .inl (ky 0, 36, .inl (sit 3)))]) rfl (by decide) rfl rfl hl.1 (Nat.le_of_ble_eq_true rfl) dX8_copy_96 ⟨Nat.zero_le _, Nat.zero_le _⟩ (fun H locs hP hD hS => ?_)
                refine lv_iload hx hb dX8_copy_99 (lv_at hl 7 rfl) ?_
                have hF := Option.some.inj hF
                subst hF
                exact hQ _ _ _ _ dX8_copy_101 hP hD hS
              · have hF := if_t c58 hF
                refine lv_bipush (v := (-13 : Int32)) hx hb dX8_copy_84 (by decide) ?_
                have hF := Option.some.inj hF
                subst hF
                exact hQ _ _ _ _ dX8_copy_86 hP hD hS
          · have hF := if_f c52 hF
            refine lv_bipush (v := (-12 : Int32)) hx hb dX8_copy_58 (by decide) ?_
            have hF := Option.some.inj hF
            subst hF
            exact hQ _ _ _ _ dX8_copy_60 hP hD hS
        · have hF := if_f c47 hF
          refine lv_bipush (v := (-11 : Int32)) hx hb dX8_copy_42 (by decide) ?_
          have hF := Option.some.inj hF
          subst hF
          exact hQ _ _ _ _ dX8_copy_44 hP hD hS
    · refine cl_vq (ro := (some aS3)) (As := [.int p2]) (rest := []) (w' := (w_xsh ky aX aB aP aT aR aK aH aG aS aS0 aS1 aS2 aS3 aI0 aI1 aI2 aI3 sla ssz sit)) ⟨hx, hb, hml, hown, hts⟩ hK hP hD hS hA (c_X8_sheetAt l D ky aX aB aP aT aR aK aH aG aS aS0 aS1 aS2 aS3 _ p2 (some aS3) (Or.inr ⟨by rw [h3]; decide, by rw [h3]; rfl⟩)) (cwV 1 hts gX8_copy_X8_sheetAt rfl rfl rfl (by decide +kernel) ⟨Nat.le_of_ble_eq_true rfl, Nat.le_of_ble_eq_true rfl⟩) [0, 1] [2, 3, 4, 5, 6, 7, 8, 9] [8, 9, 0, 1, 2, 3, 4, 5, 6, 7] 0 7 rfl rfl rfl rfl (wr := [(aS0, .inr (4, [.ref aI0, .int (sla 0), .int (ssz 0)])), (aI0, .inl (ky 0, 36, .inl (sit 0))), (aS1, .inr (4, [.ref aI1, .int (sla 1), .int (ssz 1)])), (aI1, .inl (ky 0, 36, .inl (sit 1))), (aS2, .inr (4, [.ref aI2, .int (sla 2), .int (ssz 2)])), (aI2, .inl (ky 0, 36, .inl (sit 2))), (aS3, .inr (4, [.ref aI3, .int (sla 3), .int (ssz 3)])), (aI3, .inl (ky 0, 36, .inl (sit 3)))]) rfl (by decide) rfl rfl hl.1 (Nat.le_of_ble_eq_true rfl) dX8_copy_9 ⟨Nat.zero_le _, Nat.zero_le _⟩ (fun H locs hP hD hS => ?_)
      refine lv_astore (lv' := [(7, .ref aS3), (6, .ref aS0), (0, .ref aX), (1, .int p0), (2, .int p1), (3, .int p2), (4, .int p3), (5, .int p4)]) hx hb dX8_copy_12 hl (by decide) rfl (fun ls hl => ?_)
      refine lv_aload hx hb dX8_copy_14 (lv_at hl 1 rfl) ?_
      refine lv_ifnull hx hb dX8_copy_16 ?_
      refine lv_aload hx hb dX8_copy_19 (lv_at hl 0 rfl) ?_
      refine lv_ifnonnull (tgt := 26) hx hb dX8_copy_21 (by decide) ?_
      refine lv_aload hx hb dX8_copy_26 (lv_at hl 1 rfl) ?_
      obtain ⟨r62, h61, hF⟩ := b1_s hF
      refine cl_vi (As := []) (rest := []) (w' := (w_xsh ky aX aB aP aT aR aK aH aG aS aS0 aS1 aS2 aS3 aI0 aI1 aI2 aI3 sla ssz sit)) ⟨hx, hb, hml, hown, hts⟩ hK hP hD hS hA (c_X5_isNothing l D ky aS0 aI0 _ N  (sla 0) (ssz 0) (sit 0)  r62 h61) (cwV 0 hts gX8_copy_X5_isNothing rfl rfl rfl (by decide +kernel) ⟨Nat.le_of_ble_eq_true rfl, Nat.le_of_ble_eq_true rfl⟩) [2, 3] [0, 1, 4, 5, 6, 7, 8, 9] [0, 1, 8, 9, 2, 3, 4, 5, 6, 7] 0 4 rfl rfl rfl rfl (wr := [(aX, .inr (7, [.ref aB, .ref aP, .ref aT, .ref aR, .ref aK, .ref aH, .ref aG, .ref aS])), (aS, .inl (ky 3, 4, .inr (.inr (.inr (.inr (shf aS0 aS1 aS2 aS3)))))), (aS1, .inr (4, [.ref aI1, .int (sla 1), .int (ssz 1)])), (aI1, .inl (ky 0, 36, .inl (sit 1))), (aS2, .inr (4, [.ref aI2, .int (sla 2), .int (ssz 2)])), (aI2, .inl (ky 0, 36, .inl (sit 2))), (aS3, .inr (4, [.ref aI3, .int (sla 3), .int (ssz 3)])), (aI3, .inl (ky 0, 36, .inl (sit 3)))]) rfl (by decide) rfl rfl hl.1 (Nat.le_of_ble_eq_true rfl) dX8_copy_28 ⟨Nat.zero_le _, Nat.zero_le _⟩ (fun H locs hP hD hS => ?_)
      refine lv_if_ne (tgt := 42) hx hb dX8_copy_31 (by decide) (fun c63 => ?_) (fun c63 => ?_)
      · have hF := if_f c63 hF
        refine lv_bipush (v := (-11 : Int32)) hx hb dX8_copy_42 (by decide) ?_
        have hF := Option.some.inj hF
        subst hF
        exact hQ _ _ _ _ dX8_copy_44 hP hD hS
      · have hF := if_t c63 hF
        refine lv_aload hx hb dX8_copy_34 (lv_at hl 0 rfl) ?_
        obtain ⟨r65, h64, hF⟩ := b1_s hF
        refine cl_vi (As := []) (rest := []) (w' := (w_xsh ky aX aB aP aT aR aK aH aG aS aS0 aS1 aS2 aS3 aI0 aI1 aI2 aI3 sla ssz sit)) ⟨hx, hb, hml, hown, hts⟩ hK hP hD hS hA (c_X5_isNothing l D ky aS3 aI3 _ N  (sla 3) (ssz 3) (sit 3)  r65 h64) (cwV 0 hts gX8_copy_X5_isNothing rfl rfl rfl (by decide +kernel) ⟨Nat.le_of_ble_eq_true rfl, Nat.le_of_ble_eq_true rfl⟩) [8, 9] [0, 1, 2, 3, 4, 5, 6, 7] [0, 1, 2, 3, 4, 5, 6, 7, 8, 9] 0 4 rfl rfl rfl rfl (wr := [(aX, .inr (7, [.ref aB, .ref aP, .ref aT, .ref aR, .ref aK, .ref aH, .ref aG, .ref aS])), (aS, .inl (ky 3, 4, .inr (.inr (.inr (.inr (shf aS0 aS1 aS2 aS3)))))), (aS0, .inr (4, [.ref aI0, .int (sla 0), .int (ssz 0)])), (aI0, .inl (ky 0, 36, .inl (sit 0))), (aS1, .inr (4, [.ref aI1, .int (sla 1), .int (ssz 1)])), (aI1, .inl (ky 0, 36, .inl (sit 1))), (aS2, .inr (4, [.ref aI2, .int (sla 2), .int (ssz 2)])), (aI2, .inl (ky 0, 36, .inl (sit 2)))]) rfl (by decide) rfl rfl hl.1 (Nat.le_of_ble_eq_true rfl) dX8_copy_36 ⟨Nat.zero_le _, Nat.zero_le _⟩ (fun H locs hP hD hS => ?_)
        refine lv_if_eq (tgt := 45) hx hb dX8_copy_39 (by decide) (fun c66 => ?_) (fun c66 => ?_)
        · have hF := if_t c66 hF
          refine lv_aload hx hb dX8_copy_45 (lv_at hl 1 rfl) ?_
          obtain ⟨r68, h67, hF⟩ := b1_s hF
          refine cl_vi (As := []) (rest := []) (w' := (w_xsh ky aX aB aP aT aR aK aH aG aS aS0 aS1 aS2 aS3 aI0 aI1 aI2 aI3 sla ssz sit)) ⟨hx, hb, hml, hown, hts⟩ hK hP hD hS hA (c_X5_laneNow l D ky aS0 aI0 _ N  (sla 0) (ssz 0) (sit 0)  r68 h67) (cwV 0 hts gX8_copy_X5_laneNow rfl rfl rfl (by decide +kernel) ⟨Nat.le_of_ble_eq_true rfl, Nat.le_of_ble_eq_true rfl⟩) [2, 3] [0, 1, 4, 5, 6, 7, 8, 9] [0, 1, 8, 9, 2, 3, 4, 5, 6, 7] 0 4 rfl rfl rfl rfl (wr := [(aX, .inr (7, [.ref aB, .ref aP, .ref aT, .ref aR, .ref aK, .ref aH, .ref aG, .ref aS])), (aS, .inl (ky 3, 4, .inr (.inr (.inr (.inr (shf aS0 aS1 aS2 aS3)))))), (aS1, .inr (4, [.ref aI1, .int (sla 1), .int (ssz 1)])), (aI1, .inl (ky 0, 36, .inl (sit 1))), (aS2, .inr (4, [.ref aI2, .int (sla 2), .int (ssz 2)])), (aI2, .inl (ky 0, 36, .inl (sit 2))), (aS3, .inr (4, [.ref aI3, .int (sla 3), .int (ssz 3)])), (aI3, .inl (ky 0, 36, .inl (sit 3)))]) rfl (by decide) rfl rfl hl.1 (Nat.le_of_ble_eq_true rfl) dX8_copy_47 ⟨Nat.zero_le _, Nat.zero_le _⟩ (fun H locs hP hD hS => ?_)
          refine lv_aload hx hb dX8_copy_50 (lv_at hl 0 rfl) ?_
          obtain ⟨r70, h69, hF⟩ := b1_s hF
          refine cl_vi (As := []) (rest := [.int r68]) (w' := (w_xsh ky aX aB aP aT aR aK aH aG aS aS0 aS1 aS2 aS3 aI0 aI1 aI2 aI3 sla ssz sit)) ⟨hx, hb, hml, hown, hts⟩ hK hP hD hS hA (c_X5_laneNow l D ky aS3 aI3 _ N  (sla 3) (ssz 3) (sit 3)  r70 h69) (cwV 0 hts gX8_copy_X5_laneNow rfl rfl rfl (by decide +kernel) ⟨Nat.le_of_ble_eq_true rfl, Nat.le_of_ble_eq_true rfl⟩) [8, 9] [0, 1, 2, 3, 4, 5, 6, 7] [0, 1, 2, 3, 4, 5, 6, 7, 8, 9] 0 4 rfl rfl rfl rfl (wr := [(aX, .inr (7, [.ref aB, .ref aP, .ref aT, .ref aR, .ref aK, .ref aH, .ref aG, .ref aS])), (aS, .inl (ky 3, 4, .inr (.inr (.inr (.inr (shf aS0 aS1 aS2 aS3)))))), (aS0, .inr (4, [.ref aI0, .int (sla 0), .int (ssz 0)])), (aI0, .inl (ky 0, 36, .inl (sit 0))), (aS1, .inr (4, [.ref aI1, .int (sla 1), .int (ssz 1)])), (aI1, .inl (ky 0, 36, .inl (sit 1))), (aS2, .inr (4, [.ref aI2, .int (sla 2), .int (ssz 2)])), (aI2, .inl (ky 0, 36, .inl (sit 2)))]) rfl (by decide) rfl rfl hl.1 (Nat.le_of_ble_eq_true rfl) dX8_copy_52 ⟨Nat.zero_le _, Nat.zero_le _⟩ (fun H locs hP hD hS => ?_)
          refine lv_icmp_eq (tgt := 61) hx hb dX8_copy_55 (by decide) (fun c71 => ?_) (fun c71 => ?_)
          · have hF := if_t c71 hF
            refine lv_aload hx hb dX8_copy_61 (lv_at hl 1 rfl) ?_
            refine lv_iload_n hx hb dX8_copy_63 rfl (lv_at hl 4 rfl) ?_
            refine lv_iload hx hb dX8_copy_64 (lv_at hl 7 rfl) ?_
            obtain ⟨r73, h72, hF⟩ := b1_s hF
            refine cl_vi (As := [.int p1, .int p4]) (rest := []) (w' := (w_xsh ky aX aB aP aT aR aK aH aG aS aS0 aS1 aS2 aS3 aI0 aI1 aI2 aI3 sla ssz sit)) ⟨hx, hb, hml, hown, hts⟩ hK hP hD hS hA (c_X5_covers l D ky aS0 aI0 _ N  (sla 0) (ssz 0) (sit 0) p1 p4 r73 h72) (cwV 2 hts gX8_copy_X5_covers rfl rfl rfl (by decide +kernel) ⟨Nat.le_of_ble_eq_true rfl, Nat.le_of_ble_eq_true rfl⟩) [2, 3] [0, 1, 4, 5, 6, 7, 8, 9] [0, 1, 8, 9, 2, 3, 4, 5, 6, 7] 0 4 rfl rfl rfl rfl (wr := [(aX, .inr (7, [.ref aB, .ref aP, .ref aT, .ref aR, .ref aK, .ref aH, .ref aG, .ref aS])), (aS, .inl (ky 3, 4, .inr (.inr (.inr (.inr (shf aS0 aS1 aS2 aS3)))))), (aS1, .inr (4, [.ref aI1, .int (sla 1), .int (ssz 1)])), (aI1, .inl (ky 0, 36, .inl (sit 1))), (aS2, .inr (4, [.ref aI2, .int (sla 2), .int (ssz 2)])), (aI2, .inl (ky 0, 36, .inl (sit 2))), (aS3, .inr (4, [.ref aI3, .int (sla 3), .int (ssz 3)])), (aI3, .inl (ky 0, 36, .inl (sit 3)))]) rfl (by decide) rfl rfl hl.1 (Nat.le_of_ble_eq_true rfl) dX8_copy_66 ⟨Nat.zero_le _, Nat.zero_le _⟩ (fun H locs hP hD hS => ?_)
            refine lv_if_eq (tgt := 84) hx hb dX8_copy_69 (by decide) (fun c74 => ?_) (fun c74 => ?_)
            · have hF := if_t c74 hF
              refine lv_bipush (v := (-13 : Int32)) hx hb dX8_copy_84 (by decide) ?_
              have hF := Option.some.inj hF
              subst hF
              exact hQ _ _ _ _ dX8_copy_86 hP hD hS
            · have hF := if_f c74 hF
              refine lv_aload hx hb dX8_copy_72 (lv_at hl 0 rfl) ?_
              refine lv_iload hx hb dX8_copy_74 (lv_at hl 6 rfl) ?_
              refine lv_iload hx hb dX8_copy_76 (lv_at hl 7 rfl) ?_
              obtain ⟨r76, h75, hF⟩ := b1_s hF
              refine cl_vi (As := [.int p3, .int p4]) (rest := []) (w' := (w_xsh ky aX aB aP aT aR aK aH aG aS aS0 aS1 aS2 aS3 aI0 aI1 aI2 aI3 sla ssz sit)) ⟨hx, hb, hml, hown, hts⟩ hK hP hD hS hA (c_X5_covers l D ky aS3 aI3 _ N  (sla 3) (ssz 3) (sit 3) p3 p4 r76 h75) (cwV 2 hts gX8_copy_X5_covers rfl rfl rfl (by decide +kernel) ⟨Nat.le_of_ble_eq_true rfl, Nat.le_of_ble_eq_true rfl⟩) [8, 9] [0, 1, 2, 3, 4, 5, 6, 7] [0, 1, 2, 3, 4, 5, 6, 7, 8, 9] 0 4 rfl rfl rfl rfl (wr := [(aX, .inr (7, [.ref aB, .ref aP, .ref aT, .ref aR, .ref aK, .ref aH, .ref aG, .ref aS])), (aS, .inl (ky 3, 4, .inr (.inr (.inr (.inr (shf aS0 aS1 aS2 aS3)))))), (aS0, .inr (4, [.ref aI0, .int (sla 0), .int (ssz 0)])), (aI0, .inl (ky 0, 36, .inl (sit 0))), (aS1, .inr (4, [.ref aI1, .int (sla 1), .int (ssz 1)])), (aI1, .inl (ky 0, 36, .inl (sit 1))), (aS2, .inr (4, [.ref aI2, .int (sla 2), .int (ssz 2)])), (aI2, .inl (ky 0, 36, .inl (sit 2)))]) rfl (by decide) rfl rfl hl.1 (Nat.le_of_ble_eq_true rfl) dX8_copy_78 ⟨Nat.zero_le _, Nat.zero_le _⟩ (fun H locs hP hD hS => ?_)
              refine lv_if_ne (tgt := 87) hx hb dX8_copy_81 (by decide) (fun c77 => ?_) (fun c77 => ?_)
              · have hF := if_f c77 hF
                refine lv_aload hx hb dX8_copy_87 (lv_at hl 0 rfl) ?_
                refine lv_iload hx hb dX8_copy_89 (lv_at hl 6 rfl) ?_
                refine lv_aload hx hb dX8_copy_91 (lv_at hl 1 rfl) ?_
                refine lv_iload_n hx hb dX8_copy_93 rfl (lv_at hl 4 rfl) ?_
                refine lv_iload hx hb dX8_copy_94 (lv_at hl 7 rfl) ?_
                obtain ⟨v79, h78, hF⟩ := b1_s hF
                refine cl_vv (As := [.int p3, .ref aS0, .int p1, .int p4]) (rest := []) (w' := (w_xsh ky aX aB aP aT aR aK aH aG aS aS0 aS1 aS2 aS3 aI0 aI1 aI2 aI3 sla ssz (va_up sit 3 v79))) ⟨hx, hb, hml, hown, hts⟩ hK hP hD hS hA (c_X5_take_two l D ky aS3 aI3 aS0 aI0 _ N  (sla 3) (ssz 3) (sit 3) (sla 0) (ssz 0) (sit 0) p3 p1 p4 v79 h78) (cwV 4 hts gX8_copy_X5_take rfl rfl rfl (by decide +kernel) ⟨Nat.le_of_ble_eq_true rfl, Nat.le_of_ble_eq_true rfl⟩) [8, 9, 2, 3] [0, 1, 4, 5, 6, 7] [0, 1, 8, 9, 2, 3, 4, 5, 6, 7] 0 4 rfl rfl rfl rfl (wr := [(aX, .inr (7, [.ref aB, .ref aP, .ref aT, .ref aR, .ref aK, .ref aH, .ref aG, .ref aS])), (aS, .inl (ky 3, 4, .inr (.inr (.inr (.inr (shf aS0 aS1 aS2 aS3)))))), (aS1, .inr (4, [.ref aI1, .int (sla 1), .int (ssz 1)])), (aI1, .inl (ky 0, 36, .inl (sit 1))), (aS2, .inr (4, [.ref aI2, .int (sla 2), .int (ssz 2)])), (aI2, .inl (ky 0, 36, .inl (sit 2)))]) rfl (by decide) rfl rfl hl.1 (Nat.le_of_ble_eq_true rfl) dX8_copy_96 ⟨Nat.zero_le _, Nat.zero_le _⟩ (fun H locs hP hD hS => ?_)
                refine lv_iload hx hb dX8_copy_99 (lv_at hl 7 rfl) ?_
                have hF := Option.some.inj hF
                subst hF
                exact hQ _ _ _ _ dX8_copy_101 hP hD hS
              · have hF := if_t c77 hF
                refine lv_bipush (v := (-13 : Int32)) hx hb dX8_copy_84 (by decide) ?_
                have hF := Option.some.inj hF
                subst hF
                exact hQ _ _ _ _ dX8_copy_86 hP hD hS
          · have hF := if_f c71 hF
            refine lv_bipush (v := (-12 : Int32)) hx hb dX8_copy_58 (by decide) ?_
            have hF := Option.some.inj hF
            subst hF
            exact hQ _ _ _ _ dX8_copy_60 hP hD hS
        · have hF := if_f c66 hF
          refine lv_bipush (v := (-11 : Int32)) hx hb dX8_copy_42 (by decide) ?_
          have hF := Option.some.inj hF
          subst hF
          exact hQ _ _ _ _ dX8_copy_44 hP hD hS
  · refine cl_vq (ro := (some aS1)) (As := [.int p0]) (rest := []) (w' := (w_xsh ky aX aB aP aT aR aK aH aG aS aS0 aS1 aS2 aS3 aI0 aI1 aI2 aI3 sla ssz sit)) ⟨hx, hb, hml, hown, hts⟩ hK hP hD hS hA (c_X8_sheetAt l D ky aX aB aP aT aR aK aH aG aS aS0 aS1 aS2 aS3 _ p0 (some aS1) (Or.inr ⟨by rw [h1]; decide, by rw [h1]; rfl⟩)) (cwV 1 hts gX8_copy_X8_sheetAt rfl rfl rfl (by decide +kernel) ⟨Nat.le_of_ble_eq_true rfl, Nat.le_of_ble_eq_true rfl⟩) [0, 1] [2, 3, 4, 5, 6, 7, 8, 9] [8, 9, 0, 1, 2, 3, 4, 5, 6, 7] 0 7 rfl rfl rfl rfl (wr := [(aS0, .inr (4, [.ref aI0, .int (sla 0), .int (ssz 0)])), (aI0, .inl (ky 0, 36, .inl (sit 0))), (aS1, .inr (4, [.ref aI1, .int (sla 1), .int (ssz 1)])), (aI1, .inl (ky 0, 36, .inl (sit 1))), (aS2, .inr (4, [.ref aI2, .int (sla 2), .int (ssz 2)])), (aI2, .inl (ky 0, 36, .inl (sit 2))), (aS3, .inr (4, [.ref aI3, .int (sla 3), .int (ssz 3)])), (aI3, .inl (ky 0, 36, .inl (sit 3)))]) rfl (by decide) rfl rfl hl.1 (Nat.le_of_ble_eq_true rfl) dX8_copy_2 ⟨Nat.zero_le _, Nat.zero_le _⟩ (fun H locs hP hD hS => ?_)
    refine lv_astore (lv' := [(6, .ref aS1), (0, .ref aX), (1, .int p0), (2, .int p1), (3, .int p2), (4, .int p3), (5, .int p4)]) hx hb dX8_copy_5 hl (by decide) rfl (fun ls hl => ?_)
    refine lv_aload_n hx hb dX8_copy_7 rfl (lv_at hl 1 rfl) ?_
    refine lv_iload_n hx hb dX8_copy_8 rfl (lv_at hl 4 rfl) ?_
    rcases sh5_s hF with ⟨h80, hF⟩ | ⟨h80, hF⟩ | ⟨h80, hF⟩ | ⟨h80, hF⟩ | ⟨h80, hF⟩
    · refine cl_vq (ro := none) (As := [.int p2]) (rest := []) (w' := (w_xsh ky aX aB aP aT aR aK aH aG aS aS0 aS1 aS2 aS3 aI0 aI1 aI2 aI3 sla ssz sit)) ⟨hx, hb, hml, hown, hts⟩ hK hP hD hS hA (c_X8_sheetAt l D ky aX aB aP aT aR aK aH aG aS aS0 aS1 aS2 aS3 _ p2 none (Or.inl ⟨h80, rfl⟩)) (cwV 1 hts gX8_copy_X8_sheetAt rfl rfl rfl (by decide +kernel) ⟨Nat.le_of_ble_eq_true rfl, Nat.le_of_ble_eq_true rfl⟩) [0, 1] [2, 3, 4, 5, 6, 7, 8, 9] [8, 9, 0, 1, 2, 3, 4, 5, 6, 7] 0 7 rfl rfl rfl rfl (wr := [(aS0, .inr (4, [.ref aI0, .int (sla 0), .int (ssz 0)])), (aI0, .inl (ky 0, 36, .inl (sit 0))), (aS1, .inr (4, [.ref aI1, .int (sla 1), .int (ssz 1)])), (aI1, .inl (ky 0, 36, .inl (sit 1))), (aS2, .inr (4, [.ref aI2, .int (sla 2), .int (ssz 2)])), (aI2, .inl (ky 0, 36, .inl (sit 2))), (aS3, .inr (4, [.ref aI3, .int (sla 3), .int (ssz 3)])), (aI3, .inl (ky 0, 36, .inl (sit 3)))]) rfl (by decide) rfl rfl hl.1 (Nat.le_of_ble_eq_true rfl) dX8_copy_9 ⟨Nat.zero_le _, Nat.zero_le _⟩ (fun H locs hP hD hS => ?_)
      refine lv_astoreN (lv' := [(7, .null), (6, .ref aS1), (0, .ref aX), (1, .int p0), (2, .int p1), (3, .int p2), (4, .int p3), (5, .int p4)]) hx hb dX8_copy_12 hl (by decide) rfl (fun ls hl => ?_)
      refine lv_aload hx hb dX8_copy_14 (lv_at hl 1 rfl) ?_
      refine lv_ifnull hx hb dX8_copy_16 ?_
      refine lv_aloadN hx hb dX8_copy_19 (lv_at hl 0 rfl) ?_
      refine lv_ifnonnullN hx hb dX8_copy_21 ?_
      refine lv_iconst (v := (-1 : Int32)) hx hb dX8_copy_24 (by decide) ?_
      have hF := Option.some.inj hF
      subst hF
      exact hQ _ _ _ _ dX8_copy_25 hP hD hS
    · refine cl_vq (ro := (some aS0)) (As := [.int p2]) (rest := []) (w' := (w_xsh ky aX aB aP aT aR aK aH aG aS aS0 aS1 aS2 aS3 aI0 aI1 aI2 aI3 sla ssz sit)) ⟨hx, hb, hml, hown, hts⟩ hK hP hD hS hA (c_X8_sheetAt l D ky aX aB aP aT aR aK aH aG aS aS0 aS1 aS2 aS3 _ p2 (some aS0) (Or.inr ⟨by rw [h80]; decide, by rw [h80]; rfl⟩)) (cwV 1 hts gX8_copy_X8_sheetAt rfl rfl rfl (by decide +kernel) ⟨Nat.le_of_ble_eq_true rfl, Nat.le_of_ble_eq_true rfl⟩) [0, 1] [2, 3, 4, 5, 6, 7, 8, 9] [8, 9, 0, 1, 2, 3, 4, 5, 6, 7] 0 7 rfl rfl rfl rfl (wr := [(aS0, .inr (4, [.ref aI0, .int (sla 0), .int (ssz 0)])), (aI0, .inl (ky 0, 36, .inl (sit 0))), (aS1, .inr (4, [.ref aI1, .int (sla 1), .int (ssz 1)])), (aI1, .inl (ky 0, 36, .inl (sit 1))), (aS2, .inr (4, [.ref aI2, .int (sla 2), .int (ssz 2)])), (aI2, .inl (ky 0, 36, .inl (sit 2))), (aS3, .inr (4, [.ref aI3, .int (sla 3), .int (ssz 3)])), (aI3, .inl (ky 0, 36, .inl (sit 3)))]) rfl (by decide) rfl rfl hl.1 (Nat.le_of_ble_eq_true rfl) dX8_copy_9 ⟨Nat.zero_le _, Nat.zero_le _⟩ (fun H locs hP hD hS => ?_)
      refine lv_astore (lv' := [(7, .ref aS0), (6, .ref aS1), (0, .ref aX), (1, .int p0), (2, .int p1), (3, .int p2), (4, .int p3), (5, .int p4)]) hx hb dX8_copy_12 hl (by decide) rfl (fun ls hl => ?_)
      refine lv_aload hx hb dX8_copy_14 (lv_at hl 1 rfl) ?_
      refine lv_ifnull hx hb dX8_copy_16 ?_
      refine lv_aload hx hb dX8_copy_19 (lv_at hl 0 rfl) ?_
      refine lv_ifnonnull (tgt := 26) hx hb dX8_copy_21 (by decide) ?_
      refine lv_aload hx hb dX8_copy_26 (lv_at hl 1 rfl) ?_
      obtain ⟨r82, h81, hF⟩ := b1_s hF
      refine cl_vi (As := []) (rest := []) (w' := (w_xsh ky aX aB aP aT aR aK aH aG aS aS0 aS1 aS2 aS3 aI0 aI1 aI2 aI3 sla ssz sit)) ⟨hx, hb, hml, hown, hts⟩ hK hP hD hS hA (c_X5_isNothing l D ky aS1 aI1 _ N  (sla 1) (ssz 1) (sit 1)  r82 h81) (cwV 0 hts gX8_copy_X5_isNothing rfl rfl rfl (by decide +kernel) ⟨Nat.le_of_ble_eq_true rfl, Nat.le_of_ble_eq_true rfl⟩) [4, 5] [0, 1, 2, 3, 6, 7, 8, 9] [0, 1, 2, 3, 8, 9, 4, 5, 6, 7] 0 4 rfl rfl rfl rfl (wr := [(aX, .inr (7, [.ref aB, .ref aP, .ref aT, .ref aR, .ref aK, .ref aH, .ref aG, .ref aS])), (aS, .inl (ky 3, 4, .inr (.inr (.inr (.inr (shf aS0 aS1 aS2 aS3)))))), (aS0, .inr (4, [.ref aI0, .int (sla 0), .int (ssz 0)])), (aI0, .inl (ky 0, 36, .inl (sit 0))), (aS2, .inr (4, [.ref aI2, .int (sla 2), .int (ssz 2)])), (aI2, .inl (ky 0, 36, .inl (sit 2))), (aS3, .inr (4, [.ref aI3, .int (sla 3), .int (ssz 3)])), (aI3, .inl (ky 0, 36, .inl (sit 3)))]) rfl (by decide) rfl rfl hl.1 (Nat.le_of_ble_eq_true rfl) dX8_copy_28 ⟨Nat.zero_le _, Nat.zero_le _⟩ (fun H locs hP hD hS => ?_)
      refine lv_if_ne (tgt := 42) hx hb dX8_copy_31 (by decide) (fun c83 => ?_) (fun c83 => ?_)
      · have hF := if_f c83 hF
        refine lv_bipush (v := (-11 : Int32)) hx hb dX8_copy_42 (by decide) ?_
        have hF := Option.some.inj hF
        subst hF
        exact hQ _ _ _ _ dX8_copy_44 hP hD hS
      · have hF := if_t c83 hF
        refine lv_aload hx hb dX8_copy_34 (lv_at hl 0 rfl) ?_
        obtain ⟨r85, h84, hF⟩ := b1_s hF
        refine cl_vi (As := []) (rest := []) (w' := (w_xsh ky aX aB aP aT aR aK aH aG aS aS0 aS1 aS2 aS3 aI0 aI1 aI2 aI3 sla ssz sit)) ⟨hx, hb, hml, hown, hts⟩ hK hP hD hS hA (c_X5_isNothing l D ky aS0 aI0 _ N  (sla 0) (ssz 0) (sit 0)  r85 h84) (cwV 0 hts gX8_copy_X5_isNothing rfl rfl rfl (by decide +kernel) ⟨Nat.le_of_ble_eq_true rfl, Nat.le_of_ble_eq_true rfl⟩) [2, 3] [0, 1, 4, 5, 6, 7, 8, 9] [0, 1, 8, 9, 2, 3, 4, 5, 6, 7] 0 4 rfl rfl rfl rfl (wr := [(aX, .inr (7, [.ref aB, .ref aP, .ref aT, .ref aR, .ref aK, .ref aH, .ref aG, .ref aS])), (aS, .inl (ky 3, 4, .inr (.inr (.inr (.inr (shf aS0 aS1 aS2 aS3)))))), (aS1, .inr (4, [.ref aI1, .int (sla 1), .int (ssz 1)])), (aI1, .inl (ky 0, 36, .inl (sit 1))), (aS2, .inr (4, [.ref aI2, .int (sla 2), .int (ssz 2)])), (aI2, .inl (ky 0, 36, .inl (sit 2))), (aS3, .inr (4, [.ref aI3, .int (sla 3), .int (ssz 3)])), (aI3, .inl (ky 0, 36, .inl (sit 3)))]) rfl (by decide) rfl rfl hl.1 (Nat.le_of_ble_eq_true rfl) dX8_copy_36 ⟨Nat.zero_le _, Nat.zero_le _⟩ (fun H locs hP hD hS => ?_)
        refine lv_if_eq (tgt := 45) hx hb dX8_copy_39 (by decide) (fun c86 => ?_) (fun c86 => ?_)
        · have hF := if_t c86 hF
          refine lv_aload hx hb dX8_copy_45 (lv_at hl 1 rfl) ?_
          obtain ⟨r88, h87, hF⟩ := b1_s hF
          refine cl_vi (As := []) (rest := []) (w' := (w_xsh ky aX aB aP aT aR aK aH aG aS aS0 aS1 aS2 aS3 aI0 aI1 aI2 aI3 sla ssz sit)) ⟨hx, hb, hml, hown, hts⟩ hK hP hD hS hA (c_X5_laneNow l D ky aS1 aI1 _ N  (sla 1) (ssz 1) (sit 1)  r88 h87) (cwV 0 hts gX8_copy_X5_laneNow rfl rfl rfl (by decide +kernel) ⟨Nat.le_of_ble_eq_true rfl, Nat.le_of_ble_eq_true rfl⟩) [4, 5] [0, 1, 2, 3, 6, 7, 8, 9] [0, 1, 2, 3, 8, 9, 4, 5, 6, 7] 0 4 rfl rfl rfl rfl (wr := [(aX, .inr (7, [.ref aB, .ref aP, .ref aT, .ref aR, .ref aK, .ref aH, .ref aG, .ref aS])), (aS, .inl (ky 3, 4, .inr (.inr (.inr (.inr (shf aS0 aS1 aS2 aS3)))))), (aS0, .inr (4, [.ref aI0, .int (sla 0), .int (ssz 0)])), (aI0, .inl (ky 0, 36, .inl (sit 0))), (aS2, .inr (4, [.ref aI2, .int (sla 2), .int (ssz 2)])), (aI2, .inl (ky 0, 36, .inl (sit 2))), (aS3, .inr (4, [.ref aI3, .int (sla 3), .int (ssz 3)])), (aI3, .inl (ky 0, 36, .inl (sit 3)))]) rfl (by decide) rfl rfl hl.1 (Nat.le_of_ble_eq_true rfl) dX8_copy_47 ⟨Nat.zero_le _, Nat.zero_le _⟩ (fun H locs hP hD hS => ?_)
          refine lv_aload hx hb dX8_copy_50 (lv_at hl 0 rfl) ?_
          obtain ⟨r90, h89, hF⟩ := b1_s hF
          refine cl_vi (As := []) (rest := [.int r88]) (w' := (w_xsh ky aX aB aP aT aR aK aH aG aS aS0 aS1 aS2 aS3 aI0 aI1 aI2 aI3 sla ssz sit)) ⟨hx, hb, hml, hown, hts⟩ hK hP hD hS hA (c_X5_laneNow l D ky aS0 aI0 _ N  (sla 0) (ssz 0) (sit 0)  r90 h89) (cwV 0 hts gX8_copy_X5_laneNow rfl rfl rfl (by decide +kernel) ⟨Nat.le_of_ble_eq_true rfl, Nat.le_of_ble_eq_true rfl⟩) [2, 3] [0, 1, 4, 5, 6, 7, 8, 9] [0, 1, 8, 9, 2, 3, 4, 5, 6, 7] 0 4 rfl rfl rfl rfl (wr := [(aX, .inr (7, [.ref aB, .ref aP, .ref aT, .ref aR, .ref aK, .ref aH, .ref aG, .ref aS])), (aS, .inl (ky 3, 4, .inr (.inr (.inr (.inr (shf aS0 aS1 aS2 aS3)))))), (aS1, .inr (4, [.ref aI1, .int (sla 1), .int (ssz 1)])), (aI1, .inl (ky 0, 36, .inl (sit 1))), (aS2, .inr (4, [.ref aI2, .int (sla 2), .int (ssz 2)])), (aI2, .inl (ky 0, 36, .inl (sit 2))), (aS3, .inr (4, [.ref aI3, .int (sla 3), .int (ssz 3)])), (aI3, .inl (ky 0, 36, .inl (sit 3)))]) rfl (by decide) rfl rfl hl.1 (Nat.le_of_ble_eq_true rfl) dX8_copy_52 ⟨Nat.zero_le _, Nat.zero_le _⟩ (fun H locs hP hD hS => ?_)
          refine lv_icmp_eq (tgt := 61) hx hb dX8_copy_55 (by decide) (fun c91 => ?_) (fun c91 => ?_)
          · have hF := if_t c91 hF
            refine lv_aload hx hb dX8_copy_61 (lv_at hl 1 rfl) ?_
            refine lv_iload_n hx hb dX8_copy_63 rfl (lv_at hl 4 rfl) ?_
            refine lv_iload hx hb dX8_copy_64 (lv_at hl 7 rfl) ?_
            obtain ⟨r93, h92, hF⟩ := b1_s hF
            refine cl_vi (As := [.int p1, .int p4]) (rest := []) (w' := (w_xsh ky aX aB aP aT aR aK aH aG aS aS0 aS1 aS2 aS3 aI0 aI1 aI2 aI3 sla ssz sit)) ⟨hx, hb, hml, hown, hts⟩ hK hP hD hS hA (c_X5_covers l D ky aS1 aI1 _ N  (sla 1) (ssz 1) (sit 1) p1 p4 r93 h92) (cwV 2 hts gX8_copy_X5_covers rfl rfl rfl (by decide +kernel) ⟨Nat.le_of_ble_eq_true rfl, Nat.le_of_ble_eq_true rfl⟩) [4, 5] [0, 1, 2, 3, 6, 7, 8, 9] [0, 1, 2, 3, 8, 9, 4, 5, 6, 7] 0 4 rfl rfl rfl rfl (wr := [(aX, .inr (7, [.ref aB, .ref aP, .ref aT, .ref aR, .ref aK, .ref aH, .ref aG, .ref aS])), (aS, .inl (ky 3, 4, .inr (.inr (.inr (.inr (shf aS0 aS1 aS2 aS3)))))), (aS0, .inr (4, [.ref aI0, .int (sla 0), .int (ssz 0)])), (aI0, .inl (ky 0, 36, .inl (sit 0))), (aS2, .inr (4, [.ref aI2, .int (sla 2), .int (ssz 2)])), (aI2, .inl (ky 0, 36, .inl (sit 2))), (aS3, .inr (4, [.ref aI3, .int (sla 3), .int (ssz 3)])), (aI3, .inl (ky 0, 36, .inl (sit 3)))]) rfl (by decide) rfl rfl hl.1 (Nat.le_of_ble_eq_true rfl) dX8_copy_66 ⟨Nat.zero_le _, Nat.zero_le _⟩ (fun H locs hP hD hS => ?_)
            refine lv_if_eq (tgt := 84) hx hb dX8_copy_69 (by decide) (fun c94 => ?_) (fun c94 => ?_)
            · have hF := if_t c94 hF
              refine lv_bipush (v := (-13 : Int32)) hx hb dX8_copy_84 (by decide) ?_
              have hF := Option.some.inj hF
              subst hF
              exact hQ _ _ _ _ dX8_copy_86 hP hD hS
            · have hF := if_f c94 hF
              refine lv_aload hx hb dX8_copy_72 (lv_at hl 0 rfl) ?_
              refine lv_iload hx hb dX8_copy_74 (lv_at hl 6 rfl) ?_
              refine lv_iload hx hb dX8_copy_76 (lv_at hl 7 rfl) ?_
              obtain ⟨r96, h95, hF⟩ := b1_s hF
              refine cl_vi (As := [.int p3, .int p4]) (rest := []) (w' := (w_xsh ky aX aB aP aT aR aK aH aG aS aS0 aS1 aS2 aS3 aI0 aI1 aI2 aI3 sla ssz sit)) ⟨hx, hb, hml, hown, hts⟩ hK hP hD hS hA (c_X5_covers l D ky aS0 aI0 _ N  (sla 0) (ssz 0) (sit 0) p3 p4 r96 h95) (cwV 2 hts gX8_copy_X5_covers rfl rfl rfl (by decide +kernel) ⟨Nat.le_of_ble_eq_true rfl, Nat.le_of_ble_eq_true rfl⟩) [2, 3] [0, 1, 4, 5, 6, 7, 8, 9] [0, 1, 8, 9, 2, 3, 4, 5, 6, 7] 0 4 rfl rfl rfl rfl (wr := [(aX, .inr (7, [.ref aB, .ref aP, .ref aT, .ref aR, .ref aK, .ref aH, .ref aG, .ref aS])), (aS, .inl (ky 3, 4, .inr (.inr (.inr (.inr (shf aS0 aS1 aS2 aS3)))))), (aS1, .inr (4, [.ref aI1, .int (sla 1), .int (ssz 1)])), (aI1, .inl (ky 0, 36, .inl (sit 1))), (aS2, .inr (4, [.ref aI2, .int (sla 2), .int (ssz 2)])), (aI2, .inl (ky 0, 36, .inl (sit 2))), (aS3, .inr (4, [.ref aI3, .int (sla 3), .int (ssz 3)])), (aI3, .inl (ky 0, 36, .inl (sit 3)))]) rfl (by decide) rfl rfl hl.1 (Nat.le_of_ble_eq_true rfl) dX8_copy_78 ⟨Nat.zero_le _, Nat.zero_le _⟩ (fun H locs hP hD hS => ?_)
              refine lv_if_ne (tgt := 87) hx hb dX8_copy_81 (by decide) (fun c97 => ?_) (fun c97 => ?_)
              · have hF := if_f c97 hF
                refine lv_aload hx hb dX8_copy_87 (lv_at hl 0 rfl) ?_
                refine lv_iload hx hb dX8_copy_89 (lv_at hl 6 rfl) ?_
                refine lv_aload hx hb dX8_copy_91 (lv_at hl 1 rfl) ?_
                refine lv_iload_n hx hb dX8_copy_93 rfl (lv_at hl 4 rfl) ?_
                refine lv_iload hx hb dX8_copy_94 (lv_at hl 7 rfl) ?_
                obtain ⟨v99, h98, hF⟩ := b1_s hF
                refine cl_vv (As := [.int p3, .ref aS1, .int p1, .int p4]) (rest := []) (w' := (w_xsh ky aX aB aP aT aR aK aH aG aS aS0 aS1 aS2 aS3 aI0 aI1 aI2 aI3 sla ssz (va_up sit 0 v99))) ⟨hx, hb, hml, hown, hts⟩ hK hP hD hS hA (c_X5_take_two l D ky aS0 aI0 aS1 aI1 _ N  (sla 0) (ssz 0) (sit 0) (sla 1) (ssz 1) (sit 1) p3 p1 p4 v99 h98) (cwV 4 hts gX8_copy_X5_take rfl rfl rfl (by decide +kernel) ⟨Nat.le_of_ble_eq_true rfl, Nat.le_of_ble_eq_true rfl⟩) [2, 3, 4, 5] [0, 1, 6, 7, 8, 9] [0, 1, 6, 7, 8, 9, 2, 3, 4, 5] 0 4 rfl rfl rfl rfl (wr := [(aX, .inr (7, [.ref aB, .ref aP, .ref aT, .ref aR, .ref aK, .ref aH, .ref aG, .ref aS])), (aS, .inl (ky 3, 4, .inr (.inr (.inr (.inr (shf aS0 aS1 aS2 aS3)))))), (aS2, .inr (4, [.ref aI2, .int (sla 2), .int (ssz 2)])), (aI2, .inl (ky 0, 36, .inl (sit 2))), (aS3, .inr (4, [.ref aI3, .int (sla 3), .int (ssz 3)])), (aI3, .inl (ky 0, 36, .inl (sit 3)))]) rfl (by decide) rfl rfl hl.1 (Nat.le_of_ble_eq_true rfl) dX8_copy_96 ⟨Nat.zero_le _, Nat.zero_le _⟩ (fun H locs hP hD hS => ?_)
                refine lv_iload hx hb dX8_copy_99 (lv_at hl 7 rfl) ?_
                have hF := Option.some.inj hF
                subst hF
                exact hQ _ _ _ _ dX8_copy_101 hP hD hS
              · have hF := if_t c97 hF
                refine lv_bipush (v := (-13 : Int32)) hx hb dX8_copy_84 (by decide) ?_
                have hF := Option.some.inj hF
                subst hF
                exact hQ _ _ _ _ dX8_copy_86 hP hD hS
          · have hF := if_f c91 hF
            refine lv_bipush (v := (-12 : Int32)) hx hb dX8_copy_58 (by decide) ?_
            have hF := Option.some.inj hF
            subst hF
            exact hQ _ _ _ _ dX8_copy_60 hP hD hS
        · have hF := if_f c86 hF
          refine lv_bipush (v := (-11 : Int32)) hx hb dX8_copy_42 (by decide) ?_
          have hF := Option.some.inj hF
          subst hF
          exact hQ _ _ _ _ dX8_copy_44 hP hD hS
    · refine cl_vq (ro := (some aS1)) (As := [.int p2]) (rest := []) (w' := (w_xsh ky aX aB aP aT aR aK aH aG aS aS0 aS1 aS2 aS3 aI0 aI1 aI2 aI3 sla ssz sit)) ⟨hx, hb, hml, hown, hts⟩ hK hP hD hS hA (c_X8_sheetAt l D ky aX aB aP aT aR aK aH aG aS aS0 aS1 aS2 aS3 _ p2 (some aS1) (Or.inr ⟨by rw [h80]; decide, by rw [h80]; rfl⟩)) (cwV 1 hts gX8_copy_X8_sheetAt rfl rfl rfl (by decide +kernel) ⟨Nat.le_of_ble_eq_true rfl, Nat.le_of_ble_eq_true rfl⟩) [0, 1] [2, 3, 4, 5, 6, 7, 8, 9] [8, 9, 0, 1, 2, 3, 4, 5, 6, 7] 0 7 rfl rfl rfl rfl (wr := [(aS0, .inr (4, [.ref aI0, .int (sla 0), .int (ssz 0)])), (aI0, .inl (ky 0, 36, .inl (sit 0))), (aS1, .inr (4, [.ref aI1, .int (sla 1), .int (ssz 1)])), (aI1, .inl (ky 0, 36, .inl (sit 1))), (aS2, .inr (4, [.ref aI2, .int (sla 2), .int (ssz 2)])), (aI2, .inl (ky 0, 36, .inl (sit 2))), (aS3, .inr (4, [.ref aI3, .int (sla 3), .int (ssz 3)])), (aI3, .inl (ky 0, 36, .inl (sit 3)))]) rfl (by decide) rfl rfl hl.1 (Nat.le_of_ble_eq_true rfl) dX8_copy_9 ⟨Nat.zero_le _, Nat.zero_le _⟩ (fun H locs hP hD hS => ?_)
      refine lv_astore (lv' := [(7, .ref aS1), (6, .ref aS1), (0, .ref aX), (1, .int p0), (2, .int p1), (3, .int p2), (4, .int p3), (5, .int p4)]) hx hb dX8_copy_12 hl (by decide) rfl (fun ls hl => ?_)
      refine lv_aload hx hb dX8_copy_14 (lv_at hl 1 rfl) ?_
      refine lv_ifnull hx hb dX8_copy_16 ?_
      refine lv_aload hx hb dX8_copy_19 (lv_at hl 0 rfl) ?_
      refine lv_ifnonnull (tgt := 26) hx hb dX8_copy_21 (by decide) ?_
      refine lv_aload hx hb dX8_copy_26 (lv_at hl 1 rfl) ?_
      obtain ⟨r101, h100, hF⟩ := b1_s hF
      refine cl_vi (As := []) (rest := []) (w' := (w_xsh ky aX aB aP aT aR aK aH aG aS aS0 aS1 aS2 aS3 aI0 aI1 aI2 aI3 sla ssz sit)) ⟨hx, hb, hml, hown, hts⟩ hK hP hD hS hA (c_X5_isNothing l D ky aS1 aI1 _ N  (sla 1) (ssz 1) (sit 1)  r101 h100) (cwV 0 hts gX8_copy_X5_isNothing rfl rfl rfl (by decide +kernel) ⟨Nat.le_of_ble_eq_true rfl, Nat.le_of_ble_eq_true rfl⟩) [4, 5] [0, 1, 2, 3, 6, 7, 8, 9] [0, 1, 2, 3, 8, 9, 4, 5, 6, 7] 0 4 rfl rfl rfl rfl (wr := [(aX, .inr (7, [.ref aB, .ref aP, .ref aT, .ref aR, .ref aK, .ref aH, .ref aG, .ref aS])), (aS, .inl (ky 3, 4, .inr (.inr (.inr (.inr (shf aS0 aS1 aS2 aS3)))))), (aS0, .inr (4, [.ref aI0, .int (sla 0), .int (ssz 0)])), (aI0, .inl (ky 0, 36, .inl (sit 0))), (aS2, .inr (4, [.ref aI2, .int (sla 2), .int (ssz 2)])), (aI2, .inl (ky 0, 36, .inl (sit 2))), (aS3, .inr (4, [.ref aI3, .int (sla 3), .int (ssz 3)])), (aI3, .inl (ky 0, 36, .inl (sit 3)))]) rfl (by decide) rfl rfl hl.1 (Nat.le_of_ble_eq_true rfl) dX8_copy_28 ⟨Nat.zero_le _, Nat.zero_le _⟩ (fun H locs hP hD hS => ?_)
      refine lv_if_ne (tgt := 42) hx hb dX8_copy_31 (by decide) (fun c102 => ?_) (fun c102 => ?_)
      · have hF := if_f c102 hF
        refine lv_bipush (v := (-11 : Int32)) hx hb dX8_copy_42 (by decide) ?_
        have hF := Option.some.inj hF
        subst hF
        exact hQ _ _ _ _ dX8_copy_44 hP hD hS
      · have hF := if_t c102 hF
        refine lv_aload hx hb dX8_copy_34 (lv_at hl 0 rfl) ?_
        obtain ⟨r104, h103, hF⟩ := b1_s hF
        refine cl_vi (As := []) (rest := []) (w' := (w_xsh ky aX aB aP aT aR aK aH aG aS aS0 aS1 aS2 aS3 aI0 aI1 aI2 aI3 sla ssz sit)) ⟨hx, hb, hml, hown, hts⟩ hK hP hD hS hA (c_X5_isNothing l D ky aS1 aI1 _ N  (sla 1) (ssz 1) (sit 1)  r104 h103) (cwV 0 hts gX8_copy_X5_isNothing rfl rfl rfl (by decide +kernel) ⟨Nat.le_of_ble_eq_true rfl, Nat.le_of_ble_eq_true rfl⟩) [4, 5] [0, 1, 2, 3, 6, 7, 8, 9] [0, 1, 2, 3, 8, 9, 4, 5, 6, 7] 0 4 rfl rfl rfl rfl (wr := [(aX, .inr (7, [.ref aB, .ref aP, .ref aT, .ref aR, .ref aK, .ref aH, .ref aG, .ref aS])), (aS, .inl (ky 3, 4, .inr (.inr (.inr (.inr (shf aS0 aS1 aS2 aS3)))))), (aS0, .inr (4, [.ref aI0, .int (sla 0), .int (ssz 0)])), (aI0, .inl (ky 0, 36, .inl (sit 0))), (aS2, .inr (4, [.ref aI2, .int (sla 2), .int (ssz 2)])), (aI2, .inl (ky 0, 36, .inl (sit 2))), (aS3, .inr (4, [.ref aI3, .int (sla 3), .int (ssz 3)])), (aI3, .inl (ky 0, 36, .inl (sit 3)))]) rfl (by decide) rfl rfl hl.1 (Nat.le_of_ble_eq_true rfl) dX8_copy_36 ⟨Nat.zero_le _, Nat.zero_le _⟩ (fun H locs hP hD hS => ?_)
        refine lv_if_eq (tgt := 45) hx hb dX8_copy_39 (by decide) (fun c105 => ?_) (fun c105 => ?_)
        · have hF := if_t c105 hF
          refine lv_aload hx hb dX8_copy_45 (lv_at hl 1 rfl) ?_
          obtain ⟨r107, h106, hF⟩ := b1_s hF
          refine cl_vi (As := []) (rest := []) (w' := (w_xsh ky aX aB aP aT aR aK aH aG aS aS0 aS1 aS2 aS3 aI0 aI1 aI2 aI3 sla ssz sit)) ⟨hx, hb, hml, hown, hts⟩ hK hP hD hS hA (c_X5_laneNow l D ky aS1 aI1 _ N  (sla 1) (ssz 1) (sit 1)  r107 h106) (cwV 0 hts gX8_copy_X5_laneNow rfl rfl rfl (by decide +kernel) ⟨Nat.le_of_ble_eq_true rfl, Nat.le_of_ble_eq_true rfl⟩) [4, 5] [0, 1, 2, 3, 6, 7, 8, 9] [0, 1, 2, 3, 8, 9, 4, 5, 6, 7] 0 4 rfl rfl rfl rfl (wr := [(aX, .inr (7, [.ref aB, .ref aP, .ref aT, .ref aR, .ref aK, .ref aH, .ref aG, .ref aS])), (aS, .inl (ky 3, 4, .inr (.inr (.inr (.inr (shf aS0 aS1 aS2 aS3)))))), (aS0, .inr (4, [.ref aI0, .int (sla 0), .int (ssz 0)])), (aI0, .inl (ky 0, 36, .inl (sit 0))), (aS2, .inr (4, [.ref aI2, .int (sla 2), .int (ssz 2)])), (aI2, .inl (ky 0, 36, .inl (sit 2))), (aS3, .inr (4, [.ref aI3, .int (sla 3), .int (ssz 3)])), (aI3, .inl (ky 0, 36, .inl (sit 3)))]) rfl (by decide) rfl rfl hl.1 (Nat.le_of_ble_eq_true rfl) dX8_copy_47 ⟨Nat.zero_le _, Nat.zero_le _⟩ (fun H locs hP hD hS => ?_)
          refine lv_aload hx hb dX8_copy_50 (lv_at hl 0 rfl) ?_
          obtain ⟨r109, h108, hF⟩ := b1_s hF
          refine cl_vi (As := []) (rest := [.int r107]) (w' := (w_xsh ky aX aB aP aT aR aK aH aG aS aS0 aS1 aS2 aS3 aI0 aI1 aI2 aI3 sla ssz sit)) ⟨hx, hb, hml, hown, hts⟩ hK hP hD hS hA (c_X5_laneNow l D ky aS1 aI1 _ N  (sla 1) (ssz 1) (sit 1)  r109 h108) (cwV 0 hts gX8_copy_X5_laneNow rfl rfl rfl (by decide +kernel) ⟨Nat.le_of_ble_eq_true rfl, Nat.le_of_ble_eq_true rfl⟩) [4, 5] [0, 1, 2, 3, 6, 7, 8, 9] [0, 1, 2, 3, 8, 9, 4, 5, 6, 7] 0 4 rfl rfl rfl rfl (wr := [(aX, .inr (7, [.ref aB, .ref aP, .ref aT, .ref aR, .ref aK, .ref aH, .ref aG, .ref aS])), (aS, .inl (ky 3, 4, .inr (.inr (.inr (.inr (shf aS0 aS1 aS2 aS3)))))), (aS0, .inr (4, [.ref aI0, .int (sla 0), .int (ssz 0)])), (aI0, .inl (ky 0, 36, .inl (sit 0))), (aS2, .inr (4, [.ref aI2, .int (sla 2), .int (ssz 2)])), (aI2, .inl (ky 0, 36, .inl (sit 2))), (aS3, .inr (4, [.ref aI3, .int (sla 3), .int (ssz 3)])), (aI3, .inl (ky 0, 36, .inl (sit 3)))]) rfl (by decide) rfl rfl hl.1 (Nat.le_of_ble_eq_true rfl) dX8_copy_52 ⟨Nat.zero_le _, Nat.zero_le _⟩ (fun H locs hP hD hS => ?_)
          refine lv_icmp_eq (tgt := 61) hx hb dX8_copy_55 (by decide) (fun c110 => ?_) (fun c110 => ?_)
          · have hF := if_t c110 hF
            refine lv_aload hx hb dX8_copy_61 (lv_at hl 1 rfl) ?_
            refine lv_iload_n hx hb dX8_copy_63 rfl (lv_at hl 4 rfl) ?_
            refine lv_iload hx hb dX8_copy_64 (lv_at hl 7 rfl) ?_
            obtain ⟨r112, h111, hF⟩ := b1_s hF
            refine cl_vi (As := [.int p1, .int p4]) (rest := []) (w' := (w_xsh ky aX aB aP aT aR aK aH aG aS aS0 aS1 aS2 aS3 aI0 aI1 aI2 aI3 sla ssz sit)) ⟨hx, hb, hml, hown, hts⟩ hK hP hD hS hA (c_X5_covers l D ky aS1 aI1 _ N  (sla 1) (ssz 1) (sit 1) p1 p4 r112 h111) (cwV 2 hts gX8_copy_X5_covers rfl rfl rfl (by decide +kernel) ⟨Nat.le_of_ble_eq_true rfl, Nat.le_of_ble_eq_true rfl⟩) [4, 5] [0, 1, 2, 3, 6, 7, 8, 9] [0, 1, 2, 3, 8, 9, 4, 5, 6, 7] 0 4 rfl rfl rfl rfl (wr := [(aX, .inr (7, [.ref aB, .ref aP, .ref aT, .ref aR, .ref aK, .ref aH, .ref aG, .ref aS])), (aS, .inl (ky 3, 4, .inr (.inr (.inr (.inr (shf aS0 aS1 aS2 aS3)))))), (aS0, .inr (4, [.ref aI0, .int (sla 0), .int (ssz 0)])), (aI0, .inl (ky 0, 36, .inl (sit 0))), (aS2, .inr (4, [.ref aI2, .int (sla 2), .int (ssz 2)])), (aI2, .inl (ky 0, 36, .inl (sit 2))), (aS3, .inr (4, [.ref aI3, .int (sla 3), .int (ssz 3)])), (aI3, .inl (ky 0, 36, .inl (sit 3)))]) rfl (by decide) rfl rfl hl.1 (Nat.le_of_ble_eq_true rfl) dX8_copy_66 ⟨Nat.zero_le _, Nat.zero_le _⟩ (fun H locs hP hD hS => ?_)
            refine lv_if_eq (tgt := 84) hx hb dX8_copy_69 (by decide) (fun c113 => ?_) (fun c113 => ?_)
            · have hF := if_t c113 hF
              refine lv_bipush (v := (-13 : Int32)) hx hb dX8_copy_84 (by decide) ?_
              have hF := Option.some.inj hF
              subst hF
              exact hQ _ _ _ _ dX8_copy_86 hP hD hS
            · have hF := if_f c113 hF
              refine lv_aload hx hb dX8_copy_72 (lv_at hl 0 rfl) ?_
              refine lv_iload hx hb dX8_copy_74 (lv_at hl 6 rfl) ?_
              refine lv_iload hx hb dX8_copy_76 (lv_at hl 7 rfl) ?_
              obtain ⟨r115, h114, hF⟩ := b1_s hF
              refine cl_vi (As := [.int p3, .int p4]) (rest := []) (w' := (w_xsh ky aX aB aP aT aR aK aH aG aS aS0 aS1 aS2 aS3 aI0 aI1 aI2 aI3 sla ssz sit)) ⟨hx, hb, hml, hown, hts⟩ hK hP hD hS hA (c_X5_covers l D ky aS1 aI1 _ N  (sla 1) (ssz 1) (sit 1) p3 p4 r115 h114) (cwV 2 hts gX8_copy_X5_covers rfl rfl rfl (by decide +kernel) ⟨Nat.le_of_ble_eq_true rfl, Nat.le_of_ble_eq_true rfl⟩) [4, 5] [0, 1, 2, 3, 6, 7, 8, 9] [0, 1, 2, 3, 8, 9, 4, 5, 6, 7] 0 4 rfl rfl rfl rfl (wr := [(aX, .inr (7, [.ref aB, .ref aP, .ref aT, .ref aR, .ref aK, .ref aH, .ref aG, .ref aS])), (aS, .inl (ky 3, 4, .inr (.inr (.inr (.inr (shf aS0 aS1 aS2 aS3)))))), (aS0, .inr (4, [.ref aI0, .int (sla 0), .int (ssz 0)])), (aI0, .inl (ky 0, 36, .inl (sit 0))), (aS2, .inr (4, [.ref aI2, .int (sla 2), .int (ssz 2)])), (aI2, .inl (ky 0, 36, .inl (sit 2))), (aS3, .inr (4, [.ref aI3, .int (sla 3), .int (ssz 3)])), (aI3, .inl (ky 0, 36, .inl (sit 3)))]) rfl (by decide) rfl rfl hl.1 (Nat.le_of_ble_eq_true rfl) dX8_copy_78 ⟨Nat.zero_le _, Nat.zero_le _⟩ (fun H locs hP hD hS => ?_)
              refine lv_if_ne (tgt := 87) hx hb dX8_copy_81 (by decide) (fun c116 => ?_) (fun c116 => ?_)
              · have hF := if_f c116 hF
                refine lv_aload hx hb dX8_copy_87 (lv_at hl 0 rfl) ?_
                refine lv_iload hx hb dX8_copy_89 (lv_at hl 6 rfl) ?_
                refine lv_aload hx hb dX8_copy_91 (lv_at hl 1 rfl) ?_
                refine lv_iload_n hx hb dX8_copy_93 rfl (lv_at hl 4 rfl) ?_
                refine lv_iload hx hb dX8_copy_94 (lv_at hl 7 rfl) ?_
                obtain ⟨v118, h117, hF⟩ := b1_s hF
                refine cl_vv (As := [.int p3, .ref aS1, .int p1, .int p4]) (rest := []) (w' := (w_xsh ky aX aB aP aT aR aK aH aG aS aS0 aS1 aS2 aS3 aI0 aI1 aI2 aI3 sla ssz (va_up sit 1 v118))) ⟨hx, hb, hml, hown, hts⟩ hK hP hD hS hA (c_X5_take_same l D ky aS1 aI1 _ N  (sla 1) (ssz 1) (sit 1) p3 p1 p4 v118 h117) (cwV 4 hts gX8_copy_X5_take rfl rfl rfl (by decide +kernel) ⟨Nat.le_of_ble_eq_true rfl, Nat.le_of_ble_eq_true rfl⟩) [4, 5] [0, 1, 2, 3, 6, 7, 8, 9] [0, 1, 2, 3, 8, 9, 4, 5, 6, 7] 0 4 rfl rfl rfl rfl (wr := [(aX, .inr (7, [.ref aB, .ref aP, .ref aT, .ref aR, .ref aK, .ref aH, .ref aG, .ref aS])), (aS, .inl (ky 3, 4, .inr (.inr (.inr (.inr (shf aS0 aS1 aS2 aS3)))))), (aS0, .inr (4, [.ref aI0, .int (sla 0), .int (ssz 0)])), (aI0, .inl (ky 0, 36, .inl (sit 0))), (aS2, .inr (4, [.ref aI2, .int (sla 2), .int (ssz 2)])), (aI2, .inl (ky 0, 36, .inl (sit 2))), (aS3, .inr (4, [.ref aI3, .int (sla 3), .int (ssz 3)])), (aI3, .inl (ky 0, 36, .inl (sit 3)))]) rfl (by decide) rfl rfl hl.1 (Nat.le_of_ble_eq_true rfl) dX8_copy_96 ⟨Nat.zero_le _, Nat.zero_le _⟩ (fun H locs hP hD hS => ?_)
                refine lv_iload hx hb dX8_copy_99 (lv_at hl 7 rfl) ?_
                have hF := Option.some.inj hF
                subst hF
                exact hQ _ _ _ _ dX8_copy_101 hP hD hS
              · have hF := if_t c116 hF
                refine lv_bipush (v := (-13 : Int32)) hx hb dX8_copy_84 (by decide) ?_
                have hF := Option.some.inj hF
                subst hF
                exact hQ _ _ _ _ dX8_copy_86 hP hD hS
          · have hF := if_f c110 hF
            refine lv_bipush (v := (-12 : Int32)) hx hb dX8_copy_58 (by decide) ?_
            have hF := Option.some.inj hF
            subst hF
            exact hQ _ _ _ _ dX8_copy_60 hP hD hS
        · have hF := if_f c105 hF
          refine lv_bipush (v := (-11 : Int32)) hx hb dX8_copy_42 (by decide) ?_
          have hF := Option.some.inj hF
          subst hF
          exact hQ _ _ _ _ dX8_copy_44 hP hD hS
    · refine cl_vq (ro := (some aS2)) (As := [.int p2]) (rest := []) (w' := (w_xsh ky aX aB aP aT aR aK aH aG aS aS0 aS1 aS2 aS3 aI0 aI1 aI2 aI3 sla ssz sit)) ⟨hx, hb, hml, hown, hts⟩ hK hP hD hS hA (c_X8_sheetAt l D ky aX aB aP aT aR aK aH aG aS aS0 aS1 aS2 aS3 _ p2 (some aS2) (Or.inr ⟨by rw [h80]; decide, by rw [h80]; rfl⟩)) (cwV 1 hts gX8_copy_X8_sheetAt rfl rfl rfl (by decide +kernel) ⟨Nat.le_of_ble_eq_true rfl, Nat.le_of_ble_eq_true rfl⟩) [0, 1] [2, 3, 4, 5, 6, 7, 8, 9] [8, 9, 0, 1, 2, 3, 4, 5, 6, 7] 0 7 rfl rfl rfl rfl (wr := [(aS0, .inr (4, [.ref aI0, .int (sla 0), .int (ssz 0)])), (aI0, .inl (ky 0, 36, .inl (sit 0))), (aS1, .inr (4, [.ref aI1, .int (sla 1), .int (ssz 1)])), (aI1, .inl (ky 0, 36, .inl (sit 1))), (aS2, .inr (4, [.ref aI2, .int (sla 2), .int (ssz 2)])), (aI2, .inl (ky 0, 36, .inl (sit 2))), (aS3, .inr (4, [.ref aI3, .int (sla 3), .int (ssz 3)])), (aI3, .inl (ky 0, 36, .inl (sit 3)))]) rfl (by decide) rfl rfl hl.1 (Nat.le_of_ble_eq_true rfl) dX8_copy_9 ⟨Nat.zero_le _, Nat.zero_le _⟩ (fun H locs hP hD hS => ?_)
      refine lv_astore (lv' := [(7, .ref aS2), (6, .ref aS1), (0, .ref aX), (1, .int p0), (2, .int p1), (3, .int p2), (4, .int p3), (5, .int p4)]) hx hb dX8_copy_12 hl (by decide) rfl (fun ls hl => ?_)
      refine lv_aload hx hb dX8_copy_14 (lv_at hl 1 rfl) ?_
      refine lv_ifnull hx hb dX8_copy_16 ?_
      refine lv_aload hx hb dX8_copy_19 (lv_at hl 0 rfl) ?_
      refine lv_ifnonnull (tgt := 26) hx hb dX8_copy_21 (by decide) ?_
      refine lv_aload hx hb dX8_copy_26 (lv_at hl 1 rfl) ?_
      obtain ⟨r120, h119, hF⟩ := b1_s hF
      refine cl_vi (As := []) (rest := []) (w' := (w_xsh ky aX aB aP aT aR aK aH aG aS aS0 aS1 aS2 aS3 aI0 aI1 aI2 aI3 sla ssz sit)) ⟨hx, hb, hml, hown, hts⟩ hK hP hD hS hA (c_X5_isNothing l D ky aS1 aI1 _ N  (sla 1) (ssz 1) (sit 1)  r120 h119) (cwV 0 hts gX8_copy_X5_isNothing rfl rfl rfl (by decide +kernel) ⟨Nat.le_of_ble_eq_true rfl, Nat.le_of_ble_eq_true rfl⟩) [4, 5] [0, 1, 2, 3, 6, 7, 8, 9] [0, 1, 2, 3, 8, 9, 4, 5, 6, 7] 0 4 rfl rfl rfl rfl (wr := [(aX, .inr (7, [.ref aB, .ref aP, .ref aT, .ref aR, .ref aK, .ref aH, .ref aG, .ref aS])), (aS, .inl (ky 3, 4, .inr (.inr (.inr (.inr (shf aS0 aS1 aS2 aS3)))))), (aS0, .inr (4, [.ref aI0, .int (sla 0), .int (ssz 0)])), (aI0, .inl (ky 0, 36, .inl (sit 0))), (aS2, .inr (4, [.ref aI2, .int (sla 2), .int (ssz 2)])), (aI2, .inl (ky 0, 36, .inl (sit 2))), (aS3, .inr (4, [.ref aI3, .int (sla 3), .int (ssz 3)])), (aI3, .inl (ky 0, 36, .inl (sit 3)))]) rfl (by decide) rfl rfl hl.1 (Nat.le_of_ble_eq_true rfl) dX8_copy_28 ⟨Nat.zero_le _, Nat.zero_le _⟩ (fun H locs hP hD hS => ?_)
      refine lv_if_ne (tgt := 42) hx hb dX8_copy_31 (by decide) (fun c121 => ?_) (fun c121 => ?_)
      · have hF := if_f c121 hF
        refine lv_bipush (v := (-11 : Int32)) hx hb dX8_copy_42 (by decide) ?_
        have hF := Option.some.inj hF
        subst hF
        exact hQ _ _ _ _ dX8_copy_44 hP hD hS
      · have hF := if_t c121 hF
        refine lv_aload hx hb dX8_copy_34 (lv_at hl 0 rfl) ?_
        obtain ⟨r123, h122, hF⟩ := b1_s hF
        refine cl_vi (As := []) (rest := []) (w' := (w_xsh ky aX aB aP aT aR aK aH aG aS aS0 aS1 aS2 aS3 aI0 aI1 aI2 aI3 sla ssz sit)) ⟨hx, hb, hml, hown, hts⟩ hK hP hD hS hA (c_X5_isNothing l D ky aS2 aI2 _ N  (sla 2) (ssz 2) (sit 2)  r123 h122) (cwV 0 hts gX8_copy_X5_isNothing rfl rfl rfl (by decide +kernel) ⟨Nat.le_of_ble_eq_true rfl, Nat.le_of_ble_eq_true rfl⟩) [6, 7] [0, 1, 2, 3, 4, 5, 8, 9] [0, 1, 2, 3, 4, 5, 8, 9, 6, 7] 0 4 rfl rfl rfl rfl (wr := [(aX, .inr (7, [.ref aB, .ref aP, .ref aT, .ref aR, .ref aK, .ref aH, .ref aG, .ref aS])), (aS, .inl (ky 3, 4, .inr (.inr (.inr (.inr (shf aS0 aS1 aS2 aS3)))))), (aS0, .inr (4, [.ref aI0, .int (sla 0), .int (ssz 0)])), (aI0, .inl (ky 0, 36, .inl (sit 0))), (aS1, .inr (4, [.ref aI1, .int (sla 1), .int (ssz 1)])), (aI1, .inl (ky 0, 36, .inl (sit 1))), (aS3, .inr (4, [.ref aI3, .int (sla 3), .int (ssz 3)])), (aI3, .inl (ky 0, 36, .inl (sit 3)))]) rfl (by decide) rfl rfl hl.1 (Nat.le_of_ble_eq_true rfl) dX8_copy_36 ⟨Nat.zero_le _, Nat.zero_le _⟩ (fun H locs hP hD hS => ?_)
        refine lv_if_eq (tgt := 45) hx hb dX8_copy_39 (by decide) (fun c124 => ?_) (fun c124 => ?_)
        · have hF := if_t c124 hF
          refine lv_aload hx hb dX8_copy_45 (lv_at hl 1 rfl) ?_
          obtain ⟨r126, h125, hF⟩ := b1_s hF
          refine cl_vi (As := []) (rest := []) (w' := (w_xsh ky aX aB aP aT aR aK aH aG aS aS0 aS1 aS2 aS3 aI0 aI1 aI2 aI3 sla ssz sit)) ⟨hx, hb, hml, hown, hts⟩ hK hP hD hS hA (c_X5_laneNow l D ky aS1 aI1 _ N  (sla 1) (ssz 1) (sit 1)  r126 h125) (cwV 0 hts gX8_copy_X5_laneNow rfl rfl rfl (by decide +kernel) ⟨Nat.le_of_ble_eq_true rfl, Nat.le_of_ble_eq_true rfl⟩) [4, 5] [0, 1, 2, 3, 6, 7, 8, 9] [0, 1, 2, 3, 8, 9, 4, 5, 6, 7] 0 4 rfl rfl rfl rfl (wr := [(aX, .inr (7, [.ref aB, .ref aP, .ref aT, .ref aR, .ref aK, .ref aH, .ref aG, .ref aS])), (aS, .inl (ky 3, 4, .inr (.inr (.inr (.inr (shf aS0 aS1 aS2 aS3)))))), (aS0, .inr (4, [.ref aI0, .int (sla 0), .int (ssz 0)])), (aI0, .inl (ky 0, 36, .inl (sit 0))), (aS2, .inr (4, [.ref aI2, .int (sla 2), .int (ssz 2)])), (aI2, .inl (ky 0, 36, .inl (sit 2))), (aS3, .inr (4, [.ref aI3, .int (sla 3), .int (ssz 3)])), (aI3, .inl (ky 0, 36, .inl (sit 3)))]) rfl (by decide) rfl rfl hl.1 (Nat.le_of_ble_eq_true rfl) dX8_copy_47 ⟨Nat.zero_le _, Nat.zero_le _⟩ (fun H locs hP hD hS => ?_)
          refine lv_aload hx hb dX8_copy_50 (lv_at hl 0 rfl) ?_
          obtain ⟨r128, h127, hF⟩ := b1_s hF
          refine cl_vi (As := []) (rest := [.int r126]) (w' := (w_xsh ky aX aB aP aT aR aK aH aG aS aS0 aS1 aS2 aS3 aI0 aI1 aI2 aI3 sla ssz sit)) ⟨hx, hb, hml, hown, hts⟩ hK hP hD hS hA (c_X5_laneNow l D ky aS2 aI2 _ N  (sla 2) (ssz 2) (sit 2)  r128 h127) (cwV 0 hts gX8_copy_X5_laneNow rfl rfl rfl (by decide +kernel) ⟨Nat.le_of_ble_eq_true rfl, Nat.le_of_ble_eq_true rfl⟩) [6, 7] [0, 1, 2, 3, 4, 5, 8, 9] [0, 1, 2, 3, 4, 5, 8, 9, 6, 7] 0 4 rfl rfl rfl rfl (wr := [(aX, .inr (7, [.ref aB, .ref aP, .ref aT, .ref aR, .ref aK, .ref aH, .ref aG, .ref aS])), (aS, .inl (ky 3, 4, .inr (.inr (.inr (.inr (shf aS0 aS1 aS2 aS3)))))), (aS0, .inr (4, [.ref aI0, .int (sla 0), .int (ssz 0)])), (aI0, .inl (ky 0, 36, .inl (sit 0))), (aS1, .inr (4, [.ref aI1, .int (sla 1), .int (ssz 1)])), (aI1, .inl (ky 0, 36, .inl (sit 1))), (aS3, .inr (4, [.ref aI3, .int (sla 3), .int (ssz 3)])), (aI3, .inl (ky 0, 36, .inl (sit 3)))]) rfl (by decide) rfl rfl hl.1 (Nat.le_of_ble_eq_true rfl) dX8_copy_52 ⟨Nat.zero_le _, Nat.zero_le _⟩ (fun H locs hP hD hS => ?_)
          refine lv_icmp_eq (tgt := 61) hx hb dX8_copy_55 (by decide) (fun c129 => ?_) (fun c129 => ?_)
          · have hF := if_t c129 hF
            refine lv_aload hx hb dX8_copy_61 (lv_at hl 1 rfl) ?_
            refine lv_iload_n hx hb dX8_copy_63 rfl (lv_at hl 4 rfl) ?_
            refine lv_iload hx hb dX8_copy_64 (lv_at hl 7 rfl) ?_
            obtain ⟨r131, h130, hF⟩ := b1_s hF
            refine cl_vi (As := [.int p1, .int p4]) (rest := []) (w' := (w_xsh ky aX aB aP aT aR aK aH aG aS aS0 aS1 aS2 aS3 aI0 aI1 aI2 aI3 sla ssz sit)) ⟨hx, hb, hml, hown, hts⟩ hK hP hD hS hA (c_X5_covers l D ky aS1 aI1 _ N  (sla 1) (ssz 1) (sit 1) p1 p4 r131 h130) (cwV 2 hts gX8_copy_X5_covers rfl rfl rfl (by decide +kernel) ⟨Nat.le_of_ble_eq_true rfl, Nat.le_of_ble_eq_true rfl⟩) [4, 5] [0, 1, 2, 3, 6, 7, 8, 9] [0, 1, 2, 3, 8, 9, 4, 5, 6, 7] 0 4 rfl rfl rfl rfl (wr := [(aX, .inr (7, [.ref aB, .ref aP, .ref aT, .ref aR, .ref aK, .ref aH, .ref aG, .ref aS])), (aS, .inl (ky 3, 4, .inr (.inr (.inr (.inr (shf aS0 aS1 aS2 aS3)))))), (aS0, .inr (4, [.ref aI0, .int (sla 0), .int (ssz 0)])), (aI0, .inl (ky 0, 36, .inl (sit 0))), (aS2, .inr (4, [.ref aI2, .int (sla 2), .int (ssz 2)])), (aI2, .inl (ky 0, 36, .inl (sit 2))), (aS3, .inr (4, [.ref aI3, .int (sla 3), .int (ssz 3)])), (aI3, .inl (ky 0, 36, .inl (sit 3)))]) rfl (by decide) rfl rfl hl.1 (Nat.le_of_ble_eq_true rfl) dX8_copy_66 ⟨Nat.zero_le _, Nat.zero_le _⟩ (fun H locs hP hD hS => ?_)
            refine lv_if_eq (tgt := 84) hx hb dX8_copy_69 (by decide) (fun c132 => ?_) (fun c132 => ?_)
            · have hF := if_t c132 hF
              refine lv_bipush (v := (-13 : Int32)) hx hb dX8_copy_84 (by decide) ?_
              have hF := Option.some.inj hF
              subst hF
              exact hQ _ _ _ _ dX8_copy_86 hP hD hS
            · have hF := if_f c132 hF
              refine lv_aload hx hb dX8_copy_72 (lv_at hl 0 rfl) ?_
              refine lv_iload hx hb dX8_copy_74 (lv_at hl 6 rfl) ?_
              refine lv_iload hx hb dX8_copy_76 (lv_at hl 7 rfl) ?_
              obtain ⟨r134, h133, hF⟩ := b1_s hF
              refine cl_vi (As := [.int p3, .int p4]) (rest := []) (w' := (w_xsh ky aX aB aP aT aR aK aH aG aS aS0 aS1 aS2 aS3 aI0 aI1 aI2 aI3 sla ssz sit)) ⟨hx, hb, hml, hown, hts⟩ hK hP hD hS hA (c_X5_covers l D ky aS2 aI2 _ N  (sla 2) (ssz 2) (sit 2) p3 p4 r134 h133) (cwV 2 hts gX8_copy_X5_covers rfl rfl rfl (by decide +kernel) ⟨Nat.le_of_ble_eq_true rfl, Nat.le_of_ble_eq_true rfl⟩) [6, 7] [0, 1, 2, 3, 4, 5, 8, 9] [0, 1, 2, 3, 4, 5, 8, 9, 6, 7] 0 4 rfl rfl rfl rfl (wr := [(aX, .inr (7, [.ref aB, .ref aP, .ref aT, .ref aR, .ref aK, .ref aH, .ref aG, .ref aS])), (aS, .inl (ky 3, 4, .inr (.inr (.inr (.inr (shf aS0 aS1 aS2 aS3)))))), (aS0, .inr (4, [.ref aI0, .int (sla 0), .int (ssz 0)])), (aI0, .inl (ky 0, 36, .inl (sit 0))), (aS1, .inr (4, [.ref aI1, .int (sla 1), .int (ssz 1)])), (aI1, .inl (ky 0, 36, .inl (sit 1))), (aS3, .inr (4, [.ref aI3, .int (sla 3), .int (ssz 3)])), (aI3, .inl (ky 0, 36, .inl (sit 3)))]) rfl (by decide) rfl rfl hl.1 (Nat.le_of_ble_eq_true rfl) dX8_copy_78 ⟨Nat.zero_le _, Nat.zero_le _⟩ (fun H locs hP hD hS => ?_)
              refine lv_if_ne (tgt := 87) hx hb dX8_copy_81 (by decide) (fun c135 => ?_) (fun c135 => ?_)
              · have hF := if_f c135 hF
                refine lv_aload hx hb dX8_copy_87 (lv_at hl 0 rfl) ?_
                refine lv_iload hx hb dX8_copy_89 (lv_at hl 6 rfl) ?_
                refine lv_aload hx hb dX8_copy_91 (lv_at hl 1 rfl) ?_
                refine lv_iload_n hx hb dX8_copy_93 rfl (lv_at hl 4 rfl) ?_
                refine lv_iload hx hb dX8_copy_94 (lv_at hl 7 rfl) ?_
                obtain ⟨v137, h136, hF⟩ := b1_s hF
                refine cl_vv (As := [.int p3, .ref aS1, .int p1, .int p4]) (rest := []) (w' := (w_xsh ky aX aB aP aT aR aK aH aG aS aS0 aS1 aS2 aS3 aI0 aI1 aI2 aI3 sla ssz (va_up sit 2 v137))) ⟨hx, hb, hml, hown, hts⟩ hK hP hD hS hA (c_X5_take_two l D ky aS2 aI2 aS1 aI1 _ N  (sla 2) (ssz 2) (sit 2) (sla 1) (ssz 1) (sit 1) p3 p1 p4 v137 h136) (cwV 4 hts gX8_copy_X5_take rfl rfl rfl (by decide +kernel) ⟨Nat.le_of_ble_eq_true rfl, Nat.le_of_ble_eq_true rfl⟩) [6, 7, 4, 5] [0, 1, 2, 3, 8, 9] [0, 1, 2, 3, 8, 9, 6, 7, 4, 5] 0 4 rfl rfl rfl rfl (wr := [(aX, .inr (7, [.ref aB, .ref aP, .ref aT, .ref aR, .ref aK, .ref aH, .ref aG, .ref aS])), (aS, .inl (ky 3, 4, .inr (.inr (.inr (.inr (shf aS0 aS1 aS2 aS3)))))), (aS0, .inr (4, [.ref aI0, .int (sla 0), .int (ssz 0)])), (aI0, .inl (ky 0, 36, .inl (sit 0))), (aS3, .inr (4, [.ref aI3, .int (sla 3), .int (ssz 3)])), (aI3, .inl (ky 0, 36, .inl (sit 3)))]) rfl (by decide) rfl rfl hl.1 (Nat.le_of_ble_eq_true rfl) dX8_copy_96 ⟨Nat.zero_le _, Nat.zero_le _⟩ (fun H locs hP hD hS => ?_)
                refine lv_iload hx hb dX8_copy_99 (lv_at hl 7 rfl) ?_
                have hF := Option.some.inj hF
                subst hF
                exact hQ _ _ _ _ dX8_copy_101 hP hD hS
              · have hF := if_t c135 hF
                refine lv_bipush (v := (-13 : Int32)) hx hb dX8_copy_84 (by decide) ?_
                have hF := Option.some.inj hF
                subst hF
                exact hQ _ _ _ _ dX8_copy_86 hP hD hS
          · have hF := if_f c129 hF
            refine lv_bipush (v := (-12 : Int32)) hx hb dX8_copy_58 (by decide) ?_
            have hF := Option.some.inj hF
            subst hF
            exact hQ _ _ _ _ dX8_copy_60 hP hD hS
        · have hF := if_f c124 hF
          refine lv_bipush (v := (-11 : Int32)) hx hb dX8_copy_42 (by decide) ?_
          have hF := Option.some.inj hF
          subst hF
          exact hQ _ _ _ _ dX8_copy_44 hP hD hS
    · refine cl_vq (ro := (some aS3)) (As := [.int p2]) (rest := []) (w' := (w_xsh ky aX aB aP aT aR aK aH aG aS aS0 aS1 aS2 aS3 aI0 aI1 aI2 aI3 sla ssz sit)) ⟨hx, hb, hml, hown, hts⟩ hK hP hD hS hA (c_X8_sheetAt l D ky aX aB aP aT aR aK aH aG aS aS0 aS1 aS2 aS3 _ p2 (some aS3) (Or.inr ⟨by rw [h80]; decide, by rw [h80]; rfl⟩)) (cwV 1 hts gX8_copy_X8_sheetAt rfl rfl rfl (by decide +kernel) ⟨Nat.le_of_ble_eq_true rfl, Nat.le_of_ble_eq_true rfl⟩) [0, 1] [2, 3, 4, 5, 6, 7, 8, 9] [8, 9, 0, 1, 2, 3, 4, 5, 6, 7] 0 7 rfl rfl rfl rfl (wr := [(aS0, .inr (4, [.ref aI0, .int (sla 0), .int (ssz 0)])), (aI0, .inl (ky 0, 36, .inl (sit 0))), (aS1, .inr (4, [.ref aI1, .int (sla 1), .int (ssz 1)])), (aI1, .inl (ky 0, 36, .inl (sit 1))), (aS2, .inr (4, [.ref aI2, .int (sla 2), .int (ssz 2)])), (aI2, .inl (ky 0, 36, .inl (sit 2))), (aS3, .inr (4, [.ref aI3, .int (sla 3), .int (ssz 3)])), (aI3, .inl (ky 0, 36, .inl (sit 3)))]) rfl (by decide) rfl rfl hl.1 (Nat.le_of_ble_eq_true rfl) dX8_copy_9 ⟨Nat.zero_le _, Nat.zero_le _⟩ (fun H locs hP hD hS => ?_)
      refine lv_astore (lv' := [(7, .ref aS3), (6, .ref aS1), (0, .ref aX), (1, .int p0), (2, .int p1), (3, .int p2), (4, .int p3), (5, .int p4)]) hx hb dX8_copy_12 hl (by decide) rfl (fun ls hl => ?_)
      refine lv_aload hx hb dX8_copy_14 (lv_at hl 1 rfl) ?_
      refine lv_ifnull hx hb dX8_copy_16 ?_
      refine lv_aload hx hb dX8_copy_19 (lv_at hl 0 rfl) ?_
      refine lv_ifnonnull (tgt := 26) hx hb dX8_copy_21 (by decide) ?_
      refine lv_aload hx hb dX8_copy_26 (lv_at hl 1 rfl) ?_
      obtain ⟨r139, h138, hF⟩ := b1_s hF
      refine cl_vi (As := []) (rest := []) (w' := (w_xsh ky aX aB aP aT aR aK aH aG aS aS0 aS1 aS2 aS3 aI0 aI1 aI2 aI3 sla ssz sit)) ⟨hx, hb, hml, hown, hts⟩ hK hP hD hS hA (c_X5_isNothing l D ky aS1 aI1 _ N  (sla 1) (ssz 1) (sit 1)  r139 h138) (cwV 0 hts gX8_copy_X5_isNothing rfl rfl rfl (by decide +kernel) ⟨Nat.le_of_ble_eq_true rfl, Nat.le_of_ble_eq_true rfl⟩) [4, 5] [0, 1, 2, 3, 6, 7, 8, 9] [0, 1, 2, 3, 8, 9, 4, 5, 6, 7] 0 4 rfl rfl rfl rfl (wr := [(aX, .inr (7, [.ref aB, .ref aP, .ref aT, .ref aR, .ref aK, .ref aH, .ref aG, .ref aS])), (aS, .inl (ky 3, 4, .inr (.inr (.inr (.inr (shf aS0 aS1 aS2 aS3)))))), (aS0, .inr (4, [.ref aI0, .int (sla 0), .int (ssz 0)])), (aI0, .inl (ky 0, 36, .inl (sit 0))), (aS2, .inr (4, [.ref aI2, .int (sla 2), .int (ssz 2)])), (aI2, .inl (ky 0, 36, .inl (sit 2))), (aS3, .inr (4, [.ref aI3, .int (sla 3), .int (ssz 3)])), (aI3, .inl (ky 0, 36, .inl (sit 3)))]) rfl (by decide) rfl rfl hl.1 (Nat.le_of_ble_eq_true rfl) dX8_copy_28 ⟨Nat.zero_le _, Nat.zero_le _⟩ (fun H locs hP hD hS => ?_)
      refine lv_if_ne (tgt := 42) hx hb dX8_copy_31 (by decide) (fun c140 => ?_) (fun c140 => ?_)
      · have hF := if_f c140 hF
        refine lv_bipush (v := (-11 : Int32)) hx hb dX8_copy_42 (by decide) ?_
        have hF := Option.some.inj hF
        subst hF
        exact hQ _ _ _ _ dX8_copy_44 hP hD hS
      · have hF := if_t c140 hF
        refine lv_aload hx hb dX8_copy_34 (lv_at hl 0 rfl) ?_
        obtain ⟨r142, h141, hF⟩ := b1_s hF
        refine cl_vi (As := []) (rest := []) (w' := (w_xsh ky aX aB aP aT aR aK aH aG aS aS0 aS1 aS2 aS3 aI0 aI1 aI2 aI3 sla ssz sit)) ⟨hx, hb, hml, hown, hts⟩ hK hP hD hS hA (c_X5_isNothing l D ky aS3 aI3 _ N  (sla 3) (ssz 3) (sit 3)  r142 h141) (cwV 0 hts gX8_copy_X5_isNothing rfl rfl rfl (by decide +kernel) ⟨Nat.le_of_ble_eq_true rfl, Nat.le_of_ble_eq_true rfl⟩) [8, 9] [0, 1, 2, 3, 4, 5, 6, 7] [0, 1, 2, 3, 4, 5, 6, 7, 8, 9] 0 4 rfl rfl rfl rfl (wr := [(aX, .inr (7, [.ref aB, .ref aP, .ref aT, .ref aR, .ref aK, .ref aH, .ref aG, .ref aS])), (aS, .inl (ky 3, 4, .inr (.inr (.inr (.inr (shf aS0 aS1 aS2 aS3)))))), (aS0, .inr (4, [.ref aI0, .int (sla 0), .int (ssz 0)])), (aI0, .inl (ky 0, 36, .inl (sit 0))), (aS1, .inr (4, [.ref aI1, .int (sla 1), .int (ssz 1)])), (aI1, .inl (ky 0, 36, .inl (sit 1))), (aS2, .inr (4, [.ref aI2, .int (sla 2), .int (ssz 2)])), (aI2, .inl (ky 0, 36, .inl (sit 2)))]) rfl (by decide) rfl rfl hl.1 (Nat.le_of_ble_eq_true rfl) dX8_copy_36 ⟨Nat.zero_le _, Nat.zero_le _⟩ (fun H locs hP hD hS => ?_)
        refine lv_if_eq (tgt := 45) hx hb dX8_copy_39 (by decide) (fun c143 => ?_) (fun c143 => ?_)
        · have hF := if_t c143 hF
          refine lv_aload hx hb dX8_copy_45 (lv_at hl 1 rfl) ?_
          obtain ⟨r145, h144, hF⟩ := b1_s hF
          refine cl_vi (As := []) (rest := []) (w' := (w_xsh ky aX aB aP aT aR aK aH aG aS aS0 aS1 aS2 aS3 aI0 aI1 aI2 aI3 sla ssz sit)) ⟨hx, hb, hml, hown, hts⟩ hK hP hD hS hA (c_X5_laneNow l D ky aS1 aI1 _ N  (sla 1) (ssz 1) (sit 1)  r145 h144) (cwV 0 hts gX8_copy_X5_laneNow rfl rfl rfl (by decide +kernel) ⟨Nat.le_of_ble_eq_true rfl, Nat.le_of_ble_eq_true rfl⟩) [4, 5] [0, 1, 2, 3, 6, 7, 8, 9] [0, 1, 2, 3, 8, 9, 4, 5, 6, 7] 0 4 rfl rfl rfl rfl (wr := [(aX, .inr (7, [.ref aB, .ref aP, .ref aT, .ref aR, .ref aK, .ref aH, .ref aG, .ref aS])), (aS, .inl (ky 3, 4, .inr (.inr (.inr (.inr (shf aS0 aS1 aS2 aS3)))))), (aS0, .inr (4, [.ref aI0, .int (sla 0), .int (ssz 0)])), (aI0, .inl (ky 0, 36, .inl (sit 0))), (aS2, .inr (4, [.ref aI2, .int (sla 2), .int (ssz 2)])), (aI2, .inl (ky 0, 36, .inl (sit 2))), (aS3, .inr (4, [.ref aI3, .int (sla 3), .int (ssz 3)])), (aI3, .inl (ky 0, 36, .inl (sit 3)))]) rfl (by decide) rfl rfl hl.1 (Nat.le_of_ble_eq_true rfl) dX8_copy_47 ⟨Nat.zero_le _, Nat.zero_le _⟩ (fun H locs hP hD hS => ?_)
          refine lv_aload hx hb dX8_copy_50 (lv_at hl 0 rfl) ?_
          obtain ⟨r147, h146, hF⟩ := b1_s hF
          refine cl_vi (As := []) (rest := [.int r145]) (w' := (w_xsh ky aX aB aP aT aR aK aH aG aS aS0 aS1 aS2 aS3 aI0 aI1 aI2 aI3 sla ssz sit)) ⟨hx, hb, hml, hown, hts⟩ hK hP hD hS hA (c_X5_laneNow l D ky aS3 aI3 _ N  (sla 3) (ssz 3) (sit 3)  r147 h146) (cwV 0 hts gX8_copy_X5_laneNow rfl rfl rfl (by decide +kernel) ⟨Nat.le_of_ble_eq_true rfl, Nat.le_of_ble_eq_true rfl⟩) [8, 9] [0, 1, 2, 3, 4, 5, 6, 7] [0, 1, 2, 3, 4, 5, 6, 7, 8, 9] 0 4 rfl rfl rfl rfl (wr := [(aX, .inr (7, [.ref aB, .ref aP, .ref aT, .ref aR, .ref aK, .ref aH, .ref aG, .ref aS])), (aS, .inl (ky 3, 4, .inr (.inr (.inr (.inr (shf aS0 aS1 aS2 aS3)))))), (aS0, .inr (4, [.ref aI0, .int (sla 0), .int (ssz 0)])), (aI0, .inl (ky 0, 36, .inl (sit 0))), (aS1, .inr (4, [.ref aI1, .int (sla 1), .int (ssz 1)])), (aI1, .inl (ky 0, 36, .inl (sit 1))), (aS2, .inr (4, [.ref aI2, .int (sla 2), .int (ssz 2)])), (aI2, .inl (ky 0, 36, .inl (sit 2)))]) rfl (by decide) rfl rfl hl.1 (Nat.le_of_ble_eq_true rfl) dX8_copy_52 ⟨Nat.zero_le _, Nat.zero_le _⟩ (fun H locs hP hD hS => ?_)
          refine lv_icmp_eq (tgt := 61) hx hb dX8_copy_55 (by decide) (fun c148 => ?_) (fun c148 => ?_)
          · have hF := if_t c148 hF
            refine lv_aload hx hb dX8_copy_61 (lv_at hl 1 rfl) ?_
            refine lv_iload_n hx hb dX8_copy_63 rfl (lv_at hl 4 rfl) ?_
            refine lv_iload hx hb dX8_copy_64 (lv_at hl 7 rfl) ?_
            obtain ⟨r150, h149, hF⟩ := b1_s hF
            refine cl_vi (As := [.int p1, .int p4]) (rest := []) (w' := (w_xsh ky aX aB aP aT aR aK aH aG aS aS0 aS1 aS2 aS3 aI0 aI1 aI2 aI3 sla ssz sit)) ⟨hx, hb, hml, hown, hts⟩ hK hP hD hS hA (c_X5_covers l D ky aS1 aI1 _ N  (sla 1) (ssz 1) (sit 1) p1 p4 r150 h149) (cwV 2 hts gX8_copy_X5_covers rfl rfl rfl (by decide +kernel) ⟨Nat.le_of_ble_eq_true rfl, Nat.le_of_ble_eq_true rfl⟩) [4, 5] [0, 1, 2, 3, 6, 7, 8, 9] [0, 1, 2, 3, 8, 9, 4, 5, 6, 7] 0 4 rfl rfl rfl rfl (wr := [(aX, .inr (7, [.ref aB, .ref aP, .ref aT, .ref aR, .ref aK, .ref aH, .ref aG, .ref aS])), (aS, .inl (ky 3, 4, .inr (.inr (.inr (.inr (shf aS0 aS1 aS2 aS3)))))), (aS0, .inr (4, [.ref aI0, .int (sla 0), .int (ssz 0)])), (aI0, .inl (ky 0, 36, .inl (sit 0))), (aS2, .inr (4, [.ref aI2, .int (sla 2), .int (ssz 2)])), (aI2, .inl (ky 0, 36, .inl (sit 2))), (aS3, .inr (4, [.ref aI3, .int (sla 3), .int (ssz 3)])), (aI3, .inl (ky 0, 36, .inl (sit 3)))]) rfl (by decide) rfl rfl hl.1 (Nat.le_of_ble_eq_true rfl) dX8_copy_66 ⟨Nat.zero_le _, Nat.zero_le _⟩ (fun H locs hP hD hS => ?_)
            refine lv_if_eq (tgt := 84) hx hb dX8_copy_69 (by decide) (fun c151 => ?_) (fun c151 => ?_)
            · have hF := if_t c151 hF
              refine lv_bipush (v := (-13 : Int32)) hx hb dX8_copy_84 (by decide) ?_
              have hF := Option.some.inj hF
              subst hF
              exact hQ _ _ _ _ dX8_copy_86 hP hD hS
            · have hF := if_f c151 hF
              refine lv_aload hx hb dX8_copy_72 (lv_at hl 0 rfl) ?_
              refine lv_iload hx hb dX8_copy_74 (lv_at hl 6 rfl) ?_
              refine lv_iload hx hb dX8_copy_76 (lv_at hl 7 rfl) ?_
              obtain ⟨r153, h152, hF⟩ := b1_s hF
              refine cl_vi (As := [.int p3, .int p4]) (rest := []) (w' := (w_xsh ky aX aB aP aT aR aK aH aG aS aS0 aS1 aS2 aS3 aI0 aI1 aI2 aI3 sla ssz sit)) ⟨hx, hb, hml, hown, hts⟩ hK hP hD hS hA (c_X5_covers l D ky aS3 aI3 _ N  (sla 3) (ssz 3) (sit 3) p3 p4 r153 h152) (cwV 2 hts gX8_copy_X5_covers rfl rfl rfl (by decide +kernel) ⟨Nat.le_of_ble_eq_true rfl, Nat.le_of_ble_eq_true rfl⟩) [8, 9] [0, 1, 2, 3, 4, 5, 6, 7] [0, 1, 2, 3, 4, 5, 6, 7, 8, 9] 0 4 rfl rfl rfl rfl (wr := [(aX, .inr (7, [.ref aB, .ref aP, .ref aT, .ref aR, .ref aK, .ref aH, .ref aG, .ref aS])), (aS, .inl (ky 3, 4, .inr (.inr (.inr (.inr (shf aS0 aS1 aS2 aS3)))))), (aS0, .inr (4, [.ref aI0, .int (sla 0), .int (ssz 0)])), (aI0, .inl (ky 0, 36, .inl (sit 0))), (aS1, .inr (4, [.ref aI1, .int (sla 1), .int (ssz 1)])), (aI1, .inl (ky 0, 36, .inl (sit 1))), (aS2, .inr (4, [.ref aI2, .int (sla 2), .int (ssz 2)])), (aI2, .inl (ky 0, 36, .inl (sit 2)))]) rfl (by decide) rfl rfl hl.1 (Nat.le_of_ble_eq_true rfl) dX8_copy_78 ⟨Nat.zero_le _, Nat.zero_le _⟩ (fun H locs hP hD hS => ?_)
              refine lv_if_ne (tgt := 87) hx hb dX8_copy_81 (by decide) (fun c154 => ?_) (fun c154 => ?_)
              · have hF := if_f c154 hF
                refine lv_aload hx hb dX8_copy_87 (lv_at hl 0 rfl) ?_
                refine lv_iload hx hb dX8_copy_89 (lv_at hl 6 rfl) ?_
                refine lv_aload hx hb dX8_copy_91 (lv_at hl 1 rfl) ?_
                refine lv_iload_n hx hb dX8_copy_93 rfl (lv_at hl 4 rfl) ?_
                refine lv_iload hx hb dX8_copy_94 (lv_at hl 7 rfl) ?_
                obtain ⟨v156, h155, hF⟩ := b1_s hF
                refine cl_vv (As := [.int p3, .ref aS1, .int p1, .int p4]) (rest := []) (w' := (w_xsh ky aX aB aP aT aR aK aH aG aS aS0 aS1 aS2 aS3 aI0 aI1 aI2 aI3 sla ssz (va_up sit 3 v156))) ⟨hx, hb, hml, hown, hts⟩ hK hP hD hS hA (c_X5_take_two l D ky aS3 aI3 aS1 aI1 _ N  (sla 3) (ssz 3) (sit 3) (sla 1) (ssz 1) (sit 1) p3 p1 p4 v156 h155) (cwV 4 hts gX8_copy_X5_take rfl rfl rfl (by decide +kernel) ⟨Nat.le_of_ble_eq_true rfl, Nat.le_of_ble_eq_true rfl⟩) [8, 9, 4, 5] [0, 1, 2, 3, 6, 7] [0, 1, 2, 3, 8, 9, 4, 5, 6, 7] 0 4 rfl rfl rfl rfl (wr := [(aX, .inr (7, [.ref aB, .ref aP, .ref aT, .ref aR, .ref aK, .ref aH, .ref aG, .ref aS])), (aS, .inl (ky 3, 4, .inr (.inr (.inr (.inr (shf aS0 aS1 aS2 aS3)))))), (aS0, .inr (4, [.ref aI0, .int (sla 0), .int (ssz 0)])), (aI0, .inl (ky 0, 36, .inl (sit 0))), (aS2, .inr (4, [.ref aI2, .int (sla 2), .int (ssz 2)])), (aI2, .inl (ky 0, 36, .inl (sit 2)))]) rfl (by decide) rfl rfl hl.1 (Nat.le_of_ble_eq_true rfl) dX8_copy_96 ⟨Nat.zero_le _, Nat.zero_le _⟩ (fun H locs hP hD hS => ?_)
                refine lv_iload hx hb dX8_copy_99 (lv_at hl 7 rfl) ?_
                have hF := Option.some.inj hF
                subst hF
                exact hQ _ _ _ _ dX8_copy_101 hP hD hS
              · have hF := if_t c154 hF
                refine lv_bipush (v := (-13 : Int32)) hx hb dX8_copy_84 (by decide) ?_
                have hF := Option.some.inj hF
                subst hF
                exact hQ _ _ _ _ dX8_copy_86 hP hD hS
          · have hF := if_f c148 hF
            refine lv_bipush (v := (-12 : Int32)) hx hb dX8_copy_58 (by decide) ?_
            have hF := Option.some.inj hF
            subst hF
            exact hQ _ _ _ _ dX8_copy_60 hP hD hS
        · have hF := if_f c143 hF
          refine lv_bipush (v := (-11 : Int32)) hx hb dX8_copy_42 (by decide) ?_
          have hF := Option.some.inj hF
          subst hF
          exact hQ _ _ _ _ dX8_copy_44 hP hD hS
  · refine cl_vq (ro := (some aS2)) (As := [.int p0]) (rest := []) (w' := (w_xsh ky aX aB aP aT aR aK aH aG aS aS0 aS1 aS2 aS3 aI0 aI1 aI2 aI3 sla ssz sit)) ⟨hx, hb, hml, hown, hts⟩ hK hP hD hS hA (c_X8_sheetAt l D ky aX aB aP aT aR aK aH aG aS aS0 aS1 aS2 aS3 _ p0 (some aS2) (Or.inr ⟨by rw [h1]; decide, by rw [h1]; rfl⟩)) (cwV 1 hts gX8_copy_X8_sheetAt rfl rfl rfl (by decide +kernel) ⟨Nat.le_of_ble_eq_true rfl, Nat.le_of_ble_eq_true rfl⟩) [0, 1] [2, 3, 4, 5, 6, 7, 8, 9] [8, 9, 0, 1, 2, 3, 4, 5, 6, 7] 0 7 rfl rfl rfl rfl (wr := [(aS0, .inr (4, [.ref aI0, .int (sla 0), .int (ssz 0)])), (aI0, .inl (ky 0, 36, .inl (sit 0))), (aS1, .inr (4, [.ref aI1, .int (sla 1), .int (ssz 1)])), (aI1, .inl (ky 0, 36, .inl (sit 1))), (aS2, .inr (4, [.ref aI2, .int (sla 2), .int (ssz 2)])), (aI2, .inl (ky 0, 36, .inl (sit 2))), (aS3, .inr (4, [.ref aI3, .int (sla 3), .int (ssz 3)])), (aI3, .inl (ky 0, 36, .inl (sit 3)))]) rfl (by decide) rfl rfl hl.1 (Nat.le_of_ble_eq_true rfl) dX8_copy_2 ⟨Nat.zero_le _, Nat.zero_le _⟩ (fun H locs hP hD hS => ?_)
    refine lv_astore (lv' := [(6, .ref aS2), (0, .ref aX), (1, .int p0), (2, .int p1), (3, .int p2), (4, .int p3), (5, .int p4)]) hx hb dX8_copy_5 hl (by decide) rfl (fun ls hl => ?_)
    refine lv_aload_n hx hb dX8_copy_7 rfl (lv_at hl 1 rfl) ?_
    refine lv_iload_n hx hb dX8_copy_8 rfl (lv_at hl 4 rfl) ?_
    rcases sh5_s hF with ⟨h157, hF⟩ | ⟨h157, hF⟩ | ⟨h157, hF⟩ | ⟨h157, hF⟩ | ⟨h157, hF⟩
    · refine cl_vq (ro := none) (As := [.int p2]) (rest := []) (w' := (w_xsh ky aX aB aP aT aR aK aH aG aS aS0 aS1 aS2 aS3 aI0 aI1 aI2 aI3 sla ssz sit)) ⟨hx, hb, hml, hown, hts⟩ hK hP hD hS hA (c_X8_sheetAt l D ky aX aB aP aT aR aK aH aG aS aS0 aS1 aS2 aS3 _ p2 none (Or.inl ⟨h157, rfl⟩)) (cwV 1 hts gX8_copy_X8_sheetAt rfl rfl rfl (by decide +kernel) ⟨Nat.le_of_ble_eq_true rfl, Nat.le_of_ble_eq_true rfl⟩) [0, 1] [2, 3, 4, 5, 6, 7, 8, 9] [8, 9, 0, 1, 2, 3, 4, 5, 6, 7] 0 7 rfl rfl rfl rfl (wr := [(aS0, .inr (4, [.ref aI0, .int (sla 0), .int (ssz 0)])), (aI0, .inl (ky 0, 36, .inl (sit 0))), (aS1, .inr (4, [.ref aI1, .int (sla 1), .int (ssz 1)])), (aI1, .inl (ky 0, 36, .inl (sit 1))), (aS2, .inr (4, [.ref aI2, .int (sla 2), .int (ssz 2)])), (aI2, .inl (ky 0, 36, .inl (sit 2))), (aS3, .inr (4, [.ref aI3, .int (sla 3), .int (ssz 3)])), (aI3, .inl (ky 0, 36, .inl (sit 3)))]) rfl (by decide) rfl rfl hl.1 (Nat.le_of_ble_eq_true rfl) dX8_copy_9 ⟨Nat.zero_le _, Nat.zero_le _⟩ (fun H locs hP hD hS => ?_)
      refine lv_astoreN (lv' := [(7, .null), (6, .ref aS2), (0, .ref aX), (1, .int p0), (2, .int p1), (3, .int p2), (4, .int p3), (5, .int p4)]) hx hb dX8_copy_12 hl (by decide) rfl (fun ls hl => ?_)
      refine lv_aload hx hb dX8_copy_14 (lv_at hl 1 rfl) ?_
      refine lv_ifnull hx hb dX8_copy_16 ?_
      refine lv_aloadN hx hb dX8_copy_19 (lv_at hl 0 rfl) ?_
      refine lv_ifnonnullN hx hb dX8_copy_21 ?_
      refine lv_iconst (v := (-1 : Int32)) hx hb dX8_copy_24 (by decide) ?_
      have hF := Option.some.inj hF
      subst hF
      exact hQ _ _ _ _ dX8_copy_25 hP hD hS
    · refine cl_vq (ro := (some aS0)) (As := [.int p2]) (rest := []) (w' := (w_xsh ky aX aB aP aT aR aK aH aG aS aS0 aS1 aS2 aS3 aI0 aI1 aI2 aI3 sla ssz sit)) ⟨hx, hb, hml, hown, hts⟩ hK hP hD hS hA (c_X8_sheetAt l D ky aX aB aP aT aR aK aH aG aS aS0 aS1 aS2 aS3 _ p2 (some aS0) (Or.inr ⟨by rw [h157]; decide, by rw [h157]; rfl⟩)) (cwV 1 hts gX8_copy_X8_sheetAt rfl rfl rfl (by decide +kernel) ⟨Nat.le_of_ble_eq_true rfl, Nat.le_of_ble_eq_true rfl⟩) [0, 1] [2, 3, 4, 5, 6, 7, 8, 9] [8, 9, 0, 1, 2, 3, 4, 5, 6, 7] 0 7 rfl rfl rfl rfl (wr := [(aS0, .inr (4, [.ref aI0, .int (sla 0), .int (ssz 0)])), (aI0, .inl (ky 0, 36, .inl (sit 0))), (aS1, .inr (4, [.ref aI1, .int (sla 1), .int (ssz 1)])), (aI1, .inl (ky 0, 36, .inl (sit 1))), (aS2, .inr (4, [.ref aI2, .int (sla 2), .int (ssz 2)])), (aI2, .inl (ky 0, 36, .inl (sit 2))), (aS3, .inr (4, [.ref aI3, .int (sla 3), .int (ssz 3)])), (aI3, .inl (ky 0, 36, .inl (sit 3)))]) rfl (by decide) rfl rfl hl.1 (Nat.le_of_ble_eq_true rfl) dX8_copy_9 ⟨Nat.zero_le _, Nat.zero_le _⟩ (fun H locs hP hD hS => ?_)
      refine lv_astore (lv' := [(7, .ref aS0), (6, .ref aS2), (0, .ref aX), (1, .int p0), (2, .int p1), (3, .int p2), (4, .int p3), (5, .int p4)]) hx hb dX8_copy_12 hl (by decide) rfl (fun ls hl => ?_)
      refine lv_aload hx hb dX8_copy_14 (lv_at hl 1 rfl) ?_
      refine lv_ifnull hx hb dX8_copy_16 ?_
      refine lv_aload hx hb dX8_copy_19 (lv_at hl 0 rfl) ?_
      refine lv_ifnonnull (tgt := 26) hx hb dX8_copy_21 (by decide) ?_
      refine lv_aload hx hb dX8_copy_26 (lv_at hl 1 rfl) ?_
      obtain ⟨r159, h158, hF⟩ := b1_s hF
      refine cl_vi (As := []) (rest := []) (w' := (w_xsh ky aX aB aP aT aR aK aH aG aS aS0 aS1 aS2 aS3 aI0 aI1 aI2 aI3 sla ssz sit)) ⟨hx, hb, hml, hown, hts⟩ hK hP hD hS hA (c_X5_isNothing l D ky aS2 aI2 _ N  (sla 2) (ssz 2) (sit 2)  r159 h158) (cwV 0 hts gX8_copy_X5_isNothing rfl rfl rfl (by decide +kernel) ⟨Nat.le_of_ble_eq_true rfl, Nat.le_of_ble_eq_true rfl⟩) [6, 7] [0, 1, 2, 3, 4, 5, 8, 9] [0, 1, 2, 3, 4, 5, 8, 9, 6, 7] 0 4 rfl rfl rfl rfl (wr := [(aX, .inr (7, [.ref aB, .ref aP, .ref aT, .ref aR, .ref aK, .ref aH, .ref aG, .ref aS])), (aS, .inl (ky 3, 4, .inr (.inr (.inr (.inr (shf aS0 aS1 aS2 aS3)))))), (aS0, .inr (4, [.ref aI0, .int (sla 0), .int (ssz 0)])), (aI0, .inl (ky 0, 36, .inl (sit 0))), (aS1, .inr (4, [.ref aI1, .int (sla 1), .int (ssz 1)])), (aI1, .inl (ky 0, 36, .inl (sit 1))), (aS3, .inr (4, [.ref aI3, .int (sla 3), .int (ssz 3)])), (aI3, .inl (ky 0, 36, .inl (sit 3)))]) rfl (by decide) rfl rfl hl.1 (Nat.le_of_ble_eq_true rfl) dX8_copy_28 ⟨Nat.zero_le _, Nat.zero_le _⟩ (fun H locs hP hD hS => ?_)
      refine lv_if_ne (tgt := 42) hx hb dX8_copy_31 (by decide) (fun c160 => ?_) (fun c160 => ?_)
      · have hF := if_f c160 hF
        refine lv_bipush (v := (-11 : Int32)) hx hb dX8_copy_42 (by decide) ?_
        have hF := Option.some.inj hF
        subst hF
        exact hQ _ _ _ _ dX8_copy_44 hP hD hS
      · have hF := if_t c160 hF
        refine lv_aload hx hb dX8_copy_34 (lv_at hl 0 rfl) ?_
        obtain ⟨r162, h161, hF⟩ := b1_s hF
        refine cl_vi (As := []) (rest := []) (w' := (w_xsh ky aX aB aP aT aR aK aH aG aS aS0 aS1 aS2 aS3 aI0 aI1 aI2 aI3 sla ssz sit)) ⟨hx, hb, hml, hown, hts⟩ hK hP hD hS hA (c_X5_isNothing l D ky aS0 aI0 _ N  (sla 0) (ssz 0) (sit 0)  r162 h161) (cwV 0 hts gX8_copy_X5_isNothing rfl rfl rfl (by decide +kernel) ⟨Nat.le_of_ble_eq_true rfl, Nat.le_of_ble_eq_true rfl⟩) [2, 3] [0, 1, 4, 5, 6, 7, 8, 9] [0, 1, 8, 9, 2, 3, 4, 5, 6, 7] 0 4 rfl rfl rfl rfl (wr := [(aX, .inr (7, [.ref aB, .ref aP, .ref aT, .ref aR, .ref aK, .ref aH, .ref aG, .ref aS])), (aS, .inl (ky 3, 4, .inr (.inr (.inr (.inr (shf aS0 aS1 aS2 aS3)))))), (aS1, .inr (4, [.ref aI1, .int (sla 1), .int (ssz 1)])), (aI1, .inl (ky 0, 36, .inl (sit 1))), (aS2, .inr (4, [.ref aI2, .int (sla 2), .int (ssz 2)])), (aI2, .inl (ky 0, 36, .inl (sit 2))), (aS3, .inr (4, [.ref aI3, .int (sla 3), .int (ssz 3)])), (aI3, .inl (ky 0, 36, .inl (sit 3)))]) rfl (by decide) rfl rfl hl.1 (Nat.le_of_ble_eq_true rfl) dX8_copy_36 ⟨Nat.zero_le _, Nat.zero_le _⟩ (fun H locs hP hD hS => ?_)
        refine lv_if_eq (tgt := 45) hx hb dX8_copy_39 (by decide) (fun c163 => ?_) (fun c163 => ?_)
        · have hF := if_t c163 hF
          refine lv_aload hx hb dX8_copy_45 (lv_at hl 1 rfl) ?_
          obtain ⟨r165, h164, hF⟩ := b1_s hF
          refine cl_vi (As := []) (rest := []) (w' := (w_xsh ky aX aB aP aT aR aK aH aG aS aS0 aS1 aS2 aS3 aI0 aI1 aI2 aI3 sla ssz sit)) ⟨hx, hb, hml, hown, hts⟩ hK hP hD hS hA (c_X5_laneNow l D ky aS2 aI2 _ N  (sla 2) (ssz 2) (sit 2)  r165 h164) (cwV 0 hts gX8_copy_X5_laneNow rfl rfl rfl (by decide +kernel) ⟨Nat.le_of_ble_eq_true rfl, Nat.le_of_ble_eq_true rfl⟩) [6, 7] [0, 1, 2, 3, 4, 5, 8, 9] [0, 1, 2, 3, 4, 5, 8, 9, 6, 7] 0 4 rfl rfl rfl rfl (wr := [(aX, .inr (7, [.ref aB, .ref aP, .ref aT, .ref aR, .ref aK, .ref aH, .ref aG, .ref aS])), (aS, .inl (ky 3, 4, .inr (.inr (.inr (.inr (shf aS0 aS1 aS2 aS3)))))), (aS0, .inr (4, [.ref aI0, .int (sla 0), .int (ssz 0)])), (aI0, .inl (ky 0, 36, .inl (sit 0))), (aS1, .inr (4, [.ref aI1, .int (sla 1), .int (ssz 1)])), (aI1, .inl (ky 0, 36, .inl (sit 1))), (aS3, .inr (4, [.ref aI3, .int (sla 3), .int (ssz 3)])), (aI3, .inl (ky 0, 36, .inl (sit 3)))]) rfl (by decide) rfl rfl hl.1 (Nat.le_of_ble_eq_true rfl) dX8_copy_47 ⟨Nat.zero_le _, Nat.zero_le _⟩ (fun H locs hP hD hS => ?_)
          refine lv_aload hx hb dX8_copy_50 (lv_at hl 0 rfl) ?_
          obtain ⟨r167, h166, hF⟩ := b1_s hF
          refine cl_vi (As := []) (rest := [.int r165]) (w' := (w_xsh ky aX aB aP aT aR aK aH aG aS aS0 aS1 aS2 aS3 aI0 aI1 aI2 aI3 sla ssz sit)) ⟨hx, hb, hml, hown, hts⟩ hK hP hD hS hA (c_X5_laneNow l D ky aS0 aI0 _ N  (sla 0) (ssz 0) (sit 0)  r167 h166) (cwV 0 hts gX8_copy_X5_laneNow rfl rfl rfl (by decide +kernel) ⟨Nat.le_of_ble_eq_true rfl, Nat.le_of_ble_eq_true rfl⟩) [2, 3] [0, 1, 4, 5, 6, 7, 8, 9] [0, 1, 8, 9, 2, 3, 4, 5, 6, 7] 0 4 rfl rfl rfl rfl (wr := [(aX, .inr (7, [.ref aB, .ref aP, .ref aT, .ref aR, .ref aK, .ref aH, .ref aG, .ref aS])), (aS, .inl (ky 3, 4, .inr (.inr (.inr (.inr (shf aS0 aS1 aS2 aS3)))))), (aS1, .inr (4, [.ref aI1, .int (sla 1), .int (ssz 1)])), (aI1, .inl (ky 0, 36, .inl (sit 1))), (aS2, .inr (4, [.ref aI2, .int (sla 2), .int (ssz 2)])), (aI2, .inl (ky 0, 36, .inl (sit 2))), (aS3, .inr (4, [.ref aI3, .int (sla 3), .int (ssz 3)])), (aI3, .inl (ky 0, 36, .inl (sit 3)))]) rfl (by decide) rfl rfl hl.1 (Nat.le_of_ble_eq_true rfl) dX8_copy_52 ⟨Nat.zero_le _, Nat.zero_le _⟩ (fun H locs hP hD hS => ?_)
          refine lv_icmp_eq (tgt := 61) hx hb dX8_copy_55 (by decide) (fun c168 => ?_) (fun c168 => ?_)
          · have hF := if_t c168 hF
            refine lv_aload hx hb dX8_copy_61 (lv_at hl 1 rfl) ?_
            refine lv_iload_n hx hb dX8_copy_63 rfl (lv_at hl 4 rfl) ?_
            refine lv_iload hx hb dX8_copy_64 (lv_at hl 7 rfl) ?_
            obtain ⟨r170, h169, hF⟩ := b1_s hF
            refine cl_vi (As := [.int p1, .int p4]) (rest := []) (w' := (w_xsh ky aX aB aP aT aR aK aH aG aS aS0 aS1 aS2 aS3 aI0 aI1 aI2 aI3 sla ssz sit)) ⟨hx, hb, hml, hown, hts⟩ hK hP hD hS hA (c_X5_covers l D ky aS2 aI2 _ N  (sla 2) (ssz 2) (sit 2) p1 p4 r170 h169) (cwV 2 hts gX8_copy_X5_covers rfl rfl rfl (by decide +kernel) ⟨Nat.le_of_ble_eq_true rfl, Nat.le_of_ble_eq_true rfl⟩) [6, 7] [0, 1, 2, 3, 4, 5, 8, 9] [0, 1, 2, 3, 4, 5, 8, 9, 6, 7] 0 4 rfl rfl rfl rfl (wr := [(aX, .inr (7, [.ref aB, .ref aP, .ref aT, .ref aR, .ref aK, .ref aH, .ref aG, .ref aS])), (aS, .inl (ky 3, 4, .inr (.inr (.inr (.inr (shf aS0 aS1 aS2 aS3)))))), (aS0, .inr (4, [.ref aI0, .int (sla 0), .int (ssz 0)])), (aI0, .inl (ky 0, 36, .inl (sit 0))), (aS1, .inr (4, [.ref aI1, .int (sla 1), .int (ssz 1)])), (aI1, .inl (ky 0, 36, .inl (sit 1))), (aS3, .inr (4, [.ref aI3, .int (sla 3), .int (ssz 3)])), (aI3, .inl (ky 0, 36, .inl (sit 3)))]) rfl (by decide) rfl rfl hl.1 (Nat.le_of_ble_eq_true rfl) dX8_copy_66 ⟨Nat.zero_le _, Nat.zero_le _⟩ (fun H locs hP hD hS => ?_)
            refine lv_if_eq (tgt := 84) hx hb dX8_copy_69 (by decide) (fun c171 => ?_) (fun c171 => ?_)
            · have hF := if_t c171 hF
              refine lv_bipush (v := (-13 : Int32)) hx hb dX8_copy_84 (by decide) ?_
              have hF := Option.some.inj hF
              subst hF
              exact hQ _ _ _ _ dX8_copy_86 hP hD hS
            · have hF := if_f c171 hF
              refine lv_aload hx hb dX8_copy_72 (lv_at hl 0 rfl) ?_
              refine lv_iload hx hb dX8_copy_74 (lv_at hl 6 rfl) ?_
              refine lv_iload hx hb dX8_copy_76 (lv_at hl 7 rfl) ?_
              obtain ⟨r173, h172, hF⟩ := b1_s hF
              refine cl_vi (As := [.int p3, .int p4]) (rest := []) (w' := (w_xsh ky aX aB aP aT aR aK aH aG aS aS0 aS1 aS2 aS3 aI0 aI1 aI2 aI3 sla ssz sit)) ⟨hx, hb, hml, hown, hts⟩ hK hP hD hS hA (c_X5_covers l D ky aS0 aI0 _ N  (sla 0) (ssz 0) (sit 0) p3 p4 r173 h172) (cwV 2 hts gX8_copy_X5_covers rfl rfl rfl (by decide +kernel) ⟨Nat.le_of_ble_eq_true rfl, Nat.le_of_ble_eq_true rfl⟩) [2, 3] [0, 1, 4, 5, 6, 7, 8, 9] [0, 1, 8, 9, 2, 3, 4, 5, 6, 7] 0 4 rfl rfl rfl rfl (wr := [(aX, .inr (7, [.ref aB, .ref aP, .ref aT, .ref aR, .ref aK, .ref aH, .ref aG, .ref aS])), (aS, .inl (ky 3, 4, .inr (.inr (.inr (.inr (shf aS0 aS1 aS2 aS3)))))), (aS1, .inr (4, [.ref aI1, .int (sla 1), .int (ssz 1)])), (aI1, .inl (ky 0, 36, .inl (sit 1))), (aS2, .inr (4, [.ref aI2, .int (sla 2), .int (ssz 2)])), (aI2, .inl (ky 0, 36, .inl (sit 2))), (aS3, .inr (4, [.ref aI3, .int (sla 3), .int (ssz 3)])), (aI3, .inl (ky 0, 36, .inl (sit 3)))]) rfl (by decide) rfl rfl hl.1 (Nat.le_of_ble_eq_true rfl) dX8_copy_78 ⟨Nat.zero_le _, Nat.zero_le _⟩ (fun H locs hP hD hS => ?_)
              refine lv_if_ne (tgt := 87) hx hb dX8_copy_81 (by decide) (fun c174 => ?_) (fun c174 => ?_)
              · have hF := if_f c174 hF
                refine lv_aload hx hb dX8_copy_87 (lv_at hl 0 rfl) ?_
                refine lv_iload hx hb dX8_copy_89 (lv_at hl 6 rfl) ?_
                refine lv_aload hx hb dX8_copy_91 (lv_at hl 1 rfl) ?_
                refine lv_iload_n hx hb dX8_copy_93 rfl (lv_at hl 4 rfl) ?_
                refine lv_iload hx hb dX8_copy_94 (lv_at hl 7 rfl) ?_
                obtain ⟨v176, h175, hF⟩ := b1_s hF
                refine cl_vv (As := [.int p3, .ref aS2, .int p1, .int p4]) (rest := []) (w' := (w_xsh ky aX aB aP aT aR aK aH aG aS aS0 aS1 aS2 aS3 aI0 aI1 aI2 aI3 sla ssz (va_up sit 0 v176))) ⟨hx, hb, hml, hown, hts⟩ hK hP hD hS hA (c_X5_take_two l D ky aS0 aI0 aS2 aI2 _ N  (sla 0) (ssz 0) (sit 0) (sla 2) (ssz 2) (sit 2) p3 p1 p4 v176 h175) (cwV 4 hts gX8_copy_X5_take rfl rfl rfl (by decide +kernel) ⟨Nat.le_of_ble_eq_true rfl, Nat.le_of_ble_eq_true rfl⟩) [2, 3, 6, 7] [0, 1, 4, 5, 8, 9] [0, 1, 6, 7, 2, 3, 8, 9, 4, 5] 0 4 rfl rfl rfl rfl (wr := [(aX, .inr (7, [.ref aB, .ref aP, .ref aT, .ref aR, .ref aK, .ref aH, .ref aG, .ref aS])), (aS, .inl (ky 3, 4, .inr (.inr (.inr (.inr (shf aS0 aS1 aS2 aS3)))))), (aS1, .inr (4, [.ref aI1, .int (sla 1), .int (ssz 1)])), (aI1, .inl (ky 0, 36, .inl (sit 1))), (aS3, .inr (4, [.ref aI3, .int (sla 3), .int (ssz 3)])), (aI3, .inl (ky 0, 36, .inl (sit 3)))]) rfl (by decide) rfl rfl hl.1 (Nat.le_of_ble_eq_true rfl) dX8_copy_96 ⟨Nat.zero_le _, Nat.zero_le _⟩ (fun H locs hP hD hS => ?_)
                refine lv_iload hx hb dX8_copy_99 (lv_at hl 7 rfl) ?_
                have hF := Option.some.inj hF
                subst hF
                exact hQ _ _ _ _ dX8_copy_101 hP hD hS
              · have hF := if_t c174 hF
                refine lv_bipush (v := (-13 : Int32)) hx hb dX8_copy_84 (by decide) ?_
                have hF := Option.some.inj hF
                subst hF
                exact hQ _ _ _ _ dX8_copy_86 hP hD hS
          · have hF := if_f c168 hF
            refine lv_bipush (v := (-12 : Int32)) hx hb dX8_copy_58 (by decide) ?_
            have hF := Option.some.inj hF
            subst hF
            exact hQ _ _ _ _ dX8_copy_60 hP hD hS
        · have hF := if_f c163 hF
          refine lv_bipush (v := (-11 : Int32)) hx hb dX8_copy_42 (by decide) ?_
          have hF := Option.some.inj hF
          subst hF
          exact hQ _ _ _ _ dX8_copy_44 hP hD hS
    · refine cl_vq (ro := (some aS1)) (As := [.int p2]) (rest := []) (w' := (w_xsh ky aX aB aP aT aR aK aH aG aS aS0 aS1 aS2 aS3 aI0 aI1 aI2 aI3 sla ssz sit)) ⟨hx, hb, hml, hown, hts⟩ hK hP hD hS hA (c_X8_sheetAt l D ky aX aB aP aT aR aK aH aG aS aS0 aS1 aS2 aS3 _ p2 (some aS1) (Or.inr ⟨by rw [h157]; decide, by rw [h157]; rfl⟩)) (cwV 1 hts gX8_copy_X8_sheetAt rfl rfl rfl (by decide +kernel) ⟨Nat.le_of_ble_eq_true rfl, Nat.le_of_ble_eq_true rfl⟩) [0, 1] [2, 3, 4, 5, 6, 7, 8, 9] [8, 9, 0, 1, 2, 3, 4, 5, 6, 7] 0 7 rfl rfl rfl rfl (wr := [(aS0, .inr (4, [.ref aI0, .int (sla 0), .int (ssz 0)])), (aI0, .inl (ky 0, 36, .inl (sit 0))), (aS1, .inr (4, [.ref aI1, .int (sla 1), .int (ssz 1)])), (aI1, .inl (ky 0, 36, .inl (sit 1))), (aS2, .inr (4, [.ref aI2, .int (sla 2), .int (ssz 2)])), (aI2, .inl (ky 0, 36, .inl (sit 2))), (aS3, .inr (4, [.ref aI3, .int (sla 3), .int (ssz 3)])), (aI3, .inl (ky 0, 36, .inl (sit 3)))]) rfl (by decide) rfl rfl hl.1 (Nat.le_of_ble_eq_true rfl) dX8_copy_9 ⟨Nat.zero_le _, Nat.zero_le _⟩ (fun H locs hP hD hS => ?_)
      refine lv_astore (lv' := [(7, .ref aS1), (6, .ref aS2), (0, .ref aX), (1, .int p0), (2, .int p1), (3, .int p2), (4, .int p3), (5, .int p4)]) hx hb dX8_copy_12 hl (by decide) rfl (fun ls hl => ?_)
      refine lv_aload hx hb dX8_copy_14 (lv_at hl 1 rfl) ?_
      refine lv_ifnull hx hb dX8_copy_16 ?_
      refine lv_aload hx hb dX8_copy_19 (lv_at hl 0 rfl) ?_
      refine lv_ifnonnull (tgt := 26) hx hb dX8_copy_21 (by decide) ?_
      refine lv_aload hx hb dX8_copy_26 (lv_at hl 1 rfl) ?_
      obtain ⟨r178, h177, hF⟩ := b1_s hF
      refine cl_vi (As := []) (rest := []) (w' := (w_xsh ky aX aB aP aT aR aK aH aG aS aS0 aS1 aS2 aS3 aI0 aI1 aI2 aI3 sla ssz sit)) ⟨hx, hb, hml, hown, hts⟩ hK hP hD hS hA (c_X5_isNothing l D ky aS2 aI2 _ N  (sla 2) (ssz 2) (sit 2)  r178 h177) (cwV 0 hts gX8_copy_X5_isNothing rfl rfl rfl (by decide +kernel) ⟨Nat.le_of_ble_eq_true rfl, Nat.le_of_ble_eq_true rfl⟩) [6, 7] [0, 1, 2, 3, 4, 5, 8, 9] [0, 1, 2, 3, 4, 5, 8, 9, 6, 7] 0 4 rfl rfl rfl rfl (wr := [(aX, .inr (7, [.ref aB, .ref aP, .ref aT, .ref aR, .ref aK, .ref aH, .ref aG, .ref aS])), (aS, .inl (ky 3, 4, .inr (.inr (.inr (.inr (shf aS0 aS1 aS2 aS3)))))), (aS0, .inr (4, [.ref aI0, .int (sla 0), .int (ssz 0)])), (aI0, .inl (ky 0, 36, .inl (sit 0))), (aS1, .inr (4, [.ref aI1, .int (sla 1), .int (ssz 1)])), (aI1, .inl (ky 0, 36, .inl (sit 1))), (aS3, .inr (4, [.ref aI3, .int (sla 3), .int (ssz 3)])), (aI3, .inl (ky 0, 36, .inl (sit 3)))]) rfl (by decide) rfl rfl hl.1 (Nat.le_of_ble_eq_true rfl) dX8_copy_28 ⟨Nat.zero_le _, Nat.zero_le _⟩ (fun H locs hP hD hS => ?_)
      refine lv_if_ne (tgt := 42) hx hb dX8_copy_31 (by decide) (fun c179 => ?_) (fun c179 => ?_)
      · have hF := if_f c179 hF
        refine lv_bipush (v := (-11 : Int32)) hx hb dX8_copy_42 (by decide) ?_
        have hF := Option.some.inj hF
        subst hF
        exact hQ _ _ _ _ dX8_copy_44 hP hD hS
      · have hF := if_t c179 hF
        refine lv_aload hx hb dX8_copy_34 (lv_at hl 0 rfl) ?_
        obtain ⟨r181, h180, hF⟩ := b1_s hF
        refine cl_vi (As := []) (rest := []) (w' := (w_xsh ky aX aB aP aT aR aK aH aG aS aS0 aS1 aS2 aS3 aI0 aI1 aI2 aI3 sla ssz sit)) ⟨hx, hb, hml, hown, hts⟩ hK hP hD hS hA (c_X5_isNothing l D ky aS1 aI1 _ N  (sla 1) (ssz 1) (sit 1)  r181 h180) (cwV 0 hts gX8_copy_X5_isNothing rfl rfl rfl (by decide +kernel) ⟨Nat.le_of_ble_eq_true rfl, Nat.le_of_ble_eq_true rfl⟩) [4, 5] [0, 1, 2, 3, 6, 7, 8, 9] [0, 1, 2, 3, 8, 9, 4, 5, 6, 7] 0 4 rfl rfl rfl rfl (wr := [(aX, .inr (7, [.ref aB, .ref aP, .ref aT, .ref aR, .ref aK, .ref aH, .ref aG, .ref aS])), (aS, .inl (ky 3, 4, .inr (.inr (.inr (.inr (shf aS0 aS1 aS2 aS3)))))), (aS0, .inr (4, [.ref aI0, .int (sla 0), .int (ssz 0)])), (aI0, .inl (ky 0, 36, .inl (sit 0))), (aS2, .inr (4, [.ref aI2, .int (sla 2), .int (ssz 2)])), (aI2, .inl (ky 0, 36, .inl (sit 2))), (aS3, .inr (4, [.ref aI3, .int (sla 3), .int (ssz 3)])), (aI3, .inl (ky 0, 36, .inl (sit 3)))]) rfl (by decide) rfl rfl hl.1 (Nat.le_of_ble_eq_true rfl) dX8_copy_36 ⟨Nat.zero_le _, Nat.zero_le _⟩ (fun H locs hP hD hS => ?_)
        refine lv_if_eq (tgt := 45) hx hb dX8_copy_39 (by decide) (fun c182 => ?_) (fun c182 => ?_)
        · have hF := if_t c182 hF
          refine lv_aload hx hb dX8_copy_45 (lv_at hl 1 rfl) ?_
          obtain ⟨r184, h183, hF⟩ := b1_s hF
          refine cl_vi (As := []) (rest := []) (w' := (w_xsh ky aX aB aP aT aR aK aH aG aS aS0 aS1 aS2 aS3 aI0 aI1 aI2 aI3 sla ssz sit)) ⟨hx, hb, hml, hown, hts⟩ hK hP hD hS hA (c_X5_laneNow l D ky aS2 aI2 _ N  (sla 2) (ssz 2) (sit 2)  r184 h183) (cwV 0 hts gX8_copy_X5_laneNow rfl rfl rfl (by decide +kernel) ⟨Nat.le_of_ble_eq_true rfl, Nat.le_of_ble_eq_true rfl⟩) [6, 7] [0, 1, 2, 3, 4, 5, 8, 9] [0, 1, 2, 3, 4, 5, 8, 9, 6, 7] 0 4 rfl rfl rfl rfl (wr := [(aX, .inr (7, [.ref aB, .ref aP, .ref aT, .ref aR, .ref aK, .ref aH, .ref aG, .ref aS])), (aS, .inl (ky 3, 4, .inr (.inr (.inr (.inr (shf aS0 aS1 aS2 aS3)))))), (aS0, .inr (4, [.ref aI0, .int (sla 0), .int (ssz 0)])), (aI0, .inl (ky 0, 36, .inl (sit 0))), (aS1, .inr (4, [.ref aI1, .int (sla 1), .int (ssz 1)])), (aI1, .inl (ky 0, 36, .inl (sit 1))), (aS3, .inr (4, [.ref aI3, .int (sla 3), .int (ssz 3)])), (aI3, .inl (ky 0, 36, .inl (sit 3)))]) rfl (by decide) rfl rfl hl.1 (Nat.le_of_ble_eq_true rfl) dX8_copy_47 ⟨Nat.zero_le _, Nat.zero_le _⟩ (fun H locs hP hD hS => ?_)
          refine lv_aload hx hb dX8_copy_50 (lv_at hl 0 rfl) ?_
          obtain ⟨r186, h185, hF⟩ := b1_s hF
          refine cl_vi (As := []) (rest := [.int r184]) (w' := (w_xsh ky aX aB aP aT aR aK aH aG aS aS0 aS1 aS2 aS3 aI0 aI1 aI2 aI3 sla ssz sit)) ⟨hx, hb, hml, hown, hts⟩ hK hP hD hS hA (c_X5_laneNow l D ky aS1 aI1 _ N  (sla 1) (ssz 1) (sit 1)  r186 h185) (cwV 0 hts gX8_copy_X5_laneNow rfl rfl rfl (by decide +kernel) ⟨Nat.le_of_ble_eq_true rfl, Nat.le_of_ble_eq_true rfl⟩) [4, 5] [0, 1, 2, 3, 6, 7, 8, 9] [0, 1, 2, 3, 8, 9, 4, 5, 6, 7] 0 4 rfl rfl rfl rfl (wr := [(aX, .inr (7, [.ref aB, .ref aP, .ref aT, .ref aR, .ref aK, .ref aH, .ref aG, .ref aS])), (aS, .inl (ky 3, 4, .inr (.inr (.inr (.inr (shf aS0 aS1 aS2 aS3)))))), (aS0, .inr (4, [.ref aI0, .int (sla 0), .int (ssz 0)])), (aI0, .inl (ky 0, 36, .inl (sit 0))), (aS2, .inr (4, [.ref aI2, .int (sla 2), .int (ssz 2)])), (aI2, .inl (ky 0, 36, .inl (sit 2))), (aS3, .inr (4, [.ref aI3, .int (sla 3), .int (ssz 3)])), (aI3, .inl (ky 0, 36, .inl (sit 3)))]) rfl (by decide) rfl rfl hl.1 (Nat.le_of_ble_eq_true rfl) dX8_copy_52 ⟨Nat.zero_le _, Nat.zero_le _⟩ (fun H locs hP hD hS => ?_)
          refine lv_icmp_eq (tgt := 61) hx hb dX8_copy_55 (by decide) (fun c187 => ?_) (fun c187 => ?_)
          · have hF := if_t c187 hF
            refine lv_aload hx hb dX8_copy_61 (lv_at hl 1 rfl) ?_
            refine lv_iload_n hx hb dX8_copy_63 rfl (lv_at hl 4 rfl) ?_
            refine lv_iload hx hb dX8_copy_64 (lv_at hl 7 rfl) ?_
            obtain ⟨r189, h188, hF⟩ := b1_s hF
            refine cl_vi (As := [.int p1, .int p4]) (rest := []) (w' := (w_xsh ky aX aB aP aT aR aK aH aG aS aS0 aS1 aS2 aS3 aI0 aI1 aI2 aI3 sla ssz sit)) ⟨hx, hb, hml, hown, hts⟩ hK hP hD hS hA (c_X5_covers l D ky aS2 aI2 _ N  (sla 2) (ssz 2) (sit 2) p1 p4 r189 h188) (cwV 2 hts gX8_copy_X5_covers rfl rfl rfl (by decide +kernel) ⟨Nat.le_of_ble_eq_true rfl, Nat.le_of_ble_eq_true rfl⟩) [6, 7] [0, 1, 2, 3, 4, 5, 8, 9] [0, 1, 2, 3, 4, 5, 8, 9, 6, 7] 0 4 rfl rfl rfl rfl (wr := [(aX, .inr (7, [.ref aB, .ref aP, .ref aT, .ref aR, .ref aK, .ref aH, .ref aG, .ref aS])), (aS, .inl (ky 3, 4, .inr (.inr (.inr (.inr (shf aS0 aS1 aS2 aS3)))))), (aS0, .inr (4, [.ref aI0, .int (sla 0), .int (ssz 0)])), (aI0, .inl (ky 0, 36, .inl (sit 0))), (aS1, .inr (4, [.ref aI1, .int (sla 1), .int (ssz 1)])), (aI1, .inl (ky 0, 36, .inl (sit 1))), (aS3, .inr (4, [.ref aI3, .int (sla 3), .int (ssz 3)])), (aI3, .inl (ky 0, 36, .inl (sit 3)))]) rfl (by decide) rfl rfl hl.1 (Nat.le_of_ble_eq_true rfl) dX8_copy_66 ⟨Nat.zero_le _, Nat.zero_le _⟩ (fun H locs hP hD hS => ?_)
            refine lv_if_eq (tgt := 84) hx hb dX8_copy_69 (by decide) (fun c190 => ?_) (fun c190 => ?_)
            · have hF := if_t c190 hF
              refine lv_bipush (v := (-13 : Int32)) hx hb dX8_copy_84 (by decide) ?_
              have hF := Option.some.inj hF
              subst hF
              exact hQ _ _ _ _ dX8_copy_86 hP hD hS
            · have hF := if_f c190 hF
              refine lv_aload hx hb dX8_copy_72 (lv_at hl 0 rfl) ?_
              refine lv_iload hx hb dX8_copy_74 (lv_at hl 6 rfl) ?_
              refine lv_iload hx hb dX8_copy_76 (lv_at hl 7 rfl) ?_
              obtain ⟨r192, h191, hF⟩ := b1_s hF
              refine cl_vi (As := [.int p3, .int p4]) (rest := []) (w' := (w_xsh ky aX aB aP aT aR aK aH aG aS aS0 aS1 aS2 aS3 aI0 aI1 aI2 aI3 sla ssz sit)) ⟨hx, hb, hml, hown, hts⟩ hK hP hD hS hA (c_X5_covers l D ky aS1 aI1 _ N  (sla 1) (ssz 1) (sit 1) p3 p4 r192 h191) (cwV 2 hts gX8_copy_X5_covers rfl rfl rfl (by decide +kernel) ⟨Nat.le_of_ble_eq_true rfl, Nat.le_of_ble_eq_true rfl⟩) [4, 5] [0, 1, 2, 3, 6, 7, 8, 9] [0, 1, 2, 3, 8, 9, 4, 5, 6, 7] 0 4 rfl rfl rfl rfl (wr := [(aX, .inr (7, [.ref aB, .ref aP, .ref aT, .ref aR, .ref aK, .ref aH, .ref aG, .ref aS])), (aS, .inl (ky 3, 4, .inr (.inr (.inr (.inr (shf aS0 aS1 aS2 aS3)))))), (aS0, .inr (4, [.ref aI0, .int (sla 0), .int (ssz 0)])), (aI0, .inl (ky 0, 36, .inl (sit 0))), (aS2, .inr (4, [.ref aI2, .int (sla 2), .int (ssz 2)])), (aI2, .inl (ky 0, 36, .inl (sit 2))), (aS3, .inr (4, [.ref aI3, .int (sla 3), .int (ssz 3)])), (aI3, .inl (ky 0, 36, .inl (sit 3)))]) rfl (by decide) rfl rfl hl.1 (Nat.le_of_ble_eq_true rfl) dX8_copy_78 ⟨Nat.zero_le _, Nat.zero_le _⟩ (fun H locs hP hD hS => ?_)
              refine lv_if_ne (tgt := 87) hx hb dX8_copy_81 (by decide) (fun c193 => ?_) (fun c193 => ?_)
              · have hF := if_f c193 hF
                refine lv_aload hx hb dX8_copy_87 (lv_at hl 0 rfl) ?_
                refine lv_iload hx hb dX8_copy_89 (lv_at hl 6 rfl) ?_
                refine lv_aload hx hb dX8_copy_91 (lv_at hl 1 rfl) ?_
                refine lv_iload_n hx hb dX8_copy_93 rfl (lv_at hl 4 rfl) ?_
                refine lv_iload hx hb dX8_copy_94 (lv_at hl 7 rfl) ?_
                obtain ⟨v195, h194, hF⟩ := b1_s hF
                refine cl_vv (As := [.int p3, .ref aS2, .int p1, .int p4]) (rest := []) (w' := (w_xsh ky aX aB aP aT aR aK aH aG aS aS0 aS1 aS2 aS3 aI0 aI1 aI2 aI3 sla ssz (va_up sit 1 v195))) ⟨hx, hb, hml, hown, hts⟩ hK hP hD hS hA (c_X5_take_two l D ky aS1 aI1 aS2 aI2 _ N  (sla 1) (ssz 1) (sit 1) (sla 2) (ssz 2) (sit 2) p3 p1 p4 v195 h194) (cwV 4 hts gX8_copy_X5_take rfl rfl rfl (by decide +kernel) ⟨Nat.le_of_ble_eq_true rfl, Nat.le_of_ble_eq_true rfl⟩) [4, 5, 6, 7] [0, 1, 2, 3, 8, 9] [0, 1, 2, 3, 6, 7, 8, 9, 4, 5] 0 4 rfl rfl rfl rfl (wr := [(aX, .inr (7, [.ref aB, .ref aP, .ref aT, .ref aR, .ref aK, .ref aH, .ref aG, .ref aS])), (aS, .inl (ky 3, 4, .inr (.inr (.inr (.inr (shf aS0 aS1 aS2 aS3)))))), (aS0, .inr (4, [.ref aI0, .int (sla 0), .int (ssz 0)])), (aI0, .inl (ky 0, 36, .inl (sit 0))), (aS3, .inr (4, [.ref aI3, .int (sla 3), .int (ssz 3)])), (aI3, .inl (ky 0, 36, .inl (sit 3)))]) rfl (by decide) rfl rfl hl.1 (Nat.le_of_ble_eq_true rfl) dX8_copy_96 ⟨Nat.zero_le _, Nat.zero_le _⟩ (fun H locs hP hD hS => ?_)
                refine lv_iload hx hb dX8_copy_99 (lv_at hl 7 rfl) ?_
                have hF := Option.some.inj hF
                subst hF
                exact hQ _ _ _ _ dX8_copy_101 hP hD hS
              · have hF := if_t c193 hF
                refine lv_bipush (v := (-13 : Int32)) hx hb dX8_copy_84 (by decide) ?_
                have hF := Option.some.inj hF
                subst hF
                exact hQ _ _ _ _ dX8_copy_86 hP hD hS
          · have hF := if_f c187 hF
            refine lv_bipush (v := (-12 : Int32)) hx hb dX8_copy_58 (by decide) ?_
            have hF := Option.some.inj hF
            subst hF
            exact hQ _ _ _ _ dX8_copy_60 hP hD hS
        · have hF := if_f c182 hF
          refine lv_bipush (v := (-11 : Int32)) hx hb dX8_copy_42 (by decide) ?_
          have hF := Option.some.inj hF
          subst hF
          exact hQ _ _ _ _ dX8_copy_44 hP hD hS
    · refine cl_vq (ro := (some aS2)) (As := [.int p2]) (rest := []) (w' := (w_xsh ky aX aB aP aT aR aK aH aG aS aS0 aS1 aS2 aS3 aI0 aI1 aI2 aI3 sla ssz sit)) ⟨hx, hb, hml, hown, hts⟩ hK hP hD hS hA (c_X8_sheetAt l D ky aX aB aP aT aR aK aH aG aS aS0 aS1 aS2 aS3 _ p2 (some aS2) (Or.inr ⟨by rw [h157]; decide, by rw [h157]; rfl⟩)) (cwV 1 hts gX8_copy_X8_sheetAt rfl rfl rfl (by decide +kernel) ⟨Nat.le_of_ble_eq_true rfl, Nat.le_of_ble_eq_true rfl⟩) [0, 1] [2, 3, 4, 5, 6, 7, 8, 9] [8, 9, 0, 1, 2, 3, 4, 5, 6, 7] 0 7 rfl rfl rfl rfl (wr := [(aS0, .inr (4, [.ref aI0, .int (sla 0), .int (ssz 0)])), (aI0, .inl (ky 0, 36, .inl (sit 0))), (aS1, .inr (4, [.ref aI1, .int (sla 1), .int (ssz 1)])), (aI1, .inl (ky 0, 36, .inl (sit 1))), (aS2, .inr (4, [.ref aI2, .int (sla 2), .int (ssz 2)])), (aI2, .inl (ky 0, 36, .inl (sit 2))), (aS3, .inr (4, [.ref aI3, .int (sla 3), .int (ssz 3)])), (aI3, .inl (ky 0, 36, .inl (sit 3)))]) rfl (by decide) rfl rfl hl.1 (Nat.le_of_ble_eq_true rfl) dX8_copy_9 ⟨Nat.zero_le _, Nat.zero_le _⟩ (fun H locs hP hD hS => ?_)
      refine lv_astore (lv' := [(7, .ref aS2), (6, .ref aS2), (0, .ref aX), (1, .int p0), (2, .int p1), (3, .int p2), (4, .int p3), (5, .int p4)]) hx hb dX8_copy_12 hl (by decide) rfl (fun ls hl => ?_)
      refine lv_aload hx hb dX8_copy_14 (lv_at hl 1 rfl) ?_
      refine lv_ifnull hx hb dX8_copy_16 ?_
      refine lv_aload hx hb dX8_copy_19 (lv_at hl 0 rfl) ?_
      refine lv_ifnonnull (tgt := 26) hx hb dX8_copy_21 (by decide) ?_
      refine lv_aload hx hb dX8_copy_26 (lv_at hl 1 rfl) ?_
      obtain ⟨r197, h196, hF⟩ := b1_s hF
      refine cl_vi (As := []) (rest := []) (w' := (w_xsh ky aX aB aP aT aR aK aH aG aS aS0 aS1 aS2 aS3 aI0 aI1 aI2 aI3 sla ssz sit)) ⟨hx, hb, hml, hown, hts⟩ hK hP hD hS hA (c_X5_isNothing l D ky aS2 aI2 _ N  (sla 2) (ssz 2) (sit 2)  r197 h196) (cwV 0 hts gX8_copy_X5_isNothing rfl rfl rfl (by decide +kernel) ⟨Nat.le_of_ble_eq_true rfl, Nat.le_of_ble_eq_true rfl⟩) [6, 7] [0, 1, 2, 3, 4, 5, 8, 9] [0, 1, 2, 3, 4, 5, 8, 9, 6, 7] 0 4 rfl rfl rfl rfl (wr := [(aX, .inr (7, [.ref aB, .ref aP, .ref aT, .ref aR, .ref aK, .ref aH, .ref aG, .ref aS])), (aS, .inl (ky 3, 4, .inr (.inr (.inr (.inr (shf aS0 aS1 aS2 aS3)))))), (aS0, .inr (4, [.ref aI0, .int (sla 0), .int (ssz 0)])), (aI0, .inl (ky 0, 36, .inl (sit 0))), (aS1, .inr (4, [.ref aI1, .int (sla 1), .int (ssz 1)])), (aI1, .inl (ky 0, 36, .inl (sit 1))), (aS3, .inr (4, [.ref aI3, .int (sla 3), .int (ssz 3)])), (aI3, .inl (ky 0, 36, .inl (sit 3)))]) rfl (by decide) rfl rfl hl.1 (Nat.le_of_ble_eq_true rfl) dX8_copy_28 ⟨Nat.zero_le _, Nat.zero_le _⟩ (fun H locs hP hD hS => ?_)
      refine lv_if_ne (tgt := 42) hx hb dX8_copy_31 (by decide) (fun c198 => ?_) (fun c198 => ?_)
      · have hF := if_f c198 hF
        refine lv_bipush (v := (-11 : Int32)) hx hb dX8_copy_42 (by decide) ?_
        have hF := Option.some.inj hF
        subst hF
        exact hQ _ _ _ _ dX8_copy_44 hP hD hS
      · have hF := if_t c198 hF
        refine lv_aload hx hb dX8_copy_34 (lv_at hl 0 rfl) ?_
        obtain ⟨r200, h199, hF⟩ := b1_s hF
        refine cl_vi (As := []) (rest := []) (w' := (w_xsh ky aX aB aP aT aR aK aH aG aS aS0 aS1 aS2 aS3 aI0 aI1 aI2 aI3 sla ssz sit)) ⟨hx, hb, hml, hown, hts⟩ hK hP hD hS hA (c_X5_isNothing l D ky aS2 aI2 _ N  (sla 2) (ssz 2) (sit 2)  r200 h199) (cwV 0 hts gX8_copy_X5_isNothing rfl rfl rfl (by decide +kernel) ⟨Nat.le_of_ble_eq_true rfl, Nat.le_of_ble_eq_true rfl⟩) [6, 7] [0, 1, 2, 3, 4, 5, 8, 9] [0, 1, 2, 3, 4, 5, 8, 9, 6, 7] 0 4 rfl rfl rfl rfl (wr := [(aX, .inr (7, [.ref aB, .ref aP, .ref aT, .ref aR, .ref aK, .ref aH, .ref aG, .ref aS])), (aS, .inl (ky 3, 4, .inr (.inr (.inr (.inr (shf aS0 aS1 aS2 aS3)))))), (aS0, .inr (4, [.ref aI0, .int (sla 0), .int (ssz 0)])), (aI0, .inl (ky 0, 36, .inl (sit 0))), (aS1, .inr (4, [.ref aI1, .int (sla 1), .int (ssz 1)])), (aI1, .inl (ky 0, 36, .inl (sit 1))), (aS3, .inr (4, [.ref aI3, .int (sla 3), .int (ssz 3)])), (aI3, .inl (ky 0, 36, .inl (sit 3)))]) rfl (by decide) rfl rfl hl.1 (Nat.le_of_ble_eq_true rfl) dX8_copy_36 ⟨Nat.zero_le _, Nat.zero_le _⟩ (fun H locs hP hD hS => ?_)
        refine lv_if_eq (tgt := 45) hx hb dX8_copy_39 (by decide) (fun c201 => ?_) (fun c201 => ?_)
        · have hF := if_t c201 hF
          refine lv_aload hx hb dX8_copy_45 (lv_at hl 1 rfl) ?_
          obtain ⟨r203, h202, hF⟩ := b1_s hF
          refine cl_vi (As := []) (rest := []) (w' := (w_xsh ky aX aB aP aT aR aK aH aG aS aS0 aS1 aS2 aS3 aI0 aI1 aI2 aI3 sla ssz sit)) ⟨hx, hb, hml, hown, hts⟩ hK hP hD hS hA (c_X5_laneNow l D ky aS2 aI2 _ N  (sla 2) (ssz 2) (sit 2)  r203 h202) (cwV 0 hts gX8_copy_X5_laneNow rfl rfl rfl (by decide +kernel) ⟨Nat.le_of_ble_eq_true rfl, Nat.le_of_ble_eq_true rfl⟩) [6, 7] [0, 1, 2, 3, 4, 5, 8, 9] [0, 1, 2, 3, 4, 5, 8, 9, 6, 7] 0 4 rfl rfl rfl rfl (wr := [(aX, .inr (7, [.ref aB, .ref aP, .ref aT, .ref aR, .ref aK, .ref aH, .ref aG, .ref aS])), (aS, .inl (ky 3, 4, .inr (.inr (.inr (.inr (shf aS0 aS1 aS2 aS3)))))), (aS0, .inr (4, [.ref aI0, .int (sla 0), .int (ssz 0)])), (aI0, .inl (ky 0, 36, .inl (sit 0))), (aS1, .inr (4, [.ref aI1, .int (sla 1), .int (ssz 1)])), (aI1, .inl (ky 0, 36, .inl (sit 1))), (aS3, .inr (4, [.ref aI3, .int (sla 3), .int (ssz 3)])), (aI3, .inl (ky 0, 36, .inl (sit 3)))]) rfl (by decide) rfl rfl hl.1 (Nat.le_of_ble_eq_true rfl) dX8_copy_47 ⟨Nat.zero_le _, Nat.zero_le _⟩ (fun H locs hP hD hS => ?_)
          refine lv_aload hx hb dX8_copy_50 (lv_at hl 0 rfl) ?_
          obtain ⟨r205, h204, hF⟩ := b1_s hF
          refine cl_vi (As := []) (rest := [.int r203]) (w' := (w_xsh ky aX aB aP aT aR aK aH aG aS aS0 aS1 aS2 aS3 aI0 aI1 aI2 aI3 sla ssz sit)) ⟨hx, hb, hml, hown, hts⟩ hK hP hD hS hA (c_X5_laneNow l D ky aS2 aI2 _ N  (sla 2) (ssz 2) (sit 2)  r205 h204) (cwV 0 hts gX8_copy_X5_laneNow rfl rfl rfl (by decide +kernel) ⟨Nat.le_of_ble_eq_true rfl, Nat.le_of_ble_eq_true rfl⟩) [6, 7] [0, 1, 2, 3, 4, 5, 8, 9] [0, 1, 2, 3, 4, 5, 8, 9, 6, 7] 0 4 rfl rfl rfl rfl (wr := [(aX, .inr (7, [.ref aB, .ref aP, .ref aT, .ref aR, .ref aK, .ref aH, .ref aG, .ref aS])), (aS, .inl (ky 3, 4, .inr (.inr (.inr (.inr (shf aS0 aS1 aS2 aS3)))))), (aS0, .inr (4, [.ref aI0, .int (sla 0), .int (ssz 0)])), (aI0, .inl (ky 0, 36, .inl (sit 0))), (aS1, .inr (4, [.ref aI1, .int (sla 1), .int (ssz 1)])), (aI1, .inl (ky 0, 36, .inl (sit 1))), (aS3, .inr (4, [.ref aI3, .int (sla 3), .int (ssz 3)])), (aI3, .inl (ky 0, 36, .inl (sit 3)))]) rfl (by decide) rfl rfl hl.1 (Nat.le_of_ble_eq_true rfl) dX8_copy_52 ⟨Nat.zero_le _, Nat.zero_le _⟩ (fun H locs hP hD hS => ?_)
          refine lv_icmp_eq (tgt := 61) hx hb dX8_copy_55 (by decide) (fun c206 => ?_) (fun c206 => ?_)
          · have hF := if_t c206 hF
            refine lv_aload hx hb dX8_copy_61 (lv_at hl 1 rfl) ?_
            refine lv_iload_n hx hb dX8_copy_63 rfl (lv_at hl 4 rfl) ?_
            refine lv_iload hx hb dX8_copy_64 (lv_at hl 7 rfl) ?_
            obtain ⟨r208, h207, hF⟩ := b1_s hF
            refine cl_vi (As := [.int p1, .int p4]) (rest := []) (w' := (w_xsh ky aX aB aP aT aR aK aH aG aS aS0 aS1 aS2 aS3 aI0 aI1 aI2 aI3 sla ssz sit)) ⟨hx, hb, hml, hown, hts⟩ hK hP hD hS hA (c_X5_covers l D ky aS2 aI2 _ N  (sla 2) (ssz 2) (sit 2) p1 p4 r208 h207) (cwV 2 hts gX8_copy_X5_covers rfl rfl rfl (by decide +kernel) ⟨Nat.le_of_ble_eq_true rfl, Nat.le_of_ble_eq_true rfl⟩) [6, 7] [0, 1, 2, 3, 4, 5, 8, 9] [0, 1, 2, 3, 4, 5, 8, 9, 6, 7] 0 4 rfl rfl rfl rfl (wr := [(aX, .inr (7, [.ref aB, .ref aP, .ref aT, .ref aR, .ref aK, .ref aH, .ref aG, .ref aS])), (aS, .inl (ky 3, 4, .inr (.inr (.inr (.inr (shf aS0 aS1 aS2 aS3)))))), (aS0, .inr (4, [.ref aI0, .int (sla 0), .int (ssz 0)])), (aI0, .inl (ky 0, 36, .inl (sit 0))), (aS1, .inr (4, [.ref aI1, .int (sla 1), .int (ssz 1)])), (aI1, .inl (ky 0, 36, .inl (sit 1))), (aS3, .inr (4, [.ref aI3, .int (sla 3), .int (ssz 3)])), (aI3, .inl (ky 0, 36, .inl (sit 3)))]) rfl (by decide) rfl rfl hl.1 (Nat.le_of_ble_eq_true rfl) dX8_copy_66 ⟨Nat.zero_le _, Nat.zero_le _⟩ (fun H locs hP hD hS => ?_)
            refine lv_if_eq (tgt := 84) hx hb dX8_copy_69 (by decide) (fun c209 => ?_) (fun c209 => ?_)
            · have hF := if_t c209 hF
              refine lv_bipush (v := (-13 : Int32)) hx hb dX8_copy_84 (by decide) ?_
              have hF := Option.some.inj hF
              subst hF
              exact hQ _ _ _ _ dX8_copy_86 hP hD hS
            · have hF := if_f c209 hF
              refine lv_aload hx hb dX8_copy_72 (lv_at hl 0 rfl) ?_
              refine lv_iload hx hb dX8_copy_74 (lv_at hl 6 rfl) ?_
              refine lv_iload hx hb dX8_copy_76 (lv_at hl 7 rfl) ?_
              obtain ⟨r211, h210, hF⟩ := b1_s hF
              refine cl_vi (As := [.int p3, .int p4]) (rest := []) (w' := (w_xsh ky aX aB aP aT aR aK aH aG aS aS0 aS1 aS2 aS3 aI0 aI1 aI2 aI3 sla ssz sit)) ⟨hx, hb, hml, hown, hts⟩ hK hP hD hS hA (c_X5_covers l D ky aS2 aI2 _ N  (sla 2) (ssz 2) (sit 2) p3 p4 r211 h210) (cwV 2 hts gX8_copy_X5_covers rfl rfl rfl (by decide +kernel) ⟨Nat.le_of_ble_eq_true rfl, Nat.le_of_ble_eq_true rfl⟩) [6, 7] [0, 1, 2, 3, 4, 5, 8, 9] [0, 1, 2, 3, 4, 5, 8, 9, 6, 7] 0 4 rfl rfl rfl rfl (wr := [(aX, .inr (7, [.ref aB, .ref aP, .ref aT, .ref aR, .ref aK, .ref aH, .ref aG, .ref aS])), (aS, .inl (ky 3, 4, .inr (.inr (.inr (.inr (shf aS0 aS1 aS2 aS3)))))), (aS0, .inr (4, [.ref aI0, .int (sla 0), .int (ssz 0)])), (aI0, .inl (ky 0, 36, .inl (sit 0))), (aS1, .inr (4, [.ref aI1, .int (sla 1), .int (ssz 1)])), (aI1, .inl (ky 0, 36, .inl (sit 1))), (aS3, .inr (4, [.ref aI3, .int (sla 3), .int (ssz 3)])), (aI3, .inl (ky 0, 36, .inl (sit 3)))]) rfl (by decide) rfl rfl hl.1 (Nat.le_of_ble_eq_true rfl) dX8_copy_78 ⟨Nat.zero_le _, Nat.zero_le _⟩ (fun H locs hP hD hS => ?_)
              refine lv_if_ne (tgt := 87) hx hb dX8_copy_81 (by decide) (fun c212 => ?_) (fun c212 => ?_)
              · have hF := if_f c212 hF
                refine lv_aload hx hb dX8_copy_87 (lv_at hl 0 rfl) ?_
                refine lv_iload hx hb dX8_copy_89 (lv_at hl 6 rfl) ?_
                refine lv_aload hx hb dX8_copy_91 (lv_at hl 1 rfl) ?_
                refine lv_iload_n hx hb dX8_copy_93 rfl (lv_at hl 4 rfl) ?_
                refine lv_iload hx hb dX8_copy_94 (lv_at hl 7 rfl) ?_
                obtain ⟨v214, h213, hF⟩ := b1_s hF
                refine cl_vv (As := [.int p3, .ref aS2, .int p1, .int p4]) (rest := []) (w' := (w_xsh ky aX aB aP aT aR aK aH aG aS aS0 aS1 aS2 aS3 aI0 aI1 aI2 aI3 sla ssz (va_up sit 2 v214))) ⟨hx, hb, hml, hown, hts⟩ hK hP hD hS hA (c_X5_take_same l D ky aS2 aI2 _ N  (sla 2) (ssz 2) (sit 2) p3 p1 p4 v214 h213) (cwV 4 hts gX8_copy_X5_take rfl rfl rfl (by decide +kernel) ⟨Nat.le_of_ble_eq_true rfl, Nat.le_of_ble_eq_true rfl⟩) [6, 7] [0, 1, 2, 3, 4, 5, 8, 9] [0, 1, 2, 3, 4, 5, 8, 9, 6, 7] 0 4 rfl rfl rfl rfl (wr := [(aX, .inr (7, [.ref aB, .ref aP, .ref aT, .ref aR, .ref aK, .ref aH, .ref aG, .ref aS])), (aS, .inl (ky 3, 4, .inr (.inr (.inr (.inr (shf aS0 aS1 aS2 aS3)))))), (aS0, .inr (4, [.ref aI0, .int (sla 0), .int (ssz 0)])), (aI0, .inl (ky 0, 36, .inl (sit 0))), (aS1, .inr (4, [.ref aI1, .int (sla 1), .int (ssz 1)])), (aI1, .inl (ky 0, 36, .inl (sit 1))), (aS3, .inr (4, [.ref aI3, .int (sla 3), .int (ssz 3)])), (aI3, .inl (ky 0, 36, .inl (sit 3)))]) rfl (by decide) rfl rfl hl.1 (Nat.le_of_ble_eq_true rfl) dX8_copy_96 ⟨Nat.zero_le _, Nat.zero_le _⟩ (fun H locs hP hD hS => ?_)
                refine lv_iload hx hb dX8_copy_99 (lv_at hl 7 rfl) ?_
                have hF := Option.some.inj hF
                subst hF
                exact hQ _ _ _ _ dX8_copy_101 hP hD hS
              · have hF := if_t c212 hF
                refine lv_bipush (v := (-13 : Int32)) hx hb dX8_copy_84 (by decide) ?_
                have hF := Option.some.inj hF
                subst hF
                exact hQ _ _ _ _ dX8_copy_86 hP hD hS
          · have hF := if_f c206 hF
            refine lv_bipush (v := (-12 : Int32)) hx hb dX8_copy_58 (by decide) ?_
            have hF := Option.some.inj hF
            subst hF
            exact hQ _ _ _ _ dX8_copy_60 hP hD hS
        · have hF := if_f c201 hF
          refine lv_bipush (v := (-11 : Int32)) hx hb dX8_copy_42 (by decide) ?_
          have hF := Option.some.inj hF
          subst hF
          exact hQ _ _ _ _ dX8_copy_44 hP hD hS
    · refine cl_vq (ro := (some aS3)) (As := [.int p2]) (rest := []) (w' := (w_xsh ky aX aB aP aT aR aK aH aG aS aS0 aS1 aS2 aS3 aI0 aI1 aI2 aI3 sla ssz sit)) ⟨hx, hb, hml, hown, hts⟩ hK hP hD hS hA (c_X8_sheetAt l D ky aX aB aP aT aR aK aH aG aS aS0 aS1 aS2 aS3 _ p2 (some aS3) (Or.inr ⟨by rw [h157]; decide, by rw [h157]; rfl⟩)) (cwV 1 hts gX8_copy_X8_sheetAt rfl rfl rfl (by decide +kernel) ⟨Nat.le_of_ble_eq_true rfl, Nat.le_of_ble_eq_true rfl⟩) [0, 1] [2, 3, 4, 5, 6, 7, 8, 9] [8, 9, 0, 1, 2, 3, 4, 5, 6, 7] 0 7 rfl rfl rfl rfl (wr := [(aS0, .inr (4, [.ref aI0, .int (sla 0), .int (ssz 0)])), (aI0, .inl (ky 0, 36, .inl (sit 0))), (aS1, .inr (4, [.ref aI1, .int (sla 1), .int (ssz 1)])), (aI1, .inl (ky 0, 36, .inl (sit 1))), (aS2, .inr (4, [.ref aI2, .int (sla 2), .int (ssz 2)])), (aI2, .inl (ky 0, 36, .inl (sit 2))), (aS3, .inr (4, [.ref aI3, .int (sla 3), .int (ssz 3)])), (aI3, .inl (ky 0, 36, .inl (sit 3)))]) rfl (by decide) rfl rfl hl.1 (Nat.le_of_ble_eq_true rfl) dX8_copy_9 ⟨Nat.zero_le _, Nat.zero_le _⟩ (fun H locs hP hD hS => ?_)
      refine lv_astore (lv' := [(7, .ref aS3), (6, .ref aS2), (0, .ref aX), (1, .int p0), (2, .int p1), (3, .int p2), (4, .int p3), (5, .int p4)]) hx hb dX8_copy_12 hl (by decide) rfl (fun ls hl => ?_)
      refine lv_aload hx hb dX8_copy_14 (lv_at hl 1 rfl) ?_
      refine lv_ifnull hx hb dX8_copy_16 ?_
      refine lv_aload hx hb dX8_copy_19 (lv_at hl 0 rfl) ?_
      refine lv_ifnonnull (tgt := 26) hx hb dX8_copy_21 (by decide) ?_
      refine lv_aload hx hb dX8_copy_26 (lv_at hl 1 rfl) ?_
      obtain ⟨r216, h215, hF⟩ := b1_s hF
      refine cl_vi (As := []) (rest := []) (w' := (w_xsh ky aX aB aP aT aR aK aH aG aS aS0 aS1 aS2 aS3 aI0 aI1 aI2 aI3 sla ssz sit)) ⟨hx, hb, hml, hown, hts⟩ hK hP hD hS hA (c_X5_isNothing l D ky aS2 aI2 _ N  (sla 2) (ssz 2) (sit 2)  r216 h215) (cwV 0 hts gX8_copy_X5_isNothing rfl rfl rfl (by decide +kernel) ⟨Nat.le_of_ble_eq_true rfl, Nat.le_of_ble_eq_true rfl⟩) [6, 7] [0, 1, 2, 3, 4, 5, 8, 9] [0, 1, 2, 3, 4, 5, 8, 9, 6, 7] 0 4 rfl rfl rfl rfl (wr := [(aX, .inr (7, [.ref aB, .ref aP, .ref aT, .ref aR, .ref aK, .ref aH, .ref aG, .ref aS])), (aS, .inl (ky 3, 4, .inr (.inr (.inr (.inr (shf aS0 aS1 aS2 aS3)))))), (aS0, .inr (4, [.ref aI0, .int (sla 0), .int (ssz 0)])), (aI0, .inl (ky 0, 36, .inl (sit 0))), (aS1, .inr (4, [.ref aI1, .int (sla 1), .int (ssz 1)])), (aI1, .inl (ky 0, 36, .inl (sit 1))), (aS3, .inr (4, [.ref aI3, .int (sla 3), .int (ssz 3)])), (aI3, .inl (ky 0, 36, .inl (sit 3)))]) rfl (by decide) rfl rfl hl.1 (Nat.le_of_ble_eq_true rfl) dX8_copy_28 ⟨Nat.zero_le _, Nat.zero_le _⟩ (fun H locs hP hD hS => ?_)
      refine lv_if_ne (tgt := 42) hx hb dX8_copy_31 (by decide) (fun c217 => ?_) (fun c217 => ?_)
      · have hF := if_f c217 hF
        refine lv_bipush (v := (-11 : Int32)) hx hb dX8_copy_42 (by decide) ?_
        have hF := Option.some.inj hF
        subst hF
        exact hQ _ _ _ _ dX8_copy_44 hP hD hS
      · have hF := if_t c217 hF
        refine lv_aload hx hb dX8_copy_34 (lv_at hl 0 rfl) ?_
        obtain ⟨r219, h218, hF⟩ := b1_s hF
        refine cl_vi (As := []) (rest := []) (w' := (w_xsh ky aX aB aP aT aR aK aH aG aS aS0 aS1 aS2 aS3 aI0 aI1 aI2 aI3 sla ssz sit)) ⟨hx, hb, hml, hown, hts⟩ hK hP hD hS hA (c_X5_isNothing l D ky aS3 aI3 _ N  (sla 3) (ssz 3) (sit 3)  r219 h218) (cwV 0 hts gX8_copy_X5_isNothing rfl rfl rfl (by decide +kernel) ⟨Nat.le_of_ble_eq_true rfl, Nat.le_of_ble_eq_true rfl⟩) [8, 9] [0, 1, 2, 3, 4, 5, 6, 7] [0, 1, 2, 3, 4, 5, 6, 7, 8, 9] 0 4 rfl rfl rfl rfl (wr := [(aX, .inr (7, [.ref aB, .ref aP, .ref aT, .ref aR, .ref aK, .ref aH, .ref aG, .ref aS])), (aS, .inl (ky 3, 4, .inr (.inr (.inr (.inr (shf aS0 aS1 aS2 aS3)))))), (aS0, .inr (4, [.ref aI0, .int (sla 0), .int (ssz 0)])), (aI0, .inl (ky 0, 36, .inl (sit 0))), (aS1, .inr (4, [.ref aI1, .int (sla 1), .int (ssz 1)])), (aI1, .inl (ky 0, 36, .inl (sit 1))), (aS2, .inr (4, [.ref aI2, .int (sla 2), .int (ssz 2)])), (aI2, .inl (ky 0, 36, .inl (sit 2)))]) rfl (by decide) rfl rfl hl.1 (Nat.le_of_ble_eq_true rfl) dX8_copy_36 ⟨Nat.zero_le _, Nat.zero_le _⟩ (fun H locs hP hD hS => ?_)
        refine lv_if_eq (tgt := 45) hx hb dX8_copy_39 (by decide) (fun c220 => ?_) (fun c220 => ?_)
        · have hF := if_t c220 hF
          refine lv_aload hx hb dX8_copy_45 (lv_at hl 1 rfl) ?_
          obtain ⟨r222, h221, hF⟩ := b1_s hF
          refine cl_vi (As := []) (rest := []) (w' := (w_xsh ky aX aB aP aT aR aK aH aG aS aS0 aS1 aS2 aS3 aI0 aI1 aI2 aI3 sla ssz sit)) ⟨hx, hb, hml, hown, hts⟩ hK hP hD hS hA (c_X5_laneNow l D ky aS2 aI2 _ N  (sla 2) (ssz 2) (sit 2)  r222 h221) (cwV 0 hts gX8_copy_X5_laneNow rfl rfl rfl (by decide +kernel) ⟨Nat.le_of_ble_eq_true rfl, Nat.le_of_ble_eq_true rfl⟩) [6, 7] [0, 1, 2, 3, 4, 5, 8, 9] [0, 1, 2, 3, 4, 5, 8, 9, 6, 7] 0 4 rfl rfl rfl rfl (wr := [(aX, .inr (7, [.ref aB, .ref aP, .ref aT, .ref aR, .ref aK, .ref aH, .ref aG, .ref aS])), (aS, .inl (ky 3, 4, .inr (.inr (.inr (.inr (shf aS0 aS1 aS2 aS3)))))), (aS0, .inr (4, [.ref aI0, .int (sla 0), .int (ssz 0)])), (aI0, .inl (ky 0, 36, .inl (sit 0))), (aS1, .inr (4, [.ref aI1, .int (sla 1), .int (ssz 1)])), (aI1, .inl (ky 0, 36, .inl (sit 1))), (aS3, .inr (4, [.ref aI3, .int (sla 3), .int (ssz 3)])), (aI3, .inl (ky 0, 36, .inl (sit 3)))]) rfl (by decide) rfl rfl hl.1 (Nat.le_of_ble_eq_true rfl) dX8_copy_47 ⟨Nat.zero_le _, Nat.zero_le _⟩ (fun H locs hP hD hS => ?_)
          refine lv_aload hx hb dX8_copy_50 (lv_at hl 0 rfl) ?_
          obtain ⟨r224, h223, hF⟩ := b1_s hF
          refine cl_vi (As := []) (rest := [.int r222]) (w' := (w_xsh ky aX aB aP aT aR aK aH aG aS aS0 aS1 aS2 aS3 aI0 aI1 aI2 aI3 sla ssz sit)) ⟨hx, hb, hml, hown, hts⟩ hK hP hD hS hA (c_X5_laneNow l D ky aS3 aI3 _ N  (sla 3) (ssz 3) (sit 3)  r224 h223) (cwV 0 hts gX8_copy_X5_laneNow rfl rfl rfl (by decide +kernel) ⟨Nat.le_of_ble_eq_true rfl, Nat.le_of_ble_eq_true rfl⟩) [8, 9] [0, 1, 2, 3, 4, 5, 6, 7] [0, 1, 2, 3, 4, 5, 6, 7, 8, 9] 0 4 rfl rfl rfl rfl (wr := [(aX, .inr (7, [.ref aB, .ref aP, .ref aT, .ref aR, .ref aK, .ref aH, .ref aG, .ref aS])), (aS, .inl (ky 3, 4, .inr (.inr (.inr (.inr (shf aS0 aS1 aS2 aS3)))))), (aS0, .inr (4, [.ref aI0, .int (sla 0), .int (ssz 0)])), (aI0, .inl (ky 0, 36, .inl (sit 0))), (aS1, .inr (4, [.ref aI1, .int (sla 1), .int (ssz 1)])), (aI1, .inl (ky 0, 36, .inl (sit 1))), (aS2, .inr (4, [.ref aI2, .int (sla 2), .int (ssz 2)])), (aI2, .inl (ky 0, 36, .inl (sit 2)))]) rfl (by decide) rfl rfl hl.1 (Nat.le_of_ble_eq_true rfl) dX8_copy_52 ⟨Nat.zero_le _, Nat.zero_le _⟩ (fun H locs hP hD hS => ?_)
          refine lv_icmp_eq (tgt := 61) hx hb dX8_copy_55 (by decide) (fun c225 => ?_) (fun c225 => ?_)
          · have hF := if_t c225 hF
            refine lv_aload hx hb dX8_copy_61 (lv_at hl 1 rfl) ?_
            refine lv_iload_n hx hb dX8_copy_63 rfl (lv_at hl 4 rfl) ?_
            refine lv_iload hx hb dX8_copy_64 (lv_at hl 7 rfl) ?_
            obtain ⟨r227, h226, hF⟩ := b1_s hF
            refine cl_vi (As := [.int p1, .int p4]) (rest := []) (w' := (w_xsh ky aX aB aP aT aR aK aH aG aS aS0 aS1 aS2 aS3 aI0 aI1 aI2 aI3 sla ssz sit)) ⟨hx, hb, hml, hown, hts⟩ hK hP hD hS hA (c_X5_covers l D ky aS2 aI2 _ N  (sla 2) (ssz 2) (sit 2) p1 p4 r227 h226) (cwV 2 hts gX8_copy_X5_covers rfl rfl rfl (by decide +kernel) ⟨Nat.le_of_ble_eq_true rfl, Nat.le_of_ble_eq_true rfl⟩) [6, 7] [0, 1, 2, 3, 4, 5, 8, 9] [0, 1, 2, 3, 4, 5, 8, 9, 6, 7] 0 4 rfl rfl rfl rfl (wr := [(aX, .inr (7, [.ref aB, .ref aP, .ref aT, .ref aR, .ref aK, .ref aH, .ref aG, .ref aS])), (aS, .inl (ky 3, 4, .inr (.inr (.inr (.inr (shf aS0 aS1 aS2 aS3)))))), (aS0, .inr (4, [.ref aI0, .int (sla 0), .int (ssz 0)])), (aI0, .inl (ky 0, 36, .inl (sit 0))), (aS1, .inr (4, [.ref aI1, .int (sla 1), .int (ssz 1)])), (aI1, .inl (ky 0, 36, .inl (sit 1))), (aS3, .inr (4, [.ref aI3, .int (sla 3), .int (ssz 3)])), (aI3, .inl (ky 0, 36, .inl (sit 3)))]) rfl (by decide) rfl rfl hl.1 (Nat.le_of_ble_eq_true rfl) dX8_copy_66 ⟨Nat.zero_le _, Nat.zero_le _⟩ (fun H locs hP hD hS => ?_)
            refine lv_if_eq (tgt := 84) hx hb dX8_copy_69 (by decide) (fun c228 => ?_) (fun c228 => ?_)
            · have hF := if_t c228 hF
              refine lv_bipush (v := (-13 : Int32)) hx hb dX8_copy_84 (by decide) ?_
              have hF := Option.some.inj hF
              subst hF
              exact hQ _ _ _ _ dX8_copy_86 hP hD hS
            · have hF := if_f c228 hF
              refine lv_aload hx hb dX8_copy_72 (lv_at hl 0 rfl) ?_
              refine lv_iload hx hb dX8_copy_74 (lv_at hl 6 rfl) ?_
              refine lv_iload hx hb dX8_copy_76 (lv_at hl 7 rfl) ?_
              obtain ⟨r230, h229, hF⟩ := b1_s hF
              refine cl_vi (As := [.int p3, .int p4]) (rest := []) (w' := (w_xsh ky aX aB aP aT aR aK aH aG aS aS0 aS1 aS2 aS3 aI0 aI1 aI2 aI3 sla ssz sit)) ⟨hx, hb, hml, hown, hts⟩ hK hP hD hS hA (c_X5_covers l D ky aS3 aI3 _ N  (sla 3) (ssz 3) (sit 3) p3 p4 r230 h229) (cwV 2 hts gX8_copy_X5_covers rfl rfl rfl (by decide +kernel) ⟨Nat.le_of_ble_eq_true rfl, Nat.le_of_ble_eq_true rfl⟩) [8, 9] [0, 1, 2, 3, 4, 5, 6, 7] [0, 1, 2, 3, 4, 5, 6, 7, 8, 9] 0 4 rfl rfl rfl rfl (wr := [(aX, .inr (7, [.ref aB, .ref aP, .ref aT, .ref aR, .ref aK, .ref aH, .ref aG, .ref aS])), (aS, .inl (ky 3, 4, .inr (.inr (.inr (.inr (shf aS0 aS1 aS2 aS3)))))), (aS0, .inr (4, [.ref aI0, .int (sla 0), .int (ssz 0)])), (aI0, .inl (ky 0, 36, .inl (sit 0))), (aS1, .inr (4, [.ref aI1, .int (sla 1), .int (ssz 1)])), (aI1, .inl (ky 0, 36, .inl (sit 1))), (aS2, .inr (4, [.ref aI2, .int (sla 2), .int (ssz 2)])), (aI2, .inl (ky 0, 36, .inl (sit 2)))]) rfl (by decide) rfl rfl hl.1 (Nat.le_of_ble_eq_true rfl) dX8_copy_78 ⟨Nat.zero_le _, Nat.zero_le _⟩ (fun H locs hP hD hS => ?_)
              refine lv_if_ne (tgt := 87) hx hb dX8_copy_81 (by decide) (fun c231 => ?_) (fun c231 => ?_)
              · have hF := if_f c231 hF
                refine lv_aload hx hb dX8_copy_87 (lv_at hl 0 rfl) ?_
                refine lv_iload hx hb dX8_copy_89 (lv_at hl 6 rfl) ?_
                refine lv_aload hx hb dX8_copy_91 (lv_at hl 1 rfl) ?_
                refine lv_iload_n hx hb dX8_copy_93 rfl (lv_at hl 4 rfl) ?_
                refine lv_iload hx hb dX8_copy_94 (lv_at hl 7 rfl) ?_
                obtain ⟨v233, h232, hF⟩ := b1_s hF
                refine cl_vv (As := [.int p3, .ref aS2, .int p1, .int p4]) (rest := []) (w' := (w_xsh ky aX aB aP aT aR aK aH aG aS aS0 aS1 aS2 aS3 aI0 aI1 aI2 aI3 sla ssz (va_up sit 3 v233))) ⟨hx, hb, hml, hown, hts⟩ hK hP hD hS hA (c_X5_take_two l D ky aS3 aI3 aS2 aI2 _ N  (sla 3) (ssz 3) (sit 3) (sla 2) (ssz 2) (sit 2) p3 p1 p4 v233 h232) (cwV 4 hts gX8_copy_X5_take rfl rfl rfl (by decide +kernel) ⟨Nat.le_of_ble_eq_true rfl, Nat.le_of_ble_eq_true rfl⟩) [8, 9, 6, 7] [0, 1, 2, 3, 4, 5] [0, 1, 2, 3, 4, 5, 8, 9, 6, 7] 0 4 rfl rfl rfl rfl (wr := [(aX, .inr (7, [.ref aB, .ref aP, .ref aT, .ref aR, .ref aK, .ref aH, .ref aG, .ref aS])), (aS, .inl (ky 3, 4, .inr (.inr (.inr (.inr (shf aS0 aS1 aS2 aS3)))))), (aS0, .inr (4, [.ref aI0, .int (sla 0), .int (ssz 0)])), (aI0, .inl (ky 0, 36, .inl (sit 0))), (aS1, .inr (4, [.ref aI1, .int (sla 1), .int (ssz 1)])), (aI1, .inl (ky 0, 36, .inl (sit 1)))]) rfl (by decide) rfl rfl hl.1 (Nat.le_of_ble_eq_true rfl) dX8_copy_96 ⟨Nat.zero_le _, Nat.zero_le _⟩ (fun H locs hP hD hS => ?_)
                refine lv_iload hx hb dX8_copy_99 (lv_at hl 7 rfl) ?_
                have hF := Option.some.inj hF
                subst hF
                exact hQ _ _ _ _ dX8_copy_101 hP hD hS
              · have hF := if_t c231 hF
                refine lv_bipush (v := (-13 : Int32)) hx hb dX8_copy_84 (by decide) ?_
                have hF := Option.some.inj hF
                subst hF
                exact hQ _ _ _ _ dX8_copy_86 hP hD hS
          · have hF := if_f c225 hF
            refine lv_bipush (v := (-12 : Int32)) hx hb dX8_copy_58 (by decide) ?_
            have hF := Option.some.inj hF
            subst hF
            exact hQ _ _ _ _ dX8_copy_60 hP hD hS
        · have hF := if_f c220 hF
          refine lv_bipush (v := (-11 : Int32)) hx hb dX8_copy_42 (by decide) ?_
          have hF := Option.some.inj hF
          subst hF
          exact hQ _ _ _ _ dX8_copy_44 hP hD hS
  · refine cl_vq (ro := (some aS3)) (As := [.int p0]) (rest := []) (w' := (w_xsh ky aX aB aP aT aR aK aH aG aS aS0 aS1 aS2 aS3 aI0 aI1 aI2 aI3 sla ssz sit)) ⟨hx, hb, hml, hown, hts⟩ hK hP hD hS hA (c_X8_sheetAt l D ky aX aB aP aT aR aK aH aG aS aS0 aS1 aS2 aS3 _ p0 (some aS3) (Or.inr ⟨by rw [h1]; decide, by rw [h1]; rfl⟩)) (cwV 1 hts gX8_copy_X8_sheetAt rfl rfl rfl (by decide +kernel) ⟨Nat.le_of_ble_eq_true rfl, Nat.le_of_ble_eq_true rfl⟩) [0, 1] [2, 3, 4, 5, 6, 7, 8, 9] [8, 9, 0, 1, 2, 3, 4, 5, 6, 7] 0 7 rfl rfl rfl rfl (wr := [(aS0, .inr (4, [.ref aI0, .int (sla 0), .int (ssz 0)])), (aI0, .inl (ky 0, 36, .inl (sit 0))), (aS1, .inr (4, [.ref aI1, .int (sla 1), .int (ssz 1)])), (aI1, .inl (ky 0, 36, .inl (sit 1))), (aS2, .inr (4, [.ref aI2, .int (sla 2), .int (ssz 2)])), (aI2, .inl (ky 0, 36, .inl (sit 2))), (aS3, .inr (4, [.ref aI3, .int (sla 3), .int (ssz 3)])), (aI3, .inl (ky 0, 36, .inl (sit 3)))]) rfl (by decide) rfl rfl hl.1 (Nat.le_of_ble_eq_true rfl) dX8_copy_2 ⟨Nat.zero_le _, Nat.zero_le _⟩ (fun H locs hP hD hS => ?_)
    refine lv_astore (lv' := [(6, .ref aS3), (0, .ref aX), (1, .int p0), (2, .int p1), (3, .int p2), (4, .int p3), (5, .int p4)]) hx hb dX8_copy_5 hl (by decide) rfl (fun ls hl => ?_)
    refine lv_aload_n hx hb dX8_copy_7 rfl (lv_at hl 1 rfl) ?_
    refine lv_iload_n hx hb dX8_copy_8 rfl (lv_at hl 4 rfl) ?_
    rcases sh5_s hF with ⟨h234, hF⟩ | ⟨h234, hF⟩ | ⟨h234, hF⟩ | ⟨h234, hF⟩ | ⟨h234, hF⟩
    · refine cl_vq (ro := none) (As := [.int p2]) (rest := []) (w' := (w_xsh ky aX aB aP aT aR aK aH aG aS aS0 aS1 aS2 aS3 aI0 aI1 aI2 aI3 sla ssz sit)) ⟨hx, hb, hml, hown, hts⟩ hK hP hD hS hA (c_X8_sheetAt l D ky aX aB aP aT aR aK aH aG aS aS0 aS1 aS2 aS3 _ p2 none (Or.inl ⟨h234, rfl⟩)) (cwV 1 hts gX8_copy_X8_sheetAt rfl rfl rfl (by decide +kernel) ⟨Nat.le_of_ble_eq_true rfl, Nat.le_of_ble_eq_true rfl⟩) [0, 1] [2, 3, 4, 5, 6, 7, 8, 9] [8, 9, 0, 1, 2, 3, 4, 5, 6, 7] 0 7 rfl rfl rfl rfl (wr := [(aS0, .inr (4, [.ref aI0, .int (sla 0), .int (ssz 0)])), (aI0, .inl (ky 0, 36, .inl (sit 0))), (aS1, .inr (4, [.ref aI1, .int (sla 1), .int (ssz 1)])), (aI1, .inl (ky 0, 36, .inl (sit 1))), (aS2, .inr (4, [.ref aI2, .int (sla 2), .int (ssz 2)])), (aI2, .inl (ky 0, 36, .inl (sit 2))), (aS3, .inr (4, [.ref aI3, .int (sla 3), .int (ssz 3)])), (aI3, .inl (ky 0, 36, .inl (sit 3)))]) rfl (by decide) rfl rfl hl.1 (Nat.le_of_ble_eq_true rfl) dX8_copy_9 ⟨Nat.zero_le _, Nat.zero_le _⟩ (fun H locs hP hD hS => ?_)
      refine lv_astoreN (lv' := [(7, .null), (6, .ref aS3), (0, .ref aX), (1, .int p0), (2, .int p1), (3, .int p2), (4, .int p3), (5, .int p4)]) hx hb dX8_copy_12 hl (by decide) rfl (fun ls hl => ?_)
      refine lv_aload hx hb dX8_copy_14 (lv_at hl 1 rfl) ?_
      refine lv_ifnull hx hb dX8_copy_16 ?_
      refine lv_aloadN hx hb dX8_copy_19 (lv_at hl 0 rfl) ?_
      refine lv_ifnonnullN hx hb dX8_copy_21 ?_
      refine lv_iconst (v := (-1 : Int32)) hx hb dX8_copy_24 (by decide) ?_
      have hF := Option.some.inj hF
      subst hF
      exact hQ _ _ _ _ dX8_copy_25 hP hD hS
    · refine cl_vq (ro := (some aS0)) (As := [.int p2]) (rest := []) (w' := (w_xsh ky aX aB aP aT aR aK aH aG aS aS0 aS1 aS2 aS3 aI0 aI1 aI2 aI3 sla ssz sit)) ⟨hx, hb, hml, hown, hts⟩ hK hP hD hS hA (c_X8_sheetAt l D ky aX aB aP aT aR aK aH aG aS aS0 aS1 aS2 aS3 _ p2 (some aS0) (Or.inr ⟨by rw [h234]; decide, by rw [h234]; rfl⟩)) (cwV 1 hts gX8_copy_X8_sheetAt rfl rfl rfl (by decide +kernel) ⟨Nat.le_of_ble_eq_true rfl, Nat.le_of_ble_eq_true rfl⟩) [0, 1] [2, 3, 4, 5, 6, 7, 8, 9] [8, 9, 0, 1, 2, 3, 4, 5, 6, 7] 0 7 rfl rfl rfl rfl (wr := [(aS0, .inr (4, [.ref aI0, .int (sla 0), .int (ssz 0)])), (aI0, .inl (ky 0, 36, .inl (sit 0))), (aS1, .inr (4, [.ref aI1, .int (sla 1), .int (ssz 1)])), (aI1, .inl (ky 0, 36, .inl (sit 1))), (aS2, .inr (4, [.ref aI2, .int (sla 2), .int (ssz 2)])), (aI2, .inl (ky 0, 36, .inl (sit 2))), (aS3, .inr (4, [.ref aI3, .int (sla 3), .int (ssz 3)])), (aI3, .inl (ky 0, 36, .inl (sit 3)))]) rfl (by decide) rfl rfl hl.1 (Nat.le_of_ble_eq_true rfl) dX8_copy_9 ⟨Nat.zero_le _, Nat.zero_le _⟩ (fun H locs hP hD hS => ?_)
      refine lv_astore (lv' := [(7, .ref aS0), (6, .ref aS3), (0, .ref aX), (1, .int p0), (2, .int p1), (3, .int p2), (4, .int p3), (5, .int p4)]) hx hb dX8_copy_12 hl (by decide) rfl (fun ls hl => ?_)
      refine lv_aload hx hb dX8_copy_14 (lv_at hl 1 rfl) ?_
      refine lv_ifnull hx hb dX8_copy_16 ?_
      refine lv_aload hx hb dX8_copy_19 (lv_at hl 0 rfl) ?_
      refine lv_ifnonnull (tgt := 26) hx hb dX8_copy_21 (by decide) ?_
      refine lv_aload hx hb dX8_copy_26 (lv_at hl 1 rfl) ?_
      obtain ⟨r236, h235, hF⟩ := b1_s hF
      refine cl_vi (As := []) (rest := []) (w' := (w_xsh ky aX aB aP aT aR aK aH aG aS aS0 aS1 aS2 aS3 aI0 aI1 aI2 aI3 sla ssz sit)) ⟨hx, hb, hml, hown, hts⟩ hK hP hD hS hA (c_X5_isNothing l D ky aS3 aI3 _ N  (sla 3) (ssz 3) (sit 3)  r236 h235) (cwV 0 hts gX8_copy_X5_isNothing rfl rfl rfl (by decide +kernel) ⟨Nat.le_of_ble_eq_true rfl, Nat.le_of_ble_eq_true rfl⟩) [8, 9] [0, 1, 2, 3, 4, 5, 6, 7] [0, 1, 2, 3, 4, 5, 6, 7, 8, 9] 0 4 rfl rfl rfl rfl (wr := [(aX, .inr (7, [.ref aB, .ref aP, .ref aT, .ref aR, .ref aK, .ref aH, .ref aG, .ref aS])), (aS, .inl (ky 3, 4, .inr (.inr (.inr (.inr (shf aS0 aS1 aS2 aS3)))))), (aS0, .inr (4, [.ref aI0, .int (sla 0), .int (ssz 0)])), (aI0, .inl (ky 0, 36, .inl (sit 0))), (aS1, .inr (4, [.ref aI1, .int (sla 1), .int (ssz 1)])), (aI1, .inl (ky 0, 36, .inl (sit 1))), (aS2, .inr (4, [.ref aI2, .int (sla 2), .int (ssz 2)])), (aI2, .inl (ky 0, 36, .inl (sit 2)))]) rfl (by decide) rfl rfl hl.1 (Nat.le_of_ble_eq_true rfl) dX8_copy_28 ⟨Nat.zero_le _, Nat.zero_le _⟩ (fun H locs hP hD hS => ?_)
      refine lv_if_ne (tgt := 42) hx hb dX8_copy_31 (by decide) (fun c237 => ?_) (fun c237 => ?_)
      · have hF := if_f c237 hF
        refine lv_bipush (v := (-11 : Int32)) hx hb dX8_copy_42 (by decide) ?_
        have hF := Option.some.inj hF
        subst hF
        exact hQ _ _ _ _ dX8_copy_44 hP hD hS
      · have hF := if_t c237 hF
        refine lv_aload hx hb dX8_copy_34 (lv_at hl 0 rfl) ?_
        obtain ⟨r239, h238, hF⟩ := b1_s hF
        refine cl_vi (As := []) (rest := []) (w' := (w_xsh ky aX aB aP aT aR aK aH aG aS aS0 aS1 aS2 aS3 aI0 aI1 aI2 aI3 sla ssz sit)) ⟨hx, hb, hml, hown, hts⟩ hK hP hD hS hA (c_X5_isNothing l D ky aS0 aI0 _ N  (sla 0) (ssz 0) (sit 0)  r239 h238) (cwV 0 hts gX8_copy_X5_isNothing rfl rfl rfl (by decide +kernel) ⟨Nat.le_of_ble_eq_true rfl, Nat.le_of_ble_eq_true rfl⟩) [2, 3] [0, 1, 4, 5, 6, 7, 8, 9] [0, 1, 8, 9, 2, 3, 4, 5, 6, 7] 0 4 rfl rfl rfl rfl (wr := [(aX, .inr (7, [.ref aB, .ref aP, .ref aT, .ref aR, .ref aK, .ref aH, .ref aG, .ref aS])), (aS, .inl (ky 3, 4, .inr (.inr (.inr (.inr (shf aS0 aS1 aS2 aS3)))))), (aS1, .inr (4, [.ref aI1, .int (sla 1), .int (ssz 1)])), (aI1, .inl (ky 0, 36, .inl (sit 1))), (aS2, .inr (4, [.ref aI2, .int (sla 2), .int (ssz 2)])), (aI2, .inl (ky 0, 36, .inl (sit 2))), (aS3, .inr (4, [.ref aI3, .int (sla 3), .int (ssz 3)])), (aI3, .inl (ky 0, 36, .inl (sit 3)))]) rfl (by decide) rfl rfl hl.1 (Nat.le_of_ble_eq_true rfl) dX8_copy_36 ⟨Nat.zero_le _, Nat.zero_le _⟩ (fun H locs hP hD hS => ?_)
        refine lv_if_eq (tgt := 45) hx hb dX8_copy_39 (by decide) (fun c240 => ?_) (fun c240 => ?_)
        · have hF := if_t c240 hF
          refine lv_aload hx hb dX8_copy_45 (lv_at hl 1 rfl) ?_
          obtain ⟨r242, h241, hF⟩ := b1_s hF
          refine cl_vi (As := []) (rest := []) (w' := (w_xsh ky aX aB aP aT aR aK aH aG aS aS0 aS1 aS2 aS3 aI0 aI1 aI2 aI3 sla ssz sit)) ⟨hx, hb, hml, hown, hts⟩ hK hP hD hS hA (c_X5_laneNow l D ky aS3 aI3 _ N  (sla 3) (ssz 3) (sit 3)  r242 h241) (cwV 0 hts gX8_copy_X5_laneNow rfl rfl rfl (by decide +kernel) ⟨Nat.le_of_ble_eq_true rfl, Nat.le_of_ble_eq_true rfl⟩) [8, 9] [0, 1, 2, 3, 4, 5, 6, 7] [0, 1, 2, 3, 4, 5, 6, 7, 8, 9] 0 4 rfl rfl rfl rfl (wr := [(aX, .inr (7, [.ref aB, .ref aP, .ref aT, .ref aR, .ref aK, .ref aH, .ref aG, .ref aS])), (aS, .inl (ky 3, 4, .inr (.inr (.inr (.inr (shf aS0 aS1 aS2 aS3)))))), (aS0, .inr (4, [.ref aI0, .int (sla 0), .int (ssz 0)])), (aI0, .inl (ky 0, 36, .inl (sit 0))), (aS1, .inr (4, [.ref aI1, .int (sla 1), .int (ssz 1)])), (aI1, .inl (ky 0, 36, .inl (sit 1))), (aS2, .inr (4, [.ref aI2, .int (sla 2), .int (ssz 2)])), (aI2, .inl (ky 0, 36, .inl (sit 2)))]) rfl (by decide) rfl rfl hl.1 (Nat.le_of_ble_eq_true rfl) dX8_copy_47 ⟨Nat.zero_le _, Nat.zero_le _⟩ (fun H locs hP hD hS => ?_)
          refine lv_aload hx hb dX8_copy_50 (lv_at hl 0 rfl) ?_
          obtain ⟨r244, h243, hF⟩ := b1_s hF
          refine cl_vi (As := []) (rest := [.int r242]) (w' := (w_xsh ky aX aB aP aT aR aK aH aG aS aS0 aS1 aS2 aS3 aI0 aI1 aI2 aI3 sla ssz sit)) ⟨hx, hb, hml, hown, hts⟩ hK hP hD hS hA (c_X5_laneNow l D ky aS0 aI0 _ N  (sla 0) (ssz 0) (sit 0)  r244 h243) (cwV 0 hts gX8_copy_X5_laneNow rfl rfl rfl (by decide +kernel) ⟨Nat.le_of_ble_eq_true rfl, Nat.le_of_ble_eq_true rfl⟩) [2, 3] [0, 1, 4, 5, 6, 7, 8, 9] [0, 1, 8, 9, 2, 3, 4, 5, 6, 7] 0 4 rfl rfl rfl rfl (wr := [(aX, .inr (7, [.ref aB, .ref aP, .ref aT, .ref aR, .ref aK, .ref aH, .ref aG, .ref aS])), (aS, .inl (ky 3, 4, .inr (.inr (.inr (.inr (shf aS0 aS1 aS2 aS3)))))), (aS1, .inr (4, [.ref aI1, .int (sla 1), .int (ssz 1)])), (aI1, .inl (ky 0, 36, .inl (sit 1))), (aS2, .inr (4, [.ref aI2, .int (sla 2), .int (ssz 2)])), (aI2, .inl (ky 0, 36, .inl (sit 2))), (aS3, .inr (4, [.ref aI3, .int (sla 3), .int (ssz 3)])), (aI3, .inl (ky 0, 36, .inl (sit 3)))]) rfl (by decide) rfl rfl hl.1 (Nat.le_of_ble_eq_true rfl) dX8_copy_52 ⟨Nat.zero_le _, Nat.zero_le _⟩ (fun H locs hP hD hS => ?_)
          refine lv_icmp_eq (tgt := 61) hx hb dX8_copy_55 (by decide) (fun c245 => ?_) (fun c245 => ?_)
          · have hF := if_t c245 hF
            refine lv_aload hx hb dX8_copy_61 (lv_at hl 1 rfl) ?_
            refine lv_iload_n hx hb dX8_copy_63 rfl (lv_at hl 4 rfl) ?_
            refine lv_iload hx hb dX8_copy_64 (lv_at hl 7 rfl) ?_
            obtain ⟨r247, h246, hF⟩ := b1_s hF
            refine cl_vi (As := [.int p1, .int p4]) (rest := []) (w' := (w_xsh ky aX aB aP aT aR aK aH aG aS aS0 aS1 aS2 aS3 aI0 aI1 aI2 aI3 sla ssz sit)) ⟨hx, hb, hml, hown, hts⟩ hK hP hD hS hA (c_X5_covers l D ky aS3 aI3 _ N  (sla 3) (ssz 3) (sit 3) p1 p4 r247 h246) (cwV 2 hts gX8_copy_X5_covers rfl rfl rfl (by decide +kernel) ⟨Nat.le_of_ble_eq_true rfl, Nat.le_of_ble_eq_true rfl⟩) [8, 9] [0, 1, 2, 3, 4, 5, 6, 7] [0, 1, 2, 3, 4, 5, 6, 7, 8, 9] 0 4 rfl rfl rfl rfl (wr := [(aX, .inr (7, [.ref aB, .ref aP, .ref aT, .ref aR, .ref aK, .ref aH, .ref aG, .ref aS])), (aS, .inl (ky 3, 4, .inr (.inr (.inr (.inr (shf aS0 aS1 aS2 aS3)))))), (aS0, .inr (4, [.ref aI0, .int (sla 0), .int (ssz 0)])), (aI0, .inl (ky 0, 36, .inl (sit 0))), (aS1, .inr (4, [.ref aI1, .int (sla 1), .int (ssz 1)])), (aI1, .inl (ky 0, 36, .inl (sit 1))), (aS2, .inr (4, [.ref aI2, .int (sla 2), .int (ssz 2)])), (aI2, .inl (ky 0, 36, .inl (sit 2)))]) rfl (by decide) rfl rfl hl.1 (Nat.le_of_ble_eq_true rfl) dX8_copy_66 ⟨Nat.zero_le _, Nat.zero_le _⟩ (fun H locs hP hD hS => ?_)
            refine lv_if_eq (tgt := 84) hx hb dX8_copy_69 (by decide) (fun c248 => ?_) (fun c248 => ?_)
            · have hF := if_t c248 hF
              refine lv_bipush (v := (-13 : Int32)) hx hb dX8_copy_84 (by decide) ?_
              have hF := Option.some.inj hF
              subst hF
              exact hQ _ _ _ _ dX8_copy_86 hP hD hS
            · have hF := if_f c248 hF
              refine lv_aload hx hb dX8_copy_72 (lv_at hl 0 rfl) ?_
              refine lv_iload hx hb dX8_copy_74 (lv_at hl 6 rfl) ?_
              refine lv_iload hx hb dX8_copy_76 (lv_at hl 7 rfl) ?_
              obtain ⟨r250, h249, hF⟩ := b1_s hF
              refine cl_vi (As := [.int p3, .int p4]) (rest := []) (w' := (w_xsh ky aX aB aP aT aR aK aH aG aS aS0 aS1 aS2 aS3 aI0 aI1 aI2 aI3 sla ssz sit)) ⟨hx, hb, hml, hown, hts⟩ hK hP hD hS hA (c_X5_covers l D ky aS0 aI0 _ N  (sla 0) (ssz 0) (sit 0) p3 p4 r250 h249) (cwV 2 hts gX8_copy_X5_covers rfl rfl rfl (by decide +kernel) ⟨Nat.le_of_ble_eq_true rfl, Nat.le_of_ble_eq_true rfl⟩) [2, 3] [0, 1, 4, 5, 6, 7, 8, 9] [0, 1, 8, 9, 2, 3, 4, 5, 6, 7] 0 4 rfl rfl rfl rfl (wr := [(aX, .inr (7, [.ref aB, .ref aP, .ref aT, .ref aR, .ref aK, .ref aH, .ref aG, .ref aS])), (aS, .inl (ky 3, 4, .inr (.inr (.inr (.inr (shf aS0 aS1 aS2 aS3)))))), (aS1, .inr (4, [.ref aI1, .int (sla 1), .int (ssz 1)])), (aI1, .inl (ky 0, 36, .inl (sit 1))), (aS2, .inr (4, [.ref aI2, .int (sla 2), .int (ssz 2)])), (aI2, .inl (ky 0, 36, .inl (sit 2))), (aS3, .inr (4, [.ref aI3, .int (sla 3), .int (ssz 3)])), (aI3, .inl (ky 0, 36, .inl (sit 3)))]) rfl (by decide) rfl rfl hl.1 (Nat.le_of_ble_eq_true rfl) dX8_copy_78 ⟨Nat.zero_le _, Nat.zero_le _⟩ (fun H locs hP hD hS => ?_)
              refine lv_if_ne (tgt := 87) hx hb dX8_copy_81 (by decide) (fun c251 => ?_) (fun c251 => ?_)
              · have hF := if_f c251 hF
                refine lv_aload hx hb dX8_copy_87 (lv_at hl 0 rfl) ?_
                refine lv_iload hx hb dX8_copy_89 (lv_at hl 6 rfl) ?_
                refine lv_aload hx hb dX8_copy_91 (lv_at hl 1 rfl) ?_
                refine lv_iload_n hx hb dX8_copy_93 rfl (lv_at hl 4 rfl) ?_
                refine lv_iload hx hb dX8_copy_94 (lv_at hl 7 rfl) ?_
                obtain ⟨v253, h252, hF⟩ := b1_s hF
                refine cl_vv (As := [.int p3, .ref aS3, .int p1, .int p4]) (rest := []) (w' := (w_xsh ky aX aB aP aT aR aK aH aG aS aS0 aS1 aS2 aS3 aI0 aI1 aI2 aI3 sla ssz (va_up sit 0 v253))) ⟨hx, hb, hml, hown, hts⟩ hK hP hD hS hA (c_X5_take_two l D ky aS0 aI0 aS3 aI3 _ N  (sla 0) (ssz 0) (sit 0) (sla 3) (ssz 3) (sit 3) p3 p1 p4 v253 h252) (cwV 4 hts gX8_copy_X5_take rfl rfl rfl (by decide +kernel) ⟨Nat.le_of_ble_eq_true rfl, Nat.le_of_ble_eq_true rfl⟩) [2, 3, 8, 9] [0, 1, 4, 5, 6, 7] [0, 1, 6, 7, 2, 3, 4, 5, 8, 9] 0 4 rfl rfl rfl rfl (wr := [(aX, .inr (7, [.ref aB, .ref aP, .ref aT, .ref aR, .ref aK, .ref aH, .ref aG, .ref aS])), (aS, .inl (ky 3, 4, .inr (.inr (.inr (.inr (shf aS0 aS1 aS2 aS3)))))), (aS1, .inr (4, [.ref aI1, .int (sla 1), .int (ssz 1)])), (aI1, .inl (ky 0, 36, .inl (sit 1))), (aS2, .inr (4, [.ref aI2, .int (sla 2), .int (ssz 2)])), (aI2, .inl (ky 0, 36, .inl (sit 2)))]) rfl (by decide) rfl rfl hl.1 (Nat.le_of_ble_eq_true rfl) dX8_copy_96 ⟨Nat.zero_le _, Nat.zero_le _⟩ (fun H locs hP hD hS => ?_)
                refine lv_iload hx hb dX8_copy_99 (lv_at hl 7 rfl) ?_
                have hF := Option.some.inj hF
                subst hF
                exact hQ _ _ _ _ dX8_copy_101 hP hD hS
              · have hF := if_t c251 hF
                refine lv_bipush (v := (-13 : Int32)) hx hb dX8_copy_84 (by decide) ?_
                have hF := Option.some.inj hF
                subst hF
                exact hQ _ _ _ _ dX8_copy_86 hP hD hS
          · have hF := if_f c245 hF
            refine lv_bipush (v := (-12 : Int32)) hx hb dX8_copy_58 (by decide) ?_
            have hF := Option.some.inj hF
            subst hF
            exact hQ _ _ _ _ dX8_copy_60 hP hD hS
        · have hF := if_f c240 hF
          refine lv_bipush (v := (-11 : Int32)) hx hb dX8_copy_42 (by decide) ?_
          have hF := Option.some.inj hF
          subst hF
          exact hQ _ _ _ _ dX8_copy_44 hP hD hS
    · refine cl_vq (ro := (some aS1)) (As := [.int p2]) (rest := []) (w' := (w_xsh ky aX aB aP aT aR aK aH aG aS aS0 aS1 aS2 aS3 aI0 aI1 aI2 aI3 sla ssz sit)) ⟨hx, hb, hml, hown, hts⟩ hK hP hD hS hA (c_X8_sheetAt l D ky aX aB aP aT aR aK aH aG aS aS0 aS1 aS2 aS3 _ p2 (some aS1) (Or.inr ⟨by rw [h234]; decide, by rw [h234]; rfl⟩)) (cwV 1 hts gX8_copy_X8_sheetAt rfl rfl rfl (by decide +kernel) ⟨Nat.le_of_ble_eq_true rfl, Nat.le_of_ble_eq_true rfl⟩) [0, 1] [2, 3, 4, 5, 6, 7, 8, 9] [8, 9, 0, 1, 2, 3, 4, 5, 6, 7] 0 7 rfl rfl rfl rfl (wr := [(aS0, .inr (4, [.ref aI0, .int (sla 0), .int (ssz 0)])), (aI0, .inl (ky 0, 36, .inl (sit 0))), (aS1, .inr (4, [.ref aI1, .int (sla 1), .int (ssz 1)])), (aI1, .inl (ky 0, 36, .inl (sit 1))), (aS2, .inr (4, [.ref aI2, .int (sla 2), .int (ssz 2)])), (aI2, .inl (ky 0, 36, .inl (sit 2))), (aS3, .inr (4, [.ref aI3, .int (sla 3), .int (ssz 3)])), (aI3, .inl (ky 0, 36, .inl (sit 3)))]) rfl (by decide) rfl rfl hl.1 (Nat.le_of_ble_eq_true rfl) dX8_copy_9 ⟨Nat.zero_le _, Nat.zero_le _⟩ (fun H locs hP hD hS => ?_)
      refine lv_astore (lv' := [(7, .ref aS1), (6, .ref aS3), (0, .ref aX), (1, .int p0), (2, .int p1), (3, .int p2), (4, .int p3), (5, .int p4)]) hx hb dX8_copy_12 hl (by decide) rfl (fun ls hl => ?_)
      refine lv_aload hx hb dX8_copy_14 (lv_at hl 1 rfl) ?_
      refine lv_ifnull hx hb dX8_copy_16 ?_
      refine lv_aload hx hb dX8_copy_19 (lv_at hl 0 rfl) ?_
      refine lv_ifnonnull (tgt := 26) hx hb dX8_copy_21 (by decide) ?_
      refine lv_aload hx hb dX8_copy_26 (lv_at hl 1 rfl) ?_
      obtain ⟨r255, h254, hF⟩ := b1_s hF
      refine cl_vi (As := []) (rest := []) (w' := (w_xsh ky aX aB aP aT aR aK aH aG aS aS0 aS1 aS2 aS3 aI0 aI1 aI2 aI3 sla ssz sit)) ⟨hx, hb, hml, hown, hts⟩ hK hP hD hS hA (c_X5_isNothing l D ky aS3 aI3 _ N  (sla 3) (ssz 3) (sit 3)  r255 h254) (cwV 0 hts gX8_copy_X5_isNothing rfl rfl rfl (by decide +kernel) ⟨Nat.le_of_ble_eq_true rfl, Nat.le_of_ble_eq_true rfl⟩) [8, 9] [0, 1, 2, 3, 4, 5, 6, 7] [0, 1, 2, 3, 4, 5, 6, 7, 8, 9] 0 4 rfl rfl rfl rfl (wr := [(aX, .inr (7, [.ref aB, .ref aP, .ref aT, .ref aR, .ref aK, .ref aH, .ref aG, .ref aS])), (aS, .inl (ky 3, 4, .inr (.inr (.inr (.inr (shf aS0 aS1 aS2 aS3)))))), (aS0, .inr (4, [.ref aI0, .int (sla 0), .int (ssz 0)])), (aI0, .inl (ky 0, 36, .inl (sit 0))), (aS1, .inr (4, [.ref aI1, .int (sla 1), .int (ssz 1)])), (aI1, .inl (ky 0, 36, .inl (sit 1))), (aS2, .inr (4, [.ref aI2, .int (sla 2), .int (ssz 2)])), (aI2, .inl (ky 0, 36, .inl (sit 2)))]) rfl (by decide) rfl rfl hl.1 (Nat.le_of_ble_eq_true rfl) dX8_copy_28 ⟨Nat.zero_le _, Nat.zero_le _⟩ (fun H locs hP hD hS => ?_)
      refine lv_if_ne (tgt := 42) hx hb dX8_copy_31 (by decide) (fun c256 => ?_) (fun c256 => ?_)
      · have hF := if_f c256 hF
        refine lv_bipush (v := (-11 : Int32)) hx hb dX8_copy_42 (by decide) ?_
        have hF := Option.some.inj hF
        subst hF
        exact hQ _ _ _ _ dX8_copy_44 hP hD hS
      · have hF := if_t c256 hF
        refine lv_aload hx hb dX8_copy_34 (lv_at hl 0 rfl) ?_
        obtain ⟨r258, h257, hF⟩ := b1_s hF
        refine cl_vi (As := []) (rest := []) (w' := (w_xsh ky aX aB aP aT aR aK aH aG aS aS0 aS1 aS2 aS3 aI0 aI1 aI2 aI3 sla ssz sit)) ⟨hx, hb, hml, hown, hts⟩ hK hP hD hS hA (c_X5_isNothing l D ky aS1 aI1 _ N  (sla 1) (ssz 1) (sit 1)  r258 h257) (cwV 0 hts gX8_copy_X5_isNothing rfl rfl rfl (by decide +kernel) ⟨Nat.le_of_ble_eq_true rfl, Nat.le_of_ble_eq_true rfl⟩) [4, 5] [0, 1, 2, 3, 6, 7, 8, 9] [0, 1, 2, 3, 8, 9, 4, 5, 6, 7] 0 4 rfl rfl rfl rfl (wr := [(aX, .inr (7, [.ref aB, .ref aP, .ref aT, .ref aR, .ref aK, .ref aH, .ref aG, .ref aS])), (aS, .inl (ky 3, 4, .inr (.inr (.inr (.inr (shf aS0 aS1 aS2 aS3)))))), (aS0, .inr (4, [.ref aI0, .int (sla 0), .int (ssz 0)])), (aI0, .inl (ky 0, 36, .inl (sit 0))), (aS2, .inr (4, [.ref aI2, .int (sla 2), .int (ssz 2)])), (aI2, .inl (ky 0, 36, .inl (sit 2))), (aS3, .inr (4, [.ref aI3, .int (sla 3), .int (ssz 3)])), (aI3, .inl (ky 0, 36, .inl (sit 3)))]) rfl (by decide) rfl rfl hl.1 (Nat.le_of_ble_eq_true rfl) dX8_copy_36 ⟨Nat.zero_le _, Nat.zero_le _⟩ (fun H locs hP hD hS => ?_)
        refine lv_if_eq (tgt := 45) hx hb dX8_copy_39 (by decide) (fun c259 => ?_) (fun c259 => ?_)
        · have hF := if_t c259 hF
          refine lv_aload hx hb dX8_copy_45 (lv_at hl 1 rfl) ?_
          obtain ⟨r261, h260, hF⟩ := b1_s hF
          refine cl_vi (As := []) (rest := []) (w' := (w_xsh ky aX aB aP aT aR aK aH aG aS aS0 aS1 aS2 aS3 aI0 aI1 aI2 aI3 sla ssz sit)) ⟨hx, hb, hml, hown, hts⟩ hK hP hD hS hA (c_X5_laneNow l D ky aS3 aI3 _ N  (sla 3) (ssz 3) (sit 3)  r261 h260) (cwV 0 hts gX8_copy_X5_laneNow rfl rfl rfl (by decide +kernel) ⟨Nat.le_of_ble_eq_true rfl, Nat.le_of_ble_eq_true rfl⟩) [8, 9] [0, 1, 2, 3, 4, 5, 6, 7] [0, 1, 2, 3, 4, 5, 6, 7, 8, 9] 0 4 rfl rfl rfl rfl (wr := [(aX, .inr (7, [.ref aB, .ref aP, .ref aT, .ref aR, .ref aK, .ref aH, .ref aG, .ref aS])), (aS, .inl (ky 3, 4, .inr (.inr (.inr (.inr (shf aS0 aS1 aS2 aS3)))))), (aS0, .inr (4, [.ref aI0, .int (sla 0), .int (ssz 0)])), (aI0, .inl (ky 0, 36, .inl (sit 0))), (aS1, .inr (4, [.ref aI1, .int (sla 1), .int (ssz 1)])), (aI1, .inl (ky 0, 36, .inl (sit 1))), (aS2, .inr (4, [.ref aI2, .int (sla 2), .int (ssz 2)])), (aI2, .inl (ky 0, 36, .inl (sit 2)))]) rfl (by decide) rfl rfl hl.1 (Nat.le_of_ble_eq_true rfl) dX8_copy_47 ⟨Nat.zero_le _, Nat.zero_le _⟩ (fun H locs hP hD hS => ?_)
          refine lv_aload hx hb dX8_copy_50 (lv_at hl 0 rfl) ?_
          obtain ⟨r263, h262, hF⟩ := b1_s hF
          refine cl_vi (As := []) (rest := [.int r261]) (w' := (w_xsh ky aX aB aP aT aR aK aH aG aS aS0 aS1 aS2 aS3 aI0 aI1 aI2 aI3 sla ssz sit)) ⟨hx, hb, hml, hown, hts⟩ hK hP hD hS hA (c_X5_laneNow l D ky aS1 aI1 _ N  (sla 1) (ssz 1) (sit 1)  r263 h262) (cwV 0 hts gX8_copy_X5_laneNow rfl rfl rfl (by decide +kernel) ⟨Nat.le_of_ble_eq_true rfl, Nat.le_of_ble_eq_true rfl⟩) [4, 5] [0, 1, 2, 3, 6, 7, 8, 9] [0, 1, 2, 3, 8, 9, 4, 5, 6, 7] 0 4 rfl rfl rfl rfl (wr := [(aX, .inr (7, [.ref aB, .ref aP, .ref aT, .ref aR, .ref aK, .ref aH, .ref aG, .ref aS])), (aS, .inl (ky 3, 4, .inr (.inr (.inr (.inr (shf aS0 aS1 aS2 aS3)))))), (aS0, .inr (4, [.ref aI0, .int (sla 0), .int (ssz 0)])), (aI0, .inl (ky 0, 36, .inl (sit 0))), (aS2, .inr (4, [.ref aI2, .int (sla 2), .int (ssz 2)])), (aI2, .inl (ky 0, 36, .inl (sit 2))), (aS3, .inr (4, [.ref aI3, .int (sla 3), .int (ssz 3)])), (aI3, .inl (ky 0, 36, .inl (sit 3)))]) rfl (by decide) rfl rfl hl.1 (Nat.le_of_ble_eq_true rfl) dX8_copy_52 ⟨Nat.zero_le _, Nat.zero_le _⟩ (fun H locs hP hD hS => ?_)
          refine lv_icmp_eq (tgt := 61) hx hb dX8_copy_55 (by decide) (fun c264 => ?_) (fun c264 => ?_)
          · have hF := if_t c264 hF
            refine lv_aload hx hb dX8_copy_61 (lv_at hl 1 rfl) ?_
            refine lv_iload_n hx hb dX8_copy_63 rfl (lv_at hl 4 rfl) ?_
            refine lv_iload hx hb dX8_copy_64 (lv_at hl 7 rfl) ?_
            obtain ⟨r266, h265, hF⟩ := b1_s hF
            refine cl_vi (As := [.int p1, .int p4]) (rest := []) (w' := (w_xsh ky aX aB aP aT aR aK aH aG aS aS0 aS1 aS2 aS3 aI0 aI1 aI2 aI3 sla ssz sit)) ⟨hx, hb, hml, hown, hts⟩ hK hP hD hS hA (c_X5_covers l D ky aS3 aI3 _ N  (sla 3) (ssz 3) (sit 3) p1 p4 r266 h265) (cwV 2 hts gX8_copy_X5_covers rfl rfl rfl (by decide +kernel) ⟨Nat.le_of_ble_eq_true rfl, Nat.le_of_ble_eq_true rfl⟩) [8, 9] [0, 1, 2, 3, 4, 5, 6, 7] [0, 1, 2, 3, 4, 5, 6, 7, 8, 9] 0 4 rfl rfl rfl rfl (wr := [(aX, .inr (7, [.ref aB, .ref aP, .ref aT, .ref aR, .ref aK, .ref aH, .ref aG, .ref aS])), (aS, .inl (ky 3, 4, .inr (.inr (.inr (.inr (shf aS0 aS1 aS2 aS3)))))), (aS0, .inr (4, [.ref aI0, .int (sla 0), .int (ssz 0)])), (aI0, .inl (ky 0, 36, .inl (sit 0))), (aS1, .inr (4, [.ref aI1, .int (sla 1), .int (ssz 1)])), (aI1, .inl (ky 0, 36, .inl (sit 1))), (aS2, .inr (4, [.ref aI2, .int (sla 2), .int (ssz 2)])), (aI2, .inl (ky 0, 36, .inl (sit 2)))]) rfl (by decide) rfl rfl hl.1 (Nat.le_of_ble_eq_true rfl) dX8_copy_66 ⟨Nat.zero_le _, Nat.zero_le _⟩ (fun H locs hP hD hS => ?_)
            refine lv_if_eq (tgt := 84) hx hb dX8_copy_69 (by decide) (fun c267 => ?_) (fun c267 => ?_)
            · have hF := if_t c267 hF
              refine lv_bipush (v := (-13 : Int32)) hx hb dX8_copy_84 (by decide) ?_
              have hF := Option.some.inj hF
              subst hF
              exact hQ _ _ _ _ dX8_copy_86 hP hD hS
            · have hF := if_f c267 hF
              refine lv_aload hx hb dX8_copy_72 (lv_at hl 0 rfl) ?_
              refine lv_iload hx hb dX8_copy_74 (lv_at hl 6 rfl) ?_
              refine lv_iload hx hb dX8_copy_76 (lv_at hl 7 rfl) ?_
              obtain ⟨r269, h268, hF⟩ := b1_s hF
              refine cl_vi (As := [.int p3, .int p4]) (rest := []) (w' := (w_xsh ky aX aB aP aT aR aK aH aG aS aS0 aS1 aS2 aS3 aI0 aI1 aI2 aI3 sla ssz sit)) ⟨hx, hb, hml, hown, hts⟩ hK hP hD hS hA (c_X5_covers l D ky aS1 aI1 _ N  (sla 1) (ssz 1) (sit 1) p3 p4 r269 h268) (cwV 2 hts gX8_copy_X5_covers rfl rfl rfl (by decide +kernel) ⟨Nat.le_of_ble_eq_true rfl, Nat.le_of_ble_eq_true rfl⟩) [4, 5] [0, 1, 2, 3, 6, 7, 8, 9] [0, 1, 2, 3, 8, 9, 4, 5, 6, 7] 0 4 rfl rfl rfl rfl (wr := [(aX, .inr (7, [.ref aB, .ref aP, .ref aT, .ref aR, .ref aK, .ref aH, .ref aG, .ref aS])), (aS, .inl (ky 3, 4, .inr (.inr (.inr (.inr (shf aS0 aS1 aS2 aS3)))))), (aS0, .inr (4, [.ref aI0, .int (sla 0), .int (ssz 0)])), (aI0, .inl (ky 0, 36, .inl (sit 0))), (aS2, .inr (4, [.ref aI2, .int (sla 2), .int (ssz 2)])), (aI2, .inl (ky 0, 36, .inl (sit 2))), (aS3, .inr (4, [.ref aI3, .int (sla 3), .int (ssz 3)])), (aI3, .inl (ky 0, 36, .inl (sit 3)))]) rfl (by decide) rfl rfl hl.1 (Nat.le_of_ble_eq_true rfl) dX8_copy_78 ⟨Nat.zero_le _, Nat.zero_le _⟩ (fun H locs hP hD hS => ?_)
              refine lv_if_ne (tgt := 87) hx hb dX8_copy_81 (by decide) (fun c270 => ?_) (fun c270 => ?_)
              · have hF := if_f c270 hF
                refine lv_aload hx hb dX8_copy_87 (lv_at hl 0 rfl) ?_
                refine lv_iload hx hb dX8_copy_89 (lv_at hl 6 rfl) ?_
                refine lv_aload hx hb dX8_copy_91 (lv_at hl 1 rfl) ?_
                refine lv_iload_n hx hb dX8_copy_93 rfl (lv_at hl 4 rfl) ?_
                refine lv_iload hx hb dX8_copy_94 (lv_at hl 7 rfl) ?_
                obtain ⟨v272, h271, hF⟩ := b1_s hF
                refine cl_vv (As := [.int p3, .ref aS3, .int p1, .int p4]) (rest := []) (w' := (w_xsh ky aX aB aP aT aR aK aH aG aS aS0 aS1 aS2 aS3 aI0 aI1 aI2 aI3 sla ssz (va_up sit 1 v272))) ⟨hx, hb, hml, hown, hts⟩ hK hP hD hS hA (c_X5_take_two l D ky aS1 aI1 aS3 aI3 _ N  (sla 1) (ssz 1) (sit 1) (sla 3) (ssz 3) (sit 3) p3 p1 p4 v272 h271) (cwV 4 hts gX8_copy_X5_take rfl rfl rfl (by decide +kernel) ⟨Nat.le_of_ble_eq_true rfl, Nat.le_of_ble_eq_true rfl⟩) [4, 5, 8, 9] [0, 1, 2, 3, 6, 7] [0, 1, 2, 3, 6, 7, 4, 5, 8, 9] 0 4 rfl rfl rfl rfl (wr := [(aX, .inr (7, [.ref aB, .ref aP, .ref aT, .ref aR, .ref aK, .ref aH, .ref aG, .ref aS])), (aS, .inl (ky 3, 4, .inr (.inr (.inr (.inr (shf aS0 aS1 aS2 aS3)))))), (aS0, .inr (4, [.ref aI0, .int (sla 0), .int (ssz 0)])), (aI0, .inl (ky 0, 36, .inl (sit 0))), (aS2, .inr (4, [.ref aI2, .int (sla 2), .int (ssz 2)])), (aI2, .inl (ky 0, 36, .inl (sit 2)))]) rfl (by decide) rfl rfl hl.1 (Nat.le_of_ble_eq_true rfl) dX8_copy_96 ⟨Nat.zero_le _, Nat.zero_le _⟩ (fun H locs hP hD hS => ?_)
                refine lv_iload hx hb dX8_copy_99 (lv_at hl 7 rfl) ?_
                have hF := Option.some.inj hF
                subst hF
                exact hQ _ _ _ _ dX8_copy_101 hP hD hS
              · have hF := if_t c270 hF
                refine lv_bipush (v := (-13 : Int32)) hx hb dX8_copy_84 (by decide) ?_
                have hF := Option.some.inj hF
                subst hF
                exact hQ _ _ _ _ dX8_copy_86 hP hD hS
          · have hF := if_f c264 hF
            refine lv_bipush (v := (-12 : Int32)) hx hb dX8_copy_58 (by decide) ?_
            have hF := Option.some.inj hF
            subst hF
            exact hQ _ _ _ _ dX8_copy_60 hP hD hS
        · have hF := if_f c259 hF
          refine lv_bipush (v := (-11 : Int32)) hx hb dX8_copy_42 (by decide) ?_
          have hF := Option.some.inj hF
          subst hF
          exact hQ _ _ _ _ dX8_copy_44 hP hD hS
    · refine cl_vq (ro := (some aS2)) (As := [.int p2]) (rest := []) (w' := (w_xsh ky aX aB aP aT aR aK aH aG aS aS0 aS1 aS2 aS3 aI0 aI1 aI2 aI3 sla ssz sit)) ⟨hx, hb, hml, hown, hts⟩ hK hP hD hS hA (c_X8_sheetAt l D ky aX aB aP aT aR aK aH aG aS aS0 aS1 aS2 aS3 _ p2 (some aS2) (Or.inr ⟨by rw [h234]; decide, by rw [h234]; rfl⟩)) (cwV 1 hts gX8_copy_X8_sheetAt rfl rfl rfl (by decide +kernel) ⟨Nat.le_of_ble_eq_true rfl, Nat.le_of_ble_eq_true rfl⟩) [0, 1] [2, 3, 4, 5, 6, 7, 8, 9] [8, 9, 0, 1, 2, 3, 4, 5, 6, 7] 0 7 rfl rfl rfl rfl (wr := [(aS0, .inr (4, [.ref aI0, .int (sla 0), .int (ssz 0)])), (aI0, .inl (ky 0, 36, .inl (sit 0))), (aS1, .inr (4, [.ref aI1, .int (sla 1), .int (ssz 1)])), (aI1, .inl (ky 0, 36, .inl (sit 1))), (aS2, .inr (4, [.ref aI2, .int (sla 2), .int (ssz 2)])), (aI2, .inl (ky 0, 36, .inl (sit 2))), (aS3, .inr (4, [.ref aI3, .int (sla 3), .int (ssz 3)])), (aI3, .inl (ky 0, 36, .inl (sit 3)))]) rfl (by decide) rfl rfl hl.1 (Nat.le_of_ble_eq_true rfl) dX8_copy_9 ⟨Nat.zero_le _, Nat.zero_le _⟩ (fun H locs hP hD hS => ?_)
      refine lv_astore (lv' := [(7, .ref aS2), (6, .ref aS3), (0, .ref aX), (1, .int p0), (2, .int p1), (3, .int p2), (4, .int p3), (5, .int p4)]) hx hb dX8_copy_12 hl (by decide) rfl (fun ls hl => ?_)
      refine lv_aload hx hb dX8_copy_14 (lv_at hl 1 rfl) ?_
      refine lv_ifnull hx hb dX8_copy_16 ?_
      refine lv_aload hx hb dX8_copy_19 (lv_at hl 0 rfl) ?_
      refine lv_ifnonnull (tgt := 26) hx hb dX8_copy_21 (by decide) ?_
      refine lv_aload hx hb dX8_copy_26 (lv_at hl 1 rfl) ?_
      obtain ⟨r274, h273, hF⟩ := b1_s hF
      refine cl_vi (As := []) (rest := []) (w' := (w_xsh ky aX aB aP aT aR aK aH aG aS aS0 aS1 aS2 aS3 aI0 aI1 aI2 aI3 sla ssz sit)) ⟨hx, hb, hml, hown, hts⟩ hK hP hD hS hA (c_X5_isNothing l D ky aS3 aI3 _ N  (sla 3) (ssz 3) (sit 3)  r274 h273) (cwV 0 hts gX8_copy_X5_isNothing rfl rfl rfl (by decide +kernel) ⟨Nat.le_of_ble_eq_true rfl, Nat.le_of_ble_eq_true rfl⟩) [8, 9] [0, 1, 2, 3, 4, 5, 6, 7] [0, 1, 2, 3, 4, 5, 6, 7, 8, 9] 0 4 rfl rfl rfl rfl (wr := [(aX, .inr (7, [.ref aB, .ref aP, .ref aT, .ref aR, .ref aK, .ref aH, .ref aG, .ref aS])), (aS, .inl (ky 3, 4, .inr (.inr (.inr (.inr (shf aS0 aS1 aS2 aS3)))))), (aS0, .inr (4, [.ref aI0, .int (sla 0), .int (ssz 0)])), (aI0, .inl (ky 0, 36, .inl (sit 0))), (aS1, .inr (4, [.ref aI1, .int (sla 1), .int (ssz 1)])), (aI1, .inl (ky 0, 36, .inl (sit 1))), (aS2, .inr (4, [.ref aI2, .int (sla 2), .int (ssz 2)])), (aI2, .inl (ky 0, 36, .inl (sit 2)))]) rfl (by decide) rfl rfl hl.1 (Nat.le_of_ble_eq_true rfl) dX8_copy_28 ⟨Nat.zero_le _, Nat.zero_le _⟩ (fun H locs hP hD hS => ?_)
      refine lv_if_ne (tgt := 42) hx hb dX8_copy_31 (by decide) (fun c275 => ?_) (fun c275 => ?_)
      · have hF := if_f c275 hF
        refine lv_bipush (v := (-11 : Int32)) hx hb dX8_copy_42 (by decide) ?_
        have hF := Option.some.inj hF
        subst hF
        exact hQ _ _ _ _ dX8_copy_44 hP hD hS
      · have hF := if_t c275 hF
        refine lv_aload hx hb dX8_copy_34 (lv_at hl 0 rfl) ?_
        obtain ⟨r277, h276, hF⟩ := b1_s hF
        refine cl_vi (As := []) (rest := []) (w' := (w_xsh ky aX aB aP aT aR aK aH aG aS aS0 aS1 aS2 aS3 aI0 aI1 aI2 aI3 sla ssz sit)) ⟨hx, hb, hml, hown, hts⟩ hK hP hD hS hA (c_X5_isNothing l D ky aS2 aI2 _ N  (sla 2) (ssz 2) (sit 2)  r277 h276) (cwV 0 hts gX8_copy_X5_isNothing rfl rfl rfl (by decide +kernel) ⟨Nat.le_of_ble_eq_true rfl, Nat.le_of_ble_eq_true rfl⟩) [6, 7] [0, 1, 2, 3, 4, 5, 8, 9] [0, 1, 2, 3, 4, 5, 8, 9, 6, 7] 0 4 rfl rfl rfl rfl (wr := [(aX, .inr (7, [.ref aB, .ref aP, .ref aT, .ref aR, .ref aK, .ref aH, .ref aG, .ref aS])), (aS, .inl (ky 3, 4, .inr (.inr (.inr (.inr (shf aS0 aS1 aS2 aS3)))))), (aS0, .inr (4, [.ref aI0, .int (sla 0), .int (ssz 0)])), (aI0, .inl (ky 0, 36, .inl (sit 0))), (aS1, .inr (4, [.ref aI1, .int (sla 1), .int (ssz 1)])), (aI1, .inl (ky 0, 36, .inl (sit 1))), (aS3, .inr (4, [.ref aI3, .int (sla 3), .int (ssz 3)])), (aI3, .inl (ky 0, 36, .inl (sit 3)))]) rfl (by decide) rfl rfl hl.1 (Nat.le_of_ble_eq_true rfl) dX8_copy_36 ⟨Nat.zero_le _, Nat.zero_le _⟩ (fun H locs hP hD hS => ?_)
        refine lv_if_eq (tgt := 45) hx hb dX8_copy_39 (by decide) (fun c278 => ?_) (fun c278 => ?_)
        · have hF := if_t c278 hF
          refine lv_aload hx hb dX8_copy_45 (lv_at hl 1 rfl) ?_
          obtain ⟨r280, h279, hF⟩ := b1_s hF
          refine cl_vi (As := []) (rest := []) (w' := (w_xsh ky aX aB aP aT aR aK aH aG aS aS0 aS1 aS2 aS3 aI0 aI1 aI2 aI3 sla ssz sit)) ⟨hx, hb, hml, hown, hts⟩ hK hP hD hS hA (c_X5_laneNow l D ky aS3 aI3 _ N  (sla 3) (ssz 3) (sit 3)  r280 h279) (cwV 0 hts gX8_copy_X5_laneNow rfl rfl rfl (by decide +kernel) ⟨Nat.le_of_ble_eq_true rfl, Nat.le_of_ble_eq_true rfl⟩) [8, 9] [0, 1, 2, 3, 4, 5, 6, 7] [0, 1, 2, 3, 4, 5, 6, 7, 8, 9] 0 4 rfl rfl rfl rfl (wr := [(aX, .inr (7, [.ref aB, .ref aP, .ref aT, .ref aR, .ref aK, .ref aH, .ref aG, .ref aS])), (aS, .inl (ky 3, 4, .inr (.inr (.inr (.inr (shf aS0 aS1 aS2 aS3)))))), (aS0, .inr (4, [.ref aI0, .int (sla 0), .int (ssz 0)])), (aI0, .inl (ky 0, 36, .inl (sit 0))), (aS1, .inr (4, [.ref aI1, .int (sla 1), .int (ssz 1)])), (aI1, .inl (ky 0, 36, .inl (sit 1))), (aS2, .inr (4, [.ref aI2, .int (sla 2), .int (ssz 2)])), (aI2, .inl (ky 0, 36, .inl (sit 2)))]) rfl (by decide) rfl rfl hl.1 (Nat.le_of_ble_eq_true rfl) dX8_copy_47 ⟨Nat.zero_le _, Nat.zero_le _⟩ (fun H locs hP hD hS => ?_)
          refine lv_aload hx hb dX8_copy_50 (lv_at hl 0 rfl) ?_
          obtain ⟨r282, h281, hF⟩ := b1_s hF
          refine cl_vi (As := []) (rest := [.int r280]) (w' := (w_xsh ky aX aB aP aT aR aK aH aG aS aS0 aS1 aS2 aS3 aI0 aI1 aI2 aI3 sla ssz sit)) ⟨hx, hb, hml, hown, hts⟩ hK hP hD hS hA (c_X5_laneNow l D ky aS2 aI2 _ N  (sla 2) (ssz 2) (sit 2)  r282 h281) (cwV 0 hts gX8_copy_X5_laneNow rfl rfl rfl (by decide +kernel) ⟨Nat.le_of_ble_eq_true rfl, Nat.le_of_ble_eq_true rfl⟩) [6, 7] [0, 1, 2, 3, 4, 5, 8, 9] [0, 1, 2, 3, 4, 5, 8, 9, 6, 7] 0 4 rfl rfl rfl rfl (wr := [(aX, .inr (7, [.ref aB, .ref aP, .ref aT, .ref aR, .ref aK, .ref aH, .ref aG, .ref aS])), (aS, .inl (ky 3, 4, .inr (.inr (.inr (.inr (shf aS0 aS1 aS2 aS3)))))), (aS0, .inr (4, [.ref aI0, .int (sla 0), .int (ssz 0)])), (aI0, .inl (ky 0, 36, .inl (sit 0))), (aS1, .inr (4, [.ref aI1, .int (sla 1), .int (ssz 1)])), (aI1, .inl (ky 0, 36, .inl (sit 1))), (aS3, .inr (4, [.ref aI3, .int (sla 3), .int (ssz 3)])), (aI3, .inl (ky 0, 36, .inl (sit 3)))]) rfl (by decide) rfl rfl hl.1 (Nat.le_of_ble_eq_true rfl) dX8_copy_52 ⟨Nat.zero_le _, Nat.zero_le _⟩ (fun H locs hP hD hS => ?_)
          refine lv_icmp_eq (tgt := 61) hx hb dX8_copy_55 (by decide) (fun c283 => ?_) (fun c283 => ?_)
          · have hF := if_t c283 hF
            refine lv_aload hx hb dX8_copy_61 (lv_at hl 1 rfl) ?_
            refine lv_iload_n hx hb dX8_copy_63 rfl (lv_at hl 4 rfl) ?_
            refine lv_iload hx hb dX8_copy_64 (lv_at hl 7 rfl) ?_
            obtain ⟨r285, h284, hF⟩ := b1_s hF
            refine cl_vi (As := [.int p1, .int p4]) (rest := []) (w' := (w_xsh ky aX aB aP aT aR aK aH aG aS aS0 aS1 aS2 aS3 aI0 aI1 aI2 aI3 sla ssz sit)) ⟨hx, hb, hml, hown, hts⟩ hK hP hD hS hA (c_X5_covers l D ky aS3 aI3 _ N  (sla 3) (ssz 3) (sit 3) p1 p4 r285 h284) (cwV 2 hts gX8_copy_X5_covers rfl rfl rfl (by decide +kernel) ⟨Nat.le_of_ble_eq_true rfl, Nat.le_of_ble_eq_true rfl⟩) [8, 9] [0, 1, 2, 3, 4, 5, 6, 7] [0, 1, 2, 3, 4, 5, 6, 7, 8, 9] 0 4 rfl rfl rfl rfl (wr := [(aX, .inr (7, [.ref aB, .ref aP, .ref aT, .ref aR, .ref aK, .ref aH, .ref aG, .ref aS])), (aS, .inl (ky 3, 4, .inr (.inr (.inr (.inr (shf aS0 aS1 aS2 aS3)))))), (aS0, .inr (4, [.ref aI0, .int (sla 0), .int (ssz 0)])), (aI0, .inl (ky 0, 36, .inl (sit 0))), (aS1, .inr (4, [.ref aI1, .int (sla 1), .int (ssz 1)])), (aI1, .inl (ky 0, 36, .inl (sit 1))), (aS2, .inr (4, [.ref aI2, .int (sla 2), .int (ssz 2)])), (aI2, .inl (ky 0, 36, .inl (sit 2)))]) rfl (by decide) rfl rfl hl.1 (Nat.le_of_ble_eq_true rfl) dX8_copy_66 ⟨Nat.zero_le _, Nat.zero_le _⟩ (fun H locs hP hD hS => ?_)
            refine lv_if_eq (tgt := 84) hx hb dX8_copy_69 (by decide) (fun c286 => ?_) (fun c286 => ?_)
            · have hF := if_t c286 hF
              refine lv_bipush (v := (-13 : Int32)) hx hb dX8_copy_84 (by decide) ?_
              have hF := Option.some.inj hF
              subst hF
              exact hQ _ _ _ _ dX8_copy_86 hP hD hS
            · have hF := if_f c286 hF
              refine lv_aload hx hb dX8_copy_72 (lv_at hl 0 rfl) ?_
              refine lv_iload hx hb dX8_copy_74 (lv_at hl 6 rfl) ?_
              refine lv_iload hx hb dX8_copy_76 (lv_at hl 7 rfl) ?_
              obtain ⟨r288, h287, hF⟩ := b1_s hF
              refine cl_vi (As := [.int p3, .int p4]) (rest := []) (w' := (w_xsh ky aX aB aP aT aR aK aH aG aS aS0 aS1 aS2 aS3 aI0 aI1 aI2 aI3 sla ssz sit)) ⟨hx, hb, hml, hown, hts⟩ hK hP hD hS hA (c_X5_covers l D ky aS2 aI2 _ N  (sla 2) (ssz 2) (sit 2) p3 p4 r288 h287) (cwV 2 hts gX8_copy_X5_covers rfl rfl rfl (by decide +kernel) ⟨Nat.le_of_ble_eq_true rfl, Nat.le_of_ble_eq_true rfl⟩) [6, 7] [0, 1, 2, 3, 4, 5, 8, 9] [0, 1, 2, 3, 4, 5, 8, 9, 6, 7] 0 4 rfl rfl rfl rfl (wr := [(aX, .inr (7, [.ref aB, .ref aP, .ref aT, .ref aR, .ref aK, .ref aH, .ref aG, .ref aS])), (aS, .inl (ky 3, 4, .inr (.inr (.inr (.inr (shf aS0 aS1 aS2 aS3)))))), (aS0, .inr (4, [.ref aI0, .int (sla 0), .int (ssz 0)])), (aI0, .inl (ky 0, 36, .inl (sit 0))), (aS1, .inr (4, [.ref aI1, .int (sla 1), .int (ssz 1)])), (aI1, .inl (ky 0, 36, .inl (sit 1))), (aS3, .inr (4, [.ref aI3, .int (sla 3), .int (ssz 3)])), (aI3, .inl (ky 0, 36, .inl (sit 3)))]) rfl (by decide) rfl rfl hl.1 (Nat.le_of_ble_eq_true rfl) dX8_copy_78 ⟨Nat.zero_le _, Nat.zero_le _⟩ (fun H locs hP hD hS => ?_)
              refine lv_if_ne (tgt := 87) hx hb dX8_copy_81 (by decide) (fun c289 => ?_) (fun c289 => ?_)
              · have hF := if_f c289 hF
                refine lv_aload hx hb dX8_copy_87 (lv_at hl 0 rfl) ?_
                refine lv_iload hx hb dX8_copy_89 (lv_at hl 6 rfl) ?_
                refine lv_aload hx hb dX8_copy_91 (lv_at hl 1 rfl) ?_
                refine lv_iload_n hx hb dX8_copy_93 rfl (lv_at hl 4 rfl) ?_
                refine lv_iload hx hb dX8_copy_94 (lv_at hl 7 rfl) ?_
                obtain ⟨v291, h290, hF⟩ := b1_s hF
                refine cl_vv (As := [.int p3, .ref aS3, .int p1, .int p4]) (rest := []) (w' := (w_xsh ky aX aB aP aT aR aK aH aG aS aS0 aS1 aS2 aS3 aI0 aI1 aI2 aI3 sla ssz (va_up sit 2 v291))) ⟨hx, hb, hml, hown, hts⟩ hK hP hD hS hA (c_X5_take_two l D ky aS2 aI2 aS3 aI3 _ N  (sla 2) (ssz 2) (sit 2) (sla 3) (ssz 3) (sit 3) p3 p1 p4 v291 h290) (cwV 4 hts gX8_copy_X5_take rfl rfl rfl (by decide +kernel) ⟨Nat.le_of_ble_eq_true rfl, Nat.le_of_ble_eq_true rfl⟩) [6, 7, 8, 9] [0, 1, 2, 3, 4, 5] [0, 1, 2, 3, 4, 5, 6, 7, 8, 9] 0 4 rfl rfl rfl rfl (wr := [(aX, .inr (7, [.ref aB, .ref aP, .ref aT, .ref aR, .ref aK, .ref aH, .ref aG, .ref aS])), (aS, .inl (ky 3, 4, .inr (.inr (.inr (.inr (shf aS0 aS1 aS2 aS3)))))), (aS0, .inr (4, [.ref aI0, .int (sla 0), .int (ssz 0)])), (aI0, .inl (ky 0, 36, .inl (sit 0))), (aS1, .inr (4, [.ref aI1, .int (sla 1), .int (ssz 1)])), (aI1, .inl (ky 0, 36, .inl (sit 1)))]) rfl (by decide) rfl rfl hl.1 (Nat.le_of_ble_eq_true rfl) dX8_copy_96 ⟨Nat.zero_le _, Nat.zero_le _⟩ (fun H locs hP hD hS => ?_)
                refine lv_iload hx hb dX8_copy_99 (lv_at hl 7 rfl) ?_
                have hF := Option.some.inj hF
                subst hF
                exact hQ _ _ _ _ dX8_copy_101 hP hD hS
              · have hF := if_t c289 hF
                refine lv_bipush (v := (-13 : Int32)) hx hb dX8_copy_84 (by decide) ?_
                have hF := Option.some.inj hF
                subst hF
                exact hQ _ _ _ _ dX8_copy_86 hP hD hS
          · have hF := if_f c283 hF
            refine lv_bipush (v := (-12 : Int32)) hx hb dX8_copy_58 (by decide) ?_
            have hF := Option.some.inj hF
            subst hF
            exact hQ _ _ _ _ dX8_copy_60 hP hD hS
        · have hF := if_f c278 hF
          refine lv_bipush (v := (-11 : Int32)) hx hb dX8_copy_42 (by decide) ?_
          have hF := Option.some.inj hF
          subst hF
          exact hQ _ _ _ _ dX8_copy_44 hP hD hS
    · refine cl_vq (ro := (some aS3)) (As := [.int p2]) (rest := []) (w' := (w_xsh ky aX aB aP aT aR aK aH aG aS aS0 aS1 aS2 aS3 aI0 aI1 aI2 aI3 sla ssz sit)) ⟨hx, hb, hml, hown, hts⟩ hK hP hD hS hA (c_X8_sheetAt l D ky aX aB aP aT aR aK aH aG aS aS0 aS1 aS2 aS3 _ p2 (some aS3) (Or.inr ⟨by rw [h234]; decide, by rw [h234]; rfl⟩)) (cwV 1 hts gX8_copy_X8_sheetAt rfl rfl rfl (by decide +kernel) ⟨Nat.le_of_ble_eq_true rfl, Nat.le_of_ble_eq_true rfl⟩) [0, 1] [2, 3, 4, 5, 6, 7, 8, 9] [8, 9, 0, 1, 2, 3, 4, 5, 6, 7] 0 7 rfl rfl rfl rfl (wr := [(aS0, .inr (4, [.ref aI0, .int (sla 0), .int (ssz 0)])), (aI0, .inl (ky 0, 36, .inl (sit 0))), (aS1, .inr (4, [.ref aI1, .int (sla 1), .int (ssz 1)])), (aI1, .inl (ky 0, 36, .inl (sit 1))), (aS2, .inr (4, [.ref aI2, .int (sla 2), .int (ssz 2)])), (aI2, .inl (ky 0, 36, .inl (sit 2))), (aS3, .inr (4, [.ref aI3, .int (sla 3), .int (ssz 3)])), (aI3, .inl (ky 0, 36, .inl (sit 3)))]) rfl (by decide) rfl rfl hl.1 (Nat.le_of_ble_eq_true rfl) dX8_copy_9 ⟨Nat.zero_le _, Nat.zero_le _⟩ (fun H locs hP hD hS => ?_)
      refine lv_astore (lv' := [(7, .ref aS3), (6, .ref aS3), (0, .ref aX), (1, .int p0), (2, .int p1), (3, .int p2), (4, .int p3), (5, .int p4)]) hx hb dX8_copy_12 hl (by decide) rfl (fun ls hl => ?_)
      refine lv_aload hx hb dX8_copy_14 (lv_at hl 1 rfl) ?_
      refine lv_ifnull hx hb dX8_copy_16 ?_
      refine lv_aload hx hb dX8_copy_19 (lv_at hl 0 rfl) ?_
      refine lv_ifnonnull (tgt := 26) hx hb dX8_copy_21 (by decide) ?_
      refine lv_aload hx hb dX8_copy_26 (lv_at hl 1 rfl) ?_
      obtain ⟨r293, h292, hF⟩ := b1_s hF
      refine cl_vi (As := []) (rest := []) (w' := (w_xsh ky aX aB aP aT aR aK aH aG aS aS0 aS1 aS2 aS3 aI0 aI1 aI2 aI3 sla ssz sit)) ⟨hx, hb, hml, hown, hts⟩ hK hP hD hS hA (c_X5_isNothing l D ky aS3 aI3 _ N  (sla 3) (ssz 3) (sit 3)  r293 h292) (cwV 0 hts gX8_copy_X5_isNothing rfl rfl rfl (by decide +kernel) ⟨Nat.le_of_ble_eq_true rfl, Nat.le_of_ble_eq_true rfl⟩) [8, 9] [0, 1, 2, 3, 4, 5, 6, 7] [0, 1, 2, 3, 4, 5, 6, 7, 8, 9] 0 4 rfl rfl rfl rfl (wr := [(aX, .inr (7, [.ref aB, .ref aP, .ref aT, .ref aR, .ref aK, .ref aH, .ref aG, .ref aS])), (aS, .inl (ky 3, 4, .inr (.inr (.inr (.inr (shf aS0 aS1 aS2 aS3)))))), (aS0, .inr (4, [.ref aI0, .int (sla 0), .int (ssz 0)])), (aI0, .inl (ky 0, 36, .inl (sit 0))), (aS1, .inr (4, [.ref aI1, .int (sla 1), .int (ssz 1)])), (aI1, .inl (ky 0, 36, .inl (sit 1))), (aS2, .inr (4, [.ref aI2, .int (sla 2), .int (ssz 2)])), (aI2, .inl (ky 0, 36, .inl (sit 2)))]) rfl (by decide) rfl rfl hl.1 (Nat.le_of_ble_eq_true rfl) dX8_copy_28 ⟨Nat.zero_le _, Nat.zero_le _⟩ (fun H locs hP hD hS => ?_)
      refine lv_if_ne (tgt := 42) hx hb dX8_copy_31 (by decide) (fun c294 => ?_) (fun c294 => ?_)
      · have hF := if_f c294 hF
        refine lv_bipush (v := (-11 : Int32)) hx hb dX8_copy_42 (by decide) ?_
        have hF := Option.some.inj hF
        subst hF
        exact hQ _ _ _ _ dX8_copy_44 hP hD hS
      · have hF := if_t c294 hF
        refine lv_aload hx hb dX8_copy_34 (lv_at hl 0 rfl) ?_
        obtain ⟨r296, h295, hF⟩ := b1_s hF
        refine cl_vi (As := []) (rest := []) (w' := (w_xsh ky aX aB aP aT aR aK aH aG aS aS0 aS1 aS2 aS3 aI0 aI1 aI2 aI3 sla ssz sit)) ⟨hx, hb, hml, hown, hts⟩ hK hP hD hS hA (c_X5_isNothing l D ky aS3 aI3 _ N  (sla 3) (ssz 3) (sit 3)  r296 h295) (cwV 0 hts gX8_copy_X5_isNothing rfl rfl rfl (by decide +kernel) ⟨Nat.le_of_ble_eq_true rfl, Nat.le_of_ble_eq_true rfl⟩) [8, 9] [0, 1, 2, 3, 4, 5, 6, 7] [0, 1, 2, 3, 4, 5, 6, 7, 8, 9] 0 4 rfl rfl rfl rfl (wr := [(aX, .inr (7, [.ref aB, .ref aP, .ref aT, .ref aR, .ref aK, .ref aH, .ref aG, .ref aS])), (aS, .inl (ky 3, 4, .inr (.inr (.inr (.inr (shf aS0 aS1 aS2 aS3)))))), (aS0, .inr (4, [.ref aI0, .int (sla 0), .int (ssz 0)])), (aI0, .inl (ky 0, 36, .inl (sit 0))), (aS1, .inr (4, [.ref aI1, .int (sla 1), .int (ssz 1)])), (aI1, .inl (ky 0, 36, .inl (sit 1))), (aS2, .inr (4, [.ref aI2, .int (sla 2), .int (ssz 2)])), (aI2, .inl (ky 0, 36, .inl (sit 2)))]) rfl (by decide) rfl rfl hl.1 (Nat.le_of_ble_eq_true rfl) dX8_copy_36 ⟨Nat.zero_le _, Nat.zero_le _⟩ (fun H locs hP hD hS => ?_)
        refine lv_if_eq (tgt := 45) hx hb dX8_copy_39 (by decide) (fun c297 => ?_) (fun c297 => ?_)
        · have hF := if_t c297 hF
          refine lv_aload hx hb dX8_copy_45 (lv_at hl 1 rfl) ?_
          obtain ⟨r299, h298, hF⟩ := b1_s hF
          refine cl_vi (As := []) (rest := []) (w' := (w_xsh ky aX aB aP aT aR aK aH aG aS aS0 aS1 aS2 aS3 aI0 aI1 aI2 aI3 sla ssz sit)) ⟨hx, hb, hml, hown, hts⟩ hK hP hD hS hA (c_X5_laneNow l D ky aS3 aI3 _ N  (sla 3) (ssz 3) (sit 3)  r299 h298) (cwV 0 hts gX8_copy_X5_laneNow rfl rfl rfl (by decide +kernel) ⟨Nat.le_of_ble_eq_true rfl, Nat.le_of_ble_eq_true rfl⟩) [8, 9] [0, 1, 2, 3, 4, 5, 6, 7] [0, 1, 2, 3, 4, 5, 6, 7, 8, 9] 0 4 rfl rfl rfl rfl (wr := [(aX, .inr (7, [.ref aB, .ref aP, .ref aT, .ref aR, .ref aK, .ref aH, .ref aG, .ref aS])), (aS, .inl (ky 3, 4, .inr (.inr (.inr (.inr (shf aS0 aS1 aS2 aS3)))))), (aS0, .inr (4, [.ref aI0, .int (sla 0), .int (ssz 0)])), (aI0, .inl (ky 0, 36, .inl (sit 0))), (aS1, .inr (4, [.ref aI1, .int (sla 1), .int (ssz 1)])), (aI1, .inl (ky 0, 36, .inl (sit 1))), (aS2, .inr (4, [.ref aI2, .int (sla 2), .int (ssz 2)])), (aI2, .inl (ky 0, 36, .inl (sit 2)))]) rfl (by decide) rfl rfl hl.1 (Nat.le_of_ble_eq_true rfl) dX8_copy_47 ⟨Nat.zero_le _, Nat.zero_le _⟩ (fun H locs hP hD hS => ?_)
          refine lv_aload hx hb dX8_copy_50 (lv_at hl 0 rfl) ?_
          obtain ⟨r301, h300, hF⟩ := b1_s hF
          refine cl_vi (As := []) (rest := [.int r299]) (w' := (w_xsh ky aX aB aP aT aR aK aH aG aS aS0 aS1 aS2 aS3 aI0 aI1 aI2 aI3 sla ssz sit)) ⟨hx, hb, hml, hown, hts⟩ hK hP hD hS hA (c_X5_laneNow l D ky aS3 aI3 _ N  (sla 3) (ssz 3) (sit 3)  r301 h300) (cwV 0 hts gX8_copy_X5_laneNow rfl rfl rfl (by decide +kernel) ⟨Nat.le_of_ble_eq_true rfl, Nat.le_of_ble_eq_true rfl⟩) [8, 9] [0, 1, 2, 3, 4, 5, 6, 7] [0, 1, 2, 3, 4, 5, 6, 7, 8, 9] 0 4 rfl rfl rfl rfl (wr := [(aX, .inr (7, [.ref aB, .ref aP, .ref aT, .ref aR, .ref aK, .ref aH, .ref aG, .ref aS])), (aS, .inl (ky 3, 4, .inr (.inr (.inr (.inr (shf aS0 aS1 aS2 aS3)))))), (aS0, .inr (4, [.ref aI0, .int (sla 0), .int (ssz 0)])), (aI0, .inl (ky 0, 36, .inl (sit 0))), (aS1, .inr (4, [.ref aI1, .int (sla 1), .int (ssz 1)])), (aI1, .inl (ky 0, 36, .inl (sit 1))), (aS2, .inr (4, [.ref aI2, .int (sla 2), .int (ssz 2)])), (aI2, .inl (ky 0, 36, .inl (sit 2)))]) rfl (by decide) rfl rfl hl.1 (Nat.le_of_ble_eq_true rfl) dX8_copy_52 ⟨Nat.zero_le _, Nat.zero_le _⟩ (fun H locs hP hD hS => ?_)
          refine lv_icmp_eq (tgt := 61) hx hb dX8_copy_55 (by decide) (fun c302 => ?_) (fun c302 => ?_)
          · have hF := if_t c302 hF
            refine lv_aload hx hb dX8_copy_61 (lv_at hl 1 rfl) ?_
            refine lv_iload_n hx hb dX8_copy_63 rfl (lv_at hl 4 rfl) ?_
            refine lv_iload hx hb dX8_copy_64 (lv_at hl 7 rfl) ?_
            obtain ⟨r304, h303, hF⟩ := b1_s hF
            refine cl_vi (As := [.int p1, .int p4]) (rest := []) (w' := (w_xsh ky aX aB aP aT aR aK aH aG aS aS0 aS1 aS2 aS3 aI0 aI1 aI2 aI3 sla ssz sit)) ⟨hx, hb, hml, hown, hts⟩ hK hP hD hS hA (c_X5_covers l D ky aS3 aI3 _ N  (sla 3) (ssz 3) (sit 3) p1 p4 r304 h303) (cwV 2 hts gX8_copy_X5_covers rfl rfl rfl (by decide +kernel) ⟨Nat.le_of_ble_eq_true rfl, Nat.le_of_ble_eq_true rfl⟩) [8, 9] [0, 1, 2, 3, 4, 5, 6, 7] [0, 1, 2, 3, 4, 5, 6, 7, 8, 9] 0 4 rfl rfl rfl rfl (wr := [(aX, .inr (7, [.ref aB, .ref aP, .ref aT, .ref aR, .ref aK, .ref aH, .ref aG, .ref aS])), (aS, .inl (ky 3, 4, .inr (.inr (.inr (.inr (shf aS0 aS1 aS2 aS3)))))), (aS0, .inr (4, [.ref aI0, .int (sla 0), .int (ssz 0)])), (aI0, .inl (ky 0, 36, .inl (sit 0))), (aS1, .inr (4, [.ref aI1, .int (sla 1), .int (ssz 1)])), (aI1, .inl (ky 0, 36, .inl (sit 1))), (aS2, .inr (4, [.ref aI2, .int (sla 2), .int (ssz 2)])), (aI2, .inl (ky 0, 36, .inl (sit 2)))]) rfl (by decide) rfl rfl hl.1 (Nat.le_of_ble_eq_true rfl) dX8_copy_66 ⟨Nat.zero_le _, Nat.zero_le _⟩ (fun H locs hP hD hS => ?_)
            refine lv_if_eq (tgt := 84) hx hb dX8_copy_69 (by decide) (fun c305 => ?_) (fun c305 => ?_)
            · have hF := if_t c305 hF
              refine lv_bipush (v := (-13 : Int32)) hx hb dX8_copy_84 (by decide) ?_
              have hF := Option.some.inj hF
              subst hF
              exact hQ _ _ _ _ dX8_copy_86 hP hD hS
            · have hF := if_f c305 hF
              refine lv_aload hx hb dX8_copy_72 (lv_at hl 0 rfl) ?_
              refine lv_iload hx hb dX8_copy_74 (lv_at hl 6 rfl) ?_
              refine lv_iload hx hb dX8_copy_76 (lv_at hl 7 rfl) ?_
              obtain ⟨r307, h306, hF⟩ := b1_s hF
              refine cl_vi (As := [.int p3, .int p4]) (rest := []) (w' := (w_xsh ky aX aB aP aT aR aK aH aG aS aS0 aS1 aS2 aS3 aI0 aI1 aI2 aI3 sla ssz sit)) ⟨hx, hb, hml, hown, hts⟩ hK hP hD hS hA (c_X5_covers l D ky aS3 aI3 _ N  (sla 3) (ssz 3) (sit 3) p3 p4 r307 h306) (cwV 2 hts gX8_copy_X5_covers rfl rfl rfl (by decide +kernel) ⟨Nat.le_of_ble_eq_true rfl, Nat.le_of_ble_eq_true rfl⟩) [8, 9] [0, 1, 2, 3, 4, 5, 6, 7] [0, 1, 2, 3, 4, 5, 6, 7, 8, 9] 0 4 rfl rfl rfl rfl (wr := [(aX, .inr (7, [.ref aB, .ref aP, .ref aT, .ref aR, .ref aK, .ref aH, .ref aG, .ref aS])), (aS, .inl (ky 3, 4, .inr (.inr (.inr (.inr (shf aS0 aS1 aS2 aS3)))))), (aS0, .inr (4, [.ref aI0, .int (sla 0), .int (ssz 0)])), (aI0, .inl (ky 0, 36, .inl (sit 0))), (aS1, .inr (4, [.ref aI1, .int (sla 1), .int (ssz 1)])), (aI1, .inl (ky 0, 36, .inl (sit 1))), (aS2, .inr (4, [.ref aI2, .int (sla 2), .int (ssz 2)])), (aI2, .inl (ky 0, 36, .inl (sit 2)))]) rfl (by decide) rfl rfl hl.1 (Nat.le_of_ble_eq_true rfl) dX8_copy_78 ⟨Nat.zero_le _, Nat.zero_le _⟩ (fun H locs hP hD hS => ?_)
              refine lv_if_ne (tgt := 87) hx hb dX8_copy_81 (by decide) (fun c308 => ?_) (fun c308 => ?_)
              · have hF := if_f c308 hF
                refine lv_aload hx hb dX8_copy_87 (lv_at hl 0 rfl) ?_
                refine lv_iload hx hb dX8_copy_89 (lv_at hl 6 rfl) ?_
                refine lv_aload hx hb dX8_copy_91 (lv_at hl 1 rfl) ?_
                refine lv_iload_n hx hb dX8_copy_93 rfl (lv_at hl 4 rfl) ?_
                refine lv_iload hx hb dX8_copy_94 (lv_at hl 7 rfl) ?_
                obtain ⟨v310, h309, hF⟩ := b1_s hF
                refine cl_vv (As := [.int p3, .ref aS3, .int p1, .int p4]) (rest := []) (w' := (w_xsh ky aX aB aP aT aR aK aH aG aS aS0 aS1 aS2 aS3 aI0 aI1 aI2 aI3 sla ssz (va_up sit 3 v310))) ⟨hx, hb, hml, hown, hts⟩ hK hP hD hS hA (c_X5_take_same l D ky aS3 aI3 _ N  (sla 3) (ssz 3) (sit 3) p3 p1 p4 v310 h309) (cwV 4 hts gX8_copy_X5_take rfl rfl rfl (by decide +kernel) ⟨Nat.le_of_ble_eq_true rfl, Nat.le_of_ble_eq_true rfl⟩) [8, 9] [0, 1, 2, 3, 4, 5, 6, 7] [0, 1, 2, 3, 4, 5, 6, 7, 8, 9] 0 4 rfl rfl rfl rfl (wr := [(aX, .inr (7, [.ref aB, .ref aP, .ref aT, .ref aR, .ref aK, .ref aH, .ref aG, .ref aS])), (aS, .inl (ky 3, 4, .inr (.inr (.inr (.inr (shf aS0 aS1 aS2 aS3)))))), (aS0, .inr (4, [.ref aI0, .int (sla 0), .int (ssz 0)])), (aI0, .inl (ky 0, 36, .inl (sit 0))), (aS1, .inr (4, [.ref aI1, .int (sla 1), .int (ssz 1)])), (aI1, .inl (ky 0, 36, .inl (sit 1))), (aS2, .inr (4, [.ref aI2, .int (sla 2), .int (ssz 2)])), (aI2, .inl (ky 0, 36, .inl (sit 2)))]) rfl (by decide) rfl rfl hl.1 (Nat.le_of_ble_eq_true rfl) dX8_copy_96 ⟨Nat.zero_le _, Nat.zero_le _⟩ (fun H locs hP hD hS => ?_)
                refine lv_iload hx hb dX8_copy_99 (lv_at hl 7 rfl) ?_
                have hF := Option.some.inj hF
                subst hF
                exact hQ _ _ _ _ dX8_copy_101 hP hD hS
              · have hF := if_t c308 hF
                refine lv_bipush (v := (-13 : Int32)) hx hb dX8_copy_84 (by decide) ?_
                have hF := Option.some.inj hF
                subst hF
                exact hQ _ _ _ _ dX8_copy_86 hP hD hS
          · have hF := if_f c302 hF
            refine lv_bipush (v := (-12 : Int32)) hx hb dX8_copy_58 (by decide) ?_
            have hF := Option.some.inj hF
            subst hF
            exact hQ _ _ _ _ dX8_copy_60 hP hD hS
        · have hF := if_f c297 hF
          refine lv_bipush (v := (-11 : Int32)) hx hb dX8_copy_42 (by decide) ?_
          have hF := Option.some.inj hF
          subst hF
          exact hQ _ _ _ _ dX8_copy_44 hP hD hS
theorem c_X8_copy (l : Launch) (D : va_G) (ky : Nat → ClassId) (aX aB aP aT aR aK aH aG aS aS0 aS1 aS2 aS3 aI0 aI1 aI2 aI3 : Nat) (sz N : Nat)  (sla : Nat → Int32) (ssz : Nat → Int32) (sit : Nat → Nat → Int32) (p0 : Int32) (p1 : Int32) (p2 : Int32) (p3 : Int32) (p4 : Int32) (rv : Int32) (sit' : Nat → Nat → Int32) (hF : f_X8_copy N p0 p1 p2 p3 p4 sla ssz sit = some (rv, sit')) : MI l yX8_copy wsX8_copy rm_X8_copy D ky sz [.ref aX, .int p0, .int p1, .int p2, .int p3, .int p4] (w_xsh ky aX aB aP aT aR aK aH aG aS aS0 aS1 aS2 aS3 aI0 aI1 aI2 aI3 sla ssz sit) (w_xsh ky aX aB aP aT aR aK aH aG aS aS0 aS1 aS2 aS3 aI0 aI1 aI2 aI3 sla ssz sit') rv :=
  cr_X8_copy l D ky aX aB aP aT aR aK aH aG aS aS0 aS1 aS2 aS3 aI0 aI1 aI2 aI3 sz N sla ssz sit p0 p1 p2 p3 p4 (rv, sit') hF
