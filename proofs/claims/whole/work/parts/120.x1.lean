def f_X8_isNear (N : Nat) (p0 : Int32) (p1 : Int32) : Option (Int32) :=
  (if p0 < (-p1) then some ((0 : Int32)) else (if p1 < p0 then some ((0 : Int32)) else some ((1 : Int32))))
def f_X8_isLane (N : Nat) (p0 : Int32) : Option (Int32) :=
  (if p0 < 0 then some ((0 : Int32)) else (if (3 : Int32) ≤ p0 then some ((0 : Int32)) else some ((1 : Int32))))
def f_X8_pushInTurn (N : Nat) (p0 : Int32) : Option (Int32) :=
  (if (p0 - p0 / (2 : Int32) * (2 : Int32)) = (1 : Int32) then some (((p0 / (2 : Int32)) + (1 : Int32))) else some ((-(p0 / (2 : Int32)))))
def b_X8_rests_5 (N : Nat)  (l1 : Int32) (l2 : Int32) (bsz : Int32) (k5 : Int32 → Int32 → Option (Int32)) (l3 : Int32) (l4 : Int32) : Option (Int32) :=
  b1 (f_X0_size N bsz) (fun r2 => (if r2 ≤ l4 then some (l3) else (if ((l1 >>> (l4 &&& 31)) &&& (1 : Int32)) = 0 then k5 l3 (l4 + (1 : Int32)) else (if l2 ≤ 0 then k5 l3 (l4 + (1 : Int32)) else gd l2 (k5 (l3 ||| ((1 : Int32) <<< ((l4 - l4 / l2 * l2) &&& 31))) (l4 + (1 : Int32)))))))
def f_X8_rests_5 (N : Nat)  (l1 : Int32) (l2 : Int32) (bsz : Int32) : Nat → Int32 → Int32 → Option (Int32)
  | 0, _, _ => none
  | n + 1, l3, l4 => b_X8_rests_5 N l1 l2 bsz (f_X8_rests_5 N l1 l2 bsz n) l3 l4
def f_X8_rests (N : Nat) (p0 : Int32) (p1 : Int32) (bsz : Int32) : Option (Int32) :=
  f_X8_rests_5 N p0 p1 bsz N (0 : Int32) (0 : Int32)
def f_X8_row (N : Nat) (p0 : Int32) (p1 : Int32) (p2 : Int32) (bsz : Int32) (bgp : Int32) (ber : Int32) (bxs : Nat → Int32) (bus : Nat → Int32) (bys : Nat → Int32) (bme : Nat → Int32) : Option (Int32 × Int32 × Int32 × (Nat → Int32) × (Nat → Int32) × (Nat → Int32) × (Nat → Int32)) :=
  b1 (f_X8_isNear N p0 (99 : Int32)) (fun r2 => (if r2 = 0 then some ((-1 : Int32), bsz, bgp, bxs, bus, bys, bme) else b1 (f_X8_isNear N p1 (99 : Int32)) (fun r5 => (if r5 = 0 then some ((-1 : Int32), bsz, bgp, bxs, bus, bys, bme) else b1 (f_X8_isNear N p2 (99 : Int32)) (fun r8 => (if r8 = 0 then some ((-1 : Int32), bsz, bgp, bxs, bus, bys, bme) else b7 (f_X0_add N p0 p1 p2 (0 : Int32) bsz bgp ber bxs bus bys bme) (fun r11 v12 v13 v14 v15 v16 v17 => some (r11, v12, v13, v14, v15, v16, v17))))))))
def f_X8_gap (N : Nat) (p0 : Int32) (p1 : Int32) (bsz : Int32) (bgp : Int32) (ber : Int32) (bxs : Nat → Int32) (bus : Nat → Int32) (bys : Nat → Int32) (bme : Nat → Int32) : Option (Int32 × Int32 × Int32 × (Nat → Int32) × (Nat → Int32) × (Nat → Int32) × (Nat → Int32)) :=
  b1 (f_X8_isNear N p0 (99 : Int32)) (fun r2 => (if r2 = 0 then some ((-1 : Int32), bsz, bgp, bxs, bus, bys, bme) else b1 (f_X8_isNear N p1 (99 : Int32)) (fun r5 => (if r5 = 0 then some ((-1 : Int32), bsz, bgp, bxs, bus, bys, bme) else b7 (f_X0_add N p0 p1 (0 : Int32) (1 : Int32) bsz bgp ber bxs bus bys bme) (fun r8 v9 v10 v11 v12 v13 v14 => some (r8, v9, v10, v11, v12, v13, v14))))))
def f_X8_type (N : Nat) (p0 : Int64) (p1 : Int32) (tle : Int32) (tby : Nat → Int32) : Option (Int32 × Int32 × (Nat → Int32)) :=
  b3 (f_X6_append N p0 p1 tle tby) (fun r2 v3 v4 => some (r2, v3, v4))
def b_X8_text_17 (N : Nat)  (l1 : Int32) (tle : Int32) (tga : Int32) (trr : Int32) (tat : Int32) (tfa : Int32) (tnu : Nat → Int32) (ber : Int32) (k17 : Int32 → Int32 → Int32 → (Nat → Int32) → (Nat → Int32) → (Nat → Int32) → (Nat → Int32) → Option (Int32 × Int32 × Int32 × Int32 × Int32 × Int32 × (Nat → Int32) × Int32 × Int32 × (Nat → Int32) × (Nat → Int32) × (Nat → Int32) × (Nat → Int32))) (l2 : Int32) (bsz : Int32) (bgp : Int32) (bxs : Nat → Int32) (bus : Nat → Int32) (bys : Nat → Int32) (bme : Nat → Int32) : Option (Int32 × Int32 × Int32 × Int32 × Int32 × Int32 × (Nat → Int32) × Int32 × Int32 × (Nat → Int32) × (Nat → Int32) × (Nat → Int32) × (Nat → Int32)) :=
  (if l1 ≤ l2 then some (l1, tle, tga, trr, tat, tfa, tnu, bsz, bgp, bxs, bus, bys, bme) else b6 (f_X6_hand N l2 tga trr tnu bsz bgp ber bxs bus bys bme) (fun v13 v14 v15 v16 v17 v18 => k17 (l2 + (1 : Int32)) v13 v14 v15 v16 v17 v18))
def f_X8_text_17 (N : Nat)  (l1 : Int32) (tle : Int32) (tga : Int32) (trr : Int32) (tat : Int32) (tfa : Int32) (tnu : Nat → Int32) (ber : Int32) : Nat → Int32 → Int32 → Int32 → (Nat → Int32) → (Nat → Int32) → (Nat → Int32) → (Nat → Int32) → Option (Int32 × Int32 × Int32 × Int32 × Int32 × Int32 × (Nat → Int32) × Int32 × Int32 × (Nat → Int32) × (Nat → Int32) × (Nat → Int32) × (Nat → Int32))
  | 0, _, _, _, _, _, _, _ => none
  | n + 1, l2, bsz, bgp, bxs, bus, bys, bme => b_X8_text_17 N l1 tle tga trr tat tfa tnu ber (f_X8_text_17 N l1 tle tga trr tat tfa tnu ber n) l2 bsz bgp bxs bus bys bme
def f_X8_text (N : Nat) (tle : Int32) (tfa : Int32) (tby : Nat → Int32) (tnu : Nat → Int32) (bsz : Int32) (bgp : Int32) (ber : Int32) (bxs : Nat → Int32) (bus : Nat → Int32) (bys : Nat → Int32) (bme : Nat → Int32) : Option (Int32 × Int32 × Int32 × Int32 × Int32 × Int32 × (Nat → Int32) × Int32 × Int32 × (Nat → Int32) × (Nat → Int32) × (Nat → Int32) × (Nat → Int32)) :=
  b1 (f_X0_room N bsz) (fun r2 => b7 (f_X6_read N r2 tle tfa tby tnu) (fun r4 v5 v6 v7 v8 v9 v10 => f_X8_text_17 N r4 v5 v6 v7 v8 v9 v10 ber N (0 : Int32) bsz bgp bxs bus bys bme))
def f_X8_told (N : Nat) (p0 : Int32) (p1 : Int32) (bsz : Int32) (bgp : Int32) (bxs : Nat → Int32) (bus : Nat → Int32) (bys : Nat → Int32) : Option (Int32) :=
  b1 (f_X0_has N p0 bsz) (fun r2 => (if r2 = 0 then some ((-1000001 : Int32)) else (if p1 < 0 then some ((-1000001 : Int32)) else (if p1 ≤ (2 : Int32) then (if p1 = 0 then b1 (f_X0_state N p0 bsz bxs) (fun r16 => some (r16)) else (if p1 = (1 : Int32) then b1 (f_X0_push N p0 bsz bus) (fun r14 => some (r14)) else b1 (f_X0_isGap N p0 bsz bgp) (fun r9 => (if r9 = 0 then b1 (f_X0_end N p0 bsz bys) (fun r12 => some (r12)) else some ((-1000004 : Int32)))))) else some ((-1000001 : Int32))))))
def f_X8_clear (N : Nat) (bsz : Int32) (bme : Nat → Int32) : Option (Int32 × Int32 × Int32 × Int32 × (Nat → Int32)) :=
  b4 (f_X0_empty N bsz bme) (fun r2 v3 v4 v5 => b1 (f_X4_forget N ) (fun v7 => some (r2, v7, v3, v4, v5)))
def f_X8_error (N : Nat) (p0 : Int32) (prc : Int32) (bsz : Int32) (bgp : Int32) (ber : Int32) (bxs : Nat → Int32) (bus : Nat → Int32) (bys : Nat → Int32) (bme : Nat → Int32) : Option (Int32 × Int32 × Int32 × (Nat → Int32)) :=
  (if p0 < 0 then some ((-1 : Int32), prc, ber, bme) else (if p0 ≤ (20 : Int32) then b1 (f_X0_errorNow N ber) (fun r4 => b2 (f_X0_takeError N p0 bsz bgp bxs bus bys bme) (fun v6 v7 => b1 (f_X4_forget N ) (fun v9 => some (r4, v9, v6, v7)))) else some ((-1 : Int32), prc, ber, bme)))
def f_X8_meets (N : Nat) (p0 : Int32) (p1 : Int32) (bsz : Int32) (bme : Nat → Int32) : Option (Int32) :=
  b1 (f_X0_has N p0 bsz) (fun r2 => (if r2 = 0 then some ((-1 : Int32)) else b1 (f_X3_is N p1) (fun r5 => (if r5 = 0 then some ((-1 : Int32)) else b1 (f_X0_letsLaw N ((1 : Int32) <<< (p0 &&& 31)) p1 bme) (fun r8 => (if r8 = 0 then some ((0 : Int32)) else some ((1 : Int32))))))))
def f_X8_lets (N : Nat) (p0 : Int32) (p1 : Int32) (bsz : Int32) (bme : Nat → Int32) : Option (Int32) :=
  b1 (f_X0_isHeap N p0 bsz) (fun r2 => (if r2 = 0 then some ((-1 : Int32)) else (if (-1 : Int32) ≤ p1 then (if p1 = (-1 : Int32) then b1 (f_X0_lawCount N p0 bme) (fun r9 => some (r9)) else b1 (f_X0_lawOf N p0 p1 bme) (fun r7 => some (r7))) else some ((-1 : Int32)))))
def f_X8_count (N : Nat) (p0 : Int32) (ksz : Int32) (kwa : Int32) (kra : Int32) (bsz : Int32) (bgp : Int32) : Option (Int32) :=
  (if p0 = (0 : Int32) then b1 (f_X0_size N bsz) (fun r2 => some (r2)) else (if p0 = (1 : Int32) then b1 (f_X0_gapCount N bgp) (fun r4 => some (r4)) else (if p0 = (2 : Int32) then b1 (f_X2_size N ksz) (fun r6 => some (r6)) else (if p0 = (3 : Int32) then b1 (f_X2_watchedCount N kwa) (fun r8 => some (r8)) else (if p0 = (4 : Int32) then b1 (f_X2_rangCount N kra) (fun r10 => some (r10)) else some ((-1 : Int32)))))))
def f_X8_fewest (N : Nat) (pgc : Int32) (prc : Int32) (pgr : Nat → Int32) (pla : Nat → Int32) (bsz : Int32) (bme : Nat → Int32) : Option (Int32 × Int32 × Int32 × (Nat → Int32) × (Nat → Int32)) :=
  b5 (f_X4_leastLaws N pgc prc pgr pla bsz bme) (fun r2 v3 v4 v5 v6 => some (r2, v3, v4, v5, v6))
def f_X8_letGo (N : Nat) (p0 : Int32) (p1 : Int32) (pgc : Int32) (prc : Int32) (pgr : Nat → Int32) (pla : Nat → Int32) (bsz : Int32) (bme : Nat → Int32) : Option (Int32 × Int32 × Int32 × (Nat → Int32) × (Nat → Int32)) :=
  (if p0 < 0 then some ((-1 : Int32), pgc, prc, pgr, pla) else (if (6 : Int32) < p0 then some ((-1 : Int32), pgc, prc, pgr, pla) else (if p1 < 0 then some ((-1 : Int32), pgc, prc, pgr, pla) else (if p1 ≤ (1 : Int32) then b5 (f_X4_leftOut N p0 pgc prc pgr pla bsz bme) (fun r6 v7 v8 v9 v10 => (if p1 = 0 then b1 (f_J6_bitCount_0f7a4 N r6) (fun r13 => some (r13, v7, v8, v9, v10)) else some (r6, v7, v8, v9, v10))) else some ((-1 : Int32), pgc, prc, pgr, pla)))))
def f_X8_together (N : Nat) (p0 : Int32) (p1 : Int32) (pgc : Int32) (prc : Int32) (pgr : Nat → Int32) (pla : Nat → Int32) (bsz : Int32) (bme : Nat → Int32) : Option (Int32 × Int32 × Int32 × (Nat → Int32) × (Nat → Int32)) :=
  b1 (f_X0_has N p0 bsz) (fun r2 => (if r2 = 0 then some ((-1 : Int32), pgc, prc, pgr, pla) else b1 (f_X0_has N p1 bsz) (fun r5 => (if r5 = 0 then some ((-1 : Int32), pgc, prc, pgr, pla) else (if p0 = p1 then some ((-1 : Int32), pgc, prc, pgr, pla) else b5 (f_X4_howTogether N p0 p1 pgc prc pgr pla bsz bme) (fun r9 v10 v11 v12 v13 => some (r9, v10, v11, v12, v13)))))))
abbrev rm_X8_isNear : Room := { frames := 0, cells := 0, slots := 0, locals := 0 }
set_option maxHeartbeats 4000000 in
set_option maxRecDepth 100000 in
theorem cr_X8_isNear (l : Launch) (D : va_G) (ky : Nat → ClassId)  (sz N : Nat)   (p0 : Int32) (p1 : Int32) (res : Int32) (hF : f_X8_isNear N p0 p1 = some res) : MI l yX8_isNear wsX8_isNear rm_X8_isNear D ky sz [.int p0, .int p1] [] [] res := by
  unfold MI
  refine Met.ofW (cc := cX8_isNear) (maxL := 2) (ret := (some .boolean)) (by decide) rfl ?_
  intro p e s m args below meth c s₁ B hml hv
  obtain ⟨rfl, hsz, hP, hK, hD0⟩ := hv
  have hx := B.exec
  have hb := B.bytes
  have hr := B.returns
  have hts := atoms_spec (ws := wsX8_isNear) B.pre
  have hown : s.vm.findClass RX8 = some m.cls := findClass_of_methodNamed B.named
  have hlocks := B.notSynchronized
  subst hsz
  have hD := hD0.self (sz := s.heap.size)
  generalize hAe : va_A [] s.heap.size = A at hD ⊢
  have hA : ∀ q : Nat, s.heap.size ≤ q → A q := fun q h => by rw [← hAe]; exact Or.inr h
  have hS : va_S A s.heap s.heap [] := va_S.rf
  have hP : va_P D vwCl [] s.heap := hP
  have hl := lv_entry ([.int p0, .int p1]) (n := 2) (Nat.le_of_ble_eq_true rfl)
  rw [lg_entry_eq]
  generalize (lg_sl ([.int p0, .int p1]) ++ List.replicate (2 - (lg_sl ([.int p0, .int p1])).length) Slot.unset).toArray = ls at hl ⊢
  have hl : lv_has ls 2 [(0, .int p0), (1, .int p1)] := hl
  have C : cx p s m c ([.int p0, .int p1]).toArray D ky A cX8_isNear 2 wsX8_isNear RX8 := ⟨hx, hb, hml, hown, hts, hK, hA⟩
  have hQ : ∀ (pc : Nat) (H : Heap) (locs : List Loc) (ls : Array Slot), decode cX8_isNear pc = .ok (.ireturn, 1) → (res = 0 ∨ res = 1) → va_P D vwCl [] H → va_D A [] → va_S A s.heap H locs → W p l e rm_X8_isNear s m ([.int p0, .int p1]).toArray below meth c H locs 0 0 (MQ below (va_Qi (S := Unit) (fun r _ => r = res) (fun _ t => va_P D vwCl [] t.heap ∧ va_K D vwCl (tyW ky) t ∧ va_D A []) A) ([.int p0, .int p1]).toArray s 0 0 A) (F0 m pc ls [.int res]) := fun pc H locs ls hd hz hP hD hS => W.zret hx hb hr (gz_n hz) (fun t ht hW => ⟨⟨res, (), rfl, rfl, by rw [ht]; exact hP, va_K.moved hW.alike hK, hD⟩, hS.F ht⟩) hS.2.2 hd
  unfold f_X8_isNear at hF
  refine lv_iload_n hx hb dX8_isNear_0 rfl (lv_at hl 0 rfl) ?_
  refine lv_iload_n hx hb dX8_isNear_1 rfl (lv_at hl 1 rfl) ?_
  refine lv_ineg hx hb dX8_isNear_2 ?_
  refine lv_icmp_lt (tgt := 15) hx hb dX8_isNear_3 (by decide) (fun c1 => ?_) (fun c1 => ?_)
  · have hF := if_t c1 hF
    refine lv_iconst (v := (0 : Int32)) hx hb dX8_isNear_15 (by decide) ?_
    have hF := Option.some.inj hF
    subst hF
    exact hQ _ _ _ _ dX8_isNear_16 (Or.inl rfl) hP hD hS
  · have hF := if_f c1 hF
    refine lv_iload_n hx hb dX8_isNear_6 rfl (lv_at hl 0 rfl) ?_
    refine lv_iload_n hx hb dX8_isNear_7 rfl (lv_at hl 1 rfl) ?_
    refine lv_icmp_gt (tgt := 15) hx hb dX8_isNear_8 (by decide) (fun c2 => ?_) (fun c2 => ?_)
    · have hF := if_t c2 hF
      refine lv_iconst (v := (0 : Int32)) hx hb dX8_isNear_15 (by decide) ?_
      have hF := Option.some.inj hF
      subst hF
      exact hQ _ _ _ _ dX8_isNear_16 (Or.inl rfl) hP hD hS
    · have hF := if_f c2 hF
      refine lv_iconst (v := (1 : Int32)) hx hb dX8_isNear_11 (by decide) ?_
      refine lv_goto (tgt := 16) hx hb dX8_isNear_12 (by decide) ?_
      have hF := Option.some.inj hF
      subst hF
      exact hQ _ _ _ _ dX8_isNear_16 (Or.inr rfl) hP hD hS
theorem c_X8_isNear (l : Launch) (D : va_G) (ky : Nat → ClassId)  (sz N : Nat)   (p0 : Int32) (p1 : Int32) (rv : Int32) (hF : f_X8_isNear N p0 p1 = some (rv)) : MI l yX8_isNear wsX8_isNear rm_X8_isNear D ky sz [.int p0, .int p1] [] [] rv :=
  cr_X8_isNear l D ky  sz N p0 p1 (rv) hF
abbrev rm_X8_isLane : Room := { frames := 0, cells := 0, slots := 0, locals := 0 }
set_option maxHeartbeats 4000000 in
set_option maxRecDepth 100000 in
theorem cr_X8_isLane (l : Launch) (D : va_G) (ky : Nat → ClassId)  (sz N : Nat)   (p0 : Int32) (res : Int32) (hF : f_X8_isLane N p0 = some res) : MI l yX8_isLane wsX8_isLane rm_X8_isLane D ky sz [.int p0] [] [] res := by
  unfold MI
  refine Met.ofW (cc := cX8_isLane) (maxL := 1) (ret := (some .boolean)) (by decide) rfl ?_
  intro p e s m args below meth c s₁ B hml hv
  obtain ⟨rfl, hsz, hP, hK, hD0⟩ := hv
  have hx := B.exec
  have hb := B.bytes
  have hr := B.returns
  have hts := atoms_spec (ws := wsX8_isLane) B.pre
  have hown : s.vm.findClass RX8 = some m.cls := findClass_of_methodNamed B.named
  have hlocks := B.notSynchronized
  subst hsz
  have hD := hD0.self (sz := s.heap.size)
  generalize hAe : va_A [] s.heap.size = A at hD ⊢
  have hA : ∀ q : Nat, s.heap.size ≤ q → A q := fun q h => by rw [← hAe]; exact Or.inr h
  have hS : va_S A s.heap s.heap [] := va_S.rf
  have hP : va_P D vwCl [] s.heap := hP
  have hl := lv_entry ([.int p0]) (n := 1) (Nat.le_of_ble_eq_true rfl)
  rw [lg_entry_eq]
  generalize (lg_sl ([.int p0]) ++ List.replicate (1 - (lg_sl ([.int p0])).length) Slot.unset).toArray = ls at hl ⊢
  have hl : lv_has ls 1 [(0, .int p0)] := hl
  have C : cx p s m c ([.int p0]).toArray D ky A cX8_isLane 1 wsX8_isLane RX8 := ⟨hx, hb, hml, hown, hts, hK, hA⟩
  have hQ : ∀ (pc : Nat) (H : Heap) (locs : List Loc) (ls : Array Slot), decode cX8_isLane pc = .ok (.ireturn, 1) → (res = 0 ∨ res = 1) → va_P D vwCl [] H → va_D A [] → va_S A s.heap H locs → W p l e rm_X8_isLane s m ([.int p0]).toArray below meth c H locs 0 0 (MQ below (va_Qi (S := Unit) (fun r _ => r = res) (fun _ t => va_P D vwCl [] t.heap ∧ va_K D vwCl (tyW ky) t ∧ va_D A []) A) ([.int p0]).toArray s 0 0 A) (F0 m pc ls [.int res]) := fun pc H locs ls hd hz hP hD hS => W.zret hx hb hr (gz_n hz) (fun t ht hW => ⟨⟨res, (), rfl, rfl, by rw [ht]; exact hP, va_K.moved hW.alike hK, hD⟩, hS.F ht⟩) hS.2.2 hd
  unfold f_X8_isLane at hF
  refine lv_iload_n hx hb dX8_isLane_0 rfl (lv_at hl 0 rfl) ?_
  refine lv_if_lt (tgt := 13) hx hb dX8_isLane_1 (by decide) (fun c1 => ?_) (fun c1 => ?_)
  · have hF := if_t c1 hF
    refine lv_iconst (v := (0 : Int32)) hx hb dX8_isLane_13 (by decide) ?_
    have hF := Option.some.inj hF
    subst hF
    exact hQ _ _ _ _ dX8_isLane_14 (Or.inl rfl) hP hD hS
  · have hF := if_f c1 hF
    refine lv_iload_n hx hb dX8_isLane_4 rfl (lv_at hl 0 rfl) ?_
    refine lv_iconst (v := (3 : Int32)) hx hb dX8_isLane_5 (by decide) ?_
    refine lv_icmp_ge (tgt := 13) hx hb dX8_isLane_6 (by decide) (fun c2 => ?_) (fun c2 => ?_)
    · have hF := if_t c2 hF
      refine lv_iconst (v := (0 : Int32)) hx hb dX8_isLane_13 (by decide) ?_
      have hF := Option.some.inj hF
      subst hF
      exact hQ _ _ _ _ dX8_isLane_14 (Or.inl rfl) hP hD hS
    · have hF := if_f c2 hF
      refine lv_iconst (v := (1 : Int32)) hx hb dX8_isLane_9 (by decide) ?_
      refine lv_goto (tgt := 14) hx hb dX8_isLane_10 (by decide) ?_
      have hF := Option.some.inj hF
      subst hF
      exact hQ _ _ _ _ dX8_isLane_14 (Or.inr rfl) hP hD hS
theorem c_X8_isLane (l : Launch) (D : va_G) (ky : Nat → ClassId)  (sz N : Nat)   (p0 : Int32) (rv : Int32) (hF : f_X8_isLane N p0 = some (rv)) : MI l yX8_isLane wsX8_isLane rm_X8_isLane D ky sz [.int p0] [] [] rv :=
  cr_X8_isLane l D ky  sz N p0 (rv) hF
abbrev rm_X8_pushInTurn : Room := { frames := 0, cells := 0, slots := 0, locals := 0 }
set_option maxHeartbeats 4000000 in
set_option maxRecDepth 100000 in
theorem cr_X8_pushInTurn (l : Launch) (D : va_G) (ky : Nat → ClassId)  (sz N : Nat)   (p0 : Int32) (res : Int32) (hF : f_X8_pushInTurn N p0 = some res) : MI l yX8_pushInTurn wsX8_pushInTurn rm_X8_pushInTurn D ky sz [.int p0] [] [] res := by
  unfold MI
  refine Met.ofW (cc := cX8_pushInTurn) (maxL := 1) (ret := (some .int)) (by decide) rfl ?_
  intro p e s m args below meth c s₁ B hml hv
  obtain ⟨rfl, hsz, hP, hK, hD0⟩ := hv
  have hx := B.exec
  have hb := B.bytes
  have hr := B.returns
  have hts := atoms_spec (ws := wsX8_pushInTurn) B.pre
  have hown : s.vm.findClass RX8 = some m.cls := findClass_of_methodNamed B.named
  have hlocks := B.notSynchronized
  subst hsz
  have hD := hD0.self (sz := s.heap.size)
  generalize hAe : va_A [] s.heap.size = A at hD ⊢
  have hA : ∀ q : Nat, s.heap.size ≤ q → A q := fun q h => by rw [← hAe]; exact Or.inr h
  have hS : va_S A s.heap s.heap [] := va_S.rf
  have hP : va_P D vwCl [] s.heap := hP
  have hl := lv_entry ([.int p0]) (n := 1) (Nat.le_of_ble_eq_true rfl)
  rw [lg_entry_eq]
  generalize (lg_sl ([.int p0]) ++ List.replicate (1 - (lg_sl ([.int p0])).length) Slot.unset).toArray = ls at hl ⊢
  have hl : lv_has ls 1 [(0, .int p0)] := hl
  have C : cx p s m c ([.int p0]).toArray D ky A cX8_pushInTurn 1 wsX8_pushInTurn RX8 := ⟨hx, hb, hml, hown, hts, hK, hA⟩
  have hQ : ∀ (pc : Nat) (H : Heap) (locs : List Loc) (ls : Array Slot), decode cX8_pushInTurn pc = .ok (.ireturn, 1) → va_P D vwCl [] H → va_D A [] → va_S A s.heap H locs → W p l e rm_X8_pushInTurn s m ([.int p0]).toArray below meth c H locs 0 0 (MQ below (va_Qi (S := Unit) (fun r _ => r = res) (fun _ t => va_P D vwCl [] t.heap ∧ va_K D vwCl (tyW ky) t ∧ va_D A []) A) ([.int p0]).toArray s 0 0 A) (F0 m pc ls [.int res]) := fun pc H locs ls hd hP hD hS => W.iret hx hb hr (fun t ht hW => ⟨⟨res, (), rfl, rfl, by rw [ht]; exact hP, va_K.moved hW.alike hK, hD⟩, hS.F ht⟩) hS.2.2 hd
  unfold f_X8_pushInTurn at hF
  refine lv_iload_n hx hb dX8_pushInTurn_0 rfl (lv_at hl 0 rfl) ?_
  refine lv_iconst (v := (2 : Int32)) hx hb dX8_pushInTurn_1 (by decide) ?_
  refine lv_irem hx hb dX8_pushInTurn_2 (by decide) ?_
  refine lv_iconst (v := (1 : Int32)) hx hb dX8_pushInTurn_3 (by decide) ?_
  refine lv_icmp_ne (tgt := 15) hx hb dX8_pushInTurn_4 (by decide) (fun c1 => ?_) (fun c1 => ?_)
  · have hF := if_f c1 hF
    refine lv_iload_n hx hb dX8_pushInTurn_15 rfl (lv_at hl 0 rfl) ?_
    refine lv_iconst (v := (2 : Int32)) hx hb dX8_pushInTurn_16 (by decide) ?_
    refine lv_idiv hx hb dX8_pushInTurn_17 (by decide) ?_
    refine lv_ineg hx hb dX8_pushInTurn_18 ?_
    have hF := Option.some.inj hF
    subst hF
    exact hQ _ _ _ _ dX8_pushInTurn_19 hP hD hS
  · have hF := if_t c1 hF
    refine lv_iload_n hx hb dX8_pushInTurn_7 rfl (lv_at hl 0 rfl) ?_
    refine lv_iconst (v := (2 : Int32)) hx hb dX8_pushInTurn_8 (by decide) ?_
    refine lv_idiv hx hb dX8_pushInTurn_9 (by decide) ?_
    refine lv_iconst (v := (1 : Int32)) hx hb dX8_pushInTurn_10 (by decide) ?_
    refine lv_iadd hx hb dX8_pushInTurn_11 ?_
    refine lv_goto (tgt := 19) hx hb dX8_pushInTurn_12 (by decide) ?_
    have hF := Option.some.inj hF
    subst hF
    exact hQ _ _ _ _ dX8_pushInTurn_19 hP hD hS
theorem c_X8_pushInTurn (l : Launch) (D : va_G) (ky : Nat → ClassId)  (sz N : Nat)   (p0 : Int32) (rv : Int32) (hF : f_X8_pushInTurn N p0 = some (rv)) : MI l yX8_pushInTurn wsX8_pushInTurn rm_X8_pushInTurn D ky sz [.int p0] [] [] rv :=
  cr_X8_pushInTurn l D ky  sz N p0 (rv) hF
abbrev rm_X8_rests : Room := { frames := 1, cells := 0, slots := 0, locals := 20 }
theorem iX8_rests_X8 : ∀ w ∈ wsX80, w ∈ wsX8_rests := by decide +kernel
theorem kX8_rests_1 : (Cond.fieldLink RX8 10 "TwoLaws" "book" "LTwoLaws$Book;") ∈ wsX8_rests := by decide +kernel
set_option maxHeartbeats 4000000 in
set_option maxRecDepth 100000 in
theorem w_X8_rests_5 {p : Program} {l : Launch} {e : Env} {s : State} {m : MethodId} {args : Array Value} {below : List Frame} {meth : Method} {c : Code} {Q : State → Prop} {A : Nat → Prop} {D : va_G} {ky : Nat → ClassId} {aX aB aP aT aR aK aH aG aS ax au ay am : Nat} {bsz : Int32} {bgp : Int32} {ber : Int32} {bxs : Nat → Int32} {bus : Nat → Int32} {bys : Nat → Int32} {bme : Nat → Int32} (N : Nat) (C : cx p s m c args D ky A cX8_rests 5 wsX8_rests RX8) (res : Int32) (hQ : ∀ (pc : Nat) (H : Heap) (locs : List Loc) (ls : Array Slot), decode cX8_rests pc = .ok (.ireturn, 1) → va_P D vwCl (w_xbook ky aX aB aP aT aR aK aH aG aS ax au ay am bsz bgp ber bxs bus bys bme) H → va_D A (w_xbook ky aX aB aP aT aR aK aH aG aS ax au ay am bsz bgp ber bxs bus bys bme) → va_S A s.heap H locs → W p l e rm_X8_rests s m args below meth c H locs 0 0 Q (F0 m pc ls [.int res])) (l1 : Int32) (l2 : Int32) : ∀ (n : Nat) (l3 : Int32) (l4 : Int32), f_X8_rests_5 N l1 l2 bsz n l3 l4 = some res → ∀ (H : Heap) (locs : List Loc) (ls : Array Slot), va_P D vwCl (w_xbook ky aX aB aP aT aR aK aH aG aS ax au ay am bsz bgp ber bxs bus bys bme) H → va_D A (w_xbook ky aX aB aP aT aR aK aH aG aS ax au ay am bsz bgp ber bxs bus bys bme) → va_S A s.heap H locs → lv_has ls 5 [(0, .ref aX), (1, .int l1), (2, .int l2), (3, .int l3), (4, .int l4)] → W p l e rm_X8_rests s m args below meth c H locs 0 0 Q (F0 m 5 ls []) := by
  obtain ⟨hx, hb, hml, hown, hts, hK, hA⟩ := id C
  intro n
  induction n with
  | zero =>
    intro l3 l4 hF
    cases hF
  | succ n ih =>
    intro l3 l4 hF H locs ls hP hD hS hl
    have hF : b_X8_rests_5 N l1 l2 bsz (f_X8_rests_5 N l1 l2 bsz n) l3 l4 = some res := hF
    unfold b_X8_rests_5 at hF
    refine lv_iload hx hb dX8_rests_5 (lv_at hl 4 rfl) ?_
    refine lv_aload_n hx hb dX8_rests_7 rfl (lv_at hl 0 rfl) ?_
    refine va_get (D := D) (ci := 7) (v := .ref aB) (C := RX8) (T := TX8) (N := 8) hx hb hts iX8_rests_X8 hown hK hP 0 rfl rfl 0 (by decide) (hts _ kX8_rests_1) (fun _ h9 => h9) rfl dX8_rests_8 ?_
    obtain ⟨r2, h1, hF⟩ := b1_s hF
    refine cl_vi (As := []) (rest := [.int l4]) (w' := (w_xbook ky aX aB aP aT aR aK aH aG aS ax au ay am bsz bgp ber bxs bus bys bme)) ⟨hx, hb, hml, hown, hts⟩ hK hP hD hS hA (c_X0_size l D ky aB ax au ay am _ N  bsz bgp ber bxs bus bys bme  r2 h1) (cwV 0 hts gX8_rests_X0_size rfl rfl rfl (by decide +kernel) ⟨Nat.le_of_ble_eq_true rfl, Nat.le_of_ble_eq_true rfl⟩) [1, 2, 3, 4, 5] [0] [0, 1, 2, 3, 4, 5] 0 0 rfl rfl rfl rfl (wr := [(aX, .inr (7, [.ref aB, .ref aP, .ref aT, .ref aR, .ref aK, .ref aH, .ref aG, .ref aS]))]) rfl (by decide) rfl rfl hl.1 (Nat.le_of_ble_eq_true rfl) dX8_rests_11 ⟨Nat.zero_le _, Nat.zero_le _⟩ (fun H locs hP hD hS => ?_)
    refine lv_icmp_ge (tgt := 45) hx hb dX8_rests_14 (by decide) (fun c3 => ?_) (fun c3 => ?_)
    · have hF := if_t c3 hF
      refine lv_iload_n hx hb dX8_rests_45 rfl (lv_at hl 3 rfl) ?_
      have hF := Option.some.inj hF
      subst hF
      exact hQ _ H _ _ dX8_rests_46 hP hD hS
    · have hF := if_f c3 hF
      refine lv_iload_n hx hb dX8_rests_17 rfl (lv_at hl 1 rfl) ?_
      refine lv_iload hx hb dX8_rests_18 (lv_at hl 4 rfl) ?_
      refine lv_ishr hx hb dX8_rests_20 ?_
      refine lv_iconst (v := (1 : Int32)) hx hb dX8_rests_21 (by decide) ?_
      refine lv_iand hx hb dX8_rests_22 ?_
      refine lv_if_eq (tgt := 39) hx hb dX8_rests_23 (by decide) (fun c4 => ?_) (fun c4 => ?_)
      · have hF := if_t c4 hF
        refine lv_iinc (v := (l4 + (1 : Int32))) (lv' := [(4, .int (l4 + (1 : Int32))), (0, .ref aX), (1, .int l1), (2, .int l2), (3, .int l3)]) hx hb dX8_rests_39 hl (k := 4) rfl rfl (by decide) rfl (fun ls hl => ?_)
        refine lv_goto (tgt := 5) hx hb dX8_rests_42 (by decide) ?_
        exact ih l3 (l4 + (1 : Int32)) hF H _ _ hP hD hS (lv_sub hl [1, 2, 3, 4, 0] rfl)
      · have hF := if_f c4 hF
        refine lv_iload_n hx hb dX8_rests_26 rfl (lv_at hl 2 rfl) ?_
        refine lv_if_le (tgt := 39) hx hb dX8_rests_27 (by decide) (fun c5 => ?_) (fun c5 => ?_)
        · have hF := if_t c5 hF
          refine lv_iinc (v := (l4 + (1 : Int32))) (lv' := [(4, .int (l4 + (1 : Int32))), (0, .ref aX), (1, .int l1), (2, .int l2), (3, .int l3)]) hx hb dX8_rests_39 hl (k := 4) rfl rfl (by decide) rfl (fun ls hl => ?_)
          refine lv_goto (tgt := 5) hx hb dX8_rests_42 (by decide) ?_
          exact ih l3 (l4 + (1 : Int32)) hF H _ _ hP hD hS (lv_sub hl [1, 2, 3, 4, 0] rfl)
        · have hF := if_f c5 hF
          refine lv_iload_n hx hb dX8_rests_30 rfl (lv_at hl 3 rfl) ?_
          refine lv_iconst (v := (1 : Int32)) hx hb dX8_rests_31 (by decide) ?_
          refine lv_iload hx hb dX8_rests_32 (lv_at hl 4 rfl) ?_
          refine lv_iload_n hx hb dX8_rests_34 rfl (lv_at hl 2 rfl) ?_
          obtain ⟨h6, hF⟩ := gd_s hF
          refine lv_irem hx hb dX8_rests_35 h6 ?_
          refine lv_ishl hx hb dX8_rests_36 ?_
          refine lv_ior hx hb dX8_rests_37 ?_
          refine lv_istore_n (lv' := [(3, .int (l3 ||| ((1 : Int32) <<< ((l4 - l4 / l2 * l2) &&& 31)))), (0, .ref aX), (1, .int l1), (2, .int l2), (4, .int l4)]) hx hb dX8_rests_38 rfl hl (by decide) rfl (fun ls hl => ?_)
          refine lv_iinc (v := (l4 + (1 : Int32))) (lv' := [(4, .int (l4 + (1 : Int32))), (3, .int (l3 ||| ((1 : Int32) <<< ((l4 - l4 / l2 * l2) &&& 31)))), (0, .ref aX), (1, .int l1), (2, .int l2)]) hx hb dX8_rests_39 hl (k := 4) rfl rfl (by decide) rfl (fun ls hl => ?_)
          refine lv_goto (tgt := 5) hx hb dX8_rests_42 (by decide) ?_
          exact ih (l3 ||| ((1 : Int32) <<< ((l4 - l4 / l2 * l2) &&& 31))) (l4 + (1 : Int32)) hF H _ _ hP hD hS (lv_sub hl [2, 3, 4, 1, 0] rfl)
set_option maxHeartbeats 4000000 in
set_option maxRecDepth 100000 in
theorem cr_X8_rests (l : Launch) (D : va_G) (ky : Nat → ClassId) (aX aB aP aT aR aK aH aG aS ax au ay am : Nat) (sz N : Nat)  (bsz : Int32) (bgp : Int32) (ber : Int32) (bxs : Nat → Int32) (bus : Nat → Int32) (bys : Nat → Int32) (bme : Nat → Int32) (p0 : Int32) (p1 : Int32) (res : Int32) (hF : f_X8_rests N p0 p1 bsz = some res) : MI l yX8_rests wsX8_rests rm_X8_rests D ky sz [.ref aX, .int p0, .int p1] (w_xbook ky aX aB aP aT aR aK aH aG aS ax au ay am bsz bgp ber bxs bus bys bme) (w_xbook ky aX aB aP aT aR aK aH aG aS ax au ay am bsz bgp ber bxs bus bys bme) res := by
  unfold MI
  refine Met.ofW (cc := cX8_rests) (maxL := 5) (ret := (some .int)) (by decide) rfl ?_
  intro p e s m args below meth c s₁ B hml hv
  obtain ⟨rfl, hsz, hP, hK, hD0⟩ := hv
  have hx := B.exec
  have hb := B.bytes
  have hr := B.returns
  have hts := atoms_spec (ws := wsX8_rests) B.pre
  have hown : s.vm.findClass RX8 = some m.cls := findClass_of_methodNamed B.named
  have hlocks := B.notSynchronized
  subst hsz
  have hD := hD0.self (sz := s.heap.size)
  generalize hAe : va_A (w_xbook ky aX aB aP aT aR aK aH aG aS ax au ay am bsz bgp ber bxs bus bys bme) s.heap.size = A at hD ⊢
  have hA : ∀ q : Nat, s.heap.size ≤ q → A q := fun q h => by rw [← hAe]; exact Or.inr h
  have hS : va_S A s.heap s.heap [] := va_S.rf
  have hP : va_P D vwCl (w_xbook ky aX aB aP aT aR aK aH aG aS ax au ay am bsz bgp ber bxs bus bys bme) s.heap := hP
  have hl := lv_entry ([.ref aX, .int p0, .int p1]) (n := 5) (Nat.le_of_ble_eq_true rfl)
  rw [lg_entry_eq]
  generalize (lg_sl ([.ref aX, .int p0, .int p1]) ++ List.replicate (5 - (lg_sl ([.ref aX, .int p0, .int p1])).length) Slot.unset).toArray = ls at hl ⊢
  have hl : lv_has ls 5 [(0, .ref aX), (1, .int p0), (2, .int p1)] := hl
  have C : cx p s m c ([.ref aX, .int p0, .int p1]).toArray D ky A cX8_rests 5 wsX8_rests RX8 := ⟨hx, hb, hml, hown, hts, hK, hA⟩
  have hQ : ∀ (pc : Nat) (H : Heap) (locs : List Loc) (ls : Array Slot), decode cX8_rests pc = .ok (.ireturn, 1) → va_P D vwCl (w_xbook ky aX aB aP aT aR aK aH aG aS ax au ay am bsz bgp ber bxs bus bys bme) H → va_D A (w_xbook ky aX aB aP aT aR aK aH aG aS ax au ay am bsz bgp ber bxs bus bys bme) → va_S A s.heap H locs → W p l e rm_X8_rests s m ([.ref aX, .int p0, .int p1]).toArray below meth c H locs 0 0 (MQ below (va_Qi (S := Unit) (fun r _ => r = res) (fun _ t => va_P D vwCl (w_xbook ky aX aB aP aT aR aK aH aG aS ax au ay am bsz bgp ber bxs bus bys bme) t.heap ∧ va_K D vwCl (tyW ky) t ∧ va_D A (w_xbook ky aX aB aP aT aR aK aH aG aS ax au ay am bsz bgp ber bxs bus bys bme)) A) ([.ref aX, .int p0, .int p1]).toArray s 0 0 A) (F0 m pc ls [.int res]) := fun pc H locs ls hd hP hD hS => W.iret hx hb hr (fun t ht hW => ⟨⟨res, (), rfl, rfl, by rw [ht]; exact hP, va_K.moved hW.alike hK, hD⟩, hS.F ht⟩) hS.2.2 hd
  unfold f_X8_rests at hF
  refine lv_iconst (v := (0 : Int32)) hx hb dX8_rests_0 (by decide) ?_
  refine lv_istore_n (lv' := [(3, .int (0 : Int32)), (0, .ref aX), (1, .int p0), (2, .int p1)]) hx hb dX8_rests_1 rfl hl (by decide) rfl (fun ls hl => ?_)
  refine lv_iconst (v := (0 : Int32)) hx hb dX8_rests_2 (by decide) ?_
  refine lv_istore (lv' := [(4, .int (0 : Int32)), (3, .int (0 : Int32)), (0, .ref aX), (1, .int p0), (2, .int p1)]) hx hb dX8_rests_3 hl (by decide) rfl (fun ls hl => ?_)
  exact w_X8_rests_5 N C res hQ p0 p1 N (0 : Int32) (0 : Int32) hF _ _ _ hP hD hS (lv_sub hl [2, 3, 4, 1, 0] rfl)
theorem c_X8_rests (l : Launch) (D : va_G) (ky : Nat → ClassId) (aX aB aP aT aR aK aH aG aS ax au ay am : Nat) (sz N : Nat)  (bsz : Int32) (bgp : Int32) (ber : Int32) (bxs : Nat → Int32) (bus : Nat → Int32) (bys : Nat → Int32) (bme : Nat → Int32) (p0 : Int32) (p1 : Int32) (rv : Int32) (hF : f_X8_rests N p0 p1 bsz = some (rv)) : MI l yX8_rests wsX8_rests rm_X8_rests D ky sz [.ref aX, .int p0, .int p1] (w_xbook ky aX aB aP aT aR aK aH aG aS ax au ay am bsz bgp ber bxs bus bys bme) (w_xbook ky aX aB aP aT aR aK aH aG aS ax au ay am bsz bgp ber bxs bus bys bme) rv :=
  cr_X8_rests l D ky aX aB aP aT aR aK aH aG aS ax au ay am sz N bsz bgp ber bxs bus bys bme p0 p1 (rv) hF
abbrev rm_X8_row : Room := { frames := 4, cells := 0, slots := 0, locals := 90 }
theorem iX8_row_X8 : ∀ w ∈ wsX80, w ∈ wsX8_row := by decide +kernel
theorem kX8_row_1 : (Cond.fieldLink RX8 10 "TwoLaws" "book" "LTwoLaws$Book;") ∈ wsX8_row := by decide +kernel
set_option maxHeartbeats 4000000 in
set_option maxRecDepth 100000 in
theorem cr_X8_row (l : Launch) (D : va_G) (ky : Nat → ClassId) (aX aB aP aT aR aK aH aG aS ax au ay am : Nat) (sz N : Nat)  (bsz : Int32) (bgp : Int32) (ber : Int32) (bxs : Nat → Int32) (bus : Nat → Int32) (bys : Nat → Int32) (bme : Nat → Int32) (p0 : Int32) (p1 : Int32) (p2 : Int32) (res : Int32 × Int32 × Int32 × (Nat → Int32) × (Nat → Int32) × (Nat → Int32) × (Nat → Int32)) (hF : f_X8_row N p0 p1 p2 bsz bgp ber bxs bus bys bme = some res) : MI l yX8_row wsX8_row rm_X8_row D ky sz [.ref aX, .int p0, .int p1, .int p2] (w_xbook ky aX aB aP aT aR aK aH aG aS ax au ay am bsz bgp ber bxs bus bys bme) (w_xbook ky aX aB aP aT aR aK aH aG aS ax au ay am res.2.1 res.2.2.1 ber res.2.2.2.1 res.2.2.2.2.1 res.2.2.2.2.2.1 res.2.2.2.2.2.2) res.1 := by
  unfold MI
  refine Met.ofW (cc := cX8_row) (maxL := 4) (ret := (some .int)) (by decide) rfl ?_
  intro p e s m args below meth c s₁ B hml hv
  obtain ⟨rfl, hsz, hP, hK, hD0⟩ := hv
  have hx := B.exec
  have hb := B.bytes
  have hr := B.returns
  have hts := atoms_spec (ws := wsX8_row) B.pre
  have hown : s.vm.findClass RX8 = some m.cls := findClass_of_methodNamed B.named
  have hlocks := B.notSynchronized
  subst hsz
  have hD := hD0.self (sz := s.heap.size)
  generalize hAe : va_A (w_xbook ky aX aB aP aT aR aK aH aG aS ax au ay am bsz bgp ber bxs bus bys bme) s.heap.size = A at hD ⊢
  have hA : ∀ q : Nat, s.heap.size ≤ q → A q := fun q h => by rw [← hAe]; exact Or.inr h
  have hS : va_S A s.heap s.heap [] := va_S.rf
  have hP : va_P D vwCl (w_xbook ky aX aB aP aT aR aK aH aG aS ax au ay am bsz bgp ber bxs bus bys bme) s.heap := hP
  have hl := lv_entry ([.ref aX, .int p0, .int p1, .int p2]) (n := 4) (Nat.le_of_ble_eq_true rfl)
  rw [lg_entry_eq]
  generalize (lg_sl ([.ref aX, .int p0, .int p1, .int p2]) ++ List.replicate (4 - (lg_sl ([.ref aX, .int p0, .int p1, .int p2])).length) Slot.unset).toArray = ls at hl ⊢
  have hl : lv_has ls 4 [(0, .ref aX), (1, .int p0), (2, .int p1), (3, .int p2)] := hl
  have C : cx p s m c ([.ref aX, .int p0, .int p1, .int p2]).toArray D ky A cX8_row 4 wsX8_row RX8 := ⟨hx, hb, hml, hown, hts, hK, hA⟩
  have hQ : ∀ (pc : Nat) (H : Heap) (locs : List Loc) (ls : Array Slot), decode cX8_row pc = .ok (.ireturn, 1) → va_P D vwCl (w_xbook ky aX aB aP aT aR aK aH aG aS ax au ay am res.2.1 res.2.2.1 ber res.2.2.2.1 res.2.2.2.2.1 res.2.2.2.2.2.1 res.2.2.2.2.2.2) H → va_D A (w_xbook ky aX aB aP aT aR aK aH aG aS ax au ay am res.2.1 res.2.2.1 ber res.2.2.2.1 res.2.2.2.2.1 res.2.2.2.2.2.1 res.2.2.2.2.2.2) → va_S A s.heap H locs → W p l e rm_X8_row s m ([.ref aX, .int p0, .int p1, .int p2]).toArray below meth c H locs 0 0 (MQ below (va_Qi (S := Unit) (fun r _ => r = res.1) (fun _ t => va_P D vwCl (w_xbook ky aX aB aP aT aR aK aH aG aS ax au ay am res.2.1 res.2.2.1 ber res.2.2.2.1 res.2.2.2.2.1 res.2.2.2.2.2.1 res.2.2.2.2.2.2) t.heap ∧ va_K D vwCl (tyW ky) t ∧ va_D A (w_xbook ky aX aB aP aT aR aK aH aG aS ax au ay am res.2.1 res.2.2.1 ber res.2.2.2.1 res.2.2.2.2.1 res.2.2.2.2.2.1 res.2.2.2.2.2.2)) A) ([.ref aX, .int p0, .int p1, .int p2]).toArray s 0 0 A) (F0 m pc ls [.int res.1]) := fun pc H locs ls hd hP hD hS => W.iret hx hb hr (fun t ht hW => ⟨⟨res.1, (), rfl, rfl, by rw [ht]; exact hP, va_K.moved hW.alike hK, hD⟩, hS.F ht⟩) hS.2.2 hd
  unfold f_X8_row at hF
  refine lv_iload_n hx hb dX8_row_0 rfl (lv_at hl 1 rfl) ?_
  refine lv_bipush (v := (99 : Int32)) hx hb dX8_row_1 (by decide) ?_
  obtain ⟨r2, h1, hF⟩ := b1_s hF
  refine cl_si (As := [.int p0, .int (99 : Int32)]) (rest := []) ⟨hx, hb, hml, hown, hts⟩ hK hP hD hS hA (c_X8_isNear l D ky  _ N   p0 (99 : Int32) r2 h1) (va_cwS 2 hts gX8_row_X8_isNear rfl rfl rfl (by decide +kernel) ⟨Nat.le_of_ble_eq_true rfl, Nat.le_of_ble_eq_true rfl⟩) rfl hl.1 (Nat.le_of_ble_eq_true rfl) dX8_row_3 ⟨Nat.zero_le _, Nat.zero_le _⟩ (fun H locs hP hD hS => ?_)
  refine lv_if_eq (tgt := 27) hx hb dX8_row_6 (by decide) (fun c3 => ?_) (fun c3 => ?_)
  · have hF := if_t c3 hF
    refine lv_iconst (v := (-1 : Int32)) hx hb dX8_row_27 (by decide) ?_
    have hF := Option.some.inj hF
    subst hF
    exact hQ _ _ _ _ dX8_row_28 hP hD hS
  · have hF := if_f c3 hF
    refine lv_iload_n hx hb dX8_row_9 rfl (lv_at hl 2 rfl) ?_
    refine lv_bipush (v := (99 : Int32)) hx hb dX8_row_10 (by decide) ?_
    obtain ⟨r5, h4, hF⟩ := b1_s hF
    refine cl_si (As := [.int p1, .int (99 : Int32)]) (rest := []) ⟨hx, hb, hml, hown, hts⟩ hK hP hD hS hA (c_X8_isNear l D ky  _ N   p1 (99 : Int32) r5 h4) (va_cwS 2 hts gX8_row_X8_isNear rfl rfl rfl (by decide +kernel) ⟨Nat.le_of_ble_eq_true rfl, Nat.le_of_ble_eq_true rfl⟩) rfl hl.1 (Nat.le_of_ble_eq_true rfl) dX8_row_12 ⟨Nat.zero_le _, Nat.zero_le _⟩ (fun H locs hP hD hS => ?_)
    refine lv_if_eq (tgt := 27) hx hb dX8_row_15 (by decide) (fun c6 => ?_) (fun c6 => ?_)
    · have hF := if_t c6 hF
      refine lv_iconst (v := (-1 : Int32)) hx hb dX8_row_27 (by decide) ?_
      have hF := Option.some.inj hF
      subst hF
      exact hQ _ _ _ _ dX8_row_28 hP hD hS
    · have hF := if_f c6 hF
      refine lv_iload_n hx hb dX8_row_18 rfl (lv_at hl 3 rfl) ?_
      refine lv_bipush (v := (99 : Int32)) hx hb dX8_row_19 (by decide) ?_
      obtain ⟨r8, h7, hF⟩ := b1_s hF
      refine cl_si (As := [.int p2, .int (99 : Int32)]) (rest := []) ⟨hx, hb, hml, hown, hts⟩ hK hP hD hS hA (c_X8_isNear l D ky  _ N   p2 (99 : Int32) r8 h7) (va_cwS 2 hts gX8_row_X8_isNear rfl rfl rfl (by decide +kernel) ⟨Nat.le_of_ble_eq_true rfl, Nat.le_of_ble_eq_true rfl⟩) rfl hl.1 (Nat.le_of_ble_eq_true rfl) dX8_row_21 ⟨Nat.zero_le _, Nat.zero_le _⟩ (fun H locs hP hD hS => ?_)
      refine lv_if_ne (tgt := 29) hx hb dX8_row_24 (by decide) (fun c9 => ?_) (fun c9 => ?_)
      · have hF := if_f c9 hF
        refine lv_aload_n hx hb dX8_row_29 rfl (lv_at hl 0 rfl) ?_
        refine va_get (D := D) (ci := 7) (v := .ref aB) (C := RX8) (T := TX8) (N := 8) hx hb hts iX8_row_X8 hown hK hP 0 rfl rfl 0 (by decide) (hts _ kX8_row_1) (fun _ h9 => h9) rfl dX8_row_30 ?_
        refine lv_iload_n hx hb dX8_row_33 rfl (lv_at hl 1 rfl) ?_
        refine lv_iload_n hx hb dX8_row_34 rfl (lv_at hl 2 rfl) ?_
        refine lv_iload_n hx hb dX8_row_35 rfl (lv_at hl 3 rfl) ?_
        refine lv_iconst (v := (0 : Int32)) hx hb dX8_row_36 (by decide) ?_
        obtain ⟨r11, v12, v13, v14, v15, v16, v17, h10, hF⟩ := b7_s hF
        refine cl_vi (As := [.int p0, .int p1, .int p2, .int (0 : Int32)]) (rest := []) (w' := (w_xbook ky aX aB aP aT aR aK aH aG aS ax au ay am v12 v13 ber v14 v15 v16 v17)) ⟨hx, hb, hml, hown, hts⟩ hK hP hD hS hA (c_X0_add l D ky aB ax au ay am _ N  bsz bgp ber bxs bus bys bme p0 p1 p2 (0 : Int32) r11 v12 v13 v14 v15 v16 v17 h10) (cwV 4 hts gX8_row_X0_add rfl rfl rfl (by decide +kernel) ⟨Nat.le_of_ble_eq_true rfl, Nat.le_of_ble_eq_true rfl⟩) [1, 2, 3, 4, 5] [0] [0, 1, 2, 3, 4, 5] 0 0 rfl rfl rfl rfl (wr := [(aX, .inr (7, [.ref aB, .ref aP, .ref aT, .ref aR, .ref aK, .ref aH, .ref aG, .ref aS]))]) rfl (by decide) rfl rfl hl.1 (Nat.le_of_ble_eq_true rfl) dX8_row_37 ⟨Nat.zero_le _, Nat.zero_le _⟩ (fun H locs hP hD hS => ?_)
        have hF := Option.some.inj hF
        subst hF
        exact hQ _ _ _ _ dX8_row_40 hP hD hS
      · have hF := if_t c9 hF
        refine lv_iconst (v := (-1 : Int32)) hx hb dX8_row_27 (by decide) ?_
        have hF := Option.some.inj hF
        subst hF
        exact hQ _ _ _ _ dX8_row_28 hP hD hS
theorem c_X8_row (l : Launch) (D : va_G) (ky : Nat → ClassId) (aX aB aP aT aR aK aH aG aS ax au ay am : Nat) (sz N : Nat)  (bsz : Int32) (bgp : Int32) (ber : Int32) (bxs : Nat → Int32) (bus : Nat → Int32) (bys : Nat → Int32) (bme : Nat → Int32) (p0 : Int32) (p1 : Int32) (p2 : Int32) (rv : Int32) (bsz' : Int32) (bgp' : Int32) (bxs' : Nat → Int32) (bus' : Nat → Int32) (bys' : Nat → Int32) (bme' : Nat → Int32) (hF : f_X8_row N p0 p1 p2 bsz bgp ber bxs bus bys bme = some (rv, bsz', bgp', bxs', bus', bys', bme')) : MI l yX8_row wsX8_row rm_X8_row D ky sz [.ref aX, .int p0, .int p1, .int p2] (w_xbook ky aX aB aP aT aR aK aH aG aS ax au ay am bsz bgp ber bxs bus bys bme) (w_xbook ky aX aB aP aT aR aK aH aG aS ax au ay am bsz' bgp' ber bxs' bus' bys' bme') rv :=
  cr_X8_row l D ky aX aB aP aT aR aK aH aG aS ax au ay am sz N bsz bgp ber bxs bus bys bme p0 p1 p2 (rv, bsz', bgp', bxs', bus', bys', bme') hF
abbrev rm_X8_gap : Room := { frames := 4, cells := 0, slots := 0, locals := 90 }
theorem iX8_gap_X8 : ∀ w ∈ wsX80, w ∈ wsX8_gap := by decide +kernel
theorem kX8_gap_1 : (Cond.fieldLink RX8 10 "TwoLaws" "book" "LTwoLaws$Book;") ∈ wsX8_gap := by decide +kernel
set_option maxHeartbeats 4000000 in
set_option maxRecDepth 100000 in
theorem cr_X8_gap (l : Launch) (D : va_G) (ky : Nat → ClassId) (aX aB aP aT aR aK aH aG aS ax au ay am : Nat) (sz N : Nat)  (bsz : Int32) (bgp : Int32) (ber : Int32) (bxs : Nat → Int32) (bus : Nat → Int32) (bys : Nat → Int32) (bme : Nat → Int32) (p0 : Int32) (p1 : Int32) (res : Int32 × Int32 × Int32 × (Nat → Int32) × (Nat → Int32) × (Nat → Int32) × (Nat → Int32)) (hF : f_X8_gap N p0 p1 bsz bgp ber bxs bus bys bme = some res) : MI l yX8_gap wsX8_gap rm_X8_gap D ky sz [.ref aX, .int p0, .int p1] (w_xbook ky aX aB aP aT aR aK aH aG aS ax au ay am bsz bgp ber bxs bus bys bme) (w_xbook ky aX aB aP aT aR aK aH aG aS ax au ay am res.2.1 res.2.2.1 ber res.2.2.2.1 res.2.2.2.2.1 res.2.2.2.2.2.1 res.2.2.2.2.2.2) res.1 := by
  unfold MI
  refine Met.ofW (cc := cX8_gap) (maxL := 3) (ret := (some .int)) (by decide) rfl ?_
  intro p e s m args below meth c s₁ B hml hv
  obtain ⟨rfl, hsz, hP, hK, hD0⟩ := hv
  have hx := B.exec
  have hb := B.bytes
  have hr := B.returns
  have hts := atoms_spec (ws := wsX8_gap) B.pre
  have hown : s.vm.findClass RX8 = some m.cls := findClass_of_methodNamed B.named
  have hlocks := B.notSynchronized
  subst hsz
  have hD := hD0.self (sz := s.heap.size)
  generalize hAe : va_A (w_xbook ky aX aB aP aT aR aK aH aG aS ax au ay am bsz bgp ber bxs bus bys bme) s.heap.size = A at hD ⊢
  have hA : ∀ q : Nat, s.heap.size ≤ q → A q := fun q h => by rw [← hAe]; exact Or.inr h
  have hS : va_S A s.heap s.heap [] := va_S.rf
  have hP : va_P D vwCl (w_xbook ky aX aB aP aT aR aK aH aG aS ax au ay am bsz bgp ber bxs bus bys bme) s.heap := hP
  have hl := lv_entry ([.ref aX, .int p0, .int p1]) (n := 3) (Nat.le_of_ble_eq_true rfl)
  rw [lg_entry_eq]
  generalize (lg_sl ([.ref aX, .int p0, .int p1]) ++ List.replicate (3 - (lg_sl ([.ref aX, .int p0, .int p1])).length) Slot.unset).toArray = ls at hl ⊢
  have hl : lv_has ls 3 [(0, .ref aX), (1, .int p0), (2, .int p1)] := hl
  have C : cx p s m c ([.ref aX, .int p0, .int p1]).toArray D ky A cX8_gap 3 wsX8_gap RX8 := ⟨hx, hb, hml, hown, hts, hK, hA⟩
  have hQ : ∀ (pc : Nat) (H : Heap) (locs : List Loc) (ls : Array Slot), decode cX8_gap pc = .ok (.ireturn, 1) → va_P D vwCl (w_xbook ky aX aB aP aT aR aK aH aG aS ax au ay am res.2.1 res.2.2.1 ber res.2.2.2.1 res.2.2.2.2.1 res.2.2.2.2.2.1 res.2.2.2.2.2.2) H → va_D A (w_xbook ky aX aB aP aT aR aK aH aG aS ax au ay am res.2.1 res.2.2.1 ber res.2.2.2.1 res.2.2.2.2.1 res.2.2.2.2.2.1 res.2.2.2.2.2.2) → va_S A s.heap H locs → W p l e rm_X8_gap s m ([.ref aX, .int p0, .int p1]).toArray below meth c H locs 0 0 (MQ below (va_Qi (S := Unit) (fun r _ => r = res.1) (fun _ t => va_P D vwCl (w_xbook ky aX aB aP aT aR aK aH aG aS ax au ay am res.2.1 res.2.2.1 ber res.2.2.2.1 res.2.2.2.2.1 res.2.2.2.2.2.1 res.2.2.2.2.2.2) t.heap ∧ va_K D vwCl (tyW ky) t ∧ va_D A (w_xbook ky aX aB aP aT aR aK aH aG aS ax au ay am res.2.1 res.2.2.1 ber res.2.2.2.1 res.2.2.2.2.1 res.2.2.2.2.2.1 res.2.2.2.2.2.2)) A) ([.ref aX, .int p0, .int p1]).toArray s 0 0 A) (F0 m pc ls [.int res.1]) := fun pc H locs ls hd hP hD hS => W.iret hx hb hr (fun t ht hW => ⟨⟨res.1, (), rfl, rfl, by rw [ht]; exact hP, va_K.moved hW.alike hK, hD⟩, hS.F ht⟩) hS.2.2 hd
  unfold f_X8_gap at hF
  refine lv_iload_n hx hb dX8_gap_0 rfl (lv_at hl 1 rfl) ?_
  refine lv_bipush (v := (99 : Int32)) hx hb dX8_gap_1 (by decide) ?_
  obtain ⟨r2, h1, hF⟩ := b1_s hF
  refine cl_si (As := [.int p0, .int (99 : Int32)]) (rest := []) ⟨hx, hb, hml, hown, hts⟩ hK hP hD hS hA (c_X8_isNear l D ky  _ N   p0 (99 : Int32) r2 h1) (va_cwS 2 hts gX8_gap_X8_isNear rfl rfl rfl (by decide +kernel) ⟨Nat.le_of_ble_eq_true rfl, Nat.le_of_ble_eq_true rfl⟩) rfl hl.1 (Nat.le_of_ble_eq_true rfl) dX8_gap_3 ⟨Nat.zero_le _, Nat.zero_le _⟩ (fun H locs hP hD hS => ?_)
  refine lv_if_eq (tgt := 18) hx hb dX8_gap_6 (by decide) (fun c3 => ?_) (fun c3 => ?_)
  · have hF := if_t c3 hF
    refine lv_iconst (v := (-1 : Int32)) hx hb dX8_gap_18 (by decide) ?_
    have hF := Option.some.inj hF
    subst hF
    exact hQ _ _ _ _ dX8_gap_19 hP hD hS
  · have hF := if_f c3 hF
    refine lv_iload_n hx hb dX8_gap_9 rfl (lv_at hl 2 rfl) ?_
    refine lv_bipush (v := (99 : Int32)) hx hb dX8_gap_10 (by decide) ?_
    obtain ⟨r5, h4, hF⟩ := b1_s hF
    refine cl_si (As := [.int p1, .int (99 : Int32)]) (rest := []) ⟨hx, hb, hml, hown, hts⟩ hK hP hD hS hA (c_X8_isNear l D ky  _ N   p1 (99 : Int32) r5 h4) (va_cwS 2 hts gX8_gap_X8_isNear rfl rfl rfl (by decide +kernel) ⟨Nat.le_of_ble_eq_true rfl, Nat.le_of_ble_eq_true rfl⟩) rfl hl.1 (Nat.le_of_ble_eq_true rfl) dX8_gap_12 ⟨Nat.zero_le _, Nat.zero_le _⟩ (fun H locs hP hD hS => ?_)
    refine lv_if_ne (tgt := 20) hx hb dX8_gap_15 (by decide) (fun c6 => ?_) (fun c6 => ?_)
    · have hF := if_f c6 hF
      refine lv_aload_n hx hb dX8_gap_20 rfl (lv_at hl 0 rfl) ?_
      refine va_get (D := D) (ci := 7) (v := .ref aB) (C := RX8) (T := TX8) (N := 8) hx hb hts iX8_gap_X8 hown hK hP 0 rfl rfl 0 (by decide) (hts _ kX8_gap_1) (fun _ h9 => h9) rfl dX8_gap_21 ?_
      refine lv_iload_n hx hb dX8_gap_24 rfl (lv_at hl 1 rfl) ?_
      refine lv_iload_n hx hb dX8_gap_25 rfl (lv_at hl 2 rfl) ?_
      refine lv_iconst (v := (0 : Int32)) hx hb dX8_gap_26 (by decide) ?_
      refine lv_iconst (v := (1 : Int32)) hx hb dX8_gap_27 (by decide) ?_
      obtain ⟨r8, v9, v10, v11, v12, v13, v14, h7, hF⟩ := b7_s hF
      refine cl_vi (As := [.int p0, .int p1, .int (0 : Int32), .int (1 : Int32)]) (rest := []) (w' := (w_xbook ky aX aB aP aT aR aK aH aG aS ax au ay am v9 v10 ber v11 v12 v13 v14)) ⟨hx, hb, hml, hown, hts⟩ hK hP hD hS hA (c_X0_add l D ky aB ax au ay am _ N  bsz bgp ber bxs bus bys bme p0 p1 (0 : Int32) (1 : Int32) r8 v9 v10 v11 v12 v13 v14 h7) (cwV 4 hts gX8_gap_X0_add rfl rfl rfl (by decide +kernel) ⟨Nat.le_of_ble_eq_true rfl, Nat.le_of_ble_eq_true rfl⟩) [1, 2, 3, 4, 5] [0] [0, 1, 2, 3, 4, 5] 0 0 rfl rfl rfl rfl (wr := [(aX, .inr (7, [.ref aB, .ref aP, .ref aT, .ref aR, .ref aK, .ref aH, .ref aG, .ref aS]))]) rfl (by decide) rfl rfl hl.1 (Nat.le_of_ble_eq_true rfl) dX8_gap_28 ⟨Nat.zero_le _, Nat.zero_le _⟩ (fun H locs hP hD hS => ?_)
      have hF := Option.some.inj hF
      subst hF
      exact hQ _ _ _ _ dX8_gap_31 hP hD hS
    · have hF := if_t c6 hF
      refine lv_iconst (v := (-1 : Int32)) hx hb dX8_gap_18 (by decide) ?_
      have hF := Option.some.inj hF
      subst hF
      exact hQ _ _ _ _ dX8_gap_19 hP hD hS
theorem c_X8_gap (l : Launch) (D : va_G) (ky : Nat → ClassId) (aX aB aP aT aR aK aH aG aS ax au ay am : Nat) (sz N : Nat)  (bsz : Int32) (bgp : Int32) (ber : Int32) (bxs : Nat → Int32) (bus : Nat → Int32) (bys : Nat → Int32) (bme : Nat → Int32) (p0 : Int32) (p1 : Int32) (rv : Int32) (bsz' : Int32) (bgp' : Int32) (bxs' : Nat → Int32) (bus' : Nat → Int32) (bys' : Nat → Int32) (bme' : Nat → Int32) (hF : f_X8_gap N p0 p1 bsz bgp ber bxs bus bys bme = some (rv, bsz', bgp', bxs', bus', bys', bme')) : MI l yX8_gap wsX8_gap rm_X8_gap D ky sz [.ref aX, .int p0, .int p1] (w_xbook ky aX aB aP aT aR aK aH aG aS ax au ay am bsz bgp ber bxs bus bys bme) (w_xbook ky aX aB aP aT aR aK aH aG aS ax au ay am bsz' bgp' ber bxs' bus' bys' bme') rv :=
  cr_X8_gap l D ky aX aB aP aT aR aK aH aG aS ax au ay am sz N bsz bgp ber bxs bus bys bme p0 p1 (rv, bsz', bgp', bxs', bus', bys', bme') hF
abbrev rm_X8_type : Room := { frames := 2, cells := 0, slots := 0, locals := 46 }
theorem iX8_type_X8 : ∀ w ∈ wsX80, w ∈ wsX8_type := by decide +kernel
theorem kX8_type_1 : (Cond.fieldLink RX8 26 "TwoLaws" "tape" "LTwoLaws$Tape;") ∈ wsX8_type := by decide +kernel
set_option maxHeartbeats 4000000 in
set_option maxRecDepth 100000 in
theorem cr_X8_type (l : Launch) (D : va_G) (ky : Nat → ClassId) (aX aB aP aT aR aK aH aG aS aTb aTn : Nat) (sz N : Nat)  (tle : Int32) (tga : Int32) (trr : Int32) (tat : Int32) (tfa : Int32) (tby : Nat → Int32) (tnu : Nat → Int32) (p0 : Int64) (p1 : Int32) (res : Int32 × Int32 × (Nat → Int32)) (hF : f_X8_type N p0 p1 tle tby = some res) : MI l yX8_type wsX8_type rm_X8_type D ky sz [.ref aX, .long p0, .int p1] (w_xtape ky aX aB aP aT aR aK aH aG aS aTb aTn tle tga trr tat tfa tby tnu) (w_xtape ky aX aB aP aT aR aK aH aG aS aTb aTn res.2.1 tga trr tat tfa res.2.2 tnu) res.1 := by
  unfold MI
  refine Met.ofW (cc := cX8_type) (maxL := 4) (ret := (some .int)) (by decide) rfl ?_
  intro p e s m args below meth c s₁ B hml hv
  obtain ⟨rfl, hsz, hP, hK, hD0⟩ := hv
  have hx := B.exec
  have hb := B.bytes
  have hr := B.returns
  have hts := atoms_spec (ws := wsX8_type) B.pre
  have hown : s.vm.findClass RX8 = some m.cls := findClass_of_methodNamed B.named
  have hlocks := B.notSynchronized
  subst hsz
  have hD := hD0.self (sz := s.heap.size)
  generalize hAe : va_A (w_xtape ky aX aB aP aT aR aK aH aG aS aTb aTn tle tga trr tat tfa tby tnu) s.heap.size = A at hD ⊢
  have hA : ∀ q : Nat, s.heap.size ≤ q → A q := fun q h => by rw [← hAe]; exact Or.inr h
  have hS : va_S A s.heap s.heap [] := va_S.rf
  have hP : va_P D vwCl (w_xtape ky aX aB aP aT aR aK aH aG aS aTb aTn tle tga trr tat tfa tby tnu) s.heap := hP
  have hl := lv_entry ([.ref aX, .long p0, .int p1]) (n := 4) (Nat.le_of_ble_eq_true rfl)
  rw [lg_entry_eq]
  generalize (lg_sl ([.ref aX, .long p0, .int p1]) ++ List.replicate (4 - (lg_sl ([.ref aX, .long p0, .int p1])).length) Slot.unset).toArray = ls at hl ⊢
  have hl : lv_has ls 4 [(0, .ref aX), (1, .long p0), (3, .int p1)] := hl
  have C : cx p s m c ([.ref aX, .long p0, .int p1]).toArray D ky A cX8_type 4 wsX8_type RX8 := ⟨hx, hb, hml, hown, hts, hK, hA⟩
  have hQ : ∀ (pc : Nat) (H : Heap) (locs : List Loc) (ls : Array Slot), decode cX8_type pc = .ok (.ireturn, 1) → va_P D vwCl (w_xtape ky aX aB aP aT aR aK aH aG aS aTb aTn res.2.1 tga trr tat tfa res.2.2 tnu) H → va_D A (w_xtape ky aX aB aP aT aR aK aH aG aS aTb aTn res.2.1 tga trr tat tfa res.2.2 tnu) → va_S A s.heap H locs → W p l e rm_X8_type s m ([.ref aX, .long p0, .int p1]).toArray below meth c H locs 0 0 (MQ below (va_Qi (S := Unit) (fun r _ => r = res.1) (fun _ t => va_P D vwCl (w_xtape ky aX aB aP aT aR aK aH aG aS aTb aTn res.2.1 tga trr tat tfa res.2.2 tnu) t.heap ∧ va_K D vwCl (tyW ky) t ∧ va_D A (w_xtape ky aX aB aP aT aR aK aH aG aS aTb aTn res.2.1 tga trr tat tfa res.2.2 tnu)) A) ([.ref aX, .long p0, .int p1]).toArray s 0 0 A) (F0 m pc ls [.int res.1]) := fun pc H locs ls hd hP hD hS => W.iret hx hb hr (fun t ht hW => ⟨⟨res.1, (), rfl, rfl, by rw [ht]; exact hP, va_K.moved hW.alike hK, hD⟩, hS.F ht⟩) hS.2.2 hd
  unfold f_X8_type at hF
  refine lv_aload_n hx hb dX8_type_0 rfl (lv_at hl 0 rfl) ?_
  refine va_get (D := D) (ci := 7) (v := .ref aT) (C := RX8) (T := TX8) (N := 8) hx hb hts iX8_type_X8 hown hK hP 0 rfl rfl 2 (by decide) (hts _ kX8_type_1) (fun _ h9 => h9) rfl dX8_type_1 ?_
  refine lv_lload_n hx hb dX8_type_4 rfl (lv_at hl 1 rfl) ?_
  refine lv_iload_n hx hb dX8_type_5 rfl (lv_at hl 2 rfl) ?_
  obtain ⟨r2, v3, v4, h1, hF⟩ := b3_s hF
  refine cl_vi (As := [.long p0, .int p1]) (rest := []) (w' := (w_xtape ky aX aB aP aT aR aK aH aG aS aTb aTn v3 tga trr tat tfa v4 tnu)) ⟨hx, hb, hml, hown, hts⟩ hK hP hD hS hA (c_X6_append l D ky aT aTb aTn _ N  tle tga trr tat tfa tby tnu p0 p1 r2 v3 v4 h1) (cwV 2 hts gX8_type_X6_append rfl rfl rfl (by decide +kernel) ⟨Nat.le_of_ble_eq_true rfl, Nat.le_of_ble_eq_true rfl⟩) [1, 2, 3] [0] [0, 1, 2, 3] 0 5 rfl rfl rfl rfl (wr := [(aX, .inr (7, [.ref aB, .ref aP, .ref aT, .ref aR, .ref aK, .ref aH, .ref aG, .ref aS]))]) rfl (by decide) rfl rfl hl.1 (Nat.le_of_ble_eq_true rfl) dX8_type_6 ⟨Nat.zero_le _, Nat.zero_le _⟩ (fun H locs hP hD hS => ?_)
  have hF := Option.some.inj hF
  subst hF
  exact hQ _ _ _ _ dX8_type_9 hP hD hS
theorem c_X8_type (l : Launch) (D : va_G) (ky : Nat → ClassId) (aX aB aP aT aR aK aH aG aS aTb aTn : Nat) (sz N : Nat)  (tle : Int32) (tga : Int32) (trr : Int32) (tat : Int32) (tfa : Int32) (tby : Nat → Int32) (tnu : Nat → Int32) (p0 : Int64) (p1 : Int32) (rv : Int32) (tle' : Int32) (tby' : Nat → Int32) (hF : f_X8_type N p0 p1 tle tby = some (rv, tle', tby')) : MI l yX8_type wsX8_type rm_X8_type D ky sz [.ref aX, .long p0, .int p1] (w_xtape ky aX aB aP aT aR aK aH aG aS aTb aTn tle tga trr tat tfa tby tnu) (w_xtape ky aX aB aP aT aR aK aH aG aS aTb aTn tle' tga trr tat tfa tby' tnu) rv :=
  cr_X8_type l D ky aX aB aP aT aR aK aH aG aS aTb aTn sz N tle tga trr tat tfa tby tnu p0 p1 (rv, tle', tby') hF
abbrev rm_X8_text : Room := { frames := 6, cells := 0, slots := 0, locals := 133 }
theorem iX8_text_X8 : ∀ w ∈ wsX80, w ∈ wsX8_text := by decide +kernel
theorem kX8_text_1 : (Cond.fieldLink RX8 26 "TwoLaws" "tape" "LTwoLaws$Tape;") ∈ wsX8_text := by decide +kernel
theorem kX8_text_2 : (Cond.fieldLink RX8 10 "TwoLaws" "book" "LTwoLaws$Book;") ∈ wsX8_text := by decide +kernel
set_option maxHeartbeats 4000000 in
set_option maxRecDepth 100000 in
theorem w_X8_text_17 {p : Program} {l : Launch} {e : Env} {s : State} {m : MethodId} {args : Array Value} {below : List Frame} {meth : Method} {c : Code} {Q : State → Prop} {A : Nat → Prop} {D : va_G} {ky : Nat → ClassId} {aX aB aP aT aR aK aH aG aS aTb aTn ax au ay am : Nat} {tby : Nat → Int32} {ber : Int32} (N : Nat) (C : cx p s m c args D ky A cX8_text 3 wsX8_text RX8) (res : Int32 × Int32 × Int32 × Int32 × Int32 × Int32 × (Nat → Int32) × Int32 × Int32 × (Nat → Int32) × (Nat → Int32) × (Nat → Int32) × (Nat → Int32)) (hQ : ∀ (pc : Nat) (H : Heap) (locs : List Loc) (ls : Array Slot), decode cX8_text pc = .ok (.ireturn, 1) → va_P D vwCl (w_xtapebook ky aX aB aP aT aR aK aH aG aS aTb aTn ax au ay am res.2.1 res.2.2.1 res.2.2.2.1 res.2.2.2.2.1 res.2.2.2.2.2.1 tby res.2.2.2.2.2.2.1 res.2.2.2.2.2.2.2.1 res.2.2.2.2.2.2.2.2.1 ber res.2.2.2.2.2.2.2.2.2.1 res.2.2.2.2.2.2.2.2.2.2.1 res.2.2.2.2.2.2.2.2.2.2.2.1 res.2.2.2.2.2.2.2.2.2.2.2.2) H → va_D A (w_xtapebook ky aX aB aP aT aR aK aH aG aS aTb aTn ax au ay am res.2.1 res.2.2.1 res.2.2.2.1 res.2.2.2.2.1 res.2.2.2.2.2.1 tby res.2.2.2.2.2.2.1 res.2.2.2.2.2.2.2.1 res.2.2.2.2.2.2.2.2.1 ber res.2.2.2.2.2.2.2.2.2.1 res.2.2.2.2.2.2.2.2.2.2.1 res.2.2.2.2.2.2.2.2.2.2.2.1 res.2.2.2.2.2.2.2.2.2.2.2.2) → va_S A s.heap H locs → W p l e rm_X8_text s m args below meth c H locs 0 0 Q (F0 m pc ls [.int res.1])) (l1 : Int32) (tle : Int32) (tga : Int32) (trr : Int32) (tat : Int32) (tfa : Int32) (tnu : Nat → Int32) : ∀ (n : Nat) (l2 : Int32) (bsz : Int32) (bgp : Int32) (bxs : Nat → Int32) (bus : Nat → Int32) (bys : Nat → Int32) (bme : Nat → Int32), f_X8_text_17 N l1 tle tga trr tat tfa tnu ber n l2 bsz bgp bxs bus bys bme = some res → ∀ (H : Heap) (locs : List Loc) (ls : Array Slot), va_P D vwCl (w_xtapebook ky aX aB aP aT aR aK aH aG aS aTb aTn ax au ay am tle tga trr tat tfa tby tnu bsz bgp ber bxs bus bys bme) H → va_D A (w_xtapebook ky aX aB aP aT aR aK aH aG aS aTb aTn ax au ay am tle tga trr tat tfa tby tnu bsz bgp ber bxs bus bys bme) → va_S A s.heap H locs → lv_has ls 3 [(0, .ref aX), (1, .int l1), (2, .int l2)] → W p l e rm_X8_text s m args below meth c H locs 0 0 Q (F0 m 17 ls []) := by
  obtain ⟨hx, hb, hml, hown, hts, hK, hA⟩ := id C
  intro n
  induction n with
  | zero =>
    intro l2 bsz bgp bxs bus bys bme hF
    cases hF
  | succ n ih =>
    intro l2 bsz bgp bxs bus bys bme hF H locs ls hP hD hS hl
    have hF : b_X8_text_17 N l1 tle tga trr tat tfa tnu ber (f_X8_text_17 N l1 tle tga trr tat tfa tnu ber n) l2 bsz bgp bxs bus bys bme = some res := hF
    unfold b_X8_text_17 at hF
    refine lv_iload_n hx hb dX8_text_17 rfl (lv_at hl 2 rfl) ?_
    refine lv_iload_n hx hb dX8_text_18 rfl (lv_at hl 1 rfl) ?_
    refine lv_icmp_ge (tgt := 40) hx hb dX8_text_19 (by decide) (fun c11 => ?_) (fun c11 => ?_)
    · have hF := if_t c11 hF
      refine lv_iload_n hx hb dX8_text_40 rfl (lv_at hl 1 rfl) ?_
      have hF := Option.some.inj hF
      subst hF
      exact hQ _ H _ _ dX8_text_41 hP hD hS
    · have hF := if_f c11 hF
      refine lv_aload_n hx hb dX8_text_22 rfl (lv_at hl 0 rfl) ?_
      refine va_get (D := D) (ci := 7) (v := .ref aT) (C := RX8) (T := TX8) (N := 8) hx hb hts iX8_text_X8 hown hK hP 0 rfl rfl 2 (by decide) (hts _ kX8_text_1) (fun _ h9 => h9) rfl dX8_text_23 ?_
      refine lv_iload_n hx hb dX8_text_26 rfl (lv_at hl 2 rfl) ?_
      refine lv_aload_n hx hb dX8_text_27 rfl (lv_at hl 0 rfl) ?_
      refine va_get (D := D) (ci := 7) (v := .ref aB) (C := RX8) (T := TX8) (N := 8) hx hb hts iX8_text_X8 hown hK hP 0 rfl rfl 0 (by decide) (hts _ kX8_text_2) (fun _ h9 => h9) rfl dX8_text_28 ?_
      obtain ⟨v13, v14, v15, v16, v17, v18, h12, hF⟩ := b6_s hF
      refine cl_vv (As := [.int l2, .ref aB]) (rest := []) (w' := (w_xtapebook ky aX aB aP aT aR aK aH aG aS aTb aTn ax au ay am tle tga trr tat tfa tby tnu v13 v14 ber v15 v16 v17 v18)) ⟨hx, hb, hml, hown, hts⟩ hK hP hD hS hA (c_X6_hand l D ky aT aTb aTn aB ax au ay am _ N  tle tga trr tat tfa tby tnu bsz bgp ber bxs bus bys bme l2 v13 v14 v15 v16 v17 v18 h12) (cwV 2 hts gX8_text_X6_hand rfl rfl rfl (by decide +kernel) ⟨Nat.le_of_ble_eq_true rfl, Nat.le_of_ble_eq_true rfl⟩) [1, 2, 3, 4, 5, 6, 7, 8] [0] [0, 1, 2, 3, 4, 5, 6, 7, 8] 0 5 rfl rfl rfl rfl (wr := [(aX, .inr (7, [.ref aB, .ref aP, .ref aT, .ref aR, .ref aK, .ref aH, .ref aG, .ref aS]))]) rfl (by decide) rfl rfl hl.1 (Nat.le_of_ble_eq_true rfl) dX8_text_31 ⟨Nat.zero_le _, Nat.zero_le _⟩ (fun H locs hP hD hS => ?_)
      refine lv_iinc (v := (l2 + (1 : Int32))) (lv' := [(2, .int (l2 + (1 : Int32))), (0, .ref aX), (1, .int l1)]) hx hb dX8_text_34 hl (k := 2) rfl rfl (by decide) rfl (fun ls hl => ?_)
      refine lv_goto (tgt := 17) hx hb dX8_text_37 (by decide) ?_
      exact ih (l2 + (1 : Int32)) v13 v14 v15 v16 v17 v18 hF H _ _ hP hD hS (lv_sub hl [1, 2, 0] rfl)
set_option maxHeartbeats 4000000 in
set_option maxRecDepth 100000 in
theorem cr_X8_text (l : Launch) (D : va_G) (ky : Nat → ClassId) (aX aB aP aT aR aK aH aG aS aTb aTn ax au ay am : Nat) (sz N : Nat)  (tle : Int32) (tga : Int32) (trr : Int32) (tat : Int32) (tfa : Int32) (tby : Nat → Int32) (tnu : Nat → Int32) (bsz : Int32) (bgp : Int32) (ber : Int32) (bxs : Nat → Int32) (bus : Nat → Int32) (bys : Nat → Int32) (bme : Nat → Int32)  (res : Int32 × Int32 × Int32 × Int32 × Int32 × Int32 × (Nat → Int32) × Int32 × Int32 × (Nat → Int32) × (Nat → Int32) × (Nat → Int32) × (Nat → Int32)) (hF : f_X8_text N tle tfa tby tnu bsz bgp ber bxs bus bys bme = some res) : MI l yX8_text wsX8_text rm_X8_text D ky sz [.ref aX] (w_xtapebook ky aX aB aP aT aR aK aH aG aS aTb aTn ax au ay am tle tga trr tat tfa tby tnu bsz bgp ber bxs bus bys bme) (w_xtapebook ky aX aB aP aT aR aK aH aG aS aTb aTn ax au ay am res.2.1 res.2.2.1 res.2.2.2.1 res.2.2.2.2.1 res.2.2.2.2.2.1 tby res.2.2.2.2.2.2.1 res.2.2.2.2.2.2.2.1 res.2.2.2.2.2.2.2.2.1 ber res.2.2.2.2.2.2.2.2.2.1 res.2.2.2.2.2.2.2.2.2.2.1 res.2.2.2.2.2.2.2.2.2.2.2.1 res.2.2.2.2.2.2.2.2.2.2.2.2) res.1 := by
  unfold MI
  refine Met.ofW (cc := cX8_text) (maxL := 3) (ret := (some .int)) (by decide) rfl ?_
  intro p e s m args below meth c s₁ B hml hv
  obtain ⟨rfl, hsz, hP, hK, hD0⟩ := hv
  have hx := B.exec
  have hb := B.bytes
  have hr := B.returns
  have hts := atoms_spec (ws := wsX8_text) B.pre
  have hown : s.vm.findClass RX8 = some m.cls := findClass_of_methodNamed B.named
  have hlocks := B.notSynchronized
  subst hsz
  have hD := hD0.self (sz := s.heap.size)
  generalize hAe : va_A (w_xtapebook ky aX aB aP aT aR aK aH aG aS aTb aTn ax au ay am tle tga trr tat tfa tby tnu bsz bgp ber bxs bus bys bme) s.heap.size = A at hD ⊢
  have hA : ∀ q : Nat, s.heap.size ≤ q → A q := fun q h => by rw [← hAe]; exact Or.inr h
  have hS : va_S A s.heap s.heap [] := va_S.rf
  have hP : va_P D vwCl (w_xtapebook ky aX aB aP aT aR aK aH aG aS aTb aTn ax au ay am tle tga trr tat tfa tby tnu bsz bgp ber bxs bus bys bme) s.heap := hP
  have hl := lv_entry ([.ref aX]) (n := 3) (Nat.le_of_ble_eq_true rfl)
  rw [lg_entry_eq]
  generalize (lg_sl ([.ref aX]) ++ List.replicate (3 - (lg_sl ([.ref aX])).length) Slot.unset).toArray = ls at hl ⊢
  have hl : lv_has ls 3 [(0, .ref aX)] := hl
  have C : cx p s m c ([.ref aX]).toArray D ky A cX8_text 3 wsX8_text RX8 := ⟨hx, hb, hml, hown, hts, hK, hA⟩
  have hQ : ∀ (pc : Nat) (H : Heap) (locs : List Loc) (ls : Array Slot), decode cX8_text pc = .ok (.ireturn, 1) → va_P D vwCl (w_xtapebook ky aX aB aP aT aR aK aH aG aS aTb aTn ax au ay am res.2.1 res.2.2.1 res.2.2.2.1 res.2.2.2.2.1 res.2.2.2.2.2.1 tby res.2.2.2.2.2.2.1 res.2.2.2.2.2.2.2.1 res.2.2.2.2.2.2.2.2.1 ber res.2.2.2.2.2.2.2.2.2.1 res.2.2.2.2.2.2.2.2.2.2.1 res.2.2.2.2.2.2.2.2.2.2.2.1 res.2.2.2.2.2.2.2.2.2.2.2.2) H → va_D A (w_xtapebook ky aX aB aP aT aR aK aH aG aS aTb aTn ax au ay am res.2.1 res.2.2.1 res.2.2.2.1 res.2.2.2.2.1 res.2.2.2.2.2.1 tby res.2.2.2.2.2.2.1 res.2.2.2.2.2.2.2.1 res.2.2.2.2.2.2.2.2.1 ber res.2.2.2.2.2.2.2.2.2.1 res.2.2.2.2.2.2.2.2.2.2.1 res.2.2.2.2.2.2.2.2.2.2.2.1 res.2.2.2.2.2.2.2.2.2.2.2.2) → va_S A s.heap H locs → W p l e rm_X8_text s m ([.ref aX]).toArray below meth c H locs 0 0 (MQ below (va_Qi (S := Unit) (fun r _ => r = res.1) (fun _ t => va_P D vwCl (w_xtapebook ky aX aB aP aT aR aK aH aG aS aTb aTn ax au ay am res.2.1 res.2.2.1 res.2.2.2.1 res.2.2.2.2.1 res.2.2.2.2.2.1 tby res.2.2.2.2.2.2.1 res.2.2.2.2.2.2.2.1 res.2.2.2.2.2.2.2.2.1 ber res.2.2.2.2.2.2.2.2.2.1 res.2.2.2.2.2.2.2.2.2.2.1 res.2.2.2.2.2.2.2.2.2.2.2.1 res.2.2.2.2.2.2.2.2.2.2.2.2) t.heap ∧ va_K D vwCl (tyW ky) t ∧ va_D A (w_xtapebook ky aX aB aP aT aR aK aH aG aS aTb aTn ax au ay am res.2.1 res.2.2.1 res.2.2.2.1 res.2.2.2.2.1 res.2.2.2.2.2.1 tby res.2.2.2.2.2.2.1 res.2.2.2.2.2.2.2.1 res.2.2.2.2.2.2.2.2.1 ber res.2.2.2.2.2.2.2.2.2.1 res.2.2.2.2.2.2.2.2.2.2.1 res.2.2.2.2.2.2.2.2.2.2.2.1 res.2.2.2.2.2.2.2.2.2.2.2.2)) A) ([.ref aX]).toArray s 0 0 A) (F0 m pc ls [.int res.1]) := fun pc H locs ls hd hP hD hS => W.iret hx hb hr (fun t ht hW => ⟨⟨res.1, (), rfl, rfl, by rw [ht]; exact hP, va_K.moved hW.alike hK, hD⟩, hS.F ht⟩) hS.2.2 hd
  unfold f_X8_text at hF
  refine lv_aload_n hx hb dX8_text_0 rfl (lv_at hl 0 rfl) ?_
  refine va_get (D := D) (ci := 7) (v := .ref aT) (C := RX8) (T := TX8) (N := 8) hx hb hts iX8_text_X8 hown hK hP 0 rfl rfl 2 (by decide) (hts _ kX8_text_1) (fun _ h9 => h9) rfl dX8_text_1 ?_
  refine lv_aload_n hx hb dX8_text_4 rfl (lv_at hl 0 rfl) ?_
  refine va_get (D := D) (ci := 7) (v := .ref aB) (C := RX8) (T := TX8) (N := 8) hx hb hts iX8_text_X8 hown hK hP 0 rfl rfl 0 (by decide) (hts _ kX8_text_2) (fun _ h9 => h9) rfl dX8_text_5 ?_
  obtain ⟨r2, h1, hF⟩ := b1_s hF
  refine cl_vi (As := []) (rest := [.ref aT]) (w' := (w_xtapebook ky aX aB aP aT aR aK aH aG aS aTb aTn ax au ay am tle tga trr tat tfa tby tnu bsz bgp ber bxs bus bys bme)) ⟨hx, hb, hml, hown, hts⟩ hK hP hD hS hA (c_X0_room l D ky aB ax au ay am _ N  bsz bgp ber bxs bus bys bme  r2 h1) (cwV 0 hts gX8_text_X0_room rfl rfl rfl (by decide +kernel) ⟨Nat.le_of_ble_eq_true rfl, Nat.le_of_ble_eq_true rfl⟩) [4, 5, 6, 7, 8] [0, 1, 2, 3] [0, 1, 2, 3, 4, 5, 6, 7, 8] 0 0 rfl rfl rfl rfl (wr := [(aX, .inr (7, [.ref aB, .ref aP, .ref aT, .ref aR, .ref aK, .ref aH, .ref aG, .ref aS])), (aT, .inr (5, [.ref aTb, .int tle, .ref aTn, .int tga, .int trr, .int tat, .int tfa])), (aTb, .inl (ky 0, 120, .inl tby)), (aTn, .inl (ky 0, 36, .inl tnu))]) rfl (by decide) rfl rfl hl.1 (Nat.le_of_ble_eq_true rfl) dX8_text_8 ⟨Nat.zero_le _, Nat.zero_le _⟩ (fun H locs hP hD hS => ?_)
  obtain ⟨r4, v5, v6, v7, v8, v9, v10, h3, hF⟩ := b7_s hF
  refine cl_vi (As := [.int r2]) (rest := []) (w' := (w_xtapebook ky aX aB aP aT aR aK aH aG aS aTb aTn ax au ay am v5 v6 v7 v8 v9 tby v10 bsz bgp ber bxs bus bys bme)) ⟨hx, hb, hml, hown, hts⟩ hK hP hD hS hA (c_X6_read l D ky aT aTb aTn _ N  tle tga trr tat tfa tby tnu r2 r4 v5 v6 v7 v8 v9 v10 h3) (cwV 1 hts gX8_text_X6_read rfl rfl rfl (by decide +kernel) ⟨Nat.le_of_ble_eq_true rfl, Nat.le_of_ble_eq_true rfl⟩) [1, 2, 3] [0, 4, 5, 6, 7, 8] [0, 6, 7, 8, 1, 2, 3, 4, 5] 0 5 rfl rfl rfl rfl (wr := [(aX, .inr (7, [.ref aB, .ref aP, .ref aT, .ref aR, .ref aK, .ref aH, .ref aG, .ref aS])), (aB, .inr (0, [.ref ax, .ref au, .ref ay, .ref am, .int bsz, .int bgp, .int ber])), (ax, .inl (ky 0, 12, .inl bxs)), (au, .inl (ky 0, 12, .inl bus)), (ay, .inl (ky 0, 12, .inl bys)), (am, .inl (ky 0, 289, .inl bme))]) rfl (by decide) rfl rfl hl.1 (Nat.le_of_ble_eq_true rfl) dX8_text_11 ⟨Nat.zero_le _, Nat.zero_le _⟩ (fun H locs hP hD hS => ?_)
  refine lv_istore_n (lv' := [(1, .int r4), (0, .ref aX)]) hx hb dX8_text_14 rfl hl (by decide) rfl (fun ls hl => ?_)
  refine lv_iconst (v := (0 : Int32)) hx hb dX8_text_15 (by decide) ?_
  refine lv_istore_n (lv' := [(2, .int (0 : Int32)), (1, .int r4), (0, .ref aX)]) hx hb dX8_text_16 rfl hl (by decide) rfl (fun ls hl => ?_)
  exact w_X8_text_17 N C res hQ r4 v5 v6 v7 v8 v9 v10 N (0 : Int32) bsz bgp bxs bus bys bme hF _ _ _ hP hD hS (lv_sub hl [2, 1, 0] rfl)
theorem c_X8_text (l : Launch) (D : va_G) (ky : Nat → ClassId) (aX aB aP aT aR aK aH aG aS aTb aTn ax au ay am : Nat) (sz N : Nat)  (tle : Int32) (tga : Int32) (trr : Int32) (tat : Int32) (tfa : Int32) (tby : Nat → Int32) (tnu : Nat → Int32) (bsz : Int32) (bgp : Int32) (ber : Int32) (bxs : Nat → Int32) (bus : Nat → Int32) (bys : Nat → Int32) (bme : Nat → Int32)  (rv : Int32) (tle' : Int32) (tga' : Int32) (trr' : Int32) (tat' : Int32) (tfa' : Int32) (tnu' : Nat → Int32) (bsz' : Int32) (bgp' : Int32) (bxs' : Nat → Int32) (bus' : Nat → Int32) (bys' : Nat → Int32) (bme' : Nat → Int32) (hF : f_X8_text N tle tfa tby tnu bsz bgp ber bxs bus bys bme = some (rv, tle', tga', trr', tat', tfa', tnu', bsz', bgp', bxs', bus', bys', bme')) : MI l yX8_text wsX8_text rm_X8_text D ky sz [.ref aX] (w_xtapebook ky aX aB aP aT aR aK aH aG aS aTb aTn ax au ay am tle tga trr tat tfa tby tnu bsz bgp ber bxs bus bys bme) (w_xtapebook ky aX aB aP aT aR aK aH aG aS aTb aTn ax au ay am tle' tga' trr' tat' tfa' tby tnu' bsz' bgp' ber bxs' bus' bys' bme') rv :=
  cr_X8_text l D ky aX aB aP aT aR aK aH aG aS aTb aTn ax au ay am sz N tle tga trr tat tfa tby tnu bsz bgp ber bxs bus bys bme (rv, tle', tga', trr', tat', tfa', tnu', bsz', bgp', bxs', bus', bys', bme') hF
abbrev rm_X8_told : Room := { frames := 2, cells := 0, slots := 0, locals := 42 }
theorem iX8_told_X8 : ∀ w ∈ wsX80, w ∈ wsX8_told := by decide +kernel
theorem kX8_told_1 : (Cond.fieldLink RX8 10 "TwoLaws" "book" "LTwoLaws$Book;") ∈ wsX8_told := by decide +kernel
theorem kX8_told_2 : (Cond.constant RX8 107 (-1000001)) ∈ wsX8_told := by decide +kernel
theorem kX8_told_3 : (Cond.constant RX8 117 (-1000004)) ∈ wsX8_told := by decide +kernel
set_option maxHeartbeats 4000000 in
set_option maxRecDepth 100000 in
theorem cr_X8_told (l : Launch) (D : va_G) (ky : Nat → ClassId) (aX aB aP aT aR aK aH aG aS ax au ay am : Nat) (sz N : Nat)  (bsz : Int32) (bgp : Int32) (ber : Int32) (bxs : Nat → Int32) (bus : Nat → Int32) (bys : Nat → Int32) (bme : Nat → Int32) (p0 : Int32) (p1 : Int32) (res : Int32) (hF : f_X8_told N p0 p1 bsz bgp bxs bus bys = some res) : MI l yX8_told wsX8_told rm_X8_told D ky sz [.ref aX, .int p0, .int p1] (w_xbook ky aX aB aP aT aR aK aH aG aS ax au ay am bsz bgp ber bxs bus bys bme) (w_xbook ky aX aB aP aT aR aK aH aG aS ax au ay am bsz bgp ber bxs bus bys bme) res := by
  unfold MI
  refine Met.ofW (cc := cX8_told) (maxL := 3) (ret := (some .int)) (by decide) rfl ?_
  intro p e s m args below meth c s₁ B hml hv
  obtain ⟨rfl, hsz, hP, hK, hD0⟩ := hv
  have hx := B.exec
  have hb := B.bytes
  have hr := B.returns
  have hts := atoms_spec (ws := wsX8_told) B.pre
  have hown : s.vm.findClass RX8 = some m.cls := findClass_of_methodNamed B.named
  have hlocks := B.notSynchronized
  subst hsz
  have hD := hD0.self (sz := s.heap.size)
  generalize hAe : va_A (w_xbook ky aX aB aP aT aR aK aH aG aS ax au ay am bsz bgp ber bxs bus bys bme) s.heap.size = A at hD ⊢
  have hA : ∀ q : Nat, s.heap.size ≤ q → A q := fun q h => by rw [← hAe]; exact Or.inr h
  have hS : va_S A s.heap s.heap [] := va_S.rf
  have hP : va_P D vwCl (w_xbook ky aX aB aP aT aR aK aH aG aS ax au ay am bsz bgp ber bxs bus bys bme) s.heap := hP
  have hl := lv_entry ([.ref aX, .int p0, .int p1]) (n := 3) (Nat.le_of_ble_eq_true rfl)
  rw [lg_entry_eq]
  generalize (lg_sl ([.ref aX, .int p0, .int p1]) ++ List.replicate (3 - (lg_sl ([.ref aX, .int p0, .int p1])).length) Slot.unset).toArray = ls at hl ⊢
  have hl : lv_has ls 3 [(0, .ref aX), (1, .int p0), (2, .int p1)] := hl
  have C : cx p s m c ([.ref aX, .int p0, .int p1]).toArray D ky A cX8_told 3 wsX8_told RX8 := ⟨hx, hb, hml, hown, hts, hK, hA⟩
  have hQ : ∀ (pc : Nat) (H : Heap) (locs : List Loc) (ls : Array Slot), decode cX8_told pc = .ok (.ireturn, 1) → va_P D vwCl (w_xbook ky aX aB aP aT aR aK aH aG aS ax au ay am bsz bgp ber bxs bus bys bme) H → va_D A (w_xbook ky aX aB aP aT aR aK aH aG aS ax au ay am bsz bgp ber bxs bus bys bme) → va_S A s.heap H locs → W p l e rm_X8_told s m ([.ref aX, .int p0, .int p1]).toArray below meth c H locs 0 0 (MQ below (va_Qi (S := Unit) (fun r _ => r = res) (fun _ t => va_P D vwCl (w_xbook ky aX aB aP aT aR aK aH aG aS ax au ay am bsz bgp ber bxs bus bys bme) t.heap ∧ va_K D vwCl (tyW ky) t ∧ va_D A (w_xbook ky aX aB aP aT aR aK aH aG aS ax au ay am bsz bgp ber bxs bus bys bme)) A) ([.ref aX, .int p0, .int p1]).toArray s 0 0 A) (F0 m pc ls [.int res]) := fun pc H locs ls hd hP hD hS => W.iret hx hb hr (fun t ht hW => ⟨⟨res, (), rfl, rfl, by rw [ht]; exact hP, va_K.moved hW.alike hK, hD⟩, hS.F ht⟩) hS.2.2 hd
  unfold f_X8_told at hF
  refine lv_aload_n hx hb dX8_told_0 rfl (lv_at hl 0 rfl) ?_
  refine va_get (D := D) (ci := 7) (v := .ref aB) (C := RX8) (T := TX8) (N := 8) hx hb hts iX8_told_X8 hown hK hP 0 rfl rfl 0 (by decide) (hts _ kX8_told_1) (fun _ h9 => h9) rfl dX8_told_1 ?_
  refine lv_iload_n hx hb dX8_told_4 rfl (lv_at hl 1 rfl) ?_
  obtain ⟨r2, h1, hF⟩ := b1_s hF
  refine cl_vi (As := [.int p0]) (rest := []) (w' := (w_xbook ky aX aB aP aT aR aK aH aG aS ax au ay am bsz bgp ber bxs bus bys bme)) ⟨hx, hb, hml, hown, hts⟩ hK hP hD hS hA (c_X0_has l D ky aB ax au ay am _ N  bsz bgp ber bxs bus bys bme p0 r2 h1) (cwV 1 hts gX8_told_X0_has rfl rfl rfl (by decide +kernel) ⟨Nat.le_of_ble_eq_true rfl, Nat.le_of_ble_eq_true rfl⟩) [1, 2, 3, 4, 5] [0] [0, 1, 2, 3, 4, 5] 0 0 rfl rfl rfl rfl (wr := [(aX, .inr (7, [.ref aB, .ref aP, .ref aT, .ref aR, .ref aK, .ref aH, .ref aG, .ref aS]))]) rfl (by decide) rfl rfl hl.1 (Nat.le_of_ble_eq_true rfl) dX8_told_5 ⟨Nat.zero_le _, Nat.zero_le _⟩ (fun H locs hP hD hS => ?_)
  refine lv_if_eq (tgt := 20) hx hb dX8_told_8 (by decide) (fun c3 => ?_) (fun c3 => ?_)
  · have hF := if_t c3 hF
    refine lv_ldc hx hb hown (hts _ kX8_told_2) dX8_told_20 ?_
    have hF := Option.some.inj hF
    subst hF
    exact hQ _ _ _ _ dX8_told_22 hP hD hS
  · have hF := if_f c3 hF
    refine lv_iload_n hx hb dX8_told_11 rfl (lv_at hl 2 rfl) ?_
    refine lv_if_lt (tgt := 20) hx hb dX8_told_12 (by decide) (fun c4 => ?_) (fun c4 => ?_)
    · have hF := if_t c4 hF
      refine lv_ldc hx hb hown (hts _ kX8_told_2) dX8_told_20 ?_
      have hF := Option.some.inj hF
      subst hF
      exact hQ _ _ _ _ dX8_told_22 hP hD hS
    · have hF := if_f c4 hF
      refine lv_iload_n hx hb dX8_told_15 rfl (lv_at hl 2 rfl) ?_
      refine lv_iconst (v := (2 : Int32)) hx hb dX8_told_16 (by decide) ?_
      refine lv_icmp_le (tgt := 23) hx hb dX8_told_17 (by decide) (fun c5 => ?_) (fun c5 => ?_)
      · have hF := if_t c5 hF
        refine lv_iload_n hx hb dX8_told_23 rfl (lv_at hl 2 rfl) ?_
        refine lv_if_ne (tgt := 36) hx hb dX8_told_24 (by decide) (fun c6 => ?_) (fun c6 => ?_)
        · have hF := if_f c6 hF
          refine lv_iload_n hx hb dX8_told_36 rfl (lv_at hl 2 rfl) ?_
          refine lv_iconst (v := (1 : Int32)) hx hb dX8_told_37 (by decide) ?_
          refine lv_icmp_ne (tgt := 50) hx hb dX8_told_38 (by decide) (fun c7 => ?_) (fun c7 => ?_)
          · have hF := if_f c7 hF
            refine lv_aload_n hx hb dX8_told_50 rfl (lv_at hl 0 rfl) ?_
            refine va_get (D := D) (ci := 7) (v := .ref aB) (C := RX8) (T := TX8) (N := 8) hx hb hts iX8_told_X8 hown hK hP 0 rfl rfl 0 (by decide) (hts _ kX8_told_1) (fun _ h9 => h9) rfl dX8_told_51 ?_
            refine lv_iload_n hx hb dX8_told_54 rfl (lv_at hl 1 rfl) ?_
            obtain ⟨r9, h8, hF⟩ := b1_s hF
            refine cl_vi (As := [.int p0]) (rest := []) (w' := (w_xbook ky aX aB aP aT aR aK aH aG aS ax au ay am bsz bgp ber bxs bus bys bme)) ⟨hx, hb, hml, hown, hts⟩ hK hP hD hS hA (c_X0_isGap l D ky aB ax au ay am _ N  bsz bgp ber bxs bus bys bme p0 r9 h8) (cwV 1 hts gX8_told_X0_isGap rfl rfl rfl (by decide +kernel) ⟨Nat.le_of_ble_eq_true rfl, Nat.le_of_ble_eq_true rfl⟩) [1, 2, 3, 4, 5] [0] [0, 1, 2, 3, 4, 5] 0 0 rfl rfl rfl rfl (wr := [(aX, .inr (7, [.ref aB, .ref aP, .ref aT, .ref aR, .ref aK, .ref aH, .ref aG, .ref aS]))]) rfl (by decide) rfl rfl hl.1 (Nat.le_of_ble_eq_true rfl) dX8_told_55 ⟨Nat.zero_le _, Nat.zero_le _⟩ (fun H locs hP hD hS => ?_)
            refine lv_if_eq (tgt := 66) hx hb dX8_told_58 (by decide) (fun c10 => ?_) (fun c10 => ?_)
            · have hF := if_t c10 hF
              refine lv_aload_n hx hb dX8_told_66 rfl (lv_at hl 0 rfl) ?_
              refine va_get (D := D) (ci := 7) (v := .ref aB) (C := RX8) (T := TX8) (N := 8) hx hb hts iX8_told_X8 hown hK hP 0 rfl rfl 0 (by decide) (hts _ kX8_told_1) (fun _ h9 => h9) rfl dX8_told_67 ?_
              refine lv_iload_n hx hb dX8_told_70 rfl (lv_at hl 1 rfl) ?_
              obtain ⟨r12, h11, hF⟩ := b1_s hF
              refine cl_vi (As := [.int p0]) (rest := []) (w' := (w_xbook ky aX aB aP aT aR aK aH aG aS ax au ay am bsz bgp ber bxs bus bys bme)) ⟨hx, hb, hml, hown, hts⟩ hK hP hD hS hA (c_X0_end l D ky aB ax au ay am _ N  bsz bgp ber bxs bus bys bme p0 r12 h11) (cwV 1 hts gX8_told_X0_end rfl rfl rfl (by decide +kernel) ⟨Nat.le_of_ble_eq_true rfl, Nat.le_of_ble_eq_true rfl⟩) [1, 2, 3, 4, 5] [0] [0, 1, 2, 3, 4, 5] 0 0 rfl rfl rfl rfl (wr := [(aX, .inr (7, [.ref aB, .ref aP, .ref aT, .ref aR, .ref aK, .ref aH, .ref aG, .ref aS]))]) rfl (by decide) rfl rfl hl.1 (Nat.le_of_ble_eq_true rfl) dX8_told_71 ⟨Nat.zero_le _, Nat.zero_le _⟩ (fun H locs hP hD hS => ?_)
              have hF := Option.some.inj hF
              subst hF
              exact hQ _ _ _ _ dX8_told_74 hP hD hS
            · have hF := if_f c10 hF
              refine lv_ldc hx hb hown (hts _ kX8_told_3) dX8_told_61 ?_
              refine lv_goto (tgt := 74) hx hb dX8_told_63 (by decide) ?_
              have hF := Option.some.inj hF
              subst hF
              exact hQ _ _ _ _ dX8_told_74 hP hD hS
          · have hF := if_t c7 hF
            refine lv_aload_n hx hb dX8_told_41 rfl (lv_at hl 0 rfl) ?_
            refine va_get (D := D) (ci := 7) (v := .ref aB) (C := RX8) (T := TX8) (N := 8) hx hb hts iX8_told_X8 hown hK hP 0 rfl rfl 0 (by decide) (hts _ kX8_told_1) (fun _ h9 => h9) rfl dX8_told_42 ?_
            refine lv_iload_n hx hb dX8_told_45 rfl (lv_at hl 1 rfl) ?_
            obtain ⟨r14, h13, hF⟩ := b1_s hF
            refine cl_vi (As := [.int p0]) (rest := []) (w' := (w_xbook ky aX aB aP aT aR aK aH aG aS ax au ay am bsz bgp ber bxs bus bys bme)) ⟨hx, hb, hml, hown, hts⟩ hK hP hD hS hA (c_X0_push l D ky aB ax au ay am _ N  bsz bgp ber bxs bus bys bme p0 r14 h13) (cwV 1 hts gX8_told_X0_push rfl rfl rfl (by decide +kernel) ⟨Nat.le_of_ble_eq_true rfl, Nat.le_of_ble_eq_true rfl⟩) [1, 2, 3, 4, 5] [0] [0, 1, 2, 3, 4, 5] 0 0 rfl rfl rfl rfl (wr := [(aX, .inr (7, [.ref aB, .ref aP, .ref aT, .ref aR, .ref aK, .ref aH, .ref aG, .ref aS]))]) rfl (by decide) rfl rfl hl.1 (Nat.le_of_ble_eq_true rfl) dX8_told_46 ⟨Nat.zero_le _, Nat.zero_le _⟩ (fun H locs hP hD hS => ?_)
            have hF := Option.some.inj hF
            subst hF
            exact hQ _ _ _ _ dX8_told_49 hP hD hS
        · have hF := if_t c6 hF
          refine lv_aload_n hx hb dX8_told_27 rfl (lv_at hl 0 rfl) ?_
          refine va_get (D := D) (ci := 7) (v := .ref aB) (C := RX8) (T := TX8) (N := 8) hx hb hts iX8_told_X8 hown hK hP 0 rfl rfl 0 (by decide) (hts _ kX8_told_1) (fun _ h9 => h9) rfl dX8_told_28 ?_
          refine lv_iload_n hx hb dX8_told_31 rfl (lv_at hl 1 rfl) ?_
          obtain ⟨r16, h15, hF⟩ := b1_s hF
          refine cl_vi (As := [.int p0]) (rest := []) (w' := (w_xbook ky aX aB aP aT aR aK aH aG aS ax au ay am bsz bgp ber bxs bus bys bme)) ⟨hx, hb, hml, hown, hts⟩ hK hP hD hS hA (c_X0_state l D ky aB ax au ay am _ N  bsz bgp ber bxs bus bys bme p0 r16 h15) (cwV 1 hts gX8_told_X0_state rfl rfl rfl (by decide +kernel) ⟨Nat.le_of_ble_eq_true rfl, Nat.le_of_ble_eq_true rfl⟩) [1, 2, 3, 4, 5] [0] [0, 1, 2, 3, 4, 5] 0 0 rfl rfl rfl rfl (wr := [(aX, .inr (7, [.ref aB, .ref aP, .ref aT, .ref aR, .ref aK, .ref aH, .ref aG, .ref aS]))]) rfl (by decide) rfl rfl hl.1 (Nat.le_of_ble_eq_true rfl) dX8_told_32 ⟨Nat.zero_le _, Nat.zero_le _⟩ (fun H locs hP hD hS => ?_)
          have hF := Option.some.inj hF
          subst hF
          exact hQ _ _ _ _ dX8_told_35 hP hD hS
      · have hF := if_f c5 hF
        refine lv_ldc hx hb hown (hts _ kX8_told_2) dX8_told_20 ?_
        have hF := Option.some.inj hF
        subst hF
        exact hQ _ _ _ _ dX8_told_22 hP hD hS
theorem c_X8_told (l : Launch) (D : va_G) (ky : Nat → ClassId) (aX aB aP aT aR aK aH aG aS ax au ay am : Nat) (sz N : Nat)  (bsz : Int32) (bgp : Int32) (ber : Int32) (bxs : Nat → Int32) (bus : Nat → Int32) (bys : Nat → Int32) (bme : Nat → Int32) (p0 : Int32) (p1 : Int32) (rv : Int32) (hF : f_X8_told N p0 p1 bsz bgp bxs bus bys = some (rv)) : MI l yX8_told wsX8_told rm_X8_told D ky sz [.ref aX, .int p0, .int p1] (w_xbook ky aX aB aP aT aR aK aH aG aS ax au ay am bsz bgp ber bxs bus bys bme) (w_xbook ky aX aB aP aT aR aK aH aG aS ax au ay am bsz bgp ber bxs bus bys bme) rv :=
  cr_X8_told l D ky aX aB aP aT aR aK aH aG aS ax au ay am sz N bsz bgp ber bxs bus bys bme p0 p1 (rv) hF
abbrev rm_X8_clear : Room := { frames := 2, cells := 0, slots := 0, locals := 44 }
theorem iX8_clear_X8 : ∀ w ∈ wsX80, w ∈ wsX8_clear := by decide +kernel
theorem kX8_clear_1 : (Cond.fieldLink RX8 10 "TwoLaws" "book" "LTwoLaws$Book;") ∈ wsX8_clear := by decide +kernel
theorem kX8_clear_2 : (Cond.fieldLink RX8 19 "TwoLaws" "partings" "LTwoLaws$Partings;") ∈ wsX8_clear := by decide +kernel
set_option maxHeartbeats 4000000 in
set_option maxRecDepth 100000 in
theorem cr_X8_clear (l : Launch) (D : va_G) (ky : Nat → ClassId) (aX aB aP aT aR aK aH aG aS ag al ax au ay am : Nat) (sz N : Nat)  (pgc : Int32) (prc : Int32) (pgr : Nat → Int32) (pla : Nat → Int32) (bsz : Int32) (bgp : Int32) (ber : Int32) (bxs : Nat → Int32) (bus : Nat → Int32) (bys : Nat → Int32) (bme : Nat → Int32)  (res : Int32 × Int32 × Int32 × Int32 × (Nat → Int32)) (hF : f_X8_clear N bsz bme = some res) : MI l yX8_clear wsX8_clear rm_X8_clear D ky sz [.ref aX] (w_xpart ky aX aB aP aT aR aK aH aG aS ag al ax au ay am pgc prc pgr pla bsz bgp ber bxs bus bys bme) (w_xpart ky aX aB aP aT aR aK aH aG aS ag al ax au ay am pgc res.2.1 pgr pla res.2.2.1 res.2.2.2.1 ber bxs bus bys res.2.2.2.2) res.1 := by
  unfold MI
  refine Met.ofW (cc := cX8_clear) (maxL := 2) (ret := (some .int)) (by decide) rfl ?_
  intro p e s m args below meth c s₁ B hml hv
  obtain ⟨rfl, hsz, hP, hK, hD0⟩ := hv
  have hx := B.exec
  have hb := B.bytes
  have hr := B.returns
  have hts := atoms_spec (ws := wsX8_clear) B.pre
  have hown : s.vm.findClass RX8 = some m.cls := findClass_of_methodNamed B.named
  have hlocks := B.notSynchronized
  subst hsz
  have hD := hD0.self (sz := s.heap.size)
  generalize hAe : va_A (w_xpart ky aX aB aP aT aR aK aH aG aS ag al ax au ay am pgc prc pgr pla bsz bgp ber bxs bus bys bme) s.heap.size = A at hD ⊢
  have hA : ∀ q : Nat, s.heap.size ≤ q → A q := fun q h => by rw [← hAe]; exact Or.inr h
  have hS : va_S A s.heap s.heap [] := va_S.rf
  have hP : va_P D vwCl (w_xpart ky aX aB aP aT aR aK aH aG aS ag al ax au ay am pgc prc pgr pla bsz bgp ber bxs bus bys bme) s.heap := hP
  have hl := lv_entry ([.ref aX]) (n := 2) (Nat.le_of_ble_eq_true rfl)
  rw [lg_entry_eq]
  generalize (lg_sl ([.ref aX]) ++ List.replicate (2 - (lg_sl ([.ref aX])).length) Slot.unset).toArray = ls at hl ⊢
  have hl : lv_has ls 2 [(0, .ref aX)] := hl
  have C : cx p s m c ([.ref aX]).toArray D ky A cX8_clear 2 wsX8_clear RX8 := ⟨hx, hb, hml, hown, hts, hK, hA⟩
  have hQ : ∀ (pc : Nat) (H : Heap) (locs : List Loc) (ls : Array Slot), decode cX8_clear pc = .ok (.ireturn, 1) → va_P D vwCl (w_xpart ky aX aB aP aT aR aK aH aG aS ag al ax au ay am pgc res.2.1 pgr pla res.2.2.1 res.2.2.2.1 ber bxs bus bys res.2.2.2.2) H → va_D A (w_xpart ky aX aB aP aT aR aK aH aG aS ag al ax au ay am pgc res.2.1 pgr pla res.2.2.1 res.2.2.2.1 ber bxs bus bys res.2.2.2.2) → va_S A s.heap H locs → W p l e rm_X8_clear s m ([.ref aX]).toArray below meth c H locs 0 0 (MQ below (va_Qi (S := Unit) (fun r _ => r = res.1) (fun _ t => va_P D vwCl (w_xpart ky aX aB aP aT aR aK aH aG aS ag al ax au ay am pgc res.2.1 pgr pla res.2.2.1 res.2.2.2.1 ber bxs bus bys res.2.2.2.2) t.heap ∧ va_K D vwCl (tyW ky) t ∧ va_D A (w_xpart ky aX aB aP aT aR aK aH aG aS ag al ax au ay am pgc res.2.1 pgr pla res.2.2.1 res.2.2.2.1 ber bxs bus bys res.2.2.2.2)) A) ([.ref aX]).toArray s 0 0 A) (F0 m pc ls [.int res.1]) := fun pc H locs ls hd hP hD hS => W.iret hx hb hr (fun t ht hW => ⟨⟨res.1, (), rfl, rfl, by rw [ht]; exact hP, va_K.moved hW.alike hK, hD⟩, hS.F ht⟩) hS.2.2 hd
  unfold f_X8_clear at hF
  refine lv_aload_n hx hb dX8_clear_0 rfl (lv_at hl 0 rfl) ?_
  refine va_get (D := D) (ci := 7) (v := .ref aB) (C := RX8) (T := TX8) (N := 8) hx hb hts iX8_clear_X8 hown hK hP 0 rfl rfl 0 (by decide) (hts _ kX8_clear_1) (fun _ h9 => h9) rfl dX8_clear_1 ?_
  obtain ⟨r2, v3, v4, v5, h1, hF⟩ := b4_s hF
  refine cl_vi (As := []) (rest := []) (w' := (w_xpart ky aX aB aP aT aR aK aH aG aS ag al ax au ay am pgc prc pgr pla v3 v4 ber bxs bus bys v5)) ⟨hx, hb, hml, hown, hts⟩ hK hP hD hS hA (c_X0_empty l D ky aB ax au ay am _ N  bsz bgp ber bxs bus bys bme  r2 v3 v4 v5 h1) (cwV 0 hts gX8_clear_X0_empty rfl rfl rfl (by decide +kernel) ⟨Nat.le_of_ble_eq_true rfl, Nat.le_of_ble_eq_true rfl⟩) [4, 5, 6, 7, 8] [0, 1, 2, 3] [0, 1, 2, 3, 4, 5, 6, 7, 8] 0 0 rfl rfl rfl rfl (wr := [(aX, .inr (7, [.ref aB, .ref aP, .ref aT, .ref aR, .ref aK, .ref aH, .ref aG, .ref aS])), (aP, .inr (3, [.ref ag, .int pgc, .ref al, .int prc])), (ag, .inl (ky 0, 289, .inl pgr)), (al, .inl (ky 1, 4096, .inl pla))]) rfl (by decide) rfl rfl hl.1 (Nat.le_of_ble_eq_true rfl) dX8_clear_4 ⟨Nat.zero_le _, Nat.zero_le _⟩ (fun H locs hP hD hS => ?_)
  refine lv_istore_n (lv' := [(1, .int r2), (0, .ref aX)]) hx hb dX8_clear_7 rfl hl (by decide) rfl (fun ls hl => ?_)
  refine lv_aload_n hx hb dX8_clear_8 rfl (lv_at hl 1 rfl) ?_
  refine va_get (D := D) (ci := 7) (v := .ref aP) (C := RX8) (T := TX8) (N := 8) hx hb hts iX8_clear_X8 hown hK hP 0 rfl rfl 1 (by decide) (hts _ kX8_clear_2) (fun _ h9 => h9) rfl dX8_clear_9 ?_
  obtain ⟨v7, h6, hF⟩ := b1_s hF
  refine cl_vv (As := []) (rest := []) (w' := (w_xpart ky aX aB aP aT aR aK aH aG aS ag al ax au ay am pgc v7 pgr pla v3 v4 ber bxs bus bys v5)) ⟨hx, hb, hml, hown, hts⟩ hK hP hD hS hA (c_X4_forget l D ky aP ag al _ N  pgc prc pgr pla  v7 h6) (cwV 0 hts gX8_clear_X4_forget rfl rfl rfl (by decide +kernel) ⟨Nat.le_of_ble_eq_true rfl, Nat.le_of_ble_eq_true rfl⟩) [1, 2, 3] [0, 4, 5, 6, 7, 8] [0, 6, 7, 8, 1, 2, 3, 4, 5] 0 3 rfl rfl rfl rfl (wr := [(aX, .inr (7, [.ref aB, .ref aP, .ref aT, .ref aR, .ref aK, .ref aH, .ref aG, .ref aS])), (aB, .inr (0, [.ref ax, .ref au, .ref ay, .ref am, .int v3, .int v4, .int ber])), (ax, .inl (ky 0, 12, .inl bxs)), (au, .inl (ky 0, 12, .inl bus)), (ay, .inl (ky 0, 12, .inl bys)), (am, .inl (ky 0, 289, .inl v5))]) rfl (by decide) rfl rfl hl.1 (Nat.le_of_ble_eq_true rfl) dX8_clear_12 ⟨Nat.zero_le _, Nat.zero_le _⟩ (fun H locs hP hD hS => ?_)
  refine lv_iload_n hx hb dX8_clear_15 rfl (lv_at hl 0 rfl) ?_
  have hF := Option.some.inj hF
  subst hF
  exact hQ _ _ _ _ dX8_clear_16 hP hD hS
theorem c_X8_clear (l : Launch) (D : va_G) (ky : Nat → ClassId) (aX aB aP aT aR aK aH aG aS ag al ax au ay am : Nat) (sz N : Nat)  (pgc : Int32) (prc : Int32) (pgr : Nat → Int32) (pla : Nat → Int32) (bsz : Int32) (bgp : Int32) (ber : Int32) (bxs : Nat → Int32) (bus : Nat → Int32) (bys : Nat → Int32) (bme : Nat → Int32)  (rv : Int32) (prc' : Int32) (bsz' : Int32) (bgp' : Int32) (bme' : Nat → Int32) (hF : f_X8_clear N bsz bme = some (rv, prc', bsz', bgp', bme')) : MI l yX8_clear wsX8_clear rm_X8_clear D ky sz [.ref aX] (w_xpart ky aX aB aP aT aR aK aH aG aS ag al ax au ay am pgc prc pgr pla bsz bgp ber bxs bus bys bme) (w_xpart ky aX aB aP aT aR aK aH aG aS ag al ax au ay am pgc prc' pgr pla bsz' bgp' ber bxs bus bys bme') rv :=
  cr_X8_clear l D ky aX aB aP aT aR aK aH aG aS ag al ax au ay am sz N pgc prc pgr pla bsz bgp ber bxs bus bys bme (rv, prc', bsz', bgp', bme') hF
abbrev rm_X8_error : Room := { frames := 4, cells := 0, slots := 0, locals := 87 }
theorem iX8_error_X8 : ∀ w ∈ wsX80, w ∈ wsX8_error := by decide +kernel
theorem kX8_error_1 : (Cond.fieldLink RX8 10 "TwoLaws" "book" "LTwoLaws$Book;") ∈ wsX8_error := by decide +kernel
theorem kX8_error_2 : (Cond.fieldLink RX8 19 "TwoLaws" "partings" "LTwoLaws$Partings;") ∈ wsX8_error := by decide +kernel
set_option maxHeartbeats 4000000 in
set_option maxRecDepth 100000 in
theorem cr_X8_error (l : Launch) (D : va_G) (ky : Nat → ClassId) (aX aB aP aT aR aK aH aG aS ag al ax au ay am : Nat) (sz N : Nat)  (pgc : Int32) (prc : Int32) (pgr : Nat → Int32) (pla : Nat → Int32) (bsz : Int32) (bgp : Int32) (ber : Int32) (bxs : Nat → Int32) (bus : Nat → Int32) (bys : Nat → Int32) (bme : Nat → Int32) (p0 : Int32) (res : Int32 × Int32 × Int32 × (Nat → Int32)) (hF : f_X8_error N p0 prc bsz bgp ber bxs bus bys bme = some res) : MI l yX8_error wsX8_error rm_X8_error D ky sz [.ref aX, .int p0] (w_xpart ky aX aB aP aT aR aK aH aG aS ag al ax au ay am pgc prc pgr pla bsz bgp ber bxs bus bys bme) (w_xpart ky aX aB aP aT aR aK aH aG aS ag al ax au ay am pgc res.2.1 pgr pla bsz bgp res.2.2.1 bxs bus bys res.2.2.2) res.1 := by
  unfold MI
  refine Met.ofW (cc := cX8_error) (maxL := 3) (ret := (some .int)) (by decide) rfl ?_
  intro p e s m args below meth c s₁ B hml hv
  obtain ⟨rfl, hsz, hP, hK, hD0⟩ := hv
  have hx := B.exec
  have hb := B.bytes
  have hr := B.returns
  have hts := atoms_spec (ws := wsX8_error) B.pre
  have hown : s.vm.findClass RX8 = some m.cls := findClass_of_methodNamed B.named
  have hlocks := B.notSynchronized
  subst hsz
  have hD := hD0.self (sz := s.heap.size)
  generalize hAe : va_A (w_xpart ky aX aB aP aT aR aK aH aG aS ag al ax au ay am pgc prc pgr pla bsz bgp ber bxs bus bys bme) s.heap.size = A at hD ⊢
  have hA : ∀ q : Nat, s.heap.size ≤ q → A q := fun q h => by rw [← hAe]; exact Or.inr h
  have hS : va_S A s.heap s.heap [] := va_S.rf
  have hP : va_P D vwCl (w_xpart ky aX aB aP aT aR aK aH aG aS ag al ax au ay am pgc prc pgr pla bsz bgp ber bxs bus bys bme) s.heap := hP
  have hl := lv_entry ([.ref aX, .int p0]) (n := 3) (Nat.le_of_ble_eq_true rfl)
  rw [lg_entry_eq]
  generalize (lg_sl ([.ref aX, .int p0]) ++ List.replicate (3 - (lg_sl ([.ref aX, .int p0])).length) Slot.unset).toArray = ls at hl ⊢
  have hl : lv_has ls 3 [(0, .ref aX), (1, .int p0)] := hl
  have C : cx p s m c ([.ref aX, .int p0]).toArray D ky A cX8_error 3 wsX8_error RX8 := ⟨hx, hb, hml, hown, hts, hK, hA⟩
  have hQ : ∀ (pc : Nat) (H : Heap) (locs : List Loc) (ls : Array Slot), decode cX8_error pc = .ok (.ireturn, 1) → va_P D vwCl (w_xpart ky aX aB aP aT aR aK aH aG aS ag al ax au ay am pgc res.2.1 pgr pla bsz bgp res.2.2.1 bxs bus bys res.2.2.2) H → va_D A (w_xpart ky aX aB aP aT aR aK aH aG aS ag al ax au ay am pgc res.2.1 pgr pla bsz bgp res.2.2.1 bxs bus bys res.2.2.2) → va_S A s.heap H locs → W p l e rm_X8_error s m ([.ref aX, .int p0]).toArray below meth c H locs 0 0 (MQ below (va_Qi (S := Unit) (fun r _ => r = res.1) (fun _ t => va_P D vwCl (w_xpart ky aX aB aP aT aR aK aH aG aS ag al ax au ay am pgc res.2.1 pgr pla bsz bgp res.2.2.1 bxs bus bys res.2.2.2) t.heap ∧ va_K D vwCl (tyW ky) t ∧ va_D A (w_xpart ky aX aB aP aT aR aK aH aG aS ag al ax au ay am pgc res.2.1 pgr pla bsz bgp res.2.2.1 bxs bus bys res.2.2.2)) A) ([.ref aX, .int p0]).toArray s 0 0 A) (F0 m pc ls [.int res.1]) := fun pc H locs ls hd hP hD hS => W.iret hx hb hr (fun t ht hW => ⟨⟨res.1, (), rfl, rfl, by rw [ht]; exact hP, va_K.moved hW.alike hK, hD⟩, hS.F ht⟩) hS.2.2 hd
  unfold f_X8_error at hF
  refine lv_iload_n hx hb dX8_error_0 rfl (lv_at hl 1 rfl) ?_
  refine lv_if_lt (tgt := 10) hx hb dX8_error_1 (by decide) (fun c1 => ?_) (fun c1 => ?_)
  · have hF := if_t c1 hF
    refine lv_iconst (v := (-1 : Int32)) hx hb dX8_error_10 (by decide) ?_
    have hF := Option.some.inj hF
    subst hF
    exact hQ _ _ _ _ dX8_error_11 hP hD hS
  · have hF := if_f c1 hF
    refine lv_iload_n hx hb dX8_error_4 rfl (lv_at hl 1 rfl) ?_
    refine lv_bipush (v := (20 : Int32)) hx hb dX8_error_5 (by decide) ?_
    refine lv_icmp_le (tgt := 12) hx hb dX8_error_7 (by decide) (fun c2 => ?_) (fun c2 => ?_)
    · have hF := if_t c2 hF
      refine lv_aload_n hx hb dX8_error_12 rfl (lv_at hl 0 rfl) ?_
      refine va_get (D := D) (ci := 7) (v := .ref aB) (C := RX8) (T := TX8) (N := 8) hx hb hts iX8_error_X8 hown hK hP 0 rfl rfl 0 (by decide) (hts _ kX8_error_1) (fun _ h9 => h9) rfl dX8_error_13 ?_
      obtain ⟨r4, h3, hF⟩ := b1_s hF
      refine cl_vi (As := []) (rest := []) (w' := (w_xpart ky aX aB aP aT aR aK aH aG aS ag al ax au ay am pgc prc pgr pla bsz bgp ber bxs bus bys bme)) ⟨hx, hb, hml, hown, hts⟩ hK hP hD hS hA (c_X0_errorNow l D ky aB ax au ay am _ N  bsz bgp ber bxs bus bys bme  r4 h3) (cwV 0 hts gX8_error_X0_errorNow rfl rfl rfl (by decide +kernel) ⟨Nat.le_of_ble_eq_true rfl, Nat.le_of_ble_eq_true rfl⟩) [4, 5, 6, 7, 8] [0, 1, 2, 3] [0, 1, 2, 3, 4, 5, 6, 7, 8] 0 0 rfl rfl rfl rfl (wr := [(aX, .inr (7, [.ref aB, .ref aP, .ref aT, .ref aR, .ref aK, .ref aH, .ref aG, .ref aS])), (aP, .inr (3, [.ref ag, .int pgc, .ref al, .int prc])), (ag, .inl (ky 0, 289, .inl pgr)), (al, .inl (ky 1, 4096, .inl pla))]) rfl (by decide) rfl rfl hl.1 (Nat.le_of_ble_eq_true rfl) dX8_error_16 ⟨Nat.zero_le _, Nat.zero_le _⟩ (fun H locs hP hD hS => ?_)
      refine lv_istore_n (lv' := [(2, .int r4), (0, .ref aX), (1, .int p0)]) hx hb dX8_error_19 rfl hl (by decide) rfl (fun ls hl => ?_)
      refine lv_aload_n hx hb dX8_error_20 rfl (lv_at hl 1 rfl) ?_
      refine va_get (D := D) (ci := 7) (v := .ref aB) (C := RX8) (T := TX8) (N := 8) hx hb hts iX8_error_X8 hown hK hP 0 rfl rfl 0 (by decide) (hts _ kX8_error_1) (fun _ h9 => h9) rfl dX8_error_21 ?_
      refine lv_iload_n hx hb dX8_error_24 rfl (lv_at hl 2 rfl) ?_
      obtain ⟨v6, v7, h5, hF⟩ := b2_s hF
      refine cl_vv (As := [.int p0]) (rest := []) (w' := (w_xpart ky aX aB aP aT aR aK aH aG aS ag al ax au ay am pgc prc pgr pla bsz bgp v6 bxs bus bys v7)) ⟨hx, hb, hml, hown, hts⟩ hK hP hD hS hA (c_X0_takeError l D ky aB ax au ay am _ N  bsz bgp ber bxs bus bys bme p0 v6 v7 h5) (cwV 1 hts gX8_error_X0_takeError rfl rfl rfl (by decide +kernel) ⟨Nat.le_of_ble_eq_true rfl, Nat.le_of_ble_eq_true rfl⟩) [4, 5, 6, 7, 8] [0, 1, 2, 3] [0, 1, 2, 3, 4, 5, 6, 7, 8] 0 0 rfl rfl rfl rfl (wr := [(aX, .inr (7, [.ref aB, .ref aP, .ref aT, .ref aR, .ref aK, .ref aH, .ref aG, .ref aS])), (aP, .inr (3, [.ref ag, .int pgc, .ref al, .int prc])), (ag, .inl (ky 0, 289, .inl pgr)), (al, .inl (ky 1, 4096, .inl pla))]) rfl (by decide) rfl rfl hl.1 (Nat.le_of_ble_eq_true rfl) dX8_error_25 ⟨Nat.zero_le _, Nat.zero_le _⟩ (fun H locs hP hD hS => ?_)
      refine lv_aload_n hx hb dX8_error_28 rfl (lv_at hl 1 rfl) ?_
      refine va_get (D := D) (ci := 7) (v := .ref aP) (C := RX8) (T := TX8) (N := 8) hx hb hts iX8_error_X8 hown hK hP 0 rfl rfl 1 (by decide) (hts _ kX8_error_2) (fun _ h9 => h9) rfl dX8_error_29 ?_
      obtain ⟨v9, h8, hF⟩ := b1_s hF
      refine cl_vv (As := []) (rest := []) (w' := (w_xpart ky aX aB aP aT aR aK aH aG aS ag al ax au ay am pgc v9 pgr pla bsz bgp v6 bxs bus bys v7)) ⟨hx, hb, hml, hown, hts⟩ hK hP hD hS hA (c_X4_forget l D ky aP ag al _ N  pgc prc pgr pla  v9 h8) (cwV 0 hts gX8_error_X4_forget rfl rfl rfl (by decide +kernel) ⟨Nat.le_of_ble_eq_true rfl, Nat.le_of_ble_eq_true rfl⟩) [1, 2, 3] [0, 4, 5, 6, 7, 8] [0, 6, 7, 8, 1, 2, 3, 4, 5] 0 3 rfl rfl rfl rfl (wr := [(aX, .inr (7, [.ref aB, .ref aP, .ref aT, .ref aR, .ref aK, .ref aH, .ref aG, .ref aS])), (aB, .inr (0, [.ref ax, .ref au, .ref ay, .ref am, .int bsz, .int bgp, .int v6])), (ax, .inl (ky 0, 12, .inl bxs)), (au, .inl (ky 0, 12, .inl bus)), (ay, .inl (ky 0, 12, .inl bys)), (am, .inl (ky 0, 289, .inl v7))]) rfl (by decide) rfl rfl hl.1 (Nat.le_of_ble_eq_true rfl) dX8_error_32 ⟨Nat.zero_le _, Nat.zero_le _⟩ (fun H locs hP hD hS => ?_)
      refine lv_iload_n hx hb dX8_error_35 rfl (lv_at hl 0 rfl) ?_
      have hF := Option.some.inj hF
      subst hF
      exact hQ _ _ _ _ dX8_error_36 hP hD hS
    · have hF := if_f c2 hF
      refine lv_iconst (v := (-1 : Int32)) hx hb dX8_error_10 (by decide) ?_
      have hF := Option.some.inj hF
      subst hF
      exact hQ _ _ _ _ dX8_error_11 hP hD hS
theorem c_X8_error (l : Launch) (D : va_G) (ky : Nat → ClassId) (aX aB aP aT aR aK aH aG aS ag al ax au ay am : Nat) (sz N : Nat)  (pgc : Int32) (prc : Int32) (pgr : Nat → Int32) (pla : Nat → Int32) (bsz : Int32) (bgp : Int32) (ber : Int32) (bxs : Nat → Int32) (bus : Nat → Int32) (bys : Nat → Int32) (bme : Nat → Int32) (p0 : Int32) (rv : Int32) (prc' : Int32) (ber' : Int32) (bme' : Nat → Int32) (hF : f_X8_error N p0 prc bsz bgp ber bxs bus bys bme = some (rv, prc', ber', bme')) : MI l yX8_error wsX8_error rm_X8_error D ky sz [.ref aX, .int p0] (w_xpart ky aX aB aP aT aR aK aH aG aS ag al ax au ay am pgc prc pgr pla bsz bgp ber bxs bus bys bme) (w_xpart ky aX aB aP aT aR aK aH aG aS ag al ax au ay am pgc prc' pgr pla bsz bgp ber' bxs bus bys bme') rv :=
  cr_X8_error l D ky aX aB aP aT aR aK aH aG aS ag al ax au ay am sz N pgc prc pgr pla bsz bgp ber bxs bus bys bme p0 (rv, prc', ber', bme') hF
abbrev rm_X8_meets : Room := { frames := 2, cells := 0, slots := 0, locals := 43 }
theorem iX8_meets_X8 : ∀ w ∈ wsX80, w ∈ wsX8_meets := by decide +kernel
theorem kX8_meets_1 : (Cond.fieldLink RX8 10 "TwoLaws" "book" "LTwoLaws$Book;") ∈ wsX8_meets := by decide +kernel
set_option maxHeartbeats 4000000 in
set_option maxRecDepth 100000 in
theorem cr_X8_meets (l : Launch) (D : va_G) (ky : Nat → ClassId) (aX aB aP aT aR aK aH aG aS ax au ay am : Nat) (sz N : Nat)  (bsz : Int32) (bgp : Int32) (ber : Int32) (bxs : Nat → Int32) (bus : Nat → Int32) (bys : Nat → Int32) (bme : Nat → Int32) (p0 : Int32) (p1 : Int32) (res : Int32) (hF : f_X8_meets N p0 p1 bsz bme = some res) : MI l yX8_meets wsX8_meets rm_X8_meets D ky sz [.ref aX, .int p0, .int p1] (w_xbook ky aX aB aP aT aR aK aH aG aS ax au ay am bsz bgp ber bxs bus bys bme) (w_xbook ky aX aB aP aT aR aK aH aG aS ax au ay am bsz bgp ber bxs bus bys bme) res := by
  unfold MI
  refine Met.ofW (cc := cX8_meets) (maxL := 3) (ret := (some .int)) (by decide) rfl ?_
  intro p e s m args below meth c s₁ B hml hv
  obtain ⟨rfl, hsz, hP, hK, hD0⟩ := hv
  have hx := B.exec
  have hb := B.bytes
  have hr := B.returns
  have hts := atoms_spec (ws := wsX8_meets) B.pre
  have hown : s.vm.findClass RX8 = some m.cls := findClass_of_methodNamed B.named
  have hlocks := B.notSynchronized
  subst hsz
  have hD := hD0.self (sz := s.heap.size)
  generalize hAe : va_A (w_xbook ky aX aB aP aT aR aK aH aG aS ax au ay am bsz bgp ber bxs bus bys bme) s.heap.size = A at hD ⊢
  have hA : ∀ q : Nat, s.heap.size ≤ q → A q := fun q h => by rw [← hAe]; exact Or.inr h
  have hS : va_S A s.heap s.heap [] := va_S.rf
  have hP : va_P D vwCl (w_xbook ky aX aB aP aT aR aK aH aG aS ax au ay am bsz bgp ber bxs bus bys bme) s.heap := hP
  have hl := lv_entry ([.ref aX, .int p0, .int p1]) (n := 3) (Nat.le_of_ble_eq_true rfl)
  rw [lg_entry_eq]
  generalize (lg_sl ([.ref aX, .int p0, .int p1]) ++ List.replicate (3 - (lg_sl ([.ref aX, .int p0, .int p1])).length) Slot.unset).toArray = ls at hl ⊢
  have hl : lv_has ls 3 [(0, .ref aX), (1, .int p0), (2, .int p1)] := hl
  have C : cx p s m c ([.ref aX, .int p0, .int p1]).toArray D ky A cX8_meets 3 wsX8_meets RX8 := ⟨hx, hb, hml, hown, hts, hK, hA⟩
  have hQ : ∀ (pc : Nat) (H : Heap) (locs : List Loc) (ls : Array Slot), decode cX8_meets pc = .ok (.ireturn, 1) → va_P D vwCl (w_xbook ky aX aB aP aT aR aK aH aG aS ax au ay am bsz bgp ber bxs bus bys bme) H → va_D A (w_xbook ky aX aB aP aT aR aK aH aG aS ax au ay am bsz bgp ber bxs bus bys bme) → va_S A s.heap H locs → W p l e rm_X8_meets s m ([.ref aX, .int p0, .int p1]).toArray below meth c H locs 0 0 (MQ below (va_Qi (S := Unit) (fun r _ => r = res) (fun _ t => va_P D vwCl (w_xbook ky aX aB aP aT aR aK aH aG aS ax au ay am bsz bgp ber bxs bus bys bme) t.heap ∧ va_K D vwCl (tyW ky) t ∧ va_D A (w_xbook ky aX aB aP aT aR aK aH aG aS ax au ay am bsz bgp ber bxs bus bys bme)) A) ([.ref aX, .int p0, .int p1]).toArray s 0 0 A) (F0 m pc ls [.int res]) := fun pc H locs ls hd hP hD hS => W.iret hx hb hr (fun t ht hW => ⟨⟨res, (), rfl, rfl, by rw [ht]; exact hP, va_K.moved hW.alike hK, hD⟩, hS.F ht⟩) hS.2.2 hd
  unfold f_X8_meets at hF
  refine lv_aload_n hx hb dX8_meets_0 rfl (lv_at hl 0 rfl) ?_
  refine va_get (D := D) (ci := 7) (v := .ref aB) (C := RX8) (T := TX8) (N := 8) hx hb hts iX8_meets_X8 hown hK hP 0 rfl rfl 0 (by decide) (hts _ kX8_meets_1) (fun _ h9 => h9) rfl dX8_meets_1 ?_
  refine lv_iload_n hx hb dX8_meets_4 rfl (lv_at hl 1 rfl) ?_
  obtain ⟨r2, h1, hF⟩ := b1_s hF
  refine cl_vi (As := [.int p0]) (rest := []) (w' := (w_xbook ky aX aB aP aT aR aK aH aG aS ax au ay am bsz bgp ber bxs bus bys bme)) ⟨hx, hb, hml, hown, hts⟩ hK hP hD hS hA (c_X0_has l D ky aB ax au ay am _ N  bsz bgp ber bxs bus bys bme p0 r2 h1) (cwV 1 hts gX8_meets_X0_has rfl rfl rfl (by decide +kernel) ⟨Nat.le_of_ble_eq_true rfl, Nat.le_of_ble_eq_true rfl⟩) [1, 2, 3, 4, 5] [0] [0, 1, 2, 3, 4, 5] 0 0 rfl rfl rfl rfl (wr := [(aX, .inr (7, [.ref aB, .ref aP, .ref aT, .ref aR, .ref aK, .ref aH, .ref aG, .ref aS]))]) rfl (by decide) rfl rfl hl.1 (Nat.le_of_ble_eq_true rfl) dX8_meets_5 ⟨Nat.zero_le _, Nat.zero_le _⟩ (fun H locs hP hD hS => ?_)
  refine lv_if_eq (tgt := 18) hx hb dX8_meets_8 (by decide) (fun c3 => ?_) (fun c3 => ?_)
  · have hF := if_t c3 hF
    refine lv_iconst (v := (-1 : Int32)) hx hb dX8_meets_18 (by decide) ?_
    have hF := Option.some.inj hF
    subst hF
    exact hQ _ _ _ _ dX8_meets_19 hP hD hS
  · have hF := if_f c3 hF
    refine lv_iload_n hx hb dX8_meets_11 rfl (lv_at hl 2 rfl) ?_
    obtain ⟨r5, h4, hF⟩ := b1_s hF
    refine cl_si (As := [.int p1]) (rest := []) ⟨hx, hb, hml, hown, hts⟩ hK hP hD hS hA (c_X3_is l D ky  _ N   p1 r5 h4) (va_cwS 1 hts gX8_meets_X3_is rfl rfl rfl (by decide +kernel) ⟨Nat.le_of_ble_eq_true rfl, Nat.le_of_ble_eq_true rfl⟩) rfl hl.1 (Nat.le_of_ble_eq_true rfl) dX8_meets_12 ⟨Nat.zero_le _, Nat.zero_le _⟩ (fun H locs hP hD hS => ?_)
    refine lv_if_ne (tgt := 20) hx hb dX8_meets_15 (by decide) (fun c6 => ?_) (fun c6 => ?_)
    · have hF := if_f c6 hF
      refine lv_aload_n hx hb dX8_meets_20 rfl (lv_at hl 0 rfl) ?_
      refine va_get (D := D) (ci := 7) (v := .ref aB) (C := RX8) (T := TX8) (N := 8) hx hb hts iX8_meets_X8 hown hK hP 0 rfl rfl 0 (by decide) (hts _ kX8_meets_1) (fun _ h9 => h9) rfl dX8_meets_21 ?_
      refine lv_iconst (v := (1 : Int32)) hx hb dX8_meets_24 (by decide) ?_
      refine lv_iload_n hx hb dX8_meets_25 rfl (lv_at hl 1 rfl) ?_
      refine lv_ishl hx hb dX8_meets_26 ?_
      refine lv_iload_n hx hb dX8_meets_27 rfl (lv_at hl 2 rfl) ?_
      obtain ⟨r8, h7, hF⟩ := b1_s hF
      refine cl_vi (As := [.int ((1 : Int32) <<< (p0 &&& 31)), .int p1]) (rest := []) (w' := (w_xbook ky aX aB aP aT aR aK aH aG aS ax au ay am bsz bgp ber bxs bus bys bme)) ⟨hx, hb, hml, hown, hts⟩ hK hP hD hS hA (c_X0_letsLaw l D ky aB ax au ay am _ N  bsz bgp ber bxs bus bys bme ((1 : Int32) <<< (p0 &&& 31)) p1 r8 h7) (cwV 2 hts gX8_meets_X0_letsLaw rfl rfl rfl (by decide +kernel) ⟨Nat.le_of_ble_eq_true rfl, Nat.le_of_ble_eq_true rfl⟩) [1, 2, 3, 4, 5] [0] [0, 1, 2, 3, 4, 5] 0 0 rfl rfl rfl rfl (wr := [(aX, .inr (7, [.ref aB, .ref aP, .ref aT, .ref aR, .ref aK, .ref aH, .ref aG, .ref aS]))]) rfl (by decide) rfl rfl hl.1 (Nat.le_of_ble_eq_true rfl) dX8_meets_28 ⟨Nat.zero_le _, Nat.zero_le _⟩ (fun H locs hP hD hS => ?_)
      refine lv_if_eq (tgt := 38) hx hb dX8_meets_31 (by decide) (fun c9 => ?_) (fun c9 => ?_)
      · have hF := if_t c9 hF
        refine lv_iconst (v := (0 : Int32)) hx hb dX8_meets_38 (by decide) ?_
        have hF := Option.some.inj hF
        subst hF
        exact hQ _ _ _ _ dX8_meets_39 hP hD hS
      · have hF := if_f c9 hF
        refine lv_iconst (v := (1 : Int32)) hx hb dX8_meets_34 (by decide) ?_
        refine lv_goto (tgt := 39) hx hb dX8_meets_35 (by decide) ?_
        have hF := Option.some.inj hF
        subst hF
        exact hQ _ _ _ _ dX8_meets_39 hP hD hS
    · have hF := if_t c6 hF
      refine lv_iconst (v := (-1 : Int32)) hx hb dX8_meets_18 (by decide) ?_
      have hF := Option.some.inj hF
      subst hF
      exact hQ _ _ _ _ dX8_meets_19 hP hD hS
theorem c_X8_meets (l : Launch) (D : va_G) (ky : Nat → ClassId) (aX aB aP aT aR aK aH aG aS ax au ay am : Nat) (sz N : Nat)  (bsz : Int32) (bgp : Int32) (ber : Int32) (bxs : Nat → Int32) (bus : Nat → Int32) (bys : Nat → Int32) (bme : Nat → Int32) (p0 : Int32) (p1 : Int32) (rv : Int32) (hF : f_X8_meets N p0 p1 bsz bme = some (rv)) : MI l yX8_meets wsX8_meets rm_X8_meets D ky sz [.ref aX, .int p0, .int p1] (w_xbook ky aX aB aP aT aR aK aH aG aS ax au ay am bsz bgp ber bxs bus bys bme) (w_xbook ky aX aB aP aT aR aK aH aG aS ax au ay am bsz bgp ber bxs bus bys bme) rv :=
  cr_X8_meets l D ky aX aB aP aT aR aK aH aG aS ax au ay am sz N bsz bgp ber bxs bus bys bme p0 p1 (rv) hF
abbrev rm_X8_lets : Room := { frames := 3, cells := 0, slots := 0, locals := 67 }
theorem iX8_lets_X8 : ∀ w ∈ wsX80, w ∈ wsX8_lets := by decide +kernel
theorem kX8_lets_1 : (Cond.fieldLink RX8 10 "TwoLaws" "book" "LTwoLaws$Book;") ∈ wsX8_lets := by decide +kernel
set_option maxHeartbeats 4000000 in
set_option maxRecDepth 100000 in
theorem cr_X8_lets (l : Launch) (D : va_G) (ky : Nat → ClassId) (aX aB aP aT aR aK aH aG aS ax au ay am : Nat) (sz N : Nat)  (bsz : Int32) (bgp : Int32) (ber : Int32) (bxs : Nat → Int32) (bus : Nat → Int32) (bys : Nat → Int32) (bme : Nat → Int32) (p0 : Int32) (p1 : Int32) (res : Int32) (hF : f_X8_lets N p0 p1 bsz bme = some res) : MI l yX8_lets wsX8_lets rm_X8_lets D ky sz [.ref aX, .int p0, .int p1] (w_xbook ky aX aB aP aT aR aK aH aG aS ax au ay am bsz bgp ber bxs bus bys bme) (w_xbook ky aX aB aP aT aR aK aH aG aS ax au ay am bsz bgp ber bxs bus bys bme) res := by
  unfold MI
  refine Met.ofW (cc := cX8_lets) (maxL := 3) (ret := (some .int)) (by decide) rfl ?_
  intro p e s m args below meth c s₁ B hml hv
  obtain ⟨rfl, hsz, hP, hK, hD0⟩ := hv
  have hx := B.exec
  have hb := B.bytes
  have hr := B.returns
  have hts := atoms_spec (ws := wsX8_lets) B.pre
  have hown : s.vm.findClass RX8 = some m.cls := findClass_of_methodNamed B.named
  have hlocks := B.notSynchronized
  subst hsz
  have hD := hD0.self (sz := s.heap.size)
  generalize hAe : va_A (w_xbook ky aX aB aP aT aR aK aH aG aS ax au ay am bsz bgp ber bxs bus bys bme) s.heap.size = A at hD ⊢
  have hA : ∀ q : Nat, s.heap.size ≤ q → A q := fun q h => by rw [← hAe]; exact Or.inr h
  have hS : va_S A s.heap s.heap [] := va_S.rf
  have hP : va_P D vwCl (w_xbook ky aX aB aP aT aR aK aH aG aS ax au ay am bsz bgp ber bxs bus bys bme) s.heap := hP
  have hl := lv_entry ([.ref aX, .int p0, .int p1]) (n := 3) (Nat.le_of_ble_eq_true rfl)
  rw [lg_entry_eq]
  generalize (lg_sl ([.ref aX, .int p0, .int p1]) ++ List.replicate (3 - (lg_sl ([.ref aX, .int p0, .int p1])).length) Slot.unset).toArray = ls at hl ⊢
  have hl : lv_has ls 3 [(0, .ref aX), (1, .int p0), (2, .int p1)] := hl
  have C : cx p s m c ([.ref aX, .int p0, .int p1]).toArray D ky A cX8_lets 3 wsX8_lets RX8 := ⟨hx, hb, hml, hown, hts, hK, hA⟩
  have hQ : ∀ (pc : Nat) (H : Heap) (locs : List Loc) (ls : Array Slot), decode cX8_lets pc = .ok (.ireturn, 1) → va_P D vwCl (w_xbook ky aX aB aP aT aR aK aH aG aS ax au ay am bsz bgp ber bxs bus bys bme) H → va_D A (w_xbook ky aX aB aP aT aR aK aH aG aS ax au ay am bsz bgp ber bxs bus bys bme) → va_S A s.heap H locs → W p l e rm_X8_lets s m ([.ref aX, .int p0, .int p1]).toArray below meth c H locs 0 0 (MQ below (va_Qi (S := Unit) (fun r _ => r = res) (fun _ t => va_P D vwCl (w_xbook ky aX aB aP aT aR aK aH aG aS ax au ay am bsz bgp ber bxs bus bys bme) t.heap ∧ va_K D vwCl (tyW ky) t ∧ va_D A (w_xbook ky aX aB aP aT aR aK aH aG aS ax au ay am bsz bgp ber bxs bus bys bme)) A) ([.ref aX, .int p0, .int p1]).toArray s 0 0 A) (F0 m pc ls [.int res]) := fun pc H locs ls hd hP hD hS => W.iret hx hb hr (fun t ht hW => ⟨⟨res, (), rfl, rfl, by rw [ht]; exact hP, va_K.moved hW.alike hK, hD⟩, hS.F ht⟩) hS.2.2 hd
  unfold f_X8_lets at hF
  refine lv_aload_n hx hb dX8_lets_0 rfl (lv_at hl 0 rfl) ?_
  refine va_get (D := D) (ci := 7) (v := .ref aB) (C := RX8) (T := TX8) (N := 8) hx hb hts iX8_lets_X8 hown hK hP 0 rfl rfl 0 (by decide) (hts _ kX8_lets_1) (fun _ h9 => h9) rfl dX8_lets_1 ?_
  refine lv_iload_n hx hb dX8_lets_4 rfl (lv_at hl 1 rfl) ?_
  obtain ⟨r2, h1, hF⟩ := b1_s hF
  refine cl_vi (As := [.int p0]) (rest := []) (w' := (w_xbook ky aX aB aP aT aR aK aH aG aS ax au ay am bsz bgp ber bxs bus bys bme)) ⟨hx, hb, hml, hown, hts⟩ hK hP hD hS hA (c_X0_isHeap l D ky aB ax au ay am _ N  bsz bgp ber bxs bus bys bme p0 r2 h1) (cwV 1 hts gX8_lets_X0_isHeap rfl rfl rfl (by decide +kernel) ⟨Nat.le_of_ble_eq_true rfl, Nat.le_of_ble_eq_true rfl⟩) [1, 2, 3, 4, 5] [0] [0, 1, 2, 3, 4, 5] 0 0 rfl rfl rfl rfl (wr := [(aX, .inr (7, [.ref aB, .ref aP, .ref aT, .ref aR, .ref aK, .ref aH, .ref aG, .ref aS]))]) rfl (by decide) rfl rfl hl.1 (Nat.le_of_ble_eq_true rfl) dX8_lets_5 ⟨Nat.zero_le _, Nat.zero_le _⟩ (fun H locs hP hD hS => ?_)
  refine lv_if_eq (tgt := 16) hx hb dX8_lets_8 (by decide) (fun c3 => ?_) (fun c3 => ?_)
  · have hF := if_t c3 hF
    refine lv_iconst (v := (-1 : Int32)) hx hb dX8_lets_16 (by decide) ?_
    have hF := Option.some.inj hF
    subst hF
    exact hQ _ _ _ _ dX8_lets_17 hP hD hS
  · have hF := if_f c3 hF
    refine lv_iload_n hx hb dX8_lets_11 rfl (lv_at hl 2 rfl) ?_
    refine lv_iconst (v := (-1 : Int32)) hx hb dX8_lets_12 (by decide) ?_
    refine lv_icmp_ge (tgt := 18) hx hb dX8_lets_13 (by decide) (fun c4 => ?_) (fun c4 => ?_)
    · have hF := if_t c4 hF
      refine lv_iload_n hx hb dX8_lets_18 rfl (lv_at hl 2 rfl) ?_
      refine lv_iconst (v := (-1 : Int32)) hx hb dX8_lets_19 (by decide) ?_
      refine lv_icmp_ne (tgt := 34) hx hb dX8_lets_20 (by decide) (fun c5 => ?_) (fun c5 => ?_)
      · have hF := if_f c5 hF
        refine lv_aload_n hx hb dX8_lets_34 rfl (lv_at hl 0 rfl) ?_
        refine va_get (D := D) (ci := 7) (v := .ref aB) (C := RX8) (T := TX8) (N := 8) hx hb hts iX8_lets_X8 hown hK hP 0 rfl rfl 0 (by decide) (hts _ kX8_lets_1) (fun _ h9 => h9) rfl dX8_lets_35 ?_
        refine lv_iload_n hx hb dX8_lets_38 rfl (lv_at hl 1 rfl) ?_
        refine lv_iload_n hx hb dX8_lets_39 rfl (lv_at hl 2 rfl) ?_
        obtain ⟨r7, h6, hF⟩ := b1_s hF
        refine cl_vi (As := [.int p0, .int p1]) (rest := []) (w' := (w_xbook ky aX aB aP aT aR aK aH aG aS ax au ay am bsz bgp ber bxs bus bys bme)) ⟨hx, hb, hml, hown, hts⟩ hK hP hD hS hA (c_X0_lawOf l D ky aB ax au ay am _ N  bsz bgp ber bxs bus bys bme p0 p1 r7 h6) (cwV 2 hts gX8_lets_X0_lawOf rfl rfl rfl (by decide +kernel) ⟨Nat.le_of_ble_eq_true rfl, Nat.le_of_ble_eq_true rfl⟩) [1, 2, 3, 4, 5] [0] [0, 1, 2, 3, 4, 5] 0 0 rfl rfl rfl rfl (wr := [(aX, .inr (7, [.ref aB, .ref aP, .ref aT, .ref aR, .ref aK, .ref aH, .ref aG, .ref aS]))]) rfl (by decide) rfl rfl hl.1 (Nat.le_of_ble_eq_true rfl) dX8_lets_40 ⟨Nat.zero_le _, Nat.zero_le _⟩ (fun H locs hP hD hS => ?_)
        have hF := Option.some.inj hF
        subst hF
        exact hQ _ _ _ _ dX8_lets_43 hP hD hS
      · have hF := if_t c5 hF
        refine lv_aload_n hx hb dX8_lets_23 rfl (lv_at hl 0 rfl) ?_
        refine va_get (D := D) (ci := 7) (v := .ref aB) (C := RX8) (T := TX8) (N := 8) hx hb hts iX8_lets_X8 hown hK hP 0 rfl rfl 0 (by decide) (hts _ kX8_lets_1) (fun _ h9 => h9) rfl dX8_lets_24 ?_
        refine lv_iload_n hx hb dX8_lets_27 rfl (lv_at hl 1 rfl) ?_
        obtain ⟨r9, h8, hF⟩ := b1_s hF
        refine cl_vi (As := [.int p0]) (rest := []) (w' := (w_xbook ky aX aB aP aT aR aK aH aG aS ax au ay am bsz bgp ber bxs bus bys bme)) ⟨hx, hb, hml, hown, hts⟩ hK hP hD hS hA (c_X0_lawCount l D ky aB ax au ay am _ N  bsz bgp ber bxs bus bys bme p0 r9 h8) (cwV 1 hts gX8_lets_X0_lawCount rfl rfl rfl (by decide +kernel) ⟨Nat.le_of_ble_eq_true rfl, Nat.le_of_ble_eq_true rfl⟩) [1, 2, 3, 4, 5] [0] [0, 1, 2, 3, 4, 5] 0 0 rfl rfl rfl rfl (wr := [(aX, .inr (7, [.ref aB, .ref aP, .ref aT, .ref aR, .ref aK, .ref aH, .ref aG, .ref aS]))]) rfl (by decide) rfl rfl hl.1 (Nat.le_of_ble_eq_true rfl) dX8_lets_28 ⟨Nat.zero_le _, Nat.zero_le _⟩ (fun H locs hP hD hS => ?_)
        refine lv_goto (tgt := 43) hx hb dX8_lets_31 (by decide) ?_
        have hF := Option.some.inj hF
        subst hF
        exact hQ _ _ _ _ dX8_lets_43 hP hD hS
    · have hF := if_f c4 hF
      refine lv_iconst (v := (-1 : Int32)) hx hb dX8_lets_16 (by decide) ?_
      have hF := Option.some.inj hF
      subst hF
      exact hQ _ _ _ _ dX8_lets_17 hP hD hS
theorem c_X8_lets (l : Launch) (D : va_G) (ky : Nat → ClassId) (aX aB aP aT aR aK aH aG aS ax au ay am : Nat) (sz N : Nat)  (bsz : Int32) (bgp : Int32) (ber : Int32) (bxs : Nat → Int32) (bus : Nat → Int32) (bys : Nat → Int32) (bme : Nat → Int32) (p0 : Int32) (p1 : Int32) (rv : Int32) (hF : f_X8_lets N p0 p1 bsz bme = some (rv)) : MI l yX8_lets wsX8_lets rm_X8_lets D ky sz [.ref aX, .int p0, .int p1] (w_xbook ky aX aB aP aT aR aK aH aG aS ax au ay am bsz bgp ber bxs bus bys bme) (w_xbook ky aX aB aP aT aR aK aH aG aS ax au ay am bsz bgp ber bxs bus bys bme) rv :=
  cr_X8_lets l D ky aX aB aP aT aR aK aH aG aS ax au ay am sz N bsz bgp ber bxs bus bys bme p0 p1 (rv) hF
abbrev rm_X8_count : Room := { frames := 2, cells := 0, slots := 0, locals := 40 }
theorem iX8_count_X8 : ∀ w ∈ wsX80, w ∈ wsX8_count := by decide +kernel
theorem kX8_count_1 : (Cond.fieldLink RX8 10 "TwoLaws" "book" "LTwoLaws$Book;") ∈ wsX8_count := by decide +kernel
theorem kX8_count_2 : (Cond.fieldLink RX8 40 "TwoLaws" "known" "LTwoLaws$Known;") ∈ wsX8_count := by decide +kernel
set_option maxHeartbeats 4000000 in
set_option maxRecDepth 100000 in
theorem cr_X8_count (l : Launch) (D : va_G) (ky : Nat → ClassId) (aX aB aP aT aR aK aH aG aS ak ax au ay am : Nat) (sz N : Nat)  (ksz : Int32) (kmb : Int32) (kwa : Int32) (kra : Int32) (kla : Nat → Int32) (bsz : Int32) (bgp : Int32) (ber : Int32) (bxs : Nat → Int32) (bus : Nat → Int32) (bys : Nat → Int32) (bme : Nat → Int32) (p0 : Int32) (res : Int32) (hF : f_X8_count N p0 ksz kwa kra bsz bgp = some res) : MI l yX8_count wsX8_count rm_X8_count D ky sz [.ref aX, .int p0] (w_xkb ky aX aB aP aT aR aK aH aG aS ak ax au ay am ksz kmb kwa kra kla bsz bgp ber bxs bus bys bme) (w_xkb ky aX aB aP aT aR aK aH aG aS ak ax au ay am ksz kmb kwa kra kla bsz bgp ber bxs bus bys bme) res := by
  unfold MI
  refine Met.ofW (cc := cX8_count) (maxL := 2) (ret := (some .int)) (by decide) rfl ?_
  intro p e s m args below meth c s₁ B hml hv
  obtain ⟨rfl, hsz, hP, hK, hD0⟩ := hv
  have hx := B.exec
  have hb := B.bytes
  have hr := B.returns
  have hts := atoms_spec (ws := wsX8_count) B.pre
  have hown : s.vm.findClass RX8 = some m.cls := findClass_of_methodNamed B.named
  have hlocks := B.notSynchronized
  subst hsz
  have hD := hD0.self (sz := s.heap.size)
  generalize hAe : va_A (w_xkb ky aX aB aP aT aR aK aH aG aS ak ax au ay am ksz kmb kwa kra kla bsz bgp ber bxs bus bys bme) s.heap.size = A at hD ⊢
  have hA : ∀ q : Nat, s.heap.size ≤ q → A q := fun q h => by rw [← hAe]; exact Or.inr h
  have hS : va_S A s.heap s.heap [] := va_S.rf
  have hP : va_P D vwCl (w_xkb ky aX aB aP aT aR aK aH aG aS ak ax au ay am ksz kmb kwa kra kla bsz bgp ber bxs bus bys bme) s.heap := hP
  have hl := lv_entry ([.ref aX, .int p0]) (n := 2) (Nat.le_of_ble_eq_true rfl)
  rw [lg_entry_eq]
  generalize (lg_sl ([.ref aX, .int p0]) ++ List.replicate (2 - (lg_sl ([.ref aX, .int p0])).length) Slot.unset).toArray = ls at hl ⊢
  have hl : lv_has ls 2 [(0, .ref aX), (1, .int p0)] := hl
  have C : cx p s m c ([.ref aX, .int p0]).toArray D ky A cX8_count 2 wsX8_count RX8 := ⟨hx, hb, hml, hown, hts, hK, hA⟩
  have hQ : ∀ (pc : Nat) (H : Heap) (locs : List Loc) (ls : Array Slot), decode cX8_count pc = .ok (.ireturn, 1) → va_P D vwCl (w_xkb ky aX aB aP aT aR aK aH aG aS ak ax au ay am ksz kmb kwa kra kla bsz bgp ber bxs bus bys bme) H → va_D A (w_xkb ky aX aB aP aT aR aK aH aG aS ak ax au ay am ksz kmb kwa kra kla bsz bgp ber bxs bus bys bme) → va_S A s.heap H locs → W p l e rm_X8_count s m ([.ref aX, .int p0]).toArray below meth c H locs 0 0 (MQ below (va_Qi (S := Unit) (fun r _ => r = res) (fun _ t => va_P D vwCl (w_xkb ky aX aB aP aT aR aK aH aG aS ak ax au ay am ksz kmb kwa kra kla bsz bgp ber bxs bus bys bme) t.heap ∧ va_K D vwCl (tyW ky) t ∧ va_D A (w_xkb ky aX aB aP aT aR aK aH aG aS ak ax au ay am ksz kmb kwa kra kla bsz bgp ber bxs bus bys bme)) A) ([.ref aX, .int p0]).toArray s 0 0 A) (F0 m pc ls [.int res]) := fun pc H locs ls hd hP hD hS => W.iret hx hb hr (fun t ht hW => ⟨⟨res, (), rfl, rfl, by rw [ht]; exact hP, va_K.moved hW.alike hK, hD⟩, hS.F ht⟩) hS.2.2 hd
  unfold f_X8_count at hF
  refine lv_iload_n hx hb dX8_count_0 rfl (lv_at hl 1 rfl) ?_
  by_cases cs_1_0 : p0 = (0 : Int32)
  · have hF := if_t cs_1_0 hF
    refine lv_tableIn (tgt := 36) hx hb dX8_count_1 (by rw [cs_1_0]; decide) (by rw [cs_1_0]; decide) (by rw [cs_1_0]; rfl) (by decide) ?_
    refine lv_aload_n hx hb dX8_count_36 rfl (lv_at hl 0 rfl) ?_
    refine va_get (D := D) (ci := 7) (v := .ref aB) (C := RX8) (T := TX8) (N := 8) hx hb hts iX8_count_X8 hown hK hP 0 rfl rfl 0 (by decide) (hts _ kX8_count_1) (fun _ h9 => h9) rfl dX8_count_37 ?_
    obtain ⟨r2, h1, hF⟩ := b1_s hF
    refine cl_vi (As := []) (rest := []) (w' := (w_xkb ky aX aB aP aT aR aK aH aG aS ak ax au ay am ksz kmb kwa kra kla bsz bgp ber bxs bus bys bme)) ⟨hx, hb, hml, hown, hts⟩ hK hP hD hS hA (c_X0_size l D ky aB ax au ay am _ N  bsz bgp ber bxs bus bys bme  r2 h1) (cwV 0 hts gX8_count_X0_size rfl rfl rfl (by decide +kernel) ⟨Nat.le_of_ble_eq_true rfl, Nat.le_of_ble_eq_true rfl⟩) [3, 4, 5, 6, 7] [0, 1, 2] [0, 1, 2, 3, 4, 5, 6, 7] 0 0 rfl rfl rfl rfl (wr := [(aX, .inr (7, [.ref aB, .ref aP, .ref aT, .ref aR, .ref aK, .ref aH, .ref aG, .ref aS])), (aK, .inr (2, [.ref ak, .int ksz, .int kmb, .int kwa, .int kra])), (ak, .inl (ky 0, 4, .inl kla))]) rfl (by decide) rfl rfl hl.1 (Nat.le_of_ble_eq_true rfl) dX8_count_40 ⟨Nat.zero_le _, Nat.zero_le _⟩ (fun H locs hP hD hS => ?_)
    have hF := Option.some.inj hF
    subst hF
    exact hQ _ _ _ _ dX8_count_43 hP hD hS
  · have hF := if_f cs_1_0 hF
    by_cases cs_1_1 : p0 = (1 : Int32)
    · have hF := if_t cs_1_1 hF
      refine lv_tableIn (tgt := 44) hx hb dX8_count_1 (by rw [cs_1_1]; decide) (by rw [cs_1_1]; decide) (by rw [cs_1_1]; rfl) (by decide) ?_
      refine lv_aload_n hx hb dX8_count_44 rfl (lv_at hl 0 rfl) ?_
      refine va_get (D := D) (ci := 7) (v := .ref aB) (C := RX8) (T := TX8) (N := 8) hx hb hts iX8_count_X8 hown hK hP 0 rfl rfl 0 (by decide) (hts _ kX8_count_1) (fun _ h9 => h9) rfl dX8_count_45 ?_
      obtain ⟨r4, h3, hF⟩ := b1_s hF
      refine cl_vi (As := []) (rest := []) (w' := (w_xkb ky aX aB aP aT aR aK aH aG aS ak ax au ay am ksz kmb kwa kra kla bsz bgp ber bxs bus bys bme)) ⟨hx, hb, hml, hown, hts⟩ hK hP hD hS hA (c_X0_gapCount l D ky aB ax au ay am _ N  bsz bgp ber bxs bus bys bme  r4 h3) (cwV 0 hts gX8_count_X0_gapCount rfl rfl rfl (by decide +kernel) ⟨Nat.le_of_ble_eq_true rfl, Nat.le_of_ble_eq_true rfl⟩) [3, 4, 5, 6, 7] [0, 1, 2] [0, 1, 2, 3, 4, 5, 6, 7] 0 0 rfl rfl rfl rfl (wr := [(aX, .inr (7, [.ref aB, .ref aP, .ref aT, .ref aR, .ref aK, .ref aH, .ref aG, .ref aS])), (aK, .inr (2, [.ref ak, .int ksz, .int kmb, .int kwa, .int kra])), (ak, .inl (ky 0, 4, .inl kla))]) rfl (by decide) rfl rfl hl.1 (Nat.le_of_ble_eq_true rfl) dX8_count_48 ⟨Nat.zero_le _, Nat.zero_le _⟩ (fun H locs hP hD hS => ?_)
      have hF := Option.some.inj hF
      subst hF
      exact hQ _ _ _ _ dX8_count_51 hP hD hS
    · have hF := if_f cs_1_1 hF
      by_cases cs_1_2 : p0 = (2 : Int32)
      · have hF := if_t cs_1_2 hF
        refine lv_tableIn (tgt := 52) hx hb dX8_count_1 (by rw [cs_1_2]; decide) (by rw [cs_1_2]; decide) (by rw [cs_1_2]; rfl) (by decide) ?_
        refine lv_aload_n hx hb dX8_count_52 rfl (lv_at hl 0 rfl) ?_
        refine va_get (D := D) (ci := 7) (v := .ref aK) (C := RX8) (T := TX8) (N := 8) hx hb hts iX8_count_X8 hown hK hP 0 rfl rfl 4 (by decide) (hts _ kX8_count_2) (fun _ h9 => h9) rfl dX8_count_53 ?_
        obtain ⟨r6, h5, hF⟩ := b1_s hF
        refine cl_vi (As := []) (rest := []) (w' := (w_xkb ky aX aB aP aT aR aK aH aG aS ak ax au ay am ksz kmb kwa kra kla bsz bgp ber bxs bus bys bme)) ⟨hx, hb, hml, hown, hts⟩ hK hP hD hS hA (c_X2_size l D ky aK ak _ N  ksz kmb kwa kra kla  r6 h5) (cwV 0 hts gX8_count_X2_size rfl rfl rfl (by decide +kernel) ⟨Nat.le_of_ble_eq_true rfl, Nat.le_of_ble_eq_true rfl⟩) [1, 2] [0, 3, 4, 5, 6, 7] [0, 6, 7, 1, 2, 3, 4, 5] 0 2 rfl rfl rfl rfl (wr := [(aX, .inr (7, [.ref aB, .ref aP, .ref aT, .ref aR, .ref aK, .ref aH, .ref aG, .ref aS])), (aB, .inr (0, [.ref ax, .ref au, .ref ay, .ref am, .int bsz, .int bgp, .int ber])), (ax, .inl (ky 0, 12, .inl bxs)), (au, .inl (ky 0, 12, .inl bus)), (ay, .inl (ky 0, 12, .inl bys)), (am, .inl (ky 0, 289, .inl bme))]) rfl (by decide) rfl rfl hl.1 (Nat.le_of_ble_eq_true rfl) dX8_count_56 ⟨Nat.zero_le _, Nat.zero_le _⟩ (fun H locs hP hD hS => ?_)
        have hF := Option.some.inj hF
        subst hF
        exact hQ _ _ _ _ dX8_count_59 hP hD hS
      · have hF := if_f cs_1_2 hF
        by_cases cs_1_3 : p0 = (3 : Int32)
        · have hF := if_t cs_1_3 hF
          refine lv_tableIn (tgt := 60) hx hb dX8_count_1 (by rw [cs_1_3]; decide) (by rw [cs_1_3]; decide) (by rw [cs_1_3]; rfl) (by decide) ?_
          refine lv_aload_n hx hb dX8_count_60 rfl (lv_at hl 0 rfl) ?_
          refine va_get (D := D) (ci := 7) (v := .ref aK) (C := RX8) (T := TX8) (N := 8) hx hb hts iX8_count_X8 hown hK hP 0 rfl rfl 4 (by decide) (hts _ kX8_count_2) (fun _ h9 => h9) rfl dX8_count_61 ?_
          obtain ⟨r8, h7, hF⟩ := b1_s hF
          refine cl_vi (As := []) (rest := []) (w' := (w_xkb ky aX aB aP aT aR aK aH aG aS ak ax au ay am ksz kmb kwa kra kla bsz bgp ber bxs bus bys bme)) ⟨hx, hb, hml, hown, hts⟩ hK hP hD hS hA (c_X2_watchedCount l D ky aK ak _ N  ksz kmb kwa kra kla  r8 h7) (cwV 0 hts gX8_count_X2_watchedCount rfl rfl rfl (by decide +kernel) ⟨Nat.le_of_ble_eq_true rfl, Nat.le_of_ble_eq_true rfl⟩) [1, 2] [0, 3, 4, 5, 6, 7] [0, 6, 7, 1, 2, 3, 4, 5] 0 2 rfl rfl rfl rfl (wr := [(aX, .inr (7, [.ref aB, .ref aP, .ref aT, .ref aR, .ref aK, .ref aH, .ref aG, .ref aS])), (aB, .inr (0, [.ref ax, .ref au, .ref ay, .ref am, .int bsz, .int bgp, .int ber])), (ax, .inl (ky 0, 12, .inl bxs)), (au, .inl (ky 0, 12, .inl bus)), (ay, .inl (ky 0, 12, .inl bys)), (am, .inl (ky 0, 289, .inl bme))]) rfl (by decide) rfl rfl hl.1 (Nat.le_of_ble_eq_true rfl) dX8_count_64 ⟨Nat.zero_le _, Nat.zero_le _⟩ (fun H locs hP hD hS => ?_)
          have hF := Option.some.inj hF
          subst hF
          exact hQ _ _ _ _ dX8_count_67 hP hD hS
        · have hF := if_f cs_1_3 hF
          by_cases cs_1_4 : p0 = (4 : Int32)
          · have hF := if_t cs_1_4 hF
            refine lv_tableIn (tgt := 68) hx hb dX8_count_1 (by rw [cs_1_4]; decide) (by rw [cs_1_4]; decide) (by rw [cs_1_4]; rfl) (by decide) ?_
            refine lv_aload_n hx hb dX8_count_68 rfl (lv_at hl 0 rfl) ?_
            refine va_get (D := D) (ci := 7) (v := .ref aK) (C := RX8) (T := TX8) (N := 8) hx hb hts iX8_count_X8 hown hK hP 0 rfl rfl 4 (by decide) (hts _ kX8_count_2) (fun _ h9 => h9) rfl dX8_count_69 ?_
            obtain ⟨r10, h9, hF⟩ := b1_s hF
            refine cl_vi (As := []) (rest := []) (w' := (w_xkb ky aX aB aP aT aR aK aH aG aS ak ax au ay am ksz kmb kwa kra kla bsz bgp ber bxs bus bys bme)) ⟨hx, hb, hml, hown, hts⟩ hK hP hD hS hA (c_X2_rangCount l D ky aK ak _ N  ksz kmb kwa kra kla  r10 h9) (cwV 0 hts gX8_count_X2_rangCount rfl rfl rfl (by decide +kernel) ⟨Nat.le_of_ble_eq_true rfl, Nat.le_of_ble_eq_true rfl⟩) [1, 2] [0, 3, 4, 5, 6, 7] [0, 6, 7, 1, 2, 3, 4, 5] 0 2 rfl rfl rfl rfl (wr := [(aX, .inr (7, [.ref aB, .ref aP, .ref aT, .ref aR, .ref aK, .ref aH, .ref aG, .ref aS])), (aB, .inr (0, [.ref ax, .ref au, .ref ay, .ref am, .int bsz, .int bgp, .int ber])), (ax, .inl (ky 0, 12, .inl bxs)), (au, .inl (ky 0, 12, .inl bus)), (ay, .inl (ky 0, 12, .inl bys)), (am, .inl (ky 0, 289, .inl bme))]) rfl (by decide) rfl rfl hl.1 (Nat.le_of_ble_eq_true rfl) dX8_count_72 ⟨Nat.zero_le _, Nat.zero_le _⟩ (fun H locs hP hD hS => ?_)
            have hF := Option.some.inj hF
            subst hF
            exact hQ _ _ _ _ dX8_count_75 hP hD hS
          · have hF := if_f cs_1_4 hF
            refine lv_tableOut (tgt := 76) hx hb dX8_count_1 (sw_out cs_1_0 cs_1_1 cs_1_2 cs_1_3 cs_1_4) (by decide) ?_
            refine lv_iconst (v := (-1 : Int32)) hx hb dX8_count_76 (by decide) ?_
            have hF := Option.some.inj hF
            subst hF
            exact hQ _ _ _ _ dX8_count_77 hP hD hS
theorem c_X8_count (l : Launch) (D : va_G) (ky : Nat → ClassId) (aX aB aP aT aR aK aH aG aS ak ax au ay am : Nat) (sz N : Nat)  (ksz : Int32) (kmb : Int32) (kwa : Int32) (kra : Int32) (kla : Nat → Int32) (bsz : Int32) (bgp : Int32) (ber : Int32) (bxs : Nat → Int32) (bus : Nat → Int32) (bys : Nat → Int32) (bme : Nat → Int32) (p0 : Int32) (rv : Int32) (hF : f_X8_count N p0 ksz kwa kra bsz bgp = some (rv)) : MI l yX8_count wsX8_count rm_X8_count D ky sz [.ref aX, .int p0] (w_xkb ky aX aB aP aT aR aK aH aG aS ak ax au ay am ksz kmb kwa kra kla bsz bgp ber bxs bus bys bme) (w_xkb ky aX aB aP aT aR aK aH aG aS ak ax au ay am ksz kmb kwa kra kla bsz bgp ber bxs bus bys bme) rv :=
  cr_X8_count l D ky aX aB aP aT aR aK aH aG aS ak ax au ay am sz N ksz kmb kwa kra kla bsz bgp ber bxs bus bys bme p0 (rv) hF
abbrev rm_X8_fewest : Room := { frames := 4, cells := 0, slots := 0, locals := 90 }
theorem iX8_fewest_X8 : ∀ w ∈ wsX80, w ∈ wsX8_fewest := by decide +kernel
theorem kX8_fewest_1 : (Cond.fieldLink RX8 19 "TwoLaws" "partings" "LTwoLaws$Partings;") ∈ wsX8_fewest := by decide +kernel
theorem kX8_fewest_2 : (Cond.fieldLink RX8 10 "TwoLaws" "book" "LTwoLaws$Book;") ∈ wsX8_fewest := by decide +kernel
set_option maxHeartbeats 4000000 in
set_option maxRecDepth 100000 in
theorem cr_X8_fewest (l : Launch) (D : va_G) (ky : Nat → ClassId) (aX aB aP aT aR aK aH aG aS ag al ax au ay am : Nat) (sz N : Nat)  (pgc : Int32) (prc : Int32) (pgr : Nat → Int32) (pla : Nat → Int32) (bsz : Int32) (bgp : Int32) (ber : Int32) (bxs : Nat → Int32) (bus : Nat → Int32) (bys : Nat → Int32) (bme : Nat → Int32)  (res : Int32 × Int32 × Int32 × (Nat → Int32) × (Nat → Int32)) (hF : f_X8_fewest N pgc prc pgr pla bsz bme = some res) : MI l yX8_fewest wsX8_fewest rm_X8_fewest D ky sz [.ref aX] (w_xpart ky aX aB aP aT aR aK aH aG aS ag al ax au ay am pgc prc pgr pla bsz bgp ber bxs bus bys bme) (w_xpart ky aX aB aP aT aR aK aH aG aS ag al ax au ay am res.2.1 res.2.2.1 res.2.2.2.1 res.2.2.2.2 bsz bgp ber bxs bus bys bme) res.1 := by
  unfold MI
  refine Met.ofW (cc := cX8_fewest) (maxL := 1) (ret := (some .int)) (by decide) rfl ?_
  intro p e s m args below meth c s₁ B hml hv
  obtain ⟨rfl, hsz, hP, hK, hD0⟩ := hv
  have hx := B.exec
  have hb := B.bytes
  have hr := B.returns
  have hts := atoms_spec (ws := wsX8_fewest) B.pre
  have hown : s.vm.findClass RX8 = some m.cls := findClass_of_methodNamed B.named
  have hlocks := B.notSynchronized
  subst hsz
  have hD := hD0.self (sz := s.heap.size)
  generalize hAe : va_A (w_xpart ky aX aB aP aT aR aK aH aG aS ag al ax au ay am pgc prc pgr pla bsz bgp ber bxs bus bys bme) s.heap.size = A at hD ⊢
  have hA : ∀ q : Nat, s.heap.size ≤ q → A q := fun q h => by rw [← hAe]; exact Or.inr h
  have hS : va_S A s.heap s.heap [] := va_S.rf
  have hP : va_P D vwCl (w_xpart ky aX aB aP aT aR aK aH aG aS ag al ax au ay am pgc prc pgr pla bsz bgp ber bxs bus bys bme) s.heap := hP
  have hl := lv_entry ([.ref aX]) (n := 1) (Nat.le_of_ble_eq_true rfl)
  rw [lg_entry_eq]
  generalize (lg_sl ([.ref aX]) ++ List.replicate (1 - (lg_sl ([.ref aX])).length) Slot.unset).toArray = ls at hl ⊢
  have hl : lv_has ls 1 [(0, .ref aX)] := hl
  have C : cx p s m c ([.ref aX]).toArray D ky A cX8_fewest 1 wsX8_fewest RX8 := ⟨hx, hb, hml, hown, hts, hK, hA⟩
  have hQ : ∀ (pc : Nat) (H : Heap) (locs : List Loc) (ls : Array Slot), decode cX8_fewest pc = .ok (.ireturn, 1) → va_P D vwCl (w_xpart ky aX aB aP aT aR aK aH aG aS ag al ax au ay am res.2.1 res.2.2.1 res.2.2.2.1 res.2.2.2.2 bsz bgp ber bxs bus bys bme) H → va_D A (w_xpart ky aX aB aP aT aR aK aH aG aS ag al ax au ay am res.2.1 res.2.2.1 res.2.2.2.1 res.2.2.2.2 bsz bgp ber bxs bus bys bme) → va_S A s.heap H locs → W p l e rm_X8_fewest s m ([.ref aX]).toArray below meth c H locs 0 0 (MQ below (va_Qi (S := Unit) (fun r _ => r = res.1) (fun _ t => va_P D vwCl (w_xpart ky aX aB aP aT aR aK aH aG aS ag al ax au ay am res.2.1 res.2.2.1 res.2.2.2.1 res.2.2.2.2 bsz bgp ber bxs bus bys bme) t.heap ∧ va_K D vwCl (tyW ky) t ∧ va_D A (w_xpart ky aX aB aP aT aR aK aH aG aS ag al ax au ay am res.2.1 res.2.2.1 res.2.2.2.1 res.2.2.2.2 bsz bgp ber bxs bus bys bme)) A) ([.ref aX]).toArray s 0 0 A) (F0 m pc ls [.int res.1]) := fun pc H locs ls hd hP hD hS => W.iret hx hb hr (fun t ht hW => ⟨⟨res.1, (), rfl, rfl, by rw [ht]; exact hP, va_K.moved hW.alike hK, hD⟩, hS.F ht⟩) hS.2.2 hd
  unfold f_X8_fewest at hF
  refine lv_aload_n hx hb dX8_fewest_0 rfl (lv_at hl 0 rfl) ?_
  refine va_get (D := D) (ci := 7) (v := .ref aP) (C := RX8) (T := TX8) (N := 8) hx hb hts iX8_fewest_X8 hown hK hP 0 rfl rfl 1 (by decide) (hts _ kX8_fewest_1) (fun _ h9 => h9) rfl dX8_fewest_1 ?_
  refine lv_aload_n hx hb dX8_fewest_4 rfl (lv_at hl 0 rfl) ?_
  refine va_get (D := D) (ci := 7) (v := .ref aB) (C := RX8) (T := TX8) (N := 8) hx hb hts iX8_fewest_X8 hown hK hP 0 rfl rfl 0 (by decide) (hts _ kX8_fewest_2) (fun _ h9 => h9) rfl dX8_fewest_5 ?_
  obtain ⟨r2, v3, v4, v5, v6, h1, hF⟩ := b5_s hF
  refine cl_vi (As := [.ref aB]) (rest := []) (w' := (w_xpart ky aX aB aP aT aR aK aH aG aS ag al ax au ay am v3 v4 v5 v6 bsz bgp ber bxs bus bys bme)) ⟨hx, hb, hml, hown, hts⟩ hK hP hD hS hA (c_X4_leastLaws l D ky aP ag al aB ax au ay am _ N  pgc prc pgr pla bsz bgp ber bxs bus bys bme  r2 v3 v4 v5 v6 h1) (cwV 1 hts gX8_fewest_X4_leastLaws rfl rfl rfl (by decide +kernel) ⟨Nat.le_of_ble_eq_true rfl, Nat.le_of_ble_eq_true rfl⟩) [1, 2, 3, 4, 5, 6, 7, 8] [0] [0, 1, 2, 3, 4, 5, 6, 7, 8] 0 3 rfl rfl rfl rfl (wr := [(aX, .inr (7, [.ref aB, .ref aP, .ref aT, .ref aR, .ref aK, .ref aH, .ref aG, .ref aS]))]) rfl (by decide) rfl rfl hl.1 (Nat.le_of_ble_eq_true rfl) dX8_fewest_8 ⟨Nat.zero_le _, Nat.zero_le _⟩ (fun H locs hP hD hS => ?_)
  have hF := Option.some.inj hF
  subst hF
  exact hQ _ _ _ _ dX8_fewest_11 hP hD hS
theorem c_X8_fewest (l : Launch) (D : va_G) (ky : Nat → ClassId) (aX aB aP aT aR aK aH aG aS ag al ax au ay am : Nat) (sz N : Nat)  (pgc : Int32) (prc : Int32) (pgr : Nat → Int32) (pla : Nat → Int32) (bsz : Int32) (bgp : Int32) (ber : Int32) (bxs : Nat → Int32) (bus : Nat → Int32) (bys : Nat → Int32) (bme : Nat → Int32)  (rv : Int32) (pgc' : Int32) (prc' : Int32) (pgr' : Nat → Int32) (pla' : Nat → Int32) (hF : f_X8_fewest N pgc prc pgr pla bsz bme = some (rv, pgc', prc', pgr', pla')) : MI l yX8_fewest wsX8_fewest rm_X8_fewest D ky sz [.ref aX] (w_xpart ky aX aB aP aT aR aK aH aG aS ag al ax au ay am pgc prc pgr pla bsz bgp ber bxs bus bys bme) (w_xpart ky aX aB aP aT aR aK aH aG aS ag al ax au ay am pgc' prc' pgr' pla' bsz bgp ber bxs bus bys bme) rv :=
  cr_X8_fewest l D ky aX aB aP aT aR aK aH aG aS ag al ax au ay am sz N pgc prc pgr pla bsz bgp ber bxs bus bys bme (rv, pgc', prc', pgr', pla') hF
abbrev rm_X8_letGo : Room := { frames := 4, cells := 0, slots := 0, locals := 92 }
theorem iX8_letGo_X8 : ∀ w ∈ wsX80, w ∈ wsX8_letGo := by decide +kernel
theorem kX8_letGo_1 : (Cond.fieldLink RX8 19 "TwoLaws" "partings" "LTwoLaws$Partings;") ∈ wsX8_letGo := by decide +kernel
theorem kX8_letGo_2 : (Cond.fieldLink RX8 10 "TwoLaws" "book" "LTwoLaws$Book;") ∈ wsX8_letGo := by decide +kernel
set_option maxHeartbeats 4000000 in
set_option maxRecDepth 100000 in
theorem cr_X8_letGo (l : Launch) (D : va_G) (ky : Nat → ClassId) (aX aB aP aT aR aK aH aG aS ag al ax au ay am : Nat) (sz N : Nat)  (pgc : Int32) (prc : Int32) (pgr : Nat → Int32) (pla : Nat → Int32) (bsz : Int32) (bgp : Int32) (ber : Int32) (bxs : Nat → Int32) (bus : Nat → Int32) (bys : Nat → Int32) (bme : Nat → Int32) (p0 : Int32) (p1 : Int32) (res : Int32 × Int32 × Int32 × (Nat → Int32) × (Nat → Int32)) (hF : f_X8_letGo N p0 p1 pgc prc pgr pla bsz bme = some res) : MI l yX8_letGo wsX8_letGo rm_X8_letGo D ky sz [.ref aX, .int p0, .int p1] (w_xpart ky aX aB aP aT aR aK aH aG aS ag al ax au ay am pgc prc pgr pla bsz bgp ber bxs bus bys bme) (w_xpart ky aX aB aP aT aR aK aH aG aS ag al ax au ay am res.2.1 res.2.2.1 res.2.2.2.1 res.2.2.2.2 bsz bgp ber bxs bus bys bme) res.1 := by
  unfold MI
  refine Met.ofW (cc := cX8_letGo) (maxL := 4) (ret := (some .int)) (by decide) rfl ?_
  intro p e s m args below meth c s₁ B hml hv
  obtain ⟨rfl, hsz, hP, hK, hD0⟩ := hv
  have hx := B.exec
  have hb := B.bytes
  have hr := B.returns
  have hts := atoms_spec (ws := wsX8_letGo) B.pre
  have hown : s.vm.findClass RX8 = some m.cls := findClass_of_methodNamed B.named
  have hlocks := B.notSynchronized
  subst hsz
  have hD := hD0.self (sz := s.heap.size)
  generalize hAe : va_A (w_xpart ky aX aB aP aT aR aK aH aG aS ag al ax au ay am pgc prc pgr pla bsz bgp ber bxs bus bys bme) s.heap.size = A at hD ⊢
  have hA : ∀ q : Nat, s.heap.size ≤ q → A q := fun q h => by rw [← hAe]; exact Or.inr h
  have hS : va_S A s.heap s.heap [] := va_S.rf
  have hP : va_P D vwCl (w_xpart ky aX aB aP aT aR aK aH aG aS ag al ax au ay am pgc prc pgr pla bsz bgp ber bxs bus bys bme) s.heap := hP
  have hl := lv_entry ([.ref aX, .int p0, .int p1]) (n := 4) (Nat.le_of_ble_eq_true rfl)
  rw [lg_entry_eq]
  generalize (lg_sl ([.ref aX, .int p0, .int p1]) ++ List.replicate (4 - (lg_sl ([.ref aX, .int p0, .int p1])).length) Slot.unset).toArray = ls at hl ⊢
  have hl : lv_has ls 4 [(0, .ref aX), (1, .int p0), (2, .int p1)] := hl
  have C : cx p s m c ([.ref aX, .int p0, .int p1]).toArray D ky A cX8_letGo 4 wsX8_letGo RX8 := ⟨hx, hb, hml, hown, hts, hK, hA⟩
  have hQ : ∀ (pc : Nat) (H : Heap) (locs : List Loc) (ls : Array Slot), decode cX8_letGo pc = .ok (.ireturn, 1) → va_P D vwCl (w_xpart ky aX aB aP aT aR aK aH aG aS ag al ax au ay am res.2.1 res.2.2.1 res.2.2.2.1 res.2.2.2.2 bsz bgp ber bxs bus bys bme) H → va_D A (w_xpart ky aX aB aP aT aR aK aH aG aS ag al ax au ay am res.2.1 res.2.2.1 res.2.2.2.1 res.2.2.2.2 bsz bgp ber bxs bus bys bme) → va_S A s.heap H locs → W p l e rm_X8_letGo s m ([.ref aX, .int p0, .int p1]).toArray below meth c H locs 0 0 (MQ below (va_Qi (S := Unit) (fun r _ => r = res.1) (fun _ t => va_P D vwCl (w_xpart ky aX aB aP aT aR aK aH aG aS ag al ax au ay am res.2.1 res.2.2.1 res.2.2.2.1 res.2.2.2.2 bsz bgp ber bxs bus bys bme) t.heap ∧ va_K D vwCl (tyW ky) t ∧ va_D A (w_xpart ky aX aB aP aT aR aK aH aG aS ag al ax au ay am res.2.1 res.2.2.1 res.2.2.2.1 res.2.2.2.2 bsz bgp ber bxs bus bys bme)) A) ([.ref aX, .int p0, .int p1]).toArray s 0 0 A) (F0 m pc ls [.int res.1]) := fun pc H locs ls hd hP hD hS => W.iret hx hb hr (fun t ht hW => ⟨⟨res.1, (), rfl, rfl, by rw [ht]; exact hP, va_K.moved hW.alike hK, hD⟩, hS.F ht⟩) hS.2.2 hd
  unfold f_X8_letGo at hF
  refine lv_iload_n hx hb dX8_letGo_0 rfl (lv_at hl 1 rfl) ?_
  refine lv_if_lt (tgt := 19) hx hb dX8_letGo_1 (by decide) (fun c1 => ?_) (fun c1 => ?_)
  · have hF := if_t c1 hF
    refine lv_iconst (v := (-1 : Int32)) hx hb dX8_letGo_19 (by decide) ?_
    have hF := Option.some.inj hF
    subst hF
    exact hQ _ _ _ _ dX8_letGo_20 hP hD hS
  · have hF := if_f c1 hF
    refine lv_iload_n hx hb dX8_letGo_4 rfl (lv_at hl 1 rfl) ?_
    refine lv_bipush (v := (6 : Int32)) hx hb dX8_letGo_5 (by decide) ?_
    refine lv_icmp_gt (tgt := 19) hx hb dX8_letGo_7 (by decide) (fun c2 => ?_) (fun c2 => ?_)
    · have hF := if_t c2 hF
      refine lv_iconst (v := (-1 : Int32)) hx hb dX8_letGo_19 (by decide) ?_
      have hF := Option.some.inj hF
      subst hF
      exact hQ _ _ _ _ dX8_letGo_20 hP hD hS
    · have hF := if_f c2 hF
      refine lv_iload_n hx hb dX8_letGo_10 rfl (lv_at hl 2 rfl) ?_
      refine lv_if_lt (tgt := 19) hx hb dX8_letGo_11 (by decide) (fun c3 => ?_) (fun c3 => ?_)
      · have hF := if_t c3 hF
        refine lv_iconst (v := (-1 : Int32)) hx hb dX8_letGo_19 (by decide) ?_
        have hF := Option.some.inj hF
        subst hF
        exact hQ _ _ _ _ dX8_letGo_20 hP hD hS
      · have hF := if_f c3 hF
        refine lv_iload_n hx hb dX8_letGo_14 rfl (lv_at hl 2 rfl) ?_
        refine lv_iconst (v := (1 : Int32)) hx hb dX8_letGo_15 (by decide) ?_
        refine lv_icmp_le (tgt := 21) hx hb dX8_letGo_16 (by decide) (fun c4 => ?_) (fun c4 => ?_)
        · have hF := if_t c4 hF
          refine lv_aload_n hx hb dX8_letGo_21 rfl (lv_at hl 0 rfl) ?_
          refine va_get (D := D) (ci := 7) (v := .ref aP) (C := RX8) (T := TX8) (N := 8) hx hb hts iX8_letGo_X8 hown hK hP 0 rfl rfl 1 (by decide) (hts _ kX8_letGo_1) (fun _ h9 => h9) rfl dX8_letGo_22 ?_
          refine lv_aload_n hx hb dX8_letGo_25 rfl (lv_at hl 0 rfl) ?_
          refine va_get (D := D) (ci := 7) (v := .ref aB) (C := RX8) (T := TX8) (N := 8) hx hb hts iX8_letGo_X8 hown hK hP 0 rfl rfl 0 (by decide) (hts _ kX8_letGo_2) (fun _ h9 => h9) rfl dX8_letGo_26 ?_
          refine lv_iload_n hx hb dX8_letGo_29 rfl (lv_at hl 1 rfl) ?_
          obtain ⟨r6, v7, v8, v9, v10, h5, hF⟩ := b5_s hF
          refine cl_vi (As := [.ref aB, .int p0]) (rest := []) (w' := (w_xpart ky aX aB aP aT aR aK aH aG aS ag al ax au ay am v7 v8 v9 v10 bsz bgp ber bxs bus bys bme)) ⟨hx, hb, hml, hown, hts⟩ hK hP hD hS hA (c_X4_leftOut l D ky aP ag al aB ax au ay am _ N  pgc prc pgr pla bsz bgp ber bxs bus bys bme p0 r6 v7 v8 v9 v10 h5) (cwV 2 hts gX8_letGo_X4_leftOut rfl rfl rfl (by decide +kernel) ⟨Nat.le_of_ble_eq_true rfl, Nat.le_of_ble_eq_true rfl⟩) [1, 2, 3, 4, 5, 6, 7, 8] [0] [0, 1, 2, 3, 4, 5, 6, 7, 8] 0 3 rfl rfl rfl rfl (wr := [(aX, .inr (7, [.ref aB, .ref aP, .ref aT, .ref aR, .ref aK, .ref aH, .ref aG, .ref aS]))]) rfl (by decide) rfl rfl hl.1 (Nat.le_of_ble_eq_true rfl) dX8_letGo_30 ⟨Nat.zero_le _, Nat.zero_le _⟩ (fun H locs hP hD hS => ?_)
          refine lv_istore_n (lv' := [(3, .int r6), (0, .ref aX), (1, .int p0), (2, .int p1)]) hx hb dX8_letGo_33 rfl hl (by decide) rfl (fun ls hl => ?_)
          refine lv_iload_n hx hb dX8_letGo_34 rfl (lv_at hl 3 rfl) ?_
          refine lv_if_ne (tgt := 45) hx hb dX8_letGo_35 (by decide) (fun c11 => ?_) (fun c11 => ?_)
          · have hF := if_f c11 hF
            refine lv_iload_n hx hb dX8_letGo_45 rfl (lv_at hl 0 rfl) ?_
            have hF := Option.some.inj hF
            subst hF
            exact hQ _ _ _ _ dX8_letGo_46 hP hD hS
          · have hF := if_t c11 hF
            refine lv_iload_n hx hb dX8_letGo_38 rfl (lv_at hl 0 rfl) ?_
            obtain ⟨r13, h12, hF⟩ := b1_s hF
            refine cl_si (As := [.int r6]) (rest := []) ⟨hx, hb, hml, hown, hts⟩ hK hP hD hS hA (c_J6_bitCount_0f7a4 l D ky  _ N   r6 r13 h12) (va_cwS 1 hts gX8_letGo_J6_bitCount_0f7a4 rfl rfl rfl (by decide +kernel) ⟨Nat.le_of_ble_eq_true rfl, Nat.le_of_ble_eq_true rfl⟩) rfl hl.1 (Nat.le_of_ble_eq_true rfl) dX8_letGo_39 ⟨Nat.zero_le _, Nat.zero_le _⟩ (fun H locs hP hD hS => ?_)
            refine lv_goto (tgt := 46) hx hb dX8_letGo_42 (by decide) ?_
            have hF := Option.some.inj hF
            subst hF
            exact hQ _ _ _ _ dX8_letGo_46 hP hD hS
        · have hF := if_f c4 hF
          refine lv_iconst (v := (-1 : Int32)) hx hb dX8_letGo_19 (by decide) ?_
          have hF := Option.some.inj hF
          subst hF
          exact hQ _ _ _ _ dX8_letGo_20 hP hD hS
theorem c_X8_letGo (l : Launch) (D : va_G) (ky : Nat → ClassId) (aX aB aP aT aR aK aH aG aS ag al ax au ay am : Nat) (sz N : Nat)  (pgc : Int32) (prc : Int32) (pgr : Nat → Int32) (pla : Nat → Int32) (bsz : Int32) (bgp : Int32) (ber : Int32) (bxs : Nat → Int32) (bus : Nat → Int32) (bys : Nat → Int32) (bme : Nat → Int32) (p0 : Int32) (p1 : Int32) (rv : Int32) (pgc' : Int32) (prc' : Int32) (pgr' : Nat → Int32) (pla' : Nat → Int32) (hF : f_X8_letGo N p0 p1 pgc prc pgr pla bsz bme = some (rv, pgc', prc', pgr', pla')) : MI l yX8_letGo wsX8_letGo rm_X8_letGo D ky sz [.ref aX, .int p0, .int p1] (w_xpart ky aX aB aP aT aR aK aH aG aS ag al ax au ay am pgc prc pgr pla bsz bgp ber bxs bus bys bme) (w_xpart ky aX aB aP aT aR aK aH aG aS ag al ax au ay am pgc' prc' pgr' pla' bsz bgp ber bxs bus bys bme) rv :=
  cr_X8_letGo l D ky aX aB aP aT aR aK aH aG aS ag al ax au ay am sz N pgc prc pgr pla bsz bgp ber bxs bus bys bme p0 p1 (rv, pgc', prc', pgr', pla') hF
abbrev rm_X8_together : Room := { frames := 5, cells := 0, slots := 0, locals := 114 }
theorem iX8_together_X8 : ∀ w ∈ wsX80, w ∈ wsX8_together := by decide +kernel
theorem kX8_together_1 : (Cond.fieldLink RX8 10 "TwoLaws" "book" "LTwoLaws$Book;") ∈ wsX8_together := by decide +kernel
theorem kX8_together_2 : (Cond.fieldLink RX8 19 "TwoLaws" "partings" "LTwoLaws$Partings;") ∈ wsX8_together := by decide +kernel
set_option maxHeartbeats 4000000 in
set_option maxRecDepth 100000 in
theorem cr_X8_together (l : Launch) (D : va_G) (ky : Nat → ClassId) (aX aB aP aT aR aK aH aG aS ag al ax au ay am : Nat) (sz N : Nat)  (pgc : Int32) (prc : Int32) (pgr : Nat → Int32) (pla : Nat → Int32) (bsz : Int32) (bgp : Int32) (ber : Int32) (bxs : Nat → Int32) (bus : Nat → Int32) (bys : Nat → Int32) (bme : Nat → Int32) (p0 : Int32) (p1 : Int32) (res : Int32 × Int32 × Int32 × (Nat → Int32) × (Nat → Int32)) (hF : f_X8_together N p0 p1 pgc prc pgr pla bsz bme = some res) : MI l yX8_together wsX8_together rm_X8_together D ky sz [.ref aX, .int p0, .int p1] (w_xpart ky aX aB aP aT aR aK aH aG aS ag al ax au ay am pgc prc pgr pla bsz bgp ber bxs bus bys bme) (w_xpart ky aX aB aP aT aR aK aH aG aS ag al ax au ay am res.2.1 res.2.2.1 res.2.2.2.1 res.2.2.2.2 bsz bgp ber bxs bus bys bme) res.1 := by
  unfold MI
  refine Met.ofW (cc := cX8_together) (maxL := 3) (ret := (some .int)) (by decide) rfl ?_
  intro p e s m args below meth c s₁ B hml hv
  obtain ⟨rfl, hsz, hP, hK, hD0⟩ := hv
  have hx := B.exec
  have hb := B.bytes
  have hr := B.returns
  have hts := atoms_spec (ws := wsX8_together) B.pre
  have hown : s.vm.findClass RX8 = some m.cls := findClass_of_methodNamed B.named
  have hlocks := B.notSynchronized
  subst hsz
  have hD := hD0.self (sz := s.heap.size)
  generalize hAe : va_A (w_xpart ky aX aB aP aT aR aK aH aG aS ag al ax au ay am pgc prc pgr pla bsz bgp ber bxs bus bys bme) s.heap.size = A at hD ⊢
  have hA : ∀ q : Nat, s.heap.size ≤ q → A q := fun q h => by rw [← hAe]; exact Or.inr h
  have hS : va_S A s.heap s.heap [] := va_S.rf
  have hP : va_P D vwCl (w_xpart ky aX aB aP aT aR aK aH aG aS ag al ax au ay am pgc prc pgr pla bsz bgp ber bxs bus bys bme) s.heap := hP
  have hl := lv_entry ([.ref aX, .int p0, .int p1]) (n := 3) (Nat.le_of_ble_eq_true rfl)
  rw [lg_entry_eq]
  generalize (lg_sl ([.ref aX, .int p0, .int p1]) ++ List.replicate (3 - (lg_sl ([.ref aX, .int p0, .int p1])).length) Slot.unset).toArray = ls at hl ⊢
  have hl : lv_has ls 3 [(0, .ref aX), (1, .int p0), (2, .int p1)] := hl
  have C : cx p s m c ([.ref aX, .int p0, .int p1]).toArray D ky A cX8_together 3 wsX8_together RX8 := ⟨hx, hb, hml, hown, hts, hK, hA⟩
  have hQ : ∀ (pc : Nat) (H : Heap) (locs : List Loc) (ls : Array Slot), decode cX8_together pc = .ok (.ireturn, 1) → va_P D vwCl (w_xpart ky aX aB aP aT aR aK aH aG aS ag al ax au ay am res.2.1 res.2.2.1 res.2.2.2.1 res.2.2.2.2 bsz bgp ber bxs bus bys bme) H → va_D A (w_xpart ky aX aB aP aT aR aK aH aG aS ag al ax au ay am res.2.1 res.2.2.1 res.2.2.2.1 res.2.2.2.2 bsz bgp ber bxs bus bys bme) → va_S A s.heap H locs → W p l e rm_X8_together s m ([.ref aX, .int p0, .int p1]).toArray below meth c H locs 0 0 (MQ below (va_Qi (S := Unit) (fun r _ => r = res.1) (fun _ t => va_P D vwCl (w_xpart ky aX aB aP aT aR aK aH aG aS ag al ax au ay am res.2.1 res.2.2.1 res.2.2.2.1 res.2.2.2.2 bsz bgp ber bxs bus bys bme) t.heap ∧ va_K D vwCl (tyW ky) t ∧ va_D A (w_xpart ky aX aB aP aT aR aK aH aG aS ag al ax au ay am res.2.1 res.2.2.1 res.2.2.2.1 res.2.2.2.2 bsz bgp ber bxs bus bys bme)) A) ([.ref aX, .int p0, .int p1]).toArray s 0 0 A) (F0 m pc ls [.int res.1]) := fun pc H locs ls hd hP hD hS => W.iret hx hb hr (fun t ht hW => ⟨⟨res.1, (), rfl, rfl, by rw [ht]; exact hP, va_K.moved hW.alike hK, hD⟩, hS.F ht⟩) hS.2.2 hd
  unfold f_X8_together at hF
  refine lv_aload_n hx hb dX8_together_0 rfl (lv_at hl 0 rfl) ?_
  refine va_get (D := D) (ci := 7) (v := .ref aB) (C := RX8) (T := TX8) (N := 8) hx hb hts iX8_together_X8 hown hK hP 0 rfl rfl 0 (by decide) (hts _ kX8_together_1) (fun _ h9 => h9) rfl dX8_together_1 ?_
  refine lv_iload_n hx hb dX8_together_4 rfl (lv_at hl 1 rfl) ?_
  obtain ⟨r2, h1, hF⟩ := b1_s hF
  refine cl_vi (As := [.int p0]) (rest := []) (w' := (w_xpart ky aX aB aP aT aR aK aH aG aS ag al ax au ay am pgc prc pgr pla bsz bgp ber bxs bus bys bme)) ⟨hx, hb, hml, hown, hts⟩ hK hP hD hS hA (c_X0_has l D ky aB ax au ay am _ N  bsz bgp ber bxs bus bys bme p0 r2 h1) (cwV 1 hts gX8_together_X0_has rfl rfl rfl (by decide +kernel) ⟨Nat.le_of_ble_eq_true rfl, Nat.le_of_ble_eq_true rfl⟩) [4, 5, 6, 7, 8] [0, 1, 2, 3] [0, 1, 2, 3, 4, 5, 6, 7, 8] 0 0 rfl rfl rfl rfl (wr := [(aX, .inr (7, [.ref aB, .ref aP, .ref aT, .ref aR, .ref aK, .ref aH, .ref aG, .ref aS])), (aP, .inr (3, [.ref ag, .int pgc, .ref al, .int prc])), (ag, .inl (ky 0, 289, .inl pgr)), (al, .inl (ky 1, 4096, .inl pla))]) rfl (by decide) rfl rfl hl.1 (Nat.le_of_ble_eq_true rfl) dX8_together_5 ⟨Nat.zero_le _, Nat.zero_le _⟩ (fun H locs hP hD hS => ?_)
  refine lv_if_eq (tgt := 27) hx hb dX8_together_8 (by decide) (fun c3 => ?_) (fun c3 => ?_)
  · have hF := if_t c3 hF
    refine lv_iconst (v := (-1 : Int32)) hx hb dX8_together_27 (by decide) ?_
    have hF := Option.some.inj hF
    subst hF
    exact hQ _ _ _ _ dX8_together_28 hP hD hS
  · have hF := if_f c3 hF
    refine lv_aload_n hx hb dX8_together_11 rfl (lv_at hl 0 rfl) ?_
    refine va_get (D := D) (ci := 7) (v := .ref aB) (C := RX8) (T := TX8) (N := 8) hx hb hts iX8_together_X8 hown hK hP 0 rfl rfl 0 (by decide) (hts _ kX8_together_1) (fun _ h9 => h9) rfl dX8_together_12 ?_
    refine lv_iload_n hx hb dX8_together_15 rfl (lv_at hl 2 rfl) ?_
    obtain ⟨r5, h4, hF⟩ := b1_s hF
    refine cl_vi (As := [.int p1]) (rest := []) (w' := (w_xpart ky aX aB aP aT aR aK aH aG aS ag al ax au ay am pgc prc pgr pla bsz bgp ber bxs bus bys bme)) ⟨hx, hb, hml, hown, hts⟩ hK hP hD hS hA (c_X0_has l D ky aB ax au ay am _ N  bsz bgp ber bxs bus bys bme p1 r5 h4) (cwV 1 hts gX8_together_X0_has rfl rfl rfl (by decide +kernel) ⟨Nat.le_of_ble_eq_true rfl, Nat.le_of_ble_eq_true rfl⟩) [4, 5, 6, 7, 8] [0, 1, 2, 3] [0, 1, 2, 3, 4, 5, 6, 7, 8] 0 0 rfl rfl rfl rfl (wr := [(aX, .inr (7, [.ref aB, .ref aP, .ref aT, .ref aR, .ref aK, .ref aH, .ref aG, .ref aS])), (aP, .inr (3, [.ref ag, .int pgc, .ref al, .int prc])), (ag, .inl (ky 0, 289, .inl pgr)), (al, .inl (ky 1, 4096, .inl pla))]) rfl (by decide) rfl rfl hl.1 (Nat.le_of_ble_eq_true rfl) dX8_together_16 ⟨Nat.zero_le _, Nat.zero_le _⟩ (fun H locs hP hD hS => ?_)
    refine lv_if_eq (tgt := 27) hx hb dX8_together_19 (by decide) (fun c6 => ?_) (fun c6 => ?_)
    · have hF := if_t c6 hF
      refine lv_iconst (v := (-1 : Int32)) hx hb dX8_together_27 (by decide) ?_
      have hF := Option.some.inj hF
      subst hF
      exact hQ _ _ _ _ dX8_together_28 hP hD hS
    · have hF := if_f c6 hF
      refine lv_iload_n hx hb dX8_together_22 rfl (lv_at hl 1 rfl) ?_
      refine lv_iload_n hx hb dX8_together_23 rfl (lv_at hl 2 rfl) ?_
      refine lv_icmp_ne (tgt := 29) hx hb dX8_together_24 (by decide) (fun c7 => ?_) (fun c7 => ?_)
      · have hF := if_f c7 hF
        refine lv_aload_n hx hb dX8_together_29 rfl (lv_at hl 0 rfl) ?_
        refine va_get (D := D) (ci := 7) (v := .ref aP) (C := RX8) (T := TX8) (N := 8) hx hb hts iX8_together_X8 hown hK hP 0 rfl rfl 1 (by decide) (hts _ kX8_together_2) (fun _ h9 => h9) rfl dX8_together_30 ?_
        refine lv_aload_n hx hb dX8_together_33 rfl (lv_at hl 0 rfl) ?_
        refine va_get (D := D) (ci := 7) (v := .ref aB) (C := RX8) (T := TX8) (N := 8) hx hb hts iX8_together_X8 hown hK hP 0 rfl rfl 0 (by decide) (hts _ kX8_together_1) (fun _ h9 => h9) rfl dX8_together_34 ?_
        refine lv_iload_n hx hb dX8_together_37 rfl (lv_at hl 1 rfl) ?_
        refine lv_iload_n hx hb dX8_together_38 rfl (lv_at hl 2 rfl) ?_
        obtain ⟨r9, v10, v11, v12, v13, h8, hF⟩ := b5_s hF
        refine cl_vi (As := [.ref aB, .int p0, .int p1]) (rest := []) (w' := (w_xpart ky aX aB aP aT aR aK aH aG aS ag al ax au ay am v10 v11 v12 v13 bsz bgp ber bxs bus bys bme)) ⟨hx, hb, hml, hown, hts⟩ hK hP hD hS hA (c_X4_howTogether l D ky aP ag al aB ax au ay am _ N  pgc prc pgr pla bsz bgp ber bxs bus bys bme p0 p1 r9 v10 v11 v12 v13 h8) (cwV 3 hts gX8_together_X4_howTogether rfl rfl rfl (by decide +kernel) ⟨Nat.le_of_ble_eq_true rfl, Nat.le_of_ble_eq_true rfl⟩) [1, 2, 3, 4, 5, 6, 7, 8] [0] [0, 1, 2, 3, 4, 5, 6, 7, 8] 0 3 rfl rfl rfl rfl (wr := [(aX, .inr (7, [.ref aB, .ref aP, .ref aT, .ref aR, .ref aK, .ref aH, .ref aG, .ref aS]))]) rfl (by decide) rfl rfl hl.1 (Nat.le_of_ble_eq_true rfl) dX8_together_39 ⟨Nat.zero_le _, Nat.zero_le _⟩ (fun H locs hP hD hS => ?_)
        have hF := Option.some.inj hF
        subst hF
        exact hQ _ _ _ _ dX8_together_42 hP hD hS
      · have hF := if_t c7 hF
        refine lv_iconst (v := (-1 : Int32)) hx hb dX8_together_27 (by decide) ?_
        have hF := Option.some.inj hF
        subst hF
        exact hQ _ _ _ _ dX8_together_28 hP hD hS
theorem c_X8_together (l : Launch) (D : va_G) (ky : Nat → ClassId) (aX aB aP aT aR aK aH aG aS ag al ax au ay am : Nat) (sz N : Nat)  (pgc : Int32) (prc : Int32) (pgr : Nat → Int32) (pla : Nat → Int32) (bsz : Int32) (bgp : Int32) (ber : Int32) (bxs : Nat → Int32) (bus : Nat → Int32) (bys : Nat → Int32) (bme : Nat → Int32) (p0 : Int32) (p1 : Int32) (rv : Int32) (pgc' : Int32) (prc' : Int32) (pgr' : Nat → Int32) (pla' : Nat → Int32) (hF : f_X8_together N p0 p1 pgc prc pgr pla bsz bme = some (rv, pgc', prc', pgr', pla')) : MI l yX8_together wsX8_together rm_X8_together D ky sz [.ref aX, .int p0, .int p1] (w_xpart ky aX aB aP aT aR aK aH aG aS ag al ax au ay am pgc prc pgr pla bsz bgp ber bxs bus bys bme) (w_xpart ky aX aB aP aT aR aK aH aG aS ag al ax au ay am pgc' prc' pgr' pla' bsz bgp ber bxs bus bys bme) rv :=
  cr_X8_together l D ky aX aB aP aT aR aK aH aG aS ag al ax au ay am sz N pgc prc pgr pla bsz bgp ber bxs bus bys bme p0 p1 (rv, pgc', prc', pgr', pla') hF
