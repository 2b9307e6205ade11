/-! the law, from its start -/
theorem whole_start {p : Program} {e : Env} {s : State} {m : MethodId} {below : List Frame} {meth : Method} {c : Code} (l : Launch) {b L : Nat} {xs : Nat → Int32} (hL : L ≤ 3072) (C0 : lw_At p s m meth c b L xs) : W p l e room_1 s m #[Value.ref b] below meth c s.heap [] 0 0 (lw_Z below #[Value.ref b] s) (entryFrame m ([Value.ref b] : List Value).toArray 4) := by
  refine law_start l hL C0 InvA P_row P_gap P_rows P_type P_text P_told P_clear P_error P_meets P_lets P_count P_fewest P_letGo P_together P_span P_line P_hours P_wear P_check P_tries P_best P_apart P_know P_box P_step P_holds P_brake P_watch P_sheet P_drop P_item P_copy ?_
  refine ⟨0, 1, fun _ => 0, fun _ => 0, fun _ => 0, fun _ => false, ?_, ?_, ?_, ?_, ?_, ?_⟩
  · exact ⟨⟨by omega, by omega, rfl, rfl, rfl, rfl, rfl⟩, fun r h => by omega, fun law hl => rfl⟩
  · exact ⟨0, fun _ => 0, Nat.le_refl _, rfl, ⟨rfl, fun S g1 g2 => by omega⟩, fun S hS => ⟨rfl, Nat.zero_le _⟩, fun _ h => by omega⟩
  · exact ⟨0, by omega, rfl, rfl, fun i h => by omega⟩
  · exact ⟨0, fun _ => 0, 0, by omega, rfl, rfl, fun i h => by omega, rfl, rfl, by decide, rfl, rfl⟩
  · exact ⟨0, 0, rfl, rfl, rfl, rfl, by omega, by omega⟩
  · intro k hk
    have hk' : k = 0 ∨ k = 1 ∨ k = 2 ∨ k = 3 := by omega
    rcases hk' with rfl | rfl | rfl | rfl
    · exact ⟨rfl, Or.inl ⟨rfl, rfl⟩, fun i hi => rfl⟩
    · exact ⟨rfl, Or.inl ⟨rfl, rfl⟩, fun i hi => rfl⟩
    · exact ⟨rfl, Or.inl ⟨rfl, rfl⟩, fun i hi => rfl⟩
    · exact ⟨rfl, Or.inl ⟨rfl, rfl⟩, fun i hi => rfl⟩
