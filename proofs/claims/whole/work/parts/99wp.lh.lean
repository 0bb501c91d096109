/-! ===== the law from its entry ===== -/
theorem whole_start {p : Program} {e : Env} {s : State} {m : MethodId} {below : List Frame} {meth : Method} {c : Code} (l : Launch) {b L : Nat} {xs : Nat → Int32} (hL : L ≤ 3072) (C0 : lw_At p s m meth c b L xs) : W p l e room_1 s m #[Value.ref b] below meth c s.heap [] 0 0 (lw_Z below #[Value.ref b] s) (entryFrame m ([Value.ref b] : List Value).toArray 4) := by
  obtain ⟨G, hK, hG, hb⟩ := lw_world C0
  have ez : ([Value.ref b] : List Value) = [Value.ref 1000002].map (ztr G) := by
    show [Value.ref b] = [Value.ref (zad G 1000002)]
    rw [show zad G 1000002 = b from hb]
  have hl : zlv G ((lg_sl [Value.ref b] ++ List.replicate (4 - (lg_sl [Value.ref b]).length) Slot.unset).toArray) 4 [some (.ref 1000002), none, none, none] := by
    rw [ez]
    refine zlv_entry _ (by rw [zasz_eq]; decide) (fun k v hk => ?_)
    match k, hk with
    | 0, hk =>
      have := zargs_in G [Value.ref 1000002] 0 0 v hk
      simpa using this
    | 1, hk => simp at hk
    | 2, hk => simp at hk
    | 3, hk => simp at hk
    | k + 4, hk => simp at hk
  rw [lg_entry_eq]
  generalize (lg_sl [Value.ref b] ++ List.replicate (4 - (lg_sl [Value.ref b]).length) Slot.unset).toArray = ls at hl ⊢
  exact lw_begin (xs := xs) hL G p l e s m below meth c s.heap [] ls ⟨C0, hK, hG, hb⟩ ⟨fun _ => by rw [hG]; rfl, by decide, fun k q h => by simp [zws] at h⟩ va_S.rf hl
