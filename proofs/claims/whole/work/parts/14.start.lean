/-! ===== from the entry, given the words of the start ===== -/
theorem lw_go {p : Program} {e : Env} {s : State} {m : MethodId} {below : List Frame} {meth : Method} {c : Code} (l : Launch) {b L : Nat} {xs : Nat → Int32} (hL : L ≤ 384) (C0 : lw_At p s m meth c b L xs) (K : KE) (hK1 : K.1 = s.heap.size) (hKK : va_K K.2.1 vwCl (tysK K) s) (hEV : EV K s s.heap) (hsub : ∀ w ∈ wsL_law, w ∈ lw_tbl) : W p l e room_1 s m #[Value.ref b] below meth c s.heap [] 0 0 (lw_Z below #[Value.ref b] s) (entryFrame m ([Value.ref b] : List Value).toArray 4) := by
  obtain ⟨hx, hbc, hret, hml, hown, hts, hX, hbl, hlocks, hgv⟩ := C0
  have F : Fx (p, l, e, room_1, s, m, #[Value.ref b], below, meth, c, K, lw_Z below #[Value.ref b] s) RL cL_law 4 room_1 K := ⟨hx, hbc, hml, hown, fun w hw => hts w (hsub w hw), hKK, hEV, Nat.le_of_eq hK1, rfl, rfl⟩
  have R := lw_run F (xs := xs) hX hbl (fun q => by have q : K.1 ≤ b := q; rw [hK1] at q; exact absurd hbl (Nat.not_lt.mpr q)) hL (fun _ => va0) (fun x y kc ks m hP h1 h2 => lw_end F hbc hret hlocks hK1 h1 h2)
  have hl := lv_entry ([.ref b]) (n := 4) (Nat.le_of_ble_eq_true rfl)
  rw [lg_entry_eq]
  generalize (lg_sl ([.ref b]) ++ List.replicate (4 - (lg_sl ([.ref b])).length) Slot.unset).toArray = ls at hl ⊢
  have hl : lv_has ls 4 [(0, .ref b)] := hl
  refine R s.heap [] ls ?_ ?_ ?_ ?_
  · show s.heap.size = K.1 + 0
    rw [hK1]; rfl
  · intro k q h
    cases h
  · exact ⟨Nat.le_refl _, fun _ _ _ => rfl, fun _ h => by cases h⟩
  · show lv_has ls c.maxLocals [(0, .ref b)]
    rw [hml]; exact hl
