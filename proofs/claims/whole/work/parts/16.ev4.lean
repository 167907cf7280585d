/-! ===== the words of the start, 4: the surroundings ===== -/
def ev_st (f k v : Nat → Nat) : Nat → Nat := fun n => if n < 10 then f n else if n < 30 then k (n - 10) else v (n - 30)
theorem ev_st0 {f k v : Nat → Nat} {i : Nat} (h : i < 7) : ev_st f k v i = f i := if_pos (by omega)
theorem ev_st1 {f k v : Nat → Nat} {i : Nat} (h : i < 13) : ev_st f k v (10 + i) = k i := by
  unfold ev_st
  rw [if_neg (by omega), if_pos (by omega), Nat.add_sub_cancel_left]
theorem ev_st2 {f k v : Nat → Nat} {i : Nat} (h : i < 13) : ev_st f k v (30 + i) = v i := by
  unfold ev_st
  rw [if_neg (by omega), if_neg (by omega), Nat.add_sub_cancel_left]
theorem ev_lA {i : Nat} {q : String × String × List Int32} (h : sArr[i]? = some q) : i < 7 := (List.getElem?_eq_some_iff.mp h).1
theorem ev_lT {i : Nat} {q : String × Nat × String} (h : sLit[i]? = some q) : i < 13 := (List.getElem?_eq_some_iff.mp h).1
theorem ev_all {s : State} {b : Nat} (hts : ∀ w ∈ lw_tbl, w.before #[Value.ref b] s = true) (hgv : (Jvm.Cond.and given_1 narrow_1).before #[Value.ref b] s = true) : ∃ K : KE, K.1 = s.heap.size ∧ va_K K.2.1 vwCl (tysK K) s ∧ EV K s s.heap := by
  have h : ∀ w ∈ ev_G, w.before #[Value.ref b] s = true := flat_of_before _ hgv
  have hA : ∀ a : Nat, a < s.heap.size → ¬ gA s.heap.size a := fun a h q => absurd h (Nat.not_lt.mpr q)
  obtain ⟨D, hD⟩ := ev_cls hts
  obtain ⟨ar, har⟩ := ev_tys hts
  obtain ⟨f, hf⟩ := ev_as hts h hA
  obtain ⟨k, v, hS, hR⟩ := ev_text h hA
  refine ⟨(s.heap.size, D, ar, ev_st f k v), rfl, ⟨hD, har _ _ _⟩, ?_, ?_, ?_, ?_, ?_, ?_, ?_, ?_⟩
  · exact fun q hq => va_Nw.of rfl (hts _ (ev_t1 (ev_nF q hq)))
  · exact fun q hq => va_Nw.of rfl (hts _ (ev_t1 (ev_nM q hq)))
  · intro i q hi
    show va_Z q.1 q.2.1 "[I" (.ref (ev_st f k v i)) (gA s.heap.size) s s.heap ∧ va_T .int (ev_st f k v i) q.2.2.length (fun j => .int (q.2.2.getD j 0)) (gA s.heap.size) s s.heap
    rw [ev_st0 (ev_lA hi)]
    exact hf i q hi
  · exact va_Zof (hts _ (ev_t1 ev_cs.1)) (hts _ (ev_t1 ev_cs.2.1)) (va_eqi (h _ ev_cs.2.2)) hA
  · intro i q hi
    show vk_R q.1 q.2.1 q.2.2 (ev_st f k v (10 + i)) s
    rw [ev_st1 (ev_lT hi)]
    have e : ev_q i = q := by unfold ev_q; rw [List.getD_eq_getElem?_getD, hi]; rfl
    refine vk_R.of (hts _ (ev_t1 (ev_sR q (List.mem_of_getElem? hi)))) ?_
    have r := hR i (ev_lT hi)
    unfold ev_t at r
    rw [e] at r
    exact r
  · exact ev_same hS (fun i hi => ev_st1 hi) (fun i hi => ev_st2 hi)
  · exact va_Zqof (hts _ (ev_t1 ev_si.1)) (hts _ (ev_t1 ev_si.2.1)) (h _ ev_si.2.2) hA
  · exact ⟨va_AO.of (hts _ ev_w3), va_AO.of (hts _ ev_w4), hts _ ev_w2⟩
