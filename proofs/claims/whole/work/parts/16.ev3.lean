/-! ===== the words of the start, 3: classes, array classes, static arrays ===== -/
theorem ev_t1 {w : Cond} (h : w ∈ tables_1) : w ∈ lw_tbl := List.mem_append_right _ h
set_option maxRecDepth 100000 in
set_option maxHeartbeats 4000000 in
theorem ev_i0 : Cond.instantiable RX0 2 ∈ lw_tbl := ev_t1 (List.mem_of_getElem? (i := 652) (by decide +kernel))
set_option maxRecDepth 100000 in
set_option maxHeartbeats 4000000 in
theorem ev_i1 : Cond.instantiable RX1 2 ∈ lw_tbl := ev_t1 (List.mem_of_getElem? (i := 137) (by decide +kernel))
set_option maxRecDepth 100000 in
set_option maxHeartbeats 4000000 in
theorem ev_i2 : Cond.instantiable RX2 12 ∈ lw_tbl := ev_t1 (List.mem_of_getElem? (i := 155) (by decide +kernel))
set_option maxRecDepth 100000 in
set_option maxHeartbeats 4000000 in
theorem ev_i3 : Cond.instantiable RX3 4 ∈ lw_tbl := ev_t1 (List.mem_of_getElem? (i := 53) (by decide +kernel))
set_option maxRecDepth 100000 in
set_option maxHeartbeats 4000000 in
theorem ev_i4 : Cond.instantiable RX4 3 ∈ lw_tbl := ev_t1 (List.mem_of_getElem? (i := 204) (by decide +kernel))
set_option maxRecDepth 100000 in
set_option maxHeartbeats 4000000 in
theorem ev_i5 : Cond.instantiable RX6 11 ∈ lw_tbl := ev_t1 (List.mem_of_getElem? (i := 74) (by decide +kernel))
set_option maxRecDepth 100000 in
set_option maxHeartbeats 4000000 in
theorem ev_i6 : Cond.instantiable RX7 5 ∈ lw_tbl := ev_t1 (List.mem_of_getElem? (i := 806) (by decide +kernel))
set_option maxRecDepth 100000 in
set_option maxHeartbeats 4000000 in
theorem ev_i7 : Cond.instantiable RX8 3 ∈ lw_tbl := ev_t1 (List.mem_of_getElem? (i := 28) (by decide +kernel))
set_option maxRecDepth 100000 in
set_option maxHeartbeats 4000000 in
theorem ev_i8 : Cond.instantiable RX9 4 ∈ lw_tbl := ev_t1 (List.mem_of_getElem? (i := 117) (by decide +kernel))
set_option maxRecDepth 100000 in
set_option maxHeartbeats 4000000 in
theorem ev_i9 : Cond.instantiable RX10 12 ∈ lw_tbl := ev_t1 (List.mem_of_getElem? (i := 20) (by decide +kernel))
set_option maxRecDepth 100000 in
set_option maxHeartbeats 4000000 in
theorem ev_i10 : Cond.instantiable RX11 52 ∈ lw_tbl := ev_t1 (List.mem_of_getElem? (i := 989) (by decide +kernel))
theorem ev_cls {args : Array Value} {s : State} (hts : ∀ w ∈ lw_tbl, w.before args s = true) : ∃ D : va_G, ∀ (k : Nat) (q : vw_C), vwCl[k]? = some q → u_Kn s q.1 q.2.1 q.2.2 (D.1 k) (D.2 k) := by
  have h0 : ∀ k : Nat, ∃ r : ClassId × (Nat → Nat), ∀ q : vw_C, vwCl[k]? = some q → u_Kn s q.1 q.2.1 q.2.2 r.1 r.2 := by
    intro k
    match k with
    | 0 => obtain ⟨c, i, hK⟩ := u_known (C := RX0) (T := TX0) (N := 2) hts hs_X00 (hts _ ev_i0); exact ⟨(c, i), fun q hq => by cases hq; exact hK⟩
    | 1 => obtain ⟨c, i, hK⟩ := u_known (C := RX1) (T := TX1) (N := 2) hts hs_X10 (hts _ ev_i1); exact ⟨(c, i), fun q hq => by cases hq; exact hK⟩
    | 2 => obtain ⟨c, i, hK⟩ := u_known (C := RX2) (T := TX2) (N := 12) hts hs_X20 (hts _ ev_i2); exact ⟨(c, i), fun q hq => by cases hq; exact hK⟩
    | 3 => obtain ⟨c, i, hK⟩ := u_known (C := RX3) (T := TX3) (N := 4) hts hs_X30 (hts _ ev_i3); exact ⟨(c, i), fun q hq => by cases hq; exact hK⟩
    | 4 => obtain ⟨c, i, hK⟩ := u_known (C := RX4) (T := TX4) (N := 3) hts hs_X40 (hts _ ev_i4); exact ⟨(c, i), fun q hq => by cases hq; exact hK⟩
    | 5 => obtain ⟨c, i, hK⟩ := u_known (C := RX6) (T := TX6) (N := 11) hts hs_X60 (hts _ ev_i5); exact ⟨(c, i), fun q hq => by cases hq; exact hK⟩
    | 6 => obtain ⟨c, i, hK⟩ := u_known (C := RX7) (T := TX7) (N := 5) hts hs_X70 (hts _ ev_i6); exact ⟨(c, i), fun q hq => by cases hq; exact hK⟩
    | 7 => obtain ⟨c, i, hK⟩ := u_known (C := RX8) (T := TX8) (N := 3) hts hs_X80 (hts _ ev_i7); exact ⟨(c, i), fun q hq => by cases hq; exact hK⟩
    | 8 => obtain ⟨c, i, hK⟩ := u_known (C := RX9) (T := TX9) (N := 4) hts hs_X90 (hts _ ev_i8); exact ⟨(c, i), fun q hq => by cases hq; exact hK⟩
    | 9 => obtain ⟨c, i, hK⟩ := u_known (C := RX10) (T := TX10) (N := 12) hts hs_X100 (hts _ ev_i9); exact ⟨(c, i), fun q hq => by cases hq; exact hK⟩
    | 10 => obtain ⟨c, i, hK⟩ := u_known (C := RX11) (T := TX11) (N := 52) hts hs_X110 (hts _ ev_i10); exact ⟨(c, i), fun q hq => by cases hq; exact hK⟩
    | k + 11 => exact ⟨(0, fun _ => 0), fun q hq => by simp [vwCl] at hq⟩
  obtain ⟨D, hD⟩ := Classical.skolem.mp h0
  exact ⟨(fun k => (D k).1, fun k => (D k).2), hD⟩
theorem ev_arr {s : State} {ty : FieldType} {c comp : ClassId} {k : Class} (hk : s.vm.classes[c]? = some k) (hkind : k.kind = .array comp ty) : ArrOfT s c ty := fun n z => ⟨fun k h => by simp [arrV] at h, k, hk, comp, hkind⟩
theorem ev_aO {args : Array Value} {s : State} {n : String} (h : (Cond.arrayOver (.object n)).before args s = true) : ∃ c, ArrOfT s c (.object n) ∧ va_RA s c (.object n) := by
  obtain ⟨comp, c, k, h1, -, h3, h4, h5⟩ := Cond.arrayOver_spec h
  exact ⟨c, ev_arr h3 h4, k, comp, h3, h4, h1, h5⟩
theorem ev_aA {s : State} (h : aoA s) : ∃ c, ArrOfT s c (.array .int) ∧ va_RA s c (.array .int) := by
  obtain ⟨comp, c, k, -, -, h3, h4, h5⟩ := h.spec
  exact ⟨c, ev_arr h3 h4, h5⟩
theorem ev_aI {args : Array Value} {s : State} (h : (Cond.arrayClass .int).before args s = true) : ∃ c, ArrOfT s c .int ∧ va_RA s c .int := by
  obtain ⟨c, k, comp, h1, h2, h3⟩ := Cond.arrayClass_spec h
  exact ⟨c, ev_arr h2 h3, h1⟩
theorem ev_aJ {args : Array Value} {s : State} (h : (Cond.arrayClass .long).before args s = true) : ∃ c, ArrOfT s c .long ∧ va_RA s c .long := by
  obtain ⟨c, k, comp, h1, h2, h3⟩ := Cond.arrayClass_spec h
  exact ⟨c, ev_arr h2 h3, h1⟩
set_option maxRecDepth 100000 in
set_option maxHeartbeats 4000000 in
theorem ev_w0 : Cond.arrayClass .int ∈ lw_tbl := ev_t1 (List.mem_of_getElem? (i := 51) (by decide +kernel))
set_option maxRecDepth 100000 in
set_option maxHeartbeats 4000000 in
theorem ev_w1 : Cond.arrayClass .long ∈ lw_tbl := ev_t1 (List.mem_of_getElem? (i := 1171) (by decide +kernel))
set_option maxRecDepth 100000 in
set_option maxHeartbeats 4000000 in
theorem ev_w2 : Cond.arrayOver (.array .int) ∈ lw_tbl := ev_t1 (List.mem_of_getElem? (i := 34) (by decide +kernel))
set_option maxRecDepth 100000 in
set_option maxHeartbeats 4000000 in
theorem ev_w3 : Cond.arrayOver (.object "HollowedByFire$Sheet") ∈ lw_tbl := ev_t1 (List.mem_of_getElem? (i := 153) (by decide +kernel))
set_option maxRecDepth 100000 in
set_option maxHeartbeats 4000000 in
theorem ev_w4 : Cond.arrayOver (.object "HollowedByFire$Tree") ∈ lw_tbl := ev_t1 (List.mem_of_getElem? (i := 143) (by decide +kernel))
theorem ev_tys {args : Array Value} {s : State} (hts : ∀ w ∈ lw_tbl, w.before args s = true) : ∃ ar : Nat → ClassId, ∀ (B : Nat) (D : va_G) (st : Nat → Nat) (k : Nat) (q : ClassId × FieldType), (tysK (B, D, ar, st))[k]? = some q → ArrOfT s q.1 q.2 ∧ va_RA s q.1 q.2 := by
  obtain ⟨c0, h0⟩ := ev_aI (hts _ ev_w0)
  obtain ⟨c1, h1⟩ := ev_aJ (hts _ ev_w1)
  obtain ⟨c2, h2⟩ := ev_aA (s := s) (hts _ ev_w2)
  obtain ⟨c3, h3⟩ := ev_aO (hts _ ev_w3)
  obtain ⟨c4, h4⟩ := ev_aO (hts _ ev_w4)
  refine ⟨fun n => match n with | 0 => c0 | 1 => c1 | 2 => c2 | 3 => c3 | _ => c4, fun B D st k q hq => ?_⟩
  match k, hq with
  | 0, hq => cases hq; exact h0
  | 1, hq => cases hq; exact h1
  | 2, hq => cases hq; exact h2
  | 3, hq => cases hq; exact h3
  | 4, hq => cases hq; exact h4
  | k + 5, hq => simp [tysK] at hq
theorem ev_a1 {args : Array Value} {s : State} {A : Nat → Prop} (hts : ∀ w ∈ lw_tbl, w.before args s = true) (h : ∀ w ∈ ev_G, w.before args s = true) (hA : ∀ a : Nat, a < s.heap.size → ¬ A a) {q : String × String × List Int32} (hq : q ∈ sArr) : ∃ t : Nat, va_Z q.1 q.2.1 "[I" (.ref t) A s s.heap ∧ va_T .int t q.2.2.length (fun j => .int (q.2.2.getD j 0)) A s s.heap := by
  have hw : ∀ w ∈ ev_w q, w.before args s = true := fun w m => h w (ev_aW q hq w m)
  obtain ⟨t, ht, hT⟩ := va_Tof (tm := ev_s q) (ty := .int) (N := q.2.2.length) (f := fun j => .int (q.2.2.getD j 0)) (A := A) (args := args) (s := s) (ev_aL q hq) (hw _ List.mem_cons_self) (va_eqt (hw _ (List.mem_cons_of_mem _ List.mem_cons_self))) (fun j hj => va_eqt (hw _ (List.mem_cons_of_mem _ (List.mem_cons_of_mem _ (List.mem_map.mpr ⟨j, List.mem_range.mpr hj, rfl⟩))))) hA
  exact ⟨t, va_Zof (hts _ (ev_t1 (ev_aZ q hq).1)) (hts _ (ev_t1 (ev_aZ q hq).2)) ht hA, hT⟩
theorem ev_as {args : Array Value} {s : State} {A : Nat → Prop} (hts : ∀ w ∈ lw_tbl, w.before args s = true) (h : ∀ w ∈ ev_G, w.before args s = true) (hA : ∀ a : Nat, a < s.heap.size → ¬ A a) : ∃ f : Nat → Nat, ∀ (i : Nat) (q : String × String × List Int32), sArr[i]? = some q → va_Z q.1 q.2.1 "[I" (.ref (f i)) A s s.heap ∧ va_T .int (f i) q.2.2.length (fun j => .int (q.2.2.getD j 0)) A s s.heap := by
  have h0 : ∀ i : Nat, ∃ t : Nat, ∀ q : String × String × List Int32, sArr[i]? = some q → va_Z q.1 q.2.1 "[I" (.ref t) A s s.heap ∧ va_T .int t q.2.2.length (fun j => .int (q.2.2.getD j 0)) A s s.heap := by
    intro i
    cases hi : sArr[i]? with
    | none => exact ⟨0, fun q hq => by cases hq⟩
    | some q =>
      obtain ⟨t, ht⟩ := ev_a1 hts h hA (List.mem_of_getElem? hi)
      exact ⟨t, fun q' hq => by cases hq; exact ht⟩
  exact Classical.skolem.mp h0
