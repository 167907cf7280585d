/-! ===== the words of the start, 2: the texts ===== -/
set_option maxRecDepth 100000 in
set_option maxHeartbeats 4000000 in
theorem ev_tN : ∀ i ∈ List.range 13, sLen.getD i 0 < 2 ^ 31 := by decide +kernel
set_option maxRecDepth 100000 in
set_option maxHeartbeats 4000000 in
theorem ev_tX : ∀ i ∈ List.range 13, Cond.exactly (ev_t i) "java/lang/String" ∈ ev_G := by decide +kernel
set_option maxRecDepth 100000 in
set_option maxHeartbeats 4000000 in
theorem ev_tC : ∀ i ∈ List.range 13, Cond.eq (.field (ev_t i) "java/lang/String" "coder" "B") (.int 0) ∈ ev_G := by decide +kernel
set_option maxRecDepth 100000 in
set_option maxHeartbeats 4000000 in
theorem ev_tA : ∀ i ∈ List.range 13, Cond.arrayOf (ev_v i) .byte ∈ ev_G := by decide +kernel
set_option maxRecDepth 100000 in
set_option maxHeartbeats 4000000 in
theorem ev_tL : ∀ i ∈ List.range 13, Cond.eq (.length (ev_v i)) (.int (Int32.ofNat (sLen.getD i 0))) ∈ ev_G := by decide +kernel
set_option maxRecDepth 100000 in
set_option maxHeartbeats 4000000 in
theorem ev_tE : ∀ i ∈ List.range 13, ∀ j ∈ List.range (sLen.getD i 0), Cond.eq (.elem (ev_v i) (.int (Int32.ofNat j))) (.int ((sByt.getD i []).getD j 0)) ∈ ev_G := by decide +kernel
set_option maxRecDepth 100000 in
set_option maxHeartbeats 4000000 in
theorem ev_tD : ∀ j ∈ List.range 13, ∀ i ∈ List.range j, Cond.not (Cond.eq (ev_t i) (ev_t j)) ∈ ev_G := by decide +kernel
theorem ev_13 {i : Nat} (h : i < 13) : i ∈ List.range 13 := List.mem_range.mpr h
theorem ev_text {args : Array Value} {s : State} {A : Nat → Prop} (h : ∀ w ∈ ev_G, w.before args s = true) (hA : ∀ a : Nat, a < s.heap.size → ¬ A a) : ∃ adK adV : Nat → Nat, vk_S 13 sLen sByt adK adV A s s.heap ∧ ∀ i : Nat, i < 13 → (ev_t i).eval args s none [] s = some (.ref (adK i)) := by
  refine vk_Sof (fun i hi => ev_tN i (ev_13 hi)) (fun i hi => h _ (ev_tX i (ev_13 hi))) (fun i hi => h _ (ev_tC i (ev_13 hi))) (fun i hi => h _ (ev_tA i (ev_13 hi))) (fun i hi => h _ (ev_tL i (ev_13 hi))) (fun i hi j hj => h _ (ev_tE i (ev_13 hi) j (List.mem_range.mpr hj))) (fun i j hi hj hij => ?_) hA
  rcases Nat.lt_or_gt_of_ne hij with q | q
  · exact Or.inl (h _ (ev_tD j (ev_13 hj) i (List.mem_range.mpr q)))
  · exact Or.inr (h _ (ev_tD i (ev_13 hi) j (List.mem_range.mpr q)))
theorem ev_same {s : State} {H : Heap} {A : Nat → Prop} {f g f' g' : Nat → Nat} (h : vk_S 13 sLen sByt f g A s H) (hf : ∀ i, i < 13 → f' i = f i) (hg : ∀ i, i < 13 → g' i = g i) : vk_S 13 sLen sByt f' g' A s H := by
  refine ⟨fun i hi => ?_, fun i j hi hj e => h.2 i j hi hj (by rw [hf i hi, hf j hj] at e; exact e)⟩
  rw [hf i hi, hg i hi]
  exact h.1 i hi
