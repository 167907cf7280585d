/-! ===== the start: class and check agree ===== -/
def okb (c : Int32) : Bool := (decide (100000 ≤ c.toInt) && decide (c.toInt ≤ 109999)) || ((decide (0 ≤ c.toInt) && decide (c.toInt ≤ 5)) || (decide (11 ≤ c.toInt) && decide (c.toInt ≤ 19)))
theorem okb_ok {c : Int32} (h : okb c = true) : okc c := by
  unfold okb at h
  rw [Bool.or_eq_true, Bool.or_eq_true, Bool.and_eq_true, Bool.and_eq_true, Bool.and_eq_true, decide_eq_true_iff, decide_eq_true_iff, decide_eq_true_iff, decide_eq_true_iff, decide_eq_true_iff, decide_eq_true_iff] at h
  exact h
def wlb : List Int32 → Nat → Nat → Bool
  | [], d, d' => decide (d' = d)
  | c :: l, d, d' => okb c && (decide (ar c ≤ d) && wlb l (d - ar c + 1) d')
theorem wlb_ok : ∀ (l : List Int32) (d d' : Nat), wlb l d d' = true → WL l d d' := by
  intro l
  induction l with
  | nil =>
    intro d d' h
    have h : decide (d' = d) = true := h
    have h : d' = d := of_decide_eq_true h
    exact h
  | cons c l ih =>
    intro d d' h
    rw [wlb, Bool.and_eq_true, Bool.and_eq_true] at h
    exact ⟨okb_ok h.1, of_decide_eq_true h.2.1, ih _ _ h.2.2⟩
def law0 : List Int32 := [100001, 2, 0, 14, 16, 3, 100002, 18, 4, 100009, 18, 16, 5, 16, 0, 100003, 18]
def allB (f : Nat → Bool) : Nat → Bool
  | 0 => true
  | n + 1 => allB f n && f n
theorem allB_ok {f : Nat → Bool} : ∀ n, allB f n = true → ∀ j, j < n → f j = true := by
  intro n
  induction n with
  | zero => intro _ j hj; omega
  | succ n ih =>
    intro h j hj
    rw [allB, Bool.and_eq_true] at h
    by_cases e : j = n
    · rw [e]; exact h.2
    · exact ih h.1 j (by omega)
def P0b (x : CS) (y : MS) : Bool :=
  allB (fun w => allB (fun s => decide (gi x (3 + w) s = gi y 62 (9 * w + s) ∧ clo w ≤ (gi y 62 (9 * w + s)).toInt ∧ (gi y 62 (9 * w + s)).toInt ≤ chi w)) 9) 6 &&
  (allB (fun k => decide (gi x 9 k = gi y 61 (1 + k) ∧ slo k ≤ (gi y 61 (1 + k)).toInt ∧ (gi y 61 (1 + k)).toInt ≤ shi k)) 5 &&
  (decide (gi x 1 2 = gi y 61 21 ∧ gi x 10 3 = 1 ∧ gi y 61 20 = 1 ∧ gi y 61 21 = 0 ∧ gi x 30 3 = 0 ∧ gi y 61 6 = 0 ∧ gi x 26 1 = 0 ∧ gi y 61 17 = 0 ∧ gi x 34 1 = 0 ∧ gi y 61 10 = 0 ∧ gi x 0 11 = gi y 61 22 ∧ gi y 61 22 = 0 ∧ gi y 61 47 = 0 ∧ gi y 61 48 = 0) &&
  (allB (fun s => decide (gi x (53 + 2 * s) 1 = gi y 77 s ∧ -1 ≤ (gi y 77 s).toInt ∧ (gi y 77 s).toInt ≤ 2 ∧ gi x (53 + 2 * s) 2 = 0 ∧ gi y 78 s = 0) && allB (fun i => decide (gi x (54 + 2 * s) i = gi y 79 (40 * s + i))) 40) 4 &&
  (allB (fun j => decide (gi y 72 (200 * 0 + j) = law0.getD j 0 ∧ gi x (12 + 0) j = trc (law0.getD j 0))) 17 &&
  decide (gi x (19 + 0) 0 = 5 ∧ gi x (19 + 0) 1 = 14 ∧ gi x (19 + 0) 2 = 17 ∧ gi y 73 (4 * 0 + 0) = 0 ∧ gi y 73 (4 * 0 + 1) = 5 ∧ gi y 73 (4 * 0 + 2) = 14 ∧ gi y 73 (4 * 0 + 3) = 17)))))
theorem PP_0 {x : CS} {y : MS} (h : P0b x y = true) (h27 : 27 ≤ gn x) : PP x y := by
  unfold P0b at h
  rw [Bool.and_eq_true, Bool.and_eq_true, Bool.and_eq_true, Bool.and_eq_true, Bool.and_eq_true] at h
  obtain ⟨a1, a2, a3, a4, a5, a6⟩ := h
  have a1 : ∀ w, w < 6 → ∀ s, s < 9 → gi x (3 + w) s = gi y 62 (9 * w + s) ∧ clo w ≤ (gi y 62 (9 * w + s)).toInt ∧ (gi y 62 (9 * w + s)).toInt ≤ chi w := fun w hw s hs => of_decide_eq_true (allB_ok 9 (allB_ok 6 a1 w hw) s hs)
  have a2 : ∀ k, k < 5 → gi x 9 k = gi y 61 (1 + k) ∧ slo k ≤ (gi y 61 (1 + k)).toInt ∧ (gi y 61 (1 + k)).toInt ≤ shi k := fun k hk => of_decide_eq_true (allB_ok 5 a2 k hk)
  obtain ⟨b1, b2, b3, b4, b5, b6, b7, b8, b9, b10, b11, b12, b13, b14⟩ := of_decide_eq_true a3
  have a5 : ∀ j, j < 17 → gi y 72 (200 * 0 + j) = law0.getD j 0 ∧ gi x (12 + 0) j = trc (law0.getD j 0) := fun j hj => of_decide_eq_true (allB_ok 17 a5 j hj)
  obtain ⟨c1, c2, c3, d0, d1, d2, d3⟩ := of_decide_eq_true a6
  have hm : ∀ (A e B : List Int32), A ++ e ++ B = law0 → A.length + e.length ≤ 17 → ∀ j c, e[j]? = some c → gi y 72 (200 * 0 + (A.length + j)) = c := fun A e B hA hl j c hc => by
    have hj : j < e.length := by
      rcases Nat.lt_or_ge j e.length with q | q
      · exact q
      · rw [List.getElem?_eq_none q] at hc; cases hc
    have := ap_get (A := A) (B := B) hc
    rw [hA] at this
    rw [(a5 _ (by omega)).1, List.getD_eq_getElem?_getD, this]
    rfl
  refine ⟨⟨h27, b13, b14⟩, ⟨fun w s hw hs => a1 w hw s hs, fun k hk => a2 k hk, b1⟩, ⟨1, 0, by omega, by omega, b2, b3, b4, fun t ht => ?_⟩, ⟨0, by omega, b5, b6, fun w hw => by omega⟩, ⟨0, by omega, b7, b8, fun i hi => by omega⟩, fun s hs => ?_, 0, fun _ => 0, ⟨by omega, b9, b10, fun t ht => by omega, fun t u ht => by omega⟩, ⟨b11, Or.inl b12⟩⟩
  · have et : t = 0 := by omega
    subst et
    refine ⟨fun p => if p = 0 then 0 else if p = 1 then 5 else if p = 2 then 14 else 17, ⟨rfl, by decide, by decide, by decide, by decide, fun p hp => ?_⟩, fun p hp => ?_, fun p hp => ?_, fun j hj => ?_⟩
    · rcases (by omega : p = 0 ∨ p = 1 ∨ p = 2) with rfl | rfl | rfl
      · exact wf_WL [100001, 2, 0, 14, 16] 0 0 (hm [] [100001, 2, 0, 14, 16] [3, 100002, 18, 4, 100009, 18, 16, 5, 16, 0, 100003, 18] rfl (by decide)) (wlb_ok _ _ _ (by decide))
      · exact wf_WL [3, 100002, 18, 4, 100009, 18, 16, 5, 16] 5 0 (hm [100001, 2, 0, 14, 16] [3, 100002, 18, 4, 100009, 18, 16, 5, 16] [0, 100003, 18] rfl (by decide)) (wlb_ok _ _ _ (by decide))
      · exact wf_WL [0, 100003, 18] 14 0 (hm [100001, 2, 0, 14, 16, 3, 100002, 18, 4, 100009, 18, 16, 5, 16] [0, 100003, 18] [] rfl (by decide)) (wlb_ok _ _ _ (by decide))
    · rcases (by omega : p = 0 ∨ p = 1 ∨ p = 2 ∨ p = 3) with rfl | rfl | rfl | rfl
      · exact d0
      · exact d1
      · exact d2
      · exact d3
    · rcases (by omega : p = 0 ∨ p = 1 ∨ p = 2) with rfl | rfl | rfl
      · exact c1
      · exact c2
      · exact c3
    · have hj : j < 17 := hj
      show gi x (12 + 0) j = trc (gi y 72 (200 * 0 + j))
      rw [(a5 j hj).1]; exact (a5 j hj).2
  · have a := allB_ok 4 a4 s hs
    rw [Bool.and_eq_true] at a
    obtain ⟨s1, s2, s3, s4, s5⟩ := of_decide_eq_true a.1
    exact ⟨⟨s1, s2, s3⟩, ⟨0, by omega, s4, s5⟩, fun i hi => of_decide_eq_true (allB_ok 40 a.2 i hi)⟩
