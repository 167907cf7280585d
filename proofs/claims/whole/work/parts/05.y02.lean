/-! ===== pure: a text's code, run; what class and check answer by it ===== -/
theorem gp_f {β : Type} (x : (Nat → Nat → Int32) × β) (q j : Nat) (v : Int32) : gi (pi x q j v) q = upd (gi x q) j v := by
  funext a
  show (if q = q then upd (x.1 q) j v else x.1 q) a = _
  rw [if_pos rfl]; rfl
theorem upd_e (f : Nat → Int32) (j : Nat) (v : Int32) : upd f j v j = v := if_pos rfl
theorem upd_n (f : Nat → Int32) {j i : Nat} (v : Int32) (h : i ≠ j) : upd f j v i = f i := if_neg h
def ar (c : Int32) : Nat := if 100000 ≤ c then 0 else if c < 11 then 0 else if c = 13 then 1 else if c = 19 then 1 else 2
def opv (nm : Nat → Int32) (c b a : Int32) : Int32 := if 100000 ≤ c then c - 100000 else if c < 11 then nm c.toNatClampNeg else if c = 13 then (if b = 0 then 1 else 0) else if c = 19 then -b else f_X11_two c b a
def okc (c : Int32) : Prop := (100000 ≤ c.toInt ∧ c.toInt ≤ 109999) ∨ (0 ≤ c.toInt ∧ c.toInt ≤ 5) ∨ (11 ≤ c.toInt ∧ c.toInt ≤ 19)
def trc (c : Int32) : Int32 := if 100000 ≤ c then c - 100000 else if c < 11 then (-1) - c else if c = 11 then -12 else if c = 12 then -13 else if c = 13 then -11 else if c = 19 then -10 else -c
def evI (nm m : Nat → Int32) : Nat → Nat → (Nat → Int32) → Nat → (Nat → Int32)
  | 0, _, f, _ => f
  | n + 1, i, f, d => evI nm m n (i + 1) (upd f (d - ar (m i)) (opv nm (m i) (f (d - ar (m i))) (f (d - 1)))) (d - ar (m i) + 1)
def wfI (m : Nat → Int32) : Nat → Nat → Nat → Prop
  | 0, _, d => d = 1
  | n + 1, i, d => okc (m i) ∧ ar (m i) ≤ d ∧ wfI m n (i + 1) (d - ar (m i) + 1)
theorem ar_le (c : Int32) : ar c ≤ 2 := by
  unfold ar
  repeat' split
  all_goals omega
theorem ok_cases {c : Int32} (h : okc c) : (100000 ≤ c.toInt ∧ c.toInt ≤ 109999) ∨ c = 0 ∨ c = 1 ∨ c = 2 ∨ c = 3 ∨ c = 4 ∨ c = 5 ∨ c = 11 ∨ c = 12 ∨ c = 13 ∨ c = 14 ∨ c = 15 ∨ c = 16 ∨ c = 17 ∨ c = 18 ∨ c = 19 := by
  rcases h with h | h | h
  · exact Or.inl h
  · simp only [i32_eq, z_0, z_1, z_2, z_3, z_4, z_5, z_11, z_12, z_13, z_14, z_15, z_16, z_17, z_18, z_19]; omega
  · simp only [i32_eq, z_0, z_1, z_2, z_3, z_4, z_5, z_11, z_12, z_13, z_14, z_15, z_16, z_17, z_18, z_19]; omega
theorem ok_num {c : Int32} (h : 100000 ≤ c.toInt ∧ c.toInt ≤ 109999) : (100000 : Int32) ≤ c ∧ (c - 100000).toInt = c.toInt - 100000 := by
  refine ⟨i32_le.mpr (by rw [z_100000]; omega), ?_⟩
  rw [i32_sub, z_100000] <;> rw [z_100000] <;> omega
theorem takes_trc {c : Int32} (h : okc c) : f_X5_takes (trc c) = n32 (ar c) := by
  rcases ok_cases h with h | h | h | h | h | h | h | h | h | h | h | h | h | h | h | h
  · obtain ⟨h1, h2⟩ := ok_num h
    unfold f_X5_takes trc ar
    rw [if_pos h1, if_pos h1, if_neg (by rw [i32_le, h2, z_m10]; omega)]; rfl
  all_goals (subst h; rfl)
theorem result_trc {c : Int32} (h : okc c) {nm : Nat → Int32} {x : CS} (hn : ∀ j, j < 6 → gi x 52 j = nm j) (b a : Int32) : f_X5_result x (trc c) b a 52 = some (opv nm c b a) := by
  rcases ok_cases h with h | h | h | h | h | h | h | h | h | h | h | h | h | h | h | h
  · obtain ⟨h1, h2⟩ := ok_num h
    unfold f_X5_result trc opv
    rw [if_pos h1, if_pos h1]
    have h3 : ∀ z : Int32, z.toInt < 0 → ¬ (c - 100000) = z := fun z hz q => by rw [i32_eq, h2] at q; omega
    rw [if_neg (h3 _ (by rw [z_m18]; omega)), if_neg (h3 _ (by rw [z_m17]; omega)), if_neg (h3 _ (by rw [z_m16]; omega)), if_neg (h3 _ (by rw [z_m15]; omega)), if_neg (h3 _ (by rw [z_m14]; omega)), if_neg (h3 _ (by rw [z_m13]; omega)), if_neg (h3 _ (by rw [z_m12]; omega)), if_neg (h3 _ (by rw [z_m11]; omega)), if_neg (h3 _ (by rw [z_m10]; omega)), if_neg (by rw [i32_lt, h2, z_0]; omega)]
  · subst h; exact congrArg some (hn 0 (by omega))
  · subst h; exact congrArg some (hn 1 (by omega))
  · subst h; exact congrArg some (hn 2 (by omega))
  · subst h; exact congrArg some (hn 3 (by omega))
  · subst h; exact congrArg some (hn 4 (by omega))
  · subst h; exact congrArg some (hn 5 (by omega))
  · subst h
    show (if b = 0 then (if a = 0 then some 0 else some 1) else some 1) = some (if b = 0 then (if a = 0 then (0 : Int32) else 1) else 1)
    split <;> (try split) <;> rfl
  · subst h
    show (if b = 0 then some 0 else (if a = 0 then some 0 else some 1)) = some (if b = 0 then (0 : Int32) else (if a = 0 then 0 else 1))
    split <;> (try split) <;> rfl
  · subst h
    show (if b = 0 then some 1 else some 0) = some (if b = 0 then (1 : Int32) else 0)
    split <;> rfl
  · subst h
    show (if a ≤ b then some 0 else some 1) = some (if a ≤ b then (0 : Int32) else 1)
    split <;> rfl
  · subst h
    show (if b = a then some 1 else some 0) = some (if b = a then (1 : Int32) else 0)
    split <;> rfl
  · subst h; rfl
  · subst h; rfl
  · subst h; rfl
  · subst h; rfl
/-- a run looks at what it wrote alone -/
theorem ev_agree {nm m : Nat → Int32} : ∀ (k i d : Nat) (f g : Nat → Int32), wfI m k i d → (∀ j, j < d → f j = g j) → evI nm m k i f d 0 = evI nm m k i g d 0 := by
  intro k
  induction k with
  | zero =>
    intro i d f g h hj
    have h : d = 1 := h
    exact hj 0 (by omega)
  | succ k ih =>
    intro i d f g h hj
    obtain ⟨h1, h2, h3⟩ := h
    rw [evI, evI]
    refine ih _ _ _ _ h3 (fun j hj2 => ?_)
    have e : opv nm (m i) (f (d - ar (m i))) (f (d - 1)) = opv nm (m i) (g (d - ar (m i))) (g (d - 1)) := by
      rcases Nat.eq_zero_or_pos (ar (m i)) with h0 | h0
      · rcases ok_cases h1 with q | q | q | q | q | q | q | q | q | q | q | q | q | q | q | q
        · unfold opv; rw [if_pos (ok_num q).1, if_pos (ok_num q).1]
        · rw [q]; rfl
        · rw [q]; rfl
        · rw [q]; rfl
        · rw [q]; rfl
        · rw [q]; rfl
        · rw [q]; rfl
        all_goals (rw [q] at h0; exact absurd h0 (by decide))
      · rw [hj _ (by omega), hj _ (by omega)]
    rw [e]
    by_cases hd : j = d - ar (m i)
    · subst hd; rw [upd_e, upd_e]
    · rw [upd_n _ _ hd, upd_n _ _ hd]; exact hj j (by omega)
theorem M_worth {r p e : Nat} {nm m : Nat → Int32} (hr : r < 6) (hp : p < 3) (he : e ≤ 160) : ∀ (k i d n : Nat) (y : MS), i + k = e → k < n → d ≤ i → gi y 61 21 = n32 r → gi y 73 (4 * r + p + 1) = n32 e → (∀ j, j < e → gi y 72 (200 * r + j) = m j) → (∀ j, j < 6 → gi y 83 j = nm j) → wfI m k i d →
    wp (f_X11_worthOf_16 n y (n32 p) (n32 d) (n32 i)) (fun v => v.1 = evI nm m k i (gi y 82) d 0 ∧ (∀ q, q ≠ 82 → v.2.1 q = y.1 q) ∧ v.2.2 = y.2) := by
  intro k
  induction k with
  | zero =>
    intro i d n y hi hn hd h21 h73 h72 h83 hw
    obtain ⟨n, rfl⟩ : ∃ z, n = z + 1 := ⟨n - 1, by omega⟩
    rw [f_X11_worthOf_16, h21, q_4, q_1, n32_mul, n32_add, n32_add]
    refine wp_g (ib_n (by omega) (by omega)) ?_
    rw [n32_nat (by omega), h73]
    refine wp_t ((n32_le (by omega) (by omega)).mpr (by omega)) (wp_s ⟨rfl, fun _ _ => rfl, rfl⟩)
  | succ k ih =>
    intro i d n y hi hn hd h21 h73 h72 h83 hw
    obtain ⟨hc, ha, hw⟩ := hw
    obtain ⟨n, rfl⟩ : ∃ z, n = z + 1 := ⟨n - 1, by omega⟩
    have hal := ar_le (m i)
    have go : ∀ (v : Int32) (d' : Nat), d' = d - ar (m i) → v = opv nm (m i) (gi y 82 d') (gi y 82 (d - 1)) → wp (f_X11_worthOf_16 n (pi y 82 d' v) (n32 p) (n32 (d' + 1)) (n32 (i + 1))) (fun v => v.1 = evI nm m (k + 1) i (gi y 82) d 0 ∧ (∀ q, q ≠ 82 → v.2.1 q = y.1 q) ∧ v.2.2 = y.2) := by
      intro v d' e1 e2
      subst e1
      refine wp_m (ih (i + 1) (d - ar (m i) + 1) n (pi y 82 (d - ar (m i)) v) (by omega) (by omega) (by omega) ?_ ?_ ?_ ?_ hw) (fun w hv => ⟨?_, fun q hq => ?_, hv.2.2⟩)
      · rw [gp_q _ _ _ _ (by omega)]; exact h21
      · rw [gp_q _ _ _ _ (by omega)]; exact h73
      · intro j hj; rw [gp_q _ _ _ _ (by omega)]; exact h72 j hj
      · intro j hj; rw [gp_q _ _ _ _ (by omega)]; exact h83 j hj
      · rw [hv.1, gp_f, evI, e2]
      · rw [hv.2.1 q hq]; exact pi1_q _ _ _ hq
    rw [f_X11_worthOf_16, h21, q_4, q_1, n32_mul, n32_add, n32_add]
    refine wp_g (ib_n (by omega) (by omega)) ?_
    rw [n32_nat (by omega), h73]
    refine wp_e (fun q => by have := (n32_le (by omega) (by omega)).mp q; omega) ?_
    rw [q_200, n32_mul, n32_add]
    refine wp_g (ib_n (by omega) (by omega)) ?_
    rw [n32_nat (by omega), h72 i (by omega)]
    by_cases h1 : (100000 : Int32) ≤ m i
    · have h11 : (11 : Int32) ≤ m i := i32_le.mpr (by have := i32_le.mp h1; rw [z_100000] at this; rw [z_11]; omega)
      refine wp_t h1 ?_
      unfold f_X11_worthOf_66
      refine wp_t h11 ?_
      unfold f_X11_worthOf_93 f_X11_worthOf_191
      refine wp_g (ib_n (by omega) (by omega)) ?_
      rw [n32_nat (by omega), q_1, n32_add, n32_add]
      have e0 : ar (m i) = 0 := by unfold ar; rw [if_pos h1]
      exact go _ d (by omega) (by unfold opv; rw [if_pos h1])
    refine wp_e h1 ?_
    by_cases h2 : (11 : Int32) ≤ m i
    · refine wp_t h2 ?_
      have h2' : ¬ m i < 11 := fun q => by rw [i32_lt] at q; rw [i32_le] at h2; omega
      by_cases h3 : m i = 13
      · have e0 : ar (m i) = 1 := by rw [h3]; rfl
        refine wp_t h3 ?_
        rw [n32_sub (by omega)]
        refine wp_g (ib_n (by omega) (by omega)) ?_
        unfold f_X11_worthOf_130 f_X11_worthOf_191
        rw [n32_nat (by omega)]
        refine wp_i (fun hz => ?_) (fun hz => ?_)
        · refine wp_g (ib_n (by omega) (by omega)) ?_
          rw [q_1, n32_add]
          have := go (n32 1) (d - 1) (by omega) (by unfold opv; rw [if_neg h1, if_neg h2', if_pos h3, if_pos hz]; rfl)
          rw [show d - 1 + 1 = d from by omega] at this
          exact this
        · refine wp_g (ib_n (by omega) (by omega)) ?_
          rw [q_1, n32_add]
          have := go 0 (d - 1) (by omega) (by unfold opv; rw [if_neg h1, if_neg h2', if_pos h3, if_neg hz])
          rw [show d - 1 + 1 = d from by omega] at this
          exact this
      refine wp_e h3 ?_
      by_cases h4 : m i = 19
      · have e0 : ar (m i) = 1 := by rw [h4]; rfl
        refine wp_t h4 ?_
        rw [n32_sub (by omega)]
        refine wp_g (ib_n (by omega) (by omega)) (wp_g (ib_n (by omega) (by omega)) ?_)
        unfold f_X11_worthOf_191
        rw [n32_nat (by omega), q_1, n32_add]
        have := go (-(gi y 82 (d - 1))) (d - 1) (by omega) (by unfold opv; rw [if_neg h1, if_neg h2', if_neg h3, if_pos h4])
        rw [show d - 1 + 1 = d from by omega] at this
        exact this
      refine wp_e h4 ?_
      have e0 : ar (m i) = 2 := by unfold ar; rw [if_neg h1, if_neg h2', if_neg h3, if_neg h4]
      have ed : n32 d + -(n32 1) = n32 (d - 1) := by
        rw [← n32_sub (by omega), Int32.sub_eq_add_neg]
      rw [ed, n32_sub (by omega)]
      refine wp_g (ib_n (by omega) (by omega)) (wp_g (ib_n (by omega) (by omega)) (wp_g (ib_n (by omega) (by omega)) ?_))
      unfold f_X11_worthOf_191
      rw [n32_nat (by omega), n32_nat (by omega), q_1, n32_add]
      have := go (f_X11_two (m i) (gi y 82 (d - 1 - 1)) (gi y 82 (d - 1))) (d - 1 - 1) (by omega) (by unfold opv; rw [if_neg h1, if_neg h2', if_neg h3, if_neg h4])
      rw [show d - 1 - 1 + 1 = d - 1 from by omega] at this
      exact this
    · refine wp_e h2 ?_
      have h2' : m i < 11 := by rw [i32_lt]; rw [i32_le] at h2; omega
      have h5 : 0 ≤ (m i).toInt ∧ (m i).toInt ≤ 5 := by
        rw [i32_le] at h2; rw [z_11] at h2
        rcases hc with q | q | q <;> omega
      unfold f_X11_worthOf_66
      refine wp_e h2 (wp_g (ib_t h5.1 (by omega) (by omega)) ?_)
      unfold f_X11_worthOf_93 f_X11_worthOf_191
      refine wp_g (ib_n (by omega) (by omega)) ?_
      rw [n32_nat (by omega), q_1, n32_add, n32_add]
      have e0 : ar (m i) = 0 := by unfold ar; rw [if_neg h1, if_pos h2']
      refine go _ d (by omega) (by unfold opv; rw [if_neg h1, if_pos h2']; exact h83 _ (by show (m i).toInt.toNat < 6; omega))
theorem al_12 {r : Nat} (h : r < 6) : al (12 + r) = 160 := by
  rcases (by omega : r = 0 ∨ r = 1 ∨ r = 2 ∨ r = 3 ∨ r = 4 ∨ r = 5) with rfl | rfl | rfl | rfl | rfl | rfl <;> rfl
theorem al_19 {r : Nat} (h : r < 6) : al (19 + r) = 3 := by
  rcases (by omega : r = 0 ∨ r = 1 ∨ r = 2 ∨ r = 3 ∨ r = 4 ∨ r = 5) with rfl | rfl | rfl | rfl | rfl | rfl <;> rfl
def clq (p : Nat) (v : Int32) : Int32 := if 0 ≤ v then (if v ≤ (if p = 0 then 9 else 999) then v else (if p = 0 then 9 else 999)) else 0
theorem clq_b (p : Nat) (v : Int32) : 0 ≤ (clq p v).toInt ∧ (clq p v).toInt ≤ 999 ∧ (p = 0 → (clq p v).toInt ≤ 9) := by
  unfold clq
  by_cases h : (0 : Int32) ≤ v
  · rw [if_pos h]
    rw [i32_le, z_0] at h
    by_cases hp : p = 0
    · simp only [if_pos hp]
      by_cases h2 : v ≤ 9
      · rw [if_pos h2]; rw [i32_le, z_9] at h2; omega
      · rw [if_neg h2, z_9]; omega
    · simp only [if_neg hp]
      by_cases h2 : v ≤ 999
      · rw [if_pos h2]; rw [i32_le, z_999] at h2; omega
      · rw [if_neg h2, z_999]; omega
  · rw [if_neg h, z_0]; omega
theorem clq_216 (x : CS) (p : Nat) (v s0 : Int32) (hs : s0 = (if p = 0 then 9 else 999)) : f_X3_answer_216 x s0 v 0 = some (clq p v, x) := by
  unfold f_X3_answer_216 clq
  rw [← hs]
  have hs0 : 0 < s0.toInt := by rw [hs]; split <;> decide
  refine congrArg some (Prod.ext ?_ rfl)
  show (if (0 : Int32) < (if s0 < v then s0 else v) then (if s0 < v then s0 else v) else 0) = (if 0 ≤ v then (if v ≤ s0 then v else s0) else 0)
  by_cases h1 : s0 < v
  · rw [if_pos h1, if_pos (i32_lt.mpr (by rw [z_0]; exact hs0))]
    rw [i32_lt] at h1
    rw [if_pos (i32_le.mpr (by rw [z_0]; omega)), if_neg (fun q => by rw [i32_le] at q; omega)]
  · rw [if_neg h1]
    rw [i32_lt] at h1
    by_cases h2 : (0 : Int32) < v
    · rw [if_pos h2]
      rw [i32_lt, z_0] at h2
      rw [if_pos (i32_le.mpr (by rw [z_0]; omega)), if_pos (i32_le.mpr (by omega))]
    · rw [if_neg h2]
      rw [i32_lt, z_0] at h2
      by_cases h3 : (0 : Int32) ≤ v
      · rw [if_pos h3, if_pos (i32_le.mpr (by omega))]
        rw [i32_le, z_0] at h3
        exact i32_eq.mpr (by rw [z_0]; omega)
      · rw [if_neg h3]
theorem X_answer {r p e : Nat} {nm m : Nat → Int32} (hr : r < 6) (hp : p < 3) (he : e ≤ 160) : ∀ (k i d n : Nat) (x : CS), i + k = e → k < n → d ≤ i → (∀ j, j < e → gi x (12 + r) j = trc (m j)) → (∀ j, j < 6 → gi x 52 j = nm j) → wfI m k i d →
    wp (f_X3_answer_81 n x (n32 p) 52 (12 + r) (n32 e) (n32 d) (n32 i)) (fun v => v.1 = clq p (evI nm m k i (gi x 25) d 0) ∧ (∀ q, q ≠ 25 → v.2.1 q = x.1 q) ∧ v.2.2 = x.2) := by
  intro k
  induction k with
  | zero =>
    intro i d n x hi hn hd hc hm hw
    obtain ⟨n, rfl⟩ : ∃ z, n = z + 1 := ⟨n - 1, by omega⟩
    rw [f_X3_answer_81]
    refine wp_t ((n32_le (by omega) (by omega)).mpr (by omega)) ?_
    by_cases hp0 : p = 0
    · subst hp0
      refine wp_t rfl ?_
      rw [clq_216 x 0 _ 9 rfl]; exact wp_s ⟨rfl, fun _ _ => rfl, rfl⟩
    · refine wp_e (fun q => hp0 ((n32_inj (by omega) (by omega)).mp q)) ?_
      rw [clq_216 x p _ 999 (by rw [if_neg hp0])]; exact wp_s ⟨rfl, fun _ _ => rfl, rfl⟩
  | succ k ih =>
    intro i d n x hi hn hd hc hm hw
    obtain ⟨h1, ha, hw⟩ := hw
    obtain ⟨n, rfl⟩ : ∃ z, n = z + 1 := ⟨n - 1, by omega⟩
    have hal := ar_le (m i)
    have go : ∀ (b a : Int32), (ar (m i) = 0 ∨ b = gi x 25 (d - ar (m i))) → (ar (m i) ≤ 1 ∨ a = gi x 25 (d - 1)) → wp (f_X3_answer_161 (f_X3_answer_81 n) x (n32 p) 52 (12 + r) (n32 e) (n32 d) (n32 i) (trc (m i)) (n32 (ar (m i))) b a) (fun v => v.1 = clq p (evI nm m (k + 1) i (gi x 25) d 0) ∧ (∀ q, q ≠ 25 → v.2.1 q = x.1 q) ∧ v.2.2 = x.2) := by
      intro b a hb ha2
      unfold f_X3_answer_161
      refine wp_be (result_trc h1 hm b a) ?_
      have e1 : n32 d + (1 - n32 (ar (m i))) = n32 (d - ar (m i) + 1) := by
        rw [← Int32.add_neg_eq_sub, ← Int32.add_assoc, q_1, n32_add, Int32.add_neg_eq_sub, n32_sub (by omega)]
        congr 1; omega
      rw [e1, q_1, n32_sub (by omega), n32_add]
      refine wp_g (ib_n (by omega) (by omega)) ?_
      rw [n32_nat (by omega), show d - ar (m i) + 1 - 1 = d - ar (m i) from by omega]
      refine wp_m (ih (i + 1) (d - ar (m i) + 1) n _ (by omega) (by omega) (by omega) ?_ ?_ hw) (fun w hv => ⟨?_, fun q hq => ?_, hv.2.2⟩)
      · intro j hj; rw [gp_q _ _ _ _ (by omega)]; exact hc j hj
      · intro j hj; rw [gp_q _ _ _ _ (by omega)]; exact hm j hj
      · rw [hv.1, gp_f, evI]
        refine congrArg (clq p) (congrArg (fun f => evI nm m k (i + 1) f (d - ar (m i) + 1) 0) (congrArg (upd (gi x 25) (d - ar (m i))) ?_))
        rcases Nat.lt_or_ge (ar (m i)) 2 with h2 | h2
        · rcases ok_cases h1 with q | q | q | q | q | q | q | q | q | q | q | q | q | q | q | q
          · unfold opv; rw [if_pos (ok_num q).1, if_pos (ok_num q).1]
          · rw [q]; rfl
          · rw [q]; rfl
          · rw [q]; rfl
          · rw [q]; rfl
          · rw [q]; rfl
          · rw [q]; rfl
          all_goals first
            | (exfalso; rw [q] at h2; exact absurd h2 (by decide))
            | (rcases hb with hb | hb
               · exfalso; rw [q] at hb; exact absurd hb (by decide)
               · rw [hb, q]; rfl)
        · rcases hb with hb | hb
          · omega
          · rcases ha2 with ha2 | ha2
            · omega
            · rw [hb, ha2]
      · rw [hv.2.1 q hq]; exact pi1_q _ _ _ hq
    rw [f_X3_answer_81, al_12 hr]
    refine wp_e (fun q => by have := (n32_le (by omega) (by omega)).mp q; omega) ?_
    refine wp_g (ib_n (by omega) (by omega)) ?_
    rw [n32_nat (by omega), hc i (by omega), takes_trc h1]
    refine wp_e (fun q => by have := (n32_lt (by omega) (by omega)).mp q; omega) ?_
    rw [n32_sub (by omega), q_160]
    refine wp_t ((n32_lt (by omega) (by omega)).mpr (by omega)) ?_
    unfold f_X3_answer_140
    rw [q_0]
    refine wp_i (fun hz => ?_) (fun hz => ?_)
    · have hz := (n32_le (by omega) (by omega)).mp hz
      rw [q_1]
      refine wp_t ((n32_le (by omega) (by omega)).mpr (by omega)) ?_
      exact go _ _ (Or.inl (by omega)) (Or.inl (by omega))
    · have hz : ¬ ar (m i) ≤ 0 := fun q => hz ((n32_le (by omega) (by omega)).mpr q)
      refine wp_g (ib_n (by omega) (by omega)) ?_
      rw [n32_nat (by omega), q_1]
      refine wp_i (fun hy => ?_) (fun hy => ?_)
      · have hy := (n32_le (by omega) (by omega)).mp hy
        exact go _ _ (Or.inr rfl) (Or.inl hy)
      · have hy : ¬ ar (m i) ≤ 1 := fun q => hy ((n32_le (by omega) (by omega)).mpr q)
        rw [n32_sub (by omega)]
        refine wp_g (ib_n (by omega) (by omega)) ?_
        rw [n32_nat (by omega)]
        exact go _ _ (Or.inr rfl) (Or.inr rfl)
def nmf (a b c t k w : Int32) : Nat → Int32
  | 0 => a
  | 1 => b
  | 2 => c
  | 3 => t
  | 4 => k
  | _ => w
/-- what THE LAW answers: a text's code m, its parts at s -/
def Qf (m : Nat → Int32) (s : Nat → Nat) (a b c : Int32) (p : Nat) (t w k : Int32) : Int32 := clq p (evI (nmf a b c t k w) m (s (p + 1) - s p) (s p) (fun _ => 0) 0 0)
def TXw (m : Nat → Int32) (s : Nat → Nat) : Prop := s 0 = 0 ∧ s 0 ≤ s 1 ∧ s 1 ≤ s 2 ∧ s 2 ≤ s 3 ∧ s 3 ≤ 160 ∧ ∀ p, p < 3 → wfI m (s (p + 1) - s p) (s p) 0
def LX (x : CS) (m : Nat → Int32) (s : Nat → Nat) : Prop := TXw m s ∧ ∃ r T, r < T ∧ T ≤ 6 ∧ gi x 1 2 = n32 r ∧ gi x 10 3 = n32 T ∧ (∀ p, p < 3 → gi x (19 + r) p = n32 (s (p + 1))) ∧ (∀ j, j < s 3 → gi x (12 + r) j = trc (m j))
def LM (y : MS) (m : Nat → Int32) (s : Nat → Nat) : Prop := TXw m s ∧ ∃ r, r < 6 ∧ gi y 61 21 = n32 r ∧ (∀ p, p < 4 → gi y 73 (4 * r + p) = n32 (s p)) ∧ (∀ j, j < s 3 → gi y 72 (200 * r + j) = m j)
theorem TXw_m {m : Nat → Int32} {s : Nat → Nat} (h : TXw m s) {p : Nat} (hp : p < 3) : s p ≤ s (p + 1) ∧ s (p + 1) ≤ s 3 ∧ s (p + 1) ≤ 160 ∧ s 3 ≤ 160 := by
  obtain ⟨h0, h1, h2, h3, h4, _⟩ := h
  rcases (by omega : p = 0 ∨ p = 1 ∨ p = 2) with rfl | rfl | rfl <;> simp only [Nat.zero_add, Nat.reduceAdd] <;> omega
def FX (x x' : CS) : Prop := (∀ q, q ≠ 25 → q ≠ 52 → x'.1 q = x.1 q) ∧ (∀ j, j < 3 → gi x' 52 j = gi x 52 j) ∧ x'.2 = x.2
def FM (y y' : MS) : Prop := (∀ q, q ≠ 82 → q ≠ 83 → y'.1 q = y.1 q) ∧ y'.2 = y.2
theorem M_says71 (y : MS) (p : Nat) (v s0 : Int32) (hs : s0 = (if p = 0 then 9 else 999)) : f_X11_says_71 y v s0 = some (clq p v, y) := by
  unfold f_X11_says_71 clq
  rw [← hs]
  split
  · split <;> rfl
  · rfl
theorem M_says {y : MS} {m : Nat → Int32} {s : Nat → Nat} {p : Nat} (h : LM y m s) (hp : p < 3) (t w k : Int32) : wp (f_X11_says y (n32 p) t w k) (fun v => v.1 = Qf m s (gi y 61 1) (gi y 61 2) (gi y 61 3) p t w k ∧ FM y v.2) := by
  obtain ⟨hT, r, hr, h21, h73, h72⟩ := h
  have hb := TXw_m hT hp
  unfold f_X11_says f_X11_worthOf
  rw [c_0, c_1, c_2, c_3, c_4, c_5]
  generalize hY : (pi (pi (pi (pi (pi (pi y 83 0 (gi y 61 1)) 83 1 (gi (pi y 83 0 (gi y 61 1)) 61 2)) 83 2 (gi (pi (pi y 83 0 (gi y 61 1)) 83 1 (gi (pi y 83 0 (gi y 61 1)) 61 2)) 61 3)) 83 3 t) 83 4 k) 83 5 w) = Y
  have hYq : ∀ q, q ≠ 83 → Y.1 q = y.1 q := by
    intro q hq; subst hY
    rw [pi1_q _ _ _ hq, pi1_q _ _ _ hq, pi1_q _ _ _ hq, pi1_q _ _ _ hq, pi1_q _ _ _ hq, pi1_q _ _ _ hq]
  have hY2 : Y.2 = y.2 := by subst hY; rfl
  have hYg : ∀ q j, q ≠ 83 → gi Y q j = gi y q j := fun q j hq => gi_of (hYq q hq) j
  have hYn : ∀ j, j < 6 → gi Y 83 j = nmf (gi y 61 1) (gi y 61 2) (gi y 61 3) t k w j := by
    intro j hj
    subst hY
    rcases (by omega : j = 0 ∨ j = 1 ∨ j = 2 ∨ j = 3 ∨ j = 4 ∨ j = 5) with rfl | rfl | rfl | rfl | rfl | rfl <;> simp [gp_if, nmf]
  rw [hYg 61 21 (by omega), h21, q_4, n32_mul, n32_add]
  refine wp_bw (P := fun v => v.1 = evI (nmf (gi y 61 1) (gi y 61 2) (gi y 61 3) t k w) m (s (p + 1) - s p) (s p) (fun _ => 0) 0 0 ∧ FM y v.2) ?_ (fun v hv => ?_)
  · refine wp_g (ib_n (by omega) (by omega)) ?_
    rw [n32_nat (by omega), hYg _ _ (by omega), h73 p (by omega), q_0]
    refine wp_m (M_worth hr hp (e := s (p + 1)) (by omega) (s (p + 1) - s p) (s p) 0 1000 Y (by omega) (by omega) (by omega) ?_ ?_ ?_ hYn (hT.2.2.2.2.2 p hp)) (fun v hv => ⟨?_, fun q h1 h2 => ?_, ?_⟩)
    · rw [hYg _ _ (by omega)]; exact h21
    · rw [hYg _ _ (by omega)]; exact h73 (p + 1) (by omega)
    · intro j hj; rw [hYg _ _ (by omega)]; exact h72 j (by omega)
    · rw [hv.1]; exact ev_agree _ _ _ _ _ (hT.2.2.2.2.2 p hp) (fun j hj => absurd hj (Nat.not_lt_zero j))
    · rw [hv.2.1 q h1, hYq q h2]
    · rw [hv.2.2, hY2]
  · obtain ⟨v1, v2⟩ := v
    obtain ⟨e1, e2⟩ := hv
    have e1 : v1 = _ := e1
    by_cases hp0 : p = 0
    · subst hp0
      refine wp_t rfl ?_
      rw [M_says71 v2 0 v1 9 rfl]
      exact wp_s ⟨by rw [e1]; rfl, e2⟩
    · refine wp_e (fun q => hp0 ((n32_inj (by omega) (by omega)).mp q)) ?_
      rw [M_says71 v2 p v1 999 (by rw [if_neg hp0])]
      exact wp_s ⟨by rw [e1]; rfl, e2⟩
theorem X_asked {x : CS} {m : Nat → Int32} {s : Nat → Nat} {p : Nat} (h : LX x m s) (hp : p < 3) (t w k : Int32) : wp (f_X2_asked x (n32 p) t w k) (fun v => v.1 = Qf m s (gi x 52 0) (gi x 52 1) (gi x 52 2) p t w k ∧ FX x v.2) := by
  obtain ⟨hT, r, T, hrT, hT6, h12, h103, h19, h12c⟩ := h
  have hb := TXw_m hT hp
  have hr : r < 6 := by omega
  unfold f_X2_asked
  rw [c_3, c_4, c_5]
  generalize hY : (pi (pi (pi x 52 3 t) 52 4 k) 52 5 w) = Y
  have hYq : ∀ q, q ≠ 52 → Y.1 q = x.1 q := by
    intro q hq; subst hY
    rw [pi1_q _ _ _ hq, pi1_q _ _ _ hq, pi1_q _ _ _ hq]
  have hY2 : Y.2 = x.2 := by subst hY; rfl
  have hYg : ∀ q j, q ≠ 52 → gi Y q j = gi x q j := fun q j hq => gi_of (hYq q hq) j
  have hYn : ∀ j, j < 6 → gi Y 52 j = nmf (gi x 52 0) (gi x 52 1) (gi x 52 2) t k w j := by
    intro j hj
    subst hY
    rcases (by omega : j = 0 ∨ j = 1 ∨ j = 2 ∨ j = 3 ∨ j = 4 ∨ j = 5) with rfl | rfl | rfl | rfl | rfl | rfl <;> simp [gp_if, nmf]
  have hY3 : ∀ j, j < 3 → gi Y 52 j = gi x 52 j := by
    intro j hj
    subst hY
    rw [gp_j _ _ _ (by omega), gp_j _ _ _ (by omega), gp_j _ _ _ (by omega)]
  rw [hYg 1 2 (by omega), h12]
  have key : ∀ e, e = s (p + 1) → ∀ st, st = s p → wp (f_X3_answer_79 (pi Y 25 0 0) (n32 p) 52 (12 + r) (n32 e) 0 (n32 st)) (fun v => v.1 = Qf m s (gi x 52 0) (gi x 52 1) (gi x 52 2) p t w k ∧ FX x v.2) := by
    intro e he st hst
    subst he; subst hst
    unfold f_X3_answer_79
    refine wp_m (X_answer (nm := nmf (gi x 52 0) (gi x 52 1) (gi x 52 2) t k w) hr hp (e := s (p + 1)) (by omega) (s (p + 1) - s p) (s p) 0 1000 (pi Y 25 0 0) (by omega) (by omega) (by omega) ?_ ?_ (hT.2.2.2.2.2 p hp)) (fun v hv => ⟨?_, fun q h1 h2 => ?_, fun j hj => ?_, ?_⟩)
    · intro j hj; rw [gp_q _ _ _ _ (by omega), hYg _ _ (by omega)]; exact h12c j (by omega)
    · intro j hj; rw [gp_q _ _ _ _ (by omega)]; exact hYn j hj
    · rw [hv.1]; exact congrArg (clq p) (ev_agree _ _ _ _ _ (hT.2.2.2.2.2 p hp) (fun j hj => absurd hj (Nat.not_lt_zero j)))
    · rw [hv.2.1 q h1, pi1_q _ _ _ h1, hYq q h2]
    · rw [gi_of (hv.2.1 52 (by omega)) j, gp_q _ _ _ _ (by omega)]; exact hY3 j hj
    · rw [hv.2.2]; exact hY2
  have e160 : ∀ z, z ≤ 160 → (if nI 160 < n32 z then nI 160 else n32 z) = n32 z := fun z hz => if_neg (fun q => by
    have q : n32 160 < n32 z := q
    have := (n32_lt (by omega) (by omega)).mp q; omega)
  refine wp_bw (P := fun v => v.1 = Qf m s (gi x 52 0) (gi x 52 1) (gi x 52 2) p t w k ∧ FX x v.2) ?_ (fun v hv => wp_s hv)
  unfold f_X3_answer
  refine wp_e (fun q => by rw [i32_lt, n32_int (by omega), z_0] at q; omega) ?_
  rw [hYg 10 3 (by omega), h103]
  refine wp_e (fun q => by have := (n32_le (by omega) (by omega)).mp q; omega) ?_
  refine wp_e (fun q => by rw [i32_lt, n32_int (by omega), z_0] at q; omega) ?_
  refine wp_t (by rw [i32_le, n32_int (by omega), z_2]; omega) ?_
  rw [n32_nat (by omega), n32_nat (by omega), al_12 hr, al_19 hr, hYg _ _ (by omega), h19 p hp, c_0, e160 _ (by omega)]
  refine wp_g (ib_n hr (by omega)) (wp_g (ib_n hr (by omega)) (wp_g (ib_n hp (by omega)) (wp_g rfl ?_)))
  by_cases hp0 : p = 0
  · subst hp0
    refine wp_t rfl ?_
    exact key _ rfl 0 (by rw [hT.1])
  · refine wp_e (fun q => hp0 ((n32_inj (by omega) (by omega)).mp q)) ?_
    rw [q_1, n32_sub (by omega)]
    refine wp_g (ib_n hr (by omega)) (wp_g (ib_n (by omega) (by omega)) ?_)
    rw [n32_nat (by omega), gp_q _ _ _ _ (by omega), hYg _ _ (by omega), h19 (p - 1) (by omega), show p - 1 + 1 = p from by omega]
    rw [if_neg (fun q => by rw [i32_lt, n32_int (by omega), z_0] at q; omega)]
    exact key _ rfl _ rfl
theorem Qf_b (m : Nat → Int32) (s : Nat → Nat) (a b c : Int32) (p : Nat) (t w k : Int32) : 0 ≤ (Qf m s a b c p t w k).toInt ∧ (Qf m s a b c p t w k).toInt ≤ 999 := ⟨(clq_b _ _).1, (clq_b _ _).2.1⟩
