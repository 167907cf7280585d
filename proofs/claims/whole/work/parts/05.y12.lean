/-! ===== pure: floats, bears, bar ===== -/
def aW (h : HS) : Int32 := acc (fun s a => a + hW h s) 9 0 0
def aH (h : HS) : Int32 := acc (fun s a => if hH h s < a then hH h s else a) 8 1 (hH h 0)
def wei (h : HS) : Int32 := acc (fun s a => a + (hT h s * (hW h s + 2 * hH h s)) / 4) 9 0 0
def aQ (h : HS) : Int32 := acc (fun s a => a + hW h s * hW h s) 9 0 0
def drg (h : HS) (l : Int32) : Int32 := (((wei h + l) + aW h) - 1) / aW h
def snk (h : HS) (l : Int32) : Bool := if hB h = 0 then (if drg h l ≤ aH h then false else true) else true
theorem acc_b {f : Nat → Int32 → Int32} {lo hi : Int} (hf : ∀ s a, s < 9 → a.toInt + lo ≤ (f s a).toInt ∧ (f s a).toInt ≤ a.toInt + hi ∨ a.toInt < 0 ∨ 1000000 < a.toInt) (hlo : 0 ≤ lo) (hhi : hi ≤ 100000) : ∀ (k s : Nat) (a : Int32), s + k ≤ 9 → 0 ≤ a.toInt → a.toInt ≤ 100000 * s → a.toInt + lo * k ≤ (acc f k s a).toInt ∧ (acc f k s a).toInt ≤ a.toInt + hi * k := by
  intro k
  induction k with
  | zero => intro s a _ _ _; simp only [acc]; omega
  | succ k ih =>
    intro s a hs h0 h1
    rw [acc]
    rcases hf s a (by omega) with q | q | q
    · have := ih (s + 1) (f s a) (by omega) (by omega) (by omega)
      have e1 : lo * ((k + 1 : Nat) : Int) = lo * k + lo := by rw [Int.natCast_add, Int.mul_add]; simp
      have e2 : hi * ((k + 1 : Nat) : Int) = hi * k + hi := by rw [Int.natCast_add, Int.mul_add]; simp
      rw [e1, e2]
      omega
    · omega
    · omega
theorem aW_b {w : Nat} {h : HS} (b : BH w h) : 9 ≤ (aW h).toInt ∧ (aW h).toInt ≤ 1323 := by
  have := acc_b (f := fun s a => a + hW h s) (lo := 1) (hi := 147) (fun s a hs => by
    by_cases c : a.toInt < 0 ∨ 1000000 < a.toInt
    · exact Or.inr c
    · refine Or.inl ?_
      have b1 := (b.2 s hs).1
      have b0 := b.1
      have e : (a + hW h s).toInt = a.toInt + (hW h s).toInt := i32_add (by omega) (by omega)
      show a.toInt + 1 ≤ (a + hW h s).toInt ∧ (a + hW h s).toInt ≤ a.toInt + 147
      rw [e]; omega) (by omega) (by omega) 9 0 0 (by omega) (by rw [z_0]; omega) (by rw [z_0]; omega)
  rw [z_0] at this
  unfold aW
  omega
theorem i32_div {a b : Int32} (h : 0 ≤ a.toInt) (h2 : 0 < b.toInt) : (a / b).toInt = a.toInt / b.toInt := by
  rw [Int32.toInt_div_of_ne_right a b (fun q => by rw [q] at h2; exact absurd h2 (by decide))]
  exact Int.tdiv_eq_ediv_of_nonneg h
theorem wei_b {w : Nat} (hw : w ≤ 10) {h : HS} (b : BH w h) : 0 ≤ (wei h).toInt ∧ (wei h).toInt ≤ 27000 := by
  have := acc_b (f := fun s a => a + (hT h s * (hW h s + 2 * hH h s)) / 4) (lo := 0) (hi := 3000) (fun s a hs => by
    by_cases c : a.toInt < 0 ∨ 1000000 < a.toInt
    · exact Or.inr c
    · refine Or.inl ?_
      obtain ⟨b1, b2, b3⟩ := b.2 s hs
      have b0 := b.1
      have e1 : (2 * hH h s).toInt = 2 * (hH h s).toInt := by rw [i32_mul, z_2] <;> rw [z_2] <;> omega
      have e2 : (hW h s + 2 * hH h s).toInt = (hW h s).toInt + 2 * (hH h s).toInt := by rw [i32_add, e1] <;> rw [e1] <;> omega
      have hp : 0 ≤ (hT h s).toInt * ((hW h s).toInt + 2 * (hH h s).toInt) ∧ (hT h s).toInt * ((hW h s).toInt + 2 * (hH h s).toInt) ≤ 20 * 600 := by
        refine ⟨Int.mul_nonneg (by omega) (by omega), Int.mul_le_mul (by omega) (by omega) (by omega) (by omega)⟩
      have e3 : (hT h s * (hW h s + 2 * hH h s)).toInt = (hT h s).toInt * ((hW h s).toInt + 2 * (hH h s).toInt) := by rw [i32_mul, e2] <;> rw [e2] <;> omega
      have e4 : ((hT h s * (hW h s + 2 * hH h s)) / 4).toInt = ((hT h s).toInt * ((hW h s).toInt + 2 * (hH h s).toInt)) / 4 := by rw [i32_div, e3, z_4]; rw [e3]; omega; rw [z_4]; omega
      have e5 : (a + (hT h s * (hW h s + 2 * hH h s)) / 4).toInt = a.toInt + ((hT h s).toInt * ((hW h s).toInt + 2 * (hH h s).toInt)) / 4 := by rw [i32_add, e4] <;> rw [e4] <;> omega
      show a.toInt + 0 ≤ (a + (hT h s * (hW h s + 2 * hH h s)) / 4).toInt ∧ (a + (hT h s * (hW h s + 2 * hH h s)) / 4).toInt ≤ a.toInt + 3000
      rw [e5]
      exact ⟨by omega, by omega⟩) (by omega) (by omega) 9 0 0 (by omega) (by rw [z_0]; omega) (by rw [z_0]; omega)
  rw [z_0] at this
  unfold wei
  omega
theorem drg_b {w : Nat} (hw : w ≤ 10) {h : HS} (b : BH w h) {l : Int32} (h0 : 0 ≤ l.toInt) (h1 : l.toInt ≤ 9999) : 0 ≤ (drg h l).toInt ∧ (drg h l).toInt ≤ 100000 := by
  have a1 := aW_b b
  have a2 := wei_b hw b
  have e1 : (wei h + l).toInt = (wei h).toInt + l.toInt := i32_add (by omega) (by omega)
  have e2 : (wei h + l + aW h).toInt = (wei h).toInt + l.toInt + (aW h).toInt := by rw [i32_add, e1] <;> rw [e1] <;> omega
  have e3 : (wei h + l + aW h - 1).toInt = (wei h).toInt + l.toInt + (aW h).toInt - 1 := by rw [i32_sub, e2, z_1] <;> rw [e2, z_1] <;> omega
  unfold drg
  rw [i32_div (by rw [e3]; omega) (by omega), e3]
  refine ⟨Int.ediv_nonneg (by omega) (by omega), ?_⟩
  have := Int.ediv_le_self (a := (wei h).toInt + l.toInt + (aW h).toInt - 1) (b := (aW h).toInt) (by omega)
  omega
theorem X_allWide {x0 x : CS} {nm : EX} {h : HS} {e : EX} (hx : HX x0 nm h e x) : f_X2_allWide x = some (aW h) := by
  have key : ∀ (k s n : Nat) (a : Int32), s + k = 9 → k < n → f_X2_allWide_4 x n a (n32 s) = some (acc (fun s a => a + hW h s) k s a) := by
    intro k
    induction k with
    | zero =>
      intro s n a hi hn
      obtain ⟨n, rfl⟩ : ∃ w, n = w + 1 := ⟨n - 1, by omega⟩
      rw [f_X2_allWide_4]
      exact if_pos (n_le (i := 9) (by omega) (by omega))
    | succ k ih =>
      intro s n a hi hn
      obtain ⟨n, rfl⟩ : ∃ w, n = w + 1 := ⟨n - 1, by omega⟩
      have hs : s < 9 := by omega
      refine wp_eq ?_
      rw [f_X2_allWide_4, n32_nat (by omega), hx.2.2.1 s hs, n_inc]
      exact wp_e (n_nle (i := 9) (by omega) (by omega)) (wp_g (ib_n hs (by omega)) ⟨_, ih (s + 1) n _ (by omega) (by omega), rfl⟩)
  exact key 9 0 1000 0 (by omega) (by omega)
theorem M_allWide {y0 y : MS} {h : HS} (hy : HM y0 h y) : f_X11_allWide y 0 = some (aW h) := by
  have key : ∀ (k s n : Nat) (a : Int32), s + k = 9 → k < n → f_X11_allWide_4 y n 0 a (n32 s) = some (acc (fun s a => a + hW h s) k s a) := by
    intro k
    induction k with
    | zero =>
      intro s n a hi hn
      obtain ⟨n, rfl⟩ : ∃ w, n = w + 1 := ⟨n - 1, by omega⟩
      rw [f_X11_allWide_4]
      exact if_pos (n_le (i := 9) (by omega) (by omega))
    | succ k ih =>
      intro s n a hi hn
      obtain ⟨n, rfl⟩ : ∃ w, n = w + 1 := ⟨n - 1, by omega⟩
      have hs : s < 9 := by omega
      refine wp_eq ?_
      rw [f_X11_allWide_4]
      unfold f_X11_allWide_37
      rw [n32_nat (by omega), hy.2.1 s hs, n_inc]
      exact wp_e (n_nle (i := 9) (by omega) (by omega)) (wp_t rfl (wp_g (ib_n hs (by omega)) ⟨_, ih (s + 1) n _ (by omega) (by omega), rfl⟩))
  exact key 9 0 1000 0 (by omega) (by omega)
theorem M_allQ {y0 y : MS} {h : HS} (hy : HM y0 h y) : f_X11_allWide y 1 = some (aQ h) := by
  have key : ∀ (k s n : Nat) (a : Int32), s + k = 9 → k < n → f_X11_allWide_4 y n 1 a (n32 s) = some (acc (fun s a => a + hW h s * hW h s) k s a) := by
    intro k
    induction k with
    | zero =>
      intro s n a hi hn
      obtain ⟨n, rfl⟩ : ∃ w, n = w + 1 := ⟨n - 1, by omega⟩
      rw [f_X11_allWide_4]
      exact if_pos (n_le (i := 9) (by omega) (by omega))
    | succ k ih =>
      intro s n a hi hn
      obtain ⟨n, rfl⟩ : ∃ w, n = w + 1 := ⟨n - 1, by omega⟩
      have hs : s < 9 := by omega
      refine wp_eq ?_
      rw [f_X11_allWide_4]
      unfold f_X11_allWide_37
      rw [n32_nat (by omega), hy.2.1 s hs, n_inc]
      exact wp_e (n_nle (i := 9) (by omega) (by omega)) (wp_e (by decide) (wp_g (ib_n hs (by omega)) (wp_g (ib_n hs (by omega)) ⟨_, ih (s + 1) n _ (by omega) (by omega), rfl⟩)))
  exact key 9 0 1000 0 (by omega) (by omega)
theorem X_leastHigh {x0 x : CS} {nm : EX} {h : HS} {e : EX} (hx : HX x0 nm h e x) : f_X2_leastHigh x = some (aH h) := by
  have key : ∀ (k s n : Nat) (a : Int32), s + k = 9 → k < n → f_X2_leastHigh_9 x n a (n32 s) = some (acc (fun s a => if hH h s < a then hH h s else a) k s a) := by
    intro k
    induction k with
    | zero =>
      intro s n a hi hn
      obtain ⟨n, rfl⟩ : ∃ w, n = w + 1 := ⟨n - 1, by omega⟩
      rw [f_X2_leastHigh_9]
      exact if_pos (n_le (i := 9) (by omega) (by omega))
    | succ k ih =>
      intro s n a hi hn
      obtain ⟨n, rfl⟩ : ∃ w, n = w + 1 := ⟨n - 1, by omega⟩
      have hs : s < 9 := by omega
      refine wp_eq ?_
      rw [f_X2_leastHigh_9, n32_nat (by omega), hx.2.2.2.2.1 s hs, n_inc]
      exact wp_e (n_nle (i := 9) (by omega) (by omega)) (wp_g (ib_n hs (by omega)) ⟨_, ih (s + 1) n _ (by omega) (by omega), rfl⟩)
  unfold f_X2_leastHigh
  rw [c_0, hx.2.2.2.2.1 0 (by omega)]
  exact key 8 1 1000 _ (by omega) (by omega)
theorem M_leastHigh {y0 y : MS} {h : HS} (hy : HM y0 h y) : f_X11_leastHigh y = some (aH h) := by
  have key : ∀ (k s n : Nat) (a : Int32), s + k = 9 → k < n → f_X11_leastHigh_9 y n a (n32 s) = some (acc (fun s a => if hH h s < a then hH h s else a) k s a) := by
    intro k
    induction k with
    | zero =>
      intro s n a hi hn
      obtain ⟨n, rfl⟩ : ∃ w, n = w + 1 := ⟨n - 1, by omega⟩
      rw [f_X11_leastHigh_9]
      exact if_pos (n_le (i := 9) (by omega) (by omega))
    | succ k ih =>
      intro s n a hi hn
      obtain ⟨n, rfl⟩ : ∃ w, n = w + 1 := ⟨n - 1, by omega⟩
      have hs : s < 9 := by omega
      refine wp_eq ?_
      rw [f_X11_leastHigh_9]
      unfold f_X11_leastHigh_35
      rw [n32_nat (by omega), hy.2.2.2.1 s hs, n_inc, acc]
      refine wp_e (n_nle (i := 9) (by omega) (by omega)) (wp_g (ib_n hs (by omega)) (wp_i (fun c => ?_) (fun c => wp_g (ib_n hs (by omega)) ?_)))
      · rw [if_neg (show ¬ hH h s < a from fun q => by rw [i32_le] at c; rw [i32_lt] at q; omega)]
        exact ⟨_, ih (s + 1) n _ (by omega) (by omega), rfl⟩
      · rw [if_pos (show hH h s < a from by rw [i32_le] at c; rw [i32_lt]; omega)]
        exact ⟨_, ih (s + 1) n _ (by omega) (by omega), rfl⟩
  unfold f_X11_leastHigh
  rw [c_0, hy.2.2.2.1 0 (by omega)]
  exact key 8 1 1000 _ (by omega) (by omega)
theorem X_weight {x0 x : CS} {nm : EX} {h : HS} {e : EX} (hx : HX x0 nm h e x) : f_X2_weight x = some (wei h) := by
  have key : ∀ (k s n : Nat) (a : Int32), s + k = 9 → k < n → f_X2_weight_4 x n a (n32 s) = some (acc (fun s a => a + (hT h s * (hW h s + 2 * hH h s)) / 4) k s a) := by
    intro k
    induction k with
    | zero =>
      intro s n a hi hn
      obtain ⟨n, rfl⟩ : ∃ w, n = w + 1 := ⟨n - 1, by omega⟩
      rw [f_X2_weight_4]
      exact if_pos (n_le (i := 9) (by omega) (by omega))
    | succ k ih =>
      intro s n a hi hn
      obtain ⟨n, rfl⟩ : ∃ w, n = w + 1 := ⟨n - 1, by omega⟩
      have hs : s < 9 := by omega
      refine wp_eq ?_
      rw [f_X2_weight_4, n32_nat (by omega), hx.2.2.1 s hs, hx.2.2.2.1 s hs, hx.2.2.2.2.1 s hs, n_inc]
      exact wp_e (n_nle (i := 9) (by omega) (by omega)) (wp_g (ib_n hs (by omega)) (wp_g (ib_n hs (by omega)) (wp_g (ib_n hs (by omega)) ⟨_, ih (s + 1) n _ (by omega) (by omega), rfl⟩)))
  exact key 9 0 1000 0 (by omega) (by omega)
theorem M_weight {y0 y : MS} {h : HS} (hy : HM y0 h y) : f_X11_weight y = some (wei h) := by
  have key : ∀ (k s n : Nat) (a : Int32), s + k = 9 → k < n → f_X11_weight_4 y n a (n32 s) = some (acc (fun s a => a + (hT h s * (hW h s + 2 * hH h s)) / 4) k s a) := by
    intro k
    induction k with
    | zero =>
      intro s n a hi hn
      obtain ⟨n, rfl⟩ : ∃ w, n = w + 1 := ⟨n - 1, by omega⟩
      rw [f_X11_weight_4]
      exact if_pos (n_le (i := 9) (by omega) (by omega))
    | succ k ih =>
      intro s n a hi hn
      obtain ⟨n, rfl⟩ : ∃ w, n = w + 1 := ⟨n - 1, by omega⟩
      have hs : s < 9 := by omega
      refine wp_eq ?_
      rw [f_X11_weight_4, n32_nat (by omega), hy.2.1 s hs, hy.2.2.1 s hs, hy.2.2.2.1 s hs, n_inc]
      exact wp_e (n_nle (i := 9) (by omega) (by omega)) (wp_g (ib_n hs (by omega)) (wp_g (ib_n hs (by omega)) (wp_g (ib_n hs (by omega)) ⟨_, ih (s + 1) n _ (by omega) (by omega), rfl⟩)))
  exact key 9 0 1000 0 (by omega) (by omega)
theorem i32_p1 {a : Int32} (h : -100 ≤ a.toInt) (h2 : a.toInt ≤ 1000000) : (a + 1).toInt = a.toInt + 1 := by rw [i32_add, z_1] <;> rw [z_1] <;> omega
theorem pos_ne {a : Int32} (h : 0 < a.toInt) : decide (¬ a = 0) = true := decide_eq_true (fun q => by rw [q, z_0] at h; omega)
theorem X_draught {x0 x : CS} {nm : EX} {h : HS} {e : EX} {w : Nat} (hx : HX x0 nm h e x) (b : BH w h) (l : Int32) : f_X2_draught x l = some (drg h l) := by
  have a1 := aW_b b
  unfold f_X2_draught
  refine wp_eq (wp_be (X_allWide hx) (wp_t (by rw [i32_le, z_1]; omega) (wp_be (X_weight hx) (wp_g (pos_ne (by omega)) (wp_s rfl)))))
theorem M_draught {y0 y : MS} {h : HS} {w : Nat} (hy : HM y0 h y) (b : BH w h) (l : Int32) : f_X11_draughtOf y l = some (drg h l) := by
  have a1 := aW_b b
  unfold f_X11_draughtOf
  refine wp_eq (wp_be (M_weight hy) (wp_be (M_allWide hy) (wp_be (M_allWide hy) (wp_g (pos_ne (by omega)) (wp_s rfl)))))
theorem X_sinks {x0 x : CS} {nm : EX} {h : HS} {e : EX} {w : Nat} (hx : HX x0 nm h e x) (b : BH w h) (l : Int32) : f_X2_sinks x l = some (snk h l) := by
  unfold f_X2_sinks f_X2_sinks_19 snk
  rw [hx.2.2.2.2.2.1]
  refine wp_eq ?_
  by_cases c : hB h = 0
  · rw [if_pos c, if_pos c]
    refine wp_be (X_draught hx b l) (wp_be (X_leastHigh hx) ?_)
    by_cases c2 : drg h l ≤ aH h
    · rw [if_pos c2, if_pos c2]; exact wp_s rfl
    · rw [if_neg c2, if_neg c2]; exact wp_s rfl
  · rw [if_neg c, if_neg c]; exact wp_s rfl
theorem M_sinks {y0 y : MS} {h : HS} {w : Nat} (hy : HM y0 h y) (b : BH w h) (l : Int32) : f_X11_sinks y l = some (snk h l) := by
  unfold f_X11_sinks f_X11_sinks_19 snk
  rw [hy.2.2.2.2.1]
  refine wp_eq ?_
  by_cases c : hB h = 0
  · rw [if_pos c, if_pos c]
    refine wp_be (M_draught hy b l) (wp_be (M_leastHigh hy) ?_)
    by_cases c2 : drg h l ≤ aH h
    · rw [if_pos c2, if_pos c2]; exact wp_s rfl
    · rw [if_neg c2, if_neg c2]; exact wp_s rfl
  · rw [if_neg c, if_neg c]; exact wp_s rfl
theorem X_steady {x0 x : CS} {nm : EX} {h : HS} {e : EX} (hx : HX x0 nm h e x) {d : Int32} (hd : 0 ≤ d.toInt ∧ d.toInt ≤ 100000) : f_X2_steadiness x d = some (aQ h / (d + 1)) := by
  have key : ∀ (k s n : Nat) (a : Int32), s + k = 9 → k < n → f_X2_steadiness_4 x n d a (n32 s) = some (acc (fun s a => a + hW h s * hW h s) k s a / (d + 1)) := by
    intro k
    induction k with
    | zero =>
      intro s n a hi hn
      obtain ⟨n, rfl⟩ : ∃ w, n = w + 1 := ⟨n - 1, by omega⟩
      rw [f_X2_steadiness_4]
      refine wp_eq (wp_t (n_le (i := 9) (by omega) (by omega)) (wp_t (i32_le.mpr (by rw [z_0]; omega)) (wp_g (pos_ne ?_) (wp_s rfl))))
      rw [i32_p1 (by omega) (by omega)]; omega
    | succ k ih =>
      intro s n a hi hn
      obtain ⟨n, rfl⟩ : ∃ w, n = w + 1 := ⟨n - 1, by omega⟩
      have hs : s < 9 := by omega
      refine wp_eq ?_
      rw [f_X2_steadiness_4, n32_nat (by omega), hx.2.2.1 s hs, n_inc]
      exact wp_e (n_nle (i := 9) (by omega) (by omega)) (wp_g (ib_n hs (by omega)) (wp_g (ib_n hs (by omega)) ⟨_, ih (s + 1) n _ (by omega) (by omega), rfl⟩))
  exact key 9 0 1000 0 (by omega) (by omega)
theorem s_floats : ∀ (x : CS) (y : MS) (a0 a1 a2 : Int32), PP x y → ∃ (r : Int32) (x1 : CS) (y1 : MS), f_X10_floats x a0 a1 a2 = some (r, x1) ∧ f_X11_floats y a0 a1 a2 = some (r, y1) ∧ PP x1 y1 := by
  intro x y a0 a1 a2 hP
  obtain ⟨m, sp, cv, N, kd, sec, mo, c⟩ := PP_ctx hP
  unfold f_X10_floats f_X11_floats f_X10_floats_31 f_X11_floats_31
  rcases soMany c a0 with ⟨h1, h2⟩ | ⟨h1, h2, nn, hnn, rfl⟩
  · rw [h1, h2]
    exact sim2 hP (-5) (wp_s ⟨rfl, XF_rfl x⟩) (wp_s ⟨rfl, MF_rfl y⟩)
  rw [h1, h2, in_wi, in_wi]
  cases hl : f_X10_within a1 0 9999
  · exact sim2 hP (-7) (wp_e bt (wp_t rfl (wp_s ⟨rfl, XF_rfl x⟩))) (wp_e bt (wp_t rfl (wp_s ⟨rfl, MF_rfl y⟩)))
  have hl := wi_t.mp hl
  rw [z_0, z_9999] at hl
  cases hw : f_X10_within a2 0 2
  · exact sim2 hP (-7) (wp_e bt (wp_e bt (wp_t rfl (wp_s ⟨rfl, XF_rfl x⟩)))) (wp_e bt (wp_e bt (wp_t rfl (wp_s ⟨rfl, MF_rfl y⟩))))
  have b : BH nn (hul m sp (gi y 61 1) (gi y 61 2) (gi y 61 3) cv kd sec mo nn) := hul_BH c hnn
  have hN := c.2.2.1.1
  generalize hh : hul m sp (gi y 61 1) (gi y 61 2) (gi y 61 3) cv kd sec mo nn = h at b
  have hd := drg_b (by omega) b hl.1 hl.2
  refine sim2 hP (if snk h a1 = false then (if a2 = 0 then drg h a1 else if a2 = 1 then aH h - drg h a1 else aQ h / (drg h a1 + 1)) else -1) (wp_e bt (wp_e bt (wp_e bt ?_))) (wp_e bt (wp_e bt (wp_e bt ?_)))
  · have hX := CTX_X c hnn
    rw [hh] at hX
    refine wp_bw hX (fun x1 hx1 => wp_be (X_sinks hx1 b a1) ?_)
    cases hs : snk h a1
    · refine wp_t rfl (wp_be (X_draught hx1 b a1) ?_)
      rw [if_pos rfl]
      by_cases c0 : a2 = 0
      · rw [if_pos c0, if_pos c0]; exact wp_s ⟨rfl, HX_XF hx1⟩
      rw [if_neg c0, if_neg c0]
      by_cases c1 : a2 = 1
      · rw [if_pos c1, if_pos c1]; exact wp_be (X_leastHigh hx1) (wp_s ⟨rfl, HX_XF hx1⟩)
      rw [if_neg c1, if_neg c1]; exact wp_be (X_steady hx1 hd) (wp_s ⟨rfl, HX_XF hx1⟩)
    · refine wp_e bt (wp_s ⟨?_, HX_XF hx1⟩)
      rw [if_neg (by decide)]
  · have hM := CTX_M c hnn (FrM_rfl y)
    rw [hh] at hM
    refine wp_bw hM (fun y1 hy1 => wp_be (M_draught hy1 b a1) (wp_be (M_sinks hy1 b a1) ?_))
    cases hs : snk h a1
    · refine wp_t rfl ?_
      rw [if_pos rfl]
      by_cases c0 : a2 = 0
      · rw [if_pos c0, if_pos c0]; exact wp_s ⟨rfl, HM_MF hy1⟩
      rw [if_neg c0, if_neg c0]
      by_cases c1 : a2 = 1
      · rw [if_pos c1, if_pos c1]; exact wp_be (M_leastHigh hy1) (wp_s ⟨rfl, HM_MF hy1⟩)
      rw [if_neg c1, if_neg c1]
      refine wp_be (M_allQ hy1) (wp_g (pos_ne ?_) (wp_s ⟨rfl, HM_MF hy1⟩))
      rw [i32_p1 (by omega) (by omega)]; omega
    · refine wp_e bt (wp_s ⟨?_, HM_MF hy1⟩)
      rw [if_neg (by decide)]
theorem s_bears : ∀ (x : CS) (y : MS) (a0 a1 : Int32), PP x y → ∃ (r : Int32) (x1 : CS) (y1 : MS), f_X10_bears x a0 a1 = some (r, x1) ∧ f_X11_bears y a0 a1 = some (r, y1) ∧ PP x1 y1 := by
  intro x y a0 a1 hP
  obtain ⟨m, sp, cv, N, kd, sec, mo, c⟩ := PP_ctx hP
  unfold f_X10_bears f_X11_bears f_X10_bears_70 f_X11_bears_58
  rcases soMany c a0 with ⟨h1, h2⟩ | ⟨h1, h2, nn, hnn, rfl⟩
  · rw [h1, h2]
    exact sim2 hP (-5) (wp_s ⟨rfl, XF_rfl x⟩) (wp_s ⟨rfl, MF_rfl y⟩)
  rw [h1, h2, in_wi]
  cases hl : f_X10_within a1 0 99
  · exact sim2 hP (-7) (wp_e bt (wp_t rfl (wp_s ⟨rfl, XF_rfl x⟩))) (wp_e bt (wp_t rfl (wp_s ⟨rfl, MF_rfl y⟩)))
  generalize hh : hul m sp (gi y 61 1) (gi y 61 2) (gi y 61 3) cv kd sec mo nn = h
  refine sim2 hP (if hB h = 0 then (if 0 ≤ (aW h * (aH h - a1) - wei h) then (aW h * (aH h - a1) - wei h) else -1) else -1) (wp_e bt (wp_e bt ?_)) (wp_e bt (wp_e bt ?_))
  · have hX := CTX_X c hnn
    rw [hh] at hX
    refine wp_bw hX (fun x1 hx1 => wp_be (X_allWide hx1) (wp_be (X_leastHigh hx1) (wp_be (X_weight hx1) ?_)))
    rw [hx1.2.2.2.2.2.1]
    refine wp_i (fun c1 => ?_) (fun c1 => ?_)
    · refine wp_s ⟨?_, HX_XF hx1⟩
      rw [if_neg (show ¬ (0 : Int32) ≤ (aW h * (aH h - a1) - wei h) from fun q => by rw [i32_lt] at c1; rw [i32_le] at q; omega)]
      split <;> rfl
    · by_cases c2 : hB h = 0
      · rw [if_pos c2, if_pos c2, if_pos (show (0 : Int32) ≤ (aW h * (aH h - a1) - wei h) from by rw [i32_lt] at c1; rw [i32_le]; omega)]
        exact wp_s ⟨rfl, HX_XF hx1⟩
      · rw [if_neg c2, if_neg c2]; exact wp_s ⟨rfl, HX_XF hx1⟩
  · have hM := CTX_M c hnn (FrM_rfl y)
    rw [hh] at hM
    refine wp_bw hM (fun y1 hy1 => wp_be (M_allWide hy1) (wp_be (M_leastHigh hy1) (wp_be (M_weight hy1) ?_)))
    rw [hy1.2.2.2.2.1]
    by_cases c2 : hB h = 0
    · rw [if_pos c2, if_pos c2]
      by_cases c1 : 0 ≤ (aW h * (aH h - a1) - wei h)
      · rw [if_pos c1, if_pos c1]; exact wp_s ⟨rfl, HM_MF hy1⟩
      · rw [if_neg c1, if_neg c1]; exact wp_s ⟨rfl, HM_MF hy1⟩
    · rw [if_neg c2, if_neg c2]; exact wp_s ⟨rfl, HM_MF hy1⟩
theorem s_bar : ∀ (x : CS) (y : MS) (a0 a1 a2 : Int32), PP x y → ∃ (r : Int32) (x1 : CS) (y1 : MS), f_X10_bar x a0 a1 a2 = some (r, x1) ∧ f_X11_bar y a0 a1 a2 = some (r, y1) ∧ PP x1 y1 := by
  intro x y a0 a1 a2 hP
  obtain ⟨m, sp, cv, N, kd, sec, mo, c⟩ := PP_ctx hP
  unfold f_X10_bar f_X11_bar f_X10_bar_33 f_X11_bar_33 f_X10_bar_96 f_X11_bar_73 f_X11_bar_99
  rcases soMany c a0 with ⟨h1, h2⟩ | ⟨h1, h2, nn, hnn, rfl⟩
  · rw [h1, h2]
    exact sim2 hP (-5) (wp_s ⟨rfl, XF_rfl x⟩) (wp_s ⟨rfl, MF_rfl y⟩)
  rw [h1, h2, in_wi, in_wi]
  cases hl : f_X10_within a1 0 9999
  · exact sim2 hP (-7) (wp_e bt (wp_t rfl (wp_s ⟨rfl, XF_rfl x⟩))) (wp_e bt (wp_t rfl (wp_s ⟨rfl, MF_rfl y⟩)))
  cases hw : f_X10_within a2 0 999
  · exact sim2 hP (-7) (wp_e bt (wp_e bt (wp_t rfl (wp_s ⟨rfl, XF_rfl x⟩)))) (wp_e bt (wp_e bt (wp_t rfl (wp_s ⟨rfl, MF_rfl y⟩))))
  have b : BH nn (hul m sp (gi y 61 1) (gi y 61 2) (gi y 61 3) cv kd sec mo nn) := hul_BH c hnn
  generalize hh : hul m sp (gi y 61 1) (gi y 61 2) (gi y 61 3) cv kd sec mo nn = h at b
  have hX := CTX_X c hnn
  have hM := CTX_M c hnn (FrM_rfl y)
  rw [hh] at hX hM
  refine sim2 hP (if snk h a1 = false then (if ((if hH h 8 < hH h 0 then hH h 8 else hH h 0) - drg h a1) < a2 then 0 else 1) else 0) (wp_e bt (wp_e bt (wp_e bt ?_))) (wp_e bt (wp_e bt (wp_e bt ?_)))
  · refine wp_bw hX (fun x1 hx1 => wp_be (X_sinks hx1 b a1) ?_)
    rw [c_8, c_0, hx1.2.2.2.2.1 8 (by omega), hx1.2.2.2.2.1 0 (by omega)]
    cases hs : snk h a1
    · refine wp_t rfl (wp_be (X_draught hx1 b a1) ?_)
      rw [if_pos rfl]
      refine wp_i (fun c1 => ?_) (fun c1 => ?_)
      · rw [if_pos c1]; exact wp_s ⟨rfl, HX_XF hx1⟩
      · rw [if_neg c1]; exact wp_s ⟨rfl, HX_XF hx1⟩
    · refine wp_e bt (wp_s ⟨?_, HX_XF hx1⟩)
      rw [if_neg (by decide)]
  · refine wp_bw hM (fun y1 hy1 => ?_)
    rw [c_8, c_0, hy1.2.2.2.1 8 (by omega), hy1.2.2.2.1 0 (by omega)]
    have fin : ∀ z, z = (if hH h 8 < hH h 0 then hH h 8 else hH h 0) → wp ((f_X11_sinks y1 a1).bind fun r1 => if b2i r1 = 0 then (f_X11_draughtOf y1 a1).bind fun r4 => if z - r4 < a2 then some ((0 : Int32), y1) else some (1, y1) else some (0, y1)) (fun v => v.1 = (if snk h a1 = false then (if ((if hH h 8 < hH h 0 then hH h 8 else hH h 0) - drg h a1) < a2 then 0 else 1) else 0) ∧ MF y v.2) := by
      intro z hz
      rw [hz]
      refine wp_be (M_sinks hy1 b a1) ?_
      cases hs : snk h a1
      · refine wp_t rfl (wp_be (M_draught hy1 b a1) ?_)
        rw [if_pos rfl]
        refine wp_i (fun c1 => ?_) (fun c1 => ?_)
        · rw [if_pos c1]; exact wp_s ⟨rfl, HM_MF hy1⟩
        · rw [if_neg c1]; exact wp_s ⟨rfl, HM_MF hy1⟩
      · refine wp_e bt (wp_s ⟨?_, HM_MF hy1⟩)
        rw [if_neg (by decide)]
    refine wp_i (fun c1 => fin _ ?_) (fun c1 => fin _ ?_)
    · by_cases c2 : hH h 8 < hH h 0
      · rw [if_pos c2]
      · rw [if_neg c2]; rw [i32_le] at c1; rw [i32_lt] at c2; exact i32_eq.mpr (by omega)
    · rw [if_neg (fun q => by rw [i32_le] at c1; rw [i32_lt] at q; omega)]
