/-! ===== pure: worksBy, taken, forest ===== -/
theorem s_worksBy : ∀ (x : CS) (y : MS) (a0 a1 a2 a3 : Int32), PP x y → ∃ (r : Int32) (x1 : CS) (y1 : MS), f_X10_worksBy x a0 a1 a2 a3 = some (r, x1) ∧ f_X11_worksBy y a0 a1 a2 a3 = some (r, y1) ∧ PP x1 y1 := by
  intro x y a0 a1 a2 a3 hP
  unfold f_X10_worksBy f_X11_worksBy f_X10_worksBy_32 f_X11_worksBy_29
  rw [in_wi, in_wi, in_wi]
  rcases wi_cases a0 0 3 (by decide) with hs | ⟨hs, s, _, hs2, rfl⟩
  · rw [hs, X_sheetNo hs]; exact sim0 hP (-2) rfl rfl
  have hs4 : s < 4 := by rw [z_3] at hs2; omega
  rw [hs, if_neg bt, X_sheetAt hs4, Option.bind_some, oc_s]
  cases hw : f_X10_within a1 0 2
  · exact sim0 hP (-2) rfl rfl
  rw [if_neg bt, if_neg bt]
  rcases wi_cases a3 0 10 (by decide) with hn | ⟨hn, M, _, hM2, rfl⟩
  · rw [hn]; exact sim0 hP (-2) rfl rfl
  have hM : M ≤ 10 := by rw [z_10] at hM2; omega
  have hib : ib (n32 s) 4 = true := ib_n hs4 (by omega)
  obtain ⟨⟨h77, hb1, hb2⟩, _⟩ := hP.2.2.2.2.2.1 s hs4
  obtain ⟨n, st⟩ := ST_of hP hs4
  rw [hn, if_neg bt, if_neg bt, X_missing hs4, Option.bind_some, hib, gd_tt, gd_tt, n32_nat (by omega), h77, kSh_t hs4, gd_tt]
  by_cases cm : gi y 77 s = -1
  · rw [decide_eq_true cm, if_neg bt, if_pos cm]; exact sim0 hP (-11) rfl rfl
  rw [decide_eq_false cm, if_pos b2i_f, if_neg cm]
  by_cases cs : gi y 77 s = a1
  · rw [if_pos cs, if_pos cs]
    have bl := i32_lo a2
    have bh' := i32_hi a2
    have key : ∀ (k i g g' m : Nat) (x : CS) (y : MS), i + k = M → k < g → k < g' → ST x y s n (fun i => gi y 79 (40 * s + i)) → PP x y → ∃ r x1 y1, f_X10_worksBy_64 g x a2 (n32 M) (some (53 + 2 * s)) (n32 m) (n32 i) = some (r, x1) ∧ f_X11_worksBy_64 g' y (n32 s) a2 (n32 M) (n32 m) (n32 i) = some (r, y1) ∧ PP x1 y1 := by
      intro k
      induction k with
      | zero =>
        intro i g g' m x y hi hg hg' st hP
        obtain ⟨g, rfl⟩ : ∃ w, g = w + 1 := ⟨g - 1, by omega⟩
        obtain ⟨g', rfl⟩ : ∃ w, g' = w + 1 := ⟨g' - 1, by omega⟩
        rw [f_X10_worksBy_64, f_X11_worksBy_64, oc_s]
        exact ⟨_, x, y, if_pos (n_le (by omega) (by omega)), if_pos (n_le (by omega) (by omega)), hP⟩
      | succ k ih =>
        intro i g g' m x y hi hg hg' st hP
        obtain ⟨g, rfl⟩ : ∃ w, g = w + 1 := ⟨g - 1, by omega⟩
        obtain ⟨g', rfl⟩ : ∃ w, g' = w + 1 := ⟨g' - 1, by omega⟩
        have hle : ¬ n32 M ≤ n32 i := n_nle (by omega) (by omega)
        have hn40 := st.2.1
        rw [f_X10_worksBy_64, f_X11_worksBy_64, oc_s, if_neg hle, if_neg hle]
        unfold f_X10_worksBy_91 f_X11_worksBy_102
        by_cases c0 : a2 < 0
        · rw [if_pos c0, if_pos c0]; exact sim0 hP (-12) rfl rfl
        rw [if_neg c0, if_neg c0, kSh_t hs4, gd_tt, st.2.2.1, n_inc, q_3, n32_mul, n32_mul]
        rw [i32_lt, z_0] at c0
        have eL : (n32 n - n32 (3 * (i + 1))).toInt = (n : Int) - 3 * (i + 1) := by rw [i32_sub, n32_int (by omega), n32_int (by omega)] <;> (try rw [n32_int (by omega), n32_int (by omega)]) <;> omega
        have eR : (n32 n - n32 3).toInt = (n : Int) - 3 := by rw [i32_sub, n32_int (by omega), n32_int (by omega)] <;> (try rw [n32_int (by omega), n32_int (by omega)]) <;> omega
        by_cases c1 : a2.toInt + 3 * (i + 1) ≤ (n : Int)
        · obtain ⟨A, hA, eA⟩ := n32_ex (b := 40) (a := a2) (by omega) (by omega)
          have hAi : a2.toInt = (A : Int) := by rw [eA, n32_int (by omega)]
          rw [if_pos (by rw [i32_le, eL]; omega)]
          rw [eA] at ih ⊢
          have i1 : n32 A + n32 (3 * i) = n32 (A + 3 * i) := n32_add _ _
          have i2 : n32 (A + 3 * i) + 1 = n32 (A + 3 * i + 1) := n_inc _
          have i3 : n32 (A + 3 * i) + 2 = n32 (A + 3 * i + 2) := n32_add _ 2
          have j2 : n32 (40 * s + (A + 3 * i)) + 1 = n32 (40 * s + (A + 3 * i + 1)) := n_inc _
          have j3 : n32 (40 * s + (A + 3 * i)) + 2 = n32 (40 * s + (A + 3 * i + 2)) := n32_add _ 2
          have ens : (n32 s).toNatClampNeg = s := n32_nat (by omega)
          have c3 : ¬ n32 (A + 3 * i) < n32 A := n_nlt (by omega) (by omega)
          have c4 : n32 (A + 3 * i) ≤ n32 n - n32 3 := by rw [i32_le, eR, n32_int (by omega)]; omega
          have b0 : ib (n32 (40 * s + (A + 3 * i))) 160 = true := ib_n (by omega) (by omega)
          have b1 : ib (n32 (40 * s + (A + 3 * i + 1))) 160 = true := ib_n (by omega) (by omega)
          have b2 : ib (n32 (40 * s + (A + 3 * i + 2))) 160 = true := ib_n (by omega) (by omega)
          have t0 : (n32 (40 * s + (A + 3 * i))).toNatClampNeg = 40 * s + (A + 3 * i) := n32_nat (by omega)
          have t1 : (n32 (40 * s + (A + 3 * i + 1))).toNatClampNeg = 40 * s + (A + 3 * i + 1) := n32_nat (by omega)
          have t2 : (n32 (40 * s + (A + 3 * i + 2))).toNatClampNeg = 40 * s + (A + 3 * i + 2) := n32_nat (by omega)
          unfold f_X10_worksBy_140 f_X11_worksBy_153
          rw [i1, i2, i3, if_neg c3, hib, gd_tt, ens, st.2.2.2.1, if_pos c4, M_in40, j2, j3, b0, b1, b2, gd_tt, gd_tt, gd_tt, t0, t1, t2, ST_at st (i := A + 3 * i) (by omega), ST_at st (i := A + 3 * i + 1) (by omega), ST_at st (i := A + 3 * i + 2) (by omega), Option.bind_some, Option.bind_some, Option.bind_some]
          obtain ⟨r, x1, y1, e1, e2, hP1, wf⟩ := add_sim hP (gi y 79 (40 * s + (A + 3 * i))) (gi y 79 (40 * s + (A + 3 * i + 1))) (gi y 79 (40 * s + (A + 3 * i + 2)))
          rw [e1, e2, Option.bind_some, Option.bind_some, oc_s, oc_s, n_inc, n_inc, Int32.add_zero]
          have st1 : ST x1 y1 s n (fun i => gi y1 79 (40 * s + i)) := by
            have := ST_WF st wf
            obtain ⟨q1, q2, q3, q4, q5, q6⟩ := this
            refine ⟨q1, q2, q3, q4, fun i hi => ?_, fun _ _ => rfl⟩
            rw [q5 i hi]; exact (q6 i hi).symm
          by_cases cr : r < 0
          · rw [if_pos cr, if_pos cr]
            exact ih (i + 1) g g' m x1 y1 (by omega) (by omega) (by omega) st1 hP1
          · rw [if_neg cr, if_neg cr]
            exact ih (i + 1) g g' (m + 1) x1 y1 (by omega) (by omega) (by omega) st1 hP1
        · rw [if_neg (by rw [i32_le, eL]; omega)]
          refine sim0 hP (-12) rfl ?_
          by_cases c3 : a2 + n32 (3 * i) < a2
          · rw [if_pos c3]
          · have ens : (n32 s).toNatClampNeg = s := n32_nat (by omega)
            rw [if_neg c3, hib, gd_tt, ens, st.2.2.2.1, if_neg]
            intro c4
            have hsum : (a2 + n32 (3 * i)).toInt = a2.toInt + 3 * i ∨ (a2 + n32 (3 * i)).toInt = a2.toInt + 3 * i - 4294967296 := by
              rw [Int32.toInt_add, n32_int (by omega)]
              have hb3 : ((3 * i : Nat) : Int) = 3 * (i : Int) := by omega
              rw [hb3]
              unfold Int.bmod
              simp only
              split <;> omega
            rw [i32_lt] at c3
            rw [i32_le, eR] at c4
            rcases hsum with e | e
            · rw [e] at c4; omega
            · rw [e] at c3; omega
    exact key M 0 1000 1000 0 x y (by omega) (by omega) (by omega) st hP
  · rw [if_neg cs, if_neg cs]; exact sim0 hP (-13) rfl rfl
theorem M_one {kd k : Nat} (hkd : kd < 6) (hk : k < 7) (x : CS) : f_X9_isOne x (n32 kd) (n32 k) = some (if k = 6 then false else f_X11_isUnder (n32 kd) (n32 k)) := by
  rcases (by omega : kd = 0 ∨ kd = 1 ∨ kd = 2 ∨ kd = 3 ∨ kd = 4 ∨ kd = 5) with rfl | rfl | rfl | rfl | rfl | rfl
  all_goals
    rcases (by omega : k = 0 ∨ k = 1 ∨ k = 2 ∨ k = 3 ∨ k = 4 ∨ k = 5 ∨ k = 6) with rfl | rfl | rfl | rfl | rfl | rfl | rfl <;> rfl
theorem X_treeAt {x : CS} {y : MS} {n : Nat} {rf : Nat → Nat} (h : PE x y n rf) (a : Int32) : (∃ t, t < n ∧ a = n32 t ∧ f_X1_at x a = some (some (rf t)) ∧ f_X11_isTree y a = true ∧ TR x (rf t) y t) ∨ (f_X1_at x a = some none ∧ f_X11_isTree y a = false ∧ (a.toInt < 0 ∨ (n : Int) ≤ a.toInt)) := by
  obtain ⟨h1, h2, h3, h4, h5⟩ := h
  have eT : f_X11_isTree y a = f_X10_within a 0 (n32 n - 1) := by unfold f_X11_isTree; rw [h3]; rfl
  by_cases c : 0 ≤ a.toInt ∧ a.toInt < n
  · obtain ⟨t, ht, rfl⟩ := n32_ex (b := (n : Int) - 1) c.1 (by omega)
    have htn : t < n := by omega
    refine Or.inl ⟨t, htn, rfl, ?_, ?_, (h4 t htn).2⟩
    · unfold f_X1_at
      rw [q_0, q_6, if_neg (n_nlt (by omega) (by omega)), h2, if_neg (n_nle (by omega) (by omega)), if_neg (n_nle (by omega) (by omega)), gd_t (ib_n (by omega) (by omega)), n32_nat (by omega), (h4 t htn).1, oc_s]
    · rw [eT]
      exact wi_t.mpr (by rw [z_0, n32_m1 (by omega), n32_int (by omega)]; omega)
  · refine Or.inr ⟨?_, ?_, by omega⟩
    · unfold f_X1_at f_X1_at_27
      by_cases c0 : a < 0
      · rw [if_pos c0]
      · rw [if_neg c0, h2, if_pos]
        rw [i32_lt, z_0] at c0
        rw [i32_le, n32_int (by omega)]; omega
    · rw [eT]
      exact wi_f.mpr (by rw [z_0, n32_m1 (by omega)]; omega)
theorem s_taken : ∀ (x : CS) (y : MS) (a0 a1 : Int32), PP x y → ∃ (r : Int32), f_X10_taken x a0 a1 = some r ∧ f_X11_taken y a0 a1 = some r := by
  intro x y a0 a1 hP
  obtain ⟨m, sp, cv, N, kd, sec, mo, c⟩ := PP_ctx hP
  obtain ⟨n, rf, hE, _⟩ := hP.2.2.2.2.2.2
  obtain ⟨_, _, wk, wm, _⟩ := c
  have hN := wk.1
  unfold f_X10_taken f_X11_taken f_X11_taken_108
  rw [in_wi, in_wi]
  rcases wi_cases a1 0 6 (by decide) with hk | ⟨hk, k, _, hk2, rfl⟩
  · rw [hk]; exact ⟨-2, rfl, rfl⟩
  rw [z_6] at hk2
  rw [hk, if_neg bt, if_neg bt]
  rcases wi_cases a0 0 15 (by decide) with hi | ⟨hi, i, _, hi2, rfl⟩
  · rw [hi]; exact ⟨-12, rfl, rfl⟩
  rw [z_15] at hi2
  rw [hi, if_neg bt, if_neg bt]
  by_cases c6 : 6 ≤ i
  · have e6 : (6 : Int32) ≤ n32 i := n_le (i := 6) c6 (by omega)
    have em : n32 i - 6 = n32 (i - 6) := by rw [q_6, n32_sub c6]
    rw [if_pos e6, if_pos e6, em, wm.2.1]
    by_cases cw : i - 6 < N
    · obtain ⟨e0, e1, e2, e3⟩ := X_has wk (fun _ _ _ => rfl) cw
      obtain ⟨g1, _, _, b1, _⟩ := wm.2.2 (i - 6) cw
      rw [e0, if_neg bt, e1, Option.bind_some, M_one (by omega) (by omega), Option.bind_some, if_pos (n_lt cw (by omega)), gd_t (ib_n (by omega) (by omega)), n32_nat (by omega), g1]
      by_cases ck : k = 6
      · have e6k : (6 : Int32) ≤ n32 k := n_le (i := 6) (by omega) (by omega)
        rw [if_pos ck, if_pos b2i_f, if_pos e6k]; exact ⟨-13, rfl, rfl⟩
      · have e6k : ¬ (6 : Int32) ≤ n32 k := n_nle (i := 6) (by omega) (by omega)
        rw [if_neg ck, if_neg e6k]
        cases f_X11_isUnder (n32 (kd (i - 6))) (n32 k)
        · exact ⟨-13, rfl, rfl⟩
        · exact ⟨n32 (i - 6), rfl, rfl⟩
    · have e0 : f_X9_has x (n32 (i - 6)) = false := by
        unfold f_X9_has f_X9_has_22
        rw [q_0, if_neg (n_nlt (by omega) (by omega)), wk.2.1, if_pos (n_le (by omega) (by omega))]
      rw [e0, if_neg (n_nlt (by omega) (by omega))]
      exact ⟨-11, rfl, rfl⟩
  · have e6 : ¬ (6 : Int32) ≤ n32 i := n_nle (i := 6) (by omega) (by omega)
    rw [if_neg e6, if_neg e6, hE.2.2.1]
    rcases X_treeAt hE (n32 i) with ⟨t, ht, et, e1, _, tr⟩ | ⟨e1, _, hno⟩
    · have eti : t = i := ((n32_inj (by omega) (by have := hE.1; omega)).mp et).symm
      subst eti
      have hn6 := hE.1
      rw [e1, Option.bind_some, oc_s, if_pos (n_lt ht (by omega)), gd_t (ib_n (by omega) (by omega)), n32_nat (by omega), gd_t tr.1, tr.2.2.1.1]
      by_cases ck : n32 k = 6
      · rw [if_pos ck]; exact ⟨_, rfl, rfl⟩
      · rw [if_neg ck]; exact ⟨-13, rfl, rfl⟩
    · rw [n32_int (by omega)] at hno
      have hn6 := hE.1
      rw [e1, Option.bind_some, oc_n, if_neg (n_nlt (by omega) (by omega))]
      exact ⟨-11, rfl, rfl⟩
/-! forest -/
theorem X_inc {n : Nat} (hn : n ≤ 40) (bo : Int32) : ∀ (k i g : Nat) (x : CS), i + k = n → k < g → ∃ x1, f_X10_yearOfForest_77 g x (n32 n) bo (n32 i) = some (bo, x1) ∧ (∀ q, q ≠ 37 → x1.1 q = x.1 q) ∧ x1.2 = x.2 ∧ ∀ j, gi x1 37 j = if i ≤ j ∧ j < n then gi x 37 j + 1 else gi x 37 j := by
  intro k
  induction k with
  | zero =>
    intro i g x hi hg
    obtain ⟨g, rfl⟩ : ∃ w, g = w + 1 := ⟨g - 1, by omega⟩
    rw [f_X10_yearOfForest_77]
    exact ⟨x, if_pos (n_le (by omega) (by omega)), fun _ _ => rfl, rfl, fun j => by rw [if_neg (by omega)]⟩
  | succ k ih =>
    intro i g x hi hg
    obtain ⟨g, rfl⟩ : ∃ w, g = w + 1 := ⟨g - 1, by omega⟩
    rw [f_X10_yearOfForest_77, q_40, if_neg (n_nle (by omega) (by omega)), if_neg (n_nle (by omega) (by omega)), gd_t (ib_n (by omega) (by omega)), gd_t (ib_n (by omega) (by omega)), n32_nat (by omega), n_inc]
    obtain ⟨x1, h1, h2, h3, h4⟩ := ih (i + 1) g (pi x 37 i (gi x 37 i + 1)) (by omega) (by omega)
    refine ⟨x1, h1, fun q hq => by rw [h2 q hq, pi1_q _ _ _ hq], h3, fun j => ?_⟩
    rw [h4]
    by_cases c : j = i
    · subst c; rw [if_neg (by omega), gp_eq, if_pos (by omega)]
    · rw [gp_j _ _ _ c]
      by_cases c2 : i + 1 ≤ j ∧ j < n
      · rw [if_pos c2, if_pos (by omega)]
      · rw [if_neg c2, if_neg (by omega)]
theorem M_inc {n s : Nat} (hn : n ≤ 40) (hs : s < 4) (k112 : MS → Int32 → Int32 → Int32 → Int32 → Int32 → Option (Int32 × MS)) (a2 a3 a4 a5 : Int32) : ∀ (k i g : Nat) (y : MS), i + k = n → k < g → gi y 78 s = n32 n → ∃ y1, f_X11_forest_201 k112 g y (n32 s) a2 a3 a4 a5 (n32 i) = k112 y1 (n32 s) a2 a3 a4 (a5 + 1) ∧ (∀ q, q ≠ 87 → y1.1 q = y.1 q) ∧ y1.2 = y.2 ∧ ∀ j, gi y1 87 j = if i ≤ j ∧ j < n then gi y 87 j + 1 else gi y 87 j := by
  intro k
  induction k with
  | zero =>
    intro i g y hi hg h78
    obtain ⟨g, rfl⟩ : ∃ w, g = w + 1 := ⟨g - 1, by omega⟩
    rw [f_X11_forest_201, gd_t (ib_n hs (by omega)), n32_nat (by omega), h78]
    exact ⟨y, if_pos (n_le (by omega) (by omega)), fun _ _ => rfl, rfl, fun j => by rw [if_neg (by omega)]⟩
  | succ k ih =>
    intro i g y hi hg h78
    obtain ⟨g, rfl⟩ : ∃ w, g = w + 1 := ⟨g - 1, by omega⟩
    have e1 : (n32 s).toNatClampNeg = s := n32_nat (by omega)
    have e2 : (n32 i).toNatClampNeg = i := n32_nat (by omega)
    rw [f_X11_forest_201, gd_t (ib_n hs (by omega)), e1, h78, if_neg (n_nle (by omega) (by omega)), gd_t (ib_n (by omega) (by omega)), gd_t (ib_n (by omega) (by omega)), e2, n_inc]
    obtain ⟨y1, h1, h2, h3, h4⟩ := ih (i + 1) g (pi y 87 i (gi y 87 i + 1)) (by omega) (by omega) (by rw [gp_q _ _ _ _ (by omega)]; exact h78)
    refine ⟨y1, h1, fun q hq => by rw [h2 q hq, pi1_q _ _ _ hq], h3, fun j => ?_⟩
    rw [h4]
    by_cases c : j = i
    · subst c; rw [if_neg (by omega), gp_eq, if_pos (by omega)]
    · rw [gp_j _ _ _ c]
      by_cases c2 : i + 1 ≤ j ∧ j < n
      · rw [if_pos c2, if_pos (by omega)]
      · rw [if_neg c2, if_neg (by omega)]
def bstA (A : Nat → Int32) : Nat → Nat → Nat → Nat
  | 0, _, b => b
  | k + 1, i, b => if A i ≤ A b then bstA A k (i + 1) b else bstA A k (i + 1) i
theorem bstA_lt {A : Nat → Int32} : ∀ (k i b : Nat), b < i → bstA A k i b < i + k := by
  intro k
  induction k with
  | zero => intro i b h; exact h
  | succ k ih => intro i b h; rw [bstA]; split
                 · have := ih (i + 1) b (by omega); omega
                 · have := ih (i + 1) i (by omega); omega
theorem bstA_c {A B : Nat → Int32} {n : Nat} (h : ∀ j, j < n → A j = B j) : ∀ (k i b : Nat), i + k ≤ n → b < i → bstA A k i b = bstA B k i b := by
  intro k
  induction k with
  | zero => intro i b _ _; rfl
  | succ k ih =>
    intro i b hi hb
    rw [bstA, bstA, h i (by omega), h b (by omega)]
    split
    · exact ih (i + 1) b (by omega) (by omega)
    · exact ih (i + 1) i (by omega) (by omega)
theorem X_best {n : Nat} (hn : n ≤ 40) (old : Int32) (x : CS) : ∀ (k i b g : Nat), i + k = n → b < i → k < g → f_X10_yearOfForest_5 g x (n32 n) old (n32 b) (n32 i) = f_X10_yearOfForest_47 x (n32 n) old (n32 (bstA (gi x 37) k i b)) := by
  intro k
  induction k with
  | zero =>
    intro i b g hi hb hg
    obtain ⟨g, rfl⟩ : ∃ w, g = w + 1 := ⟨g - 1, by omega⟩
    rw [f_X10_yearOfForest_5]
    exact if_pos (n_le (by omega) (by omega))
  | succ k ih =>
    intro i b g hi hb hg
    obtain ⟨g, rfl⟩ : ∃ w, g = w + 1 := ⟨g - 1, by omega⟩
    have e1 : (n32 i).toNatClampNeg = i := n32_nat (by omega)
    have e2 : (n32 b).toNatClampNeg = b := n32_nat (by omega)
    rw [f_X10_yearOfForest_5]
    unfold f_X10_yearOfForest_41 f_X10_yearOfForest_38 f_X10_yearOfForest_41
    rw [q_40, q_0, if_neg (n_nle (by omega) (by omega)), if_neg (n_nle (by omega) (by omega)), if_neg (n_nlt (by omega) (by omega)), gd_t (ib_n (by omega) (by omega)), gd_t (ib_n (by omega) (by omega)), e1, e2, n_inc, bstA]
    by_cases c : gi x 37 i ≤ gi x 37 b
    · rw [if_pos c, if_pos c]; exact ih (i + 1) b g (by omega) (by omega) (by omega)
    · rw [if_neg c, if_neg c]; exact ih (i + 1) i g (by omega) (by omega) (by omega)
theorem M_best {n s : Nat} (hn : n ≤ 40) (hs : s < 4) (k112 : MS → Int32 → Int32 → Int32 → Int32 → Int32 → Option (Int32 × MS)) (a2 a3 a4 a5 : Int32) (y : MS) (h78 : gi y 78 s = n32 n) : ∀ (k i b g : Nat), i + k = n → b < i → k < g → f_X11_forest_133 k112 g y (n32 s) a2 a3 a4 a5 (n32 b) (n32 i) = (if gi y 87 (bstA (gi y 87) k i b) < a2 then f_X11_forest_198 k112 y (n32 s) a2 a3 a4 a5 else f_X11_forest_198 k112 (pi y 87 (bstA (gi y 87) k i b) 0) (n32 s) a2 a3 (a4 + 1) a5) := by
  have e0 : (n32 s).toNatClampNeg = s := n32_nat (by omega)
  intro k
  induction k with
  | zero =>
    intro i b g hi hb hg
    obtain ⟨g, rfl⟩ : ∃ w, g = w + 1 := ⟨g - 1, by omega⟩
    have e2 : (n32 b).toNatClampNeg = b := n32_nat (by omega)
    rw [f_X11_forest_133, gd_t (ib_n hs (by omega)), e0, h78, if_pos (n_le (by omega) (by omega)), gd_t (ib_n (by omega) (by omega)), gd_t (ib_n (by omega) (by omega)), e2]
    rfl
  | succ k ih =>
    intro i b g hi hb hg
    obtain ⟨g, rfl⟩ : ∃ w, g = w + 1 := ⟨g - 1, by omega⟩
    have e1 : (n32 i).toNatClampNeg = i := n32_nat (by omega)
    have e2 : (n32 b).toNatClampNeg = b := n32_nat (by omega)
    rw [f_X11_forest_133]
    unfold f_X11_forest_168
    rw [gd_t (ib_n hs (by omega)), e0, h78, if_neg (n_nle (by omega) (by omega)), gd_t (ib_n (by omega) (by omega)), gd_t (ib_n (by omega) (by omega)), e1, e2, n_inc, bstA]
    by_cases c : gi y 87 i ≤ gi y 87 b
    · rw [if_pos c, if_pos c]; exact ih (i + 1) b g (by omega) (by omega) (by omega)
    · rw [if_neg c, if_neg c]; exact ih (i + 1) i g (by omega) (by omega) (by omega)
/-- the ages alike, all else as it was -/
def AG (x0 x : CS) (y0 y : MS) (n : Nat) : Prop := (∀ q, q ≠ 37 → x.1 q = x0.1 q) ∧ x.2 = x0.2 ∧ (∀ q, q ≠ 87 → y.1 q = y0.1 q) ∧ y.2 = y0.2 ∧ ∀ j, j < n → gi x 37 j = gi y 87 j
theorem AG_PP {x0 x : CS} {y0 y : MS} {n : Nat} (hP : PP x0 y0) (h : AG x0 x y0 y n) : PP x y := by
  obtain ⟨h1, h2, h3, h4, _⟩ := h
  exact PP_fr hP ⟨fun q _ b _ => h1 q b, XE_of (by rw [h2])⟩ ⟨fun q a b => h3 q (by omega), fun j hj => gi_of (h3 61 (by omega)) j, gi_of (h3 61 (by omega)) _, gi_of (h3 61 (by omega)) _⟩
theorem year2 {x0 x : CS} {y0 y : MS} {n s : Nat} (hn : n ≤ 40) (hn1 : 1 ≤ n) (hs : s < 4) (h78 : gi y0 78 s = n32 n) (old a3 a5 : Int32) (bo : Nat) (h : AG x0 x y0 y n) (k112 : MS → Int32 → Int32 → Int32 → Int32 → Int32 → Option (Int32 × MS)) : ∃ (b : Nat) (x1 : CS) (y1 : MS), f_X10_yearOfForest x (n32 n) old = some (n32 b, x1) ∧ f_X11_forest_133 k112 1000 y (n32 s) old a3 (n32 bo) a5 0 1 = k112 y1 (n32 s) old a3 (n32 (bo + b)) (a5 + 1) ∧ AG x0 x1 y0 y1 n := by
  obtain ⟨h1, h2, h3, h4, h5⟩ := h
  have h78' : gi y 78 s = n32 n := by rw [gi_of (h3 78 (by omega))]; exact h78
  have eb := bstA_c h5 (n - 1) 1 0 (by omega) (by omega)
  have hb := bstA_lt (A := gi y 87) (n - 1) 1 0 (by omega)
  have e0 : f_X10_yearOfForest x (n32 n) old = f_X10_yearOfForest_47 x (n32 n) old (n32 (bstA (gi y 87) (n - 1) 1 0)) := by
    have z : f_X10_yearOfForest x (n32 n) old = f_X10_yearOfForest_5 999 x (n32 n) old (n32 0) (n32 1) := by
      unfold f_X10_yearOfForest
      rw [f_X10_yearOfForest_5]
      have a1 : ¬ n32 n ≤ 0 := n_nle (j := 0) (by omega) (by omega)
      have a2 : ¬ (40 : Int32) ≤ 0 := by decide
      have a3 : (-1 : Int32) < 0 := by decide
      rw [if_neg a1, if_neg a2, if_pos a3]
      rfl
    rw [z, X_best hn old x (n - 1) 1 0 999 (by omega) (by omega) (by omega), eb]
  generalize hbb : bstA (gi y 87) (n - 1) 1 0 = b at e0 hb eb
  have eM := M_best hn hs k112 old a3 (n32 bo) a5 y h78' (n - 1) 1 0 1000 (by omega) (by omega) (by omega)
  have eM : f_X11_forest_133 k112 1000 y (n32 s) old a3 (n32 bo) a5 0 1 = _ := eM
  rw [hbb] at eM
  have hbn : b < n := by omega
  have e2 : (n32 b).toNatClampNeg = b := n32_nat (by omega)
  rw [e0, eM]
  unfold f_X10_yearOfForest_47 f_X10_yearOfForest_74 f_X11_forest_198
  rw [q_0, if_neg (n_nlt (by omega) (by omega)), gd_t (ib_n (by omega) (by omega)), gd_t (ib_n (by omega) (by omega)), e2, h5 b hbn, n_inc]
  by_cases c : gi y 87 b < old
  · rw [if_pos c, if_pos c]
    obtain ⟨x1, k1, k2, k3, k4⟩ := X_inc hn (n32 0) n 0 1000 x (by omega) (by omega)
    obtain ⟨y1, m1, m2, m3, m4⟩ := M_inc hn hs k112 old a3 (n32 bo) a5 n 0 1000 y (by omega) (by omega) h78'
    refine ⟨0, x1, y1, k1, m1, fun q hq => (k2 q hq).trans (h1 q hq), k3.trans h2, fun q hq => (m2 q hq).trans (h3 q hq), m3.trans h4, fun j hj => ?_⟩
    rw [k4, m4, if_pos (by omega), if_pos (by omega), h5 j hj]
  · rw [if_neg c, if_neg c]
    obtain ⟨x1, k1, k2, k3, k4⟩ := X_inc hn (n32 1) n 0 1000 (pi x 37 b (n32 0)) (by omega) (by omega)
    obtain ⟨y1, m1, m2, m3, m4⟩ := M_inc hn hs k112 old a3 (n32 (bo + 1)) a5 n 0 1000 (pi y 87 b (n32 0)) (by omega) (by omega) (by rw [gp_q _ _ _ _ (by omega)]; exact h78')
    refine ⟨1, x1, y1, k1, m1, fun q hq => ?_, k3.trans h2, fun q hq => ?_, m3.trans h4, fun j hj => ?_⟩
    · rw [k2 q hq, pi1_q _ _ _ hq]; exact h1 q hq
    · rw [m2 q hq, pi1_q _ _ _ hq]; exact h3 q hq
    · rw [k4, m4, if_pos (by omega), if_pos (by omega), gp_if, gp_if, h5 j hj]
      by_cases cj : j = b
      · rw [if_pos ⟨rfl, cj⟩, if_pos ⟨rfl, cj⟩]
      · rw [if_neg (fun q => cj q.2), if_neg (fun q => cj q.2)]
theorem s_forest : ∀ (x : CS) (y : MS) (a0 a1 a2 : Int32), PP x y → ∃ (r : Int32) (x1 : CS) (y1 : MS), f_X10_forest x a0 a1 a2 = some (r, x1) ∧ f_X11_forest y a0 a1 a2 = some (r, y1) ∧ PP x1 y1 := by
  intro x y a0 a1 a2 hP
  unfold f_X10_forest f_X11_forest f_X10_forest_22 f_X10_forest_45 f_X11_forest_31
  rw [in_wi, in_wi, in_wi]
  rcases wi_cases a0 0 3 (by decide) with hs | ⟨hs, s, _, hs2, rfl⟩
  · rw [hs, X_sheetNo hs]
    refine sim0 hP (-2) ?_ rfl
    cases f_X10_within a1 1 999
    · rfl
    · cases f_X10_within a2 0 200 <;> rfl
  have hs4 : s < 4 := by rw [z_3] at hs2; omega
  rw [hs, if_neg bt, X_sheetAt hs4]
  cases h1 : f_X10_within a1 1 999
  · exact sim0 hP (-2) rfl rfl
  rw [if_neg bt, if_neg bt]
  rcases wi_cases a2 0 200 (by decide) with hy' | ⟨hy', Y, _, hY2, rfl⟩
  · rw [hy']; exact sim0 hP (-2) rfl rfl
  rw [z_200] at hY2
  obtain ⟨⟨h77, hb1, hb2⟩, ⟨n, hn, h2s, h78⟩, hc⟩ := hP.2.2.2.2.2.1 s hs4
  have st : ST x y s n (fun i => gi y 79 (40 * s + i)) := ⟨hs4, hn, h2s, h78, hc, fun _ _ => rfl⟩
  have hib : ib (n32 s) 4 = true := ib_n hs4 (by omega)
  have ens : (n32 s).toNatClampNeg = s := n32_nat (by omega)
  rw [hy', if_neg bt, if_neg bt, Option.bind_some, oc_s, X_missing hs4, Option.bind_some, hib, gd_tt, ens, h77]
  by_cases cm : gi y 77 s = -1
  · rw [decide_eq_true cm, if_neg bt, if_pos cm]; exact sim0 hP (-11) rfl rfl
  have e40 : (if (40 : Int32) < n32 n then (40 : Int32) else n32 n) = n32 n := if_neg (n_nlt (i := 40) (by omega) (by omega))
  rw [decide_eq_false cm, if_pos b2i_f, if_neg cm, kSh_t hs4, gd_tt, h2s, e40]
  -- the years
  have years : ∀ (k i g g' bo : Nat) (x1 : CS) (y1 : MS), i + k = Y → k < g → k < g' → AG x x1 y y1 n → ∃ r x2 y2, f_X10_forest_119 g x1 a1 (n32 Y) (n32 n) (n32 bo) (n32 i) = some (r, x2) ∧ f_X11_forest_112 g' y1 (n32 s) a1 (n32 Y) (n32 bo) (n32 i) = some (r, y2) ∧ PP x2 y2 := by
    intro k
    induction k with
    | zero =>
      intro i g g' bo x1 y1 hi hg hg' ag
      obtain ⟨g, rfl⟩ : ∃ w, g = w + 1 := ⟨g - 1, by omega⟩
      obtain ⟨g', rfl⟩ : ∃ w, g' = w + 1 := ⟨g' - 1, by omega⟩
      rw [f_X10_forest_119, f_X11_forest_112]
      exact ⟨_, x1, y1, if_pos (n_le (by omega) (by omega)), if_pos (n_le (by omega) (by omega)), AG_PP hP ag⟩
    | succ k ih =>
      intro i g g' bo x1 y1 hi hg hg' ag
      obtain ⟨g, rfl⟩ : ∃ w, g = w + 1 := ⟨g - 1, by omega⟩
      obtain ⟨g', rfl⟩ : ∃ w, g' = w + 1 := ⟨g' - 1, by omega⟩
      have hle : ¬ n32 Y ≤ n32 i := n_nle (by omega) (by omega)
      have h78' : gi y1 78 s = n32 n := by rw [gi_of (ag.2.2.1 78 (by omega))]; exact h78
      rw [f_X10_forest_119, f_X11_forest_112, if_neg hle, if_neg hle, hib, gd_tt, ens, h78']
      by_cases cn : n = 0
      · subst cn
        have z : f_X10_yearOfForest x1 (n32 0) a1 = some (0, x1) := by
          unfold f_X10_yearOfForest
          rw [f_X10_yearOfForest_5]
          have a1' : n32 0 ≤ 0 := by decide
          rw [if_pos a1']
          unfold f_X10_yearOfForest_47 f_X10_yearOfForest_74
          have a3 : (-1 : Int32) < 0 := by decide
          rw [if_pos a3, f_X10_yearOfForest_77, if_pos a1']; rfl
        have a00 : n32 0 ≤ 0 := by decide
        rw [z, Option.bind_some, n_inc, Int32.add_zero, if_pos a00]
        obtain ⟨r, x2, y2, e1, e2, e3⟩ := ih (i + 1) g g' bo x1 y1 (by omega) (by omega) (by omega) ag
        refine ⟨r, x2, y2, e1, ?_, e3⟩
        rw [← e2]
        obtain ⟨g', rfl⟩ : ∃ w, g' = w + 1 := ⟨g' - 1, by omega⟩
        rw [f_X11_forest_112, hib, gd_tt, ens, h78']
        unfold f_X11_forest_235
        rw [if_pos a00]
        split <;> rfl
      · have hn0 : ¬ n32 n ≤ 0 := n_nle (j := 0) (by omega) (by omega)
        obtain ⟨b, x2, y2, e1, e2, ag2⟩ := year2 hn (by omega) hs4 h78 a1 (n32 Y) (n32 i) bo ag (f_X11_forest_112 g')
        rw [e1, Option.bind_some, if_neg hn0, e2, n_inc, n32_add]
        exact ih (i + 1) g g' (bo + b) x2 y2 (by omega) (by omega) (by omega) ag2
  have load : ∀ (k i g g' : Nat) (x1 : CS) (y1 : MS), i + k = n → k < g → k < g' → (∀ q, q ≠ 37 → x1.1 q = x.1 q) → x1.2 = x.2 → (∀ q, q ≠ 87 → y1.1 q = y.1 q) → y1.2 = y.2 → (∀ j, j < i → gi x1 37 j = gi y1 87 j) → ∃ r x2 y2, f_X10_forest_66 g x1 a1 (n32 Y) (some (53 + 2 * s)) (n32 n) (n32 i) = some (r, x2) ∧ f_X11_forest_50 g' y1 (n32 s) a1 (n32 Y) (n32 i) = some (r, y2) ∧ PP x2 y2 := by
    intro k
    induction k with
    | zero =>
      intro i g g' x1 y1 hi hg hg' h1 h2 h3 h4 h5
      obtain ⟨g, rfl⟩ : ∃ w, g = w + 1 := ⟨g - 1, by omega⟩
      obtain ⟨g', rfl⟩ : ∃ w, g' = w + 1 := ⟨g' - 1, by omega⟩
      have h78' : gi y1 78 s = n32 n := by rw [gi_of (h3 78 (by omega))]; exact h78
      rw [f_X10_forest_66, f_X11_forest_50, oc_s, hib, gd_tt, ens, h78', if_pos (n_le (by omega) (by omega)), if_pos (n_le (by omega) (by omega))]
      exact years Y 0 1000 1000 0 x1 y1 (by omega) (by omega) (by omega) ⟨h1, h2, h3, h4, fun j hj => h5 j (by omega)⟩
    | succ k ih =>
      intro i g g' x1 y1 hi hg hg' h1 h2 h3 h4 h5
      obtain ⟨g, rfl⟩ : ∃ w, g = w + 1 := ⟨g - 1, by omega⟩
      obtain ⟨g', rfl⟩ : ∃ w, g' = w + 1 := ⟨g' - 1, by omega⟩
      have h78' : gi y1 78 s = n32 n := by rw [gi_of (h3 78 (by omega))]; exact h78
      have st1 : ST x1 y1 s n (fun i => gi y 79 (40 * s + i)) := ST_WF st ⟨fun q a b => h1 q (by omega), fun q a b => h3 q (by omega)⟩
      have hle : ¬ n32 n ≤ n32 i := n_nle (by omega) (by omega)
      have ei : (n32 i).toNatClampNeg = i := n32_nat (by omega)
      obtain ⟨m1, m2⟩ := ST_M st1 (i := i) (by omega)
      rw [f_X10_forest_66, f_X11_forest_50, oc_s, hib, gd_tt, ens, h78', if_neg hle, if_neg hle, ST_at st1 (by omega), Option.bind_some, m1, gd_tt, m2, gd_t (ib_n (by omega) (by omega)), gd_t (ib_n (by omega) (by omega)), gd_t (ib_n (by omega) (by omega)), gd_t (ib_n (by omega) (by omega)), ei, gp_eq, gp_eq, in_wi, n_inc]
      have g1 : ∀ q, q ≠ 37 → (pi x1 37 i (gi y 79 (40 * s + i))).1 q = x.1 q := fun q hq => by rw [pi1_q _ _ _ hq]; exact h1 q hq
      have g3 : ∀ q, q ≠ 87 → (pi y1 87 i (gi y 79 (40 * s + i))).1 q = y.1 q := fun q hq => by rw [pi1_q _ _ _ hq]; exact h3 q hq
      cases f_X10_within (gi y 79 (40 * s + i)) 0 999
      · refine ⟨-2, _, _, rfl, rfl, AG_PP (n := 0) hP ⟨g1, h2, g3, h4, fun j hj => absurd hj (Nat.not_lt_zero j)⟩⟩
      · rw [if_neg bt, if_neg bt]
        refine ih (i + 1) g g' _ _ (by omega) (by omega) (by omega) g1 h2 g3 h4 (fun j hj => ?_)
        by_cases c : j = i
        · subst c; rw [gp_eq, gp_eq]
        · rw [gp_j _ _ _ c, gp_j _ _ _ c]; exact h5 j (by omega)
  exact load n 0 1000 1000 x y (by omega) (by omega) (by omega) (fun _ _ => rfl) rfl (fun _ _ => rfl) rfl (fun j hj => absurd hj (Nat.not_lt_zero j))
