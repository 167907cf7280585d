/-! ===== pure: sheets; judge, wished, old, copyOf ===== -/
theorem PP_carve {x : CS} {y : MS} {w s : Nat} {v : Int32} (hP : PP x y) (hw : w < 6) (hs : s < 9) (hv : clo w ≤ v.toInt ∧ v.toInt ≤ chi w) : PP (pi x (3 + w) s v) (pi y 62 (9 * w + s) v) := by
  obtain ⟨hG, ⟨w1, w2, w3⟩, hT, hK, hF, hH, n, rf, hE, hI⟩ := hP
  refine ⟨PG_fr hG (Nat.le_refl _) (by simp (disch := omega) only [gp_q, gp_j, gp_eq]) (by simp (disch := omega) only [gp_q, gp_j, gp_eq]), ⟨CB_up w1 hw hs hv, fun k hk => ?_, ?_⟩, PT_fr hT (fun q a b => pi1_q _ _ _ (by omega)) (by simp (disch := omega) only [gp_q, gp_j, gp_eq]) (pi1_q _ _ _ (by omega)) (pi1_q _ _ _ (by omega)) (by simp (disch := omega) only [gp_q, gp_j, gp_eq]) (by simp (disch := omega) only [gp_q, gp_j, gp_eq]), PK_fr hK (fun q a b => pi1_q _ _ _ (by omega)) (fun q a b => pi1_q _ _ _ (by omega)) (by simp (disch := omega) only [gp_q, gp_j, gp_eq]), PF_fr hF (pi1_q _ _ _ (by omega)) (by simp (disch := omega) only [gp_q, gp_j, gp_eq]) (pi1_q _ _ _ (by omega)) (by simp (disch := omega) only [gp_q, gp_j, gp_eq]), PH_fr hH (fun q a b => pi1_q _ _ _ (by omega)) (fun q a b => pi1_q _ _ _ (by omega)), n, rf, PE_fr hE (XE_of rfl) (by simp (disch := omega) only [gp_q, gp_j, gp_eq]) (fun q a b => pi1_q _ _ _ (by omega)) (by simp (disch := omega) only [gp_q, gp_j, gp_eq]), PI_fr hI (fun q a b => pi1_q _ _ _ (by omega)) (by simp (disch := omega) only [gp_q, gp_j, gp_eq]) (by simp (disch := omega) only [gp_q, gp_j, gp_eq]) (by simp (disch := omega) only [gp_q, gp_j, gp_eq]) (fun q a b => pi1_q _ _ _ (by omega)) (by simp (disch := omega) only [gp_q, gp_j, gp_eq]) (by simp (disch := omega) only [gp_q, gp_j, gp_eq]) (by simp (disch := omega) only [gp_q, gp_j, gp_eq]) (by simp (disch := omega) only [gp_q, gp_j, gp_eq])⟩
  · have := w2 k hk
    simp only at this ⊢
    rw [gp_q _ _ _ _ (by omega), gp_q _ _ _ _ (by omega)]; exact this
  · rw [gp_q _ _ _ _ (by omega), gp_q _ _ _ _ (by omega)]; exact w3
theorem X_sheetAt {x : CS} {s : Nat} (hs : s < 4) : f_X10_sheetAt x (n32 s) = some (some (53 + 2 * s)) := by
  unfold f_X10_sheetAt
  rw [q_0, q_4, if_neg (n_nlt (by omega) (by omega)), if_neg (n_nle (by omega) (by omega)), gd_t (ib_n hs (by omega)), n32_nat (by omega)]
theorem X_sheetNo {x : CS} {a : Int32} (h : f_X10_within a 0 3 = false) : f_X10_sheetAt x a = some none := by
  have h := wi_f.mp h
  rw [z_0, z_3] at h
  unfold f_X10_sheetAt f_X10_sheetAt_22
  by_cases c : a < 0
  · rw [if_pos c]
  · rw [i32_lt, z_0] at c
    rw [if_neg (by rw [i32_lt, z_0]; exact c), if_pos (by rw [i32_le, z_4]; omega)]
theorem kSh_t {s : Nat} (hs : s < 4) : kSh (53 + 2 * s) = true := by
  rcases (by omega : s = 0 ∨ s = 1 ∨ s = 2 ∨ s = 3) with rfl | rfl | rfl | rfl <;> rfl
theorem al_54 {s : Nat} (hs : s < 4) : al (53 + 2 * s + 1) = 40 := by
  rcases (by omega : s = 0 ∨ s = 1 ∨ s = 2 ∨ s = 3) with rfl | rfl | rfl | rfl <;> rfl
theorem X_missing {x : CS} {s : Nat} (hs : s < 4) : f_X4_isMissing x (53 + 2 * s) = some (decide (gi x (53 + 2 * s) 1 = -1)) := by
  unfold f_X4_isMissing
  rw [kSh_t hs, gd_tt, gd_tt]
  by_cases c : gi x (53 + 2 * s) 1 = -1
  · rw [if_pos c, decide_eq_true c]
  · rw [if_neg c, decide_eq_false c]
theorem X_hasS {x : CS} {s n : Nat} (hs : s < 4) (hn : n ≤ 40) (h2 : gi x (53 + 2 * s) 2 = n32 n) (a : Int32) : f_X4_has x (53 + 2 * s) a = some (decide (0 ≤ a.toInt ∧ a.toInt < n)) := by
  unfold f_X4_has f_X4_has_22
  rw [kSh_t hs, gd_tt, gd_tt, h2]
  by_cases c : a < 0
  · rw [if_pos c]
    rw [i32_lt, z_0] at c
    rw [decide_eq_false (by omega)]
  · rw [if_neg c]
    rw [i32_lt, z_0] at c
    by_cases c2 : n32 n ≤ a
    · rw [if_pos c2]
      rw [i32_le, n32_int (by omega)] at c2
      rw [decide_eq_false (by omega)]
    · rw [if_neg c2]
      rw [i32_le, n32_int (by omega)] at c2
      rw [if_neg (by rw [i32_le, z_40]; omega), decide_eq_true (by omega)]
theorem X_atS {x : CS} {s n i : Nat} (hs : s < 4) (hn : n ≤ 40) (h2 : gi x (53 + 2 * s) 2 = n32 n) (hi : i < n) : f_X4_at x (53 + 2 * s) (n32 i) = some (gi x (54 + 2 * s) i) := by
  have e : 53 + 2 * s + 1 = 54 + 2 * s := by omega
  unfold f_X4_at
  rw [X_hasS hs hn h2, kSh_t hs, gd_tt, Option.bind_some, n32_int (by omega), decide_eq_true (by omega), if_neg bt, gd_tt, al_54 hs, gd_t (ib_n (by omega) (by omega)), n32_nat (by omega), e]
theorem M_in40 {s i : Nat} : (40 : Int32) * n32 s + n32 i = n32 (40 * s + i) := by rw [q_40, n32_mul, n32_add]
theorem s_judge : ∀ (x : CS) (y : MS) (a0 a1 : Int32), PP x y → ∃ (r : Int32) (x1 : CS) (y1 : MS), f_X10_judge x a0 a1 = some (r, x1) ∧ f_X11_judge y a0 a1 = some (r, y1) ∧ PP x1 y1 := by
  intro x y a0 a1 hP
  obtain ⟨m, sp, cv, N, kd, sec, mo, c⟩ := PP_ctx hP
  unfold f_X10_judge f_X11_judge
  rcases soMany c a0 with ⟨h1, h2⟩ | ⟨h1, h2, nn, hnn, rfl⟩
  · rw [h1, h2]; exact sim0 hP (-5) rfl rfl
  rw [h1, h2, in_wi, if_neg bt, if_neg bt]
  rcases wi_cases a1 0 3 (by decide) with hs | ⟨hs, s, _, hs2, rfl⟩
  · rw [hs, X_sheetNo hs]; exact sim0 hP (-2) rfl rfl
  have hs4 : s < 4 := by rw [z_3] at hs2; omega
  obtain ⟨⟨h77, _, _⟩, ⟨n, hn, h2s, h78⟩, hc⟩ := hP.2.2.2.2.2.1 s hs4
  rw [hs, if_neg bt, X_sheetAt hs4, Option.bind_some, oc_s, X_missing hs4, Option.bind_some, gd_t (ib_n hs4 (by omega)), n32_nat (by omega), h77]
  by_cases cm : gi y 77 s = -1
  · rw [decide_eq_true cm, if_neg bt, if_pos cm]; exact sim0 hP (-11) rfl rfl
  rw [decide_eq_false cm, if_pos b2i_f, if_neg cm, gd_t (ib_n hs4 (by omega)), kSh_t hs4, gd_tt, h2s, h78]
  by_cases c9 : n = 9
  · subst c9
    have e99 : n32 9 = 9 := rfl
    rw [if_pos e99, if_pos e99]
    have b : BH nn (hul m sp (gi y 61 1) (gi y 61 2) (gi y 61 3) cv kd sec mo nn) := hul_BH c hnn
    have hX := CTX_X c hnn
    have hM := CTX_M c hnn (FrM_rfl y)
    generalize hul m sp (gi y 61 1) (gi y 61 2) (gi y 61 3) cv kd sec mo nn = h at b hX hM
    obtain ⟨x1, e1, hx1⟩ := hX
    obtain ⟨y1, e2, hy1⟩ := hM
    rw [e1, e2, Option.bind_some, Option.bind_some]
    have key : ∀ (k i n n' : Nat), i + k = 9 → k < n → k < n' → ∃ r, f_X10_judge_54 n x1 (some (53 + 2 * s)) (n32 i) = some (r, x1) ∧ f_X11_judge_57 n' y1 (n32 s) (n32 i) = some (r, y1) := by
      intro k
      induction k with
      | zero =>
        intro i n n' hi hn hn'
        obtain ⟨n, rfl⟩ : ∃ w, n = w + 1 := ⟨n - 1, by omega⟩
        obtain ⟨n', rfl⟩ : ∃ w, n' = w + 1 := ⟨n' - 1, by omega⟩
        rw [f_X10_judge_54, f_X11_judge_57, oc_s]
        exact ⟨-1, if_pos (n_le (i := 9) (by omega) (by omega)), if_pos (n_le (i := 9) (by omega) (by omega))⟩
      | succ k ih =>
        intro i n n' hi hn hn'
        obtain ⟨n, rfl⟩ : ∃ w, n = w + 1 := ⟨n - 1, by omega⟩
        obtain ⟨n', rfl⟩ : ∃ w, n' = w + 1 := ⟨n' - 1, by omega⟩
        have hi9 : i < 9 := by omega
        have c9 : ¬ (9 : Int32) ≤ n32 i := n_nle (i := 9) (by omega) (by omega)
        have h2x : gi x1 (53 + 2 * s) 2 = n32 9 := by rw [gi_of (hx1.1.1 _ (by omega) (by omega))]; exact h2s
        rw [f_X10_judge_54, f_X11_judge_57, oc_s, if_neg c9, if_neg c9, gd_t (ib_n hi9 (by omega)), gd_t (ib_n hi9 (by omega)), X_atS hs4 (by omega) h2x hi9, Option.bind_some, M_in40, gd_t (ib_n (by omega) (by omega)), n32_nat (by omega), n32_nat (by omega), gi_of (hx1.1.1 _ (by omega) (by omega)), gi_of (hy1.1.1 79 (by omega) (by omega)), hc i (by omega), hx1.2.2.2.1 i hi9, hy1.2.2.1 i hi9, n_inc]
        by_cases ct : gi y 79 (40 * s + i) ≤ hT h i
        · rw [if_pos ct, if_pos ct]; exact ih (i + 1) n n' (by omega) (by omega) (by omega)
        · rw [if_neg ct, if_neg ct]; exact ⟨_, rfl, rfl⟩
    obtain ⟨r, k1, k2⟩ := key 9 0 1000 1000 (by omega) (by omega) (by omega)
    exact ⟨r, x1, y1, k1, k2, PP_fr hP (HX_XF hx1) (HM_MF hy1)⟩
  · rw [q_9, if_neg (n_ne c9 (by omega) (by omega)), if_neg (n_ne c9 (by omega) (by omega))]
    exact sim0 hP (-2) rfl rfl
def allIn (f : Nat → Bool) : Nat → Nat → Bool
  | 0, _ => true
  | k + 1, i => if f i = true then allIn f k (i + 1) else false
/-- a sheet as both tell it -/
def ST (x : CS) (y : MS) (s : Nat) (n : Nat) (c : Nat → Int32) : Prop := s < 4 ∧ n ≤ 40 ∧ gi x (53 + 2 * s) 2 = n32 n ∧ gi y 78 s = n32 n ∧ (∀ i, i < 40 → gi x (54 + 2 * s) i = c i) ∧ (∀ i, i < 40 → gi y 79 (40 * s + i) = c i)
theorem ST_of {x : CS} {y : MS} (hP : PP x y) {s : Nat} (hs : s < 4) : ∃ n, ST x y s n (fun i => gi y 79 (40 * s + i)) := by
  obtain ⟨_, ⟨n, hn, h2s, h78⟩, hc⟩ := hP.2.2.2.2.2.1 s hs
  exact ⟨n, hs, hn, h2s, h78, hc, fun _ _ => rfl⟩
theorem ST_at {x : CS} {y : MS} {s n : Nat} {c : Nat → Int32} (h : ST x y s n c) {i : Nat} (hi : i < n) : f_X4_at x (53 + 2 * s) (n32 i) = some (c i) := by
  obtain ⟨hs, hn, h2, _, hc, _⟩ := h
  rw [X_atS hs hn h2 hi, hc i (by omega)]
theorem ST_M {x : CS} {y : MS} {s n : Nat} {c : Nat → Int32} (h : ST x y s n c) {i : Nat} (hi : i < 40) : ib (40 * n32 s + n32 i) 160 = true ∧ gi y 79 (40 * n32 s + n32 i).toNatClampNeg = c i := by
  obtain ⟨hs, hn, _, _, _, hm⟩ := h
  rw [M_in40, n32_nat (by omega)]
  exact ⟨ib_n (by omega) (by omega), hm i hi⟩
theorem X_wid {x : CS} {y : MS} {s n : Nat} {c : Nat → Int32} (h : ST x y s n c) (hn : n = 9) (hm : ¬ gi x (53 + 2 * s) 1 = -1) : f_X10_refusalOfWidths x (some (53 + 2 * s)) = some (if allIn (fun i => f_X10_within (c i) 1 198) 9 0 = true then 0 else -2) := by
  have h0 := h
  obtain ⟨hs, _, h2, _, hc, _⟩ := h
  subst hn
  have key : ∀ (k i n : Nat), i + k = 9 → k < n → f_X10_refusalOfWidths_30 x n (some (53 + 2 * s)) (n32 i) = some (if allIn (fun i => f_X10_within (c i) 1 198) k i = true then 0 else -2) := by
    intro k
    induction k with
    | zero =>
      intro i n hi hn
      obtain ⟨n, rfl⟩ : ∃ w, n = w + 1 := ⟨n - 1, by omega⟩
      rw [f_X10_refusalOfWidths_30, oc_s]
      exact if_pos (n_le (i := 9) (by omega) (by omega))
    | succ k ih =>
      intro i n hi hn
      obtain ⟨n, rfl⟩ : ∃ w, n = w + 1 := ⟨n - 1, by omega⟩
      rw [f_X10_refusalOfWidths_30, oc_s, q_9, if_neg (n_nle (by omega) (by omega)), ST_at h0 (by omega), Option.bind_some, n_inc, allIn]
      cases e : f_X10_within (c i) 1 198
      · rfl
      · rw [if_neg bt, if_pos rfl]; exact ih (i + 1) n (by omega) (by omega)
  unfold f_X10_refusalOfWidths
  have e99 : n32 9 = 9 := rfl
  rw [oc_s, X_missing hs, Option.bind_some, decide_eq_false hm, if_pos b2i_f, kSh_t hs, gd_tt, h2, if_pos e99]
  exact key 9 0 1000 (by omega) (by omega)
theorem M_wid {x : CS} {y : MS} {s n : Nat} {c : Nat → Int32} (h : ST x y s n c) : f_X11_widthsWrong_44 y 1000 (n32 s) 1 0 = some (if allIn (fun i => f_X10_within (c i) 1 198) 9 0 = true then 0 else -2) ∧ f_X11_widthsWrong_44 y 1000 (n32 s) 0 0 = some (-2) := by
  refine ⟨?_, rfl⟩
  have key : ∀ (k i n : Nat), i + k = 9 → k < n → f_X11_widthsWrong_44 y n (n32 s) 1 (n32 i) = some (if allIn (fun i => f_X10_within (c i) 1 198) k i = true then 0 else -2) := by
    intro k
    induction k with
    | zero =>
      intro i n hi hn
      obtain ⟨n, rfl⟩ : ∃ w, n = w + 1 := ⟨n - 1, by omega⟩
      rw [f_X11_widthsWrong_44]
      exact if_pos (n_le (i := 9) (by omega) (by omega))
    | succ k ih =>
      intro i n hi hn
      obtain ⟨n, rfl⟩ : ∃ w, n = w + 1 := ⟨n - 1, by omega⟩
      obtain ⟨m1, m2⟩ := ST_M h (i := i) (by omega)
      rw [f_X11_widthsWrong_44, q_9, if_neg (n_nle (by omega) (by omega)), if_neg (by decide), m1, gd_tt, m2, in_wi, n_inc, allIn]
      cases e : f_X10_within (c i) 1 198
      · obtain ⟨n, rfl⟩ : ∃ w, n = w + 1 := ⟨n - 1, by omega⟩
        simp only [Bool.false_eq_true, if_false]
        rw [f_X11_widthsWrong_44]
        unfold f_X11_widthsWrong_79
        split
        · rfl
        · rfl
      · rw [if_pos rfl]; exact ih (i + 1) n (by omega) (by omega)
  exact key 9 0 1000 (by omega) (by omega)
/-- what is wrong with a sheet of widths: on both sides -/
theorem wrong2 {x : CS} {y : MS} (hP : PP x y) (a : Int32) : (∃ r o, f_X10_sheetAt x a = some o ∧ f_X10_refusalOfWidths x o = some r ∧ f_X11_widthsWrong y a = some r ∧ ¬ r = 0) ∨ (∃ s c, a = n32 s ∧ ST x y s 9 c ∧ f_X10_sheetAt x a = some (some (53 + 2 * s)) ∧ f_X10_refusalOfWidths x (some (53 + 2 * s)) = some 0 ∧ f_X11_widthsWrong y a = some 0 ∧ ∀ i, i < 9 → f_X10_within (c i) 1 198 = true) := by
  have hall : ∀ (f : Nat → Bool) (k i : Nat), allIn f k i = true → ∀ j, i ≤ j → j < i + k → f j = true := by
    intro f k
    induction k with
    | zero => intro i _ j h1 h2; omega
    | succ k ih =>
      intro i h j h1 h2
      rw [allIn] at h
      by_cases c : f i = true
      · rw [if_pos c] at h
        by_cases e : j = i
        · rw [e]; exact c
        · exact ih (i + 1) h j (by omega) (by omega)
      · rw [if_neg c] at h; cases h
  rcases wi_cases a 0 3 (by decide) with hs | ⟨hs, s, _, hs2, rfl⟩
  · refine Or.inl ⟨-2, none, X_sheetNo hs, rfl, ?_, by decide⟩
    unfold f_X11_widthsWrong
    rw [in_wi, hs]; rfl
  have hs4 : s < 4 := by rw [z_3] at hs2; omega
  obtain ⟨n, st⟩ := ST_of hP hs4
  obtain ⟨⟨h77, _, _⟩, _⟩ := hP.2.2.2.2.2.1 s hs4
  have eM : f_X11_widthsWrong y (n32 s) = if gi y 77 s = -1 then some (-11) else if n = 9 then some (if allIn (fun i => f_X10_within (gi y 79 (40 * s + i)) 1 198) 9 0 = true then 0 else -2) else some (-2) := by
    unfold f_X11_widthsWrong f_X11_widthsWrong_41
    rw [in_wi, hs, if_neg bt, gd_t (ib_n hs4 (by omega)), n32_nat (by omega), gd_t (ib_n hs4 (by omega)), st.2.2.2.1, (M_wid st).1, (M_wid st).2]
    by_cases cm : gi y 77 s = -1
    · rw [if_pos cm, if_pos cm]
    · rw [if_neg cm, if_neg cm]
      have := st.2.1
      by_cases c9 : n = 9
      · rw [if_pos c9, if_pos (by rw [c9]; rfl)]
      · rw [if_neg c9, q_9, if_neg (n_ne c9 (by omega) (by omega))]
  by_cases cm : gi y 77 s = -1
  · rw [if_pos cm] at eM
    refine Or.inl ⟨-11, some (53 + 2 * s), X_sheetAt hs4, ?_, eM, by decide⟩
    unfold f_X10_refusalOfWidths f_X10_refusalOfWidths_11
    rw [oc_s, X_missing hs4, Option.bind_some, decide_eq_true (by rw [h77]; exact cm), if_neg bt]; rfl
  rw [if_neg cm] at eM
  by_cases c9 : n = 9
  · rw [if_pos c9] at eM
    have eX := X_wid st c9 (by rw [h77]; exact cm)
    subst c9
    cases ha : allIn (fun i => f_X10_within (gi y 79 (40 * s + i)) 1 198) 9 0
    · rw [ha] at eM eX
      exact Or.inl ⟨-2, some (53 + 2 * s), X_sheetAt hs4, eX, eM, by decide⟩
    · rw [ha] at eM eX
      exact Or.inr ⟨s, _, rfl, st, X_sheetAt hs4, eX, eM, fun i hi => hall _ 9 0 ha i (by omega) (by omega)⟩
  · rw [if_neg c9] at eM
    refine Or.inl ⟨-2, some (53 + 2 * s), X_sheetAt hs4, ?_, eM, by decide⟩
    unfold f_X10_refusalOfWidths
    have := st.2.1
    rw [oc_s, X_missing hs4, Option.bind_some, decide_eq_false (by rw [h77]; exact cm), if_pos b2i_f, kSh_t hs4, gd_tt, st.2.2.1, q_9, if_neg (n_ne c9 (by omega) (by omega))]
def wsh (c : Nat → Int32) (a : Int32) (i : Nat) : Int32 := c i - a * n32 (shn i)
theorem X_w2c {x : CS} {y : MS} {s : Nat} {c : Nat → Int32} (st : ST x y s 9 c) (a : Int32) {i : Nat} (hi : i < 9) : f_X10_widthToCarve x (some (53 + 2 * s)) a (n32 i) = some (wsh c a i) := by
  unfold f_X10_widthToCarve
  rw [oc_s, ST_at st hi, Option.bind_some, X_share hi]; rfl
theorem M_fw {x : CS} {y : MS} {s : Nat} {c : Nat → Int32} (st : ST x y s 9 c) (a : Int32) {i : Nat} (hi : i < 9) : f_X11_forWish y (n32 s) a (n32 i) = some (wsh c a i) := by
  obtain ⟨m1, m2⟩ := ST_M st (i := i) (by omega)
  unfold f_X11_forWish
  rw [m1, gd_tt, m2, M_share hi]; rfl
theorem s_wished : ∀ (x : CS) (y : MS) (a0 a1 a2 : Int32), PP x y → ∃ (r : Int32), f_X10_wished x a0 a1 a2 = some r ∧ f_X11_wished y a0 a1 a2 = some r := by
  intro x y a0 a1 a2 hP
  unfold f_X10_wished f_X11_wished
  rw [sec_wi, secM_wi, in_wi]
  rcases wi_cases a2 0 8 (by decide) with hs | ⟨hs, i, _, hi2, rfl⟩
  · rw [hs]; exact ⟨-5, rfl, rfl⟩
  have hi9 : i < 9 := by rw [z_8] at hi2; omega
  rw [hs, if_neg bt, if_neg bt]
  cases hw : f_X10_within a1 0 12
  · exact ⟨-7, rfl, rfl⟩
  rw [if_neg bt, if_neg bt]
  rcases wrong2 hP a0 with ⟨r, o, e1, e2, e3, hr⟩ | ⟨s, c, rfl, st, e1, e2, e3, _⟩
  · refine ⟨r, ?_, ?_⟩
    · rw [e1, Option.bind_some]
      cases o with
      | none => rw [oc_n, e2, Option.bind_some, if_neg hr]
      | some z => rw [oc_s, e2, Option.bind_some, if_neg hr]
    · rw [e3, Option.bind_some, if_neg hr]
  · rw [e1, Option.bind_some, oc_s, e2, Option.bind_some, if_pos rfl, X_w2c st a1 hi9, Option.bind_some, e3, Option.bind_some, if_pos rfl, M_fw st a1 hi9, Option.bind_some, in_wi]
    cases f_X10_within (wsh c a1 i) 1 99
    · exact ⟨-1, rfl, rfl⟩
    · exact ⟨wsh c a1 i, rfl, rfl⟩
theorem X_canBe {x : CS} {y : MS} {s : Nat} {c : Nat → Int32} (st : ST x y s 9 c) (a : Int32) : f_X10_canBeCarved x (some (53 + 2 * s)) a = some (allIn (fun i => f_X10_within (wsh c a i) 1 99) 9 0) := by
  have key : ∀ (k i n : Nat), i + k = 9 → k < n → f_X10_canBeCarved_2 x n (some (53 + 2 * s)) a (n32 i) = some (allIn (fun i => f_X10_within (wsh c a i) 1 99) k i) := by
    intro k
    induction k with
    | zero =>
      intro i n hi hn
      obtain ⟨n, rfl⟩ : ∃ w, n = w + 1 := ⟨n - 1, by omega⟩
      rw [f_X10_canBeCarved_2, oc_s]
      exact if_pos (n_le (i := 9) (by omega) (by omega))
    | succ k ih =>
      intro i n hi hn
      obtain ⟨n, rfl⟩ : ∃ w, n = w + 1 := ⟨n - 1, by omega⟩
      rw [f_X10_canBeCarved_2, oc_s, q_9, if_neg (n_nle (by omega) (by omega)), X_w2c st a (by omega), Option.bind_some, n_inc, allIn]
      cases e : f_X10_within (wsh c a i) 1 99
      · rfl
      · rw [if_neg bt, if_pos rfl]; exact ih (i + 1) n (by omega) (by omega)
  unfold f_X10_canBeCarved
  rw [oc_s]
  exact key 9 0 1000 (by omega) (by omega)
theorem M_canBe {x : CS} {y : MS} {s : Nat} {c : Nat → Int32} (st : ST x y s 9 c) (a : Int32) : f_X11_canBe y (n32 s) a = some (allIn (fun i => f_X10_within (wsh c a i) 1 99) 9 0) := by
  have key : ∀ (k i n : Nat), i + k = 9 → k < n → f_X11_canBe_2 y n (n32 s) a (n32 i) = some (allIn (fun i => f_X10_within (wsh c a i) 1 99) k i) := by
    intro k
    induction k with
    | zero =>
      intro i n hi hn
      obtain ⟨n, rfl⟩ : ∃ w, n = w + 1 := ⟨n - 1, by omega⟩
      rw [f_X11_canBe_2]
      exact if_pos (n_le (i := 9) (by omega) (by omega))
    | succ k ih =>
      intro i n hi hn
      obtain ⟨n, rfl⟩ : ∃ w, n = w + 1 := ⟨n - 1, by omega⟩
      rw [f_X11_canBe_2, q_9, if_neg (n_nle (by omega) (by omega)), M_fw st a (by omega), Option.bind_some, in_wi, n_inc, allIn]
      cases e : f_X10_within (wsh c a i) 1 99
      · rfl
      · rw [if_neg bt, if_pos rfl]; exact ih (i + 1) n (by omega) (by omega)
  unfold f_X11_canBe
  exact key 9 0 1000 (by omega) (by omega)
def unv (c : Nat → Int32) (a : Int32) : Int32 := acc (fun i z => z + ab32 (wsh c a i - wsh c a (i - 1))) 8 1 0
theorem X_unv {x : CS} {y : MS} {s : Nat} {c : Nat → Int32} (st : ST x y s 9 c) (a : Int32) : f_X10_unevenness x (some (53 + 2 * s)) a = some (unv c a) := by
  have key : ∀ (k i n : Nat) (z : Int32), i + k = 9 → 1 ≤ i → k < n → f_X10_unevenness_4 x n (some (53 + 2 * s)) a z (n32 i) = some (acc (fun i z => z + ab32 (wsh c a i - wsh c a (i - 1))) k i z) := by
    intro k
    induction k with
    | zero =>
      intro i n z hi h1 hn
      obtain ⟨n, rfl⟩ : ∃ w, n = w + 1 := ⟨n - 1, by omega⟩
      rw [f_X10_unevenness_4, oc_s]
      exact if_pos (n_le (i := 9) (by omega) (by omega))
    | succ k ih =>
      intro i n z hi h1 hn
      obtain ⟨n, rfl⟩ : ∃ w, n = w + 1 := ⟨n - 1, by omega⟩
      have em : n32 i - 1 = n32 (i - 1) := by rw [q_1, n32_sub h1]
      rw [f_X10_unevenness_4, oc_s, q_9, if_neg (n_nle (by omega) (by omega)), em, X_w2c st a (by omega), Option.bind_some, X_w2c st a (by omega), Option.bind_some, n_inc, Int32.zero_sub]
      exact ih (i + 1) n _ (by omega) (by omega) (by omega)
  unfold f_X10_unevenness
  rw [oc_s]
  exact key 8 1 1000 0 (by omega) (by omega) (by omega)
def otk (b : Option Nat) (low v : Int32) : Bool := match b with
  | none => true
  | some _ => decide (¬ low ≤ v)
def oldS (cb : Nat → Bool) (u : Nat → Int32) : Nat → Nat → Option Nat → Int32 → Option Nat
  | 0, _, b, _ => b
  | k + 1, i, b, low => if cb i = true ∧ otk b low (u i) = true then oldS cb u k (i + 1) (some i) (u i) else oldS cb u k (i + 1) b low
theorem s_old : ∀ (x : CS) (y : MS) (a0 : Int32), PP x y → ∃ (r : Int32), f_X10_old x a0 = some r ∧ f_X11_old y a0 = some r := by
  intro x y a0 hP
  unfold f_X10_old f_X11_old
  rcases wrong2 hP a0 with ⟨r, o, e1, e2, e3, hr⟩ | ⟨s, c, rfl, st, e1, e2, e3, _⟩
  · refine ⟨r, ?_, ?_⟩
    · rw [e1, Option.bind_some]
      cases o with
      | none => rw [oc_n, e2, Option.bind_some, if_neg hr]
      | some z => rw [oc_s, e2, Option.bind_some, if_neg hr]
    · rw [e3, Option.bind_some, if_neg hr]
  rw [e1, Option.bind_some, oc_s, e2, Option.bind_some, if_pos rfl, e3, Option.bind_some, if_pos rfl]
  generalize hcb : (fun i => allIn (fun j => f_X10_within (wsh c (n32 i) j) 1 99) 9 0) = cb
  generalize hu : (fun i => unv c (n32 i)) = u
  have hcbi : ∀ i, allIn (fun j => f_X10_within (wsh c (n32 i) j) 1 99) 9 0 = cb i := fun i => congrFun hcb i
  have hui : ∀ i, unv c (n32 i) = u i := fun i => congrFun hu i
  have inner : ∀ (i : Nat) (kk : Int32 → Int32 → Int32 → Int32 → Option Int32) (b low : Int32) (k j n : Nat) (z : Int32), j + k = 9 → 1 ≤ j → k < n → f_X11_old_33 kk y n (n32 s) b low (n32 i) z (n32 j) = f_X11_old_33 kk y 1 (n32 s) b low (n32 i) (acc (fun j z => z + ab32 (wsh c (n32 i) j - wsh c (n32 i) (j - 1))) k j z) (n32 9) := by
    intro i kk b low k
    induction k with
    | zero =>
      intro j n z hj h1 hn
      obtain ⟨n, rfl⟩ : ∃ w, n = w + 1 := ⟨n - 1, by omega⟩
      have ej : j = 9 := by omega
      subst ej
      have e9 : (9 : Int32) ≤ n32 9 := n_le (i := 9) (by omega) (by omega)
      rw [f_X11_old_33, f_X11_old_33, acc, if_pos e9, if_pos e9]
    | succ k ih =>
      intro j n z hj h1 hn
      obtain ⟨n, rfl⟩ : ∃ w, n = w + 1 := ⟨n - 1, by omega⟩
      have em : n32 j - 1 = n32 (j - 1) := by rw [q_1, n32_sub h1]
      have e9 : ¬ (9 : Int32) ≤ n32 j := n_nle (i := 9) (by omega) (by omega)
      rw [f_X11_old_33, if_neg e9, em, M_fw st (n32 i) (by omega), Option.bind_some, M_fw st (n32 i) (by omega), Option.bind_some, n_inc, ih (j + 1) n _ (by omega) (by omega) (by omega)]
      rfl
  have key : ∀ (k i n n' : Nat) (b : Option Nat) (low : Int32), i + k = 13 → k < n → k < n' → (∀ z, b = some z → z < 13) → f_X10_old_26 x n (some (53 + 2 * s)) (oI b) low (n32 i) = some (oI (oldS cb u k i b low)) ∧ f_X11_old_20 y n' (n32 s) (oI b) low (n32 i) = some (oI (oldS cb u k i b low)) := by
    intro k
    induction k with
    | zero =>
      intro i n n' b low hi hn hn' hb
      obtain ⟨n, rfl⟩ : ∃ w, n = w + 1 := ⟨n - 1, by omega⟩
      obtain ⟨n', rfl⟩ : ∃ w, n' = w + 1 := ⟨n' - 1, by omega⟩
      rw [f_X10_old_26, f_X11_old_20, oc_s]
      exact ⟨if_pos (n_lt (i := 12) (by omega) (by omega)), if_pos (n_lt (i := 12) (by omega) (by omega))⟩
    | succ k ih =>
      intro i n n' b low hi hn hn' hb
      obtain ⟨n, rfl⟩ : ∃ w, n = w + 1 := ⟨n - 1, by omega⟩
      obtain ⟨n', rfl⟩ : ∃ w, n' = w + 1 := ⟨n' - 1, by omega⟩
      have e12 : ¬ (12 : Int32) < n32 i := n_nlt (i := 12) (by omega) (by omega)
      have e9 : (9 : Int32) ≤ n32 9 := n_le (i := 9) (by omega) (by omega)
      have hI := inner i (f_X11_old_20 y n') (oI b) low 8 1 1000 0 (by omega) (by omega) (by omega)
      have hI : f_X11_old_33 (f_X11_old_20 y n') y 1000 (n32 s) (oI b) low (n32 i) 0 1 = f_X11_old_33 (f_X11_old_20 y n') y 1 (n32 s) (oI b) low (n32 i) (unv c (n32 i)) (n32 9) := hI
      rw [f_X10_old_26, f_X11_old_20, oc_s, if_neg e12, if_neg e12, X_canBe st, Option.bind_some, hI, f_X11_old_33, if_pos e9, M_canBe st, Option.bind_some, hcbi, oldS]
      unfold f_X10_old_73 f_X10_old_65 f_X10_old_73 f_X11_old_104 f_X11_old_97 f_X11_old_104
      rw [oc_s, n_inc, hui]
      have same := ih (i + 1) n n' b low (by omega) (by omega) (by omega) hb
      have take := ih (i + 1) n n' (some i) (u i) (by omega) (by omega) (by omega) (fun z hz => by cases hz; omega)
      cases ecb : cb i
      · rw [if_pos b2i_f, if_pos b2i_f, if_neg (fun q => Bool.false_ne_true q.1)]; exact same
      · rw [if_neg bt, if_neg bt, X_unv st, Option.bind_some, hui]
        cases b with
        | none =>
          rw [if_pos (show oI none < 0 by decide), if_pos (show oI none = -1 from rfl), if_pos ⟨rfl, rfl⟩]
          exact take
        | some b =>
          have hb13 := hb b rfl
          have n1 : ¬ oI (some b) < 0 := n_nlt (i := b) (j := 0) (by omega) (by omega)
          have n2 : ¬ oI (some b) = -1 := fun q => by
            have q : n32 b = -1 := q
            rw [i32_eq, n32_int (by omega), z_m1] at q; omega
          rw [if_neg n1, if_neg n2]
          by_cases cl : low ≤ u i
          · rw [if_pos cl, if_pos cl, if_neg (fun q => (of_decide_eq_true q.2) cl)]; exact same
          · rw [if_neg cl, if_neg cl, if_pos ⟨rfl, decide_eq_true cl⟩]; exact take
  have := key 13 0 1000 1000 none 0 (by omega) (by omega) (by omega) (fun z hz => by cases hz)
  exact ⟨_, this.1, this.2⟩
