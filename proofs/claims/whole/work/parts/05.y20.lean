/-! ===== pure: copyOf, sheet, cell, worksBy, taken ===== -/
theorem allIn_of {f : Nat → Bool} : ∀ (k i : Nat), allIn f k i = true → ∀ j, i ≤ j → j < i + k → f j = true := by
  intro k
  induction k with
  | zero => intro i _ j h1 h2; omega
  | succ k ih =>
    intro i h j h1 h2
    rw [allIn] at h
    by_cases c : f i = true
    · rw [if_pos c] at h
      by_cases e : j = i
      · rw [e]; exact c
      · exact ih (i + 1) h j (by omega) (by omega)
    · rw [if_neg c] at h; cases h
theorem ST_WF {x x1 : CS} {y y1 : MS} {s n : Nat} {c : Nat → Int32} (h : ST x y s n c) (w : WF x x1 y y1) : ST x1 y1 s n c := by
  obtain ⟨hs, hn, h2, h3, h4, h5⟩ := h
  refine ⟨hs, hn, ?_, ?_, fun i hi => ?_, fun i hi => ?_⟩
  · rw [gi_of (w.1 _ (by omega) (by omega))]; exact h2
  · rw [gi_of (w.2 78 (by omega) (by omega))]; exact h3
  · rw [gi_of (w.1 _ (by omega) (by omega))]; exact h4 i hi
  · rw [gi_of (w.2 79 (by omega) (by omega))]; exact h5 i hi
theorem s_copyOf : ∀ (x : CS) (y : MS) (a0 a1 : Int32), PP x y → ∃ (r : Int32) (x1 : CS) (y1 : MS), f_X10_copyOf x a0 a1 = some (r, x1) ∧ f_X11_copyOf y a0 a1 = some (r, y1) ∧ PP x1 y1 := by
  intro x y a0 a1 hP
  unfold f_X10_copyOf f_X11_copyOf f_X10_copyOf_38 f_X11_copyOf_31
  rcases wrong2 hP a0 with ⟨r, o, e1, e2, e3, hr⟩ | ⟨s, c, rfl, st, e1, e2, e3, _⟩
  · refine sim0 hP r ?_ ?_
    · rw [e1, Option.bind_some]
      cases o with
      | none => rw [oc_n, e2, Option.bind_some, if_neg hr]
      | some z => rw [oc_s, e2, Option.bind_some, if_neg hr]
    · rw [e3, Option.bind_some, if_neg hr]
  rw [e1, Option.bind_some, oc_s, e2, Option.bind_some, if_pos rfl, e3, Option.bind_some, if_pos rfl, in_wi]
  cases hw : f_X10_within a1 0 12
  · exact sim0 hP (-3) rfl rfl
  rw [if_neg bt, if_neg bt, X_canBe st, Option.bind_some, M_canBe st, Option.bind_some]
  cases hc : allIn (fun i => f_X10_within (wsh c a1 i) 1 99) 9 0
  · exact sim0 hP (-3) rfl rfl
  rw [if_neg bt, if_neg bt]
  have hcb : ∀ j, j < 9 → clo 0 ≤ (wsh c a1 j).toInt ∧ (wsh c a1 j).toInt ≤ chi 0 := fun j hj => by
    have := wi_t.mp (allIn_of 9 0 hc j (by omega) (by omega))
    rw [z_1, z_99] at this
    exact this
  have key : ∀ (k i n n' m : Nat) (x : CS) (y : MS), i + k = 9 → k < n → k < n' → ST x y s 9 c → PP x y → ∃ r x1 y1, f_X10_copyOf_47 n x a1 (some (53 + 2 * s)) (n32 m) (n32 i) = some (r, x1) ∧ f_X11_copyOf_40 n' y (n32 s) a1 (n32 m) (n32 i) = some (r, y1) ∧ PP x1 y1 := by
    intro k
    induction k with
    | zero =>
      intro i n n' m x y hi hn hn' st hP
      obtain ⟨n, rfl⟩ : ∃ w, n = w + 1 := ⟨n - 1, by omega⟩
      obtain ⟨n', rfl⟩ : ∃ w, n' = w + 1 := ⟨n' - 1, by omega⟩
      rw [f_X10_copyOf_47, f_X11_copyOf_40, oc_s]
      exact ⟨_, x, y, if_pos (n_le (i := 9) (by omega) (by omega)), if_pos (n_le (i := 9) (by omega) (by omega)), hP⟩
    | succ k ih =>
      intro i n n' m x y hi hn hn' st hP
      obtain ⟨n, rfl⟩ : ∃ w, n = w + 1 := ⟨n - 1, by omega⟩
      obtain ⟨n', rfl⟩ : ∃ w, n' = w + 1 := ⟨n' - 1, by omega⟩
      have hi9 : i < 9 := by omega
      have e9 : ¬ (9 : Int32) ≤ n32 i := n_nle (i := 9) (by omega) (by omega)
      have eo : f_X8_of x 1 0 (n32 i) = some (gi y 62 i) := by
        have := X_of1 x (w := 0) (s := i) (by omega) hi9
        have e := (hP.2.1.1 0 i (by omega) hi9).1
        simp only [Nat.mul_zero, Nat.zero_add, Nat.add_zero] at e this
        rw [e] at this
        exact this
      have ep : f_X8_put x 1 0 (n32 i) (wsh c a1 i) = some (pi x 3 i (wsh c a1 i)) := X_put1 (w := 0) (by omega) hi9
      have hP1 : PP (pi x 3 i (wsh c a1 i)) (pi y 62 i (wsh c a1 i)) := by
        have := PP_carve (w := 0) (s := i) (v := wsh c a1 i) hP (by omega) hi9 (hcb i hi9)
        simp only [Nat.mul_zero, Nat.zero_add, Nat.add_zero] at this
        exact this
      have st1 : ST (pi x 3 i (wsh c a1 i)) (pi y 62 i (wsh c a1 i)) s 9 c := ST_WF st ⟨fun q a b => pi1_q _ _ _ (by omega), fun q a b => pi1_q _ _ _ (by omega)⟩
      unfold f_X10_copyOf_47 f_X11_copyOf_40
      unfold f_X10_copyOf_81 f_X11_copyOf_72
      rw [oc_s, if_neg e9, if_neg e9, X_w2c st a1 hi9, Option.bind_some, eo, Option.bind_some, M_fw st a1 hi9, Option.bind_some, Option.bind_some, gd_t (ib_n (by omega) (by omega)), gd_t (ib_n (by omega) (by omega)), n32_nat (by omega), oc_s, ep, Option.bind_some, oc_s, Option.bind_some, n_inc, n_inc, Int32.add_zero]
      by_cases cq : gi y 62 i = wsh c a1 i
      · rw [if_pos cq, if_pos cq]
        exact ih (i + 1) n n' m _ _ (by omega) (by omega) (by omega) st1 hP1
      · rw [if_neg cq, if_neg cq, Option.bind_some, gd_t (ib_n (by omega) (by omega))]
        exact ih (i + 1) n n' (m + 1) _ _ (by omega) (by omega) (by omega) st1 hP1
  exact key 9 0 1000 1000 0 x y (by omega) (by omega) (by omega) st hP
/-- sheets changed alone -/
theorem PP_sheets {x x1 : CS} {y y1 : MS} (hP : PP x y) (hx : ∀ q, (q < 53 ∨ 60 < q) → x1.1 q = x.1 q) (hx2 : x1.2 = x.2) (hy : ∀ q, (q < 77 ∨ 79 < q) → y1.1 q = y.1 q) (hh : PH x1 y1) : PP x1 y1 := by
  obtain ⟨hG, hW, hT, hK, hF, hH, n, rf, hE, hI⟩ := hP
  have g : ∀ q j, (q < 53 ∨ 60 < q) → gi x1 q j = gi x q j := fun q j h => gi_of (hx q h) j
  have m : ∀ q j, (q < 77 ∨ 79 < q) → gi y1 q j = gi y q j := fun q j h => gi_of (hy q h) j
  have xe : XE x x1 := XE_of (by rw [hx2])
  exact ⟨PG_fr hG xe.2.1 (m _ _ (by omega)) (m _ _ (by omega)), PW_fr hW (fun q a b => hx q (by omega)) (g _ _ (by omega)) (hy _ (by omega)) (fun j a b => m _ _ (by omega)) (m _ _ (by omega)), PT_fr hT (fun q a b => hx q (by omega)) (g _ _ (by omega)) (hy _ (by omega)) (hy _ (by omega)) (m _ _ (by omega)) (m _ _ (by omega)), PK_fr hK (fun q a b => hx q (by omega)) (fun q a b => hy q (by omega)) (m _ _ (by omega)), PF_fr hF (hx _ (by omega)) (g _ _ (by omega)) (hy _ (by omega)) (m _ _ (by omega)), hh, n, rf, PE_fr hE xe (g _ _ (by omega)) (fun q a b => hy q (by omega)) (m _ _ (by omega)), PI_fr hI (fun q a b => hx q (by omega)) (g _ _ (by omega)) (g _ _ (by omega)) (g _ _ (by omega)) (fun q a b => hy q (by omega)) (m _ _ (by omega)) (m _ _ (by omega)) (m _ _ (by omega)) (m _ _ (by omega))⟩
theorem X_zero {s : Nat} (hs : s < 4) : ∀ (k i n : Nat) (x : CS), i + k = 40 → k < n → ∃ x1, f_X4_become_30 (53 + 2 * s) n x (n32 i) = some x1 ∧ (∀ q, q ≠ 54 + 2 * s → x1.1 q = x.1 q) ∧ (∀ j, i ≤ j → j < 40 → gi x1 (54 + 2 * s) j = 0) ∧ (∀ j, j < i → gi x1 (54 + 2 * s) j = gi x (54 + 2 * s) j) ∧ x1.2 = x.2 := by
  intro k
  induction k with
  | zero =>
    intro i n x hi hn
    obtain ⟨n, rfl⟩ : ∃ w, n = w + 1 := ⟨n - 1, by omega⟩
    rw [f_X4_become_30]
    exact ⟨x, if_pos (n_le (i := 40) (by omega) (by omega)), fun _ _ => rfl, fun j a b => by omega, fun _ _ => rfl, rfl⟩
  | succ k ih =>
    intro i n x hi hn
    obtain ⟨n, rfl⟩ : ∃ w, n = w + 1 := ⟨n - 1, by omega⟩
    have e : 53 + 2 * s + 1 = 54 + 2 * s := by omega
    rw [f_X4_become_30, q_40, if_neg (n_nle (by omega) (by omega)), kSh_t hs, gd_tt, al_54 hs, gd_t (ib_n (by omega) (by omega)), n32_nat (by omega), n_inc, e]
    obtain ⟨x1, h1, h2, h3, h4, h5⟩ := ih (i + 1) n (pi x (54 + 2 * s) i 0) (by omega) (by omega)
    refine ⟨x1, h1, fun q hq => ?_, fun j a b => ?_, fun j hj => ?_, h5⟩
    · rw [h2 q hq, pi1_q _ _ _ hq]
    · by_cases c : j = i
      · subst c; rw [h4 j (by omega), gp_eq]
      · exact h3 j (by omega) b
    · rw [h4 j (by omega), gp_j _ _ _ (by omega)]
theorem M_zero {s : Nat} (hs : s < 4) : ∀ (k i n : Nat) (y : MS), i + k = 40 → k < n → ∃ y1, f_X11_sheet_70 n y (n32 s) (n32 i) = some (1, y1) ∧ (∀ q, q ≠ 79 → y1.1 q = y.1 q) ∧ (∀ j, i ≤ j → j < 40 → gi y1 79 (40 * s + j) = 0) ∧ (∀ j, j < 40 * s + i ∨ 40 * s + 40 ≤ j → gi y1 79 j = gi y 79 j) ∧ y1.2 = y.2 := by
  intro k
  induction k with
  | zero =>
    intro i n y hi hn
    obtain ⟨n, rfl⟩ : ∃ w, n = w + 1 := ⟨n - 1, by omega⟩
    rw [f_X11_sheet_70]
    exact ⟨y, if_pos (n_le (i := 40) (by omega) (by omega)), fun _ _ => rfl, fun j a b => by omega, fun _ _ => rfl, rfl⟩
  | succ k ih =>
    intro i n y hi hn
    obtain ⟨n, rfl⟩ : ∃ w, n = w + 1 := ⟨n - 1, by omega⟩
    have e40 : ¬ (40 : Int32) ≤ n32 i := n_nle (i := 40) (by omega) (by omega)
    rw [f_X11_sheet_70, if_neg e40, M_in40, gd_t (ib_n (by omega) (by omega)), n32_nat (by omega), n_inc]
    obtain ⟨y1, h1, h2, h3, h4, h5⟩ := ih (i + 1) n (pi y 79 (40 * s + i) 0) (by omega) (by omega)
    refine ⟨y1, h1, fun q hq => ?_, fun j a b => ?_, fun j hj => ?_, h5⟩
    · rw [h2 q hq, pi1_q _ _ _ hq]
    · by_cases c : j = i
      · subst c; rw [h4 _ (by omega), gp_eq]
      · exact h3 j (by omega) b
    · rw [h4 j (by omega), gp_j _ _ _ (by omega)]
theorem s_sheet : ∀ (x : CS) (y : MS) (a0 a1 a2 : Int32), PP x y → ∃ (r : Int32) (x1 : CS) (y1 : MS), f_X10_sheet x a0 a1 a2 = some (r, x1) ∧ f_X11_sheet y a0 a1 a2 = some (r, y1) ∧ PP x1 y1 := by
  intro x y a0 a1 a2 hP
  unfold f_X10_sheet f_X11_sheet f_X10_sheet_21 f_X11_sheet_29 f_X10_sheet_45 f_X11_sheet_32 f_X11_sheet_44 f_X11_sheet_66
  rw [in_wi, in_wi]
  rcases wi_cases a0 0 3 (by decide) with hs | ⟨hs, s, _, hs2, rfl⟩
  · rw [hs, X_sheetNo hs]; exact sim0 hP (-2) rfl rfl
  have hs4 : s < 4 := by rw [z_3] at hs2; omega
  rw [hs, if_neg bt, X_sheetAt hs4, Option.bind_some, oc_s, oc_s]
  cases hw : f_X10_within a1 (-1) 2
  · exact sim0 hP (-2) rfl rfl
  have hw := wi_t.mp hw
  rw [z_m1, z_2] at hw
  rw [if_neg bt, if_neg bt, gd_t (ib_n hs4 (by omega)), gd_t (ib_n hs4 (by omega)), gd_t (ib_n hs4 (by omega)), n32_nat (by omega)]
  have fin : ∀ n, n ≤ 40 → (a1 = -1 → n = 0) → (¬ a1 = -1 → a2 = n32 n) → ∃ (r : Int32) (x1 : CS) (y1 : MS), ((f_X4_become x (53 + 2 * s) a1 a2).bind fun r1 => some ((1 : Int32), r1)) = some (r, x1) ∧ f_X11_sheet_70 1000 (pi (pi y 77 s a1) 78 s (n32 n)) (n32 s) 0 = some (r, y1) ∧ PP x1 y1 := by
    intro n hn h0 h1
    have eb : f_X4_become x (53 + 2 * s) a1 a2 = f_X4_become_30 (53 + 2 * s) 1000 (pi (pi x (53 + 2 * s) 1 a1) (53 + 2 * s) 2 (n32 n)) 0 := by
      unfold f_X4_become f_X4_become_25
      rw [kSh_t hs4, gd_tt, gd_tt, gd_tt, gd_tt]
      by_cases c : a1 = -1
      · rw [if_pos c, h0 c]; rfl
      · rw [if_neg c, h1 c, q_40, if_neg (n_nlt (by omega) (by omega))]
        by_cases c0 : n = 0
        · rw [c0]; rfl
        · rw [q_0, if_pos (n_lt (by omega) (by omega))]
    obtain ⟨x1, k1, k2, k3, _, k5⟩ := X_zero hs4 40 0 1000 (pi (pi x (53 + 2 * s) 1 a1) (53 + 2 * s) 2 (n32 n)) (by omega) (by omega)
    obtain ⟨y1, m1, m2, m3, m4, m5⟩ := M_zero hs4 40 0 1000 (pi (pi y 77 s a1) 78 s (n32 n)) (by omega) (by omega)
    refine ⟨1, x1, y1, ?_, m1, PP_sheets hP (fun q hq => ?_) k5 (fun q hq => ?_) ?_⟩
    · rw [eb]
      exact wp_eq (wp_be k1 (wp_s rfl))
    · rw [k2 q (by omega), pi1_q _ _ _ (by omega), pi1_q _ _ _ (by omega)]
    · rw [m2 q (by omega), pi1_q _ _ _ (by omega), pi1_q _ _ _ (by omega)]
    · intro t ht
      obtain ⟨b1, b2, b3⟩ := hP.2.2.2.2.2.1 t ht
      have gx : ∀ q j, q ≠ 54 + 2 * s → gi x1 q j = gi (pi (pi x (53 + 2 * s) 1 a1) (53 + 2 * s) 2 (n32 n)) q j := fun q j h => gi_of (k2 q h) j
      have gy : ∀ q j, q ≠ 79 → gi y1 q j = gi (pi (pi y 77 s a1) 78 s (n32 n)) q j := fun q j h => gi_of (m2 q h) j
      by_cases c : t = s
      · subst c
        refine ⟨?_, ⟨n, hn, ?_, ?_⟩, fun i hi => ?_⟩
        · rw [gx _ _ (by omega), gy _ _ (by omega), gp_j _ _ _ (by omega), gp_eq, gp_q _ _ _ _ (by omega), gp_eq]
          exact ⟨rfl, hw⟩
        · rw [gx _ _ (by omega), gp_eq]
        · rw [gy _ _ (by omega), gp_eq]
        · rw [k3 i (by omega) hi, m3 i (by omega) hi]
      · refine ⟨?_, ?_, fun i hi => ?_⟩
        · rw [gx _ _ (by omega), gy _ _ (by omega), gp_q _ _ _ _ (by omega), gp_q _ _ _ _ (by omega), gp_q _ _ _ _ (by omega), gp_j _ _ _ (by omega)]; exact b1
        · rw [gx _ _ (by omega), gy _ _ (by omega), gp_q _ _ _ _ (by omega), gp_q _ _ _ _ (by omega), gp_j _ _ _ (by omega), gp_q _ _ _ _ (by omega)]; exact b2
        · rw [gx _ _ (by omega), m4 _ (by omega), gp_q _ _ _ _ (by omega), gp_q _ _ _ _ (by omega), gp_q _ _ _ _ (by omega), gp_q _ _ _ _ (by omega)]; exact b3 i hi
  by_cases c : a1 = -1
  · rw [if_pos c, if_pos c, if_pos c, if_pos c]
    exact fin 0 (by omega) (fun _ => rfl) (fun q => absurd c q)
  · rw [if_neg c, if_neg c, if_neg c, if_neg c]
    by_cases c40 : a2 ≤ 40
    · rw [if_pos c40, if_pos c40]
      by_cases c0 : 0 ≤ a2
      · rw [if_pos c0, if_pos c0]
        rw [i32_le, z_40] at c40
        rw [i32_le, z_0] at c0
        obtain ⟨n, hn, e⟩ := n32_ex c0 c40
        rw [show a2 = n32 n from e] at fin ⊢
        exact fin n (by omega) (fun q => absurd q c) (fun _ => rfl)
      · rw [if_neg c0, if_neg c0]; exact sim0 hP (-14) rfl rfl
    · rw [if_neg c40, if_neg c40]; exact sim0 hP (-2) rfl rfl
theorem s_cell : ∀ (x : CS) (y : MS) (a0 a1 a2 : Int32), PP x y → ∃ (r : Int32) (x1 : CS) (y1 : MS), f_X10_cell x a0 a1 a2 = some (r, x1) ∧ f_X11_cell y a0 a1 a2 = some (r, y1) ∧ PP x1 y1 := by
  intro x y a0 a1 a2 hP
  unfold f_X10_cell f_X11_cell f_X10_cell_20 f_X11_cell_84
  rw [in_wi, in_wi]
  rcases wi_cases a0 0 3 (by decide) with hs | ⟨hs, s, _, hs2, rfl⟩
  · rw [hs, X_sheetNo hs]; exact sim0 hP (-2) rfl rfl
  have hs4 : s < 4 := by rw [z_3] at hs2; omega
  have hib : ib (n32 s) 4 = true := ib_n hs4 (by omega)
  have hPH := hP.2.2.2.2.2.1
  obtain ⟨⟨h77, hb1, hb2⟩, ⟨n, hn, h2s, h78⟩, hc⟩ := hPH s hs4
  rw [hs, if_neg bt, X_sheetAt hs4, Option.bind_some, oc_s, X_missing hs4, Option.bind_some, hib, gd_tt, n32_nat (by omega), h77, X_hasS hs4 hn h2s]
  by_cases cm : gi y 77 s = -1
  · rw [decide_eq_true cm, if_neg bt, if_pos cm]; exact sim0 hP (-11) rfl rfl
  rw [decide_eq_false cm, if_pos b2i_f, if_neg cm, gd_tt, h78, Option.bind_some]
  by_cases ci : 0 ≤ a1.toInt ∧ a1.toInt < n
  · have ew : f_X10_within a1 0 (n32 n - 1) = true := wi_t.mpr (by rw [z_0, n32_m1 (by omega)]; omega)
    obtain ⟨i, hi, rfl⟩ := n32_ex (b := (n : Int) - 1) ci.1 (by omega)
    have hin : i < n := by omega
    rw [ew, decide_eq_true ci, if_neg bt, if_neg bt, gd_tt, gd_tt, M_in40, gd_t (ib_n (by omega) (by omega)), gd_t (ib_n (by omega) (by omega)), gd_t (ib_n (by omega) (by omega)), n32_nat (by omega)]
    have ep : f_X4_put x (53 + 2 * s) (n32 i) a2 = some (pi x (54 + 2 * s) i (if gi y 77 s = 0 then a2.toInt8.toInt32 else if gi y 77 s = 1 then a2.toInt16.toInt32 else a2)) := by
      have e : 53 + 2 * s + 1 = 54 + 2 * s := by omega
      unfold f_X4_put
      rw [X_hasS hs4 hn h2s, kSh_t hs4, gd_tt, Option.bind_some, decide_eq_true ci, if_neg bt, gd_tt, gd_tt, gd_tt, gd_tt, gd_tt, al_54 hs4, gd_t (ib_n (by omega) (by omega)), gd_t (ib_n (by omega) (by omega)), gd_t (ib_n (by omega) (by omega)), n32_nat (by omega), h77, e]
      by_cases c0 : gi y 77 s = 0
      · rw [if_pos c0, if_pos c0]
      · rw [if_neg c0, if_neg c0]
        by_cases c1 : gi y 77 s = 1
        · rw [if_pos c1, if_pos c1]
        · rw [if_neg c1, if_neg c1]
    rw [ep, Option.bind_some]
    have fin : ∀ v, PP (pi x (54 + 2 * s) i v) (pi y 79 (40 * s + i) v) := by
      intro v
      refine PP_sheets hP (fun q hq => pi1_q _ _ _ (by omega)) rfl (fun q hq => pi1_q _ _ _ (by omega)) (fun t ht => ?_)
      obtain ⟨b1, b2, b3⟩ := hPH t ht
      refine ⟨?_, ?_, fun j hj => ?_⟩
      · rw [gp_q _ _ _ _ (by omega), gp_q _ _ _ _ (by omega)]; exact b1
      · rw [gp_q _ _ _ _ (by omega), gp_q _ _ _ _ (by omega)]; exact b2
      · rw [gp_if, gp_if]
        by_cases c : t = s ∧ j = i
        · rw [if_pos ⟨by omega, c.2⟩, if_pos ⟨rfl, by rw [c.1, c.2]⟩]
        · rw [if_neg (by omega), if_neg (by omega)]; exact b3 j hj
    by_cases c0 : gi y 77 s = 0
    · rw [if_pos c0, if_pos c0]; exact ⟨1, _, _, rfl, rfl, fin _⟩
    · rw [if_neg c0, if_neg c0]
      by_cases c1 : gi y 77 s = 1
      · rw [if_pos c1, if_pos c1]; exact ⟨1, _, _, rfl, rfl, fin _⟩
      · rw [if_neg c1, if_neg c1]; exact ⟨1, _, _, rfl, rfl, fin _⟩
  · have ew : f_X10_within a1 0 (n32 n - 1) = false := wi_f.mpr (by rw [z_0, n32_m1 (by omega)]; omega)
    rw [ew, decide_eq_false ci]
    exact sim0 hP (-12) rfl rfl
