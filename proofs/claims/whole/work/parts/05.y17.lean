/-! ===== pure: frames, part by part; carve, set, works, days ===== -/
theorem PG_fr {x x' : CS} {y y' : MS} (h : PG x y) (hx : gn x ≤ gn x') (h1 : gi y' 61 47 = gi y 61 47) (h2 : gi y' 61 48 = gi y 61 48) : PG x' y' := ⟨Nat.le_trans h.1 hx, by rw [h1]; exact h.2.1, by rw [h2]; exact h.2.2⟩
theorem PW_fr {x x' : CS} {y y' : MS} (h : PW x y) (hx : ∀ q, 3 ≤ q → q ≤ 9 → x'.1 q = x.1 q) (h1 : gi x' 1 2 = gi x 1 2) (hy : y'.1 62 = y.1 62) (hs : ∀ j, 1 ≤ j → j ≤ 5 → gi y' 61 j = gi y 61 j) (h2 : gi y' 61 21 = gi y 61 21) : PW x' y' := by
  obtain ⟨w1, w2, w3⟩ := h
  refine ⟨fun w s hw hs' => ?_, fun k hk => ?_, by rw [h1, h2]; exact w3⟩
  · have := w1 w s hw hs'
    simp only at this ⊢
    rw [gi_of (hx (3 + w) (by omega) (by omega)), gi_of hy]; exact this
  · have := w2 k hk
    simp only at this ⊢
    rw [gi_of (hx 9 (by omega) (by omega)), hs _ (by omega) (by omega)]; exact this
theorem PT_fr {x x' : CS} {y y' : MS} (h : PT x y) (hx : ∀ q, 12 ≤ q → q ≤ 24 → x'.1 q = x.1 q) (h1 : gi x' 10 3 = gi x 10 3) (hy : y'.1 72 = y.1 72) (hy2 : y'.1 73 = y.1 73) (h2 : gi y' 61 20 = gi y 61 20) (h3 : gi y' 61 21 = gi y 61 21) : PT x' y' := by
  obtain ⟨T, r, t1, t2, t3, t4, t5, t6⟩ := h
  refine ⟨T, r, t1, t2, by rw [h1]; exact t3, by rw [h2]; exact t4, by rw [h3]; exact t5, fun t ht => ?_⟩
  have a1 : gi x' (12 + t) = gi x (12 + t) := hx _ (by omega) (by omega)
  have a2 : gi x' (19 + t) = gi x (19 + t) := hx _ (by omega) (by omega)
  have a3 : gi y' 72 = gi y 72 := hy
  have a4 : gi y' 73 = gi y 73 := hy2
  rw [a1, a2, a3, a4]; exact t6 t ht
theorem PK_fr {x x' : CS} {y y' : MS} (h : PK x y) (hx : ∀ q, 30 ≤ q → q ≤ 33 → x'.1 q = x.1 q) (hy : ∀ q, 63 ≤ q → q ≤ 65 → y'.1 q = y.1 q) (h1 : gi y' 61 6 = gi y 61 6) : PK x' y' := by
  obtain ⟨N, k1, k2, k3, k4⟩ := h
  refine ⟨N, k1, by rw [gi_of (hx 30 (by omega) (by omega))]; exact k2, by rw [h1]; exact k3, fun w hw => ?_⟩
  rw [gi_of (hx 31 (by omega) (by omega)), gi_of (hx 32 (by omega) (by omega)), gi_of (hx 33 (by omega) (by omega)), gi_of (hy 63 (by omega) (by omega)), gi_of (hy 64 (by omega) (by omega)), gi_of (hy 65 (by omega) (by omega))]
  exact k4 w hw
theorem PF_fr {x x' : CS} {y y' : MS} (h : PF x y) (hx : x'.1 27 = x.1 27) (h1 : gi x' 26 1 = gi x 26 1) (hy : y'.1 71 = y.1 71) (h2 : gi y' 61 17 = gi y 61 17) : PF x' y' := by
  obtain ⟨n, f1, f2, f3, f4⟩ := h
  refine ⟨n, f1, by rw [h1]; exact f2, by rw [h2]; exact f3, fun i hi => ?_⟩
  rw [gi_of hx, gi_of hy]; exact f4 i hi
theorem PH_fr {x x' : CS} {y y' : MS} (h : PH x y) (hx : ∀ q, 53 ≤ q → q ≤ 60 → x'.1 q = x.1 q) (hy : ∀ q, 77 ≤ q → q ≤ 79 → y'.1 q = y.1 q) : PH x' y' := by
  intro s hs
  obtain ⟨a, b, c⟩ := h s hs
  refine ⟨?_, ?_, fun i hi => ?_⟩
  · rw [gi_of (hx _ (by omega) (by omega)), gi_of (hy 77 (by omega) (by omega))]; exact a
  · rw [gi_of (hx _ (by omega) (by omega)), gi_of (hy 78 (by omega) (by omega))]; exact b
  · rw [gi_of (hx _ (by omega) (by omega)), gi_of (hy 79 (by omega) (by omega))]; exact c i hi
theorem PE_fr {x x' : CS} {y y' : MS} {n : Nat} {rf : Nat → Nat} (h : PE x y n rf) (hx : XE x x') (h1 : gi x' 34 1 = gi x 34 1) (hy : ∀ q, 66 ≤ q → q ≤ 70 → y'.1 q = y.1 q) (h2 : gi y' 61 10 = gi y 61 10) : PE x' y' n rf := by
  obtain ⟨e1, e2, e3, e4, e5⟩ := h
  refine ⟨e1, by rw [h1]; exact e2, by rw [h2]; exact e3, fun t ht => ⟨?_, TR_fr hx hy (e4 t ht).2⟩, e5⟩
  rw [hx.1]; exact (e4 t ht).1
theorem PI_fr {x x' : CS} {y y' : MS} {n : Nat} (h : PI x y n) (hx : ∀ q, 40 ≤ q → q ≤ 47 → x'.1 q = x.1 q) (h1 : gi x' 0 10 = gi x 0 10) (h2 : gi x' 0 11 = gi x 0 11) (h3 : gi x' 38 2 = gi x 38 2) (hy : ∀ q, 74 ≤ q → q ≤ 76 → y'.1 q = y.1 q) (h4 : gi y' 61 20 = gi y 61 20) (h5 : gi y' 61 22 = gi y 61 22) (h6 : gi y' 61 23 = gi y 61 23) (h7 : gi y' 61 24 = gi y 61 24) : PI x' y' n := by
  obtain ⟨i1, i2⟩ := h
  refine ⟨by rw [h2, h5]; exact i1, ?_⟩
  rw [h5, h3, h4, h6, h7, h1]
  refine i2.imp id (fun ⟨a, b, c, d, k, k1, k2, k3, k4⟩ => ⟨fun w s hw hs => ?_, fun j hj => ?_, c, d, k, k1, k2, k3, fun t ht => ?_⟩)
  · have := a w s hw hs
    simp only at this ⊢
    rw [gi_of (hx (40 + w) (by omega) (by omega)), gi_of (hy 75 (by omega) (by omega))]; exact this
  · rw [gi_of (hx 46 (by omega) (by omega)), gi_of (hy 74 (by omega) (by omega))]; exact b j hj
  · rw [gi_of (hx 47 (by omega) (by omega)), gi_of (hy 76 (by omega) (by omega))]; exact k4 t ht
/-- same on both sides, nothing changed -/
theorem sim0 {α : Type} {o1 : Option (α × CS)} {o2 : Option (α × MS)} {x : CS} {y : MS} (hP : PP x y) (R : α) (h1 : o1 = some (R, x)) (h2 : o2 = some (R, y)) : ∃ (r : α) (x1 : CS) (y1 : MS), o1 = some (r, x1) ∧ o2 = some (r, y1) ∧ PP x1 y1 := ⟨R, x, y, h1, h2, hP⟩
theorem M_carve_no {y : MS} {a1 a2 a3 : Int32} (hs : f_X10_within a1 0 8 = true) (h : f_X10_within a2 0 5 = false) : f_X11_carve y a1 a2 a3 = some ((-7), y) := by
  have e : ∀ lo hi, f_X11_carve_53 y a1 a2 a3 lo hi = some ((-7), y) := by
    intro lo hi
    unfold f_X11_carve_53 f_X11_carve_75
    rw [in_wi, h]; rfl
  unfold f_X11_carve f_X11_carve_20 f_X11_carve_25 f_X11_carve_37
  rw [secM_wi, hs]
  simp only [e]
  rw [if_neg bt]
  repeat' split
  all_goals rfl
theorem M_carve_w {y : MS} {s w : Nat} {a3 : Int32} (hs : s < 9) (hw : w < 6) : f_X11_carve y (n32 s) (n32 w) a3 = f_X11_carve_53 y (n32 s) (n32 w) a3 (sa 1 w) (sa 2 w) := by
  unfold f_X11_carve f_X11_carve_20 f_X11_carve_25 f_X11_carve_37
  rw [secM_wi, sec_t hs, if_neg bt]
  rcases (by omega : w = 0 ∨ w = 1 ∨ w = 2 ∨ w = 3 ∨ w = 4 ∨ w = 5) with rfl | rfl | rfl | rfl | rfl | rfl <;> rfl
theorem X_takes {x : CS} {w : Nat} {a3 : Int32} (hw : w < 6) : f_X8_takes x 1 (n32 w) a3 = some (f_X10_within a3 (sa 1 w) (sa 2 w)) := by
  unfold f_X8_takes f_X8_takes_30
  have h1 : f_X10_within (n32 w) 0 5 = true := wi_t.mpr (by rw [n32_int (by omega), z_0, z_5]; omega)
  have hk1 : kWd 1 = true := rfl
  rw [h1, hk1, gd_tt, if_neg bt, n32_nat (by omega), gd_t (ib_n hw (by omega)), gd_t (ib_n hw (by omega))]
  cases f_X10_within a3 (sa 1 w) (sa 2 w) <;> rfl
theorem X_takes_no {x : CS} {a2 a3 : Int32} (h : f_X10_within a2 0 5 = false) : f_X8_takes x 1 a2 a3 = some false := by
  unfold f_X8_takes f_X8_takes_30
  have hk1 : kWd 1 = true := rfl
  rw [h, hk1, gd_tt]; rfl
theorem sa_b {w : Nat} (hw : w < 6) : (sa 1 w).toInt = clo w ∧ (sa 2 w).toInt = chi w := by
  rcases (by omega : w = 0 ∨ w = 1 ∨ w = 2 ∨ w = 3 ∨ w = 4 ∨ w = 5) with rfl | rfl | rfl | rfl | rfl | rfl <;> exact ⟨by decide, by decide⟩
theorem X_put1 {x : CS} {w s : Nat} {v : Int32} (hw : w < 6) (hs : s < 9) : f_X8_put x 1 (n32 w) (n32 s) v = some (pi x (3 + w) s v) := by
  unfold f_X8_put
  have h1 : f_X10_within (n32 w) 0 5 = true := wi_t.mpr (by rw [n32_int (by omega), z_0, z_5]; omega)
  have h2 : f_X10_isSection (n32 s) = true := sec_t hs
  have h3 : al (1 + 2 + w) = 9 := by rcases (by omega : w = 0 ∨ w = 1 ∨ w = 2 ∨ w = 3 ∨ w = 4 ∨ w = 5) with rfl | rfl | rfl | rfl | rfl | rfl <;> rfl
  have hk1 : kWd 1 = true := rfl
  rw [h1, h2, if_neg bt, if_neg bt, n32_nat (by omega), n32_nat (by omega), h3, hk1, gd_tt, gd_tt, gd_tt, gd_t (ib_n hw (by omega)), gd_t (ib_n hs (by omega))]
theorem M_in9 {y : MS} {w s : Nat} : (9 : Int32) * n32 w + n32 s = n32 (9 * w + s) := by rw [q_9, n32_mul, n32_add]
/-- a wood with one number carved anew -/
theorem CB_up {x : CS} {y : MS} {w s : Nat} {v : Int32} (h : CB (fun w s => gi x (3 + w) s) (gi y 62)) (hw : w < 6) (hs : s < 9) (hv : clo w ≤ v.toInt ∧ v.toInt ≤ chi w) : CB (fun w' s' => gi (pi x (3 + w) s v) (3 + w') s') (gi (pi y 62 (9 * w + s) v) 62) := by
  intro w' s' hw' hs'
  have := h w' s' hw' hs'
  simp only at this ⊢
  rw [gp_if, gp_if]
  by_cases c : w' = w ∧ s' = s
  · obtain ⟨rfl, rfl⟩ := c
    rw [if_pos ⟨rfl, rfl⟩, if_pos ⟨rfl, rfl⟩]
    exact ⟨rfl, hv⟩
  · rw [if_neg (by omega), if_neg (by omega)]
    exact this
theorem s_carve : ∀ (x : CS) (y : MS) (a0 a1 a2 : Int32), PP x y → ∃ (r : Int32) (x1 : CS) (y1 : MS), f_X10_carve x a0 a1 a2 = some (r, x1) ∧ f_X11_carve y a0 a1 a2 = some (r, y1) ∧ PP x1 y1 := by
  intro x y a0 a1 a2 hP
  unfold f_X10_carve
  rw [sec_wi]
  rcases wi_cases a0 0 8 (by decide) with hs | ⟨hs, s, _, hs2, rfl⟩
  · rw [hs]
    exact sim0 hP (-5) rfl (by unfold f_X11_carve; rw [secM_wi, hs]; rfl)
  have hs9 : s < 9 := by rw [z_8] at hs2; omega
  rw [hs, if_neg bt]
  rcases wi_cases a1 0 5 (by decide) with hw | ⟨hw, w, _, hw2, rfl⟩
  · exact sim0 hP (-7) (by rw [X_takes_no hw]; rfl) (M_carve_no hs hw)
  have hw6 : w < 6 := by rw [z_5] at hw2; omega
  rw [M_carve_w hs9 hw6, X_takes hw6]
  unfold f_X11_carve_53 f_X11_carve_75
  rw [in_wi, in_wi, hw, if_neg bt]
  cases hv : f_X10_within a2 (sa 1 w) (sa 2 w)
  · exact sim0 hP (-7) rfl rfl
  have hv := wi_t.mp hv
  rw [(sa_b hw6).1, (sa_b hw6).2] at hv
  obtain ⟨hG, ⟨w1, w2, w3⟩, hT, hK, hF, hH, n, rf, hE, hI⟩ := hP
  refine ⟨gi y 62 (9 * w + s), pi x (3 + w) s a2, pi y 62 (9 * w + s) a2, ?_, ?_, ?_⟩
  · refine wp_eq (wp_be rfl (wp_e bt (wp_be (X_of1 x hw6 hs9) (wp_be (X_put1 hw6 hs9) (wp_s ?_)))))
    have := (w1 w s hw6 hs9).1
    simp only at this
    rw [this]
  · rw [M_in9 (y := y), n32_nat (by omega)]
    exact wp_eq (wp_e bt (wp_g (ib_n (by omega) (by omega)) (wp_g (ib_n (by omega) (by omega)) (wp_s rfl))))
  · refine ⟨PG_fr hG (Nat.le_refl _) (by simp (disch := omega) only [gp_q, gp_j, gp_eq]) (by simp (disch := omega) only [gp_q, gp_j, gp_eq]), ⟨CB_up w1 hw6 hs9 hv, fun k hk => ?_, ?_⟩, PT_fr hT (fun q a b => pi1_q _ _ _ (by omega)) (by simp (disch := omega) only [gp_q, gp_j, gp_eq]) (pi1_q _ _ _ (by omega)) (pi1_q _ _ _ (by omega)) (by simp (disch := omega) only [gp_q, gp_j, gp_eq]) (by simp (disch := omega) only [gp_q, gp_j, gp_eq]), PK_fr hK (fun q a b => pi1_q _ _ _ (by omega)) (fun q a b => pi1_q _ _ _ (by omega)) (by simp (disch := omega) only [gp_q, gp_j, gp_eq]), PF_fr hF (pi1_q _ _ _ (by omega)) (by simp (disch := omega) only [gp_q, gp_j, gp_eq]) (pi1_q _ _ _ (by omega)) (by simp (disch := omega) only [gp_q, gp_j, gp_eq]), PH_fr hH (fun q a b => pi1_q _ _ _ (by omega)) (fun q a b => pi1_q _ _ _ (by omega)), n, rf, PE_fr hE (XE_of rfl) (by simp (disch := omega) only [gp_q, gp_j, gp_eq]) (fun q a b => pi1_q _ _ _ (by omega)) (by simp (disch := omega) only [gp_q, gp_j, gp_eq]), PI_fr hI (fun q a b => pi1_q _ _ _ (by omega)) (by simp (disch := omega) only [gp_q, gp_j, gp_eq]) (by simp (disch := omega) only [gp_q, gp_j, gp_eq]) (by simp (disch := omega) only [gp_q, gp_j, gp_eq]) (fun q a b => pi1_q _ _ _ (by omega)) (by simp (disch := omega) only [gp_q, gp_j, gp_eq]) (by simp (disch := omega) only [gp_q, gp_j, gp_eq]) (by simp (disch := omega) only [gp_q, gp_j, gp_eq]) (by simp (disch := omega) only [gp_q, gp_j, gp_eq])⟩
    · have := w2 k hk
      simp only at this ⊢
      rw [gp_q _ _ _ _ (by omega), gp_q _ _ _ _ (by omega)]; exact this
    · rw [gp_q _ _ _ _ (by omega), gp_q _ _ _ _ (by omega)]; exact w3
theorem s_carved : ∀ (x : CS) (y : MS) (a0 a1 : Int32), PP x y → ∃ (r : Int32), f_X10_carved x a0 a1 = some r ∧ f_X11_carved y a0 a1 = some r := by
  intro x y a0 a1 hP
  unfold f_X10_carved f_X11_carved
  rw [sec_wi, secM_wi, in_wi]
  rcases wi_cases a0 0 8 (by decide) with hs | ⟨hs, s, _, hs2, rfl⟩
  · rw [hs]; exact ⟨-5, rfl, rfl⟩
  have hs9 : s < 9 := by rw [z_8] at hs2; omega
  rw [hs, if_neg bt, if_neg bt]
  rcases wi_cases a1 0 5 (by decide) with hw | ⟨hw, w, _, hw2, rfl⟩
  · rw [hw]; exact ⟨-7, rfl, rfl⟩
  have hw6 : w < 6 := by rw [z_5] at hw2; omega
  rw [hw, if_neg bt, if_neg bt]
  refine ⟨gi y 62 (9 * w + s), wp_eq (wp_be (X_of1 x hw6 hs9) (wp_s (hP.2.1.1 w s hw6 hs9).1)), ?_⟩
  rw [M_in9 (y := y), n32_nat (by omega), gd_t (ib_n (by omega) (by omega))]
theorem X_takesS {x : CS} {k : Nat} {a3 : Int32} (hk : k < 5) : f_X8_takesSetting x 1 (n32 k) a3 = some (f_X10_within a3 (sa 4 k) (sa 5 k)) := by
  unfold f_X8_takesSetting f_X8_takesSetting_30
  have h1 : f_X10_within (n32 k) 0 4 = true := wi_t.mpr (by rw [n32_int (by omega), z_0, z_4]; omega)
  have hk1 : kWd 1 = true := rfl
  rw [h1, hk1, gd_tt, if_neg bt, n32_nat (by omega), gd_t (ib_n hk (by omega)), gd_t (ib_n hk (by omega))]
  cases f_X10_within a3 (sa 4 k) (sa 5 k) <;> rfl
theorem M_set_w {y : MS} {k : Nat} {v : Int32} (hk : k < 5) : f_X11_set y (n32 k) v = if b2i (f_X10_within v (sa 4 k) (sa 5 k)) = 0 then ((-2), y) else (f_X11_count y (n32 k), f_X11_holds y (n32 k) v) := by
  have h1 : f_X10_within (n32 k) 0 4 = true := wi_t.mpr (by rw [n32_int (by omega), z_0, z_4]; omega)
  unfold f_X11_set f_X11_set_22 f_X11_set_33
  rw [in_wi, h1, if_neg bt]
  rcases (by omega : k = 0 ∨ k = 1 ∨ k = 2 ∨ k = 3 ∨ k = 4) with rfl | rfl | rfl | rfl | rfl <;> rfl
theorem saS_b {k : Nat} (hk : k < 5) : (sa 4 k).toInt = slo k ∧ (sa 5 k).toInt = shi k := by
  rcases (by omega : k = 0 ∨ k = 1 ∨ k = 2 ∨ k = 3 ∨ k = 4) with rfl | rfl | rfl | rfl | rfl <;> exact ⟨by decide, by decide⟩
theorem M_count_w (y : MS) {k : Nat} (hk : k < 5) : f_X11_count y (n32 k) = gi y 61 (1 + k) := by
  rcases (by omega : k = 0 ∨ k = 1 ∨ k = 2 ∨ k = 3 ∨ k = 4) with rfl | rfl | rfl | rfl | rfl <;> rfl
/-- holds: that setting alone -/
theorem M_holds (y : MS) {k : Nat} (hk : k < 5) (v : Int32) : (∀ q, q ≠ 61 → (f_X11_holds y (n32 k) v).1 q = y.1 q) ∧ (∀ j, gi (f_X11_holds y (n32 k) v) 61 j = if j = 1 + k then v else gi y 61 j) ∧ (f_X11_holds y (n32 k) v).2 = y.2 := by
  have e : f_X11_holds y (n32 k) v = pi (pi (pi (pi (pi y 61 1 (if k = 0 then v else gi y 61 1)) 61 2 (if k = 1 then v else gi y 61 2)) 61 3 (if k = 2 then v else gi y 61 3)) 61 4 (if k = 3 then v else gi y 61 4)) 61 5 (if k = 4 then v else gi y 61 5) := by
    unfold f_X11_holds f_X11_holds_13 f_X11_holds_30 f_X11_holds_47 f_X11_holds_64 f_X11_holds_81
    rcases (by omega : k = 0 ∨ k = 1 ∨ k = 2 ∨ k = 3 ∨ k = 4) with rfl | rfl | rfl | rfl | rfl <;> rfl
  rw [e]
  refine ⟨fun q hq => ?_, fun j => ?_, rfl⟩
  · rw [pi1_q _ _ _ hq, pi1_q _ _ _ hq, pi1_q _ _ _ hq, pi1_q _ _ _ hq, pi1_q _ _ _ hq]
  · simp only [gp_if]
    rcases (by omega : k = 0 ∨ k = 1 ∨ k = 2 ∨ k = 3 ∨ k = 4) with rfl | rfl | rfl | rfl | rfl
    all_goals
      rcases (by omega : j = 1 ∨ j = 2 ∨ j = 3 ∨ j = 4 ∨ j = 5 ∨ (j ≠ 1 ∧ j ≠ 2 ∧ j ≠ 3 ∧ j ≠ 4 ∧ j ≠ 5)) with rfl | rfl | rfl | rfl | rfl | ⟨h1, h2, h3, h4, h5⟩
      all_goals simp [*]
theorem X_putS {x : CS} {k : Nat} {v : Int32} (hk : k < 5) : f_X8_putSetting x 1 (n32 k) v = some (pi x 9 k v) := by
  unfold f_X8_putSetting
  have h1 : f_X10_within (n32 k) 0 4 = true := wi_t.mpr (by rw [n32_int (by omega), z_0, z_4]; omega)
  have hk1 : kWd 1 = true := rfl
  have h3 : al (1 + 8) = 5 := rfl
  rw [h1, if_neg bt, n32_nat (by omega), hk1, gd_tt, gd_tt, h3, gd_t (ib_n hk (by omega))]
theorem s_set : ∀ (x : CS) (y : MS) (a0 a1 : Int32), PP x y → ∃ (r : Int32) (x1 : CS) (y1 : MS), f_X10_set x a0 a1 = some (r, x1) ∧ f_X11_set y a0 a1 = (r, y1) ∧ PP x1 y1 := by
  intro x y a0 a1 hP
  unfold f_X10_set
  rcases wi_cases a0 0 4 (by decide) with hw | ⟨hw, k, _, hk2, rfl⟩
  · rw [hw]
    exact ⟨-1, x, y, rfl, by unfold f_X11_set; rw [in_wi, hw]; rfl, hP⟩
  have hk : k < 5 := by rw [z_4] at hk2; omega
  rw [hw, if_neg bt, M_set_w hk, X_takesS hk]
  cases hv : f_X10_within a1 (sa 4 k) (sa 5 k)
  · exact ⟨-2, x, y, rfl, rfl, hP⟩
  have hv := wi_t.mp hv
  rw [(saS_b hk).1, (saS_b hk).2] at hv
  obtain ⟨m1, m2, m3⟩ := M_holds y hk a1
  obtain ⟨hG, ⟨w1, w2, w3⟩, hT, hK, hF, hH, n, rf, hE, hI⟩ := hP
  have ms : ∀ j, 6 ≤ j → gi (f_X11_holds y (n32 k) a1) 61 j = gi y 61 j := fun j hj => by rw [m2, if_neg (by omega)]
  refine ⟨gi y 61 (1 + k), pi x 9 k a1, f_X11_holds y (n32 k) a1, ?_, ?_, ?_⟩
  · refine wp_eq (wp_be rfl (wp_e bt (wp_be (X_set1 x hk) (wp_be (X_putS hk) (wp_s ?_)))))
    have := (w2 k hk).1
    simp only at this
    rw [this]
  · rw [if_neg bt, M_count_w y hk]
  · refine ⟨PG_fr hG (Nat.le_refl _) (ms _ (by omega)) (ms _ (by omega)), ⟨fun w s hw hs => ?_, fun j hj => ?_, ?_⟩, PT_fr hT (fun q a b => pi1_q _ _ _ (by omega)) (by simp (disch := omega) only [gp_q, gp_j, gp_eq]) (m1 _ (by omega)) (m1 _ (by omega)) (ms _ (by omega)) (ms _ (by omega)), PK_fr hK (fun q a b => pi1_q _ _ _ (by omega)) (fun q a b => m1 _ (by omega)) (ms _ (by omega)), PF_fr hF (pi1_q _ _ _ (by omega)) (by simp (disch := omega) only [gp_q, gp_j, gp_eq]) (m1 _ (by omega)) (ms _ (by omega)), PH_fr hH (fun q a b => pi1_q _ _ _ (by omega)) (fun q a b => m1 _ (by omega)), n, rf, PE_fr hE (XE_of rfl) (by simp (disch := omega) only [gp_q, gp_j, gp_eq]) (fun q a b => m1 _ (by omega)) (ms _ (by omega)), PI_fr hI (fun q a b => pi1_q _ _ _ (by omega)) (by simp (disch := omega) only [gp_q, gp_j, gp_eq]) (by simp (disch := omega) only [gp_q, gp_j, gp_eq]) (by simp (disch := omega) only [gp_q, gp_j, gp_eq]) (fun q a b => m1 _ (by omega)) (ms _ (by omega)) (ms _ (by omega)) (ms _ (by omega)) (ms _ (by omega))⟩
    · have := w1 w s hw hs
      simp only at this ⊢
      rw [gp_q _ _ _ _ (by omega), gi_of (m1 62 (by omega))]; exact this
    · have := w2 j hj
      simp only at this ⊢
      rw [m2]
      by_cases c : j = k
      · subst c; rw [gp_eq, if_pos rfl]; exact ⟨rfl, hv⟩
      · rw [gp_j _ _ _ c, if_neg (by omega)]; exact this
    · rw [gp_q _ _ _ _ (by omega), ms _ (by omega)]; exact w3
theorem s_count : ∀ (x : CS) (y : MS) (a0 : Int32), PP x y → ∃ (r : Int32), f_X10_count x a0 = some r ∧ f_X11_count y a0 = r := by
  intro x y a0 hP
  obtain ⟨hG, ⟨w1, w2, w3⟩, ⟨T, r, t1, t2, t3, t4, _⟩, ⟨N, k1, k2, k3, _⟩, ⟨nf, f1, f2, f3, _⟩, hH, n, rf, ⟨e1, e2, e3, _⟩, hI⟩ := hP
  refine ⟨_, ?_, rfl⟩
  unfold f_X10_count f_X11_count f_X10_count_56
  have s : ∀ k, k < 5 → f_X8_setting x 1 (n32 k) = some (gi y 61 (1 + k)) := fun k hk => by rw [X_set1 x hk, (w2 k hk).1]
  by_cases c0 : a0 = 0
  · rw [if_pos c0, if_pos c0, c0]; exact wp_eq (wp_be (s 0 (by omega)) (wp_s rfl))
  rw [if_neg c0, if_neg c0]
  by_cases c1 : a0 = 1
  · rw [if_pos c1, if_pos c1, c1]; exact wp_eq (wp_be (s 1 (by omega)) (wp_s rfl))
  rw [if_neg c1, if_neg c1]
  by_cases c2 : a0 = 2
  · rw [if_pos c2, if_pos c2, c2]; exact wp_eq (wp_be (s 2 (by omega)) (wp_s rfl))
  rw [if_neg c2, if_neg c2]
  by_cases c3 : a0 = 3
  · rw [if_pos c3, if_pos c3, c3]; exact wp_eq (wp_be (s 3 (by omega)) (wp_s rfl))
  rw [if_neg c3, if_neg c3]
  by_cases c4 : a0 = 4
  · rw [if_pos c4, if_pos c4, c4]; exact wp_eq (wp_be (s 4 (by omega)) (wp_s rfl))
  rw [if_neg c4, if_neg c4, k2, k3, e2, e3, t3, t4, w3, f2, f3]
  by_cases c5 : a0 = 5
  · rw [if_pos c5, if_pos c5]
  rw [if_neg c5, if_neg c5]
  by_cases c6 : a0 = 6
  · rw [if_pos c6, if_pos c6]
  rw [if_neg c6, if_neg c6]
  by_cases c7 : a0 = 7
  · rw [if_pos c7, if_pos c7]
  rw [if_neg c7, if_neg c7]
  by_cases c8 : a0 = 8
  · rw [if_pos c8, if_pos c8]
  rw [if_neg c8, if_neg c8]
  by_cases c9 : a0 = 9
  · rw [if_pos c9, if_pos c9]
  rw [if_neg c9, if_neg c9]
