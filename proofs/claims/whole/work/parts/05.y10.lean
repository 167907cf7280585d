/-! ===== pure: hull, state, crack, dries, shade, drawn, asks ===== -/
theorem HX_XF {x0 x : CS} {nm : EX} {h : HS} {e : EX} (hx : HX x0 nm h e x) : XF x0 x := XF_Fr hx.1
theorem HM_MF {y0 y : MS} {h : HS} (hy : HM y0 h y) : MF y0 y := MF_Fr hy.1
theorem X_isBroken {x0 x : CS} {nm : EX} {h : HS} {e : EX} {s : Nat} (hx : HX x0 nm h e x) (hs : s < 9) : f_X2_isBroken x (n32 s) = decide (¬ (hB h &&& bit s) = 0) := by
  unfold f_X2_isBroken
  rw [X_bit hs, hx.2.2.2.2.2.1]
  by_cases c : (hB h &&& bit s) = 0
  · rw [if_pos c, decide_eq_false (fun q => q c)]
  · rw [if_neg c, decide_eq_true c]
theorem s_hull : ∀ (x : CS) (y : MS) (a0 a1 a2 : Int32), PP x y → ∃ (r : Int32) (x1 : CS) (y1 : MS), f_X10_hull x a0 a1 a2 = some (r, x1) ∧ f_X11_hull y a0 a1 a2 = some (r, y1) ∧ PP x1 y1 := by
  intro x y a0 a1 a2 hP
  obtain ⟨m, sp, cv, N, kd, sec, mo, c⟩ := PP_ctx hP
  unfold f_X10_hull f_X11_hull f_X10_hull_27 f_X11_hull_27
  rcases soMany c a0 with ⟨h1, h2⟩ | ⟨h1, h2, nn, hnn, rfl⟩
  · rw [h1, h2]
    exact sim2 hP (-5) (wp_s ⟨rfl, XF_rfl x⟩) (wp_s ⟨rfl, MF_rfl y⟩)
  rw [h1, h2, sec_wi, secM_wi, in_wi]
  rcases wi_cases a1 0 8 (by decide) with hs | ⟨hs, s, _, hs2, rfl⟩
  · rw [hs]
    exact sim2 hP (-7) (wp_e bt (wp_t rfl (wp_s ⟨rfl, XF_rfl x⟩))) (wp_e bt (wp_t rfl (wp_s ⟨rfl, MF_rfl y⟩)))
  rw [hs]
  have hs9 : s < 9 := by rw [z_8] at hs2; omega
  cases hw : f_X10_within a2 0 3
  · exact sim2 hP (-7) (wp_e bt (wp_e bt (wp_t rfl (wp_s ⟨rfl, XF_rfl x⟩)))) (wp_e bt (wp_e bt (wp_t rfl (wp_s ⟨rfl, MF_rfl y⟩))))
  have hb := M_bitB (hB (hul m sp (gi y 61 1) (gi y 61 2) (gi y 61 3) cv kd sec mo nn)) hs9
  refine sim2 hP (if a2 = 0 then hW (hul m sp (gi y 61 1) (gi y 61 2) (gi y 61 3) cv kd sec mo nn) s else if a2 = 1 then hT (hul m sp (gi y 61 1) (gi y 61 2) (gi y 61 3) cv kd sec mo nn) s else if a2 = 2 then hH (hul m sp (gi y 61 1) (gi y 61 2) (gi y 61 3) cv kd sec mo nn) s else if (hB (hul m sp (gi y 61 1) (gi y 61 2) (gi y 61 3) cv kd sec mo nn) &&& bit s) = 0 then 0 else 1) (wp_e bt (wp_e bt (wp_e bt ?_))) (wp_e bt (wp_e bt (wp_e bt ?_)))
  · refine wp_bw (CTX_X c hnn) (fun x1 hx1 => ?_)
    rw [n32_nat (by omega), hx1.2.2.1 s hs9, hx1.2.2.2.1 s hs9, hx1.2.2.2.2.1 s hs9, X_isBroken hx1 hs9]
    by_cases c0 : a2 = 0
    · rw [if_pos c0, if_pos c0]; exact (wp_g (ib_n hs9 (by omega)) (wp_s ⟨rfl, HX_XF hx1⟩))
    rw [if_neg c0, if_neg c0]
    by_cases c1 : a2 = 1
    · rw [if_pos c1, if_pos c1]; exact (wp_g (ib_n hs9 (by omega)) (wp_s ⟨rfl, HX_XF hx1⟩))
    rw [if_neg c1, if_neg c1]
    by_cases c2 : a2 = 2
    · rw [if_pos c2, if_pos c2]; exact (wp_g (ib_n hs9 (by omega)) (wp_s ⟨rfl, HX_XF hx1⟩))
    rw [if_neg c2, if_neg c2]
    by_cases c3 : (hB (hul m sp (gi y 61 1) (gi y 61 2) (gi y 61 3) cv kd sec mo nn) &&& bit s) = 0
    · rw [decide_eq_false (fun q => q c3)]
      refine wp_t rfl (wp_s ⟨?_, HX_XF hx1⟩); rw [if_pos c3]
    · rw [decide_eq_true c3]
      refine wp_e bt (wp_s ⟨?_, HX_XF hx1⟩); rw [if_neg c3]
  · refine wp_bw (CTX_M c hnn (FrM_rfl y)) (fun y1 hy1 => ?_)
    rw [n32_nat (by omega), hy1.2.1 s hs9, hy1.2.2.1 s hs9, hy1.2.2.2.1 s hs9, hy1.2.2.2.2.1]
    by_cases c0 : a2 = 0
    · rw [if_pos c0, if_pos c0]; exact (wp_g (ib_n hs9 (by omega)) (wp_s ⟨rfl, HM_MF hy1⟩))
    rw [if_neg c0, if_neg c0]
    by_cases c1 : a2 = 1
    · rw [if_pos c1, if_pos c1]; exact (wp_g (ib_n hs9 (by omega)) (wp_s ⟨rfl, HM_MF hy1⟩))
    rw [if_neg c1, if_neg c1]
    by_cases c2 : a2 = 2
    · rw [if_pos c2, if_pos c2]; exact (wp_g (ib_n hs9 (by omega)) (wp_s ⟨rfl, HM_MF hy1⟩))
    rw [if_neg c2, if_neg c2]; refine (wp_s ⟨?_, HM_MF hy1⟩)
    by_cases c3 : (hB (hul m sp (gi y 61 1) (gi y 61 2) (gi y 61 3) cv kd sec mo nn) &&& bit s) = 0
    · rw [if_pos c3]; exact hb.2.mpr c3
    · rw [if_neg c3]; exact hb.1.mpr c3
theorem s_state : ∀ (x : CS) (y : MS) (a0 a1 : Int32), PP x y → ∃ (r : Int32) (x1 : CS) (y1 : MS), f_X10_state x a0 a1 = some (r, x1) ∧ f_X11_state y a0 a1 = some (r, y1) ∧ PP x1 y1 := by
  intro x y a0 a1 hP
  obtain ⟨m, sp, cv, N, kd, sec, mo, c⟩ := PP_ctx hP
  unfold f_X10_state f_X11_state
  rcases soMany c a0 with ⟨h1, h2⟩ | ⟨h1, h2, nn, hnn, rfl⟩
  · rw [h1, h2]
    exact sim2 hP (-5) (wp_s ⟨rfl, XF_rfl x⟩) (wp_s ⟨rfl, MF_rfl y⟩)
  rw [h1, h2, in_wi]
  cases hw : f_X10_within a1 0 2
  · exact sim2 hP (-7) (wp_e bt (wp_t rfl (wp_s ⟨rfl, XF_rfl x⟩))) (wp_e bt (wp_t rfl (wp_s ⟨rfl, MF_rfl y⟩)))
  refine sim2 hP (if a1 = 0 then hB (hul m sp (gi y 61 1) (gi y 61 2) (gi y 61 3) cv kd sec mo nn) else if a1 = 1 then hS (hul m sp (gi y 61 1) (gi y 61 2) (gi y 61 3) cv kd sec mo nn) else (eHull (qM y m sp) cv false kd sec mo nn 0 (cv 0, cv 1, cv 2, 0, 0, 0) (-1, 0, -1000000)).1) (wp_e bt (wp_e bt ?_)) (wp_e bt (wp_e bt ?_))
  · refine wp_bw (CTX_X c hnn) (fun x1 hx1 => ?_)
    rw [hx1.2.2.2.2.2.1, hx1.2.2.2.2.2.2.1, hx1.2.2.2.2.2.2.2.2.1]
    by_cases c0 : a1 = 0
    · rw [if_pos c0, if_pos c0]; exact (wp_s ⟨rfl, HX_XF hx1⟩)
    rw [if_neg c0, if_neg c0]
    by_cases c1 : a1 = 1
    · rw [if_pos c1, if_pos c1]; exact (wp_s ⟨rfl, HX_XF hx1⟩)
    rw [if_neg c1, if_neg c1]; exact (wp_s ⟨rfl, HX_XF hx1⟩)
  · obtain ⟨sx, sm, wk, wm, _, _, h47, h48⟩ := c
    have hN := wm.1
    refine wp_bw (M_begins (L := 0) sm (FrM_rfl y) (fun q => absurd h48 q)) (fun y1 hy1 => ?_)
    refine wp_m (M_state32 (dr := false) (what := a1) sm (by rw [h48]; rfl) wm h47 hnn nn 0 1000 y1 (cv 0, cv 1, cv 2, 0, 0, 0) (-1, 0, -1000000) (by omega) (by omega) (Or.inl rfl) hy1) (fun v hv => ⟨hv.2, HM_MF hv.1⟩)
theorem s_asks : ∀ (x : CS) (y : MS) (a0 a1 a2 a3 : Int32), PP x y → ∃ (r : Int32) (x1 : CS) (y1 : MS), f_X10_asks x a0 a1 a2 a3 = some (r, x1) ∧ f_X11_asks y a0 a1 a2 a3 = some (r, y1) ∧ PP x1 y1 := by
  intro x y a0 a1 a2 a3 hP
  obtain ⟨m, sp, cv, N, kd, sec, mo, c⟩ := PP_ctx hP
  unfold f_X10_asks f_X11_asks f_X10_asks_40 f_X11_asks_40
  rw [in_wi, in_wi, in_wi, in_wi]
  rcases wi_cases a0 0 2 (by decide) with h0 | ⟨h0, p, _, hp, rfl⟩
  · rw [h0]
    exact sim2 hP (-2) (wp_t rfl (wp_s ⟨rfl, XF_rfl x⟩)) (wp_t rfl (wp_s ⟨rfl, MF_rfl y⟩))
  rw [h0]
  cases h1 : f_X10_within a1 0 20
  · exact sim2 hP (-2) (wp_e bt (wp_t rfl (wp_s ⟨rfl, XF_rfl x⟩))) (wp_e bt (wp_t rfl (wp_s ⟨rfl, MF_rfl y⟩)))
  cases h2 : f_X10_within a2 0 198
  · exact sim2 hP (-2) (wp_e bt (wp_e bt (wp_t rfl (wp_s ⟨rfl, XF_rfl x⟩)))) (wp_e bt (wp_e bt (wp_t rfl (wp_s ⟨rfl, MF_rfl y⟩))))
  cases h3 : f_X10_within a3 0 1
  · exact sim2 hP (-2) (wp_e bt (wp_e bt (wp_e bt (wp_t rfl (wp_s ⟨rfl, XF_rfl x⟩))))) (wp_e bt (wp_e bt (wp_e bt (wp_t rfl (wp_s ⟨rfl, MF_rfl y⟩)))))
  have hp3 : p < 3 := by rw [z_2] at hp; omega
  obtain ⟨sx, sm, wk, wm, ⟨e0, e1, e2⟩, _⟩ := c
  refine sim2 hP (Qf m sp (gi y 61 1) (gi y 61 2) (gi y 61 3) p a1 a2 a3) (wp_e bt (wp_e bt (wp_e bt (wp_e bt ?_)))) (wp_e bt (wp_e bt (wp_e bt (wp_e bt ?_))))
  · refine wp_bw (X_begin sx) (fun x1 hx1 => ?_)
    refine wp_bw (X_asked (LX_Fr sx.1 hx1.1) hp3 a1 a2 a3) (fun v hv => wp_s ⟨?_, XF_Fr (Fr_FX hx1.1 hv.2)⟩)
    rw [hv.1, hx1.2.1.1, hx1.2.1.2.1, hx1.2.1.2.2, e0, e1, e2]
  · refine wp_bw (M_says sm.1 hp3 a1 a2 a3) (fun v hv => wp_s ⟨hv.1, MF_Fr (FrM_FM (FrM_rfl y) hv.2)⟩)
/-! cracks -/
theorem HM_base {y0 y : MS} {h : HS} {g : Int32} (hy : HM y0 h y) : HM (pi y0 61 47 g) h (pi y 61 47 g) := by
  obtain ⟨⟨f1, f2, f3⟩, h2, h3, h4, h5, h6, h7⟩ := hy
  refine ⟨⟨fun q a b => ?_, fun j a b => ?_, f3⟩, fun s hs => ?_, fun s hs => ?_, fun s hs => ?_, ?_, ?_, fun cc => ?_⟩
  · rw [pi1_q _ _ _ a, pi1_q _ _ _ a]; exact f1 q a b
  · by_cases e : j = 47
    · subst e; rw [gp_eq, gp_eq]
    · rw [gp_j _ _ _ e, gp_j _ _ _ e]; exact f2 j a b
  · rw [gp_q _ _ _ _ (by omega)]; exact h2 s hs
  · rw [gp_q _ _ _ _ (by omega)]; exact h3 s hs
  · rw [gp_q _ _ _ _ (by omega)]; exact h4 s hs
  · rw [gp_j _ _ _ (by omega)]; exact h5
  · rw [gp_j _ _ _ (by omega)]; exact h6
  · rw [gp_j _ _ _ (by omega)] at cc; exact h7 cc
theorem HM_unbase {y0 y : MS} {h : HS} {g : Int32} (h47 : gi y0 61 47 = 0) (hy : HM (pi y0 61 47 g) h y) : HM y0 h (pi y 61 47 0) := by
  have h1 := HM_base (g := 0) hy
  obtain ⟨⟨f1, f2, f3⟩, h2, h3, h4, h5, h6, h7⟩ := h1
  refine ⟨⟨fun q a b => ?_, fun j a b => ?_, f3⟩, h2, h3, h4, h5, h6, fun cc => ?_⟩
  · rw [f1 q a b, pi1_q _ _ _ a, pi1_q _ _ _ a]
  · rw [f2 j a b]
    by_cases e : j = 47
    · subst e; rw [gp_eq, h47]
    · rw [gp_j _ _ _ e, gp_j _ _ _ e]
  · refine h7 ?_
    rw [gp_j _ _ _ (by omega), gp_j _ _ _ (by omega)]; exact cc
theorem SM_base {y0 : MS} {m : Nat → Int32} {sp : Nat → Nat} {cv : CV} {g : Int32} (sm : SM y0 m sp cv) : SM (pi y0 61 47 g) m sp cv := by
  obtain ⟨⟨hT, r, h1, h2, h3, h4⟩, a, b⟩ := sm
  refine ⟨⟨hT, r, h1, ?_, fun p hp => ?_, fun j hj => ?_⟩, fun w s hw hs => ?_, b⟩
  · rw [gp_j _ _ _ (by omega)]; exact h2
  · rw [gp_q _ _ _ _ (by omega)]; exact h3 p hp
  · rw [gp_q _ _ _ _ (by omega)]; exact h4 j hj
  · rw [gp_q _ _ _ _ (by omega)]; exact a w s hw hs
theorem qM_base (y0 : MS) (m : Nat → Int32) (sp : Nat → Nat) (g : Int32) : qM (pi y0 61 47 g) m sp = qM y0 m sp := by
  show Qf m sp (gi (pi y0 61 47 g) 61 1) (gi (pi y0 61 47 g) 61 2) (gi (pi y0 61 47 g) 61 3) = _
  rw [gp_j _ _ _ (by omega), gp_j _ _ _ (by omega), gp_j _ _ _ (by omega)]
theorem M_cracks19 {y0 : MS} {m : Nat → Int32} {sp : Nat → Nat} {cv : CV} {g32 : Int32} {g : Int} {i : Nat} {b0 : Int32} (sm : SM y0 m sp cv) (h47 : gi y0 61 47 = 0) (hg : g32.toInt = g) (hg5 : -5 ≤ g ∧ g ≤ 5) (hi : i ≤ 12) : ∀ (k j n : Nat) (y : MS) (h : HS), j + k = i → k < n → HM (pi y0 61 47 g32) h y → wp (f_X11_cracks_19 n y (n32 i) b0 (n32 j)) (fun v => v.1 = hB (sInches (qM y0 m sp) cv g k h) &&& (b0 ^^^ (-1)) ∧ HM y0 (sInches (qM y0 m sp) cv g k h) v.2) := by
  have out : ∀ y h, HM (pi y0 61 47 g32) h y → wp (f_X11_cracks_44 y b0) (fun v => v.1 = hB h &&& (b0 ^^^ (-1)) ∧ HM y0 h v.2) := by
    intro y h hy
    have hy2 := HM_unbase h47 hy
    unfold f_X11_cracks_44
    exact wp_s ⟨by rw [hy2.2.2.2.2.1], hy2⟩
  intro k
  induction k with
  | zero =>
    intro j n y h hj hn hy
    obtain ⟨n, rfl⟩ : ∃ w, n = w + 1 := ⟨n - 1, by omega⟩
    rw [f_X11_cracks_19]
    exact wp_t (n_le (by omega) (by omega)) (out y h hy)
  | succ k ih =>
    intro j n y h hj hn hy
    obtain ⟨n, rfl⟩ : ∃ w, n = w + 1 := ⟨n - 1, by omega⟩
    rw [f_X11_cracks_19, hy.2.2.2.2.2.1, sInches]
    refine wp_e (n_nle (by omega) (by omega)) (wp_i (fun c => ?_) (fun c => ?_))
    · rw [if_pos c]; exact out y h hy
    · rw [if_neg c]
      have := M_inch1 (SM_base (g := g32) sm) (g := g) (by rw [gp_eq]; exact hg) hg5 hy
      rw [qM_base] at this
      refine wp_bw this (fun y1 hy1 => ?_)
      rw [n_inc]
      exact ih (j + 1) n y1 _ (by omega) (by omega) hy1
theorem M_cracks {x : CS} {y y1 : MS} {m : Nat → Int32} {sp : Nat → Nat} {cv : CV} {N nn : Nat} {kd sec mo : Nat → Nat} {g32 : Int32} {g : Int} {i : Nat} (c : CTX x y m sp cv N kd sec mo) (hnn : nn ≤ N) (hf : FrM y y1) (hg : g32.toInt = g) (hg5 : -5 ≤ g ∧ g ≤ 5) (hi : i ≤ 12) : wp (f_X11_cracks y1 (n32 nn) (n32 i) g32) (fun v => v.1 = hB (sInches (qM y m sp) cv g i (hul m sp (gi y 61 1) (gi y 61 2) (gi y 61 3) cv kd sec mo nn)) &&& (hB (hul m sp (gi y 61 1) (gi y 61 2) (gi y 61 3) cv kd sec mo nn) ^^^ (-1)) ∧ FrM y v.2) := by
  unfold f_X11_cracks
  refine wp_bw (CTX_M c hnn hf) (fun y2 hy2 => ?_)
  rw [hy2.2.2.2.2.1]
  refine wp_m (M_cracks19 c.2.1 c.2.2.2.2.2.2.1 hg hg5 hi i 0 1000 _ _ (by omega) (by omega) (HM_base hy2)) (fun v hv => ⟨hv.1, hv.2.1⟩)
theorem s_crack : ∀ (x : CS) (y : MS) (a0 a1 : Int32), PP x y → ∃ (r : Int32) (x1 : CS) (y1 : MS), f_X10_crack x a0 a1 = some (r, x1) ∧ f_X11_crack y a0 a1 = some (r, y1) ∧ PP x1 y1 := by
  intro x y a0 a1 hP
  obtain ⟨m, sp, cv, N, kd, sec, mo, c⟩ := PP_ctx hP
  unfold f_X10_crack f_X11_crack
  rcases soMany c a0 with ⟨h1, h2⟩ | ⟨h1, h2, nn, hnn, rfl⟩
  · rw [h1, h2]
    exact sim2 hP (-5) (wp_s ⟨rfl, XF_rfl x⟩) (wp_s ⟨rfl, MF_rfl y⟩)
  rw [h1, h2, in_wi]
  rcases wi_cases a1 0 12 (by decide) with hs | ⟨hs, i, _, hi, rfl⟩
  · rw [hs]
    exact sim2 hP (-7) (wp_e bt (wp_t rfl (wp_s ⟨rfl, XF_rfl x⟩))) (wp_e bt (wp_t rfl (wp_s ⟨rfl, MF_rfl y⟩)))
  rw [hs]
  have hi12 : i ≤ 12 := by rw [z_12] at hi; omega
  refine sim2 hP (hB (sInches (qM y m sp) cv 0 i (hul m sp (gi y 61 1) (gi y 61 2) (gi y 61 3) cv kd sec mo nn)) &&& (hB (hul m sp (gi y 61 1) (gi y 61 2) (gi y 61 3) cv kd sec mo nn) ^^^ (-1))) (wp_e bt (wp_e bt ?_)) (wp_e bt (wp_e bt ?_))
  · refine wp_bw (CTX_X c hnn) (fun x1 hx1 => ?_)
    unfold f_X2_spreadBy
    refine wp_bw (X_spread c.1 (mo := i) (by omega) i 0 1000 x1 _ _ (by omega) (by omega) hx1) (fun x2 hx2 => wp_s ⟨?_, HX_XF hx2⟩)
    rw [hx2.2.2.2.2.2.1, hx1.2.2.2.2.2.1]
  · refine wp_bw (M_cracks c hnn (FrM_rfl y) (g32 := 0) (g := 0) rfl (by omega) hi12) (fun v hv => wp_s ⟨hv.1, MF_Fr hv.2⟩)
