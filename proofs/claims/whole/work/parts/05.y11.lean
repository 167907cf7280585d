/-! ===== pure: dries, shade, drawn ===== -/
def acc (f : Nat → Int32 → Int32) : Nat → Nat → Int32 → Int32
  | 0, _, a => a
  | k + 1, s, a => acc f k (s + 1) (f s a)
def dcnd (cv : CV) (d : Int32) (h : HS) (s : Nat) : Bool := decide ((hB h &&& bit s) = 0 ∧ 0 < hT h s ∧ cv 3 s * hT h s - 20 * cv 4 s < d)
def dryA (cv : CV) (d : Int32) (h : HS) : Int32 := acc (fun s a => if dcnd cv d h s = true then a ||| bit s else a) 9 0 0
theorem X_dried {x0 x : CS} {m : Nat → Int32} {sp : Nat → Nat} {cv : CV} {nm : EX} {h : HS} {e : EX} (sx : SX x0 m sp cv) (hx : HX x0 nm h e x) (d : Int32) : f_X2_driedApart x d = some (dryA cv ((gi x0 9 2 * d) * (gi x0 9 4 + 1)) h) := by
  have hs2 : f_X8_setting x 1 2 = some (gi x0 9 2) := by
    have := X_set1 x (k := 2) (by omega)
    rw [gi_of (hx.1.1 9 (by omega) (by omega))] at this
    exact this
  have hs4 : f_X8_setting x 1 4 = some (gi x0 9 4) := by
    have := X_set1 x (k := 4) (by omega)
    rw [gi_of (hx.1.1 9 (by omega) (by omega))] at this
    exact this
  unfold f_X2_driedApart
  refine wp_eq (wp_be hs2 (wp_be hs4 ?_))
  generalize (gi x0 9 2 * d) * (gi x0 9 4 + 1) = D
  have key : ∀ (k s n : Nat) (a : Int32), s + k = 9 → k < n → f_X2_driedApart_27 x n a D (n32 s) = some (acc (fun s a => if dcnd cv D h s = true then a ||| bit s else a) k s a) := by
    intro k
    induction k with
    | zero =>
      intro s n a hi hn
      obtain ⟨n, rfl⟩ : ∃ w, n = w + 1 := ⟨n - 1, by omega⟩
      rw [f_X2_driedApart_27]
      exact if_pos (n_le (i := 9) (by omega) (by omega))
    | succ k ih =>
      intro s n a hi hn
      obtain ⟨n, rfl⟩ : ∃ w, n = w + 1 := ⟨n - 1, by omega⟩
      have hs : s < 9 := by omega
      have hg : ∀ w, w < 6 → gi x (3 + w) s = cv w s := fun w hw => by rw [gi_of (hx.1.1 (3 + w) (by omega) (by omega))]; exact sx.2.1 w s hw hs
      refine wp_eq ?_
      rw [f_X2_driedApart_27]
      refine wp_e (n_nle (i := 9) (by omega) (by omega)) ?_
      refine wp_be (X_of1 x (w := 3) (by omega) hs) (wp_g (ib_n hs (by omega)) (wp_be (X_of1 x (w := 4) (by omega) hs) ?_))
      unfold f_X2_driedApart_101
      rw [hg 3 (by omega), hg 4 (by omega), n_inc, X_bit hs, X_isBroken hx hs, n32_nat (by omega), hx.2.2.2.1 s hs, acc]
      by_cases c1 : (hB h &&& bit s) = 0
      · rw [decide_eq_false (fun q => q c1)]
        refine wp_t rfl (wp_g (ib_n hs (by omega)) (wp_i (fun c2 => ?_) (fun c2 => wp_i (fun c3 => ?_) (fun c3 => ?_))))
        · rw [if_neg (show ¬ dcnd cv D h s = true from fun q => by
            have := (of_decide_eq_true q).2.1; rw [i32_lt] at this; rw [i32_le] at c2; omega)]
          exact ⟨_, ih (s + 1) n a (by omega) (by omega), rfl⟩
        · rw [if_neg (show ¬ dcnd cv D h s = true from fun q => by
            have := (of_decide_eq_true q).2.2; rw [i32_lt] at this; rw [i32_le] at c3; omega)]
          exact ⟨_, ih (s + 1) n a (by omega) (by omega), rfl⟩
        · rw [if_pos (show dcnd cv D h s = true from decide_eq_true ⟨c1, by rw [i32_lt]; rw [i32_le] at c2; omega, by rw [i32_lt]; rw [i32_le] at c3; omega⟩)]
          exact ⟨_, ih (s + 1) n _ (by omega) (by omega), rfl⟩
      · rw [decide_eq_true c1]
        refine wp_e bt ?_
        rw [if_neg (show ¬ dcnd cv D h s = true from fun q => c1 (of_decide_eq_true q).1)]
        exact ⟨_, ih (s + 1) n a (by omega) (by omega), rfl⟩
  exact ⟨_, key 9 0 1000 0 (by omega) (by omega), rfl⟩
theorem M_dries {y0 y : MS} {m : Nat → Int32} {sp : Nat → Nat} {cv : CV} {h : HS} (sm : SM y0 m sp cv) (hy : HM y0 h y) (d : Int32) : f_X11_driesIn y d = some (dryA cv ((gi y0 61 3 * d) * (gi y0 61 5 + 1)) h) := by
  unfold f_X11_driesIn
  have key : ∀ (k s n : Nat) (a : Int32), s + k = 9 → k < n → f_X11_driesIn_4 y n d a (n32 s) = some (acc (fun s a => if dcnd cv ((gi y0 61 3 * d) * (gi y0 61 5 + 1)) h s = true then a ||| bit s else a) k s a) := by
    intro k
    induction k with
    | zero =>
      intro s n a hi hn
      obtain ⟨n, rfl⟩ : ∃ w, n = w + 1 := ⟨n - 1, by omega⟩
      rw [f_X11_driesIn_4]
      exact if_pos (n_le (i := 9) (by omega) (by omega))
    | succ k ih =>
      intro s n a hi hn
      obtain ⟨n, rfl⟩ : ∃ w, n = w + 1 := ⟨n - 1, by omega⟩
      have hs : s < 9 := by omega
      have hb := M_bitB (hB h) hs
      refine wp_eq ?_
      rw [f_X11_driesIn_4]
      refine wp_e (n_nle (i := 9) (by omega) (by omega)) ?_
      unfold f_X11_driesIn_34 f_X11_driesIn_35 f_X11_driesIn_90 f_X11_driesIn_91
      have e27 : (27 : Int32) + n32 s = n32 (27 + s) := n32_add 27 s
      rw [hy.2.2.2.2.1, n_inc, n32_nat (by omega), hy.2.2.1 s hs, e27, n32_nat (by omega), gi_of (hy.1.1 62 (by omega) (by omega)), hy.1.2.1 3 (by omega) (by omega), hy.1.2.1 5 (by omega) (by omega), acc]
      have e3 : gi y0 62 (27 + s) = cv 3 s := sm.2.1 3 s (by omega) hs
      have eo : a ||| 0 = a := by simp
      rw [e3, eo]
      have no : ∀ b : Int32, b = 0 → ¬ dcnd cv ((gi y0 61 3 * d) * (gi y0 61 5 + 1)) h s = true → wp (if b = 0 then f_X11_driesIn_4 y n d a (n32 (s + 1)) else gd (ib (n32 (27 + s)) 54) (gd (ib (n32 s) 9) ((f_X11_knotOf y (n32 s)).bind fun r4 => if gi y0 61 3 * d * (gi y0 61 5 + 1) ≤ cv 3 s * hT h s - 20 * r4 then f_X11_driesIn_4 y n d a (n32 (s + 1)) else f_X11_driesIn_4 y n d (a ||| 1 <<< (n32 s &&& 31)) (n32 (s + 1))))) (fun w => w = acc (fun s a => if dcnd cv ((gi y0 61 3 * d) * (gi y0 61 5 + 1)) h s = true then a ||| bit s else a) k (s + 1) (if dcnd cv ((gi y0 61 3 * d) * (gi y0 61 5 + 1)) h s = true then a ||| bit s else a)) := by
        intro b hb0 hc
        rw [if_neg hc]
        exact wp_t hb0 ⟨_, ih (s + 1) n a (by omega) (by omega), rfl⟩
      by_cases c1 : (hB h &&& bit s) = 0
      · refine wp_t (hb.2.mpr c1) (wp_g (ib_n hs (by omega)) (wp_i (fun c2 => ?_) (fun c2 => ?_)))
        · exact no 0 rfl (fun q => by have := (of_decide_eq_true q).2.1; rw [i32_lt] at this; rw [i32_le] at c2; omega)
        · refine wp_e (by decide) (wp_g (ib_n (by omega) (by omega)) (wp_g (ib_n hs (by omega)) (wp_be (M_knot sm hy.1 hs) (wp_i (fun c3 => ?_) (fun c3 => ?_)))))
          · rw [if_neg (show ¬ dcnd cv ((gi y0 61 3 * d) * (gi y0 61 5 + 1)) h s = true from fun q => by
              have := (of_decide_eq_true q).2.2; rw [i32_lt] at this; rw [i32_le] at c3; omega)]
            exact ⟨_, ih (s + 1) n a (by omega) (by omega), rfl⟩
          · rw [if_pos (show dcnd cv ((gi y0 61 3 * d) * (gi y0 61 5 + 1)) h s = true from decide_eq_true ⟨c1, by rw [i32_lt]; rw [i32_le] at c2; omega, by rw [i32_lt]; rw [i32_le] at c3; omega⟩)]
            exact ⟨_, ih (s + 1) n _ (by omega) (by omega), rfl⟩
      · refine wp_e (fun q => c1 (hb.2.mp q)) ?_
        exact no 0 rfl (fun q => c1 (of_decide_eq_true q).1)
  exact key 9 0 1000 0 (by omega) (by omega)
theorem PP_set {x : CS} {y : MS} (h : PP x y) {k : Nat} (hk : k < 5) : gi x 9 k = gi y 61 (1 + k) := (h.2.1.2.1 k hk).1
theorem s_dries : ∀ (x : CS) (y : MS) (a0 a1 : Int32), PP x y → ∃ (r : Int32) (x1 : CS) (y1 : MS), f_X10_dries x a0 a1 = some (r, x1) ∧ f_X11_dries y a0 a1 = some (r, y1) ∧ PP x1 y1 := by
  intro x y a0 a1 hP
  obtain ⟨m, sp, cv, N, kd, sec, mo, c⟩ := PP_ctx hP
  have e2 := PP_set hP (k := 2) (by omega)
  have e4 := PP_set hP (k := 4) (by omega)
  unfold f_X10_dries f_X11_dries
  rcases soMany c a0 with ⟨h1, h2⟩ | ⟨h1, h2, nn, hnn, rfl⟩
  · rw [h1, h2]
    exact sim2 hP (-5) (wp_s ⟨rfl, XF_rfl x⟩) (wp_s ⟨rfl, MF_rfl y⟩)
  rw [h1, h2, in_wi]
  cases hw : f_X10_within a1 0 99
  · exact sim2 hP (-7) (wp_e bt (wp_t rfl (wp_s ⟨rfl, XF_rfl x⟩))) (wp_e bt (wp_t rfl (wp_s ⟨rfl, MF_rfl y⟩)))
  refine sim2 hP (dryA cv ((gi y 61 3 * a1) * (gi y 61 5 + 1)) (hul m sp (gi y 61 1) (gi y 61 2) (gi y 61 3) cv kd sec mo nn)) (wp_e bt (wp_e bt ?_)) (wp_e bt (wp_e bt ?_))
  · refine wp_bw (CTX_X c hnn) (fun x1 hx1 => wp_be (X_dried c.1 hx1 a1) (wp_s ⟨?_, HX_XF hx1⟩))
    rw [e2, e4]
  · exact wp_bw (CTX_M c hnn (FrM_rfl y)) (fun y1 hy1 => wp_be (M_dries c.2.1 hy1 a1) (wp_s ⟨rfl, HM_MF hy1⟩))
def shd (f : Int32 → Int32) : Nat → Nat → Int32
  | 0, _ => -1
  | k + 1, d => if f (n32 d) = 0 then shd f k (d + 1) else n32 (d - 1)
theorem s_shade : ∀ (x : CS) (y : MS) (a0 : Int32), PP x y → ∃ (r : Int32) (x1 : CS) (y1 : MS), f_X10_shade x a0 = some (r, x1) ∧ f_X11_shade y a0 = some (r, y1) ∧ PP x1 y1 := by
  intro x y a0 hP
  obtain ⟨m, sp, cv, N, kd, sec, mo, c⟩ := PP_ctx hP
  have e2 := PP_set hP (k := 2) (by omega)
  have e4 := PP_set hP (k := 4) (by omega)
  unfold f_X10_shade f_X11_shade
  rcases soMany c a0 with ⟨h1, h2⟩ | ⟨h1, h2, nn, hnn, rfl⟩
  · rw [h1, h2]
    exact sim2 hP (-5) (wp_s ⟨rfl, XF_rfl x⟩) (wp_s ⟨rfl, MF_rfl y⟩)
  rw [h1, h2]
  refine sim2 hP (shd (fun d => dryA cv ((gi y 61 3 * d) * (gi y 61 5 + 1)) (hul m sp (gi y 61 1) (gi y 61 2) (gi y 61 3) cv kd sec mo nn)) 99 1) (wp_e bt ?_) (wp_e bt ?_)
  · refine wp_bw (CTX_X c hnn) (fun x1 hx1 => ?_)
    have key : ∀ (k d n : Nat), d + k = 100 → 1 ≤ d → k < n → f_X10_shade_19 n x1 (n32 d) = some (shd (fun d => dryA cv ((gi y 61 3 * d) * (gi y 61 5 + 1)) (hul m sp (gi y 61 1) (gi y 61 2) (gi y 61 3) cv kd sec mo nn)) k d, x1) := by
      intro k
      induction k with
      | zero =>
        intro d n hi h1 hn
        obtain ⟨n, rfl⟩ : ∃ w, n = w + 1 := ⟨n - 1, by omega⟩
        rw [f_X10_shade_19]
        exact if_pos (n_lt (i := 99) (by omega) (by omega))
      | succ k ih =>
        intro d n hi h1 hn
        obtain ⟨n, rfl⟩ : ∃ w, n = w + 1 := ⟨n - 1, by omega⟩
        refine wp_eq ?_
        rw [f_X10_shade_19]
        refine wp_e (n_nlt (i := 99) (by omega) (by omega)) (wp_be (X_dried c.1 hx1 (n32 d)) ?_)
        rw [e2, e4, n_inc, shd]
        refine wp_i (fun cc => ?_) (fun cc => ?_)
        · rw [if_pos cc]; exact ⟨_, ih (d + 1) n (by omega) (by omega) (by omega), rfl⟩
        · rw [if_neg cc, q_1, n32_sub h1]; exact wp_s rfl
    exact ⟨_, key 99 1 1000 (by omega) (by omega) (by omega), rfl, HX_XF hx1⟩
  · refine wp_bw (CTX_M c hnn (FrM_rfl y)) (fun y1 hy1 => ?_)
    have key : ∀ (k d n : Nat), d + k = 100 → 1 ≤ d → k < n → f_X11_shade_18 n y1 (n32 d) = some (shd (fun d => dryA cv ((gi y 61 3 * d) * (gi y 61 5 + 1)) (hul m sp (gi y 61 1) (gi y 61 2) (gi y 61 3) cv kd sec mo nn)) k d, y1) := by
      intro k
      induction k with
      | zero =>
        intro d n hi h1 hn
        obtain ⟨n, rfl⟩ : ∃ w, n = w + 1 := ⟨n - 1, by omega⟩
        rw [f_X11_shade_18]
        exact if_pos (n_lt (i := 99) (by omega) (by omega))
      | succ k ih =>
        intro d n hi h1 hn
        obtain ⟨n, rfl⟩ : ∃ w, n = w + 1 := ⟨n - 1, by omega⟩
        refine wp_eq ?_
        rw [f_X11_shade_18]
        refine wp_e (n_nlt (i := 99) (by omega) (by omega)) (wp_be (M_dries c.2.1 hy1 (n32 d)) ?_)
        rw [n_inc, shd]
        refine wp_i (fun cc => ?_) (fun cc => ?_)
        · rw [if_pos cc]; exact ⟨_, ih (d + 1) n (by omega) (by omega) (by omega), rfl⟩
        · rw [if_neg cc, q_1, n32_sub h1]; exact wp_s rfl
    exact ⟨_, key 99 1 1000 (by omega) (by omega) (by omega), rfl, HM_MF hy1⟩
theorem sd_int {sd : Nat} (h : sd ≤ 99999) : ((n32 sd).toInt64 + 1).toInt = (sd : Int) + 1 := by
  have e : (n32 sd).toInt64.toInt = (sd : Int) := by rw [Int32.toInt_toInt64, n32_int (by omega)]
  have e1 : (1 : Int64).toInt = 1 := rfl
  rw [i64_add, e, e1] <;> rw [e, e1] <;> omega
theorem s_drawn : ∀ (x : CS) (y : MS) (a0 a1 a2 a3 : Int32), PP x y → ∃ (r : Int32) (x1 : CS) (y1 : MS), f_X10_drawn x a0 a1 a2 a3 = some (r, x1) ∧ f_X11_drawn y a0 a1 a2 a3 = some (r, y1) ∧ PP x1 y1 := by
  intro x y a0 a1 a2 a3 hP
  obtain ⟨m, sp, cv, N, kd, sec, mo, c⟩ := PP_ctx hP
  unfold f_X10_drawn f_X11_drawn f_X10_drawn_39 f_X11_drawn_39
  rcases soMany c a0 with ⟨h1, h2⟩ | ⟨h1, h2, nn, hnn, rfl⟩
  · rw [h1, h2]
    exact sim2 hP (-5) (wp_s ⟨rfl, XF_rfl x⟩) (wp_s ⟨rfl, MF_rfl y⟩)
  rw [h1, h2, sec_wi, secM_wi, in_wi, in_wi]
  rcases wi_cases a1 0 8 (by decide) with hs | ⟨hs, s, _, hs2, rfl⟩
  · rw [hs]
    exact sim2 hP (-7) (wp_e bt (wp_t rfl (wp_s ⟨rfl, XF_rfl x⟩))) (wp_e bt (wp_t rfl (wp_s ⟨rfl, MF_rfl y⟩)))
  rw [hs]
  have hs9 : s < 9 := by rw [z_8] at hs2; omega
  rcases wi_cases a2 0 99999 (by decide) with hd | ⟨hd, sd, _, hd2, rfl⟩
  · rw [hd]
    exact sim2 hP (-7) (wp_e bt (wp_e bt (wp_t rfl (wp_s ⟨rfl, XF_rfl x⟩)))) (wp_e bt (wp_e bt (wp_t rfl (wp_s ⟨rfl, MF_rfl y⟩))))
  rw [hd]
  have hsd : sd ≤ 99999 := by rw [z_99999] at hd2; omega
  cases hw : f_X10_within a3 0 1
  · exact sim2 hP (-7) (wp_e bt (wp_e bt (wp_e bt (wp_t rfl (wp_s ⟨rfl, XF_rfl x⟩))))) (wp_e bt (wp_e bt (wp_e bt (wp_t rfl (wp_s ⟨rfl, MF_rfl y⟩)))))
  have hDR : DR true ((n32 sd).toInt64 + 1) := by
    show 0 < ((n32 sd).toInt64 + 1).toInt ∧ ((n32 sd).toInt64 + 1).toInt < 2147483647
    rw [sd_int hsd]; omega
  obtain ⟨sx, sm, wk, wm, ⟨e0, e1, e2⟩, _, h47, h48⟩ := c
  generalize hLL : (n32 sd).toInt64 + 1 = L at hDR ⊢
  refine sim2 hP (if a3 = 0 then hT (sHull (qM y m sp) cv true kd sec mo nn 0 (cv 0, cv 1, cv 2, 0, 0, L)) s else hB (sHull (qM y m sp) cv true kd sec mo nn 0 (cv 0, cv 1, cv 2, 0, 0, L))) (wp_e bt (wp_e bt (wp_e bt (wp_e bt ?_)))) (wp_e bt (wp_e bt (wp_e bt (wp_e bt ?_))))
  · have := X_hull (dr := true) (sd := n32 sd) sx wk hnn (by rw [hLL]; exact hDR)
    rw [e0, e1, e2, hLL] at this
    refine wp_bw this (fun x1 hx1 => ?_)
    rw [n32_nat (by omega), hx1.2.2.2.1 s hs9, hx1.2.2.2.2.2.1]
    by_cases c0 : a3 = 0
    · rw [if_pos c0, if_pos c0]; exact wp_g (ib_n hs9 (by omega)) (wp_s ⟨rfl, HX_XF hx1⟩)
    · rw [if_neg c0, if_neg c0]; exact wp_s ⟨rfl, HX_XF hx1⟩
  · have g : ∀ q j, q ≠ 61 → gi (pi (pmlot y L) 61 48 1) q j = gi y q j := fun q j hq => gp_q _ _ _ _ hq
    have g61 : ∀ j, j ≠ 48 → gi (pi (pmlot y L) 61 48 1) 61 j = gi y 61 j := fun j hj => gp_j _ _ _ hj
    have sm' : SM (pi (pmlot y L) 61 48 1) m sp cv := by
      obtain ⟨⟨hT, r, k1, k2, k3, k4⟩, a, b⟩ := sm
      refine ⟨⟨hT, r, k1, ?_, fun p hp => ?_, fun j hj => ?_⟩, fun w s hw hs => ?_, b⟩
      · rw [g61 21 (by omega)]; exact k2
      · rw [g 73 _ (by omega)]; exact k3 p hp
      · rw [g 72 _ (by omega)]; exact k4 j hj
      · rw [g 62 _ (by omega)]; exact a w s hw hs
    have wm' : WM (pi (pmlot y L) 61 48 1) N kd sec mo := by
      obtain ⟨a, b, c⟩ := wm
      refine ⟨a, by rw [g61 6 (by omega)]; exact b, fun w hw => ?_⟩
      rw [g 63 _ (by omega), g 64 _ (by omega), g 65 _ (by omega)]; exact c w hw
    have h48' : gi (pi (pmlot y L) 61 48 1) 61 48 = 1 := gp_eq _ _ _ _
    have eq' : qM (pi (pmlot y L) 61 48 1) m sp = qM y m sp := by
      show Qf m sp (gi (pi (pmlot y L) 61 48 1) 61 1) (gi (pi (pmlot y L) 61 48 1) 61 2) (gi (pi (pmlot y L) 61 48 1) 61 3) = _
      rw [g61 1 (by omega), g61 2 (by omega), g61 3 (by omega)]
    have := M_comes (dr := true) (L := L) (nn := nn) sm' (by rw [h48']; rfl) wm' (by rw [g61 47 (by omega)]; exact h47) hnn (FrM_rfl _) (fun _ => rfl)
    rw [eq'] at this
    refine wp_bw this (fun y1 hy1 => ?_)
    have mf : MF y (pi y1 61 48 0) := by
      refine ⟨fun q a b => ?_, fun j hj => ?_, ?_, ?_⟩
      · rw [pi1_q _ _ _ a, hy1.1.1 q a (by omega)]; exact pi1_q _ _ _ a
      · rw [gp_j _ _ _ (by omega), hy1.1.2.1 j (by omega) (by omega)]; exact g61 j (by omega)
      · rw [gp_j _ _ _ (by omega), hy1.1.2.1 47 (by omega) (by omega)]; exact g61 47 (by omega)
      · rw [gp_eq, h48]
    rw [n32_nat (by omega), gp_q _ _ _ _ (by omega), gp_j _ _ _ (by omega), hy1.2.2.1 s hs9, hy1.2.2.2.2.1]
    by_cases c0 : a3 = 0
    · rw [if_pos c0, if_pos c0]; exact wp_g (ib_n hs9 (by omega)) (wp_s ⟨rfl, mf⟩)
    · rw [if_neg c0, if_neg c0]; exact wp_s ⟨rfl, mf⟩
