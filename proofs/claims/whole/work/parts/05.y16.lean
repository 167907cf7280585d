/-! ===== pure: even, hours, left ===== -/
theorem SM_FM {y y' : MS} {m : Nat → Int32} {sp : Nat → Nat} {cv : CV} (sm : SM y m sp cv) (hf : FM y y') : SM y' m sp cv ∧ qM y' m sp = qM y m sp := by
  obtain ⟨⟨hT, r, k1, k2, k3, k4⟩, a, b⟩ := sm
  have g : ∀ q j, q ≠ 82 → q ≠ 83 → gi y' q j = gi y q j := fun q j a b => gi_of (hf.1 q a b) j
  refine ⟨⟨⟨hT, r, k1, ?_, fun p hp => ?_, fun j hj => ?_⟩, fun w s hw hs => ?_, b⟩, ?_⟩
  · rw [g 61 21 (by omega) (by omega)]; exact k2
  · rw [g 73 _ (by omega) (by omega)]; exact k3 p hp
  · rw [g 72 _ (by omega) (by omega)]; exact k4 j hj
  · rw [g 62 _ (by omega) (by omega)]; exact a w s hw hs
  · show Qf m sp (gi y' 61 1) (gi y' 61 2) (gi y' 61 3) = _
    rw [g 61 1 (by omega) (by omega), g 61 2 (by omega) (by omega), g 61 3 (by omega) (by omega)]
theorem FM_rfl (y : MS) : FM y y := ⟨fun _ _ _ => rfl, rfl⟩
theorem FM_tr {a b c : MS} (h1 : FM a b) (h2 : FM b c) : FM a c := ⟨fun q x y => (h2.1 q x y).trans (h1.1 q x y), h2.2.trans h1.2⟩
theorem MF_FM {y y' : MS} (h : FM y y') : MF y y' := MF_Fr (FrM_FM (FrM_rfl y) h)
theorem M_knot0 {y : MS} {m : Nat → Int32} {sp : Nat → Nat} {cv : CV} {s : Nat} (sm : SM y m sp cv) (hs : s < 9) : f_X11_knotOf y (n32 s) = some (cv 4 s) := M_knot sm (FrM_rfl y) hs
theorem M_62 {y : MS} {m : Nat → Int32} {sp : Nat → Nat} {cv : CV} {s : Nat} (sm : SM y m sp cv) (hs : s < 9) : gi y 62 s = cv 0 s := by
  have := sm.2.1 0 s (by omega) hs
  simp only [Nat.mul_zero, Nat.zero_add] at this
  exact this
def ab32 (z : Int32) : Int32 := if 0 ≤ z then z else -z
def evS (w : Nat → Int32) : Nat → Nat → Nat → Nat
  | 0, _, b => b
  | k + 1, t, b => if w b ≤ w t then evS w k (t + 1) b else evS w k (t + 1) t
theorem s_even : ∀ (x : CS) (y : MS) (a0 a1 : Int32), PP x y → ∃ (r : Int32) (x1 : CS) (y1 : MS), f_X10_even x a0 a1 = some (r, x1) ∧ f_X11_even y a0 a1 = some (r, y1) ∧ PP x1 y1 := by
  intro x y a0 a1 hP
  obtain ⟨m, sp, cv, N, kd, sec, mo, c⟩ := PP_ctx hP
  unfold f_X10_even f_X11_even
  rw [sec_wi, secM_wi, in_wi]
  rcases wi_cases a0 0 8 (by decide) with hs | ⟨hs, s, _, hs2, rfl⟩
  · rw [hs]
    exact sim2 hP (-5) (wp_t rfl (wp_s ⟨rfl, XF_rfl x⟩)) (wp_t rfl (wp_s ⟨rfl, MF_rfl y⟩))
  rw [hs]
  have hs9 : s < 9 := by rw [z_8] at hs2; omega
  cases hw : f_X10_within a1 0 999
  · exact sim2 hP (-7) (wp_e bt (wp_t rfl (wp_s ⟨rfl, XF_rfl x⟩))) (wp_e bt (wp_t rfl (wp_s ⟨rfl, MF_rfl y⟩)))
  have hw := wi_t.mp hw
  rw [z_0, z_999] at hw
  obtain ⟨sx, sm, wk, wm, ⟨e0, e1, e2⟩, _⟩ := c
  generalize hq : (fun t => ab32 (qM y m sp 1 (n32 t) (cv 0 s) (cv 4 s) - a1)) = aw
  have haw : ∀ t, ab32 (qM y m sp 1 (n32 t) (cv 0 s) (cv 4 s) - a1) = aw t := fun t => congrFun hq t
  have hawb : ∀ t, (aw t).toInt ≤ 999 := by
    intro t
    rw [← haw]
    have hb : 0 ≤ (qM y m sp 1 (n32 t) (cv 0 s) (cv 4 s)).toInt ∧ (qM y m sp 1 (n32 t) (cv 0 s) (cv 4 s)).toInt ≤ 999 := Qf_b m sp (gi y 61 1) (gi y 61 2) (gi y 61 3) 1 (n32 t) (cv 0 s) (cv 4 s)
    have hd : (qM y m sp 1 (n32 t) (cv 0 s) (cv 4 s) - a1).toInt = (qM y m sp 1 (n32 t) (cv 0 s) (cv 4 s)).toInt - a1.toInt := i32_sub (by omega) (by omega)
    unfold ab32
    split
    · rw [hd]; omega
    · rw [i32_neg (by rw [hd]; omega), hd]; omega
  refine sim2 hP (n32 (evS aw 19 2 1)) (wp_e bt (wp_e bt ?_)) (wp_e bt (wp_e bt ?_))
  · refine wp_bw (X_begin sx) (fun x1 hx1 => ?_)
    rw [e0, e1, e2] at hx1
    have step : ∀ (n t : Nat) (x1 : CS) (bst nr : Int32) (Q : Int32 × CS → Prop), t ≤ 20 → HX x (gi y 61 1, gi y 61 2, gi y 61 3) (cv 0, cv 1, cv 2, 0, 0, 0) (-1, 0, -1000000) x1 → (∀ x2, HX x (gi y 61 1, gi y 61 2, gi y 61 3) (cv 0, cv 1, cv 2, 0, 0, 0) (-1, 0, -1000000) x2 → wp (if nr ≤ aw t then f_X10_even_41 n x2 (n32 s) a1 bst nr (n32 (t + 1)) else f_X10_even_41 n x2 (n32 s) a1 (n32 t) (aw t) (n32 (t + 1))) Q) → wp (f_X10_even_41 (n + 1) x1 (n32 s) a1 bst nr (n32 t)) Q := by
      intro n t x1 bst nr Q ht hx hk
      rw [f_X10_even_41]
      refine wp_e (n_nlt (i := 20) (by omega) (by omega)) (wp_be (X_of1 x1 (w := 0) (by omega) hs9) (wp_be (X_of1 x1 (w := 4) (by omega) hs9) ?_))
      have hg : ∀ w, w < 6 → gi x1 (3 + w) s = cv w s := fun w hw => by rw [gi_of (hx.1.1 (3 + w) (by omega) (by omega))]; exact sx.2.1 w s hw hs9
      rw [hg 0 (by omega), hg 4 (by omega)]
      refine wp_bw (X_asked (LX_Fr sx.1 hx.1) (p := 1) (by omega) _ _ _) (fun v hv => ?_)
      obtain ⟨v, x2⟩ := v
      obtain ⟨ev, hf⟩ := hv
      have ev : v = _ := ev
      rw [hx.2.1.1, hx.2.1.2.1, hx.2.1.2.2] at ev
      have ea : (if 0 ≤ v - a1 then v - a1 else 0 - (v - a1)) = aw t := by rw [← haw, ev, Int32.zero_sub]; rfl
      unfold f_X10_even_101
      dsimp only
      rw [ea, n_inc]
      exact hk x2 (HX_FX hx hf)
    have key : ∀ (k t n b : Nat) (x1 : CS), t + k = 21 → k < n → HX x (gi y 61 1, gi y 61 2, gi y 61 3) (cv 0, cv 1, cv 2, 0, 0, 0) (-1, 0, -1000000) x1 → wp (f_X10_even_41 n x1 (n32 s) a1 (n32 b) (aw b) (n32 t)) (fun v => v.1 = n32 (evS aw k t b) ∧ XF x v.2) := by
      intro k
      induction k with
      | zero =>
        intro t n b x1 ht hn hx
        obtain ⟨n, rfl⟩ : ∃ w, n = w + 1 := ⟨n - 1, by omega⟩
        rw [f_X10_even_41]
        exact wp_t (n_lt (i := 20) (by omega) (by omega)) (wp_s ⟨rfl, HX_XF hx⟩)
      | succ k ih =>
        intro t n b x1 ht hn hx
        obtain ⟨n, rfl⟩ : ∃ w, n = w + 1 := ⟨n - 1, by omega⟩
        refine step n t x1 _ _ _ (by omega) hx (fun x2 hx2 => ?_)
        rw [evS]
        refine wp_i (fun c1 => ?_) (fun c1 => ?_)
        · rw [if_pos c1]; exact ih (t + 1) n b x2 (by omega) (by omega) hx2
        · rw [if_neg c1]; exact ih (t + 1) n t x2 (by omega) (by omega) hx2
    refine step 999 1 x1 1 1000 _ (by omega) hx1 (fun x2 hx2 => ?_)
    refine wp_e (fun q => by rw [i32_le, z_1000] at q; have := hawb 1; omega) ?_
    exact key 19 2 999 1 x2 (by omega) (by omega) hx2
  · have key : ∀ (k t n b : Nat) (y1 : MS), t + k = 21 → k < n → FM y y1 → wp (f_X11_even_29 n y1 (n32 s) a1 (n32 b) (n32 t)) (fun v => v.1 = n32 (evS aw k t b) ∧ MF y v.2) := by
      intro k
      induction k with
      | zero =>
        intro t n b y1 ht hn hf
        obtain ⟨n, rfl⟩ : ∃ w, n = w + 1 := ⟨n - 1, by omega⟩
        rw [f_X11_even_29]
        exact wp_t (n_lt (i := 20) (by omega) (by omega)) (wp_s ⟨rfl, MF_FM hf⟩)
      | succ k ih =>
        intro t n b y1 ht hn hf
        obtain ⟨n, rfl⟩ : ∃ w, n = w + 1 := ⟨n - 1, by omega⟩
        obtain ⟨sm1, q1⟩ := SM_FM sm hf
        rw [f_X11_even_29]
        refine wp_e (n_nlt (i := 20) (by omega) (by omega)) (wp_g (ib_n (by omega) (by omega)) (wp_be (M_knot0 sm1 hs9) ?_))
        rw [n32_nat (by omega), M_62 sm1 hs9]
        refine wp_bw (M_says sm1.1 (p := 1) (by omega) _ _ _) (fun v hv => ?_)
        obtain ⟨v, y2⟩ := v
        obtain ⟨ev, hf2⟩ := hv
        have ev : v = qM y1 m sp 1 (n32 t) (cv 0 s) (cv 4 s) := ev
        rw [q1] at ev
        obtain ⟨sm2, q2⟩ := SM_FM sm1 hf2
        refine wp_g (ib_n (by omega) (by omega)) (wp_be (M_knot0 sm2 hs9) ?_)
        dsimp only
        rw [M_62 sm2 hs9]
        refine wp_bw (M_says sm2.1 (p := 1) (by omega) _ _ _) (fun u hu => ?_)
        obtain ⟨u, y3⟩ := u
        obtain ⟨eu, hf3⟩ := hu
        have eu : u = qM y2 m sp 1 (n32 b) (cv 0 s) (cv 4 s) := eu
        rw [q2, q1] at eu
        have e1 : f_X11_size (u - a1) = aw b := by rw [← haw, eu]; rfl
        have e2 : f_X11_size (v - a1) = aw t := by rw [← haw, ev]; rfl
        unfold f_X11_even_94
        dsimp only
        rw [e1, e2, n_inc, evS]
        refine wp_i (fun c1 => ?_) (fun c1 => ?_)
        · rw [if_pos c1]; exact ih (t + 1) n b y3 (by omega) (by omega) (FM_tr (FM_tr hf hf2) hf3)
        · rw [if_neg c1]; exact ih (t + 1) n t y3 (by omega) (by omega) (FM_tr (FM_tr hf hf2) hf3)
    exact key 19 2 1000 1 y (by omega) (by omega) (FM_rfl y)
/-- how thick behind so many hours -/
def bh (q : QF) (cv : CV) (s : Nat) : Nat → Int32
  | 0 => cv 1 s
  | k + 1 => if 0 ≤ bh q cv s k - q 0 (bh q cv s k) (cv 0 s) (cv 4 s) then bh q cv s k - q 0 (bh q cv s k) (cv 0 s) (cv 4 s) else 0
theorem bh_b {q : QF} (hq : QB q) {cv : CV} {s : Nat} (h0 : 0 ≤ (cv 1 s).toInt) : ∀ k, 0 ≤ (bh q cv s k).toInt := by
  intro k
  cases k with
  | zero => exact h0
  | succ k =>
    rw [bh]
    split
    · rename_i c; rw [i32_le, z_0] at c; exact c
    · rw [z_0]; omega
theorem sFire_bh {q : QF} {cv : CV} {s k : Nat} {h : HS} (hW0 : hW h s = cv 0 s) (hT0 : hT h s = bh q cv s k) : hW (sFire q cv false s h) s = cv 0 s ∧ hT (sFire q cv false s h) s = bh q cv s (k + 1) ∧ hL (sFire q cv false s h) = hL h := by
  have e1 : sDeep false (q 0 (hT h s) (hW h s) (cv 4 s)) (hL h) = q 0 (hT h s) (hW h s) (cv 4 s) := rfl
  have e2 : sLot false (hL h) = hL h := rfl
  unfold sFire sHit
  rw [e1, e2, hT0, hW0, bh]
  by_cases c : 0 < bh q cv s k - q 0 (bh q cv s k) (cv 0 s) (cv 4 s)
  · rw [if_pos c, if_pos (show (0 : Int32) ≤ _ from by rw [i32_lt] at c; rw [i32_le]; omega)]
    exact ⟨hW0, upd_e _ _ _, rfl⟩
  · rw [if_neg c]
    refine ⟨hW0, ?_, rfl⟩
    have e3 : hT (hW h, upd (hT h) s 0, hH h, hB h ||| bit s, hS h, hL h) s = 0 := upd_e _ _ _
    rw [e3]
    split
    · rename_i c2; rw [i32_lt] at c; rw [i32_le] at c2; exact i32_eq.mpr (by rw [z_0] at *; omega)
    · rfl
theorem M_behind {y : MS} {m : Nat → Int32} {sp : Nat → Nat} {cv : CV} {s hr : Nat} (sm : SM y m sp cv) (hs : s < 9) (hhr : hr ≤ 100) : wp (f_X11_behind y (n32 s) (n32 hr)) (fun v => v.1 = bh (qM y m sp) cv s hr ∧ FM y v.2) := by
  have key : ∀ (k j n : Nat) (y1 : MS), j + k = hr → k < n → FM y y1 → wp (f_X11_behind_13 n y1 (n32 s) (n32 hr) (bh (qM y m sp) cv s j) (n32 j)) (fun v => v.1 = bh (qM y m sp) cv s hr ∧ FM y v.2) := by
    intro k
    induction k with
    | zero =>
      intro j n y1 hj hn hf
      obtain ⟨n, rfl⟩ : ∃ w, n = w + 1 := ⟨n - 1, by omega⟩
      rw [f_X11_behind_13]
      exact wp_t (n_le (by omega) (by omega)) (wp_s ⟨by rw [show j = hr from by omega], hf⟩)
    | succ k ih =>
      intro j n y1 hj hn hf
      obtain ⟨n, rfl⟩ : ∃ w, n = w + 1 := ⟨n - 1, by omega⟩
      obtain ⟨sm1, q1⟩ := SM_FM sm hf
      rw [f_X11_behind_13]
      refine wp_e (n_nle (by omega) (by omega)) (wp_g (ib_n (by omega) (by omega)) (wp_be (M_knot0 sm1 hs) ?_))
      rw [n32_nat (by omega), M_62 sm1 hs]
      refine wp_bw (M_says sm1.1 (p := 0) (by omega) _ _ _) (fun v hv => ?_)
      obtain ⟨v, y2⟩ := v
      obtain ⟨ev, hf2⟩ := hv
      have ev : v = qM y1 m sp 0 (bh (qM y m sp) cv s j) (cv 0 s) (cv 4 s) := ev
      rw [q1] at ev
      unfold f_X11_behind_48
      dsimp only
      rw [ev, n_inc]
      have := ih (j + 1) n y2 (by omega) (by omega) (FM_tr hf hf2)
      rw [bh] at this
      refine wp_i (fun c1 => ?_) (fun c1 => ?_)
      · rw [if_pos c1] at this; exact this
      · rw [if_neg c1] at this; exact this
  unfold f_X11_behind
  have e9 : (9 : Int32) + n32 s = n32 (9 + s) := n32_add 9 s
  rw [e9]
  refine wp_g (ib_n (by omega) (by omega)) ?_
  have e1 : gi y 62 (9 + s) = cv 1 s := sm.2.1 1 s (by omega) hs
  rw [n32_nat (by omega), e1]
  exact key hr 0 1000 y (by omega) (by omega) (FM_rfl y)
def hrS (f : Nat → Int32) (aim : Int32) : Nat → Nat → Int32
  | 0, _ => -1
  | k + 1, j => if aim < f j then hrS f aim k (j + 1) else n32 j
theorem s_hours : ∀ (x : CS) (y : MS) (a0 a1 : Int32), PP x y → ∃ (r : Int32) (x1 : CS) (y1 : MS), f_X10_hours x a0 a1 = some (r, x1) ∧ f_X11_hours y a0 a1 = some (r, y1) ∧ PP x1 y1 := by
  intro x y a0 a1 hP
  obtain ⟨m, sp, cv, N, kd, sec, mo, c⟩ := PP_ctx hP
  unfold f_X10_hours f_X11_hours
  rw [sec_wi, secM_wi, in_wi]
  rcases wi_cases a0 0 8 (by decide) with hs | ⟨hs, s, _, hs2, rfl⟩
  · rw [hs]
    exact sim2 hP (-5) (wp_t rfl (wp_s ⟨rfl, XF_rfl x⟩)) (wp_t rfl (wp_s ⟨rfl, MF_rfl y⟩))
  rw [hs]
  have hs9 : s < 9 := by rw [z_8] at hs2; omega
  cases hw : f_X10_within a1 0 1
  · exact sim2 hP (-7) (wp_e bt (wp_t rfl (wp_s ⟨rfl, XF_rfl x⟩))) (wp_e bt (wp_t rfl (wp_s ⟨rfl, MF_rfl y⟩)))
  obtain ⟨sx, sm, wk, wm, ⟨e0, e1, e2⟩, _⟩ := c
  refine sim2 hP (hrS (bh (qM y m sp) cv s) (if a1 = 0 then cv 5 s else 0) 25 0) (wp_e bt (wp_e bt ?_)) (wp_e bt (wp_e bt ?_))
  · have fin : ∀ aim, wp (f_X10_hours_39 x (n32 s) aim) (fun v => v.1 = hrS (bh (qM y m sp) cv s) aim 25 0 ∧ XF x v.2) := by
      intro aim
      unfold f_X10_hours_39
      refine wp_bw (X_begin sx) (fun x1 hx1 => ?_)
      rw [e0, e1, e2] at hx1
      have key : ∀ (k j n : Nat) (x1 : CS) (h : HS), j + k = 25 → k < n → HX x (gi y 61 1, gi y 61 2, gi y 61 3) h (-1, 0, -1000000) x1 → hW h s = cv 0 s → hT h s = bh (qM y m sp) cv s j → hL h = 0 → wp (f_X10_hours_50 n x1 (n32 s) aim (n32 j)) (fun v => v.1 = hrS (bh (qM y m sp) cv s) aim k j ∧ XF x v.2) := by
        intro k
        induction k with
        | zero =>
          intro j n x1 h hj hn hx _ _ _
          obtain ⟨n, rfl⟩ : ∃ w, n = w + 1 := ⟨n - 1, by omega⟩
          rw [f_X10_hours_50]
          exact wp_t (n_lt (i := 24) (by omega) (by omega)) (wp_s ⟨rfl, HX_XF hx⟩)
        | succ k ih =>
          intro j n x1 h hj hn hx hw ht hl
          obtain ⟨n, rfl⟩ : ∃ w, n = w + 1 := ⟨n - 1, by omega⟩
          rw [f_X10_hours_50, n32_nat (by omega), hx.2.2.2.1 s hs9, ht, hrS]
          refine wp_e (n_nlt (i := 24) (by omega) (by omega)) (wp_g (ib_n hs9 (by omega)) (wp_i (fun c1 => ?_) (fun c1 => ?_)))
          · rw [if_pos c1]
            refine wp_bw (X_fire (dr := false) sx hx hs9 hl) (fun x2 hx2 => ?_)
            obtain ⟨b1, b2, b3⟩ := sFire_bh (q := qM y m sp) (cv := cv) (k := j) hw ht
            rw [n_inc]
            exact ih (j + 1) n x2 _ (by omega) (by omega) hx2 b1 b2 (b3.trans hl)
          · rw [if_neg c1]; exact wp_s ⟨rfl, HX_XF hx⟩
      exact key 25 0 1000 x1 _ (by omega) (by omega) hx1 rfl rfl rfl
    by_cases ca : a1 = 0
    · rw [if_pos ca, if_pos ca]
      refine wp_be (X_of1 x (w := 5) (by omega) hs9) ?_
      rw [sx.2.1 5 s (by omega) hs9]
      exact fin _
    · rw [if_neg ca, if_neg ca]; exact fin _
  · have key : ∀ (k j n : Nat) (y1 : MS), j + k = 25 → k < n → FM y y1 → wp (f_X11_hours_24 n y1 (n32 s) a1 (n32 j)) (fun v => v.1 = hrS (bh (qM y m sp) cv s) (if a1 = 0 then cv 5 s else 0) k j ∧ MF y v.2) := by
      intro k
      induction k with
      | zero =>
        intro j n y1 hj hn hf
        obtain ⟨n, rfl⟩ : ∃ w, n = w + 1 := ⟨n - 1, by omega⟩
        rw [f_X11_hours_24]
        exact wp_t (n_lt (i := 24) (by omega) (by omega)) (wp_s ⟨rfl, MF_FM hf⟩)
      | succ k ih =>
        intro j n y1 hj hn hf
        obtain ⟨n, rfl⟩ : ∃ w, n = w + 1 := ⟨n - 1, by omega⟩
        obtain ⟨sm1, q1⟩ := SM_FM sm hf
        rw [f_X11_hours_24]
        refine wp_e (n_nlt (i := 24) (by omega) (by omega)) (wp_bw (M_behind sm1 hs9 (hr := j) (by omega)) (fun v hv => ?_))
        obtain ⟨v, y2⟩ := v
        obtain ⟨ev, hf2⟩ := hv
        have ev : v = _ := ev
        rw [q1] at ev
        obtain ⟨sm2, q2⟩ := SM_FM sm1 hf2
        have fin : ∀ aim, aim = (if a1 = 0 then cv 5 s else 0) → wp (f_X11_hours_53 (f_X11_hours_24 n) y2 (n32 s) a1 (n32 j) aim v) (fun v => v.1 = hrS (bh (qM y m sp) cv s) (if a1 = 0 then cv 5 s else 0) (k + 1) j ∧ MF y v.2) := by
          intro aim ha
          unfold f_X11_hours_53
          rw [hrS, ← ha, ev, n_inc]
          refine wp_i (fun c1 => ?_) (fun c1 => ?_)
          · rw [if_pos c1, ha]; exact ih (j + 1) n y2 (by omega) (by omega) (FM_tr hf hf2)
          · rw [if_neg c1]; exact wp_s ⟨rfl, MF_FM (FM_tr hf hf2)⟩
        by_cases ca : a1 = 0
        · refine wp_t ca ?_
          have e45 : (45 : Int32) + n32 s = n32 (45 + s) := n32_add 45 s
          have e5 : gi y2 62 (45 + s) = cv 5 s := sm2.2.1 5 s (by omega) hs9
          rw [e45]
          refine wp_g (ib_n (by omega) (by omega)) ?_
          rw [n32_nat (by omega)]
          dsimp only
          rw [e5]
          exact fin _ (by rw [if_pos ca])
        · exact wp_e ca (fin 0 (by rw [if_neg ca]))
    exact key 25 0 1000 y (by omega) (by omega) (FM_rfl y)
def FB (y y' : MS) : Prop := (∀ q, q ≠ 61 → q ≠ 82 → q ≠ 83 → y'.1 q = y.1 q) ∧ (∀ j, j ≠ 2 → gi y' 61 j = gi y 61 j) ∧ y'.2 = y.2
theorem FB_rfl (y : MS) : FB y y := ⟨fun _ _ _ _ => rfl, fun _ _ => rfl, rfl⟩
theorem FB_pi {y y1 : MS} {v : Int32} (h : FB y y1) : FB y (pi y1 61 2 v) := ⟨fun q a b c => by rw [pi1_q _ _ _ a]; exact h.1 q a b c, fun j hj => by rw [gp_j _ _ _ hj]; exact h.2.1 j hj, h.2.2⟩
theorem FB_FM {y y1 y2 : MS} (h : FB y y1) (h2 : FM y1 y2) : FB y y2 := ⟨fun q a b c => by rw [h2.1 q b c]; exact h.1 q a b c, fun j hj => by rw [gi_of (h2.1 61 (by omega) (by omega))]; exact h.2.1 j hj, by rw [h2.2]; exact h.2.2⟩
theorem SM_FB {y y1 : MS} {m : Nat → Int32} {sp : Nat → Nat} {cv : CV} (sm : SM y m sp cv) (hf : FB y y1) : SM y1 m sp cv ∧ qM y1 m sp = Qf m sp (gi y 61 1) (gi y1 61 2) (gi y 61 3) := by
  obtain ⟨⟨hT, r, k1, k2, k3, k4⟩, a, b⟩ := sm
  refine ⟨⟨⟨hT, r, k1, ?_, fun p hp => ?_, fun j hj => ?_⟩, fun w s hw hs => ?_, b⟩, ?_⟩
  · rw [hf.2.1 21 (by omega)]; exact k2
  · rw [gi_of (hf.1 73 (by omega) (by omega) (by omega))]; exact k3 p hp
  · rw [gi_of (hf.1 72 (by omega) (by omega) (by omega))]; exact k4 j hj
  · rw [gi_of (hf.1 62 (by omega) (by omega) (by omega))]; exact a w s hw hs
  · show Qf m sp (gi y1 61 1) (gi y1 61 2) (gi y1 61 3) = _
    rw [hf.2.1 1 (by omega), hf.2.1 3 (by omega)]
theorem MF_FB {y y1 : MS} (h : FB y y1) (h2 : gi y1 61 2 = gi y 61 2) : MF y y1 := ⟨fun q a b => h.1 q a (by omega) (by omega), fun j hj => by
  by_cases c : j = 2
  · rw [c]; exact h2
  · exact h.2.1 j c, h.2.1 47 (by omega), h.2.1 48 (by omega)⟩
theorem sBurn_bh {q : QF} (hq : QB q) {cv : CV} {s : Nat} (h0 : 0 ≤ (cv 1 s).toInt) : ∀ (n k : Nat) (h : HS), hW h s = cv 0 s → hT h s = bh q cv s k → hT (sBurn q cv false s 0 n h) s = bh q cv s (k + n) := by
  intro n
  induction n with
  | zero => intro k h _ ht; exact ht
  | succ n ih =>
    intro k h hw ht
    rw [sBurn]
    by_cases c : hT h s ≤ 0
    · rw [if_pos c]
      have z : ∀ j, bh q cv s (k + j) = 0 := by
        intro j
        induction j with
        | zero =>
          have := bh_b hq h0 k
          rw [ht, i32_le, z_0] at c
          exact i32_eq.mpr (by rw [z_0]; show (bh q cv s k).toInt = 0; omega)
        | succ j ihj =>
          rw [show k + (j + 1) = k + j + 1 from by omega, bh, ihj]
          have hb := hq 0 0 (cv 0 s) (cv 4 s)
          split
          · rename_i c2
            rw [Int32.zero_sub] at c2 ⊢
            rw [i32_le, z_0, i32_neg (by omega)] at c2
            exact i32_eq.mpr (by rw [i32_neg (by omega), z_0]; omega)
          · rfl
      have e0 := z 0
      rw [Nat.add_zero] at e0
      rw [ht, e0, z (n + 1)]
    · rw [if_neg c]
      obtain ⟨a, b, _⟩ := sFire_bh (q := q) hw ht
      rw [ih (k + 1) _ a b]
      congr 1; omega
def clN (p : Nat → Bool) : Nat → Nat → Nat → Nat
  | 0, _, a => a
  | k + 1, w, a => clN p k (w + 1) (if p w = true then a + 1 else a)
theorem clN_le (p : Nat → Bool) : ∀ (k w a : Nat), clN p k w a ≤ a + k := by
  intro k
  induction k with
  | zero => intro w a; exact Nat.le_refl _
  | succ k ih => intro w a; rw [clN]; have := ih (w + 1) (if p w = true then a + 1 else a); split at this <;> rename_i c
                 · rw [if_pos c]; omega
                 · rw [if_neg c]; omega
theorem X_begin2 {x0 x : CS} {m : Nat → Int32} {sp : Nat → Nat} {cv : CV} (sx : SX x0 m sp cv) (hf : Fr x0 x) : wp (f_X2_begin x) (HX x0 (gi x0 9 0, gi x0 9 1, gi x0 9 2) (cv 0, cv 1, cv 2, 0, 0, 0) (-1, 0, -1000000)) := by
  have sx1 : SX x m sp cv := ⟨LX_Fr sx.1 hf, fun w s hw hs => by rw [gi_of (hf.1 (3 + w) (by omega) (by omega))]; exact sx.2.1 w s hw hs, sx.2.2⟩
  refine wp_m (X_begin sx1) (fun x1 hx1 => ?_)
  have g9 : ∀ j, gi x 9 j = gi x0 9 j := gi_of (hf.1 9 (by omega) (by omega))
  rw [g9, g9, g9] at hx1
  exact ⟨Fr_tr hf hx1.1, hx1.2⟩
theorem HX_blow {x0 x : CS} {nm : EX} {h : HS} {e : EX} {v : Int32} (hx : HX x0 nm h e x) : HX x0 (nm.1, v, nm.2.2) h e (pi x 52 1 v) := by
  obtain ⟨h1, ⟨n0, n1, n2⟩, h2, h3, h4, h5, h6, h7, h8, h9, h10⟩ := hx
  refine ⟨Fr_pi h1 (by omega), ⟨?_, gp_eq _ _ _ _, ?_⟩, fun j hj => ?_, fun j hj => ?_, fun j hj => ?_, ?_, ?_, h7, ?_, ?_, ?_⟩
  all_goals first | rw [gp_q _ _ _ _ (by omega)] | rw [gp_j _ _ _ (by omega)]
  all_goals first | assumption | exact h2 j hj | exact h3 j hj | exact h4 j hj
theorem s_left : ∀ (x : CS) (y : MS) (a0 a1 a2 : Int32), PP x y → ∃ (r : Int64) (x1 : CS) (y1 : MS), f_X10_left x a0 a1 a2 = some (r, x1) ∧ f_X11_left y a0 a1 a2 = some (r, y1) ∧ PP x1 y1 := by
  intro x y a0 a1 a2 hP
  obtain ⟨m, sp, cv, N, kd, sec, mo, c⟩ := PP_ctx hP
  have hg := hP.1.1
  unfold f_X10_left f_X11_left f_X10_left_17 f_X11_left_26
  rw [sec_wi, secM_wi, in_wi, in_wi]
  rcases wi_cases a0 0 8 (by decide) with hs | ⟨hs, s, _, hs2, rfl⟩
  · rw [hs]
    exact sim2 hP (-4611686018427387904) (wp_t rfl (wp_s ⟨rfl, XF_rfl x⟩)) (wp_t rfl (wp_s ⟨rfl, MF_rfl y⟩))
  rw [hs]
  have hs9 : s < 9 := by rw [z_8] at hs2; omega
  rcases wi_cases a1 0 24 (by decide) with hh | ⟨hh, hr, _, hr2, rfl⟩
  · rw [hh]
    exact sim2 hP (-4611686018427387904) (wp_e bt (wp_t rfl (wp_s ⟨rfl, XF_rfl x⟩))) (wp_e bt (wp_t rfl (wp_s ⟨rfl, MF_rfl y⟩)))
  rw [hh]
  have hr24 : hr ≤ 24 := by rw [z_24] at hr2; omega
  obtain ⟨sx, sm, wk, wm, ⟨e0, e1, e2⟩, hcb, _⟩ := c
  have hT0 : 0 ≤ (cv 1 s).toInt := by have := hcb 1 s (by omega) hs9; have e : clo 1 = 1 := rfl; omega
  generalize hp : (fun w => decide (¬ bh (Qf m sp (gi y 61 1) (n32 w) (gi y 61 3)) cv s hr < cv 5 s)) = p
  have hpw : ∀ w, decide (¬ bh (Qf m sp (gi y 61 1) (n32 w) (gi y 61 3)) cv s hr < cv 5 s) = p w := fun w => congrFun hp w
  have hK := clN_le p 10 0 0
  have keyX : ∀ (k w n a : Nat) (x1 : CS) (Q : Int64 × CS → Prop), w + k = 10 → k < n → Fr x x1 → (∀ x2, Fr x x2 → wp (gd (decide (27 ≤ gn x2)) ((f_X0_init (pal x2 d3) (61 + gn x2) (n32 (clN p k w a)).toInt64 10).bind fun r3 => (f_X0_part r3 (61 + gn x2) a2).bind fun r5 => some (r5, r3))) Q) → wp (f_X10_left_27 n x1 (n32 s) (n32 hr) a2 (n32 a) (n32 w)) Q := by
    intro k
    induction k with
    | zero =>
      intro w n a x1 Q hw hn hf hk
      obtain ⟨n, rfl⟩ : ∃ w, n = w + 1 := ⟨n - 1, by omega⟩
      rw [f_X10_left_27]
      exact wp_t (n_lt (i := 9) (by omega) (by omega)) (hk x1 hf)
    | succ k ih =>
      intro w n a x1 Q hw hn hf hk
      obtain ⟨n, rfl⟩ : ∃ w, n = w + 1 := ⟨n - 1, by omega⟩
      rw [f_X10_left_27]
      refine wp_e (n_nlt (i := 9) (by omega) (by omega)) (wp_bw (X_begin2 sx hf) (fun x2 hx2 => ?_))
      rw [e0, e1, e2] at hx2
      unfold f_X2_blow f_X2_burn
      rw [c_1]
      have hx3 := HX_blow (v := n32 w) hx2
      refine wp_bw (wp_s hx3) (fun x3 hx3 => ?_)
      refine wp_bw (X_burn (dr := false) (low := 0) (mo := hr) sx hs9 (by omega) hr 0 1000 x3 _ (by omega) (by omega) hx3 rfl) (fun x4 hx4 => ?_)
      obtain ⟨hx4, _⟩ := hx4
      refine wp_g (ib_n hs9 (by omega)) (wp_be (X_of1 x4 (w := 5) (by omega) hs9) ?_)
      have hg5 : gi x4 (3 + 5) s = cv 5 s := by rw [gi_of (hx4.1.1 (3 + 5) (by omega) (by omega))]; exact sx.2.1 5 s (by omega) hs9
      have eT := sBurn_bh (Qf_QB m sp (gi y 61 1) (n32 w) (gi y 61 3)) (cv := cv) hT0 hr 0 (cv 0, cv 1, cv 2, 0, 0, 0) rfl rfl
      rw [Nat.zero_add] at eT
      unfold f_X10_left_84
      rw [hg5, n32_nat (by omega), hx4.2.2.2.1 s hs9, eT, n_inc, n_inc]
      refine wp_i (fun c1 => ?_) (fun c1 => ?_)
      · have hc : p w = false := by rw [← hpw]; exact decide_eq_false (fun q => q c1)
        refine ih (w + 1) n a x4 Q (by omega) (by omega) hx4.1 (fun x5 h5 => ?_)
        have := hk x5 h5
        rw [clN, hc] at this
        exact this
      · have hc : p w = true := by rw [← hpw]; exact decide_eq_true c1
        refine ih (w + 1) n (a + 1) x4 Q (by omega) (by omega) hx4.1 (fun x5 h5 => ?_)
        have := hk x5 h5
        rw [clN, hc] at this
        exact this
  have keyM : ∀ (k w n a : Nat) (y1 : MS) (Q : Int64 × MS → Prop), w + k = 10 → k < n → FB y y1 → (∀ y2, FB y y2 → wp ((f_X11_lowest (n32 (clN p k w a)).toInt64 10 a2).bind fun r2 => some (r2, pi y2 61 2 (gi y 61 2))) Q) → wp (f_X11_left_42 n y1 (n32 s) (n32 hr) a2 (gi y 61 2) (n32 a) (n32 w)) Q := by
    intro k
    induction k with
    | zero =>
      intro w n a y1 Q hw hn hf hk
      obtain ⟨n, rfl⟩ : ∃ w, n = w + 1 := ⟨n - 1, by omega⟩
      rw [f_X11_left_42]
      exact wp_t (n_lt (i := 9) (by omega) (by omega)) (hk y1 hf)
    | succ k ih =>
      intro w n a y1 Q hw hn hf hk
      obtain ⟨n, rfl⟩ : ∃ w, n = w + 1 := ⟨n - 1, by omega⟩
      rw [f_X11_left_42]
      have hf1 := FB_pi (v := n32 w) hf
      obtain ⟨sm1, q1⟩ := SM_FB sm hf1
      rw [gp_eq] at q1
      refine wp_e (n_nlt (i := 9) (by omega) (by omega)) (wp_bw (M_behind sm1 hs9 (hr := hr) (by omega)) (fun v hv => ?_))
      obtain ⟨v, y2⟩ := v
      obtain ⟨ev, hf2⟩ := hv
      have ev : v = _ := ev
      rw [q1] at ev
      obtain ⟨sm2, _⟩ := SM_FM sm1 hf2
      have e45 : (45 : Int32) + n32 s = n32 (45 + s) := n32_add 45 s
      have e5 : gi y2 62 (45 + s) = cv 5 s := sm2.2.1 5 s (by omega) hs9
      rw [e45]
      refine wp_g (ib_n (by omega) (by omega)) ?_
      unfold f_X11_left_80
      rw [n32_nat (by omega)]
      dsimp only
      rw [e5, ev, n_inc, n_inc, Int32.add_zero]
      refine wp_i (fun c1 => ?_) (fun c1 => ?_)
      · have hc : p w = false := by rw [← hpw]; exact decide_eq_false (fun q => q c1)
        refine ih (w + 1) n a y2 Q (by omega) (by omega) (FB_FM hf1 hf2) (fun y5 h5 => ?_)
        have := hk y5 h5
        rw [clN, hc] at this
        exact this
      · have hc : p w = true := by rw [← hpw]; exact decide_eq_true c1
        refine ih (w + 1) n (a + 1) y2 Q (by omega) (by omega) (FB_FM hf1 hf2) (fun y5 h5 => ?_)
        have := hk y5 h5
        rw [clN, hc] at this
        exact this
  have mfin : ∀ y2, FB y y2 → MF y (pi y2 61 2 (gi y 61 2)) := fun y2 h2 => MF_FB (FB_pi h2) (gp_eq _ _ _ _)
  have xfin : ∀ x2 z, Fr x x2 → XF x (mkF x2 z 10) := fun x2 z h2 => XF_mk (XF_Fr h2) (mkF_XE _ _ _).1 (mkF_XE _ _ _).2.1
  cases ha : f_X10_within a2 0 1
  · refine sim2 hP (-4611686018427387904) (wp_e bt (wp_e bt ?_)) (wp_e bt (wp_e bt (wp_t rfl (wp_s ⟨rfl, MF_rfl y⟩))))
    refine keyX 10 0 11 0 x _ (by omega) (by omega) (Fr_rfl x) (fun x2 h2 => ?_)
    have hg2 : 27 ≤ gn x2 := by rw [gn_Fr h2]; exact hg
    refine wp_g (decide_eq_true hg2) (wp_be (mkF_of hg2 _ _) ?_)
    have e : ∀ z, f_X0_part (mkF x2 z 10) (61 + gn x2) a2 = some (-4611686018427387904) := fun z => by
      unfold f_X0_part
      rw [ha, (mkF_fr hg2 _ _).1]; rfl
    exact wp_be (e _) (wp_s ⟨rfl, xfin x2 _ h2⟩)
  · obtain ⟨z, zq⟩ : ∃ z : CS, 27 ≤ gn z := ⟨x, hg⟩
    obtain ⟨f1, f2, f3⟩ := mkF_fr zq (n32 (clN p 10 0 0)).toInt64 10
    have e10 : (if (1 : Int64) < 10 then (10 : Int64) else 1) = 10 := by decide
    have z10 : (10 : Int64).toInt = ((10 : Nat) : Int) := rfl
    rw [e10] at f3
    obtain ⟨r, p1, p2⟩ := part_low f1 f2 f3 (n64_int (a := clN p 10 0 0) (by omega)) z10 (by omega) (by omega) (by omega) ha
    refine sim2 hP r (wp_e bt (wp_e bt ?_)) (wp_e bt (wp_e bt (wp_e bt ?_)))
    · refine keyX 10 0 11 0 x _ (by omega) (by omega) (Fr_rfl x) (fun x2 h2 => ?_)
      have hg2 : 27 ≤ gn x2 := by rw [gn_Fr h2]; exact hg
      obtain ⟨k1, k2, k3⟩ := mkF_fr hg2 (n32 (clN p 10 0 0)).toInt64 10
      rw [e10] at k3
      obtain ⟨r', s1, s2⟩ := part_low k1 k2 k3 (n64_int (a := clN p 10 0 0) (by omega)) z10 (by omega) (by omega) (by omega) ha
      have er : r' = r := Option.some.inj (s2.symm.trans p2)
      subst er
      exact wp_g (decide_eq_true hg2) (wp_be (mkF_of hg2 _ _) (wp_be s1 (wp_s ⟨rfl, xfin x2 _ h2⟩)))
    · exact keyM 10 0 1000 0 y _ (by omega) (by omega) (FB_rfl y) (fun y2 h2 => wp_be p2 (wp_s ⟨rfl, mfin y2 h2⟩))
