/-! ===== pure: the check's workings, the hull whole, cracks ===== -/
theorem M_sews74 {y0 : MS} {N w : Nat} {kd sec mo : Nat → Nat} (wm : WM y0 N kd sec mo) (hw : w < N) : ∀ (k s n : Nat) (y : MS) (h : HS), s + k = 9 → k < n → HM y0 h y → wp (f_X11_sews_74 n y (n32 w) (n32 s)) (HM y0 (if kd w = 5 then sAll (sRaise (mo w)) (sec w) k s h else h)) := by
  have hN := wm.1
  intro k
  induction k with
  | zero =>
    intro s n y h hi hn hy
    obtain ⟨n, rfl⟩ : ∃ w, n = w + 1 := ⟨n - 1, by omega⟩
    rw [f_X11_sews_74]
    refine wp_t (n_le (i := 9) (by omega) (by omega)) (wp_s ?_)
    have e : (if kd w = 5 then sAll (sRaise (mo w)) (sec w) 0 s h else h) = h := by split <;> rfl
    rw [e]; exact hy
  | succ k ih =>
    intro s n y h hi hn hy
    obtain ⟨n, rfl⟩ : ∃ w, n = w + 1 := ⟨n - 1, by omega⟩
    obtain ⟨a, _, c, h5, _, h9⟩ := WM_g wm hy.1 hw
    have hs : s < 9 := by omega
    rw [f_X11_sews_74]
    refine wp_e (n_nle (i := 9) (by omega) (by omega)) (wp_g (ib_n (by omega) (by omega)) ?_)
    rw [n32_nat (by omega), a]
    by_cases hk5 : kd w = 5
    · rw [if_pos hk5]
      refine wp_t (by rw [hk5]; rfl) (wp_g (ib_n hs (by omega)) (wp_be (M_isAt wm hy.1 hw hs) ?_))
      unfold f_X11_sews_116
      rw [n32_nat (by omega), n_inc, c, hy.2.2.2.1 s hs]
      by_cases ha : sec w = 9 ∨ sec w = s
      · rw [decide_eq_true ha]
        refine wp_e bt (wp_g (ib_n (by omega) (by omega)) (wp_g (ib_n hs (by omega)) ?_))
        rw [sAll, if_pos ha]
        have := ih (s + 1) n _ _ (by omega) (by omega) (HM_H (s := s) (v := hH h s + n32 (mo w)) hy)
        rw [if_pos hk5] at this
        exact this
      · rw [decide_eq_false ha]
        refine wp_t rfl (wp_g (ib_n hs (by omega)) ?_)
        rw [sAll, if_neg ha, Int32.add_zero]
        have h2 := HM_H (s := s) (v := hH h s) hy
        rw [upd_self] at h2
        have := ih (s + 1) n _ _ (by omega) (by omega) h2
        rw [if_pos hk5] at this
        exact this
    · rw [if_neg hk5]
      exact wp_e (n_ne (j := 5) hk5 (by omega) (by omega)) (wp_s hy)
theorem M_sews9 {y0 : MS} {N w : Nat} {kd sec mo : Nat → Nat} (wm : WM y0 N kd sec mo) (hw : w < N) : ∀ (k s n l : Nat) (y : MS) (h : HS), s + k = 9 → k < n → l ≤ 9 → HM y0 h y → wp (f_X11_sews_9 n y (n32 w) (n32 l) (n32 s)) (HM y0 (if kd w = 5 then sAll (sRaise (mo w)) (sec w) 9 0 (sSew (sec w) k s (h, l)).1 else (sSew (sec w) k s (h, l)).1)) := by
  have hN := wm.1
  intro k
  induction k with
  | zero =>
    intro s n l y h hi hn hl hy
    obtain ⟨n, rfl⟩ : ∃ w, n = w + 1 := ⟨n - 1, by omega⟩
    rw [f_X11_sews_9]
    refine wp_t (n_le (i := 9) (by omega) (by omega)) ?_
    exact M_sews74 wm hw 9 0 1000 y h (by omega) (by omega) hy
  | succ k ih =>
    intro s n l y h hi hn hl hy
    obtain ⟨n, rfl⟩ : ∃ w, n = w + 1 := ⟨n - 1, by omega⟩
    have hs : s < 9 := by omega
    rw [f_X11_sews_9]
    refine wp_e (n_nle (i := 9) (by omega) (by omega)) (wp_be (M_isAt wm hy.1 hw hs) ?_)
    unfold f_X11_sews_66
    rw [n_inc, sSew]
    have skip : ∀ p, p = (h, l) → wp (f_X11_sews_9 n y (n32 w) (n32 l) (n32 (s + 1))) (HM y0 (if kd w = 5 then sAll (sRaise (mo w)) (sec w) 9 0 (sSew (sec w) k (s + 1) p).1 else (sSew (sec w) k (s + 1) p).1)) := by
      intro p hp; subst hp
      exact ih (s + 1) n l y h (by omega) (by omega) hl hy
    by_cases ha : sec w = 9 ∨ sec w = s
    · rw [decide_eq_true ha, if_pos ha]
      refine wp_e bt ?_
      rw [hy.2.2.2.2.1]
      have hb := M_bitB (hB h) hs
      refine wp_i (fun c1 => ?_) (fun c1 => ?_)
      · have c1 : l ≤ 0 := (n32_le (i := l) (j := 0) (by omega) (by omega)).mp c1
        exact skip _ (by unfold sSewS; rw [if_neg (fun q => by have := q.1; simp only at this; omega)])
      · have c1 : ¬ l ≤ 0 := fun q => c1 (n_le (j := 0) q (by omega))
        refine wp_i (fun c2 => wp_g (ib_n hs (by omega)) ?_) (fun c2 => ?_)
        · have c2 := hb.1.mp c2
          rw [n32_nat (by omega), hy.2.2.1 s hs]
          refine wp_i (fun c3 => ?_) (fun c3 => ?_)
          · exact skip _ (by unfold sSewS; rw [if_neg (fun q => by have := q.2.2; rw [i32_le] at c3; rw [i32_lt] at this; simp only at this; omega)])
          · have ed : n32 l + (-1) = n32 (l - 1) := by
              rw [← n32_sub (by omega), Int32.sub_eq_add_neg]; rfl
            rw [ed]
            have hss : sSewS s (h, l) = ((hW h, hT h, hH h, hB h &&& (bit s ^^^ (-1)), hS h, hL h), l - 1) := by
              unfold sSewS
              rw [if_pos ⟨by show 0 < l; omega, c2, by show 0 < hT h s; rw [i32_le] at c3; rw [i32_lt]; omega⟩]
            rw [hss]
            exact ih (s + 1) n (l - 1) _ _ (by omega) (by omega) (by omega) (HM_B (v := hB h &&& (bit s ^^^ (-1))) hy)
        · exact skip _ (by unfold sSewS; rw [if_neg (fun q => c2 (hb.1.mpr q.2.1))])
    · rw [decide_eq_false ha, if_neg ha]
      exact wp_t rfl (skip _ rfl)
theorem M_make66 {y0 y : MS} {N w : Nat} {kd sec mo : Nat → Nat} {h : HS} (wm : WM y0 N kd sec mo) (hw : w < N) (hy : HM y0 h y) : wp (f_X11_makes_66 y (n32 w)) (HM y0 (if kd w = 4 then (sSew (sec w) 9 0 (h, mo w)).1 else if kd w = 5 then sAll (sRaise (mo w)) (sec w) 9 0 (sSew (sec w) 9 0 (h, mo w)).1 else h)) := by
  have hN := wm.1
  obtain ⟨a, _, c, h5, _, h9⟩ := WM_g wm hy.1 hw
  unfold f_X11_makes_66
  rw [n32_nat (by omega), a]
  refine wp_g (ib_n (by omega) (by omega)) ?_
  by_cases h4 : kd w < 4
  · refine wp_t (n_lt (j := 4) h4 (by omega)) ?_
    rw [if_neg (by omega), if_neg (by omega)]
    exact wp_s hy
  · refine wp_e (n_nlt (j := 4) (by omega) (by omega)) (wp_bw ?_ (fun v hv => wp_s hv))
    unfold f_X11_sews
    rw [n32_nat (by omega), c]
    refine wp_g (ib_n (by omega) (by omega)) (wp_m (M_sews9 wm hw 9 0 1000 (mo w) y h (by omega) (by omega) h9 hy) (fun y' hy' => ?_))
    by_cases h5' : kd w = 5
    · rw [if_neg (by omega), if_pos h5']; rw [if_pos h5'] at hy'; exact hy'
    · rw [if_pos (by omega)]; rw [if_neg h5'] at hy'; exact hy'
theorem M_make27 {y0 : MS} {m : Nat → Int32} {sp : Nat → Nat} {cv : CV} {N w : Nat} {kd sec mo : Nat → Nat} (sm : SM y0 m sp cv) (wm : WM y0 N kd sec mo) (hw : w < N) (h47 : gi y0 61 47 = 0) (hk3 : kd w = 3) : ∀ (k i n : Nat) (y : MS) (h : HS), i + k = mo w → k < n → HM y0 h y → wp (f_X11_makes_27 n y (n32 w) (n32 i)) (HM y0 (sInches (qM y0 m sp) cv 0 k h)) := by
  have hN := wm.1
  have out : ∀ y h, HM y0 h y → wp (f_X11_makes_66 y (n32 w)) (HM y0 h) := fun y h hy => by
    have := M_make66 wm hw hy
    rw [if_neg (by omega), if_neg (by omega)] at this
    exact this
  intro k
  induction k with
  | zero =>
    intro i n y h hi hn hy
    obtain ⟨n, rfl⟩ : ∃ w, n = w + 1 := ⟨n - 1, by omega⟩
    obtain ⟨a, _, c, h5, _, h9⟩ := WM_g wm hy.1 hw
    rw [f_X11_makes_27, n32_nat (by omega), c]
    exact wp_g (ib_n (by omega) (by omega)) (wp_t (n_le (by omega) (by omega)) (out y h hy))
  | succ k ih =>
    intro i n y h hi hn hy
    obtain ⟨n, rfl⟩ : ∃ w, n = w + 1 := ⟨n - 1, by omega⟩
    obtain ⟨a, _, c, h5, _, h9⟩ := WM_g wm hy.1 hw
    rw [f_X11_makes_27, n32_nat (by omega), c, a]
    refine wp_g (ib_n (by omega) (by omega)) (wp_e (n_nle (by omega) (by omega)) (wp_g (ib_n (by omega) (by omega)) (wp_t (by rw [hk3]; rfl) ?_)))
    rw [hy.2.2.2.2.2.1, sInches]
    refine wp_i (fun c => ?_) (fun c => ?_)
    · rw [if_pos c]; exact out y h hy
    · rw [if_neg c]
      refine wp_bw (M_inch1 sm (g := 0) (by rw [h47]; rfl) (by omega) hy) (fun y1 hy1 => ?_)
      rw [n_inc]
      exact ih (i + 1) n y1 _ (by omega) (by omega) hy1
theorem M_makes {y0 y : MS} {m : Nat → Int32} {sp : Nat → Nat} {cv : CV} {N w : Nat} {kd sec mo : Nat → Nat} {dr : Bool} {h : HS} (sm : SM y0 m sp cv) (hdr : gi y0 61 48 = b2i dr) (wm : WM y0 N kd sec mo) (hw : w < N) (h47 : gi y0 61 47 = 0) (hy : HM y0 h y) : wp (f_X11_makes y (n32 w)) (HM y0 (sMake (qM y0 m sp) cv dr (kd w) (sec w) (mo w) h)) := by
  have hN := wm.1
  obtain ⟨a, _, c, h5, _, h9⟩ := WM_g wm hy.1 hw
  unfold f_X11_makes f_X11_makes_20 f_X11_makes_25
  rw [n32_nat (by omega), a]
  refine wp_g (ib_n (by omega) (by omega)) ?_
  have no3 : ∀ y h, HM y0 h y → ¬ kd w = 3 → wp (f_X11_makes_27 1000 y (n32 w) 0) (HM y0 (if kd w = 4 then (sSew (sec w) 9 0 (h, mo w)).1 else if kd w = 5 then sAll (sRaise (mo w)) (sec w) 9 0 (sSew (sec w) 9 0 (h, mo w)).1 else h)) := by
    intro y h hy h3
    obtain ⟨a, _, c, h5, _, h9⟩ := WM_g wm hy.1 hw
    rw [f_X11_makes_27, n32_nat (by omega), c, a]
    refine wp_g (ib_n (by omega) (by omega)) (wp_i (fun _ => M_make66 wm hw hy) (fun _ => wp_g (ib_n (by omega) (by omega)) (wp_e (n_ne (j := 3) h3 (by omega) (by omega)) (M_make66 wm hw hy))))
  unfold sMake
  by_cases h12 : kd w = 1 ∨ kd w = 2
  · rw [if_pos h12]
    have fin : wp ((f_X11_chars y (n32 w)).bind fun r12 => f_X11_makes_27 1000 r12 (n32 w) 0) (HM y0 (sAll (fun s h => sBurn (qM y0 m sp) cv dr s (if kd w = 2 then cv 5 s else 0) (mo w) h) (sec w) 9 0 h)) := by
      unfold f_X11_chars
      refine wp_bw (M_chars sm hdr wm hw 9 0 1000 y h (by omega) (by omega) hy) (fun y1 hy1 => ?_)
      have := no3 y1 _ hy1 (by omega)
      rw [if_neg (by omega), if_neg (by omega)] at this
      exact this
    refine wp_i (fun _ => fin) (fun q1 => wp_g (ib_n (by omega) (by omega)) (wp_t ?_ fin))
    rcases h12 with q | q
    · exact absurd (by rw [q]; rfl) q1
    · rw [q]; rfl
  · rw [if_neg h12]
    refine wp_e (n_ne (j := 1) (by omega) (by omega) (by omega)) (wp_g (ib_n (by omega) (by omega)) (wp_e (n_ne (j := 2) (by omega) (by omega) (by omega)) ?_))
    by_cases h3 : kd w = 3
    · rw [if_pos h3]
      exact M_make27 sm wm hw h47 h3 (mo w) 0 1000 y h (by omega) (by omega) hy
    · rw [if_neg h3]
      exact no3 y h hy h3
theorem M_begins {y0 y : MS} {m : Nat → Int32} {sp : Nat → Nat} {cv : CV} {L : Int64} (sm : SM y0 m sp cv) (hf : FrM y0 y) (hL : ¬ gi y0 61 48 = 0 → gmlot y = L) : wp (f_X11_begins y) (HM y0 (cv 0, cv 1, cv 2, 0, 0, L)) := by
  have key : ∀ (k i n : Nat) (z : MS), i + k = 9 → k < n → FrM y0 z → (¬ gi y0 61 48 = 0 → gmlot z = L) → (∀ j, j < i → gi z 84 j = cv 0 j ∧ gi z 85 j = cv 1 j ∧ gi z 86 j = cv 2 j) → wp (f_X11_begins_2 n z (n32 i)) (HM y0 (cv 0, cv 1, cv 2, 0, 0, L)) := by
    intro k
    induction k with
    | zero =>
      intro i n z hi hn hf hl hz
      obtain ⟨n, rfl⟩ : ∃ w, n = w + 1 := ⟨n - 1, by omega⟩
      rw [f_X11_begins_2]
      refine wp_t (n_le (i := 9) (by omega) (by omega)) ?_
      refine wp_s ⟨FrM_61 (FrM_61 hf (by omega)) (by omega), fun s hs => ?_, fun s hs => ?_, fun s hs => ?_, ?_, ?_, hl⟩
      · rw [gp_q _ _ _ _ (by omega), gp_q _ _ _ _ (by omega)]; exact (hz s (by omega)).1
      · rw [gp_q _ _ _ _ (by omega), gp_q _ _ _ _ (by omega)]; exact (hz s (by omega)).2.1
      · rw [gp_q _ _ _ _ (by omega), gp_q _ _ _ _ (by omega)]; exact (hz s (by omega)).2.2
      · rw [gp_j _ _ _ (by omega), gp_eq]; rfl
      · rw [gp_eq]; rfl
    | succ k ih =>
      intro i n z hi hn hf hl hz
      obtain ⟨n, rfl⟩ : ∃ w, n = w + 1 := ⟨n - 1, by omega⟩
      have hi9 : i < 9 := by omega
      rw [f_X11_begins_2]
      refine wp_e (n_nle (i := 9) (by omega) (by omega)) ?_
      have g3 : ∀ w, w < 6 → gi z 62 (9 * w + i) = cv w i := fun w hw => by rw [gi_of (hf.1 62 (by omega) (by omega))]; exact sm.2.1 w i hw (by omega)
      have e0 := g3 0 (by omega)
      have e1 := g3 1 (by omega)
      have e2 := g3 2 (by omega)
      simp only [Nat.mul_zero, Nat.zero_add, Nat.mul_one, Nat.reduceMul] at e0 e1 e2
      have a9 : (9 : Int32) + n32 i = n32 (9 + i) := n32_add 9 i
      have a18 : (18 : Int32) + n32 i = n32 (18 + i) := n32_add 18 i
      rw [a9, a18, n_inc, n32_nat (by omega), n32_nat (by omega), n32_nat (by omega)]
      refine wp_g (ib_n (by omega) (by omega)) (wp_g (ib_n (by omega) (by omega)) (wp_g (ib_n (by omega) (by omega)) (wp_g (ib_n (by omega) (by omega)) (wp_g (ib_n (by omega) (by omega)) (wp_g (ib_n (by omega) (by omega)) ?_)))))
      refine ih (i + 1) n _ (by omega) (by omega) (FrM_pi (FrM_pi (FrM_pi hf (by omega)) (by omega)) (by omega)) hl (fun j hj => ?_)
      by_cases hji : j = i
      · subst hji
        simp [gp_if, e0, e1, e2]
      · have := hz j (by omega)
        simp [gp_if, hji, this]
  unfold f_X11_begins
  exact key 9 0 1000 y (by omega) (by omega) hf hL (fun j hj => absurd hj (Nat.not_lt_zero j))
theorem M_comes6 {y0 : MS} {m : Nat → Int32} {sp : Nat → Nat} {cv : CV} {N nn : Nat} {kd sec mo : Nat → Nat} {dr : Bool} (sm : SM y0 m sp cv) (hdr : gi y0 61 48 = b2i dr) (wm : WM y0 N kd sec mo) (h47 : gi y0 61 47 = 0) (hnn : nn ≤ N) : ∀ (k w n : Nat) (y : MS) (h : HS), w + k = nn → k < n → HM y0 h y → wp (f_X11_comes_6 n y (n32 nn) (n32 w)) (HM y0 (sHull (qM y0 m sp) cv dr kd sec mo k w h)) := by
  have hN := wm.1
  intro k
  induction k with
  | zero =>
    intro w n y h hi hn hy
    obtain ⟨n, rfl⟩ : ∃ w, n = w + 1 := ⟨n - 1, by omega⟩
    rw [f_X11_comes_6]
    exact wp_t (n_le (by omega) (by omega)) (wp_s hy)
  | succ k ih =>
    intro w n y h hi hn hy
    obtain ⟨n, rfl⟩ : ∃ w, n = w + 1 := ⟨n - 1, by omega⟩
    rw [f_X11_comes_6]
    refine wp_e (n_nle (by omega) (by omega)) (wp_bw (M_makes sm hdr wm (by omega) h47 hy) (fun y1 hy1 => ?_))
    rw [n_inc, sHull]
    exact ih (w + 1) n y1 _ (by omega) (by omega) hy1
theorem M_comes {y0 y : MS} {m : Nat → Int32} {sp : Nat → Nat} {cv : CV} {N nn : Nat} {kd sec mo : Nat → Nat} {dr : Bool} {L : Int64} (sm : SM y0 m sp cv) (hdr : gi y0 61 48 = b2i dr) (wm : WM y0 N kd sec mo) (h47 : gi y0 61 47 = 0) (hnn : nn ≤ N) (hf : FrM y0 y) (hL : ¬ gi y0 61 48 = 0 → gmlot y = L) : wp (f_X11_comes y (n32 nn)) (HM y0 (sHull (qM y0 m sp) cv dr kd sec mo nn 0 (cv 0, cv 1, cv 2, 0, 0, L))) := by
  have hN := wm.1
  unfold f_X11_comes
  refine wp_bw (M_begins sm hf hL) (fun y1 hy1 => ?_)
  exact M_comes6 sm hdr wm h47 hnn nn 0 1000 y1 _ (by omega) (by omega) hy1
theorem M_state32 {y0 : MS} {m : Nat → Int32} {sp : Nat → Nat} {cv : CV} {N nn : Nat} {kd sec mo : Nat → Nat} {dr : Bool} {what : Int32} (sm : SM y0 m sp cv) (hdr : gi y0 61 48 = b2i dr) (wm : WM y0 N kd sec mo) (h47 : gi y0 61 47 = 0) (hnn : nn ≤ N) : ∀ (k w n : Nat) (y : MS) (h : HS) (e : EX), w + k = nn → k < n → (e.1 = -1 ∨ 0 ≤ e.1) → HM y0 h y → wp (f_X11_state_32 n y (n32 nn) what e.1 (n32 w)) (fun v => HM y0 (sHull (qM y0 m sp) cv dr kd sec mo k w h) v.2 ∧ v.1 = (if what = 0 then hB (sHull (qM y0 m sp) cv dr kd sec mo k w h) else if what = 1 then hS (sHull (qM y0 m sp) cv dr kd sec mo k w h) else (eHull (qM y0 m sp) cv dr kd sec mo k w h e).1)) := by
  have hN := wm.1
  intro k
  induction k with
  | zero =>
    intro w n y h e hi hn he hy
    obtain ⟨n, rfl⟩ : ∃ w, n = w + 1 := ⟨n - 1, by omega⟩
    rw [f_X11_state_32]
    refine wp_t (n_le (by omega) (by omega)) (wp_i (fun c => ?_) (fun c => wp_i (fun c2 => ?_) (fun c2 => ?_)))
    · exact wp_s ⟨hy, by rw [if_pos c]; exact hy.2.2.2.2.1⟩
    · exact wp_s ⟨hy, by rw [if_neg c, if_pos c2]; exact hy.2.2.2.2.2.1⟩
    · exact wp_s ⟨hy, by rw [if_neg c, if_neg c2]; rfl⟩
  | succ k ih =>
    intro w n y h e hi hn he hy
    obtain ⟨n, rfl⟩ : ∃ w, n = w + 1 := ⟨n - 1, by omega⟩
    rw [f_X11_state_32]
    refine wp_e (n_nle (by omega) (by omega)) (wp_bw (M_makes sm hdr wm (by omega) h47 hy) (fun y1 hy1 => ?_))
    unfold f_X11_state_72 f_X11_state_73
    rw [n_inc, hy1.2.2.2.2.1, hy.2.2.2.2.1, sHull, eHull]
    have go : ∀ e', (e'.1 = -1 ∨ 0 ≤ e'.1) → e' = eFst (hB h) (hB (sMake (qM y0 m sp) cv dr (kd w) (sec w) (mo w) h)) w e → wp (f_X11_state_32 n y1 (n32 nn) what e'.1 (n32 (w + 1))) (fun v => HM y0 (sHull (qM y0 m sp) cv dr kd sec mo k (w + 1) (sMake (qM y0 m sp) cv dr (kd w) (sec w) (mo w) h)) v.2 ∧ v.1 = (if what = 0 then hB (sHull (qM y0 m sp) cv dr kd sec mo k (w + 1) (sMake (qM y0 m sp) cv dr (kd w) (sec w) (mo w) h)) else if what = 1 then hS (sHull (qM y0 m sp) cv dr kd sec mo k (w + 1) (sMake (qM y0 m sp) cv dr (kd w) (sec w) (mo w) h)) else (eHull (qM y0 m sp) cv dr kd sec mo k (w + 1) (sMake (qM y0 m sp) cv dr (kd w) (sec w) (mo w) h) (eFst (hB h) (hB (sMake (qM y0 m sp) cv dr (kd w) (sec w) (mo w) h)) w e)).1)) := by
      intro e' h1 h2
      rw [← h2]
      exact ih (w + 1) n y1 _ e' (by omega) (by omega) h1 hy1
    have hm1 : (0 : Int32) ≤ e.1 → ¬ e.1 = -1 := fun q q2 => by rw [q2] at q; exact absurd q (by decide)
    refine wp_i (fun c => ?_) (fun c => ?_)
    · have c0 : ¬ 0 ≤ e.1 := fun q => hm1 q c
      refine wp_i (fun c2 => ?_) (fun c2 => ?_)
      · exact go e he (by unfold eFst; rw [if_neg c0, if_pos c2])
      · exact go (n32 w, e.2.1, e.2.2) (Or.inr (n_le (i := 0) (by omega) (by omega))) (by unfold eFst; rw [if_neg c0, if_neg c2])
    · have c0 : 0 ≤ e.1 := by rcases he with q | q; exact absurd q c; exact q
      exact go e he (by unfold eFst; rw [if_pos c0])
