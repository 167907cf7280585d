/-! ===== pure: image, back, fell ===== -/
theorem X_im24 {y : MS} {n : Nat} {rf : Nat → Nat} : ∀ (k i g : Nat) (z : CS), i + k = 6 → k < g → PE z y n rf → ∃ x', f_X10_image_24 g z (n32 i) = some (gi z 30 3, pi x' 0 11 1) ∧ (∀ q, q ≠ 47 → x'.1 q = z.1 q) ∧ x'.2 = z.2 ∧ ∀ j, gi x' 47 j = if i ≤ j ∧ j < 6 then (if j < n then gi y 70 j else -1) else gi z 47 j := by
  intro k
  induction k with
  | zero =>
    intro i g z hi hg hE
    obtain ⟨g, rfl⟩ : ∃ w, g = w + 1 := ⟨g - 1, by omega⟩
    have e6 : (6 : Int32) ≤ n32 i := n_le (i := 6) (by omega) (by omega)
    rw [f_X10_image_24, if_pos e6, gp_q _ _ _ _ (by omega)]
    exact ⟨z, rfl, fun _ _ => rfl, rfl, fun j => by rw [if_neg (by omega)]⟩
  | succ k ih =>
    intro i g z hi hg hE
    obtain ⟨g, rfl⟩ : ∃ w, g = w + 1 := ⟨g - 1, by omega⟩
    have e6 : ¬ (6 : Int32) ≤ n32 i := n_nle (i := 6) (by omega) (by omega)
    have ei : (n32 i).toNatClampNeg = i := n32_nat (by omega)
    have hn6 := hE.1
    have fin : ∀ v, v = (if i < n then gi y 70 i else -1) → ∃ x', f_X10_image_56 (f_X10_image_24 g) z (n32 i) v (n32 i) = some (gi z 30 3, pi x' 0 11 1) ∧ (∀ q, q ≠ 47 → x'.1 q = z.1 q) ∧ x'.2 = z.2 ∧ ∀ j, gi x' 47 j = if i ≤ j ∧ j < 6 then (if j < n then gi y 70 j else -1) else gi z 47 j := by
      intro v hv
      unfold f_X10_image_56
      rw [gd_t (ib_n (by omega) (by omega)), ei, n_inc]
      have hE1 : PE (pi z 47 i v) y n rf := PE_fr hE (XE_of rfl) (gp_q _ _ _ _ (by omega)) (fun _ _ _ => rfl) rfl
      obtain ⟨x', k1, k2, k3, k4⟩ := ih (i + 1) g (pi z 47 i v) (by omega) (by omega) hE1
      refine ⟨x', ?_, fun q hq => by rw [k2 q hq, pi1_q _ _ _ hq], k3, fun j => ?_⟩
      · rw [k1, gp_q _ _ _ _ (by omega)]
      · rw [k4, gp_if]
        by_cases c : i + 1 ≤ j ∧ j < 6
        · rw [if_pos c, if_pos (show i ≤ j ∧ j < 6 from ⟨by omega, c.2⟩)]
        · rw [if_neg c]
          by_cases cj : j = i
          · rw [if_pos ⟨rfl, cj⟩, if_pos (by omega), hv, cj]
          · rw [if_neg (fun q => cj q.2), if_neg (by omega)]
    rw [f_X10_image_24, if_neg e6]
    rcases X_treeAt hE (n32 i) with ⟨t, ht, et, e1, _, tr⟩ | ⟨e1, _, hno⟩
    · have eti : t = i := ((n32_inj (by omega) (by omega)).mp et).symm
      subst eti
      rw [e1, Option.bind_some, oc_s, gd_t tr.1, tr.2.2.2.2.2.1.1]
      exact fin _ (by rw [if_pos ht])
    · rw [n32_int (by omega)] at hno
      rw [e1, Option.bind_some, oc_n]
      exact fin _ (by rw [if_neg (by omega)])
theorem M_im73 : ∀ (k i g : Nat) (y : MS), i + k = 6 → k < g → ∃ y1, f_X11_image_73 g y (n32 i) = some (gi y 61 6, y1) ∧ (∀ q, q ≠ 76 → y1.1 q = y.1 q) ∧ y1.2 = y.2 ∧ ∀ j, gi y1 76 j = if i ≤ j ∧ j < 6 then gi y 70 j else gi y 76 j := by
  intro k
  induction k with
  | zero =>
    intro i g y hi hg
    obtain ⟨g, rfl⟩ : ∃ w, g = w + 1 := ⟨g - 1, by omega⟩
    have e6 : (6 : Int32) ≤ n32 i := n_le (i := 6) (by omega) (by omega)
    rw [f_X11_image_73, if_pos e6]
    exact ⟨y, rfl, fun _ _ => rfl, rfl, fun j => by rw [if_neg (by omega)]⟩
  | succ k ih =>
    intro i g y hi hg
    obtain ⟨g, rfl⟩ : ∃ w, g = w + 1 := ⟨g - 1, by omega⟩
    have e6 : ¬ (6 : Int32) ≤ n32 i := n_nle (i := 6) (by omega) (by omega)
    rw [f_X11_image_73, if_neg e6, gd_t (ib_n (by omega) (by omega)), gd_t (ib_n (by omega) (by omega)), n32_nat (by omega), n_inc]
    obtain ⟨y1, k1, k2, k3, k4⟩ := ih (i + 1) g (pi y 76 i (gi y 70 i)) (by omega) (by omega)
    refine ⟨y1, ?_, fun q hq => by rw [k2 q hq, pi1_q _ _ _ hq], k3, fun j => ?_⟩
    · rw [k1, gp_q _ _ _ _ (by omega)]
    · rw [k4, gp_q _ _ _ _ (by omega), gp_if]
      by_cases c : i + 1 ≤ j ∧ j < 6
      · rw [if_pos c, if_pos (by omega)]
      · rw [if_neg c]
        by_cases cj : j = i
        · rw [if_pos ⟨rfl, cj⟩, if_pos (by omega), cj]
        · rw [if_neg (fun q => cj q.2), if_neg (by omega)]
theorem M_im47 : ∀ (k i g : Nat) (y : MS), i + k = 54 → k < g → ∃ y1, f_X11_image_47 g y (n32 i) = f_X11_image_73 1000 y1 0 ∧ (∀ q, q ≠ 75 → y1.1 q = y.1 q) ∧ y1.2 = y.2 ∧ ∀ j, gi y1 75 j = if i ≤ j ∧ j < 54 then gi y 62 j else gi y 75 j := by
  intro k
  induction k with
  | zero =>
    intro i g y hi hg
    obtain ⟨g, rfl⟩ : ∃ w, g = w + 1 := ⟨g - 1, by omega⟩
    have e6 : (54 : Int32) ≤ n32 i := n_le (i := 54) (by omega) (by omega)
    rw [f_X11_image_47, if_pos e6]
    exact ⟨y, rfl, fun _ _ => rfl, rfl, fun j => by rw [if_neg (by omega)]⟩
  | succ k ih =>
    intro i g y hi hg
    obtain ⟨g, rfl⟩ : ∃ w, g = w + 1 := ⟨g - 1, by omega⟩
    have e6 : ¬ (54 : Int32) ≤ n32 i := n_nle (i := 54) (by omega) (by omega)
    rw [f_X11_image_47, if_neg e6, gd_t (ib_n (by omega) (by omega)), gd_t (ib_n (by omega) (by omega)), n32_nat (by omega), n_inc]
    obtain ⟨y1, k1, k2, k3, k4⟩ := ih (i + 1) g (pi y 75 i (gi y 62 i)) (by omega) (by omega)
    refine ⟨y1, k1, fun q hq => by rw [k2 q hq, pi1_q _ _ _ hq], k3, fun j => ?_⟩
    rw [k4, gp_q _ _ _ _ (by omega), gp_if]
    by_cases c : i + 1 ≤ j ∧ j < 54
    · rw [if_pos c, if_pos (by omega)]
    · rw [if_neg c]
      by_cases cj : j = i
      · rw [if_pos ⟨rfl, cj⟩, if_pos (by omega), cj]
      · rw [if_neg (fun q => cj q.2), if_neg (by omega)]
theorem M_im23 : ∀ (k i g : Nat) (y : MS), i + k = 5 → k < g → ∃ y1, f_X11_image_23 g y (n32 i) = f_X11_image_47 1000 y1 0 ∧ (∀ q, q ≠ 74 → y1.1 q = y.1 q) ∧ y1.2 = y.2 ∧ ∀ j, gi y1 74 j = if i ≤ j ∧ j < 5 then gi y 61 (1 + j) else gi y 74 j := by
  intro k
  induction k with
  | zero =>
    intro i g y hi hg
    obtain ⟨g, rfl⟩ : ∃ w, g = w + 1 := ⟨g - 1, by omega⟩
    have e6 : (5 : Int32) ≤ n32 i := n_le (i := 5) (by omega) (by omega)
    rw [f_X11_image_23, if_pos e6]
    exact ⟨y, rfl, fun _ _ => rfl, rfl, fun j => by rw [if_neg (by omega)]⟩
  | succ k ih =>
    intro i g y hi hg
    obtain ⟨g, rfl⟩ : ∃ w, g = w + 1 := ⟨g - 1, by omega⟩
    have e6 : ¬ (5 : Int32) ≤ n32 i := n_nle (i := 5) (by omega) (by omega)
    rw [f_X11_image_23, if_neg e6, gd_t (ib_n (by omega) (by omega)), n32_nat (by omega), M_count_w y (by omega), n_inc]
    obtain ⟨y1, k1, k2, k3, k4⟩ := ih (i + 1) g (pi y 74 i (gi y 61 (1 + i))) (by omega) (by omega)
    refine ⟨y1, k1, fun q hq => by rw [k2 q hq, pi1_q _ _ _ hq], k3, fun j => ?_⟩
    rw [k4, gp_q _ _ _ _ (by omega), gp_if]
    by_cases c : i + 1 ≤ j ∧ j < 5
    · rw [if_pos c, if_pos (by omega)]
    · rw [if_neg c]
      by_cases cj : j = i
      · rw [if_pos ⟨rfl, cj⟩, if_pos (by omega), cj]
      · rw [if_neg (fun q => cj q.2), if_neg (by omega)]
theorem s_image : ∀ (x : CS) (y : MS), PP x y → ∃ (r : Int32) (x1 : CS) (y1 : MS), f_X10_image x = some (r, x1) ∧ f_X11_image y = some (r, y1) ∧ PP x1 y1 := by
  intro x y hP
  obtain ⟨n, rf, hG, hW, hT, hK, hF, hH, hE, hI⟩ := PP_PQ hP
  obtain ⟨xb, b1, b2, b3, b4, b5, b6⟩ := X_become (t := 38) (a := 1) (Or.inl ⟨rfl, rfl⟩) x
  have hE0 : PE (pi xb 0 10 (gi xb 34 1)) y n rf := PE_fr hE (XE_of (congrArg Prod.snd b3)) (by rw [gp_q _ _ _ _ (by omega)]; exact gi_of (b2 34 (by omega) (by omega)) 1) (fun _ _ _ => rfl) rfl
  obtain ⟨xc, c1, c2, c3, c4⟩ := X_im24 6 0 1000 (pi xb 0 10 (gi xb 34 1)) (by omega) (by omega) hE0
  have eM : f_X11_image y = f_X11_image_23 1000 (pi (pi (pi y 61 22 1) 61 23 (gi y 61 10)) 61 24 (gi y 61 21)) 0 := by
    unfold f_X11_image
    rw [gp_j _ _ _ (by omega), gp_j _ _ _ (by omega), gp_j _ _ _ (by omega)]
  obtain ⟨y1, p1, p2, p3, p4⟩ := M_im23 5 0 1000 (pi (pi (pi y 61 22 1) 61 23 (gi y 61 10)) 61 24 (gi y 61 21)) (by omega) (by omega)
  obtain ⟨y2, q1, q2, q3, q4⟩ := M_im47 54 0 1000 y1 (by omega) (by omega)
  obtain ⟨y3, r1, r2, r3, r4⟩ := M_im73 6 0 1000 y2 (by omega) (by omega)
  have xx : ∀ q, q ≠ 0 → q ≠ 38 → (q < 40 ∨ 47 < q) → (pi xc 0 11 1).1 q = x.1 q := fun q h0 h1 h2 => by
    rw [pi1_q _ _ _ h0, c2 q (by omega), pi1_q _ _ _ h0, b2 q h1 (by omega)]
  have yy : ∀ q, q ≠ 61 → (q < 74 ∨ 76 < q) → y3.1 q = y.1 q := fun q h0 h1 => by
    rw [r2 q (by omega), q2 q (by omega), p2 q (by omega), pi1_q _ _ _ h0, pi1_q _ _ _ h0, pi1_q _ _ _ h0]
  have y61 : ∀ j, gi y3 61 j = gi (pi (pi (pi y 61 22 1) 61 23 (gi y 61 10)) 61 24 (gi y 61 21)) 61 j := fun j => by
    rw [gi_of (r2 61 (by omega)), gi_of (q2 61 (by omega)), gi_of (p2 61 (by omega))]
  have ys : ∀ j, j ≠ 22 → j ≠ 23 → j ≠ 24 → gi y3 61 j = gi y 61 j := fun j a b c => by
    rw [y61, gp_j _ _ _ c, gp_j _ _ _ b, gp_j _ _ _ a]
  have x2 : (pi xc 0 11 1).2 = x.2 := c3.trans b3
  have xq : ∀ q j, q ≠ 0 → q ≠ 38 → (q < 40 ∨ 47 < q) → gi (pi xc 0 11 1) q j = gi x q j := fun q j a b c => gi_of (xx q a b c) j
  refine ⟨gi y 61 6, pi xc 0 11 1, y3, ?_, ?_, ?_⟩
  · unfold f_X10_image
    rw [b1, Option.bind_some]
    have c1 : f_X10_image_24 1000 (pi xb 0 10 (gi xb 34 1)) 0 = _ := c1
    rw [c1, gp_q _ _ _ _ (by omega), gi_of (b2 30 (by omega) (by omega))]
    obtain ⟨N, _, k2, k3, _⟩ := hK
    rw [k2, k3]
  · rw [eM]
    have p1 : f_X11_image_23 1000 (pi (pi (pi y 61 22 1) 61 23 (gi y 61 10)) 61 24 (gi y 61 21)) 0 = _ := p1
    have q1 : f_X11_image_47 1000 y1 0 = _ := q1
    have r1 : f_X11_image_73 1000 y2 0 = _ := r1
    rw [p1, q1, r1, gi_of (q2 61 (by omega)), gi_of (p2 61 (by omega)), gp_j _ _ _ (by omega), gp_j _ _ _ (by omega), gp_j _ _ _ (by omega)]
  · have xe : XE x (pi xc 0 11 1) := XE_of (by rw [x2])
    obtain ⟨w1, w2, w3⟩ := hW
    obtain ⟨T, r, t1, t2, t3, t4, t5, t6⟩ := hT
    refine ⟨PG_fr hG xe.2.1 (ys _ (by omega) (by omega) (by omega)) (ys _ (by omega) (by omega) (by omega)), PW_fr ⟨w1, w2, w3⟩ (fun q a b => xx q (by omega) (by omega) (by omega)) (xq _ _ (by omega) (by omega) (by omega)) (yy _ (by omega) (by omega)) (fun j a b => ys j (by omega) (by omega) (by omega)) (ys _ (by omega) (by omega) (by omega)), PT_fr ⟨T, r, t1, t2, t3, t4, t5, t6⟩ (fun q a b => xx q (by omega) (by omega) (by omega)) (xq _ _ (by omega) (by omega) (by omega)) (yy _ (by omega) (by omega)) (yy _ (by omega) (by omega)) (ys _ (by omega) (by omega) (by omega)) (ys _ (by omega) (by omega) (by omega)), PK_fr hK (fun q a b => xx q (by omega) (by omega) (by omega)) (fun q a b => yy q (by omega) (by omega)) (ys _ (by omega) (by omega) (by omega)), PF_fr hF (xx _ (by omega) (by omega) (by omega)) (xq _ _ (by omega) (by omega) (by omega)) (yy _ (by omega) (by omega)) (ys _ (by omega) (by omega) (by omega)), PH_fr hH (fun q a b => xx q (by omega) (by omega) (by omega)) (fun q a b => yy q (by omega) (by omega)), n, rf, PE_fr hE xe (xq _ _ (by omega) (by omega) (by omega)) (fun q a b => yy q (by omega) (by omega)) (ys _ (by omega) (by omega) (by omega)), ?_, Or.inr ⟨fun w s hw hs => ?_, fun k hk => ?_, ?_, ⟨T, r, t1, t2, ?_, ?_⟩, n, Nat.le_refl _, ?_, ?_, fun t ht => ?_⟩⟩
    · rw [gp_eq, y61, gp_j _ _ _ (by omega), gp_j _ _ _ (by omega), gp_eq]
    · have := w1 w s hw hs
      simp only at this ⊢
      rw [gp_q _ _ _ _ (by omega), gi_of (c2 _ (by omega)), gp_q _ _ _ _ (by omega), show 40 + w = 38 + 2 + w from by omega, b4 w s hw hs, show 1 + 2 + w = 3 + w from by omega, gi_of (r2 75 (by omega)), q4, if_pos (by omega), gi_of (p2 62 (by omega)), gp_q _ _ _ _ (by omega), gp_q _ _ _ _ (by omega), gp_q _ _ _ _ (by omega)]
      exact this
    · have := w2 k hk
      simp only at this
      rw [gp_q _ _ _ _ (by omega), gi_of (c2 _ (by omega)), gp_q _ _ _ _ (by omega), show 46 = 38 + 8 from rfl, b5 k hk, show 1 + 8 = 9 from rfl, gi_of (r2 74 (by omega)), gi_of (q2 74 (by omega)), p4, if_pos (by omega), gp_j _ _ _ (by omega), gp_j _ _ _ (by omega), gp_j _ _ _ (by omega)]
      exact this
    · rw [gp_q _ _ _ _ (by omega), gi_of (c2 _ (by omega)), gp_q _ _ _ _ (by omega), b6, y61, gp_eq]; exact w3
    · rw [y61, gp_eq]; exact t5
    · rw [ys _ (by omega) (by omega) (by omega)]; exact t4
    · rw [gp_j _ _ _ (by omega), gi_of (c2 0 (by omega)), gp_eq, gi_of (b2 34 (by omega) (by omega))]; exact hE.2.1
    · rw [y61, gp_j _ _ _ (by omega), gp_eq]; exact hE.2.2.1
    · have hn6 := hE.1
      rw [gp_q _ _ _ _ (by omega), c4, if_pos (by omega), if_pos ht, r4, if_pos (by omega), gi_of (q2 70 (by omega)), gi_of (p2 70 (by omega)), gp_q _ _ _ _ (by omega), gp_q _ _ _ _ (by omega), gp_q _ _ _ _ (by omega)]
      exact ⟨rfl, (hE.2.2.2.1 t ht).2.2.2.2.2.2.1.2⟩
theorem M_bk20 : ∀ (k i g : Nat) (y : MS), i + k = 5 → k < g → ∃ y1, f_X11_back_20 g y (n32 i) = f_X11_back_44 1000 y1 0 ∧ (∀ q, q ≠ 61 → y1.1 q = y.1 q) ∧ y1.2 = y.2 ∧ ∀ j, gi y1 61 j = if 1 + i ≤ j ∧ j ≤ 5 then gi y 74 (j - 1) else gi y 61 j := by
  intro k
  induction k with
  | zero =>
    intro i g y hi hg
    obtain ⟨g, rfl⟩ : ∃ w, g = w + 1 := ⟨g - 1, by omega⟩
    have e6 : (5 : Int32) ≤ n32 i := n_le (i := 5) (by omega) (by omega)
    rw [f_X11_back_20, if_pos e6]
    exact ⟨y, rfl, fun _ _ => rfl, rfl, fun j => by rw [if_neg (by omega)]⟩
  | succ k ih =>
    intro i g y hi hg
    obtain ⟨g, rfl⟩ : ∃ w, g = w + 1 := ⟨g - 1, by omega⟩
    have e6 : ¬ (5 : Int32) ≤ n32 i := n_nle (i := 5) (by omega) (by omega)
    obtain ⟨m1, m2, m3⟩ := M_holds y (k := i) (by omega) (gi y 74 i)
    rw [f_X11_back_20, if_neg e6, gd_t (ib_n (by omega) (by omega)), n32_nat (by omega), n_inc]
    obtain ⟨y1, k1, k2, k3, k4⟩ := ih (i + 1) g (f_X11_holds y (n32 i) (gi y 74 i)) (by omega) (by omega)
    refine ⟨y1, k1, fun q hq => by rw [k2 q hq, m1 q hq], k3.trans m3, fun j => ?_⟩
    rw [k4, m2, gi_of (m1 74 (by omega))]
    by_cases c : 1 + (i + 1) ≤ j ∧ j ≤ 5
    · rw [if_pos c, if_pos (by omega)]
    · rw [if_neg c]
      by_cases cj : j = 1 + i
      · rw [if_pos cj, if_pos (by omega), cj, show 1 + i - 1 = i from by omega]
      · rw [if_neg cj, if_neg (by omega)]
theorem M_bk44 : ∀ (k i g : Nat) (y : MS), i + k = 54 → k < g → ∃ y1, f_X11_back_44 g y (n32 i) = f_X11_back_70 1000 y1 0 ∧ (∀ q, q ≠ 62 → y1.1 q = y.1 q) ∧ y1.2 = y.2 ∧ ∀ j, gi y1 62 j = if i ≤ j ∧ j < 54 then gi y 75 j else gi y 62 j := by
  intro k
  induction k with
  | zero =>
    intro i g y hi hg
    obtain ⟨g, rfl⟩ : ∃ w, g = w + 1 := ⟨g - 1, by omega⟩
    have e6 : (54 : Int32) ≤ n32 i := n_le (i := 54) (by omega) (by omega)
    rw [f_X11_back_44, if_pos e6]
    exact ⟨y, rfl, fun _ _ => rfl, rfl, fun j => by rw [if_neg (by omega)]⟩
  | succ k ih =>
    intro i g y hi hg
    obtain ⟨g, rfl⟩ : ∃ w, g = w + 1 := ⟨g - 1, by omega⟩
    have e6 : ¬ (54 : Int32) ≤ n32 i := n_nle (i := 54) (by omega) (by omega)
    rw [f_X11_back_44, if_neg e6, gd_t (ib_n (by omega) (by omega)), gd_t (ib_n (by omega) (by omega)), n32_nat (by omega), n_inc]
    obtain ⟨y1, k1, k2, k3, k4⟩ := ih (i + 1) g (pi y 62 i (gi y 75 i)) (by omega) (by omega)
    refine ⟨y1, k1, fun q hq => by rw [k2 q hq, pi1_q _ _ _ hq], k3, fun j => ?_⟩
    rw [k4, gp_q _ _ _ _ (by omega), gp_if]
    by_cases c : i + 1 ≤ j ∧ j < 54
    · rw [if_pos c, if_pos (by omega)]
    · rw [if_neg c]
      by_cases cj : j = i
      · rw [if_pos ⟨rfl, cj⟩, if_pos (by omega), cj]
      · rw [if_neg (fun q => cj q.2), if_neg (by omega)]
theorem s_back : ∀ (x : CS) (y : MS), PP x y → ∃ (r : Int32) (x1 : CS) (y1 : MS), f_X10_back x = some (r, x1) ∧ f_X11_back y = some (r, y1) ∧ PP x1 y1 := by
  intro x y hP
  obtain ⟨n, rf, hG, hW, hT, hK, hF, hH, hE, hI⟩ := PP_PQ hP
  obtain ⟨i1, i2⟩ := hI
  unfold f_X10_back f_X11_back
  rw [i1]
  by_cases c0 : gi y 61 22 = 0
  · rw [if_pos c0, if_pos c0]; exact sim0 hP (-3) rfl rfl
  rw [if_neg c0, if_neg c0]
  rcases i2 with i2 | ⟨a1, a2, a3, ⟨T', r', d1, d2, d3, d4⟩, k, k1, k2, k3, k4⟩
  · exact absurd i2 c0
  obtain ⟨xb, b1, b2, b3, b4, b5, b6⟩ := X_become (t := 1) (a := 38) (Or.inr ⟨rfl, rfl⟩) x
  obtain ⟨y1, p1, p2, p3, p4⟩ := M_bk20 5 0 1000 (pi y 61 21 (gi y 61 24)) (by omega) (by omega)
  obtain ⟨y2, q1, q2, q3, q4⟩ := M_bk44 54 0 1000 y1 (by omega) (by omega)
  have p1 : f_X11_back_20 1000 (pi y 61 21 (gi y 61 24)) 0 = f_X11_back_44 1000 y1 0 := p1
  have q1 : f_X11_back_44 1000 y1 0 = f_X11_back_70 1000 y2 0 := q1
  rw [b1, Option.bind_some, p1, q1]
  have yy : ∀ q, q ≠ 61 → q ≠ 62 → y2.1 q = y.1 q := fun q h0 h1 => by rw [q2 q h1, p2 q h0, pi1_q _ _ _ h0]
  have ys : ∀ j, (j = 0 ∨ 5 < j) → j ≠ 21 → gi y2 61 j = gi y 61 j := fun j a b => by
    rw [gi_of (q2 61 (by omega)), p4, if_neg (by omega), gp_j _ _ _ b]
  have hQ : PQ xb y2 n rf := by
    have xe : XE x xb := XE_of (congrArg Prod.snd b3)
    obtain ⟨T, r, t1, t2, t3, t4, t5, t6⟩ := hT
    have eT : T' = T := (n32_inj (by omega) (by omega)).mp (d4.symm.trans t4)
    subst eT
    refine ⟨PG_fr hG xe.2.1 (ys _ (by omega) (by omega)) (ys _ (by omega) (by omega)), ⟨fun w s hw hs => ?_, fun j hj => ?_, ?_⟩, ⟨T', r', d1, d2, ?_, ?_, ?_, fun t ht => ?_⟩, PK_fr hK (fun q a b => b2 q (by omega) (by omega)) (fun q a b => yy q (by omega) (by omega)) (ys _ (by omega) (by omega)), PF_fr hF (b2 _ (by omega) (by omega)) (gi_of (b2 _ (by omega) (by omega)) _) (yy _ (by omega) (by omega)) (ys _ (by omega) (by omega)), PH_fr hH (fun q a b => b2 q (by omega) (by omega)) (fun q a b => yy q (by omega) (by omega)), PE_fr hE xe (gi_of (b2 _ (by omega) (by omega)) _) (fun q a b => yy q (by omega) (by omega)) (ys _ (by omega) (by omega)), PI_fr ⟨i1, Or.inr ⟨a1, a2, a3, ⟨T', r', d1, d2, d3, d4⟩, k, k1, k2, k3, k4⟩⟩ (fun q a b => b2 q (by omega) (by omega)) (gi_of (b2 _ (by omega) (by omega)) _) (gi_of (b2 _ (by omega) (by omega)) _) (gi_of (b2 _ (by omega) (by omega)) _) (fun q a b => yy q (by omega) (by omega)) (ys _ (by omega) (by omega)) (ys _ (by omega) (by omega)) (ys _ (by omega) (by omega)) (ys _ (by omega) (by omega))⟩
    · have := a1 w s hw hs
      simp only at this ⊢
      rw [show 3 + w = 1 + 2 + w from by omega, b4 w s hw hs, show 38 + 2 + w = 40 + w from by omega, q4, if_pos (by omega), gi_of (p2 75 (by omega)), gp_q _ _ _ _ (by omega)]
      exact this
    · have := a2 j hj
      simp only
      rw [show 9 = 1 + 8 from rfl, b5 j hj, gi_of (q2 61 (by omega)), p4, if_pos (by omega), gp_q _ _ _ _ (by omega), show 1 + j - 1 = j from by omega]
      exact this
    · rw [b6, gi_of (q2 61 (by omega)), p4, if_neg (by omega), gp_eq]; exact a3
    · rw [gi_of (b2 10 (by omega) (by omega))]; exact t3
    · rw [ys _ (by omega) (by omega)]; exact t4
    · rw [gi_of (q2 61 (by omega)), p4, if_neg (by omega), gp_eq]; exact d3
    · have e1 : gi xb (12 + t) = gi x (12 + t) := b2 _ (by omega) (by omega)
      have e2 : gi xb (19 + t) = gi x (19 + t) := b2 _ (by omega) (by omega)
      have e3 : gi y2 72 = gi y 72 := yy 72 (by omega) (by omega)
      have e4 : gi y2 73 = gi y 73 := yy 73 (by omega) (by omega)
      rw [e1, e2, e3, e4]; exact t6 t ht
  have hk6 : k ≤ 6 := Nat.le_trans k1 hE.1
  have hn6 : n ≤ 6 := hE.1
  have key : ∀ (j t g g' : Nat) (x' : CS) (y' : MS), t + j = k → j < g → j < g' → PQ x' y' n rf → x'.1 = xb.1 → (∀ q, q ≠ 70 → y'.1 q = y2.1 q) → ∃ r x1 y1, f_X10_back_23 g x' (n32 t) = some (r, x1) ∧ f_X11_back_70 g' y' (n32 t) = some (r, y1) ∧ PP x1 y1 := by
    intro j
    induction j with
    | zero =>
      intro t g g' x' y' ht hg hg' hQ hx hy
      obtain ⟨g, rfl⟩ : ∃ w, g = w + 1 := ⟨g - 1, by omega⟩
      obtain ⟨g', rfl⟩ : ∃ w, g' = w + 1 := ⟨g' - 1, by omega⟩
      have e10 : gi x' 0 10 = n32 k := by rw [gi_of (congrFun hx 0), gi_of (b2 0 (by omega) (by omega))]; exact k2
      have e23 : gi y' 61 23 = n32 k := by rw [gi_of (hy 61 (by omega)), ys _ (by omega) (by omega)]; exact k3
      obtain ⟨N, _, n2, n3, _⟩ := hQ.2.2.2.1
      rw [f_X10_back_23, f_X11_back_70, e10, e23]
      unfold f_X10_back_66
      exact ⟨n32 N, x', y', by rw [if_pos (n_le (by omega) (by omega)), n2], by rw [if_pos (n_le (by omega) (by omega)), n3], PQ_PP hQ⟩
    | succ j ih =>
      intro t g g' x' y' ht hg hg' hQ hx hy
      obtain ⟨g, rfl⟩ : ∃ w, g = w + 1 := ⟨g - 1, by omega⟩
      obtain ⟨g', rfl⟩ : ∃ w, g' = w + 1 := ⟨g' - 1, by omega⟩
      have e10 : gi x' 0 10 = n32 k := by rw [gi_of (congrFun hx 0), gi_of (b2 0 (by omega) (by omega))]; exact k2
      have e23 : gi y' 61 23 = n32 k := by rw [gi_of (hy 61 (by omega)), ys _ (by omega) (by omega)]; exact k3
      have e47 : gi x' 47 t = gi y' 76 t ∧ -1 ≤ (gi y' 76 t).toInt ∧ (gi y' 76 t).toInt ≤ 4 := by
        rw [gi_of (congrFun hx 47), gi_of (b2 47 (by omega) (by omega)), gi_of (hy 76 (by omega)), gi_of (yy 76 (by omega) (by omega))]
        exact k4 t (by omega)
      have hkt : ¬ n32 k ≤ n32 t := n_nle (by omega) (by omega)
      have e6 : ¬ (6 : Int32) ≤ n32 t := n_nle (i := 6) (by omega) (by omega)
      have et : (n32 t).toNatClampNeg = t := n32_nat (by omega)
      have htn : t < n := by omega
      have hE' := hQ.2.2.2.2.2.2.1
      rw [f_X10_back_23, f_X11_back_70, e10, e23, if_neg hkt, if_neg hkt, if_neg e6]
      unfold f_X10_back_60
      rcases X_treeAt hE' (n32 t) with ⟨u, hu, eu, e1, _, tr⟩ | ⟨_, _, hno⟩
      · have eut : u = t := ((n32_inj (by omega) (by omega)).mp eu).symm
        subst eut
        rw [e1, Option.bind_some, oc_s, gd_t (ib_n (by omega) (by omega)), gd_t tr.1, gd_t (ib_n (by omega) (by omega)), gd_t (ib_n (by omega) (by omega)), et, n_inc, e47.1]
        exact ih (u + 1) g g' _ _ (by omega) (by omega) (by omega) (PQ_bore hQ htn e47.2) hx (fun q hq => by rw [pi1_q _ _ _ hq]; exact hy q hq)
      · rw [n32_int (by omega)] at hno; omega
  exact key k 0 1000 1000 xb y2 (by omega) (by omega) (by omega) hQ rfl (fun _ _ => rfl)
