/-! ===== pure: text ===== -/
theorem gpf_e {β : Type} (x : (Nat → Nat → Int32) × β) (q : Nat) (g : Nat → Int32) (j : Nat) : gi (pf x q g) q j = g j := by
  show (if q = q then g else x.1 q) j = g j
  rw [if_pos rfl]
theorem gpf_q {β : Type} (x : (Nat → Nat → Int32) × β) {q q' : Nat} (g : Nat → Int32) (j : Nat) (h : q' ≠ q) : gi (pf x q g) q' j = gi x q' j := by
  show (if q' = q then g else x.1 q') j = x.1 q' j
  rw [if_neg h]
theorem pf1_q {β : Type} (x : (Nat → Nat → Int32) × β) {q q' : Nat} (g : Nat → Int32) (h : q' ≠ q) : (pf x q g).1 q' = x.1 q' := if_neg h
theorem cpy_e (f g : Nat → Int32) {n j : Nat} (h : j < n) : va_cpy f g 0 0 n j = f j := by
  show (if 0 ≤ j ∧ j < 0 + n then f (0 + (j - 0)) else g j) = f j
  rw [if_pos ⟨by omega, by omega⟩, Nat.zero_add, Nat.sub_zero]
theorem X_keep {x : CS} {T : Nat} (h10 : gi x 10 3 = n32 T) (hT : T < 6) : ∃ x', f_X3_keep x 28 29 = some (n32 T, x') ∧ (∀ q, q ≠ 10 → q ≠ 12 + T → q ≠ 19 + T → x'.1 q = x.1 q) ∧ x'.2 = x.2 ∧ gi x' 10 3 = n32 (T + 1) ∧ (∀ j, j < 160 → gi x' (12 + T) j = gi x 28 j) ∧ ∀ p, p < 3 → gi x' (19 + T) p = gi x 29 p := by
  have e1 : ∀ G, gi (pf x (12 + T) G) 10 3 = n32 T := fun G => by rw [gpf_q _ _ _ (by omega)]; exact h10
  have e2 : ∀ G G', gi (pf (pf x (12 + T) G) (19 + T) G') 10 3 = n32 T := fun G G' => by rw [gpf_q _ _ _ (by omega)]; exact e1 G
  have n6 : ¬ (6 : Int32) ≤ n32 T := n_nle (i := 6) (by omega) (by omega)
  have nT : (n32 T).toNatClampNeg = T := n32_nat (by omega)
  have g1 : decide (0 < al 28) = true := by decide
  have g2 : ¬ nI (al 28) < 160 := by decide
  have g3 : decide (0 < al 29) = true := by decide
  have g4 : (3 : Int32) ≤ nI (al 29) := by decide
  have g5 : decide (0 < al (12 + T)) = true := by rw [al_12 hT]; decide
  have g6 : cpok 0 0 160 (al 28) (al (12 + T)) = true := by rw [al_12 hT]; decide
  have g7 : decide (0 < al (19 + T)) = true := by rw [al_19 hT]; decide
  have g8 : cpok 0 0 3 (al 29) (al (19 + T)) = true := by rw [al_19 hT]; decide
  have gT : ib (n32 T) 6 = true := ib_n hT (by omega)
  unfold f_X3_keep
  simp only [h10, nT, e1, e2]
  rw [if_neg n6, gd_t g1, if_neg g2, gd_t g3, if_pos g4, gd_t gT, gd_t g1, gd_t g5, gd_t g6, gd_t gT, gd_t g3, gd_t g7, gd_t g8]
  have z0 : (0 : Int32).toNatClampNeg = 0 := rfl
  have z160 : (160 : Int32).toNatClampNeg = 160 := rfl
  have z3 : (3 : Int32).toNatClampNeg = 3 := rfl
  rw [z0, z160, z3]
  refine ⟨_, congrArg some (Prod.ext ?_ rfl), fun q q1 q2 q3 => ?_, rfl, ?_, fun j hj => ?_, fun p hp => ?_⟩
  · show gi (pi _ 10 3 (n32 T + 1)) 10 3 - 1 = n32 T
    rw [gp_eq, n_inc, q_1, n32_sub (by omega)]; rfl
  · rw [pi1_q _ _ _ q1, pf1_q _ _ q3, pf1_q _ _ q2]
  · rw [gp_eq, n_inc]
  · rw [gp_q _ _ _ _ (by omega), gpf_q _ _ _ (by omega), gpf_e, cpy_e _ _ hj]
  · rw [gp_q _ _ _ _ (by omega), gpf_e, cpy_e _ _ hp, gpf_q _ _ _ (by omega)]
theorem bind3 {α β γ δ : Type} (A : Option α) (B : α → Option β) (D : β → Option γ) (K : γ → Option δ) : (A.bind fun r4 => (B r4).bind fun r6 => (D r6).bind K) = (A.bind fun r4 => (B r4).bind D).bind K := by
  cases A with
  | none => rfl
  | some a =>
    show ((B a).bind fun r6 => (D r6).bind K) = ((B a).bind D).bind K
    cases B a <;> rfl
theorem R26 {x x' : CS} {j : Nat} (hj : j < 3) (h : ((f_X6_expect x (300 + n32 j)).bind fun r4 => (f_X6_top 7 r4).bind fun r6 => f_X6_expect r6 59) = some x') (g : Nat) : f_X6_read_26 (g + 1) x (n32 j) = f_X6_read_26 g (pi x' 29 j (gi x' 26 4)) (n32 (j + 1)) := by
  rw [f_X6_read_26, if_neg (show ¬ (2 : Int32) < n32 j from n_nlt (i := 2) (by omega) (by omega)), bind3, h, Option.bind_some, gd_t (ib_n hj (by omega)), n32_nat (by omega), n_inc]
theorem M_122 {T : Nat} {y : MS} (h20 : gi y 61 20 = n32 T) (hT : T < 6) : f_X11_text_122 y 0 = some (-100 - gi y 61 32, pi (pi y 73 (4 * T + 3) (gi y 61 39)) 61 17 0) ∧ f_X11_text_122 y 1 = some (n32 T, pi (pi (pi y 73 (4 * T + 3) (gi y 61 39)) 61 17 0) 61 20 (n32 (T + 1))) := by
  have e20 : ∀ v, gi (pi (pi y 73 (4 * T + 3) v) 61 17 0) 61 20 = n32 T := fun v => by rw [gp_j _ _ _ (by omega), gp_q _ _ _ _ (by omega)]; exact h20
  unfold f_X11_text_122
  rw [h20, q_4, q_3, n32_mul, n32_add, gd_t (ib_n (by omega) (by omega)), n32_nat (by omega)]
  constructor
  · rw [if_pos rfl, gp_j _ _ _ (by omega), gp_q _ _ _ _ (by omega)]
  · rw [gd_t (ib_n (by omega) (by omega)), if_neg (show ¬ (1 : Int32) = 0 by decide), e20, gp_eq, n_inc]
    rw [q_1, n32_sub (by omega)]; rfl
theorem FLX {b : Nat → Int32} {N T : Nat} {x : CS} {y : MS} (hP : PP x y) (hTy : gi y 61 20 = n32 T) (hT : T < 6) {j f : Nat} (hj : j < 3) {xj x' x0 : CS} {yj y' y0 : MS} {v : Int32} (a1 : ∀ q, q ≠ 29 → x0.1 q = x.1 q) (a2 : x0.2 = x.2) (a3 : ((f_X6_expect xj (300 + n32 j)).bind fun r4 => (f_X6_top 7 r4).bind fun r6 => f_X6_expect r6 59) = some x') (a4 : KF N x0 x' f) (c1 : ∀ q, q ≠ 73 → y0.1 q = y.1 q) (c2 : y0.2 = y.2) (c3 : ∀ i, i < 4 * T → gi y0 73 i = gi y 73 i) (c4 : KG T (pi y0 73 (4 * T + j) v) y') (c5 : gi y' 61 32 = n32 f) (c6 : ∀ g, f_X11_text_26 (g + 1) yj 1 (n32 j) = f_X11_text_26 g y' 0 (n32 (j + 1))) (g : Nat) : ∃ x'' y'', f_X6_read_26 (g + 5) xj (n32 j) = some (n32 f, x'') ∧ f ≤ 160 ∧ f_X11_text_26 (g + 5) yj 1 (n32 j) = some (-100 - n32 f, y'') ∧ PP (f_X6_empty x'') y'' := by
  have hk : KF N (pi x' 29 j (gi x' 26 4)) (pi x' 29 j (gi x' 26 4)) f := ⟨fun _ _ _ => rfl, rfl, by rw [gp_q _ _ _ _ (by omega)]; exact a4.2.2.1, by rw [gp_q _ _ _ _ (by omega)]; exact a4.2.2.2.1, a4.2.2.2.2⟩
  obtain ⟨x'', d1, d2, d3⟩ := FC (2 - j) (j + 1) (g + 4) _ _ (by omega) (by omega) hk
  obtain ⟨g1, g2, g3, g4⟩ := c4
  have e20 : gi y' 61 20 = n32 T := by
    rw [g3 20 (by omega) (by omega) (by omega) (by omega), gp_q _ _ _ _ (by omega), gi_of (c1 61 (by omega))]; exact hTy
  refine ⟨x'', pi (pi y' 73 (4 * T + 3) (gi y' 61 39)) 61 17 0, ?_, a4.2.2.2.2, ?_, ?_⟩
  · rw [R26 hj a3 (g + 4)]; exact d1
  · rw [c6 (g + 4), FM2 (g + 3), (M_122 e20 hT).1, c5]
  · refine PP_txt hP hTy (by omega) (fun q q1 q2 q3 => ?_) ?_ ?_ (fun q q1 q2 q3 q4 => ?_) (fun i i1 i2 i3 i4 i5 => ?_) ?_ (fun i hi => ?_) (fun i hi => ?_)
    · show (pi x'' 26 1 0).1 q = x.1 q
      rw [pi1_q _ _ _ q1, d2 q q3, pi1_q _ _ _ q3, a4.1 q q1 q2, a1 q q3]
    · exact d3.trans (a4.2.1.trans a2)
    · show gi (pi x'' 26 1 0) 26 1 = 0
      rw [gp_eq]
    · rw [pi1_q _ _ _ q1, pi1_q _ _ _ q3, g1 q q1 q2 q4, pi1_q _ _ _ q3, c1 q q3]
    · rw [gp_j _ _ _ i5, gp_q _ _ _ _ (by omega), g3 i i1 i2 i3 i4, gp_q _ _ _ _ (by omega), gi_of (c1 61 (by omega))]
    · rw [gp_eq]
    · rw [gp_q _ _ _ _ (by omega), gp_q _ _ _ _ (by omega), g4 i hi, gp_q _ _ _ _ (by omega), gi_of (c1 72 (by omega))]
    · rw [gp_q _ _ _ _ (by omega), gp_j _ _ _ (by omega), gi_of (g1 73 (by omega) (by omega) (by omega)), gp_j _ _ _ (by omega), c3 i hi]
theorem ap_get {A e B : List Int32} {j : Nat} {c : Int32} (h : e[j]? = some c) : (A ++ e ++ B)[A.length + j]? = some c := by
  have hj : j < e.length := by
    rcases Nat.lt_or_ge j e.length with q | q
    · exact q
    · rw [List.getElem?_eq_none q] at h; cases h
  rw [List.getElem?_append_left (by rw [List.length_append]; omega), List.getElem?_append_right (by omega), show A.length + j - A.length = j from by omega]
  exact h
theorem s_text : ∀ (x : CS) (y : MS), PP x y → ∃ (r : Int32) (x1 : CS) (y1 : MS), f_X10_text x = some (r, x1) ∧ f_X11_text y = some (r, y1) ∧ PP x1 y1 := by
  intro x y hP
  obtain ⟨T, r, t1, t2, t3, t4, t5, t6⟩ := hP.2.2.1
  obtain ⟨N, f1, f2, f3, f4⟩ := hP.2.2.2.2.1
  unfold f_X10_text f_X11_text
  rw [t3, t4]
  by_cases c6 : T = 6
  · subst c6
    rw [if_neg (show ¬ n32 6 < (6 : Int32) by decide), if_pos (show n32 6 = (6 : Int32) from rfl)]
    exact sim0 hP (-4) rfl rfl
  have hT : T < 6 := by omega
  have c6' : ¬ n32 T = 6 := fun q => c6 ((n32_inj (j := 6) (by omega) (by omega)).mp q)
  rw [if_pos (show n32 T < (6 : Int32) from n_lt (j := 6) hT (by omega)), if_neg c6']
  have hB : BB (gi y 71) N := ⟨f1, fun i hi => (f4 i hi).2⟩
  have hx0 : TBx (gi y 71) N x := ⟨f2, fun i hi => (f4 i hi).1⟩
  have hy0 : TBy (gi y 71) N y := ⟨f3, fun i hi => rfl⟩
  generalize gi y 71 = b at hB hx0 hy0
  have C0 : CT b N T x y := ⟨hB, hx0, hy0, t4, hT⟩
  -- the first token
  have gx : ∀ j, j ≠ 4 → j ≠ 5 → j ≠ 6 → j ≠ 7 → gi (pi (pi (pi (pi x 26 4 0) 26 5 (-1)) 26 6 0) 26 7 0) 26 j = gi x 26 j := fun j a c d e => by rw [gp_j _ _ _ e, gp_j _ _ _ d, gp_j _ _ _ c, gp_j _ _ _ a]
  have gxq : ∀ q, q ≠ 26 → (pi (pi (pi (pi x 26 4 0) 26 5 (-1)) 26 6 0) 26 7 0).1 q = x.1 q := fun q h => by rw [pi1_q _ _ _ h, pi1_q _ _ _ h, pi1_q _ _ _ h, pi1_q _ _ _ h]
  have g5 : gi (pi (pi (pi (pi x 26 4 0) 26 5 (-1)) 26 6 0) 26 7 0) 26 5 = -1 := by rw [gp_j _ _ _ (by omega), gp_j _ _ _ (by omega), gp_eq]
  obtain ⟨x1, a1, a2, a3, a4, a5, a6, a7, a8⟩ := X_adv hB (x := pi (pi (pi (pi x 26 4 0) 26 5 (-1)) 26 6 0) 26 7 0) (p := 0) ⟨by rw [gx 1 (by omega) (by omega) (by omega) (by omega)]; exact hx0.1, fun i hi => by rw [gi_of (gxq 27 (by omega))]; exact hx0.2 i hi⟩ (by rw [g5]; decide) (by rw [gp_eq]; rfl) (by omega)
  have X0 : KX b N x x1 0 [] 0 := ⟨fun q q1 q2 => (a2 q q1).trans (gxq q q1), a3, (a4 1 (by omega)).trans ((gx 1 (by omega) (by omega) (by omega) (by omega)).trans hx0.1), (a4 4 (by omega)).trans (by rw [gp_j _ _ _ (by omega), gp_j _ _ _ (by omega), gp_j _ _ _ (by omega), gp_eq]; rfl), (a4 5 (by omega)).trans g5, (a4 6 (by omega)).trans (by rw [gp_j _ _ _ (by omega), gp_eq]; rfl), a5, a6, a7, a8, fun i c hc => by cases hc⟩
  have Y0 : KW T y (pi (pi y 61 31 0) 61 39 0) 0 [] := ⟨⟨fun q q1 q2 q3 => by rw [pi1_q _ _ _ q1, pi1_q _ _ _ q1], rfl, fun j j1 j2 j3 j4 => by rw [gp_j _ _ _ j4, gp_j _ _ _ (by omega)], fun j hj => by rw [gp_q _ _ _ _ (by omega), gp_q _ _ _ _ (by omega)]⟩, by rw [gp_j _ _ _ (by omega), gp_eq]; rfl, by rw [gp_eq]; rfl, fun i c hc => by cases hc⟩
  unfold f_X6_read
  rw [a1, Option.bind_some]
  have OUT : ∀ (f : Nat) (x'' : CS) (y'' : MS), f_X6_read_26 1000 x1 0 = some (n32 f, x'') → f ≤ 160 → f_X11_text_26 1000 (pi (pi y 61 31 0) 61 39 0) 1 0 = some (-100 - n32 f, y'') → PP (f_X6_empty x'') y'' → ∃ (r : Int32) (x1' : CS) (y1 : MS), ((f_X6_read_26 1000 x1 0).bind fun r2 => if r2.1 < 0 then ((f_X3_keep (f_X6_empty r2.2) 28 29).bind fun r6 => some (r6.1, r6.2)) else some ((-100) - r2.1, f_X6_empty r2.2)) = some (r, x1') ∧ f_X11_text_26 1000 (pi (pi y 61 31 0) 61 39 0) 1 0 = some (r, y1) ∧ PP x1' y1 := fun f x'' y'' h1 h2 h3 h4 => by
    rw [h1, Option.bind_some, if_neg (show ¬ n32 f < (0 : Int32) from n_nlt (i := f) (j := 0) (by omega) (by omega))]
    exact ⟨_, _, y'', rfl, h3, h4⟩
  rcases CLA C0 (j := 0) (by omega) X0 Y0 (Nat.zero_le _) (Nat.le_refl _) with ⟨x', f, y', q1, q2, q3, q4, q5⟩ | ⟨xa, ya, pa, ea, q1, Xa, Ya, hpa, hla, wa, q5⟩
  · obtain ⟨x'', y'', r1, r2, r3, r4⟩ := FLX (b := b) (N := N) hP t4 hT (j := 0) (by omega) (fun _ _ => rfl) rfl q1 q2 (fun _ _ => rfl) rfl (fun _ _ => rfl) q3 q4 q5 995
    exact OUT f x'' y'' r1 r2 r3 r4
  have R1 : f_X6_read_26 1000 x1 0 = f_X6_read_26 999 (pi xa 29 0 (gi xa 26 4)) (n32 1) := R26 (j := 0) (by omega) q1 999
  have M1 : f_X11_text_26 1000 (pi (pi y 61 31 0) 61 39 0) 1 0 = f_X11_text_26 999 ya 1 (n32 1) := q5 999
  rw [List.nil_append] at *
  rw [Xa.2.2.2.1] at R1
  have Xa' := KX_29 Xa 0 (n32 ea.length)
  have C1 := CT_n C0 0 (4 * T + 0) (n32 ea.length) (n32 ([] : List Int32).length)
  rcases CLA C1 (j := 1) (by omega) Xa' Ya hpa hla with ⟨x', f, y', q1, q2, q3, q4, q5⟩ | ⟨xb, yb, pb, eb, q1, Xb, Yb, hpb, hlb, wb, q5⟩
  · obtain ⟨x'', y'', r1, r2, r3, r4⟩ := FLX (b := b) (N := N) hP t4 hT (j := 1) (by omega) (fun q hq => pi1_q _ _ _ hq) rfl q1 q2 (fun q hq => pi1_q _ _ _ hq) rfl (fun i hi => gp_j _ _ _ (by omega)) q3 q4 q5 994
    exact OUT f x'' y'' (R1.trans r1) r2 (M1.trans r3) r4
  have R2 := R26 (j := 1) (by omega) q1 998
  have M2 := q5 998
  rw [Xb.2.2.2.1] at R2
  have Xb' := KX_29 Xb 1 (n32 (ea ++ eb).length)
  have C2 := CT_n C1 1 (4 * T + 1) (n32 (ea ++ eb).length) (n32 ea.length)
  rcases CLA C2 (j := 2) (by omega) Xb' Yb hpb hlb with ⟨x', f, y', q1, q2, q3, q4, q5⟩ | ⟨xc, yc, pc, ec, q1, Xc, Yc, hpc, hlc, wc, q5⟩
  · obtain ⟨x'', y'', r1, r2, r3, r4⟩ := FLX (b := b) (N := N) (x0 := pi (pi x 29 0 (n32 ea.length)) 29 1 (n32 (ea ++ eb).length)) (y0 := pi (pi y 73 (4 * T + 0) (n32 ([] : List Int32).length)) 73 (4 * T + 1) (n32 ea.length)) hP t4 hT (j := 2) (by omega) (fun q hq => by rw [pi1_q _ _ _ hq, pi1_q _ _ _ hq]) rfl q1 q2 (fun q hq => by rw [pi1_q _ _ _ hq, pi1_q _ _ _ hq]) rfl (fun i hi => by rw [gp_j _ _ _ (by omega), gp_j _ _ _ (by omega)]) q3 q4 q5 993
    exact OUT f x'' y'' (R1.trans (R2.trans r1)) r2 (M1.trans (M2.trans r3)) r4
  have R3 := R26 (j := 2) (by omega) q1 997
  have M3 := q5 997
  rw [Xc.2.2.2.1] at R3
  have Xc' := KX_29 Xc 2 (n32 (ea ++ eb ++ ec).length)
  -- the end
  have hYc := Yc
  obtain ⟨⟨k1, k2, k3, k4⟩, w1, w2, w3⟩ := Yc
  have yq : ∀ q, q ≠ 61 → q ≠ 72 → q ≠ 73 → q ≠ 81 → yc.1 q = y.1 q := fun q q1 q2 q3 q4 => by rw [k1 q q1 q2 q4, pi1_q _ _ _ q3, pi1_q _ _ _ q3, pi1_q _ _ _ q3]
  have y61 : ∀ j, (j < 31 ∨ 34 < j) → j ≠ 37 → j ≠ 38 → j ≠ 39 → gi yc 61 j = gi y 61 j := fun j j1 j2 j3 j4 => by rw [k3 j j1 j2 j3 j4, gp_q _ _ _ _ (by omega), gp_q _ _ _ _ (by omega), gp_q _ _ _ _ (by omega)]
  have hTy : TBy b N yc := ⟨by rw [y61 17 (by omega) (by omega) (by omega) (by omega)]; exact hy0.1, fun i hi => by rw [gi_of (yq 71 (by omega) (by omega) (by omega) (by omega))]; exact hy0.2 i hi⟩
  obtain ⟨ok, y1, n1, m2, m3, m4, m5, m6, m7, m8, m9, m10⟩ := M_nxt hB hTy w1 hpc
  have z61 : ∀ j, (j < 31 ∨ 34 < j) → j ≠ 37 → j ≠ 38 → j ≠ 39 → gi y1 61 j = gi y 61 j := fun j j1 j2 j3 j4 => (m4 j j1).trans (y61 j j1 j2 j3 j4)
  have zq : ∀ q, q ≠ 61 → q ≠ 72 → q ≠ 73 → q ≠ 81 → y1.1 q = y.1 q := fun q q1 q2 q3 q4 => (m2 q q1).trans (yq q q1 q2 q3 q4)
  have z73 : ∀ i, gi y1 73 i = gi (pi (pi (pi y 73 (4 * T + 0) (n32 ([] : List Int32).length)) 73 (4 * T + 1) (n32 ea.length)) 73 (4 * T + 2) (n32 (ea ++ eb).length)) 73 i := fun i => by rw [gi_of (m2 73 (by omega)), gi_of (k1 73 (by omega) (by omega) (by omega))]
  have z72 : ∀ i, i < 200 * T → gi y1 72 i = gi y 72 i := fun i hi => by rw [gi_of (m2 72 (by omega)), k4 i hi, gp_q _ _ _ _ (by omega), gp_q _ _ _ _ (by omega), gp_q _ _ _ _ (by omega)]
  have z20 : gi y1 61 20 = n32 T := (z61 20 (by omega) (by omega) (by omega) (by omega)).trans t4
  have z39 : gi y1 61 39 = n32 (ea ++ eb ++ ec).length := (m4 39 (by omega)).trans w2
  have hsb := st_b (b := b) hpc
  have h8 := Xc'.2.2.2.2.2.2.2.2.1
  have xq : ∀ q, q ≠ 26 → q ≠ 28 → q ≠ 29 → (pi xc 29 2 (n32 (ea ++ eb ++ ec).length)).1 q = x.1 q := fun q q1 q2 q3 => by rw [Xc'.1 q q1 q2, pi1_q _ _ _ q3, pi1_q _ _ _ q3, pi1_q _ _ _ q3]
  have TE : f_X11_text_26 997 yc 1 (n32 3) = if gi y1 61 33 = 0 then f_X11_text_122 y1 1 else f_X11_text_122 y1 0 := by
    rw [f_X11_text_26, if_pos (show (3 : Int32) ≤ n32 3 by decide)]
    unfold f_X11_text_101 f_X11_text_121
    rw [if_neg (show ¬ (1 : Int32) = 0 by decide), n1, Option.bind_some]
  have PPe : ∀ (z : CS), (∀ q, q ≠ 26 → q ≠ 28 → q ≠ 29 → z.1 q = x.1 q) → z.2 = x.2 → PP (f_X6_empty z) (pi (pi y1 73 (4 * T + 3) (gi y1 61 39)) 61 17 0) := fun z hz hz2 =>
    PP_txt hP t4 (by omega) (fun q q1 q2 q3 => by
      show (pi z 26 1 0).1 q = x.1 q
      rw [pi1_q _ _ _ q1]; exact hz q q1 q2 q3) hz2 (by show gi (pi z 26 1 0) 26 1 = 0; rw [gp_eq]) (fun q q1 q2 q3 q4 => by rw [pi1_q _ _ _ q1, pi1_q _ _ _ q3]; exact zq q q1 q2 q3 q4) (fun i i1 i2 i3 i4 i5 => by rw [gp_j _ _ _ i5, gp_q _ _ _ _ (by omega)]; exact z61 i i1 i2 i3 i4) (by rw [gp_eq]) (fun i hi => by rw [gp_q _ _ _ _ (by omega), gp_q _ _ _ _ (by omega)]; exact z72 i hi) (fun i hi => by rw [gp_q _ _ _ _ (by omega), gp_j _ _ _ (by omega), z73, gp_j _ _ _ (by omega), gp_j _ _ _ (by omega), gp_j _ _ _ (by omega)])
  by_cases cf : tok b N pc = TK.fin
  · have R4 : f_X6_read_26 997 (pi xc 29 2 (n32 (ea ++ eb ++ ec).length)) (n32 3) = some (-1, pi xc 29 2 (n32 (ea ++ eb ++ ec).length)) := by
      rw [f_X6_read_26, if_pos (show (2 : Int32) < n32 3 by decide), h8, if_pos ((m_is ok).2.2.1.mpr cf)]
      unfold f_X6_read_80
      rw [Xc'.2.2.2.2.1]
    rw [if_pos (show gi y1 61 33 = 0 by rw [m7]; exact (m_is ok).2.1.mpr cf), (M_122 z20 hT).2] at TE
    rw [R1, R2, R3, R4, Option.bind_some, if_pos (show (-1 : Int32) < 0 by decide), M1, M2, M3, TE]
    have P3 := PPe (pi xc 29 2 (n32 (ea ++ eb ++ ec).length)) xq Xc'.2.1
    have e10 : gi (f_X6_empty (pi xc 29 2 (n32 (ea ++ eb ++ ec).length))) 10 3 = n32 T := by
      show gi (pi (pi xc 29 2 (n32 (ea ++ eb ++ ec).length)) 26 1 0) 10 3 = n32 T
      rw [gp_q _ _ _ _ (by omega), gi_of (xq 10 (by omega) (by omega) (by omega))]; exact t3
    obtain ⟨x9, b1, b2, b3, b4, b5, b6⟩ := X_keep e10 hT
    have e20 : gi (pi (pi y1 73 (4 * T + 3) (gi y1 61 39)) 61 17 0) 61 20 = n32 T := by rw [gp_j _ _ _ (by omega), gp_q _ _ _ _ (by omega)]; exact z20
    refine ⟨n32 T, x9, _, by rw [b1, Option.bind_some], rfl, PP_keep P3 e20 hT b2 b3 b4 ?_⟩
    have lab : (ea ++ eb).length = ea.length + eb.length := List.length_append
    have labc : (ea ++ eb ++ ec).length = ea.length + eb.length + ec.length := by rw [List.length_append, lab]
    have M72 : ∀ i c, (ea ++ eb ++ ec)[i]? = some c → gi (pi (pi y1 73 (4 * T + 3) (gi y1 61 39)) 61 17 0) 72 (200 * T + i) = c := fun i c hc => by
      rw [gp_q _ _ _ _ (by omega), gp_q _ _ _ _ (by omega), gi_of (m2 72 (by omega))]; exact w3 i c hc
    have E28 : ∀ i c, (ea ++ eb ++ ec)[i]? = some c → gi x9 (12 + T) i = trc c := fun i c hc => by
      have hi : i < (ea ++ eb ++ ec).length := by
        rcases Nat.lt_or_ge i (ea ++ eb ++ ec).length with q | q
        · exact q
        · rw [List.getElem?_eq_none q] at hc; cases hc
      rw [b5 i (by omega)]
      show gi (pi (pi xc 29 2 (n32 (ea ++ eb ++ ec).length)) 26 1 0) 28 i = trc c
      rw [gp_q _ _ _ _ (by omega)]; exact Xc'.2.2.2.2.2.2.2.2.2.2 i c hc
    have E29 : ∀ p, p < 3 → gi x9 (19 + T) p = gi (pi (pi (pi x 29 0 (n32 ea.length)) 29 1 (n32 (ea ++ eb).length)) 29 2 (n32 (ea ++ eb ++ ec).length)) 29 p := fun p hp => by
      rw [b6 p hp]
      show gi (pi (pi xc 29 2 (n32 (ea ++ eb ++ ec).length)) 26 1 0) 29 p = _
      rw [gp_q _ _ _ _ (by omega)]
      exact gi_of (Xc'.1 29 (by omega) (by omega)) p
    have Z73 : ∀ p, p < 3 → gi (pi (pi y1 73 (4 * T + 3) (gi y1 61 39)) 61 17 0) 73 (4 * T + p) = gi (pi (pi (pi y 73 (4 * T + 0) (n32 ([] : List Int32).length)) 73 (4 * T + 1) (n32 ea.length)) 73 (4 * T + 2) (n32 (ea ++ eb).length)) 73 (4 * T + p) := fun p hp => by rw [gp_q _ _ _ _ (by omega), gp_j _ _ _ (by omega)]; exact z73 _
    have wfp : ∀ (A e B : List Int32), A ++ e ++ B = ea ++ eb ++ ec → WL e 0 1 → wfI (fun i => gi (pi (pi y1 73 (4 * T + 3) (gi y1 61 39)) 61 17 0) 72 (200 * T + i)) e.length A.length 0 := fun A e B hA hw => wf_WL e A.length 0 (fun j c hc => M72 _ _ (by rw [← hA]; exact ap_get hc)) hw
    refine ⟨fun p => if p = 0 then 0 else if p = 1 then ea.length else if p = 2 then (ea ++ eb).length else (ea ++ eb ++ ec).length, ⟨rfl, Nat.zero_le _, ?_, ?_, ?_, fun p hp => ?_⟩, fun p hp => ?_, fun p hp => ?_, fun j hj => ?_⟩
    · show ea.length ≤ (ea ++ eb).length; omega
    · show (ea ++ eb).length ≤ (ea ++ eb ++ ec).length; omega
    · show (ea ++ eb ++ ec).length ≤ 160; omega
    · rcases (by omega : p = 0 ∨ p = 1 ∨ p = 2) with rfl | rfl | rfl
      · exact wfp [] ea (eb ++ ec) (by rw [List.nil_append, List.append_assoc]) wa
      · have := wfp ea eb ec rfl wb
        have e : (ea ++ eb).length - ea.length = eb.length := by omega
        show wfI _ ((ea ++ eb).length - ea.length) ea.length 0
        rw [e]; exact this
      · have := wfp (ea ++ eb) ec [] (List.append_nil _) wc
        have e : (ea ++ eb ++ ec).length - (ea ++ eb).length = ec.length := by omega
        show wfI _ ((ea ++ eb ++ ec).length - (ea ++ eb).length) (ea ++ eb).length 0
        rw [e]; exact this
    · rcases (by omega : p = 0 ∨ p = 1 ∨ p = 2 ∨ p = 3) with rfl | rfl | rfl | rfl
      · show gi _ 73 (4 * T + 0) = n32 0
        rw [Z73 0 (by omega), gp_j _ _ _ (by omega), gp_j _ _ _ (by omega), gp_eq]; rfl
      · show gi _ 73 (4 * T + 1) = n32 ea.length
        rw [Z73 1 (by omega), gp_j _ _ _ (by omega), gp_eq]
      · show gi _ 73 (4 * T + 2) = n32 (ea ++ eb).length
        rw [Z73 2 (by omega), gp_eq]
      · show gi _ 73 (4 * T + 3) = n32 (ea ++ eb ++ ec).length
        rw [gp_q _ _ _ _ (by omega), gp_eq, z39]
    · rcases (by omega : p = 0 ∨ p = 1 ∨ p = 2) with rfl | rfl | rfl
      · show gi x9 (19 + T) 0 = n32 ea.length
        rw [E29 0 (by omega), gp_j _ _ _ (by omega), gp_j _ _ _ (by omega), gp_eq]
      · show gi x9 (19 + T) 1 = n32 (ea ++ eb).length
        rw [E29 1 (by omega), gp_j _ _ _ (by omega), gp_eq]
      · show gi x9 (19 + T) 2 = n32 (ea ++ eb ++ ec).length
        rw [E29 2 (by omega), gp_eq]
    · have hj : j < (ea ++ eb ++ ec).length := hj
      have hc := List.getElem?_eq_getElem hj
      show gi x9 (12 + T) j = trc (gi _ 72 (200 * T + j))
      rw [M72 j _ hc, E28 j _ hc]
  · have KFx := X_fail hB Xc' hpc
    have R4 : f_X6_read_26 997 (pi xc 29 2 (n32 (ea ++ eb ++ ec).length)) (n32 3) = some (n32 (st b N pc), f_X6_fail (pi xc 29 2 (n32 (ea ++ eb ++ ec).length))) := by
      rw [f_X6_read_26, if_pos (show (2 : Int32) < n32 3 by decide), h8, if_neg (fun q => cf ((m_is ok).2.2.1.mp q))]
      unfold f_X6_read_80
      rw [KFx.2.2.2.1]
    rw [if_neg (show ¬ gi y1 61 33 = 0 by rw [m7]; exact fun q => cf ((m_is ok).2.1.mp q)), (M_122 z20 hT).1, m6] at TE
    refine OUT _ _ _ (R1.trans (R2.trans (R3.trans R4))) (by have := hB.1; omega) (M1.trans (M2.trans (M3.trans TE))) (PPe _ (fun q q1 q2 q3 => ?_) (KFx.2.1.trans rfl))
    rw [KFx.1 q q1 q2, pi1_q _ _ _ q3, pi1_q _ _ _ q3, pi1_q _ _ _ q3]
