/-! ===== pure: the two readers' states and steps ===== -/
def cnq : List Int32 → Nat
  | [] => 0
  | h :: H => cnq H + (if h = 0 ∨ h = 13 ∨ h = 19 then 1 else 0)
def unw (k : Int32) : List Int32 → List Int32 → List Int32 × List Int32
  | E, [] => (E, [])
  | E, h :: H => if f_X11_rank h < k then (E, h :: H) else unw k (E ++ [h]) H
theorem unw_len (k : Int32) : ∀ H E : List Int32, (unw k E H).1.length + (unw k E H).2.length = E.length + H.length := by
  intro H
  induction H with
  | nil => intro E; rfl
  | cons h H ih =>
    intro E
    rw [unw]
    by_cases c : f_X11_rank h < k
    · rw [if_pos c]
    · rw [if_neg c, ih, List.length_append, List.length_cons, List.length_cons, List.length_nil]; omega
theorem unw_2 {k l : Int32} (hk : k ≤ l) : ∀ H E : List Int32, unw k (unw l E H).1 (unw l E H).2 = unw k E H := by
  intro H
  induction H with
  | nil => intro E; rfl
  | cons h H ih =>
    intro E
    rw [unw]
    by_cases c : f_X11_rank h < l
    · rw [if_pos c]
    · have c2 : ¬ f_X11_rank h < k := fun q => c (by rw [i32_lt] at *; rw [i32_le] at hk; omega)
      rw [if_neg c, ih, unw, if_neg c2]
theorem unw_dn {k l : Int32} (hk : k ≤ l) {E H E' H' : List Int32} (h : unw l E H = unw l E' H') : unw k E H = unw k E' H' := by
  rw [← unw_2 hk H E, h, unw_2 hk]
def TL (k : Int32) (H : List Int32) : Prop := ∀ h r, H = h :: r → f_X11_rank h < k
theorem unw_t {k : Int32} {E H : List Int32} (h : TL k H) : unw k E H = (E, H) := by
  cases H with
  | nil => rfl
  | cons a H => rw [unw, if_pos (h a H rfl)]
theorem unw_p {k h : Int32} {E H : List Int32} (c : ¬ f_X11_rank h < k) : unw k E (h :: H) = unw k (E ++ [h]) H := by rw [unw, if_neg c]
theorem sn_get {E : List Int32} {c d : Int32} {i : Nat} (h : (E ++ [c])[i]? = some d) : E[i]? = some d ∨ (i = E.length ∧ d = c) := by
  rcases Nat.lt_or_ge i E.length with a | a
  · rw [List.getElem?_append_left a] at h; exact Or.inl h
  · rw [List.getElem?_append_right a] at h
    rcases (by omega : i - E.length = 0 ∨ 0 < i - E.length) with e | e
    · rw [e] at h
      exact Or.inr ⟨by omega, (Option.some.inj h).symm⟩
    · obtain ⟨w, hw⟩ : ∃ w, i - E.length = w + 1 := ⟨i - E.length - 1, by omega⟩
      rw [hw] at h; cases h
def HLD (y : MS) : List Int32 → Prop
  | [] => True
  | h :: H => gi y 81 H.length = h ∧ HLD y H
theorem HLD_of {y y' : MS} : ∀ H : List Int32, (∀ j, j < H.length → gi y' 81 j = gi y 81 j) → HLD y H → HLD y' H := by
  intro H
  induction H with
  | nil => intro _ _; exact trivial
  | cons h H ih =>
    intro e k
    exact ⟨(e _ (by rw [List.length_cons]; omega)).trans k.1, ih (fun j hj => e j (by rw [List.length_cons]; omega)) k.2⟩
/-- the class's reader at the token from p, E told, o open -/
def KX (b : Nat → Int32) (N : Nat) (x0 x : CS) (p : Nat) (E : List Int32) (o : Nat) : Prop := (∀ q, q ≠ 26 → q ≠ 28 → x.1 q = x0.1 q) ∧ x.2 = x0.2 ∧ gi x 26 1 = n32 N ∧ gi x 26 4 = n32 E.length ∧ gi x 26 5 = -1 ∧ gi x 26 6 = n32 o ∧ gi x 26 7 = n32 (nx b N p) ∧ gi x 26 9 = n32 (st b N p) ∧ gi x 26 8 = (tok b N p).c ∧ (∀ v, tok b N p = TK.num v → gi x 26 10 = v) ∧ ∀ i c, E[i]? = some c → gi x 28 i = trc c
/-- the class's reader failed at f -/
def KF (N : Nat) (x0 x : CS) (f : Nat) : Prop := (∀ q, q ≠ 26 → q ≠ 28 → x.1 q = x0.1 q) ∧ x.2 = x0.2 ∧ gi x 26 1 = n32 N ∧ gi x 26 5 = n32 f ∧ f ≤ 160
/-- what the check's reader leaves alone -/
def KG (T : Nat) (y0 y : MS) : Prop := (∀ q, q ≠ 61 → q ≠ 72 → q ≠ 81 → y.1 q = y0.1 q) ∧ y.2 = y0.2 ∧ (∀ j, (j < 31 ∨ 34 < j) → j ≠ 37 → j ≠ 38 → j ≠ 39 → gi y 61 j = gi y0 61 j) ∧ ∀ j, j < 200 * T → gi y 72 j = gi y0 72 j
def KY (T : Nat) (y0 y : MS) (p : Nat) (E H : List Int32) : Prop := KG T y0 y ∧ gi y 61 31 = n32 p ∧ gi y 61 37 = n32 H.length ∧ gi y 61 38 = n32 (cnq H) ∧ gi y 61 39 = n32 E.length ∧ (∀ i c, E[i]? = some c → gi y 72 (200 * T + i) = c) ∧ HLD y H
theorem KX_T {b : Nat → Int32} {N : Nat} {x0 x : CS} {p o : Nat} {E : List Int32} (h0 : TBx b N x0) (h : KX b N x0 x p E o) : TBx b N x := ⟨h.2.2.1, fun i hi => by rw [gi_of (h.1 27 (by omega) (by omega))]; exact h0.2 i hi⟩
theorem X_adv2 {b : Nat → Int32} {N : Nat} (hB : BB b N) {x0 x : CS} {p o : Nat} {E : List Int32} (h0 : TBx b N x0) (h : KX b N x0 x p E o) (hp : p ≤ N) : ∃ x', f_X6_advance x = some x' ∧ KX b N x0 x' (nx b N p) E o := by
  have hT := KX_T h0 h
  obtain ⟨h1, h2, h3, h4, h5, h6, h7, h8, h9, h10, h11⟩ := h
  have hn := nx_b (b := b) hp
  obtain ⟨x', a1, a2, a3, a4, a5, a6, a7, a8⟩ := X_adv hB hT (by rw [h5]; decide) h7 hn.2.1
  exact ⟨x', a1, fun q q1 q2 => (a2 q q1).trans (h1 q q1 q2), a3.trans h2, (a4 1 (by omega)).trans h3, (a4 4 (by omega)).trans h4, (a4 5 (by omega)).trans h5, (a4 6 (by omega)).trans h6, a5, a6, a7, a8, fun i c hc => by rw [gi_of (a2 28 (by omega))]; exact h11 i c hc⟩
theorem X_emit {b : Nat → Int32} {N : Nat} {x0 x : CS} {p o : Nat} {E : List Int32} (h : KX b N x0 x p E o) (hE : E.length < 160) {v c : Int32} (hv : v = trc c) : ∃ x', f_X6_emit x v = some x' ∧ KX b N x0 x' p (E ++ [c]) o := by
  obtain ⟨h1, h2, h3, h4, h5, h6, h7, h8, h9, h10, h11⟩ := h
  unfold f_X6_emit
  rw [h5, if_neg (show ¬ (0 : Int32) ≤ -1 by decide), h4, if_neg (show ¬ (160 : Int32) ≤ n32 E.length from n_nle (i := 160) hE (by omega)), gd_t (ib_n hE (by omega)), n32_nat (by omega), gp_q _ _ _ _ (by omega), h4, n_inc]
  have g : ∀ j, j ≠ 4 → gi (pi (pi x 28 E.length v) 26 4 (n32 (E.length + 1))) 26 j = gi x 26 j := fun j hj => by rw [gp_j _ _ _ hj, gp_q _ _ _ _ (by omega)]
  refine ⟨_, rfl, fun q q1 q2 => by rw [pi1_q _ _ _ q1, pi1_q _ _ _ q2]; exact h1 q q1 q2, h2, (g 1 (by omega)).trans h3, by rw [gp_eq, List.length_append]; rfl, (g 5 (by omega)).trans h5, (g 6 (by omega)).trans h6, (g 7 (by omega)).trans h7, (g 9 (by omega)).trans h8, (g 8 (by omega)).trans h9, fun w hw => (g 10 (by omega)).trans (h10 w hw), fun i d hd => ?_⟩
  rw [gp_q _ _ _ _ (by omega)]
  rcases sn_get hd with a | ⟨a, a2⟩
  · have hi : i < E.length := by
      rcases Nat.lt_or_ge i E.length with q | q
      · exact q
      · rw [List.getElem?_eq_none q] at a; cases a
    rw [gp_j _ _ _ (by omega)]; exact h11 i d a
  · rw [a, gp_eq, a2, hv]
theorem X_fail {b : Nat → Int32} {N : Nat} (hB : BB b N) {x0 x : CS} {p o : Nat} {E : List Int32} (h : KX b N x0 x p E o) (hp : p ≤ N) : KF N x0 (f_X6_fail x) (st b N p) := by
  have hN := hB.1
  obtain ⟨h1, h2, h3, h4, h5, h6, h7, h8, h9, h10, h11⟩ := h
  have hs := st_b (b := b) hp
  unfold f_X6_fail
  rw [h5, if_neg (show ¬ (0 : Int32) ≤ -1 by decide), h8]
  exact ⟨fun q q1 q2 => by rw [pi1_q _ _ _ q1]; exact h1 q q1 q2, h2, by rw [gp_j _ _ _ (by omega)]; exact h3, by rw [gp_eq], by omega⟩
theorem X_op6 {b : Nat → Int32} {N : Nat} {x0 x : CS} {p o o' : Nat} {E : List Int32} {v : Int32} (h : KX b N x0 x p E o) (hv : v = n32 o') : KX b N x0 (pi x 26 6 v) p E o' := by
  obtain ⟨h1, h2, h3, h4, h5, h6, h7, h8, h9, h10, h11⟩ := h
  exact ⟨fun q q1 q2 => by rw [pi1_q _ _ _ q1]; exact h1 q q1 q2, h2, by rw [gp_j _ _ _ (by omega)]; exact h3, by rw [gp_j _ _ _ (by omega)]; exact h4, by rw [gp_j _ _ _ (by omega)]; exact h5, by rw [gp_eq, hv], by rw [gp_j _ _ _ (by omega)]; exact h7, by rw [gp_j _ _ _ (by omega)]; exact h8, by rw [gp_j _ _ _ (by omega)]; exact h9, fun w hw => by rw [gp_j _ _ _ (by omega)]; exact h10 w hw, fun i c hc => by rw [gp_q _ _ _ _ (by omega)]; exact h11 i c hc⟩
theorem X_cl {b : Nat → Int32} {N : Nat} {x0 x : CS} {p o : Nat} {E : List Int32} (h : KX b N x0 x p E (o + 1)) : KX b N x0 (pi x 26 6 (gi x 26 6 - 1)) p E o := X_op6 h (by rw [h.2.2.2.2.2.1, q_1, n32_sub (by omega)]; rfl)
theorem X_opn {b : Nat → Int32} {N : Nat} (hB : BB b N) {x0 x : CS} {p o : Nat} {E : List Int32} (h : KX b N x0 x p E o) (hp : p ≤ N) (ho : o ≤ 5) : (o < 5 ∧ (f_X6_opens x).1 = true ∧ KX b N x0 (f_X6_opens x).2 p E (o + 1)) ∨ (o = 5 ∧ (f_X6_opens x).1 = false ∧ KF N x0 (f_X6_opens x).2 (st b N p)) := by
  have hN := hB.1
  have hs := st_b (b := b) hp
  have hx := h
  obtain ⟨h1, h2, h3, h4, h5, h6, h7, h8, h9, h10, h11⟩ := h
  unfold f_X6_opens f_X6_opens_12
  rcases (by omega : o < 5 ∨ o = 5) with c | c
  · refine Or.inl ⟨c, ?_⟩
    rw [h6, if_pos (show n32 o < (5 : Int32) from n_lt (j := 5) c (by omega)), h5, if_pos (show (-1 : Int32) < 0 by decide), n_inc]
    exact ⟨rfl, X_op6 hx rfl⟩
  · refine Or.inr ⟨c, ?_⟩
    have kf := X_fail hB hx hp
    have n0 : ¬ gi (f_X6_fail x) 26 5 < 0 := by rw [kf.2.2.2.1]; exact n_nlt (i := st b N p) (j := 0) (by omega) (by omega)
    rw [h6, if_neg (show ¬ n32 o < (5 : Int32) from n_nlt (i := o) (j := 5) (by omega) (by omega)), if_neg n0]
    exact ⟨rfl, kf⟩
/-! once failed, always failed -/
theorem KF_0 {N : Nat} {x0 x : CS} {f : Nat} (h : KF N x0 x f) : (0 : Int32) ≤ gi x 26 5 ∧ ¬ gi x 26 5 < 0 := by
  rw [h.2.2.2.1]
  have := h.2.2.2.2
  exact ⟨n_le (i := 0) (by omega) (by omega), n_nlt (i := f) (j := 0) (by omega) (by omega)⟩
theorem F_adv {N : Nat} {x0 x : CS} {f : Nat} (h : KF N x0 x f) : f_X6_advance x = some x := by unfold f_X6_advance; rw [if_neg (KF_0 h).2]
theorem F_emit {N : Nat} {x0 x : CS} {f : Nat} (h : KF N x0 x f) (v : Int32) : f_X6_emit x v = some x := by unfold f_X6_emit; rw [if_pos (KF_0 h).1]
theorem F_fail {N : Nat} {x0 x : CS} {f : Nat} (h : KF N x0 x f) : f_X6_fail x = x := by unfold f_X6_fail; rw [if_pos (KF_0 h).1]
theorem F_exp {N : Nat} {x0 x : CS} {f : Nat} (h : KF N x0 x f) (v : Int32) : f_X6_expect x v = some x := by
  unfold f_X6_expect
  rw [F_adv h, F_fail h]
  split <;> rfl
theorem F_opn {N : Nat} {x0 x : CS} {f : Nat} (h : KF N x0 x f) : f_X6_opens x = (false, x) := by
  unfold f_X6_opens f_X6_opens_12
  rw [F_fail h, if_neg (KF_0 h).2]
  split <;> rfl
theorem F_cl {N : Nat} {x0 x : CS} {f : Nat} (h : KF N x0 x f) (v : Int32) : KF N x0 (pi x 26 6 v) f := by
  obtain ⟨h1, h2, h3, h4, h5⟩ := h
  exact ⟨fun q q1 q2 => by rw [pi1_q _ _ _ q1]; exact h1 q q1 q2, h2, by rw [gp_j _ _ _ (by omega)]; exact h3, by rw [gp_j _ _ _ (by omega)]; exact h4, h5⟩
theorem F_one {N : Nat} {x0 x : CS} {f : Nat} {rO rN rE : CS → Option CS} (h : KF N x0 x f) : f_X6_readOne rO rN rE x = some x := by unfold f_X6_readOne; rw [if_neg (KF_0 h).2]
theorem F_term6 {N : Nat} {x0 x : CS} {f : Nat} {rO rN rE : CS → Option CS} (h : KF N x0 x f) (g : Nat) (i : Int32) : f_X6_readTerm_6 rO rN rE (g + 1) x i = some x := by
  rw [f_X6_readTerm_6, if_pos (KF_0 h).1]; split <;> rfl
theorem F_term {N : Nat} {x0 x : CS} {f : Nat} {rO rN rE : CS → Option CS} (h : KF N x0 x f) : f_X6_readTerm rO rN rE x = some x := by
  unfold f_X6_readTerm; rw [F_one h, Option.bind_some]; exact F_term6 h 999 0
theorem F_sum6 {N : Nat} {x0 x : CS} {f : Nat} {rO rN rE : CS → Option CS} (h : KF N x0 x f) (g : Nat) (i : Int32) : f_X6_readSum_6 rO rN rE (g + 1) x i = some x := by
  rw [f_X6_readSum_6, if_pos (KF_0 h).1]; split <;> rfl
theorem F_sum {N : Nat} {x0 x : CS} {f : Nat} {rO rN rE : CS → Option CS} (h : KF N x0 x f) : f_X6_readSum rO rN rE x = some x := by
  unfold f_X6_readSum; rw [F_term h, Option.bind_some]; exact F_sum6 h 999 0
theorem F_not {N : Nat} {x0 x : CS} {f : Nat} {rO rN rE : CS → Option CS} (h : KF N x0 x f) : f_X6_readNot rO rN rE x = some x := by
  unfold f_X6_readNot f_X6_readNot_64 f_X6_readNot_80
  simp only [F_opn h, F_sum h, F_adv h, F_emit h, Option.bind_some]
  repeat' split
  all_goals first | rfl | (rename_i q; exact absurd b2i_f q)
theorem F_both6 {N : Nat} {x0 x : CS} {f : Nat} {rO rN rE : CS → Option CS} (h : KF N x0 x f) (g : Nat) (i : Int32) : f_X6_readBoth_6 rO rN rE (g + 1) x i = some x := by
  rw [f_X6_readBoth_6, if_pos (KF_0 h).1]; split <;> rfl
theorem F_both {N : Nat} {x0 x : CS} {f : Nat} {rO rN rE : CS → Option CS} (h : KF N x0 x f) : f_X6_readBoth rO rN rE x = some x := by
  unfold f_X6_readBoth; rw [F_not h, Option.bind_some]; exact F_both6 h 999 0
theorem F_eith6 {N : Nat} {x0 x : CS} {f : Nat} {rO rN rE : CS → Option CS} (h : KF N x0 x f) (g : Nat) (i : Int32) : f_X6_readEither_6 rO rN rE (g + 1) x i = some x := by
  rw [f_X6_readEither_6, if_pos (KF_0 h).1]; split <;> rfl
theorem F_eith {N : Nat} {x0 x : CS} {f : Nat} {rO rN rE : CS → Option CS} (h : KF N x0 x f) : f_X6_readEither rO rN rE x = some x := by
  unfold f_X6_readEither; rw [F_both h, Option.bind_some]; exact F_eith6 h 999 0
/-! the check's steps -/
def TF (y y' : MS) : Prop := ∀ j, 31 ≤ j → j ≤ 34 → gi y' 61 j = gi y 61 j
theorem M_nx2 {b : Nat → Int32} {N T : Nat} (hB : BB b N) {y0 y : MS} {p : Nat} {E H : List Int32} (h0 : TBy b N y0) (h : KY T y0 y p E H) (hp : p ≤ N) : (tok b N p).ok ∧ ∃ y', f_X11_next y = some y' ∧ KY T y0 y' (nx b N p) E H ∧ gi y' 61 32 = n32 (st b N p) ∧ gi y' 61 33 = (tok b N p).m ∧ (∀ v, tok b N p = TK.num v → gi y' 61 34 = v) ∧ (∀ k, k < 6 → tok b N p = TK.att k → gi y' 61 34 = n32 k) ∧ ∀ k, k < 3 → tok b N p = TK.nam k → gi y' 61 34 = n32 k := by
  obtain ⟨⟨g1, g2, g3, g4⟩, h1, h2, h3, h4, h5, h6⟩ := h
  have hT : TBy b N y := ⟨by rw [g3 17 (by omega) (by omega) (by omega) (by omega)]; exact h0.1, fun i hi => by rw [gi_of (g1 71 (by omega) (by omega) (by omega))]; exact h0.2 i hi⟩
  obtain ⟨ok, y', a1, a2, a3, a4, a5, a6, a7, a8, a9, a10⟩ := M_nxt hB hT h1 hp
  refine ⟨ok, y', a1, ⟨⟨fun q q1 q2 q3 => (a2 q q1).trans (g1 q q1 q2 q3), a3.trans g2, fun j j1 j2 j3 j4 => (a4 j j1).trans (g3 j j1 j2 j3 j4), fun j hj => by rw [gi_of (a2 72 (by omega))]; exact g4 j hj⟩, a5, (a4 37 (by omega)).trans h2, (a4 38 (by omega)).trans h3, (a4 39 (by omega)).trans h4, fun i c hc => by rw [gi_of (a2 72 (by omega))]; exact h5 i c hc, HLD_of H (fun j _ => gi_of (a2 81 (by omega)) j) h6⟩, a6, a7, a8, a9, a10⟩
theorem M_put {T p : Nat} {y0 y : MS} {E H : List Int32} (h20 : gi y0 61 20 = n32 T) (hT : T < 6) (h : KY T y0 y p E H) (hE : E.length < 160) (c : Int32) : ∃ y', f_X11_puts y c = some y' ∧ KY T y0 y' p (E ++ [c]) H ∧ TF y y' := by
  obtain ⟨⟨g1, g2, g3, g4⟩, h1, h2, h3, h4, h5, h6⟩ := h
  have e20 : gi y 61 20 = n32 T := (g3 20 (by omega) (by omega) (by omega) (by omega)).trans h20
  unfold f_X11_puts
  rw [e20, h4, q_200, n32_mul, n32_add, gd_t (ib_n (by omega) (by omega)), n32_nat (by omega), gp_q _ _ _ _ (by omega), h4, n_inc]
  have g : ∀ j, j ≠ 39 → gi (pi (pi y 72 (200 * T + E.length) c) 61 39 (n32 (E.length + 1))) 61 j = gi y 61 j := fun j hj => by rw [gp_j _ _ _ hj, gp_q _ _ _ _ (by omega)]
  refine ⟨_, rfl, ⟨⟨fun q q1 q2 q3 => by rw [pi1_q _ _ _ q1, pi1_q _ _ _ q2]; exact g1 q q1 q2 q3, g2, fun j j1 j2 j3 j4 => (g j j4).trans (g3 j j1 j2 j3 j4), fun j hj => by rw [gp_q _ _ _ _ (by omega), gp_j _ _ _ (by omega)]; exact g4 j hj⟩, (g 31 (by omega)).trans h1, (g 37 (by omega)).trans h2, (g 38 (by omega)).trans h3, by rw [gp_eq, List.length_append]; rfl, fun i d hd => ?_, HLD_of H (fun j _ => by rw [gp_q _ _ _ _ (by omega), gp_q _ _ _ _ (by omega)]) h6⟩, fun j j1 j2 => g j (by omega)⟩
  rw [gp_q _ _ _ _ (by omega)]
  rcases sn_get hd with a | ⟨a, a2⟩
  · have hi : i < E.length := by
      rcases Nat.lt_or_ge i E.length with q | q
      · exact q
      · rw [List.getElem?_eq_none q] at a; cases a
    rw [gp_j _ _ _ (by omega)]; exact h5 i d a
  · rw [a, gp_eq, a2]
theorem M_hold {T p : Nat} {y0 y : MS} {E H : List Int32} {k : Nat} (h : KG T y0 y ∧ gi y 61 31 = n32 p ∧ gi y 61 37 = n32 H.length ∧ gi y 61 38 = n32 k ∧ gi y 61 39 = n32 E.length ∧ (∀ i c, E[i]? = some c → gi y 72 (200 * T + i) = c) ∧ HLD y H) (hH : H.length < 200) {c : Int32} (hk : k = cnq (c :: H)) : ∃ y', f_X11_holds_ y c = some y' ∧ KY T y0 y' p E (c :: H) ∧ TF y y' := by
  obtain ⟨⟨g1, g2, g3, g4⟩, h1, h2, h3, h4, h5, h6⟩ := h
  unfold f_X11_holds_
  rw [h2, gd_t (ib_n hH (by omega)), n32_nat (by omega), gp_q _ _ _ _ (by omega), h2, n_inc]
  have g : ∀ j, j ≠ 37 → gi (pi (pi y 81 H.length c) 61 37 (n32 (H.length + 1))) 61 j = gi y 61 j := fun j hj => by rw [gp_j _ _ _ hj, gp_q _ _ _ _ (by omega)]
  exact ⟨_, rfl, ⟨⟨fun q q1 q2 q3 => by rw [pi1_q _ _ _ q1, pi1_q _ _ _ q3]; exact g1 q q1 q2 q3, g2, fun j j1 j2 j3 j4 => (g j j2).trans (g3 j j1 j2 j3 j4), fun j hj => by rw [gp_q _ _ _ _ (by omega), gp_q _ _ _ _ (by omega)]; exact g4 j hj⟩, (g 31 (by omega)).trans h1, by rw [gp_eq]; rfl, by rw [← hk]; exact (g 38 (by omega)).trans h3, (g 39 (by omega)).trans h4, fun i d hd => by rw [gp_q _ _ _ _ (by omega), gp_q _ _ _ _ (by omega)]; exact h5 i d hd, by rw [gp_q _ _ _ _ (by omega), gp_eq], HLD_of H (fun j hj => by rw [gp_q _ _ _ _ (by omega), gp_j _ _ _ (by omega)]) h6⟩, fun j j1 j2 => g j (by omega)⟩
theorem rk_13 : f_X11_rank 13 = 3 ∧ f_X11_rank 19 = 7 ∧ f_X11_rank 0 = 0 := by decide
theorem M_unw {T p : Nat} {y0 : MS} (h20 : gi y0 61 20 = n32 T) (hT : T < 6) (k : Int32) : ∀ (H E : List Int32) (y : MS) (g : Nat), (∀ h, h ∈ H → f_X11_rank h < k ∨ h ≠ 0) → KY T y0 y p E H → E.length + H.length ≤ 160 → H.length < g → ∃ y', f_X11_unwinds_0 g y k = some y' ∧ KY T y0 y' p (unw k E H).1 (unw k E H).2 ∧ TF y y' := by
  intro H
  induction H with
  | nil =>
    intro E y g _ h hl hg
    obtain ⟨g, rfl⟩ : ∃ w, g = w + 1 := ⟨g - 1, by omega⟩
    refine ⟨y, ?_, h, fun _ _ _ => rfl⟩
    rw [f_X11_unwinds_0, h.2.2.1]
    exact if_pos (by show (n32 0) ≤ 0; decide)
  | cons a H ih =>
    intro E y g hz h hl hg
    obtain ⟨g, rfl⟩ : ∃ w, g = w + 1 := ⟨g - 1, by omega⟩
    rw [List.length_cons] at hl hg
    have hx := h
    obtain ⟨⟨g1, g2, g3, g4⟩, h1, h2, h3, h4, h5, h6, h7⟩ := h
    have e37 : n32 (H.length + 1) - 1 = n32 H.length := by rw [q_1, n32_sub (by omega)]; rfl
    rw [List.length_cons] at h2
    rw [f_X11_unwinds_0, h2, if_neg (show ¬ n32 (H.length + 1) ≤ 0 from n_nle (j := 0) (by omega) (by omega)), e37, gd_t (ib_n (by omega) (by omega)), n32_nat (by omega), h6, unw]
    by_cases c : f_X11_rank a < k
    · rw [if_pos c, if_pos c]
      exact ⟨y, rfl, hx, fun _ _ _ => rfl⟩
    · rw [if_neg c, if_neg c, gp_eq, gd_t (ib_n (by omega) (by omega)), n32_nat (by omega), gp_q _ _ _ _ (by omega), h6, gp_j _ _ _ (by omega), h3]
      have ha0 : a ≠ 0 := by
        rcases hz a List.mem_cons_self with q | q
        · exact absurd q c
        · exact q
      have W : ∀ (v : Int32), v = n32 (cnq H) → ∃ y', (f_X11_puts (pi (pi y 61 37 (n32 H.length)) 61 38 v) a).bind (fun r1 => f_X11_unwinds_0 g r1 k) = some y' ∧ KY T y0 y' p (unw k (E ++ [a]) H).1 (unw k (E ++ [a]) H).2 ∧ TF y y' := by
        intro v hv
        have gq : ∀ j, j ≠ 37 → j ≠ 38 → gi (pi (pi y 61 37 (n32 H.length)) 61 38 v) 61 j = gi y 61 j := fun j j1 j2 => by rw [gp_j _ _ _ j2, gp_j _ _ _ j1]
        have K : KY T y0 (pi (pi y 61 37 (n32 H.length)) 61 38 v) p E H := ⟨⟨fun q q1 q2 q3 => by rw [pi1_q _ _ _ q1, pi1_q _ _ _ q1]; exact g1 q q1 q2 q3, g2, fun j j1 j2 j3 j4 => (gq j j2 j3).trans (g3 j j1 j2 j3 j4), fun j hj => by rw [gp_q _ _ _ _ (by omega), gp_q _ _ _ _ (by omega)]; exact g4 j hj⟩, (gq 31 (by omega) (by omega)).trans h1, by rw [gp_j _ _ _ (by omega), gp_eq], by rw [gp_eq, hv], (gq 39 (by omega) (by omega)).trans h4, fun i d hd => by rw [gp_q _ _ _ _ (by omega), gp_q _ _ _ _ (by omega)]; exact h5 i d hd, HLD_of H (fun j _ => by rw [gp_q _ _ _ _ (by omega), gp_q _ _ _ _ (by omega)]) h7⟩
        obtain ⟨y1, a1, a2, a3⟩ := M_put h20 hT K (by omega) a
        obtain ⟨y2, b1, b2, b3⟩ := ih (E ++ [a]) y1 g (fun z hz2 => hz z (List.mem_cons_of_mem _ hz2)) a2 (by rw [List.length_append, List.length_cons, List.length_nil]; omega) (by omega)
        exact ⟨y2, by rw [a1]; exact b1, b2, fun j j1 j2 => (b3 j j1 j2).trans ((a3 j j1 j2).trans (gq j (by omega) (by omega)))⟩
      unfold f_X11_unwinds_62 f_X11_unwinds_67
      by_cases c1 : a = 13
      · rw [if_pos c1]
        refine W _ ?_
        have : cnq (a :: H) = cnq H + 1 := by rw [cnq, if_pos (Or.inr (Or.inl c1))]
        rw [this, q_1, n32_sub (by omega)]; rfl
      · rw [if_neg c1]
        by_cases c2 : a = 19
        · rw [if_pos c2]
          refine W _ ?_
          have : cnq (a :: H) = cnq H + 1 := by rw [cnq, if_pos (Or.inr (Or.inr c2))]
          rw [this, q_1, n32_sub (by omega)]; rfl
        · rw [if_neg c2]
          refine W _ ?_
          have : cnq (a :: H) = cnq H := by rw [cnq, if_neg (fun q => q.elim ha0 (fun r => r.elim c1 c2)), Nat.add_zero]
          rw [this, Int32.sub_zero]
/-- what an operator asks of the check's stack -/
def opp (t : TK) : Int32 := if t.1 = 4 then 11 else if t.1 = 5 then 12 else if t.1 = 14 then 14 else if t.1 = 15 then 15 else if t.1 = 11 then 16 else if t.1 = 12 then 17 else if t.1 = 13 then 18 else -1
theorem M_sgn {y : MS} {t : TK} (ok : t.ok) (h : gi y 61 33 = t.m) : f_X11_signOf y = opp t := by
  unfold f_X11_signOf
  rw [h]
  rcases ok with rfl | ⟨v, rfl, _⟩ | ⟨k, _, rfl⟩ | ⟨k, _, rfl⟩ | rfl | rfl | rfl | rfl | rfl | rfl | rfl | rfl | rfl | rfl | rfl | rfl <;> rfl
