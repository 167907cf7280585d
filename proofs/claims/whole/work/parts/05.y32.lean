/-! ===== pure: the check's reader, step by step ===== -/
def RUN (y : MS) (w a : Int32) (k : Nat) (y' : MS) (w' a' : Int32) : Prop := ∀ g, f_X11_eRead_14 (g + k) y w a = f_X11_eRead_14 g y' w' a'
theorem M_un {T p : Nat} {y0 y : MS} {E H : List Int32} (h20 : gi y0 61 20 = n32 T) (hT : T < 6) {k : Int32} (hk : 1 ≤ k.toInt) (h : KY T y0 y p E H) (hl : E.length + H.length ≤ 160) : ∃ y', f_X11_unwinds y k = some y' ∧ KY T y0 y' p (unw k E H).1 (unw k E H).2 ∧ TF y y' :=
  M_unw h20 hT k H E y 1000 (fun z _ => by
    by_cases c : z = 0
    · exact Or.inl (by rw [c, rk_13.2.2, i32_lt, z_0]; omega)
    · exact Or.inr c) h hl (by omega)
theorem M_op1 {T p : Nat} {y0 y : MS} {E H : List Int32} (h : KY T y0 y p E H) (hH : H.length < 200) (hc : cnq H ≤ 5) {c : Int32} (c0 : c = 0 ∨ c = 13 ∨ c = 19) : (cnq H = 5 ∧ f_X11_opensOne y c = some (false, y)) ∨ (cnq H < 5 ∧ ∃ y', f_X11_opensOne y c = some (true, y') ∧ KY T y0 y' p E (c :: H)) := by
  have hx := h
  obtain ⟨⟨g1, g2, g3, g4⟩, h1, h2, h3, h4, h5, h6⟩ := h
  unfold f_X11_opensOne
  rw [h3]
  rcases (by omega : cnq H = 5 ∨ cnq H < 5) with e | e
  · refine Or.inl ⟨e, ?_⟩
    rw [e, if_pos (show n32 5 = (5 : Int32) from rfl)]
  · refine Or.inr ⟨e, ?_⟩
    have g : ∀ j, j ≠ 38 → gi (pi y 61 38 (n32 (cnq H + 1))) 61 j = gi y 61 j := fun j hj => gp_j _ _ _ hj
    rw [if_neg (fun q : n32 (cnq H) = 5 => by have := (n32_inj (j := 5) (by omega) (by omega)).mp q; omega), n_inc]
    obtain ⟨y', a1, a2, _⟩ := M_hold (T := T) (p := p) (y0 := y0) (y := pi y 61 38 (n32 (cnq H + 1))) (E := E) (H := H) (k := cnq H + 1) ⟨⟨fun q q1 q2 q3 => by rw [pi1_q _ _ _ q1]; exact g1 q q1 q2 q3, g2, fun j j1 j2 j3 j4 => (g j j3).trans (g3 j j1 j2 j3 j4), fun j hj => by rw [gp_q _ _ _ _ (by omega)]; exact g4 j hj⟩, (g 31 (by omega)).trans h1, (g 37 (by omega)).trans h2, by rw [gp_eq], (g 39 (by omega)).trans h4, fun i d hd => by rw [gp_q _ _ _ _ (by omega)]; exact h5 i d hd, HLD_of H (fun j _ => by rw [gp_q _ _ _ _ (by omega)]) h6⟩ hH (c := c) (by rw [cnq, if_pos c0])
    exact ⟨y', by rw [a1]; rfl, a2⟩
theorem E_val {T p : Nat} {y0 y y1 : MS} {E H : List Int32} (h20 : gi y0 61 20 = n32 T) (hT : T < 6) (hn : f_X11_next y = some y1) (K : KY T y0 y1 p E H) (hl : E.length + H.length < 160) (a : Int32) {c : Int32} (hc : (gi y1 61 33 = 1 ∧ c = 100000 + gi y1 61 34) ∨ (gi y1 61 33 = 2 ∧ c = gi y1 61 34)) : ∃ y', RUN y 1 a 1 y' 0 a ∧ KY T y0 y' p (unw 7 (E ++ [c]) H).1 (unw 7 (E ++ [c]) H).2 := by
  obtain ⟨y2, a1, a2, _⟩ := M_put h20 hT K (by omega) c
  obtain ⟨y3, b1, b2, _⟩ := M_un h20 hT (k := 7) (by decide) a2 (by rw [List.length_append, List.length_cons, List.length_nil]; omega)
  refine ⟨y3, fun g => ?_, b2⟩
  have F : ∀ k14, f_X11_eRead_38 k14 y1 a = k14 y3 0 a := by
    intro k14
    unfold f_X11_eRead_38 f_X11_eRead_61
    rcases hc with ⟨e1, e2⟩ | ⟨e1, e2⟩
    · rw [if_pos e1, ← e2, a1, Option.bind_some, b1, Option.bind_some]
    · rw [if_neg (show ¬ gi y1 61 33 = 1 by rw [e1]; decide), ← e2, a1, Option.bind_some, b1, Option.bind_some]
  rw [f_X11_eRead_14, hn, Option.bind_some, if_neg (show ¬ (1 : Int32) = 0 by decide), F]
  rcases hc with ⟨e1, _⟩ | ⟨e1, _⟩
  · rw [if_pos e1]
  · rw [if_neg (show ¬ gi y1 61 33 = 1 by rw [e1]; decide), if_pos e1]
theorem E_bad {y y1 : MS} (hn : f_X11_next y = some y1) {a : Int32} (h1 : ¬ gi y1 61 33 = 1) (h2 : ¬ gi y1 61 33 = 2) (h6 : gi y1 61 33 = 6 → a = 0) (h45 : ¬ gi y1 61 33 = 45) (h40 : ¬ gi y1 61 33 = 40) (g : Nat) : f_X11_eRead_14 (g + 1) y 1 a = some (false, y1) := by
  have F : ∀ k14, f_X11_eRead_99 k14 y1 1 = some (false, y1) := by
    intro k14
    unfold f_X11_eRead_99
    rw [if_neg h45, if_neg h40]
  rw [f_X11_eRead_14, hn, Option.bind_some, if_neg (show ¬ (1 : Int32) = 0 by decide), if_neg h1, if_neg h2, F]
  by_cases c : gi y1 61 33 = 6
  · rw [if_pos c, if_pos (h6 c)]
  · rw [if_neg c]
theorem E_opn {T p : Nat} {y0 y y1 : MS} {E H : List Int32} (hn : f_X11_next y = some y1) (K : KY T y0 y1 p E H) (hH : H.length < 200) (hc : cnq H ≤ 5) (a : Int32) {c a' : Int32} (h : (gi y1 61 33 = 45 ∧ c = 19 ∧ a' = 0) ∨ (gi y1 61 33 = 40 ∧ c = 0 ∧ a' = 1) ∨ (gi y1 61 33 = 6 ∧ c = 13 ∧ a' = a ∧ ¬ a = 0)) : (cnq H = 5 ∧ ∀ g, f_X11_eRead_14 (g + 1) y 1 a = some (false, y1)) ∨ (cnq H < 5 ∧ ∃ y', RUN y 1 a 1 y' 1 a' ∧ KY T y0 y' p E (c :: H)) := by
  have B : ∀ g z, f_X11_opensOne y1 c = some z → f_X11_eRead_14 (g + 1) y 1 a = (if (b2i z.1) = 0 then some (false, z.2) else f_X11_eRead_14 g z.2 1 a') := by
    intro g z hz
    rw [f_X11_eRead_14, hn, Option.bind_some, if_neg (show ¬ (1 : Int32) = 0 by decide)]
    unfold f_X11_eRead_99
    rcases h with ⟨e1, e2, e3⟩ | ⟨e1, e2, e3⟩ | ⟨e1, e2, e3, e4⟩
    · rw [e2] at hz
      rw [e1, hz, e3, if_neg (by decide), if_neg (by decide), if_neg (by decide), if_pos rfl, Option.bind_some]
    · rw [e2] at hz
      rw [e1, hz, e3, if_neg (by decide), if_neg (by decide), if_neg (by decide), if_neg (by decide), if_pos rfl, Option.bind_some]
    · rw [e2] at hz
      rw [e1, hz, e3, if_neg (by decide), if_neg (by decide), if_pos rfl, if_neg e4, Option.bind_some]
  have c0 : c = 0 ∨ c = 13 ∨ c = 19 := by
    rcases h with ⟨_, e, _⟩ | ⟨_, e, _⟩ | ⟨_, e, _⟩
    · exact Or.inr (Or.inr e)
    · exact Or.inl e
    · exact Or.inr (Or.inl e)
  rcases M_op1 K hH hc c0 with ⟨e, k⟩ | ⟨e, y', k, K'⟩
  · exact Or.inl ⟨e, fun g => by rw [B g _ k, if_pos b2i_f]⟩
  · exact Or.inr ⟨e, y', fun g => by rw [B g _ k, if_neg bt], K'⟩
/-- an operator that pushes -/
theorem E_op {T p : Nat} {y0 y y1 : MS} {E H E1 H1 : List Int32} {t : TK} (h20 : gi y0 61 20 = n32 T) (hT : T < 6) (hn : f_X11_next y = some y1) (ok : t.ok) (h33 : gi y1 61 33 = t.m) (K : KY T y0 y1 p E H) (hl : E.length + H.length ≤ 160) (a : Int32) (ho : ¬ opp t = -1) (hu : unw (if f_X11_rank (opp t) = 4 then 5 else f_X11_rank (opp t)) E H = (E1, H1)) (h4 : f_X11_rank (opp t) = 4 → ∀ z r, H1 = z :: r → ¬ f_X11_rank z = 4) : ∃ y', RUN y 0 a 1 y' 1 (if 12 < opp t then 0 else 1) ∧ KY T y0 y' p E1 (opp t :: H1) := by
  have hk : 1 ≤ (if f_X11_rank (opp t) = 4 then (5 : Int32) else f_X11_rank (opp t)).toInt := by
    rcases ok with rfl | ⟨v, rfl, _⟩ | ⟨k, _, rfl⟩ | ⟨k, _, rfl⟩ | rfl | rfl | rfl | rfl | rfl | rfl | rfl | rfl | rfl | rfl | rfl | rfl
    all_goals first
      | (exfalso; exact ho rfl)
      | decide
  have h59 : ¬ gi y1 61 33 = 59 ∧ ¬ gi y1 61 33 = 41 := by
    rw [h33]
    rcases ok with rfl | ⟨v, rfl, _⟩ | ⟨k, _, rfl⟩ | ⟨k, _, rfl⟩ | rfl | rfl | rfl | rfl | rfl | rfl | rfl | rfl | rfl | rfl | rfl | rfl
    all_goals first
      | (exfalso; exact ho rfl)
      | decide
  have hcn : cnq (opp t :: H1) = cnq H1 := by
    rw [cnq, if_neg, Nat.add_zero]
    rcases ok with rfl | ⟨v, rfl, _⟩ | ⟨k, _, rfl⟩ | ⟨k, _, rfl⟩ | rfl | rfl | rfl | rfl | rfl | rfl | rfl | rfl | rfl | rfl | rfl | rfl
    all_goals first
      | (exfalso; exact ho rfl)
      | decide
  obtain ⟨y2, b1, b2, _⟩ := M_un h20 hT hk K hl
  rw [hu] at b2
  have hlen := unw_len (if f_X11_rank (opp t) = 4 then (5 : Int32) else f_X11_rank (opp t)) H E
  rw [hu] at hlen
  have hlen : E1.length + H1.length = E.length + H.length := hlen
  obtain ⟨y3, d1, d2, _⟩ := M_hold (k := cnq H1) b2 (by omega) (c := opp t) hcn.symm
  refine ⟨y3, fun g => ?_, d2⟩
  have hS := M_sgn ok h33
  have B17 : f_X11_between y1 (opp t) = some (true, y3) := by
    unfold f_X11_between f_X11_between_17 f_X11_between_55
    by_cases c4 : f_X11_rank (opp t) = 4
    · rw [if_pos c4] at b1 ⊢
      rw [b1, Option.bind_some, if_pos c4, b2.2.2.1, d1, Option.bind_some]
      cases H1 with
      | nil => rw [if_pos (show n32 ([] : List Int32).length ≤ 0 by decide)]
      | cons z r =>
        have e37 : n32 (z :: r).length - 1 = n32 r.length := by rw [List.length_cons, q_1, n32_sub (by omega)]; rfl
        rw [List.length_cons] at hlen
        rw [if_neg (show ¬ n32 (z :: r).length ≤ 0 from n_nle (j := 0) (by rw [List.length_cons]; omega) (by rw [List.length_cons]; omega)), e37, gd_t (ib_n (by omega) (by omega)), n32_nat (by omega), b2.2.2.2.2.2.2.1, if_neg (h4 c4 z r rfl)]
    · rw [if_neg c4] at b1 ⊢
      rw [b1, Option.bind_some, if_neg c4, d1, Option.bind_some]
  rw [f_X11_eRead_14, hn, Option.bind_some, if_pos rfl, if_neg h59.1, if_neg h59.2, hS, if_neg ho, B17, Option.bind_some, if_neg bt]
  unfold f_X11_eRead_262
  by_cases c12 : 12 < opp t
  · rw [if_pos c12, if_pos c12]
  · rw [if_neg c12, if_neg c12]
/-- a comparison upon a comparison -/
theorem E_cmp {T p : Nat} {y0 y y1 : MS} {E H : List Int32} {t : TK} (h20 : gi y0 61 20 = n32 T) (hT : T < 6) (hn : f_X11_next y = some y1) (ht : t = TK.lt ∨ t = TK.eq) (h33 : gi y1 61 33 = t.m) (K : KY T y0 y1 p E H) (hl : E.length + H.length ≤ 160) (a : Int32) (h4 : ∃ z r, (unw 5 E H).2 = z :: r ∧ f_X11_rank z = 4) : ∃ y', (∀ g, f_X11_eRead_14 (g + 1) y 0 a = some (false, y')) ∧ KG T y0 y' ∧ gi y' 61 32 = gi y1 61 32 := by
  obtain ⟨y2, b1, b2, b3⟩ := M_un h20 hT (k := 5) (by decide) K hl
  obtain ⟨z, r, hz, hr⟩ := h4
  have hlen := unw_len 5 H E
  rw [hz] at b2 hlen
  rw [List.length_cons] at hlen
  refine ⟨y2, fun g => ?_, b2.1, b3 32 (by omega) (by omega)⟩
  have ok : t.ok := by rcases ht with rfl | rfl <;> (unfold TK.ok; simp)
  have hS := M_sgn ok h33
  have c4 : f_X11_rank (opp t) = 4 := by rcases ht with rfl | rfl <;> decide
  have ho : ¬ opp t = -1 := by rcases ht with rfl | rfl <;> decide
  have h59 : ¬ gi y1 61 33 = 59 ∧ ¬ gi y1 61 33 = 41 := by rw [h33]; rcases ht with rfl | rfl <;> decide
  have B17 : f_X11_between y1 (opp t) = some (false, y2) := by
    unfold f_X11_between f_X11_between_17 f_X11_between_55
    have e37 : n32 (z :: r).length - 1 = n32 r.length := by rw [List.length_cons, q_1, n32_sub (by omega)]; rfl
    rw [if_pos c4, b1, Option.bind_some, if_pos c4, b2.2.2.1, if_neg (show ¬ n32 (z :: r).length ≤ 0 from n_nle (j := 0) (by rw [List.length_cons]; omega) (by rw [List.length_cons]; omega)), e37, gd_t (ib_n (by omega) (by omega)), n32_nat (by omega), b2.2.2.2.2.2.2.1, if_pos hr]
  rw [f_X11_eRead_14, hn, Option.bind_some, if_pos rfl, if_neg h59.1, if_neg h59.2, hS, if_neg ho, B17, Option.bind_some, if_pos b2i_f]
  rfl
theorem E_no {y y1 : MS} {t : TK} (hn : f_X11_next y = some y1) (ok : t.ok) (h33 : gi y1 61 33 = t.m) (ho : opp t = -1) (h1 : t ≠ TK.sc) (h2 : t ≠ TK.rp) (a : Int32) (g : Nat) : f_X11_eRead_14 (g + 1) y 0 a = some (false, y1) := by
  have h59 : ¬ gi y1 61 33 = 59 ∧ ¬ gi y1 61 33 = 41 := by
    rw [h33]
    rcases ok with rfl | ⟨v, rfl, _⟩ | ⟨k, _, rfl⟩ | ⟨k, _, rfl⟩ | rfl | rfl | rfl | rfl | rfl | rfl | rfl | rfl | rfl | rfl | rfl | rfl
    all_goals first
      | exact absurd rfl h1
      | exact absurd rfl h2
      | decide
      | (show ¬ (1 : Int32) = 59 ∧ ¬ (1 : Int32) = 41; decide)
      | (show ¬ (2 : Int32) = 59 ∧ ¬ (2 : Int32) = 41; decide)
      | (show ¬ (3 : Int32) = 59 ∧ ¬ (3 : Int32) = 41; decide)
  have hS := M_sgn ok h33
  rw [f_X11_eRead_14, hn, Option.bind_some, if_pos rfl, if_neg h59.1, if_neg h59.2, hS, if_pos ho]
  rfl
/-- a part's end, or a stray one -/
theorem E_sc {T p : Nat} {y0 y y1 : MS} {E H E1 H1 : List Int32} (h20 : gi y0 61 20 = n32 T) (hT : T < 6) (hn : f_X11_next y = some y1) (h33 : gi y1 61 33 = 59) (K : KY T y0 y1 p E H) (hl : E.length + H.length ≤ 160) (a : Int32) (hu : unw 1 E H = (E1, H1)) : ∃ y', (∀ g, f_X11_eRead_14 (g + 1) y 0 a = some (decide (H1 = []), y')) ∧ KY T y0 y' p E1 H1 ∧ TF y1 y' := by
  obtain ⟨y2, b1, b2, b3⟩ := M_un h20 hT (k := 1) (by decide) K hl
  have hlen := unw_len 1 H E
  rw [hu] at b2 hlen
  have hlen : E1.length + H1.length = E.length + H.length := hlen
  refine ⟨y2, fun g => ?_, b2, b3⟩
  have b37 : gi y2 61 37 = n32 H1.length := b2.2.2.1
  rw [f_X11_eRead_14, hn, Option.bind_some, if_pos rfl, if_pos h33, b1, Option.bind_some, b37]
  cases H1 with
  | nil => rw [if_pos (show n32 ([] : List Int32).length = 0 from rfl)]; rfl
  | cons z r =>
    rw [if_neg (fun q : n32 (z :: r).length = 0 => by
      rw [List.length_cons] at q hlen
      have := (n32_inj (j := 0) (by omega) (by omega)).mp q
      omega)]
    rfl
theorem E_rp0 {T p : Nat} {y0 y y1 : MS} {E H E1 : List Int32} (h20 : gi y0 61 20 = n32 T) (hT : T < 6) (hn : f_X11_next y = some y1) (h33 : gi y1 61 33 = 41) (K : KY T y0 y1 p E H) (hl : E.length + H.length ≤ 160) (a : Int32) (hu : unw 1 E H = (E1, [])) : ∃ y', (∀ g, f_X11_eRead_14 (g + 1) y 0 a = some (false, y')) ∧ KG T y0 y' ∧ gi y' 61 32 = gi y1 61 32 := by
  obtain ⟨y2, b1, b2, b3⟩ := M_un h20 hT (k := 1) (by decide) K hl
  rw [hu] at b2
  refine ⟨y2, fun g => ?_, b2.1, b3 32 (by omega) (by omega)⟩
  have b37 : gi y2 61 37 = 0 := b2.2.2.1
  rw [f_X11_eRead_14, hn, Option.bind_some, if_pos rfl, h33, if_neg (by decide), if_pos rfl, b1, Option.bind_some, b37, if_pos rfl]
theorem E_rp {T p : Nat} {y0 y y1 : MS} {E H E1 H1 : List Int32} (h20 : gi y0 61 20 = n32 T) (hT : T < 6) (hn : f_X11_next y = some y1) (h33 : gi y1 61 33 = 41) (K : KY T y0 y1 p E H) (hl : E.length + H.length ≤ 160) (a : Int32) (hu : unw 1 E H = (E1, 0 :: H1)) : ∃ y', RUN y 0 a 1 y' 0 a ∧ KY T y0 y' p (unw 7 E1 H1).1 (unw 7 E1 H1).2 := by
  obtain ⟨y2, b1, b2, b3⟩ := M_un h20 hT (k := 1) (by decide) K hl
  have hlen := unw_len 1 H E
  rw [hu] at b2 hlen
  have hlen : E1.length + (H1.length + 1) = E.length + H.length := hlen
  obtain ⟨⟨g1, g2, g3, g4⟩, h1, h2, h3, h4, h5, h6, h7⟩ := b2
  have h2 : gi y2 61 37 = n32 (H1.length + 1) := h2
  have hc : cnq (0 :: H1) = cnq H1 + 1 := by rw [cnq, if_pos (Or.inl rfl)]
  rw [hc] at h3
  have e1 : n32 (H1.length + 1) - 1 = n32 H1.length := by rw [q_1, n32_sub (by omega)]; rfl
  have e2 : n32 (cnq H1 + 1) - 1 = n32 (cnq H1) := by rw [q_1, n32_sub (by omega)]; rfl
  have gq : ∀ j, j ≠ 37 → j ≠ 38 → gi (pi (pi y2 61 37 (n32 H1.length)) 61 38 (n32 (cnq H1))) 61 j = gi y2 61 j := fun j j1 j2 => by rw [gp_j _ _ _ j2, gp_j _ _ _ j1]
  have K3 : KY T y0 (pi (pi y2 61 37 (n32 H1.length)) 61 38 (n32 (cnq H1))) p E1 H1 := ⟨⟨fun q q1 q2 q3 => by rw [pi1_q _ _ _ q1, pi1_q _ _ _ q1]; exact g1 q q1 q2 q3, g2, fun j j1 j2 j3 j4 => (gq j j2 j3).trans (g3 j j1 j2 j3 j4), fun j hj => by rw [gp_q _ _ _ _ (by omega), gp_q _ _ _ _ (by omega)]; exact g4 j hj⟩, (gq 31 (by omega) (by omega)).trans h1, by rw [gp_j _ _ _ (by omega), gp_eq], by rw [gp_eq], (gq 39 (by omega) (by omega)).trans h4, fun i d hd => by rw [gp_q _ _ _ _ (by omega), gp_q _ _ _ _ (by omega)]; exact h5 i d hd, HLD_of H1 (fun j _ => by rw [gp_q _ _ _ _ (by omega), gp_q _ _ _ _ (by omega)]) h7⟩
  obtain ⟨y4, d1, d2, _⟩ := M_un h20 hT (k := 7) (by decide) K3 (by omega)
  refine ⟨y4, fun g => ?_, d2⟩
  rw [f_X11_eRead_14, hn, Option.bind_some, if_pos rfl, h33, if_neg (by decide), if_pos rfl, b1, Option.bind_some, h2, if_neg (fun q : n32 (H1.length + 1) = 0 => by
    have := (n32_inj (j := 0) (by omega) (by omega)).mp q
    omega), e1, gp_j _ _ _ (by omega), h3, e2, d1, Option.bind_some]
