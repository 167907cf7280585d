/-! ===== pure: a text's three parts ===== -/
def KW (T : Nat) (y0 y : MS) (p : Nat) (E : List Int32) : Prop := KG T y0 y ∧ gi y 61 31 = n32 p ∧ gi y 61 39 = n32 E.length ∧ ∀ i c, E[i]? = some c → gi y 72 (200 * T + i) = c
theorem KW_of {T p : Nat} {y0 y : MS} {E H : List Int32} (h : KY T y0 y p E H) : KW T y0 y p E := ⟨h.1, h.2.1, h.2.2.2.2.1, h.2.2.2.2.2.1⟩
theorem KY_of {T p : Nat} {y0 y : MS} {E : List Int32} (h : KW T y0 y p E) : KY T y0 (pi (pi y 61 37 0) 61 38 0) p E [] := by
  obtain ⟨⟨g1, g2, g3, g4⟩, h1, h2, h3⟩ := h
  have gq : ∀ j, j ≠ 37 → j ≠ 38 → gi (pi (pi y 61 37 0) 61 38 0) 61 j = gi y 61 j := fun j j1 j2 => by rw [gp_j _ _ _ j2, gp_j _ _ _ j1]
  exact ⟨⟨fun q q1 q2 q3 => by rw [pi1_q _ _ _ q1, pi1_q _ _ _ q1]; exact g1 q q1 q2 q3, g2, fun j j1 j2 j3 j4 => (gq j j2 j3).trans (g3 j j1 j2 j3 j4), fun j hj => by rw [gp_q _ _ _ _ (by omega), gp_q _ _ _ _ (by omega)]; exact g4 j hj⟩, (gq 31 (by omega) (by omega)).trans h1, by rw [gp_j _ _ _ (by omega), gp_eq]; rfl, by rw [gp_eq]; rfl, (gq 39 (by omega) (by omega)).trans h2, fun i d hd => by rw [gp_q _ _ _ _ (by omega), gp_q _ _ _ _ (by omega)]; exact h3 i d hd, trivial⟩
theorem KG_73 {T : Nat} {y0 y : MS} (h : KG T y0 y) (c : Nat) (v : Int32) : KG T (pi y0 73 c v) (pi y 73 c v) := by
  obtain ⟨g1, g2, g3, g4⟩ := h
  refine ⟨fun q q1 q2 q3 => funext fun j => ?_, g2, fun j j1 j2 j3 j4 => ?_, fun j hj => ?_⟩
  · show gi (pi y 73 c v) q j = gi (pi y0 73 c v) q j
    rw [gp_if, gp_if, gi_of (g1 q q1 q2 q3)]
  · rw [gp_q _ _ _ _ (by omega), gp_q _ _ _ _ (by omega)]; exact g3 j j1 j2 j3 j4
  · rw [gp_q _ _ _ _ (by omega), gp_q _ _ _ _ (by omega)]; exact g4 j hj
theorem KW_73 {T p : Nat} {y0 y : MS} {E : List Int32} (h : KW T y0 y p E) (c : Nat) (v : Int32) : KW T (pi y0 73 c v) (pi y 73 c v) p E :=
  ⟨KG_73 h.1 c v, by rw [gp_q _ _ _ _ (by omega)]; exact h.2.1, by rw [gp_q _ _ _ _ (by omega)]; exact h.2.2.1, fun i d hd => by rw [gp_q _ _ _ _ (by omega)]; exact h.2.2.2 i d hd⟩
theorem KX_29 {b : Nat → Int32} {N : Nat} {x0 x : CS} {p o : Nat} {E : List Int32} (h : KX b N x0 x p E o) (c : Nat) (v : Int32) : KX b N (pi x0 29 c v) (pi x 29 c v) p E o := by
  obtain ⟨h1, h2, h3, h4, h5, h6, h7, h8, h9, h10, h11⟩ := h
  have g : ∀ j, gi (pi x 29 c v) 26 j = gi x 26 j := fun j => gp_q _ _ _ _ (by omega)
  refine ⟨fun q q1 q2 => funext fun j => ?_, h2, (g 1).trans h3, (g 4).trans h4, (g 5).trans h5, (g 6).trans h6, (g 7).trans h7, (g 9).trans h8, (g 8).trans h9, fun w hw => (g 10).trans (h10 w hw), fun i d hd => by rw [gp_q _ _ _ _ (by omega)]; exact h11 i d hd⟩
  show gi (pi x 29 c v) q j = gi (pi x0 29 c v) q j
  rw [gp_if, gp_if, gi_of (h1 q q1 q2)]
theorem CT_n {b : Nat → Int32} {N T : Nat} {x0 : CS} {y0 : MS} (C : CT b N T x0 y0) (c d : Nat) (v w : Int32) : CT b N T (pi x0 29 c v) (pi y0 73 d w) :=
  ⟨C.1, ⟨by rw [gp_q _ _ _ _ (by omega)]; exact C.2.1.1, fun i hi => by rw [gp_q _ _ _ _ (by omega)]; exact C.2.1.2 i hi⟩, ⟨by rw [gp_q _ _ _ _ (by omega)]; exact C.2.2.1.1, fun i hi => by rw [gp_q _ _ _ _ (by omega)]; exact C.2.2.1.2 i hi⟩, by rw [gp_q _ _ _ _ (by omega)]; exact C.2.2.2.1, C.2.2.2.2⟩
theorem nam_c {t : TK} (ok : t.ok) {j : Nat} (hj : j < 3) : (t = TK.nam j → t.c = 300 + n32 j) ∧ (t ≠ TK.nam j → ¬ t.c = 300 + n32 j) := by
  refine ⟨fun h => by rw [h]; rfl, fun h => ?_⟩
  rcases ok with e | ⟨v, e, v0, v1⟩ | ⟨k, hk, e⟩ | ⟨k, hk, e⟩ | e | e | e | e | e | e | e | e | e | e | e | e
  case inr.inl =>
    rw [show t.c = 306 by rw [e]; rfl]
    rcases (by omega : j = 0 ∨ j = 1 ∨ j = 2) with rfl | rfl | rfl <;> decide
  case inr.inr.inl =>
    rw [show t.c = 310 + n32 k by rw [e]; rfl]
    rcases (by omega : j = 0 ∨ j = 1 ∨ j = 2) with rfl | rfl | rfl <;> rcases (by omega : k = 0 ∨ k = 1 ∨ k = 2 ∨ k = 3 ∨ k = 4 ∨ k = 5) with rfl | rfl | rfl | rfl | rfl | rfl <;> decide
  case inr.inr.inr.inl =>
    rw [show t.c = 300 + n32 k by rw [e]; rfl]
    rw [e] at h
    rcases (by omega : j = 0 ∨ j = 1 ∨ j = 2) with rfl | rfl | rfl <;> rcases (by omega : k = 0 ∨ k = 1 ∨ k = 2) with rfl | rfl | rfl
    all_goals first
      | exact absurd rfl h
      | decide
  all_goals
    subst e
    rcases (by omega : j = 0 ∨ j = 1 ∨ j = 2) with rfl | rfl | rfl <;> decide
theorem m_is {t : TK} (ok : t.ok) : (t.m = 3 → ∃ k, k < 3 ∧ t = TK.nam k) ∧ (t.m = 0 ↔ t = TK.fin) ∧ (t.c = 307 ↔ t = TK.fin) ∧ (t.c = 59 ↔ t = TK.sc) := by
  rcases ok with e | ⟨v, e, v0, v1⟩ | ⟨k, hk, e⟩ | ⟨k, hk, e⟩ | e | e | e | e | e | e | e | e | e | e | e | e
  case inr.inl =>
    have a : t.m = 1 := by rw [e]; rfl
    have c : t.c = 306 := by rw [e]; rfl
    rw [a, c]
    refine ⟨fun q => absurd q (by decide), ⟨fun q => absurd q (by decide), fun q => ?_⟩, ⟨fun q => absurd q (by decide), fun q => ?_⟩, ⟨fun q => absurd q (by decide), fun q => ?_⟩⟩
    all_goals (rw [e] at q; exact absurd (congrArg Prod.fst q) (Nat.ne_of_beq_eq_false rfl))
  case inr.inr.inl =>
    have a : t.m = 2 := by rw [e]; rfl
    have c : t.c = 310 + n32 k := by rw [e]; rfl
    have c1 : ¬ (310 + n32 k) = 307 ∧ ¬ (310 + n32 k) = 59 := by
      rcases (by omega : k = 0 ∨ k = 1 ∨ k = 2 ∨ k = 3 ∨ k = 4 ∨ k = 5) with rfl | rfl | rfl | rfl | rfl | rfl <;> decide
    rw [a, c]
    refine ⟨fun q => absurd q (by decide), ⟨fun q => absurd q (by decide), fun q => ?_⟩, ⟨fun q => absurd q c1.1, fun q => ?_⟩, ⟨fun q => absurd q c1.2, fun q => ?_⟩⟩
    all_goals (rw [e] at q; exact absurd (congrArg Prod.fst q) (Nat.ne_of_beq_eq_false rfl))
  case inr.inr.inr.inl =>
    have a : t.m = 3 := by rw [e]; rfl
    have c : t.c = 300 + n32 k := by rw [e]; rfl
    have c1 : ¬ (300 + n32 k) = 307 ∧ ¬ (300 + n32 k) = 59 := by
      rcases (by omega : k = 0 ∨ k = 1 ∨ k = 2) with rfl | rfl | rfl <;> decide
    rw [a, c]
    refine ⟨fun _ => ⟨k, hk, e⟩, ⟨fun q => absurd q (by decide), fun q => ?_⟩, ⟨fun q => absurd q c1.1, fun q => ?_⟩, ⟨fun q => absurd q c1.2, fun q => ?_⟩⟩
    all_goals (rw [e] at q; exact absurd (congrArg Prod.fst q) (Nat.ne_of_beq_eq_false rfl))
  all_goals
    subst e
    refine ⟨fun q => absurd q (by decide), ⟨fun q => ?_, fun q => ?_⟩, ⟨fun q => ?_, fun q => ?_⟩, ⟨fun q => ?_, fun q => ?_⟩⟩
  all_goals first
    | rfl
    | exact absurd q (by decide)
    | exact absurd (congrArg Prod.fst q) (Nat.ne_of_beq_eq_false rfl)
theorem TLn (k : Int32) : TL k [] := fun _ _ q => by cases q
/-- one part, by both readers -/
theorem CLA {b : Nat → Int32} {N T : Nat} {x0 x : CS} {y0 y : MS} {j p : Nat} {E : List Int32} (C : CT b N T x0 y0) (hj : j < 3) (X : KX b N x0 x p E 0) (Y : KW T y0 y p E) (hp : p ≤ N) (hl : E.length ≤ p) :
    (∃ x' f y', ((f_X6_expect x (300 + n32 j)).bind fun r4 => (f_X6_top 7 r4).bind fun r6 => f_X6_expect r6 59) = some x' ∧ KF N x0 x' f ∧ KG T (pi y0 73 (4 * T + j) (n32 E.length)) y' ∧ gi y' 61 32 = n32 f ∧ ∀ g, f_X11_text_26 (g + 1) y 1 (n32 j) = f_X11_text_26 g y' 0 (n32 (j + 1))) ∨
    (∃ x' y' p' e, ((f_X6_expect x (300 + n32 j)).bind fun r4 => (f_X6_top 7 r4).bind fun r6 => f_X6_expect r6 59) = some x' ∧ KX b N x0 x' p' (E ++ e) 0 ∧ KW T (pi y0 73 (4 * T + j) (n32 E.length)) y' p' (E ++ e) ∧ p' ≤ N ∧ (E ++ e).length ≤ p' ∧ WL e 0 1 ∧ ∀ g, f_X11_text_26 (g + 1) y 1 (n32 j) = f_X11_text_26 g y' 1 (n32 (j + 1))) := by
  have hC := C
  obtain ⟨hB, hx0, hy0, h20, hT⟩ := C
  have hN := hB.1
  have hY := Y
  obtain ⟨⟨g1, g2, g3, g4⟩, w1, w2, w3⟩ := Y
  have hTy : TBy b N y := ⟨by rw [g3 17 (by omega) (by omega) (by omega) (by omega)]; exact hy0.1, fun i hi => by rw [gi_of (g1 71 (by omega) (by omega) (by omega))]; exact hy0.2 i hi⟩
  obtain ⟨ok, y1, n1, a2, a3, a4, a5, a6, a7, a8, a9, a10⟩ := M_nxt hB hTy w1 hp
  have W1 : KW T y0 y1 (nx b N p) E := ⟨⟨fun q q1 q2 q3 => (a2 q q1).trans (g1 q q1 q2 q3), a3.trans g2, fun j j1 j2 j3 j4 => (a4 j j1).trans (g3 j j1 j2 j3 j4), fun j hj => by rw [gi_of (a2 72 (by omega))]; exact g4 j hj⟩, a5, (a4 39 (by omega)).trans w2, fun i c hc => by rw [gi_of (a2 72 (by omega))]; exact w3 i c hc⟩
  have e20 : gi y1 61 20 = n32 T := (W1.1.2.2.1 20 (by omega) (by omega) (by omega) (by omega)).trans h20
  have e39 : gi y1 61 39 = n32 E.length := W1.2.2.1
  have hnb := nx_b (b := b) hp
  have h8 := X.2.2.2.2.2.2.2.2.1
  have hsb := st_b (b := b) hp
  have nj : ¬ (3 : Int32) ≤ n32 j := n_nle (i := 3) (by omega) (by omega)
  have hC2 : CT b N T x0 (pi y0 73 (4 * T + j) (n32 E.length)) := ⟨hB, hx0, ⟨by rw [gp_q _ _ _ _ (by omega)]; exact hy0.1, fun i hi => by rw [gp_q _ _ _ _ (by omega)]; exact hy0.2 i hi⟩, by rw [gp_q _ _ _ _ (by omega)]; exact h20, hT⟩
  have W2 := KW_73 W1 (4 * T + j) (n32 E.length)
  have z32 : ∀ v, gi (pi y1 73 (4 * T + j) v) 61 32 = gi y1 61 32 := fun v => gp_q _ _ _ _ (by omega)
  unfold f_X6_expect f_X6_top
  rw [h8]
  by_cases ct : tok b N p = TK.nam j
  · have e33 : gi y1 61 33 = 3 := by rw [a7, ct]; rfl
    have e34 : gi y1 61 34 = n32 j := a10 j hj ct
    rw [if_pos ((nam_c ok hj).1 ct)]
    obtain ⟨x1, c1, X1⟩ := X_adv2 hB hx0 X hp
    rw [c1, Option.bind_some, Option.bind_some]
    have tx : ∀ g, f_X11_text_26 (g + 1) y 1 (n32 j) = (f_X11_eRead_14 1000 (pi (pi (pi y1 73 (4 * T + j) (n32 E.length)) 61 37 0) 61 38 0) 1 1).bind fun r9 => if (b2i r9.1) = 0 then f_X11_text_26 g r9.2 0 (n32 (j + 1)) else f_X11_text_26 g r9.2 1 (n32 (j + 1)) := by
      intro g
      rw [f_X11_text_26, if_neg nj, if_neg (show ¬ (1 : Int32) = 0 by decide), n1, Option.bind_some, if_pos e33, if_pos e34]
      unfold f_X11_text_60 f_X11_text_93 f_X11_text_94 f_X11_eRead
      rw [e20, q_4, n32_mul, n32_add, gd_t (ib_n (by omega) (by omega)), n32_nat (by omega), e39, if_neg (show ¬ (1 : Int32) = 0 by decide), n_inc]
    have R := (R_grp hC2 7).2.2 x1 _ (nx b N p) E [] 1 (by omega) X1 (KY_of W2) hnb.2.1 (by rw [List.length_nil]; omega) (by show 0 ≤ 5; omega) (TLn 1) rfl
    rcases R with ⟨x', f, y', k, q1, q2, q3, q4, q5, q6⟩ | ⟨x', y', p', e', E2, H2, k, a', q1, q2, q3, q4, q5, q6, q7, q8, q9, q10⟩
    · refine Or.inl ⟨x', f, y', ?_, q2, q3, q4, fun g => ?_⟩
      · rw [q1, Option.bind_some]; exact F_exp q2 59
      · have r := q6 (1000 - k)
        rw [show 1000 - k + k = 1000 from by omega] at r
        rw [tx g, r, Option.bind_some, if_pos b2i_f]
    · have hy2 := hC2.2.2.1
      have h202 := hC2.2.2.2.1
      obtain ⟨ok', z1, nz, Z1, z32', z33, _⟩ := M_nx2 hB hy2 q3 q6
      have hu : unw 1 E2 H2 = (E ++ e', []) := by rw [q8]; rfl
      have hlen := unw_len 1 H2 E2
      rw [hu] at hlen
      have hlen : (E ++ e').length + 0 = E2.length + H2.length := hlen
      have h8' := q2.2.2.2.2.2.2.2.2.1
      have r1 : ∀ z v, (∀ g, f_X11_eRead_14 (g + 1) y' 0 a' = some (v, z)) → ∀ g, f_X11_text_26 (g + 1) y 1 (n32 j) = if (b2i v) = 0 then f_X11_text_26 g z 0 (n32 (j + 1)) else f_X11_text_26 g z 1 (n32 (j + 1)) := by
        intro z v hz g
        have r := q4 (1000 - k)
        rw [show 1000 - k + k = 1000 from by omega, show 1000 - k = (999 - k) + 1 from by omega, hz] at r
        rw [tx g, r, Option.bind_some]
      rw [q1, Option.bind_some, h8']
      by_cases csc : tok b N p' = TK.sc
      · have h2 := nx_1 (b := b) q6 (by rw [csc]; exact fun q => absurd (congrArg Prod.fst q) (Nat.ne_of_beq_eq_false rfl))
        have hnb' := nx_b (b := b) q6
        obtain ⟨x2, c2, X2⟩ := X_adv2 hB hx0 q2 q6
        obtain ⟨z, k1, k2, k3⟩ := E_sc h202 hT nz (by rw [z33, csc]; rfl) Z1 (by omega) a' hu
        refine Or.inr ⟨x2, z, nx b N p', e', ?_, X2, KW_of k2, hnb'.2.1, by omega, q9 0, fun g => ?_⟩
        · rw [if_pos ((m_is ok').2.2.2.mpr csc), c2, Option.bind_some]
        · rw [r1 z _ k1 g]; exact if_neg bt
      · have KFx := X_fail hB q2 q6
        have fin : ∀ z, (∀ g, f_X11_eRead_14 (g + 1) y' 0 a' = some (false, z)) → KG T (pi y0 73 (4 * T + j) (n32 E.length)) z → gi z 61 32 = n32 (st b N p') → ∃ x'' f y', (if (tok b N p').c = 59 then (f_X6_advance x').bind fun r3 => some r3 else some (f_X6_fail x')) = some x'' ∧ KF N x0 x'' f ∧ KG T (pi y0 73 (4 * T + j) (n32 E.length)) y' ∧ gi y' 61 32 = n32 f ∧ ∀ g, f_X11_text_26 (g + 1) y 1 (n32 j) = f_X11_text_26 g y' 0 (n32 (j + 1)) := fun z hz hg h => ⟨_, st b N p', z, if_neg (fun q => csc ((m_is ok').2.2.2.mp q)), KFx, hg, h, fun g => by rw [r1 z _ hz g, if_pos b2i_f]⟩
        refine Or.inl ?_
        obtain ⟨⟨⟨s1, s2, s3⟩, s4⟩, s5, s6⟩ := q10
        by_cases crp : tok b N p' = TK.rp
        · obtain ⟨z, k1, k2, k3⟩ := E_rp0 h202 hT nz (by rw [z33, crp]; rfl) Z1 (by omega) a' hu
          exact fin z k1 k2 (k3.trans z32')
        by_cases ccm : tok b N p' = TK.lt ∨ tok b N p' = TK.eq
        · obtain ⟨z, k1, k2, k3⟩ := E_cmp h202 hT nz ccm z33 Z1 (by omega) a' (s4 ccm)
          exact fin z k1 k2 (k3.trans z32')
        · have ho : opp (tok b N p') = -1 := by
            rcases ok' with e | ⟨v, e, v0, v1⟩ | ⟨k, hk, e⟩ | ⟨k, hk, e⟩ | e | e | e | e | e | e | e | e | e | e | e | e
            all_goals first
              | exact absurd e s1
              | exact absurd e s2
              | exact absurd e s3
              | exact absurd e s5
              | exact absurd e s6
              | exact absurd (Or.inl e) ccm
              | exact absurd (Or.inr e) ccm
              | (rw [e]; rfl)
          exact fin z1 (E_no nz ok' z33 ho csc crp a') Z1.1 z32'
  · have KFx := X_fail hB X hp
    refine Or.inl ⟨f_X6_fail x, st b N p, pi y1 73 (4 * T + j) (n32 E.length), ?_, KFx, W2.1, (z32 _).trans a6, fun g => ?_⟩
    · rw [if_neg ((nam_c ok hj).2 ct), Option.bind_some]
      rw [show (f_X6_grp 7).2.2 (f_X6_fail x) = some (f_X6_fail x) from F_eith KFx, Option.bind_some]
      exact F_exp KFx 59
    · have t0 : f_X11_text_59 (f_X11_text_26 g) y1 (n32 j) = f_X11_text_26 g (pi y1 73 (4 * T + j) (n32 E.length)) 0 (n32 (j + 1)) := by
        unfold f_X11_text_59 f_X11_text_60 f_X11_text_93 f_X11_text_94
        rw [e20, q_4, n32_mul, n32_add, gd_t (ib_n (by omega) (by omega)), n32_nat (by omega), e39, if_pos rfl, n_inc]
      rw [f_X11_text_26, if_neg nj, if_neg (show ¬ (1 : Int32) = 0 by decide), n1, Option.bind_some, t0]
      by_cases c3 : gi y1 61 33 = 3
      · rw [if_pos c3]
        rw [a7] at c3
        obtain ⟨k, hk, ek⟩ := (m_is ok).1 c3
        rw [if_neg (fun q => by
          rw [a10 k hk ek] at q
          have := (n32_inj (by omega) (by omega)).mp q
          rw [this] at ek
          exact ct ek)]
      · rw [if_neg c3]
/-! what follows a failure -/
theorem FC {N : Nat} {f : Nat} : ∀ (m j g : Nat) (x0 x : CS), j + m = 3 → m < g → KF N x0 x f → ∃ x', f_X6_read_26 g x (n32 j) = some (n32 f, x') ∧ (∀ q, q ≠ 29 → x'.1 q = x.1 q) ∧ x'.2 = x.2 := by
  intro m
  induction m with
  | zero =>
    intro j g x0 x hj hg h
    obtain ⟨g, rfl⟩ : ∃ w, g = w + 1 := ⟨g - 1, by omega⟩
    have ej : j = 3 := by omega
    subst ej
    refine ⟨x, ?_, fun _ _ => rfl, rfl⟩
    rw [f_X6_read_26, if_pos (show (2 : Int32) < n32 3 by decide), F_fail h]
    unfold f_X6_read_80
    rw [h.2.2.2.1]
    split <;> rfl
  | succ m ih =>
    intro j g x0 x hj hg h
    obtain ⟨g, rfl⟩ : ∃ w, g = w + 1 := ⟨g - 1, by omega⟩
    have ht : f_X6_top 7 x = some x := F_eith h
    have hk : KF N (pi x 29 j (gi x 26 4)) (pi x 29 j (gi x 26 4)) f := ⟨fun _ _ _ => rfl, rfl, by rw [gp_q _ _ _ _ (by omega)]; exact h.2.2.1, by rw [gp_q _ _ _ _ (by omega)]; exact h.2.2.2.1, h.2.2.2.2⟩
    obtain ⟨x', a1, a2, a3⟩ := ih (j + 1) g _ _ (by omega) (by omega) hk
    refine ⟨x', ?_, fun q hq => (a2 q hq).trans (pi1_q _ _ _ hq), a3⟩
    rw [f_X6_read_26, if_neg (show ¬ (2 : Int32) < n32 j from n_nlt (i := 2) (by omega) (by omega)), F_exp h, Option.bind_some, ht, Option.bind_some, F_exp h, Option.bind_some, gd_t (ib_n (by omega) (by omega)), n32_nat (by omega), n_inc]
    exact a1
theorem FM2 (g : Nat) (y : MS) (i : Int32) : f_X11_text_26 (g + 1) y 0 i = f_X11_text_122 y 0 := by
  rw [f_X11_text_26]
  unfold f_X11_text_101
  split
  · exact if_pos rfl
  · rw [if_pos rfl]; exact if_pos rfl
/-! a text's place in PP -/
theorem wf_cg {m m' : Nat → Int32} : ∀ (k i d : Nat), (∀ j, i ≤ j → j < i + k → m' j = m j) → wfI m k i d → wfI m' k i d := by
  intro k
  induction k with
  | zero => intro i d _ h; exact h
  | succ k ih =>
    intro i d e h
    obtain ⟨h1, h2, h3⟩ := h
    have ei := e i (by omega) (by omega)
    refine ⟨by rw [ei]; exact h1, by rw [ei]; exact h2, ?_⟩
    rw [ei]
    exact ih (i + 1) _ (fun j a c => e j (by omega) (by omega)) h3
theorem wf_WL {m : Nat → Int32} : ∀ (e : List Int32) (i d : Nat), (∀ j c, e[j]? = some c → m (i + j) = c) → WL e d 1 → wfI m e.length i d := by
  intro e
  induction e with
  | nil => intro i d _ h; have h : 1 = d := h; exact h.symm
  | cons c l ih =>
    intro i d hm h
    obtain ⟨h1, h2, h3⟩ := h
    have ei : m i = c := hm 0 c rfl
    refine ⟨by rw [ei]; exact h1, by rw [ei]; exact h2, ?_⟩
    rw [ei]
    exact ih (i + 1) _ (fun j c' hc => by rw [show i + 1 + j = i + (j + 1) from by omega]; exact hm (j + 1) c' hc) h3
theorem TXT_cg {c c' e e' m m' s s' : Nat → Int32} (h : TXT c e m s) (hc : ∀ j, j < 160 → c' j = c j) (he : ∀ p, p < 3 → e' p = e p) (hm : ∀ j, j < 160 → m' j = m j) (hs : ∀ p, p < 4 → s' p = s p) : TXT c' e' m' s' := by
  obtain ⟨sp, ⟨w0, w1, w2, w3, w4, w5⟩, t2, t3, t4⟩ := h
  refine ⟨sp, ⟨w0, w1, w2, w3, w4, fun p hp => ?_⟩, fun p hp => (hs p hp).trans (t2 p hp), fun p hp => (he p hp).trans (t3 p hp), fun j hj => ?_⟩
  · have : sp p ≤ sp (p + 1) ∧ sp (p + 1) ≤ sp 3 := by
      rcases (by omega : p = 0 ∨ p = 1 ∨ p = 2) with rfl | rfl | rfl <;> simp only [Nat.zero_add, Nat.reduceAdd] <;> omega
    exact wf_cg _ _ _ (fun j a c => hm j (by omega)) (w5 p hp)
  · rw [hc j (by omega), hm j (by omega)]; exact t4 j hj
theorem PP_txt {x x' : CS} {y y' : MS} {T : Nat} (hP : PP x y) (hTy : gi y 61 20 = n32 T) (hT6 : T ≤ 6) (hx : ∀ q, q ≠ 26 → q ≠ 28 → q ≠ 29 → x'.1 q = x.1 q) (hx2 : x'.2 = x.2) (h26 : gi x' 26 1 = 0) (hy : ∀ q, q ≠ 61 → q ≠ 72 → q ≠ 73 → q ≠ 81 → y'.1 q = y.1 q) (h61 : ∀ j, (j < 31 ∨ 34 < j) → j ≠ 37 → j ≠ 38 → j ≠ 39 → j ≠ 17 → gi y' 61 j = gi y 61 j) (h17 : gi y' 61 17 = 0) (h72 : ∀ j, j < 200 * T → gi y' 72 j = gi y 72 j) (h73 : ∀ j, j < 4 * T → gi y' 73 j = gi y 73 j) : PP x' y' := by
  obtain ⟨hG, hW, hT, hK, hF, hH, n, rf, hE, hI⟩ := hP
  have g : ∀ q j, q ≠ 26 → q ≠ 28 → q ≠ 29 → gi x' q j = gi x q j := fun q j a c d => gi_of (hx q a c d) j
  have xe : XE x x' := XE_of (by rw [hx2])
  have p61 : ∀ j, (j < 31 ∨ 34 < j) → j ≠ 37 → j ≠ 38 → j ≠ 39 → j ≠ 17 → gi y' 61 j = gi y 61 j := h61
  refine ⟨PG_fr hG xe.2.1 (p61 _ (by omega) (by omega) (by omega) (by omega) (by omega)) (p61 _ (by omega) (by omega) (by omega) (by omega) (by omega)), PW_fr hW (fun q a b => hx q (by omega) (by omega) (by omega)) (g _ _ (by omega) (by omega) (by omega)) (hy _ (by omega) (by omega) (by omega) (by omega)) (fun j a b => p61 _ (by omega) (by omega) (by omega) (by omega) (by omega)) (p61 _ (by omega) (by omega) (by omega) (by omega) (by omega)), ?_, PK_fr hK (fun q a b => hx q (by omega) (by omega) (by omega)) (fun q a b => hy q (by omega) (by omega) (by omega) (by omega)) (p61 _ (by omega) (by omega) (by omega) (by omega) (by omega)), ⟨0, by omega, h26, h17, fun i hi => by omega⟩, PH_fr hH (fun q a b => hx q (by omega) (by omega) (by omega)) (fun q a b => hy q (by omega) (by omega) (by omega) (by omega)), n, rf, PE_fr hE xe (g _ _ (by omega) (by omega) (by omega)) (fun q a b => hy q (by omega) (by omega) (by omega) (by omega)) (p61 _ (by omega) (by omega) (by omega) (by omega) (by omega)), PI_fr hI (fun q a b => hx q (by omega) (by omega) (by omega)) (g _ _ (by omega) (by omega) (by omega)) (g _ _ (by omega) (by omega) (by omega)) (g _ _ (by omega) (by omega) (by omega)) (fun q a b => hy q (by omega) (by omega) (by omega) (by omega)) (p61 _ (by omega) (by omega) (by omega) (by omega) (by omega)) (p61 _ (by omega) (by omega) (by omega) (by omega) (by omega)) (p61 _ (by omega) (by omega) (by omega) (by omega) (by omega)) (p61 _ (by omega) (by omega) (by omega) (by omega) (by omega))⟩
  obtain ⟨T', r, t1, t2, t3, t4, t5, t6⟩ := hT
  have eT : T' = T := (n32_inj (by omega) (by omega)).mp (t4.symm.trans hTy)
  subst eT
  refine ⟨T', r, t1, t2, by rw [g _ _ (by omega) (by omega) (by omega)]; exact t3, by rw [p61 _ (by omega) (by omega) (by omega) (by omega) (by omega)]; exact t4, by rw [p61 _ (by omega) (by omega) (by omega) (by omega) (by omega)]; exact t5, fun t ht => TXT_cg (t6 t ht) (fun j hj => g _ _ (by omega) (by omega) (by omega)) (fun p hp => g _ _ (by omega) (by omega) (by omega)) (fun j hj => h72 _ (by omega)) (fun p hp => h73 _ (by omega))⟩
theorem PP_keep {x x' : CS} {y : MS} {T : Nat} (hP : PP x y) (hTy : gi y 61 20 = n32 T) (hT6 : T < 6) (hx : ∀ q, q ≠ 10 → q ≠ 12 + T → q ≠ 19 + T → x'.1 q = x.1 q) (hx2 : x'.2 = x.2) (h10 : gi x' 10 3 = n32 (T + 1)) (hN : TXT (gi x' (12 + T)) (gi x' (19 + T)) (fun i => gi y 72 (200 * T + i)) (fun p => gi y 73 (4 * T + p))) : PP x' (pi y 61 20 (n32 (T + 1))) := by
  obtain ⟨hG, hW, hT, hK, hF, hH, n, rf, hE, hI⟩ := hP
  have g : ∀ q j, q ≠ 10 → q ≠ 12 + T → q ≠ 19 + T → gi x' q j = gi x q j := fun q j a c d => gi_of (hx q a c d) j
  have xe : XE x x' := XE_of (by rw [hx2])
  have hy : ∀ q, q ≠ 61 → (pi y 61 20 (n32 (T + 1))).1 q = y.1 q := fun q h => pi1_q _ _ _ h
  have p61 : ∀ j, j ≠ 20 → gi (pi y 61 20 (n32 (T + 1))) 61 j = gi y 61 j := fun j h => gp_j _ _ _ h
  refine ⟨PG_fr hG xe.2.1 (p61 _ (by omega)) (p61 _ (by omega)), PW_fr hW (fun q a b => hx q (by omega) (by omega) (by omega)) (g _ _ (by omega) (by omega) (by omega)) (hy _ (by omega)) (fun j a b => p61 _ (by omega)) (p61 _ (by omega)), ?_, PK_fr hK (fun q a b => hx q (by omega) (by omega) (by omega)) (fun q a b => hy q (by omega)) (p61 _ (by omega)), PF_fr hF (hx _ (by omega) (by omega) (by omega)) (g _ _ (by omega) (by omega) (by omega)) (hy _ (by omega)) (p61 _ (by omega)), PH_fr hH (fun q a b => hx q (by omega) (by omega) (by omega)) (fun q a b => hy q (by omega)), n, rf, PE_fr hE xe (g _ _ (by omega) (by omega) (by omega)) (fun q a b => hy q (by omega)) (p61 _ (by omega)), ?_⟩
  · obtain ⟨T', r, t1, t2, t3, t4, t5, t6⟩ := hT
    have eT : T' = T := (n32_inj (by omega) (by omega)).mp (t4.symm.trans hTy)
    subst eT
    refine ⟨T' + 1, r, by omega, by omega, h10, by rw [gp_eq], by rw [p61 _ (by omega)]; exact t5, fun t ht => ?_⟩
    by_cases e : t = T'
    · subst e
      exact TXT_cg hN (fun j hj => rfl) (fun p hp => rfl) (fun j hj => gp_q _ _ _ _ (by omega)) (fun p hp => gp_q _ _ _ _ (by omega))
    · exact TXT_cg (t6 t (by omega)) (fun j hj => g _ _ (by omega) (by omega) (by omega)) (fun p hp => g _ _ (by omega) (by omega) (by omega)) (fun j hj => gp_q _ _ _ _ (by omega)) (fun p hp => gp_q _ _ _ _ (by omega))
  · obtain ⟨i1, i2⟩ := hI
    refine ⟨by rw [g _ _ (by omega) (by omega) (by omega), p61 _ (by omega)]; exact i1, ?_⟩
    rw [p61 22 (by omega), p61 24 (by omega), p61 23 (by omega), g 38 2 (by omega) (by omega) (by omega), g 0 10 (by omega) (by omega) (by omega)]
    refine i2.imp id (fun ⟨a, b, c, ⟨T', r, d1, d2, d3, d4⟩, k, k1, k2, k3, k4⟩ => ⟨fun w s hw hs => ?_, fun j hj => ?_, c, ⟨T + 1, r, ?_, by omega, d3, by rw [gp_eq]⟩, k, k1, k2, k3, fun t ht => ?_⟩)
    · have := a w s hw hs
      simp only at this ⊢
      rw [g (40 + w) s (by omega) (by omega) (by omega), gi_of (hy 75 (by omega))]; exact this
    · rw [g 46 j (by omega) (by omega) (by omega), gi_of (hy 74 (by omega))]; exact b j hj
    · have : T' = T := (n32_inj (by omega) (by omega)).mp (d4.symm.trans hTy)
      omega
    · rw [g 47 t (by omega) (by omega) (by omega), gi_of (hy 76 (by omega))]; exact k4 t ht
