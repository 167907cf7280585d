/-! ===== pure: terms, sums, comparisons, both, either ===== -/
theorem TL_up {k l : Int32} {H : List Int32} (hk : k ≤ l) (h : TL k H) : TL l H := fun z r q => by
  have := h z r q
  rw [i32_lt] at *; rw [i32_le] at hk; omega
theorem LOOP {b : Nat → Int32} {N T : Nat} {x0 : CS} {y0 : MS} (C : CT b N T x0 y0) {n : Nat} {F : CS → Option CS} {LF : Nat → CS → Int32 → Option CS} {L L' : Int32} {pre' : List Int32 → Prop} {cond : Int32 → TK → Prop} {stop' stopR : TK → List Int32 → List Int32 → Prop} {op : TK → Prop} (I : SP b N T x0 y0 F n L' pre' cond stop') (hLL : L ≤ L')
    (hs : ∀ g x i t, gi x 26 5 = -1 → ¬ 160 ≤ i → op t → gi x 26 8 = t.c → LF (g + 1) x i = (f_X6_advance x).bind fun r4 => (F r4).bind fun r6 => (f_X6_emit r6 (trc (opp t))).bind fun r8 => LF g r8 (i + 1))
    (hn : ∀ g x i t, gi x 26 5 = -1 → TK.ok t → ¬ op t → gi x 26 8 = t.c → LF (g + 1) x i = some x)
    (hF : ∀ g x i f, KF N x0 x f → LF (g + 1) x i = some x)
    (hst : ∀ t E H, ¬ op t → stop' t E H → stopR t E H)
    (ho : ∀ t, op t → t ≠ TK.fin ∧ ¬ opp t = -1 ∧ f_X11_rank (opp t) = L ∧ ¬ L = 4 ∧ okc (opp t) ∧ ar (opp t) = 2 ∧ (∀ H, pre' (opp t :: H)) ∧ (∀ H, cnq (opp t :: H) = cnq H) ∧ ∀ t', cond (if 12 < opp t then 0 else 1) t') :
    ∀ (m p g i : Nat) (x : CS) (y : MS) (E H e E2 H2 : List Int32) (a : Int32), N - p ≤ m → m < g → i ≤ p → 7 ≤ n + cnq H → KX b N x0 x p (E ++ e) (cnq H) → KY T y0 y p E2 H2 → p ≤ N → E2.length + H2.length ≤ p → unw L E2 H2 = unw L (E ++ e) H → PX e → cnq H ≤ 5 → TL L H → stop' (tok b N p) E2 H2 → RES b N T x0 y0 (LF g x (n32 i)) y 0 a p L E H stopR := by
  have hC := C
  obtain ⟨hB, hx0, hy0, h20, hT⟩ := C
  have hN := hB.1
  intro m
  induction m with
  | zero =>
    intro p g i x y E H e E2 H2 a hm hg hi hnn X Y hp hl hu hP hc ht hstp
    obtain ⟨g, rfl⟩ : ∃ w, g = w + 1 := ⟨g - 1, by omega⟩
    obtain ⟨ok, y1, n1, K1, h32, h33, _⟩ := M_nx2 hB hy0 Y hp
    have hno : ¬ op (tok b N p) := fun q => by have := nx_1 (b := b) hp (ho _ q).1; omega
    refine Or.inr ⟨x, y, p, e, E2, H2, 0, a, hn g x (n32 i) _ X.2.2.2.2.1 ok hno X.2.2.2.2.2.2.2.2.1, X, Y, fun g => rfl, by omega, hp, hl, hu, hP, hst _ _ _ hno hstp⟩
  | succ m ih =>
    intro p g i x y E H e E2 H2 a hm hg hi hnn X Y hp hl hu hP hc ht hstp
    obtain ⟨g, rfl⟩ : ∃ w, g = w + 1 := ⟨g - 1, by omega⟩
    obtain ⟨ok, y1, n1, K1, h32, h33, _⟩ := M_nx2 hB hy0 Y hp
    by_cases hop : op (tok b N p)
    · obtain ⟨o1, o2, o3, o4, o5, o6, o7, o8, o9⟩ := ho _ hop
      have h1 := nx_1 (b := b) hp o1
      have hnb := nx_b (b := b) hp
      obtain ⟨x1, a1, X1⟩ := X_adv2 hB hx0 X hp
      rw [hs g x (n32 i) _ X.2.2.2.2.1 (show ¬ (160 : Int32) ≤ n32 i from n_nle (i := 160) (by omega) (by omega)) hop X.2.2.2.2.2.2.2.2.1, a1, Option.bind_some]
      have hu' : unw L E2 H2 = (E ++ e, H) := by rw [hu, unw_t ht]
      have hlen := unw_len L H2 E2
      rw [hu'] at hlen
      have hlen : (E ++ e).length + H.length = E2.length + H2.length := hlen
      obtain ⟨y2, r, Y2⟩ := E_op h20 hT n1 ok h33 K1 (by omega) a o2 (E1 := E ++ e) (H1 := H) (by rw [o3, if_neg o4]; exact hu') (fun q => absurd (o3 ▸ q) o4)
      have R := I x1 y2 (nx b N p) (E ++ e) (opp (tok b N p) :: H) _ (by rw [o8]; exact hnn) (by rw [o8]; exact X1) Y2 hnb.2.1 (by rw [List.length_cons]; omega) (by rw [o8]; exact hc) (o7 H) (o9 _)
      refine RES_tr r h1.1 ?_
      rcases R with ⟨x', f, y', k, q1, q2, q3, q4, q5, q6⟩ | ⟨x', y', p', e', E3, H3, k, a', q1, q2, q3, q4, q5, q6, q7, q8, q9, q10⟩
      · obtain ⟨g, rfl⟩ : ∃ w, g = w + 1 := ⟨g - 1, by omega⟩
        rw [q1, Option.bind_some, F_emit q2, Option.bind_some, hF g x' _ f q2]
        exact Or.inl ⟨x', f, y', k, rfl, q2, q3, q4, q5, q6⟩
      · have l1 := unw_len L' (opp (tok b N p) :: H) (E ++ e ++ e')
        have l2 := unw_len L' H3 E3
        rw [q8, l1, List.length_cons] at l2
        rw [o8] at q2
        obtain ⟨x3, a3, X3⟩ := X_emit q2 (by omega) (v := trc (opp (tok b N p))) (c := opp (tok b N p)) rfl
        rw [q1, Option.bind_some, a3, Option.bind_some, n_inc]
        have eA : E ++ e ++ e' ++ [opp (tok b N p)] = E ++ (e ++ e' ++ [opp (tok b N p)]) := by simp only [List.append_assoc]
        have q8' : unw L E3 H3 = unw L (E ++ e ++ e' ++ [opp (tok b N p)]) H := by
          rw [unw_dn hLL q8, unw_p (by rw [o3, i32_lt]; omega)]
        rw [eA] at X3 q8'
        exact RES_tr q4 q5 (ih p' g (i + 1) x3 y' E H (e ++ e' ++ [opp (tok b N p)]) E3 H3 a' (by omega) (by omega) (by omega) hnn X3 q3 q6 q7 q8' (PX_2 hP q9 o5 o6) hc ht q10)
    · exact Or.inr ⟨x, y, p, e, E2, H2, 0, a, hn g x (n32 i) _ X.2.2.2.2.1 ok hop X.2.2.2.2.2.2.2.2.1, X, Y, fun g => rfl, by omega, hp, hl, hu, hP, hst _ _ _ hop hstp⟩
theorem FOLD {b : Nat → Int32} {N T : Nat} {x0 : CS} {y0 : MS} (C : CT b N T x0 y0) {n : Nat} {F : CS → Option CS} {LF : Nat → CS → Int32 → Option CS} {L L' : Int32} {pre' : List Int32 → Prop} {cond : Int32 → TK → Prop} {stop' stopR : TK → List Int32 → List Int32 → Prop} {op : TK → Prop} (I : SP b N T x0 y0 F n L' pre' cond stop') (hLL : L ≤ L') (hpre : ∀ H, TL L H → pre' H)
    (hs : ∀ g x i t, gi x 26 5 = -1 → ¬ 160 ≤ i → op t → gi x 26 8 = t.c → LF (g + 1) x i = (f_X6_advance x).bind fun r4 => (F r4).bind fun r6 => (f_X6_emit r6 (trc (opp t))).bind fun r8 => LF g r8 (i + 1))
    (hn : ∀ g x i t, gi x 26 5 = -1 → TK.ok t → ¬ op t → gi x 26 8 = t.c → LF (g + 1) x i = some x)
    (hF : ∀ g x i f, KF N x0 x f → LF (g + 1) x i = some x)
    (hst : ∀ t E H, ¬ op t → stop' t E H → stopR t E H)
    (ho : ∀ t, op t → t ≠ TK.fin ∧ ¬ opp t = -1 ∧ f_X11_rank (opp t) = L ∧ ¬ L = 4 ∧ okc (opp t) ∧ ar (opp t) = 2 ∧ (∀ H, pre' (opp t :: H)) ∧ (∀ H, cnq (opp t :: H) = cnq H) ∧ ∀ t', cond (if 12 < opp t then 0 else 1) t') :
    SP b N T x0 y0 (fun x => (F x).bind fun r => LF 1000 r 0) n L (TL L) cond stopR := by
  have hN := C.1.1
  intro x y p E H a hnn X Y hp hl hc hpr hcd
  rcases I x y p E H a hnn X Y hp hl hc (hpre H hpr) hcd with ⟨x', f, y', k, q1, q2, q3, q4, q5, q6⟩ | ⟨x', y', p', e', E3, H3, k, a', q1, q2, q3, q4, q5, q6, q7, q8, q9, q10⟩
  · exact Or.inl ⟨x', f, y', k, by show (F x).bind _ = _; rw [q1, Option.bind_some, hF 999 x' 0 f q2], q2, q3, q4, q5, q6⟩
  · have R := LOOP C I hLL hs hn hF hst ho (N - p') p' 1000 0 x' y' E H e' E3 H3 a' (by omega) (by omega) (by omega) hnn q2 q3 q6 q7 (unw_dn hLL q8) q9 hc hpr q10
    have : (fun x => (F x).bind fun r => LF 1000 r 0) x = LF 1000 x' 0 := by show (F x).bind _ = _; rw [q1, Option.bind_some]
    rw [this]
    exact RES_tr q4 q5 R
theorem c_ne {t : TK} (ok : t.ok) : (t ≠ TK.mu → ¬ t.c = 42) ∧ (t ≠ TK.pl → ¬ t.c = 43) ∧ (t ≠ TK.mi → ¬ t.c = 45) ∧ (t ≠ TK.and → ¬ t.c = 304) ∧ (t ≠ TK.orr → ¬ t.c = 303) ∧ (t ≠ TK.not → ¬ t.c = 305) ∧ (t ≠ TK.lt → ¬ t.c = 60) ∧ (t ≠ TK.eq → ¬ t.c = 61) := by
  rcases ok with e | ⟨v, e, v0, v1⟩ | ⟨k, hk, e⟩ | ⟨k, hk, e⟩ | e | e | e | e | e | e | e | e | e | e | e | e
  case inr.inl =>
    have : t.c = 306 := by rw [e]; rfl
    rw [this]
    refine ⟨fun _ => by decide, fun _ => by decide, fun _ => by decide, fun _ => by decide, fun _ => by decide, fun _ => by decide, fun _ => by decide, fun _ => by decide⟩
  case inr.inr.inl =>
    have : t.c = 310 + n32 k := by rw [e]; rfl
    rw [this]
    rcases (by omega : k = 0 ∨ k = 1 ∨ k = 2 ∨ k = 3 ∨ k = 4 ∨ k = 5) with rfl | rfl | rfl | rfl | rfl | rfl
    all_goals refine ⟨fun _ => by decide, fun _ => by decide, fun _ => by decide, fun _ => by decide, fun _ => by decide, fun _ => by decide, fun _ => by decide, fun _ => by decide⟩
  case inr.inr.inr.inl =>
    have : t.c = 300 + n32 k := by rw [e]; rfl
    rw [this]
    rcases (by omega : k = 0 ∨ k = 1 ∨ k = 2) with rfl | rfl | rfl
    all_goals refine ⟨fun _ => by decide, fun _ => by decide, fun _ => by decide, fun _ => by decide, fun _ => by decide, fun _ => by decide, fun _ => by decide, fun _ => by decide⟩
  all_goals
    subst e
    refine ⟨fun h => ?_, fun h => ?_, fun h => ?_, fun h => ?_, fun h => ?_, fun h => ?_, fun h => ?_, fun h => ?_⟩
  all_goals first
    | decide
    | exact absurd rfl h
theorem z160 {α : Type} {i : Int32} {A : Prop} [Decidable A] {u : α} : (if (160 : Int32) ≤ i then u else if A then u else u) = u := by
  split
  · rfl
  · split <;> rfl
theorem R_term {b : Nat → Int32} {N T : Nat} {x0 : CS} {y0 : MS} (C : CT b N T x0 y0) {n : Nat} {rO rN rE : CS → Option CS} (I : SP b N T x0 y0 (f_X6_readOne rO rN rE) n 7 (fun _ => True) condA stop1) : SP b N T x0 y0 (f_X6_readTerm rO rN rE) n 6 (TL 6) condA stop6 := by
  refine FOLD C (F := f_X6_readOne rO rN rE) (LF := f_X6_readTerm_6 rO rN rE) (op := fun t => t = TK.mu) I (by decide) (fun _ _ => trivial) (fun g x i t h5 hi ht h8 => ?_) (fun g x i t h5 ok ht h8 => ?_) (fun g x i f h => F_term6 h g i) (fun t E H ht _ => ht) (fun t ht => ?_)
  · subst ht
    rw [f_X6_readTerm_6, if_neg hi, h5, if_neg (by decide), h8]
    rfl
  · rw [f_X6_readTerm_6, h5, h8, if_neg ((c_ne ok).1 ht)]
    exact z160
  · subst ht
    exact ⟨Nat.ne_of_beq_eq_false rfl |> fun q z => q (congrArg Prod.fst z), by decide, by decide, by decide, Or.inr (Or.inr (by decide)), by decide, fun _ => trivial, fun H => by rw [cnq, if_neg (by decide), Nat.add_zero], fun t' => Or.inl rfl⟩
theorem R_sum {b : Nat → Int32} {N T : Nat} {x0 : CS} {y0 : MS} (C : CT b N T x0 y0) {n : Nat} {rO rN rE : CS → Option CS} (I : SP b N T x0 y0 (f_X6_readTerm rO rN rE) n 6 (TL 6) condA stop6) : SP b N T x0 y0 (f_X6_readSum rO rN rE) n 5 (TL 5) condA stop5 := by
  refine FOLD C (F := f_X6_readTerm rO rN rE) (LF := f_X6_readSum_6 rO rN rE) (op := fun t => t = TK.pl ∨ t = TK.mi) I (by decide) (fun _ h => TL_up (by decide) h) (fun g x i t h5 hi ht h8 => ?_) (fun g x i t h5 ok ht h8 => ?_) (fun g x i f h => F_sum6 h g i) (fun t E H ht h => ⟨h, fun q => ht (Or.inl q), fun q => ht (Or.inr q)⟩) (fun t ht => ?_)
  · rw [f_X6_readSum_6, if_neg hi, h5, if_neg (by decide)]
    unfold f_X6_readSum_38 f_X6_readSum_54
    rw [h8]
    rcases ht with rfl | rfl <;> rfl
  · rw [f_X6_readSum_6, h5, h8, if_neg ((c_ne ok).2.1 (fun q => ht (Or.inl q))), if_neg ((c_ne ok).2.2.1 (fun q => ht (Or.inr q)))]
    exact z160
  · rcases ht with rfl | rfl
    all_goals exact ⟨Nat.ne_of_beq_eq_false rfl |> fun q z => q (congrArg Prod.fst z), by decide, by decide, by decide, Or.inr (Or.inr (by decide)), by decide, fun _ h r q => by cases q; decide, fun H => by rw [cnq, if_neg (by decide), Nat.add_zero], fun t' => Or.inl rfl⟩
theorem R_both {b : Nat → Int32} {N T : Nat} {x0 : CS} {y0 : MS} (C : CT b N T x0 y0) {n : Nat} {rO rN rE : CS → Option CS} (I : SP b N T x0 y0 (f_X6_readNot rO rN rE) n 3 (TL 4) condB stop3) : SP b N T x0 y0 (f_X6_readBoth rO rN rE) n 2 (TL 2) condB stop2 := by
  refine FOLD C (F := f_X6_readNot rO rN rE) (LF := f_X6_readBoth_6 rO rN rE) (op := fun t => t = TK.and) I (by decide) (fun _ h => TL_up (by decide) h) (fun g x i t h5 hi ht h8 => ?_) (fun g x i t h5 ok ht h8 => ?_) (fun g x i f h => F_both6 h g i) (fun t E H ht h => ⟨h, ht⟩) (fun t ht => ?_)
  · subst ht
    rw [f_X6_readBoth_6, if_neg hi, h5, if_neg (by decide), h8]
    rfl
  · rw [f_X6_readBoth_6, h5, h8, if_neg ((c_ne ok).2.2.2.1 ht)]
    exact z160
  · subst ht
    exact ⟨Nat.ne_of_beq_eq_false rfl |> fun q z => q (congrArg Prod.fst z), by decide, by decide, by decide, Or.inr (Or.inr (by decide)), by decide, fun _ h r q => by cases q; decide, fun H => by rw [cnq, if_neg (by decide), Nat.add_zero], fun t' => rfl⟩
theorem R_eith {b : Nat → Int32} {N T : Nat} {x0 : CS} {y0 : MS} (C : CT b N T x0 y0) {n : Nat} {rO rN rE : CS → Option CS} (I : SP b N T x0 y0 (f_X6_readBoth rO rN rE) n 2 (TL 2) condB stop2) : SP b N T x0 y0 (f_X6_readEither rO rN rE) n 1 (TL 1) condB stop0 := by
  refine FOLD C (F := f_X6_readBoth rO rN rE) (LF := f_X6_readEither_6 rO rN rE) (op := fun t => t = TK.orr) I (by decide) (fun _ h => TL_up (by decide) h) (fun g x i t h5 hi ht h8 => ?_) (fun g x i t h5 ok ht h8 => ?_) (fun g x i f h => F_eith6 h g i) (fun t E H ht h => ⟨h.1, h.2, ht⟩) (fun t ht => ?_)
  · subst ht
    rw [f_X6_readEither_6, if_neg hi, h5, if_neg (by decide), h8]
    rfl
  · rw [f_X6_readEither_6, h5, h8, if_neg ((c_ne ok).2.2.2.2.1 ht)]
    exact z160
  · subst ht
    exact ⟨Nat.ne_of_beq_eq_false rfl |> fun q z => q (congrArg Prod.fst z), by decide, by decide, by decide, Or.inr (Or.inr (by decide)), by decide, fun _ h r q => by cases q; decide, fun H => by rw [cnq, if_neg (by decide), Nat.add_zero], fun t' => rfl⟩
theorem F_not64 {N : Nat} {x0 x : CS} {f : Nat} {rO rN rE : CS → Option CS} (h : KF N x0 x f) : (if (gi x 26 8) = 60 then (f_X6_readNot_64 rO rN rE x) else (if (gi x 26 8) = 61 then (f_X6_readNot_64 rO rN rE x) else (some x))) = some x := by
  unfold f_X6_readNot_64 f_X6_readNot_80
  simp only [F_sum h, F_adv h, F_emit h, Option.bind_some]
  repeat' split
  all_goals rfl
theorem R_not {b : Nat → Int32} {N T : Nat} {x0 : CS} {y0 : MS} (C : CT b N T x0 y0) {n : Nat} {rO rN rE : CS → Option CS} (IN : SP b N T x0 y0 rN n 3 (TL 4) condB stop3) (IS : SP b N T x0 y0 (f_X6_readSum rO rN rE) (n + 1) 5 (TL 5) condA stop5) : SP b N T x0 y0 (f_X6_readNot rO rN rE) (n + 1) 3 (TL 4) condB stop3 := by
  intro x y p E H a hn X Y hp hl hc hpre hcond
  obtain ⟨hB, hx0, hy0, h20, hT⟩ := C
  have hN := hB.1
  have hcond : a = 1 := hcond
  subst hcond
  obtain ⟨ok, y1, n1, K1, h32, h33, _⟩ := M_nx2 hB hy0 Y hp
  have hnb := nx_b (b := b) hp
  have hsb := st_b (b := b) hp
  have h8 := X.2.2.2.2.2.2.2.2.1
  unfold f_X6_readNot
  rw [h8]
  by_cases e : tok b N p = TK.not
  · have h1 := nx_1 (b := b) hp (by rw [e]; exact fun q => absurd (congrArg Prod.fst q) (Nat.ne_of_beq_eq_false rfl))
    have hcn : cnq (13 :: H) = cnq H + 1 := by rw [cnq, if_pos (Or.inr (Or.inl rfl))]
    rw [e, if_pos (show TK.not.c = 305 from rfl)]
    have O := E_opn n1 K1 (by omega) hc 1 (c := 13) (a' := 1) (Or.inr (Or.inr ⟨by rw [h33, e]; rfl, rfl, rfl, by decide⟩))
    rcases X_opn hB X hp hc with ⟨o5, t1, X1⟩ | ⟨o5, t1, F1⟩
    · rcases O with ⟨c5, r⟩ | ⟨c5, y2, r, Y2⟩
      · omega
      obtain ⟨x2, a2, X2⟩ := X_adv2 hB hx0 X1 hp
      rw [t1, if_neg bt, a2, Option.bind_some]
      have R := IN x2 y2 (nx b N p) E (13 :: H) 1 (by omega) (by rw [hcn]; exact X2) Y2 hnb.2.1 (by rw [List.length_cons]; omega) (by omega) (fun h r q => by cases q; decide) rfl
      refine RES_tr r h1.1 ?_
      rcases R with ⟨x', f, y', k, q1, q2, q3, q4, q5, q6⟩ | ⟨x', y', p', e', E2, H2, k, a', q1, q2, q3, q4, q5, q6, q7, q8, q9, q10⟩
      · rw [q1, Option.bind_some, F_emit q2, Option.bind_some]
        exact Or.inl ⟨_, f, y', k, rfl, F_cl q2 _, q3, q4, by omega, q6⟩
      · have hlen := unw_len 3 (13 :: H) (E ++ e')
        have hlen2 := unw_len 3 H2 E2
        rw [q8, hlen, List.length_cons] at hlen2
        rw [hcn] at q2
        obtain ⟨x3, a3, X3⟩ := X_emit q2 (by omega) (v := -11) (c := 13) rfl
        rw [q1, Option.bind_some, a3, Option.bind_some]
        rw [List.append_assoc] at X3
        exact Or.inr ⟨_, y', p', e' ++ [13], E2, H2, k, a', rfl, X_cl X3, q3, q4, q5, q6, q7, by rw [q8, unw_p (by decide), List.append_assoc], PX_1 q9 (Or.inr (Or.inr (by decide))) rfl, q10⟩
    · rcases O with ⟨c5, r⟩ | ⟨c5, y2, r, Y2⟩
      · rw [t1, if_pos b2i_f]
        exact Or.inl ⟨_, _, y1, 1, rfl, F1, K1.1, h32, by omega, r⟩
      · omega
  · rw [if_neg ((c_ne ok).2.2.2.2.2.1 e)]
    rcases IS x y p E H 1 hn X Y hp hl hc (TL_up (by decide) hpre) (Or.inr e) with ⟨x', f, y', k, q1, q2, q3, q4, q5, q6⟩ | ⟨x', y', p', e', E2, H2, k, a', q1, q2, q3, q4, q5, q6, q7, q8, q9, q10⟩
    · rw [q1, Option.bind_some, F_not64 q2]
      exact Or.inl ⟨_, f, y', k, rfl, q2, q3, q4, by omega, q6⟩
    · rw [q1, Option.bind_some]
      refine RES_tr q4 q5 ?_
      obtain ⟨ok', z1, nz, Z1, z32, z33, _⟩ := M_nx2 hB hy0 q3 q6
      have h8' := q2.2.2.2.2.2.2.2.2.1
      have hu : unw 5 E2 H2 = (E ++ e', H) := by rw [q8, unw_t (TL_up (by decide) hpre)]
      have hlen := unw_len 5 H2 E2
      rw [hu] at hlen
      have hlen : (E ++ e').length + H.length = E2.length + H2.length := hlen
      by_cases ccm : tok b N p' = TK.lt ∨ tok b N p' = TK.eq
      · have hnb' := nx_b (b := b) q6
        have h2 := nx_1 (b := b) q6 (by rcases ccm with q | q <;> rw [q] <;> exact fun q => absurd (congrArg Prod.fst q) (Nat.ne_of_beq_eq_false rfl))
        obtain ⟨x2, a2, X2⟩ := X_adv2 hB hx0 q2 q6
        have facts : ¬ opp (tok b N p') = -1 ∧ f_X11_rank (opp (tok b N p')) = 4 ∧ 12 < opp (tok b N p') ∧ okc (opp (tok b N p')) ∧ ar (opp (tok b N p')) = 2 ∧ cnq (opp (tok b N p') :: H) = cnq H := by
          rcases ccm with q | q <;> rw [q]
          all_goals exact ⟨by decide, by decide, by decide, Or.inr (Or.inr (by decide)), by decide, by rw [cnq, if_neg (by decide), Nat.add_zero]⟩
        obtain ⟨f1, f2, f3, f4, f5, f6⟩ := facts
        obtain ⟨y2, r, Y2⟩ := E_op h20 hT nz ok' z33 Z1 (by omega) a' f1 (E1 := E ++ e') (H1 := H) (by rw [f2, if_pos rfl]; exact hu) (fun _ z w q => by have := hpre z w q; intro c; rw [c] at this; exact absurd this (by decide))
        rw [if_pos f3] at r
        have eq64 : (if gi x' 26 8 = 60 then f_X6_readNot_64 rO rN rE x' else if gi x' 26 8 = 61 then f_X6_readNot_64 rO rN rE x' else some x') = (f_X6_readSum rO rN rE x2).bind fun r3 => (f_X6_emit r3 (trc (opp (tok b N p')))).bind fun r5 => some r5 := by
          unfold f_X6_readNot_64 f_X6_readNot_80
          rw [a2, Option.bind_some, Option.bind_some, h8']
          rcases ccm with q | q <;> rw [q] <;> rfl
        rw [eq64]
        refine RES_tr r h2.1 ?_
        rcases IS x2 y2 (nx b N p') (E ++ e') (opp (tok b N p') :: H) 0 (by rw [f6]; exact hn) (by rw [f6]; exact X2) Y2 hnb'.2.1 (by rw [List.length_cons]; omega) (by rw [f6]; exact hc) (fun h r q => by cases q; rw [f2]; decide) (Or.inl rfl) with ⟨x', f, y', k, w1, w2, w3, w4, w5, w6⟩ | ⟨x'', y'', p'', e'', E3, H3, k', a'', w1, w2, w3, w4, w5, w6, w7, w8, w9, w10⟩
        · rw [w1, Option.bind_some, F_emit w2, Option.bind_some]
          exact Or.inl ⟨_, f, y', k, rfl, w2, w3, w4, by omega, w6⟩
        · have hu3 : unw 5 E3 H3 = (E ++ e' ++ e'', opp (tok b N p') :: H) := by rw [w8, unw_t (fun h r q => by cases q; rw [f2]; decide)]
          have l2 := unw_len 5 H3 E3
          rw [hu3] at l2
          have l2 : (E ++ e' ++ e'').length + (H.length + 1) = E3.length + H3.length := l2
          rw [f6] at w2
          obtain ⟨x3, a3, X3⟩ := X_emit w2 (by omega) (v := trc (opp (tok b N p'))) (c := opp (tok b N p')) rfl
          rw [w1, Option.bind_some, a3, Option.bind_some]
          have eA : E ++ e' ++ e'' ++ [opp (tok b N p')] = E ++ (e' ++ e'' ++ [opp (tok b N p')]) := by simp only [List.append_assoc]
          have q8' : unw 3 E3 H3 = unw 3 (E ++ e' ++ e'' ++ [opp (tok b N p')]) H := by
            rw [unw_dn (by decide : (3 : Int32) ≤ 5) w8, unw_p (by rw [f2]; decide)]
          rw [eA] at X3 q8'
          exact Or.inr ⟨x3, y'', p'', _, E3, H3, k', a'', rfl, X3, w3, w4, w5, w6, w7, q8', PX_2 q9 w9 f4 f5, w10, fun _ => ⟨_, H, by rw [hu3], f2⟩⟩
      · rw [h8', if_neg ((c_ne ok').2.2.2.2.2.2.1 (fun q => ccm (Or.inl q))), if_neg ((c_ne ok').2.2.2.2.2.2.2 (fun q => ccm (Or.inr q)))]
        exact Or.inr ⟨x', y', p', e', E2, H2, 0, a', rfl, q2, q3, fun g => rfl, by omega, q6, q7, unw_dn (by decide) q8, q9, q10, fun q => absurd q ccm⟩
theorem R_grp {b : Nat → Int32} {N T : Nat} {x0 : CS} {y0 : MS} (C : CT b N T x0 y0) : ∀ n, SP b N T x0 y0 (f_X6_grp n).1 n 7 (fun _ => True) condA stop1 ∧ SP b N T x0 y0 (f_X6_grp n).2.1 n 3 (TL 4) condB stop3 ∧ SP b N T x0 y0 (f_X6_grp n).2.2 n 1 (TL 1) condB stop0 := by
  intro n
  induction n with
  | zero => exact ⟨fun x y p E H a h _ _ _ _ hc => by omega, fun x y p E H a h _ _ _ _ hc => by omega, fun x y p E H a h _ _ _ _ hc => by omega⟩
  | succ n ih =>
    obtain ⟨i1, i2, i3⟩ := ih
    have r1 := R_one C (rO := (f_X6_grp n).1) (rN := (f_X6_grp n).2.1) (rE := (f_X6_grp n).2.2) i1 i3
    have r2 := R_sum C (R_term C r1)
    have r3 := R_not C i2 r2
    exact ⟨r1, r3, R_eith C (R_both C r3)⟩
