/-! ===== pure: the two readers side by side ===== -/
def WL : List Int32 → Nat → Nat → Prop
  | [], d, d' => d' = d
  | c :: l, d, d' => okc c ∧ ar c ≤ d ∧ WL l (d - ar c + 1) d'
theorem WL_app {l' : List Int32} {d1 d2 : Nat} : ∀ (l : List Int32) (d : Nat), WL l d d1 → WL l' d1 d2 → WL (l ++ l') d d2 := by
  intro l
  induction l with
  | nil => intro d h k; have h : d1 = d := h; subst h; exact k
  | cons c l ih => intro d h k; exact ⟨h.1, h.2.1, ih _ h.2.2 k⟩
def PX (e : List Int32) : Prop := ∀ d, WL e d (d + 1)
theorem PX_0 {c : Int32} (h : okc c) (h0 : ar c = 0) : PX [c] := fun d => ⟨h, by omega, by show d + 1 = d - ar c + 1; omega⟩
theorem PX_1 {c : Int32} {e : List Int32} (k : PX e) (h : okc c) (h0 : ar c = 1) : PX (e ++ [c]) := fun d => WL_app e d (k d) ⟨h, by omega, by show d + 1 = d + 1 - ar c + 1; omega⟩
theorem PX_2 {c : Int32} {e e' : List Int32} (k : PX e) (k' : PX e') (h : okc c) (h0 : ar c = 2) : PX (e ++ e' ++ [c]) := fun d => WL_app (e ++ e') d (WL_app e d (k d) (k' (d + 1))) ⟨h, by omega, by show d + 1 = d + 1 + 1 - ar c + 1; omega⟩
def CT (b : Nat → Int32) (N T : Nat) (x0 : CS) (y0 : MS) : Prop := BB b N ∧ TBx b N x0 ∧ TBy b N y0 ∧ gi y0 61 20 = n32 T ∧ T < 6
def RES (b : Nat → Int32) (N T : Nat) (x0 : CS) (y0 : MS) (F : Option CS) (y : MS) (w a : Int32) (p : Nat) (L : Int32) (E H : List Int32) (stop : TK → List Int32 → List Int32 → Prop) : Prop :=
  (∃ x' f y' k, F = some x' ∧ KF N x0 x' f ∧ KG T y0 y' ∧ gi y' 61 32 = n32 f ∧ k + p ≤ 161 ∧ ∀ g, f_X11_eRead_14 (g + k) y w a = some (false, y')) ∨
  (∃ x' y' p' e E2 H2 k a', F = some x' ∧ KX b N x0 x' p' (E ++ e) (cnq H) ∧ KY T y0 y' p' E2 H2 ∧ RUN y w a k y' 0 a' ∧ p + k ≤ p' ∧ p' ≤ N ∧ E2.length + H2.length ≤ p' ∧ unw L E2 H2 = unw L (E ++ e) H ∧ PX e ∧ stop (tok b N p') E2 H2)
def SP (b : Nat → Int32) (N T : Nat) (x0 : CS) (y0 : MS) (F : CS → Option CS) (n : Nat) (L : Int32) (pre : List Int32 → Prop) (cond : Int32 → TK → Prop) (stop : TK → List Int32 → List Int32 → Prop) : Prop :=
  ∀ x y p E H a, 7 ≤ n + cnq H → KX b N x0 x p E (cnq H) → KY T y0 y p E H → p ≤ N → E.length + H.length ≤ p → cnq H ≤ 5 → pre H → cond a (tok b N p) → RES b N T x0 y0 (F x) y 1 a p L E H stop
theorem RES_tr {b : Nat → Int32} {N T : Nat} {x0 : CS} {y0 : MS} {F : Option CS} {y y1 : MS} {w a w1 a1 : Int32} {p p1 k : Nat} {L : Int32} {E H : List Int32} {stop : TK → List Int32 → List Int32 → Prop} (r : RUN y w a k y1 w1 a1) (hp : p + k ≤ p1) (h : RES b N T x0 y0 F y1 w1 a1 p1 L E H stop) : RES b N T x0 y0 F y w a p L E H stop := by
  rcases h with ⟨x', f, y', k', q1, q2, q3, q4, q5, q6⟩ | ⟨x', y', p', e, E2, H2, k', a', q1, q2, q3, q4, q5, q6⟩
  · exact Or.inl ⟨x', f, y', k' + k, q1, q2, q3, q4, by omega, fun g => by rw [← Nat.add_assoc, r, q6]⟩
  · exact Or.inr ⟨x', y', p', e, E2, H2, k' + k, a', q1, q2, q3, fun g => by rw [← Nat.add_assoc, r, q4], by omega, q6⟩
def condA (a : Int32) (t : TK) : Prop := a = 0 ∨ t ≠ TK.not
def condB (a : Int32) (_ : TK) : Prop := a = 1
def stop1 (_ : TK) (_ _ : List Int32) : Prop := True
def stop6 (t : TK) (_ _ : List Int32) : Prop := t ≠ TK.mu
def stop5 (t : TK) (_ _ : List Int32) : Prop := t ≠ TK.mu ∧ t ≠ TK.pl ∧ t ≠ TK.mi
def stop3 (t : TK) (E H : List Int32) : Prop := (t ≠ TK.mu ∧ t ≠ TK.pl ∧ t ≠ TK.mi) ∧ ((t = TK.lt ∨ t = TK.eq) → ∃ z r, (unw 5 E H).2 = z :: r ∧ f_X11_rank z = 4)
def stop2 (t : TK) (E H : List Int32) : Prop := stop3 t E H ∧ t ≠ TK.and
def stop0 (t : TK) (E H : List Int32) : Prop := stop3 t E H ∧ t ≠ TK.and ∧ t ≠ TK.orr
theorem k_le (k : Int32) : k ≤ k := i32_le.mpr (by omega)
theorem nx_1 {b : Nat → Int32} {N p : Nat} (hp : p ≤ N) (h : tok b N p ≠ TK.fin) : p + 1 ≤ nx b N p ∧ p < N := by
  have h1 := st_b (b := b) hp
  have h2 := nx_b (b := b) hp
  by_cases c : st b N p < N
  · have := h2.2.2 c; omega
  · exact absurd (tok_fin c) h
theorem trc_num {v : Int32} (h : 0 ≤ v.toInt) (h2 : v.toInt ≤ 9999) : trc (100000 + v) = v ∧ okc (100000 + v) ∧ ar (100000 + v) = 0 := by
  have e : (100000 + v).toInt = 100000 + v.toInt := by rw [i32_add, z_100000] <;> rw [z_100000] <;> omega
  have c : (100000 : Int32) ≤ 100000 + v := by rw [i32_le, e, z_100000]; omega
  refine ⟨?_, Or.inl (by omega), ?_⟩
  · unfold trc; rw [if_pos c]
    rw [i32_eq, i32_sub (by rw [e, z_100000]; omega) (by rw [e, z_100000]; omega), e, z_100000]; omega
  · unfold ar; rw [if_pos c]
theorem R_one {b : Nat → Int32} {N T : Nat} {x0 : CS} {y0 : MS} (C : CT b N T x0 y0) {n : Nat} {rO rN rE : CS → Option CS} (IO : SP b N T x0 y0 rO n 7 (fun _ => True) condA stop1) (IE : SP b N T x0 y0 rE n 1 (TL 1) condB stop0) : SP b N T x0 y0 (f_X6_readOne rO rN rE) (n + 1) 7 (fun _ => True) condA stop1 := by
  intro x y p E H a hn X Y hp hl hc _ hcond
  obtain ⟨hB, hx0, hy0, h20, hT⟩ := C
  have hN := hB.1
  obtain ⟨ok, y1, n1, K1, h32, h33, hv, ha, _⟩ := M_nx2 hB hy0 Y hp
  have hnb := nx_b (b := b) hp
  have hsb := st_b (b := b) hp
  have h5 := X.2.2.2.2.1
  have h8 := X.2.2.2.2.2.2.2.2.1
  have h10 := X.2.2.2.2.2.2.2.2.2.1
  have n5 : gi x 26 5 < 0 := by rw [h5]; decide
  unfold f_X6_readOne
  rw [if_pos n5, h8]
  have BAD : ∀ t, tok b N p = t → ¬ t.c = 306 → f_X10_within t.c 310 315 = false → ¬ t.c = 45 → ¬ t.c = 40 → ¬ t.m = 1 → ¬ t.m = 2 → (t.m = 6 → a = 0) → ¬ t.m = 45 → ¬ t.m = 40 → RES b N T x0 y0 (if (tok b N p).c = 306 then ((f_X6_emit x (gi x 26 10)).bind fun r28 => (f_X6_advance r28).bind fun r30 => some r30) else (if (b2i (f_X10_within (tok b N p).c 310 315)) = 0 then (if (tok b N p).c = 45 then (if (b2i ((f_X6_opens x).1)) = 0 then (some ((f_X6_opens x).2)) else ((f_X6_advance ((f_X6_opens x).2)).bind fun r18 => (rO r18).bind fun r20 => (f_X6_emit r20 (-10)).bind fun r22 => some (pi r22 26 6 ((gi r22 26 6) - 1)))) else (if (tok b N p).c = 40 then (if (b2i ((f_X6_opens x).1)) = 0 then (some ((f_X6_opens x).2)) else ((f_X6_advance ((f_X6_opens x).2)).bind fun r10 => (rE r10).bind fun r12 => (f_X6_expect r12 41).bind fun r14 => some (pi r14 26 6 ((gi r14 26 6) - 1)))) else (some (f_X6_fail x)))) else ((f_X6_emit x ((-1) - ((tok b N p).c - 310))).bind fun r24 => (f_X6_advance r24).bind fun r26 => some r26))) y 1 a p 7 E H stop1 := by
    intro t e c1 c2 c3 c4 m1 m2 m6 m45 m40
    rw [e, if_neg c1, c2, if_pos b2i_f, if_neg c3, if_neg c4]
    have e33 : gi y1 61 33 = t.m := by rw [← e]; exact h33
    exact Or.inl ⟨_, _, y1, 1, rfl, X_fail hB X hp, K1.1, h32, by omega, E_bad n1 (by rw [e33]; exact m1) (by rw [e33]; exact m2) (by rw [e33]; exact m6) (by rw [e33]; exact m45) (by rw [e33]; exact m40)⟩
  rcases ok with e | ⟨v, e, v0, v1⟩ | ⟨k, hk, e⟩ | ⟨k, hk, e⟩ | e | e | e | e | e | e | e | e | e | e | e | e
  · exact BAD _ e (by decide) (by decide) (by decide) (by decide) (by decide) (by decide) (fun q => absurd q (by decide)) (by decide) (by decide)
  · have h1 := nx_1 (b := b) hp (by rw [e]; exact fun q => absurd (congrArg Prod.fst q) (Nat.ne_of_beq_eq_false rfl))
    obtain ⟨t1, t2, t3⟩ := trc_num v0 v1
    obtain ⟨x1, a1, X1⟩ := X_emit X (by omega) (v := gi x 26 10) (c := 100000 + v) (by rw [h10 v e, t1])
    obtain ⟨x2, a2, X2⟩ := X_adv2 hB hx0 X1 hp
    obtain ⟨y2, r, Y2⟩ := E_val h20 hT n1 K1 (by omega) a (c := 100000 + v) (Or.inl ⟨by rw [h33, e]; rfl, by rw [hv v e]⟩)
    have hlen := unw_len 7 H (E ++ [100000 + v])
    rw [List.length_append, List.length_cons, List.length_nil] at hlen
    rw [e, if_pos (show (TK.num v).c = 306 from rfl), a1, Option.bind_some, a2, Option.bind_some]
    exact Or.inr ⟨x2, y2, _, [100000 + v], _, _, 1, a, rfl, X2, Y2, r, by omega, hnb.2.1, by omega, unw_2 (k_le 7) _ _, PX_0 t2 t3, trivial⟩
  · have h1 := nx_1 (b := b) hp (by rw [e]; exact fun q => absurd (congrArg Prod.fst q) (Nat.ne_of_beq_eq_false rfl))
    have tk : (-1 : Int32) - ((TK.att k).c - 310) = trc (n32 k) ∧ okc (n32 k) ∧ ar (n32 k) = 0 ∧ ¬ (TK.att k).c = 306 ∧ f_X10_within (TK.att k).c 310 315 = true := by
      rcases (by omega : k = 0 ∨ k = 1 ∨ k = 2 ∨ k = 3 ∨ k = 4 ∨ k = 5) with rfl | rfl | rfl | rfl | rfl | rfl
      all_goals exact ⟨by decide, Or.inr (Or.inl (by decide)), by decide, by decide, by decide⟩
    obtain ⟨t0, t2, t3, t4, t5⟩ := tk
    obtain ⟨x1, a1, X1⟩ := X_emit X (by omega) (v := (-1 : Int32) - ((TK.att k).c - 310)) (c := n32 k) t0
    obtain ⟨x2, a2, X2⟩ := X_adv2 hB hx0 X1 hp
    obtain ⟨y2, r, Y2⟩ := E_val h20 hT n1 K1 (by omega) a (c := n32 k) (Or.inr ⟨by rw [h33, e]; rfl, by rw [ha k hk e]⟩)
    have hlen := unw_len 7 H (E ++ [n32 k])
    rw [List.length_append, List.length_cons, List.length_nil] at hlen
    rw [e, if_neg t4, t5, if_neg bt, a1, Option.bind_some, a2, Option.bind_some]
    exact Or.inr ⟨x2, y2, _, [n32 k], _, _, 1, a, rfl, X2, Y2, r, by omega, hnb.2.1, by omega, unw_2 (k_le 7) _ _, PX_0 t2 t3, trivial⟩
  · rcases (by omega : k = 0 ∨ k = 1 ∨ k = 2) with rfl | rfl | rfl
    all_goals exact BAD _ e (by decide) (by decide) (by decide) (by decide) (by decide) (by decide) (fun q => absurd q (by decide)) (by decide) (by decide)
  · exact BAD _ e (by decide) (by decide) (by decide) (by decide) (by decide) (by decide) (fun q => absurd q (by decide)) (by decide) (by decide)
  · exact BAD _ e (by decide) (by decide) (by decide) (by decide) (by decide) (by decide) (fun q => absurd q (by decide)) (by decide) (by decide)
  · exact BAD _ e (by decide) (by decide) (by decide) (by decide) (by decide) (by decide) (fun _ => hcond.elim id (fun q => absurd e q)) (by decide) (by decide)
  · exact BAD _ e (by decide) (by decide) (by decide) (by decide) (by decide) (by decide) (fun q => absurd q (by decide)) (by decide) (by decide)
  · -- (
    have h1 := nx_1 (b := b) hp (by rw [e]; exact fun q => absurd (congrArg Prod.fst q) (Nat.ne_of_beq_eq_false rfl))
    have hcn : cnq (0 :: H) = cnq H + 1 := by rw [cnq, if_pos (Or.inl rfl)]
    rw [e, if_neg (by decide), if_pos (show b2i (f_X10_within TK.lp.c 310 315) = 0 by decide), if_neg (by decide), if_pos (show TK.lp.c = 40 from rfl)]
    rcases X_opn hB X hp hc with ⟨o5, t1, X1⟩ | ⟨o5, t1, F1⟩
    · rcases E_opn n1 K1 (by omega) hc a (c := 0) (a' := 1) (Or.inr (Or.inl ⟨by rw [h33, e]; rfl, rfl, rfl⟩)) with ⟨c5, r⟩ | ⟨c5, y2, r, Y2⟩
      · omega
      obtain ⟨x2, a2, X2⟩ := X_adv2 hB hx0 X1 hp
      rw [t1, if_neg bt, a2, Option.bind_some]
      have R := IE x2 y2 (nx b N p) E (0 :: H) 1 (by omega) (by rw [hcn]; exact X2) Y2 hnb.2.1 (by rw [List.length_cons]; omega) (by omega) (fun h r q => by cases q; decide) rfl
      refine RES_tr r h1.1 ?_
      rcases R with ⟨x', f, y', k, q1, q2, q3, q4, q5, q6⟩ | ⟨x', y', p', e', E2, H2, k, a', q1, q2, q3, q4, q5, q6, q7, q8, q9, q10⟩
      · rw [q1, Option.bind_some, F_exp q2, Option.bind_some]
        exact Or.inl ⟨_, f, y', k, rfl, F_cl q2 _, q3, q4, by omega, q6⟩
      · rw [q1, Option.bind_some]
        obtain ⟨ok', z1, nz, Z1, z32, z33, _, _, _⟩ := M_nx2 hB hy0 q3 q6
        have hnb' := nx_b (b := b) q6
        have hu : unw 1 E2 H2 = (E ++ e', 0 :: H) := by rw [q8, unw_t (fun h r q => by cases q; decide)]
        have hlen := unw_len 1 H2 E2
        rw [hu] at hlen
        have hlen : (E ++ e').length + (H.length + 1) = E2.length + H2.length := hlen
        have h8' := q2.2.2.2.2.2.2.2.2.1
        by_cases crp : tok b N p' = TK.rp
        · have h2 := nx_1 (b := b) q6 (by rw [crp]; exact fun q => absurd (congrArg Prod.fst q) (Nat.ne_of_beq_eq_false rfl))
          rw [hcn] at q2
          obtain ⟨x3, a3, X3⟩ := X_adv2 hB hx0 q2 q6
          unfold f_X6_expect
          rw [h8', crp, if_pos (show TK.rp.c = 41 from rfl), a3, Option.bind_some, Option.bind_some]
          obtain ⟨y3, r3, Y3⟩ := E_rp h20 hT nz (by rw [z33, crp]; rfl) Z1 (by omega) a' hu
          have hl7 := unw_len 7 H (E ++ e')
          exact Or.inr ⟨_, y3, _, e', _, _, 1 + k, a', rfl, X_cl X3, Y3, fun g => by rw [← Nat.add_assoc, q4, r3], by omega, hnb'.2.1, by omega, unw_2 (k_le 7) _ _, q9, trivial⟩
        · have c41 : ¬ (tok b N p').c = 41 := by
            rcases ok' with e | ⟨v, e, v0, v1⟩ | ⟨k, hk, e⟩ | ⟨k, hk, e⟩ | e | e | e | e | e | e | e | e | e | e | e | e <;> rw [e] at crp ⊢
            all_goals first
              | exact absurd rfl crp
              | decide
              | (show ¬ (306 : Int32) = 41; decide)
              | (rcases (by omega : k = 0 ∨ k = 1 ∨ k = 2 ∨ k = 3 ∨ k = 4 ∨ k = 5) with rfl | rfl | rfl | rfl | rfl | rfl <;> decide)
              | (rcases (by omega : k = 0 ∨ k = 1 ∨ k = 2) with rfl | rfl | rfl <;> decide)
          have KFx := X_fail hB q2 q6
          unfold f_X6_expect
          rw [h8', if_neg c41, Option.bind_some]
          have fin : ∀ z, (∀ g, f_X11_eRead_14 (g + 1) y' 0 a' = some (false, z)) → KG T y0 z → gi z 61 32 = n32 (st b N p') → RES b N T x0 y0 (some (pi (f_X6_fail x') 26 6 (gi (f_X6_fail x') 26 6 - 1))) y2 1 1 (nx b N p) 7 E H stop1 := fun z hz hg h => Or.inl ⟨_, st b N p', z, 1 + k, rfl, F_cl KFx _, hg, h, by omega, fun g => by rw [← Nat.add_assoc, q4, hz]⟩
          obtain ⟨⟨⟨s1, s2, s3⟩, s4⟩, s5, s6⟩ := q10
          by_cases csc : tok b N p' = TK.sc
          · obtain ⟨z, k1, k2, k3⟩ := E_sc h20 hT nz (by rw [z33, csc]; rfl) Z1 (by omega) a' hu
            exact fin z (fun g => by rw [k1 g]; rfl) k2.1 ((k3 32 (by omega) (by omega)).trans z32)
          by_cases ccm : tok b N p' = TK.lt ∨ tok b N p' = TK.eq
          · obtain ⟨z, k1, k2, k3⟩ := E_cmp h20 hT nz ccm z33 Z1 (by omega) a' (s4 ccm)
            exact fin z k1 k2 (k3.trans z32)
          · have ho : opp (tok b N p') = -1 := by
              rcases ok' with e | ⟨v, e, v0, v1⟩ | ⟨k, hk, e⟩ | ⟨k, hk, e⟩ | e | e | e | e | e | e | e | e | e | e | e | e
              all_goals first
                | exact absurd e s1
                | exact absurd e s2
                | exact absurd e s3
                | exact absurd e s5
                | exact absurd e s6
                | exact absurd (Or.inl e) ccm
                | exact absurd (Or.inr e) ccm
                | (rw [e]; rfl)
            exact fin z1 (E_no nz ok' z33 ho csc crp a') Z1.1 z32
    · rcases E_opn n1 K1 (by omega) hc a (c := 0) (a' := 1) (Or.inr (Or.inl ⟨by rw [h33, e]; rfl, rfl, rfl⟩)) with ⟨c5, r⟩ | ⟨c5, y2, r, Y2⟩
      · rw [t1, if_pos b2i_f]
        exact Or.inl ⟨_, _, y1, 1, rfl, F1, K1.1, h32, by omega, r⟩
      · omega
  · exact BAD _ e (by decide) (by decide) (by decide) (by decide) (by decide) (by decide) (fun q => absurd q (by decide)) (by decide) (by decide)
  · exact BAD _ e (by decide) (by decide) (by decide) (by decide) (by decide) (by decide) (fun q => absurd q (by decide)) (by decide) (by decide)
  · exact BAD _ e (by decide) (by decide) (by decide) (by decide) (by decide) (by decide) (fun q => absurd q (by decide)) (by decide) (by decide)
  · -- -
    have h1 := nx_1 (b := b) hp (by rw [e]; exact fun q => absurd (congrArg Prod.fst q) (Nat.ne_of_beq_eq_false rfl))
    have hcn : cnq (19 :: H) = cnq H + 1 := by rw [cnq, if_pos (Or.inr (Or.inr rfl))]
    rw [e, if_neg (by decide), if_pos (show b2i (f_X10_within TK.mi.c 310 315) = 0 by decide), if_pos (show TK.mi.c = 45 from rfl)]
    rcases X_opn hB X hp hc with ⟨o5, t1, X1⟩ | ⟨o5, t1, F1⟩
    · rcases E_opn n1 K1 (by omega) hc a (c := 19) (a' := 0) (Or.inl ⟨by rw [h33, e]; rfl, rfl, rfl⟩) with ⟨c5, r⟩ | ⟨c5, y2, r, Y2⟩
      · omega
      obtain ⟨x2, a2, X2⟩ := X_adv2 hB hx0 X1 hp
      rw [t1, if_neg bt, a2, Option.bind_some]
      have R := IO x2 y2 (nx b N p) E (19 :: H) 0 (by omega) (by rw [hcn]; exact X2) Y2 hnb.2.1 (by rw [List.length_cons]; omega) (by omega) trivial (Or.inl rfl)
      refine RES_tr r h1.1 ?_
      rcases R with ⟨x', f, y', k, q1, q2, q3, q4, q5, q6⟩ | ⟨x', y', p', e', E2, H2, k, a', q1, q2, q3, q4, q5, q6, q7, q8, q9, q10⟩
      · rw [q1, Option.bind_some, F_emit q2, Option.bind_some]
        exact Or.inl ⟨_, f, y', k, rfl, F_cl q2 _, q3, q4, by omega, q6⟩
      · have hlen := unw_len 7 (19 :: H) (E ++ e')
        have hlen2 := unw_len 7 H2 E2
        rw [q8, hlen, List.length_cons] at hlen2
        rw [hcn] at q2
        obtain ⟨x3, a3, X3⟩ := X_emit q2 (by omega) (v := -10) (c := 19) rfl
        rw [q1, Option.bind_some, a3, Option.bind_some]
        rw [List.append_assoc] at X3
        exact Or.inr ⟨_, y', p', e' ++ [19], E2, H2, k, a', rfl, X_cl X3, q3, q4, q5, q6, q7, by rw [q8, unw_p (by decide), List.append_assoc], PX_1 q9 (Or.inr (Or.inr (by decide))) rfl, trivial⟩
    · rcases E_opn n1 K1 (by omega) hc a (c := 19) (a' := 0) (Or.inl ⟨by rw [h33, e]; rfl, rfl, rfl⟩) with ⟨c5, r⟩ | ⟨c5, y2, r, Y2⟩
      · rw [t1, if_pos b2i_f]
        exact Or.inl ⟨_, _, y1, 1, rfl, F1, K1.1, h32, by omega, r⟩
      · omega
  · exact BAD _ e (by decide) (by decide) (by decide) (by decide) (by decide) (by decide) (fun q => absurd q (by decide)) (by decide) (by decide)
  · exact BAD _ e (by decide) (by decide) (by decide) (by decide) (by decide) (by decide) (fun q => absurd q (by decide)) (by decide) (by decide)
  · exact BAD _ e (by decide) (by decide) (by decide) (by decide) (by decide) (by decide) (fun q => absurd q (by decide)) (by decide) (by decide)
