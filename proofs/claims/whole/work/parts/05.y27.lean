/-! ===== pure: tree ===== -/
abbrev d4 : Nat × (Nat → Int32) × (Nat → Int64) := (4, fun _ => 0, fun _ => 0)
abbrev d2 : Nat × (Nat → Int32) × (Nat → Int64) := (2, fun _ => 0, fun _ => 0)
theorem gdy_ptn (x : CS) {q q' : Nat} (j : Nat) (v : Int32) (h : q' ≠ q) : gdy (pti x q j v) q' = gdy x q' := gdy_pdn _ _ h
theorem kdy_p4 (x : CS) (q : Nat) (h1 : 88 ≤ q) (h2 : q < 61 + gn x) : kdy (p4 x q) q 1 = true := kdy_mk h1 h2 (by unfold p4; rw [gdy_pdy])
/-- a TREE laid, with i of its rings told -/
def NT (x z : CS) (i : Nat) (a1 a2 a3 : Int32) (c : Nat → Int32) : Prop := z.1 = x.1 ∧ glot z = glot x ∧ gtr z = gtr x ∧ gn z = gn x + 2 ∧ (∀ q, q < 61 + gn x → gdy z q = gdy x q) ∧ kTr z (61 + gn x) = true ∧ kRg z (61 + gn x + 1) = true ∧ ti z (61 + gn x) 1 = a1 ∧ ti z (61 + gn x) 2 = a2 ∧ ti z (61 + gn x) 3 = a3 ∧ ti z (61 + gn x) 4 = -1 ∧ ∀ r, r < i → ti z (61 + gn x + 1) r = c r
def mk7 (x : CS) : CS := pti (pti (pti (pti (p4 (pal (pal x d4) d2) (61 + gn x)) (61 + gn x) 1 1) (61 + gn x) 2 0) (61 + gn x) 3 0) (61 + gn x) 4 (-1)
theorem mk7_of {x : CS} (h27 : 27 ≤ gn x) : f_X7_init (pal x d4) (61 + gn x) = some (mk7 x) := by
  have e1 : gdy (pal (pal x d4) d2) (61 + gn x) = d4 := by rw [gdy_pan _ _ (by rw [gn_pal]; omega), gdy_pal]
  have k0 : kdy (pal x d4) (61 + gn x) 4 = true := kdy_mk (by omega) (by rw [gn_pal]; omega) (by rw [gdy_pal])
  have k1 : kdy (pal (pal x d4) d2) (61 + gn x) 4 = true := kdy_mk (by omega) (by rw [gn_pal, gn_pal]; omega) (by rw [e1])
  have k2 : kTr (p4 (pal (pal x d4) d2) (61 + gn x)) (61 + gn x) = true := kdy_p4 _ _ (by omega) (by rw [gn_pal, gn_pal]; omega)
  have kt : ∀ (w : CS) (j : Nat) (v : Int32), kTr w (61 + gn x) = true → kTr (pti w (61 + gn x) j v) (61 + gn x) = true := fun w j v h => (kdy_pti _ _ _ _ _ _).trans h
  unfold f_X7_init
  rw [gd_t k0, gd_t (decide_eq_true (by rw [gn_pal]; omega)), gd_t k1, gd_t (decide_eq_true (by rw [gn_pal]; omega)), gd_t k2, gd_t (kt _ _ _ k2), gd_t (kt _ _ _ (kt _ _ _ k2)), gd_t (kt _ _ _ (kt _ _ _ (kt _ _ _ k2)))]
  rfl
theorem mk7_NT {x : CS} (h27 : 27 ≤ gn x) (a1 a2 a3 : Int32) (c : Nat → Int32) : NT x (pti (pti (pti (mk7 x) (61 + gn x) 1 a1) (61 + gn x) 2 a2) (61 + gn x) 3 a3) 0 a1 a2 a3 c ∧ kTr (mk7 x) (61 + gn x) = true := by
  have e2 : gdy (pal (pal x d4) d2) (61 + gn x + 1) = d2 := gdy_pal (pal x d4) d2
  have k2 : kTr (p4 (pal (pal x d4) d2) (61 + gn x)) (61 + gn x) = true := kdy_p4 _ _ (by omega) (by rw [gn_pal, gn_pal]; omega)
  have k3 : kRg (p4 (pal (pal x d4) d2) (61 + gn x)) (61 + gn x + 1) = true := kdy_mk (by omega) (by show _ < 61 + (gn x + 1 + 1); omega) (by unfold p4; rw [gdy_pdn _ _ (by omega), e2])
  have kt : ∀ (w : CS) (q k j : Nat) (v : Int32), kdy w q k = true → kdy (pti w (61 + gn x) j v) q k = true := fun w q k j v h => (kdy_pti _ _ _ _ _ _).trans h
  have kT : kTr (mk7 x) (61 + gn x) = true := kt _ _ _ _ _ (kt _ _ _ _ _ (kt _ _ _ _ _ (kt _ _ _ _ _ k2)))
  have kR : kRg (mk7 x) (61 + gn x + 1) = true := kt _ _ _ _ _ (kt _ _ _ _ _ (kt _ _ _ _ _ (kt _ _ _ _ _ k3)))
  refine ⟨⟨rfl, rfl, rfl, rfl, fun q hq => ?_, kt _ _ _ _ _ (kt _ _ _ _ _ (kt _ _ _ _ _ kT)), kt _ _ _ _ _ (kt _ _ _ _ _ (kt _ _ _ _ _ kR)), ?_, ?_, ?_, ?_, fun r hr => by omega⟩, kT⟩
  · unfold mk7 p4
    rw [gdy_ptn _ _ _ (by omega), gdy_ptn _ _ _ (by omega), gdy_ptn _ _ _ (by omega), gdy_ptn _ _ _ (by omega), gdy_ptn _ _ _ (by omega), gdy_ptn _ _ _ (by omega), gdy_ptn _ _ _ (by omega), gdy_pdn _ _ (by omega), gdy_pan _ _ (by rw [gn_pal]; omega), gdy_pan _ _ (by omega)]
  · rw [ti_pti, if_neg (by omega), ti_pti, if_neg (by omega), ti_pti, if_pos ⟨rfl, rfl⟩]
  · rw [ti_pti, if_neg (by omega), ti_pti, if_pos ⟨rfl, rfl⟩]
  · rw [ti_pti, if_pos ⟨rfl, rfl⟩]
  · rw [ti_pti, if_neg (by omega), ti_pti, if_neg (by omega), ti_pti, if_neg (by omega)]
    unfold mk7
    rw [ti_pti, if_pos ⟨rfl, rfl⟩]
theorem NT_step {x z : CS} {i : Nat} {a1 a2 a3 : Int32} {c : Nat → Int32} (h : NT x z i a1 a2 a3 c) : NT x (pti z (61 + gn x + 1) i (c i)) (i + 1) a1 a2 a3 c := by
  obtain ⟨h1, h2, h3, h4, h5, h6, h7, h8, h9, h10, h11, h12⟩ := h
  have ne : 61 + gn x ≠ 61 + gn x + 1 := by omega
  refine ⟨h1, h2, h3, h4, fun q hq => ?_, (kdy_pti _ _ _ _ _ _).trans h6, (kdy_pti _ _ _ _ _ _).trans h7, ?_, ?_, ?_, ?_, fun r hr => ?_⟩
  · rw [gdy_ptn _ _ _ (by omega)]; exact h5 q hq
  · rw [ti_pti, if_neg (fun q => ne q.1)]; exact h8
  · rw [ti_pti, if_neg (fun q => ne q.1)]; exact h9
  · rw [ti_pti, if_neg (fun q => ne q.1)]; exact h10
  · rw [ti_pti, if_neg (fun q => ne q.1)]; exact h11
  · rw [ti_pti]
    by_cases e : r = i
    · subst e; rw [if_pos ⟨rfl, rfl⟩]
    · rw [if_neg (fun q => e q.2)]; exact h12 r (by omega)
/-- the rings' own sum -/
def tl5 (c : Nat → Int32) : Nat → Nat → Int32 → Option Int32
  | 0, _, s => some s
  | k + 1, i, s => if f_X10_within (c i) 0 99 = true then tl5 c k (i + 1) (s + c i) else none
def isum (c : Nat → Int32) : Nat → Nat → Int
  | 0, _ => 0
  | k + 1, i => (c i).toInt + isum c k (i + 1)
theorem tl5_ok {c : Nat → Int32} : ∀ (k i : Nat) (s r : Int32), tl5 c k i s = some r → 0 ≤ s.toInt → s.toInt ≤ 99 * i → i + k ≤ 5 → (∀ j, i ≤ j → j < i + k → 0 ≤ (c j).toInt ∧ (c j).toInt ≤ 99) ∧ r.toInt = s.toInt + isum c k i := by
  intro k
  induction k with
  | zero =>
    intro i s r h _ _ _
    rw [tl5] at h
    cases h
    exact ⟨fun j a b => by omega, by show s.toInt = s.toInt + 0; omega⟩
  | succ k ih =>
    intro i s r h h0 h1 h2
    rw [tl5] at h
    by_cases cw : f_X10_within (c i) 0 99 = true
    · rw [if_pos cw] at h
      have cw := wi_t.mp cw
      rw [z_0, z_99] at cw
      have e : (s + c i).toInt = s.toInt + (c i).toInt := i32_add (by omega) (by omega)
      obtain ⟨a, b⟩ := ih (i + 1) _ r h (by omega) (by omega) (by omega)
      refine ⟨fun j k1 k2 => ?_, ?_⟩
      · by_cases ej : j = i
        · subst ej; exact cw
        · exact a j (by omega) (by omega)
      · rw [b, e]; show _ = s.toInt + ((c i).toInt + isum c k (i + 1)); omega
    · rw [if_neg cw] at h; cases h
theorem X_tells {x : CS} {y : MS} {s : Nat} {c : Nat → Int32} (st : ST x y s 5 c) : ∀ (k i g : Nat) (a : Int32), i + k = 5 → k < g → f_X10_tellsRings_14 x g (some (53 + 2 * s)) a (n32 i) = some (match tl5 c k i a with
    | none => false
    | some r => !decide (r ≤ 0)) := by
  intro k
  induction k with
  | zero =>
    intro i g a hi hg
    obtain ⟨g, rfl⟩ : ∃ w, g = w + 1 := ⟨g - 1, by omega⟩
    have e5 : (5 : Int32) ≤ n32 i := n_le (i := 5) (by omega) (by omega)
    rw [f_X10_tellsRings_14, oc_s, if_pos e5, tl5]
    show (if a ≤ 0 then some false else some true) = some (!decide (a ≤ 0))
    by_cases h : a ≤ 0
    · rw [if_pos h, decide_eq_true h]; rfl
    · rw [if_neg h, decide_eq_false h]; rfl
  | succ k ih =>
    intro i g a hi hg
    obtain ⟨g, rfl⟩ : ∃ w, g = w + 1 := ⟨g - 1, by omega⟩
    have e5 : ¬ (5 : Int32) ≤ n32 i := n_nle (i := 5) (by omega) (by omega)
    rw [f_X10_tellsRings_14, oc_s, if_neg e5, ST_at st (by omega), Option.bind_some, tl5]
    cases hw : f_X10_within (c i) 0 99
    · rw [if_pos b2i_f, if_neg Bool.false_ne_true]
    · rw [if_neg bt, if_pos rfl, Option.bind_some, n_inc]
      exact ih (i + 1) g _ (by omega) (by omega)
theorem M_tells {x : CS} {y : MS} {s : Nat} {c : Nat → Int32} (st : ST x y s 5 c) (a1 a2 a3 : Int32) : ∀ (k i g : Nat) (a : Int32), i + k = 5 → k < g → f_X11_tree_82 g y a1 a2 a3 (n32 s) 1 a (n32 i) = (match tl5 c k i a with
    | none => some (-2, y)
    | some r => f_X11_tree_147 y a1 a2 a3 (n32 s) 1 r) := by
  intro k
  induction k with
  | zero =>
    intro i g a hi hg
    obtain ⟨g, rfl⟩ : ∃ w, g = w + 1 := ⟨g - 1, by omega⟩
    have e5 : (5 : Int32) ≤ n32 i := n_le (i := 5) (by omega) (by omega)
    rw [f_X11_tree_82, if_pos e5, tl5]
  | succ k ih =>
    intro i g a hi hg
    obtain ⟨g, rfl⟩ : ∃ w, g = w + 1 := ⟨g - 1, by omega⟩
    have e5 : ¬ (5 : Int32) ≤ n32 i := n_nle (i := 5) (by omega) (by omega)
    obtain ⟨m1, m2⟩ := ST_M st (i := i) (by omega)
    rw [f_X11_tree_82, if_neg e5, if_neg (by decide), gd_t m1, m2, in_wi, tl5]
    unfold f_X11_tree_138
    cases hw : f_X10_within (c i) 0 99
    · rw [if_pos b2i_f, if_neg Bool.false_ne_true]
      obtain ⟨g, rfl⟩ : ∃ w, g = w + 1 := ⟨g - 1, by omega⟩
      have z : b2i false = 0 := rfl
      rw [f_X11_tree_82]
      unfold f_X11_tree_147
      rw [if_pos z, if_pos z]
      unfold f_X11_tree_157
      split <;> rfl
    · rw [if_neg bt, if_pos rfl, gd_t m1, n_inc]
      exact ih (i + 1) g _ (by omega) (by omega)
/-- the check's TREE laid, with i of its rings told -/
def NM (y w : MS) (n i : Nat) (a1 a2 a3 : Int32) (c : Nat → Int32) : Prop := w.2 = y.2 ∧ (∀ q, (q < 66 ∨ 69 < q) → w.1 q = y.1 q) ∧ (∀ j, gi w 66 j = if j = n then a1 else gi y 66 j) ∧ (∀ j, gi w 67 j = if j = n then a2 else gi y 67 j) ∧ (∀ j, gi w 68 j = if j = n then a3 else gi y 68 j) ∧ (∀ j, j < 5 * n → gi w 69 j = gi y 69 j) ∧ ∀ r, r < i → gi w 69 (5 * n + r) = c r
theorem NM_step {y w : MS} {n i : Nat} {a1 a2 a3 : Int32} {c : Nat → Int32} (h : NM y w n i a1 a2 a3 c) : NM y (pi w 69 (5 * n + i) (c i)) n (i + 1) a1 a2 a3 c := by
  obtain ⟨h1, h2, h3, h4, h5, h6, h7⟩ := h
  refine ⟨h1, fun q hq => ?_, fun j => ?_, fun j => ?_, fun j => ?_, fun j hj => ?_, fun r hr => ?_⟩
  · rw [pi1_q _ _ _ (by omega)]; exact h2 q hq
  · rw [gp_q _ _ _ _ (by omega)]; exact h3 j
  · rw [gp_q _ _ _ _ (by omega)]; exact h4 j
  · rw [gp_q _ _ _ _ (by omega)]; exact h5 j
  · rw [gp_j _ _ _ (by omega)]; exact h6 j hj
  · by_cases e : r = i
    · subst e; rw [gp_eq]
    · rw [gp_j _ _ _ (by omega)]; exact h7 r (by omega)
theorem PI_more {x : CS} {y : MS} {n : Nat} (h : PI x y n) : PI x y (n + 1) := by
  obtain ⟨h1, h2⟩ := h
  refine ⟨h1, h2.imp id (fun ⟨a, b, c, d, k, k1, k2⟩ => ⟨a, b, c, d, k, by omega, k2⟩)⟩
theorem PE_tree {x z : CS} {y w : MS} {n : Nat} {rf : Nat → Nat} {a1 a2 a3 : Int32} {c : Nat → Int32} (hE : PE x y n rf) (hn : n < 6) (hz : NT x z 5 a1 a2 a3 c) (hw : NM y w n 5 a1 a2 a3 c) (b1 : 1 ≤ a1.toInt ∧ a1.toInt ≤ 99) (b2 : -9 ≤ a2.toInt ∧ a2.toInt ≤ 9) (b3 : 0 ≤ a3.toInt ∧ a3.toInt ≤ 9) (bc : ∀ j, j < 5 → 0 ≤ (c j).toInt ∧ (c j).toInt ≤ 99) (bs : 1 ≤ isum c 5 0) : PE (pi (ptr z n (some (61 + gn x))) 34 1 (n32 (n + 1))) (pi (pi w 70 n (-1)) 61 10 (n32 (n + 1))) (n + 1) (fun t => if t = n then 61 + gn x else rf t) := by
  obtain ⟨e1, e2, e3, e4, e5⟩ := hE
  obtain ⟨h1, h2, h3, h4, h5, h6, h7, h8, h9, h10, h11, h12⟩ := hz
  obtain ⟨m1, m2, m3, m4, m5, m6, m7⟩ := hw
  have gtn : ∀ t, gtr (pi (ptr z n (some (61 + gn x))) 34 1 (n32 (n + 1))) t = if t = n then some (61 + gn x) else gtr x t := fun t => by
    rw [← h3]; rfl
  have lt : ∀ t, t < n → rf t < 61 + gn x := fun t ht => (kdy_c (e4 t ht).2.1).2.1
  have g7 : ∀ q j, q ≠ 61 → q ≠ 70 → gi (pi (pi w 70 n (-1)) 61 10 (n32 (n + 1))) q j = gi w q j := fun q j a b => by rw [gp_q _ _ _ _ a, gp_q _ _ _ _ b]
  have g70 : ∀ j, gi (pi (pi w 70 n (-1)) 61 10 (n32 (n + 1))) 70 j = if j = n then -1 else gi y 70 j := fun j => by
    rw [gp_q _ _ _ _ (by omega), gp_if]
    by_cases c : j = n
    · rw [if_pos ⟨rfl, c⟩, if_pos c]
    · rw [if_neg (fun q => c q.2), if_neg c, gi_of (m2 70 (by omega))]
  refine ⟨by omega, by rw [gp_eq], by rw [gp_eq], fun t ht => ⟨?_, ?_⟩, fun t u ht hu e => ?_⟩
  · rw [gtn]
    show _ = some (if t = n then 61 + gn x else rf t)
    by_cases c : t = n
    · rw [if_pos c, if_pos c]
    · rw [if_neg c, if_neg c]; exact (e4 t (by omega)).1
  · show TR _ (if t = n then 61 + gn x else rf t) _ t
    by_cases ct : t = n
    · subst ct
      rw [if_pos rfl]
      refine ⟨h6, h7, ?_, ?_, ?_, ?_, fun r hr => ?_, ?_⟩
      · rw [g7 _ _ (by omega) (by omega), m3, if_pos rfl]; exact ⟨h8, b1⟩
      · rw [g7 _ _ (by omega) (by omega), m4, if_pos rfl]; exact ⟨h9, b2⟩
      · rw [g7 _ _ (by omega) (by omega), m5, if_pos rfl]; exact ⟨h10, b3⟩
      · rw [g70, if_pos rfl]; exact ⟨h11, by rw [z_m1]; omega⟩
      · rw [g7 _ _ (by omega) (by omega), m7 r hr]; exact ⟨h12 r hr, bc r hr⟩
      · have s0 := m7 0 (by omega)
        rw [g7 _ _ (by omega) (by omega), g7 _ _ (by omega) (by omega), g7 _ _ (by omega) (by omega), g7 _ _ (by omega) (by omega), g7 _ _ (by omega) (by omega), show gi w 69 (5 * t) = c 0 from s0, m7 1 (by omega), m7 2 (by omega), m7 3 (by omega), m7 4 (by omega)]
        have : (c 0).toInt + ((c 1).toInt + ((c 2).toInt + ((c 3).toInt + ((c 4).toInt + 0)))) = isum c 5 0 := rfl
        omega
    · rw [if_neg ct]
      have htn : t < n := by omega
      have xe : XE x z := ⟨h3, by rw [h4]; omega, h5⟩
      have tr := TR_fr (y' := y) xe (fun _ _ _ => rfl) (e4 t htn).2
      obtain ⟨t1, t2, t3, t4, t5, t6, t7, t8⟩ := tr
      refine ⟨t1, t2, ?_, ?_, ?_, ?_, fun r hr => ?_, ?_⟩
      · rw [g7 _ _ (by omega) (by omega), m3, if_neg ct]; exact t3
      · rw [g7 _ _ (by omega) (by omega), m4, if_neg ct]; exact t4
      · rw [g7 _ _ (by omega) (by omega), m5, if_neg ct]; exact t5
      · rw [g70, if_neg ct]; exact t6
      · rw [g7 _ _ (by omega) (by omega), m6 _ (by omega)]; exact t7 r hr
      · rw [g7 _ _ (by omega) (by omega), g7 _ _ (by omega) (by omega), g7 _ _ (by omega) (by omega), g7 _ _ (by omega) (by omega), g7 _ _ (by omega) (by omega), m6 _ (by omega), m6 _ (by omega), m6 _ (by omega), m6 _ (by omega), m6 _ (by omega)]; exact t8
  · have e : (if t = n then 61 + gn x else rf t) = (if u = n then 61 + gn x else rf u) := e
    by_cases c1 : t = n
    · by_cases c2 : u = n
      · omega
      · rw [if_pos c1, if_neg c2] at e
        have := lt u (by omega); omega
    · by_cases c2 : u = n
      · rw [if_neg c1, if_pos c2] at e
        have := lt t (by omega); omega
      · rw [if_neg c1, if_neg c2] at e
        exact e5 t u (by omega) (by omega) e
theorem s_tree : ∀ (x : CS) (y : MS) (a0 a1 a2 a3 : Int32), PP x y → ∃ (r : Int32) (x1 : CS) (y1 : MS), f_X10_tree x a0 a1 a2 a3 = some (r, x1) ∧ f_X11_tree y a0 a1 a2 a3 = some (r, y1) ∧ PP x1 y1 := by
  intro x y a0 a1 a2 a3 hP
  unfold f_X10_tree f_X11_tree f_X10_tree_31 f_X11_tree_41
  rw [in_wi, in_wi, in_wi, in_wi]
  cases w0 : f_X10_within a0 1 99
  · exact sim0 hP (-2) rfl rfl
  rw [if_neg bt, if_neg bt]
  cases w1 : f_X10_within a1 (-9) 9
  · exact sim0 hP (-2) rfl rfl
  rw [if_neg bt, if_neg bt]
  cases w2 : f_X10_within a2 0 9
  · exact sim0 hP (-2) rfl rfl
  rw [if_neg bt, if_neg bt]
  rcases wi_cases a3 0 3 (by decide) with hs | ⟨hs, s, _, hs2, rfl⟩
  · rw [hs, X_sheetNo hs]; exact sim0 hP (-2) rfl rfl
  have hs4 : s < 4 := by rw [z_3] at hs2; omega
  obtain ⟨p1, p2, p3⟩ := hP.2.2.2.2.2.1 s hs4
  rw [hs, if_neg bt, X_sheetAt hs4, Option.bind_some, oc_s, X_missing hs4, Option.bind_some, gd_t (ib_n hs4 (by omega)), gd_t (ib_n hs4 (by omega)), n32_nat (by omega), p1.1]
  by_cases cm : gi y 77 s = -1
  · rw [decide_eq_true cm, if_neg bt, if_pos cm]
    exact sim0 hP (-11) rfl rfl
  rw [decide_eq_false cm, if_pos b2i_f, if_neg cm]
  obtain ⟨m, st⟩ := ST_of hP hs4
  generalize hc : (fun i => gi y 79 (40 * s + i)) = c at st
  have hm40 := st.2.1
  unfold f_X10_tellsRings f_X11_tree_74
  rw [oc_s, kSh_t hs4, gd_tt, st.2.2.1, st.2.2.2.1]
  by_cases c5 : n32 m = 5
  · have em : m = 5 := (n32_inj (by omega) (by omega)).mp c5
    subst em
    rw [if_pos c5, if_pos c5]
    have hX := X_tells st 5 0 1000 0 (by omega) (by omega)
    have hM := M_tells st a0 a1 a2 5 0 1000 0 (by omega) (by omega)
    rw [show f_X10_tellsRings_14 x 1000 (some (53 + 2 * s)) 0 0 = _ from hX, show f_X11_tree_82 1000 y a0 a1 a2 (n32 s) 1 0 0 = _ from hM, Option.bind_some]
    cases ht : tl5 c 5 0 0 with
    | none => exact sim0 hP (-2) rfl rfl
    | some r =>
      obtain ⟨bc, bs⟩ := tl5_ok 5 0 0 r ht (by rw [z_0]; omega) (by rw [z_0]; omega) (by omega)
      rw [z_0] at bs
      have b0 : ∀ j, j < 5 → 0 ≤ (c j).toInt ∧ (c j).toInt ≤ 99 := fun j hj => bc j (by omega) (by omega)
      have nn : 0 ≤ isum c 5 0 := by
        show 0 ≤ (c 0).toInt + ((c 1).toInt + ((c 2).toInt + ((c 3).toInt + ((c 4).toInt + 0))))
        have := b0 0 (by omega)
        have := b0 1 (by omega)
        have := b0 2 (by omega)
        have := b0 3 (by omega)
        have := b0 4 (by omega)
        omega
      dsimp only
      unfold f_X11_tree_147 f_X11_tree_157
      rw [if_neg (show ¬ (1 : Int32) = 0 by decide)]
      by_cases c0 : r = 0
      · have z : r ≤ 0 := by rw [c0]; decide
        rw [if_pos (show b2i (!decide (r ≤ 0)) = 0 by rw [decide_eq_true z]; rfl), if_pos c0]
        exact sim0 hP (-2) rfl rfl
      have rp : 1 ≤ isum c 5 0 := by
        rw [i32_eq, z_0] at c0; omega
      have z : ¬ r ≤ 0 := by rw [i32_le, z_0]; omega
      rw [if_neg (show ¬ b2i (!decide (r ≤ 0)) = 0 by rw [decide_eq_false z]; decide), if_neg c0]
      show ∃ (r : Int32) (x1 : CS) (y1 : MS), ((f_X1_add x a0 a1 a2 (some (53 + 2 * s))).bind fun r20 => some (r20.1, r20.2)) = some (r, x1) ∧ _ = some (r, y1) ∧ PP x1 y1
      obtain ⟨n, rf, hQ⟩ := PP_PQ hP
      obtain ⟨hG, hW, hT, hK, hF, hH, hE, hI⟩ := hQ
      have hn6 := hE.1
      have h27 := hG.1
      unfold f_X1_add f_X1_add_16
      have n0 : ¬ n32 n < (0 : Int32) := n_nlt (i := n) (j := 0) (by omega) (by omega)
      rw [oc_s, hE.2.1, hE.2.2.1, if_neg n0]
      by_cases cn : n = 6
      · subst cn
        have n6 : ¬ n32 6 < (6 : Int32) := n_nlt (i := 6) (j := 6) (by omega) (by omega)
        rw [if_neg n6, if_pos (show n32 6 = (6 : Int32) from rfl)]
        exact sim0 ⟨hG, hW, hT, hK, hF, hH, _, rf, hE, hI⟩ (-4) rfl rfl
      have hn : n < 6 := by omega
      have cn' : ¬ n32 n = 6 := fun q => cn ((n32_inj (by omega) (by omega)).mp q)
      have n6 : n32 n < (6 : Int32) := n_lt (j := 6) hn (by omega)
      rw [if_pos n6, if_neg cn', gd_t (decide_eq_true h27), mk7_of h27, Option.bind_some]
      obtain ⟨N0, kT⟩ := mk7_NT h27 a0 a1 a2 c
      have kt : ∀ (w : CS) (j : Nat) (v : Int32), kTr w (61 + gn x) = true → kTr (pti w (61 + gn x) j v) (61 + gn x) = true := fun w j v h => (kdy_pti _ _ _ _ _ _).trans h
      rw [gd_t kT, gd_t (kt _ _ _ kT), gd_t (kt _ _ _ (kt _ _ _ kT))]
      have keyX : ∀ (k i g : Nat) (w : CS), i + k = 5 → k < g → NT x w i a0 a1 a2 c → ∃ w', f_X1_add_49 g w (some (53 + 2 * s)) (61 + gn x) (n32 i) = some (n32 n, pi (ptr w' n (some (61 + gn x))) 34 1 (n32 (n + 1))) ∧ NT x w' 5 a0 a1 a2 c := by
        intro k
        induction k with
        | zero =>
          intro i g w hi hg hN
          obtain ⟨g, rfl⟩ : ∃ w, g = w + 1 := ⟨g - 1, by omega⟩
          have e5 : (5 : Int32) ≤ n32 i := n_le (i := 5) (by omega) (by omega)
          have e34 : gi w 34 1 = n32 n := by rw [gi_of (congrFun hN.1 34)]; exact hE.2.1
          have e34' : gi (ptr w n (some (61 + gn x))) 34 1 = n32 n := e34
          have ei : i = 5 := by omega
          subst ei
          refine ⟨w, ?_, hN⟩
          rw [f_X1_add_49, oc_s, if_pos e5, gd_t hN.2.2.2.2.2.1, e34, gd_t (ib_n hn (by omega)), n32_nat (by omega), e34', gp_eq, n_inc]
          rw [q_1, n32_sub (by omega)]
          rfl
        | succ k ih =>
          intro i g w hi hg hN
          obtain ⟨g, rfl⟩ : ∃ w, g = w + 1 := ⟨g - 1, by omega⟩
          have e5 : ¬ (5 : Int32) ≤ n32 i := n_nle (i := 5) (by omega) (by omega)
          have stw : ST w y s 5 c := by
            obtain ⟨a, b, c1, d, e, f⟩ := st
            exact ⟨a, b, by rw [gi_of (congrFun hN.1 _)]; exact c1, d, fun j hj => by rw [gi_of (congrFun hN.1 _)]; exact e j hj, f⟩
          rw [f_X1_add_49, oc_s, if_neg e5, gd_t hN.2.2.2.2.2.1, ST_at stw (by omega), Option.bind_some, gd_t hN.2.2.2.2.2.2.1, gd_t (ib_n (by omega) (by omega)), n32_nat (by omega), n_inc]
          exact ih (i + 1) g _ (by omega) (by omega) (NT_step hN)
      have keyM : ∀ (k i g : Nat) (w : MS), i + k = 5 → k < g → NM y w n i a0 a1 a2 c → ∃ w', f_X11_tree_205 g w (n32 s) (n32 i) = some (n32 n, pi (pi w' 70 n (-1)) 61 10 (n32 (n + 1))) ∧ NM y w' n 5 a0 a1 a2 c := by
        intro k
        induction k with
        | zero =>
          intro i g w hi hg hN
          obtain ⟨g, rfl⟩ : ∃ w, g = w + 1 := ⟨g - 1, by omega⟩
          have e5 : (5 : Int32) ≤ n32 i := n_le (i := 5) (by omega) (by omega)
          have e10 : gi w 61 10 = n32 n := by rw [gi_of (hN.2.1 61 (by omega))]; exact hE.2.2.1
          have e10' : gi (pi w 70 n (-1)) 61 10 = n32 n := by rw [gp_q _ _ _ _ (by omega)]; exact e10
          have ei : i = 5 := by omega
          subst ei
          refine ⟨w, ?_, hN⟩
          rw [f_X11_tree_205, if_pos e5, e10, gd_t (ib_n hn (by omega)), n32_nat (by omega), e10', gp_eq, n_inc]
          rw [q_1, n32_sub (by omega)]
          rfl
        | succ k ih =>
          intro i g w hi hg hN
          obtain ⟨g, rfl⟩ : ∃ w, g = w + 1 := ⟨g - 1, by omega⟩
          have e5 : ¬ (5 : Int32) ≤ n32 i := n_nle (i := 5) (by omega) (by omega)
          have e10 : gi w 61 10 = n32 n := by rw [gi_of (hN.2.1 61 (by omega))]; exact hE.2.2.1
          have ec : gi w 79 (40 * s + i) = c i := by rw [gi_of (hN.2.1 79 (by omega))]; exact st.2.2.2.2.2 i (by omega)
          rw [f_X11_tree_205, if_neg e5, M_in40, gd_t (ib_n (by omega) (by omega)), e10, M_in5, gd_t (ib_n (by omega) (by omega)), n32_nat (by omega), n32_nat (by omega), ec, n_inc]
          exact ih (i + 1) g _ (by omega) (by omega) (NM_step hN)
      obtain ⟨z, kx, hz⟩ := keyX 5 0 1000 _ (by omega) (by omega) N0
      have e61 : ∀ (q j : Nat) (v : Int32) (w : MS), q ≠ 61 → gi (pi w q j v) 61 10 = gi w 61 10 := fun q j v w h => gp_q _ _ _ _ (by omega)
      have M0 : NM y (pi (pi (pi y 66 n a0) 67 n a1) 68 n a2) n 0 a0 a1 a2 c := by
        refine ⟨rfl, fun q hq => ?_, fun j => ?_, fun j => ?_, fun j => ?_, fun j hj => ?_, fun r hr => by omega⟩
        · rw [pi1_q _ _ _ (by omega), pi1_q _ _ _ (by omega), pi1_q _ _ _ (by omega)]
        · rw [gp_q _ _ _ _ (by omega), gp_q _ _ _ _ (by omega), gp_if]
          by_cases e : j = n
          · rw [if_pos ⟨rfl, e⟩, if_pos e]
          · rw [if_neg (fun q => e q.2), if_neg e]
        · rw [gp_q _ _ _ _ (by omega), gp_if]
          by_cases e : j = n
          · rw [if_pos ⟨rfl, e⟩, if_pos e]
          · rw [if_neg (fun q => e q.2), if_neg e, gp_q _ _ _ _ (by omega)]
        · rw [gp_if]
          by_cases e : j = n
          · rw [if_pos ⟨rfl, e⟩, if_pos e]
          · rw [if_neg (fun q => e q.2), if_neg e, gp_q _ _ _ _ (by omega), gp_q _ _ _ _ (by omega)]
        · rw [gp_q _ _ _ _ (by omega), gp_q _ _ _ _ (by omega), gp_q _ _ _ _ (by omega)]
      obtain ⟨w, km, hw⟩ := keyM 5 0 1000 _ (by omega) (by omega) M0
      rw [e61 66 _ _ _ (by omega), hE.2.2.1, n32_nat (by omega), e61 67 _ _ _ (by omega), e61 66 _ _ _ (by omega), hE.2.2.1, n32_nat (by omega), gd_t (ib_n hn (by omega)), gd_t (ib_n hn (by omega)), gd_t (ib_n hn (by omega))]
      refine ⟨n32 n, pi (ptr z n (some (61 + gn x))) 34 1 (n32 (n + 1)), pi (pi w 70 n (-1)) 61 10 (n32 (n + 1)), wp_eq (wp_be kx (wp_s rfl)), km, ?_⟩
      · have w0 := wi_t.mp w0
        have w1 := wi_t.mp w1
        have w2 := wi_t.mp w2
        rw [z_1, z_99] at w0
        rw [z_m9, z_9] at w1
        rw [z_0, z_9] at w2
        have hE1 := PE_tree hE hn hz hw w0 w1 w2 b0 rp
        have zx : ∀ q, q ≠ 34 → (pi (ptr z n (some (61 + gn x))) 34 1 (n32 (n + 1))).1 q = x.1 q := fun q hq => (pi1_q _ _ _ hq).trans (congrFun hz.1 q)
        have zg : ∀ q j, q ≠ 34 → gi (pi (ptr z n (some (61 + gn x))) 34 1 (n32 (n + 1))) q j = gi x q j := fun q j hq => gi_of (zx q hq) j
        have wy : ∀ q, q ≠ 61 → (q < 66 ∨ 70 < q) → (pi (pi w 70 n (-1)) 61 10 (n32 (n + 1))).1 q = y.1 q := fun q h1 h2 => by rw [pi1_q _ _ _ h1, pi1_q _ _ _ (by omega)]; exact hw.2.1 q (by omega)
        have w61 : ∀ j, j ≠ 10 → gi (pi (pi w 70 n (-1)) 61 10 (n32 (n + 1))) 61 j = gi y 61 j := fun j h => by rw [gp_j _ _ _ h, gp_q _ _ _ _ (by omega)]; exact gi_of (hw.2.1 61 (by omega)) j
        have hg : gn x ≤ gn (pi (ptr z n (some (61 + gn x))) 34 1 (n32 (n + 1))) := by
          show gn x ≤ gn z
          rw [hz.2.2.2.1]; omega
        exact ⟨PG_fr hG hg (w61 _ (by omega)) (w61 _ (by omega)), PW_fr hW (fun q a b => zx q (by omega)) (zg _ _ (by omega)) (wy _ (by omega) (by omega)) (fun j a b => w61 _ (by omega)) (w61 _ (by omega)), PT_fr hT (fun q a b => zx q (by omega)) (zg _ _ (by omega)) (wy _ (by omega) (by omega)) (wy _ (by omega) (by omega)) (w61 _ (by omega)) (w61 _ (by omega)), PK_fr hK (fun q a b => zx q (by omega)) (fun q a b => wy q (by omega) (by omega)) (w61 _ (by omega)), PF_fr hF (zx _ (by omega)) (zg _ _ (by omega)) (wy _ (by omega) (by omega)) (w61 _ (by omega)), PH_fr hH (fun q a b => zx q (by omega)) (fun q a b => wy q (by omega) (by omega)), n + 1, _, hE1, PI_more (PI_fr hI (fun q a b => zx q (by omega)) (zg _ _ (by omega)) (zg _ _ (by omega)) (zg _ _ (by omega)) (fun q a b => wy q (by omega) (by omega)) (w61 _ (by omega)) (w61 _ (by omega)) (w61 _ (by omega)) (w61 _ (by omega)))⟩
  · rw [if_neg c5, if_neg c5]
    have e0 : f_X11_tree_82 1000 y a0 a1 a2 (n32 s) 0 0 0 = some (-2, y) := by
      rw [f_X11_tree_82]
      unfold f_X11_tree_147
      rw [if_pos rfl, if_pos rfl]
      unfold f_X11_tree_157
      split <;> rfl
    rw [e0]
    exact sim0 hP (-2) rfl rfl
