/-! ===== pure: bore, image, back ===== -/
theorem ti_pti (x : CS) (q j : Nat) (v : Int32) (q' j' : Nat) : ti (pti x q j v) q' j' = if q' = q ∧ j' = j then v else ti x q' j' := by
  unfold ti pti
  by_cases h : q' = q
  · subst h
    rw [gdy_pdy]
    show upd (gdy x q').2.1 j v j' = _
    by_cases h2 : j' = j
    · subst h2; rw [upd_e, if_pos ⟨rfl, rfl⟩]
    · rw [upd_n _ _ h2, if_neg (fun z => h2 z.2)]
  · rw [gdy_pdn _ _ h, if_neg (fun z => h z.1)]
theorem kdy_pti (x : CS) (q j : Nat) (v : Int32) (q' k : Nat) : kdy (pti x q j v) q' k = kdy x q' k := by
  unfold kdy
  have e : (gdy (pti x q j v) q').1 = (gdy x q').1 := by
    unfold pti
    by_cases h : q' = q
    · subst h; rw [gdy_pdy]
    · rw [gdy_pdn _ _ h]
  rw [e]
  rfl
/-- a TREE's bored, set on both sides -/
theorem PE_bore {x : CS} {y : MS} {n : Nat} {rf : Nat → Nat} (h : PE x y n rf) {t : Nat} (ht : t < n) {v : Int32} (hv : -1 ≤ v.toInt ∧ v.toInt ≤ 4) : PE (pti x (rf t) 4 v) (pi y 70 t v) n rf := by
  obtain ⟨e1, e2, e3, e4, e5⟩ := h
  refine ⟨e1, e2, by rw [gp_q _ _ _ _ (by omega)]; exact e3, fun u hu => ⟨(e4 u hu).1, ?_⟩, e5⟩
  obtain ⟨h1, h2, h3, h4, h5, h6, h7, h8⟩ := (e4 u hu).2
  obtain ⟨k1, _⟩ := (e4 t ht).2
  have hne : rf u + 1 ≠ rf t := fun q => by
    have a := (kdy_c h2).2.2
    have b := (kdy_c k1).2.2
    rw [q, b] at a; cases a
  refine ⟨(kdy_pti _ _ _ _ _ _).trans h1, (kdy_pti _ _ _ _ _ _).trans h2, ?_, ?_, ?_, ?_, fun r hr => ?_, ?_⟩
  · rw [ti_pti, if_neg (by omega), gp_q _ _ _ _ (by omega)]; exact h3
  · rw [ti_pti, if_neg (by omega), gp_q _ _ _ _ (by omega)]; exact h4
  · rw [ti_pti, if_neg (by omega), gp_q _ _ _ _ (by omega)]; exact h5
  · rw [ti_pti, gp_if]
    by_cases c : u = t
    · subst c; rw [if_pos ⟨rfl, rfl⟩, if_pos ⟨rfl, rfl⟩]; exact ⟨rfl, hv⟩
    · rw [if_neg (fun q => c (e5 u t hu ht q.1)), if_neg (fun q => c q.2)]; exact h6
  · rw [ti_pti, if_neg (fun q => hne q.1), gp_q _ _ _ _ (by omega)]; exact h7 r hr
  · rw [gp_q _ _ _ _ (by omega), gp_q _ _ _ _ (by omega), gp_q _ _ _ _ (by omega), gp_q _ _ _ _ (by omega), gp_q _ _ _ _ (by omega)]; exact h8
/-- PP with the TREES told -/
def PQ (x : CS) (y : MS) (n : Nat) (rf : Nat → Nat) : Prop := PG x y ∧ PW x y ∧ PT x y ∧ PK x y ∧ PF x y ∧ PH x y ∧ PE x y n rf ∧ PI x y n
theorem PQ_PP {x : CS} {y : MS} {n : Nat} {rf : Nat → Nat} (h : PQ x y n rf) : PP x y := by
  obtain ⟨a, b, c, d, e, f, g, i⟩ := h
  exact ⟨a, b, c, d, e, f, n, rf, g, i⟩
theorem PP_PQ {x : CS} {y : MS} (h : PP x y) : ∃ n rf, PQ x y n rf := by
  obtain ⟨a, b, c, d, e, f, n, rf, g, i⟩ := h
  exact ⟨n, rf, a, b, c, d, e, f, g, i⟩
theorem PQ_bore {x : CS} {y : MS} {n : Nat} {rf : Nat → Nat} (h : PQ x y n rf) {t : Nat} (ht : t < n) {v : Int32} (hv : -1 ≤ v.toInt ∧ v.toInt ≤ 4) : PQ (pti x (rf t) 4 v) (pi y 70 t v) n rf := by
  obtain ⟨hG, hW, hT, hK, hF, hH, hE, hI⟩ := h
  exact ⟨PG_fr hG (Nat.le_refl _) (by simp (disch := omega) only [gp_q, gp_j, gp_eq]) (by simp (disch := omega) only [gp_q, gp_j, gp_eq]), PW_fr hW (fun _ _ _ => rfl) rfl (pi1_q _ _ _ (by omega)) (fun j a b => gp_q _ _ _ _ (by omega)) (by simp (disch := omega) only [gp_q, gp_j, gp_eq]), PT_fr hT (fun _ _ _ => rfl) rfl (pi1_q _ _ _ (by omega)) (pi1_q _ _ _ (by omega)) (by simp (disch := omega) only [gp_q, gp_j, gp_eq]) (by simp (disch := omega) only [gp_q, gp_j, gp_eq]), PK_fr hK (fun _ _ _ => rfl) (fun q a b => pi1_q _ _ _ (by omega)) (by simp (disch := omega) only [gp_q, gp_j, gp_eq]), PF_fr hF rfl rfl (pi1_q _ _ _ (by omega)) (by simp (disch := omega) only [gp_q, gp_j, gp_eq]), PH_fr hH (fun _ _ _ => rfl) (fun q a b => pi1_q _ _ _ (by omega)), PE_bore hE ht hv, PI_fr hI (fun _ _ _ => rfl) rfl rfl rfl (fun q a b => pi1_q _ _ _ (by omega)) (by simp (disch := omega) only [gp_q, gp_j, gp_eq]) (by simp (disch := omega) only [gp_q, gp_j, gp_eq]) (by simp (disch := omega) only [gp_q, gp_j, gp_eq]) (by simp (disch := omega) only [gp_q, gp_j, gp_eq])⟩
theorem s_bore : ∀ (x : CS) (y : MS) (a0 a1 : Int32), PP x y → ∃ (r : Int32) (x1 : CS) (y1 : MS), f_X10_bore x a0 a1 = some (r, x1) ∧ f_X11_bore y a0 a1 = some (r, y1) ∧ PP x1 y1 := by
  intro x y a0 a1 hP
  obtain ⟨n, rf, hQ⟩ := PP_PQ hP
  have hE := hQ.2.2.2.2.2.2.1
  unfold f_X10_bore f_X11_bore
  rcases X_treeAt hE a0 with ⟨t, ht, rfl, e1, e2, tr⟩ | ⟨e1, e2, _⟩
  · have hn6 := hE.1
    rw [e1, e2, Option.bind_some, oc_s, if_neg bt, in_wi]
    cases hw : f_X10_within a1 (-1) 4
    · exact sim0 hP (-7) rfl rfl
    have hw := wi_t.mp hw
    rw [z_m1, z_4] at hw
    rw [if_neg bt, if_neg bt, gd_t tr.1, gd_t tr.1, gd_t (ib_n (by omega) (by omega)), gd_t (ib_n (by omega) (by omega)), n32_nat (by omega), tr.2.2.2.2.2.1.1]
    exact ⟨_, _, _, rfl, rfl, PQ_PP (PQ_bore hQ ht hw)⟩
  · rw [e1, e2]; exact sim0 hP (-5) rfl rfl
/-! a wood becomes another -/
def twin (t a : Nat) : Prop := (t = 38 ∧ a = 1) ∨ (t = 1 ∧ a = 38)
theorem twin_k {t a : Nat} (h : twin t a) : kWd t = true ∧ kWd a = true ∧ (∀ w, w < 6 → al (t + 2 + w) = 9 ∧ al (a + 2 + w) = 9) ∧ al (t + 8) = 5 ∧ al (a + 8) = 5 := by
  rcases h with ⟨rfl, rfl⟩ | ⟨rfl, rfl⟩
  · refine ⟨rfl, rfl, fun w hw => ?_, rfl, rfl⟩
    rcases (by omega : w = 0 ∨ w = 1 ∨ w = 2 ∨ w = 3 ∨ w = 4 ∨ w = 5) with rfl | rfl | rfl | rfl | rfl | rfl <;> exact ⟨rfl, rfl⟩
  · refine ⟨rfl, rfl, fun w hw => ?_, rfl, rfl⟩
    rcases (by omega : w = 0 ∨ w = 1 ∨ w = 2 ∨ w = 3 ∨ w = 4 ∨ w = 5) with rfl | rfl | rfl | rfl | rfl | rfl <;> exact ⟨rfl, rfl⟩
theorem X_bec45 {t a : Nat} (h : twin t a) : ∀ (k i g : Nat) (x : CS), i + k = 5 → k < g → ∃ x1, f_X8_become_45 t g x a (n32 i) = some x1 ∧ (∀ q, q ≠ t → q ≠ t + 8 → x1.1 q = x.1 q) ∧ x1.2 = x.2 ∧ (∀ j, gi x1 (t + 8) j = if i ≤ j ∧ j < 5 then gi x (a + 8) j else gi x (t + 8) j) ∧ gi x1 t 2 = gi x a 2 := by
  obtain ⟨h1, h2, h3, h4, h5⟩ := twin_k h
  have hd : a ≠ t + 8 ∧ a + 8 ≠ t + 8 ∧ a ≠ t ∧ a + 8 ≠ t ∧ t + 8 ≠ t := by rcases h with ⟨rfl, rfl⟩ | ⟨rfl, rfl⟩ <;> decide
  intro k
  induction k with
  | zero =>
    intro i g x hi hg
    obtain ⟨g, rfl⟩ : ∃ w, g = w + 1 := ⟨g - 1, by omega⟩
    have e4 : (4 : Int32) < n32 i := n_lt (i := 4) (by omega) (by omega)
    rw [f_X8_become_45, if_pos e4, gd_t h2, gd_t h1]
    exact ⟨_, rfl, fun q a1 a2 => pi1_q _ _ _ a1, rfl, fun j => by rw [if_neg (by omega), gp_q _ _ _ _ hd.2.2.2.2], gp_eq _ _ _ _⟩
  | succ k ih =>
    intro i g x hi hg
    obtain ⟨g, rfl⟩ : ∃ w, g = w + 1 := ⟨g - 1, by omega⟩
    have e4 : ¬ (4 : Int32) < n32 i := n_nlt (i := 4) (by omega) (by omega)
    rw [f_X8_become_45, if_neg e4, gd_t h1, gd_t h2, h5, h4, gd_t (ib_n (by omega) (by omega)), gd_t (ib_n (by omega) (by omega)), n32_nat (by omega), n_inc]
    obtain ⟨x1, k1, k2, k3, k4, k5⟩ := ih (i + 1) g (pi x (t + 8) i (gi x (a + 8) i)) (by omega) (by omega)
    refine ⟨x1, k1, fun q a1 a2 => ?_, k3, fun j => ?_, ?_⟩
    · rw [k2 q a1 a2, pi1_q _ _ _ a2]
    · rw [k4, gp_q _ _ _ _ hd.2.1, gp_if]
      by_cases c : i + 1 ≤ j ∧ j < 5
      · rw [if_pos c, if_pos (by omega)]
      · rw [if_neg c]
        by_cases cj : j = i
        · rw [if_pos ⟨rfl, cj⟩, if_pos (by omega), cj]
        · rw [if_neg (fun q => cj q.2), if_neg (by omega)]
    · rw [k5, gp_q _ _ _ _ hd.1]
theorem X_bec9 {t a w : Nat} (h : twin t a) (hw : w < 6) (k2 : CS → Nat → Int32 → Option CS) : ∀ (k i g : Nat) (x : CS), i + k = 9 → k < g → ∃ x1, f_X8_become_9 k2 t g x a (n32 w) (n32 i) = k2 x1 a (n32 (w + 1)) ∧ (∀ q, q ≠ t + 2 + w → x1.1 q = x.1 q) ∧ x1.2 = x.2 ∧ (∀ j, gi x1 (t + 2 + w) j = if i ≤ j ∧ j < 9 then gi x (a + 2 + w) j else gi x (t + 2 + w) j) := by
  obtain ⟨h1, h2, h3, h4, h5⟩ := twin_k h
  have hd : a + 2 + w ≠ t + 2 + w := by rcases h with ⟨rfl, rfl⟩ | ⟨rfl, rfl⟩ <;> omega
  intro k
  induction k with
  | zero =>
    intro i g x hi hg
    obtain ⟨g, rfl⟩ : ∃ w, g = w + 1 := ⟨g - 1, by omega⟩
    have e9 : (9 : Int32) ≤ n32 i := n_le (i := 9) (by omega) (by omega)
    rw [f_X8_become_9, if_pos e9, n_inc]
    exact ⟨x, rfl, fun _ _ => rfl, rfl, fun j => by rw [if_neg (by omega)]⟩
  | succ k ih =>
    intro i g x hi hg
    obtain ⟨g, rfl⟩ : ∃ w, g = w + 1 := ⟨g - 1, by omega⟩
    have e9 : ¬ (9 : Int32) ≤ n32 i := n_nle (i := 9) (by omega) (by omega)
    have ew : (n32 w).toNatClampNeg = w := n32_nat (by omega)
    have ei : (n32 i).toNatClampNeg = i := n32_nat (by omega)
    rw [f_X8_become_9, if_neg e9, gd_t h1, gd_t h1, gd_t (ib_n hw (by omega)), gd_t h2, gd_t h2, gd_t (ib_n hw (by omega)), ew, (h3 w hw).1, (h3 w hw).2, gd_t (ib_n (by omega) (by omega)), gd_t (ib_n (by omega) (by omega)), ei, n_inc]
    obtain ⟨x1, k1, k2', k3, k4⟩ := ih (i + 1) g (pi x (t + 2 + w) i (gi x (a + 2 + w) i)) (by omega) (by omega)
    refine ⟨x1, k1, fun q a1 => ?_, k3, fun j => ?_⟩
    · rw [k2' q a1, pi1_q _ _ _ a1]
    · rw [k4, gp_q _ _ _ _ hd, gp_if]
      by_cases c : i + 1 ≤ j ∧ j < 9
      · rw [if_pos c, if_pos (by omega)]
      · rw [if_neg c]
        by_cases cj : j = i
        · rw [if_pos ⟨rfl, cj⟩, if_pos (by omega), cj]
        · rw [if_neg (fun q => cj q.2), if_neg (by omega)]
theorem X_become {t a : Nat} (h : twin t a) (x : CS) : ∃ x1, f_X8_become x t a = some x1 ∧ (∀ q, q ≠ t → (q < t + 2 ∨ t + 8 < q) → x1.1 q = x.1 q) ∧ x1.2 = x.2 ∧ (∀ w s, w < 6 → s < 9 → gi x1 (t + 2 + w) s = gi x (a + 2 + w) s) ∧ (∀ j, j < 5 → gi x1 (t + 8) j = gi x (a + 8) j) ∧ gi x1 t 2 = gi x a 2 := by
  obtain ⟨h1, h2, h3, h4, h5⟩ := twin_k h
  have hd : ∀ q, 2 ≤ q → q ≤ 8 → a + q ≠ t ∧ (a + q < t + 2 ∨ t + 8 < a + q) := by
    intro q h1 h2
    rcases h with ⟨rfl, rfl⟩ | ⟨rfl, rfl⟩ <;> omega
  have hd0 : a ≠ t ∧ (a < t + 2 ∨ t + 8 < a) := by rcases h with ⟨rfl, rfl⟩ | ⟨rfl, rfl⟩ <;> omega
  have key : ∀ (k w g : Nat) (z : CS), w + k = 6 → k < g → (∀ q, q ≠ t → (q < t + 2 ∨ t + 7 < q) → z.1 q = x.1 q) → z.2 = x.2 → (∀ w', w' < w → ∀ s, s < 9 → gi z (t + 2 + w') s = gi x (a + 2 + w') s) → ∃ x1, f_X8_become_2 t g z a (n32 w) = some x1 ∧ (∀ q, q ≠ t → (q < t + 2 ∨ t + 8 < q) → x1.1 q = x.1 q) ∧ x1.2 = x.2 ∧ (∀ w s, w < 6 → s < 9 → gi x1 (t + 2 + w) s = gi x (a + 2 + w) s) ∧ (∀ j, j < 5 → gi x1 (t + 8) j = gi x (a + 8) j) ∧ gi x1 t 2 = gi x a 2 := by
    intro k
    induction k with
    | zero =>
      intro w g z hw hg z1 z2 z3
      obtain ⟨g, rfl⟩ : ∃ w, g = w + 1 := ⟨g - 1, by omega⟩
      have e5 : (5 : Int32) < n32 w := n_lt (i := 5) (by omega) (by omega)
      rw [f_X8_become_2, if_pos e5]
      obtain ⟨x1, k1, k2, k3, k4, k5⟩ := X_bec45 h 5 0 1000 z (by omega) (by omega)
      have d8 := hd 8 (by omega) (by omega)
      refine ⟨x1, k1, fun q q1 q2 => ?_, k3.trans z2, fun w' s hw' hs => ?_, fun j hj => ?_, ?_⟩
      · rw [k2 q q1 (by omega)]; exact z1 q q1 (by omega)
      · rw [gi_of (k2 _ (by omega) (by omega))]; exact z3 w' (by omega) s hs
      · rw [k4, if_pos (by omega), gi_of (z1 _ d8.1 (by omega))]
      · rw [k5, gi_of (z1 _ hd0.1 (by omega))]
    | succ k ih =>
      intro w g z hw hg z1 z2 z3
      obtain ⟨g, rfl⟩ : ∃ w, g = w + 1 := ⟨g - 1, by omega⟩
      have e5 : ¬ (5 : Int32) < n32 w := n_nlt (i := 5) (by omega) (by omega)
      rw [f_X8_become_2, if_neg e5]
      obtain ⟨z', k1, k2, k3, k4⟩ := X_bec9 h (w := w) (by omega) (f_X8_become_2 t g) 9 0 1000 z (by omega) (by omega)
      have e : f_X8_become_9 (f_X8_become_2 t g) t 1000 z a (n32 w) 0 = f_X8_become_2 t g z' a (n32 (w + 1)) := k1
      rw [e]
      refine ih (w + 1) g z' (by omega) (by omega) (fun q q1 q2 => ?_) (k3.trans z2) (fun w' hw' s hs => ?_)
      · rw [k2 q (by omega)]; exact z1 q q1 q2
      · by_cases c : w' = w
        · subst c
          have dw := hd (2 + w') (by omega) (by omega)
          rw [k4, if_pos (by omega), gi_of (z1 _ (by omega) (by omega))]
        · rw [gi_of (k2 _ (by omega))]; exact z3 w' (by omega) s hs
  unfold f_X8_become
  rw [gd_t h1, gd_t h2]
  exact key 6 0 1000 x (by omega) (by omega) (fun _ _ _ => rfl) rfl (fun w' hw' => absurd hw' (Nat.not_lt_zero w'))
