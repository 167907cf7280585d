/-! ===== pure: the hull, by the check ===== -/
def FrM (y0 y : MS) : Prop := (∀ q, q ≠ 61 → (q < 82 ∨ 86 < q) → y.1 q = y0.1 q) ∧ (∀ j, j ≠ 45 → j ≠ 46 → gi y 61 j = gi y0 61 j) ∧ y.2.2 = y0.2.2
def SM (y0 : MS) (m : Nat → Int32) (sp : Nat → Nat) (cv : CV) : Prop := LM y0 m sp ∧ (∀ w s, w < 6 → s < 9 → gi y0 62 (9 * w + s) = cv w s) ∧ (∀ s, s < 9 → 0 ≤ (cv 3 s).toInt ∧ (cv 3 s).toInt ≤ 99)
def HM (y0 : MS) (h : HS) (y : MS) : Prop := FrM y0 y ∧ (∀ s, s < 9 → gi y 84 s = hW h s) ∧ (∀ s, s < 9 → gi y 85 s = hT h s) ∧ (∀ s, s < 9 → gi y 86 s = hH h s) ∧ gi y 61 45 = hB h ∧ gi y 61 46 = hS h ∧ (¬ gi y0 61 48 = 0 → gmlot y = hL h)
theorem FrM_rfl (y : MS) : FrM y y := ⟨fun _ _ _ => rfl, fun _ _ _ => rfl, rfl⟩
theorem FrM_pi {y0 y : MS} {q j : Nat} {v : Int32} (h : FrM y0 y) (hq : 82 ≤ q ∧ q ≤ 86) : FrM y0 (pi y q j v) := ⟨fun a h1 h2 => by rw [pi1_q _ _ _ (by omega)]; exact h.1 a h1 h2, fun a h1 h2 => by rw [gp_q _ _ _ _ (by omega)]; exact h.2.1 a h1 h2, h.2.2⟩
theorem FrM_61 {y0 y : MS} {j : Nat} {v : Int32} (h : FrM y0 y) (hj : j = 45 ∨ j = 46) : FrM y0 (pi y 61 j v) := ⟨fun a h1 h2 => by rw [pi1_q _ _ _ h1]; exact h.1 a h1 h2, fun a h1 h2 => by rw [gp_j _ _ _ (by omega)]; exact h.2.1 a h1 h2, h.2.2⟩
theorem FrM_lot {y0 y : MS} {v : Int64} (h : FrM y0 y) : FrM y0 (pmlot y v) := h
theorem FrM_FM {y0 y y' : MS} (h : FrM y0 y) (h2 : FM y y') : FrM y0 y' := ⟨fun q a b => by rw [h2.1 q (by omega) (by omega)]; exact h.1 q a b, fun j a b => by rw [gi_of (h2.1 61 (by omega) (by omega)) j]; exact h.2.1 j a b, by rw [h2.2]; exact h.2.2⟩
theorem LM_FrM {y0 y : MS} {m : Nat → Int32} {sp : Nat → Nat} (h : LM y0 m sp) (hf : FrM y0 y) : LM y m sp := by
  obtain ⟨hT, r, h1, h2, h3, h4⟩ := h
  refine ⟨hT, r, h1, ?_, fun p hp => ?_, fun j hj => ?_⟩
  · rw [hf.2.1 21 (by omega) (by omega)]; exact h2
  · rw [gi_of (hf.1 73 (by omega) (by omega))]; exact h3 p hp
  · rw [gi_of (hf.1 72 (by omega) (by omega))]; exact h4 j hj
theorem HM_FM {y0 y y' : MS} {h : HS} (hy : HM y0 h y) (hf : FM y y') : HM y0 h y' := by
  obtain ⟨h1, h2, h3, h4, h5, h6, h7⟩ := hy
  have g : ∀ q j, q ≠ 82 → q ≠ 83 → gi y' q j = gi y q j := fun q j a b => gi_of (hf.1 q a b) j
  refine ⟨FrM_FM h1 hf, fun s hs => ?_, fun s hs => ?_, fun s hs => ?_, ?_, ?_, ?_⟩
  · rw [g 84 s (by omega) (by omega)]; exact h2 s hs
  · rw [g 85 s (by omega) (by omega)]; exact h3 s hs
  · rw [g 86 s (by omega) (by omega)]; exact h4 s hs
  · rw [g 61 _ (by omega) (by omega)]; exact h5
  · rw [g 61 _ (by omega) (by omega)]; exact h6
  · intro c; show y'.2.1 = _; rw [hf.2]; exact h7 c
theorem HM_W {y0 y : MS} {h : HS} {s : Nat} {v : Int32} (hy : HM y0 h y) : HM y0 (upd (hW h) s v, hT h, hH h, hB h, hS h, hL h) (pi y 84 s v) := by
  obtain ⟨h1, h2, h3, h4, h5, h6, h7⟩ := hy
  refine ⟨FrM_pi h1 (by omega), up9 h2, fun j hj => ?_, fun j hj => ?_, ?_, ?_, h7⟩
  all_goals rw [gp_q _ _ _ _ (by omega)]
  all_goals first | assumption | exact h3 j hj | exact h4 j hj
theorem HM_T {y0 y : MS} {h : HS} {s : Nat} {v : Int32} (hy : HM y0 h y) : HM y0 (hW h, upd (hT h) s v, hH h, hB h, hS h, hL h) (pi y 85 s v) := by
  obtain ⟨h1, h2, h3, h4, h5, h6, h7⟩ := hy
  refine ⟨FrM_pi h1 (by omega), fun j hj => ?_, up9 h3, fun j hj => ?_, ?_, ?_, h7⟩
  all_goals rw [gp_q _ _ _ _ (by omega)]
  all_goals first | assumption | exact h2 j hj | exact h4 j hj
theorem HM_H {y0 y : MS} {h : HS} {s : Nat} {v : Int32} (hy : HM y0 h y) : HM y0 (hW h, hT h, upd (hH h) s v, hB h, hS h, hL h) (pi y 86 s v) := by
  obtain ⟨h1, h2, h3, h4, h5, h6, h7⟩ := hy
  refine ⟨FrM_pi h1 (by omega), fun j hj => ?_, fun j hj => ?_, up9 h4, ?_, ?_, h7⟩
  all_goals rw [gp_q _ _ _ _ (by omega)]
  all_goals first | assumption | exact h2 j hj | exact h3 j hj
theorem HM_B {y0 y : MS} {h : HS} {v : Int32} (hy : HM y0 h y) : HM y0 (hW h, hT h, hH h, v, hS h, hL h) (pi y 61 45 v) := by
  obtain ⟨h1, h2, h3, h4, h5, h6, h7⟩ := hy
  refine ⟨FrM_61 h1 (by omega), fun j hj => ?_, fun j hj => ?_, fun j hj => ?_, gp_eq _ _ _ _, ?_, h7⟩
  all_goals first | rw [gp_q _ _ _ _ (by omega)] | rw [gp_j _ _ _ (by omega)]
  all_goals first | assumption | exact h2 j hj | exact h3 j hj | exact h4 j hj
theorem HM_S {y0 y : MS} {h : HS} {v : Int32} (hy : HM y0 h y) : HM y0 (hW h, hT h, hH h, hB h, v, hL h) (pi y 61 46 v) := by
  obtain ⟨h1, h2, h3, h4, h5, h6, h7⟩ := hy
  refine ⟨FrM_61 h1 (by omega), fun j hj => ?_, fun j hj => ?_, fun j hj => ?_, ?_, gp_eq _ _ _ _, h7⟩
  all_goals first | rw [gp_q _ _ _ _ (by omega)] | rw [gp_j _ _ _ (by omega)]
  all_goals first | assumption | exact h2 j hj | exact h3 j hj | exact h4 j hj
theorem HM_L {y0 y : MS} {h : HS} {v : Int64} (hy : HM y0 h y) : HM y0 (hW h, hT h, hH h, hB h, hS h, v) (pmlot y v) := by
  obtain ⟨h1, h2, h3, h4, h5, h6, h7⟩ := hy
  exact ⟨h1, h2, h3, h4, h5, h6, fun _ => rfl⟩
abbrev qM (y0 : MS) (m : Nat → Int32) (sp : Nat → Nat) : QF := Qf m sp (gi y0 61 1) (gi y0 61 2) (gi y0 61 3)
theorem M_knot {y0 y : MS} {m : Nat → Int32} {sp : Nat → Nat} {cv : CV} {s : Nat} (sm : SM y0 m sp cv) (hf : FrM y0 y) (hs : s < 9) : f_X11_knotOf y (n32 s) = some (cv 4 s) := by
  unfold f_X11_knotOf
  rw [q_36, n32_add, gd_t (ib_n (by omega) (by omega)), n32_nat (by omega), gi_of (hf.1 62 (by omega) (by omega))]
  exact congrArg some (sm.2.1 4 s (by omega) hs)
theorem M_fires44 {y0 y : MS} {h : HS} {s : Nat} (hy : HM y0 h y) (hs : s < 9) (d : Int32) : wp (f_X11_fires_44 y (n32 s) d (gi y 85 s) (n32 s)) (HM y0 (sHit s d (hL h) h)) := by
  unfold f_X11_fires_44 sHit
  have et : gi y 85 s = hT h s := hy.2.2.1 s hs
  rw [n32_nat (by omega), et, gp_eq]
  refine wp_g (ib_n hs (by omega)) (wp_g (ib_n hs (by omega)) ?_)
  by_cases h0 : 0 < hT h s - d
  · refine wp_t h0 (wp_s ?_)
    rw [if_pos h0]
    exact HM_T hy
  · refine wp_e h0 (wp_g (ib_n hs (by omega)) (wp_s ?_))
    rw [if_neg h0]
    have h1 := HM_T (s := s) (v := 0) (HM_T (s := s) (v := hT h s - d) hy)
    have h2 := HM_B (v := hB h ||| bit s) h1
    have e3 : gi (pi (pi y 85 s (hT h s - d)) 85 s 0) 61 45 = hB h := h1.2.2.2.2.1
    rw [e3]
    have e4 : upd (upd (hT h) s (hT h s - d)) s 0 = upd (hT h) s 0 := by
      funext j; unfold upd; split <;> rfl
    have h3 : HM y0 (hW h, upd (upd (hT h) s (hT h s - d)) s 0, hH h, hB h ||| bit s, hS h, hL h) _ := h2
    rw [e4] at h3
    exact h3
theorem M_fires {y0 y : MS} {m : Nat → Int32} {sp : Nat → Nat} {cv : CV} {h : HS} {s : Nat} {dr : Bool} (sm : SM y0 m sp cv) (hdr : gi y0 61 48 = b2i dr) (hy : HM y0 h y) (hs : s < 9) : wp (f_X11_fires y (n32 s)) (HM y0 (sFire (qM y0 m sp) cv dr s h)) := by
  unfold f_X11_fires
  refine wp_g (ib_n hs (by omega)) (wp_g (ib_n hs (by omega)) ?_)
  refine wp_be (M_knot sm hy.1 hs) ?_
  rw [n32_nat (by omega), hy.2.2.1 s hs, hy.2.1 s hs]
  refine wp_bw (M_says (LM_FrM sm.1 hy.1) (p := 0) (by omega) _ _ _) (fun v hv => ?_)
  obtain ⟨v, y1⟩ := v
  obtain ⟨ev, hf⟩ := hv
  have ev : v = _ := ev
  rw [hy.1.2.1 1 (by omega) (by omega), hy.1.2.1 2 (by omega) (by omega), hy.1.2.1 3 (by omega) (by omega)] at ev
  have hy1 := HM_FM hy hf
  have hv0 : 0 ≤ v.toInt := by rw [ev]; exact (Qf_b _ _ _ _ _ _ _ _ _).1
  unfold sFire
  have ev2 : qM y0 m sp 0 (hT h s) (hW h s) (cv 4 s) = v := ev.symm
  rw [ev2]
  dsimp only
  unfold f_X11_drawsLess
  rw [hy1.1.2.1 48 (by omega) (by omega), hdr]
  cases dr
  · refine wp_be (if_pos rfl) (wp_g (ib_n hs (by omega)) ?_)
    have e1 : sDeep false v (hL h) = v := rfl
    have e2 : sLot false (hL h) = hL h := rfl
    rw [e1, e2]
    dsimp only
    rw [Int32.add_zero]
    refine wp_t (i32_le.mpr (by rw [z_0]; exact hv0)) ?_
    exact M_fires44 hy1 hs v
  · refine wp_be (if_neg (by decide)) (wp_g (ib_n hs (by omega)) ?_)
    have el : gmlot y1 = hL h := hy1.2.2.2.2.2.2 (by rw [hdr]; decide)
    have eg : ∀ z : Int64, gmlot (pmlot y1 z) = z := fun _ => rfl
    have hy2 : HM y0 (hW h, hT h, hH h, hB h, hS h, lotN (hL h)) (pmlot y1 (lotN (hL h))) := HM_L hy1
    have ez : hL h * 48271 - hL h * 48271 / 2147483647 * 2147483647 = lotN (hL h) := rfl
    have et2 : sLot true (hL h) = lotN (hL h) := rfl
    have fin : ∀ d, wp (f_X11_fires_44 (pmlot y1 (lotN (hL h))) (n32 s) d (gi (pmlot y1 (lotN (hL h))) 85 s) (n32 s)) (HM y0 (sHit s d (lotN (hL h)) h)) := by
      intro d
      have z := M_fires44 hy2 hs d
      rw [hL_mk, sHit_L] at z
      exact z
    dsimp only
    rw [el, eg, ez, et2, sDeep, if_pos rfl]
    by_cases c : 0 ≤ v + ((lotN (hL h) - lotN (hL h) / 3 * 3).toInt32 - 1)
    · refine wp_t c ?_
      rw [if_pos c]; exact fin _
    · refine wp_e c ?_
      rw [if_neg c]; exact fin _
theorem M_inch62 {y0 y : MS} {m : Nat → Int32} {sp : Nat → Nat} {cv : CV} {h : HS} {s : Nat} {g : Int} {Q : MS → Prop} {k12 : MS → Int32 → Option MS} {s0 : Int32} (sm : SM y0 m sp cv) (hg : (gi y0 61 47).toInt = g) (hg5 : -5 ≤ g ∧ g ≤ 5) (hy : HM y0 (upd (hW h) s (pw h s), hT h, hH h, hB h, hS h, hL h) y) (hs : s < 9) (hs0 : hH h s + s0 = hup h s)
    (hk : ∀ y', HM y0 (sInS (qM y0 m sp) cv g s h) y' → wp (k12 y' (n32 (s + 1))) Q) : wp (f_X11_inch_62 k12 y (n32 s) (n32 (shn s)) s0 (gi y 86 s) (n32 s)) Q := by
  unfold f_X11_inch_62
  refine wp_g (ib_n hs (by omega)) (wp_g (ib_n hs (by omega)) (wp_g (ib_n hs (by omega)) ?_))
  have e86 : gi y 86 s = hH h s := hy.2.2.2.1 s hs
  rw [e86, hs0, n32_nat (by omega)]
  have hx := HM_H (s := s) (v := hup h s) hy
  have ew : hW (upd (hW h) s (pw h s), hT h, upd (hH h) s (hup h s), hB h, hS h, hL h) s = pw h s := upd_e _ _ _
  have et : hT (upd (hW h) s (pw h s), hT h, upd (hH h) s (hup h s), hB h, hS h, hL h) s = hT h s := rfl
  have hx : HM y0 (upd (hW h) s (pw h s), hT h, upd (hH h) s (hup h s), hB h, hS h, hL h) (pi y 86 s (hup h s)) := hx
  generalize hY : pi y 86 s (hup h s) = Y at hx ⊢
  refine wp_be (M_knot sm hx.1 hs) ?_
  rw [hx.2.2.1 s hs, hx.2.1 s hs, ew, et]
  refine wp_bw (M_says (LM_FrM sm.1 hx.1) (p := 1) (by omega) _ _ _) (fun v hv => ?_)
  obtain ⟨v, x1⟩ := v
  obtain ⟨ev, hf⟩ := hv
  rw [hx.1.2.1 1 (by omega) (by omega), hx.1.2.1 2 (by omega) (by omega), hx.1.2.1 3 (by omega) (by omega)] at ev
  have ev : v = pl (qM y0 m sp) cv h s := ev
  have hx1 := HM_FM hx hf
  refine wp_g (ib_n hs (by omega)) (wp_g (ib_n hs (by omega)) ?_)
  refine wp_be (M_knot sm hx1.1 hs) ?_
  dsimp only
  rw [hx1.2.2.1 s hs, hx1.2.1 s hs, ew, et]
  refine wp_bw (M_says (LM_FrM sm.1 hx1.1) (p := 2) (by omega) _ _ _) (fun u hu => ?_)
  obtain ⟨u, x2⟩ := u
  obtain ⟨eu, hf2⟩ := hu
  rw [hx1.1.2.1 1 (by omega) (by omega), hx1.1.2.1 2 (by omega) (by omega), hx1.1.2.1 3 (by omega) (by omega)] at eu
  have eu : u = sta (qM y0 m sp) cv h s := eu
  have hx2 := HM_FM hx1 hf2
  dsimp only
  rw [q_27, n32_add]
  refine wp_g (ib_n (by omega) (by omega)) ?_
  rw [n32_nat (by omega), gi_of (hx2.1.1 62 (by omega) (by omega)), hx2.1.2.1 47 (by omega) (by omega)]
  have e3 : gi y0 62 (27 + s) = cv 3 s := sm.2.1 3 s (by omega) hs
  rw [e3]
  have hp : 0 ≤ v.toInt ∧ v.toInt ≤ 999 := by rw [ev]; exact Qf_b _ _ _ _ _ _ _ _ _
  have hu : 0 ≤ u.toInt ∧ u.toInt ≤ 999 := by rw [eu]; exact Qf_b _ _ _ _ _ _ _ _ _
  have hc3 := sm.2.2 s hs
  have hm := mul_shn hp.1 hp.2 s
  have a1 : (u + cv 3 s).toInt = u.toInt + (cv 3 s).toInt := i32_add (by omega) (by omega)
  have a2 : (u + cv 3 s + gi y0 61 47).toInt = u.toInt + (cv 3 s).toInt + g := by rw [i32_add, a1, hg] <;> rw [a1, hg] <;> omega
  have a3 : ((u + cv 3 s + gi y0 61 47) * 4).toInt = (u.toInt + (cv 3 s).toInt + g) * 4 := by rw [i32_mul, a2, z_4] <;> rw [a2, z_4] <;> omega
  have hcr : crk (qM y0 m sp) cv g h s = true ↔ ¬ (v * n32 (shn s) ≤ (u + cv 3 s + gi y0 61 47) * 4) := by
    rw [i32_le, hm.1, a3, ev, eu]
    unfold crk
    rw [decide_eq_true_iff]
    constructor <;> intro _ <;> omega
  unfold f_X11_inch_148
  rw [n_inc, hx2.2.2.2.2.1]
  refine wp_i (fun c => ?_) (fun c => ?_)
  · refine hk _ ?_
    unfold sInS
    rw [if_neg (fun q => (hcr.mp q) c)]
    have e0 : hB h ||| 0 = hB h := by simp
    show HM y0 _ (pi x2 61 45 (hB h ||| 0))
    rw [e0]
    exact HM_B (v := hB h) hx2
  · refine hk _ ?_
    unfold sInS
    rw [if_pos (hcr.mpr c)]
    exact HM_B hx2
theorem M_inch {y0 : MS} {m : Nat → Int32} {sp : Nat → Nat} {cv : CV} {g : Int} (sm : SM y0 m sp cv) (hg : (gi y0 61 47).toInt = g) (hg5 : -5 ≤ g ∧ g ≤ 5) : ∀ (k s n : Nat) (y : MS) (h : HS), s + k = 9 → k < n → HM y0 h y → wp (f_X11_inch_12 n y (n32 s)) (HM y0 (sInA (qM y0 m sp) cv g k s h)) := by
  intro k
  induction k with
  | zero =>
    intro s n y h hi hn hy
    obtain ⟨n, rfl⟩ : ∃ w, n = w + 1 := ⟨n - 1, by omega⟩
    rw [f_X11_inch_12]
    exact wp_t (n_le (i := 9) (by omega) (by omega)) (wp_s hy)
  | succ k ih =>
    intro s n y h hi hn hy
    obtain ⟨n, rfl⟩ : ∃ w, n = w + 1 := ⟨n - 1, by omega⟩
    have hs : s < 9 := by omega
    rw [f_X11_inch_12]
    refine wp_e (n_nle (i := 9) (by omega) (by omega)) ?_
    rw [M_share hs]
    refine wp_g (ib_n hs (by omega)) (wp_g (ib_n hs (by omega)) (wp_g (ib_n hs (by omega)) ?_))
    have ew : gi y 84 s + n32 (shn s) = pw h s := by rw [hy.2.1 s hs]; rfl
    have h1 := HM_W (s := s) (v := pw h s) hy
    rw [n32_nat (by omega), ew]
    have eS : gi (pi y 84 s (pw h s)) 61 46 = hS h := h1.2.2.2.2.2.1
    rw [eS]
    have hz0 : (n32 (shn s) = 0) ↔ shn s = 0 := by
      have := shn_le s
      rw [q_0]
      exact n32_inj (by omega) (by omega)
    unfold f_X11_inch_61
    have fin : ∀ s0, hH h s + s0 = hup h s → wp (f_X11_inch_62 (f_X11_inch_12 n) (pi y 84 s (pw h s)) (n32 s) (n32 (shn s)) s0 (gi (pi y 84 s (pw h s)) 86 s) (n32 s)) (HM y0 (sInA (qM y0 m sp) cv g (k + 1) s h)) := fun s0 hs0 =>
      M_inch62 sm hg hg5 h1 hs hs0 (fun y' hy' => ih (s + 1) n y' _ (by omega) (by omega) hy')
    refine wp_i (fun c1 => wp_i (fun c2 => ?_) (fun c2 => ?_)) (fun c1 => ?_)
    · exact fin 1 (by unfold hup; rw [if_pos ⟨hz0.mp c1, c2⟩])
    · exact fin 0 (by unfold hup; rw [if_neg (fun q => c2 q.2), Int32.add_zero])
    · exact fin 0 (by unfold hup; rw [if_neg (fun q => c1 (hz0.mpr q.1)), Int32.add_zero])
theorem M_inch1 {y0 y : MS} {m : Nat → Int32} {sp : Nat → Nat} {cv : CV} {h : HS} {g : Int} (sm : SM y0 m sp cv) (hg : (gi y0 61 47).toInt = g) (hg5 : -5 ≤ g ∧ g ≤ 5) (hy : HM y0 h y) : wp (f_X11_inch y) (HM y0 (sInch (qM y0 m sp) cv g h)) := by
  unfold f_X11_inch
  rw [hy.2.2.2.2.2.1]
  exact M_inch sm hg hg5 9 0 1000 _ (sIn1 h) (by omega) (by omega) (HM_S hy)
def WM (y0 : MS) (N : Nat) (kd sec mo : Nat → Nat) : Prop := N ≤ 10 ∧ gi y0 61 6 = n32 N ∧ ∀ w, w < N → gi y0 63 w = n32 (kd w) ∧ gi y0 64 w = n32 (sec w) ∧ gi y0 65 w = n32 (mo w) ∧ kd w ≤ 5 ∧ sec w ≤ 9 ∧ mo w ≤ 9
theorem WM_g {y0 y : MS} {N : Nat} {kd sec mo : Nat → Nat} (wm : WM y0 N kd sec mo) (hf : FrM y0 y) {w : Nat} (hw : w < N) : gi y 63 w = n32 (kd w) ∧ gi y 64 w = n32 (sec w) ∧ gi y 65 w = n32 (mo w) ∧ kd w ≤ 5 ∧ sec w ≤ 9 ∧ mo w ≤ 9 := by
  obtain ⟨a, b, c, d⟩ := wm.2.2 w hw
  refine ⟨?_, ?_, ?_, d⟩
  · rw [gi_of (hf.1 63 (by omega) (by omega))]; exact a
  · rw [gi_of (hf.1 64 (by omega) (by omega))]; exact b
  · rw [gi_of (hf.1 65 (by omega) (by omega))]; exact c
theorem M_isAt {y0 y : MS} {N : Nat} {kd sec mo : Nat → Nat} (wm : WM y0 N kd sec mo) (hf : FrM y0 y) {w s : Nat} (hw : w < N) (hs : s < 9) : f_X11_isAt y (n32 w) (n32 s) = some (decide (sec w = 9 ∨ sec w = s)) := by
  obtain ⟨_, b, _, _, h9, _⟩ := WM_g wm hf hw
  have hN := wm.1
  unfold f_X11_isAt f_X11_isAt_21
  rw [n32_nat (by omega), b, gd_t (ib_n (by omega) (by omega))]
  by_cases c : sec w = 9
  · rw [if_pos (by rw [c]; rfl), decide_eq_true (Or.inl c)]
  · rw [q_9, if_neg (n_ne (j := 9) c (by omega) (by omega)), gd_t (ib_n (by omega) (by omega))]
    by_cases c2 : sec w = s
    · rw [if_pos (by rw [c2]), decide_eq_true (Or.inr c2)]
    · rw [if_neg (n_ne c2 (by omega) (by omega)), decide_eq_false (fun q => by rcases q with q | q <;> contradiction)]
theorem M_chars35 {y0 : MS} {m : Nat → Int32} {sp : Nat → Nat} {cv : CV} {N w s : Nat} {kd sec mo : Nat → Nat} {dr : Bool} {low : Int32} {Q : MS → Prop} {k2 : MS → Int32 → Int32 → Option MS} (sm : SM y0 m sp cv) (hdr : gi y0 61 48 = b2i dr) (wm : WM y0 N kd sec mo) (hw : w < N) (hs : s < 9) : ∀ (k i n : Nat) (y : MS) (h : HS), i + k = mo w → k < n → HM y0 h y →
    (∀ y', HM y0 (if sec w = 9 ∨ sec w = s then sBurn (qM y0 m sp) cv dr s low k h else h) y' → wp (k2 y' (n32 w) (n32 (s + 1))) Q) → wp (f_X11_chars_35 k2 n y (n32 w) (n32 s) low (n32 i)) Q := by
  have hN := wm.1
  intro k
  induction k with
  | zero =>
    intro i n y h hi hn hy hk
    obtain ⟨n, rfl⟩ : ∃ w, n = w + 1 := ⟨n - 1, by omega⟩
    obtain ⟨_, _, c, _, _, h9⟩ := WM_g wm hy.1 hw
    rw [f_X11_chars_35, n32_nat (by omega), c]
    refine wp_g (ib_n (by omega) (by omega)) (wp_t (n_le (by omega) (by omega)) ?_)
    unfold f_X11_chars_76
    rw [n_inc]
    exact hk y (by
      have e : (if sec w = 9 ∨ sec w = s then sBurn (qM y0 m sp) cv dr s low 0 h else h) = h := by split <;> rfl
      rw [e]; exact hy)
  | succ k ih =>
    intro i n y h hi hn hy hk
    obtain ⟨n, rfl⟩ : ∃ w, n = w + 1 := ⟨n - 1, by omega⟩
    obtain ⟨_, _, c, _, _, h9⟩ := WM_g wm hy.1 hw
    rw [f_X11_chars_35, n32_nat (by omega), c]
    refine wp_g (ib_n (by omega) (by omega)) (wp_e (n_nle (by omega) (by omega)) ?_)
    refine wp_be (M_isAt wm hy.1 hw hs) ?_
    unfold f_X11_chars_76
    rw [n_inc, n_inc]
    by_cases ha : sec w = 9 ∨ sec w = s
    · rw [decide_eq_true ha]
      rw [if_pos ha] at hk
      refine wp_e bt (wp_g (ib_n hs (by omega)) ?_)
      rw [n32_nat (by omega), hy.2.2.1 s hs]
      rw [sBurn] at hk
      by_cases hl : hT h s ≤ low
      · refine wp_t hl (hk y ?_)
        rw [if_pos hl]; exact hy
      · refine wp_e hl ?_
        rw [if_neg hl] at hk
        refine wp_bw (M_fires sm hdr hy hs) (fun y1 hy1 => ?_)
        exact ih (i + 1) n y1 _ (by omega) (by omega) hy1 (fun y' hy' => hk y' (by rw [if_pos ha] at hy'; exact hy'))
    · rw [decide_eq_false ha]
      rw [if_neg ha] at hk
      exact wp_t rfl (hk y hy)
theorem M_chars {y0 : MS} {m : Nat → Int32} {sp : Nat → Nat} {cv : CV} {N w : Nat} {kd sec mo : Nat → Nat} {dr : Bool} (sm : SM y0 m sp cv) (hdr : gi y0 61 48 = b2i dr) (wm : WM y0 N kd sec mo) (hw : w < N) : ∀ (k s n : Nat) (y : MS) (h : HS), s + k = 9 → k < n → HM y0 h y → wp (f_X11_chars_2 n y (n32 w) (n32 s)) (HM y0 (sAll (fun s h => sBurn (qM y0 m sp) cv dr s (if kd w = 2 then cv 5 s else 0) (mo w) h) (sec w) k s h)) := by
  have hN := wm.1
  intro k
  induction k with
  | zero =>
    intro s n y h hi hn hy
    obtain ⟨n, rfl⟩ : ∃ w, n = w + 1 := ⟨n - 1, by omega⟩
    rw [f_X11_chars_2]
    exact wp_t (n_le (i := 9) (by omega) (by omega)) (wp_s hy)
  | succ k ih =>
    intro s n y h hi hn hy
    obtain ⟨n, rfl⟩ : ∃ w, n = w + 1 := ⟨n - 1, by omega⟩
    obtain ⟨a, _, c, h5, _, h9⟩ := WM_g wm hy.1 hw
    have hs : s < 9 := by omega
    rw [f_X11_chars_2]
    refine wp_e (n_nle (i := 9) (by omega) (by omega)) (wp_g (ib_n (by omega) (by omega)) ?_)
    rw [n32_nat (by omega), a]
    unfold f_X11_chars_31
    have fin : ∀ low, low = (if kd w = 2 then cv 5 s else 0) → wp (f_X11_chars_35 (f_X11_chars_2 n) 1000 y (n32 w) (n32 s) low (n32 0)) (HM y0 (sAll (fun s h => sBurn (qM y0 m sp) cv dr s (if kd w = 2 then cv 5 s else 0) (mo w) h) (sec w) (k + 1) s h)) := by
      intro low hl
      refine M_chars35 sm hdr wm hw hs (mo w) 0 1000 y h (by omega) (by omega) hy (fun y' hy' => ?_)
      rw [hl] at hy'
      rw [sAll]
      exact ih (s + 1) n y' _ (by omega) (by omega) hy'
    by_cases hk2 : kd w = 2
    · refine wp_t (by rw [hk2]; rfl) ?_
      rw [q_45, n32_add]
      refine wp_g (ib_n (by omega) (by omega)) ?_
      rw [n32_nat (by omega), gi_of (hy.1.1 62 (by omega) (by omega))]
      exact fin _ (by rw [if_pos hk2]; exact sm.2.1 5 s (by omega) hs)
    · exact wp_e (n_ne (j := 2) hk2 (by omega) (by omega)) (fin 0 (by rw [if_neg hk2]))
theorem M_bitB (b : Int32) {s : Nat} (hs : s < 9) : ((b >>> (n32 s &&& 31)) &&& 1 = 1 ↔ ¬ (b &&& bit s) = 0) ∧ ((b >>> (n32 s &&& 31)) &&& 1 = 0 ↔ (b &&& bit s) = 0) := by
  have key : ∀ (c : BitVec 32) (t : Nat), t < 9 → (((c.sshiftRight t) &&& 1#32 = 1#32 ↔ ¬ (c &&& (1#32 <<< t)) = 0#32) ∧ ((c.sshiftRight t) &&& 1#32 = 0#32 ↔ (c &&& (1#32 <<< t)) = 0#32)) := by
    intro c t ht
    have h1 : (c &&& (1#32 <<< t)) = 0#32 ↔ c.getLsbD t = false := by
      constructor
      · intro h
        have := congrArg (fun z => BitVec.getLsbD z t) h
        simpa [show t < 32 from by omega] using this
      · intro h
        apply BitVec.eq_of_getLsbD_eq
        intro i hi
        by_cases e : i = t
        · subst e; simp [h]
        · simp [BitVec.getLsbD_one]; omega
    have h2 : (c.sshiftRight t) &&& 1#32 = if c.getLsbD t then 1#32 else 0#32 := by
      apply BitVec.eq_of_getLsbD_eq
      intro i hi
      by_cases e : i = 0
      · subst e
        have hz : (c.sshiftRight t).getLsbD 0 = c.getLsbD t := by
          rw [BitVec.getLsbD_sshiftRight, Nat.add_zero, if_pos (by omega)]
          simp
        rw [BitVec.getLsbD_and, hz]
        cases c.getLsbD t <;> decide
      · cases hc : c.getLsbD t <;> simp [BitVec.getLsbD_one, e]
    rw [h2, h1]
    cases c.getLsbD t <;> decide
  have e : ∀ t, t < 9 → (b >>> (n32 t &&& 31)).toBitVec = b.toBitVec.sshiftRight t ∧ (bit t).toBitVec = 1#32 <<< t := by
    intro t ht
    rcases (by omega : t = 0 ∨ t = 1 ∨ t = 2 ∨ t = 3 ∨ t = 4 ∨ t = 5 ∨ t = 6 ∨ t = 7 ∨ t = 8) with rfl | rfl | rfl | rfl | rfl | rfl | rfl | rfl | rfl <;> exact ⟨rfl, by decide⟩
  obtain ⟨e1, e2⟩ := e s hs
  have k := key b.toBitVec s hs
  rw [← Int32.toBitVec_inj, ← Int32.toBitVec_inj, ← Int32.toBitVec_inj, Int32.toBitVec_and, Int32.toBitVec_and, e1, e2]
  exact k
