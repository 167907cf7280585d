/-! ===== pure: force, work, forget, workTold, days, fewest, feed ===== -/
theorem n32_m1 {N : Nat} (h : N < 1000000) : (n32 N - 1).toInt = (N : Int) - 1 := by
  rw [i32_sub, n32_int h, z_1] <;> rw [n32_int h, z_1] <;> omega
theorem s_force : ∀ (x : CS) (y : MS) (a0 : Int32), PP x y → ∃ (r : Int32) (x1 : CS) (y1 : MS), f_X10_force x a0 = (r, x1) ∧ f_X11_force y a0 = (r, y1) ∧ PP x1 y1 := by
  intro x y a0 hP
  have hP0 := hP
  obtain ⟨hG, ⟨w1, w2, w3⟩, ⟨T, r, t1, t2, t3, t4, t5, t6⟩, hK, hF, hH, n, rf, hE, hI⟩ := hP
  unfold f_X10_force f_X11_force
  rw [in_wi, t3, t4]
  cases hw : f_X10_within a0 0 (n32 T - 1)
  · exact ⟨-2, x, y, rfl, rfl, hP0⟩
  have hw := wi_t.mp hw
  rw [z_0, n32_m1 (by omega)] at hw
  obtain ⟨i, hi, rfl⟩ := n32_ex hw.1 hw.2
  refine ⟨gi y 61 21, pi x 1 2 (n32 i), pi y 61 21 (n32 i), ?_, rfl, ?_⟩
  · rw [if_neg bt, w3]
  · refine ⟨PG_fr hG (Nat.le_refl _) (by simp (disch := omega) only [gp_q, gp_j, gp_eq]) (by simp (disch := omega) only [gp_q, gp_j, gp_eq]), ⟨fun w s hw hs => ?_, fun k hk => ?_, ?_⟩, ⟨T, i, by omega, t2, ?_, ?_, gp_eq _ _ _ _, fun t ht => ?_⟩, PK_fr hK (fun q a b => pi1_q _ _ _ (by omega)) (fun q a b => pi1_q _ _ _ (by omega)) (by simp (disch := omega) only [gp_q, gp_j, gp_eq]), PF_fr hF (pi1_q _ _ _ (by omega)) (by simp (disch := omega) only [gp_q, gp_j, gp_eq]) (pi1_q _ _ _ (by omega)) (by simp (disch := omega) only [gp_q, gp_j, gp_eq]), PH_fr hH (fun q a b => pi1_q _ _ _ (by omega)) (fun q a b => pi1_q _ _ _ (by omega)), n, rf, PE_fr hE (XE_of rfl) (by simp (disch := omega) only [gp_q, gp_j, gp_eq]) (fun q a b => pi1_q _ _ _ (by omega)) (by simp (disch := omega) only [gp_q, gp_j, gp_eq]), PI_fr hI (fun q a b => pi1_q _ _ _ (by omega)) (by simp (disch := omega) only [gp_q, gp_j, gp_eq]) (by simp (disch := omega) only [gp_q, gp_j, gp_eq]) (by simp (disch := omega) only [gp_q, gp_j, gp_eq]) (fun q a b => pi1_q _ _ _ (by omega)) (by simp (disch := omega) only [gp_q, gp_j, gp_eq]) (by simp (disch := omega) only [gp_q, gp_j, gp_eq]) (by simp (disch := omega) only [gp_q, gp_j, gp_eq]) (by simp (disch := omega) only [gp_q, gp_j, gp_eq])⟩
    · have := w1 w s hw hs
      simp only at this ⊢
      rw [gp_q _ _ _ _ (by omega), gp_q _ _ _ _ (by omega)]; exact this
    · have := w2 k hk
      simp only at this ⊢
      rw [gp_q _ _ _ _ (by omega), gp_j _ _ _ (by omega)]; exact this
    · rw [gp_eq, gp_eq]
    · rw [gp_q _ _ _ _ (by omega)]; exact t3
    · rw [gp_j _ _ _ (by omega)]; exact t4
    · have a1 : gi (pi x 1 2 (n32 i)) (12 + t) = gi x (12 + t) := pi1_q _ _ _ (by omega)
      have a2 : gi (pi x 1 2 (n32 i)) (19 + t) = gi x (19 + t) := pi1_q _ _ _ (by omega)
      have a3 : gi (pi y 61 21 (n32 i)) 72 = gi y 72 := pi1_q _ _ _ (by omega)
      have a4 : gi (pi y 61 21 (n32 i)) 73 = gi y 73 := pi1_q _ _ _ (by omega)
      rw [a1, a2, a3, a4]; exact t6 t ht
theorem X_add {x : CS} {N : Nat} {a b c : Int32} (h : gi x 30 3 = n32 N) (hN : N < 10) (ha : f_X10_within a 0 5 = true) (hb : f_X10_within b 0 9 = true) (hc : f_X10_within c 0 9 = true) : f_X9_add x a b c = some (n32 N, pi (pi (pi (pi x 31 N a) 32 N b) 33 N c) 30 3 (n32 (N + 1))) := by
  unfold f_X9_add f_X9_add_29 f_X9_add_48
  rw [ha, hb, hc, if_neg bt, if_neg bt, if_neg bt]
  have hn : (n32 N).toNatClampNeg = N := n32_nat (by omega)
  simp (disch := omega) only [gp_q, gp_j, gp_eq, h, hn]
  rw [q_0, q_10, if_neg (n_nlt (by omega) (by omega)), if_pos (n_lt (by omega) (by omega)), gd_t (ib_n hN (by omega)), gd_t (ib_n hN (by omega)), gd_t (ib_n hN (by omega)), n_inc, q_1, n32_sub (by omega)]
  rfl
theorem M_work {y : MS} {N : Nat} {a b c : Int32} (h : gi y 61 6 = n32 N) (hN : N < 10) (ha : f_X10_within a 0 5 = true) (hb : f_X10_within b 0 9 = true) (hc : f_X10_within c 0 9 = true) : f_X11_work y a b c = some (n32 N, pi (pi (pi (pi y 63 N a) 64 N b) 65 N c) 61 6 (n32 (N + 1))) := by
  unfold f_X11_work f_X11_work_29
  rw [in_wi, in_wi, in_wi, ha, hb, hc, if_neg bt, if_neg bt, if_neg bt]
  have hn : (n32 N).toNatClampNeg = N := n32_nat (by omega)
  simp (disch := omega) only [gp_q, gp_j, gp_eq, h, hn]
  rw [q_10, if_neg (n_ne (by omega) (by omega) (by omega)), gd_t (ib_n hN (by omega)), gd_t (ib_n hN (by omega)), gd_t (ib_n hN (by omega)), n_inc, q_1, n32_sub (by omega)]
  rfl
/-- what a WORKING added leaves as it was -/
def WF (x x1 : CS) (y y1 : MS) : Prop := (∀ q, 53 ≤ q → q ≤ 60 → x1.1 q = x.1 q) ∧ (∀ q, 77 ≤ q → q ≤ 79 → y1.1 q = y.1 q)
theorem add_sim {x : CS} {y : MS} (hP : PP x y) (a b c : Int32) : ∃ r x1 y1, f_X9_add x a b c = some (r, x1) ∧ f_X11_work y a b c = some (r, y1) ∧ PP x1 y1 ∧ WF x x1 y y1 := by
  have hP0 := hP
  obtain ⟨hG, hW, hT, ⟨N, k1, k2, k3, k4⟩, hF, hH, n, rf, hE, hI⟩ := hP
  have wf0 : WF x x y y := ⟨fun _ _ _ => rfl, fun _ _ _ => rfl⟩
  cases ha : f_X10_within a 0 5
  · exact ⟨-2, x, y, by unfold f_X9_add; rw [ha]; rfl, by unfold f_X11_work; rw [in_wi, ha]; rfl, hP0, wf0⟩
  cases hb : f_X10_within b 0 9
  · exact ⟨-2, x, y, by unfold f_X9_add; rw [ha, hb]; rfl, by unfold f_X11_work; rw [in_wi, in_wi, ha, hb]; rfl, hP0, wf0⟩
  cases hc : f_X10_within c 0 9
  · exact ⟨-2, x, y, by unfold f_X9_add; rw [ha, hb, hc]; rfl, by unfold f_X11_work; rw [in_wi, in_wi, in_wi, ha, hb, hc]; rfl, hP0, wf0⟩
  by_cases hN : N < 10
  · refine ⟨n32 N, _, _, X_add k2 hN ha hb hc, M_work k3 hN ha hb hc, ?_, ⟨fun q _ _ => by simp (disch := omega) only [pi1_q], fun q _ _ => by simp (disch := omega) only [pi1_q]⟩⟩
    have ha := wi_t.mp ha
    have hb := wi_t.mp hb
    have hc := wi_t.mp hc
    rw [z_0, z_5] at ha
    rw [z_0, z_9] at hb hc
    refine ⟨PG_fr hG (Nat.le_refl _) (by simp (disch := omega) only [gp_q, gp_j, gp_eq]) (by simp (disch := omega) only [gp_q, gp_j, gp_eq]), PW_fr hW (fun q a b => by simp (disch := omega) only [pi1_q]) (by simp (disch := omega) only [gp_q, gp_j, gp_eq]) (by simp (disch := omega) only [pi1_q]) (fun j a b => by simp (disch := omega) only [gp_q, gp_j]) (by simp (disch := omega) only [gp_q, gp_j, gp_eq]), PT_fr hT (fun q a b => by simp (disch := omega) only [pi1_q]) (by simp (disch := omega) only [gp_q, gp_j, gp_eq]) (by simp (disch := omega) only [pi1_q]) (by simp (disch := omega) only [pi1_q]) (by simp (disch := omega) only [gp_q, gp_j, gp_eq]) (by simp (disch := omega) only [gp_q, gp_j, gp_eq]), ⟨N + 1, by omega, gp_eq _ _ _ _, gp_eq _ _ _ _, fun w hw => ?_⟩, PF_fr hF (by simp (disch := omega) only [pi1_q]) (by simp (disch := omega) only [gp_q, gp_j, gp_eq]) (by simp (disch := omega) only [pi1_q]) (by simp (disch := omega) only [gp_q, gp_j, gp_eq]), PH_fr hH (fun q a b => by simp (disch := omega) only [pi1_q]) (fun q a b => by simp (disch := omega) only [pi1_q]), n, rf, PE_fr hE (XE_of rfl) (by simp (disch := omega) only [gp_q, gp_j, gp_eq]) (fun q a b => by simp (disch := omega) only [pi1_q]) (by simp (disch := omega) only [gp_q, gp_j, gp_eq]), PI_fr hI (fun q a b => by simp (disch := omega) only [pi1_q]) (by simp (disch := omega) only [gp_q, gp_j, gp_eq]) (by simp (disch := omega) only [gp_q, gp_j, gp_eq]) (by simp (disch := omega) only [gp_q, gp_j, gp_eq]) (fun q a b => by simp (disch := omega) only [pi1_q]) (by simp (disch := omega) only [gp_q, gp_j, gp_eq]) (by simp (disch := omega) only [gp_q, gp_j, gp_eq]) (by simp (disch := omega) only [gp_q, gp_j, gp_eq]) (by simp (disch := omega) only [gp_q, gp_j, gp_eq])⟩
    by_cases c : w = N
    · subst c
      simp (disch := omega) only [gp_q, gp_eq]
      exact ⟨⟨trivial, ha⟩, ⟨trivial, hb⟩, trivial, hc⟩
    · simp (disch := omega) only [gp_q, gp_j]
      exact k4 w (by omega)
  · have e10 : N = 10 := by omega
    subst e10
    refine ⟨-4, x, y, ?_, ?_, hP0, wf0⟩
    · unfold f_X9_add f_X9_add_48
      rw [ha, hb, hc, if_neg bt, if_neg bt, if_neg bt, k2]; rfl
    · unfold f_X11_work
      rw [in_wi, in_wi, in_wi, ha, hb, hc, if_neg bt, if_neg bt, if_neg bt, k3]; rfl
theorem s_work : ∀ (x : CS) (y : MS) (a0 a1 a2 : Int32), PP x y → ∃ (r : Int32) (x1 : CS) (y1 : MS), f_X10_work x a0 a1 a2 = some (r, x1) ∧ f_X11_work y a0 a1 a2 = some (r, y1) ∧ PP x1 y1 := by
  intro x y a0 a1 a2 hP
  obtain ⟨r, x1, y1, e1, e2, h, _⟩ := add_sim hP a0 a1 a2
  exact ⟨r, x1, y1, by unfold f_X10_work; rw [e1]; rfl, e2, h⟩
theorem s_forget : ∀ (x : CS) (y : MS), PP x y → ∃ (r : Int32) (x1 : CS) (y1 : MS), f_X10_forget x = (r, x1) ∧ f_X11_forget y = (r, y1) ∧ PP x1 y1 := by
  intro x y hP
  have hP0 := hP
  obtain ⟨hG, hW, hT, ⟨N, k1, k2, k3, k4⟩, hF, hH, n, rf, hE, hI⟩ := hP
  unfold f_X10_forget f_X11_forget
  rw [k2, k3, gp_eq, gp_eq]
  by_cases hN : N = 0
  · subst hN; exact ⟨-3, x, y, rfl, rfl, hP0⟩
  · have e1 : n32 N - 1 = n32 (N - 1) := by rw [q_1, n32_sub (by omega)]
    rw [e1]
    refine ⟨n32 (N - 1), _, _, if_pos (n_le (i := 1) (by omega) (by omega)), if_neg (n_ne (j := 0) hN (by omega) (by omega)), ?_⟩
    exact ⟨PG_fr hG (Nat.le_refl _) (by simp (disch := omega) only [gp_q, gp_j, gp_eq]) (by simp (disch := omega) only [gp_q, gp_j, gp_eq]), PW_fr hW (fun q a b => by simp (disch := omega) only [pi1_q]) (by simp (disch := omega) only [gp_q, gp_j, gp_eq]) (by simp (disch := omega) only [pi1_q]) (fun j a b => by simp (disch := omega) only [gp_q, gp_j]) (by simp (disch := omega) only [gp_q, gp_j, gp_eq]), PT_fr hT (fun q a b => by simp (disch := omega) only [pi1_q]) (by simp (disch := omega) only [gp_q, gp_j, gp_eq]) (by simp (disch := omega) only [pi1_q]) (by simp (disch := omega) only [pi1_q]) (by simp (disch := omega) only [gp_q, gp_j, gp_eq]) (by simp (disch := omega) only [gp_q, gp_j, gp_eq]), ⟨N - 1, by omega, gp_eq _ _ _ _, gp_eq _ _ _ _, fun w hw => by simp (disch := omega) only [gp_q]; exact k4 w (by omega)⟩, PF_fr hF (by simp (disch := omega) only [pi1_q]) (by simp (disch := omega) only [gp_q, gp_j, gp_eq]) (by simp (disch := omega) only [pi1_q]) (by simp (disch := omega) only [gp_q, gp_j, gp_eq]), PH_fr hH (fun q a b => by simp (disch := omega) only [pi1_q]) (fun q a b => by simp (disch := omega) only [pi1_q]), n, rf, PE_fr hE (XE_of rfl) (by simp (disch := omega) only [gp_q, gp_j, gp_eq]) (fun q a b => by simp (disch := omega) only [pi1_q]) (by simp (disch := omega) only [gp_q, gp_j, gp_eq]), PI_fr hI (fun q a b => by simp (disch := omega) only [pi1_q]) (by simp (disch := omega) only [gp_q, gp_j, gp_eq]) (by simp (disch := omega) only [gp_q, gp_j, gp_eq]) (by simp (disch := omega) only [gp_q, gp_j, gp_eq]) (fun q a b => by simp (disch := omega) only [pi1_q]) (by simp (disch := omega) only [gp_q, gp_j, gp_eq]) (by simp (disch := omega) only [gp_q, gp_j, gp_eq]) (by simp (disch := omega) only [gp_q, gp_j, gp_eq]) (by simp (disch := omega) only [gp_q, gp_j, gp_eq])⟩
def dys (kd sec mo : Nat) : Int32 := if kd = 1 then (if sec = 9 then 2 * (1 + n32 mo) else 1 + n32 mo) else if kd = 2 then (if sec = 9 then 2 * (1 + n32 mo) else 1 + n32 mo) + 2 else if kd = 4 then 2 * (1 + n32 mo) else if kd = 5 then 2 * (1 + n32 mo) + 3 else 1 + n32 mo
theorem X_days1 {x : CS} {N : Nat} {kd sec mo : Nat → Nat} (wk : WK x N kd sec mo) {w : Nat} (hw : w < N) : f_X9_daysOfOneMan x (n32 w) = some (dys (kd w) (sec w) (mo w)) := by
  obtain ⟨_, e1, e2, e3⟩ := X_has wk (fun _ _ _ => rfl) hw
  obtain ⟨_, _, _, b1, b2, b3⟩ := wk.2.2 w hw
  have fin : ∀ s0, s0 = (if sec w = 9 then 2 * (1 + n32 (mo w)) else 1 + n32 (mo w)) → wp (f_X9_daysOfOneMan_25 x (n32 w) (1 + n32 (mo w)) s0) (fun v => v = dys (kd w) (sec w) (mo w)) := by
    intro s0 hs0
    unfold f_X9_daysOfOneMan_25 f_X9_daysOfOneMan_80 dys
    rw [← hs0]
    refine wp_be e1 ?_
    rcases (by omega : kd w = 0 ∨ kd w = 1 ∨ kd w = 2 ∨ kd w = 3 ∨ kd w = 4 ∨ kd w = 5) with h | h | h | h | h | h <;> rw [h] <;> exact ⟨_, rfl, rfl⟩
  unfold f_X9_daysOfOneMan
  refine wp_eq (wp_be e3 (wp_be e2 ?_))
  by_cases c : sec w = 9
  · exact wp_t (by rw [c]; rfl) (fin _ (by rw [if_pos c]))
  · exact wp_e (n_ne (j := 9) c (by omega) (by omega)) (fin _ (by rw [if_neg c]))
theorem M_days1 {y : MS} {N : Nat} {kd sec mo : Nat → Nat} (wm : WM y N kd sec mo) {w : Nat} (hw : w < N) : f_X11_daysOf y (n32 w) = some (dys (kd w) (sec w) (mo w)) := by
  obtain ⟨a, b, c, b1, b2, b3⟩ := wm.2.2 w hw
  have hN := wm.1
  unfold f_X11_daysOf f_X11_daysOf_85 f_X11_daysOf_98 dys
  have hib : ib (n32 w) 10 = true := ib_n (by omega) (by omega)
  rw [n32_nat (by omega), a, b, c, hib, gd_tt, gd_tt, gd_tt, gd_tt]
  have hs : (n32 (sec w) = 9) ↔ sec w = 9 := by rw [q_9]; exact n32_inj (by omega) (by omega)
  by_cases c9 : sec w = 9
  · rw [if_pos (hs.mpr c9), if_pos c9, if_pos (hs.mpr c9)]
    rcases (by omega : kd w = 0 ∨ kd w = 1 ∨ kd w = 2 ∨ kd w = 3 ∨ kd w = 4 ∨ kd w = 5) with h | h | h | h | h | h <;> rw [h] <;> rfl
  · rw [if_neg (fun q => c9 (hs.mp q)), if_neg c9, if_neg (fun q => c9 (hs.mp q))]
    rcases (by omega : kd w = 0 ∨ kd w = 1 ∨ kd w = 2 ∨ kd w = 3 ∨ kd w = 4 ∨ kd w = 5) with h | h | h | h | h | h <;> rw [h] <;> rfl
def dby (kd sec mo : Nat → Nat) (men : Int32) (w : Nat) : Int32 := ((dys (kd w) (sec w) (mo w) + men) - 1) / men
theorem X_daysBy {x : CS} {N : Nat} {kd sec mo : Nat → Nat} (wk : WK x N kd sec mo) {w : Nat} (hw : w < N) {men : Int32} (hm : 1 ≤ men.toInt) : f_X9_daysBy x (n32 w) men = some (dby kd sec mo men w) := by
  unfold f_X9_daysBy
  exact wp_eq (wp_t (i32_le.mpr (by rw [z_1]; exact hm)) (wp_be (X_days1 wk hw) (wp_g (pos_ne (by omega)) (wp_s rfl))))
theorem M_by {d men : Int32} (hm : 1 ≤ men.toInt) : f_X11_by d men = some (((d + men) - 1) / men) := by
  unfold f_X11_by
  rw [gd_t (pos_ne (by omega))]
def sumD (f : Nat → Int32) : Nat → Nat → Int32 → Int32
  | 0, _, a => a
  | k + 1, w, a => sumD f k (w + 1) (a + f w)
theorem X_allDays {x : CS} {N nn : Nat} {kd sec mo : Nat → Nat} (wk : WK x N kd sec mo) (hnn : nn ≤ N) {men : Int32} (hm : 1 ≤ men.toInt) : f_X9_allDaysBy x (n32 nn) men = some (sumD (dby kd sec mo men) nn 0 0) := by
  have hN := wk.1
  have key : ∀ (k w n : Nat) (a : Int32), w + k = nn → k < n → f_X9_allDaysBy_5 x n (n32 nn) men a (n32 w) = some (sumD (dby kd sec mo men) k w a) := by
    intro k
    induction k with
    | zero =>
      intro w n a hw hn
      obtain ⟨n, rfl⟩ : ∃ w, n = w + 1 := ⟨n - 1, by omega⟩
      rw [f_X9_allDaysBy_5]
      exact if_pos (n_le (by omega) (by omega))
    | succ k ih =>
      intro w n a hw hn
      obtain ⟨n, rfl⟩ : ∃ w, n = w + 1 := ⟨n - 1, by omega⟩
      refine wp_eq ?_
      rw [f_X9_allDaysBy_5, wk.2.1]
      refine wp_e (n_nle (by omega) (by omega)) (wp_e (n_nle (by omega) (by omega)) (wp_be (X_daysBy wk (by omega) hm) ?_))
      rw [n_inc]
      exact ⟨_, ih (w + 1) n _ (by omega) (by omega), rfl⟩
  exact key nn 0 1000 0 (by omega) (by omega)
theorem M_allDays {y : MS} {N nn : Nat} {kd sec mo : Nat → Nat} (wm : WM y N kd sec mo) (hnn : nn ≤ N) {men : Int32} (hm : 1 ≤ men.toInt) : f_X11_daysBy y (n32 nn) men = some (sumD (dby kd sec mo men) nn 0 0) := by
  have hN := wm.1
  have key : ∀ (k w n : Nat) (a : Int32), w + k = nn → k < n → f_X11_daysBy_5 y n (n32 nn) men a (n32 w) = some (sumD (dby kd sec mo men) k w a) := by
    intro k
    induction k with
    | zero =>
      intro w n a hw hn
      obtain ⟨n, rfl⟩ : ∃ w, n = w + 1 := ⟨n - 1, by omega⟩
      rw [f_X11_daysBy_5]
      exact if_pos (n_le (by omega) (by omega))
    | succ k ih =>
      intro w n a hw hn
      obtain ⟨n, rfl⟩ : ∃ w, n = w + 1 := ⟨n - 1, by omega⟩
      refine wp_eq ?_
      rw [f_X11_daysBy_5]
      refine wp_e (n_nle (by omega) (by omega)) (wp_be (M_days1 wm (by omega)) (wp_be (M_by hm) ?_))
      rw [n_inc]
      exact ⟨_, ih (w + 1) n _ (by omega) (by omega), rfl⟩
  exact key nn 0 1000 0 (by omega) (by omega)
/-- the longest: Option -/
def lonS (f : Nat → Int32) : Nat → Nat → Option Nat → Option Nat
  | 0, _, b => b
  | k + 1, w, b => lonS f k (w + 1) (match b with | none => some w | some b => if f w ≤ f b then some b else some w)
def oI (o : Option Nat) : Int32 := match o with | none => -1 | some w => n32 w
theorem X_longest {x : CS} {N nn : Nat} {kd sec mo : Nat → Nat} (wk : WK x N kd sec mo) (hnn : nn ≤ N) {men : Int32} (hm : 1 ≤ men.toInt) : f_X9_longest x (n32 nn) men = some (oI (lonS (dby kd sec mo men) nn 0 none)) := by
  have hN := wk.1
  have key : ∀ (k w n : Nat) (b : Option Nat), w + k = nn → k < n → (∀ z, b = some z → z < w) → f_X9_longest_5 x n (n32 nn) men (oI b) (n32 w) = some (oI (lonS (dby kd sec mo men) k w b)) := by
    intro k
    induction k with
    | zero =>
      intro w n a hw hn hb
      obtain ⟨n, rfl⟩ : ∃ w, n = w + 1 := ⟨n - 1, by omega⟩
      rw [f_X9_longest_5]
      exact if_pos (n_le (by omega) (by omega))
    | succ k ih =>
      intro w n b hw hn hb
      obtain ⟨n, rfl⟩ : ∃ w, n = w + 1 := ⟨n - 1, by omega⟩
      refine wp_eq ?_
      rw [f_X9_longest_5, wk.2.1]
      unfold f_X9_longest_40 f_X9_longest_43
      refine wp_e (n_nle (by omega) (by omega)) (wp_e (n_nle (by omega) (by omega)) ?_)
      rw [n_inc]
      cases b with
      | none =>
        refine wp_t (by decide) ?_
        exact ⟨_, ih (w + 1) n (some w) (by omega) (by omega) (fun z hz => by cases hz; omega), rfl⟩
      | some b =>
        have hb1 := hb b rfl
        refine wp_e (n_nlt (j := 0) (by omega) (by omega)) (wp_be (X_daysBy wk (by omega) hm) (wp_be (X_daysBy wk (w := b) (by omega) hm) (wp_i (fun c => ?_) (fun c => ?_))))
        · have e : lonS (dby kd sec mo men) (k + 1) w (some b) = lonS (dby kd sec mo men) k (w + 1) (some b) := by
            show lonS (dby kd sec mo men) k (w + 1) (if dby kd sec mo men w ≤ dby kd sec mo men b then some b else some w) = _
            rw [if_pos c]
          rw [e]
          exact ⟨_, ih (w + 1) n (some b) (by omega) (by omega) (fun z hz => by cases hz; omega), rfl⟩
        · have e : lonS (dby kd sec mo men) (k + 1) w (some b) = lonS (dby kd sec mo men) k (w + 1) (some w) := by
            show lonS (dby kd sec mo men) k (w + 1) (if dby kd sec mo men w ≤ dby kd sec mo men b then some b else some w) = _
            rw [if_neg c]
          rw [e]
          exact ⟨_, ih (w + 1) n (some w) (by omega) (by omega) (fun z hz => by cases hz; omega), rfl⟩
  exact key nn 0 1000 none (by omega) (by omega) (fun z hz => by cases hz)
theorem M_days28 {y : MS} {N nn : Nat} {kd sec mo : Nat → Nat} (wm : WM y N kd sec mo) (hnn : nn ≤ N) (hm : 1 ≤ (gi y 61 4).toInt) (a2 : Int32) : f_X11_days_28 y 1000 (n32 nn) a2 (-1) 0 = some (if a2 = 0 then sumD (dby kd sec mo (gi y 61 4)) nn 0 0 else oI (lonS (dby kd sec mo (gi y 61 4)) nn 0 none)) := by
  have hN := wm.1
  have key : ∀ (k w n : Nat) (b : Option Nat), w + k = nn → k < n → (∀ z, b = some z → z < w) → f_X11_days_28 y n (n32 nn) a2 (oI b) (n32 w) = some (if a2 = 0 then sumD (dby kd sec mo (gi y 61 4)) nn 0 0 else oI (lonS (dby kd sec mo (gi y 61 4)) k w b)) := by
    intro k
    induction k with
    | zero =>
      intro w n b hw hn hb
      obtain ⟨n, rfl⟩ : ∃ w, n = w + 1 := ⟨n - 1, by omega⟩
      refine wp_eq ?_
      rw [f_X11_days_28]
      refine wp_t (n_le (by omega) (by omega)) ?_
      by_cases c : a2 = 0
      · rw [if_pos c, if_pos c]; exact wp_be (M_allDays wm hnn hm) (wp_s rfl)
      · rw [if_neg c, if_neg c]; exact wp_s rfl
    | succ k ih =>
      intro w n b hw hn hb
      obtain ⟨n, rfl⟩ : ∃ w, n = w + 1 := ⟨n - 1, by omega⟩
      refine wp_eq ?_
      rw [f_X11_days_28]
      unfold f_X11_days_67 f_X11_days_73
      refine wp_e (n_nle (by omega) (by omega)) ?_
      rw [n_inc]
      cases b with
      | none =>
        refine wp_t rfl ?_
        exact ⟨_, ih (w + 1) n (some w) (by omega) (by omega) (fun z hz => by cases hz; omega), rfl⟩
      | some b =>
        have hb1 := hb b rfl
        have hne : ¬ oI (some b) = -1 := fun q => by
          have q : n32 b = -1 := q
          rw [i32_eq, n32_int (by omega), z_m1] at q; omega
        refine wp_e hne (wp_be (M_days1 wm (by omega)) (wp_be (M_by hm) (wp_be (M_days1 wm (w := b) (by omega)) (wp_be (M_by hm) (wp_i (fun c => ?_) (fun c => ?_))))))
        · have e : lonS (dby kd sec mo (gi y 61 4)) (k + 1) w (some b) = lonS (dby kd sec mo (gi y 61 4)) k (w + 1) (some b) := by
            show lonS (dby kd sec mo (gi y 61 4)) k (w + 1) (if dby kd sec mo (gi y 61 4) w ≤ dby kd sec mo (gi y 61 4) b then some b else some w) = _
            rw [if_pos (show dby kd sec mo (gi y 61 4) w ≤ dby kd sec mo (gi y 61 4) b from c)]
          rw [e]
          exact ⟨_, ih (w + 1) n (some b) (by omega) (by omega) (fun z hz => by cases hz; omega), rfl⟩
        · have e : lonS (dby kd sec mo (gi y 61 4)) (k + 1) w (some b) = lonS (dby kd sec mo (gi y 61 4)) k (w + 1) (some w) := by
            show lonS (dby kd sec mo (gi y 61 4)) k (w + 1) (if dby kd sec mo (gi y 61 4) w ≤ dby kd sec mo (gi y 61 4) b then some b else some w) = _
            rw [if_neg (show ¬ dby kd sec mo (gi y 61 4) w ≤ dby kd sec mo (gi y 61 4) b from c)]
          rw [e]
          exact ⟨_, ih (w + 1) n (some w) (by omega) (by omega) (fun z hz => by cases hz; omega), rfl⟩
  exact key nn 0 1000 none (by omega) (by omega) (fun z hz => by cases hz)
theorem PP_men {x : CS} {y : MS} (h : PP x y) : gi x 9 3 = gi y 61 4 ∧ 1 ≤ (gi y 61 4).toInt := by
  obtain ⟨a, b, _⟩ := h.2.1.2.1 3 (by omega)
  exact ⟨a, b⟩
theorem s_days : ∀ (x : CS) (y : MS) (a0 a1 : Int32), PP x y → ∃ (r : Int32), f_X10_days x a0 a1 = some r ∧ f_X11_days y a0 a1 = some r := by
  intro x y a0 a1 hP
  obtain ⟨m, sp, cv, N, kd, sec, mo, c⟩ := PP_ctx hP
  obtain ⟨em, hm⟩ := PP_men hP
  unfold f_X10_days f_X11_days
  rcases soMany c a0 with ⟨h1, h2⟩ | ⟨h1, h2, nn, hnn, rfl⟩
  · rw [h1, h2]; exact ⟨-5, rfl, rfl⟩
  rw [h1, h2, in_wi, if_neg bt, if_neg bt]
  cases hw : f_X10_within a1 0 1
  · exact ⟨-7, rfl, rfl⟩
  rw [if_neg bt, if_neg bt]
  obtain ⟨_, _, wk, wm, _⟩ := c
  refine ⟨_, ?_, M_days28 wm hnn hm a1⟩
  have e3 : f_X8_setting x 1 3 = some (gi y 61 4) := by rw [← em]; exact X_set1 x (k := 3) (by omega)
  refine wp_eq (wp_be e3 ?_)
  by_cases c : a1 = 0
  · rw [if_pos c, if_pos c]; exact wp_be (X_allDays wk hnn hm) (wp_s rfl)
  · rw [if_neg c, if_neg c]; exact wp_be (X_longest wk hnn hm) (wp_s rfl)
theorem s_fewest : ∀ (x : CS) (y : MS) (a0 a1 : Int32), PP x y → ∃ (r : Int32), f_X10_fewest x a0 a1 = some r ∧ f_X11_fewest y a0 a1 = some r := by
  intro x y a0 a1 hP
  obtain ⟨m, sp, cv, N, kd, sec, mo, c⟩ := PP_ctx hP
  unfold f_X10_fewest f_X11_fewest
  rcases soMany c a0 with ⟨h1, h2⟩ | ⟨h1, h2, nn, hnn, rfl⟩
  · rw [h1, h2]; exact ⟨-5, rfl, rfl⟩
  rw [h1, h2, in_wi, if_neg bt, if_neg bt]
  cases hw : f_X10_within a1 0 999
  · exact ⟨-7, rfl, rfl⟩
  rw [if_neg bt, if_neg bt]
  obtain ⟨_, _, wk, wm, _⟩ := c
  have key : ∀ (k i n n' : Nat), i + k = 6 → 1 ≤ i → k < n → k < n' → ∃ r, f_X10_fewest_27 x n (n32 nn) a1 (n32 i) = some r ∧ f_X11_fewest_27 y n' (n32 nn) a1 (n32 i) = some r := by
    intro k
    induction k with
    | zero =>
      intro i n n' hi h1 hn hn'
      obtain ⟨n, rfl⟩ : ∃ w, n = w + 1 := ⟨n - 1, by omega⟩
      obtain ⟨n', rfl⟩ : ∃ w, n' = w + 1 := ⟨n' - 1, by omega⟩
      rw [f_X10_fewest_27, f_X11_fewest_27]
      exact ⟨-1, if_pos (n_lt (i := 5) (by omega) (by omega)), if_pos (n_lt (i := 5) (by omega) (by omega))⟩
    | succ k ih =>
      intro i n n' hi h1 hn hn'
      obtain ⟨n, rfl⟩ : ∃ w, n = w + 1 := ⟨n - 1, by omega⟩
      obtain ⟨n', rfl⟩ : ∃ w, n' = w + 1 := ⟨n' - 1, by omega⟩
      have hm : 1 ≤ (n32 i).toInt := by rw [n32_int (by omega)]; omega
      have h5 : ¬ (5 : Int32) < n32 i := n_nlt (i := 5) (by omega) (by omega)
      rw [f_X10_fewest_27, f_X11_fewest_27, if_neg h5, if_neg h5, X_allDays wk hnn hm, M_allDays wm hnn hm, Option.bind_some, Option.bind_some, n_inc]
      by_cases c : a1 < sumD (dby kd sec mo (n32 i)) nn 0 0
      · rw [if_pos c, if_pos c]; exact ih (i + 1) n n' (by omega) (by omega) (by omega) (by omega)
      · rw [if_neg c, if_neg c]; exact ⟨_, rfl, rfl⟩
  exact key 5 1 1000 1000 (by omega) (by omega) (by omega) (by omega)
theorem s_workTold : ∀ (x : CS) (y : MS) (a0 a1 : Int32), PP x y → ∃ (r : Int32), f_X10_workTold x a0 a1 = some r ∧ f_X11_workTold y a0 a1 = some r := by
  intro x y a0 a1 hP
  obtain ⟨m, sp, cv, N, kd, sec, mo, c⟩ := PP_ctx hP
  obtain ⟨em, hm⟩ := PP_men hP
  obtain ⟨_, _, wk, wm, _⟩ := c
  have hN := wk.1
  unfold f_X10_workTold f_X11_workTold
  rw [in_wi, wm.2.1]
  cases hw : f_X10_within a0 0 (n32 N - 1)
  · have hw := wi_f.mp hw
    rw [z_0, n32_m1 (by omega)] at hw
    have e : f_X9_has x a0 = false := by
      unfold f_X9_has f_X9_has_22
      by_cases c : a0 < 0
      · rw [if_pos c]
      · rw [if_neg c, wk.2.1, if_pos]
        rw [i32_lt, z_0] at c
        rw [i32_le, n32_int (by omega)]; omega
    rw [e]; exact ⟨-5, rfl, rfl⟩
  have hw := wi_t.mp hw
  rw [z_0, n32_m1 (by omega)] at hw
  obtain ⟨w, hw2, rfl⟩ := n32_ex hw.1 hw.2
  have hwN : w < N := by omega
  obtain ⟨e0, e1, e2, e3⟩ := X_has wk (fun _ _ _ => rfl) hwN
  obtain ⟨g1, g2, g3, _⟩ := wm.2.2 w hwN
  have hib : ib (n32 w) 10 = true := ib_n (by omega) (by omega)
  rw [e0, if_neg bt, if_neg bt, e1, e2, e3, n32_nat (by omega), g1, g2, g3, hib, gd_tt, gd_tt, gd_tt]
  by_cases c0 : a1 = 0
  · rw [if_pos c0, if_pos c0]; exact ⟨_, rfl, rfl⟩
  rw [if_neg c0, if_neg c0]
  by_cases c1 : a1 = 1
  · rw [if_pos c1, if_pos c1]; exact ⟨_, rfl, rfl⟩
  rw [if_neg c1, if_neg c1]
  by_cases c2 : a1 = 2
  · rw [if_pos c2, if_pos c2]; exact ⟨_, rfl, rfl⟩
  rw [if_neg c2, if_neg c2]
  by_cases c3 : a1 = 3
  · rw [if_pos c3, if_pos c3]
    have e3 : f_X8_setting x 1 3 = some (gi y 61 4) := by rw [← em]; exact X_set1 x (k := 3) (by omega)
    exact ⟨_, wp_eq (wp_be e3 (wp_be (X_daysBy wk hwN hm) (wp_s rfl))), wp_eq (wp_be (M_days1 wm hwN) (wp_be (M_by hm) (wp_s rfl)))⟩
  rw [if_neg c3, if_neg c3]; exact ⟨-7, rfl, rfl⟩
theorem byte_eq (a : Int64) {k : Nat} (hk : k < 8) : ((((a.toUInt64 >>> ((8 * n32 k).toInt64.toUInt64 &&& Int64.toUInt64 63)).toInt64).toInt32) &&& 255 : Int32) = ((a >>> ((8 * n32 k).toInt64 &&& 63)) &&& 255).toInt32 := by
  have key : ∀ (v : BitVec 64) (j : Nat), j + 8 ≤ 64 → ((v >>> j).signExtend 32) &&& 255#32 = ((v.sshiftRight j) &&& 255#64).signExtend 32 := by
    intro v j hj
    have h255 : ∀ i, (255#32).getLsbD i = decide (i < 8) := by
      intro i
      rcases Nat.lt_or_ge i 8 with h | h
      · rw [decide_eq_true h]
        rcases (by omega : i = 0 ∨ i = 1 ∨ i = 2 ∨ i = 3 ∨ i = 4 ∨ i = 5 ∨ i = 6 ∨ i = 7) with rfl | rfl | rfl | rfl | rfl | rfl | rfl | rfl <;> rfl
      · rw [decide_eq_false (by omega)]
        show (BitVec.ofNat 32 255).getLsbD i = false
        rw [BitVec.getLsbD_ofNat]
        have : Nat.testBit 255 i = false := Nat.testBit_lt_two_pow (Nat.lt_of_lt_of_le (by decide : 255 < 2 ^ 8) (Nat.pow_le_pow_right (by decide) h))
        rw [this]; simp
    have h255b : ∀ i, (255#64).getLsbD i = decide (i < 8) := by
      intro i
      rcases Nat.lt_or_ge i 8 with h | h
      · rw [decide_eq_true h]
        rcases (by omega : i = 0 ∨ i = 1 ∨ i = 2 ∨ i = 3 ∨ i = 4 ∨ i = 5 ∨ i = 6 ∨ i = 7) with rfl | rfl | rfl | rfl | rfl | rfl | rfl | rfl <;> rfl
      · rw [decide_eq_false (by omega)]
        show (BitVec.ofNat 64 255).getLsbD i = false
        rw [BitVec.getLsbD_ofNat]
        have : Nat.testBit 255 i = false := Nat.testBit_lt_two_pow (Nat.lt_of_lt_of_le (by decide : 255 < 2 ^ 8) (Nat.pow_le_pow_right (by decide) h))
        rw [this]; simp
    apply BitVec.eq_of_getLsbD_eq
    intro i hi
    rw [BitVec.getLsbD_and, BitVec.getLsbD_signExtend, BitVec.getLsbD_signExtend, BitVec.getLsbD_and, h255, h255b, BitVec.getLsbD_ushiftRight, BitVec.getLsbD_sshiftRight]
    by_cases h8 : i < 8
    · rw [decide_eq_true h8, if_pos (by omega), if_pos (by omega), if_pos (by omega)]
      simp [show ¬ 64 ≤ i from by omega]
    · rw [decide_eq_false h8, if_pos (by omega)]
      simp
      intro _ h64
      omega
  rw [← Int32.toBitVec_inj, Int32.toBitVec_and]
  rcases (by omega : k = 0 ∨ k = 1 ∨ k = 2 ∨ k = 3 ∨ k = 4 ∨ k = 5 ∨ k = 6 ∨ k = 7) with rfl | rfl | rfl | rfl | rfl | rfl | rfl | rfl
  · exact key a.toBitVec 0 (by omega)
  · exact key a.toBitVec 8 (by omega)
  · exact key a.toBitVec 16 (by omega)
  · exact key a.toBitVec 24 (by omega)
  · exact key a.toBitVec 32 (by omega)
  · exact key a.toBitVec 40 (by omega)
  · exact key a.toBitVec 48 (by omega)
  · exact key a.toBitVec 56 (by omega)
theorem and255 (v : Int32) : 0 ≤ (v &&& 255).toInt ∧ (v &&& 255).toInt ≤ 255 := by
  have h1 : (v.toBitVec &&& 255#32).toNat ≤ 255 := by
    rw [BitVec.toNat_and]; exact Nat.and_le_right
  have h2 : (v &&& 255).toInt = (v.toBitVec &&& 255#32).toInt := rfl
  rw [h2, BitVec.toInt_eq_toNat_cond]
  split <;> omega
theorem s_feed : ∀ (x : CS) (y : MS) (a0 : Int64) (a1 : Int32), PP x y → ∃ (r : Int32) (x1 : CS) (y1 : MS), f_X10_feed x a0 a1 = some (r, x1) ∧ f_X11_feed y a0 a1 = some (r, y1) ∧ PP x1 y1 := by
  intro x y a0 a1 hP
  unfold f_X10_feed f_X11_feed
  rw [in_wi]
  rcases wi_cases a1 1 8 (by decide) with hw | ⟨hw, k, hk1, hk2, rfl⟩
  · rw [hw]; exact sim0 hP (-2) rfl rfl
  rw [z_1] at hk1
  rw [z_8] at hk2
  rw [hw, if_neg bt, if_neg bt]
  obtain ⟨n0, f1, f2, f3, _⟩ := hP.2.2.2.2.1
  rw [f2, f3, n32_add, q_160]
  by_cases hn : n0 + k ≤ 160
  · rw [if_pos (n_le (j := 160) hn (by omega)), if_pos (n_le (j := 160) hn (by omega)), q_1, n32_sub (by omega)]
    have key : ∀ (j : Nat) (x : CS) (y : MS) (n n' m : Nat), PP x y → gi x 26 1 = n32 m → m + j ≤ 160 → j ≤ 8 → j < n → j < n' → ∃ r x1 y1, f_X10_feed_36 n x a0 (n32 j + (-1)) = some (r, x1) ∧ f_X11_feed_33 n' y a0 (n32 j + (-1)) = some (r, y1) ∧ PP x1 y1 := by
      intro j
      induction j with
      | zero =>
        intro x y n n' m hP hm _ _ hn hn'
        obtain ⟨n, rfl⟩ : ∃ w, n = w + 1 := ⟨n - 1, by omega⟩
        obtain ⟨n', rfl⟩ : ∃ w, n' = w + 1 := ⟨n' - 1, by omega⟩
        obtain ⟨nf, f1, f2, f3, f4⟩ := hP.2.2.2.2.1
        rw [f_X10_feed_36, f_X11_feed_33]
        have c : (n32 0 + (-1) : Int32) < 0 := by decide
        rw [if_pos c, if_pos c]
        exact ⟨_, x, y, rfl, by rw [f2, f3], hP⟩
      | succ j ih =>
        intro x y n n' m hP hm hmj hj hn hn'
        obtain ⟨n, rfl⟩ : ∃ w, n = w + 1 := ⟨n - 1, by omega⟩
        obtain ⟨n', rfl⟩ : ∃ w, n' = w + 1 := ⟨n' - 1, by omega⟩
        have ed : n32 (j + 1) + (-1) = n32 j := by
          rw [Int32.add_neg_eq_sub, q_1, n32_sub (by omega)]; congr 1
        have ej : ¬ n32 j < 0 := n_nlt (j := 0) (by omega) (by omega)
        have hP0 := hP
        obtain ⟨hG, hW, hT, hK, ⟨nf, f1, f2, f3, f4⟩, hH, nt, rf, hE, hI⟩ := hP
        have emn : nf = m := by
          rw [hm] at f2
          exact ((n32_inj (by omega) (by omega)).mp f2).symm
        subst emn
        rw [f_X10_feed_36, f_X11_feed_33, ed, if_neg ej, if_neg ej, f3, n32_nat (by omega), gd_t (ib_n (by omega) (by omega)), gp_q _ _ _ _ (by omega), f3, n_inc, ← byte_eq a0 (by omega)]
        generalize ((((a0.toUInt64 >>> ((8 * n32 j).toInt64.toUInt64 &&& Int64.toUInt64 63)).toInt64).toInt32)) = b0
        have hb := and255 b0
        have ea : f_X6_append x (b0 &&& 255) = some (pi (pi x 27 nf (b0 &&& 255)) 26 1 (n32 (nf + 1))) := by
          unfold f_X6_append
          rw [f2, q_160, if_neg (n_nle (by omega) (by omega)), gd_t (ib_n (by omega) (by omega)), n32_nat (by omega), gp_q _ _ _ _ (by omega), f2, n_inc]
        rw [ea, Option.bind_some]
        refine ih _ _ n n' (nf + 1) ?_ (gp_eq _ _ _ _) (by omega) (by omega) (by omega) (by omega)
        refine ⟨PG_fr hG (Nat.le_refl _) (by simp (disch := omega) only [gp_q, gp_j, gp_eq]) (by simp (disch := omega) only [gp_q, gp_j, gp_eq]), PW_fr hW (fun q a b => by simp (disch := omega) only [pi1_q]) (by simp (disch := omega) only [gp_q, gp_j, gp_eq]) (by simp (disch := omega) only [pi1_q]) (fun j a b => by simp (disch := omega) only [gp_q, gp_j]) (by simp (disch := omega) only [gp_q, gp_j, gp_eq]), PT_fr hT (fun q a b => by simp (disch := omega) only [pi1_q]) (by simp (disch := omega) only [gp_q, gp_j, gp_eq]) (by simp (disch := omega) only [pi1_q]) (by simp (disch := omega) only [pi1_q]) (by simp (disch := omega) only [gp_q, gp_j, gp_eq]) (by simp (disch := omega) only [gp_q, gp_j, gp_eq]), PK_fr hK (fun q a b => by simp (disch := omega) only [pi1_q]) (fun q a b => by simp (disch := omega) only [pi1_q]) (by simp (disch := omega) only [gp_q, gp_j, gp_eq]), ⟨nf + 1, by omega, gp_eq _ _ _ _, gp_eq _ _ _ _, fun i hi => ?_⟩, PH_fr hH (fun q a b => by simp (disch := omega) only [pi1_q]) (fun q a b => by simp (disch := omega) only [pi1_q]), nt, rf, PE_fr hE (XE_of rfl) (by simp (disch := omega) only [gp_q, gp_j, gp_eq]) (fun q a b => by simp (disch := omega) only [pi1_q]) (by simp (disch := omega) only [gp_q, gp_j, gp_eq]), PI_fr hI (fun q a b => by simp (disch := omega) only [pi1_q]) (by simp (disch := omega) only [gp_q, gp_j, gp_eq]) (by simp (disch := omega) only [gp_q, gp_j, gp_eq]) (by simp (disch := omega) only [gp_q, gp_j, gp_eq]) (fun q a b => by simp (disch := omega) only [pi1_q]) (by simp (disch := omega) only [gp_q, gp_j, gp_eq]) (by simp (disch := omega) only [gp_q, gp_j, gp_eq]) (by simp (disch := omega) only [gp_q, gp_j, gp_eq]) (by simp (disch := omega) only [gp_q, gp_j, gp_eq])⟩
        by_cases c : i = nf
        · subst c
          simp (disch := omega) only [gp_q, gp_eq]
          exact ⟨trivial, hb⟩
        · simp (disch := omega) only [gp_q, gp_j]
          exact f4 i (by omega)
    have ek : n32 (k - 1) = n32 k + (-1) := by
      rw [Int32.add_neg_eq_sub, q_1, n32_sub (by omega)]
    rw [ek]
    exact key k x y 1000 1000 n0 hP f2 (by omega) (by omega) (by omega) (by omega)
  · have c : ¬ n32 (n0 + k) ≤ n32 160 := n_nle (by omega) (by omega)
    rw [if_neg c, if_neg c]
    exact sim0 hP (-4) rfl rfl
