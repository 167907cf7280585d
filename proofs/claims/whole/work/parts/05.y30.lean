/-! ===== pure: a text's token, by class and check ===== -/
def tkAt (b : Nat → Int32) (N s : Nat) : TK × Nat :=
  if s < N then (if fl b N s = true then (wdTK (wm b s (run (fl b N) (N - s) s - s)), run (fl b N) (N - s) s) else if fd b N s = true then (if run (fd b N) (N - s) s - s ≤ 4 then TK.num (nvf b (run (fd b N) (N - s) s - s) s 0) else TK.bad, run (fd b N) (N - s) s) else (sgTK (b s), s + 1)) else (TK.fin, s)
def st (b : Nat → Int32) (N p : Nat) : Nat := run (fb b N) (N - p) p
def tok (b : Nat → Int32) (N p : Nat) : TK := (tkAt b N (st b N p)).1
def nx (b : Nat → Int32) (N p : Nat) : Nat := (tkAt b N (st b N p)).2
def XT (b : Nat → Int32) (N : Nat) (x x' : CS) (p : Nat) : Prop := (∀ q, q ≠ 26 → x'.1 q = x.1 q) ∧ x'.2 = x.2 ∧ (∀ j, j < 7 → gi x' 26 j = gi x 26 j) ∧ gi x' 26 7 = n32 (nx b N p) ∧ gi x' 26 9 = n32 (st b N p) ∧ gi x' 26 8 = (tok b N p).c ∧ ∀ v, tok b N p = TK.num v → gi x' 26 10 = v
def YT (b : Nat → Int32) (N : Nat) (y y' : MS) (p : Nat) : Prop := (∀ q, q ≠ 61 → y'.1 q = y.1 q) ∧ y'.2 = y.2 ∧ (∀ j, (j < 31 ∨ 34 < j) → gi y' 61 j = gi y 61 j) ∧ gi y' 61 31 = n32 (nx b N p) ∧ gi y' 61 32 = n32 (st b N p) ∧ gi y' 61 33 = (tok b N p).m ∧ (∀ v, tok b N p = TK.num v → gi y' 61 34 = v) ∧ (∀ k, k < 6 → tok b N p = TK.att k → gi y' 61 34 = n32 k) ∧ ∀ k, k < 3 → tok b N p = TK.nam k → gi y' 61 34 = n32 k
theorem run_1 {f : Nat → Bool} {k p : Nat} (h : f p = true) (hk : 0 < k) : p + 1 ≤ run f k p := by
  obtain ⟨k, rfl⟩ : ∃ w, k = w + 1 := ⟨k - 1, by omega⟩
  rw [run, if_pos h]
  exact (run_b f k (p + 1)).1
theorem st_b {b : Nat → Int32} {N p : Nat} (hp : p ≤ N) : p ≤ st b N p ∧ st b N p ≤ N := by
  have := run_b (fb b N) (N - p) p
  unfold st; omega
theorem nx_b {b : Nat → Int32} {N p : Nat} (hp : p ≤ N) : st b N p ≤ nx b N p ∧ nx b N p ≤ N ∧ (st b N p < N → st b N p < nx b N p) := by
  have hs := (st_b (b := b) hp).2
  unfold nx tkAt
  generalize st b N p = s at *
  have h1 := run_b (fl b N) (N - s) s
  have h2 := run_b (fd b N) (N - s) s
  by_cases c : s < N
  · rw [if_pos c]
    by_cases c1 : fl b N s = true
    · rw [if_pos c1]
      have := run_1 (k := N - s) c1 (by omega)
      show s ≤ run (fl b N) (N - s) s ∧ run (fl b N) (N - s) s ≤ N ∧ (s < N → s < run (fl b N) (N - s) s)
      omega
    · rw [if_neg c1]
      by_cases c2 : fd b N s = true
      · rw [if_pos c2]
        have := run_1 (k := N - s) c2 (by omega)
        show s ≤ run (fd b N) (N - s) s ∧ run (fd b N) (N - s) s ≤ N ∧ (s < N → s < run (fd b N) (N - s) s)
        omega
      · rw [if_neg c2]
        show s ≤ s + 1 ∧ s + 1 ≤ N ∧ (s < N → s < s + 1)
        omega
  · rw [if_neg c]
    show s ≤ s ∧ s ≤ N ∧ (s < N → s < s)
    omega
theorem tok_fin {b : Nat → Int32} {N p : Nat} (h : ¬ st b N p < N) : tok b N p = TK.fin := by
  unfold tok tkAt; rw [if_neg h]
theorem nvf_b {b : Nat → Int32} : ∀ (c p : Nat) (v : Int32) (B : Int), (∀ j, j < c → 48 ≤ (b (p + j)).toInt ∧ (b (p + j)).toInt ≤ 57) → 0 ≤ v.toInt → v.toInt ≤ B → 0 ≤ B → (B + 1) * 10 ^ c ≤ 10000 → 0 ≤ (nvf b c p v).toInt ∧ (nvf b c p v).toInt ≤ 9999 := by
  intro c
  induction c with
  | zero => intro p v B _ h0 h1 h2 h3; rw [nvf]; omega
  | succ c ih =>
    intro p v B h h0 h1 h2 h3
    have hb := h 0 (by omega)
    rw [Nat.add_zero] at hb
    have hp : (10 : Int) ^ (c + 1) = 10 ^ c * 10 := Int.pow_succ _ _
    have hq : 1 ≤ (10 : Int) ^ c := Int.pow_pos (by omega)
    have hB : (B + 1) * 10 ^ (c + 1) = (B * 10 + 9 + 1) * 10 ^ c := by
      rw [hp, show B * 10 + 9 + 1 = (B + 1) * 10 from by omega, Int.mul_assoc, Int.mul_comm (10 ^ c) 10]
    have hB1 : B * 10 + 10 ≤ 10000 := by
      have : (B * 10 + 9 + 1) * 1 ≤ (B * 10 + 9 + 1) * 10 ^ c := Int.mul_le_mul_of_nonneg_left hq (by omega)
      omega
    have e1 : (v * 10).toInt = v.toInt * 10 := by rw [i32_mul, z_10] <;> rw [z_10] <;> omega
    have e2 : (v * 10 + b p).toInt = v.toInt * 10 + (b p).toInt := by rw [i32_add, e1] <;> rw [e1] <;> omega
    have e3 : (v * 10 + b p - 48).toInt = v.toInt * 10 + (b p).toInt - 48 := by rw [i32_sub, e2, z_48] <;> rw [e2, z_48] <;> omega
    rw [nvf]
    refine ih (p + 1) _ (B * 10 + 9) (fun j hj => ?_) (by omega) (by omega) (by omega) (by omega)
    have := h (j + 1) (by omega)
    rw [show p + 1 + j = p + (j + 1) from by omega]; exact this
theorem fl_b {b : Nat → Int32} {N p : Nat} (h : fl b N p = true) : p < N ∧ 97 ≤ (b p).toInt ∧ (b p).toInt ≤ 122 := by
  unfold fl at h
  rw [Bool.and_eq_true, decide_eq_true_iff, wi_t, z_97, z_122] at h
  exact ⟨h.1, h.2⟩
theorem fd_b {b : Nat → Int32} {N p : Nat} (h : fd b N p = true) : p < N ∧ 48 ≤ (b p).toInt ∧ (b p).toInt ≤ 57 := by
  unfold fd at h
  rw [Bool.and_eq_true, decide_eq_true_iff, wi_t, z_48, z_57] at h
  exact ⟨h.1, h.2⟩
theorem wd_nn {f : Nat → Bool} {w : Int32} (hw : wdTK f = TK.num w) : False := by
  unfold wdTK at hw
  by_cases g1 : f 1 = true
  · rw [if_pos g1] at hw; exact absurd (congrArg Prod.fst hw) (Nat.ne_of_beq_eq_false rfl)
  rw [if_neg g1] at hw
  by_cases g2 : f 2 = true
  · rw [if_pos g2] at hw; exact absurd (congrArg Prod.fst hw) (Nat.ne_of_beq_eq_false rfl)
  rw [if_neg g2] at hw
  by_cases g3 : f 3 = true
  · rw [if_pos g3] at hw; exact absurd (congrArg Prod.fst hw) (Nat.ne_of_beq_eq_false rfl)
  rw [if_neg g3] at hw
  by_cases g4 : f 4 = true
  · rw [if_pos g4] at hw; exact absurd (congrArg Prod.fst hw) (Nat.ne_of_beq_eq_false rfl)
  rw [if_neg g4] at hw
  by_cases g5 : f 5 = true
  · rw [if_pos g5] at hw; exact absurd (congrArg Prod.fst hw) (Nat.ne_of_beq_eq_false rfl)
  rw [if_neg g5] at hw
  by_cases g6 : f 6 = true
  · rw [if_pos g6] at hw; exact absurd (congrArg Prod.fst hw) (Nat.ne_of_beq_eq_false rfl)
  rw [if_neg g6] at hw
  by_cases g7 : f 7 = true
  · rw [if_pos g7] at hw; exact absurd (congrArg Prod.fst hw) (Nat.ne_of_beq_eq_false rfl)
  rw [if_neg g7] at hw
  by_cases g8 : f 8 = true
  · rw [if_pos g8] at hw; exact absurd (congrArg Prod.fst hw) (Nat.ne_of_beq_eq_false rfl)
  rw [if_neg g8] at hw
  by_cases g9 : f 9 = true
  · rw [if_pos g9] at hw; exact absurd (congrArg Prod.fst hw) (Nat.ne_of_beq_eq_false rfl)
  rw [if_neg g9] at hw
  by_cases g10 : f 10 = true
  · rw [if_pos g10] at hw; exact absurd (congrArg Prod.fst hw) (Nat.ne_of_beq_eq_false rfl)
  rw [if_neg g10] at hw
  by_cases g11 : f 11 = true
  · rw [if_pos g11] at hw; exact absurd (congrArg Prod.fst hw) (Nat.ne_of_beq_eq_false rfl)
  rw [if_neg g11] at hw
  by_cases g12 : f 12 = true
  · rw [if_pos g12] at hw; exact absurd (congrArg Prod.fst hw) (Nat.ne_of_beq_eq_false rfl)
  rw [if_neg g12] at hw
  exact absurd (congrArg Prod.fst hw) (Nat.ne_of_beq_eq_false rfl)
theorem X_adv {b : Nat → Int32} {N : Nat} (hB : BB b N) {x : CS} {p : Nat} (hT : TBx b N x) (h5 : gi x 26 5 < 0) (h7 : gi x 26 7 = n32 p) (hp : p ≤ N) : ∃ x', f_X6_advance x = some x' ∧ XT b N x x' p := by
  have hN := hB.1
  obtain ⟨x1, a1, a2, a3⟩ := X_blank hB (N - p) p 1000 0 x (by omega) (by omega) (by omega) hT h7
  have a3 : gi x1 26 7 = n32 (st b N p) := a3
  unfold f_X6_advance
  rw [if_pos h5, show f_X6_advance_10 1000 x 0 = _ from a1]
  have hs := st_b (b := b) hp
  unfold XT tok nx tkAt f_X6_advance_59
  generalize st b N p = s at *
  have hx2 : ∀ j, j ≠ 9 → gi (pi x1 26 9 (gi x1 26 7)) 26 j = gi x1 26 j := fun j hj => gp_j _ _ _ hj
  have h29 : gi (pi x1 26 9 (gi x1 26 7)) 26 9 = n32 s := by rw [gp_eq]; exact a3
  have h2q : ∀ q, q ≠ 26 → (pi x1 26 9 (gi x1 26 7)).1 q = x.1 q := fun q hq => (pi1_q _ _ _ hq).trans (a2.1 q hq)
  have h2s : (pi x1 26 9 (gi x1 26 7)).2 = x.2 := a2.2.1
  generalize pi x1 26 9 (gi x1 26 7) = x2 at *
  have h27 : gi x2 26 7 = n32 s := (hx2 7 (by omega)).trans a3
  have h2j : ∀ j, j < 7 → gi x2 26 j = gi x 26 j := fun j hj => (hx2 j (by omega)).trans (a2.2.2 j (by omega) (by omega))
  have hT2 : TBx b N x2 := ⟨by rw [h2j 1 (by omega)]; exact hT.1, fun i hi => by rw [gi_of (h2q 27 (by omega))]; exact hT.2 i hi⟩
  clear hx2
  rw [h27, X_byte hB hT2 (by omega), Option.bind_some, lt_bA, dg_bA]
  by_cases cs : s < N
  · have e : bA b N s = b s := if_pos cs
    have hb0 := hB.2 s cs
    rw [if_pos cs, e, if_pos (show (0 : Int32) ≤ b s from i32_le.mpr (by rw [z_0]; omega))]
    cases c1 : fl b N s
    · rw [if_pos b2i_f, if_neg Bool.false_ne_true]
      cases c2 : fd b N s
      · rw [if_pos b2i_f, if_neg Bool.false_ne_true]
        have ei : ∀ v, (f_X6_advance_275 (pi x2 26 7 (n32 s + 1)) v) = some (pi (pi x2 26 7 (n32 s + 1)) 26 8 v) := fun v => rfl
        have fin : ∀ v, sgTK (b s) = TK.num v → False := fun v hv => by
          unfold sgTK at hv
          repeat' split at hv
          all_goals exact absurd (congrArg Prod.fst hv) (Nat.ne_of_beq_eq_false rfl)
        have W : ∀ v, v = (sgTK (b s)).c → ∃ x', some (pi (pi x2 26 7 (n32 s + 1)) 26 8 v) = some x' ∧ (∀ q, q ≠ 26 → x'.1 q = x.1 q) ∧ x'.2 = x.2 ∧ (∀ j, j < 7 → gi x' 26 j = gi x 26 j) ∧ gi x' 26 7 = n32 (s + 1) ∧ gi x' 26 9 = n32 s ∧ gi x' 26 8 = (sgTK (b s)).c ∧ ∀ v, sgTK (b s) = TK.num v → gi x' 26 10 = v := fun v hv =>
          ⟨_, rfl, fun q hq => by rw [pi1_q _ _ _ hq, pi1_q _ _ _ hq]; exact h2q q hq, h2s, fun j hj => by rw [gp_j _ _ _ (by omega), gp_j _ _ _ (by omega)]; exact h2j j hj, by rw [gp_j _ _ _ (by omega), gp_eq, n_inc], by rw [gp_j _ _ _ (by omega), gp_j _ _ _ (by omega)]; exact h29, by rw [gp_eq, hv], fun v hv => absurd hv (fin v)⟩
        have es : (if (b2i (f_X6_isSign (b s))) = 0 then some (pi (pi x2 26 7 (n32 s + 1)) 26 8 308) else some (pi (pi x2 26 7 (n32 s + 1)) 26 8 (b s))) = some (pi (pi x2 26 7 (n32 s + 1)) 26 8 (sgTK (b s)).c) := by
          unfold f_X6_isSign f_X6_isSign_48 sgTK
          by_cases g1 : b s = 40
          · rw [if_pos g1, if_pos g1, if_neg bt, g1]; rfl
          rw [if_neg g1, if_neg g1]
          by_cases g2 : b s = 41
          · rw [if_pos g2, if_pos g2, if_neg bt, g2]; rfl
          rw [if_neg g2, if_neg g2]
          by_cases g3 : b s = 59
          · rw [if_pos g3, if_pos g3, if_neg bt, g3]; rfl
          rw [if_neg g3, if_neg g3]
          by_cases g4 : b s = 43
          · rw [if_pos g4, if_pos g4, if_neg bt, g4]; rfl
          rw [if_neg g4, if_neg g4]
          by_cases g5 : b s = 45
          · rw [if_pos g5, if_pos g5, if_neg bt, g5]; rfl
          rw [if_neg g5, if_neg g5]
          by_cases g6 : b s = 42
          · rw [if_pos g6, if_pos g6, if_neg bt, g6]; rfl
          rw [if_neg g6, if_neg g6]
          by_cases g7 : b s = 60
          · rw [if_pos g7, if_pos g7, if_neg bt, g7]; rfl
          rw [if_neg g7, if_neg g7]
          by_cases g8 : b s = 61
          · rw [if_pos g8, if_pos g8, if_neg bt, g8]; rfl
          rw [if_neg g8, if_neg g8]
          rfl
        rw [ei, ei, es]
        exact W _ rfl
      · rw [if_neg bt, if_pos rfl]
        obtain ⟨x3, d1, d2, d3, d4⟩ := X_digs hB (N - s) s 1000 0 (pi x2 26 10 0) 0 (by omega) (by omega) (by omega) (TBx_7 hT2 (X7_p _ _ (Or.inr rfl))) (by rw [gp_j _ _ _ (by omega)]; exact h27) (by rw [gp_eq])
        rw [show f_X6_advance_161 1000 (pi x2 26 10 0) 0 = _ from d1]
        have hr := run_b (fd b N) (N - s) s
        generalize run (fd b N) (N - s) s = e at *
        have d9 : gi x3 26 9 = n32 s := by rw [d2.2.2 9 (by omega) (by omega), gp_j _ _ _ (by omega)]; exact h29
        unfold f_X6_advance_221 f_X6_advance_244
        rw [d3, d9, n32_sub (by omega)]
        have F : ∀ (v : Int32) (t : TK), v = t.c → (∀ w, t = TK.num w → gi x3 26 10 = w) → ∃ x', some (pi x3 26 8 v) = some x' ∧ (∀ q, q ≠ 26 → x'.1 q = x.1 q) ∧ x'.2 = x.2 ∧ (∀ j, j < 7 → gi x' 26 j = gi x 26 j) ∧ gi x' 26 7 = n32 e ∧ gi x' 26 9 = n32 s ∧ gi x' 26 8 = t.c ∧ ∀ v, t = TK.num v → gi x' 26 10 = v := fun v t hv hw =>
          ⟨_, rfl, fun q hq => by rw [pi1_q _ _ _ hq, d2.1 q hq, pi1_q _ _ _ hq]; exact h2q q hq, d2.2.1.trans h2s, fun j hj => by rw [gp_j _ _ _ (by omega), d2.2.2 j (by omega) (by omega), gp_j _ _ _ (by omega)]; exact h2j j hj, by rw [gp_j _ _ _ (by omega)]; exact d3, by rw [gp_j _ _ _ (by omega)]; exact d9, by rw [gp_eq, hv], fun w hw2 => by rw [gp_j _ _ _ (by omega)]; exact hw w hw2⟩
        by_cases c4 : e - s ≤ 4
        · rw [if_pos (show n32 (e - s) ≤ (4 : Int32) from n_le (j := 4) c4 (by omega)), if_pos c4]
          exact F _ _ rfl (fun w hw => d4.trans (congrArg Prod.snd hw))
        · rw [if_neg (show ¬ n32 (e - s) ≤ (4 : Int32) from n_nle (j := 4) (by omega) (by omega)), if_neg c4]
          exact F _ _ rfl (fun w hw => absurd (congrArg Prod.fst hw) (Nat.ne_of_beq_eq_false rfl))
    · rw [if_neg bt, if_pos rfl]
      obtain ⟨x3, d1, d2, d3⟩ := X_lets hB (N - s) s 1000 0 x2 (by omega) (by omega) (by omega) hT2 h27
      rw [show f_X6_advance_99 1000 x2 0 = _ from d1]
      have hr := run_b (fl b N) (N - s) s
      have hall := run_all (fl b N) (N - s) s
      generalize run (fl b N) (N - s) s = e at *
      have d9 : gi x3 26 9 = n32 s := by rw [d2.2.2 9 (by omega) (by omega)]; exact h29
      unfold f_X6_advance_136
      rw [X_word hB (TBx_7 hT2 d2) (s := s) (c := e - s) (by rw [d3, show s + (e - s) = e from by omega]) d9 (by omega), Option.bind_some]
      refine ⟨_, rfl, fun q hq => by rw [pi1_q _ _ _ hq, d2.1 q hq]; exact h2q q hq, d2.2.1.trans h2s, fun j hj => by rw [gp_j _ _ _ (by omega), d2.2.2 j (by omega) (by omega)]; exact h2j j hj, by rw [gp_j _ _ _ (by omega)]; exact d3, by rw [gp_j _ _ _ (by omega)]; exact d9, by rw [gp_eq], fun w hw => ?_⟩
      exact (wd_nn hw).elim
  · have e : bA b N s = -1 := if_neg cs
    rw [if_neg cs, e, if_neg (show ¬ (0 : Int32) ≤ -1 by decide)]
    exact ⟨_, rfl, fun q hq => by rw [pi1_q _ _ _ hq]; exact h2q q hq, h2s, fun j hj => by rw [gp_j _ _ _ (by omega)]; exact h2j j hj, by rw [gp_j _ _ _ (by omega)]; exact h27, by rw [gp_j _ _ _ (by omega)]; exact h29, by rw [gp_eq]; rfl, fun w hw => absurd (congrArg Prod.fst hw) (Nat.ne_of_beq_eq_false rfl)⟩
theorem sg_ok (c : Int32) : (sgTK c).ok ∧ (∀ v, sgTK c ≠ TK.num v) ∧ (∀ k, sgTK c ≠ TK.att k) ∧ (∀ k, sgTK c ≠ TK.nam k) := by
  unfold sgTK
  repeat' split
  all_goals
    refine ⟨by unfold TK.ok; simp, fun v q => ?_, fun v q => ?_, fun v q => ?_⟩
  all_goals exact absurd (congrArg Prod.fst q) (Nat.ne_of_beq_eq_false rfl)
theorem M_nxt {b : Nat → Int32} {N : Nat} (hB : BB b N) {y : MS} {p : Nat} (hT : TBy b N y) (h7 : gi y 61 31 = n32 p) (hp : p ≤ N) : (tok b N p).ok ∧ ∃ y', f_X11_next y = some y' ∧ YT b N y y' p := by
  have hN := hB.1
  obtain ⟨y1, a1, a2, a3, _⟩ := M_blank hB (N - p) p 1000 y (by omega) (by omega) hT h7
  have a3 : gi y1 61 31 = n32 (st b N p) := a3
  unfold f_X11_next
  rw [a1]
  have hs := st_b (b := b) hp
  unfold YT tok nx tkAt f_X11_next_52
  generalize st b N p = s at *
  have hx2 : ∀ j, j ≠ 32 → j ≠ 33 → j ≠ 34 → gi (pi (pi (pi y1 61 32 (gi y1 61 31)) 61 33 0) 61 34 0) 61 j = gi y1 61 j := fun j h1 h2 h3 => by rw [gp_j _ _ _ h3, gp_j _ _ _ h2, gp_j _ _ _ h1]
  have h29 : gi (pi (pi (pi y1 61 32 (gi y1 61 31)) 61 33 0) 61 34 0) 61 32 = n32 s := by rw [gp_j _ _ _ (by omega), gp_j _ _ _ (by omega), gp_eq]; exact a3
  have h33 : gi (pi (pi (pi y1 61 32 (gi y1 61 31)) 61 33 0) 61 34 0) 61 33 = 0 := by rw [gp_j _ _ _ (by omega), gp_eq]
  have h34 : gi (pi (pi (pi y1 61 32 (gi y1 61 31)) 61 33 0) 61 34 0) 61 34 = 0 := by rw [gp_eq]
  have h2q : ∀ q, q ≠ 61 → (pi (pi (pi y1 61 32 (gi y1 61 31)) 61 33 0) 61 34 0).1 q = y.1 q := fun q hq => by rw [pi1_q _ _ _ hq, pi1_q _ _ _ hq, pi1_q _ _ _ hq]; exact a2.1 q hq
  have h2s : (pi (pi (pi y1 61 32 (gi y1 61 31)) 61 33 0) 61 34 0).2 = y.2 := a2.2.1
  generalize pi (pi (pi y1 61 32 (gi y1 61 31)) 61 33 0) 61 34 0 = y2 at *
  have h27 : gi y2 61 31 = n32 s := (hx2 31 (by omega) (by omega) (by omega)).trans a3
  have h2j : ∀ j, (j < 31 ∨ 34 < j) → gi y2 61 j = gi y 61 j := fun j hj => (hx2 j (by omega) (by omega) (by omega)).trans (a2.2.2 j (by omega) (by omega))
  have hT2 : TBy b N y2 := ⟨by rw [h2j 17 (by omega)]; exact hT.1, fun i hi => by rw [gi_of (h2q 71 (by omega))]; exact hT.2 i hi⟩
  clear hx2
  rw [h27, hT2.1]
  by_cases cs : s < N
  · have hb0 := hB.2 s cs
    have ne1 : ¬ n32 s = n32 N := fun q => by have := (n32_inj (by omega) (by omega)).mp q; omega
    rw [if_pos cs, if_neg ne1, gd_t (ib_n (by omega) (by omega)), n32_nat (by omega), hT2.2 s cs, in_wi, in_wi]
    have e1 : f_X10_within (b s) 97 122 = fl b N s := by unfold fl; rw [decide_eq_true cs]; rfl
    have e2 : f_X10_within (b s) 48 57 = fd b N s := by unfold fd; rw [decide_eq_true cs]; rfl
    rw [e1, e2]
    cases c1 : fl b N s
    · rw [if_pos b2i_f, if_neg Bool.false_ne_true]
      cases c2 : fd b N s
      · rw [if_pos b2i_f, if_neg Bool.false_ne_true]
        obtain ⟨k1, k2, k3, k4⟩ := sg_ok (b s)
        have es : (if b s = 40 then f_X11_next_358 y2 (b s) else if b s = 41 then f_X11_next_358 y2 (b s) else if b s = 59 then f_X11_next_358 y2 (b s) else if b s = 43 then f_X11_next_358 y2 (b s) else if b s = 45 then f_X11_next_358 y2 (b s) else if b s = 42 then f_X11_next_358 y2 (b s) else if b s = 60 then f_X11_next_358 y2 (b s) else if b s = 61 then f_X11_next_358 y2 (b s) else f_X11_next_363 y2 (b s) 0) = some (pi (pi y2 61 33 (sgTK (b s)).m) 61 31 ((gi (pi y2 61 33 (sgTK (b s)).m) 61 31) + 1)) := by
          unfold sgTK
          by_cases g1 : b s = 40
          · rw [if_pos g1, if_pos g1, g1]; rfl
          rw [if_neg g1, if_neg g1]
          by_cases g2 : b s = 41
          · rw [if_pos g2, if_pos g2, g2]; rfl
          rw [if_neg g2, if_neg g2]
          by_cases g3 : b s = 59
          · rw [if_pos g3, if_pos g3, g3]; rfl
          rw [if_neg g3, if_neg g3]
          by_cases g4 : b s = 43
          · rw [if_pos g4, if_pos g4, g4]; rfl
          rw [if_neg g4, if_neg g4]
          by_cases g5 : b s = 45
          · rw [if_pos g5, if_pos g5, g5]; rfl
          rw [if_neg g5, if_neg g5]
          by_cases g6 : b s = 42
          · rw [if_pos g6, if_pos g6, g6]; rfl
          rw [if_neg g6, if_neg g6]
          by_cases g7 : b s = 60
          · rw [if_pos g7, if_pos g7, g7]; rfl
          rw [if_neg g7, if_neg g7]
          by_cases g8 : b s = 61
          · rw [if_pos g8, if_pos g8, g8]; rfl
          rw [if_neg g8, if_neg g8]
          rfl
        rw [es, gp_j _ _ _ (by omega), h27, n_inc]
        refine ⟨k1, _, rfl, fun q hq => by rw [pi1_q _ _ _ hq, pi1_q _ _ _ hq]; exact h2q q hq, h2s, fun j hj => by rw [gp_j _ _ _ (by omega), gp_j _ _ _ (by omega)]; exact h2j j hj, by rw [gp_eq], by rw [gp_j _ _ _ (by omega), gp_j _ _ _ (by omega)]; exact h29, by rw [gp_j _ _ _ (by omega), gp_eq], fun v hv => absurd hv (k2 v), fun k _ hv => absurd hv (k3 k), fun k _ hv => absurd hv (k4 k)⟩
      · rw [if_neg bt, if_pos rfl]
        obtain ⟨y3, d1, d2, d3, d4⟩ := M_digs hB (N - s) s 1000 0 y2 0 (by omega) (by omega) (by omega) hT2 h27 h34
        rw [show f_X11_next_214 1000 y2 0 = _ from d1]
        have hr := run_b (fd b N) (N - s) s
        have hall := run_all (fd b N) (N - s) s
        generalize run (fd b N) (N - s) s = e at *
        unfold f_X11_next_293 f_X11_next_304
        rw [Nat.zero_add]
        rw [Nat.zero_add] at d4
        have F : ∀ (v : Int32) (t : TK), v = t.m → (∀ w, t = TK.num w → gi y3 61 34 = w) → (∀ k, t ≠ TK.att k) → (∀ k, t ≠ TK.nam k) → ∃ y', some (pi y3 61 33 v) = some y' ∧ (∀ q, q ≠ 61 → y'.1 q = y.1 q) ∧ y'.2 = y.2 ∧ (∀ j, (j < 31 ∨ 34 < j) → gi y' 61 j = gi y 61 j) ∧ gi y' 61 31 = n32 e ∧ gi y' 61 32 = n32 s ∧ gi y' 61 33 = t.m ∧ (∀ v, t = TK.num v → gi y' 61 34 = v) ∧ (∀ k, k < 6 → t = TK.att k → gi y' 61 34 = n32 k) ∧ ∀ k, k < 3 → t = TK.nam k → gi y' 61 34 = n32 k := fun v t hv hw n1 n2 =>
          ⟨_, rfl, fun q hq => by rw [pi1_q _ _ _ hq, d2.1 q hq]; exact h2q q hq, d2.2.1.trans h2s, fun j hj => by rw [gp_j _ _ _ (by omega), d2.2.2 j (by omega) (by omega)]; exact h2j j hj, by rw [gp_j _ _ _ (by omega)]; exact d3, by rw [gp_j _ _ _ (by omega), d2.2.2 32 (by omega) (by omega)]; exact h29, by rw [gp_eq, hv], fun w hw2 => by rw [gp_j _ _ _ (by omega)]; exact hw w hw2, fun k _ q => absurd q (n1 k), fun k _ q => absurd q (n2 k)⟩
        by_cases c4 : e - s ≤ 4
        · rw [if_pos (show n32 (e - s) ≤ (4 : Int32) from n_le (j := 4) c4 (by omega)), if_pos c4]
          have hd : ∀ j, j < e - s → 48 ≤ (b (s + j)).toInt ∧ (b (s + j)).toInt ≤ 57 := fun j hj => (fd_b (hall (s + j) (by omega) (by omega))).2
          have hpw : (0 + 1) * (10 : Int) ^ (e - s) ≤ 10000 := by
            rcases (by omega : e - s = 0 ∨ e - s = 1 ∨ e - s = 2 ∨ e - s = 3 ∨ e - s = 4) with q | q | q | q | q <;> rw [q] <;> decide
          have hv := nvf_b (b := b) (e - s) s 0 0 hd (by rw [z_0]; omega) (by rw [z_0]; omega) (by omega) hpw
          exact ⟨Or.inr (Or.inl ⟨_, rfl, hv.1, hv.2⟩), F _ _ rfl (fun w hw => (d4 c4).trans (congrArg Prod.snd hw)) (fun k q => absurd (congrArg Prod.fst q) (Nat.ne_of_beq_eq_false rfl)) (fun k q => absurd (congrArg Prod.fst q) (Nat.ne_of_beq_eq_false rfl))⟩
        · rw [if_neg (show ¬ n32 (e - s) ≤ (4 : Int32) from n_nle (j := 4) (by omega) (by omega)), if_neg c4]
          exact ⟨by unfold TK.ok; simp, F _ _ rfl (fun w hw => absurd (congrArg Prod.fst hw) (Nat.ne_of_beq_eq_false rfl)) (fun k q => absurd (congrArg Prod.fst q) (Nat.ne_of_beq_eq_false rfl)) (fun k q => absurd (congrArg Prod.fst q) (Nat.ne_of_beq_eq_false rfl))⟩
    · rw [if_neg bt, if_pos rfl]
      obtain ⟨y3, A, d1, d2, d3, d4, d5⟩ := M_lets hB (N - s) s 1000 0 y2 0 (by omega) (by omega) (by omega) hT2 h27
      unfold f_X11_letters
      rw [show f_X11_letters_4 1000 y2 0 0 = _ from d1]
      have hr := run_b (fl b N) (N - s) s
      have hall := run_all (fl b N) (N - s) s
      generalize run (fl b N) (N - s) s = e at *
      rw [Nat.zero_add] at *
      have hd : ∀ j, j < e - s → 1 ≤ (b (s + j)).toInt ∧ (b (s + j)).toInt ≤ 255 := fun j hj => by
        have := (fl_b (hall (s + j) (by omega) (by omega))).2; omega
      have W : ∀ A', (e - s ≤ 5 → A' = pwf b (e - s) s 0) → (5 < e - s → A' = 0) → (wdTK (wm b s (e - s))).ok ∧ ∃ y', f_X11_next_111 1000 y3 A' 0 = some y' ∧ (∀ q, q ≠ 61 → y'.1 q = y.1 q) ∧ y'.2 = y.2 ∧ (∀ j, (j < 31 ∨ 34 < j) → gi y' 61 j = gi y 61 j) ∧ gi y' 61 31 = n32 e ∧ gi y' 61 32 = n32 s ∧ gi y' 61 33 = (wdTK (wm b s (e - s))).m ∧ (∀ v, wdTK (wm b s (e - s)) = TK.num v → gi y' 61 34 = v) ∧ (∀ k, k < 6 → wdTK (wm b s (e - s)) = TK.att k → gi y' 61 34 = n32 k) ∧ ∀ k, k < 3 → wdTK (wm b s (e - s)) = TK.nam k → gi y' 61 34 = n32 k := by
        intro A' h5 h6
        obtain ⟨v, w1, w2, w3, w4⟩ := M_word (Y := y3) hd h5 h6
        refine ⟨w4, _, w1, fun q hq => by rw [pi1_q _ _ _ hq, pi1_q _ _ _ hq, d2.1 q hq]; exact h2q q hq, d2.2.1.trans h2s, fun j hj => by rw [gp_j _ _ _ (by omega), gp_j _ _ _ (by omega), d2.2.2 j (by omega) (by omega)]; exact h2j j hj, by rw [gp_j _ _ _ (by omega), gp_j _ _ _ (by omega)]; exact d3, by rw [gp_j _ _ _ (by omega), gp_j _ _ _ (by omega), d2.2.2 32 (by omega) (by omega)]; exact h29, by rw [gp_j _ _ _ (by omega), gp_eq], fun w hw => (wd_nn hw).elim, fun k hk q => by rw [gp_eq]; exact w2 k hk q, fun k hk q => by rw [gp_eq]; exact w3 k hk q⟩
      unfold f_X11_letters_76
      by_cases c5 : e - s ≤ 5
      · rw [if_pos (show n32 (e - s) ≤ (5 : Int32) from n_le (j := 5) c5 (by omega)), Option.bind_some]
        exact W A (fun _ => d5 (by omega)) (fun q => by omega)
      · rw [if_neg (show ¬ n32 (e - s) ≤ (5 : Int32) from n_nle (j := 5) (by omega) (by omega)), Option.bind_some]
        exact W 0 (fun q => absurd q c5) (fun _ => rfl)
  · have e : s = N := by omega
    rw [if_neg cs, if_pos (show n32 s = n32 N by rw [e])]
    exact ⟨Or.inl rfl, _, rfl, h2q, h2s, h2j, h27, h29, h33, fun v q => absurd (congrArg Prod.fst q) (Nat.ne_of_beq_eq_false rfl), fun v _ q => absurd (congrArg Prod.fst q) (Nat.ne_of_beq_eq_false rfl), fun v _ q => absurd (congrArg Prod.fst q) (Nat.ne_of_beq_eq_false rfl)⟩
