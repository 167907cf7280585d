/-! ===== pure: odds, far, stop, by calls ===== -/
theorem XE_tr {x y z : CS} (h1 : XE x y) (h2 : XE y z) : XE x z := ⟨h2.1.trans h1.1, Nat.le_trans h1.2.1 h2.2.1, fun q hq => by rw [h2.2.2 q (by have := h1.2.1; omega)]; exact h1.2.2 q hq⟩
theorem XF_mk {x x1 x2 : CS} (h1 : XF x x1) (h2 : XE x1 x2) (h3 : x2.1 = x1.1) : XF x x2 := ⟨fun q a b c => by rw [h3]; exact h1.1 q a b c, XE_tr h1.2 h2⟩
theorem M_sound {x : CS} {y y1 : MS} {m : Nat → Int32} {sp : Nat → Nat} {cv : CV} {N nn : Nat} {kd sec mo : Nat → Nat} {i v : Nat} (c : CTX x y m sp cv N kd sec mo) (hnn : nn ≤ N) (hf : FrM y y1) (hi : i ≤ 12) (hv : v ≤ 5) : wp (f_X11_soundOf y1 (n32 nn) (n32 i) (n32 v)) (fun r => r.1 = n32 (cnt (fun k => decide (hB (sInches (qM y m sp) cv k i (hul m sp (gi y 61 1) (gi y 61 2) (gi y 61 3) cv kd sec mo nn)) &&& (hB (hul m sp (gi y 61 1) (gi y 61 2) (gi y 61 3) cv kd sec mo nn) ^^^ (-1)) = 0)) (2 * v + 1) (-(v : Int)) 0) ∧ FrM y r.2) := by
  generalize hp : (fun k => decide (hB (sInches (qM y m sp) cv k i (hul m sp (gi y 61 1) (gi y 61 2) (gi y 61 3) cv kd sec mo nn)) &&& (hB (hul m sp (gi y 61 1) (gi y 61 2) (gi y 61 3) cv kd sec mo nn) ^^^ (-1)) = 0)) = p
  have key : ∀ (j : Nat) (k : Int) (a n : Nat) (y1 : MS), k + j = (v : Int) + 1 → -5 ≤ k → j < n → FrM y y1 → wp (f_X11_soundOf_7 n y1 (n32 nn) (n32 i) (n32 v) (n32 a) (k32 k)) (fun r => r.1 = n32 (cnt p j k a) ∧ FrM y r.2) := by
    intro j
    induction j with
    | zero =>
      intro k a n y1 hk h5 hn hf
      obtain ⟨n, rfl⟩ : ∃ w, n = w + 1 := ⟨n - 1, by omega⟩
      rw [f_X11_soundOf_7]
      exact wp_t (i32_lt.mpr (by rw [n32_int (by omega), k32_int (by omega) (by omega)]; omega)) (wp_s ⟨rfl, hf⟩)
    | succ j ih =>
      intro k a n y1 hk h5 hn hf
      obtain ⟨n, rfl⟩ : ∃ w, n = w + 1 := ⟨n - 1, by omega⟩
      rw [f_X11_soundOf_7, cnt]
      unfold f_X11_soundOf_31
      refine wp_e (fun q => by rw [i32_lt, n32_int (by omega), k32_int (by omega) (by omega)] at q; omega) ?_
      refine wp_bw (M_cracks c hnn hf (g := k) (k32_int (by omega) (by omega)) (by omega) hi) (fun r hr => ?_)
      obtain ⟨r, y2⟩ := r
      obtain ⟨er, hf2⟩ := hr
      have er : r = _ := er
      rw [k32_inc]
      have ep : p k = decide (r = 0) := by rw [← hp, er]
      refine wp_i (fun cz => ?_) (fun cz => ?_)
      · have cz : r = 0 := cz
        rw [if_pos (by rw [ep]; exact decide_eq_true cz), n_inc]
        exact ih (k + 1) (a + 1) n y2 (by omega) (by omega) (by omega) hf2
      · have cz : ¬ r = 0 := cz
        rw [if_neg (by rw [ep]; simp [cz]), Int32.add_zero]
        exact ih (k + 1) a n y2 (by omega) (by omega) (by omega) hf2
  unfold f_X11_soundOf
  rw [k32_neg]
  exact key (2 * v + 1) (-(v : Int)) 0 1000 y1 (by omega) (by omega) (by omega) hf
theorem X_watch {x0 x : CS} {nm : EX} {h : HS} {e : EX} (hx : HX x0 nm h e x) : HX x0 nm h (e.1, hB h ^^^ (-1), -1000000) (f_X2_watch x) := by
  unfold f_X2_watch
  rw [hx.2.2.2.2.2.1]
  exact HX_e10 (HX_e9 hx)
theorem gn_Fr {x0 x : CS} (h : Fr x0 x) : gn x = gn x0 := by show x.2.2.2.1 = x0.2.2.2.1; rw [h.2]
theorem n64_int {a : Nat} (h : a < 1000000) : (n32 a).toInt64.toInt = (a : Int) := by rw [Int32.toInt_toInt64, n32_int h]
theorem odd_cnt {x : CS} {y : MS} {m : Nat → Int32} {sp : Nat → Nat} {cv : CV} {N : Nat} {kd sec mo : Nat → Nat} (c : CTX x y m sp cv N kd sec mo) {h : HS} {f : Int32} {i v : Nat} (hv : v ≤ 5) : cnt (fun k => decide ((eInches (qM y m sp) cv i h (f, hB h ^^^ (-1), -1000000)).2.2.toInt ≤ 4 * k)) (2 * v + 1) (-(v : Int)) 0 = cnt (fun k => decide (hB (sInches (qM y m sp) cv k i h) &&& (hB h ^^^ (-1)) = 0)) (2 * v + 1) (-(v : Int)) 0 := by
  refine cnt_c (lo := -5) (hi := 5) (fun k h1 h2 => ?_) _ _ _ (by omega) (by omega)
  have := odd_I (Qf_QB m sp (gi y 61 1) (gi y 61 2) (gi y 61 3)) c.2.1.2.2 (g := k) i h h (f, hB h ^^^ (-1), -1000000) ⟨rfl, rfl, rfl, rfl⟩ (by
    have e : (-1000000 : Int32).toInt = -1000000 := rfl
    show (hB h &&& (hB h ^^^ (-1)) = 0 ↔ (-1000000 : Int32).toInt ≤ 4 * k)
    rw [xor_not, e]
    constructor
    · intro _; omega
    · intro _; rfl)
  exact decide_eq_decide.mpr this.symm
theorem s_odds : ∀ (x : CS) (y : MS) (a0 a1 a2 a3 : Int32), PP x y → ∃ (r : Int64) (x1 : CS) (y1 : MS), f_X10_odds x a0 a1 a2 a3 = some (r, x1) ∧ f_X11_odds y a0 a1 a2 a3 = some (r, y1) ∧ PP x1 y1 := by
  intro x y a0 a1 a2 a3 hP
  obtain ⟨m, sp, cv, N, kd, sec, mo, c⟩ := PP_ctx hP
  have hg := hP.1.1
  unfold f_X10_odds f_X11_odds f_X10_odds_27 f_X11_odds_37
  rcases soMany c a0 with ⟨h1, h2⟩ | ⟨h1, h2, nn, hnn, rfl⟩
  · rw [h1, h2]
    exact sim2 hP (-4611686018427387904) (wp_s ⟨rfl, XF_rfl x⟩) (wp_s ⟨rfl, MF_rfl y⟩)
  rw [h1, h2, in_wi, in_wi, in_wi]
  rcases wi_cases a1 0 12 (by decide) with hs | ⟨hs, i, _, hi, rfl⟩
  · rw [hs]
    exact sim2 hP (-4611686018427387904) (wp_e bt (wp_t rfl (wp_s ⟨rfl, XF_rfl x⟩))) (wp_e bt (wp_t rfl (wp_s ⟨rfl, MF_rfl y⟩)))
  rw [hs]
  have hi12 : i ≤ 12 := by rw [z_12] at hi; omega
  rcases wi_cases a2 0 5 (by decide) with hs | ⟨hs, v, _, hv, rfl⟩
  · rw [hs]
    exact sim2 hP (-4611686018427387904) (wp_e bt (wp_e bt (wp_t rfl (wp_s ⟨rfl, XF_rfl x⟩)))) (wp_e bt (wp_e bt (wp_t rfl (wp_s ⟨rfl, MF_rfl y⟩))))
  rw [hs]
  have hv5 : v ≤ 5 := by rw [z_5] at hv; omega
  generalize hK : cnt (fun k => decide (hB (sInches (qM y m sp) cv k i (hul m sp (gi y 61 1) (gi y 61 2) (gi y 61 3) cv kd sec mo nn)) &&& (hB (hul m sp (gi y 61 1) (gi y 61 2) (gi y 61 3) cv kd sec mo nn) ^^^ (-1)) = 0)) (2 * v + 1) (-(v : Int)) 0 = K
  have hK11 : K ≤ 11 := by
    have := (cnt_le (fun k => decide (hB (sInches (qM y m sp) cv k i (hul m sp (gi y 61 1) (gi y 61 2) (gi y 61 3) cv kd sec mo nn)) &&& (hB (hul m sp (gi y 61 1) (gi y 61 2) (gi y 61 3) cv kd sec mo nn) ^^^ (-1)) = 0)) (2 * v + 1) (-(v : Int)) 0).2
    omega
  have eb : (2 * (n32 v).toInt64 + 1 : Int64) = (n32 (2 * v + 1)).toInt64 := by
    have e2 : (2 : Int64).toInt = 2 := rfl
    have e1 : (1 : Int64).toInt = 1 := rfl
    have a1 : (2 * (n32 v).toInt64 : Int64).toInt = 2 * v := by rw [i64_mul, e2, n64_int (by omega)] <;> rw [e2, n64_int (by omega)] <;> omega
    rw [i64_eq, n64_int (by omega), i64_add, a1, e1]
    · omega
    · rw [a1, e1]; omega
    · rw [a1, e1]; omega
  have eb2 : (if (1 : Int64) < (n32 (2 * v + 1)).toInt64 then (n32 (2 * v + 1)).toInt64 else 1) = (n32 (2 * v + 1)).toInt64 := by
    by_cases cc : (1 : Int64) < (n32 (2 * v + 1)).toInt64
    · rw [if_pos cc]
    · rw [if_neg cc]
      have e1 : (1 : Int64).toInt = 1 := rfl
      rw [Int64.lt_iff_toInt_lt, n64_int (by omega), e1] at cc
      rw [i64_eq, n64_int (by omega), e1]; omega
  cases ha3 : f_X10_within a3 0 1
  · refine sim2 hP (-4611686018427387904) (wp_e bt (wp_e bt (wp_e bt ?_))) (wp_e bt (wp_e bt (wp_e bt (wp_t rfl (wp_s ⟨rfl, MF_rfl y⟩)))))
    refine wp_bw (CTX_X c hnn) (fun x1 hx1 => ?_)
    have hx2 := X_watch hx1
    unfold f_X2_spreadBy
    refine wp_bw (X_spread c.1 (mo := i) (by omega) i 0 1000 _ _ _ (by omega) (by omega) hx2) (fun x3 hx3 => ?_)
    have hg3 : 27 ≤ gn x3 := by rw [gn_Fr hx3.1]; exact hg
    refine wp_g (decide_eq_true hg3) (wp_be (X_chances _ hv5) (wp_be (mkF_of hg3 _ _) ?_))
    have e : ∀ z, f_X0_part (mkF x3 z (((2 * n32 v) + 1).toInt64)) (61 + gn x3) a3 = some (-4611686018427387904) := fun z => by
      unfold f_X0_part
      rw [ha3, (mkF_fr hg3 _ _).1]; rfl
    refine wp_be (e _) (wp_s ⟨rfl, XF_mk (HX_XF hx3) (mkF_XE _ _ _).1 (mkF_XE _ _ _).2.1⟩)
  · have hM := M_sound c hnn (FrM_rfl y) hi12 hv5
    rw [hK] at hM
    obtain ⟨⟨r9, y9⟩, m1, m2, m3⟩ := hM
    have m2 : r9 = n32 K := m2
    subst m2
    obtain ⟨x1, ex1, hx1⟩ := CTX_X c hnn
    have hx2 := X_watch hx1
    obtain ⟨x3, ex3, hx3⟩ := X_spread c.1 (mo := i) (by omega) i 0 1000 _ _ _ (by omega) (by omega) hx2
    have hg3 : 27 ≤ gn x3 := by rw [gn_Fr hx3.1]; exact hg
    have hch := X_chances (pal x3 d3) hv5
    have e48 : gi (pal x3 d3) 48 10 = gi x3 48 10 := rfl
    rw [e48, hx3.2.2.2.2.2.2.2.2.2.2] at hch
    have := odd_cnt c (h := hul m sp (gi y 61 1) (gi y 61 2) (gi y 61 3) cv kd sec mo nn) (f := (eHull (qM y m sp) cv false kd sec mo nn 0 (cv 0, cv 1, cv 2, 0, 0, 0) (-1, 0, -1000000)).1) (i := i) hv5
    rw [hK] at this
    rw [this] at hch
    have e21 : (2 * n32 v + 1 : Int32) = n32 (2 * v + 1) := by rw [q_2, n32_mul, n_inc]
    obtain ⟨f1, f2, f3⟩ := mkF_fr hg3 (n32 K).toInt64 (n32 (2 * v + 1)).toInt64
    rw [eb2] at f3
    obtain ⟨r, p1, p2⟩ := part_low f1 f2 f3 (n64_int (a := K) (by omega)) (n64_int (a := 2 * v + 1) (by omega)) (by omega) (by omega) (by omega) ha3
    refine sim2 hP r (wp_e bt (wp_e bt (wp_e bt ?_))) (wp_e bt (wp_e bt (wp_e bt (wp_e bt ?_))))
    · rw [e21]
      unfold f_X2_spreadBy
      refine wp_be ex1 (wp_be ex3 (wp_g (decide_eq_true hg3) (wp_be hch (wp_be (mkF_of hg3 _ _) (wp_be p1 (wp_s ⟨rfl, XF_mk (HX_XF hx3) (mkF_XE _ _ _).1 (mkF_XE _ _ _).2.1⟩))))))
    · rw [eb]
      exact wp_be m1 (wp_be p2 (wp_s ⟨rfl, MF_Fr m3⟩))
theorem in_snoc (q : QF) (cv : CV) (g : Int) : ∀ (n : Nat) (h : HS) (S : Nat), hS h = n32 S → S + n < 12 → sInches q cv g (n + 1) h = sInch q cv g (sInches q cv g n h) ∧ hS (sInches q cv g n h) = n32 (S + n) := by
  intro n
  induction n with
  | zero =>
    intro h S hh hl
    refine ⟨?_, hh⟩
    show (if 12 ≤ hS h then h else sInch q cv g h) = sInch q cv g h
    rw [hh, q_12, if_neg (n_nle (i := 12) (by omega) (by omega))]
  | succ n ih =>
    intro h S hh hl
    have e : ¬ 12 ≤ hS h := by rw [hh]; exact n_nle (i := 12) (by omega) (by omega)
    have hs : hS (sInch q cv g h) = n32 (S + 1) := by
      have : hS (sInch q cv g h) = hS h + 1 := sInA_S q cv g 9 0 (sIn1 h)
      rw [this, hh, n_inc]
    obtain ⟨a, b⟩ := ih (sInch q cv g h) (S + 1) hs (by omega)
    have e2 : sInches q cv g (n + 1) h = sInches q cv g n (sInch q cv g h) := by rw [sInches, if_neg e]
    rw [sInches, if_neg e, a, e2]
    exact ⟨rfl, by rw [b]; congr 1; omega⟩
theorem ei_snoc (q : QF) (cv : CV) : ∀ (n : Nat) (h : HS) (e : EX) (S : Nat), hS h = n32 S → S + n < 12 → eInches q cv (n + 1) h e = eInA q cv 9 0 (sIn1 (sInches q cv 0 n h)) (eInches q cv n h e) := by
  intro n
  induction n with
  | zero =>
    intro h e S hh hl
    show (if 12 ≤ hS h then e else eInA q cv 9 0 (sIn1 h) e) = eInA q cv 9 0 (sIn1 h) e
    rw [hh, q_12, if_neg (n_nle (i := 12) (by omega) (by omega))]
  | succ n ih =>
    intro h e S hh hl
    have c : ¬ 12 ≤ hS h := by rw [hh]; exact n_nle (i := 12) (by omega) (by omega)
    have hs : hS (sInch q cv 0 h) = n32 (S + 1) := by
      have : hS (sInch q cv 0 h) = hS h + 1 := sInA_S q cv 0 9 0 (sIn1 h)
      rw [this, hh, n_inc]
    rw [eInches, if_neg c, ih _ _ (S + 1) hs (by omega)]
    have e2 : sInches q cv 0 (n + 1) h = sInches q cv 0 n (sInch q cv 0 h) := by rw [sInches, if_neg c]
    have e3 : eInches q cv (n + 1) h e = eInches q cv n (sInch q cv 0 h) (eInA q cv 9 0 (sIn1 h) e) := by rw [eInches, if_neg c]
    rw [e2, e3]
theorem hB_mono (q : QF) (cv : CV) (g : Int) : ∀ (k s : Nat) (h : HS), ∃ z, hB (sInA q cv g k s h) = hB h ||| z := by
  intro k
  induction k with
  | zero => intro s h; exact ⟨0, by rw [Int32.or_zero]; rfl⟩
  | succ k ih =>
    intro s h
    obtain ⟨z, hz⟩ := ih (s + 1) (sInS q cv g s h)
    have e : hB (sInS q cv g s h) = if crk q cv g h s = true then hB h ||| bit s else hB h := rfl
    rw [sInA, hz, e]
    split
    · exact ⟨bit s ||| z, by rw [Int32.or_assoc]⟩
    · exact ⟨z, rfl⟩
def fAr (c : Nat → Int32) (U : Nat) : Nat → Nat → Int32
  | 0, _ => n32 U
  | k + 1, i => if c i = 0 then fAr c U k (i + 1) else n32 (i - 1)
def fBr (c : Nat → Int32) : Nat → Nat → Int32 → Int32
  | 0, _, b => b
  | k + 1, i, b => fBr c k (i + 1) (if c i = 0 then n32 i else b)
theorem fBr_st (c : Nat → Int32) : ∀ (k i : Nat) (b : Int32), (∀ j, i ≤ j → j < i + k → ¬ c j = 0) → fBr c k i b = b := by
  intro k
  induction k with
  | zero => intro i b _; rfl
  | succ k ih => intro i b hc; rw [fBr, if_neg (hc i (by omega) (by omega))]; exact ih _ _ (fun j h1 h2 => hc j (by omega) (by omega))
theorem fAB (c : Nat → Int32) (U : Nat) : ∀ (k i : Nat), i + k = U + 1 → 1 ≤ i → (∀ j l, i ≤ j → j ≤ l → l < i + k → c l = 0 → c j = 0) → fAr c U k i = fBr c k i (n32 (i - 1)) := by
  intro k
  induction k with
  | zero => intro i hi h1 _; show n32 U = n32 (i - 1); congr 1; omega
  | succ k ih =>
    intro i hi h1 hm
    rw [fAr, fBr]
    by_cases c0 : c i = 0
    · rw [if_pos c0, if_pos c0]
      have := ih (i + 1) (by omega) (by omega) (fun j l a b d => hm j l (by omega) b (by omega))
      rw [show i + 1 - 1 = i from by omega] at this
      exact this
    · rw [if_neg c0, if_neg c0]
      exact (fBr_st c k (i + 1) _ (fun j h2 h3 q => c0 (hm i j (by omega) (by omega) (by omega) q))).symm
theorem s_far : ∀ (x : CS) (y : MS) (a0 : Int32), PP x y → ∃ (r : Int32) (x1 : CS) (y1 : MS), f_X10_far x a0 = some (r, x1) ∧ f_X11_far y a0 = some (r, y1) ∧ PP x1 y1 := by
  intro x y a0 hP
  obtain ⟨m, sp, cv, N, kd, sec, mo, c⟩ := PP_ctx hP
  unfold f_X10_far f_X11_far
  rcases soMany c a0 with ⟨h1, h2⟩ | ⟨h1, h2, nn, hnn, rfl⟩
  · rw [h1, h2]
    exact sim2 hP (-5) (wp_s ⟨rfl, XF_rfl x⟩) (wp_s ⟨rfl, MF_rfl y⟩)
  rw [h1, h2]
  have b : BH nn (hul m sp (gi y 61 1) (gi y 61 2) (gi y 61 3) cv kd sec mo nn) := hul_BH c hnn
  have hX := CTX_X c hnn
  have hMc := fun (y1 : MS) (hf : FrM y y1) (i : Nat) (hi : i ≤ 12) => M_cracks c hnn hf (g32 := 0) (g := 0) rfl (by omega) hi
  have hM := CTX_M c hnn (FrM_rfl y)
  generalize hul m sp (gi y 61 1) (gi y 61 2) (gi y 61 3) cv kd sec mo nn = h at b hX hM hMc
  obtain ⟨S, hS12, hSS⟩ := n32_ex b.1.1 b.1.2
  have hS12 : S ≤ 12 := by omega
  have eU : (12 : Int32) - hS h = n32 (12 - S) := by rw [hSS, q_12, n32_sub hS12]
  generalize hc : (fun i => hB (sInches (qM y m sp) cv 0 i h) &&& (hB h ^^^ (-1))) = cc
  have hci : ∀ i, hB (sInches (qM y m sp) cv 0 i h) &&& (hB h ^^^ (-1)) = cc i := fun i => congrFun hc i
  have mono1 : ∀ i, S + i < 12 → cc (i + 1) = 0 → cc i = 0 := by
    intro i hi q
    rw [← hci, (in_snoc _ cv 0 i h S hSS hi).1] at q
    obtain ⟨z, hz⟩ := hB_mono (qM y m sp) cv 0 9 0 (sIn1 (sInches (qM y m sp) cv 0 i h))
    have hz : hB (sInch (qM y m sp) cv 0 (sInches (qM y m sp) cv 0 i h)) = hB (sInches (qM y m sp) cv 0 i h) ||| z := hz
    rw [hz, and_or] at q
    rw [← hci]; exact q.1
  have mono : ∀ d j, S + j + d ≤ 12 → cc (j + d) = 0 → cc j = 0 := by
    intro d
    induction d with
    | zero => intro j _ q; exact q
    | succ d ih => intro j hj q; exact ih j (by omega) (mono1 (j + d) (by omega) q)
  refine sim2 hP (fAr cc (12 - S) (12 - S) 1) (wp_e bt ?_) (wp_e bt ?_)
  · refine wp_bw hX (fun x1 hx1 => ?_)
    rw [hx1.2.2.2.2.2.1, hx1.2.2.2.2.2.2.1, eU]
    have key : ∀ (k i n : Nat) (x1 : CS) (e : EX), i + k = 12 - S + 1 → 1 ≤ i → k < n → HX x (gi y 61 1, gi y 61 2, gi y 61 3) (sInches (qM y m sp) cv 0 (i - 1) h) e x1 → wp (f_X10_far_39 n x1 (hB h) (n32 (12 - S)) (n32 i)) (fun v => v.1 = fAr cc (12 - S) k i ∧ XF x v.2) := by
      intro k
      induction k with
      | zero =>
        intro i n x1 e hi h1 hn hx
        obtain ⟨n, rfl⟩ : ∃ w, n = w + 1 := ⟨n - 1, by omega⟩
        rw [f_X10_far_39]
        exact wp_t (n_lt (by omega) (by omega)) (wp_s ⟨rfl, HX_XF hx⟩)
      | succ k ih =>
        intro i n x1 e hi h1 hn hx
        obtain ⟨n, rfl⟩ : ∃ w, n = w + 1 := ⟨n - 1, by omega⟩
        rw [f_X10_far_39]
        refine wp_e (n_nlt (by omega) (by omega)) (wp_bw (X_inch1 c.1 hx) (fun x2 hx2 => ?_))
        have es := (in_snoc (qM y m sp) cv 0 (i - 1) h S hSS (by omega)).1
        rw [show i - 1 + 1 = i from by omega] at es
        have hx2 : HX x (gi y 61 1, gi y 61 2, gi y 61 3) (sInch (qM y m sp) cv 0 (sInches (qM y m sp) cv 0 (i - 1) h)) _ x2 := hx2
        rw [← es] at hx2
        rw [hx2.2.2.2.2.2.1, hci, fAr, n_inc]
        refine wp_i (fun c1 => ?_) (fun c1 => ?_)
        · rw [if_pos c1]; exact ih (i + 1) n x2 _ (by omega) (by omega) (by omega) hx2
        · rw [if_neg c1, q_1, n32_sub h1]; exact wp_s ⟨rfl, HX_XF hx2⟩
    exact key (12 - S) 1 1000 x1 _ (by omega) (by omega) (by omega) hx1
  · unfold f_X11_inchesLeft
    refine wp_bw (wp_b (wp_m hM (fun y1 hy1 => wp_s (show _ ∧ _ from ⟨by rw [hy1.2.2.2.2.2.1, eU], hy1.1⟩)))) (P := fun v => v.1 = n32 (12 - S) ∧ FrM y v.2) (fun v hv => ?_)
    obtain ⟨v, y1⟩ := v
    obtain ⟨ev, hf⟩ := hv
    have ev : v = _ := ev
    subst ev
    have key : ∀ (k i n : Nat) (y1 : MS) (bst : Int32), i + k = 12 - S + 1 → 1 ≤ i → k < n → FrM y y1 → wp (f_X11_far_22 n y1 (n32 nn) (n32 (12 - S)) bst (n32 i)) (fun v => v.1 = fBr cc k i bst ∧ MF y v.2) := by
      intro k
      induction k with
      | zero =>
        intro i n y1 bst hi h1 hn hf
        obtain ⟨n, rfl⟩ : ∃ w, n = w + 1 := ⟨n - 1, by omega⟩
        rw [f_X11_far_22]
        exact wp_t (n_lt (by omega) (by omega)) (wp_s ⟨rfl, MF_Fr hf⟩)
      | succ k ih =>
        intro i n y1 bst hi h1 hn hf
        obtain ⟨n, rfl⟩ : ∃ w, n = w + 1 := ⟨n - 1, by omega⟩
        rw [f_X11_far_22]
        refine wp_e (n_nlt (by omega) (by omega)) (wp_bw (hMc y1 hf i (by omega)) (fun v hv => ?_))
        unfold f_X11_far_45
        rw [hv.1, hci, n_inc, fBr]
        refine wp_i (fun c1 => ?_) (fun c1 => ?_)
        · rw [if_pos c1]; exact ih (i + 1) n v.2 _ (by omega) (by omega) (by omega) hv.2
        · rw [if_neg c1]; exact ih (i + 1) n v.2 _ (by omega) (by omega) (by omega) hv.2
    rw [fAB cc (12 - S) (12 - S) 1 (by omega) (by omega) (fun j l a b d q => mono (l - j) j (by omega) (by rw [show j + (l - j) = l from by omega]; exact q))]
    exact key (12 - S) 1 1000 y1 0 (by omega) (by omega) (by omega) hf
def stp (f : Nat → Int32) (a2 a3 a4 : Int32) : Nat → Nat → Int32 → Int32 → Int32
  | 0, _, b, _ => b
  | k + 1, i, b, mst => if (((f i * n32 i) * a2) - ((((2 * a4) + 1) - f i) * a3)) ≤ mst then stp f a2 a3 a4 k (i + 1) b mst else stp f a2 a3 a4 k (i + 1) (n32 i) (((f i * n32 i) * a2) - ((((2 * a4) + 1) - f i) * a3))
theorem s_stop : ∀ (x : CS) (y : MS) (a0 a1 a2 a3 : Int32), PP x y → ∃ (r : Int32) (x1 : CS) (y1 : MS), f_X10_stop x a0 a1 a2 a3 = some (r, x1) ∧ f_X11_stop y a0 a1 a2 a3 = some (r, y1) ∧ PP x1 y1 := by
  intro x y a0 a1 a2 a3 hP
  obtain ⟨m, sp, cv, N, kd, sec, mo, c⟩ := PP_ctx hP
  unfold f_X10_stop f_X11_stop f_X10_stop_43 f_X11_stop_43
  rcases soMany c a0 with ⟨h1, h2⟩ | ⟨h1, h2, nn, hnn, rfl⟩
  · rw [h1, h2]
    exact sim2 hP (-5) (wp_s ⟨rfl, XF_rfl x⟩) (wp_s ⟨rfl, MF_rfl y⟩)
  rw [h1, h2, in_wi, in_wi, in_wi]
  cases g1 : f_X10_within a1 0 999
  · exact sim2 hP (-7) (wp_e bt (wp_t rfl (wp_s ⟨rfl, XF_rfl x⟩))) (wp_e bt (wp_t rfl (wp_s ⟨rfl, MF_rfl y⟩)))
  cases g2 : f_X10_within a2 0 9999
  · exact sim2 hP (-7) (wp_e bt (wp_e bt (wp_t rfl (wp_s ⟨rfl, XF_rfl x⟩)))) (wp_e bt (wp_e bt (wp_t rfl (wp_s ⟨rfl, MF_rfl y⟩))))
  rcases wi_cases a3 0 5 (by decide) with hs | ⟨hs, v, _, hv, rfl⟩
  · rw [hs]
    exact sim2 hP (-7) (wp_e bt (wp_e bt (wp_e bt (wp_t rfl (wp_s ⟨rfl, XF_rfl x⟩))))) (wp_e bt (wp_e bt (wp_e bt (wp_t rfl (wp_s ⟨rfl, MF_rfl y⟩)))))
  rw [hs]
  have hv5 : v ≤ 5 := by rw [z_5] at hv; omega
  have b : BH nn (hul m sp (gi y 61 1) (gi y 61 2) (gi y 61 3) cv kd sec mo nn) := hul_BH c hnn
  have hX := CTX_X c hnn
  have hMc := fun (y1 : MS) (hf : FrM y y1) (i : Nat) (hi : i ≤ 12) => M_sound c hnn hf hi hv5
  have hM := CTX_M c hnn (FrM_rfl y)
  generalize hul m sp (gi y 61 1) (gi y 61 2) (gi y 61 3) cv kd sec mo nn = h at b hX hM hMc
  obtain ⟨S, hS12, hSS⟩ := n32_ex b.1.1 b.1.2
  have hS12 : S ≤ 12 := by omega
  have eU : (12 : Int32) - hS h = n32 (12 - S) := by rw [hSS, q_12, n32_sub hS12]
  generalize hf : (fun i => n32 (cnt (fun k => decide (hB (sInches (qM y m sp) cv k i h) &&& (hB h ^^^ (-1)) = 0)) (2 * v + 1) (-(v : Int)) 0)) = f
  have hfi : ∀ i, n32 (cnt (fun k => decide (hB (sInches (qM y m sp) cv k i h) &&& (hB h ^^^ (-1)) = 0)) (2 * v + 1) (-(v : Int)) 0) = f i := fun i => congrFun hf i
  refine sim2 hP (stp f a1 a2 (n32 v) (12 - S) 1 0 0) (wp_e bt (wp_e bt (wp_e bt (wp_e bt ?_)))) (wp_e bt (wp_e bt (wp_e bt (wp_e bt ?_))))
  · refine wp_bw hX (fun x1 hx1 => ?_)
    have hx2 := X_watch hx1
    rw [hx2.2.2.2.2.2.2.1, eU]
    generalize (eHull (qM y m sp) cv false kd sec mo nn 0 (cv 0, cv 1, cv 2, 0, 0, 0) (-1, 0, -1000000)).1 = fst at hx2
    have key : ∀ (k i n : Nat) (x1 : CS) (bst mst : Int32), i + k = 12 - S + 1 → 1 ≤ i → k < n → HX x (gi y 61 1, gi y 61 2, gi y 61 3) (sInches (qM y m sp) cv 0 (i - 1) h) (eInches (qM y m sp) cv (i - 1) h (fst, hB h ^^^ (-1), -1000000)) x1 → wp (f_X10_stop_80 n x1 a1 a2 (n32 v) (n32 (12 - S)) bst mst (n32 i)) (fun w => w.1 = stp f a1 a2 (n32 v) k i bst mst ∧ XF x w.2) := by
      intro k
      induction k with
      | zero =>
        intro i n x1 bst mst hi h1 hn hx
        obtain ⟨n, rfl⟩ : ∃ w, n = w + 1 := ⟨n - 1, by omega⟩
        rw [f_X10_stop_80]
        exact wp_t (n_lt (by omega) (by omega)) (wp_s ⟨rfl, HX_XF hx⟩)
      | succ k ih =>
        intro i n x1 bst mst hi h1 hn hx
        obtain ⟨n, rfl⟩ : ∃ w, n = w + 1 := ⟨n - 1, by omega⟩
        rw [f_X10_stop_80]
        refine wp_e (n_nlt (by omega) (by omega)) (wp_bw (X_inch1 c.1 hx) (fun x2 hx2 => ?_))
        have es := (in_snoc (qM y m sp) cv 0 (i - 1) h S hSS (by omega)).1
        have ee := ei_snoc (qM y m sp) cv (i - 1) h (fst, hB h ^^^ (-1), -1000000) S hSS (by omega)
        rw [show i - 1 + 1 = i from by omega] at es ee
        have hx2 : HX x (gi y 61 1, gi y 61 2, gi y 61 3) (sInch (qM y m sp) cv 0 (sInches (qM y m sp) cv 0 (i - 1) h)) (eInA (qM y m sp) cv 9 0 (sIn1 (sInches (qM y m sp) cv 0 (i - 1) h)) (eInches (qM y m sp) cv (i - 1) h (fst, hB h ^^^ (-1), -1000000))) x2 := hx2
        rw [← es, ← ee] at hx2
        have hch := X_chances x2 hv5
        rw [hx2.2.2.2.2.2.2.2.2.2.2, odd_cnt c hv5, hfi] at hch
        refine wp_be hch ?_
        unfold f_X10_stop_141
        rw [n_inc, stp]
        refine wp_i (fun c1 => ?_) (fun c1 => ?_)
        · rw [if_pos c1]; exact ih (i + 1) n x2 _ _ (by omega) (by omega) (by omega) hx2
        · rw [if_neg c1]; exact ih (i + 1) n x2 _ _ (by omega) (by omega) (by omega) hx2
    exact key (12 - S) 1 1000 _ 0 0 (by omega) (by omega) (by omega) hx2
  · unfold f_X11_inchesLeft
    refine wp_bw (wp_b (wp_m hM (fun y1 hy1 => wp_s (show _ ∧ _ from ⟨by rw [hy1.2.2.2.2.2.1, eU], hy1.1⟩)))) (P := fun v => v.1 = n32 (12 - S) ∧ FrM y v.2) (fun w hw => ?_)
    obtain ⟨w, y1⟩ := w
    obtain ⟨ew, hf⟩ := hw
    have ew : w = _ := ew
    subst ew
    have key : ∀ (k i n : Nat) (y1 : MS) (bst mst : Int32), i + k = 12 - S + 1 → 1 ≤ i → k < n → FrM y y1 → wp (f_X11_stop_62 n y1 (n32 nn) a1 a2 (n32 v) (n32 (12 - S)) bst mst (n32 i)) (fun w => w.1 = stp f a1 a2 (n32 v) k i bst mst ∧ MF y w.2) := by
      intro k
      induction k with
      | zero =>
        intro i n y1 bst mst hi h1 hn hf
        obtain ⟨n, rfl⟩ : ∃ w, n = w + 1 := ⟨n - 1, by omega⟩
        rw [f_X11_stop_62]
        exact wp_t (n_lt (by omega) (by omega)) (wp_s ⟨rfl, MF_Fr hf⟩)
      | succ k ih =>
        intro i n y1 bst mst hi h1 hn hf
        obtain ⟨n, rfl⟩ : ∃ w, n = w + 1 := ⟨n - 1, by omega⟩
        rw [f_X11_stop_62]
        refine wp_e (n_nlt (by omega) (by omega)) (wp_bw (hMc y1 hf i (by omega)) (fun w hw => ?_))
        unfold f_X11_stop_116
        rw [hw.1, hfi, n_inc, stp]
        refine wp_i (fun c1 => ?_) (fun c1 => ?_)
        · rw [if_pos c1]; exact ih (i + 1) n w.2 _ _ (by omega) (by omega) (by omega) hw.2
        · rw [if_neg c1]; exact ih (i + 1) n w.2 _ _ (by omega) (by omega) (by omega) hw.2
    exact key (12 - S) 1 1000 y1 0 0 (by omega) (by omega) (by omega) hf
