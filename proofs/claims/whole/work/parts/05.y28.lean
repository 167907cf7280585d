/-! ===== pure: a text's tokens ===== -/
def run (f : Nat → Bool) : Nat → Nat → Nat
  | 0, p => p
  | k + 1, p => if f p = true then run f k (p + 1) else p
theorem run_b (f : Nat → Bool) : ∀ k p, p ≤ run f k p ∧ run f k p ≤ p + k := by
  intro k
  induction k with
  | zero => intro p; exact ⟨Nat.le_refl _, Nat.le_refl _⟩
  | succ k ih =>
    intro p
    rw [run]
    by_cases h : f p = true
    · rw [if_pos h]; have := ih (p + 1); omega
    · rw [if_neg h]; omega
theorem run_all (f : Nat → Bool) : ∀ k p j, p ≤ j → j < run f k p → f j = true := by
  intro k
  induction k with
  | zero => intro p j h1 h2; rw [run] at h2; omega
  | succ k ih =>
    intro p j h1 h2
    rw [run] at h2
    by_cases h : f p = true
    · rw [if_pos h] at h2
      by_cases e : j = p
      · rw [e]; exact h
      · exact ih (p + 1) j (by omega) h2
    · rw [if_neg h] at h2; omega
def bA (b : Nat → Int32) (N p : Nat) : Int32 := if p < N then b p else -1
def fb (b : Nat → Int32) (N p : Nat) : Bool := decide (p < N) && (decide (b p = 32) || decide (b p = 10))
def fl (b : Nat → Int32) (N p : Nat) : Bool := decide (p < N) && f_X10_within (b p) 97 122
def fd (b : Nat → Int32) (N p : Nat) : Bool := decide (p < N) && f_X10_within (b p) 48 57
def BB (b : Nat → Int32) (N : Nat) : Prop := N ≤ 160 ∧ ∀ i, i < N → 0 ≤ (b i).toInt ∧ (b i).toInt ≤ 255
def TBx (b : Nat → Int32) (N : Nat) (x : CS) : Prop := gi x 26 1 = n32 N ∧ ∀ i, i < N → gi x 27 i = b i
def TBy (b : Nat → Int32) (N : Nat) (y : MS) : Prop := gi y 61 17 = n32 N ∧ ∀ i, i < N → gi y 71 i = b i
def X7 (x x' : CS) : Prop := (∀ q, q ≠ 26 → x'.1 q = x.1 q) ∧ x'.2 = x.2 ∧ ∀ j, j ≠ 7 → j ≠ 10 → gi x' 26 j = gi x 26 j
def Y7 (y y' : MS) : Prop := (∀ q, q ≠ 61 → y'.1 q = y.1 q) ∧ y'.2 = y.2 ∧ ∀ j, j ≠ 31 → j ≠ 34 → gi y' 61 j = gi y 61 j
theorem TBx_7 {b : Nat → Int32} {N : Nat} {x x' : CS} (h : TBx b N x) (e : X7 x x') : TBx b N x' := ⟨by rw [e.2.2 1 (by omega) (by omega)]; exact h.1, fun i hi => by rw [gi_of (e.1 27 (by omega))]; exact h.2 i hi⟩
theorem TBy_7 {b : Nat → Int32} {N : Nat} {y y' : MS} (h : TBy b N y) (e : Y7 y y') : TBy b N y' := ⟨by rw [e.2.2 17 (by omega) (by omega)]; exact h.1, fun i hi => by rw [gi_of (e.1 71 (by omega))]; exact h.2 i hi⟩
theorem X7_r (x : CS) : X7 x x := ⟨fun _ _ => rfl, rfl, fun _ _ _ => rfl⟩
theorem Y7_r (y : MS) : Y7 y y := ⟨fun _ _ => rfl, rfl, fun _ _ _ => rfl⟩
theorem X7_p (x : CS) {j : Nat} (v : Int32) (h : j = 7 ∨ j = 10) : X7 x (pi x 26 j v) := ⟨fun q hq => pi1_q _ _ _ hq, rfl, fun i h1 h2 => gp_j _ _ _ (by omega)⟩
theorem Y7_p (y : MS) {j : Nat} (v : Int32) (h : j = 31 ∨ j = 34) : Y7 y (pi y 61 j v) := ⟨fun q hq => pi1_q _ _ _ hq, rfl, fun i h1 h2 => gp_j _ _ _ (by omega)⟩
theorem X7_t {x x' x'' : CS} (h : X7 x x') (k : X7 x' x'') : X7 x x'' := ⟨fun q hq => (k.1 q hq).trans (h.1 q hq), k.2.1.trans h.2.1, fun j a c => (k.2.2 j a c).trans (h.2.2 j a c)⟩
theorem Y7_t {y y' y'' : MS} (h : Y7 y y') (k : Y7 y' y'') : Y7 y y'' := ⟨fun q hq => (k.1 q hq).trans (h.1 q hq), k.2.1.trans h.2.1, fun j a c => (k.2.2 j a c).trans (h.2.2 j a c)⟩
theorem X_byte {b : Nat → Int32} {N : Nat} {x : CS} (hB : BB b N) (h : TBx b N x) {p : Nat} (hp : p < 1000) : f_X6_byteAt x (n32 p) = some (bA b N p) := by
  have hN := hB.1
  unfold f_X6_byteAt f_X6_byteAt_28 bA
  have n0 : ¬ n32 p < (0 : Int32) := n_nlt (i := p) (j := 0) (by omega) (by omega)
  rw [if_neg n0, h.1]
  by_cases c : p < N
  · rw [if_pos c, if_neg (n_nle c (by omega)), if_neg (show ¬ (160 : Int32) ≤ n32 p from n_nle (i := 160) (by omega) (by omega)), gd_t (ib_n (by omega) (by omega)), n32_nat (by omega), h.2 p c]
  · rw [if_neg c, if_pos (n_le (by omega) (by omega))]
theorem lt_bA (b : Nat → Int32) (N p : Nat) : f_X6_isLetter (bA b N p) = fl b N p := by
  unfold f_X6_isLetter fl bA
  by_cases c : p < N
  · rw [if_pos c, decide_eq_true c]; rfl
  · rw [if_neg c, decide_eq_false c]; rfl
theorem dg_bA (b : Nat → Int32) (N p : Nat) : f_X6_isDigit (bA b N p) = fd b N p := by
  unfold f_X6_isDigit fd bA
  by_cases c : p < N
  · rw [if_pos c, decide_eq_true c]; rfl
  · rw [if_neg c, decide_eq_false c]; rfl
/-! the class's three loops -/
theorem X_blank {b : Nat → Int32} {N : Nat} (hB : BB b N) : ∀ (k p g i : Nat) (x : CS), p + k = N → k < g → i ≤ p → TBx b N x → gi x 26 7 = n32 p → ∃ x', f_X6_advance_10 g x (n32 i) = f_X6_advance_59 x' ∧ X7 x x' ∧ gi x' 26 7 = n32 (run (fb b N) k p) := by
  have hN := hB.1
  intro k
  induction k with
  | zero =>
    intro p g i x hp hg hi hT h7
    obtain ⟨g, rfl⟩ : ∃ w, g = w + 1 := ⟨g - 1, by omega⟩
    refine ⟨x, ?_, X7_r x, h7⟩
    rw [f_X6_advance_10, h7, X_byte hB hT (by omega), Option.bind_some, Option.bind_some]
    have e : bA b N p = -1 := if_neg (by omega)
    rw [e, if_neg (show ¬ (-1 : Int32) = 32 by decide), if_neg (show ¬ (-1 : Int32) = 10 by decide)]
    split <;> rfl
  | succ k ih =>
    intro p g i x hp hg hi hT h7
    obtain ⟨g, rfl⟩ : ∃ w, g = w + 1 := ⟨g - 1, by omega⟩
    have e160 : ¬ (160 : Int32) ≤ n32 i := n_nle (i := 160) (by omega) (by omega)
    have e : bA b N p = b p := if_pos (by omega)
    have ef : fb b N p = (decide (b p = 32) || decide (b p = 10)) := by unfold fb; rw [decide_eq_true (show p < N by omega)]; rfl
    rw [f_X6_advance_10, if_neg e160, h7, X_byte hB hT (by omega), Option.bind_some, Option.bind_some, e, run, ef]
    unfold f_X6_advance_43
    rw [h7, n_inc, n_inc]
    have go : ∃ x', f_X6_advance_10 g (pi x 26 7 (n32 (p + 1))) (n32 (i + 1)) = f_X6_advance_59 x' ∧ X7 x x' ∧ gi x' 26 7 = n32 (run (fb b N) k (p + 1)) := by
      obtain ⟨x', a1, a2, a3⟩ := ih (p + 1) g (i + 1) (pi x 26 7 (n32 (p + 1))) (by omega) (by omega) (by omega) (TBx_7 hT (X7_p x _ (Or.inl rfl))) (by rw [gp_eq])
      exact ⟨x', a1, X7_t (X7_p x _ (Or.inl rfl)) a2, a3⟩
    by_cases c1 : b p = 32
    · rw [if_pos c1, decide_eq_true c1, Bool.true_or, if_pos rfl]; exact go
    · rw [if_neg c1, decide_eq_false c1, Bool.false_or]
      by_cases c2 : b p = 10
      · rw [if_pos c2, decide_eq_true c2, if_pos rfl]; exact go
      · rw [if_neg c2, decide_eq_false c2, if_neg Bool.false_ne_true]
        exact ⟨x, rfl, X7_r x, h7⟩
theorem X_lets {b : Nat → Int32} {N : Nat} (hB : BB b N) : ∀ (k p g i : Nat) (x : CS), p + k = N → k < g → i ≤ p → TBx b N x → gi x 26 7 = n32 p → ∃ x', f_X6_advance_99 g x (n32 i) = f_X6_advance_136 x' ∧ X7 x x' ∧ gi x' 26 7 = n32 (run (fl b N) k p) := by
  have hN := hB.1
  intro k
  induction k with
  | zero =>
    intro p g i x hp hg hi hT h7
    obtain ⟨g, rfl⟩ : ∃ w, g = w + 1 := ⟨g - 1, by omega⟩
    refine ⟨x, ?_, X7_r x, h7⟩
    rw [f_X6_advance_99, h7, X_byte hB hT (by omega), Option.bind_some, lt_bA]
    have e : fl b N p = false := by unfold fl; rw [decide_eq_false (by omega)]; rfl
    rw [e, if_pos b2i_f]
    split <;> rfl
  | succ k ih =>
    intro p g i x hp hg hi hT h7
    obtain ⟨g, rfl⟩ : ∃ w, g = w + 1 := ⟨g - 1, by omega⟩
    have e160 : ¬ (160 : Int32) ≤ n32 i := n_nle (i := 160) (by omega) (by omega)
    rw [f_X6_advance_99, if_neg e160, h7, X_byte hB hT (by omega), Option.bind_some, lt_bA, run]
    cases c : fl b N p
    · rw [if_pos b2i_f, if_neg Bool.false_ne_true]
      exact ⟨x, rfl, X7_r x, h7⟩
    · rw [if_neg bt, if_pos rfl, n_inc, n_inc]
      obtain ⟨x', a1, a2, a3⟩ := ih (p + 1) g (i + 1) (pi x 26 7 (n32 (p + 1))) (by omega) (by omega) (by omega) (TBx_7 hT (X7_p x _ (Or.inl rfl))) (by rw [gp_eq])
      exact ⟨x', a1, X7_t (X7_p x _ (Or.inl rfl)) a2, a3⟩
/-- the number that c digits from p tell -/
def nvf (b : Nat → Int32) : Nat → Nat → Int32 → Int32
  | 0, _, v => v
  | c + 1, p, v => nvf b c (p + 1) (v * 10 + b p - 48)
theorem X_digs {b : Nat → Int32} {N : Nat} (hB : BB b N) : ∀ (k p g i : Nat) (x : CS) (v : Int32), p + k = N → k < g → i ≤ p → TBx b N x → gi x 26 7 = n32 p → gi x 26 10 = v → ∃ x', f_X6_advance_161 g x (n32 i) = f_X6_advance_221 x' ∧ X7 x x' ∧ gi x' 26 7 = n32 (run (fd b N) k p) ∧ gi x' 26 10 = nvf b (run (fd b N) k p - p) p v := by
  have hN := hB.1
  intro k
  induction k with
  | zero =>
    intro p g i x v hp hg hi hT h7 h10
    obtain ⟨g, rfl⟩ : ∃ w, g = w + 1 := ⟨g - 1, by omega⟩
    refine ⟨x, ?_, X7_r x, h7, ?_⟩
    · rw [f_X6_advance_161, h7, X_byte hB hT (by omega), Option.bind_some, dg_bA]
      have e : fd b N p = false := by unfold fd; rw [decide_eq_false (by omega)]; rfl
      rw [e, if_pos b2i_f]
      split <;> rfl
    · rw [run, Nat.sub_self, nvf]; exact h10
  | succ k ih =>
    intro p g i x v hp hg hi hT h7 h10
    obtain ⟨g, rfl⟩ : ∃ w, g = w + 1 := ⟨g - 1, by omega⟩
    have e160 : ¬ (160 : Int32) ≤ n32 i := n_nle (i := 160) (by omega) (by omega)
    have e : bA b N p = b p := if_pos (by omega)
    rw [f_X6_advance_161, if_neg e160, h7, X_byte hB hT (by omega), Option.bind_some, dg_bA, Option.bind_some, e, h10, run]
    cases c : fd b N p
    · rw [if_pos b2i_f, if_neg Bool.false_ne_true]
      exact ⟨x, rfl, X7_r x, h7, by rw [Nat.sub_self, nvf]; exact h10⟩
    · rw [if_neg bt, if_pos rfl, gp_j _ _ _ (by omega), h7, n_inc, n_inc]
      have hx : X7 x (pi (pi x 26 10 (v * 10 + b p - 48)) 26 7 (n32 (p + 1))) := X7_t (X7_p x _ (Or.inr rfl)) (X7_p _ _ (Or.inl rfl))
      obtain ⟨x', a1, a2, a3, a4⟩ := ih (p + 1) g (i + 1) (pi (pi x 26 10 (v * 10 + b p - 48)) 26 7 (n32 (p + 1))) (v * 10 + b p - 48) (by omega) (by omega) (by omega) (TBx_7 hT hx) (by rw [gp_eq]) (by rw [gp_j _ _ _ (by omega), gp_eq])
      refine ⟨x', a1, X7_t hx a2, a3, ?_⟩
      have hb := (run_b (fd b N) k (p + 1)).1
      obtain ⟨c, hc⟩ : ∃ c, run (fd b N) k (p + 1) = p + 1 + c := ⟨run (fd b N) k (p + 1) - (p + 1), by omega⟩
      rw [a4, hc, show p + 1 + c - (p + 1) = c from by omega, show p + 1 + c - p = c + 1 from by omega, nvf]
/-! the check's three loops -/
theorem M_blank {b : Nat → Int32} {N : Nat} (hB : BB b N) : ∀ (k p g : Nat) (y : MS), p + k = N → k < g → TBy b N y → gi y 61 31 = n32 p → ∃ y', f_X11_next_0 g y = f_X11_next_52 y' ∧ Y7 y y' ∧ gi y' 61 31 = n32 (run (fb b N) k p) ∧ gi y' 61 34 = gi y 61 34 := by
  have hN := hB.1
  intro k
  induction k with
  | zero =>
    intro p g y hp hg hT h7
    obtain ⟨g, rfl⟩ : ∃ w, g = w + 1 := ⟨g - 1, by omega⟩
    refine ⟨y, ?_, Y7_r y, h7, rfl⟩
    rw [f_X11_next_0, h7, hT.1, if_pos (n_le (by omega) (by omega))]
  | succ k ih =>
    intro p g y hp hg hT h7
    obtain ⟨g, rfl⟩ : ∃ w, g = w + 1 := ⟨g - 1, by omega⟩
    have ef : fb b N p = (decide (b p = 32) || decide (b p = 10)) := by unfold fb; rw [decide_eq_true (show p < N by omega)]; rfl
    rw [f_X11_next_0, h7, hT.1, if_neg (n_nle (by omega) (by omega)), gd_t (ib_n (by omega) (by omega)), gd_t (ib_n (by omega) (by omega)), n32_nat (by omega), hT.2 p (by omega), run, ef]
    unfold f_X11_next_39
    rw [h7, n_inc]
    have go : ∃ y', f_X11_next_0 g (pi y 61 31 (n32 (p + 1))) = f_X11_next_52 y' ∧ Y7 y y' ∧ gi y' 61 31 = n32 (run (fb b N) k (p + 1)) ∧ gi y' 61 34 = gi y 61 34 := by
      obtain ⟨y', a1, a2, a3, a4⟩ := ih (p + 1) g (pi y 61 31 (n32 (p + 1))) (by omega) (by omega) (TBy_7 hT (Y7_p y _ (Or.inl rfl))) (by rw [gp_eq])
      exact ⟨y', a1, Y7_t (Y7_p y _ (Or.inl rfl)) a2, a3, a4.trans (gp_j _ _ _ (by omega))⟩
    by_cases c1 : b p = 32
    · rw [if_pos c1, decide_eq_true c1, Bool.true_or, if_pos rfl]; exact go
    · rw [if_neg c1, decide_eq_false c1, Bool.false_or]
      by_cases c2 : b p = 10
      · rw [if_pos c2, decide_eq_true c2, if_pos rfl]; exact go
      · rw [if_neg c2, decide_eq_false c2, if_neg Bool.false_ne_true]
        exact ⟨y, rfl, Y7_r y, h7, rfl⟩
/-- c letters from p, laid in a long -/
def pwf (b : Nat → Int32) : Nat → Nat → Int64 → Int64
  | 0, _, a => a
  | c + 1, p, a => pwf b c (p + 1) ((a <<< ((8 : Int32).toInt64 &&& 63)) ||| (b p).toInt64)
theorem M_lets {b : Nat → Int32} {N : Nat} (hB : BB b N) : ∀ (k p g i : Nat) (y : MS) (a : Int64), p + k = N → k < g → i ≤ p → TBy b N y → gi y 61 31 = n32 p → ∃ y' a', f_X11_letters_4 g y a (n32 i) = f_X11_letters_76 y' a' (n32 (i + (run (fl b N) k p - p))) ∧ Y7 y y' ∧ gi y' 61 31 = n32 (run (fl b N) k p) ∧ gi y' 61 34 = gi y 61 34 ∧ (i + (run (fl b N) k p - p) ≤ 8 → a' = pwf b (run (fl b N) k p - p) p a) := by
  have hN := hB.1
  intro k
  induction k with
  | zero =>
    intro p g i y a hp hg hi hT h7
    obtain ⟨g, rfl⟩ : ∃ w, g = w + 1 := ⟨g - 1, by omega⟩
    refine ⟨y, a, ?_, Y7_r y, h7, rfl, fun _ => ?_⟩
    · rw [f_X11_letters_4, h7, hT.1, if_pos (n_le (by omega) (by omega)), run, Nat.sub_self, Nat.add_zero]
    · rw [run, Nat.sub_self, pwf]
  | succ k ih =>
    intro p g i y a hp hg hi hT h7
    obtain ⟨g, rfl⟩ : ∃ w, g = w + 1 := ⟨g - 1, by omega⟩
    have ef : f_X10_within (b p) 97 122 = fl b N p := by unfold fl; rw [decide_eq_true (show p < N by omega)]; rfl
    rw [f_X11_letters_4, h7, hT.1, if_neg (n_nle (by omega) (by omega)), gd_t (ib_n (by omega) (by omega)), gd_t (ib_n (by omega) (by omega)), n32_nat (by omega), hT.2 p (by omega), in_wi, ef, run]
    cases c : fl b N p
    · rw [if_pos b2i_f, if_neg Bool.false_ne_true]
      exact ⟨y, a, by rw [Nat.sub_self, Nat.add_zero], Y7_r y, h7, rfl, fun _ => by rw [Nat.sub_self, pwf]⟩
    · rw [if_neg bt, if_pos rfl]
      unfold f_X11_letters_59
      rw [h7, n_inc, n_inc]
      have hy : Y7 y (pi y 61 31 (n32 (p + 1))) := Y7_p y _ (Or.inl rfl)
      have hb := (run_b (fl b N) k (p + 1)).1
      obtain ⟨d, hd⟩ : ∃ d, run (fl b N) k (p + 1) = p + 1 + d := ⟨run (fl b N) k (p + 1) - (p + 1), by omega⟩
      have e1 : p + 1 + d - (p + 1) = d := by omega
      have e2 : p + 1 + d - p = d + 1 := by omega
      by_cases c8 : (8 : Int32) ≤ n32 i
      · rw [if_pos c8]
        have c8' : 8 ≤ i := (n32_le (i := 8) (by omega) (by omega)).mp c8
        obtain ⟨y', a', a1, a2, a3, a4, a5⟩ := ih (p + 1) g (i + 1) (pi y 61 31 (n32 (p + 1))) a (by omega) (by omega) (by omega) (TBy_7 hT hy) (by rw [gp_eq])
        refine ⟨y', a', ?_, Y7_t hy a2, a3, a4.trans (gp_j _ _ _ (by omega)), fun q => ?_⟩
        · rw [a1, hd, e1, e2, show i + 1 + d = i + (d + 1) from by omega]
        · omega
      · rw [if_neg c8]
        obtain ⟨y', a', a1, a2, a3, a4, a5⟩ := ih (p + 1) g (i + 1) (pi y 61 31 (n32 (p + 1))) ((a <<< ((8 : Int32).toInt64 &&& 63)) ||| (b p).toInt64) (by omega) (by omega) (by omega) (TBy_7 hT hy) (by rw [gp_eq])
        refine ⟨y', a', ?_, Y7_t hy a2, a3, a4.trans (gp_j _ _ _ (by omega)), fun q => ?_⟩
        · rw [a1, hd, e1, e2, show i + 1 + d = i + (d + 1) from by omega]
        · rw [hd, e1] at a5
          rw [hd, e2] at q ⊢
          rw [pwf]
          exact a5 (by omega)
theorem M_digs {b : Nat → Int32} {N : Nat} (hB : BB b N) : ∀ (k p g i : Nat) (y : MS) (v : Int32), p + k = N → k < g → i ≤ p → TBy b N y → gi y 61 31 = n32 p → gi y 61 34 = v → ∃ y', f_X11_next_214 g y (n32 i) = f_X11_next_293 y' (n32 (i + (run (fd b N) k p - p))) ∧ Y7 y y' ∧ gi y' 61 31 = n32 (run (fd b N) k p) ∧ (i + (run (fd b N) k p - p) ≤ 4 → gi y' 61 34 = nvf b (run (fd b N) k p - p) p v) := by
  have hN := hB.1
  intro k
  induction k with
  | zero =>
    intro p g i y v hp hg hi hT h7 h10
    obtain ⟨g, rfl⟩ : ∃ w, g = w + 1 := ⟨g - 1, by omega⟩
    refine ⟨y, ?_, Y7_r y, h7, fun _ => ?_⟩
    · rw [f_X11_next_214, h7, hT.1, if_pos (n_le (by omega) (by omega)), run, Nat.sub_self, Nat.add_zero]
    · rw [run, Nat.sub_self, nvf]; exact h10
  | succ k ih =>
    intro p g i y v hp hg hi hT h7 h10
    obtain ⟨g, rfl⟩ : ∃ w, g = w + 1 := ⟨g - 1, by omega⟩
    have ef : f_X10_within (b p) 48 57 = fd b N p := by unfold fd; rw [decide_eq_true (show p < N by omega)]; rfl
    rw [f_X11_next_214, h7, hT.1, if_neg (n_nle (by omega) (by omega)), gd_t (ib_n (by omega) (by omega)), gd_t (ib_n (by omega) (by omega)), n32_nat (by omega), hT.2 p (by omega), in_wi, ef, h10, run]
    cases c : fd b N p
    · rw [if_pos b2i_f, if_neg Bool.false_ne_true]
      exact ⟨y, by rw [Nat.sub_self, Nat.add_zero], Y7_r y, h7, fun _ => by rw [Nat.sub_self, nvf]; exact h10⟩
    · rw [if_neg bt, if_pos rfl]
      unfold f_X11_next_274
      have hb := (run_b (fd b N) k (p + 1)).1
      obtain ⟨d, hd⟩ : ∃ d, run (fd b N) k (p + 1) = p + 1 + d := ⟨run (fd b N) k (p + 1) - (p + 1), by omega⟩
      have e1 : p + 1 + d - (p + 1) = d := by omega
      have e2 : p + 1 + d - p = d + 1 := by omega
      have go : ∀ (w : Int32), (i + (d + 1) ≤ 4 → w = v * 10 + b p - 48) → ∃ y', f_X11_next_214 g (pi (pi y 61 34 w) 61 31 ((gi (pi y 61 34 w) 61 31) + 1)) (n32 i + 1) = f_X11_next_293 y' (n32 (i + (run (fd b N) k (p + 1) - p))) ∧ Y7 y y' ∧ gi y' 61 31 = n32 (run (fd b N) k (p + 1)) ∧ (i + (run (fd b N) k (p + 1) - p) ≤ 4 → gi y' 61 34 = nvf b (run (fd b N) k (p + 1) - p) p v) := by
        intro w hw
        rw [gp_j _ _ _ (by omega), h7, n_inc, n_inc]
        have hy : Y7 y (pi (pi y 61 34 w) 61 31 (n32 (p + 1))) := Y7_t (Y7_p y _ (Or.inr rfl)) (Y7_p _ _ (Or.inl rfl))
        obtain ⟨y', a1, a2, a3, a4⟩ := ih (p + 1) g (i + 1) (pi (pi y 61 34 w) 61 31 (n32 (p + 1))) w (by omega) (by omega) (by omega) (TBy_7 hT hy) (by rw [gp_eq]) (by rw [gp_j _ _ _ (by omega), gp_eq])
        refine ⟨y', ?_, Y7_t hy a2, a3, fun q => ?_⟩
        · rw [a1, hd, e1, e2, show i + 1 + d = i + (d + 1) from by omega]
        · rw [hd, e1] at a4
          rw [hd, e2] at q ⊢
          rw [nvf, ← hw (by omega)]
          exact a4 (by omega)
      by_cases c4 : (4 : Int32) ≤ n32 i
      · have c4' : 4 ≤ i := (n32_le (i := 4) (by omega) (by omega)).mp c4
        rw [if_pos c4]
        exact go 0 (fun q => by omega)
      · rw [if_neg c4]
        exact go _ (fun _ => by rw [Int32.mul_comm])
