/-! ===== pure: far, odds, stop ===== -/
def E4 (h h' : HS) : Prop := hW h = hW h' ∧ hT h = hT h' ∧ hH h = hH h' ∧ hS h = hS h'
theorem E4_pl (q : QF) (cv : CV) {h h' : HS} (e : E4 h h') (s : Nat) : pw h s = pw h' s ∧ pl q cv h s = pl q cv h' s ∧ sta q cv h s = sta q cv h' s ∧ hup h s = hup h' s ∧ lck q cv h s = lck q cv h' s := by
  obtain ⟨e1, e2, e3, e4⟩ := e
  unfold lck pl sta pw hup
  rw [e1, e2, e3, e4]
  exact ⟨rfl, rfl, rfl, rfl, rfl⟩
theorem E4_S (q : QF) (cv : CV) {h h' : HS} (e : E4 h h') (g g' : Int) (s : Nat) : E4 (sInS q cv g s h) (sInS q cv g' s h') := by
  obtain ⟨a1, _, _, a4, _⟩ := E4_pl q cv e s
  obtain ⟨e1, e2, e3, e4⟩ := e
  refine ⟨?_, e2, ?_, e4⟩
  · show upd (hW h) s (pw h s) = upd (hW h') s (pw h' s); rw [e1, a1]
  · show upd (hH h) s (hup h s) = upd (hH h') s (hup h' s); rw [e3, a4]
theorem and_or (a b c : Int32) : (a ||| b) &&& c = 0 ↔ a &&& c = 0 ∧ b &&& c = 0 := by
  have e : (a ||| b) &&& c = (a &&& c) ||| (b &&& c) := by
    rw [← Int32.toBitVec_inj]
    simp only [Int32.toBitVec_and, Int32.toBitVec_or]
    apply BitVec.eq_of_getLsbD_eq
    intro i hi
    simp only [BitVec.getLsbD_and, BitVec.getLsbD_or]
    cases a.toBitVec.getLsbD i <;> cases b.toBitVec.getLsbD i <;> cases c.toBitVec.getLsbD i <;> rfl
  rw [e, Int32.or_eq_zero_iff]
theorem xor_not (a : Int32) : a &&& (a ^^^ (-1)) = 0 := by
  have e : a ^^^ (-1) = ~~~a := by
    rw [← Int32.toBitVec_inj]
    simp only [Int32.toBitVec_xor, Int32.toBitVec_not]
    have e1 : (-1 : Int32).toBitVec = BitVec.allOnes 32 := by decide
    rw [e1, BitVec.xor_allOnes]
  rw [e]; simp
/-- whole with GRAIN g more, told by what GRAIN lacks -/
theorem odd_S {q : QF} (hq : QB q) {cv : CV} {s : Nat} (hc : 0 ≤ (cv 3 s).toInt ∧ (cv 3 s).toInt ≤ 99) {g : Int} {h h' : HS} {e : EX} (h4 : E4 h h') (hi : (hB h' &&& e.2.1 = 0 ↔ e.2.2.toInt ≤ 4 * g)) : (hB (sInS q cv g s h') &&& (eIn q cv s h e).2.1 = 0 ↔ (eIn q cv s h e).2.2.toInt ≤ 4 * g) ∧ (eIn q cv s h e).2.1 = e.2.1 := by
  have hck := crk_lck hq hc h' g
  rw [← (E4_pl q cv h4 s).2.2.2.2] at hck
  have hB' : hB (sInS q cv g s h') = if crk q cv g h' s = true then hB h' ||| bit s else hB h' := rfl
  rw [hB']
  unfold eIn
  by_cases c1 : e.2.1 &&& bit s = 0
  · rw [if_pos c1]
    refine ⟨?_, rfl⟩
    by_cases c2 : crk q cv g h' s = true
    · rw [if_pos c2, and_or, ← hi]
      rw [Int32.and_comm] at c1
      exact ⟨fun q => q.1, fun q => ⟨q, c1⟩⟩
    · rw [if_neg c2]; exact hi
  · rw [if_neg c1]
    by_cases c3 : lck q cv h s ≤ e.2.2
    · rw [if_pos c3]
      refine ⟨?_, rfl⟩
      rw [i32_le] at c3
      by_cases c2 : crk q cv g h' s = true
      · rw [if_pos c2, and_or]
        have := hck.mp c2
        constructor
        · intro z; exact absurd (by rw [Int32.and_comm]; exact z.2) c1
        · intro z; omega
      · rw [if_neg c2]; exact hi
    · rw [if_neg c3]
      refine ⟨?_, rfl⟩
      rw [i32_le] at c3
      show _ ↔ (lck q cv h s).toInt ≤ 4 * g
      by_cases c2 : crk q cv g h' s = true
      · rw [if_pos c2, and_or]
        have := hck.mp c2
        constructor
        · intro z; exact absurd (by rw [Int32.and_comm]; exact z.2) c1
        · intro z; omega
      · rw [if_neg c2]
        have h5 : ¬ 4 * g < (lck q cv h s).toInt := fun z => c2 (hck.mpr z)
        show (hB h' &&& e.2.1 = 0 ↔ _)
        constructor
        · intro _; omega
        · intro _; exact hi.mpr (by omega)
theorem odd_A {q : QF} (hq : QB q) {cv : CV} (hc : ∀ s, s < 9 → 0 ≤ (cv 3 s).toInt ∧ (cv 3 s).toInt ≤ 99) {g : Int} : ∀ (k s : Nat) (h h' : HS) (e : EX), s + k ≤ 9 → E4 h h' → (hB h' &&& e.2.1 = 0 ↔ e.2.2.toInt ≤ 4 * g) → (hB (sInA q cv g k s h') &&& e.2.1 = 0 ↔ (eInA q cv k s h e).2.2.toInt ≤ 4 * g) ∧ (eInA q cv k s h e).2.1 = e.2.1 ∧ E4 (sInA q cv 0 k s h) (sInA q cv g k s h') := by
  intro k
  induction k with
  | zero => intro s h h' e _ h4 hi; exact ⟨hi, rfl, h4⟩
  | succ k ih =>
    intro s h h' e hs h4 hi
    rw [sInA, eInA, sInA]
    obtain ⟨a, b⟩ := odd_S hq (hc s (by omega)) h4 hi
    have := ih (s + 1) _ _ (eIn q cv s h e) (by omega) (E4_S q cv h4 0 g s) a
    rw [b] at this
    exact this
theorem odd_I {q : QF} (hq : QB q) {cv : CV} (hc : ∀ s, s < 9 → 0 ≤ (cv 3 s).toInt ∧ (cv 3 s).toInt ≤ 99) {g : Int} : ∀ (n : Nat) (h h' : HS) (e : EX), E4 h h' → (hB h' &&& e.2.1 = 0 ↔ e.2.2.toInt ≤ 4 * g) → (hB (sInches q cv g n h') &&& e.2.1 = 0 ↔ (eInches q cv n h e).2.2.toInt ≤ 4 * g) := by
  intro n
  induction n with
  | zero => intro h h' e _ hi; exact hi
  | succ n ih =>
    intro h h' e h4 hi
    rw [sInches, eInches, ← h4.2.2.2]
    by_cases c : 12 ≤ hS h
    · rw [if_pos c, if_pos c]; exact hi
    · rw [if_neg c, if_neg c]
      have h4' : E4 (sIn1 h) (sIn1 h') := ⟨h4.1, h4.2.1, h4.2.2.1, by show hS h + 1 = hS h' + 1; rw [h4.2.2.2]⟩
      obtain ⟨a, b, d⟩ := odd_A hq hc 9 0 (sIn1 h) (sIn1 h') e (by omega) h4' hi
      have := ih (sInch q cv 0 h) (sInch q cv g h') (eInA q cv 9 0 (sIn1 h) e) d (by rw [b]; exact a)
      rw [b] at this
      exact this
/-- how many of the k from a on hold -/
def cnt (p : Int → Bool) : Nat → Int → Nat → Nat
  | 0, _, a => a
  | m + 1, k, a => cnt p m (k + 1) (if p k = true then a + 1 else a)
theorem cnt_c {p p' : Int → Bool} {lo hi : Int} (hp : ∀ k, lo ≤ k → k ≤ hi → p k = p' k) : ∀ (m : Nat) (k : Int) (a : Nat), lo ≤ k → k + m ≤ hi + 1 → cnt p m k a = cnt p' m k a := by
  intro m
  induction m with
  | zero => intro k a _ _; rfl
  | succ m ih => intro k a h1 h2; rw [cnt, cnt, hp k h1 (by omega)]; exact ih _ _ (by omega) (by omega)
theorem cnt_le (p : Int → Bool) : ∀ (m : Nat) (k : Int) (a : Nat), a ≤ cnt p m k a ∧ cnt p m k a ≤ a + m := by
  intro m
  induction m with
  | zero => intro k a; exact ⟨Nat.le_refl _, Nat.le_refl _⟩
  | succ m ih =>
    intro k a
    rw [cnt]
    have := ih (k + 1) (if p k = true then a + 1 else a)
    split at this <;> rename_i c
    · rw [if_pos c]; omega
    · rw [if_neg c]; omega
def k32 (k : Int) : Int32 := Int32.ofInt k
theorem k32_int {k : Int} (h : -1000 ≤ k) (h2 : k ≤ 1000) : (k32 k).toInt = k := Int32.toInt_ofInt_of_le (by omega) (by omega)
theorem k32_inc (k : Int) : k32 k + 1 = k32 (k + 1) := (Int32.ofInt_add k 1).symm
theorem k32_neg (v : Nat) : -(n32 v) = k32 (-(v : Int)) := Int32.neg_ofNat
theorem X_chances (x : CS) {v : Nat} (hv : v ≤ 5) : f_X2_chancesWhole x (n32 v) = some (n32 (cnt (fun k => decide ((gi x 48 10).toInt ≤ 4 * k)) (2 * v + 1) (-(v : Int)) 0)) := by
  have key : ∀ (m : Nat) (k : Int) (a n : Nat), k + m = (v : Int) + 1 → -5 ≤ k → m < n → f_X2_chancesWhole_5 x n (n32 v) (n32 a) (k32 k) = some (n32 (cnt (fun k => decide ((gi x 48 10).toInt ≤ 4 * k)) m k a)) := by
    intro m
    induction m with
    | zero =>
      intro k a n hk h5 hn
      obtain ⟨n, rfl⟩ : ∃ w, n = w + 1 := ⟨n - 1, by omega⟩
      rw [f_X2_chancesWhole_5]
      exact if_pos (i32_lt.mpr (by rw [n32_int (by omega), k32_int (by omega) (by omega)]; omega))
    | succ m ih =>
      intro k a n hk h5 hn
      obtain ⟨n, rfl⟩ : ∃ w, n = w + 1 := ⟨n - 1, by omega⟩
      refine wp_eq ?_
      rw [f_X2_chancesWhole_5, cnt]
      unfold f_X2_chancesWhole_23
      refine wp_e (fun q => by rw [i32_lt, n32_int (by omega), k32_int (by omega) (by omega)] at q; omega) ?_
      have e4 : (4 * k32 k).toInt = 4 * k := by
        have := k32_int (k := k) (by omega) (by omega)
        rw [i32_mul, z_4, this] <;> rw [z_4, this] <;> omega
      rw [n_inc, k32_inc]
      refine wp_i (fun c => ?_) (fun c => ?_)
      · rw [i32_lt, e4] at c
        rw [if_neg (by rw [decide_eq_true_iff]; omega)]
        exact ⟨_, ih (k + 1) a n (by omega) (by omega) (by omega), rfl⟩
      · rw [i32_lt, e4] at c
        rw [if_pos (by rw [decide_eq_true_iff]; omega)]
        exact ⟨_, ih (k + 1) (a + 1) n (by omega) (by omega) (by omega), rfl⟩
  unfold f_X2_chancesWhole
  rw [k32_neg]
  exact key (2 * v + 1) (-(v : Int)) 0 1000 (by omega) (by omega) (by omega)
