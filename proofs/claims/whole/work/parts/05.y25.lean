/-! ===== pure: trees: fell, mean, which, worth ===== -/
theorem and1 (v : Int32) : v &&& 1 = 0 ∨ v &&& 1 = 1 := by
  have h1 : (v.toBitVec &&& 1#32).toNat ≤ 1 := by
    rw [BitVec.toNat_and]; exact Nat.and_le_right
  have h2 : (v &&& 1).toInt = (v.toBitVec &&& 1#32).toInt := rfl
  have h3 : (v.toBitVec &&& 1#32).toInt = ((v.toBitVec &&& 1#32).toNat : Int) := by
    rw [BitVec.toInt_eq_toNat_cond, if_pos (by omega)]
  rcases (by omega : (v.toBitVec &&& 1#32).toNat = 0 ∨ (v.toBitVec &&& 1#32).toNat = 1) with e | e
  · left; rw [i32_eq, h2, h3, e]; rfl
  · right; rw [i32_eq, h2, h3, e]; rfl
def trn (lean : Int32) (s : Nat) : Int32 := if 0 ≤ lean then (if s ≤ 4 then n32 s else n32 (8 - s)) else (if s ≤ 4 then n32 (4 - s) else n32 (s - 4))
def hur0 (g l k : Int32) (b : Int32) (s : Nat) : Int32 := ((ab32 l * trn l s) + (3 * k)) + (g / 10) - (if (b >>> (n32 s &&& 31)) &&& 1 = 1 then 12 else 0)
def hur (g l k : Int32) (b : Int32) (s : Nat) : Int32 := if 0 ≤ hur0 g l k b s then hur0 g l k b s else 0
theorem X_hurt {x : CS} {y : MS} {q t : Nat} (tr : TR x q y t) {s : Nat} (hs : s < 8) (b : Int32) : f_X7_hurtBy x q (n32 s) b = some (hur (gi y 66 t) (gi y 67 t) (gi y 68 t) b s) := by
  obtain ⟨h1, _, ⟨h3, _⟩, ⟨h4, _⟩, ⟨h5, _⟩, _⟩ := tr
  have fin : ∀ s1 s0, (if (8 - (if 0 ≤ (s1 - s0) then (s1 - s0) else 0 - (s1 - s0))) < (if 0 ≤ (s1 - s0) then (s1 - s0) else 0 - (s1 - s0)) then (8 - (if 0 ≤ (s1 - s0) then (s1 - s0) else 0 - (s1 - s0))) else (if 0 ≤ (s1 - s0) then (s1 - s0) else 0 - (s1 - s0))) = trn (gi y 67 t) s → f_X7_hurtBy_13 q x (n32 s) b s0 s1 = some (hur (gi y 66 t) (gi y 67 t) (gi y 68 t) b s) := by
    intro s1 s0 ht
    unfold f_X7_hurtBy_13
    rw [ht]
    have e7 : (n32 s &&& 7) &&& 31 = n32 s &&& 31 := by
      rcases (by omega : s = 0 ∨ s = 1 ∨ s = 2 ∨ s = 3 ∨ s = 4 ∨ s = 5 ∨ s = 6 ∨ s = 7) with rfl | rfl | rfl | rfl | rfl | rfl | rfl | rfl <;> decide
    have e0 : ∀ z : Int32, (if 0 ≤ z then z else 0 - z) = ab32 z := fun z => by unfold ab32; rw [Int32.zero_sub]
    have last : ∀ z : Int32, (if 0 < z then z else 0) = (if 0 ≤ z then z else 0) := fun z => by
      by_cases c : (0 : Int32) < z
      · rw [if_pos c]; rw [i32_lt] at c; rw [if_pos (i32_le.mpr (by omega))]
      · rw [if_neg c]; rw [i32_lt, z_0] at c
        by_cases c2 : (0 : Int32) ≤ z
        · rw [if_pos c2]; rw [i32_le, z_0] at c2; exact i32_eq.mpr (by rw [z_0]; omega)
        · rw [if_neg c2]
    unfold f_X7_hurtBy_44 f_X7_hurtBy_82
    rw [gd_t h1, gd_t h1, gd_t h1, gd_t h1, gd_t h1, gd_t h1, e7, h3, h4, h5, e0]
    have e1 : ¬ (1 : Int32) = 0 := by decide
    rw [if_pos rfl, if_neg e1, last, last]
    unfold hur hur0
    rcases and1 (b >>> (n32 s &&& 31)) with c | c
    · have e : ¬ (b >>> (n32 s &&& 31)) &&& 1 = 1 := by rw [c]; decide
      rw [if_pos c]
      simp only [if_neg e]
    · have e : ¬ (b >>> (n32 s &&& 31)) &&& 1 = 0 := by rw [c]; decide
      rw [if_neg e]
      simp only [if_pos c]
  unfold f_X7_hurtBy
  rw [gd_t h1, gd_t h1, h4]
  by_cases cl : 0 ≤ gi y 67 t
  · rw [if_pos cl]
    refine fin _ _ ?_
    unfold trn
    rw [if_pos cl]
    rcases (by omega : s = 0 ∨ s = 1 ∨ s = 2 ∨ s = 3 ∨ s = 4 ∨ s = 5 ∨ s = 6 ∨ s = 7) with rfl | rfl | rfl | rfl | rfl | rfl | rfl | rfl <;> decide
  · rw [if_neg cl]
    refine fin _ _ ?_
    unfold trn
    rw [if_neg cl]
    rcases (by omega : s = 0 ∨ s = 1 ∨ s = 2 ∨ s = 3 ∨ s = 4 ∨ s = 5 ∨ s = 6 ∨ s = 7) with rfl | rfl | rfl | rfl | rfl | rfl | rfl | rfl <;> decide
theorem M_hurt {y : MS} {t : Nat} (ht : t < 6) {s : Nat} (hs : s < 8) (k43 : Int32 → Int32 → Int32 → Int32 → Int32 → Int32 → Option Int32) (b a3 a4 a5 : Int32) : (if 0 ≤ (gi y 67 t) then (f_X11_fell_66 k43 y (n32 t) b a3 a4 a5 (n32 s) 0 (n32 s)) else (f_X11_fell_66 k43 y (n32 t) b a3 a4 a5 (n32 s) 4 (n32 s))) = f_X11_fell_151 k43 y (n32 t) b a3 a4 a5 (n32 s) (hur (gi y 66 t) (gi y 67 t) (gi y 68 t) b s) := by
  have et : (n32 t).toNatClampNeg = t := n32_nat (by omega)
  have h88 : f_X11_fell_88 k43 y (n32 t) b a3 a4 a5 (n32 s) (trn (gi y 67 t) s) = f_X11_fell_151 k43 y (n32 t) b a3 a4 a5 (n32 s) (hur (gi y 66 t) (gi y 67 t) (gi y 68 t) b s) := by
    unfold f_X11_fell_88 f_X11_fell_137
    rw [gd_t (ib_n ht (by omega)), gd_t (ib_n ht (by omega)), gd_t (ib_n ht (by omega)), et]
    unfold hur hur0
    have es : f_X11_size (gi y 67 t) = ab32 (gi y 67 t) := rfl
    rw [es]
    by_cases c : (b >>> (n32 s &&& 31)) &&& 1 = 1
    · simp only [if_pos c]
      generalize ab32 (gi y 67 t) * trn (gi y 67 t) s + 3 * gi y 68 t + gi y 66 t / 10 - 12 = Z
      by_cases c2 : 0 ≤ Z
      · rw [if_pos c2, if_pos c2]
      · rw [if_neg c2, if_neg c2]
    · simp only [if_neg c]
      generalize ab32 (gi y 67 t) * trn (gi y 67 t) s + 3 * gi y 68 t + gi y 66 t / 10 - 0 = Z
      by_cases c2 : 0 ≤ Z
      · rw [if_pos c2, if_pos c2]
      · rw [if_neg c2, if_neg c2]
  rw [← h88]
  unfold f_X11_fell_66
  by_cases cl : 0 ≤ gi y 67 t
  · have e : trn (gi y 67 t) s = if s ≤ 4 then n32 s else n32 (8 - s) := by unfold trn; rw [if_pos cl]
    rw [if_pos cl, e]
    rcases (by omega : s = 0 ∨ s = 1 ∨ s = 2 ∨ s = 3 ∨ s = 4 ∨ s = 5 ∨ s = 6 ∨ s = 7) with rfl | rfl | rfl | rfl | rfl | rfl | rfl | rfl <;> rfl
  · have e : trn (gi y 67 t) s = if s ≤ 4 then n32 (4 - s) else n32 (s - 4) := by unfold trn; rw [if_neg cl]
    rw [if_neg cl, e]
    rcases (by omega : s = 0 ∨ s = 1 ∨ s = 2 ∨ s = 3 ∨ s = 4 ∨ s = 5 ∨ s = 6 ∨ s = 7) with rfl | rfl | rfl | rfl | rfl | rfl | rfl | rfl <;> rfl
theorem s_fell : ∀ (x : CS) (y : MS) (a0 a1 a2 : Int32), PP x y → ∃ (r : Int32), f_X10_fell x a0 a1 a2 = some r ∧ f_X11_fell y a0 a1 a2 = some r := by
  intro x y a0 a1 a2 hP
  obtain ⟨n, rf, hQ⟩ := PP_PQ hP
  have hE := hQ.2.2.2.2.2.2.1
  unfold f_X10_fell f_X11_fell f_X10_fell_38 f_X11_fell_31
  rcases X_treeAt hE a0 with ⟨t, ht, rfl, e1, e2, tr⟩ | ⟨e1, e2, _⟩
  · have ht6 : t < 6 := by have := hE.1; omega
    have et : (n32 t).toNatClampNeg = t := n32_nat (by omega)
    rw [e1, e2, Option.bind_some, oc_s, if_neg bt, in_wi, in_wi]
    cases hw : f_X10_within a1 0 255
    · exact ⟨-7, rfl, rfl⟩
    cases hw2 : f_X10_within a2 0 1
    · exact ⟨-7, rfl, rfl⟩
    rw [if_neg bt, if_neg bt, if_neg bt, if_neg bt]
    generalize hh : (fun s => hur (gi y 66 t) (gi y 67 t) (gi y 68 t) a1 s) = H
    have hH : ∀ s, hur (gi y 66 t) (gi y 67 t) (gi y 68 t) a1 s = H s := fun s => congrFun hh s
    have key : ∀ (k s b g g' : Nat), s + k = 8 → b < s → k < g → k < g' → ∃ r, f_X10_fell_47 x g a1 a2 (some (rf t)) (n32 b) (n32 s) = some r ∧ f_X11_fell_43 y g' (n32 t) a1 a2 (n32 b) (H b) (n32 s) = some r := by
      intro k
      induction k with
      | zero =>
        intro s b g g' hs hb hg hg'
        obtain ⟨g, rfl⟩ : ∃ w, g = w + 1 := ⟨g - 1, by omega⟩
        obtain ⟨g', rfl⟩ : ∃ w, g' = w + 1 := ⟨g' - 1, by omega⟩
        have e8 : (8 : Int32) ≤ n32 s := n_le (i := 8) (by omega) (by omega)
        rw [f_X10_fell_47, f_X11_fell_43, oc_s, if_pos e8, if_pos e8, X_hurt tr (by omega), Option.bind_some, hH]
        exact ⟨if a2 = 0 then n32 b else H b, by split <;> rfl, by split <;> rfl⟩
      | succ k ih =>
        intro s b g g' hs hb hg hg'
        obtain ⟨g, rfl⟩ : ∃ w, g = w + 1 := ⟨g - 1, by omega⟩
        obtain ⟨g', rfl⟩ : ∃ w, g' = w + 1 := ⟨g' - 1, by omega⟩
        have e8 : ¬ (8 : Int32) ≤ n32 s := n_nle (i := 8) (by omega) (by omega)
        have hm1 : ¬ n32 b = -1 := fun q => by rw [i32_eq, n32_int (by omega), z_m1] at q; omega
        rw [f_X10_fell_47, f_X11_fell_43, oc_s, if_neg e8, if_neg e8, X_hurt tr (by omega), Option.bind_some, X_hurt tr (by omega), Option.bind_some, gd_t (ib_n ht6 (by omega)), et, M_hurt ht6 (by omega), hH, hH]
        unfold f_X10_fell_77 f_X11_fell_151 f_X11_fell_166 f_X11_fell_174
        rw [oc_s, oc_s, if_neg hm1, n_inc]
        by_cases c : H b ≤ H s
        · rw [if_pos c, if_pos c]; exact ih (s + 1) b g g' (by omega) (by omega) (by omega) (by omega)
        · rw [if_neg c, if_neg c]; exact ih (s + 1) s g g' (by omega) (by omega) (by omega) (by omega)
    have start : f_X11_fell_43 y 1000 (n32 t) a1 a2 (-1) 0 0 = f_X11_fell_43 y 999 (n32 t) a1 a2 (n32 0) (H 0) (n32 1) := by
      have e8 : ¬ (8 : Int32) ≤ n32 0 := n_nle (i := 8) (by omega) (by omega)
      have z : f_X11_fell_43 y 1000 (n32 t) a1 a2 (-1) 0 (n32 0) = f_X11_fell_43 y 999 (n32 t) a1 a2 (n32 0) (H 0) (n32 1) := by
        rw [f_X11_fell_43, if_neg e8, gd_t (ib_n ht6 (by omega)), et, M_hurt ht6 (by omega), hH]
        rfl
      exact z
    rw [start]
    exact key 7 1 0 1000 999 (by omega) (by omega) (by omega) (by omega)
  · rw [e1, e2]; exact ⟨-5, rfl, rfl⟩
/-! means -/
def gd2 (y : MS) (t : Nat) (r : Int32) : Int64 := if 0 ≤ ((gi y 66 t) - (6 * r)) - (3 * (gi y 68 t)) then (((gi y 66 t) - (6 * r)) - (3 * (gi y 68 t))).toInt64 else 0
def sumL (f : Nat → Int64) : Nat → Nat → Int64 → Int64
  | 0, _, a => a
  | k + 1, r, a => sumL f k (r + 1) (a + f r)
def rg (y : MS) (t r : Nat) : Int64 := (gi y 69 (5 * t + r)).toInt64
def mAb (y : MS) (t : Nat) : Int64 := if gi y 70 t = -1 then sumL (fun r => rg y t r * gd2 y t (n32 r)) 5 0 0 else gd2 y t (gi y 70 t)
def mBe (y : MS) (t : Nat) : Int64 := if gi y 70 t = -1 then sumL (fun r => rg y t r) 5 0 0 else 1
theorem X_good {x : CS} {y : MS} {q t : Nat} (tr : TR x q y t) (r : Int32) : ∃ v, f_X7_goodBy x q r = some v ∧ v.toInt64 = gd2 y t r := by
  obtain ⟨h1, _, ⟨h3, _⟩, ⟨h4, _⟩, ⟨h5, _⟩, _⟩ := tr
  refine ⟨if 0 < ((gi y 66 t) - (6 * r)) - (3 * (gi y 68 t)) then ((gi y 66 t) - (6 * r)) - (3 * (gi y 68 t)) else 0, ?_, ?_⟩
  · unfold f_X7_goodBy
    rw [gd_t h1, gd_t h1, gd_t h1, h3, h5]
  · unfold gd2
    generalize ((gi y 66 t) - (6 * r)) - (3 * (gi y 68 t)) = z
    by_cases c : (0 : Int32) < z
    · rw [if_pos c]; rw [i32_lt] at c; rw [if_pos (i32_le.mpr (by omega))]
    · rw [if_neg c]; rw [i32_lt, z_0] at c
      by_cases c2 : (0 : Int32) ≤ z
      · rw [if_pos c2]; rw [i32_le, z_0] at c2
        have : z = 0 := i32_eq.mpr (by rw [z_0]; omega)
        rw [this]
      · rw [if_neg c2]; rfl
theorem X_counts {x : CS} {y : MS} {q t : Nat} (tr : TR x q y t) {r : Nat} (hr : r < 5) : f_X7_counts x q (n32 r) = some (gi y 69 (5 * t + r)) := by
  obtain ⟨h1, h2, _, _, _, _, h7, _⟩ := tr
  have hw : f_X10_within (n32 r) 0 4 = true := wi_t.mpr (by rw [n32_int (by omega), z_0, z_4]; omega)
  unfold f_X7_counts
  rw [gd_t h1, hw, if_neg bt, gd_t h1, gd_t h2, gd_t (ib_n hr (by omega)), n32_nat (by omega), (h7 r hr).1]
theorem M_good (y : MS) {t : Nat} (ht : t < 6) (r : Int32) : f_X11_goodOf y (n32 t) r = some (gd2 y t r) := by
  unfold f_X11_goodOf gd2
  rw [gd_t (ib_n ht (by omega)), gd_t (ib_n ht (by omega)), n32_nat (by omega)]
  split <;> rfl
theorem M_in5 {t r : Nat} : (5 : Int32) * n32 t + n32 r = n32 (5 * t + r) := by rw [q_5, n32_mul, n32_add]
theorem M_mAb (y : MS) {t : Nat} (ht : t < 6) : f_X11_meanAbove y (n32 t) = some (mAb y t) := by
  have key : ∀ (k r g : Nat) (a : Int64), r + k = 5 → k < g → f_X11_meanAbove_27 y g (n32 t) a (n32 r) = some (sumL (fun r => rg y t r * gd2 y t (n32 r)) k r a) := by
    intro k
    induction k with
    | zero =>
      intro r g a hr hg
      obtain ⟨g, rfl⟩ : ∃ w, g = w + 1 := ⟨g - 1, by omega⟩
      rw [f_X11_meanAbove_27]
      exact if_pos (n_le (i := 5) (by omega) (by omega))
    | succ k ih =>
      intro r g a hr hg
      obtain ⟨g, rfl⟩ : ∃ w, g = w + 1 := ⟨g - 1, by omega⟩
      have e5 : ¬ (5 : Int32) ≤ n32 r := n_nle (i := 5) (by omega) (by omega)
      rw [f_X11_meanAbove_27, if_neg e5, M_in5, gd_t (ib_n (by omega) (by omega)), M_good y ht, Option.bind_some, n32_nat (by omega), n_inc]
      exact ih (r + 1) g _ (by omega) (by omega)
  unfold f_X11_meanAbove mAb
  rw [gd_t (ib_n ht (by omega)), n32_nat (by omega)]
  by_cases c : gi y 70 t = -1
  · rw [if_pos c, if_pos c]; exact key 5 0 1000 0 (by omega) (by omega)
  · rw [if_neg c, if_neg c, gd_t (ib_n ht (by omega)), M_good y ht]; rfl
theorem M_mBe (y : MS) {t : Nat} (ht : t < 6) : f_X11_meanBelow y (n32 t) = some (mBe y t) := by
  have key : ∀ (k r g : Nat) (a : Int64), r + k = 5 → k < g → f_X11_meanBelow_17 y g (n32 t) a (n32 r) = some (sumL (fun r => rg y t r) k r a) := by
    intro k
    induction k with
    | zero =>
      intro r g a hr hg
      obtain ⟨g, rfl⟩ : ∃ w, g = w + 1 := ⟨g - 1, by omega⟩
      rw [f_X11_meanBelow_17]
      exact if_pos (n_le (i := 5) (by omega) (by omega))
    | succ k ih =>
      intro r g a hr hg
      obtain ⟨g, rfl⟩ : ∃ w, g = w + 1 := ⟨g - 1, by omega⟩
      have e5 : ¬ (5 : Int32) ≤ n32 r := n_nle (i := 5) (by omega) (by omega)
      rw [f_X11_meanBelow_17, if_neg e5, M_in5, gd_t (ib_n (by omega) (by omega)), n32_nat (by omega), n_inc]
      exact ih (r + 1) g _ (by omega) (by omega)
  unfold f_X11_meanBelow mBe
  rw [gd_t (ib_n ht (by omega)), n32_nat (by omega)]
  by_cases c : gi y 70 t = -1
  · rw [if_pos c, if_pos c]; exact key 5 0 1000 0 (by omega) (by omega)
  · rw [if_neg c, if_neg c]
theorem X_mean {x : CS} {y : MS} {q t : Nat} (hg27 : 27 ≤ gn x) (tr : TR x q y t) : f_X7_mean x q = some (some (61 + gn x), mkF x (mAb y t) (mBe y t)) := by
  have h1 := tr.1
  have key : ∀ (k r g : Nat) (a c : Int64), r + k = 5 → k < g → f_X7_mean_33 q g x a c (n32 r) = some (some (61 + gn x), mkF x (sumL (fun r => rg y t r * gd2 y t (n32 r)) k r a) (sumL (fun r => rg y t r) k r c)) := by
    intro k
    induction k with
    | zero =>
      intro r g a c hr hg
      obtain ⟨g, rfl⟩ : ∃ w, g = w + 1 := ⟨g - 1, by omega⟩
      have e5 : (5 : Int32) ≤ n32 r := n_le (i := 5) (by omega) (by omega)
      rw [f_X7_mean_33, if_pos e5, gd_t (decide_eq_true hg27), mkF_of hg27]; rfl
    | succ k ih =>
      intro r g a c hr hg
      obtain ⟨g, rfl⟩ : ∃ w, g = w + 1 := ⟨g - 1, by omega⟩
      have e5 : ¬ (5 : Int32) ≤ n32 r := n_nle (i := 5) (by omega) (by omega)
      obtain ⟨v, e1, e2⟩ := X_good tr (n32 r)
      rw [f_X7_mean_33, if_neg e5, X_counts tr (by omega), Option.bind_some, e1, Option.bind_some, Option.bind_some, e2, n_inc]
      exact ih (r + 1) g _ _ (by omega) (by omega)
  unfold f_X7_mean mAb mBe
  rw [gd_t h1, gd_t h1, tr.2.2.2.2.2.1.1]
  by_cases c : gi y 70 t = -1
  · rw [if_pos c, if_pos c, if_pos c]; exact key 5 0 6 0 0 (by omega) (by omega)
  · rw [if_neg c, if_neg c, if_neg c]
    have xe : XE x (pal x d3) := ⟨rfl, Nat.le_succ _, fun q hq => gdy_pan _ _ (by omega)⟩
    have tr1 := TR_fr (y' := y) xe (fun _ _ _ => rfl) tr
    obtain ⟨v, e1, e2⟩ := X_good tr1 (gi y 70 t)
    rw [gd_t (decide_eq_true hg27), gd_t tr1.1, tr1.2.2.2.2.2.1.1, e1, Option.bind_some, e2, mkF_of hg27]
    rfl
theorem PE_mk {x x1 : CS} {y : MS} {n : Nat} {rf : Nat → Nat} (h : PE x y n rf) (hx : XE x x1) (h1 : x1.1 = x.1) : PE x1 y n rf := PE_fr h hx (by rw [gi_of (congrFun h1 34)]) (fun _ _ _ => rfl) rfl
/-- a mean, or 0 by 1 -/
def oA (y : MS) (o : Option Nat) : Int64 := match o with
  | none => 0
  | some b => mAb y b
def oB (y : MS) (o : Option Nat) : Int64 := match o with
  | none => 1
  | some b => mBe y b
theorem X_mean1 {x : CS} {y : MS} {n : Nat} {rf : Nat → Nat} (hg27 : 27 ≤ gn x) (hE : PE x y n rf) (o : Option Nat) (ho : ∀ b, o = some b → b < n) : f_X1_mean x (oI o) = some (some (61 + gn x), mkF x (oA y o) (oB y o)) := by
  have hn6 := hE.1
  unfold f_X1_mean
  cases o with
  | none =>
    rcases X_treeAt hE (oI none) with ⟨t, ht, et, _⟩ | ⟨e1, _, _⟩
    · have et : (-1 : Int32) = n32 t := et
      rw [i32_eq, n32_int (by omega), z_m1] at et; omega
    · rw [e1, Option.bind_some, oc_n, gd_t (decide_eq_true hg27), mkF_of hg27]; rfl
  | some b =>
    have hb := ho b rfl
    rcases X_treeAt hE (oI (some b)) with ⟨t, ht, et, e1, _, tr⟩ | ⟨_, _, hno⟩
    · have ebt : t = b := ((n32_inj (by omega) (by omega)).mp et).symm
      subst ebt
      rw [e1, Option.bind_some, oc_s, X_mean hg27 tr]; rfl
    · have hno : (n32 b).toInt < 0 ∨ (n : Int) ≤ (n32 b).toInt := hno
      rw [n32_int (by omega)] at hno; omega
theorem X_above {x : CS} {q1 q2 : Nat} (h1 : kFr x q1 = true) (h2 : kFr x q2 = true) : f_X0_isAbove x q1 q2 = some (decide (¬ lg_cmp (tl x q1 0 * tl x q2 1) (tl x q2 0 * tl x q1 1) ≤ 0)) := by
  unfold f_X0_isAbove
  rw [gd_t h1, gd_t h1, gd_t h2, gd_t h2, gd_t h1]
  by_cases c : lg_cmp (tl x q1 0 * tl x q2 1) (tl x q2 0 * tl x q1 1) ≤ 0
  · rw [if_pos c, decide_eq_false (fun q => q c)]
  · rw [if_neg c, decide_eq_true c]
theorem kFr_XE {x x1 : CS} (hx : XE x x1) {q : Nat} (h : kFr x q = true) : kFr x1 q = true ∧ ∀ j, tl x1 q j = tl x q j := ⟨XE_kd hx h, fun j => by unfold tl; rw [hx.2.2 q (kdy_c h).2.1]⟩
def otk2 (y : MS) (b : Option Nat) (t : Nat) : Bool := match b with
  | none => true
  | some b => decide (¬ lg_cmp (mAb y t * mBe y b) (mAb y b * mBe y t) ≤ 0)
def bbS (y : MS) (but : Int32) : Nat → Nat → Option Nat → Option Nat
  | 0, _, b => b
  | k + 1, t, b => if ¬ n32 t = but ∧ otk2 y b t = true then bbS y but k (t + 1) (some t) else bbS y but k (t + 1) b
theorem bbS_lt {y : MS} {but : Int32} : ∀ (k t : Nat) (b : Option Nat), (∀ z, b = some z → z < t) → ∀ z, bbS y but k t b = some z → z < t + k := by
  intro k
  induction k with
  | zero => intro t b h z hz; exact h z hz
  | succ k ih =>
    intro t b h z hz
    rw [bbS] at hz
    split at hz
    · have := ih (t + 1) (some t) (fun w hw => by cases hw; omega) z hz; omega
    · have := ih (t + 1) b (fun w hw => by have := h w hw; omega) z hz; omega
theorem mBe_1 {x : CS} {y : MS} {q t : Nat} (tr : TR x q y t) : 1 ≤ (mBe y t).toInt ∧ (mBe y t).toInt ≤ 495 ∧ (if 1 < mBe y t then mBe y t else 1) = mBe y t := by
  obtain ⟨_, _, _, _, _, _, h7, h8⟩ := tr
  have key : 1 ≤ (mBe y t).toInt ∧ (mBe y t).toInt ≤ 495 := by
    unfold mBe
    split
    · have r0 := (h7 0 (by omega)).2
      have r1 := (h7 1 (by omega)).2
      have r2 := (h7 2 (by omega)).2
      have r3 := (h7 3 (by omega)).2
      have r4 := (h7 4 (by omega)).2
      have z0 : (0 : Int64).toInt = 0 := rfl
      rw [Nat.add_zero] at r0
      simp only [sumL, rg, Nat.add_zero, Nat.zero_add, Nat.reduceAdd]
      have a0 : (0 + (gi y 69 (5 * t)).toInt64 : Int64).toInt = (gi y 69 (5 * t)).toInt := by rw [Int64.zero_add, Int32.toInt_toInt64]
      have a1 : (0 + (gi y 69 (5 * t)).toInt64 + (gi y 69 (5 * t + 1)).toInt64 : Int64).toInt = (gi y 69 (5 * t)).toInt + (gi y 69 (5 * t + 1)).toInt := by rw [i64_add, a0, Int32.toInt_toInt64] <;> rw [a0, Int32.toInt_toInt64] <;> omega
      have a2 : (0 + (gi y 69 (5 * t)).toInt64 + (gi y 69 (5 * t + 1)).toInt64 + (gi y 69 (5 * t + 2)).toInt64 : Int64).toInt = (gi y 69 (5 * t)).toInt + (gi y 69 (5 * t + 1)).toInt + (gi y 69 (5 * t + 2)).toInt := by rw [i64_add, a1, Int32.toInt_toInt64] <;> rw [a1, Int32.toInt_toInt64] <;> omega
      have a3 : (0 + (gi y 69 (5 * t)).toInt64 + (gi y 69 (5 * t + 1)).toInt64 + (gi y 69 (5 * t + 2)).toInt64 + (gi y 69 (5 * t + 3)).toInt64 : Int64).toInt = (gi y 69 (5 * t)).toInt + (gi y 69 (5 * t + 1)).toInt + (gi y 69 (5 * t + 2)).toInt + (gi y 69 (5 * t + 3)).toInt := by rw [i64_add, a2, Int32.toInt_toInt64] <;> rw [a2, Int32.toInt_toInt64] <;> omega
      have a4 : (0 + (gi y 69 (5 * t)).toInt64 + (gi y 69 (5 * t + 1)).toInt64 + (gi y 69 (5 * t + 2)).toInt64 + (gi y 69 (5 * t + 3)).toInt64 + (gi y 69 (5 * t + 4)).toInt64 : Int64).toInt = (gi y 69 (5 * t)).toInt + (gi y 69 (5 * t + 1)).toInt + (gi y 69 (5 * t + 2)).toInt + (gi y 69 (5 * t + 3)).toInt + (gi y 69 (5 * t + 4)).toInt := by rw [i64_add, a3, Int32.toInt_toInt64] <;> rw [a3, Int32.toInt_toInt64] <;> omega
      rw [a4]; omega
    · decide
  refine ⟨key.1, key.2, ?_⟩
  by_cases c : (1 : Int64) < mBe y t
  · rw [if_pos c]
  · rw [if_neg c]
    have z1 : (1 : Int64).toInt = 1 := rfl
    rw [Int64.lt_iff_toInt_lt, z1] at c
    rw [i64_eq, z1]; omega
theorem X_bestBut {y : MS} {n : Nat} {rf : Nat → Nat} (but : Int32) : ∀ (k t g : Nat) (x : CS) (b : Option Nat), t + k = n → k < g → 27 ≤ gn x → PE x y n rf → (∀ z, b = some z → z < t) → ∃ x1, f_X1_bestBut_4 g x but (oI b) (n32 t) = some (oI (bbS y but k t b), x1) ∧ XE x x1 ∧ x1.1 = x.1 ∧ x1.2.1 = x.2.1 := by
  intro k
  induction k with
  | zero =>
    intro t g x b ht hg h27 hE hb
    obtain ⟨g, rfl⟩ : ∃ w, g = w + 1 := ⟨g - 1, by omega⟩
    have hn6 := hE.1
    rw [f_X1_bestBut_4, hE.2.1, if_pos (n_le (by omega) (by omega))]
    exact ⟨x, rfl, XE_of rfl, rfl, rfl⟩
  | succ k ih =>
    intro t g x b ht hg h27 hE hb
    obtain ⟨g, rfl⟩ : ∃ w, g = w + 1 := ⟨g - 1, by omega⟩
    have hn6 := hE.1
    have htn : t < n := by omega
    have hb' : ∀ z, b = some z → z < t + 1 := fun z hz => by have := hb z hz; omega
    rw [f_X1_bestBut_4, hE.2.1, if_neg (n_nle (by omega) (by omega))]
    unfold f_X1_bestBut_37 f_X1_bestBut_39
    rw [n_inc, bbS]
    by_cases cb : n32 t = but
    · rw [if_pos cb, if_neg (fun q => q.1 cb)]
      exact ih (t + 1) g x b (by omega) (by omega) h27 hE hb'
    rw [if_neg cb]
    cases b with
    | none =>
      rw [if_pos (show oI none < 0 by decide), if_pos ⟨cb, rfl⟩]
      exact ih (t + 1) g x (some t) (by omega) (by omega) h27 hE (fun z hz => by cases hz; omega)
    | some b =>
      have hbt := hb b rfl
      have n1 : ¬ oI (some b) < 0 := n_nlt (i := b) (j := 0) (by omega) (by omega)
      have et : n32 t = oI (some t) := rfl
      obtain ⟨m1, m2, m3, m4⟩ := mkF_XE x (mAb y t) (mBe y t)
      have h27' : 27 ≤ gn (mkF x (mAb y t) (mBe y t)) := by rw [m4]; omega
      have hE1 := PE_mk hE m1 m2
      obtain ⟨p1, p2, p3, p4⟩ := mkF_XE (mkF x (mAb y t) (mBe y t)) (mAb y b) (mBe y b)
      have hE2 := PE_mk hE1 p1 p2
      have h27'' : 27 ≤ gn (mkF (mkF x (mAb y t) (mBe y t)) (mAb y b) (mBe y b)) := by rw [p4]; omega
      obtain ⟨f1, f2, f3⟩ := mkF_fr h27 (mAb y t) (mBe y t)
      obtain ⟨k1, k2⟩ := kFr_XE p1 f1
      obtain ⟨g1, g2, g3⟩ := mkF_fr h27' (mAb y b) (mBe y b)
      have bt' := (mBe_1 (hE.2.2.2.1 t htn).2).2.2
      have bb' := (mBe_1 (hE.2.2.2.1 b (by omega)).2).2.2
      have e1 : f_X1_mean x (n32 t) = some (some (61 + gn x), mkF x (mAb y t) (mBe y t)) := X_mean1 h27 hE (some t) (fun z hz => by cases hz; exact htn)
      have e2 : f_X1_mean (mkF x (mAb y t) (mBe y t)) (oI (some b)) = some (some (61 + gn (mkF x (mAb y t) (mBe y t))), mkF (mkF x (mAb y t) (mBe y t)) (mAb y b) (mBe y b)) := X_mean1 h27' hE1 (some b) (fun z hz => by cases hz; omega)
      rw [if_neg n1, e1, Option.bind_some]
      dsimp only
      rw [oc_s, e2, Option.bind_some]
      dsimp only
      rw [oc_s, X_above k1 g1, Option.bind_some, k2, k2, f2, f3, g2, g3, bt', bb']
      have xe2 : XE x (mkF (mkF x (mAb y t) (mBe y t)) (mAb y b) (mBe y b)) := XE_tr m1 p1
      by_cases c : lg_cmp (mAb y t * mBe y b) (mAb y b * mBe y t) ≤ 0
      · rw [decide_eq_false (fun q => q c), if_pos b2i_f, if_neg (fun q => (of_decide_eq_true q.2) c)]
        obtain ⟨x1, r1, r2, r3, r4⟩ := ih (t + 1) g _ (some b) (by omega) (by omega) h27'' hE2 hb'
        exact ⟨x1, r1, XE_tr xe2 r2, r3.trans (p2.trans m2), r4.trans (p3.trans m3)⟩
      · rw [decide_eq_true c, if_neg bt, if_pos ⟨cb, decide_eq_true c⟩]
        obtain ⟨x1, r1, r2, r3, r4⟩ := ih (t + 1) g _ (some t) (by omega) (by omega) h27'' hE2 (fun z hz => by cases hz; omega)
        exact ⟨x1, r1, XE_tr xe2 r2, r3.trans (p2.trans m2), r4.trans (p3.trans m3)⟩
theorem M_bestBut {y : MS} {n : Nat} (hn : n ≤ 6) (h10 : gi y 61 10 = n32 n) (but : Int32) : f_X11_bestBut y but = some (oI (bbS y but n 0 none)) := by
  have key : ∀ (k t g : Nat) (b : Option Nat), t + k = n → k < g → (∀ z, b = some z → z < t) → f_X11_bestBut_4 y g but (oI b) (n32 t) = some (oI (bbS y but k t b)) := by
    intro k
    induction k with
    | zero =>
      intro t g b ht hg hb
      obtain ⟨g, rfl⟩ : ∃ w, g = w + 1 := ⟨g - 1, by omega⟩
      rw [f_X11_bestBut_4, h10]
      exact if_pos (n_le (by omega) (by omega))
    | succ k ih =>
      intro t g b ht hg hb
      obtain ⟨g, rfl⟩ : ∃ w, g = w + 1 := ⟨g - 1, by omega⟩
      have hb' : ∀ z, b = some z → z < t + 1 := fun z hz => by have := hb z hz; omega
      rw [f_X11_bestBut_4, h10, if_neg (n_nle (by omega) (by omega))]
      unfold f_X11_bestBut_48 f_X11_bestBut_50
      rw [n_inc, bbS]
      by_cases cb : n32 t = but
      · rw [if_pos cb, if_neg (fun q => q.1 cb)]
        exact ih (t + 1) g b (by omega) (by omega) hb'
      rw [if_neg cb]
      cases b with
      | none =>
        rw [if_pos (show oI none = -1 from rfl), if_pos ⟨cb, rfl⟩]
        exact ih (t + 1) g (some t) (by omega) (by omega) (fun z hz => by cases hz; omega)
      | some b =>
        have hbt := hb b rfl
        have n1 : ¬ oI (some b) = -1 := fun q => by
          have q : n32 b = -1 := q
          rw [i32_eq, n32_int (by omega), z_m1] at q; omega
        have eb : oI (some b) = n32 b := rfl
        rw [if_neg n1, eb, M_mAb y (by omega), Option.bind_some, M_mBe y (by omega), Option.bind_some, M_mAb y (by omega), Option.bind_some, M_mBe y (by omega), Option.bind_some]
        by_cases c : lg_cmp (mAb y t * mBe y b) (mAb y b * mBe y t) ≤ 0
        · rw [if_pos c, if_neg (fun q => (of_decide_eq_true q.2) c)]
          exact ih (t + 1) g (some b) (by omega) (by omega) hb'
        · rw [if_neg c, if_pos ⟨cb, decide_eq_true c⟩]
          exact ih (t + 1) g (some t) (by omega) (by omega) (fun z hz => by cases hz; omega)
  exact key n 0 1000 none (by omega) (by omega) (fun z hz => by cases hz)
theorem s_which : ∀ (x : CS) (y : MS), PP x y → ∃ (r : Int32) (x1 : CS), f_X10_which x = some (r, x1) ∧ f_X11_which y = some r ∧ PP x1 y := by
  intro x y hP
  obtain ⟨n, rf, hQ⟩ := PP_PQ hP
  have hE := hQ.2.2.2.2.2.2.1
  have hn6 := hE.1
  obtain ⟨x1, e1, e2, e3, e4⟩ := X_bestBut (y := y) (-1) n 0 7 x none (by omega) (by omega) hP.1.1 hE (fun z hz => by cases hz)
  have e1 : f_X1_bestBut x (-1) = _ := e1
  refine ⟨oI (bbS y (-1) n 0 none), x1, ?_, ?_, PP_fr hP ⟨fun q _ _ _ => congrFun e3 q, e2⟩ (MF_rfl y)⟩
  · unfold f_X10_which; rw [e1]; rfl
  · unfold f_X11_which; rw [M_bestBut hn6 hE.2.2.1]; rfl
