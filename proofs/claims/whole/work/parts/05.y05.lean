/-! ===== pure: workings, the hull whole, by the class ===== -/
theorem n_inc (i : Nat) : n32 i + 1 = n32 (i + 1) := by rw [q_1, n32_add]
theorem n_le {i j : Nat} (h : i ≤ j) (hj : j < 1000000) : n32 i ≤ n32 j := (n32_le (by omega) hj).mpr h
theorem n_nle {i j : Nat} (h : j < i) (hi : i < 1000000) : ¬ n32 i ≤ n32 j := fun q => by have := (n32_le hi (by omega)).mp q; omega
theorem n_lt {i j : Nat} (h : i < j) (hj : j < 1000000) : n32 i < n32 j := (n32_lt (by omega) hj).mpr h
theorem n_nlt {i j : Nat} (h : j ≤ i) (hi : i < 1000000) : ¬ n32 i < n32 j := fun q => by have := (n32_lt hi (by omega)).mp q; omega
theorem n_ne {i j : Nat} (h : i ≠ j) (hi : i < 1000000) (hj : j < 1000000) : ¬ n32 i = n32 j := fun q => h ((n32_inj hi hj).mp q)
def sRng (f : Nat → HS → HS) : Nat → Nat → HS → HS
  | 0, _, h => h
  | k + 1, i, h => sRng f k (i + 1) (f i h)
theorem sAll_9 (f : Nat → HS → HS) : ∀ (k i : Nat) (h : HS), sAll f 9 k i h = sRng f k i h := by
  intro k
  induction k with
  | zero => intro i h; rfl
  | succ k ih => intro i h; rw [sAll, sRng, if_pos (Or.inl rfl)]; exact ih _ _
theorem sAll_1 (f : Nat → HS → HS) {sec : Nat} (hs : sec < 9) (h : HS) : sAll f sec 9 0 h = sRng f 1 sec h := by
  rcases (by omega : sec = 0 ∨ sec = 1 ∨ sec = 2 ∨ sec = 3 ∨ sec = 4 ∨ sec = 5 ∨ sec = 6 ∨ sec = 7 ∨ sec = 8) with rfl | rfl | rfl | rfl | rfl | rfl | rfl | rfl | rfl <;> simp [sAll, sRng]
def sSewR : Nat → Nat → HS × Nat → HS × Nat
  | 0, _, p => p
  | k + 1, i, p => sSewR k (i + 1) (sSewS i p)
theorem sSew_9 : ∀ (k i : Nat) (p : HS × Nat), sSew 9 k i p = sSewR k i p := by
  intro k
  induction k with
  | zero => intro i h; rfl
  | succ k ih => intro i h; rw [sSew, sSewR, if_pos (Or.inl rfl)]; exact ih _ _
theorem sSew_1 {sec : Nat} (hs : sec < 9) (p : HS × Nat) : sSew sec 9 0 p = sSewR 1 sec p := by
  rcases (by omega : sec = 0 ∨ sec = 1 ∨ sec = 2 ∨ sec = 3 ∨ sec = 4 ∨ sec = 5 ∨ sec = 6 ∨ sec = 7 ∨ sec = 8) with rfl | rfl | rfl | rfl | rfl | rfl | rfl | rfl | rfl <;> simp [sSew, sSewR]
theorem X_make84 {x0 : CS} {m : Nat → Int32} {sp : Nat → Nat} {cv : CV} {nm : EX} {e : EX} {kd mo to : Nat} {dr : Bool} (sx : SX x0 m sp cv) (hkd : kd ≤ 5) (hmo : mo ≤ 9) (hto : to ≤ 8) : ∀ (k i n : Nat) (x : CS) (h : HS), i + k = to + 1 → k < n → HX x0 nm h e x → DR dr (hL h) → wp (f_X2_make_84 n x (n32 kd) (n32 mo) (n32 to) (n32 i)) (fun x' => HX x0 nm (sRng (fun s h => sBurn (Qf m sp nm.1 nm.2.1 nm.2.2) cv dr s (if kd = 2 then cv 5 s else 0) mo h) k i h) e x' ∧ DR dr (hL (sRng (fun s h => sBurn (Qf m sp nm.1 nm.2.1 nm.2.2) cv dr s (if kd = 2 then cv 5 s else 0) mo h) k i h))) := by
  intro k
  induction k with
  | zero =>
    intro i n x h hi hn hx hd
    obtain ⟨n, rfl⟩ : ∃ w, n = w + 1 := ⟨n - 1, by omega⟩
    rw [f_X2_make_84]
    exact wp_t (n_lt (by omega) (by omega)) (wp_s ⟨hx, hd⟩)
  | succ k ih =>
    intro i n x h hi hn hx hd
    obtain ⟨n, rfl⟩ : ∃ w, n = w + 1 := ⟨n - 1, by omega⟩
    rw [f_X2_make_84]
    refine wp_e (n_nlt (by omega) (by omega)) ?_
    have fin : ∀ low, low = (if kd = 2 then cv 5 i else 0) → wp (f_X2_make_114 (f_X2_make_84 n) x (n32 kd) (n32 mo) (n32 to) (n32 i) low (n32 mo) (n32 i)) (fun x' => HX x0 nm (sRng (fun s h => sBurn (Qf m sp nm.1 nm.2.1 nm.2.2) cv dr s (if kd = 2 then cv 5 s else 0) mo h) (k + 1) i h) e x' ∧ DR dr (hL (sRng (fun s h => sBurn (Qf m sp nm.1 nm.2.1 nm.2.2) cv dr s (if kd = 2 then cv 5 s else 0) mo h) (k + 1) i h))) := by
      intro low hl
      unfold f_X2_make_114 f_X2_burn
      refine wp_bw (X_burn sx (s := i) (mo := mo) (dr := dr) (low := low) (by omega) (by omega) mo 0 1000 x h (by omega) (by omega) hx hd) (fun x1 hx1 => ?_)
      rw [q_1, n32_add, sRng]
      rw [hl] at hx1
      exact ih (i + 1) n x1 _ (by omega) (by omega) hx1.1 hx1.2
    by_cases hk2 : kd = 2
    · refine wp_t (by rw [hk2]; rfl) ?_
      refine wp_be (X_of1 x (w := 5) (by omega) (by omega)) (fin _ ?_)
      rw [if_pos hk2, gi_of (hx.1.1 (3 + 5) (by omega) (by omega))]
      exact sx.2.1 5 i (by omega) (by omega)
    · exact wp_e (n_ne (j := 2) hk2 (by omega) (by omega)) (fin 0 (by rw [if_neg hk2]))
theorem X_make159 {x0 : CS} {nm : EX} {e : EX} {mo to : Nat} (hmo : mo ≤ 9) (hto : to ≤ 8) : ∀ (k i n : Nat) (x : CS) (h : HS), i + k = to + 1 → k < n → HX x0 nm h e x → wp (f_X2_make_159 n x (n32 mo) (n32 to) (n32 i)) (HX x0 nm (sRng (sRaise mo) k i h) e) := by
  intro k
  induction k with
  | zero =>
    intro i n x h hi hn hx
    obtain ⟨n, rfl⟩ : ∃ w, n = w + 1 := ⟨n - 1, by omega⟩
    rw [f_X2_make_159]
    exact wp_t (n_lt (by omega) (by omega)) (wp_s hx)
  | succ k ih =>
    intro i n x h hi hn hx
    obtain ⟨n, rfl⟩ : ∃ w, n = w + 1 := ⟨n - 1, by omega⟩
    rw [f_X2_make_159]
    refine wp_e (n_nlt (by omega) (by omega)) (wp_g (ib_n (by omega) (by omega)) (wp_g (ib_n (by omega) (by omega)) ?_))
    rw [n32_nat (by omega), q_1, n32_add, hx.2.2.2.2.1 i (by omega), sRng]
    exact ih (i + 1) n _ _ (by omega) (by omega) (HX_H hx)
theorem X_sew {x0 : CS} {nm : EX} {e : EX} {mo to : Nat} (hmo : mo ≤ 9) (hto : to ≤ 8) : ∀ (k i n j : Nat) (x : CS) (h : HS), i + k = to + 1 → k < n → j ≤ mo → HX x0 nm h e x → wp (f_X2_sew_6 n x (n32 to) (n32 mo) (n32 j) (n32 i)) (HX x0 nm (sSewR k i (h, mo - j)).1 e) := by
  intro k
  induction k with
  | zero =>
    intro i n j x h hi hn hj hx
    obtain ⟨n, rfl⟩ : ∃ w, n = w + 1 := ⟨n - 1, by omega⟩
    rw [f_X2_sew_6]
    exact wp_t (n_lt (by omega) (by omega)) (wp_s hx)
  | succ k ih =>
    intro i n j x h hi hn hj hx
    obtain ⟨n, rfl⟩ : ∃ w, n = w + 1 := ⟨n - 1, by omega⟩
    have hs : i < 9 := by omega
    rw [f_X2_sew_6]
    refine wp_e (n_nlt (by omega) (by omega)) ?_
    have h2 : f_X10_isSection (n32 i) = true := sec_t hs
    rw [h2]
    refine wp_e bt ?_
    unfold f_X2_sew_64
    rw [q_1, n32_add, n32_add, X_bit hs, n32_nat (by omega), hx.2.2.2.1 i hs, hx.2.2.2.2.2.1]
    have skip : ¬ (0 < mo - j ∧ ¬ (hB h &&& bit i) = 0 ∧ 0 < hT h i) → wp (f_X2_sew_6 n x (n32 to) (n32 mo) (n32 j) (n32 (i + 1))) (HX x0 nm (sSewR (k + 1) i (h, mo - j)).1 e) := by
      intro hc
      rw [sSewR]
      unfold sSewS
      rw [if_neg hc]
      exact ih (i + 1) n j x h (by omega) (by omega) hj hx
    refine wp_i (fun c1 => ?_) (fun c1 => ?_)
    · have c1 := (n32_le (by omega) (by omega)).mp c1
      exact skip (fun q => by omega)
    · have c1 : ¬ mo ≤ j := fun q => c1 (n_le q (by omega))
      unfold f_X2_isBroken
      rw [X_bit hs, hx.2.2.2.2.2.1]
      by_cases c2 : (hB h &&& bit i) = 0
      · rw [if_pos c2]
        exact wp_t rfl (skip (fun q => q.2.1 c2))
      · rw [if_neg c2]
        refine wp_e bt (wp_g (ib_n hs (by omega)) (wp_i (fun c3 => ?_) (fun c3 => ?_)))
        · exact skip (fun q => by rw [i32_le] at c3; have := q.2.2; rw [i32_lt] at this; omega)
        · rw [sSewR]
          unfold sSewS
          rw [if_pos ⟨by show 0 < mo - j; omega, c2, by show 0 < hT h i; rw [i32_le] at c3; rw [i32_lt]; omega⟩]
          have := ih (i + 1) n (j + 1) _ _ (by omega) (by omega) (by omega) (HX_B (v := hB h &&& (bit i ^^^ (-1))) hx)
          rw [show mo - (j + 1) = mo - j - 1 from by omega] at this
          exact this
theorem and_z (a : Int32) : (0 : Int32) &&& a = 0 := by simp
theorem eInA_0 (q : QF) (cv : CV) : ∀ (k s : Nat) (h : HS) (e : EX), e.2.1 = 0 → eInA q cv k s h e = e := by
  intro k
  induction k with
  | zero => intro s h e _; rfl
  | succ k ih =>
    intro s h e he
    have e1 : eIn q cv s h e = e := by unfold eIn; rw [he, and_z, if_pos rfl]
    rw [eInA, e1]; exact ih _ _ _ he
theorem eInches_0 (q : QF) (cv : CV) : ∀ (k : Nat) (h : HS) (e : EX), e.2.1 = 0 → eInches q cv k h e = e := by
  intro k
  induction k with
  | zero => intro h e _; rfl
  | succ k ih =>
    intro h e he
    rw [eInches]
    split
    · rfl
    · rw [eInA_0 q cv 9 0 _ e he]; exact ih _ _ he
theorem sSewR_L : ∀ (k i : Nat) (p : HS × Nat), hL (sSewR k i p).1 = hL p.1 := by
  intro k
  induction k with
  | zero => intro i p; rfl
  | succ k ih => intro i p; rw [sSewR, ih]; unfold sSewS; split <;> rfl
theorem sRngR_L (mo : Nat) : ∀ (k i : Nat) (h : HS), hL (sRng (sRaise mo) k i h) = hL h := by
  intro k
  induction k with
  | zero => intro i h; rfl
  | succ k ih => intro i h; rw [sRng, ih]; rfl
theorem sInA_L (q : QF) (cv : CV) (g : Int) : ∀ (k s : Nat) (h : HS), hL (sInA q cv g k s h) = hL h := by
  intro k
  induction k with
  | zero => intro s h; rfl
  | succ k ih => intro s h; rw [sInA, ih]; rfl
theorem sInches_L (q : QF) (cv : CV) (g : Int) : ∀ (n : Nat) (h : HS), hL (sInches q cv g n h) = hL h := by
  intro n
  induction n with
  | zero => intro h; rfl
  | succ n ih => intro h; rw [sInches]; split
                 · rfl
                 · rw [ih]; exact sInA_L q cv g 9 0 _
theorem X_make {x0 x : CS} {m : Nat → Int32} {sp : Nat → Nat} {cv : CV} {nm : EX} {h : HS} {e : EX} {kd sec mo : Nat} {dr : Bool} (sx : SX x0 m sp cv) (hkd : kd ≤ 5) (hsec : sec ≤ 9) (hmo : mo ≤ 9) (he : e.2.1 = 0) (hx : HX x0 nm h e x) (hd : DR dr (hL h)) : wp (f_X2_make x (n32 kd) (n32 sec) (n32 mo)) (fun x' => HX x0 nm (sMake (Qf m sp nm.1 nm.2.1 nm.2.2) cv dr kd sec mo h) e x' ∧ DR dr (hL (sMake (Qf m sp nm.1 nm.2.1 nm.2.2) cv dr kd sec mo h))) := by
  have key : ∀ fr to k, fr + k = to + 1 → to ≤ 8 → fr ≤ 8 → (∀ f h, sAll f sec 9 0 h = sRng f k fr h) → (∀ p, sSew sec 9 0 p = sSewR k fr p) → wp (f_X2_make_25 x (n32 kd) (n32 mo) (n32 fr) (n32 to)) (fun x' => HX x0 nm (sMake (Qf m sp nm.1 nm.2.1 nm.2.2) cv dr kd sec mo h) e x' ∧ DR dr (hL (sMake (Qf m sp nm.1 nm.2.1 nm.2.2) cv dr kd sec mo h))) := by
    intro fr to k hk hto hfr hA hS
    unfold f_X2_make_25 f_X2_make_80 sMake
    have h1 : f_X10_isSection (n32 fr) = true := sec_t (by omega)
    have h2 : f_X10_isSection (n32 to) = true := sec_t (by omega)
    rw [h1, h2]
    refine wp_e bt (wp_e bt ?_)
    rcases (by omega : kd = 0 ∨ kd = 1 ∨ kd = 2 ∨ kd = 3 ∨ kd = 4 ∨ kd = 5) with rfl | rfl | rfl | rfl | rfl | rfl
    · exact wp_e (by decide) (wp_e (by decide) (wp_e (by decide) (wp_e (by decide) (wp_e (by decide) (wp_s ⟨hx, hd⟩)))))
    · refine wp_t rfl ?_
      rw [if_pos (Or.inl rfl), hA]
      exact X_make84 sx (kd := 1) (by omega) hmo hto k fr 1000 x h (by omega) (by omega) hx hd
    · refine wp_e (by decide) (wp_t rfl ?_)
      rw [if_pos (Or.inr rfl), hA]
      exact X_make84 sx (kd := 2) (by omega) hmo hto k fr 1000 x h (by omega) (by omega) hx hd
    · refine wp_e (by decide) (wp_e (by decide) (wp_t rfl ?_))
      rw [if_neg (by decide), if_pos rfl]
      unfold f_X2_spreadBy
      refine wp_bw (X_spread sx (mo := mo) (by omega) mo 0 1000 x h e (by omega) (by omega) hx) (fun x1 hx1 => wp_s ⟨?_, ?_⟩)
      · rw [eInches_0 _ _ _ _ _ he] at hx1; exact hx1
      · rw [sInches_L]; exact hd
    · refine wp_e (by decide) (wp_e (by decide) (wp_e (by decide) (wp_t rfl ?_)))
      rw [if_neg (by decide), if_neg (by decide), if_pos rfl, hS]
      unfold f_X2_sew
      refine wp_bw (X_sew hmo hto k fr 1000 0 x h (by omega) (by omega) (by omega) hx) (fun x1 hx1 => wp_s ⟨hx1, ?_⟩)
      rw [sSewR_L]; exact hd
    · refine wp_e (by decide) (wp_e (by decide) (wp_e (by decide) (wp_e (by decide) (wp_t rfl ?_))))
      rw [if_neg (by decide), if_neg (by decide), if_neg (by decide), if_pos rfl, hS, hA]
      unfold f_X2_sew
      refine wp_bw (X_sew hmo hto k fr 1000 0 x h (by omega) (by omega) (by omega) hx) (fun x1 hx1 => ?_)
      refine wp_m (X_make159 hmo hto k fr 1000 x1 _ (by omega) (by omega) hx1) (fun x2 hx2 => ⟨hx2, ?_⟩)
      rw [sRngR_L]
      exact (sSewR_L k fr (h, mo)).symm ▸ hd
  unfold f_X2_make f_X2_make_11
  by_cases h9 : sec = 9
  · subst h9
    refine wp_t rfl (wp_t rfl ?_)
    exact key 0 8 9 (by omega) (by omega) (by omega) (fun f h => sAll_9 f 9 0 h) (fun p => sSew_9 9 0 p)
  · have hne := n_ne (i := sec) (j := 9) h9 (by omega) (by omega)
    refine wp_e hne (wp_e hne ?_)
    exact key sec sec 1 (by omega) (by omega) (by omega) (fun f h => sAll_1 f (by omega) h) (fun p => sSew_1 (by omega) p)
/-- what the WORKINGS are -/
def WK (x0 : CS) (N : Nat) (kd sec mo : Nat → Nat) : Prop := N ≤ 10 ∧ gi x0 30 3 = n32 N ∧ ∀ w, w < N → gi x0 31 w = n32 (kd w) ∧ gi x0 32 w = n32 (sec w) ∧ gi x0 33 w = n32 (mo w) ∧ kd w ≤ 5 ∧ sec w ≤ 9 ∧ mo w ≤ 9
def sHull (q : QF) (cv : CV) (dr : Bool) (kd sec mo : Nat → Nat) : Nat → Nat → HS → HS
  | 0, _, h => h
  | k + 1, w, h => sHull q cv dr kd sec mo k (w + 1) (sMake q cv dr (kd w) (sec w) (mo w) h)
def eFst (b0 b1 : Int32) (w : Nat) (e : EX) : EX := if 0 ≤ e.1 then e else if b1 &&& (b0 ^^^ (-1)) = 0 then e else (n32 w, e.2.1, e.2.2)
def eHull (q : QF) (cv : CV) (dr : Bool) (kd sec mo : Nat → Nat) : Nat → Nat → HS → EX → EX
  | 0, _, _, e => e
  | k + 1, w, h, e => eHull q cv dr kd sec mo k (w + 1) (sMake q cv dr (kd w) (sec w) (mo w) h) (eFst (hB h) (hB (sMake q cv dr (kd w) (sec w) (mo w) h)) w e)
theorem X_has {x0 x : CS} {N : Nat} {kd sec mo : Nat → Nat} (wk : WK x0 N kd sec mo) (hf : ∀ q, 30 ≤ q → q ≤ 33 → x.1 q = x0.1 q) {w : Nat} (hw : w < N) : f_X9_has x (n32 w) = true ∧ f_X9_kind x (n32 w) = some (n32 (kd w)) ∧ f_X9_section x (n32 w) = some (n32 (sec w)) ∧ f_X9_more x (n32 w) = some (n32 (mo w)) := by
  obtain ⟨hN, h30, hq⟩ := wk
  have e1 : f_X9_has x (n32 w) = true := by
    unfold f_X9_has
    rw [q_0, q_10, if_neg (n_nlt (i := w) (j := 0) (by omega) (by omega)), gi_of (hf 30 (by omega) (by omega)), h30, if_neg (n_nle (by omega) (by omega)), if_neg (n_nle (i := 10) (by omega) (by omega))]
  obtain ⟨a, b, c, _⟩ := hq w hw
  refine ⟨e1, ?_, ?_, ?_⟩
  · unfold f_X9_kind
    rw [e1, if_neg bt, gd_t (ib_n (by omega) (by omega)), n32_nat (by omega), gi_of (hf 31 (by omega) (by omega)), a]
  · unfold f_X9_section
    rw [e1, if_neg bt, gd_t (ib_n (by omega) (by omega)), n32_nat (by omega), gi_of (hf 32 (by omega) (by omega)), b]
  · unfold f_X9_more
    rw [e1, if_neg bt, gd_t (ib_n (by omega) (by omega)), n32_nat (by omega), gi_of (hf 33 (by omega) (by omega)), c]
theorem eFst_w {b0 b1 : Int32} {w : Nat} {e : EX} (h : e.2.1 = 0) : (eFst b0 b1 w e).2.1 = 0 := by
  unfold eFst; split
  · exact h
  · split <;> exact h
theorem X_hull17 {x0 : CS} {m : Nat → Int32} {sp : Nat → Nat} {cv : CV} {nm : EX} {N nn : Nat} {kd sec mo : Nat → Nat} {dr : Bool} (sx : SX x0 m sp cv) (wk : WK x0 N kd sec mo) (hnn : nn ≤ N) : ∀ (k w n : Nat) (x : CS) (h : HS) (e : EX), w + k = nn → k < n → e.2.1 = 0 → HX x0 nm h e x → DR dr (hL h) → wp (f_X10_makeHull_17 n x (n32 nn) (n32 w)) (HX x0 nm (sHull (Qf m sp nm.1 nm.2.1 nm.2.2) cv dr kd sec mo k w h) (eHull (Qf m sp nm.1 nm.2.1 nm.2.2) cv dr kd sec mo k w h e)) := by
  have hN := wk.1
  intro k
  induction k with
  | zero =>
    intro w n x h e hi hn he hx hd
    obtain ⟨n, rfl⟩ : ∃ w, n = w + 1 := ⟨n - 1, by omega⟩
    rw [f_X10_makeHull_17]
    exact wp_t (n_le (by omega) (by omega)) (wp_s hx)
  | succ k ih =>
    intro w n x h e hi hn he hx hd
    obtain ⟨n, rfl⟩ : ∃ w, n = w + 1 := ⟨n - 1, by omega⟩
    have hw : w < N := by omega
    obtain ⟨_, e1, e2, e3⟩ := X_has wk (x := x) (fun q a b => hx.1.1 q (by omega) (by omega)) hw
    obtain ⟨_, _, _, b1, b2, b3⟩ := wk.2.2 w hw
    have h30 : gi x 30 3 = n32 N := by rw [gi_of (hx.1.1 30 (by omega) (by omega))]; exact wk.2.1
    rw [f_X10_makeHull_17, h30]
    refine wp_e (n_nle (by omega) (by omega)) (wp_e (n_nle (by omega) (by omega)) ?_)
    refine wp_be e1 (wp_be e2 (wp_be e3 ?_))
    refine wp_bw (X_make sx b1 b2 b3 he hx hd) (fun x1 hx1 => ?_)
    obtain ⟨hx1, hd1⟩ := hx1
    unfold f_X10_makeHull_106
    rw [n_inc, hx1.2.2.2.2.2.2.2.2.1, hx1.2.2.2.2.2.1, hx.2.2.2.2.2.1, sHull, eHull]
    have go : ∀ z, HX x0 nm (sMake (Qf m sp nm.1 nm.2.1 nm.2.2) cv dr (kd w) (sec w) (mo w) h) (eFst (hB h) (hB (sMake (Qf m sp nm.1 nm.2.1 nm.2.2) cv dr (kd w) (sec w) (mo w) h)) w e) z → wp (f_X10_makeHull_17 n z (n32 nn) (n32 (w + 1))) (HX x0 nm (sHull (Qf m sp nm.1 nm.2.1 nm.2.2) cv dr kd sec mo k (w + 1) (sMake (Qf m sp nm.1 nm.2.1 nm.2.2) cv dr (kd w) (sec w) (mo w) h)) (eHull (Qf m sp nm.1 nm.2.1 nm.2.2) cv dr kd sec mo k (w + 1) (sMake (Qf m sp nm.1 nm.2.1 nm.2.2) cv dr (kd w) (sec w) (mo w) h) (eFst (hB h) (hB (sMake (Qf m sp nm.1 nm.2.1 nm.2.2) cv dr (kd w) (sec w) (mo w) h)) w e))) := fun z hz =>
      ih (w + 1) n z _ _ (by omega) (by omega) (eFst_w he) hz hd1
    unfold eFst at *
    refine wp_i (fun c => ?_) (fun c => wp_i (fun c2 => ?_) (fun c2 => ?_))
    · exact go x1 (by rw [if_pos c]; exact hx1)
    · exact go x1 (by rw [if_neg c, if_pos c2]; exact hx1)
    · exact go _ (by rw [if_neg c, if_neg c2]; exact HX_e8 hx1)
theorem X_hull {x : CS} {m : Nat → Int32} {sp : Nat → Nat} {cv : CV} {N nn : Nat} {kd sec mo : Nat → Nat} {dr : Bool} {sd : Int32} (sx : SX x m sp cv) (wk : WK x N kd sec mo) (hnn : nn ≤ N) (hd : DR dr (sd.toInt64 + 1)) : wp (f_X10_makeHull x (n32 nn) sd) (HX x (gi x 9 0, gi x 9 1, gi x 9 2) (sHull (Qf m sp (gi x 9 0) (gi x 9 1) (gi x 9 2)) cv dr kd sec mo nn 0 (cv 0, cv 1, cv 2, 0, 0, sd.toInt64 + 1)) (eHull (Qf m sp (gi x 9 0) (gi x 9 1) (gi x 9 2)) cv dr kd sec mo nn 0 (cv 0, cv 1, cv 2, 0, 0, sd.toInt64 + 1) (-1, 0, -1000000))) := by
  unfold f_X10_makeHull f_X2_drawBy
  refine wp_bw (X_begin sx) (fun x1 hx1 => ?_)
  exact X_hull17 sx wk hnn nn 0 1000 _ _ _ (by omega) (by have := wk.1; omega) rfl (HX_L hx1) hd
