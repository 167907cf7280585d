/-! ===== pure: the hull's bounds ===== -/
theorem sInA_W (q : QF) (cv : CV) (g : Int) : ∀ (k s : Nat) (h : HS) (j : Nat), hW (sInA q cv g k s h) j = if s ≤ j ∧ j < s + k then hW h j + n32 (shn j) else hW h j := by
  intro k
  induction k with
  | zero => intro s h j; rw [if_neg (by omega)]; rfl
  | succ k ih =>
    intro s h j
    rw [sInA, ih]
    by_cases hj : j = s
    · subst hj
      rw [if_neg (by omega), if_pos (by omega)]
      exact upd_e _ _ _
    · have e : hW (sInS q cv g s h) j = hW h j := upd_n _ _ hj
      rw [e]
      by_cases c : s + 1 ≤ j ∧ j < s + 1 + k
      · rw [if_pos c, if_pos (by omega)]
      · rw [if_neg c, if_neg (by omega)]
theorem sInA_T (q : QF) (cv : CV) (g : Int) : ∀ (k s : Nat) (h : HS), hT (sInA q cv g k s h) = hT h := by
  intro k
  induction k with
  | zero => intro s h; rfl
  | succ k ih => intro s h; rw [sInA, ih]; rfl
theorem sInA_S (q : QF) (cv : CV) (g : Int) : ∀ (k s : Nat) (h : HS), hS (sInA q cv g k s h) = hS h := by
  intro k
  induction k with
  | zero => intro s h; rfl
  | succ k ih => intro s h; rw [sInA, ih]; rfl
theorem sInA_H (q : QF) (cv : CV) (g : Int) : ∀ (k s : Nat) (h : HS) (j : Nat), hH (sInA q cv g k s h) j = if s ≤ j ∧ j < s + k then hup h j else hH h j := by
  intro k
  induction k with
  | zero => intro s h j; rw [if_neg (by omega)]; rfl
  | succ k ih =>
    intro s h j
    rw [sInA, ih]
    by_cases hj : j = s
    · subst hj
      rw [if_neg (by omega), if_pos (by omega)]
      exact upd_e _ _ _
    · have e : hH (sInS q cv g s h) j = hH h j := upd_n _ _ hj
      have e2 : hup (sInS q cv g s h) j = hup h j := by unfold hup; rw [e]; rfl
      rw [e, e2]
      by_cases c : s + 1 ≤ j ∧ j < s + 1 + k
      · rw [if_pos c, if_pos (by omega)]
      · rw [if_neg c, if_neg (by omega)]
/-- bounds, behind w WORKINGS -/
def BH (w : Nat) (h : HS) : Prop := (0 ≤ (hS h).toInt ∧ (hS h).toInt ≤ 12) ∧ ∀ s, s < 9 → (1 ≤ (hW h s).toInt ∧ (hW h s).toInt ≤ 99 + 4 * (hS h).toInt) ∧ (0 ≤ (hT h s).toInt ∧ (hT h s).toInt ≤ 20) ∧ (0 ≤ (hH h s).toInt ∧ (hH h s).toInt ≤ 99 + 10 * w + (hS h).toInt)
theorem BH_mono {w w' : Nat} (hw : w ≤ w') {h : HS} (b : BH w h) : BH w' h := ⟨b.1, fun s hs => by have := b.2 s hs; omega⟩
theorem sDeep_0 {dr : Bool} {d : Int32} {l : Int64} (h : 0 ≤ d.toInt) : 0 ≤ (sDeep dr d l).toInt := by
  unfold sDeep
  split
  · split
    · rename_i c; rw [i32_le, z_0] at c; exact c
    · rw [z_0]; omega
  · exact h
theorem sFire_BH {q : QF} (hq : QB q) {cv : CV} {dr : Bool} {s w : Nat} (hs : s < 9) {h : HS} (b : BH w h) : BH w (sFire q cv dr s h) := by
  have hd := sDeep_0 (dr := dr) (l := hL h) (hq 0 (hT h s) (hW h s) (cv 4 s)).1
  unfold sFire sHit
  generalize sDeep dr (q 0 (hT h s) (hW h s) (cv 4 s)) (hL h) = d at hd ⊢
  have hT0 := (b.2 s hs).2.1
  have hd2 := i32_hi d
  have e : (hT h s - d).toInt = (hT h s).toInt - d.toInt := i32_sub (by omega) (by omega)
  have up : ∀ v : Int32, 0 ≤ v.toInt → v.toInt ≤ 20 → ∀ B L, BH w (hW h, upd (hT h) s v, hH h, B, hS h, L) := by
    intro v h0 h1 B L
    refine ⟨b.1, fun j hj => ⟨(b.2 j hj).1, ?_, (b.2 j hj).2.2⟩⟩
    show 0 ≤ (upd (hT h) s v j).toInt ∧ (upd (hT h) s v j).toInt ≤ 20
    by_cases c : j = s
    · subst c; rw [upd_e]; exact ⟨h0, h1⟩
    · rw [upd_n _ _ c]; exact (b.2 j hj).2.1
  split
  · rename_i c
    rw [i32_lt, z_0, e] at c
    exact up _ (by rw [e]; omega) (by rw [e]; omega) _ _
  · exact up 0 (by rw [z_0]; omega) (by rw [z_0]; omega) _ _
theorem sBurn_BH {q : QF} (hq : QB q) {cv : CV} {dr : Bool} {s w : Nat} (hs : s < 9) {low : Int32} : ∀ (n : Nat) (h : HS), BH w h → BH w (sBurn q cv dr s low n h) := by
  intro n
  induction n with
  | zero => intro h b; exact b
  | succ n ih => intro h b; rw [sBurn]; split
                 · exact b
                 · exact ih _ (sFire_BH hq hs b)
theorem sAll_BH {f : Nat → HS → HS} {w : Nat} (hf : ∀ s h, s < 9 → BH w h → BH w (f s h)) (sec : Nat) : ∀ (k s : Nat) (h : HS), s + k ≤ 9 → BH w h → BH w (sAll f sec k s h) := by
  intro k
  induction k with
  | zero => intro s h _ b; exact b
  | succ k ih => intro s h hs b; rw [sAll]; refine ih _ _ (by omega) ?_
                 split
                 · exact hf s h (by omega) b
                 · exact b
theorem hup_b {h : HS} {s : Nat} (h0 : 0 ≤ (hH h s).toInt) (h1 : (hH h s).toInt ≤ 1000) : (hH h s).toInt ≤ (hup h s).toInt ∧ (hup h s).toInt ≤ (hH h s).toInt + 1 := by
  unfold hup
  split
  · have e : (hH h s + 1).toInt = (hH h s).toInt + 1 := by rw [i32_add, z_1] <;> rw [z_1] <;> omega
    rw [e]; omega
  · omega
theorem sInch_BH {q : QF} {cv : CV} {g : Int} {w : Nat} (hw : w ≤ 20) {h : HS} (b : BH w h) (hS12 : (hS h).toInt < 12) : BH w (sInch q cv g h) ∧ (hS (sInch q cv g h)).toInt = (hS h).toInt + 1 := by
  unfold sInch
  have e1 : (hS h + 1).toInt = (hS h).toInt + 1 := by have := b.1; rw [i32_add, z_1] <;> rw [z_1] <;> omega
  have eS : hS (sInA q cv g 9 0 (sIn1 h)) = hS h + 1 := sInA_S q cv g 9 0 (sIn1 h)
  refine ⟨⟨?_, fun s hs => ?_⟩, by rw [eS, e1]⟩
  · rw [eS, e1]; have := b.1; omega
  · obtain ⟨b1, b2, b3⟩ := b.2 s hs
    rw [eS, e1, sInA_W, sInA_T, sInA_H, if_pos (by omega), if_pos (by omega)]
    have ew : hW (sIn1 h) s = hW h s := rfl
    have et : hT (sIn1 h) = hT h := rfl
    have eh : hH (sIn1 h) s = hH h s := rfl
    rw [ew, et]
    have hn := shn_le s
    have hb := b.1
    have e2 : (hW h s + n32 (shn s)).toInt = (hW h s).toInt + (shn s : Int) := by rw [i32_add, n32_int (by omega)] <;> rw [n32_int (by omega)] <;> omega
    have h3 := hup_b (h := sIn1 h) (s := s) (by rw [eh]; omega) (by rw [eh]; omega)
    rw [eh] at h3
    rw [e2]
    omega
theorem sInches_BH {q : QF} {cv : CV} {g : Int} {w : Nat} (hw : w ≤ 20) : ∀ (n : Nat) (h : HS), BH w h → BH w (sInches q cv g n h) := by
  intro n
  induction n with
  | zero => intro h b; exact b
  | succ n ih =>
    intro h b
    rw [sInches]
    split
    · exact b
    · rename_i c
      rw [i32_le, z_12] at c
      exact ih _ (sInch_BH hw b (by omega)).1
theorem sSewS_f (s : Nat) (p : HS × Nat) : hW (sSewS s p).1 = hW p.1 ∧ hT (sSewS s p).1 = hT p.1 ∧ hH (sSewS s p).1 = hH p.1 ∧ hS (sSewS s p).1 = hS p.1 := by
  unfold sSewS; split <;> exact ⟨rfl, rfl, rfl, rfl⟩
theorem sSew_f (sec : Nat) : ∀ (k s : Nat) (p : HS × Nat), hW (sSew sec k s p).1 = hW p.1 ∧ hT (sSew sec k s p).1 = hT p.1 ∧ hH (sSew sec k s p).1 = hH p.1 ∧ hS (sSew sec k s p).1 = hS p.1 := by
  intro k
  induction k with
  | zero => intro s p; exact ⟨rfl, rfl, rfl, rfl⟩
  | succ k ih =>
    intro s p
    rw [sSew]
    have h1 := ih (s + 1) (if sec = 9 ∨ sec = s then sSewS s p else p)
    have h2 := sSewS_f s p
    by_cases c : sec = 9 ∨ sec = s
    · rw [if_pos c] at h1 ⊢
      exact ⟨h1.1.trans h2.1, h1.2.1.trans h2.2.1, h1.2.2.1.trans h2.2.2.1, h1.2.2.2.trans h2.2.2.2⟩
    · rw [if_neg c] at h1 ⊢
      exact h1
theorem BH_same {w : Nat} {h h' : HS} (e : hW h' = hW h ∧ hT h' = hT h ∧ hH h' = hH h ∧ hS h' = hS h) (b : BH w h) : BH w h' := by
  obtain ⟨e1, e2, e3, e4⟩ := e
  unfold BH
  rw [e1, e2, e3, e4]
  exact b
theorem sRaise_all (mo sec : Nat) : ∀ (k s : Nat) (h : HS), hW (sAll (sRaise mo) sec k s h) = hW h ∧ hT (sAll (sRaise mo) sec k s h) = hT h ∧ hS (sAll (sRaise mo) sec k s h) = hS h ∧ ∀ j, hH (sAll (sRaise mo) sec k s h) j = hH h j ∨ hH (sAll (sRaise mo) sec k s h) j = hH h j + n32 mo ∧ s ≤ j := by
  intro k
  induction k with
  | zero => intro s h; exact ⟨rfl, rfl, rfl, fun j => Or.inl rfl⟩
  | succ k ih =>
    intro s h
    rw [sAll]
    obtain ⟨a, b, c, d⟩ := ih (s + 1) (if sec = 9 ∨ sec = s then sRaise mo s h else h)
    by_cases hc : sec = 9 ∨ sec = s
    · rw [if_pos hc] at a b c d ⊢
      refine ⟨a, b, c, fun j => ?_⟩
      by_cases hj : j = s
      · subst hj
        rcases d j with d | d
        · rw [d]; exact Or.inr ⟨upd_e _ _ _, Nat.le_refl _⟩
        · exfalso; omega
      · have e : hH (sRaise mo s h) j = hH h j := upd_n _ _ hj
        have := d j
        rw [e] at this
        rcases this with q | ⟨q, q2⟩
        · exact Or.inl q
        · exact Or.inr ⟨q, by omega⟩
    · rw [if_neg hc] at a b c d ⊢
      refine ⟨a, b, c, fun j => ?_⟩
      rcases d j with q | ⟨q, q2⟩
      · exact Or.inl q
      · exact Or.inr ⟨q, by omega⟩
theorem sMake_BH {q : QF} (hq : QB q) {cv : CV} {dr : Bool} {kd sec mo w : Nat} (hw : w ≤ 10) (hmo : mo ≤ 9) {h : HS} (b : BH w h) : BH (w + 1) (sMake q cv dr kd sec mo h) := by
  unfold sMake
  split
  · exact BH_mono (by omega) (sAll_BH (fun s h hs b => sBurn_BH hq hs mo h b) sec 9 0 h (by omega) b)
  · split
    · exact BH_mono (by omega) (sInches_BH (by omega) mo h b)
    · have hsw := BH_same (sSew_f sec 9 0 (h, mo)) b
      split
      · exact BH_mono (by omega) hsw
      · split
        · obtain ⟨a1, a2, a3, a4⟩ := sRaise_all mo sec 9 0 (sSew sec 9 0 (h, mo)).1
          refine ⟨by rw [a3]; exact hsw.1, fun s hs => ?_⟩
          rw [a1, a2, a3]
          obtain ⟨b1, b2, b3⟩ := hsw.2 s hs
          have hb := hsw.1
          refine ⟨b1, b2, ?_⟩
          rcases a4 s with d | ⟨d, _⟩
          · rw [d]; omega
          · have e2 : (hH (sSew sec 9 0 (h, mo)).1 s + n32 mo).toInt = (hH (sSew sec 9 0 (h, mo)).1 s).toInt + (mo : Int) := by rw [i32_add, n32_int (by omega)] <;> rw [n32_int (by omega)] <;> omega
            rw [d, e2]; omega
        · exact BH_mono (by omega) b
theorem sHull_BH {q : QF} (hq : QB q) {cv : CV} {dr : Bool} {kd sec mo : Nat → Nat} {N : Nat} (hN : N ≤ 10) (hmo : ∀ w, w < N → mo w ≤ 9) : ∀ (k w : Nat) (h : HS), w + k ≤ N → BH w h → BH (w + k) (sHull q cv dr kd sec mo k w h) := by
  intro k
  induction k with
  | zero => intro w h _ b; exact b
  | succ k ih =>
    intro w h hw b
    rw [sHull]
    have := ih (w + 1) _ (by omega) (sMake_BH hq (cv := cv) (dr := dr) (kd := kd w) (sec := sec w) (mo := mo w) (by omega) (hmo w (by omega)) b)
    rw [show w + (k + 1) = w + 1 + k from by omega]
    exact this
theorem hul_BH {x : CS} {y : MS} {m : Nat → Int32} {sp : Nat → Nat} {cv : CV} {N nn : Nat} {kd sec mo : Nat → Nat} {dr : Bool} {L : Int64} (c : CTX x y m sp cv N kd sec mo) (hnn : nn ≤ N) : BH nn (sHull (qM y m sp) cv dr kd sec mo nn 0 (cv 0, cv 1, cv 2, 0, 0, L)) := by
  obtain ⟨_, _, wk, _, _, hb, _⟩ := c
  have := sHull_BH (Qf_QB m sp (gi y 61 1) (gi y 61 2) (gi y 61 3)) (cv := cv) (dr := dr) (kd := kd) (sec := sec) (mo := mo) wk.1 (fun w hw => (wk.2.2 w hw).2.2.2.2.2) nn 0 (cv 0, cv 1, cv 2, 0, 0, L) (by omega) ⟨⟨by show 0 ≤ (0 : Int32).toInt; decide, by show (0 : Int32).toInt ≤ 12; decide⟩, fun s hs => ?_⟩
  · rw [Nat.zero_add] at this; exact this
  · have b0 := hb 0 s (by omega) hs
    have b1 := hb 1 s (by omega) hs
    have b2 := hb 2 s (by omega) hs
    have l0 : clo 0 = 1 := rfl
    have l1 : clo 1 = 1 := rfl
    have l2 : clo 2 = 1 := rfl
    have h0 : chi 0 = 99 := rfl
    have h1 : chi 1 = 20 := rfl
    have h2 : chi 2 = 99 := rfl
    have ez : (hS (cv 0, cv 1, cv 2, (0 : Int32), (0 : Int32), L)).toInt = 0 := rfl
    rw [ez]
    show (1 ≤ (cv 0 s).toInt ∧ (cv 0 s).toInt ≤ _) ∧ (0 ≤ (cv 1 s).toInt ∧ (cv 1 s).toInt ≤ _) ∧ (0 ≤ (cv 2 s).toInt ∧ (cv 2 s).toInt ≤ _)
    omega
