/-! ===== pure: copy, worksBy, taken, forest ===== -/
theorem M_copy {a b N : Nat} (hN : N ≤ 40) (ha : a + N ≤ 160) (hb : b + N ≤ 160) : ∀ (k j n : Nat) (y0 y : MS), j + k = N → k < n → (∀ q, q ≠ 79 → y.1 q = y0.1 q) → y.2 = y0.2 →
    (∀ p, gi y 79 p = if b ≤ a then (if b ≤ p ∧ p < b + j then gi y0 79 (a + (p - b)) else gi y0 79 p) else (if b + N - j ≤ p ∧ p < b + N then gi y0 79 (a + (p - b)) else gi y0 79 p)) →
    ∃ y1, f_X11_copy_147 n y (n32 N) (n32 a) (n32 b) (n32 j) = some (n32 N, y1) ∧ (∀ q, q ≠ 79 → y1.1 q = y0.1 q) ∧ y1.2 = y0.2 ∧ (∀ p, gi y1 79 p = if b ≤ p ∧ p < b + N then gi y0 79 (a + (p - b)) else gi y0 79 p) := by
  intro k
  induction k with
  | zero =>
    intro j n y0 y hj hn h1 h2 h3
    obtain ⟨n, rfl⟩ : ∃ w, n = w + 1 := ⟨n - 1, by omega⟩
    have e : j = N := by omega
    subst e
    rw [f_X11_copy_147]
    refine ⟨y, if_pos (n_le (Nat.le_refl _) (by omega)), h1, h2, fun p => ?_⟩
    rw [h3 p]
    by_cases c : b ≤ a
    · rw [if_pos c]
    · rw [if_neg c, show b + j - j = b from by omega]
  | succ k ih =>
    intro j n y0 y hj hn h1 h2 h3
    obtain ⟨n, rfl⟩ : ∃ w, n = w + 1 := ⟨n - 1, by omega⟩
    rw [f_X11_copy_147, if_neg (n_nle (by omega) (by omega))]
    unfold f_X11_copy_173
    by_cases c : b ≤ a
    · rw [if_pos (n_le c (by omega)), n32_add, n32_add, gd_t (ib_n (by omega) (by omega)), gd_t (ib_n (by omega) (by omega)), n32_nat (by omega), n32_nat (by omega), n_inc]
      refine ih (j + 1) n y0 _ (by omega) (by omega) (fun q hq => by rw [pi1_q _ _ _ hq]; exact h1 q hq) h2 (fun p => ?_)
      rw [if_pos c, gp_if]
      have h3' := fun p => (h3 p).trans (if_pos c)
      by_cases cp : p = b + j
      · rw [if_pos ⟨rfl, cp⟩, if_pos (by omega), h3', if_neg (by omega)]
        congr 1; omega
      · rw [if_neg (fun q => cp q.2), h3']
        by_cases c2 : b ≤ p ∧ p < b + j
        · rw [if_pos c2, if_pos (by omega)]
        · rw [if_neg c2, if_neg (by omega)]
    · rw [if_neg (n_nle (by omega) (by omega)), q_1, n32_sub (by omega), n32_sub (by omega), n32_add, n32_add, gd_t (ib_n (by omega) (by omega)), gd_t (ib_n (by omega) (by omega)), n32_nat (by omega), n32_nat (by omega), n32_add]
      refine ih (j + 1) n y0 _ (by omega) (by omega) (fun q hq => by rw [pi1_q _ _ _ hq]; exact h1 q hq) h2 (fun p => ?_)
      rw [if_neg c, gp_if]
      have h3' := fun p => (h3 p).trans (if_neg c)
      by_cases cp : p = b + (N - 1 - j)
      · rw [if_pos ⟨rfl, cp⟩, if_pos (by omega), h3', if_neg (by omega)]
        congr 1; omega
      · rw [if_neg (fun q => cp q.2), h3']
        by_cases c2 : b + N - j ≤ p ∧ p < b + N
        · rw [if_pos c2, if_pos (by omega)]
        · rw [if_neg c2, if_neg (by omega)]
theorem X_hasAll {x : CS} {s n : Nat} (hs : s < 4) (hn : n ≤ 40) (h2 : gi x (53 + 2 * s) 2 = n32 n) (a m : Int32) : f_X4_hasAll x (53 + 2 * s) a m = some (decide (0 ≤ m.toInt ∧ 0 ≤ a.toInt ∧ a.toInt + m.toInt ≤ n)) := by
  unfold f_X4_hasAll f_X4_hasAll_22
  have hm := i32_hi m
  have ha := i32_hi a
  rw [kSh_t hs, gd_tt, gd_tt, h2]
  by_cases c1 : m < 0
  · rw [if_pos c1]; rw [i32_lt, z_0] at c1; rw [decide_eq_false (by omega)]
  rw [if_neg c1]; rw [i32_lt, z_0] at c1
  by_cases c2 : a < 0
  · rw [if_pos c2]; rw [i32_lt, z_0] at c2; rw [decide_eq_false (by omega)]
  rw [if_neg c2]; rw [i32_lt, z_0] at c2
  have es : (n32 n - m).toInt = (n : Int) - m.toInt := by rw [i32_sub, n32_int (by omega)] <;> rw [n32_int (by omega)] <;> omega
  by_cases c3 : n32 n - m < a
  · rw [if_pos c3]; rw [i32_lt, es] at c3; rw [decide_eq_false (by omega)]
  · rw [if_neg c3]; rw [i32_lt, es] at c3; rw [decide_eq_true (by omega)]
theorem s_copy : ∀ (x : CS) (y : MS) (a0 a1 a2 a3 a4 : Int32), PP x y → ∃ (r : Int32) (x1 : CS) (y1 : MS), f_X10_copy x a0 a1 a2 a3 a4 = some (r, x1) ∧ f_X11_copy y a0 a1 a2 a3 a4 = some (r, y1) ∧ PP x1 y1 := by
  intro x y a0 a1 a2 a3 a4 hP
  unfold f_X10_copy f_X11_copy f_X10_copy_24 f_X10_copy_43 f_X10_copy_85 f_X11_copy_18 f_X11_copy_41 f_X11_copy_124
  rw [in_wi, in_wi]
  rcases wi_cases a0 0 3 (by decide) with hs | ⟨hs, s, _, hs2, rfl⟩
  · rw [hs, X_sheetNo hs]
    rcases wi_cases a2 0 3 (by decide) with ho | ⟨ho, o, _, ho2, rfl⟩
    · rw [X_sheetNo ho]; exact sim0 hP (-2) rfl rfl
    · rw [X_sheetAt (by rw [z_3] at ho2; omega)]; exact sim0 hP (-2) rfl rfl
  have hs4 : s < 4 := by rw [z_3] at hs2; omega
  rw [hs, if_neg bt, X_sheetAt hs4, Option.bind_some, oc_s]
  rcases wi_cases a2 0 3 (by decide) with ho | ⟨ho, o, _, ho2, rfl⟩
  · rw [ho, X_sheetNo ho]; exact sim0 hP (-2) rfl rfl
  have ho4 : o < 4 := by rw [z_3] at ho2; omega
  have hPH := hP.2.2.2.2.2.1
  obtain ⟨⟨h77, hb1, hb2⟩, ⟨n, hn, h2s, h78⟩, hc⟩ := hPH s hs4
  obtain ⟨⟨o77, _, _⟩, ⟨no, hno, o2s, o78⟩, oc⟩ := hPH o ho4
  have hib : ib (n32 s) 4 = true := ib_n hs4 (by omega)
  have oib : ib (n32 o) 4 = true := ib_n ho4 (by omega)
  rw [ho, if_neg bt, X_sheetAt ho4, Option.bind_some, oc_s, X_missing hs4, X_missing ho4, Option.bind_some, h77, o77, n32_nat (by omega), n32_nat (by omega), hib, oib, h78, o78, kSh_t hs4, kSh_t ho4, X_hasAll hs4 hn h2s, X_hasAll ho4 hno o2s]
  simp only [gd_tt]
  by_cases cm : gi y 77 s = -1
  · rw [decide_eq_true cm, if_neg bt, if_pos cm]; exact sim0 hP (-11) rfl rfl
  rw [decide_eq_false cm, if_pos b2i_f, if_neg cm, Option.bind_some]
  by_cases co : gi y 77 o = -1
  · rw [decide_eq_true co, if_neg bt, if_pos co]; exact sim0 hP (-11) rfl rfl
  rw [decide_eq_false co, if_pos b2i_f, if_neg co]
  by_cases ce : gi y 77 s = gi y 77 o
  · rw [if_pos ce, if_pos ce, Option.bind_some]
    have ba := i32_hi a1
    have bb := i32_hi a3
    have bc := i32_hi a4
    have esn : ∀ z : Int32, 0 ≤ z.toInt → ∀ m, m ≤ 40 → (n32 m - z).toInt = (m : Int) - z.toInt := fun z hz m hm => by
      have := i32_hi z
      rw [i32_sub, n32_int (by omega)] <;> rw [n32_int (by omega)] <;> omega
    by_cases C : 0 ≤ a4.toInt ∧ 0 ≤ a1.toInt ∧ a1.toInt + a4.toInt ≤ n ∧ 0 ≤ a3.toInt ∧ a3.toInt + a4.toInt ≤ no
    · obtain ⟨C1, C2, C3, C4, C5⟩ := C
      rw [decide_eq_true ⟨C1, C2, C3⟩, decide_eq_true ⟨C1, C4, C5⟩, if_neg bt, Option.bind_some, if_neg bt, al_54 hs4, al_54 ho4]
      obtain ⟨i, hi, ei⟩ := n32_ex (b := 40) C2 (by omega)
      obtain ⟨j, hj, ej⟩ := n32_ex (b := 40) C4 (by omega)
      obtain ⟨M, hM, eM⟩ := n32_ex (b := 40) C1 (by omega)
      have Ci : (a1.toInt : Int) = i := by rw [ei, n32_int (by omega)]
      have Cj : (a3.toInt : Int) = j := by rw [ej, n32_int (by omega)]
      have CM : (a4.toInt : Int) = M := by rw [eM, n32_int (by omega)]
      have ncl : a1.toNatClampNeg = i ∧ a3.toNatClampNeg = j ∧ a4.toNatClampNeg = M := by rw [ei, ej, eM]; exact ⟨n32_nat (by omega), n32_nat (by omega), n32_nat (by omega)⟩
      have ecp : cpok a1 a3 a4 40 40 = true := by
        unfold cpok
        rw [ncl.1, ncl.2.1, ncl.2.2]
        refine decide_eq_true ⟨?_, ?_, ?_, by omega, by omega⟩ <;> (rw [i32_lt, z_0]; omega)
      have e40 : decide (0 < 40) = true := rfl
      rw [e40, ecp, gd_tt, gd_tt, gd_tt]
      obtain ⟨y1, m1, m2, m3, m4⟩ := M_copy (a := 40 * s + i) (b := 40 * o + j) (N := M) (by omega) (by omega) (by omega) M 0 1000 y y (by omega) (by omega) (fun _ _ => rfl) rfl (fun p => by
        split
        · rw [if_neg (by omega)]
        · rw [if_neg (by omega)])
      have eo : 53 + 2 * o + 1 = 54 + 2 * o := by omega
      have es : 53 + 2 * s + 1 = 54 + 2 * s := by omega
      refine ⟨a4, pf x (54 + 2 * o) (va_cpy (gi x (54 + 2 * s)) (gi x (54 + 2 * o)) i j M), y1, ?_, ?_, ?_⟩
      · rw [ncl.1, ncl.2.1, ncl.2.2, eo, es]
      · rw [if_neg (by rw [i32_lt, z_0]; omega), if_neg (by rw [i32_lt, z_0]; omega), if_neg (by rw [i32_lt, z_0]; omega), if_neg (by rw [i32_lt, n32_int (by omega)]; omega), if_neg (by rw [i32_lt, n32_int (by omega)]; omega), if_neg (by rw [i32_lt, esn _ C2 _ hn]; omega), if_pos (by rw [i32_le, esn _ C4 _ hno]; omega), ei, ej, eM, M_in40, M_in40]
        exact m1
      · have px : ∀ q, q ≠ 54 + 2 * o → (pf x (54 + 2 * o) (va_cpy (gi x (54 + 2 * s)) (gi x (54 + 2 * o)) i j M)).1 q = x.1 q := fun q hq => if_neg hq
        have pe : ∀ p, gi (pf x (54 + 2 * o) (va_cpy (gi x (54 + 2 * s)) (gi x (54 + 2 * o)) i j M)) (54 + 2 * o) p = va_cpy (gi x (54 + 2 * s)) (gi x (54 + 2 * o)) i j M p := fun p => by
          have e : (pf x (54 + 2 * o) (va_cpy (gi x (54 + 2 * s)) (gi x (54 + 2 * o)) i j M)).1 (54 + 2 * o) = va_cpy (gi x (54 + 2 * s)) (gi x (54 + 2 * o)) i j M := if_pos rfl
          exact congrFun e p
        refine PP_sheets hP (fun q hq => px q (by omega)) rfl (fun q hq => m2 q (by omega)) (fun t ht => ?_)
        obtain ⟨b1, b2, b3⟩ := hPH t ht
        refine ⟨?_, ?_, fun p hp => ?_⟩
        · rw [gi_of (px _ (by omega)), gi_of (m2 77 (by omega))]; exact b1
        · rw [gi_of (px _ (by omega)), gi_of (m2 78 (by omega))]; exact b2
        · rw [m4]
          by_cases ct : t = o
          · subst ct
            rw [pe]
            unfold va_cpy
            by_cases cp : j ≤ p ∧ p < j + M
            · rw [if_pos cp, if_pos (by omega), hc (i + (p - j)) (by omega)]
              congr 1; omega
            · rw [if_neg cp, if_neg (by omega)]; exact b3 p hp
          · rw [gi_of (px _ (by omega)), if_neg (by omega)]; exact b3 p hp
    · have eX : (if b2i (decide (0 ≤ a4.toInt ∧ 0 ≤ a1.toInt ∧ a1.toInt + a4.toInt ≤ (n : Int))) = 0 then some ((-12 : Int32), x) else (some (decide (0 ≤ a4.toInt ∧ 0 ≤ a3.toInt ∧ a3.toInt + a4.toInt ≤ (no : Int)))).bind fun r22 => if b2i r22 = 0 then some (-12, x) else gd (decide (0 < al (53 + 2 * s + 1))) (gd (decide (0 < al (53 + 2 * o + 1))) (gd (cpok a1 a3 a4 (al (53 + 2 * s + 1)) (al (53 + 2 * o + 1))) (some (a4, pf x (53 + 2 * o + 1) (va_cpy (gi x (53 + 2 * s + 1)) (gi x (53 + 2 * o + 1)) a1.toNatClampNeg a3.toNatClampNeg a4.toNatClampNeg)))))) = some (-12, x) := by
        by_cases d1 : 0 ≤ a4.toInt ∧ 0 ≤ a1.toInt ∧ a1.toInt + a4.toInt ≤ (n : Int)
        · rw [decide_eq_true d1, if_neg bt, Option.bind_some, decide_eq_false (fun q => C ⟨d1.1, d1.2.1, d1.2.2, q.2.1, q.2.2⟩), if_pos b2i_f]
        · rw [decide_eq_false d1, if_pos b2i_f]
      refine sim0 hP (-12) eX ?_
      by_cases c1 : a4 < 0
      · rw [if_pos c1]
      by_cases c2 : a1 < 0
      · rw [if_neg c1, if_pos c2]
      by_cases c3 : a3 < 0
      · rw [if_neg c1, if_neg c2, if_pos c3]
      rw [if_neg c1, if_neg c2, if_neg c3]
      rw [i32_lt, z_0] at c1 c2 c3
      by_cases c4 : n32 n < a1
      · rw [if_pos c4]
      by_cases c5 : n32 no < a3
      · rw [if_neg c4, if_pos c5]
      by_cases c6 : n32 n - a1 < a4
      · rw [if_neg c4, if_neg c5, if_pos c6]
      by_cases c7 : a4 ≤ n32 no - a3
      · exfalso
        rw [i32_lt, n32_int (by omega)] at c4 c5
        rw [i32_lt, esn _ (by omega) _ hn] at c6
        rw [i32_le, esn _ (by omega) _ hno] at c7
        omega
      · rw [if_neg c4, if_neg c5, if_neg c6, if_neg c7]
  · rw [if_neg ce, if_neg ce]; exact sim0 hP (-13) rfl rfl
