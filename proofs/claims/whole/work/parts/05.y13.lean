/-! ===== pure: lowest terms, new fractions ===== -/
theorem i64_mod {A B : Int64} {a b : Nat} (hA : A.toInt = (a : Int)) (hB : B.toInt = (b : Int)) (hb : 0 < b) : (A - A / B * B).toInt = ((a % b : Nat) : Int) := by
  have ha := A.toInt_lt
  rw [hA] at ha
  have e1 : (A / B).toInt = ((a / b : Nat) : Int) := by rw [i64_div (by omega) (by omega), hA, hB]; rfl
  have h1 : a / b * b ≤ a := Nat.div_mul_le_self a b
  have e2 : (A / B * B).toInt = ((a / b * b : Nat) : Int) := by
    rw [i64_mul, e1, hB]
    · exact (Int.natCast_mul _ _).symm
    · rw [e1, hB, ← Int.natCast_mul]; omega
    · rw [e1, hB, ← Int.natCast_mul]; omega
  rw [i64_sub, hA, e2]
  · have := Nat.div_add_mod' a b
    omega
  · rw [hA, e2]; omega
  · rw [hA, e2]; omega
theorem mod_half {x y : Nat} (hy : 0 < y) (hr : 0 < x % y) {k : Nat} (hk : y < 2 ^ (k + 1)) : y % (x % y) < 2 ^ k := by
  have h1 : x % y < y := Nat.mod_lt _ hy
  have h2 : y % (x % y) < x % y := Nat.mod_lt _ hr
  have h3 : 2 ^ (k + 1) = 2 * 2 ^ k := by rw [Nat.pow_succ, Nat.mul_comm]
  rcases Nat.lt_or_ge (x % y) (2 ^ k + 1) with h | h
  · omega
  · have h4 : y % (x % y) = y - x % y := by
      rw [Nat.mod_eq_sub_mod (by omega)]
      exact Nat.mod_eq_of_lt (by omega)
    omega
theorem X_gcd : ∀ (k n i : Nat) (A B : Int64) (a b : Nat), A.toInt = (a : Int) → B.toInt = (b : Int) → b < 2 ^ k → i + 2 * k + 1 ≤ 200 → 2 * k + 1 < n → ∃ R, f_X0_commonOf_9 n A B (n32 i) = some R ∧ R.toInt = ((Nat.gcd b a : Nat) : Int) := by
  have z0 : ∀ {B : Int64} {b : Nat}, B.toInt = (b : Int) → (B = 0 ↔ b = 0) := by
    intro B b h
    rw [i64_eq, h]
    have e : (0 : Int64).toInt = 0 := rfl
    omega
  have stop : ∀ (n i : Nat) (A B : Int64) (a : Nat), A.toInt = (a : Int) → B = 0 → i < 200 → ∃ R, f_X0_commonOf_9 (n + 1) A B (n32 i) = some R ∧ R.toInt = ((Nat.gcd 0 a : Nat) : Int) := by
    intro n i A B a hA hB hi
    refine ⟨A, ?_, by rw [hA, Nat.gcd_zero_left]⟩
    rw [f_X0_commonOf_9]
    unfold f_X0_commonOf_45
    rw [q_200, if_neg (n_nle (i := 200) hi (by omega)), if_pos ((lg_z _ _).mpr hB)]
  have step : ∀ (n i : Nat) (A B : Int64), ¬ B = 0 → i < 200 → f_X0_commonOf_9 (n + 1) A B (n32 i) = f_X0_commonOf_9 n B (A - A / B * B) (n32 (i + 1)) := by
    intro n i A B hB hi
    rw [f_X0_commonOf_9, q_200, if_neg (n_nle (i := 200) hi (by omega)), if_neg (fun q => hB ((lg_z _ _).mp q)), gd_t (decide_eq_true hB), n_inc]
  intro k
  induction k with
  | zero =>
    intro n i A B a b hA hB hb hi hn
    obtain ⟨n, rfl⟩ : ∃ w, n = w + 1 := ⟨n - 1, by omega⟩
    have hb0 : b = 0 := by simp at hb; exact hb
    rw [hb0]
    exact stop n i A B a hA ((z0 hB).mpr hb0) (by omega)
  | succ k ih =>
    intro n i A B a b hA hB hb hi hn
    obtain ⟨n, rfl⟩ : ∃ w, n = w + 2 := ⟨n - 2, by omega⟩
    by_cases hb0 : b = 0
    · rw [hb0]; exact stop (n + 1) i A B a hA ((z0 hB).mpr hb0) (by omega)
    · have hB0 : ¬ B = 0 := fun q => hb0 ((z0 hB).mp q)
      rw [step (n + 1) i A B hB0 (by omega)]
      have hC := i64_mod hA hB (by omega)
      by_cases hc0 : a % b = 0
      · obtain ⟨R, e1, e2⟩ := stop n (i + 1) B (A - A / B * B) b hB ((z0 hC).mpr hc0) (by omega)
        refine ⟨R, e1, ?_⟩
        rw [e2, Nat.gcd_rec b a, hc0]
      · rw [step n (i + 1) B _ (fun q => hc0 ((z0 hC).mp q)) (by omega)]
        have hD := i64_mod hB hC (by omega)
        obtain ⟨R, e1, e2⟩ := ih n (i + 1 + 1) _ _ _ _ hC hD (mod_half (by omega) (by omega) hb) (by omega) (by omega)
        refine ⟨R, e1, ?_⟩
        rw [e2, Nat.gcd_rec b a, Nat.gcd_rec (a % b) b]
theorem M_gcd : ∀ (k n : Nat) (U W A B : Int64) (p : Int32) (a b : Nat), A.toInt = (a : Int) → B.toInt = (b : Int) → b < 2 ^ k → 2 * k + 1 < n → ∃ R, f_X11_lowest_16 n U W p A B = (if p = 0 then f_X11_lowest_51 R U else f_X11_lowest_51 R W) ∧ R.toInt = ((Nat.gcd b a : Nat) : Int) := by
  have z0 : ∀ {B : Int64} {b : Nat}, B.toInt = (b : Int) → (B = 0 ↔ b = 0) := by
    intro B b h
    rw [i64_eq, h]
    have e : (0 : Int64).toInt = 0 := rfl
    omega
  have stop : ∀ (n : Nat) (U W A B : Int64) (p : Int32) (a : Nat), A.toInt = (a : Int) → B = 0 → ∃ R, f_X11_lowest_16 (n + 1) U W p A B = (if p = 0 then f_X11_lowest_51 R U else f_X11_lowest_51 R W) ∧ R.toInt = ((Nat.gcd 0 a : Nat) : Int) := by
    intro n U W A B p a hA hB
    refine ⟨A, ?_, by rw [hA, Nat.gcd_zero_left]⟩
    rw [f_X11_lowest_16, if_pos ((lg_z _ _).mpr hB)]
  have step : ∀ (n : Nat) (U W A B : Int64) (p : Int32), ¬ B = 0 → f_X11_lowest_16 (n + 1) U W p A B = f_X11_lowest_16 n U W p B (A - A / B * B) := by
    intro n U W A B p hB
    rw [f_X11_lowest_16, if_neg (fun q => hB ((lg_z _ _).mp q)), gd_t (decide_eq_true hB)]
  intro k
  induction k with
  | zero =>
    intro n U W A B p a b hA hB hb hn
    obtain ⟨n, rfl⟩ : ∃ w, n = w + 1 := ⟨n - 1, by omega⟩
    have hb0 : b = 0 := by simp at hb; exact hb
    rw [hb0]
    exact stop n U W A B p a hA ((z0 hB).mpr hb0)
  | succ k ih =>
    intro n U W A B p a b hA hB hb hn
    obtain ⟨n, rfl⟩ : ∃ w, n = w + 2 := ⟨n - 2, by omega⟩
    by_cases hb0 : b = 0
    · rw [hb0]; exact stop (n + 1) U W A B p a hA ((z0 hB).mpr hb0)
    · have hB0 : ¬ B = 0 := fun q => hb0 ((z0 hB).mp q)
      rw [step (n + 1) U W A B p hB0]
      have hC := i64_mod hA hB (by omega)
      by_cases hc0 : a % b = 0
      · obtain ⟨R, e1, e2⟩ := stop n U W B (A - A / B * B) p b hB ((z0 hC).mpr hc0)
        refine ⟨R, e1, ?_⟩
        rw [e2, Nat.gcd_rec b a, hc0]
      · rw [step n U W B _ p (fun q => hc0 ((z0 hC).mp q))]
        have hD := i64_mod hB hC (by omega)
        obtain ⟨R, e1, e2⟩ := ih n U W _ _ p _ _ hC hD (mod_half (by omega) (by omega) hb) (by omega)
        refine ⟨R, e1, ?_⟩
        rw [e2, Nat.gcd_rec b a, Nat.gcd_rec (a % b) b]
theorem part_low {x : CS} {q : Nat} {A B : Int64} {a b : Nat} {p : Int32} (hq : kFr x q = true) (h0 : tl x q 0 = A) (h1 : tl x q 1 = B) (hA : A.toInt = (a : Int)) (hB : B.toInt = (b : Int)) (hb : 1 ≤ b) (ha62 : a < 2 ^ 62) (hb62 : b < 2 ^ 62) (hp : f_X10_within p 0 1 = true) : ∃ r, f_X0_part x q p = some r ∧ f_X11_lowest A B p = some r := by
  obtain ⟨G, g1, g2⟩ := X_gcd 62 1000 0 B A b a hB hA ha62 (by omega) (by omega)
  have hgp : 1 ≤ Nat.gcd a b := Nat.gcd_pos_of_pos_right _ (by omega)
  have z0 : (0 : Int64).toInt = 0 := rfl
  have z1 : (1 : Int64).toInt = 1 := rfl
  have hG0 : ¬ G = 0 := fun q => by rw [i64_eq, g2, z0] at q; omega
  have e1 : f_X0_part x q p = some (if p = 0 then A / G else B / G) := by
    unfold f_X0_part
    rw [hp, hq, h0, h1]
    refine wp_eq (wp_g rfl (wp_e bt (wp_g rfl (wp_g rfl ?_))))
    unfold f_X0_commonOf
    refine wp_be g1 ?_
    have hle : (0 : Int32) ≤ lg_cmp G 1 := by
      unfold lg_cmp
      by_cases c : G > 1
      · rw [if_pos c]; decide
      · rw [if_neg c]
        have c2 : G = 1 := by
          have c : ¬ (1 : Int64) < G := c
          rw [Int64.lt_iff_toInt_lt, g2, z1] at c
          rw [i64_eq, g2, z1]; omega
        rw [if_pos c2]; decide
    refine wp_t hle ?_
    by_cases c : p = 0
    · rw [if_pos c, if_pos c]; exact wp_g rfl (wp_g (decide_eq_true hG0) (wp_s rfl))
    · rw [if_neg c, if_neg c]; exact wp_g rfl (wp_g (decide_eq_true hG0) (wp_s rfl))
  refine ⟨_, e1, ?_⟩
  unfold f_X11_lowest
  by_cases ca : A = 0
  · rw [if_pos ((lg_z _ _).mpr ca)]
    have ha0 : a = 0 := by rw [i64_eq, hA, z0] at ca; omega
    have hGB : G = B := by rw [i64_eq, g2, hB, ha0, Nat.gcd_zero_left]
    have hp2 := wi_t.mp hp
    rw [z_0, z_1] at hp2
    by_cases c : p = 0
    · rw [if_pos c, ca, Int64.zero_div, c]; rfl
    · have c1 : p = 1 := by rw [i32_eq, z_1]; rw [i32_eq, z_0] at c; omega
      rw [if_neg c, hGB, Int64.div_self, if_neg (by rw [← hGB]; exact hG0), c1]; rfl
  · rw [if_neg (fun q => ca ((lg_z _ _).mp q))]
    obtain ⟨H, k1, k2⟩ := M_gcd 62 1000 A B A B p a b hA hB hb62 (by omega)
    have hGH : G = H := by rw [i64_eq, g2, k2, Nat.gcd_comm]
    rw [k1, ← hGH]
    unfold f_X11_lowest_51
    rw [gd_t (decide_eq_true hG0), gd_t (decide_eq_true hG0)]
    split <;> rfl
/-! a new FRACTION -/
abbrev d3 : Nat × (Nat → Int32) × (Nat → Int64) := (3, fun _ => 0, fun _ => 0)
def mkF (x : CS) (a b : Int64) : CS := ptl (ptl (pal x d3) (61 + gn x) 0 a) (61 + gn x) 1 (if 1 < b then b else 1)
theorem gdy_pdy (x : CS) (q : Nat) (d : Nat × (Nat → Int32) × (Nat → Int64)) : gdy (pdy x q d) q = d := if_pos rfl
theorem gdy_pdn (x : CS) {q q' : Nat} (d : Nat × (Nat → Int32) × (Nat → Int64)) (h : q' ≠ q) : gdy (pdy x q d) q' = gdy x q' := if_neg h
theorem gdy_pal (x : CS) (d : Nat × (Nat → Int32) × (Nat → Int64)) : gdy (pal x d) (61 + gn x) = d := if_pos rfl
theorem gdy_pan (x : CS) {q : Nat} (d : Nat × (Nat → Int32) × (Nat → Int64)) (h : q ≠ 61 + gn x) : gdy (pal x d) q = gdy x q := if_neg h
theorem gn_pal (x : CS) (d : Nat × (Nat → Int32) × (Nat → Int64)) : gn (pal x d) = gn x + 1 := rfl
theorem gn_pdy (x : CS) (q : Nat) (d : Nat × (Nat → Int32) × (Nat → Int64)) : gn (pdy x q d) = gn x := rfl
theorem kdy_mk {x : CS} {q k : Nat} (h1 : 88 ≤ q) (h2 : q < 61 + gn x) (h3 : (gdy x q).1 = k) : kdy x q k = true := by
  unfold kdy; rw [h3]; simp; omega
theorem mkF_of {x : CS} (hg : 27 ≤ gn x) (a b : Int64) : f_X0_init (pal x d3) (61 + gn x) a b = some (mkF x a b) := by
  unfold f_X0_init
  have k1 : kFr (pal x d3) (61 + gn x) = true := kdy_mk (by omega) (by rw [gn_pal]; omega) (by rw [gdy_pal])
  have k2 : kFr (ptl (pal x d3) (61 + gn x) 0 a) (61 + gn x) = true := kdy_mk (by omega) (by show 61 + gn x < 61 + (gn x + 1); omega) (by unfold ptl; rw [gdy_pdy, gdy_pal])
  rw [gd_t k1, gd_t k1, gd_t k2]
  rfl
theorem mkF_XE (x : CS) (a b : Int64) : XE x (mkF x a b) ∧ (mkF x a b).1 = x.1 ∧ glot (mkF x a b) = glot x ∧ gn (mkF x a b) = gn x + 1 := by
  refine ⟨⟨rfl, Nat.le_succ _, fun q hq => ?_⟩, rfl, rfl, rfl⟩
  unfold mkF ptl
  rw [gdy_pdn _ _ (by omega), gdy_pdn _ _ (by omega), gdy_pan _ _ (by omega)]
theorem mkF_fr {x : CS} (hg : 27 ≤ gn x) (a b : Int64) : kFr (mkF x a b) (61 + gn x) = true ∧ tl (mkF x a b) (61 + gn x) 0 = a ∧ tl (mkF x a b) (61 + gn x) 1 = (if 1 < b then b else 1) := by
  refine ⟨kdy_mk (by omega) (by rw [(mkF_XE x a b).2.2.2]; omega) ?_, ?_, ?_⟩
  · unfold mkF ptl; rw [gdy_pdy, gdy_pdy, gdy_pal]
  · unfold tl mkF ptl; rw [gdy_pdy, gdy_pdy]; rfl
  · unfold tl mkF ptl; rw [gdy_pdy]; rfl
