/-! ===== pure: a text's words and tokens ===== -/
theorem i64_or8 {a : Int64} {v : Int32} (ha0 : 0 ≤ a.toInt) (ha : a.toInt < 1099511627776) (hv0 : 0 ≤ v.toInt) (hv : v.toInt ≤ 255) : ((a <<< ((8 : Int32).toInt64 &&& 63)) ||| v.toInt64).toInt = a.toInt * 256 + v.toInt := by
  obtain ⟨A, hA⟩ : ∃ A : Nat, a.toInt = (A : Int) := ⟨a.toInt.toNat, by omega⟩
  obtain ⟨V, hV⟩ : ∃ V : Nat, v.toInt = (V : Int) := ⟨v.toInt.toNat, by omega⟩
  have ea : a.toBitVec.toNat = A := by
    have h1 : a.toInt = a.toBitVec.toInt := rfl
    rw [BitVec.toInt_eq_toNat_bmod] at h1
    have h2 := a.toBitVec.isLt
    rw [hA] at h1
    rw [Int.bmod_def] at h1
    split at h1 <;> omega
  have ev : v.toInt64.toBitVec.toNat = V := by
    have h1 : v.toInt64.toInt = v.toInt := Int32.toInt_toInt64 v
    have h0 : v.toInt64.toInt = v.toInt64.toBitVec.toInt := rfl
    rw [h0, BitVec.toInt_eq_toNat_bmod] at h1
    have h2 := v.toInt64.toBitVec.isLt
    rw [hV] at h1
    rw [Int.bmod_def] at h1
    split at h1 <;> omega
  have e8 : ((8 : Int32).toInt64 &&& 63) = (8 : Int64) := by decide
  have e : ((a <<< (8 : Int64)) ||| v.toInt64).toBitVec.toNat = A * 256 + V := by
    rw [Int64.toBitVec_or, Int64.toBitVec_shiftLeft]
    have s8 : ((8 : Int64).toBitVec.smod 64) = 8#64 := by decide
    rw [s8, BitVec.toNat_or, ev]
    have e2 : (a.toBitVec <<< (8#64)).toNat = A <<< 8 := by
      show (a.toBitVec <<< (8#64).toNat).toNat = _
      rw [BitVec.toNat_shiftLeft, ea]
      show A <<< 8 % 2 ^ 64 = A <<< 8
      rw [Nat.shiftLeft_eq]
      omega
    rw [e2, ← Nat.shiftLeft_add_eq_or_of_lt (show V < 2 ^ 8 by omega), Nat.shiftLeft_eq]
  rw [e8, hA, hV]
  have h0 : ((a <<< (8 : Int64)) ||| v.toInt64).toInt = ((a <<< (8 : Int64)) ||| v.toInt64).toBitVec.toInt := rfl
  rw [h0, BitVec.toInt_eq_toNat_bmod, e, Int.bmod_def]
  split <;> omega
/-- letters laid in a number, and told apart -/
def pkr : List Int → Int
  | [] => 0
  | d :: l => pkr l * 256 + d
def dgl (b : Nat → Int32) (s : Nat) : Nat → List Int
  | 0 => []
  | c + 1 => (b (s + c)).toInt :: dgl b s c
theorem pkr_nn : ∀ l : List Int, (∀ d ∈ l, 1 ≤ d ∧ d ≤ 255) → 0 ≤ pkr l := by
  intro l
  induction l with
  | nil => intro _; exact Int.le_refl _
  | cons d l ih =>
    intro h
    have h1 := ih (fun e he => h e (List.mem_cons_of_mem _ he))
    have h2 := h d List.mem_cons_self
    rw [pkr]; omega
theorem pkr_inj : ∀ l m : List Int, (∀ d ∈ l, 1 ≤ d ∧ d ≤ 255) → (∀ d ∈ m, 1 ≤ d ∧ d ≤ 255) → pkr l = pkr m → l = m := by
  intro l
  induction l with
  | nil =>
    intro m _ hm e
    cases m with
    | nil => rfl
    | cons d m =>
      have h2 := hm d List.mem_cons_self
      have h1 := pkr_nn m (fun e he => hm e (List.mem_cons_of_mem _ he))
      rw [pkr, pkr] at e; omega
  | cons d l ih =>
    intro m hl hm e
    have h1 := pkr_nn l (fun e he => hl e (List.mem_cons_of_mem _ he))
    have h2 := hl d List.mem_cons_self
    cases m with
    | nil => rw [pkr, pkr] at e; omega
    | cons f m =>
      have h3 := pkr_nn m (fun e he => hm e (List.mem_cons_of_mem _ he))
      have h4 := hm f List.mem_cons_self
      rw [pkr, pkr] at e
      have e1 : d = f := by omega
      have e2 : l = m := ih m (fun e he => hl e (List.mem_cons_of_mem _ he)) (fun e he => hm e (List.mem_cons_of_mem _ he)) (by omega)
      rw [e1, e2]
theorem dgl_iff {b t : Nat → Int32} {s u : Nat} : ∀ c l : Nat, dgl b s c = dgl t u l ↔ c = l ∧ ∀ j, j < l → (b (s + j)).toInt = (t (u + j)).toInt := by
  intro c
  induction c with
  | zero =>
    intro l
    cases l with
    | zero => exact ⟨fun _ => ⟨rfl, fun j hj => by omega⟩, fun _ => rfl⟩
    | succ l => exact ⟨fun h => (by rw [dgl, dgl] at h; cases h), fun h => by omega⟩
  | succ c ih =>
    intro l
    cases l with
    | zero => exact ⟨fun h => (by rw [dgl, dgl] at h; cases h), fun h => by omega⟩
    | succ l =>
      rw [dgl, dgl]
      constructor
      · intro h
        obtain ⟨h1, h2⟩ := List.cons.inj h
        obtain ⟨e, h3⟩ := (ih l).mp h2
        subst e
        refine ⟨rfl, fun j hj => ?_⟩
        by_cases ej : j = c
        · rw [ej]; exact h1
        · exact h3 j (by omega)
      · rintro ⟨e, h⟩
        have e : c = l := by omega
        subst e
        rw [h c (by omega), (ih c).mpr ⟨rfl, fun j hj => h j (by omega)⟩]
theorem dgl_mem {b : Nat → Int32} {s : Nat} : ∀ c, (∀ j, j < c → 1 ≤ (b (s + j)).toInt ∧ (b (s + j)).toInt ≤ 255) → ∀ d ∈ dgl b s c, 1 ≤ d ∧ d ≤ 255 := by
  intro c
  induction c with
  | zero => intro _ d hd; rw [dgl] at hd; cases hd
  | succ c ih =>
    intro h d hd
    rw [dgl] at hd
    rcases List.mem_cons.mp hd with e | e
    · rw [e]; exact h c (by omega)
    · exact ih (fun j hj => h j (by omega)) d e
theorem pwf_s (b : Nat → Int32) : ∀ (c p : Nat) (a : Int64), pwf b (c + 1) p a = ((pwf b c p a) <<< ((8 : Int32).toInt64 &&& 63)) ||| (b (p + c)).toInt64 := by
  intro c
  induction c with
  | zero => intro p a; rfl
  | succ c ih =>
    intro p a
    rw [pwf, ih, show pwf b (c + 1) p a = pwf b c (p + 1) ((a <<< ((8 : Int32).toInt64 &&& 63)) ||| (b p).toInt64) from rfl, show p + 1 + c = p + (c + 1) from by omega]
theorem pwf_i {b : Nat → Int32} {s : Nat} : ∀ c, c ≤ 5 → (∀ j, j < c → 1 ≤ (b (s + j)).toInt ∧ (b (s + j)).toInt ≤ 255) → (pwf b c s 0).toInt = pkr (dgl b s c) ∧ 0 ≤ (pwf b c s 0).toInt ∧ (pwf b c s 0).toInt < 256 ^ c := by
  intro c
  induction c with
  | zero => intro _ _; exact ⟨rfl, by show 0 ≤ (0 : Int64).toInt; decide, by show (0 : Int64).toInt < 1; decide⟩
  | succ c ih =>
    intro hc h
    obtain ⟨i1, i2, i3⟩ := ih (by omega) (fun j hj => h j (by omega))
    have hb := h c (by omega)
    have hlt : (256 : Int) ^ c ≤ 256 ^ 4 := by
      rcases (by omega : c = 0 ∨ c = 1 ∨ c = 2 ∨ c = 3 ∨ c = 4) with rfl | rfl | rfl | rfl | rfl <;> decide
    have e := i64_or8 (a := pwf b c s 0) (v := b (s + c)) i2 (by omega) (by omega) hb.2
    rw [pwf_s, e, dgl, pkr, i1]
    have hp : (256 : Int) ^ (c + 1) = 256 ^ c * 256 := Int.pow_succ _ _
    rw [i1] at i2 i3
    refine ⟨rfl, by omega, ?_⟩
    rw [hp]; omega
/-- word i of the class, told by c letters from s -/
def wmj (b : Nat → Int32) (s i : Nat) : Nat → Nat → Bool
  | 0, _ => true
  | k + 1, j => if b (s + j) = tch i j then wmj b s i k (j + 1) else false
def wm (b : Nat → Int32) (s c i : Nat) : Bool := decide (c = tln i) && wmj b s i (tln i) 0
theorem wmj_iff {b : Nat → Int32} {s i : Nat} : ∀ k j, wmj b s i k j = true ↔ ∀ u, j ≤ u → u < j + k → b (s + u) = tch i u := by
  intro k
  induction k with
  | zero => intro j; exact ⟨fun _ u a c => by omega, fun _ => rfl⟩
  | succ k ih =>
    intro j
    rw [wmj]
    by_cases c : b (s + j) = tch i j
    · rw [if_pos c, ih]
      exact ⟨fun h u a d => by
        by_cases e : u = j
        · rw [e]; exact c
        · exact h u (by omega) (by omega), fun h u a d => h u (by omega) (by omega)⟩
    · rw [if_neg c]
      exact ⟨fun h => (by cases h), fun h => absurd (h j (by omega) (by omega)) c⟩
theorem wm_iff {b : Nat → Int32} {s c i : Nat} : wm b s c i = true ↔ c = tln i ∧ ∀ u, u < tln i → b (s + u) = tch i u := by
  unfold wm
  rw [Bool.and_eq_true, decide_eq_true_iff, wmj_iff]
  exact ⟨fun h => ⟨h.1, fun u hu => h.2 u (by omega) (by omega)⟩, fun h => ⟨h.1, fun u _ hu => h.2 u (by omega)⟩⟩
theorem wm_u {b : Nat → Int32} {s c i j : Nat} (hi : i < 13) (hj : j < 13) (h1 : wm b s c i = true) (h2 : wm b s c j = true) : i = j := by
  have D : ∀ i, i < 13 → ∀ j, j < 13 → tln i = tln j → (∀ u, u < tln i → tch i u = tch j u) → i = j := by decide
  obtain ⟨a1, a2⟩ := wm_iff.mp h1
  obtain ⟨b1, b2⟩ := wm_iff.mp h2
  exact D i hi j hj (by omega) (fun u hu => (a2 u hu).symm.trans (b2 u (by omega)))
theorem sl_n : ∀ i, i < 13 → (nI (sLen.getD i 0) >>> ((0 : Int32) &&& 31)) = n32 (tln i) := by decide
theorem tln_5 : ∀ i, i < 13 → tln i ≤ 75 ∧ (1 ≤ i → tln i ≤ 5) := by decide
theorem X_spells {b : Nat → Int32} {N : Nat} (hB : BB b N) {x : CS} {s c i : Nat} (hT : TBx b N x) (h7 : gi x 26 7 = n32 (s + c)) (h9 : gi x 26 9 = n32 s) (hsc : s + c ≤ N) (hi : i < 13) : f_X6_spells x i = some (wm b s c i) := by
  have hN := hB.1
  have hl := (tln_5 i hi).1
  unfold f_X6_spells wm
  rw [gd_t (decide_eq_true hi), sl_n i hi, h7, h9, n32_sub (by omega), show s + c - s = c from by omega]
  by_cases hc : c = tln i
  · rw [if_pos (by rw [hc]), decide_eq_true hc, Bool.true_and]
    have key : ∀ (k j g : Nat), j + k = tln i → k < g → f_X6_spells_20 x g i (n32 j) = some (wmj b s i k j) := by
      intro k
      induction k with
      | zero =>
        intro j g hj hg
        obtain ⟨g, rfl⟩ : ∃ w, g = w + 1 := ⟨g - 1, by omega⟩
        rw [f_X6_spells_20, gd_t (decide_eq_true hi), sl_n i hi, if_pos (n_le (by omega) (by omega)), wmj]
      | succ k ih =>
        intro j g hj hg
        obtain ⟨g, rfl⟩ : ∃ w, g = w + 1 := ⟨g - 1, by omega⟩
        have e : bA b N (s + j) = b (s + j) := if_pos (by omega)
        rw [f_X6_spells_20, gd_t (decide_eq_true hi), sl_n i hi, if_neg (n_nle (by omega) (by omega)), h9, n32_add, X_byte hB hT (by omega), Option.bind_some, gd_t (decide_eq_true hi), gd_t (ib_n (by omega) (by omega)), n32_nat (by omega), e, wmj, n_inc]
        by_cases cc : b (s + j) = tch i j
        · rw [if_pos cc, if_pos cc]; exact ih (j + 1) g (by omega) (by omega)
        · rw [if_neg cc, if_neg cc]
    exact key (tln i) 0 1000 (by omega) (by omega)
  · rw [if_neg (fun q => hc ((n32_inj (by omega) (by omega)).mp q)), decide_eq_false hc]; rfl
def TK : Type := Nat × Int32
def TK.fin : TK := (0, 0)
def TK.num (v : Int32) : TK := (1, v)
def TK.att (k : Nat) : TK := (2, n32 k)
def TK.nam (k : Nat) : TK := (3, n32 k)
def TK.orr : TK := (4, 0)
def TK.and : TK := (5, 0)
def TK.not : TK := (6, 0)
def TK.bad : TK := (7, 0)
def TK.lp : TK := (8, 0)
def TK.rp : TK := (9, 0)
def TK.sc : TK := (10, 0)
def TK.pl : TK := (11, 0)
def TK.mi : TK := (12, 0)
def TK.mu : TK := (13, 0)
def TK.lt : TK := (14, 0)
def TK.eq : TK := (15, 0)
def TK.c (t : TK) : Int32 := match t.1 with
  | 0 => 307
  | 1 => 306
  | 2 => 310 + t.2
  | 3 => 300 + t.2
  | 4 => 303
  | 5 => 304
  | 6 => 305
  | 7 => 308
  | 8 => 40
  | 9 => 41
  | 10 => 59
  | 11 => 43
  | 12 => 45
  | 13 => 42
  | 14 => 60
  | _ => 61
def TK.m (t : TK) : Int32 := match t.1 with
  | 0 => 0
  | 1 => 1
  | 2 => 2
  | 3 => 3
  | 4 => 4
  | 5 => 5
  | 6 => 6
  | 7 => -1
  | 8 => 40
  | 9 => 41
  | 10 => 59
  | 11 => 43
  | 12 => 45
  | 13 => 42
  | 14 => 60
  | _ => 61
def wdTK (f : Nat → Bool) : TK := if f 1 = true then .nam 0 else if f 2 = true then .nam 1 else if f 3 = true then .nam 2 else if f 4 = true then .orr else if f 5 = true then .and else if f 6 = true then .not else if f 7 = true then .att 0 else if f 8 = true then .att 1 else if f 9 = true then .att 2 else if f 10 = true then .att 3 else if f 11 = true then .att 4 else if f 12 = true then .att 5 else .bad
def sgTK (c : Int32) : TK := if c = 40 then .lp else if c = 41 then .rp else if c = 59 then .sc else if c = 43 then .pl else if c = 45 then .mi else if c = 42 then .mu else if c = 60 then .lt else if c = 61 then .eq else .bad
theorem X_word {b : Nat → Int32} {N : Nat} (hB : BB b N) {x : CS} {s c : Nat} (hT : TBx b N x) (h7 : gi x 26 7 = n32 (s + c)) (h9 : gi x 26 9 = n32 s) (hsc : s + c ≤ N) : f_X6_wordToken x = some (wdTK (wm b s c)).c := by
  have S : ∀ i, i < 13 → f_X6_spells x i = some (wm b s c i) := fun i hi => X_spells hB hT h7 h9 hsc hi
  unfold f_X6_wordToken wdTK
  rw [S 1 (by omega), S 2 (by omega), S 3 (by omega), S 4 (by omega), S 5 (by omega), S 6 (by omega), S 7 (by omega), S 8 (by omega), S 9 (by omega), S 10 (by omega), S 11 (by omega), S 12 (by omega)]
  generalize wm b s c = f
  simp only [Option.bind_some]
  cases f 1
  · cases f 2
    · cases f 3
      · cases f 4
        · cases f 5
          · cases f 6
            · cases f 7
              · cases f 8
                · cases f 9
                  · cases f 10
                    · cases f 11
                      · cases f 12 <;> rfl
                      · rfl
                    · rfl
                  · rfl
                · rfl
              · rfl
            · rfl
          · rfl
        · rfl
      · rfl
    · rfl
  · rfl
def ci (a : Nat) : Nat := ([1, 2, 3, 7, 8, 9, 10, 11, 12, 4, 5, 6] : List Nat).getD a 0
def wi (i : Nat) : Nat := ([12, 0, 1, 2, 9, 10, 11, 3, 4, 5, 6, 7, 8] : List Nat).getD i 0
theorem ci_lt : ∀ a, a < 12 → ci a < 13 ∧ 1 ≤ ci a := by decide
theorem ci_wi : ∀ i, i < 13 → 1 ≤ i → wi i < 12 ∧ ci (wi i) = i := by decide
theorem ci_u : ∀ a, a < 12 → ∀ e, e < 12 → ci a = ci e → a = e := by decide
theorem wdl_p : ∀ a, a < 12 → (wdl a).toInt = pkr (dgl (tch (ci a)) 0 (tln (ci a))) ∧ (wdl a).toInt ≠ 0 := by decide
theorem tch_p : ∀ i, i < 13 → 1 ≤ i → ∀ j, j < tln i → 1 ≤ (tch i (0 + j)).toInt ∧ (tch i (0 + j)).toInt ≤ 255 := by decide
theorem lg_eq (a c : Int64) : lg_cmp a c = 0 ↔ a = c := by
  unfold lg_cmp
  by_cases h : a > c
  · rw [if_pos h]
    exact ⟨fun q => absurd q (by decide), fun q => by subst q; exact absurd h (by rw [gt_iff_lt, Int64.lt_iff_toInt_lt]; omega)⟩
  · rw [if_neg h]
    by_cases h2 : a = c
    · rw [if_pos h2]; exact ⟨fun _ => h2, fun _ => rfl⟩
    · rw [if_neg h2]; exact ⟨fun q => absurd q (by decide), fun q => absurd q h2⟩
theorem M_is {b : Nat → Int32} {s c : Nat} (h : ∀ j, j < c → 1 ≤ (b (s + j)).toInt ∧ (b (s + j)).toInt ≤ 255) {a : Nat} (ha : a < 12) {A : Int64} (h5 : c ≤ 5 → A = pwf b c s 0) (h6 : 5 < c → A = 0) : lg_cmp (wdl a) A = 0 ↔ wm b s c (ci a) = true := by
  obtain ⟨w1, w2⟩ := wdl_p a ha
  obtain ⟨c1, c2⟩ := ci_lt a ha
  rw [lg_eq, i64_eq, wm_iff]
  rcases Nat.lt_or_ge 5 c with hc | hc
  · rw [h6 hc]
    exact ⟨fun q => absurd q w2, fun q => by have := (tln_5 (ci a) c1).2 c2; omega⟩
  · rw [h5 hc, w1, (pwf_i c hc h).1]
    constructor
    · intro q
      have e := pkr_inj _ _ (dgl_mem _ (fun j hj => tch_p (ci a) c1 c2 j hj)) (dgl_mem _ h) q
      obtain ⟨e1, e2⟩ := (dgl_iff _ _).mp e.symm
      refine ⟨e1, fun u hu => i32_eq.mpr ?_⟩
      have := e2 u hu
      rw [Nat.zero_add] at this
      exact this
    · rintro ⟨e1, e2⟩
      rw [(dgl_iff c (tln (ci a))).mpr ⟨e1, fun j hj => by rw [e2 j hj, Nat.zero_add]⟩]
theorem M_111 {y : MS} {A : Int64} {w : Nat} (hw : w ≤ 12) (h1 : w < 12 → lg_cmp (wdl w) A = 0) : ∀ (k a g : Nat), a + k = w → k < g → (∀ j, a ≤ j → j < w → ¬ lg_cmp (wdl j) A = 0) → f_X11_next_111 g y A (n32 a) = f_X11_next_136 y (n32 w) := by
  intro k
  induction k with
  | zero =>
    intro a g ha hg _
    obtain ⟨g, rfl⟩ : ∃ w, g = w + 1 := ⟨g - 1, by omega⟩
    have ea : a = w := by omega
    subst ea
    rw [f_X11_next_111]
    by_cases c : a < 12
    · rw [if_neg (show ¬ (12 : Int32) ≤ n32 a from n_nle (i := 12) (by omega) (by omega)), gd_t (ib_n (by omega) (by omega)), n32_nat (by omega), if_pos (h1 c)]
    · rw [if_pos (show (12 : Int32) ≤ n32 a from n_le (i := 12) (by omega) (by omega))]
  | succ k ih =>
    intro a g ha hg hn
    obtain ⟨g, rfl⟩ : ∃ w, g = w + 1 := ⟨g - 1, by omega⟩
    rw [f_X11_next_111, if_neg (show ¬ (12 : Int32) ≤ n32 a from n_nle (i := 12) (by omega) (by omega)), gd_t (ib_n (by omega) (by omega)), n32_nat (by omega), if_neg (hn a (by omega) (by omega)), n_inc]
    exact ih (a + 1) g (by omega) (by omega) (fun j p q => hn j (by omega) q)
/-! ===== pure: a text's tokens ===== -/
theorem wd_cases {b : Nat → Int32} {s c : Nat} : (∃ i, 1 ≤ i ∧ i < 13 ∧ wm b s c i = true ∧ ∀ j, j < 13 → j ≠ i → wm b s c j = false) ∨ ∀ j, 1 ≤ j → j < 13 → wm b s c j = false := by
  by_cases h : ∃ i, 1 ≤ i ∧ i < 13 ∧ wm b s c i = true
  · obtain ⟨i, a1, a2, a3⟩ := h
    refine Or.inl ⟨i, a1, a2, a3, fun j hj hne => ?_⟩
    cases e : wm b s c j
    · rfl
    · exact absurd (wm_u hj a2 e a3) hne
  · refine Or.inr (fun j a1 a2 => ?_)
    cases e : wm b s c j
    · rfl
    · exact absurd ⟨j, a1, a2, e⟩ h
def TK.ok (t : TK) : Prop := t = TK.fin ∨ (∃ v : Int32, t = TK.num v ∧ 0 ≤ v.toInt ∧ v.toInt ≤ 9999) ∨ (∃ k, k < 6 ∧ t = TK.att k) ∨ (∃ k, k < 3 ∧ t = TK.nam k) ∨ t = TK.orr ∨ t = TK.and ∨ t = TK.not ∨ t = TK.bad ∨ t = TK.lp ∨ t = TK.rp ∨ t = TK.sc ∨ t = TK.pl ∨ t = TK.mi ∨ t = TK.mu ∨ t = TK.lt ∨ t = TK.eq
/-- the check's word, laid -/
theorem M_word {b : Nat → Int32} {s c : Nat} (h : ∀ j, j < c → 1 ≤ (b (s + j)).toInt ∧ (b (s + j)).toInt ≤ 255) {Y : MS} {A : Int64} (h5 : c ≤ 5 → A = pwf b c s 0) (h6 : 5 < c → A = 0) : ∃ v, f_X11_next_111 1000 Y A 0 = some (pi (pi Y 61 33 (wdTK (wm b s c)).m) 61 34 v) ∧ (∀ k, k < 6 → wdTK (wm b s c) = TK.att k → v = n32 k) ∧ (∀ k, k < 3 → wdTK (wm b s c) = TK.nam k → v = n32 k) ∧ (wdTK (wm b s c)).ok := by
  rcases wd_cases (b := b) (s := s) (c := c) with ⟨i, i1, i2, i3, i4⟩ | hno
  · obtain ⟨w1, w2⟩ := ci_wi i i2 i1
    have e : f_X11_next_111 1000 Y A 0 = f_X11_next_136 Y (n32 (wi i)) := M_111 (w := wi i) (by omega) (fun q => (M_is h q h5 h6).mpr (by rw [w2]; exact i3)) (wi i) 0 1000 (by omega) (by omega) (fun j _ hj q => by
      have hj12 : j < 12 := by omega
      have q := (M_is h hj12 h5 h6).mp q
      have := wm_u (ci_lt j hj12).1 i2 q i3
      have := ci_u j hj12 (wi i) w1 (by rw [w2, this])
      omega)
    rw [e]
    generalize wm b s c = f at *
    have F : ∀ j, j < 13 → j ≠ i → f j = false := i4
    clear i4 e h5 h6 h
    rcases (by omega : i = 1 ∨ i = 2 ∨ i = 3 ∨ i = 4 ∨ i = 5 ∨ i = 6 ∨ i = 7 ∨ i = 8 ∨ i = 9 ∨ i = 10 ∨ i = 11 ∨ i = 12) with rfl | rfl | rfl | rfl | rfl | rfl | rfl | rfl | rfl | rfl | rfl | rfl
    · have ew : wdTK f = TK.nam 0 := by unfold wdTK; rw [if_pos i3]
      exact ⟨0, by rw [ew]; rfl, fun k hk q => by rw [ew] at q; exact absurd (congrArg Prod.fst q) (Nat.ne_of_beq_eq_false rfl), fun k hk q => by rw [ew] at q; exact congrArg Prod.snd q, by rw [ew]; exact Or.inr (Or.inr (Or.inr (Or.inl ⟨0, by omega, rfl⟩)))⟩
    · have ew : wdTK f = TK.nam 1 := by unfold wdTK; rw [F 1 (by omega) (by omega), if_neg Bool.false_ne_true, if_pos i3]
      exact ⟨1, by rw [ew]; rfl, fun k hk q => by rw [ew] at q; exact absurd (congrArg Prod.fst q) (Nat.ne_of_beq_eq_false rfl), fun k hk q => by rw [ew] at q; exact congrArg Prod.snd q, by rw [ew]; exact Or.inr (Or.inr (Or.inr (Or.inl ⟨1, by omega, rfl⟩)))⟩
    · have ew : wdTK f = TK.nam 2 := by unfold wdTK; rw [F 1 (by omega) (by omega), F 2 (by omega) (by omega), if_neg Bool.false_ne_true, if_neg Bool.false_ne_true, if_pos i3]
      exact ⟨2, by rw [ew]; rfl, fun k hk q => by rw [ew] at q; exact absurd (congrArg Prod.fst q) (Nat.ne_of_beq_eq_false rfl), fun k hk q => by rw [ew] at q; exact congrArg Prod.snd q, by rw [ew]; exact Or.inr (Or.inr (Or.inr (Or.inl ⟨2, by omega, rfl⟩)))⟩
    · have ew : wdTK f = TK.orr := by unfold wdTK; simp [F 1, F 2, F 3, i3]
      exact ⟨6, by rw [ew]; rfl, fun k hk q => by rw [ew] at q; exact absurd (congrArg Prod.fst q) (Nat.ne_of_beq_eq_false rfl), fun k hk q => by rw [ew] at q; exact absurd (congrArg Prod.fst q) (Nat.ne_of_beq_eq_false rfl), by rw [ew]; unfold TK.ok; simp⟩
    · have ew : wdTK f = TK.and := by unfold wdTK; simp [F 1, F 2, F 3, F 4, i3]
      exact ⟨7, by rw [ew]; rfl, fun k hk q => by rw [ew] at q; exact absurd (congrArg Prod.fst q) (Nat.ne_of_beq_eq_false rfl), fun k hk q => by rw [ew] at q; exact absurd (congrArg Prod.fst q) (Nat.ne_of_beq_eq_false rfl), by rw [ew]; unfold TK.ok; simp⟩
    · have ew : wdTK f = TK.not := by unfold wdTK; simp [F 1, F 2, F 3, F 4, F 5, i3]
      exact ⟨8, by rw [ew]; rfl, fun k hk q => by rw [ew] at q; exact absurd (congrArg Prod.fst q) (Nat.ne_of_beq_eq_false rfl), fun k hk q => by rw [ew] at q; exact absurd (congrArg Prod.fst q) (Nat.ne_of_beq_eq_false rfl), by rw [ew]; unfold TK.ok; simp⟩
    · have ew : wdTK f = TK.att 0 := by unfold wdTK; simp [F 1, F 2, F 3, F 4, F 5, F 6, i3]
      exact ⟨0, by rw [ew]; rfl, fun k hk q => by rw [ew] at q; exact congrArg Prod.snd q, fun k hk q => by rw [ew] at q; exact absurd (congrArg Prod.fst q) (Nat.ne_of_beq_eq_false rfl), by rw [ew]; exact Or.inr (Or.inr (Or.inl ⟨0, by omega, rfl⟩))⟩
    · have ew : wdTK f = TK.att 1 := by unfold wdTK; simp [F 1, F 2, F 3, F 4, F 5, F 6, F 7, i3]
      exact ⟨1, by rw [ew]; rfl, fun k hk q => by rw [ew] at q; exact congrArg Prod.snd q, fun k hk q => by rw [ew] at q; exact absurd (congrArg Prod.fst q) (Nat.ne_of_beq_eq_false rfl), by rw [ew]; exact Or.inr (Or.inr (Or.inl ⟨1, by omega, rfl⟩))⟩
    · have ew : wdTK f = TK.att 2 := by unfold wdTK; simp [F 1, F 2, F 3, F 4, F 5, F 6, F 7, F 8, i3]
      exact ⟨2, by rw [ew]; rfl, fun k hk q => by rw [ew] at q; exact congrArg Prod.snd q, fun k hk q => by rw [ew] at q; exact absurd (congrArg Prod.fst q) (Nat.ne_of_beq_eq_false rfl), by rw [ew]; exact Or.inr (Or.inr (Or.inl ⟨2, by omega, rfl⟩))⟩
    · have ew : wdTK f = TK.att 3 := by unfold wdTK; simp [F 1, F 2, F 3, F 4, F 5, F 6, F 7, F 8, F 9, i3]
      exact ⟨3, by rw [ew]; rfl, fun k hk q => by rw [ew] at q; exact congrArg Prod.snd q, fun k hk q => by rw [ew] at q; exact absurd (congrArg Prod.fst q) (Nat.ne_of_beq_eq_false rfl), by rw [ew]; exact Or.inr (Or.inr (Or.inl ⟨3, by omega, rfl⟩))⟩
    · have ew : wdTK f = TK.att 4 := by unfold wdTK; simp [F 1, F 2, F 3, F 4, F 5, F 6, F 7, F 8, F 9, F 10, i3]
      exact ⟨4, by rw [ew]; rfl, fun k hk q => by rw [ew] at q; exact congrArg Prod.snd q, fun k hk q => by rw [ew] at q; exact absurd (congrArg Prod.fst q) (Nat.ne_of_beq_eq_false rfl), by rw [ew]; exact Or.inr (Or.inr (Or.inl ⟨4, by omega, rfl⟩))⟩
    · have ew : wdTK f = TK.att 5 := by unfold wdTK; simp [F 1, F 2, F 3, F 4, F 5, F 6, F 7, F 8, F 9, F 10, F 11, i3]
      exact ⟨5, by rw [ew]; rfl, fun k hk q => by rw [ew] at q; exact congrArg Prod.snd q, fun k hk q => by rw [ew] at q; exact absurd (congrArg Prod.fst q) (Nat.ne_of_beq_eq_false rfl), by rw [ew]; exact Or.inr (Or.inr (Or.inl ⟨5, by omega, rfl⟩))⟩
  · have e : f_X11_next_111 1000 Y A 0 = f_X11_next_136 Y (n32 12) := M_111 (w := 12) (by omega) (fun q => by omega) 12 0 1000 (by omega) (by omega) (fun j _ hj q => by
      have q := (M_is h hj h5 h6).mp q
      have := hno (ci j) (ci_lt j hj).2 (ci_lt j hj).1
      rw [this] at q; cases q)
    have ew : wdTK (wm b s c) = TK.bad := by
      unfold wdTK
      rw [hno 1 (by omega) (by omega), hno 2 (by omega) (by omega), hno 3 (by omega) (by omega), hno 4 (by omega) (by omega), hno 5 (by omega) (by omega), hno 6 (by omega) (by omega), hno 7 (by omega) (by omega), hno 8 (by omega) (by omega), hno 9 (by omega) (by omega), hno 10 (by omega) (by omega), hno 11 (by omega) (by omega), hno 12 (by omega) (by omega)]
      rfl
    rw [e, ew]
    exact ⟨9, rfl, fun k hk q => absurd (congrArg Prod.fst q) (Nat.ne_of_beq_eq_false rfl), fun k hk q => absurd (congrArg Prod.fst q) (Nat.ne_of_beq_eq_false rfl), by unfold TK.ok; simp⟩
