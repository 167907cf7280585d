/-! ===== pure: numbers, indices, wp ===== -/
theorem lt31 {i : Nat} (h : i < 1000000) : i < 2 ^ 31 := by omega
def n32 (i : Nat) : Int32 := Int32.ofNat i
theorem n32_int {i : Nat} (h : i < 1000000) : (n32 i).toInt = (i : Int) := Int32.toInt_ofNat_of_lt (lt31 h)
theorem n32_nat {i : Nat} (h : i < 1000000) : (n32 i).toNatClampNeg = i := Int32.toNatClampNeg_ofNat_of_lt (lt31 h)
theorem n32_add (i j : Nat) : n32 i + n32 j = n32 (i + j) := (Int32.ofNat_add i j).symm
theorem n32_mul (i j : Nat) : n32 i * n32 j = n32 (i * j) := (Int32.ofNat_mul i j).symm
theorem n32_sub {i j : Nat} (h : j ≤ i) : n32 i - n32 j = n32 (i - j) := (Int32.ofNat_sub i j h).symm
theorem n32_le {i j : Nat} (hi : i < 1000000) (hj : j < 1000000) : n32 i ≤ n32 j ↔ i ≤ j := Int32.ofNat_le_iff_le (lt31 hi) (lt31 hj)
theorem n32_lt {i j : Nat} (hi : i < 1000000) (hj : j < 1000000) : n32 i < n32 j ↔ i < j := Int32.ofNat_lt_iff_lt (lt31 hi) (lt31 hj)
theorem n32_inj {i j : Nat} (hi : i < 1000000) (hj : j < 1000000) : n32 i = n32 j ↔ i = j := by
  rw [← Int32.toInt_inj, n32_int hi, n32_int hj]; omega
theorem n32_of {a : Int32} (h : 0 ≤ a.toInt) : a = n32 a.toInt.toNat := by
  show a = Int32.ofNat a.toNatClampNeg
  exact (Int32.ofNat_toNatClampNeg a (Int32.le_iff_toInt_le.mpr h)).symm
theorem n32_ex {a : Int32} {b : Int} (h : 0 ≤ a.toInt) (h2 : a.toInt ≤ b) : ∃ i : Nat, (i : Int) ≤ b ∧ a = n32 i := ⟨a.toInt.toNat, by omega, n32_of h⟩
theorem i32_lo (a : Int32) : -2147483648 ≤ a.toInt := a.le_toInt
theorem i32_hi (a : Int32) : a.toInt < 2147483648 := a.toInt_lt
theorem i32_add {a b : Int32} (h1 : -2147483648 ≤ a.toInt + b.toInt) (h2 : a.toInt + b.toInt < 2147483648) : (a + b).toInt = a.toInt + b.toInt := by
  rw [Int32.toInt_add]; exact Int.bmod_eq_of_le (by omega) (by omega)
theorem i32_sub {a b : Int32} (h1 : -2147483648 ≤ a.toInt - b.toInt) (h2 : a.toInt - b.toInt < 2147483648) : (a - b).toInt = a.toInt - b.toInt := by
  rw [Int32.toInt_sub]; exact Int.bmod_eq_of_le (by omega) (by omega)
theorem i32_neg {a : Int32} (h1 : -2147483648 < a.toInt) : (-a).toInt = -a.toInt := by
  have := a.toInt_lt
  rw [Int32.toInt_neg]; exact Int.bmod_eq_of_le (by omega) (by omega)
theorem i32_mul {a b : Int32} (h1 : -2147483648 ≤ a.toInt * b.toInt) (h2 : a.toInt * b.toInt < 2147483648) : (a * b).toInt = a.toInt * b.toInt := by
  rw [Int32.toInt_mul]; exact Int.bmod_eq_of_le (by omega) (by omega)
theorem i32_le {a b : Int32} : a ≤ b ↔ a.toInt ≤ b.toInt := Int32.le_iff_toInt_le
theorem i32_lt {a b : Int32} : a < b ↔ a.toInt < b.toInt := Int32.lt_iff_toInt_lt
theorem i32_eq {a b : Int32} : a = b ↔ a.toInt = b.toInt := Int32.toInt_inj.symm
theorem ib_n {i n : Nat} (h : i < n) (hn : n < 1000000) : ib (n32 i) n = true := by
  unfold ib
  rw [decide_eq_true_iff]
  rintro (q | q)
  · rw [i32_lt, n32_int (by omega)] at q
    have e : (0 : Int32).toInt = 0 := rfl
    omega
  · rw [n32_nat (by omega)] at q; omega
theorem ib_t {a : Int32} {n : Nat} (h0 : 0 ≤ a.toInt) (h : a.toInt < n) (hn : n < 1000000) : ib a n = true := by
  rw [n32_of h0]; exact ib_n (by omega) hn
theorem gd_t {α : Type} {b : Bool} {k : Option α} (h : b = true) : gd b k = k := if_pos h
theorem gd_tt {α : Type} {k : Option α} : gd true k = k := rfl
theorem b2i_t : b2i true = 1 := rfl
theorem b2i_f : b2i false = 0 := rfl
theorem b2i_z {b : Bool} : (b2i b = 0) = (b = false) := by cases b <;> decide
theorem wi_t {a l h : Int32} : f_X10_within a l h = true ↔ l.toInt ≤ a.toInt ∧ a.toInt ≤ h.toInt := by
  unfold f_X10_within f_X10_within_14
  by_cases h1 : a < l
  · rw [if_pos h1]; rw [i32_lt] at h1; constructor
    · intro q; cases q
    · intro q; omega
  · rw [if_neg h1]
    by_cases h2 : h < a
    · rw [if_pos h2]; rw [i32_lt] at h2; constructor
      · intro q; cases q
      · intro q; omega
    · rw [if_neg h2]; rw [i32_lt] at h1 h2; exact ⟨fun _ => ⟨by omega, by omega⟩, fun _ => rfl⟩
theorem wi_f {a l h : Int32} : f_X10_within a l h = false ↔ a.toInt < l.toInt ∨ h.toInt < a.toInt := by
  have := @wi_t a l h
  cases e : f_X10_within a l h
  · rw [e] at this
    refine ⟨fun _ => ?_, fun _ => rfl⟩
    have h2 : ¬ (l.toInt ≤ a.toInt ∧ a.toInt ≤ h.toInt) := fun q => by cases this.mpr q
    omega
  · rw [e] at this
    have h2 := this.mp rfl
    exact ⟨fun q => (by cases q), fun q => by omega⟩
theorem in_wi (a l h : Int32) : f_X11_in a l h = f_X10_within a l h := rfl
theorem sec_wi (a : Int32) : f_X10_isSection a = f_X10_within a 0 8 := rfl
theorem secM_wi (a : Int32) : f_X11_isSection a = f_X10_within a 0 8 := rfl
/-- within, decided: an index out of a number -/
theorem wi_cases (a l h : Int32) (h0 : 0 ≤ l.toInt) : f_X10_within a l h = false ∨ (f_X10_within a l h = true ∧ ∃ i : Nat, l.toInt ≤ (i : Int) ∧ (i : Int) ≤ h.toInt ∧ a = n32 i) := by
  cases e : f_X10_within a l h
  · exact Or.inl rfl
  · have := wi_t.mp e
    exact Or.inr ⟨rfl, a.toInt.toNat, by omega, by omega, n32_of (by omega)⟩
theorem sec_t {s : Nat} (h : s < 9) : f_X10_within (n32 s) 0 8 = true := wi_t.mpr (by
  rw [n32_int (by omega)]
  have e : (0 : Int32).toInt = 0 := rfl
  have e2 : (8 : Int32).toInt = 8 := rfl
  omega)
/-- it comes to something that Q holds of -/
def wp {α : Type} (o : Option α) (Q : α → Prop) : Prop := ∃ v, o = some v ∧ Q v
theorem wp_s {α : Type} {v : α} {Q : α → Prop} (h : Q v) : wp (some v) Q := ⟨v, rfl, h⟩
theorem wp_b {α β : Type} {o : Option α} {k : α → Option β} {Q : β → Prop} (h : wp o (fun v => wp (k v) Q)) : wp (o.bind k) Q := by
  obtain ⟨v, e, w, e2, q⟩ := h
  exact ⟨w, by rw [e]; exact e2, q⟩
theorem wp_bw {α β : Type} {o : Option α} {k : α → Option β} {Q : β → Prop} {P : α → Prop} (h : wp o P) (hk : ∀ v, P v → wp (k v) Q) : wp (o.bind k) Q := by
  obtain ⟨v, e, p⟩ := h
  obtain ⟨w, e2, q⟩ := hk v p
  exact ⟨w, by rw [e]; exact e2, q⟩
theorem wp_be {α β : Type} {o : Option α} {v : α} {k : α → Option β} {Q : β → Prop} (e : o = some v) (hk : wp (k v) Q) : wp (o.bind k) Q := by
  rw [e]; exact hk
theorem wp_g {α : Type} {b : Bool} {k : Option α} {Q : α → Prop} (h : b = true) (hk : wp k Q) : wp (gd b k) Q := by rw [gd_t h]; exact hk
theorem wp_i {α : Type} {c : Prop} [Decidable c] {a b : Option α} {Q : α → Prop} (h1 : c → wp a Q) (h2 : ¬ c → wp b Q) : wp (if c then a else b) Q := by
  by_cases h : c
  · rw [if_pos h]; exact h1 h
  · rw [if_neg h]; exact h2 h
theorem wp_m {α : Type} {o : Option α} {P Q : α → Prop} (h : wp o P) (hk : ∀ v, P v → Q v) : wp o Q := by
  obtain ⟨v, e, p⟩ := h
  exact ⟨v, e, hk v p⟩
theorem wp_t {α : Type} {c : Prop} [Decidable c] {a b : Option α} {Q : α → Prop} (hc : c) (h : wp a Q) : wp (if c then a else b) Q := by rw [if_pos hc]; exact h
theorem wp_e {α : Type} {c : Prop} [Decidable c] {a b : Option α} {Q : α → Prop} (hc : ¬ c) (h : wp b Q) : wp (if c then a else b) Q := by rw [if_neg hc]; exact h
theorem wp_eq {α : Type} {o : Option α} {v : α} (h : wp o (fun w => w = v)) : o = some v := by
  obtain ⟨w, e, q⟩ := h
  rw [e, q]
/-! cells -/
theorem gp_eq {β : Type} (x : (Nat → Nat → Int32) × β) (q j : Nat) (v : Int32) : gi (pi x q j v) q j = v := by
  show (if q = q then upd (x.1 q) j v else x.1 q) j = v
  rw [if_pos rfl]; unfold upd; rw [if_pos rfl]
theorem gp_j {β : Type} (x : (Nat → Nat → Int32) × β) (q : Nat) {j j' : Nat} (v : Int32) (h : j' ≠ j) : gi (pi x q j v) q j' = gi x q j' := by
  show (if q = q then upd (x.1 q) j v else x.1 q) j' = x.1 q j'
  rw [if_pos rfl]; unfold upd; rw [if_neg h]
theorem gp_q {β : Type} (x : (Nat → Nat → Int32) × β) {q q' : Nat} (j j' : Nat) (v : Int32) (h : q' ≠ q) : gi (pi x q j v) q' j' = gi x q' j' := by
  show (if q' = q then upd (x.1 q) j v else x.1 q') j' = x.1 q' j'
  rw [if_neg h]
theorem gp_if {β : Type} (x : (Nat → Nat → Int32) × β) (q q' j j' : Nat) (v : Int32) : gi (pi x q j v) q' j' = if q' = q ∧ j' = j then v else gi x q' j' := by
  by_cases h : q' = q
  · subst h
    by_cases h2 : j' = j
    · subst h2; rw [gp_eq, if_pos ⟨rfl, rfl⟩]
    · rw [gp_j _ _ _ h2, if_neg (fun z => h2 z.2)]
  · rw [gp_q _ _ _ _ h, if_neg (fun z => h z.1)]
theorem pi1_q {β : Type} (x : (Nat → Nat → Int32) × β) {q q' : Nat} (j : Nat) (v : Int32) (h : q' ≠ q) : (pi x q j v).1 q' = x.1 q' := if_neg h
theorem pi2 {β : Type} (x : (Nat → Nat → Int32) × β) (q j : Nat) (v : Int32) : (pi x q j v).2 = x.2 := rfl
theorem gi_of {β γ : Type} {x : (Nat → Nat → Int32) × β} {y : (Nat → Nat → Int32) × γ} {q : Nat} (h : x.1 q = y.1 q) (j : Nat) : gi x q j = gi y q j := congrFun h j
theorem q_0 : (0 : Int32) = n32 0 := rfl
theorem z_0 : (0 : Int32).toInt = 0 := rfl
theorem c_0 : (0 : Int32).toNatClampNeg = 0 := rfl
theorem q_1 : (1 : Int32) = n32 1 := rfl
theorem z_1 : (1 : Int32).toInt = 1 := rfl
theorem c_1 : (1 : Int32).toNatClampNeg = 1 := rfl
theorem q_2 : (2 : Int32) = n32 2 := rfl
theorem z_2 : (2 : Int32).toInt = 2 := rfl
theorem c_2 : (2 : Int32).toNatClampNeg = 2 := rfl
theorem q_3 : (3 : Int32) = n32 3 := rfl
theorem z_3 : (3 : Int32).toInt = 3 := rfl
theorem c_3 : (3 : Int32).toNatClampNeg = 3 := rfl
theorem q_4 : (4 : Int32) = n32 4 := rfl
theorem z_4 : (4 : Int32).toInt = 4 := rfl
theorem c_4 : (4 : Int32).toNatClampNeg = 4 := rfl
theorem q_5 : (5 : Int32) = n32 5 := rfl
theorem z_5 : (5 : Int32).toInt = 5 := rfl
theorem c_5 : (5 : Int32).toNatClampNeg = 5 := rfl
theorem q_6 : (6 : Int32) = n32 6 := rfl
theorem z_6 : (6 : Int32).toInt = 6 := rfl
theorem c_6 : (6 : Int32).toNatClampNeg = 6 := rfl
theorem q_7 : (7 : Int32) = n32 7 := rfl
theorem z_7 : (7 : Int32).toInt = 7 := rfl
theorem c_7 : (7 : Int32).toNatClampNeg = 7 := rfl
theorem q_8 : (8 : Int32) = n32 8 := rfl
theorem z_8 : (8 : Int32).toInt = 8 := rfl
theorem c_8 : (8 : Int32).toNatClampNeg = 8 := rfl
theorem q_9 : (9 : Int32) = n32 9 := rfl
theorem z_9 : (9 : Int32).toInt = 9 := rfl
theorem c_9 : (9 : Int32).toNatClampNeg = 9 := rfl
theorem q_10 : (10 : Int32) = n32 10 := rfl
theorem z_10 : (10 : Int32).toInt = 10 := rfl
theorem c_10 : (10 : Int32).toNatClampNeg = 10 := rfl
theorem q_11 : (11 : Int32) = n32 11 := rfl
theorem z_11 : (11 : Int32).toInt = 11 := rfl
theorem c_11 : (11 : Int32).toNatClampNeg = 11 := rfl
theorem q_12 : (12 : Int32) = n32 12 := rfl
theorem z_12 : (12 : Int32).toInt = 12 := rfl
theorem c_12 : (12 : Int32).toNatClampNeg = 12 := rfl
theorem q_13 : (13 : Int32) = n32 13 := rfl
theorem z_13 : (13 : Int32).toInt = 13 := rfl
theorem c_13 : (13 : Int32).toNatClampNeg = 13 := rfl
theorem q_14 : (14 : Int32) = n32 14 := rfl
theorem z_14 : (14 : Int32).toInt = 14 := rfl
theorem c_14 : (14 : Int32).toNatClampNeg = 14 := rfl
theorem q_15 : (15 : Int32) = n32 15 := rfl
theorem z_15 : (15 : Int32).toInt = 15 := rfl
theorem c_15 : (15 : Int32).toNatClampNeg = 15 := rfl
theorem q_16 : (16 : Int32) = n32 16 := rfl
theorem z_16 : (16 : Int32).toInt = 16 := rfl
theorem c_16 : (16 : Int32).toNatClampNeg = 16 := rfl
theorem q_17 : (17 : Int32) = n32 17 := rfl
theorem z_17 : (17 : Int32).toInt = 17 := rfl
theorem c_17 : (17 : Int32).toNatClampNeg = 17 := rfl
theorem q_18 : (18 : Int32) = n32 18 := rfl
theorem z_18 : (18 : Int32).toInt = 18 := rfl
theorem c_18 : (18 : Int32).toNatClampNeg = 18 := rfl
theorem q_19 : (19 : Int32) = n32 19 := rfl
theorem z_19 : (19 : Int32).toInt = 19 := rfl
theorem c_19 : (19 : Int32).toNatClampNeg = 19 := rfl
theorem q_20 : (20 : Int32) = n32 20 := rfl
theorem z_20 : (20 : Int32).toInt = 20 := rfl
theorem c_20 : (20 : Int32).toNatClampNeg = 20 := rfl
theorem q_24 : (24 : Int32) = n32 24 := rfl
theorem z_24 : (24 : Int32).toInt = 24 := rfl
theorem c_24 : (24 : Int32).toNatClampNeg = 24 := rfl
theorem q_27 : (27 : Int32) = n32 27 := rfl
theorem z_27 : (27 : Int32).toInt = 27 := rfl
theorem c_27 : (27 : Int32).toNatClampNeg = 27 := rfl
theorem q_36 : (36 : Int32) = n32 36 := rfl
theorem z_36 : (36 : Int32).toInt = 36 := rfl
theorem c_36 : (36 : Int32).toNatClampNeg = 36 := rfl
theorem q_39 : (39 : Int32) = n32 39 := rfl
theorem z_39 : (39 : Int32).toInt = 39 := rfl
theorem c_39 : (39 : Int32).toNatClampNeg = 39 := rfl
theorem q_40 : (40 : Int32) = n32 40 := rfl
theorem z_40 : (40 : Int32).toInt = 40 := rfl
theorem c_40 : (40 : Int32).toNatClampNeg = 40 := rfl
theorem q_45 : (45 : Int32) = n32 45 := rfl
theorem z_45 : (45 : Int32).toInt = 45 := rfl
theorem c_45 : (45 : Int32).toNatClampNeg = 45 := rfl
theorem q_48 : (48 : Int32) = n32 48 := rfl
theorem z_48 : (48 : Int32).toInt = 48 := rfl
theorem c_48 : (48 : Int32).toNatClampNeg = 48 := rfl
theorem q_54 : (54 : Int32) = n32 54 := rfl
theorem z_54 : (54 : Int32).toInt = 54 := rfl
theorem c_54 : (54 : Int32).toNatClampNeg = 54 := rfl
theorem q_57 : (57 : Int32) = n32 57 := rfl
theorem z_57 : (57 : Int32).toInt = 57 := rfl
theorem c_57 : (57 : Int32).toNatClampNeg = 57 := rfl
theorem q_59 : (59 : Int32) = n32 59 := rfl
theorem z_59 : (59 : Int32).toInt = 59 := rfl
theorem c_59 : (59 : Int32).toNatClampNeg = 59 := rfl
theorem q_60 : (60 : Int32) = n32 60 := rfl
theorem z_60 : (60 : Int32).toInt = 60 := rfl
theorem c_60 : (60 : Int32).toNatClampNeg = 60 := rfl
theorem q_61 : (61 : Int32) = n32 61 := rfl
theorem z_61 : (61 : Int32).toInt = 61 := rfl
theorem c_61 : (61 : Int32).toNatClampNeg = 61 := rfl
theorem q_97 : (97 : Int32) = n32 97 := rfl
theorem z_97 : (97 : Int32).toInt = 97 := rfl
theorem c_97 : (97 : Int32).toNatClampNeg = 97 := rfl
theorem q_99 : (99 : Int32) = n32 99 := rfl
theorem z_99 : (99 : Int32).toInt = 99 := rfl
theorem c_99 : (99 : Int32).toNatClampNeg = 99 := rfl
theorem q_100 : (100 : Int32) = n32 100 := rfl
theorem z_100 : (100 : Int32).toInt = 100 := rfl
theorem c_100 : (100 : Int32).toNatClampNeg = 100 := rfl
theorem q_122 : (122 : Int32) = n32 122 := rfl
theorem z_122 : (122 : Int32).toInt = 122 := rfl
theorem c_122 : (122 : Int32).toNatClampNeg = 122 := rfl
theorem q_158 : (158 : Int32) = n32 158 := rfl
theorem z_158 : (158 : Int32).toInt = 158 := rfl
theorem c_158 : (158 : Int32).toNatClampNeg = 158 := rfl
theorem q_159 : (159 : Int32) = n32 159 := rfl
theorem z_159 : (159 : Int32).toInt = 159 := rfl
theorem c_159 : (159 : Int32).toNatClampNeg = 159 := rfl
theorem q_160 : (160 : Int32) = n32 160 := rfl
theorem z_160 : (160 : Int32).toInt = 160 := rfl
theorem c_160 : (160 : Int32).toNatClampNeg = 160 := rfl
theorem q_198 : (198 : Int32) = n32 198 := rfl
theorem z_198 : (198 : Int32).toInt = 198 := rfl
theorem c_198 : (198 : Int32).toNatClampNeg = 198 := rfl
theorem q_199 : (199 : Int32) = n32 199 := rfl
theorem z_199 : (199 : Int32).toInt = 199 := rfl
theorem c_199 : (199 : Int32).toNatClampNeg = 199 := rfl
theorem q_200 : (200 : Int32) = n32 200 := rfl
theorem z_200 : (200 : Int32).toInt = 200 := rfl
theorem c_200 : (200 : Int32).toNatClampNeg = 200 := rfl
theorem q_255 : (255 : Int32) = n32 255 := rfl
theorem z_255 : (255 : Int32).toInt = 255 := rfl
theorem c_255 : (255 : Int32).toNatClampNeg = 255 := rfl
theorem q_300 : (300 : Int32) = n32 300 := rfl
theorem z_300 : (300 : Int32).toInt = 300 := rfl
theorem c_300 : (300 : Int32).toNatClampNeg = 300 := rfl
theorem q_301 : (301 : Int32) = n32 301 := rfl
theorem z_301 : (301 : Int32).toInt = 301 := rfl
theorem c_301 : (301 : Int32).toNatClampNeg = 301 := rfl
theorem q_302 : (302 : Int32) = n32 302 := rfl
theorem z_302 : (302 : Int32).toInt = 302 := rfl
theorem c_302 : (302 : Int32).toNatClampNeg = 302 := rfl
theorem q_303 : (303 : Int32) = n32 303 := rfl
theorem z_303 : (303 : Int32).toInt = 303 := rfl
theorem c_303 : (303 : Int32).toNatClampNeg = 303 := rfl
theorem q_304 : (304 : Int32) = n32 304 := rfl
theorem z_304 : (304 : Int32).toInt = 304 := rfl
theorem c_304 : (304 : Int32).toNatClampNeg = 304 := rfl
theorem q_305 : (305 : Int32) = n32 305 := rfl
theorem z_305 : (305 : Int32).toInt = 305 := rfl
theorem c_305 : (305 : Int32).toNatClampNeg = 305 := rfl
theorem q_306 : (306 : Int32) = n32 306 := rfl
theorem z_306 : (306 : Int32).toInt = 306 := rfl
theorem c_306 : (306 : Int32).toNatClampNeg = 306 := rfl
theorem q_307 : (307 : Int32) = n32 307 := rfl
theorem z_307 : (307 : Int32).toInt = 307 := rfl
theorem c_307 : (307 : Int32).toNatClampNeg = 307 := rfl
theorem q_308 : (308 : Int32) = n32 308 := rfl
theorem z_308 : (308 : Int32).toInt = 308 := rfl
theorem c_308 : (308 : Int32).toNatClampNeg = 308 := rfl
theorem q_309 : (309 : Int32) = n32 309 := rfl
theorem z_309 : (309 : Int32).toInt = 309 := rfl
theorem c_309 : (309 : Int32).toNatClampNeg = 309 := rfl
theorem q_310 : (310 : Int32) = n32 310 := rfl
theorem z_310 : (310 : Int32).toInt = 310 := rfl
theorem c_310 : (310 : Int32).toNatClampNeg = 310 := rfl
theorem q_311 : (311 : Int32) = n32 311 := rfl
theorem z_311 : (311 : Int32).toInt = 311 := rfl
theorem c_311 : (311 : Int32).toNatClampNeg = 311 := rfl
theorem q_312 : (312 : Int32) = n32 312 := rfl
theorem z_312 : (312 : Int32).toInt = 312 := rfl
theorem c_312 : (312 : Int32).toNatClampNeg = 312 := rfl
theorem q_313 : (313 : Int32) = n32 313 := rfl
theorem z_313 : (313 : Int32).toInt = 313 := rfl
theorem c_313 : (313 : Int32).toNatClampNeg = 313 := rfl
theorem q_314 : (314 : Int32) = n32 314 := rfl
theorem z_314 : (314 : Int32).toInt = 314 := rfl
theorem c_314 : (314 : Int32).toNatClampNeg = 314 := rfl
theorem q_315 : (315 : Int32) = n32 315 := rfl
theorem z_315 : (315 : Int32).toInt = 315 := rfl
theorem c_315 : (315 : Int32).toNatClampNeg = 315 := rfl
theorem q_316 : (316 : Int32) = n32 316 := rfl
theorem z_316 : (316 : Int32).toInt = 316 := rfl
theorem c_316 : (316 : Int32).toNatClampNeg = 316 := rfl
theorem q_999 : (999 : Int32) = n32 999 := rfl
theorem z_999 : (999 : Int32).toInt = 999 := rfl
theorem c_999 : (999 : Int32).toNatClampNeg = 999 := rfl
theorem q_1000 : (1000 : Int32) = n32 1000 := rfl
theorem z_1000 : (1000 : Int32).toInt = 1000 := rfl
theorem c_1000 : (1000 : Int32).toNatClampNeg = 1000 := rfl
theorem q_1200 : (1200 : Int32) = n32 1200 := rfl
theorem z_1200 : (1200 : Int32).toInt = 1200 := rfl
theorem c_1200 : (1200 : Int32).toNatClampNeg = 1200 := rfl
theorem q_9999 : (9999 : Int32) = n32 9999 := rfl
theorem z_9999 : (9999 : Int32).toInt = 9999 := rfl
theorem c_9999 : (9999 : Int32).toNatClampNeg = 9999 := rfl
theorem q_99999 : (99999 : Int32) = n32 99999 := rfl
theorem z_99999 : (99999 : Int32).toInt = 99999 := rfl
theorem c_99999 : (99999 : Int32).toNatClampNeg = 99999 := rfl
theorem q_100000 : (100000 : Int32) = n32 100000 := rfl
theorem z_100000 : (100000 : Int32).toInt = 100000 := rfl
theorem c_100000 : (100000 : Int32).toNatClampNeg = 100000 := rfl
theorem z_m1 : (-1 : Int32).toInt = -1 := rfl
theorem z_m2 : (-2 : Int32).toInt = -2 := rfl
theorem z_m3 : (-3 : Int32).toInt = -3 := rfl
theorem z_m4 : (-4 : Int32).toInt = -4 := rfl
theorem z_m5 : (-5 : Int32).toInt = -5 := rfl
theorem z_m6 : (-6 : Int32).toInt = -6 := rfl
theorem z_m7 : (-7 : Int32).toInt = -7 := rfl
theorem z_m8 : (-8 : Int32).toInt = -8 := rfl
theorem z_m9 : (-9 : Int32).toInt = -9 := rfl
theorem z_m10 : (-10 : Int32).toInt = -10 := rfl
theorem z_m11 : (-11 : Int32).toInt = -11 := rfl
theorem z_m12 : (-12 : Int32).toInt = -12 := rfl
theorem z_m13 : (-13 : Int32).toInt = -13 := rfl
theorem z_m14 : (-14 : Int32).toInt = -14 := rfl
theorem z_m15 : (-15 : Int32).toInt = -15 := rfl
theorem z_m16 : (-16 : Int32).toInt = -16 := rfl
theorem z_m17 : (-17 : Int32).toInt = -17 := rfl
theorem z_m18 : (-18 : Int32).toInt = -18 := rfl
theorem z_m19 : (-19 : Int32).toInt = -19 := rfl
theorem z_m20 : (-20 : Int32).toInt = -20 := rfl
theorem z_m100 : (-100 : Int32).toInt = -100 := rfl
theorem z_m1000000 : (-1000000 : Int32).toInt = -1000000 := rfl
