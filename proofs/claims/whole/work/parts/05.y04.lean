/-! ===== pure: fire, inch, workings, by the class ===== -/
def DR (dr : Bool) (l : Int64) : Prop := if dr = true then 0 < l.toInt ∧ l.toInt < 2147483647 else l = 0
theorem lg_z (a b : Int64) : lg_cmp a b = 0 ↔ a = b := by
  unfold lg_cmp
  by_cases h : a > b
  · rw [if_pos h]
    constructor
    · intro q; exact absurd q (by decide)
    · intro q; subst q; exact absurd h (by simp)
  · rw [if_neg h]
    by_cases h2 : a = b
    · rw [if_pos h2]; exact ⟨fun _ => h2, fun _ => rfl⟩
    · rw [if_neg h2]
      exact ⟨fun q => absurd q (by decide), fun q => absurd q h2⟩
theorem i64_mul {a b : Int64} (h1 : -9223372036854775808 ≤ a.toInt * b.toInt) (h2 : a.toInt * b.toInt < 9223372036854775808) : (a * b).toInt = a.toInt * b.toInt := by
  rw [Int64.toInt_mul]; exact Int.bmod_eq_of_le (by omega) (by omega)
theorem i64_sub {a b : Int64} (h1 : -9223372036854775808 ≤ a.toInt - b.toInt) (h2 : a.toInt - b.toInt < 9223372036854775808) : (a - b).toInt = a.toInt - b.toInt := by
  rw [Int64.toInt_sub]; exact Int.bmod_eq_of_le (by omega) (by omega)
theorem i64_add {a b : Int64} (h1 : -9223372036854775808 ≤ a.toInt + b.toInt) (h2 : a.toInt + b.toInt < 9223372036854775808) : (a + b).toInt = a.toInt + b.toInt := by
  rw [Int64.toInt_add]; exact Int.bmod_eq_of_le (by omega) (by omega)
theorem i64_eq {a b : Int64} : a = b ↔ a.toInt = b.toInt := Int64.toInt_inj.symm
theorem i64_div {a b : Int64} (h : 0 ≤ a.toInt) (h2 : 0 < b.toInt) : (a / b).toInt = a.toInt / b.toInt := by
  rw [Int64.toInt_div_of_ne_right a b (fun q => by rw [q] at h2; exact absurd h2 (by decide))]
  exact Int.tdiv_eq_ediv_of_nonneg h
theorem lotN_int {l : Int64} (h0 : 0 < l.toInt) (h1 : l.toInt < 2147483647) : (lotN l).toInt = l.toInt * 48271 % 2147483647 := by
  unfold lotN
  have e1 : (48271 : Int64).toInt = 48271 := rfl
  have e2 : (2147483647 : Int64).toInt = 2147483647 := rfl
  have m1 : (l * 48271).toInt = l.toInt * 48271 := by rw [i64_mul, e1] <;> rw [e1] <;> omega
  have d1 : (l * 48271 / 2147483647).toInt = l.toInt * 48271 / 2147483647 := by rw [i64_div, m1, e2] <;> first | (rw [m1]; omega) | (rw [e2]; omega)
  have m2 : (l * 48271 / 2147483647 * 2147483647).toInt = l.toInt * 48271 / 2147483647 * 2147483647 := by
    rw [i64_mul, d1, e2] <;> rw [d1, e2] <;> omega
  rw [i64_sub, m1, m2]
  · omega
  · rw [m1, m2]; omega
  · rw [m1, m2]; omega
theorem lotN_DR {l : Int64} (h0 : 0 < l.toInt) (h1 : l.toInt < 2147483647) : 0 < (lotN l).toInt ∧ (lotN l).toInt < 2147483647 := by
  rw [lotN_int h0 h1]
  refine ⟨?_, by omega⟩
  rcases (by omega : 0 < l.toInt * 48271 % 2147483647 ∨ l.toInt * 48271 % 2147483647 ≤ 0) with h | h
  · exact h
  · exfalso
    have hz : l.toInt * 48271 % 2147483647 = 0 := by omega
    obtain ⟨k, hk⟩ : ∃ k, l.toInt * 48271 = 2147483647 * k := ⟨l.toInt * 48271 / 2147483647, by omega⟩
    -- 48271 * 1899818559 = 1 + 2147483647 * 42704
    have hm : l.toInt * 48271 * 1899818559 = 2147483647 * k * 1899818559 := by rw [hk]
    omega
theorem sLot_DR {dr : Bool} {l : Int64} (h : DR dr l) : DR dr (sLot dr l) := by
  unfold DR sLot at *
  cases dr
  · exact h
  · simp only [if_true] at h ⊢
    exact lotN_DR h.1 h.2
theorem sDeep_eq (d : Int32) (l : Int64) : sDeep true d l = (if 0 < (d + ((lotN l - lotN l / 3 * 3).toInt32)) - 1 then (d + ((lotN l - lotN l / 3 * 3).toInt32)) - 1 else 0) := by
  have e : d + ((lotN l - lotN l / 3 * 3).toInt32 - 1) = (d + ((lotN l - lotN l / 3 * 3).toInt32)) - 1 := by
    rw [Int32.sub_eq_add_neg, Int32.sub_eq_add_neg, Int32.add_assoc]
  unfold sDeep
  rw [if_pos rfl, e]
  generalize (d + ((lotN l - lotN l / 3 * 3).toInt32)) - 1 = z
  by_cases h : (0 : Int32) < z
  · rw [if_pos h]; rw [i32_lt] at h; rw [if_pos (i32_le.mpr (by omega))]
  · rw [if_neg h]
    by_cases h2 : (0 : Int32) ≤ z
    · rw [if_pos h2]; rw [i32_lt, z_0] at h; rw [i32_le, z_0] at h2; exact i32_eq.mpr (by rw [z_0]; omega)
    · rw [if_neg h2]
theorem X_fire78 {x0 x : CS} {nm : EX} {h : HS} {e : EX} {s : Nat} (hx : HX x0 nm h e x) (hs : s < 9) (d : Int32) : wp (f_X2_fire_78 x (n32 s) d) (HX x0 nm (sHit s d (hL h) h) e) := by
  unfold f_X2_fire_78 sHit
  have et : gi x 50 s = hT h s := hx.2.2.2.1 s hs
  rw [n32_nat (by omega), gp_eq, et, X_bit hs]
  refine wp_g (ib_n hs (by omega)) (wp_g (ib_n hs (by omega)) (wp_g (ib_n hs (by omega)) ?_))
  by_cases h0 : 0 < hT h s - d
  · refine wp_t h0 (wp_s ?_)
    rw [if_pos h0]
    exact HX_T hx
  · refine wp_e h0 (wp_g (ib_n hs (by omega)) (wp_s ?_))
    rw [if_neg h0]
    have h1 := HX_T (s := s) (v := 0) (HX_T (s := s) (v := hT h s - d) hx)
    have h2 := HX_B (v := hB h ||| bit s) h1
    have e3 : gi (pi (pi x 50 s (hT h s - d)) 50 s 0) 48 6 = hB h := h1.2.2.2.2.2.1
    rw [e3]
    have e4 : upd (upd (hT h) s (hT h s - d)) s 0 = upd (hT h) s 0 := by
      funext j; unfold upd; split <;> rfl
    have h3 : HX x0 nm (hW h, upd (upd (hT h) s (hT h s - d)) s 0, hH h, hB h ||| bit s, hS h, hL h) e _ := h2
    rw [e4] at h3
    exact h3
theorem hL_mk (a b c : Nat → Int32) (d e : Int32) (l : Int64) : hL (a, b, c, d, e, l) = l := rfl
theorem sHit_L (s : Nat) (d : Int32) (l l' : Int64) (h : HS) : sHit s d l (hW h, hT h, hH h, hB h, hS h, l') = sHit s d l h := by
  unfold sHit; rfl
theorem X_fire {x0 x : CS} {m : Nat → Int32} {sp : Nat → Nat} {cv : CV} {nm : EX} {h : HS} {e : EX} {s : Nat} {dr : Bool} (sx : SX x0 m sp cv) (hx : HX x0 nm h e x) (hs : s < 9) (hd : DR dr (hL h)) : wp (f_X2_fire x (n32 s)) (HX x0 nm (sFire (Qf m sp nm.1 nm.2.1 nm.2.2) cv dr s h) e) := by
  unfold f_X2_fire
  have h2 : f_X10_isSection (n32 s) = true := sec_t hs
  rw [h2]
  refine wp_e bt (wp_g (ib_n hs (by omega)) (wp_g (ib_n hs (by omega)) ?_))
  refine wp_be (X_of1 x (w := 4) (by omega) hs) ?_
  rw [n32_nat (by omega)]
  have e4 : gi x (3 + 4) s = cv 4 s := by rw [gi_of (hx.1.1 (3 + 4) (by omega) (by omega))]; exact sx.2.1 4 s (by omega) hs
  have et : gi x 50 s = hT h s := hx.2.2.2.1 s hs
  have ew : gi x 49 s = hW h s := hx.2.2.1 s hs
  rw [e4, et, ew]
  refine wp_bw (X_asked (LX_Fr sx.1 hx.1) (p := 0) (by omega) _ _ _) (fun v hv => ?_)
  obtain ⟨v, x1⟩ := v
  obtain ⟨ev, hf⟩ := hv
  have ev : v = _ := ev
  rw [hx.2.1.1, hx.2.1.2.1, hx.2.1.2.2] at ev
  have hx1 : HX x0 nm h e x1 := HX_FX hx hf
  have el : glot x1 = hL h := hx1.2.2.2.2.2.2.2.1
  unfold sFire
  rw [← ev]
  dsimp only
  rw [el]
  cases dr
  · have hd : hL h = 0 := hd
    refine wp_t ((lg_z _ _).mpr hd) ?_
    have e1 : sDeep false v (hL h) = v := rfl
    have e2 : sLot false (hL h) = hL h := rfl
    rw [e1, e2]
    exact X_fire78 hx1 hs v
  · have hd : 0 < (hL h).toInt ∧ (hL h).toInt < 2147483647 := hd
    refine wp_e (fun q => by
      have := (lg_z _ _).mp q
      rw [i64_eq] at this
      have e0 : (0 : Int64).toInt = 0 := rfl
      omega) ?_
    have hx2 : HX x0 nm (hW h, hT h, hH h, hB h, hS h, lotN (hL h)) e (plot x1 (lotN (hL h))) := HX_L hx1
    have eg : ∀ z : Int64, glot (plot x1 z) = z := fun _ => rfl
    have ez : hL h * 48271 - hL h * 48271 / 2147483647 * 2147483647 = lotN (hL h) := rfl
    rw [eg, ez, sDeep_eq]
    have et2 : sLot true (hL h) = lotN (hL h) := rfl
    rw [et2]
    have z := X_fire78 hx2 hs (if 0 < (v + ((lotN (hL h) - lotN (hL h) / 3 * 3).toInt32)) - 1 then (v + ((lotN (hL h) - lotN (hL h) / 3 * 3).toInt32)) - 1 else 0)
    rw [hL_mk, sHit_L] at z
    exact z
theorem sFire_L (q : QF) (cv : CV) (dr : Bool) (s : Nat) (h : HS) : hL (sFire q cv dr s h) = sLot dr (hL h) := by
  unfold sFire sHit; split <;> rfl
theorem X_burn {x0 : CS} {m : Nat → Int32} {sp : Nat → Nat} {cv : CV} {nm : EX} {e : EX} {s mo : Nat} {dr : Bool} {low : Int32} (sx : SX x0 m sp cv) (hs : s < 9) (hmo : mo ≤ 100) : ∀ (k i n : Nat) (x : CS) (h : HS), i + k = mo → k < n → HX x0 nm h e x → DR dr (hL h) → wp (f_X2_burn_3 n x (n32 s) (n32 mo) low (n32 i)) (fun x' => HX x0 nm (sBurn (Qf m sp nm.1 nm.2.1 nm.2.2) cv dr s low k h) e x' ∧ DR dr (hL (sBurn (Qf m sp nm.1 nm.2.1 nm.2.2) cv dr s low k h))) := by
  intro k
  induction k with
  | zero =>
    intro i n x h hi hn hx hd
    obtain ⟨n, rfl⟩ : ∃ w, n = w + 1 := ⟨n - 1, by omega⟩
    rw [f_X2_burn_3]
    exact wp_t ((n32_le (by omega) (by omega)).mpr (by omega)) (wp_s ⟨hx, hd⟩)
  | succ k ih =>
    intro i n x h hi hn hx hd
    obtain ⟨n, rfl⟩ : ∃ w, n = w + 1 := ⟨n - 1, by omega⟩
    rw [f_X2_burn_3]
    refine wp_e (fun q => by have := (n32_le (by omega) (by omega)).mp q; omega) ?_
    have h2 : f_X10_isSection (n32 s) = true := sec_t hs
    rw [h2]
    refine wp_e bt (wp_g (ib_n hs (by omega)) ?_)
    rw [n32_nat (by omega), hx.2.2.2.1 s hs]
    rw [sBurn]
    by_cases hl : hT h s ≤ low
    · refine wp_t hl ?_
      rw [if_pos hl]; exact wp_s ⟨hx, hd⟩
    · refine wp_e hl ?_
      rw [if_neg hl]
      refine (wp_bw (X_fire sx hx hs hd) (fun x1 hx1 => ?_))
      rw [q_1, n32_add]
      exact ih (i + 1) n x1 _ (by omega) (by omega) hx1 (by rw [sFire_L]; exact sLot_DR hd)
theorem upd_self (f : Nat → Int32) (s : Nat) : upd f s (f s) = f := by
  funext j; unfold upd; split
  · rename_i h; rw [h]
  · rfl
def QB (q : QF) : Prop := ∀ p t w k, 0 ≤ (q p t w k).toInt ∧ (q p t w k).toInt ≤ 999
theorem Qf_QB (m : Nat → Int32) (sp : Nat → Nat) (a b c : Int32) : QB (Qf m sp a b c) := fun p t w k => Qf_b m sp a b c p t w k
theorem mul_shn {a : Int32} (h0 : 0 ≤ a.toInt) (h1 : a.toInt ≤ 999) (s : Nat) : (a * n32 (shn s)).toInt = a.toInt * (shn s : Int) ∧ 0 ≤ a.toInt * (shn s : Int) ∧ a.toInt * (shn s : Int) ≤ 3996 := by
  have hs := shn_le s
  have key : 0 ≤ a.toInt * (shn s : Int) ∧ a.toInt * (shn s : Int) ≤ 3996 := by
    rcases (by omega : shn s = 0 ∨ shn s = 1 ∨ shn s = 2 ∨ shn s = 3 ∨ shn s = 4) with e | e | e | e | e <;> rw [e] <;> omega
  refine ⟨?_, key⟩
  rw [i32_mul, n32_int (by omega)] <;> rw [n32_int (by omega)] <;> omega
theorem lck_int {q : QF} (hq : QB q) {cv : CV} {s : Nat} (hc : 0 ≤ (cv 3 s).toInt ∧ (cv 3 s).toInt ≤ 99) (h : HS) : (lck q cv h s).toInt = (pl q cv h s).toInt * (shn s : Int) - ((sta q cv h s).toInt + (cv 3 s).toInt) * 4 ∧ -5000 ≤ (lck q cv h s).toInt ∧ (lck q cv h s).toInt ≤ 3996 := by
  have hp := hq 1 (hT h s) (pw h s) (cv 4 s)
  have hs := hq 2 (hT h s) (pw h s) (cv 4 s)
  have hp : 0 ≤ (pl q cv h s).toInt ∧ (pl q cv h s).toInt ≤ 999 := hp
  have hs : 0 ≤ (sta q cv h s).toInt ∧ (sta q cv h s).toInt ≤ 999 := hs
  have hm := mul_shn hp.1 hp.2 s
  have e1 : (sta q cv h s + cv 3 s).toInt = (sta q cv h s).toInt + (cv 3 s).toInt := i32_add (by omega) (by omega)
  have e2 : ((sta q cv h s + cv 3 s) * 4).toInt = ((sta q cv h s).toInt + (cv 3 s).toInt) * 4 := by
    rw [i32_mul, e1, z_4] <;> rw [e1, z_4] <;> omega
  have e3 : (lck q cv h s).toInt = (pl q cv h s).toInt * (shn s : Int) - ((sta q cv h s).toInt + (cv 3 s).toInt) * 4 := by
    unfold lck
    rw [i32_sub, hm.1, e2] <;> rw [hm.1, e2] <;> omega
  rw [e3]
  exact ⟨rfl, by omega, by omega⟩
theorem crk_lck {q : QF} (hq : QB q) {cv : CV} {s : Nat} (hc : 0 ≤ (cv 3 s).toInt ∧ (cv 3 s).toInt ≤ 99) (h : HS) (g : Int) : crk q cv g h s = true ↔ 4 * g < (lck q cv h s).toInt := by
  unfold crk
  rw [decide_eq_true_iff, (lck_int hq hc h).1]
  constructor <;> intro _ <;> omega
theorem X_inch57 {x0 x : CS} {m : Nat → Int32} {sp : Nat → Nat} {cv : CV} {nm : EX} {h : HS} {e : EX} {s : Nat} {Q : CS → Prop} {k12 : CS → Int32 → Option CS} (sx : SX x0 m sp cv) (hx : HX x0 nm (upd (hW h) s (pw h s), hT h, upd (hH h) s (hup h s), hB h, hS h, hL h) e x) (hs : s < 9)
    (hk : ∀ x', HX x0 nm (sInS (Qf m sp nm.1 nm.2.1 nm.2.2) cv 0 s h) (eIn (Qf m sp nm.1 nm.2.1 nm.2.2) cv s h e) x' → wp (k12 x' (n32 (s + 1))) Q) : wp (f_X2_inch_57 k12 x (n32 s)) Q := by
  unfold f_X2_inch_57
  have hg : ∀ z, Fr x0 z → ∀ w, w < 6 → gi z (3 + w) s = cv w s := fun z hz w hw => by rw [gi_of (hz.1 (3 + w) (by omega) (by omega))]; exact sx.2.1 w s hw hs
  refine wp_g (ib_n hs (by omega)) (wp_g (ib_n hs (by omega)) ?_)
  refine wp_be (X_of1 x (w := 4) (by omega) hs) ?_
  rw [n32_nat (by omega), hg x hx.1 4 (by omega), hx.2.2.2.1 s hs, hx.2.2.1 s hs]
  have ew : hW (upd (hW h) s (pw h s), hT h, upd (hH h) s (hup h s), hB h, hS h, hL h) s = pw h s := upd_e _ _ _
  have et : hT (upd (hW h) s (pw h s), hT h, upd (hH h) s (hup h s), hB h, hS h, hL h) s = hT h s := rfl
  rw [ew, et]
  refine wp_bw (X_asked (LX_Fr sx.1 hx.1) (p := 1) (by omega) _ _ _) (fun v hv => ?_)
  obtain ⟨v, x1⟩ := v
  obtain ⟨ev, hf⟩ := hv
  rw [hx.2.1.1, hx.2.1.2.1, hx.2.1.2.2] at ev
  have ev : v = pl (Qf m sp nm.1 nm.2.1 nm.2.2) cv h s := ev
  have hx1 := HX_FX hx hf
  refine wp_g (ib_n hs (by omega)) (wp_g (ib_n hs (by omega)) ?_)
  refine wp_be (X_of1 x1 (w := 4) (by omega) hs) ?_
  show wp ((f_X2_asked x1 2 (gi x1 50 s) (gi x1 49 s) _).bind _) _
  rw [hg x1 hx1.1 4 (by omega), hx1.2.2.2.1 s hs, hx1.2.2.1 s hs, ew, et]
  refine wp_bw (X_asked (LX_Fr sx.1 hx1.1) (p := 2) (by omega) _ _ _) (fun u hu => ?_)
  obtain ⟨u, x2⟩ := u
  obtain ⟨eu, hf2⟩ := hu
  rw [hx1.2.1.1, hx1.2.1.2.1, hx1.2.1.2.2] at eu
  have eu : u = sta (Qf m sp nm.1 nm.2.1 nm.2.2) cv h s := eu
  have hx2 := HX_FX hx1 hf2
  refine wp_be (X_of1 x2 (w := 3) (by omega) hs) ?_
  rw [hg x2 hx2.1 3 (by omega), X_share hs, X_bit hs]
  have el : v * n32 (shn s) - (u + cv 3 s) * 4 = lck (Qf m sp nm.1 nm.2.1 nm.2.2) cv h s := by rw [ev, eu]; rfl
  show wp (if (v * n32 (shn s) - (u + cv 3 s) * 4) ≤ 0 then _ else _) _
  rw [el]
  have hck := crk_lck (Qf_QB m sp nm.1 nm.2.1 nm.2.2) (sx.2.2 s hs) h 0
  generalize hlk : lck (Qf m sp nm.1 nm.2.1 nm.2.2) cv h s = lk at *
  have step : ∀ z, HX x0 nm (sInS (Qf m sp nm.1 nm.2.1 nm.2.2) cv 0 s h) e z → wp (f_X2_inch_151 k12 z (n32 s) lk) Q := by
    intro z hz
    unfold f_X2_inch_151 f_X2_inch_178
    rw [X_bit hs, hz.2.2.2.2.2.2.2.2.2.1, hz.2.2.2.2.2.2.2.2.2.2, q_1, n32_add]
    unfold eIn at hk
    rw [hlk] at hk
    refine wp_i (fun hw => ?_) (fun hw => wp_i (fun hw2 => ?_) (fun hw2 => ?_))
    · exact hk z (by rw [if_pos hw]; exact hz)
    · exact hk z (by rw [if_neg hw, if_pos hw2]; exact hz)
    · exact hk _ (by rw [if_neg hw, if_neg hw2]; exact HX_e10 hz)
  refine wp_i (fun h0 => ?_) (fun h0 => ?_)
  · refine step x2 ?_
    have hc : ¬ crk (Qf m sp nm.1 nm.2.1 nm.2.2) cv 0 h s = true := fun q => by
      have := hck.mp q; rw [i32_le, z_0] at h0; omega
    unfold sInS
    rw [if_neg hc]
    exact hx2
  · have hc : crk (Qf m sp nm.1 nm.2.1 nm.2.2) cv 0 h s = true := hck.mpr (by rw [i32_le, z_0] at h0; omega)
    have eb : gi x2 48 6 = hB h := hx2.2.2.2.2.2.1
    rw [eb]
    refine step _ ?_
    unfold sInS
    rw [if_pos hc]
    exact HX_B hx2
theorem X_inch {x0 : CS} {m : Nat → Int32} {sp : Nat → Nat} {cv : CV} {nm : EX} (sx : SX x0 m sp cv) : ∀ (k s n : Nat) (x : CS) (h : HS) (e : EX), s + k = 9 → k < n → HX x0 nm h e x → wp (f_X2_inch_12 n x (n32 s)) (HX x0 nm (sInA (Qf m sp nm.1 nm.2.1 nm.2.2) cv 0 k s h) (eInA (Qf m sp nm.1 nm.2.1 nm.2.2) cv k s h e)) := by
  intro k
  induction k with
  | zero =>
    intro s n x h e hi hn hx
    obtain ⟨n, rfl⟩ : ∃ w, n = w + 1 := ⟨n - 1, by omega⟩
    rw [f_X2_inch_12, q_9]
    exact wp_t ((n32_le (by omega) (by omega)).mpr (by omega)) (wp_s hx)
  | succ k ih =>
    intro s n x h e hi hn hx
    obtain ⟨n, rfl⟩ : ∃ w, n = w + 1 := ⟨n - 1, by omega⟩
    have hs : s < 9 := by omega
    rw [f_X2_inch_12]
    refine wp_e (fun q => by rw [q_9] at q; have := (n32_le (by omega) (by omega)).mp q; omega) ?_
    refine wp_g (ib_n hs (by omega)) (wp_g (ib_n hs (by omega)) ?_)
    have ew : gi x 49 s + n32 (shn s) = pw h s := by rw [hx.2.2.1 s hs]; rfl
    have h1 := HX_W (s := s) (v := pw h s) hx
    rw [X_share hs, n32_nat (by omega), ew]
    have eS : gi (pi x 49 s (pw h s)) 48 7 = hS h := h1.2.2.2.2.2.2.1
    have eH : gi (pi x 49 s (pw h s)) 51 s = hH h s := h1.2.2.2.2.1 s hs
    rw [eS, eH]
    have fin : ∀ z, HX x0 nm (upd (hW h) s (pw h s), hT h, upd (hH h) s (hup h s), hB h, hS h, hL h) e z → wp (f_X2_inch_57 (f_X2_inch_12 n) z (n32 s)) (HX x0 nm (sInA (Qf m sp nm.1 nm.2.1 nm.2.2) cv 0 (k + 1) s h) (eInA (Qf m sp nm.1 nm.2.1 nm.2.2) cv (k + 1) s h e)) := fun z hz =>
      X_inch57 sx hz hs (fun x' hx' => ih (s + 1) n x' _ _ (by omega) (by omega) hx')
    have same : ¬ (shn s = 0 ∧ hS h - hS h / 2 * 2 = 0) → HX x0 nm (upd (hW h) s (pw h s), hT h, upd (hH h) s (hup h s), hB h, hS h, hL h) e (pi x 49 s (pw h s)) := by
      intro hc
      unfold hup
      rw [if_neg hc, upd_self]
      exact h1
    have hz0 : (n32 (shn s) = 0) ↔ shn s = 0 := by
      have := shn_le s
      rw [q_0]
      exact n32_inj (by omega) (by omega)
    refine wp_i (fun c1 => wp_i (fun c2 => ?_) (fun c2 => ?_)) (fun c1 => ?_)
    · refine wp_g (ib_n hs (by omega)) (wp_g (ib_n hs (by omega)) (fin _ ?_))
      unfold hup
      rw [if_pos ⟨hz0.mp c1, c2⟩]
      exact HX_H h1
    · exact fin _ (same (fun q => c2 q.2))
    · exact fin _ (same (fun q => c1 (hz0.mpr q.1)))
theorem X_inch1 {x0 x : CS} {m : Nat → Int32} {sp : Nat → Nat} {cv : CV} {nm : EX} {h : HS} {e : EX} (sx : SX x0 m sp cv) (hx : HX x0 nm h e x) : wp (f_X2_inch x) (HX x0 nm (sInch (Qf m sp nm.1 nm.2.1 nm.2.2) cv 0 h) (eInA (Qf m sp nm.1 nm.2.1 nm.2.2) cv 9 0 (sIn1 h) e)) := by
  unfold f_X2_inch
  rw [hx.2.2.2.2.2.2.1]
  exact X_inch sx 9 0 1000 _ (sIn1 h) e (by omega) (by omega) (HX_S hx)
def eInches (q : QF) (cv : CV) : Nat → HS → EX → EX
  | 0, _, e => e
  | n + 1, h, e => if 12 ≤ hS h then e else eInches q cv n (sInch q cv 0 h) (eInA q cv 9 0 (sIn1 h) e)
theorem X_spread {x0 : CS} {m : Nat → Int32} {sp : Nat → Nat} {cv : CV} {nm : EX} {mo : Nat} (sx : SX x0 m sp cv) (hmo : mo ≤ 100) : ∀ (k i n : Nat) (x : CS) (h : HS) (e : EX), i + k = mo → k < n → HX x0 nm h e x → wp (f_X2_spreadBy_2 n x (n32 mo) (n32 i)) (HX x0 nm (sInches (Qf m sp nm.1 nm.2.1 nm.2.2) cv 0 k h) (eInches (Qf m sp nm.1 nm.2.1 nm.2.2) cv k h e)) := by
  intro k
  induction k with
  | zero =>
    intro i n x h e hi hn hx
    obtain ⟨n, rfl⟩ : ∃ w, n = w + 1 := ⟨n - 1, by omega⟩
    rw [f_X2_spreadBy_2]
    exact wp_t ((n32_le (by omega) (by omega)).mpr (by omega)) (wp_s hx)
  | succ k ih =>
    intro i n x h e hi hn hx
    obtain ⟨n, rfl⟩ : ∃ w, n = w + 1 := ⟨n - 1, by omega⟩
    rw [f_X2_spreadBy_2, hx.2.2.2.2.2.2.1]
    refine wp_e (fun q => by have := (n32_le (by omega) (by omega)).mp q; omega) ?_
    rw [sInches, eInches]
    refine wp_i (fun c => ?_) (fun c => ?_)
    · rw [if_pos c, if_pos c]; exact wp_s hx
    · rw [if_neg c, if_neg c]
      refine wp_bw (X_inch1 sx hx) (fun x1 hx1 => ?_)
      rw [q_1, n32_add]
      exact ih (i + 1) n x1 _ _ (by omega) (by omega) hx1
