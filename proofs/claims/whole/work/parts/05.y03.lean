/-! ===== pure: the hull, in words of mine; what the class makes of it ===== -/
abbrev HS : Type := (Nat → Int32) × (Nat → Int32) × (Nat → Int32) × Int32 × Int32 × Int64
def hW (h : HS) : Nat → Int32 := h.1
def hT (h : HS) : Nat → Int32 := h.2.1
def hH (h : HS) : Nat → Int32 := h.2.2.1
def hB (h : HS) : Int32 := h.2.2.2.1
def hS (h : HS) : Int32 := h.2.2.2.2.1
def hL (h : HS) : Int64 := h.2.2.2.2.2
abbrev QF : Type := Nat → Int32 → Int32 → Int32 → Int32
abbrev CV : Type := Nat → Nat → Int32
def bit (s : Nat) : Int32 := 1 <<< (n32 s &&& 31)
def shn (s : Nat) : Nat := if s ≤ 4 then s else 8 - s
def lotN (l : Int64) : Int64 := l * 48271 - l * 48271 / 2147483647 * 2147483647
def sDeep (dr : Bool) (d : Int32) (l : Int64) : Int32 := if dr = true then (if 0 ≤ d + ((lotN l - lotN l / 3 * 3).toInt32 - 1) then d + ((lotN l - lotN l / 3 * 3).toInt32 - 1) else 0) else d
def sLot (dr : Bool) (l : Int64) : Int64 := if dr = true then lotN l else l
def sHit (s : Nat) (d : Int32) (l : Int64) (h : HS) : HS := if 0 < hT h s - d then (hW h, upd (hT h) s (hT h s - d), hH h, hB h, hS h, l) else (hW h, upd (hT h) s 0, hH h, hB h ||| bit s, hS h, l)
def sFire (q : QF) (cv : CV) (dr : Bool) (s : Nat) (h : HS) : HS := sHit s (sDeep dr (q 0 (hT h s) (hW h s) (cv 4 s)) (hL h)) (sLot dr (hL h)) h
def sBurn (q : QF) (cv : CV) (dr : Bool) (s : Nat) (low : Int32) : Nat → HS → HS
  | 0, h => h
  | n + 1, h => if hT h s ≤ low then h else sBurn q cv dr s low n (sFire q cv dr s h)
def sAll (f : Nat → HS → HS) (sec : Nat) : Nat → Nat → HS → HS
  | 0, _, h => h
  | k + 1, s, h => sAll f sec k (s + 1) (if sec = 9 ∨ sec = s then f s h else h)
def sSewS (s : Nat) (p : HS × Nat) : HS × Nat := if 0 < p.2 ∧ ¬ (hB p.1 &&& bit s) = 0 ∧ 0 < hT p.1 s then ((hW p.1, hT p.1, hH p.1, hB p.1 &&& (bit s ^^^ (-1)), hS p.1, hL p.1), p.2 - 1) else p
def sSew (sec : Nat) : Nat → Nat → HS × Nat → HS × Nat
  | 0, _, p => p
  | k + 1, s, p => sSew sec k (s + 1) (if sec = 9 ∨ sec = s then sSewS s p else p)
def pw (h : HS) (s : Nat) : Int32 := hW h s + n32 (shn s)
def pl (q : QF) (cv : CV) (h : HS) (s : Nat) : Int32 := q 1 (hT h s) (pw h s) (cv 4 s)
def sta (q : QF) (cv : CV) (h : HS) (s : Nat) : Int32 := q 2 (hT h s) (pw h s) (cv 4 s)
def crk (q : QF) (cv : CV) (g : Int) (h : HS) (s : Nat) : Bool := decide (((sta q cv h s).toInt + (cv 3 s).toInt + g) * 4 < (pl q cv h s).toInt * (shn s : Int))
def hup (h : HS) (s : Nat) : Int32 := if shn s = 0 ∧ hS h - hS h / 2 * 2 = 0 then hH h s + 1 else hH h s
def sInS (q : QF) (cv : CV) (g : Int) (s : Nat) (h : HS) : HS := (upd (hW h) s (pw h s), hT h, upd (hH h) s (hup h s), if crk q cv g h s = true then hB h ||| bit s else hB h, hS h, hL h)
def sInA (q : QF) (cv : CV) (g : Int) : Nat → Nat → HS → HS
  | 0, _, h => h
  | k + 1, s, h => sInA q cv g k (s + 1) (sInS q cv g s h)
def sIn1 (h : HS) : HS := (hW h, hT h, hH h, hB h, hS h + 1, hL h)
def sInch (q : QF) (cv : CV) (g : Int) (h : HS) : HS := sInA q cv g 9 0 (sIn1 h)
def sInches (q : QF) (cv : CV) (g : Int) : Nat → HS → HS
  | 0, h => h
  | n + 1, h => if 12 ≤ hS h then h else sInches q cv g n (sInch q cv g h)
def sRaise (mo : Nat) (s : Nat) (h : HS) : HS := (hW h, hT h, upd (hH h) s (hH h s + n32 mo), hB h, hS h, hL h)
def sMake (q : QF) (cv : CV) (dr : Bool) (kd sec mo : Nat) (h : HS) : HS :=
  if kd = 1 ∨ kd = 2 then sAll (fun s h => sBurn q cv dr s (if kd = 2 then cv 5 s else 0) mo h) sec 9 0 h
  else if kd = 3 then sInches q cv 0 mo h
  else if kd = 4 then (sSew sec 9 0 (h, mo)).1
  else if kd = 5 then sAll (sRaise mo) sec 9 0 (sSew sec 9 0 (h, mo)).1 else h
/-- what GRAIN lacks, as the class keeps it: (first break, watched, lacks) -/
abbrev EX : Type := Int32 × Int32 × Int32
def lck (q : QF) (cv : CV) (h : HS) (s : Nat) : Int32 := pl q cv h s * n32 (shn s) - (sta q cv h s + cv 3 s) * 4
def eIn (q : QF) (cv : CV) (s : Nat) (h : HS) (e : EX) : EX := if e.2.1 &&& bit s = 0 then e else if lck q cv h s ≤ e.2.2 then e else (e.1, e.2.1, lck q cv h s)
def eInA (q : QF) (cv : CV) : Nat → Nat → HS → EX → EX
  | 0, _, _, e => e
  | k + 1, s, h, e => eInA q cv k (s + 1) (sInS q cv 0 s h) (eIn q cv s h e)
/-! the class's side -/
def Fr (x0 x : CS) : Prop := (∀ q, q ≠ 25 → (q < 48 ∨ 52 < q) → x.1 q = x0.1 q) ∧ x.2.2 = x0.2.2
def SX (x0 : CS) (m : Nat → Int32) (sp : Nat → Nat) (cv : CV) : Prop := LX x0 m sp ∧ (∀ w s, w < 6 → s < 9 → gi x0 (3 + w) s = cv w s) ∧ (∀ s, s < 9 → 0 ≤ (cv 3 s).toInt ∧ (cv 3 s).toInt ≤ 99)
def HX (x0 : CS) (nm : EX) (h : HS) (e : EX) (x : CS) : Prop := Fr x0 x ∧ (gi x 52 0 = nm.1 ∧ gi x 52 1 = nm.2.1 ∧ gi x 52 2 = nm.2.2) ∧ (∀ s, s < 9 → gi x 49 s = hW h s) ∧ (∀ s, s < 9 → gi x 50 s = hT h s) ∧ (∀ s, s < 9 → gi x 51 s = hH h s) ∧ gi x 48 6 = hB h ∧ gi x 48 7 = hS h ∧ glot x = hL h ∧ gi x 48 8 = e.1 ∧ gi x 48 9 = e.2.1 ∧ gi x 48 10 = e.2.2
theorem Fr_rfl (x : CS) : Fr x x := ⟨fun _ _ _ => rfl, rfl⟩
theorem Fr_tr {x y z : CS} (h1 : Fr x y) (h2 : Fr y z) : Fr x z := ⟨fun q a b => (h2.1 q a b).trans (h1.1 q a b), h2.2.trans h1.2⟩
theorem Fr_pi {x0 x : CS} {q j : Nat} {v : Int32} (h : Fr x0 x) (hq : q = 25 ∨ (48 ≤ q ∧ q ≤ 52)) : Fr x0 (pi x q j v) := ⟨fun a h1 h2 => by rw [pi1_q _ _ _ (by omega)]; exact h.1 a h1 h2, h.2⟩
theorem Fr_lot {x0 x : CS} {v : Int64} (h : Fr x0 x) : Fr x0 (plot x v) := h
theorem Fr_FX {x0 x x' : CS} (h : Fr x0 x) (h2 : FX x x') : Fr x0 x' := ⟨fun q a b => by rw [h2.1 q a (by omega)]; exact h.1 q a b, by rw [h2.2.2]; exact h.2⟩
theorem LX_Fr {x0 x : CS} {m : Nat → Int32} {sp : Nat → Nat} (h : LX x0 m sp) (hf : Fr x0 x) : LX x m sp := by
  obtain ⟨hT, r, T, h1, h2, h3, h4, h5, h6⟩ := h
  refine ⟨hT, r, T, h1, h2, ?_, ?_, fun p hp => ?_, fun j hj => ?_⟩
  · rw [gi_of (hf.1 1 (by omega) (by omega))]; exact h3
  · rw [gi_of (hf.1 10 (by omega) (by omega))]; exact h4
  · rw [gi_of (hf.1 (19 + r) (by omega) (by omega))]; exact h5 p hp
  · rw [gi_of (hf.1 (12 + r) (by omega) (by omega))]; exact h6 j hj
theorem HX_FX {x0 x x' : CS} {nm : EX} {h : HS} {e : EX} (hx : HX x0 nm h e x) (hf : FX x x') : HX x0 nm h e x' := by
  obtain ⟨h1, ⟨n0, n1, n2⟩, h2, h3, h4, h5, h6, h7, h8, h9, h10⟩ := hx
  have g : ∀ q j, q ≠ 25 → q ≠ 52 → gi x' q j = gi x q j := fun q j a b => gi_of (hf.1 q a b) j
  refine ⟨Fr_FX h1 hf, ⟨by rw [hf.2.1 0 (by omega)]; exact n0, by rw [hf.2.1 1 (by omega)]; exact n1, by rw [hf.2.1 2 (by omega)]; exact n2⟩, fun s hs => ?_, fun s hs => ?_, fun s hs => ?_, ?_, ?_, ?_, ?_, ?_, ?_⟩
  · rw [g 49 s (by omega) (by omega)]; exact h2 s hs
  · rw [g 50 s (by omega) (by omega)]; exact h3 s hs
  · rw [g 51 s (by omega) (by omega)]; exact h4 s hs
  · rw [g 48 _ (by omega) (by omega)]; exact h5
  · rw [g 48 _ (by omega) (by omega)]; exact h6
  · show x'.2.1 = _; rw [hf.2.2]; exact h7
  · rw [g 48 _ (by omega) (by omega)]; exact h8
  · rw [g 48 _ (by omega) (by omega)]; exact h9
  · rw [g 48 _ (by omega) (by omega)]; exact h10
theorem up9 {β : Type} {x : (Nat → Nat → Int32) × β} {q s : Nat} {v : Int32} {f : Nat → Int32} (h : ∀ j, j < 9 → gi x q j = f j) : ∀ j, j < 9 → gi (pi x q s v) q j = upd f s v j := by
  intro j hj
  rw [gp_f]
  by_cases e : j = s
  · subst e; rw [upd_e, upd_e]
  · rw [upd_n _ _ e, upd_n _ _ e]; exact h j hj
theorem HX_T {x0 x : CS} {nm : EX} {h : HS} {e : EX} {s : Nat} {v : Int32} (hx : HX x0 nm h e x) : HX x0 nm (hW h, upd (hT h) s v, hH h, hB h, hS h, hL h) e (pi x 50 s v) := by
  obtain ⟨h1, ⟨n0, n1, n2⟩, h2, h3, h4, h5, h6, h7, h8, h9, h10⟩ := hx
  refine ⟨Fr_pi h1 (by omega), ⟨?_, ?_, ?_⟩, fun j hj => ?_, up9 h3, fun j hj => ?_, ?_, ?_, h7, ?_, ?_, ?_⟩
  all_goals rw [gp_q _ _ _ _ (by omega)]
  all_goals first | assumption | exact h2 j hj | exact h4 j hj
theorem HX_W {x0 x : CS} {nm : EX} {h : HS} {e : EX} {s : Nat} {v : Int32} (hx : HX x0 nm h e x) : HX x0 nm (upd (hW h) s v, hT h, hH h, hB h, hS h, hL h) e (pi x 49 s v) := by
  obtain ⟨h1, ⟨n0, n1, n2⟩, h2, h3, h4, h5, h6, h7, h8, h9, h10⟩ := hx
  refine ⟨Fr_pi h1 (by omega), ⟨?_, ?_, ?_⟩, up9 h2, fun j hj => ?_, fun j hj => ?_, ?_, ?_, h7, ?_, ?_, ?_⟩
  all_goals rw [gp_q _ _ _ _ (by omega)]
  all_goals first | assumption | exact h3 j hj | exact h4 j hj
theorem HX_H {x0 x : CS} {nm : EX} {h : HS} {e : EX} {s : Nat} {v : Int32} (hx : HX x0 nm h e x) : HX x0 nm (hW h, hT h, upd (hH h) s v, hB h, hS h, hL h) e (pi x 51 s v) := by
  obtain ⟨h1, ⟨n0, n1, n2⟩, h2, h3, h4, h5, h6, h7, h8, h9, h10⟩ := hx
  refine ⟨Fr_pi h1 (by omega), ⟨?_, ?_, ?_⟩, fun j hj => ?_, fun j hj => ?_, up9 h4, ?_, ?_, h7, ?_, ?_, ?_⟩
  all_goals rw [gp_q _ _ _ _ (by omega)]
  all_goals first | assumption | exact h2 j hj | exact h3 j hj
theorem HX_B {x0 x : CS} {nm : EX} {h : HS} {e : EX} {v : Int32} (hx : HX x0 nm h e x) : HX x0 nm (hW h, hT h, hH h, v, hS h, hL h) e (pi x 48 6 v) := by
  obtain ⟨h1, ⟨n0, n1, n2⟩, h2, h3, h4, h5, h6, h7, h8, h9, h10⟩ := hx
  refine ⟨Fr_pi h1 (by omega), ⟨?_, ?_, ?_⟩, fun j hj => ?_, fun j hj => ?_, fun j hj => ?_, gp_eq _ _ _ _, ?_, h7, ?_, ?_, ?_⟩
  all_goals first | rw [gp_q _ _ _ _ (by omega)] | rw [gp_j _ _ _ (by omega)]
  all_goals first | assumption | exact h2 j hj | exact h3 j hj | exact h4 j hj
theorem HX_S {x0 x : CS} {nm : EX} {h : HS} {e : EX} {v : Int32} (hx : HX x0 nm h e x) : HX x0 nm (hW h, hT h, hH h, hB h, v, hL h) e (pi x 48 7 v) := by
  obtain ⟨h1, ⟨n0, n1, n2⟩, h2, h3, h4, h5, h6, h7, h8, h9, h10⟩ := hx
  refine ⟨Fr_pi h1 (by omega), ⟨?_, ?_, ?_⟩, fun j hj => ?_, fun j hj => ?_, fun j hj => ?_, ?_, gp_eq _ _ _ _, h7, ?_, ?_, ?_⟩
  all_goals first | rw [gp_q _ _ _ _ (by omega)] | rw [gp_j _ _ _ (by omega)]
  all_goals first | assumption | exact h2 j hj | exact h3 j hj | exact h4 j hj
theorem HX_L {x0 x : CS} {nm : EX} {h : HS} {e : EX} {v : Int64} (hx : HX x0 nm h e x) : HX x0 nm (hW h, hT h, hH h, hB h, hS h, v) e (plot x v) := by
  obtain ⟨h1, hn, h2, h3, h4, h5, h6, h7, h8⟩ := hx
  exact ⟨h1, hn, h2, h3, h4, h5, h6, rfl, h8⟩
theorem HX_e8 {x0 x : CS} {nm : EX} {h : HS} {e : EX} {v : Int32} (hx : HX x0 nm h e x) : HX x0 nm h (v, e.2.1, e.2.2) (pi x 48 8 v) := by
  obtain ⟨h1, ⟨n0, n1, n2⟩, h2, h3, h4, h5, h6, h7, h8, h9, h10⟩ := hx
  refine ⟨Fr_pi h1 (by omega), ⟨?_, ?_, ?_⟩, fun j hj => ?_, fun j hj => ?_, fun j hj => ?_, ?_, ?_, h7, gp_eq _ _ _ _, ?_, ?_⟩
  all_goals first | rw [gp_q _ _ _ _ (by omega)] | rw [gp_j _ _ _ (by omega)]
  all_goals first | assumption | exact h2 j hj | exact h3 j hj | exact h4 j hj
theorem HX_e9 {x0 x : CS} {nm : EX} {h : HS} {e : EX} {v : Int32} (hx : HX x0 nm h e x) : HX x0 nm h (e.1, v, e.2.2) (pi x 48 9 v) := by
  obtain ⟨h1, ⟨n0, n1, n2⟩, h2, h3, h4, h5, h6, h7, h8, h9, h10⟩ := hx
  refine ⟨Fr_pi h1 (by omega), ⟨?_, ?_, ?_⟩, fun j hj => ?_, fun j hj => ?_, fun j hj => ?_, ?_, ?_, h7, ?_, gp_eq _ _ _ _, ?_⟩
  all_goals first | rw [gp_q _ _ _ _ (by omega)] | rw [gp_j _ _ _ (by omega)]
  all_goals first | assumption | exact h2 j hj | exact h3 j hj | exact h4 j hj
theorem HX_e10 {x0 x : CS} {nm : EX} {h : HS} {e : EX} {v : Int32} (hx : HX x0 nm h e x) : HX x0 nm h (e.1, e.2.1, v) (pi x 48 10 v) := by
  obtain ⟨h1, ⟨n0, n1, n2⟩, h2, h3, h4, h5, h6, h7, h8, h9, h10⟩ := hx
  refine ⟨Fr_pi h1 (by omega), ⟨?_, ?_, ?_⟩, fun j hj => ?_, fun j hj => ?_, fun j hj => ?_, ?_, ?_, h7, ?_, ?_, gp_eq _ _ _ _⟩
  all_goals first | rw [gp_q _ _ _ _ (by omega)] | rw [gp_j _ _ _ (by omega)]
  all_goals first | assumption | exact h2 j hj | exact h3 j hj | exact h4 j hj
theorem bt : ¬ (b2i true = 0) := by decide
theorem X_of1 (x : CS) {w s : Nat} (hw : w < 6) (hs : s < 9) : f_X8_of x 1 (n32 w) (n32 s) = some (gi x (3 + w) s) := by
  unfold f_X8_of
  have h1 : f_X10_within (n32 w) 0 5 = true := wi_t.mpr (by rw [n32_int (by omega), z_0, z_5]; omega)
  have h2 : f_X10_isSection (n32 s) = true := sec_t hs
  have h3 : al (1 + 2 + w) = 9 := by rcases (by omega : w = 0 ∨ w = 1 ∨ w = 2 ∨ w = 3 ∨ w = 4 ∨ w = 5) with rfl | rfl | rfl | rfl | rfl | rfl <;> rfl
  rw [h1, h2, if_neg bt, if_neg bt, n32_nat (by omega), n32_nat (by omega), h3]
  have hk1 : kWd 1 = true := rfl
  rw [hk1, gd_tt, gd_tt, gd_tt, gd_t (ib_n hw (by omega)), gd_t (ib_n hs (by omega))]
theorem X_set1 (x : CS) {k : Nat} (hk : k < 5) : f_X8_setting x 1 (n32 k) = some (gi x 9 k) := by
  unfold f_X8_setting
  have h1 : f_X10_within (n32 k) 0 4 = true := wi_t.mpr (by rw [n32_int (by omega), z_0, z_4]; omega)
  rw [h1, if_neg bt, n32_nat (by omega)]
  have hk1 : kWd 1 = true := rfl
  have h3 : al (1 + 8) = 5 := rfl
  rw [hk1, gd_tt, gd_tt, h3, gd_t (ib_n hk (by omega))]
theorem X_bit {s : Nat} (hs : s < 9) : f_X2_bit (n32 s) = bit s := by
  unfold f_X2_bit bit
  have h2 : f_X10_isSection (n32 s) = true := sec_t hs
  rw [h2, if_neg bt]
theorem X_share {s : Nat} (hs : s < 9) : f_X10_share (n32 s) = n32 (shn s) := by
  rcases (by omega : s = 0 ∨ s = 1 ∨ s = 2 ∨ s = 3 ∨ s = 4 ∨ s = 5 ∨ s = 6 ∨ s = 7 ∨ s = 8) with rfl | rfl | rfl | rfl | rfl | rfl | rfl | rfl | rfl <;> decide
theorem M_share {s : Nat} (hs : s < 9) : 4 - f_X11_size (n32 s - 4) = n32 (shn s) := by
  rcases (by omega : s = 0 ∨ s = 1 ∨ s = 2 ∨ s = 3 ∨ s = 4 ∨ s = 5 ∨ s = 6 ∨ s = 7 ∨ s = 8) with rfl | rfl | rfl | rfl | rfl | rfl | rfl | rfl | rfl <;> decide
theorem shn_le (s : Nat) : shn s ≤ 4 := by unfold shn; split <;> omega
theorem gi_plot (x : CS) (v : Int64) (q j : Nat) : gi (plot x v) q j = gi x q j := rfl
theorem X_begin {x : CS} {m : Nat → Int32} {sp : Nat → Nat} {cv : CV} (hx : SX x m sp cv) : wp (f_X2_begin x) (HX x (gi x 9 0, gi x 9 1, gi x 9 2) (cv 0, cv 1, cv 2, 0, 0, 0) (-1, 0, -1000000)) := by
  have key : ∀ (k i n : Nat) (z : CS), i + k = 9 → k < n → Fr x z → (∀ j, j < i → gi z 49 j = cv 0 j ∧ gi z 50 j = cv 1 j ∧ gi z 51 j = cv 2 j) → wp (f_X2_begin_2 n z (n32 i)) (HX x (gi x 9 0, gi x 9 1, gi x 9 2) (cv 0, cv 1, cv 2, 0, 0, 0) (-1, 0, -1000000)) := by
    intro k
    induction k with
    | zero =>
      intro i n z hi hn hf hz
      obtain ⟨n, rfl⟩ : ∃ w, n = w + 1 := ⟨n - 1, by omega⟩
      rw [f_X2_begin_2, q_9]
      refine wp_t ((n32_le (by omega) (by omega)).mpr (by omega)) ?_
      have g9 : ∀ j, gi z 9 j = gi x 9 j := gi_of (hf.1 9 (by omega) (by omega))
      refine wp_be (X_set1 _ (k := 0) (by omega)) ?_
      refine wp_be (X_set1 _ (k := 1) (by omega)) ?_
      refine wp_be (X_set1 _ (k := 2) (by omega)) ?_
      rw [c_0, c_1, c_2]
      refine wp_s ⟨?_, ⟨?_, ?_, ?_⟩, fun s hs => ?_, fun s hs => ?_, fun s hs => ?_, ?_, ?_, rfl, ?_, ?_, ?_⟩
      · exact Fr_lot (Fr_pi (Fr_pi (Fr_pi (Fr_pi (Fr_pi (Fr_pi (Fr_pi (Fr_pi hf (by omega)) (by omega)) (by omega)) (by omega)) (by omega)) (by omega)) (by omega)) (by omega))
      · simp [gi_plot, gp_if, g9]
      · simp [gi_plot, gp_if, g9]
      · simp [gi_plot, gp_if, g9]
      · have := hz s (by omega); simp [gi_plot, gp_if, this, hW]
      · have := hz s (by omega); simp [gi_plot, gp_if, this, hT]
      · have := hz s (by omega); simp [gi_plot, gp_if, this, hH]
      · simp [gi_plot, gp_if, hB]
      · simp [gi_plot, gp_if, hS]
      · simp [gi_plot, gp_if]
      · simp [gi_plot, gp_if]
      · simp [gi_plot, gp_if]
    | succ k ih =>
      intro i n z hi hn hf hz
      obtain ⟨n, rfl⟩ : ∃ w, n = w + 1 := ⟨n - 1, by omega⟩
      rw [f_X2_begin_2, q_9]
      refine wp_e (fun q => by have := (n32_le (by omega) (by omega)).mp q; omega) ?_
      have g3 : ∀ w, w < 6 → gi z (3 + w) i = cv w i := fun w hw => by rw [gi_of (hf.1 (3 + w) (by omega) (by omega))]; exact hx.2.1 w i hw (by omega)
      refine wp_be (X_of1 _ (w := 0) (by omega) (by omega)) (wp_g (ib_n (by omega) (by omega)) ?_)
      refine wp_be (X_of1 _ (w := 1) (by omega) (by omega)) (wp_g (ib_n (by omega) (by omega)) ?_)
      refine wp_be (X_of1 _ (w := 2) (by omega) (by omega)) (wp_g (ib_n (by omega) (by omega)) ?_)
      rw [n32_nat (by omega), q_1, n32_add]
      refine ih (i + 1) n _ (by omega) (by omega) (Fr_pi (Fr_pi (Fr_pi hf (by omega)) (by omega)) (by omega)) (fun j hj => ?_)
      have e0 := g3 0 (by omega)
      have e1 := g3 1 (by omega)
      have e2 := g3 2 (by omega)
      simp only [Nat.add_zero, Nat.reduceAdd] at e0 e1 e2
      by_cases hji : j = i
      · subst hji
        simp [gp_if, e0, e1, e2]
      · have := hz j (by omega)
        simp [gp_if, hji, this]
  unfold f_X2_begin
  exact key 9 0 1000 x (by omega) (by omega) (Fr_rfl x) (fun j hj => absurd hj (Nat.not_lt_zero j))
