/-! ===== pure: what holds of class and check together, between calls ===== -/
def clo (w : Nat) : Int := if w < 4 then 1 else 0
def chi (w : Nat) : Int := if w = 1 then 20 else if w = 4 then 1 else if w = 5 then 20 else 99
def slo (k : Nat) : Int := if k = 3 then 1 else 0
def shi (k : Nat) : Int := if k = 3 then 5 else 9
def CB (f : Nat → Nat → Int32) (g : Nat → Int32) : Prop := ∀ w s, w < 6 → s < 9 → f w s = g (9 * w + s) ∧ clo w ≤ (g (9 * w + s)).toInt ∧ (g (9 * w + s)).toInt ≤ chi w
def SB (f g : Nat → Int32) : Prop := ∀ k, k < 5 → f k = g k ∧ slo k ≤ (g k).toInt ∧ (g k).toInt ≤ shi k
def TXT (c e m s : Nat → Int32) : Prop := ∃ sp : Nat → Nat, TXw m sp ∧ (∀ p, p < 4 → s p = n32 (sp p)) ∧ (∀ p, p < 3 → e p = n32 (sp (p + 1))) ∧ (∀ j, j < sp 3 → c j = trc (m j))
def PW (x : CS) (y : MS) : Prop := CB (fun w s => gi x (3 + w) s) (gi y 62) ∧ SB (gi x 9) (fun k => gi y 61 (1 + k)) ∧ gi x 1 2 = gi y 61 21
def PT (x : CS) (y : MS) : Prop := ∃ T r, r < T ∧ T ≤ 6 ∧ gi x 10 3 = n32 T ∧ gi y 61 20 = n32 T ∧ gi y 61 21 = n32 r ∧ ∀ t, t < T → TXT (gi x (12 + t)) (gi x (19 + t)) (fun i => gi y 72 (200 * t + i)) (fun p => gi y 73 (4 * t + p))
def PK (x : CS) (y : MS) : Prop := ∃ N, N ≤ 10 ∧ gi x 30 3 = n32 N ∧ gi y 61 6 = n32 N ∧ ∀ w, w < N → (gi x 31 w = gi y 63 w ∧ 0 ≤ (gi y 63 w).toInt ∧ (gi y 63 w).toInt ≤ 5) ∧ (gi x 32 w = gi y 64 w ∧ 0 ≤ (gi y 64 w).toInt ∧ (gi y 64 w).toInt ≤ 9) ∧ (gi x 33 w = gi y 65 w ∧ 0 ≤ (gi y 65 w).toInt ∧ (gi y 65 w).toInt ≤ 9)
def PF (x : CS) (y : MS) : Prop := ∃ n, n ≤ 160 ∧ gi x 26 1 = n32 n ∧ gi y 61 17 = n32 n ∧ ∀ i, i < n → gi x 27 i = gi y 71 i ∧ 0 ≤ (gi y 71 i).toInt ∧ (gi y 71 i).toInt ≤ 255
def PH (x : CS) (y : MS) : Prop := ∀ s, s < 4 → (gi x (53 + 2 * s) 1 = gi y 77 s ∧ -1 ≤ (gi y 77 s).toInt ∧ (gi y 77 s).toInt ≤ 2) ∧ (∃ n, n ≤ 40 ∧ gi x (53 + 2 * s) 2 = n32 n ∧ gi y 78 s = n32 n) ∧ ∀ i, i < 40 → gi x (54 + 2 * s) i = gi y 79 (40 * s + i)
def TR (x : CS) (q : Nat) (y : MS) (t : Nat) : Prop := kTr x q = true ∧ kRg x (q + 1) = true ∧
  (ti x q 1 = gi y 66 t ∧ 1 ≤ (gi y 66 t).toInt ∧ (gi y 66 t).toInt ≤ 99) ∧ (ti x q 2 = gi y 67 t ∧ -9 ≤ (gi y 67 t).toInt ∧ (gi y 67 t).toInt ≤ 9) ∧ (ti x q 3 = gi y 68 t ∧ 0 ≤ (gi y 68 t).toInt ∧ (gi y 68 t).toInt ≤ 9) ∧ (ti x q 4 = gi y 70 t ∧ -1 ≤ (gi y 70 t).toInt ∧ (gi y 70 t).toInt ≤ 4) ∧
  (∀ r, r < 5 → ti x (q + 1) r = gi y 69 (5 * t + r) ∧ 0 ≤ (gi y 69 (5 * t + r)).toInt ∧ (gi y 69 (5 * t + r)).toInt ≤ 99) ∧
  1 ≤ (gi y 69 (5 * t)).toInt + (gi y 69 (5 * t + 1)).toInt + (gi y 69 (5 * t + 2)).toInt + (gi y 69 (5 * t + 3)).toInt + (gi y 69 (5 * t + 4)).toInt
def PE (x : CS) (y : MS) (n : Nat) (rf : Nat → Nat) : Prop := n ≤ 6 ∧ gi x 34 1 = n32 n ∧ gi y 61 10 = n32 n ∧ (∀ t, t < n → gtr x t = some (rf t) ∧ TR x (rf t) y t) ∧ (∀ t u, t < n → u < n → rf t = rf u → t = u)
def PI (x : CS) (y : MS) (n : Nat) : Prop := gi x 0 11 = gi y 61 22 ∧ (gi y 61 22 = 0 ∨ (CB (fun w s => gi x (40 + w) s) (gi y 75) ∧ SB (gi x 46) (gi y 74) ∧ gi x 38 2 = gi y 61 24 ∧ (∃ T r, r < T ∧ T ≤ 6 ∧ gi y 61 24 = n32 r ∧ gi y 61 20 = n32 T) ∧ ∃ k, k ≤ n ∧ gi x 0 10 = n32 k ∧ gi y 61 23 = n32 k ∧ ∀ t, t < k → gi x 47 t = gi y 76 t ∧ -1 ≤ (gi y 76 t).toInt ∧ (gi y 76 t).toInt ≤ 4))
def PG (x : CS) (y : MS) : Prop := 27 ≤ gn x ∧ gi y 61 47 = 0 ∧ gi y 61 48 = 0
def PP (x : CS) (y : MS) : Prop := PG x y ∧ PW x y ∧ PT x y ∧ PK x y ∧ PF x y ∧ PH x y ∧ ∃ n rf, PE x y n rf ∧ PI x y n
/-- what grew, and what is as it was -/
def XE (x x' : CS) : Prop := gtr x' = gtr x ∧ gn x ≤ gn x' ∧ ∀ q, q < 61 + gn x → gdy x' q = gdy x q
theorem XE_of {x x' : CS} (h : x'.2.2 = x.2.2) : XE x x' := by
  refine ⟨?_, ?_, fun q _ => ?_⟩
  · show x'.2.2.1 = x.2.2.1; rw [h]
  · show x.2.2.2.1 ≤ x'.2.2.2.1; rw [h]; exact Nat.le_refl _
  · show x'.2.2.2.2 q = x.2.2.2.2 q; rw [h]
theorem XE_kd {x x' : CS} (h : XE x x') {q k : Nat} (hk : kdy x q k = true) : kdy x' q k = true := by
  obtain ⟨h1, h2, h3⟩ := kdy_c hk
  unfold kdy
  rw [h.2.2 q h2, h3]
  have := h.2.1
  simp; omega
theorem TR_fr {x x' : CS} {y y' : MS} {q t : Nat} (hx : XE x x') (hy : ∀ c, 66 ≤ c → c ≤ 70 → y'.1 c = y.1 c) (h : TR x q y t) : TR x' q y' t := by
  obtain ⟨h1, h2, h3, h4, h5, h6, h7, h8⟩ := h
  have e1 : ∀ j, ti x' q j = ti x q j := fun j => by unfold ti; rw [hx.2.2 q (kdy_c h1).2.1]
  have e2 : ∀ j, ti x' (q + 1) j = ti x (q + 1) j := fun j => by unfold ti; rw [hx.2.2 (q + 1) (kdy_c h2).2.1]
  have g : ∀ c j, 66 ≤ c → c ≤ 70 → gi y' c j = gi y c j := fun c j a b => gi_of (hy c a b) j
  refine ⟨XE_kd hx h1, XE_kd hx h2, ?_, ?_, ?_, ?_, fun r hr => ?_, ?_⟩
  · rw [e1, g 66 _ (by omega) (by omega)]; exact h3
  · rw [e1, g 67 _ (by omega) (by omega)]; exact h4
  · rw [e1, g 68 _ (by omega) (by omega)]; exact h5
  · rw [e1, g 70 _ (by omega) (by omega)]; exact h6
  · rw [e2, g 69 _ (by omega) (by omega)]; exact h7 r hr
  · rw [g 69 _ (by omega) (by omega), g 69 _ (by omega) (by omega), g 69 _ (by omega) (by omega), g 69 _ (by omega) (by omega), g 69 _ (by omega) (by omega)]; exact h8
/-- what the class may change and PP stays: its stack, the ages, the hull -/
def XF (x x' : CS) : Prop := (∀ q, q ≠ 25 → q ≠ 37 → (q < 48 ∨ 52 < q) → x'.1 q = x.1 q) ∧ XE x x'
def MF (y y' : MS) : Prop := (∀ q, q ≠ 61 → q < 81 → y'.1 q = y.1 q) ∧ (∀ j, j < 31 → gi y' 61 j = gi y 61 j) ∧ gi y' 61 47 = gi y 61 47 ∧ gi y' 61 48 = gi y 61 48
theorem PP_fr {x x' : CS} {y y' : MS} (h : PP x y) (hx : XF x x') (hy : MF y y') : PP x' y' := by
  obtain ⟨⟨g1, g2, g3⟩, ⟨w1, w2, w3⟩, ⟨T, r, t1, t2, t3, t4, t5, t6⟩, ⟨N, k1, k2, k3, k4⟩, ⟨n, f1, f2, f3, f4⟩, hh, nt, rf, ⟨e1, e2, e3, e4, e5⟩, i1, i2⟩ := h
  have gx : ∀ q j, q ≠ 25 → q ≠ 37 → (q < 48 ∨ 52 < q) → gi x' q j = gi x q j := fun q j a b c => gi_of (hx.1 q a b c) j
  have gy : ∀ q j, q ≠ 61 → q < 81 → gi y' q j = gi y q j := fun q j a b => gi_of (hy.1 q a b) j
  refine ⟨⟨Nat.le_trans g1 hx.2.2.1, by rw [hy.2.2.1]; exact g2, by rw [hy.2.2.2]; exact g3⟩, ⟨fun w s hw hs => ?_, fun k hk => ?_, ?_⟩, ⟨T, r, t1, t2, ?_, ?_, ?_, fun t ht => ?_⟩, ⟨N, k1, ?_, ?_, fun w hw => ?_⟩, ⟨n, f1, ?_, ?_, fun i hi => ?_⟩, fun s hs => ?_, nt, rf, ⟨e1, ?_, ?_, fun t ht => ⟨?_, ?_⟩, e5⟩, ?_, ?_⟩
  · have := w1 w s hw hs
    simp only at this ⊢
    rw [gx _ _ (by omega) (by omega) (by omega), gy _ _ (by omega) (by omega)]; exact this
  · have := w2 k hk
    simp only at this ⊢
    rw [gx _ _ (by omega) (by omega) (by omega), hy.2.1 _ (by omega)]; exact this
  · rw [gx _ _ (by omega) (by omega) (by omega), hy.2.1 _ (by omega)]; exact w3
  · rw [gx _ _ (by omega) (by omega) (by omega)]; exact t3
  · rw [hy.2.1 _ (by omega)]; exact t4
  · rw [hy.2.1 _ (by omega)]; exact t5
  · have a1 : gi x' (12 + t) = gi x (12 + t) := hx.1 _ (by omega) (by omega) (by omega)
    have a2 : gi x' (19 + t) = gi x (19 + t) := hx.1 _ (by omega) (by omega) (by omega)
    have a3 : gi y' 72 = gi y 72 := hy.1 72 (by omega) (by omega)
    have a4 : gi y' 73 = gi y 73 := hy.1 73 (by omega) (by omega)
    rw [a1, a2, a3, a4]; exact t6 t ht
  · rw [gx _ _ (by omega) (by omega) (by omega)]; exact k2
  · rw [hy.2.1 _ (by omega)]; exact k3
  · rw [gx _ _ (by omega) (by omega) (by omega), gx _ _ (by omega) (by omega) (by omega), gx _ _ (by omega) (by omega) (by omega), gy _ _ (by omega) (by omega), gy _ _ (by omega) (by omega), gy _ _ (by omega) (by omega)]; exact k4 w hw
  · rw [gx _ _ (by omega) (by omega) (by omega)]; exact f2
  · rw [hy.2.1 _ (by omega)]; exact f3
  · rw [gx _ _ (by omega) (by omega) (by omega), gy _ _ (by omega) (by omega)]; exact f4 i hi
  · obtain ⟨a, b, c⟩ := hh s hs
    refine ⟨?_, ?_, fun i hi => ?_⟩
    · rw [gx _ _ (by omega) (by omega) (by omega), gy _ _ (by omega) (by omega)]; exact a
    · rw [gx _ _ (by omega) (by omega) (by omega), gy _ _ (by omega) (by omega)]; exact b
    · rw [gx _ _ (by omega) (by omega) (by omega), gy _ _ (by omega) (by omega)]; exact c i hi
  · rw [gx _ _ (by omega) (by omega) (by omega)]; exact e2
  · rw [hy.2.1 _ (by omega)]; exact e3
  · rw [hx.2.1]; exact (e4 t ht).1
  · exact TR_fr hx.2 (fun c a b => hy.1 c (by omega) (by omega)) (e4 t ht).2
  · rw [gx _ _ (by omega) (by omega) (by omega), hy.2.1 _ (by omega)]; exact i1
  · rw [hy.2.1 _ (by omega)]
    refine i2.imp id (fun ⟨a, b, c, d, k, k1, k2, k3, k4⟩ => ⟨fun w s hw hs => ?_, fun j hj => ?_, ?_, ?_, k, k1, ?_, ?_, fun t ht => ?_⟩)
    · have := a w s hw hs
      simp only at this ⊢
      rw [gx _ _ (by omega) (by omega) (by omega), gy _ _ (by omega) (by omega)]; exact this
    · have := b j hj
      rw [gx _ _ (by omega) (by omega) (by omega), gy _ _ (by omega) (by omega)]; exact this
    · rw [gx _ _ (by omega) (by omega) (by omega), hy.2.1 _ (by omega)]; exact c
    · rw [hy.2.1 _ (by omega), hy.2.1 _ (by omega)]; exact d
    · rw [gx _ _ (by omega) (by omega) (by omega)]; exact k2
    · rw [hy.2.1 _ (by omega)]; exact k3
    · rw [gx _ _ (by omega) (by omega) (by omega), gy _ _ (by omega) (by omega)]; exact k4 t ht
theorem XF_rfl (x : CS) : XF x x := ⟨fun _ _ _ _ => rfl, XE_of rfl⟩
theorem MF_rfl (y : MS) : MF y y := ⟨fun _ _ _ => rfl, fun _ _ => rfl, rfl, rfl⟩
theorem XF_Fr {x x' : CS} (h : Fr x x') : XF x x' := ⟨fun q a _ c => h.1 q a c, XE_of h.2⟩
theorem MF_Fr {y y' : MS} (h : FrM y y') : MF y y' := ⟨fun q a b => h.1 q a (by omega), fun j hj => h.2.1 j (by omega) (by omega), h.2.1 47 (by omega) (by omega), h.2.1 48 (by omega) (by omega)⟩
/-- all that the hull's calls stand on -/
def CTX (x : CS) (y : MS) (m : Nat → Int32) (sp : Nat → Nat) (cv : CV) (N : Nat) (kd sec mo : Nat → Nat) : Prop := SX x m sp cv ∧ SM y m sp cv ∧ WK x N kd sec mo ∧ WM y N kd sec mo ∧ (gi x 9 0 = gi y 61 1 ∧ gi x 9 1 = gi y 61 2 ∧ gi x 9 2 = gi y 61 3) ∧ (∀ w s, w < 6 → s < 9 → clo w ≤ (cv w s).toInt ∧ (cv w s).toInt ≤ chi w) ∧ gi y 61 47 = 0 ∧ gi y 61 48 = 0
theorem PP_ctx {x : CS} {y : MS} (h : PP x y) : ∃ m sp cv N kd sec mo, CTX x y m sp cv N kd sec mo := by
  obtain ⟨⟨g1, g2, g3⟩, ⟨w1, w2, w3⟩, ⟨T, r, t1, t2, t3, t4, t5, t6⟩, ⟨N, k1, k2, k3, k4⟩, _⟩ := h
  obtain ⟨sp, s1, s2, s3, s4⟩ := t6 r t1
  have hb : ∀ s, s < 9 → 0 ≤ (gi y 62 (9 * 3 + s)).toInt ∧ (gi y 62 (9 * 3 + s)).toInt ≤ 99 := fun s hs => by
    have h1 := (w1 3 s (by omega) hs).2
    have e1 : clo 3 = 1 := rfl
    have e2 : chi 3 = 99 := rfl
    omega
  have hnn : ∀ v : Int32, 0 ≤ v.toInt → v = n32 v.toNatClampNeg := fun v hv => n32_of hv
  have hle : ∀ (v : Int32) (b : Nat), 0 ≤ v.toInt → v.toInt ≤ (b : Int) → v.toNatClampNeg ≤ b := fun v b h0 h1 => by
    show v.toInt.toNat ≤ b; omega
  refine ⟨fun i => gi y 72 (200 * r + i), sp, fun w s => gi y 62 (9 * w + s), N, fun w => (gi y 63 w).toNatClampNeg, fun w => (gi y 64 w).toNatClampNeg, fun w => (gi y 65 w).toNatClampNeg, ⟨⟨s1, r, T, t1, t2, by rw [w3]; exact t5, t3, s3, s4⟩, fun w s hw hs => (w1 w s hw hs).1, hb⟩, ⟨⟨s1, r, by omega, t5, s2, fun _ _ => rfl⟩, fun w s _ _ => rfl, hb⟩, ⟨k1, k2, fun w hw => ?_⟩, ⟨k1, k3, fun w hw => ?_⟩, ⟨(w2 0 (by omega)).1, (w2 1 (by omega)).1, (w2 2 (by omega)).1⟩, fun w s hw hs => (w1 w s hw hs).2, g2, g3⟩
  · obtain ⟨⟨a1, a2, a3⟩, ⟨b1, b2, b3⟩, c1, c2, c3⟩ := k4 w hw
    exact ⟨by rw [a1]; exact hnn _ a2, by rw [b1]; exact hnn _ b2, by rw [c1]; exact hnn _ c2, hle _ 5 a2 a3, hle _ 9 b2 b3, hle _ 9 c2 c3⟩
  · obtain ⟨⟨a1, a2, a3⟩, ⟨b1, b2, b3⟩, c1, c2, c3⟩ := k4 w hw
    exact ⟨hnn _ a2, hnn _ b2, hnn _ c2, hle _ 5 a2 a3, hle _ 9 b2 b3, hle _ 9 c2 c3⟩
/-- from two runs to one answer -/
theorem sim2 {α : Type} {o1 : Option (α × CS)} {o2 : Option (α × MS)} {x : CS} {y : MS} (hP : PP x y) (R : α) (h1 : wp o1 (fun v => v.1 = R ∧ XF x v.2)) (h2 : wp o2 (fun v => v.1 = R ∧ MF y v.2)) : ∃ (r : α) (x1 : CS) (y1 : MS), o1 = some (r, x1) ∧ o2 = some (r, y1) ∧ PP x1 y1 := by
  obtain ⟨⟨r1, x1⟩, e1, a1, b1⟩ := h1
  obtain ⟨⟨r2, y1⟩, e2, a2, b2⟩ := h2
  have a1 : r1 = R := a1
  have a2 : r2 = R := a2
  subst a1; subst a2
  exact ⟨r2, x1, y1, e1, e2, PP_fr hP b1 b2⟩
/-- the hull behind nn WORKINGS -/
abbrev hul (m : Nat → Int32) (sp : Nat → Nat) (a b c : Int32) (cv : CV) (kd sec mo : Nat → Nat) (nn : Nat) : HS := sHull (Qf m sp a b c) cv false kd sec mo nn 0 (cv 0, cv 1, cv 2, 0, 0, 0)
theorem CTX_X {x : CS} {y : MS} {m : Nat → Int32} {sp : Nat → Nat} {cv : CV} {N nn : Nat} {kd sec mo : Nat → Nat} (c : CTX x y m sp cv N kd sec mo) (hnn : nn ≤ N) : wp (f_X10_makeHull x (n32 nn) (-1)) (HX x (gi y 61 1, gi y 61 2, gi y 61 3) (hul m sp (gi y 61 1) (gi y 61 2) (gi y 61 3) cv kd sec mo nn) (eHull (qM y m sp) cv false kd sec mo nn 0 (cv 0, cv 1, cv 2, 0, 0, 0) (-1, 0, -1000000))) := by
  obtain ⟨sx, sm, wk, wm, ⟨e0, e1, e2⟩, _⟩ := c
  have eL : (-1 : Int32).toInt64 + 1 = 0 := by decide
  have := X_hull (dr := false) (sd := -1) sx wk hnn (by rw [eL]; rfl)
  rw [e0, e1, e2, eL] at this
  exact this
theorem CTX_M {x : CS} {y y1 : MS} {m : Nat → Int32} {sp : Nat → Nat} {cv : CV} {N nn : Nat} {kd sec mo : Nat → Nat} (c : CTX x y m sp cv N kd sec mo) (hnn : nn ≤ N) (hf : FrM y y1) : wp (f_X11_comes y1 (n32 nn)) (HM y (hul m sp (gi y 61 1) (gi y 61 2) (gi y 61 3) cv kd sec mo nn)) := by
  obtain ⟨sx, sm, wk, wm, _, _, h47, h48⟩ := c
  exact M_comes (dr := false) sm (by rw [h48]; rfl) wm h47 hnn hf (fun q => absurd h48 q)
theorem soMany {x : CS} {y : MS} {m : Nat → Int32} {sp : Nat → Nat} {cv : CV} {N : Nat} {kd sec mo : Nat → Nat} (c : CTX x y m sp cv N kd sec mo) (a : Int32) : (f_X10_isSoMany x a = false ∧ f_X11_areWorks y a = false) ∨ (f_X10_isSoMany x a = true ∧ f_X11_areWorks y a = true ∧ ∃ nn, nn ≤ N ∧ a = n32 nn) := by
  obtain ⟨_, _, wk, wm, _⟩ := c
  have e1 : f_X10_isSoMany x a = f_X10_within a 0 (n32 N) := by unfold f_X10_isSoMany; rw [wk.2.1]
  have e2 : f_X11_areWorks y a = f_X10_within a 0 (n32 N) := by unfold f_X11_areWorks; rw [wm.2.1]; rfl
  rw [e1, e2]
  have hN := wk.1
  rcases wi_cases a 0 (n32 N) (by decide) with h | ⟨h, i, hi1, hi2, hi3⟩
  · exact Or.inl ⟨h, h⟩
  · rw [n32_int (by omega)] at hi2
    exact Or.inr ⟨h, h, i, by omega, hi3⟩
