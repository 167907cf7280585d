/-! ===== pure: worth, boring, hole ===== -/
theorem lg_le (a b : Int64) : lg_cmp a b ≤ 0 ↔ ¬ b < a := by
  unfold lg_cmp
  by_cases h : a > b
  · rw [if_pos h]
    exact ⟨fun q => absurd q (by decide), fun q => absurd h q⟩
  · rw [if_neg h]
    refine ⟨fun _ => h, fun _ => ?_⟩
    split <;> decide
def mx (a b : Int64) : Int64 := if b < a then a else b
theorem mx_M {α : Type} (f : Int64 → α) (a b : Int64) : (if lg_cmp a b ≤ 0 then f b else f a) = f (mx a b) := by
  unfold mx
  by_cases c : b < a
  · rw [if_pos c, if_neg (fun q => (lg_le a b).mp q c)]
  · rw [if_neg c, if_pos ((lg_le a b).mpr c)]
theorem mx_int (a b : Int64) : a.toInt ≤ (mx a b).toInt ∧ b.toInt ≤ (mx a b).toInt ∧ ((mx a b).toInt = a.toInt ∨ (mx a b).toInt = b.toInt) := by
  unfold mx
  by_cases c : b < a
  · rw [if_pos c]; rw [Int64.lt_iff_toInt_lt] at c; omega
  · rw [if_neg c]; rw [Int64.lt_iff_toInt_lt] at c; omega
theorem sum5 {f : Nat → Int64} (h : ∀ r, r < 5 → 0 ≤ (f r).toInt ∧ (f r).toInt ≤ 1000000000) : (sumL f 5 0 0).toInt = (f 0).toInt + (f 1).toInt + (f 2).toInt + (f 3).toInt + (f 4).toInt := by
  have h0 := h 0 (by omega)
  have h1 := h 1 (by omega)
  have h2 := h 2 (by omega)
  have h3 := h 3 (by omega)
  have h4 := h 4 (by omega)
  show (0 + f 0 + f 1 + f 2 + f 3 + f 4).toInt = _
  have a1 : (0 + f 0 + f 1).toInt = (f 0).toInt + (f 1).toInt := by rw [Int64.zero_add, i64_add] <;> omega
  have a2 : (0 + f 0 + f 1 + f 2).toInt = (f 0).toInt + (f 1).toInt + (f 2).toInt := by rw [i64_add, a1] <;> rw [a1] <;> omega
  have a3 : (0 + f 0 + f 1 + f 2 + f 3).toInt = (f 0).toInt + (f 1).toInt + (f 2).toInt + (f 3).toInt := by rw [i64_add, a2] <;> rw [a2] <;> omega
  rw [i64_add, a3] <;> rw [a3] <;> omega
theorem rg_b {x : CS} {y : MS} {q t : Nat} (tr : TR x q y t) {r : Nat} (hr : r < 5) : 0 ≤ (rg y t r).toInt ∧ (rg y t r).toInt ≤ 99 := by
  unfold rg
  rw [Int32.toInt_toInt64]
  exact (tr.2.2.2.2.2.2.1 r hr).2
theorem gd2_b {x : CS} {y : MS} {q t : Nat} (tr : TR x q y t) {r : Int32} (h0 : 0 ≤ r.toInt) (h1 : r.toInt ≤ 4) : 0 ≤ (gd2 y t r).toInt ∧ (gd2 y t r).toInt ≤ 99 := by
  have h3 := tr.2.2.1.2
  have h5 := tr.2.2.2.2.1.2
  have e1 : (6 * r).toInt = 6 * r.toInt := by rw [i32_mul, z_6] <;> rw [z_6] <;> omega
  have e2 : (3 * gi y 68 t).toInt = 3 * (gi y 68 t).toInt := by rw [i32_mul, z_3] <;> rw [z_3] <;> omega
  have e3 : (gi y 66 t - 6 * r).toInt = (gi y 66 t).toInt - 6 * r.toInt := by rw [i32_sub, e1] <;> rw [e1] <;> omega
  have e4 : (gi y 66 t - 6 * r - 3 * gi y 68 t).toInt = (gi y 66 t).toInt - 6 * r.toInt - 3 * (gi y 68 t).toInt := by rw [i32_sub, e3, e2] <;> rw [e3, e2] <;> omega
  unfold gd2
  split
  · rename_i c
    rw [i32_le, z_0, e4] at c
    rw [Int32.toInt_toInt64, e4]; omega
  · decide
theorem mul_b {a b : Int64} {A B : Int} (ha0 : 0 ≤ a.toInt) (ha : a.toInt ≤ A) (hb0 : 0 ≤ b.toInt) (hb : b.toInt ≤ B) (hAB : A * B ≤ 1000000000000) : (a * b).toInt = a.toInt * b.toInt ∧ 0 ≤ a.toInt * b.toInt ∧ a.toInt * b.toInt ≤ A * B := by
  have h0 : 0 ≤ a.toInt * b.toInt := Int.mul_nonneg ha0 hb0
  have h1 : a.toInt * b.toInt ≤ A * B := Int.mul_le_mul ha hb hb0 (by omega)
  exact ⟨i64_mul (by omega) (by omega), h0, h1⟩
theorem mAb_b {x : CS} {y : MS} {q t : Nat} (tr : TR x q y t) : 0 ≤ (mAb y t).toInt ∧ (mAb y t).toInt ≤ 49005 := by
  unfold mAb
  split
  · have hm : ∀ r, r < 5 → 0 ≤ (rg y t r * gd2 y t (n32 r)).toInt ∧ (rg y t r * gd2 y t (n32 r)).toInt ≤ 9801 := by
      intro r hr
      have b1 := rg_b tr hr
      have b2 := gd2_b tr (r := n32 r) (by rw [n32_int (by omega)]; omega) (by rw [n32_int (by omega)]; omega)
      obtain ⟨e, k1, k2⟩ := mul_b b1.1 b1.2 b2.1 b2.2 (by omega)
      rw [e]; omega
    rw [sum5 (fun r hr => by have := hm r hr; omega)]
    have h0 := hm 0 (by omega)
    have h1 := hm 1 (by omega)
    have h2 := hm 2 (by omega)
    have h3 := hm 3 (by omega)
    have h4 := hm 4 (by omega)
    omega
  · rename_i c
    have hb := tr.2.2.2.2.2.1.2
    have hb2 : 0 ≤ (gi y 70 t).toInt := by
      rw [i32_eq, z_m1] at c; omega
    have := gd2_b tr hb2 hb.2
    omega
theorem nat_of {a : Int64} (h : 0 ≤ a.toInt) : a.toInt = ((a.toInt.toNat : Nat) : Int) := by omega
theorem s_worth : ∀ (x : CS) (y : MS) (a0 a1 : Int32), PP x y → ∃ (r : Int64) (x1 : CS), f_X10_worth x a0 a1 = some (r, x1) ∧ f_X11_worth y a0 a1 = some r ∧ PP x1 y := by
  intro x y a0 a1 hP
  obtain ⟨n, rf, hQ⟩ := PP_PQ hP
  have hE := hQ.2.2.2.2.2.2.1
  have h27 := hP.1.1
  unfold f_X10_worth f_X11_worth f_X11_worth_34
  rcases X_treeAt hE a0 with ⟨t, ht, rfl, e1, e2, tr⟩ | ⟨e1, e2, _⟩
  · have ht6 : t < 6 := by have := hE.1; omega
    rw [e1, e2, Option.bind_some, oc_s, if_neg bt, in_wi, X_mean h27 tr, Option.bind_some]
    dsimp only
    rw [oc_s]
    obtain ⟨m1, m2, m3, m4⟩ := mkF_XE x (mAb y t) (mBe y t)
    obtain ⟨f1, f2, f3⟩ := mkF_fr h27 (mAb y t) (mBe y t)
    have hb := mBe_1 tr
    rw [hb.2.2] at f3
    have hP1 : PP (mkF x (mAb y t) (mBe y t)) y := PP_fr hP ⟨fun q _ _ _ => congrFun m2 q, m1⟩ (MF_rfl y)
    cases hw : f_X10_within a1 0 1
    · have e : f_X0_part (mkF x (mAb y t) (mBe y t)) (61 + gn x) a1 = some (-4611686018427387904) := by
        unfold f_X0_part
        rw [hw, f1]; rfl
      rw [e]
      exact ⟨_, _, rfl, rfl, hP1⟩
    · have ha := mAb_b tr
      obtain ⟨r, p1, p2⟩ := part_low f1 f2 f3 (nat_of ha.1) (nat_of (a := mBe y t) (by omega)) (by omega) (by omega) (by omega) hw
      rw [p1, if_neg bt, M_mAb y ht6, Option.bind_some, M_mBe y ht6, Option.bind_some, Option.bind_some, p2]
      exact ⟨r, _, rfl, rfl, hP1⟩
  · rw [e1, e2, Option.bind_some, oc_n]
    exact ⟨-4611686018427387904, x, rfl, rfl, hP⟩
/-! what a hole is worth -/
def hX (y : MS) (t : Nat) (oa ob : Int64) : Int64 := sumL (fun r => rg y t r * mx (gd2 y t (n32 r) * ob) oa) 5 0 0
def hBl (y : MS) (t : Nat) (ob : Int64) : Int64 := sumL (fun r => rg y t r * (gd2 y t (n32 r) * ob)) 5 0 0
def hAl (y : MS) (t : Nat) : Int64 := sumL (fun r => rg y t r) 5 0 0
def hA (y : MS) (n t : Nat) : Int64 := if gi y 70 t = -1 then hX y t (oA y (bbS y (n32 t) n 0 none)) (oB y (bbS y (n32 t) n 0 none)) - mx (hBl y t (oB y (bbS y (n32 t) n 0 none))) (oA y (bbS y (n32 t) n 0 none) * hAl y t) else 0
def hBe (y : MS) (n t : Nat) : Int64 := if gi y 70 t = -1 then hAl y t * oB y (bbS y (n32 t) n 0 none) else 1
theorem o_b {x : CS} {y : MS} {n : Nat} {rf : Nat → Nat} (hE : PE x y n rf) (o : Option Nat) (ho : ∀ b, o = some b → b < n) : (0 ≤ (oA y o).toInt ∧ (oA y o).toInt ≤ 49005) ∧ 1 ≤ (oB y o).toInt ∧ (oB y o).toInt ≤ 495 := by
  cases o with
  | none => exact ⟨⟨by show 0 ≤ (0 : Int64).toInt; decide, by show (0 : Int64).toInt ≤ 49005; decide⟩, by show 1 ≤ (1 : Int64).toInt; decide, by show (1 : Int64).toInt ≤ 495; decide⟩
  | some b =>
    have tr := (hE.2.2.2.1 b (ho b rfl)).2
    have := mBe_1 tr
    exact ⟨mAb_b tr, this.1, this.2.1⟩
theorem hole_b {x : CS} {y : MS} {q t : Nat} (tr : TR x q y t) (hbo : gi y 70 t = -1) {oa ob : Int64} (ha : 0 ≤ oa.toInt ∧ oa.toInt ≤ 49005) (hb : 1 ≤ ob.toInt ∧ ob.toInt ≤ 495) :
    (0 ≤ (hX y t oa ob - mx (hBl y t ob) (oa * hAl y t)).toInt ∧ (hX y t oa ob - mx (hBl y t ob) (oa * hAl y t)).toInt < 1000000000) ∧ (1 ≤ (hAl y t * ob).toInt ∧ (hAl y t * ob).toInt ≤ 1000000) ∧ hBl y t ob = mAb y t * ob := by
  have hR : ∀ r, r < 5 → 0 ≤ (rg y t r).toInt ∧ (rg y t r).toInt ≤ 99 := fun r hr => rg_b tr hr
  have hG : ∀ r, r < 5 → 0 ≤ (gd2 y t (n32 r)).toInt ∧ (gd2 y t (n32 r)).toInt ≤ 99 := fun r hr => gd2_b tr (by rw [n32_int (by omega)]; omega) (by rw [n32_int (by omega)]; omega)
  have hGO : ∀ r, r < 5 → (gd2 y t (n32 r) * ob).toInt = (gd2 y t (n32 r)).toInt * ob.toInt ∧ 0 ≤ (gd2 y t (n32 r)).toInt * ob.toInt ∧ (gd2 y t (n32 r)).toInt * ob.toInt ≤ 49005 := fun r hr => by
    obtain ⟨a, b, c⟩ := mul_b (hG r hr).1 (hG r hr).2 (b := ob) (by omega) hb.2 (by omega)
    exact ⟨a, b, by omega⟩
  have hM : ∀ r, r < 5 → 0 ≤ (mx (gd2 y t (n32 r) * ob) oa).toInt ∧ (mx (gd2 y t (n32 r) * ob) oa).toInt ≤ 49005 := fun r hr => by
    have a := hGO r hr
    have b := mx_int (gd2 y t (n32 r) * ob) oa
    rw [a.1] at b
    omega
  have hP1 : ∀ r, r < 5 → (rg y t r * mx (gd2 y t (n32 r) * ob) oa).toInt = (rg y t r).toInt * (mx (gd2 y t (n32 r) * ob) oa).toInt ∧ 0 ≤ (rg y t r * mx (gd2 y t (n32 r) * ob) oa).toInt ∧ (rg y t r * mx (gd2 y t (n32 r) * ob) oa).toInt ≤ 5000000 := fun r hr => by
    obtain ⟨a, b, c⟩ := mul_b (hR r hr).1 (hR r hr).2 (hM r hr).1 (hM r hr).2 (by omega)
    exact ⟨a, by omega, by omega⟩
  have hP2 : ∀ r, r < 5 → (rg y t r * (gd2 y t (n32 r) * ob)).toInt = (rg y t r).toInt * ((gd2 y t (n32 r)).toInt * ob.toInt) ∧ 0 ≤ (rg y t r * (gd2 y t (n32 r) * ob)).toInt ∧ (rg y t r * (gd2 y t (n32 r) * ob)).toInt ≤ 5000000 := fun r hr => by
    have z := hGO r hr
    obtain ⟨a, b, c⟩ := mul_b (hR r hr).1 (hR r hr).2 (b := gd2 y t (n32 r) * ob) (by omega) (B := 49005) (by omega) (by omega)
    rw [z.1] at a b c
    exact ⟨a, by omega, by omega⟩
  have hP3 : ∀ r, r < 5 → (rg y t r * gd2 y t (n32 r)).toInt = (rg y t r).toInt * (gd2 y t (n32 r)).toInt ∧ 0 ≤ (rg y t r * gd2 y t (n32 r)).toInt ∧ (rg y t r * gd2 y t (n32 r)).toInt ≤ 9801 := fun r hr => by
    obtain ⟨a, b, c⟩ := mul_b (hR r hr).1 (hR r hr).2 (hG r hr).1 (hG r hr).2 (by omega)
    exact ⟨a, by omega, by omega⟩
  have s1 := sum5 (f := fun r => rg y t r * mx (gd2 y t (n32 r) * ob) oa) (fun r hr => by have := hP1 r hr; exact ⟨this.2.1, by have := this.2.2; show (rg y t r * mx (gd2 y t (n32 r) * ob) oa).toInt ≤ _; omega⟩)
  have s2 := sum5 (f := fun r => rg y t r * (gd2 y t (n32 r) * ob)) (fun r hr => by have := hP2 r hr; exact ⟨this.2.1, by have := this.2.2; show (rg y t r * (gd2 y t (n32 r) * ob)).toInt ≤ _; omega⟩)
  have s3 := sum5 (f := fun r => rg y t r * gd2 y t (n32 r)) (fun r hr => by have := hP3 r hr; exact ⟨this.2.1, by have := this.2.2; show (rg y t r * gd2 y t (n32 r)).toInt ≤ _; omega⟩)
  have s4 := sum5 (f := fun r => rg y t r) (fun r hr => by have := hR r hr; exact ⟨this.1, by have := this.2; show (rg y t r).toInt ≤ _; omega⟩)
  have ms : ∀ r, r < 5 → (rg y t r).toInt * ((gd2 y t (n32 r)).toInt * ob.toInt) ≤ (rg y t r).toInt * (mx (gd2 y t (n32 r) * ob) oa).toInt ∧ (rg y t r).toInt * oa.toInt ≤ (rg y t r).toInt * (mx (gd2 y t (n32 r) * ob) oa).toInt := fun r hr => by
    have b := mx_int (gd2 y t (n32 r) * ob) oa
    rw [(hGO r hr).1] at b
    exact ⟨Int.mul_le_mul_of_nonneg_left b.1 (hR r hr).1, Int.mul_le_mul_of_nonneg_left b.2.1 (hR r hr).1⟩
  have t0 := hP1 0 (by omega)
  have t1 := hP1 1 (by omega)
  have t2 := hP1 2 (by omega)
  have t3 := hP1 3 (by omega)
  have t4 := hP1 4 (by omega)
  have u0 := hP2 0 (by omega)
  have u1 := hP2 1 (by omega)
  have u2 := hP2 2 (by omega)
  have u3 := hP2 3 (by omega)
  have u4 := hP2 4 (by omega)
  have v0 := hP3 0 (by omega)
  have v1 := hP3 1 (by omega)
  have v2 := hP3 2 (by omega)
  have v3 := hP3 3 (by omega)
  have v4 := hP3 4 (by omega)
  have w0 := hR 0 (by omega)
  have w1 := hR 1 (by omega)
  have w2 := hR 2 (by omega)
  have w3 := hR 3 (by omega)
  have w4 := hR 4 (by omega)
  have m0 := ms 0 (by omega)
  have m1 := ms 1 (by omega)
  have m2 := ms 2 (by omega)
  have m3 := ms 3 (by omega)
  have m4 := ms 4 (by omega)
  have hAl1 : 1 ≤ (hAl y t).toInt ∧ (hAl y t).toInt ≤ 495 := by
    have := mBe_1 tr
    unfold mBe at this
    rw [if_pos hbo] at this
    exact ⟨this.1, this.2.1⟩
  have oaAl : (oa * hAl y t).toInt = oa.toInt * (hAl y t).toInt ∧ 0 ≤ oa.toInt * (hAl y t).toInt ∧ oa.toInt * (hAl y t).toInt ≤ 49005 * 495 := mul_b ha.1 ha.2 (by omega) hAl1.2 (by omega)
  have e4 : oa.toInt * (hAl y t).toInt = (rg y t 0).toInt * oa.toInt + (rg y t 1).toInt * oa.toInt + (rg y t 2).toInt * oa.toInt + (rg y t 3).toInt * oa.toInt + (rg y t 4).toInt * oa.toInt := by
    have : (hAl y t).toInt = _ := s4
    rw [this, Int.mul_comm, Int.add_mul, Int.add_mul, Int.add_mul, Int.add_mul]
  have x1 : (hX y t oa ob).toInt = _ := s1
  have x2 : (hBl y t ob).toInt = _ := s2
  rw [t0.1, t1.1, t2.1, t3.1, t4.1] at x1
  rw [u0.1, u1.1, u2.1, u3.1, u4.1] at x2
  have hmx := mx_int (hBl y t ob) (oa * hAl y t)
  rw [oaAl.1, e4] at hmx
  have bX : (hX y t oa ob).toInt ≤ 25000000 := by rw [x1]; omega
  have key : (mx (hBl y t ob) (oa * hAl y t)).toInt ≤ (hX y t oa ob).toInt ∧ 0 ≤ (mx (hBl y t ob) (oa * hAl y t)).toInt := by
    rw [x1]
    rw [x2] at hmx
    omega
  refine ⟨?_, ?_, ?_⟩
  · rw [i64_sub] <;> omega
  · obtain ⟨a, b, c⟩ := mul_b (a := hAl y t) (b := ob) (by omega) hAl1.2 (by omega) hb.2 (by omega)
    have : 1 * 1 ≤ (hAl y t).toInt * ob.toInt := Int.mul_le_mul hAl1.1 hb.1 (by omega) (by omega)
    omega
  · have hm := mAb_b tr
    obtain ⟨a, b, c⟩ := mul_b (a := mAb y t) (b := ob) hm.1 hm.2 (by omega) hb.2 (by omega)
    rw [i64_eq, x2, a]
    have e0 : mAb y t = sumL (fun r => rg y t r * gd2 y t (n32 r)) 5 0 0 := by unfold mAb; rw [if_pos hbo]
    rw [e0, s3, v0.1, v1.1, v2.1, v3.1, v4.1]
    simp only [Int.add_mul, Int.mul_assoc]
theorem hB_1 {x : CS} {y : MS} {n : Nat} {rf : Nat → Nat} (hE : PE x y n rf) {t : Nat} (ht : t < n) : (0 ≤ (hA y n t).toInt ∧ (hA y n t).toInt < 1000000000) ∧ (1 ≤ (hBe y n t).toInt ∧ (hBe y n t).toInt ≤ 1000000) ∧ (if 1 < hBe y n t then hBe y n t else 1) = hBe y n t := by
  have key : (0 ≤ (hA y n t).toInt ∧ (hA y n t).toInt < 1000000000) ∧ (1 ≤ (hBe y n t).toInt ∧ (hBe y n t).toInt ≤ 1000000) := by
    unfold hA hBe
    by_cases c : gi y 70 t = -1
    · rw [if_pos c, if_pos c]
      have ob := o_b hE (bbS y (n32 t) n 0 none) (fun b hb => by
        have := bbS_lt (y := y) (but := n32 t) n 0 none (fun z hz => by cases hz) b hb; omega)
      have := hole_b (hE.2.2.2.1 t ht).2 c ob.1 ob.2
      exact ⟨this.1, this.2.1⟩
    · rw [if_neg c, if_neg c]; decide
  refine ⟨key.1, key.2, ?_⟩
  by_cases c : (1 : Int64) < hBe y n t
  · rw [if_pos c]
  · rw [if_neg c]
    have z1 : (1 : Int64).toInt = 1 := rfl
    rw [Int64.lt_iff_toInt_lt, z1] at c
    rw [i64_eq, z1]; omega
theorem X_hw50 {x : CS} {y : MS} {q z t : Nat} (h27 : 27 ≤ gn x) (tr : TR x q y t) (hz : kFr x z = true) : ∀ (k r g : Nat) (a c d : Int64), r + k = 5 → k < g → f_X1_holeWorth_50 g x (some q) (some z) a c d (n32 r) = some (some (61 + gn x), mkF x (sumL (fun r => rg y t r * mx (gd2 y t (n32 r) * tl x z 1) (tl x z 0)) k r a - mx (sumL (fun r => rg y t r * (gd2 y t (n32 r) * tl x z 1)) k r c) (tl x z 0 * sumL (fun r => rg y t r) k r d)) (sumL (fun r => rg y t r) k r d * tl x z 1)) := by
  have xe : XE x (pal x d3) := ⟨rfl, Nat.le_succ _, fun q hq => gdy_pan _ _ (by omega)⟩
  obtain ⟨k1, k2⟩ := kFr_XE xe hz
  intro k
  induction k with
  | zero =>
    intro r g a c d hr hg
    obtain ⟨g, rfl⟩ : ∃ w, g = w + 1 := ⟨g - 1, by omega⟩
    have e5 : (5 : Int32) ≤ n32 r := n_le (i := 5) (by omega) (by omega)
    rw [f_X1_holeWorth_50, oc_s, oc_s, if_pos e5, gd_t (decide_eq_true h27), gd_t k1, gd_t k1, k2, k2, mkF_of h27]
    rfl
  | succ k ih =>
    intro r g a c d hr hg
    obtain ⟨g, rfl⟩ : ∃ w, g = w + 1 := ⟨g - 1, by omega⟩
    have e5 : ¬ (5 : Int32) ≤ n32 r := n_nle (i := 5) (by omega) (by omega)
    obtain ⟨v, e1, e2⟩ := X_good tr (n32 r)
    rw [f_X1_holeWorth_50, oc_s, oc_s, if_neg e5, e1, Option.bind_some, gd_t hz, X_counts tr (by omega), Option.bind_some, gd_t hz, Option.bind_some, Option.bind_some, e2, n_inc]
    exact ih (r + 1) g _ _ _ (by omega) (by omega)
theorem X_hole {x : CS} {y : MS} {n t : Nat} {rf : Nat → Nat} (h27 : 27 ≤ gn x) (hE : PE x y n rf) (ht : t < n) : ∃ q x1, f_X1_holeWorth x (n32 t) = some (some q, x1) ∧ kFr x1 q = true ∧ tl x1 q 0 = hA y n t ∧ tl x1 q 1 = hBe y n t ∧ XE x x1 ∧ x1.1 = x.1 ∧ x1.2.1 = x.2.1 := by
  have hn6 := hE.1
  have hb1 := (hB_1 hE ht).2.2
  have one : (if (1 : Int64) < 1 then (1 : Int64) else 1) = 1 := by decide
  unfold f_X1_holeWorth f_X1_holeWorth_18
  rcases X_treeAt hE (n32 t) with ⟨u, hu, eu, e1, _, tr⟩ | ⟨_, _, hno⟩
  · have eut : u = t := ((n32_inj (by omega) (by omega)).mp eu).symm
    subst eut
    rw [e1, Option.bind_some, oc_s, gd_t tr.1, tr.2.2.2.2.2.1.1]
    by_cases c : gi y 70 u = -1
    · rw [if_pos c]
      obtain ⟨x1, b1, b2, b3, b4⟩ := X_bestBut (y := y) (n32 u) n 0 7 x none (by omega) (by omega) h27 hE (fun z hz => by cases hz)
      have b1 : f_X1_bestBut x (n32 u) = _ := b1
      have hE1 := PE_mk hE b2 b3
      have h27' : 27 ≤ gn x1 := Nat.le_trans h27 b2.2.1
      have hlt : ∀ b, bbS y (n32 u) n 0 none = some b → b < n := fun b hb => by
        have := bbS_lt (y := y) (but := n32 u) n 0 none (fun z hz => by cases hz) b hb; omega
      have ob := o_b hE (bbS y (n32 u) n 0 none) hlt
      rw [b1, Option.bind_some]
      dsimp only
      rw [X_mean1 h27' hE1 _ hlt, Option.bind_some]
      dsimp only
      rw [oc_s]
      generalize hoo : bbS y (n32 u) n 0 none = o at *
      obtain ⟨m1, m2, m3, m4⟩ := mkF_XE x1 (oA y o) (oB y o)
      obtain ⟨f1, f2, f3⟩ := mkF_fr h27' (oA y o) (oB y o)
      have eob : (if 1 < oB y o then oB y o else 1) = oB y o := by
        by_cases cc : (1 : Int64) < oB y o
        · rw [if_pos cc]
        · rw [if_neg cc]
          have z1 : (1 : Int64).toInt = 1 := rfl
          rw [Int64.lt_iff_toInt_lt, z1] at cc
          rw [i64_eq, z1]; omega
      rw [eob] at f3
      have tr2 := TR_fr (y' := y) (XE_tr b2 m1) (fun _ _ _ => rfl) tr
      have h27'' : 27 ≤ gn (mkF x1 (oA y o) (oB y o)) := by rw [m4]; omega
      have h50 := X_hw50 h27'' tr2 f1 5 0 6 0 0 0 (by omega) (by omega)
      rw [f2, f3] at h50
      have h50 : f_X1_holeWorth_50 6 (mkF x1 (oA y o) (oB y o)) (some _) (some (61 + gn x1)) 0 0 0 (n32 0) = some (some (61 + gn (mkF x1 (oA y o) (oB y o))), mkF (mkF x1 (oA y o) (oB y o)) (hX y u (oA y o) (oB y o) - mx (hBl y u (oB y o)) (oA y o * hAl y u)) (hAl y u * oB y o)) := h50
      obtain ⟨p1, p2, p3, p4⟩ := mkF_XE (mkF x1 (oA y o) (oB y o)) (hX y u (oA y o) (oB y o) - mx (hBl y u (oB y o)) (oA y o * hAl y u)) (hAl y u * oB y o)
      obtain ⟨g1, g2, g3⟩ := mkF_fr h27'' (hX y u (oA y o) (oB y o) - mx (hBl y u (oB y o)) (oA y o * hAl y u)) (hAl y u * oB y o)
      have eA : hA y n u = hX y u (oA y o) (oB y o) - mx (hBl y u (oB y o)) (oA y o * hAl y u) := by unfold hA; rw [if_pos c, hoo]
      have eB : hBe y n u = hAl y u * oB y o := by unfold hBe; rw [if_pos c, hoo]
      exact ⟨_, _, h50, g1, g2.trans eA.symm, g3.trans (by rw [← eB]; exact hb1), XE_tr b2 (XE_tr m1 p1), p2.trans (m2.trans b3), p3.trans (m3.trans b4)⟩
    · rw [if_neg c, gd_t (decide_eq_true h27), mkF_of h27]
      obtain ⟨m1, m2, m3, m4⟩ := mkF_XE x 0 1
      obtain ⟨f1, f2, f3⟩ := mkF_fr h27 0 1
      refine ⟨61 + gn x, mkF x 0 1, rfl, f1, ?_, ?_, m1, m2, m3⟩
      · rw [f2]; unfold hA; rw [if_neg c]
      · rw [f3, one]; unfold hBe; rw [if_neg c]
  · rw [n32_int (by omega)] at hno; omega
theorem bbS_pm (y : MS) (v : Int64) (but : Int32) : ∀ (k t : Nat) (b : Option Nat), bbS (pmbb y v) but k t b = bbS y but k t b := by
  intro k
  induction k with
  | zero => intro t b; rfl
  | succ k ih =>
    intro t b
    rw [bbS, bbS, ih, ih]
    have e : otk2 (pmbb y v) b t = otk2 y b t := by cases b <;> rfl
    rw [e]
theorem M_hole {x : CS} {y : MS} {n t : Nat} {rf : Nat → Nat} (hE : PE x y n rf) (ht : t < n) (v0 : Int64) : f_X11_boringAbove (pmbb y v0) (n32 t) = some (hA y n t, pmbb y (hBe y n t)) := by
  have hn6 := hE.1
  have ht6 : t < 6 := by omega
  have et : (n32 t).toNatClampNeg = t := n32_nat (by omega)
  have tr := (hE.2.2.2.1 t ht).2
  have hlt : ∀ b, bbS y (n32 t) n 0 none = some b → b < n := fun b hb => by
    have := bbS_lt (y := y) (but := n32 t) n 0 none (fun z hz => by cases hz) b hb; omega
  have ob := o_b hE (bbS y (n32 t) n 0 none) hlt
  have eBB : f_X11_bestBut (pmbb y 1) (n32 t) = some (oI (bbS y (n32 t) n 0 none)) := by
    have := M_bestBut (y := pmbb y 1) hn6 hE.2.2.1 (n32 t)
    rw [bbS_pm] at this
    exact this
  have e70 : gi (pmbb (pmbb y v0) 1) 70 t = gi y 70 t := rfl
  have ep : pmbb (pmbb y v0) 1 = pmbb y 1 := rfl
  unfold f_X11_boringAbove
  rw [gd_t (ib_n ht6 (by omega)), et, e70, ep]
  by_cases c : gi y 70 t = -1
  · rw [if_pos c, eBB, Option.bind_some]
    generalize hoo : bbS y (n32 t) n 0 none = o at *
    have h67 : ∀ (oa ob : Int64) (k r g : Nat) (a : Int64), r + k = 5 → k < g → f_X11_boringAbove_67 g (pmbb y 1) (n32 t) oa ob (mBe y t) a (n32 r) = some (sumL (fun r => rg y t r * mx (gd2 y t (n32 r) * ob) oa) k r a - mx (mAb y t * ob) (oa * mBe y t), pmbb y (mBe y t * ob)) := by
      intro oa ob k
      induction k with
      | zero =>
        intro r g a hr hg
        obtain ⟨g, rfl⟩ : ∃ w, g = w + 1 := ⟨g - 1, by omega⟩
        have e5 : (5 : Int32) ≤ n32 r := n_le (i := 5) (by omega) (by omega)
        have ep2 : pmbb (pmbb y 1) (mBe y t * ob) = pmbb y (mBe y t * ob) := rfl
        have em : f_X11_meanAbove (pmbb y (mBe y t * ob)) (n32 t) = some (mAb y t) := M_mAb (pmbb y (mBe y t * ob)) ht6
        rw [f_X11_boringAbove_67, if_pos e5, ep2, em, Option.bind_some]
        unfold f_X11_boringAbove_162
        exact mx_M (fun z => some (a - z, pmbb y (mBe y t * ob))) (mAb y t * ob) (oa * mBe y t)
      | succ k ih =>
        intro r g a hr hg
        obtain ⟨g, rfl⟩ : ∃ w, g = w + 1 := ⟨g - 1, by omega⟩
        have e5 : ¬ (5 : Int32) ≤ n32 r := n_nle (i := 5) (by omega) (by omega)
        have eg : f_X11_goodOf (pmbb y 1) (n32 t) (n32 r) = some (gd2 y t (n32 r)) := M_good (pmbb y 1) ht6 (n32 r)
        rw [f_X11_boringAbove_67, if_neg e5, eg, Option.bind_some, M_in5, gd_t (ib_n (by omega) (by omega)), n32_nat (by omega)]
        unfold f_X11_boringAbove_112
        rw [n_inc]
        refine (mx_M (fun z => f_X11_boringAbove_67 g (pmbb y 1) (n32 t) oa ob (mBe y t) (a + (gi (pmbb y 1) 69 (5 * t + r)).toInt64 * z) (n32 (r + 1))) (gd2 y t (n32 r) * ob) oa).trans ?_
        exact ih (r + 1) g _ (by omega) (by omega)
    have em : mBe y t = hAl y t := by unfold mBe hAl; rw [if_pos c]
    have emb : f_X11_meanBelow (pmbb y 1) (n32 t) = some (mBe y t) := M_mBe (pmbb y 1) ht6
    have eA : hA y n t = hX y t (oA y o) (oB y o) - mx (hBl y t (oB y o)) (oA y o * hAl y t) := by unfold hA; rw [if_pos c, hoo]
    have eB : hBe y n t = hAl y t * oB y o := by unfold hBe; rw [if_pos c, hoo]
    have fin : f_X11_boringAbove_52 (pmbb y 1) (n32 t) (oA y o) (oB y o) = some (hA y n t, pmbb y (hBe y n t)) := by
      unfold f_X11_boringAbove_52
      rw [emb, Option.bind_some]
      have := h67 (oA y o) (oB y o) 5 0 1000 0 (by omega) (by omega)
      rw [eA, eB, (hole_b tr c ob.1 ob.2).2.2, ← em]
      exact this
    unfold f_X11_boringAbove_37
    cases o with
    | none =>
      rw [if_pos (show oI none = -1 from rfl), if_pos (show oI none = -1 from rfl)]
      exact fin
    | some b =>
      have hb := hlt b rfl
      have n1 : ¬ oI (some b) = -1 := fun q => by
        have q : n32 b = -1 := q
        rw [i32_eq, n32_int (by omega), z_m1] at q; omega
      have ea : f_X11_meanAbove (pmbb y 1) (oI (some b)) = some (mAb y b) := M_mAb (pmbb y 1) (by omega)
      have eb : f_X11_meanBelow (pmbb y 1) (oI (some b)) = some (mBe y b) := M_mBe (pmbb y 1) (by omega)
      rw [if_neg n1, ea, Option.bind_some, if_neg n1, eb, Option.bind_some]
      exact fin
  · rw [if_neg c]
    unfold hA hBe
    rw [if_neg c, if_neg c]
theorem MF_bb (y : MS) (v : Int64) : MF y (pmbb y v) := ⟨fun _ _ _ => rfl, fun _ _ => rfl, rfl, rfl⟩
theorem s_boring : ∀ (x : CS) (y : MS) (a0 a1 : Int32), PP x y → ∃ (r : Int64) (x1 : CS) (y1 : MS), f_X10_boring x a0 a1 = some (r, x1) ∧ f_X11_boring y a0 a1 = some (r, y1) ∧ PP x1 y1 := by
  intro x y a0 a1 hP
  obtain ⟨n, rf, hQ⟩ := PP_PQ hP
  have hE := hQ.2.2.2.2.2.2.1
  have h27 := hP.1.1
  unfold f_X10_boring f_X11_boring f_X11_boring_17
  rcases X_treeAt hE a0 with ⟨t, ht, rfl, e1, e2, tr⟩ | ⟨e1, e2, _⟩
  · obtain ⟨q, x1, k1, k2, k3, k4, k5, k6, k7⟩ := X_hole h27 hE ht
    have eM := M_hole hE ht (gmbb y)
    have ey : pmbb y (gmbb y) = y := rfl
    rw [ey] at eM
    have hb := hB_1 hE ht
    rw [e1, e2, Option.bind_some, oc_s, if_neg bt, in_wi, k1, Option.bind_some]
    dsimp only
    rw [oc_s]
    have hP1 : PP x1 (pmbb y (hBe y n t)) := PP_fr hP ⟨fun q _ _ _ => congrFun k6 q, k5⟩ (MF_bb y _)
    have hP0 : PP x1 y := PP_fr hP ⟨fun q _ _ _ => congrFun k6 q, k5⟩ (MF_rfl y)
    cases hw : f_X10_within a1 0 1
    · have e : f_X0_part x1 q a1 = some (-4611686018427387904) := by
        unfold f_X0_part
        rw [hw, k2]; rfl
      rw [e]
      exact ⟨_, _, _, rfl, rfl, hP0⟩
    · obtain ⟨r, p1, p2⟩ := part_low k2 k3 k4 (nat_of hb.1.1) (nat_of (a := hBe y n t) (by omega)) (by omega) (by omega) (by omega) hw
      have eg : gmbb (pmbb y (hBe y n t)) = hBe y n t := rfl
      have p2' : f_X11_lowest (hA y n t) (gmbb (pmbb y (hBe y n t))) a1 = some r := p2
      rw [p1, if_neg bt, eM, Option.bind_some, Option.bind_some, p2']
      exact ⟨r, _, _, rfl, rfl, hP1⟩
  · rw [e1, e2, Option.bind_some, oc_n]
    exact ⟨-4611686018427387904, x, y, rfl, rfl, hP⟩
def hoA (y : MS) (n : Nat) (o : Option Nat) : Int64 := match o with
  | none => 0
  | some b => hA y n b
def hoB (y : MS) (n : Nat) (o : Option Nat) : Int64 := match o with
  | none => 1
  | some b => hBe y n b
theorem s_hole : ∀ (x : CS) (y : MS), PP x y → ∃ (r : Int32) (x1 : CS) (y1 : MS), f_X10_hole x = some (r, x1) ∧ f_X11_hole y = some (r, y1) ∧ PP x1 y1 := by
  intro x y hP
  obtain ⟨n, rf, hQ⟩ := PP_PQ hP
  have hE := hQ.2.2.2.2.2.2.1
  have hn6 := hE.1
  have h27 := hP.1.1
  have key : ∀ (k t g g' : Nat) (z : CS) (v : Int64) (b : Option Nat) (q : Nat), t + k = n → k < g → k < g' → 27 ≤ gn z → XE x z → z.1 = x.1 → kFr z q = true → tl z q 0 = hoA y n b → tl z q 1 = hoB y n b → ∃ r x1 y1, f_X10_hole_14 g z (oI b) (some q) (n32 t) = some (r, x1) ∧ f_X11_hole_10 g' (pmbb y v) (oI b) (hoA y n b) (hoB y n b) (n32 t) = some (r, y1) ∧ PP x1 y1 := by
    intro k
    induction k with
    | zero =>
      intro t g g' z v b q ht hg hg' z27 zx z1 zk z0 zb
      obtain ⟨g, rfl⟩ : ∃ w, g = w + 1 := ⟨g - 1, by omega⟩
      obtain ⟨g', rfl⟩ : ∃ w, g' = w + 1 := ⟨g' - 1, by omega⟩
      have e34 : gi z 34 1 = n32 n := by rw [gi_of (congrFun z1 34)]; exact hE.2.1
      have e10 : gi (pmbb y v) 61 10 = n32 n := hE.2.2.1
      rw [f_X10_hole_14, f_X11_hole_10, oc_s, e34, e10, if_pos (n_le (by omega) (by omega)), if_pos (n_le (by omega) (by omega))]
      exact ⟨_, z, _, rfl, rfl, PP_fr hP ⟨fun q _ _ _ => congrFun z1 q, zx⟩ (MF_bb y v)⟩
    | succ k ih =>
      intro t g g' z v b q ht hg hg' z27 zx z1 zk z0 zb
      obtain ⟨g, rfl⟩ : ∃ w, g = w + 1 := ⟨g - 1, by omega⟩
      obtain ⟨g', rfl⟩ : ∃ w, g' = w + 1 := ⟨g' - 1, by omega⟩
      have e34 : gi z 34 1 = n32 n := by rw [gi_of (congrFun z1 34)]; exact hE.2.1
      have e10 : gi (pmbb y v) 61 10 = n32 n := hE.2.2.1
      have htn : t < n := by omega
      have hEz := PE_mk hE zx z1
      obtain ⟨s, z', k1, k2, k3, k4, k5, k6, k7⟩ := X_hole z27 hEz htn
      have eM := M_hole hE htn v
      obtain ⟨w1, w2⟩ := kFr_XE k5 zk
      have eg : gmbb (pmbb y (hBe y n t)) = hBe y n t := rfl
      have hle : ¬ n32 n ≤ n32 t := n_nle (by omega) (by omega)
      rw [f_X10_hole_14, f_X11_hole_10, oc_s, e34, e10, if_neg hle, if_neg hle, k1, Option.bind_some, eM, Option.bind_some]
      unfold f_X10_hole_49 f_X11_hole_54
      dsimp only
      rw [oc_s, X_above k2 w1, Option.bind_some, k3, k4, w2, w2, z0, zb, eg, n_inc, oc_s, oc_s]
      have zx' := XE_tr zx k5
      have z27' : 27 ≤ gn z' := Nat.le_trans z27 k5.2.1
      by_cases c : lg_cmp (hA y n t * hoB y n b) (hoA y n b * hBe y n t) ≤ 0
      · rw [decide_eq_false (fun q => q c), if_pos b2i_f, if_pos c]
        exact ih (t + 1) g g' z' _ b q (by omega) (by omega) (by omega) z27' zx' (k6.trans z1) w1 ((w2 0).trans z0) ((w2 1).trans zb)
      · rw [decide_eq_true c, if_neg bt, if_neg c]
        exact ih (t + 1) g g' z' _ (some t) s (by omega) (by omega) (by omega) z27' zx' (k6.trans z1) k2 k3 k4
  obtain ⟨m1, m2, m3, m4⟩ := mkF_XE x 0 1
  obtain ⟨f1, f2, f3⟩ := mkF_fr h27 0 1
  have one : (if (1 : Int64) < 1 then (1 : Int64) else 1) = 1 := by decide
  rw [one] at f3
  obtain ⟨r, x1, y1, r1, r2, r3⟩ := key n 0 7 1000 (mkF x 0 1) (gmbb y) none (61 + gn x) (by omega) (by omega) (by omega) (by rw [m4]; omega) m1 m2 f1 f2 f3
  refine ⟨r, x1, y1, ?_, r2, r3⟩
  unfold f_X10_hole
  rw [gd_t (decide_eq_true h27), mkF_of h27]
  exact r1
