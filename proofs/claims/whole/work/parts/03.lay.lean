/-! ===== the layout: what the static cells hold (0 .. 60 the class, 61 .. 87 the check), by program ===== -/
abbrev DY : Type := Nat → Nat × (Nat → Int32) × (Nat → Int64)
abbrev CS : Type := (Nat → Nat → Int32) × Int64 × (Nat → Option Nat) × Nat × DY
abbrev MS : Type := (Nat → Nat → Int32) × Int64 × Int64
def gi {β : Type} (x : (Nat → Nat → Int32) × β) (q j : Nat) : Int32 := x.1 q j
def pi {β : Type} (x : (Nat → Nat → Int32) × β) (q j : Nat) (v : Int32) : (Nat → Nat → Int32) × β := (fun a => if a = q then upd (x.1 q) j v else x.1 a, x.2)
def glot (x : CS) : Int64 := x.2.1
def plot (x : CS) (v : Int64) : CS := (x.1, v, x.2.2)
def gtr (x : CS) (i : Nat) : Option Nat := x.2.2.1 i
def ptr (x : CS) (i : Nat) (v : Option Nat) : CS := (x.1, x.2.1, (fun j => if j = i then v else x.2.2.1 j), x.2.2.2)
def gn (x : CS) : Nat := x.2.2.2.1
def gdy (x : CS) : DY := x.2.2.2.2
def gmlot (y : MS) : Int64 := y.2.1
def pmlot (y : MS) (v : Int64) : MS := (y.1, v, y.2.2)
def gmbb (y : MS) : Int64 := y.2.2
def pmbb (y : MS) (v : Int64) : MS := (y.1, y.2.1, v)
def wdl (j : Nat) : Int64 := ([1667785074, 1886743660, 495873781348, 1751474548, 2003398244, 7561584, 499967943531, 1802399604, 2003395685, 28530, 6385252, 7237492] : List Int64).getD j 0
def xeL (K : KE) (x : CS) (y : MS) : List ((Nat → Int32) → va_E) := [
  fun f => .inr (9, [.ref (K.1 + 1), .ref (K.1 + 10), .ref (K.1 + 26), .ref (K.1 + 30), .ref (K.1 + 34), .ref (K.1 + 36), .ref (K.1 + 37), .ref (K.1 + 48), .ref (K.1 + 38), .ref (K.1 + 47), .int (f 10), .int (f 11)]),
  fun f => .inr (7, [.ref (K.1 + 2), .ref (K.1 + 9), .int (f 2)]),
  fun f => .inl (K.2.2.1 2, 6, .inr (.inr (.inr (.inr (fun j => some (K.1 + (3 + j))))))),
  fun f => .inl (K.2.2.1 0, 9, .inl f),
  fun f => .inl (K.2.2.1 0, 9, .inl f),
  fun f => .inl (K.2.2.1 0, 9, .inl f),
  fun f => .inl (K.2.2.1 0, 9, .inl f),
  fun f => .inl (K.2.2.1 0, 9, .inl f),
  fun f => .inl (K.2.2.1 0, 9, .inl f),
  fun f => .inl (K.2.2.1 0, 5, .inl f),
  fun f => .inr (3, [.ref (K.1 + 11), .ref (K.1 + 18), .ref (K.1 + 25), .int (f 3)]),
  fun f => .inl (K.2.2.1 2, 6, .inr (.inr (.inr (.inr (fun j => some (K.1 + (12 + j))))))),
  fun f => .inl (K.2.2.1 0, 160, .inl f),
  fun f => .inl (K.2.2.1 0, 160, .inl f),
  fun f => .inl (K.2.2.1 0, 160, .inl f),
  fun f => .inl (K.2.2.1 0, 160, .inl f),
  fun f => .inl (K.2.2.1 0, 160, .inl f),
  fun f => .inl (K.2.2.1 0, 160, .inl f),
  fun f => .inl (K.2.2.1 2, 6, .inr (.inr (.inr (.inr (fun j => some (K.1 + (19 + j))))))),
  fun f => .inl (K.2.2.1 0, 3, .inl f),
  fun f => .inl (K.2.2.1 0, 3, .inl f),
  fun f => .inl (K.2.2.1 0, 3, .inl f),
  fun f => .inl (K.2.2.1 0, 3, .inl f),
  fun f => .inl (K.2.2.1 0, 3, .inl f),
  fun f => .inl (K.2.2.1 0, 3, .inl f),
  fun f => .inl (K.2.2.1 0, 160, .inl f),
  fun f => .inr (5, [.ref (K.1 + 27), .int (f 1), .ref (K.1 + 28), .ref (K.1 + 29), .int (f 4), .int (f 5), .int (f 6), .int (f 7), .int (f 8), .int (f 9), .int (f 10)]),
  fun f => .inl (K.2.2.1 0, 160, .inl f),
  fun f => .inl (K.2.2.1 0, 160, .inl f),
  fun f => .inl (K.2.2.1 0, 3, .inl f),
  fun f => .inr (8, [.ref (K.1 + 31), .ref (K.1 + 32), .ref (K.1 + 33), .int (f 3)]),
  fun f => .inl (K.2.2.1 0, 10, .inl f),
  fun f => .inl (K.2.2.1 0, 10, .inl f),
  fun f => .inl (K.2.2.1 0, 10, .inl f),
  fun f => .inr (1, [.ref (K.1 + 35), .int (f 1)]),
  fun f => .inl (K.2.2.1 4, 6, .inr (.inr (.inr (.inr (fun j => (gtr x j).map (fun q => K.1 + q)))))),
  fun f => .inl (K.2.2.1 3, 4, .inr (.inr (.inr (.inr (fun j => some (K.1 + (53 + 2 * j))))))),
  fun f => .inl (K.2.2.1 0, 40, .inl f),
  fun f => .inr (7, [.ref (K.1 + 39), .ref (K.1 + 46), .int (f 2)]),
  fun f => .inl (K.2.2.1 2, 6, .inr (.inr (.inr (.inr (fun j => some (K.1 + (40 + j))))))),
  fun f => .inl (K.2.2.1 0, 9, .inl f),
  fun f => .inl (K.2.2.1 0, 9, .inl f),
  fun f => .inl (K.2.2.1 0, 9, .inl f),
  fun f => .inl (K.2.2.1 0, 9, .inl f),
  fun f => .inl (K.2.2.1 0, 9, .inl f),
  fun f => .inl (K.2.2.1 0, 9, .inl f),
  fun f => .inl (K.2.2.1 0, 5, .inl f),
  fun f => .inl (K.2.2.1 0, 6, .inl f),
  fun f => .inr (2, [.ref (K.1 + 1), .ref (K.1 + 10), .ref (K.1 + 49), .ref (K.1 + 50), .ref (K.1 + 51), .ref (K.1 + 52), .int (f 6), .int (f 7), .int (f 8), .int (f 9), .int (f 10), .long (glot x)]),
  fun f => .inl (K.2.2.1 0, 9, .inl f),
  fun f => .inl (K.2.2.1 0, 9, .inl f),
  fun f => .inl (K.2.2.1 0, 9, .inl f),
  fun f => .inl (K.2.2.1 0, 6, .inl f),
  fun f => .inr (4, [.ref (K.1 + 54), .int (f 1), .int (f 2)]),
  fun f => .inl (K.2.2.1 0, 40, .inl f),
  fun f => .inr (4, [.ref (K.1 + 56), .int (f 1), .int (f 2)]),
  fun f => .inl (K.2.2.1 0, 40, .inl f),
  fun f => .inr (4, [.ref (K.1 + 58), .int (f 1), .int (f 2)]),
  fun f => .inl (K.2.2.1 0, 40, .inl f),
  fun f => .inr (4, [.ref (K.1 + 60), .int (f 1), .int (f 2)]),
  fun f => .inl (K.2.2.1 0, 40, .inl f),
  fun f => .inr (10, [.ref (K.1 + 62), .int (f 1), .int (f 2), .int (f 3), .int (f 4), .int (f 5), .int (f 6), .ref (K.1 + 63), .ref (K.1 + 64), .ref (K.1 + 65), .int (f 10), .ref (K.1 + 66), .ref (K.1 + 67), .ref (K.1 + 68), .ref (K.1 + 69), .ref (K.1 + 70), .ref (K.1 + 71), .int (f 17), .ref (K.1 + 72), .ref (K.1 + 73), .int (f 20), .int (f 21), .int (f 22), .int (f 23), .int (f 24), .ref (K.1 + 74), .ref (K.1 + 75), .ref (K.1 + 76), .ref (K.1 + 77), .ref (K.1 + 78), .ref (K.1 + 79), .int (f 31), .int (f 32), .int (f 33), .int (f 34), .ref (K.1 + 80), .ref (K.1 + 81), .int (f 37), .int (f 38), .int (f 39), .ref (K.1 + 82), .ref (K.1 + 83), .ref (K.1 + 84), .ref (K.1 + 85), .ref (K.1 + 86), .int (f 45), .int (f 46), .int (f 47), .int (f 48), .long (gmlot y), .long (gmbb y), .ref (K.1 + 87)]),
  fun f => .inl (K.2.2.1 0, 54, .inl f),
  fun f => .inl (K.2.2.1 0, 10, .inl f),
  fun f => .inl (K.2.2.1 0, 10, .inl f),
  fun f => .inl (K.2.2.1 0, 10, .inl f),
  fun f => .inl (K.2.2.1 0, 6, .inl f),
  fun f => .inl (K.2.2.1 0, 6, .inl f),
  fun f => .inl (K.2.2.1 0, 6, .inl f),
  fun f => .inl (K.2.2.1 0, 30, .inl f),
  fun f => .inl (K.2.2.1 0, 6, .inl f),
  fun f => .inl (K.2.2.1 0, 160, .inl f),
  fun f => .inl (K.2.2.1 0, 1200, .inl f),
  fun f => .inl (K.2.2.1 0, 24, .inl f),
  fun f => .inl (K.2.2.1 0, 5, .inl f),
  fun f => .inl (K.2.2.1 0, 54, .inl f),
  fun f => .inl (K.2.2.1 0, 6, .inl f),
  fun f => .inl (K.2.2.1 0, 4, .inl f),
  fun f => .inl (K.2.2.1 0, 4, .inl f),
  fun f => .inl (K.2.2.1 0, 160, .inl f),
  fun f => .inl (K.2.2.1 1, 12, .inr (.inl wdl)),
  fun f => .inl (K.2.2.1 0, 200, .inl f),
  fun f => .inl (K.2.2.1 0, 200, .inl f),
  fun f => .inl (K.2.2.1 0, 6, .inl f),
  fun f => .inl (K.2.2.1 0, 9, .inl f),
  fun f => .inl (K.2.2.1 0, 9, .inl f),
  fun f => .inl (K.2.2.1 0, 9, .inl f),
  fun f => .inl (K.2.2.1 0, 40, .inl f)]
def xe (K : KE) (x : CS) (y : MS) (q : Nat) (f : Nat → Int32) : va_E := ((xeL K x y).getD q (fun _ => .inl (0, 0, .inl (fun _ => 0)))) f
def xd (K : KE) (q : Nat) (d : Nat × (Nat → Int32) × (Nat → Int64)) : va_E :=
  if d.1 = 1 then .inr (6, [.ref (K.1 + (q + 1)), .int (d.2.1 1), .int (d.2.1 2), .int (d.2.1 3), .int (d.2.1 4)])
  else if d.1 = 2 then .inl (K.2.2.1 0, 5, .inl d.2.1)
  else if d.1 = 3 then .inr (0, [.long (d.2.2 0), .long (d.2.2 1)])
  else if d.1 = 4 then .inr (6, [.null, .int (d.2.1 1), .int (d.2.1 2), .int (d.2.1 3), .int (d.2.1 4)])
  else .inl (0, 0, .inl (fun _ => 0))
def xfF (K : KE) (x : CS) (y : MS) : Nat → va_E := fun q => if q < 61 then xe K x y q (x.1 q) else if q < 88 then xe K x y q (y.1 q) else xd K q (gdy x q)
/-- the memory as the class sees it: gn x cells beside its own -/
def xf (K : KE) (x : CS) (y : MS) : GM := (61 + gn x, fun q => if q < 61 then xe K x y q (x.1 q) else if q < 88 then xe K x y q (y.1 q) else xd K q (gdy x q))
/-- the same as the check sees it: both objects whole, nn cells beside them -/
def xfM (K : KE) (nn : Nat) (x : CS) (y : MS) : GM := (88 + nn, fun q => if q < 61 then xe K x y q (x.1 q) else if q < 88 then xe K x y q (y.1 q) else xd K q (gdy x q))
theorem xn {K : KE} {x : CS} {y : MS} {q : Nat} (h : q < 61) : q < (xf K x y).1 := Nat.lt_of_lt_of_le h (Nat.le_add_right _ _)
theorem xnM {K : KE} {nn : Nat} {x : CS} {y : MS} {q : Nat} (h : q < 88) : q < (xfM K nn x y).1 := Nat.lt_of_lt_of_le h (Nat.le_add_right _ _)
theorem xfM_of {K : KE} {x : CS} {y : MS} {nn : Nat} (h : gn x = 27 + nn) : xf K x y = xfM K nn x y := by
  unfold xf xfM
  rw [h, ← Nat.add_assoc]
theorem xc_0 {K : KE} {x : CS} {y : MS} : (xf K x y).2 0 = .inr (9, [.ref (K.1 + 1), .ref (K.1 + 10), .ref (K.1 + 26), .ref (K.1 + 30), .ref (K.1 + 34), .ref (K.1 + 36), .ref (K.1 + 37), .ref (K.1 + 48), .ref (K.1 + 38), .ref (K.1 + 47), .int (gi x 0 10), .int (gi x 0 11)]) := rfl
theorem xc_1 {K : KE} {x : CS} {y : MS} : (xf K x y).2 1 = .inr (7, [.ref (K.1 + 2), .ref (K.1 + 9), .int (gi x 1 2)]) := rfl
theorem xc_2 {K : KE} {x : CS} {y : MS} : (xf K x y).2 2 = .inl (K.2.2.1 2, 6, .inr (.inr (.inr (.inr (fun j => some (K.1 + (3 + j))))))) := rfl
theorem xc_3 {K : KE} {x : CS} {y : MS} : (xf K x y).2 3 = .inl (K.2.2.1 0, 9, .inl (gi x 3)) := rfl
theorem xc_4 {K : KE} {x : CS} {y : MS} : (xf K x y).2 4 = .inl (K.2.2.1 0, 9, .inl (gi x 4)) := rfl
theorem xc_5 {K : KE} {x : CS} {y : MS} : (xf K x y).2 5 = .inl (K.2.2.1 0, 9, .inl (gi x 5)) := rfl
theorem xc_6 {K : KE} {x : CS} {y : MS} : (xf K x y).2 6 = .inl (K.2.2.1 0, 9, .inl (gi x 6)) := rfl
theorem xc_7 {K : KE} {x : CS} {y : MS} : (xf K x y).2 7 = .inl (K.2.2.1 0, 9, .inl (gi x 7)) := rfl
theorem xc_8 {K : KE} {x : CS} {y : MS} : (xf K x y).2 8 = .inl (K.2.2.1 0, 9, .inl (gi x 8)) := rfl
theorem xc_9 {K : KE} {x : CS} {y : MS} : (xf K x y).2 9 = .inl (K.2.2.1 0, 5, .inl (gi x 9)) := rfl
theorem xc_10 {K : KE} {x : CS} {y : MS} : (xf K x y).2 10 = .inr (3, [.ref (K.1 + 11), .ref (K.1 + 18), .ref (K.1 + 25), .int (gi x 10 3)]) := rfl
theorem xc_11 {K : KE} {x : CS} {y : MS} : (xf K x y).2 11 = .inl (K.2.2.1 2, 6, .inr (.inr (.inr (.inr (fun j => some (K.1 + (12 + j))))))) := rfl
theorem xc_12 {K : KE} {x : CS} {y : MS} : (xf K x y).2 12 = .inl (K.2.2.1 0, 160, .inl (gi x 12)) := rfl
theorem xc_13 {K : KE} {x : CS} {y : MS} : (xf K x y).2 13 = .inl (K.2.2.1 0, 160, .inl (gi x 13)) := rfl
theorem xc_14 {K : KE} {x : CS} {y : MS} : (xf K x y).2 14 = .inl (K.2.2.1 0, 160, .inl (gi x 14)) := rfl
theorem xc_15 {K : KE} {x : CS} {y : MS} : (xf K x y).2 15 = .inl (K.2.2.1 0, 160, .inl (gi x 15)) := rfl
theorem xc_16 {K : KE} {x : CS} {y : MS} : (xf K x y).2 16 = .inl (K.2.2.1 0, 160, .inl (gi x 16)) := rfl
theorem xc_17 {K : KE} {x : CS} {y : MS} : (xf K x y).2 17 = .inl (K.2.2.1 0, 160, .inl (gi x 17)) := rfl
theorem xc_18 {K : KE} {x : CS} {y : MS} : (xf K x y).2 18 = .inl (K.2.2.1 2, 6, .inr (.inr (.inr (.inr (fun j => some (K.1 + (19 + j))))))) := rfl
theorem xc_19 {K : KE} {x : CS} {y : MS} : (xf K x y).2 19 = .inl (K.2.2.1 0, 3, .inl (gi x 19)) := rfl
theorem xc_20 {K : KE} {x : CS} {y : MS} : (xf K x y).2 20 = .inl (K.2.2.1 0, 3, .inl (gi x 20)) := rfl
theorem xc_21 {K : KE} {x : CS} {y : MS} : (xf K x y).2 21 = .inl (K.2.2.1 0, 3, .inl (gi x 21)) := rfl
theorem xc_22 {K : KE} {x : CS} {y : MS} : (xf K x y).2 22 = .inl (K.2.2.1 0, 3, .inl (gi x 22)) := rfl
theorem xc_23 {K : KE} {x : CS} {y : MS} : (xf K x y).2 23 = .inl (K.2.2.1 0, 3, .inl (gi x 23)) := rfl
theorem xc_24 {K : KE} {x : CS} {y : MS} : (xf K x y).2 24 = .inl (K.2.2.1 0, 3, .inl (gi x 24)) := rfl
theorem xc_25 {K : KE} {x : CS} {y : MS} : (xf K x y).2 25 = .inl (K.2.2.1 0, 160, .inl (gi x 25)) := rfl
theorem xc_26 {K : KE} {x : CS} {y : MS} : (xf K x y).2 26 = .inr (5, [.ref (K.1 + 27), .int (gi x 26 1), .ref (K.1 + 28), .ref (K.1 + 29), .int (gi x 26 4), .int (gi x 26 5), .int (gi x 26 6), .int (gi x 26 7), .int (gi x 26 8), .int (gi x 26 9), .int (gi x 26 10)]) := rfl
theorem xc_27 {K : KE} {x : CS} {y : MS} : (xf K x y).2 27 = .inl (K.2.2.1 0, 160, .inl (gi x 27)) := rfl
theorem xc_28 {K : KE} {x : CS} {y : MS} : (xf K x y).2 28 = .inl (K.2.2.1 0, 160, .inl (gi x 28)) := rfl
theorem xc_29 {K : KE} {x : CS} {y : MS} : (xf K x y).2 29 = .inl (K.2.2.1 0, 3, .inl (gi x 29)) := rfl
theorem xc_30 {K : KE} {x : CS} {y : MS} : (xf K x y).2 30 = .inr (8, [.ref (K.1 + 31), .ref (K.1 + 32), .ref (K.1 + 33), .int (gi x 30 3)]) := rfl
theorem xc_31 {K : KE} {x : CS} {y : MS} : (xf K x y).2 31 = .inl (K.2.2.1 0, 10, .inl (gi x 31)) := rfl
theorem xc_32 {K : KE} {x : CS} {y : MS} : (xf K x y).2 32 = .inl (K.2.2.1 0, 10, .inl (gi x 32)) := rfl
theorem xc_33 {K : KE} {x : CS} {y : MS} : (xf K x y).2 33 = .inl (K.2.2.1 0, 10, .inl (gi x 33)) := rfl
theorem xc_34 {K : KE} {x : CS} {y : MS} : (xf K x y).2 34 = .inr (1, [.ref (K.1 + 35), .int (gi x 34 1)]) := rfl
theorem xc_35 {K : KE} {x : CS} {y : MS} : (xf K x y).2 35 = .inl (K.2.2.1 4, 6, .inr (.inr (.inr (.inr (fun j => (gtr x j).map (fun q => K.1 + q)))))) := rfl
theorem xc_36 {K : KE} {x : CS} {y : MS} : (xf K x y).2 36 = .inl (K.2.2.1 3, 4, .inr (.inr (.inr (.inr (fun j => some (K.1 + (53 + 2 * j))))))) := rfl
theorem xc_37 {K : KE} {x : CS} {y : MS} : (xf K x y).2 37 = .inl (K.2.2.1 0, 40, .inl (gi x 37)) := rfl
theorem xc_38 {K : KE} {x : CS} {y : MS} : (xf K x y).2 38 = .inr (7, [.ref (K.1 + 39), .ref (K.1 + 46), .int (gi x 38 2)]) := rfl
theorem xc_39 {K : KE} {x : CS} {y : MS} : (xf K x y).2 39 = .inl (K.2.2.1 2, 6, .inr (.inr (.inr (.inr (fun j => some (K.1 + (40 + j))))))) := rfl
theorem xc_40 {K : KE} {x : CS} {y : MS} : (xf K x y).2 40 = .inl (K.2.2.1 0, 9, .inl (gi x 40)) := rfl
theorem xc_41 {K : KE} {x : CS} {y : MS} : (xf K x y).2 41 = .inl (K.2.2.1 0, 9, .inl (gi x 41)) := rfl
theorem xc_42 {K : KE} {x : CS} {y : MS} : (xf K x y).2 42 = .inl (K.2.2.1 0, 9, .inl (gi x 42)) := rfl
theorem xc_43 {K : KE} {x : CS} {y : MS} : (xf K x y).2 43 = .inl (K.2.2.1 0, 9, .inl (gi x 43)) := rfl
theorem xc_44 {K : KE} {x : CS} {y : MS} : (xf K x y).2 44 = .inl (K.2.2.1 0, 9, .inl (gi x 44)) := rfl
theorem xc_45 {K : KE} {x : CS} {y : MS} : (xf K x y).2 45 = .inl (K.2.2.1 0, 9, .inl (gi x 45)) := rfl
theorem xc_46 {K : KE} {x : CS} {y : MS} : (xf K x y).2 46 = .inl (K.2.2.1 0, 5, .inl (gi x 46)) := rfl
theorem xc_47 {K : KE} {x : CS} {y : MS} : (xf K x y).2 47 = .inl (K.2.2.1 0, 6, .inl (gi x 47)) := rfl
theorem xc_48 {K : KE} {x : CS} {y : MS} : (xf K x y).2 48 = .inr (2, [.ref (K.1 + 1), .ref (K.1 + 10), .ref (K.1 + 49), .ref (K.1 + 50), .ref (K.1 + 51), .ref (K.1 + 52), .int (gi x 48 6), .int (gi x 48 7), .int (gi x 48 8), .int (gi x 48 9), .int (gi x 48 10), .long (glot x)]) := rfl
theorem xc_49 {K : KE} {x : CS} {y : MS} : (xf K x y).2 49 = .inl (K.2.2.1 0, 9, .inl (gi x 49)) := rfl
theorem xc_50 {K : KE} {x : CS} {y : MS} : (xf K x y).2 50 = .inl (K.2.2.1 0, 9, .inl (gi x 50)) := rfl
theorem xc_51 {K : KE} {x : CS} {y : MS} : (xf K x y).2 51 = .inl (K.2.2.1 0, 9, .inl (gi x 51)) := rfl
theorem xc_52 {K : KE} {x : CS} {y : MS} : (xf K x y).2 52 = .inl (K.2.2.1 0, 6, .inl (gi x 52)) := rfl
theorem xc_53 {K : KE} {x : CS} {y : MS} : (xf K x y).2 53 = .inr (4, [.ref (K.1 + 54), .int (gi x 53 1), .int (gi x 53 2)]) := rfl
theorem xc_54 {K : KE} {x : CS} {y : MS} : (xf K x y).2 54 = .inl (K.2.2.1 0, 40, .inl (gi x 54)) := rfl
theorem xc_55 {K : KE} {x : CS} {y : MS} : (xf K x y).2 55 = .inr (4, [.ref (K.1 + 56), .int (gi x 55 1), .int (gi x 55 2)]) := rfl
theorem xc_56 {K : KE} {x : CS} {y : MS} : (xf K x y).2 56 = .inl (K.2.2.1 0, 40, .inl (gi x 56)) := rfl
theorem xc_57 {K : KE} {x : CS} {y : MS} : (xf K x y).2 57 = .inr (4, [.ref (K.1 + 58), .int (gi x 57 1), .int (gi x 57 2)]) := rfl
theorem xc_58 {K : KE} {x : CS} {y : MS} : (xf K x y).2 58 = .inl (K.2.2.1 0, 40, .inl (gi x 58)) := rfl
theorem xc_59 {K : KE} {x : CS} {y : MS} : (xf K x y).2 59 = .inr (4, [.ref (K.1 + 60), .int (gi x 59 1), .int (gi x 59 2)]) := rfl
theorem xc_60 {K : KE} {x : CS} {y : MS} : (xf K x y).2 60 = .inl (K.2.2.1 0, 40, .inl (gi x 60)) := rfl
theorem xc_61 {K : KE} {nn : Nat} {x : CS} {y : MS} : (xfM K nn x y).2 61 = .inr (10, [.ref (K.1 + 62), .int (gi y 61 1), .int (gi y 61 2), .int (gi y 61 3), .int (gi y 61 4), .int (gi y 61 5), .int (gi y 61 6), .ref (K.1 + 63), .ref (K.1 + 64), .ref (K.1 + 65), .int (gi y 61 10), .ref (K.1 + 66), .ref (K.1 + 67), .ref (K.1 + 68), .ref (K.1 + 69), .ref (K.1 + 70), .ref (K.1 + 71), .int (gi y 61 17), .ref (K.1 + 72), .ref (K.1 + 73), .int (gi y 61 20), .int (gi y 61 21), .int (gi y 61 22), .int (gi y 61 23), .int (gi y 61 24), .ref (K.1 + 74), .ref (K.1 + 75), .ref (K.1 + 76), .ref (K.1 + 77), .ref (K.1 + 78), .ref (K.1 + 79), .int (gi y 61 31), .int (gi y 61 32), .int (gi y 61 33), .int (gi y 61 34), .ref (K.1 + 80), .ref (K.1 + 81), .int (gi y 61 37), .int (gi y 61 38), .int (gi y 61 39), .ref (K.1 + 82), .ref (K.1 + 83), .ref (K.1 + 84), .ref (K.1 + 85), .ref (K.1 + 86), .int (gi y 61 45), .int (gi y 61 46), .int (gi y 61 47), .int (gi y 61 48), .long (gmlot y), .long (gmbb y), .ref (K.1 + 87)]) := rfl
theorem xc_62 {K : KE} {nn : Nat} {x : CS} {y : MS} : (xfM K nn x y).2 62 = .inl (K.2.2.1 0, 54, .inl (gi y 62)) := rfl
theorem xc_63 {K : KE} {nn : Nat} {x : CS} {y : MS} : (xfM K nn x y).2 63 = .inl (K.2.2.1 0, 10, .inl (gi y 63)) := rfl
theorem xc_64 {K : KE} {nn : Nat} {x : CS} {y : MS} : (xfM K nn x y).2 64 = .inl (K.2.2.1 0, 10, .inl (gi y 64)) := rfl
theorem xc_65 {K : KE} {nn : Nat} {x : CS} {y : MS} : (xfM K nn x y).2 65 = .inl (K.2.2.1 0, 10, .inl (gi y 65)) := rfl
theorem xc_66 {K : KE} {nn : Nat} {x : CS} {y : MS} : (xfM K nn x y).2 66 = .inl (K.2.2.1 0, 6, .inl (gi y 66)) := rfl
theorem xc_67 {K : KE} {nn : Nat} {x : CS} {y : MS} : (xfM K nn x y).2 67 = .inl (K.2.2.1 0, 6, .inl (gi y 67)) := rfl
theorem xc_68 {K : KE} {nn : Nat} {x : CS} {y : MS} : (xfM K nn x y).2 68 = .inl (K.2.2.1 0, 6, .inl (gi y 68)) := rfl
theorem xc_69 {K : KE} {nn : Nat} {x : CS} {y : MS} : (xfM K nn x y).2 69 = .inl (K.2.2.1 0, 30, .inl (gi y 69)) := rfl
theorem xc_70 {K : KE} {nn : Nat} {x : CS} {y : MS} : (xfM K nn x y).2 70 = .inl (K.2.2.1 0, 6, .inl (gi y 70)) := rfl
theorem xc_71 {K : KE} {nn : Nat} {x : CS} {y : MS} : (xfM K nn x y).2 71 = .inl (K.2.2.1 0, 160, .inl (gi y 71)) := rfl
theorem xc_72 {K : KE} {nn : Nat} {x : CS} {y : MS} : (xfM K nn x y).2 72 = .inl (K.2.2.1 0, 1200, .inl (gi y 72)) := rfl
theorem xc_73 {K : KE} {nn : Nat} {x : CS} {y : MS} : (xfM K nn x y).2 73 = .inl (K.2.2.1 0, 24, .inl (gi y 73)) := rfl
theorem xc_74 {K : KE} {nn : Nat} {x : CS} {y : MS} : (xfM K nn x y).2 74 = .inl (K.2.2.1 0, 5, .inl (gi y 74)) := rfl
theorem xc_75 {K : KE} {nn : Nat} {x : CS} {y : MS} : (xfM K nn x y).2 75 = .inl (K.2.2.1 0, 54, .inl (gi y 75)) := rfl
theorem xc_76 {K : KE} {nn : Nat} {x : CS} {y : MS} : (xfM K nn x y).2 76 = .inl (K.2.2.1 0, 6, .inl (gi y 76)) := rfl
theorem xc_77 {K : KE} {nn : Nat} {x : CS} {y : MS} : (xfM K nn x y).2 77 = .inl (K.2.2.1 0, 4, .inl (gi y 77)) := rfl
theorem xc_78 {K : KE} {nn : Nat} {x : CS} {y : MS} : (xfM K nn x y).2 78 = .inl (K.2.2.1 0, 4, .inl (gi y 78)) := rfl
theorem xc_79 {K : KE} {nn : Nat} {x : CS} {y : MS} : (xfM K nn x y).2 79 = .inl (K.2.2.1 0, 160, .inl (gi y 79)) := rfl
theorem xc_80 {K : KE} {nn : Nat} {x : CS} {y : MS} : (xfM K nn x y).2 80 = .inl (K.2.2.1 1, 12, .inr (.inl wdl)) := rfl
theorem xc_81 {K : KE} {nn : Nat} {x : CS} {y : MS} : (xfM K nn x y).2 81 = .inl (K.2.2.1 0, 200, .inl (gi y 81)) := rfl
theorem xc_82 {K : KE} {nn : Nat} {x : CS} {y : MS} : (xfM K nn x y).2 82 = .inl (K.2.2.1 0, 200, .inl (gi y 82)) := rfl
theorem xc_83 {K : KE} {nn : Nat} {x : CS} {y : MS} : (xfM K nn x y).2 83 = .inl (K.2.2.1 0, 6, .inl (gi y 83)) := rfl
theorem xc_84 {K : KE} {nn : Nat} {x : CS} {y : MS} : (xfM K nn x y).2 84 = .inl (K.2.2.1 0, 9, .inl (gi y 84)) := rfl
theorem xc_85 {K : KE} {nn : Nat} {x : CS} {y : MS} : (xfM K nn x y).2 85 = .inl (K.2.2.1 0, 9, .inl (gi y 85)) := rfl
theorem xc_86 {K : KE} {nn : Nat} {x : CS} {y : MS} : (xfM K nn x y).2 86 = .inl (K.2.2.1 0, 9, .inl (gi y 86)) := rfl
theorem xc_87 {K : KE} {nn : Nat} {x : CS} {y : MS} : (xfM K nn x y).2 87 = .inl (K.2.2.1 0, 40, .inl (gi y 87)) := rfl
def pf {β : Type} (x : (Nat → Nat → Int32) × β) (q : Nat) (g : Nat → Int32) : (Nat → Nat → Int32) × β := (fun a => if a = q then g else x.1 a, x.2)
theorem xwF {K : KE} {x : CS} {y : MS} {q : Nat} {g : Nat → Int32} {e : va_E} (hq : q < 61) (h : xe K x y q g = e) : gu (xf K x y) q e = xf K (pf x q g) y := by
  refine Prod.ext rfl (funext fun a => ?_)
  show (if a = q then e else (if a < 61 then xe K x y a (x.1 a) else if a < 88 then xe K x y a (y.1 a) else xd K a (gdy x a))) = (if a < 61 then xe K x y a (if a = q then g else x.1 a) else if a < 88 then xe K x y a (y.1 a) else xd K a (gdy x a))
  by_cases h1 : a = q
  · subst h1
    rw [if_pos rfl, if_pos hq, if_pos rfl, h]
  · rw [if_neg h1, if_neg h1]
theorem xwC {K : KE} {x : CS} {y : MS} {q j : Nat} {v : Int32} {e : va_E} (hq : q < 61) (h : xe K x y q (upd (x.1 q) j v) = e) : gu (xf K x y) q e = xf K (pi x q j v) y := by
  refine Prod.ext rfl (funext fun a => ?_)
  show (if a = q then e else (if a < 61 then xe K x y a (x.1 a) else if a < 88 then xe K x y a (y.1 a) else xd K a (gdy x a))) = (if a < 61 then xe K x y a (if a = q then upd (x.1 q) j v else x.1 a) else if a < 88 then xe K x y a (y.1 a) else xd K a (gdy x a))
  by_cases h1 : a = q
  · subst h1
    rw [if_pos rfl, if_pos hq, if_pos rfl, h]
  · rw [if_neg h1, if_neg h1]
theorem xwM {K : KE} {nn : Nat} {x : CS} {y : MS} {q j : Nat} {v : Int32} {e : va_E} (hq : 61 ≤ q) (hq2 : q < 88) (h : xe K x y q (upd (y.1 q) j v) = e) : gu (xfM K nn x y) q e = xfM K nn x (pi y q j v) := by
  refine Prod.ext rfl (funext fun a => ?_)
  show (if a = q then e else (if a < 61 then xe K x y a (x.1 a) else if a < 88 then xe K x y a (y.1 a) else xd K a (gdy x a))) = (if a < 61 then xe K x y a (x.1 a) else if a < 88 then xe K x y a (if a = q then upd (y.1 q) j v else y.1 a) else xd K a (gdy x a))
  by_cases h1 : a = q
  · subst h1
    rw [if_pos rfl, if_neg (by omega), if_pos hq2, if_pos rfl, h]
  · rw [if_neg h1, if_neg h1]
def alS : List Nat := [0, 0, 0, 9, 9, 9, 9, 9, 9, 5, 0, 0, 160, 160, 160, 160, 160, 160, 0, 3, 3, 3, 3, 3, 3, 160, 0, 160, 160, 3, 0, 10, 10, 10, 0, 0, 0, 40, 0, 0, 9, 9, 9, 9, 9, 9, 5, 6, 0, 9, 9, 9, 6, 0, 40, 0, 40, 0, 40, 0, 40]
def al (q : Nat) : Nat := alS.getD q 0
def ib (i : Int32) (n : Nat) : Bool := decide (¬ (i < 0 ∨ n ≤ i.toNatClampNeg))
theorem ib_in {i : Int32} {n : Nat} (h : ib i n = true) : vp_in i n := by
  have h1 : ¬ (i < 0 ∨ n ≤ i.toNatClampNeg) := of_decide_eq_true h
  exact h1
theorem gD0 {α : Type} {l : List α} {d : α} {n : Nat} (h : l.length ≤ n) : l.getD n d = d := by
  rw [List.getD_eq_getElem?_getD, List.getElem?_eq_none h]
  rfl
def gd {α : Type} (b : Bool) (k : Option α) : Option α := if b = true then k else none
theorem gd_of {α : Type} {b : Bool} {k : Option α} {r : α} (h : gd b k = some r) : b = true ∧ k = some r := by
  unfold gd at h
  by_cases hb : b = true
  · rw [if_pos hb] at h; exact ⟨hb, h⟩
  · rw [if_neg hb] at h; cases h
theorem bd_of {α β : Type} {a : Option α} {k : α → Option β} {r : β} (h : a.bind k = some r) : ∃ v, a = some v ∧ k v = some r := by
  cases a with
  | none => cases h
  | some v => exact ⟨v, rfl, h⟩
def b2i (b : Bool) : Int32 := if b = true then 1 else 0
theorem b2i_n (b : Bool) : narrow .boolean (.int (b2i b)) = .int (b2i b) := by cases b <;> rfl
theorem b2i_0 {b : Bool} : b2i b = 0 ↔ ¬ b = true := by cases b <;> decide
def kWd (q : Nat) : Bool := q == 1 || q == 38
theorem kWd_c {q : Nat} (h : kWd q = true) : q = 1 ∨ q = 38 := by
  simpa [kWd, or_assoc] using h
theorem kWd_lt {K : KE} {x : CS} {y : MS} {q : Nat} (h : kWd q = true) : q < (xf K x y).1 := by
  rcases kWd_c h with rfl | rfl <;> exact xn (by decide)
theorem kWd_at {K : KE} {x : CS} {y : MS} {q : Nat} (h : kWd q = true) : (xf K x y).2 q = .inr (7, [.ref (K.1 + (q + 1)), .ref (K.1 + (q + 8)), .int (gi x q 2)]) := by
  rcases kWd_c h with rfl | rfl <;> rfl
theorem kWd_w2 {K : KE} {x : CS} {y : MS} {q : Nat} {v : Int32} (h : kWd q = true) : gu (xf K x y) q (.inr (7, ([.ref (K.1 + (q + 1)), .ref (K.1 + (q + 8)), .int (gi x q 2)] : List Value).set 2 (.int v))) = xf K (pi x q 2 v) y := by
  rcases kWd_c h with rfl | rfl <;> exact xwC (by decide) rfl
theorem kWd_lt1 {K : KE} {x : CS} {y : MS} {q : Nat} (h : kWd q = true) : q + 1 < (xf K x y).1 := by
  rcases kWd_c h with rfl | rfl <;> exact xn (by decide)
theorem kWd_rw {K : KE} {x : CS} {y : MS} {q : Nat} (h : kWd q = true) : (xf K x y).2 (q + 1) = .inl (K.2.2.1 2, 6, .inr (.inr (.inr (.inr (fun j => some (K.1 + (q + 2 + j))))))) := by
  rcases kWd_c h with rfl | rfl <;> rfl
def kSh (q : Nat) : Bool := q == 53 || q == 55 || q == 57 || q == 59
theorem kSh_c {q : Nat} (h : kSh q = true) : q = 53 ∨ q = 55 ∨ q = 57 ∨ q = 59 := by
  simpa [kSh, or_assoc] using h
theorem kSh_lt {K : KE} {x : CS} {y : MS} {q : Nat} (h : kSh q = true) : q < (xf K x y).1 := by
  rcases kSh_c h with rfl | rfl | rfl | rfl <;> exact xn (by decide)
theorem kSh_at {K : KE} {x : CS} {y : MS} {q : Nat} (h : kSh q = true) : (xf K x y).2 q = .inr (4, [.ref (K.1 + (q + 1)), .int (gi x q 1), .int (gi x q 2)]) := by
  rcases kSh_c h with rfl | rfl | rfl | rfl <;> rfl
theorem kSh_w1 {K : KE} {x : CS} {y : MS} {q : Nat} {v : Int32} (h : kSh q = true) : gu (xf K x y) q (.inr (4, ([.ref (K.1 + (q + 1)), .int (gi x q 1), .int (gi x q 2)] : List Value).set 1 (.int v))) = xf K (pi x q 1 v) y := by
  rcases kSh_c h with rfl | rfl | rfl | rfl <;> exact xwC (by decide) rfl
theorem kSh_w2 {K : KE} {x : CS} {y : MS} {q : Nat} {v : Int32} (h : kSh q = true) : gu (xf K x y) q (.inr (4, ([.ref (K.1 + (q + 1)), .int (gi x q 1), .int (gi x q 2)] : List Value).set 2 (.int v))) = xf K (pi x q 2 v) y := by
  rcases kSh_c h with rfl | rfl | rfl | rfl <;> exact xwC (by decide) rfl
theorem xa_all {K : KE} {x : CS} {y : MS} {q : Nat} (h0 : 0 < al q) : q < 61 ∧ ∀ f, xe K x y q f = .inl (K.2.2.1 0, al q, .inl f) := by
  have hq : q < 61 := by
    rcases Nat.lt_or_ge q 61 with h | h
    · exact h
    · have : al q = 0 := gD0 h
      omega
  refine ⟨hq, ?_⟩
  rcases (by omega : q = 0 ∨ q = 1 ∨ q = 2 ∨ q = 3 ∨ q = 4 ∨ q = 5 ∨ q = 6 ∨ q = 7 ∨ q = 8 ∨ q = 9 ∨ q = 10 ∨ q = 11 ∨ q = 12 ∨ q = 13 ∨ q = 14 ∨ q = 15 ∨ q = 16 ∨ q = 17 ∨ q = 18 ∨ q = 19 ∨ q = 20 ∨ q = 21 ∨ q = 22 ∨ q = 23 ∨ q = 24 ∨ q = 25 ∨ q = 26 ∨ q = 27 ∨ q = 28 ∨ q = 29 ∨ q = 30 ∨ q = 31 ∨ q = 32 ∨ q = 33 ∨ q = 34 ∨ q = 35 ∨ q = 36 ∨ q = 37 ∨ q = 38 ∨ q = 39 ∨ q = 40 ∨ q = 41 ∨ q = 42 ∨ q = 43 ∨ q = 44 ∨ q = 45 ∨ q = 46 ∨ q = 47 ∨ q = 48 ∨ q = 49 ∨ q = 50 ∨ q = 51 ∨ q = 52 ∨ q = 53 ∨ q = 54 ∨ q = 55 ∨ q = 56 ∨ q = 57 ∨ q = 58 ∨ q = 59 ∨ q = 60) with rfl | rfl | rfl | rfl | rfl | rfl | rfl | rfl | rfl | rfl | rfl | rfl | rfl | rfl | rfl | rfl | rfl | rfl | rfl | rfl | rfl | rfl | rfl | rfl | rfl | rfl | rfl | rfl | rfl | rfl | rfl | rfl | rfl | rfl | rfl | rfl | rfl | rfl | rfl | rfl | rfl | rfl | rfl | rfl | rfl | rfl | rfl | rfl | rfl | rfl | rfl | rfl | rfl | rfl | rfl | rfl | rfl | rfl | rfl | rfl | rfl
  all_goals first | exact fun f => rfl | exact absurd h0 (by decide)
theorem ib_pos {i : Int32} {n : Nat} (h : ib i n = true) : 0 < n := by
  have h1 := ib_in h
  rcases Nat.eq_zero_or_pos n with e | e
  · exact absurd (Or.inr (by rw [e]; exact Nat.zero_le _)) h1
  · exact e
theorem xl_lc {q : Nat} (h : decide (0 < al q) = true) : q < 61 := (xa_all (K := (0, (fun _ => 0, fun _ _ => 0), fun _ => 0, fun _ => 0)) (x := (fun _ _ => 0, 0, fun _ => none, 0, fun _ => (0, fun _ => 0, fun _ => 0))) (y := (fun _ _ => 0, 0, 0)) (of_decide_eq_true h)).1
theorem xl_lt {K : KE} {x : CS} {y : MS} {q : Nat} (h : decide (0 < al q) = true) : q < (xf K x y).1 := xn (Nat.lt_of_lt_of_le (xl_lc h) (by decide))
theorem xl_at {K : KE} {x : CS} {y : MS} {q : Nat} (h : decide (0 < al q) = true) : (xf K x y).2 q = .inl (K.2.2.1 0, al q, .inl (gi x q)) := by
  show (if q < 61 then xe K x y q (x.1 q) else _) = _
  rw [if_pos (xl_lc h), (xa_all (of_decide_eq_true h)).2]
  rfl
theorem xa_lc {i : Int32} {q : Nat} (h : ib i (al q) = true) : q < 61 := xl_lc (decide_eq_true (ib_pos h))
theorem xa_lt {K : KE} {x : CS} {y : MS} {q : Nat} {i : Int32} (h : ib i (al q) = true) : q < (xf K x y).1 := xl_lt (decide_eq_true (ib_pos h))
theorem xa_at {K : KE} {x : CS} {y : MS} {q : Nat} {i : Int32} (h : ib i (al q) = true) : (xf K x y).2 q = .inl (K.2.2.1 0, al q, .inl (gi x q)) := xl_at (decide_eq_true (ib_pos h))
theorem xa_e {K : KE} {x : CS} {y : MS} {q : Nat} {i : Int32} (h : ib i (al q) = true) {f : Nat → Int32} : xe K x y q f = .inl (K.2.2.1 0, al q, .inl f) := (xa_all (ib_pos h)).2 f
def oc {α β : Type} (o : Option α) (e : β) (f : α → β) : β := match o with
  | none => e
  | some s => f s
theorem oc_n {α β : Type} {e : β} {f : α → β} : oc (none : Option α) e f = e := rfl
theorem oc_s {α β : Type} {e : β} {f : α → β} {s : α} : oc (some s) e f = f s := rfl
theorem oc_nh {α β : Type} {e : β} {f : α → β} {r : β} (h : oc (none : Option α) e f = r) : e = r := h
theorem oc_sh {α β : Type} {e : β} {f : α → β} {s : α} {r : β} (h : oc (some s) e f = r) : f s = r := h
theorem kv_add {n : Int} {k a : Int32} (h : Int32.ofInt n = k) : a + Int32.ofInt n = a + k := by rw [h]
theorem xo_tr {K : KE} {x : CS} {y : MS} {i : Nat} {v : Option Nat} {q : Nat} (hq : ¬ q = 35) (f : Nat → Int32) : xe K (ptr x i v) y q f = xe K x y q f := by
  rcases Nat.lt_or_ge q 88 with h | h
  · rcases (by omega : q = 0 ∨ q = 1 ∨ q = 2 ∨ q = 3 ∨ q = 4 ∨ q = 5 ∨ q = 6 ∨ q = 7 ∨ q = 8 ∨ q = 9 ∨ q = 10 ∨ q = 11 ∨ q = 12 ∨ q = 13 ∨ q = 14 ∨ q = 15 ∨ q = 16 ∨ q = 17 ∨ q = 18 ∨ q = 19 ∨ q = 20 ∨ q = 21 ∨ q = 22 ∨ q = 23 ∨ q = 24 ∨ q = 25 ∨ q = 26 ∨ q = 27 ∨ q = 28 ∨ q = 29 ∨ q = 30 ∨ q = 31 ∨ q = 32 ∨ q = 33 ∨ q = 34 ∨ q = 35 ∨ q = 36 ∨ q = 37 ∨ q = 38 ∨ q = 39 ∨ q = 40 ∨ q = 41 ∨ q = 42 ∨ q = 43 ∨ q = 44 ∨ q = 45 ∨ q = 46 ∨ q = 47 ∨ q = 48 ∨ q = 49 ∨ q = 50 ∨ q = 51 ∨ q = 52 ∨ q = 53 ∨ q = 54 ∨ q = 55 ∨ q = 56 ∨ q = 57 ∨ q = 58 ∨ q = 59 ∨ q = 60 ∨ q = 61 ∨ q = 62 ∨ q = 63 ∨ q = 64 ∨ q = 65 ∨ q = 66 ∨ q = 67 ∨ q = 68 ∨ q = 69 ∨ q = 70 ∨ q = 71 ∨ q = 72 ∨ q = 73 ∨ q = 74 ∨ q = 75 ∨ q = 76 ∨ q = 77 ∨ q = 78 ∨ q = 79 ∨ q = 80 ∨ q = 81 ∨ q = 82 ∨ q = 83 ∨ q = 84 ∨ q = 85 ∨ q = 86 ∨ q = 87) with rfl | rfl | rfl | rfl | rfl | rfl | rfl | rfl | rfl | rfl | rfl | rfl | rfl | rfl | rfl | rfl | rfl | rfl | rfl | rfl | rfl | rfl | rfl | rfl | rfl | rfl | rfl | rfl | rfl | rfl | rfl | rfl | rfl | rfl | rfl | rfl | rfl | rfl | rfl | rfl | rfl | rfl | rfl | rfl | rfl | rfl | rfl | rfl | rfl | rfl | rfl | rfl | rfl | rfl | rfl | rfl | rfl | rfl | rfl | rfl | rfl | rfl | rfl | rfl | rfl | rfl | rfl | rfl | rfl | rfl | rfl | rfl | rfl | rfl | rfl | rfl | rfl | rfl | rfl | rfl | rfl | rfl | rfl | rfl | rfl | rfl | rfl | rfl
    all_goals first | rfl | exact absurd rfl hq
  · unfold xe
    rw [gD0 h, gD0 h]
theorem xw_tr {K : KE} {x : CS} {y : MS} {i v : Nat} : gu (xf K x y) 35 (.inl (K.2.2.1 4, 6, .inr (.inr (.inr (.inr (va_up (fun j => (gtr x j).map (fun q => K.1 + q)) i (some (K.1 + v)))))))) = xf K (ptr x i (some v)) y := by
  refine Prod.ext rfl (funext fun a => ?_)
  by_cases h1 : a = 35
  · subst h1
    show (Sum.inl (K.2.2.1 4, 6, .inr (.inr (.inr (.inr (va_up (fun j => (gtr x j).map (fun q => K.1 + q)) i (some (K.1 + v))))))) : va_E) = .inl (K.2.2.1 4, 6, .inr (.inr (.inr (.inr (fun j => (gtr (ptr x i (some v)) j).map (fun q => K.1 + q))))))
    refine congrArg Sum.inl (congrArg (Prod.mk _) (congrArg (Prod.mk _) (congrArg Sum.inr (congrArg Sum.inr (congrArg Sum.inr (congrArg Sum.inr (funext fun j => ?_)))))))
    by_cases hj : j = i <;> simp [va_up, gtr, ptr, hj]
  · show (if a = 35 then _ else (xf K x y).2 a) = _
    rw [if_neg h1]
    show (if a < 61 then xe K x y a (x.1 a) else if a < 88 then xe K x y a (y.1 a) else xd K a (gdy x a)) = (if a < 61 then xe K (ptr x i (some v)) y a (x.1 a) else if a < 88 then xe K (ptr x i (some v)) y a (y.1 a) else xd K a (gdy x a))
    rw [xo_tr h1, xo_tr h1]
theorem xo_lot {K : KE} {x : CS} {y : MS} {v : Int64} {q : Nat} (hq : ¬ q = 48) (f : Nat → Int32) : xe K (plot x v) y q f = xe K x y q f := by
  rcases Nat.lt_or_ge q 88 with h | h
  · rcases (by omega : q = 0 ∨ q = 1 ∨ q = 2 ∨ q = 3 ∨ q = 4 ∨ q = 5 ∨ q = 6 ∨ q = 7 ∨ q = 8 ∨ q = 9 ∨ q = 10 ∨ q = 11 ∨ q = 12 ∨ q = 13 ∨ q = 14 ∨ q = 15 ∨ q = 16 ∨ q = 17 ∨ q = 18 ∨ q = 19 ∨ q = 20 ∨ q = 21 ∨ q = 22 ∨ q = 23 ∨ q = 24 ∨ q = 25 ∨ q = 26 ∨ q = 27 ∨ q = 28 ∨ q = 29 ∨ q = 30 ∨ q = 31 ∨ q = 32 ∨ q = 33 ∨ q = 34 ∨ q = 35 ∨ q = 36 ∨ q = 37 ∨ q = 38 ∨ q = 39 ∨ q = 40 ∨ q = 41 ∨ q = 42 ∨ q = 43 ∨ q = 44 ∨ q = 45 ∨ q = 46 ∨ q = 47 ∨ q = 48 ∨ q = 49 ∨ q = 50 ∨ q = 51 ∨ q = 52 ∨ q = 53 ∨ q = 54 ∨ q = 55 ∨ q = 56 ∨ q = 57 ∨ q = 58 ∨ q = 59 ∨ q = 60 ∨ q = 61 ∨ q = 62 ∨ q = 63 ∨ q = 64 ∨ q = 65 ∨ q = 66 ∨ q = 67 ∨ q = 68 ∨ q = 69 ∨ q = 70 ∨ q = 71 ∨ q = 72 ∨ q = 73 ∨ q = 74 ∨ q = 75 ∨ q = 76 ∨ q = 77 ∨ q = 78 ∨ q = 79 ∨ q = 80 ∨ q = 81 ∨ q = 82 ∨ q = 83 ∨ q = 84 ∨ q = 85 ∨ q = 86 ∨ q = 87) with rfl | rfl | rfl | rfl | rfl | rfl | rfl | rfl | rfl | rfl | rfl | rfl | rfl | rfl | rfl | rfl | rfl | rfl | rfl | rfl | rfl | rfl | rfl | rfl | rfl | rfl | rfl | rfl | rfl | rfl | rfl | rfl | rfl | rfl | rfl | rfl | rfl | rfl | rfl | rfl | rfl | rfl | rfl | rfl | rfl | rfl | rfl | rfl | rfl | rfl | rfl | rfl | rfl | rfl | rfl | rfl | rfl | rfl | rfl | rfl | rfl | rfl | rfl | rfl | rfl | rfl | rfl | rfl | rfl | rfl | rfl | rfl | rfl | rfl | rfl | rfl | rfl | rfl | rfl | rfl | rfl | rfl | rfl | rfl | rfl | rfl | rfl | rfl
    all_goals first | rfl | exact absurd rfl hq
  · unfold xe
    rw [gD0 h, gD0 h]
theorem xw_lot {K : KE} {x : CS} {y : MS} {v : Int64} : gu (xf K x y) 48 (.inr (2, ([.ref (K.1 + 1), .ref (K.1 + 10), .ref (K.1 + 49), .ref (K.1 + 50), .ref (K.1 + 51), .ref (K.1 + 52), .int (gi x 48 6), .int (gi x 48 7), .int (gi x 48 8), .int (gi x 48 9), .int (gi x 48 10), .long (glot x)] : List Value).set 11 (.long v))) = xf K (plot x v) y := by
  refine Prod.ext rfl (funext fun a => ?_)
  by_cases h1 : a = 48
  · subst h1
    rfl
  · show (if a = 48 then _ else (xf K x y).2 a) = _
    rw [if_neg h1]
    show (if a < 61 then xe K x y a (x.1 a) else if a < 88 then xe K x y a (y.1 a) else xd K a (gdy x a)) = (if a < 61 then xe K (plot x v) y a (x.1 a) else if a < 88 then xe K (plot x v) y a (y.1 a) else xd K a (gdy x a))
    rw [xo_lot h1, xo_lot h1]
theorem xo_mlot {K : KE} {x : CS} {y : MS} {v : Int64} {q : Nat} (hq : ¬ q = 61) (f : Nat → Int32) : xe K x (pmlot y v) q f = xe K x y q f := by
  rcases Nat.lt_or_ge q 88 with h | h
  · rcases (by omega : q = 0 ∨ q = 1 ∨ q = 2 ∨ q = 3 ∨ q = 4 ∨ q = 5 ∨ q = 6 ∨ q = 7 ∨ q = 8 ∨ q = 9 ∨ q = 10 ∨ q = 11 ∨ q = 12 ∨ q = 13 ∨ q = 14 ∨ q = 15 ∨ q = 16 ∨ q = 17 ∨ q = 18 ∨ q = 19 ∨ q = 20 ∨ q = 21 ∨ q = 22 ∨ q = 23 ∨ q = 24 ∨ q = 25 ∨ q = 26 ∨ q = 27 ∨ q = 28 ∨ q = 29 ∨ q = 30 ∨ q = 31 ∨ q = 32 ∨ q = 33 ∨ q = 34 ∨ q = 35 ∨ q = 36 ∨ q = 37 ∨ q = 38 ∨ q = 39 ∨ q = 40 ∨ q = 41 ∨ q = 42 ∨ q = 43 ∨ q = 44 ∨ q = 45 ∨ q = 46 ∨ q = 47 ∨ q = 48 ∨ q = 49 ∨ q = 50 ∨ q = 51 ∨ q = 52 ∨ q = 53 ∨ q = 54 ∨ q = 55 ∨ q = 56 ∨ q = 57 ∨ q = 58 ∨ q = 59 ∨ q = 60 ∨ q = 61 ∨ q = 62 ∨ q = 63 ∨ q = 64 ∨ q = 65 ∨ q = 66 ∨ q = 67 ∨ q = 68 ∨ q = 69 ∨ q = 70 ∨ q = 71 ∨ q = 72 ∨ q = 73 ∨ q = 74 ∨ q = 75 ∨ q = 76 ∨ q = 77 ∨ q = 78 ∨ q = 79 ∨ q = 80 ∨ q = 81 ∨ q = 82 ∨ q = 83 ∨ q = 84 ∨ q = 85 ∨ q = 86 ∨ q = 87) with rfl | rfl | rfl | rfl | rfl | rfl | rfl | rfl | rfl | rfl | rfl | rfl | rfl | rfl | rfl | rfl | rfl | rfl | rfl | rfl | rfl | rfl | rfl | rfl | rfl | rfl | rfl | rfl | rfl | rfl | rfl | rfl | rfl | rfl | rfl | rfl | rfl | rfl | rfl | rfl | rfl | rfl | rfl | rfl | rfl | rfl | rfl | rfl | rfl | rfl | rfl | rfl | rfl | rfl | rfl | rfl | rfl | rfl | rfl | rfl | rfl | rfl | rfl | rfl | rfl | rfl | rfl | rfl | rfl | rfl | rfl | rfl | rfl | rfl | rfl | rfl | rfl | rfl | rfl | rfl | rfl | rfl | rfl | rfl | rfl | rfl | rfl | rfl
    all_goals first | rfl | exact absurd rfl hq
  · unfold xe
    rw [gD0 h, gD0 h]
theorem xw_mlot {K : KE} {nn : Nat} {x : CS} {y : MS} {v : Int64} : gu (xfM K nn x y) 61 (.inr (10, ([.ref (K.1 + 62), .int (gi y 61 1), .int (gi y 61 2), .int (gi y 61 3), .int (gi y 61 4), .int (gi y 61 5), .int (gi y 61 6), .ref (K.1 + 63), .ref (K.1 + 64), .ref (K.1 + 65), .int (gi y 61 10), .ref (K.1 + 66), .ref (K.1 + 67), .ref (K.1 + 68), .ref (K.1 + 69), .ref (K.1 + 70), .ref (K.1 + 71), .int (gi y 61 17), .ref (K.1 + 72), .ref (K.1 + 73), .int (gi y 61 20), .int (gi y 61 21), .int (gi y 61 22), .int (gi y 61 23), .int (gi y 61 24), .ref (K.1 + 74), .ref (K.1 + 75), .ref (K.1 + 76), .ref (K.1 + 77), .ref (K.1 + 78), .ref (K.1 + 79), .int (gi y 61 31), .int (gi y 61 32), .int (gi y 61 33), .int (gi y 61 34), .ref (K.1 + 80), .ref (K.1 + 81), .int (gi y 61 37), .int (gi y 61 38), .int (gi y 61 39), .ref (K.1 + 82), .ref (K.1 + 83), .ref (K.1 + 84), .ref (K.1 + 85), .ref (K.1 + 86), .int (gi y 61 45), .int (gi y 61 46), .int (gi y 61 47), .int (gi y 61 48), .long (gmlot y), .long (gmbb y), .ref (K.1 + 87)] : List Value).set 49 (.long v))) = xfM K nn x (pmlot y v) := by
  refine Prod.ext rfl (funext fun a => ?_)
  by_cases h1 : a = 61
  · subst h1
    rfl
  · show (if a = 61 then _ else (xfM K nn x y).2 a) = _
    rw [if_neg h1]
    show (if a < 61 then xe K x y a (x.1 a) else if a < 88 then xe K x y a (y.1 a) else xd K a (gdy x a)) = (if a < 61 then xe K x (pmlot y v) a (x.1 a) else if a < 88 then xe K x (pmlot y v) a (y.1 a) else xd K a (gdy x a))
    rw [xo_mlot h1, xo_mlot h1]
theorem xo_mbb {K : KE} {x : CS} {y : MS} {v : Int64} {q : Nat} (hq : ¬ q = 61) (f : Nat → Int32) : xe K x (pmbb y v) q f = xe K x y q f := by
  rcases Nat.lt_or_ge q 88 with h | h
  · rcases (by omega : q = 0 ∨ q = 1 ∨ q = 2 ∨ q = 3 ∨ q = 4 ∨ q = 5 ∨ q = 6 ∨ q = 7 ∨ q = 8 ∨ q = 9 ∨ q = 10 ∨ q = 11 ∨ q = 12 ∨ q = 13 ∨ q = 14 ∨ q = 15 ∨ q = 16 ∨ q = 17 ∨ q = 18 ∨ q = 19 ∨ q = 20 ∨ q = 21 ∨ q = 22 ∨ q = 23 ∨ q = 24 ∨ q = 25 ∨ q = 26 ∨ q = 27 ∨ q = 28 ∨ q = 29 ∨ q = 30 ∨ q = 31 ∨ q = 32 ∨ q = 33 ∨ q = 34 ∨ q = 35 ∨ q = 36 ∨ q = 37 ∨ q = 38 ∨ q = 39 ∨ q = 40 ∨ q = 41 ∨ q = 42 ∨ q = 43 ∨ q = 44 ∨ q = 45 ∨ q = 46 ∨ q = 47 ∨ q = 48 ∨ q = 49 ∨ q = 50 ∨ q = 51 ∨ q = 52 ∨ q = 53 ∨ q = 54 ∨ q = 55 ∨ q = 56 ∨ q = 57 ∨ q = 58 ∨ q = 59 ∨ q = 60 ∨ q = 61 ∨ q = 62 ∨ q = 63 ∨ q = 64 ∨ q = 65 ∨ q = 66 ∨ q = 67 ∨ q = 68 ∨ q = 69 ∨ q = 70 ∨ q = 71 ∨ q = 72 ∨ q = 73 ∨ q = 74 ∨ q = 75 ∨ q = 76 ∨ q = 77 ∨ q = 78 ∨ q = 79 ∨ q = 80 ∨ q = 81 ∨ q = 82 ∨ q = 83 ∨ q = 84 ∨ q = 85 ∨ q = 86 ∨ q = 87) with rfl | rfl | rfl | rfl | rfl | rfl | rfl | rfl | rfl | rfl | rfl | rfl | rfl | rfl | rfl | rfl | rfl | rfl | rfl | rfl | rfl | rfl | rfl | rfl | rfl | rfl | rfl | rfl | rfl | rfl | rfl | rfl | rfl | rfl | rfl | rfl | rfl | rfl | rfl | rfl | rfl | rfl | rfl | rfl | rfl | rfl | rfl | rfl | rfl | rfl | rfl | rfl | rfl | rfl | rfl | rfl | rfl | rfl | rfl | rfl | rfl | rfl | rfl | rfl | rfl | rfl | rfl | rfl | rfl | rfl | rfl | rfl | rfl | rfl | rfl | rfl | rfl | rfl | rfl | rfl | rfl | rfl | rfl | rfl | rfl | rfl | rfl | rfl
    all_goals first | rfl | exact absurd rfl hq
  · unfold xe
    rw [gD0 h, gD0 h]
theorem xw_mbb {K : KE} {nn : Nat} {x : CS} {y : MS} {v : Int64} : gu (xfM K nn x y) 61 (.inr (10, ([.ref (K.1 + 62), .int (gi y 61 1), .int (gi y 61 2), .int (gi y 61 3), .int (gi y 61 4), .int (gi y 61 5), .int (gi y 61 6), .ref (K.1 + 63), .ref (K.1 + 64), .ref (K.1 + 65), .int (gi y 61 10), .ref (K.1 + 66), .ref (K.1 + 67), .ref (K.1 + 68), .ref (K.1 + 69), .ref (K.1 + 70), .ref (K.1 + 71), .int (gi y 61 17), .ref (K.1 + 72), .ref (K.1 + 73), .int (gi y 61 20), .int (gi y 61 21), .int (gi y 61 22), .int (gi y 61 23), .int (gi y 61 24), .ref (K.1 + 74), .ref (K.1 + 75), .ref (K.1 + 76), .ref (K.1 + 77), .ref (K.1 + 78), .ref (K.1 + 79), .int (gi y 61 31), .int (gi y 61 32), .int (gi y 61 33), .int (gi y 61 34), .ref (K.1 + 80), .ref (K.1 + 81), .int (gi y 61 37), .int (gi y 61 38), .int (gi y 61 39), .ref (K.1 + 82), .ref (K.1 + 83), .ref (K.1 + 84), .ref (K.1 + 85), .ref (K.1 + 86), .int (gi y 61 45), .int (gi y 61 46), .int (gi y 61 47), .int (gi y 61 48), .long (gmlot y), .long (gmbb y), .ref (K.1 + 87)] : List Value).set 50 (.long v))) = xfM K nn x (pmbb y v) := by
  refine Prod.ext rfl (funext fun a => ?_)
  by_cases h1 : a = 61
  · subst h1
    rfl
  · show (if a = 61 then _ else (xfM K nn x y).2 a) = _
    rw [if_neg h1]
    show (if a < 61 then xe K x y a (x.1 a) else if a < 88 then xe K x y a (y.1 a) else xd K a (gdy x a)) = (if a < 61 then xe K x (pmbb y v) a (x.1 a) else if a < 88 then xe K x (pmbb y v) a (y.1 a) else xd K a (gdy x a))
    rw [xo_mbb h1, xo_mbb h1]
def kdy (x : CS) (q k : Nat) : Bool := decide (88 ≤ q) && decide (q < 61 + gn x) && decide ((gdy x q).1 = k)
theorem kdy_c {x : CS} {q k : Nat} (h : kdy x q k = true) : 88 ≤ q ∧ q < 61 + gn x ∧ (gdy x q).1 = k := by
  simpa [kdy, and_assoc] using h
def kTr (x : CS) (q : Nat) : Bool := kdy x q 1
def kRg (x : CS) (q : Nat) : Bool := kdy x q 2
def kFr (x : CS) (q : Nat) : Bool := kdy x q 3
def ti (x : CS) (q j : Nat) : Int32 := (gdy x q).2.1 j
def tl (x : CS) (q j : Nat) : Int64 := (gdy x q).2.2 j
theorem kd_lt {K : KE} {x : CS} {y : MS} {q k : Nat} (h : kdy x q k = true) : q < (xf K x y).1 := (kdy_c h).2.1
theorem kd_at {K : KE} {x : CS} {y : MS} {q k : Nat} (h : kdy x q k = true) : (xf K x y).2 q = xd K q (gdy x q) := by
  obtain ⟨h1, h2, h3⟩ := kdy_c h
  show (if q < 61 then _ else if q < 88 then _ else xd K q (gdy x q)) = _
  rw [if_neg (by omega), if_neg (by omega)]
theorem kTr_lt {K : KE} {x : CS} {y : MS} {q : Nat} (h : kTr x q = true) : q < (xf K x y).1 := kd_lt h
theorem kTr_at {K : KE} {x : CS} {y : MS} {q : Nat} (h : kTr x q = true) : (xf K x y).2 q = .inr (6, [.ref (K.1 + (q + 1)), .int (ti x q 1), .int (ti x q 2), .int (ti x q 3), .int (ti x q 4)]) := by
  rw [kd_at h]
  unfold xd
  rw [if_pos (kdy_c h).2.2]
  rfl
theorem kRg_lt {K : KE} {x : CS} {y : MS} {q : Nat} (h : kRg x q = true) : q < (xf K x y).1 := kd_lt h
theorem kRg_at {K : KE} {x : CS} {y : MS} {q : Nat} (h : kRg x q = true) : (xf K x y).2 q = .inl (K.2.2.1 0, 5, .inl (ti x q)) := by
  rw [kd_at h]
  unfold xd
  rw [if_neg (by rw [(kdy_c h).2.2]; decide), if_pos (kdy_c h).2.2]
  rfl
theorem kFr_lt {K : KE} {x : CS} {y : MS} {q : Nat} (h : kFr x q = true) : q < (xf K x y).1 := kd_lt h
theorem kFr_at {K : KE} {x : CS} {y : MS} {q : Nat} (h : kFr x q = true) : (xf K x y).2 q = .inr (0, [.long (tl x q 0), .long (tl x q 1)]) := by
  rw [kd_at h]
  unfold xd
  rw [if_neg (by rw [(kdy_c h).2.2]; decide), if_neg (by rw [(kdy_c h).2.2]; decide), if_pos (kdy_c h).2.2]
  rfl
def pdy (x : CS) (q : Nat) (d : Nat × (Nat → Int32) × (Nat → Int64)) : CS := (x.1, x.2.1, x.2.2.1, x.2.2.2.1, fun a => if a = q then d else x.2.2.2.2 a)
def pti (x : CS) (q j : Nat) (v : Int32) : CS := pdy x q ((gdy x q).1, upd (gdy x q).2.1 j v, (gdy x q).2.2)
def ptl (x : CS) (q j : Nat) (v : Int64) : CS := pdy x q ((gdy x q).1, (gdy x q).2.1, fun a => if a = j then v else (gdy x q).2.2 a)
def pal (x : CS) (d : Nat × (Nat → Int32) × (Nat → Int64)) : CS := (x.1, x.2.1, x.2.2.1, x.2.2.2.1 + 1, fun a => if a = 61 + x.2.2.2.1 then d else x.2.2.2.2 a)
theorem xwD {K : KE} {x : CS} {y : MS} {q : Nat} {d : Nat × (Nat → Int32) × (Nat → Int64)} {e : va_E} (hq : 88 ≤ q) (h : xd K q d = e) : gu (xf K x y) q e = xf K (pdy x q d) y := by
  refine Prod.ext rfl (funext fun a => ?_)
  show (if a = q then e else (if a < 61 then xe K x y a (x.1 a) else if a < 88 then xe K x y a (y.1 a) else xd K a (gdy x a))) = (if a < 61 then xe K x y a (x.1 a) else if a < 88 then xe K x y a (y.1 a) else xd K a (if a = q then d else gdy x a))
  by_cases h1 : a = q
  · subst h1
    rw [if_pos rfl, if_neg (by omega), if_neg (by omega), if_pos rfl, h]
  · rw [if_neg h1, if_neg h1]
theorem xwP {K : KE} {x : CS} {y : MS} (hge : 27 ≤ gn x) {d : Nat × (Nat → Int32) × (Nat → Int64)} {e : va_E} (h : xd K (61 + gn x) d = e) : gp (xf K x y) e = xf K (pal x d) y := by
  refine Prod.ext rfl (funext fun a => ?_)
  show (if a = 61 + gn x then e else (if a < 61 then xe K x y a (x.1 a) else if a < 88 then xe K x y a (y.1 a) else xd K a (gdy x a))) = (if a < 61 then xe K x y a (x.1 a) else if a < 88 then xe K x y a (y.1 a) else xd K a (if a = 61 + gn x then d else gdy x a))
  by_cases h1 : a = 61 + gn x
  · subst h1
    rw [if_pos rfl, if_neg (by omega), if_neg (by omega), if_pos rfl, h]
  · rw [if_neg h1, if_neg h1]
theorem k4_at {K : KE} {x : CS} {y : MS} {q : Nat} (h : kdy x q 4 = true) : (xf K x y).2 q = .inr (6, [.null, .int (ti x q 1), .int (ti x q 2), .int (ti x q 3), .int (ti x q 4)]) := by
  rw [kd_at h]
  unfold xd
  rw [if_neg (by rw [(kdy_c h).2.2]; decide), if_neg (by rw [(kdy_c h).2.2]; decide), if_neg (by rw [(kdy_c h).2.2]; decide), if_pos (kdy_c h).2.2]
  rfl
def p4 (x : CS) (q : Nat) : CS := pdy x q (1, (gdy x q).2.1, (gdy x q).2.2)
theorem k4_w {K : KE} {x : CS} {y : MS} {q r : Nat} (h : kdy x q 4 = true) (hr : q + 1 = r) : gu (xf K x y) q (.inr (6, ([.null, .int (ti x q 1), .int (ti x q 2), .int (ti x q 3), .int (ti x q 4)] : List Value).set 0 (.ref (K.1 + r)))) = xf K (p4 x q) y := by
  subst hr
  exact xwD (kdy_c h).1 rfl
theorem kFr_w {K : KE} {x : CS} {y : MS} {q j : Nat} {v : Int64} {e : va_E} (h : kFr x q = true) (he : xd K q (3, (gdy x q).2.1, fun a => if a = j then v else (gdy x q).2.2 a) = e) : gu (xf K x y) q e = xf K (ptl x q j v) y := by
  have h1 : ptl x q j v = pdy x q (3, (gdy x q).2.1, fun a => if a = j then v else (gdy x q).2.2 a) := by unfold ptl; rw [(kdy_c h).2.2]
  rw [h1]
  exact xwD (kdy_c h).1 he
theorem kRg_w {K : KE} {x : CS} {y : MS} {q j : Nat} {v : Int32} {e : va_E} (h : kRg x q = true) (he : xd K q (2, upd (gdy x q).2.1 j v, (gdy x q).2.2) = e) : gu (xf K x y) q e = xf K (pti x q j v) y := by
  have h1 : pti x q j v = pdy x q (2, upd (gdy x q).2.1 j v, (gdy x q).2.2) := by unfold pti; rw [(kdy_c h).2.2]
  rw [h1]
  exact xwD (kdy_c h).1 he
theorem kTr_w {K : KE} {x : CS} {y : MS} {q j : Nat} {v : Int32} {e : va_E} (h : kTr x q = true) (he : xd K q (1, upd (gdy x q).2.1 j v, (gdy x q).2.2) = e) : gu (xf K x y) q e = xf K (pti x q j v) y := by
  have h1 : pti x q j v = pdy x q (1, upd (gdy x q).2.1 j v, (gdy x q).2.2) := by unfold pti; rw [(kdy_c h).2.2]
  rw [h1]
  exact xwD (kdy_c h).1 he
theorem kb_m100 : (Int8.ofInt (-100)).toInt32 = (-100 : Int32) := by decide
theorem kb_m18 : (Int8.ofInt (-18)).toInt32 = (-18 : Int32) := by decide
theorem kb_m17 : (Int8.ofInt (-17)).toInt32 = (-17 : Int32) := by decide
theorem kb_m16 : (Int8.ofInt (-16)).toInt32 = (-16 : Int32) := by decide
theorem kb_m15 : (Int8.ofInt (-15)).toInt32 = (-15 : Int32) := by decide
theorem kb_m14 : (Int8.ofInt (-14)).toInt32 = (-14 : Int32) := by decide
theorem kb_m13 : (Int8.ofInt (-13)).toInt32 = (-13 : Int32) := by decide
theorem kb_m12 : (Int8.ofInt (-12)).toInt32 = (-12 : Int32) := by decide
theorem kb_m11 : (Int8.ofInt (-11)).toInt32 = (-11 : Int32) := by decide
theorem kb_m10 : (Int8.ofInt (-10)).toInt32 = (-10 : Int32) := by decide
theorem kb_m9 : (Int8.ofInt (-9)).toInt32 = (-9 : Int32) := by decide
theorem kb_m7 : (Int8.ofInt (-7)).toInt32 = (-7 : Int32) := by decide
theorem kb_m5 : (Int8.ofInt (-5)).toInt32 = (-5 : Int32) := by decide
theorem kb_m4 : (Int8.ofInt (-4)).toInt32 = (-4 : Int32) := by decide
theorem kb_m3 : (Int8.ofInt (-3)).toInt32 = (-3 : Int32) := by decide
theorem kb_m2 : (Int8.ofInt (-2)).toInt32 = (-2 : Int32) := by decide
theorem kb_6 : (Int8.ofInt (6)).toInt32 = (6 : Int32) := by decide
theorem kb_7 : (Int8.ofInt (7)).toInt32 = (7 : Int32) := by decide
theorem kb_8 : (Int8.ofInt (8)).toInt32 = (8 : Int32) := by decide
theorem kb_9 : (Int8.ofInt (9)).toInt32 = (9 : Int32) := by decide
theorem kb_10 : (Int8.ofInt (10)).toInt32 = (10 : Int32) := by decide
theorem kb_11 : (Int8.ofInt (11)).toInt32 = (11 : Int32) := by decide
theorem kb_12 : (Int8.ofInt (12)).toInt32 = (12 : Int32) := by decide
theorem kb_13 : (Int8.ofInt (13)).toInt32 = (13 : Int32) := by decide
theorem kb_14 : (Int8.ofInt (14)).toInt32 = (14 : Int32) := by decide
theorem kb_15 : (Int8.ofInt (15)).toInt32 = (15 : Int32) := by decide
theorem kb_16 : (Int8.ofInt (16)).toInt32 = (16 : Int32) := by decide
theorem kb_17 : (Int8.ofInt (17)).toInt32 = (17 : Int32) := by decide
theorem kb_18 : (Int8.ofInt (18)).toInt32 = (18 : Int32) := by decide
theorem kb_19 : (Int8.ofInt (19)).toInt32 = (19 : Int32) := by decide
theorem kb_20 : (Int8.ofInt (20)).toInt32 = (20 : Int32) := by decide
theorem kb_24 : (Int8.ofInt (24)).toInt32 = (24 : Int32) := by decide
theorem kb_27 : (Int8.ofInt (27)).toInt32 = (27 : Int32) := by decide
theorem kb_32 : (Int8.ofInt (32)).toInt32 = (32 : Int32) := by decide
theorem kb_36 : (Int8.ofInt (36)).toInt32 = (36 : Int32) := by decide
theorem kb_40 : (Int8.ofInt (40)).toInt32 = (40 : Int32) := by decide
theorem kb_41 : (Int8.ofInt (41)).toInt32 = (41 : Int32) := by decide
theorem kb_42 : (Int8.ofInt (42)).toInt32 = (42 : Int32) := by decide
theorem kb_43 : (Int8.ofInt (43)).toInt32 = (43 : Int32) := by decide
theorem kb_45 : (Int8.ofInt (45)).toInt32 = (45 : Int32) := by decide
theorem kb_48 : (Int8.ofInt (48)).toInt32 = (48 : Int32) := by decide
theorem kb_54 : (Int8.ofInt (54)).toInt32 = (54 : Int32) := by decide
theorem kb_57 : (Int8.ofInt (57)).toInt32 = (57 : Int32) := by decide
theorem kb_59 : (Int8.ofInt (59)).toInt32 = (59 : Int32) := by decide
theorem kb_60 : (Int8.ofInt (60)).toInt32 = (60 : Int32) := by decide
theorem kb_61 : (Int8.ofInt (61)).toInt32 = (61 : Int32) := by decide
theorem kb_97 : (Int8.ofInt (97)).toInt32 = (97 : Int32) := by decide
theorem kb_99 : (Int8.ofInt (99)).toInt32 = (99 : Int32) := by decide
theorem kb_122 : (Int8.ofInt (122)).toInt32 = (122 : Int32) := by decide
theorem ki_m1 : Int32.ofInt (-1) = (-1 : Int32) := by decide
theorem ki_0 : Int32.ofInt (0) = (0 : Int32) := by decide
theorem ki_1 : Int32.ofInt (1) = (1 : Int32) := by decide
theorem ki_2 : Int32.ofInt (2) = (2 : Int32) := by decide
theorem ki_3 : Int32.ofInt (3) = (3 : Int32) := by decide
theorem ki_4 : Int32.ofInt (4) = (4 : Int32) := by decide
theorem ki_5 : Int32.ofInt (5) = (5 : Int32) := by decide
theorem ks_160 : (Int16.ofInt (160)).toInt32 = (160 : Int32) := by decide
theorem ks_198 : (Int16.ofInt (198)).toInt32 = (198 : Int32) := by decide
theorem ks_200 : (Int16.ofInt (200)).toInt32 = (200 : Int32) := by decide
theorem ks_255 : (Int16.ofInt (255)).toInt32 = (255 : Int32) := by decide
theorem ks_300 : (Int16.ofInt (300)).toInt32 = (300 : Int32) := by decide
theorem ks_301 : (Int16.ofInt (301)).toInt32 = (301 : Int32) := by decide
theorem ks_302 : (Int16.ofInt (302)).toInt32 = (302 : Int32) := by decide
theorem ks_303 : (Int16.ofInt (303)).toInt32 = (303 : Int32) := by decide
theorem ks_304 : (Int16.ofInt (304)).toInt32 = (304 : Int32) := by decide
theorem ks_305 : (Int16.ofInt (305)).toInt32 = (305 : Int32) := by decide
theorem ks_306 : (Int16.ofInt (306)).toInt32 = (306 : Int32) := by decide
theorem ks_307 : (Int16.ofInt (307)).toInt32 = (307 : Int32) := by decide
theorem ks_308 : (Int16.ofInt (308)).toInt32 = (308 : Int32) := by decide
theorem ks_310 : (Int16.ofInt (310)).toInt32 = (310 : Int32) := by decide
theorem ks_311 : (Int16.ofInt (311)).toInt32 = (311 : Int32) := by decide
theorem ks_312 : (Int16.ofInt (312)).toInt32 = (312 : Int32) := by decide
theorem ks_313 : (Int16.ofInt (313)).toInt32 = (313 : Int32) := by decide
theorem ks_314 : (Int16.ofInt (314)).toInt32 = (314 : Int32) := by decide
theorem ks_315 : (Int16.ofInt (315)).toInt32 = (315 : Int32) := by decide
theorem ks_999 : (Int16.ofInt (999)).toInt32 = (999 : Int32) := by decide
theorem ks_1000 : (Int16.ofInt (1000)).toInt32 = (1000 : Int32) := by decide
theorem ks_9999 : (Int16.ofInt (9999)).toInt32 = (9999 : Int32) := by decide
