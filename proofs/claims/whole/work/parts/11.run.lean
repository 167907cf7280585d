/-! ===== the law's run, but for its end and the entry's words ===== -/
theorem lw_run {C : Cx} {K : KE} {b L : Nat} {xs : Nat → Int32} (F : Fx C RL cL_law 4 room_1 K) (hX : va_X b L xs C.2.2.2.2.1 C.2.2.2.2.1.heap) (hbl : b < C.2.2.2.2.1.heap.size) (hbA : ¬ gA K.1 b) (hL : L ≤ 384) (f : Nat → va_E)
    (hend : ∀ (x : CS) (y : MS) (kc ks m : Nat), PP x y → kc ≤ 600000 → ks ≤ 7302250 → V C 1917 [(0, .ref b), (1, .ref (K.1 + 0)), (2, .ref (K.1 + 61)), (3, .int (Int32.ofNat (6 * m)))] [] (xf K x y) kc ks) : V C 0 [(0, .ref b)] [] (gl 0 [] f) 0 0 := by
  obtain ⟨R, R1, hR, hR1, g0, hP⟩ := init_PP
  exact lw_begin F f y0m hR hR1 g0 (lw_loop simAll PP_ge F hX hbl hbA hL 88 4237 (by omega) (by omega) hend 64 0 rfl (x27 R) R1 88 4237 hP (by omega) (by omega))
