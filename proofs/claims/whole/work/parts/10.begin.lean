/-! ===== the law begins ===== -/
set_option maxRecDepth 100000 in
set_option maxHeartbeats 1000000 in
theorem lw_begin {C : Cx} {K : KE} {b : Nat} (F : Fx C RL cL_law 4 room_1 K) (f : Nat → va_E) {R : CS} {R1 : MS} (y : MS) (hR : f_X10_init_149 x0c = some R) (hR1 : f_X11_init_328 y0m = some R1) (g0 : gn R = 0) (hk : V C 18 [(0, .ref b), (1, .ref (K.1 + 0)), (2, .ref (K.1 + 61)), (3, .int (Int32.ofNat (6 * 0)))] [] (xf K (x27 R) R1) 88 4237) : V C 0 [(0, .ref b)] [] (gl 0 [] f) 0 0 := by
  refine v_new (ci := 9) (fs := [.null, .null, .null, .null, .null, .null, .null, .null, .null, .null, .int 0, .int 0]) (kc1 := 1) (ks1 := 12) F rfl inlX10 tyX10_ok (tc1 _ (List.mem_of_getElem? (i := 0) rfl)) (tc1 _ (List.mem_of_getElem? (i := 1) rfl)) (tc1 _ (List.mem_of_getElem? (i := 2) rfl)) (fun j hj => by rcases (show j = 0 ∨ j = 1 ∨ j = 2 ∨ j = 3 ∨ j = 4 ∨ j = 5 ∨ j = 6 ∨ j = 7 ∨ j = 8 ∨ j = 9 ∨ j = 10 ∨ j = 11 by omega) with rfl | rfl | rfl | rfl | rfl | rfl | rfl | rfl | rfl | rfl | rfl | rfl <;> rfl) (Nat.le_of_ble_eq_true rfl) (Nat.le_of_ble_eq_true rfl) rfl rfl (dq dkL_law_0 0 rfl) ?_
  refine v_eqM (gl_push (L' := xl_0 K) rfl) ?_
  refine v_dup F (dq dkL_law_0 1 rfl) rfl ?_
  refine v_callI 0 F (q := 0) (as := []) (st := [.ref (K.1 + (0))]) (kc1 := 61) (ks1 := 1945) (M' := xf K R y) (c_X10_init (l := C.2.1) y f hR) (tc1 _ (List.mem_of_getElem? (i := 7) rfl)) (tc1 _ (List.mem_of_getElem? (i := 8) rfl)) (tc1 _ (List.mem_of_getElem? (i := 2) rfl)) (tc1 _ (List.mem_of_getElem? (i := 9) rfl)) rfl (by decide) rfl ⟨rfl, rfl, (Nat.le_of_ble_eq_true rfl), (Nat.le_of_ble_eq_true rfl)⟩ ⟨(Nat.le_of_ble_eq_true rfl), (Nat.le_of_ble_eq_true rfl)⟩ rfl (Nat.le_of_ble_eq_true rfl) rfl rfl (dq dkL_law_0 2 rfl) ?_
  refine v_astore_n F (ls' := [(1, .ref (K.1 + 0)), (0, .ref b)]) (dq dkL_law_0 3 rfl) rfl (by decide) rfl ?_
  refine v_new (ci := 10) (fs := [.null, .int 0, .int 0, .int 0, .int 0, .int 0, .int 0, .null, .null, .null, .int 0, .null, .null, .null, .null, .null, .null, .int 0, .null, .null, .int 0, .int 0, .int 0, .int 0, .int 0, .null, .null, .null, .null, .null, .null, .int 0, .int 0, .int 0, .int 0, .null, .null, .int 0, .int 0, .int 0, .null, .null, .null, .null, .null, .int 0, .int 0, .int 0, .int 0, .long 0, .long 0, .null]) (kc1 := 62) (ks1 := 1997) F rfl inlX11 tyX11_ok (tc1 _ (List.mem_of_getElem? (i := 3) rfl)) (tc1 _ (List.mem_of_getElem? (i := 4) rfl)) (tc1 _ (List.mem_of_getElem? (i := 5) rfl)) (fun j hj => by rcases (show j = 0 ∨ j = 1 ∨ j = 2 ∨ j = 3 ∨ j = 4 ∨ j = 5 ∨ j = 6 ∨ j = 7 ∨ j = 8 ∨ j = 9 ∨ j = 10 ∨ j = 11 ∨ j = 12 ∨ j = 13 ∨ j = 14 ∨ j = 15 ∨ j = 16 ∨ j = 17 ∨ j = 18 ∨ j = 19 ∨ j = 20 ∨ j = 21 ∨ j = 22 ∨ j = 23 ∨ j = 24 ∨ j = 25 ∨ j = 26 ∨ j = 27 ∨ j = 28 ∨ j = 29 ∨ j = 30 ∨ j = 31 ∨ j = 32 ∨ j = 33 ∨ j = 34 ∨ j = 35 ∨ j = 36 ∨ j = 37 ∨ j = 38 ∨ j = 39 ∨ j = 40 ∨ j = 41 ∨ j = 42 ∨ j = 43 ∨ j = 44 ∨ j = 45 ∨ j = 46 ∨ j = 47 ∨ j = 48 ∨ j = 49 ∨ j = 50 ∨ j = 51 by omega) with rfl | rfl | rfl | rfl | rfl | rfl | rfl | rfl | rfl | rfl | rfl | rfl | rfl | rfl | rfl | rfl | rfl | rfl | rfl | rfl | rfl | rfl | rfl | rfl | rfl | rfl | rfl | rfl | rfl | rfl | rfl | rfl | rfl | rfl | rfl | rfl | rfl | rfl | rfl | rfl | rfl | rfl | rfl | rfl | rfl | rfl | rfl | rfl | rfl | rfl | rfl | rfl <;> rfl) (Nat.le_of_ble_eq_true rfl) (Nat.le_of_ble_eq_true rfl) rfl rfl (dq dkL_law_0 4 rfl) ?_
  have e61 : (xf K R y).1 = 61 := by
    show 61 + gn R = 61
    omega
  rw [e61]
  refine v_eqW (M' := gl 61 (yl_0 K) (xf K R y).2) (by show (xf K R y).1 + 1 = 61 + 1; rw [e61]) (fun q hq => Or.inl ?_) ?_
  · have hq : q < (xf K R y).1 + 1 := hq
    rw [e61] at hq
    show (if q = (xf K R y).1 then _ else (xf K R y).2 q) = (if q < 61 then (xf K R y).2 q else (yl_0 K).getD (q - 61) va0)
    rw [e61]
    by_cases c : q = 61
    · subst c; rfl
    · rw [if_neg c, if_pos (by omega)]
  refine v_dup F (dq dkL_law_0 5 rfl) rfl ?_
  refine v_callI 0 F (q := 61) (as := []) (st := [.ref (K.1 + (61))]) (kc1 := 88) (ks1 := 4237) (M' := xfM K 0 (x27 R) R1) (c_X11_init (l := C.2.1) R y hR1) (tc11 _ (List.mem_of_getElem? (i := 13) rfl)) (tc11 _ (List.mem_of_getElem? (i := 14) rfl)) (tc1 _ (List.mem_of_getElem? (i := 5) rfl)) (tc11 _ (List.mem_of_getElem? (i := 15) rfl)) rfl (by decide) rfl ⟨rfl, rfl, (Nat.le_of_ble_eq_true rfl), (Nat.le_of_ble_eq_true rfl)⟩ ⟨(Nat.le_of_ble_eq_true rfl), (Nat.le_of_ble_eq_true rfl)⟩ rfl (Nat.le_of_ble_eq_true rfl) rfl rfl (dq dkL_law_0 6 rfl) ?_
  refine v_astore_n F (ls' := [(2, .ref (K.1 + 61)), (1, .ref (K.1 + 0)), (0, .ref b)]) (dq dkL_law_0 7 rfl) rfl (by decide) rfl ?_
  refine v_iconst F (v := 0) (dq dkL_law_0 8 rfl) ki_0 ?_
  refine v_istore_n F (ls' := [(3, .int 0), (2, .ref (K.1 + 61)), (1, .ref (K.1 + 0)), (0, .ref b)]) (dq dkL_law_0 9 rfl) rfl (by decide) rfl ?_
  refine v_sub [3, 2, 1, 0] rfl ?_
  refine v_eqM (xfM_of (nn := 0) rfl).symm ?_
  exact hk
