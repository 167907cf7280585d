/-! the class: HollowedByFire.<init>, its rows -/
set_option maxRecDepth 100000 in
set_option maxHeartbeats 1000000 in
theorem x0_all {K : KE} {y : MS} {f : Nat → va_E} : ∀ q, q < 61 → x0P K y (gl 0 (xl_57 K) f) q :=
  (lt_sx 60
  (lt_sx 59
  (lt_sx 58
  (lt_sx 57
  (lt_sx 56
  (lt_sx 55
  (lt_sx 54
  (lt_sx 53
  (lt_sx 52
  (lt_sx 51
  (lt_sx 50
  (lt_sx 49
  (lt_sx 48
  (lt_sx 47
  (lt_sx 46
  (lt_sx 45
  (lt_sx 44
  (lt_sx 43
  (lt_sx 42
  (lt_sx 41
  (lt_sx 40
  (lt_sx 39
  (lt_sx 38
  (lt_sx 37
  (lt_sx 36
  (lt_sx 35
  (lt_sx 34
  (lt_sx 33
  (lt_sx 32
  (lt_sx 31
  (lt_sx 30
  (lt_sx 29
  (lt_sx 28
  (lt_sx 27
  (lt_sx 26
  (lt_sx 25
  (lt_sx 24
  (lt_sx 23
  (lt_sx 22
  (lt_sx 21
  (lt_sx 20
  (lt_sx 19
  (lt_sx 18
  (lt_sx 17
  (lt_sx 16
  (lt_sx 15
  (lt_sx 14
  (lt_sx 13
  (lt_sx 12
  (lt_sx 11
  (lt_sx 10
  (lt_sx 9
  (lt_sx 8
  (lt_sx 7
  (lt_sx 6
  (lt_sx 5
  (lt_sx 4
  (lt_sx 3
  (lt_sx 2
  (lt_sx 1
  (lt_sx 0 (fun q h => absurd h (Nat.not_lt_zero q)) (Or.inl rfl)) (Or.inl rfl)) (Or.inl rfl)) (Or.inl rfl)) (Or.inl rfl)) (Or.inl rfl)) (Or.inl rfl)) (Or.inl rfl)) (Or.inl rfl)) (Or.inl rfl)) (Or.inl rfl)) (Or.inl rfl)) (Or.inl rfl)) (Or.inl rfl)) (Or.inl rfl)) (Or.inl rfl)) (Or.inl rfl)) (Or.inl rfl)) (Or.inl rfl)) (Or.inl rfl)) (Or.inl rfl)) (Or.inl rfl)) (Or.inl rfl)) (Or.inl rfl)) (Or.inl rfl)) (Or.inl rfl)) (Or.inl rfl)) (Or.inl rfl)) (Or.inl rfl)) (Or.inl rfl)) (Or.inl rfl)) (Or.inl rfl)) (Or.inl rfl)) (Or.inl rfl)) (Or.inl rfl)) (Or.inl rfl)) (Or.inr ⟨K.2.2.1 3, 4, _, _, rfl, rfl, lt_sx 3
  (lt_sx 2
  (lt_sx 1
  (lt_sx 0 (fun q h => absurd h (Nat.not_lt_zero q)) rfl) rfl) rfl) rfl⟩)) (Or.inl rfl)) (Or.inl rfl)) (Or.inl rfl)) (Or.inl rfl)) (Or.inl rfl)) (Or.inl rfl)) (Or.inl rfl)) (Or.inl rfl)) (Or.inl rfl)) (Or.inl rfl)) (Or.inl rfl)) (Or.inl rfl)) (Or.inl rfl)) (Or.inl rfl)) (Or.inl rfl)) (Or.inl rfl)) (Or.inl rfl)) (Or.inl rfl)) (Or.inl rfl)) (Or.inl rfl)) (Or.inl rfl)) (Or.inl rfl)) (Or.inl rfl)) (Or.inl rfl))
set_option maxRecDepth 100000 in
set_option maxHeartbeats 1000000 in
theorem k_X8_init_0 {K : KE} {l : Launch} (g : Nat → va_E) : MC K l yX8_init cX8_init 3 none rm_X8_init 8 65 [.ref (K.1 + (1))] (gl 1 (xl_2 K) g) (gl 1 (xl_3 K) g) none := c_X8_init (1) g
set_option maxRecDepth 100000 in
set_option maxHeartbeats 1000000 in
theorem k_X3_init_1 {K : KE} {l : Launch} (g : Nat → va_E) : MC K l yX3_init cX3_init 1 none rm_X3_init 15 1150 [.ref (K.1 + (10))] (gl 10 (xl_7 K) g) (gl 10 (xl_8 K) g) none := c_X3_init (10) g
set_option maxRecDepth 100000 in
set_option maxHeartbeats 1000000 in
theorem k_X6_init_2 {K : KE} {l : Launch} (g : Nat → va_E) : MC K l yX6_init cX6_init 1 none rm_X6_init 3 323 [.ref (K.1 + (26))] (gl 26 (xl_12 K) g) (gl 26 (xl_13 K) g) none := c_X6_init (26) g
set_option maxRecDepth 100000 in
set_option maxHeartbeats 1000000 in
theorem k_X9_init_3 {K : KE} {l : Launch} (g : Nat → va_E) : MC K l yX9_init cX9_init 1 none rm_X9_init 3 30 [.ref (K.1 + (30))] (gl 30 (xl_17 K) g) (gl 30 (xl_18 K) g) none := c_X9_init (30) g
set_option maxRecDepth 100000 in
set_option maxHeartbeats 1000000 in
theorem k_X1_init_4 {K : KE} {l : Launch} (g : Nat → va_E) : MC K l yX1_init cX1_init 1 none rm_X1_init 1 6 [.ref (K.1 + (34))] (gl 34 (xl_22 K) g) (gl 34 (xl_23 K) g) none := c_X1_init (34) g
set_option maxRecDepth 100000 in
set_option maxHeartbeats 1000000 in
theorem k_X8_init_5 {K : KE} {l : Launch} (g : Nat → va_E) : MC K l yX8_init cX8_init 3 none rm_X8_init 8 65 [.ref (K.1 + (38))] (gl 38 (xl_2 K) g) (gl 38 (xl_31 K) g) none := c_X8_init (38) g
set_option maxRecDepth 100000 in
set_option maxHeartbeats 1000000 in
theorem k_X2_init_6 {K : KE} {l : Launch} (g : Nat → va_E) : MC K l yX2_init cX2_init 3 none rm_X2_init 4 33 [.ref (K.1 + (48)), .ref (K.1 + (1)), .ref (K.1 + (10))] (gl 48 (xl_37 K) g) (gl 48 (xl_38 K) g) none := c_X2_init (48) g (1) (10)
set_option maxRecDepth 100000 in
set_option maxHeartbeats 1000000 in
theorem k_X4_init_7 {K : KE} {l : Launch} (g : Nat → va_E) : MC K l yX4_init cX4_init 1 none rm_X4_init 1 40 [.ref (K.1 + (53))] (gl 53 (xl_42 K) g) (gl 53 (xl_43 K) g) none := c_X4_init (53) g
set_option maxRecDepth 100000 in
set_option maxHeartbeats 1000000 in
theorem k_X4_init_8 {K : KE} {l : Launch} (g : Nat → va_E) : MC K l yX4_init cX4_init 1 none rm_X4_init 1 40 [.ref (K.1 + (55))] (gl 55 (xl_42 K) g) (gl 55 (xl_47 K) g) none := c_X4_init (55) g
set_option maxRecDepth 100000 in
set_option maxHeartbeats 1000000 in
theorem k_X4_init_9 {K : KE} {l : Launch} (g : Nat → va_E) : MC K l yX4_init cX4_init 1 none rm_X4_init 1 40 [.ref (K.1 + (57))] (gl 57 (xl_42 K) g) (gl 57 (xl_51 K) g) none := c_X4_init (57) g
set_option maxRecDepth 100000 in
set_option maxHeartbeats 1000000 in
theorem k_X4_init_10 {K : KE} {l : Launch} (g : Nat → va_E) : MC K l yX4_init cX4_init 1 none rm_X4_init 1 40 [.ref (K.1 + (59))] (gl 59 (xl_42 K) g) (gl 59 (xl_55 K) g) none := c_X4_init (59) g
set_option maxRecDepth 100000 in
set_option maxHeartbeats 1000000 in
theorem s_X10_init_0 {C : Cx} {K : KE} (f : Nat → va_E) (F : Fx C RX10 cX10_init 2 rm_X10_init K) (hnm : C.2.2.2.2.2.2.2.2.1.name = "<init>") (hk : V C 30 [(0, .ref (K.1 + (0)))] [.ref (K.1 + (26)), .ref (K.1 + (0))] (gl 0 (xl_11 K) f) 26 1233) : V C 0 [(0, .ref (K.1 + (0)))] [] (gl 0 (xl_0 K) f) 0 0 := by
  refine v_aload_n F (dq dkX10_init_0 0 rfl) rfl 0 rfl ?_
  refine v_objinit F (tc1 _ (List.mem_of_getElem? (i := 10) rfl)) (tc1 _ (List.mem_of_getElem? (i := 11) rfl)) (tc1 _ (List.mem_of_getElem? (i := 12) rfl)) (Nat.le_of_ble_eq_true rfl) (Nat.le_of_ble_eq_true rfl) (dq dkX10_init_0 1 rfl) ?_
  refine v_aload_n F (dq dkX10_init_0 2 rfl) rfl 0 rfl ?_
  refine v_new (ci := 7) (fs := [.null, .null, .int 0]) (kc1 := 1) (ks1 := 3) F rfl inlX8 tyX8_ok (tc1 _ (List.mem_of_getElem? (i := 13) rfl)) (tc1 _ (List.mem_of_getElem? (i := 14) rfl)) (tc1 _ (List.mem_of_getElem? (i := 15) rfl)) (fun j hj => by rcases (show j = 0 ∨ j = 1 ∨ j = 2 by omega) with rfl | rfl | rfl <;> rfl) (Nat.le_of_ble_eq_true rfl) (Nat.le_of_ble_eq_true rfl) rfl rfl (dq dkX10_init_0 3 rfl) ?_
  refine v_eqM (gl_push (L' := (xl_1 K)) rfl) ?_
  refine v_dup F (dq dkX10_init_0 4 rfl) rfl ?_
  -- X8_init
  refine v_eqM (gl_split (L1 := (xl_0 K)) (L2 := (xl_2 K)) (b2 := 1) rfl rfl) ?_
  refine v_callI 0 F (q := 1) (as := []) (st := [.ref (K.1 + (1)), .ref (K.1 + (0))]) (kc1 := 9) (ks1 := 68) (M' := gl 1 (xl_3 K) (gl 0 (xl_0 K) f).2) (k_X8_init_0 (l := C.2.1) (gl 0 (xl_0 K) f).2) (tc2 _ (List.mem_of_getElem? (i := 23) rfl)) (tc3 _ (List.mem_of_getElem? (i := 0) rfl)) (tc1 _ (List.mem_of_getElem? (i := 15) rfl)) (tc3 _ (List.mem_of_getElem? (i := 1) rfl)) rfl (by decide) rfl ⟨rfl, rfl, Nat.le_of_ble_eq_true rfl, Nat.le_of_ble_eq_true rfl⟩ ⟨Nat.le_of_ble_eq_true rfl, Nat.le_of_ble_eq_true rfl⟩ rfl (Nat.le_of_ble_eq_true rfl) rfl rfl (dq dkX10_init_0 5 rfl) ?_
  refine v_eqM (gl_split (L := (xl_4 K)) (L1 := (xl_0 K)) (L2 := (xl_3 K)) (b2 := 1) rfl rfl).symm ?_
  refine v_putF F hnm (0) (gl_lt 0 (Nat.le_of_ble_eq_true rfl)) (gl_at 0 rfl) rfl inlX10 tyX10_ok nmX10 0 (by decide) (tc1 _ (List.mem_of_getElem? (i := 16) rfl)) rfl rfl rfl (tyX10_ok 0 (by decide)) rfl rfl (Nat.le_of_ble_eq_true rfl) (dq dkX10_init_0 6 rfl) ?_
  refine v_eqM (gl_set (L' := (xl_5 K)) 0 (Nat.le_of_ble_eq_true rfl) rfl) ?_
  refine v_aload_n F (dq dkX10_init_0 7 rfl) rfl 0 rfl ?_
  refine v_new (ci := 3) (fs := [.null, .null, .null, .int 0]) (kc1 := 10) (ks1 := 72) F rfl inlX3 tyX3_ok (tc1 _ (List.mem_of_getElem? (i := 17) rfl)) (tc1 _ (List.mem_of_getElem? (i := 18) rfl)) (tc1 _ (List.mem_of_getElem? (i := 19) rfl)) (fun j hj => by rcases (show j = 0 ∨ j = 1 ∨ j = 2 ∨ j = 3 by omega) with rfl | rfl | rfl | rfl <;> rfl) (Nat.le_of_ble_eq_true rfl) (Nat.le_of_ble_eq_true rfl) rfl rfl (dq dkX10_init_0 8 rfl) ?_
  refine v_eqM (gl_push (L' := (xl_6 K)) rfl) ?_
  refine v_dup F (dq dkX10_init_0 9 rfl) rfl ?_
  -- X3_init
  refine v_eqM (gl_split (L1 := (xl_5 K)) (L2 := (xl_7 K)) (b2 := 10) rfl rfl) ?_
  refine v_callIN 0 F (q := 10) (as := []) (st := [.ref (K.1 + (10)), .ref (K.1 + (0))]) (kc1 := 25) (ks1 := 1222) (M' := gl 10 (xl_8 K) (gl 0 (xl_5 K) f).2) (k_X3_init_1 (l := C.2.1) (gl 0 (xl_5 K) f).2) (List.mem_of_getElem? (i := 0) rfl) (tc3 _ (List.mem_of_getElem? (i := 9) rfl)) (tc1 _ (List.mem_of_getElem? (i := 19) rfl)) (tc3 _ (List.mem_of_getElem? (i := 10) rfl)) rfl (by decide) rfl ⟨rfl, rfl, Nat.le_of_ble_eq_true rfl, Nat.le_of_ble_eq_true rfl⟩ ⟨Nat.le_of_ble_eq_true rfl, Nat.le_of_ble_eq_true rfl⟩ rfl (Nat.le_of_ble_eq_true rfl) rfl rfl (dq dkX10_init_0 10 rfl) ?_
  refine v_eqM (gl_split (L := (xl_9 K)) (L1 := (xl_5 K)) (L2 := (xl_8 K)) (b2 := 10) rfl rfl).symm ?_
  refine v_putF F hnm (0) (gl_lt 0 (Nat.le_of_ble_eq_true rfl)) (gl_at 0 rfl) rfl inlX10 tyX10_ok nmX10 1 (by decide) (tc1 _ (List.mem_of_getElem? (i := 20) rfl)) rfl rfl rfl (tyX10_ok 1 (by decide)) rfl rfl (Nat.le_of_ble_eq_true rfl) (dq dkX10_init_0 11 rfl) ?_
  refine v_eqM (gl_set (L' := (xl_10 K)) 0 (Nat.le_of_ble_eq_true rfl) rfl) ?_
  refine v_aload_n F (dq dkX10_init_0 12 rfl) rfl 0 rfl ?_
  refine v_new (ci := 5) (fs := [.null, .int 0, .null, .null, .int 0, .int 0, .int 0, .int 0, .int 0, .int 0, .int 0]) (kc1 := 26) (ks1 := 1233) F rfl inlX6 tyX6_ok (tc1 _ (List.mem_of_getElem? (i := 21) rfl)) (tc1 _ (List.mem_of_getElem? (i := 22) rfl)) (tc1 _ (List.mem_of_getElem? (i := 23) rfl)) (fun j hj => by rcases (show j = 0 ∨ j = 1 ∨ j = 2 ∨ j = 3 ∨ j = 4 ∨ j = 5 ∨ j = 6 ∨ j = 7 ∨ j = 8 ∨ j = 9 ∨ j = 10 by omega) with rfl | rfl | rfl | rfl | rfl | rfl | rfl | rfl | rfl | rfl | rfl <;> rfl) (Nat.le_of_ble_eq_true rfl) (Nat.le_of_ble_eq_true rfl) rfl rfl (dq dkX10_init_0 13 rfl) ?_
  refine v_eqM (gl_push (L' := (xl_11 K)) rfl) ?_
  exact hk
set_option maxRecDepth 100000 in
set_option maxHeartbeats 1000000 in
theorem s_X10_init_1 {C : Cx} {K : KE} (f : Nat → va_E) (F : Fx C RX10 cX10_init 2 rm_X10_init K) (hnm : C.2.2.2.2.2.2.2.2.1.name = "<init>") (hk : V C 56 [(0, .ref (K.1 + (0)))] [.ref (K.1 + (34)), .ref (K.1 + (0))] (gl 0 (xl_24 K) f) 35 1598) : V C 30 [(0, .ref (K.1 + (0)))] [.ref (K.1 + (26)), .ref (K.1 + (0))] (gl 0 (xl_11 K) f) 26 1233 := by
  refine v_dup F (dq dkX10_init_0 14 rfl) rfl ?_
  -- X6_init
  refine v_eqM (gl_split (L1 := (xl_10 K)) (L2 := (xl_12 K)) (b2 := 26) rfl rfl) ?_
  refine v_callIN 0 F (q := 26) (as := []) (st := [.ref (K.1 + (26)), .ref (K.1 + (0))]) (kc1 := 29) (ks1 := 1556) (M' := gl 26 (xl_13 K) (gl 0 (xl_10 K) f).2) (k_X6_init_2 (l := C.2.1) (gl 0 (xl_10 K) f).2) (List.mem_of_getElem? (i := 1) rfl) (tc3 _ (List.mem_of_getElem? (i := 17) rfl)) (tc1 _ (List.mem_of_getElem? (i := 23) rfl)) (tc3 _ (List.mem_of_getElem? (i := 18) rfl)) rfl (by decide) rfl ⟨rfl, rfl, Nat.le_of_ble_eq_true rfl, Nat.le_of_ble_eq_true rfl⟩ ⟨Nat.le_of_ble_eq_true rfl, Nat.le_of_ble_eq_true rfl⟩ rfl (Nat.le_of_ble_eq_true rfl) rfl rfl (dq dkX10_init_0 15 rfl) ?_
  refine v_eqM (gl_split (L := (xl_14 K)) (L1 := (xl_10 K)) (L2 := (xl_13 K)) (b2 := 26) rfl rfl).symm ?_
  refine v_putF F hnm (0) (gl_lt 0 (Nat.le_of_ble_eq_true rfl)) (gl_at 0 rfl) rfl inlX10 tyX10_ok nmX10 2 (by decide) (tc2 _ (List.mem_of_getElem? (i := 0) rfl)) rfl rfl rfl (tyX10_ok 2 (by decide)) rfl rfl (Nat.le_of_ble_eq_true rfl) (dq dkX10_init_0 16 rfl) ?_
  refine v_eqM (gl_set (L' := (xl_15 K)) 0 (Nat.le_of_ble_eq_true rfl) rfl) ?_
  refine v_aload_n F (dq dkX10_init_0 17 rfl) rfl 0 rfl ?_
  refine v_new (ci := 8) (fs := [.null, .null, .null, .int 0]) (kc1 := 30) (ks1 := 1560) F rfl inlX9 tyX9_ok (tc2 _ (List.mem_of_getElem? (i := 1) rfl)) (tc2 _ (List.mem_of_getElem? (i := 2) rfl)) (tc2 _ (List.mem_of_getElem? (i := 3) rfl)) (fun j hj => by rcases (show j = 0 ∨ j = 1 ∨ j = 2 ∨ j = 3 by omega) with rfl | rfl | rfl | rfl <;> rfl) (Nat.le_of_ble_eq_true rfl) (Nat.le_of_ble_eq_true rfl) rfl rfl (dq dkX10_init_0 18 rfl) ?_
  refine v_eqM (gl_push (L' := (xl_16 K)) rfl) ?_
  refine v_dup F (dq dkX10_init_0 19 rfl) rfl ?_
  -- X9_init
  refine v_eqM (gl_split (L1 := (xl_15 K)) (L2 := (xl_17 K)) (b2 := 30) rfl rfl) ?_
  refine v_callIN 0 F (q := 30) (as := []) (st := [.ref (K.1 + (30)), .ref (K.1 + (0))]) (kc1 := 33) (ks1 := 1590) (M' := gl 30 (xl_18 K) (gl 0 (xl_15 K) f).2) (k_X9_init_3 (l := C.2.1) (gl 0 (xl_15 K) f).2) (List.mem_of_getElem? (i := 2) rfl) (tc4 _ (List.mem_of_getElem? (i := 7) rfl)) (tc2 _ (List.mem_of_getElem? (i := 3) rfl)) (tc4 _ (List.mem_of_getElem? (i := 8) rfl)) rfl (by decide) rfl ⟨rfl, rfl, Nat.le_of_ble_eq_true rfl, Nat.le_of_ble_eq_true rfl⟩ ⟨Nat.le_of_ble_eq_true rfl, Nat.le_of_ble_eq_true rfl⟩ rfl (Nat.le_of_ble_eq_true rfl) rfl rfl (dq dkX10_init_0 20 rfl) ?_
  refine v_eqM (gl_split (L := (xl_19 K)) (L1 := (xl_15 K)) (L2 := (xl_18 K)) (b2 := 30) rfl rfl).symm ?_
  refine v_putF F hnm (0) (gl_lt 0 (Nat.le_of_ble_eq_true rfl)) (gl_at 0 rfl) rfl inlX10 tyX10_ok nmX10 3 (by decide) (tc2 _ (List.mem_of_getElem? (i := 4) rfl)) rfl rfl rfl (tyX10_ok 3 (by decide)) rfl rfl (Nat.le_of_ble_eq_true rfl) (dq dkX10_init_0 21 rfl) ?_
  refine v_eqM (gl_set (L' := (xl_20 K)) 0 (Nat.le_of_ble_eq_true rfl) rfl) ?_
  refine v_aload_n F (dq dkX10_init_0 22 rfl) rfl 0 rfl ?_
  refine v_new (ci := 1) (fs := [.null, .int 0]) (kc1 := 34) (ks1 := 1592) F rfl inlX1 tyX1_ok (tc2 _ (List.mem_of_getElem? (i := 5) rfl)) (tc2 _ (List.mem_of_getElem? (i := 6) rfl)) (tc2 _ (List.mem_of_getElem? (i := 7) rfl)) (fun j hj => by rcases (show j = 0 ∨ j = 1 by omega) with rfl | rfl <;> rfl) (Nat.le_of_ble_eq_true rfl) (Nat.le_of_ble_eq_true rfl) rfl rfl (dq dkX10_init_0 23 rfl) ?_
  refine v_eqM (gl_push (L' := (xl_21 K)) rfl) ?_
  refine v_dup F (dq dkX10_init_0 24 rfl) rfl ?_
  -- X1_init
  refine v_eqM (gl_split (L1 := (xl_20 K)) (L2 := (xl_22 K)) (b2 := 34) rfl rfl) ?_
  refine v_callIN 0 F (q := 34) (as := []) (st := [.ref (K.1 + (34)), .ref (K.1 + (0))]) (kc1 := 35) (ks1 := 1598) (M' := gl 34 (xl_23 K) (gl 0 (xl_20 K) f).2) (k_X1_init_4 (l := C.2.1) (gl 0 (xl_20 K) f).2) (List.mem_of_getElem? (i := 3) rfl) (tc4 _ (List.mem_of_getElem? (i := 14) rfl)) (tc2 _ (List.mem_of_getElem? (i := 7) rfl)) (tc4 _ (List.mem_of_getElem? (i := 15) rfl)) rfl (by decide) rfl ⟨rfl, rfl, Nat.le_of_ble_eq_true rfl, Nat.le_of_ble_eq_true rfl⟩ ⟨Nat.le_of_ble_eq_true rfl, Nat.le_of_ble_eq_true rfl⟩ rfl (Nat.le_of_ble_eq_true rfl) rfl rfl (dq dkX10_init_0 25 rfl) ?_
  refine v_eqM (gl_split (L := (xl_24 K)) (L1 := (xl_20 K)) (L2 := (xl_23 K)) (b2 := 34) rfl rfl).symm ?_
  exact hk
set_option maxRecDepth 100000 in
set_option maxHeartbeats 1000000 in
theorem s_X10_init_2 {C : Cx} {K : KE} (f : Nat → va_E) (F : Fx C RX10 cX10_init 2 rm_X10_init K) (hnm : C.2.2.2.2.2.2.2.2.1.name = "<init>") (hk : V C 86 [(0, .ref (K.1 + (0)))] [] (gl 0 (xl_33 K) f) 46 1710) : V C 56 [(0, .ref (K.1 + (0)))] [.ref (K.1 + (34)), .ref (K.1 + (0))] (gl 0 (xl_24 K) f) 35 1598 := by
  refine v_putF F hnm (0) (gl_lt 0 (Nat.le_of_ble_eq_true rfl)) (gl_at 0 rfl) rfl inlX10 tyX10_ok nmX10 4 (by decide) (tc2 _ (List.mem_of_getElem? (i := 8) rfl)) rfl rfl rfl (tyX10_ok 4 (by decide)) rfl rfl (Nat.le_of_ble_eq_true rfl) (dq dkX10_init_0 26 rfl) ?_
  refine v_eqM (gl_set (L' := (xl_25 K)) 0 (Nat.le_of_ble_eq_true rfl) rfl) ?_
  refine v_aload_n F (dq dkX10_init_0 27 rfl) rfl 0 rfl ?_
  refine v_iconst F (v := 4) (dq dkX10_init_0 28 rfl) (by decide) ?_
  refine v_anew3 (kc1 := 36) (ks1 := 1602) F (tc2 _ (List.mem_of_getElem? (i := 9) rfl)) (by decide) (n' := 4) rfl (by decide) (Nat.le_of_ble_eq_true rfl) (Nat.le_of_ble_eq_true rfl) rfl rfl (dq dkX10_init_0 29 rfl) ?_
  refine v_eqM (gl_push (L' := (xl_26 K)) rfl) ?_
  refine v_putF F hnm (0) (gl_lt 0 (Nat.le_of_ble_eq_true rfl)) (gl_at 0 rfl) rfl inlX10 tyX10_ok nmX10 5 (by decide) (tc2 _ (List.mem_of_getElem? (i := 10) rfl)) rfl rfl rfl (tyX10_ok 5 (by decide)) rfl rfl (Nat.le_of_ble_eq_true rfl) (dq dkX10_init_0 30 rfl) ?_
  refine v_eqM (gl_set (L' := (xl_27 K)) 0 (Nat.le_of_ble_eq_true rfl) rfl) ?_
  refine v_aload_n F (dq dkX10_init_0 31 rfl) rfl 0 rfl ?_
  refine v_bipush F (v := 40) (dq dkX10_init_0 32 rfl) (by decide) ?_
  refine v_newai (kc1 := 37) (ks1 := 1642) F (tc2 _ (List.mem_of_getElem? (i := 11) rfl)) (by decide) (n' := 40) rfl (by decide) (Nat.le_of_ble_eq_true rfl) (Nat.le_of_ble_eq_true rfl) rfl rfl (dq dkX10_init_0 33 rfl) ?_
  refine v_eqM (gl_push (L' := (xl_28 K)) rfl) ?_
  refine v_putF F hnm (0) (gl_lt 0 (Nat.le_of_ble_eq_true rfl)) (gl_at 0 rfl) rfl inlX10 tyX10_ok nmX10 6 (by decide) (tc2 _ (List.mem_of_getElem? (i := 12) rfl)) rfl rfl rfl (tyX10_ok 6 (by decide)) rfl rfl (Nat.le_of_ble_eq_true rfl) (dq dkX10_init_0 34 rfl) ?_
  refine v_eqM (gl_set (L' := (xl_29 K)) 0 (Nat.le_of_ble_eq_true rfl) rfl) ?_
  refine v_aload_n F (dq dkX10_init_0 35 rfl) rfl 0 rfl ?_
  refine v_new (ci := 7) (fs := [.null, .null, .int 0]) (kc1 := 38) (ks1 := 1645) F rfl inlX8 tyX8_ok (tc1 _ (List.mem_of_getElem? (i := 13) rfl)) (tc1 _ (List.mem_of_getElem? (i := 14) rfl)) (tc1 _ (List.mem_of_getElem? (i := 15) rfl)) (fun j hj => by rcases (show j = 0 ∨ j = 1 ∨ j = 2 by omega) with rfl | rfl | rfl <;> rfl) (Nat.le_of_ble_eq_true rfl) (Nat.le_of_ble_eq_true rfl) rfl rfl (dq dkX10_init_0 36 rfl) ?_
  refine v_eqM (gl_push (L' := (xl_30 K)) rfl) ?_
  refine v_dup F (dq dkX10_init_0 37 rfl) rfl ?_
  -- X8_init
  refine v_eqM (gl_split (L1 := (xl_29 K)) (L2 := (xl_2 K)) (b2 := 38) rfl rfl) ?_
  refine v_callI 0 F (q := 38) (as := []) (st := [.ref (K.1 + (38)), .ref (K.1 + (0))]) (kc1 := 46) (ks1 := 1710) (M' := gl 38 (xl_31 K) (gl 0 (xl_29 K) f).2) (k_X8_init_5 (l := C.2.1) (gl 0 (xl_29 K) f).2) (tc2 _ (List.mem_of_getElem? (i := 23) rfl)) (tc3 _ (List.mem_of_getElem? (i := 0) rfl)) (tc1 _ (List.mem_of_getElem? (i := 15) rfl)) (tc3 _ (List.mem_of_getElem? (i := 1) rfl)) rfl (by decide) rfl ⟨rfl, rfl, Nat.le_of_ble_eq_true rfl, Nat.le_of_ble_eq_true rfl⟩ ⟨Nat.le_of_ble_eq_true rfl, Nat.le_of_ble_eq_true rfl⟩ rfl (Nat.le_of_ble_eq_true rfl) rfl rfl (dq dkX10_init_0 38 rfl) ?_
  refine v_eqM (gl_split (L := (xl_32 K)) (L1 := (xl_29 K)) (L2 := (xl_31 K)) (b2 := 38) rfl rfl).symm ?_
  refine v_putF F hnm (0) (gl_lt 0 (Nat.le_of_ble_eq_true rfl)) (gl_at 0 rfl) rfl inlX10 tyX10_ok nmX10 8 (by decide) (tc2 _ (List.mem_of_getElem? (i := 13) rfl)) rfl rfl rfl (tyX10_ok 8 (by decide)) rfl rfl (Nat.le_of_ble_eq_true rfl) (dq dkX10_init_0 39 rfl) ?_
  refine v_eqM (gl_set (L' := (xl_33 K)) 0 (Nat.le_of_ble_eq_true rfl) rfl) ?_
  exact hk
set_option maxRecDepth 100000 in
set_option maxHeartbeats 1000000 in
theorem s_X10_init_3 {C : Cx} {K : KE} (f : Nat → va_E) (F : Fx C RX10 cX10_init 2 rm_X10_init K) (hnm : C.2.2.2.2.2.2.2.2.1.name = "<init>") (hk : V C 120 [(0, .ref (K.1 + (0)))] [.ref (K.1 + (48)), .ref (K.1 + (0))] (gl 0 (xl_39 K) f) 52 1761) : V C 86 [(0, .ref (K.1 + (0)))] [] (gl 0 (xl_33 K) f) 46 1710 := by
  refine v_aload_n F (dq dkX10_init_1 0 rfl) rfl 0 rfl ?_
  refine v_bipush F (v := 6) (dq dkX10_init_1 1 rfl) (by decide) ?_
  refine v_newai (kc1 := 47) (ks1 := 1716) F (tc2 _ (List.mem_of_getElem? (i := 11) rfl)) (by decide) (n' := 6) rfl (by decide) (Nat.le_of_ble_eq_true rfl) (Nat.le_of_ble_eq_true rfl) rfl rfl (dq dkX10_init_1 2 rfl) ?_
  refine v_eqM (gl_push (L' := (xl_34 K)) rfl) ?_
  refine v_putF F hnm (0) (gl_lt 0 (Nat.le_of_ble_eq_true rfl)) (gl_at 0 rfl) rfl inlX10 tyX10_ok nmX10 9 (by decide) (tc2 _ (List.mem_of_getElem? (i := 14) rfl)) rfl rfl rfl (tyX10_ok 9 (by decide)) rfl rfl (Nat.le_of_ble_eq_true rfl) (dq dkX10_init_1 3 rfl) ?_
  refine v_eqM (gl_set (L' := (xl_35 K)) 0 (Nat.le_of_ble_eq_true rfl) rfl) ?_
  refine v_aload_n F (dq dkX10_init_1 4 rfl) rfl 0 rfl ?_
  refine v_iconst F (v := 0) (dq dkX10_init_1 5 rfl) (by decide) ?_
  refine v_put F (0) (gl_lt 0 (Nat.le_of_ble_eq_true rfl)) (gl_at 0 rfl) rfl inlX10 tyX10_ok nmX10 10 (by decide) (tc2 _ (List.mem_of_getElem? (i := 15) rfl)) rfl rfl (tyX10_ok 10 (by decide)) rfl rfl (Nat.le_of_ble_eq_true rfl) (dq dkX10_init_1 6 rfl) ?_
  refine v_eqM (gl_set (L' := (xl_35 K)) 0 (Nat.le_of_ble_eq_true rfl) rfl) ?_
  refine v_aload_n F (dq dkX10_init_1 7 rfl) rfl 0 rfl ?_
  refine v_iconst F (v := 0) (dq dkX10_init_1 8 rfl) (by decide) ?_
  refine v_put F (0) (gl_lt 0 (Nat.le_of_ble_eq_true rfl)) (gl_at 0 rfl) rfl inlX10 tyX10_ok nmX10 11 (by decide) (tc2 _ (List.mem_of_getElem? (i := 16) rfl)) rfl rfl (tyX10_ok 11 (by decide)) rfl rfl (Nat.le_of_ble_eq_true rfl) (dq dkX10_init_1 9 rfl) ?_
  refine v_eqM (gl_set (L' := (xl_35 K)) 0 (Nat.le_of_ble_eq_true rfl) rfl) ?_
  refine v_aload_n F (dq dkX10_init_1 10 rfl) rfl 0 rfl ?_
  refine v_new (ci := 2) (fs := [.null, .null, .null, .null, .null, .null, .int 0, .int 0, .int 0, .int 0, .int 0, .long 0]) (kc1 := 48) (ks1 := 1728) F rfl inlX2 tyX2_ok (tc2 _ (List.mem_of_getElem? (i := 17) rfl)) (tc2 _ (List.mem_of_getElem? (i := 18) rfl)) (tc2 _ (List.mem_of_getElem? (i := 19) rfl)) (fun j hj => by rcases (show j = 0 ∨ j = 1 ∨ j = 2 ∨ j = 3 ∨ j = 4 ∨ j = 5 ∨ j = 6 ∨ j = 7 ∨ j = 8 ∨ j = 9 ∨ j = 10 ∨ j = 11 by omega) with rfl | rfl | rfl | rfl | rfl | rfl | rfl | rfl | rfl | rfl | rfl | rfl <;> rfl) (Nat.le_of_ble_eq_true rfl) (Nat.le_of_ble_eq_true rfl) rfl rfl (dq dkX10_init_1 11 rfl) ?_
  refine v_eqM (gl_push (L' := (xl_36 K)) rfl) ?_
  refine v_dup F (dq dkX10_init_1 12 rfl) rfl ?_
  refine v_aload_n F (dq dkX10_init_1 13 rfl) rfl 0 rfl ?_
  refine v_get F (0) (gl_lt 0 (Nat.le_of_ble_eq_true rfl)) (gl_at 0 rfl) rfl inlX10 0 (by decide) (tc1 _ (List.mem_of_getElem? (i := 16) rfl)) rfl rfl (dq dkX10_init_1 14 rfl) ?_
  refine v_aload_n F (dq dkX10_init_1 15 rfl) rfl 0 rfl ?_
  refine v_get F (0) (gl_lt 0 (Nat.le_of_ble_eq_true rfl)) (gl_at 0 rfl) rfl inlX10 1 (by decide) (tc1 _ (List.mem_of_getElem? (i := 20) rfl)) rfl rfl (dq dkX10_init_1 16 rfl) ?_
  -- X2_init
  refine v_eqM (gl_split (L1 := (xl_35 K)) (L2 := (xl_37 K)) (b2 := 48) rfl rfl) ?_
  refine v_callI 2 F (q := 48) (as := [.ref (K.1 + (1)), .ref (K.1 + (10))]) (st := [.ref (K.1 + (48)), .ref (K.1 + (0))]) (kc1 := 52) (ks1 := 1761) (M' := gl 48 (xl_38 K) (gl 0 (xl_35 K) f).2) (k_X2_init_6 (l := C.2.1) (gl 0 (xl_35 K) f).2) (tc4 _ (List.mem_of_getElem? (i := 20) rfl)) (tc4 _ (List.mem_of_getElem? (i := 21) rfl)) (tc2 _ (List.mem_of_getElem? (i := 19) rfl)) (tc4 _ (List.mem_of_getElem? (i := 22) rfl)) rfl (by decide) rfl ⟨rfl, rfl, Nat.le_of_ble_eq_true rfl, Nat.le_of_ble_eq_true rfl⟩ ⟨Nat.le_of_ble_eq_true rfl, Nat.le_of_ble_eq_true rfl⟩ rfl (Nat.le_of_ble_eq_true rfl) rfl rfl (dq dkX10_init_1 17 rfl) ?_
  refine v_eqM (gl_split (L := (xl_39 K)) (L1 := (xl_35 K)) (L2 := (xl_38 K)) (b2 := 48) rfl rfl).symm ?_
  exact hk
set_option maxRecDepth 100000 in
set_option maxHeartbeats 1000000 in
theorem s_X10_init_4 {C : Cx} {K : KE} (f : Nat → va_E) (F : Fx C RX10 cX10_init 2 rm_X10_init K) (hnm : C.2.2.2.2.2.2.2.2.1.name = "<init>") (hk : V C 130 [(1, .int 1), (0, .ref (K.1 + (0)))] [] (gl 0 (xl_45 K) f) 54 1804) : V C 120 [(0, .ref (K.1 + (0)))] [.ref (K.1 + (48)), .ref (K.1 + (0))] (gl 0 (xl_39 K) f) 52 1761 := by
  refine v_putF F hnm (0) (gl_lt 0 (Nat.le_of_ble_eq_true rfl)) (gl_at 0 rfl) rfl inlX10 tyX10_ok nmX10 7 (by decide) (tc2 _ (List.mem_of_getElem? (i := 20) rfl)) rfl rfl rfl (tyX10_ok 7 (by decide)) rfl rfl (Nat.le_of_ble_eq_true rfl) (dq dkX10_init_1 18 rfl) ?_
  refine v_eqM (gl_set (L' := (xl_40 K)) 0 (Nat.le_of_ble_eq_true rfl) rfl) ?_
  refine v_iconst F (v := 0) (dq dkX10_init_1 19 rfl) (by decide) ?_
  refine v_istore_n F (ls' := [(1, .int 0), (0, .ref (K.1 + (0)))]) (dq dkX10_init_1 20 rfl) rfl (by decide) rfl ?_
  refine v_iload_n F (dq dkX10_init_1 21 rfl) rfl 0 rfl ?_
  refine v_iconst F (v := 4) (dq dkX10_init_1 22 rfl) (by decide) ?_
  refine v_icmp_ge F (tgt := 149) (dq dkX10_init_1 23 rfl) (by decide) (fun c => absurd c (by decide)) (fun _ => ?_)
  refine v_aload_n F (dq dkX10_init_1 24 rfl) rfl 1 rfl ?_
  refine v_get F (0) (gl_lt 0 (Nat.le_of_ble_eq_true rfl)) (gl_at 0 rfl) rfl inlX10 5 (by decide) (tc2 _ (List.mem_of_getElem? (i := 10) rfl)) rfl rfl (dq dkX10_init_1 25 rfl) ?_
  refine v_iload_n F (dq dkX10_init_1 26 rfl) rfl 0 rfl ?_
  refine v_new (ci := 4) (fs := [.null, .int 0, .int 0]) (kc1 := 53) (ks1 := 1764) F rfl inlX4 tyX4_ok (tc2 _ (List.mem_of_getElem? (i := 9) rfl)) (tc2 _ (List.mem_of_getElem? (i := 21) rfl)) (tc2 _ (List.mem_of_getElem? (i := 22) rfl)) (fun j hj => by rcases (show j = 0 ∨ j = 1 ∨ j = 2 by omega) with rfl | rfl | rfl <;> rfl) (Nat.le_of_ble_eq_true rfl) (Nat.le_of_ble_eq_true rfl) rfl rfl (dq dkX10_init_1 27 rfl) ?_
  refine v_eqM (gl_push (L' := (xl_41 K)) rfl) ?_
  refine v_dup F (dq dkX10_init_1 28 rfl) rfl ?_
  -- X4_init
  refine v_eqM (gl_split (L1 := (xl_40 K)) (L2 := (xl_42 K)) (b2 := 53) rfl rfl) ?_
  refine v_callIN 0 F (q := 53) (as := []) (st := [.ref (K.1 + (53)), .int 0, .ref (K.1 + (36))]) (kc1 := 54) (ks1 := 1804) (M' := gl 53 (xl_43 K) (gl 0 (xl_40 K) f).2) (k_X4_init_7 (l := C.2.1) (gl 0 (xl_40 K) f).2) (List.mem_of_getElem? (i := 4) rfl) (tc5 _ (List.mem_of_getElem? (i := 13) rfl)) (tc2 _ (List.mem_of_getElem? (i := 22) rfl)) (tc5 _ (List.mem_of_getElem? (i := 14) rfl)) rfl (by decide) rfl ⟨rfl, rfl, Nat.le_of_ble_eq_true rfl, Nat.le_of_ble_eq_true rfl⟩ ⟨Nat.le_of_ble_eq_true rfl, Nat.le_of_ble_eq_true rfl⟩ rfl (Nat.le_of_ble_eq_true rfl) rfl rfl (dq dkX10_init_1 29 rfl) ?_
  refine v_eqM (gl_split (L := (xl_44 K)) (L1 := (xl_40 K)) (L2 := (xl_43 K)) (b2 := 53) rfl rfl).symm ?_
  refine v_aastS F (36) (gl_lt 36 (Nat.le_of_ble_eq_true rfl)) (gl_at 36 rfl) (gl_lt 53 (Nat.le_of_ble_eq_true rfl)) (gl_at 53 rfl) rfl rfl (ib_in (by decide)) (dq dkX10_init_1 30 rfl) ?_
  refine v_eqM (gl_set (L' := (xl_45 K)) 36 (Nat.le_of_ble_eq_true rfl) rfl) ?_
  refine v_iinc F (v := 1) (ls' := [(1, .int 1), (0, .ref (K.1 + (0)))]) (dq dkX10_init_1 31 rfl) (j := 0) rfl (by decide) (by decide) rfl ?_
  refine v_goto F (tgt := 125) (dq dkX10_init_1 32 rfl) (by decide) ?_
  refine v_iload_n F (dq dkX10_init_1 21 rfl) rfl 0 rfl ?_
  refine v_iconst F (v := 4) (dq dkX10_init_1 22 rfl) (by decide) ?_
  refine v_icmp_ge F (tgt := 149) (dq dkX10_init_1 23 rfl) (by decide) (fun c => absurd c (by decide)) (fun _ => ?_)
  exact hk
set_option maxRecDepth 100000 in
set_option maxHeartbeats 1000000 in
theorem s_X10_init_5 {C : Cx} {K : KE} (f : Nat → va_E) (F : Fx C RX10 cX10_init 2 rm_X10_init K) (hnm : C.2.2.2.2.2.2.2.2.1.name = "<init>") (hk : V C 142 [(1, .int 2), (0, .ref (K.1 + (0)))] [.ref (K.1 + (57)), .int 2, .ref (K.1 + (36))] (gl 0 (xl_52 K) f) 58 1890) : V C 130 [(1, .int 1), (0, .ref (K.1 + (0)))] [] (gl 0 (xl_45 K) f) 54 1804 := by
  refine v_aload_n F (dq dkX10_init_1 24 rfl) rfl 1 rfl ?_
  refine v_get F (0) (gl_lt 0 (Nat.le_of_ble_eq_true rfl)) (gl_at 0 rfl) rfl inlX10 5 (by decide) (tc2 _ (List.mem_of_getElem? (i := 10) rfl)) rfl rfl (dq dkX10_init_1 25 rfl) ?_
  refine v_iload_n F (dq dkX10_init_1 26 rfl) rfl 0 rfl ?_
  refine v_new (ci := 4) (fs := [.null, .int 0, .int 0]) (kc1 := 55) (ks1 := 1807) F rfl inlX4 tyX4_ok (tc2 _ (List.mem_of_getElem? (i := 9) rfl)) (tc2 _ (List.mem_of_getElem? (i := 21) rfl)) (tc2 _ (List.mem_of_getElem? (i := 22) rfl)) (fun j hj => by rcases (show j = 0 ∨ j = 1 ∨ j = 2 by omega) with rfl | rfl | rfl <;> rfl) (Nat.le_of_ble_eq_true rfl) (Nat.le_of_ble_eq_true rfl) rfl rfl (dq dkX10_init_1 27 rfl) ?_
  refine v_eqM (gl_push (L' := (xl_46 K)) rfl) ?_
  refine v_dup F (dq dkX10_init_1 28 rfl) rfl ?_
  -- X4_init
  refine v_eqM (gl_split (L1 := (xl_45 K)) (L2 := (xl_42 K)) (b2 := 55) rfl rfl) ?_
  refine v_callIN 0 F (q := 55) (as := []) (st := [.ref (K.1 + (55)), .int 1, .ref (K.1 + (36))]) (kc1 := 56) (ks1 := 1847) (M' := gl 55 (xl_47 K) (gl 0 (xl_45 K) f).2) (k_X4_init_8 (l := C.2.1) (gl 0 (xl_45 K) f).2) (List.mem_of_getElem? (i := 4) rfl) (tc5 _ (List.mem_of_getElem? (i := 13) rfl)) (tc2 _ (List.mem_of_getElem? (i := 22) rfl)) (tc5 _ (List.mem_of_getElem? (i := 14) rfl)) rfl (by decide) rfl ⟨rfl, rfl, Nat.le_of_ble_eq_true rfl, Nat.le_of_ble_eq_true rfl⟩ ⟨Nat.le_of_ble_eq_true rfl, Nat.le_of_ble_eq_true rfl⟩ rfl (Nat.le_of_ble_eq_true rfl) rfl rfl (dq dkX10_init_1 29 rfl) ?_
  refine v_eqM (gl_split (L := (xl_48 K)) (L1 := (xl_45 K)) (L2 := (xl_47 K)) (b2 := 55) rfl rfl).symm ?_
  refine v_aastS F (36) (gl_lt 36 (Nat.le_of_ble_eq_true rfl)) (gl_at 36 rfl) (gl_lt 55 (Nat.le_of_ble_eq_true rfl)) (gl_at 55 rfl) rfl rfl (ib_in (by decide)) (dq dkX10_init_1 30 rfl) ?_
  refine v_eqM (gl_set (L' := (xl_49 K)) 36 (Nat.le_of_ble_eq_true rfl) rfl) ?_
  refine v_iinc F (v := 2) (ls' := [(1, .int 2), (0, .ref (K.1 + (0)))]) (dq dkX10_init_1 31 rfl) (j := 0) rfl (by decide) (by decide) rfl ?_
  refine v_goto F (tgt := 125) (dq dkX10_init_1 32 rfl) (by decide) ?_
  refine v_iload_n F (dq dkX10_init_1 21 rfl) rfl 0 rfl ?_
  refine v_iconst F (v := 4) (dq dkX10_init_1 22 rfl) (by decide) ?_
  refine v_icmp_ge F (tgt := 149) (dq dkX10_init_1 23 rfl) (by decide) (fun c => absurd c (by decide)) (fun _ => ?_)
  refine v_aload_n F (dq dkX10_init_1 24 rfl) rfl 1 rfl ?_
  refine v_get F (0) (gl_lt 0 (Nat.le_of_ble_eq_true rfl)) (gl_at 0 rfl) rfl inlX10 5 (by decide) (tc2 _ (List.mem_of_getElem? (i := 10) rfl)) rfl rfl (dq dkX10_init_1 25 rfl) ?_
  refine v_iload_n F (dq dkX10_init_1 26 rfl) rfl 0 rfl ?_
  refine v_new (ci := 4) (fs := [.null, .int 0, .int 0]) (kc1 := 57) (ks1 := 1850) F rfl inlX4 tyX4_ok (tc2 _ (List.mem_of_getElem? (i := 9) rfl)) (tc2 _ (List.mem_of_getElem? (i := 21) rfl)) (tc2 _ (List.mem_of_getElem? (i := 22) rfl)) (fun j hj => by rcases (show j = 0 ∨ j = 1 ∨ j = 2 by omega) with rfl | rfl | rfl <;> rfl) (Nat.le_of_ble_eq_true rfl) (Nat.le_of_ble_eq_true rfl) rfl rfl (dq dkX10_init_1 27 rfl) ?_
  refine v_eqM (gl_push (L' := (xl_50 K)) rfl) ?_
  refine v_dup F (dq dkX10_init_1 28 rfl) rfl ?_
  -- X4_init
  refine v_eqM (gl_split (L1 := (xl_49 K)) (L2 := (xl_42 K)) (b2 := 57) rfl rfl) ?_
  refine v_callIN 0 F (q := 57) (as := []) (st := [.ref (K.1 + (57)), .int 2, .ref (K.1 + (36))]) (kc1 := 58) (ks1 := 1890) (M' := gl 57 (xl_51 K) (gl 0 (xl_49 K) f).2) (k_X4_init_9 (l := C.2.1) (gl 0 (xl_49 K) f).2) (List.mem_of_getElem? (i := 4) rfl) (tc5 _ (List.mem_of_getElem? (i := 13) rfl)) (tc2 _ (List.mem_of_getElem? (i := 22) rfl)) (tc5 _ (List.mem_of_getElem? (i := 14) rfl)) rfl (by decide) rfl ⟨rfl, rfl, Nat.le_of_ble_eq_true rfl, Nat.le_of_ble_eq_true rfl⟩ ⟨Nat.le_of_ble_eq_true rfl, Nat.le_of_ble_eq_true rfl⟩ rfl (Nat.le_of_ble_eq_true rfl) rfl rfl (dq dkX10_init_1 29 rfl) ?_
  refine v_eqM (gl_split (L := (xl_52 K)) (L1 := (xl_49 K)) (L2 := (xl_51 K)) (b2 := 57) rfl rfl).symm ?_
  exact hk
set_option maxRecDepth 100000 in
set_option maxHeartbeats 1000000 in
theorem s_X10_init_6 {C : Cx} {K : KE} (f : Nat → va_E) (F : Fx C RX10 cX10_init 2 rm_X10_init K) (hnm : C.2.2.2.2.2.2.2.2.1.name = "<init>") (hk : V C 149 [(1, .int 4), (0, .ref (K.1 + (0)))] [] (gl 0 (xl_57 K) f) 60 1933) : V C 142 [(1, .int 2), (0, .ref (K.1 + (0)))] [.ref (K.1 + (57)), .int 2, .ref (K.1 + (36))] (gl 0 (xl_52 K) f) 58 1890 := by
  refine v_aastS F (36) (gl_lt 36 (Nat.le_of_ble_eq_true rfl)) (gl_at 36 rfl) (gl_lt 57 (Nat.le_of_ble_eq_true rfl)) (gl_at 57 rfl) rfl rfl (ib_in (by decide)) (dq dkX10_init_1 30 rfl) ?_
  refine v_eqM (gl_set (L' := (xl_53 K)) 36 (Nat.le_of_ble_eq_true rfl) rfl) ?_
  refine v_iinc F (v := 3) (ls' := [(1, .int 3), (0, .ref (K.1 + (0)))]) (dq dkX10_init_1 31 rfl) (j := 0) rfl (by decide) (by decide) rfl ?_
  refine v_goto F (tgt := 125) (dq dkX10_init_1 32 rfl) (by decide) ?_
  refine v_iload_n F (dq dkX10_init_1 21 rfl) rfl 0 rfl ?_
  refine v_iconst F (v := 4) (dq dkX10_init_1 22 rfl) (by decide) ?_
  refine v_icmp_ge F (tgt := 149) (dq dkX10_init_1 23 rfl) (by decide) (fun c => absurd c (by decide)) (fun _ => ?_)
  refine v_aload_n F (dq dkX10_init_1 24 rfl) rfl 1 rfl ?_
  refine v_get F (0) (gl_lt 0 (Nat.le_of_ble_eq_true rfl)) (gl_at 0 rfl) rfl inlX10 5 (by decide) (tc2 _ (List.mem_of_getElem? (i := 10) rfl)) rfl rfl (dq dkX10_init_1 25 rfl) ?_
  refine v_iload_n F (dq dkX10_init_1 26 rfl) rfl 0 rfl ?_
  refine v_new (ci := 4) (fs := [.null, .int 0, .int 0]) (kc1 := 59) (ks1 := 1893) F rfl inlX4 tyX4_ok (tc2 _ (List.mem_of_getElem? (i := 9) rfl)) (tc2 _ (List.mem_of_getElem? (i := 21) rfl)) (tc2 _ (List.mem_of_getElem? (i := 22) rfl)) (fun j hj => by rcases (show j = 0 ∨ j = 1 ∨ j = 2 by omega) with rfl | rfl | rfl <;> rfl) (Nat.le_of_ble_eq_true rfl) (Nat.le_of_ble_eq_true rfl) rfl rfl (dq dkX10_init_1 27 rfl) ?_
  refine v_eqM (gl_push (L' := (xl_54 K)) rfl) ?_
  refine v_dup F (dq dkX10_init_1 28 rfl) rfl ?_
  -- X4_init
  refine v_eqM (gl_split (L1 := (xl_53 K)) (L2 := (xl_42 K)) (b2 := 59) rfl rfl) ?_
  refine v_callIN 0 F (q := 59) (as := []) (st := [.ref (K.1 + (59)), .int 3, .ref (K.1 + (36))]) (kc1 := 60) (ks1 := 1933) (M' := gl 59 (xl_55 K) (gl 0 (xl_53 K) f).2) (k_X4_init_10 (l := C.2.1) (gl 0 (xl_53 K) f).2) (List.mem_of_getElem? (i := 4) rfl) (tc5 _ (List.mem_of_getElem? (i := 13) rfl)) (tc2 _ (List.mem_of_getElem? (i := 22) rfl)) (tc5 _ (List.mem_of_getElem? (i := 14) rfl)) rfl (by decide) rfl ⟨rfl, rfl, Nat.le_of_ble_eq_true rfl, Nat.le_of_ble_eq_true rfl⟩ ⟨Nat.le_of_ble_eq_true rfl, Nat.le_of_ble_eq_true rfl⟩ rfl (Nat.le_of_ble_eq_true rfl) rfl rfl (dq dkX10_init_1 29 rfl) ?_
  refine v_eqM (gl_split (L := (xl_56 K)) (L1 := (xl_53 K)) (L2 := (xl_55 K)) (b2 := 59) rfl rfl).symm ?_
  refine v_aastS F (36) (gl_lt 36 (Nat.le_of_ble_eq_true rfl)) (gl_at 36 rfl) (gl_lt 59 (Nat.le_of_ble_eq_true rfl)) (gl_at 59 rfl) rfl rfl (ib_in (by decide)) (dq dkX10_init_1 30 rfl) ?_
  refine v_eqM (gl_set (L' := (xl_57 K)) 36 (Nat.le_of_ble_eq_true rfl) rfl) ?_
  refine v_iinc F (v := 4) (ls' := [(1, .int 4), (0, .ref (K.1 + (0)))]) (dq dkX10_init_1 31 rfl) (j := 0) rfl (by decide) (by decide) rfl ?_
  refine v_goto F (tgt := 125) (dq dkX10_init_1 32 rfl) (by decide) ?_
  refine v_iload_n F (dq dkX10_init_1 21 rfl) rfl 0 rfl ?_
  refine v_iconst F (v := 4) (dq dkX10_init_1 22 rfl) (by decide) ?_
  refine v_icmp_ge F (tgt := 149) (dq dkX10_init_1 23 rfl) (by decide) (fun _ => ?_) (fun c => absurd (by decide) c)
  exact hk
set_option maxRecDepth 100000 in
set_option maxHeartbeats 1000000 in
theorem s_X10_init_7 {C : Cx} {K : KE} (f : Nat → va_E) (F : Fx C RX10 cX10_init 2 rm_X10_init K) (hnm : C.2.2.2.2.2.2.2.2.1.name = "<init>") (hk : V C 149 [(1, .int 4), (0, .ref (K.1 + (0)))] [] (gl 0 (xl_57 K) f) 60 1933) : V C 149 [(1, .int 4), (0, .ref (K.1 + (0)))] [] (gl 0 (xl_57 K) f) 60 1933 := by

  exact hk
set_option maxRecDepth 100000 in
set_option maxHeartbeats 1000000 in
theorem c_X10_init {K : KE} {l : Launch} {R : CS} (y : MS) (f : Nat → va_E) (h : f_X10_init_149 x0c = some R) : MC K l yX10_init cX10_init 2 none rm_X10_init 60 1933 [.ref (K.1 + (0))] (gl 0 (xl_0 K) f) (xf K R y) none := by
  refine mc_of (ls0 := [(0, .ref (K.1 + (0)))]) (by decide) (Nat.le_of_ble_eq_true rfl) rfl (fun C hl hnm F E => ?_)
  have F : Fx C RX10 cX10_init 2 rm_X10_init K := F
  refine s_X10_init_0 f F hnm ?_
  refine s_X10_init_1 f F hnm ?_
  refine s_X10_init_2 f F hnm ?_
  refine s_X10_init_3 f F hnm ?_
  refine s_X10_init_4 f F hnm ?_
  refine s_X10_init_5 f F hnm ?_
  refine s_X10_init_6 f F hnm ?_
  refine s_X10_init_7 f F hnm ?_
  refine v_sub [1] rfl ?_
  refine v_eqW (M' := xf K x0c y) rfl x0_all ?_
  exact t_X10_init_149 x0c 60 1933 (by decide) (by decide) h F E
