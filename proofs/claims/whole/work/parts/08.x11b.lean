/-! the check: HollowedByFireModel.<init>, its rows -/
set_option maxRecDepth 100000 in
set_option maxHeartbeats 1000000 in
theorem y0_all {K : KE} {x : CS} {y : MS} : ∀ q, q < 88 → y0P K x (gl 61 (yl_72 K) (xf K x y).2) q :=
  (lt_sx 87
  (lt_sx 86
  (lt_sx 85
  (lt_sx 84
  (lt_sx 83
  (lt_sx 82
  (lt_sx 81
  (lt_sx 80
  (lt_sx 79
  (lt_sx 78
  (lt_sx 77
  (lt_sx 76
  (lt_sx 75
  (lt_sx 74
  (lt_sx 73
  (lt_sx 72
  (lt_sx 71
  (lt_sx 70
  (lt_sx 69
  (lt_sx 68
  (lt_sx 67
  (lt_sx 66
  (lt_sx 65
  (lt_sx 64
  (lt_sx 63
  (lt_sx 62
  (lt_sx 61
  (lt_sx 60
  (lt_sx 59
  (lt_sx 58
  (lt_sx 57
  (lt_sx 56
  (lt_sx 55
  (lt_sx 54
  (lt_sx 53
  (lt_sx 52
  (lt_sx 51
  (lt_sx 50
  (lt_sx 49
  (lt_sx 48
  (lt_sx 47
  (lt_sx 46
  (lt_sx 45
  (lt_sx 44
  (lt_sx 43
  (lt_sx 42
  (lt_sx 41
  (lt_sx 40
  (lt_sx 39
  (lt_sx 38
  (lt_sx 37
  (lt_sx 36
  (lt_sx 35
  (lt_sx 34
  (lt_sx 33
  (lt_sx 32
  (lt_sx 31
  (lt_sx 30
  (lt_sx 29
  (lt_sx 28
  (lt_sx 27
  (lt_sx 26
  (lt_sx 25
  (lt_sx 24
  (lt_sx 23
  (lt_sx 22
  (lt_sx 21
  (lt_sx 20
  (lt_sx 19
  (lt_sx 18
  (lt_sx 17
  (lt_sx 16
  (lt_sx 15
  (lt_sx 14
  (lt_sx 13
  (lt_sx 12
  (lt_sx 11
  (lt_sx 10
  (lt_sx 9
  (lt_sx 8
  (lt_sx 7
  (lt_sx 6
  (lt_sx 5
  (lt_sx 4
  (lt_sx 3
  (lt_sx 2
  (lt_sx 1
  (lt_sx 0 (fun q h => absurd h (Nat.not_lt_zero q)) (Or.inl rfl)) (Or.inl rfl)) (Or.inl rfl)) (Or.inl rfl)) (Or.inl rfl)) (Or.inl rfl)) (Or.inl rfl)) (Or.inl rfl)) (Or.inl rfl)) (Or.inl rfl)) (Or.inl rfl)) (Or.inl rfl)) (Or.inl rfl)) (Or.inl rfl)) (Or.inl rfl)) (Or.inl rfl)) (Or.inl rfl)) (Or.inl rfl)) (Or.inl rfl)) (Or.inl rfl)) (Or.inl rfl)) (Or.inl rfl)) (Or.inl rfl)) (Or.inl rfl)) (Or.inl rfl)) (Or.inl rfl)) (Or.inl rfl)) (Or.inl rfl)) (Or.inl rfl)) (Or.inl rfl)) (Or.inl rfl)) (Or.inl rfl)) (Or.inl rfl)) (Or.inl rfl)) (Or.inl rfl)) (Or.inl rfl)) (Or.inl rfl)) (Or.inl rfl)) (Or.inl rfl)) (Or.inl rfl)) (Or.inl rfl)) (Or.inl rfl)) (Or.inl rfl)) (Or.inl rfl)) (Or.inl rfl)) (Or.inl rfl)) (Or.inl rfl)) (Or.inl rfl)) (Or.inl rfl)) (Or.inl rfl)) (Or.inl rfl)) (Or.inl rfl)) (Or.inl rfl)) (Or.inl rfl)) (Or.inl rfl)) (Or.inl rfl)) (Or.inl rfl)) (Or.inl rfl)) (Or.inl rfl)) (Or.inl rfl)) (Or.inl rfl)) (Or.inl rfl)) (Or.inl rfl)) (Or.inl rfl)) (Or.inl rfl)) (Or.inl rfl)) (Or.inl rfl)) (Or.inl rfl)) (Or.inl rfl)) (Or.inl rfl)) (Or.inl rfl)) (Or.inl rfl)) (Or.inl rfl)) (Or.inl rfl)) (Or.inl rfl)) (Or.inl rfl)) (Or.inl rfl)) (Or.inl rfl)) (Or.inl rfl)) (Or.inl rfl)) (Or.inl (congrArg (fun w => (.inl (K.2.2.1 1, 12, .inr (.inl w)) : va_E)) wd_eq))) (Or.inl rfl)) (Or.inl rfl)) (Or.inl rfl)) (Or.inl rfl)) (Or.inl rfl)) (Or.inl rfl)) (Or.inl rfl))
set_option maxRecDepth 100000 in
set_option maxHeartbeats 1000000 in
theorem s_X11_init_0 {C : Cx} {K : KE} (x : CS) (y : MS) (F : Fx C RX11 cX11_init 2 rm_X11_init K) (hnm : C.2.2.2.2.2.2.2.2.1.name = "<init>") (hk : V C 32 [(0, .ref (K.1 + (61)))] [.ref (K.1 + (63)), .ref (K.1 + (61))] (gl 61 (yl_6 K) (xf K x y).2) 2 64) : V C 0 [(0, .ref (K.1 + (61)))] [] (gl 61 (yl_0 K) (xf K x y).2) 0 0 := by
  refine v_aload_n F (dq dkX11_init_0 0 rfl) rfl 0 rfl ?_
  refine v_objinit F (tc11 _ (List.mem_of_getElem? (i := 16) rfl)) (tc1 _ (List.mem_of_getElem? (i := 11) rfl)) (tc1 _ (List.mem_of_getElem? (i := 12) rfl)) (Nat.le_of_ble_eq_true rfl) (Nat.le_of_ble_eq_true rfl) (dq dkX11_init_0 1 rfl) ?_
  refine v_aload_n F (dq dkX11_init_0 2 rfl) rfl 0 rfl ?_
  refine v_bipush F (v := 54) (dq dkX11_init_0 3 rfl) (by decide) ?_
  refine v_newai (kc1 := 1) (ks1 := 54) F (tc2 _ (List.mem_of_getElem? (i := 11) rfl)) (by decide) (n' := 54) rfl (by decide) (Nat.le_of_ble_eq_true rfl) (Nat.le_of_ble_eq_true rfl) rfl rfl (dq dkX11_init_0 4 rfl) ?_
  refine v_eqM (gl_push (L' := (yl_1 K)) rfl) ?_
  refine v_putF F hnm (61) (gl_lt 0 (Nat.le_of_ble_eq_true rfl)) (gl_at 0 rfl) rfl inlX11 tyX11_ok nmX11 0 (by decide) (tc11 _ (List.mem_of_getElem? (i := 17) rfl)) rfl rfl rfl (tyX11_ok 0 (by decide)) rfl rfl (Nat.le_of_ble_eq_true rfl) (dq dkX11_init_0 5 rfl) ?_
  refine v_eqM (gl_set (L' := (yl_2 K)) 0 (Nat.le_of_ble_eq_true rfl) rfl) ?_
  refine v_aload_n F (dq dkX11_init_0 6 rfl) rfl 0 rfl ?_
  refine v_iconst F (v := 5) (dq dkX11_init_0 7 rfl) (by decide) ?_
  refine v_put F (61) (gl_lt 0 (Nat.le_of_ble_eq_true rfl)) (gl_at 0 rfl) rfl inlX11 tyX11_ok nmX11 1 (by decide) (tc11 _ (List.mem_of_getElem? (i := 18) rfl)) rfl rfl (tyX11_ok 1 (by decide)) rfl rfl (Nat.le_of_ble_eq_true rfl) (dq dkX11_init_0 8 rfl) ?_
  refine v_eqM (gl_set (L' := (yl_3 K)) 0 (Nat.le_of_ble_eq_true rfl) rfl) ?_
  refine v_aload_n F (dq dkX11_init_0 9 rfl) rfl 0 rfl ?_
  refine v_iconst F (v := 3) (dq dkX11_init_0 10 rfl) (by decide) ?_
  refine v_put F (61) (gl_lt 0 (Nat.le_of_ble_eq_true rfl)) (gl_at 0 rfl) rfl inlX11 tyX11_ok nmX11 3 (by decide) (tc11 _ (List.mem_of_getElem? (i := 19) rfl)) rfl rfl (tyX11_ok 3 (by decide)) rfl rfl (Nat.le_of_ble_eq_true rfl) (dq dkX11_init_0 11 rfl) ?_
  refine v_eqM (gl_set (L' := (yl_4 K)) 0 (Nat.le_of_ble_eq_true rfl) rfl) ?_
  refine v_aload_n F (dq dkX11_init_0 12 rfl) rfl 0 rfl ?_
  refine v_iconst F (v := 2) (dq dkX11_init_0 13 rfl) (by decide) ?_
  refine v_put F (61) (gl_lt 0 (Nat.le_of_ble_eq_true rfl)) (gl_at 0 rfl) rfl inlX11 tyX11_ok nmX11 4 (by decide) (tc11 _ (List.mem_of_getElem? (i := 20) rfl)) rfl rfl (tyX11_ok 4 (by decide)) rfl rfl (Nat.le_of_ble_eq_true rfl) (dq dkX11_init_0 14 rfl) ?_
  refine v_eqM (gl_set (L' := (yl_5 K)) 0 (Nat.le_of_ble_eq_true rfl) rfl) ?_
  refine v_aload_n F (dq dkX11_init_0 15 rfl) rfl 0 rfl ?_
  refine v_bipush F (v := 10) (dq dkX11_init_0 16 rfl) (by decide) ?_
  refine v_newai (kc1 := 2) (ks1 := 64) F (tc2 _ (List.mem_of_getElem? (i := 11) rfl)) (by decide) (n' := 10) rfl (by decide) (Nat.le_of_ble_eq_true rfl) (Nat.le_of_ble_eq_true rfl) rfl rfl (dq dkX11_init_0 17 rfl) ?_
  refine v_eqM (gl_push (L' := (yl_6 K)) rfl) ?_
  exact hk
set_option maxRecDepth 100000 in
set_option maxHeartbeats 1000000 in
theorem s_X11_init_1 {C : Cx} {K : KE} (x : CS) (y : MS) (F : Fx C RX11 cX11_init 2 rm_X11_init K) (hnm : C.2.2.2.2.2.2.2.2.1.name = "<init>") (hk : V C 64 [(0, .ref (K.1 + (61)))] [.ref (K.1 + (67)), .ref (K.1 + (61))] (gl 61 (yl_14 K) (xf K x y).2) 6 96) : V C 32 [(0, .ref (K.1 + (61)))] [.ref (K.1 + (63)), .ref (K.1 + (61))] (gl 61 (yl_6 K) (xf K x y).2) 2 64 := by
  refine v_putF F hnm (61) (gl_lt 0 (Nat.le_of_ble_eq_true rfl)) (gl_at 0 rfl) rfl inlX11 tyX11_ok nmX11 7 (by decide) (tc11 _ (List.mem_of_getElem? (i := 21) rfl)) rfl rfl rfl (tyX11_ok 7 (by decide)) rfl rfl (Nat.le_of_ble_eq_true rfl) (dq dkX11_init_0 18 rfl) ?_
  refine v_eqM (gl_set (L' := (yl_7 K)) 0 (Nat.le_of_ble_eq_true rfl) rfl) ?_
  refine v_aload_n F (dq dkX11_init_0 19 rfl) rfl 0 rfl ?_
  refine v_bipush F (v := 10) (dq dkX11_init_0 20 rfl) (by decide) ?_
  refine v_newai (kc1 := 3) (ks1 := 74) F (tc2 _ (List.mem_of_getElem? (i := 11) rfl)) (by decide) (n' := 10) rfl (by decide) (Nat.le_of_ble_eq_true rfl) (Nat.le_of_ble_eq_true rfl) rfl rfl (dq dkX11_init_0 21 rfl) ?_
  refine v_eqM (gl_push (L' := (yl_8 K)) rfl) ?_
  refine v_putF F hnm (61) (gl_lt 0 (Nat.le_of_ble_eq_true rfl)) (gl_at 0 rfl) rfl inlX11 tyX11_ok nmX11 8 (by decide) (tc11 _ (List.mem_of_getElem? (i := 22) rfl)) rfl rfl rfl (tyX11_ok 8 (by decide)) rfl rfl (Nat.le_of_ble_eq_true rfl) (dq dkX11_init_0 22 rfl) ?_
  refine v_eqM (gl_set (L' := (yl_9 K)) 0 (Nat.le_of_ble_eq_true rfl) rfl) ?_
  refine v_aload_n F (dq dkX11_init_0 23 rfl) rfl 0 rfl ?_
  refine v_bipush F (v := 10) (dq dkX11_init_0 24 rfl) (by decide) ?_
  refine v_newai (kc1 := 4) (ks1 := 84) F (tc2 _ (List.mem_of_getElem? (i := 11) rfl)) (by decide) (n' := 10) rfl (by decide) (Nat.le_of_ble_eq_true rfl) (Nat.le_of_ble_eq_true rfl) rfl rfl (dq dkX11_init_0 25 rfl) ?_
  refine v_eqM (gl_push (L' := (yl_10 K)) rfl) ?_
  refine v_putF F hnm (61) (gl_lt 0 (Nat.le_of_ble_eq_true rfl)) (gl_at 0 rfl) rfl inlX11 tyX11_ok nmX11 9 (by decide) (tc11 _ (List.mem_of_getElem? (i := 23) rfl)) rfl rfl rfl (tyX11_ok 9 (by decide)) rfl rfl (Nat.le_of_ble_eq_true rfl) (dq dkX11_init_0 26 rfl) ?_
  refine v_eqM (gl_set (L' := (yl_11 K)) 0 (Nat.le_of_ble_eq_true rfl) rfl) ?_
  refine v_aload_n F (dq dkX11_init_0 27 rfl) rfl 0 rfl ?_
  refine v_bipush F (v := 6) (dq dkX11_init_0 28 rfl) (by decide) ?_
  refine v_newai (kc1 := 5) (ks1 := 90) F (tc2 _ (List.mem_of_getElem? (i := 11) rfl)) (by decide) (n' := 6) rfl (by decide) (Nat.le_of_ble_eq_true rfl) (Nat.le_of_ble_eq_true rfl) rfl rfl (dq dkX11_init_0 29 rfl) ?_
  refine v_eqM (gl_push (L' := (yl_12 K)) rfl) ?_
  refine v_putF F hnm (61) (gl_lt 0 (Nat.le_of_ble_eq_true rfl)) (gl_at 0 rfl) rfl inlX11 tyX11_ok nmX11 11 (by decide) (tc12 _ (List.mem_of_getElem? (i := 0) rfl)) rfl rfl rfl (tyX11_ok 11 (by decide)) rfl rfl (Nat.le_of_ble_eq_true rfl) (dq dkX11_init_0 30 rfl) ?_
  refine v_eqM (gl_set (L' := (yl_13 K)) 0 (Nat.le_of_ble_eq_true rfl) rfl) ?_
  refine v_aload_n F (dq dkX11_init_0 31 rfl) rfl 0 rfl ?_
  refine v_bipush F (v := 6) (dq dkX11_init_0 32 rfl) (by decide) ?_
  refine v_newai (kc1 := 6) (ks1 := 96) F (tc2 _ (List.mem_of_getElem? (i := 11) rfl)) (by decide) (n' := 6) rfl (by decide) (Nat.le_of_ble_eq_true rfl) (Nat.le_of_ble_eq_true rfl) rfl rfl (dq dkX11_init_0 33 rfl) ?_
  refine v_eqM (gl_push (L' := (yl_14 K)) rfl) ?_
  exact hk
set_option maxRecDepth 100000 in
set_option maxHeartbeats 1000000 in
theorem s_X11_init_2 {C : Cx} {K : KE} (x : CS) (y : MS) (F : Fx C RX11 cX11_init 2 rm_X11_init K) (hnm : C.2.2.2.2.2.2.2.2.1.name = "<init>") (hk : V C 97 [(0, .ref (K.1 + (61)))] [.ref (K.1 + (71)), .ref (K.1 + (61))] (gl 61 (yl_22 K) (xf K x y).2) 10 298) : V C 64 [(0, .ref (K.1 + (61)))] [.ref (K.1 + (67)), .ref (K.1 + (61))] (gl 61 (yl_14 K) (xf K x y).2) 6 96 := by
  refine v_putF F hnm (61) (gl_lt 0 (Nat.le_of_ble_eq_true rfl)) (gl_at 0 rfl) rfl inlX11 tyX11_ok nmX11 12 (by decide) (tc12 _ (List.mem_of_getElem? (i := 1) rfl)) rfl rfl rfl (tyX11_ok 12 (by decide)) rfl rfl (Nat.le_of_ble_eq_true rfl) (dq dkX11_init_0 34 rfl) ?_
  refine v_eqM (gl_set (L' := (yl_15 K)) 0 (Nat.le_of_ble_eq_true rfl) rfl) ?_
  refine v_aload_n F (dq dkX11_init_0 35 rfl) rfl 0 rfl ?_
  refine v_bipush F (v := 6) (dq dkX11_init_0 36 rfl) (by decide) ?_
  refine v_newai (kc1 := 7) (ks1 := 102) F (tc2 _ (List.mem_of_getElem? (i := 11) rfl)) (by decide) (n' := 6) rfl (by decide) (Nat.le_of_ble_eq_true rfl) (Nat.le_of_ble_eq_true rfl) rfl rfl (dq dkX11_init_0 37 rfl) ?_
  refine v_eqM (gl_push (L' := (yl_16 K)) rfl) ?_
  refine v_putF F hnm (61) (gl_lt 0 (Nat.le_of_ble_eq_true rfl)) (gl_at 0 rfl) rfl inlX11 tyX11_ok nmX11 13 (by decide) (tc12 _ (List.mem_of_getElem? (i := 2) rfl)) rfl rfl rfl (tyX11_ok 13 (by decide)) rfl rfl (Nat.le_of_ble_eq_true rfl) (dq dkX11_init_0 38 rfl) ?_
  refine v_eqM (gl_set (L' := (yl_17 K)) 0 (Nat.le_of_ble_eq_true rfl) rfl) ?_
  refine v_aload_n F (dq dkX11_init_0 39 rfl) rfl 0 rfl ?_
  refine v_bipush F (v := 30) (dq dkX11_init_1 0 rfl) (by decide) ?_
  refine v_newai (kc1 := 8) (ks1 := 132) F (tc2 _ (List.mem_of_getElem? (i := 11) rfl)) (by decide) (n' := 30) rfl (by decide) (Nat.le_of_ble_eq_true rfl) (Nat.le_of_ble_eq_true rfl) rfl rfl (dq dkX11_init_1 1 rfl) ?_
  refine v_eqM (gl_push (L' := (yl_18 K)) rfl) ?_
  refine v_putF F hnm (61) (gl_lt 0 (Nat.le_of_ble_eq_true rfl)) (gl_at 0 rfl) rfl inlX11 tyX11_ok nmX11 14 (by decide) (tc12 _ (List.mem_of_getElem? (i := 3) rfl)) rfl rfl rfl (tyX11_ok 14 (by decide)) rfl rfl (Nat.le_of_ble_eq_true rfl) (dq dkX11_init_1 2 rfl) ?_
  refine v_eqM (gl_set (L' := (yl_19 K)) 0 (Nat.le_of_ble_eq_true rfl) rfl) ?_
  refine v_aload_n F (dq dkX11_init_1 3 rfl) rfl 0 rfl ?_
  refine v_bipush F (v := 6) (dq dkX11_init_1 4 rfl) (by decide) ?_
  refine v_newai (kc1 := 9) (ks1 := 138) F (tc2 _ (List.mem_of_getElem? (i := 11) rfl)) (by decide) (n' := 6) rfl (by decide) (Nat.le_of_ble_eq_true rfl) (Nat.le_of_ble_eq_true rfl) rfl rfl (dq dkX11_init_1 5 rfl) ?_
  refine v_eqM (gl_push (L' := (yl_20 K)) rfl) ?_
  refine v_putF F hnm (61) (gl_lt 0 (Nat.le_of_ble_eq_true rfl)) (gl_at 0 rfl) rfl inlX11 tyX11_ok nmX11 15 (by decide) (tc12 _ (List.mem_of_getElem? (i := 4) rfl)) rfl rfl rfl (tyX11_ok 15 (by decide)) rfl rfl (Nat.le_of_ble_eq_true rfl) (dq dkX11_init_1 6 rfl) ?_
  refine v_eqM (gl_set (L' := (yl_21 K)) 0 (Nat.le_of_ble_eq_true rfl) rfl) ?_
  refine v_aload_n F (dq dkX11_init_1 7 rfl) rfl 0 rfl ?_
  refine v_sipush F (v := 160) (dq dkX11_init_1 8 rfl) (by decide) ?_
  refine v_newai (kc1 := 10) (ks1 := 298) F (tc2 _ (List.mem_of_getElem? (i := 11) rfl)) (by decide) (n' := 160) rfl (by decide) (Nat.le_of_ble_eq_true rfl) (Nat.le_of_ble_eq_true rfl) rfl rfl (dq dkX11_init_1 9 rfl) ?_
  refine v_eqM (gl_push (L' := (yl_22 K)) rfl) ?_
  exact hk
set_option maxRecDepth 100000 in
set_option maxHeartbeats 1000000 in
theorem s_X11_init_3 {C : Cx} {K : KE} (x : CS) (y : MS) (F : Fx C RX11 cX11_init 2 rm_X11_init K) (hnm : C.2.2.2.2.2.2.2.2.1.name = "<init>") (hk : V C 129 [(0, .ref (K.1 + (61)))] [] (gl 61 (yl_30 K) (xf K x y).2) 13 1527) : V C 97 [(0, .ref (K.1 + (61)))] [.ref (K.1 + (71)), .ref (K.1 + (61))] (gl 61 (yl_22 K) (xf K x y).2) 10 298 := by
  refine v_putF F hnm (61) (gl_lt 0 (Nat.le_of_ble_eq_true rfl)) (gl_at 0 rfl) rfl inlX11 tyX11_ok nmX11 16 (by decide) (tc12 _ (List.mem_of_getElem? (i := 5) rfl)) rfl rfl rfl (tyX11_ok 16 (by decide)) rfl rfl (Nat.le_of_ble_eq_true rfl) (dq dkX11_init_1 10 rfl) ?_
  refine v_eqM (gl_set (L' := (yl_23 K)) 0 (Nat.le_of_ble_eq_true rfl) rfl) ?_
  refine v_aload_n F (dq dkX11_init_1 11 rfl) rfl 0 rfl ?_
  refine v_sipush F (v := 1200) (dq dkX11_init_1 12 rfl) (by decide) ?_
  refine v_newai (kc1 := 11) (ks1 := 1498) F (tc2 _ (List.mem_of_getElem? (i := 11) rfl)) (by decide) (n' := 1200) rfl (by decide) (Nat.le_of_ble_eq_true rfl) (Nat.le_of_ble_eq_true rfl) rfl rfl (dq dkX11_init_1 13 rfl) ?_
  refine v_eqM (gl_push (L' := (yl_24 K)) rfl) ?_
  refine v_putF F hnm (61) (gl_lt 0 (Nat.le_of_ble_eq_true rfl)) (gl_at 0 rfl) rfl inlX11 tyX11_ok nmX11 18 (by decide) (tc12 _ (List.mem_of_getElem? (i := 6) rfl)) rfl rfl rfl (tyX11_ok 18 (by decide)) rfl rfl (Nat.le_of_ble_eq_true rfl) (dq dkX11_init_1 14 rfl) ?_
  refine v_eqM (gl_set (L' := (yl_25 K)) 0 (Nat.le_of_ble_eq_true rfl) rfl) ?_
  refine v_aload_n F (dq dkX11_init_1 15 rfl) rfl 0 rfl ?_
  refine v_bipush F (v := 24) (dq dkX11_init_1 16 rfl) (by decide) ?_
  refine v_newai (kc1 := 12) (ks1 := 1522) F (tc2 _ (List.mem_of_getElem? (i := 11) rfl)) (by decide) (n' := 24) rfl (by decide) (Nat.le_of_ble_eq_true rfl) (Nat.le_of_ble_eq_true rfl) rfl rfl (dq dkX11_init_1 17 rfl) ?_
  refine v_eqM (gl_push (L' := (yl_26 K)) rfl) ?_
  refine v_putF F hnm (61) (gl_lt 0 (Nat.le_of_ble_eq_true rfl)) (gl_at 0 rfl) rfl inlX11 tyX11_ok nmX11 19 (by decide) (tc12 _ (List.mem_of_getElem? (i := 7) rfl)) rfl rfl rfl (tyX11_ok 19 (by decide)) rfl rfl (Nat.le_of_ble_eq_true rfl) (dq dkX11_init_1 18 rfl) ?_
  refine v_eqM (gl_set (L' := (yl_27 K)) 0 (Nat.le_of_ble_eq_true rfl) rfl) ?_
  refine v_aload_n F (dq dkX11_init_1 19 rfl) rfl 0 rfl ?_
  refine v_iconst F (v := 1) (dq dkX11_init_1 20 rfl) (by decide) ?_
  refine v_put F (61) (gl_lt 0 (Nat.le_of_ble_eq_true rfl)) (gl_at 0 rfl) rfl inlX11 tyX11_ok nmX11 20 (by decide) (tc12 _ (List.mem_of_getElem? (i := 8) rfl)) rfl rfl (tyX11_ok 20 (by decide)) rfl rfl (Nat.le_of_ble_eq_true rfl) (dq dkX11_init_1 21 rfl) ?_
  refine v_eqM (gl_set (L' := (yl_28 K)) 0 (Nat.le_of_ble_eq_true rfl) rfl) ?_
  refine v_aload_n F (dq dkX11_init_1 22 rfl) rfl 0 rfl ?_
  refine v_iconst F (v := 5) (dq dkX11_init_1 23 rfl) (by decide) ?_
  refine v_newai (kc1 := 13) (ks1 := 1527) F (tc2 _ (List.mem_of_getElem? (i := 11) rfl)) (by decide) (n' := 5) rfl (by decide) (Nat.le_of_ble_eq_true rfl) (Nat.le_of_ble_eq_true rfl) rfl rfl (dq dkX11_init_1 24 rfl) ?_
  refine v_eqM (gl_push (L' := (yl_29 K)) rfl) ?_
  refine v_putF F hnm (61) (gl_lt 0 (Nat.le_of_ble_eq_true rfl)) (gl_at 0 rfl) rfl inlX11 tyX11_ok nmX11 25 (by decide) (tc12 _ (List.mem_of_getElem? (i := 9) rfl)) rfl rfl rfl (tyX11_ok 25 (by decide)) rfl rfl (Nat.le_of_ble_eq_true rfl) (dq dkX11_init_1 25 rfl) ?_
  refine v_eqM (gl_set (L' := (yl_30 K)) 0 (Nat.le_of_ble_eq_true rfl) rfl) ?_
  exact hk
set_option maxRecDepth 100000 in
set_option maxHeartbeats 1000000 in
theorem s_X11_init_4 {C : Cx} {K : KE} (x : CS) (y : MS) (F : Fx C RX11 cX11_init 2 rm_X11_init K) (hnm : C.2.2.2.2.2.2.2.2.1.name = "<init>") (hk : V C 156 [(0, .ref (K.1 + (61)))] [.int (-1), .int 1, .ref (K.1 + (77)), .ref (K.1 + (77)), .ref (K.1 + (61))] (gl 61 (yl_36 K) (xf K x y).2) 16 1591) : V C 129 [(0, .ref (K.1 + (61)))] [] (gl 61 (yl_30 K) (xf K x y).2) 13 1527 := by
  refine v_aload_n F (dq dkX11_init_1 26 rfl) rfl 0 rfl ?_
  refine v_bipush F (v := 54) (dq dkX11_init_1 27 rfl) (by decide) ?_
  refine v_newai (kc1 := 14) (ks1 := 1581) F (tc2 _ (List.mem_of_getElem? (i := 11) rfl)) (by decide) (n' := 54) rfl (by decide) (Nat.le_of_ble_eq_true rfl) (Nat.le_of_ble_eq_true rfl) rfl rfl (dq dkX11_init_1 28 rfl) ?_
  refine v_eqM (gl_push (L' := (yl_31 K)) rfl) ?_
  refine v_putF F hnm (61) (gl_lt 0 (Nat.le_of_ble_eq_true rfl)) (gl_at 0 rfl) rfl inlX11 tyX11_ok nmX11 26 (by decide) (tc12 _ (List.mem_of_getElem? (i := 10) rfl)) rfl rfl rfl (tyX11_ok 26 (by decide)) rfl rfl (Nat.le_of_ble_eq_true rfl) (dq dkX11_init_1 29 rfl) ?_
  refine v_eqM (gl_set (L' := (yl_32 K)) 0 (Nat.le_of_ble_eq_true rfl) rfl) ?_
  refine v_aload_n F (dq dkX11_init_1 30 rfl) rfl 0 rfl ?_
  refine v_bipush F (v := 6) (dq dkX11_init_1 31 rfl) (by decide) ?_
  refine v_newai (kc1 := 15) (ks1 := 1587) F (tc2 _ (List.mem_of_getElem? (i := 11) rfl)) (by decide) (n' := 6) rfl (by decide) (Nat.le_of_ble_eq_true rfl) (Nat.le_of_ble_eq_true rfl) rfl rfl (dq dkX11_init_1 32 rfl) ?_
  refine v_eqM (gl_push (L' := (yl_33 K)) rfl) ?_
  refine v_putF F hnm (61) (gl_lt 0 (Nat.le_of_ble_eq_true rfl)) (gl_at 0 rfl) rfl inlX11 tyX11_ok nmX11 27 (by decide) (tc12 _ (List.mem_of_getElem? (i := 11) rfl)) rfl rfl rfl (tyX11_ok 27 (by decide)) rfl rfl (Nat.le_of_ble_eq_true rfl) (dq dkX11_init_1 33 rfl) ?_
  refine v_eqM (gl_set (L' := (yl_34 K)) 0 (Nat.le_of_ble_eq_true rfl) rfl) ?_
  refine v_aload_n F (dq dkX11_init_1 34 rfl) rfl 0 rfl ?_
  refine v_iconst F (v := 4) (dq dkX11_init_1 35 rfl) (by decide) ?_
  refine v_newai (kc1 := 16) (ks1 := 1591) F (tc2 _ (List.mem_of_getElem? (i := 11) rfl)) (by decide) (n' := 4) rfl (by decide) (Nat.le_of_ble_eq_true rfl) (Nat.le_of_ble_eq_true rfl) rfl rfl (dq dkX11_init_1 36 rfl) ?_
  refine v_eqM (gl_push (L' := (yl_35 K)) rfl) ?_
  refine v_dup F (dq dkX11_init_1 37 rfl) rfl ?_
  refine v_iconst F (v := 0) (dq dkX11_init_1 38 rfl) (by decide) ?_
  refine v_iconst F (v := (-1)) (dq dkX11_init_1 39 rfl) (by decide) ?_
  refine v_iast F (77) (gl_lt 16 (Nat.le_of_ble_eq_true rfl)) (gl_at 16 rfl) (ib_in (by decide)) (dq dkX11_init_2 0 rfl) ?_
  refine v_eqM (gl_set (L' := (yl_36 K)) 16 (Nat.le_of_ble_eq_true rfl) rfl) ?_
  refine v_dup F (dq dkX11_init_2 1 rfl) rfl ?_
  refine v_iconst F (v := 1) (dq dkX11_init_2 2 rfl) (by decide) ?_
  refine v_iconst F (v := (-1)) (dq dkX11_init_2 3 rfl) (by decide) ?_
  exact hk
set_option maxRecDepth 100000 in
set_option maxHeartbeats 1000000 in
theorem s_X11_init_5 {C : Cx} {K : KE} (x : CS) (y : MS) (F : Fx C RX11 cX11_init 2 rm_X11_init K) (hnm : C.2.2.2.2.2.2.2.2.1.name = "<init>") (hk : V C 181 [(0, .ref (K.1 + (61)))] [.ref (K.1 + (79)), .ref (K.1 + (61))] (gl 61 (yl_43 K) (xf K x y).2) 18 1755) : V C 156 [(0, .ref (K.1 + (61)))] [.int (-1), .int 1, .ref (K.1 + (77)), .ref (K.1 + (77)), .ref (K.1 + (61))] (gl 61 (yl_36 K) (xf K x y).2) 16 1591 := by
  refine v_iast F (77) (gl_lt 16 (Nat.le_of_ble_eq_true rfl)) (gl_at 16 rfl) (ib_in (by decide)) (dq dkX11_init_2 4 rfl) ?_
  refine v_eqM (gl_set (L' := (yl_37 K)) 16 (Nat.le_of_ble_eq_true rfl) rfl) ?_
  refine v_dup F (dq dkX11_init_2 5 rfl) rfl ?_
  refine v_iconst F (v := 2) (dq dkX11_init_2 6 rfl) (by decide) ?_
  refine v_iconst F (v := (-1)) (dq dkX11_init_2 7 rfl) (by decide) ?_
  refine v_iast F (77) (gl_lt 16 (Nat.le_of_ble_eq_true rfl)) (gl_at 16 rfl) (ib_in (by decide)) (dq dkX11_init_2 8 rfl) ?_
  refine v_eqM (gl_set (L' := (yl_38 K)) 16 (Nat.le_of_ble_eq_true rfl) rfl) ?_
  refine v_dup F (dq dkX11_init_2 9 rfl) rfl ?_
  refine v_iconst F (v := 3) (dq dkX11_init_2 10 rfl) (by decide) ?_
  refine v_iconst F (v := (-1)) (dq dkX11_init_2 11 rfl) (by decide) ?_
  refine v_iast F (77) (gl_lt 16 (Nat.le_of_ble_eq_true rfl)) (gl_at 16 rfl) (ib_in (by decide)) (dq dkX11_init_2 12 rfl) ?_
  refine v_eqM (gl_set (L' := (yl_39 K)) 16 (Nat.le_of_ble_eq_true rfl) rfl) ?_
  refine v_putF F hnm (61) (gl_lt 0 (Nat.le_of_ble_eq_true rfl)) (gl_at 0 rfl) rfl inlX11 tyX11_ok nmX11 28 (by decide) (tc12 _ (List.mem_of_getElem? (i := 12) rfl)) rfl rfl rfl (tyX11_ok 28 (by decide)) rfl rfl (Nat.le_of_ble_eq_true rfl) (dq dkX11_init_2 13 rfl) ?_
  refine v_eqM (gl_set (L' := (yl_40 K)) 0 (Nat.le_of_ble_eq_true rfl) rfl) ?_
  refine v_aload_n F (dq dkX11_init_2 14 rfl) rfl 0 rfl ?_
  refine v_iconst F (v := 4) (dq dkX11_init_2 15 rfl) (by decide) ?_
  refine v_newai (kc1 := 17) (ks1 := 1595) F (tc2 _ (List.mem_of_getElem? (i := 11) rfl)) (by decide) (n' := 4) rfl (by decide) (Nat.le_of_ble_eq_true rfl) (Nat.le_of_ble_eq_true rfl) rfl rfl (dq dkX11_init_2 16 rfl) ?_
  refine v_eqM (gl_push (L' := (yl_41 K)) rfl) ?_
  refine v_putF F hnm (61) (gl_lt 0 (Nat.le_of_ble_eq_true rfl)) (gl_at 0 rfl) rfl inlX11 tyX11_ok nmX11 29 (by decide) (tc12 _ (List.mem_of_getElem? (i := 13) rfl)) rfl rfl rfl (tyX11_ok 29 (by decide)) rfl rfl (Nat.le_of_ble_eq_true rfl) (dq dkX11_init_2 17 rfl) ?_
  refine v_eqM (gl_set (L' := (yl_42 K)) 0 (Nat.le_of_ble_eq_true rfl) rfl) ?_
  refine v_aload_n F (dq dkX11_init_2 18 rfl) rfl 0 rfl ?_
  refine v_sipush F (v := 160) (dq dkX11_init_2 19 rfl) (by decide) ?_
  refine v_newai (kc1 := 18) (ks1 := 1755) F (tc2 _ (List.mem_of_getElem? (i := 11) rfl)) (by decide) (n' := 160) rfl (by decide) (Nat.le_of_ble_eq_true rfl) (Nat.le_of_ble_eq_true rfl) rfl rfl (dq dkX11_init_2 20 rfl) ?_
  refine v_eqM (gl_push (L' := (yl_43 K)) rfl) ?_
  exact hk
set_option maxRecDepth 100000 in
set_option maxHeartbeats 1000000 in
theorem s_X11_init_6 {C : Cx} {K : KE} (x : CS) (y : MS) (F : Fx C RX11 cX11_init 2 rm_X11_init K) (hnm : C.2.2.2.2.2.2.2.2.1.name = "<init>") (hk : V C 212 [(0, .ref (K.1 + (61)))] [.long 1751474548, .int 3, .ref (K.1 + (80)), .ref (K.1 + (80)), .ref (K.1 + (61))] (gl 61 (yl_48 K) (xf K x y).2) 19 1767) : V C 181 [(0, .ref (K.1 + (61)))] [.ref (K.1 + (79)), .ref (K.1 + (61))] (gl 61 (yl_43 K) (xf K x y).2) 18 1755 := by
  refine v_putF F hnm (61) (gl_lt 0 (Nat.le_of_ble_eq_true rfl)) (gl_at 0 rfl) rfl inlX11 tyX11_ok nmX11 30 (by decide) (tc12 _ (List.mem_of_getElem? (i := 14) rfl)) rfl rfl rfl (tyX11_ok 30 (by decide)) rfl rfl (Nat.le_of_ble_eq_true rfl) (dq dkX11_init_2 21 rfl) ?_
  refine v_eqM (gl_set (L' := (yl_44 K)) 0 (Nat.le_of_ble_eq_true rfl) rfl) ?_
  refine v_aload_n F (dq dkX11_init_2 22 rfl) rfl 0 rfl ?_
  refine v_bipush F (v := 12) (dq dkX11_init_2 23 rfl) (by decide) ?_
  refine v_newal (kc1 := 19) (ks1 := 1767) F (tc12 _ (List.mem_of_getElem? (i := 15) rfl)) (by decide) (n' := 12) rfl (by decide) (Nat.le_of_ble_eq_true rfl) (Nat.le_of_ble_eq_true rfl) rfl rfl (dq dkX11_init_2 24 rfl) ?_
  refine v_eqM (gl_push (L' := (yl_45 K)) rfl) ?_
  refine v_dup F (dq dkX11_init_2 25 rfl) rfl ?_
  refine v_iconst F (v := 0) (dq dkX11_init_2 26 rfl) (by decide) ?_
  refine v_ldc2 F (v := 1667785074) (tc12 _ (List.mem_of_getElem? (i := 16) rfl)) (dq dkX11_init_2 27 rfl) ?_
  refine v_last F (80) (gl_lt 19 (Nat.le_of_ble_eq_true rfl)) (gl_at 19 rfl) (ib_in (by decide)) (dq dkX11_init_2 28 rfl) ?_
  refine v_eqM (gl_set (L' := (yl_46 K)) 19 (Nat.le_of_ble_eq_true rfl) rfl) ?_
  refine v_dup F (dq dkX11_init_2 29 rfl) rfl ?_
  refine v_iconst F (v := 1) (dq dkX11_init_2 30 rfl) (by decide) ?_
  refine v_ldc2 F (v := 1886743660) (tc12 _ (List.mem_of_getElem? (i := 17) rfl)) (dq dkX11_init_2 31 rfl) ?_
  refine v_last F (80) (gl_lt 19 (Nat.le_of_ble_eq_true rfl)) (gl_at 19 rfl) (ib_in (by decide)) (dq dkX11_init_2 32 rfl) ?_
  refine v_eqM (gl_set (L' := (yl_47 K)) 19 (Nat.le_of_ble_eq_true rfl) rfl) ?_
  refine v_dup F (dq dkX11_init_2 33 rfl) rfl ?_
  refine v_iconst F (v := 2) (dq dkX11_init_2 34 rfl) (by decide) ?_
  refine v_ldc2 F (v := 495873781348) (tc12 _ (List.mem_of_getElem? (i := 18) rfl)) (dq dkX11_init_2 35 rfl) ?_
  refine v_last F (80) (gl_lt 19 (Nat.le_of_ble_eq_true rfl)) (gl_at 19 rfl) (ib_in (by decide)) (dq dkX11_init_2 36 rfl) ?_
  refine v_eqM (gl_set (L' := (yl_48 K)) 19 (Nat.le_of_ble_eq_true rfl) rfl) ?_
  refine v_dup F (dq dkX11_init_2 37 rfl) rfl ?_
  refine v_iconst F (v := 3) (dq dkX11_init_2 38 rfl) (by decide) ?_
  refine v_ldc2 F (v := 1751474548) (tc12 _ (List.mem_of_getElem? (i := 19) rfl)) (dq dkX11_init_2 39 rfl) ?_
  exact hk
set_option maxRecDepth 100000 in
set_option maxHeartbeats 1000000 in
theorem s_X11_init_7 {C : Cx} {K : KE} (x : CS) (y : MS) (F : Fx C RX11 cX11_init 2 rm_X11_init K) (hnm : C.2.2.2.2.2.2.2.2.1.name = "<init>") (hk : V C 242 [(0, .ref (K.1 + (61)))] [.int 8, .ref (K.1 + (80)), .ref (K.1 + (80)), .ref (K.1 + (61))] (gl 61 (yl_53 K) (xf K x y).2) 19 1767) : V C 212 [(0, .ref (K.1 + (61)))] [.long 1751474548, .int 3, .ref (K.1 + (80)), .ref (K.1 + (80)), .ref (K.1 + (61))] (gl 61 (yl_48 K) (xf K x y).2) 19 1767 := by
  refine v_last F (80) (gl_lt 19 (Nat.le_of_ble_eq_true rfl)) (gl_at 19 rfl) (ib_in (by decide)) (dq dkX11_init_3 0 rfl) ?_
  refine v_eqM (gl_set (L' := (yl_49 K)) 19 (Nat.le_of_ble_eq_true rfl) rfl) ?_
  refine v_dup F (dq dkX11_init_3 1 rfl) rfl ?_
  refine v_iconst F (v := 4) (dq dkX11_init_3 2 rfl) (by decide) ?_
  refine v_ldc2 F (v := 2003398244) (tc12 _ (List.mem_of_getElem? (i := 20) rfl)) (dq dkX11_init_3 3 rfl) ?_
  refine v_last F (80) (gl_lt 19 (Nat.le_of_ble_eq_true rfl)) (gl_at 19 rfl) (ib_in (by decide)) (dq dkX11_init_3 4 rfl) ?_
  refine v_eqM (gl_set (L' := (yl_50 K)) 19 (Nat.le_of_ble_eq_true rfl) rfl) ?_
  refine v_dup F (dq dkX11_init_3 5 rfl) rfl ?_
  refine v_iconst F (v := 5) (dq dkX11_init_3 6 rfl) (by decide) ?_
  refine v_ldc2 F (v := 7561584) (tc12 _ (List.mem_of_getElem? (i := 21) rfl)) (dq dkX11_init_3 7 rfl) ?_
  refine v_last F (80) (gl_lt 19 (Nat.le_of_ble_eq_true rfl)) (gl_at 19 rfl) (ib_in (by decide)) (dq dkX11_init_3 8 rfl) ?_
  refine v_eqM (gl_set (L' := (yl_51 K)) 19 (Nat.le_of_ble_eq_true rfl) rfl) ?_
  refine v_dup F (dq dkX11_init_3 9 rfl) rfl ?_
  refine v_bipush F (v := 6) (dq dkX11_init_3 10 rfl) (by decide) ?_
  refine v_ldc2 F (v := 499967943531) (tc12 _ (List.mem_of_getElem? (i := 22) rfl)) (dq dkX11_init_3 11 rfl) ?_
  refine v_last F (80) (gl_lt 19 (Nat.le_of_ble_eq_true rfl)) (gl_at 19 rfl) (ib_in (by decide)) (dq dkX11_init_3 12 rfl) ?_
  refine v_eqM (gl_set (L' := (yl_52 K)) 19 (Nat.le_of_ble_eq_true rfl) rfl) ?_
  refine v_dup F (dq dkX11_init_3 13 rfl) rfl ?_
  refine v_bipush F (v := 7) (dq dkX11_init_3 14 rfl) (by decide) ?_
  refine v_ldc2 F (v := 1802399604) (tc12 _ (List.mem_of_getElem? (i := 23) rfl)) (dq dkX11_init_3 15 rfl) ?_
  refine v_last F (80) (gl_lt 19 (Nat.le_of_ble_eq_true rfl)) (gl_at 19 rfl) (ib_in (by decide)) (dq dkX11_init_3 16 rfl) ?_
  refine v_eqM (gl_set (L' := (yl_53 K)) 19 (Nat.le_of_ble_eq_true rfl) rfl) ?_
  refine v_dup F (dq dkX11_init_3 17 rfl) rfl ?_
  refine v_bipush F (v := 8) (dq dkX11_init_3 18 rfl) (by decide) ?_
  exact hk
set_option maxRecDepth 100000 in
set_option maxHeartbeats 1000000 in
theorem s_X11_init_8 {C : Cx} {K : KE} (x : CS) (y : MS) (F : Fx C RX11 cX11_init 2 rm_X11_init K) (hnm : C.2.2.2.2.2.2.2.2.1.name = "<init>") (hk : V C 276 [(0, .ref (K.1 + (61)))] [.ref (K.1 + (81)), .ref (K.1 + (61))] (gl 61 (yl_59 K) (xf K x y).2) 20 1967) : V C 242 [(0, .ref (K.1 + (61)))] [.int 8, .ref (K.1 + (80)), .ref (K.1 + (80)), .ref (K.1 + (61))] (gl 61 (yl_53 K) (xf K x y).2) 19 1767 := by
  refine v_ldc2 F (v := 2003395685) (tc13 _ (List.mem_of_getElem? (i := 0) rfl)) (dq dkX11_init_3 19 rfl) ?_
  refine v_last F (80) (gl_lt 19 (Nat.le_of_ble_eq_true rfl)) (gl_at 19 rfl) (ib_in (by decide)) (dq dkX11_init_3 20 rfl) ?_
  refine v_eqM (gl_set (L' := (yl_54 K)) 19 (Nat.le_of_ble_eq_true rfl) rfl) ?_
  refine v_dup F (dq dkX11_init_3 21 rfl) rfl ?_
  refine v_bipush F (v := 9) (dq dkX11_init_3 22 rfl) (by decide) ?_
  refine v_ldc2 F (v := 28530) (tc13 _ (List.mem_of_getElem? (i := 1) rfl)) (dq dkX11_init_3 23 rfl) ?_
  refine v_last F (80) (gl_lt 19 (Nat.le_of_ble_eq_true rfl)) (gl_at 19 rfl) (ib_in (by decide)) (dq dkX11_init_3 24 rfl) ?_
  refine v_eqM (gl_set (L' := (yl_55 K)) 19 (Nat.le_of_ble_eq_true rfl) rfl) ?_
  refine v_dup F (dq dkX11_init_3 25 rfl) rfl ?_
  refine v_bipush F (v := 10) (dq dkX11_init_3 26 rfl) (by decide) ?_
  refine v_ldc2 F (v := 6385252) (tc13 _ (List.mem_of_getElem? (i := 2) rfl)) (dq dkX11_init_3 27 rfl) ?_
  refine v_last F (80) (gl_lt 19 (Nat.le_of_ble_eq_true rfl)) (gl_at 19 rfl) (ib_in (by decide)) (dq dkX11_init_3 28 rfl) ?_
  refine v_eqM (gl_set (L' := (yl_56 K)) 19 (Nat.le_of_ble_eq_true rfl) rfl) ?_
  refine v_dup F (dq dkX11_init_3 29 rfl) rfl ?_
  refine v_bipush F (v := 11) (dq dkX11_init_3 30 rfl) (by decide) ?_
  refine v_ldc2 F (v := 7237492) (tc13 _ (List.mem_of_getElem? (i := 3) rfl)) (dq dkX11_init_3 31 rfl) ?_
  refine v_last F (80) (gl_lt 19 (Nat.le_of_ble_eq_true rfl)) (gl_at 19 rfl) (ib_in (by decide)) (dq dkX11_init_3 32 rfl) ?_
  refine v_eqM (gl_set (L' := (yl_57 K)) 19 (Nat.le_of_ble_eq_true rfl) rfl) ?_
  refine v_putF F hnm (61) (gl_lt 0 (Nat.le_of_ble_eq_true rfl)) (gl_at 0 rfl) rfl inlX11 tyX11_ok nmX11 35 (by decide) (tc13 _ (List.mem_of_getElem? (i := 4) rfl)) rfl rfl rfl (tyX11_ok 35 (by decide)) rfl rfl (Nat.le_of_ble_eq_true rfl) (dq dkX11_init_3 33 rfl) ?_
  refine v_eqM (gl_set (L' := (yl_58 K)) 0 (Nat.le_of_ble_eq_true rfl) rfl) ?_
  refine v_aload_n F (dq dkX11_init_3 34 rfl) rfl 0 rfl ?_
  refine v_sipush F (v := 200) (dq dkX11_init_3 35 rfl) (by decide) ?_
  refine v_newai (kc1 := 20) (ks1 := 1967) F (tc2 _ (List.mem_of_getElem? (i := 11) rfl)) (by decide) (n' := 200) rfl (by decide) (Nat.le_of_ble_eq_true rfl) (Nat.le_of_ble_eq_true rfl) rfl rfl (dq dkX11_init_3 36 rfl) ?_
  refine v_eqM (gl_push (L' := (yl_59 K)) rfl) ?_
  exact hk
set_option maxRecDepth 100000 in
set_option maxHeartbeats 1000000 in
theorem s_X11_init_9 {C : Cx} {K : KE} (x : CS) (y : MS) (F : Fx C RX11 cX11_init 2 rm_X11_init K) (hnm : C.2.2.2.2.2.2.2.2.1.name = "<init>") (hk : V C 309 [(0, .ref (K.1 + (61)))] [.ref (K.1 + (85)), .ref (K.1 + (61))] (gl 61 (yl_67 K) (xf K x y).2) 24 2191) : V C 276 [(0, .ref (K.1 + (61)))] [.ref (K.1 + (81)), .ref (K.1 + (61))] (gl 61 (yl_59 K) (xf K x y).2) 20 1967 := by
  refine v_putF F hnm (61) (gl_lt 0 (Nat.le_of_ble_eq_true rfl)) (gl_at 0 rfl) rfl inlX11 tyX11_ok nmX11 36 (by decide) (tc13 _ (List.mem_of_getElem? (i := 5) rfl)) rfl rfl rfl (tyX11_ok 36 (by decide)) rfl rfl (Nat.le_of_ble_eq_true rfl) (dq dkX11_init_3 37 rfl) ?_
  refine v_eqM (gl_set (L' := (yl_60 K)) 0 (Nat.le_of_ble_eq_true rfl) rfl) ?_
  refine v_aload_n F (dq dkX11_init_3 38 rfl) rfl 0 rfl ?_
  refine v_sipush F (v := 200) (dq dkX11_init_3 39 rfl) (by decide) ?_
  refine v_newai (kc1 := 21) (ks1 := 2167) F (tc2 _ (List.mem_of_getElem? (i := 11) rfl)) (by decide) (n' := 200) rfl (by decide) (Nat.le_of_ble_eq_true rfl) (Nat.le_of_ble_eq_true rfl) rfl rfl (dq dkX11_init_4 0 rfl) ?_
  refine v_eqM (gl_push (L' := (yl_61 K)) rfl) ?_
  refine v_putF F hnm (61) (gl_lt 0 (Nat.le_of_ble_eq_true rfl)) (gl_at 0 rfl) rfl inlX11 tyX11_ok nmX11 40 (by decide) (tc13 _ (List.mem_of_getElem? (i := 6) rfl)) rfl rfl rfl (tyX11_ok 40 (by decide)) rfl rfl (Nat.le_of_ble_eq_true rfl) (dq dkX11_init_4 1 rfl) ?_
  refine v_eqM (gl_set (L' := (yl_62 K)) 0 (Nat.le_of_ble_eq_true rfl) rfl) ?_
  refine v_aload_n F (dq dkX11_init_4 2 rfl) rfl 0 rfl ?_
  refine v_bipush F (v := 6) (dq dkX11_init_4 3 rfl) (by decide) ?_
  refine v_newai (kc1 := 22) (ks1 := 2173) F (tc2 _ (List.mem_of_getElem? (i := 11) rfl)) (by decide) (n' := 6) rfl (by decide) (Nat.le_of_ble_eq_true rfl) (Nat.le_of_ble_eq_true rfl) rfl rfl (dq dkX11_init_4 4 rfl) ?_
  refine v_eqM (gl_push (L' := (yl_63 K)) rfl) ?_
  refine v_putF F hnm (61) (gl_lt 0 (Nat.le_of_ble_eq_true rfl)) (gl_at 0 rfl) rfl inlX11 tyX11_ok nmX11 41 (by decide) (tc13 _ (List.mem_of_getElem? (i := 7) rfl)) rfl rfl rfl (tyX11_ok 41 (by decide)) rfl rfl (Nat.le_of_ble_eq_true rfl) (dq dkX11_init_4 5 rfl) ?_
  refine v_eqM (gl_set (L' := (yl_64 K)) 0 (Nat.le_of_ble_eq_true rfl) rfl) ?_
  refine v_aload_n F (dq dkX11_init_4 6 rfl) rfl 0 rfl ?_
  refine v_bipush F (v := 9) (dq dkX11_init_4 7 rfl) (by decide) ?_
  refine v_newai (kc1 := 23) (ks1 := 2182) F (tc2 _ (List.mem_of_getElem? (i := 11) rfl)) (by decide) (n' := 9) rfl (by decide) (Nat.le_of_ble_eq_true rfl) (Nat.le_of_ble_eq_true rfl) rfl rfl (dq dkX11_init_4 8 rfl) ?_
  refine v_eqM (gl_push (L' := (yl_65 K)) rfl) ?_
  refine v_putF F hnm (61) (gl_lt 0 (Nat.le_of_ble_eq_true rfl)) (gl_at 0 rfl) rfl inlX11 tyX11_ok nmX11 42 (by decide) (tc13 _ (List.mem_of_getElem? (i := 8) rfl)) rfl rfl rfl (tyX11_ok 42 (by decide)) rfl rfl (Nat.le_of_ble_eq_true rfl) (dq dkX11_init_4 9 rfl) ?_
  refine v_eqM (gl_set (L' := (yl_66 K)) 0 (Nat.le_of_ble_eq_true rfl) rfl) ?_
  refine v_aload_n F (dq dkX11_init_4 10 rfl) rfl 0 rfl ?_
  refine v_bipush F (v := 9) (dq dkX11_init_4 11 rfl) (by decide) ?_
  refine v_newai (kc1 := 24) (ks1 := 2191) F (tc2 _ (List.mem_of_getElem? (i := 11) rfl)) (by decide) (n' := 9) rfl (by decide) (Nat.le_of_ble_eq_true rfl) (Nat.le_of_ble_eq_true rfl) rfl rfl (dq dkX11_init_4 12 rfl) ?_
  refine v_eqM (gl_push (L' := (yl_67 K)) rfl) ?_
  exact hk
set_option maxRecDepth 100000 in
set_option maxHeartbeats 1000000 in
theorem s_X11_init_10 {C : Cx} {K : KE} (x : CS) (y : MS) (F : Fx C RX11 cX11_init 2 rm_X11_init K) (hnm : C.2.2.2.2.2.2.2.2.1.name = "<init>") (hk : V C 328 [(0, .ref (K.1 + (61)))] [] (gl 61 (yl_72 K) (xf K x y).2) 26 2240) : V C 309 [(0, .ref (K.1 + (61)))] [.ref (K.1 + (85)), .ref (K.1 + (61))] (gl 61 (yl_67 K) (xf K x y).2) 24 2191 := by
  refine v_putF F hnm (61) (gl_lt 0 (Nat.le_of_ble_eq_true rfl)) (gl_at 0 rfl) rfl inlX11 tyX11_ok nmX11 43 (by decide) (tc13 _ (List.mem_of_getElem? (i := 9) rfl)) rfl rfl rfl (tyX11_ok 43 (by decide)) rfl rfl (Nat.le_of_ble_eq_true rfl) (dq dkX11_init_4 13 rfl) ?_
  refine v_eqM (gl_set (L' := (yl_68 K)) 0 (Nat.le_of_ble_eq_true rfl) rfl) ?_
  refine v_aload_n F (dq dkX11_init_4 14 rfl) rfl 0 rfl ?_
  refine v_bipush F (v := 9) (dq dkX11_init_4 15 rfl) (by decide) ?_
  refine v_newai (kc1 := 25) (ks1 := 2200) F (tc2 _ (List.mem_of_getElem? (i := 11) rfl)) (by decide) (n' := 9) rfl (by decide) (Nat.le_of_ble_eq_true rfl) (Nat.le_of_ble_eq_true rfl) rfl rfl (dq dkX11_init_4 16 rfl) ?_
  refine v_eqM (gl_push (L' := (yl_69 K)) rfl) ?_
  refine v_putF F hnm (61) (gl_lt 0 (Nat.le_of_ble_eq_true rfl)) (gl_at 0 rfl) rfl inlX11 tyX11_ok nmX11 44 (by decide) (tc13 _ (List.mem_of_getElem? (i := 10) rfl)) rfl rfl rfl (tyX11_ok 44 (by decide)) rfl rfl (Nat.le_of_ble_eq_true rfl) (dq dkX11_init_4 17 rfl) ?_
  refine v_eqM (gl_set (L' := (yl_70 K)) 0 (Nat.le_of_ble_eq_true rfl) rfl) ?_
  refine v_aload_n F (dq dkX11_init_4 18 rfl) rfl 0 rfl ?_
  refine v_bipush F (v := 40) (dq dkX11_init_4 19 rfl) (by decide) ?_
  refine v_newai (kc1 := 26) (ks1 := 2240) F (tc2 _ (List.mem_of_getElem? (i := 11) rfl)) (by decide) (n' := 40) rfl (by decide) (Nat.le_of_ble_eq_true rfl) (Nat.le_of_ble_eq_true rfl) rfl rfl (dq dkX11_init_4 20 rfl) ?_
  refine v_eqM (gl_push (L' := (yl_71 K)) rfl) ?_
  refine v_putF F hnm (61) (gl_lt 0 (Nat.le_of_ble_eq_true rfl)) (gl_at 0 rfl) rfl inlX11 tyX11_ok nmX11 51 (by decide) (tc13 _ (List.mem_of_getElem? (i := 11) rfl)) rfl rfl rfl (tyX11_ok 51 (by decide)) rfl rfl (Nat.le_of_ble_eq_true rfl) (dq dkX11_init_4 21 rfl) ?_
  refine v_eqM (gl_set (L' := (yl_72 K)) 0 (Nat.le_of_ble_eq_true rfl) rfl) ?_
  exact hk
set_option maxRecDepth 100000 in
set_option maxHeartbeats 1000000 in
theorem c_X11_init {K : KE} {l : Launch} {R : MS} (x : CS) (y : MS) (h : f_X11_init_328 y0m = some R) : MC K l yX11_init cX11_init 2 none rm_X11_init 26 2240 [.ref (K.1 + (61))] (gl 61 (yl_0 K) (xf K x y).2) (xfM K 0 (x27 x) R) none := by
  refine mc_of (ls0 := [(0, .ref (K.1 + (61)))]) (by decide) (Nat.le_of_ble_eq_true rfl) rfl (fun C hl hnm F E => ?_)
  have F : Fx C RX11 cX11_init 2 rm_X11_init K := F
  refine s_X11_init_0 x y F hnm ?_
  refine s_X11_init_1 x y F hnm ?_
  refine s_X11_init_2 x y F hnm ?_
  refine s_X11_init_3 x y F hnm ?_
  refine s_X11_init_4 x y F hnm ?_
  refine s_X11_init_5 x y F hnm ?_
  refine s_X11_init_6 x y F hnm ?_
  refine s_X11_init_7 x y F hnm ?_
  refine s_X11_init_8 x y F hnm ?_
  refine s_X11_init_9 x y F hnm ?_
  refine s_X11_init_10 x y F hnm ?_
  refine v_eqW (M' := xf K (x27 x) y0m) rfl y0_all ?_
  refine v_eqM (xfM_of (nn := 0) rfl) ?_
  exact t_X11_init_328 (nn := 0) (x := x27 x) y0m 26 2240 (by decide) (by decide) h F E
