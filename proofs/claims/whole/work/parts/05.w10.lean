def rm_X10_asks : Room := { frames := 5, cells := 0, slots := 0, locals := 115 }
def f_X10_asks_40 (x : CS) : Option (Int32 × CS) := some ((-2), x)
set_option maxRecDepth 100000 in
set_option maxHeartbeats 4000000 in
theorem t_X10_asks_40 {C : Cx} {K : KE} {y : MS} {R : Int32 × CS}  (x : CS) (h : f_X10_asks_40 x = some R) (F : Fx C RX10 cX10_asks 5 rm_X10_asks K) (E : CE C (xf K R.2 y) (some (.int R.1)) 0 0 (some .int)) : V C 40 [] [] (xf K x y) 0 0 := by
  unfold f_X10_asks_40 at h
  refine v_bipush F (v := (-2)) (dq dkX10_asks_0 20 rfl) kb_m2 ?_
  have h := Option.some.inj h
  subst h
  exact v_iret F E (dq dkX10_asks_0 21 rfl)
def f_X10_asks (x : CS) (a1 : Int32) (a2 : Int32) (a3 : Int32) (a4 : Int32) : Option (Int32 × CS) := if (b2i (f_X10_within a1 0 2)) = 0 then (f_X10_asks_40 x) else (if (b2i (f_X10_within a2 0 20)) = 0 then (f_X10_asks_40 x) else (if (b2i (f_X10_within a3 0 198)) = 0 then (f_X10_asks_40 x) else (if (b2i (f_X10_within a4 0 1)) = 0 then (f_X10_asks_40 x) else ((f_X2_begin x).bind fun r9 => (f_X2_asked r9 a1 a2 a3 a4).bind fun r11 => some (r11.1, r11.2)))))
set_option maxRecDepth 100000 in
set_option maxHeartbeats 4000000 in
theorem c_X10_asks {K : KE} {l : Launch} {R : Int32 × CS} (x : CS) (y : MS) (a1 : Int32) (a2 : Int32) (a3 : Int32) (a4 : Int32) (h : f_X10_asks x a1 a2 a3 a4 = some R) : MC K l yX10_asks cX10_asks 5 (some .int) rm_X10_asks 0 0 [.ref (K.1 + 0), .int a1, .int a2, .int a3, .int a4] (xf K x y) (xf K R.2 y) (some (.int R.1)) := by
  unfold f_X10_asks at h
  refine mc_of (ls0 := [(0, .ref (K.1 + 0)), (1, .int a1), (2, .int a2), (3, .int a3), (4, .int a4)]) (by decide) (Nat.le_of_ble_eq_true rfl) rfl (fun C hl hnm F E => ?_)
  have F : Fx C RX10 cX10_asks 5 rm_X10_asks K := F
  refine v_iload_n F (dq dkX10_asks_0 0 rfl) rfl 1 rfl ?_
  refine v_iconst F (v := 0) (dq dkX10_asks_0 1 rfl) ki_0 ?_
  refine v_iconst F (v := 2) (dq dkX10_asks_0 2 rfl) ki_2 ?_
  refine v_callS 3 F (kc1 := 0) (ks1 := 0) (as := [.int a1, .int 0, .int 2]) (st := []) (st1 := (.int (b2i (f_X10_within a1 0 2)) :: [])) (res := (some (.int (b2i (f_X10_within a1 0 2))))) (c_X10_within (l := C.2.1) a1 0 2) (tc14 _ (List.mem_of_getElem? (i := 3) rfl)) (tc8 _ (List.mem_of_getElem? (i := 15) rfl)) (tc1 _ (List.mem_of_getElem? (i := 2) rfl)) (tc8 _ (List.mem_of_getElem? (i := 16) rfl)) (by decide) rfl ⟨rfl, rfl, Nat.le_of_ble_eq_true rfl, Nat.le_of_ble_eq_true rfl⟩ ⟨Nat.le_of_ble_eq_true rfl, Nat.le_of_ble_eq_true rfl⟩ rfl (Nat.le_of_ble_eq_true rfl) rfl rfl rfl (dq dkX10_asks_0 3 rfl) ?_
  refine v_if_eq F (tgt := 40) (dq dkX10_asks_0 4 rfl) (by decide) (fun c2 => ?_) (fun c2 => ?_)
  · rw [if_pos c2] at h
    refine v_sub [] rfl ?_
    exact t_X10_asks_40 x h F E
  · rw [if_neg c2] at h
    refine v_iload_n F (dq dkX10_asks_0 5 rfl) rfl 2 rfl ?_
    refine v_iconst F (v := 0) (dq dkX10_asks_0 6 rfl) ki_0 ?_
    refine v_bipush F (v := 20) (dq dkX10_asks_0 7 rfl) kb_20 ?_
    refine v_callS 3 F (kc1 := 0) (ks1 := 0) (as := [.int a2, .int 0, .int 20]) (st := []) (st1 := (.int (b2i (f_X10_within a2 0 20)) :: [])) (res := (some (.int (b2i (f_X10_within a2 0 20))))) (c_X10_within (l := C.2.1) a2 0 20) (tc14 _ (List.mem_of_getElem? (i := 3) rfl)) (tc8 _ (List.mem_of_getElem? (i := 15) rfl)) (tc1 _ (List.mem_of_getElem? (i := 2) rfl)) (tc8 _ (List.mem_of_getElem? (i := 16) rfl)) (by decide) rfl ⟨rfl, rfl, Nat.le_of_ble_eq_true rfl, Nat.le_of_ble_eq_true rfl⟩ ⟨Nat.le_of_ble_eq_true rfl, Nat.le_of_ble_eq_true rfl⟩ rfl (Nat.le_of_ble_eq_true rfl) rfl rfl rfl (dq dkX10_asks_0 8 rfl) ?_
    refine v_if_eq F (tgt := 40) (dq dkX10_asks_0 9 rfl) (by decide) (fun c4 => ?_) (fun c4 => ?_)
    · rw [if_pos c4] at h
      refine v_sub [] rfl ?_
      exact t_X10_asks_40 x h F E
    · rw [if_neg c4] at h
      refine v_iload_n F (dq dkX10_asks_0 10 rfl) rfl 3 rfl ?_
      refine v_iconst F (v := 0) (dq dkX10_asks_0 11 rfl) ki_0 ?_
      refine v_sipush F (v := 198) (dq dkX10_asks_0 12 rfl) ks_198 ?_
      refine v_callS 3 F (kc1 := 0) (ks1 := 0) (as := [.int a3, .int 0, .int 198]) (st := []) (st1 := (.int (b2i (f_X10_within a3 0 198)) :: [])) (res := (some (.int (b2i (f_X10_within a3 0 198))))) (c_X10_within (l := C.2.1) a3 0 198) (tc14 _ (List.mem_of_getElem? (i := 3) rfl)) (tc8 _ (List.mem_of_getElem? (i := 15) rfl)) (tc1 _ (List.mem_of_getElem? (i := 2) rfl)) (tc8 _ (List.mem_of_getElem? (i := 16) rfl)) (by decide) rfl ⟨rfl, rfl, Nat.le_of_ble_eq_true rfl, Nat.le_of_ble_eq_true rfl⟩ ⟨Nat.le_of_ble_eq_true rfl, Nat.le_of_ble_eq_true rfl⟩ rfl (Nat.le_of_ble_eq_true rfl) rfl rfl rfl (dq dkX10_asks_0 13 rfl) ?_
      refine v_if_eq F (tgt := 40) (dq dkX10_asks_0 14 rfl) (by decide) (fun c6 => ?_) (fun c6 => ?_)
      · rw [if_pos c6] at h
        refine v_sub [] rfl ?_
        exact t_X10_asks_40 x h F E
      · rw [if_neg c6] at h
        refine v_iload F (dq dkX10_asks_0 15 rfl) 4 rfl ?_
        refine v_iconst F (v := 0) (dq dkX10_asks_0 16 rfl) ki_0 ?_
        refine v_iconst F (v := 1) (dq dkX10_asks_0 17 rfl) ki_1 ?_
        refine v_callS 3 F (kc1 := 0) (ks1 := 0) (as := [.int a4, .int 0, .int 1]) (st := []) (st1 := (.int (b2i (f_X10_within a4 0 1)) :: [])) (res := (some (.int (b2i (f_X10_within a4 0 1))))) (c_X10_within (l := C.2.1) a4 0 1) (tc14 _ (List.mem_of_getElem? (i := 3) rfl)) (tc8 _ (List.mem_of_getElem? (i := 15) rfl)) (tc1 _ (List.mem_of_getElem? (i := 2) rfl)) (tc8 _ (List.mem_of_getElem? (i := 16) rfl)) (by decide) rfl ⟨rfl, rfl, Nat.le_of_ble_eq_true rfl, Nat.le_of_ble_eq_true rfl⟩ ⟨Nat.le_of_ble_eq_true rfl, Nat.le_of_ble_eq_true rfl⟩ rfl (Nat.le_of_ble_eq_true rfl) rfl rfl rfl (dq dkX10_asks_0 18 rfl) ?_
        refine v_if_ne F (tgt := 43) (dq dkX10_asks_0 19 rfl) (by decide) (fun c8 => ?_) (fun c8 => ?_)
        · rw [if_neg c8] at h
          refine v_aload_n F (dq dkX10_asks_0 22 rfl) rfl 0 rfl ?_
          refine v_get F 0 (xn (by decide)) xc_0 rfl inlX10 7 (by decide) (tc2 _ (List.mem_of_getElem? (i := 20) rfl)) rfl rfl (dq dkX10_asks_0 23 rfl) ?_
          obtain ⟨r9, e10, h⟩ := bd_of h
          refine v_callV 0 F (q := 48) (kc1 := 0) (ks1 := 0) (as := []) (st := []) (st1 := []) (res := none) (c_X2_begin (l := C.2.1) x y e10) (xn (by decide)) xc_48 rfl (tc20 _ (List.mem_of_getElem? (i := 9) rfl)) (tc20 _ (List.mem_of_getElem? (i := 10) rfl)) (tc20 _ (List.mem_of_getElem? (i := 11) rfl)) (tc2 _ (List.mem_of_getElem? (i := 19) rfl)) (tc20 _ (List.mem_of_getElem? (i := 12) rfl)) (by decide) rfl ⟨rfl, rfl, Nat.le_of_ble_eq_true rfl, Nat.le_of_ble_eq_true rfl⟩ ⟨Nat.le_of_ble_eq_true rfl, Nat.le_of_ble_eq_true rfl⟩ rfl (Nat.le_of_ble_eq_true rfl) rfl rfl rfl (dq dkX10_asks_0 24 rfl) ?_
          refine v_aload_n F (dq dkX10_asks_0 25 rfl) rfl 0 rfl ?_
          refine v_get F 0 (xn (by decide)) xc_0 rfl inlX10 7 (by decide) (tc2 _ (List.mem_of_getElem? (i := 20) rfl)) rfl rfl (dq dkX10_asks_0 26 rfl) ?_
          refine v_iload_n F (dq dkX10_asks_0 27 rfl) rfl 1 rfl ?_
          refine v_iload_n F (dq dkX10_asks_0 28 rfl) rfl 2 rfl ?_
          refine v_iload_n F (dq dkX10_asks_0 29 rfl) rfl 3 rfl ?_
          refine v_iload F (dq dkX10_asks_0 30 rfl) 4 rfl ?_
          obtain ⟨r11, e12, h⟩ := bd_of h
          refine v_callV 4 F (q := 48) (kc1 := 0) (ks1 := 0) (as := [.int a1, .int a2, .int a3, .int a4]) (st := []) (st1 := (.int r11.1 :: [])) (res := (some (.int r11.1))) (c_X2_asked (l := C.2.1) r9 y a1 a2 a3 a4 e12) (xn (by decide)) xc_48 rfl (tc20 _ (List.mem_of_getElem? (i := 15) rfl)) (tc20 _ (List.mem_of_getElem? (i := 16) rfl)) (tc20 _ (List.mem_of_getElem? (i := 17) rfl)) (tc2 _ (List.mem_of_getElem? (i := 19) rfl)) (tc20 _ (List.mem_of_getElem? (i := 18) rfl)) (by decide) rfl ⟨rfl, rfl, Nat.le_of_ble_eq_true rfl, Nat.le_of_ble_eq_true rfl⟩ ⟨Nat.le_of_ble_eq_true rfl, Nat.le_of_ble_eq_true rfl⟩ rfl (Nat.le_of_ble_eq_true rfl) rfl rfl rfl (dq dkX10_asks_0 31 rfl) ?_
          have h := Option.some.inj h
          subst h
          exact v_iret F E (dq dkX10_asks_0 32 rfl)
        · rw [if_pos c8] at h
          refine v_sub [] rfl ?_
          exact t_X10_asks_40 x h F E
def rm_X10_work : Room := { frames := 3, cells := 0, slots := 0, locals := 75 }
def f_X10_work (x : CS) (a1 : Int32) (a2 : Int32) (a3 : Int32) : Option (Int32 × CS) := (f_X9_add x a1 a2 a3).bind fun r1 => some (r1.1, r1.2)
set_option maxRecDepth 100000 in
set_option maxHeartbeats 4000000 in
theorem c_X10_work {K : KE} {l : Launch} {R : Int32 × CS} (x : CS) (y : MS) (a1 : Int32) (a2 : Int32) (a3 : Int32) (h : f_X10_work x a1 a2 a3 = some R) : MC K l yX10_work cX10_work 4 (some .int) rm_X10_work 0 0 [.ref (K.1 + 0), .int a1, .int a2, .int a3] (xf K x y) (xf K R.2 y) (some (.int R.1)) := by
  unfold f_X10_work at h
  refine mc_of (ls0 := [(0, .ref (K.1 + 0)), (1, .int a1), (2, .int a2), (3, .int a3)]) (by decide) (Nat.le_of_ble_eq_true rfl) rfl (fun C hl hnm F E => ?_)
  have F : Fx C RX10 cX10_work 4 rm_X10_work K := F
  refine v_aload_n F (dq dkX10_work_0 0 rfl) rfl 0 rfl ?_
  refine v_get F 0 (xn (by decide)) xc_0 rfl inlX10 3 (by decide) (tc2 _ (List.mem_of_getElem? (i := 4) rfl)) rfl rfl (dq dkX10_work_0 1 rfl) ?_
  refine v_iload_n F (dq dkX10_work_0 2 rfl) rfl 1 rfl ?_
  refine v_iload_n F (dq dkX10_work_0 3 rfl) rfl 2 rfl ?_
  refine v_iload_n F (dq dkX10_work_0 4 rfl) rfl 3 rfl ?_
  obtain ⟨r1, e2, h⟩ := bd_of h
  refine v_callV 3 F (q := 30) (kc1 := 0) (ks1 := 0) (as := [.int a1, .int a2, .int a3]) (st := []) (st1 := (.int r1.1 :: [])) (res := (some (.int r1.1))) (c_X9_add (l := C.2.1) x y a1 a2 a3 e2) (xn (by decide)) xc_30 rfl (tc22 _ (List.mem_of_getElem? (i := 8) rfl)) (tc22 _ (List.mem_of_getElem? (i := 9) rfl)) (tc22 _ (List.mem_of_getElem? (i := 10) rfl)) (tc2 _ (List.mem_of_getElem? (i := 3) rfl)) (tc22 _ (List.mem_of_getElem? (i := 11) rfl)) (by decide) rfl ⟨rfl, rfl, Nat.le_of_ble_eq_true rfl, Nat.le_of_ble_eq_true rfl⟩ ⟨Nat.le_of_ble_eq_true rfl, Nat.le_of_ble_eq_true rfl⟩ rfl (Nat.le_of_ble_eq_true rfl) rfl rfl rfl (dq dkX10_work_0 5 rfl) ?_
  have h := Option.some.inj h
  subst h
  exact v_iret F E (dq dkX10_work_0 6 rfl)
def rm_X10_forget : Room := { frames := 1, cells := 0, slots := 0, locals := 30 }
def f_X10_forget (x : CS) : Int32 × CS := if 1 ≤ (gi x 30 3) then ((gi (pi x 30 3 ((gi x 30 3) - 1)) 30 3, pi x 30 3 ((gi x 30 3) - 1))) else (((-3), x))
set_option maxRecDepth 100000 in
set_option maxHeartbeats 4000000 in
theorem c_X10_forget {K : KE} {l : Launch} (x : CS) (y : MS) : MC K l yX10_forget cX10_forget 1 (some .int) rm_X10_forget 0 0 [.ref (K.1 + 0)] (xf K x y) (xf K ((f_X10_forget x).2) y) (some (.int (f_X10_forget x).1)) := by
  obtain ⟨R, h⟩ : ∃ R, f_X10_forget x = R := ⟨_, rfl⟩
  rw [h]
  unfold f_X10_forget at h
  refine mc_of (ls0 := [(0, .ref (K.1 + 0))]) (by decide) (Nat.le_of_ble_eq_true rfl) rfl (fun C hl hnm F E => ?_)
  have F : Fx C RX10 cX10_forget 1 rm_X10_forget K := F
  refine v_aload_n F (dq dkX10_forget_0 0 rfl) rfl 0 rfl ?_
  refine v_get F 0 (xn (by decide)) xc_0 rfl inlX10 3 (by decide) (tc2 _ (List.mem_of_getElem? (i := 4) rfl)) rfl rfl (dq dkX10_forget_0 1 rfl) ?_
  refine v_getN F 30 (xn (by decide)) xc_30 rfl inlX9 3 (by decide) (List.mem_of_getElem? (i := 6) rfl) rfl rfl (dq dkX10_forget_0 2 rfl) ?_
  refine v_iconst F (v := 1) (dq dkX10_forget_0 3 rfl) ki_1 ?_
  refine v_icmp_ge F (tgt := 14) (dq dkX10_forget_0 4 rfl) (by decide) (fun c1 => ?_) (fun c1 => ?_)
  · rw [if_pos c1] at h
    refine v_aload_n F (dq dkX10_forget_0 7 rfl) rfl 0 rfl ?_
    refine v_get F 0 (xn (by decide)) xc_0 rfl inlX10 3 (by decide) (tc2 _ (List.mem_of_getElem? (i := 4) rfl)) rfl rfl (dq dkX10_forget_0 8 rfl) ?_
    refine v_dup F (dq dkX10_forget_0 9 rfl) rfl ?_
    refine v_getN F 30 (xn (by decide)) xc_30 rfl inlX9 3 (by decide) (List.mem_of_getElem? (i := 6) rfl) rfl rfl (dq dkX10_forget_0 10 rfl) ?_
    refine v_iconst F (v := 1) (dq dkX10_forget_0 11 rfl) ki_1 ?_
    refine v_isub F (dq dkX10_forget_0 12 rfl) ?_
    refine v_putN F 30 (xn (by decide)) xc_30 rfl inlX9 tyX9_ok nmX9 3 (by decide) (List.mem_of_getElem? (i := 6) rfl) rfl rfl (tyX9_ok 3 (by decide)) rfl rfl (Nat.le_of_ble_eq_true rfl) (dq dkX10_forget_0 13 rfl) ?_
    refine v_eqM (xwC (q := 30) (j := 3) (v := (gi x 30 3) - 1) (by decide) rfl) ?_
    refine v_aload_n F (dq dkX10_forget_0 14 rfl) rfl 0 rfl ?_
    refine v_get F 0 (xn (by decide)) xc_0 rfl inlX10 3 (by decide) (tc2 _ (List.mem_of_getElem? (i := 4) rfl)) rfl rfl (dq dkX10_forget_0 15 rfl) ?_
    refine v_getN F 30 (xn (by decide)) xc_30 rfl inlX9 3 (by decide) (List.mem_of_getElem? (i := 6) rfl) rfl rfl (dq dkX10_forget_0 16 rfl) ?_
    subst h
    exact v_iret F E (dq dkX10_forget_0 17 rfl)
  · rw [if_neg c1] at h
    refine v_bipush F (v := (-3)) (dq dkX10_forget_0 5 rfl) kb_m3 ?_
    subst h
    exact v_iret F E (dq dkX10_forget_0 6 rfl)
def rm_X10_workTold : Room := { frames := 5, cells := 0, slots := 0, locals := 117 }
def f_X10_workTold (x : CS) (a1 : Int32) (a2 : Int32) : Option (Int32) := if (b2i (f_X9_has x a1)) = 0 then (some (-5)) else (if a2 = 0 then ((f_X9_kind x a1).bind fun r4 => some r4) else (if a2 = 1 then ((f_X9_section x a1).bind fun r7 => some r7) else (if a2 = 2 then ((f_X9_more x a1).bind fun r10 => some r10) else (if a2 = 3 then ((f_X8_setting x 1 3).bind fun r13 => (f_X9_daysBy x a1 r13).bind fun r15 => some r15) else (some (-7))))))
set_option maxRecDepth 100000 in
set_option maxHeartbeats 4000000 in
theorem c_X10_workTold {K : KE} {l : Launch} {R : Int32} (x : CS) (y : MS) (a1 : Int32) (a2 : Int32) (h : f_X10_workTold x a1 a2 = some R) : MC K l yX10_workTold cX10_workTold 3 (some .int) rm_X10_workTold 0 0 [.ref (K.1 + 0), .int a1, .int a2] (xf K x y) (xf K x y) (some (.int R)) := by
  unfold f_X10_workTold at h
  refine mc_of (ls0 := [(0, .ref (K.1 + 0)), (1, .int a1), (2, .int a2)]) (by decide) (Nat.le_of_ble_eq_true rfl) rfl (fun C hl hnm F E => ?_)
  have F : Fx C RX10 cX10_workTold 3 rm_X10_workTold K := F
  refine v_aload_n F (dq dkX10_workTold_0 0 rfl) rfl 0 rfl ?_
  refine v_get F 0 (xn (by decide)) xc_0 rfl inlX10 3 (by decide) (tc2 _ (List.mem_of_getElem? (i := 4) rfl)) rfl rfl (dq dkX10_workTold_0 1 rfl) ?_
  refine v_iload_n F (dq dkX10_workTold_0 2 rfl) rfl 1 rfl ?_
  refine v_callV 1 F (q := 30) (kc1 := 0) (ks1 := 0) (as := [.int a1]) (st := []) (st1 := (.int (b2i (f_X9_has x a1)) :: [])) (res := (some (.int (b2i (f_X9_has x a1))))) (c_X9_has (l := C.2.1) x y a1) (xn (by decide)) xc_30 rfl (tc23 _ (List.mem_of_getElem? (i := 4) rfl)) (tc23 _ (List.mem_of_getElem? (i := 5) rfl)) (tc23 _ (List.mem_of_getElem? (i := 6) rfl)) (tc2 _ (List.mem_of_getElem? (i := 3) rfl)) (tc23 _ (List.mem_of_getElem? (i := 7) rfl)) (by decide) rfl ⟨rfl, rfl, Nat.le_of_ble_eq_true rfl, Nat.le_of_ble_eq_true rfl⟩ ⟨Nat.le_of_ble_eq_true rfl, Nat.le_of_ble_eq_true rfl⟩ rfl (Nat.le_of_ble_eq_true rfl) rfl rfl rfl (dq dkX10_workTold_0 3 rfl) ?_
  refine v_if_ne F (tgt := 14) (dq dkX10_workTold_0 4 rfl) (by decide) (fun c2 => ?_) (fun c2 => ?_)
  · rw [if_neg c2] at h
    refine v_iload_n F (dq dkX10_workTold_0 7 rfl) rfl 2 rfl ?_
    by_cases c3 : a2 = 0
    · rw [if_pos c3] at h
      refine v_tblIn F (off := 29) (tgt := 44) (dq dkX10_workTold_0 8 rfl) (by rw [c3]; decide) (by rw [c3]; decide) (by rw [c3]; rfl) (by decide) ?_
      refine v_aload_n F (dq dkX10_workTold_0 9 rfl) rfl 0 rfl ?_
      refine v_get F 0 (xn (by decide)) xc_0 rfl inlX10 3 (by decide) (tc2 _ (List.mem_of_getElem? (i := 4) rfl)) rfl rfl (dq dkX10_workTold_0 10 rfl) ?_
      refine v_iload_n F (dq dkX10_workTold_0 11 rfl) rfl 1 rfl ?_
      obtain ⟨r4, e5, h⟩ := bd_of h
      refine v_callV 1 F (q := 30) (kc1 := 0) (ks1 := 0) (as := [.int a1]) (st := []) (st1 := (.int r4 :: [])) (res := (some (.int r4))) (c_X9_kind (l := C.2.1) x y a1 e5) (xn (by decide)) xc_30 rfl (tc23 _ (List.mem_of_getElem? (i := 8) rfl)) (tc23 _ (List.mem_of_getElem? (i := 9) rfl)) (tc23 _ (List.mem_of_getElem? (i := 10) rfl)) (tc2 _ (List.mem_of_getElem? (i := 3) rfl)) (tc23 _ (List.mem_of_getElem? (i := 11) rfl)) (by decide) rfl ⟨rfl, rfl, Nat.le_of_ble_eq_true rfl, Nat.le_of_ble_eq_true rfl⟩ ⟨Nat.le_of_ble_eq_true rfl, Nat.le_of_ble_eq_true rfl⟩ rfl (Nat.le_of_ble_eq_true rfl) rfl rfl rfl (dq dkX10_workTold_0 12 rfl) ?_
      have h := Option.some.inj h
      subst h
      exact v_iret F E (dq dkX10_workTold_0 13 rfl)
    rw [if_neg c3] at h
    by_cases c6 : a2 = 1
    · rw [if_pos c6] at h
      refine v_tblIn F (off := 38) (tgt := 53) (dq dkX10_workTold_0 8 rfl) (by rw [c6]; decide) (by rw [c6]; decide) (by rw [c6]; rfl) (by decide) ?_
      refine v_aload_n F (dq dkX10_workTold_0 14 rfl) rfl 0 rfl ?_
      refine v_get F 0 (xn (by decide)) xc_0 rfl inlX10 3 (by decide) (tc2 _ (List.mem_of_getElem? (i := 4) rfl)) rfl rfl (dq dkX10_workTold_0 15 rfl) ?_
      refine v_iload_n F (dq dkX10_workTold_0 16 rfl) rfl 1 rfl ?_
      obtain ⟨r7, e8, h⟩ := bd_of h
      refine v_callV 1 F (q := 30) (kc1 := 0) (ks1 := 0) (as := [.int a1]) (st := []) (st1 := (.int r7 :: [])) (res := (some (.int r7))) (c_X9_section (l := C.2.1) x y a1 e8) (xn (by decide)) xc_30 rfl (tc23 _ (List.mem_of_getElem? (i := 13) rfl)) (tc23 _ (List.mem_of_getElem? (i := 14) rfl)) (tc23 _ (List.mem_of_getElem? (i := 15) rfl)) (tc2 _ (List.mem_of_getElem? (i := 3) rfl)) (tc23 _ (List.mem_of_getElem? (i := 16) rfl)) (by decide) rfl ⟨rfl, rfl, Nat.le_of_ble_eq_true rfl, Nat.le_of_ble_eq_true rfl⟩ ⟨Nat.le_of_ble_eq_true rfl, Nat.le_of_ble_eq_true rfl⟩ rfl (Nat.le_of_ble_eq_true rfl) rfl rfl rfl (dq dkX10_workTold_0 17 rfl) ?_
      have h := Option.some.inj h
      subst h
      exact v_iret F E (dq dkX10_workTold_0 18 rfl)
    rw [if_neg c6] at h
    by_cases c9 : a2 = 2
    · rw [if_pos c9] at h
      refine v_tblIn F (off := 47) (tgt := 62) (dq dkX10_workTold_0 8 rfl) (by rw [c9]; decide) (by rw [c9]; decide) (by rw [c9]; rfl) (by decide) ?_
      refine v_aload_n F (dq dkX10_workTold_0 19 rfl) rfl 0 rfl ?_
      refine v_get F 0 (xn (by decide)) xc_0 rfl inlX10 3 (by decide) (tc2 _ (List.mem_of_getElem? (i := 4) rfl)) rfl rfl (dq dkX10_workTold_0 20 rfl) ?_
      refine v_iload_n F (dq dkX10_workTold_0 21 rfl) rfl 1 rfl ?_
      obtain ⟨r10, e11, h⟩ := bd_of h
      refine v_callV 1 F (q := 30) (kc1 := 0) (ks1 := 0) (as := [.int a1]) (st := []) (st1 := (.int r10 :: [])) (res := (some (.int r10))) (c_X9_more (l := C.2.1) x y a1 e11) (xn (by decide)) xc_30 rfl (tc23 _ (List.mem_of_getElem? (i := 17) rfl)) (tc23 _ (List.mem_of_getElem? (i := 18) rfl)) (tc23 _ (List.mem_of_getElem? (i := 19) rfl)) (tc2 _ (List.mem_of_getElem? (i := 3) rfl)) (tc23 _ (List.mem_of_getElem? (i := 20) rfl)) (by decide) rfl ⟨rfl, rfl, Nat.le_of_ble_eq_true rfl, Nat.le_of_ble_eq_true rfl⟩ ⟨Nat.le_of_ble_eq_true rfl, Nat.le_of_ble_eq_true rfl⟩ rfl (Nat.le_of_ble_eq_true rfl) rfl rfl rfl (dq dkX10_workTold_0 22 rfl) ?_
      have h := Option.some.inj h
      subst h
      exact v_iret F E (dq dkX10_workTold_0 23 rfl)
    rw [if_neg c9] at h
    by_cases c12 : a2 = 3
    · rw [if_pos c12] at h
      refine v_tblIn F (off := 56) (tgt := 71) (dq dkX10_workTold_0 8 rfl) (by rw [c12]; decide) (by rw [c12]; decide) (by rw [c12]; rfl) (by decide) ?_
      refine v_aload_n F (dq dkX10_workTold_0 24 rfl) rfl 0 rfl ?_
      refine v_get F 0 (xn (by decide)) xc_0 rfl inlX10 3 (by decide) (tc2 _ (List.mem_of_getElem? (i := 4) rfl)) rfl rfl (dq dkX10_workTold_0 25 rfl) ?_
      refine v_iload_n F (dq dkX10_workTold_0 26 rfl) rfl 1 rfl ?_
      refine v_aload_n F (dq dkX10_workTold_0 27 rfl) rfl 0 rfl ?_
      refine v_get F 0 (xn (by decide)) xc_0 rfl inlX10 0 (by decide) (tc1 _ (List.mem_of_getElem? (i := 16) rfl)) rfl rfl (dq dkX10_workTold_0 28 rfl) ?_
      refine v_iconst F (v := 3) (dq dkX10_workTold_0 29 rfl) ki_3 ?_
      obtain ⟨r13, e14, h⟩ := bd_of h
      refine v_callV 1 F (q := 1) (kc1 := 0) (ks1 := 0) (as := [.int 3]) (st := [.int a1, .ref (K.1 + 30)]) (st1 := (.int r13 :: [.int a1, .ref (K.1 + 30)])) (res := (some (.int r13))) (c_X8_setting (l := C.2.1) x y 1 3 e14) (xn (by decide)) xc_1 rfl (tc15 _ (List.mem_of_getElem? (i := 22) rfl)) (tc15 _ (List.mem_of_getElem? (i := 23) rfl)) (tc16 _ (List.mem_of_getElem? (i := 0) rfl)) (tc1 _ (List.mem_of_getElem? (i := 15) rfl)) (tc16 _ (List.mem_of_getElem? (i := 1) rfl)) (by decide) rfl ⟨rfl, rfl, Nat.le_of_ble_eq_true rfl, Nat.le_of_ble_eq_true rfl⟩ ⟨Nat.le_of_ble_eq_true rfl, Nat.le_of_ble_eq_true rfl⟩ rfl (Nat.le_of_ble_eq_true rfl) rfl rfl rfl (dq dkX10_workTold_0 30 rfl) ?_
      obtain ⟨r15, e16, h⟩ := bd_of h
      refine v_callV 2 F (q := 30) (kc1 := 0) (ks1 := 0) (as := [.int a1, .int r13]) (st := []) (st1 := (.int r15 :: [])) (res := (some (.int r15))) (c_X9_daysBy (l := C.2.1) x y a1 r13 e16) (xn (by decide)) xc_30 rfl (tc23 _ (List.mem_of_getElem? (i := 21) rfl)) (tc23 _ (List.mem_of_getElem? (i := 22) rfl)) (tc23 _ (List.mem_of_getElem? (i := 23) rfl)) (tc2 _ (List.mem_of_getElem? (i := 3) rfl)) (tc24 _ (List.mem_of_getElem? (i := 0) rfl)) (by decide) rfl ⟨rfl, rfl, Nat.le_of_ble_eq_true rfl, Nat.le_of_ble_eq_true rfl⟩ ⟨Nat.le_of_ble_eq_true rfl, Nat.le_of_ble_eq_true rfl⟩ rfl (Nat.le_of_ble_eq_true rfl) rfl rfl rfl (dq dkX10_workTold_0 31 rfl) ?_
      have h := Option.some.inj h
      subst h
      exact v_iret F E (dq dkX10_workTold_0 32 rfl)
    rw [if_neg c12] at h
    have zc3 := lv_neT c3 (a := 0) (by decide)
    have zc6 := lv_neT c6 (a := 1) (by decide)
    have zc9 := lv_neT c9 (a := 2) (by decide)
    have zc12 := lv_neT c12 (a := 3) (by decide)
    refine v_tblOut F (tgt := 88) (dq dkX10_workTold_0 8 rfl) (by omega) (by decide) ?_
    refine v_bipush F (v := (-7)) (dq dkX10_workTold_0 33 rfl) kb_m7 ?_
    have h := Option.some.inj h
    subst h
    exact v_iret F E (dq dkX10_workTold_0 34 rfl)
  · rw [if_pos c2] at h
    refine v_bipush F (v := (-5)) (dq dkX10_workTold_0 5 rfl) kb_m5 ?_
    have h := Option.some.inj h
    subst h
    exact v_iret F E (dq dkX10_workTold_0 6 rfl)
def rm_X10_isSoMany : Room := { frames := 2, cells := 0, slots := 0, locals := 52 }
def f_X10_isSoMany (x : CS) (a1 : Int32) : Bool := (f_X10_within a1 0 (gi x 30 3))
set_option maxRecDepth 100000 in
set_option maxHeartbeats 4000000 in
theorem c_X10_isSoMany {K : KE} {l : Launch} (x : CS) (y : MS) (a1 : Int32) : MC K l yX10_isSoMany cX10_isSoMany 2 (some .boolean) rm_X10_isSoMany 0 0 [.ref (K.1 + 0), .int a1] (xf K x y) (xf K x y) (some (.int (b2i (f_X10_isSoMany x a1)))) := by
  obtain ⟨R, h⟩ : ∃ R, f_X10_isSoMany x a1 = R := ⟨_, rfl⟩
  rw [h]
  unfold f_X10_isSoMany at h
  refine mc_of (ls0 := [(0, .ref (K.1 + 0)), (1, .int a1)]) (by decide) (Nat.le_of_ble_eq_true rfl) rfl (fun C hl hnm F E => ?_)
  have F : Fx C RX10 cX10_isSoMany 2 rm_X10_isSoMany K := F
  refine v_iload_n F (dq dkX10_isSoMany_0 0 rfl) rfl 1 rfl ?_
  refine v_iconst F (v := 0) (dq dkX10_isSoMany_0 1 rfl) ki_0 ?_
  refine v_aload_n F (dq dkX10_isSoMany_0 2 rfl) rfl 0 rfl ?_
  refine v_get F 0 (xn (by decide)) xc_0 rfl inlX10 3 (by decide) (tc2 _ (List.mem_of_getElem? (i := 4) rfl)) rfl rfl (dq dkX10_isSoMany_0 3 rfl) ?_
  refine v_getN F 30 (xn (by decide)) xc_30 rfl inlX9 3 (by decide) (List.mem_of_getElem? (i := 6) rfl) rfl rfl (dq dkX10_isSoMany_0 4 rfl) ?_
  refine v_callS 3 F (kc1 := 0) (ks1 := 0) (as := [.int a1, .int 0, .int (gi x 30 3)]) (st := []) (st1 := (.int (b2i (f_X10_within a1 0 (gi x 30 3))) :: [])) (res := (some (.int (b2i (f_X10_within a1 0 (gi x 30 3)))))) (c_X10_within (l := C.2.1) a1 0 (gi x 30 3)) (tc14 _ (List.mem_of_getElem? (i := 3) rfl)) (tc8 _ (List.mem_of_getElem? (i := 15) rfl)) (tc1 _ (List.mem_of_getElem? (i := 2) rfl)) (tc8 _ (List.mem_of_getElem? (i := 16) rfl)) (by decide) rfl ⟨rfl, rfl, Nat.le_of_ble_eq_true rfl, Nat.le_of_ble_eq_true rfl⟩ ⟨Nat.le_of_ble_eq_true rfl, Nat.le_of_ble_eq_true rfl⟩ rfl (Nat.le_of_ble_eq_true rfl) rfl rfl rfl (dq dkX10_isSoMany_0 5 rfl) ?_
  subst h
  exact v_zret F E (b2i_n (f_X10_within a1 0 (gi x 30 3))) (dq dkX10_isSoMany_0 6 rfl)
def rm_X10_makeHull : Room := { frames := 7, cells := 0, slots := 0, locals := 181 }
def f_X10_makeHull_106 (k17 : CS → Int32 → Int32 → Option (CS)) (x : CS) (a1 : Int32) (a3 : Int32) : Option (CS) := k17 x a1 (a3 + 1)
set_option maxRecDepth 100000 in
set_option maxHeartbeats 4000000 in
theorem t_X10_makeHull_106 {C : Cx} {K : KE} {y : MS} {R : CS}  (k17 : CS → Int32 → Int32 → Option (CS)) (x : CS) (a1 : Int32) (a3 : Int32) (hk17 : ∀ (x : CS) (a1 : Int32) (a3 : Int32), k17 x a1 a3 = some R → V C 17 [(0, .ref (K.1 + 0)), (1, .int a1), (3, .int a3)] [] (xf K x y) 0 0) (h : f_X10_makeHull_106 k17 x a1 a3 = some R) (F : Fx C RX10 cX10_makeHull 5 rm_X10_makeHull K) (E : CE C (xf K R y) none 0 0 none) : V C 106 [(0, .ref (K.1 + 0)), (1, .int a1), (3, .int a3)] [] (xf K x y) 0 0 := by
  unfold f_X10_makeHull_106 at h
  refine v_iinc F (v := a3 + 1) (ls' := [(3, .int (a3 + 1)), (0, .ref (K.1 + 0)), (1, .int a1)]) (dq dkX10_makeHull_1 12 rfl) (j := 2) rfl (kv_add ki_1) (by decide) rfl ?_
  refine v_goto F (tgt := 17) (dq dkX10_makeHull_1 13 rfl) (by decide) ?_
  refine v_sub [1, 2, 0] rfl ?_
  exact hk17 x a1 (a3 + 1) h
def f_X10_makeHull_17 : Nat → CS → Int32 → Int32 → Option (CS)
  | 0, _, _, _ => none
  | n + 1, x, a1, a3 => if a1 ≤ a3 then (some x) else (if (gi x 30 3) ≤ a3 then (some x) else ((f_X9_kind x a3).bind fun r3 => (f_X9_section x a3).bind fun r5 => (f_X9_more x a3).bind fun r7 => (f_X2_make x r3 r5 r7).bind fun r9 => if 0 ≤ (gi r9 48 8) then (f_X10_makeHull_106 (f_X10_makeHull_17 n) r9 a1 a3) else (if ((gi r9 48 6) &&& ((gi x 48 6) ^^^ (-1))) = 0 then (f_X10_makeHull_106 (f_X10_makeHull_17 n) r9 a1 a3) else (f_X10_makeHull_106 (f_X10_makeHull_17 n) (pi r9 48 8 a3) a1 a3))))
set_option maxRecDepth 100000 in
set_option maxHeartbeats 4000000 in
theorem t_X10_makeHull_17 {C : Cx} {K : KE} {y : MS} {R : CS}  (F : Fx C RX10 cX10_makeHull 5 rm_X10_makeHull K) (E : CE C (xf K R y) none 0 0 none) : ∀ (n : Nat) (x : CS) (a1 : Int32) (a3 : Int32) (h : f_X10_makeHull_17 n x a1 a3 = some R), V C 17 [(0, .ref (K.1 + 0)), (1, .int a1), (3, .int a3)] [] (xf K x y) 0 0 := by
  intro n
  induction n with
  | zero => intro x a1 a3 h; cases h
  | succ n ih =>
    intro x a1 a3 h
    rw [f_X10_makeHull_17] at h
    refine v_iload_n F (dq dkX10_makeHull_0 9 rfl) rfl 2 rfl ?_
    refine v_iload_n F (dq dkX10_makeHull_0 10 rfl) rfl 1 rfl ?_
    refine v_icmp_ge F (tgt := 112) (dq dkX10_makeHull_0 11 rfl) (by decide) (fun c1 => ?_) (fun c1 => ?_)
    · rw [if_pos c1] at h
      have h := Option.some.inj h
      subst h
      exact v_vret F E (dq dkX10_makeHull_1 14 rfl)
    · rw [if_neg c1] at h
      refine v_iload_n F (dq dkX10_makeHull_0 12 rfl) rfl 2 rfl ?_
      refine v_aload_n F (dq dkX10_makeHull_0 13 rfl) rfl 0 rfl ?_
      refine v_get F 0 (xn (by decide)) xc_0 rfl inlX10 3 (by decide) (tc2 _ (List.mem_of_getElem? (i := 4) rfl)) rfl rfl (dq dkX10_makeHull_0 14 rfl) ?_
      refine v_getN F 30 (xn (by decide)) xc_30 rfl inlX9 3 (by decide) (List.mem_of_getElem? (i := 6) rfl) rfl rfl (dq dkX10_makeHull_0 15 rfl) ?_
      refine v_icmp_ge F (tgt := 112) (dq dkX10_makeHull_0 16 rfl) (by decide) (fun c2 => ?_) (fun c2 => ?_)
      · rw [if_pos c2] at h
        have h := Option.some.inj h
        subst h
        exact v_vret F E (dq dkX10_makeHull_1 14 rfl)
      · rw [if_neg c2] at h
        refine v_aload_n F (dq dkX10_makeHull_0 17 rfl) rfl 0 rfl ?_
        refine v_get F 0 (xn (by decide)) xc_0 rfl inlX10 7 (by decide) (tc2 _ (List.mem_of_getElem? (i := 20) rfl)) rfl rfl (dq dkX10_makeHull_0 18 rfl) ?_
        refine v_getN F 48 (xn (by decide)) xc_48 rfl inlX2 6 (by decide) (List.mem_of_getElem? (i := 11) rfl) rfl rfl (dq dkX10_makeHull_0 19 rfl) ?_
        refine v_istore F (ls' := [(4, .int (gi x 48 6)), (0, .ref (K.1 + 0)), (1, .int a1), (3, .int a3)]) (dq dkX10_makeHull_0 20 rfl) (by decide) rfl ?_
        refine v_aload_n F (dq dkX10_makeHull_0 21 rfl) rfl 1 rfl ?_
        refine v_get F 0 (xn (by decide)) xc_0 rfl inlX10 7 (by decide) (tc2 _ (List.mem_of_getElem? (i := 20) rfl)) rfl rfl (dq dkX10_makeHull_0 22 rfl) ?_
        refine v_aload_n F (dq dkX10_makeHull_0 23 rfl) rfl 1 rfl ?_
        refine v_get F 0 (xn (by decide)) xc_0 rfl inlX10 3 (by decide) (tc2 _ (List.mem_of_getElem? (i := 4) rfl)) rfl rfl (dq dkX10_makeHull_0 24 rfl) ?_
        refine v_iload_n F (dq dkX10_makeHull_0 25 rfl) rfl 3 rfl ?_
        obtain ⟨r3, e4, h⟩ := bd_of h
        refine v_callV 1 F (q := 30) (kc1 := 0) (ks1 := 0) (as := [.int a3]) (st := [.ref (K.1 + 48)]) (st1 := (.int r3 :: [.ref (K.1 + 48)])) (res := (some (.int r3))) (c_X9_kind (l := C.2.1) x y a3 e4) (xn (by decide)) xc_30 rfl (tc23 _ (List.mem_of_getElem? (i := 8) rfl)) (tc23 _ (List.mem_of_getElem? (i := 9) rfl)) (tc23 _ (List.mem_of_getElem? (i := 10) rfl)) (tc2 _ (List.mem_of_getElem? (i := 3) rfl)) (tc23 _ (List.mem_of_getElem? (i := 11) rfl)) (by decide) rfl ⟨rfl, rfl, Nat.le_of_ble_eq_true rfl, Nat.le_of_ble_eq_true rfl⟩ ⟨Nat.le_of_ble_eq_true rfl, Nat.le_of_ble_eq_true rfl⟩ rfl (Nat.le_of_ble_eq_true rfl) rfl rfl rfl (dq dkX10_makeHull_0 26 rfl) ?_
        refine v_aload_n F (dq dkX10_makeHull_0 27 rfl) rfl 1 rfl ?_
        refine v_get F 0 (xn (by decide)) xc_0 rfl inlX10 3 (by decide) (tc2 _ (List.mem_of_getElem? (i := 4) rfl)) rfl rfl (dq dkX10_makeHull_0 28 rfl) ?_
        refine v_iload_n F (dq dkX10_makeHull_0 29 rfl) rfl 3 rfl ?_
        obtain ⟨r5, e6, h⟩ := bd_of h
        refine v_callV 1 F (q := 30) (kc1 := 0) (ks1 := 0) (as := [.int a3]) (st := [.int r3, .ref (K.1 + 48)]) (st1 := (.int r5 :: [.int r3, .ref (K.1 + 48)])) (res := (some (.int r5))) (c_X9_section (l := C.2.1) x y a3 e6) (xn (by decide)) xc_30 rfl (tc23 _ (List.mem_of_getElem? (i := 13) rfl)) (tc23 _ (List.mem_of_getElem? (i := 14) rfl)) (tc23 _ (List.mem_of_getElem? (i := 15) rfl)) (tc2 _ (List.mem_of_getElem? (i := 3) rfl)) (tc23 _ (List.mem_of_getElem? (i := 16) rfl)) (by decide) rfl ⟨rfl, rfl, Nat.le_of_ble_eq_true rfl, Nat.le_of_ble_eq_true rfl⟩ ⟨Nat.le_of_ble_eq_true rfl, Nat.le_of_ble_eq_true rfl⟩ rfl (Nat.le_of_ble_eq_true rfl) rfl rfl rfl (dq dkX10_makeHull_0 30 rfl) ?_
        refine v_aload_n F (dq dkX10_makeHull_0 31 rfl) rfl 1 rfl ?_
        refine v_get F 0 (xn (by decide)) xc_0 rfl inlX10 3 (by decide) (tc2 _ (List.mem_of_getElem? (i := 4) rfl)) rfl rfl (dq dkX10_makeHull_0 32 rfl) ?_
        refine v_iload_n F (dq dkX10_makeHull_0 33 rfl) rfl 3 rfl ?_
        obtain ⟨r7, e8, h⟩ := bd_of h
        refine v_callV 1 F (q := 30) (kc1 := 0) (ks1 := 0) (as := [.int a3]) (st := [.int r5, .int r3, .ref (K.1 + 48)]) (st1 := (.int r7 :: [.int r5, .int r3, .ref (K.1 + 48)])) (res := (some (.int r7))) (c_X9_more (l := C.2.1) x y a3 e8) (xn (by decide)) xc_30 rfl (tc23 _ (List.mem_of_getElem? (i := 17) rfl)) (tc23 _ (List.mem_of_getElem? (i := 18) rfl)) (tc23 _ (List.mem_of_getElem? (i := 19) rfl)) (tc2 _ (List.mem_of_getElem? (i := 3) rfl)) (tc23 _ (List.mem_of_getElem? (i := 20) rfl)) (by decide) rfl ⟨rfl, rfl, Nat.le_of_ble_eq_true rfl, Nat.le_of_ble_eq_true rfl⟩ ⟨Nat.le_of_ble_eq_true rfl, Nat.le_of_ble_eq_true rfl⟩ rfl (Nat.le_of_ble_eq_true rfl) rfl rfl rfl (dq dkX10_makeHull_0 34 rfl) ?_
        obtain ⟨r9, e10, h⟩ := bd_of h
        refine v_callV 3 F (q := 48) (kc1 := 0) (ks1 := 0) (as := [.int r3, .int r5, .int r7]) (st := []) (st1 := []) (res := none) (c_X2_make (l := C.2.1) x y r3 r5 r7 e10) (xn (by decide)) xc_48 rfl (tc25 _ (List.mem_of_getElem? (i := 11) rfl)) (tc25 _ (List.mem_of_getElem? (i := 12) rfl)) (tc25 _ (List.mem_of_getElem? (i := 13) rfl)) (tc2 _ (List.mem_of_getElem? (i := 19) rfl)) (tc25 _ (List.mem_of_getElem? (i := 14) rfl)) (by decide) rfl ⟨rfl, rfl, Nat.le_of_ble_eq_true rfl, Nat.le_of_ble_eq_true rfl⟩ ⟨Nat.le_of_ble_eq_true rfl, Nat.le_of_ble_eq_true rfl⟩ rfl (Nat.le_of_ble_eq_true rfl) rfl rfl rfl (dq dkX10_makeHull_0 35 rfl) ?_
        refine v_aload_n F (dq dkX10_makeHull_0 36 rfl) rfl 1 rfl ?_
        refine v_get F 0 (xn (by decide)) xc_0 rfl inlX10 7 (by decide) (tc2 _ (List.mem_of_getElem? (i := 20) rfl)) rfl rfl (dq dkX10_makeHull_0 37 rfl) ?_
        refine v_getN F 48 (xn (by decide)) xc_48 rfl inlX2 8 (by decide) (List.mem_of_getElem? (i := 13) rfl) rfl rfl (dq dkX10_makeHull_0 38 rfl) ?_
        refine v_if_ge F (tgt := 106) (dq dkX10_makeHull_0 39 rfl) (by decide) (fun c11 => ?_) (fun c11 => ?_)
        · rw [if_pos c11] at h
          refine v_sub [1, 2, 3] rfl ?_
          exact t_X10_makeHull_106 (f_X10_makeHull_17 n) r9 a1 a3 ih h F E
        · rw [if_neg c11] at h
          refine v_aload_n F (dq dkX10_makeHull_1 0 rfl) rfl 1 rfl ?_
          refine v_get F 0 (xn (by decide)) xc_0 rfl inlX10 7 (by decide) (tc2 _ (List.mem_of_getElem? (i := 20) rfl)) rfl rfl (dq dkX10_makeHull_1 1 rfl) ?_
          refine v_getN F 48 (xn (by decide)) xc_48 rfl inlX2 6 (by decide) (List.mem_of_getElem? (i := 11) rfl) rfl rfl (dq dkX10_makeHull_1 2 rfl) ?_
          refine v_iload F (dq dkX10_makeHull_1 3 rfl) 0 rfl ?_
          refine v_iconst F (v := (-1)) (dq dkX10_makeHull_1 4 rfl) ki_m1 ?_
          refine v_ixor F (dq dkX10_makeHull_1 5 rfl) ?_
          refine v_iand F (dq dkX10_makeHull_1 6 rfl) ?_
          refine v_if_eq F (tgt := 106) (dq dkX10_makeHull_1 7 rfl) (by decide) (fun c12 => ?_) (fun c12 => ?_)
          · rw [if_pos c12] at h
            refine v_sub [1, 2, 3] rfl ?_
            exact t_X10_makeHull_106 (f_X10_makeHull_17 n) r9 a1 a3 ih h F E
          · rw [if_neg c12] at h
            refine v_aload_n F (dq dkX10_makeHull_1 8 rfl) rfl 1 rfl ?_
            refine v_get F 0 (xn (by decide)) xc_0 rfl inlX10 7 (by decide) (tc2 _ (List.mem_of_getElem? (i := 20) rfl)) rfl rfl (dq dkX10_makeHull_1 9 rfl) ?_
            refine v_iload_n F (dq dkX10_makeHull_1 10 rfl) rfl 3 rfl ?_
            refine v_putN F 48 (xn (by decide)) xc_48 rfl inlX2 tyX2_ok nmX2 8 (by decide) (List.mem_of_getElem? (i := 13) rfl) rfl rfl (tyX2_ok 8 (by decide)) rfl rfl (Nat.le_of_ble_eq_true rfl) (dq dkX10_makeHull_1 11 rfl) ?_
            refine v_eqM (xwC (q := 48) (j := 8) (v := a3) (by decide) rfl) ?_
            refine v_sub [1, 2, 3] rfl ?_
            exact t_X10_makeHull_106 (f_X10_makeHull_17 n) (pi r9 48 8 a3) a1 a3 ih h F E
def f_X10_makeHull (x : CS) (a1 : Int32) (a2 : Int32) : Option (CS) := (f_X2_begin x).bind fun r13 => f_X10_makeHull_17 1000 (f_X2_drawBy r13 a2) a1 0
set_option maxRecDepth 100000 in
set_option maxHeartbeats 4000000 in
theorem c_X10_makeHull {K : KE} {l : Launch} {R : CS} (x : CS) (y : MS) (a1 : Int32) (a2 : Int32) (h : f_X10_makeHull x a1 a2 = some R) : MC K l yX10_makeHull cX10_makeHull 5 none rm_X10_makeHull 0 0 [.ref (K.1 + 0), .int a1, .int a2] (xf K x y) (xf K R y) none := by
  unfold f_X10_makeHull at h
  refine mc_of (ls0 := [(0, .ref (K.1 + 0)), (1, .int a1), (2, .int a2)]) (by decide) (Nat.le_of_ble_eq_true rfl) rfl (fun C hl hnm F E => ?_)
  have F : Fx C RX10 cX10_makeHull 5 rm_X10_makeHull K := F
  refine v_aload_n F (dq dkX10_makeHull_0 0 rfl) rfl 0 rfl ?_
  refine v_get F 0 (xn (by decide)) xc_0 rfl inlX10 7 (by decide) (tc2 _ (List.mem_of_getElem? (i := 20) rfl)) rfl rfl (dq dkX10_makeHull_0 1 rfl) ?_
  obtain ⟨r13, e14, h⟩ := bd_of h
  refine v_callV 0 F (q := 48) (kc1 := 0) (ks1 := 0) (as := []) (st := []) (st1 := []) (res := none) (c_X2_begin (l := C.2.1) x y e14) (xn (by decide)) xc_48 rfl (tc20 _ (List.mem_of_getElem? (i := 9) rfl)) (tc20 _ (List.mem_of_getElem? (i := 10) rfl)) (tc20 _ (List.mem_of_getElem? (i := 11) rfl)) (tc2 _ (List.mem_of_getElem? (i := 19) rfl)) (tc20 _ (List.mem_of_getElem? (i := 12) rfl)) (by decide) rfl ⟨rfl, rfl, Nat.le_of_ble_eq_true rfl, Nat.le_of_ble_eq_true rfl⟩ ⟨Nat.le_of_ble_eq_true rfl, Nat.le_of_ble_eq_true rfl⟩ rfl (Nat.le_of_ble_eq_true rfl) rfl rfl rfl (dq dkX10_makeHull_0 2 rfl) ?_
  refine v_aload_n F (dq dkX10_makeHull_0 3 rfl) rfl 0 rfl ?_
  refine v_get F 0 (xn (by decide)) xc_0 rfl inlX10 7 (by decide) (tc2 _ (List.mem_of_getElem? (i := 20) rfl)) rfl rfl (dq dkX10_makeHull_0 4 rfl) ?_
  refine v_iload_n F (dq dkX10_makeHull_0 5 rfl) rfl 2 rfl ?_
  refine v_callV 1 F (q := 48) (kc1 := 0) (ks1 := 0) (as := [.int a2]) (st := []) (st1 := []) (res := none) (c_X2_drawBy (l := C.2.1) r13 y a2) (xn (by decide)) xc_48 rfl (tc25 _ (List.mem_of_getElem? (i := 7) rfl)) (tc25 _ (List.mem_of_getElem? (i := 8) rfl)) (tc25 _ (List.mem_of_getElem? (i := 9) rfl)) (tc2 _ (List.mem_of_getElem? (i := 19) rfl)) (tc25 _ (List.mem_of_getElem? (i := 10) rfl)) (by decide) rfl ⟨rfl, rfl, Nat.le_of_ble_eq_true rfl, Nat.le_of_ble_eq_true rfl⟩ ⟨Nat.le_of_ble_eq_true rfl, Nat.le_of_ble_eq_true rfl⟩ rfl (Nat.le_of_ble_eq_true rfl) rfl rfl rfl (dq dkX10_makeHull_0 6 rfl) ?_
  refine v_iconst F (v := 0) (dq dkX10_makeHull_0 7 rfl) ki_0 ?_
  refine v_istore_n F (ls' := [(3, .int 0), (0, .ref (K.1 + 0)), (1, .int a1), (2, .int a2)]) (dq dkX10_makeHull_0 8 rfl) rfl (by decide) rfl ?_
  refine v_sub [1, 2, 0] rfl ?_
  exact t_X10_makeHull_17 F E 1000 (f_X2_drawBy r13 a2) a1 0 h
def rm_X10_hull : Room := { frames := 8, cells := 0, slots := 0, locals := 205 }
def f_X10_hull_27 (x : CS) : Option (Int32 × CS) := some ((-7), x)
set_option maxRecDepth 100000 in
set_option maxHeartbeats 4000000 in
theorem t_X10_hull_27 {C : Cx} {K : KE} {y : MS} {R : Int32 × CS}  (x : CS) (h : f_X10_hull_27 x = some R) (F : Fx C RX10 cX10_hull 4 rm_X10_hull K) (E : CE C (xf K R.2 y) (some (.int R.1)) 0 0 (some .int)) : V C 27 [] [] (xf K x y) 0 0 := by
  unfold f_X10_hull_27 at h
  refine v_bipush F (v := (-7)) (dq dkX10_hull_0 14 rfl) kb_m7 ?_
  have h := Option.some.inj h
  subst h
  exact v_iret F E (dq dkX10_hull_0 15 rfl)
def f_X10_hull (x : CS) (a1 : Int32) (a2 : Int32) (a3 : Int32) : Option (Int32 × CS) := if (b2i (f_X10_isSoMany x a1)) = 0 then (some ((-5), x)) else (if (b2i (f_X10_isSection a2)) = 0 then (f_X10_hull_27 x) else (if (b2i (f_X10_within a3 0 3)) = 0 then (f_X10_hull_27 x) else ((f_X10_makeHull x a1 (-1)).bind fun r7 => if a3 = 0 then (gd (ib a2 9) (some (gi r7 49 a2.toNatClampNeg, r7))) else (if a3 = 1 then (gd (ib a2 9) (some (gi r7 50 a2.toNatClampNeg, r7))) else (if a3 = 2 then (gd (ib a2 9) (some (gi r7 51 a2.toNatClampNeg, r7))) else (if (b2i (f_X2_isBroken r7 a2)) = 0 then (some (0, r7)) else (some (1, r7))))))))
set_option maxRecDepth 100000 in
set_option maxHeartbeats 4000000 in
theorem c_X10_hull {K : KE} {l : Launch} {R : Int32 × CS} (x : CS) (y : MS) (a1 : Int32) (a2 : Int32) (a3 : Int32) (h : f_X10_hull x a1 a2 a3 = some R) : MC K l yX10_hull cX10_hull 4 (some .int) rm_X10_hull 0 0 [.ref (K.1 + 0), .int a1, .int a2, .int a3] (xf K x y) (xf K R.2 y) (some (.int R.1)) := by
  unfold f_X10_hull at h
  refine mc_of (ls0 := [(0, .ref (K.1 + 0)), (1, .int a1), (2, .int a2), (3, .int a3)]) (by decide) (Nat.le_of_ble_eq_true rfl) rfl (fun C hl hnm F E => ?_)
  have F : Fx C RX10 cX10_hull 4 rm_X10_hull K := F
  refine v_aload_n F (dq dkX10_hull_0 0 rfl) rfl 0 rfl ?_
  refine v_iload_n F (dq dkX10_hull_0 1 rfl) rfl 1 rfl ?_
  refine v_callV 1 F (q := 0) (kc1 := 0) (ks1 := 0) (as := [.int a1]) (st := []) (st1 := (.int (b2i (f_X10_isSoMany x a1)) :: [])) (res := (some (.int (b2i (f_X10_isSoMany x a1))))) (c_X10_isSoMany (l := C.2.1) x y a1) (xn (by decide)) xc_0 rfl (tc24 _ (List.mem_of_getElem? (i := 23) rfl)) (tc25 _ (List.mem_of_getElem? (i := 0) rfl)) (tc25 _ (List.mem_of_getElem? (i := 1) rfl)) (tc1 _ (List.mem_of_getElem? (i := 2) rfl)) (tc25 _ (List.mem_of_getElem? (i := 2) rfl)) (by decide) rfl ⟨rfl, rfl, Nat.le_of_ble_eq_true rfl, Nat.le_of_ble_eq_true rfl⟩ ⟨Nat.le_of_ble_eq_true rfl, Nat.le_of_ble_eq_true rfl⟩ rfl (Nat.le_of_ble_eq_true rfl) rfl rfl rfl (dq dkX10_hull_0 2 rfl) ?_
  refine v_if_ne F (tgt := 11) (dq dkX10_hull_0 3 rfl) (by decide) (fun c2 => ?_) (fun c2 => ?_)
  · rw [if_neg c2] at h
    refine v_iload_n F (dq dkX10_hull_0 6 rfl) rfl 2 rfl ?_
    refine v_callS 1 F (kc1 := 0) (ks1 := 0) (as := [.int a2]) (st := []) (st1 := (.int (b2i (f_X10_isSection a2)) :: [])) (res := (some (.int (b2i (f_X10_isSection a2))))) (c_X10_isSection (l := C.2.1) a2) (tc14 _ (List.mem_of_getElem? (i := 0) rfl)) (tc14 _ (List.mem_of_getElem? (i := 1) rfl)) (tc1 _ (List.mem_of_getElem? (i := 2) rfl)) (tc14 _ (List.mem_of_getElem? (i := 2) rfl)) (by decide) rfl ⟨rfl, rfl, Nat.le_of_ble_eq_true rfl, Nat.le_of_ble_eq_true rfl⟩ ⟨Nat.le_of_ble_eq_true rfl, Nat.le_of_ble_eq_true rfl⟩ rfl (Nat.le_of_ble_eq_true rfl) rfl rfl rfl (dq dkX10_hull_0 7 rfl) ?_
    refine v_if_eq F (tgt := 27) (dq dkX10_hull_0 8 rfl) (by decide) (fun c4 => ?_) (fun c4 => ?_)
    · rw [if_pos c4] at h
      refine v_sub [] rfl ?_
      exact t_X10_hull_27 x h F E
    · rw [if_neg c4] at h
      refine v_iload_n F (dq dkX10_hull_0 9 rfl) rfl 3 rfl ?_
      refine v_iconst F (v := 0) (dq dkX10_hull_0 10 rfl) ki_0 ?_
      refine v_iconst F (v := 3) (dq dkX10_hull_0 11 rfl) ki_3 ?_
      refine v_callS 3 F (kc1 := 0) (ks1 := 0) (as := [.int a3, .int 0, .int 3]) (st := []) (st1 := (.int (b2i (f_X10_within a3 0 3)) :: [])) (res := (some (.int (b2i (f_X10_within a3 0 3))))) (c_X10_within (l := C.2.1) a3 0 3) (tc14 _ (List.mem_of_getElem? (i := 3) rfl)) (tc8 _ (List.mem_of_getElem? (i := 15) rfl)) (tc1 _ (List.mem_of_getElem? (i := 2) rfl)) (tc8 _ (List.mem_of_getElem? (i := 16) rfl)) (by decide) rfl ⟨rfl, rfl, Nat.le_of_ble_eq_true rfl, Nat.le_of_ble_eq_true rfl⟩ ⟨Nat.le_of_ble_eq_true rfl, Nat.le_of_ble_eq_true rfl⟩ rfl (Nat.le_of_ble_eq_true rfl) rfl rfl rfl (dq dkX10_hull_0 12 rfl) ?_
      refine v_if_ne F (tgt := 30) (dq dkX10_hull_0 13 rfl) (by decide) (fun c6 => ?_) (fun c6 => ?_)
      · rw [if_neg c6] at h
        refine v_aload_n F (dq dkX10_hull_0 16 rfl) rfl 0 rfl ?_
        refine v_iload_n F (dq dkX10_hull_0 17 rfl) rfl 1 rfl ?_
        refine v_iconst F (v := (-1)) (dq dkX10_hull_0 18 rfl) ki_m1 ?_
        obtain ⟨r7, e8, h⟩ := bd_of h
        refine v_callV 2 F (q := 0) (kc1 := 0) (ks1 := 0) (as := [.int a1, .int (-1)]) (st := []) (st1 := []) (res := none) (c_X10_makeHull (l := C.2.1) x y a1 (-1) e8) (xn (by decide)) xc_0 rfl (tc25 _ (List.mem_of_getElem? (i := 3) rfl)) (tc25 _ (List.mem_of_getElem? (i := 4) rfl)) (tc25 _ (List.mem_of_getElem? (i := 5) rfl)) (tc1 _ (List.mem_of_getElem? (i := 2) rfl)) (tc25 _ (List.mem_of_getElem? (i := 6) rfl)) (by decide) rfl ⟨rfl, rfl, Nat.le_of_ble_eq_true rfl, Nat.le_of_ble_eq_true rfl⟩ ⟨Nat.le_of_ble_eq_true rfl, Nat.le_of_ble_eq_true rfl⟩ rfl (Nat.le_of_ble_eq_true rfl) rfl rfl rfl (dq dkX10_hull_0 19 rfl) ?_
        refine v_iload_n F (dq dkX10_hull_0 20 rfl) rfl 3 rfl ?_
        by_cases c9 : a3 = 0
        · rw [if_pos c9] at h
          refine v_tblIn F (off := 27) (tgt := 64) (dq dkX10_hull_0 21 rfl) (by rw [c9]; decide) (by rw [c9]; decide) (by rw [c9]; rfl) (by decide) ?_
          refine v_aload_n F (dq dkX10_hull_0 22 rfl) rfl 0 rfl ?_
          refine v_get F 0 (xn (by decide)) xc_0 rfl inlX10 7 (by decide) (tc2 _ (List.mem_of_getElem? (i := 20) rfl)) rfl rfl (dq dkX10_hull_0 23 rfl) ?_
          refine v_getN F 48 (xn (by decide)) xc_48 rfl inlX2 2 (by decide) (List.mem_of_getElem? (i := 8) rfl) rfl rfl (dq dkX10_hull_0 24 rfl) ?_
          refine v_iload_n F (dq dkX10_hull_0 25 rfl) rfl 2 rfl ?_
          obtain ⟨g10, h⟩ := gd_of h
          refine v_iald F 49 (xn (by decide)) xc_49 (ib_in g10) (dq dkX10_hull_0 26 rfl) ?_
          have h := Option.some.inj h
          subst h
          exact v_iret F E (dq dkX10_hull_0 27 rfl)
        rw [if_neg c9] at h
        by_cases c11 : a3 = 1
        · rw [if_pos c11] at h
          refine v_tblIn F (off := 37) (tgt := 74) (dq dkX10_hull_0 21 rfl) (by rw [c11]; decide) (by rw [c11]; decide) (by rw [c11]; rfl) (by decide) ?_
          refine v_aload_n F (dq dkX10_hull_0 28 rfl) rfl 0 rfl ?_
          refine v_get F 0 (xn (by decide)) xc_0 rfl inlX10 7 (by decide) (tc2 _ (List.mem_of_getElem? (i := 20) rfl)) rfl rfl (dq dkX10_hull_0 29 rfl) ?_
          refine v_getN F 48 (xn (by decide)) xc_48 rfl inlX2 3 (by decide) (List.mem_of_getElem? (i := 9) rfl) rfl rfl (dq dkX10_hull_0 30 rfl) ?_
          refine v_iload_n F (dq dkX10_hull_0 31 rfl) rfl 2 rfl ?_
          obtain ⟨g12, h⟩ := gd_of h
          refine v_iald F 50 (xn (by decide)) xc_50 (ib_in g12) (dq dkX10_hull_0 32 rfl) ?_
          have h := Option.some.inj h
          subst h
          exact v_iret F E (dq dkX10_hull_0 33 rfl)
        rw [if_neg c11] at h
        by_cases c13 : a3 = 2
        · rw [if_pos c13] at h
          refine v_tblIn F (off := 47) (tgt := 84) (dq dkX10_hull_0 21 rfl) (by rw [c13]; decide) (by rw [c13]; decide) (by rw [c13]; rfl) (by decide) ?_
          refine v_aload_n F (dq dkX10_hull_0 34 rfl) rfl 0 rfl ?_
          refine v_get F 0 (xn (by decide)) xc_0 rfl inlX10 7 (by decide) (tc2 _ (List.mem_of_getElem? (i := 20) rfl)) rfl rfl (dq dkX10_hull_0 35 rfl) ?_
          refine v_getN F 48 (xn (by decide)) xc_48 rfl inlX2 4 (by decide) (List.mem_of_getElem? (i := 10) rfl) rfl rfl (dq dkX10_hull_0 36 rfl) ?_
          refine v_iload_n F (dq dkX10_hull_0 37 rfl) rfl 2 rfl ?_
          obtain ⟨g14, h⟩ := gd_of h
          refine v_iald F 51 (xn (by decide)) xc_51 (ib_in g14) (dq dkX10_hull_0 38 rfl) ?_
          have h := Option.some.inj h
          subst h
          exact v_iret F E (dq dkX10_hull_0 39 rfl)
        rw [if_neg c13] at h
        have zc9 := lv_neT c9 (a := 0) (by decide)
        have zc11 := lv_neT c11 (a := 1) (by decide)
        have zc13 := lv_neT c13 (a := 2) (by decide)
        refine v_tblOut F (tgt := 94) (dq dkX10_hull_0 21 rfl) (by omega) (by decide) ?_
        refine v_aload_n F (dq dkX10_hull_1 0 rfl) rfl 0 rfl ?_
        refine v_get F 0 (xn (by decide)) xc_0 rfl inlX10 7 (by decide) (tc2 _ (List.mem_of_getElem? (i := 20) rfl)) rfl rfl (dq dkX10_hull_1 1 rfl) ?_
        refine v_iload_n F (dq dkX10_hull_1 2 rfl) rfl 2 rfl ?_
        refine v_callV 1 F (q := 48) (kc1 := 0) (ks1 := 0) (as := [.int a2]) (st := []) (st1 := (.int (b2i (f_X2_isBroken r7 a2)) :: [])) (res := (some (.int (b2i (f_X2_isBroken r7 a2))))) (c_X2_isBroken (l := C.2.1) r7 y a2) (xn (by decide)) xc_48 rfl (tc27 _ (List.mem_of_getElem? (i := 4) rfl)) (tc27 _ (List.mem_of_getElem? (i := 1) rfl)) (tc27 _ (List.mem_of_getElem? (i := 2) rfl)) (tc2 _ (List.mem_of_getElem? (i := 19) rfl)) (tc27 _ (List.mem_of_getElem? (i := 3) rfl)) (by decide) rfl ⟨rfl, rfl, Nat.le_of_ble_eq_true rfl, Nat.le_of_ble_eq_true rfl⟩ ⟨Nat.le_of_ble_eq_true rfl, Nat.le_of_ble_eq_true rfl⟩ rfl (Nat.le_of_ble_eq_true rfl) rfl rfl rfl (dq dkX10_hull_1 3 rfl) ?_
        refine v_if_eq F (tgt := 109) (dq dkX10_hull_1 4 rfl) (by decide) (fun c16 => ?_) (fun c16 => ?_)
        · rw [if_pos c16] at h
          refine v_iconst F (v := 0) (dq dkX10_hull_1 7 rfl) ki_0 ?_
          have h := Option.some.inj h
          subst h
          exact v_iret F E (dq dkX10_hull_1 8 rfl)
        · rw [if_neg c16] at h
          refine v_iconst F (v := 1) (dq dkX10_hull_1 5 rfl) ki_1 ?_
          refine v_goto F (tgt := 110) (dq dkX10_hull_1 6 rfl) (by decide) ?_
          have h := Option.some.inj h
          subst h
          exact v_iret F E (dq dkX10_hull_1 8 rfl)
      · rw [if_pos c6] at h
        refine v_sub [] rfl ?_
        exact t_X10_hull_27 x h F E
  · rw [if_pos c2] at h
    refine v_bipush F (v := (-5)) (dq dkX10_hull_0 4 rfl) kb_m5 ?_
    have h := Option.some.inj h
    subst h
    exact v_iret F E (dq dkX10_hull_0 5 rfl)
def rm_X10_state : Room := { frames := 8, cells := 0, slots := 0, locals := 205 }
def f_X10_state (x : CS) (a1 : Int32) (a2 : Int32) : Option (Int32 × CS) := if (b2i (f_X10_isSoMany x a1)) = 0 then (some ((-5), x)) else (if (b2i (f_X10_within a2 0 2)) = 0 then (some ((-7), x)) else ((f_X10_makeHull x a1 (-1)).bind fun r5 => if a2 = 0 then (some (gi r5 48 6, r5)) else (if a2 = 1 then (some (gi r5 48 7, r5)) else (some (gi r5 48 8, r5)))))
set_option maxRecDepth 100000 in
set_option maxHeartbeats 4000000 in
theorem c_X10_state {K : KE} {l : Launch} {R : Int32 × CS} (x : CS) (y : MS) (a1 : Int32) (a2 : Int32) (h : f_X10_state x a1 a2 = some R) : MC K l yX10_state cX10_state 3 (some .int) rm_X10_state 0 0 [.ref (K.1 + 0), .int a1, .int a2] (xf K x y) (xf K R.2 y) (some (.int R.1)) := by
  unfold f_X10_state at h
  refine mc_of (ls0 := [(0, .ref (K.1 + 0)), (1, .int a1), (2, .int a2)]) (by decide) (Nat.le_of_ble_eq_true rfl) rfl (fun C hl hnm F E => ?_)
  have F : Fx C RX10 cX10_state 3 rm_X10_state K := F
  refine v_aload_n F (dq dkX10_state_0 0 rfl) rfl 0 rfl ?_
  refine v_iload_n F (dq dkX10_state_0 1 rfl) rfl 1 rfl ?_
  refine v_callV 1 F (q := 0) (kc1 := 0) (ks1 := 0) (as := [.int a1]) (st := []) (st1 := (.int (b2i (f_X10_isSoMany x a1)) :: [])) (res := (some (.int (b2i (f_X10_isSoMany x a1))))) (c_X10_isSoMany (l := C.2.1) x y a1) (xn (by decide)) xc_0 rfl (tc24 _ (List.mem_of_getElem? (i := 23) rfl)) (tc25 _ (List.mem_of_getElem? (i := 0) rfl)) (tc25 _ (List.mem_of_getElem? (i := 1) rfl)) (tc1 _ (List.mem_of_getElem? (i := 2) rfl)) (tc25 _ (List.mem_of_getElem? (i := 2) rfl)) (by decide) rfl ⟨rfl, rfl, Nat.le_of_ble_eq_true rfl, Nat.le_of_ble_eq_true rfl⟩ ⟨Nat.le_of_ble_eq_true rfl, Nat.le_of_ble_eq_true rfl⟩ rfl (Nat.le_of_ble_eq_true rfl) rfl rfl rfl (dq dkX10_state_0 2 rfl) ?_
  refine v_if_ne F (tgt := 11) (dq dkX10_state_0 3 rfl) (by decide) (fun c2 => ?_) (fun c2 => ?_)
  · rw [if_neg c2] at h
    refine v_iload_n F (dq dkX10_state_0 6 rfl) rfl 2 rfl ?_
    refine v_iconst F (v := 0) (dq dkX10_state_0 7 rfl) ki_0 ?_
    refine v_iconst F (v := 2) (dq dkX10_state_0 8 rfl) ki_2 ?_
    refine v_callS 3 F (kc1 := 0) (ks1 := 0) (as := [.int a2, .int 0, .int 2]) (st := []) (st1 := (.int (b2i (f_X10_within a2 0 2)) :: [])) (res := (some (.int (b2i (f_X10_within a2 0 2))))) (c_X10_within (l := C.2.1) a2 0 2) (tc14 _ (List.mem_of_getElem? (i := 3) rfl)) (tc8 _ (List.mem_of_getElem? (i := 15) rfl)) (tc1 _ (List.mem_of_getElem? (i := 2) rfl)) (tc8 _ (List.mem_of_getElem? (i := 16) rfl)) (by decide) rfl ⟨rfl, rfl, Nat.le_of_ble_eq_true rfl, Nat.le_of_ble_eq_true rfl⟩ ⟨Nat.le_of_ble_eq_true rfl, Nat.le_of_ble_eq_true rfl⟩ rfl (Nat.le_of_ble_eq_true rfl) rfl rfl rfl (dq dkX10_state_0 9 rfl) ?_
    refine v_if_ne F (tgt := 23) (dq dkX10_state_0 10 rfl) (by decide) (fun c4 => ?_) (fun c4 => ?_)
    · rw [if_neg c4] at h
      refine v_aload_n F (dq dkX10_state_0 13 rfl) rfl 0 rfl ?_
      refine v_iload_n F (dq dkX10_state_0 14 rfl) rfl 1 rfl ?_
      refine v_iconst F (v := (-1)) (dq dkX10_state_0 15 rfl) ki_m1 ?_
      obtain ⟨r5, e6, h⟩ := bd_of h
      refine v_callV 2 F (q := 0) (kc1 := 0) (ks1 := 0) (as := [.int a1, .int (-1)]) (st := []) (st1 := []) (res := none) (c_X10_makeHull (l := C.2.1) x y a1 (-1) e6) (xn (by decide)) xc_0 rfl (tc25 _ (List.mem_of_getElem? (i := 3) rfl)) (tc25 _ (List.mem_of_getElem? (i := 4) rfl)) (tc25 _ (List.mem_of_getElem? (i := 5) rfl)) (tc1 _ (List.mem_of_getElem? (i := 2) rfl)) (tc25 _ (List.mem_of_getElem? (i := 6) rfl)) (by decide) rfl ⟨rfl, rfl, Nat.le_of_ble_eq_true rfl, Nat.le_of_ble_eq_true rfl⟩ ⟨Nat.le_of_ble_eq_true rfl, Nat.le_of_ble_eq_true rfl⟩ rfl (Nat.le_of_ble_eq_true rfl) rfl rfl rfl (dq dkX10_state_0 16 rfl) ?_
      refine v_iload_n F (dq dkX10_state_0 17 rfl) rfl 2 rfl ?_
      refine v_if_ne F (tgt := 41) (dq dkX10_state_0 18 rfl) (by decide) (fun c7 => ?_) (fun c7 => ?_)
      · rw [if_neg c7] at h
        refine v_iload_n F (dq dkX10_state_0 23 rfl) rfl 2 rfl ?_
        refine v_iconst F (v := 1) (dq dkX10_state_0 24 rfl) ki_1 ?_
        refine v_icmp_ne F (tgt := 56) (dq dkX10_state_0 25 rfl) (by decide) (fun c8 => ?_) (fun c8 => ?_)
        · rw [if_neg c8] at h
          refine v_aload_n F (dq dkX10_state_0 30 rfl) rfl 0 rfl ?_
          refine v_get F 0 (xn (by decide)) xc_0 rfl inlX10 7 (by decide) (tc2 _ (List.mem_of_getElem? (i := 20) rfl)) rfl rfl (dq dkX10_state_0 31 rfl) ?_
          refine v_getN F 48 (xn (by decide)) xc_48 rfl inlX2 8 (by decide) (List.mem_of_getElem? (i := 13) rfl) rfl rfl (dq dkX10_state_0 32 rfl) ?_
          have h := Option.some.inj h
          subst h
          exact v_iret F E (dq dkX10_state_0 33 rfl)
        · rw [if_pos c8] at h
          refine v_aload_n F (dq dkX10_state_0 26 rfl) rfl 0 rfl ?_
          refine v_get F 0 (xn (by decide)) xc_0 rfl inlX10 7 (by decide) (tc2 _ (List.mem_of_getElem? (i := 20) rfl)) rfl rfl (dq dkX10_state_0 27 rfl) ?_
          refine v_getN F 48 (xn (by decide)) xc_48 rfl inlX2 7 (by decide) (List.mem_of_getElem? (i := 12) rfl) rfl rfl (dq dkX10_state_0 28 rfl) ?_
          refine v_goto F (tgt := 63) (dq dkX10_state_0 29 rfl) (by decide) ?_
          have h := Option.some.inj h
          subst h
          exact v_iret F E (dq dkX10_state_0 33 rfl)
      · rw [if_pos c7] at h
        refine v_aload_n F (dq dkX10_state_0 19 rfl) rfl 0 rfl ?_
        refine v_get F 0 (xn (by decide)) xc_0 rfl inlX10 7 (by decide) (tc2 _ (List.mem_of_getElem? (i := 20) rfl)) rfl rfl (dq dkX10_state_0 20 rfl) ?_
        refine v_getN F 48 (xn (by decide)) xc_48 rfl inlX2 6 (by decide) (List.mem_of_getElem? (i := 11) rfl) rfl rfl (dq dkX10_state_0 21 rfl) ?_
        have h := Option.some.inj h
        subst h
        exact v_iret F E (dq dkX10_state_0 22 rfl)
    · rw [if_pos c4] at h
      refine v_bipush F (v := (-7)) (dq dkX10_state_0 11 rfl) kb_m7 ?_
      have h := Option.some.inj h
      subst h
      exact v_iret F E (dq dkX10_state_0 12 rfl)
  · rw [if_pos c2] at h
    refine v_bipush F (v := (-5)) (dq dkX10_state_0 4 rfl) kb_m5 ?_
    have h := Option.some.inj h
    subst h
    exact v_iret F E (dq dkX10_state_0 5 rfl)
def rm_X10_days : Room := { frames := 6, cells := 0, slots := 0, locals := 141 }
def f_X10_days (x : CS) (a1 : Int32) (a2 : Int32) : Option (Int32) := if (b2i (f_X10_isSoMany x a1)) = 0 then (some (-5)) else (if (b2i (f_X10_within a2 0 1)) = 0 then (some (-7)) else ((f_X8_setting x 1 3).bind fun r5 => if a2 = 0 then ((f_X9_allDaysBy x a1 r5).bind fun r10 => some r10) else ((f_X9_longest x a1 r5).bind fun r8 => some r8)))
set_option maxRecDepth 100000 in
set_option maxHeartbeats 4000000 in
theorem c_X10_days {K : KE} {l : Launch} {R : Int32} (x : CS) (y : MS) (a1 : Int32) (a2 : Int32) (h : f_X10_days x a1 a2 = some R) : MC K l yX10_days cX10_days 4 (some .int) rm_X10_days 0 0 [.ref (K.1 + 0), .int a1, .int a2] (xf K x y) (xf K x y) (some (.int R)) := by
  unfold f_X10_days at h
  refine mc_of (ls0 := [(0, .ref (K.1 + 0)), (1, .int a1), (2, .int a2)]) (by decide) (Nat.le_of_ble_eq_true rfl) rfl (fun C hl hnm F E => ?_)
  have F : Fx C RX10 cX10_days 4 rm_X10_days K := F
  refine v_aload_n F (dq dkX10_days_0 0 rfl) rfl 0 rfl ?_
  refine v_iload_n F (dq dkX10_days_0 1 rfl) rfl 1 rfl ?_
  refine v_callV 1 F (q := 0) (kc1 := 0) (ks1 := 0) (as := [.int a1]) (st := []) (st1 := (.int (b2i (f_X10_isSoMany x a1)) :: [])) (res := (some (.int (b2i (f_X10_isSoMany x a1))))) (c_X10_isSoMany (l := C.2.1) x y a1) (xn (by decide)) xc_0 rfl (tc24 _ (List.mem_of_getElem? (i := 23) rfl)) (tc25 _ (List.mem_of_getElem? (i := 0) rfl)) (tc25 _ (List.mem_of_getElem? (i := 1) rfl)) (tc1 _ (List.mem_of_getElem? (i := 2) rfl)) (tc25 _ (List.mem_of_getElem? (i := 2) rfl)) (by decide) rfl ⟨rfl, rfl, Nat.le_of_ble_eq_true rfl, Nat.le_of_ble_eq_true rfl⟩ ⟨Nat.le_of_ble_eq_true rfl, Nat.le_of_ble_eq_true rfl⟩ rfl (Nat.le_of_ble_eq_true rfl) rfl rfl rfl (dq dkX10_days_0 2 rfl) ?_
  refine v_if_ne F (tgt := 11) (dq dkX10_days_0 3 rfl) (by decide) (fun c2 => ?_) (fun c2 => ?_)
  · rw [if_neg c2] at h
    refine v_iload_n F (dq dkX10_days_0 6 rfl) rfl 2 rfl ?_
    refine v_iconst F (v := 0) (dq dkX10_days_0 7 rfl) ki_0 ?_
    refine v_iconst F (v := 1) (dq dkX10_days_0 8 rfl) ki_1 ?_
    refine v_callS 3 F (kc1 := 0) (ks1 := 0) (as := [.int a2, .int 0, .int 1]) (st := []) (st1 := (.int (b2i (f_X10_within a2 0 1)) :: [])) (res := (some (.int (b2i (f_X10_within a2 0 1))))) (c_X10_within (l := C.2.1) a2 0 1) (tc14 _ (List.mem_of_getElem? (i := 3) rfl)) (tc8 _ (List.mem_of_getElem? (i := 15) rfl)) (tc1 _ (List.mem_of_getElem? (i := 2) rfl)) (tc8 _ (List.mem_of_getElem? (i := 16) rfl)) (by decide) rfl ⟨rfl, rfl, Nat.le_of_ble_eq_true rfl, Nat.le_of_ble_eq_true rfl⟩ ⟨Nat.le_of_ble_eq_true rfl, Nat.le_of_ble_eq_true rfl⟩ rfl (Nat.le_of_ble_eq_true rfl) rfl rfl rfl (dq dkX10_days_0 9 rfl) ?_
    refine v_if_ne F (tgt := 23) (dq dkX10_days_0 10 rfl) (by decide) (fun c4 => ?_) (fun c4 => ?_)
    · rw [if_neg c4] at h
      refine v_aload_n F (dq dkX10_days_0 13 rfl) rfl 0 rfl ?_
      refine v_get F 0 (xn (by decide)) xc_0 rfl inlX10 0 (by decide) (tc1 _ (List.mem_of_getElem? (i := 16) rfl)) rfl rfl (dq dkX10_days_0 14 rfl) ?_
      refine v_iconst F (v := 3) (dq dkX10_days_0 15 rfl) ki_3 ?_
      obtain ⟨r5, e6, h⟩ := bd_of h
      refine v_callV 1 F (q := 1) (kc1 := 0) (ks1 := 0) (as := [.int 3]) (st := []) (st1 := (.int r5 :: [])) (res := (some (.int r5))) (c_X8_setting (l := C.2.1) x y 1 3 e6) (xn (by decide)) xc_1 rfl (tc15 _ (List.mem_of_getElem? (i := 22) rfl)) (tc15 _ (List.mem_of_getElem? (i := 23) rfl)) (tc16 _ (List.mem_of_getElem? (i := 0) rfl)) (tc1 _ (List.mem_of_getElem? (i := 15) rfl)) (tc16 _ (List.mem_of_getElem? (i := 1) rfl)) (by decide) rfl ⟨rfl, rfl, Nat.le_of_ble_eq_true rfl, Nat.le_of_ble_eq_true rfl⟩ ⟨Nat.le_of_ble_eq_true rfl, Nat.le_of_ble_eq_true rfl⟩ rfl (Nat.le_of_ble_eq_true rfl) rfl rfl rfl (dq dkX10_days_0 16 rfl) ?_
      refine v_istore_n F (ls' := [(3, .int r5), (0, .ref (K.1 + 0)), (1, .int a1), (2, .int a2)]) (dq dkX10_days_0 17 rfl) rfl (by decide) rfl ?_
      refine v_iload_n F (dq dkX10_days_0 18 rfl) rfl 3 rfl ?_
      refine v_if_ne F (tgt := 48) (dq dkX10_days_0 19 rfl) (by decide) (fun c7 => ?_) (fun c7 => ?_)
      · rw [if_neg c7] at h
        refine v_aload_n F (dq dkX10_days_0 26 rfl) rfl 1 rfl ?_
        refine v_get F 0 (xn (by decide)) xc_0 rfl inlX10 3 (by decide) (tc2 _ (List.mem_of_getElem? (i := 4) rfl)) rfl rfl (dq dkX10_days_0 27 rfl) ?_
        refine v_iload_n F (dq dkX10_days_0 28 rfl) rfl 2 rfl ?_
        refine v_iload_n F (dq dkX10_days_0 29 rfl) rfl 0 rfl ?_
        obtain ⟨r8, e9, h⟩ := bd_of h
        refine v_callV 2 F (q := 30) (kc1 := 0) (ks1 := 0) (as := [.int a1, .int r5]) (st := []) (st1 := (.int r8 :: [])) (res := (some (.int r8))) (c_X9_longest (l := C.2.1) x y a1 r5 e9) (xn (by decide)) xc_30 rfl (tc30 _ (List.mem_of_getElem? (i := 9) rfl)) (tc30 _ (List.mem_of_getElem? (i := 10) rfl)) (tc30 _ (List.mem_of_getElem? (i := 11) rfl)) (tc2 _ (List.mem_of_getElem? (i := 3) rfl)) (tc30 _ (List.mem_of_getElem? (i := 12) rfl)) (by decide) rfl ⟨rfl, rfl, Nat.le_of_ble_eq_true rfl, Nat.le_of_ble_eq_true rfl⟩ ⟨Nat.le_of_ble_eq_true rfl, Nat.le_of_ble_eq_true rfl⟩ rfl (Nat.le_of_ble_eq_true rfl) rfl rfl rfl (dq dkX10_days_0 30 rfl) ?_
        have h := Option.some.inj h
        subst h
        exact v_iret F E (dq dkX10_days_0 31 rfl)
      · rw [if_pos c7] at h
        refine v_aload_n F (dq dkX10_days_0 20 rfl) rfl 1 rfl ?_
        refine v_get F 0 (xn (by decide)) xc_0 rfl inlX10 3 (by decide) (tc2 _ (List.mem_of_getElem? (i := 4) rfl)) rfl rfl (dq dkX10_days_0 21 rfl) ?_
        refine v_iload_n F (dq dkX10_days_0 22 rfl) rfl 2 rfl ?_
        refine v_iload_n F (dq dkX10_days_0 23 rfl) rfl 0 rfl ?_
        obtain ⟨r10, e11, h⟩ := bd_of h
        refine v_callV 2 F (q := 30) (kc1 := 0) (ks1 := 0) (as := [.int a1, .int r5]) (st := []) (st1 := (.int r10 :: [])) (res := (some (.int r10))) (c_X9_allDaysBy (l := C.2.1) x y a1 r5 e11) (xn (by decide)) xc_30 rfl (tc30 _ (List.mem_of_getElem? (i := 4) rfl)) (tc30 _ (List.mem_of_getElem? (i := 5) rfl)) (tc30 _ (List.mem_of_getElem? (i := 6) rfl)) (tc2 _ (List.mem_of_getElem? (i := 3) rfl)) (tc30 _ (List.mem_of_getElem? (i := 7) rfl)) (by decide) rfl ⟨rfl, rfl, Nat.le_of_ble_eq_true rfl, Nat.le_of_ble_eq_true rfl⟩ ⟨Nat.le_of_ble_eq_true rfl, Nat.le_of_ble_eq_true rfl⟩ rfl (Nat.le_of_ble_eq_true rfl) rfl rfl rfl (dq dkX10_days_0 24 rfl) ?_
        refine v_goto F (tgt := 57) (dq dkX10_days_0 25 rfl) (by decide) ?_
        have h := Option.some.inj h
        subst h
        exact v_iret F E (dq dkX10_days_0 31 rfl)
    · rw [if_pos c4] at h
      refine v_bipush F (v := (-7)) (dq dkX10_days_0 11 rfl) kb_m7 ?_
      have h := Option.some.inj h
      subst h
      exact v_iret F E (dq dkX10_days_0 12 rfl)
  · rw [if_pos c2] at h
    refine v_bipush F (v := (-5)) (dq dkX10_days_0 4 rfl) kb_m5 ?_
    have h := Option.some.inj h
    subst h
    exact v_iret F E (dq dkX10_days_0 5 rfl)
def rm_X10_fewest : Room := { frames := 6, cells := 0, slots := 0, locals := 141 }
def f_X10_fewest_27 (x : CS) : Nat → Int32 → Int32 → Int32 → Option (Int32)
  | 0, _, _, _ => none
  | n + 1, a1, a2, a3 => if 5 < a3 then (some (-1)) else ((f_X9_allDaysBy x a1 a3).bind fun r2 => if a2 < r2 then ((f_X10_fewest_27 x n) a1 a2 (a3 + 1)) else (some a3))
set_option maxRecDepth 100000 in
set_option maxHeartbeats 4000000 in
theorem t_X10_fewest_27 {C : Cx} {K : KE} {y : MS} {R : Int32}  (x : CS) (F : Fx C RX10 cX10_fewest 4 rm_X10_fewest K) (E : CE C (xf K x y) (some (.int R)) 0 0 (some .int)) : ∀ (n : Nat) (a1 : Int32) (a2 : Int32) (a3 : Int32) (h : f_X10_fewest_27 x n a1 a2 a3 = some R), V C 27 [(0, .ref (K.1 + 0)), (1, .int a1), (2, .int a2), (3, .int a3)] [] (xf K x y) 0 0 := by
  intro n
  induction n with
  | zero => intro a1 a2 a3 h; cases h
  | succ n ih =>
    intro a1 a2 a3 h
    rw [f_X10_fewest_27] at h
    refine v_iload_n F (dq dkX10_fewest_0 15 rfl) rfl 3 rfl ?_
    refine v_iconst F (v := 5) (dq dkX10_fewest_0 16 rfl) ki_5 ?_
    refine v_icmp_gt F (tgt := 53) (dq dkX10_fewest_0 17 rfl) (by decide) (fun c1 => ?_) (fun c1 => ?_)
    · rw [if_pos c1] at h
      refine v_iconst F (v := (-1)) (dq dkX10_fewest_0 29 rfl) ki_m1 ?_
      have h := Option.some.inj h
      subst h
      exact v_iret F E (dq dkX10_fewest_0 30 rfl)
    · rw [if_neg c1] at h
      refine v_aload_n F (dq dkX10_fewest_0 18 rfl) rfl 0 rfl ?_
      refine v_get F 0 (xn (by decide)) xc_0 rfl inlX10 3 (by decide) (tc2 _ (List.mem_of_getElem? (i := 4) rfl)) rfl rfl (dq dkX10_fewest_0 19 rfl) ?_
      refine v_iload_n F (dq dkX10_fewest_0 20 rfl) rfl 1 rfl ?_
      refine v_iload_n F (dq dkX10_fewest_0 21 rfl) rfl 3 rfl ?_
      obtain ⟨r2, e3, h⟩ := bd_of h
      refine v_callV 2 F (q := 30) (kc1 := 0) (ks1 := 0) (as := [.int a1, .int a3]) (st := []) (st1 := (.int r2 :: [])) (res := (some (.int r2))) (c_X9_allDaysBy (l := C.2.1) x y a1 a3 e3) (xn (by decide)) xc_30 rfl (tc30 _ (List.mem_of_getElem? (i := 4) rfl)) (tc30 _ (List.mem_of_getElem? (i := 5) rfl)) (tc30 _ (List.mem_of_getElem? (i := 6) rfl)) (tc2 _ (List.mem_of_getElem? (i := 3) rfl)) (tc30 _ (List.mem_of_getElem? (i := 7) rfl)) (by decide) rfl ⟨rfl, rfl, Nat.le_of_ble_eq_true rfl, Nat.le_of_ble_eq_true rfl⟩ ⟨Nat.le_of_ble_eq_true rfl, Nat.le_of_ble_eq_true rfl⟩ rfl (Nat.le_of_ble_eq_true rfl) rfl rfl rfl (dq dkX10_fewest_0 22 rfl) ?_
      refine v_iload_n F (dq dkX10_fewest_0 23 rfl) rfl 2 rfl ?_
      refine v_icmp_gt F (tgt := 47) (dq dkX10_fewest_0 24 rfl) (by decide) (fun c4 => ?_) (fun c4 => ?_)
      · rw [if_pos c4] at h
        refine v_iinc F (v := a3 + 1) (ls' := [(3, .int (a3 + 1)), (0, .ref (K.1 + 0)), (1, .int a1), (2, .int a2)]) (dq dkX10_fewest_0 27 rfl) (j := 3) rfl (kv_add ki_1) (by decide) rfl ?_
        refine v_goto F (tgt := 27) (dq dkX10_fewest_0 28 rfl) (by decide) ?_
        refine v_sub [1, 2, 3, 0] rfl ?_
        exact ih a1 a2 (a3 + 1) h
      · rw [if_neg c4] at h
        refine v_iload_n F (dq dkX10_fewest_0 25 rfl) rfl 3 rfl ?_
        have h := Option.some.inj h
        subst h
        exact v_iret F E (dq dkX10_fewest_0 26 rfl)
def f_X10_fewest (x : CS) (a1 : Int32) (a2 : Int32) : Option (Int32) := if (b2i (f_X10_isSoMany x a1)) = 0 then (some (-5)) else (if (b2i (f_X10_within a2 0 999)) = 0 then (some (-7)) else (f_X10_fewest_27 x 1000 a1 a2 1))
set_option maxRecDepth 100000 in
set_option maxHeartbeats 4000000 in
theorem c_X10_fewest {K : KE} {l : Launch} {R : Int32} (x : CS) (y : MS) (a1 : Int32) (a2 : Int32) (h : f_X10_fewest x a1 a2 = some R) : MC K l yX10_fewest cX10_fewest 4 (some .int) rm_X10_fewest 0 0 [.ref (K.1 + 0), .int a1, .int a2] (xf K x y) (xf K x y) (some (.int R)) := by
  unfold f_X10_fewest at h
  refine mc_of (ls0 := [(0, .ref (K.1 + 0)), (1, .int a1), (2, .int a2)]) (by decide) (Nat.le_of_ble_eq_true rfl) rfl (fun C hl hnm F E => ?_)
  have F : Fx C RX10 cX10_fewest 4 rm_X10_fewest K := F
  refine v_aload_n F (dq dkX10_fewest_0 0 rfl) rfl 0 rfl ?_
  refine v_iload_n F (dq dkX10_fewest_0 1 rfl) rfl 1 rfl ?_
  refine v_callV 1 F (q := 0) (kc1 := 0) (ks1 := 0) (as := [.int a1]) (st := []) (st1 := (.int (b2i (f_X10_isSoMany x a1)) :: [])) (res := (some (.int (b2i (f_X10_isSoMany x a1))))) (c_X10_isSoMany (l := C.2.1) x y a1) (xn (by decide)) xc_0 rfl (tc24 _ (List.mem_of_getElem? (i := 23) rfl)) (tc25 _ (List.mem_of_getElem? (i := 0) rfl)) (tc25 _ (List.mem_of_getElem? (i := 1) rfl)) (tc1 _ (List.mem_of_getElem? (i := 2) rfl)) (tc25 _ (List.mem_of_getElem? (i := 2) rfl)) (by decide) rfl ⟨rfl, rfl, Nat.le_of_ble_eq_true rfl, Nat.le_of_ble_eq_true rfl⟩ ⟨Nat.le_of_ble_eq_true rfl, Nat.le_of_ble_eq_true rfl⟩ rfl (Nat.le_of_ble_eq_true rfl) rfl rfl rfl (dq dkX10_fewest_0 2 rfl) ?_
  refine v_if_ne F (tgt := 11) (dq dkX10_fewest_0 3 rfl) (by decide) (fun c6 => ?_) (fun c6 => ?_)
  · rw [if_neg c6] at h
    refine v_iload_n F (dq dkX10_fewest_0 6 rfl) rfl 2 rfl ?_
    refine v_iconst F (v := 0) (dq dkX10_fewest_0 7 rfl) ki_0 ?_
    refine v_sipush F (v := 999) (dq dkX10_fewest_0 8 rfl) ks_999 ?_
    refine v_callS 3 F (kc1 := 0) (ks1 := 0) (as := [.int a2, .int 0, .int 999]) (st := []) (st1 := (.int (b2i (f_X10_within a2 0 999)) :: [])) (res := (some (.int (b2i (f_X10_within a2 0 999))))) (c_X10_within (l := C.2.1) a2 0 999) (tc14 _ (List.mem_of_getElem? (i := 3) rfl)) (tc8 _ (List.mem_of_getElem? (i := 15) rfl)) (tc1 _ (List.mem_of_getElem? (i := 2) rfl)) (tc8 _ (List.mem_of_getElem? (i := 16) rfl)) (by decide) rfl ⟨rfl, rfl, Nat.le_of_ble_eq_true rfl, Nat.le_of_ble_eq_true rfl⟩ ⟨Nat.le_of_ble_eq_true rfl, Nat.le_of_ble_eq_true rfl⟩ rfl (Nat.le_of_ble_eq_true rfl) rfl rfl rfl (dq dkX10_fewest_0 9 rfl) ?_
    refine v_if_ne F (tgt := 25) (dq dkX10_fewest_0 10 rfl) (by decide) (fun c8 => ?_) (fun c8 => ?_)
    · rw [if_neg c8] at h
      refine v_iconst F (v := 1) (dq dkX10_fewest_0 13 rfl) ki_1 ?_
      refine v_istore_n F (ls' := [(3, .int 1), (0, .ref (K.1 + 0)), (1, .int a1), (2, .int a2)]) (dq dkX10_fewest_0 14 rfl) rfl (by decide) rfl ?_
      refine v_sub [1, 2, 3, 0] rfl ?_
      exact t_X10_fewest_27 x F E 1000 a1 a2 1 h
    · rw [if_pos c8] at h
      refine v_bipush F (v := (-7)) (dq dkX10_fewest_0 11 rfl) kb_m7 ?_
      have h := Option.some.inj h
      subst h
      exact v_iret F E (dq dkX10_fewest_0 12 rfl)
  · rw [if_pos c6] at h
    refine v_bipush F (v := (-5)) (dq dkX10_fewest_0 4 rfl) kb_m5 ?_
    have h := Option.some.inj h
    subst h
    exact v_iret F E (dq dkX10_fewest_0 5 rfl)
def rm_X10_crack : Room := { frames := 8, cells := 0, slots := 0, locals := 205 }
def f_X10_crack (x : CS) (a1 : Int32) (a2 : Int32) : Option (Int32 × CS) := if (b2i (f_X10_isSoMany x a1)) = 0 then (some ((-5), x)) else (if (b2i (f_X10_within a2 0 12)) = 0 then (some ((-7), x)) else ((f_X10_makeHull x a1 (-1)).bind fun r5 => (f_X2_spreadBy r5 a2).bind fun r7 => some ((gi r7 48 6) &&& ((gi r5 48 6) ^^^ (-1)), r7)))
set_option maxRecDepth 100000 in
set_option maxHeartbeats 4000000 in
theorem c_X10_crack {K : KE} {l : Launch} {R : Int32 × CS} (x : CS) (y : MS) (a1 : Int32) (a2 : Int32) (h : f_X10_crack x a1 a2 = some R) : MC K l yX10_crack cX10_crack 4 (some .int) rm_X10_crack 0 0 [.ref (K.1 + 0), .int a1, .int a2] (xf K x y) (xf K R.2 y) (some (.int R.1)) := by
  unfold f_X10_crack at h
  refine mc_of (ls0 := [(0, .ref (K.1 + 0)), (1, .int a1), (2, .int a2)]) (by decide) (Nat.le_of_ble_eq_true rfl) rfl (fun C hl hnm F E => ?_)
  have F : Fx C RX10 cX10_crack 4 rm_X10_crack K := F
  refine v_aload_n F (dq dkX10_crack_0 0 rfl) rfl 0 rfl ?_
  refine v_iload_n F (dq dkX10_crack_0 1 rfl) rfl 1 rfl ?_
  refine v_callV 1 F (q := 0) (kc1 := 0) (ks1 := 0) (as := [.int a1]) (st := []) (st1 := (.int (b2i (f_X10_isSoMany x a1)) :: [])) (res := (some (.int (b2i (f_X10_isSoMany x a1))))) (c_X10_isSoMany (l := C.2.1) x y a1) (xn (by decide)) xc_0 rfl (tc24 _ (List.mem_of_getElem? (i := 23) rfl)) (tc25 _ (List.mem_of_getElem? (i := 0) rfl)) (tc25 _ (List.mem_of_getElem? (i := 1) rfl)) (tc1 _ (List.mem_of_getElem? (i := 2) rfl)) (tc25 _ (List.mem_of_getElem? (i := 2) rfl)) (by decide) rfl ⟨rfl, rfl, Nat.le_of_ble_eq_true rfl, Nat.le_of_ble_eq_true rfl⟩ ⟨Nat.le_of_ble_eq_true rfl, Nat.le_of_ble_eq_true rfl⟩ rfl (Nat.le_of_ble_eq_true rfl) rfl rfl rfl (dq dkX10_crack_0 2 rfl) ?_
  refine v_if_ne F (tgt := 11) (dq dkX10_crack_0 3 rfl) (by decide) (fun c2 => ?_) (fun c2 => ?_)
  · rw [if_neg c2] at h
    refine v_iload_n F (dq dkX10_crack_0 6 rfl) rfl 2 rfl ?_
    refine v_iconst F (v := 0) (dq dkX10_crack_0 7 rfl) ki_0 ?_
    refine v_bipush F (v := 12) (dq dkX10_crack_0 8 rfl) kb_12 ?_
    refine v_callS 3 F (kc1 := 0) (ks1 := 0) (as := [.int a2, .int 0, .int 12]) (st := []) (st1 := (.int (b2i (f_X10_within a2 0 12)) :: [])) (res := (some (.int (b2i (f_X10_within a2 0 12))))) (c_X10_within (l := C.2.1) a2 0 12) (tc14 _ (List.mem_of_getElem? (i := 3) rfl)) (tc8 _ (List.mem_of_getElem? (i := 15) rfl)) (tc1 _ (List.mem_of_getElem? (i := 2) rfl)) (tc8 _ (List.mem_of_getElem? (i := 16) rfl)) (by decide) rfl ⟨rfl, rfl, Nat.le_of_ble_eq_true rfl, Nat.le_of_ble_eq_true rfl⟩ ⟨Nat.le_of_ble_eq_true rfl, Nat.le_of_ble_eq_true rfl⟩ rfl (Nat.le_of_ble_eq_true rfl) rfl rfl rfl (dq dkX10_crack_0 9 rfl) ?_
    refine v_if_ne F (tgt := 24) (dq dkX10_crack_0 10 rfl) (by decide) (fun c4 => ?_) (fun c4 => ?_)
    · rw [if_neg c4] at h
      refine v_aload_n F (dq dkX10_crack_0 13 rfl) rfl 0 rfl ?_
      refine v_iload_n F (dq dkX10_crack_0 14 rfl) rfl 1 rfl ?_
      refine v_iconst F (v := (-1)) (dq dkX10_crack_0 15 rfl) ki_m1 ?_
      obtain ⟨r5, e6, h⟩ := bd_of h
      refine v_callV 2 F (q := 0) (kc1 := 0) (ks1 := 0) (as := [.int a1, .int (-1)]) (st := []) (st1 := []) (res := none) (c_X10_makeHull (l := C.2.1) x y a1 (-1) e6) (xn (by decide)) xc_0 rfl (tc25 _ (List.mem_of_getElem? (i := 3) rfl)) (tc25 _ (List.mem_of_getElem? (i := 4) rfl)) (tc25 _ (List.mem_of_getElem? (i := 5) rfl)) (tc1 _ (List.mem_of_getElem? (i := 2) rfl)) (tc25 _ (List.mem_of_getElem? (i := 6) rfl)) (by decide) rfl ⟨rfl, rfl, Nat.le_of_ble_eq_true rfl, Nat.le_of_ble_eq_true rfl⟩ ⟨Nat.le_of_ble_eq_true rfl, Nat.le_of_ble_eq_true rfl⟩ rfl (Nat.le_of_ble_eq_true rfl) rfl rfl rfl (dq dkX10_crack_0 16 rfl) ?_
      refine v_aload_n F (dq dkX10_crack_0 17 rfl) rfl 0 rfl ?_
      refine v_get F 0 (xn (by decide)) xc_0 rfl inlX10 7 (by decide) (tc2 _ (List.mem_of_getElem? (i := 20) rfl)) rfl rfl (dq dkX10_crack_0 18 rfl) ?_
      refine v_getN F 48 (xn (by decide)) xc_48 rfl inlX2 6 (by decide) (List.mem_of_getElem? (i := 11) rfl) rfl rfl (dq dkX10_crack_0 19 rfl) ?_
      refine v_istore_n F (ls' := [(3, .int (gi r5 48 6)), (0, .ref (K.1 + 0)), (1, .int a1), (2, .int a2)]) (dq dkX10_crack_0 20 rfl) rfl (by decide) rfl ?_
      refine v_aload_n F (dq dkX10_crack_0 21 rfl) rfl 1 rfl ?_
      refine v_get F 0 (xn (by decide)) xc_0 rfl inlX10 7 (by decide) (tc2 _ (List.mem_of_getElem? (i := 20) rfl)) rfl rfl (dq dkX10_crack_0 22 rfl) ?_
      refine v_iload_n F (dq dkX10_crack_0 23 rfl) rfl 3 rfl ?_
      obtain ⟨r7, e8, h⟩ := bd_of h
      refine v_callV 1 F (q := 48) (kc1 := 0) (ks1 := 0) (as := [.int a2]) (st := []) (st1 := []) (res := none) (c_X2_spreadBy (l := C.2.1) r5 y a2 e8) (xn (by decide)) xc_48 rfl (tc31 _ (List.mem_of_getElem? (i := 9) rfl)) (tc26 _ (List.mem_of_getElem? (i := 8) rfl)) (tc26 _ (List.mem_of_getElem? (i := 9) rfl)) (tc2 _ (List.mem_of_getElem? (i := 19) rfl)) (tc26 _ (List.mem_of_getElem? (i := 10) rfl)) (by decide) rfl ⟨rfl, rfl, Nat.le_of_ble_eq_true rfl, Nat.le_of_ble_eq_true rfl⟩ ⟨Nat.le_of_ble_eq_true rfl, Nat.le_of_ble_eq_true rfl⟩ rfl (Nat.le_of_ble_eq_true rfl) rfl rfl rfl (dq dkX10_crack_0 24 rfl) ?_
      refine v_aload_n F (dq dkX10_crack_0 25 rfl) rfl 1 rfl ?_
      refine v_get F 0 (xn (by decide)) xc_0 rfl inlX10 7 (by decide) (tc2 _ (List.mem_of_getElem? (i := 20) rfl)) rfl rfl (dq dkX10_crack_0 26 rfl) ?_
      refine v_getN F 48 (xn (by decide)) xc_48 rfl inlX2 6 (by decide) (List.mem_of_getElem? (i := 11) rfl) rfl rfl (dq dkX10_crack_0 27 rfl) ?_
      refine v_iload_n F (dq dkX10_crack_0 28 rfl) rfl 0 rfl ?_
      refine v_iconst F (v := (-1)) (dq dkX10_crack_0 29 rfl) ki_m1 ?_
      refine v_ixor F (dq dkX10_crack_0 30 rfl) ?_
      refine v_iand F (dq dkX10_crack_0 31 rfl) ?_
      have h := Option.some.inj h
      subst h
      exact v_iret F E (dq dkX10_crack_0 32 rfl)
    · rw [if_pos c4] at h
      refine v_bipush F (v := (-7)) (dq dkX10_crack_0 11 rfl) kb_m7 ?_
      have h := Option.some.inj h
      subst h
      exact v_iret F E (dq dkX10_crack_0 12 rfl)
  · rw [if_pos c2] at h
    refine v_bipush F (v := (-5)) (dq dkX10_crack_0 4 rfl) kb_m5 ?_
    have h := Option.some.inj h
    subst h
    exact v_iret F E (dq dkX10_crack_0 5 rfl)
def rm_X10_far : Room := { frames := 8, cells := 0, slots := 0, locals := 205 }
def f_X10_far_39 : Nat → CS → Int32 → Int32 → Int32 → Option (Int32 × CS)
  | 0, _, _, _, _ => none
  | n + 1, x, a2, a3, a4 => if a3 < a4 then (some (a3, x)) else ((f_X2_inch x).bind fun r2 => if ((gi r2 48 6) &&& (a2 ^^^ (-1))) = 0 then ((f_X10_far_39 n) r2 a2 a3 (a4 + 1)) else (some (a4 - 1, r2)))
set_option maxRecDepth 100000 in
set_option maxHeartbeats 4000000 in
theorem t_X10_far_39 {C : Cx} {K : KE} {y : MS} {R : Int32 × CS}  (F : Fx C RX10 cX10_far 5 rm_X10_far K) (E : CE C (xf K R.2 y) (some (.int R.1)) 0 0 (some .int)) : ∀ (n : Nat) (x : CS) (a2 : Int32) (a3 : Int32) (a4 : Int32) (h : f_X10_far_39 n x a2 a3 a4 = some R), V C 39 [(0, .ref (K.1 + 0)), (2, .int a2), (3, .int a3), (4, .int a4)] [] (xf K x y) 0 0 := by
  intro n
  induction n with
  | zero => intro x a2 a3 a4 h; cases h
  | succ n ih =>
    intro x a2 a3 a4 h
    rw [f_X10_far_39] at h
    refine v_iload F (dq dkX10_far_0 22 rfl) 3 rfl ?_
    refine v_iload_n F (dq dkX10_far_0 23 rfl) rfl 2 rfl ?_
    refine v_icmp_gt F (tgt := 77) (dq dkX10_far_0 24 rfl) (by decide) (fun c1 => ?_) (fun c1 => ?_)
    · rw [if_pos c1] at h
      refine v_iload_n F (dq dkX10_far_1 2 rfl) rfl 2 rfl ?_
      have h := Option.some.inj h
      subst h
      exact v_iret F E (dq dkX10_far_1 3 rfl)
    · rw [if_neg c1] at h
      refine v_aload_n F (dq dkX10_far_0 25 rfl) rfl 0 rfl ?_
      refine v_get F 0 (xn (by decide)) xc_0 rfl inlX10 7 (by decide) (tc2 _ (List.mem_of_getElem? (i := 20) rfl)) rfl rfl (dq dkX10_far_0 26 rfl) ?_
      obtain ⟨r2, e3, h⟩ := bd_of h
      refine v_callV 0 F (q := 48) (kc1 := 0) (ks1 := 0) (as := []) (st := []) (st1 := []) (res := none) (c_X2_inch (l := C.2.1) x y e3) (xn (by decide)) xc_48 rfl (tc31 _ (List.mem_of_getElem? (i := 22) rfl)) (tc26 _ (List.mem_of_getElem? (i := 12) rfl)) (tc26 _ (List.mem_of_getElem? (i := 13) rfl)) (tc2 _ (List.mem_of_getElem? (i := 19) rfl)) (tc26 _ (List.mem_of_getElem? (i := 14) rfl)) (by decide) rfl ⟨rfl, rfl, Nat.le_of_ble_eq_true rfl, Nat.le_of_ble_eq_true rfl⟩ ⟨Nat.le_of_ble_eq_true rfl, Nat.le_of_ble_eq_true rfl⟩ rfl (Nat.le_of_ble_eq_true rfl) rfl rfl rfl (dq dkX10_far_0 27 rfl) ?_
      refine v_aload_n F (dq dkX10_far_0 28 rfl) rfl 0 rfl ?_
      refine v_get F 0 (xn (by decide)) xc_0 rfl inlX10 7 (by decide) (tc2 _ (List.mem_of_getElem? (i := 20) rfl)) rfl rfl (dq dkX10_far_0 29 rfl) ?_
      refine v_getN F 48 (xn (by decide)) xc_48 rfl inlX2 6 (by decide) (List.mem_of_getElem? (i := 11) rfl) rfl rfl (dq dkX10_far_0 30 rfl) ?_
      refine v_iload_n F (dq dkX10_far_0 31 rfl) rfl 1 rfl ?_
      refine v_iconst F (v := (-1)) (dq dkX10_far_0 32 rfl) ki_m1 ?_
      refine v_ixor F (dq dkX10_far_0 33 rfl) ?_
      refine v_iand F (dq dkX10_far_0 34 rfl) ?_
      refine v_if_eq F (tgt := 71) (dq dkX10_far_0 35 rfl) (by decide) (fun c4 => ?_) (fun c4 => ?_)
      · rw [if_pos c4] at h
        refine v_iinc F (v := a4 + 1) (ls' := [(4, .int (a4 + 1)), (0, .ref (K.1 + 0)), (2, .int a2), (3, .int a3)]) (dq dkX10_far_1 0 rfl) (j := 3) rfl (kv_add ki_1) (by decide) rfl ?_
        refine v_goto F (tgt := 39) (dq dkX10_far_1 1 rfl) (by decide) ?_
        refine v_sub [1, 2, 3, 0] rfl ?_
        exact ih r2 a2 a3 (a4 + 1) h
      · rw [if_neg c4] at h
        refine v_iload F (dq dkX10_far_0 36 rfl) 3 rfl ?_
        refine v_iconst F (v := 1) (dq dkX10_far_0 37 rfl) ki_1 ?_
        refine v_isub F (dq dkX10_far_0 38 rfl) ?_
        have h := Option.some.inj h
        subst h
        exact v_iret F E (dq dkX10_far_0 39 rfl)
def f_X10_far (x : CS) (a1 : Int32) : Option (Int32 × CS) := if (b2i (f_X10_isSoMany x a1)) = 0 then (some ((-5), x)) else ((f_X10_makeHull x a1 (-1)).bind fun r7 => f_X10_far_39 1000 r7 (gi r7 48 6) (12 - (gi r7 48 7)) 1)
set_option maxRecDepth 100000 in
set_option maxHeartbeats 4000000 in
theorem c_X10_far {K : KE} {l : Launch} {R : Int32 × CS} (x : CS) (y : MS) (a1 : Int32) (h : f_X10_far x a1 = some R) : MC K l yX10_far cX10_far 5 (some .int) rm_X10_far 0 0 [.ref (K.1 + 0), .int a1] (xf K x y) (xf K R.2 y) (some (.int R.1)) := by
  unfold f_X10_far at h
  refine mc_of (ls0 := [(0, .ref (K.1 + 0)), (1, .int a1)]) (by decide) (Nat.le_of_ble_eq_true rfl) rfl (fun C hl hnm F E => ?_)
  have F : Fx C RX10 cX10_far 5 rm_X10_far K := F
  refine v_aload_n F (dq dkX10_far_0 0 rfl) rfl 0 rfl ?_
  refine v_iload_n F (dq dkX10_far_0 1 rfl) rfl 1 rfl ?_
  refine v_callV 1 F (q := 0) (kc1 := 0) (ks1 := 0) (as := [.int a1]) (st := []) (st1 := (.int (b2i (f_X10_isSoMany x a1)) :: [])) (res := (some (.int (b2i (f_X10_isSoMany x a1))))) (c_X10_isSoMany (l := C.2.1) x y a1) (xn (by decide)) xc_0 rfl (tc24 _ (List.mem_of_getElem? (i := 23) rfl)) (tc25 _ (List.mem_of_getElem? (i := 0) rfl)) (tc25 _ (List.mem_of_getElem? (i := 1) rfl)) (tc1 _ (List.mem_of_getElem? (i := 2) rfl)) (tc25 _ (List.mem_of_getElem? (i := 2) rfl)) (by decide) rfl ⟨rfl, rfl, Nat.le_of_ble_eq_true rfl, Nat.le_of_ble_eq_true rfl⟩ ⟨Nat.le_of_ble_eq_true rfl, Nat.le_of_ble_eq_true rfl⟩ rfl (Nat.le_of_ble_eq_true rfl) rfl rfl rfl (dq dkX10_far_0 2 rfl) ?_
  refine v_if_ne F (tgt := 11) (dq dkX10_far_0 3 rfl) (by decide) (fun c6 => ?_) (fun c6 => ?_)
  · rw [if_neg c6] at h
    refine v_aload_n F (dq dkX10_far_0 6 rfl) rfl 0 rfl ?_
    refine v_iload_n F (dq dkX10_far_0 7 rfl) rfl 1 rfl ?_
    refine v_iconst F (v := (-1)) (dq dkX10_far_0 8 rfl) ki_m1 ?_
    obtain ⟨r7, e8, h⟩ := bd_of h
    refine v_callV 2 F (q := 0) (kc1 := 0) (ks1 := 0) (as := [.int a1, .int (-1)]) (st := []) (st1 := []) (res := none) (c_X10_makeHull (l := C.2.1) x y a1 (-1) e8) (xn (by decide)) xc_0 rfl (tc25 _ (List.mem_of_getElem? (i := 3) rfl)) (tc25 _ (List.mem_of_getElem? (i := 4) rfl)) (tc25 _ (List.mem_of_getElem? (i := 5) rfl)) (tc1 _ (List.mem_of_getElem? (i := 2) rfl)) (tc25 _ (List.mem_of_getElem? (i := 6) rfl)) (by decide) rfl ⟨rfl, rfl, Nat.le_of_ble_eq_true rfl, Nat.le_of_ble_eq_true rfl⟩ ⟨Nat.le_of_ble_eq_true rfl, Nat.le_of_ble_eq_true rfl⟩ rfl (Nat.le_of_ble_eq_true rfl) rfl rfl rfl (dq dkX10_far_0 9 rfl) ?_
    refine v_aload_n F (dq dkX10_far_0 10 rfl) rfl 0 rfl ?_
    refine v_get F 0 (xn (by decide)) xc_0 rfl inlX10 7 (by decide) (tc2 _ (List.mem_of_getElem? (i := 20) rfl)) rfl rfl (dq dkX10_far_0 11 rfl) ?_
    refine v_getN F 48 (xn (by decide)) xc_48 rfl inlX2 6 (by decide) (List.mem_of_getElem? (i := 11) rfl) rfl rfl (dq dkX10_far_0 12 rfl) ?_
    refine v_istore_n F (ls' := [(2, .int (gi r7 48 6)), (0, .ref (K.1 + 0)), (1, .int a1)]) (dq dkX10_far_0 13 rfl) rfl (by decide) rfl ?_
    refine v_bipush F (v := 12) (dq dkX10_far_0 14 rfl) kb_12 ?_
    refine v_aload_n F (dq dkX10_far_0 15 rfl) rfl 1 rfl ?_
    refine v_get F 0 (xn (by decide)) xc_0 rfl inlX10 7 (by decide) (tc2 _ (List.mem_of_getElem? (i := 20) rfl)) rfl rfl (dq dkX10_far_0 16 rfl) ?_
    refine v_getN F 48 (xn (by decide)) xc_48 rfl inlX2 7 (by decide) (List.mem_of_getElem? (i := 12) rfl) rfl rfl (dq dkX10_far_0 17 rfl) ?_
    refine v_isub F (dq dkX10_far_0 18 rfl) ?_
    refine v_istore_n F (ls' := [(3, .int (12 - (gi r7 48 7))), (2, .int (gi r7 48 6)), (0, .ref (K.1 + 0)), (1, .int a1)]) (dq dkX10_far_0 19 rfl) rfl (by decide) rfl ?_
    refine v_iconst F (v := 1) (dq dkX10_far_0 20 rfl) ki_1 ?_
    refine v_istore F (ls' := [(4, .int 1), (3, .int (12 - (gi r7 48 7))), (2, .int (gi r7 48 6)), (0, .ref (K.1 + 0)), (1, .int a1)]) (dq dkX10_far_0 21 rfl) (by decide) rfl ?_
    refine v_sub [3, 2, 1, 0] rfl ?_
    exact t_X10_far_39 F E 1000 r7 (gi r7 48 6) (12 - (gi r7 48 7)) 1 h
  · rw [if_pos c6] at h
    refine v_bipush F (v := (-5)) (dq dkX10_far_0 4 rfl) kb_m5 ?_
    have h := Option.some.inj h
    subst h
    exact v_iret F E (dq dkX10_far_0 5 rfl)
def rm_X10_odds : Room := { frames := 8, cells := 1, slots := 2, locals := 205 }
def f_X10_odds_27 (x : CS) : Option (Int64 × CS) := some ((-4611686018427387904), x)
set_option maxRecDepth 100000 in
set_option maxHeartbeats 4000000 in
theorem t_X10_odds_27 {C : Cx} {K : KE} {y : MS} {R : Int64 × CS}  (x : CS) (kc ks : Nat) (hkc : kc + (0) ≤ 1) (hks : ks + (0) ≤ 2) (h : f_X10_odds_27 x = some R) (F : Fx C RX10 cX10_odds 5 rm_X10_odds K) (E : CE C (xf K R.2 y) (some (.long R.1)) 1 2 (some .long)) : V C 27 [] [] (xf K x y) kc ks := by
  unfold f_X10_odds_27 at h
  refine v_ldc2 F (v := (-4611686018427387904)) (tc32 _ (List.mem_of_getElem? (i := 11) rfl)) (dq dkX10_odds_0 14 rfl) ?_
  have h := Option.some.inj h
  subst h
  refine v_wide (kc' := 1) (ks1 := 2) (by omega) (by omega) ?_
  exact v_lret F E (dq dkX10_odds_0 15 rfl)
def f_X10_odds (x : CS) (a1 : Int32) (a2 : Int32) (a3 : Int32) (a4 : Int32) : Option (Int64 × CS) := if (b2i (f_X10_isSoMany x a1)) = 0 then (f_X10_odds_27 x) else (if (b2i (f_X10_within a2 0 12)) = 0 then (f_X10_odds_27 x) else (if (b2i (f_X10_within a3 0 5)) = 0 then (f_X10_odds_27 x) else ((f_X10_makeHull x a1 (-1)).bind fun r7 => (f_X2_spreadBy (f_X2_watch r7) a2).bind fun r10 => gd (decide (27 ≤ gn r10)) ((f_X2_chancesWhole (pal r10 (3, fun _ => 0, fun _ => 0)) a3).bind fun r13 => (f_X0_init (pal r10 (3, fun _ => 0, fun _ => 0)) (61 + gn r10) r13.toInt64 (((2 * a3) + 1).toInt64)).bind fun r15 => (f_X0_part r15 (61 + gn r10) a4).bind fun r17 => some (r17, r15)))))
set_option maxRecDepth 100000 in
set_option maxHeartbeats 4000000 in
theorem c_X10_odds {K : KE} {l : Launch} {R : Int64 × CS} (x : CS) (y : MS) (a1 : Int32) (a2 : Int32) (a3 : Int32) (a4 : Int32) (h : f_X10_odds x a1 a2 a3 a4 = some R) : MC K l yX10_odds cX10_odds 5 (some .long) rm_X10_odds 1 2 [.ref (K.1 + 0), .int a1, .int a2, .int a3, .int a4] (xf K x y) (xf K R.2 y) (some (.long R.1)) := by
  unfold f_X10_odds at h
  refine mc_of (ls0 := [(0, .ref (K.1 + 0)), (1, .int a1), (2, .int a2), (3, .int a3), (4, .int a4)]) (by decide) (Nat.le_of_ble_eq_true rfl) rfl (fun C hl hnm F E => ?_)
  have F : Fx C RX10 cX10_odds 5 rm_X10_odds K := F
  refine v_aload_n F (dq dkX10_odds_0 0 rfl) rfl 0 rfl ?_
  refine v_iload_n F (dq dkX10_odds_0 1 rfl) rfl 1 rfl ?_
  refine v_callV 1 F (q := 0) (kc1 := 0) (ks1 := 0) (as := [.int a1]) (st := []) (st1 := (.int (b2i (f_X10_isSoMany x a1)) :: [])) (res := (some (.int (b2i (f_X10_isSoMany x a1))))) (c_X10_isSoMany (l := C.2.1) x y a1) (xn (by decide)) xc_0 rfl (tc24 _ (List.mem_of_getElem? (i := 23) rfl)) (tc25 _ (List.mem_of_getElem? (i := 0) rfl)) (tc25 _ (List.mem_of_getElem? (i := 1) rfl)) (tc1 _ (List.mem_of_getElem? (i := 2) rfl)) (tc25 _ (List.mem_of_getElem? (i := 2) rfl)) (by decide) rfl ⟨rfl, rfl, Nat.le_of_ble_eq_true rfl, Nat.le_of_ble_eq_true rfl⟩ ⟨by show 0 + 0 ≤ 1; omega, by show 0 + 0 ≤ 2; omega⟩ rfl (Nat.le_of_ble_eq_true rfl) rfl rfl rfl (dq dkX10_odds_0 2 rfl) ?_
  refine v_if_eq F (tgt := 27) (dq dkX10_odds_0 3 rfl) (by decide) (fun c2 => ?_) (fun c2 => ?_)
  · rw [if_pos c2] at h
    refine v_sub [] rfl ?_
    exact t_X10_odds_27 x (0) (0) (by omega) (by omega) h F E
  · rw [if_neg c2] at h
    refine v_iload_n F (dq dkX10_odds_0 4 rfl) rfl 2 rfl ?_
    refine v_iconst F (v := 0) (dq dkX10_odds_0 5 rfl) ki_0 ?_
    refine v_bipush F (v := 12) (dq dkX10_odds_0 6 rfl) kb_12 ?_
    refine v_callS 3 F (kc1 := 0) (ks1 := 0) (as := [.int a2, .int 0, .int 12]) (st := []) (st1 := (.int (b2i (f_X10_within a2 0 12)) :: [])) (res := (some (.int (b2i (f_X10_within a2 0 12))))) (c_X10_within (l := C.2.1) a2 0 12) (tc14 _ (List.mem_of_getElem? (i := 3) rfl)) (tc8 _ (List.mem_of_getElem? (i := 15) rfl)) (tc1 _ (List.mem_of_getElem? (i := 2) rfl)) (tc8 _ (List.mem_of_getElem? (i := 16) rfl)) (by decide) rfl ⟨rfl, rfl, Nat.le_of_ble_eq_true rfl, Nat.le_of_ble_eq_true rfl⟩ ⟨by show 0 + 0 ≤ 1; omega, by show 0 + 0 ≤ 2; omega⟩ rfl (Nat.le_of_ble_eq_true rfl) rfl rfl rfl (dq dkX10_odds_0 7 rfl) ?_
    refine v_if_eq F (tgt := 27) (dq dkX10_odds_0 8 rfl) (by decide) (fun c4 => ?_) (fun c4 => ?_)
    · rw [if_pos c4] at h
      refine v_sub [] rfl ?_
      exact t_X10_odds_27 x (0) (0) (by omega) (by omega) h F E
    · rw [if_neg c4] at h
      refine v_iload_n F (dq dkX10_odds_0 9 rfl) rfl 3 rfl ?_
      refine v_iconst F (v := 0) (dq dkX10_odds_0 10 rfl) ki_0 ?_
      refine v_iconst F (v := 5) (dq dkX10_odds_0 11 rfl) ki_5 ?_
      refine v_callS 3 F (kc1 := 0) (ks1 := 0) (as := [.int a3, .int 0, .int 5]) (st := []) (st1 := (.int (b2i (f_X10_within a3 0 5)) :: [])) (res := (some (.int (b2i (f_X10_within a3 0 5))))) (c_X10_within (l := C.2.1) a3 0 5) (tc14 _ (List.mem_of_getElem? (i := 3) rfl)) (tc8 _ (List.mem_of_getElem? (i := 15) rfl)) (tc1 _ (List.mem_of_getElem? (i := 2) rfl)) (tc8 _ (List.mem_of_getElem? (i := 16) rfl)) (by decide) rfl ⟨rfl, rfl, Nat.le_of_ble_eq_true rfl, Nat.le_of_ble_eq_true rfl⟩ ⟨by show 0 + 0 ≤ 1; omega, by show 0 + 0 ≤ 2; omega⟩ rfl (Nat.le_of_ble_eq_true rfl) rfl rfl rfl (dq dkX10_odds_0 12 rfl) ?_
      refine v_if_ne F (tgt := 31) (dq dkX10_odds_0 13 rfl) (by decide) (fun c6 => ?_) (fun c6 => ?_)
      · rw [if_neg c6] at h
        refine v_aload_n F (dq dkX10_odds_0 16 rfl) rfl 0 rfl ?_
        refine v_iload_n F (dq dkX10_odds_0 17 rfl) rfl 1 rfl ?_
        refine v_iconst F (v := (-1)) (dq dkX10_odds_0 18 rfl) ki_m1 ?_
        obtain ⟨r7, e8, h⟩ := bd_of h
        refine v_callV 2 F (q := 0) (kc1 := 0) (ks1 := 0) (as := [.int a1, .int (-1)]) (st := []) (st1 := []) (res := none) (c_X10_makeHull (l := C.2.1) x y a1 (-1) e8) (xn (by decide)) xc_0 rfl (tc25 _ (List.mem_of_getElem? (i := 3) rfl)) (tc25 _ (List.mem_of_getElem? (i := 4) rfl)) (tc25 _ (List.mem_of_getElem? (i := 5) rfl)) (tc1 _ (List.mem_of_getElem? (i := 2) rfl)) (tc25 _ (List.mem_of_getElem? (i := 6) rfl)) (by decide) rfl ⟨rfl, rfl, Nat.le_of_ble_eq_true rfl, Nat.le_of_ble_eq_true rfl⟩ ⟨by show 0 + 0 ≤ 1; omega, by show 0 + 0 ≤ 2; omega⟩ rfl (Nat.le_of_ble_eq_true rfl) rfl rfl rfl (dq dkX10_odds_0 19 rfl) ?_
        refine v_aload_n F (dq dkX10_odds_0 20 rfl) rfl 0 rfl ?_
        refine v_get F 0 (xn (by decide)) xc_0 rfl inlX10 7 (by decide) (tc2 _ (List.mem_of_getElem? (i := 20) rfl)) rfl rfl (dq dkX10_odds_0 21 rfl) ?_
        refine v_callV 0 F (q := 48) (kc1 := 0) (ks1 := 0) (as := []) (st := []) (st1 := []) (res := none) (c_X2_watch (l := C.2.1) r7 y) (xn (by decide)) xc_48 rfl (tc32 _ (List.mem_of_getElem? (i := 15) rfl)) (tc32 _ (List.mem_of_getElem? (i := 16) rfl)) (tc32 _ (List.mem_of_getElem? (i := 17) rfl)) (tc2 _ (List.mem_of_getElem? (i := 19) rfl)) (tc32 _ (List.mem_of_getElem? (i := 18) rfl)) (by decide) rfl ⟨rfl, rfl, Nat.le_of_ble_eq_true rfl, Nat.le_of_ble_eq_true rfl⟩ ⟨by show 0 + 0 ≤ 1; omega, by show 0 + 0 ≤ 2; omega⟩ rfl (Nat.le_of_ble_eq_true rfl) rfl rfl rfl (dq dkX10_odds_0 22 rfl) ?_
        refine v_aload_n F (dq dkX10_odds_0 23 rfl) rfl 0 rfl ?_
        refine v_get F 0 (xn (by decide)) xc_0 rfl inlX10 7 (by decide) (tc2 _ (List.mem_of_getElem? (i := 20) rfl)) rfl rfl (dq dkX10_odds_0 24 rfl) ?_
        refine v_iload_n F (dq dkX10_odds_0 25 rfl) rfl 2 rfl ?_
        obtain ⟨r10, e11, h⟩ := bd_of h
        refine v_callV 1 F (q := 48) (kc1 := 0) (ks1 := 0) (as := [.int a2]) (st := []) (st1 := []) (res := none) (c_X2_spreadBy (l := C.2.1) (f_X2_watch r7) y a2 e11) (xn (by decide)) xc_48 rfl (tc31 _ (List.mem_of_getElem? (i := 9) rfl)) (tc26 _ (List.mem_of_getElem? (i := 8) rfl)) (tc26 _ (List.mem_of_getElem? (i := 9) rfl)) (tc2 _ (List.mem_of_getElem? (i := 19) rfl)) (tc26 _ (List.mem_of_getElem? (i := 10) rfl)) (by decide) rfl ⟨rfl, rfl, Nat.le_of_ble_eq_true rfl, Nat.le_of_ble_eq_true rfl⟩ ⟨by show 0 + 0 ≤ 1; omega, by show 0 + 0 ≤ 2; omega⟩ rfl (Nat.le_of_ble_eq_true rfl) rfl rfl rfl (dq dkX10_odds_0 26 rfl) ?_
        obtain ⟨g12, h⟩ := gd_of h
        refine v_new (ci := 0) (fs := [.long 0, .long 0]) (kc1 := 0 + 1) (ks1 := 0 + 2) F rfl inlX0 tyX0_ok (tc32 _ (List.mem_of_getElem? (i := 12) rfl)) (tc32 _ (List.mem_of_getElem? (i := 13) rfl)) (tc32 _ (List.mem_of_getElem? (i := 14) rfl)) (fun j hj => by rcases (show j = 0 ∨ j = 1 by omega) with rfl | rfl <;> rfl) (by show 0 + 1 ≤ 1; omega) (by show 0 + 2 ≤ 2; omega) rfl rfl (dq dkX10_odds_0 27 rfl) ?_
        refine v_eqM (xwP (of_decide_eq_true g12) (d := (3, fun _ => 0, fun _ => 0)) rfl) ?_
        refine v_dup F (dq dkX10_odds_0 28 rfl) rfl ?_
        refine v_aload_n F (dq dkX10_odds_0 29 rfl) rfl 0 rfl ?_
        refine v_get F 0 (xn (by decide)) xc_0 rfl inlX10 7 (by decide) (tc2 _ (List.mem_of_getElem? (i := 20) rfl)) rfl rfl (dq dkX10_odds_0 30 rfl) ?_
        refine v_iload_n F (dq dkX10_odds_0 31 rfl) rfl 3 rfl ?_
        obtain ⟨r13, e14, h⟩ := bd_of h
        refine v_callV 1 F (q := 48) (kc1 := 0 + 1) (ks1 := 0 + 2) (as := [.int a3]) (st := [.ref (K.1 + (61 + gn r10)), .ref (K.1 + (61 + gn r10))]) (st1 := (.int r13 :: [.ref (K.1 + (61 + gn r10)), .ref (K.1 + (61 + gn r10))])) (res := (some (.int r13))) (c_X2_chancesWhole (l := C.2.1) (pal r10 (3, fun _ => 0, fun _ => 0)) y a3 e14) (xn (by decide)) xc_48 rfl (tc32 _ (List.mem_of_getElem? (i := 19) rfl)) (tc32 _ (List.mem_of_getElem? (i := 20) rfl)) (tc32 _ (List.mem_of_getElem? (i := 21) rfl)) (tc2 _ (List.mem_of_getElem? (i := 19) rfl)) (tc32 _ (List.mem_of_getElem? (i := 22) rfl)) (by decide) rfl ⟨rfl, rfl, Nat.le_of_ble_eq_true rfl, Nat.le_of_ble_eq_true rfl⟩ ⟨by show 0 + 1 + 0 ≤ 1; omega, by show 0 + 2 + 0 ≤ 2; omega⟩ rfl (Nat.le_of_ble_eq_true rfl) rfl rfl rfl (dq dkX10_odds_0 32 rfl) ?_
        refine v_i2l F (dq dkX10_odds_0 33 rfl) ?_
        refine v_iconst F (v := 2) (dq dkX10_odds_0 34 rfl) ki_2 ?_
        refine v_iload_n F (dq dkX10_odds_0 35 rfl) rfl 3 rfl ?_
        refine v_imul F (dq dkX10_odds_0 36 rfl) ?_
        refine v_iconst F (v := 1) (dq dkX10_odds_0 37 rfl) ki_1 ?_
        refine v_iadd F (dq dkX10_odds_0 38 rfl) ?_
        refine v_i2l F (dq dkX10_odds_0 39 rfl) ?_
        obtain ⟨r15, e16, h⟩ := bd_of h
        refine v_callI 2 F (q := 61 + gn r10) (as := [.long r13.toInt64, .long (((2 * a3) + 1).toInt64)]) (st := [.ref (K.1 + (61 + gn r10))]) (kc1 := 0 + 1) (ks1 := 0 + 2) (c_X0_init (l := C.2.1) (pal r10 (3, fun _ => 0, fun _ => 0)) y (61 + gn r10) r13.toInt64 (((2 * a3) + 1).toInt64) e16) (tc32 _ (List.mem_of_getElem? (i := 23) rfl)) (tc33 _ (List.mem_of_getElem? (i := 0) rfl)) (tc32 _ (List.mem_of_getElem? (i := 14) rfl)) (tc33 _ (List.mem_of_getElem? (i := 1) rfl)) rfl (by decide) rfl ⟨rfl, rfl, Nat.le_of_ble_eq_true rfl, Nat.le_of_ble_eq_true rfl⟩ ⟨by show 0 + 1 + 0 ≤ 1; omega, by show 0 + 2 + 0 ≤ 2; omega⟩ rfl (Nat.le_of_ble_eq_true rfl) rfl rfl (dq dkX10_odds_1 0 rfl) ?_
        refine v_iload F (dq dkX10_odds_1 1 rfl) 4 rfl ?_
        obtain ⟨r17, e18, h⟩ := bd_of h
        refine v_callV 1 F (q := 61 + gn r10) (kc1 := 0 + 1) (ks1 := 0 + 2) (as := [.int a4]) (st := []) (st1 := (.long r17 :: [])) (res := (some (.long r17))) (c_X0_part (l := C.2.1) r15 y (61 + gn r10) a4 e18) (kFr_lt (f_X0_part_k e18)) (kFr_at (f_X0_part_k e18)) rfl (tc33 _ (List.mem_of_getElem? (i := 8) rfl)) (tc33 _ (List.mem_of_getElem? (i := 9) rfl)) (tc33 _ (List.mem_of_getElem? (i := 10) rfl)) (tc32 _ (List.mem_of_getElem? (i := 14) rfl)) (tc33 _ (List.mem_of_getElem? (i := 11) rfl)) (by decide) rfl ⟨rfl, rfl, Nat.le_of_ble_eq_true rfl, Nat.le_of_ble_eq_true rfl⟩ ⟨by show 0 + 1 + 0 ≤ 1; omega, by show 0 + 2 + 0 ≤ 2; omega⟩ rfl (Nat.le_of_ble_eq_true rfl) rfl rfl rfl (dq dkX10_odds_1 2 rfl) ?_
        have h := Option.some.inj h
        subst h
        refine v_wide (kc' := 1) (ks1 := 2) (by omega) (by omega) ?_
        exact v_lret F E (dq dkX10_odds_1 3 rfl)
      · rw [if_pos c6] at h
        refine v_sub [] rfl ?_
        exact t_X10_odds_27 x (0) (0) (by omega) (by omega) h F E
def rm_X10_stop : Room := { frames := 8, cells := 0, slots := 0, locals := 205 }
def f_X10_stop_43 (x : CS) : Option (Int32 × CS) := some ((-7), x)
set_option maxRecDepth 100000 in
set_option maxHeartbeats 4000000 in
theorem t_X10_stop_43 {C : Cx} {K : KE} {y : MS} {R : Int32 × CS}  (x : CS) (h : f_X10_stop_43 x = some R) (F : Fx C RX10 cX10_stop 11 rm_X10_stop K) (E : CE C (xf K R.2 y) (some (.int R.1)) 0 0 (some .int)) : V C 43 [] [] (xf K x y) 0 0 := by
  unfold f_X10_stop_43 at h
  refine v_bipush F (v := (-7)) (dq dkX10_stop_0 21 rfl) kb_m7 ?_
  have h := Option.some.inj h
  subst h
  exact v_iret F E (dq dkX10_stop_0 22 rfl)
def f_X10_stop_141 (k80 : CS → Int32 → Int32 → Int32 → Int32 → Int32 → Int32 → Int32 → Option (Int32 × CS)) (x : CS) (a2 : Int32) (a3 : Int32) (a4 : Int32) (a5 : Int32) (a6 : Int32) (a7 : Int32) (a8 : Int32) : Option (Int32 × CS) := k80 x a2 a3 a4 a5 a6 a7 (a8 + 1)
set_option maxRecDepth 100000 in
set_option maxHeartbeats 4000000 in
theorem t_X10_stop_141 {C : Cx} {K : KE} {y : MS} {R : Int32 × CS}  (k80 : CS → Int32 → Int32 → Int32 → Int32 → Int32 → Int32 → Int32 → Option (Int32 × CS)) (x : CS) (a2 : Int32) (a3 : Int32) (a4 : Int32) (a5 : Int32) (a6 : Int32) (a7 : Int32) (a8 : Int32) (hk80 : ∀ (x : CS) (a2 : Int32) (a3 : Int32) (a4 : Int32) (a5 : Int32) (a6 : Int32) (a7 : Int32) (a8 : Int32), k80 x a2 a3 a4 a5 a6 a7 a8 = some R → V C 80 [(0, .ref (K.1 + 0)), (2, .int a2), (3, .int a3), (4, .int a4), (5, .int a5), (6, .int a6), (7, .int a7), (8, .int a8)] [] (xf K x y) 0 0) (h : f_X10_stop_141 k80 x a2 a3 a4 a5 a6 a7 a8 = some R) (F : Fx C RX10 cX10_stop 11 rm_X10_stop K) (E : CE C (xf K R.2 y) (some (.int R.1)) 0 0 (some .int)) : V C 141 [(0, .ref (K.1 + 0)), (2, .int a2), (3, .int a3), (4, .int a4), (5, .int a5), (6, .int a6), (7, .int a7), (8, .int a8)] [] (xf K x y) 0 0 := by
  unfold f_X10_stop_141 at h
  refine v_iinc F (v := a8 + 1) (ls' := [(8, .int (a8 + 1)), (0, .ref (K.1 + 0)), (2, .int a2), (3, .int a3), (4, .int a4), (5, .int a5), (6, .int a6), (7, .int a7)]) (dq dkX10_stop_1 36 rfl) (j := 7) rfl (kv_add ki_1) (by decide) rfl ?_
  refine v_goto F (tgt := 80) (dq dkX10_stop_1 37 rfl) (by decide) ?_
  refine v_sub [1, 2, 3, 4, 5, 6, 7, 0] rfl ?_
  exact hk80 x a2 a3 a4 a5 a6 a7 (a8 + 1) h
def f_X10_stop_80 : Nat → CS → Int32 → Int32 → Int32 → Int32 → Int32 → Int32 → Int32 → Option (Int32 × CS)
  | 0, _, _, _, _, _, _, _, _ => none
  | n + 1, x, a2, a3, a4, a5, a6, a7, a8 => if a5 < a8 then (some (a6, x)) else ((f_X2_inch x).bind fun r2 => (f_X2_chancesWhole r2 a4).bind fun r4 => if (((r4 * a8) * a2) - ((((2 * a4) + 1) - r4) * a3)) ≤ a7 then (f_X10_stop_141 (f_X10_stop_80 n) r2 a2 a3 a4 a5 a6 a7 a8) else (f_X10_stop_141 (f_X10_stop_80 n) r2 a2 a3 a4 a5 a8 (((r4 * a8) * a2) - ((((2 * a4) + 1) - r4) * a3)) a8))
set_option maxRecDepth 100000 in
set_option maxHeartbeats 4000000 in
theorem t_X10_stop_80 {C : Cx} {K : KE} {y : MS} {R : Int32 × CS}  (F : Fx C RX10 cX10_stop 11 rm_X10_stop K) (E : CE C (xf K R.2 y) (some (.int R.1)) 0 0 (some .int)) : ∀ (n : Nat) (x : CS) (a2 : Int32) (a3 : Int32) (a4 : Int32) (a5 : Int32) (a6 : Int32) (a7 : Int32) (a8 : Int32) (h : f_X10_stop_80 n x a2 a3 a4 a5 a6 a7 a8 = some R), V C 80 [(0, .ref (K.1 + 0)), (2, .int a2), (3, .int a3), (4, .int a4), (5, .int a5), (6, .int a6), (7, .int a7), (8, .int a8)] [] (xf K x y) 0 0 := by
  intro n
  induction n with
  | zero => intro x a2 a3 a4 a5 a6 a7 a8 h; cases h
  | succ n ih =>
    intro x a2 a3 a4 a5 a6 a7 a8 h
    rw [f_X10_stop_80] at h
    refine v_iload F (dq dkX10_stop_1 2 rfl) 7 rfl ?_
    refine v_iload F (dq dkX10_stop_1 3 rfl) 4 rfl ?_
    refine v_icmp_gt F (tgt := 147) (dq dkX10_stop_1 4 rfl) (by decide) (fun c1 => ?_) (fun c1 => ?_)
    · rw [if_pos c1] at h
      refine v_iload F (dq dkX10_stop_1 38 rfl) 5 rfl ?_
      have h := Option.some.inj h
      subst h
      exact v_iret F E (dq dkX10_stop_1 39 rfl)
    · rw [if_neg c1] at h
      refine v_aload_n F (dq dkX10_stop_1 5 rfl) rfl 0 rfl ?_
      refine v_get F 0 (xn (by decide)) xc_0 rfl inlX10 7 (by decide) (tc2 _ (List.mem_of_getElem? (i := 20) rfl)) rfl rfl (dq dkX10_stop_1 6 rfl) ?_
      obtain ⟨r2, e3, h⟩ := bd_of h
      refine v_callV 0 F (q := 48) (kc1 := 0) (ks1 := 0) (as := []) (st := []) (st1 := []) (res := none) (c_X2_inch (l := C.2.1) x y e3) (xn (by decide)) xc_48 rfl (tc31 _ (List.mem_of_getElem? (i := 22) rfl)) (tc26 _ (List.mem_of_getElem? (i := 12) rfl)) (tc26 _ (List.mem_of_getElem? (i := 13) rfl)) (tc2 _ (List.mem_of_getElem? (i := 19) rfl)) (tc26 _ (List.mem_of_getElem? (i := 14) rfl)) (by decide) rfl ⟨rfl, rfl, Nat.le_of_ble_eq_true rfl, Nat.le_of_ble_eq_true rfl⟩ ⟨Nat.le_of_ble_eq_true rfl, Nat.le_of_ble_eq_true rfl⟩ rfl (Nat.le_of_ble_eq_true rfl) rfl rfl rfl (dq dkX10_stop_1 7 rfl) ?_
      refine v_aload_n F (dq dkX10_stop_1 8 rfl) rfl 0 rfl ?_
      refine v_get F 0 (xn (by decide)) xc_0 rfl inlX10 7 (by decide) (tc2 _ (List.mem_of_getElem? (i := 20) rfl)) rfl rfl (dq dkX10_stop_1 9 rfl) ?_
      refine v_iload F (dq dkX10_stop_1 10 rfl) 3 rfl ?_
      obtain ⟨r4, e5, h⟩ := bd_of h
      refine v_callV 1 F (q := 48) (kc1 := 0) (ks1 := 0) (as := [.int a4]) (st := []) (st1 := (.int r4 :: [])) (res := (some (.int r4))) (c_X2_chancesWhole (l := C.2.1) r2 y a4 e5) (xn (by decide)) xc_48 rfl (tc32 _ (List.mem_of_getElem? (i := 19) rfl)) (tc32 _ (List.mem_of_getElem? (i := 20) rfl)) (tc32 _ (List.mem_of_getElem? (i := 21) rfl)) (tc2 _ (List.mem_of_getElem? (i := 19) rfl)) (tc32 _ (List.mem_of_getElem? (i := 22) rfl)) (by decide) rfl ⟨rfl, rfl, Nat.le_of_ble_eq_true rfl, Nat.le_of_ble_eq_true rfl⟩ ⟨Nat.le_of_ble_eq_true rfl, Nat.le_of_ble_eq_true rfl⟩ rfl (Nat.le_of_ble_eq_true rfl) rfl rfl rfl (dq dkX10_stop_1 11 rfl) ?_
      refine v_istore F (ls' := [(9, .int r4), (0, .ref (K.1 + 0)), (2, .int a2), (3, .int a3), (4, .int a4), (5, .int a5), (6, .int a6), (7, .int a7), (8, .int a8)]) (dq dkX10_stop_1 12 rfl) (by decide) rfl ?_
      refine v_iload F (dq dkX10_stop_1 13 rfl) 0 rfl ?_
      refine v_iload F (dq dkX10_stop_1 14 rfl) 8 rfl ?_
      refine v_imul F (dq dkX10_stop_1 15 rfl) ?_
      refine v_iload_n F (dq dkX10_stop_1 16 rfl) rfl 2 rfl ?_
      refine v_imul F (dq dkX10_stop_1 17 rfl) ?_
      refine v_iconst F (v := 2) (dq dkX10_stop_1 18 rfl) ki_2 ?_
      refine v_iload F (dq dkX10_stop_1 19 rfl) 4 rfl ?_
      refine v_imul F (dq dkX10_stop_1 20 rfl) ?_
      refine v_iconst F (v := 1) (dq dkX10_stop_1 21 rfl) ki_1 ?_
      refine v_iadd F (dq dkX10_stop_1 22 rfl) ?_
      refine v_iload F (dq dkX10_stop_1 23 rfl) 0 rfl ?_
      refine v_isub F (dq dkX10_stop_1 24 rfl) ?_
      refine v_iload_n F (dq dkX10_stop_1 25 rfl) rfl 3 rfl ?_
      refine v_imul F (dq dkX10_stop_1 26 rfl) ?_
      refine v_isub F (dq dkX10_stop_1 27 rfl) ?_
      refine v_istore F (ls' := [(10, .int (((r4 * a8) * a2) - ((((2 * a4) + 1) - r4) * a3))), (9, .int r4), (0, .ref (K.1 + 0)), (2, .int a2), (3, .int a3), (4, .int a4), (5, .int a5), (6, .int a6), (7, .int a7), (8, .int a8)]) (dq dkX10_stop_1 28 rfl) (by decide) rfl ?_
      refine v_iload F (dq dkX10_stop_1 29 rfl) 0 rfl ?_
      refine v_iload F (dq dkX10_stop_1 30 rfl) 8 rfl ?_
      refine v_icmp_le F (tgt := 141) (dq dkX10_stop_1 31 rfl) (by decide) (fun c6 => ?_) (fun c6 => ?_)
      · rw [if_pos c6] at h
        refine v_sub [2, 3, 4, 5, 6, 7, 8, 9] rfl ?_
        exact t_X10_stop_141 (f_X10_stop_80 n) r2 a2 a3 a4 a5 a6 a7 a8 ih h F E
      · rw [if_neg c6] at h
        refine v_iload F (dq dkX10_stop_1 32 rfl) 0 rfl ?_
        refine v_istore F (ls' := [(7, .int (((r4 * a8) * a2) - ((((2 * a4) + 1) - r4) * a3))), (10, .int (((r4 * a8) * a2) - ((((2 * a4) + 1) - r4) * a3))), (9, .int r4), (0, .ref (K.1 + 0)), (2, .int a2), (3, .int a3), (4, .int a4), (5, .int a5), (6, .int a6), (8, .int a8)]) (dq dkX10_stop_1 33 rfl) (by decide) rfl ?_
        refine v_iload F (dq dkX10_stop_1 34 rfl) 9 rfl ?_
        refine v_istore F (ls' := [(6, .int a8), (7, .int (((r4 * a8) * a2) - ((((2 * a4) + 1) - r4) * a3))), (10, .int (((r4 * a8) * a2) - ((((2 * a4) + 1) - r4) * a3))), (9, .int r4), (0, .ref (K.1 + 0)), (2, .int a2), (3, .int a3), (4, .int a4), (5, .int a5), (8, .int a8)]) (dq dkX10_stop_1 35 rfl) (by decide) rfl ?_
        refine v_sub [4, 5, 6, 7, 8, 0, 1, 9] rfl ?_
        exact t_X10_stop_141 (f_X10_stop_80 n) r2 a2 a3 a4 a5 a8 (((r4 * a8) * a2) - ((((2 * a4) + 1) - r4) * a3)) a8 ih h F E
def f_X10_stop (x : CS) (a1 : Int32) (a2 : Int32) (a3 : Int32) (a4 : Int32) : Option (Int32 × CS) := if (b2i (f_X10_isSoMany x a1)) = 0 then (some ((-5), x)) else (if (b2i (f_X10_within a2 0 999)) = 0 then (f_X10_stop_43 x) else (if (b2i (f_X10_within a3 0 9999)) = 0 then (f_X10_stop_43 x) else (if (b2i (f_X10_within a4 0 5)) = 0 then (f_X10_stop_43 x) else ((f_X10_makeHull x a1 (-1)).bind fun r15 => f_X10_stop_80 1000 (f_X2_watch r15) a2 a3 a4 (12 - (gi (f_X2_watch r15) 48 7)) 0 0 1))))
set_option maxRecDepth 100000 in
set_option maxHeartbeats 4000000 in
theorem c_X10_stop {K : KE} {l : Launch} {R : Int32 × CS} (x : CS) (y : MS) (a1 : Int32) (a2 : Int32) (a3 : Int32) (a4 : Int32) (h : f_X10_stop x a1 a2 a3 a4 = some R) : MC K l yX10_stop cX10_stop 11 (some .int) rm_X10_stop 0 0 [.ref (K.1 + 0), .int a1, .int a2, .int a3, .int a4] (xf K x y) (xf K R.2 y) (some (.int R.1)) := by
  unfold f_X10_stop at h
  refine mc_of (ls0 := [(0, .ref (K.1 + 0)), (1, .int a1), (2, .int a2), (3, .int a3), (4, .int a4)]) (by decide) (Nat.le_of_ble_eq_true rfl) rfl (fun C hl hnm F E => ?_)
  have F : Fx C RX10 cX10_stop 11 rm_X10_stop K := F
  refine v_aload_n F (dq dkX10_stop_0 0 rfl) rfl 0 rfl ?_
  refine v_iload_n F (dq dkX10_stop_0 1 rfl) rfl 1 rfl ?_
  refine v_callV 1 F (q := 0) (kc1 := 0) (ks1 := 0) (as := [.int a1]) (st := []) (st1 := (.int (b2i (f_X10_isSoMany x a1)) :: [])) (res := (some (.int (b2i (f_X10_isSoMany x a1))))) (c_X10_isSoMany (l := C.2.1) x y a1) (xn (by decide)) xc_0 rfl (tc24 _ (List.mem_of_getElem? (i := 23) rfl)) (tc25 _ (List.mem_of_getElem? (i := 0) rfl)) (tc25 _ (List.mem_of_getElem? (i := 1) rfl)) (tc1 _ (List.mem_of_getElem? (i := 2) rfl)) (tc25 _ (List.mem_of_getElem? (i := 2) rfl)) (by decide) rfl ⟨rfl, rfl, Nat.le_of_ble_eq_true rfl, Nat.le_of_ble_eq_true rfl⟩ ⟨Nat.le_of_ble_eq_true rfl, Nat.le_of_ble_eq_true rfl⟩ rfl (Nat.le_of_ble_eq_true rfl) rfl rfl rfl (dq dkX10_stop_0 2 rfl) ?_
  refine v_if_ne F (tgt := 11) (dq dkX10_stop_0 3 rfl) (by decide) (fun c8 => ?_) (fun c8 => ?_)
  · rw [if_neg c8] at h
    refine v_iload_n F (dq dkX10_stop_0 6 rfl) rfl 2 rfl ?_
    refine v_iconst F (v := 0) (dq dkX10_stop_0 7 rfl) ki_0 ?_
    refine v_sipush F (v := 999) (dq dkX10_stop_0 8 rfl) ks_999 ?_
    refine v_callS 3 F (kc1 := 0) (ks1 := 0) (as := [.int a2, .int 0, .int 999]) (st := []) (st1 := (.int (b2i (f_X10_within a2 0 999)) :: [])) (res := (some (.int (b2i (f_X10_within a2 0 999))))) (c_X10_within (l := C.2.1) a2 0 999) (tc14 _ (List.mem_of_getElem? (i := 3) rfl)) (tc8 _ (List.mem_of_getElem? (i := 15) rfl)) (tc1 _ (List.mem_of_getElem? (i := 2) rfl)) (tc8 _ (List.mem_of_getElem? (i := 16) rfl)) (by decide) rfl ⟨rfl, rfl, Nat.le_of_ble_eq_true rfl, Nat.le_of_ble_eq_true rfl⟩ ⟨Nat.le_of_ble_eq_true rfl, Nat.le_of_ble_eq_true rfl⟩ rfl (Nat.le_of_ble_eq_true rfl) rfl rfl rfl (dq dkX10_stop_0 9 rfl) ?_
    refine v_if_eq F (tgt := 43) (dq dkX10_stop_0 10 rfl) (by decide) (fun c10 => ?_) (fun c10 => ?_)
    · rw [if_pos c10] at h
      refine v_sub [] rfl ?_
      exact t_X10_stop_43 x h F E
    · rw [if_neg c10] at h
      refine v_iload_n F (dq dkX10_stop_0 11 rfl) rfl 3 rfl ?_
      refine v_iconst F (v := 0) (dq dkX10_stop_0 12 rfl) ki_0 ?_
      refine v_sipush F (v := 9999) (dq dkX10_stop_0 13 rfl) ks_9999 ?_
      refine v_callS 3 F (kc1 := 0) (ks1 := 0) (as := [.int a3, .int 0, .int 9999]) (st := []) (st1 := (.int (b2i (f_X10_within a3 0 9999)) :: [])) (res := (some (.int (b2i (f_X10_within a3 0 9999))))) (c_X10_within (l := C.2.1) a3 0 9999) (tc14 _ (List.mem_of_getElem? (i := 3) rfl)) (tc8 _ (List.mem_of_getElem? (i := 15) rfl)) (tc1 _ (List.mem_of_getElem? (i := 2) rfl)) (tc8 _ (List.mem_of_getElem? (i := 16) rfl)) (by decide) rfl ⟨rfl, rfl, Nat.le_of_ble_eq_true rfl, Nat.le_of_ble_eq_true rfl⟩ ⟨Nat.le_of_ble_eq_true rfl, Nat.le_of_ble_eq_true rfl⟩ rfl (Nat.le_of_ble_eq_true rfl) rfl rfl rfl (dq dkX10_stop_0 14 rfl) ?_
      refine v_if_eq F (tgt := 43) (dq dkX10_stop_0 15 rfl) (by decide) (fun c12 => ?_) (fun c12 => ?_)
      · rw [if_pos c12] at h
        refine v_sub [] rfl ?_
        exact t_X10_stop_43 x h F E
      · rw [if_neg c12] at h
        refine v_iload F (dq dkX10_stop_0 16 rfl) 4 rfl ?_
        refine v_iconst F (v := 0) (dq dkX10_stop_0 17 rfl) ki_0 ?_
        refine v_iconst F (v := 5) (dq dkX10_stop_0 18 rfl) ki_5 ?_
        refine v_callS 3 F (kc1 := 0) (ks1 := 0) (as := [.int a4, .int 0, .int 5]) (st := []) (st1 := (.int (b2i (f_X10_within a4 0 5)) :: [])) (res := (some (.int (b2i (f_X10_within a4 0 5))))) (c_X10_within (l := C.2.1) a4 0 5) (tc14 _ (List.mem_of_getElem? (i := 3) rfl)) (tc8 _ (List.mem_of_getElem? (i := 15) rfl)) (tc1 _ (List.mem_of_getElem? (i := 2) rfl)) (tc8 _ (List.mem_of_getElem? (i := 16) rfl)) (by decide) rfl ⟨rfl, rfl, Nat.le_of_ble_eq_true rfl, Nat.le_of_ble_eq_true rfl⟩ ⟨Nat.le_of_ble_eq_true rfl, Nat.le_of_ble_eq_true rfl⟩ rfl (Nat.le_of_ble_eq_true rfl) rfl rfl rfl (dq dkX10_stop_0 19 rfl) ?_
        refine v_if_ne F (tgt := 46) (dq dkX10_stop_0 20 rfl) (by decide) (fun c14 => ?_) (fun c14 => ?_)
        · rw [if_neg c14] at h
          refine v_aload_n F (dq dkX10_stop_0 23 rfl) rfl 0 rfl ?_
          refine v_iload_n F (dq dkX10_stop_0 24 rfl) rfl 1 rfl ?_
          refine v_iconst F (v := (-1)) (dq dkX10_stop_0 25 rfl) ki_m1 ?_
          obtain ⟨r15, e16, h⟩ := bd_of h
          refine v_callV 2 F (q := 0) (kc1 := 0) (ks1 := 0) (as := [.int a1, .int (-1)]) (st := []) (st1 := []) (res := none) (c_X10_makeHull (l := C.2.1) x y a1 (-1) e16) (xn (by decide)) xc_0 rfl (tc25 _ (List.mem_of_getElem? (i := 3) rfl)) (tc25 _ (List.mem_of_getElem? (i := 4) rfl)) (tc25 _ (List.mem_of_getElem? (i := 5) rfl)) (tc1 _ (List.mem_of_getElem? (i := 2) rfl)) (tc25 _ (List.mem_of_getElem? (i := 6) rfl)) (by decide) rfl ⟨rfl, rfl, Nat.le_of_ble_eq_true rfl, Nat.le_of_ble_eq_true rfl⟩ ⟨Nat.le_of_ble_eq_true rfl, Nat.le_of_ble_eq_true rfl⟩ rfl (Nat.le_of_ble_eq_true rfl) rfl rfl rfl (dq dkX10_stop_0 26 rfl) ?_
          refine v_aload_n F (dq dkX10_stop_0 27 rfl) rfl 0 rfl ?_
          refine v_get F 0 (xn (by decide)) xc_0 rfl inlX10 7 (by decide) (tc2 _ (List.mem_of_getElem? (i := 20) rfl)) rfl rfl (dq dkX10_stop_0 28 rfl) ?_
          refine v_callV 0 F (q := 48) (kc1 := 0) (ks1 := 0) (as := []) (st := []) (st1 := []) (res := none) (c_X2_watch (l := C.2.1) r15 y) (xn (by decide)) xc_48 rfl (tc32 _ (List.mem_of_getElem? (i := 15) rfl)) (tc32 _ (List.mem_of_getElem? (i := 16) rfl)) (tc32 _ (List.mem_of_getElem? (i := 17) rfl)) (tc2 _ (List.mem_of_getElem? (i := 19) rfl)) (tc32 _ (List.mem_of_getElem? (i := 18) rfl)) (by decide) rfl ⟨rfl, rfl, Nat.le_of_ble_eq_true rfl, Nat.le_of_ble_eq_true rfl⟩ ⟨Nat.le_of_ble_eq_true rfl, Nat.le_of_ble_eq_true rfl⟩ rfl (Nat.le_of_ble_eq_true rfl) rfl rfl rfl (dq dkX10_stop_0 29 rfl) ?_
          refine v_bipush F (v := 12) (dq dkX10_stop_0 30 rfl) kb_12 ?_
          refine v_aload_n F (dq dkX10_stop_0 31 rfl) rfl 0 rfl ?_
          refine v_get F 0 (xn (by decide)) xc_0 rfl inlX10 7 (by decide) (tc2 _ (List.mem_of_getElem? (i := 20) rfl)) rfl rfl (dq dkX10_stop_0 32 rfl) ?_
          refine v_getN F 48 (xn (by decide)) xc_48 rfl inlX2 7 (by decide) (List.mem_of_getElem? (i := 12) rfl) rfl rfl (dq dkX10_stop_0 33 rfl) ?_
          refine v_isub F (dq dkX10_stop_0 34 rfl) ?_
          refine v_istore F (ls' := [(5, .int (12 - (gi (f_X2_watch r15) 48 7))), (0, .ref (K.1 + 0)), (1, .int a1), (2, .int a2), (3, .int a3), (4, .int a4)]) (dq dkX10_stop_0 35 rfl) (by decide) rfl ?_
          refine v_iconst F (v := 0) (dq dkX10_stop_0 36 rfl) ki_0 ?_
          refine v_istore F (ls' := [(6, .int 0), (5, .int (12 - (gi (f_X2_watch r15) 48 7))), (0, .ref (K.1 + 0)), (1, .int a1), (2, .int a2), (3, .int a3), (4, .int a4)]) (dq dkX10_stop_0 37 rfl) (by decide) rfl ?_
          refine v_iconst F (v := 0) (dq dkX10_stop_0 38 rfl) ki_0 ?_
          refine v_istore F (ls' := [(7, .int 0), (6, .int 0), (5, .int (12 - (gi (f_X2_watch r15) 48 7))), (0, .ref (K.1 + 0)), (1, .int a1), (2, .int a2), (3, .int a3), (4, .int a4)]) (dq dkX10_stop_0 39 rfl) (by decide) rfl ?_
          refine v_iconst F (v := 1) (dq dkX10_stop_1 0 rfl) ki_1 ?_
          refine v_istore F (ls' := [(8, .int 1), (7, .int 0), (6, .int 0), (5, .int (12 - (gi (f_X2_watch r15) 48 7))), (0, .ref (K.1 + 0)), (1, .int a1), (2, .int a2), (3, .int a3), (4, .int a4)]) (dq dkX10_stop_1 1 rfl) (by decide) rfl ?_
          refine v_sub [4, 6, 7, 8, 3, 2, 1, 0] rfl ?_
          exact t_X10_stop_80 F E 1000 (f_X2_watch r15) a2 a3 a4 (12 - (gi (f_X2_watch r15) 48 7)) 0 0 1 h
        · rw [if_pos c14] at h
          refine v_sub [] rfl ?_
          exact t_X10_stop_43 x h F E
  · rw [if_pos c8] at h
    refine v_bipush F (v := (-5)) (dq dkX10_stop_0 4 rfl) kb_m5 ?_
    have h := Option.some.inj h
    subst h
    exact v_iret F E (dq dkX10_stop_0 5 rfl)
def rm_X10_refusalFor : Room := { frames := 1, cells := 0, slots := 0, locals := 30 }
def f_X10_refusalFor (a0 : Option Nat) : Option (Int32) := oc a0 (some (-2)) (fun za0 => some (-11))
set_option maxRecDepth 100000 in
set_option maxHeartbeats 4000000 in
theorem c_X10_refusalFor {K : KE} {l : Launch} {R : Int32} {M : GM} (a0 : Option Nat) (h : f_X10_refusalFor a0 = some R) : MC K l yX10_refusalFor cX10_refusalFor 1 (some .int) rm_X10_refusalFor 0 0 [va_rf (a0.map (fun q => K.1 + q))] M M (some (.int R)) := by
  unfold f_X10_refusalFor at h
  rcases a0 with _ | za0
  · have h := oc_nh h
    refine mc_of (ls0 := [(0, .null)]) (by decide) (Nat.le_of_ble_eq_true rfl) rfl (fun C hl hnm F E => ?_)
    have F : Fx C RX10 cX10_refusalFor 1 rm_X10_refusalFor K := F
    refine v_aload_nN F (dq dkX10_refusalFor_0 0 rfl) rfl 0 rfl ?_
    refine v_ifnonnullN F (dq dkX10_refusalFor_0 1 rfl) ?_
    refine v_bipush F (v := (-2)) (dq dkX10_refusalFor_0 2 rfl) kb_m2 ?_
    refine v_goto F (tgt := 11) (dq dkX10_refusalFor_0 3 rfl) (by decide) ?_
    have h := Option.some.inj h
    subst h
    exact v_iret F E (dq dkX10_refusalFor_0 5 rfl)
  · have h := oc_sh h
    refine mc_of (ls0 := [(0, .ref (K.1 + za0))]) (by decide) (Nat.le_of_ble_eq_true rfl) rfl (fun C hl hnm F E => ?_)
    have F : Fx C RX10 cX10_refusalFor 1 rm_X10_refusalFor K := F
    refine v_aload_n F (dq dkX10_refusalFor_0 0 rfl) rfl 0 rfl ?_
    refine v_ifnonnull F (tgt := 9) (dq dkX10_refusalFor_0 1 rfl) (by decide) ?_
    refine v_bipush F (v := (-11)) (dq dkX10_refusalFor_0 4 rfl) kb_m11 ?_
    have h := Option.some.inj h
    subst h
    exact v_iret F E (dq dkX10_refusalFor_0 5 rfl)
def rm_X10_refusalOfWidths : Room := { frames := 3, cells := 0, slots := 0, locals := 72 }
def f_X10_refusalOfWidths_11 (x : CS) (a0 : Option Nat) : Option (Int32) := oc a0 ((f_X10_refusalFor none).bind fun r1 => some r1) (fun za0 => (f_X10_refusalFor (some za0)).bind fun r3 => some r3)
set_option maxRecDepth 100000 in
set_option maxHeartbeats 4000000 in
theorem t_X10_refusalOfWidths_11 {C : Cx} {K : KE} {y : MS} {R : Int32}  (x : CS) (a0 : Option Nat) (h : f_X10_refusalOfWidths_11 x a0 = some R) (F : Fx C RX10 cX10_refusalOfWidths 2 rm_X10_refusalOfWidths K) (E : CE C (xf K x y) (some (.int R)) 0 0 (some .int)) : V C 11 [(0, va_rf (a0.map (fun q => K.1 + q)))] [] (xf K x y) 0 0 := by
  unfold f_X10_refusalOfWidths_11 at h
  rcases a0 with _ | za0
  · have h := oc_nh h
    refine v_aload_nN F (dq dkX10_refusalOfWidths_0 5 rfl) rfl 0 rfl ?_
    obtain ⟨r1, e2, h⟩ := bd_of h
    refine v_callS 1 F (kc1 := 0) (ks1 := 0) (as := [.null]) (st := []) (st1 := (.int r1 :: [])) (res := (some (.int r1))) (c_X10_refusalFor (l := C.2.1) none e2) (tc35 _ (List.mem_of_getElem? (i := 4) rfl)) (tc35 _ (List.mem_of_getElem? (i := 5) rfl)) (tc1 _ (List.mem_of_getElem? (i := 2) rfl)) (tc35 _ (List.mem_of_getElem? (i := 6) rfl)) (by decide) rfl ⟨rfl, rfl, Nat.le_of_ble_eq_true rfl, Nat.le_of_ble_eq_true rfl⟩ ⟨Nat.le_of_ble_eq_true rfl, Nat.le_of_ble_eq_true rfl⟩ rfl (Nat.le_of_ble_eq_true rfl) rfl rfl rfl (dq dkX10_refusalOfWidths_0 6 rfl) ?_
    have h := Option.some.inj h
    subst h
    exact v_iret F E (dq dkX10_refusalOfWidths_0 7 rfl)
  · have h := oc_sh h
    refine v_aload_n F (dq dkX10_refusalOfWidths_0 5 rfl) rfl 0 rfl ?_
    obtain ⟨r3, e4, h⟩ := bd_of h
    refine v_callS 1 F (kc1 := 0) (ks1 := 0) (as := [.ref (K.1 + za0)]) (st := []) (st1 := (.int r3 :: [])) (res := (some (.int r3))) (c_X10_refusalFor (l := C.2.1) (some za0) e4) (tc35 _ (List.mem_of_getElem? (i := 4) rfl)) (tc35 _ (List.mem_of_getElem? (i := 5) rfl)) (tc1 _ (List.mem_of_getElem? (i := 2) rfl)) (tc35 _ (List.mem_of_getElem? (i := 6) rfl)) (by decide) rfl ⟨rfl, rfl, Nat.le_of_ble_eq_true rfl, Nat.le_of_ble_eq_true rfl⟩ ⟨Nat.le_of_ble_eq_true rfl, Nat.le_of_ble_eq_true rfl⟩ rfl (Nat.le_of_ble_eq_true rfl) rfl rfl rfl (dq dkX10_refusalOfWidths_0 6 rfl) ?_
    have h := Option.some.inj h
    subst h
    exact v_iret F E (dq dkX10_refusalOfWidths_0 7 rfl)
def f_X10_refusalOfWidths_30 (x : CS) : Nat → Option Nat → Int32 → Option (Int32)
  | 0, _, _ => none
  | n + 1, a0, a1 => oc a0 (if 9 ≤ a1 then (some 0) else none) (fun za0 => if 9 ≤ a1 then (some 0) else ((f_X4_at x za0 a1).bind fun r7 => if (b2i (f_X10_within r7 1 198)) = 0 then (some (-2)) else ((f_X10_refusalOfWidths_30 x n) (some za0) (a1 + 1))))
set_option maxRecDepth 100000 in
set_option maxHeartbeats 4000000 in
theorem t_X10_refusalOfWidths_30 {C : Cx} {K : KE} {y : MS} {R : Int32}  (x : CS) (F : Fx C RX10 cX10_refusalOfWidths 2 rm_X10_refusalOfWidths K) (E : CE C (xf K x y) (some (.int R)) 0 0 (some .int)) : ∀ (n : Nat) (a0 : Option Nat) (a1 : Int32) (h : f_X10_refusalOfWidths_30 x n a0 a1 = some R), V C 30 [(0, va_rf (a0.map (fun q => K.1 + q))), (1, .int a1)] [] (xf K x y) 0 0 := by
  intro n
  induction n with
  | zero => intro a0 a1 h; cases h
  | succ n ih =>
    intro a0 a1 h
    rw [f_X10_refusalOfWidths_30] at h
    rcases a0 with _ | za0
    · have h := oc_nh h
      refine v_iload_n F (dq dkX10_refusalOfWidths_0 16 rfl) rfl 1 rfl ?_
      refine v_bipush F (v := 9) (dq dkX10_refusalOfWidths_0 17 rfl) kb_9 ?_
      refine v_icmp_ge F (tgt := 60) (dq dkX10_refusalOfWidths_0 18 rfl) (by decide) (fun c5 => ?_) (fun c5 => ?_)
      · rw [if_pos c5] at h
        refine v_iconst F (v := 0) (dq dkX10_refusalOfWidths_0 30 rfl) ki_0 ?_
        have h := Option.some.inj h
        subst h
        exact v_iret F E (dq dkX10_refusalOfWidths_0 31 rfl)
      · rw [if_neg c5] at h
        refine v_aload_nN F (dq dkX10_refusalOfWidths_0 19 rfl) rfl 0 rfl ?_
        refine v_iload_n F (dq dkX10_refusalOfWidths_0 20 rfl) rfl 1 rfl ?_
        cases h
    · have h := oc_sh h
      refine v_iload_n F (dq dkX10_refusalOfWidths_0 16 rfl) rfl 1 rfl ?_
      refine v_bipush F (v := 9) (dq dkX10_refusalOfWidths_0 17 rfl) kb_9 ?_
      refine v_icmp_ge F (tgt := 60) (dq dkX10_refusalOfWidths_0 18 rfl) (by decide) (fun c6 => ?_) (fun c6 => ?_)
      · rw [if_pos c6] at h
        refine v_iconst F (v := 0) (dq dkX10_refusalOfWidths_0 30 rfl) ki_0 ?_
        have h := Option.some.inj h
        subst h
        exact v_iret F E (dq dkX10_refusalOfWidths_0 31 rfl)
      · rw [if_neg c6] at h
        refine v_aload_n F (dq dkX10_refusalOfWidths_0 19 rfl) rfl 0 rfl ?_
        refine v_iload_n F (dq dkX10_refusalOfWidths_0 20 rfl) rfl 1 rfl ?_
        obtain ⟨r7, e8, h⟩ := bd_of h
        refine v_callV 1 F (q := za0) (kc1 := 0) (ks1 := 0) (as := [.int a1]) (st := []) (st1 := (.int r7 :: [])) (res := (some (.int r7))) (c_X4_at (l := C.2.1) x y za0 a1 e8) (kSh_lt (f_X4_at_k e8)) (kSh_at (f_X4_at_k e8)) rfl (tc35 _ (List.mem_of_getElem? (i := 7) rfl)) (tc35 _ (List.mem_of_getElem? (i := 8) rfl)) (tc35 _ (List.mem_of_getElem? (i := 9) rfl)) (tc2 _ (List.mem_of_getElem? (i := 22) rfl)) (tc35 _ (List.mem_of_getElem? (i := 10) rfl)) (by decide) rfl ⟨rfl, rfl, Nat.le_of_ble_eq_true rfl, Nat.le_of_ble_eq_true rfl⟩ ⟨Nat.le_of_ble_eq_true rfl, Nat.le_of_ble_eq_true rfl⟩ rfl (Nat.le_of_ble_eq_true rfl) rfl rfl rfl (dq dkX10_refusalOfWidths_0 21 rfl) ?_
        refine v_iconst F (v := 1) (dq dkX10_refusalOfWidths_0 22 rfl) ki_1 ?_
        refine v_sipush F (v := 198) (dq dkX10_refusalOfWidths_0 23 rfl) ks_198 ?_
        refine v_callS 3 F (kc1 := 0) (ks1 := 0) (as := [.int r7, .int 1, .int 198]) (st := []) (st1 := (.int (b2i (f_X10_within r7 1 198)) :: [])) (res := (some (.int (b2i (f_X10_within r7 1 198))))) (c_X10_within (l := C.2.1) r7 1 198) (tc14 _ (List.mem_of_getElem? (i := 3) rfl)) (tc8 _ (List.mem_of_getElem? (i := 15) rfl)) (tc1 _ (List.mem_of_getElem? (i := 2) rfl)) (tc8 _ (List.mem_of_getElem? (i := 16) rfl)) (by decide) rfl ⟨rfl, rfl, Nat.le_of_ble_eq_true rfl, Nat.le_of_ble_eq_true rfl⟩ ⟨Nat.le_of_ble_eq_true rfl, Nat.le_of_ble_eq_true rfl⟩ rfl (Nat.le_of_ble_eq_true rfl) rfl rfl rfl (dq dkX10_refusalOfWidths_0 24 rfl) ?_
        refine v_if_ne F (tgt := 54) (dq dkX10_refusalOfWidths_0 25 rfl) (by decide) (fun c10 => ?_) (fun c10 => ?_)
        · rw [if_neg c10] at h
          refine v_iinc F (v := a1 + 1) (ls' := [(1, .int (a1 + 1)), (0, .ref (K.1 + za0))]) (dq dkX10_refusalOfWidths_0 28 rfl) (j := 1) rfl (kv_add ki_1) (by decide) rfl ?_
          refine v_goto F (tgt := 30) (dq dkX10_refusalOfWidths_0 29 rfl) (by decide) ?_
          refine v_sub [1, 0] rfl ?_
          exact ih (some za0) (a1 + 1) h
        · rw [if_pos c10] at h
          refine v_bipush F (v := (-2)) (dq dkX10_refusalOfWidths_0 26 rfl) kb_m2 ?_
          have h := Option.some.inj h
          subst h
          exact v_iret F E (dq dkX10_refusalOfWidths_0 27 rfl)
def f_X10_refusalOfWidths (x : CS) (a0 : Option Nat) : Option (Int32) := oc a0 (f_X10_refusalOfWidths_11 x none) (fun za0 => (f_X4_isMissing x za0).bind fun r11 => if (b2i r11) = 0 then (gd (kSh za0) (if (gi x za0 2) = 9 then (f_X10_refusalOfWidths_30 x 1000 (some za0) 0) else (some (-2)))) else (f_X10_refusalOfWidths_11 x (some za0)))
set_option maxRecDepth 100000 in
set_option maxHeartbeats 4000000 in
theorem c_X10_refusalOfWidths {K : KE} {l : Launch} {R : Int32} (x : CS) (y : MS) (a0 : Option Nat) (h : f_X10_refusalOfWidths x a0 = some R) : MC K l yX10_refusalOfWidths cX10_refusalOfWidths 2 (some .int) rm_X10_refusalOfWidths 0 0 [va_rf (a0.map (fun q => K.1 + q))] (xf K x y) (xf K x y) (some (.int R)) := by
  unfold f_X10_refusalOfWidths at h
  rcases a0 with _ | za0
  · have h := oc_nh h
    refine mc_of (ls0 := [(0, .null)]) (by decide) (Nat.le_of_ble_eq_true rfl) rfl (fun C hl hnm F E => ?_)
    have F : Fx C RX10 cX10_refusalOfWidths 2 rm_X10_refusalOfWidths K := F
    refine v_aload_nN F (dq dkX10_refusalOfWidths_0 0 rfl) rfl 0 rfl ?_
    refine v_ifnullN F (tgt := 11) (dq dkX10_refusalOfWidths_0 1 rfl) (by decide) ?_
    exact t_X10_refusalOfWidths_11 x none h F E
  · have h := oc_sh h
    refine mc_of (ls0 := [(0, .ref (K.1 + za0))]) (by decide) (Nat.le_of_ble_eq_true rfl) rfl (fun C hl hnm F E => ?_)
    have F : Fx C RX10 cX10_refusalOfWidths 2 rm_X10_refusalOfWidths K := F
    refine v_aload_n F (dq dkX10_refusalOfWidths_0 0 rfl) rfl 0 rfl ?_
    refine v_ifnull F (dq dkX10_refusalOfWidths_0 1 rfl) ?_
    refine v_aload_n F (dq dkX10_refusalOfWidths_0 2 rfl) rfl 0 rfl ?_
    obtain ⟨r11, e12, h⟩ := bd_of h
    refine v_callV 0 F (q := za0) (kc1 := 0) (ks1 := 0) (as := []) (st := []) (st1 := (.int (b2i r11) :: [])) (res := (some (.int (b2i r11)))) (c_X4_isMissing (l := C.2.1) x y za0 e12) (kSh_lt (f_X4_isMissing_k e12)) (kSh_at (f_X4_isMissing_k e12)) rfl (tc35 _ (List.mem_of_getElem? (i := 0) rfl)) (tc35 _ (List.mem_of_getElem? (i := 1) rfl)) (tc35 _ (List.mem_of_getElem? (i := 2) rfl)) (tc2 _ (List.mem_of_getElem? (i := 22) rfl)) (tc35 _ (List.mem_of_getElem? (i := 3) rfl)) (by decide) rfl ⟨rfl, rfl, Nat.le_of_ble_eq_true rfl, Nat.le_of_ble_eq_true rfl⟩ ⟨Nat.le_of_ble_eq_true rfl, Nat.le_of_ble_eq_true rfl⟩ rfl (Nat.le_of_ble_eq_true rfl) rfl rfl rfl (dq dkX10_refusalOfWidths_0 3 rfl) ?_
    refine v_if_eq F (tgt := 16) (dq dkX10_refusalOfWidths_0 4 rfl) (by decide) (fun c13 => ?_) (fun c13 => ?_)
    · rw [if_pos c13] at h
      refine v_aload_n F (dq dkX10_refusalOfWidths_0 8 rfl) rfl 0 rfl ?_
      obtain ⟨g14, h⟩ := gd_of h
      refine v_getN F za0 (kSh_lt g14) (kSh_at g14) rfl inlX4 2 (by decide) (List.mem_of_getElem? (i := 16) rfl) rfl rfl (dq dkX10_refusalOfWidths_0 9 rfl) ?_
      refine v_bipush F (v := 9) (dq dkX10_refusalOfWidths_0 10 rfl) kb_9 ?_
      refine v_icmp_eq F (tgt := 28) (dq dkX10_refusalOfWidths_0 11 rfl) (by decide) (fun c15 => ?_) (fun c15 => ?_)
      · rw [if_pos c15] at h
        refine v_iconst F (v := 0) (dq dkX10_refusalOfWidths_0 14 rfl) ki_0 ?_
        refine v_istore_n F (ls' := [(1, .int 0), (0, .ref (K.1 + za0))]) (dq dkX10_refusalOfWidths_0 15 rfl) rfl (by decide) rfl ?_
        refine v_sub [1, 0] rfl ?_
        exact t_X10_refusalOfWidths_30 x F E 1000 (some za0) 0 h
      · rw [if_neg c15] at h
        refine v_bipush F (v := (-2)) (dq dkX10_refusalOfWidths_0 12 rfl) kb_m2 ?_
        have h := Option.some.inj h
        subst h
        exact v_iret F E (dq dkX10_refusalOfWidths_0 13 rfl)
    · rw [if_neg c13] at h
      exact t_X10_refusalOfWidths_11 x (some za0) h F E
def rm_X10_sheetAt : Room := { frames := 1, cells := 0, slots := 0, locals := 30 }
def f_X10_sheetAt_22 (x : CS) : Option (Option Nat) := some none
set_option maxRecDepth 100000 in
set_option maxHeartbeats 4000000 in
theorem t_X10_sheetAt_22 {C : Cx} {K : KE} {y : MS} {R : Option Nat}  (x : CS) (h : f_X10_sheetAt_22 x = some R) (F : Fx C RX10 cX10_sheetAt 2 rm_X10_sheetAt K) (E : CE C (xf K x y) (some (va_rf (R.map (fun q => K.1 + q)))) 0 0 (some (.object "HollowedByFire$Sheet"))) : V C 22 [] [] (xf K x y) 0 0 := by
  unfold f_X10_sheetAt_22 at h
  refine v_null F (dq dkX10_sheetAt_0 12 rfl) ?_
  have h := Option.some.inj h
  subst h
  exact v_aret F E (Or.inl ⟨_, rfl⟩) (Or.inl rfl) (dq dkX10_sheetAt_0 13 rfl)
def f_X10_sheetAt (x : CS) (a1 : Int32) : Option (Option Nat) := if a1 < 0 then (f_X10_sheetAt_22 x) else (if 4 ≤ a1 then (f_X10_sheetAt_22 x) else (gd (ib a1 4) (some (some (53 + 2 * a1.toNatClampNeg)))))
set_option maxRecDepth 100000 in
set_option maxHeartbeats 4000000 in
theorem c_X10_sheetAt {K : KE} {l : Launch} {R : Option Nat} (x : CS) (y : MS) (a1 : Int32) (h : f_X10_sheetAt x a1 = some R) : MC K l yX10_sheetAt cX10_sheetAt 2 (some (.object "HollowedByFire$Sheet")) rm_X10_sheetAt 0 0 [.ref (K.1 + 0), .int a1] (xf K x y) (xf K x y) (some (va_rf (R.map (fun q => K.1 + q)))) := by
  unfold f_X10_sheetAt at h
  refine mc_of (ls0 := [(0, .ref (K.1 + 0)), (1, .int a1)]) (by decide) (Nat.le_of_ble_eq_true rfl) rfl (fun C hl hnm F E => ?_)
  have F : Fx C RX10 cX10_sheetAt 2 rm_X10_sheetAt K := F
  refine v_iload_n F (dq dkX10_sheetAt_0 0 rfl) rfl 1 rfl ?_
  refine v_if_lt F (tgt := 22) (dq dkX10_sheetAt_0 1 rfl) (by decide) (fun c1 => ?_) (fun c1 => ?_)
  · rw [if_pos c1] at h
    refine v_sub [] rfl ?_
    exact t_X10_sheetAt_22 x h F E
  · rw [if_neg c1] at h
    refine v_iload_n F (dq dkX10_sheetAt_0 2 rfl) rfl 1 rfl ?_
    refine v_aload_n F (dq dkX10_sheetAt_0 3 rfl) rfl 0 rfl ?_
    refine v_get F 0 (xn (by decide)) xc_0 rfl inlX10 5 (by decide) (tc2 _ (List.mem_of_getElem? (i := 10) rfl)) rfl rfl (dq dkX10_sheetAt_0 4 rfl) ?_
    refine v_alen F 36 (xn (by decide)) xc_36 (t := 3) rfl (n := 4) rfl (dq dkX10_sheetAt_0 5 rfl) ?_
    refine v_icmp_ge F (tgt := 22) (dq dkX10_sheetAt_0 6 rfl) (by decide) (fun c2 => ?_) (fun c2 => ?_)
    · rw [if_pos c2] at h
      refine v_sub [] rfl ?_
      exact t_X10_sheetAt_22 x h F E
    · rw [if_neg c2] at h
      refine v_aload_n F (dq dkX10_sheetAt_0 7 rfl) rfl 0 rfl ?_
      refine v_get F 0 (xn (by decide)) xc_0 rfl inlX10 5 (by decide) (tc2 _ (List.mem_of_getElem? (i := 10) rfl)) rfl rfl (dq dkX10_sheetAt_0 8 rfl) ?_
      refine v_iload_n F (dq dkX10_sheetAt_0 9 rfl) rfl 1 rfl ?_
      obtain ⟨g3, h⟩ := gd_of h
      refine v_aald F 36 (xn (by decide)) xc_36 (t := 3) rfl rfl (ib_in g3) (dq dkX10_sheetAt_0 10 rfl) ?_
      refine v_goto F (tgt := 23) (dq dkX10_sheetAt_0 11 rfl) (by decide) ?_
      have h := Option.some.inj h
      subst h
      exact v_aret F E (Or.inl ⟨_, rfl⟩) (Or.inr ⟨_, rfl⟩) (dq dkX10_sheetAt_0 13 rfl)
def rm_X10_widthToCarve : Room := { frames := 3, cells := 0, slots := 0, locals := 72 }
def f_X10_widthToCarve (x : CS) (a0 : Option Nat) (a1 : Int32) (a2 : Int32) : Option (Int32) := oc a0 (some 0) (fun za0 => (f_X4_at x za0 a2).bind fun r1 => some (r1 - (a1 * (f_X10_share a2))))
set_option maxRecDepth 100000 in
set_option maxHeartbeats 4000000 in
theorem c_X10_widthToCarve {K : KE} {l : Launch} {R : Int32} (x : CS) (y : MS) (a0 : Option Nat) (a1 : Int32) (a2 : Int32) (h : f_X10_widthToCarve x a0 a1 a2 = some R) : MC K l yX10_widthToCarve cX10_widthToCarve 3 (some .int) rm_X10_widthToCarve 0 0 [va_rf (a0.map (fun q => K.1 + q)), .int a1, .int a2] (xf K x y) (xf K x y) (some (.int R)) := by
  unfold f_X10_widthToCarve at h
  rcases a0 with _ | za0
  · have h := oc_nh h
    refine mc_of (ls0 := [(0, .null), (1, .int a1), (2, .int a2)]) (by decide) (Nat.le_of_ble_eq_true rfl) rfl (fun C hl hnm F E => ?_)
    have F : Fx C RX10 cX10_widthToCarve 3 rm_X10_widthToCarve K := F
    refine v_aload_nN F (dq dkX10_widthToCarve_0 0 rfl) rfl 0 rfl ?_
    refine v_ifnonnullN F (dq dkX10_widthToCarve_0 1 rfl) ?_
    refine v_iconst F (v := 0) (dq dkX10_widthToCarve_0 2 rfl) ki_0 ?_
    refine v_goto F (tgt := 20) (dq dkX10_widthToCarve_0 3 rfl) (by decide) ?_
    have h := Option.some.inj h
    subst h
    exact v_iret F E (dq dkX10_widthToCarve_0 12 rfl)
  · have h := oc_sh h
    refine mc_of (ls0 := [(0, .ref (K.1 + za0)), (1, .int a1), (2, .int a2)]) (by decide) (Nat.le_of_ble_eq_true rfl) rfl (fun C hl hnm F E => ?_)
    have F : Fx C RX10 cX10_widthToCarve 3 rm_X10_widthToCarve K := F
    refine v_aload_n F (dq dkX10_widthToCarve_0 0 rfl) rfl 0 rfl ?_
    refine v_ifnonnull F (tgt := 8) (dq dkX10_widthToCarve_0 1 rfl) (by decide) ?_
    refine v_aload_n F (dq dkX10_widthToCarve_0 4 rfl) rfl 0 rfl ?_
    refine v_iload_n F (dq dkX10_widthToCarve_0 5 rfl) rfl 2 rfl ?_
    obtain ⟨r1, e2, h⟩ := bd_of h
    refine v_callV 1 F (q := za0) (kc1 := 0) (ks1 := 0) (as := [.int a2]) (st := []) (st1 := (.int r1 :: [])) (res := (some (.int r1))) (c_X4_at (l := C.2.1) x y za0 a2 e2) (kSh_lt (f_X4_at_k e2)) (kSh_at (f_X4_at_k e2)) rfl (tc35 _ (List.mem_of_getElem? (i := 7) rfl)) (tc35 _ (List.mem_of_getElem? (i := 8) rfl)) (tc35 _ (List.mem_of_getElem? (i := 9) rfl)) (tc2 _ (List.mem_of_getElem? (i := 22) rfl)) (tc35 _ (List.mem_of_getElem? (i := 10) rfl)) (by decide) rfl ⟨rfl, rfl, Nat.le_of_ble_eq_true rfl, Nat.le_of_ble_eq_true rfl⟩ ⟨Nat.le_of_ble_eq_true rfl, Nat.le_of_ble_eq_true rfl⟩ rfl (Nat.le_of_ble_eq_true rfl) rfl rfl rfl (dq dkX10_widthToCarve_0 6 rfl) ?_
    refine v_iload_n F (dq dkX10_widthToCarve_0 7 rfl) rfl 1 rfl ?_
    refine v_iload_n F (dq dkX10_widthToCarve_0 8 rfl) rfl 2 rfl ?_
    refine v_callS 1 F (kc1 := 0) (ks1 := 0) (as := [.int a2]) (st := [.int a1, .int r1]) (st1 := (.int (f_X10_share a2) :: [.int a1, .int r1])) (res := (some (.int (f_X10_share a2)))) (c_X10_share (l := C.2.1) a2) (tc35 _ (List.mem_of_getElem? (i := 18) rfl)) (tc26 _ (List.mem_of_getElem? (i := 15) rfl)) (tc1 _ (List.mem_of_getElem? (i := 2) rfl)) (tc26 _ (List.mem_of_getElem? (i := 16) rfl)) (by decide) rfl ⟨rfl, rfl, Nat.le_of_ble_eq_true rfl, Nat.le_of_ble_eq_true rfl⟩ ⟨Nat.le_of_ble_eq_true rfl, Nat.le_of_ble_eq_true rfl⟩ rfl (Nat.le_of_ble_eq_true rfl) rfl rfl rfl (dq dkX10_widthToCarve_0 9 rfl) ?_
    refine v_imul F (dq dkX10_widthToCarve_0 10 rfl) ?_
    refine v_isub F (dq dkX10_widthToCarve_0 11 rfl) ?_
    have h := Option.some.inj h
    subst h
    exact v_iret F E (dq dkX10_widthToCarve_0 12 rfl)
def rm_X10_wished : Room := { frames := 4, cells := 0, slots := 0, locals := 94 }
def f_X10_wished (x : CS) (a1 : Int32) (a2 : Int32) (a3 : Int32) : Option (Int32) := if (b2i (f_X10_isSection a3)) = 0 then (some (-5)) else (if (b2i (f_X10_within a2 0 12)) = 0 then (some (-7)) else ((f_X10_sheetAt x a1).bind fun r5 => oc r5 ((f_X10_refusalOfWidths x none).bind fun r8 => if r8 = 0 then ((f_X10_widthToCarve x none a2 a3).bind fun r11 => if (b2i (f_X10_within r11 1 99)) = 0 then (some (-1)) else (some r11)) else (some r8)) (fun s7 => (f_X10_refusalOfWidths x (some s7)).bind fun r15 => if r15 = 0 then ((f_X10_widthToCarve x (some s7) a2 a3).bind fun r18 => if (b2i (f_X10_within r18 1 99)) = 0 then (some (-1)) else (some r18)) else (some r15))))
set_option maxRecDepth 100000 in
set_option maxHeartbeats 4000000 in
theorem c_X10_wished {K : KE} {l : Launch} {R : Int32} (x : CS) (y : MS) (a1 : Int32) (a2 : Int32) (a3 : Int32) (h : f_X10_wished x a1 a2 a3 = some R) : MC K l yX10_wished cX10_wished 7 (some .int) rm_X10_wished 0 0 [.ref (K.1 + 0), .int a1, .int a2, .int a3] (xf K x y) (xf K x y) (some (.int R)) := by
  unfold f_X10_wished at h
  refine mc_of (ls0 := [(0, .ref (K.1 + 0)), (1, .int a1), (2, .int a2), (3, .int a3)]) (by decide) (Nat.le_of_ble_eq_true rfl) rfl (fun C hl hnm F E => ?_)
  have F : Fx C RX10 cX10_wished 7 rm_X10_wished K := F
  refine v_iload_n F (dq dkX10_wished_0 0 rfl) rfl 3 rfl ?_
  refine v_callS 1 F (kc1 := 0) (ks1 := 0) (as := [.int a3]) (st := []) (st1 := (.int (b2i (f_X10_isSection a3)) :: [])) (res := (some (.int (b2i (f_X10_isSection a3))))) (c_X10_isSection (l := C.2.1) a3) (tc14 _ (List.mem_of_getElem? (i := 0) rfl)) (tc14 _ (List.mem_of_getElem? (i := 1) rfl)) (tc1 _ (List.mem_of_getElem? (i := 2) rfl)) (tc14 _ (List.mem_of_getElem? (i := 2) rfl)) (by decide) rfl ⟨rfl, rfl, Nat.le_of_ble_eq_true rfl, Nat.le_of_ble_eq_true rfl⟩ ⟨Nat.le_of_ble_eq_true rfl, Nat.le_of_ble_eq_true rfl⟩ rfl (Nat.le_of_ble_eq_true rfl) rfl rfl rfl (dq dkX10_wished_0 1 rfl) ?_
  refine v_if_ne F (tgt := 10) (dq dkX10_wished_0 2 rfl) (by decide) (fun c2 => ?_) (fun c2 => ?_)
  · rw [if_neg c2] at h
    refine v_iload_n F (dq dkX10_wished_0 5 rfl) rfl 2 rfl ?_
    refine v_iconst F (v := 0) (dq dkX10_wished_0 6 rfl) ki_0 ?_
    refine v_bipush F (v := 12) (dq dkX10_wished_0 7 rfl) kb_12 ?_
    refine v_callS 3 F (kc1 := 0) (ks1 := 0) (as := [.int a2, .int 0, .int 12]) (st := []) (st1 := (.int (b2i (f_X10_within a2 0 12)) :: [])) (res := (some (.int (b2i (f_X10_within a2 0 12))))) (c_X10_within (l := C.2.1) a2 0 12) (tc14 _ (List.mem_of_getElem? (i := 3) rfl)) (tc8 _ (List.mem_of_getElem? (i := 15) rfl)) (tc1 _ (List.mem_of_getElem? (i := 2) rfl)) (tc8 _ (List.mem_of_getElem? (i := 16) rfl)) (by decide) rfl ⟨rfl, rfl, Nat.le_of_ble_eq_true rfl, Nat.le_of_ble_eq_true rfl⟩ ⟨Nat.le_of_ble_eq_true rfl, Nat.le_of_ble_eq_true rfl⟩ rfl (Nat.le_of_ble_eq_true rfl) rfl rfl rfl (dq dkX10_wished_0 8 rfl) ?_
    refine v_if_ne F (tgt := 23) (dq dkX10_wished_0 9 rfl) (by decide) (fun c4 => ?_) (fun c4 => ?_)
    · rw [if_neg c4] at h
      refine v_aload_n F (dq dkX10_wished_0 12 rfl) rfl 0 rfl ?_
      refine v_iload_n F (dq dkX10_wished_0 13 rfl) rfl 1 rfl ?_
      obtain ⟨r5, e6, h⟩ := bd_of h
      refine v_callV 1 F (q := 0) (kc1 := 0) (ks1 := 0) (as := [.int a1]) (st := []) (st1 := (va_rf (r5.map (fun q => K.1 + q)) :: [])) (res := (some (va_rf (r5.map (fun q => K.1 + q))))) (c_X10_sheetAt (l := C.2.1) x y a1 e6) (xn (by decide)) xc_0 rfl (tc34 _ (List.mem_of_getElem? (i := 17) rfl)) (tc34 _ (List.mem_of_getElem? (i := 18) rfl)) (tc34 _ (List.mem_of_getElem? (i := 19) rfl)) (tc1 _ (List.mem_of_getElem? (i := 2) rfl)) (tc34 _ (List.mem_of_getElem? (i := 20) rfl)) (by decide) rfl ⟨rfl, rfl, Nat.le_of_ble_eq_true rfl, Nat.le_of_ble_eq_true rfl⟩ ⟨Nat.le_of_ble_eq_true rfl, Nat.le_of_ble_eq_true rfl⟩ rfl (Nat.le_of_ble_eq_true rfl) rfl rfl rfl (dq dkX10_wished_0 14 rfl) ?_
      rcases r5 with _ | s7
      · have h := oc_nh h
        refine v_astoreN F (ls' := [(4, .null), (0, .ref (K.1 + 0)), (1, .int a1), (2, .int a2), (3, .int a3)]) (dq dkX10_wished_0 15 rfl) (by decide) rfl ?_
        refine v_aloadN F (dq dkX10_wished_0 16 rfl) 0 rfl ?_
        obtain ⟨r8, e9, h⟩ := bd_of h
        refine v_callS 1 F (kc1 := 0) (ks1 := 0) (as := [.null]) (st := []) (st1 := (.int r8 :: [])) (res := (some (.int r8))) (c_X10_refusalOfWidths (l := C.2.1) x y none e9) (tc34 _ (List.mem_of_getElem? (i := 21) rfl)) (tc34 _ (List.mem_of_getElem? (i := 22) rfl)) (tc1 _ (List.mem_of_getElem? (i := 2) rfl)) (tc34 _ (List.mem_of_getElem? (i := 23) rfl)) (by decide) rfl ⟨rfl, rfl, Nat.le_of_ble_eq_true rfl, Nat.le_of_ble_eq_true rfl⟩ ⟨Nat.le_of_ble_eq_true rfl, Nat.le_of_ble_eq_true rfl⟩ rfl (Nat.le_of_ble_eq_true rfl) rfl rfl rfl (dq dkX10_wished_0 17 rfl) ?_
        refine v_istore F (ls' := [(5, .int r8), (4, .null), (0, .ref (K.1 + 0)), (1, .int a1), (2, .int a2), (3, .int a3)]) (dq dkX10_wished_0 18 rfl) (by decide) rfl ?_
        refine v_iload F (dq dkX10_wished_0 19 rfl) 0 rfl ?_
        refine v_if_eq F (tgt := 45) (dq dkX10_wished_0 20 rfl) (by decide) (fun c10 => ?_) (fun c10 => ?_)
        · rw [if_pos c10] at h
          refine v_aloadN F (dq dkX10_wished_0 23 rfl) 1 rfl ?_
          refine v_iload_n F (dq dkX10_wished_0 24 rfl) rfl 4 rfl ?_
          refine v_iload_n F (dq dkX10_wished_0 25 rfl) rfl 5 rfl ?_
          obtain ⟨r11, e12, h⟩ := bd_of h
          refine v_callS 3 F (kc1 := 0) (ks1 := 0) (as := [.null, .int a2, .int a3]) (st := []) (st1 := (.int r11 :: [])) (res := (some (.int r11))) (c_X10_widthToCarve (l := C.2.1) x y none a2 a3 e12) (tc35 _ (List.mem_of_getElem? (i := 15) rfl)) (tc35 _ (List.mem_of_getElem? (i := 16) rfl)) (tc1 _ (List.mem_of_getElem? (i := 2) rfl)) (tc35 _ (List.mem_of_getElem? (i := 17) rfl)) (by decide) rfl ⟨rfl, rfl, Nat.le_of_ble_eq_true rfl, Nat.le_of_ble_eq_true rfl⟩ ⟨Nat.le_of_ble_eq_true rfl, Nat.le_of_ble_eq_true rfl⟩ rfl (Nat.le_of_ble_eq_true rfl) rfl rfl rfl (dq dkX10_wished_0 26 rfl) ?_
          refine v_istore F (ls' := [(6, .int r11), (5, .int r8), (4, .null), (0, .ref (K.1 + 0)), (1, .int a1), (2, .int a2), (3, .int a3)]) (dq dkX10_wished_0 27 rfl) (by decide) rfl ?_
          refine v_iload F (dq dkX10_wished_0 28 rfl) 0 rfl ?_
          refine v_iconst F (v := 1) (dq dkX10_wished_0 29 rfl) ki_1 ?_
          refine v_bipush F (v := 99) (dq dkX10_wished_0 30 rfl) kb_99 ?_
          refine v_callS 3 F (kc1 := 0) (ks1 := 0) (as := [.int r11, .int 1, .int 99]) (st := []) (st1 := (.int (b2i (f_X10_within r11 1 99)) :: [])) (res := (some (.int (b2i (f_X10_within r11 1 99))))) (c_X10_within (l := C.2.1) r11 1 99) (tc14 _ (List.mem_of_getElem? (i := 3) rfl)) (tc8 _ (List.mem_of_getElem? (i := 15) rfl)) (tc1 _ (List.mem_of_getElem? (i := 2) rfl)) (tc8 _ (List.mem_of_getElem? (i := 16) rfl)) (by decide) rfl ⟨rfl, rfl, Nat.le_of_ble_eq_true rfl, Nat.le_of_ble_eq_true rfl⟩ ⟨Nat.le_of_ble_eq_true rfl, Nat.le_of_ble_eq_true rfl⟩ rfl (Nat.le_of_ble_eq_true rfl) rfl rfl rfl (dq dkX10_wished_0 31 rfl) ?_
          refine v_if_eq F (tgt := 70) (dq dkX10_wished_0 32 rfl) (by decide) (fun c14 => ?_) (fun c14 => ?_)
          · rw [if_pos c14] at h
            refine v_iconst F (v := (-1)) (dq dkX10_wished_0 35 rfl) ki_m1 ?_
            have h := Option.some.inj h
            subst h
            exact v_iret F E (dq dkX10_wished_0 36 rfl)
          · rw [if_neg c14] at h
            refine v_iload F (dq dkX10_wished_0 33 rfl) 0 rfl ?_
            refine v_goto F (tgt := 71) (dq dkX10_wished_0 34 rfl) (by decide) ?_
            have h := Option.some.inj h
            subst h
            exact v_iret F E (dq dkX10_wished_0 36 rfl)
        · rw [if_neg c10] at h
          refine v_iload F (dq dkX10_wished_0 21 rfl) 0 rfl ?_
          have h := Option.some.inj h
          subst h
          exact v_iret F E (dq dkX10_wished_0 22 rfl)
      · have h := oc_sh h
        refine v_astore F (ls' := [(4, .ref (K.1 + s7)), (0, .ref (K.1 + 0)), (1, .int a1), (2, .int a2), (3, .int a3)]) (dq dkX10_wished_0 15 rfl) (by decide) rfl ?_
        refine v_aload F (dq dkX10_wished_0 16 rfl) 0 rfl ?_
        obtain ⟨r15, e16, h⟩ := bd_of h
        refine v_callS 1 F (kc1 := 0) (ks1 := 0) (as := [.ref (K.1 + s7)]) (st := []) (st1 := (.int r15 :: [])) (res := (some (.int r15))) (c_X10_refusalOfWidths (l := C.2.1) x y (some s7) e16) (tc34 _ (List.mem_of_getElem? (i := 21) rfl)) (tc34 _ (List.mem_of_getElem? (i := 22) rfl)) (tc1 _ (List.mem_of_getElem? (i := 2) rfl)) (tc34 _ (List.mem_of_getElem? (i := 23) rfl)) (by decide) rfl ⟨rfl, rfl, Nat.le_of_ble_eq_true rfl, Nat.le_of_ble_eq_true rfl⟩ ⟨Nat.le_of_ble_eq_true rfl, Nat.le_of_ble_eq_true rfl⟩ rfl (Nat.le_of_ble_eq_true rfl) rfl rfl rfl (dq dkX10_wished_0 17 rfl) ?_
        refine v_istore F (ls' := [(5, .int r15), (4, .ref (K.1 + s7)), (0, .ref (K.1 + 0)), (1, .int a1), (2, .int a2), (3, .int a3)]) (dq dkX10_wished_0 18 rfl) (by decide) rfl ?_
        refine v_iload F (dq dkX10_wished_0 19 rfl) 0 rfl ?_
        refine v_if_eq F (tgt := 45) (dq dkX10_wished_0 20 rfl) (by decide) (fun c17 => ?_) (fun c17 => ?_)
        · rw [if_pos c17] at h
          refine v_aload F (dq dkX10_wished_0 23 rfl) 1 rfl ?_
          refine v_iload_n F (dq dkX10_wished_0 24 rfl) rfl 4 rfl ?_
          refine v_iload_n F (dq dkX10_wished_0 25 rfl) rfl 5 rfl ?_
          obtain ⟨r18, e19, h⟩ := bd_of h
          refine v_callS 3 F (kc1 := 0) (ks1 := 0) (as := [.ref (K.1 + s7), .int a2, .int a3]) (st := []) (st1 := (.int r18 :: [])) (res := (some (.int r18))) (c_X10_widthToCarve (l := C.2.1) x y (some s7) a2 a3 e19) (tc35 _ (List.mem_of_getElem? (i := 15) rfl)) (tc35 _ (List.mem_of_getElem? (i := 16) rfl)) (tc1 _ (List.mem_of_getElem? (i := 2) rfl)) (tc35 _ (List.mem_of_getElem? (i := 17) rfl)) (by decide) rfl ⟨rfl, rfl, Nat.le_of_ble_eq_true rfl, Nat.le_of_ble_eq_true rfl⟩ ⟨Nat.le_of_ble_eq_true rfl, Nat.le_of_ble_eq_true rfl⟩ rfl (Nat.le_of_ble_eq_true rfl) rfl rfl rfl (dq dkX10_wished_0 26 rfl) ?_
          refine v_istore F (ls' := [(6, .int r18), (5, .int r15), (4, .ref (K.1 + s7)), (0, .ref (K.1 + 0)), (1, .int a1), (2, .int a2), (3, .int a3)]) (dq dkX10_wished_0 27 rfl) (by decide) rfl ?_
          refine v_iload F (dq dkX10_wished_0 28 rfl) 0 rfl ?_
          refine v_iconst F (v := 1) (dq dkX10_wished_0 29 rfl) ki_1 ?_
          refine v_bipush F (v := 99) (dq dkX10_wished_0 30 rfl) kb_99 ?_
          refine v_callS 3 F (kc1 := 0) (ks1 := 0) (as := [.int r18, .int 1, .int 99]) (st := []) (st1 := (.int (b2i (f_X10_within r18 1 99)) :: [])) (res := (some (.int (b2i (f_X10_within r18 1 99))))) (c_X10_within (l := C.2.1) r18 1 99) (tc14 _ (List.mem_of_getElem? (i := 3) rfl)) (tc8 _ (List.mem_of_getElem? (i := 15) rfl)) (tc1 _ (List.mem_of_getElem? (i := 2) rfl)) (tc8 _ (List.mem_of_getElem? (i := 16) rfl)) (by decide) rfl ⟨rfl, rfl, Nat.le_of_ble_eq_true rfl, Nat.le_of_ble_eq_true rfl⟩ ⟨Nat.le_of_ble_eq_true rfl, Nat.le_of_ble_eq_true rfl⟩ rfl (Nat.le_of_ble_eq_true rfl) rfl rfl rfl (dq dkX10_wished_0 31 rfl) ?_
          refine v_if_eq F (tgt := 70) (dq dkX10_wished_0 32 rfl) (by decide) (fun c21 => ?_) (fun c21 => ?_)
          · rw [if_pos c21] at h
            refine v_iconst F (v := (-1)) (dq dkX10_wished_0 35 rfl) ki_m1 ?_
            have h := Option.some.inj h
            subst h
            exact v_iret F E (dq dkX10_wished_0 36 rfl)
          · rw [if_neg c21] at h
            refine v_iload F (dq dkX10_wished_0 33 rfl) 0 rfl ?_
            refine v_goto F (tgt := 71) (dq dkX10_wished_0 34 rfl) (by decide) ?_
            have h := Option.some.inj h
            subst h
            exact v_iret F E (dq dkX10_wished_0 36 rfl)
        · rw [if_neg c17] at h
          refine v_iload F (dq dkX10_wished_0 21 rfl) 0 rfl ?_
          have h := Option.some.inj h
          subst h
          exact v_iret F E (dq dkX10_wished_0 22 rfl)
    · rw [if_pos c4] at h
      refine v_bipush F (v := (-7)) (dq dkX10_wished_0 10 rfl) kb_m7 ?_
      have h := Option.some.inj h
      subst h
      exact v_iret F E (dq dkX10_wished_0 11 rfl)
  · rw [if_pos c2] at h
    refine v_bipush F (v := (-5)) (dq dkX10_wished_0 3 rfl) kb_m5 ?_
    have h := Option.some.inj h
    subst h
    exact v_iret F E (dq dkX10_wished_0 4 rfl)
def rm_X10_canBeCarved : Room := { frames := 4, cells := 0, slots := 0, locals := 94 }
def f_X10_canBeCarved_2 (x : CS) : Nat → Option Nat → Int32 → Int32 → Option (Bool)
  | 0, _, _, _ => none
  | n + 1, a0, a1, a2 => oc a0 (if 9 ≤ a2 then (some true) else ((f_X10_widthToCarve x none a1 a2).bind fun r2 => if (b2i (f_X10_within r2 1 99)) = 0 then (some false) else ((f_X10_canBeCarved_2 x n) none a1 (a2 + 1)))) (fun za0 => if 9 ≤ a2 then (some true) else ((f_X10_widthToCarve x (some za0) a1 a2).bind fun r7 => if (b2i (f_X10_within r7 1 99)) = 0 then (some false) else ((f_X10_canBeCarved_2 x n) (some za0) a1 (a2 + 1))))
set_option maxRecDepth 100000 in
set_option maxHeartbeats 4000000 in
theorem t_X10_canBeCarved_2 {C : Cx} {K : KE} {y : MS} {R : Bool}  (x : CS) (F : Fx C RX10 cX10_canBeCarved 3 rm_X10_canBeCarved K) (E : CE C (xf K x y) (some (.int (b2i R))) 0 0 (some .boolean)) : ∀ (n : Nat) (a0 : Option Nat) (a1 : Int32) (a2 : Int32) (h : f_X10_canBeCarved_2 x n a0 a1 a2 = some R), V C 2 [(0, va_rf (a0.map (fun q => K.1 + q))), (1, .int a1), (2, .int a2)] [] (xf K x y) 0 0 := by
  intro n
  induction n with
  | zero => intro a0 a1 a2 h; cases h
  | succ n ih =>
    intro a0 a1 a2 h
    rw [f_X10_canBeCarved_2] at h
    rcases a0 with _ | za0
    · have h := oc_nh h
      refine v_iload_n F (dq dkX10_canBeCarved_0 2 rfl) rfl 2 rfl ?_
      refine v_bipush F (v := 9) (dq dkX10_canBeCarved_0 3 rfl) kb_9 ?_
      refine v_icmp_ge F (tgt := 31) (dq dkX10_canBeCarved_0 4 rfl) (by decide) (fun c1 => ?_) (fun c1 => ?_)
      · rw [if_pos c1] at h
        refine v_iconst F (v := 1) (dq dkX10_canBeCarved_0 17 rfl) ki_1 ?_
        have h := Option.some.inj h
        subst h
        exact v_zret F E (b2i_n true) (dq dkX10_canBeCarved_0 18 rfl)
      · rw [if_neg c1] at h
        refine v_aload_nN F (dq dkX10_canBeCarved_0 5 rfl) rfl 0 rfl ?_
        refine v_iload_n F (dq dkX10_canBeCarved_0 6 rfl) rfl 1 rfl ?_
        refine v_iload_n F (dq dkX10_canBeCarved_0 7 rfl) rfl 2 rfl ?_
        obtain ⟨r2, e3, h⟩ := bd_of h
        refine v_callS 3 F (kc1 := 0) (ks1 := 0) (as := [.null, .int a1, .int a2]) (st := []) (st1 := (.int r2 :: [])) (res := (some (.int r2))) (c_X10_widthToCarve (l := C.2.1) x y none a1 a2 e3) (tc35 _ (List.mem_of_getElem? (i := 15) rfl)) (tc35 _ (List.mem_of_getElem? (i := 16) rfl)) (tc1 _ (List.mem_of_getElem? (i := 2) rfl)) (tc35 _ (List.mem_of_getElem? (i := 17) rfl)) (by decide) rfl ⟨rfl, rfl, Nat.le_of_ble_eq_true rfl, Nat.le_of_ble_eq_true rfl⟩ ⟨Nat.le_of_ble_eq_true rfl, Nat.le_of_ble_eq_true rfl⟩ rfl (Nat.le_of_ble_eq_true rfl) rfl rfl rfl (dq dkX10_canBeCarved_0 8 rfl) ?_
        refine v_iconst F (v := 1) (dq dkX10_canBeCarved_0 9 rfl) ki_1 ?_
        refine v_bipush F (v := 99) (dq dkX10_canBeCarved_0 10 rfl) kb_99 ?_
        refine v_callS 3 F (kc1 := 0) (ks1 := 0) (as := [.int r2, .int 1, .int 99]) (st := []) (st1 := (.int (b2i (f_X10_within r2 1 99)) :: [])) (res := (some (.int (b2i (f_X10_within r2 1 99))))) (c_X10_within (l := C.2.1) r2 1 99) (tc14 _ (List.mem_of_getElem? (i := 3) rfl)) (tc8 _ (List.mem_of_getElem? (i := 15) rfl)) (tc1 _ (List.mem_of_getElem? (i := 2) rfl)) (tc8 _ (List.mem_of_getElem? (i := 16) rfl)) (by decide) rfl ⟨rfl, rfl, Nat.le_of_ble_eq_true rfl, Nat.le_of_ble_eq_true rfl⟩ ⟨Nat.le_of_ble_eq_true rfl, Nat.le_of_ble_eq_true rfl⟩ rfl (Nat.le_of_ble_eq_true rfl) rfl rfl rfl (dq dkX10_canBeCarved_0 11 rfl) ?_
        refine v_if_ne F (tgt := 25) (dq dkX10_canBeCarved_0 12 rfl) (by decide) (fun c5 => ?_) (fun c5 => ?_)
        · rw [if_neg c5] at h
          refine v_iinc F (v := a2 + 1) (ls' := [(2, .int (a2 + 1)), (0, .null), (1, .int a1)]) (dq dkX10_canBeCarved_0 15 rfl) (j := 2) rfl (kv_add ki_1) (by decide) rfl ?_
          refine v_goto F (tgt := 2) (dq dkX10_canBeCarved_0 16 rfl) (by decide) ?_
          refine v_sub [1, 2, 0] rfl ?_
          exact ih none a1 (a2 + 1) h
        · rw [if_pos c5] at h
          refine v_iconst F (v := 0) (dq dkX10_canBeCarved_0 13 rfl) ki_0 ?_
          have h := Option.some.inj h
          subst h
          exact v_zret F E (b2i_n false) (dq dkX10_canBeCarved_0 14 rfl)
    · have h := oc_sh h
      refine v_iload_n F (dq dkX10_canBeCarved_0 2 rfl) rfl 2 rfl ?_
      refine v_bipush F (v := 9) (dq dkX10_canBeCarved_0 3 rfl) kb_9 ?_
      refine v_icmp_ge F (tgt := 31) (dq dkX10_canBeCarved_0 4 rfl) (by decide) (fun c6 => ?_) (fun c6 => ?_)
      · rw [if_pos c6] at h
        refine v_iconst F (v := 1) (dq dkX10_canBeCarved_0 17 rfl) ki_1 ?_
        have h := Option.some.inj h
        subst h
        exact v_zret F E (b2i_n true) (dq dkX10_canBeCarved_0 18 rfl)
      · rw [if_neg c6] at h
        refine v_aload_n F (dq dkX10_canBeCarved_0 5 rfl) rfl 0 rfl ?_
        refine v_iload_n F (dq dkX10_canBeCarved_0 6 rfl) rfl 1 rfl ?_
        refine v_iload_n F (dq dkX10_canBeCarved_0 7 rfl) rfl 2 rfl ?_
        obtain ⟨r7, e8, h⟩ := bd_of h
        refine v_callS 3 F (kc1 := 0) (ks1 := 0) (as := [.ref (K.1 + za0), .int a1, .int a2]) (st := []) (st1 := (.int r7 :: [])) (res := (some (.int r7))) (c_X10_widthToCarve (l := C.2.1) x y (some za0) a1 a2 e8) (tc35 _ (List.mem_of_getElem? (i := 15) rfl)) (tc35 _ (List.mem_of_getElem? (i := 16) rfl)) (tc1 _ (List.mem_of_getElem? (i := 2) rfl)) (tc35 _ (List.mem_of_getElem? (i := 17) rfl)) (by decide) rfl ⟨rfl, rfl, Nat.le_of_ble_eq_true rfl, Nat.le_of_ble_eq_true rfl⟩ ⟨Nat.le_of_ble_eq_true rfl, Nat.le_of_ble_eq_true rfl⟩ rfl (Nat.le_of_ble_eq_true rfl) rfl rfl rfl (dq dkX10_canBeCarved_0 8 rfl) ?_
        refine v_iconst F (v := 1) (dq dkX10_canBeCarved_0 9 rfl) ki_1 ?_
        refine v_bipush F (v := 99) (dq dkX10_canBeCarved_0 10 rfl) kb_99 ?_
        refine v_callS 3 F (kc1 := 0) (ks1 := 0) (as := [.int r7, .int 1, .int 99]) (st := []) (st1 := (.int (b2i (f_X10_within r7 1 99)) :: [])) (res := (some (.int (b2i (f_X10_within r7 1 99))))) (c_X10_within (l := C.2.1) r7 1 99) (tc14 _ (List.mem_of_getElem? (i := 3) rfl)) (tc8 _ (List.mem_of_getElem? (i := 15) rfl)) (tc1 _ (List.mem_of_getElem? (i := 2) rfl)) (tc8 _ (List.mem_of_getElem? (i := 16) rfl)) (by decide) rfl ⟨rfl, rfl, Nat.le_of_ble_eq_true rfl, Nat.le_of_ble_eq_true rfl⟩ ⟨Nat.le_of_ble_eq_true rfl, Nat.le_of_ble_eq_true rfl⟩ rfl (Nat.le_of_ble_eq_true rfl) rfl rfl rfl (dq dkX10_canBeCarved_0 11 rfl) ?_
        refine v_if_ne F (tgt := 25) (dq dkX10_canBeCarved_0 12 rfl) (by decide) (fun c10 => ?_) (fun c10 => ?_)
        · rw [if_neg c10] at h
          refine v_iinc F (v := a2 + 1) (ls' := [(2, .int (a2 + 1)), (0, .ref (K.1 + za0)), (1, .int a1)]) (dq dkX10_canBeCarved_0 15 rfl) (j := 2) rfl (kv_add ki_1) (by decide) rfl ?_
          refine v_goto F (tgt := 2) (dq dkX10_canBeCarved_0 16 rfl) (by decide) ?_
          refine v_sub [1, 2, 0] rfl ?_
          exact ih (some za0) a1 (a2 + 1) h
        · rw [if_pos c10] at h
          refine v_iconst F (v := 0) (dq dkX10_canBeCarved_0 13 rfl) ki_0 ?_
          have h := Option.some.inj h
          subst h
          exact v_zret F E (b2i_n false) (dq dkX10_canBeCarved_0 14 rfl)
def f_X10_canBeCarved (x : CS) (a0 : Option Nat) (a1 : Int32) : Option (Bool) := oc a0 (f_X10_canBeCarved_2 x 1000 none a1 0) (fun za0 => f_X10_canBeCarved_2 x 1000 (some za0) a1 0)
set_option maxRecDepth 100000 in
set_option maxHeartbeats 4000000 in
theorem c_X10_canBeCarved {K : KE} {l : Launch} {R : Bool} (x : CS) (y : MS) (a0 : Option Nat) (a1 : Int32) (h : f_X10_canBeCarved x a0 a1 = some R) : MC K l yX10_canBeCarved cX10_canBeCarved 3 (some .boolean) rm_X10_canBeCarved 0 0 [va_rf (a0.map (fun q => K.1 + q)), .int a1] (xf K x y) (xf K x y) (some (.int (b2i R))) := by
  unfold f_X10_canBeCarved at h
  rcases a0 with _ | za0
  · have h := oc_nh h
    refine mc_of (ls0 := [(0, .null), (1, .int a1)]) (by decide) (Nat.le_of_ble_eq_true rfl) rfl (fun C hl hnm F E => ?_)
    have F : Fx C RX10 cX10_canBeCarved 3 rm_X10_canBeCarved K := F
    refine v_iconst F (v := 0) (dq dkX10_canBeCarved_0 0 rfl) ki_0 ?_
    refine v_istore_n F (ls' := [(2, .int 0), (0, .null), (1, .int a1)]) (dq dkX10_canBeCarved_0 1 rfl) rfl (by decide) rfl ?_
    refine v_sub [1, 2, 0] rfl ?_
    exact t_X10_canBeCarved_2 x F E 1000 none a1 0 h
  · have h := oc_sh h
    refine mc_of (ls0 := [(0, .ref (K.1 + za0)), (1, .int a1)]) (by decide) (Nat.le_of_ble_eq_true rfl) rfl (fun C hl hnm F E => ?_)
    have F : Fx C RX10 cX10_canBeCarved 3 rm_X10_canBeCarved K := F
    refine v_iconst F (v := 0) (dq dkX10_canBeCarved_0 0 rfl) ki_0 ?_
    refine v_istore_n F (ls' := [(2, .int 0), (0, .ref (K.1 + za0)), (1, .int a1)]) (dq dkX10_canBeCarved_0 1 rfl) rfl (by decide) rfl ?_
    refine v_sub [1, 2, 0] rfl ?_
    exact t_X10_canBeCarved_2 x F E 1000 (some za0) a1 0 h
def rm_X10_unevenness : Room := { frames := 4, cells := 0, slots := 0, locals := 94 }
def f_X10_unevenness_4 (x : CS) : Nat → Option Nat → Int32 → Int32 → Int32 → Option (Int32)
  | 0, _, _, _, _ => none
  | n + 1, a0, a1, a2, a3 => oc a0 (if 9 ≤ a3 then (some a2) else ((f_X10_widthToCarve x none a1 a3).bind fun r2 => (f_X10_widthToCarve x none a1 (a3 - 1)).bind fun r4 => (f_X10_unevenness_4 x n) none a1 (a2 + (if 0 ≤ (r2 - r4) then (r2 - r4) else 0 - (r2 - r4))) (a3 + 1))) (fun za0 => if 9 ≤ a3 then (some a2) else ((f_X10_widthToCarve x (some za0) a1 a3).bind fun r7 => (f_X10_widthToCarve x (some za0) a1 (a3 - 1)).bind fun r9 => (f_X10_unevenness_4 x n) (some za0) a1 (a2 + (if 0 ≤ (r7 - r9) then (r7 - r9) else 0 - (r7 - r9))) (a3 + 1)))
set_option maxRecDepth 100000 in
set_option maxHeartbeats 4000000 in
theorem t_X10_unevenness_4 {C : Cx} {K : KE} {y : MS} {R : Int32}  (x : CS) (F : Fx C RX10 cX10_unevenness 4 rm_X10_unevenness K) (E : CE C (xf K x y) (some (.int R)) 0 0 (some .int)) : ∀ (n : Nat) (a0 : Option Nat) (a1 : Int32) (a2 : Int32) (a3 : Int32) (h : f_X10_unevenness_4 x n a0 a1 a2 a3 = some R), V C 4 [(0, va_rf (a0.map (fun q => K.1 + q))), (1, .int a1), (2, .int a2), (3, .int a3)] [] (xf K x y) 0 0 := by
  intro n
  induction n with
  | zero => intro a0 a1 a2 a3 h; cases h
  | succ n ih =>
    intro a0 a1 a2 a3 h
    rw [f_X10_unevenness_4] at h
    rcases a0 with _ | za0
    · have h := oc_nh h
      refine v_iload_n F (dq dkX10_unevenness_0 4 rfl) rfl 3 rfl ?_
      refine v_bipush F (v := 9) (dq dkX10_unevenness_0 5 rfl) kb_9 ?_
      refine v_icmp_ge F (tgt := 37) (dq dkX10_unevenness_0 6 rfl) (by decide) (fun c1 => ?_) (fun c1 => ?_)
      · rw [if_pos c1] at h
        refine v_iload_n F (dq dkX10_unevenness_0 24 rfl) rfl 2 rfl ?_
        have h := Option.some.inj h
        subst h
        exact v_iret F E (dq dkX10_unevenness_0 25 rfl)
      · rw [if_neg c1] at h
        refine v_iload_n F (dq dkX10_unevenness_0 7 rfl) rfl 2 rfl ?_
        refine v_aload_nN F (dq dkX10_unevenness_0 8 rfl) rfl 0 rfl ?_
        refine v_iload_n F (dq dkX10_unevenness_0 9 rfl) rfl 1 rfl ?_
        refine v_iload_n F (dq dkX10_unevenness_0 10 rfl) rfl 3 rfl ?_
        obtain ⟨r2, e3, h⟩ := bd_of h
        refine v_callS 3 F (kc1 := 0) (ks1 := 0) (as := [.null, .int a1, .int a3]) (st := [.int a2]) (st1 := (.int r2 :: [.int a2])) (res := (some (.int r2))) (c_X10_widthToCarve (l := C.2.1) x y none a1 a3 e3) (tc35 _ (List.mem_of_getElem? (i := 15) rfl)) (tc35 _ (List.mem_of_getElem? (i := 16) rfl)) (tc1 _ (List.mem_of_getElem? (i := 2) rfl)) (tc35 _ (List.mem_of_getElem? (i := 17) rfl)) (by decide) rfl ⟨rfl, rfl, Nat.le_of_ble_eq_true rfl, Nat.le_of_ble_eq_true rfl⟩ ⟨Nat.le_of_ble_eq_true rfl, Nat.le_of_ble_eq_true rfl⟩ rfl (Nat.le_of_ble_eq_true rfl) rfl rfl rfl (dq dkX10_unevenness_0 11 rfl) ?_
        refine v_aload_nN F (dq dkX10_unevenness_0 12 rfl) rfl 0 rfl ?_
        refine v_iload_n F (dq dkX10_unevenness_0 13 rfl) rfl 1 rfl ?_
        refine v_iload_n F (dq dkX10_unevenness_0 14 rfl) rfl 3 rfl ?_
        refine v_iconst F (v := 1) (dq dkX10_unevenness_0 15 rfl) ki_1 ?_
        refine v_isub F (dq dkX10_unevenness_0 16 rfl) ?_
        obtain ⟨r4, e5, h⟩ := bd_of h
        refine v_callS 3 F (kc1 := 0) (ks1 := 0) (as := [.null, .int a1, .int (a3 - 1)]) (st := [.int r2, .int a2]) (st1 := (.int r4 :: [.int r2, .int a2])) (res := (some (.int r4))) (c_X10_widthToCarve (l := C.2.1) x y none a1 (a3 - 1) e5) (tc35 _ (List.mem_of_getElem? (i := 15) rfl)) (tc35 _ (List.mem_of_getElem? (i := 16) rfl)) (tc1 _ (List.mem_of_getElem? (i := 2) rfl)) (tc35 _ (List.mem_of_getElem? (i := 17) rfl)) (by decide) rfl ⟨rfl, rfl, Nat.le_of_ble_eq_true rfl, Nat.le_of_ble_eq_true rfl⟩ ⟨Nat.le_of_ble_eq_true rfl, Nat.le_of_ble_eq_true rfl⟩ rfl (Nat.le_of_ble_eq_true rfl) rfl rfl rfl (dq dkX10_unevenness_0 17 rfl) ?_
        refine v_isub F (dq dkX10_unevenness_0 18 rfl) ?_
        refine v_mabs F (tc26 _ (List.mem_of_getElem? (i := 17) rfl)) (tc26 _ (List.mem_of_getElem? (i := 18) rfl)) (tc21 _ (List.mem_of_getElem? (i := 1) rfl)) (tc26 _ (List.mem_of_getElem? (i := 19) rfl)) (Nat.le_of_ble_eq_true rfl) (Nat.le_of_ble_eq_true rfl) (Nat.le_of_ble_eq_true rfl) (Nat.le_of_ble_eq_true rfl) (dq dkX10_unevenness_0 19 rfl) ?_
        refine v_iadd F (dq dkX10_unevenness_0 20 rfl) ?_
        refine v_istore_n F (ls' := [(2, .int (a2 + (if 0 ≤ (r2 - r4) then (r2 - r4) else 0 - (r2 - r4)))), (0, .null), (1, .int a1), (3, .int a3)]) (dq dkX10_unevenness_0 21 rfl) rfl (by decide) rfl ?_
        refine v_iinc F (v := a3 + 1) (ls' := [(3, .int (a3 + 1)), (2, .int (a2 + (if 0 ≤ (r2 - r4) then (r2 - r4) else 0 - (r2 - r4)))), (0, .null), (1, .int a1)]) (dq dkX10_unevenness_0 22 rfl) (j := 3) rfl (kv_add ki_1) (by decide) rfl ?_
        refine v_goto F (tgt := 4) (dq dkX10_unevenness_0 23 rfl) (by decide) ?_
        refine v_sub [2, 3, 1, 0] rfl ?_
        exact ih none a1 (a2 + (if 0 ≤ (r2 - r4) then (r2 - r4) else 0 - (r2 - r4))) (a3 + 1) h
    · have h := oc_sh h
      refine v_iload_n F (dq dkX10_unevenness_0 4 rfl) rfl 3 rfl ?_
      refine v_bipush F (v := 9) (dq dkX10_unevenness_0 5 rfl) kb_9 ?_
      refine v_icmp_ge F (tgt := 37) (dq dkX10_unevenness_0 6 rfl) (by decide) (fun c6 => ?_) (fun c6 => ?_)
      · rw [if_pos c6] at h
        refine v_iload_n F (dq dkX10_unevenness_0 24 rfl) rfl 2 rfl ?_
        have h := Option.some.inj h
        subst h
        exact v_iret F E (dq dkX10_unevenness_0 25 rfl)
      · rw [if_neg c6] at h
        refine v_iload_n F (dq dkX10_unevenness_0 7 rfl) rfl 2 rfl ?_
        refine v_aload_n F (dq dkX10_unevenness_0 8 rfl) rfl 0 rfl ?_
        refine v_iload_n F (dq dkX10_unevenness_0 9 rfl) rfl 1 rfl ?_
        refine v_iload_n F (dq dkX10_unevenness_0 10 rfl) rfl 3 rfl ?_
        obtain ⟨r7, e8, h⟩ := bd_of h
        refine v_callS 3 F (kc1 := 0) (ks1 := 0) (as := [.ref (K.1 + za0), .int a1, .int a3]) (st := [.int a2]) (st1 := (.int r7 :: [.int a2])) (res := (some (.int r7))) (c_X10_widthToCarve (l := C.2.1) x y (some za0) a1 a3 e8) (tc35 _ (List.mem_of_getElem? (i := 15) rfl)) (tc35 _ (List.mem_of_getElem? (i := 16) rfl)) (tc1 _ (List.mem_of_getElem? (i := 2) rfl)) (tc35 _ (List.mem_of_getElem? (i := 17) rfl)) (by decide) rfl ⟨rfl, rfl, Nat.le_of_ble_eq_true rfl, Nat.le_of_ble_eq_true rfl⟩ ⟨Nat.le_of_ble_eq_true rfl, Nat.le_of_ble_eq_true rfl⟩ rfl (Nat.le_of_ble_eq_true rfl) rfl rfl rfl (dq dkX10_unevenness_0 11 rfl) ?_
        refine v_aload_n F (dq dkX10_unevenness_0 12 rfl) rfl 0 rfl ?_
        refine v_iload_n F (dq dkX10_unevenness_0 13 rfl) rfl 1 rfl ?_
        refine v_iload_n F (dq dkX10_unevenness_0 14 rfl) rfl 3 rfl ?_
        refine v_iconst F (v := 1) (dq dkX10_unevenness_0 15 rfl) ki_1 ?_
        refine v_isub F (dq dkX10_unevenness_0 16 rfl) ?_
        obtain ⟨r9, e10, h⟩ := bd_of h
        refine v_callS 3 F (kc1 := 0) (ks1 := 0) (as := [.ref (K.1 + za0), .int a1, .int (a3 - 1)]) (st := [.int r7, .int a2]) (st1 := (.int r9 :: [.int r7, .int a2])) (res := (some (.int r9))) (c_X10_widthToCarve (l := C.2.1) x y (some za0) a1 (a3 - 1) e10) (tc35 _ (List.mem_of_getElem? (i := 15) rfl)) (tc35 _ (List.mem_of_getElem? (i := 16) rfl)) (tc1 _ (List.mem_of_getElem? (i := 2) rfl)) (tc35 _ (List.mem_of_getElem? (i := 17) rfl)) (by decide) rfl ⟨rfl, rfl, Nat.le_of_ble_eq_true rfl, Nat.le_of_ble_eq_true rfl⟩ ⟨Nat.le_of_ble_eq_true rfl, Nat.le_of_ble_eq_true rfl⟩ rfl (Nat.le_of_ble_eq_true rfl) rfl rfl rfl (dq dkX10_unevenness_0 17 rfl) ?_
        refine v_isub F (dq dkX10_unevenness_0 18 rfl) ?_
        refine v_mabs F (tc26 _ (List.mem_of_getElem? (i := 17) rfl)) (tc26 _ (List.mem_of_getElem? (i := 18) rfl)) (tc21 _ (List.mem_of_getElem? (i := 1) rfl)) (tc26 _ (List.mem_of_getElem? (i := 19) rfl)) (Nat.le_of_ble_eq_true rfl) (Nat.le_of_ble_eq_true rfl) (Nat.le_of_ble_eq_true rfl) (Nat.le_of_ble_eq_true rfl) (dq dkX10_unevenness_0 19 rfl) ?_
        refine v_iadd F (dq dkX10_unevenness_0 20 rfl) ?_
        refine v_istore_n F (ls' := [(2, .int (a2 + (if 0 ≤ (r7 - r9) then (r7 - r9) else 0 - (r7 - r9)))), (0, .ref (K.1 + za0)), (1, .int a1), (3, .int a3)]) (dq dkX10_unevenness_0 21 rfl) rfl (by decide) rfl ?_
        refine v_iinc F (v := a3 + 1) (ls' := [(3, .int (a3 + 1)), (2, .int (a2 + (if 0 ≤ (r7 - r9) then (r7 - r9) else 0 - (r7 - r9)))), (0, .ref (K.1 + za0)), (1, .int a1)]) (dq dkX10_unevenness_0 22 rfl) (j := 3) rfl (kv_add ki_1) (by decide) rfl ?_
        refine v_goto F (tgt := 4) (dq dkX10_unevenness_0 23 rfl) (by decide) ?_
        refine v_sub [2, 3, 1, 0] rfl ?_
        exact ih (some za0) a1 (a2 + (if 0 ≤ (r7 - r9) then (r7 - r9) else 0 - (r7 - r9))) (a3 + 1) h
def f_X10_unevenness (x : CS) (a0 : Option Nat) (a1 : Int32) : Option (Int32) := oc a0 (f_X10_unevenness_4 x 1000 none a1 0 1) (fun za0 => f_X10_unevenness_4 x 1000 (some za0) a1 0 1)
set_option maxRecDepth 100000 in
set_option maxHeartbeats 4000000 in
theorem c_X10_unevenness {K : KE} {l : Launch} {R : Int32} (x : CS) (y : MS) (a0 : Option Nat) (a1 : Int32) (h : f_X10_unevenness x a0 a1 = some R) : MC K l yX10_unevenness cX10_unevenness 4 (some .int) rm_X10_unevenness 0 0 [va_rf (a0.map (fun q => K.1 + q)), .int a1] (xf K x y) (xf K x y) (some (.int R)) := by
  unfold f_X10_unevenness at h
  rcases a0 with _ | za0
  · have h := oc_nh h
    refine mc_of (ls0 := [(0, .null), (1, .int a1)]) (by decide) (Nat.le_of_ble_eq_true rfl) rfl (fun C hl hnm F E => ?_)
    have F : Fx C RX10 cX10_unevenness 4 rm_X10_unevenness K := F
    refine v_iconst F (v := 0) (dq dkX10_unevenness_0 0 rfl) ki_0 ?_
    refine v_istore_n F (ls' := [(2, .int 0), (0, .null), (1, .int a1)]) (dq dkX10_unevenness_0 1 rfl) rfl (by decide) rfl ?_
    refine v_iconst F (v := 1) (dq dkX10_unevenness_0 2 rfl) ki_1 ?_
    refine v_istore_n F (ls' := [(3, .int 1), (2, .int 0), (0, .null), (1, .int a1)]) (dq dkX10_unevenness_0 3 rfl) rfl (by decide) rfl ?_
    refine v_sub [2, 3, 1, 0] rfl ?_
    exact t_X10_unevenness_4 x F E 1000 none a1 0 1 h
  · have h := oc_sh h
    refine mc_of (ls0 := [(0, .ref (K.1 + za0)), (1, .int a1)]) (by decide) (Nat.le_of_ble_eq_true rfl) rfl (fun C hl hnm F E => ?_)
    have F : Fx C RX10 cX10_unevenness 4 rm_X10_unevenness K := F
    refine v_iconst F (v := 0) (dq dkX10_unevenness_0 0 rfl) ki_0 ?_
    refine v_istore_n F (ls' := [(2, .int 0), (0, .ref (K.1 + za0)), (1, .int a1)]) (dq dkX10_unevenness_0 1 rfl) rfl (by decide) rfl ?_
    refine v_iconst F (v := 1) (dq dkX10_unevenness_0 2 rfl) ki_1 ?_
    refine v_istore_n F (ls' := [(3, .int 1), (2, .int 0), (0, .ref (K.1 + za0)), (1, .int a1)]) (dq dkX10_unevenness_0 3 rfl) rfl (by decide) rfl ?_
    refine v_sub [2, 3, 1, 0] rfl ?_
    exact t_X10_unevenness_4 x F E 1000 (some za0) a1 0 1 h
