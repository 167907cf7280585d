def rm_X6_advance : Room := { frames := 7, cells := 0, slots := 0, locals := 242 }
def f_X6_advance_275 (x : CS) (s0 : Int32) : Option (CS) := some (pi x 26 8 s0)
set_option maxRecDepth 100000 in
set_option maxHeartbeats 4000000 in
theorem t_X6_advance_275 {C : Cx} {K : KE} {y : MS} {R : CS}  (x : CS) (s0 : Int32) (h : f_X6_advance_275 x s0 = some R) (F : Fx C RX6 cX6_advance 3 rm_X6_advance K) (E : CE C (xf K R y) none 0 0 none) : V C 275 [] [.int s0, .ref (K.1 + 26)] (xf K x y) 0 0 := by
  unfold f_X6_advance_275 at h
  refine v_put F 26 (xn (by decide)) xc_26 rfl inlX6 tyX6_ok nmX6 8 (by decide) (tc4 _ (List.mem_of_getElem? (i := 4) rfl)) rfl rfl (tyX6_ok 8 (by decide)) rfl rfl (Nat.le_of_ble_eq_true rfl) (dq dkX6_advance_3 15 rfl) ?_
  refine v_eqM (xwC (q := 26) (j := 8) (v := s0) (by decide) rfl) ?_
  have h := Option.some.inj h
  subst h
  exact v_vret F E (dq dkX6_advance_3 16 rfl)
def f_X6_advance_244 (x : CS) (s0 : Int32) : Option (CS) := some (pi x 26 8 s0)
set_option maxRecDepth 100000 in
set_option maxHeartbeats 4000000 in
theorem t_X6_advance_244 {C : Cx} {K : KE} {y : MS} {R : CS}  (x : CS) (s0 : Int32) (h : f_X6_advance_244 x s0 = some R) (F : Fx C RX6 cX6_advance 3 rm_X6_advance K) (E : CE C (xf K R y) none 0 0 none) : V C 244 [] [.int s0, .ref (K.1 + 26)] (xf K x y) 0 0 := by
  unfold f_X6_advance_244 at h
  refine v_put F 26 (xn (by decide)) xc_26 rfl inlX6 tyX6_ok nmX6 8 (by decide) (tc4 _ (List.mem_of_getElem? (i := 4) rfl)) rfl rfl (tyX6_ok 8 (by decide)) rfl rfl (Nat.le_of_ble_eq_true rfl) (dq dkX6_advance_3 0 rfl) ?_
  refine v_eqM (xwC (q := 26) (j := 8) (v := s0) (by decide) rfl) ?_
  refine v_goto F (tgt := 278) (dq dkX6_advance_3 1 rfl) (by decide) ?_
  have h := Option.some.inj h
  subst h
  exact v_vret F E (dq dkX6_advance_3 16 rfl)
def f_X6_advance_221 (x : CS) : Option (CS) := if ((gi x 26 7) - (gi x 26 9)) ≤ 4 then (f_X6_advance_244 x 306) else (f_X6_advance_244 x 308)
set_option maxRecDepth 100000 in
set_option maxHeartbeats 4000000 in
theorem t_X6_advance_221 {C : Cx} {K : KE} {y : MS} {R : CS}  (x : CS) (h : f_X6_advance_221 x = some R) (F : Fx C RX6 cX6_advance 3 rm_X6_advance K) (E : CE C (xf K R y) none 0 0 none) : V C 221 [(0, .ref (K.1 + 26))] [] (xf K x y) 0 0 := by
  unfold f_X6_advance_221 at h
  refine v_aload_n F (dq dkX6_advance_2 29 rfl) rfl 0 rfl ?_
  refine v_aload_n F (dq dkX6_advance_2 30 rfl) rfl 0 rfl ?_
  refine v_get F 26 (xn (by decide)) xc_26 rfl inlX6 7 (by decide) (tc4 _ (List.mem_of_getElem? (i := 3) rfl)) rfl rfl (dq dkX6_advance_2 31 rfl) ?_
  refine v_aload_n F (dq dkX6_advance_2 32 rfl) rfl 0 rfl ?_
  refine v_get F 26 (xn (by decide)) xc_26 rfl inlX6 9 (by decide) (tc4 _ (List.mem_of_getElem? (i := 5) rfl)) rfl rfl (dq dkX6_advance_2 33 rfl) ?_
  refine v_isub F (dq dkX6_advance_2 34 rfl) ?_
  refine v_iconst F (v := 4) (dq dkX6_advance_2 35 rfl) ki_4 ?_
  refine v_icmp_le F (tgt := 241) (dq dkX6_advance_2 36 rfl) (by decide) (fun c1 => ?_) (fun c1 => ?_)
  · rw [if_pos c1] at h
    refine v_sipush F (v := 306) (dq dkX6_advance_2 39 rfl) ks_306 ?_
    refine v_sub [] rfl ?_
    exact t_X6_advance_244 x 306 h F E
  · rw [if_neg c1] at h
    refine v_sipush F (v := 308) (dq dkX6_advance_2 37 rfl) ks_308 ?_
    refine v_goto F (tgt := 244) (dq dkX6_advance_2 38 rfl) (by decide) ?_
    refine v_sub [] rfl ?_
    exact t_X6_advance_244 x 308 h F E
def f_X6_advance_161 : Nat → CS → Int32 → Option (CS)
  | 0, _, _ => none
  | n + 1, x, a2 => if 160 ≤ a2 then (f_X6_advance_221 x) else ((f_X6_byteAt x (gi x 26 7)).bind fun r3 => if (b2i (f_X6_isDigit r3)) = 0 then (f_X6_advance_221 x) else ((f_X6_byteAt x (gi x 26 7)).bind fun r7 => (f_X6_advance_161 n) (pi (pi x 26 10 ((((gi x 26 10) * 10) + r7) - 48)) 26 7 ((gi (pi x 26 10 ((((gi x 26 10) * 10) + r7) - 48)) 26 7) + 1)) (a2 + 1)))
set_option maxRecDepth 100000 in
set_option maxHeartbeats 4000000 in
theorem t_X6_advance_161 {C : Cx} {K : KE} {y : MS} {R : CS}  (F : Fx C RX6 cX6_advance 3 rm_X6_advance K) (E : CE C (xf K R y) none 0 0 none) : ∀ (n : Nat) (x : CS) (a2 : Int32) (h : f_X6_advance_161 n x a2 = some R), V C 161 [(0, .ref (K.1 + 26)), (2, .int a2)] [] (xf K x y) 0 0 := by
  intro n
  induction n with
  | zero => intro x a2 h; cases h
  | succ n ih =>
    intro x a2 h
    rw [f_X6_advance_161] at h
    refine v_iload_n F (dq dkX6_advance_1 39 rfl) rfl 1 rfl ?_
    refine v_sipush F (v := 160) (dq dkX6_advance_2 0 rfl) ks_160 ?_
    refine v_icmp_ge F (tgt := 221) (dq dkX6_advance_2 1 rfl) (by decide) (fun c2 => ?_) (fun c2 => ?_)
    · rw [if_pos c2] at h
      refine v_sub [0] rfl ?_
      exact t_X6_advance_221 x h F E
    · rw [if_neg c2] at h
      refine v_aload_n F (dq dkX6_advance_2 2 rfl) rfl 0 rfl ?_
      refine v_aload_n F (dq dkX6_advance_2 3 rfl) rfl 0 rfl ?_
      refine v_get F 26 (xn (by decide)) xc_26 rfl inlX6 7 (by decide) (tc4 _ (List.mem_of_getElem? (i := 3) rfl)) rfl rfl (dq dkX6_advance_2 4 rfl) ?_
      obtain ⟨r3, e4, h⟩ := bd_of h
      refine v_callV 1 F (q := 26) (kc1 := 0) (ks1 := 0) (as := [.int (gi x 26 7)]) (st := []) (st1 := (.int r3 :: [])) (res := (some (.int r3))) (c_X6_byteAt (l := C.2.1) x y (gi x 26 7) e4) (xn (by decide)) xc_26 rfl (tc8 _ (List.mem_of_getElem? (i := 8) rfl)) (tc8 _ (List.mem_of_getElem? (i := 9) rfl)) (tc8 _ (List.mem_of_getElem? (i := 10) rfl)) (tc1 _ (List.mem_of_getElem? (i := 23) rfl)) (tc8 _ (List.mem_of_getElem? (i := 11) rfl)) (by decide) rfl ⟨rfl, rfl, Nat.le_of_ble_eq_true rfl, Nat.le_of_ble_eq_true rfl⟩ ⟨Nat.le_of_ble_eq_true rfl, Nat.le_of_ble_eq_true rfl⟩ rfl (Nat.le_of_ble_eq_true rfl) rfl rfl rfl (dq dkX6_advance_2 5 rfl) ?_
      refine v_callS 1 F (kc1 := 0) (ks1 := 0) (as := [.int r3]) (st := []) (st1 := (.int (b2i (f_X6_isDigit r3)) :: [])) (res := (some (.int (b2i (f_X6_isDigit r3))))) (c_X6_isDigit (l := C.2.1) r3) (tc9 _ (List.mem_of_getElem? (i := 3) rfl)) (tc9 _ (List.mem_of_getElem? (i := 4) rfl)) (tc1 _ (List.mem_of_getElem? (i := 23) rfl)) (tc9 _ (List.mem_of_getElem? (i := 5) rfl)) (by decide) rfl ⟨rfl, rfl, Nat.le_of_ble_eq_true rfl, Nat.le_of_ble_eq_true rfl⟩ ⟨Nat.le_of_ble_eq_true rfl, Nat.le_of_ble_eq_true rfl⟩ rfl (Nat.le_of_ble_eq_true rfl) rfl rfl rfl (dq dkX6_advance_2 6 rfl) ?_
      refine v_if_eq F (tgt := 221) (dq dkX6_advance_2 7 rfl) (by decide) (fun c6 => ?_) (fun c6 => ?_)
      · rw [if_pos c6] at h
        refine v_sub [0] rfl ?_
        exact t_X6_advance_221 x h F E
      · rw [if_neg c6] at h
        refine v_aload_n F (dq dkX6_advance_2 8 rfl) rfl 0 rfl ?_
        refine v_aload_n F (dq dkX6_advance_2 9 rfl) rfl 0 rfl ?_
        refine v_get F 26 (xn (by decide)) xc_26 rfl inlX6 10 (by decide) (tc4 _ (List.mem_of_getElem? (i := 6) rfl)) rfl rfl (dq dkX6_advance_2 10 rfl) ?_
        refine v_bipush F (v := 10) (dq dkX6_advance_2 11 rfl) kb_10 ?_
        refine v_imul F (dq dkX6_advance_2 12 rfl) ?_
        refine v_aload_n F (dq dkX6_advance_2 13 rfl) rfl 0 rfl ?_
        refine v_aload_n F (dq dkX6_advance_2 14 rfl) rfl 0 rfl ?_
        refine v_get F 26 (xn (by decide)) xc_26 rfl inlX6 7 (by decide) (tc4 _ (List.mem_of_getElem? (i := 3) rfl)) rfl rfl (dq dkX6_advance_2 15 rfl) ?_
        obtain ⟨r7, e8, h⟩ := bd_of h
        refine v_callV 1 F (q := 26) (kc1 := 0) (ks1 := 0) (as := [.int (gi x 26 7)]) (st := [.int ((gi x 26 10) * 10), .ref (K.1 + 26)]) (st1 := (.int r7 :: [.int ((gi x 26 10) * 10), .ref (K.1 + 26)])) (res := (some (.int r7))) (c_X6_byteAt (l := C.2.1) x y (gi x 26 7) e8) (xn (by decide)) xc_26 rfl (tc8 _ (List.mem_of_getElem? (i := 8) rfl)) (tc8 _ (List.mem_of_getElem? (i := 9) rfl)) (tc8 _ (List.mem_of_getElem? (i := 10) rfl)) (tc1 _ (List.mem_of_getElem? (i := 23) rfl)) (tc8 _ (List.mem_of_getElem? (i := 11) rfl)) (by decide) rfl ⟨rfl, rfl, Nat.le_of_ble_eq_true rfl, Nat.le_of_ble_eq_true rfl⟩ ⟨Nat.le_of_ble_eq_true rfl, Nat.le_of_ble_eq_true rfl⟩ rfl (Nat.le_of_ble_eq_true rfl) rfl rfl rfl (dq dkX6_advance_2 16 rfl) ?_
        refine v_iadd F (dq dkX6_advance_2 17 rfl) ?_
        refine v_bipush F (v := 48) (dq dkX6_advance_2 18 rfl) kb_48 ?_
        refine v_isub F (dq dkX6_advance_2 19 rfl) ?_
        refine v_put F 26 (xn (by decide)) xc_26 rfl inlX6 tyX6_ok nmX6 10 (by decide) (tc4 _ (List.mem_of_getElem? (i := 6) rfl)) rfl rfl (tyX6_ok 10 (by decide)) rfl rfl (Nat.le_of_ble_eq_true rfl) (dq dkX6_advance_2 20 rfl) ?_
        refine v_eqM (xwC (q := 26) (j := 10) (v := (((gi x 26 10) * 10) + r7) - 48) (by decide) rfl) ?_
        refine v_aload_n F (dq dkX6_advance_2 21 rfl) rfl 0 rfl ?_
        refine v_dup F (dq dkX6_advance_2 22 rfl) rfl ?_
        refine v_get F 26 (xn (by decide)) xc_26 rfl inlX6 7 (by decide) (tc4 _ (List.mem_of_getElem? (i := 3) rfl)) rfl rfl (dq dkX6_advance_2 23 rfl) ?_
        refine v_iconst F (v := 1) (dq dkX6_advance_2 24 rfl) ki_1 ?_
        refine v_iadd F (dq dkX6_advance_2 25 rfl) ?_
        refine v_put F 26 (xn (by decide)) xc_26 rfl inlX6 tyX6_ok nmX6 7 (by decide) (tc4 _ (List.mem_of_getElem? (i := 3) rfl)) rfl rfl (tyX6_ok 7 (by decide)) rfl rfl (Nat.le_of_ble_eq_true rfl) (dq dkX6_advance_2 26 rfl) ?_
        refine v_eqM (xwC (q := 26) (j := 7) (v := (gi (pi x 26 10 ((((gi x 26 10) * 10) + r7) - 48)) 26 7) + 1) (by decide) rfl) ?_
        refine v_iinc F (v := a2 + 1) (ls' := [(2, .int (a2 + 1)), (0, .ref (K.1 + 26))]) (dq dkX6_advance_2 27 rfl) (j := 1) rfl (kv_add ki_1) (by decide) rfl ?_
        refine v_goto F (tgt := 161) (dq dkX6_advance_2 28 rfl) (by decide) ?_
        refine v_sub [1, 0] rfl ?_
        exact ih (pi (pi x 26 10 ((((gi x 26 10) * 10) + r7) - 48)) 26 7 ((gi (pi x 26 10 ((((gi x 26 10) * 10) + r7) - 48)) 26 7) + 1)) (a2 + 1) h
def f_X6_advance_136 (x : CS) : Option (CS) := (f_X6_wordToken x).bind fun r9 => some (pi x 26 8 r9)
set_option maxRecDepth 100000 in
set_option maxHeartbeats 4000000 in
theorem t_X6_advance_136 {C : Cx} {K : KE} {y : MS} {R : CS}  (x : CS) (h : f_X6_advance_136 x = some R) (F : Fx C RX6 cX6_advance 3 rm_X6_advance K) (E : CE C (xf K R y) none 0 0 none) : V C 136 [(0, .ref (K.1 + 26))] [] (xf K x y) 0 0 := by
  unfold f_X6_advance_136 at h
  refine v_aload_n F (dq dkX6_advance_1 26 rfl) rfl 0 rfl ?_
  refine v_aload_n F (dq dkX6_advance_1 27 rfl) rfl 0 rfl ?_
  obtain ⟨r9, e10, h⟩ := bd_of h
  refine v_callV 0 F (q := 26) (kc1 := 0) (ks1 := 0) (as := []) (st := [.ref (K.1 + 26)]) (st1 := (.int r9 :: [.ref (K.1 + 26)])) (res := (some (.int r9))) (c_X6_wordToken (l := C.2.1) x y e10) (xn (by decide)) xc_26 rfl (tc8 _ (List.mem_of_getElem? (i := 17) rfl)) (tc8 _ (List.mem_of_getElem? (i := 18) rfl)) (tc8 _ (List.mem_of_getElem? (i := 19) rfl)) (tc1 _ (List.mem_of_getElem? (i := 23) rfl)) (tc8 _ (List.mem_of_getElem? (i := 20) rfl)) (by decide) rfl ⟨rfl, rfl, Nat.le_of_ble_eq_true rfl, Nat.le_of_ble_eq_true rfl⟩ ⟨Nat.le_of_ble_eq_true rfl, Nat.le_of_ble_eq_true rfl⟩ rfl (Nat.le_of_ble_eq_true rfl) rfl rfl rfl (dq dkX6_advance_1 28 rfl) ?_
  refine v_put F 26 (xn (by decide)) xc_26 rfl inlX6 tyX6_ok nmX6 8 (by decide) (tc4 _ (List.mem_of_getElem? (i := 4) rfl)) rfl rfl (tyX6_ok 8 (by decide)) rfl rfl (Nat.le_of_ble_eq_true rfl) (dq dkX6_advance_1 29 rfl) ?_
  refine v_eqM (xwC (q := 26) (j := 8) (v := r9) (by decide) rfl) ?_
  refine v_goto F (tgt := 278) (dq dkX6_advance_1 30 rfl) (by decide) ?_
  have h := Option.some.inj h
  subst h
  exact v_vret F E (dq dkX6_advance_3 16 rfl)
def f_X6_advance_99 : Nat → CS → Int32 → Option (CS)
  | 0, _, _ => none
  | n + 1, x, a2 => if 160 ≤ a2 then (f_X6_advance_136 x) else ((f_X6_byteAt x (gi x 26 7)).bind fun r12 => if (b2i (f_X6_isLetter r12)) = 0 then (f_X6_advance_136 x) else ((f_X6_advance_99 n) (pi x 26 7 ((gi x 26 7) + 1)) (a2 + 1)))
set_option maxRecDepth 100000 in
set_option maxHeartbeats 4000000 in
theorem t_X6_advance_99 {C : Cx} {K : KE} {y : MS} {R : CS}  (F : Fx C RX6 cX6_advance 3 rm_X6_advance K) (E : CE C (xf K R y) none 0 0 none) : ∀ (n : Nat) (x : CS) (a2 : Int32) (h : f_X6_advance_99 n x a2 = some R), V C 99 [(0, .ref (K.1 + 26)), (2, .int a2)] [] (xf K x y) 0 0 := by
  intro n
  induction n with
  | zero => intro x a2 h; cases h
  | succ n ih =>
    intro x a2 h
    rw [f_X6_advance_99] at h
    refine v_iload_n F (dq dkX6_advance_1 9 rfl) rfl 1 rfl ?_
    refine v_sipush F (v := 160) (dq dkX6_advance_1 10 rfl) ks_160 ?_
    refine v_icmp_ge F (tgt := 136) (dq dkX6_advance_1 11 rfl) (by decide) (fun c11 => ?_) (fun c11 => ?_)
    · rw [if_pos c11] at h
      refine v_sub [0] rfl ?_
      exact t_X6_advance_136 x h F E
    · rw [if_neg c11] at h
      refine v_aload_n F (dq dkX6_advance_1 12 rfl) rfl 0 rfl ?_
      refine v_aload_n F (dq dkX6_advance_1 13 rfl) rfl 0 rfl ?_
      refine v_get F 26 (xn (by decide)) xc_26 rfl inlX6 7 (by decide) (tc4 _ (List.mem_of_getElem? (i := 3) rfl)) rfl rfl (dq dkX6_advance_1 14 rfl) ?_
      obtain ⟨r12, e13, h⟩ := bd_of h
      refine v_callV 1 F (q := 26) (kc1 := 0) (ks1 := 0) (as := [.int (gi x 26 7)]) (st := []) (st1 := (.int r12 :: [])) (res := (some (.int r12))) (c_X6_byteAt (l := C.2.1) x y (gi x 26 7) e13) (xn (by decide)) xc_26 rfl (tc8 _ (List.mem_of_getElem? (i := 8) rfl)) (tc8 _ (List.mem_of_getElem? (i := 9) rfl)) (tc8 _ (List.mem_of_getElem? (i := 10) rfl)) (tc1 _ (List.mem_of_getElem? (i := 23) rfl)) (tc8 _ (List.mem_of_getElem? (i := 11) rfl)) (by decide) rfl ⟨rfl, rfl, Nat.le_of_ble_eq_true rfl, Nat.le_of_ble_eq_true rfl⟩ ⟨Nat.le_of_ble_eq_true rfl, Nat.le_of_ble_eq_true rfl⟩ rfl (Nat.le_of_ble_eq_true rfl) rfl rfl rfl (dq dkX6_advance_1 15 rfl) ?_
      refine v_callS 1 F (kc1 := 0) (ks1 := 0) (as := [.int r12]) (st := []) (st1 := (.int (b2i (f_X6_isLetter r12)) :: [])) (res := (some (.int (b2i (f_X6_isLetter r12))))) (c_X6_isLetter (l := C.2.1) r12) (tc8 _ (List.mem_of_getElem? (i := 12) rfl)) (tc8 _ (List.mem_of_getElem? (i := 13) rfl)) (tc1 _ (List.mem_of_getElem? (i := 23) rfl)) (tc8 _ (List.mem_of_getElem? (i := 14) rfl)) (by decide) rfl ⟨rfl, rfl, Nat.le_of_ble_eq_true rfl, Nat.le_of_ble_eq_true rfl⟩ ⟨Nat.le_of_ble_eq_true rfl, Nat.le_of_ble_eq_true rfl⟩ rfl (Nat.le_of_ble_eq_true rfl) rfl rfl rfl (dq dkX6_advance_1 16 rfl) ?_
      refine v_if_eq F (tgt := 136) (dq dkX6_advance_1 17 rfl) (by decide) (fun c15 => ?_) (fun c15 => ?_)
      · rw [if_pos c15] at h
        refine v_sub [0] rfl ?_
        exact t_X6_advance_136 x h F E
      · rw [if_neg c15] at h
        refine v_aload_n F (dq dkX6_advance_1 18 rfl) rfl 0 rfl ?_
        refine v_dup F (dq dkX6_advance_1 19 rfl) rfl ?_
        refine v_get F 26 (xn (by decide)) xc_26 rfl inlX6 7 (by decide) (tc4 _ (List.mem_of_getElem? (i := 3) rfl)) rfl rfl (dq dkX6_advance_1 20 rfl) ?_
        refine v_iconst F (v := 1) (dq dkX6_advance_1 21 rfl) ki_1 ?_
        refine v_iadd F (dq dkX6_advance_1 22 rfl) ?_
        refine v_put F 26 (xn (by decide)) xc_26 rfl inlX6 tyX6_ok nmX6 7 (by decide) (tc4 _ (List.mem_of_getElem? (i := 3) rfl)) rfl rfl (tyX6_ok 7 (by decide)) rfl rfl (Nat.le_of_ble_eq_true rfl) (dq dkX6_advance_1 23 rfl) ?_
        refine v_eqM (xwC (q := 26) (j := 7) (v := (gi x 26 7) + 1) (by decide) rfl) ?_
        refine v_iinc F (v := a2 + 1) (ls' := [(2, .int (a2 + 1)), (0, .ref (K.1 + 26))]) (dq dkX6_advance_1 24 rfl) (j := 1) rfl (kv_add ki_1) (by decide) rfl ?_
        refine v_goto F (tgt := 99) (dq dkX6_advance_1 25 rfl) (by decide) ?_
        refine v_sub [1, 0] rfl ?_
        exact ih (pi x 26 7 ((gi x 26 7) + 1)) (a2 + 1) h
def f_X6_advance_59 (x : CS) : Option (CS) := (f_X6_byteAt (pi x 26 9 (gi x 26 7)) (gi (pi x 26 9 (gi x 26 7)) 26 7)).bind fun r16 => if 0 ≤ r16 then (if (b2i (f_X6_isLetter r16)) = 0 then (if (b2i (f_X6_isDigit r16)) = 0 then (if (b2i (f_X6_isSign r16)) = 0 then (f_X6_advance_275 (pi (pi x 26 9 (gi x 26 7)) 26 7 ((gi (pi x 26 9 (gi x 26 7)) 26 7) + 1)) 308) else (f_X6_advance_275 (pi (pi x 26 9 (gi x 26 7)) 26 7 ((gi (pi x 26 9 (gi x 26 7)) 26 7) + 1)) r16)) else (f_X6_advance_161 1000 (pi (pi x 26 9 (gi x 26 7)) 26 10 0) 0)) else (f_X6_advance_99 1000 (pi x 26 9 (gi x 26 7)) 0)) else (some (pi (pi x 26 9 (gi x 26 7)) 26 8 307))
set_option maxRecDepth 100000 in
set_option maxHeartbeats 4000000 in
theorem t_X6_advance_59 {C : Cx} {K : KE} {y : MS} {R : CS}  (x : CS) (h : f_X6_advance_59 x = some R) (F : Fx C RX6 cX6_advance 3 rm_X6_advance K) (E : CE C (xf K R y) none 0 0 none) : V C 59 [(0, .ref (K.1 + 26))] [] (xf K x y) 0 0 := by
  unfold f_X6_advance_59 at h
  refine v_aload_n F (dq dkX6_advance_0 29 rfl) rfl 0 rfl ?_
  refine v_aload_n F (dq dkX6_advance_0 30 rfl) rfl 0 rfl ?_
  refine v_get F 26 (xn (by decide)) xc_26 rfl inlX6 7 (by decide) (tc4 _ (List.mem_of_getElem? (i := 3) rfl)) rfl rfl (dq dkX6_advance_0 31 rfl) ?_
  refine v_put F 26 (xn (by decide)) xc_26 rfl inlX6 tyX6_ok nmX6 9 (by decide) (tc4 _ (List.mem_of_getElem? (i := 5) rfl)) rfl rfl (tyX6_ok 9 (by decide)) rfl rfl (Nat.le_of_ble_eq_true rfl) (dq dkX6_advance_0 32 rfl) ?_
  refine v_eqM (xwC (q := 26) (j := 9) (v := gi x 26 7) (by decide) rfl) ?_
  refine v_aload_n F (dq dkX6_advance_0 33 rfl) rfl 0 rfl ?_
  refine v_aload_n F (dq dkX6_advance_0 34 rfl) rfl 0 rfl ?_
  refine v_get F 26 (xn (by decide)) xc_26 rfl inlX6 7 (by decide) (tc4 _ (List.mem_of_getElem? (i := 3) rfl)) rfl rfl (dq dkX6_advance_0 35 rfl) ?_
  obtain ⟨r16, e17, h⟩ := bd_of h
  refine v_callV 1 F (q := 26) (kc1 := 0) (ks1 := 0) (as := [.int (gi (pi x 26 9 (gi x 26 7)) 26 7)]) (st := []) (st1 := (.int r16 :: [])) (res := (some (.int r16))) (c_X6_byteAt (l := C.2.1) (pi x 26 9 (gi x 26 7)) y (gi (pi x 26 9 (gi x 26 7)) 26 7) e17) (xn (by decide)) xc_26 rfl (tc8 _ (List.mem_of_getElem? (i := 8) rfl)) (tc8 _ (List.mem_of_getElem? (i := 9) rfl)) (tc8 _ (List.mem_of_getElem? (i := 10) rfl)) (tc1 _ (List.mem_of_getElem? (i := 23) rfl)) (tc8 _ (List.mem_of_getElem? (i := 11) rfl)) (by decide) rfl ⟨rfl, rfl, Nat.le_of_ble_eq_true rfl, Nat.le_of_ble_eq_true rfl⟩ ⟨Nat.le_of_ble_eq_true rfl, Nat.le_of_ble_eq_true rfl⟩ rfl (Nat.le_of_ble_eq_true rfl) rfl rfl rfl (dq dkX6_advance_0 36 rfl) ?_
  refine v_istore_n F (ls' := [(1, .int r16), (0, .ref (K.1 + 26))]) (dq dkX6_advance_0 37 rfl) rfl (by decide) rfl ?_
  refine v_iload_n F (dq dkX6_advance_0 38 rfl) rfl 0 rfl ?_
  refine v_if_ge F (tgt := 90) (dq dkX6_advance_0 39 rfl) (by decide) (fun c18 => ?_) (fun c18 => ?_)
  · rw [if_pos c18] at h
    refine v_iload_n F (dq dkX6_advance_1 4 rfl) rfl 0 rfl ?_
    refine v_callS 1 F (kc1 := 0) (ks1 := 0) (as := [.int r16]) (st := []) (st1 := (.int (b2i (f_X6_isLetter r16)) :: [])) (res := (some (.int (b2i (f_X6_isLetter r16))))) (c_X6_isLetter (l := C.2.1) r16) (tc8 _ (List.mem_of_getElem? (i := 12) rfl)) (tc8 _ (List.mem_of_getElem? (i := 13) rfl)) (tc1 _ (List.mem_of_getElem? (i := 23) rfl)) (tc8 _ (List.mem_of_getElem? (i := 14) rfl)) (by decide) rfl ⟨rfl, rfl, Nat.le_of_ble_eq_true rfl, Nat.le_of_ble_eq_true rfl⟩ ⟨Nat.le_of_ble_eq_true rfl, Nat.le_of_ble_eq_true rfl⟩ rfl (Nat.le_of_ble_eq_true rfl) rfl rfl rfl (dq dkX6_advance_1 5 rfl) ?_
    refine v_if_eq F (tgt := 147) (dq dkX6_advance_1 6 rfl) (by decide) (fun c20 => ?_) (fun c20 => ?_)
    · rw [if_pos c20] at h
      refine v_iload_n F (dq dkX6_advance_1 31 rfl) rfl 0 rfl ?_
      refine v_callS 1 F (kc1 := 0) (ks1 := 0) (as := [.int r16]) (st := []) (st1 := (.int (b2i (f_X6_isDigit r16)) :: [])) (res := (some (.int (b2i (f_X6_isDigit r16))))) (c_X6_isDigit (l := C.2.1) r16) (tc9 _ (List.mem_of_getElem? (i := 3) rfl)) (tc9 _ (List.mem_of_getElem? (i := 4) rfl)) (tc1 _ (List.mem_of_getElem? (i := 23) rfl)) (tc9 _ (List.mem_of_getElem? (i := 5) rfl)) (by decide) rfl ⟨rfl, rfl, Nat.le_of_ble_eq_true rfl, Nat.le_of_ble_eq_true rfl⟩ ⟨Nat.le_of_ble_eq_true rfl, Nat.le_of_ble_eq_true rfl⟩ rfl (Nat.le_of_ble_eq_true rfl) rfl rfl rfl (dq dkX6_advance_1 32 rfl) ?_
      refine v_if_eq F (tgt := 250) (dq dkX6_advance_1 33 rfl) (by decide) (fun c22 => ?_) (fun c22 => ?_)
      · rw [if_pos c22] at h
        refine v_aload_n F (dq dkX6_advance_3 2 rfl) rfl 1 rfl ?_
        refine v_dup F (dq dkX6_advance_3 3 rfl) rfl ?_
        refine v_get F 26 (xn (by decide)) xc_26 rfl inlX6 7 (by decide) (tc4 _ (List.mem_of_getElem? (i := 3) rfl)) rfl rfl (dq dkX6_advance_3 4 rfl) ?_
        refine v_iconst F (v := 1) (dq dkX6_advance_3 5 rfl) ki_1 ?_
        refine v_iadd F (dq dkX6_advance_3 6 rfl) ?_
        refine v_put F 26 (xn (by decide)) xc_26 rfl inlX6 tyX6_ok nmX6 7 (by decide) (tc4 _ (List.mem_of_getElem? (i := 3) rfl)) rfl rfl (tyX6_ok 7 (by decide)) rfl rfl (Nat.le_of_ble_eq_true rfl) (dq dkX6_advance_3 7 rfl) ?_
        refine v_eqM (xwC (q := 26) (j := 7) (v := (gi (pi x 26 9 (gi x 26 7)) 26 7) + 1) (by decide) rfl) ?_
        refine v_aload_n F (dq dkX6_advance_3 8 rfl) rfl 1 rfl ?_
        refine v_iload_n F (dq dkX6_advance_3 9 rfl) rfl 0 rfl ?_
        refine v_callS 1 F (kc1 := 0) (ks1 := 0) (as := [.int r16]) (st := [.ref (K.1 + 26)]) (st1 := (.int (b2i (f_X6_isSign r16)) :: [.ref (K.1 + 26)])) (res := (some (.int (b2i (f_X6_isSign r16))))) (c_X6_isSign (l := C.2.1) r16) (tc9 _ (List.mem_of_getElem? (i := 6) rfl)) (tc9 _ (List.mem_of_getElem? (i := 7) rfl)) (tc1 _ (List.mem_of_getElem? (i := 23) rfl)) (tc9 _ (List.mem_of_getElem? (i := 8) rfl)) (by decide) rfl ⟨rfl, rfl, Nat.le_of_ble_eq_true rfl, Nat.le_of_ble_eq_true rfl⟩ ⟨Nat.le_of_ble_eq_true rfl, Nat.le_of_ble_eq_true rfl⟩ rfl (Nat.le_of_ble_eq_true rfl) rfl rfl rfl (dq dkX6_advance_3 10 rfl) ?_
        refine v_if_eq F (tgt := 272) (dq dkX6_advance_3 11 rfl) (by decide) (fun c24 => ?_) (fun c24 => ?_)
        · rw [if_pos c24] at h
          refine v_sipush F (v := 308) (dq dkX6_advance_3 14 rfl) ks_308 ?_
          refine v_sub [] rfl ?_
          exact t_X6_advance_275 (pi (pi x 26 9 (gi x 26 7)) 26 7 ((gi (pi x 26 9 (gi x 26 7)) 26 7) + 1)) 308 h F E
        · rw [if_neg c24] at h
          refine v_iload_n F (dq dkX6_advance_3 12 rfl) rfl 0 rfl ?_
          refine v_goto F (tgt := 275) (dq dkX6_advance_3 13 rfl) (by decide) ?_
          refine v_sub [] rfl ?_
          exact t_X6_advance_275 (pi (pi x 26 9 (gi x 26 7)) 26 7 ((gi (pi x 26 9 (gi x 26 7)) 26 7) + 1)) r16 h F E
      · rw [if_neg c22] at h
        refine v_aload_n F (dq dkX6_advance_1 34 rfl) rfl 1 rfl ?_
        refine v_iconst F (v := 0) (dq dkX6_advance_1 35 rfl) ki_0 ?_
        refine v_put F 26 (xn (by decide)) xc_26 rfl inlX6 tyX6_ok nmX6 10 (by decide) (tc4 _ (List.mem_of_getElem? (i := 6) rfl)) rfl rfl (tyX6_ok 10 (by decide)) rfl rfl (Nat.le_of_ble_eq_true rfl) (dq dkX6_advance_1 36 rfl) ?_
        refine v_eqM (xwC (q := 26) (j := 10) (v := 0) (by decide) rfl) ?_
        refine v_iconst F (v := 0) (dq dkX6_advance_1 37 rfl) ki_0 ?_
        refine v_istore_n F (ls' := [(2, .int 0), (1, .int r16), (0, .ref (K.1 + 26))]) (dq dkX6_advance_1 38 rfl) rfl (by decide) rfl ?_
        refine v_sub [2, 0] rfl ?_
        exact t_X6_advance_161 F E 1000 (pi (pi x 26 9 (gi x 26 7)) 26 10 0) 0 h
    · rw [if_neg c20] at h
      refine v_iconst F (v := 0) (dq dkX6_advance_1 7 rfl) ki_0 ?_
      refine v_istore_n F (ls' := [(2, .int 0), (1, .int r16), (0, .ref (K.1 + 26))]) (dq dkX6_advance_1 8 rfl) rfl (by decide) rfl ?_
      refine v_sub [2, 0] rfl ?_
      exact t_X6_advance_99 F E 1000 (pi x 26 9 (gi x 26 7)) 0 h
  · rw [if_neg c18] at h
    refine v_aload_n F (dq dkX6_advance_1 0 rfl) rfl 1 rfl ?_
    refine v_sipush F (v := 307) (dq dkX6_advance_1 1 rfl) ks_307 ?_
    refine v_put F 26 (xn (by decide)) xc_26 rfl inlX6 tyX6_ok nmX6 8 (by decide) (tc4 _ (List.mem_of_getElem? (i := 4) rfl)) rfl rfl (tyX6_ok 8 (by decide)) rfl rfl (Nat.le_of_ble_eq_true rfl) (dq dkX6_advance_1 2 rfl) ?_
    refine v_eqM (xwC (q := 26) (j := 8) (v := 307) (by decide) rfl) ?_
    refine v_goto F (tgt := 278) (dq dkX6_advance_1 3 rfl) (by decide) ?_
    have h := Option.some.inj h
    subst h
    exact v_vret F E (dq dkX6_advance_3 16 rfl)
def f_X6_advance_43 (k10 : CS → Int32 → Option (CS)) (x : CS) (a1 : Int32) : Option (CS) := k10 (pi x 26 7 ((gi x 26 7) + 1)) (a1 + 1)
set_option maxRecDepth 100000 in
set_option maxHeartbeats 4000000 in
theorem t_X6_advance_43 {C : Cx} {K : KE} {y : MS} {R : CS}  (k10 : CS → Int32 → Option (CS)) (x : CS) (a1 : Int32) (hk10 : ∀ (x : CS) (a1 : Int32), k10 x a1 = some R → V C 10 [(0, .ref (K.1 + 26)), (1, .int a1)] [] (xf K x y) 0 0) (h : f_X6_advance_43 k10 x a1 = some R) (F : Fx C RX6 cX6_advance 3 rm_X6_advance K) (E : CE C (xf K R y) none 0 0 none) : V C 43 [(0, .ref (K.1 + 26)), (1, .int a1)] [] (xf K x y) 0 0 := by
  unfold f_X6_advance_43 at h
  refine v_aload_n F (dq dkX6_advance_0 21 rfl) rfl 0 rfl ?_
  refine v_dup F (dq dkX6_advance_0 22 rfl) rfl ?_
  refine v_get F 26 (xn (by decide)) xc_26 rfl inlX6 7 (by decide) (tc4 _ (List.mem_of_getElem? (i := 3) rfl)) rfl rfl (dq dkX6_advance_0 23 rfl) ?_
  refine v_iconst F (v := 1) (dq dkX6_advance_0 24 rfl) ki_1 ?_
  refine v_iadd F (dq dkX6_advance_0 25 rfl) ?_
  refine v_put F 26 (xn (by decide)) xc_26 rfl inlX6 tyX6_ok nmX6 7 (by decide) (tc4 _ (List.mem_of_getElem? (i := 3) rfl)) rfl rfl (tyX6_ok 7 (by decide)) rfl rfl (Nat.le_of_ble_eq_true rfl) (dq dkX6_advance_0 26 rfl) ?_
  refine v_eqM (xwC (q := 26) (j := 7) (v := (gi x 26 7) + 1) (by decide) rfl) ?_
  refine v_iinc F (v := a1 + 1) (ls' := [(1, .int (a1 + 1)), (0, .ref (K.1 + 26))]) (dq dkX6_advance_0 27 rfl) (j := 1) rfl (kv_add ki_1) (by decide) rfl ?_
  refine v_goto F (tgt := 10) (dq dkX6_advance_0 28 rfl) (by decide) ?_
  refine v_sub [1, 0] rfl ?_
  exact hk10 (pi x 26 7 ((gi x 26 7) + 1)) (a1 + 1) h
def f_X6_advance_10 : Nat → CS → Int32 → Option (CS)
  | 0, _, _ => none
  | n + 1, x, a1 => if 160 ≤ a1 then (f_X6_advance_59 x) else ((f_X6_byteAt x (gi x 26 7)).bind fun r26 => if r26 = 32 then (f_X6_advance_43 (f_X6_advance_10 n) x a1) else ((f_X6_byteAt x (gi x 26 7)).bind fun r29 => if r29 = 10 then (f_X6_advance_43 (f_X6_advance_10 n) x a1) else (f_X6_advance_59 x)))
set_option maxRecDepth 100000 in
set_option maxHeartbeats 4000000 in
theorem t_X6_advance_10 {C : Cx} {K : KE} {y : MS} {R : CS}  (F : Fx C RX6 cX6_advance 3 rm_X6_advance K) (E : CE C (xf K R y) none 0 0 none) : ∀ (n : Nat) (x : CS) (a1 : Int32) (h : f_X6_advance_10 n x a1 = some R), V C 10 [(0, .ref (K.1 + 26)), (1, .int a1)] [] (xf K x y) 0 0 := by
  intro n
  induction n with
  | zero => intro x a1 h; cases h
  | succ n ih =>
    intro x a1 h
    rw [f_X6_advance_10] at h
    refine v_iload_n F (dq dkX6_advance_0 6 rfl) rfl 1 rfl ?_
    refine v_sipush F (v := 160) (dq dkX6_advance_0 7 rfl) ks_160 ?_
    refine v_icmp_ge F (tgt := 59) (dq dkX6_advance_0 8 rfl) (by decide) (fun c25 => ?_) (fun c25 => ?_)
    · rw [if_pos c25] at h
      refine v_sub [0] rfl ?_
      exact t_X6_advance_59 x h F E
    · rw [if_neg c25] at h
      refine v_aload_n F (dq dkX6_advance_0 9 rfl) rfl 0 rfl ?_
      refine v_aload_n F (dq dkX6_advance_0 10 rfl) rfl 0 rfl ?_
      refine v_get F 26 (xn (by decide)) xc_26 rfl inlX6 7 (by decide) (tc4 _ (List.mem_of_getElem? (i := 3) rfl)) rfl rfl (dq dkX6_advance_0 11 rfl) ?_
      obtain ⟨r26, e27, h⟩ := bd_of h
      refine v_callV 1 F (q := 26) (kc1 := 0) (ks1 := 0) (as := [.int (gi x 26 7)]) (st := []) (st1 := (.int r26 :: [])) (res := (some (.int r26))) (c_X6_byteAt (l := C.2.1) x y (gi x 26 7) e27) (xn (by decide)) xc_26 rfl (tc8 _ (List.mem_of_getElem? (i := 8) rfl)) (tc8 _ (List.mem_of_getElem? (i := 9) rfl)) (tc8 _ (List.mem_of_getElem? (i := 10) rfl)) (tc1 _ (List.mem_of_getElem? (i := 23) rfl)) (tc8 _ (List.mem_of_getElem? (i := 11) rfl)) (by decide) rfl ⟨rfl, rfl, Nat.le_of_ble_eq_true rfl, Nat.le_of_ble_eq_true rfl⟩ ⟨Nat.le_of_ble_eq_true rfl, Nat.le_of_ble_eq_true rfl⟩ rfl (Nat.le_of_ble_eq_true rfl) rfl rfl rfl (dq dkX6_advance_0 12 rfl) ?_
      refine v_bipush F (v := 32) (dq dkX6_advance_0 13 rfl) kb_32 ?_
      refine v_icmp_eq F (tgt := 43) (dq dkX6_advance_0 14 rfl) (by decide) (fun c28 => ?_) (fun c28 => ?_)
      · rw [if_pos c28] at h
        exact t_X6_advance_43 (f_X6_advance_10 n) x a1 ih h F E
      · rw [if_neg c28] at h
        refine v_aload_n F (dq dkX6_advance_0 15 rfl) rfl 0 rfl ?_
        refine v_aload_n F (dq dkX6_advance_0 16 rfl) rfl 0 rfl ?_
        refine v_get F 26 (xn (by decide)) xc_26 rfl inlX6 7 (by decide) (tc4 _ (List.mem_of_getElem? (i := 3) rfl)) rfl rfl (dq dkX6_advance_0 17 rfl) ?_
        obtain ⟨r29, e30, h⟩ := bd_of h
        refine v_callV 1 F (q := 26) (kc1 := 0) (ks1 := 0) (as := [.int (gi x 26 7)]) (st := []) (st1 := (.int r29 :: [])) (res := (some (.int r29))) (c_X6_byteAt (l := C.2.1) x y (gi x 26 7) e30) (xn (by decide)) xc_26 rfl (tc8 _ (List.mem_of_getElem? (i := 8) rfl)) (tc8 _ (List.mem_of_getElem? (i := 9) rfl)) (tc8 _ (List.mem_of_getElem? (i := 10) rfl)) (tc1 _ (List.mem_of_getElem? (i := 23) rfl)) (tc8 _ (List.mem_of_getElem? (i := 11) rfl)) (by decide) rfl ⟨rfl, rfl, Nat.le_of_ble_eq_true rfl, Nat.le_of_ble_eq_true rfl⟩ ⟨Nat.le_of_ble_eq_true rfl, Nat.le_of_ble_eq_true rfl⟩ rfl (Nat.le_of_ble_eq_true rfl) rfl rfl rfl (dq dkX6_advance_0 18 rfl) ?_
        refine v_bipush F (v := 10) (dq dkX6_advance_0 19 rfl) kb_10 ?_
        refine v_icmp_ne F (tgt := 59) (dq dkX6_advance_0 20 rfl) (by decide) (fun c31 => ?_) (fun c31 => ?_)
        · rw [if_neg c31] at h
          refine v_sub [0] rfl ?_
          exact t_X6_advance_59 x h F E
        · rw [if_pos c31] at h
          exact t_X6_advance_43 (f_X6_advance_10 n) x a1 ih h F E
def f_X6_advance (x : CS) : Option (CS) := if (gi x 26 5) < 0 then (f_X6_advance_10 1000 x 0) else (some x)
set_option maxRecDepth 100000 in
set_option maxHeartbeats 4000000 in
theorem c_X6_advance {K : KE} {l : Launch} {R : CS} (x : CS) (y : MS) (h : f_X6_advance x = some R) : MC K l yX6_advance cX6_advance 3 none rm_X6_advance 0 0 [.ref (K.1 + 26)] (xf K x y) (xf K R y) none := by
  unfold f_X6_advance at h
  refine mc_of (ls0 := [(0, .ref (K.1 + 26))]) (by decide) (Nat.le_of_ble_eq_true rfl) rfl (fun C hl hnm F E => ?_)
  have F : Fx C RX6 cX6_advance 3 rm_X6_advance K := F
  refine v_aload_n F (dq dkX6_advance_0 0 rfl) rfl 0 rfl ?_
  refine v_get F 26 (xn (by decide)) xc_26 rfl inlX6 5 (by decide) (tc4 _ (List.mem_of_getElem? (i := 1) rfl)) rfl rfl (dq dkX6_advance_0 1 rfl) ?_
  refine v_if_lt F (tgt := 8) (dq dkX6_advance_0 2 rfl) (by decide) (fun c32 => ?_) (fun c32 => ?_)
  · rw [if_pos c32] at h
    refine v_iconst F (v := 0) (dq dkX6_advance_0 4 rfl) ki_0 ?_
    refine v_istore_n F (ls' := [(1, .int 0), (0, .ref (K.1 + 26))]) (dq dkX6_advance_0 5 rfl) rfl (by decide) rfl ?_
    refine v_sub [1, 0] rfl ?_
    exact t_X6_advance_10 F E 1000 x 0 h
  · rw [if_neg c32] at h
    have h := Option.some.inj h
    subst h
    exact v_vret F E (dq dkX6_advance_0 3 rfl)
def rm_X6_fail : Room := { frames := 1, cells := 0, slots := 0, locals := 30 }
def f_X6_fail (x : CS) : CS := if 0 ≤ (gi x 26 5) then x else (pi x 26 5 (gi x 26 9))
set_option maxRecDepth 100000 in
set_option maxHeartbeats 4000000 in
theorem c_X6_fail {K : KE} {l : Launch} (x : CS) (y : MS) : MC K l yX6_fail cX6_fail 1 none rm_X6_fail 0 0 [.ref (K.1 + 26)] (xf K x y) (xf K (f_X6_fail x) y) none := by
  obtain ⟨R, h⟩ : ∃ R, f_X6_fail x = R := ⟨_, rfl⟩
  rw [h]
  unfold f_X6_fail at h
  refine mc_of (ls0 := [(0, .ref (K.1 + 26))]) (by decide) (Nat.le_of_ble_eq_true rfl) rfl (fun C hl hnm F E => ?_)
  have F : Fx C RX6 cX6_fail 1 rm_X6_fail K := F
  refine v_aload_n F (dq dkX6_fail_0 0 rfl) rfl 0 rfl ?_
  refine v_get F 26 (xn (by decide)) xc_26 rfl inlX6 5 (by decide) (tc4 _ (List.mem_of_getElem? (i := 1) rfl)) rfl rfl (dq dkX6_fail_0 1 rfl) ?_
  refine v_if_ge F (tgt := 15) (dq dkX6_fail_0 2 rfl) (by decide) (fun c1 => ?_) (fun c1 => ?_)
  · rw [if_pos c1] at h
    subst h
    exact v_vret F E (dq dkX6_fail_0 7 rfl)
  · rw [if_neg c1] at h
    refine v_aload_n F (dq dkX6_fail_0 3 rfl) rfl 0 rfl ?_
    refine v_aload_n F (dq dkX6_fail_0 4 rfl) rfl 0 rfl ?_
    refine v_get F 26 (xn (by decide)) xc_26 rfl inlX6 9 (by decide) (tc4 _ (List.mem_of_getElem? (i := 5) rfl)) rfl rfl (dq dkX6_fail_0 5 rfl) ?_
    refine v_put F 26 (xn (by decide)) xc_26 rfl inlX6 tyX6_ok nmX6 5 (by decide) (tc4 _ (List.mem_of_getElem? (i := 1) rfl)) rfl rfl (tyX6_ok 5 (by decide)) rfl rfl (Nat.le_of_ble_eq_true rfl) (dq dkX6_fail_0 6 rfl) ?_
    refine v_eqM (xwC (q := 26) (j := 5) (v := gi x 26 9) (by decide) rfl) ?_
    subst h
    exact v_vret F E (dq dkX6_fail_0 7 rfl)
def rm_X6_expect : Room := { frames := 8, cells := 0, slots := 0, locals := 264 }
def f_X6_expect (x : CS) (a1 : Int32) : Option (CS) := if (gi x 26 8) = a1 then ((f_X6_advance x).bind fun r3 => some r3) else (some (f_X6_fail x))
set_option maxRecDepth 100000 in
set_option maxHeartbeats 4000000 in
theorem c_X6_expect {K : KE} {l : Launch} {R : CS} (x : CS) (y : MS) (a1 : Int32) (h : f_X6_expect x a1 = some R) : MC K l yX6_expect cX6_expect 2 none rm_X6_expect 0 0 [.ref (K.1 + 26), .int a1] (xf K x y) (xf K R y) none := by
  unfold f_X6_expect at h
  refine mc_of (ls0 := [(0, .ref (K.1 + 26)), (1, .int a1)]) (by decide) (Nat.le_of_ble_eq_true rfl) rfl (fun C hl hnm F E => ?_)
  have F : Fx C RX6 cX6_expect 2 rm_X6_expect K := F
  refine v_aload_n F (dq dkX6_expect_0 0 rfl) rfl 0 rfl ?_
  refine v_get F 26 (xn (by decide)) xc_26 rfl inlX6 8 (by decide) (tc4 _ (List.mem_of_getElem? (i := 4) rfl)) rfl rfl (dq dkX6_expect_0 1 rfl) ?_
  refine v_iload_n F (dq dkX6_expect_0 2 rfl) rfl 1 rfl ?_
  refine v_icmp_ne F (tgt := 15) (dq dkX6_expect_0 3 rfl) (by decide) (fun c1 => ?_) (fun c1 => ?_)
  · rw [if_neg c1] at h
    refine v_aload_n F (dq dkX6_expect_0 7 rfl) rfl 0 rfl ?_
    refine v_callV 0 F (q := 26) (kc1 := 0) (ks1 := 0) (as := []) (st := []) (st1 := []) (res := none) (c_X6_fail (l := C.2.1) x y) (xn (by decide)) xc_26 rfl (tc9 _ (List.mem_of_getElem? (i := 13) rfl)) (tc9 _ (List.mem_of_getElem? (i := 14) rfl)) (tc9 _ (List.mem_of_getElem? (i := 15) rfl)) (tc1 _ (List.mem_of_getElem? (i := 23) rfl)) (tc9 _ (List.mem_of_getElem? (i := 16) rfl)) (by decide) rfl ⟨rfl, rfl, Nat.le_of_ble_eq_true rfl, Nat.le_of_ble_eq_true rfl⟩ ⟨Nat.le_of_ble_eq_true rfl, Nat.le_of_ble_eq_true rfl⟩ rfl (Nat.le_of_ble_eq_true rfl) rfl rfl rfl (dq dkX6_expect_0 8 rfl) ?_
    have h := Option.some.inj h
    subst h
    exact v_vret F E (dq dkX6_expect_0 9 rfl)
  · rw [if_pos c1] at h
    refine v_aload_n F (dq dkX6_expect_0 4 rfl) rfl 0 rfl ?_
    obtain ⟨r3, e4, h⟩ := bd_of h
    refine v_callV 0 F (q := 26) (kc1 := 0) (ks1 := 0) (as := []) (st := []) (st1 := []) (res := none) (c_X6_advance (l := C.2.1) x y e4) (xn (by decide)) xc_26 rfl (tc8 _ (List.mem_of_getElem? (i := 4) rfl)) (tc8 _ (List.mem_of_getElem? (i := 5) rfl)) (tc8 _ (List.mem_of_getElem? (i := 6) rfl)) (tc1 _ (List.mem_of_getElem? (i := 23) rfl)) (tc8 _ (List.mem_of_getElem? (i := 7) rfl)) (by decide) rfl ⟨rfl, rfl, Nat.le_of_ble_eq_true rfl, Nat.le_of_ble_eq_true rfl⟩ ⟨Nat.le_of_ble_eq_true rfl, Nat.le_of_ble_eq_true rfl⟩ rfl (Nat.le_of_ble_eq_true rfl) rfl rfl rfl (dq dkX6_expect_0 5 rfl) ?_
    refine v_goto F (tgt := 19) (dq dkX6_expect_0 6 rfl) (by decide) ?_
    have h := Option.some.inj h
    subst h
    exact v_vret F E (dq dkX6_expect_0 9 rfl)
def rm_X6_emit : Room := { frames := 1, cells := 0, slots := 0, locals := 30 }
def f_X6_emit (x : CS) (a1 : Int32) : Option (CS) := if 0 ≤ (gi x 26 5) then (some x) else (if 160 ≤ (gi x 26 4) then (some x) else (gd (ib (gi x 26 4) 160) (some (pi (pi x 28 ((gi x 26 4).toNatClampNeg) a1) 26 4 ((gi (pi x 28 ((gi x 26 4).toNatClampNeg) a1) 26 4) + 1)))))
set_option maxRecDepth 100000 in
set_option maxHeartbeats 4000000 in
theorem c_X6_emit {K : KE} {l : Launch} {R : CS} (x : CS) (y : MS) (a1 : Int32) (h : f_X6_emit x a1 = some R) : MC K l yX6_emit cX6_emit 2 none rm_X6_emit 0 0 [.ref (K.1 + 26), .int a1] (xf K x y) (xf K R y) none := by
  unfold f_X6_emit at h
  refine mc_of (ls0 := [(0, .ref (K.1 + 26)), (1, .int a1)]) (by decide) (Nat.le_of_ble_eq_true rfl) rfl (fun C hl hnm F E => ?_)
  have F : Fx C RX6 cX6_emit 2 rm_X6_emit K := F
  refine v_aload_n F (dq dkX6_emit_0 0 rfl) rfl 0 rfl ?_
  refine v_get F 26 (xn (by decide)) xc_26 rfl inlX6 5 (by decide) (tc4 _ (List.mem_of_getElem? (i := 1) rfl)) rfl rfl (dq dkX6_emit_0 1 rfl) ?_
  refine v_if_ge F (tgt := 37) (dq dkX6_emit_0 2 rfl) (by decide) (fun c1 => ?_) (fun c1 => ?_)
  · rw [if_pos c1] at h
    have h := Option.some.inj h
    subst h
    exact v_vret F E (dq dkX6_emit_0 19 rfl)
  · rw [if_neg c1] at h
    refine v_aload_n F (dq dkX6_emit_0 3 rfl) rfl 0 rfl ?_
    refine v_get F 26 (xn (by decide)) xc_26 rfl inlX6 4 (by decide) (tc4 _ (List.mem_of_getElem? (i := 0) rfl)) rfl rfl (dq dkX6_emit_0 4 rfl) ?_
    refine v_sipush F (v := 160) (dq dkX6_emit_0 5 rfl) ks_160 ?_
    refine v_icmp_ge F (tgt := 37) (dq dkX6_emit_0 6 rfl) (by decide) (fun c2 => ?_) (fun c2 => ?_)
    · rw [if_pos c2] at h
      have h := Option.some.inj h
      subst h
      exact v_vret F E (dq dkX6_emit_0 19 rfl)
    · rw [if_neg c2] at h
      refine v_aload_n F (dq dkX6_emit_0 7 rfl) rfl 0 rfl ?_
      refine v_get F 26 (xn (by decide)) xc_26 rfl inlX6 2 (by decide) (tc3 _ (List.mem_of_getElem? (i := 22) rfl)) rfl rfl (dq dkX6_emit_0 8 rfl) ?_
      refine v_aload_n F (dq dkX6_emit_0 9 rfl) rfl 0 rfl ?_
      refine v_get F 26 (xn (by decide)) xc_26 rfl inlX6 4 (by decide) (tc4 _ (List.mem_of_getElem? (i := 0) rfl)) rfl rfl (dq dkX6_emit_0 10 rfl) ?_
      refine v_iload_n F (dq dkX6_emit_0 11 rfl) rfl 1 rfl ?_
      obtain ⟨g3, h⟩ := gd_of h
      refine v_iast F 28 (xn (by decide)) xc_28 (ib_in g3) (dq dkX6_emit_0 12 rfl) ?_
      refine v_eqM (xwC (q := 28) (j := (gi x 26 4).toNatClampNeg) (v := a1) (by decide) rfl) ?_
      refine v_aload_n F (dq dkX6_emit_0 13 rfl) rfl 0 rfl ?_
      refine v_dup F (dq dkX6_emit_0 14 rfl) rfl ?_
      refine v_get F 26 (xn (by decide)) xc_26 rfl inlX6 4 (by decide) (tc4 _ (List.mem_of_getElem? (i := 0) rfl)) rfl rfl (dq dkX6_emit_0 15 rfl) ?_
      refine v_iconst F (v := 1) (dq dkX6_emit_0 16 rfl) ki_1 ?_
      refine v_iadd F (dq dkX6_emit_0 17 rfl) ?_
      refine v_put F 26 (xn (by decide)) xc_26 rfl inlX6 tyX6_ok nmX6 4 (by decide) (tc4 _ (List.mem_of_getElem? (i := 0) rfl)) rfl rfl (tyX6_ok 4 (by decide)) rfl rfl (Nat.le_of_ble_eq_true rfl) (dq dkX6_emit_0 18 rfl) ?_
      refine v_eqM (xwC (q := 26) (j := 4) (v := (gi (pi x 28 ((gi x 26 4).toNatClampNeg) a1) 26 4) + 1) (by decide) rfl) ?_
      have h := Option.some.inj h
      subst h
      exact v_vret F E (dq dkX6_emit_0 19 rfl)
def rm_X6_opens : Room := { frames := 2, cells := 0, slots := 0, locals := 50 }
def f_X6_opens_12 (x : CS) : Bool × CS := if (gi x 26 5) < 0 then ((true, pi x 26 6 ((gi x 26 6) + 1))) else ((false, x))
set_option maxRecDepth 100000 in
set_option maxHeartbeats 4000000 in
theorem t_X6_opens_12 {C : Cx} {K : KE} {y : MS} {R : Bool × CS}  (x : CS) (h : f_X6_opens_12 x = R) (F : Fx C RX6 cX6_opens 1 rm_X6_opens K) (E : CE C (xf K R.2 y) (some (.int (b2i R.1))) 0 0 (some .boolean)) : V C 12 [(0, .ref (K.1 + 26))] [] (xf K x y) 0 0 := by
  unfold f_X6_opens_12 at h
  refine v_aload_n F (dq dkX6_opens_0 6 rfl) rfl 0 rfl ?_
  refine v_get F 26 (xn (by decide)) xc_26 rfl inlX6 5 (by decide) (tc4 _ (List.mem_of_getElem? (i := 1) rfl)) rfl rfl (dq dkX6_opens_0 7 rfl) ?_
  refine v_if_lt F (tgt := 21) (dq dkX6_opens_0 8 rfl) (by decide) (fun c1 => ?_) (fun c1 => ?_)
  · rw [if_pos c1] at h
    refine v_aload_n F (dq dkX6_opens_0 11 rfl) rfl 0 rfl ?_
    refine v_dup F (dq dkX6_opens_0 12 rfl) rfl ?_
    refine v_get F 26 (xn (by decide)) xc_26 rfl inlX6 6 (by decide) (tc4 _ (List.mem_of_getElem? (i := 2) rfl)) rfl rfl (dq dkX6_opens_0 13 rfl) ?_
    refine v_iconst F (v := 1) (dq dkX6_opens_0 14 rfl) ki_1 ?_
    refine v_iadd F (dq dkX6_opens_0 15 rfl) ?_
    refine v_put F 26 (xn (by decide)) xc_26 rfl inlX6 tyX6_ok nmX6 6 (by decide) (tc4 _ (List.mem_of_getElem? (i := 2) rfl)) rfl rfl (tyX6_ok 6 (by decide)) rfl rfl (Nat.le_of_ble_eq_true rfl) (dq dkX6_opens_0 16 rfl) ?_
    refine v_eqM (xwC (q := 26) (j := 6) (v := (gi x 26 6) + 1) (by decide) rfl) ?_
    refine v_iconst F (v := 1) (dq dkX6_opens_0 17 rfl) ki_1 ?_
    subst h
    exact v_zret F E (b2i_n true) (dq dkX6_opens_0 18 rfl)
  · rw [if_neg c1] at h
    refine v_iconst F (v := 0) (dq dkX6_opens_0 9 rfl) ki_0 ?_
    subst h
    exact v_zret F E (b2i_n false) (dq dkX6_opens_0 10 rfl)
def f_X6_opens (x : CS) : Bool × CS := if (gi x 26 6) < 5 then (f_X6_opens_12 x) else (f_X6_opens_12 (f_X6_fail x))
set_option maxRecDepth 100000 in
set_option maxHeartbeats 4000000 in
theorem c_X6_opens {K : KE} {l : Launch} (x : CS) (y : MS) : MC K l yX6_opens cX6_opens 1 (some .boolean) rm_X6_opens 0 0 [.ref (K.1 + 26)] (xf K x y) (xf K ((f_X6_opens x).2) y) (some (.int (b2i (f_X6_opens x).1))) := by
  obtain ⟨R, h⟩ : ∃ R, f_X6_opens x = R := ⟨_, rfl⟩
  rw [h]
  unfold f_X6_opens at h
  refine mc_of (ls0 := [(0, .ref (K.1 + 26))]) (by decide) (Nat.le_of_ble_eq_true rfl) rfl (fun C hl hnm F E => ?_)
  have F : Fx C RX6 cX6_opens 1 rm_X6_opens K := F
  refine v_aload_n F (dq dkX6_opens_0 0 rfl) rfl 0 rfl ?_
  refine v_get F 26 (xn (by decide)) xc_26 rfl inlX6 6 (by decide) (tc4 _ (List.mem_of_getElem? (i := 2) rfl)) rfl rfl (dq dkX6_opens_0 1 rfl) ?_
  refine v_iconst F (v := 5) (dq dkX6_opens_0 2 rfl) ki_5 ?_
  refine v_icmp_lt F (tgt := 12) (dq dkX6_opens_0 3 rfl) (by decide) (fun c2 => ?_) (fun c2 => ?_)
  · rw [if_pos c2] at h
    exact t_X6_opens_12 x h F E
  · rw [if_neg c2] at h
    refine v_aload_n F (dq dkX6_opens_0 4 rfl) rfl 0 rfl ?_
    refine v_callV 0 F (q := 26) (kc1 := 0) (ks1 := 0) (as := []) (st := []) (st1 := []) (res := none) (c_X6_fail (l := C.2.1) x y) (xn (by decide)) xc_26 rfl (tc9 _ (List.mem_of_getElem? (i := 13) rfl)) (tc9 _ (List.mem_of_getElem? (i := 14) rfl)) (tc9 _ (List.mem_of_getElem? (i := 15) rfl)) (tc1 _ (List.mem_of_getElem? (i := 23) rfl)) (tc9 _ (List.mem_of_getElem? (i := 16) rfl)) (by decide) rfl ⟨rfl, rfl, Nat.le_of_ble_eq_true rfl, Nat.le_of_ble_eq_true rfl⟩ ⟨Nat.le_of_ble_eq_true rfl, Nat.le_of_ble_eq_true rfl⟩ rfl (Nat.le_of_ble_eq_true rfl) rfl rfl rfl (dq dkX6_opens_0 5 rfl) ?_
    exact t_X6_opens_12 (f_X6_fail x) h F E
