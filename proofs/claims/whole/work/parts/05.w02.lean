def rm_X2_make : Room := { frames := 6, cells := 0, slots := 0, locals := 155 }
def f_X2_make_114 (k84 : CS → Int32 → Int32 → Int32 → Int32 → Option (CS)) (x : CS) (a1 : Int32) (a3 : Int32) (a5 : Int32) (a6 : Int32) (s0 : Int32) (s1 : Int32) (s2 : Int32) : Option (CS) := (f_X2_burn x s2 s1 s0).bind fun r1 => k84 r1 a1 a3 a5 (a6 + 1)
set_option maxRecDepth 100000 in
set_option maxHeartbeats 4000000 in
theorem t_X2_make_114 {C : Cx} {K : KE} {y : MS} {R : CS}  (k84 : CS → Int32 → Int32 → Int32 → Int32 → Option (CS)) (x : CS) (a1 : Int32) (a3 : Int32) (a5 : Int32) (a6 : Int32) (s0 : Int32) (s1 : Int32) (s2 : Int32) (hk84 : ∀ (x : CS) (a1 : Int32) (a3 : Int32) (a5 : Int32) (a6 : Int32), k84 x a1 a3 a5 a6 = some R → V C 84 [(0, .ref (K.1 + 48)), (1, .int a1), (3, .int a3), (5, .int a5), (6, .int a6)] [] (xf K x y) 0 0) (h : f_X2_make_114 k84 x a1 a3 a5 a6 s0 s1 s2 = some R) (F : Fx C RX2 cX2_make 7 rm_X2_make K) (E : CE C (xf K R y) none 0 0 none) : V C 114 [(0, .ref (K.1 + 48)), (1, .int a1), (3, .int a3), (5, .int a5), (6, .int a6)] [.int s0, .int s1, .int s2, .ref (K.1 + 48)] (xf K x y) 0 0 := by
  unfold f_X2_make_114 at h
  obtain ⟨r1, e2, h⟩ := bd_of h
  refine v_callV 3 F (q := 48) (as := [.int s2, .int s1, .int s0]) (st := []) (st1 := []) (res := none) (c_X2_burn (l := C.2.1) x y s2 s1 s0 e2) (xn (by decide)) xc_48 rfl (tc25 _ (List.mem_of_getElem? (i := 15) rfl)) (tc25 _ (List.mem_of_getElem? (i := 16) rfl)) (tc25 _ (List.mem_of_getElem? (i := 17) rfl)) (tc2 _ (List.mem_of_getElem? (i := 19) rfl)) (tc25 _ (List.mem_of_getElem? (i := 18) rfl)) (by decide) rfl ⟨rfl, rfl, Nat.le_of_ble_eq_true rfl, Nat.le_of_ble_eq_true rfl⟩ ⟨Nat.le_of_ble_eq_true rfl, Nat.le_of_ble_eq_true rfl⟩ rfl (Nat.le_of_ble_eq_true rfl) rfl rfl rfl (dq dkX2_make_1 1 rfl) ?_
  refine v_iinc F (v := a6 + 1) (ls' := [(6, .int (a6 + 1)), (0, .ref (K.1 + 48)), (1, .int a1), (3, .int a3), (5, .int a5)]) (dq dkX2_make_1 2 rfl) (j := 4) rfl (kv_add ki_1) (by decide) rfl ?_
  refine v_goto F (tgt := 84) (dq dkX2_make_1 3 rfl) (by decide) ?_
  refine v_sub [1, 2, 3, 4, 0] rfl ?_
  exact hk84 r1 a1 a3 a5 (a6 + 1) h
def f_X2_make_84 : Nat → CS → Int32 → Int32 → Int32 → Int32 → Option (CS)
  | 0, _, _, _, _, _ => none
  | n + 1, x, a1, a3, a5, a6 => if a5 < a6 then (some x) else (if a1 = 2 then ((f_X8_of x 1 5 a6).bind fun r5 => f_X2_make_114 (f_X2_make_84 n) x a1 a3 a5 a6 r5 a3 a6) else (f_X2_make_114 (f_X2_make_84 n) x a1 a3 a5 a6 0 a3 a6))
set_option maxRecDepth 100000 in
set_option maxHeartbeats 4000000 in
theorem t_X2_make_84 {C : Cx} {K : KE} {y : MS} {R : CS}  (F : Fx C RX2 cX2_make 7 rm_X2_make K) (E : CE C (xf K R y) none 0 0 none) : ∀ (n : Nat) (x : CS) (a1 : Int32) (a3 : Int32) (a5 : Int32) (a6 : Int32) (h : f_X2_make_84 n x a1 a3 a5 a6 = some R), V C 84 [(0, .ref (K.1 + 48)), (1, .int a1), (3, .int a3), (5, .int a5), (6, .int a6)] [] (xf K x y) 0 0 := by
  intro n
  induction n with
  | zero => intro x a1 a3 a5 a6 h; cases h
  | succ n ih =>
    intro x a1 a3 a5 a6 h
    rw [f_X2_make_84] at h
    refine v_iload F (dq dkX2_make_0 25 rfl) 4 rfl ?_
    refine v_iload F (dq dkX2_make_0 26 rfl) 3 rfl ?_
    refine v_icmp_gt F (tgt := 123) (dq dkX2_make_0 27 rfl) (by decide) (fun c3 => ?_) (fun c3 => ?_)
    · rw [if_pos c3] at h
      refine v_goto F (tgt := 186) (dq dkX2_make_1 4 rfl) (by decide) ?_
      cases h
      exact v_vret F E (dq dkX2_make_1 36 rfl)
    · rw [if_neg c3] at h
      refine v_aload_n F (dq dkX2_make_0 28 rfl) rfl 0 rfl ?_
      refine v_iload F (dq dkX2_make_0 29 rfl) 4 rfl ?_
      refine v_iload_n F (dq dkX2_make_0 30 rfl) rfl 2 rfl ?_
      refine v_iload_n F (dq dkX2_make_0 31 rfl) rfl 1 rfl ?_
      refine v_iconst F (v := 2) (dq dkX2_make_0 32 rfl) ki_2 ?_
      refine v_icmp_ne F (tgt := 113) (dq dkX2_make_0 33 rfl) (by decide) (fun c4 => ?_) (fun c4 => ?_)
      · rw [if_neg c4] at h
        refine v_iconst F (v := 0) (dq dkX2_make_1 0 rfl) ki_0 ?_
        exact t_X2_make_114 (f_X2_make_84 n) x a1 a3 a5 a6 0 a3 a6 ih h F E
      · rw [if_pos c4] at h
        refine v_aload_n F (dq dkX2_make_0 34 rfl) rfl 0 rfl ?_
        refine v_get F 48 (xn (by decide)) xc_48 rfl inlX2 0 (by decide) (tc5 _ (List.mem_of_getElem? (i := 11) rfl)) rfl rfl (dq dkX2_make_0 35 rfl) ?_
        refine v_iconst F (v := 5) (dq dkX2_make_0 36 rfl) ki_5 ?_
        refine v_iload F (dq dkX2_make_0 37 rfl) 4 rfl ?_
        obtain ⟨r5, e6, h⟩ := bd_of h
        refine v_callV 2 F (q := 1) (as := [.int 5, .int a6]) (st := [.int a3, .int a6, .ref (K.1 + 48)]) (st1 := (.int r5 :: [.int a3, .int a6, .ref (K.1 + 48)])) (res := (some (.int r5))) (c_X8_of (l := C.2.1) x y 1 5 a6 e6) (xn (by decide)) xc_1 rfl (tc20 _ (List.mem_of_getElem? (i := 13) rfl)) (tc14 _ (List.mem_of_getElem? (i := 11) rfl)) (tc14 _ (List.mem_of_getElem? (i := 12) rfl)) (tc1 _ (List.mem_of_getElem? (i := 15) rfl)) (tc14 _ (List.mem_of_getElem? (i := 13) rfl)) (by decide) rfl ⟨rfl, rfl, Nat.le_of_ble_eq_true rfl, Nat.le_of_ble_eq_true rfl⟩ ⟨Nat.le_of_ble_eq_true rfl, Nat.le_of_ble_eq_true rfl⟩ rfl (Nat.le_of_ble_eq_true rfl) rfl rfl rfl (dq dkX2_make_0 38 rfl) ?_
        refine v_goto F (tgt := 114) (dq dkX2_make_0 39 rfl) (by decide) ?_
        exact t_X2_make_114 (f_X2_make_84 n) x a1 a3 a5 a6 r5 a3 a6 ih h F E
def f_X2_make_80 (x : CS) (a1 : Int32) (a3 : Int32) (a4 : Int32) (a5 : Int32) : Option (CS) := f_X2_make_84 1000 x a1 a3 a5 a4
set_option maxRecDepth 100000 in
set_option maxHeartbeats 4000000 in
theorem t_X2_make_80 {C : Cx} {K : KE} {y : MS} {R : CS}  (x : CS) (a1 : Int32) (a3 : Int32) (a4 : Int32) (a5 : Int32) (h : f_X2_make_80 x a1 a3 a4 a5 = some R) (F : Fx C RX2 cX2_make 7 rm_X2_make K) (E : CE C (xf K R y) none 0 0 none) : V C 80 [(0, .ref (K.1 + 48)), (1, .int a1), (3, .int a3), (4, .int a4), (5, .int a5)] [] (xf K x y) 0 0 := by
  unfold f_X2_make_80 at h
  refine v_iload F (dq dkX2_make_0 23 rfl) 3 rfl ?_
  refine v_istore F (ls' := [(6, .int a4), (0, .ref (K.1 + 48)), (1, .int a1), (3, .int a3), (4, .int a4), (5, .int a5)]) (dq dkX2_make_0 24 rfl) (by decide) rfl ?_
  refine v_sub [1, 2, 3, 5, 0] rfl ?_
  exact t_X2_make_84 F E 1000 x a1 a3 a5 a4 h
def f_X2_make_159 : Nat → CS → Int32 → Int32 → Int32 → Option (CS)
  | 0, _, _, _, _ => none
  | n + 1, x, a3, a5, a6 => if a5 < a6 then (some x) else (gd (ib a6 9) (gd (ib a6 9) ((f_X2_make_159 n) (pi x 51 a6.toNatClampNeg ((gi x 51 a6.toNatClampNeg) + a3)) a3 a5 (a6 + 1))))
set_option maxRecDepth 100000 in
set_option maxHeartbeats 4000000 in
theorem t_X2_make_159 {C : Cx} {K : KE} {y : MS} {R : CS}  (F : Fx C RX2 cX2_make 7 rm_X2_make K) (E : CE C (xf K R y) none 0 0 none) : ∀ (n : Nat) (x : CS) (a3 : Int32) (a5 : Int32) (a6 : Int32) (h : f_X2_make_159 n x a3 a5 a6 = some R), V C 159 [(0, .ref (K.1 + 48)), (3, .int a3), (5, .int a5), (6, .int a6)] [] (xf K x y) 0 0 := by
  intro n
  induction n with
  | zero => intro x a3 a5 a6 h; cases h
  | succ n ih =>
    intro x a3 a5 a6 h
    rw [f_X2_make_159] at h
    refine v_iload F (dq dkX2_make_1 22 rfl) 3 rfl ?_
    refine v_iload F (dq dkX2_make_1 23 rfl) 2 rfl ?_
    refine v_icmp_gt F (tgt := 183) (dq dkX2_make_1 24 rfl) (by decide) (fun c7 => ?_) (fun c7 => ?_)
    · rw [if_pos c7] at h
      refine v_goto F (tgt := 186) (dq dkX2_make_1 35 rfl) (by decide) ?_
      cases h
      exact v_vret F E (dq dkX2_make_1 36 rfl)
    · rw [if_neg c7] at h
      refine v_aload_n F (dq dkX2_make_1 25 rfl) rfl 0 rfl ?_
      refine v_get F 48 (xn (by decide)) xc_48 rfl inlX2 4 (by decide) (tc5 _ (List.mem_of_getElem? (i := 2) rfl)) rfl rfl (dq dkX2_make_1 26 rfl) ?_
      refine v_iload F (dq dkX2_make_1 27 rfl) 3 rfl ?_
      refine v_dup2 F (dq dkX2_make_1 28 rfl) rfl rfl ?_
      obtain ⟨g8, h⟩ := gd_of h
      refine v_iald F 51 (xn (by decide)) xc_51 (ib_in g8) (dq dkX2_make_1 29 rfl) ?_
      refine v_iload_n F (dq dkX2_make_1 30 rfl) rfl 1 rfl ?_
      refine v_iadd F (dq dkX2_make_1 31 rfl) ?_
      obtain ⟨g9, h⟩ := gd_of h
      refine v_iast F 51 (xn (by decide)) xc_51 (ib_in g9) (dq dkX2_make_1 32 rfl) ?_
      refine v_eqM (xwC (q := 51) (j := a6.toNatClampNeg) (v := (gi x 51 a6.toNatClampNeg) + a3) (by decide) rfl) ?_
      refine v_iinc F (v := a6 + 1) (ls' := [(6, .int (a6 + 1)), (0, .ref (K.1 + 48)), (3, .int a3), (5, .int a5)]) (dq dkX2_make_1 33 rfl) (j := 3) rfl (kv_add ki_1) (by decide) rfl ?_
      refine v_goto F (tgt := 159) (dq dkX2_make_1 34 rfl) (by decide) ?_
      refine v_sub [1, 2, 3, 0] rfl ?_
      exact ih (pi x 51 a6.toNatClampNeg ((gi x 51 a6.toNatClampNeg) + a3)) a3 a5 (a6 + 1) h
def f_X2_make_25 (x : CS) (a1 : Int32) (a3 : Int32) (a4 : Int32) (s0 : Int32) : Option (CS) := if (b2i (f_X10_isSection a4)) = 0 then (some x) else (if (b2i (f_X10_isSection s0)) = 0 then (some x) else (if a1 = 1 then (f_X2_make_80 x a1 a3 a4 s0) else (if a1 = 2 then (f_X2_make_80 x a1 a3 a4 s0) else (if a1 = 3 then ((f_X2_spreadBy x a3).bind fun r17 => some r17) else (if a1 = 4 then ((f_X2_sew x a4 s0 a3).bind fun r20 => some r20) else (if a1 = 5 then ((f_X2_sew x a4 s0 a3).bind fun r23 => f_X2_make_159 1000 r23 a3 s0 a4) else (some x)))))))
set_option maxRecDepth 100000 in
set_option maxHeartbeats 4000000 in
theorem t_X2_make_25 {C : Cx} {K : KE} {y : MS} {R : CS}  (x : CS) (a1 : Int32) (a3 : Int32) (a4 : Int32) (s0 : Int32) (h : f_X2_make_25 x a1 a3 a4 s0 = some R) (F : Fx C RX2 cX2_make 7 rm_X2_make K) (E : CE C (xf K R y) none 0 0 none) : V C 25 [(0, .ref (K.1 + 48)), (1, .int a1), (3, .int a3), (4, .int a4)] [.int s0] (xf K x y) 0 0 := by
  unfold f_X2_make_25 at h
  refine v_istore F (ls' := [(5, .int s0), (0, .ref (K.1 + 48)), (1, .int a1), (3, .int a3), (4, .int a4)]) (dq dkX2_make_0 13 rfl) (by decide) rfl ?_
  refine v_iload F (dq dkX2_make_0 14 rfl) 4 rfl ?_
  refine v_callSN 1 F (as := [.int a4]) (st := []) (st1 := (.int (b2i (f_X10_isSection a4)) :: [])) (res := (some (.int (b2i (f_X10_isSection a4))))) (c_X10_isSection (l := C.2.1) a4) (List.mem_of_getElem? (i := 9) rfl) (tc14 _ (List.mem_of_getElem? (i := 1) rfl)) (tc1 _ (List.mem_of_getElem? (i := 2) rfl)) (tc14 _ (List.mem_of_getElem? (i := 2) rfl)) (by decide) rfl ⟨rfl, rfl, Nat.le_of_ble_eq_true rfl, Nat.le_of_ble_eq_true rfl⟩ ⟨Nat.le_of_ble_eq_true rfl, Nat.le_of_ble_eq_true rfl⟩ rfl (Nat.le_of_ble_eq_true rfl) rfl rfl rfl (dq dkX2_make_0 15 rfl) ?_
  refine v_if_eq F (tgt := 43) (dq dkX2_make_0 16 rfl) (by decide) (fun c11 => ?_) (fun c11 => ?_)
  · rw [if_pos c11] at h
    cases h
    exact v_vret F E (dq dkX2_make_0 20 rfl)
  · rw [if_neg c11] at h
    refine v_iload F (dq dkX2_make_0 17 rfl) 0 rfl ?_
    refine v_callSN 1 F (as := [.int s0]) (st := []) (st1 := (.int (b2i (f_X10_isSection s0)) :: [])) (res := (some (.int (b2i (f_X10_isSection s0))))) (c_X10_isSection (l := C.2.1) s0) (List.mem_of_getElem? (i := 9) rfl) (tc14 _ (List.mem_of_getElem? (i := 1) rfl)) (tc1 _ (List.mem_of_getElem? (i := 2) rfl)) (tc14 _ (List.mem_of_getElem? (i := 2) rfl)) (by decide) rfl ⟨rfl, rfl, Nat.le_of_ble_eq_true rfl, Nat.le_of_ble_eq_true rfl⟩ ⟨Nat.le_of_ble_eq_true rfl, Nat.le_of_ble_eq_true rfl⟩ rfl (Nat.le_of_ble_eq_true rfl) rfl rfl rfl (dq dkX2_make_0 18 rfl) ?_
    refine v_if_ne F (tgt := 44) (dq dkX2_make_0 19 rfl) (by decide) (fun c13 => ?_) (fun c13 => ?_)
    · rw [if_neg c13] at h
      refine v_iload_n F (dq dkX2_make_0 21 rfl) rfl 2 rfl ?_
      by_cases c14 : a1 = 1
      · rw [if_pos c14] at h
        refine v_tblIn F (off := 35) (tgt := 80) (dq dkX2_make_0 22 rfl) (by rw [c14]; decide) (by rw [c14]; decide) (by rw [c14]; rfl) (by decide) ?_
        refine v_sub [1, 2, 3, 4, 0] rfl ?_
        exact t_X2_make_80 x a1 a3 a4 s0 h F E
      rw [if_neg c14] at h
      by_cases c15 : a1 = 2
      · rw [if_pos c15] at h
        refine v_tblIn F (off := 35) (tgt := 80) (dq dkX2_make_0 22 rfl) (by rw [c15]; decide) (by rw [c15]; decide) (by rw [c15]; rfl) (by decide) ?_
        refine v_sub [1, 2, 3, 4, 0] rfl ?_
        exact t_X2_make_80 x a1 a3 a4 s0 h F E
      rw [if_neg c15] at h
      by_cases c16 : a1 = 3
      · rw [if_pos c16] at h
        refine v_tblIn F (off := 81) (tgt := 126) (dq dkX2_make_0 22 rfl) (by rw [c16]; decide) (by rw [c16]; decide) (by rw [c16]; rfl) (by decide) ?_
        refine v_aload_n F (dq dkX2_make_1 5 rfl) rfl 1 rfl ?_
        refine v_iload_n F (dq dkX2_make_1 6 rfl) rfl 3 rfl ?_
        obtain ⟨r17, e18, h⟩ := bd_of h
        refine v_callV 1 F (q := 48) (as := [.int a3]) (st := []) (st1 := []) (res := none) (c_X2_spreadBy (l := C.2.1) x y a3 e18) (xn (by decide)) xc_48 rfl (tc26 _ (List.mem_of_getElem? (i := 7) rfl)) (tc26 _ (List.mem_of_getElem? (i := 8) rfl)) (tc26 _ (List.mem_of_getElem? (i := 9) rfl)) (tc2 _ (List.mem_of_getElem? (i := 19) rfl)) (tc26 _ (List.mem_of_getElem? (i := 10) rfl)) (by decide) rfl ⟨rfl, rfl, Nat.le_of_ble_eq_true rfl, Nat.le_of_ble_eq_true rfl⟩ ⟨Nat.le_of_ble_eq_true rfl, Nat.le_of_ble_eq_true rfl⟩ rfl (Nat.le_of_ble_eq_true rfl) rfl rfl rfl (dq dkX2_make_1 7 rfl) ?_
        refine v_goto F (tgt := 186) (dq dkX2_make_1 8 rfl) (by decide) ?_
        cases h
        exact v_vret F E (dq dkX2_make_1 36 rfl)
      rw [if_neg c16] at h
      by_cases c19 : a1 = 4
      · rw [if_pos c19] at h
        refine v_tblIn F (off := 89) (tgt := 134) (dq dkX2_make_0 22 rfl) (by rw [c19]; decide) (by rw [c19]; decide) (by rw [c19]; rfl) (by decide) ?_
        refine v_aload_n F (dq dkX2_make_1 9 rfl) rfl 1 rfl ?_
        refine v_iload F (dq dkX2_make_1 10 rfl) 4 rfl ?_
        refine v_iload F (dq dkX2_make_1 11 rfl) 0 rfl ?_
        refine v_iload_n F (dq dkX2_make_1 12 rfl) rfl 3 rfl ?_
        obtain ⟨r20, e21, h⟩ := bd_of h
        refine v_callV 3 F (q := 48) (as := [.int a4, .int s0, .int a3]) (st := []) (st1 := []) (res := none) (c_X2_sew (l := C.2.1) x y a4 s0 a3 e21) (xn (by decide)) xc_48 rfl (tc26 _ (List.mem_of_getElem? (i := 20) rfl)) (tc26 _ (List.mem_of_getElem? (i := 21) rfl)) (tc26 _ (List.mem_of_getElem? (i := 22) rfl)) (tc2 _ (List.mem_of_getElem? (i := 19) rfl)) (tc26 _ (List.mem_of_getElem? (i := 23) rfl)) (by decide) rfl ⟨rfl, rfl, Nat.le_of_ble_eq_true rfl, Nat.le_of_ble_eq_true rfl⟩ ⟨Nat.le_of_ble_eq_true rfl, Nat.le_of_ble_eq_true rfl⟩ rfl (Nat.le_of_ble_eq_true rfl) rfl rfl rfl (dq dkX2_make_1 13 rfl) ?_
        refine v_goto F (tgt := 186) (dq dkX2_make_1 14 rfl) (by decide) ?_
        cases h
        exact v_vret F E (dq dkX2_make_1 36 rfl)
      rw [if_neg c19] at h
      by_cases c22 : a1 = 5
      · rw [if_pos c22] at h
        refine v_tblIn F (off := 101) (tgt := 146) (dq dkX2_make_0 22 rfl) (by rw [c22]; decide) (by rw [c22]; decide) (by rw [c22]; rfl) (by decide) ?_
        refine v_aload_n F (dq dkX2_make_1 15 rfl) rfl 1 rfl ?_
        refine v_iload F (dq dkX2_make_1 16 rfl) 4 rfl ?_
        refine v_iload F (dq dkX2_make_1 17 rfl) 0 rfl ?_
        refine v_iload_n F (dq dkX2_make_1 18 rfl) rfl 3 rfl ?_
        obtain ⟨r23, e24, h⟩ := bd_of h
        refine v_callV 3 F (q := 48) (as := [.int a4, .int s0, .int a3]) (st := []) (st1 := []) (res := none) (c_X2_sew (l := C.2.1) x y a4 s0 a3 e24) (xn (by decide)) xc_48 rfl (tc26 _ (List.mem_of_getElem? (i := 20) rfl)) (tc26 _ (List.mem_of_getElem? (i := 21) rfl)) (tc26 _ (List.mem_of_getElem? (i := 22) rfl)) (tc2 _ (List.mem_of_getElem? (i := 19) rfl)) (tc26 _ (List.mem_of_getElem? (i := 23) rfl)) (by decide) rfl ⟨rfl, rfl, Nat.le_of_ble_eq_true rfl, Nat.le_of_ble_eq_true rfl⟩ ⟨Nat.le_of_ble_eq_true rfl, Nat.le_of_ble_eq_true rfl⟩ rfl (Nat.le_of_ble_eq_true rfl) rfl rfl rfl (dq dkX2_make_1 19 rfl) ?_
        refine v_iload F (dq dkX2_make_1 20 rfl) 4 rfl ?_
        refine v_istore F (ls' := [(6, .int a4), (5, .int s0), (0, .ref (K.1 + 48)), (1, .int a1), (3, .int a3), (4, .int a4)]) (dq dkX2_make_1 21 rfl) (by decide) rfl ?_
        refine v_sub [2, 4, 1, 0] rfl ?_
        exact t_X2_make_159 F E 1000 r23 a3 s0 a4 h
      rw [if_neg c22] at h
      have zc14 := lv_neT c14 (a := 1) (by decide)
      have zc15 := lv_neT c15 (a := 2) (by decide)
      have zc16 := lv_neT c16 (a := 3) (by decide)
      have zc19 := lv_neT c19 (a := 4) (by decide)
      have zc22 := lv_neT c22 (a := 5) (by decide)
      refine v_tblOut F (tgt := 186) (dq dkX2_make_0 22 rfl) (by omega) (by decide) ?_
      cases h
      exact v_vret F E (dq dkX2_make_1 36 rfl)
    · rw [if_pos c13] at h
      cases h
      exact v_vret F E (dq dkX2_make_0 20 rfl)
def f_X2_make_11 (x : CS) (a1 : Int32) (a2 : Int32) (a3 : Int32) (s0 : Int32) : Option (CS) := if a2 = 9 then (f_X2_make_25 x a1 a3 s0 8) else (f_X2_make_25 x a1 a3 s0 a2)
set_option maxRecDepth 100000 in
set_option maxHeartbeats 4000000 in
theorem t_X2_make_11 {C : Cx} {K : KE} {y : MS} {R : CS}  (x : CS) (a1 : Int32) (a2 : Int32) (a3 : Int32) (s0 : Int32) (h : f_X2_make_11 x a1 a2 a3 s0 = some R) (F : Fx C RX2 cX2_make 7 rm_X2_make K) (E : CE C (xf K R y) none 0 0 none) : V C 11 [(0, .ref (K.1 + 48)), (1, .int a1), (2, .int a2), (3, .int a3)] [.int s0] (xf K x y) 0 0 := by
  unfold f_X2_make_11 at h
  refine v_istore F (ls' := [(4, .int s0), (0, .ref (K.1 + 48)), (1, .int a1), (2, .int a2), (3, .int a3)]) (dq dkX2_make_0 6 rfl) (by decide) rfl ?_
  refine v_iload_n F (dq dkX2_make_0 7 rfl) rfl 3 rfl ?_
  refine v_bipush F (v := 9) (dq dkX2_make_0 8 rfl) kb_9 ?_
  refine v_icmp_ne F (tgt := 24) (dq dkX2_make_0 9 rfl) (by decide) (fun c25 => ?_) (fun c25 => ?_)
  · rw [if_neg c25] at h
    refine v_iload_n F (dq dkX2_make_0 12 rfl) rfl 3 rfl ?_
    refine v_sub [1, 2, 4, 0] rfl ?_
    exact t_X2_make_25 x a1 a3 s0 a2 h F E
  · rw [if_pos c25] at h
    refine v_bipush F (v := 8) (dq dkX2_make_0 10 rfl) kb_8 ?_
    refine v_goto F (tgt := 25) (dq dkX2_make_0 11 rfl) (by decide) ?_
    refine v_sub [1, 2, 4, 0] rfl ?_
    exact t_X2_make_25 x a1 a3 s0 8 h F E
def f_X2_make (x : CS) (a1 : Int32) (a2 : Int32) (a3 : Int32) : Option (CS) := if a2 = 9 then (f_X2_make_11 x a1 a2 a3 0) else (f_X2_make_11 x a1 a2 a3 a2)
set_option maxRecDepth 100000 in
set_option maxHeartbeats 4000000 in
theorem c_X2_make {K : KE} {l : Launch} {R : CS} (x : CS) (y : MS) (a1 : Int32) (a2 : Int32) (a3 : Int32) (h : f_X2_make x a1 a2 a3 = some R) : MC K l yX2_make cX2_make 7 none rm_X2_make 0 0 [.ref (K.1 + 48), .int a1, .int a2, .int a3] (xf K x y) (xf K R y) none := by
  refine mc_of (ls0 := [(0, .ref (K.1 + 48)), (1, .int a1), (2, .int a2), (3, .int a3)]) (by decide) (Nat.le_of_ble_eq_true rfl) rfl (fun C hl F E => ?_)
  have F : Fx C RX2 cX2_make 7 rm_X2_make K := F
  unfold f_X2_make at h
  refine v_iload_n F (dq dkX2_make_0 0 rfl) rfl 2 rfl ?_
  refine v_bipush F (v := 9) (dq dkX2_make_0 1 rfl) kb_9 ?_
  refine v_icmp_ne F (tgt := 10) (dq dkX2_make_0 2 rfl) (by decide) (fun c26 => ?_) (fun c26 => ?_)
  · rw [if_neg c26] at h
    refine v_iload_n F (dq dkX2_make_0 5 rfl) rfl 2 rfl ?_
    exact t_X2_make_11 x a1 a2 a3 a2 h F E
  · rw [if_pos c26] at h
    refine v_iconst F (v := 0) (dq dkX2_make_0 3 rfl) ki_0 ?_
    refine v_goto F (tgt := 11) (dq dkX2_make_0 4 rfl) (by decide) ?_
    exact t_X2_make_11 x a1 a2 a3 0 h F E
def rm_X2_allWide : Room := { frames := 1, cells := 0, slots := 0, locals := 30 }
def f_X2_allWide_4 (x : CS) : Nat → Int32 → Int32 → Option (Int32)
  | 0, _, _ => none
  | n + 1, a1, a2 => if 9 ≤ a2 then (some a1) else (gd (ib a2 9) ((f_X2_allWide_4 x n) (a1 + (gi x 49 a2.toNatClampNeg)) (a2 + 1)))
set_option maxRecDepth 100000 in
set_option maxHeartbeats 4000000 in
theorem t_X2_allWide_4 {C : Cx} {K : KE} {y : MS} {R : Int32}  (x : CS) (F : Fx C RX2 cX2_allWide 3 rm_X2_allWide K) (E : CE C (xf K x y) (some (.int R)) 0 0 (some .int)) : ∀ (n : Nat) (a1 : Int32) (a2 : Int32) (h : f_X2_allWide_4 x n a1 a2 = some R), V C 4 [(0, .ref (K.1 + 48)), (1, .int a1), (2, .int a2)] [] (xf K x y) 0 0 := by
  intro n
  induction n with
  | zero => intro a1 a2 h; cases h
  | succ n ih =>
    intro a1 a2 h
    rw [f_X2_allWide_4] at h
    refine v_iload_n F (dq dkX2_allWide_0 4 rfl) rfl 2 rfl ?_
    refine v_bipush F (v := 9) (dq dkX2_allWide_0 5 rfl) kb_9 ?_
    refine v_icmp_ge F (tgt := 25) (dq dkX2_allWide_0 6 rfl) (by decide) (fun c1 => ?_) (fun c1 => ?_)
    · rw [if_pos c1] at h
      refine v_iload_n F (dq dkX2_allWide_0 16 rfl) rfl 1 rfl ?_
      cases h
      exact v_iret F E (dq dkX2_allWide_0 17 rfl)
    · rw [if_neg c1] at h
      refine v_iload_n F (dq dkX2_allWide_0 7 rfl) rfl 1 rfl ?_
      refine v_aload_n F (dq dkX2_allWide_0 8 rfl) rfl 0 rfl ?_
      refine v_get F 48 (xn (by decide)) xc_48 rfl inlX2 2 (by decide) (tc5 _ (List.mem_of_getElem? (i := 0) rfl)) rfl rfl (dq dkX2_allWide_0 9 rfl) ?_
      refine v_iload_n F (dq dkX2_allWide_0 10 rfl) rfl 2 rfl ?_
      obtain ⟨g2, h⟩ := gd_of h
      refine v_iald F 49 (xn (by decide)) xc_49 (ib_in g2) (dq dkX2_allWide_0 11 rfl) ?_
      refine v_iadd F (dq dkX2_allWide_0 12 rfl) ?_
      refine v_istore_n F (ls' := [(1, .int (a1 + (gi x 49 a2.toNatClampNeg))), (0, .ref (K.1 + 48)), (2, .int a2)]) (dq dkX2_allWide_0 13 rfl) rfl (by decide) rfl ?_
      refine v_iinc F (v := a2 + 1) (ls' := [(2, .int (a2 + 1)), (1, .int (a1 + (gi x 49 a2.toNatClampNeg))), (0, .ref (K.1 + 48))]) (dq dkX2_allWide_0 14 rfl) (j := 2) rfl (kv_add ki_1) (by decide) rfl ?_
      refine v_goto F (tgt := 4) (dq dkX2_allWide_0 15 rfl) (by decide) ?_
      refine v_sub [2, 1, 0] rfl ?_
      exact ih (a1 + (gi x 49 a2.toNatClampNeg)) (a2 + 1) h
def f_X2_allWide (x : CS) : Option (Int32) := f_X2_allWide_4 x 1000 0 0
set_option maxRecDepth 100000 in
set_option maxHeartbeats 4000000 in
theorem c_X2_allWide {K : KE} {l : Launch} {R : Int32} (x : CS) (y : MS) (h : f_X2_allWide x = some R) : MC K l yX2_allWide cX2_allWide 3 (some .int) rm_X2_allWide 0 0 [.ref (K.1 + 48)] (xf K x y) (xf K x y) (some (.int R)) := by
  refine mc_of (ls0 := [(0, .ref (K.1 + 48))]) (by decide) (Nat.le_of_ble_eq_true rfl) rfl (fun C hl F E => ?_)
  have F : Fx C RX2 cX2_allWide 3 rm_X2_allWide K := F
  unfold f_X2_allWide at h
  refine v_iconst F (v := 0) (dq dkX2_allWide_0 0 rfl) ki_0 ?_
  refine v_istore_n F (ls' := [(1, .int 0), (0, .ref (K.1 + 48))]) (dq dkX2_allWide_0 1 rfl) rfl (by decide) rfl ?_
  refine v_iconst F (v := 0) (dq dkX2_allWide_0 2 rfl) ki_0 ?_
  refine v_istore_n F (ls' := [(2, .int 0), (1, .int 0), (0, .ref (K.1 + 48))]) (dq dkX2_allWide_0 3 rfl) rfl (by decide) rfl ?_
  refine v_sub [2, 1, 0] rfl ?_
  exact t_X2_allWide_4 x F E 1000 0 0 h
def rm_X2_leastHigh : Room := { frames := 1, cells := 0, slots := 0, locals := 30 }
def f_X2_leastHigh_9 (x : CS) : Nat → Int32 → Int32 → Option (Int32)
  | 0, _, _ => none
  | n + 1, a1, a2 => if 9 ≤ a2 then (some a1) else (gd (ib a2 9) ((f_X2_leastHigh_9 x n) (if (gi x 51 a2.toNatClampNeg) < a1 then (gi x 51 a2.toNatClampNeg) else a1) (a2 + 1)))
set_option maxRecDepth 100000 in
set_option maxHeartbeats 4000000 in
theorem t_X2_leastHigh_9 {C : Cx} {K : KE} {y : MS} {R : Int32}  (x : CS) (F : Fx C RX2 cX2_leastHigh 3 rm_X2_leastHigh K) (E : CE C (xf K x y) (some (.int R)) 0 0 (some .int)) : ∀ (n : Nat) (a1 : Int32) (a2 : Int32) (h : f_X2_leastHigh_9 x n a1 a2 = some R), V C 9 [(0, .ref (K.1 + 48)), (1, .int a1), (2, .int a2)] [] (xf K x y) 0 0 := by
  intro n
  induction n with
  | zero => intro a1 a2 h; cases h
  | succ n ih =>
    intro a1 a2 h
    rw [f_X2_leastHigh_9] at h
    refine v_iload_n F (dq dkX2_leastHigh_0 7 rfl) rfl 2 rfl ?_
    refine v_bipush F (v := 9) (dq dkX2_leastHigh_0 8 rfl) kb_9 ?_
    refine v_icmp_ge F (tgt := 32) (dq dkX2_leastHigh_0 9 rfl) (by decide) (fun c1 => ?_) (fun c1 => ?_)
    · rw [if_pos c1] at h
      refine v_iload_n F (dq dkX2_leastHigh_0 19 rfl) rfl 1 rfl ?_
      cases h
      exact v_iret F E (dq dkX2_leastHigh_0 20 rfl)
    · rw [if_neg c1] at h
      refine v_iload_n F (dq dkX2_leastHigh_0 10 rfl) rfl 1 rfl ?_
      refine v_aload_n F (dq dkX2_leastHigh_0 11 rfl) rfl 0 rfl ?_
      refine v_get F 48 (xn (by decide)) xc_48 rfl inlX2 4 (by decide) (tc5 _ (List.mem_of_getElem? (i := 2) rfl)) rfl rfl (dq dkX2_leastHigh_0 12 rfl) ?_
      refine v_iload_n F (dq dkX2_leastHigh_0 13 rfl) rfl 2 rfl ?_
      obtain ⟨g2, h⟩ := gd_of h
      refine v_iald F 51 (xn (by decide)) xc_51 (ib_in g2) (dq dkX2_leastHigh_0 14 rfl) ?_
      refine v_mmin F (tc40 _ (List.mem_of_getElem? (i := 5) rfl)) (tc21 _ (List.mem_of_getElem? (i := 0) rfl)) (tc21 _ (List.mem_of_getElem? (i := 1) rfl)) (tc21 _ (List.mem_of_getElem? (i := 2) rfl)) (Nat.le_of_ble_eq_true rfl) (Nat.le_of_ble_eq_true rfl) (Nat.le_of_ble_eq_true rfl) (Nat.le_of_ble_eq_true rfl) (dq dkX2_leastHigh_0 15 rfl) ?_
      refine v_istore_n F (ls' := [(1, .int (if (gi x 51 a2.toNatClampNeg) < a1 then (gi x 51 a2.toNatClampNeg) else a1)), (0, .ref (K.1 + 48)), (2, .int a2)]) (dq dkX2_leastHigh_0 16 rfl) rfl (by decide) rfl ?_
      refine v_iinc F (v := a2 + 1) (ls' := [(2, .int (a2 + 1)), (1, .int (if (gi x 51 a2.toNatClampNeg) < a1 then (gi x 51 a2.toNatClampNeg) else a1)), (0, .ref (K.1 + 48))]) (dq dkX2_leastHigh_0 17 rfl) (j := 2) rfl (kv_add ki_1) (by decide) rfl ?_
      refine v_goto F (tgt := 9) (dq dkX2_leastHigh_0 18 rfl) (by decide) ?_
      refine v_sub [2, 1, 0] rfl ?_
      exact ih (if (gi x 51 a2.toNatClampNeg) < a1 then (gi x 51 a2.toNatClampNeg) else a1) (a2 + 1) h
def f_X2_leastHigh (x : CS) : Option (Int32) := f_X2_leastHigh_9 x 1000 (gi x 51 (0 : Int32).toNatClampNeg) 1
set_option maxRecDepth 100000 in
set_option maxHeartbeats 4000000 in
theorem c_X2_leastHigh {K : KE} {l : Launch} {R : Int32} (x : CS) (y : MS) (h : f_X2_leastHigh x = some R) : MC K l yX2_leastHigh cX2_leastHigh 3 (some .int) rm_X2_leastHigh 0 0 [.ref (K.1 + 48)] (xf K x y) (xf K x y) (some (.int R)) := by
  refine mc_of (ls0 := [(0, .ref (K.1 + 48))]) (by decide) (Nat.le_of_ble_eq_true rfl) rfl (fun C hl F E => ?_)
  have F : Fx C RX2 cX2_leastHigh 3 rm_X2_leastHigh K := F
  unfold f_X2_leastHigh at h
  refine v_aload_n F (dq dkX2_leastHigh_0 0 rfl) rfl 0 rfl ?_
  refine v_get F 48 (xn (by decide)) xc_48 rfl inlX2 4 (by decide) (tc5 _ (List.mem_of_getElem? (i := 2) rfl)) rfl rfl (dq dkX2_leastHigh_0 1 rfl) ?_
  refine v_iconst F (v := 0) (dq dkX2_leastHigh_0 2 rfl) ki_0 ?_
  refine v_iald F 51 (xn (by decide)) xc_51 (ib_in (by decide)) (dq dkX2_leastHigh_0 3 rfl) ?_
  refine v_istore_n F (ls' := [(1, .int (gi x 51 (0 : Int32).toNatClampNeg)), (0, .ref (K.1 + 48))]) (dq dkX2_leastHigh_0 4 rfl) rfl (by decide) rfl ?_
  refine v_iconst F (v := 1) (dq dkX2_leastHigh_0 5 rfl) ki_1 ?_
  refine v_istore_n F (ls' := [(2, .int 1), (1, .int (gi x 51 (0 : Int32).toNatClampNeg)), (0, .ref (K.1 + 48))]) (dq dkX2_leastHigh_0 6 rfl) rfl (by decide) rfl ?_
  refine v_sub [2, 1, 0] rfl ?_
  exact t_X2_leastHigh_9 x F E 1000 (gi x 51 (0 : Int32).toNatClampNeg) 1 h
def rm_X2_weight : Room := { frames := 1, cells := 0, slots := 0, locals := 30 }
def f_X2_weight_4 (x : CS) : Nat → Int32 → Int32 → Option (Int32)
  | 0, _, _ => none
  | n + 1, a1, a2 => if 9 ≤ a2 then (some (a1 / 4)) else (gd (ib a2 9) (gd (ib a2 9) (gd (ib a2 9) ((f_X2_weight_4 x n) (a1 + ((gi x 50 a2.toNatClampNeg) * ((gi x 49 a2.toNatClampNeg) + (2 * (gi x 51 a2.toNatClampNeg))))) (a2 + 1)))))
set_option maxRecDepth 100000 in
set_option maxHeartbeats 4000000 in
theorem t_X2_weight_4 {C : Cx} {K : KE} {y : MS} {R : Int32}  (x : CS) (F : Fx C RX2 cX2_weight 3 rm_X2_weight K) (E : CE C (xf K x y) (some (.int R)) 0 0 (some .int)) : ∀ (n : Nat) (a1 : Int32) (a2 : Int32) (h : f_X2_weight_4 x n a1 a2 = some R), V C 4 [(0, .ref (K.1 + 48)), (1, .int a1), (2, .int a2)] [] (xf K x y) 0 0 := by
  intro n
  induction n with
  | zero => intro a1 a2 h; cases h
  | succ n ih =>
    intro a1 a2 h
    rw [f_X2_weight_4] at h
    refine v_iload_n F (dq dkX2_weight_0 4 rfl) rfl 2 rfl ?_
    refine v_bipush F (v := 9) (dq dkX2_weight_0 5 rfl) kb_9 ?_
    refine v_icmp_ge F (tgt := 41) (dq dkX2_weight_0 6 rfl) (by decide) (fun c1 => ?_) (fun c1 => ?_)
    · rw [if_pos c1] at h
      refine v_iload_n F (dq dkX2_weight_0 28 rfl) rfl 1 rfl ?_
      refine v_iconst F (v := 4) (dq dkX2_weight_0 29 rfl) ki_4 ?_
      refine v_idiv F (dq dkX2_weight_0 30 rfl) (by decide) ?_
      cases h
      exact v_iret F E (dq dkX2_weight_0 31 rfl)
    · rw [if_neg c1] at h
      refine v_iload_n F (dq dkX2_weight_0 7 rfl) rfl 1 rfl ?_
      refine v_aload_n F (dq dkX2_weight_0 8 rfl) rfl 0 rfl ?_
      refine v_get F 48 (xn (by decide)) xc_48 rfl inlX2 3 (by decide) (tc5 _ (List.mem_of_getElem? (i := 1) rfl)) rfl rfl (dq dkX2_weight_0 9 rfl) ?_
      refine v_iload_n F (dq dkX2_weight_0 10 rfl) rfl 2 rfl ?_
      obtain ⟨g2, h⟩ := gd_of h
      refine v_iald F 50 (xn (by decide)) xc_50 (ib_in g2) (dq dkX2_weight_0 11 rfl) ?_
      refine v_aload_n F (dq dkX2_weight_0 12 rfl) rfl 0 rfl ?_
      refine v_get F 48 (xn (by decide)) xc_48 rfl inlX2 2 (by decide) (tc5 _ (List.mem_of_getElem? (i := 0) rfl)) rfl rfl (dq dkX2_weight_0 13 rfl) ?_
      refine v_iload_n F (dq dkX2_weight_0 14 rfl) rfl 2 rfl ?_
      obtain ⟨g3, h⟩ := gd_of h
      refine v_iald F 49 (xn (by decide)) xc_49 (ib_in g3) (dq dkX2_weight_0 15 rfl) ?_
      refine v_iconst F (v := 2) (dq dkX2_weight_0 16 rfl) ki_2 ?_
      refine v_aload_n F (dq dkX2_weight_0 17 rfl) rfl 0 rfl ?_
      refine v_get F 48 (xn (by decide)) xc_48 rfl inlX2 4 (by decide) (tc5 _ (List.mem_of_getElem? (i := 2) rfl)) rfl rfl (dq dkX2_weight_0 18 rfl) ?_
      refine v_iload_n F (dq dkX2_weight_0 19 rfl) rfl 2 rfl ?_
      obtain ⟨g4, h⟩ := gd_of h
      refine v_iald F 51 (xn (by decide)) xc_51 (ib_in g4) (dq dkX2_weight_0 20 rfl) ?_
      refine v_imul F (dq dkX2_weight_0 21 rfl) ?_
      refine v_iadd F (dq dkX2_weight_0 22 rfl) ?_
      refine v_imul F (dq dkX2_weight_0 23 rfl) ?_
      refine v_iadd F (dq dkX2_weight_0 24 rfl) ?_
      refine v_istore_n F (ls' := [(1, .int (a1 + ((gi x 50 a2.toNatClampNeg) * ((gi x 49 a2.toNatClampNeg) + (2 * (gi x 51 a2.toNatClampNeg)))))), (0, .ref (K.1 + 48)), (2, .int a2)]) (dq dkX2_weight_0 25 rfl) rfl (by decide) rfl ?_
      refine v_iinc F (v := a2 + 1) (ls' := [(2, .int (a2 + 1)), (1, .int (a1 + ((gi x 50 a2.toNatClampNeg) * ((gi x 49 a2.toNatClampNeg) + (2 * (gi x 51 a2.toNatClampNeg)))))), (0, .ref (K.1 + 48))]) (dq dkX2_weight_0 26 rfl) (j := 2) rfl (kv_add ki_1) (by decide) rfl ?_
      refine v_goto F (tgt := 4) (dq dkX2_weight_0 27 rfl) (by decide) ?_
      refine v_sub [2, 1, 0] rfl ?_
      exact ih (a1 + ((gi x 50 a2.toNatClampNeg) * ((gi x 49 a2.toNatClampNeg) + (2 * (gi x 51 a2.toNatClampNeg))))) (a2 + 1) h
def f_X2_weight (x : CS) : Option (Int32) := f_X2_weight_4 x 1000 0 0
set_option maxRecDepth 100000 in
set_option maxHeartbeats 4000000 in
theorem c_X2_weight {K : KE} {l : Launch} {R : Int32} (x : CS) (y : MS) (h : f_X2_weight x = some R) : MC K l yX2_weight cX2_weight 3 (some .int) rm_X2_weight 0 0 [.ref (K.1 + 48)] (xf K x y) (xf K x y) (some (.int R)) := by
  refine mc_of (ls0 := [(0, .ref (K.1 + 48))]) (by decide) (Nat.le_of_ble_eq_true rfl) rfl (fun C hl F E => ?_)
  have F : Fx C RX2 cX2_weight 3 rm_X2_weight K := F
  unfold f_X2_weight at h
  refine v_iconst F (v := 0) (dq dkX2_weight_0 0 rfl) ki_0 ?_
  refine v_istore_n F (ls' := [(1, .int 0), (0, .ref (K.1 + 48))]) (dq dkX2_weight_0 1 rfl) rfl (by decide) rfl ?_
  refine v_iconst F (v := 0) (dq dkX2_weight_0 2 rfl) ki_0 ?_
  refine v_istore_n F (ls' := [(2, .int 0), (1, .int 0), (0, .ref (K.1 + 48))]) (dq dkX2_weight_0 3 rfl) rfl (by decide) rfl ?_
  refine v_sub [2, 1, 0] rfl ?_
  exact t_X2_weight_4 x F E 1000 0 0 h
def rm_X2_draught : Room := { frames := 2, cells := 0, slots := 0, locals := 52 }
def f_X2_draught (x : CS) (a1 : Int32) : Option (Int32) := (f_X2_allWide x).bind fun r1 => if 1 ≤ r1 then ((f_X2_weight x).bind fun r4 => gd (decide (¬ r1 = 0)) (some ((((r4 + a1) + r1) - 1) / r1))) else (some 0)
set_option maxRecDepth 100000 in
set_option maxHeartbeats 4000000 in
theorem c_X2_draught {K : KE} {l : Launch} {R : Int32} (x : CS) (y : MS) (a1 : Int32) (h : f_X2_draught x a1 = some R) : MC K l yX2_draught cX2_draught 3 (some .int) rm_X2_draught 0 0 [.ref (K.1 + 48), .int a1] (xf K x y) (xf K x y) (some (.int R)) := by
  refine mc_of (ls0 := [(0, .ref (K.1 + 48)), (1, .int a1)]) (by decide) (Nat.le_of_ble_eq_true rfl) rfl (fun C hl F E => ?_)
  have F : Fx C RX2 cX2_draught 3 rm_X2_draught K := F
  unfold f_X2_draught at h
  refine v_aload_n F (dq dkX2_draught_0 0 rfl) rfl 0 rfl ?_
  obtain ⟨r1, e2, h⟩ := bd_of h
  refine v_callV 0 F (q := 48) (as := []) (st := []) (st1 := (.int r1 :: [])) (res := (some (.int r1))) (c_X2_allWide (l := C.2.1) x y e2) (xn (by decide)) xc_48 rfl (tc39 _ (List.mem_of_getElem? (i := 17) rfl)) (tc39 _ (List.mem_of_getElem? (i := 18) rfl)) (tc39 _ (List.mem_of_getElem? (i := 19) rfl)) (tc2 _ (List.mem_of_getElem? (i := 19) rfl)) (tc39 _ (List.mem_of_getElem? (i := 20) rfl)) (by decide) rfl ⟨rfl, rfl, Nat.le_of_ble_eq_true rfl, Nat.le_of_ble_eq_true rfl⟩ ⟨Nat.le_of_ble_eq_true rfl, Nat.le_of_ble_eq_true rfl⟩ rfl (Nat.le_of_ble_eq_true rfl) rfl rfl rfl (dq dkX2_draught_0 1 rfl) ?_
  refine v_istore_n F (ls' := [(2, .int r1), (0, .ref (K.1 + 48)), (1, .int a1)]) (dq dkX2_draught_0 2 rfl) rfl (by decide) rfl ?_
  refine v_iload_n F (dq dkX2_draught_0 3 rfl) rfl 0 rfl ?_
  refine v_iconst F (v := 1) (dq dkX2_draught_0 4 rfl) ki_1 ?_
  refine v_icmp_ge F (tgt := 14) (dq dkX2_draught_0 5 rfl) (by decide) (fun c3 => ?_) (fun c3 => ?_)
  · rw [if_pos c3] at h
    refine v_aload_n F (dq dkX2_draught_0 8 rfl) rfl 1 rfl ?_
    obtain ⟨r4, e5, h⟩ := bd_of h
    refine v_callV 0 F (q := 48) (as := []) (st := []) (st1 := (.int r4 :: [])) (res := (some (.int r4))) (c_X2_weight (l := C.2.1) x y e5) (xn (by decide)) xc_48 rfl (tc39 _ (List.mem_of_getElem? (i := 21) rfl)) (tc39 _ (List.mem_of_getElem? (i := 22) rfl)) (tc39 _ (List.mem_of_getElem? (i := 23) rfl)) (tc2 _ (List.mem_of_getElem? (i := 19) rfl)) (tc40 _ (List.mem_of_getElem? (i := 0) rfl)) (by decide) rfl ⟨rfl, rfl, Nat.le_of_ble_eq_true rfl, Nat.le_of_ble_eq_true rfl⟩ ⟨Nat.le_of_ble_eq_true rfl, Nat.le_of_ble_eq_true rfl⟩ rfl (Nat.le_of_ble_eq_true rfl) rfl rfl rfl (dq dkX2_draught_0 9 rfl) ?_
    refine v_iload_n F (dq dkX2_draught_0 10 rfl) rfl 2 rfl ?_
    refine v_iadd F (dq dkX2_draught_0 11 rfl) ?_
    refine v_iload_n F (dq dkX2_draught_0 12 rfl) rfl 0 rfl ?_
    refine v_iadd F (dq dkX2_draught_0 13 rfl) ?_
    refine v_iconst F (v := 1) (dq dkX2_draught_0 14 rfl) ki_1 ?_
    refine v_isub F (dq dkX2_draught_0 15 rfl) ?_
    refine v_iload_n F (dq dkX2_draught_0 16 rfl) rfl 0 rfl ?_
    obtain ⟨g6, h⟩ := gd_of h
    refine v_idiv F (dq dkX2_draught_0 17 rfl) (of_decide_eq_true g6) ?_
    cases h
    exact v_iret F E (dq dkX2_draught_0 18 rfl)
  · rw [if_neg c3] at h
    refine v_iconst F (v := 0) (dq dkX2_draught_0 6 rfl) ki_0 ?_
    refine v_goto F (tgt := 26) (dq dkX2_draught_0 7 rfl) (by decide) ?_
    cases h
    exact v_iret F E (dq dkX2_draught_0 18 rfl)
def rm_X2_sinks : Room := { frames := 3, cells := 0, slots := 0, locals := 74 }
def f_X2_sinks_19 (x : CS) : Option (Bool) := some true
set_option maxRecDepth 100000 in
set_option maxHeartbeats 4000000 in
theorem t_X2_sinks_19 {C : Cx} {K : KE} {y : MS} {R : Bool}  (x : CS) (h : f_X2_sinks_19 x = some R) (F : Fx C RX2 cX2_sinks 2 rm_X2_sinks K) (E : CE C (xf K x y) (some (.int (b2i R))) 0 0 (some .boolean)) : V C 19 [] [] (xf K x y) 0 0 := by
  unfold f_X2_sinks_19 at h
  refine v_iconst F (v := 1) (dq dkX2_sinks_0 9 rfl) ki_1 ?_
  refine v_goto F (tgt := 24) (dq dkX2_sinks_0 10 rfl) (by decide) ?_
  cases h
  exact v_zret F E (b2i_n true) (dq dkX2_sinks_0 12 rfl)
def f_X2_sinks (x : CS) (a1 : Int32) : Option (Bool) := if (gi x 48 6) = 0 then ((f_X2_draught x a1).bind fun r2 => (f_X2_leastHigh x).bind fun r4 => if r2 ≤ r4 then (some false) else (f_X2_sinks_19 x)) else (f_X2_sinks_19 x)
set_option maxRecDepth 100000 in
set_option maxHeartbeats 4000000 in
theorem c_X2_sinks {K : KE} {l : Launch} {R : Bool} (x : CS) (y : MS) (a1 : Int32) (h : f_X2_sinks x a1 = some R) : MC K l yX2_sinks cX2_sinks 2 (some .boolean) rm_X2_sinks 0 0 [.ref (K.1 + 48), .int a1] (xf K x y) (xf K x y) (some (.int (b2i R))) := by
  refine mc_of (ls0 := [(0, .ref (K.1 + 48)), (1, .int a1)]) (by decide) (Nat.le_of_ble_eq_true rfl) rfl (fun C hl F E => ?_)
  have F : Fx C RX2 cX2_sinks 2 rm_X2_sinks K := F
  unfold f_X2_sinks at h
  refine v_aload_n F (dq dkX2_sinks_0 0 rfl) rfl 0 rfl ?_
  refine v_get F 48 (xn (by decide)) xc_48 rfl inlX2 6 (by decide) (tc5 _ (List.mem_of_getElem? (i := 4) rfl)) rfl rfl (dq dkX2_sinks_0 1 rfl) ?_
  refine v_if_ne F (tgt := 19) (dq dkX2_sinks_0 2 rfl) (by decide) (fun c1 => ?_) (fun c1 => ?_)
  · rw [if_neg c1] at h
    refine v_sub [] rfl ?_
    exact t_X2_sinks_19 x h F E
  · rw [if_pos c1] at h
    refine v_aload_n F (dq dkX2_sinks_0 3 rfl) rfl 0 rfl ?_
    refine v_iload_n F (dq dkX2_sinks_0 4 rfl) rfl 1 rfl ?_
    obtain ⟨r2, e3, h⟩ := bd_of h
    refine v_callV 1 F (q := 48) (as := [.int a1]) (st := []) (st1 := (.int r2 :: [])) (res := (some (.int r2))) (c_X2_draught (l := C.2.1) x y a1 e3) (xn (by decide)) xc_48 rfl (tc39 _ (List.mem_of_getElem? (i := 13) rfl)) (tc39 _ (List.mem_of_getElem? (i := 14) rfl)) (tc39 _ (List.mem_of_getElem? (i := 15) rfl)) (tc2 _ (List.mem_of_getElem? (i := 19) rfl)) (tc39 _ (List.mem_of_getElem? (i := 16) rfl)) (by decide) rfl ⟨rfl, rfl, Nat.le_of_ble_eq_true rfl, Nat.le_of_ble_eq_true rfl⟩ ⟨Nat.le_of_ble_eq_true rfl, Nat.le_of_ble_eq_true rfl⟩ rfl (Nat.le_of_ble_eq_true rfl) rfl rfl rfl (dq dkX2_sinks_0 5 rfl) ?_
    refine v_aload_n F (dq dkX2_sinks_0 6 rfl) rfl 0 rfl ?_
    obtain ⟨r4, e5, h⟩ := bd_of h
    refine v_callV 0 F (q := 48) (as := []) (st := [.int r2]) (st1 := (.int r4 :: [.int r2])) (res := (some (.int r4))) (c_X2_leastHigh (l := C.2.1) x y e5) (xn (by decide)) xc_48 rfl (tc40 _ (List.mem_of_getElem? (i := 1) rfl)) (tc40 _ (List.mem_of_getElem? (i := 2) rfl)) (tc40 _ (List.mem_of_getElem? (i := 3) rfl)) (tc2 _ (List.mem_of_getElem? (i := 19) rfl)) (tc40 _ (List.mem_of_getElem? (i := 4) rfl)) (by decide) rfl ⟨rfl, rfl, Nat.le_of_ble_eq_true rfl, Nat.le_of_ble_eq_true rfl⟩ ⟨Nat.le_of_ble_eq_true rfl, Nat.le_of_ble_eq_true rfl⟩ rfl (Nat.le_of_ble_eq_true rfl) rfl rfl rfl (dq dkX2_sinks_0 7 rfl) ?_
    refine v_icmp_le F (tgt := 23) (dq dkX2_sinks_0 8 rfl) (by decide) (fun c6 => ?_) (fun c6 => ?_)
    · rw [if_pos c6] at h
      refine v_iconst F (v := 0) (dq dkX2_sinks_0 11 rfl) ki_0 ?_
      cases h
      exact v_zret F E (b2i_n false) (dq dkX2_sinks_0 12 rfl)
    · rw [if_neg c6] at h
      refine v_sub [] rfl ?_
      exact t_X2_sinks_19 x h F E
def rm_X2_steadiness : Room := { frames := 1, cells := 0, slots := 0, locals := 30 }
def f_X2_steadiness_4 (x : CS) : Nat → Int32 → Int32 → Int32 → Option (Int32)
  | 0, _, _, _ => none
  | n + 1, a1, a2, a3 => if 9 ≤ a3 then (if 0 ≤ a1 then (gd (decide (¬ (a1 + 1) = 0)) (some (a2 / (a1 + 1)))) else (some 0)) else (gd (ib a3 9) (gd (ib a3 9) ((f_X2_steadiness_4 x n) a1 (a2 + ((gi x 49 a3.toNatClampNeg) * (gi x 49 a3.toNatClampNeg))) (a3 + 1))))
set_option maxRecDepth 100000 in
set_option maxHeartbeats 4000000 in
theorem t_X2_steadiness_4 {C : Cx} {K : KE} {y : MS} {R : Int32}  (x : CS) (F : Fx C RX2 cX2_steadiness 4 rm_X2_steadiness K) (E : CE C (xf K x y) (some (.int R)) 0 0 (some .int)) : ∀ (n : Nat) (a1 : Int32) (a2 : Int32) (a3 : Int32) (h : f_X2_steadiness_4 x n a1 a2 a3 = some R), V C 4 [(0, .ref (K.1 + 48)), (1, .int a1), (2, .int a2), (3, .int a3)] [] (xf K x y) 0 0 := by
  intro n
  induction n with
  | zero => intro a1 a2 a3 h; cases h
  | succ n ih =>
    intro a1 a2 a3 h
    rw [f_X2_steadiness_4] at h
    refine v_iload_n F (dq dkX2_steadiness_0 4 rfl) rfl 3 rfl ?_
    refine v_bipush F (v := 9) (dq dkX2_steadiness_0 5 rfl) kb_9 ?_
    refine v_icmp_ge F (tgt := 32) (dq dkX2_steadiness_0 6 rfl) (by decide) (fun c1 => ?_) (fun c1 => ?_)
    · rw [if_pos c1] at h
      refine v_iload_n F (dq dkX2_steadiness_0 21 rfl) rfl 1 rfl ?_
      refine v_if_ge F (tgt := 40) (dq dkX2_steadiness_0 22 rfl) (by decide) (fun c2 => ?_) (fun c2 => ?_)
      · rw [if_pos c2] at h
        refine v_iload_n F (dq dkX2_steadiness_0 25 rfl) rfl 2 rfl ?_
        refine v_iload_n F (dq dkX2_steadiness_0 26 rfl) rfl 1 rfl ?_
        refine v_iconst F (v := 1) (dq dkX2_steadiness_0 27 rfl) ki_1 ?_
        refine v_iadd F (dq dkX2_steadiness_0 28 rfl) ?_
        obtain ⟨g3, h⟩ := gd_of h
        refine v_idiv F (dq dkX2_steadiness_0 29 rfl) (of_decide_eq_true g3) ?_
        cases h
        exact v_iret F E (dq dkX2_steadiness_0 30 rfl)
      · rw [if_neg c2] at h
        refine v_iconst F (v := 0) (dq dkX2_steadiness_0 23 rfl) ki_0 ?_
        refine v_goto F (tgt := 45) (dq dkX2_steadiness_0 24 rfl) (by decide) ?_
        cases h
        exact v_iret F E (dq dkX2_steadiness_0 30 rfl)
    · rw [if_neg c1] at h
      refine v_iload_n F (dq dkX2_steadiness_0 7 rfl) rfl 2 rfl ?_
      refine v_aload_n F (dq dkX2_steadiness_0 8 rfl) rfl 0 rfl ?_
      refine v_get F 48 (xn (by decide)) xc_48 rfl inlX2 2 (by decide) (tc5 _ (List.mem_of_getElem? (i := 0) rfl)) rfl rfl (dq dkX2_steadiness_0 9 rfl) ?_
      refine v_iload_n F (dq dkX2_steadiness_0 10 rfl) rfl 3 rfl ?_
      obtain ⟨g4, h⟩ := gd_of h
      refine v_iald F 49 (xn (by decide)) xc_49 (ib_in g4) (dq dkX2_steadiness_0 11 rfl) ?_
      refine v_aload_n F (dq dkX2_steadiness_0 12 rfl) rfl 0 rfl ?_
      refine v_get F 48 (xn (by decide)) xc_48 rfl inlX2 2 (by decide) (tc5 _ (List.mem_of_getElem? (i := 0) rfl)) rfl rfl (dq dkX2_steadiness_0 13 rfl) ?_
      refine v_iload_n F (dq dkX2_steadiness_0 14 rfl) rfl 3 rfl ?_
      obtain ⟨g5, h⟩ := gd_of h
      refine v_iald F 49 (xn (by decide)) xc_49 (ib_in g5) (dq dkX2_steadiness_0 15 rfl) ?_
      refine v_imul F (dq dkX2_steadiness_0 16 rfl) ?_
      refine v_iadd F (dq dkX2_steadiness_0 17 rfl) ?_
      refine v_istore_n F (ls' := [(2, .int (a2 + ((gi x 49 a3.toNatClampNeg) * (gi x 49 a3.toNatClampNeg)))), (0, .ref (K.1 + 48)), (1, .int a1), (3, .int a3)]) (dq dkX2_steadiness_0 18 rfl) rfl (by decide) rfl ?_
      refine v_iinc F (v := a3 + 1) (ls' := [(3, .int (a3 + 1)), (2, .int (a2 + ((gi x 49 a3.toNatClampNeg) * (gi x 49 a3.toNatClampNeg)))), (0, .ref (K.1 + 48)), (1, .int a1)]) (dq dkX2_steadiness_0 19 rfl) (j := 3) rfl (kv_add ki_1) (by decide) rfl ?_
      refine v_goto F (tgt := 4) (dq dkX2_steadiness_0 20 rfl) (by decide) ?_
      refine v_sub [2, 3, 1, 0] rfl ?_
      exact ih a1 (a2 + ((gi x 49 a3.toNatClampNeg) * (gi x 49 a3.toNatClampNeg))) (a3 + 1) h
def f_X2_steadiness (x : CS) (a1 : Int32) : Option (Int32) := f_X2_steadiness_4 x 1000 a1 0 0
set_option maxRecDepth 100000 in
set_option maxHeartbeats 4000000 in
theorem c_X2_steadiness {K : KE} {l : Launch} {R : Int32} (x : CS) (y : MS) (a1 : Int32) (h : f_X2_steadiness x a1 = some R) : MC K l yX2_steadiness cX2_steadiness 4 (some .int) rm_X2_steadiness 0 0 [.ref (K.1 + 48), .int a1] (xf K x y) (xf K x y) (some (.int R)) := by
  refine mc_of (ls0 := [(0, .ref (K.1 + 48)), (1, .int a1)]) (by decide) (Nat.le_of_ble_eq_true rfl) rfl (fun C hl F E => ?_)
  have F : Fx C RX2 cX2_steadiness 4 rm_X2_steadiness K := F
  unfold f_X2_steadiness at h
  refine v_iconst F (v := 0) (dq dkX2_steadiness_0 0 rfl) ki_0 ?_
  refine v_istore_n F (ls' := [(2, .int 0), (0, .ref (K.1 + 48)), (1, .int a1)]) (dq dkX2_steadiness_0 1 rfl) rfl (by decide) rfl ?_
  refine v_iconst F (v := 0) (dq dkX2_steadiness_0 2 rfl) ki_0 ?_
  refine v_istore_n F (ls' := [(3, .int 0), (2, .int 0), (0, .ref (K.1 + 48)), (1, .int a1)]) (dq dkX2_steadiness_0 3 rfl) rfl (by decide) rfl ?_
  refine v_sub [2, 3, 1, 0] rfl ?_
  exact t_X2_steadiness_4 x F E 1000 a1 0 0 h
def rm_X2_driedApart : Room := { frames := 5, cells := 0, slots := 0, locals := 113 }
def f_X2_driedApart_101 (k27 : Int32 → Int32 → Int32 → Option (Int32)) (x : CS) (a2 : Int32) (a3 : Int32) (a4 : Int32) : Option (Int32) := k27 a2 a3 (a4 + 1)
set_option maxRecDepth 100000 in
set_option maxHeartbeats 4000000 in
theorem t_X2_driedApart_101 {C : Cx} {K : KE} {y : MS} {R : Int32}  (k27 : Int32 → Int32 → Int32 → Option (Int32)) (x : CS) (a2 : Int32) (a3 : Int32) (a4 : Int32) (hk27 : ∀ (a2 : Int32) (a3 : Int32) (a4 : Int32), k27 a2 a3 a4 = some R → V C 27 [(0, .ref (K.1 + 48)), (2, .int a2), (3, .int a3), (4, .int a4)] [] (xf K x y) 0 0) (h : f_X2_driedApart_101 k27 x a2 a3 a4 = some R) (F : Fx C RX2 cX2_driedApart 6 rm_X2_driedApart K) (E : CE C (xf K x y) (some (.int R)) 0 0 (some .int)) : V C 101 [(0, .ref (K.1 + 48)), (2, .int a2), (3, .int a3), (4, .int a4)] [] (xf K x y) 0 0 := by
  unfold f_X2_driedApart_101 at h
  refine v_iinc F (v := a4 + 1) (ls' := [(4, .int (a4 + 1)), (0, .ref (K.1 + 48)), (2, .int a2), (3, .int a3)]) (dq dkX2_driedApart_1 17 rfl) (j := 3) rfl (kv_add ki_1) (by decide) rfl ?_
  refine v_goto F (tgt := 27) (dq dkX2_driedApart_1 18 rfl) (by decide) ?_
  refine v_sub [1, 2, 3, 0] rfl ?_
  exact hk27 a2 a3 (a4 + 1) h
def f_X2_driedApart_27 (x : CS) : Nat → Int32 → Int32 → Int32 → Option (Int32)
  | 0, _, _, _ => none
  | n + 1, a2, a3, a4 => if 9 ≤ a4 then (some a2) else ((f_X8_of x 1 3 a4).bind fun r2 => gd (ib a4 9) ((f_X8_of x 1 4 a4).bind fun r5 => if (b2i (f_X2_isBroken x a4)) = 0 then (gd (ib a4 9) (if (gi x 50 a4.toNatClampNeg) ≤ 0 then (f_X2_driedApart_101 (f_X2_driedApart_27 x n) x a2 a3 a4) else (if a3 ≤ ((r2 * (gi x 50 a4.toNatClampNeg)) - (20 * r5)) then (f_X2_driedApart_101 (f_X2_driedApart_27 x n) x a2 a3 a4) else (f_X2_driedApart_101 (f_X2_driedApart_27 x n) x (a2 ||| (f_X2_bit a4)) a3 a4)))) else (f_X2_driedApart_101 (f_X2_driedApart_27 x n) x a2 a3 a4)))
set_option maxRecDepth 100000 in
set_option maxHeartbeats 4000000 in
theorem t_X2_driedApart_27 {C : Cx} {K : KE} {y : MS} {R : Int32}  (x : CS) (F : Fx C RX2 cX2_driedApart 6 rm_X2_driedApart K) (E : CE C (xf K x y) (some (.int R)) 0 0 (some .int)) : ∀ (n : Nat) (a2 : Int32) (a3 : Int32) (a4 : Int32) (h : f_X2_driedApart_27 x n a2 a3 a4 = some R), V C 27 [(0, .ref (K.1 + 48)), (2, .int a2), (3, .int a3), (4, .int a4)] [] (xf K x y) 0 0 := by
  intro n
  induction n with
  | zero => intro a2 a3 a4 h; cases h
  | succ n ih =>
    intro a2 a3 a4 h
    rw [f_X2_driedApart_27] at h
    refine v_iload F (dq dkX2_driedApart_0 18 rfl) 3 rfl ?_
    refine v_bipush F (v := 9) (dq dkX2_driedApart_0 19 rfl) kb_9 ?_
    refine v_icmp_ge F (tgt := 107) (dq dkX2_driedApart_0 20 rfl) (by decide) (fun c1 => ?_) (fun c1 => ?_)
    · rw [if_pos c1] at h
      refine v_iload_n F (dq dkX2_driedApart_1 19 rfl) rfl 1 rfl ?_
      cases h
      exact v_iret F E (dq dkX2_driedApart_1 20 rfl)
    · rw [if_neg c1] at h
      refine v_aload_n F (dq dkX2_driedApart_0 21 rfl) rfl 0 rfl ?_
      refine v_get F 48 (xn (by decide)) xc_48 rfl inlX2 0 (by decide) (tc5 _ (List.mem_of_getElem? (i := 11) rfl)) rfl rfl (dq dkX2_driedApart_0 22 rfl) ?_
      refine v_iconst F (v := 3) (dq dkX2_driedApart_0 23 rfl) ki_3 ?_
      refine v_iload F (dq dkX2_driedApart_0 24 rfl) 3 rfl ?_
      obtain ⟨r2, e3, h⟩ := bd_of h
      refine v_callV 2 F (q := 1) (as := [.int 3, .int a4]) (st := []) (st1 := (.int r2 :: [])) (res := (some (.int r2))) (c_X8_of (l := C.2.1) x y 1 3 a4 e3) (xn (by decide)) xc_1 rfl (tc20 _ (List.mem_of_getElem? (i := 13) rfl)) (tc14 _ (List.mem_of_getElem? (i := 11) rfl)) (tc14 _ (List.mem_of_getElem? (i := 12) rfl)) (tc1 _ (List.mem_of_getElem? (i := 15) rfl)) (tc14 _ (List.mem_of_getElem? (i := 13) rfl)) (by decide) rfl ⟨rfl, rfl, Nat.le_of_ble_eq_true rfl, Nat.le_of_ble_eq_true rfl⟩ ⟨Nat.le_of_ble_eq_true rfl, Nat.le_of_ble_eq_true rfl⟩ rfl (Nat.le_of_ble_eq_true rfl) rfl rfl rfl (dq dkX2_driedApart_0 25 rfl) ?_
      refine v_aload_n F (dq dkX2_driedApart_0 26 rfl) rfl 0 rfl ?_
      refine v_get F 48 (xn (by decide)) xc_48 rfl inlX2 3 (by decide) (tc5 _ (List.mem_of_getElem? (i := 1) rfl)) rfl rfl (dq dkX2_driedApart_0 27 rfl) ?_
      refine v_iload F (dq dkX2_driedApart_0 28 rfl) 3 rfl ?_
      obtain ⟨g4, h⟩ := gd_of h
      refine v_iald F 50 (xn (by decide)) xc_50 (ib_in g4) (dq dkX2_driedApart_0 29 rfl) ?_
      refine v_imul F (dq dkX2_driedApart_0 30 rfl) ?_
      refine v_bipush F (v := 20) (dq dkX2_driedApart_0 31 rfl) kb_20 ?_
      refine v_aload_n F (dq dkX2_driedApart_0 32 rfl) rfl 0 rfl ?_
      refine v_get F 48 (xn (by decide)) xc_48 rfl inlX2 0 (by decide) (tc5 _ (List.mem_of_getElem? (i := 11) rfl)) rfl rfl (dq dkX2_driedApart_0 33 rfl) ?_
      refine v_iconst F (v := 4) (dq dkX2_driedApart_0 34 rfl) ki_4 ?_
      refine v_iload F (dq dkX2_driedApart_0 35 rfl) 3 rfl ?_
      obtain ⟨r5, e6, h⟩ := bd_of h
      refine v_callV 2 F (q := 1) (as := [.int 4, .int a4]) (st := [.int 20, .int (r2 * (gi x 50 a4.toNatClampNeg))]) (st1 := (.int r5 :: [.int 20, .int (r2 * (gi x 50 a4.toNatClampNeg))])) (res := (some (.int r5))) (c_X8_of (l := C.2.1) x y 1 4 a4 e6) (xn (by decide)) xc_1 rfl (tc20 _ (List.mem_of_getElem? (i := 13) rfl)) (tc14 _ (List.mem_of_getElem? (i := 11) rfl)) (tc14 _ (List.mem_of_getElem? (i := 12) rfl)) (tc1 _ (List.mem_of_getElem? (i := 15) rfl)) (tc14 _ (List.mem_of_getElem? (i := 13) rfl)) (by decide) rfl ⟨rfl, rfl, Nat.le_of_ble_eq_true rfl, Nat.le_of_ble_eq_true rfl⟩ ⟨Nat.le_of_ble_eq_true rfl, Nat.le_of_ble_eq_true rfl⟩ rfl (Nat.le_of_ble_eq_true rfl) rfl rfl rfl (dq dkX2_driedApart_0 36 rfl) ?_
      refine v_imul F (dq dkX2_driedApart_0 37 rfl) ?_
      refine v_isub F (dq dkX2_driedApart_0 38 rfl) ?_
      refine v_istore F (ls' := [(5, .int ((r2 * (gi x 50 a4.toNatClampNeg)) - (20 * r5))), (0, .ref (K.1 + 48)), (2, .int a2), (3, .int a3), (4, .int a4)]) (dq dkX2_driedApart_0 39 rfl) (by decide) rfl ?_
      refine v_aload_n F (dq dkX2_driedApart_1 0 rfl) rfl 1 rfl ?_
      refine v_iload F (dq dkX2_driedApart_1 1 rfl) 4 rfl ?_
      refine v_callV 1 F (q := 48) (as := [.int a4]) (st := []) (st1 := (.int (b2i (f_X2_isBroken x a4)) :: [])) (res := (some (.int (b2i (f_X2_isBroken x a4))))) (c_X2_isBroken (l := C.2.1) x y a4) (xn (by decide)) xc_48 rfl (tc27 _ (List.mem_of_getElem? (i := 0) rfl)) (tc27 _ (List.mem_of_getElem? (i := 1) rfl)) (tc27 _ (List.mem_of_getElem? (i := 2) rfl)) (tc2 _ (List.mem_of_getElem? (i := 19) rfl)) (tc27 _ (List.mem_of_getElem? (i := 3) rfl)) (by decide) rfl ⟨rfl, rfl, Nat.le_of_ble_eq_true rfl, Nat.le_of_ble_eq_true rfl⟩ ⟨Nat.le_of_ble_eq_true rfl, Nat.le_of_ble_eq_true rfl⟩ rfl (Nat.le_of_ble_eq_true rfl) rfl rfl rfl (dq dkX2_driedApart_1 2 rfl) ?_
      refine v_if_ne F (tgt := 101) (dq dkX2_driedApart_1 3 rfl) (by decide) (fun c8 => ?_) (fun c8 => ?_)
      · rw [if_neg c8] at h
        refine v_sub [1, 2, 3, 4] rfl ?_
        exact t_X2_driedApart_101 (f_X2_driedApart_27 x n) x a2 a3 a4 ih h F E
      · rw [if_pos c8] at h
        refine v_aload_n F (dq dkX2_driedApart_1 4 rfl) rfl 1 rfl ?_
        refine v_get F 48 (xn (by decide)) xc_48 rfl inlX2 3 (by decide) (tc5 _ (List.mem_of_getElem? (i := 1) rfl)) rfl rfl (dq dkX2_driedApart_1 5 rfl) ?_
        refine v_iload F (dq dkX2_driedApart_1 6 rfl) 4 rfl ?_
        obtain ⟨g9, h⟩ := gd_of h
        refine v_iald F 50 (xn (by decide)) xc_50 (ib_in g9) (dq dkX2_driedApart_1 7 rfl) ?_
        refine v_if_le F (tgt := 101) (dq dkX2_driedApart_1 8 rfl) (by decide) (fun c10 => ?_) (fun c10 => ?_)
        · rw [if_pos c10] at h
          refine v_sub [1, 2, 3, 4] rfl ?_
          exact t_X2_driedApart_101 (f_X2_driedApart_27 x n) x a2 a3 a4 ih h F E
        · rw [if_neg c10] at h
          refine v_iload_n F (dq dkX2_driedApart_1 9 rfl) rfl 3 rfl ?_
          refine v_iload F (dq dkX2_driedApart_1 10 rfl) 0 rfl ?_
          refine v_icmp_le F (tgt := 101) (dq dkX2_driedApart_1 11 rfl) (by decide) (fun c11 => ?_) (fun c11 => ?_)
          · rw [if_pos c11] at h
            refine v_sub [1, 2, 3, 4] rfl ?_
            exact t_X2_driedApart_101 (f_X2_driedApart_27 x n) x a2 a3 a4 ih h F E
          · rw [if_neg c11] at h
            refine v_iload_n F (dq dkX2_driedApart_1 12 rfl) rfl 2 rfl ?_
            refine v_iload F (dq dkX2_driedApart_1 13 rfl) 4 rfl ?_
            refine v_callS 1 F (as := [.int a4]) (st := [.int a2]) (st1 := (.int (f_X2_bit a4) :: [.int a2])) (res := (some (.int (f_X2_bit a4)))) (c_X2_bit (l := C.2.1) a4) (tc26 _ (List.mem_of_getElem? (i := 4) rfl)) (tc26 _ (List.mem_of_getElem? (i := 5) rfl)) (tc2 _ (List.mem_of_getElem? (i := 19) rfl)) (tc26 _ (List.mem_of_getElem? (i := 6) rfl)) (by decide) rfl ⟨rfl, rfl, Nat.le_of_ble_eq_true rfl, Nat.le_of_ble_eq_true rfl⟩ ⟨Nat.le_of_ble_eq_true rfl, Nat.le_of_ble_eq_true rfl⟩ rfl (Nat.le_of_ble_eq_true rfl) rfl rfl rfl (dq dkX2_driedApart_1 14 rfl) ?_
            refine v_ior F (dq dkX2_driedApart_1 15 rfl) ?_
            refine v_istore_n F (ls' := [(2, .int (a2 ||| (f_X2_bit a4))), (5, .int ((r2 * (gi x 50 a4.toNatClampNeg)) - (20 * r5))), (0, .ref (K.1 + 48)), (3, .int a3), (4, .int a4)]) (dq dkX2_driedApart_1 16 rfl) rfl (by decide) rfl ?_
            refine v_sub [2, 0, 3, 4] rfl ?_
            exact t_X2_driedApart_101 (f_X2_driedApart_27 x n) x (a2 ||| (f_X2_bit a4)) a3 a4 ih h F E
def f_X2_driedApart (x : CS) (a1 : Int32) : Option (Int32) := (f_X8_setting x 1 2).bind fun r13 => (f_X8_setting x 1 4).bind fun r15 => f_X2_driedApart_27 x 1000 0 ((r13 * a1) * (r15 + 1)) 0
set_option maxRecDepth 100000 in
set_option maxHeartbeats 4000000 in
theorem c_X2_driedApart {K : KE} {l : Launch} {R : Int32} (x : CS) (y : MS) (a1 : Int32) (h : f_X2_driedApart x a1 = some R) : MC K l yX2_driedApart cX2_driedApart 6 (some .int) rm_X2_driedApart 0 0 [.ref (K.1 + 48), .int a1] (xf K x y) (xf K x y) (some (.int R)) := by
  refine mc_of (ls0 := [(0, .ref (K.1 + 48)), (1, .int a1)]) (by decide) (Nat.le_of_ble_eq_true rfl) rfl (fun C hl F E => ?_)
  have F : Fx C RX2 cX2_driedApart 6 rm_X2_driedApart K := F
  unfold f_X2_driedApart at h
  refine v_iconst F (v := 0) (dq dkX2_driedApart_0 0 rfl) ki_0 ?_
  refine v_istore_n F (ls' := [(2, .int 0), (0, .ref (K.1 + 48)), (1, .int a1)]) (dq dkX2_driedApart_0 1 rfl) rfl (by decide) rfl ?_
  refine v_aload_n F (dq dkX2_driedApart_0 2 rfl) rfl 1 rfl ?_
  refine v_get F 48 (xn (by decide)) xc_48 rfl inlX2 0 (by decide) (tc5 _ (List.mem_of_getElem? (i := 11) rfl)) rfl rfl (dq dkX2_driedApart_0 3 rfl) ?_
  refine v_iconst F (v := 2) (dq dkX2_driedApart_0 4 rfl) ki_2 ?_
  obtain ⟨r13, e14, h⟩ := bd_of h
  refine v_callV 1 F (q := 1) (as := [.int 2]) (st := []) (st1 := (.int r13 :: [])) (res := (some (.int r13))) (c_X8_setting (l := C.2.1) x y 1 2 e14) (xn (by decide)) xc_1 rfl (tc20 _ (List.mem_of_getElem? (i := 14) rfl)) (tc15 _ (List.mem_of_getElem? (i := 23) rfl)) (tc16 _ (List.mem_of_getElem? (i := 0) rfl)) (tc1 _ (List.mem_of_getElem? (i := 15) rfl)) (tc16 _ (List.mem_of_getElem? (i := 1) rfl)) (by decide) rfl ⟨rfl, rfl, Nat.le_of_ble_eq_true rfl, Nat.le_of_ble_eq_true rfl⟩ ⟨Nat.le_of_ble_eq_true rfl, Nat.le_of_ble_eq_true rfl⟩ rfl (Nat.le_of_ble_eq_true rfl) rfl rfl rfl (dq dkX2_driedApart_0 5 rfl) ?_
  refine v_iload_n F (dq dkX2_driedApart_0 6 rfl) rfl 2 rfl ?_
  refine v_imul F (dq dkX2_driedApart_0 7 rfl) ?_
  refine v_aload_n F (dq dkX2_driedApart_0 8 rfl) rfl 1 rfl ?_
  refine v_get F 48 (xn (by decide)) xc_48 rfl inlX2 0 (by decide) (tc5 _ (List.mem_of_getElem? (i := 11) rfl)) rfl rfl (dq dkX2_driedApart_0 9 rfl) ?_
  refine v_iconst F (v := 4) (dq dkX2_driedApart_0 10 rfl) ki_4 ?_
  obtain ⟨r15, e16, h⟩ := bd_of h
  refine v_callV 1 F (q := 1) (as := [.int 4]) (st := [.int (r13 * a1)]) (st1 := (.int r15 :: [.int (r13 * a1)])) (res := (some (.int r15))) (c_X8_setting (l := C.2.1) x y 1 4 e16) (xn (by decide)) xc_1 rfl (tc20 _ (List.mem_of_getElem? (i := 14) rfl)) (tc15 _ (List.mem_of_getElem? (i := 23) rfl)) (tc16 _ (List.mem_of_getElem? (i := 0) rfl)) (tc1 _ (List.mem_of_getElem? (i := 15) rfl)) (tc16 _ (List.mem_of_getElem? (i := 1) rfl)) (by decide) rfl ⟨rfl, rfl, Nat.le_of_ble_eq_true rfl, Nat.le_of_ble_eq_true rfl⟩ ⟨Nat.le_of_ble_eq_true rfl, Nat.le_of_ble_eq_true rfl⟩ rfl (Nat.le_of_ble_eq_true rfl) rfl rfl rfl (dq dkX2_driedApart_0 11 rfl) ?_
  refine v_iconst F (v := 1) (dq dkX2_driedApart_0 12 rfl) ki_1 ?_
  refine v_iadd F (dq dkX2_driedApart_0 13 rfl) ?_
  refine v_imul F (dq dkX2_driedApart_0 14 rfl) ?_
  refine v_istore_n F (ls' := [(3, .int ((r13 * a1) * (r15 + 1))), (2, .int 0), (0, .ref (K.1 + 48)), (1, .int a1)]) (dq dkX2_driedApart_0 15 rfl) rfl (by decide) rfl ?_
  refine v_iconst F (v := 0) (dq dkX2_driedApart_0 16 rfl) ki_0 ?_
  refine v_istore F (ls' := [(4, .int 0), (3, .int ((r13 * a1) * (r15 + 1))), (2, .int 0), (0, .ref (K.1 + 48)), (1, .int a1)]) (dq dkX2_driedApart_0 17 rfl) (by decide) rfl ?_
  refine v_sub [3, 2, 1, 0] rfl ?_
  exact t_X2_driedApart_27 x F E 1000 0 ((r13 * a1) * (r15 + 1)) 0 h
def rm_X3_keep : Room := { frames := 1, cells := 0, slots := 0, locals := 30 }
def f_X3_keep_23 (x : CS) : Option (Int32 × CS) := some ((-4), x)
set_option maxRecDepth 100000 in
set_option maxHeartbeats 4000000 in
theorem t_X3_keep_23 {C : Cx} {K : KE} {y : MS} {R : Int32 × CS}  (x : CS) (h : f_X3_keep_23 x = some R) (F : Fx C RX3 cX3_keep 3 rm_X3_keep K) (E : CE C (xf K R.2 y) (some (.int R.1)) 0 0 (some .int)) : V C 23 [] [] (xf K x y) 0 0 := by
  unfold f_X3_keep_23 at h
  refine v_bipush F (v := (-4)) (dq dkX3_keep_0 12 rfl) kb_m4 ?_
  cases h
  exact v_iret F E (dq dkX3_keep_0 13 rfl)
def f_X3_keep (x : CS) (a1 : Nat) (a2 : Nat) : Option (Int32 × CS) := if 6 ≤ (gi x 10 3) then (f_X3_keep_23 x) else (gd (decide (0 < al a1)) (if (nI (al a1)) < 160 then (f_X3_keep_23 x) else (gd (decide (0 < al a2)) (if 3 ≤ (nI (al a2)) then (gd (ib (gi x 10 3) 6) (gd (decide (0 < al a1)) (gd (decide (0 < al (12 + (gi x 10 3).toNatClampNeg))) (gd (cpok 0 0 160 (al a1) (al (12 + (gi x 10 3).toNatClampNeg))) (gd (ib (gi (pf x (12 + (gi x 10 3).toNatClampNeg) (va_cpy (gi x a1) (gi x (12 + (gi x 10 3).toNatClampNeg)) (0 : Int32).toNatClampNeg (0 : Int32).toNatClampNeg (160 : Int32).toNatClampNeg)) 10 3) 6) (gd (decide (0 < al a2)) (gd (decide (0 < al (19 + (gi (pf x (12 + (gi x 10 3).toNatClampNeg) (va_cpy (gi x a1) (gi x (12 + (gi x 10 3).toNatClampNeg)) (0 : Int32).toNatClampNeg (0 : Int32).toNatClampNeg (160 : Int32).toNatClampNeg)) 10 3).toNatClampNeg))) (gd (cpok 0 0 3 (al a2) (al (19 + (gi (pf x (12 + (gi x 10 3).toNatClampNeg) (va_cpy (gi x a1) (gi x (12 + (gi x 10 3).toNatClampNeg)) (0 : Int32).toNatClampNeg (0 : Int32).toNatClampNeg (160 : Int32).toNatClampNeg)) 10 3).toNatClampNeg))) (some ((gi (pi (pf (pf x (12 + (gi x 10 3).toNatClampNeg) (va_cpy (gi x a1) (gi x (12 + (gi x 10 3).toNatClampNeg)) (0 : Int32).toNatClampNeg (0 : Int32).toNatClampNeg (160 : Int32).toNatClampNeg)) (19 + (gi (pf x (12 + (gi x 10 3).toNatClampNeg) (va_cpy (gi x a1) (gi x (12 + (gi x 10 3).toNatClampNeg)) (0 : Int32).toNatClampNeg (0 : Int32).toNatClampNeg (160 : Int32).toNatClampNeg)) 10 3).toNatClampNeg) (va_cpy (gi (pf x (12 + (gi x 10 3).toNatClampNeg) (va_cpy (gi x a1) (gi x (12 + (gi x 10 3).toNatClampNeg)) (0 : Int32).toNatClampNeg (0 : Int32).toNatClampNeg (160 : Int32).toNatClampNeg)) a2) (gi (pf x (12 + (gi x 10 3).toNatClampNeg) (va_cpy (gi x a1) (gi x (12 + (gi x 10 3).toNatClampNeg)) (0 : Int32).toNatClampNeg (0 : Int32).toNatClampNeg (160 : Int32).toNatClampNeg)) (19 + (gi (pf x (12 + (gi x 10 3).toNatClampNeg) (va_cpy (gi x a1) (gi x (12 + (gi x 10 3).toNatClampNeg)) (0 : Int32).toNatClampNeg (0 : Int32).toNatClampNeg (160 : Int32).toNatClampNeg)) 10 3).toNatClampNeg)) (0 : Int32).toNatClampNeg (0 : Int32).toNatClampNeg (3 : Int32).toNatClampNeg)) 10 3 ((gi (pf (pf x (12 + (gi x 10 3).toNatClampNeg) (va_cpy (gi x a1) (gi x (12 + (gi x 10 3).toNatClampNeg)) (0 : Int32).toNatClampNeg (0 : Int32).toNatClampNeg (160 : Int32).toNatClampNeg)) (19 + (gi (pf x (12 + (gi x 10 3).toNatClampNeg) (va_cpy (gi x a1) (gi x (12 + (gi x 10 3).toNatClampNeg)) (0 : Int32).toNatClampNeg (0 : Int32).toNatClampNeg (160 : Int32).toNatClampNeg)) 10 3).toNatClampNeg) (va_cpy (gi (pf x (12 + (gi x 10 3).toNatClampNeg) (va_cpy (gi x a1) (gi x (12 + (gi x 10 3).toNatClampNeg)) (0 : Int32).toNatClampNeg (0 : Int32).toNatClampNeg (160 : Int32).toNatClampNeg)) a2) (gi (pf x (12 + (gi x 10 3).toNatClampNeg) (va_cpy (gi x a1) (gi x (12 + (gi x 10 3).toNatClampNeg)) (0 : Int32).toNatClampNeg (0 : Int32).toNatClampNeg (160 : Int32).toNatClampNeg)) (19 + (gi (pf x (12 + (gi x 10 3).toNatClampNeg) (va_cpy (gi x a1) (gi x (12 + (gi x 10 3).toNatClampNeg)) (0 : Int32).toNatClampNeg (0 : Int32).toNatClampNeg (160 : Int32).toNatClampNeg)) 10 3).toNatClampNeg)) (0 : Int32).toNatClampNeg (0 : Int32).toNatClampNeg (3 : Int32).toNatClampNeg)) 10 3) + 1)) 10 3) - 1, pi (pf (pf x (12 + (gi x 10 3).toNatClampNeg) (va_cpy (gi x a1) (gi x (12 + (gi x 10 3).toNatClampNeg)) (0 : Int32).toNatClampNeg (0 : Int32).toNatClampNeg (160 : Int32).toNatClampNeg)) (19 + (gi (pf x (12 + (gi x 10 3).toNatClampNeg) (va_cpy (gi x a1) (gi x (12 + (gi x 10 3).toNatClampNeg)) (0 : Int32).toNatClampNeg (0 : Int32).toNatClampNeg (160 : Int32).toNatClampNeg)) 10 3).toNatClampNeg) (va_cpy (gi (pf x (12 + (gi x 10 3).toNatClampNeg) (va_cpy (gi x a1) (gi x (12 + (gi x 10 3).toNatClampNeg)) (0 : Int32).toNatClampNeg (0 : Int32).toNatClampNeg (160 : Int32).toNatClampNeg)) a2) (gi (pf x (12 + (gi x 10 3).toNatClampNeg) (va_cpy (gi x a1) (gi x (12 + (gi x 10 3).toNatClampNeg)) (0 : Int32).toNatClampNeg (0 : Int32).toNatClampNeg (160 : Int32).toNatClampNeg)) (19 + (gi (pf x (12 + (gi x 10 3).toNatClampNeg) (va_cpy (gi x a1) (gi x (12 + (gi x 10 3).toNatClampNeg)) (0 : Int32).toNatClampNeg (0 : Int32).toNatClampNeg (160 : Int32).toNatClampNeg)) 10 3).toNatClampNeg)) (0 : Int32).toNatClampNeg (0 : Int32).toNatClampNeg (3 : Int32).toNatClampNeg)) 10 3 ((gi (pf (pf x (12 + (gi x 10 3).toNatClampNeg) (va_cpy (gi x a1) (gi x (12 + (gi x 10 3).toNatClampNeg)) (0 : Int32).toNatClampNeg (0 : Int32).toNatClampNeg (160 : Int32).toNatClampNeg)) (19 + (gi (pf x (12 + (gi x 10 3).toNatClampNeg) (va_cpy (gi x a1) (gi x (12 + (gi x 10 3).toNatClampNeg)) (0 : Int32).toNatClampNeg (0 : Int32).toNatClampNeg (160 : Int32).toNatClampNeg)) 10 3).toNatClampNeg) (va_cpy (gi (pf x (12 + (gi x 10 3).toNatClampNeg) (va_cpy (gi x a1) (gi x (12 + (gi x 10 3).toNatClampNeg)) (0 : Int32).toNatClampNeg (0 : Int32).toNatClampNeg (160 : Int32).toNatClampNeg)) a2) (gi (pf x (12 + (gi x 10 3).toNatClampNeg) (va_cpy (gi x a1) (gi x (12 + (gi x 10 3).toNatClampNeg)) (0 : Int32).toNatClampNeg (0 : Int32).toNatClampNeg (160 : Int32).toNatClampNeg)) (19 + (gi (pf x (12 + (gi x 10 3).toNatClampNeg) (va_cpy (gi x a1) (gi x (12 + (gi x 10 3).toNatClampNeg)) (0 : Int32).toNatClampNeg (0 : Int32).toNatClampNeg (160 : Int32).toNatClampNeg)) 10 3).toNatClampNeg)) (0 : Int32).toNatClampNeg (0 : Int32).toNatClampNeg (3 : Int32).toNatClampNeg)) 10 3) + 1))))))))))) else (f_X3_keep_23 x)))))
set_option maxRecDepth 100000 in
set_option maxHeartbeats 4000000 in
theorem c_X3_keep {K : KE} {l : Launch} {R : Int32 × CS} (x : CS) (y : MS) (a1 : Nat) (a2 : Nat) (h : f_X3_keep x a1 a2 = some R) : MC K l yX3_keep cX3_keep 3 (some .int) rm_X3_keep 0 0 [.ref (K.1 + 10), .ref (K.1 + a1), .ref (K.1 + a2)] (xf K x y) (xf K R.2 y) (some (.int R.1)) := by
  refine mc_of (ls0 := [(0, .ref (K.1 + 10)), (1, .ref (K.1 + a1)), (2, .ref (K.1 + a2))]) (by decide) (Nat.le_of_ble_eq_true rfl) rfl (fun C hl F E => ?_)
  have F : Fx C RX3 cX3_keep 3 rm_X3_keep K := F
  unfold f_X3_keep at h
  refine v_aload_n F (dq dkX3_keep_0 0 rfl) rfl 0 rfl ?_
  refine v_get F 10 (xn (by decide)) xc_10 rfl inlX3 3 (by decide) (tc3 _ (List.mem_of_getElem? (i := 16) rfl)) rfl rfl (dq dkX3_keep_0 1 rfl) ?_
  refine v_bipush F (v := 6) (dq dkX3_keep_0 2 rfl) kb_6 ?_
  refine v_icmp_ge F (tgt := 23) (dq dkX3_keep_0 3 rfl) (by decide) (fun c1 => ?_) (fun c1 => ?_)
  · rw [if_pos c1] at h
    refine v_sub [] rfl ?_
    exact t_X3_keep_23 x h F E
  · rw [if_neg c1] at h
    refine v_aload_n F (dq dkX3_keep_0 4 rfl) rfl 1 rfl ?_
    obtain ⟨g2, h⟩ := gd_of h
    refine v_alen F a1 (xl_lt g2) (xl_at g2) (t := 0) rfl (n := nI (al a1)) rfl (dq dkX3_keep_0 5 rfl) ?_
    refine v_sipush F (v := 160) (dq dkX3_keep_0 6 rfl) ks_160 ?_
    refine v_icmp_lt F (tgt := 23) (dq dkX3_keep_0 7 rfl) (by decide) (fun c3 => ?_) (fun c3 => ?_)
    · rw [if_pos c3] at h
      refine v_sub [] rfl ?_
      exact t_X3_keep_23 x h F E
    · rw [if_neg c3] at h
      refine v_aload_n F (dq dkX3_keep_0 8 rfl) rfl 2 rfl ?_
      obtain ⟨g4, h⟩ := gd_of h
      refine v_alen F a2 (xl_lt g4) (xl_at g4) (t := 0) rfl (n := nI (al a2)) rfl (dq dkX3_keep_0 9 rfl) ?_
      refine v_iconst F (v := 3) (dq dkX3_keep_0 10 rfl) ki_3 ?_
      refine v_icmp_ge F (tgt := 26) (dq dkX3_keep_0 11 rfl) (by decide) (fun c5 => ?_) (fun c5 => ?_)
      · rw [if_pos c5] at h
        refine v_aload_n F (dq dkX3_keep_0 14 rfl) rfl 1 rfl ?_
        refine v_iconst F (v := 0) (dq dkX3_keep_0 15 rfl) ki_0 ?_
        refine v_aload_n F (dq dkX3_keep_0 16 rfl) rfl 0 rfl ?_
        refine v_get F 10 (xn (by decide)) xc_10 rfl inlX3 0 (by decide) (tc3 _ (List.mem_of_getElem? (i := 13) rfl)) rfl rfl (dq dkX3_keep_0 17 rfl) ?_
        refine v_aload_n F (dq dkX3_keep_0 18 rfl) rfl 0 rfl ?_
        refine v_get F 10 (xn (by decide)) xc_10 rfl inlX3 3 (by decide) (tc3 _ (List.mem_of_getElem? (i := 16) rfl)) rfl rfl (dq dkX3_keep_0 19 rfl) ?_
        obtain ⟨g6, h⟩ := gd_of h
        refine v_aald F 11 (xn (by decide)) xc_11 (t := 2) rfl rfl (ib_in g6) (dq dkX3_keep_0 20 rfl) ?_
        refine v_iconst F (v := 0) (dq dkX3_keep_0 21 rfl) ki_0 ?_
        refine v_sipush F (v := 160) (dq dkX3_keep_0 22 rfl) ks_160 ?_
        obtain ⟨g7, h⟩ := gd_of h
        obtain ⟨g8, h⟩ := gd_of h
        obtain ⟨g9, h⟩ := gd_of h
        refine v_copy F a1 (12 + (gi x 10 3).toNatClampNeg) (xl_lt g7) (xl_at g7) (xl_lt g8) (xl_at g8) g9 (tc11 _ (List.mem_of_getElem? (i := 5) rfl)) (tc11 _ (List.mem_of_getElem? (i := 6) rfl)) (tc11 _ (List.mem_of_getElem? (i := 7) rfl)) (tc11 _ (List.mem_of_getElem? (i := 8) rfl)) (Nat.le_of_ble_eq_true rfl) (Nat.le_of_ble_eq_true rfl) (dq dkX3_keep_0 23 rfl) ?_
        refine v_eqM (xwF (xl_lc g8) (xa_all (of_decide_eq_true g8)).2 _) ?_
        refine v_aload_n F (dq dkX3_keep_0 24 rfl) rfl 2 rfl ?_
        refine v_iconst F (v := 0) (dq dkX3_keep_0 25 rfl) ki_0 ?_
        refine v_aload_n F (dq dkX3_keep_0 26 rfl) rfl 0 rfl ?_
        refine v_get F 10 (xn (by decide)) xc_10 rfl inlX3 1 (by decide) (tc3 _ (List.mem_of_getElem? (i := 14) rfl)) rfl rfl (dq dkX3_keep_0 27 rfl) ?_
        refine v_aload_n F (dq dkX3_keep_0 28 rfl) rfl 0 rfl ?_
        refine v_get F 10 (xn (by decide)) xc_10 rfl inlX3 3 (by decide) (tc3 _ (List.mem_of_getElem? (i := 16) rfl)) rfl rfl (dq dkX3_keep_0 29 rfl) ?_
        obtain ⟨g10, h⟩ := gd_of h
        refine v_aald F 18 (xn (by decide)) xc_18 (t := 2) rfl rfl (ib_in g10) (dq dkX3_keep_0 30 rfl) ?_
        refine v_iconst F (v := 0) (dq dkX3_keep_0 31 rfl) ki_0 ?_
        refine v_iconst F (v := 3) (dq dkX3_keep_0 32 rfl) ki_3 ?_
        obtain ⟨g11, h⟩ := gd_of h
        obtain ⟨g12, h⟩ := gd_of h
        obtain ⟨g13, h⟩ := gd_of h
        refine v_copy F a2 (19 + (gi (pf x (12 + (gi x 10 3).toNatClampNeg) (va_cpy (gi x a1) (gi x (12 + (gi x 10 3).toNatClampNeg)) (0 : Int32).toNatClampNeg (0 : Int32).toNatClampNeg (160 : Int32).toNatClampNeg)) 10 3).toNatClampNeg) (xl_lt g11) (xl_at g11) (xl_lt g12) (xl_at g12) g13 (tc11 _ (List.mem_of_getElem? (i := 5) rfl)) (tc11 _ (List.mem_of_getElem? (i := 6) rfl)) (tc11 _ (List.mem_of_getElem? (i := 7) rfl)) (tc11 _ (List.mem_of_getElem? (i := 8) rfl)) (Nat.le_of_ble_eq_true rfl) (Nat.le_of_ble_eq_true rfl) (dq dkX3_keep_0 33 rfl) ?_
        refine v_eqM (xwF (xl_lc g12) (xa_all (of_decide_eq_true g12)).2 _) ?_
        refine v_aload_n F (dq dkX3_keep_0 34 rfl) rfl 0 rfl ?_
        refine v_dup F (dq dkX3_keep_0 35 rfl) rfl ?_
        refine v_get F 10 (xn (by decide)) xc_10 rfl inlX3 3 (by decide) (tc3 _ (List.mem_of_getElem? (i := 16) rfl)) rfl rfl (dq dkX3_keep_0 36 rfl) ?_
        refine v_iconst F (v := 1) (dq dkX3_keep_0 37 rfl) ki_1 ?_
        refine v_iadd F (dq dkX3_keep_0 38 rfl) ?_
        refine v_put F 10 (xn (by decide)) xc_10 rfl inlX3 tyX3_ok nmX3 3 (by decide) (tc3 _ (List.mem_of_getElem? (i := 16) rfl)) rfl rfl (tyX3_ok 3 (by decide)) rfl rfl (Nat.le_of_ble_eq_true rfl) (dq dkX3_keep_0 39 rfl) ?_
        refine v_eqM (xwC (q := 10) (j := 3) (v := (gi (pf (pf x (12 + (gi x 10 3).toNatClampNeg) (va_cpy (gi x a1) (gi x (12 + (gi x 10 3).toNatClampNeg)) (0 : Int32).toNatClampNeg (0 : Int32).toNatClampNeg (160 : Int32).toNatClampNeg)) (19 + (gi (pf x (12 + (gi x 10 3).toNatClampNeg) (va_cpy (gi x a1) (gi x (12 + (gi x 10 3).toNatClampNeg)) (0 : Int32).toNatClampNeg (0 : Int32).toNatClampNeg (160 : Int32).toNatClampNeg)) 10 3).toNatClampNeg) (va_cpy (gi (pf x (12 + (gi x 10 3).toNatClampNeg) (va_cpy (gi x a1) (gi x (12 + (gi x 10 3).toNatClampNeg)) (0 : Int32).toNatClampNeg (0 : Int32).toNatClampNeg (160 : Int32).toNatClampNeg)) a2) (gi (pf x (12 + (gi x 10 3).toNatClampNeg) (va_cpy (gi x a1) (gi x (12 + (gi x 10 3).toNatClampNeg)) (0 : Int32).toNatClampNeg (0 : Int32).toNatClampNeg (160 : Int32).toNatClampNeg)) (19 + (gi (pf x (12 + (gi x 10 3).toNatClampNeg) (va_cpy (gi x a1) (gi x (12 + (gi x 10 3).toNatClampNeg)) (0 : Int32).toNatClampNeg (0 : Int32).toNatClampNeg (160 : Int32).toNatClampNeg)) 10 3).toNatClampNeg)) (0 : Int32).toNatClampNeg (0 : Int32).toNatClampNeg (3 : Int32).toNatClampNeg)) 10 3) + 1) (by decide) rfl) ?_
        refine v_aload_n F (dq dkX3_keep_1 0 rfl) rfl 0 rfl ?_
        refine v_get F 10 (xn (by decide)) xc_10 rfl inlX3 3 (by decide) (tc3 _ (List.mem_of_getElem? (i := 16) rfl)) rfl rfl (dq dkX3_keep_1 1 rfl) ?_
        refine v_iconst F (v := 1) (dq dkX3_keep_1 2 rfl) ki_1 ?_
        refine v_isub F (dq dkX3_keep_1 3 rfl) ?_
        cases h
        exact v_iret F E (dq dkX3_keep_1 4 rfl)
      · rw [if_neg c5] at h
        refine v_sub [] rfl ?_
        exact t_X3_keep_23 x h F E
def rm_X4_become : Room := { frames := 1, cells := 0, slots := 0, locals := 30 }
def f_X4_become_30 (t0 : Nat) : Nat → CS → Int32 → Option (CS)
  | 0, _, _ => none
  | n + 1, x, a3 => if 40 ≤ a3 then (some x) else (gd (kSh t0) (gd (ib a3 (al (t0 + 1))) ((f_X4_become_30 t0 n) (pi x (t0 + 1) a3.toNatClampNeg 0) (a3 + 1))))
set_option maxRecDepth 100000 in
set_option maxHeartbeats 4000000 in
theorem t_X4_become_30 {C : Cx} {K : KE} {y : MS} {R : CS}  (t0 : Nat) (F : Fx C RX4 cX4_become 4 rm_X4_become K) (E : CE C (xf K R y) none 0 0 none) : ∀ (n : Nat) (x : CS) (a3 : Int32) (h : f_X4_become_30 t0 n x a3 = some R), V C 30 [(0, .ref (K.1 + t0)), (3, .int a3)] [] (xf K x y) 0 0 := by
  intro n
  induction n with
  | zero => intro x a3 h; cases h
  | succ n ih =>
    intro x a3 h
    rw [f_X4_become_30] at h
    refine v_iload_n F (dq dkX4_become_0 17 rfl) rfl 1 rfl ?_
    refine v_bipush F (v := 40) (dq dkX4_become_0 18 rfl) kb_40 ?_
    refine v_icmp_ge F (tgt := 49) (dq dkX4_become_0 19 rfl) (by decide) (fun c1 => ?_) (fun c1 => ?_)
    · rw [if_pos c1] at h
      cases h
      exact v_vret F E (dq dkX4_become_0 27 rfl)
    · rw [if_neg c1] at h
      refine v_aload_n F (dq dkX4_become_0 20 rfl) rfl 0 rfl ?_
      obtain ⟨g2, h⟩ := gd_of h
      refine v_get F t0 (kSh_lt g2) (kSh_at g2) rfl inlX4 0 (by decide) (tc5 _ (List.mem_of_getElem? (i := 16) rfl)) rfl rfl (dq dkX4_become_0 21 rfl) ?_
      refine v_iload_n F (dq dkX4_become_0 22 rfl) rfl 1 rfl ?_
      refine v_iconst F (v := 0) (dq dkX4_become_0 23 rfl) ki_0 ?_
      obtain ⟨g3, h⟩ := gd_of h
      refine v_iast F (t0 + 1) (xa_lt g3) (xa_at g3) (ib_in g3) (dq dkX4_become_0 24 rfl) ?_
      refine v_eqM (xwC (q := (t0 + 1)) (j := a3.toNatClampNeg) (v := 0) (xa_lc g3) (xa_e g3)) ?_
      refine v_iinc F (v := a3 + 1) (ls' := [(3, .int (a3 + 1)), (0, .ref (K.1 + t0))]) (dq dkX4_become_0 25 rfl) (j := 1) rfl (kv_add ki_1) (by decide) rfl ?_
      refine v_goto F (tgt := 30) (dq dkX4_become_0 26 rfl) (by decide) ?_
      refine v_sub [1, 0] rfl ?_
      exact ih (pi x (t0 + 1) a3.toNatClampNeg 0) (a3 + 1) h
def f_X4_become_25 (t0 : Nat) (x : CS) (s0 : Int32) (s1 : Nat) : Option (CS) := gd (kSh s1) (f_X4_become_30 t0 1000 (pi x s1 2 s0) 0)
set_option maxRecDepth 100000 in
set_option maxHeartbeats 4000000 in
theorem t_X4_become_25 {C : Cx} {K : KE} {y : MS} {R : CS}  (t0 : Nat) (x : CS) (s0 : Int32) (s1 : Nat) (h : f_X4_become_25 t0 x s0 s1 = some R) (F : Fx C RX4 cX4_become 4 rm_X4_become K) (E : CE C (xf K R y) none 0 0 none) : V C 25 [(0, .ref (K.1 + t0))] [.int s0, .ref (K.1 + s1)] (xf K x y) 0 0 := by
  unfold f_X4_become_25 at h
  obtain ⟨g4, h⟩ := gd_of h
  refine v_put F s1 (kSh_lt g4) (kSh_at g4) rfl inlX4 tyX4_ok nmX4 2 (by decide) (tc5 _ (List.mem_of_getElem? (i := 18) rfl)) rfl rfl (tyX4_ok 2 (by decide)) rfl rfl (Nat.le_of_ble_eq_true rfl) (dq dkX4_become_0 14 rfl) ?_
  refine v_eqM (kSh_w2 g4) ?_
  refine v_iconst F (v := 0) (dq dkX4_become_0 15 rfl) ki_0 ?_
  refine v_istore_n F (ls' := [(3, .int 0), (0, .ref (K.1 + t0))]) (dq dkX4_become_0 16 rfl) rfl (by decide) rfl ?_
  refine v_sub [1, 0] rfl ?_
  exact t_X4_become_30 t0 F E 1000 (pi x s1 2 s0) 0 h
def f_X4_become (x : CS) (t0 : Nat) (a1 : Int32) (a2 : Int32) : Option (CS) := gd (kSh t0) (gd (kSh t0) (if a1 = (-1) then (f_X4_become_25 t0 (pi x t0 1 a1) 0 t0) else (f_X4_become_25 t0 (pi x t0 1 a1) (if 0 < (if 40 < a2 then 40 else a2) then (if 40 < a2 then 40 else a2) else 0) t0)))
set_option maxRecDepth 100000 in
set_option maxHeartbeats 4000000 in
theorem c_X4_become {K : KE} {l : Launch} {R : CS} (x : CS) (y : MS) (t0 : Nat) (a1 : Int32) (a2 : Int32) (h : f_X4_become x t0 a1 a2 = some R) : MC K l yX4_become cX4_become 4 none rm_X4_become 0 0 [.ref (K.1 + t0), .int a1, .int a2] (xf K x y) (xf K R y) none := by
  refine mc_of (ls0 := [(0, .ref (K.1 + t0)), (1, .int a1), (2, .int a2)]) (by decide) (Nat.le_of_ble_eq_true rfl) rfl (fun C hl F E => ?_)
  have F : Fx C RX4 cX4_become 4 rm_X4_become K := F
  unfold f_X4_become at h
  obtain ⟨_, h⟩ := gd_of h
  refine v_aload_n F (dq dkX4_become_0 0 rfl) rfl 0 rfl ?_
  refine v_iload_n F (dq dkX4_become_0 1 rfl) rfl 1 rfl ?_
  obtain ⟨g5, h⟩ := gd_of h
  refine v_put F t0 (kSh_lt g5) (kSh_at g5) rfl inlX4 tyX4_ok nmX4 1 (by decide) (tc5 _ (List.mem_of_getElem? (i := 17) rfl)) rfl rfl (tyX4_ok 1 (by decide)) rfl rfl (Nat.le_of_ble_eq_true rfl) (dq dkX4_become_0 2 rfl) ?_
  refine v_eqM (kSh_w1 g5) ?_
  refine v_aload_n F (dq dkX4_become_0 3 rfl) rfl 0 rfl ?_
  refine v_iload_n F (dq dkX4_become_0 4 rfl) rfl 1 rfl ?_
  refine v_iconst F (v := (-1)) (dq dkX4_become_0 5 rfl) ki_m1 ?_
  refine v_icmp_ne F (tgt := 15) (dq dkX4_become_0 6 rfl) (by decide) (fun c6 => ?_) (fun c6 => ?_)
  · rw [if_neg c6] at h
    refine v_iconst F (v := 0) (dq dkX4_become_0 9 rfl) ki_0 ?_
    refine v_iload_n F (dq dkX4_become_0 10 rfl) rfl 2 rfl ?_
    refine v_bipush F (v := 40) (dq dkX4_become_0 11 rfl) kb_40 ?_
    refine v_mmin F (tc51 _ (List.mem_of_getElem? (i := 17) rfl)) (tc21 _ (List.mem_of_getElem? (i := 0) rfl)) (tc21 _ (List.mem_of_getElem? (i := 1) rfl)) (tc21 _ (List.mem_of_getElem? (i := 2) rfl)) (Nat.le_of_ble_eq_true rfl) (Nat.le_of_ble_eq_true rfl) (Nat.le_of_ble_eq_true rfl) (Nat.le_of_ble_eq_true rfl) (dq dkX4_become_0 12 rfl) ?_
    refine v_mmax F (tc51 _ (List.mem_of_getElem? (i := 18) rfl)) (tc21 _ (List.mem_of_getElem? (i := 4) rfl)) (tc21 _ (List.mem_of_getElem? (i := 1) rfl)) (tc21 _ (List.mem_of_getElem? (i := 5) rfl)) (Nat.le_of_ble_eq_true rfl) (Nat.le_of_ble_eq_true rfl) (Nat.le_of_ble_eq_true rfl) (Nat.le_of_ble_eq_true rfl) (dq dkX4_become_0 13 rfl) ?_
    refine v_sub [0] rfl ?_
    exact t_X4_become_25 t0 (pi x t0 1 a1) (if 0 < (if 40 < a2 then 40 else a2) then (if 40 < a2 then 40 else a2) else 0) t0 h F E
  · rw [if_pos c6] at h
    refine v_iconst F (v := 0) (dq dkX4_become_0 7 rfl) ki_0 ?_
    refine v_goto F (tgt := 25) (dq dkX4_become_0 8 rfl) (by decide) ?_
    refine v_sub [0] rfl ?_
    exact t_X4_become_25 t0 (pi x t0 1 a1) 0 t0 h F E
theorem f_X4_become_k {R : CS} {x : CS} {t0 : Nat} {a1 : Int32} {a2 : Int32} (h : f_X4_become x t0 a1 a2 = some R) : kSh t0 = true := by
  unfold f_X4_become at h
  exact (gd_of h).1
def rm_X4_isMissing : Room := { frames := 1, cells := 0, slots := 0, locals := 30 }
def f_X4_isMissing (x : CS) (t0 : Nat) : Option (Bool) := gd (kSh t0) (gd (kSh t0) (if (gi x t0 1) = (-1) then (some true) else (some false)))
set_option maxRecDepth 100000 in
set_option maxHeartbeats 4000000 in
theorem c_X4_isMissing {K : KE} {l : Launch} {R : Bool} (x : CS) (y : MS) (t0 : Nat) (h : f_X4_isMissing x t0 = some R) : MC K l yX4_isMissing cX4_isMissing 1 (some .boolean) rm_X4_isMissing 0 0 [.ref (K.1 + t0)] (xf K x y) (xf K x y) (some (.int (b2i R))) := by
  refine mc_of (ls0 := [(0, .ref (K.1 + t0))]) (by decide) (Nat.le_of_ble_eq_true rfl) rfl (fun C hl F E => ?_)
  have F : Fx C RX4 cX4_isMissing 1 rm_X4_isMissing K := F
  unfold f_X4_isMissing at h
  obtain ⟨_, h⟩ := gd_of h
  refine v_aload_n F (dq dkX4_isMissing_0 0 rfl) rfl 0 rfl ?_
  obtain ⟨g1, h⟩ := gd_of h
  refine v_get F t0 (kSh_lt g1) (kSh_at g1) rfl inlX4 1 (by decide) (tc5 _ (List.mem_of_getElem? (i := 17) rfl)) rfl rfl (dq dkX4_isMissing_0 1 rfl) ?_
  refine v_iconst F (v := (-1)) (dq dkX4_isMissing_0 2 rfl) ki_m1 ?_
  refine v_icmp_ne F (tgt := 12) (dq dkX4_isMissing_0 3 rfl) (by decide) (fun c2 => ?_) (fun c2 => ?_)
  · rw [if_neg c2] at h
    refine v_iconst F (v := 0) (dq dkX4_isMissing_0 6 rfl) ki_0 ?_
    cases h
    exact v_zret F E (b2i_n false) (dq dkX4_isMissing_0 7 rfl)
  · rw [if_pos c2] at h
    refine v_iconst F (v := 1) (dq dkX4_isMissing_0 4 rfl) ki_1 ?_
    refine v_goto F (tgt := 13) (dq dkX4_isMissing_0 5 rfl) (by decide) ?_
    cases h
    exact v_zret F E (b2i_n true) (dq dkX4_isMissing_0 7 rfl)
theorem f_X4_isMissing_k {R : Bool} {x : CS} {t0 : Nat} (h : f_X4_isMissing x t0 = some R) : kSh t0 = true := by
  unfold f_X4_isMissing at h
  exact (gd_of h).1
def rm_X4_hasAll : Room := { frames := 1, cells := 0, slots := 0, locals := 30 }
def f_X4_hasAll_22 (t0 : Nat) (x : CS) : Option (Bool) := some false
set_option maxRecDepth 100000 in
set_option maxHeartbeats 4000000 in
theorem t_X4_hasAll_22 {C : Cx} {K : KE} {y : MS} {R : Bool}  (t0 : Nat) (x : CS) (h : f_X4_hasAll_22 t0 x = some R) (F : Fx C RX4 cX4_hasAll 3 rm_X4_hasAll K) (E : CE C (xf K x y) (some (.int (b2i R))) 0 0 (some .boolean)) : V C 22 [] [] (xf K x y) 0 0 := by
  unfold f_X4_hasAll_22 at h
  refine v_iconst F (v := 0) (dq dkX4_hasAll_0 12 rfl) ki_0 ?_
  cases h
  exact v_zret F E (b2i_n false) (dq dkX4_hasAll_0 13 rfl)
def f_X4_hasAll (x : CS) (t0 : Nat) (a1 : Int32) (a2 : Int32) : Option (Bool) := gd (kSh t0) (if a2 < 0 then (f_X4_hasAll_22 t0 x) else (if a1 < 0 then (f_X4_hasAll_22 t0 x) else (gd (kSh t0) (if ((gi x t0 2) - a2) < a1 then (f_X4_hasAll_22 t0 x) else (some true)))))
set_option maxRecDepth 100000 in
set_option maxHeartbeats 4000000 in
theorem c_X4_hasAll {K : KE} {l : Launch} {R : Bool} (x : CS) (y : MS) (t0 : Nat) (a1 : Int32) (a2 : Int32) (h : f_X4_hasAll x t0 a1 a2 = some R) : MC K l yX4_hasAll cX4_hasAll 3 (some .boolean) rm_X4_hasAll 0 0 [.ref (K.1 + t0), .int a1, .int a2] (xf K x y) (xf K x y) (some (.int (b2i R))) := by
  refine mc_of (ls0 := [(0, .ref (K.1 + t0)), (1, .int a1), (2, .int a2)]) (by decide) (Nat.le_of_ble_eq_true rfl) rfl (fun C hl F E => ?_)
  have F : Fx C RX4 cX4_hasAll 3 rm_X4_hasAll K := F
  unfold f_X4_hasAll at h
  obtain ⟨_, h⟩ := gd_of h
  refine v_iload_n F (dq dkX4_hasAll_0 0 rfl) rfl 2 rfl ?_
  refine v_if_lt F (tgt := 22) (dq dkX4_hasAll_0 1 rfl) (by decide) (fun c1 => ?_) (fun c1 => ?_)
  · rw [if_pos c1] at h
    refine v_sub [] rfl ?_
    exact t_X4_hasAll_22 t0 x h F E
  · rw [if_neg c1] at h
    refine v_iload_n F (dq dkX4_hasAll_0 2 rfl) rfl 1 rfl ?_
    refine v_if_lt F (tgt := 22) (dq dkX4_hasAll_0 3 rfl) (by decide) (fun c2 => ?_) (fun c2 => ?_)
    · rw [if_pos c2] at h
      refine v_sub [] rfl ?_
      exact t_X4_hasAll_22 t0 x h F E
    · rw [if_neg c2] at h
      refine v_iload_n F (dq dkX4_hasAll_0 4 rfl) rfl 1 rfl ?_
      refine v_aload_n F (dq dkX4_hasAll_0 5 rfl) rfl 0 rfl ?_
      obtain ⟨g3, h⟩ := gd_of h
      refine v_get F t0 (kSh_lt g3) (kSh_at g3) rfl inlX4 2 (by decide) (tc5 _ (List.mem_of_getElem? (i := 18) rfl)) rfl rfl (dq dkX4_hasAll_0 6 rfl) ?_
      refine v_iload_n F (dq dkX4_hasAll_0 7 rfl) rfl 2 rfl ?_
      refine v_isub F (dq dkX4_hasAll_0 8 rfl) ?_
      refine v_icmp_gt F (tgt := 22) (dq dkX4_hasAll_0 9 rfl) (by decide) (fun c4 => ?_) (fun c4 => ?_)
      · rw [if_pos c4] at h
        refine v_sub [] rfl ?_
        exact t_X4_hasAll_22 t0 x h F E
      · rw [if_neg c4] at h
        refine v_iconst F (v := 1) (dq dkX4_hasAll_0 10 rfl) ki_1 ?_
        refine v_goto F (tgt := 23) (dq dkX4_hasAll_0 11 rfl) (by decide) ?_
        cases h
        exact v_zret F E (b2i_n true) (dq dkX4_hasAll_0 13 rfl)
theorem f_X4_hasAll_k {R : Bool} {x : CS} {t0 : Nat} {a1 : Int32} {a2 : Int32} (h : f_X4_hasAll x t0 a1 a2 = some R) : kSh t0 = true := by
  unfold f_X4_hasAll at h
  exact (gd_of h).1
def rm_X4_put : Room := { frames := 2, cells := 0, slots := 0, locals := 51 }
def f_X4_put (x : CS) (t0 : Nat) (a1 : Int32) (a2 : Int32) : Option (CS) := gd (kSh t0) ((f_X4_has x t0 a1).bind fun r1 => if (b2i r1) = 0 then (some x) else (gd (kSh t0) (if (gi x t0 1) = 0 then (gd (kSh t0) (gd (ib a1 (al (t0 + 1))) (some (pi x (t0 + 1) a1.toNatClampNeg a2.toInt8.toInt32)))) else (gd (kSh t0) (if (gi x t0 1) = 1 then (gd (kSh t0) (gd (ib a1 (al (t0 + 1))) (some (pi x (t0 + 1) a1.toNatClampNeg a2.toInt16.toInt32)))) else (gd (kSh t0) (gd (ib a1 (al (t0 + 1))) (some (pi x (t0 + 1) a1.toNatClampNeg a2)))))))))
set_option maxRecDepth 100000 in
set_option maxHeartbeats 4000000 in
theorem c_X4_put {K : KE} {l : Launch} {R : CS} (x : CS) (y : MS) (t0 : Nat) (a1 : Int32) (a2 : Int32) (h : f_X4_put x t0 a1 a2 = some R) : MC K l yX4_put cX4_put 3 none rm_X4_put 0 0 [.ref (K.1 + t0), .int a1, .int a2] (xf K x y) (xf K R y) none := by
  refine mc_of (ls0 := [(0, .ref (K.1 + t0)), (1, .int a1), (2, .int a2)]) (by decide) (Nat.le_of_ble_eq_true rfl) rfl (fun C hl F E => ?_)
  have F : Fx C RX4 cX4_put 3 rm_X4_put K := F
  unfold f_X4_put at h
  obtain ⟨_, h⟩ := gd_of h
  refine v_aload_n F (dq dkX4_put_0 0 rfl) rfl 0 rfl ?_
  refine v_iload_n F (dq dkX4_put_0 1 rfl) rfl 1 rfl ?_
  obtain ⟨r1, e2, h⟩ := bd_of h
  refine v_callV 1 F (q := t0) (as := [.int a1]) (st := []) (st1 := (.int (b2i r1) :: [])) (res := (some (.int (b2i r1)))) (c_X4_has (l := C.2.1) x y t0 a1 e2) (kSh_lt (f_X4_has_k e2)) (kSh_at (f_X4_has_k e2)) rfl (tc35 _ (List.mem_of_getElem? (i := 11) rfl)) (tc35 _ (List.mem_of_getElem? (i := 12) rfl)) (tc35 _ (List.mem_of_getElem? (i := 13) rfl)) (tc2 _ (List.mem_of_getElem? (i := 22) rfl)) (tc35 _ (List.mem_of_getElem? (i := 14) rfl)) (by decide) rfl ⟨rfl, rfl, Nat.le_of_ble_eq_true rfl, Nat.le_of_ble_eq_true rfl⟩ ⟨Nat.le_of_ble_eq_true rfl, Nat.le_of_ble_eq_true rfl⟩ rfl (Nat.le_of_ble_eq_true rfl) rfl rfl rfl (dq dkX4_put_0 2 rfl) ?_
  refine v_if_ne F (tgt := 9) (dq dkX4_put_0 3 rfl) (by decide) (fun c3 => ?_) (fun c3 => ?_)
  · rw [if_neg c3] at h
    refine v_aload_n F (dq dkX4_put_0 5 rfl) rfl 0 rfl ?_
    obtain ⟨g4, h⟩ := gd_of h
    refine v_get F t0 (kSh_lt g4) (kSh_at g4) rfl inlX4 1 (by decide) (tc5 _ (List.mem_of_getElem? (i := 17) rfl)) rfl rfl (dq dkX4_put_0 6 rfl) ?_
    refine v_if_ne F (tgt := 27) (dq dkX4_put_0 7 rfl) (by decide) (fun c5 => ?_) (fun c5 => ?_)
    · rw [if_neg c5] at h
      refine v_aload_n F (dq dkX4_put_0 15 rfl) rfl 0 rfl ?_
      obtain ⟨g6, h⟩ := gd_of h
      refine v_get F t0 (kSh_lt g6) (kSh_at g6) rfl inlX4 1 (by decide) (tc5 _ (List.mem_of_getElem? (i := 17) rfl)) rfl rfl (dq dkX4_put_0 16 rfl) ?_
      refine v_iconst F (v := 1) (dq dkX4_put_0 17 rfl) ki_1 ?_
      refine v_icmp_ne F (tgt := 46) (dq dkX4_put_0 18 rfl) (by decide) (fun c7 => ?_) (fun c7 => ?_)
      · rw [if_neg c7] at h
        refine v_aload_n F (dq dkX4_put_0 26 rfl) rfl 0 rfl ?_
        obtain ⟨g8, h⟩ := gd_of h
        refine v_get F t0 (kSh_lt g8) (kSh_at g8) rfl inlX4 0 (by decide) (tc5 _ (List.mem_of_getElem? (i := 16) rfl)) rfl rfl (dq dkX4_put_0 27 rfl) ?_
        refine v_iload_n F (dq dkX4_put_0 28 rfl) rfl 1 rfl ?_
        refine v_iload_n F (dq dkX4_put_0 29 rfl) rfl 2 rfl ?_
        obtain ⟨g9, h⟩ := gd_of h
        refine v_iast F (t0 + 1) (xa_lt g9) (xa_at g9) (ib_in g9) (dq dkX4_put_0 30 rfl) ?_
        refine v_eqM (xwC (q := (t0 + 1)) (j := a1.toNatClampNeg) (v := a2) (xa_lc g9) (xa_e g9)) ?_
        cases h
        exact v_vret F E (dq dkX4_put_0 31 rfl)
      · rw [if_pos c7] at h
        refine v_aload_n F (dq dkX4_put_0 19 rfl) rfl 0 rfl ?_
        obtain ⟨g10, h⟩ := gd_of h
        refine v_get F t0 (kSh_lt g10) (kSh_at g10) rfl inlX4 0 (by decide) (tc5 _ (List.mem_of_getElem? (i := 16) rfl)) rfl rfl (dq dkX4_put_0 20 rfl) ?_
        refine v_iload_n F (dq dkX4_put_0 21 rfl) rfl 1 rfl ?_
        refine v_iload_n F (dq dkX4_put_0 22 rfl) rfl 2 rfl ?_
        refine v_i2s F (dq dkX4_put_0 23 rfl) ?_
        obtain ⟨g11, h⟩ := gd_of h
        refine v_iast F (t0 + 1) (xa_lt g11) (xa_at g11) (ib_in g11) (dq dkX4_put_0 24 rfl) ?_
        refine v_eqM (xwC (q := (t0 + 1)) (j := a1.toNatClampNeg) (v := a2.toInt16.toInt32) (xa_lc g11) (xa_e g11)) ?_
        refine v_goto F (tgt := 53) (dq dkX4_put_0 25 rfl) (by decide) ?_
        cases h
        exact v_vret F E (dq dkX4_put_0 31 rfl)
    · rw [if_pos c5] at h
      refine v_aload_n F (dq dkX4_put_0 8 rfl) rfl 0 rfl ?_
      obtain ⟨g12, h⟩ := gd_of h
      refine v_get F t0 (kSh_lt g12) (kSh_at g12) rfl inlX4 0 (by decide) (tc5 _ (List.mem_of_getElem? (i := 16) rfl)) rfl rfl (dq dkX4_put_0 9 rfl) ?_
      refine v_iload_n F (dq dkX4_put_0 10 rfl) rfl 1 rfl ?_
      refine v_iload_n F (dq dkX4_put_0 11 rfl) rfl 2 rfl ?_
      refine v_i2b F (dq dkX4_put_0 12 rfl) ?_
      obtain ⟨g13, h⟩ := gd_of h
      refine v_iast F (t0 + 1) (xa_lt g13) (xa_at g13) (ib_in g13) (dq dkX4_put_0 13 rfl) ?_
      refine v_eqM (xwC (q := (t0 + 1)) (j := a1.toNatClampNeg) (v := a2.toInt8.toInt32) (xa_lc g13) (xa_e g13)) ?_
      refine v_goto F (tgt := 53) (dq dkX4_put_0 14 rfl) (by decide) ?_
      cases h
      exact v_vret F E (dq dkX4_put_0 31 rfl)
  · rw [if_pos c3] at h
    cases h
    exact v_vret F E (dq dkX4_put_0 4 rfl)
theorem f_X4_put_k {R : CS} {x : CS} {t0 : Nat} {a1 : Int32} {a2 : Int32} (h : f_X4_put x t0 a1 a2 = some R) : kSh t0 = true := by
  unfold f_X4_put at h
  exact (gd_of h).1
def rm_X6_append : Room := { frames := 1, cells := 0, slots := 0, locals := 30 }
def f_X6_append (x : CS) (a1 : Int32) : Option (CS) := if 160 ≤ (gi x 26 1) then (some x) else (gd (ib (gi x 26 1) 160) (some (pi (pi x 27 ((gi x 26 1).toNatClampNeg) a1) 26 1 ((gi (pi x 27 ((gi x 26 1).toNatClampNeg) a1) 26 1) + 1))))
set_option maxRecDepth 100000 in
set_option maxHeartbeats 4000000 in
theorem c_X6_append {K : KE} {l : Launch} {R : CS} (x : CS) (y : MS) (a1 : Int32) (h : f_X6_append x a1 = some R) : MC K l yX6_append cX6_append 2 none rm_X6_append 0 0 [.ref (K.1 + 26), .int a1] (xf K x y) (xf K R y) none := by
  refine mc_of (ls0 := [(0, .ref (K.1 + 26)), (1, .int a1)]) (by decide) (Nat.le_of_ble_eq_true rfl) rfl (fun C hl F E => ?_)
  have F : Fx C RX6 cX6_append 2 rm_X6_append K := F
  unfold f_X6_append at h
  refine v_aload_n F (dq dkX6_append_0 0 rfl) rfl 0 rfl ?_
  refine v_get F 26 (xn (by decide)) xc_26 rfl inlX6 1 (by decide) (tc3 _ (List.mem_of_getElem? (i := 21) rfl)) rfl rfl (dq dkX6_append_0 1 rfl) ?_
  refine v_sipush F (v := 160) (dq dkX6_append_0 2 rfl) ks_160 ?_
  refine v_icmp_ge F (tgt := 30) (dq dkX6_append_0 3 rfl) (by decide) (fun c1 => ?_) (fun c1 => ?_)
  · rw [if_pos c1] at h
    cases h
    exact v_vret F E (dq dkX6_append_0 16 rfl)
  · rw [if_neg c1] at h
    refine v_aload_n F (dq dkX6_append_0 4 rfl) rfl 0 rfl ?_
    refine v_get F 26 (xn (by decide)) xc_26 rfl inlX6 0 (by decide) (tc3 _ (List.mem_of_getElem? (i := 20) rfl)) rfl rfl (dq dkX6_append_0 5 rfl) ?_
    refine v_aload_n F (dq dkX6_append_0 6 rfl) rfl 0 rfl ?_
    refine v_get F 26 (xn (by decide)) xc_26 rfl inlX6 1 (by decide) (tc3 _ (List.mem_of_getElem? (i := 21) rfl)) rfl rfl (dq dkX6_append_0 7 rfl) ?_
    refine v_iload_n F (dq dkX6_append_0 8 rfl) rfl 1 rfl ?_
    obtain ⟨g2, h⟩ := gd_of h
    refine v_iast F 27 (xn (by decide)) xc_27 (ib_in g2) (dq dkX6_append_0 9 rfl) ?_
    refine v_eqM (xwC (q := 27) (j := (gi x 26 1).toNatClampNeg) (v := a1) (by decide) rfl) ?_
    refine v_aload_n F (dq dkX6_append_0 10 rfl) rfl 0 rfl ?_
    refine v_dup F (dq dkX6_append_0 11 rfl) rfl ?_
    refine v_get F 26 (xn (by decide)) xc_26 rfl inlX6 1 (by decide) (tc3 _ (List.mem_of_getElem? (i := 21) rfl)) rfl rfl (dq dkX6_append_0 12 rfl) ?_
    refine v_iconst F (v := 1) (dq dkX6_append_0 13 rfl) ki_1 ?_
    refine v_iadd F (dq dkX6_append_0 14 rfl) ?_
    refine v_put F 26 (xn (by decide)) xc_26 rfl inlX6 tyX6_ok nmX6 1 (by decide) (tc3 _ (List.mem_of_getElem? (i := 21) rfl)) rfl rfl (tyX6_ok 1 (by decide)) rfl rfl (Nat.le_of_ble_eq_true rfl) (dq dkX6_append_0 15 rfl) ?_
    refine v_eqM (xwC (q := 26) (j := 1) (v := (gi (pi x 27 ((gi x 26 1).toNatClampNeg) a1) 26 1) + 1) (by decide) rfl) ?_
    cases h
    exact v_vret F E (dq dkX6_append_0 16 rfl)
def rm_X6_empty : Room := { frames := 1, cells := 0, slots := 0, locals := 30 }
def f_X6_empty (x : CS) : CS := pi x 26 1 0
set_option maxRecDepth 100000 in
set_option maxHeartbeats 4000000 in
theorem c_X6_empty {K : KE} {l : Launch} (x : CS) (y : MS) : MC K l yX6_empty cX6_empty 1 none rm_X6_empty 0 0 [.ref (K.1 + 26)] (xf K x y) (xf K (f_X6_empty x) y) none := by
  refine mc_of (ls0 := [(0, .ref (K.1 + 26))]) (by decide) (Nat.le_of_ble_eq_true rfl) rfl (fun C hl F E => ?_)
  have F : Fx C RX6 cX6_empty 1 rm_X6_empty K := F
  obtain ⟨R, h⟩ : ∃ R, f_X6_empty x = R := ⟨_, rfl⟩
  rw [h] at E
  unfold f_X6_empty at h
  refine v_aload_n F (dq dkX6_empty_0 0 rfl) rfl 0 rfl ?_
  refine v_iconst F (v := 0) (dq dkX6_empty_0 1 rfl) ki_0 ?_
  refine v_put F 26 (xn (by decide)) xc_26 rfl inlX6 tyX6_ok nmX6 1 (by decide) (tc3 _ (List.mem_of_getElem? (i := 21) rfl)) rfl rfl (tyX6_ok 1 (by decide)) rfl rfl (Nat.le_of_ble_eq_true rfl) (dq dkX6_empty_0 2 rfl) ?_
  refine v_eqM (xwC (q := 26) (j := 1) (v := 0) (by decide) rfl) ?_
  cases h
  exact v_vret F E (dq dkX6_empty_0 3 rfl)
def rm_X6_byteAt : Room := { frames := 1, cells := 0, slots := 0, locals := 30 }
def f_X6_byteAt_28 (x : CS) : Option (Int32) := some (-1)
set_option maxRecDepth 100000 in
set_option maxHeartbeats 4000000 in
theorem t_X6_byteAt_28 {C : Cx} {K : KE} {y : MS} {R : Int32}  (x : CS) (h : f_X6_byteAt_28 x = some R) (F : Fx C RX6 cX6_byteAt 2 rm_X6_byteAt K) (E : CE C (xf K x y) (some (.int R)) 0 0 (some .int)) : V C 28 [] [] (xf K x y) 0 0 := by
  unfold f_X6_byteAt_28 at h
  refine v_iconst F (v := (-1)) (dq dkX6_byteAt_0 14 rfl) ki_m1 ?_
  cases h
  exact v_iret F E (dq dkX6_byteAt_0 15 rfl)
def f_X6_byteAt (x : CS) (a1 : Int32) : Option (Int32) := if a1 < 0 then (f_X6_byteAt_28 x) else (if (gi x 26 1) ≤ a1 then (f_X6_byteAt_28 x) else (if 160 ≤ a1 then (f_X6_byteAt_28 x) else (gd (ib a1 160) (some (gi x 27 a1.toNatClampNeg)))))
set_option maxRecDepth 100000 in
set_option maxHeartbeats 4000000 in
theorem c_X6_byteAt {K : KE} {l : Launch} {R : Int32} (x : CS) (y : MS) (a1 : Int32) (h : f_X6_byteAt x a1 = some R) : MC K l yX6_byteAt cX6_byteAt 2 (some .int) rm_X6_byteAt 0 0 [.ref (K.1 + 26), .int a1] (xf K x y) (xf K x y) (some (.int R)) := by
  refine mc_of (ls0 := [(0, .ref (K.1 + 26)), (1, .int a1)]) (by decide) (Nat.le_of_ble_eq_true rfl) rfl (fun C hl F E => ?_)
  have F : Fx C RX6 cX6_byteAt 2 rm_X6_byteAt K := F
  unfold f_X6_byteAt at h
  refine v_iload_n F (dq dkX6_byteAt_0 0 rfl) rfl 1 rfl ?_
  refine v_if_lt F (tgt := 28) (dq dkX6_byteAt_0 1 rfl) (by decide) (fun c1 => ?_) (fun c1 => ?_)
  · rw [if_pos c1] at h
    refine v_sub [] rfl ?_
    exact t_X6_byteAt_28 x h F E
  · rw [if_neg c1] at h
    refine v_iload_n F (dq dkX6_byteAt_0 2 rfl) rfl 1 rfl ?_
    refine v_aload_n F (dq dkX6_byteAt_0 3 rfl) rfl 0 rfl ?_
    refine v_get F 26 (xn (by decide)) xc_26 rfl inlX6 1 (by decide) (tc3 _ (List.mem_of_getElem? (i := 21) rfl)) rfl rfl (dq dkX6_byteAt_0 4 rfl) ?_
    refine v_icmp_ge F (tgt := 28) (dq dkX6_byteAt_0 5 rfl) (by decide) (fun c2 => ?_) (fun c2 => ?_)
    · rw [if_pos c2] at h
      refine v_sub [] rfl ?_
      exact t_X6_byteAt_28 x h F E
    · rw [if_neg c2] at h
      refine v_iload_n F (dq dkX6_byteAt_0 6 rfl) rfl 1 rfl ?_
      refine v_sipush F (v := 160) (dq dkX6_byteAt_0 7 rfl) ks_160 ?_
      refine v_icmp_ge F (tgt := 28) (dq dkX6_byteAt_0 8 rfl) (by decide) (fun c3 => ?_) (fun c3 => ?_)
      · rw [if_pos c3] at h
        refine v_sub [] rfl ?_
        exact t_X6_byteAt_28 x h F E
      · rw [if_neg c3] at h
        refine v_aload_n F (dq dkX6_byteAt_0 9 rfl) rfl 0 rfl ?_
        refine v_get F 26 (xn (by decide)) xc_26 rfl inlX6 0 (by decide) (tc3 _ (List.mem_of_getElem? (i := 20) rfl)) rfl rfl (dq dkX6_byteAt_0 10 rfl) ?_
        refine v_iload_n F (dq dkX6_byteAt_0 11 rfl) rfl 1 rfl ?_
        obtain ⟨g4, h⟩ := gd_of h
        refine v_iald F 27 (xn (by decide)) xc_27 (ib_in g4) (dq dkX6_byteAt_0 12 rfl) ?_
        refine v_goto F (tgt := 29) (dq dkX6_byteAt_0 13 rfl) (by decide) ?_
        cases h
        exact v_iret F E (dq dkX6_byteAt_0 15 rfl)
def rm_X6_isDigit : Room := { frames := 2, cells := 0, slots := 0, locals := 52 }
def f_X6_isDigit (a0 : Int32) : Bool := (f_X10_within a0 48 57)
set_option maxRecDepth 100000 in
set_option maxHeartbeats 4000000 in
theorem c_X6_isDigit {K : KE} {l : Launch} {M : GM} (a0 : Int32) : MC K l yX6_isDigit cX6_isDigit 1 (some .boolean) rm_X6_isDigit 0 0 [.int a0] M M (some (.int (b2i (f_X6_isDigit a0)))) := by
  refine mc_of (ls0 := [(0, .int a0)]) (by decide) (Nat.le_of_ble_eq_true rfl) rfl (fun C hl F E => ?_)
  have F : Fx C RX6 cX6_isDigit 1 rm_X6_isDigit K := F
  obtain ⟨R, h⟩ : ∃ R, f_X6_isDigit a0 = R := ⟨_, rfl⟩
  rw [h] at E
  unfold f_X6_isDigit at h
  refine v_iload_n F (dq dkX6_isDigit_0 0 rfl) rfl 0 rfl ?_
  refine v_bipush F (v := 48) (dq dkX6_isDigit_0 1 rfl) kb_48 ?_
  refine v_bipush F (v := 57) (dq dkX6_isDigit_0 2 rfl) kb_57 ?_
  refine v_callSN 3 F (as := [.int a0, .int 48, .int 57]) (st := []) (st1 := (.int (b2i (f_X10_within a0 48 57)) :: [])) (res := (some (.int (b2i (f_X10_within a0 48 57))))) (c_X10_within (l := C.2.1) a0 48 57) (List.mem_of_getElem? (i := 5) rfl) (tc8 _ (List.mem_of_getElem? (i := 15) rfl)) (tc1 _ (List.mem_of_getElem? (i := 2) rfl)) (tc8 _ (List.mem_of_getElem? (i := 16) rfl)) (by decide) rfl ⟨rfl, rfl, Nat.le_of_ble_eq_true rfl, Nat.le_of_ble_eq_true rfl⟩ ⟨Nat.le_of_ble_eq_true rfl, Nat.le_of_ble_eq_true rfl⟩ rfl (Nat.le_of_ble_eq_true rfl) rfl rfl rfl (dq dkX6_isDigit_0 3 rfl) ?_
  cases h
  exact v_zret F E (b2i_n (f_X10_within a0 48 57)) (dq dkX6_isDigit_0 4 rfl)
def rm_X6_isLetter : Room := { frames := 2, cells := 0, slots := 0, locals := 52 }
def f_X6_isLetter (a0 : Int32) : Bool := (f_X10_within a0 97 122)
set_option maxRecDepth 100000 in
set_option maxHeartbeats 4000000 in
theorem c_X6_isLetter {K : KE} {l : Launch} {M : GM} (a0 : Int32) : MC K l yX6_isLetter cX6_isLetter 1 (some .boolean) rm_X6_isLetter 0 0 [.int a0] M M (some (.int (b2i (f_X6_isLetter a0)))) := by
  refine mc_of (ls0 := [(0, .int a0)]) (by decide) (Nat.le_of_ble_eq_true rfl) rfl (fun C hl F E => ?_)
  have F : Fx C RX6 cX6_isLetter 1 rm_X6_isLetter K := F
  obtain ⟨R, h⟩ : ∃ R, f_X6_isLetter a0 = R := ⟨_, rfl⟩
  rw [h] at E
  unfold f_X6_isLetter at h
  refine v_iload_n F (dq dkX6_isLetter_0 0 rfl) rfl 0 rfl ?_
  refine v_bipush F (v := 97) (dq dkX6_isLetter_0 1 rfl) kb_97 ?_
  refine v_bipush F (v := 122) (dq dkX6_isLetter_0 2 rfl) kb_122 ?_
  refine v_callSN 3 F (as := [.int a0, .int 97, .int 122]) (st := []) (st1 := (.int (b2i (f_X10_within a0 97 122)) :: [])) (res := (some (.int (b2i (f_X10_within a0 97 122))))) (c_X10_within (l := C.2.1) a0 97 122) (List.mem_of_getElem? (i := 5) rfl) (tc8 _ (List.mem_of_getElem? (i := 15) rfl)) (tc1 _ (List.mem_of_getElem? (i := 2) rfl)) (tc8 _ (List.mem_of_getElem? (i := 16) rfl)) (by decide) rfl ⟨rfl, rfl, Nat.le_of_ble_eq_true rfl, Nat.le_of_ble_eq_true rfl⟩ ⟨Nat.le_of_ble_eq_true rfl, Nat.le_of_ble_eq_true rfl⟩ rfl (Nat.le_of_ble_eq_true rfl) rfl rfl rfl (dq dkX6_isLetter_0 3 rfl) ?_
  cases h
  exact v_zret F E (b2i_n (f_X10_within a0 97 122)) (dq dkX6_isLetter_0 4 rfl)
def rm_X6_isSign : Room := { frames := 1, cells := 0, slots := 0, locals := 30 }
def f_X6_isSign_48 : Bool := true
set_option maxRecDepth 100000 in
set_option maxHeartbeats 4000000 in
theorem t_X6_isSign_48 {C : Cx} {K : KE} {M : GM} {R : Bool}  (h : f_X6_isSign_48  = R) (F : Fx C RX6 cX6_isSign 1 rm_X6_isSign K) (E : CE C M (some (.int (b2i R))) 0 0 (some .boolean)) : V C 48 [] [] M 0 0 := by
  unfold f_X6_isSign_48 at h
  refine v_iconst F (v := 1) (dq dkX6_isSign_0 24 rfl) ki_1 ?_
  refine v_goto F (tgt := 53) (dq dkX6_isSign_0 25 rfl) (by decide) ?_
  cases h
  exact v_zret F E (b2i_n true) (dq dkX6_isSign_0 27 rfl)
def f_X6_isSign (a0 : Int32) : Bool := if a0 = 40 then f_X6_isSign_48 else (if a0 = 41 then f_X6_isSign_48 else (if a0 = 59 then f_X6_isSign_48 else (if a0 = 43 then f_X6_isSign_48 else (if a0 = 45 then f_X6_isSign_48 else (if a0 = 42 then f_X6_isSign_48 else (if a0 = 60 then f_X6_isSign_48 else (if a0 = 61 then f_X6_isSign_48 else false)))))))
set_option maxRecDepth 100000 in
set_option maxHeartbeats 4000000 in
theorem c_X6_isSign {K : KE} {l : Launch} {M : GM} (a0 : Int32) : MC K l yX6_isSign cX6_isSign 1 (some .boolean) rm_X6_isSign 0 0 [.int a0] M M (some (.int (b2i (f_X6_isSign a0)))) := by
  refine mc_of (ls0 := [(0, .int a0)]) (by decide) (Nat.le_of_ble_eq_true rfl) rfl (fun C hl F E => ?_)
  have F : Fx C RX6 cX6_isSign 1 rm_X6_isSign K := F
  obtain ⟨R, h⟩ : ∃ R, f_X6_isSign a0 = R := ⟨_, rfl⟩
  rw [h] at E
  unfold f_X6_isSign at h
  refine v_iload_n F (dq dkX6_isSign_0 0 rfl) rfl 0 rfl ?_
  refine v_bipush F (v := 40) (dq dkX6_isSign_0 1 rfl) kb_40 ?_
  refine v_icmp_eq F (tgt := 48) (dq dkX6_isSign_0 2 rfl) (by decide) (fun c1 => ?_) (fun c1 => ?_)
  · rw [if_pos c1] at h
    refine v_sub [] rfl ?_
    exact t_X6_isSign_48 h F E
  · rw [if_neg c1] at h
    refine v_iload_n F (dq dkX6_isSign_0 3 rfl) rfl 0 rfl ?_
    refine v_bipush F (v := 41) (dq dkX6_isSign_0 4 rfl) kb_41 ?_
    refine v_icmp_eq F (tgt := 48) (dq dkX6_isSign_0 5 rfl) (by decide) (fun c2 => ?_) (fun c2 => ?_)
    · rw [if_pos c2] at h
      refine v_sub [] rfl ?_
      exact t_X6_isSign_48 h F E
    · rw [if_neg c2] at h
      refine v_iload_n F (dq dkX6_isSign_0 6 rfl) rfl 0 rfl ?_
      refine v_bipush F (v := 59) (dq dkX6_isSign_0 7 rfl) kb_59 ?_
      refine v_icmp_eq F (tgt := 48) (dq dkX6_isSign_0 8 rfl) (by decide) (fun c3 => ?_) (fun c3 => ?_)
      · rw [if_pos c3] at h
        refine v_sub [] rfl ?_
        exact t_X6_isSign_48 h F E
      · rw [if_neg c3] at h
        refine v_iload_n F (dq dkX6_isSign_0 9 rfl) rfl 0 rfl ?_
        refine v_bipush F (v := 43) (dq dkX6_isSign_0 10 rfl) kb_43 ?_
        refine v_icmp_eq F (tgt := 48) (dq dkX6_isSign_0 11 rfl) (by decide) (fun c4 => ?_) (fun c4 => ?_)
        · rw [if_pos c4] at h
          refine v_sub [] rfl ?_
          exact t_X6_isSign_48 h F E
        · rw [if_neg c4] at h
          refine v_iload_n F (dq dkX6_isSign_0 12 rfl) rfl 0 rfl ?_
          refine v_bipush F (v := 45) (dq dkX6_isSign_0 13 rfl) kb_45 ?_
          refine v_icmp_eq F (tgt := 48) (dq dkX6_isSign_0 14 rfl) (by decide) (fun c5 => ?_) (fun c5 => ?_)
          · rw [if_pos c5] at h
            refine v_sub [] rfl ?_
            exact t_X6_isSign_48 h F E
          · rw [if_neg c5] at h
            refine v_iload_n F (dq dkX6_isSign_0 15 rfl) rfl 0 rfl ?_
            refine v_bipush F (v := 42) (dq dkX6_isSign_0 16 rfl) kb_42 ?_
            refine v_icmp_eq F (tgt := 48) (dq dkX6_isSign_0 17 rfl) (by decide) (fun c6 => ?_) (fun c6 => ?_)
            · rw [if_pos c6] at h
              refine v_sub [] rfl ?_
              exact t_X6_isSign_48 h F E
            · rw [if_neg c6] at h
              refine v_iload_n F (dq dkX6_isSign_0 18 rfl) rfl 0 rfl ?_
              refine v_bipush F (v := 60) (dq dkX6_isSign_0 19 rfl) kb_60 ?_
              refine v_icmp_eq F (tgt := 48) (dq dkX6_isSign_0 20 rfl) (by decide) (fun c7 => ?_) (fun c7 => ?_)
              · rw [if_pos c7] at h
                refine v_sub [] rfl ?_
                exact t_X6_isSign_48 h F E
              · rw [if_neg c7] at h
                refine v_iload_n F (dq dkX6_isSign_0 21 rfl) rfl 0 rfl ?_
                refine v_bipush F (v := 61) (dq dkX6_isSign_0 22 rfl) kb_61 ?_
                refine v_icmp_ne F (tgt := 52) (dq dkX6_isSign_0 23 rfl) (by decide) (fun c8 => ?_) (fun c8 => ?_)
                · rw [if_neg c8] at h
                  refine v_iconst F (v := 0) (dq dkX6_isSign_0 26 rfl) ki_0 ?_
                  cases h
                  exact v_zret F E (b2i_n false) (dq dkX6_isSign_0 27 rfl)
                · rw [if_pos c8] at h
                  refine v_sub [] rfl ?_
                  exact t_X6_isSign_48 h F E
def rm_X6_fail : Room := { frames := 1, cells := 0, slots := 0, locals := 30 }
def f_X6_fail (x : CS) : CS := if 0 ≤ (gi x 26 5) then x else (pi x 26 5 (gi x 26 9))
set_option maxRecDepth 100000 in
set_option maxHeartbeats 4000000 in
theorem c_X6_fail {K : KE} {l : Launch} (x : CS) (y : MS) : MC K l yX6_fail cX6_fail 1 none rm_X6_fail 0 0 [.ref (K.1 + 26)] (xf K x y) (xf K (f_X6_fail x) y) none := by
  refine mc_of (ls0 := [(0, .ref (K.1 + 26))]) (by decide) (Nat.le_of_ble_eq_true rfl) rfl (fun C hl F E => ?_)
  have F : Fx C RX6 cX6_fail 1 rm_X6_fail K := F
  obtain ⟨R, h⟩ : ∃ R, f_X6_fail x = R := ⟨_, rfl⟩
  rw [h] at E
  unfold f_X6_fail at h
  refine v_aload_n F (dq dkX6_fail_0 0 rfl) rfl 0 rfl ?_
  refine v_get F 26 (xn (by decide)) xc_26 rfl inlX6 5 (by decide) (tc4 _ (List.mem_of_getElem? (i := 1) rfl)) rfl rfl (dq dkX6_fail_0 1 rfl) ?_
  refine v_if_ge F (tgt := 15) (dq dkX6_fail_0 2 rfl) (by decide) (fun c1 => ?_) (fun c1 => ?_)
  · rw [if_pos c1] at h
    cases h
    exact v_vret F E (dq dkX6_fail_0 7 rfl)
  · rw [if_neg c1] at h
    refine v_aload_n F (dq dkX6_fail_0 3 rfl) rfl 0 rfl ?_
    refine v_aload_n F (dq dkX6_fail_0 4 rfl) rfl 0 rfl ?_
    refine v_get F 26 (xn (by decide)) xc_26 rfl inlX6 9 (by decide) (tc4 _ (List.mem_of_getElem? (i := 5) rfl)) rfl rfl (dq dkX6_fail_0 5 rfl) ?_
    refine v_put F 26 (xn (by decide)) xc_26 rfl inlX6 tyX6_ok nmX6 5 (by decide) (tc4 _ (List.mem_of_getElem? (i := 1) rfl)) rfl rfl (tyX6_ok 5 (by decide)) rfl rfl (Nat.le_of_ble_eq_true rfl) (dq dkX6_fail_0 6 rfl) ?_
    refine v_eqM (xwC (q := 26) (j := 5) (v := gi x 26 9) (by decide) rfl) ?_
    cases h
    exact v_vret F E (dq dkX6_fail_0 7 rfl)
def rm_X6_emit : Room := { frames := 1, cells := 0, slots := 0, locals := 30 }
def f_X6_emit (x : CS) (a1 : Int32) : Option (CS) := if 0 ≤ (gi x 26 5) then (some x) else (if 160 ≤ (gi x 26 4) then (some x) else (gd (ib (gi x 26 4) 160) (some (pi (pi x 28 ((gi x 26 4).toNatClampNeg) a1) 26 4 ((gi (pi x 28 ((gi x 26 4).toNatClampNeg) a1) 26 4) + 1)))))
set_option maxRecDepth 100000 in
set_option maxHeartbeats 4000000 in
theorem c_X6_emit {K : KE} {l : Launch} {R : CS} (x : CS) (y : MS) (a1 : Int32) (h : f_X6_emit x a1 = some R) : MC K l yX6_emit cX6_emit 2 none rm_X6_emit 0 0 [.ref (K.1 + 26), .int a1] (xf K x y) (xf K R y) none := by
  refine mc_of (ls0 := [(0, .ref (K.1 + 26)), (1, .int a1)]) (by decide) (Nat.le_of_ble_eq_true rfl) rfl (fun C hl F E => ?_)
  have F : Fx C RX6 cX6_emit 2 rm_X6_emit K := F
  unfold f_X6_emit at h
  refine v_aload_n F (dq dkX6_emit_0 0 rfl) rfl 0 rfl ?_
  refine v_get F 26 (xn (by decide)) xc_26 rfl inlX6 5 (by decide) (tc4 _ (List.mem_of_getElem? (i := 1) rfl)) rfl rfl (dq dkX6_emit_0 1 rfl) ?_
  refine v_if_ge F (tgt := 37) (dq dkX6_emit_0 2 rfl) (by decide) (fun c1 => ?_) (fun c1 => ?_)
  · rw [if_pos c1] at h
    cases h
    exact v_vret F E (dq dkX6_emit_0 19 rfl)
  · rw [if_neg c1] at h
    refine v_aload_n F (dq dkX6_emit_0 3 rfl) rfl 0 rfl ?_
    refine v_get F 26 (xn (by decide)) xc_26 rfl inlX6 4 (by decide) (tc4 _ (List.mem_of_getElem? (i := 0) rfl)) rfl rfl (dq dkX6_emit_0 4 rfl) ?_
    refine v_sipush F (v := 160) (dq dkX6_emit_0 5 rfl) ks_160 ?_
    refine v_icmp_ge F (tgt := 37) (dq dkX6_emit_0 6 rfl) (by decide) (fun c2 => ?_) (fun c2 => ?_)
    · rw [if_pos c2] at h
      cases h
      exact v_vret F E (dq dkX6_emit_0 19 rfl)
    · rw [if_neg c2] at h
      refine v_aload_n F (dq dkX6_emit_0 7 rfl) rfl 0 rfl ?_
      refine v_get F 26 (xn (by decide)) xc_26 rfl inlX6 2 (by decide) (tc3 _ (List.mem_of_getElem? (i := 22) rfl)) rfl rfl (dq dkX6_emit_0 8 rfl) ?_
      refine v_aload_n F (dq dkX6_emit_0 9 rfl) rfl 0 rfl ?_
      refine v_get F 26 (xn (by decide)) xc_26 rfl inlX6 4 (by decide) (tc4 _ (List.mem_of_getElem? (i := 0) rfl)) rfl rfl (dq dkX6_emit_0 10 rfl) ?_
      refine v_iload_n F (dq dkX6_emit_0 11 rfl) rfl 1 rfl ?_
      obtain ⟨g3, h⟩ := gd_of h
      refine v_iast F 28 (xn (by decide)) xc_28 (ib_in g3) (dq dkX6_emit_0 12 rfl) ?_
      refine v_eqM (xwC (q := 28) (j := (gi x 26 4).toNatClampNeg) (v := a1) (by decide) rfl) ?_
      refine v_aload_n F (dq dkX6_emit_0 13 rfl) rfl 0 rfl ?_
      refine v_dup F (dq dkX6_emit_0 14 rfl) rfl ?_
      refine v_get F 26 (xn (by decide)) xc_26 rfl inlX6 4 (by decide) (tc4 _ (List.mem_of_getElem? (i := 0) rfl)) rfl rfl (dq dkX6_emit_0 15 rfl) ?_
      refine v_iconst F (v := 1) (dq dkX6_emit_0 16 rfl) ki_1 ?_
      refine v_iadd F (dq dkX6_emit_0 17 rfl) ?_
      refine v_put F 26 (xn (by decide)) xc_26 rfl inlX6 tyX6_ok nmX6 4 (by decide) (tc4 _ (List.mem_of_getElem? (i := 0) rfl)) rfl rfl (tyX6_ok 4 (by decide)) rfl rfl (Nat.le_of_ble_eq_true rfl) (dq dkX6_emit_0 18 rfl) ?_
      refine v_eqM (xwC (q := 26) (j := 4) (v := (gi (pi x 28 ((gi x 26 4).toNatClampNeg) a1) 26 4) + 1) (by decide) rfl) ?_
      cases h
      exact v_vret F E (dq dkX6_emit_0 19 rfl)
def rm_X6_opens : Room := { frames := 2, cells := 0, slots := 0, locals := 50 }
def f_X6_opens_12 (x : CS) : Bool × CS := if (gi x 26 5) < 0 then ((true, pi x 26 6 ((gi x 26 6) + 1))) else ((false, x))
set_option maxRecDepth 100000 in
set_option maxHeartbeats 4000000 in
theorem t_X6_opens_12 {C : Cx} {K : KE} {y : MS} {R : Bool × CS}  (x : CS) (h : f_X6_opens_12 x = R) (F : Fx C RX6 cX6_opens 1 rm_X6_opens K) (E : CE C (xf K R.2 y) (some (.int (b2i R.1))) 0 0 (some .boolean)) : V C 12 [(0, .ref (K.1 + 26))] [] (xf K x y) 0 0 := by
  unfold f_X6_opens_12 at h
  refine v_aload_n F (dq dkX6_opens_0 6 rfl) rfl 0 rfl ?_
  refine v_get F 26 (xn (by decide)) xc_26 rfl inlX6 5 (by decide) (tc4 _ (List.mem_of_getElem? (i := 1) rfl)) rfl rfl (dq dkX6_opens_0 7 rfl) ?_
  refine v_if_lt F (tgt := 21) (dq dkX6_opens_0 8 rfl) (by decide) (fun c1 => ?_) (fun c1 => ?_)
  · rw [if_pos c1] at h
    refine v_aload_n F (dq dkX6_opens_0 11 rfl) rfl 0 rfl ?_
    refine v_dup F (dq dkX6_opens_0 12 rfl) rfl ?_
    refine v_get F 26 (xn (by decide)) xc_26 rfl inlX6 6 (by decide) (tc4 _ (List.mem_of_getElem? (i := 2) rfl)) rfl rfl (dq dkX6_opens_0 13 rfl) ?_
    refine v_iconst F (v := 1) (dq dkX6_opens_0 14 rfl) ki_1 ?_
    refine v_iadd F (dq dkX6_opens_0 15 rfl) ?_
    refine v_put F 26 (xn (by decide)) xc_26 rfl inlX6 tyX6_ok nmX6 6 (by decide) (tc4 _ (List.mem_of_getElem? (i := 2) rfl)) rfl rfl (tyX6_ok 6 (by decide)) rfl rfl (Nat.le_of_ble_eq_true rfl) (dq dkX6_opens_0 16 rfl) ?_
    refine v_eqM (xwC (q := 26) (j := 6) (v := (gi x 26 6) + 1) (by decide) rfl) ?_
    refine v_iconst F (v := 1) (dq dkX6_opens_0 17 rfl) ki_1 ?_
    cases h
    exact v_zret F E (b2i_n true) (dq dkX6_opens_0 18 rfl)
  · rw [if_neg c1] at h
    refine v_iconst F (v := 0) (dq dkX6_opens_0 9 rfl) ki_0 ?_
    cases h
    exact v_zret F E (b2i_n false) (dq dkX6_opens_0 10 rfl)
def f_X6_opens (x : CS) : Bool × CS := if (gi x 26 6) < 5 then (f_X6_opens_12 x) else (f_X6_opens_12 (f_X6_fail x))
set_option maxRecDepth 100000 in
set_option maxHeartbeats 4000000 in
theorem c_X6_opens {K : KE} {l : Launch} (x : CS) (y : MS) : MC K l yX6_opens cX6_opens 1 (some .boolean) rm_X6_opens 0 0 [.ref (K.1 + 26)] (xf K x y) (xf K ((f_X6_opens x).2) y) (some (.int (b2i (f_X6_opens x).1))) := by
  refine mc_of (ls0 := [(0, .ref (K.1 + 26))]) (by decide) (Nat.le_of_ble_eq_true rfl) rfl (fun C hl F E => ?_)
  have F : Fx C RX6 cX6_opens 1 rm_X6_opens K := F
  obtain ⟨R, h⟩ : ∃ R, f_X6_opens x = R := ⟨_, rfl⟩
  rw [h] at E
  unfold f_X6_opens at h
  refine v_aload_n F (dq dkX6_opens_0 0 rfl) rfl 0 rfl ?_
  refine v_get F 26 (xn (by decide)) xc_26 rfl inlX6 6 (by decide) (tc4 _ (List.mem_of_getElem? (i := 2) rfl)) rfl rfl (dq dkX6_opens_0 1 rfl) ?_
  refine v_iconst F (v := 5) (dq dkX6_opens_0 2 rfl) ki_5 ?_
  refine v_icmp_lt F (tgt := 12) (dq dkX6_opens_0 3 rfl) (by decide) (fun c2 => ?_) (fun c2 => ?_)
  · rw [if_pos c2] at h
    exact t_X6_opens_12 x h F E
  · rw [if_neg c2] at h
    refine v_aload_n F (dq dkX6_opens_0 4 rfl) rfl 0 rfl ?_
    refine v_callV 0 F (q := 26) (as := []) (st := []) (st1 := []) (res := none) (c_X6_fail (l := C.2.1) x y) (xn (by decide)) xc_26 rfl (tc9 _ (List.mem_of_getElem? (i := 13) rfl)) (tc9 _ (List.mem_of_getElem? (i := 14) rfl)) (tc9 _ (List.mem_of_getElem? (i := 15) rfl)) (tc1 _ (List.mem_of_getElem? (i := 23) rfl)) (tc9 _ (List.mem_of_getElem? (i := 16) rfl)) (by decide) rfl ⟨rfl, rfl, Nat.le_of_ble_eq_true rfl, Nat.le_of_ble_eq_true rfl⟩ ⟨Nat.le_of_ble_eq_true rfl, Nat.le_of_ble_eq_true rfl⟩ rfl (Nat.le_of_ble_eq_true rfl) rfl rfl rfl (dq dkX6_opens_0 5 rfl) ?_
    exact t_X6_opens_12 (f_X6_fail x) h F E
def rm_X8_takes : Room := { frames := 2, cells := 0, slots := 0, locals := 52 }
def f_X8_takes_30 (t0 : Nat) (x : CS) : Option (Bool) := some false
set_option maxRecDepth 100000 in
set_option maxHeartbeats 4000000 in
theorem t_X8_takes_30 {C : Cx} {K : KE} {y : MS} {R : Bool}  (t0 : Nat) (x : CS) (h : f_X8_takes_30 t0 x = some R) (F : Fx C RX8 cX8_takes 3 rm_X8_takes K) (E : CE C (xf K x y) (some (.int (b2i R))) 0 0 (some .boolean)) : V C 30 [] [] (xf K x y) 0 0 := by
  unfold f_X8_takes_30 at h
  refine v_iconst F (v := 0) (dq dkX8_takes_0 16 rfl) ki_0 ?_
  cases h
  exact v_zret F E (b2i_n false) (dq dkX8_takes_0 17 rfl)
def f_X8_takes (x : CS) (t0 : Nat) (a1 : Int32) (a2 : Int32) : Option (Bool) := gd (kWd t0) (if (b2i (f_X10_within a1 0 5)) = 0 then (f_X8_takes_30 t0 x) else (gd (ib a1 6) (gd (ib a1 6) (if (b2i (f_X10_within a2 (sa 1 a1.toNatClampNeg) (sa 2 a1.toNatClampNeg))) = 0 then (f_X8_takes_30 t0 x) else (some true)))))
set_option maxRecDepth 100000 in
set_option maxHeartbeats 4000000 in
theorem c_X8_takes {K : KE} {l : Launch} {R : Bool} (x : CS) (y : MS) (t0 : Nat) (a1 : Int32) (a2 : Int32) (h : f_X8_takes x t0 a1 a2 = some R) : MC K l yX8_takes cX8_takes 3 (some .boolean) rm_X8_takes 0 0 [.ref (K.1 + t0), .int a1, .int a2] (xf K x y) (xf K x y) (some (.int (b2i R))) := by
  refine mc_of (ls0 := [(0, .ref (K.1 + t0)), (1, .int a1), (2, .int a2)]) (by decide) (Nat.le_of_ble_eq_true rfl) rfl (fun C hl F E => ?_)
  have F : Fx C RX8 cX8_takes 3 rm_X8_takes K := F
  unfold f_X8_takes at h
  obtain ⟨_, h⟩ := gd_of h
  refine v_iload_n F (dq dkX8_takes_0 0 rfl) rfl 1 rfl ?_
  refine v_iconst F (v := 0) (dq dkX8_takes_0 1 rfl) ki_0 ?_
  refine v_iconst F (v := 5) (dq dkX8_takes_0 2 rfl) ki_5 ?_
  refine v_callSN 3 F (as := [.int a1, .int 0, .int 5]) (st := []) (st1 := (.int (b2i (f_X10_within a1 0 5)) :: [])) (res := (some (.int (b2i (f_X10_within a1 0 5))))) (c_X10_within (l := C.2.1) a1 0 5) (List.mem_of_getElem? (i := 6) rfl) (tc8 _ (List.mem_of_getElem? (i := 15) rfl)) (tc1 _ (List.mem_of_getElem? (i := 2) rfl)) (tc8 _ (List.mem_of_getElem? (i := 16) rfl)) (by decide) rfl ⟨rfl, rfl, Nat.le_of_ble_eq_true rfl, Nat.le_of_ble_eq_true rfl⟩ ⟨Nat.le_of_ble_eq_true rfl, Nat.le_of_ble_eq_true rfl⟩ rfl (Nat.le_of_ble_eq_true rfl) rfl rfl rfl (dq dkX8_takes_0 3 rfl) ?_
  refine v_if_eq F (tgt := 30) (dq dkX8_takes_0 4 rfl) (by decide) (fun c2 => ?_) (fun c2 => ?_)
  · rw [if_pos c2] at h
    refine v_sub [] rfl ?_
    exact t_X8_takes_30 t0 x h F E
  · rw [if_neg c2] at h
    refine v_iload_n F (dq dkX8_takes_0 5 rfl) rfl 2 rfl ?_
    refine v_gets 1 F rfl (tc14 _ (List.mem_of_getElem? (i := 8) rfl)) (dq dkX8_takes_0 6 rfl) ?_
    refine v_iload_n F (dq dkX8_takes_0 7 rfl) rfl 1 rfl ?_
    obtain ⟨g3, h⟩ := gd_of h
    refine v_ti 1 F rfl (ib_in g3) (dq dkX8_takes_0 8 rfl) ?_
    refine v_gets 2 F rfl (tc14 _ (List.mem_of_getElem? (i := 9) rfl)) (dq dkX8_takes_0 9 rfl) ?_
    refine v_iload_n F (dq dkX8_takes_0 10 rfl) rfl 1 rfl ?_
    obtain ⟨g4, h⟩ := gd_of h
    refine v_ti 2 F rfl (ib_in g4) (dq dkX8_takes_0 11 rfl) ?_
    refine v_callSN 3 F (as := [.int a2, .int (sa 1 a1.toNatClampNeg), .int (sa 2 a1.toNatClampNeg)]) (st := []) (st1 := (.int (b2i (f_X10_within a2 (sa 1 a1.toNatClampNeg) (sa 2 a1.toNatClampNeg))) :: [])) (res := (some (.int (b2i (f_X10_within a2 (sa 1 a1.toNatClampNeg) (sa 2 a1.toNatClampNeg)))))) (c_X10_within (l := C.2.1) a2 (sa 1 a1.toNatClampNeg) (sa 2 a1.toNatClampNeg)) (List.mem_of_getElem? (i := 6) rfl) (tc8 _ (List.mem_of_getElem? (i := 15) rfl)) (tc1 _ (List.mem_of_getElem? (i := 2) rfl)) (tc8 _ (List.mem_of_getElem? (i := 16) rfl)) (by decide) rfl ⟨rfl, rfl, Nat.le_of_ble_eq_true rfl, Nat.le_of_ble_eq_true rfl⟩ ⟨Nat.le_of_ble_eq_true rfl, Nat.le_of_ble_eq_true rfl⟩ rfl (Nat.le_of_ble_eq_true rfl) rfl rfl rfl (dq dkX8_takes_0 12 rfl) ?_
    refine v_if_eq F (tgt := 30) (dq dkX8_takes_0 13 rfl) (by decide) (fun c6 => ?_) (fun c6 => ?_)
    · rw [if_pos c6] at h
      refine v_sub [] rfl ?_
      exact t_X8_takes_30 t0 x h F E
    · rw [if_neg c6] at h
      refine v_iconst F (v := 1) (dq dkX8_takes_0 14 rfl) ki_1 ?_
      refine v_goto F (tgt := 31) (dq dkX8_takes_0 15 rfl) (by decide) ?_
      cases h
      exact v_zret F E (b2i_n true) (dq dkX8_takes_0 17 rfl)
theorem f_X8_takes_k {R : Bool} {x : CS} {t0 : Nat} {a1 : Int32} {a2 : Int32} (h : f_X8_takes x t0 a1 a2 = some R) : kWd t0 = true := by
  unfold f_X8_takes at h
  exact (gd_of h).1
def rm_X8_put : Room := { frames := 3, cells := 0, slots := 0, locals := 72 }
def f_X8_put (x : CS) (t0 : Nat) (a1 : Int32) (a2 : Int32) (a3 : Int32) : Option (CS) := gd (kWd t0) (if (b2i (f_X10_within a1 0 5)) = 0 then (some x) else (if (b2i (f_X10_isSection a2)) = 0 then (some x) else (gd (kWd t0) (gd (kWd t0) (gd (ib a1 6) (gd (ib a2 (al (t0 + 2 + a1.toNatClampNeg))) (some (pi x (t0 + 2 + a1.toNatClampNeg) a2.toNatClampNeg a3))))))))
set_option maxRecDepth 100000 in
set_option maxHeartbeats 4000000 in
theorem c_X8_put {K : KE} {l : Launch} {R : CS} (x : CS) (y : MS) (t0 : Nat) (a1 : Int32) (a2 : Int32) (a3 : Int32) (h : f_X8_put x t0 a1 a2 a3 = some R) : MC K l yX8_put cX8_put 4 none rm_X8_put 0 0 [.ref (K.1 + t0), .int a1, .int a2, .int a3] (xf K x y) (xf K R y) none := by
  refine mc_of (ls0 := [(0, .ref (K.1 + t0)), (1, .int a1), (2, .int a2), (3, .int a3)]) (by decide) (Nat.le_of_ble_eq_true rfl) rfl (fun C hl F E => ?_)
  have F : Fx C RX8 cX8_put 4 rm_X8_put K := F
  unfold f_X8_put at h
  obtain ⟨_, h⟩ := gd_of h
  refine v_iload_n F (dq dkX8_put_0 0 rfl) rfl 1 rfl ?_
  refine v_iconst F (v := 0) (dq dkX8_put_0 1 rfl) ki_0 ?_
  refine v_iconst F (v := 5) (dq dkX8_put_0 2 rfl) ki_5 ?_
  refine v_callSN 3 F (as := [.int a1, .int 0, .int 5]) (st := []) (st1 := (.int (b2i (f_X10_within a1 0 5)) :: [])) (res := (some (.int (b2i (f_X10_within a1 0 5))))) (c_X10_within (l := C.2.1) a1 0 5) (List.mem_of_getElem? (i := 6) rfl) (tc8 _ (List.mem_of_getElem? (i := 15) rfl)) (tc1 _ (List.mem_of_getElem? (i := 2) rfl)) (tc8 _ (List.mem_of_getElem? (i := 16) rfl)) (by decide) rfl ⟨rfl, rfl, Nat.le_of_ble_eq_true rfl, Nat.le_of_ble_eq_true rfl⟩ ⟨Nat.le_of_ble_eq_true rfl, Nat.le_of_ble_eq_true rfl⟩ rfl (Nat.le_of_ble_eq_true rfl) rfl rfl rfl (dq dkX8_put_0 3 rfl) ?_
  refine v_if_eq F (tgt := 25) (dq dkX8_put_0 4 rfl) (by decide) (fun c2 => ?_) (fun c2 => ?_)
  · rw [if_pos c2] at h
    cases h
    exact v_vret F E (dq dkX8_put_0 15 rfl)
  · rw [if_neg c2] at h
    refine v_iload_n F (dq dkX8_put_0 5 rfl) rfl 2 rfl ?_
    refine v_callSN 1 F (as := [.int a2]) (st := []) (st1 := (.int (b2i (f_X10_isSection a2)) :: [])) (res := (some (.int (b2i (f_X10_isSection a2))))) (c_X10_isSection (l := C.2.1) a2) (List.mem_of_getElem? (i := 7) rfl) (tc14 _ (List.mem_of_getElem? (i := 1) rfl)) (tc1 _ (List.mem_of_getElem? (i := 2) rfl)) (tc14 _ (List.mem_of_getElem? (i := 2) rfl)) (by decide) rfl ⟨rfl, rfl, Nat.le_of_ble_eq_true rfl, Nat.le_of_ble_eq_true rfl⟩ ⟨Nat.le_of_ble_eq_true rfl, Nat.le_of_ble_eq_true rfl⟩ rfl (Nat.le_of_ble_eq_true rfl) rfl rfl rfl (dq dkX8_put_0 6 rfl) ?_
    refine v_if_eq F (tgt := 25) (dq dkX8_put_0 7 rfl) (by decide) (fun c4 => ?_) (fun c4 => ?_)
    · rw [if_pos c4] at h
      cases h
      exact v_vret F E (dq dkX8_put_0 15 rfl)
    · rw [if_neg c4] at h
      refine v_aload_n F (dq dkX8_put_0 8 rfl) rfl 0 rfl ?_
      obtain ⟨g5, h⟩ := gd_of h
      refine v_get F t0 (kWd_lt g5) (kWd_at g5) rfl inlX8 0 (by decide) (tc3 _ (List.mem_of_getElem? (i := 4) rfl)) rfl rfl (dq dkX8_put_0 9 rfl) ?_
      refine v_iload_n F (dq dkX8_put_0 10 rfl) rfl 1 rfl ?_
      obtain ⟨g7, h⟩ := gd_of h
      obtain ⟨g6, h⟩ := gd_of h
      refine v_aald F (t0 + 1) (kWd_lt1 g7) (kWd_rw g7) (t := 2) rfl rfl (ib_in g6) (dq dkX8_put_0 11 rfl) ?_
      refine v_iload_n F (dq dkX8_put_0 12 rfl) rfl 2 rfl ?_
      refine v_iload_n F (dq dkX8_put_0 13 rfl) rfl 3 rfl ?_
      obtain ⟨g8, h⟩ := gd_of h
      refine v_iast F (t0 + 2 + a1.toNatClampNeg) (xa_lt g8) (xa_at g8) (ib_in g8) (dq dkX8_put_0 14 rfl) ?_
      refine v_eqM (xwC (q := (t0 + 2 + a1.toNatClampNeg)) (j := a2.toNatClampNeg) (v := a3) (xa_lc g8) (xa_e g8)) ?_
      cases h
      exact v_vret F E (dq dkX8_put_0 15 rfl)
theorem f_X8_put_k {R : CS} {x : CS} {t0 : Nat} {a1 : Int32} {a2 : Int32} {a3 : Int32} (h : f_X8_put x t0 a1 a2 a3 = some R) : kWd t0 = true := by
  unfold f_X8_put at h
  exact (gd_of h).1
def rm_X8_takesSetting : Room := { frames := 2, cells := 0, slots := 0, locals := 52 }
def f_X8_takesSetting_30 (t0 : Nat) (x : CS) : Option (Bool) := some false
set_option maxRecDepth 100000 in
set_option maxHeartbeats 4000000 in
theorem t_X8_takesSetting_30 {C : Cx} {K : KE} {y : MS} {R : Bool}  (t0 : Nat) (x : CS) (h : f_X8_takesSetting_30 t0 x = some R) (F : Fx C RX8 cX8_takesSetting 3 rm_X8_takesSetting K) (E : CE C (xf K x y) (some (.int (b2i R))) 0 0 (some .boolean)) : V C 30 [] [] (xf K x y) 0 0 := by
  unfold f_X8_takesSetting_30 at h
  refine v_iconst F (v := 0) (dq dkX8_takesSetting_0 16 rfl) ki_0 ?_
  cases h
  exact v_zret F E (b2i_n false) (dq dkX8_takesSetting_0 17 rfl)
def f_X8_takesSetting (x : CS) (t0 : Nat) (a1 : Int32) (a2 : Int32) : Option (Bool) := gd (kWd t0) (if (b2i (f_X10_within a1 0 4)) = 0 then (f_X8_takesSetting_30 t0 x) else (gd (ib a1 5) (gd (ib a1 5) (if (b2i (f_X10_within a2 (sa 4 a1.toNatClampNeg) (sa 5 a1.toNatClampNeg))) = 0 then (f_X8_takesSetting_30 t0 x) else (some true)))))
set_option maxRecDepth 100000 in
set_option maxHeartbeats 4000000 in
theorem c_X8_takesSetting {K : KE} {l : Launch} {R : Bool} (x : CS) (y : MS) (t0 : Nat) (a1 : Int32) (a2 : Int32) (h : f_X8_takesSetting x t0 a1 a2 = some R) : MC K l yX8_takesSetting cX8_takesSetting 3 (some .boolean) rm_X8_takesSetting 0 0 [.ref (K.1 + t0), .int a1, .int a2] (xf K x y) (xf K x y) (some (.int (b2i R))) := by
  refine mc_of (ls0 := [(0, .ref (K.1 + t0)), (1, .int a1), (2, .int a2)]) (by decide) (Nat.le_of_ble_eq_true rfl) rfl (fun C hl F E => ?_)
  have F : Fx C RX8 cX8_takesSetting 3 rm_X8_takesSetting K := F
  unfold f_X8_takesSetting at h
  obtain ⟨_, h⟩ := gd_of h
  refine v_iload_n F (dq dkX8_takesSetting_0 0 rfl) rfl 1 rfl ?_
  refine v_iconst F (v := 0) (dq dkX8_takesSetting_0 1 rfl) ki_0 ?_
  refine v_iconst F (v := 4) (dq dkX8_takesSetting_0 2 rfl) ki_4 ?_
  refine v_callSN 3 F (as := [.int a1, .int 0, .int 4]) (st := []) (st1 := (.int (b2i (f_X10_within a1 0 4)) :: [])) (res := (some (.int (b2i (f_X10_within a1 0 4))))) (c_X10_within (l := C.2.1) a1 0 4) (List.mem_of_getElem? (i := 6) rfl) (tc8 _ (List.mem_of_getElem? (i := 15) rfl)) (tc1 _ (List.mem_of_getElem? (i := 2) rfl)) (tc8 _ (List.mem_of_getElem? (i := 16) rfl)) (by decide) rfl ⟨rfl, rfl, Nat.le_of_ble_eq_true rfl, Nat.le_of_ble_eq_true rfl⟩ ⟨Nat.le_of_ble_eq_true rfl, Nat.le_of_ble_eq_true rfl⟩ rfl (Nat.le_of_ble_eq_true rfl) rfl rfl rfl (dq dkX8_takesSetting_0 3 rfl) ?_
  refine v_if_eq F (tgt := 30) (dq dkX8_takesSetting_0 4 rfl) (by decide) (fun c2 => ?_) (fun c2 => ?_)
  · rw [if_pos c2] at h
    refine v_sub [] rfl ?_
    exact t_X8_takesSetting_30 t0 x h F E
  · rw [if_neg c2] at h
    refine v_iload_n F (dq dkX8_takesSetting_0 5 rfl) rfl 2 rfl ?_
    refine v_gets 4 F rfl (tc15 _ (List.mem_of_getElem? (i := 20) rfl)) (dq dkX8_takesSetting_0 6 rfl) ?_
    refine v_iload_n F (dq dkX8_takesSetting_0 7 rfl) rfl 1 rfl ?_
    obtain ⟨g3, h⟩ := gd_of h
    refine v_ti 4 F rfl (ib_in g3) (dq dkX8_takesSetting_0 8 rfl) ?_
    refine v_gets 5 F rfl (tc15 _ (List.mem_of_getElem? (i := 21) rfl)) (dq dkX8_takesSetting_0 9 rfl) ?_
    refine v_iload_n F (dq dkX8_takesSetting_0 10 rfl) rfl 1 rfl ?_
    obtain ⟨g4, h⟩ := gd_of h
    refine v_ti 5 F rfl (ib_in g4) (dq dkX8_takesSetting_0 11 rfl) ?_
    refine v_callSN 3 F (as := [.int a2, .int (sa 4 a1.toNatClampNeg), .int (sa 5 a1.toNatClampNeg)]) (st := []) (st1 := (.int (b2i (f_X10_within a2 (sa 4 a1.toNatClampNeg) (sa 5 a1.toNatClampNeg))) :: [])) (res := (some (.int (b2i (f_X10_within a2 (sa 4 a1.toNatClampNeg) (sa 5 a1.toNatClampNeg)))))) (c_X10_within (l := C.2.1) a2 (sa 4 a1.toNatClampNeg) (sa 5 a1.toNatClampNeg)) (List.mem_of_getElem? (i := 6) rfl) (tc8 _ (List.mem_of_getElem? (i := 15) rfl)) (tc1 _ (List.mem_of_getElem? (i := 2) rfl)) (tc8 _ (List.mem_of_getElem? (i := 16) rfl)) (by decide) rfl ⟨rfl, rfl, Nat.le_of_ble_eq_true rfl, Nat.le_of_ble_eq_true rfl⟩ ⟨Nat.le_of_ble_eq_true rfl, Nat.le_of_ble_eq_true rfl⟩ rfl (Nat.le_of_ble_eq_true rfl) rfl rfl rfl (dq dkX8_takesSetting_0 12 rfl) ?_
    refine v_if_eq F (tgt := 30) (dq dkX8_takesSetting_0 13 rfl) (by decide) (fun c6 => ?_) (fun c6 => ?_)
    · rw [if_pos c6] at h
      refine v_sub [] rfl ?_
      exact t_X8_takesSetting_30 t0 x h F E
    · rw [if_neg c6] at h
      refine v_iconst F (v := 1) (dq dkX8_takesSetting_0 14 rfl) ki_1 ?_
      refine v_goto F (tgt := 31) (dq dkX8_takesSetting_0 15 rfl) (by decide) ?_
      cases h
      exact v_zret F E (b2i_n true) (dq dkX8_takesSetting_0 17 rfl)
theorem f_X8_takesSetting_k {R : Bool} {x : CS} {t0 : Nat} {a1 : Int32} {a2 : Int32} (h : f_X8_takesSetting x t0 a1 a2 = some R) : kWd t0 = true := by
  unfold f_X8_takesSetting at h
  exact (gd_of h).1
def rm_X8_putSetting : Room := { frames := 2, cells := 0, slots := 0, locals := 52 }
def f_X8_putSetting (x : CS) (t0 : Nat) (a1 : Int32) (a2 : Int32) : Option (CS) := gd (kWd t0) (if (b2i (f_X10_within a1 0 4)) = 0 then (some x) else (gd (kWd t0) (gd (ib a1 (al (t0 + 8))) (some (pi x (t0 + 8) a1.toNatClampNeg a2)))))
set_option maxRecDepth 100000 in
set_option maxHeartbeats 4000000 in
theorem c_X8_putSetting {K : KE} {l : Launch} {R : CS} (x : CS) (y : MS) (t0 : Nat) (a1 : Int32) (a2 : Int32) (h : f_X8_putSetting x t0 a1 a2 = some R) : MC K l yX8_putSetting cX8_putSetting 3 none rm_X8_putSetting 0 0 [.ref (K.1 + t0), .int a1, .int a2] (xf K x y) (xf K R y) none := by
  refine mc_of (ls0 := [(0, .ref (K.1 + t0)), (1, .int a1), (2, .int a2)]) (by decide) (Nat.le_of_ble_eq_true rfl) rfl (fun C hl F E => ?_)
  have F : Fx C RX8 cX8_putSetting 3 rm_X8_putSetting K := F
  unfold f_X8_putSetting at h
  obtain ⟨_, h⟩ := gd_of h
  refine v_iload_n F (dq dkX8_putSetting_0 0 rfl) rfl 1 rfl ?_
  refine v_iconst F (v := 0) (dq dkX8_putSetting_0 1 rfl) ki_0 ?_
  refine v_iconst F (v := 4) (dq dkX8_putSetting_0 2 rfl) ki_4 ?_
  refine v_callSN 3 F (as := [.int a1, .int 0, .int 4]) (st := []) (st1 := (.int (b2i (f_X10_within a1 0 4)) :: [])) (res := (some (.int (b2i (f_X10_within a1 0 4))))) (c_X10_within (l := C.2.1) a1 0 4) (List.mem_of_getElem? (i := 6) rfl) (tc8 _ (List.mem_of_getElem? (i := 15) rfl)) (tc1 _ (List.mem_of_getElem? (i := 2) rfl)) (tc8 _ (List.mem_of_getElem? (i := 16) rfl)) (by decide) rfl ⟨rfl, rfl, Nat.le_of_ble_eq_true rfl, Nat.le_of_ble_eq_true rfl⟩ ⟨Nat.le_of_ble_eq_true rfl, Nat.le_of_ble_eq_true rfl⟩ rfl (Nat.le_of_ble_eq_true rfl) rfl rfl rfl (dq dkX8_putSetting_0 3 rfl) ?_
  refine v_if_eq F (tgt := 16) (dq dkX8_putSetting_0 4 rfl) (by decide) (fun c2 => ?_) (fun c2 => ?_)
  · rw [if_pos c2] at h
    cases h
    exact v_vret F E (dq dkX8_putSetting_0 10 rfl)
  · rw [if_neg c2] at h
    refine v_aload_n F (dq dkX8_putSetting_0 5 rfl) rfl 0 rfl ?_
    obtain ⟨g3, h⟩ := gd_of h
    refine v_get F t0 (kWd_lt g3) (kWd_at g3) rfl inlX8 1 (by decide) (tc3 _ (List.mem_of_getElem? (i := 5) rfl)) rfl rfl (dq dkX8_putSetting_0 6 rfl) ?_
    refine v_iload_n F (dq dkX8_putSetting_0 7 rfl) rfl 1 rfl ?_
    refine v_iload_n F (dq dkX8_putSetting_0 8 rfl) rfl 2 rfl ?_
    obtain ⟨g4, h⟩ := gd_of h
    refine v_iast F (t0 + 8) (xa_lt g4) (xa_at g4) (ib_in g4) (dq dkX8_putSetting_0 9 rfl) ?_
    refine v_eqM (xwC (q := (t0 + 8)) (j := a1.toNatClampNeg) (v := a2) (xa_lc g4) (xa_e g4)) ?_
    cases h
    exact v_vret F E (dq dkX8_putSetting_0 10 rfl)
theorem f_X8_putSetting_k {R : CS} {x : CS} {t0 : Nat} {a1 : Int32} {a2 : Int32} (h : f_X8_putSetting x t0 a1 a2 = some R) : kWd t0 = true := by
  unfold f_X8_putSetting at h
  exact (gd_of h).1
def rm_X8_become : Room := { frames := 1, cells := 0, slots := 0, locals := 30 }
def f_X8_become_45 (t0 : Nat) : Nat → CS → Nat → Int32 → Option (CS)
  | 0, _, _, _ => none
  | n + 1, x, a1, a2 => if 4 < a2 then (gd (kWd a1) (gd (kWd t0) (some (pi x t0 2 (gi x a1 2))))) else (gd (kWd t0) (gd (kWd a1) (gd (ib a2 (al (a1 + 8))) (gd (ib a2 (al (t0 + 8))) ((f_X8_become_45 t0 n) (pi x (t0 + 8) a2.toNatClampNeg (gi x (a1 + 8) a2.toNatClampNeg)) a1 (a2 + 1))))))
set_option maxRecDepth 100000 in
set_option maxHeartbeats 4000000 in
theorem t_X8_become_45 {C : Cx} {K : KE} {y : MS} {R : CS}  (t0 : Nat) (F : Fx C RX8 cX8_become 4 rm_X8_become K) (E : CE C (xf K R y) none 0 0 none) : ∀ (n : Nat) (x : CS) (a1 : Nat) (a2 : Int32) (h : f_X8_become_45 t0 n x a1 a2 = some R), V C 45 [(0, .ref (K.1 + t0)), (1, .ref (K.1 + a1)), (2, .int a2)] [] (xf K x y) 0 0 := by
  intro n
  induction n with
  | zero => intro x a1 a2 h; cases h
  | succ n ih =>
    intro x a1 a2 h
    rw [f_X8_become_45] at h
    refine v_iload_n F (dq dkX8_become_0 28 rfl) rfl 2 rfl ?_
    refine v_iconst F (v := 4) (dq dkX8_become_0 29 rfl) ki_4 ?_
    refine v_icmp_gt F (tgt := 68) (dq dkX8_become_0 30 rfl) (by decide) (fun c1 => ?_) (fun c1 => ?_)
    · rw [if_pos c1] at h
      refine v_aload_n F (dq dkX8_become_1 1 rfl) rfl 0 rfl ?_
      refine v_aload_n F (dq dkX8_become_1 2 rfl) rfl 1 rfl ?_
      obtain ⟨g2, h⟩ := gd_of h
      refine v_get F a1 (kWd_lt g2) (kWd_at g2) rfl inlX8 2 (by decide) (tc3 _ (List.mem_of_getElem? (i := 6) rfl)) rfl rfl (dq dkX8_become_1 3 rfl) ?_
      obtain ⟨g3, h⟩ := gd_of h
      refine v_put F t0 (kWd_lt g3) (kWd_at g3) rfl inlX8 tyX8_ok nmX8 2 (by decide) (tc3 _ (List.mem_of_getElem? (i := 6) rfl)) rfl rfl (tyX8_ok 2 (by decide)) rfl rfl (Nat.le_of_ble_eq_true rfl) (dq dkX8_become_1 4 rfl) ?_
      refine v_eqM (kWd_w2 g3) ?_
      cases h
      exact v_vret F E (dq dkX8_become_1 5 rfl)
    · rw [if_neg c1] at h
      refine v_aload_n F (dq dkX8_become_0 31 rfl) rfl 0 rfl ?_
      obtain ⟨g4, h⟩ := gd_of h
      refine v_get F t0 (kWd_lt g4) (kWd_at g4) rfl inlX8 1 (by decide) (tc3 _ (List.mem_of_getElem? (i := 5) rfl)) rfl rfl (dq dkX8_become_0 32 rfl) ?_
      refine v_iload_n F (dq dkX8_become_0 33 rfl) rfl 2 rfl ?_
      refine v_aload_n F (dq dkX8_become_0 34 rfl) rfl 1 rfl ?_
      obtain ⟨g5, h⟩ := gd_of h
      refine v_get F a1 (kWd_lt g5) (kWd_at g5) rfl inlX8 1 (by decide) (tc3 _ (List.mem_of_getElem? (i := 5) rfl)) rfl rfl (dq dkX8_become_0 35 rfl) ?_
      refine v_iload_n F (dq dkX8_become_0 36 rfl) rfl 2 rfl ?_
      obtain ⟨g6, h⟩ := gd_of h
      refine v_iald F (a1 + 8) (xa_lt g6) (xa_at g6) (ib_in g6) (dq dkX8_become_0 37 rfl) ?_
      obtain ⟨g7, h⟩ := gd_of h
      refine v_iast F (t0 + 8) (xa_lt g7) (xa_at g7) (ib_in g7) (dq dkX8_become_0 38 rfl) ?_
      refine v_eqM (xwC (q := (t0 + 8)) (j := a2.toNatClampNeg) (v := gi x (a1 + 8) a2.toNatClampNeg) (xa_lc g7) (xa_e g7)) ?_
      refine v_iinc F (v := a2 + 1) (ls' := [(2, .int (a2 + 1)), (0, .ref (K.1 + t0)), (1, .ref (K.1 + a1))]) (dq dkX8_become_0 39 rfl) (j := 2) rfl (kv_add ki_1) (by decide) rfl ?_
      refine v_goto F (tgt := 45) (dq dkX8_become_1 0 rfl) (by decide) ?_
      refine v_sub [1, 2, 0] rfl ?_
      exact ih (pi x (t0 + 8) a2.toNatClampNeg (gi x (a1 + 8) a2.toNatClampNeg)) a1 (a2 + 1) h
def f_X8_become_9 (k2 : CS → Nat → Int32 → Option (CS)) (t0 : Nat) : Nat → CS → Nat → Int32 → Int32 → Option (CS)
  | 0, _, _, _, _ => none
  | n + 1, x, a1, a2, a3 => if 9 ≤ a3 then (k2 x a1 (a2 + 1)) else (gd (kWd t0) (gd (kWd t0) (gd (ib a2 6) (gd (kWd a1) (gd (kWd a1) (gd (ib a2 6) (gd (ib a3 (al (a1 + 2 + a2.toNatClampNeg))) (gd (ib a3 (al (t0 + 2 + a2.toNatClampNeg))) ((f_X8_become_9 k2 t0 n) (pi x (t0 + 2 + a2.toNatClampNeg) a3.toNatClampNeg (gi x (a1 + 2 + a2.toNatClampNeg) a3.toNatClampNeg)) a1 a2 (a3 + 1))))))))))
set_option maxRecDepth 100000 in
set_option maxHeartbeats 4000000 in
theorem t_X8_become_9 {C : Cx} {K : KE} {y : MS} {R : CS}  (k2 : CS → Nat → Int32 → Option (CS)) (t0 : Nat) (hk2 : ∀ (x : CS) (a1 : Nat) (a2 : Int32), k2 x a1 a2 = some R → V C 2 [(0, .ref (K.1 + t0)), (1, .ref (K.1 + a1)), (2, .int a2)] [] (xf K x y) 0 0) (F : Fx C RX8 cX8_become 4 rm_X8_become K) (E : CE C (xf K R y) none 0 0 none) : ∀ (n : Nat) (x : CS) (a1 : Nat) (a2 : Int32) (a3 : Int32) (h : f_X8_become_9 k2 t0 n x a1 a2 a3 = some R), V C 9 [(0, .ref (K.1 + t0)), (1, .ref (K.1 + a1)), (2, .int a2), (3, .int a3)] [] (xf K x y) 0 0 := by
  intro n
  induction n with
  | zero => intro x a1 a2 a3 h; cases h
  | succ n ih =>
    intro x a1 a2 a3 h
    rw [f_X8_become_9] at h
    refine v_iload_n F (dq dkX8_become_0 7 rfl) rfl 3 rfl ?_
    refine v_bipush F (v := 9) (dq dkX8_become_0 8 rfl) kb_9 ?_
    refine v_icmp_ge F (tgt := 37) (dq dkX8_become_0 9 rfl) (by decide) (fun c8 => ?_) (fun c8 => ?_)
    · rw [if_pos c8] at h
      refine v_iinc F (v := a2 + 1) (ls' := [(2, .int (a2 + 1)), (0, .ref (K.1 + t0)), (1, .ref (K.1 + a1)), (3, .int a3)]) (dq dkX8_become_0 24 rfl) (j := 2) rfl (kv_add ki_1) (by decide) rfl ?_
      refine v_goto F (tgt := 2) (dq dkX8_become_0 25 rfl) (by decide) ?_
      refine v_sub [1, 2, 0] rfl ?_
      exact hk2 x a1 (a2 + 1) h
    · rw [if_neg c8] at h
      refine v_aload_n F (dq dkX8_become_0 10 rfl) rfl 0 rfl ?_
      obtain ⟨g9, h⟩ := gd_of h
      refine v_get F t0 (kWd_lt g9) (kWd_at g9) rfl inlX8 0 (by decide) (tc3 _ (List.mem_of_getElem? (i := 4) rfl)) rfl rfl (dq dkX8_become_0 11 rfl) ?_
      refine v_iload_n F (dq dkX8_become_0 12 rfl) rfl 2 rfl ?_
      obtain ⟨g11, h⟩ := gd_of h
      obtain ⟨g10, h⟩ := gd_of h
      refine v_aald F (t0 + 1) (kWd_lt1 g11) (kWd_rw g11) (t := 2) rfl rfl (ib_in g10) (dq dkX8_become_0 13 rfl) ?_
      refine v_iload_n F (dq dkX8_become_0 14 rfl) rfl 3 rfl ?_
      refine v_aload_n F (dq dkX8_become_0 15 rfl) rfl 1 rfl ?_
      obtain ⟨g12, h⟩ := gd_of h
      refine v_get F a1 (kWd_lt g12) (kWd_at g12) rfl inlX8 0 (by decide) (tc3 _ (List.mem_of_getElem? (i := 4) rfl)) rfl rfl (dq dkX8_become_0 16 rfl) ?_
      refine v_iload_n F (dq dkX8_become_0 17 rfl) rfl 2 rfl ?_
      obtain ⟨g14, h⟩ := gd_of h
      obtain ⟨g13, h⟩ := gd_of h
      refine v_aald F (a1 + 1) (kWd_lt1 g14) (kWd_rw g14) (t := 2) rfl rfl (ib_in g13) (dq dkX8_become_0 18 rfl) ?_
      refine v_iload_n F (dq dkX8_become_0 19 rfl) rfl 3 rfl ?_
      obtain ⟨g15, h⟩ := gd_of h
      refine v_iald F (a1 + 2 + a2.toNatClampNeg) (xa_lt g15) (xa_at g15) (ib_in g15) (dq dkX8_become_0 20 rfl) ?_
      obtain ⟨g16, h⟩ := gd_of h
      refine v_iast F (t0 + 2 + a2.toNatClampNeg) (xa_lt g16) (xa_at g16) (ib_in g16) (dq dkX8_become_0 21 rfl) ?_
      refine v_eqM (xwC (q := (t0 + 2 + a2.toNatClampNeg)) (j := a3.toNatClampNeg) (v := gi x (a1 + 2 + a2.toNatClampNeg) a3.toNatClampNeg) (xa_lc g16) (xa_e g16)) ?_
      refine v_iinc F (v := a3 + 1) (ls' := [(3, .int (a3 + 1)), (0, .ref (K.1 + t0)), (1, .ref (K.1 + a1)), (2, .int a2)]) (dq dkX8_become_0 22 rfl) (j := 3) rfl (kv_add ki_1) (by decide) rfl ?_
      refine v_goto F (tgt := 9) (dq dkX8_become_0 23 rfl) (by decide) ?_
      refine v_sub [1, 2, 3, 0] rfl ?_
      exact ih (pi x (t0 + 2 + a2.toNatClampNeg) a3.toNatClampNeg (gi x (a1 + 2 + a2.toNatClampNeg) a3.toNatClampNeg)) a1 a2 (a3 + 1) h
def f_X8_become_2 (t0 : Nat) : Nat → CS → Nat → Int32 → Option (CS)
  | 0, _, _, _ => none
  | n + 1, x, a1, a2 => if 5 < a2 then (f_X8_become_45 t0 1000 x a1 0) else (f_X8_become_9 (f_X8_become_2 t0 n) t0 1000 x a1 a2 0)
set_option maxRecDepth 100000 in
set_option maxHeartbeats 4000000 in
theorem t_X8_become_2 {C : Cx} {K : KE} {y : MS} {R : CS}  (t0 : Nat) (F : Fx C RX8 cX8_become 4 rm_X8_become K) (E : CE C (xf K R y) none 0 0 none) : ∀ (n : Nat) (x : CS) (a1 : Nat) (a2 : Int32) (h : f_X8_become_2 t0 n x a1 a2 = some R), V C 2 [(0, .ref (K.1 + t0)), (1, .ref (K.1 + a1)), (2, .int a2)] [] (xf K x y) 0 0 := by
  intro n
  induction n with
  | zero => intro x a1 a2 h; cases h
  | succ n ih =>
    intro x a1 a2 h
    rw [f_X8_become_2] at h
    refine v_iload_n F (dq dkX8_become_0 2 rfl) rfl 2 rfl ?_
    refine v_iconst F (v := 5) (dq dkX8_become_0 3 rfl) ki_5 ?_
    refine v_icmp_gt F (tgt := 43) (dq dkX8_become_0 4 rfl) (by decide) (fun c17 => ?_) (fun c17 => ?_)
    · rw [if_pos c17] at h
      refine v_iconst F (v := 0) (dq dkX8_become_0 26 rfl) ki_0 ?_
      refine v_istore_n F (ls' := [(2, .int 0), (0, .ref (K.1 + t0)), (1, .ref (K.1 + a1))]) (dq dkX8_become_0 27 rfl) rfl (by decide) rfl ?_
      refine v_sub [1, 2, 0] rfl ?_
      exact t_X8_become_45 t0 F E 1000 x a1 0 h
    · rw [if_neg c17] at h
      refine v_iconst F (v := 0) (dq dkX8_become_0 5 rfl) ki_0 ?_
      refine v_istore_n F (ls' := [(3, .int 0), (0, .ref (K.1 + t0)), (1, .ref (K.1 + a1)), (2, .int a2)]) (dq dkX8_become_0 6 rfl) rfl (by decide) rfl ?_
      refine v_sub [1, 2, 3, 0] rfl ?_
      exact t_X8_become_9 (f_X8_become_2 t0 n) t0 ih F E 1000 x a1 a2 0 h
def f_X8_become (x : CS) (t0 : Nat) (a1 : Nat) : Option (CS) := gd (kWd t0) (gd (kWd a1) (f_X8_become_2 t0 1000 x a1 0))
set_option maxRecDepth 100000 in
set_option maxHeartbeats 4000000 in
theorem c_X8_become {K : KE} {l : Launch} {R : CS} (x : CS) (y : MS) (t0 : Nat) (a1 : Nat) (h : f_X8_become x t0 a1 = some R) : MC K l yX8_become cX8_become 4 none rm_X8_become 0 0 [.ref (K.1 + t0), .ref (K.1 + a1)] (xf K x y) (xf K R y) none := by
  refine mc_of (ls0 := [(0, .ref (K.1 + t0)), (1, .ref (K.1 + a1))]) (by decide) (Nat.le_of_ble_eq_true rfl) rfl (fun C hl F E => ?_)
  have F : Fx C RX8 cX8_become 4 rm_X8_become K := F
  unfold f_X8_become at h
  obtain ⟨_, h⟩ := gd_of h
  obtain ⟨_, h⟩ := gd_of h
  refine v_iconst F (v := 0) (dq dkX8_become_0 0 rfl) ki_0 ?_
  refine v_istore_n F (ls' := [(2, .int 0), (0, .ref (K.1 + t0)), (1, .ref (K.1 + a1))]) (dq dkX8_become_0 1 rfl) rfl (by decide) rfl ?_
  refine v_sub [1, 2, 0] rfl ?_
  exact t_X8_become_2 t0 F E 1000 x a1 0 h
theorem f_X8_become_k {R : CS} {x : CS} {t0 : Nat} {a1 : Nat} (h : f_X8_become x t0 a1 = some R) : kWd t0 = true := by
  unfold f_X8_become at h
  exact (gd_of h).1
