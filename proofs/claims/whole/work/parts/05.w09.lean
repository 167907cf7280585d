def rm_X6_read : Room := { frames := 60, cells := 0, slots := 0, locals := 1731 }
def f_X6_read_80 (x : CS) : Option (Int32 × CS) := some (gi x 26 5, x)
set_option maxRecDepth 100000 in
set_option maxHeartbeats 4000000 in
theorem t_X6_read_80 {C : Cx} {K : KE} {y : MS} {R : Int32 × CS}  (x : CS) (h : f_X6_read_80 x = some R) (F : Fx C RX6 cX6_read 2 rm_X6_read K) (E : CE C (xf K R.2 y) (some (.int R.1)) 0 0 (some .int)) : V C 80 [(0, .ref (K.1 + 26))] [] (xf K x y) 0 0 := by
  unfold f_X6_read_80 at h
  refine v_aload_n F (dq dkX6_read_1 3 rfl) rfl 0 rfl ?_
  refine v_get F 26 (xn (by decide)) xc_26 rfl inlX6 5 (by decide) (tc4 _ (List.mem_of_getElem? (i := 1) rfl)) rfl rfl (dq dkX6_read_1 4 rfl) ?_
  have h := Option.some.inj h
  subst h
  exact v_iret F E (dq dkX6_read_1 5 rfl)
def f_X6_read_26 : Nat → CS → Int32 → Option (Int32 × CS)
  | 0, _, _ => none
  | n + 1, x, a1 => if 2 < a1 then (if (gi x 26 8) = 307 then (f_X6_read_80 x) else (f_X6_read_80 (f_X6_fail x))) else ((f_X6_expect x (300 + a1)).bind fun r4 => (f_X6_top 7 r4).bind fun r6 => (f_X6_expect r6 59).bind fun r8 => gd (ib a1 3) ((f_X6_read_26 n) (pi r8 29 a1.toNatClampNeg (gi r8 26 4)) (a1 + 1)))
set_option maxRecDepth 100000 in
set_option maxHeartbeats 4000000 in
theorem t_X6_read_26 {C : Cx} {K : KE} {y : MS} {R : Int32 × CS}  (F : Fx C RX6 cX6_read 2 rm_X6_read K) (E : CE C (xf K R.2 y) (some (.int R.1)) 0 0 (some .int)) : ∀ (n : Nat) (x : CS) (a1 : Int32) (h : f_X6_read_26 n x a1 = some R), V C 26 [(0, .ref (K.1 + 26)), (1, .int a1)] [] (xf K x y) 0 0 := by
  intro n
  induction n with
  | zero => intro x a1 h; cases h
  | succ n ih =>
    intro x a1 h
    rw [f_X6_read_26] at h
    refine v_iload_n F (dq dkX6_read_0 16 rfl) rfl 1 rfl ?_
    refine v_iconst F (v := 2) (dq dkX6_read_0 17 rfl) ki_2 ?_
    refine v_icmp_gt F (tgt := 66) (dq dkX6_read_0 18 rfl) (by decide) (fun c1 => ?_) (fun c1 => ?_)
    · rw [if_pos c1] at h
      refine v_aload_n F (dq dkX6_read_0 37 rfl) rfl 0 rfl ?_
      refine v_get F 26 (xn (by decide)) xc_26 rfl inlX6 8 (by decide) (tc4 _ (List.mem_of_getElem? (i := 4) rfl)) rfl rfl (dq dkX6_read_0 38 rfl) ?_
      refine v_sipush F (v := 307) (dq dkX6_read_0 39 rfl) ks_307 ?_
      refine v_icmp_eq F (tgt := 80) (dq dkX6_read_1 0 rfl) (by decide) (fun c2 => ?_) (fun c2 => ?_)
      · rw [if_pos c2] at h
        refine v_sub [0] rfl ?_
        exact t_X6_read_80 x h F E
      · rw [if_neg c2] at h
        refine v_aload_n F (dq dkX6_read_1 1 rfl) rfl 0 rfl ?_
        refine v_callV 0 F (q := 26) (kc1 := 0) (ks1 := 0) (as := []) (st := []) (st1 := []) (res := none) (c_X6_fail (l := C.2.1) x y) (xn (by decide)) xc_26 rfl (tc9 _ (List.mem_of_getElem? (i := 13) rfl)) (tc9 _ (List.mem_of_getElem? (i := 14) rfl)) (tc9 _ (List.mem_of_getElem? (i := 15) rfl)) (tc1 _ (List.mem_of_getElem? (i := 23) rfl)) (tc9 _ (List.mem_of_getElem? (i := 16) rfl)) (by decide) rfl ⟨rfl, rfl, Nat.le_of_ble_eq_true rfl, Nat.le_of_ble_eq_true rfl⟩ ⟨Nat.le_of_ble_eq_true rfl, Nat.le_of_ble_eq_true rfl⟩ rfl (Nat.le_of_ble_eq_true rfl) rfl rfl rfl (dq dkX6_read_1 2 rfl) ?_
        refine v_sub [0] rfl ?_
        exact t_X6_read_80 (f_X6_fail x) h F E
    · rw [if_neg c1] at h
      refine v_aload_n F (dq dkX6_read_0 19 rfl) rfl 0 rfl ?_
      refine v_sipush F (v := 300) (dq dkX6_read_0 20 rfl) ks_300 ?_
      refine v_iload_n F (dq dkX6_read_0 21 rfl) rfl 1 rfl ?_
      refine v_iadd F (dq dkX6_read_0 22 rfl) ?_
      obtain ⟨r4, e5, h⟩ := bd_of h
      refine v_callV 1 F (q := 26) (kc1 := 0) (ks1 := 0) (as := [.int (300 + a1)]) (st := []) (st1 := []) (res := none) (c_X6_expect (l := C.2.1) x y (300 + a1) e5) (xn (by decide)) xc_26 rfl (tc9 _ (List.mem_of_getElem? (i := 9) rfl)) (tc9 _ (List.mem_of_getElem? (i := 10) rfl)) (tc9 _ (List.mem_of_getElem? (i := 11) rfl)) (tc1 _ (List.mem_of_getElem? (i := 23) rfl)) (tc9 _ (List.mem_of_getElem? (i := 12) rfl)) (by decide) rfl ⟨rfl, rfl, Nat.le_of_ble_eq_true rfl, Nat.le_of_ble_eq_true rfl⟩ ⟨Nat.le_of_ble_eq_true rfl, Nat.le_of_ble_eq_true rfl⟩ rfl (Nat.le_of_ble_eq_true rfl) rfl rfl rfl (dq dkX6_read_0 23 rfl) ?_
      refine v_aload_n F (dq dkX6_read_0 24 rfl) rfl 0 rfl ?_
      obtain ⟨r6, e7, h⟩ := bd_of h
      refine v_callV 0 F (q := 26) (kc1 := 0) (ks1 := 0) (as := []) (st := []) (st1 := []) (res := none) (c_X6_top (l := C.2.1) 7 r4 y e7) (xn (by decide)) xc_26 rfl (tc9 _ (List.mem_of_getElem? (i := 17) rfl)) (tc9 _ (List.mem_of_getElem? (i := 18) rfl)) (tc9 _ (List.mem_of_getElem? (i := 19) rfl)) (tc1 _ (List.mem_of_getElem? (i := 23) rfl)) (tc9 _ (List.mem_of_getElem? (i := 20) rfl)) (by decide) rfl ⟨rfl, rfl, Nat.le_of_ble_eq_true rfl, Nat.le_of_ble_eq_true rfl⟩ ⟨Nat.le_of_ble_eq_true rfl, Nat.le_of_ble_eq_true rfl⟩ rfl (Nat.le_of_ble_eq_true rfl) rfl rfl rfl (dq dkX6_read_0 25 rfl) ?_
      refine v_aload_n F (dq dkX6_read_0 26 rfl) rfl 0 rfl ?_
      refine v_bipush F (v := 59) (dq dkX6_read_0 27 rfl) kb_59 ?_
      obtain ⟨r8, e9, h⟩ := bd_of h
      refine v_callV 1 F (q := 26) (kc1 := 0) (ks1 := 0) (as := [.int 59]) (st := []) (st1 := []) (res := none) (c_X6_expect (l := C.2.1) r6 y 59 e9) (xn (by decide)) xc_26 rfl (tc9 _ (List.mem_of_getElem? (i := 9) rfl)) (tc9 _ (List.mem_of_getElem? (i := 10) rfl)) (tc9 _ (List.mem_of_getElem? (i := 11) rfl)) (tc1 _ (List.mem_of_getElem? (i := 23) rfl)) (tc9 _ (List.mem_of_getElem? (i := 12) rfl)) (by decide) rfl ⟨rfl, rfl, Nat.le_of_ble_eq_true rfl, Nat.le_of_ble_eq_true rfl⟩ ⟨Nat.le_of_ble_eq_true rfl, Nat.le_of_ble_eq_true rfl⟩ rfl (Nat.le_of_ble_eq_true rfl) rfl rfl rfl (dq dkX6_read_0 28 rfl) ?_
      refine v_aload_n F (dq dkX6_read_0 29 rfl) rfl 0 rfl ?_
      refine v_get F 26 (xn (by decide)) xc_26 rfl inlX6 3 (by decide) (tc3 _ (List.mem_of_getElem? (i := 23) rfl)) rfl rfl (dq dkX6_read_0 30 rfl) ?_
      refine v_iload_n F (dq dkX6_read_0 31 rfl) rfl 1 rfl ?_
      refine v_aload_n F (dq dkX6_read_0 32 rfl) rfl 0 rfl ?_
      refine v_get F 26 (xn (by decide)) xc_26 rfl inlX6 4 (by decide) (tc4 _ (List.mem_of_getElem? (i := 0) rfl)) rfl rfl (dq dkX6_read_0 33 rfl) ?_
      obtain ⟨g10, h⟩ := gd_of h
      refine v_iast F 29 (xn (by decide)) xc_29 (ib_in g10) (dq dkX6_read_0 34 rfl) ?_
      refine v_eqM (xwC (q := 29) (j := a1.toNatClampNeg) (v := gi r8 26 4) (by decide) rfl) ?_
      refine v_iinc F (v := a1 + 1) (ls' := [(1, .int (a1 + 1)), (0, .ref (K.1 + 26))]) (dq dkX6_read_0 35 rfl) (j := 1) rfl (kv_add ki_1) (by decide) rfl ?_
      refine v_goto F (tgt := 26) (dq dkX6_read_0 36 rfl) (by decide) ?_
      refine v_sub [1, 0] rfl ?_
      exact ih (pi r8 29 a1.toNatClampNeg (gi r8 26 4)) (a1 + 1) h
def f_X6_read (x : CS) : Option (Int32 × CS) := (f_X6_advance (pi (pi (pi (pi x 26 4 0) 26 5 (-1)) 26 6 0) 26 7 0)).bind fun r11 => f_X6_read_26 1000 r11 0
set_option maxRecDepth 100000 in
set_option maxHeartbeats 4000000 in
theorem c_X6_read {K : KE} {l : Launch} {R : Int32 × CS} (x : CS) (y : MS) (h : f_X6_read x = some R) : MC K l yX6_read cX6_read 2 (some .int) rm_X6_read 0 0 [.ref (K.1 + 26)] (xf K x y) (xf K R.2 y) (some (.int R.1)) := by
  unfold f_X6_read at h
  refine mc_of (ls0 := [(0, .ref (K.1 + 26))]) (by decide) (Nat.le_of_ble_eq_true rfl) rfl (fun C hl hnm F E => ?_)
  have F : Fx C RX6 cX6_read 2 rm_X6_read K := F
  refine v_aload_n F (dq dkX6_read_0 0 rfl) rfl 0 rfl ?_
  refine v_iconst F (v := 0) (dq dkX6_read_0 1 rfl) ki_0 ?_
  refine v_put F 26 (xn (by decide)) xc_26 rfl inlX6 tyX6_ok nmX6 4 (by decide) (tc4 _ (List.mem_of_getElem? (i := 0) rfl)) rfl rfl (tyX6_ok 4 (by decide)) rfl rfl (Nat.le_of_ble_eq_true rfl) (dq dkX6_read_0 2 rfl) ?_
  refine v_eqM (xwC (q := 26) (j := 4) (v := 0) (by decide) rfl) ?_
  refine v_aload_n F (dq dkX6_read_0 3 rfl) rfl 0 rfl ?_
  refine v_iconst F (v := (-1)) (dq dkX6_read_0 4 rfl) ki_m1 ?_
  refine v_put F 26 (xn (by decide)) xc_26 rfl inlX6 tyX6_ok nmX6 5 (by decide) (tc4 _ (List.mem_of_getElem? (i := 1) rfl)) rfl rfl (tyX6_ok 5 (by decide)) rfl rfl (Nat.le_of_ble_eq_true rfl) (dq dkX6_read_0 5 rfl) ?_
  refine v_eqM (xwC (q := 26) (j := 5) (v := (-1)) (by decide) rfl) ?_
  refine v_aload_n F (dq dkX6_read_0 6 rfl) rfl 0 rfl ?_
  refine v_iconst F (v := 0) (dq dkX6_read_0 7 rfl) ki_0 ?_
  refine v_put F 26 (xn (by decide)) xc_26 rfl inlX6 tyX6_ok nmX6 6 (by decide) (tc4 _ (List.mem_of_getElem? (i := 2) rfl)) rfl rfl (tyX6_ok 6 (by decide)) rfl rfl (Nat.le_of_ble_eq_true rfl) (dq dkX6_read_0 8 rfl) ?_
  refine v_eqM (xwC (q := 26) (j := 6) (v := 0) (by decide) rfl) ?_
  refine v_aload_n F (dq dkX6_read_0 9 rfl) rfl 0 rfl ?_
  refine v_iconst F (v := 0) (dq dkX6_read_0 10 rfl) ki_0 ?_
  refine v_put F 26 (xn (by decide)) xc_26 rfl inlX6 tyX6_ok nmX6 7 (by decide) (tc4 _ (List.mem_of_getElem? (i := 3) rfl)) rfl rfl (tyX6_ok 7 (by decide)) rfl rfl (Nat.le_of_ble_eq_true rfl) (dq dkX6_read_0 11 rfl) ?_
  refine v_eqM (xwC (q := 26) (j := 7) (v := 0) (by decide) rfl) ?_
  refine v_aload_n F (dq dkX6_read_0 12 rfl) rfl 0 rfl ?_
  obtain ⟨r11, e12, h⟩ := bd_of h
  refine v_callV 0 F (q := 26) (kc1 := 0) (ks1 := 0) (as := []) (st := []) (st1 := []) (res := none) (c_X6_advance (l := C.2.1) (pi (pi (pi (pi x 26 4 0) 26 5 (-1)) 26 6 0) 26 7 0) y e12) (xn (by decide)) xc_26 rfl (tc8 _ (List.mem_of_getElem? (i := 4) rfl)) (tc8 _ (List.mem_of_getElem? (i := 5) rfl)) (tc8 _ (List.mem_of_getElem? (i := 6) rfl)) (tc1 _ (List.mem_of_getElem? (i := 23) rfl)) (tc8 _ (List.mem_of_getElem? (i := 7) rfl)) (by decide) rfl ⟨rfl, rfl, Nat.le_of_ble_eq_true rfl, Nat.le_of_ble_eq_true rfl⟩ ⟨Nat.le_of_ble_eq_true rfl, Nat.le_of_ble_eq_true rfl⟩ rfl (Nat.le_of_ble_eq_true rfl) rfl rfl rfl (dq dkX6_read_0 13 rfl) ?_
  refine v_iconst F (v := 0) (dq dkX6_read_0 14 rfl) ki_0 ?_
  refine v_istore_n F (ls' := [(1, .int 0), (0, .ref (K.1 + 26))]) (dq dkX6_read_0 15 rfl) rfl (by decide) rfl ?_
  refine v_sub [1, 0] rfl ?_
  exact t_X6_read_26 F E 1000 r11 0 h
def rm_X7_hurtBy : Room := { frames := 1, cells := 0, slots := 0, locals := 30 }
def f_X7_hurtBy_82 (t0 : Nat) (x : CS) (s0 : Int32) (s1 : Int32) : Option (Int32) := some (if 0 < (s1 - s0) then (s1 - s0) else 0)
set_option maxRecDepth 100000 in
set_option maxHeartbeats 4000000 in
theorem t_X7_hurtBy_82 {C : Cx} {K : KE} {y : MS} {R : Int32}  (t0 : Nat) (x : CS) (s0 : Int32) (s1 : Int32) (h : f_X7_hurtBy_82 t0 x s0 s1 = some R) (F : Fx C RX7 cX7_hurtBy 7 rm_X7_hurtBy K) (E : CE C (xf K x y) (some (.int R)) 0 0 (some .int)) : V C 82 [] [.int s0, .int s1] (xf K x y) 0 0 := by
  unfold f_X7_hurtBy_82 at h
  refine v_isub F (dq dkX7_hurtBy_1 8 rfl) ?_
  refine v_istore F (ls' := [(6, .int (s1 - s0))]) (dq dkX7_hurtBy_1 9 rfl) (by decide) rfl ?_
  refine v_iconst F (v := 0) (dq dkX7_hurtBy_1 10 rfl) ki_0 ?_
  refine v_iload F (dq dkX7_hurtBy_1 11 rfl) 0 rfl ?_
  refine v_mmax F (tc44 _ (List.mem_of_getElem? (i := 14) rfl)) (tc21 _ (List.mem_of_getElem? (i := 4) rfl)) (tc21 _ (List.mem_of_getElem? (i := 1) rfl)) (tc21 _ (List.mem_of_getElem? (i := 5) rfl)) (Nat.le_of_ble_eq_true rfl) (Nat.le_of_ble_eq_true rfl) (Nat.le_of_ble_eq_true rfl) (Nat.le_of_ble_eq_true rfl) (dq dkX7_hurtBy_1 12 rfl) ?_
  have h := Option.some.inj h
  subst h
  exact v_iret F E (dq dkX7_hurtBy_1 13 rfl)
def f_X7_hurtBy_44 (t0 : Nat) (x : CS) (a4 : Int32) (s0 : Int32) : Option (Int32) := gd (kTr x t0) (gd (kTr x t0) (gd (kTr x t0) (if s0 = 0 then (f_X7_hurtBy_82 t0 x 0 ((((if 0 ≤ (ti x t0 2) then (ti x t0 2) else 0 - (ti x t0 2)) * a4) + (3 * (ti x t0 3))) + ((ti x t0 1) / 10))) else (f_X7_hurtBy_82 t0 x 12 ((((if 0 ≤ (ti x t0 2) then (ti x t0 2) else 0 - (ti x t0 2)) * a4) + (3 * (ti x t0 3))) + ((ti x t0 1) / 10))))))
set_option maxRecDepth 100000 in
set_option maxHeartbeats 4000000 in
theorem t_X7_hurtBy_44 {C : Cx} {K : KE} {y : MS} {R : Int32}  (t0 : Nat) (x : CS) (a4 : Int32) (s0 : Int32) (h : f_X7_hurtBy_44 t0 x a4 s0 = some R) (F : Fx C RX7 cX7_hurtBy 7 rm_X7_hurtBy K) (E : CE C (xf K x y) (some (.int R)) 0 0 (some .int)) : V C 44 [(0, .ref (K.1 + t0)), (4, .int a4)] [.int s0] (xf K x y) 0 0 := by
  unfold f_X7_hurtBy_44 at h
  refine v_istore F (ls' := [(5, .int s0), (0, .ref (K.1 + t0)), (4, .int a4)]) (dq dkX7_hurtBy_0 27 rfl) (by decide) rfl ?_
  refine v_aload_n F (dq dkX7_hurtBy_0 28 rfl) rfl 1 rfl ?_
  obtain ⟨g1, h⟩ := gd_of h
  refine v_get F t0 (kTr_lt g1) (kTr_at g1) rfl inlX7 2 (by decide) (tc43 _ (List.mem_of_getElem? (i := 1) rfl)) rfl rfl (dq dkX7_hurtBy_0 29 rfl) ?_
  refine v_mabs F (tc48 _ (List.mem_of_getElem? (i := 6) rfl)) (tc26 _ (List.mem_of_getElem? (i := 18) rfl)) (tc21 _ (List.mem_of_getElem? (i := 1) rfl)) (tc26 _ (List.mem_of_getElem? (i := 19) rfl)) (Nat.le_of_ble_eq_true rfl) (Nat.le_of_ble_eq_true rfl) (Nat.le_of_ble_eq_true rfl) (Nat.le_of_ble_eq_true rfl) (dq dkX7_hurtBy_0 30 rfl) ?_
  refine v_iload F (dq dkX7_hurtBy_0 31 rfl) 2 rfl ?_
  refine v_imul F (dq dkX7_hurtBy_0 32 rfl) ?_
  refine v_iconst F (v := 3) (dq dkX7_hurtBy_0 33 rfl) ki_3 ?_
  refine v_aload_n F (dq dkX7_hurtBy_0 34 rfl) rfl 1 rfl ?_
  obtain ⟨g2, h⟩ := gd_of h
  refine v_get F t0 (kTr_lt g2) (kTr_at g2) rfl inlX7 3 (by decide) (tc43 _ (List.mem_of_getElem? (i := 2) rfl)) rfl rfl (dq dkX7_hurtBy_0 35 rfl) ?_
  refine v_imul F (dq dkX7_hurtBy_0 36 rfl) ?_
  refine v_iadd F (dq dkX7_hurtBy_0 37 rfl) ?_
  refine v_aload_n F (dq dkX7_hurtBy_0 38 rfl) rfl 1 rfl ?_
  obtain ⟨g3, h⟩ := gd_of h
  refine v_get F t0 (kTr_lt g3) (kTr_at g3) rfl inlX7 1 (by decide) (tc43 _ (List.mem_of_getElem? (i := 0) rfl)) rfl rfl (dq dkX7_hurtBy_0 39 rfl) ?_
  refine v_bipush F (v := 10) (dq dkX7_hurtBy_1 0 rfl) kb_10 ?_
  refine v_idiv F (dq dkX7_hurtBy_1 1 rfl) (by decide) ?_
  refine v_iadd F (dq dkX7_hurtBy_1 2 rfl) ?_
  refine v_iload F (dq dkX7_hurtBy_1 3 rfl) 0 rfl ?_
  refine v_if_eq F (tgt := 81) (dq dkX7_hurtBy_1 4 rfl) (by decide) (fun c4 => ?_) (fun c4 => ?_)
  · rw [if_pos c4] at h
    refine v_iconst F (v := 0) (dq dkX7_hurtBy_1 7 rfl) ki_0 ?_
    refine v_sub [] rfl ?_
    exact t_X7_hurtBy_82 t0 x 0 ((((if 0 ≤ (ti x t0 2) then (ti x t0 2) else 0 - (ti x t0 2)) * a4) + (3 * (ti x t0 3))) + ((ti x t0 1) / 10)) h F E
  · rw [if_neg c4] at h
    refine v_bipush F (v := 12) (dq dkX7_hurtBy_1 5 rfl) kb_12 ?_
    refine v_goto F (tgt := 82) (dq dkX7_hurtBy_1 6 rfl) (by decide) ?_
    refine v_sub [] rfl ?_
    exact t_X7_hurtBy_82 t0 x 12 ((((if 0 ≤ (ti x t0 2) then (ti x t0 2) else 0 - (ti x t0 2)) * a4) + (3 * (ti x t0 3))) + ((ti x t0 1) / 10)) h F E
def f_X7_hurtBy_13 (t0 : Nat) (x : CS) (a1 : Int32) (a2 : Int32) (s0 : Int32) (s1 : Int32) : Option (Int32) := if ((a2 >>> ((a1 &&& 7) &&& 31)) &&& 1) = 0 then (f_X7_hurtBy_44 t0 x (if (8 - (if 0 ≤ (s1 - s0) then (s1 - s0) else 0 - (s1 - s0))) < (if 0 ≤ (s1 - s0) then (s1 - s0) else 0 - (s1 - s0)) then (8 - (if 0 ≤ (s1 - s0) then (s1 - s0) else 0 - (s1 - s0))) else (if 0 ≤ (s1 - s0) then (s1 - s0) else 0 - (s1 - s0))) 0) else (f_X7_hurtBy_44 t0 x (if (8 - (if 0 ≤ (s1 - s0) then (s1 - s0) else 0 - (s1 - s0))) < (if 0 ≤ (s1 - s0) then (s1 - s0) else 0 - (s1 - s0)) then (8 - (if 0 ≤ (s1 - s0) then (s1 - s0) else 0 - (s1 - s0))) else (if 0 ≤ (s1 - s0) then (s1 - s0) else 0 - (s1 - s0))) 1)
set_option maxRecDepth 100000 in
set_option maxHeartbeats 4000000 in
theorem t_X7_hurtBy_13 {C : Cx} {K : KE} {y : MS} {R : Int32}  (t0 : Nat) (x : CS) (a1 : Int32) (a2 : Int32) (s0 : Int32) (s1 : Int32) (h : f_X7_hurtBy_13 t0 x a1 a2 s0 s1 = some R) (F : Fx C RX7 cX7_hurtBy 7 rm_X7_hurtBy K) (E : CE C (xf K x y) (some (.int R)) 0 0 (some .int)) : V C 13 [(0, .ref (K.1 + t0)), (1, .int a1), (2, .int a2)] [.int s0, .int s1] (xf K x y) 0 0 := by
  unfold f_X7_hurtBy_13 at h
  refine v_isub F (dq dkX7_hurtBy_0 7 rfl) ?_
  refine v_mabs F (tc48 _ (List.mem_of_getElem? (i := 6) rfl)) (tc26 _ (List.mem_of_getElem? (i := 18) rfl)) (tc21 _ (List.mem_of_getElem? (i := 1) rfl)) (tc26 _ (List.mem_of_getElem? (i := 19) rfl)) (Nat.le_of_ble_eq_true rfl) (Nat.le_of_ble_eq_true rfl) (Nat.le_of_ble_eq_true rfl) (Nat.le_of_ble_eq_true rfl) (dq dkX7_hurtBy_0 8 rfl) ?_
  refine v_istore_n F (ls' := [(3, .int (if 0 ≤ (s1 - s0) then (s1 - s0) else 0 - (s1 - s0))), (0, .ref (K.1 + t0)), (1, .int a1), (2, .int a2)]) (dq dkX7_hurtBy_0 9 rfl) rfl (by decide) rfl ?_
  refine v_iload_n F (dq dkX7_hurtBy_0 10 rfl) rfl 0 rfl ?_
  refine v_bipush F (v := 8) (dq dkX7_hurtBy_0 11 rfl) kb_8 ?_
  refine v_iload_n F (dq dkX7_hurtBy_0 12 rfl) rfl 0 rfl ?_
  refine v_isub F (dq dkX7_hurtBy_0 13 rfl) ?_
  refine v_mmin F (tc48 _ (List.mem_of_getElem? (i := 7) rfl)) (tc21 _ (List.mem_of_getElem? (i := 0) rfl)) (tc21 _ (List.mem_of_getElem? (i := 1) rfl)) (tc21 _ (List.mem_of_getElem? (i := 2) rfl)) (Nat.le_of_ble_eq_true rfl) (Nat.le_of_ble_eq_true rfl) (Nat.le_of_ble_eq_true rfl) (Nat.le_of_ble_eq_true rfl) (dq dkX7_hurtBy_0 14 rfl) ?_
  refine v_istore F (ls' := [(4, .int (if (8 - (if 0 ≤ (s1 - s0) then (s1 - s0) else 0 - (s1 - s0))) < (if 0 ≤ (s1 - s0) then (s1 - s0) else 0 - (s1 - s0)) then (8 - (if 0 ≤ (s1 - s0) then (s1 - s0) else 0 - (s1 - s0))) else (if 0 ≤ (s1 - s0) then (s1 - s0) else 0 - (s1 - s0)))), (3, .int (if 0 ≤ (s1 - s0) then (s1 - s0) else 0 - (s1 - s0))), (0, .ref (K.1 + t0)), (1, .int a1), (2, .int a2)]) (dq dkX7_hurtBy_0 15 rfl) (by decide) rfl ?_
  refine v_iload_n F (dq dkX7_hurtBy_0 16 rfl) rfl 4 rfl ?_
  refine v_iload_n F (dq dkX7_hurtBy_0 17 rfl) rfl 3 rfl ?_
  refine v_bipush F (v := 7) (dq dkX7_hurtBy_0 18 rfl) kb_7 ?_
  refine v_iand F (dq dkX7_hurtBy_0 19 rfl) ?_
  refine v_ishr F (dq dkX7_hurtBy_0 20 rfl) ?_
  refine v_iconst F (v := 1) (dq dkX7_hurtBy_0 21 rfl) ki_1 ?_
  refine v_iand F (dq dkX7_hurtBy_0 22 rfl) ?_
  refine v_if_eq F (tgt := 43) (dq dkX7_hurtBy_0 23 rfl) (by decide) (fun c5 => ?_) (fun c5 => ?_)
  · rw [if_pos c5] at h
    refine v_iconst F (v := 0) (dq dkX7_hurtBy_0 26 rfl) ki_0 ?_
    refine v_sub [2, 0] rfl ?_
    exact t_X7_hurtBy_44 t0 x (if (8 - (if 0 ≤ (s1 - s0) then (s1 - s0) else 0 - (s1 - s0))) < (if 0 ≤ (s1 - s0) then (s1 - s0) else 0 - (s1 - s0)) then (8 - (if 0 ≤ (s1 - s0) then (s1 - s0) else 0 - (s1 - s0))) else (if 0 ≤ (s1 - s0) then (s1 - s0) else 0 - (s1 - s0))) 0 h F E
  · rw [if_neg c5] at h
    refine v_iconst F (v := 1) (dq dkX7_hurtBy_0 24 rfl) ki_1 ?_
    refine v_goto F (tgt := 44) (dq dkX7_hurtBy_0 25 rfl) (by decide) ?_
    refine v_sub [2, 0] rfl ?_
    exact t_X7_hurtBy_44 t0 x (if (8 - (if 0 ≤ (s1 - s0) then (s1 - s0) else 0 - (s1 - s0))) < (if 0 ≤ (s1 - s0) then (s1 - s0) else 0 - (s1 - s0)) then (8 - (if 0 ≤ (s1 - s0) then (s1 - s0) else 0 - (s1 - s0))) else (if 0 ≤ (s1 - s0) then (s1 - s0) else 0 - (s1 - s0))) 1 h F E
def f_X7_hurtBy (x : CS) (t0 : Nat) (a1 : Int32) (a2 : Int32) : Option (Int32) := gd (kTr x t0) (gd (kTr x t0) (if 0 ≤ (ti x t0 2) then (f_X7_hurtBy_13 t0 x a1 a2 0 a1) else (f_X7_hurtBy_13 t0 x a1 a2 4 a1)))
set_option maxRecDepth 100000 in
set_option maxHeartbeats 4000000 in
theorem c_X7_hurtBy {K : KE} {l : Launch} {R : Int32} (x : CS) (y : MS) (t0 : Nat) (a1 : Int32) (a2 : Int32) (h : f_X7_hurtBy x t0 a1 a2 = some R) : MC K l yX7_hurtBy cX7_hurtBy 7 (some .int) rm_X7_hurtBy 0 0 [.ref (K.1 + t0), .int a1, .int a2] (xf K x y) (xf K x y) (some (.int R)) := by
  unfold f_X7_hurtBy at h
  obtain ⟨_, h⟩ := gd_of h
  refine mc_of (ls0 := [(0, .ref (K.1 + t0)), (1, .int a1), (2, .int a2)]) (by decide) (Nat.le_of_ble_eq_true rfl) rfl (fun C hl hnm F E => ?_)
  have F : Fx C RX7 cX7_hurtBy 7 rm_X7_hurtBy K := F
  refine v_iload_n F (dq dkX7_hurtBy_0 0 rfl) rfl 1 rfl ?_
  refine v_aload_n F (dq dkX7_hurtBy_0 1 rfl) rfl 0 rfl ?_
  obtain ⟨g6, h⟩ := gd_of h
  refine v_get F t0 (kTr_lt g6) (kTr_at g6) rfl inlX7 2 (by decide) (tc43 _ (List.mem_of_getElem? (i := 1) rfl)) rfl rfl (dq dkX7_hurtBy_0 2 rfl) ?_
  refine v_if_ge F (tgt := 12) (dq dkX7_hurtBy_0 3 rfl) (by decide) (fun c7 => ?_) (fun c7 => ?_)
  · rw [if_pos c7] at h
    refine v_iconst F (v := 0) (dq dkX7_hurtBy_0 6 rfl) ki_0 ?_
    exact t_X7_hurtBy_13 t0 x a1 a2 0 a1 h F E
  · rw [if_neg c7] at h
    refine v_iconst F (v := 4) (dq dkX7_hurtBy_0 4 rfl) ki_4 ?_
    refine v_goto F (tgt := 13) (dq dkX7_hurtBy_0 5 rfl) (by decide) ?_
    exact t_X7_hurtBy_13 t0 x a1 a2 4 a1 h F E
theorem f_X7_hurtBy_k {R : Int32} {x : CS} {t0 : Nat} {a1 : Int32} {a2 : Int32} (h : f_X7_hurtBy x t0 a1 a2 = some R) : kTr x t0 = true := by
  unfold f_X7_hurtBy at h
  exact (gd_of h).1
def rm_X8_takes : Room := { frames := 2, cells := 0, slots := 0, locals := 52 }
def f_X8_takes_30 (t0 : Nat) (x : CS) : Option (Bool) := some false
set_option maxRecDepth 100000 in
set_option maxHeartbeats 4000000 in
theorem t_X8_takes_30 {C : Cx} {K : KE} {y : MS} {R : Bool}  (t0 : Nat) (x : CS) (h : f_X8_takes_30 t0 x = some R) (F : Fx C RX8 cX8_takes 3 rm_X8_takes K) (E : CE C (xf K x y) (some (.int (b2i R))) 0 0 (some .boolean)) : V C 30 [] [] (xf K x y) 0 0 := by
  unfold f_X8_takes_30 at h
  refine v_iconst F (v := 0) (dq dkX8_takes_0 16 rfl) ki_0 ?_
  have h := Option.some.inj h
  subst h
  exact v_zret F E (b2i_n false) (dq dkX8_takes_0 17 rfl)
def f_X8_takes (x : CS) (t0 : Nat) (a1 : Int32) (a2 : Int32) : Option (Bool) := gd (kWd t0) (if (b2i (f_X10_within a1 0 5)) = 0 then (f_X8_takes_30 t0 x) else (gd (ib a1 6) (gd (ib a1 6) (if (b2i (f_X10_within a2 (sa 1 a1.toNatClampNeg) (sa 2 a1.toNatClampNeg))) = 0 then (f_X8_takes_30 t0 x) else (some true)))))
set_option maxRecDepth 100000 in
set_option maxHeartbeats 4000000 in
theorem c_X8_takes {K : KE} {l : Launch} {R : Bool} (x : CS) (y : MS) (t0 : Nat) (a1 : Int32) (a2 : Int32) (h : f_X8_takes x t0 a1 a2 = some R) : MC K l yX8_takes cX8_takes 3 (some .boolean) rm_X8_takes 0 0 [.ref (K.1 + t0), .int a1, .int a2] (xf K x y) (xf K x y) (some (.int (b2i R))) := by
  unfold f_X8_takes at h
  obtain ⟨_, h⟩ := gd_of h
  refine mc_of (ls0 := [(0, .ref (K.1 + t0)), (1, .int a1), (2, .int a2)]) (by decide) (Nat.le_of_ble_eq_true rfl) rfl (fun C hl hnm F E => ?_)
  have F : Fx C RX8 cX8_takes 3 rm_X8_takes K := F
  refine v_iload_n F (dq dkX8_takes_0 0 rfl) rfl 1 rfl ?_
  refine v_iconst F (v := 0) (dq dkX8_takes_0 1 rfl) ki_0 ?_
  refine v_iconst F (v := 5) (dq dkX8_takes_0 2 rfl) ki_5 ?_
  refine v_callSN 3 F (kc1 := 0) (ks1 := 0) (as := [.int a1, .int 0, .int 5]) (st := []) (st1 := (.int (b2i (f_X10_within a1 0 5)) :: [])) (res := (some (.int (b2i (f_X10_within a1 0 5))))) (c_X10_within (l := C.2.1) a1 0 5) (List.mem_of_getElem? (i := 6) rfl) (tc8 _ (List.mem_of_getElem? (i := 15) rfl)) (tc1 _ (List.mem_of_getElem? (i := 2) rfl)) (tc8 _ (List.mem_of_getElem? (i := 16) rfl)) (by decide) rfl ⟨rfl, rfl, Nat.le_of_ble_eq_true rfl, Nat.le_of_ble_eq_true rfl⟩ ⟨Nat.le_of_ble_eq_true rfl, Nat.le_of_ble_eq_true rfl⟩ rfl (Nat.le_of_ble_eq_true rfl) rfl rfl rfl (dq dkX8_takes_0 3 rfl) ?_
  refine v_if_eq F (tgt := 30) (dq dkX8_takes_0 4 rfl) (by decide) (fun c2 => ?_) (fun c2 => ?_)
  · rw [if_pos c2] at h
    refine v_sub [] rfl ?_
    exact t_X8_takes_30 t0 x h F E
  · rw [if_neg c2] at h
    refine v_iload_n F (dq dkX8_takes_0 5 rfl) rfl 2 rfl ?_
    refine v_gets 1 F rfl (tc14 _ (List.mem_of_getElem? (i := 8) rfl)) (dq dkX8_takes_0 6 rfl) ?_
    refine v_iload_n F (dq dkX8_takes_0 7 rfl) rfl 1 rfl ?_
    obtain ⟨g3, h⟩ := gd_of h
    refine v_ti 1 F rfl (ib_in g3) (dq dkX8_takes_0 8 rfl) ?_
    refine v_gets 2 F rfl (tc14 _ (List.mem_of_getElem? (i := 9) rfl)) (dq dkX8_takes_0 9 rfl) ?_
    refine v_iload_n F (dq dkX8_takes_0 10 rfl) rfl 1 rfl ?_
    obtain ⟨g4, h⟩ := gd_of h
    refine v_ti 2 F rfl (ib_in g4) (dq dkX8_takes_0 11 rfl) ?_
    refine v_callSN 3 F (kc1 := 0) (ks1 := 0) (as := [.int a2, .int (sa 1 a1.toNatClampNeg), .int (sa 2 a1.toNatClampNeg)]) (st := []) (st1 := (.int (b2i (f_X10_within a2 (sa 1 a1.toNatClampNeg) (sa 2 a1.toNatClampNeg))) :: [])) (res := (some (.int (b2i (f_X10_within a2 (sa 1 a1.toNatClampNeg) (sa 2 a1.toNatClampNeg)))))) (c_X10_within (l := C.2.1) a2 (sa 1 a1.toNatClampNeg) (sa 2 a1.toNatClampNeg)) (List.mem_of_getElem? (i := 6) rfl) (tc8 _ (List.mem_of_getElem? (i := 15) rfl)) (tc1 _ (List.mem_of_getElem? (i := 2) rfl)) (tc8 _ (List.mem_of_getElem? (i := 16) rfl)) (by decide) rfl ⟨rfl, rfl, Nat.le_of_ble_eq_true rfl, Nat.le_of_ble_eq_true rfl⟩ ⟨Nat.le_of_ble_eq_true rfl, Nat.le_of_ble_eq_true rfl⟩ rfl (Nat.le_of_ble_eq_true rfl) rfl rfl rfl (dq dkX8_takes_0 12 rfl) ?_
    refine v_if_eq F (tgt := 30) (dq dkX8_takes_0 13 rfl) (by decide) (fun c6 => ?_) (fun c6 => ?_)
    · rw [if_pos c6] at h
      refine v_sub [] rfl ?_
      exact t_X8_takes_30 t0 x h F E
    · rw [if_neg c6] at h
      refine v_iconst F (v := 1) (dq dkX8_takes_0 14 rfl) ki_1 ?_
      refine v_goto F (tgt := 31) (dq dkX8_takes_0 15 rfl) (by decide) ?_
      have h := Option.some.inj h
      subst h
      exact v_zret F E (b2i_n true) (dq dkX8_takes_0 17 rfl)
theorem f_X8_takes_k {R : Bool} {x : CS} {t0 : Nat} {a1 : Int32} {a2 : Int32} (h : f_X8_takes x t0 a1 a2 = some R) : kWd t0 = true := by
  unfold f_X8_takes at h
  exact (gd_of h).1
def rm_X8_put : Room := { frames := 3, cells := 0, slots := 0, locals := 72 }
def f_X8_put (x : CS) (t0 : Nat) (a1 : Int32) (a2 : Int32) (a3 : Int32) : Option (CS) := gd (kWd t0) (if (b2i (f_X10_within a1 0 5)) = 0 then (some x) else (if (b2i (f_X10_isSection a2)) = 0 then (some x) else (gd (kWd t0) (gd (kWd t0) (gd (ib a1 6) (gd (ib a2 (al (t0 + 2 + a1.toNatClampNeg))) (some (pi x (t0 + 2 + a1.toNatClampNeg) a2.toNatClampNeg a3))))))))
set_option maxRecDepth 100000 in
set_option maxHeartbeats 4000000 in
theorem c_X8_put {K : KE} {l : Launch} {R : CS} (x : CS) (y : MS) (t0 : Nat) (a1 : Int32) (a2 : Int32) (a3 : Int32) (h : f_X8_put x t0 a1 a2 a3 = some R) : MC K l yX8_put cX8_put 4 none rm_X8_put 0 0 [.ref (K.1 + t0), .int a1, .int a2, .int a3] (xf K x y) (xf K R y) none := by
  unfold f_X8_put at h
  obtain ⟨_, h⟩ := gd_of h
  refine mc_of (ls0 := [(0, .ref (K.1 + t0)), (1, .int a1), (2, .int a2), (3, .int a3)]) (by decide) (Nat.le_of_ble_eq_true rfl) rfl (fun C hl hnm F E => ?_)
  have F : Fx C RX8 cX8_put 4 rm_X8_put K := F
  refine v_iload_n F (dq dkX8_put_0 0 rfl) rfl 1 rfl ?_
  refine v_iconst F (v := 0) (dq dkX8_put_0 1 rfl) ki_0 ?_
  refine v_iconst F (v := 5) (dq dkX8_put_0 2 rfl) ki_5 ?_
  refine v_callSN 3 F (kc1 := 0) (ks1 := 0) (as := [.int a1, .int 0, .int 5]) (st := []) (st1 := (.int (b2i (f_X10_within a1 0 5)) :: [])) (res := (some (.int (b2i (f_X10_within a1 0 5))))) (c_X10_within (l := C.2.1) a1 0 5) (List.mem_of_getElem? (i := 6) rfl) (tc8 _ (List.mem_of_getElem? (i := 15) rfl)) (tc1 _ (List.mem_of_getElem? (i := 2) rfl)) (tc8 _ (List.mem_of_getElem? (i := 16) rfl)) (by decide) rfl ⟨rfl, rfl, Nat.le_of_ble_eq_true rfl, Nat.le_of_ble_eq_true rfl⟩ ⟨Nat.le_of_ble_eq_true rfl, Nat.le_of_ble_eq_true rfl⟩ rfl (Nat.le_of_ble_eq_true rfl) rfl rfl rfl (dq dkX8_put_0 3 rfl) ?_
  refine v_if_eq F (tgt := 25) (dq dkX8_put_0 4 rfl) (by decide) (fun c2 => ?_) (fun c2 => ?_)
  · rw [if_pos c2] at h
    have h := Option.some.inj h
    subst h
    exact v_vret F E (dq dkX8_put_0 15 rfl)
  · rw [if_neg c2] at h
    refine v_iload_n F (dq dkX8_put_0 5 rfl) rfl 2 rfl ?_
    refine v_callSN 1 F (kc1 := 0) (ks1 := 0) (as := [.int a2]) (st := []) (st1 := (.int (b2i (f_X10_isSection a2)) :: [])) (res := (some (.int (b2i (f_X10_isSection a2))))) (c_X10_isSection (l := C.2.1) a2) (List.mem_of_getElem? (i := 7) rfl) (tc14 _ (List.mem_of_getElem? (i := 1) rfl)) (tc1 _ (List.mem_of_getElem? (i := 2) rfl)) (tc14 _ (List.mem_of_getElem? (i := 2) rfl)) (by decide) rfl ⟨rfl, rfl, Nat.le_of_ble_eq_true rfl, Nat.le_of_ble_eq_true rfl⟩ ⟨Nat.le_of_ble_eq_true rfl, Nat.le_of_ble_eq_true rfl⟩ rfl (Nat.le_of_ble_eq_true rfl) rfl rfl rfl (dq dkX8_put_0 6 rfl) ?_
    refine v_if_eq F (tgt := 25) (dq dkX8_put_0 7 rfl) (by decide) (fun c4 => ?_) (fun c4 => ?_)
    · rw [if_pos c4] at h
      have h := Option.some.inj h
      subst h
      exact v_vret F E (dq dkX8_put_0 15 rfl)
    · rw [if_neg c4] at h
      refine v_aload_n F (dq dkX8_put_0 8 rfl) rfl 0 rfl ?_
      obtain ⟨g5, h⟩ := gd_of h
      refine v_get F t0 (kWd_lt g5) (kWd_at g5) rfl inlX8 0 (by decide) (tc3 _ (List.mem_of_getElem? (i := 4) rfl)) rfl rfl (dq dkX8_put_0 9 rfl) ?_
      refine v_iload_n F (dq dkX8_put_0 10 rfl) rfl 1 rfl ?_
      obtain ⟨g7, h⟩ := gd_of h
      obtain ⟨g6, h⟩ := gd_of h
      refine v_aald F (t0 + 1) (kWd_lt1 g7) (kWd_rw g7) (t := 2) rfl rfl (ib_in g6) (dq dkX8_put_0 11 rfl) ?_
      refine v_iload_n F (dq dkX8_put_0 12 rfl) rfl 2 rfl ?_
      refine v_iload_n F (dq dkX8_put_0 13 rfl) rfl 3 rfl ?_
      obtain ⟨g8, h⟩ := gd_of h
      refine v_iast F (t0 + 2 + a1.toNatClampNeg) (xa_lt g8) (xa_at g8) (ib_in g8) (dq dkX8_put_0 14 rfl) ?_
      refine v_eqM (xwC (q := (t0 + 2 + a1.toNatClampNeg)) (j := a2.toNatClampNeg) (v := a3) (xa_lc g8) (xa_e g8)) ?_
      have h := Option.some.inj h
      subst h
      exact v_vret F E (dq dkX8_put_0 15 rfl)
theorem f_X8_put_k {R : CS} {x : CS} {t0 : Nat} {a1 : Int32} {a2 : Int32} {a3 : Int32} (h : f_X8_put x t0 a1 a2 a3 = some R) : kWd t0 = true := by
  unfold f_X8_put at h
  exact (gd_of h).1
def rm_X8_takesSetting : Room := { frames := 2, cells := 0, slots := 0, locals := 52 }
def f_X8_takesSetting_30 (t0 : Nat) (x : CS) : Option (Bool) := some false
set_option maxRecDepth 100000 in
set_option maxHeartbeats 4000000 in
theorem t_X8_takesSetting_30 {C : Cx} {K : KE} {y : MS} {R : Bool}  (t0 : Nat) (x : CS) (h : f_X8_takesSetting_30 t0 x = some R) (F : Fx C RX8 cX8_takesSetting 3 rm_X8_takesSetting K) (E : CE C (xf K x y) (some (.int (b2i R))) 0 0 (some .boolean)) : V C 30 [] [] (xf K x y) 0 0 := by
  unfold f_X8_takesSetting_30 at h
  refine v_iconst F (v := 0) (dq dkX8_takesSetting_0 16 rfl) ki_0 ?_
  have h := Option.some.inj h
  subst h
  exact v_zret F E (b2i_n false) (dq dkX8_takesSetting_0 17 rfl)
def f_X8_takesSetting (x : CS) (t0 : Nat) (a1 : Int32) (a2 : Int32) : Option (Bool) := gd (kWd t0) (if (b2i (f_X10_within a1 0 4)) = 0 then (f_X8_takesSetting_30 t0 x) else (gd (ib a1 5) (gd (ib a1 5) (if (b2i (f_X10_within a2 (sa 4 a1.toNatClampNeg) (sa 5 a1.toNatClampNeg))) = 0 then (f_X8_takesSetting_30 t0 x) else (some true)))))
set_option maxRecDepth 100000 in
set_option maxHeartbeats 4000000 in
theorem c_X8_takesSetting {K : KE} {l : Launch} {R : Bool} (x : CS) (y : MS) (t0 : Nat) (a1 : Int32) (a2 : Int32) (h : f_X8_takesSetting x t0 a1 a2 = some R) : MC K l yX8_takesSetting cX8_takesSetting 3 (some .boolean) rm_X8_takesSetting 0 0 [.ref (K.1 + t0), .int a1, .int a2] (xf K x y) (xf K x y) (some (.int (b2i R))) := by
  unfold f_X8_takesSetting at h
  obtain ⟨_, h⟩ := gd_of h
  refine mc_of (ls0 := [(0, .ref (K.1 + t0)), (1, .int a1), (2, .int a2)]) (by decide) (Nat.le_of_ble_eq_true rfl) rfl (fun C hl hnm F E => ?_)
  have F : Fx C RX8 cX8_takesSetting 3 rm_X8_takesSetting K := F
  refine v_iload_n F (dq dkX8_takesSetting_0 0 rfl) rfl 1 rfl ?_
  refine v_iconst F (v := 0) (dq dkX8_takesSetting_0 1 rfl) ki_0 ?_
  refine v_iconst F (v := 4) (dq dkX8_takesSetting_0 2 rfl) ki_4 ?_
  refine v_callSN 3 F (kc1 := 0) (ks1 := 0) (as := [.int a1, .int 0, .int 4]) (st := []) (st1 := (.int (b2i (f_X10_within a1 0 4)) :: [])) (res := (some (.int (b2i (f_X10_within a1 0 4))))) (c_X10_within (l := C.2.1) a1 0 4) (List.mem_of_getElem? (i := 6) rfl) (tc8 _ (List.mem_of_getElem? (i := 15) rfl)) (tc1 _ (List.mem_of_getElem? (i := 2) rfl)) (tc8 _ (List.mem_of_getElem? (i := 16) rfl)) (by decide) rfl ⟨rfl, rfl, Nat.le_of_ble_eq_true rfl, Nat.le_of_ble_eq_true rfl⟩ ⟨Nat.le_of_ble_eq_true rfl, Nat.le_of_ble_eq_true rfl⟩ rfl (Nat.le_of_ble_eq_true rfl) rfl rfl rfl (dq dkX8_takesSetting_0 3 rfl) ?_
  refine v_if_eq F (tgt := 30) (dq dkX8_takesSetting_0 4 rfl) (by decide) (fun c2 => ?_) (fun c2 => ?_)
  · rw [if_pos c2] at h
    refine v_sub [] rfl ?_
    exact t_X8_takesSetting_30 t0 x h F E
  · rw [if_neg c2] at h
    refine v_iload_n F (dq dkX8_takesSetting_0 5 rfl) rfl 2 rfl ?_
    refine v_gets 4 F rfl (tc15 _ (List.mem_of_getElem? (i := 20) rfl)) (dq dkX8_takesSetting_0 6 rfl) ?_
    refine v_iload_n F (dq dkX8_takesSetting_0 7 rfl) rfl 1 rfl ?_
    obtain ⟨g3, h⟩ := gd_of h
    refine v_ti 4 F rfl (ib_in g3) (dq dkX8_takesSetting_0 8 rfl) ?_
    refine v_gets 5 F rfl (tc15 _ (List.mem_of_getElem? (i := 21) rfl)) (dq dkX8_takesSetting_0 9 rfl) ?_
    refine v_iload_n F (dq dkX8_takesSetting_0 10 rfl) rfl 1 rfl ?_
    obtain ⟨g4, h⟩ := gd_of h
    refine v_ti 5 F rfl (ib_in g4) (dq dkX8_takesSetting_0 11 rfl) ?_
    refine v_callSN 3 F (kc1 := 0) (ks1 := 0) (as := [.int a2, .int (sa 4 a1.toNatClampNeg), .int (sa 5 a1.toNatClampNeg)]) (st := []) (st1 := (.int (b2i (f_X10_within a2 (sa 4 a1.toNatClampNeg) (sa 5 a1.toNatClampNeg))) :: [])) (res := (some (.int (b2i (f_X10_within a2 (sa 4 a1.toNatClampNeg) (sa 5 a1.toNatClampNeg)))))) (c_X10_within (l := C.2.1) a2 (sa 4 a1.toNatClampNeg) (sa 5 a1.toNatClampNeg)) (List.mem_of_getElem? (i := 6) rfl) (tc8 _ (List.mem_of_getElem? (i := 15) rfl)) (tc1 _ (List.mem_of_getElem? (i := 2) rfl)) (tc8 _ (List.mem_of_getElem? (i := 16) rfl)) (by decide) rfl ⟨rfl, rfl, Nat.le_of_ble_eq_true rfl, Nat.le_of_ble_eq_true rfl⟩ ⟨Nat.le_of_ble_eq_true rfl, Nat.le_of_ble_eq_true rfl⟩ rfl (Nat.le_of_ble_eq_true rfl) rfl rfl rfl (dq dkX8_takesSetting_0 12 rfl) ?_
    refine v_if_eq F (tgt := 30) (dq dkX8_takesSetting_0 13 rfl) (by decide) (fun c6 => ?_) (fun c6 => ?_)
    · rw [if_pos c6] at h
      refine v_sub [] rfl ?_
      exact t_X8_takesSetting_30 t0 x h F E
    · rw [if_neg c6] at h
      refine v_iconst F (v := 1) (dq dkX8_takesSetting_0 14 rfl) ki_1 ?_
      refine v_goto F (tgt := 31) (dq dkX8_takesSetting_0 15 rfl) (by decide) ?_
      have h := Option.some.inj h
      subst h
      exact v_zret F E (b2i_n true) (dq dkX8_takesSetting_0 17 rfl)
theorem f_X8_takesSetting_k {R : Bool} {x : CS} {t0 : Nat} {a1 : Int32} {a2 : Int32} (h : f_X8_takesSetting x t0 a1 a2 = some R) : kWd t0 = true := by
  unfold f_X8_takesSetting at h
  exact (gd_of h).1
def rm_X8_putSetting : Room := { frames := 2, cells := 0, slots := 0, locals := 52 }
def f_X8_putSetting (x : CS) (t0 : Nat) (a1 : Int32) (a2 : Int32) : Option (CS) := gd (kWd t0) (if (b2i (f_X10_within a1 0 4)) = 0 then (some x) else (gd (kWd t0) (gd (ib a1 (al (t0 + 8))) (some (pi x (t0 + 8) a1.toNatClampNeg a2)))))
set_option maxRecDepth 100000 in
set_option maxHeartbeats 4000000 in
theorem c_X8_putSetting {K : KE} {l : Launch} {R : CS} (x : CS) (y : MS) (t0 : Nat) (a1 : Int32) (a2 : Int32) (h : f_X8_putSetting x t0 a1 a2 = some R) : MC K l yX8_putSetting cX8_putSetting 3 none rm_X8_putSetting 0 0 [.ref (K.1 + t0), .int a1, .int a2] (xf K x y) (xf K R y) none := by
  unfold f_X8_putSetting at h
  obtain ⟨_, h⟩ := gd_of h
  refine mc_of (ls0 := [(0, .ref (K.1 + t0)), (1, .int a1), (2, .int a2)]) (by decide) (Nat.le_of_ble_eq_true rfl) rfl (fun C hl hnm F E => ?_)
  have F : Fx C RX8 cX8_putSetting 3 rm_X8_putSetting K := F
  refine v_iload_n F (dq dkX8_putSetting_0 0 rfl) rfl 1 rfl ?_
  refine v_iconst F (v := 0) (dq dkX8_putSetting_0 1 rfl) ki_0 ?_
  refine v_iconst F (v := 4) (dq dkX8_putSetting_0 2 rfl) ki_4 ?_
  refine v_callSN 3 F (kc1 := 0) (ks1 := 0) (as := [.int a1, .int 0, .int 4]) (st := []) (st1 := (.int (b2i (f_X10_within a1 0 4)) :: [])) (res := (some (.int (b2i (f_X10_within a1 0 4))))) (c_X10_within (l := C.2.1) a1 0 4) (List.mem_of_getElem? (i := 6) rfl) (tc8 _ (List.mem_of_getElem? (i := 15) rfl)) (tc1 _ (List.mem_of_getElem? (i := 2) rfl)) (tc8 _ (List.mem_of_getElem? (i := 16) rfl)) (by decide) rfl ⟨rfl, rfl, Nat.le_of_ble_eq_true rfl, Nat.le_of_ble_eq_true rfl⟩ ⟨Nat.le_of_ble_eq_true rfl, Nat.le_of_ble_eq_true rfl⟩ rfl (Nat.le_of_ble_eq_true rfl) rfl rfl rfl (dq dkX8_putSetting_0 3 rfl) ?_
  refine v_if_eq F (tgt := 16) (dq dkX8_putSetting_0 4 rfl) (by decide) (fun c2 => ?_) (fun c2 => ?_)
  · rw [if_pos c2] at h
    have h := Option.some.inj h
    subst h
    exact v_vret F E (dq dkX8_putSetting_0 10 rfl)
  · rw [if_neg c2] at h
    refine v_aload_n F (dq dkX8_putSetting_0 5 rfl) rfl 0 rfl ?_
    obtain ⟨g3, h⟩ := gd_of h
    refine v_get F t0 (kWd_lt g3) (kWd_at g3) rfl inlX8 1 (by decide) (tc3 _ (List.mem_of_getElem? (i := 5) rfl)) rfl rfl (dq dkX8_putSetting_0 6 rfl) ?_
    refine v_iload_n F (dq dkX8_putSetting_0 7 rfl) rfl 1 rfl ?_
    refine v_iload_n F (dq dkX8_putSetting_0 8 rfl) rfl 2 rfl ?_
    obtain ⟨g4, h⟩ := gd_of h
    refine v_iast F (t0 + 8) (xa_lt g4) (xa_at g4) (ib_in g4) (dq dkX8_putSetting_0 9 rfl) ?_
    refine v_eqM (xwC (q := (t0 + 8)) (j := a1.toNatClampNeg) (v := a2) (xa_lc g4) (xa_e g4)) ?_
    have h := Option.some.inj h
    subst h
    exact v_vret F E (dq dkX8_putSetting_0 10 rfl)
theorem f_X8_putSetting_k {R : CS} {x : CS} {t0 : Nat} {a1 : Int32} {a2 : Int32} (h : f_X8_putSetting x t0 a1 a2 = some R) : kWd t0 = true := by
  unfold f_X8_putSetting at h
  exact (gd_of h).1
def rm_X8_become : Room := { frames := 1, cells := 0, slots := 0, locals := 30 }
def f_X8_become_45 (t0 : Nat) : Nat → CS → Nat → Int32 → Option (CS)
  | 0, _, _, _ => none
  | n + 1, x, a1, a2 => if 4 < a2 then (gd (kWd a1) (gd (kWd t0) (some (pi x t0 2 (gi x a1 2))))) else (gd (kWd t0) (gd (kWd a1) (gd (ib a2 (al (a1 + 8))) (gd (ib a2 (al (t0 + 8))) ((f_X8_become_45 t0 n) (pi x (t0 + 8) a2.toNatClampNeg (gi x (a1 + 8) a2.toNatClampNeg)) a1 (a2 + 1))))))
set_option maxRecDepth 100000 in
set_option maxHeartbeats 4000000 in
theorem t_X8_become_45 {C : Cx} {K : KE} {y : MS} {R : CS}  (t0 : Nat) (F : Fx C RX8 cX8_become 4 rm_X8_become K) (E : CE C (xf K R y) none 0 0 none) : ∀ (n : Nat) (x : CS) (a1 : Nat) (a2 : Int32) (h : f_X8_become_45 t0 n x a1 a2 = some R), V C 45 [(0, .ref (K.1 + t0)), (1, .ref (K.1 + a1)), (2, .int a2)] [] (xf K x y) 0 0 := by
  intro n
  induction n with
  | zero => intro x a1 a2 h; cases h
  | succ n ih =>
    intro x a1 a2 h
    rw [f_X8_become_45] at h
    refine v_iload_n F (dq dkX8_become_0 28 rfl) rfl 2 rfl ?_
    refine v_iconst F (v := 4) (dq dkX8_become_0 29 rfl) ki_4 ?_
    refine v_icmp_gt F (tgt := 68) (dq dkX8_become_0 30 rfl) (by decide) (fun c1 => ?_) (fun c1 => ?_)
    · rw [if_pos c1] at h
      refine v_aload_n F (dq dkX8_become_1 1 rfl) rfl 0 rfl ?_
      refine v_aload_n F (dq dkX8_become_1 2 rfl) rfl 1 rfl ?_
      obtain ⟨g2, h⟩ := gd_of h
      refine v_get F a1 (kWd_lt g2) (kWd_at g2) rfl inlX8 2 (by decide) (tc3 _ (List.mem_of_getElem? (i := 6) rfl)) rfl rfl (dq dkX8_become_1 3 rfl) ?_
      obtain ⟨g3, h⟩ := gd_of h
      refine v_put F t0 (kWd_lt g3) (kWd_at g3) rfl inlX8 tyX8_ok nmX8 2 (by decide) (tc3 _ (List.mem_of_getElem? (i := 6) rfl)) rfl rfl (tyX8_ok 2 (by decide)) rfl rfl (Nat.le_of_ble_eq_true rfl) (dq dkX8_become_1 4 rfl) ?_
      refine v_eqM (kWd_w2 g3) ?_
      have h := Option.some.inj h
      subst h
      exact v_vret F E (dq dkX8_become_1 5 rfl)
    · rw [if_neg c1] at h
      refine v_aload_n F (dq dkX8_become_0 31 rfl) rfl 0 rfl ?_
      obtain ⟨g4, h⟩ := gd_of h
      refine v_get F t0 (kWd_lt g4) (kWd_at g4) rfl inlX8 1 (by decide) (tc3 _ (List.mem_of_getElem? (i := 5) rfl)) rfl rfl (dq dkX8_become_0 32 rfl) ?_
      refine v_iload_n F (dq dkX8_become_0 33 rfl) rfl 2 rfl ?_
      refine v_aload_n F (dq dkX8_become_0 34 rfl) rfl 1 rfl ?_
      obtain ⟨g5, h⟩ := gd_of h
      refine v_get F a1 (kWd_lt g5) (kWd_at g5) rfl inlX8 1 (by decide) (tc3 _ (List.mem_of_getElem? (i := 5) rfl)) rfl rfl (dq dkX8_become_0 35 rfl) ?_
      refine v_iload_n F (dq dkX8_become_0 36 rfl) rfl 2 rfl ?_
      obtain ⟨g6, h⟩ := gd_of h
      refine v_iald F (a1 + 8) (xa_lt g6) (xa_at g6) (ib_in g6) (dq dkX8_become_0 37 rfl) ?_
      obtain ⟨g7, h⟩ := gd_of h
      refine v_iast F (t0 + 8) (xa_lt g7) (xa_at g7) (ib_in g7) (dq dkX8_become_0 38 rfl) ?_
      refine v_eqM (xwC (q := (t0 + 8)) (j := a2.toNatClampNeg) (v := gi x (a1 + 8) a2.toNatClampNeg) (xa_lc g7) (xa_e g7)) ?_
      refine v_iinc F (v := a2 + 1) (ls' := [(2, .int (a2 + 1)), (0, .ref (K.1 + t0)), (1, .ref (K.1 + a1))]) (dq dkX8_become_0 39 rfl) (j := 2) rfl (kv_add ki_1) (by decide) rfl ?_
      refine v_goto F (tgt := 45) (dq dkX8_become_1 0 rfl) (by decide) ?_
      refine v_sub [1, 2, 0] rfl ?_
      exact ih (pi x (t0 + 8) a2.toNatClampNeg (gi x (a1 + 8) a2.toNatClampNeg)) a1 (a2 + 1) h
def f_X8_become_9 (k2 : CS → Nat → Int32 → Option (CS)) (t0 : Nat) : Nat → CS → Nat → Int32 → Int32 → Option (CS)
  | 0, _, _, _, _ => none
  | n + 1, x, a1, a2, a3 => if 9 ≤ a3 then (k2 x a1 (a2 + 1)) else (gd (kWd t0) (gd (kWd t0) (gd (ib a2 6) (gd (kWd a1) (gd (kWd a1) (gd (ib a2 6) (gd (ib a3 (al (a1 + 2 + a2.toNatClampNeg))) (gd (ib a3 (al (t0 + 2 + a2.toNatClampNeg))) ((f_X8_become_9 k2 t0 n) (pi x (t0 + 2 + a2.toNatClampNeg) a3.toNatClampNeg (gi x (a1 + 2 + a2.toNatClampNeg) a3.toNatClampNeg)) a1 a2 (a3 + 1))))))))))
set_option maxRecDepth 100000 in
set_option maxHeartbeats 4000000 in
theorem t_X8_become_9 {C : Cx} {K : KE} {y : MS} {R : CS}  (k2 : CS → Nat → Int32 → Option (CS)) (t0 : Nat) (hk2 : ∀ (x : CS) (a1 : Nat) (a2 : Int32), k2 x a1 a2 = some R → V C 2 [(0, .ref (K.1 + t0)), (1, .ref (K.1 + a1)), (2, .int a2)] [] (xf K x y) 0 0) (F : Fx C RX8 cX8_become 4 rm_X8_become K) (E : CE C (xf K R y) none 0 0 none) : ∀ (n : Nat) (x : CS) (a1 : Nat) (a2 : Int32) (a3 : Int32) (h : f_X8_become_9 k2 t0 n x a1 a2 a3 = some R), V C 9 [(0, .ref (K.1 + t0)), (1, .ref (K.1 + a1)), (2, .int a2), (3, .int a3)] [] (xf K x y) 0 0 := by
  intro n
  induction n with
  | zero => intro x a1 a2 a3 h; cases h
  | succ n ih =>
    intro x a1 a2 a3 h
    rw [f_X8_become_9] at h
    refine v_iload_n F (dq dkX8_become_0 7 rfl) rfl 3 rfl ?_
    refine v_bipush F (v := 9) (dq dkX8_become_0 8 rfl) kb_9 ?_
    refine v_icmp_ge F (tgt := 37) (dq dkX8_become_0 9 rfl) (by decide) (fun c8 => ?_) (fun c8 => ?_)
    · rw [if_pos c8] at h
      refine v_iinc F (v := a2 + 1) (ls' := [(2, .int (a2 + 1)), (0, .ref (K.1 + t0)), (1, .ref (K.1 + a1)), (3, .int a3)]) (dq dkX8_become_0 24 rfl) (j := 2) rfl (kv_add ki_1) (by decide) rfl ?_
      refine v_goto F (tgt := 2) (dq dkX8_become_0 25 rfl) (by decide) ?_
      refine v_sub [1, 2, 0] rfl ?_
      exact hk2 x a1 (a2 + 1) h
    · rw [if_neg c8] at h
      refine v_aload_n F (dq dkX8_become_0 10 rfl) rfl 0 rfl ?_
      obtain ⟨g9, h⟩ := gd_of h
      refine v_get F t0 (kWd_lt g9) (kWd_at g9) rfl inlX8 0 (by decide) (tc3 _ (List.mem_of_getElem? (i := 4) rfl)) rfl rfl (dq dkX8_become_0 11 rfl) ?_
      refine v_iload_n F (dq dkX8_become_0 12 rfl) rfl 2 rfl ?_
      obtain ⟨g11, h⟩ := gd_of h
      obtain ⟨g10, h⟩ := gd_of h
      refine v_aald F (t0 + 1) (kWd_lt1 g11) (kWd_rw g11) (t := 2) rfl rfl (ib_in g10) (dq dkX8_become_0 13 rfl) ?_
      refine v_iload_n F (dq dkX8_become_0 14 rfl) rfl 3 rfl ?_
      refine v_aload_n F (dq dkX8_become_0 15 rfl) rfl 1 rfl ?_
      obtain ⟨g12, h⟩ := gd_of h
      refine v_get F a1 (kWd_lt g12) (kWd_at g12) rfl inlX8 0 (by decide) (tc3 _ (List.mem_of_getElem? (i := 4) rfl)) rfl rfl (dq dkX8_become_0 16 rfl) ?_
      refine v_iload_n F (dq dkX8_become_0 17 rfl) rfl 2 rfl ?_
      obtain ⟨g14, h⟩ := gd_of h
      obtain ⟨g13, h⟩ := gd_of h
      refine v_aald F (a1 + 1) (kWd_lt1 g14) (kWd_rw g14) (t := 2) rfl rfl (ib_in g13) (dq dkX8_become_0 18 rfl) ?_
      refine v_iload_n F (dq dkX8_become_0 19 rfl) rfl 3 rfl ?_
      obtain ⟨g15, h⟩ := gd_of h
      refine v_iald F (a1 + 2 + a2.toNatClampNeg) (xa_lt g15) (xa_at g15) (ib_in g15) (dq dkX8_become_0 20 rfl) ?_
      obtain ⟨g16, h⟩ := gd_of h
      refine v_iast F (t0 + 2 + a2.toNatClampNeg) (xa_lt g16) (xa_at g16) (ib_in g16) (dq dkX8_become_0 21 rfl) ?_
      refine v_eqM (xwC (q := (t0 + 2 + a2.toNatClampNeg)) (j := a3.toNatClampNeg) (v := gi x (a1 + 2 + a2.toNatClampNeg) a3.toNatClampNeg) (xa_lc g16) (xa_e g16)) ?_
      refine v_iinc F (v := a3 + 1) (ls' := [(3, .int (a3 + 1)), (0, .ref (K.1 + t0)), (1, .ref (K.1 + a1)), (2, .int a2)]) (dq dkX8_become_0 22 rfl) (j := 3) rfl (kv_add ki_1) (by decide) rfl ?_
      refine v_goto F (tgt := 9) (dq dkX8_become_0 23 rfl) (by decide) ?_
      refine v_sub [1, 2, 3, 0] rfl ?_
      exact ih (pi x (t0 + 2 + a2.toNatClampNeg) a3.toNatClampNeg (gi x (a1 + 2 + a2.toNatClampNeg) a3.toNatClampNeg)) a1 a2 (a3 + 1) h
def f_X8_become_2 (t0 : Nat) : Nat → CS → Nat → Int32 → Option (CS)
  | 0, _, _, _ => none
  | n + 1, x, a1, a2 => if 5 < a2 then (f_X8_become_45 t0 1000 x a1 0) else (f_X8_become_9 (f_X8_become_2 t0 n) t0 1000 x a1 a2 0)
set_option maxRecDepth 100000 in
set_option maxHeartbeats 4000000 in
theorem t_X8_become_2 {C : Cx} {K : KE} {y : MS} {R : CS}  (t0 : Nat) (F : Fx C RX8 cX8_become 4 rm_X8_become K) (E : CE C (xf K R y) none 0 0 none) : ∀ (n : Nat) (x : CS) (a1 : Nat) (a2 : Int32) (h : f_X8_become_2 t0 n x a1 a2 = some R), V C 2 [(0, .ref (K.1 + t0)), (1, .ref (K.1 + a1)), (2, .int a2)] [] (xf K x y) 0 0 := by
  intro n
  induction n with
  | zero => intro x a1 a2 h; cases h
  | succ n ih =>
    intro x a1 a2 h
    rw [f_X8_become_2] at h
    refine v_iload_n F (dq dkX8_become_0 2 rfl) rfl 2 rfl ?_
    refine v_iconst F (v := 5) (dq dkX8_become_0 3 rfl) ki_5 ?_
    refine v_icmp_gt F (tgt := 43) (dq dkX8_become_0 4 rfl) (by decide) (fun c17 => ?_) (fun c17 => ?_)
    · rw [if_pos c17] at h
      refine v_iconst F (v := 0) (dq dkX8_become_0 26 rfl) ki_0 ?_
      refine v_istore_n F (ls' := [(2, .int 0), (0, .ref (K.1 + t0)), (1, .ref (K.1 + a1))]) (dq dkX8_become_0 27 rfl) rfl (by decide) rfl ?_
      refine v_sub [1, 2, 0] rfl ?_
      exact t_X8_become_45 t0 F E 1000 x a1 0 h
    · rw [if_neg c17] at h
      refine v_iconst F (v := 0) (dq dkX8_become_0 5 rfl) ki_0 ?_
      refine v_istore_n F (ls' := [(3, .int 0), (0, .ref (K.1 + t0)), (1, .ref (K.1 + a1)), (2, .int a2)]) (dq dkX8_become_0 6 rfl) rfl (by decide) rfl ?_
      refine v_sub [1, 2, 3, 0] rfl ?_
      exact t_X8_become_9 (f_X8_become_2 t0 n) t0 ih F E 1000 x a1 a2 0 h
def f_X8_become (x : CS) (t0 : Nat) (a1 : Nat) : Option (CS) := gd (kWd t0) (gd (kWd a1) (f_X8_become_2 t0 1000 x a1 0))
set_option maxRecDepth 100000 in
set_option maxHeartbeats 4000000 in
theorem c_X8_become {K : KE} {l : Launch} {R : CS} (x : CS) (y : MS) (t0 : Nat) (a1 : Nat) (h : f_X8_become x t0 a1 = some R) : MC K l yX8_become cX8_become 4 none rm_X8_become 0 0 [.ref (K.1 + t0), .ref (K.1 + a1)] (xf K x y) (xf K R y) none := by
  unfold f_X8_become at h
  obtain ⟨_, h⟩ := gd_of h
  obtain ⟨_, h⟩ := gd_of h
  refine mc_of (ls0 := [(0, .ref (K.1 + t0)), (1, .ref (K.1 + a1))]) (by decide) (Nat.le_of_ble_eq_true rfl) rfl (fun C hl hnm F E => ?_)
  have F : Fx C RX8 cX8_become 4 rm_X8_become K := F
  refine v_iconst F (v := 0) (dq dkX8_become_0 0 rfl) ki_0 ?_
  refine v_istore_n F (ls' := [(2, .int 0), (0, .ref (K.1 + t0)), (1, .ref (K.1 + a1))]) (dq dkX8_become_0 1 rfl) rfl (by decide) rfl ?_
  refine v_sub [1, 2, 0] rfl ?_
  exact t_X8_become_2 t0 F E 1000 x a1 0 h
theorem f_X8_become_k {R : CS} {x : CS} {t0 : Nat} {a1 : Nat} (h : f_X8_become x t0 a1 = some R) : kWd t0 = true := by
  unfold f_X8_become at h
  exact (gd_of h).1
def rm_X9_has : Room := { frames := 1, cells := 0, slots := 0, locals := 30 }
def f_X9_has_22 (x : CS) : Bool := false
set_option maxRecDepth 100000 in
set_option maxHeartbeats 4000000 in
theorem t_X9_has_22 {C : Cx} {K : KE} {y : MS} {R : Bool}  (x : CS) (h : f_X9_has_22 x = R) (F : Fx C RX9 cX9_has 2 rm_X9_has K) (E : CE C (xf K x y) (some (.int (b2i R))) 0 0 (some .boolean)) : V C 22 [] [] (xf K x y) 0 0 := by
  unfold f_X9_has_22 at h
  refine v_iconst F (v := 0) (dq dkX9_has_0 11 rfl) ki_0 ?_
  subst h
  exact v_zret F E (b2i_n false) (dq dkX9_has_0 12 rfl)
def f_X9_has (x : CS) (a1 : Int32) : Bool := if a1 < 0 then (f_X9_has_22 x) else (if (gi x 30 3) ≤ a1 then (f_X9_has_22 x) else (if 10 ≤ a1 then (f_X9_has_22 x) else true))
set_option maxRecDepth 100000 in
set_option maxHeartbeats 4000000 in
theorem c_X9_has {K : KE} {l : Launch} (x : CS) (y : MS) (a1 : Int32) : MC K l yX9_has cX9_has 2 (some .boolean) rm_X9_has 0 0 [.ref (K.1 + 30), .int a1] (xf K x y) (xf K x y) (some (.int (b2i (f_X9_has x a1)))) := by
  obtain ⟨R, h⟩ : ∃ R, f_X9_has x a1 = R := ⟨_, rfl⟩
  rw [h]
  unfold f_X9_has at h
  refine mc_of (ls0 := [(0, .ref (K.1 + 30)), (1, .int a1)]) (by decide) (Nat.le_of_ble_eq_true rfl) rfl (fun C hl hnm F E => ?_)
  have F : Fx C RX9 cX9_has 2 rm_X9_has K := F
  refine v_iload_n F (dq dkX9_has_0 0 rfl) rfl 1 rfl ?_
  refine v_if_lt F (tgt := 22) (dq dkX9_has_0 1 rfl) (by decide) (fun c1 => ?_) (fun c1 => ?_)
  · rw [if_pos c1] at h
    refine v_sub [] rfl ?_
    exact t_X9_has_22 x h F E
  · rw [if_neg c1] at h
    refine v_iload_n F (dq dkX9_has_0 2 rfl) rfl 1 rfl ?_
    refine v_aload_n F (dq dkX9_has_0 3 rfl) rfl 0 rfl ?_
    refine v_get F 30 (xn (by decide)) xc_30 rfl inlX9 3 (by decide) (tc4 _ (List.mem_of_getElem? (i := 13) rfl)) rfl rfl (dq dkX9_has_0 4 rfl) ?_
    refine v_icmp_ge F (tgt := 22) (dq dkX9_has_0 5 rfl) (by decide) (fun c2 => ?_) (fun c2 => ?_)
    · rw [if_pos c2] at h
      refine v_sub [] rfl ?_
      exact t_X9_has_22 x h F E
    · rw [if_neg c2] at h
      refine v_iload_n F (dq dkX9_has_0 6 rfl) rfl 1 rfl ?_
      refine v_bipush F (v := 10) (dq dkX9_has_0 7 rfl) kb_10 ?_
      refine v_icmp_ge F (tgt := 22) (dq dkX9_has_0 8 rfl) (by decide) (fun c3 => ?_) (fun c3 => ?_)
      · rw [if_pos c3] at h
        refine v_sub [] rfl ?_
        exact t_X9_has_22 x h F E
      · rw [if_neg c3] at h
        refine v_iconst F (v := 1) (dq dkX9_has_0 9 rfl) ki_1 ?_
        refine v_goto F (tgt := 23) (dq dkX9_has_0 10 rfl) (by decide) ?_
        subst h
        exact v_zret F E (b2i_n true) (dq dkX9_has_0 12 rfl)
def rm_X9_kind : Room := { frames := 2, cells := 0, slots := 0, locals := 51 }
def f_X9_kind (x : CS) (a1 : Int32) : Option (Int32) := if (b2i (f_X9_has x a1)) = 0 then (some 0) else (gd (ib a1 10) (some (gi x 31 a1.toNatClampNeg)))
set_option maxRecDepth 100000 in
set_option maxHeartbeats 4000000 in
theorem c_X9_kind {K : KE} {l : Launch} {R : Int32} (x : CS) (y : MS) (a1 : Int32) (h : f_X9_kind x a1 = some R) : MC K l yX9_kind cX9_kind 2 (some .int) rm_X9_kind 0 0 [.ref (K.1 + 30), .int a1] (xf K x y) (xf K x y) (some (.int R)) := by
  unfold f_X9_kind at h
  refine mc_of (ls0 := [(0, .ref (K.1 + 30)), (1, .int a1)]) (by decide) (Nat.le_of_ble_eq_true rfl) rfl (fun C hl hnm F E => ?_)
  have F : Fx C RX9 cX9_kind 2 rm_X9_kind K := F
  refine v_aload_n F (dq dkX9_kind_0 0 rfl) rfl 0 rfl ?_
  refine v_iload_n F (dq dkX9_kind_0 1 rfl) rfl 1 rfl ?_
  refine v_callV 1 F (q := 30) (kc1 := 0) (ks1 := 0) (as := [.int a1]) (st := []) (st1 := (.int (b2i (f_X9_has x a1)) :: [])) (res := (some (.int (b2i (f_X9_has x a1))))) (c_X9_has (l := C.2.1) x y a1) (xn (by decide)) xc_30 rfl (tc23 _ (List.mem_of_getElem? (i := 12) rfl)) (tc23 _ (List.mem_of_getElem? (i := 5) rfl)) (tc23 _ (List.mem_of_getElem? (i := 6) rfl)) (tc2 _ (List.mem_of_getElem? (i := 3) rfl)) (tc23 _ (List.mem_of_getElem? (i := 7) rfl)) (by decide) rfl ⟨rfl, rfl, Nat.le_of_ble_eq_true rfl, Nat.le_of_ble_eq_true rfl⟩ ⟨Nat.le_of_ble_eq_true rfl, Nat.le_of_ble_eq_true rfl⟩ rfl (Nat.le_of_ble_eq_true rfl) rfl rfl rfl (dq dkX9_kind_0 2 rfl) ?_
  refine v_if_eq F (tgt := 17) (dq dkX9_kind_0 3 rfl) (by decide) (fun c2 => ?_) (fun c2 => ?_)
  · rw [if_pos c2] at h
    refine v_iconst F (v := 0) (dq dkX9_kind_0 9 rfl) ki_0 ?_
    have h := Option.some.inj h
    subst h
    exact v_iret F E (dq dkX9_kind_0 10 rfl)
  · rw [if_neg c2] at h
    refine v_aload_n F (dq dkX9_kind_0 4 rfl) rfl 0 rfl ?_
    refine v_get F 30 (xn (by decide)) xc_30 rfl inlX9 0 (by decide) (tc4 _ (List.mem_of_getElem? (i := 10) rfl)) rfl rfl (dq dkX9_kind_0 5 rfl) ?_
    refine v_iload_n F (dq dkX9_kind_0 6 rfl) rfl 1 rfl ?_
    obtain ⟨g3, h⟩ := gd_of h
    refine v_iald F 31 (xn (by decide)) xc_31 (ib_in g3) (dq dkX9_kind_0 7 rfl) ?_
    refine v_goto F (tgt := 18) (dq dkX9_kind_0 8 rfl) (by decide) ?_
    have h := Option.some.inj h
    subst h
    exact v_iret F E (dq dkX9_kind_0 10 rfl)
def rm_X9_section : Room := { frames := 2, cells := 0, slots := 0, locals := 51 }
def f_X9_section (x : CS) (a1 : Int32) : Option (Int32) := if (b2i (f_X9_has x a1)) = 0 then (some 0) else (gd (ib a1 10) (some (gi x 32 a1.toNatClampNeg)))
set_option maxRecDepth 100000 in
set_option maxHeartbeats 4000000 in
theorem c_X9_section {K : KE} {l : Launch} {R : Int32} (x : CS) (y : MS) (a1 : Int32) (h : f_X9_section x a1 = some R) : MC K l yX9_section cX9_section 2 (some .int) rm_X9_section 0 0 [.ref (K.1 + 30), .int a1] (xf K x y) (xf K x y) (some (.int R)) := by
  unfold f_X9_section at h
  refine mc_of (ls0 := [(0, .ref (K.1 + 30)), (1, .int a1)]) (by decide) (Nat.le_of_ble_eq_true rfl) rfl (fun C hl hnm F E => ?_)
  have F : Fx C RX9 cX9_section 2 rm_X9_section K := F
  refine v_aload_n F (dq dkX9_section_0 0 rfl) rfl 0 rfl ?_
  refine v_iload_n F (dq dkX9_section_0 1 rfl) rfl 1 rfl ?_
  refine v_callV 1 F (q := 30) (kc1 := 0) (ks1 := 0) (as := [.int a1]) (st := []) (st1 := (.int (b2i (f_X9_has x a1)) :: [])) (res := (some (.int (b2i (f_X9_has x a1))))) (c_X9_has (l := C.2.1) x y a1) (xn (by decide)) xc_30 rfl (tc23 _ (List.mem_of_getElem? (i := 12) rfl)) (tc23 _ (List.mem_of_getElem? (i := 5) rfl)) (tc23 _ (List.mem_of_getElem? (i := 6) rfl)) (tc2 _ (List.mem_of_getElem? (i := 3) rfl)) (tc23 _ (List.mem_of_getElem? (i := 7) rfl)) (by decide) rfl ⟨rfl, rfl, Nat.le_of_ble_eq_true rfl, Nat.le_of_ble_eq_true rfl⟩ ⟨Nat.le_of_ble_eq_true rfl, Nat.le_of_ble_eq_true rfl⟩ rfl (Nat.le_of_ble_eq_true rfl) rfl rfl rfl (dq dkX9_section_0 2 rfl) ?_
  refine v_if_eq F (tgt := 17) (dq dkX9_section_0 3 rfl) (by decide) (fun c2 => ?_) (fun c2 => ?_)
  · rw [if_pos c2] at h
    refine v_iconst F (v := 0) (dq dkX9_section_0 9 rfl) ki_0 ?_
    have h := Option.some.inj h
    subst h
    exact v_iret F E (dq dkX9_section_0 10 rfl)
  · rw [if_neg c2] at h
    refine v_aload_n F (dq dkX9_section_0 4 rfl) rfl 0 rfl ?_
    refine v_get F 30 (xn (by decide)) xc_30 rfl inlX9 1 (by decide) (tc4 _ (List.mem_of_getElem? (i := 11) rfl)) rfl rfl (dq dkX9_section_0 5 rfl) ?_
    refine v_iload_n F (dq dkX9_section_0 6 rfl) rfl 1 rfl ?_
    obtain ⟨g3, h⟩ := gd_of h
    refine v_iald F 32 (xn (by decide)) xc_32 (ib_in g3) (dq dkX9_section_0 7 rfl) ?_
    refine v_goto F (tgt := 18) (dq dkX9_section_0 8 rfl) (by decide) ?_
    have h := Option.some.inj h
    subst h
    exact v_iret F E (dq dkX9_section_0 10 rfl)
def rm_X9_more : Room := { frames := 2, cells := 0, slots := 0, locals := 51 }
def f_X9_more (x : CS) (a1 : Int32) : Option (Int32) := if (b2i (f_X9_has x a1)) = 0 then (some 0) else (gd (ib a1 10) (some (gi x 33 a1.toNatClampNeg)))
set_option maxRecDepth 100000 in
set_option maxHeartbeats 4000000 in
theorem c_X9_more {K : KE} {l : Launch} {R : Int32} (x : CS) (y : MS) (a1 : Int32) (h : f_X9_more x a1 = some R) : MC K l yX9_more cX9_more 2 (some .int) rm_X9_more 0 0 [.ref (K.1 + 30), .int a1] (xf K x y) (xf K x y) (some (.int R)) := by
  unfold f_X9_more at h
  refine mc_of (ls0 := [(0, .ref (K.1 + 30)), (1, .int a1)]) (by decide) (Nat.le_of_ble_eq_true rfl) rfl (fun C hl hnm F E => ?_)
  have F : Fx C RX9 cX9_more 2 rm_X9_more K := F
  refine v_aload_n F (dq dkX9_more_0 0 rfl) rfl 0 rfl ?_
  refine v_iload_n F (dq dkX9_more_0 1 rfl) rfl 1 rfl ?_
  refine v_callV 1 F (q := 30) (kc1 := 0) (ks1 := 0) (as := [.int a1]) (st := []) (st1 := (.int (b2i (f_X9_has x a1)) :: [])) (res := (some (.int (b2i (f_X9_has x a1))))) (c_X9_has (l := C.2.1) x y a1) (xn (by decide)) xc_30 rfl (tc23 _ (List.mem_of_getElem? (i := 12) rfl)) (tc23 _ (List.mem_of_getElem? (i := 5) rfl)) (tc23 _ (List.mem_of_getElem? (i := 6) rfl)) (tc2 _ (List.mem_of_getElem? (i := 3) rfl)) (tc23 _ (List.mem_of_getElem? (i := 7) rfl)) (by decide) rfl ⟨rfl, rfl, Nat.le_of_ble_eq_true rfl, Nat.le_of_ble_eq_true rfl⟩ ⟨Nat.le_of_ble_eq_true rfl, Nat.le_of_ble_eq_true rfl⟩ rfl (Nat.le_of_ble_eq_true rfl) rfl rfl rfl (dq dkX9_more_0 2 rfl) ?_
  refine v_if_eq F (tgt := 17) (dq dkX9_more_0 3 rfl) (by decide) (fun c2 => ?_) (fun c2 => ?_)
  · rw [if_pos c2] at h
    refine v_iconst F (v := 0) (dq dkX9_more_0 9 rfl) ki_0 ?_
    have h := Option.some.inj h
    subst h
    exact v_iret F E (dq dkX9_more_0 10 rfl)
  · rw [if_neg c2] at h
    refine v_aload_n F (dq dkX9_more_0 4 rfl) rfl 0 rfl ?_
    refine v_get F 30 (xn (by decide)) xc_30 rfl inlX9 2 (by decide) (tc4 _ (List.mem_of_getElem? (i := 12) rfl)) rfl rfl (dq dkX9_more_0 5 rfl) ?_
    refine v_iload_n F (dq dkX9_more_0 6 rfl) rfl 1 rfl ?_
    obtain ⟨g3, h⟩ := gd_of h
    refine v_iald F 33 (xn (by decide)) xc_33 (ib_in g3) (dq dkX9_more_0 7 rfl) ?_
    refine v_goto F (tgt := 18) (dq dkX9_more_0 8 rfl) (by decide) ?_
    have h := Option.some.inj h
    subst h
    exact v_iret F E (dq dkX9_more_0 10 rfl)
def rm_X9_add : Room := { frames := 2, cells := 0, slots := 0, locals := 52 }
def f_X9_add_29 (x : CS) : Option (Int32 × CS) := some ((-2), x)
set_option maxRecDepth 100000 in
set_option maxHeartbeats 4000000 in
theorem t_X9_add_29 {C : Cx} {K : KE} {y : MS} {R : Int32 × CS}  (x : CS) (h : f_X9_add_29 x = some R) (F : Fx C RX9 cX9_add 4 rm_X9_add K) (E : CE C (xf K R.2 y) (some (.int R.1)) 0 0 (some .int)) : V C 29 [] [] (xf K x y) 0 0 := by
  unfold f_X9_add_29 at h
  refine v_bipush F (v := (-2)) (dq dkX9_add_0 15 rfl) kb_m2 ?_
  have h := Option.some.inj h
  subst h
  exact v_iret F E (dq dkX9_add_0 16 rfl)
def f_X9_add_48 (x : CS) : Option (Int32 × CS) := some ((-4), x)
set_option maxRecDepth 100000 in
set_option maxHeartbeats 4000000 in
theorem t_X9_add_48 {C : Cx} {K : KE} {y : MS} {R : Int32 × CS}  (x : CS) (h : f_X9_add_48 x = some R) (F : Fx C RX9 cX9_add 4 rm_X9_add K) (E : CE C (xf K R.2 y) (some (.int R.1)) 0 0 (some .int)) : V C 48 [] [] (xf K x y) 0 0 := by
  unfold f_X9_add_48 at h
  refine v_bipush F (v := (-4)) (dq dkX9_add_0 24 rfl) kb_m4 ?_
  have h := Option.some.inj h
  subst h
  exact v_iret F E (dq dkX9_add_0 25 rfl)
def f_X9_add (x : CS) (a1 : Int32) (a2 : Int32) (a3 : Int32) : Option (Int32 × CS) := if (b2i (f_X10_within a1 0 5)) = 0 then (f_X9_add_29 x) else (if (b2i (f_X10_within a2 0 9)) = 0 then (f_X9_add_29 x) else (if (b2i (f_X10_within a3 0 9)) = 0 then (f_X9_add_29 x) else (if (gi x 30 3) < 0 then (f_X9_add_48 x) else (if (gi x 30 3) < 10 then (gd (ib (gi x 30 3) 10) (gd (ib (gi (pi x 31 ((gi x 30 3).toNatClampNeg) a1) 30 3) 10) (gd (ib (gi (pi (pi x 31 ((gi x 30 3).toNatClampNeg) a1) 32 ((gi (pi x 31 ((gi x 30 3).toNatClampNeg) a1) 30 3).toNatClampNeg) a2) 30 3) 10) (some ((gi (pi (pi (pi (pi x 31 ((gi x 30 3).toNatClampNeg) a1) 32 ((gi (pi x 31 ((gi x 30 3).toNatClampNeg) a1) 30 3).toNatClampNeg) a2) 33 ((gi (pi (pi x 31 ((gi x 30 3).toNatClampNeg) a1) 32 ((gi (pi x 31 ((gi x 30 3).toNatClampNeg) a1) 30 3).toNatClampNeg) a2) 30 3).toNatClampNeg) a3) 30 3 ((gi (pi (pi (pi x 31 ((gi x 30 3).toNatClampNeg) a1) 32 ((gi (pi x 31 ((gi x 30 3).toNatClampNeg) a1) 30 3).toNatClampNeg) a2) 33 ((gi (pi (pi x 31 ((gi x 30 3).toNatClampNeg) a1) 32 ((gi (pi x 31 ((gi x 30 3).toNatClampNeg) a1) 30 3).toNatClampNeg) a2) 30 3).toNatClampNeg) a3) 30 3) + 1)) 30 3) - 1, pi (pi (pi (pi x 31 ((gi x 30 3).toNatClampNeg) a1) 32 ((gi (pi x 31 ((gi x 30 3).toNatClampNeg) a1) 30 3).toNatClampNeg) a2) 33 ((gi (pi (pi x 31 ((gi x 30 3).toNatClampNeg) a1) 32 ((gi (pi x 31 ((gi x 30 3).toNatClampNeg) a1) 30 3).toNatClampNeg) a2) 30 3).toNatClampNeg) a3) 30 3 ((gi (pi (pi (pi x 31 ((gi x 30 3).toNatClampNeg) a1) 32 ((gi (pi x 31 ((gi x 30 3).toNatClampNeg) a1) 30 3).toNatClampNeg) a2) 33 ((gi (pi (pi x 31 ((gi x 30 3).toNatClampNeg) a1) 32 ((gi (pi x 31 ((gi x 30 3).toNatClampNeg) a1) 30 3).toNatClampNeg) a2) 30 3).toNatClampNeg) a3) 30 3) + 1)))))) else (f_X9_add_48 x)))))
set_option maxRecDepth 100000 in
set_option maxHeartbeats 4000000 in
theorem c_X9_add {K : KE} {l : Launch} {R : Int32 × CS} (x : CS) (y : MS) (a1 : Int32) (a2 : Int32) (a3 : Int32) (h : f_X9_add x a1 a2 a3 = some R) : MC K l yX9_add cX9_add 4 (some .int) rm_X9_add 0 0 [.ref (K.1 + 30), .int a1, .int a2, .int a3] (xf K x y) (xf K R.2 y) (some (.int R.1)) := by
  unfold f_X9_add at h
  refine mc_of (ls0 := [(0, .ref (K.1 + 30)), (1, .int a1), (2, .int a2), (3, .int a3)]) (by decide) (Nat.le_of_ble_eq_true rfl) rfl (fun C hl hnm F E => ?_)
  have F : Fx C RX9 cX9_add 4 rm_X9_add K := F
  refine v_iload_n F (dq dkX9_add_0 0 rfl) rfl 1 rfl ?_
  refine v_iconst F (v := 0) (dq dkX9_add_0 1 rfl) ki_0 ?_
  refine v_iconst F (v := 5) (dq dkX9_add_0 2 rfl) ki_5 ?_
  refine v_callSN 3 F (kc1 := 0) (ks1 := 0) (as := [.int a1, .int 0, .int 5]) (st := []) (st1 := (.int (b2i (f_X10_within a1 0 5)) :: [])) (res := (some (.int (b2i (f_X10_within a1 0 5))))) (c_X10_within (l := C.2.1) a1 0 5) (List.mem_of_getElem? (i := 8) rfl) (tc8 _ (List.mem_of_getElem? (i := 15) rfl)) (tc1 _ (List.mem_of_getElem? (i := 2) rfl)) (tc8 _ (List.mem_of_getElem? (i := 16) rfl)) (by decide) rfl ⟨rfl, rfl, Nat.le_of_ble_eq_true rfl, Nat.le_of_ble_eq_true rfl⟩ ⟨Nat.le_of_ble_eq_true rfl, Nat.le_of_ble_eq_true rfl⟩ rfl (Nat.le_of_ble_eq_true rfl) rfl rfl rfl (dq dkX9_add_0 3 rfl) ?_
  refine v_if_eq F (tgt := 29) (dq dkX9_add_0 4 rfl) (by decide) (fun c2 => ?_) (fun c2 => ?_)
  · rw [if_pos c2] at h
    refine v_sub [] rfl ?_
    exact t_X9_add_29 x h F E
  · rw [if_neg c2] at h
    refine v_iload_n F (dq dkX9_add_0 5 rfl) rfl 2 rfl ?_
    refine v_iconst F (v := 0) (dq dkX9_add_0 6 rfl) ki_0 ?_
    refine v_bipush F (v := 9) (dq dkX9_add_0 7 rfl) kb_9 ?_
    refine v_callSN 3 F (kc1 := 0) (ks1 := 0) (as := [.int a2, .int 0, .int 9]) (st := []) (st1 := (.int (b2i (f_X10_within a2 0 9)) :: [])) (res := (some (.int (b2i (f_X10_within a2 0 9))))) (c_X10_within (l := C.2.1) a2 0 9) (List.mem_of_getElem? (i := 8) rfl) (tc8 _ (List.mem_of_getElem? (i := 15) rfl)) (tc1 _ (List.mem_of_getElem? (i := 2) rfl)) (tc8 _ (List.mem_of_getElem? (i := 16) rfl)) (by decide) rfl ⟨rfl, rfl, Nat.le_of_ble_eq_true rfl, Nat.le_of_ble_eq_true rfl⟩ ⟨Nat.le_of_ble_eq_true rfl, Nat.le_of_ble_eq_true rfl⟩ rfl (Nat.le_of_ble_eq_true rfl) rfl rfl rfl (dq dkX9_add_0 8 rfl) ?_
    refine v_if_eq F (tgt := 29) (dq dkX9_add_0 9 rfl) (by decide) (fun c4 => ?_) (fun c4 => ?_)
    · rw [if_pos c4] at h
      refine v_sub [] rfl ?_
      exact t_X9_add_29 x h F E
    · rw [if_neg c4] at h
      refine v_iload_n F (dq dkX9_add_0 10 rfl) rfl 3 rfl ?_
      refine v_iconst F (v := 0) (dq dkX9_add_0 11 rfl) ki_0 ?_
      refine v_bipush F (v := 9) (dq dkX9_add_0 12 rfl) kb_9 ?_
      refine v_callSN 3 F (kc1 := 0) (ks1 := 0) (as := [.int a3, .int 0, .int 9]) (st := []) (st1 := (.int (b2i (f_X10_within a3 0 9)) :: [])) (res := (some (.int (b2i (f_X10_within a3 0 9))))) (c_X10_within (l := C.2.1) a3 0 9) (List.mem_of_getElem? (i := 8) rfl) (tc8 _ (List.mem_of_getElem? (i := 15) rfl)) (tc1 _ (List.mem_of_getElem? (i := 2) rfl)) (tc8 _ (List.mem_of_getElem? (i := 16) rfl)) (by decide) rfl ⟨rfl, rfl, Nat.le_of_ble_eq_true rfl, Nat.le_of_ble_eq_true rfl⟩ ⟨Nat.le_of_ble_eq_true rfl, Nat.le_of_ble_eq_true rfl⟩ rfl (Nat.le_of_ble_eq_true rfl) rfl rfl rfl (dq dkX9_add_0 13 rfl) ?_
      refine v_if_ne F (tgt := 32) (dq dkX9_add_0 14 rfl) (by decide) (fun c6 => ?_) (fun c6 => ?_)
      · rw [if_neg c6] at h
        refine v_aload_n F (dq dkX9_add_0 17 rfl) rfl 0 rfl ?_
        refine v_get F 30 (xn (by decide)) xc_30 rfl inlX9 3 (by decide) (tc4 _ (List.mem_of_getElem? (i := 13) rfl)) rfl rfl (dq dkX9_add_0 18 rfl) ?_
        refine v_if_lt F (tgt := 48) (dq dkX9_add_0 19 rfl) (by decide) (fun c7 => ?_) (fun c7 => ?_)
        · rw [if_pos c7] at h
          refine v_sub [] rfl ?_
          exact t_X9_add_48 x h F E
        · rw [if_neg c7] at h
          refine v_aload_n F (dq dkX9_add_0 20 rfl) rfl 0 rfl ?_
          refine v_get F 30 (xn (by decide)) xc_30 rfl inlX9 3 (by decide) (tc4 _ (List.mem_of_getElem? (i := 13) rfl)) rfl rfl (dq dkX9_add_0 21 rfl) ?_
          refine v_bipush F (v := 10) (dq dkX9_add_0 22 rfl) kb_10 ?_
          refine v_icmp_lt F (tgt := 51) (dq dkX9_add_0 23 rfl) (by decide) (fun c8 => ?_) (fun c8 => ?_)
          · rw [if_pos c8] at h
            refine v_aload_n F (dq dkX9_add_0 26 rfl) rfl 0 rfl ?_
            refine v_get F 30 (xn (by decide)) xc_30 rfl inlX9 0 (by decide) (tc4 _ (List.mem_of_getElem? (i := 10) rfl)) rfl rfl (dq dkX9_add_0 27 rfl) ?_
            refine v_aload_n F (dq dkX9_add_0 28 rfl) rfl 0 rfl ?_
            refine v_get F 30 (xn (by decide)) xc_30 rfl inlX9 3 (by decide) (tc4 _ (List.mem_of_getElem? (i := 13) rfl)) rfl rfl (dq dkX9_add_0 29 rfl) ?_
            refine v_iload_n F (dq dkX9_add_0 30 rfl) rfl 1 rfl ?_
            obtain ⟨g9, h⟩ := gd_of h
            refine v_iast F 31 (xn (by decide)) xc_31 (ib_in g9) (dq dkX9_add_0 31 rfl) ?_
            refine v_eqM (xwC (q := 31) (j := (gi x 30 3).toNatClampNeg) (v := a1) (by decide) rfl) ?_
            refine v_aload_n F (dq dkX9_add_0 32 rfl) rfl 0 rfl ?_
            refine v_get F 30 (xn (by decide)) xc_30 rfl inlX9 1 (by decide) (tc4 _ (List.mem_of_getElem? (i := 11) rfl)) rfl rfl (dq dkX9_add_0 33 rfl) ?_
            refine v_aload_n F (dq dkX9_add_0 34 rfl) rfl 0 rfl ?_
            refine v_get F 30 (xn (by decide)) xc_30 rfl inlX9 3 (by decide) (tc4 _ (List.mem_of_getElem? (i := 13) rfl)) rfl rfl (dq dkX9_add_0 35 rfl) ?_
            refine v_iload_n F (dq dkX9_add_0 36 rfl) rfl 2 rfl ?_
            obtain ⟨g10, h⟩ := gd_of h
            refine v_iast F 32 (xn (by decide)) xc_32 (ib_in g10) (dq dkX9_add_0 37 rfl) ?_
            refine v_eqM (xwC (q := 32) (j := (gi (pi x 31 ((gi x 30 3).toNatClampNeg) a1) 30 3).toNatClampNeg) (v := a2) (by decide) rfl) ?_
            refine v_aload_n F (dq dkX9_add_0 38 rfl) rfl 0 rfl ?_
            refine v_get F 30 (xn (by decide)) xc_30 rfl inlX9 2 (by decide) (tc4 _ (List.mem_of_getElem? (i := 12) rfl)) rfl rfl (dq dkX9_add_0 39 rfl) ?_
            refine v_aload_n F (dq dkX9_add_1 0 rfl) rfl 0 rfl ?_
            refine v_get F 30 (xn (by decide)) xc_30 rfl inlX9 3 (by decide) (tc4 _ (List.mem_of_getElem? (i := 13) rfl)) rfl rfl (dq dkX9_add_1 1 rfl) ?_
            refine v_iload_n F (dq dkX9_add_1 2 rfl) rfl 3 rfl ?_
            obtain ⟨g11, h⟩ := gd_of h
            refine v_iast F 33 (xn (by decide)) xc_33 (ib_in g11) (dq dkX9_add_1 3 rfl) ?_
            refine v_eqM (xwC (q := 33) (j := (gi (pi (pi x 31 ((gi x 30 3).toNatClampNeg) a1) 32 ((gi (pi x 31 ((gi x 30 3).toNatClampNeg) a1) 30 3).toNatClampNeg) a2) 30 3).toNatClampNeg) (v := a3) (by decide) rfl) ?_
            refine v_aload_n F (dq dkX9_add_1 4 rfl) rfl 0 rfl ?_
            refine v_dup F (dq dkX9_add_1 5 rfl) rfl ?_
            refine v_get F 30 (xn (by decide)) xc_30 rfl inlX9 3 (by decide) (tc4 _ (List.mem_of_getElem? (i := 13) rfl)) rfl rfl (dq dkX9_add_1 6 rfl) ?_
            refine v_iconst F (v := 1) (dq dkX9_add_1 7 rfl) ki_1 ?_
            refine v_iadd F (dq dkX9_add_1 8 rfl) ?_
            refine v_put F 30 (xn (by decide)) xc_30 rfl inlX9 tyX9_ok nmX9 3 (by decide) (tc4 _ (List.mem_of_getElem? (i := 13) rfl)) rfl rfl (tyX9_ok 3 (by decide)) rfl rfl (Nat.le_of_ble_eq_true rfl) (dq dkX9_add_1 9 rfl) ?_
            refine v_eqM (xwC (q := 30) (j := 3) (v := (gi (pi (pi (pi x 31 ((gi x 30 3).toNatClampNeg) a1) 32 ((gi (pi x 31 ((gi x 30 3).toNatClampNeg) a1) 30 3).toNatClampNeg) a2) 33 ((gi (pi (pi x 31 ((gi x 30 3).toNatClampNeg) a1) 32 ((gi (pi x 31 ((gi x 30 3).toNatClampNeg) a1) 30 3).toNatClampNeg) a2) 30 3).toNatClampNeg) a3) 30 3) + 1) (by decide) rfl) ?_
            refine v_aload_n F (dq dkX9_add_1 10 rfl) rfl 0 rfl ?_
            refine v_get F 30 (xn (by decide)) xc_30 rfl inlX9 3 (by decide) (tc4 _ (List.mem_of_getElem? (i := 13) rfl)) rfl rfl (dq dkX9_add_1 11 rfl) ?_
            refine v_iconst F (v := 1) (dq dkX9_add_1 12 rfl) ki_1 ?_
            refine v_isub F (dq dkX9_add_1 13 rfl) ?_
            have h := Option.some.inj h
            subst h
            exact v_iret F E (dq dkX9_add_1 14 rfl)
          · rw [if_neg c8] at h
            refine v_sub [] rfl ?_
            exact t_X9_add_48 x h F E
      · rw [if_pos c6] at h
        refine v_sub [] rfl ?_
        exact t_X9_add_29 x h F E
def rm_X9_isOne : Room := { frames := 2, cells := 0, slots := 0, locals := 52 }
def f_X9_isOne_37 (x : CS) : Option (Bool) := some false
set_option maxRecDepth 100000 in
set_option maxHeartbeats 4000000 in
theorem t_X9_isOne_37 {C : Cx} {K : KE} {y : MS} {R : Bool}  (x : CS) (h : f_X9_isOne_37 x = some R) (F : Fx C RX9 cX9_isOne 4 rm_X9_isOne K) (E : CE C (xf K x y) (some (.int (b2i R))) 0 0 (some .boolean)) : V C 37 [] [] (xf K x y) 0 0 := by
  unfold f_X9_isOne_37 at h
  refine v_iconst F (v := 0) (dq dkX9_isOne_0 23 rfl) ki_0 ?_
  have h := Option.some.inj h
  subst h
  exact v_zret F E (b2i_n false) (dq dkX9_isOne_0 24 rfl)
def f_X9_isOne_4 (x : CS) : Nat → Int32 → Int32 → Int32 → Option (Bool)
  | 0, _, _, _ => none
  | n + 1, a1, a2, a3 => if 5 < a3 then (f_X9_isOne_37 x) else (if (b2i (f_X10_within a2 0 5)) = 0 then (f_X9_isOne_37 x) else (if a2 = a1 then (some true) else (gd (ib a2 6) ((f_X9_isOne_4 x n) a1 (sa 6 a2.toNatClampNeg) (a3 + 1)))))
set_option maxRecDepth 100000 in
set_option maxHeartbeats 4000000 in
theorem t_X9_isOne_4 {C : Cx} {K : KE} {y : MS} {R : Bool}  (x : CS) (F : Fx C RX9 cX9_isOne 4 rm_X9_isOne K) (E : CE C (xf K x y) (some (.int (b2i R))) 0 0 (some .boolean)) : ∀ (n : Nat) (a1 : Int32) (a2 : Int32) (a3 : Int32) (h : f_X9_isOne_4 x n a1 a2 a3 = some R), V C 4 [(1, .int a1), (2, .int a2), (3, .int a3)] [] (xf K x y) 0 0 := by
  intro n
  induction n with
  | zero => intro a1 a2 a3 h; cases h
  | succ n ih =>
    intro a1 a2 a3 h
    rw [f_X9_isOne_4] at h
    refine v_iload_n F (dq dkX9_isOne_0 4 rfl) rfl 2 rfl ?_
    refine v_iconst F (v := 5) (dq dkX9_isOne_0 5 rfl) ki_5 ?_
    refine v_icmp_gt F (tgt := 37) (dq dkX9_isOne_0 6 rfl) (by decide) (fun c1 => ?_) (fun c1 => ?_)
    · rw [if_pos c1] at h
      refine v_sub [] rfl ?_
      exact t_X9_isOne_37 x h F E
    · rw [if_neg c1] at h
      refine v_iload_n F (dq dkX9_isOne_0 7 rfl) rfl 1 rfl ?_
      refine v_iconst F (v := 0) (dq dkX9_isOne_0 8 rfl) ki_0 ?_
      refine v_iconst F (v := 5) (dq dkX9_isOne_0 9 rfl) ki_5 ?_
      refine v_callSN 3 F (kc1 := 0) (ks1 := 0) (as := [.int a2, .int 0, .int 5]) (st := []) (st1 := (.int (b2i (f_X10_within a2 0 5)) :: [])) (res := (some (.int (b2i (f_X10_within a2 0 5))))) (c_X10_within (l := C.2.1) a2 0 5) (List.mem_of_getElem? (i := 8) rfl) (tc8 _ (List.mem_of_getElem? (i := 15) rfl)) (tc1 _ (List.mem_of_getElem? (i := 2) rfl)) (tc8 _ (List.mem_of_getElem? (i := 16) rfl)) (by decide) rfl ⟨rfl, rfl, Nat.le_of_ble_eq_true rfl, Nat.le_of_ble_eq_true rfl⟩ ⟨Nat.le_of_ble_eq_true rfl, Nat.le_of_ble_eq_true rfl⟩ rfl (Nat.le_of_ble_eq_true rfl) rfl rfl rfl (dq dkX9_isOne_0 10 rfl) ?_
      refine v_if_eq F (tgt := 37) (dq dkX9_isOne_0 11 rfl) (by decide) (fun c3 => ?_) (fun c3 => ?_)
      · rw [if_pos c3] at h
        refine v_sub [] rfl ?_
        exact t_X9_isOne_37 x h F E
      · rw [if_neg c3] at h
        refine v_iload_n F (dq dkX9_isOne_0 12 rfl) rfl 1 rfl ?_
        refine v_iload_n F (dq dkX9_isOne_0 13 rfl) rfl 0 rfl ?_
        refine v_icmp_ne F (tgt := 25) (dq dkX9_isOne_0 14 rfl) (by decide) (fun c4 => ?_) (fun c4 => ?_)
        · rw [if_neg c4] at h
          refine v_gets 6 F rfl (tc53 _ (List.mem_of_getElem? (i := 17) rfl)) (dq dkX9_isOne_0 17 rfl) ?_
          refine v_iload_n F (dq dkX9_isOne_0 18 rfl) rfl 1 rfl ?_
          obtain ⟨g5, h⟩ := gd_of h
          refine v_ti 6 F rfl (ib_in g5) (dq dkX9_isOne_0 19 rfl) ?_
          refine v_istore_n F (ls' := [(2, .int (sa 6 a2.toNatClampNeg)), (1, .int a1), (3, .int a3)]) (dq dkX9_isOne_0 20 rfl) rfl (by decide) rfl ?_
          refine v_iinc F (v := a3 + 1) (ls' := [(3, .int (a3 + 1)), (2, .int (sa 6 a2.toNatClampNeg)), (1, .int a1)]) (dq dkX9_isOne_0 21 rfl) (j := 2) rfl (kv_add ki_1) (by decide) rfl ?_
          refine v_goto F (tgt := 4) (dq dkX9_isOne_0 22 rfl) (by decide) ?_
          refine v_sub [2, 1, 0] rfl ?_
          exact ih a1 (sa 6 a2.toNatClampNeg) (a3 + 1) h
        · rw [if_pos c4] at h
          refine v_iconst F (v := 1) (dq dkX9_isOne_0 15 rfl) ki_1 ?_
          have h := Option.some.inj h
          subst h
          exact v_zret F E (b2i_n true) (dq dkX9_isOne_0 16 rfl)
def f_X9_isOne (x : CS) (a0 : Int32) (a1 : Int32) : Option (Bool) := f_X9_isOne_4 x 1000 a1 a0 0
set_option maxRecDepth 100000 in
set_option maxHeartbeats 4000000 in
theorem c_X9_isOne {K : KE} {l : Launch} {R : Bool} (x : CS) (y : MS) (a0 : Int32) (a1 : Int32) (h : f_X9_isOne x a0 a1 = some R) : MC K l yX9_isOne cX9_isOne 4 (some .boolean) rm_X9_isOne 0 0 [.int a0, .int a1] (xf K x y) (xf K x y) (some (.int (b2i R))) := by
  unfold f_X9_isOne at h
  refine mc_of (ls0 := [(0, .int a0), (1, .int a1)]) (by decide) (Nat.le_of_ble_eq_true rfl) rfl (fun C hl hnm F E => ?_)
  have F : Fx C RX9 cX9_isOne 4 rm_X9_isOne K := F
  refine v_iload_n F (dq dkX9_isOne_0 0 rfl) rfl 0 rfl ?_
  refine v_istore_n F (ls' := [(2, .int a0), (0, .int a0), (1, .int a1)]) (dq dkX9_isOne_0 1 rfl) rfl (by decide) rfl ?_
  refine v_iconst F (v := 0) (dq dkX9_isOne_0 2 rfl) ki_0 ?_
  refine v_istore_n F (ls' := [(3, .int 0), (2, .int a0), (0, .int a0), (1, .int a1)]) (dq dkX9_isOne_0 3 rfl) rfl (by decide) rfl ?_
  refine v_sub [3, 1, 0] rfl ?_
  exact t_X9_isOne_4 x F E 1000 a1 a0 0 h
def rm_X9_daysOfOneMan : Room := { frames := 3, cells := 0, slots := 0, locals := 72 }
def f_X9_daysOfOneMan_80 (x : CS) (a2 : Int32) : Option (Int32) := some a2
set_option maxRecDepth 100000 in
set_option maxHeartbeats 4000000 in
theorem t_X9_daysOfOneMan_80 {C : Cx} {K : KE} {y : MS} {R : Int32}  (x : CS) (a2 : Int32) (h : f_X9_daysOfOneMan_80 x a2 = some R) (F : Fx C RX9 cX9_daysOfOneMan 4 rm_X9_daysOfOneMan K) (E : CE C (xf K x y) (some (.int R)) 0 0 (some .int)) : V C 80 [(2, .int a2)] [] (xf K x y) 0 0 := by
  unfold f_X9_daysOfOneMan_80 at h
  refine v_iload_n F (dq dkX9_daysOfOneMan_0 37 rfl) rfl 0 rfl ?_
  have h := Option.some.inj h
  subst h
  exact v_iret F E (dq dkX9_daysOfOneMan_0 38 rfl)
def f_X9_daysOfOneMan_25 (x : CS) (a1 : Int32) (a2 : Int32) (s0 : Int32) : Option (Int32) := (f_X9_kind x a1).bind fun r1 => if r1 = 1 then (some s0) else (if r1 = 2 then (some (s0 + 2)) else (if r1 = 3 then (f_X9_daysOfOneMan_80 x a2) else (if r1 = 4 then (some (2 * a2)) else (if r1 = 5 then (some ((2 * a2) + 3)) else (f_X9_daysOfOneMan_80 x a2)))))
set_option maxRecDepth 100000 in
set_option maxHeartbeats 4000000 in
theorem t_X9_daysOfOneMan_25 {C : Cx} {K : KE} {y : MS} {R : Int32}  (x : CS) (a1 : Int32) (a2 : Int32) (s0 : Int32) (h : f_X9_daysOfOneMan_25 x a1 a2 s0 = some R) (F : Fx C RX9 cX9_daysOfOneMan 4 rm_X9_daysOfOneMan K) (E : CE C (xf K x y) (some (.int R)) 0 0 (some .int)) : V C 25 [(0, .ref (K.1 + 30)), (1, .int a1), (2, .int a2)] [.int s0] (xf K x y) 0 0 := by
  unfold f_X9_daysOfOneMan_25 at h
  refine v_istore_n F (ls' := [(3, .int s0), (0, .ref (K.1 + 30)), (1, .int a1), (2, .int a2)]) (dq dkX9_daysOfOneMan_0 16 rfl) rfl (by decide) rfl ?_
  refine v_aload_n F (dq dkX9_daysOfOneMan_0 17 rfl) rfl 1 rfl ?_
  refine v_iload_n F (dq dkX9_daysOfOneMan_0 18 rfl) rfl 2 rfl ?_
  obtain ⟨r1, e2, h⟩ := bd_of h
  refine v_callV 1 F (q := 30) (kc1 := 0) (ks1 := 0) (as := [.int a1]) (st := []) (st1 := (.int r1 :: [])) (res := (some (.int r1))) (c_X9_kind (l := C.2.1) x y a1 e2) (xn (by decide)) xc_30 rfl (tc24 _ (List.mem_of_getElem? (i := 7) rfl)) (tc23 _ (List.mem_of_getElem? (i := 9) rfl)) (tc23 _ (List.mem_of_getElem? (i := 10) rfl)) (tc2 _ (List.mem_of_getElem? (i := 3) rfl)) (tc23 _ (List.mem_of_getElem? (i := 11) rfl)) (by decide) rfl ⟨rfl, rfl, Nat.le_of_ble_eq_true rfl, Nat.le_of_ble_eq_true rfl⟩ ⟨Nat.le_of_ble_eq_true rfl, Nat.le_of_ble_eq_true rfl⟩ rfl (Nat.le_of_ble_eq_true rfl) rfl rfl rfl (dq dkX9_daysOfOneMan_0 19 rfl) ?_
  by_cases c3 : r1 = 1
  · rw [if_pos c3] at h
    refine v_tblIn F (off := 33) (tgt := 64) (dq dkX9_daysOfOneMan_0 20 rfl) (by rw [c3]; decide) (by rw [c3]; decide) (by rw [c3]; rfl) (by decide) ?_
    refine v_iload_n F (dq dkX9_daysOfOneMan_0 21 rfl) rfl 0 rfl ?_
    have h := Option.some.inj h
    subst h
    exact v_iret F E (dq dkX9_daysOfOneMan_0 22 rfl)
  rw [if_neg c3] at h
  by_cases c4 : r1 = 2
  · rw [if_pos c4] at h
    refine v_tblIn F (off := 35) (tgt := 66) (dq dkX9_daysOfOneMan_0 20 rfl) (by rw [c4]; decide) (by rw [c4]; decide) (by rw [c4]; rfl) (by decide) ?_
    refine v_iload_n F (dq dkX9_daysOfOneMan_0 23 rfl) rfl 0 rfl ?_
    refine v_iconst F (v := 2) (dq dkX9_daysOfOneMan_0 24 rfl) ki_2 ?_
    refine v_iadd F (dq dkX9_daysOfOneMan_0 25 rfl) ?_
    have h := Option.some.inj h
    subst h
    exact v_iret F E (dq dkX9_daysOfOneMan_0 26 rfl)
  rw [if_neg c4] at h
  by_cases c5 : r1 = 3
  · rw [if_pos c5] at h
    refine v_tblIn F (off := 49) (tgt := 80) (dq dkX9_daysOfOneMan_0 20 rfl) (by rw [c5]; decide) (by rw [c5]; decide) (by rw [c5]; rfl) (by decide) ?_
    refine v_sub [3] rfl ?_
    exact t_X9_daysOfOneMan_80 x a2 h F E
  rw [if_neg c5] at h
  by_cases c6 : r1 = 4
  · rw [if_pos c6] at h
    refine v_tblIn F (off := 39) (tgt := 70) (dq dkX9_daysOfOneMan_0 20 rfl) (by rw [c6]; decide) (by rw [c6]; decide) (by rw [c6]; rfl) (by decide) ?_
    refine v_iconst F (v := 2) (dq dkX9_daysOfOneMan_0 27 rfl) ki_2 ?_
    refine v_iload_n F (dq dkX9_daysOfOneMan_0 28 rfl) rfl 3 rfl ?_
    refine v_imul F (dq dkX9_daysOfOneMan_0 29 rfl) ?_
    have h := Option.some.inj h
    subst h
    exact v_iret F E (dq dkX9_daysOfOneMan_0 30 rfl)
  rw [if_neg c6] at h
  by_cases c7 : r1 = 5
  · rw [if_pos c7] at h
    refine v_tblIn F (off := 43) (tgt := 74) (dq dkX9_daysOfOneMan_0 20 rfl) (by rw [c7]; decide) (by rw [c7]; decide) (by rw [c7]; rfl) (by decide) ?_
    refine v_iconst F (v := 2) (dq dkX9_daysOfOneMan_0 31 rfl) ki_2 ?_
    refine v_iload_n F (dq dkX9_daysOfOneMan_0 32 rfl) rfl 3 rfl ?_
    refine v_imul F (dq dkX9_daysOfOneMan_0 33 rfl) ?_
    refine v_iconst F (v := 3) (dq dkX9_daysOfOneMan_0 34 rfl) ki_3 ?_
    refine v_iadd F (dq dkX9_daysOfOneMan_0 35 rfl) ?_
    have h := Option.some.inj h
    subst h
    exact v_iret F E (dq dkX9_daysOfOneMan_0 36 rfl)
  rw [if_neg c7] at h
  have zc3 := lv_neT c3 (a := 1) (by decide)
  have zc4 := lv_neT c4 (a := 2) (by decide)
  have zc5 := lv_neT c5 (a := 3) (by decide)
  have zc6 := lv_neT c6 (a := 4) (by decide)
  have zc7 := lv_neT c7 (a := 5) (by decide)
  refine v_tblOut F (tgt := 80) (dq dkX9_daysOfOneMan_0 20 rfl) (by omega) (by decide) ?_
  refine v_sub [3] rfl ?_
  exact t_X9_daysOfOneMan_80 x a2 h F E
def f_X9_daysOfOneMan (x : CS) (a1 : Int32) : Option (Int32) := (f_X9_more x a1).bind fun r8 => (f_X9_section x a1).bind fun r10 => if r10 = 9 then (f_X9_daysOfOneMan_25 x a1 (1 + r8) (2 * (1 + r8))) else (f_X9_daysOfOneMan_25 x a1 (1 + r8) (1 + r8))
set_option maxRecDepth 100000 in
set_option maxHeartbeats 4000000 in
theorem c_X9_daysOfOneMan {K : KE} {l : Launch} {R : Int32} (x : CS) (y : MS) (a1 : Int32) (h : f_X9_daysOfOneMan x a1 = some R) : MC K l yX9_daysOfOneMan cX9_daysOfOneMan 4 (some .int) rm_X9_daysOfOneMan 0 0 [.ref (K.1 + 30), .int a1] (xf K x y) (xf K x y) (some (.int R)) := by
  unfold f_X9_daysOfOneMan at h
  refine mc_of (ls0 := [(0, .ref (K.1 + 30)), (1, .int a1)]) (by decide) (Nat.le_of_ble_eq_true rfl) rfl (fun C hl hnm F E => ?_)
  have F : Fx C RX9 cX9_daysOfOneMan 4 rm_X9_daysOfOneMan K := F
  refine v_iconst F (v := 1) (dq dkX9_daysOfOneMan_0 0 rfl) ki_1 ?_
  refine v_aload_n F (dq dkX9_daysOfOneMan_0 1 rfl) rfl 0 rfl ?_
  refine v_iload_n F (dq dkX9_daysOfOneMan_0 2 rfl) rfl 1 rfl ?_
  obtain ⟨r8, e9, h⟩ := bd_of h
  refine v_callV 1 F (q := 30) (kc1 := 0) (ks1 := 0) (as := [.int a1]) (st := [.int 1]) (st1 := (.int r8 :: [.int 1])) (res := (some (.int r8))) (c_X9_more (l := C.2.1) x y a1 e9) (xn (by decide)) xc_30 rfl (tc24 _ (List.mem_of_getElem? (i := 5) rfl)) (tc23 _ (List.mem_of_getElem? (i := 18) rfl)) (tc23 _ (List.mem_of_getElem? (i := 19) rfl)) (tc2 _ (List.mem_of_getElem? (i := 3) rfl)) (tc23 _ (List.mem_of_getElem? (i := 20) rfl)) (by decide) rfl ⟨rfl, rfl, Nat.le_of_ble_eq_true rfl, Nat.le_of_ble_eq_true rfl⟩ ⟨Nat.le_of_ble_eq_true rfl, Nat.le_of_ble_eq_true rfl⟩ rfl (Nat.le_of_ble_eq_true rfl) rfl rfl rfl (dq dkX9_daysOfOneMan_0 3 rfl) ?_
  refine v_iadd F (dq dkX9_daysOfOneMan_0 4 rfl) ?_
  refine v_istore_n F (ls' := [(2, .int (1 + r8)), (0, .ref (K.1 + 30)), (1, .int a1)]) (dq dkX9_daysOfOneMan_0 5 rfl) rfl (by decide) rfl ?_
  refine v_aload_n F (dq dkX9_daysOfOneMan_0 6 rfl) rfl 1 rfl ?_
  refine v_iload_n F (dq dkX9_daysOfOneMan_0 7 rfl) rfl 2 rfl ?_
  obtain ⟨r10, e11, h⟩ := bd_of h
  refine v_callV 1 F (q := 30) (kc1 := 0) (ks1 := 0) (as := [.int a1]) (st := []) (st1 := (.int r10 :: [])) (res := (some (.int r10))) (c_X9_section (l := C.2.1) x y a1 e11) (xn (by decide)) xc_30 rfl (tc24 _ (List.mem_of_getElem? (i := 6) rfl)) (tc23 _ (List.mem_of_getElem? (i := 14) rfl)) (tc23 _ (List.mem_of_getElem? (i := 15) rfl)) (tc2 _ (List.mem_of_getElem? (i := 3) rfl)) (tc23 _ (List.mem_of_getElem? (i := 16) rfl)) (by decide) rfl ⟨rfl, rfl, Nat.le_of_ble_eq_true rfl, Nat.le_of_ble_eq_true rfl⟩ ⟨Nat.le_of_ble_eq_true rfl, Nat.le_of_ble_eq_true rfl⟩ rfl (Nat.le_of_ble_eq_true rfl) rfl rfl rfl (dq dkX9_daysOfOneMan_0 8 rfl) ?_
  refine v_bipush F (v := 9) (dq dkX9_daysOfOneMan_0 9 rfl) kb_9 ?_
  refine v_icmp_ne F (tgt := 24) (dq dkX9_daysOfOneMan_0 10 rfl) (by decide) (fun c12 => ?_) (fun c12 => ?_)
  · rw [if_neg c12] at h
    refine v_iload_n F (dq dkX9_daysOfOneMan_0 15 rfl) rfl 0 rfl ?_
    refine v_sub [1, 2, 0] rfl ?_
    exact t_X9_daysOfOneMan_25 x a1 (1 + r8) (1 + r8) h F E
  · rw [if_pos c12] at h
    refine v_iconst F (v := 2) (dq dkX9_daysOfOneMan_0 11 rfl) ki_2 ?_
    refine v_iload_n F (dq dkX9_daysOfOneMan_0 12 rfl) rfl 0 rfl ?_
    refine v_imul F (dq dkX9_daysOfOneMan_0 13 rfl) ?_
    refine v_goto F (tgt := 25) (dq dkX9_daysOfOneMan_0 14 rfl) (by decide) ?_
    refine v_sub [1, 2, 0] rfl ?_
    exact t_X9_daysOfOneMan_25 x a1 (1 + r8) (2 * (1 + r8)) h F E
def rm_X9_daysBy : Room := { frames := 4, cells := 0, slots := 0, locals := 95 }
def f_X9_daysBy (x : CS) (a1 : Int32) (a2 : Int32) : Option (Int32) := if 1 ≤ a2 then ((f_X9_daysOfOneMan x a1).bind fun r2 => gd (decide (¬ a2 = 0)) (some (((r2 + a2) - 1) / a2))) else (some 0)
set_option maxRecDepth 100000 in
set_option maxHeartbeats 4000000 in
theorem c_X9_daysBy {K : KE} {l : Launch} {R : Int32} (x : CS) (y : MS) (a1 : Int32) (a2 : Int32) (h : f_X9_daysBy x a1 a2 = some R) : MC K l yX9_daysBy cX9_daysBy 3 (some .int) rm_X9_daysBy 0 0 [.ref (K.1 + 30), .int a1, .int a2] (xf K x y) (xf K x y) (some (.int R)) := by
  unfold f_X9_daysBy at h
  refine mc_of (ls0 := [(0, .ref (K.1 + 30)), (1, .int a1), (2, .int a2)]) (by decide) (Nat.le_of_ble_eq_true rfl) rfl (fun C hl hnm F E => ?_)
  have F : Fx C RX9 cX9_daysBy 3 rm_X9_daysBy K := F
  refine v_iload_n F (dq dkX9_daysBy_0 0 rfl) rfl 2 rfl ?_
  refine v_iconst F (v := 1) (dq dkX9_daysBy_0 1 rfl) ki_1 ?_
  refine v_icmp_ge F (tgt := 9) (dq dkX9_daysBy_0 2 rfl) (by decide) (fun c1 => ?_) (fun c1 => ?_)
  · rw [if_pos c1] at h
    refine v_aload_n F (dq dkX9_daysBy_0 5 rfl) rfl 0 rfl ?_
    refine v_iload_n F (dq dkX9_daysBy_0 6 rfl) rfl 1 rfl ?_
    obtain ⟨r2, e3, h⟩ := bd_of h
    refine v_callV 1 F (q := 30) (kc1 := 0) (ks1 := 0) (as := [.int a1]) (st := []) (st1 := (.int r2 :: [])) (res := (some (.int r2))) (c_X9_daysOfOneMan (l := C.2.1) x y a1 e3) (xn (by decide)) xc_30 rfl (tc24 _ (List.mem_of_getElem? (i := 1) rfl)) (tc24 _ (List.mem_of_getElem? (i := 2) rfl)) (tc24 _ (List.mem_of_getElem? (i := 3) rfl)) (tc2 _ (List.mem_of_getElem? (i := 3) rfl)) (tc24 _ (List.mem_of_getElem? (i := 4) rfl)) (by decide) rfl ⟨rfl, rfl, Nat.le_of_ble_eq_true rfl, Nat.le_of_ble_eq_true rfl⟩ ⟨Nat.le_of_ble_eq_true rfl, Nat.le_of_ble_eq_true rfl⟩ rfl (Nat.le_of_ble_eq_true rfl) rfl rfl rfl (dq dkX9_daysBy_0 7 rfl) ?_
    refine v_iload_n F (dq dkX9_daysBy_0 8 rfl) rfl 2 rfl ?_
    refine v_iadd F (dq dkX9_daysBy_0 9 rfl) ?_
    refine v_iconst F (v := 1) (dq dkX9_daysBy_0 10 rfl) ki_1 ?_
    refine v_isub F (dq dkX9_daysBy_0 11 rfl) ?_
    refine v_iload_n F (dq dkX9_daysBy_0 12 rfl) rfl 2 rfl ?_
    obtain ⟨g4, h⟩ := gd_of h
    refine v_idiv F (dq dkX9_daysBy_0 13 rfl) (of_decide_eq_true g4) ?_
    have h := Option.some.inj h
    subst h
    exact v_iret F E (dq dkX9_daysBy_0 14 rfl)
  · rw [if_neg c1] at h
    refine v_iconst F (v := 0) (dq dkX9_daysBy_0 3 rfl) ki_0 ?_
    refine v_goto F (tgt := 20) (dq dkX9_daysBy_0 4 rfl) (by decide) ?_
    have h := Option.some.inj h
    subst h
    exact v_iret F E (dq dkX9_daysBy_0 14 rfl)
def rm_X9_allDaysBy : Room := { frames := 5, cells := 0, slots := 0, locals := 117 }
def f_X9_allDaysBy_36 (x : CS) (a3 : Int32) : Option (Int32) := some a3
set_option maxRecDepth 100000 in
set_option maxHeartbeats 4000000 in
theorem t_X9_allDaysBy_36 {C : Cx} {K : KE} {y : MS} {R : Int32}  (x : CS) (a3 : Int32) (h : f_X9_allDaysBy_36 x a3 = some R) (F : Fx C RX9 cX9_allDaysBy 5 rm_X9_allDaysBy K) (E : CE C (xf K x y) (some (.int R)) 0 0 (some .int)) : V C 36 [(3, .int a3)] [] (xf K x y) 0 0 := by
  unfold f_X9_allDaysBy_36 at h
  refine v_iload_n F (dq dkX9_allDaysBy_0 20 rfl) rfl 0 rfl ?_
  have h := Option.some.inj h
  subst h
  exact v_iret F E (dq dkX9_allDaysBy_0 21 rfl)
def f_X9_allDaysBy_5 (x : CS) : Nat → Int32 → Int32 → Int32 → Int32 → Option (Int32)
  | 0, _, _, _, _ => none
  | n + 1, a1, a2, a3, a4 => if a1 ≤ a4 then (f_X9_allDaysBy_36 x a3) else (if (gi x 30 3) ≤ a4 then (f_X9_allDaysBy_36 x a3) else ((f_X9_daysBy x a4 a2).bind fun r3 => (f_X9_allDaysBy_5 x n) a1 a2 (a3 + r3) (a4 + 1)))
set_option maxRecDepth 100000 in
set_option maxHeartbeats 4000000 in
theorem t_X9_allDaysBy_5 {C : Cx} {K : KE} {y : MS} {R : Int32}  (x : CS) (F : Fx C RX9 cX9_allDaysBy 5 rm_X9_allDaysBy K) (E : CE C (xf K x y) (some (.int R)) 0 0 (some .int)) : ∀ (n : Nat) (a1 : Int32) (a2 : Int32) (a3 : Int32) (a4 : Int32) (h : f_X9_allDaysBy_5 x n a1 a2 a3 a4 = some R), V C 5 [(0, .ref (K.1 + 30)), (1, .int a1), (2, .int a2), (3, .int a3), (4, .int a4)] [] (xf K x y) 0 0 := by
  intro n
  induction n with
  | zero => intro a1 a2 a3 a4 h; cases h
  | succ n ih =>
    intro a1 a2 a3 a4 h
    rw [f_X9_allDaysBy_5] at h
    refine v_iload F (dq dkX9_allDaysBy_0 4 rfl) 4 rfl ?_
    refine v_iload_n F (dq dkX9_allDaysBy_0 5 rfl) rfl 1 rfl ?_
    refine v_icmp_ge F (tgt := 36) (dq dkX9_allDaysBy_0 6 rfl) (by decide) (fun c1 => ?_) (fun c1 => ?_)
    · rw [if_pos c1] at h
      refine v_sub [3] rfl ?_
      exact t_X9_allDaysBy_36 x a3 h F E
    · rw [if_neg c1] at h
      refine v_iload F (dq dkX9_allDaysBy_0 7 rfl) 4 rfl ?_
      refine v_aload_n F (dq dkX9_allDaysBy_0 8 rfl) rfl 0 rfl ?_
      refine v_get F 30 (xn (by decide)) xc_30 rfl inlX9 3 (by decide) (tc4 _ (List.mem_of_getElem? (i := 13) rfl)) rfl rfl (dq dkX9_allDaysBy_0 9 rfl) ?_
      refine v_icmp_ge F (tgt := 36) (dq dkX9_allDaysBy_0 10 rfl) (by decide) (fun c2 => ?_) (fun c2 => ?_)
      · rw [if_pos c2] at h
        refine v_sub [3] rfl ?_
        exact t_X9_allDaysBy_36 x a3 h F E
      · rw [if_neg c2] at h
        refine v_iload_n F (dq dkX9_allDaysBy_0 11 rfl) rfl 3 rfl ?_
        refine v_aload_n F (dq dkX9_allDaysBy_0 12 rfl) rfl 0 rfl ?_
        refine v_iload F (dq dkX9_allDaysBy_0 13 rfl) 4 rfl ?_
        refine v_iload_n F (dq dkX9_allDaysBy_0 14 rfl) rfl 2 rfl ?_
        obtain ⟨r3, e4, h⟩ := bd_of h
        refine v_callV 2 F (q := 30) (kc1 := 0) (ks1 := 0) (as := [.int a4, .int a2]) (st := [.int a3]) (st1 := (.int r3 :: [.int a3])) (res := (some (.int r3))) (c_X9_daysBy (l := C.2.1) x y a4 a2 e4) (xn (by decide)) xc_30 rfl (tc30 _ (List.mem_of_getElem? (i := 8) rfl)) (tc23 _ (List.mem_of_getElem? (i := 22) rfl)) (tc23 _ (List.mem_of_getElem? (i := 23) rfl)) (tc2 _ (List.mem_of_getElem? (i := 3) rfl)) (tc24 _ (List.mem_of_getElem? (i := 0) rfl)) (by decide) rfl ⟨rfl, rfl, Nat.le_of_ble_eq_true rfl, Nat.le_of_ble_eq_true rfl⟩ ⟨Nat.le_of_ble_eq_true rfl, Nat.le_of_ble_eq_true rfl⟩ rfl (Nat.le_of_ble_eq_true rfl) rfl rfl rfl (dq dkX9_allDaysBy_0 15 rfl) ?_
        refine v_iadd F (dq dkX9_allDaysBy_0 16 rfl) ?_
        refine v_istore_n F (ls' := [(3, .int (a3 + r3)), (0, .ref (K.1 + 30)), (1, .int a1), (2, .int a2), (4, .int a4)]) (dq dkX9_allDaysBy_0 17 rfl) rfl (by decide) rfl ?_
        refine v_iinc F (v := a4 + 1) (ls' := [(4, .int (a4 + 1)), (3, .int (a3 + r3)), (0, .ref (K.1 + 30)), (1, .int a1), (2, .int a2)]) (dq dkX9_allDaysBy_0 18 rfl) (j := 4) rfl (kv_add ki_1) (by decide) rfl ?_
        refine v_goto F (tgt := 5) (dq dkX9_allDaysBy_0 19 rfl) (by decide) ?_
        refine v_sub [2, 3, 4, 1, 0] rfl ?_
        exact ih a1 a2 (a3 + r3) (a4 + 1) h
def f_X9_allDaysBy (x : CS) (a1 : Int32) (a2 : Int32) : Option (Int32) := f_X9_allDaysBy_5 x 1000 a1 a2 0 0
set_option maxRecDepth 100000 in
set_option maxHeartbeats 4000000 in
theorem c_X9_allDaysBy {K : KE} {l : Launch} {R : Int32} (x : CS) (y : MS) (a1 : Int32) (a2 : Int32) (h : f_X9_allDaysBy x a1 a2 = some R) : MC K l yX9_allDaysBy cX9_allDaysBy 5 (some .int) rm_X9_allDaysBy 0 0 [.ref (K.1 + 30), .int a1, .int a2] (xf K x y) (xf K x y) (some (.int R)) := by
  unfold f_X9_allDaysBy at h
  refine mc_of (ls0 := [(0, .ref (K.1 + 30)), (1, .int a1), (2, .int a2)]) (by decide) (Nat.le_of_ble_eq_true rfl) rfl (fun C hl hnm F E => ?_)
  have F : Fx C RX9 cX9_allDaysBy 5 rm_X9_allDaysBy K := F
  refine v_iconst F (v := 0) (dq dkX9_allDaysBy_0 0 rfl) ki_0 ?_
  refine v_istore_n F (ls' := [(3, .int 0), (0, .ref (K.1 + 30)), (1, .int a1), (2, .int a2)]) (dq dkX9_allDaysBy_0 1 rfl) rfl (by decide) rfl ?_
  refine v_iconst F (v := 0) (dq dkX9_allDaysBy_0 2 rfl) ki_0 ?_
  refine v_istore F (ls' := [(4, .int 0), (3, .int 0), (0, .ref (K.1 + 30)), (1, .int a1), (2, .int a2)]) (dq dkX9_allDaysBy_0 3 rfl) (by decide) rfl ?_
  refine v_sub [2, 3, 4, 1, 0] rfl ?_
  exact t_X9_allDaysBy_5 x F E 1000 a1 a2 0 0 h
def rm_X9_longest : Room := { frames := 5, cells := 0, slots := 0, locals := 117 }
def f_X9_longest_49 (x : CS) (a3 : Int32) : Option (Int32) := some a3
set_option maxRecDepth 100000 in
set_option maxHeartbeats 4000000 in
theorem t_X9_longest_49 {C : Cx} {K : KE} {y : MS} {R : Int32}  (x : CS) (a3 : Int32) (h : f_X9_longest_49 x a3 = some R) (F : Fx C RX9 cX9_longest 5 rm_X9_longest K) (E : CE C (xf K x y) (some (.int R)) 0 0 (some .int)) : V C 49 [(3, .int a3)] [] (xf K x y) 0 0 := by
  unfold f_X9_longest_49 at h
  refine v_iload_n F (dq dkX9_longest_0 26 rfl) rfl 0 rfl ?_
  have h := Option.some.inj h
  subst h
  exact v_iret F E (dq dkX9_longest_0 27 rfl)
def f_X9_longest_43 (k5 : Int32 → Int32 → Int32 → Int32 → Option (Int32)) (x : CS) (a1 : Int32) (a2 : Int32) (a3 : Int32) (a4 : Int32) : Option (Int32) := k5 a1 a2 a3 (a4 + 1)
set_option maxRecDepth 100000 in
set_option maxHeartbeats 4000000 in
theorem t_X9_longest_43 {C : Cx} {K : KE} {y : MS} {R : Int32}  (k5 : Int32 → Int32 → Int32 → Int32 → Option (Int32)) (x : CS) (a1 : Int32) (a2 : Int32) (a3 : Int32) (a4 : Int32) (hk5 : ∀ (a1 : Int32) (a2 : Int32) (a3 : Int32) (a4 : Int32), k5 a1 a2 a3 a4 = some R → V C 5 [(0, .ref (K.1 + 30)), (1, .int a1), (2, .int a2), (3, .int a3), (4, .int a4)] [] (xf K x y) 0 0) (h : f_X9_longest_43 k5 x a1 a2 a3 a4 = some R) (F : Fx C RX9 cX9_longest 5 rm_X9_longest K) (E : CE C (xf K x y) (some (.int R)) 0 0 (some .int)) : V C 43 [(0, .ref (K.1 + 30)), (1, .int a1), (2, .int a2), (3, .int a3), (4, .int a4)] [] (xf K x y) 0 0 := by
  unfold f_X9_longest_43 at h
  refine v_iinc F (v := a4 + 1) (ls' := [(4, .int (a4 + 1)), (0, .ref (K.1 + 30)), (1, .int a1), (2, .int a2), (3, .int a3)]) (dq dkX9_longest_0 24 rfl) (j := 4) rfl (kv_add ki_1) (by decide) rfl ?_
  refine v_goto F (tgt := 5) (dq dkX9_longest_0 25 rfl) (by decide) ?_
  refine v_sub [1, 2, 3, 4, 0] rfl ?_
  exact hk5 a1 a2 a3 (a4 + 1) h
def f_X9_longest_40 (k5 : Int32 → Int32 → Int32 → Int32 → Option (Int32)) (x : CS) (a1 : Int32) (a2 : Int32) (a4 : Int32) : Option (Int32) := f_X9_longest_43 k5 x a1 a2 a4 a4
set_option maxRecDepth 100000 in
set_option maxHeartbeats 4000000 in
theorem t_X9_longest_40 {C : Cx} {K : KE} {y : MS} {R : Int32}  (k5 : Int32 → Int32 → Int32 → Int32 → Option (Int32)) (x : CS) (a1 : Int32) (a2 : Int32) (a4 : Int32) (hk5 : ∀ (a1 : Int32) (a2 : Int32) (a3 : Int32) (a4 : Int32), k5 a1 a2 a3 a4 = some R → V C 5 [(0, .ref (K.1 + 30)), (1, .int a1), (2, .int a2), (3, .int a3), (4, .int a4)] [] (xf K x y) 0 0) (h : f_X9_longest_40 k5 x a1 a2 a4 = some R) (F : Fx C RX9 cX9_longest 5 rm_X9_longest K) (E : CE C (xf K x y) (some (.int R)) 0 0 (some .int)) : V C 40 [(0, .ref (K.1 + 30)), (1, .int a1), (2, .int a2), (4, .int a4)] [] (xf K x y) 0 0 := by
  unfold f_X9_longest_40 at h
  refine v_iload F (dq dkX9_longest_0 22 rfl) 3 rfl ?_
  refine v_istore_n F (ls' := [(3, .int a4), (0, .ref (K.1 + 30)), (1, .int a1), (2, .int a2), (4, .int a4)]) (dq dkX9_longest_0 23 rfl) rfl (by decide) rfl ?_
  refine v_sub [1, 2, 3, 0, 4] rfl ?_
  exact t_X9_longest_43 k5 x a1 a2 a4 a4 hk5 h F E
def f_X9_longest_5 (x : CS) : Nat → Int32 → Int32 → Int32 → Int32 → Option (Int32)
  | 0, _, _, _, _ => none
  | n + 1, a1, a2, a3, a4 => if a1 ≤ a4 then (f_X9_longest_49 x a3) else (if (gi x 30 3) ≤ a4 then (f_X9_longest_49 x a3) else (if a3 < 0 then (f_X9_longest_40 (f_X9_longest_5 x n) x a1 a2 a4) else ((f_X9_daysBy x a4 a2).bind fun r4 => (f_X9_daysBy x a3 a2).bind fun r6 => if r4 ≤ r6 then (f_X9_longest_43 (f_X9_longest_5 x n) x a1 a2 a3 a4) else (f_X9_longest_40 (f_X9_longest_5 x n) x a1 a2 a4))))
set_option maxRecDepth 100000 in
set_option maxHeartbeats 4000000 in
theorem t_X9_longest_5 {C : Cx} {K : KE} {y : MS} {R : Int32}  (x : CS) (F : Fx C RX9 cX9_longest 5 rm_X9_longest K) (E : CE C (xf K x y) (some (.int R)) 0 0 (some .int)) : ∀ (n : Nat) (a1 : Int32) (a2 : Int32) (a3 : Int32) (a4 : Int32) (h : f_X9_longest_5 x n a1 a2 a3 a4 = some R), V C 5 [(0, .ref (K.1 + 30)), (1, .int a1), (2, .int a2), (3, .int a3), (4, .int a4)] [] (xf K x y) 0 0 := by
  intro n
  induction n with
  | zero => intro a1 a2 a3 a4 h; cases h
  | succ n ih =>
    intro a1 a2 a3 a4 h
    rw [f_X9_longest_5] at h
    refine v_iload F (dq dkX9_longest_0 4 rfl) 4 rfl ?_
    refine v_iload_n F (dq dkX9_longest_0 5 rfl) rfl 1 rfl ?_
    refine v_icmp_ge F (tgt := 49) (dq dkX9_longest_0 6 rfl) (by decide) (fun c1 => ?_) (fun c1 => ?_)
    · rw [if_pos c1] at h
      refine v_sub [3] rfl ?_
      exact t_X9_longest_49 x a3 h F E
    · rw [if_neg c1] at h
      refine v_iload F (dq dkX9_longest_0 7 rfl) 4 rfl ?_
      refine v_aload_n F (dq dkX9_longest_0 8 rfl) rfl 0 rfl ?_
      refine v_get F 30 (xn (by decide)) xc_30 rfl inlX9 3 (by decide) (tc4 _ (List.mem_of_getElem? (i := 13) rfl)) rfl rfl (dq dkX9_longest_0 9 rfl) ?_
      refine v_icmp_ge F (tgt := 49) (dq dkX9_longest_0 10 rfl) (by decide) (fun c2 => ?_) (fun c2 => ?_)
      · rw [if_pos c2] at h
        refine v_sub [3] rfl ?_
        exact t_X9_longest_49 x a3 h F E
      · rw [if_neg c2] at h
        refine v_iload_n F (dq dkX9_longest_0 11 rfl) rfl 3 rfl ?_
        refine v_if_lt F (tgt := 40) (dq dkX9_longest_0 12 rfl) (by decide) (fun c3 => ?_) (fun c3 => ?_)
        · rw [if_pos c3] at h
          refine v_sub [0, 1, 2, 4] rfl ?_
          exact t_X9_longest_40 (f_X9_longest_5 x n) x a1 a2 a4 ih h F E
        · rw [if_neg c3] at h
          refine v_aload_n F (dq dkX9_longest_0 13 rfl) rfl 0 rfl ?_
          refine v_iload F (dq dkX9_longest_0 14 rfl) 4 rfl ?_
          refine v_iload_n F (dq dkX9_longest_0 15 rfl) rfl 2 rfl ?_
          obtain ⟨r4, e5, h⟩ := bd_of h
          refine v_callV 2 F (q := 30) (kc1 := 0) (ks1 := 0) (as := [.int a4, .int a2]) (st := []) (st1 := (.int r4 :: [])) (res := (some (.int r4))) (c_X9_daysBy (l := C.2.1) x y a4 a2 e5) (xn (by decide)) xc_30 rfl (tc30 _ (List.mem_of_getElem? (i := 8) rfl)) (tc23 _ (List.mem_of_getElem? (i := 22) rfl)) (tc23 _ (List.mem_of_getElem? (i := 23) rfl)) (tc2 _ (List.mem_of_getElem? (i := 3) rfl)) (tc24 _ (List.mem_of_getElem? (i := 0) rfl)) (by decide) rfl ⟨rfl, rfl, Nat.le_of_ble_eq_true rfl, Nat.le_of_ble_eq_true rfl⟩ ⟨Nat.le_of_ble_eq_true rfl, Nat.le_of_ble_eq_true rfl⟩ rfl (Nat.le_of_ble_eq_true rfl) rfl rfl rfl (dq dkX9_longest_0 16 rfl) ?_
          refine v_aload_n F (dq dkX9_longest_0 17 rfl) rfl 0 rfl ?_
          refine v_iload_n F (dq dkX9_longest_0 18 rfl) rfl 3 rfl ?_
          refine v_iload_n F (dq dkX9_longest_0 19 rfl) rfl 2 rfl ?_
          obtain ⟨r6, e7, h⟩ := bd_of h
          refine v_callV 2 F (q := 30) (kc1 := 0) (ks1 := 0) (as := [.int a3, .int a2]) (st := [.int r4]) (st1 := (.int r6 :: [.int r4])) (res := (some (.int r6))) (c_X9_daysBy (l := C.2.1) x y a3 a2 e7) (xn (by decide)) xc_30 rfl (tc30 _ (List.mem_of_getElem? (i := 8) rfl)) (tc23 _ (List.mem_of_getElem? (i := 22) rfl)) (tc23 _ (List.mem_of_getElem? (i := 23) rfl)) (tc2 _ (List.mem_of_getElem? (i := 3) rfl)) (tc24 _ (List.mem_of_getElem? (i := 0) rfl)) (by decide) rfl ⟨rfl, rfl, Nat.le_of_ble_eq_true rfl, Nat.le_of_ble_eq_true rfl⟩ ⟨Nat.le_of_ble_eq_true rfl, Nat.le_of_ble_eq_true rfl⟩ rfl (Nat.le_of_ble_eq_true rfl) rfl rfl rfl (dq dkX9_longest_0 20 rfl) ?_
          refine v_icmp_le F (tgt := 43) (dq dkX9_longest_0 21 rfl) (by decide) (fun c8 => ?_) (fun c8 => ?_)
          · rw [if_pos c8] at h
            exact t_X9_longest_43 (f_X9_longest_5 x n) x a1 a2 a3 a4 ih h F E
          · rw [if_neg c8] at h
            refine v_sub [0, 1, 2, 4] rfl ?_
            exact t_X9_longest_40 (f_X9_longest_5 x n) x a1 a2 a4 ih h F E
def f_X9_longest (x : CS) (a1 : Int32) (a2 : Int32) : Option (Int32) := f_X9_longest_5 x 1000 a1 a2 (-1) 0
set_option maxRecDepth 100000 in
set_option maxHeartbeats 4000000 in
theorem c_X9_longest {K : KE} {l : Launch} {R : Int32} (x : CS) (y : MS) (a1 : Int32) (a2 : Int32) (h : f_X9_longest x a1 a2 = some R) : MC K l yX9_longest cX9_longest 5 (some .int) rm_X9_longest 0 0 [.ref (K.1 + 30), .int a1, .int a2] (xf K x y) (xf K x y) (some (.int R)) := by
  unfold f_X9_longest at h
  refine mc_of (ls0 := [(0, .ref (K.1 + 30)), (1, .int a1), (2, .int a2)]) (by decide) (Nat.le_of_ble_eq_true rfl) rfl (fun C hl hnm F E => ?_)
  have F : Fx C RX9 cX9_longest 5 rm_X9_longest K := F
  refine v_iconst F (v := (-1)) (dq dkX9_longest_0 0 rfl) ki_m1 ?_
  refine v_istore_n F (ls' := [(3, .int (-1)), (0, .ref (K.1 + 30)), (1, .int a1), (2, .int a2)]) (dq dkX9_longest_0 1 rfl) rfl (by decide) rfl ?_
  refine v_iconst F (v := 0) (dq dkX9_longest_0 2 rfl) ki_0 ?_
  refine v_istore F (ls' := [(4, .int 0), (3, .int (-1)), (0, .ref (K.1 + 30)), (1, .int a1), (2, .int a2)]) (dq dkX9_longest_0 3 rfl) (by decide) rfl ?_
  refine v_sub [2, 3, 4, 1, 0] rfl ?_
  exact t_X9_longest_5 x F E 1000 a1 a2 (-1) 0 h
def rm_X10_carve : Room := { frames := 4, cells := 0, slots := 0, locals := 95 }
def f_X10_carve (x : CS) (a1 : Int32) (a2 : Int32) (a3 : Int32) : Option (Int32 × CS) := if (b2i (f_X10_isSection a1)) = 0 then (some ((-5), x)) else ((f_X8_takes x 1 a2 a3).bind fun r3 => if (b2i r3) = 0 then (some ((-7), x)) else ((f_X8_of x 1 a2 a1).bind fun r6 => (f_X8_put x 1 a2 a1 a3).bind fun r8 => some (r6, r8)))
set_option maxRecDepth 100000 in
set_option maxHeartbeats 4000000 in
theorem c_X10_carve {K : KE} {l : Launch} {R : Int32 × CS} (x : CS) (y : MS) (a1 : Int32) (a2 : Int32) (a3 : Int32) (h : f_X10_carve x a1 a2 a3 = some R) : MC K l yX10_carve cX10_carve 5 (some .int) rm_X10_carve 0 0 [.ref (K.1 + 0), .int a1, .int a2, .int a3] (xf K x y) (xf K R.2 y) (some (.int R.1)) := by
  unfold f_X10_carve at h
  refine mc_of (ls0 := [(0, .ref (K.1 + 0)), (1, .int a1), (2, .int a2), (3, .int a3)]) (by decide) (Nat.le_of_ble_eq_true rfl) rfl (fun C hl hnm F E => ?_)
  have F : Fx C RX10 cX10_carve 5 rm_X10_carve K := F
  refine v_iload_n F (dq dkX10_carve_0 0 rfl) rfl 1 rfl ?_
  refine v_callS 1 F (kc1 := 0) (ks1 := 0) (as := [.int a1]) (st := []) (st1 := (.int (b2i (f_X10_isSection a1)) :: [])) (res := (some (.int (b2i (f_X10_isSection a1))))) (c_X10_isSection (l := C.2.1) a1) (tc14 _ (List.mem_of_getElem? (i := 0) rfl)) (tc14 _ (List.mem_of_getElem? (i := 1) rfl)) (tc1 _ (List.mem_of_getElem? (i := 2) rfl)) (tc14 _ (List.mem_of_getElem? (i := 2) rfl)) (by decide) rfl ⟨rfl, rfl, Nat.le_of_ble_eq_true rfl, Nat.le_of_ble_eq_true rfl⟩ ⟨Nat.le_of_ble_eq_true rfl, Nat.le_of_ble_eq_true rfl⟩ rfl (Nat.le_of_ble_eq_true rfl) rfl rfl rfl (dq dkX10_carve_0 1 rfl) ?_
  refine v_if_ne F (tgt := 10) (dq dkX10_carve_0 2 rfl) (by decide) (fun c2 => ?_) (fun c2 => ?_)
  · rw [if_neg c2] at h
    refine v_aload_n F (dq dkX10_carve_0 5 rfl) rfl 0 rfl ?_
    refine v_get F 0 (xn (by decide)) xc_0 rfl inlX10 0 (by decide) (tc1 _ (List.mem_of_getElem? (i := 16) rfl)) rfl rfl (dq dkX10_carve_0 6 rfl) ?_
    refine v_iload_n F (dq dkX10_carve_0 7 rfl) rfl 2 rfl ?_
    refine v_iload_n F (dq dkX10_carve_0 8 rfl) rfl 3 rfl ?_
    obtain ⟨r3, e4, h⟩ := bd_of h
    refine v_callV 2 F (q := 1) (kc1 := 0) (ks1 := 0) (as := [.int a2, .int a3]) (st := []) (st1 := (.int (b2i r3) :: [])) (res := (some (.int (b2i r3)))) (c_X8_takes (l := C.2.1) x y 1 a2 a3 e4) (xn (by decide)) xc_1 rfl (tc14 _ (List.mem_of_getElem? (i := 4) rfl)) (tc14 _ (List.mem_of_getElem? (i := 5) rfl)) (tc14 _ (List.mem_of_getElem? (i := 6) rfl)) (tc1 _ (List.mem_of_getElem? (i := 15) rfl)) (tc14 _ (List.mem_of_getElem? (i := 7) rfl)) (by decide) rfl ⟨rfl, rfl, Nat.le_of_ble_eq_true rfl, Nat.le_of_ble_eq_true rfl⟩ ⟨Nat.le_of_ble_eq_true rfl, Nat.le_of_ble_eq_true rfl⟩ rfl (Nat.le_of_ble_eq_true rfl) rfl rfl rfl (dq dkX10_carve_0 9 rfl) ?_
    refine v_if_ne F (tgt := 25) (dq dkX10_carve_0 10 rfl) (by decide) (fun c5 => ?_) (fun c5 => ?_)
    · rw [if_neg c5] at h
      refine v_aload_n F (dq dkX10_carve_0 13 rfl) rfl 0 rfl ?_
      refine v_get F 0 (xn (by decide)) xc_0 rfl inlX10 0 (by decide) (tc1 _ (List.mem_of_getElem? (i := 16) rfl)) rfl rfl (dq dkX10_carve_0 14 rfl) ?_
      refine v_iload_n F (dq dkX10_carve_0 15 rfl) rfl 2 rfl ?_
      refine v_iload_n F (dq dkX10_carve_0 16 rfl) rfl 1 rfl ?_
      obtain ⟨r6, e7, h⟩ := bd_of h
      refine v_callV 2 F (q := 1) (kc1 := 0) (ks1 := 0) (as := [.int a2, .int a1]) (st := []) (st1 := (.int r6 :: [])) (res := (some (.int r6))) (c_X8_of (l := C.2.1) x y 1 a2 a1 e7) (xn (by decide)) xc_1 rfl (tc14 _ (List.mem_of_getElem? (i := 10) rfl)) (tc14 _ (List.mem_of_getElem? (i := 11) rfl)) (tc14 _ (List.mem_of_getElem? (i := 12) rfl)) (tc1 _ (List.mem_of_getElem? (i := 15) rfl)) (tc14 _ (List.mem_of_getElem? (i := 13) rfl)) (by decide) rfl ⟨rfl, rfl, Nat.le_of_ble_eq_true rfl, Nat.le_of_ble_eq_true rfl⟩ ⟨Nat.le_of_ble_eq_true rfl, Nat.le_of_ble_eq_true rfl⟩ rfl (Nat.le_of_ble_eq_true rfl) rfl rfl rfl (dq dkX10_carve_0 17 rfl) ?_
      refine v_istore F (ls' := [(4, .int r6), (0, .ref (K.1 + 0)), (1, .int a1), (2, .int a2), (3, .int a3)]) (dq dkX10_carve_0 18 rfl) (by decide) rfl ?_
      refine v_aload_n F (dq dkX10_carve_0 19 rfl) rfl 1 rfl ?_
      refine v_get F 0 (xn (by decide)) xc_0 rfl inlX10 0 (by decide) (tc1 _ (List.mem_of_getElem? (i := 16) rfl)) rfl rfl (dq dkX10_carve_0 20 rfl) ?_
      refine v_iload_n F (dq dkX10_carve_0 21 rfl) rfl 3 rfl ?_
      refine v_iload_n F (dq dkX10_carve_0 22 rfl) rfl 2 rfl ?_
      refine v_iload_n F (dq dkX10_carve_0 23 rfl) rfl 4 rfl ?_
      obtain ⟨r8, e9, h⟩ := bd_of h
      refine v_callV 3 F (q := 1) (kc1 := 0) (ks1 := 0) (as := [.int a2, .int a1, .int a3]) (st := []) (st1 := []) (res := none) (c_X8_put (l := C.2.1) x y 1 a2 a1 a3 e9) (xn (by decide)) xc_1 rfl (tc14 _ (List.mem_of_getElem? (i := 14) rfl)) (tc14 _ (List.mem_of_getElem? (i := 15) rfl)) (tc14 _ (List.mem_of_getElem? (i := 16) rfl)) (tc1 _ (List.mem_of_getElem? (i := 15) rfl)) (tc14 _ (List.mem_of_getElem? (i := 17) rfl)) (by decide) rfl ⟨rfl, rfl, Nat.le_of_ble_eq_true rfl, Nat.le_of_ble_eq_true rfl⟩ ⟨Nat.le_of_ble_eq_true rfl, Nat.le_of_ble_eq_true rfl⟩ rfl (Nat.le_of_ble_eq_true rfl) rfl rfl rfl (dq dkX10_carve_0 24 rfl) ?_
      refine v_iload F (dq dkX10_carve_0 25 rfl) 0 rfl ?_
      have h := Option.some.inj h
      subst h
      exact v_iret F E (dq dkX10_carve_0 26 rfl)
    · rw [if_pos c5] at h
      refine v_bipush F (v := (-7)) (dq dkX10_carve_0 11 rfl) kb_m7 ?_
      have h := Option.some.inj h
      subst h
      exact v_iret F E (dq dkX10_carve_0 12 rfl)
  · rw [if_pos c2] at h
    refine v_bipush F (v := (-5)) (dq dkX10_carve_0 3 rfl) kb_m5 ?_
    have h := Option.some.inj h
    subst h
    exact v_iret F E (dq dkX10_carve_0 4 rfl)
def rm_X10_carved : Room := { frames := 4, cells := 0, slots := 0, locals := 94 }
def f_X10_carved (x : CS) (a1 : Int32) (a2 : Int32) : Option (Int32) := if (b2i (f_X10_isSection a1)) = 0 then (some (-5)) else (if (b2i (f_X10_within a2 0 5)) = 0 then (some (-7)) else ((f_X8_of x 1 a2 a1).bind fun r5 => some r5))
set_option maxRecDepth 100000 in
set_option maxHeartbeats 4000000 in
theorem c_X10_carved {K : KE} {l : Launch} {R : Int32} (x : CS) (y : MS) (a1 : Int32) (a2 : Int32) (h : f_X10_carved x a1 a2 = some R) : MC K l yX10_carved cX10_carved 3 (some .int) rm_X10_carved 0 0 [.ref (K.1 + 0), .int a1, .int a2] (xf K x y) (xf K x y) (some (.int R)) := by
  unfold f_X10_carved at h
  refine mc_of (ls0 := [(0, .ref (K.1 + 0)), (1, .int a1), (2, .int a2)]) (by decide) (Nat.le_of_ble_eq_true rfl) rfl (fun C hl hnm F E => ?_)
  have F : Fx C RX10 cX10_carved 3 rm_X10_carved K := F
  refine v_iload_n F (dq dkX10_carved_0 0 rfl) rfl 1 rfl ?_
  refine v_callS 1 F (kc1 := 0) (ks1 := 0) (as := [.int a1]) (st := []) (st1 := (.int (b2i (f_X10_isSection a1)) :: [])) (res := (some (.int (b2i (f_X10_isSection a1))))) (c_X10_isSection (l := C.2.1) a1) (tc14 _ (List.mem_of_getElem? (i := 0) rfl)) (tc14 _ (List.mem_of_getElem? (i := 1) rfl)) (tc1 _ (List.mem_of_getElem? (i := 2) rfl)) (tc14 _ (List.mem_of_getElem? (i := 2) rfl)) (by decide) rfl ⟨rfl, rfl, Nat.le_of_ble_eq_true rfl, Nat.le_of_ble_eq_true rfl⟩ ⟨Nat.le_of_ble_eq_true rfl, Nat.le_of_ble_eq_true rfl⟩ rfl (Nat.le_of_ble_eq_true rfl) rfl rfl rfl (dq dkX10_carved_0 1 rfl) ?_
  refine v_if_ne F (tgt := 10) (dq dkX10_carved_0 2 rfl) (by decide) (fun c2 => ?_) (fun c2 => ?_)
  · rw [if_neg c2] at h
    refine v_iload_n F (dq dkX10_carved_0 5 rfl) rfl 2 rfl ?_
    refine v_iconst F (v := 0) (dq dkX10_carved_0 6 rfl) ki_0 ?_
    refine v_iconst F (v := 5) (dq dkX10_carved_0 7 rfl) ki_5 ?_
    refine v_callS 3 F (kc1 := 0) (ks1 := 0) (as := [.int a2, .int 0, .int 5]) (st := []) (st1 := (.int (b2i (f_X10_within a2 0 5)) :: [])) (res := (some (.int (b2i (f_X10_within a2 0 5))))) (c_X10_within (l := C.2.1) a2 0 5) (tc14 _ (List.mem_of_getElem? (i := 3) rfl)) (tc8 _ (List.mem_of_getElem? (i := 15) rfl)) (tc1 _ (List.mem_of_getElem? (i := 2) rfl)) (tc8 _ (List.mem_of_getElem? (i := 16) rfl)) (by decide) rfl ⟨rfl, rfl, Nat.le_of_ble_eq_true rfl, Nat.le_of_ble_eq_true rfl⟩ ⟨Nat.le_of_ble_eq_true rfl, Nat.le_of_ble_eq_true rfl⟩ rfl (Nat.le_of_ble_eq_true rfl) rfl rfl rfl (dq dkX10_carved_0 8 rfl) ?_
    refine v_if_eq F (tgt := 31) (dq dkX10_carved_0 9 rfl) (by decide) (fun c4 => ?_) (fun c4 => ?_)
    · rw [if_pos c4] at h
      refine v_bipush F (v := (-7)) (dq dkX10_carved_0 16 rfl) kb_m7 ?_
      have h := Option.some.inj h
      subst h
      exact v_iret F E (dq dkX10_carved_0 17 rfl)
    · rw [if_neg c4] at h
      refine v_aload_n F (dq dkX10_carved_0 10 rfl) rfl 0 rfl ?_
      refine v_get F 0 (xn (by decide)) xc_0 rfl inlX10 0 (by decide) (tc1 _ (List.mem_of_getElem? (i := 16) rfl)) rfl rfl (dq dkX10_carved_0 11 rfl) ?_
      refine v_iload_n F (dq dkX10_carved_0 12 rfl) rfl 2 rfl ?_
      refine v_iload_n F (dq dkX10_carved_0 13 rfl) rfl 1 rfl ?_
      obtain ⟨r5, e6, h⟩ := bd_of h
      refine v_callV 2 F (q := 1) (kc1 := 0) (ks1 := 0) (as := [.int a2, .int a1]) (st := []) (st1 := (.int r5 :: [])) (res := (some (.int r5))) (c_X8_of (l := C.2.1) x y 1 a2 a1 e6) (xn (by decide)) xc_1 rfl (tc14 _ (List.mem_of_getElem? (i := 10) rfl)) (tc14 _ (List.mem_of_getElem? (i := 11) rfl)) (tc14 _ (List.mem_of_getElem? (i := 12) rfl)) (tc1 _ (List.mem_of_getElem? (i := 15) rfl)) (tc14 _ (List.mem_of_getElem? (i := 13) rfl)) (by decide) rfl ⟨rfl, rfl, Nat.le_of_ble_eq_true rfl, Nat.le_of_ble_eq_true rfl⟩ ⟨Nat.le_of_ble_eq_true rfl, Nat.le_of_ble_eq_true rfl⟩ rfl (Nat.le_of_ble_eq_true rfl) rfl rfl rfl (dq dkX10_carved_0 14 rfl) ?_
      refine v_goto F (tgt := 33) (dq dkX10_carved_0 15 rfl) (by decide) ?_
      have h := Option.some.inj h
      subst h
      exact v_iret F E (dq dkX10_carved_0 17 rfl)
  · rw [if_pos c2] at h
    refine v_bipush F (v := (-5)) (dq dkX10_carved_0 3 rfl) kb_m5 ?_
    have h := Option.some.inj h
    subst h
    exact v_iret F E (dq dkX10_carved_0 4 rfl)
def rm_X10_set : Room := { frames := 3, cells := 0, slots := 0, locals := 74 }
def f_X10_set (x : CS) (a1 : Int32) (a2 : Int32) : Option (Int32 × CS) := if (b2i (f_X10_within a1 0 4)) = 0 then (some ((-1), x)) else ((f_X8_takesSetting x 1 a1 a2).bind fun r3 => if (b2i r3) = 0 then (some ((-2), x)) else ((f_X8_setting x 1 a1).bind fun r6 => (f_X8_putSetting x 1 a1 a2).bind fun r8 => some (r6, r8)))
set_option maxRecDepth 100000 in
set_option maxHeartbeats 4000000 in
theorem c_X10_set {K : KE} {l : Launch} {R : Int32 × CS} (x : CS) (y : MS) (a1 : Int32) (a2 : Int32) (h : f_X10_set x a1 a2 = some R) : MC K l yX10_set cX10_set 4 (some .int) rm_X10_set 0 0 [.ref (K.1 + 0), .int a1, .int a2] (xf K x y) (xf K R.2 y) (some (.int R.1)) := by
  unfold f_X10_set at h
  refine mc_of (ls0 := [(0, .ref (K.1 + 0)), (1, .int a1), (2, .int a2)]) (by decide) (Nat.le_of_ble_eq_true rfl) rfl (fun C hl hnm F E => ?_)
  have F : Fx C RX10 cX10_set 4 rm_X10_set K := F
  refine v_iload_n F (dq dkX10_set_0 0 rfl) rfl 1 rfl ?_
  refine v_iconst F (v := 0) (dq dkX10_set_0 1 rfl) ki_0 ?_
  refine v_iconst F (v := 4) (dq dkX10_set_0 2 rfl) ki_4 ?_
  refine v_callS 3 F (kc1 := 0) (ks1 := 0) (as := [.int a1, .int 0, .int 4]) (st := []) (st1 := (.int (b2i (f_X10_within a1 0 4)) :: [])) (res := (some (.int (b2i (f_X10_within a1 0 4))))) (c_X10_within (l := C.2.1) a1 0 4) (tc14 _ (List.mem_of_getElem? (i := 3) rfl)) (tc8 _ (List.mem_of_getElem? (i := 15) rfl)) (tc1 _ (List.mem_of_getElem? (i := 2) rfl)) (tc8 _ (List.mem_of_getElem? (i := 16) rfl)) (by decide) rfl ⟨rfl, rfl, Nat.le_of_ble_eq_true rfl, Nat.le_of_ble_eq_true rfl⟩ ⟨Nat.le_of_ble_eq_true rfl, Nat.le_of_ble_eq_true rfl⟩ rfl (Nat.le_of_ble_eq_true rfl) rfl rfl rfl (dq dkX10_set_0 3 rfl) ?_
  refine v_if_ne F (tgt := 11) (dq dkX10_set_0 4 rfl) (by decide) (fun c2 => ?_) (fun c2 => ?_)
  · rw [if_neg c2] at h
    refine v_aload_n F (dq dkX10_set_0 7 rfl) rfl 0 rfl ?_
    refine v_get F 0 (xn (by decide)) xc_0 rfl inlX10 0 (by decide) (tc1 _ (List.mem_of_getElem? (i := 16) rfl)) rfl rfl (dq dkX10_set_0 8 rfl) ?_
    refine v_iload_n F (dq dkX10_set_0 9 rfl) rfl 1 rfl ?_
    refine v_iload_n F (dq dkX10_set_0 10 rfl) rfl 2 rfl ?_
    obtain ⟨r3, e4, h⟩ := bd_of h
    refine v_callV 2 F (q := 1) (kc1 := 0) (ks1 := 0) (as := [.int a1, .int a2]) (st := []) (st1 := (.int (b2i r3) :: [])) (res := (some (.int (b2i r3)))) (c_X8_takesSetting (l := C.2.1) x y 1 a1 a2 e4) (xn (by decide)) xc_1 rfl (tc15 _ (List.mem_of_getElem? (i := 16) rfl)) (tc15 _ (List.mem_of_getElem? (i := 17) rfl)) (tc15 _ (List.mem_of_getElem? (i := 18) rfl)) (tc1 _ (List.mem_of_getElem? (i := 15) rfl)) (tc15 _ (List.mem_of_getElem? (i := 19) rfl)) (by decide) rfl ⟨rfl, rfl, Nat.le_of_ble_eq_true rfl, Nat.le_of_ble_eq_true rfl⟩ ⟨Nat.le_of_ble_eq_true rfl, Nat.le_of_ble_eq_true rfl⟩ rfl (Nat.le_of_ble_eq_true rfl) rfl rfl rfl (dq dkX10_set_0 11 rfl) ?_
    refine v_if_ne F (tgt := 26) (dq dkX10_set_0 12 rfl) (by decide) (fun c5 => ?_) (fun c5 => ?_)
    · rw [if_neg c5] at h
      refine v_aload_n F (dq dkX10_set_0 15 rfl) rfl 0 rfl ?_
      refine v_get F 0 (xn (by decide)) xc_0 rfl inlX10 0 (by decide) (tc1 _ (List.mem_of_getElem? (i := 16) rfl)) rfl rfl (dq dkX10_set_0 16 rfl) ?_
      refine v_iload_n F (dq dkX10_set_0 17 rfl) rfl 1 rfl ?_
      obtain ⟨r6, e7, h⟩ := bd_of h
      refine v_callV 1 F (q := 1) (kc1 := 0) (ks1 := 0) (as := [.int a1]) (st := []) (st1 := (.int r6 :: [])) (res := (some (.int r6))) (c_X8_setting (l := C.2.1) x y 1 a1 e7) (xn (by decide)) xc_1 rfl (tc15 _ (List.mem_of_getElem? (i := 22) rfl)) (tc15 _ (List.mem_of_getElem? (i := 23) rfl)) (tc16 _ (List.mem_of_getElem? (i := 0) rfl)) (tc1 _ (List.mem_of_getElem? (i := 15) rfl)) (tc16 _ (List.mem_of_getElem? (i := 1) rfl)) (by decide) rfl ⟨rfl, rfl, Nat.le_of_ble_eq_true rfl, Nat.le_of_ble_eq_true rfl⟩ ⟨Nat.le_of_ble_eq_true rfl, Nat.le_of_ble_eq_true rfl⟩ rfl (Nat.le_of_ble_eq_true rfl) rfl rfl rfl (dq dkX10_set_0 18 rfl) ?_
      refine v_istore_n F (ls' := [(3, .int r6), (0, .ref (K.1 + 0)), (1, .int a1), (2, .int a2)]) (dq dkX10_set_0 19 rfl) rfl (by decide) rfl ?_
      refine v_aload_n F (dq dkX10_set_0 20 rfl) rfl 1 rfl ?_
      refine v_get F 0 (xn (by decide)) xc_0 rfl inlX10 0 (by decide) (tc1 _ (List.mem_of_getElem? (i := 16) rfl)) rfl rfl (dq dkX10_set_0 21 rfl) ?_
      refine v_iload_n F (dq dkX10_set_0 22 rfl) rfl 2 rfl ?_
      refine v_iload_n F (dq dkX10_set_0 23 rfl) rfl 3 rfl ?_
      obtain ⟨r8, e9, h⟩ := bd_of h
      refine v_callV 2 F (q := 1) (kc1 := 0) (ks1 := 0) (as := [.int a1, .int a2]) (st := []) (st1 := []) (res := none) (c_X8_putSetting (l := C.2.1) x y 1 a1 a2 e9) (xn (by decide)) xc_1 rfl (tc16 _ (List.mem_of_getElem? (i := 2) rfl)) (tc16 _ (List.mem_of_getElem? (i := 3) rfl)) (tc16 _ (List.mem_of_getElem? (i := 4) rfl)) (tc1 _ (List.mem_of_getElem? (i := 15) rfl)) (tc16 _ (List.mem_of_getElem? (i := 5) rfl)) (by decide) rfl ⟨rfl, rfl, Nat.le_of_ble_eq_true rfl, Nat.le_of_ble_eq_true rfl⟩ ⟨Nat.le_of_ble_eq_true rfl, Nat.le_of_ble_eq_true rfl⟩ rfl (Nat.le_of_ble_eq_true rfl) rfl rfl rfl (dq dkX10_set_0 24 rfl) ?_
      refine v_iload_n F (dq dkX10_set_0 25 rfl) rfl 0 rfl ?_
      have h := Option.some.inj h
      subst h
      exact v_iret F E (dq dkX10_set_0 26 rfl)
    · rw [if_pos c5] at h
      refine v_bipush F (v := (-2)) (dq dkX10_set_0 13 rfl) kb_m2 ?_
      have h := Option.some.inj h
      subst h
      exact v_iret F E (dq dkX10_set_0 14 rfl)
  · rw [if_pos c2] at h
    refine v_iconst F (v := (-1)) (dq dkX10_set_0 5 rfl) ki_m1 ?_
    have h := Option.some.inj h
    subst h
    exact v_iret F E (dq dkX10_set_0 6 rfl)
def rm_X10_count : Room := { frames := 3, cells := 0, slots := 0, locals := 73 }
def f_X10_count_56 (x : CS) (a1 : Int32) : Option (Int32) := (f_X8_setting x 1 a1).bind fun r1 => some r1
set_option maxRecDepth 100000 in
set_option maxHeartbeats 4000000 in
theorem t_X10_count_56 {C : Cx} {K : KE} {y : MS} {R : Int32}  (x : CS) (a1 : Int32) (h : f_X10_count_56 x a1 = some R) (F : Fx C RX10 cX10_count 2 rm_X10_count K) (E : CE C (xf K x y) (some (.int R)) 0 0 (some .int)) : V C 56 [(0, .ref (K.1 + 0)), (1, .int a1)] [] (xf K x y) 0 0 := by
  unfold f_X10_count_56 at h
  refine v_aload_n F (dq dkX10_count_0 2 rfl) rfl 0 rfl ?_
  refine v_get F 0 (xn (by decide)) xc_0 rfl inlX10 0 (by decide) (tc1 _ (List.mem_of_getElem? (i := 16) rfl)) rfl rfl (dq dkX10_count_0 3 rfl) ?_
  refine v_iload_n F (dq dkX10_count_0 4 rfl) rfl 1 rfl ?_
  obtain ⟨r1, e2, h⟩ := bd_of h
  refine v_callV 1 F (q := 1) (kc1 := 0) (ks1 := 0) (as := [.int a1]) (st := []) (st1 := (.int r1 :: [])) (res := (some (.int r1))) (c_X8_setting (l := C.2.1) x y 1 a1 e2) (xn (by decide)) xc_1 rfl (tc15 _ (List.mem_of_getElem? (i := 22) rfl)) (tc15 _ (List.mem_of_getElem? (i := 23) rfl)) (tc16 _ (List.mem_of_getElem? (i := 0) rfl)) (tc1 _ (List.mem_of_getElem? (i := 15) rfl)) (tc16 _ (List.mem_of_getElem? (i := 1) rfl)) (by decide) rfl ⟨rfl, rfl, Nat.le_of_ble_eq_true rfl, Nat.le_of_ble_eq_true rfl⟩ ⟨Nat.le_of_ble_eq_true rfl, Nat.le_of_ble_eq_true rfl⟩ rfl (Nat.le_of_ble_eq_true rfl) rfl rfl rfl (dq dkX10_count_0 5 rfl) ?_
  have h := Option.some.inj h
  subst h
  exact v_iret F E (dq dkX10_count_0 6 rfl)
def f_X10_count (x : CS) (a1 : Int32) : Option (Int32) := if a1 = 0 then (f_X10_count_56 x a1) else (if a1 = 1 then (f_X10_count_56 x a1) else (if a1 = 2 then (f_X10_count_56 x a1) else (if a1 = 3 then (f_X10_count_56 x a1) else (if a1 = 4 then (f_X10_count_56 x a1) else (if a1 = 5 then (some (gi x 30 3)) else (if a1 = 6 then (some (gi x 34 1)) else (if a1 = 7 then (some (gi x 10 3)) else (if a1 = 8 then (some (gi x 1 2)) else (if a1 = 9 then (some (gi x 26 1)) else (some (-2)))))))))))
set_option maxRecDepth 100000 in
set_option maxHeartbeats 4000000 in
theorem c_X10_count {K : KE} {l : Launch} {R : Int32} (x : CS) (y : MS) (a1 : Int32) (h : f_X10_count x a1 = some R) : MC K l yX10_count cX10_count 2 (some .int) rm_X10_count 0 0 [.ref (K.1 + 0), .int a1] (xf K x y) (xf K x y) (some (.int R)) := by
  unfold f_X10_count at h
  refine mc_of (ls0 := [(0, .ref (K.1 + 0)), (1, .int a1)]) (by decide) (Nat.le_of_ble_eq_true rfl) rfl (fun C hl hnm F E => ?_)
  have F : Fx C RX10 cX10_count 2 rm_X10_count K := F
  refine v_iload_n F (dq dkX10_count_0 0 rfl) rfl 1 rfl ?_
  by_cases c3 : a1 = 0
  · rw [if_pos c3] at h
    refine v_tblIn F (off := 55) (tgt := 56) (dq dkX10_count_0 1 rfl) (by rw [c3]; decide) (by rw [c3]; decide) (by rw [c3]; rfl) (by decide) ?_
    exact t_X10_count_56 x a1 h F E
  rw [if_neg c3] at h
  by_cases c4 : a1 = 1
  · rw [if_pos c4] at h
    refine v_tblIn F (off := 55) (tgt := 56) (dq dkX10_count_0 1 rfl) (by rw [c4]; decide) (by rw [c4]; decide) (by rw [c4]; rfl) (by decide) ?_
    exact t_X10_count_56 x a1 h F E
  rw [if_neg c4] at h
  by_cases c5 : a1 = 2
  · rw [if_pos c5] at h
    refine v_tblIn F (off := 55) (tgt := 56) (dq dkX10_count_0 1 rfl) (by rw [c5]; decide) (by rw [c5]; decide) (by rw [c5]; rfl) (by decide) ?_
    exact t_X10_count_56 x a1 h F E
  rw [if_neg c5] at h
  by_cases c6 : a1 = 3
  · rw [if_pos c6] at h
    refine v_tblIn F (off := 55) (tgt := 56) (dq dkX10_count_0 1 rfl) (by rw [c6]; decide) (by rw [c6]; decide) (by rw [c6]; rfl) (by decide) ?_
    exact t_X10_count_56 x a1 h F E
  rw [if_neg c6] at h
  by_cases c7 : a1 = 4
  · rw [if_pos c7] at h
    refine v_tblIn F (off := 55) (tgt := 56) (dq dkX10_count_0 1 rfl) (by rw [c7]; decide) (by rw [c7]; decide) (by rw [c7]; rfl) (by decide) ?_
    exact t_X10_count_56 x a1 h F E
  rw [if_neg c7] at h
  by_cases c8 : a1 = 5
  · rw [if_pos c8] at h
    refine v_tblIn F (off := 64) (tgt := 65) (dq dkX10_count_0 1 rfl) (by rw [c8]; decide) (by rw [c8]; decide) (by rw [c8]; rfl) (by decide) ?_
    refine v_aload_n F (dq dkX10_count_0 7 rfl) rfl 0 rfl ?_
    refine v_get F 0 (xn (by decide)) xc_0 rfl inlX10 3 (by decide) (tc2 _ (List.mem_of_getElem? (i := 4) rfl)) rfl rfl (dq dkX10_count_0 8 rfl) ?_
    refine v_getN F 30 (xn (by decide)) xc_30 rfl inlX9 3 (by decide) (List.mem_of_getElem? (i := 6) rfl) rfl rfl (dq dkX10_count_0 9 rfl) ?_
    have h := Option.some.inj h
    subst h
    exact v_iret F E (dq dkX10_count_0 10 rfl)
  rw [if_neg c8] at h
  by_cases c9 : a1 = 6
  · rw [if_pos c9] at h
    refine v_tblIn F (off := 72) (tgt := 73) (dq dkX10_count_0 1 rfl) (by rw [c9]; decide) (by rw [c9]; decide) (by rw [c9]; rfl) (by decide) ?_
    refine v_aload_n F (dq dkX10_count_0 11 rfl) rfl 0 rfl ?_
    refine v_get F 0 (xn (by decide)) xc_0 rfl inlX10 4 (by decide) (tc2 _ (List.mem_of_getElem? (i := 8) rfl)) rfl rfl (dq dkX10_count_0 12 rfl) ?_
    refine v_getN F 34 (xn (by decide)) xc_34 rfl inlX1 1 (by decide) (List.mem_of_getElem? (i := 7) rfl) rfl rfl (dq dkX10_count_0 13 rfl) ?_
    have h := Option.some.inj h
    subst h
    exact v_iret F E (dq dkX10_count_0 14 rfl)
  rw [if_neg c9] at h
  by_cases c10 : a1 = 7
  · rw [if_pos c10] at h
    refine v_tblIn F (off := 80) (tgt := 81) (dq dkX10_count_0 1 rfl) (by rw [c10]; decide) (by rw [c10]; decide) (by rw [c10]; rfl) (by decide) ?_
    refine v_aload_n F (dq dkX10_count_0 15 rfl) rfl 0 rfl ?_
    refine v_get F 0 (xn (by decide)) xc_0 rfl inlX10 1 (by decide) (tc1 _ (List.mem_of_getElem? (i := 20) rfl)) rfl rfl (dq dkX10_count_0 16 rfl) ?_
    refine v_getN F 10 (xn (by decide)) xc_10 rfl inlX3 3 (by decide) (List.mem_of_getElem? (i := 2) rfl) rfl rfl (dq dkX10_count_0 17 rfl) ?_
    have h := Option.some.inj h
    subst h
    exact v_iret F E (dq dkX10_count_0 18 rfl)
  rw [if_neg c10] at h
  by_cases c11 : a1 = 8
  · rw [if_pos c11] at h
    refine v_tblIn F (off := 88) (tgt := 89) (dq dkX10_count_0 1 rfl) (by rw [c11]; decide) (by rw [c11]; decide) (by rw [c11]; rfl) (by decide) ?_
    refine v_aload_n F (dq dkX10_count_0 19 rfl) rfl 0 rfl ?_
    refine v_get F 0 (xn (by decide)) xc_0 rfl inlX10 0 (by decide) (tc1 _ (List.mem_of_getElem? (i := 16) rfl)) rfl rfl (dq dkX10_count_0 20 rfl) ?_
    refine v_getN F 1 (xn (by decide)) xc_1 rfl inlX8 2 (by decide) (List.mem_of_getElem? (i := 1) rfl) rfl rfl (dq dkX10_count_0 21 rfl) ?_
    have h := Option.some.inj h
    subst h
    exact v_iret F E (dq dkX10_count_0 22 rfl)
  rw [if_neg c11] at h
  by_cases c12 : a1 = 9
  · rw [if_pos c12] at h
    refine v_tblIn F (off := 96) (tgt := 97) (dq dkX10_count_0 1 rfl) (by rw [c12]; decide) (by rw [c12]; decide) (by rw [c12]; rfl) (by decide) ?_
    refine v_aload_n F (dq dkX10_count_0 23 rfl) rfl 0 rfl ?_
    refine v_get F 0 (xn (by decide)) xc_0 rfl inlX10 2 (by decide) (tc2 _ (List.mem_of_getElem? (i := 0) rfl)) rfl rfl (dq dkX10_count_0 24 rfl) ?_
    refine v_getN F 26 (xn (by decide)) xc_26 rfl inlX6 1 (by decide) (List.mem_of_getElem? (i := 3) rfl) rfl rfl (dq dkX10_count_0 25 rfl) ?_
    have h := Option.some.inj h
    subst h
    exact v_iret F E (dq dkX10_count_0 26 rfl)
  rw [if_neg c12] at h
  have zc3 := lv_neT c3 (a := 0) (by decide)
  have zc4 := lv_neT c4 (a := 1) (by decide)
  have zc5 := lv_neT c5 (a := 2) (by decide)
  have zc6 := lv_neT c6 (a := 3) (by decide)
  have zc7 := lv_neT c7 (a := 4) (by decide)
  have zc8 := lv_neT c8 (a := 5) (by decide)
  have zc9 := lv_neT c9 (a := 6) (by decide)
  have zc10 := lv_neT c10 (a := 7) (by decide)
  have zc11 := lv_neT c11 (a := 8) (by decide)
  have zc12 := lv_neT c12 (a := 9) (by decide)
  refine v_tblOut F (tgt := 105) (dq dkX10_count_0 1 rfl) (by omega) (by decide) ?_
  refine v_bipush F (v := (-2)) (dq dkX10_count_0 27 rfl) kb_m2 ?_
  have h := Option.some.inj h
  subst h
  exact v_iret F E (dq dkX10_count_0 28 rfl)
def rm_X10_feed : Room := { frames := 2, cells := 0, slots := 0, locals := 52 }
def f_X10_feed_36 : Nat → CS → Int64 → Int32 → Option (Int32 × CS)
  | 0, _, _, _ => none
  | n + 1, x, a1, a4 => if a4 < 0 then (some (gi x 26 1, x)) else ((f_X6_append x ((((a1.toUInt64 >>> ((8 * a4).toInt64.toUInt64 &&& Int64.toUInt64 63)).toInt64).toInt32) &&& 255)).bind fun r2 => (f_X10_feed_36 n) r2 a1 (a4 + (-1)))
set_option maxRecDepth 100000 in
set_option maxHeartbeats 4000000 in
theorem t_X10_feed_36 {C : Cx} {K : KE} {y : MS} {R : Int32 × CS}  (F : Fx C RX10 cX10_feed 5 rm_X10_feed K) (E : CE C (xf K R.2 y) (some (.int R.1)) 0 0 (some .int)) : ∀ (n : Nat) (x : CS) (a1 : Int64) (a4 : Int32) (h : f_X10_feed_36 n x a1 a4 = some R), V C 36 [(0, .ref (K.1 + 0)), (1, .long a1), (4, .int a4)] [] (xf K x y) 0 0 := by
  intro n
  induction n with
  | zero => intro x a1 a4 h; cases h
  | succ n ih =>
    intro x a1 a4 h
    rw [f_X10_feed_36] at h
    refine v_iload F (dq dkX10_feed_0 20 rfl) 2 rfl ?_
    refine v_if_lt F (tgt := 66) (dq dkX10_feed_0 21 rfl) (by decide) (fun c1 => ?_) (fun c1 => ?_)
    · rw [if_pos c1] at h
      refine v_aload_n F (dq dkX10_feed_0 35 rfl) rfl 0 rfl ?_
      refine v_get F 0 (xn (by decide)) xc_0 rfl inlX10 2 (by decide) (tc2 _ (List.mem_of_getElem? (i := 0) rfl)) rfl rfl (dq dkX10_feed_0 36 rfl) ?_
      refine v_getN F 26 (xn (by decide)) xc_26 rfl inlX6 1 (by decide) (List.mem_of_getElem? (i := 3) rfl) rfl rfl (dq dkX10_feed_0 37 rfl) ?_
      have h := Option.some.inj h
      subst h
      exact v_iret F E (dq dkX10_feed_0 38 rfl)
    · rw [if_neg c1] at h
      refine v_aload_n F (dq dkX10_feed_0 22 rfl) rfl 0 rfl ?_
      refine v_get F 0 (xn (by decide)) xc_0 rfl inlX10 2 (by decide) (tc2 _ (List.mem_of_getElem? (i := 0) rfl)) rfl rfl (dq dkX10_feed_0 23 rfl) ?_
      refine v_lload_n F (dq dkX10_feed_0 24 rfl) rfl 1 rfl ?_
      refine v_bipush F (v := 8) (dq dkX10_feed_0 25 rfl) kb_8 ?_
      refine v_iload F (dq dkX10_feed_0 26 rfl) 2 rfl ?_
      refine v_imul F (dq dkX10_feed_0 27 rfl) ?_
      refine v_lushr F (dq dkX10_feed_0 28 rfl) ?_
      refine v_l2i F (dq dkX10_feed_0 29 rfl) ?_
      refine v_sipush F (v := 255) (dq dkX10_feed_0 30 rfl) ks_255 ?_
      refine v_iand F (dq dkX10_feed_0 31 rfl) ?_
      obtain ⟨r2, e3, h⟩ := bd_of h
      refine v_callV 1 F (q := 26) (kc1 := 0) (ks1 := 0) (as := [.int ((((a1.toUInt64 >>> ((8 * a4).toInt64.toUInt64 &&& Int64.toUInt64 63)).toInt64).toInt32) &&& 255)]) (st := []) (st1 := []) (res := none) (c_X6_append (l := C.2.1) x y ((((a1.toUInt64 >>> ((8 * a4).toInt64.toUInt64 &&& Int64.toUInt64 63)).toInt64).toInt32) &&& 255) e3) (xn (by decide)) xc_26 rfl (tc7 _ (List.mem_of_getElem? (i := 20) rfl)) (tc7 _ (List.mem_of_getElem? (i := 21) rfl)) (tc7 _ (List.mem_of_getElem? (i := 22) rfl)) (tc1 _ (List.mem_of_getElem? (i := 23) rfl)) (tc7 _ (List.mem_of_getElem? (i := 23) rfl)) (by decide) rfl ⟨rfl, rfl, Nat.le_of_ble_eq_true rfl, Nat.le_of_ble_eq_true rfl⟩ ⟨Nat.le_of_ble_eq_true rfl, Nat.le_of_ble_eq_true rfl⟩ rfl (Nat.le_of_ble_eq_true rfl) rfl rfl rfl (dq dkX10_feed_0 32 rfl) ?_
      refine v_iinc F (v := a4 + (-1)) (ls' := [(4, .int (a4 + (-1))), (0, .ref (K.1 + 0)), (1, .long a1)]) (dq dkX10_feed_0 33 rfl) (j := 2) rfl (kv_add ki_m1) (by decide) rfl ?_
      refine v_goto F (tgt := 36) (dq dkX10_feed_0 34 rfl) (by decide) ?_
      refine v_sub [1, 2, 0] rfl ?_
      exact ih r2 a1 (a4 + (-1)) h
def f_X10_feed (x : CS) (a1 : Int64) (a3 : Int32) : Option (Int32 × CS) := if (b2i (f_X10_within a3 1 8)) = 0 then (some ((-2), x)) else (if ((gi x 26 1) + a3) ≤ 160 then (f_X10_feed_36 1000 x a1 (a3 - 1)) else (some ((-4), x)))
set_option maxRecDepth 100000 in
set_option maxHeartbeats 4000000 in
theorem c_X10_feed {K : KE} {l : Launch} {R : Int32 × CS} (x : CS) (y : MS) (a1 : Int64) (a3 : Int32) (h : f_X10_feed x a1 a3 = some R) : MC K l yX10_feed cX10_feed 5 (some .int) rm_X10_feed 0 0 [.ref (K.1 + 0), .long a1, .int a3] (xf K x y) (xf K R.2 y) (some (.int R.1)) := by
  unfold f_X10_feed at h
  refine mc_of (ls0 := [(0, .ref (K.1 + 0)), (1, .long a1), (3, .int a3)]) (by decide) (Nat.le_of_ble_eq_true rfl) rfl (fun C hl hnm F E => ?_)
  have F : Fx C RX10 cX10_feed 5 rm_X10_feed K := F
  refine v_iload_n F (dq dkX10_feed_0 0 rfl) rfl 2 rfl ?_
  refine v_iconst F (v := 1) (dq dkX10_feed_0 1 rfl) ki_1 ?_
  refine v_bipush F (v := 8) (dq dkX10_feed_0 2 rfl) kb_8 ?_
  refine v_callS 3 F (kc1 := 0) (ks1 := 0) (as := [.int a3, .int 1, .int 8]) (st := []) (st1 := (.int (b2i (f_X10_within a3 1 8)) :: [])) (res := (some (.int (b2i (f_X10_within a3 1 8))))) (c_X10_within (l := C.2.1) a3 1 8) (tc14 _ (List.mem_of_getElem? (i := 3) rfl)) (tc8 _ (List.mem_of_getElem? (i := 15) rfl)) (tc1 _ (List.mem_of_getElem? (i := 2) rfl)) (tc8 _ (List.mem_of_getElem? (i := 16) rfl)) (by decide) rfl ⟨rfl, rfl, Nat.le_of_ble_eq_true rfl, Nat.le_of_ble_eq_true rfl⟩ ⟨Nat.le_of_ble_eq_true rfl, Nat.le_of_ble_eq_true rfl⟩ rfl (Nat.le_of_ble_eq_true rfl) rfl rfl rfl (dq dkX10_feed_0 3 rfl) ?_
  refine v_if_ne F (tgt := 13) (dq dkX10_feed_0 4 rfl) (by decide) (fun c5 => ?_) (fun c5 => ?_)
  · rw [if_neg c5] at h
    refine v_aload_n F (dq dkX10_feed_0 7 rfl) rfl 0 rfl ?_
    refine v_get F 0 (xn (by decide)) xc_0 rfl inlX10 2 (by decide) (tc2 _ (List.mem_of_getElem? (i := 0) rfl)) rfl rfl (dq dkX10_feed_0 8 rfl) ?_
    refine v_getN F 26 (xn (by decide)) xc_26 rfl inlX6 1 (by decide) (List.mem_of_getElem? (i := 3) rfl) rfl rfl (dq dkX10_feed_0 9 rfl) ?_
    refine v_iload_n F (dq dkX10_feed_0 10 rfl) rfl 2 rfl ?_
    refine v_iadd F (dq dkX10_feed_0 11 rfl) ?_
    refine v_sipush F (v := 160) (dq dkX10_feed_0 12 rfl) ks_160 ?_
    refine v_icmp_le F (tgt := 31) (dq dkX10_feed_0 13 rfl) (by decide) (fun c6 => ?_) (fun c6 => ?_)
    · rw [if_pos c6] at h
      refine v_iload_n F (dq dkX10_feed_0 16 rfl) rfl 2 rfl ?_
      refine v_iconst F (v := 1) (dq dkX10_feed_0 17 rfl) ki_1 ?_
      refine v_isub F (dq dkX10_feed_0 18 rfl) ?_
      refine v_istore F (ls' := [(4, .int (a3 - 1)), (0, .ref (K.1 + 0)), (1, .long a1), (3, .int a3)]) (dq dkX10_feed_0 19 rfl) (by decide) rfl ?_
      refine v_sub [1, 2, 0] rfl ?_
      exact t_X10_feed_36 F E 1000 x a1 (a3 - 1) h
    · rw [if_neg c6] at h
      refine v_bipush F (v := (-4)) (dq dkX10_feed_0 14 rfl) kb_m4 ?_
      have h := Option.some.inj h
      subst h
      exact v_iret F E (dq dkX10_feed_0 15 rfl)
  · rw [if_pos c5] at h
    refine v_bipush F (v := (-2)) (dq dkX10_feed_0 5 rfl) kb_m2 ?_
    have h := Option.some.inj h
    subst h
    exact v_iret F E (dq dkX10_feed_0 6 rfl)
def rm_X10_text : Room := { frames := 61, cells := 0, slots := 0, locals := 1752 }
def f_X10_text (x : CS) : Option (Int32 × CS) := if (gi x 10 3) < 6 then ((f_X6_read x).bind fun r2 => if r2.1 < 0 then ((f_X3_keep (f_X6_empty r2.2) 28 29).bind fun r6 => some (r6.1, r6.2)) else (some ((-100) - r2.1, (f_X6_empty r2.2)))) else (some ((-4), x))
set_option maxRecDepth 100000 in
set_option maxHeartbeats 4000000 in
theorem c_X10_text {K : KE} {l : Launch} {R : Int32 × CS} (x : CS) (y : MS) (h : f_X10_text x = some R) : MC K l yX10_text cX10_text 2 (some .int) rm_X10_text 0 0 [.ref (K.1 + 0)] (xf K x y) (xf K R.2 y) (some (.int R.1)) := by
  unfold f_X10_text at h
  refine mc_of (ls0 := [(0, .ref (K.1 + 0))]) (by decide) (Nat.le_of_ble_eq_true rfl) rfl (fun C hl hnm F E => ?_)
  have F : Fx C RX10 cX10_text 2 rm_X10_text K := F
  refine v_aload_n F (dq dkX10_text_0 0 rfl) rfl 0 rfl ?_
  refine v_get F 0 (xn (by decide)) xc_0 rfl inlX10 1 (by decide) (tc1 _ (List.mem_of_getElem? (i := 20) rfl)) rfl rfl (dq dkX10_text_0 1 rfl) ?_
  refine v_getN F 10 (xn (by decide)) xc_10 rfl inlX3 3 (by decide) (List.mem_of_getElem? (i := 2) rfl) rfl rfl (dq dkX10_text_0 2 rfl) ?_
  refine v_bipush F (v := 6) (dq dkX10_text_0 3 rfl) kb_6 ?_
  refine v_icmp_lt F (tgt := 15) (dq dkX10_text_0 4 rfl) (by decide) (fun c1 => ?_) (fun c1 => ?_)
  · rw [if_pos c1] at h
    refine v_aload_n F (dq dkX10_text_0 7 rfl) rfl 0 rfl ?_
    refine v_get F 0 (xn (by decide)) xc_0 rfl inlX10 2 (by decide) (tc2 _ (List.mem_of_getElem? (i := 0) rfl)) rfl rfl (dq dkX10_text_0 8 rfl) ?_
    obtain ⟨r2, e3, h⟩ := bd_of h
    refine v_callV 0 F (q := 26) (kc1 := 0) (ks1 := 0) (as := []) (st := []) (st1 := (.int r2.1 :: [])) (res := (some (.int r2.1))) (c_X6_read (l := C.2.1) x y e3) (xn (by decide)) xc_26 rfl (tc8 _ (List.mem_of_getElem? (i := 0) rfl)) (tc8 _ (List.mem_of_getElem? (i := 1) rfl)) (tc8 _ (List.mem_of_getElem? (i := 2) rfl)) (tc1 _ (List.mem_of_getElem? (i := 23) rfl)) (tc8 _ (List.mem_of_getElem? (i := 3) rfl)) (by decide) rfl ⟨rfl, rfl, Nat.le_of_ble_eq_true rfl, Nat.le_of_ble_eq_true rfl⟩ ⟨Nat.le_of_ble_eq_true rfl, Nat.le_of_ble_eq_true rfl⟩ rfl (Nat.le_of_ble_eq_true rfl) rfl rfl rfl (dq dkX10_text_0 9 rfl) ?_
    refine v_istore_n F (ls' := [(1, .int r2.1), (0, .ref (K.1 + 0))]) (dq dkX10_text_0 10 rfl) rfl (by decide) rfl ?_
    refine v_aload_n F (dq dkX10_text_0 11 rfl) rfl 1 rfl ?_
    refine v_get F 0 (xn (by decide)) xc_0 rfl inlX10 2 (by decide) (tc2 _ (List.mem_of_getElem? (i := 0) rfl)) rfl rfl (dq dkX10_text_0 12 rfl) ?_
    refine v_callV 0 F (q := 26) (kc1 := 0) (ks1 := 0) (as := []) (st := []) (st1 := []) (res := none) (c_X6_empty (l := C.2.1) r2.2 y) (xn (by decide)) xc_26 rfl (tc11 _ (List.mem_of_getElem? (i := 9) rfl)) (tc11 _ (List.mem_of_getElem? (i := 10) rfl)) (tc11 _ (List.mem_of_getElem? (i := 11) rfl)) (tc1 _ (List.mem_of_getElem? (i := 23) rfl)) (tc11 _ (List.mem_of_getElem? (i := 12) rfl)) (by decide) rfl ⟨rfl, rfl, Nat.le_of_ble_eq_true rfl, Nat.le_of_ble_eq_true rfl⟩ ⟨Nat.le_of_ble_eq_true rfl, Nat.le_of_ble_eq_true rfl⟩ rfl (Nat.le_of_ble_eq_true rfl) rfl rfl rfl (dq dkX10_text_0 13 rfl) ?_
    refine v_iload_n F (dq dkX10_text_0 14 rfl) rfl 0 rfl ?_
    refine v_if_lt F (tgt := 41) (dq dkX10_text_0 15 rfl) (by decide) (fun c5 => ?_) (fun c5 => ?_)
    · rw [if_pos c5] at h
      refine v_aload_n F (dq dkX10_text_0 20 rfl) rfl 1 rfl ?_
      refine v_get F 0 (xn (by decide)) xc_0 rfl inlX10 1 (by decide) (tc1 _ (List.mem_of_getElem? (i := 20) rfl)) rfl rfl (dq dkX10_text_0 21 rfl) ?_
      refine v_aload_n F (dq dkX10_text_0 22 rfl) rfl 1 rfl ?_
      refine v_get F 0 (xn (by decide)) xc_0 rfl inlX10 2 (by decide) (tc2 _ (List.mem_of_getElem? (i := 0) rfl)) rfl rfl (dq dkX10_text_0 23 rfl) ?_
      refine v_getN F 26 (xn (by decide)) xc_26 rfl inlX6 2 (by decide) (List.mem_of_getElem? (i := 4) rfl) rfl rfl (dq dkX10_text_0 24 rfl) ?_
      refine v_aload_n F (dq dkX10_text_0 25 rfl) rfl 1 rfl ?_
      refine v_get F 0 (xn (by decide)) xc_0 rfl inlX10 2 (by decide) (tc2 _ (List.mem_of_getElem? (i := 0) rfl)) rfl rfl (dq dkX10_text_0 26 rfl) ?_
      refine v_getN F 26 (xn (by decide)) xc_26 rfl inlX6 3 (by decide) (List.mem_of_getElem? (i := 5) rfl) rfl rfl (dq dkX10_text_0 27 rfl) ?_
      obtain ⟨r6, e7, h⟩ := bd_of h
      refine v_callV 2 F (q := 10) (kc1 := 0) (ks1 := 0) (as := [.ref (K.1 + 28), .ref (K.1 + 29)]) (st := []) (st1 := (.int r6.1 :: [])) (res := (some (.int r6.1))) (c_X3_keep (l := C.2.1) (f_X6_empty r2.2) y 28 29 e7) (xn (by decide)) xc_10 rfl (tc11 _ (List.mem_of_getElem? (i := 1) rfl)) (tc11 _ (List.mem_of_getElem? (i := 2) rfl)) (tc11 _ (List.mem_of_getElem? (i := 3) rfl)) (tc1 _ (List.mem_of_getElem? (i := 19) rfl)) (tc11 _ (List.mem_of_getElem? (i := 4) rfl)) (by decide) rfl ⟨rfl, rfl, Nat.le_of_ble_eq_true rfl, Nat.le_of_ble_eq_true rfl⟩ ⟨Nat.le_of_ble_eq_true rfl, Nat.le_of_ble_eq_true rfl⟩ rfl (Nat.le_of_ble_eq_true rfl) rfl rfl rfl (dq dkX10_text_0 28 rfl) ?_
      have h := Option.some.inj h
      subst h
      exact v_iret F E (dq dkX10_text_0 29 rfl)
    · rw [if_neg c5] at h
      refine v_bipush F (v := (-100)) (dq dkX10_text_0 16 rfl) kb_m100 ?_
      refine v_iload_n F (dq dkX10_text_0 17 rfl) rfl 0 rfl ?_
      refine v_isub F (dq dkX10_text_0 18 rfl) ?_
      refine v_goto F (tgt := 62) (dq dkX10_text_0 19 rfl) (by decide) ?_
      have h := Option.some.inj h
      subst h
      exact v_iret F E (dq dkX10_text_0 29 rfl)
  · rw [if_neg c1] at h
    refine v_bipush F (v := (-4)) (dq dkX10_text_0 5 rfl) kb_m4 ?_
    have h := Option.some.inj h
    subst h
    exact v_iret F E (dq dkX10_text_0 6 rfl)
def rm_X10_force : Room := { frames := 2, cells := 0, slots := 0, locals := 52 }
def f_X10_force (x : CS) (a1 : Int32) : Int32 × CS := if (b2i (f_X10_within a1 0 ((gi x 10 3) - 1))) = 0 then (((-2), x)) else ((gi x 1 2, pi x 1 2 a1))
set_option maxRecDepth 100000 in
set_option maxHeartbeats 4000000 in
theorem c_X10_force {K : KE} {l : Launch} (x : CS) (y : MS) (a1 : Int32) : MC K l yX10_force cX10_force 3 (some .int) rm_X10_force 0 0 [.ref (K.1 + 0), .int a1] (xf K x y) (xf K ((f_X10_force x a1).2) y) (some (.int (f_X10_force x a1).1)) := by
  obtain ⟨R, h⟩ : ∃ R, f_X10_force x a1 = R := ⟨_, rfl⟩
  rw [h]
  unfold f_X10_force at h
  refine mc_of (ls0 := [(0, .ref (K.1 + 0)), (1, .int a1)]) (by decide) (Nat.le_of_ble_eq_true rfl) rfl (fun C hl hnm F E => ?_)
  have F : Fx C RX10 cX10_force 3 rm_X10_force K := F
  refine v_iload_n F (dq dkX10_force_0 0 rfl) rfl 1 rfl ?_
  refine v_iconst F (v := 0) (dq dkX10_force_0 1 rfl) ki_0 ?_
  refine v_aload_n F (dq dkX10_force_0 2 rfl) rfl 0 rfl ?_
  refine v_get F 0 (xn (by decide)) xc_0 rfl inlX10 1 (by decide) (tc1 _ (List.mem_of_getElem? (i := 20) rfl)) rfl rfl (dq dkX10_force_0 3 rfl) ?_
  refine v_getN F 10 (xn (by decide)) xc_10 rfl inlX3 3 (by decide) (List.mem_of_getElem? (i := 2) rfl) rfl rfl (dq dkX10_force_0 4 rfl) ?_
  refine v_iconst F (v := 1) (dq dkX10_force_0 5 rfl) ki_1 ?_
  refine v_isub F (dq dkX10_force_0 6 rfl) ?_
  refine v_callS 3 F (kc1 := 0) (ks1 := 0) (as := [.int a1, .int 0, .int ((gi x 10 3) - 1)]) (st := []) (st1 := (.int (b2i (f_X10_within a1 0 ((gi x 10 3) - 1))) :: [])) (res := (some (.int (b2i (f_X10_within a1 0 ((gi x 10 3) - 1)))))) (c_X10_within (l := C.2.1) a1 0 ((gi x 10 3) - 1)) (tc14 _ (List.mem_of_getElem? (i := 3) rfl)) (tc8 _ (List.mem_of_getElem? (i := 15) rfl)) (tc1 _ (List.mem_of_getElem? (i := 2) rfl)) (tc8 _ (List.mem_of_getElem? (i := 16) rfl)) (by decide) rfl ⟨rfl, rfl, Nat.le_of_ble_eq_true rfl, Nat.le_of_ble_eq_true rfl⟩ ⟨Nat.le_of_ble_eq_true rfl, Nat.le_of_ble_eq_true rfl⟩ rfl (Nat.le_of_ble_eq_true rfl) rfl rfl rfl (dq dkX10_force_0 7 rfl) ?_
  refine v_if_ne F (tgt := 20) (dq dkX10_force_0 8 rfl) (by decide) (fun c2 => ?_) (fun c2 => ?_)
  · rw [if_neg c2] at h
    refine v_aload_n F (dq dkX10_force_0 11 rfl) rfl 0 rfl ?_
    refine v_get F 0 (xn (by decide)) xc_0 rfl inlX10 0 (by decide) (tc1 _ (List.mem_of_getElem? (i := 16) rfl)) rfl rfl (dq dkX10_force_0 12 rfl) ?_
    refine v_getN F 1 (xn (by decide)) xc_1 rfl inlX8 2 (by decide) (List.mem_of_getElem? (i := 1) rfl) rfl rfl (dq dkX10_force_0 13 rfl) ?_
    refine v_istore_n F (ls' := [(2, .int (gi x 1 2)), (0, .ref (K.1 + 0)), (1, .int a1)]) (dq dkX10_force_0 14 rfl) rfl (by decide) rfl ?_
    refine v_aload_n F (dq dkX10_force_0 15 rfl) rfl 1 rfl ?_
    refine v_get F 0 (xn (by decide)) xc_0 rfl inlX10 0 (by decide) (tc1 _ (List.mem_of_getElem? (i := 16) rfl)) rfl rfl (dq dkX10_force_0 16 rfl) ?_
    refine v_iload_n F (dq dkX10_force_0 17 rfl) rfl 2 rfl ?_
    refine v_putN F 1 (xn (by decide)) xc_1 rfl inlX8 tyX8_ok nmX8 2 (by decide) (List.mem_of_getElem? (i := 1) rfl) rfl rfl (tyX8_ok 2 (by decide)) rfl rfl (Nat.le_of_ble_eq_true rfl) (dq dkX10_force_0 18 rfl) ?_
    refine v_eqM (xwC (q := 1) (j := 2) (v := a1) (by decide) rfl) ?_
    refine v_iload_n F (dq dkX10_force_0 19 rfl) rfl 0 rfl ?_
    subst h
    exact v_iret F E (dq dkX10_force_0 20 rfl)
  · rw [if_pos c2] at h
    refine v_bipush F (v := (-2)) (dq dkX10_force_0 9 rfl) kb_m2 ?_
    subst h
    exact v_iret F E (dq dkX10_force_0 10 rfl)
