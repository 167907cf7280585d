def rm_X11_back : Room := { frames := 2, cells := 0, slots := 0, locals := 52 }
def f_X11_back_70 : Nat → MS → Int32 → Option (Int32 × MS)
  | 0, _, _ => none
  | n + 1, y, a1 => if (gi y 61 23) ≤ a1 then (some (gi y 61 6, y)) else (gd (ib a1 6) (gd (ib a1 6) ((f_X11_back_70 n) (pi y 70 a1.toNatClampNeg (gi y 76 a1.toNatClampNeg)) (a1 + 1))))
set_option maxRecDepth 100000 in
set_option maxHeartbeats 4000000 in
theorem t_X11_back_70 {C : Cx} {K : KE} {x : CS} {R : Int32 × MS}  (F : Fx C RX11 cX11_back 2 rm_X11_back K) (E : CE C (xf K x R.2) (some (.int R.1)) 0 0 (some .int)) : ∀ (n : Nat) (y : MS) (a1 : Int32) (h : f_X11_back_70 n y a1 = some R), V C 70 [(0, .ref (K.1 + 61)), (1, .int a1)] [] (xf K x y) 0 0 := by
  intro n
  induction n with
  | zero => intro y a1 h; cases h
  | succ n ih =>
    intro y a1 h
    rw [f_X11_back_70] at h
    refine v_iload_n F (dq dkX11_back_1 0 rfl) rfl 1 rfl ?_
    refine v_aload_n F (dq dkX11_back_1 1 rfl) rfl 0 rfl ?_
    refine v_get F 61 (xn (by decide)) xc_61 rfl inlX11 23 (by decide) (tc50 _ (List.mem_of_getElem? (i := 23) rfl)) rfl rfl (dq dkX11_back_1 2 rfl) ?_
    refine v_icmp_ge F (tgt := 96) (dq dkX11_back_1 3 rfl) (by decide) (fun c1 => ?_) (fun c1 => ?_)
    · rw [if_pos c1] at h
      refine v_aload_n F (dq dkX11_back_1 14 rfl) rfl 0 rfl ?_
      refine v_get F 61 (xn (by decide)) xc_61 rfl inlX11 6 (by decide) (tc16 _ (List.mem_of_getElem? (i := 16) rfl)) rfl rfl (dq dkX11_back_1 15 rfl) ?_
      cases h
      exact v_iret F E (dq dkX11_back_1 16 rfl)
    · rw [if_neg c1] at h
      refine v_aload_n F (dq dkX11_back_1 4 rfl) rfl 0 rfl ?_
      refine v_get F 61 (xn (by decide)) xc_61 rfl inlX11 15 (by decide) (tc12 _ (List.mem_of_getElem? (i := 4) rfl)) rfl rfl (dq dkX11_back_1 5 rfl) ?_
      refine v_iload_n F (dq dkX11_back_1 6 rfl) rfl 1 rfl ?_
      refine v_aload_n F (dq dkX11_back_1 7 rfl) rfl 0 rfl ?_
      refine v_get F 61 (xn (by decide)) xc_61 rfl inlX11 27 (by decide) (tc12 _ (List.mem_of_getElem? (i := 11) rfl)) rfl rfl (dq dkX11_back_1 8 rfl) ?_
      refine v_iload_n F (dq dkX11_back_1 9 rfl) rfl 1 rfl ?_
      obtain ⟨g2, h⟩ := gd_of h
      refine v_iald F 76 (xn (by decide)) xc_76 (ib_in g2) (dq dkX11_back_1 10 rfl) ?_
      obtain ⟨g3, h⟩ := gd_of h
      refine v_iast F 70 (xn (by decide)) xc_70 (ib_in g3) (dq dkX11_back_1 11 rfl) ?_
      refine v_eqM (xwM (q := 70) (j := a1.toNatClampNeg) (v := gi y 76 a1.toNatClampNeg) (by decide) (by decide) rfl) ?_
      refine v_iinc F (v := a1 + 1) (ls' := [(1, .int (a1 + 1)), (0, .ref (K.1 + 61))]) (dq dkX11_back_1 12 rfl) (j := 1) rfl (kv_add ki_1) (by decide) rfl ?_
      refine v_goto F (tgt := 70) (dq dkX11_back_1 13 rfl) (by decide) ?_
      refine v_sub [1, 0] rfl ?_
      exact ih (pi y 70 a1.toNatClampNeg (gi y 76 a1.toNatClampNeg)) (a1 + 1) h
def f_X11_back_44 : Nat → MS → Int32 → Option (Int32 × MS)
  | 0, _, _ => none
  | n + 1, y, a1 => if 54 ≤ a1 then (f_X11_back_70 1000 y 0) else (gd (ib a1 54) (gd (ib a1 54) ((f_X11_back_44 n) (pi y 62 a1.toNatClampNeg (gi y 75 a1.toNatClampNeg)) (a1 + 1))))
set_option maxRecDepth 100000 in
set_option maxHeartbeats 4000000 in
theorem t_X11_back_44 {C : Cx} {K : KE} {x : CS} {R : Int32 × MS}  (F : Fx C RX11 cX11_back 2 rm_X11_back K) (E : CE C (xf K x R.2) (some (.int R.1)) 0 0 (some .int)) : ∀ (n : Nat) (y : MS) (a1 : Int32) (h : f_X11_back_44 n y a1 = some R), V C 44 [(0, .ref (K.1 + 61)), (1, .int a1)] [] (xf K x y) 0 0 := by
  intro n
  induction n with
  | zero => intro y a1 h; cases h
  | succ n ih =>
    intro y a1 h
    rw [f_X11_back_44] at h
    refine v_iload_n F (dq dkX11_back_0 25 rfl) rfl 1 rfl ?_
    refine v_bipush F (v := 54) (dq dkX11_back_0 26 rfl) kb_54 ?_
    refine v_icmp_ge F (tgt := 68) (dq dkX11_back_0 27 rfl) (by decide) (fun c4 => ?_) (fun c4 => ?_)
    · rw [if_pos c4] at h
      refine v_iconst F (v := 0) (dq dkX11_back_0 38 rfl) ki_0 ?_
      refine v_istore_n F (ls' := [(1, .int 0), (0, .ref (K.1 + 61))]) (dq dkX11_back_0 39 rfl) rfl (by decide) rfl ?_
      refine v_sub [1, 0] rfl ?_
      exact t_X11_back_70 F E 1000 y 0 h
    · rw [if_neg c4] at h
      refine v_aload_n F (dq dkX11_back_0 28 rfl) rfl 0 rfl ?_
      refine v_get F 61 (xn (by decide)) xc_61 rfl inlX11 0 (by decide) (tc11 _ (List.mem_of_getElem? (i := 17) rfl)) rfl rfl (dq dkX11_back_0 29 rfl) ?_
      refine v_iload_n F (dq dkX11_back_0 30 rfl) rfl 1 rfl ?_
      refine v_aload_n F (dq dkX11_back_0 31 rfl) rfl 0 rfl ?_
      refine v_get F 61 (xn (by decide)) xc_61 rfl inlX11 26 (by decide) (tc12 _ (List.mem_of_getElem? (i := 10) rfl)) rfl rfl (dq dkX11_back_0 32 rfl) ?_
      refine v_iload_n F (dq dkX11_back_0 33 rfl) rfl 1 rfl ?_
      obtain ⟨g5, h⟩ := gd_of h
      refine v_iald F 75 (xn (by decide)) xc_75 (ib_in g5) (dq dkX11_back_0 34 rfl) ?_
      obtain ⟨g6, h⟩ := gd_of h
      refine v_iast F 62 (xn (by decide)) xc_62 (ib_in g6) (dq dkX11_back_0 35 rfl) ?_
      refine v_eqM (xwM (q := 62) (j := a1.toNatClampNeg) (v := gi y 75 a1.toNatClampNeg) (by decide) (by decide) rfl) ?_
      refine v_iinc F (v := a1 + 1) (ls' := [(1, .int (a1 + 1)), (0, .ref (K.1 + 61))]) (dq dkX11_back_0 36 rfl) (j := 1) rfl (kv_add ki_1) (by decide) rfl ?_
      refine v_goto F (tgt := 44) (dq dkX11_back_0 37 rfl) (by decide) ?_
      refine v_sub [1, 0] rfl ?_
      exact ih (pi y 62 a1.toNatClampNeg (gi y 75 a1.toNatClampNeg)) (a1 + 1) h
def f_X11_back_20 : Nat → MS → Int32 → Option (Int32 × MS)
  | 0, _, _ => none
  | n + 1, y, a1 => if 5 ≤ a1 then (f_X11_back_44 1000 y 0) else (gd (ib a1 5) ((f_X11_back_20 n) (f_X11_holds y a1 (gi y 74 a1.toNatClampNeg)) (a1 + 1)))
set_option maxRecDepth 100000 in
set_option maxHeartbeats 4000000 in
theorem t_X11_back_20 {C : Cx} {K : KE} {x : CS} {R : Int32 × MS}  (F : Fx C RX11 cX11_back 2 rm_X11_back K) (E : CE C (xf K x R.2) (some (.int R.1)) 0 0 (some .int)) : ∀ (n : Nat) (y : MS) (a1 : Int32) (h : f_X11_back_20 n y a1 = some R), V C 20 [(0, .ref (K.1 + 61)), (1, .int a1)] [] (xf K x y) 0 0 := by
  intro n
  induction n with
  | zero => intro y a1 h; cases h
  | succ n ih =>
    intro y a1 h
    rw [f_X11_back_20] at h
    refine v_iload_n F (dq dkX11_back_0 11 rfl) rfl 1 rfl ?_
    refine v_iconst F (v := 5) (dq dkX11_back_0 12 rfl) ki_5 ?_
    refine v_icmp_ge F (tgt := 42) (dq dkX11_back_0 13 rfl) (by decide) (fun c7 => ?_) (fun c7 => ?_)
    · rw [if_pos c7] at h
      refine v_iconst F (v := 0) (dq dkX11_back_0 23 rfl) ki_0 ?_
      refine v_istore_n F (ls' := [(1, .int 0), (0, .ref (K.1 + 61))]) (dq dkX11_back_0 24 rfl) rfl (by decide) rfl ?_
      refine v_sub [1, 0] rfl ?_
      exact t_X11_back_44 F E 1000 y 0 h
    · rw [if_neg c7] at h
      refine v_aload_n F (dq dkX11_back_0 14 rfl) rfl 0 rfl ?_
      refine v_iload_n F (dq dkX11_back_0 15 rfl) rfl 1 rfl ?_
      refine v_aload_n F (dq dkX11_back_0 16 rfl) rfl 0 rfl ?_
      refine v_get F 61 (xn (by decide)) xc_61 rfl inlX11 25 (by decide) (tc12 _ (List.mem_of_getElem? (i := 9) rfl)) rfl rfl (dq dkX11_back_0 17 rfl) ?_
      refine v_iload_n F (dq dkX11_back_0 18 rfl) rfl 1 rfl ?_
      obtain ⟨g8, h⟩ := gd_of h
      refine v_iald F 74 (xn (by decide)) xc_74 (ib_in g8) (dq dkX11_back_0 19 rfl) ?_
      refine v_callV 2 F (q := 61) (as := [.int a1, .int (gi y 74 a1.toNatClampNeg)]) (st := []) (st1 := []) (res := none) (c_X11_holds (l := C.2.1) x y a1 (gi y 74 a1.toNatClampNeg)) (xn (by decide)) xc_61 rfl (tc16 _ (List.mem_of_getElem? (i := 20) rfl)) (tc16 _ (List.mem_of_getElem? (i := 21) rfl)) (tc16 _ (List.mem_of_getElem? (i := 22) rfl)) (tc1 _ (List.mem_of_getElem? (i := 5) rfl)) (tc16 _ (List.mem_of_getElem? (i := 23) rfl)) (by decide) rfl ⟨rfl, rfl, Nat.le_of_ble_eq_true rfl, Nat.le_of_ble_eq_true rfl⟩ ⟨Nat.le_of_ble_eq_true rfl, Nat.le_of_ble_eq_true rfl⟩ rfl (Nat.le_of_ble_eq_true rfl) rfl rfl rfl (dq dkX11_back_0 20 rfl) ?_
      refine v_iinc F (v := a1 + 1) (ls' := [(1, .int (a1 + 1)), (0, .ref (K.1 + 61))]) (dq dkX11_back_0 21 rfl) (j := 1) rfl (kv_add ki_1) (by decide) rfl ?_
      refine v_goto F (tgt := 20) (dq dkX11_back_0 22 rfl) (by decide) ?_
      refine v_sub [1, 0] rfl ?_
      exact ih (f_X11_holds y a1 (gi y 74 a1.toNatClampNeg)) (a1 + 1) h
def f_X11_back (y : MS) : Option (Int32 × MS) := if (gi y 61 22) = 0 then (some ((-3), y)) else (f_X11_back_20 1000 (pi y 61 21 (gi y 61 24)) 0)
set_option maxRecDepth 100000 in
set_option maxHeartbeats 4000000 in
theorem c_X11_back {K : KE} {l : Launch} {R : Int32 × MS} (x : CS) (y : MS) (h : f_X11_back y = some R) : MC K l yX11_back cX11_back 2 (some .int) rm_X11_back 0 0 [.ref (K.1 + 61)] (xf K x y) (xf K x R.2) (some (.int R.1)) := by
  refine mc_of (ls0 := [(0, .ref (K.1 + 61))]) (by decide) (Nat.le_of_ble_eq_true rfl) rfl (fun C hl F E => ?_)
  have F : Fx C RX11 cX11_back 2 rm_X11_back K := F
  unfold f_X11_back at h
  refine v_aload_n F (dq dkX11_back_0 0 rfl) rfl 0 rfl ?_
  refine v_get F 61 (xn (by decide)) xc_61 rfl inlX11 22 (by decide) (tc50 _ (List.mem_of_getElem? (i := 22) rfl)) rfl rfl (dq dkX11_back_0 1 rfl) ?_
  refine v_if_ne F (tgt := 10) (dq dkX11_back_0 2 rfl) (by decide) (fun c10 => ?_) (fun c10 => ?_)
  · rw [if_neg c10] at h
    refine v_aload_n F (dq dkX11_back_0 5 rfl) rfl 0 rfl ?_
    refine v_aload_n F (dq dkX11_back_0 6 rfl) rfl 0 rfl ?_
    refine v_get F 61 (xn (by decide)) xc_61 rfl inlX11 24 (by decide) (tc51 _ (List.mem_of_getElem? (i := 0) rfl)) rfl rfl (dq dkX11_back_0 7 rfl) ?_
    refine v_put F 61 (xn (by decide)) xc_61 rfl inlX11 tyX11_ok nmX11 21 (by decide) (tc16 _ (List.mem_of_getElem? (i := 18) rfl)) rfl rfl (tyX11_ok 21 (by decide)) rfl rfl (Nat.le_of_ble_eq_true rfl) (dq dkX11_back_0 8 rfl) ?_
    refine v_eqM (xwM (q := 61) (j := 21) (v := gi y 61 24) (by decide) (by decide) rfl) ?_
    refine v_iconst F (v := 0) (dq dkX11_back_0 9 rfl) ki_0 ?_
    refine v_istore_n F (ls' := [(1, .int 0), (0, .ref (K.1 + 61))]) (dq dkX11_back_0 10 rfl) rfl (by decide) rfl ?_
    refine v_sub [1, 0] rfl ?_
    exact t_X11_back_20 F E 1000 (pi y 61 21 (gi y 61 24)) 0 h
  · rw [if_pos c10] at h
    refine v_bipush F (v := (-3)) (dq dkX11_back_0 3 rfl) kb_m3 ?_
    cases h
    exact v_iret F E (dq dkX11_back_0 4 rfl)
def rm_X11_sheet : Room := { frames := 2, cells := 0, slots := 0, locals := 52 }
def f_X11_sheet_29 (y : MS) : Option (Int32 × MS) := some ((-2), y)
set_option maxRecDepth 100000 in
set_option maxHeartbeats 4000000 in
theorem t_X11_sheet_29 {C : Cx} {K : KE} {x : CS} {R : Int32 × MS}  (y : MS) (h : f_X11_sheet_29 y = some R) (F : Fx C RX11 cX11_sheet 5 rm_X11_sheet K) (E : CE C (xf K x R.2) (some (.int R.1)) 0 0 (some .int)) : V C 29 [] [] (xf K x y) 0 0 := by
  unfold f_X11_sheet_29 at h
  refine v_bipush F (v := (-2)) (dq dkX11_sheet_0 16 rfl) kb_m2 ?_
  cases h
  exact v_iret F E (dq dkX11_sheet_0 17 rfl)
def f_X11_sheet_70 : Nat → MS → Int32 → Int32 → Option (Int32 × MS)
  | 0, _, _, _ => none
  | n + 1, y, a1, a4 => if 40 ≤ a4 then (some (1, y)) else (gd (ib ((40 * a1) + a4) 160) ((f_X11_sheet_70 n) (pi y 79 (((40 * a1) + a4).toNatClampNeg) 0) a1 (a4 + 1)))
set_option maxRecDepth 100000 in
set_option maxHeartbeats 4000000 in
theorem t_X11_sheet_70 {C : Cx} {K : KE} {x : CS} {R : Int32 × MS}  (F : Fx C RX11 cX11_sheet 5 rm_X11_sheet K) (E : CE C (xf K x R.2) (some (.int R.1)) 0 0 (some .int)) : ∀ (n : Nat) (y : MS) (a1 : Int32) (a4 : Int32) (h : f_X11_sheet_70 n y a1 a4 = some R), V C 70 [(0, .ref (K.1 + 61)), (1, .int a1), (4, .int a4)] [] (xf K x y) 0 0 := by
  intro n
  induction n with
  | zero => intro y a1 a4 h; cases h
  | succ n ih =>
    intro y a1 a4 h
    rw [f_X11_sheet_70] at h
    refine v_iload F (dq dkX11_sheet_1 2 rfl) 2 rfl ?_
    refine v_bipush F (v := 40) (dq dkX11_sheet_1 3 rfl) kb_40 ?_
    refine v_icmp_ge F (tgt := 96) (dq dkX11_sheet_1 4 rfl) (by decide) (fun c1 => ?_) (fun c1 => ?_)
    · rw [if_pos c1] at h
      refine v_iconst F (v := 1) (dq dkX11_sheet_1 16 rfl) ki_1 ?_
      cases h
      exact v_iret F E (dq dkX11_sheet_1 17 rfl)
    · rw [if_neg c1] at h
      refine v_aload_n F (dq dkX11_sheet_1 5 rfl) rfl 0 rfl ?_
      refine v_get F 61 (xn (by decide)) xc_61 rfl inlX11 30 (by decide) (tc12 _ (List.mem_of_getElem? (i := 14) rfl)) rfl rfl (dq dkX11_sheet_1 6 rfl) ?_
      refine v_bipush F (v := 40) (dq dkX11_sheet_1 7 rfl) kb_40 ?_
      refine v_iload_n F (dq dkX11_sheet_1 8 rfl) rfl 1 rfl ?_
      refine v_imul F (dq dkX11_sheet_1 9 rfl) ?_
      refine v_iload F (dq dkX11_sheet_1 10 rfl) 2 rfl ?_
      refine v_iadd F (dq dkX11_sheet_1 11 rfl) ?_
      refine v_iconst F (v := 0) (dq dkX11_sheet_1 12 rfl) ki_0 ?_
      obtain ⟨g2, h⟩ := gd_of h
      refine v_iast F 79 (xn (by decide)) xc_79 (ib_in g2) (dq dkX11_sheet_1 13 rfl) ?_
      refine v_eqM (xwM (q := 79) (j := ((40 * a1) + a4).toNatClampNeg) (v := 0) (by decide) (by decide) rfl) ?_
      refine v_iinc F (v := a4 + 1) (ls' := [(4, .int (a4 + 1)), (0, .ref (K.1 + 61)), (1, .int a1)]) (dq dkX11_sheet_1 14 rfl) (j := 2) rfl (kv_add ki_1) (by decide) rfl ?_
      refine v_goto F (tgt := 70) (dq dkX11_sheet_1 15 rfl) (by decide) ?_
      refine v_sub [1, 2, 0] rfl ?_
      exact ih (pi y 79 (((40 * a1) + a4).toNatClampNeg) 0) a1 (a4 + 1) h
def f_X11_sheet_66 (y : MS) (a1 : Int32) (s0 : Int32) (s1 : Int32) : Option (Int32 × MS) := gd (ib s1 4) (f_X11_sheet_70 1000 (pi y 78 s1.toNatClampNeg s0) a1 0)
set_option maxRecDepth 100000 in
set_option maxHeartbeats 4000000 in
theorem t_X11_sheet_66 {C : Cx} {K : KE} {x : CS} {R : Int32 × MS}  (y : MS) (a1 : Int32) (s0 : Int32) (s1 : Int32) (h : f_X11_sheet_66 y a1 s0 s1 = some R) (F : Fx C RX11 cX11_sheet 5 rm_X11_sheet K) (E : CE C (xf K x R.2) (some (.int R.1)) 0 0 (some .int)) : V C 66 [(0, .ref (K.1 + 61)), (1, .int a1)] [.int s0, .int s1, .ref (K.1 + 78)] (xf K x y) 0 0 := by
  unfold f_X11_sheet_66 at h
  obtain ⟨g3, h⟩ := gd_of h
  refine v_iast F 78 (xn (by decide)) xc_78 (ib_in g3) (dq dkX11_sheet_0 39 rfl) ?_
  refine v_eqM (xwM (q := 78) (j := s1.toNatClampNeg) (v := s0) (by decide) (by decide) rfl) ?_
  refine v_iconst F (v := 0) (dq dkX11_sheet_1 0 rfl) ki_0 ?_
  refine v_istore F (ls' := [(4, .int 0), (0, .ref (K.1 + 61)), (1, .int a1)]) (dq dkX11_sheet_1 1 rfl) (by decide) rfl ?_
  refine v_sub [1, 2, 0] rfl ?_
  exact t_X11_sheet_70 F E 1000 (pi y 78 s1.toNatClampNeg s0) a1 0 h
def f_X11_sheet_44 (y : MS) (a1 : Int32) (a2 : Int32) (a3 : Int32) : Option (Int32 × MS) := gd (ib a1 4) (if a2 = (-1) then (f_X11_sheet_66 (pi y 77 a1.toNatClampNeg a2) a1 0 a1) else (f_X11_sheet_66 (pi y 77 a1.toNatClampNeg a2) a1 a3 a1))
set_option maxRecDepth 100000 in
set_option maxHeartbeats 4000000 in
theorem t_X11_sheet_44 {C : Cx} {K : KE} {x : CS} {R : Int32 × MS}  (y : MS) (a1 : Int32) (a2 : Int32) (a3 : Int32) (h : f_X11_sheet_44 y a1 a2 a3 = some R) (F : Fx C RX11 cX11_sheet 5 rm_X11_sheet K) (E : CE C (xf K x R.2) (some (.int R.1)) 0 0 (some .int)) : V C 44 [(0, .ref (K.1 + 61)), (1, .int a1), (2, .int a2), (3, .int a3)] [] (xf K x y) 0 0 := by
  unfold f_X11_sheet_44 at h
  refine v_aload_n F (dq dkX11_sheet_0 25 rfl) rfl 0 rfl ?_
  refine v_get F 61 (xn (by decide)) xc_61 rfl inlX11 28 (by decide) (tc12 _ (List.mem_of_getElem? (i := 12) rfl)) rfl rfl (dq dkX11_sheet_0 26 rfl) ?_
  refine v_iload_n F (dq dkX11_sheet_0 27 rfl) rfl 1 rfl ?_
  refine v_iload_n F (dq dkX11_sheet_0 28 rfl) rfl 2 rfl ?_
  obtain ⟨g4, h⟩ := gd_of h
  refine v_iast F 77 (xn (by decide)) xc_77 (ib_in g4) (dq dkX11_sheet_0 29 rfl) ?_
  refine v_eqM (xwM (q := 77) (j := a1.toNatClampNeg) (v := a2) (by decide) (by decide) rfl) ?_
  refine v_aload_n F (dq dkX11_sheet_0 30 rfl) rfl 0 rfl ?_
  refine v_get F 61 (xn (by decide)) xc_61 rfl inlX11 29 (by decide) (tc12 _ (List.mem_of_getElem? (i := 13) rfl)) rfl rfl (dq dkX11_sheet_0 31 rfl) ?_
  refine v_iload_n F (dq dkX11_sheet_0 32 rfl) rfl 1 rfl ?_
  refine v_iload_n F (dq dkX11_sheet_0 33 rfl) rfl 2 rfl ?_
  refine v_iconst F (v := (-1)) (dq dkX11_sheet_0 34 rfl) ki_m1 ?_
  refine v_icmp_ne F (tgt := 65) (dq dkX11_sheet_0 35 rfl) (by decide) (fun c5 => ?_) (fun c5 => ?_)
  · rw [if_neg c5] at h
    refine v_iload_n F (dq dkX11_sheet_0 38 rfl) rfl 3 rfl ?_
    refine v_sub [0, 1] rfl ?_
    exact t_X11_sheet_66 (pi y 77 a1.toNatClampNeg a2) a1 a3 a1 h F E
  · rw [if_pos c5] at h
    refine v_iconst F (v := 0) (dq dkX11_sheet_0 36 rfl) ki_0 ?_
    refine v_goto F (tgt := 66) (dq dkX11_sheet_0 37 rfl) (by decide) ?_
    refine v_sub [0, 1] rfl ?_
    exact t_X11_sheet_66 (pi y 77 a1.toNatClampNeg a2) a1 0 a1 h F E
def f_X11_sheet_32 (y : MS) (a1 : Int32) (a2 : Int32) (a3 : Int32) : Option (Int32 × MS) := if a2 = (-1) then (f_X11_sheet_44 y a1 a2 a3) else (if 0 ≤ a3 then (f_X11_sheet_44 y a1 a2 a3) else (some ((-14), y)))
set_option maxRecDepth 100000 in
set_option maxHeartbeats 4000000 in
theorem t_X11_sheet_32 {C : Cx} {K : KE} {x : CS} {R : Int32 × MS}  (y : MS) (a1 : Int32) (a2 : Int32) (a3 : Int32) (h : f_X11_sheet_32 y a1 a2 a3 = some R) (F : Fx C RX11 cX11_sheet 5 rm_X11_sheet K) (E : CE C (xf K x R.2) (some (.int R.1)) 0 0 (some .int)) : V C 32 [(0, .ref (K.1 + 61)), (1, .int a1), (2, .int a2), (3, .int a3)] [] (xf K x y) 0 0 := by
  unfold f_X11_sheet_32 at h
  refine v_iload_n F (dq dkX11_sheet_0 18 rfl) rfl 2 rfl ?_
  refine v_iconst F (v := (-1)) (dq dkX11_sheet_0 19 rfl) ki_m1 ?_
  refine v_icmp_eq F (tgt := 44) (dq dkX11_sheet_0 20 rfl) (by decide) (fun c6 => ?_) (fun c6 => ?_)
  · rw [if_pos c6] at h
    exact t_X11_sheet_44 y a1 a2 a3 h F E
  · rw [if_neg c6] at h
    refine v_iload_n F (dq dkX11_sheet_0 21 rfl) rfl 3 rfl ?_
    refine v_if_ge F (tgt := 44) (dq dkX11_sheet_0 22 rfl) (by decide) (fun c7 => ?_) (fun c7 => ?_)
    · rw [if_pos c7] at h
      exact t_X11_sheet_44 y a1 a2 a3 h F E
    · rw [if_neg c7] at h
      refine v_bipush F (v := (-14)) (dq dkX11_sheet_0 23 rfl) kb_m14 ?_
      cases h
      exact v_iret F E (dq dkX11_sheet_0 24 rfl)
def f_X11_sheet (y : MS) (a1 : Int32) (a2 : Int32) (a3 : Int32) : Option (Int32 × MS) := if (b2i (f_X11_in a1 0 3)) = 0 then (f_X11_sheet_29 y) else (if (b2i (f_X11_in a2 (-1) 2)) = 0 then (f_X11_sheet_29 y) else (if a2 = (-1) then (f_X11_sheet_32 y a1 a2 a3) else (if a3 ≤ 40 then (f_X11_sheet_32 y a1 a2 a3) else (f_X11_sheet_29 y))))
set_option maxRecDepth 100000 in
set_option maxHeartbeats 4000000 in
theorem c_X11_sheet {K : KE} {l : Launch} {R : Int32 × MS} (x : CS) (y : MS) (a1 : Int32) (a2 : Int32) (a3 : Int32) (h : f_X11_sheet y a1 a2 a3 = some R) : MC K l yX11_sheet cX11_sheet 5 (some .int) rm_X11_sheet 0 0 [.ref (K.1 + 61), .int a1, .int a2, .int a3] (xf K x y) (xf K x R.2) (some (.int R.1)) := by
  refine mc_of (ls0 := [(0, .ref (K.1 + 61)), (1, .int a1), (2, .int a2), (3, .int a3)]) (by decide) (Nat.le_of_ble_eq_true rfl) rfl (fun C hl F E => ?_)
  have F : Fx C RX11 cX11_sheet 5 rm_X11_sheet K := F
  unfold f_X11_sheet at h
  refine v_iload_n F (dq dkX11_sheet_0 0 rfl) rfl 1 rfl ?_
  refine v_iconst F (v := 0) (dq dkX11_sheet_0 1 rfl) ki_0 ?_
  refine v_iconst F (v := 3) (dq dkX11_sheet_0 2 rfl) ki_3 ?_
  refine v_callS 3 F (as := [.int a1, .int 0, .int 3]) (st := []) (st1 := (.int (b2i (f_X11_in a1 0 3)) :: [])) (res := (some (.int (b2i (f_X11_in a1 0 3))))) (c_X11_in (l := C.2.1) a1 0 3) (tc15 _ (List.mem_of_getElem? (i := 1) rfl)) (tc15 _ (List.mem_of_getElem? (i := 2) rfl)) (tc1 _ (List.mem_of_getElem? (i := 5) rfl)) (tc15 _ (List.mem_of_getElem? (i := 3) rfl)) (by decide) rfl ⟨rfl, rfl, Nat.le_of_ble_eq_true rfl, Nat.le_of_ble_eq_true rfl⟩ ⟨Nat.le_of_ble_eq_true rfl, Nat.le_of_ble_eq_true rfl⟩ rfl (Nat.le_of_ble_eq_true rfl) rfl rfl rfl (dq dkX11_sheet_0 3 rfl) ?_
  refine v_if_eq F (tgt := 29) (dq dkX11_sheet_0 4 rfl) (by decide) (fun c9 => ?_) (fun c9 => ?_)
  · rw [if_pos c9] at h
    refine v_sub [] rfl ?_
    exact t_X11_sheet_29 y h F E
  · rw [if_neg c9] at h
    refine v_iload_n F (dq dkX11_sheet_0 5 rfl) rfl 2 rfl ?_
    refine v_iconst F (v := (-1)) (dq dkX11_sheet_0 6 rfl) ki_m1 ?_
    refine v_iconst F (v := 2) (dq dkX11_sheet_0 7 rfl) ki_2 ?_
    refine v_callS 3 F (as := [.int a2, .int (-1), .int 2]) (st := []) (st1 := (.int (b2i (f_X11_in a2 (-1) 2)) :: [])) (res := (some (.int (b2i (f_X11_in a2 (-1) 2))))) (c_X11_in (l := C.2.1) a2 (-1) 2) (tc15 _ (List.mem_of_getElem? (i := 1) rfl)) (tc15 _ (List.mem_of_getElem? (i := 2) rfl)) (tc1 _ (List.mem_of_getElem? (i := 5) rfl)) (tc15 _ (List.mem_of_getElem? (i := 3) rfl)) (by decide) rfl ⟨rfl, rfl, Nat.le_of_ble_eq_true rfl, Nat.le_of_ble_eq_true rfl⟩ ⟨Nat.le_of_ble_eq_true rfl, Nat.le_of_ble_eq_true rfl⟩ rfl (Nat.le_of_ble_eq_true rfl) rfl rfl rfl (dq dkX11_sheet_0 8 rfl) ?_
    refine v_if_eq F (tgt := 29) (dq dkX11_sheet_0 9 rfl) (by decide) (fun c11 => ?_) (fun c11 => ?_)
    · rw [if_pos c11] at h
      refine v_sub [] rfl ?_
      exact t_X11_sheet_29 y h F E
    · rw [if_neg c11] at h
      refine v_iload_n F (dq dkX11_sheet_0 10 rfl) rfl 2 rfl ?_
      refine v_iconst F (v := (-1)) (dq dkX11_sheet_0 11 rfl) ki_m1 ?_
      refine v_icmp_eq F (tgt := 32) (dq dkX11_sheet_0 12 rfl) (by decide) (fun c12 => ?_) (fun c12 => ?_)
      · rw [if_pos c12] at h
        exact t_X11_sheet_32 y a1 a2 a3 h F E
      · rw [if_neg c12] at h
        refine v_iload_n F (dq dkX11_sheet_0 13 rfl) rfl 3 rfl ?_
        refine v_bipush F (v := 40) (dq dkX11_sheet_0 14 rfl) kb_40 ?_
        refine v_icmp_le F (tgt := 32) (dq dkX11_sheet_0 15 rfl) (by decide) (fun c13 => ?_) (fun c13 => ?_)
        · rw [if_pos c13] at h
          exact t_X11_sheet_32 y a1 a2 a3 h F E
        · rw [if_neg c13] at h
          refine v_sub [] rfl ?_
          exact t_X11_sheet_29 y h F E
def rm_X11_cell : Room := { frames := 2, cells := 0, slots := 0, locals := 52 }
def f_X11_cell_84 (y : MS) (s0 : Int32) (s1 : Int32) : Option (Int32 × MS) := gd (ib s1 160) (some (1, pi y 79 s1.toNatClampNeg s0))
set_option maxRecDepth 100000 in
set_option maxHeartbeats 4000000 in
theorem t_X11_cell_84 {C : Cx} {K : KE} {x : CS} {R : Int32 × MS}  (y : MS) (s0 : Int32) (s1 : Int32) (h : f_X11_cell_84 y s0 s1 = some R) (F : Fx C RX11 cX11_cell 4 rm_X11_cell K) (E : CE C (xf K x R.2) (some (.int R.1)) 0 0 (some .int)) : V C 84 [] [.int s0, .int s1, .ref (K.1 + 79)] (xf K x y) 0 0 := by
  unfold f_X11_cell_84 at h
  obtain ⟨g1, h⟩ := gd_of h
  refine v_iast F 79 (xn (by decide)) xc_79 (ib_in g1) (dq dkX11_cell_1 12 rfl) ?_
  refine v_eqM (xwM (q := 79) (j := s1.toNatClampNeg) (v := s0) (by decide) (by decide) rfl) ?_
  refine v_iconst F (v := 1) (dq dkX11_cell_1 13 rfl) ki_1 ?_
  cases h
  exact v_iret F E (dq dkX11_cell_1 14 rfl)
def f_X11_cell (y : MS) (a1 : Int32) (a2 : Int32) (a3 : Int32) : Option (Int32 × MS) := if (b2i (f_X11_in a1 0 3)) = 0 then (some ((-2), y)) else (gd (ib a1 4) (if (gi y 77 a1.toNatClampNeg) = (-1) then (some ((-11), y)) else (gd (ib a1 4) (if (b2i (f_X11_in a2 0 ((gi y 78 a1.toNatClampNeg) - 1))) = 0 then (some ((-12), y)) else (gd (ib a1 4) (if (gi y 77 a1.toNatClampNeg) = 0 then (f_X11_cell_84 y a3.toInt8.toInt32 ((40 * a1) + a2)) else (gd (ib a1 4) (if (gi y 77 a1.toNatClampNeg) = 1 then (f_X11_cell_84 y a3.toInt16.toInt32 ((40 * a1) + a2)) else (f_X11_cell_84 y a3 ((40 * a1) + a2))))))))))
set_option maxRecDepth 100000 in
set_option maxHeartbeats 4000000 in
theorem c_X11_cell {K : KE} {l : Launch} {R : Int32 × MS} (x : CS) (y : MS) (a1 : Int32) (a2 : Int32) (a3 : Int32) (h : f_X11_cell y a1 a2 a3 = some R) : MC K l yX11_cell cX11_cell 4 (some .int) rm_X11_cell 0 0 [.ref (K.1 + 61), .int a1, .int a2, .int a3] (xf K x y) (xf K x R.2) (some (.int R.1)) := by
  refine mc_of (ls0 := [(0, .ref (K.1 + 61)), (1, .int a1), (2, .int a2), (3, .int a3)]) (by decide) (Nat.le_of_ble_eq_true rfl) rfl (fun C hl F E => ?_)
  have F : Fx C RX11 cX11_cell 4 rm_X11_cell K := F
  unfold f_X11_cell at h
  refine v_iload_n F (dq dkX11_cell_0 0 rfl) rfl 1 rfl ?_
  refine v_iconst F (v := 0) (dq dkX11_cell_0 1 rfl) ki_0 ?_
  refine v_iconst F (v := 3) (dq dkX11_cell_0 2 rfl) ki_3 ?_
  refine v_callS 3 F (as := [.int a1, .int 0, .int 3]) (st := []) (st1 := (.int (b2i (f_X11_in a1 0 3)) :: [])) (res := (some (.int (b2i (f_X11_in a1 0 3))))) (c_X11_in (l := C.2.1) a1 0 3) (tc15 _ (List.mem_of_getElem? (i := 1) rfl)) (tc15 _ (List.mem_of_getElem? (i := 2) rfl)) (tc1 _ (List.mem_of_getElem? (i := 5) rfl)) (tc15 _ (List.mem_of_getElem? (i := 3) rfl)) (by decide) rfl ⟨rfl, rfl, Nat.le_of_ble_eq_true rfl, Nat.le_of_ble_eq_true rfl⟩ ⟨Nat.le_of_ble_eq_true rfl, Nat.le_of_ble_eq_true rfl⟩ rfl (Nat.le_of_ble_eq_true rfl) rfl rfl rfl (dq dkX11_cell_0 3 rfl) ?_
  refine v_if_ne F (tgt := 12) (dq dkX11_cell_0 4 rfl) (by decide) (fun c3 => ?_) (fun c3 => ?_)
  · rw [if_neg c3] at h
    refine v_aload_n F (dq dkX11_cell_0 7 rfl) rfl 0 rfl ?_
    refine v_get F 61 (xn (by decide)) xc_61 rfl inlX11 28 (by decide) (tc12 _ (List.mem_of_getElem? (i := 12) rfl)) rfl rfl (dq dkX11_cell_0 8 rfl) ?_
    refine v_iload_n F (dq dkX11_cell_0 9 rfl) rfl 1 rfl ?_
    obtain ⟨g4, h⟩ := gd_of h
    refine v_iald F 77 (xn (by decide)) xc_77 (ib_in g4) (dq dkX11_cell_0 10 rfl) ?_
    refine v_iconst F (v := (-1)) (dq dkX11_cell_0 11 rfl) ki_m1 ?_
    refine v_icmp_ne F (tgt := 25) (dq dkX11_cell_0 12 rfl) (by decide) (fun c5 => ?_) (fun c5 => ?_)
    · rw [if_neg c5] at h
      refine v_iload_n F (dq dkX11_cell_0 15 rfl) rfl 2 rfl ?_
      refine v_iconst F (v := 0) (dq dkX11_cell_0 16 rfl) ki_0 ?_
      refine v_aload_n F (dq dkX11_cell_0 17 rfl) rfl 0 rfl ?_
      refine v_get F 61 (xn (by decide)) xc_61 rfl inlX11 29 (by decide) (tc12 _ (List.mem_of_getElem? (i := 13) rfl)) rfl rfl (dq dkX11_cell_0 18 rfl) ?_
      refine v_iload_n F (dq dkX11_cell_0 19 rfl) rfl 1 rfl ?_
      obtain ⟨g6, h⟩ := gd_of h
      refine v_iald F 78 (xn (by decide)) xc_78 (ib_in g6) (dq dkX11_cell_0 20 rfl) ?_
      refine v_iconst F (v := 1) (dq dkX11_cell_0 21 rfl) ki_1 ?_
      refine v_isub F (dq dkX11_cell_0 22 rfl) ?_
      refine v_callS 3 F (as := [.int a2, .int 0, .int ((gi y 78 a1.toNatClampNeg) - 1)]) (st := []) (st1 := (.int (b2i (f_X11_in a2 0 ((gi y 78 a1.toNatClampNeg) - 1))) :: [])) (res := (some (.int (b2i (f_X11_in a2 0 ((gi y 78 a1.toNatClampNeg) - 1)))))) (c_X11_in (l := C.2.1) a2 0 ((gi y 78 a1.toNatClampNeg) - 1)) (tc15 _ (List.mem_of_getElem? (i := 1) rfl)) (tc15 _ (List.mem_of_getElem? (i := 2) rfl)) (tc1 _ (List.mem_of_getElem? (i := 5) rfl)) (tc15 _ (List.mem_of_getElem? (i := 3) rfl)) (by decide) rfl ⟨rfl, rfl, Nat.le_of_ble_eq_true rfl, Nat.le_of_ble_eq_true rfl⟩ ⟨Nat.le_of_ble_eq_true rfl, Nat.le_of_ble_eq_true rfl⟩ rfl (Nat.le_of_ble_eq_true rfl) rfl rfl rfl (dq dkX11_cell_0 23 rfl) ?_
      refine v_if_ne F (tgt := 44) (dq dkX11_cell_0 24 rfl) (by decide) (fun c8 => ?_) (fun c8 => ?_)
      · rw [if_neg c8] at h
        refine v_aload_n F (dq dkX11_cell_0 27 rfl) rfl 0 rfl ?_
        refine v_get F 61 (xn (by decide)) xc_61 rfl inlX11 30 (by decide) (tc12 _ (List.mem_of_getElem? (i := 14) rfl)) rfl rfl (dq dkX11_cell_0 28 rfl) ?_
        refine v_bipush F (v := 40) (dq dkX11_cell_0 29 rfl) kb_40 ?_
        refine v_iload_n F (dq dkX11_cell_0 30 rfl) rfl 1 rfl ?_
        refine v_imul F (dq dkX11_cell_0 31 rfl) ?_
        refine v_iload_n F (dq dkX11_cell_0 32 rfl) rfl 2 rfl ?_
        refine v_iadd F (dq dkX11_cell_0 33 rfl) ?_
        refine v_aload_n F (dq dkX11_cell_0 34 rfl) rfl 0 rfl ?_
        refine v_get F 61 (xn (by decide)) xc_61 rfl inlX11 28 (by decide) (tc12 _ (List.mem_of_getElem? (i := 12) rfl)) rfl rfl (dq dkX11_cell_0 35 rfl) ?_
        refine v_iload_n F (dq dkX11_cell_0 36 rfl) rfl 1 rfl ?_
        obtain ⟨g9, h⟩ := gd_of h
        refine v_iald F 77 (xn (by decide)) xc_77 (ib_in g9) (dq dkX11_cell_0 37 rfl) ?_
        refine v_if_ne F (tgt := 68) (dq dkX11_cell_0 38 rfl) (by decide) (fun c10 => ?_) (fun c10 => ?_)
        · rw [if_neg c10] at h
          refine v_aload_n F (dq dkX11_cell_1 2 rfl) rfl 0 rfl ?_
          refine v_get F 61 (xn (by decide)) xc_61 rfl inlX11 28 (by decide) (tc12 _ (List.mem_of_getElem? (i := 12) rfl)) rfl rfl (dq dkX11_cell_1 3 rfl) ?_
          refine v_iload_n F (dq dkX11_cell_1 4 rfl) rfl 1 rfl ?_
          obtain ⟨g11, h⟩ := gd_of h
          refine v_iald F 77 (xn (by decide)) xc_77 (ib_in g11) (dq dkX11_cell_1 5 rfl) ?_
          refine v_iconst F (v := 1) (dq dkX11_cell_1 6 rfl) ki_1 ?_
          refine v_icmp_ne F (tgt := 83) (dq dkX11_cell_1 7 rfl) (by decide) (fun c12 => ?_) (fun c12 => ?_)
          · rw [if_neg c12] at h
            refine v_iload_n F (dq dkX11_cell_1 11 rfl) rfl 3 rfl ?_
            refine v_sub [] rfl ?_
            exact t_X11_cell_84 y a3 ((40 * a1) + a2) h F E
          · rw [if_pos c12] at h
            refine v_iload_n F (dq dkX11_cell_1 8 rfl) rfl 3 rfl ?_
            refine v_i2s F (dq dkX11_cell_1 9 rfl) ?_
            refine v_goto F (tgt := 84) (dq dkX11_cell_1 10 rfl) (by decide) ?_
            refine v_sub [] rfl ?_
            exact t_X11_cell_84 y a3.toInt16.toInt32 ((40 * a1) + a2) h F E
        · rw [if_pos c10] at h
          refine v_iload_n F (dq dkX11_cell_0 39 rfl) rfl 3 rfl ?_
          refine v_i2b F (dq dkX11_cell_1 0 rfl) ?_
          refine v_goto F (tgt := 84) (dq dkX11_cell_1 1 rfl) (by decide) ?_
          refine v_sub [] rfl ?_
          exact t_X11_cell_84 y a3.toInt8.toInt32 ((40 * a1) + a2) h F E
      · rw [if_pos c8] at h
        refine v_bipush F (v := (-12)) (dq dkX11_cell_0 25 rfl) kb_m12 ?_
        cases h
        exact v_iret F E (dq dkX11_cell_0 26 rfl)
    · rw [if_pos c5] at h
      refine v_bipush F (v := (-11)) (dq dkX11_cell_0 13 rfl) kb_m11 ?_
      cases h
      exact v_iret F E (dq dkX11_cell_0 14 rfl)
  · rw [if_pos c3] at h
    refine v_bipush F (v := (-2)) (dq dkX11_cell_0 5 rfl) kb_m2 ?_
    cases h
    exact v_iret F E (dq dkX11_cell_0 6 rfl)
def rm_X11_copy : Room := { frames := 2, cells := 0, slots := 0, locals := 52 }
def f_X11_copy_18 (y : MS) : Option (Int32 × MS) := some ((-2), y)
set_option maxRecDepth 100000 in
set_option maxHeartbeats 4000000 in
theorem t_X11_copy_18 {C : Cx} {K : KE} {x : CS} {R : Int32 × MS}  (y : MS) (h : f_X11_copy_18 y = some R) (F : Fx C RX11 cX11_copy 10 rm_X11_copy K) (E : CE C (xf K x R.2) (some (.int R.1)) 0 0 (some .int)) : V C 18 [] [] (xf K x y) 0 0 := by
  unfold f_X11_copy_18 at h
  refine v_bipush F (v := (-2)) (dq dkX11_copy_0 10 rfl) kb_m2 ?_
  cases h
  exact v_iret F E (dq dkX11_copy_0 11 rfl)
def f_X11_copy_41 (y : MS) : Option (Int32 × MS) := some ((-11), y)
set_option maxRecDepth 100000 in
set_option maxHeartbeats 4000000 in
theorem t_X11_copy_41 {C : Cx} {K : KE} {x : CS} {R : Int32 × MS}  (y : MS) (h : f_X11_copy_41 y = some R) (F : Fx C RX11 cX11_copy 10 rm_X11_copy K) (E : CE C (xf K x R.2) (some (.int R.1)) 0 0 (some .int)) : V C 41 [] [] (xf K x y) 0 0 := by
  unfold f_X11_copy_41 at h
  refine v_bipush F (v := (-11)) (dq dkX11_copy_0 24 rfl) kb_m11 ?_
  cases h
  exact v_iret F E (dq dkX11_copy_0 25 rfl)
def f_X11_copy_124 (y : MS) : Option (Int32 × MS) := some ((-12), y)
set_option maxRecDepth 100000 in
set_option maxHeartbeats 4000000 in
theorem t_X11_copy_124 {C : Cx} {K : KE} {x : CS} {R : Int32 × MS}  (y : MS) (h : f_X11_copy_124 y = some R) (F : Fx C RX11 cX11_copy 10 rm_X11_copy K) (E : CE C (xf K x R.2) (some (.int R.1)) 0 0 (some .int)) : V C 124 [] [] (xf K x y) 0 0 := by
  unfold f_X11_copy_124 at h
  refine v_bipush F (v := (-12)) (dq dkX11_copy_1 31 rfl) kb_m12 ?_
  cases h
  exact v_iret F E (dq dkX11_copy_1 32 rfl)
def f_X11_copy_173 (k147 : MS → Int32 → Int32 → Int32 → Int32 → Option (Int32 × MS)) (y : MS) (a5 : Int32) (a6 : Int32) (a7 : Int32) (a8 : Int32) (s0 : Int32) : Option (Int32 × MS) := gd (ib (a6 + s0) 160) (gd (ib (a7 + s0) 160) (k147 (pi y 79 ((a7 + s0).toNatClampNeg) (gi y 79 (a6 + s0).toNatClampNeg)) a5 a6 a7 (a8 + 1)))
set_option maxRecDepth 100000 in
set_option maxHeartbeats 4000000 in
theorem t_X11_copy_173 {C : Cx} {K : KE} {x : CS} {R : Int32 × MS}  (k147 : MS → Int32 → Int32 → Int32 → Int32 → Option (Int32 × MS)) (y : MS) (a5 : Int32) (a6 : Int32) (a7 : Int32) (a8 : Int32) (s0 : Int32) (hk147 : ∀ (y : MS) (a5 : Int32) (a6 : Int32) (a7 : Int32) (a8 : Int32), k147 y a5 a6 a7 a8 = some R → V C 147 [(0, .ref (K.1 + 61)), (5, .int a5), (6, .int a6), (7, .int a7), (8, .int a8)] [] (xf K x y) 0 0) (h : f_X11_copy_173 k147 y a5 a6 a7 a8 s0 = some R) (F : Fx C RX11 cX11_copy 10 rm_X11_copy K) (E : CE C (xf K x R.2) (some (.int R.1)) 0 0 (some .int)) : V C 173 [(0, .ref (K.1 + 61)), (5, .int a5), (6, .int a6), (7, .int a7), (8, .int a8)] [.int s0] (xf K x y) 0 0 := by
  unfold f_X11_copy_173 at h
  refine v_istore F (ls' := [(9, .int s0), (0, .ref (K.1 + 61)), (5, .int a5), (6, .int a6), (7, .int a7), (8, .int a8)]) (dq dkX11_copy_2 20 rfl) (by decide) rfl ?_
  refine v_aload_n F (dq dkX11_copy_2 21 rfl) rfl 1 rfl ?_
  refine v_get F 61 (xn (by decide)) xc_61 rfl inlX11 30 (by decide) (tc12 _ (List.mem_of_getElem? (i := 14) rfl)) rfl rfl (dq dkX11_copy_2 22 rfl) ?_
  refine v_iload F (dq dkX11_copy_2 23 rfl) 4 rfl ?_
  refine v_iload F (dq dkX11_copy_2 24 rfl) 0 rfl ?_
  refine v_iadd F (dq dkX11_copy_2 25 rfl) ?_
  refine v_aload_n F (dq dkX11_copy_2 26 rfl) rfl 1 rfl ?_
  refine v_get F 61 (xn (by decide)) xc_61 rfl inlX11 30 (by decide) (tc12 _ (List.mem_of_getElem? (i := 14) rfl)) rfl rfl (dq dkX11_copy_2 27 rfl) ?_
  refine v_iload F (dq dkX11_copy_2 28 rfl) 3 rfl ?_
  refine v_iload F (dq dkX11_copy_2 29 rfl) 0 rfl ?_
  refine v_iadd F (dq dkX11_copy_2 30 rfl) ?_
  obtain ⟨g1, h⟩ := gd_of h
  refine v_iald F 79 (xn (by decide)) xc_79 (ib_in g1) (dq dkX11_copy_2 31 rfl) ?_
  obtain ⟨g2, h⟩ := gd_of h
  refine v_iast F 79 (xn (by decide)) xc_79 (ib_in g2) (dq dkX11_copy_2 32 rfl) ?_
  refine v_eqM (xwM (q := 79) (j := (a7 + s0).toNatClampNeg) (v := gi y 79 (a6 + s0).toNatClampNeg) (by decide) (by decide) rfl) ?_
  refine v_iinc F (v := a8 + 1) (ls' := [(8, .int (a8 + 1)), (9, .int s0), (0, .ref (K.1 + 61)), (5, .int a5), (6, .int a6), (7, .int a7)]) (dq dkX11_copy_2 33 rfl) (j := 5) rfl (kv_add ki_1) (by decide) rfl ?_
  refine v_goto F (tgt := 147) (dq dkX11_copy_2 34 rfl) (by decide) ?_
  refine v_sub [2, 3, 4, 5, 0] rfl ?_
  exact hk147 (pi y 79 ((a7 + s0).toNatClampNeg) (gi y 79 (a6 + s0).toNatClampNeg)) a5 a6 a7 (a8 + 1) h
def f_X11_copy_147 : Nat → MS → Int32 → Int32 → Int32 → Int32 → Option (Int32 × MS)
  | 0, _, _, _, _, _ => none
  | n + 1, y, a5, a6, a7, a8 => if a5 ≤ a8 then (some (a5, y)) else (if a7 ≤ a6 then (f_X11_copy_173 (f_X11_copy_147 n) y a5 a6 a7 a8 a8) else (f_X11_copy_173 (f_X11_copy_147 n) y a5 a6 a7 a8 ((a5 - 1) - a8)))
set_option maxRecDepth 100000 in
set_option maxHeartbeats 4000000 in
theorem t_X11_copy_147 {C : Cx} {K : KE} {x : CS} {R : Int32 × MS}  (F : Fx C RX11 cX11_copy 10 rm_X11_copy K) (E : CE C (xf K x R.2) (some (.int R.1)) 0 0 (some .int)) : ∀ (n : Nat) (y : MS) (a5 : Int32) (a6 : Int32) (a7 : Int32) (a8 : Int32) (h : f_X11_copy_147 n y a5 a6 a7 a8 = some R), V C 147 [(0, .ref (K.1 + 61)), (5, .int a5), (6, .int a6), (7, .int a7), (8, .int a8)] [] (xf K x y) 0 0 := by
  intro n
  induction n with
  | zero => intro y a5 a6 a7 a8 h; cases h
  | succ n ih =>
    intro y a5 a6 a7 a8 h
    rw [f_X11_copy_147] at h
    refine v_iload F (dq dkX11_copy_2 7 rfl) 4 rfl ?_
    refine v_iload F (dq dkX11_copy_2 8 rfl) 1 rfl ?_
    refine v_icmp_ge F (tgt := 201) (dq dkX11_copy_2 9 rfl) (by decide) (fun c3 => ?_) (fun c3 => ?_)
    · rw [if_pos c3] at h
      refine v_iload F (dq dkX11_copy_2 35 rfl) 1 rfl ?_
      cases h
      exact v_iret F E (dq dkX11_copy_2 36 rfl)
    · rw [if_neg c3] at h
      refine v_iload F (dq dkX11_copy_2 10 rfl) 2 rfl ?_
      refine v_iload F (dq dkX11_copy_2 11 rfl) 3 rfl ?_
      refine v_icmp_ge F (tgt := 171) (dq dkX11_copy_2 12 rfl) (by decide) (fun c4 => ?_) (fun c4 => ?_)
      · rw [if_pos c4] at h
        refine v_iload F (dq dkX11_copy_2 19 rfl) 4 rfl ?_
        exact t_X11_copy_173 (f_X11_copy_147 n) y a5 a6 a7 a8 a8 ih h F E
      · rw [if_neg c4] at h
        refine v_iload F (dq dkX11_copy_2 13 rfl) 1 rfl ?_
        refine v_iconst F (v := 1) (dq dkX11_copy_2 14 rfl) ki_1 ?_
        refine v_isub F (dq dkX11_copy_2 15 rfl) ?_
        refine v_iload F (dq dkX11_copy_2 16 rfl) 4 rfl ?_
        refine v_isub F (dq dkX11_copy_2 17 rfl) ?_
        refine v_goto F (tgt := 173) (dq dkX11_copy_2 18 rfl) (by decide) ?_
        exact t_X11_copy_173 (f_X11_copy_147 n) y a5 a6 a7 a8 ((a5 - 1) - a8) ih h F E
def f_X11_copy (y : MS) (a1 : Int32) (a2 : Int32) (a3 : Int32) (a4 : Int32) (a5 : Int32) : Option (Int32 × MS) := if (b2i (f_X11_in a1 0 3)) = 0 then (f_X11_copy_18 y) else (if (b2i (f_X11_in a3 0 3)) = 0 then (f_X11_copy_18 y) else (gd (ib a1 4) (if (gi y 77 a1.toNatClampNeg) = (-1) then (f_X11_copy_41 y) else (gd (ib a3 4) (if (gi y 77 a3.toNatClampNeg) = (-1) then (f_X11_copy_41 y) else (gd (ib a1 4) (gd (ib a3 4) (if (gi y 77 a1.toNatClampNeg) = (gi y 77 a3.toNatClampNeg) then (if a5 < 0 then (f_X11_copy_124 y) else (if a2 < 0 then (f_X11_copy_124 y) else (if a4 < 0 then (f_X11_copy_124 y) else (gd (ib a1 4) (if (gi y 78 a1.toNatClampNeg) < a2 then (f_X11_copy_124 y) else (gd (ib a3 4) (if (gi y 78 a3.toNatClampNeg) < a4 then (f_X11_copy_124 y) else (gd (ib a1 4) (if ((gi y 78 a1.toNatClampNeg) - a2) < a5 then (f_X11_copy_124 y) else (gd (ib a3 4) (if a5 ≤ ((gi y 78 a3.toNatClampNeg) - a4) then (f_X11_copy_147 1000 y a5 ((40 * a1) + a2) ((40 * a3) + a4) 0) else (f_X11_copy_124 y)))))))))))) else (some ((-13), y))))))))))
set_option maxRecDepth 100000 in
set_option maxHeartbeats 4000000 in
theorem c_X11_copy {K : KE} {l : Launch} {R : Int32 × MS} (x : CS) (y : MS) (a1 : Int32) (a2 : Int32) (a3 : Int32) (a4 : Int32) (a5 : Int32) (h : f_X11_copy y a1 a2 a3 a4 a5 = some R) : MC K l yX11_copy cX11_copy 10 (some .int) rm_X11_copy 0 0 [.ref (K.1 + 61), .int a1, .int a2, .int a3, .int a4, .int a5] (xf K x y) (xf K x R.2) (some (.int R.1)) := by
  refine mc_of (ls0 := [(0, .ref (K.1 + 61)), (1, .int a1), (2, .int a2), (3, .int a3), (4, .int a4), (5, .int a5)]) (by decide) (Nat.le_of_ble_eq_true rfl) rfl (fun C hl F E => ?_)
  have F : Fx C RX11 cX11_copy 10 rm_X11_copy K := F
  unfold f_X11_copy at h
  refine v_iload_n F (dq dkX11_copy_0 0 rfl) rfl 1 rfl ?_
  refine v_iconst F (v := 0) (dq dkX11_copy_0 1 rfl) ki_0 ?_
  refine v_iconst F (v := 3) (dq dkX11_copy_0 2 rfl) ki_3 ?_
  refine v_callS 3 F (as := [.int a1, .int 0, .int 3]) (st := []) (st1 := (.int (b2i (f_X11_in a1 0 3)) :: [])) (res := (some (.int (b2i (f_X11_in a1 0 3))))) (c_X11_in (l := C.2.1) a1 0 3) (tc15 _ (List.mem_of_getElem? (i := 1) rfl)) (tc15 _ (List.mem_of_getElem? (i := 2) rfl)) (tc1 _ (List.mem_of_getElem? (i := 5) rfl)) (tc15 _ (List.mem_of_getElem? (i := 3) rfl)) (by decide) rfl ⟨rfl, rfl, Nat.le_of_ble_eq_true rfl, Nat.le_of_ble_eq_true rfl⟩ ⟨Nat.le_of_ble_eq_true rfl, Nat.le_of_ble_eq_true rfl⟩ rfl (Nat.le_of_ble_eq_true rfl) rfl rfl rfl (dq dkX11_copy_0 3 rfl) ?_
  refine v_if_eq F (tgt := 18) (dq dkX11_copy_0 4 rfl) (by decide) (fun c6 => ?_) (fun c6 => ?_)
  · rw [if_pos c6] at h
    refine v_sub [] rfl ?_
    exact t_X11_copy_18 y h F E
  · rw [if_neg c6] at h
    refine v_iload_n F (dq dkX11_copy_0 5 rfl) rfl 3 rfl ?_
    refine v_iconst F (v := 0) (dq dkX11_copy_0 6 rfl) ki_0 ?_
    refine v_iconst F (v := 3) (dq dkX11_copy_0 7 rfl) ki_3 ?_
    refine v_callS 3 F (as := [.int a3, .int 0, .int 3]) (st := []) (st1 := (.int (b2i (f_X11_in a3 0 3)) :: [])) (res := (some (.int (b2i (f_X11_in a3 0 3))))) (c_X11_in (l := C.2.1) a3 0 3) (tc15 _ (List.mem_of_getElem? (i := 1) rfl)) (tc15 _ (List.mem_of_getElem? (i := 2) rfl)) (tc1 _ (List.mem_of_getElem? (i := 5) rfl)) (tc15 _ (List.mem_of_getElem? (i := 3) rfl)) (by decide) rfl ⟨rfl, rfl, Nat.le_of_ble_eq_true rfl, Nat.le_of_ble_eq_true rfl⟩ ⟨Nat.le_of_ble_eq_true rfl, Nat.le_of_ble_eq_true rfl⟩ rfl (Nat.le_of_ble_eq_true rfl) rfl rfl rfl (dq dkX11_copy_0 8 rfl) ?_
    refine v_if_ne F (tgt := 21) (dq dkX11_copy_0 9 rfl) (by decide) (fun c8 => ?_) (fun c8 => ?_)
    · rw [if_neg c8] at h
      refine v_aload_n F (dq dkX11_copy_0 12 rfl) rfl 0 rfl ?_
      refine v_get F 61 (xn (by decide)) xc_61 rfl inlX11 28 (by decide) (tc12 _ (List.mem_of_getElem? (i := 12) rfl)) rfl rfl (dq dkX11_copy_0 13 rfl) ?_
      refine v_iload_n F (dq dkX11_copy_0 14 rfl) rfl 1 rfl ?_
      obtain ⟨g9, h⟩ := gd_of h
      refine v_iald F 77 (xn (by decide)) xc_77 (ib_in g9) (dq dkX11_copy_0 15 rfl) ?_
      refine v_iconst F (v := (-1)) (dq dkX11_copy_0 16 rfl) ki_m1 ?_
      refine v_icmp_eq F (tgt := 41) (dq dkX11_copy_0 17 rfl) (by decide) (fun c10 => ?_) (fun c10 => ?_)
      · rw [if_pos c10] at h
        refine v_sub [] rfl ?_
        exact t_X11_copy_41 y h F E
      · rw [if_neg c10] at h
        refine v_aload_n F (dq dkX11_copy_0 18 rfl) rfl 0 rfl ?_
        refine v_get F 61 (xn (by decide)) xc_61 rfl inlX11 28 (by decide) (tc12 _ (List.mem_of_getElem? (i := 12) rfl)) rfl rfl (dq dkX11_copy_0 19 rfl) ?_
        refine v_iload_n F (dq dkX11_copy_0 20 rfl) rfl 3 rfl ?_
        obtain ⟨g11, h⟩ := gd_of h
        refine v_iald F 77 (xn (by decide)) xc_77 (ib_in g11) (dq dkX11_copy_0 21 rfl) ?_
        refine v_iconst F (v := (-1)) (dq dkX11_copy_0 22 rfl) ki_m1 ?_
        refine v_icmp_ne F (tgt := 44) (dq dkX11_copy_0 23 rfl) (by decide) (fun c12 => ?_) (fun c12 => ?_)
        · rw [if_neg c12] at h
          refine v_aload_n F (dq dkX11_copy_0 26 rfl) rfl 0 rfl ?_
          refine v_get F 61 (xn (by decide)) xc_61 rfl inlX11 28 (by decide) (tc12 _ (List.mem_of_getElem? (i := 12) rfl)) rfl rfl (dq dkX11_copy_0 27 rfl) ?_
          refine v_iload_n F (dq dkX11_copy_0 28 rfl) rfl 1 rfl ?_
          obtain ⟨g13, h⟩ := gd_of h
          refine v_iald F 77 (xn (by decide)) xc_77 (ib_in g13) (dq dkX11_copy_0 29 rfl) ?_
          refine v_aload_n F (dq dkX11_copy_0 30 rfl) rfl 0 rfl ?_
          refine v_get F 61 (xn (by decide)) xc_61 rfl inlX11 28 (by decide) (tc12 _ (List.mem_of_getElem? (i := 12) rfl)) rfl rfl (dq dkX11_copy_0 31 rfl) ?_
          refine v_iload_n F (dq dkX11_copy_0 32 rfl) rfl 3 rfl ?_
          obtain ⟨g14, h⟩ := gd_of h
          refine v_iald F 77 (xn (by decide)) xc_77 (ib_in g14) (dq dkX11_copy_0 33 rfl) ?_
          refine v_icmp_eq F (tgt := 62) (dq dkX11_copy_0 34 rfl) (by decide) (fun c15 => ?_) (fun c15 => ?_)
          · rw [if_pos c15] at h
            refine v_iload F (dq dkX11_copy_0 37 rfl) 5 rfl ?_
            refine v_if_lt F (tgt := 124) (dq dkX11_copy_0 38 rfl) (by decide) (fun c16 => ?_) (fun c16 => ?_)
            · rw [if_pos c16] at h
              refine v_sub [] rfl ?_
              exact t_X11_copy_124 y h F E
            · rw [if_neg c16] at h
              refine v_iload_n F (dq dkX11_copy_0 39 rfl) rfl 2 rfl ?_
              refine v_if_lt F (tgt := 124) (dq dkX11_copy_1 0 rfl) (by decide) (fun c17 => ?_) (fun c17 => ?_)
              · rw [if_pos c17] at h
                refine v_sub [] rfl ?_
                exact t_X11_copy_124 y h F E
              · rw [if_neg c17] at h
                refine v_iload F (dq dkX11_copy_1 1 rfl) 4 rfl ?_
                refine v_if_lt F (tgt := 124) (dq dkX11_copy_1 2 rfl) (by decide) (fun c18 => ?_) (fun c18 => ?_)
                · rw [if_pos c18] at h
                  refine v_sub [] rfl ?_
                  exact t_X11_copy_124 y h F E
                · rw [if_neg c18] at h
                  refine v_iload_n F (dq dkX11_copy_1 3 rfl) rfl 2 rfl ?_
                  refine v_aload_n F (dq dkX11_copy_1 4 rfl) rfl 0 rfl ?_
                  refine v_get F 61 (xn (by decide)) xc_61 rfl inlX11 29 (by decide) (tc12 _ (List.mem_of_getElem? (i := 13) rfl)) rfl rfl (dq dkX11_copy_1 5 rfl) ?_
                  refine v_iload_n F (dq dkX11_copy_1 6 rfl) rfl 1 rfl ?_
                  obtain ⟨g19, h⟩ := gd_of h
                  refine v_iald F 78 (xn (by decide)) xc_78 (ib_in g19) (dq dkX11_copy_1 7 rfl) ?_
                  refine v_icmp_gt F (tgt := 124) (dq dkX11_copy_1 8 rfl) (by decide) (fun c20 => ?_) (fun c20 => ?_)
                  · rw [if_pos c20] at h
                    refine v_sub [] rfl ?_
                    exact t_X11_copy_124 y h F E
                  · rw [if_neg c20] at h
                    refine v_iload F (dq dkX11_copy_1 9 rfl) 4 rfl ?_
                    refine v_aload_n F (dq dkX11_copy_1 10 rfl) rfl 0 rfl ?_
                    refine v_get F 61 (xn (by decide)) xc_61 rfl inlX11 29 (by decide) (tc12 _ (List.mem_of_getElem? (i := 13) rfl)) rfl rfl (dq dkX11_copy_1 11 rfl) ?_
                    refine v_iload_n F (dq dkX11_copy_1 12 rfl) rfl 3 rfl ?_
                    obtain ⟨g21, h⟩ := gd_of h
                    refine v_iald F 78 (xn (by decide)) xc_78 (ib_in g21) (dq dkX11_copy_1 13 rfl) ?_
                    refine v_icmp_gt F (tgt := 124) (dq dkX11_copy_1 14 rfl) (by decide) (fun c22 => ?_) (fun c22 => ?_)
                    · rw [if_pos c22] at h
                      refine v_sub [] rfl ?_
                      exact t_X11_copy_124 y h F E
                    · rw [if_neg c22] at h
                      refine v_iload F (dq dkX11_copy_1 15 rfl) 5 rfl ?_
                      refine v_aload_n F (dq dkX11_copy_1 16 rfl) rfl 0 rfl ?_
                      refine v_get F 61 (xn (by decide)) xc_61 rfl inlX11 29 (by decide) (tc12 _ (List.mem_of_getElem? (i := 13) rfl)) rfl rfl (dq dkX11_copy_1 17 rfl) ?_
                      refine v_iload_n F (dq dkX11_copy_1 18 rfl) rfl 1 rfl ?_
                      obtain ⟨g23, h⟩ := gd_of h
                      refine v_iald F 78 (xn (by decide)) xc_78 (ib_in g23) (dq dkX11_copy_1 19 rfl) ?_
                      refine v_iload_n F (dq dkX11_copy_1 20 rfl) rfl 2 rfl ?_
                      refine v_isub F (dq dkX11_copy_1 21 rfl) ?_
                      refine v_icmp_gt F (tgt := 124) (dq dkX11_copy_1 22 rfl) (by decide) (fun c24 => ?_) (fun c24 => ?_)
                      · rw [if_pos c24] at h
                        refine v_sub [] rfl ?_
                        exact t_X11_copy_124 y h F E
                      · rw [if_neg c24] at h
                        refine v_iload F (dq dkX11_copy_1 23 rfl) 5 rfl ?_
                        refine v_aload_n F (dq dkX11_copy_1 24 rfl) rfl 0 rfl ?_
                        refine v_get F 61 (xn (by decide)) xc_61 rfl inlX11 29 (by decide) (tc12 _ (List.mem_of_getElem? (i := 13) rfl)) rfl rfl (dq dkX11_copy_1 25 rfl) ?_
                        refine v_iload_n F (dq dkX11_copy_1 26 rfl) rfl 3 rfl ?_
                        obtain ⟨g25, h⟩ := gd_of h
                        refine v_iald F 78 (xn (by decide)) xc_78 (ib_in g25) (dq dkX11_copy_1 27 rfl) ?_
                        refine v_iload F (dq dkX11_copy_1 28 rfl) 4 rfl ?_
                        refine v_isub F (dq dkX11_copy_1 29 rfl) ?_
                        refine v_icmp_le F (tgt := 127) (dq dkX11_copy_1 30 rfl) (by decide) (fun c26 => ?_) (fun c26 => ?_)
                        · rw [if_pos c26] at h
                          refine v_bipush F (v := 40) (dq dkX11_copy_1 33 rfl) kb_40 ?_
                          refine v_iload_n F (dq dkX11_copy_1 34 rfl) rfl 1 rfl ?_
                          refine v_imul F (dq dkX11_copy_1 35 rfl) ?_
                          refine v_iload_n F (dq dkX11_copy_1 36 rfl) rfl 2 rfl ?_
                          refine v_iadd F (dq dkX11_copy_1 37 rfl) ?_
                          refine v_istore F (ls' := [(6, .int ((40 * a1) + a2)), (0, .ref (K.1 + 61)), (1, .int a1), (2, .int a2), (3, .int a3), (4, .int a4), (5, .int a5)]) (dq dkX11_copy_1 38 rfl) (by decide) rfl ?_
                          refine v_bipush F (v := 40) (dq dkX11_copy_1 39 rfl) kb_40 ?_
                          refine v_iload_n F (dq dkX11_copy_2 0 rfl) rfl 4 rfl ?_
                          refine v_imul F (dq dkX11_copy_2 1 rfl) ?_
                          refine v_iload F (dq dkX11_copy_2 2 rfl) 5 rfl ?_
                          refine v_iadd F (dq dkX11_copy_2 3 rfl) ?_
                          refine v_istore F (ls' := [(7, .int ((40 * a3) + a4)), (6, .int ((40 * a1) + a2)), (0, .ref (K.1 + 61)), (1, .int a1), (2, .int a2), (3, .int a3), (4, .int a4), (5, .int a5)]) (dq dkX11_copy_2 4 rfl) (by decide) rfl ?_
                          refine v_iconst F (v := 0) (dq dkX11_copy_2 5 rfl) ki_0 ?_
                          refine v_istore F (ls' := [(8, .int 0), (7, .int ((40 * a3) + a4)), (6, .int ((40 * a1) + a2)), (0, .ref (K.1 + 61)), (1, .int a1), (2, .int a2), (3, .int a3), (4, .int a4), (5, .int a5)]) (dq dkX11_copy_2 6 rfl) (by decide) rfl ?_
                          refine v_sub [3, 8, 2, 1, 0] rfl ?_
                          exact t_X11_copy_147 F E 1000 y a5 ((40 * a1) + a2) ((40 * a3) + a4) 0 h
                        · rw [if_neg c26] at h
                          refine v_sub [] rfl ?_
                          exact t_X11_copy_124 y h F E
          · rw [if_neg c15] at h
            refine v_bipush F (v := (-13)) (dq dkX11_copy_0 35 rfl) kb_m13 ?_
            cases h
            exact v_iret F E (dq dkX11_copy_0 36 rfl)
        · rw [if_pos c12] at h
          refine v_sub [] rfl ?_
          exact t_X11_copy_41 y h F E
    · rw [if_pos c8] at h
      refine v_sub [] rfl ?_
      exact t_X11_copy_18 y h F E
def rm_X11_worksBy : Room := { frames := 3, cells := 0, slots := 0, locals := 75 }
def f_X11_worksBy_29 (y : MS) : Option (Int32 × MS) := some ((-2), y)
set_option maxRecDepth 100000 in
set_option maxHeartbeats 4000000 in
theorem t_X11_worksBy_29 {C : Cx} {K : KE} {x : CS} {R : Int32 × MS}  (y : MS) (h : f_X11_worksBy_29 y = some R) (F : Fx C RX11 cX11_worksBy 9 rm_X11_worksBy K) (E : CE C (xf K x R.2) (some (.int R.1)) 0 0 (some .int)) : V C 29 [] [] (xf K x y) 0 0 := by
  unfold f_X11_worksBy_29 at h
  refine v_bipush F (v := (-2)) (dq dkX11_worksBy_0 15 rfl) kb_m2 ?_
  cases h
  exact v_iret F E (dq dkX11_worksBy_0 16 rfl)
def f_X11_worksBy_102 (y : MS) : Option (Int32 × MS) := some ((-12), y)
set_option maxRecDepth 100000 in
set_option maxHeartbeats 4000000 in
theorem t_X11_worksBy_102 {C : Cx} {K : KE} {x : CS} {R : Int32 × MS}  (y : MS) (h : f_X11_worksBy_102 y = some R) (F : Fx C RX11 cX11_worksBy 9 rm_X11_worksBy K) (E : CE C (xf K x R.2) (some (.int R.1)) 0 0 (some .int)) : V C 102 [] [] (xf K x y) 0 0 := by
  unfold f_X11_worksBy_102 at h
  refine v_bipush F (v := (-12)) (dq dkX11_worksBy_1 19 rfl) kb_m12 ?_
  cases h
  exact v_iret F E (dq dkX11_worksBy_1 20 rfl)
def f_X11_worksBy_153 (k64 : MS → Int32 → Int32 → Int32 → Int32 → Int32 → Option (Int32 × MS)) (y : MS) (a1 : Int32) (a3 : Int32) (a4 : Int32) (a6 : Int32) (s0 : Int32) (s1 : Int32) : Option (Int32 × MS) := k64 y a1 a3 a4 (s1 + s0) (a6 + 1)
set_option maxRecDepth 100000 in
set_option maxHeartbeats 4000000 in
theorem t_X11_worksBy_153 {C : Cx} {K : KE} {x : CS} {R : Int32 × MS}  (k64 : MS → Int32 → Int32 → Int32 → Int32 → Int32 → Option (Int32 × MS)) (y : MS) (a1 : Int32) (a3 : Int32) (a4 : Int32) (a6 : Int32) (s0 : Int32) (s1 : Int32) (hk64 : ∀ (y : MS) (a1 : Int32) (a3 : Int32) (a4 : Int32) (a5 : Int32) (a6 : Int32), k64 y a1 a3 a4 a5 a6 = some R → V C 64 [(0, .ref (K.1 + 61)), (1, .int a1), (3, .int a3), (4, .int a4), (5, .int a5), (6, .int a6)] [] (xf K x y) 0 0) (h : f_X11_worksBy_153 k64 y a1 a3 a4 a6 s0 s1 = some R) (F : Fx C RX11 cX11_worksBy 9 rm_X11_worksBy K) (E : CE C (xf K x R.2) (some (.int R.1)) 0 0 (some .int)) : V C 153 [(0, .ref (K.1 + 61)), (1, .int a1), (3, .int a3), (4, .int a4), (6, .int a6)] [.int s0, .int s1] (xf K x y) 0 0 := by
  unfold f_X11_worksBy_153 at h
  refine v_iadd F (dq dkX11_worksBy_2 10 rfl) ?_
  refine v_istore F (ls' := [(5, .int (s1 + s0)), (0, .ref (K.1 + 61)), (1, .int a1), (3, .int a3), (4, .int a4), (6, .int a6)]) (dq dkX11_worksBy_2 11 rfl) (by decide) rfl ?_
  refine v_iinc F (v := a6 + 1) (ls' := [(6, .int (a6 + 1)), (5, .int (s1 + s0)), (0, .ref (K.1 + 61)), (1, .int a1), (3, .int a3), (4, .int a4)]) (dq dkX11_worksBy_2 12 rfl) (j := 5) rfl (kv_add ki_1) (by decide) rfl ?_
  refine v_goto F (tgt := 64) (dq dkX11_worksBy_2 13 rfl) (by decide) ?_
  refine v_sub [2, 3, 4, 5, 1, 0] rfl ?_
  exact hk64 y a1 a3 a4 (s1 + s0) (a6 + 1) h
def f_X11_worksBy_64 : Nat → MS → Int32 → Int32 → Int32 → Int32 → Int32 → Option (Int32 × MS)
  | 0, _, _, _, _, _, _ => none
  | n + 1, y, a1, a3, a4, a5, a6 => if a4 ≤ a6 then (some (a5, y)) else (if a3 < 0 then (f_X11_worksBy_102 y) else (if (a3 + (3 * a6)) < a3 then (f_X11_worksBy_102 y) else (gd (ib a1 4) (if (a3 + (3 * a6)) ≤ ((gi y 78 a1.toNatClampNeg) - 3) then (gd (ib ((40 * a1) + (a3 + (3 * a6))) 160) (gd (ib (((40 * a1) + (a3 + (3 * a6))) + 1) 160) (gd (ib (((40 * a1) + (a3 + (3 * a6))) + 2) 160) ((f_X11_work y (gi y 79 ((40 * a1) + (a3 + (3 * a6))).toNatClampNeg) (gi y 79 (((40 * a1) + (a3 + (3 * a6))) + 1).toNatClampNeg) (gi y 79 (((40 * a1) + (a3 + (3 * a6))) + 2).toNatClampNeg)).bind fun r9 => if r9.1 < 0 then (f_X11_worksBy_153 (f_X11_worksBy_64 n) r9.2 a1 a3 a4 a6 0 a5) else (f_X11_worksBy_153 (f_X11_worksBy_64 n) r9.2 a1 a3 a4 a6 1 a5))))) else (f_X11_worksBy_102 y)))))
set_option maxRecDepth 100000 in
set_option maxHeartbeats 4000000 in
theorem t_X11_worksBy_64 {C : Cx} {K : KE} {x : CS} {R : Int32 × MS}  (F : Fx C RX11 cX11_worksBy 9 rm_X11_worksBy K) (E : CE C (xf K x R.2) (some (.int R.1)) 0 0 (some .int)) : ∀ (n : Nat) (y : MS) (a1 : Int32) (a3 : Int32) (a4 : Int32) (a5 : Int32) (a6 : Int32) (h : f_X11_worksBy_64 n y a1 a3 a4 a5 a6 = some R), V C 64 [(0, .ref (K.1 + 61)), (1, .int a1), (3, .int a3), (4, .int a4), (5, .int a5), (6, .int a6)] [] (xf K x y) 0 0 := by
  intro n
  induction n with
  | zero => intro y a1 a3 a4 a5 a6 h; cases h
  | succ n ih =>
    intro y a1 a3 a4 a5 a6 h
    rw [f_X11_worksBy_64] at h
    refine v_iload F (dq dkX11_worksBy_0 37 rfl) 5 rfl ?_
    refine v_iload F (dq dkX11_worksBy_0 38 rfl) 3 rfl ?_
    refine v_icmp_ge F (tgt := 162) (dq dkX11_worksBy_0 39 rfl) (by decide) (fun c1 => ?_) (fun c1 => ?_)
    · rw [if_pos c1] at h
      refine v_iload F (dq dkX11_worksBy_2 14 rfl) 4 rfl ?_
      cases h
      exact v_iret F E (dq dkX11_worksBy_2 15 rfl)
    · rw [if_neg c1] at h
      refine v_iload_n F (dq dkX11_worksBy_1 0 rfl) rfl 2 rfl ?_
      refine v_iconst F (v := 3) (dq dkX11_worksBy_1 1 rfl) ki_3 ?_
      refine v_iload F (dq dkX11_worksBy_1 2 rfl) 5 rfl ?_
      refine v_imul F (dq dkX11_worksBy_1 3 rfl) ?_
      refine v_iadd F (dq dkX11_worksBy_1 4 rfl) ?_
      refine v_istore F (ls' := [(7, .int (a3 + (3 * a6))), (0, .ref (K.1 + 61)), (1, .int a1), (3, .int a3), (4, .int a4), (5, .int a5), (6, .int a6)]) (dq dkX11_worksBy_1 5 rfl) (by decide) rfl ?_
      refine v_iload_n F (dq dkX11_worksBy_1 6 rfl) rfl 3 rfl ?_
      refine v_if_lt F (tgt := 102) (dq dkX11_worksBy_1 7 rfl) (by decide) (fun c2 => ?_) (fun c2 => ?_)
      · rw [if_pos c2] at h
        refine v_sub [] rfl ?_
        exact t_X11_worksBy_102 y h F E
      · rw [if_neg c2] at h
        refine v_iload F (dq dkX11_worksBy_1 8 rfl) 0 rfl ?_
        refine v_iload_n F (dq dkX11_worksBy_1 9 rfl) rfl 3 rfl ?_
        refine v_icmp_lt F (tgt := 102) (dq dkX11_worksBy_1 10 rfl) (by decide) (fun c3 => ?_) (fun c3 => ?_)
        · rw [if_pos c3] at h
          refine v_sub [] rfl ?_
          exact t_X11_worksBy_102 y h F E
        · rw [if_neg c3] at h
          refine v_iload F (dq dkX11_worksBy_1 11 rfl) 0 rfl ?_
          refine v_aload_n F (dq dkX11_worksBy_1 12 rfl) rfl 1 rfl ?_
          refine v_get F 61 (xn (by decide)) xc_61 rfl inlX11 29 (by decide) (tc12 _ (List.mem_of_getElem? (i := 13) rfl)) rfl rfl (dq dkX11_worksBy_1 13 rfl) ?_
          refine v_iload_n F (dq dkX11_worksBy_1 14 rfl) rfl 2 rfl ?_
          obtain ⟨g4, h⟩ := gd_of h
          refine v_iald F 78 (xn (by decide)) xc_78 (ib_in g4) (dq dkX11_worksBy_1 15 rfl) ?_
          refine v_iconst F (v := 3) (dq dkX11_worksBy_1 16 rfl) ki_3 ?_
          refine v_isub F (dq dkX11_worksBy_1 17 rfl) ?_
          refine v_icmp_le F (tgt := 105) (dq dkX11_worksBy_1 18 rfl) (by decide) (fun c5 => ?_) (fun c5 => ?_)
          · rw [if_pos c5] at h
            refine v_bipush F (v := 40) (dq dkX11_worksBy_1 21 rfl) kb_40 ?_
            refine v_iload_n F (dq dkX11_worksBy_1 22 rfl) rfl 2 rfl ?_
            refine v_imul F (dq dkX11_worksBy_1 23 rfl) ?_
            refine v_iload F (dq dkX11_worksBy_1 24 rfl) 0 rfl ?_
            refine v_iadd F (dq dkX11_worksBy_1 25 rfl) ?_
            refine v_istore F (ls' := [(8, .int ((40 * a1) + (a3 + (3 * a6)))), (7, .int (a3 + (3 * a6))), (0, .ref (K.1 + 61)), (1, .int a1), (3, .int a3), (4, .int a4), (5, .int a5), (6, .int a6)]) (dq dkX11_worksBy_1 26 rfl) (by decide) rfl ?_
            refine v_iload F (dq dkX11_worksBy_1 27 rfl) 6 rfl ?_
            refine v_aload_n F (dq dkX11_worksBy_1 28 rfl) rfl 2 rfl ?_
            refine v_aload_n F (dq dkX11_worksBy_1 29 rfl) rfl 2 rfl ?_
            refine v_get F 61 (xn (by decide)) xc_61 rfl inlX11 30 (by decide) (tc12 _ (List.mem_of_getElem? (i := 14) rfl)) rfl rfl (dq dkX11_worksBy_1 30 rfl) ?_
            refine v_iload F (dq dkX11_worksBy_1 31 rfl) 0 rfl ?_
            obtain ⟨g6, h⟩ := gd_of h
            refine v_iald F 79 (xn (by decide)) xc_79 (ib_in g6) (dq dkX11_worksBy_1 32 rfl) ?_
            refine v_aload_n F (dq dkX11_worksBy_1 33 rfl) rfl 2 rfl ?_
            refine v_get F 61 (xn (by decide)) xc_61 rfl inlX11 30 (by decide) (tc12 _ (List.mem_of_getElem? (i := 14) rfl)) rfl rfl (dq dkX11_worksBy_1 34 rfl) ?_
            refine v_iload F (dq dkX11_worksBy_1 35 rfl) 0 rfl ?_
            refine v_iconst F (v := 1) (dq dkX11_worksBy_1 36 rfl) ki_1 ?_
            refine v_iadd F (dq dkX11_worksBy_1 37 rfl) ?_
            obtain ⟨g7, h⟩ := gd_of h
            refine v_iald F 79 (xn (by decide)) xc_79 (ib_in g7) (dq dkX11_worksBy_1 38 rfl) ?_
            refine v_aload_n F (dq dkX11_worksBy_1 39 rfl) rfl 2 rfl ?_
            refine v_get F 61 (xn (by decide)) xc_61 rfl inlX11 30 (by decide) (tc12 _ (List.mem_of_getElem? (i := 14) rfl)) rfl rfl (dq dkX11_worksBy_2 0 rfl) ?_
            refine v_iload F (dq dkX11_worksBy_2 1 rfl) 0 rfl ?_
            refine v_iconst F (v := 2) (dq dkX11_worksBy_2 2 rfl) ki_2 ?_
            refine v_iadd F (dq dkX11_worksBy_2 3 rfl) ?_
            obtain ⟨g8, h⟩ := gd_of h
            refine v_iald F 79 (xn (by decide)) xc_79 (ib_in g8) (dq dkX11_worksBy_2 4 rfl) ?_
            obtain ⟨r9, e10, h⟩ := bd_of h
            refine v_callV 3 F (q := 61) (as := [.int (gi y 79 ((40 * a1) + (a3 + (3 * a6))).toNatClampNeg), .int (gi y 79 (((40 * a1) + (a3 + (3 * a6))) + 1).toNatClampNeg), .int (gi y 79 (((40 * a1) + (a3 + (3 * a6))) + 2).toNatClampNeg)]) (st := [.int a5]) (st1 := (.int r9.1 :: [.int a5])) (res := (some (.int r9.1))) (c_X11_work (l := C.2.1) x y (gi y 79 ((40 * a1) + (a3 + (3 * a6))).toNatClampNeg) (gi y 79 (((40 * a1) + (a3 + (3 * a6))) + 1).toNatClampNeg) (gi y 79 (((40 * a1) + (a3 + (3 * a6))) + 2).toNatClampNeg) e10) (xn (by decide)) xc_61 rfl (tc53 _ (List.mem_of_getElem? (i := 9) rfl)) (tc22 _ (List.mem_of_getElem? (i := 13) rfl)) (tc22 _ (List.mem_of_getElem? (i := 14) rfl)) (tc1 _ (List.mem_of_getElem? (i := 5) rfl)) (tc22 _ (List.mem_of_getElem? (i := 15) rfl)) (by decide) rfl ⟨rfl, rfl, Nat.le_of_ble_eq_true rfl, Nat.le_of_ble_eq_true rfl⟩ ⟨Nat.le_of_ble_eq_true rfl, Nat.le_of_ble_eq_true rfl⟩ rfl (Nat.le_of_ble_eq_true rfl) rfl rfl rfl (dq dkX11_worksBy_2 5 rfl) ?_
            refine v_if_lt F (tgt := 152) (dq dkX11_worksBy_2 6 rfl) (by decide) (fun c11 => ?_) (fun c11 => ?_)
            · rw [if_pos c11] at h
              refine v_iconst F (v := 0) (dq dkX11_worksBy_2 9 rfl) ki_0 ?_
              refine v_sub [2, 3, 4, 5, 7] rfl ?_
              exact t_X11_worksBy_153 (f_X11_worksBy_64 n) r9.2 a1 a3 a4 a6 0 a5 ih h F E
            · rw [if_neg c11] at h
              refine v_iconst F (v := 1) (dq dkX11_worksBy_2 7 rfl) ki_1 ?_
              refine v_goto F (tgt := 153) (dq dkX11_worksBy_2 8 rfl) (by decide) ?_
              refine v_sub [2, 3, 4, 5, 7] rfl ?_
              exact t_X11_worksBy_153 (f_X11_worksBy_64 n) r9.2 a1 a3 a4 a6 1 a5 ih h F E
          · rw [if_neg c5] at h
            refine v_sub [] rfl ?_
            exact t_X11_worksBy_102 y h F E
def f_X11_worksBy (y : MS) (a1 : Int32) (a2 : Int32) (a3 : Int32) (a4 : Int32) : Option (Int32 × MS) := if (b2i (f_X11_in a1 0 3)) = 0 then (f_X11_worksBy_29 y) else (if (b2i (f_X11_in a2 0 2)) = 0 then (f_X11_worksBy_29 y) else (if (b2i (f_X11_in a4 0 10)) = 0 then (f_X11_worksBy_29 y) else (gd (ib a1 4) (if (gi y 77 a1.toNatClampNeg) = (-1) then (some ((-11), y)) else (gd (ib a1 4) (if (gi y 77 a1.toNatClampNeg) = a2 then (f_X11_worksBy_64 1000 y a1 a3 a4 0 0) else (some ((-13), y))))))))
set_option maxRecDepth 100000 in
set_option maxHeartbeats 4000000 in
theorem c_X11_worksBy {K : KE} {l : Launch} {R : Int32 × MS} (x : CS) (y : MS) (a1 : Int32) (a2 : Int32) (a3 : Int32) (a4 : Int32) (h : f_X11_worksBy y a1 a2 a3 a4 = some R) : MC K l yX11_worksBy cX11_worksBy 9 (some .int) rm_X11_worksBy 0 0 [.ref (K.1 + 61), .int a1, .int a2, .int a3, .int a4] (xf K x y) (xf K x R.2) (some (.int R.1)) := by
  refine mc_of (ls0 := [(0, .ref (K.1 + 61)), (1, .int a1), (2, .int a2), (3, .int a3), (4, .int a4)]) (by decide) (Nat.le_of_ble_eq_true rfl) rfl (fun C hl F E => ?_)
  have F : Fx C RX11 cX11_worksBy 9 rm_X11_worksBy K := F
  unfold f_X11_worksBy at h
  refine v_iload_n F (dq dkX11_worksBy_0 0 rfl) rfl 1 rfl ?_
  refine v_iconst F (v := 0) (dq dkX11_worksBy_0 1 rfl) ki_0 ?_
  refine v_iconst F (v := 3) (dq dkX11_worksBy_0 2 rfl) ki_3 ?_
  refine v_callS 3 F (as := [.int a1, .int 0, .int 3]) (st := []) (st1 := (.int (b2i (f_X11_in a1 0 3)) :: [])) (res := (some (.int (b2i (f_X11_in a1 0 3))))) (c_X11_in (l := C.2.1) a1 0 3) (tc15 _ (List.mem_of_getElem? (i := 1) rfl)) (tc15 _ (List.mem_of_getElem? (i := 2) rfl)) (tc1 _ (List.mem_of_getElem? (i := 5) rfl)) (tc15 _ (List.mem_of_getElem? (i := 3) rfl)) (by decide) rfl ⟨rfl, rfl, Nat.le_of_ble_eq_true rfl, Nat.le_of_ble_eq_true rfl⟩ ⟨Nat.le_of_ble_eq_true rfl, Nat.le_of_ble_eq_true rfl⟩ rfl (Nat.le_of_ble_eq_true rfl) rfl rfl rfl (dq dkX11_worksBy_0 3 rfl) ?_
  refine v_if_eq F (tgt := 29) (dq dkX11_worksBy_0 4 rfl) (by decide) (fun c13 => ?_) (fun c13 => ?_)
  · rw [if_pos c13] at h
    refine v_sub [] rfl ?_
    exact t_X11_worksBy_29 y h F E
  · rw [if_neg c13] at h
    refine v_iload_n F (dq dkX11_worksBy_0 5 rfl) rfl 2 rfl ?_
    refine v_iconst F (v := 0) (dq dkX11_worksBy_0 6 rfl) ki_0 ?_
    refine v_iconst F (v := 2) (dq dkX11_worksBy_0 7 rfl) ki_2 ?_
    refine v_callS 3 F (as := [.int a2, .int 0, .int 2]) (st := []) (st1 := (.int (b2i (f_X11_in a2 0 2)) :: [])) (res := (some (.int (b2i (f_X11_in a2 0 2))))) (c_X11_in (l := C.2.1) a2 0 2) (tc15 _ (List.mem_of_getElem? (i := 1) rfl)) (tc15 _ (List.mem_of_getElem? (i := 2) rfl)) (tc1 _ (List.mem_of_getElem? (i := 5) rfl)) (tc15 _ (List.mem_of_getElem? (i := 3) rfl)) (by decide) rfl ⟨rfl, rfl, Nat.le_of_ble_eq_true rfl, Nat.le_of_ble_eq_true rfl⟩ ⟨Nat.le_of_ble_eq_true rfl, Nat.le_of_ble_eq_true rfl⟩ rfl (Nat.le_of_ble_eq_true rfl) rfl rfl rfl (dq dkX11_worksBy_0 8 rfl) ?_
    refine v_if_eq F (tgt := 29) (dq dkX11_worksBy_0 9 rfl) (by decide) (fun c15 => ?_) (fun c15 => ?_)
    · rw [if_pos c15] at h
      refine v_sub [] rfl ?_
      exact t_X11_worksBy_29 y h F E
    · rw [if_neg c15] at h
      refine v_iload F (dq dkX11_worksBy_0 10 rfl) 4 rfl ?_
      refine v_iconst F (v := 0) (dq dkX11_worksBy_0 11 rfl) ki_0 ?_
      refine v_bipush F (v := 10) (dq dkX11_worksBy_0 12 rfl) kb_10 ?_
      refine v_callS 3 F (as := [.int a4, .int 0, .int 10]) (st := []) (st1 := (.int (b2i (f_X11_in a4 0 10)) :: [])) (res := (some (.int (b2i (f_X11_in a4 0 10))))) (c_X11_in (l := C.2.1) a4 0 10) (tc15 _ (List.mem_of_getElem? (i := 1) rfl)) (tc15 _ (List.mem_of_getElem? (i := 2) rfl)) (tc1 _ (List.mem_of_getElem? (i := 5) rfl)) (tc15 _ (List.mem_of_getElem? (i := 3) rfl)) (by decide) rfl ⟨rfl, rfl, Nat.le_of_ble_eq_true rfl, Nat.le_of_ble_eq_true rfl⟩ ⟨Nat.le_of_ble_eq_true rfl, Nat.le_of_ble_eq_true rfl⟩ rfl (Nat.le_of_ble_eq_true rfl) rfl rfl rfl (dq dkX11_worksBy_0 13 rfl) ?_
      refine v_if_ne F (tgt := 32) (dq dkX11_worksBy_0 14 rfl) (by decide) (fun c17 => ?_) (fun c17 => ?_)
      · rw [if_neg c17] at h
        refine v_aload_n F (dq dkX11_worksBy_0 17 rfl) rfl 0 rfl ?_
        refine v_get F 61 (xn (by decide)) xc_61 rfl inlX11 28 (by decide) (tc12 _ (List.mem_of_getElem? (i := 12) rfl)) rfl rfl (dq dkX11_worksBy_0 18 rfl) ?_
        refine v_iload_n F (dq dkX11_worksBy_0 19 rfl) rfl 1 rfl ?_
        obtain ⟨g18, h⟩ := gd_of h
        refine v_iald F 77 (xn (by decide)) xc_77 (ib_in g18) (dq dkX11_worksBy_0 20 rfl) ?_
        refine v_iconst F (v := (-1)) (dq dkX11_worksBy_0 21 rfl) ki_m1 ?_
        refine v_icmp_ne F (tgt := 45) (dq dkX11_worksBy_0 22 rfl) (by decide) (fun c19 => ?_) (fun c19 => ?_)
        · rw [if_neg c19] at h
          refine v_aload_n F (dq dkX11_worksBy_0 25 rfl) rfl 0 rfl ?_
          refine v_get F 61 (xn (by decide)) xc_61 rfl inlX11 28 (by decide) (tc12 _ (List.mem_of_getElem? (i := 12) rfl)) rfl rfl (dq dkX11_worksBy_0 26 rfl) ?_
          refine v_iload_n F (dq dkX11_worksBy_0 27 rfl) rfl 1 rfl ?_
          obtain ⟨g20, h⟩ := gd_of h
          refine v_iald F 77 (xn (by decide)) xc_77 (ib_in g20) (dq dkX11_worksBy_0 28 rfl) ?_
          refine v_iload_n F (dq dkX11_worksBy_0 29 rfl) rfl 2 rfl ?_
          refine v_icmp_eq F (tgt := 58) (dq dkX11_worksBy_0 30 rfl) (by decide) (fun c21 => ?_) (fun c21 => ?_)
          · rw [if_pos c21] at h
            refine v_iconst F (v := 0) (dq dkX11_worksBy_0 33 rfl) ki_0 ?_
            refine v_istore F (ls' := [(5, .int 0), (0, .ref (K.1 + 61)), (1, .int a1), (2, .int a2), (3, .int a3), (4, .int a4)]) (dq dkX11_worksBy_0 34 rfl) (by decide) rfl ?_
            refine v_iconst F (v := 0) (dq dkX11_worksBy_0 35 rfl) ki_0 ?_
            refine v_istore F (ls' := [(6, .int 0), (5, .int 0), (0, .ref (K.1 + 61)), (1, .int a1), (2, .int a2), (3, .int a3), (4, .int a4)]) (dq dkX11_worksBy_0 36 rfl) (by decide) rfl ?_
            refine v_sub [2, 3, 5, 6, 1, 0] rfl ?_
            exact t_X11_worksBy_64 F E 1000 y a1 a3 a4 0 0 h
          · rw [if_neg c21] at h
            refine v_bipush F (v := (-13)) (dq dkX11_worksBy_0 31 rfl) kb_m13 ?_
            cases h
            exact v_iret F E (dq dkX11_worksBy_0 32 rfl)
        · rw [if_pos c19] at h
          refine v_bipush F (v := (-11)) (dq dkX11_worksBy_0 23 rfl) kb_m11 ?_
          cases h
          exact v_iret F E (dq dkX11_worksBy_0 24 rfl)
      · rw [if_pos c17] at h
        refine v_sub [] rfl ?_
        exact t_X11_worksBy_29 y h F E
def rm_X11_isUnder : Room := { frames := 1, cells := 0, slots := 0, locals := 30 }
def f_X11_isUnder_29 : Bool := true
set_option maxRecDepth 100000 in
set_option maxHeartbeats 4000000 in
theorem t_X11_isUnder_29 {C : Cx} {K : KE} {M : GM} {R : Bool}  (h : f_X11_isUnder_29  = R) (F : Fx C RX11 cX11_isUnder 2 rm_X11_isUnder K) (E : CE C M (some (.int (b2i R))) 0 0 (some .boolean)) : V C 29 [] [] M 0 0 := by
  unfold f_X11_isUnder_29 at h
  refine v_iconst F (v := 1) (dq dkX11_isUnder_0 17 rfl) ki_1 ?_
  refine v_goto F (tgt := 34) (dq dkX11_isUnder_0 18 rfl) (by decide) ?_
  cases h
  exact v_zret F E (b2i_n true) (dq dkX11_isUnder_0 20 rfl)
def f_X11_isUnder_33 : Bool := false
set_option maxRecDepth 100000 in
set_option maxHeartbeats 4000000 in
theorem t_X11_isUnder_33 {C : Cx} {K : KE} {M : GM} {R : Bool}  (h : f_X11_isUnder_33  = R) (F : Fx C RX11 cX11_isUnder 2 rm_X11_isUnder K) (E : CE C M (some (.int (b2i R))) 0 0 (some .boolean)) : V C 33 [] [] M 0 0 := by
  unfold f_X11_isUnder_33 at h
  refine v_iconst F (v := 0) (dq dkX11_isUnder_0 19 rfl) ki_0 ?_
  cases h
  exact v_zret F E (b2i_n false) (dq dkX11_isUnder_0 20 rfl)
def f_X11_isUnder_19 (a0 : Int32) (a1 : Int32) : Bool := if a1 = 4 then (if a0 = 5 then f_X11_isUnder_29 else f_X11_isUnder_33) else f_X11_isUnder_33
set_option maxRecDepth 100000 in
set_option maxHeartbeats 4000000 in
theorem t_X11_isUnder_19 {C : Cx} {K : KE} {M : GM} {R : Bool}  (a0 : Int32) (a1 : Int32) (h : f_X11_isUnder_19 a0 a1 = R) (F : Fx C RX11 cX11_isUnder 2 rm_X11_isUnder K) (E : CE C M (some (.int (b2i R))) 0 0 (some .boolean)) : V C 19 [(0, .int a0), (1, .int a1)] [] M 0 0 := by
  unfold f_X11_isUnder_19 at h
  refine v_iload_n F (dq dkX11_isUnder_0 11 rfl) rfl 1 rfl ?_
  refine v_iconst F (v := 4) (dq dkX11_isUnder_0 12 rfl) ki_4 ?_
  refine v_icmp_ne F (tgt := 33) (dq dkX11_isUnder_0 13 rfl) (by decide) (fun c1 => ?_) (fun c1 => ?_)
  · rw [if_neg c1] at h
    refine v_sub [] rfl ?_
    exact t_X11_isUnder_33 h F E
  · rw [if_pos c1] at h
    refine v_iload_n F (dq dkX11_isUnder_0 14 rfl) rfl 0 rfl ?_
    refine v_iconst F (v := 5) (dq dkX11_isUnder_0 15 rfl) ki_5 ?_
    refine v_icmp_ne F (tgt := 33) (dq dkX11_isUnder_0 16 rfl) (by decide) (fun c2 => ?_) (fun c2 => ?_)
    · rw [if_neg c2] at h
      refine v_sub [] rfl ?_
      exact t_X11_isUnder_33 h F E
    · rw [if_pos c2] at h
      refine v_sub [] rfl ?_
      exact t_X11_isUnder_29 h F E
def f_X11_isUnder (a0 : Int32) (a1 : Int32) : Bool := if a1 = 0 then f_X11_isUnder_29 else (if a0 = a1 then f_X11_isUnder_29 else (if a1 = 1 then (if a0 = 2 then f_X11_isUnder_29 else (f_X11_isUnder_19 a0 a1)) else (f_X11_isUnder_19 a0 a1)))
set_option maxRecDepth 100000 in
set_option maxHeartbeats 4000000 in
theorem c_X11_isUnder {K : KE} {l : Launch} {M : GM} (a0 : Int32) (a1 : Int32) : MC K l yX11_isUnder cX11_isUnder 2 (some .boolean) rm_X11_isUnder 0 0 [.int a0, .int a1] M M (some (.int (b2i (f_X11_isUnder a0 a1)))) := by
  refine mc_of (ls0 := [(0, .int a0), (1, .int a1)]) (by decide) (Nat.le_of_ble_eq_true rfl) rfl (fun C hl F E => ?_)
  have F : Fx C RX11 cX11_isUnder 2 rm_X11_isUnder K := F
  obtain ⟨R, h⟩ : ∃ R, f_X11_isUnder a0 a1 = R := ⟨_, rfl⟩
  rw [h] at E
  unfold f_X11_isUnder at h
  refine v_iload_n F (dq dkX11_isUnder_0 0 rfl) rfl 1 rfl ?_
  refine v_if_eq F (tgt := 29) (dq dkX11_isUnder_0 1 rfl) (by decide) (fun c3 => ?_) (fun c3 => ?_)
  · rw [if_pos c3] at h
    refine v_sub [] rfl ?_
    exact t_X11_isUnder_29 h F E
  · rw [if_neg c3] at h
    refine v_iload_n F (dq dkX11_isUnder_0 2 rfl) rfl 0 rfl ?_
    refine v_iload_n F (dq dkX11_isUnder_0 3 rfl) rfl 1 rfl ?_
    refine v_icmp_eq F (tgt := 29) (dq dkX11_isUnder_0 4 rfl) (by decide) (fun c4 => ?_) (fun c4 => ?_)
    · rw [if_pos c4] at h
      refine v_sub [] rfl ?_
      exact t_X11_isUnder_29 h F E
    · rw [if_neg c4] at h
      refine v_iload_n F (dq dkX11_isUnder_0 5 rfl) rfl 1 rfl ?_
      refine v_iconst F (v := 1) (dq dkX11_isUnder_0 6 rfl) ki_1 ?_
      refine v_icmp_ne F (tgt := 19) (dq dkX11_isUnder_0 7 rfl) (by decide) (fun c5 => ?_) (fun c5 => ?_)
      · rw [if_neg c5] at h
        exact t_X11_isUnder_19 a0 a1 h F E
      · rw [if_pos c5] at h
        refine v_iload_n F (dq dkX11_isUnder_0 8 rfl) rfl 0 rfl ?_
        refine v_iconst F (v := 2) (dq dkX11_isUnder_0 9 rfl) ki_2 ?_
        refine v_icmp_eq F (tgt := 29) (dq dkX11_isUnder_0 10 rfl) (by decide) (fun c6 => ?_) (fun c6 => ?_)
        · rw [if_pos c6] at h
          refine v_sub [] rfl ?_
          exact t_X11_isUnder_29 h F E
        · rw [if_neg c6] at h
          exact t_X11_isUnder_19 a0 a1 h F E
def rm_X11_taken : Room := { frames := 2, cells := 0, slots := 0, locals := 52 }
def f_X11_taken_108 (y : MS) : Option (Int32) := some (-13)
set_option maxRecDepth 100000 in
set_option maxHeartbeats 4000000 in
theorem t_X11_taken_108 {C : Cx} {K : KE} {x : CS} {R : Int32}  (y : MS) (h : f_X11_taken_108 y = some R) (F : Fx C RX11 cX11_taken 3 rm_X11_taken K) (E : CE C (xf K x y) (some (.int R)) 0 0 (some .int)) : V C 108 [] [] (xf K x y) 0 0 := by
  unfold f_X11_taken_108 at h
  refine v_bipush F (v := (-13)) (dq dkX11_taken_1 17 rfl) kb_m13 ?_
  cases h
  exact v_iret F E (dq dkX11_taken_1 18 rfl)
def f_X11_taken (y : MS) (a1 : Int32) (a2 : Int32) : Option (Int32) := if (b2i (f_X11_in a2 0 6)) = 0 then (some (-2)) else (if (b2i (f_X11_in a1 0 15)) = 0 then (some (-12)) else (if 6 ≤ a1 then (if (a1 - 6) < (gi y 61 6) then (if 6 ≤ a2 then (f_X11_taken_108 y) else (gd (ib (a1 - 6) 10) (if (b2i (f_X11_isUnder (gi y 63 (a1 - 6).toNatClampNeg) a2)) = 0 then (f_X11_taken_108 y) else (some (a1 - 6))))) else (some (-11))) else (if a1 < (gi y 61 10) then (if a2 = 6 then (gd (ib a1 6) (some (gi y 66 a1.toNatClampNeg))) else (some (-13))) else (some (-11)))))
set_option maxRecDepth 100000 in
set_option maxHeartbeats 4000000 in
theorem c_X11_taken {K : KE} {l : Launch} {R : Int32} (x : CS) (y : MS) (a1 : Int32) (a2 : Int32) (h : f_X11_taken y a1 a2 = some R) : MC K l yX11_taken cX11_taken 3 (some .int) rm_X11_taken 0 0 [.ref (K.1 + 61), .int a1, .int a2] (xf K x y) (xf K x y) (some (.int R)) := by
  refine mc_of (ls0 := [(0, .ref (K.1 + 61)), (1, .int a1), (2, .int a2)]) (by decide) (Nat.le_of_ble_eq_true rfl) rfl (fun C hl F E => ?_)
  have F : Fx C RX11 cX11_taken 3 rm_X11_taken K := F
  unfold f_X11_taken at h
  refine v_iload_n F (dq dkX11_taken_0 0 rfl) rfl 2 rfl ?_
  refine v_iconst F (v := 0) (dq dkX11_taken_0 1 rfl) ki_0 ?_
  refine v_bipush F (v := 6) (dq dkX11_taken_0 2 rfl) kb_6 ?_
  refine v_callS 3 F (as := [.int a2, .int 0, .int 6]) (st := []) (st1 := (.int (b2i (f_X11_in a2 0 6)) :: [])) (res := (some (.int (b2i (f_X11_in a2 0 6))))) (c_X11_in (l := C.2.1) a2 0 6) (tc15 _ (List.mem_of_getElem? (i := 1) rfl)) (tc15 _ (List.mem_of_getElem? (i := 2) rfl)) (tc1 _ (List.mem_of_getElem? (i := 5) rfl)) (tc15 _ (List.mem_of_getElem? (i := 3) rfl)) (by decide) rfl ⟨rfl, rfl, Nat.le_of_ble_eq_true rfl, Nat.le_of_ble_eq_true rfl⟩ ⟨Nat.le_of_ble_eq_true rfl, Nat.le_of_ble_eq_true rfl⟩ rfl (Nat.le_of_ble_eq_true rfl) rfl rfl rfl (dq dkX11_taken_0 3 rfl) ?_
  refine v_if_ne F (tgt := 13) (dq dkX11_taken_0 4 rfl) (by decide) (fun c2 => ?_) (fun c2 => ?_)
  · rw [if_neg c2] at h
    refine v_iload_n F (dq dkX11_taken_0 7 rfl) rfl 1 rfl ?_
    refine v_iconst F (v := 0) (dq dkX11_taken_0 8 rfl) ki_0 ?_
    refine v_bipush F (v := 15) (dq dkX11_taken_0 9 rfl) kb_15 ?_
    refine v_callS 3 F (as := [.int a1, .int 0, .int 15]) (st := []) (st1 := (.int (b2i (f_X11_in a1 0 15)) :: [])) (res := (some (.int (b2i (f_X11_in a1 0 15))))) (c_X11_in (l := C.2.1) a1 0 15) (tc15 _ (List.mem_of_getElem? (i := 1) rfl)) (tc15 _ (List.mem_of_getElem? (i := 2) rfl)) (tc1 _ (List.mem_of_getElem? (i := 5) rfl)) (tc15 _ (List.mem_of_getElem? (i := 3) rfl)) (by decide) rfl ⟨rfl, rfl, Nat.le_of_ble_eq_true rfl, Nat.le_of_ble_eq_true rfl⟩ ⟨Nat.le_of_ble_eq_true rfl, Nat.le_of_ble_eq_true rfl⟩ rfl (Nat.le_of_ble_eq_true rfl) rfl rfl rfl (dq dkX11_taken_0 10 rfl) ?_
    refine v_if_ne F (tgt := 26) (dq dkX11_taken_0 11 rfl) (by decide) (fun c4 => ?_) (fun c4 => ?_)
    · rw [if_neg c4] at h
      refine v_iload_n F (dq dkX11_taken_0 14 rfl) rfl 1 rfl ?_
      refine v_bipush F (v := 6) (dq dkX11_taken_0 15 rfl) kb_6 ?_
      refine v_icmp_ge F (tgt := 63) (dq dkX11_taken_0 16 rfl) (by decide) (fun c5 => ?_) (fun c5 => ?_)
      · rw [if_pos c5] at h
        refine v_iload_n F (dq dkX11_taken_0 33 rfl) rfl 1 rfl ?_
        refine v_bipush F (v := 6) (dq dkX11_taken_0 34 rfl) kb_6 ?_
        refine v_isub F (dq dkX11_taken_0 35 rfl) ?_
        refine v_aload_n F (dq dkX11_taken_0 36 rfl) rfl 0 rfl ?_
        refine v_get F 61 (xn (by decide)) xc_61 rfl inlX11 6 (by decide) (tc16 _ (List.mem_of_getElem? (i := 16) rfl)) rfl rfl (dq dkX11_taken_0 37 rfl) ?_
        refine v_icmp_lt F (tgt := 79) (dq dkX11_taken_0 38 rfl) (by decide) (fun c6 => ?_) (fun c6 => ?_)
        · rw [if_pos c6] at h
          refine v_iload_n F (dq dkX11_taken_1 1 rfl) rfl 2 rfl ?_
          refine v_bipush F (v := 6) (dq dkX11_taken_1 2 rfl) kb_6 ?_
          refine v_icmp_ge F (tgt := 108) (dq dkX11_taken_1 3 rfl) (by decide) (fun c7 => ?_) (fun c7 => ?_)
          · rw [if_pos c7] at h
            refine v_sub [] rfl ?_
            exact t_X11_taken_108 y h F E
          · rw [if_neg c7] at h
            refine v_aload_n F (dq dkX11_taken_1 4 rfl) rfl 0 rfl ?_
            refine v_get F 61 (xn (by decide)) xc_61 rfl inlX11 7 (by decide) (tc11 _ (List.mem_of_getElem? (i := 21) rfl)) rfl rfl (dq dkX11_taken_1 5 rfl) ?_
            refine v_iload_n F (dq dkX11_taken_1 6 rfl) rfl 1 rfl ?_
            refine v_bipush F (v := 6) (dq dkX11_taken_1 7 rfl) kb_6 ?_
            refine v_isub F (dq dkX11_taken_1 8 rfl) ?_
            obtain ⟨g8, h⟩ := gd_of h
            refine v_iald F 63 (xn (by decide)) xc_63 (ib_in g8) (dq dkX11_taken_1 9 rfl) ?_
            refine v_iload_n F (dq dkX11_taken_1 10 rfl) rfl 2 rfl ?_
            refine v_callS 2 F (as := [.int (gi y 63 (a1 - 6).toNatClampNeg), .int a2]) (st := []) (st1 := (.int (b2i (f_X11_isUnder (gi y 63 (a1 - 6).toNatClampNeg) a2)) :: [])) (res := (some (.int (b2i (f_X11_isUnder (gi y 63 (a1 - 6).toNatClampNeg) a2))))) (c_X11_isUnder (l := C.2.1) (gi y 63 (a1 - 6).toNatClampNeg) a2) (tc53 _ (List.mem_of_getElem? (i := 22) rfl)) (tc53 _ (List.mem_of_getElem? (i := 23) rfl)) (tc1 _ (List.mem_of_getElem? (i := 5) rfl)) (tc54 _ (List.mem_of_getElem? (i := 0) rfl)) (by decide) rfl ⟨rfl, rfl, Nat.le_of_ble_eq_true rfl, Nat.le_of_ble_eq_true rfl⟩ ⟨Nat.le_of_ble_eq_true rfl, Nat.le_of_ble_eq_true rfl⟩ rfl (Nat.le_of_ble_eq_true rfl) rfl rfl rfl (dq dkX11_taken_1 11 rfl) ?_
            refine v_if_eq F (tgt := 108) (dq dkX11_taken_1 12 rfl) (by decide) (fun c10 => ?_) (fun c10 => ?_)
            · rw [if_pos c10] at h
              refine v_sub [] rfl ?_
              exact t_X11_taken_108 y h F E
            · rw [if_neg c10] at h
              refine v_iload_n F (dq dkX11_taken_1 13 rfl) rfl 1 rfl ?_
              refine v_bipush F (v := 6) (dq dkX11_taken_1 14 rfl) kb_6 ?_
              refine v_isub F (dq dkX11_taken_1 15 rfl) ?_
              refine v_goto F (tgt := 110) (dq dkX11_taken_1 16 rfl) (by decide) ?_
              cases h
              exact v_iret F E (dq dkX11_taken_1 18 rfl)
        · rw [if_neg c6] at h
          refine v_bipush F (v := (-11)) (dq dkX11_taken_0 39 rfl) kb_m11 ?_
          refine v_goto F (tgt := 110) (dq dkX11_taken_1 0 rfl) (by decide) ?_
          cases h
          exact v_iret F E (dq dkX11_taken_1 18 rfl)
      · rw [if_neg c5] at h
        refine v_iload_n F (dq dkX11_taken_0 17 rfl) rfl 1 rfl ?_
        refine v_aload_n F (dq dkX11_taken_0 18 rfl) rfl 0 rfl ?_
        refine v_get F 61 (xn (by decide)) xc_61 rfl inlX11 10 (by decide) (tc16 _ (List.mem_of_getElem? (i := 17) rfl)) rfl rfl (dq dkX11_taken_0 19 rfl) ?_
        refine v_icmp_lt F (tgt := 45) (dq dkX11_taken_0 20 rfl) (by decide) (fun c11 => ?_) (fun c11 => ?_)
        · rw [if_pos c11] at h
          refine v_iload_n F (dq dkX11_taken_0 23 rfl) rfl 2 rfl ?_
          refine v_bipush F (v := 6) (dq dkX11_taken_0 24 rfl) kb_6 ?_
          refine v_icmp_ne F (tgt := 60) (dq dkX11_taken_0 25 rfl) (by decide) (fun c12 => ?_) (fun c12 => ?_)
          · rw [if_neg c12] at h
            refine v_bipush F (v := (-13)) (dq dkX11_taken_0 31 rfl) kb_m13 ?_
            cases h
            exact v_iret F E (dq dkX11_taken_0 32 rfl)
          · rw [if_pos c12] at h
            refine v_aload_n F (dq dkX11_taken_0 26 rfl) rfl 0 rfl ?_
            refine v_get F 61 (xn (by decide)) xc_61 rfl inlX11 11 (by decide) (tc12 _ (List.mem_of_getElem? (i := 0) rfl)) rfl rfl (dq dkX11_taken_0 27 rfl) ?_
            refine v_iload_n F (dq dkX11_taken_0 28 rfl) rfl 1 rfl ?_
            obtain ⟨g13, h⟩ := gd_of h
            refine v_iald F 66 (xn (by decide)) xc_66 (ib_in g13) (dq dkX11_taken_0 29 rfl) ?_
            refine v_goto F (tgt := 62) (dq dkX11_taken_0 30 rfl) (by decide) ?_
            cases h
            exact v_iret F E (dq dkX11_taken_0 32 rfl)
        · rw [if_neg c11] at h
          refine v_bipush F (v := (-11)) (dq dkX11_taken_0 21 rfl) kb_m11 ?_
          refine v_goto F (tgt := 62) (dq dkX11_taken_0 22 rfl) (by decide) ?_
          cases h
          exact v_iret F E (dq dkX11_taken_0 32 rfl)
    · rw [if_pos c4] at h
      refine v_bipush F (v := (-12)) (dq dkX11_taken_0 12 rfl) kb_m12 ?_
      cases h
      exact v_iret F E (dq dkX11_taken_0 13 rfl)
  · rw [if_pos c2] at h
    refine v_bipush F (v := (-2)) (dq dkX11_taken_0 5 rfl) kb_m2 ?_
    cases h
    exact v_iret F E (dq dkX11_taken_0 6 rfl)
