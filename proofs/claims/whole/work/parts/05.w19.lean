def rm_X11_worksBy : Room := { frames := 3, cells := 0, slots := 0, locals := 75 }
def f_X11_worksBy_29 (y : MS) : Option (Int32 × MS) := some ((-2), y)
set_option maxRecDepth 100000 in
set_option maxHeartbeats 4000000 in
theorem t_X11_worksBy_29 {C : Cx} {K : KE} {nn : Nat} {x : CS} {R : Int32 × MS}  (y : MS) (h : f_X11_worksBy_29 y = some R) (F : Fx C RX11 cX11_worksBy 9 rm_X11_worksBy K) (E : CE C (xfM K nn x R.2) (some (.int R.1)) 0 0 (some .int)) : V C 29 [] [] (xfM K nn x y) 0 0 := by
  unfold f_X11_worksBy_29 at h
  refine v_bipush F (v := (-2)) (dq dkX11_worksBy_0 15 rfl) kb_m2 ?_
  have h := Option.some.inj h
  subst h
  exact v_iret F E (dq dkX11_worksBy_0 16 rfl)
def f_X11_worksBy_102 (y : MS) : Option (Int32 × MS) := some ((-12), y)
set_option maxRecDepth 100000 in
set_option maxHeartbeats 4000000 in
theorem t_X11_worksBy_102 {C : Cx} {K : KE} {nn : Nat} {x : CS} {R : Int32 × MS}  (y : MS) (h : f_X11_worksBy_102 y = some R) (F : Fx C RX11 cX11_worksBy 9 rm_X11_worksBy K) (E : CE C (xfM K nn x R.2) (some (.int R.1)) 0 0 (some .int)) : V C 102 [] [] (xfM K nn x y) 0 0 := by
  unfold f_X11_worksBy_102 at h
  refine v_bipush F (v := (-12)) (dq dkX11_worksBy_1 19 rfl) kb_m12 ?_
  have h := Option.some.inj h
  subst h
  exact v_iret F E (dq dkX11_worksBy_1 20 rfl)
def f_X11_worksBy_153 (k64 : MS → Int32 → Int32 → Int32 → Int32 → Int32 → Option (Int32 × MS)) (y : MS) (a1 : Int32) (a3 : Int32) (a4 : Int32) (a6 : Int32) (s0 : Int32) (s1 : Int32) : Option (Int32 × MS) := k64 y a1 a3 a4 (s1 + s0) (a6 + 1)
set_option maxRecDepth 100000 in
set_option maxHeartbeats 4000000 in
theorem t_X11_worksBy_153 {C : Cx} {K : KE} {nn : Nat} {x : CS} {R : Int32 × MS}  (k64 : MS → Int32 → Int32 → Int32 → Int32 → Int32 → Option (Int32 × MS)) (y : MS) (a1 : Int32) (a3 : Int32) (a4 : Int32) (a6 : Int32) (s0 : Int32) (s1 : Int32) (hk64 : ∀ (y : MS) (a1 : Int32) (a3 : Int32) (a4 : Int32) (a5 : Int32) (a6 : Int32), k64 y a1 a3 a4 a5 a6 = some R → V C 64 [(0, .ref (K.1 + 61)), (1, .int a1), (3, .int a3), (4, .int a4), (5, .int a5), (6, .int a6)] [] (xfM K nn x y) 0 0) (h : f_X11_worksBy_153 k64 y a1 a3 a4 a6 s0 s1 = some R) (F : Fx C RX11 cX11_worksBy 9 rm_X11_worksBy K) (E : CE C (xfM K nn x R.2) (some (.int R.1)) 0 0 (some .int)) : V C 153 [(0, .ref (K.1 + 61)), (1, .int a1), (3, .int a3), (4, .int a4), (6, .int a6)] [.int s0, .int s1] (xfM K nn x y) 0 0 := by
  unfold f_X11_worksBy_153 at h
  refine v_iadd F (dq dkX11_worksBy_2 10 rfl) ?_
  refine v_istore F (ls' := [(5, .int (s1 + s0)), (0, .ref (K.1 + 61)), (1, .int a1), (3, .int a3), (4, .int a4), (6, .int a6)]) (dq dkX11_worksBy_2 11 rfl) (by decide) rfl ?_
  refine v_iinc F (v := a6 + 1) (ls' := [(6, .int (a6 + 1)), (5, .int (s1 + s0)), (0, .ref (K.1 + 61)), (1, .int a1), (3, .int a3), (4, .int a4)]) (dq dkX11_worksBy_2 12 rfl) (j := 5) rfl (kv_add ki_1) (by decide) rfl ?_
  refine v_goto F (tgt := 64) (dq dkX11_worksBy_2 13 rfl) (by decide) ?_
  refine v_sub [2, 3, 4, 5, 1, 0] rfl ?_
  exact hk64 y a1 a3 a4 (s1 + s0) (a6 + 1) h
def f_X11_worksBy_64 : Nat → MS → Int32 → Int32 → Int32 → Int32 → Int32 → Option (Int32 × MS)
  | 0, _, _, _, _, _, _ => none
  | n + 1, y, a1, a3, a4, a5, a6 => if a4 ≤ a6 then (some (a5, y)) else (if a3 < 0 then (f_X11_worksBy_102 y) else (if (a3 + (3 * a6)) < a3 then (f_X11_worksBy_102 y) else (gd (ib a1 4) (if (a3 + (3 * a6)) ≤ ((gi y 78 a1.toNatClampNeg) - 3) then (gd (ib ((40 * a1) + (a3 + (3 * a6))) 160) (gd (ib (((40 * a1) + (a3 + (3 * a6))) + 1) 160) (gd (ib (((40 * a1) + (a3 + (3 * a6))) + 2) 160) ((f_X11_work y (gi y 79 ((40 * a1) + (a3 + (3 * a6))).toNatClampNeg) (gi y 79 (((40 * a1) + (a3 + (3 * a6))) + 1).toNatClampNeg) (gi y 79 (((40 * a1) + (a3 + (3 * a6))) + 2).toNatClampNeg)).bind fun r9 => if r9.1 < 0 then (f_X11_worksBy_153 (f_X11_worksBy_64 n) r9.2 a1 a3 a4 a6 0 a5) else (f_X11_worksBy_153 (f_X11_worksBy_64 n) r9.2 a1 a3 a4 a6 1 a5))))) else (f_X11_worksBy_102 y)))))
set_option maxRecDepth 100000 in
set_option maxHeartbeats 4000000 in
theorem t_X11_worksBy_64 {C : Cx} {K : KE} {nn : Nat} {x : CS} {R : Int32 × MS}  (F : Fx C RX11 cX11_worksBy 9 rm_X11_worksBy K) (E : CE C (xfM K nn x R.2) (some (.int R.1)) 0 0 (some .int)) : ∀ (n : Nat) (y : MS) (a1 : Int32) (a3 : Int32) (a4 : Int32) (a5 : Int32) (a6 : Int32) (h : f_X11_worksBy_64 n y a1 a3 a4 a5 a6 = some R), V C 64 [(0, .ref (K.1 + 61)), (1, .int a1), (3, .int a3), (4, .int a4), (5, .int a5), (6, .int a6)] [] (xfM K nn x y) 0 0 := by
  intro n
  induction n with
  | zero => intro y a1 a3 a4 a5 a6 h; cases h
  | succ n ih =>
    intro y a1 a3 a4 a5 a6 h
    rw [f_X11_worksBy_64] at h
    refine v_iload F (dq dkX11_worksBy_0 37 rfl) 5 rfl ?_
    refine v_iload F (dq dkX11_worksBy_0 38 rfl) 3 rfl ?_
    refine v_icmp_ge F (tgt := 162) (dq dkX11_worksBy_0 39 rfl) (by decide) (fun c1 => ?_) (fun c1 => ?_)
    · rw [if_pos c1] at h
      refine v_iload F (dq dkX11_worksBy_2 14 rfl) 4 rfl ?_
      have h := Option.some.inj h
      subst h
      exact v_iret F E (dq dkX11_worksBy_2 15 rfl)
    · rw [if_neg c1] at h
      refine v_iload_n F (dq dkX11_worksBy_1 0 rfl) rfl 2 rfl ?_
      refine v_iconst F (v := 3) (dq dkX11_worksBy_1 1 rfl) ki_3 ?_
      refine v_iload F (dq dkX11_worksBy_1 2 rfl) 5 rfl ?_
      refine v_imul F (dq dkX11_worksBy_1 3 rfl) ?_
      refine v_iadd F (dq dkX11_worksBy_1 4 rfl) ?_
      refine v_istore F (ls' := [(7, .int (a3 + (3 * a6))), (0, .ref (K.1 + 61)), (1, .int a1), (3, .int a3), (4, .int a4), (5, .int a5), (6, .int a6)]) (dq dkX11_worksBy_1 5 rfl) (by decide) rfl ?_
      refine v_iload_n F (dq dkX11_worksBy_1 6 rfl) rfl 3 rfl ?_
      refine v_if_lt F (tgt := 102) (dq dkX11_worksBy_1 7 rfl) (by decide) (fun c2 => ?_) (fun c2 => ?_)
      · rw [if_pos c2] at h
        refine v_sub [] rfl ?_
        exact t_X11_worksBy_102 y h F E
      · rw [if_neg c2] at h
        refine v_iload F (dq dkX11_worksBy_1 8 rfl) 0 rfl ?_
        refine v_iload_n F (dq dkX11_worksBy_1 9 rfl) rfl 3 rfl ?_
        refine v_icmp_lt F (tgt := 102) (dq dkX11_worksBy_1 10 rfl) (by decide) (fun c3 => ?_) (fun c3 => ?_)
        · rw [if_pos c3] at h
          refine v_sub [] rfl ?_
          exact t_X11_worksBy_102 y h F E
        · rw [if_neg c3] at h
          refine v_iload F (dq dkX11_worksBy_1 11 rfl) 0 rfl ?_
          refine v_aload_n F (dq dkX11_worksBy_1 12 rfl) rfl 1 rfl ?_
          refine v_get F 61 (xnM (by decide)) xc_61 rfl inlX11 29 (by decide) (tc12 _ (List.mem_of_getElem? (i := 13) rfl)) rfl rfl (dq dkX11_worksBy_1 13 rfl) ?_
          refine v_iload_n F (dq dkX11_worksBy_1 14 rfl) rfl 2 rfl ?_
          obtain ⟨g4, h⟩ := gd_of h
          refine v_iald F 78 (xnM (by decide)) xc_78 (ib_in g4) (dq dkX11_worksBy_1 15 rfl) ?_
          refine v_iconst F (v := 3) (dq dkX11_worksBy_1 16 rfl) ki_3 ?_
          refine v_isub F (dq dkX11_worksBy_1 17 rfl) ?_
          refine v_icmp_le F (tgt := 105) (dq dkX11_worksBy_1 18 rfl) (by decide) (fun c5 => ?_) (fun c5 => ?_)
          · rw [if_pos c5] at h
            refine v_bipush F (v := 40) (dq dkX11_worksBy_1 21 rfl) kb_40 ?_
            refine v_iload_n F (dq dkX11_worksBy_1 22 rfl) rfl 2 rfl ?_
            refine v_imul F (dq dkX11_worksBy_1 23 rfl) ?_
            refine v_iload F (dq dkX11_worksBy_1 24 rfl) 0 rfl ?_
            refine v_iadd F (dq dkX11_worksBy_1 25 rfl) ?_
            refine v_istore F (ls' := [(8, .int ((40 * a1) + (a3 + (3 * a6)))), (7, .int (a3 + (3 * a6))), (0, .ref (K.1 + 61)), (1, .int a1), (3, .int a3), (4, .int a4), (5, .int a5), (6, .int a6)]) (dq dkX11_worksBy_1 26 rfl) (by decide) rfl ?_
            refine v_iload F (dq dkX11_worksBy_1 27 rfl) 6 rfl ?_
            refine v_aload_n F (dq dkX11_worksBy_1 28 rfl) rfl 2 rfl ?_
            refine v_aload_n F (dq dkX11_worksBy_1 29 rfl) rfl 2 rfl ?_
            refine v_get F 61 (xnM (by decide)) xc_61 rfl inlX11 30 (by decide) (tc12 _ (List.mem_of_getElem? (i := 14) rfl)) rfl rfl (dq dkX11_worksBy_1 30 rfl) ?_
            refine v_iload F (dq dkX11_worksBy_1 31 rfl) 0 rfl ?_
            obtain ⟨g6, h⟩ := gd_of h
            refine v_iald F 79 (xnM (by decide)) xc_79 (ib_in g6) (dq dkX11_worksBy_1 32 rfl) ?_
            refine v_aload_n F (dq dkX11_worksBy_1 33 rfl) rfl 2 rfl ?_
            refine v_get F 61 (xnM (by decide)) xc_61 rfl inlX11 30 (by decide) (tc12 _ (List.mem_of_getElem? (i := 14) rfl)) rfl rfl (dq dkX11_worksBy_1 34 rfl) ?_
            refine v_iload F (dq dkX11_worksBy_1 35 rfl) 0 rfl ?_
            refine v_iconst F (v := 1) (dq dkX11_worksBy_1 36 rfl) ki_1 ?_
            refine v_iadd F (dq dkX11_worksBy_1 37 rfl) ?_
            obtain ⟨g7, h⟩ := gd_of h
            refine v_iald F 79 (xnM (by decide)) xc_79 (ib_in g7) (dq dkX11_worksBy_1 38 rfl) ?_
            refine v_aload_n F (dq dkX11_worksBy_1 39 rfl) rfl 2 rfl ?_
            refine v_get F 61 (xnM (by decide)) xc_61 rfl inlX11 30 (by decide) (tc12 _ (List.mem_of_getElem? (i := 14) rfl)) rfl rfl (dq dkX11_worksBy_2 0 rfl) ?_
            refine v_iload F (dq dkX11_worksBy_2 1 rfl) 0 rfl ?_
            refine v_iconst F (v := 2) (dq dkX11_worksBy_2 2 rfl) ki_2 ?_
            refine v_iadd F (dq dkX11_worksBy_2 3 rfl) ?_
            obtain ⟨g8, h⟩ := gd_of h
            refine v_iald F 79 (xnM (by decide)) xc_79 (ib_in g8) (dq dkX11_worksBy_2 4 rfl) ?_
            obtain ⟨r9, e10, h⟩ := bd_of h
            refine v_callV 3 F (q := 61) (kc1 := 0) (ks1 := 0) (as := [.int (gi y 79 ((40 * a1) + (a3 + (3 * a6))).toNatClampNeg), .int (gi y 79 (((40 * a1) + (a3 + (3 * a6))) + 1).toNatClampNeg), .int (gi y 79 (((40 * a1) + (a3 + (3 * a6))) + 2).toNatClampNeg)]) (st := [.int a5]) (st1 := (.int r9.1 :: [.int a5])) (res := (some (.int r9.1))) (c_X11_work (l := C.2.1) x y (gi y 79 ((40 * a1) + (a3 + (3 * a6))).toNatClampNeg) (gi y 79 (((40 * a1) + (a3 + (3 * a6))) + 1).toNatClampNeg) (gi y 79 (((40 * a1) + (a3 + (3 * a6))) + 2).toNatClampNeg) e10) (xnM (by decide)) xc_61 rfl (tc53 _ (List.mem_of_getElem? (i := 9) rfl)) (tc22 _ (List.mem_of_getElem? (i := 13) rfl)) (tc22 _ (List.mem_of_getElem? (i := 14) rfl)) (tc1 _ (List.mem_of_getElem? (i := 5) rfl)) (tc22 _ (List.mem_of_getElem? (i := 15) rfl)) (by decide) rfl ⟨rfl, rfl, Nat.le_of_ble_eq_true rfl, Nat.le_of_ble_eq_true rfl⟩ ⟨Nat.le_of_ble_eq_true rfl, Nat.le_of_ble_eq_true rfl⟩ rfl (Nat.le_of_ble_eq_true rfl) rfl rfl rfl (dq dkX11_worksBy_2 5 rfl) ?_
            refine v_if_lt F (tgt := 152) (dq dkX11_worksBy_2 6 rfl) (by decide) (fun c11 => ?_) (fun c11 => ?_)
            · rw [if_pos c11] at h
              refine v_iconst F (v := 0) (dq dkX11_worksBy_2 9 rfl) ki_0 ?_
              refine v_sub [2, 3, 4, 5, 7] rfl ?_
              exact t_X11_worksBy_153 (f_X11_worksBy_64 n) r9.2 a1 a3 a4 a6 0 a5 ih h F E
            · rw [if_neg c11] at h
              refine v_iconst F (v := 1) (dq dkX11_worksBy_2 7 rfl) ki_1 ?_
              refine v_goto F (tgt := 153) (dq dkX11_worksBy_2 8 rfl) (by decide) ?_
              refine v_sub [2, 3, 4, 5, 7] rfl ?_
              exact t_X11_worksBy_153 (f_X11_worksBy_64 n) r9.2 a1 a3 a4 a6 1 a5 ih h F E
          · rw [if_neg c5] at h
            refine v_sub [] rfl ?_
            exact t_X11_worksBy_102 y h F E
def f_X11_worksBy (y : MS) (a1 : Int32) (a2 : Int32) (a3 : Int32) (a4 : Int32) : Option (Int32 × MS) := if (b2i (f_X11_in a1 0 3)) = 0 then (f_X11_worksBy_29 y) else (if (b2i (f_X11_in a2 0 2)) = 0 then (f_X11_worksBy_29 y) else (if (b2i (f_X11_in a4 0 10)) = 0 then (f_X11_worksBy_29 y) else (gd (ib a1 4) (if (gi y 77 a1.toNatClampNeg) = (-1) then (some ((-11), y)) else (gd (ib a1 4) (if (gi y 77 a1.toNatClampNeg) = a2 then (f_X11_worksBy_64 1000 y a1 a3 a4 0 0) else (some ((-13), y))))))))
set_option maxRecDepth 100000 in
set_option maxHeartbeats 4000000 in
theorem c_X11_worksBy {K : KE} {l : Launch} {R : Int32 × MS} {nn : Nat} (x : CS) (y : MS) (a1 : Int32) (a2 : Int32) (a3 : Int32) (a4 : Int32) (h : f_X11_worksBy y a1 a2 a3 a4 = some R) : MC K l yX11_worksBy cX11_worksBy 9 (some .int) rm_X11_worksBy 0 0 [.ref (K.1 + 61), .int a1, .int a2, .int a3, .int a4] (xfM K nn x y) (xfM K nn x R.2) (some (.int R.1)) := by
  unfold f_X11_worksBy at h
  refine mc_of (ls0 := [(0, .ref (K.1 + 61)), (1, .int a1), (2, .int a2), (3, .int a3), (4, .int a4)]) (by decide) (Nat.le_of_ble_eq_true rfl) rfl (fun C hl hnm F E => ?_)
  have F : Fx C RX11 cX11_worksBy 9 rm_X11_worksBy K := F
  refine v_iload_n F (dq dkX11_worksBy_0 0 rfl) rfl 1 rfl ?_
  refine v_iconst F (v := 0) (dq dkX11_worksBy_0 1 rfl) ki_0 ?_
  refine v_iconst F (v := 3) (dq dkX11_worksBy_0 2 rfl) ki_3 ?_
  refine v_callS 3 F (kc1 := 0) (ks1 := 0) (as := [.int a1, .int 0, .int 3]) (st := []) (st1 := (.int (b2i (f_X11_in a1 0 3)) :: [])) (res := (some (.int (b2i (f_X11_in a1 0 3))))) (c_X11_in (l := C.2.1) a1 0 3) (tc15 _ (List.mem_of_getElem? (i := 1) rfl)) (tc15 _ (List.mem_of_getElem? (i := 2) rfl)) (tc1 _ (List.mem_of_getElem? (i := 5) rfl)) (tc15 _ (List.mem_of_getElem? (i := 3) rfl)) (by decide) rfl ⟨rfl, rfl, Nat.le_of_ble_eq_true rfl, Nat.le_of_ble_eq_true rfl⟩ ⟨Nat.le_of_ble_eq_true rfl, Nat.le_of_ble_eq_true rfl⟩ rfl (Nat.le_of_ble_eq_true rfl) rfl rfl rfl (dq dkX11_worksBy_0 3 rfl) ?_
  refine v_if_eq F (tgt := 29) (dq dkX11_worksBy_0 4 rfl) (by decide) (fun c13 => ?_) (fun c13 => ?_)
  · rw [if_pos c13] at h
    refine v_sub [] rfl ?_
    exact t_X11_worksBy_29 y h F E
  · rw [if_neg c13] at h
    refine v_iload_n F (dq dkX11_worksBy_0 5 rfl) rfl 2 rfl ?_
    refine v_iconst F (v := 0) (dq dkX11_worksBy_0 6 rfl) ki_0 ?_
    refine v_iconst F (v := 2) (dq dkX11_worksBy_0 7 rfl) ki_2 ?_
    refine v_callS 3 F (kc1 := 0) (ks1 := 0) (as := [.int a2, .int 0, .int 2]) (st := []) (st1 := (.int (b2i (f_X11_in a2 0 2)) :: [])) (res := (some (.int (b2i (f_X11_in a2 0 2))))) (c_X11_in (l := C.2.1) a2 0 2) (tc15 _ (List.mem_of_getElem? (i := 1) rfl)) (tc15 _ (List.mem_of_getElem? (i := 2) rfl)) (tc1 _ (List.mem_of_getElem? (i := 5) rfl)) (tc15 _ (List.mem_of_getElem? (i := 3) rfl)) (by decide) rfl ⟨rfl, rfl, Nat.le_of_ble_eq_true rfl, Nat.le_of_ble_eq_true rfl⟩ ⟨Nat.le_of_ble_eq_true rfl, Nat.le_of_ble_eq_true rfl⟩ rfl (Nat.le_of_ble_eq_true rfl) rfl rfl rfl (dq dkX11_worksBy_0 8 rfl) ?_
    refine v_if_eq F (tgt := 29) (dq dkX11_worksBy_0 9 rfl) (by decide) (fun c15 => ?_) (fun c15 => ?_)
    · rw [if_pos c15] at h
      refine v_sub [] rfl ?_
      exact t_X11_worksBy_29 y h F E
    · rw [if_neg c15] at h
      refine v_iload F (dq dkX11_worksBy_0 10 rfl) 4 rfl ?_
      refine v_iconst F (v := 0) (dq dkX11_worksBy_0 11 rfl) ki_0 ?_
      refine v_bipush F (v := 10) (dq dkX11_worksBy_0 12 rfl) kb_10 ?_
      refine v_callS 3 F (kc1 := 0) (ks1 := 0) (as := [.int a4, .int 0, .int 10]) (st := []) (st1 := (.int (b2i (f_X11_in a4 0 10)) :: [])) (res := (some (.int (b2i (f_X11_in a4 0 10))))) (c_X11_in (l := C.2.1) a4 0 10) (tc15 _ (List.mem_of_getElem? (i := 1) rfl)) (tc15 _ (List.mem_of_getElem? (i := 2) rfl)) (tc1 _ (List.mem_of_getElem? (i := 5) rfl)) (tc15 _ (List.mem_of_getElem? (i := 3) rfl)) (by decide) rfl ⟨rfl, rfl, Nat.le_of_ble_eq_true rfl, Nat.le_of_ble_eq_true rfl⟩ ⟨Nat.le_of_ble_eq_true rfl, Nat.le_of_ble_eq_true rfl⟩ rfl (Nat.le_of_ble_eq_true rfl) rfl rfl rfl (dq dkX11_worksBy_0 13 rfl) ?_
      refine v_if_ne F (tgt := 32) (dq dkX11_worksBy_0 14 rfl) (by decide) (fun c17 => ?_) (fun c17 => ?_)
      · rw [if_neg c17] at h
        refine v_aload_n F (dq dkX11_worksBy_0 17 rfl) rfl 0 rfl ?_
        refine v_get F 61 (xnM (by decide)) xc_61 rfl inlX11 28 (by decide) (tc12 _ (List.mem_of_getElem? (i := 12) rfl)) rfl rfl (dq dkX11_worksBy_0 18 rfl) ?_
        refine v_iload_n F (dq dkX11_worksBy_0 19 rfl) rfl 1 rfl ?_
        obtain ⟨g18, h⟩ := gd_of h
        refine v_iald F 77 (xnM (by decide)) xc_77 (ib_in g18) (dq dkX11_worksBy_0 20 rfl) ?_
        refine v_iconst F (v := (-1)) (dq dkX11_worksBy_0 21 rfl) ki_m1 ?_
        refine v_icmp_ne F (tgt := 45) (dq dkX11_worksBy_0 22 rfl) (by decide) (fun c19 => ?_) (fun c19 => ?_)
        · rw [if_neg c19] at h
          refine v_aload_n F (dq dkX11_worksBy_0 25 rfl) rfl 0 rfl ?_
          refine v_get F 61 (xnM (by decide)) xc_61 rfl inlX11 28 (by decide) (tc12 _ (List.mem_of_getElem? (i := 12) rfl)) rfl rfl (dq dkX11_worksBy_0 26 rfl) ?_
          refine v_iload_n F (dq dkX11_worksBy_0 27 rfl) rfl 1 rfl ?_
          obtain ⟨g20, h⟩ := gd_of h
          refine v_iald F 77 (xnM (by decide)) xc_77 (ib_in g20) (dq dkX11_worksBy_0 28 rfl) ?_
          refine v_iload_n F (dq dkX11_worksBy_0 29 rfl) rfl 2 rfl ?_
          refine v_icmp_eq F (tgt := 58) (dq dkX11_worksBy_0 30 rfl) (by decide) (fun c21 => ?_) (fun c21 => ?_)
          · rw [if_pos c21] at h
            refine v_iconst F (v := 0) (dq dkX11_worksBy_0 33 rfl) ki_0 ?_
            refine v_istore F (ls' := [(5, .int 0), (0, .ref (K.1 + 61)), (1, .int a1), (2, .int a2), (3, .int a3), (4, .int a4)]) (dq dkX11_worksBy_0 34 rfl) (by decide) rfl ?_
            refine v_iconst F (v := 0) (dq dkX11_worksBy_0 35 rfl) ki_0 ?_
            refine v_istore F (ls' := [(6, .int 0), (5, .int 0), (0, .ref (K.1 + 61)), (1, .int a1), (2, .int a2), (3, .int a3), (4, .int a4)]) (dq dkX11_worksBy_0 36 rfl) (by decide) rfl ?_
            refine v_sub [2, 3, 5, 6, 1, 0] rfl ?_
            exact t_X11_worksBy_64 F E 1000 y a1 a3 a4 0 0 h
          · rw [if_neg c21] at h
            refine v_bipush F (v := (-13)) (dq dkX11_worksBy_0 31 rfl) kb_m13 ?_
            have h := Option.some.inj h
            subst h
            exact v_iret F E (dq dkX11_worksBy_0 32 rfl)
        · rw [if_pos c19] at h
          refine v_bipush F (v := (-11)) (dq dkX11_worksBy_0 23 rfl) kb_m11 ?_
          have h := Option.some.inj h
          subst h
          exact v_iret F E (dq dkX11_worksBy_0 24 rfl)
      · rw [if_pos c17] at h
        refine v_sub [] rfl ?_
        exact t_X11_worksBy_29 y h F E
def rm_X11_isUnder : Room := { frames := 1, cells := 0, slots := 0, locals := 30 }
def f_X11_isUnder_29 : Bool := true
set_option maxRecDepth 100000 in
set_option maxHeartbeats 4000000 in
theorem t_X11_isUnder_29 {C : Cx} {K : KE} {M : GM} {R : Bool}  (h : f_X11_isUnder_29  = R) (F : Fx C RX11 cX11_isUnder 2 rm_X11_isUnder K) (E : CE C M (some (.int (b2i R))) 0 0 (some .boolean)) : V C 29 [] [] M 0 0 := by
  unfold f_X11_isUnder_29 at h
  refine v_iconst F (v := 1) (dq dkX11_isUnder_0 17 rfl) ki_1 ?_
  refine v_goto F (tgt := 34) (dq dkX11_isUnder_0 18 rfl) (by decide) ?_
  subst h
  exact v_zret F E (b2i_n true) (dq dkX11_isUnder_0 20 rfl)
def f_X11_isUnder_33 : Bool := false
set_option maxRecDepth 100000 in
set_option maxHeartbeats 4000000 in
theorem t_X11_isUnder_33 {C : Cx} {K : KE} {M : GM} {R : Bool}  (h : f_X11_isUnder_33  = R) (F : Fx C RX11 cX11_isUnder 2 rm_X11_isUnder K) (E : CE C M (some (.int (b2i R))) 0 0 (some .boolean)) : V C 33 [] [] M 0 0 := by
  unfold f_X11_isUnder_33 at h
  refine v_iconst F (v := 0) (dq dkX11_isUnder_0 19 rfl) ki_0 ?_
  subst h
  exact v_zret F E (b2i_n false) (dq dkX11_isUnder_0 20 rfl)
def f_X11_isUnder_19 (a0 : Int32) (a1 : Int32) : Bool := if a1 = 4 then (if a0 = 5 then f_X11_isUnder_29 else f_X11_isUnder_33) else f_X11_isUnder_33
set_option maxRecDepth 100000 in
set_option maxHeartbeats 4000000 in
theorem t_X11_isUnder_19 {C : Cx} {K : KE} {M : GM} {R : Bool}  (a0 : Int32) (a1 : Int32) (h : f_X11_isUnder_19 a0 a1 = R) (F : Fx C RX11 cX11_isUnder 2 rm_X11_isUnder K) (E : CE C M (some (.int (b2i R))) 0 0 (some .boolean)) : V C 19 [(0, .int a0), (1, .int a1)] [] M 0 0 := by
  unfold f_X11_isUnder_19 at h
  refine v_iload_n F (dq dkX11_isUnder_0 11 rfl) rfl 1 rfl ?_
  refine v_iconst F (v := 4) (dq dkX11_isUnder_0 12 rfl) ki_4 ?_
  refine v_icmp_ne F (tgt := 33) (dq dkX11_isUnder_0 13 rfl) (by decide) (fun c1 => ?_) (fun c1 => ?_)
  · rw [if_neg c1] at h
    refine v_sub [] rfl ?_
    exact t_X11_isUnder_33 h F E
  · rw [if_pos c1] at h
    refine v_iload_n F (dq dkX11_isUnder_0 14 rfl) rfl 0 rfl ?_
    refine v_iconst F (v := 5) (dq dkX11_isUnder_0 15 rfl) ki_5 ?_
    refine v_icmp_ne F (tgt := 33) (dq dkX11_isUnder_0 16 rfl) (by decide) (fun c2 => ?_) (fun c2 => ?_)
    · rw [if_neg c2] at h
      refine v_sub [] rfl ?_
      exact t_X11_isUnder_33 h F E
    · rw [if_pos c2] at h
      refine v_sub [] rfl ?_
      exact t_X11_isUnder_29 h F E
def f_X11_isUnder (a0 : Int32) (a1 : Int32) : Bool := if a1 = 0 then f_X11_isUnder_29 else (if a0 = a1 then f_X11_isUnder_29 else (if a1 = 1 then (if a0 = 2 then f_X11_isUnder_29 else (f_X11_isUnder_19 a0 a1)) else (f_X11_isUnder_19 a0 a1)))
set_option maxRecDepth 100000 in
set_option maxHeartbeats 4000000 in
theorem c_X11_isUnder {K : KE} {l : Launch} {M : GM} (a0 : Int32) (a1 : Int32) : MC K l yX11_isUnder cX11_isUnder 2 (some .boolean) rm_X11_isUnder 0 0 [.int a0, .int a1] M M (some (.int (b2i (f_X11_isUnder a0 a1)))) := by
  obtain ⟨R, h⟩ : ∃ R, f_X11_isUnder a0 a1 = R := ⟨_, rfl⟩
  rw [h]
  unfold f_X11_isUnder at h
  refine mc_of (ls0 := [(0, .int a0), (1, .int a1)]) (by decide) (Nat.le_of_ble_eq_true rfl) rfl (fun C hl hnm F E => ?_)
  have F : Fx C RX11 cX11_isUnder 2 rm_X11_isUnder K := F
  refine v_iload_n F (dq dkX11_isUnder_0 0 rfl) rfl 1 rfl ?_
  refine v_if_eq F (tgt := 29) (dq dkX11_isUnder_0 1 rfl) (by decide) (fun c3 => ?_) (fun c3 => ?_)
  · rw [if_pos c3] at h
    refine v_sub [] rfl ?_
    exact t_X11_isUnder_29 h F E
  · rw [if_neg c3] at h
    refine v_iload_n F (dq dkX11_isUnder_0 2 rfl) rfl 0 rfl ?_
    refine v_iload_n F (dq dkX11_isUnder_0 3 rfl) rfl 1 rfl ?_
    refine v_icmp_eq F (tgt := 29) (dq dkX11_isUnder_0 4 rfl) (by decide) (fun c4 => ?_) (fun c4 => ?_)
    · rw [if_pos c4] at h
      refine v_sub [] rfl ?_
      exact t_X11_isUnder_29 h F E
    · rw [if_neg c4] at h
      refine v_iload_n F (dq dkX11_isUnder_0 5 rfl) rfl 1 rfl ?_
      refine v_iconst F (v := 1) (dq dkX11_isUnder_0 6 rfl) ki_1 ?_
      refine v_icmp_ne F (tgt := 19) (dq dkX11_isUnder_0 7 rfl) (by decide) (fun c5 => ?_) (fun c5 => ?_)
      · rw [if_neg c5] at h
        exact t_X11_isUnder_19 a0 a1 h F E
      · rw [if_pos c5] at h
        refine v_iload_n F (dq dkX11_isUnder_0 8 rfl) rfl 0 rfl ?_
        refine v_iconst F (v := 2) (dq dkX11_isUnder_0 9 rfl) ki_2 ?_
        refine v_icmp_eq F (tgt := 29) (dq dkX11_isUnder_0 10 rfl) (by decide) (fun c6 => ?_) (fun c6 => ?_)
        · rw [if_pos c6] at h
          refine v_sub [] rfl ?_
          exact t_X11_isUnder_29 h F E
        · rw [if_neg c6] at h
          exact t_X11_isUnder_19 a0 a1 h F E
def rm_X11_taken : Room := { frames := 2, cells := 0, slots := 0, locals := 52 }
def f_X11_taken_108 (y : MS) : Option (Int32) := some (-13)
set_option maxRecDepth 100000 in
set_option maxHeartbeats 4000000 in
theorem t_X11_taken_108 {C : Cx} {K : KE} {nn : Nat} {x : CS} {R : Int32}  (y : MS) (h : f_X11_taken_108 y = some R) (F : Fx C RX11 cX11_taken 3 rm_X11_taken K) (E : CE C (xfM K nn x y) (some (.int R)) 0 0 (some .int)) : V C 108 [] [] (xfM K nn x y) 0 0 := by
  unfold f_X11_taken_108 at h
  refine v_bipush F (v := (-13)) (dq dkX11_taken_1 17 rfl) kb_m13 ?_
  have h := Option.some.inj h
  subst h
  exact v_iret F E (dq dkX11_taken_1 18 rfl)
def f_X11_taken (y : MS) (a1 : Int32) (a2 : Int32) : Option (Int32) := if (b2i (f_X11_in a2 0 6)) = 0 then (some (-2)) else (if (b2i (f_X11_in a1 0 15)) = 0 then (some (-12)) else (if 6 ≤ a1 then (if (a1 - 6) < (gi y 61 6) then (if 6 ≤ a2 then (f_X11_taken_108 y) else (gd (ib (a1 - 6) 10) (if (b2i (f_X11_isUnder (gi y 63 (a1 - 6).toNatClampNeg) a2)) = 0 then (f_X11_taken_108 y) else (some (a1 - 6))))) else (some (-11))) else (if a1 < (gi y 61 10) then (if a2 = 6 then (gd (ib a1 6) (some (gi y 66 a1.toNatClampNeg))) else (some (-13))) else (some (-11)))))
set_option maxRecDepth 100000 in
set_option maxHeartbeats 4000000 in
theorem c_X11_taken {K : KE} {l : Launch} {R : Int32} {nn : Nat} (x : CS) (y : MS) (a1 : Int32) (a2 : Int32) (h : f_X11_taken y a1 a2 = some R) : MC K l yX11_taken cX11_taken 3 (some .int) rm_X11_taken 0 0 [.ref (K.1 + 61), .int a1, .int a2] (xfM K nn x y) (xfM K nn x y) (some (.int R)) := by
  unfold f_X11_taken at h
  refine mc_of (ls0 := [(0, .ref (K.1 + 61)), (1, .int a1), (2, .int a2)]) (by decide) (Nat.le_of_ble_eq_true rfl) rfl (fun C hl hnm F E => ?_)
  have F : Fx C RX11 cX11_taken 3 rm_X11_taken K := F
  refine v_iload_n F (dq dkX11_taken_0 0 rfl) rfl 2 rfl ?_
  refine v_iconst F (v := 0) (dq dkX11_taken_0 1 rfl) ki_0 ?_
  refine v_bipush F (v := 6) (dq dkX11_taken_0 2 rfl) kb_6 ?_
  refine v_callS 3 F (kc1 := 0) (ks1 := 0) (as := [.int a2, .int 0, .int 6]) (st := []) (st1 := (.int (b2i (f_X11_in a2 0 6)) :: [])) (res := (some (.int (b2i (f_X11_in a2 0 6))))) (c_X11_in (l := C.2.1) a2 0 6) (tc15 _ (List.mem_of_getElem? (i := 1) rfl)) (tc15 _ (List.mem_of_getElem? (i := 2) rfl)) (tc1 _ (List.mem_of_getElem? (i := 5) rfl)) (tc15 _ (List.mem_of_getElem? (i := 3) rfl)) (by decide) rfl ⟨rfl, rfl, Nat.le_of_ble_eq_true rfl, Nat.le_of_ble_eq_true rfl⟩ ⟨Nat.le_of_ble_eq_true rfl, Nat.le_of_ble_eq_true rfl⟩ rfl (Nat.le_of_ble_eq_true rfl) rfl rfl rfl (dq dkX11_taken_0 3 rfl) ?_
  refine v_if_ne F (tgt := 13) (dq dkX11_taken_0 4 rfl) (by decide) (fun c2 => ?_) (fun c2 => ?_)
  · rw [if_neg c2] at h
    refine v_iload_n F (dq dkX11_taken_0 7 rfl) rfl 1 rfl ?_
    refine v_iconst F (v := 0) (dq dkX11_taken_0 8 rfl) ki_0 ?_
    refine v_bipush F (v := 15) (dq dkX11_taken_0 9 rfl) kb_15 ?_
    refine v_callS 3 F (kc1 := 0) (ks1 := 0) (as := [.int a1, .int 0, .int 15]) (st := []) (st1 := (.int (b2i (f_X11_in a1 0 15)) :: [])) (res := (some (.int (b2i (f_X11_in a1 0 15))))) (c_X11_in (l := C.2.1) a1 0 15) (tc15 _ (List.mem_of_getElem? (i := 1) rfl)) (tc15 _ (List.mem_of_getElem? (i := 2) rfl)) (tc1 _ (List.mem_of_getElem? (i := 5) rfl)) (tc15 _ (List.mem_of_getElem? (i := 3) rfl)) (by decide) rfl ⟨rfl, rfl, Nat.le_of_ble_eq_true rfl, Nat.le_of_ble_eq_true rfl⟩ ⟨Nat.le_of_ble_eq_true rfl, Nat.le_of_ble_eq_true rfl⟩ rfl (Nat.le_of_ble_eq_true rfl) rfl rfl rfl (dq dkX11_taken_0 10 rfl) ?_
    refine v_if_ne F (tgt := 26) (dq dkX11_taken_0 11 rfl) (by decide) (fun c4 => ?_) (fun c4 => ?_)
    · rw [if_neg c4] at h
      refine v_iload_n F (dq dkX11_taken_0 14 rfl) rfl 1 rfl ?_
      refine v_bipush F (v := 6) (dq dkX11_taken_0 15 rfl) kb_6 ?_
      refine v_icmp_ge F (tgt := 63) (dq dkX11_taken_0 16 rfl) (by decide) (fun c5 => ?_) (fun c5 => ?_)
      · rw [if_pos c5] at h
        refine v_iload_n F (dq dkX11_taken_0 33 rfl) rfl 1 rfl ?_
        refine v_bipush F (v := 6) (dq dkX11_taken_0 34 rfl) kb_6 ?_
        refine v_isub F (dq dkX11_taken_0 35 rfl) ?_
        refine v_aload_n F (dq dkX11_taken_0 36 rfl) rfl 0 rfl ?_
        refine v_get F 61 (xnM (by decide)) xc_61 rfl inlX11 6 (by decide) (tc16 _ (List.mem_of_getElem? (i := 16) rfl)) rfl rfl (dq dkX11_taken_0 37 rfl) ?_
        refine v_icmp_lt F (tgt := 79) (dq dkX11_taken_0 38 rfl) (by decide) (fun c6 => ?_) (fun c6 => ?_)
        · rw [if_pos c6] at h
          refine v_iload_n F (dq dkX11_taken_1 1 rfl) rfl 2 rfl ?_
          refine v_bipush F (v := 6) (dq dkX11_taken_1 2 rfl) kb_6 ?_
          refine v_icmp_ge F (tgt := 108) (dq dkX11_taken_1 3 rfl) (by decide) (fun c7 => ?_) (fun c7 => ?_)
          · rw [if_pos c7] at h
            refine v_sub [] rfl ?_
            exact t_X11_taken_108 y h F E
          · rw [if_neg c7] at h
            refine v_aload_n F (dq dkX11_taken_1 4 rfl) rfl 0 rfl ?_
            refine v_get F 61 (xnM (by decide)) xc_61 rfl inlX11 7 (by decide) (tc11 _ (List.mem_of_getElem? (i := 21) rfl)) rfl rfl (dq dkX11_taken_1 5 rfl) ?_
            refine v_iload_n F (dq dkX11_taken_1 6 rfl) rfl 1 rfl ?_
            refine v_bipush F (v := 6) (dq dkX11_taken_1 7 rfl) kb_6 ?_
            refine v_isub F (dq dkX11_taken_1 8 rfl) ?_
            obtain ⟨g8, h⟩ := gd_of h
            refine v_iald F 63 (xnM (by decide)) xc_63 (ib_in g8) (dq dkX11_taken_1 9 rfl) ?_
            refine v_iload_n F (dq dkX11_taken_1 10 rfl) rfl 2 rfl ?_
            refine v_callS 2 F (kc1 := 0) (ks1 := 0) (as := [.int (gi y 63 (a1 - 6).toNatClampNeg), .int a2]) (st := []) (st1 := (.int (b2i (f_X11_isUnder (gi y 63 (a1 - 6).toNatClampNeg) a2)) :: [])) (res := (some (.int (b2i (f_X11_isUnder (gi y 63 (a1 - 6).toNatClampNeg) a2))))) (c_X11_isUnder (l := C.2.1) (gi y 63 (a1 - 6).toNatClampNeg) a2) (tc53 _ (List.mem_of_getElem? (i := 22) rfl)) (tc53 _ (List.mem_of_getElem? (i := 23) rfl)) (tc1 _ (List.mem_of_getElem? (i := 5) rfl)) (tc54 _ (List.mem_of_getElem? (i := 0) rfl)) (by decide) rfl ⟨rfl, rfl, Nat.le_of_ble_eq_true rfl, Nat.le_of_ble_eq_true rfl⟩ ⟨Nat.le_of_ble_eq_true rfl, Nat.le_of_ble_eq_true rfl⟩ rfl (Nat.le_of_ble_eq_true rfl) rfl rfl rfl (dq dkX11_taken_1 11 rfl) ?_
            refine v_if_eq F (tgt := 108) (dq dkX11_taken_1 12 rfl) (by decide) (fun c10 => ?_) (fun c10 => ?_)
            · rw [if_pos c10] at h
              refine v_sub [] rfl ?_
              exact t_X11_taken_108 y h F E
            · rw [if_neg c10] at h
              refine v_iload_n F (dq dkX11_taken_1 13 rfl) rfl 1 rfl ?_
              refine v_bipush F (v := 6) (dq dkX11_taken_1 14 rfl) kb_6 ?_
              refine v_isub F (dq dkX11_taken_1 15 rfl) ?_
              refine v_goto F (tgt := 110) (dq dkX11_taken_1 16 rfl) (by decide) ?_
              have h := Option.some.inj h
              subst h
              exact v_iret F E (dq dkX11_taken_1 18 rfl)
        · rw [if_neg c6] at h
          refine v_bipush F (v := (-11)) (dq dkX11_taken_0 39 rfl) kb_m11 ?_
          refine v_goto F (tgt := 110) (dq dkX11_taken_1 0 rfl) (by decide) ?_
          have h := Option.some.inj h
          subst h
          exact v_iret F E (dq dkX11_taken_1 18 rfl)
      · rw [if_neg c5] at h
        refine v_iload_n F (dq dkX11_taken_0 17 rfl) rfl 1 rfl ?_
        refine v_aload_n F (dq dkX11_taken_0 18 rfl) rfl 0 rfl ?_
        refine v_get F 61 (xnM (by decide)) xc_61 rfl inlX11 10 (by decide) (tc16 _ (List.mem_of_getElem? (i := 17) rfl)) rfl rfl (dq dkX11_taken_0 19 rfl) ?_
        refine v_icmp_lt F (tgt := 45) (dq dkX11_taken_0 20 rfl) (by decide) (fun c11 => ?_) (fun c11 => ?_)
        · rw [if_pos c11] at h
          refine v_iload_n F (dq dkX11_taken_0 23 rfl) rfl 2 rfl ?_
          refine v_bipush F (v := 6) (dq dkX11_taken_0 24 rfl) kb_6 ?_
          refine v_icmp_ne F (tgt := 60) (dq dkX11_taken_0 25 rfl) (by decide) (fun c12 => ?_) (fun c12 => ?_)
          · rw [if_neg c12] at h
            refine v_bipush F (v := (-13)) (dq dkX11_taken_0 31 rfl) kb_m13 ?_
            have h := Option.some.inj h
            subst h
            exact v_iret F E (dq dkX11_taken_0 32 rfl)
          · rw [if_pos c12] at h
            refine v_aload_n F (dq dkX11_taken_0 26 rfl) rfl 0 rfl ?_
            refine v_get F 61 (xnM (by decide)) xc_61 rfl inlX11 11 (by decide) (tc12 _ (List.mem_of_getElem? (i := 0) rfl)) rfl rfl (dq dkX11_taken_0 27 rfl) ?_
            refine v_iload_n F (dq dkX11_taken_0 28 rfl) rfl 1 rfl ?_
            obtain ⟨g13, h⟩ := gd_of h
            refine v_iald F 66 (xnM (by decide)) xc_66 (ib_in g13) (dq dkX11_taken_0 29 rfl) ?_
            refine v_goto F (tgt := 62) (dq dkX11_taken_0 30 rfl) (by decide) ?_
            have h := Option.some.inj h
            subst h
            exact v_iret F E (dq dkX11_taken_0 32 rfl)
        · rw [if_neg c11] at h
          refine v_bipush F (v := (-11)) (dq dkX11_taken_0 21 rfl) kb_m11 ?_
          refine v_goto F (tgt := 62) (dq dkX11_taken_0 22 rfl) (by decide) ?_
          have h := Option.some.inj h
          subst h
          exact v_iret F E (dq dkX11_taken_0 32 rfl)
    · rw [if_pos c4] at h
      refine v_bipush F (v := (-12)) (dq dkX11_taken_0 12 rfl) kb_m12 ?_
      have h := Option.some.inj h
      subst h
      exact v_iret F E (dq dkX11_taken_0 13 rfl)
  · rw [if_pos c2] at h
    refine v_bipush F (v := (-2)) (dq dkX11_taken_0 5 rfl) kb_m2 ?_
    have h := Option.some.inj h
    subst h
    exact v_iret F E (dq dkX11_taken_0 6 rfl)
