def rm_X11_fell : Room := { frames := 3, cells := 0, slots := 0, locals := 73 }
def f_X11_fell_31 (y : MS) : Option (Int32) := some (-7)
set_option maxRecDepth 100000 in
set_option maxHeartbeats 4000000 in
theorem t_X11_fell_31 {C : Cx} {K : KE} {nn : Nat} {x : CS} {R : Int32}  (y : MS) (h : f_X11_fell_31 y = some R) (F : Fx C RX11 cX11_fell 9 rm_X11_fell K) (E : CE C (xfM K nn x y) (some (.int R)) 0 0 (some .int)) : V C 31 [] [] (xfM K nn x y) 0 0 := by
  unfold f_X11_fell_31 at h
  refine v_bipush F (v := (-7)) (dq dkX11_fell_0 16 rfl) kb_m7 ?_
  have h := Option.some.inj h
  subst h
  exact v_iret F E (dq dkX11_fell_0 17 rfl)
def f_X11_fell_174 (k43 : Int32 → Int32 → Int32 → Int32 → Int32 → Int32 → Option (Int32)) (y : MS) (a1 : Int32) (a2 : Int32) (a3 : Int32) (a4 : Int32) (a5 : Int32) (a6 : Int32) : Option (Int32) := k43 a1 a2 a3 a4 a5 (a6 + 1)
set_option maxRecDepth 100000 in
set_option maxHeartbeats 4000000 in
theorem t_X11_fell_174 {C : Cx} {K : KE} {nn : Nat} {x : CS} {R : Int32}  (k43 : Int32 → Int32 → Int32 → Int32 → Int32 → Int32 → Option (Int32)) (y : MS) (a1 : Int32) (a2 : Int32) (a3 : Int32) (a4 : Int32) (a5 : Int32) (a6 : Int32) (hk43 : ∀ (a1 : Int32) (a2 : Int32) (a3 : Int32) (a4 : Int32) (a5 : Int32) (a6 : Int32), k43 a1 a2 a3 a4 a5 a6 = some R → V C 43 [(0, .ref (K.1 + 61)), (1, .int a1), (2, .int a2), (3, .int a3), (4, .int a4), (5, .int a5), (6, .int a6)] [] (xfM K nn x y) 0 0) (h : f_X11_fell_174 k43 y a1 a2 a3 a4 a5 a6 = some R) (F : Fx C RX11 cX11_fell 9 rm_X11_fell K) (E : CE C (xfM K nn x y) (some (.int R)) 0 0 (some .int)) : V C 174 [(0, .ref (K.1 + 61)), (1, .int a1), (2, .int a2), (3, .int a3), (4, .int a4), (5, .int a5), (6, .int a6)] [] (xfM K nn x y) 0 0 := by
  unfold f_X11_fell_174 at h
  refine v_iinc F (v := a6 + 1) (ls' := [(6, .int (a6 + 1)), (0, .ref (K.1 + 61)), (1, .int a1), (2, .int a2), (3, .int a3), (4, .int a4), (5, .int a5)]) (dq dkX11_fell_2 17 rfl) (j := 6) rfl (kv_add ki_1) (by decide) rfl ?_
  refine v_goto F (tgt := 43) (dq dkX11_fell_2 18 rfl) (by decide) ?_
  refine v_sub [1, 2, 3, 4, 5, 6, 0] rfl ?_
  exact hk43 a1 a2 a3 a4 a5 (a6 + 1) h
def f_X11_fell_166 (k43 : Int32 → Int32 → Int32 → Int32 → Int32 → Int32 → Option (Int32)) (y : MS) (a1 : Int32) (a2 : Int32) (a3 : Int32) (a6 : Int32) (a8 : Int32) : Option (Int32) := f_X11_fell_174 k43 y a1 a2 a3 a6 a8 a6
set_option maxRecDepth 100000 in
set_option maxHeartbeats 4000000 in
theorem t_X11_fell_166 {C : Cx} {K : KE} {nn : Nat} {x : CS} {R : Int32}  (k43 : Int32 → Int32 → Int32 → Int32 → Int32 → Int32 → Option (Int32)) (y : MS) (a1 : Int32) (a2 : Int32) (a3 : Int32) (a6 : Int32) (a8 : Int32) (hk43 : ∀ (a1 : Int32) (a2 : Int32) (a3 : Int32) (a4 : Int32) (a5 : Int32) (a6 : Int32), k43 a1 a2 a3 a4 a5 a6 = some R → V C 43 [(0, .ref (K.1 + 61)), (1, .int a1), (2, .int a2), (3, .int a3), (4, .int a4), (5, .int a5), (6, .int a6)] [] (xfM K nn x y) 0 0) (h : f_X11_fell_166 k43 y a1 a2 a3 a6 a8 = some R) (F : Fx C RX11 cX11_fell 9 rm_X11_fell K) (E : CE C (xfM K nn x y) (some (.int R)) 0 0 (some .int)) : V C 166 [(0, .ref (K.1 + 61)), (1, .int a1), (2, .int a2), (3, .int a3), (6, .int a6), (8, .int a8)] [] (xfM K nn x y) 0 0 := by
  unfold f_X11_fell_166 at h
  refine v_iload F (dq dkX11_fell_2 13 rfl) 4 rfl ?_
  refine v_istore F (ls' := [(4, .int a6), (0, .ref (K.1 + 61)), (1, .int a1), (2, .int a2), (3, .int a3), (6, .int a6), (8, .int a8)]) (dq dkX11_fell_2 14 rfl) (by decide) rfl ?_
  refine v_iload F (dq dkX11_fell_2 15 rfl) 6 rfl ?_
  refine v_istore F (ls' := [(5, .int a8), (4, .int a6), (0, .ref (K.1 + 61)), (1, .int a1), (2, .int a2), (3, .int a3), (6, .int a6), (8, .int a8)]) (dq dkX11_fell_2 16 rfl) (by decide) rfl ?_
  refine v_sub [2, 3, 4, 5, 1, 0, 6] rfl ?_
  exact t_X11_fell_174 k43 y a1 a2 a3 a6 a8 a6 hk43 h F E
def f_X11_fell_151 (k43 : Int32 → Int32 → Int32 → Int32 → Int32 → Int32 → Option (Int32)) (y : MS) (a1 : Int32) (a2 : Int32) (a3 : Int32) (a4 : Int32) (a5 : Int32) (a6 : Int32) (s0 : Int32) : Option (Int32) := if a4 = (-1) then (f_X11_fell_166 k43 y a1 a2 a3 a6 s0) else (if a5 ≤ s0 then (f_X11_fell_174 k43 y a1 a2 a3 a4 a5 a6) else (f_X11_fell_166 k43 y a1 a2 a3 a6 s0))
set_option maxRecDepth 100000 in
set_option maxHeartbeats 4000000 in
theorem t_X11_fell_151 {C : Cx} {K : KE} {nn : Nat} {x : CS} {R : Int32}  (k43 : Int32 → Int32 → Int32 → Int32 → Int32 → Int32 → Option (Int32)) (y : MS) (a1 : Int32) (a2 : Int32) (a3 : Int32) (a4 : Int32) (a5 : Int32) (a6 : Int32) (s0 : Int32) (hk43 : ∀ (a1 : Int32) (a2 : Int32) (a3 : Int32) (a4 : Int32) (a5 : Int32) (a6 : Int32), k43 a1 a2 a3 a4 a5 a6 = some R → V C 43 [(0, .ref (K.1 + 61)), (1, .int a1), (2, .int a2), (3, .int a3), (4, .int a4), (5, .int a5), (6, .int a6)] [] (xfM K nn x y) 0 0) (h : f_X11_fell_151 k43 y a1 a2 a3 a4 a5 a6 s0 = some R) (F : Fx C RX11 cX11_fell 9 rm_X11_fell K) (E : CE C (xfM K nn x y) (some (.int R)) 0 0 (some .int)) : V C 151 [(0, .ref (K.1 + 61)), (1, .int a1), (2, .int a2), (3, .int a3), (4, .int a4), (5, .int a5), (6, .int a6)] [.int s0] (xfM K nn x y) 0 0 := by
  unfold f_X11_fell_151 at h
  refine v_istore F (ls' := [(8, .int s0), (0, .ref (K.1 + 61)), (1, .int a1), (2, .int a2), (3, .int a3), (4, .int a4), (5, .int a5), (6, .int a6)]) (dq dkX11_fell_2 6 rfl) (by decide) rfl ?_
  refine v_iload F (dq dkX11_fell_2 7 rfl) 5 rfl ?_
  refine v_iconst F (v := (-1)) (dq dkX11_fell_2 8 rfl) ki_m1 ?_
  refine v_icmp_eq F (tgt := 166) (dq dkX11_fell_2 9 rfl) (by decide) (fun c1 => ?_) (fun c1 => ?_)
  · rw [if_pos c1] at h
    refine v_sub [1, 2, 3, 4, 7, 0] rfl ?_
    exact t_X11_fell_166 k43 y a1 a2 a3 a6 s0 hk43 h F E
  · rw [if_neg c1] at h
    refine v_iload F (dq dkX11_fell_2 10 rfl) 0 rfl ?_
    refine v_iload F (dq dkX11_fell_2 11 rfl) 6 rfl ?_
    refine v_icmp_ge F (tgt := 174) (dq dkX11_fell_2 12 rfl) (by decide) (fun c2 => ?_) (fun c2 => ?_)
    · rw [if_pos c2] at h
      refine v_sub [1, 2, 3, 4, 5, 6, 7] rfl ?_
      exact t_X11_fell_174 k43 y a1 a2 a3 a4 a5 a6 hk43 h F E
    · rw [if_neg c2] at h
      refine v_sub [1, 2, 3, 4, 7, 0] rfl ?_
      exact t_X11_fell_166 k43 y a1 a2 a3 a6 s0 hk43 h F E
def f_X11_fell_137 (k43 : Int32 → Int32 → Int32 → Int32 → Int32 → Int32 → Option (Int32)) (y : MS) (a1 : Int32) (a2 : Int32) (a3 : Int32) (a4 : Int32) (a5 : Int32) (a6 : Int32) (s0 : Int32) (s1 : Int32) : Option (Int32) := if 0 ≤ (s1 - s0) then (f_X11_fell_151 k43 y a1 a2 a3 a4 a5 a6 (s1 - s0)) else (f_X11_fell_151 k43 y a1 a2 a3 a4 a5 a6 0)
set_option maxRecDepth 100000 in
set_option maxHeartbeats 4000000 in
theorem t_X11_fell_137 {C : Cx} {K : KE} {nn : Nat} {x : CS} {R : Int32}  (k43 : Int32 → Int32 → Int32 → Int32 → Int32 → Int32 → Option (Int32)) (y : MS) (a1 : Int32) (a2 : Int32) (a3 : Int32) (a4 : Int32) (a5 : Int32) (a6 : Int32) (s0 : Int32) (s1 : Int32) (hk43 : ∀ (a1 : Int32) (a2 : Int32) (a3 : Int32) (a4 : Int32) (a5 : Int32) (a6 : Int32), k43 a1 a2 a3 a4 a5 a6 = some R → V C 43 [(0, .ref (K.1 + 61)), (1, .int a1), (2, .int a2), (3, .int a3), (4, .int a4), (5, .int a5), (6, .int a6)] [] (xfM K nn x y) 0 0) (h : f_X11_fell_137 k43 y a1 a2 a3 a4 a5 a6 s0 s1 = some R) (F : Fx C RX11 cX11_fell 9 rm_X11_fell K) (E : CE C (xfM K nn x y) (some (.int R)) 0 0 (some .int)) : V C 137 [(0, .ref (K.1 + 61)), (1, .int a1), (2, .int a2), (3, .int a3), (4, .int a4), (5, .int a5), (6, .int a6)] [.int s0, .int s1] (xfM K nn x y) 0 0 := by
  unfold f_X11_fell_137 at h
  refine v_isub F (dq dkX11_fell_1 39 rfl) ?_
  refine v_istore F (ls' := [(8, .int (s1 - s0)), (0, .ref (K.1 + 61)), (1, .int a1), (2, .int a2), (3, .int a3), (4, .int a4), (5, .int a5), (6, .int a6)]) (dq dkX11_fell_2 0 rfl) (by decide) rfl ?_
  refine v_iload F (dq dkX11_fell_2 1 rfl) 0 rfl ?_
  refine v_if_ge F (tgt := 149) (dq dkX11_fell_2 2 rfl) (by decide) (fun c3 => ?_) (fun c3 => ?_)
  · rw [if_pos c3] at h
    refine v_iload F (dq dkX11_fell_2 5 rfl) 0 rfl ?_
    refine v_sub [1, 2, 3, 4, 5, 6, 7] rfl ?_
    exact t_X11_fell_151 k43 y a1 a2 a3 a4 a5 a6 (s1 - s0) hk43 h F E
  · rw [if_neg c3] at h
    refine v_iconst F (v := 0) (dq dkX11_fell_2 3 rfl) ki_0 ?_
    refine v_goto F (tgt := 151) (dq dkX11_fell_2 4 rfl) (by decide) ?_
    refine v_sub [1, 2, 3, 4, 5, 6, 7] rfl ?_
    exact t_X11_fell_151 k43 y a1 a2 a3 a4 a5 a6 0 hk43 h F E
def f_X11_fell_88 (k43 : Int32 → Int32 → Int32 → Int32 → Int32 → Int32 → Option (Int32)) (y : MS) (a1 : Int32) (a2 : Int32) (a3 : Int32) (a4 : Int32) (a5 : Int32) (a6 : Int32) (s0 : Int32) : Option (Int32) := gd (ib a1 6) (gd (ib a1 6) (gd (ib a1 6) (if ((a2 >>> (a6 &&& 31)) &&& 1) = 1 then (f_X11_fell_137 k43 y a1 a2 a3 a4 a5 a6 12 ((((f_X11_size (gi y 67 a1.toNatClampNeg)) * s0) + (3 * (gi y 68 a1.toNatClampNeg))) + ((gi y 66 a1.toNatClampNeg) / 10))) else (f_X11_fell_137 k43 y a1 a2 a3 a4 a5 a6 0 ((((f_X11_size (gi y 67 a1.toNatClampNeg)) * s0) + (3 * (gi y 68 a1.toNatClampNeg))) + ((gi y 66 a1.toNatClampNeg) / 10))))))
set_option maxRecDepth 100000 in
set_option maxHeartbeats 4000000 in
theorem t_X11_fell_88 {C : Cx} {K : KE} {nn : Nat} {x : CS} {R : Int32}  (k43 : Int32 → Int32 → Int32 → Int32 → Int32 → Int32 → Option (Int32)) (y : MS) (a1 : Int32) (a2 : Int32) (a3 : Int32) (a4 : Int32) (a5 : Int32) (a6 : Int32) (s0 : Int32) (hk43 : ∀ (a1 : Int32) (a2 : Int32) (a3 : Int32) (a4 : Int32) (a5 : Int32) (a6 : Int32), k43 a1 a2 a3 a4 a5 a6 = some R → V C 43 [(0, .ref (K.1 + 61)), (1, .int a1), (2, .int a2), (3, .int a3), (4, .int a4), (5, .int a5), (6, .int a6)] [] (xfM K nn x y) 0 0) (h : f_X11_fell_88 k43 y a1 a2 a3 a4 a5 a6 s0 = some R) (F : Fx C RX11 cX11_fell 9 rm_X11_fell K) (E : CE C (xfM K nn x y) (some (.int R)) 0 0 (some .int)) : V C 88 [(0, .ref (K.1 + 61)), (1, .int a1), (2, .int a2), (3, .int a3), (4, .int a4), (5, .int a5), (6, .int a6)] [.int s0] (xfM K nn x y) 0 0 := by
  unfold f_X11_fell_88 at h
  refine v_istore F (ls' := [(7, .int s0), (0, .ref (K.1 + 61)), (1, .int a1), (2, .int a2), (3, .int a3), (4, .int a4), (5, .int a5), (6, .int a6)]) (dq dkX11_fell_1 7 rfl) (by decide) rfl ?_
  refine v_aload_n F (dq dkX11_fell_1 8 rfl) rfl 1 rfl ?_
  refine v_get F 61 (xnM (by decide)) xc_61 rfl inlX11 12 (by decide) (tc12 _ (List.mem_of_getElem? (i := 1) rfl)) rfl rfl (dq dkX11_fell_1 9 rfl) ?_
  refine v_iload_n F (dq dkX11_fell_1 10 rfl) rfl 2 rfl ?_
  obtain ⟨g4, h⟩ := gd_of h
  refine v_iald F 67 (xnM (by decide)) xc_67 (ib_in g4) (dq dkX11_fell_1 11 rfl) ?_
  refine v_callS 1 F (kc1 := 0) (ks1 := 0) (as := [.int (gi y 67 a1.toNatClampNeg)]) (st := []) (st1 := (.int (f_X11_size (gi y 67 a1.toNatClampNeg)) :: [])) (res := (some (.int (f_X11_size (gi y 67 a1.toNatClampNeg))))) (c_X11_size (l := C.2.1) (gi y 67 a1.toNatClampNeg)) (tc29 _ (List.mem_of_getElem? (i := 9) rfl)) (tc29 _ (List.mem_of_getElem? (i := 10) rfl)) (tc1 _ (List.mem_of_getElem? (i := 5) rfl)) (tc29 _ (List.mem_of_getElem? (i := 11) rfl)) (by decide) rfl ⟨rfl, rfl, Nat.le_of_ble_eq_true rfl, Nat.le_of_ble_eq_true rfl⟩ ⟨Nat.le_of_ble_eq_true rfl, Nat.le_of_ble_eq_true rfl⟩ rfl (Nat.le_of_ble_eq_true rfl) rfl rfl rfl (dq dkX11_fell_1 12 rfl) ?_
  refine v_iload F (dq dkX11_fell_1 13 rfl) 0 rfl ?_
  refine v_imul F (dq dkX11_fell_1 14 rfl) ?_
  refine v_iconst F (v := 3) (dq dkX11_fell_1 15 rfl) ki_3 ?_
  refine v_aload_n F (dq dkX11_fell_1 16 rfl) rfl 1 rfl ?_
  refine v_get F 61 (xnM (by decide)) xc_61 rfl inlX11 13 (by decide) (tc12 _ (List.mem_of_getElem? (i := 2) rfl)) rfl rfl (dq dkX11_fell_1 17 rfl) ?_
  refine v_iload_n F (dq dkX11_fell_1 18 rfl) rfl 2 rfl ?_
  obtain ⟨g6, h⟩ := gd_of h
  refine v_iald F 68 (xnM (by decide)) xc_68 (ib_in g6) (dq dkX11_fell_1 19 rfl) ?_
  refine v_imul F (dq dkX11_fell_1 20 rfl) ?_
  refine v_iadd F (dq dkX11_fell_1 21 rfl) ?_
  refine v_aload_n F (dq dkX11_fell_1 22 rfl) rfl 1 rfl ?_
  refine v_get F 61 (xnM (by decide)) xc_61 rfl inlX11 11 (by decide) (tc12 _ (List.mem_of_getElem? (i := 0) rfl)) rfl rfl (dq dkX11_fell_1 23 rfl) ?_
  refine v_iload_n F (dq dkX11_fell_1 24 rfl) rfl 2 rfl ?_
  obtain ⟨g7, h⟩ := gd_of h
  refine v_iald F 66 (xnM (by decide)) xc_66 (ib_in g7) (dq dkX11_fell_1 25 rfl) ?_
  refine v_bipush F (v := 10) (dq dkX11_fell_1 26 rfl) kb_10 ?_
  refine v_idiv F (dq dkX11_fell_1 27 rfl) (by decide) ?_
  refine v_iadd F (dq dkX11_fell_1 28 rfl) ?_
  refine v_iload_n F (dq dkX11_fell_1 29 rfl) rfl 3 rfl ?_
  refine v_iload F (dq dkX11_fell_1 30 rfl) 7 rfl ?_
  refine v_ishr F (dq dkX11_fell_1 31 rfl) ?_
  refine v_iconst F (v := 1) (dq dkX11_fell_1 32 rfl) ki_1 ?_
  refine v_iand F (dq dkX11_fell_1 33 rfl) ?_
  refine v_iconst F (v := 1) (dq dkX11_fell_1 34 rfl) ki_1 ?_
  refine v_icmp_ne F (tgt := 136) (dq dkX11_fell_1 35 rfl) (by decide) (fun c8 => ?_) (fun c8 => ?_)
  · rw [if_neg c8] at h
    refine v_iconst F (v := 0) (dq dkX11_fell_1 38 rfl) ki_0 ?_
    refine v_sub [1, 2, 3, 4, 5, 6, 7] rfl ?_
    exact t_X11_fell_137 k43 y a1 a2 a3 a4 a5 a6 0 ((((f_X11_size (gi y 67 a1.toNatClampNeg)) * s0) + (3 * (gi y 68 a1.toNatClampNeg))) + ((gi y 66 a1.toNatClampNeg) / 10)) hk43 h F E
  · rw [if_pos c8] at h
    refine v_bipush F (v := 12) (dq dkX11_fell_1 36 rfl) kb_12 ?_
    refine v_goto F (tgt := 137) (dq dkX11_fell_1 37 rfl) (by decide) ?_
    refine v_sub [1, 2, 3, 4, 5, 6, 7] rfl ?_
    exact t_X11_fell_137 k43 y a1 a2 a3 a4 a5 a6 12 ((((f_X11_size (gi y 67 a1.toNatClampNeg)) * s0) + (3 * (gi y 68 a1.toNatClampNeg))) + ((gi y 66 a1.toNatClampNeg) / 10)) hk43 h F E
def f_X11_fell_66 (k43 : Int32 → Int32 → Int32 → Int32 → Int32 → Int32 → Option (Int32)) (y : MS) (a1 : Int32) (a2 : Int32) (a3 : Int32) (a4 : Int32) (a5 : Int32) (a6 : Int32) (s0 : Int32) (s1 : Int32) : Option (Int32) := if (f_X11_size (s1 - s0)) ≤ 4 then (f_X11_fell_88 k43 y a1 a2 a3 a4 a5 a6 (f_X11_size (s1 - s0))) else (f_X11_fell_88 k43 y a1 a2 a3 a4 a5 a6 (8 - (f_X11_size (s1 - s0))))
set_option maxRecDepth 100000 in
set_option maxHeartbeats 4000000 in
theorem t_X11_fell_66 {C : Cx} {K : KE} {nn : Nat} {x : CS} {R : Int32}  (k43 : Int32 → Int32 → Int32 → Int32 → Int32 → Int32 → Option (Int32)) (y : MS) (a1 : Int32) (a2 : Int32) (a3 : Int32) (a4 : Int32) (a5 : Int32) (a6 : Int32) (s0 : Int32) (s1 : Int32) (hk43 : ∀ (a1 : Int32) (a2 : Int32) (a3 : Int32) (a4 : Int32) (a5 : Int32) (a6 : Int32), k43 a1 a2 a3 a4 a5 a6 = some R → V C 43 [(0, .ref (K.1 + 61)), (1, .int a1), (2, .int a2), (3, .int a3), (4, .int a4), (5, .int a5), (6, .int a6)] [] (xfM K nn x y) 0 0) (h : f_X11_fell_66 k43 y a1 a2 a3 a4 a5 a6 s0 s1 = some R) (F : Fx C RX11 cX11_fell 9 rm_X11_fell K) (E : CE C (xfM K nn x y) (some (.int R)) 0 0 (some .int)) : V C 66 [(0, .ref (K.1 + 61)), (1, .int a1), (2, .int a2), (3, .int a3), (4, .int a4), (5, .int a5), (6, .int a6)] [.int s0, .int s1] (xfM K nn x y) 0 0 := by
  unfold f_X11_fell_66 at h
  refine v_isub F (dq dkX11_fell_0 36 rfl) ?_
  refine v_callS 1 F (kc1 := 0) (ks1 := 0) (as := [.int (s1 - s0)]) (st := []) (st1 := (.int (f_X11_size (s1 - s0)) :: [])) (res := (some (.int (f_X11_size (s1 - s0))))) (c_X11_size (l := C.2.1) (s1 - s0)) (tc29 _ (List.mem_of_getElem? (i := 9) rfl)) (tc29 _ (List.mem_of_getElem? (i := 10) rfl)) (tc1 _ (List.mem_of_getElem? (i := 5) rfl)) (tc29 _ (List.mem_of_getElem? (i := 11) rfl)) (by decide) rfl ⟨rfl, rfl, Nat.le_of_ble_eq_true rfl, Nat.le_of_ble_eq_true rfl⟩ ⟨Nat.le_of_ble_eq_true rfl, Nat.le_of_ble_eq_true rfl⟩ rfl (Nat.le_of_ble_eq_true rfl) rfl rfl rfl (dq dkX11_fell_0 37 rfl) ?_
  refine v_istore F (ls' := [(7, .int (f_X11_size (s1 - s0))), (0, .ref (K.1 + 61)), (1, .int a1), (2, .int a2), (3, .int a3), (4, .int a4), (5, .int a5), (6, .int a6)]) (dq dkX11_fell_0 38 rfl) (by decide) rfl ?_
  refine v_iload F (dq dkX11_fell_0 39 rfl) 0 rfl ?_
  refine v_iconst F (v := 4) (dq dkX11_fell_1 0 rfl) ki_4 ?_
  refine v_icmp_le F (tgt := 86) (dq dkX11_fell_1 1 rfl) (by decide) (fun c10 => ?_) (fun c10 => ?_)
  · rw [if_pos c10] at h
    refine v_iload F (dq dkX11_fell_1 6 rfl) 0 rfl ?_
    refine v_sub [1, 2, 3, 4, 5, 6, 7] rfl ?_
    exact t_X11_fell_88 k43 y a1 a2 a3 a4 a5 a6 (f_X11_size (s1 - s0)) hk43 h F E
  · rw [if_neg c10] at h
    refine v_bipush F (v := 8) (dq dkX11_fell_1 2 rfl) kb_8 ?_
    refine v_iload F (dq dkX11_fell_1 3 rfl) 0 rfl ?_
    refine v_isub F (dq dkX11_fell_1 4 rfl) ?_
    refine v_goto F (tgt := 88) (dq dkX11_fell_1 5 rfl) (by decide) ?_
    refine v_sub [1, 2, 3, 4, 5, 6, 7] rfl ?_
    exact t_X11_fell_88 k43 y a1 a2 a3 a4 a5 a6 (8 - (f_X11_size (s1 - s0))) hk43 h F E
def f_X11_fell_43 (y : MS) : Nat → Int32 → Int32 → Int32 → Int32 → Int32 → Int32 → Option (Int32)
  | 0, _, _, _, _, _, _ => none
  | n + 1, a1, a2, a3, a4, a5, a6 => if 8 ≤ a6 then (if a3 = 0 then (some a4) else (some a5)) else (gd (ib a1 6) (if 0 ≤ (gi y 67 a1.toNatClampNeg) then (f_X11_fell_66 (f_X11_fell_43 y n) y a1 a2 a3 a4 a5 a6 0 a6) else (f_X11_fell_66 (f_X11_fell_43 y n) y a1 a2 a3 a4 a5 a6 4 a6)))
set_option maxRecDepth 100000 in
set_option maxHeartbeats 4000000 in
theorem t_X11_fell_43 {C : Cx} {K : KE} {nn : Nat} {x : CS} {R : Int32}  (y : MS) (F : Fx C RX11 cX11_fell 9 rm_X11_fell K) (E : CE C (xfM K nn x y) (some (.int R)) 0 0 (some .int)) : ∀ (n : Nat) (a1 : Int32) (a2 : Int32) (a3 : Int32) (a4 : Int32) (a5 : Int32) (a6 : Int32) (h : f_X11_fell_43 y n a1 a2 a3 a4 a5 a6 = some R), V C 43 [(0, .ref (K.1 + 61)), (1, .int a1), (2, .int a2), (3, .int a3), (4, .int a4), (5, .int a5), (6, .int a6)] [] (xfM K nn x y) 0 0 := by
  intro n
  induction n with
  | zero => intro a1 a2 a3 a4 a5 a6 h; cases h
  | succ n ih =>
    intro a1 a2 a3 a4 a5 a6 h
    rw [f_X11_fell_43] at h
    refine v_iload F (dq dkX11_fell_0 24 rfl) 6 rfl ?_
    refine v_bipush F (v := 8) (dq dkX11_fell_0 25 rfl) kb_8 ?_
    refine v_icmp_ge F (tgt := 180) (dq dkX11_fell_0 26 rfl) (by decide) (fun c11 => ?_) (fun c11 => ?_)
    · rw [if_pos c11] at h
      refine v_iload_n F (dq dkX11_fell_2 19 rfl) rfl 3 rfl ?_
      refine v_if_ne F (tgt := 189) (dq dkX11_fell_2 20 rfl) (by decide) (fun c12 => ?_) (fun c12 => ?_)
      · rw [if_neg c12] at h
        refine v_iload F (dq dkX11_fell_2 23 rfl) 5 rfl ?_
        have h := Option.some.inj h
        subst h
        exact v_iret F E (dq dkX11_fell_2 24 rfl)
      · rw [if_pos c12] at h
        refine v_iload F (dq dkX11_fell_2 21 rfl) 4 rfl ?_
        refine v_goto F (tgt := 191) (dq dkX11_fell_2 22 rfl) (by decide) ?_
        have h := Option.some.inj h
        subst h
        exact v_iret F E (dq dkX11_fell_2 24 rfl)
    · rw [if_neg c11] at h
      refine v_iload F (dq dkX11_fell_0 27 rfl) 6 rfl ?_
      refine v_aload_n F (dq dkX11_fell_0 28 rfl) rfl 0 rfl ?_
      refine v_get F 61 (xnM (by decide)) xc_61 rfl inlX11 12 (by decide) (tc12 _ (List.mem_of_getElem? (i := 1) rfl)) rfl rfl (dq dkX11_fell_0 29 rfl) ?_
      refine v_iload_n F (dq dkX11_fell_0 30 rfl) rfl 1 rfl ?_
      obtain ⟨g13, h⟩ := gd_of h
      refine v_iald F 67 (xnM (by decide)) xc_67 (ib_in g13) (dq dkX11_fell_0 31 rfl) ?_
      refine v_if_ge F (tgt := 65) (dq dkX11_fell_0 32 rfl) (by decide) (fun c14 => ?_) (fun c14 => ?_)
      · rw [if_pos c14] at h
        refine v_iconst F (v := 0) (dq dkX11_fell_0 35 rfl) ki_0 ?_
        exact t_X11_fell_66 (f_X11_fell_43 y n) y a1 a2 a3 a4 a5 a6 0 a6 ih h F E
      · rw [if_neg c14] at h
        refine v_iconst F (v := 4) (dq dkX11_fell_0 33 rfl) ki_4 ?_
        refine v_goto F (tgt := 66) (dq dkX11_fell_0 34 rfl) (by decide) ?_
        exact t_X11_fell_66 (f_X11_fell_43 y n) y a1 a2 a3 a4 a5 a6 4 a6 ih h F E
def f_X11_fell (y : MS) (a1 : Int32) (a2 : Int32) (a3 : Int32) : Option (Int32) := if (b2i (f_X11_isTree y a1)) = 0 then (some (-5)) else (if (b2i (f_X11_in a2 0 255)) = 0 then (f_X11_fell_31 y) else (if (b2i (f_X11_in a3 0 1)) = 0 then (f_X11_fell_31 y) else (f_X11_fell_43 y 1000 a1 a2 a3 (-1) 0 0)))
set_option maxRecDepth 100000 in
set_option maxHeartbeats 4000000 in
theorem c_X11_fell {K : KE} {l : Launch} {R : Int32} {nn : Nat} (x : CS) (y : MS) (a1 : Int32) (a2 : Int32) (a3 : Int32) (h : f_X11_fell y a1 a2 a3 = some R) : MC K l yX11_fell cX11_fell 9 (some .int) rm_X11_fell 0 0 [.ref (K.1 + 61), .int a1, .int a2, .int a3] (xfM K nn x y) (xfM K nn x y) (some (.int R)) := by
  unfold f_X11_fell at h
  refine mc_of (ls0 := [(0, .ref (K.1 + 61)), (1, .int a1), (2, .int a2), (3, .int a3)]) (by decide) (Nat.le_of_ble_eq_true rfl) rfl (fun C hl hnm F E => ?_)
  have F : Fx C RX11 cX11_fell 9 rm_X11_fell K := F
  refine v_aload_n F (dq dkX11_fell_0 0 rfl) rfl 0 rfl ?_
  refine v_iload_n F (dq dkX11_fell_0 1 rfl) rfl 1 rfl ?_
  refine v_callV 1 F (q := 61) (kc1 := 0) (ks1 := 0) (as := [.int a1]) (st := []) (st1 := (.int (b2i (f_X11_isTree y a1)) :: [])) (res := (some (.int (b2i (f_X11_isTree y a1))))) (c_X11_isTree (l := C.2.1) x y a1) (xnM (by decide)) xc_61 rfl (tc43 _ (List.mem_of_getElem? (i := 21) rfl)) (tc43 _ (List.mem_of_getElem? (i := 22) rfl)) (tc43 _ (List.mem_of_getElem? (i := 23) rfl)) (tc1 _ (List.mem_of_getElem? (i := 5) rfl)) (tc44 _ (List.mem_of_getElem? (i := 0) rfl)) (by decide) rfl ⟨rfl, rfl, Nat.le_of_ble_eq_true rfl, Nat.le_of_ble_eq_true rfl⟩ ⟨Nat.le_of_ble_eq_true rfl, Nat.le_of_ble_eq_true rfl⟩ rfl (Nat.le_of_ble_eq_true rfl) rfl rfl rfl (dq dkX11_fell_0 2 rfl) ?_
  refine v_if_ne F (tgt := 11) (dq dkX11_fell_0 3 rfl) (by decide) (fun c16 => ?_) (fun c16 => ?_)
  · rw [if_neg c16] at h
    refine v_iload_n F (dq dkX11_fell_0 6 rfl) rfl 2 rfl ?_
    refine v_iconst F (v := 0) (dq dkX11_fell_0 7 rfl) ki_0 ?_
    refine v_sipush F (v := 255) (dq dkX11_fell_0 8 rfl) ks_255 ?_
    refine v_callS 3 F (kc1 := 0) (ks1 := 0) (as := [.int a2, .int 0, .int 255]) (st := []) (st1 := (.int (b2i (f_X11_in a2 0 255)) :: [])) (res := (some (.int (b2i (f_X11_in a2 0 255))))) (c_X11_in (l := C.2.1) a2 0 255) (tc15 _ (List.mem_of_getElem? (i := 1) rfl)) (tc15 _ (List.mem_of_getElem? (i := 2) rfl)) (tc1 _ (List.mem_of_getElem? (i := 5) rfl)) (tc15 _ (List.mem_of_getElem? (i := 3) rfl)) (by decide) rfl ⟨rfl, rfl, Nat.le_of_ble_eq_true rfl, Nat.le_of_ble_eq_true rfl⟩ ⟨Nat.le_of_ble_eq_true rfl, Nat.le_of_ble_eq_true rfl⟩ rfl (Nat.le_of_ble_eq_true rfl) rfl rfl rfl (dq dkX11_fell_0 9 rfl) ?_
    refine v_if_eq F (tgt := 31) (dq dkX11_fell_0 10 rfl) (by decide) (fun c18 => ?_) (fun c18 => ?_)
    · rw [if_pos c18] at h
      refine v_sub [] rfl ?_
      exact t_X11_fell_31 y h F E
    · rw [if_neg c18] at h
      refine v_iload_n F (dq dkX11_fell_0 11 rfl) rfl 3 rfl ?_
      refine v_iconst F (v := 0) (dq dkX11_fell_0 12 rfl) ki_0 ?_
      refine v_iconst F (v := 1) (dq dkX11_fell_0 13 rfl) ki_1 ?_
      refine v_callS 3 F (kc1 := 0) (ks1 := 0) (as := [.int a3, .int 0, .int 1]) (st := []) (st1 := (.int (b2i (f_X11_in a3 0 1)) :: [])) (res := (some (.int (b2i (f_X11_in a3 0 1))))) (c_X11_in (l := C.2.1) a3 0 1) (tc15 _ (List.mem_of_getElem? (i := 1) rfl)) (tc15 _ (List.mem_of_getElem? (i := 2) rfl)) (tc1 _ (List.mem_of_getElem? (i := 5) rfl)) (tc15 _ (List.mem_of_getElem? (i := 3) rfl)) (by decide) rfl ⟨rfl, rfl, Nat.le_of_ble_eq_true rfl, Nat.le_of_ble_eq_true rfl⟩ ⟨Nat.le_of_ble_eq_true rfl, Nat.le_of_ble_eq_true rfl⟩ rfl (Nat.le_of_ble_eq_true rfl) rfl rfl rfl (dq dkX11_fell_0 14 rfl) ?_
      refine v_if_ne F (tgt := 34) (dq dkX11_fell_0 15 rfl) (by decide) (fun c20 => ?_) (fun c20 => ?_)
      · rw [if_neg c20] at h
        refine v_iconst F (v := (-1)) (dq dkX11_fell_0 18 rfl) ki_m1 ?_
        refine v_istore F (ls' := [(4, .int (-1)), (0, .ref (K.1 + 61)), (1, .int a1), (2, .int a2), (3, .int a3)]) (dq dkX11_fell_0 19 rfl) (by decide) rfl ?_
        refine v_iconst F (v := 0) (dq dkX11_fell_0 20 rfl) ki_0 ?_
        refine v_istore F (ls' := [(5, .int 0), (4, .int (-1)), (0, .ref (K.1 + 61)), (1, .int a1), (2, .int a2), (3, .int a3)]) (dq dkX11_fell_0 21 rfl) (by decide) rfl ?_
        refine v_iconst F (v := 0) (dq dkX11_fell_0 22 rfl) ki_0 ?_
        refine v_istore F (ls' := [(6, .int 0), (5, .int 0), (4, .int (-1)), (0, .ref (K.1 + 61)), (1, .int a1), (2, .int a2), (3, .int a3)]) (dq dkX11_fell_0 23 rfl) (by decide) rfl ?_
        refine v_sub [3, 4, 5, 6, 2, 1, 0] rfl ?_
        exact t_X11_fell_43 y F E 1000 a1 a2 a3 (-1) 0 0 h
      · rw [if_pos c20] at h
        refine v_sub [] rfl ?_
        exact t_X11_fell_31 y h F E
  · rw [if_pos c16] at h
    refine v_bipush F (v := (-5)) (dq dkX11_fell_0 4 rfl) kb_m5 ?_
    have h := Option.some.inj h
    subst h
    exact v_iret F E (dq dkX11_fell_0 5 rfl)
def rm_X11_forest : Room := { frames := 2, cells := 0, slots := 0, locals := 52 }
def f_X11_forest_31 (y : MS) : Option (Int32 × MS) := some ((-2), y)
set_option maxRecDepth 100000 in
set_option maxHeartbeats 4000000 in
theorem t_X11_forest_31 {C : Cx} {K : KE} {nn : Nat} {x : CS} {R : Int32 × MS}  (y : MS) (h : f_X11_forest_31 y = some R) (F : Fx C RX11 cX11_forest 8 rm_X11_forest K) (E : CE C (xfM K nn x R.2) (some (.int R.1)) 0 0 (some .int)) : V C 31 [] [] (xfM K nn x y) 0 0 := by
  unfold f_X11_forest_31 at h
  refine v_bipush F (v := (-2)) (dq dkX11_forest_0 15 rfl) kb_m2 ?_
  have h := Option.some.inj h
  subst h
  exact v_iret F E (dq dkX11_forest_0 16 rfl)
def f_X11_forest_235 (y : MS) (a4 : Int32) : Option (Int32 × MS) := some (a4, y)
set_option maxRecDepth 100000 in
set_option maxHeartbeats 4000000 in
theorem t_X11_forest_235 {C : Cx} {K : KE} {nn : Nat} {x : CS} {R : Int32 × MS}  (y : MS) (a4 : Int32) (h : f_X11_forest_235 y a4 = some R) (F : Fx C RX11 cX11_forest 8 rm_X11_forest K) (E : CE C (xfM K nn x R.2) (some (.int R.1)) 0 0 (some .int)) : V C 235 [(4, .int a4)] [] (xfM K nn x y) 0 0 := by
  unfold f_X11_forest_235 at h
  refine v_iload F (dq dkX11_forest_3 6 rfl) 0 rfl ?_
  have h := Option.some.inj h
  subst h
  exact v_iret F E (dq dkX11_forest_3 7 rfl)
def f_X11_forest_201 (k112 : MS → Int32 → Int32 → Int32 → Int32 → Int32 → Option (Int32 × MS)) : Nat → MS → Int32 → Int32 → Int32 → Int32 → Int32 → Int32 → Option (Int32 × MS)
  | 0, _, _, _, _, _, _, _ => none
  | n + 1, y, a1, a2, a3, a4, a5, a7 => gd (ib a1 4) (if (gi y 78 a1.toNatClampNeg) ≤ a7 then (k112 y a1 a2 a3 a4 (a5 + 1)) else (gd (ib a7 40) (gd (ib a7 40) ((f_X11_forest_201 k112 n) (pi y 87 a7.toNatClampNeg ((gi y 87 a7.toNatClampNeg) + 1)) a1 a2 a3 a4 a5 (a7 + 1)))))
set_option maxRecDepth 100000 in
set_option maxHeartbeats 4000000 in
theorem t_X11_forest_201 {C : Cx} {K : KE} {nn : Nat} {x : CS} {R : Int32 × MS}  (k112 : MS → Int32 → Int32 → Int32 → Int32 → Int32 → Option (Int32 × MS)) (hk112 : ∀ (y : MS) (a1 : Int32) (a2 : Int32) (a3 : Int32) (a4 : Int32) (a5 : Int32), k112 y a1 a2 a3 a4 a5 = some R → V C 112 [(0, .ref (K.1 + 61)), (1, .int a1), (2, .int a2), (3, .int a3), (4, .int a4), (5, .int a5)] [] (xfM K nn x y) 0 0) (F : Fx C RX11 cX11_forest 8 rm_X11_forest K) (E : CE C (xfM K nn x R.2) (some (.int R.1)) 0 0 (some .int)) : ∀ (n : Nat) (y : MS) (a1 : Int32) (a2 : Int32) (a3 : Int32) (a4 : Int32) (a5 : Int32) (a7 : Int32) (h : f_X11_forest_201 k112 n y a1 a2 a3 a4 a5 a7 = some R), V C 201 [(0, .ref (K.1 + 61)), (1, .int a1), (2, .int a2), (3, .int a3), (4, .int a4), (5, .int a5), (7, .int a7)] [] (xfM K nn x y) 0 0 := by
  intro n
  induction n with
  | zero => intro y a1 a2 a3 a4 a5 a7 h; cases h
  | succ n ih =>
    intro y a1 a2 a3 a4 a5 a7 h
    rw [f_X11_forest_201] at h
    refine v_iload F (dq dkX11_forest_2 28 rfl) 6 rfl ?_
    refine v_aload_n F (dq dkX11_forest_2 29 rfl) rfl 0 rfl ?_
    refine v_get F 61 (xnM (by decide)) xc_61 rfl inlX11 29 (by decide) (tc12 _ (List.mem_of_getElem? (i := 13) rfl)) rfl rfl (dq dkX11_forest_2 30 rfl) ?_
    refine v_iload_n F (dq dkX11_forest_2 31 rfl) rfl 1 rfl ?_
    obtain ⟨g1, h⟩ := gd_of h
    refine v_iald F 78 (xnM (by decide)) xc_78 (ib_in g1) (dq dkX11_forest_2 32 rfl) ?_
    refine v_icmp_ge F (tgt := 229) (dq dkX11_forest_2 33 rfl) (by decide) (fun c2 => ?_) (fun c2 => ?_)
    · rw [if_pos c2] at h
      refine v_iinc F (v := a5 + 1) (ls' := [(5, .int (a5 + 1)), (0, .ref (K.1 + 61)), (1, .int a1), (2, .int a2), (3, .int a3), (4, .int a4), (7, .int a7)]) (dq dkX11_forest_3 4 rfl) (j := 5) rfl (kv_add ki_1) (by decide) rfl ?_
      refine v_goto F (tgt := 112) (dq dkX11_forest_3 5 rfl) (by decide) ?_
      refine v_sub [1, 2, 3, 4, 5, 0] rfl ?_
      exact hk112 y a1 a2 a3 a4 (a5 + 1) h
    · rw [if_neg c2] at h
      refine v_aload_n F (dq dkX11_forest_2 34 rfl) rfl 0 rfl ?_
      refine v_get F 61 (xnM (by decide)) xc_61 rfl inlX11 51 (by decide) (tc13 _ (List.mem_of_getElem? (i := 11) rfl)) rfl rfl (dq dkX11_forest_2 35 rfl) ?_
      refine v_iload F (dq dkX11_forest_2 36 rfl) 6 rfl ?_
      refine v_dup2 F (dq dkX11_forest_2 37 rfl) rfl rfl ?_
      obtain ⟨g3, h⟩ := gd_of h
      refine v_iald F 87 (xnM (by decide)) xc_87 (ib_in g3) (dq dkX11_forest_2 38 rfl) ?_
      refine v_iconst F (v := 1) (dq dkX11_forest_2 39 rfl) ki_1 ?_
      refine v_iadd F (dq dkX11_forest_3 0 rfl) ?_
      obtain ⟨g4, h⟩ := gd_of h
      refine v_iast F 87 (xnM (by decide)) xc_87 (ib_in g4) (dq dkX11_forest_3 1 rfl) ?_
      refine v_eqM (xwM (q := 87) (j := a7.toNatClampNeg) (v := (gi y 87 a7.toNatClampNeg) + 1) (by decide) (by decide) rfl) ?_
      refine v_iinc F (v := a7 + 1) (ls' := [(7, .int (a7 + 1)), (0, .ref (K.1 + 61)), (1, .int a1), (2, .int a2), (3, .int a3), (4, .int a4), (5, .int a5)]) (dq dkX11_forest_3 2 rfl) (j := 6) rfl (kv_add ki_1) (by decide) rfl ?_
      refine v_goto F (tgt := 201) (dq dkX11_forest_3 3 rfl) (by decide) ?_
      refine v_sub [1, 2, 3, 4, 5, 6, 0] rfl ?_
      exact ih (pi y 87 a7.toNatClampNeg ((gi y 87 a7.toNatClampNeg) + 1)) a1 a2 a3 a4 a5 (a7 + 1) h
def f_X11_forest_198 (k112 : MS → Int32 → Int32 → Int32 → Int32 → Int32 → Option (Int32 × MS)) (y : MS) (a1 : Int32) (a2 : Int32) (a3 : Int32) (a4 : Int32) (a5 : Int32) : Option (Int32 × MS) := f_X11_forest_201 k112 1000 y a1 a2 a3 a4 a5 0
set_option maxRecDepth 100000 in
set_option maxHeartbeats 4000000 in
theorem t_X11_forest_198 {C : Cx} {K : KE} {nn : Nat} {x : CS} {R : Int32 × MS}  (k112 : MS → Int32 → Int32 → Int32 → Int32 → Int32 → Option (Int32 × MS)) (y : MS) (a1 : Int32) (a2 : Int32) (a3 : Int32) (a4 : Int32) (a5 : Int32) (hk112 : ∀ (y : MS) (a1 : Int32) (a2 : Int32) (a3 : Int32) (a4 : Int32) (a5 : Int32), k112 y a1 a2 a3 a4 a5 = some R → V C 112 [(0, .ref (K.1 + 61)), (1, .int a1), (2, .int a2), (3, .int a3), (4, .int a4), (5, .int a5)] [] (xfM K nn x y) 0 0) (h : f_X11_forest_198 k112 y a1 a2 a3 a4 a5 = some R) (F : Fx C RX11 cX11_forest 8 rm_X11_forest K) (E : CE C (xfM K nn x R.2) (some (.int R.1)) 0 0 (some .int)) : V C 198 [(0, .ref (K.1 + 61)), (1, .int a1), (2, .int a2), (3, .int a3), (4, .int a4), (5, .int a5)] [] (xfM K nn x y) 0 0 := by
  unfold f_X11_forest_198 at h
  refine v_iconst F (v := 0) (dq dkX11_forest_2 26 rfl) ki_0 ?_
  refine v_istore F (ls' := [(7, .int 0), (0, .ref (K.1 + 61)), (1, .int a1), (2, .int a2), (3, .int a3), (4, .int a4), (5, .int a5)]) (dq dkX11_forest_2 27 rfl) (by decide) rfl ?_
  refine v_sub [1, 2, 3, 4, 5, 6, 0] rfl ?_
  exact t_X11_forest_201 k112 hk112 F E 1000 y a1 a2 a3 a4 a5 0 h
def f_X11_forest_168 (k112 : MS → Int32 → Int32 → Int32 → Int32 → Int32 → Option (Int32 × MS)) (k133 : MS → Int32 → Int32 → Int32 → Int32 → Int32 → Int32 → Int32 → Option (Int32 × MS)) (y : MS) (a1 : Int32) (a2 : Int32) (a3 : Int32) (a4 : Int32) (a5 : Int32) (a7 : Int32) (s0 : Int32) : Option (Int32 × MS) := k133 y a1 a2 a3 a4 a5 s0 (a7 + 1)
set_option maxRecDepth 100000 in
set_option maxHeartbeats 4000000 in
theorem t_X11_forest_168 {C : Cx} {K : KE} {nn : Nat} {x : CS} {R : Int32 × MS}  (k112 : MS → Int32 → Int32 → Int32 → Int32 → Int32 → Option (Int32 × MS)) (k133 : MS → Int32 → Int32 → Int32 → Int32 → Int32 → Int32 → Int32 → Option (Int32 × MS)) (y : MS) (a1 : Int32) (a2 : Int32) (a3 : Int32) (a4 : Int32) (a5 : Int32) (a7 : Int32) (s0 : Int32) (hk112 : ∀ (y : MS) (a1 : Int32) (a2 : Int32) (a3 : Int32) (a4 : Int32) (a5 : Int32), k112 y a1 a2 a3 a4 a5 = some R → V C 112 [(0, .ref (K.1 + 61)), (1, .int a1), (2, .int a2), (3, .int a3), (4, .int a4), (5, .int a5)] [] (xfM K nn x y) 0 0) (hk133 : ∀ (y : MS) (a1 : Int32) (a2 : Int32) (a3 : Int32) (a4 : Int32) (a5 : Int32) (a6 : Int32) (a7 : Int32), k133 y a1 a2 a3 a4 a5 a6 a7 = some R → V C 133 [(0, .ref (K.1 + 61)), (1, .int a1), (2, .int a2), (3, .int a3), (4, .int a4), (5, .int a5), (6, .int a6), (7, .int a7)] [] (xfM K nn x y) 0 0) (h : f_X11_forest_168 k112 k133 y a1 a2 a3 a4 a5 a7 s0 = some R) (F : Fx C RX11 cX11_forest 8 rm_X11_forest K) (E : CE C (xfM K nn x R.2) (some (.int R.1)) 0 0 (some .int)) : V C 168 [(0, .ref (K.1 + 61)), (1, .int a1), (2, .int a2), (3, .int a3), (4, .int a4), (5, .int a5), (7, .int a7)] [.int s0] (xfM K nn x y) 0 0 := by
  unfold f_X11_forest_168 at h
  refine v_istore F (ls' := [(6, .int s0), (0, .ref (K.1 + 61)), (1, .int a1), (2, .int a2), (3, .int a3), (4, .int a4), (5, .int a5), (7, .int a7)]) (dq dkX11_forest_2 11 rfl) (by decide) rfl ?_
  refine v_iinc F (v := a7 + 1) (ls' := [(7, .int (a7 + 1)), (6, .int s0), (0, .ref (K.1 + 61)), (1, .int a1), (2, .int a2), (3, .int a3), (4, .int a4), (5, .int a5)]) (dq dkX11_forest_2 12 rfl) (j := 7) rfl (kv_add ki_1) (by decide) rfl ?_
  refine v_goto F (tgt := 133) (dq dkX11_forest_2 13 rfl) (by decide) ?_
  refine v_sub [2, 3, 4, 5, 6, 7, 1, 0] rfl ?_
  exact hk133 y a1 a2 a3 a4 a5 s0 (a7 + 1) h
def f_X11_forest_133 (k112 : MS → Int32 → Int32 → Int32 → Int32 → Int32 → Option (Int32 × MS)) : Nat → MS → Int32 → Int32 → Int32 → Int32 → Int32 → Int32 → Int32 → Option (Int32 × MS)
  | 0, _, _, _, _, _, _, _, _ => none
  | n + 1, y, a1, a2, a3, a4, a5, a6, a7 => gd (ib a1 4) (if (gi y 78 a1.toNatClampNeg) ≤ a7 then (gd (ib a6 40) (if (gi y 87 a6.toNatClampNeg) < a2 then (f_X11_forest_198 k112 y a1 a2 a3 a4 a5) else (gd (ib a6 40) (f_X11_forest_198 k112 (pi y 87 a6.toNatClampNeg 0) a1 a2 a3 (a4 + 1) a5)))) else (gd (ib a7 40) (gd (ib a6 40) (if (gi y 87 a7.toNatClampNeg) ≤ (gi y 87 a6.toNatClampNeg) then (f_X11_forest_168 k112 (f_X11_forest_133 k112 n) y a1 a2 a3 a4 a5 a7 a6) else (f_X11_forest_168 k112 (f_X11_forest_133 k112 n) y a1 a2 a3 a4 a5 a7 a7)))))
set_option maxRecDepth 100000 in
set_option maxHeartbeats 4000000 in
theorem t_X11_forest_133 {C : Cx} {K : KE} {nn : Nat} {x : CS} {R : Int32 × MS}  (k112 : MS → Int32 → Int32 → Int32 → Int32 → Int32 → Option (Int32 × MS)) (hk112 : ∀ (y : MS) (a1 : Int32) (a2 : Int32) (a3 : Int32) (a4 : Int32) (a5 : Int32), k112 y a1 a2 a3 a4 a5 = some R → V C 112 [(0, .ref (K.1 + 61)), (1, .int a1), (2, .int a2), (3, .int a3), (4, .int a4), (5, .int a5)] [] (xfM K nn x y) 0 0) (F : Fx C RX11 cX11_forest 8 rm_X11_forest K) (E : CE C (xfM K nn x R.2) (some (.int R.1)) 0 0 (some .int)) : ∀ (n : Nat) (y : MS) (a1 : Int32) (a2 : Int32) (a3 : Int32) (a4 : Int32) (a5 : Int32) (a6 : Int32) (a7 : Int32) (h : f_X11_forest_133 k112 n y a1 a2 a3 a4 a5 a6 a7 = some R), V C 133 [(0, .ref (K.1 + 61)), (1, .int a1), (2, .int a2), (3, .int a3), (4, .int a4), (5, .int a5), (6, .int a6), (7, .int a7)] [] (xfM K nn x y) 0 0 := by
  intro n
  induction n with
  | zero => intro y a1 a2 a3 a4 a5 a6 a7 h; cases h
  | succ n ih =>
    intro y a1 a2 a3 a4 a5 a6 a7 h
    rw [f_X11_forest_133] at h
    refine v_iload F (dq dkX11_forest_1 33 rfl) 7 rfl ?_
    refine v_aload_n F (dq dkX11_forest_1 34 rfl) rfl 0 rfl ?_
    refine v_get F 61 (xnM (by decide)) xc_61 rfl inlX11 29 (by decide) (tc12 _ (List.mem_of_getElem? (i := 13) rfl)) rfl rfl (dq dkX11_forest_1 35 rfl) ?_
    refine v_iload_n F (dq dkX11_forest_1 36 rfl) rfl 1 rfl ?_
    obtain ⟨g5, h⟩ := gd_of h
    refine v_iald F 78 (xnM (by decide)) xc_78 (ib_in g5) (dq dkX11_forest_1 37 rfl) ?_
    refine v_icmp_ge F (tgt := 176) (dq dkX11_forest_1 38 rfl) (by decide) (fun c6 => ?_) (fun c6 => ?_)
    · rw [if_pos c6] at h
      refine v_aload_n F (dq dkX11_forest_2 14 rfl) rfl 0 rfl ?_
      refine v_get F 61 (xnM (by decide)) xc_61 rfl inlX11 51 (by decide) (tc13 _ (List.mem_of_getElem? (i := 11) rfl)) rfl rfl (dq dkX11_forest_2 15 rfl) ?_
      refine v_iload F (dq dkX11_forest_2 16 rfl) 6 rfl ?_
      obtain ⟨g7, h⟩ := gd_of h
      refine v_iald F 87 (xnM (by decide)) xc_87 (ib_in g7) (dq dkX11_forest_2 17 rfl) ?_
      refine v_iload_n F (dq dkX11_forest_2 18 rfl) rfl 2 rfl ?_
      refine v_icmp_lt F (tgt := 198) (dq dkX11_forest_2 19 rfl) (by decide) (fun c8 => ?_) (fun c8 => ?_)
      · rw [if_pos c8] at h
        refine v_sub [0, 1, 2, 3, 4, 5] rfl ?_
        exact t_X11_forest_198 k112 y a1 a2 a3 a4 a5 hk112 h F E
      · rw [if_neg c8] at h
        refine v_aload_n F (dq dkX11_forest_2 20 rfl) rfl 0 rfl ?_
        refine v_get F 61 (xnM (by decide)) xc_61 rfl inlX11 51 (by decide) (tc13 _ (List.mem_of_getElem? (i := 11) rfl)) rfl rfl (dq dkX11_forest_2 21 rfl) ?_
        refine v_iload F (dq dkX11_forest_2 22 rfl) 6 rfl ?_
        refine v_iconst F (v := 0) (dq dkX11_forest_2 23 rfl) ki_0 ?_
        obtain ⟨g9, h⟩ := gd_of h
        refine v_iast F 87 (xnM (by decide)) xc_87 (ib_in g9) (dq dkX11_forest_2 24 rfl) ?_
        refine v_eqM (xwM (q := 87) (j := a6.toNatClampNeg) (v := 0) (by decide) (by decide) rfl) ?_
        refine v_iinc F (v := a4 + 1) (ls' := [(4, .int (a4 + 1)), (0, .ref (K.1 + 61)), (1, .int a1), (2, .int a2), (3, .int a3), (5, .int a5), (6, .int a6), (7, .int a7)]) (dq dkX11_forest_2 25 rfl) (j := 4) rfl (kv_add ki_1) (by decide) rfl ?_
        refine v_sub [1, 2, 3, 4, 0, 5] rfl ?_
        exact t_X11_forest_198 k112 (pi y 87 a6.toNatClampNeg 0) a1 a2 a3 (a4 + 1) a5 hk112 h F E
    · rw [if_neg c6] at h
      refine v_aload_n F (dq dkX11_forest_1 39 rfl) rfl 0 rfl ?_
      refine v_get F 61 (xnM (by decide)) xc_61 rfl inlX11 51 (by decide) (tc13 _ (List.mem_of_getElem? (i := 11) rfl)) rfl rfl (dq dkX11_forest_2 0 rfl) ?_
      refine v_iload F (dq dkX11_forest_2 1 rfl) 7 rfl ?_
      obtain ⟨g10, h⟩ := gd_of h
      refine v_iald F 87 (xnM (by decide)) xc_87 (ib_in g10) (dq dkX11_forest_2 2 rfl) ?_
      refine v_aload_n F (dq dkX11_forest_2 3 rfl) rfl 0 rfl ?_
      refine v_get F 61 (xnM (by decide)) xc_61 rfl inlX11 51 (by decide) (tc13 _ (List.mem_of_getElem? (i := 11) rfl)) rfl rfl (dq dkX11_forest_2 4 rfl) ?_
      refine v_iload F (dq dkX11_forest_2 5 rfl) 6 rfl ?_
      obtain ⟨g11, h⟩ := gd_of h
      refine v_iald F 87 (xnM (by decide)) xc_87 (ib_in g11) (dq dkX11_forest_2 6 rfl) ?_
      refine v_icmp_le F (tgt := 166) (dq dkX11_forest_2 7 rfl) (by decide) (fun c12 => ?_) (fun c12 => ?_)
      · rw [if_pos c12] at h
        refine v_iload F (dq dkX11_forest_2 10 rfl) 6 rfl ?_
        refine v_sub [0, 1, 2, 3, 4, 5, 7] rfl ?_
        exact t_X11_forest_168 k112 (f_X11_forest_133 k112 n) y a1 a2 a3 a4 a5 a7 a6 hk112 ih h F E
      · rw [if_neg c12] at h
        refine v_iload F (dq dkX11_forest_2 8 rfl) 7 rfl ?_
        refine v_goto F (tgt := 168) (dq dkX11_forest_2 9 rfl) (by decide) ?_
        refine v_sub [0, 1, 2, 3, 4, 5, 7] rfl ?_
        exact t_X11_forest_168 k112 (f_X11_forest_133 k112 n) y a1 a2 a3 a4 a5 a7 a7 hk112 ih h F E
def f_X11_forest_112 : Nat → MS → Int32 → Int32 → Int32 → Int32 → Int32 → Option (Int32 × MS)
  | 0, _, _, _, _, _, _ => none
  | n + 1, y, a1, a2, a3, a4, a5 => if a3 ≤ a5 then (f_X11_forest_235 y a4) else (gd (ib a1 4) (if (gi y 78 a1.toNatClampNeg) ≤ 0 then (f_X11_forest_235 y a4) else (f_X11_forest_133 (f_X11_forest_112 n) 1000 y a1 a2 a3 a4 a5 0 1)))
set_option maxRecDepth 100000 in
set_option maxHeartbeats 4000000 in
theorem t_X11_forest_112 {C : Cx} {K : KE} {nn : Nat} {x : CS} {R : Int32 × MS}  (F : Fx C RX11 cX11_forest 8 rm_X11_forest K) (E : CE C (xfM K nn x R.2) (some (.int R.1)) 0 0 (some .int)) : ∀ (n : Nat) (y : MS) (a1 : Int32) (a2 : Int32) (a3 : Int32) (a4 : Int32) (a5 : Int32) (h : f_X11_forest_112 n y a1 a2 a3 a4 a5 = some R), V C 112 [(0, .ref (K.1 + 61)), (1, .int a1), (2, .int a2), (3, .int a3), (4, .int a4), (5, .int a5)] [] (xfM K nn x y) 0 0 := by
  intro n
  induction n with
  | zero => intro y a1 a2 a3 a4 a5 h; cases h
  | succ n ih =>
    intro y a1 a2 a3 a4 a5 h
    rw [f_X11_forest_112] at h
    refine v_iload F (dq dkX11_forest_1 21 rfl) 5 rfl ?_
    refine v_iload_n F (dq dkX11_forest_1 22 rfl) rfl 3 rfl ?_
    refine v_icmp_ge F (tgt := 235) (dq dkX11_forest_1 23 rfl) (by decide) (fun c13 => ?_) (fun c13 => ?_)
    · rw [if_pos c13] at h
      refine v_sub [4] rfl ?_
      exact t_X11_forest_235 y a4 h F E
    · rw [if_neg c13] at h
      refine v_aload_n F (dq dkX11_forest_1 24 rfl) rfl 0 rfl ?_
      refine v_get F 61 (xnM (by decide)) xc_61 rfl inlX11 29 (by decide) (tc12 _ (List.mem_of_getElem? (i := 13) rfl)) rfl rfl (dq dkX11_forest_1 25 rfl) ?_
      refine v_iload_n F (dq dkX11_forest_1 26 rfl) rfl 1 rfl ?_
      obtain ⟨g14, h⟩ := gd_of h
      refine v_iald F 78 (xnM (by decide)) xc_78 (ib_in g14) (dq dkX11_forest_1 27 rfl) ?_
      refine v_if_le F (tgt := 235) (dq dkX11_forest_1 28 rfl) (by decide) (fun c15 => ?_) (fun c15 => ?_)
      · rw [if_pos c15] at h
        refine v_sub [4] rfl ?_
        exact t_X11_forest_235 y a4 h F E
      · rw [if_neg c15] at h
        refine v_iconst F (v := 0) (dq dkX11_forest_1 29 rfl) ki_0 ?_
        refine v_istore F (ls' := [(6, .int 0), (0, .ref (K.1 + 61)), (1, .int a1), (2, .int a2), (3, .int a3), (4, .int a4), (5, .int a5)]) (dq dkX11_forest_1 30 rfl) (by decide) rfl ?_
        refine v_iconst F (v := 1) (dq dkX11_forest_1 31 rfl) ki_1 ?_
        refine v_istore F (ls' := [(7, .int 1), (6, .int 0), (0, .ref (K.1 + 61)), (1, .int a1), (2, .int a2), (3, .int a3), (4, .int a4), (5, .int a5)]) (dq dkX11_forest_1 32 rfl) (by decide) rfl ?_
        refine v_sub [2, 3, 4, 5, 6, 7, 1, 0] rfl ?_
        exact t_X11_forest_133 (f_X11_forest_112 n) ih F E 1000 y a1 a2 a3 a4 a5 0 1 h
def f_X11_forest_50 : Nat → MS → Int32 → Int32 → Int32 → Int32 → Option (Int32 × MS)
  | 0, _, _, _, _, _ => none
  | n + 1, y, a1, a2, a3, a4 => gd (ib a1 4) (if (gi y 78 a1.toNatClampNeg) ≤ a4 then (f_X11_forest_112 1000 y a1 a2 a3 0 0) else (gd (ib ((40 * a1) + a4) 160) (gd (ib a4 40) (gd (ib a4 40) (if (b2i (f_X11_in (gi (pi y 87 a4.toNatClampNeg (gi y 79 ((40 * a1) + a4).toNatClampNeg)) 87 a4.toNatClampNeg) 0 999)) = 0 then (some ((-2), pi y 87 a4.toNatClampNeg (gi y 79 ((40 * a1) + a4).toNatClampNeg))) else ((f_X11_forest_50 n) (pi y 87 a4.toNatClampNeg (gi y 79 ((40 * a1) + a4).toNatClampNeg)) a1 a2 a3 (a4 + 1)))))))
set_option maxRecDepth 100000 in
set_option maxHeartbeats 4000000 in
theorem t_X11_forest_50 {C : Cx} {K : KE} {nn : Nat} {x : CS} {R : Int32 × MS}  (F : Fx C RX11 cX11_forest 8 rm_X11_forest K) (E : CE C (xfM K nn x R.2) (some (.int R.1)) 0 0 (some .int)) : ∀ (n : Nat) (y : MS) (a1 : Int32) (a2 : Int32) (a3 : Int32) (a4 : Int32) (h : f_X11_forest_50 n y a1 a2 a3 a4 = some R), V C 50 [(0, .ref (K.1 + 61)), (1, .int a1), (2, .int a2), (3, .int a3), (4, .int a4)] [] (xfM K nn x y) 0 0 := by
  intro n
  induction n with
  | zero => intro y a1 a2 a3 a4 h; cases h
  | succ n ih =>
    intro y a1 a2 a3 a4 h
    rw [f_X11_forest_50] at h
    refine v_iload F (dq dkX11_forest_0 27 rfl) 4 rfl ?_
    refine v_aload_n F (dq dkX11_forest_0 28 rfl) rfl 0 rfl ?_
    refine v_get F 61 (xnM (by decide)) xc_61 rfl inlX11 29 (by decide) (tc12 _ (List.mem_of_getElem? (i := 13) rfl)) rfl rfl (dq dkX11_forest_0 29 rfl) ?_
    refine v_iload_n F (dq dkX11_forest_0 30 rfl) rfl 1 rfl ?_
    obtain ⟨g16, h⟩ := gd_of h
    refine v_iald F 78 (xnM (by decide)) xc_78 (ib_in g16) (dq dkX11_forest_0 31 rfl) ?_
    refine v_icmp_ge F (tgt := 106) (dq dkX11_forest_0 32 rfl) (by decide) (fun c17 => ?_) (fun c17 => ?_)
    · rw [if_pos c17] at h
      refine v_iconst F (v := 0) (dq dkX11_forest_1 17 rfl) ki_0 ?_
      refine v_istore F (ls' := [(4, .int 0), (0, .ref (K.1 + 61)), (1, .int a1), (2, .int a2), (3, .int a3)]) (dq dkX11_forest_1 18 rfl) (by decide) rfl ?_
      refine v_iconst F (v := 0) (dq dkX11_forest_1 19 rfl) ki_0 ?_
      refine v_istore F (ls' := [(5, .int 0), (4, .int 0), (0, .ref (K.1 + 61)), (1, .int a1), (2, .int a2), (3, .int a3)]) (dq dkX11_forest_1 20 rfl) (by decide) rfl ?_
      refine v_sub [2, 3, 4, 5, 1, 0] rfl ?_
      exact t_X11_forest_112 F E 1000 y a1 a2 a3 0 0 h
    · rw [if_neg c17] at h
      refine v_aload_n F (dq dkX11_forest_0 33 rfl) rfl 0 rfl ?_
      refine v_get F 61 (xnM (by decide)) xc_61 rfl inlX11 51 (by decide) (tc13 _ (List.mem_of_getElem? (i := 11) rfl)) rfl rfl (dq dkX11_forest_0 34 rfl) ?_
      refine v_iload F (dq dkX11_forest_0 35 rfl) 4 rfl ?_
      refine v_aload_n F (dq dkX11_forest_0 36 rfl) rfl 0 rfl ?_
      refine v_get F 61 (xnM (by decide)) xc_61 rfl inlX11 30 (by decide) (tc12 _ (List.mem_of_getElem? (i := 14) rfl)) rfl rfl (dq dkX11_forest_0 37 rfl) ?_
      refine v_bipush F (v := 40) (dq dkX11_forest_0 38 rfl) kb_40 ?_
      refine v_iload_n F (dq dkX11_forest_0 39 rfl) rfl 1 rfl ?_
      refine v_imul F (dq dkX11_forest_1 0 rfl) ?_
      refine v_iload F (dq dkX11_forest_1 1 rfl) 4 rfl ?_
      refine v_iadd F (dq dkX11_forest_1 2 rfl) ?_
      obtain ⟨g18, h⟩ := gd_of h
      refine v_iald F 79 (xnM (by decide)) xc_79 (ib_in g18) (dq dkX11_forest_1 3 rfl) ?_
      obtain ⟨g19, h⟩ := gd_of h
      refine v_iast F 87 (xnM (by decide)) xc_87 (ib_in g19) (dq dkX11_forest_1 4 rfl) ?_
      refine v_eqM (xwM (q := 87) (j := a4.toNatClampNeg) (v := gi y 79 ((40 * a1) + a4).toNatClampNeg) (by decide) (by decide) rfl) ?_
      refine v_aload_n F (dq dkX11_forest_1 5 rfl) rfl 0 rfl ?_
      refine v_get F 61 (xnM (by decide)) xc_61 rfl inlX11 51 (by decide) (tc13 _ (List.mem_of_getElem? (i := 11) rfl)) rfl rfl (dq dkX11_forest_1 6 rfl) ?_
      refine v_iload F (dq dkX11_forest_1 7 rfl) 4 rfl ?_
      obtain ⟨g20, h⟩ := gd_of h
      refine v_iald F 87 (xnM (by decide)) xc_87 (ib_in g20) (dq dkX11_forest_1 8 rfl) ?_
      refine v_iconst F (v := 0) (dq dkX11_forest_1 9 rfl) ki_0 ?_
      refine v_sipush F (v := 999) (dq dkX11_forest_1 10 rfl) ks_999 ?_
      refine v_callS 3 F (kc1 := 0) (ks1 := 0) (as := [.int (gi (pi y 87 a4.toNatClampNeg (gi y 79 ((40 * a1) + a4).toNatClampNeg)) 87 a4.toNatClampNeg), .int 0, .int 999]) (st := []) (st1 := (.int (b2i (f_X11_in (gi (pi y 87 a4.toNatClampNeg (gi y 79 ((40 * a1) + a4).toNatClampNeg)) 87 a4.toNatClampNeg) 0 999)) :: [])) (res := (some (.int (b2i (f_X11_in (gi (pi y 87 a4.toNatClampNeg (gi y 79 ((40 * a1) + a4).toNatClampNeg)) 87 a4.toNatClampNeg) 0 999))))) (c_X11_in (l := C.2.1) (gi (pi y 87 a4.toNatClampNeg (gi y 79 ((40 * a1) + a4).toNatClampNeg)) 87 a4.toNatClampNeg) 0 999) (tc15 _ (List.mem_of_getElem? (i := 1) rfl)) (tc15 _ (List.mem_of_getElem? (i := 2) rfl)) (tc1 _ (List.mem_of_getElem? (i := 5) rfl)) (tc15 _ (List.mem_of_getElem? (i := 3) rfl)) (by decide) rfl ⟨rfl, rfl, Nat.le_of_ble_eq_true rfl, Nat.le_of_ble_eq_true rfl⟩ ⟨Nat.le_of_ble_eq_true rfl, Nat.le_of_ble_eq_true rfl⟩ rfl (Nat.le_of_ble_eq_true rfl) rfl rfl rfl (dq dkX11_forest_1 11 rfl) ?_
      refine v_if_ne F (tgt := 100) (dq dkX11_forest_1 12 rfl) (by decide) (fun c22 => ?_) (fun c22 => ?_)
      · rw [if_neg c22] at h
        refine v_iinc F (v := a4 + 1) (ls' := [(4, .int (a4 + 1)), (0, .ref (K.1 + 61)), (1, .int a1), (2, .int a2), (3, .int a3)]) (dq dkX11_forest_1 15 rfl) (j := 4) rfl (kv_add ki_1) (by decide) rfl ?_
        refine v_goto F (tgt := 50) (dq dkX11_forest_1 16 rfl) (by decide) ?_
        refine v_sub [1, 2, 3, 4, 0] rfl ?_
        exact ih (pi y 87 a4.toNatClampNeg (gi y 79 ((40 * a1) + a4).toNatClampNeg)) a1 a2 a3 (a4 + 1) h
      · rw [if_pos c22] at h
        refine v_bipush F (v := (-2)) (dq dkX11_forest_1 13 rfl) kb_m2 ?_
        have h := Option.some.inj h
        subst h
        exact v_iret F E (dq dkX11_forest_1 14 rfl)
def f_X11_forest (y : MS) (a1 : Int32) (a2 : Int32) (a3 : Int32) : Option (Int32 × MS) := if (b2i (f_X11_in a1 0 3)) = 0 then (f_X11_forest_31 y) else (if (b2i (f_X11_in a2 1 999)) = 0 then (f_X11_forest_31 y) else (if (b2i (f_X11_in a3 0 200)) = 0 then (f_X11_forest_31 y) else (gd (ib a1 4) (if (gi y 77 a1.toNatClampNeg) = (-1) then (some ((-11), y)) else (f_X11_forest_50 1000 y a1 a2 a3 0)))))
set_option maxRecDepth 100000 in
set_option maxHeartbeats 4000000 in
theorem c_X11_forest {K : KE} {l : Launch} {R : Int32 × MS} {nn : Nat} (x : CS) (y : MS) (a1 : Int32) (a2 : Int32) (a3 : Int32) (h : f_X11_forest y a1 a2 a3 = some R) : MC K l yX11_forest cX11_forest 8 (some .int) rm_X11_forest 0 0 [.ref (K.1 + 61), .int a1, .int a2, .int a3] (xfM K nn x y) (xfM K nn x R.2) (some (.int R.1)) := by
  unfold f_X11_forest at h
  refine mc_of (ls0 := [(0, .ref (K.1 + 61)), (1, .int a1), (2, .int a2), (3, .int a3)]) (by decide) (Nat.le_of_ble_eq_true rfl) rfl (fun C hl hnm F E => ?_)
  have F : Fx C RX11 cX11_forest 8 rm_X11_forest K := F
  refine v_iload_n F (dq dkX11_forest_0 0 rfl) rfl 1 rfl ?_
  refine v_iconst F (v := 0) (dq dkX11_forest_0 1 rfl) ki_0 ?_
  refine v_iconst F (v := 3) (dq dkX11_forest_0 2 rfl) ki_3 ?_
  refine v_callS 3 F (kc1 := 0) (ks1 := 0) (as := [.int a1, .int 0, .int 3]) (st := []) (st1 := (.int (b2i (f_X11_in a1 0 3)) :: [])) (res := (some (.int (b2i (f_X11_in a1 0 3))))) (c_X11_in (l := C.2.1) a1 0 3) (tc15 _ (List.mem_of_getElem? (i := 1) rfl)) (tc15 _ (List.mem_of_getElem? (i := 2) rfl)) (tc1 _ (List.mem_of_getElem? (i := 5) rfl)) (tc15 _ (List.mem_of_getElem? (i := 3) rfl)) (by decide) rfl ⟨rfl, rfl, Nat.le_of_ble_eq_true rfl, Nat.le_of_ble_eq_true rfl⟩ ⟨Nat.le_of_ble_eq_true rfl, Nat.le_of_ble_eq_true rfl⟩ rfl (Nat.le_of_ble_eq_true rfl) rfl rfl rfl (dq dkX11_forest_0 3 rfl) ?_
  refine v_if_eq F (tgt := 31) (dq dkX11_forest_0 4 rfl) (by decide) (fun c24 => ?_) (fun c24 => ?_)
  · rw [if_pos c24] at h
    refine v_sub [] rfl ?_
    exact t_X11_forest_31 y h F E
  · rw [if_neg c24] at h
    refine v_iload_n F (dq dkX11_forest_0 5 rfl) rfl 2 rfl ?_
    refine v_iconst F (v := 1) (dq dkX11_forest_0 6 rfl) ki_1 ?_
    refine v_sipush F (v := 999) (dq dkX11_forest_0 7 rfl) ks_999 ?_
    refine v_callS 3 F (kc1 := 0) (ks1 := 0) (as := [.int a2, .int 1, .int 999]) (st := []) (st1 := (.int (b2i (f_X11_in a2 1 999)) :: [])) (res := (some (.int (b2i (f_X11_in a2 1 999))))) (c_X11_in (l := C.2.1) a2 1 999) (tc15 _ (List.mem_of_getElem? (i := 1) rfl)) (tc15 _ (List.mem_of_getElem? (i := 2) rfl)) (tc1 _ (List.mem_of_getElem? (i := 5) rfl)) (tc15 _ (List.mem_of_getElem? (i := 3) rfl)) (by decide) rfl ⟨rfl, rfl, Nat.le_of_ble_eq_true rfl, Nat.le_of_ble_eq_true rfl⟩ ⟨Nat.le_of_ble_eq_true rfl, Nat.le_of_ble_eq_true rfl⟩ rfl (Nat.le_of_ble_eq_true rfl) rfl rfl rfl (dq dkX11_forest_0 8 rfl) ?_
    refine v_if_eq F (tgt := 31) (dq dkX11_forest_0 9 rfl) (by decide) (fun c26 => ?_) (fun c26 => ?_)
    · rw [if_pos c26] at h
      refine v_sub [] rfl ?_
      exact t_X11_forest_31 y h F E
    · rw [if_neg c26] at h
      refine v_iload_n F (dq dkX11_forest_0 10 rfl) rfl 3 rfl ?_
      refine v_iconst F (v := 0) (dq dkX11_forest_0 11 rfl) ki_0 ?_
      refine v_sipush F (v := 200) (dq dkX11_forest_0 12 rfl) ks_200 ?_
      refine v_callS 3 F (kc1 := 0) (ks1 := 0) (as := [.int a3, .int 0, .int 200]) (st := []) (st1 := (.int (b2i (f_X11_in a3 0 200)) :: [])) (res := (some (.int (b2i (f_X11_in a3 0 200))))) (c_X11_in (l := C.2.1) a3 0 200) (tc15 _ (List.mem_of_getElem? (i := 1) rfl)) (tc15 _ (List.mem_of_getElem? (i := 2) rfl)) (tc1 _ (List.mem_of_getElem? (i := 5) rfl)) (tc15 _ (List.mem_of_getElem? (i := 3) rfl)) (by decide) rfl ⟨rfl, rfl, Nat.le_of_ble_eq_true rfl, Nat.le_of_ble_eq_true rfl⟩ ⟨Nat.le_of_ble_eq_true rfl, Nat.le_of_ble_eq_true rfl⟩ rfl (Nat.le_of_ble_eq_true rfl) rfl rfl rfl (dq dkX11_forest_0 13 rfl) ?_
      refine v_if_ne F (tgt := 34) (dq dkX11_forest_0 14 rfl) (by decide) (fun c28 => ?_) (fun c28 => ?_)
      · rw [if_neg c28] at h
        refine v_aload_n F (dq dkX11_forest_0 17 rfl) rfl 0 rfl ?_
        refine v_get F 61 (xnM (by decide)) xc_61 rfl inlX11 28 (by decide) (tc12 _ (List.mem_of_getElem? (i := 12) rfl)) rfl rfl (dq dkX11_forest_0 18 rfl) ?_
        refine v_iload_n F (dq dkX11_forest_0 19 rfl) rfl 1 rfl ?_
        obtain ⟨g29, h⟩ := gd_of h
        refine v_iald F 77 (xnM (by decide)) xc_77 (ib_in g29) (dq dkX11_forest_0 20 rfl) ?_
        refine v_iconst F (v := (-1)) (dq dkX11_forest_0 21 rfl) ki_m1 ?_
        refine v_icmp_ne F (tgt := 47) (dq dkX11_forest_0 22 rfl) (by decide) (fun c30 => ?_) (fun c30 => ?_)
        · rw [if_neg c30] at h
          refine v_iconst F (v := 0) (dq dkX11_forest_0 25 rfl) ki_0 ?_
          refine v_istore F (ls' := [(4, .int 0), (0, .ref (K.1 + 61)), (1, .int a1), (2, .int a2), (3, .int a3)]) (dq dkX11_forest_0 26 rfl) (by decide) rfl ?_
          refine v_sub [1, 2, 3, 4, 0] rfl ?_
          exact t_X11_forest_50 F E 1000 y a1 a2 a3 0 h
        · rw [if_pos c30] at h
          refine v_bipush F (v := (-11)) (dq dkX11_forest_0 23 rfl) kb_m11 ?_
          have h := Option.some.inj h
          subst h
          exact v_iret F E (dq dkX11_forest_0 24 rfl)
      · rw [if_pos c28] at h
        refine v_sub [] rfl ?_
        exact t_X11_forest_31 y h F E
def rm_X11_driesIn : Room := { frames := 2, cells := 0, slots := 0, locals := 51 }
def f_X11_driesIn_91 (k4 : Int32 → Int32 → Int32 → Option (Int32)) (y : MS) (a1 : Int32) (a3 : Int32) (s0 : Int32) (s1 : Int32) : Option (Int32) := k4 a1 (s1 ||| s0) (a3 + 1)
set_option maxRecDepth 100000 in
set_option maxHeartbeats 4000000 in
theorem t_X11_driesIn_91 {C : Cx} {K : KE} {nn : Nat} {x : CS} {R : Int32}  (k4 : Int32 → Int32 → Int32 → Option (Int32)) (y : MS) (a1 : Int32) (a3 : Int32) (s0 : Int32) (s1 : Int32) (hk4 : ∀ (a1 : Int32) (a2 : Int32) (a3 : Int32), k4 a1 a2 a3 = some R → V C 4 [(0, .ref (K.1 + 61)), (1, .int a1), (2, .int a2), (3, .int a3)] [] (xfM K nn x y) 0 0) (h : f_X11_driesIn_91 k4 y a1 a3 s0 s1 = some R) (F : Fx C RX11 cX11_driesIn 5 rm_X11_driesIn K) (E : CE C (xfM K nn x y) (some (.int R)) 0 0 (some .int)) : V C 91 [(0, .ref (K.1 + 61)), (1, .int a1), (3, .int a3)] [.int s0, .int s1] (xfM K nn x y) 0 0 := by
  unfold f_X11_driesIn_91 at h
  refine v_ior F (dq dkX11_driesIn_1 18 rfl) ?_
  refine v_istore_n F (ls' := [(2, .int (s1 ||| s0)), (0, .ref (K.1 + 61)), (1, .int a1), (3, .int a3)]) (dq dkX11_driesIn_1 19 rfl) rfl (by decide) rfl ?_
  refine v_iinc F (v := a3 + 1) (ls' := [(3, .int (a3 + 1)), (2, .int (s1 ||| s0)), (0, .ref (K.1 + 61)), (1, .int a1)]) (dq dkX11_driesIn_1 20 rfl) (j := 3) rfl (kv_add ki_1) (by decide) rfl ?_
  refine v_goto F (tgt := 4) (dq dkX11_driesIn_1 21 rfl) (by decide) ?_
  refine v_sub [2, 3, 1, 0] rfl ?_
  exact hk4 a1 (s1 ||| s0) (a3 + 1) h
def f_X11_driesIn_90 (k4 : Int32 → Int32 → Int32 → Option (Int32)) (y : MS) (a1 : Int32) (a3 : Int32) (s0 : Int32) : Option (Int32) := f_X11_driesIn_91 k4 y a1 a3 0 s0
set_option maxRecDepth 100000 in
set_option maxHeartbeats 4000000 in
theorem t_X11_driesIn_90 {C : Cx} {K : KE} {nn : Nat} {x : CS} {R : Int32}  (k4 : Int32 → Int32 → Int32 → Option (Int32)) (y : MS) (a1 : Int32) (a3 : Int32) (s0 : Int32) (hk4 : ∀ (a1 : Int32) (a2 : Int32) (a3 : Int32), k4 a1 a2 a3 = some R → V C 4 [(0, .ref (K.1 + 61)), (1, .int a1), (2, .int a2), (3, .int a3)] [] (xfM K nn x y) 0 0) (h : f_X11_driesIn_90 k4 y a1 a3 s0 = some R) (F : Fx C RX11 cX11_driesIn 5 rm_X11_driesIn K) (E : CE C (xfM K nn x y) (some (.int R)) 0 0 (some .int)) : V C 90 [(0, .ref (K.1 + 61)), (1, .int a1), (3, .int a3)] [.int s0] (xfM K nn x y) 0 0 := by
  unfold f_X11_driesIn_90 at h
  refine v_iconst F (v := 0) (dq dkX11_driesIn_1 17 rfl) ki_0 ?_
  exact t_X11_driesIn_91 k4 y a1 a3 0 s0 hk4 h F E
def f_X11_driesIn_35 (k4 : Int32 → Int32 → Int32 → Option (Int32)) (y : MS) (a1 : Int32) (a2 : Int32) (a3 : Int32) (s0 : Int32) : Option (Int32) := if s0 = 0 then (f_X11_driesIn_90 k4 y a1 a3 a2) else (gd (ib (27 + a3) 54) (gd (ib a3 9) ((f_X11_knotOf y a3).bind fun r4 => if (((gi y 61 3) * a1) * ((gi y 61 5) + 1)) ≤ (((gi y 62 (27 + a3).toNatClampNeg) * (gi y 85 a3.toNatClampNeg)) - (20 * r4)) then (f_X11_driesIn_90 k4 y a1 a3 a2) else (f_X11_driesIn_91 k4 y a1 a3 (1 <<< (a3 &&& 31)) a2))))
set_option maxRecDepth 100000 in
set_option maxHeartbeats 4000000 in
theorem t_X11_driesIn_35 {C : Cx} {K : KE} {nn : Nat} {x : CS} {R : Int32}  (k4 : Int32 → Int32 → Int32 → Option (Int32)) (y : MS) (a1 : Int32) (a2 : Int32) (a3 : Int32) (s0 : Int32) (hk4 : ∀ (a1 : Int32) (a2 : Int32) (a3 : Int32), k4 a1 a2 a3 = some R → V C 4 [(0, .ref (K.1 + 61)), (1, .int a1), (2, .int a2), (3, .int a3)] [] (xfM K nn x y) 0 0) (h : f_X11_driesIn_35 k4 y a1 a2 a3 s0 = some R) (F : Fx C RX11 cX11_driesIn 5 rm_X11_driesIn K) (E : CE C (xfM K nn x y) (some (.int R)) 0 0 (some .int)) : V C 35 [(0, .ref (K.1 + 61)), (1, .int a1), (2, .int a2), (3, .int a3)] [.int s0] (xfM K nn x y) 0 0 := by
  unfold f_X11_driesIn_35 at h
  refine v_istore F (ls' := [(4, .int s0), (0, .ref (K.1 + 61)), (1, .int a1), (2, .int a2), (3, .int a3)]) (dq dkX11_driesIn_0 22 rfl) (by decide) rfl ?_
  refine v_iload_n F (dq dkX11_driesIn_0 23 rfl) rfl 3 rfl ?_
  refine v_iload F (dq dkX11_driesIn_0 24 rfl) 0 rfl ?_
  refine v_if_eq F (tgt := 90) (dq dkX11_driesIn_0 25 rfl) (by decide) (fun c1 => ?_) (fun c1 => ?_)
  · rw [if_pos c1] at h
    refine v_sub [1, 2, 4] rfl ?_
    exact t_X11_driesIn_90 k4 y a1 a3 a2 hk4 h F E
  · rw [if_neg c1] at h
    refine v_aload_n F (dq dkX11_driesIn_0 26 rfl) rfl 1 rfl ?_
    refine v_get F 61 (xnM (by decide)) xc_61 rfl inlX11 3 (by decide) (tc11 _ (List.mem_of_getElem? (i := 19) rfl)) rfl rfl (dq dkX11_driesIn_0 27 rfl) ?_
    refine v_iload_n F (dq dkX11_driesIn_0 28 rfl) rfl 2 rfl ?_
    refine v_imul F (dq dkX11_driesIn_0 29 rfl) ?_
    refine v_aload_n F (dq dkX11_driesIn_0 30 rfl) rfl 1 rfl ?_
    refine v_get F 61 (xnM (by decide)) xc_61 rfl inlX11 5 (by decide) (tc16 _ (List.mem_of_getElem? (i := 15) rfl)) rfl rfl (dq dkX11_driesIn_0 31 rfl) ?_
    refine v_iconst F (v := 1) (dq dkX11_driesIn_0 32 rfl) ki_1 ?_
    refine v_iadd F (dq dkX11_driesIn_0 33 rfl) ?_
    refine v_imul F (dq dkX11_driesIn_0 34 rfl) ?_
    refine v_aload_n F (dq dkX11_driesIn_0 35 rfl) rfl 1 rfl ?_
    refine v_get F 61 (xnM (by decide)) xc_61 rfl inlX11 0 (by decide) (tc11 _ (List.mem_of_getElem? (i := 17) rfl)) rfl rfl (dq dkX11_driesIn_0 36 rfl) ?_
    refine v_bipush F (v := 27) (dq dkX11_driesIn_0 37 rfl) kb_27 ?_
    refine v_iload_n F (dq dkX11_driesIn_0 38 rfl) rfl 4 rfl ?_
    refine v_iadd F (dq dkX11_driesIn_0 39 rfl) ?_
    obtain ⟨g2, h⟩ := gd_of h
    refine v_iald F 62 (xnM (by decide)) xc_62 (ib_in g2) (dq dkX11_driesIn_1 0 rfl) ?_
    refine v_aload_n F (dq dkX11_driesIn_1 1 rfl) rfl 1 rfl ?_
    refine v_get F 61 (xnM (by decide)) xc_61 rfl inlX11 43 (by decide) (tc13 _ (List.mem_of_getElem? (i := 9) rfl)) rfl rfl (dq dkX11_driesIn_1 2 rfl) ?_
    refine v_iload_n F (dq dkX11_driesIn_1 3 rfl) rfl 4 rfl ?_
    obtain ⟨g3, h⟩ := gd_of h
    refine v_iald F 85 (xnM (by decide)) xc_85 (ib_in g3) (dq dkX11_driesIn_1 4 rfl) ?_
    refine v_imul F (dq dkX11_driesIn_1 5 rfl) ?_
    refine v_bipush F (v := 20) (dq dkX11_driesIn_1 6 rfl) kb_20 ?_
    refine v_aload_n F (dq dkX11_driesIn_1 7 rfl) rfl 1 rfl ?_
    refine v_iload_n F (dq dkX11_driesIn_1 8 rfl) rfl 4 rfl ?_
    obtain ⟨r4, e5, h⟩ := bd_of h
    refine v_callV 1 F (q := 61) (kc1 := 0) (ks1 := 0) (as := [.int a3]) (st := [.int 20, .int ((gi y 62 (27 + a3).toNatClampNeg) * (gi y 85 a3.toNatClampNeg)), .int (((gi y 61 3) * a1) * ((gi y 61 5) + 1)), .int a2]) (st1 := (.int r4 :: [.int 20, .int ((gi y 62 (27 + a3).toNatClampNeg) * (gi y 85 a3.toNatClampNeg)), .int (((gi y 61 3) * a1) * ((gi y 61 5) + 1)), .int a2])) (res := (some (.int r4))) (c_X11_knotOf (l := C.2.1) x y a3 e5) (xnM (by decide)) xc_61 rfl (tc28 _ (List.mem_of_getElem? (i := 15) rfl)) (tc28 _ (List.mem_of_getElem? (i := 16) rfl)) (tc28 _ (List.mem_of_getElem? (i := 17) rfl)) (tc1 _ (List.mem_of_getElem? (i := 5) rfl)) (tc28 _ (List.mem_of_getElem? (i := 18) rfl)) (by decide) rfl ⟨rfl, rfl, Nat.le_of_ble_eq_true rfl, Nat.le_of_ble_eq_true rfl⟩ ⟨Nat.le_of_ble_eq_true rfl, Nat.le_of_ble_eq_true rfl⟩ rfl (Nat.le_of_ble_eq_true rfl) rfl rfl rfl (dq dkX11_driesIn_1 9 rfl) ?_
    refine v_imul F (dq dkX11_driesIn_1 10 rfl) ?_
    refine v_isub F (dq dkX11_driesIn_1 11 rfl) ?_
    refine v_icmp_le F (tgt := 90) (dq dkX11_driesIn_1 12 rfl) (by decide) (fun c6 => ?_) (fun c6 => ?_)
    · rw [if_pos c6] at h
      refine v_sub [1, 2, 4] rfl ?_
      exact t_X11_driesIn_90 k4 y a1 a3 a2 hk4 h F E
    · rw [if_neg c6] at h
      refine v_iconst F (v := 1) (dq dkX11_driesIn_1 13 rfl) ki_1 ?_
      refine v_iload_n F (dq dkX11_driesIn_1 14 rfl) rfl 4 rfl ?_
      refine v_ishl F (dq dkX11_driesIn_1 15 rfl) ?_
      refine v_goto F (tgt := 91) (dq dkX11_driesIn_1 16 rfl) (by decide) ?_
      refine v_sub [1, 2, 4] rfl ?_
      exact t_X11_driesIn_91 k4 y a1 a3 (1 <<< (a3 &&& 31)) a2 hk4 h F E
def f_X11_driesIn_34 (k4 : Int32 → Int32 → Int32 → Option (Int32)) (y : MS) (a1 : Int32) (a2 : Int32) (a3 : Int32) : Option (Int32) := f_X11_driesIn_35 k4 y a1 a2 a3 0
set_option maxRecDepth 100000 in
set_option maxHeartbeats 4000000 in
theorem t_X11_driesIn_34 {C : Cx} {K : KE} {nn : Nat} {x : CS} {R : Int32}  (k4 : Int32 → Int32 → Int32 → Option (Int32)) (y : MS) (a1 : Int32) (a2 : Int32) (a3 : Int32) (hk4 : ∀ (a1 : Int32) (a2 : Int32) (a3 : Int32), k4 a1 a2 a3 = some R → V C 4 [(0, .ref (K.1 + 61)), (1, .int a1), (2, .int a2), (3, .int a3)] [] (xfM K nn x y) 0 0) (h : f_X11_driesIn_34 k4 y a1 a2 a3 = some R) (F : Fx C RX11 cX11_driesIn 5 rm_X11_driesIn K) (E : CE C (xfM K nn x y) (some (.int R)) 0 0 (some .int)) : V C 34 [(0, .ref (K.1 + 61)), (1, .int a1), (2, .int a2), (3, .int a3)] [] (xfM K nn x y) 0 0 := by
  unfold f_X11_driesIn_34 at h
  refine v_iconst F (v := 0) (dq dkX11_driesIn_0 21 rfl) ki_0 ?_
  exact t_X11_driesIn_35 k4 y a1 a2 a3 0 hk4 h F E
def f_X11_driesIn_4 (y : MS) : Nat → Int32 → Int32 → Int32 → Option (Int32)
  | 0, _, _, _ => none
  | n + 1, a1, a2, a3 => if 9 ≤ a3 then (some a2) else (if (((gi y 61 45) >>> (a3 &&& 31)) &&& 1) = 0 then (gd (ib a3 9) (if (gi y 85 a3.toNatClampNeg) ≤ 0 then (f_X11_driesIn_34 (f_X11_driesIn_4 y n) y a1 a2 a3) else (f_X11_driesIn_35 (f_X11_driesIn_4 y n) y a1 a2 a3 1))) else (f_X11_driesIn_34 (f_X11_driesIn_4 y n) y a1 a2 a3))
set_option maxRecDepth 100000 in
set_option maxHeartbeats 4000000 in
theorem t_X11_driesIn_4 {C : Cx} {K : KE} {nn : Nat} {x : CS} {R : Int32}  (y : MS) (F : Fx C RX11 cX11_driesIn 5 rm_X11_driesIn K) (E : CE C (xfM K nn x y) (some (.int R)) 0 0 (some .int)) : ∀ (n : Nat) (a1 : Int32) (a2 : Int32) (a3 : Int32) (h : f_X11_driesIn_4 y n a1 a2 a3 = some R), V C 4 [(0, .ref (K.1 + 61)), (1, .int a1), (2, .int a2), (3, .int a3)] [] (xfM K nn x y) 0 0 := by
  intro n
  induction n with
  | zero => intro a1 a2 a3 h; cases h
  | succ n ih =>
    intro a1 a2 a3 h
    rw [f_X11_driesIn_4] at h
    refine v_iload_n F (dq dkX11_driesIn_0 4 rfl) rfl 3 rfl ?_
    refine v_bipush F (v := 9) (dq dkX11_driesIn_0 5 rfl) kb_9 ?_
    refine v_icmp_ge F (tgt := 99) (dq dkX11_driesIn_0 6 rfl) (by decide) (fun c7 => ?_) (fun c7 => ?_)
    · rw [if_pos c7] at h
      refine v_iload_n F (dq dkX11_driesIn_1 22 rfl) rfl 2 rfl ?_
      have h := Option.some.inj h
      subst h
      exact v_iret F E (dq dkX11_driesIn_1 23 rfl)
    · rw [if_neg c7] at h
      refine v_aload_n F (dq dkX11_driesIn_0 7 rfl) rfl 0 rfl ?_
      refine v_get F 61 (xnM (by decide)) xc_61 rfl inlX11 45 (by decide) (tc27 _ (List.mem_of_getElem? (i := 9) rfl)) rfl rfl (dq dkX11_driesIn_0 8 rfl) ?_
      refine v_iload_n F (dq dkX11_driesIn_0 9 rfl) rfl 3 rfl ?_
      refine v_ishr F (dq dkX11_driesIn_0 10 rfl) ?_
      refine v_iconst F (v := 1) (dq dkX11_driesIn_0 11 rfl) ki_1 ?_
      refine v_iand F (dq dkX11_driesIn_0 12 rfl) ?_
      refine v_if_ne F (tgt := 34) (dq dkX11_driesIn_0 13 rfl) (by decide) (fun c8 => ?_) (fun c8 => ?_)
      · rw [if_neg c8] at h
        exact t_X11_driesIn_34 (f_X11_driesIn_4 y n) y a1 a2 a3 ih h F E
      · rw [if_pos c8] at h
        refine v_aload_n F (dq dkX11_driesIn_0 14 rfl) rfl 0 rfl ?_
        refine v_get F 61 (xnM (by decide)) xc_61 rfl inlX11 43 (by decide) (tc13 _ (List.mem_of_getElem? (i := 9) rfl)) rfl rfl (dq dkX11_driesIn_0 15 rfl) ?_
        refine v_iload_n F (dq dkX11_driesIn_0 16 rfl) rfl 3 rfl ?_
        obtain ⟨g9, h⟩ := gd_of h
        refine v_iald F 85 (xnM (by decide)) xc_85 (ib_in g9) (dq dkX11_driesIn_0 17 rfl) ?_
        refine v_if_le F (tgt := 34) (dq dkX11_driesIn_0 18 rfl) (by decide) (fun c10 => ?_) (fun c10 => ?_)
        · rw [if_pos c10] at h
          exact t_X11_driesIn_34 (f_X11_driesIn_4 y n) y a1 a2 a3 ih h F E
        · rw [if_neg c10] at h
          refine v_iconst F (v := 1) (dq dkX11_driesIn_0 19 rfl) ki_1 ?_
          refine v_goto F (tgt := 35) (dq dkX11_driesIn_0 20 rfl) (by decide) ?_
          exact t_X11_driesIn_35 (f_X11_driesIn_4 y n) y a1 a2 a3 1 ih h F E
def f_X11_driesIn (y : MS) (a1 : Int32) : Option (Int32) := f_X11_driesIn_4 y 1000 a1 0 0
set_option maxRecDepth 100000 in
set_option maxHeartbeats 4000000 in
theorem c_X11_driesIn {K : KE} {l : Launch} {R : Int32} {nn : Nat} (x : CS) (y : MS) (a1 : Int32) (h : f_X11_driesIn y a1 = some R) : MC K l yX11_driesIn cX11_driesIn 5 (some .int) rm_X11_driesIn 0 0 [.ref (K.1 + 61), .int a1] (xfM K nn x y) (xfM K nn x y) (some (.int R)) := by
  unfold f_X11_driesIn at h
  refine mc_of (ls0 := [(0, .ref (K.1 + 61)), (1, .int a1)]) (by decide) (Nat.le_of_ble_eq_true rfl) rfl (fun C hl hnm F E => ?_)
  have F : Fx C RX11 cX11_driesIn 5 rm_X11_driesIn K := F
  refine v_iconst F (v := 0) (dq dkX11_driesIn_0 0 rfl) ki_0 ?_
  refine v_istore_n F (ls' := [(2, .int 0), (0, .ref (K.1 + 61)), (1, .int a1)]) (dq dkX11_driesIn_0 1 rfl) rfl (by decide) rfl ?_
  refine v_iconst F (v := 0) (dq dkX11_driesIn_0 2 rfl) ki_0 ?_
  refine v_istore_n F (ls' := [(3, .int 0), (2, .int 0), (0, .ref (K.1 + 61)), (1, .int a1)]) (dq dkX11_driesIn_0 3 rfl) rfl (by decide) rfl ?_
  refine v_sub [2, 3, 1, 0] rfl ?_
  exact t_X11_driesIn_4 y F E 1000 a1 0 0 h
def rm_X11_dries : Room := { frames := 8, cells := 0, slots := 0, locals := 192 }
def f_X11_dries (y : MS) (a1 : Int32) (a2 : Int32) : Option (Int32 × MS) := if (b2i (f_X11_areWorks y a1)) = 0 then (some ((-5), y)) else (if (b2i (f_X11_in a2 0 99)) = 0 then (some ((-7), y)) else ((f_X11_comes y a1).bind fun r5 => (f_X11_driesIn r5 a2).bind fun r7 => some (r7, r5)))
set_option maxRecDepth 100000 in
set_option maxHeartbeats 4000000 in
theorem c_X11_dries {K : KE} {l : Launch} {R : Int32 × MS} {nn : Nat} (x : CS) (y : MS) (a1 : Int32) (a2 : Int32) (h : f_X11_dries y a1 a2 = some R) : MC K l yX11_dries cX11_dries 3 (some .int) rm_X11_dries 0 0 [.ref (K.1 + 61), .int a1, .int a2] (xfM K nn x y) (xfM K nn x R.2) (some (.int R.1)) := by
  unfold f_X11_dries at h
  refine mc_of (ls0 := [(0, .ref (K.1 + 61)), (1, .int a1), (2, .int a2)]) (by decide) (Nat.le_of_ble_eq_true rfl) rfl (fun C hl hnm F E => ?_)
  have F : Fx C RX11 cX11_dries 3 rm_X11_dries K := F
  refine v_aload_n F (dq dkX11_dries_0 0 rfl) rfl 0 rfl ?_
  refine v_iload_n F (dq dkX11_dries_0 1 rfl) rfl 1 rfl ?_
  refine v_callV 1 F (q := 61) (kc1 := 0) (ks1 := 0) (as := [.int a1]) (st := []) (st1 := (.int (b2i (f_X11_areWorks y a1)) :: [])) (res := (some (.int (b2i (f_X11_areWorks y a1))))) (c_X11_areWorks (l := C.2.1) x y a1) (xnM (by decide)) xc_61 rfl (tc27 _ (List.mem_of_getElem? (i := 10) rfl)) (tc27 _ (List.mem_of_getElem? (i := 11) rfl)) (tc27 _ (List.mem_of_getElem? (i := 12) rfl)) (tc1 _ (List.mem_of_getElem? (i := 5) rfl)) (tc27 _ (List.mem_of_getElem? (i := 13) rfl)) (by decide) rfl ⟨rfl, rfl, Nat.le_of_ble_eq_true rfl, Nat.le_of_ble_eq_true rfl⟩ ⟨Nat.le_of_ble_eq_true rfl, Nat.le_of_ble_eq_true rfl⟩ rfl (Nat.le_of_ble_eq_true rfl) rfl rfl rfl (dq dkX11_dries_0 2 rfl) ?_
  refine v_if_ne F (tgt := 11) (dq dkX11_dries_0 3 rfl) (by decide) (fun c2 => ?_) (fun c2 => ?_)
  · rw [if_neg c2] at h
    refine v_iload_n F (dq dkX11_dries_0 6 rfl) rfl 2 rfl ?_
    refine v_iconst F (v := 0) (dq dkX11_dries_0 7 rfl) ki_0 ?_
    refine v_bipush F (v := 99) (dq dkX11_dries_0 8 rfl) kb_99 ?_
    refine v_callS 3 F (kc1 := 0) (ks1 := 0) (as := [.int a2, .int 0, .int 99]) (st := []) (st1 := (.int (b2i (f_X11_in a2 0 99)) :: [])) (res := (some (.int (b2i (f_X11_in a2 0 99))))) (c_X11_in (l := C.2.1) a2 0 99) (tc15 _ (List.mem_of_getElem? (i := 1) rfl)) (tc15 _ (List.mem_of_getElem? (i := 2) rfl)) (tc1 _ (List.mem_of_getElem? (i := 5) rfl)) (tc15 _ (List.mem_of_getElem? (i := 3) rfl)) (by decide) rfl ⟨rfl, rfl, Nat.le_of_ble_eq_true rfl, Nat.le_of_ble_eq_true rfl⟩ ⟨Nat.le_of_ble_eq_true rfl, Nat.le_of_ble_eq_true rfl⟩ rfl (Nat.le_of_ble_eq_true rfl) rfl rfl rfl (dq dkX11_dries_0 9 rfl) ?_
    refine v_if_ne F (tgt := 24) (dq dkX11_dries_0 10 rfl) (by decide) (fun c4 => ?_) (fun c4 => ?_)
    · rw [if_neg c4] at h
      refine v_aload_n F (dq dkX11_dries_0 13 rfl) rfl 0 rfl ?_
      refine v_iload_n F (dq dkX11_dries_0 14 rfl) rfl 1 rfl ?_
      obtain ⟨r5, e6, h⟩ := bd_of h
      refine v_callV 1 F (q := 61) (kc1 := 0) (ks1 := 0) (as := [.int a1]) (st := []) (st1 := []) (res := none) (c_X11_comes (l := C.2.1) x y a1 e6) (xnM (by decide)) xc_61 rfl (tc27 _ (List.mem_of_getElem? (i := 14) rfl)) (tc27 _ (List.mem_of_getElem? (i := 15) rfl)) (tc27 _ (List.mem_of_getElem? (i := 16) rfl)) (tc1 _ (List.mem_of_getElem? (i := 5) rfl)) (tc27 _ (List.mem_of_getElem? (i := 17) rfl)) (by decide) rfl ⟨rfl, rfl, Nat.le_of_ble_eq_true rfl, Nat.le_of_ble_eq_true rfl⟩ ⟨Nat.le_of_ble_eq_true rfl, Nat.le_of_ble_eq_true rfl⟩ rfl (Nat.le_of_ble_eq_true rfl) rfl rfl rfl (dq dkX11_dries_0 15 rfl) ?_
      refine v_aload_n F (dq dkX11_dries_0 16 rfl) rfl 0 rfl ?_
      refine v_iload_n F (dq dkX11_dries_0 17 rfl) rfl 2 rfl ?_
      obtain ⟨r7, e8, h⟩ := bd_of h
      refine v_callV 1 F (q := 61) (kc1 := 0) (ks1 := 0) (as := [.int a2]) (st := []) (st1 := (.int r7 :: [])) (res := (some (.int r7))) (c_X11_driesIn (l := C.2.1) x r5 a2 e8) (xnM (by decide)) xc_61 rfl (tc49 _ (List.mem_of_getElem? (i := 12) rfl)) (tc49 _ (List.mem_of_getElem? (i := 13) rfl)) (tc49 _ (List.mem_of_getElem? (i := 14) rfl)) (tc1 _ (List.mem_of_getElem? (i := 5) rfl)) (tc49 _ (List.mem_of_getElem? (i := 15) rfl)) (by decide) rfl ⟨rfl, rfl, Nat.le_of_ble_eq_true rfl, Nat.le_of_ble_eq_true rfl⟩ ⟨Nat.le_of_ble_eq_true rfl, Nat.le_of_ble_eq_true rfl⟩ rfl (Nat.le_of_ble_eq_true rfl) rfl rfl rfl (dq dkX11_dries_0 18 rfl) ?_
      have h := Option.some.inj h
      subst h
      exact v_iret F E (dq dkX11_dries_0 19 rfl)
    · rw [if_pos c4] at h
      refine v_bipush F (v := (-7)) (dq dkX11_dries_0 11 rfl) kb_m7 ?_
      have h := Option.some.inj h
      subst h
      exact v_iret F E (dq dkX11_dries_0 12 rfl)
  · rw [if_pos c2] at h
    refine v_bipush F (v := (-5)) (dq dkX11_dries_0 4 rfl) kb_m5 ?_
    have h := Option.some.inj h
    subst h
    exact v_iret F E (dq dkX11_dries_0 5 rfl)
def rm_X11_shade : Room := { frames := 8, cells := 0, slots := 0, locals := 192 }
def f_X11_shade_18 : Nat → MS → Int32 → Option (Int32 × MS)
  | 0, _, _ => none
  | n + 1, y, a2 => if 99 < a2 then (some ((-1), y)) else ((f_X11_driesIn y a2).bind fun r2 => if r2 = 0 then ((f_X11_shade_18 n) y (a2 + 1)) else (some (a2 - 1, y)))
set_option maxRecDepth 100000 in
set_option maxHeartbeats 4000000 in
theorem t_X11_shade_18 {C : Cx} {K : KE} {nn : Nat} {x : CS} {R : Int32 × MS}  (F : Fx C RX11 cX11_shade 3 rm_X11_shade K) (E : CE C (xfM K nn x R.2) (some (.int R.1)) 0 0 (some .int)) : ∀ (n : Nat) (y : MS) (a2 : Int32) (h : f_X11_shade_18 n y a2 = some R), V C 18 [(0, .ref (K.1 + 61)), (2, .int a2)] [] (xfM K nn x y) 0 0 := by
  intro n
  induction n with
  | zero => intro y a2 h; cases h
  | succ n ih =>
    intro y a2 h
    rw [f_X11_shade_18] at h
    refine v_iload_n F (dq dkX11_shade_0 11 rfl) rfl 1 rfl ?_
    refine v_bipush F (v := 99) (dq dkX11_shade_0 12 rfl) kb_99 ?_
    refine v_icmp_gt F (tgt := 42) (dq dkX11_shade_0 13 rfl) (by decide) (fun c1 => ?_) (fun c1 => ?_)
    · rw [if_pos c1] at h
      refine v_iconst F (v := (-1)) (dq dkX11_shade_0 24 rfl) ki_m1 ?_
      have h := Option.some.inj h
      subst h
      exact v_iret F E (dq dkX11_shade_0 25 rfl)
    · rw [if_neg c1] at h
      refine v_aload_n F (dq dkX11_shade_0 14 rfl) rfl 0 rfl ?_
      refine v_iload_n F (dq dkX11_shade_0 15 rfl) rfl 1 rfl ?_
      obtain ⟨r2, e3, h⟩ := bd_of h
      refine v_callV 1 F (q := 61) (kc1 := 0) (ks1 := 0) (as := [.int a2]) (st := []) (st1 := (.int r2 :: [])) (res := (some (.int r2))) (c_X11_driesIn (l := C.2.1) x y a2 e3) (xnM (by decide)) xc_61 rfl (tc49 _ (List.mem_of_getElem? (i := 12) rfl)) (tc49 _ (List.mem_of_getElem? (i := 13) rfl)) (tc49 _ (List.mem_of_getElem? (i := 14) rfl)) (tc1 _ (List.mem_of_getElem? (i := 5) rfl)) (tc49 _ (List.mem_of_getElem? (i := 15) rfl)) (by decide) rfl ⟨rfl, rfl, Nat.le_of_ble_eq_true rfl, Nat.le_of_ble_eq_true rfl⟩ ⟨Nat.le_of_ble_eq_true rfl, Nat.le_of_ble_eq_true rfl⟩ rfl (Nat.le_of_ble_eq_true rfl) rfl rfl rfl (dq dkX11_shade_0 16 rfl) ?_
      refine v_if_eq F (tgt := 36) (dq dkX11_shade_0 17 rfl) (by decide) (fun c4 => ?_) (fun c4 => ?_)
      · rw [if_pos c4] at h
        refine v_iinc F (v := a2 + 1) (ls' := [(2, .int (a2 + 1)), (0, .ref (K.1 + 61))]) (dq dkX11_shade_0 22 rfl) (j := 1) rfl (kv_add ki_1) (by decide) rfl ?_
        refine v_goto F (tgt := 18) (dq dkX11_shade_0 23 rfl) (by decide) ?_
        refine v_sub [1, 0] rfl ?_
        exact ih y (a2 + 1) h
      · rw [if_neg c4] at h
        refine v_iload_n F (dq dkX11_shade_0 18 rfl) rfl 1 rfl ?_
        refine v_iconst F (v := 1) (dq dkX11_shade_0 19 rfl) ki_1 ?_
        refine v_isub F (dq dkX11_shade_0 20 rfl) ?_
        have h := Option.some.inj h
        subst h
        exact v_iret F E (dq dkX11_shade_0 21 rfl)
def f_X11_shade (y : MS) (a1 : Int32) : Option (Int32 × MS) := if (b2i (f_X11_areWorks y a1)) = 0 then (some ((-5), y)) else ((f_X11_comes y a1).bind fun r7 => f_X11_shade_18 1000 r7 1)
set_option maxRecDepth 100000 in
set_option maxHeartbeats 4000000 in
theorem c_X11_shade {K : KE} {l : Launch} {R : Int32 × MS} {nn : Nat} (x : CS) (y : MS) (a1 : Int32) (h : f_X11_shade y a1 = some R) : MC K l yX11_shade cX11_shade 3 (some .int) rm_X11_shade 0 0 [.ref (K.1 + 61), .int a1] (xfM K nn x y) (xfM K nn x R.2) (some (.int R.1)) := by
  unfold f_X11_shade at h
  refine mc_of (ls0 := [(0, .ref (K.1 + 61)), (1, .int a1)]) (by decide) (Nat.le_of_ble_eq_true rfl) rfl (fun C hl hnm F E => ?_)
  have F : Fx C RX11 cX11_shade 3 rm_X11_shade K := F
  refine v_aload_n F (dq dkX11_shade_0 0 rfl) rfl 0 rfl ?_
  refine v_iload_n F (dq dkX11_shade_0 1 rfl) rfl 1 rfl ?_
  refine v_callV 1 F (q := 61) (kc1 := 0) (ks1 := 0) (as := [.int a1]) (st := []) (st1 := (.int (b2i (f_X11_areWorks y a1)) :: [])) (res := (some (.int (b2i (f_X11_areWorks y a1))))) (c_X11_areWorks (l := C.2.1) x y a1) (xnM (by decide)) xc_61 rfl (tc27 _ (List.mem_of_getElem? (i := 10) rfl)) (tc27 _ (List.mem_of_getElem? (i := 11) rfl)) (tc27 _ (List.mem_of_getElem? (i := 12) rfl)) (tc1 _ (List.mem_of_getElem? (i := 5) rfl)) (tc27 _ (List.mem_of_getElem? (i := 13) rfl)) (by decide) rfl ⟨rfl, rfl, Nat.le_of_ble_eq_true rfl, Nat.le_of_ble_eq_true rfl⟩ ⟨Nat.le_of_ble_eq_true rfl, Nat.le_of_ble_eq_true rfl⟩ rfl (Nat.le_of_ble_eq_true rfl) rfl rfl rfl (dq dkX11_shade_0 2 rfl) ?_
  refine v_if_ne F (tgt := 11) (dq dkX11_shade_0 3 rfl) (by decide) (fun c6 => ?_) (fun c6 => ?_)
  · rw [if_neg c6] at h
    refine v_aload_n F (dq dkX11_shade_0 6 rfl) rfl 0 rfl ?_
    refine v_iload_n F (dq dkX11_shade_0 7 rfl) rfl 1 rfl ?_
    obtain ⟨r7, e8, h⟩ := bd_of h
    refine v_callV 1 F (q := 61) (kc1 := 0) (ks1 := 0) (as := [.int a1]) (st := []) (st1 := []) (res := none) (c_X11_comes (l := C.2.1) x y a1 e8) (xnM (by decide)) xc_61 rfl (tc27 _ (List.mem_of_getElem? (i := 14) rfl)) (tc27 _ (List.mem_of_getElem? (i := 15) rfl)) (tc27 _ (List.mem_of_getElem? (i := 16) rfl)) (tc1 _ (List.mem_of_getElem? (i := 5) rfl)) (tc27 _ (List.mem_of_getElem? (i := 17) rfl)) (by decide) rfl ⟨rfl, rfl, Nat.le_of_ble_eq_true rfl, Nat.le_of_ble_eq_true rfl⟩ ⟨Nat.le_of_ble_eq_true rfl, Nat.le_of_ble_eq_true rfl⟩ rfl (Nat.le_of_ble_eq_true rfl) rfl rfl rfl (dq dkX11_shade_0 8 rfl) ?_
    refine v_iconst F (v := 1) (dq dkX11_shade_0 9 rfl) ki_1 ?_
    refine v_istore_n F (ls' := [(2, .int 1), (0, .ref (K.1 + 61)), (1, .int a1)]) (dq dkX11_shade_0 10 rfl) rfl (by decide) rfl ?_
    refine v_sub [1, 0] rfl ?_
    exact t_X11_shade_18 F E 1000 r7 1 h
  · rw [if_pos c6] at h
    refine v_bipush F (v := (-5)) (dq dkX11_shade_0 4 rfl) kb_m5 ?_
    have h := Option.some.inj h
    subst h
    exact v_iret F E (dq dkX11_shade_0 5 rfl)
def rm_X11_drawn : Room := { frames := 8, cells := 0, slots := 0, locals := 192 }
def f_X11_drawn_39 (y : MS) : Option (Int32 × MS) := some ((-7), y)
set_option maxRecDepth 100000 in
set_option maxHeartbeats 4000000 in
theorem t_X11_drawn_39 {C : Cx} {K : KE} {nn : Nat} {x : CS} {R : Int32 × MS}  (y : MS) (h : f_X11_drawn_39 y = some R) (F : Fx C RX11 cX11_drawn 5 rm_X11_drawn K) (E : CE C (xfM K nn x R.2) (some (.int R.1)) 0 0 (some .int)) : V C 39 [] [] (xfM K nn x y) 0 0 := by
  unfold f_X11_drawn_39 at h
  refine v_bipush F (v := (-7)) (dq dkX11_drawn_0 19 rfl) kb_m7 ?_
  have h := Option.some.inj h
  subst h
  exact v_iret F E (dq dkX11_drawn_0 20 rfl)
def f_X11_drawn (y : MS) (a1 : Int32) (a2 : Int32) (a3 : Int32) (a4 : Int32) : Option (Int32 × MS) := if (b2i (f_X11_areWorks y a1)) = 0 then (some ((-5), y)) else (if (b2i (f_X11_isSection a2)) = 0 then (f_X11_drawn_39 y) else (if (b2i (f_X11_in a3 0 99999)) = 0 then (f_X11_drawn_39 y) else (if (b2i (f_X11_in a4 0 1)) = 0 then (f_X11_drawn_39 y) else ((f_X11_comes (pi (pmlot y (a3.toInt64 + 1)) 61 48 1) a1).bind fun r9 => if a4 = 0 then (gd (ib a2 9) (some (gi (pi r9 61 48 0) 85 a2.toNatClampNeg, pi r9 61 48 0))) else (some (gi (pi r9 61 48 0) 61 45, pi r9 61 48 0))))))
set_option maxRecDepth 100000 in
set_option maxHeartbeats 4000000 in
theorem c_X11_drawn {K : KE} {l : Launch} {R : Int32 × MS} {nn : Nat} (x : CS) (y : MS) (a1 : Int32) (a2 : Int32) (a3 : Int32) (a4 : Int32) (h : f_X11_drawn y a1 a2 a3 a4 = some R) : MC K l yX11_drawn cX11_drawn 5 (some .int) rm_X11_drawn 0 0 [.ref (K.1 + 61), .int a1, .int a2, .int a3, .int a4] (xfM K nn x y) (xfM K nn x R.2) (some (.int R.1)) := by
  unfold f_X11_drawn at h
  refine mc_of (ls0 := [(0, .ref (K.1 + 61)), (1, .int a1), (2, .int a2), (3, .int a3), (4, .int a4)]) (by decide) (Nat.le_of_ble_eq_true rfl) rfl (fun C hl hnm F E => ?_)
  have F : Fx C RX11 cX11_drawn 5 rm_X11_drawn K := F
  refine v_aload_n F (dq dkX11_drawn_0 0 rfl) rfl 0 rfl ?_
  refine v_iload_n F (dq dkX11_drawn_0 1 rfl) rfl 1 rfl ?_
  refine v_callV 1 F (q := 61) (kc1 := 0) (ks1 := 0) (as := [.int a1]) (st := []) (st1 := (.int (b2i (f_X11_areWorks y a1)) :: [])) (res := (some (.int (b2i (f_X11_areWorks y a1))))) (c_X11_areWorks (l := C.2.1) x y a1) (xnM (by decide)) xc_61 rfl (tc27 _ (List.mem_of_getElem? (i := 10) rfl)) (tc27 _ (List.mem_of_getElem? (i := 11) rfl)) (tc27 _ (List.mem_of_getElem? (i := 12) rfl)) (tc1 _ (List.mem_of_getElem? (i := 5) rfl)) (tc27 _ (List.mem_of_getElem? (i := 13) rfl)) (by decide) rfl ⟨rfl, rfl, Nat.le_of_ble_eq_true rfl, Nat.le_of_ble_eq_true rfl⟩ ⟨Nat.le_of_ble_eq_true rfl, Nat.le_of_ble_eq_true rfl⟩ rfl (Nat.le_of_ble_eq_true rfl) rfl rfl rfl (dq dkX11_drawn_0 2 rfl) ?_
  refine v_if_ne F (tgt := 11) (dq dkX11_drawn_0 3 rfl) (by decide) (fun c2 => ?_) (fun c2 => ?_)
  · rw [if_neg c2] at h
    refine v_iload_n F (dq dkX11_drawn_0 6 rfl) rfl 2 rfl ?_
    refine v_callS 1 F (kc1 := 0) (ks1 := 0) (as := [.int a2]) (st := []) (st1 := (.int (b2i (f_X11_isSection a2)) :: [])) (res := (some (.int (b2i (f_X11_isSection a2))))) (c_X11_isSection (l := C.2.1) a2) (tc14 _ (List.mem_of_getElem? (i := 22) rfl)) (tc14 _ (List.mem_of_getElem? (i := 23) rfl)) (tc1 _ (List.mem_of_getElem? (i := 5) rfl)) (tc15 _ (List.mem_of_getElem? (i := 0) rfl)) (by decide) rfl ⟨rfl, rfl, Nat.le_of_ble_eq_true rfl, Nat.le_of_ble_eq_true rfl⟩ ⟨Nat.le_of_ble_eq_true rfl, Nat.le_of_ble_eq_true rfl⟩ rfl (Nat.le_of_ble_eq_true rfl) rfl rfl rfl (dq dkX11_drawn_0 7 rfl) ?_
    refine v_if_eq F (tgt := 39) (dq dkX11_drawn_0 8 rfl) (by decide) (fun c4 => ?_) (fun c4 => ?_)
    · rw [if_pos c4] at h
      refine v_sub [] rfl ?_
      exact t_X11_drawn_39 y h F E
    · rw [if_neg c4] at h
      refine v_iload_n F (dq dkX11_drawn_0 9 rfl) rfl 3 rfl ?_
      refine v_iconst F (v := 0) (dq dkX11_drawn_0 10 rfl) ki_0 ?_
      refine v_ldcw F (v := 99999) (tc50 _ (List.mem_of_getElem? (i := 9) rfl)) (dq dkX11_drawn_0 11 rfl) ?_
      refine v_callS 3 F (kc1 := 0) (ks1 := 0) (as := [.int a3, .int 0, .int 99999]) (st := []) (st1 := (.int (b2i (f_X11_in a3 0 99999)) :: [])) (res := (some (.int (b2i (f_X11_in a3 0 99999))))) (c_X11_in (l := C.2.1) a3 0 99999) (tc15 _ (List.mem_of_getElem? (i := 1) rfl)) (tc15 _ (List.mem_of_getElem? (i := 2) rfl)) (tc1 _ (List.mem_of_getElem? (i := 5) rfl)) (tc15 _ (List.mem_of_getElem? (i := 3) rfl)) (by decide) rfl ⟨rfl, rfl, Nat.le_of_ble_eq_true rfl, Nat.le_of_ble_eq_true rfl⟩ ⟨Nat.le_of_ble_eq_true rfl, Nat.le_of_ble_eq_true rfl⟩ rfl (Nat.le_of_ble_eq_true rfl) rfl rfl rfl (dq dkX11_drawn_0 12 rfl) ?_
      refine v_if_eq F (tgt := 39) (dq dkX11_drawn_0 13 rfl) (by decide) (fun c6 => ?_) (fun c6 => ?_)
      · rw [if_pos c6] at h
        refine v_sub [] rfl ?_
        exact t_X11_drawn_39 y h F E
      · rw [if_neg c6] at h
        refine v_iload F (dq dkX11_drawn_0 14 rfl) 4 rfl ?_
        refine v_iconst F (v := 0) (dq dkX11_drawn_0 15 rfl) ki_0 ?_
        refine v_iconst F (v := 1) (dq dkX11_drawn_0 16 rfl) ki_1 ?_
        refine v_callS 3 F (kc1 := 0) (ks1 := 0) (as := [.int a4, .int 0, .int 1]) (st := []) (st1 := (.int (b2i (f_X11_in a4 0 1)) :: [])) (res := (some (.int (b2i (f_X11_in a4 0 1))))) (c_X11_in (l := C.2.1) a4 0 1) (tc15 _ (List.mem_of_getElem? (i := 1) rfl)) (tc15 _ (List.mem_of_getElem? (i := 2) rfl)) (tc1 _ (List.mem_of_getElem? (i := 5) rfl)) (tc15 _ (List.mem_of_getElem? (i := 3) rfl)) (by decide) rfl ⟨rfl, rfl, Nat.le_of_ble_eq_true rfl, Nat.le_of_ble_eq_true rfl⟩ ⟨Nat.le_of_ble_eq_true rfl, Nat.le_of_ble_eq_true rfl⟩ rfl (Nat.le_of_ble_eq_true rfl) rfl rfl rfl (dq dkX11_drawn_0 17 rfl) ?_
        refine v_if_ne F (tgt := 42) (dq dkX11_drawn_0 18 rfl) (by decide) (fun c8 => ?_) (fun c8 => ?_)
        · rw [if_neg c8] at h
          refine v_aload_n F (dq dkX11_drawn_0 21 rfl) rfl 0 rfl ?_
          refine v_iload_n F (dq dkX11_drawn_0 22 rfl) rfl 3 rfl ?_
          refine v_i2l F (dq dkX11_drawn_0 23 rfl) ?_
          refine v_lconst F (v := 1) (dq dkX11_drawn_0 24 rfl) rfl ?_
          refine v_ladd F (dq dkX11_drawn_0 25 rfl) ?_
          refine v_put F 61 (xnM (by decide)) xc_61 rfl inlX11 tyX11_ok nmX11 49 (by decide) (tc29 _ (List.mem_of_getElem? (i := 0) rfl)) rfl rfl (tyX11_ok 49 (by decide)) rfl rfl (Nat.le_of_ble_eq_true rfl) (dq dkX11_drawn_0 26 rfl) ?_
          refine v_eqM (xw_mlot (v := a3.toInt64 + 1)) ?_
          refine v_aload_n F (dq dkX11_drawn_0 27 rfl) rfl 0 rfl ?_
          refine v_iconst F (v := 1) (dq dkX11_drawn_0 28 rfl) ki_1 ?_
          refine v_put F 61 (xnM (by decide)) xc_61 rfl inlX11 tyX11_ok nmX11 48 (by decide) (tc28 _ (List.mem_of_getElem? (i := 23) rfl)) rfl rfl (tyX11_ok 48 (by decide)) (b2i_n true) rfl (Nat.le_of_ble_eq_true rfl) (dq dkX11_drawn_0 29 rfl) ?_
          refine v_eqM (xwM (q := 61) (j := 48) (v := 1) (by decide) (by decide) rfl) ?_
          refine v_aload_n F (dq dkX11_drawn_0 30 rfl) rfl 0 rfl ?_
          refine v_iload_n F (dq dkX11_drawn_0 31 rfl) rfl 1 rfl ?_
          obtain ⟨r9, e10, h⟩ := bd_of h
          refine v_callV 1 F (q := 61) (kc1 := 0) (ks1 := 0) (as := [.int a1]) (st := []) (st1 := []) (res := none) (c_X11_comes (l := C.2.1) x (pi (pmlot y (a3.toInt64 + 1)) 61 48 1) a1 e10) (xnM (by decide)) xc_61 rfl (tc27 _ (List.mem_of_getElem? (i := 14) rfl)) (tc27 _ (List.mem_of_getElem? (i := 15) rfl)) (tc27 _ (List.mem_of_getElem? (i := 16) rfl)) (tc1 _ (List.mem_of_getElem? (i := 5) rfl)) (tc27 _ (List.mem_of_getElem? (i := 17) rfl)) (by decide) rfl ⟨rfl, rfl, Nat.le_of_ble_eq_true rfl, Nat.le_of_ble_eq_true rfl⟩ ⟨Nat.le_of_ble_eq_true rfl, Nat.le_of_ble_eq_true rfl⟩ rfl (Nat.le_of_ble_eq_true rfl) rfl rfl rfl (dq dkX11_drawn_0 32 rfl) ?_
          refine v_aload_n F (dq dkX11_drawn_0 33 rfl) rfl 0 rfl ?_
          refine v_iconst F (v := 0) (dq dkX11_drawn_0 34 rfl) ki_0 ?_
          refine v_put F 61 (xnM (by decide)) xc_61 rfl inlX11 tyX11_ok nmX11 48 (by decide) (tc28 _ (List.mem_of_getElem? (i := 23) rfl)) rfl rfl (tyX11_ok 48 (by decide)) (b2i_n false) rfl (Nat.le_of_ble_eq_true rfl) (dq dkX11_drawn_0 35 rfl) ?_
          refine v_eqM (xwM (q := 61) (j := 48) (v := 0) (by decide) (by decide) rfl) ?_
          refine v_iload F (dq dkX11_drawn_0 36 rfl) 4 rfl ?_
          refine v_if_ne F (tgt := 79) (dq dkX11_drawn_0 37 rfl) (by decide) (fun c11 => ?_) (fun c11 => ?_)
          · rw [if_neg c11] at h
            refine v_aload_n F (dq dkX11_drawn_1 3 rfl) rfl 0 rfl ?_
            refine v_get F 61 (xnM (by decide)) xc_61 rfl inlX11 45 (by decide) (tc27 _ (List.mem_of_getElem? (i := 9) rfl)) rfl rfl (dq dkX11_drawn_1 4 rfl) ?_
            have h := Option.some.inj h
            subst h
            exact v_iret F E (dq dkX11_drawn_1 5 rfl)
          · rw [if_pos c11] at h
            refine v_aload_n F (dq dkX11_drawn_0 38 rfl) rfl 0 rfl ?_
            refine v_get F 61 (xnM (by decide)) xc_61 rfl inlX11 43 (by decide) (tc13 _ (List.mem_of_getElem? (i := 9) rfl)) rfl rfl (dq dkX11_drawn_0 39 rfl) ?_
            refine v_iload_n F (dq dkX11_drawn_1 0 rfl) rfl 2 rfl ?_
            obtain ⟨g12, h⟩ := gd_of h
            refine v_iald F 85 (xnM (by decide)) xc_85 (ib_in g12) (dq dkX11_drawn_1 1 rfl) ?_
            refine v_goto F (tgt := 83) (dq dkX11_drawn_1 2 rfl) (by decide) ?_
            have h := Option.some.inj h
            subst h
            exact v_iret F E (dq dkX11_drawn_1 5 rfl)
        · rw [if_pos c8] at h
          refine v_sub [] rfl ?_
          exact t_X11_drawn_39 y h F E
  · rw [if_pos c2] at h
    refine v_bipush F (v := (-5)) (dq dkX11_drawn_0 4 rfl) kb_m5 ?_
    have h := Option.some.inj h
    subst h
    exact v_iret F E (dq dkX11_drawn_0 5 rfl)
def rm_X11_image : Room := { frames := 2, cells := 0, slots := 0, locals := 51 }
def f_X11_image_73 : Nat → MS → Int32 → Option (Int32 × MS)
  | 0, _, _ => none
  | n + 1, y, a1 => if 6 ≤ a1 then (some (gi y 61 6, y)) else (gd (ib a1 6) (gd (ib a1 6) ((f_X11_image_73 n) (pi y 76 a1.toNatClampNeg (gi y 70 a1.toNatClampNeg)) (a1 + 1))))
set_option maxRecDepth 100000 in
set_option maxHeartbeats 4000000 in
theorem t_X11_image_73 {C : Cx} {K : KE} {nn : Nat} {x : CS} {R : Int32 × MS}  (F : Fx C RX11 cX11_image 2 rm_X11_image K) (E : CE C (xfM K nn x R.2) (some (.int R.1)) 0 0 (some .int)) : ∀ (n : Nat) (y : MS) (a1 : Int32) (h : f_X11_image_73 n y a1 = some R), V C 73 [(0, .ref (K.1 + 61)), (1, .int a1)] [] (xfM K nn x y) 0 0 := by
  intro n
  induction n with
  | zero => intro y a1 h; cases h
  | succ n ih =>
    intro y a1 h
    rw [f_X11_image_73] at h
    refine v_iload_n F (dq dkX11_image_1 2 rfl) rfl 1 rfl ?_
    refine v_bipush F (v := 6) (dq dkX11_image_1 3 rfl) kb_6 ?_
    refine v_icmp_ge F (tgt := 97) (dq dkX11_image_1 4 rfl) (by decide) (fun c1 => ?_) (fun c1 => ?_)
    · rw [if_pos c1] at h
      refine v_aload_n F (dq dkX11_image_1 15 rfl) rfl 0 rfl ?_
      refine v_get F 61 (xnM (by decide)) xc_61 rfl inlX11 6 (by decide) (tc16 _ (List.mem_of_getElem? (i := 16) rfl)) rfl rfl (dq dkX11_image_1 16 rfl) ?_
      have h := Option.some.inj h
      subst h
      exact v_iret F E (dq dkX11_image_1 17 rfl)
    · rw [if_neg c1] at h
      refine v_aload_n F (dq dkX11_image_1 5 rfl) rfl 0 rfl ?_
      refine v_get F 61 (xnM (by decide)) xc_61 rfl inlX11 27 (by decide) (tc12 _ (List.mem_of_getElem? (i := 11) rfl)) rfl rfl (dq dkX11_image_1 6 rfl) ?_
      refine v_iload_n F (dq dkX11_image_1 7 rfl) rfl 1 rfl ?_
      refine v_aload_n F (dq dkX11_image_1 8 rfl) rfl 0 rfl ?_
      refine v_get F 61 (xnM (by decide)) xc_61 rfl inlX11 15 (by decide) (tc12 _ (List.mem_of_getElem? (i := 4) rfl)) rfl rfl (dq dkX11_image_1 9 rfl) ?_
      refine v_iload_n F (dq dkX11_image_1 10 rfl) rfl 1 rfl ?_
      obtain ⟨g2, h⟩ := gd_of h
      refine v_iald F 70 (xnM (by decide)) xc_70 (ib_in g2) (dq dkX11_image_1 11 rfl) ?_
      obtain ⟨g3, h⟩ := gd_of h
      refine v_iast F 76 (xnM (by decide)) xc_76 (ib_in g3) (dq dkX11_image_1 12 rfl) ?_
      refine v_eqM (xwM (q := 76) (j := a1.toNatClampNeg) (v := gi y 70 a1.toNatClampNeg) (by decide) (by decide) rfl) ?_
      refine v_iinc F (v := a1 + 1) (ls' := [(1, .int (a1 + 1)), (0, .ref (K.1 + 61))]) (dq dkX11_image_1 13 rfl) (j := 1) rfl (kv_add ki_1) (by decide) rfl ?_
      refine v_goto F (tgt := 73) (dq dkX11_image_1 14 rfl) (by decide) ?_
      refine v_sub [1, 0] rfl ?_
      exact ih (pi y 76 a1.toNatClampNeg (gi y 70 a1.toNatClampNeg)) (a1 + 1) h
def f_X11_image_47 : Nat → MS → Int32 → Option (Int32 × MS)
  | 0, _, _ => none
  | n + 1, y, a1 => if 54 ≤ a1 then (f_X11_image_73 1000 y 0) else (gd (ib a1 54) (gd (ib a1 54) ((f_X11_image_47 n) (pi y 75 a1.toNatClampNeg (gi y 62 a1.toNatClampNeg)) (a1 + 1))))
set_option maxRecDepth 100000 in
set_option maxHeartbeats 4000000 in
theorem t_X11_image_47 {C : Cx} {K : KE} {nn : Nat} {x : CS} {R : Int32 × MS}  (F : Fx C RX11 cX11_image 2 rm_X11_image K) (E : CE C (xfM K nn x R.2) (some (.int R.1)) 0 0 (some .int)) : ∀ (n : Nat) (y : MS) (a1 : Int32) (h : f_X11_image_47 n y a1 = some R), V C 47 [(0, .ref (K.1 + 61)), (1, .int a1)] [] (xfM K nn x y) 0 0 := by
  intro n
  induction n with
  | zero => intro y a1 h; cases h
  | succ n ih =>
    intro y a1 h
    rw [f_X11_image_47] at h
    refine v_iload_n F (dq dkX11_image_0 27 rfl) rfl 1 rfl ?_
    refine v_bipush F (v := 54) (dq dkX11_image_0 28 rfl) kb_54 ?_
    refine v_icmp_ge F (tgt := 71) (dq dkX11_image_0 29 rfl) (by decide) (fun c4 => ?_) (fun c4 => ?_)
    · rw [if_pos c4] at h
      refine v_iconst F (v := 0) (dq dkX11_image_1 0 rfl) ki_0 ?_
      refine v_istore_n F (ls' := [(1, .int 0), (0, .ref (K.1 + 61))]) (dq dkX11_image_1 1 rfl) rfl (by decide) rfl ?_
      refine v_sub [1, 0] rfl ?_
      exact t_X11_image_73 F E 1000 y 0 h
    · rw [if_neg c4] at h
      refine v_aload_n F (dq dkX11_image_0 30 rfl) rfl 0 rfl ?_
      refine v_get F 61 (xnM (by decide)) xc_61 rfl inlX11 26 (by decide) (tc12 _ (List.mem_of_getElem? (i := 10) rfl)) rfl rfl (dq dkX11_image_0 31 rfl) ?_
      refine v_iload_n F (dq dkX11_image_0 32 rfl) rfl 1 rfl ?_
      refine v_aload_n F (dq dkX11_image_0 33 rfl) rfl 0 rfl ?_
      refine v_get F 61 (xnM (by decide)) xc_61 rfl inlX11 0 (by decide) (tc11 _ (List.mem_of_getElem? (i := 17) rfl)) rfl rfl (dq dkX11_image_0 34 rfl) ?_
      refine v_iload_n F (dq dkX11_image_0 35 rfl) rfl 1 rfl ?_
      obtain ⟨g5, h⟩ := gd_of h
      refine v_iald F 62 (xnM (by decide)) xc_62 (ib_in g5) (dq dkX11_image_0 36 rfl) ?_
      obtain ⟨g6, h⟩ := gd_of h
      refine v_iast F 75 (xnM (by decide)) xc_75 (ib_in g6) (dq dkX11_image_0 37 rfl) ?_
      refine v_eqM (xwM (q := 75) (j := a1.toNatClampNeg) (v := gi y 62 a1.toNatClampNeg) (by decide) (by decide) rfl) ?_
      refine v_iinc F (v := a1 + 1) (ls' := [(1, .int (a1 + 1)), (0, .ref (K.1 + 61))]) (dq dkX11_image_0 38 rfl) (j := 1) rfl (kv_add ki_1) (by decide) rfl ?_
      refine v_goto F (tgt := 47) (dq dkX11_image_0 39 rfl) (by decide) ?_
      refine v_sub [1, 0] rfl ?_
      exact ih (pi y 75 a1.toNatClampNeg (gi y 62 a1.toNatClampNeg)) (a1 + 1) h
def f_X11_image_23 : Nat → MS → Int32 → Option (Int32 × MS)
  | 0, _, _ => none
  | n + 1, y, a1 => if 5 ≤ a1 then (f_X11_image_47 1000 y 0) else (gd (ib a1 5) ((f_X11_image_23 n) (pi y 74 a1.toNatClampNeg (f_X11_count y a1)) (a1 + 1)))
set_option maxRecDepth 100000 in
set_option maxHeartbeats 4000000 in
theorem t_X11_image_23 {C : Cx} {K : KE} {nn : Nat} {x : CS} {R : Int32 × MS}  (F : Fx C RX11 cX11_image 2 rm_X11_image K) (E : CE C (xfM K nn x R.2) (some (.int R.1)) 0 0 (some .int)) : ∀ (n : Nat) (y : MS) (a1 : Int32) (h : f_X11_image_23 n y a1 = some R), V C 23 [(0, .ref (K.1 + 61)), (1, .int a1)] [] (xfM K nn x y) 0 0 := by
  intro n
  induction n with
  | zero => intro y a1 h; cases h
  | succ n ih =>
    intro y a1 h
    rw [f_X11_image_23] at h
    refine v_iload_n F (dq dkX11_image_0 13 rfl) rfl 1 rfl ?_
    refine v_iconst F (v := 5) (dq dkX11_image_0 14 rfl) ki_5 ?_
    refine v_icmp_ge F (tgt := 45) (dq dkX11_image_0 15 rfl) (by decide) (fun c7 => ?_) (fun c7 => ?_)
    · rw [if_pos c7] at h
      refine v_iconst F (v := 0) (dq dkX11_image_0 25 rfl) ki_0 ?_
      refine v_istore_n F (ls' := [(1, .int 0), (0, .ref (K.1 + 61))]) (dq dkX11_image_0 26 rfl) rfl (by decide) rfl ?_
      refine v_sub [1, 0] rfl ?_
      exact t_X11_image_47 F E 1000 y 0 h
    · rw [if_neg c7] at h
      refine v_aload_n F (dq dkX11_image_0 16 rfl) rfl 0 rfl ?_
      refine v_get F 61 (xnM (by decide)) xc_61 rfl inlX11 25 (by decide) (tc12 _ (List.mem_of_getElem? (i := 9) rfl)) rfl rfl (dq dkX11_image_0 17 rfl) ?_
      refine v_iload_n F (dq dkX11_image_0 18 rfl) rfl 1 rfl ?_
      refine v_aload_n F (dq dkX11_image_0 19 rfl) rfl 0 rfl ?_
      refine v_iload_n F (dq dkX11_image_0 20 rfl) rfl 1 rfl ?_
      refine v_callV 1 F (q := 61) (kc1 := 0) (ks1 := 0) (as := [.int a1]) (st := [.int a1, .ref (K.1 + 74)]) (st1 := (.int (f_X11_count y a1) :: [.int a1, .ref (K.1 + 74)])) (res := (some (.int (f_X11_count y a1)))) (c_X11_count (l := C.2.1) x y a1) (xnM (by decide)) xc_61 rfl (tc16 _ (List.mem_of_getElem? (i := 10) rfl)) (tc16 _ (List.mem_of_getElem? (i := 11) rfl)) (tc16 _ (List.mem_of_getElem? (i := 12) rfl)) (tc1 _ (List.mem_of_getElem? (i := 5) rfl)) (tc16 _ (List.mem_of_getElem? (i := 13) rfl)) (by decide) rfl ⟨rfl, rfl, Nat.le_of_ble_eq_true rfl, Nat.le_of_ble_eq_true rfl⟩ ⟨Nat.le_of_ble_eq_true rfl, Nat.le_of_ble_eq_true rfl⟩ rfl (Nat.le_of_ble_eq_true rfl) rfl rfl rfl (dq dkX11_image_0 21 rfl) ?_
      obtain ⟨g9, h⟩ := gd_of h
      refine v_iast F 74 (xnM (by decide)) xc_74 (ib_in g9) (dq dkX11_image_0 22 rfl) ?_
      refine v_eqM (xwM (q := 74) (j := a1.toNatClampNeg) (v := (f_X11_count y a1)) (by decide) (by decide) rfl) ?_
      refine v_iinc F (v := a1 + 1) (ls' := [(1, .int (a1 + 1)), (0, .ref (K.1 + 61))]) (dq dkX11_image_0 23 rfl) (j := 1) rfl (kv_add ki_1) (by decide) rfl ?_
      refine v_goto F (tgt := 23) (dq dkX11_image_0 24 rfl) (by decide) ?_
      refine v_sub [1, 0] rfl ?_
      exact ih (pi y 74 a1.toNatClampNeg (f_X11_count y a1)) (a1 + 1) h
def f_X11_image (y : MS) : Option (Int32 × MS) := f_X11_image_23 1000 (pi (pi (pi y 61 22 1) 61 23 (gi (pi y 61 22 1) 61 10)) 61 24 (gi (pi (pi y 61 22 1) 61 23 (gi (pi y 61 22 1) 61 10)) 61 21)) 0
set_option maxRecDepth 100000 in
set_option maxHeartbeats 4000000 in
theorem c_X11_image {K : KE} {l : Launch} {R : Int32 × MS} {nn : Nat} (x : CS) (y : MS) (h : f_X11_image y = some R) : MC K l yX11_image cX11_image 2 (some .int) rm_X11_image 0 0 [.ref (K.1 + 61)] (xfM K nn x y) (xfM K nn x R.2) (some (.int R.1)) := by
  unfold f_X11_image at h
  refine mc_of (ls0 := [(0, .ref (K.1 + 61))]) (by decide) (Nat.le_of_ble_eq_true rfl) rfl (fun C hl hnm F E => ?_)
  have F : Fx C RX11 cX11_image 2 rm_X11_image K := F
  refine v_aload_n F (dq dkX11_image_0 0 rfl) rfl 0 rfl ?_
  refine v_iconst F (v := 1) (dq dkX11_image_0 1 rfl) ki_1 ?_
  refine v_put F 61 (xnM (by decide)) xc_61 rfl inlX11 tyX11_ok nmX11 22 (by decide) (tc50 _ (List.mem_of_getElem? (i := 22) rfl)) rfl rfl (tyX11_ok 22 (by decide)) (b2i_n true) rfl (Nat.le_of_ble_eq_true rfl) (dq dkX11_image_0 2 rfl) ?_
  refine v_eqM (xwM (q := 61) (j := 22) (v := 1) (by decide) (by decide) rfl) ?_
  refine v_aload_n F (dq dkX11_image_0 3 rfl) rfl 0 rfl ?_
  refine v_aload_n F (dq dkX11_image_0 4 rfl) rfl 0 rfl ?_
  refine v_get F 61 (xnM (by decide)) xc_61 rfl inlX11 10 (by decide) (tc16 _ (List.mem_of_getElem? (i := 17) rfl)) rfl rfl (dq dkX11_image_0 5 rfl) ?_
  refine v_put F 61 (xnM (by decide)) xc_61 rfl inlX11 tyX11_ok nmX11 23 (by decide) (tc50 _ (List.mem_of_getElem? (i := 23) rfl)) rfl rfl (tyX11_ok 23 (by decide)) rfl rfl (Nat.le_of_ble_eq_true rfl) (dq dkX11_image_0 6 rfl) ?_
  refine v_eqM (xwM (q := 61) (j := 23) (v := gi (pi y 61 22 1) 61 10) (by decide) (by decide) rfl) ?_
  refine v_aload_n F (dq dkX11_image_0 7 rfl) rfl 0 rfl ?_
  refine v_aload_n F (dq dkX11_image_0 8 rfl) rfl 0 rfl ?_
  refine v_get F 61 (xnM (by decide)) xc_61 rfl inlX11 21 (by decide) (tc16 _ (List.mem_of_getElem? (i := 18) rfl)) rfl rfl (dq dkX11_image_0 9 rfl) ?_
  refine v_put F 61 (xnM (by decide)) xc_61 rfl inlX11 tyX11_ok nmX11 24 (by decide) (tc51 _ (List.mem_of_getElem? (i := 0) rfl)) rfl rfl (tyX11_ok 24 (by decide)) rfl rfl (Nat.le_of_ble_eq_true rfl) (dq dkX11_image_0 10 rfl) ?_
  refine v_eqM (xwM (q := 61) (j := 24) (v := gi (pi (pi y 61 22 1) 61 23 (gi (pi y 61 22 1) 61 10)) 61 21) (by decide) (by decide) rfl) ?_
  refine v_iconst F (v := 0) (dq dkX11_image_0 11 rfl) ki_0 ?_
  refine v_istore_n F (ls' := [(1, .int 0), (0, .ref (K.1 + 61))]) (dq dkX11_image_0 12 rfl) rfl (by decide) rfl ?_
  refine v_sub [1, 0] rfl ?_
  exact t_X11_image_23 F E 1000 (pi (pi (pi y 61 22 1) 61 23 (gi (pi y 61 22 1) 61 10)) 61 24 (gi (pi (pi y 61 22 1) 61 23 (gi (pi y 61 22 1) 61 10)) 61 21)) 0 h
def rm_X11_back : Room := { frames := 2, cells := 0, slots := 0, locals := 52 }
def f_X11_back_70 : Nat → MS → Int32 → Option (Int32 × MS)
  | 0, _, _ => none
  | n + 1, y, a1 => if (gi y 61 23) ≤ a1 then (some (gi y 61 6, y)) else (gd (ib a1 6) (gd (ib a1 6) ((f_X11_back_70 n) (pi y 70 a1.toNatClampNeg (gi y 76 a1.toNatClampNeg)) (a1 + 1))))
set_option maxRecDepth 100000 in
set_option maxHeartbeats 4000000 in
theorem t_X11_back_70 {C : Cx} {K : KE} {nn : Nat} {x : CS} {R : Int32 × MS}  (F : Fx C RX11 cX11_back 2 rm_X11_back K) (E : CE C (xfM K nn x R.2) (some (.int R.1)) 0 0 (some .int)) : ∀ (n : Nat) (y : MS) (a1 : Int32) (h : f_X11_back_70 n y a1 = some R), V C 70 [(0, .ref (K.1 + 61)), (1, .int a1)] [] (xfM K nn x y) 0 0 := by
  intro n
  induction n with
  | zero => intro y a1 h; cases h
  | succ n ih =>
    intro y a1 h
    rw [f_X11_back_70] at h
    refine v_iload_n F (dq dkX11_back_1 0 rfl) rfl 1 rfl ?_
    refine v_aload_n F (dq dkX11_back_1 1 rfl) rfl 0 rfl ?_
    refine v_get F 61 (xnM (by decide)) xc_61 rfl inlX11 23 (by decide) (tc50 _ (List.mem_of_getElem? (i := 23) rfl)) rfl rfl (dq dkX11_back_1 2 rfl) ?_
    refine v_icmp_ge F (tgt := 96) (dq dkX11_back_1 3 rfl) (by decide) (fun c1 => ?_) (fun c1 => ?_)
    · rw [if_pos c1] at h
      refine v_aload_n F (dq dkX11_back_1 14 rfl) rfl 0 rfl ?_
      refine v_get F 61 (xnM (by decide)) xc_61 rfl inlX11 6 (by decide) (tc16 _ (List.mem_of_getElem? (i := 16) rfl)) rfl rfl (dq dkX11_back_1 15 rfl) ?_
      have h := Option.some.inj h
      subst h
      exact v_iret F E (dq dkX11_back_1 16 rfl)
    · rw [if_neg c1] at h
      refine v_aload_n F (dq dkX11_back_1 4 rfl) rfl 0 rfl ?_
      refine v_get F 61 (xnM (by decide)) xc_61 rfl inlX11 15 (by decide) (tc12 _ (List.mem_of_getElem? (i := 4) rfl)) rfl rfl (dq dkX11_back_1 5 rfl) ?_
      refine v_iload_n F (dq dkX11_back_1 6 rfl) rfl 1 rfl ?_
      refine v_aload_n F (dq dkX11_back_1 7 rfl) rfl 0 rfl ?_
      refine v_get F 61 (xnM (by decide)) xc_61 rfl inlX11 27 (by decide) (tc12 _ (List.mem_of_getElem? (i := 11) rfl)) rfl rfl (dq dkX11_back_1 8 rfl) ?_
      refine v_iload_n F (dq dkX11_back_1 9 rfl) rfl 1 rfl ?_
      obtain ⟨g2, h⟩ := gd_of h
      refine v_iald F 76 (xnM (by decide)) xc_76 (ib_in g2) (dq dkX11_back_1 10 rfl) ?_
      obtain ⟨g3, h⟩ := gd_of h
      refine v_iast F 70 (xnM (by decide)) xc_70 (ib_in g3) (dq dkX11_back_1 11 rfl) ?_
      refine v_eqM (xwM (q := 70) (j := a1.toNatClampNeg) (v := gi y 76 a1.toNatClampNeg) (by decide) (by decide) rfl) ?_
      refine v_iinc F (v := a1 + 1) (ls' := [(1, .int (a1 + 1)), (0, .ref (K.1 + 61))]) (dq dkX11_back_1 12 rfl) (j := 1) rfl (kv_add ki_1) (by decide) rfl ?_
      refine v_goto F (tgt := 70) (dq dkX11_back_1 13 rfl) (by decide) ?_
      refine v_sub [1, 0] rfl ?_
      exact ih (pi y 70 a1.toNatClampNeg (gi y 76 a1.toNatClampNeg)) (a1 + 1) h
def f_X11_back_44 : Nat → MS → Int32 → Option (Int32 × MS)
  | 0, _, _ => none
  | n + 1, y, a1 => if 54 ≤ a1 then (f_X11_back_70 1000 y 0) else (gd (ib a1 54) (gd (ib a1 54) ((f_X11_back_44 n) (pi y 62 a1.toNatClampNeg (gi y 75 a1.toNatClampNeg)) (a1 + 1))))
set_option maxRecDepth 100000 in
set_option maxHeartbeats 4000000 in
theorem t_X11_back_44 {C : Cx} {K : KE} {nn : Nat} {x : CS} {R : Int32 × MS}  (F : Fx C RX11 cX11_back 2 rm_X11_back K) (E : CE C (xfM K nn x R.2) (some (.int R.1)) 0 0 (some .int)) : ∀ (n : Nat) (y : MS) (a1 : Int32) (h : f_X11_back_44 n y a1 = some R), V C 44 [(0, .ref (K.1 + 61)), (1, .int a1)] [] (xfM K nn x y) 0 0 := by
  intro n
  induction n with
  | zero => intro y a1 h; cases h
  | succ n ih =>
    intro y a1 h
    rw [f_X11_back_44] at h
    refine v_iload_n F (dq dkX11_back_0 25 rfl) rfl 1 rfl ?_
    refine v_bipush F (v := 54) (dq dkX11_back_0 26 rfl) kb_54 ?_
    refine v_icmp_ge F (tgt := 68) (dq dkX11_back_0 27 rfl) (by decide) (fun c4 => ?_) (fun c4 => ?_)
    · rw [if_pos c4] at h
      refine v_iconst F (v := 0) (dq dkX11_back_0 38 rfl) ki_0 ?_
      refine v_istore_n F (ls' := [(1, .int 0), (0, .ref (K.1 + 61))]) (dq dkX11_back_0 39 rfl) rfl (by decide) rfl ?_
      refine v_sub [1, 0] rfl ?_
      exact t_X11_back_70 F E 1000 y 0 h
    · rw [if_neg c4] at h
      refine v_aload_n F (dq dkX11_back_0 28 rfl) rfl 0 rfl ?_
      refine v_get F 61 (xnM (by decide)) xc_61 rfl inlX11 0 (by decide) (tc11 _ (List.mem_of_getElem? (i := 17) rfl)) rfl rfl (dq dkX11_back_0 29 rfl) ?_
      refine v_iload_n F (dq dkX11_back_0 30 rfl) rfl 1 rfl ?_
      refine v_aload_n F (dq dkX11_back_0 31 rfl) rfl 0 rfl ?_
      refine v_get F 61 (xnM (by decide)) xc_61 rfl inlX11 26 (by decide) (tc12 _ (List.mem_of_getElem? (i := 10) rfl)) rfl rfl (dq dkX11_back_0 32 rfl) ?_
      refine v_iload_n F (dq dkX11_back_0 33 rfl) rfl 1 rfl ?_
      obtain ⟨g5, h⟩ := gd_of h
      refine v_iald F 75 (xnM (by decide)) xc_75 (ib_in g5) (dq dkX11_back_0 34 rfl) ?_
      obtain ⟨g6, h⟩ := gd_of h
      refine v_iast F 62 (xnM (by decide)) xc_62 (ib_in g6) (dq dkX11_back_0 35 rfl) ?_
      refine v_eqM (xwM (q := 62) (j := a1.toNatClampNeg) (v := gi y 75 a1.toNatClampNeg) (by decide) (by decide) rfl) ?_
      refine v_iinc F (v := a1 + 1) (ls' := [(1, .int (a1 + 1)), (0, .ref (K.1 + 61))]) (dq dkX11_back_0 36 rfl) (j := 1) rfl (kv_add ki_1) (by decide) rfl ?_
      refine v_goto F (tgt := 44) (dq dkX11_back_0 37 rfl) (by decide) ?_
      refine v_sub [1, 0] rfl ?_
      exact ih (pi y 62 a1.toNatClampNeg (gi y 75 a1.toNatClampNeg)) (a1 + 1) h
def f_X11_back_20 : Nat → MS → Int32 → Option (Int32 × MS)
  | 0, _, _ => none
  | n + 1, y, a1 => if 5 ≤ a1 then (f_X11_back_44 1000 y 0) else (gd (ib a1 5) ((f_X11_back_20 n) (f_X11_holds y a1 (gi y 74 a1.toNatClampNeg)) (a1 + 1)))
set_option maxRecDepth 100000 in
set_option maxHeartbeats 4000000 in
theorem t_X11_back_20 {C : Cx} {K : KE} {nn : Nat} {x : CS} {R : Int32 × MS}  (F : Fx C RX11 cX11_back 2 rm_X11_back K) (E : CE C (xfM K nn x R.2) (some (.int R.1)) 0 0 (some .int)) : ∀ (n : Nat) (y : MS) (a1 : Int32) (h : f_X11_back_20 n y a1 = some R), V C 20 [(0, .ref (K.1 + 61)), (1, .int a1)] [] (xfM K nn x y) 0 0 := by
  intro n
  induction n with
  | zero => intro y a1 h; cases h
  | succ n ih =>
    intro y a1 h
    rw [f_X11_back_20] at h
    refine v_iload_n F (dq dkX11_back_0 11 rfl) rfl 1 rfl ?_
    refine v_iconst F (v := 5) (dq dkX11_back_0 12 rfl) ki_5 ?_
    refine v_icmp_ge F (tgt := 42) (dq dkX11_back_0 13 rfl) (by decide) (fun c7 => ?_) (fun c7 => ?_)
    · rw [if_pos c7] at h
      refine v_iconst F (v := 0) (dq dkX11_back_0 23 rfl) ki_0 ?_
      refine v_istore_n F (ls' := [(1, .int 0), (0, .ref (K.1 + 61))]) (dq dkX11_back_0 24 rfl) rfl (by decide) rfl ?_
      refine v_sub [1, 0] rfl ?_
      exact t_X11_back_44 F E 1000 y 0 h
    · rw [if_neg c7] at h
      refine v_aload_n F (dq dkX11_back_0 14 rfl) rfl 0 rfl ?_
      refine v_iload_n F (dq dkX11_back_0 15 rfl) rfl 1 rfl ?_
      refine v_aload_n F (dq dkX11_back_0 16 rfl) rfl 0 rfl ?_
      refine v_get F 61 (xnM (by decide)) xc_61 rfl inlX11 25 (by decide) (tc12 _ (List.mem_of_getElem? (i := 9) rfl)) rfl rfl (dq dkX11_back_0 17 rfl) ?_
      refine v_iload_n F (dq dkX11_back_0 18 rfl) rfl 1 rfl ?_
      obtain ⟨g8, h⟩ := gd_of h
      refine v_iald F 74 (xnM (by decide)) xc_74 (ib_in g8) (dq dkX11_back_0 19 rfl) ?_
      refine v_callV 2 F (q := 61) (kc1 := 0) (ks1 := 0) (as := [.int a1, .int (gi y 74 a1.toNatClampNeg)]) (st := []) (st1 := []) (res := none) (c_X11_holds (l := C.2.1) x y a1 (gi y 74 a1.toNatClampNeg)) (xnM (by decide)) xc_61 rfl (tc16 _ (List.mem_of_getElem? (i := 20) rfl)) (tc16 _ (List.mem_of_getElem? (i := 21) rfl)) (tc16 _ (List.mem_of_getElem? (i := 22) rfl)) (tc1 _ (List.mem_of_getElem? (i := 5) rfl)) (tc16 _ (List.mem_of_getElem? (i := 23) rfl)) (by decide) rfl ⟨rfl, rfl, Nat.le_of_ble_eq_true rfl, Nat.le_of_ble_eq_true rfl⟩ ⟨Nat.le_of_ble_eq_true rfl, Nat.le_of_ble_eq_true rfl⟩ rfl (Nat.le_of_ble_eq_true rfl) rfl rfl rfl (dq dkX11_back_0 20 rfl) ?_
      refine v_iinc F (v := a1 + 1) (ls' := [(1, .int (a1 + 1)), (0, .ref (K.1 + 61))]) (dq dkX11_back_0 21 rfl) (j := 1) rfl (kv_add ki_1) (by decide) rfl ?_
      refine v_goto F (tgt := 20) (dq dkX11_back_0 22 rfl) (by decide) ?_
      refine v_sub [1, 0] rfl ?_
      exact ih (f_X11_holds y a1 (gi y 74 a1.toNatClampNeg)) (a1 + 1) h
def f_X11_back (y : MS) : Option (Int32 × MS) := if (gi y 61 22) = 0 then (some ((-3), y)) else (f_X11_back_20 1000 (pi y 61 21 (gi y 61 24)) 0)
set_option maxRecDepth 100000 in
set_option maxHeartbeats 4000000 in
theorem c_X11_back {K : KE} {l : Launch} {R : Int32 × MS} {nn : Nat} (x : CS) (y : MS) (h : f_X11_back y = some R) : MC K l yX11_back cX11_back 2 (some .int) rm_X11_back 0 0 [.ref (K.1 + 61)] (xfM K nn x y) (xfM K nn x R.2) (some (.int R.1)) := by
  unfold f_X11_back at h
  refine mc_of (ls0 := [(0, .ref (K.1 + 61))]) (by decide) (Nat.le_of_ble_eq_true rfl) rfl (fun C hl hnm F E => ?_)
  have F : Fx C RX11 cX11_back 2 rm_X11_back K := F
  refine v_aload_n F (dq dkX11_back_0 0 rfl) rfl 0 rfl ?_
  refine v_get F 61 (xnM (by decide)) xc_61 rfl inlX11 22 (by decide) (tc50 _ (List.mem_of_getElem? (i := 22) rfl)) rfl rfl (dq dkX11_back_0 1 rfl) ?_
  refine v_if_ne F (tgt := 10) (dq dkX11_back_0 2 rfl) (by decide) (fun c10 => ?_) (fun c10 => ?_)
  · rw [if_neg c10] at h
    refine v_aload_n F (dq dkX11_back_0 5 rfl) rfl 0 rfl ?_
    refine v_aload_n F (dq dkX11_back_0 6 rfl) rfl 0 rfl ?_
    refine v_get F 61 (xnM (by decide)) xc_61 rfl inlX11 24 (by decide) (tc51 _ (List.mem_of_getElem? (i := 0) rfl)) rfl rfl (dq dkX11_back_0 7 rfl) ?_
    refine v_put F 61 (xnM (by decide)) xc_61 rfl inlX11 tyX11_ok nmX11 21 (by decide) (tc16 _ (List.mem_of_getElem? (i := 18) rfl)) rfl rfl (tyX11_ok 21 (by decide)) rfl rfl (Nat.le_of_ble_eq_true rfl) (dq dkX11_back_0 8 rfl) ?_
    refine v_eqM (xwM (q := 61) (j := 21) (v := gi y 61 24) (by decide) (by decide) rfl) ?_
    refine v_iconst F (v := 0) (dq dkX11_back_0 9 rfl) ki_0 ?_
    refine v_istore_n F (ls' := [(1, .int 0), (0, .ref (K.1 + 61))]) (dq dkX11_back_0 10 rfl) rfl (by decide) rfl ?_
    refine v_sub [1, 0] rfl ?_
    exact t_X11_back_20 F E 1000 (pi y 61 21 (gi y 61 24)) 0 h
  · rw [if_pos c10] at h
    refine v_bipush F (v := (-3)) (dq dkX11_back_0 3 rfl) kb_m3 ?_
    have h := Option.some.inj h
    subst h
    exact v_iret F E (dq dkX11_back_0 4 rfl)
def rm_X11_sheet : Room := { frames := 2, cells := 0, slots := 0, locals := 52 }
def f_X11_sheet_29 (y : MS) : Option (Int32 × MS) := some ((-2), y)
set_option maxRecDepth 100000 in
set_option maxHeartbeats 4000000 in
theorem t_X11_sheet_29 {C : Cx} {K : KE} {nn : Nat} {x : CS} {R : Int32 × MS}  (y : MS) (h : f_X11_sheet_29 y = some R) (F : Fx C RX11 cX11_sheet 5 rm_X11_sheet K) (E : CE C (xfM K nn x R.2) (some (.int R.1)) 0 0 (some .int)) : V C 29 [] [] (xfM K nn x y) 0 0 := by
  unfold f_X11_sheet_29 at h
  refine v_bipush F (v := (-2)) (dq dkX11_sheet_0 16 rfl) kb_m2 ?_
  have h := Option.some.inj h
  subst h
  exact v_iret F E (dq dkX11_sheet_0 17 rfl)
def f_X11_sheet_70 : Nat → MS → Int32 → Int32 → Option (Int32 × MS)
  | 0, _, _, _ => none
  | n + 1, y, a1, a4 => if 40 ≤ a4 then (some (1, y)) else (gd (ib ((40 * a1) + a4) 160) ((f_X11_sheet_70 n) (pi y 79 (((40 * a1) + a4).toNatClampNeg) 0) a1 (a4 + 1)))
set_option maxRecDepth 100000 in
set_option maxHeartbeats 4000000 in
theorem t_X11_sheet_70 {C : Cx} {K : KE} {nn : Nat} {x : CS} {R : Int32 × MS}  (F : Fx C RX11 cX11_sheet 5 rm_X11_sheet K) (E : CE C (xfM K nn x R.2) (some (.int R.1)) 0 0 (some .int)) : ∀ (n : Nat) (y : MS) (a1 : Int32) (a4 : Int32) (h : f_X11_sheet_70 n y a1 a4 = some R), V C 70 [(0, .ref (K.1 + 61)), (1, .int a1), (4, .int a4)] [] (xfM K nn x y) 0 0 := by
  intro n
  induction n with
  | zero => intro y a1 a4 h; cases h
  | succ n ih =>
    intro y a1 a4 h
    rw [f_X11_sheet_70] at h
    refine v_iload F (dq dkX11_sheet_1 2 rfl) 2 rfl ?_
    refine v_bipush F (v := 40) (dq dkX11_sheet_1 3 rfl) kb_40 ?_
    refine v_icmp_ge F (tgt := 96) (dq dkX11_sheet_1 4 rfl) (by decide) (fun c1 => ?_) (fun c1 => ?_)
    · rw [if_pos c1] at h
      refine v_iconst F (v := 1) (dq dkX11_sheet_1 16 rfl) ki_1 ?_
      have h := Option.some.inj h
      subst h
      exact v_iret F E (dq dkX11_sheet_1 17 rfl)
    · rw [if_neg c1] at h
      refine v_aload_n F (dq dkX11_sheet_1 5 rfl) rfl 0 rfl ?_
      refine v_get F 61 (xnM (by decide)) xc_61 rfl inlX11 30 (by decide) (tc12 _ (List.mem_of_getElem? (i := 14) rfl)) rfl rfl (dq dkX11_sheet_1 6 rfl) ?_
      refine v_bipush F (v := 40) (dq dkX11_sheet_1 7 rfl) kb_40 ?_
      refine v_iload_n F (dq dkX11_sheet_1 8 rfl) rfl 1 rfl ?_
      refine v_imul F (dq dkX11_sheet_1 9 rfl) ?_
      refine v_iload F (dq dkX11_sheet_1 10 rfl) 2 rfl ?_
      refine v_iadd F (dq dkX11_sheet_1 11 rfl) ?_
      refine v_iconst F (v := 0) (dq dkX11_sheet_1 12 rfl) ki_0 ?_
      obtain ⟨g2, h⟩ := gd_of h
      refine v_iast F 79 (xnM (by decide)) xc_79 (ib_in g2) (dq dkX11_sheet_1 13 rfl) ?_
      refine v_eqM (xwM (q := 79) (j := ((40 * a1) + a4).toNatClampNeg) (v := 0) (by decide) (by decide) rfl) ?_
      refine v_iinc F (v := a4 + 1) (ls' := [(4, .int (a4 + 1)), (0, .ref (K.1 + 61)), (1, .int a1)]) (dq dkX11_sheet_1 14 rfl) (j := 2) rfl (kv_add ki_1) (by decide) rfl ?_
      refine v_goto F (tgt := 70) (dq dkX11_sheet_1 15 rfl) (by decide) ?_
      refine v_sub [1, 2, 0] rfl ?_
      exact ih (pi y 79 (((40 * a1) + a4).toNatClampNeg) 0) a1 (a4 + 1) h
def f_X11_sheet_66 (y : MS) (a1 : Int32) (s0 : Int32) (s1 : Int32) : Option (Int32 × MS) := gd (ib s1 4) (f_X11_sheet_70 1000 (pi y 78 s1.toNatClampNeg s0) a1 0)
set_option maxRecDepth 100000 in
set_option maxHeartbeats 4000000 in
theorem t_X11_sheet_66 {C : Cx} {K : KE} {nn : Nat} {x : CS} {R : Int32 × MS}  (y : MS) (a1 : Int32) (s0 : Int32) (s1 : Int32) (h : f_X11_sheet_66 y a1 s0 s1 = some R) (F : Fx C RX11 cX11_sheet 5 rm_X11_sheet K) (E : CE C (xfM K nn x R.2) (some (.int R.1)) 0 0 (some .int)) : V C 66 [(0, .ref (K.1 + 61)), (1, .int a1)] [.int s0, .int s1, .ref (K.1 + 78)] (xfM K nn x y) 0 0 := by
  unfold f_X11_sheet_66 at h
  obtain ⟨g3, h⟩ := gd_of h
  refine v_iast F 78 (xnM (by decide)) xc_78 (ib_in g3) (dq dkX11_sheet_0 39 rfl) ?_
  refine v_eqM (xwM (q := 78) (j := s1.toNatClampNeg) (v := s0) (by decide) (by decide) rfl) ?_
  refine v_iconst F (v := 0) (dq dkX11_sheet_1 0 rfl) ki_0 ?_
  refine v_istore F (ls' := [(4, .int 0), (0, .ref (K.1 + 61)), (1, .int a1)]) (dq dkX11_sheet_1 1 rfl) (by decide) rfl ?_
  refine v_sub [1, 2, 0] rfl ?_
  exact t_X11_sheet_70 F E 1000 (pi y 78 s1.toNatClampNeg s0) a1 0 h
def f_X11_sheet_44 (y : MS) (a1 : Int32) (a2 : Int32) (a3 : Int32) : Option (Int32 × MS) := gd (ib a1 4) (if a2 = (-1) then (f_X11_sheet_66 (pi y 77 a1.toNatClampNeg a2) a1 0 a1) else (f_X11_sheet_66 (pi y 77 a1.toNatClampNeg a2) a1 a3 a1))
set_option maxRecDepth 100000 in
set_option maxHeartbeats 4000000 in
theorem t_X11_sheet_44 {C : Cx} {K : KE} {nn : Nat} {x : CS} {R : Int32 × MS}  (y : MS) (a1 : Int32) (a2 : Int32) (a3 : Int32) (h : f_X11_sheet_44 y a1 a2 a3 = some R) (F : Fx C RX11 cX11_sheet 5 rm_X11_sheet K) (E : CE C (xfM K nn x R.2) (some (.int R.1)) 0 0 (some .int)) : V C 44 [(0, .ref (K.1 + 61)), (1, .int a1), (2, .int a2), (3, .int a3)] [] (xfM K nn x y) 0 0 := by
  unfold f_X11_sheet_44 at h
  refine v_aload_n F (dq dkX11_sheet_0 25 rfl) rfl 0 rfl ?_
  refine v_get F 61 (xnM (by decide)) xc_61 rfl inlX11 28 (by decide) (tc12 _ (List.mem_of_getElem? (i := 12) rfl)) rfl rfl (dq dkX11_sheet_0 26 rfl) ?_
  refine v_iload_n F (dq dkX11_sheet_0 27 rfl) rfl 1 rfl ?_
  refine v_iload_n F (dq dkX11_sheet_0 28 rfl) rfl 2 rfl ?_
  obtain ⟨g4, h⟩ := gd_of h
  refine v_iast F 77 (xnM (by decide)) xc_77 (ib_in g4) (dq dkX11_sheet_0 29 rfl) ?_
  refine v_eqM (xwM (q := 77) (j := a1.toNatClampNeg) (v := a2) (by decide) (by decide) rfl) ?_
  refine v_aload_n F (dq dkX11_sheet_0 30 rfl) rfl 0 rfl ?_
  refine v_get F 61 (xnM (by decide)) xc_61 rfl inlX11 29 (by decide) (tc12 _ (List.mem_of_getElem? (i := 13) rfl)) rfl rfl (dq dkX11_sheet_0 31 rfl) ?_
  refine v_iload_n F (dq dkX11_sheet_0 32 rfl) rfl 1 rfl ?_
  refine v_iload_n F (dq dkX11_sheet_0 33 rfl) rfl 2 rfl ?_
  refine v_iconst F (v := (-1)) (dq dkX11_sheet_0 34 rfl) ki_m1 ?_
  refine v_icmp_ne F (tgt := 65) (dq dkX11_sheet_0 35 rfl) (by decide) (fun c5 => ?_) (fun c5 => ?_)
  · rw [if_neg c5] at h
    refine v_iload_n F (dq dkX11_sheet_0 38 rfl) rfl 3 rfl ?_
    refine v_sub [0, 1] rfl ?_
    exact t_X11_sheet_66 (pi y 77 a1.toNatClampNeg a2) a1 a3 a1 h F E
  · rw [if_pos c5] at h
    refine v_iconst F (v := 0) (dq dkX11_sheet_0 36 rfl) ki_0 ?_
    refine v_goto F (tgt := 66) (dq dkX11_sheet_0 37 rfl) (by decide) ?_
    refine v_sub [0, 1] rfl ?_
    exact t_X11_sheet_66 (pi y 77 a1.toNatClampNeg a2) a1 0 a1 h F E
def f_X11_sheet_32 (y : MS) (a1 : Int32) (a2 : Int32) (a3 : Int32) : Option (Int32 × MS) := if a2 = (-1) then (f_X11_sheet_44 y a1 a2 a3) else (if 0 ≤ a3 then (f_X11_sheet_44 y a1 a2 a3) else (some ((-14), y)))
set_option maxRecDepth 100000 in
set_option maxHeartbeats 4000000 in
theorem t_X11_sheet_32 {C : Cx} {K : KE} {nn : Nat} {x : CS} {R : Int32 × MS}  (y : MS) (a1 : Int32) (a2 : Int32) (a3 : Int32) (h : f_X11_sheet_32 y a1 a2 a3 = some R) (F : Fx C RX11 cX11_sheet 5 rm_X11_sheet K) (E : CE C (xfM K nn x R.2) (some (.int R.1)) 0 0 (some .int)) : V C 32 [(0, .ref (K.1 + 61)), (1, .int a1), (2, .int a2), (3, .int a3)] [] (xfM K nn x y) 0 0 := by
  unfold f_X11_sheet_32 at h
  refine v_iload_n F (dq dkX11_sheet_0 18 rfl) rfl 2 rfl ?_
  refine v_iconst F (v := (-1)) (dq dkX11_sheet_0 19 rfl) ki_m1 ?_
  refine v_icmp_eq F (tgt := 44) (dq dkX11_sheet_0 20 rfl) (by decide) (fun c6 => ?_) (fun c6 => ?_)
  · rw [if_pos c6] at h
    exact t_X11_sheet_44 y a1 a2 a3 h F E
  · rw [if_neg c6] at h
    refine v_iload_n F (dq dkX11_sheet_0 21 rfl) rfl 3 rfl ?_
    refine v_if_ge F (tgt := 44) (dq dkX11_sheet_0 22 rfl) (by decide) (fun c7 => ?_) (fun c7 => ?_)
    · rw [if_pos c7] at h
      exact t_X11_sheet_44 y a1 a2 a3 h F E
    · rw [if_neg c7] at h
      refine v_bipush F (v := (-14)) (dq dkX11_sheet_0 23 rfl) kb_m14 ?_
      have h := Option.some.inj h
      subst h
      exact v_iret F E (dq dkX11_sheet_0 24 rfl)
def f_X11_sheet (y : MS) (a1 : Int32) (a2 : Int32) (a3 : Int32) : Option (Int32 × MS) := if (b2i (f_X11_in a1 0 3)) = 0 then (f_X11_sheet_29 y) else (if (b2i (f_X11_in a2 (-1) 2)) = 0 then (f_X11_sheet_29 y) else (if a2 = (-1) then (f_X11_sheet_32 y a1 a2 a3) else (if a3 ≤ 40 then (f_X11_sheet_32 y a1 a2 a3) else (f_X11_sheet_29 y))))
set_option maxRecDepth 100000 in
set_option maxHeartbeats 4000000 in
theorem c_X11_sheet {K : KE} {l : Launch} {R : Int32 × MS} {nn : Nat} (x : CS) (y : MS) (a1 : Int32) (a2 : Int32) (a3 : Int32) (h : f_X11_sheet y a1 a2 a3 = some R) : MC K l yX11_sheet cX11_sheet 5 (some .int) rm_X11_sheet 0 0 [.ref (K.1 + 61), .int a1, .int a2, .int a3] (xfM K nn x y) (xfM K nn x R.2) (some (.int R.1)) := by
  unfold f_X11_sheet at h
  refine mc_of (ls0 := [(0, .ref (K.1 + 61)), (1, .int a1), (2, .int a2), (3, .int a3)]) (by decide) (Nat.le_of_ble_eq_true rfl) rfl (fun C hl hnm F E => ?_)
  have F : Fx C RX11 cX11_sheet 5 rm_X11_sheet K := F
  refine v_iload_n F (dq dkX11_sheet_0 0 rfl) rfl 1 rfl ?_
  refine v_iconst F (v := 0) (dq dkX11_sheet_0 1 rfl) ki_0 ?_
  refine v_iconst F (v := 3) (dq dkX11_sheet_0 2 rfl) ki_3 ?_
  refine v_callS 3 F (kc1 := 0) (ks1 := 0) (as := [.int a1, .int 0, .int 3]) (st := []) (st1 := (.int (b2i (f_X11_in a1 0 3)) :: [])) (res := (some (.int (b2i (f_X11_in a1 0 3))))) (c_X11_in (l := C.2.1) a1 0 3) (tc15 _ (List.mem_of_getElem? (i := 1) rfl)) (tc15 _ (List.mem_of_getElem? (i := 2) rfl)) (tc1 _ (List.mem_of_getElem? (i := 5) rfl)) (tc15 _ (List.mem_of_getElem? (i := 3) rfl)) (by decide) rfl ⟨rfl, rfl, Nat.le_of_ble_eq_true rfl, Nat.le_of_ble_eq_true rfl⟩ ⟨Nat.le_of_ble_eq_true rfl, Nat.le_of_ble_eq_true rfl⟩ rfl (Nat.le_of_ble_eq_true rfl) rfl rfl rfl (dq dkX11_sheet_0 3 rfl) ?_
  refine v_if_eq F (tgt := 29) (dq dkX11_sheet_0 4 rfl) (by decide) (fun c9 => ?_) (fun c9 => ?_)
  · rw [if_pos c9] at h
    refine v_sub [] rfl ?_
    exact t_X11_sheet_29 y h F E
  · rw [if_neg c9] at h
    refine v_iload_n F (dq dkX11_sheet_0 5 rfl) rfl 2 rfl ?_
    refine v_iconst F (v := (-1)) (dq dkX11_sheet_0 6 rfl) ki_m1 ?_
    refine v_iconst F (v := 2) (dq dkX11_sheet_0 7 rfl) ki_2 ?_
    refine v_callS 3 F (kc1 := 0) (ks1 := 0) (as := [.int a2, .int (-1), .int 2]) (st := []) (st1 := (.int (b2i (f_X11_in a2 (-1) 2)) :: [])) (res := (some (.int (b2i (f_X11_in a2 (-1) 2))))) (c_X11_in (l := C.2.1) a2 (-1) 2) (tc15 _ (List.mem_of_getElem? (i := 1) rfl)) (tc15 _ (List.mem_of_getElem? (i := 2) rfl)) (tc1 _ (List.mem_of_getElem? (i := 5) rfl)) (tc15 _ (List.mem_of_getElem? (i := 3) rfl)) (by decide) rfl ⟨rfl, rfl, Nat.le_of_ble_eq_true rfl, Nat.le_of_ble_eq_true rfl⟩ ⟨Nat.le_of_ble_eq_true rfl, Nat.le_of_ble_eq_true rfl⟩ rfl (Nat.le_of_ble_eq_true rfl) rfl rfl rfl (dq dkX11_sheet_0 8 rfl) ?_
    refine v_if_eq F (tgt := 29) (dq dkX11_sheet_0 9 rfl) (by decide) (fun c11 => ?_) (fun c11 => ?_)
    · rw [if_pos c11] at h
      refine v_sub [] rfl ?_
      exact t_X11_sheet_29 y h F E
    · rw [if_neg c11] at h
      refine v_iload_n F (dq dkX11_sheet_0 10 rfl) rfl 2 rfl ?_
      refine v_iconst F (v := (-1)) (dq dkX11_sheet_0 11 rfl) ki_m1 ?_
      refine v_icmp_eq F (tgt := 32) (dq dkX11_sheet_0 12 rfl) (by decide) (fun c12 => ?_) (fun c12 => ?_)
      · rw [if_pos c12] at h
        exact t_X11_sheet_32 y a1 a2 a3 h F E
      · rw [if_neg c12] at h
        refine v_iload_n F (dq dkX11_sheet_0 13 rfl) rfl 3 rfl ?_
        refine v_bipush F (v := 40) (dq dkX11_sheet_0 14 rfl) kb_40 ?_
        refine v_icmp_le F (tgt := 32) (dq dkX11_sheet_0 15 rfl) (by decide) (fun c13 => ?_) (fun c13 => ?_)
        · rw [if_pos c13] at h
          exact t_X11_sheet_32 y a1 a2 a3 h F E
        · rw [if_neg c13] at h
          refine v_sub [] rfl ?_
          exact t_X11_sheet_29 y h F E
def rm_X11_cell : Room := { frames := 2, cells := 0, slots := 0, locals := 52 }
def f_X11_cell_84 (y : MS) (s0 : Int32) (s1 : Int32) : Option (Int32 × MS) := gd (ib s1 160) (some (1, pi y 79 s1.toNatClampNeg s0))
set_option maxRecDepth 100000 in
set_option maxHeartbeats 4000000 in
theorem t_X11_cell_84 {C : Cx} {K : KE} {nn : Nat} {x : CS} {R : Int32 × MS}  (y : MS) (s0 : Int32) (s1 : Int32) (h : f_X11_cell_84 y s0 s1 = some R) (F : Fx C RX11 cX11_cell 4 rm_X11_cell K) (E : CE C (xfM K nn x R.2) (some (.int R.1)) 0 0 (some .int)) : V C 84 [] [.int s0, .int s1, .ref (K.1 + 79)] (xfM K nn x y) 0 0 := by
  unfold f_X11_cell_84 at h
  obtain ⟨g1, h⟩ := gd_of h
  refine v_iast F 79 (xnM (by decide)) xc_79 (ib_in g1) (dq dkX11_cell_1 12 rfl) ?_
  refine v_eqM (xwM (q := 79) (j := s1.toNatClampNeg) (v := s0) (by decide) (by decide) rfl) ?_
  refine v_iconst F (v := 1) (dq dkX11_cell_1 13 rfl) ki_1 ?_
  have h := Option.some.inj h
  subst h
  exact v_iret F E (dq dkX11_cell_1 14 rfl)
def f_X11_cell (y : MS) (a1 : Int32) (a2 : Int32) (a3 : Int32) : Option (Int32 × MS) := if (b2i (f_X11_in a1 0 3)) = 0 then (some ((-2), y)) else (gd (ib a1 4) (if (gi y 77 a1.toNatClampNeg) = (-1) then (some ((-11), y)) else (gd (ib a1 4) (if (b2i (f_X11_in a2 0 ((gi y 78 a1.toNatClampNeg) - 1))) = 0 then (some ((-12), y)) else (gd (ib a1 4) (if (gi y 77 a1.toNatClampNeg) = 0 then (f_X11_cell_84 y a3.toInt8.toInt32 ((40 * a1) + a2)) else (gd (ib a1 4) (if (gi y 77 a1.toNatClampNeg) = 1 then (f_X11_cell_84 y a3.toInt16.toInt32 ((40 * a1) + a2)) else (f_X11_cell_84 y a3 ((40 * a1) + a2))))))))))
set_option maxRecDepth 100000 in
set_option maxHeartbeats 4000000 in
theorem c_X11_cell {K : KE} {l : Launch} {R : Int32 × MS} {nn : Nat} (x : CS) (y : MS) (a1 : Int32) (a2 : Int32) (a3 : Int32) (h : f_X11_cell y a1 a2 a3 = some R) : MC K l yX11_cell cX11_cell 4 (some .int) rm_X11_cell 0 0 [.ref (K.1 + 61), .int a1, .int a2, .int a3] (xfM K nn x y) (xfM K nn x R.2) (some (.int R.1)) := by
  unfold f_X11_cell at h
  refine mc_of (ls0 := [(0, .ref (K.1 + 61)), (1, .int a1), (2, .int a2), (3, .int a3)]) (by decide) (Nat.le_of_ble_eq_true rfl) rfl (fun C hl hnm F E => ?_)
  have F : Fx C RX11 cX11_cell 4 rm_X11_cell K := F
  refine v_iload_n F (dq dkX11_cell_0 0 rfl) rfl 1 rfl ?_
  refine v_iconst F (v := 0) (dq dkX11_cell_0 1 rfl) ki_0 ?_
  refine v_iconst F (v := 3) (dq dkX11_cell_0 2 rfl) ki_3 ?_
  refine v_callS 3 F (kc1 := 0) (ks1 := 0) (as := [.int a1, .int 0, .int 3]) (st := []) (st1 := (.int (b2i (f_X11_in a1 0 3)) :: [])) (res := (some (.int (b2i (f_X11_in a1 0 3))))) (c_X11_in (l := C.2.1) a1 0 3) (tc15 _ (List.mem_of_getElem? (i := 1) rfl)) (tc15 _ (List.mem_of_getElem? (i := 2) rfl)) (tc1 _ (List.mem_of_getElem? (i := 5) rfl)) (tc15 _ (List.mem_of_getElem? (i := 3) rfl)) (by decide) rfl ⟨rfl, rfl, Nat.le_of_ble_eq_true rfl, Nat.le_of_ble_eq_true rfl⟩ ⟨Nat.le_of_ble_eq_true rfl, Nat.le_of_ble_eq_true rfl⟩ rfl (Nat.le_of_ble_eq_true rfl) rfl rfl rfl (dq dkX11_cell_0 3 rfl) ?_
  refine v_if_ne F (tgt := 12) (dq dkX11_cell_0 4 rfl) (by decide) (fun c3 => ?_) (fun c3 => ?_)
  · rw [if_neg c3] at h
    refine v_aload_n F (dq dkX11_cell_0 7 rfl) rfl 0 rfl ?_
    refine v_get F 61 (xnM (by decide)) xc_61 rfl inlX11 28 (by decide) (tc12 _ (List.mem_of_getElem? (i := 12) rfl)) rfl rfl (dq dkX11_cell_0 8 rfl) ?_
    refine v_iload_n F (dq dkX11_cell_0 9 rfl) rfl 1 rfl ?_
    obtain ⟨g4, h⟩ := gd_of h
    refine v_iald F 77 (xnM (by decide)) xc_77 (ib_in g4) (dq dkX11_cell_0 10 rfl) ?_
    refine v_iconst F (v := (-1)) (dq dkX11_cell_0 11 rfl) ki_m1 ?_
    refine v_icmp_ne F (tgt := 25) (dq dkX11_cell_0 12 rfl) (by decide) (fun c5 => ?_) (fun c5 => ?_)
    · rw [if_neg c5] at h
      refine v_iload_n F (dq dkX11_cell_0 15 rfl) rfl 2 rfl ?_
      refine v_iconst F (v := 0) (dq dkX11_cell_0 16 rfl) ki_0 ?_
      refine v_aload_n F (dq dkX11_cell_0 17 rfl) rfl 0 rfl ?_
      refine v_get F 61 (xnM (by decide)) xc_61 rfl inlX11 29 (by decide) (tc12 _ (List.mem_of_getElem? (i := 13) rfl)) rfl rfl (dq dkX11_cell_0 18 rfl) ?_
      refine v_iload_n F (dq dkX11_cell_0 19 rfl) rfl 1 rfl ?_
      obtain ⟨g6, h⟩ := gd_of h
      refine v_iald F 78 (xnM (by decide)) xc_78 (ib_in g6) (dq dkX11_cell_0 20 rfl) ?_
      refine v_iconst F (v := 1) (dq dkX11_cell_0 21 rfl) ki_1 ?_
      refine v_isub F (dq dkX11_cell_0 22 rfl) ?_
      refine v_callS 3 F (kc1 := 0) (ks1 := 0) (as := [.int a2, .int 0, .int ((gi y 78 a1.toNatClampNeg) - 1)]) (st := []) (st1 := (.int (b2i (f_X11_in a2 0 ((gi y 78 a1.toNatClampNeg) - 1))) :: [])) (res := (some (.int (b2i (f_X11_in a2 0 ((gi y 78 a1.toNatClampNeg) - 1)))))) (c_X11_in (l := C.2.1) a2 0 ((gi y 78 a1.toNatClampNeg) - 1)) (tc15 _ (List.mem_of_getElem? (i := 1) rfl)) (tc15 _ (List.mem_of_getElem? (i := 2) rfl)) (tc1 _ (List.mem_of_getElem? (i := 5) rfl)) (tc15 _ (List.mem_of_getElem? (i := 3) rfl)) (by decide) rfl ⟨rfl, rfl, Nat.le_of_ble_eq_true rfl, Nat.le_of_ble_eq_true rfl⟩ ⟨Nat.le_of_ble_eq_true rfl, Nat.le_of_ble_eq_true rfl⟩ rfl (Nat.le_of_ble_eq_true rfl) rfl rfl rfl (dq dkX11_cell_0 23 rfl) ?_
      refine v_if_ne F (tgt := 44) (dq dkX11_cell_0 24 rfl) (by decide) (fun c8 => ?_) (fun c8 => ?_)
      · rw [if_neg c8] at h
        refine v_aload_n F (dq dkX11_cell_0 27 rfl) rfl 0 rfl ?_
        refine v_get F 61 (xnM (by decide)) xc_61 rfl inlX11 30 (by decide) (tc12 _ (List.mem_of_getElem? (i := 14) rfl)) rfl rfl (dq dkX11_cell_0 28 rfl) ?_
        refine v_bipush F (v := 40) (dq dkX11_cell_0 29 rfl) kb_40 ?_
        refine v_iload_n F (dq dkX11_cell_0 30 rfl) rfl 1 rfl ?_
        refine v_imul F (dq dkX11_cell_0 31 rfl) ?_
        refine v_iload_n F (dq dkX11_cell_0 32 rfl) rfl 2 rfl ?_
        refine v_iadd F (dq dkX11_cell_0 33 rfl) ?_
        refine v_aload_n F (dq dkX11_cell_0 34 rfl) rfl 0 rfl ?_
        refine v_get F 61 (xnM (by decide)) xc_61 rfl inlX11 28 (by decide) (tc12 _ (List.mem_of_getElem? (i := 12) rfl)) rfl rfl (dq dkX11_cell_0 35 rfl) ?_
        refine v_iload_n F (dq dkX11_cell_0 36 rfl) rfl 1 rfl ?_
        obtain ⟨g9, h⟩ := gd_of h
        refine v_iald F 77 (xnM (by decide)) xc_77 (ib_in g9) (dq dkX11_cell_0 37 rfl) ?_
        refine v_if_ne F (tgt := 68) (dq dkX11_cell_0 38 rfl) (by decide) (fun c10 => ?_) (fun c10 => ?_)
        · rw [if_neg c10] at h
          refine v_aload_n F (dq dkX11_cell_1 2 rfl) rfl 0 rfl ?_
          refine v_get F 61 (xnM (by decide)) xc_61 rfl inlX11 28 (by decide) (tc12 _ (List.mem_of_getElem? (i := 12) rfl)) rfl rfl (dq dkX11_cell_1 3 rfl) ?_
          refine v_iload_n F (dq dkX11_cell_1 4 rfl) rfl 1 rfl ?_
          obtain ⟨g11, h⟩ := gd_of h
          refine v_iald F 77 (xnM (by decide)) xc_77 (ib_in g11) (dq dkX11_cell_1 5 rfl) ?_
          refine v_iconst F (v := 1) (dq dkX11_cell_1 6 rfl) ki_1 ?_
          refine v_icmp_ne F (tgt := 83) (dq dkX11_cell_1 7 rfl) (by decide) (fun c12 => ?_) (fun c12 => ?_)
          · rw [if_neg c12] at h
            refine v_iload_n F (dq dkX11_cell_1 11 rfl) rfl 3 rfl ?_
            refine v_sub [] rfl ?_
            exact t_X11_cell_84 y a3 ((40 * a1) + a2) h F E
          · rw [if_pos c12] at h
            refine v_iload_n F (dq dkX11_cell_1 8 rfl) rfl 3 rfl ?_
            refine v_i2s F (dq dkX11_cell_1 9 rfl) ?_
            refine v_goto F (tgt := 84) (dq dkX11_cell_1 10 rfl) (by decide) ?_
            refine v_sub [] rfl ?_
            exact t_X11_cell_84 y a3.toInt16.toInt32 ((40 * a1) + a2) h F E
        · rw [if_pos c10] at h
          refine v_iload_n F (dq dkX11_cell_0 39 rfl) rfl 3 rfl ?_
          refine v_i2b F (dq dkX11_cell_1 0 rfl) ?_
          refine v_goto F (tgt := 84) (dq dkX11_cell_1 1 rfl) (by decide) ?_
          refine v_sub [] rfl ?_
          exact t_X11_cell_84 y a3.toInt8.toInt32 ((40 * a1) + a2) h F E
      · rw [if_pos c8] at h
        refine v_bipush F (v := (-12)) (dq dkX11_cell_0 25 rfl) kb_m12 ?_
        have h := Option.some.inj h
        subst h
        exact v_iret F E (dq dkX11_cell_0 26 rfl)
    · rw [if_pos c5] at h
      refine v_bipush F (v := (-11)) (dq dkX11_cell_0 13 rfl) kb_m11 ?_
      have h := Option.some.inj h
      subst h
      exact v_iret F E (dq dkX11_cell_0 14 rfl)
  · rw [if_pos c3] at h
    refine v_bipush F (v := (-2)) (dq dkX11_cell_0 5 rfl) kb_m2 ?_
    have h := Option.some.inj h
    subst h
    exact v_iret F E (dq dkX11_cell_0 6 rfl)
def rm_X11_copy : Room := { frames := 2, cells := 0, slots := 0, locals := 52 }
def f_X11_copy_18 (y : MS) : Option (Int32 × MS) := some ((-2), y)
set_option maxRecDepth 100000 in
set_option maxHeartbeats 4000000 in
theorem t_X11_copy_18 {C : Cx} {K : KE} {nn : Nat} {x : CS} {R : Int32 × MS}  (y : MS) (h : f_X11_copy_18 y = some R) (F : Fx C RX11 cX11_copy 10 rm_X11_copy K) (E : CE C (xfM K nn x R.2) (some (.int R.1)) 0 0 (some .int)) : V C 18 [] [] (xfM K nn x y) 0 0 := by
  unfold f_X11_copy_18 at h
  refine v_bipush F (v := (-2)) (dq dkX11_copy_0 10 rfl) kb_m2 ?_
  have h := Option.some.inj h
  subst h
  exact v_iret F E (dq dkX11_copy_0 11 rfl)
def f_X11_copy_41 (y : MS) : Option (Int32 × MS) := some ((-11), y)
set_option maxRecDepth 100000 in
set_option maxHeartbeats 4000000 in
theorem t_X11_copy_41 {C : Cx} {K : KE} {nn : Nat} {x : CS} {R : Int32 × MS}  (y : MS) (h : f_X11_copy_41 y = some R) (F : Fx C RX11 cX11_copy 10 rm_X11_copy K) (E : CE C (xfM K nn x R.2) (some (.int R.1)) 0 0 (some .int)) : V C 41 [] [] (xfM K nn x y) 0 0 := by
  unfold f_X11_copy_41 at h
  refine v_bipush F (v := (-11)) (dq dkX11_copy_0 24 rfl) kb_m11 ?_
  have h := Option.some.inj h
  subst h
  exact v_iret F E (dq dkX11_copy_0 25 rfl)
def f_X11_copy_124 (y : MS) : Option (Int32 × MS) := some ((-12), y)
set_option maxRecDepth 100000 in
set_option maxHeartbeats 4000000 in
theorem t_X11_copy_124 {C : Cx} {K : KE} {nn : Nat} {x : CS} {R : Int32 × MS}  (y : MS) (h : f_X11_copy_124 y = some R) (F : Fx C RX11 cX11_copy 10 rm_X11_copy K) (E : CE C (xfM K nn x R.2) (some (.int R.1)) 0 0 (some .int)) : V C 124 [] [] (xfM K nn x y) 0 0 := by
  unfold f_X11_copy_124 at h
  refine v_bipush F (v := (-12)) (dq dkX11_copy_1 31 rfl) kb_m12 ?_
  have h := Option.some.inj h
  subst h
  exact v_iret F E (dq dkX11_copy_1 32 rfl)
def f_X11_copy_173 (k147 : MS → Int32 → Int32 → Int32 → Int32 → Option (Int32 × MS)) (y : MS) (a5 : Int32) (a6 : Int32) (a7 : Int32) (a8 : Int32) (s0 : Int32) : Option (Int32 × MS) := gd (ib (a6 + s0) 160) (gd (ib (a7 + s0) 160) (k147 (pi y 79 ((a7 + s0).toNatClampNeg) (gi y 79 (a6 + s0).toNatClampNeg)) a5 a6 a7 (a8 + 1)))
set_option maxRecDepth 100000 in
set_option maxHeartbeats 4000000 in
theorem t_X11_copy_173 {C : Cx} {K : KE} {nn : Nat} {x : CS} {R : Int32 × MS}  (k147 : MS → Int32 → Int32 → Int32 → Int32 → Option (Int32 × MS)) (y : MS) (a5 : Int32) (a6 : Int32) (a7 : Int32) (a8 : Int32) (s0 : Int32) (hk147 : ∀ (y : MS) (a5 : Int32) (a6 : Int32) (a7 : Int32) (a8 : Int32), k147 y a5 a6 a7 a8 = some R → V C 147 [(0, .ref (K.1 + 61)), (5, .int a5), (6, .int a6), (7, .int a7), (8, .int a8)] [] (xfM K nn x y) 0 0) (h : f_X11_copy_173 k147 y a5 a6 a7 a8 s0 = some R) (F : Fx C RX11 cX11_copy 10 rm_X11_copy K) (E : CE C (xfM K nn x R.2) (some (.int R.1)) 0 0 (some .int)) : V C 173 [(0, .ref (K.1 + 61)), (5, .int a5), (6, .int a6), (7, .int a7), (8, .int a8)] [.int s0] (xfM K nn x y) 0 0 := by
  unfold f_X11_copy_173 at h
  refine v_istore F (ls' := [(9, .int s0), (0, .ref (K.1 + 61)), (5, .int a5), (6, .int a6), (7, .int a7), (8, .int a8)]) (dq dkX11_copy_2 20 rfl) (by decide) rfl ?_
  refine v_aload_n F (dq dkX11_copy_2 21 rfl) rfl 1 rfl ?_
  refine v_get F 61 (xnM (by decide)) xc_61 rfl inlX11 30 (by decide) (tc12 _ (List.mem_of_getElem? (i := 14) rfl)) rfl rfl (dq dkX11_copy_2 22 rfl) ?_
  refine v_iload F (dq dkX11_copy_2 23 rfl) 4 rfl ?_
  refine v_iload F (dq dkX11_copy_2 24 rfl) 0 rfl ?_
  refine v_iadd F (dq dkX11_copy_2 25 rfl) ?_
  refine v_aload_n F (dq dkX11_copy_2 26 rfl) rfl 1 rfl ?_
  refine v_get F 61 (xnM (by decide)) xc_61 rfl inlX11 30 (by decide) (tc12 _ (List.mem_of_getElem? (i := 14) rfl)) rfl rfl (dq dkX11_copy_2 27 rfl) ?_
  refine v_iload F (dq dkX11_copy_2 28 rfl) 3 rfl ?_
  refine v_iload F (dq dkX11_copy_2 29 rfl) 0 rfl ?_
  refine v_iadd F (dq dkX11_copy_2 30 rfl) ?_
  obtain ⟨g1, h⟩ := gd_of h
  refine v_iald F 79 (xnM (by decide)) xc_79 (ib_in g1) (dq dkX11_copy_2 31 rfl) ?_
  obtain ⟨g2, h⟩ := gd_of h
  refine v_iast F 79 (xnM (by decide)) xc_79 (ib_in g2) (dq dkX11_copy_2 32 rfl) ?_
  refine v_eqM (xwM (q := 79) (j := (a7 + s0).toNatClampNeg) (v := gi y 79 (a6 + s0).toNatClampNeg) (by decide) (by decide) rfl) ?_
  refine v_iinc F (v := a8 + 1) (ls' := [(8, .int (a8 + 1)), (9, .int s0), (0, .ref (K.1 + 61)), (5, .int a5), (6, .int a6), (7, .int a7)]) (dq dkX11_copy_2 33 rfl) (j := 5) rfl (kv_add ki_1) (by decide) rfl ?_
  refine v_goto F (tgt := 147) (dq dkX11_copy_2 34 rfl) (by decide) ?_
  refine v_sub [2, 3, 4, 5, 0] rfl ?_
  exact hk147 (pi y 79 ((a7 + s0).toNatClampNeg) (gi y 79 (a6 + s0).toNatClampNeg)) a5 a6 a7 (a8 + 1) h
def f_X11_copy_147 : Nat → MS → Int32 → Int32 → Int32 → Int32 → Option (Int32 × MS)
  | 0, _, _, _, _, _ => none
  | n + 1, y, a5, a6, a7, a8 => if a5 ≤ a8 then (some (a5, y)) else (if a7 ≤ a6 then (f_X11_copy_173 (f_X11_copy_147 n) y a5 a6 a7 a8 a8) else (f_X11_copy_173 (f_X11_copy_147 n) y a5 a6 a7 a8 ((a5 - 1) - a8)))
set_option maxRecDepth 100000 in
set_option maxHeartbeats 4000000 in
theorem t_X11_copy_147 {C : Cx} {K : KE} {nn : Nat} {x : CS} {R : Int32 × MS}  (F : Fx C RX11 cX11_copy 10 rm_X11_copy K) (E : CE C (xfM K nn x R.2) (some (.int R.1)) 0 0 (some .int)) : ∀ (n : Nat) (y : MS) (a5 : Int32) (a6 : Int32) (a7 : Int32) (a8 : Int32) (h : f_X11_copy_147 n y a5 a6 a7 a8 = some R), V C 147 [(0, .ref (K.1 + 61)), (5, .int a5), (6, .int a6), (7, .int a7), (8, .int a8)] [] (xfM K nn x y) 0 0 := by
  intro n
  induction n with
  | zero => intro y a5 a6 a7 a8 h; cases h
  | succ n ih =>
    intro y a5 a6 a7 a8 h
    rw [f_X11_copy_147] at h
    refine v_iload F (dq dkX11_copy_2 7 rfl) 4 rfl ?_
    refine v_iload F (dq dkX11_copy_2 8 rfl) 1 rfl ?_
    refine v_icmp_ge F (tgt := 201) (dq dkX11_copy_2 9 rfl) (by decide) (fun c3 => ?_) (fun c3 => ?_)
    · rw [if_pos c3] at h
      refine v_iload F (dq dkX11_copy_2 35 rfl) 1 rfl ?_
      have h := Option.some.inj h
      subst h
      exact v_iret F E (dq dkX11_copy_2 36 rfl)
    · rw [if_neg c3] at h
      refine v_iload F (dq dkX11_copy_2 10 rfl) 2 rfl ?_
      refine v_iload F (dq dkX11_copy_2 11 rfl) 3 rfl ?_
      refine v_icmp_ge F (tgt := 171) (dq dkX11_copy_2 12 rfl) (by decide) (fun c4 => ?_) (fun c4 => ?_)
      · rw [if_pos c4] at h
        refine v_iload F (dq dkX11_copy_2 19 rfl) 4 rfl ?_
        exact t_X11_copy_173 (f_X11_copy_147 n) y a5 a6 a7 a8 a8 ih h F E
      · rw [if_neg c4] at h
        refine v_iload F (dq dkX11_copy_2 13 rfl) 1 rfl ?_
        refine v_iconst F (v := 1) (dq dkX11_copy_2 14 rfl) ki_1 ?_
        refine v_isub F (dq dkX11_copy_2 15 rfl) ?_
        refine v_iload F (dq dkX11_copy_2 16 rfl) 4 rfl ?_
        refine v_isub F (dq dkX11_copy_2 17 rfl) ?_
        refine v_goto F (tgt := 173) (dq dkX11_copy_2 18 rfl) (by decide) ?_
        exact t_X11_copy_173 (f_X11_copy_147 n) y a5 a6 a7 a8 ((a5 - 1) - a8) ih h F E
def f_X11_copy (y : MS) (a1 : Int32) (a2 : Int32) (a3 : Int32) (a4 : Int32) (a5 : Int32) : Option (Int32 × MS) := if (b2i (f_X11_in a1 0 3)) = 0 then (f_X11_copy_18 y) else (if (b2i (f_X11_in a3 0 3)) = 0 then (f_X11_copy_18 y) else (gd (ib a1 4) (if (gi y 77 a1.toNatClampNeg) = (-1) then (f_X11_copy_41 y) else (gd (ib a3 4) (if (gi y 77 a3.toNatClampNeg) = (-1) then (f_X11_copy_41 y) else (gd (ib a1 4) (gd (ib a3 4) (if (gi y 77 a1.toNatClampNeg) = (gi y 77 a3.toNatClampNeg) then (if a5 < 0 then (f_X11_copy_124 y) else (if a2 < 0 then (f_X11_copy_124 y) else (if a4 < 0 then (f_X11_copy_124 y) else (gd (ib a1 4) (if (gi y 78 a1.toNatClampNeg) < a2 then (f_X11_copy_124 y) else (gd (ib a3 4) (if (gi y 78 a3.toNatClampNeg) < a4 then (f_X11_copy_124 y) else (gd (ib a1 4) (if ((gi y 78 a1.toNatClampNeg) - a2) < a5 then (f_X11_copy_124 y) else (gd (ib a3 4) (if a5 ≤ ((gi y 78 a3.toNatClampNeg) - a4) then (f_X11_copy_147 1000 y a5 ((40 * a1) + a2) ((40 * a3) + a4) 0) else (f_X11_copy_124 y)))))))))))) else (some ((-13), y))))))))))
set_option maxRecDepth 100000 in
set_option maxHeartbeats 4000000 in
theorem c_X11_copy {K : KE} {l : Launch} {R : Int32 × MS} {nn : Nat} (x : CS) (y : MS) (a1 : Int32) (a2 : Int32) (a3 : Int32) (a4 : Int32) (a5 : Int32) (h : f_X11_copy y a1 a2 a3 a4 a5 = some R) : MC K l yX11_copy cX11_copy 10 (some .int) rm_X11_copy 0 0 [.ref (K.1 + 61), .int a1, .int a2, .int a3, .int a4, .int a5] (xfM K nn x y) (xfM K nn x R.2) (some (.int R.1)) := by
  unfold f_X11_copy at h
  refine mc_of (ls0 := [(0, .ref (K.1 + 61)), (1, .int a1), (2, .int a2), (3, .int a3), (4, .int a4), (5, .int a5)]) (by decide) (Nat.le_of_ble_eq_true rfl) rfl (fun C hl hnm F E => ?_)
  have F : Fx C RX11 cX11_copy 10 rm_X11_copy K := F
  refine v_iload_n F (dq dkX11_copy_0 0 rfl) rfl 1 rfl ?_
  refine v_iconst F (v := 0) (dq dkX11_copy_0 1 rfl) ki_0 ?_
  refine v_iconst F (v := 3) (dq dkX11_copy_0 2 rfl) ki_3 ?_
  refine v_callS 3 F (kc1 := 0) (ks1 := 0) (as := [.int a1, .int 0, .int 3]) (st := []) (st1 := (.int (b2i (f_X11_in a1 0 3)) :: [])) (res := (some (.int (b2i (f_X11_in a1 0 3))))) (c_X11_in (l := C.2.1) a1 0 3) (tc15 _ (List.mem_of_getElem? (i := 1) rfl)) (tc15 _ (List.mem_of_getElem? (i := 2) rfl)) (tc1 _ (List.mem_of_getElem? (i := 5) rfl)) (tc15 _ (List.mem_of_getElem? (i := 3) rfl)) (by decide) rfl ⟨rfl, rfl, Nat.le_of_ble_eq_true rfl, Nat.le_of_ble_eq_true rfl⟩ ⟨Nat.le_of_ble_eq_true rfl, Nat.le_of_ble_eq_true rfl⟩ rfl (Nat.le_of_ble_eq_true rfl) rfl rfl rfl (dq dkX11_copy_0 3 rfl) ?_
  refine v_if_eq F (tgt := 18) (dq dkX11_copy_0 4 rfl) (by decide) (fun c6 => ?_) (fun c6 => ?_)
  · rw [if_pos c6] at h
    refine v_sub [] rfl ?_
    exact t_X11_copy_18 y h F E
  · rw [if_neg c6] at h
    refine v_iload_n F (dq dkX11_copy_0 5 rfl) rfl 3 rfl ?_
    refine v_iconst F (v := 0) (dq dkX11_copy_0 6 rfl) ki_0 ?_
    refine v_iconst F (v := 3) (dq dkX11_copy_0 7 rfl) ki_3 ?_
    refine v_callS 3 F (kc1 := 0) (ks1 := 0) (as := [.int a3, .int 0, .int 3]) (st := []) (st1 := (.int (b2i (f_X11_in a3 0 3)) :: [])) (res := (some (.int (b2i (f_X11_in a3 0 3))))) (c_X11_in (l := C.2.1) a3 0 3) (tc15 _ (List.mem_of_getElem? (i := 1) rfl)) (tc15 _ (List.mem_of_getElem? (i := 2) rfl)) (tc1 _ (List.mem_of_getElem? (i := 5) rfl)) (tc15 _ (List.mem_of_getElem? (i := 3) rfl)) (by decide) rfl ⟨rfl, rfl, Nat.le_of_ble_eq_true rfl, Nat.le_of_ble_eq_true rfl⟩ ⟨Nat.le_of_ble_eq_true rfl, Nat.le_of_ble_eq_true rfl⟩ rfl (Nat.le_of_ble_eq_true rfl) rfl rfl rfl (dq dkX11_copy_0 8 rfl) ?_
    refine v_if_ne F (tgt := 21) (dq dkX11_copy_0 9 rfl) (by decide) (fun c8 => ?_) (fun c8 => ?_)
    · rw [if_neg c8] at h
      refine v_aload_n F (dq dkX11_copy_0 12 rfl) rfl 0 rfl ?_
      refine v_get F 61 (xnM (by decide)) xc_61 rfl inlX11 28 (by decide) (tc12 _ (List.mem_of_getElem? (i := 12) rfl)) rfl rfl (dq dkX11_copy_0 13 rfl) ?_
      refine v_iload_n F (dq dkX11_copy_0 14 rfl) rfl 1 rfl ?_
      obtain ⟨g9, h⟩ := gd_of h
      refine v_iald F 77 (xnM (by decide)) xc_77 (ib_in g9) (dq dkX11_copy_0 15 rfl) ?_
      refine v_iconst F (v := (-1)) (dq dkX11_copy_0 16 rfl) ki_m1 ?_
      refine v_icmp_eq F (tgt := 41) (dq dkX11_copy_0 17 rfl) (by decide) (fun c10 => ?_) (fun c10 => ?_)
      · rw [if_pos c10] at h
        refine v_sub [] rfl ?_
        exact t_X11_copy_41 y h F E
      · rw [if_neg c10] at h
        refine v_aload_n F (dq dkX11_copy_0 18 rfl) rfl 0 rfl ?_
        refine v_get F 61 (xnM (by decide)) xc_61 rfl inlX11 28 (by decide) (tc12 _ (List.mem_of_getElem? (i := 12) rfl)) rfl rfl (dq dkX11_copy_0 19 rfl) ?_
        refine v_iload_n F (dq dkX11_copy_0 20 rfl) rfl 3 rfl ?_
        obtain ⟨g11, h⟩ := gd_of h
        refine v_iald F 77 (xnM (by decide)) xc_77 (ib_in g11) (dq dkX11_copy_0 21 rfl) ?_
        refine v_iconst F (v := (-1)) (dq dkX11_copy_0 22 rfl) ki_m1 ?_
        refine v_icmp_ne F (tgt := 44) (dq dkX11_copy_0 23 rfl) (by decide) (fun c12 => ?_) (fun c12 => ?_)
        · rw [if_neg c12] at h
          refine v_aload_n F (dq dkX11_copy_0 26 rfl) rfl 0 rfl ?_
          refine v_get F 61 (xnM (by decide)) xc_61 rfl inlX11 28 (by decide) (tc12 _ (List.mem_of_getElem? (i := 12) rfl)) rfl rfl (dq dkX11_copy_0 27 rfl) ?_
          refine v_iload_n F (dq dkX11_copy_0 28 rfl) rfl 1 rfl ?_
          obtain ⟨g13, h⟩ := gd_of h
          refine v_iald F 77 (xnM (by decide)) xc_77 (ib_in g13) (dq dkX11_copy_0 29 rfl) ?_
          refine v_aload_n F (dq dkX11_copy_0 30 rfl) rfl 0 rfl ?_
          refine v_get F 61 (xnM (by decide)) xc_61 rfl inlX11 28 (by decide) (tc12 _ (List.mem_of_getElem? (i := 12) rfl)) rfl rfl (dq dkX11_copy_0 31 rfl) ?_
          refine v_iload_n F (dq dkX11_copy_0 32 rfl) rfl 3 rfl ?_
          obtain ⟨g14, h⟩ := gd_of h
          refine v_iald F 77 (xnM (by decide)) xc_77 (ib_in g14) (dq dkX11_copy_0 33 rfl) ?_
          refine v_icmp_eq F (tgt := 62) (dq dkX11_copy_0 34 rfl) (by decide) (fun c15 => ?_) (fun c15 => ?_)
          · rw [if_pos c15] at h
            refine v_iload F (dq dkX11_copy_0 37 rfl) 5 rfl ?_
            refine v_if_lt F (tgt := 124) (dq dkX11_copy_0 38 rfl) (by decide) (fun c16 => ?_) (fun c16 => ?_)
            · rw [if_pos c16] at h
              refine v_sub [] rfl ?_
              exact t_X11_copy_124 y h F E
            · rw [if_neg c16] at h
              refine v_iload_n F (dq dkX11_copy_0 39 rfl) rfl 2 rfl ?_
              refine v_if_lt F (tgt := 124) (dq dkX11_copy_1 0 rfl) (by decide) (fun c17 => ?_) (fun c17 => ?_)
              · rw [if_pos c17] at h
                refine v_sub [] rfl ?_
                exact t_X11_copy_124 y h F E
              · rw [if_neg c17] at h
                refine v_iload F (dq dkX11_copy_1 1 rfl) 4 rfl ?_
                refine v_if_lt F (tgt := 124) (dq dkX11_copy_1 2 rfl) (by decide) (fun c18 => ?_) (fun c18 => ?_)
                · rw [if_pos c18] at h
                  refine v_sub [] rfl ?_
                  exact t_X11_copy_124 y h F E
                · rw [if_neg c18] at h
                  refine v_iload_n F (dq dkX11_copy_1 3 rfl) rfl 2 rfl ?_
                  refine v_aload_n F (dq dkX11_copy_1 4 rfl) rfl 0 rfl ?_
                  refine v_get F 61 (xnM (by decide)) xc_61 rfl inlX11 29 (by decide) (tc12 _ (List.mem_of_getElem? (i := 13) rfl)) rfl rfl (dq dkX11_copy_1 5 rfl) ?_
                  refine v_iload_n F (dq dkX11_copy_1 6 rfl) rfl 1 rfl ?_
                  obtain ⟨g19, h⟩ := gd_of h
                  refine v_iald F 78 (xnM (by decide)) xc_78 (ib_in g19) (dq dkX11_copy_1 7 rfl) ?_
                  refine v_icmp_gt F (tgt := 124) (dq dkX11_copy_1 8 rfl) (by decide) (fun c20 => ?_) (fun c20 => ?_)
                  · rw [if_pos c20] at h
                    refine v_sub [] rfl ?_
                    exact t_X11_copy_124 y h F E
                  · rw [if_neg c20] at h
                    refine v_iload F (dq dkX11_copy_1 9 rfl) 4 rfl ?_
                    refine v_aload_n F (dq dkX11_copy_1 10 rfl) rfl 0 rfl ?_
                    refine v_get F 61 (xnM (by decide)) xc_61 rfl inlX11 29 (by decide) (tc12 _ (List.mem_of_getElem? (i := 13) rfl)) rfl rfl (dq dkX11_copy_1 11 rfl) ?_
                    refine v_iload_n F (dq dkX11_copy_1 12 rfl) rfl 3 rfl ?_
                    obtain ⟨g21, h⟩ := gd_of h
                    refine v_iald F 78 (xnM (by decide)) xc_78 (ib_in g21) (dq dkX11_copy_1 13 rfl) ?_
                    refine v_icmp_gt F (tgt := 124) (dq dkX11_copy_1 14 rfl) (by decide) (fun c22 => ?_) (fun c22 => ?_)
                    · rw [if_pos c22] at h
                      refine v_sub [] rfl ?_
                      exact t_X11_copy_124 y h F E
                    · rw [if_neg c22] at h
                      refine v_iload F (dq dkX11_copy_1 15 rfl) 5 rfl ?_
                      refine v_aload_n F (dq dkX11_copy_1 16 rfl) rfl 0 rfl ?_
                      refine v_get F 61 (xnM (by decide)) xc_61 rfl inlX11 29 (by decide) (tc12 _ (List.mem_of_getElem? (i := 13) rfl)) rfl rfl (dq dkX11_copy_1 17 rfl) ?_
                      refine v_iload_n F (dq dkX11_copy_1 18 rfl) rfl 1 rfl ?_
                      obtain ⟨g23, h⟩ := gd_of h
                      refine v_iald F 78 (xnM (by decide)) xc_78 (ib_in g23) (dq dkX11_copy_1 19 rfl) ?_
                      refine v_iload_n F (dq dkX11_copy_1 20 rfl) rfl 2 rfl ?_
                      refine v_isub F (dq dkX11_copy_1 21 rfl) ?_
                      refine v_icmp_gt F (tgt := 124) (dq dkX11_copy_1 22 rfl) (by decide) (fun c24 => ?_) (fun c24 => ?_)
                      · rw [if_pos c24] at h
                        refine v_sub [] rfl ?_
                        exact t_X11_copy_124 y h F E
                      · rw [if_neg c24] at h
                        refine v_iload F (dq dkX11_copy_1 23 rfl) 5 rfl ?_
                        refine v_aload_n F (dq dkX11_copy_1 24 rfl) rfl 0 rfl ?_
                        refine v_get F 61 (xnM (by decide)) xc_61 rfl inlX11 29 (by decide) (tc12 _ (List.mem_of_getElem? (i := 13) rfl)) rfl rfl (dq dkX11_copy_1 25 rfl) ?_
                        refine v_iload_n F (dq dkX11_copy_1 26 rfl) rfl 3 rfl ?_
                        obtain ⟨g25, h⟩ := gd_of h
                        refine v_iald F 78 (xnM (by decide)) xc_78 (ib_in g25) (dq dkX11_copy_1 27 rfl) ?_
                        refine v_iload F (dq dkX11_copy_1 28 rfl) 4 rfl ?_
                        refine v_isub F (dq dkX11_copy_1 29 rfl) ?_
                        refine v_icmp_le F (tgt := 127) (dq dkX11_copy_1 30 rfl) (by decide) (fun c26 => ?_) (fun c26 => ?_)
                        · rw [if_pos c26] at h
                          refine v_bipush F (v := 40) (dq dkX11_copy_1 33 rfl) kb_40 ?_
                          refine v_iload_n F (dq dkX11_copy_1 34 rfl) rfl 1 rfl ?_
                          refine v_imul F (dq dkX11_copy_1 35 rfl) ?_
                          refine v_iload_n F (dq dkX11_copy_1 36 rfl) rfl 2 rfl ?_
                          refine v_iadd F (dq dkX11_copy_1 37 rfl) ?_
                          refine v_istore F (ls' := [(6, .int ((40 * a1) + a2)), (0, .ref (K.1 + 61)), (1, .int a1), (2, .int a2), (3, .int a3), (4, .int a4), (5, .int a5)]) (dq dkX11_copy_1 38 rfl) (by decide) rfl ?_
                          refine v_bipush F (v := 40) (dq dkX11_copy_1 39 rfl) kb_40 ?_
                          refine v_iload_n F (dq dkX11_copy_2 0 rfl) rfl 4 rfl ?_
                          refine v_imul F (dq dkX11_copy_2 1 rfl) ?_
                          refine v_iload F (dq dkX11_copy_2 2 rfl) 5 rfl ?_
                          refine v_iadd F (dq dkX11_copy_2 3 rfl) ?_
                          refine v_istore F (ls' := [(7, .int ((40 * a3) + a4)), (6, .int ((40 * a1) + a2)), (0, .ref (K.1 + 61)), (1, .int a1), (2, .int a2), (3, .int a3), (4, .int a4), (5, .int a5)]) (dq dkX11_copy_2 4 rfl) (by decide) rfl ?_
                          refine v_iconst F (v := 0) (dq dkX11_copy_2 5 rfl) ki_0 ?_
                          refine v_istore F (ls' := [(8, .int 0), (7, .int ((40 * a3) + a4)), (6, .int ((40 * a1) + a2)), (0, .ref (K.1 + 61)), (1, .int a1), (2, .int a2), (3, .int a3), (4, .int a4), (5, .int a5)]) (dq dkX11_copy_2 6 rfl) (by decide) rfl ?_
                          refine v_sub [3, 8, 2, 1, 0] rfl ?_
                          exact t_X11_copy_147 F E 1000 y a5 ((40 * a1) + a2) ((40 * a3) + a4) 0 h
                        · rw [if_neg c26] at h
                          refine v_sub [] rfl ?_
                          exact t_X11_copy_124 y h F E
          · rw [if_neg c15] at h
            refine v_bipush F (v := (-13)) (dq dkX11_copy_0 35 rfl) kb_m13 ?_
            have h := Option.some.inj h
            subst h
            exact v_iret F E (dq dkX11_copy_0 36 rfl)
        · rw [if_pos c12] at h
          refine v_sub [] rfl ?_
          exact t_X11_copy_41 y h F E
    · rw [if_pos c8] at h
      refine v_sub [] rfl ?_
      exact t_X11_copy_18 y h F E
