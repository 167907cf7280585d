def rm_X10_taken : Room := { frames := 3, cells := 0, slots := 0, locals := 75 }
def f_X10_taken (x : CS) (a1 : Int32) (a2 : Int32) : Option (Int32) := if (b2i (f_X10_within a2 0 6)) = 0 then (some (-2)) else (if (b2i (f_X10_within a1 0 15)) = 0 then (some (-12)) else (if 6 ≤ a1 then (if (b2i (f_X9_has x (a1 - 6))) = 0 then (some (-11)) else ((f_X9_kind x (a1 - 6)).bind fun r8 => (f_X9_isOne x r8 a2).bind fun r10 => if (b2i r10) = 0 then (some (-13)) else (some (a1 - 6)))) else ((f_X1_at x a1).bind fun r13 => oc r13 (some (-11)) (fun s15 => if a2 = 6 then (gd (kTr x s15) (some (ti x s15 1))) else (some (-13))))))
set_option maxRecDepth 100000 in
set_option maxHeartbeats 4000000 in
theorem c_X10_taken {K : KE} {l : Launch} {R : Int32} (x : CS) (y : MS) (a1 : Int32) (a2 : Int32) (h : f_X10_taken x a1 a2 = some R) : MC K l yX10_taken cX10_taken 4 (some .int) rm_X10_taken 0 0 [.ref (K.1 + 0), .int a1, .int a2] (xf K x y) (xf K x y) (some (.int R)) := by
  unfold f_X10_taken at h
  refine mc_of (ls0 := [(0, .ref (K.1 + 0)), (1, .int a1), (2, .int a2)]) (by decide) (Nat.le_of_ble_eq_true rfl) rfl (fun C hl hnm F E => ?_)
  have F : Fx C RX10 cX10_taken 4 rm_X10_taken K := F
  refine v_iload_n F (dq dkX10_taken_0 0 rfl) rfl 2 rfl ?_
  refine v_iconst F (v := 0) (dq dkX10_taken_0 1 rfl) ki_0 ?_
  refine v_bipush F (v := 6) (dq dkX10_taken_0 2 rfl) kb_6 ?_
  refine v_callS 3 F (kc1 := 0) (ks1 := 0) (as := [.int a2, .int 0, .int 6]) (st := []) (st1 := (.int (b2i (f_X10_within a2 0 6)) :: [])) (res := (some (.int (b2i (f_X10_within a2 0 6))))) (c_X10_within (l := C.2.1) a2 0 6) (tc14 _ (List.mem_of_getElem? (i := 3) rfl)) (tc8 _ (List.mem_of_getElem? (i := 15) rfl)) (tc1 _ (List.mem_of_getElem? (i := 2) rfl)) (tc8 _ (List.mem_of_getElem? (i := 16) rfl)) (by decide) rfl ⟨rfl, rfl, Nat.le_of_ble_eq_true rfl, Nat.le_of_ble_eq_true rfl⟩ ⟨Nat.le_of_ble_eq_true rfl, Nat.le_of_ble_eq_true rfl⟩ rfl (Nat.le_of_ble_eq_true rfl) rfl rfl rfl (dq dkX10_taken_0 3 rfl) ?_
  refine v_if_ne F (tgt := 13) (dq dkX10_taken_0 4 rfl) (by decide) (fun c2 => ?_) (fun c2 => ?_)
  · rw [if_neg c2] at h
    refine v_iload_n F (dq dkX10_taken_0 7 rfl) rfl 1 rfl ?_
    refine v_iconst F (v := 0) (dq dkX10_taken_0 8 rfl) ki_0 ?_
    refine v_bipush F (v := 15) (dq dkX10_taken_0 9 rfl) kb_15 ?_
    refine v_callS 3 F (kc1 := 0) (ks1 := 0) (as := [.int a1, .int 0, .int 15]) (st := []) (st1 := (.int (b2i (f_X10_within a1 0 15)) :: [])) (res := (some (.int (b2i (f_X10_within a1 0 15))))) (c_X10_within (l := C.2.1) a1 0 15) (tc14 _ (List.mem_of_getElem? (i := 3) rfl)) (tc8 _ (List.mem_of_getElem? (i := 15) rfl)) (tc1 _ (List.mem_of_getElem? (i := 2) rfl)) (tc8 _ (List.mem_of_getElem? (i := 16) rfl)) (by decide) rfl ⟨rfl, rfl, Nat.le_of_ble_eq_true rfl, Nat.le_of_ble_eq_true rfl⟩ ⟨Nat.le_of_ble_eq_true rfl, Nat.le_of_ble_eq_true rfl⟩ rfl (Nat.le_of_ble_eq_true rfl) rfl rfl rfl (dq dkX10_taken_0 10 rfl) ?_
    refine v_if_ne F (tgt := 26) (dq dkX10_taken_0 11 rfl) (by decide) (fun c4 => ?_) (fun c4 => ?_)
    · rw [if_neg c4] at h
      refine v_iload_n F (dq dkX10_taken_0 14 rfl) rfl 1 rfl ?_
      refine v_bipush F (v := 6) (dq dkX10_taken_0 15 rfl) kb_6 ?_
      refine v_icmp_ge F (tgt := 64) (dq dkX10_taken_0 16 rfl) (by decide) (fun c5 => ?_) (fun c5 => ?_)
      · rw [if_pos c5] at h
        refine v_iload_n F (dq dkX10_taken_0 34 rfl) rfl 1 rfl ?_
        refine v_bipush F (v := 6) (dq dkX10_taken_0 35 rfl) kb_6 ?_
        refine v_isub F (dq dkX10_taken_0 36 rfl) ?_
        refine v_istore_n F (ls' := [(3, .int (a1 - 6)), (0, .ref (K.1 + 0)), (1, .int a1), (2, .int a2)]) (dq dkX10_taken_0 37 rfl) rfl (by decide) rfl ?_
        refine v_aload_n F (dq dkX10_taken_0 38 rfl) rfl 1 rfl ?_
        refine v_get F 0 (xn (by decide)) xc_0 rfl inlX10 3 (by decide) (tc2 _ (List.mem_of_getElem? (i := 4) rfl)) rfl rfl (dq dkX10_taken_0 39 rfl) ?_
        refine v_iload_n F (dq dkX10_taken_1 0 rfl) rfl 0 rfl ?_
        refine v_callV 1 F (q := 30) (kc1 := 0) (ks1 := 0) (as := [.int (a1 - 6)]) (st := []) (st1 := (.int (b2i (f_X9_has x (a1 - 6))) :: [])) (res := (some (.int (b2i (f_X9_has x (a1 - 6)))))) (c_X9_has (l := C.2.1) x y (a1 - 6)) (xn (by decide)) xc_30 rfl (tc23 _ (List.mem_of_getElem? (i := 4) rfl)) (tc23 _ (List.mem_of_getElem? (i := 5) rfl)) (tc23 _ (List.mem_of_getElem? (i := 6) rfl)) (tc2 _ (List.mem_of_getElem? (i := 3) rfl)) (tc23 _ (List.mem_of_getElem? (i := 7) rfl)) (by decide) rfl ⟨rfl, rfl, Nat.le_of_ble_eq_true rfl, Nat.le_of_ble_eq_true rfl⟩ ⟨Nat.le_of_ble_eq_true rfl, Nat.le_of_ble_eq_true rfl⟩ rfl (Nat.le_of_ble_eq_true rfl) rfl rfl rfl (dq dkX10_taken_1 1 rfl) ?_
        refine v_if_ne F (tgt := 83) (dq dkX10_taken_1 2 rfl) (by decide) (fun c7 => ?_) (fun c7 => ?_)
        · rw [if_neg c7] at h
          refine v_aload_n F (dq dkX10_taken_1 5 rfl) rfl 1 rfl ?_
          refine v_get F 0 (xn (by decide)) xc_0 rfl inlX10 3 (by decide) (tc2 _ (List.mem_of_getElem? (i := 4) rfl)) rfl rfl (dq dkX10_taken_1 6 rfl) ?_
          refine v_iload_n F (dq dkX10_taken_1 7 rfl) rfl 0 rfl ?_
          obtain ⟨r8, e9, h⟩ := bd_of h
          refine v_callV 1 F (q := 30) (kc1 := 0) (ks1 := 0) (as := [.int (a1 - 6)]) (st := []) (st1 := (.int r8 :: [])) (res := (some (.int r8))) (c_X9_kind (l := C.2.1) x y (a1 - 6) e9) (xn (by decide)) xc_30 rfl (tc23 _ (List.mem_of_getElem? (i := 8) rfl)) (tc23 _ (List.mem_of_getElem? (i := 9) rfl)) (tc23 _ (List.mem_of_getElem? (i := 10) rfl)) (tc2 _ (List.mem_of_getElem? (i := 3) rfl)) (tc23 _ (List.mem_of_getElem? (i := 11) rfl)) (by decide) rfl ⟨rfl, rfl, Nat.le_of_ble_eq_true rfl, Nat.le_of_ble_eq_true rfl⟩ ⟨Nat.le_of_ble_eq_true rfl, Nat.le_of_ble_eq_true rfl⟩ rfl (Nat.le_of_ble_eq_true rfl) rfl rfl rfl (dq dkX10_taken_1 8 rfl) ?_
          refine v_iload_n F (dq dkX10_taken_1 9 rfl) rfl 3 rfl ?_
          obtain ⟨r10, e11, h⟩ := bd_of h
          refine v_callS 2 F (kc1 := 0) (ks1 := 0) (as := [.int r8, .int a2]) (st := []) (st1 := (.int (b2i r10) :: [])) (res := (some (.int (b2i r10)))) (c_X9_isOne (l := C.2.1) x y r8 a2 e11) (tc53 _ (List.mem_of_getElem? (i := 14) rfl)) (tc53 _ (List.mem_of_getElem? (i := 15) rfl)) (tc2 _ (List.mem_of_getElem? (i := 3) rfl)) (tc53 _ (List.mem_of_getElem? (i := 16) rfl)) (by decide) rfl ⟨rfl, rfl, Nat.le_of_ble_eq_true rfl, Nat.le_of_ble_eq_true rfl⟩ ⟨Nat.le_of_ble_eq_true rfl, Nat.le_of_ble_eq_true rfl⟩ rfl (Nat.le_of_ble_eq_true rfl) rfl rfl rfl (dq dkX10_taken_1 10 rfl) ?_
          refine v_if_eq F (tgt := 102) (dq dkX10_taken_1 11 rfl) (by decide) (fun c12 => ?_) (fun c12 => ?_)
          · rw [if_pos c12] at h
            refine v_bipush F (v := (-13)) (dq dkX10_taken_1 14 rfl) kb_m13 ?_
            have h := Option.some.inj h
            subst h
            exact v_iret F E (dq dkX10_taken_1 15 rfl)
          · rw [if_neg c12] at h
            refine v_iload_n F (dq dkX10_taken_1 12 rfl) rfl 0 rfl ?_
            refine v_goto F (tgt := 104) (dq dkX10_taken_1 13 rfl) (by decide) ?_
            have h := Option.some.inj h
            subst h
            exact v_iret F E (dq dkX10_taken_1 15 rfl)
        · rw [if_pos c7] at h
          refine v_bipush F (v := (-11)) (dq dkX10_taken_1 3 rfl) kb_m11 ?_
          have h := Option.some.inj h
          subst h
          exact v_iret F E (dq dkX10_taken_1 4 rfl)
      · rw [if_neg c5] at h
        refine v_aload_n F (dq dkX10_taken_0 17 rfl) rfl 0 rfl ?_
        refine v_get F 0 (xn (by decide)) xc_0 rfl inlX10 4 (by decide) (tc2 _ (List.mem_of_getElem? (i := 8) rfl)) rfl rfl (dq dkX10_taken_0 18 rfl) ?_
        refine v_iload_n F (dq dkX10_taken_0 19 rfl) rfl 1 rfl ?_
        obtain ⟨r13, e14, h⟩ := bd_of h
        refine v_callV 1 F (q := 34) (kc1 := 0) (ks1 := 0) (as := [.int a1]) (st := []) (st1 := (va_rf (r13.map (fun q => K.1 + q)) :: [])) (res := (some (va_rf (r13.map (fun q => K.1 + q))))) (c_X1_at (l := C.2.1) x y a1 e14) (xn (by decide)) xc_34 rfl (tc43 _ (List.mem_of_getElem? (i := 13) rfl)) (tc43 _ (List.mem_of_getElem? (i := 14) rfl)) (tc43 _ (List.mem_of_getElem? (i := 15) rfl)) (tc2 _ (List.mem_of_getElem? (i := 7) rfl)) (tc43 _ (List.mem_of_getElem? (i := 16) rfl)) (by decide) rfl ⟨rfl, rfl, Nat.le_of_ble_eq_true rfl, Nat.le_of_ble_eq_true rfl⟩ ⟨Nat.le_of_ble_eq_true rfl, Nat.le_of_ble_eq_true rfl⟩ rfl (Nat.le_of_ble_eq_true rfl) rfl rfl rfl (dq dkX10_taken_0 20 rfl) ?_
        rcases r13 with _ | s15
        · have h := oc_nh h
          refine v_astore_nN F (ls' := [(3, .null), (0, .ref (K.1 + 0)), (1, .int a1), (2, .int a2)]) (dq dkX10_taken_0 21 rfl) rfl (by decide) rfl ?_
          refine v_aload_nN F (dq dkX10_taken_0 22 rfl) rfl 0 rfl ?_
          refine v_ifnonnullN F (dq dkX10_taken_0 23 rfl) ?_
          refine v_bipush F (v := (-11)) (dq dkX10_taken_0 24 rfl) kb_m11 ?_
          have h := Option.some.inj h
          subst h
          exact v_iret F E (dq dkX10_taken_0 25 rfl)
        · have h := oc_sh h
          refine v_astore_n F (ls' := [(3, .ref (K.1 + s15)), (0, .ref (K.1 + 0)), (1, .int a1), (2, .int a2)]) (dq dkX10_taken_0 21 rfl) rfl (by decide) rfl ?_
          refine v_aload_n F (dq dkX10_taken_0 22 rfl) rfl 0 rfl ?_
          refine v_ifnonnull F (tgt := 48) (dq dkX10_taken_0 23 rfl) (by decide) ?_
          refine v_iload_n F (dq dkX10_taken_0 26 rfl) rfl 3 rfl ?_
          refine v_bipush F (v := 6) (dq dkX10_taken_0 27 rfl) kb_6 ?_
          refine v_icmp_ne F (tgt := 61) (dq dkX10_taken_0 28 rfl) (by decide) (fun c16 => ?_) (fun c16 => ?_)
          · rw [if_neg c16] at h
            refine v_bipush F (v := (-13)) (dq dkX10_taken_0 32 rfl) kb_m13 ?_
            have h := Option.some.inj h
            subst h
            exact v_iret F E (dq dkX10_taken_0 33 rfl)
          · rw [if_pos c16] at h
            refine v_aload_n F (dq dkX10_taken_0 29 rfl) rfl 0 rfl ?_
            obtain ⟨g17, h⟩ := gd_of h
            refine v_getN F s15 (kTr_lt g17) (kTr_at g17) rfl inlX7 1 (by decide) (List.mem_of_getElem? (i := 21) rfl) rfl rfl (dq dkX10_taken_0 30 rfl) ?_
            refine v_goto F (tgt := 63) (dq dkX10_taken_0 31 rfl) (by decide) ?_
            have h := Option.some.inj h
            subst h
            exact v_iret F E (dq dkX10_taken_0 33 rfl)
    · rw [if_pos c4] at h
      refine v_bipush F (v := (-12)) (dq dkX10_taken_0 12 rfl) kb_m12 ?_
      have h := Option.some.inj h
      subst h
      exact v_iret F E (dq dkX10_taken_0 13 rfl)
  · rw [if_pos c2] at h
    refine v_bipush F (v := (-2)) (dq dkX10_taken_0 5 rfl) kb_m2 ?_
    have h := Option.some.inj h
    subst h
    exact v_iret F E (dq dkX10_taken_0 6 rfl)
def rm_X11_first : Room := { frames := 1, cells := 0, slots := 0, locals := 30 }
def f_X11_first (y : MS) (a1 : Int32) (a2 : Int32) (a3 : Int32) (a4 : Int32) (a5 : Int32) : Option (MS) := gd (ib a1 1200) (gd (ib (a1 + 1) 1200) (gd (ib (a1 + 2) 1200) (gd (ib (a1 + 3) 1200) (some (pi (pi (pi (pi y 72 a1.toNatClampNeg a2) 72 ((a1 + 1).toNatClampNeg) a3) 72 ((a1 + 2).toNatClampNeg) a4) 72 ((a1 + 3).toNatClampNeg) a5)))))
set_option maxRecDepth 100000 in
set_option maxHeartbeats 4000000 in
theorem c_X11_first {K : KE} {l : Launch} {R : MS} {nn : Nat} (x : CS) (y : MS) (a1 : Int32) (a2 : Int32) (a3 : Int32) (a4 : Int32) (a5 : Int32) (h : f_X11_first y a1 a2 a3 a4 a5 = some R) : MC K l yX11_first cX11_first 6 none rm_X11_first 0 0 [.ref (K.1 + 61), .int a1, .int a2, .int a3, .int a4, .int a5] (xfM K nn x y) (xfM K nn x R) none := by
  unfold f_X11_first at h
  refine mc_of (ls0 := [(0, .ref (K.1 + 61)), (1, .int a1), (2, .int a2), (3, .int a3), (4, .int a4), (5, .int a5)]) (by decide) (Nat.le_of_ble_eq_true rfl) rfl (fun C hl hnm F E => ?_)
  have F : Fx C RX11 cX11_first 6 rm_X11_first K := F
  refine v_aload_n F (dq dkX11_first_0 0 rfl) rfl 0 rfl ?_
  refine v_get F 61 (xnM (by decide)) xc_61 rfl inlX11 18 (by decide) (tc12 _ (List.mem_of_getElem? (i := 6) rfl)) rfl rfl (dq dkX11_first_0 1 rfl) ?_
  refine v_iload_n F (dq dkX11_first_0 2 rfl) rfl 1 rfl ?_
  refine v_iload_n F (dq dkX11_first_0 3 rfl) rfl 2 rfl ?_
  obtain ⟨g1, h⟩ := gd_of h
  refine v_iast F 72 (xnM (by decide)) xc_72 (ib_in g1) (dq dkX11_first_0 4 rfl) ?_
  refine v_eqM (xwM (q := 72) (j := a1.toNatClampNeg) (v := a2) (by decide) (by decide) rfl) ?_
  refine v_aload_n F (dq dkX11_first_0 5 rfl) rfl 0 rfl ?_
  refine v_get F 61 (xnM (by decide)) xc_61 rfl inlX11 18 (by decide) (tc12 _ (List.mem_of_getElem? (i := 6) rfl)) rfl rfl (dq dkX11_first_0 6 rfl) ?_
  refine v_iload_n F (dq dkX11_first_0 7 rfl) rfl 1 rfl ?_
  refine v_iconst F (v := 1) (dq dkX11_first_0 8 rfl) ki_1 ?_
  refine v_iadd F (dq dkX11_first_0 9 rfl) ?_
  refine v_iload_n F (dq dkX11_first_0 10 rfl) rfl 3 rfl ?_
  obtain ⟨g2, h⟩ := gd_of h
  refine v_iast F 72 (xnM (by decide)) xc_72 (ib_in g2) (dq dkX11_first_0 11 rfl) ?_
  refine v_eqM (xwM (q := 72) (j := (a1 + 1).toNatClampNeg) (v := a3) (by decide) (by decide) rfl) ?_
  refine v_aload_n F (dq dkX11_first_0 12 rfl) rfl 0 rfl ?_
  refine v_get F 61 (xnM (by decide)) xc_61 rfl inlX11 18 (by decide) (tc12 _ (List.mem_of_getElem? (i := 6) rfl)) rfl rfl (dq dkX11_first_0 13 rfl) ?_
  refine v_iload_n F (dq dkX11_first_0 14 rfl) rfl 1 rfl ?_
  refine v_iconst F (v := 2) (dq dkX11_first_0 15 rfl) ki_2 ?_
  refine v_iadd F (dq dkX11_first_0 16 rfl) ?_
  refine v_iload F (dq dkX11_first_0 17 rfl) 4 rfl ?_
  obtain ⟨g3, h⟩ := gd_of h
  refine v_iast F 72 (xnM (by decide)) xc_72 (ib_in g3) (dq dkX11_first_0 18 rfl) ?_
  refine v_eqM (xwM (q := 72) (j := (a1 + 2).toNatClampNeg) (v := a4) (by decide) (by decide) rfl) ?_
  refine v_aload_n F (dq dkX11_first_0 19 rfl) rfl 0 rfl ?_
  refine v_get F 61 (xnM (by decide)) xc_61 rfl inlX11 18 (by decide) (tc12 _ (List.mem_of_getElem? (i := 6) rfl)) rfl rfl (dq dkX11_first_0 20 rfl) ?_
  refine v_iload_n F (dq dkX11_first_0 21 rfl) rfl 1 rfl ?_
  refine v_iconst F (v := 3) (dq dkX11_first_0 22 rfl) ki_3 ?_
  refine v_iadd F (dq dkX11_first_0 23 rfl) ?_
  refine v_iload F (dq dkX11_first_0 24 rfl) 5 rfl ?_
  obtain ⟨g4, h⟩ := gd_of h
  refine v_iast F 72 (xnM (by decide)) xc_72 (ib_in g4) (dq dkX11_first_0 25 rfl) ?_
  refine v_eqM (xwM (q := 72) (j := (a1 + 3).toNatClampNeg) (v := a5) (by decide) (by decide) rfl) ?_
  have h := Option.some.inj h
  subst h
  exact v_vret F E (dq dkX11_first_0 26 rfl)
def rm_X11_in : Room := { frames := 1, cells := 0, slots := 0, locals := 30 }
def f_X11_in_14 : Bool := false
set_option maxRecDepth 100000 in
set_option maxHeartbeats 4000000 in
theorem t_X11_in_14 {C : Cx} {K : KE} {M : GM} {R : Bool}  (h : f_X11_in_14  = R) (F : Fx C RX11 cX11_in 3 rm_X11_in K) (E : CE C M (some (.int (b2i R))) 0 0 (some .boolean)) : V C 14 [] [] M 0 0 := by
  unfold f_X11_in_14 at h
  refine v_iconst F (v := 0) (dq dkX11_in_0 8 rfl) ki_0 ?_
  subst h
  exact v_zret F E (b2i_n false) (dq dkX11_in_0 9 rfl)
def f_X11_in (a0 : Int32) (a1 : Int32) (a2 : Int32) : Bool := if a0 < a1 then f_X11_in_14 else (if a2 < a0 then f_X11_in_14 else true)
set_option maxRecDepth 100000 in
set_option maxHeartbeats 4000000 in
theorem c_X11_in {K : KE} {l : Launch} {M : GM} (a0 : Int32) (a1 : Int32) (a2 : Int32) : MC K l yX11_in cX11_in 3 (some .boolean) rm_X11_in 0 0 [.int a0, .int a1, .int a2] M M (some (.int (b2i (f_X11_in a0 a1 a2)))) := by
  obtain ⟨R, h⟩ : ∃ R, f_X11_in a0 a1 a2 = R := ⟨_, rfl⟩
  rw [h]
  unfold f_X11_in at h
  refine mc_of (ls0 := [(0, .int a0), (1, .int a1), (2, .int a2)]) (by decide) (Nat.le_of_ble_eq_true rfl) rfl (fun C hl hnm F E => ?_)
  have F : Fx C RX11 cX11_in 3 rm_X11_in K := F
  refine v_iload_n F (dq dkX11_in_0 0 rfl) rfl 0 rfl ?_
  refine v_iload_n F (dq dkX11_in_0 1 rfl) rfl 1 rfl ?_
  refine v_icmp_lt F (tgt := 14) (dq dkX11_in_0 2 rfl) (by decide) (fun c1 => ?_) (fun c1 => ?_)
  · rw [if_pos c1] at h
    refine v_sub [] rfl ?_
    exact t_X11_in_14 h F E
  · rw [if_neg c1] at h
    refine v_iload_n F (dq dkX11_in_0 3 rfl) rfl 0 rfl ?_
    refine v_iload_n F (dq dkX11_in_0 4 rfl) rfl 2 rfl ?_
    refine v_icmp_gt F (tgt := 14) (dq dkX11_in_0 5 rfl) (by decide) (fun c2 => ?_) (fun c2 => ?_)
    · rw [if_pos c2] at h
      refine v_sub [] rfl ?_
      exact t_X11_in_14 h F E
    · rw [if_neg c2] at h
      refine v_iconst F (v := 1) (dq dkX11_in_0 6 rfl) ki_1 ?_
      refine v_goto F (tgt := 15) (dq dkX11_in_0 7 rfl) (by decide) ?_
      subst h
      exact v_zret F E (b2i_n true) (dq dkX11_in_0 9 rfl)
def rm_X11_isSection : Room := { frames := 2, cells := 0, slots := 0, locals := 52 }
def f_X11_isSection (a0 : Int32) : Bool := (f_X11_in a0 0 8)
set_option maxRecDepth 100000 in
set_option maxHeartbeats 4000000 in
theorem c_X11_isSection {K : KE} {l : Launch} {M : GM} (a0 : Int32) : MC K l yX11_isSection cX11_isSection 1 (some .boolean) rm_X11_isSection 0 0 [.int a0] M M (some (.int (b2i (f_X11_isSection a0)))) := by
  obtain ⟨R, h⟩ : ∃ R, f_X11_isSection a0 = R := ⟨_, rfl⟩
  rw [h]
  unfold f_X11_isSection at h
  refine mc_of (ls0 := [(0, .int a0)]) (by decide) (Nat.le_of_ble_eq_true rfl) rfl (fun C hl hnm F E => ?_)
  have F : Fx C RX11 cX11_isSection 1 rm_X11_isSection K := F
  refine v_iload_n F (dq dkX11_isSection_0 0 rfl) rfl 0 rfl ?_
  refine v_iconst F (v := 0) (dq dkX11_isSection_0 1 rfl) ki_0 ?_
  refine v_bipush F (v := 8) (dq dkX11_isSection_0 2 rfl) kb_8 ?_
  refine v_callS 3 F (kc1 := 0) (ks1 := 0) (as := [.int a0, .int 0, .int 8]) (st := []) (st1 := (.int (b2i (f_X11_in a0 0 8)) :: [])) (res := (some (.int (b2i (f_X11_in a0 0 8))))) (c_X11_in (l := C.2.1) a0 0 8) (tc15 _ (List.mem_of_getElem? (i := 1) rfl)) (tc15 _ (List.mem_of_getElem? (i := 2) rfl)) (tc1 _ (List.mem_of_getElem? (i := 5) rfl)) (tc15 _ (List.mem_of_getElem? (i := 3) rfl)) (by decide) rfl ⟨rfl, rfl, Nat.le_of_ble_eq_true rfl, Nat.le_of_ble_eq_true rfl⟩ ⟨Nat.le_of_ble_eq_true rfl, Nat.le_of_ble_eq_true rfl⟩ rfl (Nat.le_of_ble_eq_true rfl) rfl rfl rfl (dq dkX11_isSection_0 3 rfl) ?_
  subst h
  exact v_zret F E (b2i_n (f_X11_in a0 0 8)) (dq dkX11_isSection_0 4 rfl)
def rm_X11_areWorks : Room := { frames := 2, cells := 0, slots := 0, locals := 52 }
def f_X11_areWorks (y : MS) (a1 : Int32) : Bool := (f_X11_in a1 0 (gi y 61 6))
set_option maxRecDepth 100000 in
set_option maxHeartbeats 4000000 in
theorem c_X11_areWorks {K : KE} {l : Launch} {nn : Nat} (x : CS) (y : MS) (a1 : Int32) : MC K l yX11_areWorks cX11_areWorks 2 (some .boolean) rm_X11_areWorks 0 0 [.ref (K.1 + 61), .int a1] (xfM K nn x y) (xfM K nn x y) (some (.int (b2i (f_X11_areWorks y a1)))) := by
  obtain ⟨R, h⟩ : ∃ R, f_X11_areWorks y a1 = R := ⟨_, rfl⟩
  rw [h]
  unfold f_X11_areWorks at h
  refine mc_of (ls0 := [(0, .ref (K.1 + 61)), (1, .int a1)]) (by decide) (Nat.le_of_ble_eq_true rfl) rfl (fun C hl hnm F E => ?_)
  have F : Fx C RX11 cX11_areWorks 2 rm_X11_areWorks K := F
  refine v_iload_n F (dq dkX11_areWorks_0 0 rfl) rfl 1 rfl ?_
  refine v_iconst F (v := 0) (dq dkX11_areWorks_0 1 rfl) ki_0 ?_
  refine v_aload_n F (dq dkX11_areWorks_0 2 rfl) rfl 0 rfl ?_
  refine v_get F 61 (xnM (by decide)) xc_61 rfl inlX11 6 (by decide) (tc16 _ (List.mem_of_getElem? (i := 16) rfl)) rfl rfl (dq dkX11_areWorks_0 3 rfl) ?_
  refine v_callS 3 F (kc1 := 0) (ks1 := 0) (as := [.int a1, .int 0, .int (gi y 61 6)]) (st := []) (st1 := (.int (b2i (f_X11_in a1 0 (gi y 61 6))) :: [])) (res := (some (.int (b2i (f_X11_in a1 0 (gi y 61 6)))))) (c_X11_in (l := C.2.1) a1 0 (gi y 61 6)) (tc15 _ (List.mem_of_getElem? (i := 1) rfl)) (tc15 _ (List.mem_of_getElem? (i := 2) rfl)) (tc1 _ (List.mem_of_getElem? (i := 5) rfl)) (tc15 _ (List.mem_of_getElem? (i := 3) rfl)) (by decide) rfl ⟨rfl, rfl, Nat.le_of_ble_eq_true rfl, Nat.le_of_ble_eq_true rfl⟩ ⟨Nat.le_of_ble_eq_true rfl, Nat.le_of_ble_eq_true rfl⟩ rfl (Nat.le_of_ble_eq_true rfl) rfl rfl rfl (dq dkX11_areWorks_0 4 rfl) ?_
  subst h
  exact v_zret F E (b2i_n (f_X11_in a1 0 (gi y 61 6))) (dq dkX11_areWorks_0 5 rfl)
def rm_X11_size : Room := { frames := 1, cells := 0, slots := 0, locals := 30 }
def f_X11_size (a0 : Int32) : Int32 := if 0 ≤ a0 then a0 else (-a0)
set_option maxRecDepth 100000 in
set_option maxHeartbeats 4000000 in
theorem c_X11_size {K : KE} {l : Launch} {M : GM} (a0 : Int32) : MC K l yX11_size cX11_size 1 (some .int) rm_X11_size 0 0 [.int a0] M M (some (.int (f_X11_size a0))) := by
  obtain ⟨R, h⟩ : ∃ R, f_X11_size a0 = R := ⟨_, rfl⟩
  rw [h]
  unfold f_X11_size at h
  refine mc_of (ls0 := [(0, .int a0)]) (by decide) (Nat.le_of_ble_eq_true rfl) rfl (fun C hl hnm F E => ?_)
  have F : Fx C RX11 cX11_size 1 rm_X11_size K := F
  refine v_iload_n F (dq dkX11_size_0 0 rfl) rfl 0 rfl ?_
  refine v_if_ge F (tgt := 9) (dq dkX11_size_0 1 rfl) (by decide) (fun c1 => ?_) (fun c1 => ?_)
  · rw [if_pos c1] at h
    refine v_iload_n F (dq dkX11_size_0 5 rfl) rfl 0 rfl ?_
    subst h
    exact v_iret F E (dq dkX11_size_0 6 rfl)
  · rw [if_neg c1] at h
    refine v_iload_n F (dq dkX11_size_0 2 rfl) rfl 0 rfl ?_
    refine v_ineg F (dq dkX11_size_0 3 rfl) ?_
    refine v_goto F (tgt := 10) (dq dkX11_size_0 4 rfl) (by decide) ?_
    subst h
    exact v_iret F E (dq dkX11_size_0 6 rfl)
def rm_X11_carve : Room := { frames := 3, cells := 0, slots := 0, locals := 72 }
def f_X11_carve_75 (y : MS) : Option (Int32 × MS) := some ((-7), y)
set_option maxRecDepth 100000 in
set_option maxHeartbeats 4000000 in
theorem t_X11_carve_75 {C : Cx} {K : KE} {nn : Nat} {x : CS} {R : Int32 × MS}  (y : MS) (h : f_X11_carve_75 y = some R) (F : Fx C RX11 cX11_carve 7 rm_X11_carve K) (E : CE C (xfM K nn x R.2) (some (.int R.1)) 0 0 (some .int)) : V C 75 [] [] (xfM K nn x y) 0 0 := by
  unfold f_X11_carve_75 at h
  refine v_bipush F (v := (-7)) (dq dkX11_carve_1 0 rfl) kb_m7 ?_
  have h := Option.some.inj h
  subst h
  exact v_iret F E (dq dkX11_carve_1 1 rfl)
def f_X11_carve_53 (y : MS) (a1 : Int32) (a2 : Int32) (a3 : Int32) (a4 : Int32) (s0 : Int32) : Option (Int32 × MS) := if (b2i (f_X11_in a2 0 5)) = 0 then (f_X11_carve_75 y) else (if (b2i (f_X11_in a3 a4 s0)) = 0 then (f_X11_carve_75 y) else (gd (ib ((9 * a2) + a1) 54) (gd (ib ((9 * a2) + a1) 54) (some (gi y 62 ((9 * a2) + a1).toNatClampNeg, pi y 62 (((9 * a2) + a1).toNatClampNeg) a3)))))
set_option maxRecDepth 100000 in
set_option maxHeartbeats 4000000 in
theorem t_X11_carve_53 {C : Cx} {K : KE} {nn : Nat} {x : CS} {R : Int32 × MS}  (y : MS) (a1 : Int32) (a2 : Int32) (a3 : Int32) (a4 : Int32) (s0 : Int32) (h : f_X11_carve_53 y a1 a2 a3 a4 s0 = some R) (F : Fx C RX11 cX11_carve 7 rm_X11_carve K) (E : CE C (xfM K nn x R.2) (some (.int R.1)) 0 0 (some .int)) : V C 53 [(0, .ref (K.1 + 61)), (1, .int a1), (2, .int a2), (3, .int a3), (4, .int a4)] [.int s0] (xfM K nn x y) 0 0 := by
  unfold f_X11_carve_53 at h
  refine v_istore F (ls' := [(5, .int s0), (0, .ref (K.1 + 61)), (1, .int a1), (2, .int a2), (3, .int a3), (4, .int a4)]) (dq dkX11_carve_0 29 rfl) (by decide) rfl ?_
  refine v_iload_n F (dq dkX11_carve_0 30 rfl) rfl 3 rfl ?_
  refine v_iconst F (v := 0) (dq dkX11_carve_0 31 rfl) ki_0 ?_
  refine v_iconst F (v := 5) (dq dkX11_carve_0 32 rfl) ki_5 ?_
  refine v_callS 3 F (kc1 := 0) (ks1 := 0) (as := [.int a2, .int 0, .int 5]) (st := []) (st1 := (.int (b2i (f_X11_in a2 0 5)) :: [])) (res := (some (.int (b2i (f_X11_in a2 0 5))))) (c_X11_in (l := C.2.1) a2 0 5) (tc15 _ (List.mem_of_getElem? (i := 1) rfl)) (tc15 _ (List.mem_of_getElem? (i := 2) rfl)) (tc1 _ (List.mem_of_getElem? (i := 5) rfl)) (tc15 _ (List.mem_of_getElem? (i := 3) rfl)) (by decide) rfl ⟨rfl, rfl, Nat.le_of_ble_eq_true rfl, Nat.le_of_ble_eq_true rfl⟩ ⟨Nat.le_of_ble_eq_true rfl, Nat.le_of_ble_eq_true rfl⟩ rfl (Nat.le_of_ble_eq_true rfl) rfl rfl rfl (dq dkX11_carve_0 33 rfl) ?_
  refine v_if_eq F (tgt := 75) (dq dkX11_carve_0 34 rfl) (by decide) (fun c2 => ?_) (fun c2 => ?_)
  · rw [if_pos c2] at h
    refine v_sub [] rfl ?_
    exact t_X11_carve_75 y h F E
  · rw [if_neg c2] at h
    refine v_iload_n F (dq dkX11_carve_0 35 rfl) rfl 4 rfl ?_
    refine v_iload F (dq dkX11_carve_0 36 rfl) 5 rfl ?_
    refine v_iload F (dq dkX11_carve_0 37 rfl) 0 rfl ?_
    refine v_callS 3 F (kc1 := 0) (ks1 := 0) (as := [.int a3, .int a4, .int s0]) (st := []) (st1 := (.int (b2i (f_X11_in a3 a4 s0)) :: [])) (res := (some (.int (b2i (f_X11_in a3 a4 s0))))) (c_X11_in (l := C.2.1) a3 a4 s0) (tc15 _ (List.mem_of_getElem? (i := 1) rfl)) (tc15 _ (List.mem_of_getElem? (i := 2) rfl)) (tc1 _ (List.mem_of_getElem? (i := 5) rfl)) (tc15 _ (List.mem_of_getElem? (i := 3) rfl)) (by decide) rfl ⟨rfl, rfl, Nat.le_of_ble_eq_true rfl, Nat.le_of_ble_eq_true rfl⟩ ⟨Nat.le_of_ble_eq_true rfl, Nat.le_of_ble_eq_true rfl⟩ rfl (Nat.le_of_ble_eq_true rfl) rfl rfl rfl (dq dkX11_carve_0 38 rfl) ?_
    refine v_if_ne F (tgt := 78) (dq dkX11_carve_0 39 rfl) (by decide) (fun c4 => ?_) (fun c4 => ?_)
    · rw [if_neg c4] at h
      refine v_aload_n F (dq dkX11_carve_1 2 rfl) rfl 1 rfl ?_
      refine v_get F 61 (xnM (by decide)) xc_61 rfl inlX11 0 (by decide) (tc11 _ (List.mem_of_getElem? (i := 17) rfl)) rfl rfl (dq dkX11_carve_1 3 rfl) ?_
      refine v_bipush F (v := 9) (dq dkX11_carve_1 4 rfl) kb_9 ?_
      refine v_iload_n F (dq dkX11_carve_1 5 rfl) rfl 3 rfl ?_
      refine v_imul F (dq dkX11_carve_1 6 rfl) ?_
      refine v_iload_n F (dq dkX11_carve_1 7 rfl) rfl 2 rfl ?_
      refine v_iadd F (dq dkX11_carve_1 8 rfl) ?_
      obtain ⟨g5, h⟩ := gd_of h
      refine v_iald F 62 (xnM (by decide)) xc_62 (ib_in g5) (dq dkX11_carve_1 9 rfl) ?_
      refine v_istore F (ls' := [(6, .int (gi y 62 ((9 * a2) + a1).toNatClampNeg)), (5, .int s0), (0, .ref (K.1 + 61)), (1, .int a1), (2, .int a2), (3, .int a3), (4, .int a4)]) (dq dkX11_carve_1 10 rfl) (by decide) rfl ?_
      refine v_aload_n F (dq dkX11_carve_1 11 rfl) rfl 2 rfl ?_
      refine v_get F 61 (xnM (by decide)) xc_61 rfl inlX11 0 (by decide) (tc11 _ (List.mem_of_getElem? (i := 17) rfl)) rfl rfl (dq dkX11_carve_1 12 rfl) ?_
      refine v_bipush F (v := 9) (dq dkX11_carve_1 13 rfl) kb_9 ?_
      refine v_iload_n F (dq dkX11_carve_1 14 rfl) rfl 4 rfl ?_
      refine v_imul F (dq dkX11_carve_1 15 rfl) ?_
      refine v_iload_n F (dq dkX11_carve_1 16 rfl) rfl 3 rfl ?_
      refine v_iadd F (dq dkX11_carve_1 17 rfl) ?_
      refine v_iload_n F (dq dkX11_carve_1 18 rfl) rfl 5 rfl ?_
      obtain ⟨g6, h⟩ := gd_of h
      refine v_iast F 62 (xnM (by decide)) xc_62 (ib_in g6) (dq dkX11_carve_1 19 rfl) ?_
      refine v_eqM (xwM (q := 62) (j := ((9 * a2) + a1).toNatClampNeg) (v := a3) (by decide) (by decide) rfl) ?_
      refine v_iload F (dq dkX11_carve_1 20 rfl) 0 rfl ?_
      have h := Option.some.inj h
      subst h
      exact v_iret F E (dq dkX11_carve_1 21 rfl)
    · rw [if_pos c4] at h
      refine v_sub [] rfl ?_
      exact t_X11_carve_75 y h F E
def f_X11_carve_37 (y : MS) (a1 : Int32) (a2 : Int32) (a3 : Int32) (a4 : Int32) : Option (Int32 × MS) := f_X11_carve_53 y a1 a2 a3 a4 20
set_option maxRecDepth 100000 in
set_option maxHeartbeats 4000000 in
theorem t_X11_carve_37 {C : Cx} {K : KE} {nn : Nat} {x : CS} {R : Int32 × MS}  (y : MS) (a1 : Int32) (a2 : Int32) (a3 : Int32) (a4 : Int32) (h : f_X11_carve_37 y a1 a2 a3 a4 = some R) (F : Fx C RX11 cX11_carve 7 rm_X11_carve K) (E : CE C (xfM K nn x R.2) (some (.int R.1)) 0 0 (some .int)) : V C 37 [(0, .ref (K.1 + 61)), (1, .int a1), (2, .int a2), (3, .int a3), (4, .int a4)] [] (xfM K nn x y) 0 0 := by
  unfold f_X11_carve_37 at h
  refine v_bipush F (v := 20) (dq dkX11_carve_0 21 rfl) kb_20 ?_
  refine v_goto F (tgt := 53) (dq dkX11_carve_0 22 rfl) (by decide) ?_
  exact t_X11_carve_53 y a1 a2 a3 a4 20 h F E
def f_X11_carve_25 (y : MS) (a1 : Int32) (a2 : Int32) (a3 : Int32) (s0 : Int32) : Option (Int32 × MS) := if a2 = 1 then (f_X11_carve_37 y a1 a2 a3 s0) else (if a2 = 5 then (f_X11_carve_37 y a1 a2 a3 s0) else (if a2 = 4 then (f_X11_carve_53 y a1 a2 a3 s0 1) else (f_X11_carve_53 y a1 a2 a3 s0 99)))
set_option maxRecDepth 100000 in
set_option maxHeartbeats 4000000 in
theorem t_X11_carve_25 {C : Cx} {K : KE} {nn : Nat} {x : CS} {R : Int32 × MS}  (y : MS) (a1 : Int32) (a2 : Int32) (a3 : Int32) (s0 : Int32) (h : f_X11_carve_25 y a1 a2 a3 s0 = some R) (F : Fx C RX11 cX11_carve 7 rm_X11_carve K) (E : CE C (xfM K nn x R.2) (some (.int R.1)) 0 0 (some .int)) : V C 25 [(0, .ref (K.1 + 61)), (1, .int a1), (2, .int a2), (3, .int a3)] [.int s0] (xfM K nn x y) 0 0 := by
  unfold f_X11_carve_25 at h
  refine v_istore F (ls' := [(4, .int s0), (0, .ref (K.1 + 61)), (1, .int a1), (2, .int a2), (3, .int a3)]) (dq dkX11_carve_0 14 rfl) (by decide) rfl ?_
  refine v_iload_n F (dq dkX11_carve_0 15 rfl) rfl 3 rfl ?_
  refine v_iconst F (v := 1) (dq dkX11_carve_0 16 rfl) ki_1 ?_
  refine v_icmp_eq F (tgt := 37) (dq dkX11_carve_0 17 rfl) (by decide) (fun c7 => ?_) (fun c7 => ?_)
  · rw [if_pos c7] at h
    refine v_sub [1, 2, 3, 4, 0] rfl ?_
    exact t_X11_carve_37 y a1 a2 a3 s0 h F E
  · rw [if_neg c7] at h
    refine v_iload_n F (dq dkX11_carve_0 18 rfl) rfl 3 rfl ?_
    refine v_iconst F (v := 5) (dq dkX11_carve_0 19 rfl) ki_5 ?_
    refine v_icmp_ne F (tgt := 42) (dq dkX11_carve_0 20 rfl) (by decide) (fun c8 => ?_) (fun c8 => ?_)
    · rw [if_neg c8] at h
      refine v_iload_n F (dq dkX11_carve_0 23 rfl) rfl 3 rfl ?_
      refine v_iconst F (v := 4) (dq dkX11_carve_0 24 rfl) ki_4 ?_
      refine v_icmp_ne F (tgt := 51) (dq dkX11_carve_0 25 rfl) (by decide) (fun c9 => ?_) (fun c9 => ?_)
      · rw [if_neg c9] at h
        refine v_bipush F (v := 99) (dq dkX11_carve_0 28 rfl) kb_99 ?_
        refine v_sub [1, 2, 3, 4, 0] rfl ?_
        exact t_X11_carve_53 y a1 a2 a3 s0 99 h F E
      · rw [if_pos c9] at h
        refine v_iconst F (v := 1) (dq dkX11_carve_0 26 rfl) ki_1 ?_
        refine v_goto F (tgt := 53) (dq dkX11_carve_0 27 rfl) (by decide) ?_
        refine v_sub [1, 2, 3, 4, 0] rfl ?_
        exact t_X11_carve_53 y a1 a2 a3 s0 1 h F E
    · rw [if_pos c8] at h
      refine v_sub [1, 2, 3, 4, 0] rfl ?_
      exact t_X11_carve_37 y a1 a2 a3 s0 h F E
def f_X11_carve_20 (y : MS) (a1 : Int32) (a2 : Int32) (a3 : Int32) : Option (Int32 × MS) := f_X11_carve_25 y a1 a2 a3 0
set_option maxRecDepth 100000 in
set_option maxHeartbeats 4000000 in
theorem t_X11_carve_20 {C : Cx} {K : KE} {nn : Nat} {x : CS} {R : Int32 × MS}  (y : MS) (a1 : Int32) (a2 : Int32) (a3 : Int32) (h : f_X11_carve_20 y a1 a2 a3 = some R) (F : Fx C RX11 cX11_carve 7 rm_X11_carve K) (E : CE C (xfM K nn x R.2) (some (.int R.1)) 0 0 (some .int)) : V C 20 [(0, .ref (K.1 + 61)), (1, .int a1), (2, .int a2), (3, .int a3)] [] (xfM K nn x y) 0 0 := by
  unfold f_X11_carve_20 at h
  refine v_iconst F (v := 0) (dq dkX11_carve_0 11 rfl) ki_0 ?_
  refine v_goto F (tgt := 25) (dq dkX11_carve_0 12 rfl) (by decide) ?_
  exact t_X11_carve_25 y a1 a2 a3 0 h F E
def f_X11_carve (y : MS) (a1 : Int32) (a2 : Int32) (a3 : Int32) : Option (Int32 × MS) := if (b2i (f_X11_isSection a1)) = 0 then (some ((-5), y)) else (if a2 = 4 then (f_X11_carve_20 y a1 a2 a3) else (if a2 = 5 then (f_X11_carve_20 y a1 a2 a3) else (f_X11_carve_25 y a1 a2 a3 1)))
set_option maxRecDepth 100000 in
set_option maxHeartbeats 4000000 in
theorem c_X11_carve {K : KE} {l : Launch} {R : Int32 × MS} {nn : Nat} (x : CS) (y : MS) (a1 : Int32) (a2 : Int32) (a3 : Int32) (h : f_X11_carve y a1 a2 a3 = some R) : MC K l yX11_carve cX11_carve 7 (some .int) rm_X11_carve 0 0 [.ref (K.1 + 61), .int a1, .int a2, .int a3] (xfM K nn x y) (xfM K nn x R.2) (some (.int R.1)) := by
  unfold f_X11_carve at h
  refine mc_of (ls0 := [(0, .ref (K.1 + 61)), (1, .int a1), (2, .int a2), (3, .int a3)]) (by decide) (Nat.le_of_ble_eq_true rfl) rfl (fun C hl hnm F E => ?_)
  have F : Fx C RX11 cX11_carve 7 rm_X11_carve K := F
  refine v_iload_n F (dq dkX11_carve_0 0 rfl) rfl 1 rfl ?_
  refine v_callS 1 F (kc1 := 0) (ks1 := 0) (as := [.int a1]) (st := []) (st1 := (.int (b2i (f_X11_isSection a1)) :: [])) (res := (some (.int (b2i (f_X11_isSection a1))))) (c_X11_isSection (l := C.2.1) a1) (tc14 _ (List.mem_of_getElem? (i := 22) rfl)) (tc14 _ (List.mem_of_getElem? (i := 23) rfl)) (tc1 _ (List.mem_of_getElem? (i := 5) rfl)) (tc15 _ (List.mem_of_getElem? (i := 0) rfl)) (by decide) rfl ⟨rfl, rfl, Nat.le_of_ble_eq_true rfl, Nat.le_of_ble_eq_true rfl⟩ ⟨Nat.le_of_ble_eq_true rfl, Nat.le_of_ble_eq_true rfl⟩ rfl (Nat.le_of_ble_eq_true rfl) rfl rfl rfl (dq dkX11_carve_0 1 rfl) ?_
  refine v_if_ne F (tgt := 10) (dq dkX11_carve_0 2 rfl) (by decide) (fun c11 => ?_) (fun c11 => ?_)
  · rw [if_neg c11] at h
    refine v_iload_n F (dq dkX11_carve_0 5 rfl) rfl 2 rfl ?_
    refine v_iconst F (v := 4) (dq dkX11_carve_0 6 rfl) ki_4 ?_
    refine v_icmp_eq F (tgt := 20) (dq dkX11_carve_0 7 rfl) (by decide) (fun c12 => ?_) (fun c12 => ?_)
    · rw [if_pos c12] at h
      exact t_X11_carve_20 y a1 a2 a3 h F E
    · rw [if_neg c12] at h
      refine v_iload_n F (dq dkX11_carve_0 8 rfl) rfl 2 rfl ?_
      refine v_iconst F (v := 5) (dq dkX11_carve_0 9 rfl) ki_5 ?_
      refine v_icmp_ne F (tgt := 24) (dq dkX11_carve_0 10 rfl) (by decide) (fun c13 => ?_) (fun c13 => ?_)
      · rw [if_neg c13] at h
        refine v_iconst F (v := 1) (dq dkX11_carve_0 13 rfl) ki_1 ?_
        exact t_X11_carve_25 y a1 a2 a3 1 h F E
      · rw [if_pos c13] at h
        exact t_X11_carve_20 y a1 a2 a3 h F E
  · rw [if_pos c11] at h
    refine v_bipush F (v := (-5)) (dq dkX11_carve_0 3 rfl) kb_m5 ?_
    have h := Option.some.inj h
    subst h
    exact v_iret F E (dq dkX11_carve_0 4 rfl)
def rm_X11_carved : Room := { frames := 3, cells := 0, slots := 0, locals := 72 }
def f_X11_carved (y : MS) (a1 : Int32) (a2 : Int32) : Option (Int32) := if (b2i (f_X11_isSection a1)) = 0 then (some (-5)) else (if (b2i (f_X11_in a2 0 5)) = 0 then (some (-7)) else (gd (ib ((9 * a2) + a1) 54) (some (gi y 62 ((9 * a2) + a1).toNatClampNeg))))
set_option maxRecDepth 100000 in
set_option maxHeartbeats 4000000 in
theorem c_X11_carved {K : KE} {l : Launch} {R : Int32} {nn : Nat} (x : CS) (y : MS) (a1 : Int32) (a2 : Int32) (h : f_X11_carved y a1 a2 = some R) : MC K l yX11_carved cX11_carved 3 (some .int) rm_X11_carved 0 0 [.ref (K.1 + 61), .int a1, .int a2] (xfM K nn x y) (xfM K nn x y) (some (.int R)) := by
  unfold f_X11_carved at h
  refine mc_of (ls0 := [(0, .ref (K.1 + 61)), (1, .int a1), (2, .int a2)]) (by decide) (Nat.le_of_ble_eq_true rfl) rfl (fun C hl hnm F E => ?_)
  have F : Fx C RX11 cX11_carved 3 rm_X11_carved K := F
  refine v_iload_n F (dq dkX11_carved_0 0 rfl) rfl 1 rfl ?_
  refine v_callS 1 F (kc1 := 0) (ks1 := 0) (as := [.int a1]) (st := []) (st1 := (.int (b2i (f_X11_isSection a1)) :: [])) (res := (some (.int (b2i (f_X11_isSection a1))))) (c_X11_isSection (l := C.2.1) a1) (tc14 _ (List.mem_of_getElem? (i := 22) rfl)) (tc14 _ (List.mem_of_getElem? (i := 23) rfl)) (tc1 _ (List.mem_of_getElem? (i := 5) rfl)) (tc15 _ (List.mem_of_getElem? (i := 0) rfl)) (by decide) rfl ⟨rfl, rfl, Nat.le_of_ble_eq_true rfl, Nat.le_of_ble_eq_true rfl⟩ ⟨Nat.le_of_ble_eq_true rfl, Nat.le_of_ble_eq_true rfl⟩ rfl (Nat.le_of_ble_eq_true rfl) rfl rfl rfl (dq dkX11_carved_0 1 rfl) ?_
  refine v_if_ne F (tgt := 12) (dq dkX11_carved_0 2 rfl) (by decide) (fun c2 => ?_) (fun c2 => ?_)
  · rw [if_neg c2] at h
    refine v_iload_n F (dq dkX11_carved_0 5 rfl) rfl 2 rfl ?_
    refine v_iconst F (v := 0) (dq dkX11_carved_0 6 rfl) ki_0 ?_
    refine v_iconst F (v := 5) (dq dkX11_carved_0 7 rfl) ki_5 ?_
    refine v_callS 3 F (kc1 := 0) (ks1 := 0) (as := [.int a2, .int 0, .int 5]) (st := []) (st1 := (.int (b2i (f_X11_in a2 0 5)) :: [])) (res := (some (.int (b2i (f_X11_in a2 0 5))))) (c_X11_in (l := C.2.1) a2 0 5) (tc15 _ (List.mem_of_getElem? (i := 1) rfl)) (tc15 _ (List.mem_of_getElem? (i := 2) rfl)) (tc1 _ (List.mem_of_getElem? (i := 5) rfl)) (tc15 _ (List.mem_of_getElem? (i := 3) rfl)) (by decide) rfl ⟨rfl, rfl, Nat.le_of_ble_eq_true rfl, Nat.le_of_ble_eq_true rfl⟩ ⟨Nat.le_of_ble_eq_true rfl, Nat.le_of_ble_eq_true rfl⟩ rfl (Nat.le_of_ble_eq_true rfl) rfl rfl rfl (dq dkX11_carved_0 8 rfl) ?_
    refine v_if_eq F (tgt := 35) (dq dkX11_carved_0 9 rfl) (by decide) (fun c4 => ?_) (fun c4 => ?_)
    · rw [if_pos c4] at h
      refine v_bipush F (v := (-7)) (dq dkX11_carved_0 19 rfl) kb_m7 ?_
      have h := Option.some.inj h
      subst h
      exact v_iret F E (dq dkX11_carved_0 20 rfl)
    · rw [if_neg c4] at h
      refine v_aload_n F (dq dkX11_carved_0 10 rfl) rfl 0 rfl ?_
      refine v_get F 61 (xnM (by decide)) xc_61 rfl inlX11 0 (by decide) (tc11 _ (List.mem_of_getElem? (i := 17) rfl)) rfl rfl (dq dkX11_carved_0 11 rfl) ?_
      refine v_bipush F (v := 9) (dq dkX11_carved_0 12 rfl) kb_9 ?_
      refine v_iload_n F (dq dkX11_carved_0 13 rfl) rfl 2 rfl ?_
      refine v_imul F (dq dkX11_carved_0 14 rfl) ?_
      refine v_iload_n F (dq dkX11_carved_0 15 rfl) rfl 1 rfl ?_
      refine v_iadd F (dq dkX11_carved_0 16 rfl) ?_
      obtain ⟨g5, h⟩ := gd_of h
      refine v_iald F 62 (xnM (by decide)) xc_62 (ib_in g5) (dq dkX11_carved_0 17 rfl) ?_
      refine v_goto F (tgt := 37) (dq dkX11_carved_0 18 rfl) (by decide) ?_
      have h := Option.some.inj h
      subst h
      exact v_iret F E (dq dkX11_carved_0 20 rfl)
  · rw [if_pos c2] at h
    refine v_bipush F (v := (-5)) (dq dkX11_carved_0 3 rfl) kb_m5 ?_
    refine v_goto F (tgt := 37) (dq dkX11_carved_0 4 rfl) (by decide) ?_
    have h := Option.some.inj h
    subst h
    exact v_iret F E (dq dkX11_carved_0 20 rfl)
def rm_X11_count : Room := { frames := 1, cells := 0, slots := 0, locals := 30 }
def f_X11_count (y : MS) (a1 : Int32) : Int32 := if a1 = 0 then (gi y 61 1) else (if a1 = 1 then (gi y 61 2) else (if a1 = 2 then (gi y 61 3) else (if a1 = 3 then (gi y 61 4) else (if a1 = 4 then (gi y 61 5) else (if a1 = 5 then (gi y 61 6) else (if a1 = 6 then (gi y 61 10) else (if a1 = 7 then (gi y 61 20) else (if a1 = 8 then (gi y 61 21) else (if a1 = 9 then (gi y 61 17) else ((-2)))))))))))
set_option maxRecDepth 100000 in
set_option maxHeartbeats 4000000 in
theorem c_X11_count {K : KE} {l : Launch} {nn : Nat} (x : CS) (y : MS) (a1 : Int32) : MC K l yX11_count cX11_count 2 (some .int) rm_X11_count 0 0 [.ref (K.1 + 61), .int a1] (xfM K nn x y) (xfM K nn x y) (some (.int (f_X11_count y a1))) := by
  obtain ⟨R, h⟩ : ∃ R, f_X11_count y a1 = R := ⟨_, rfl⟩
  rw [h]
  unfold f_X11_count at h
  refine mc_of (ls0 := [(0, .ref (K.1 + 61)), (1, .int a1)]) (by decide) (Nat.le_of_ble_eq_true rfl) rfl (fun C hl hnm F E => ?_)
  have F : Fx C RX11 cX11_count 2 rm_X11_count K := F
  refine v_iload_n F (dq dkX11_count_0 0 rfl) rfl 1 rfl ?_
  by_cases c1 : a1 = 0
  · rw [if_pos c1] at h
    refine v_tblIn F (off := 55) (tgt := 56) (dq dkX11_count_0 1 rfl) (by rw [c1]; decide) (by rw [c1]; decide) (by rw [c1]; rfl) (by decide) ?_
    refine v_aload_n F (dq dkX11_count_0 2 rfl) rfl 0 rfl ?_
    refine v_get F 61 (xnM (by decide)) xc_61 rfl inlX11 1 (by decide) (tc11 _ (List.mem_of_getElem? (i := 18) rfl)) rfl rfl (dq dkX11_count_0 3 rfl) ?_
    subst h
    exact v_iret F E (dq dkX11_count_0 4 rfl)
  rw [if_neg c1] at h
  by_cases c2 : a1 = 1
  · rw [if_pos c2] at h
    refine v_tblIn F (off := 60) (tgt := 61) (dq dkX11_count_0 1 rfl) (by rw [c2]; decide) (by rw [c2]; decide) (by rw [c2]; rfl) (by decide) ?_
    refine v_aload_n F (dq dkX11_count_0 5 rfl) rfl 0 rfl ?_
    refine v_get F 61 (xnM (by decide)) xc_61 rfl inlX11 2 (by decide) (tc16 _ (List.mem_of_getElem? (i := 14) rfl)) rfl rfl (dq dkX11_count_0 6 rfl) ?_
    subst h
    exact v_iret F E (dq dkX11_count_0 7 rfl)
  rw [if_neg c2] at h
  by_cases c3 : a1 = 2
  · rw [if_pos c3] at h
    refine v_tblIn F (off := 65) (tgt := 66) (dq dkX11_count_0 1 rfl) (by rw [c3]; decide) (by rw [c3]; decide) (by rw [c3]; rfl) (by decide) ?_
    refine v_aload_n F (dq dkX11_count_0 8 rfl) rfl 0 rfl ?_
    refine v_get F 61 (xnM (by decide)) xc_61 rfl inlX11 3 (by decide) (tc11 _ (List.mem_of_getElem? (i := 19) rfl)) rfl rfl (dq dkX11_count_0 9 rfl) ?_
    subst h
    exact v_iret F E (dq dkX11_count_0 10 rfl)
  rw [if_neg c3] at h
  by_cases c4 : a1 = 3
  · rw [if_pos c4] at h
    refine v_tblIn F (off := 70) (tgt := 71) (dq dkX11_count_0 1 rfl) (by rw [c4]; decide) (by rw [c4]; decide) (by rw [c4]; rfl) (by decide) ?_
    refine v_aload_n F (dq dkX11_count_0 11 rfl) rfl 0 rfl ?_
    refine v_get F 61 (xnM (by decide)) xc_61 rfl inlX11 4 (by decide) (tc11 _ (List.mem_of_getElem? (i := 20) rfl)) rfl rfl (dq dkX11_count_0 12 rfl) ?_
    subst h
    exact v_iret F E (dq dkX11_count_0 13 rfl)
  rw [if_neg c4] at h
  by_cases c5 : a1 = 4
  · rw [if_pos c5] at h
    refine v_tblIn F (off := 75) (tgt := 76) (dq dkX11_count_0 1 rfl) (by rw [c5]; decide) (by rw [c5]; decide) (by rw [c5]; rfl) (by decide) ?_
    refine v_aload_n F (dq dkX11_count_0 14 rfl) rfl 0 rfl ?_
    refine v_get F 61 (xnM (by decide)) xc_61 rfl inlX11 5 (by decide) (tc16 _ (List.mem_of_getElem? (i := 15) rfl)) rfl rfl (dq dkX11_count_0 15 rfl) ?_
    subst h
    exact v_iret F E (dq dkX11_count_0 16 rfl)
  rw [if_neg c5] at h
  by_cases c6 : a1 = 5
  · rw [if_pos c6] at h
    refine v_tblIn F (off := 80) (tgt := 81) (dq dkX11_count_0 1 rfl) (by rw [c6]; decide) (by rw [c6]; decide) (by rw [c6]; rfl) (by decide) ?_
    refine v_aload_n F (dq dkX11_count_0 17 rfl) rfl 0 rfl ?_
    refine v_get F 61 (xnM (by decide)) xc_61 rfl inlX11 6 (by decide) (tc16 _ (List.mem_of_getElem? (i := 16) rfl)) rfl rfl (dq dkX11_count_0 18 rfl) ?_
    subst h
    exact v_iret F E (dq dkX11_count_0 19 rfl)
  rw [if_neg c6] at h
  by_cases c7 : a1 = 6
  · rw [if_pos c7] at h
    refine v_tblIn F (off := 85) (tgt := 86) (dq dkX11_count_0 1 rfl) (by rw [c7]; decide) (by rw [c7]; decide) (by rw [c7]; rfl) (by decide) ?_
    refine v_aload_n F (dq dkX11_count_0 20 rfl) rfl 0 rfl ?_
    refine v_get F 61 (xnM (by decide)) xc_61 rfl inlX11 10 (by decide) (tc16 _ (List.mem_of_getElem? (i := 17) rfl)) rfl rfl (dq dkX11_count_0 21 rfl) ?_
    subst h
    exact v_iret F E (dq dkX11_count_0 22 rfl)
  rw [if_neg c7] at h
  by_cases c8 : a1 = 7
  · rw [if_pos c8] at h
    refine v_tblIn F (off := 90) (tgt := 91) (dq dkX11_count_0 1 rfl) (by rw [c8]; decide) (by rw [c8]; decide) (by rw [c8]; rfl) (by decide) ?_
    refine v_aload_n F (dq dkX11_count_0 23 rfl) rfl 0 rfl ?_
    refine v_get F 61 (xnM (by decide)) xc_61 rfl inlX11 20 (by decide) (tc12 _ (List.mem_of_getElem? (i := 8) rfl)) rfl rfl (dq dkX11_count_0 24 rfl) ?_
    subst h
    exact v_iret F E (dq dkX11_count_0 25 rfl)
  rw [if_neg c8] at h
  by_cases c9 : a1 = 8
  · rw [if_pos c9] at h
    refine v_tblIn F (off := 95) (tgt := 96) (dq dkX11_count_0 1 rfl) (by rw [c9]; decide) (by rw [c9]; decide) (by rw [c9]; rfl) (by decide) ?_
    refine v_aload_n F (dq dkX11_count_0 26 rfl) rfl 0 rfl ?_
    refine v_get F 61 (xnM (by decide)) xc_61 rfl inlX11 21 (by decide) (tc16 _ (List.mem_of_getElem? (i := 18) rfl)) rfl rfl (dq dkX11_count_0 27 rfl) ?_
    subst h
    exact v_iret F E (dq dkX11_count_0 28 rfl)
  rw [if_neg c9] at h
  by_cases c10 : a1 = 9
  · rw [if_pos c10] at h
    refine v_tblIn F (off := 100) (tgt := 101) (dq dkX11_count_0 1 rfl) (by rw [c10]; decide) (by rw [c10]; decide) (by rw [c10]; rfl) (by decide) ?_
    refine v_aload_n F (dq dkX11_count_0 29 rfl) rfl 0 rfl ?_
    refine v_get F 61 (xnM (by decide)) xc_61 rfl inlX11 17 (by decide) (tc16 _ (List.mem_of_getElem? (i := 19) rfl)) rfl rfl (dq dkX11_count_0 30 rfl) ?_
    subst h
    exact v_iret F E (dq dkX11_count_0 31 rfl)
  rw [if_neg c10] at h
  have zc1 := lv_neT c1 (a := 0) (by decide)
  have zc2 := lv_neT c2 (a := 1) (by decide)
  have zc3 := lv_neT c3 (a := 2) (by decide)
  have zc4 := lv_neT c4 (a := 3) (by decide)
  have zc5 := lv_neT c5 (a := 4) (by decide)
  have zc6 := lv_neT c6 (a := 5) (by decide)
  have zc7 := lv_neT c7 (a := 6) (by decide)
  have zc8 := lv_neT c8 (a := 7) (by decide)
  have zc9 := lv_neT c9 (a := 8) (by decide)
  have zc10 := lv_neT c10 (a := 9) (by decide)
  refine v_tblOut F (tgt := 106) (dq dkX11_count_0 1 rfl) (by omega) (by decide) ?_
  refine v_bipush F (v := (-2)) (dq dkX11_count_0 32 rfl) kb_m2 ?_
  subst h
  exact v_iret F E (dq dkX11_count_0 33 rfl)
def rm_X11_holds : Room := { frames := 1, cells := 0, slots := 0, locals := 30 }
def f_X11_holds_81 (y : MS) (s0 : Int32) : MS := pi y 61 5 s0
set_option maxRecDepth 100000 in
set_option maxHeartbeats 4000000 in
theorem t_X11_holds_81 {C : Cx} {K : KE} {nn : Nat} {x : CS} {R : MS}  (y : MS) (s0 : Int32) (h : f_X11_holds_81 y s0 = R) (F : Fx C RX11 cX11_holds 3 rm_X11_holds K) (E : CE C (xfM K nn x R) none 0 0 none) : V C 81 [] [.int s0, .ref (K.1 + 61)] (xfM K nn x y) 0 0 := by
  unfold f_X11_holds_81 at h
  refine v_put F 61 (xnM (by decide)) xc_61 rfl inlX11 tyX11_ok nmX11 5 (by decide) (tc16 _ (List.mem_of_getElem? (i := 15) rfl)) rfl rfl (tyX11_ok 5 (by decide)) rfl rfl (Nat.le_of_ble_eq_true rfl) (dq dkX11_holds_1 3 rfl) ?_
  refine v_eqM (xwM (q := 61) (j := 5) (v := s0) (by decide) (by decide) rfl) ?_
  subst h
  exact v_vret F E (dq dkX11_holds_1 4 rfl)
def f_X11_holds_64 (y : MS) (a1 : Int32) (a2 : Int32) (s0 : Int32) : MS := if a1 = 4 then (f_X11_holds_81 (pi y 61 4 s0) a2) else (f_X11_holds_81 (pi y 61 4 s0) (gi (pi y 61 4 s0) 61 5))
set_option maxRecDepth 100000 in
set_option maxHeartbeats 4000000 in
theorem t_X11_holds_64 {C : Cx} {K : KE} {nn : Nat} {x : CS} {R : MS}  (y : MS) (a1 : Int32) (a2 : Int32) (s0 : Int32) (h : f_X11_holds_64 y a1 a2 s0 = R) (F : Fx C RX11 cX11_holds 3 rm_X11_holds K) (E : CE C (xfM K nn x R) none 0 0 none) : V C 64 [(0, .ref (K.1 + 61)), (1, .int a1), (2, .int a2)] [.int s0, .ref (K.1 + 61)] (xfM K nn x y) 0 0 := by
  unfold f_X11_holds_64 at h
  refine v_put F 61 (xnM (by decide)) xc_61 rfl inlX11 tyX11_ok nmX11 4 (by decide) (tc11 _ (List.mem_of_getElem? (i := 20) rfl)) rfl rfl (tyX11_ok 4 (by decide)) rfl rfl (Nat.le_of_ble_eq_true rfl) (dq dkX11_holds_0 34 rfl) ?_
  refine v_eqM (xwM (q := 61) (j := 4) (v := s0) (by decide) (by decide) rfl) ?_
  refine v_aload_n F (dq dkX11_holds_0 35 rfl) rfl 0 rfl ?_
  refine v_iload_n F (dq dkX11_holds_0 36 rfl) rfl 1 rfl ?_
  refine v_iconst F (v := 4) (dq dkX11_holds_0 37 rfl) ki_4 ?_
  refine v_icmp_ne F (tgt := 77) (dq dkX11_holds_0 38 rfl) (by decide) (fun c1 => ?_) (fun c1 => ?_)
  · rw [if_neg c1] at h
    refine v_aload_n F (dq dkX11_holds_1 1 rfl) rfl 0 rfl ?_
    refine v_get F 61 (xnM (by decide)) xc_61 rfl inlX11 5 (by decide) (tc16 _ (List.mem_of_getElem? (i := 15) rfl)) rfl rfl (dq dkX11_holds_1 2 rfl) ?_
    refine v_sub [] rfl ?_
    exact t_X11_holds_81 (pi y 61 4 s0) (gi (pi y 61 4 s0) 61 5) h F E
  · rw [if_pos c1] at h
    refine v_iload_n F (dq dkX11_holds_0 39 rfl) rfl 2 rfl ?_
    refine v_goto F (tgt := 81) (dq dkX11_holds_1 0 rfl) (by decide) ?_
    refine v_sub [] rfl ?_
    exact t_X11_holds_81 (pi y 61 4 s0) a2 h F E
def f_X11_holds_47 (y : MS) (a1 : Int32) (a2 : Int32) (s0 : Int32) : MS := if a1 = 3 then (f_X11_holds_64 (pi y 61 3 s0) a1 a2 a2) else (f_X11_holds_64 (pi y 61 3 s0) a1 a2 (gi (pi y 61 3 s0) 61 4))
set_option maxRecDepth 100000 in
set_option maxHeartbeats 4000000 in
theorem t_X11_holds_47 {C : Cx} {K : KE} {nn : Nat} {x : CS} {R : MS}  (y : MS) (a1 : Int32) (a2 : Int32) (s0 : Int32) (h : f_X11_holds_47 y a1 a2 s0 = R) (F : Fx C RX11 cX11_holds 3 rm_X11_holds K) (E : CE C (xfM K nn x R) none 0 0 none) : V C 47 [(0, .ref (K.1 + 61)), (1, .int a1), (2, .int a2)] [.int s0, .ref (K.1 + 61)] (xfM K nn x y) 0 0 := by
  unfold f_X11_holds_47 at h
  refine v_put F 61 (xnM (by decide)) xc_61 rfl inlX11 tyX11_ok nmX11 3 (by decide) (tc11 _ (List.mem_of_getElem? (i := 19) rfl)) rfl rfl (tyX11_ok 3 (by decide)) rfl rfl (Nat.le_of_ble_eq_true rfl) (dq dkX11_holds_0 25 rfl) ?_
  refine v_eqM (xwM (q := 61) (j := 3) (v := s0) (by decide) (by decide) rfl) ?_
  refine v_aload_n F (dq dkX11_holds_0 26 rfl) rfl 0 rfl ?_
  refine v_iload_n F (dq dkX11_holds_0 27 rfl) rfl 1 rfl ?_
  refine v_iconst F (v := 3) (dq dkX11_holds_0 28 rfl) ki_3 ?_
  refine v_icmp_ne F (tgt := 60) (dq dkX11_holds_0 29 rfl) (by decide) (fun c2 => ?_) (fun c2 => ?_)
  · rw [if_neg c2] at h
    refine v_aload_n F (dq dkX11_holds_0 32 rfl) rfl 0 rfl ?_
    refine v_get F 61 (xnM (by decide)) xc_61 rfl inlX11 4 (by decide) (tc11 _ (List.mem_of_getElem? (i := 20) rfl)) rfl rfl (dq dkX11_holds_0 33 rfl) ?_
    exact t_X11_holds_64 (pi y 61 3 s0) a1 a2 (gi (pi y 61 3 s0) 61 4) h F E
  · rw [if_pos c2] at h
    refine v_iload_n F (dq dkX11_holds_0 30 rfl) rfl 2 rfl ?_
    refine v_goto F (tgt := 64) (dq dkX11_holds_0 31 rfl) (by decide) ?_
    exact t_X11_holds_64 (pi y 61 3 s0) a1 a2 a2 h F E
def f_X11_holds_30 (y : MS) (a1 : Int32) (a2 : Int32) (s0 : Int32) : MS := if a1 = 2 then (f_X11_holds_47 (pi y 61 2 s0) a1 a2 a2) else (f_X11_holds_47 (pi y 61 2 s0) a1 a2 (gi (pi y 61 2 s0) 61 3))
set_option maxRecDepth 100000 in
set_option maxHeartbeats 4000000 in
theorem t_X11_holds_30 {C : Cx} {K : KE} {nn : Nat} {x : CS} {R : MS}  (y : MS) (a1 : Int32) (a2 : Int32) (s0 : Int32) (h : f_X11_holds_30 y a1 a2 s0 = R) (F : Fx C RX11 cX11_holds 3 rm_X11_holds K) (E : CE C (xfM K nn x R) none 0 0 none) : V C 30 [(0, .ref (K.1 + 61)), (1, .int a1), (2, .int a2)] [.int s0, .ref (K.1 + 61)] (xfM K nn x y) 0 0 := by
  unfold f_X11_holds_30 at h
  refine v_put F 61 (xnM (by decide)) xc_61 rfl inlX11 tyX11_ok nmX11 2 (by decide) (tc16 _ (List.mem_of_getElem? (i := 14) rfl)) rfl rfl (tyX11_ok 2 (by decide)) rfl rfl (Nat.le_of_ble_eq_true rfl) (dq dkX11_holds_0 16 rfl) ?_
  refine v_eqM (xwM (q := 61) (j := 2) (v := s0) (by decide) (by decide) rfl) ?_
  refine v_aload_n F (dq dkX11_holds_0 17 rfl) rfl 0 rfl ?_
  refine v_iload_n F (dq dkX11_holds_0 18 rfl) rfl 1 rfl ?_
  refine v_iconst F (v := 2) (dq dkX11_holds_0 19 rfl) ki_2 ?_
  refine v_icmp_ne F (tgt := 43) (dq dkX11_holds_0 20 rfl) (by decide) (fun c3 => ?_) (fun c3 => ?_)
  · rw [if_neg c3] at h
    refine v_aload_n F (dq dkX11_holds_0 23 rfl) rfl 0 rfl ?_
    refine v_get F 61 (xnM (by decide)) xc_61 rfl inlX11 3 (by decide) (tc11 _ (List.mem_of_getElem? (i := 19) rfl)) rfl rfl (dq dkX11_holds_0 24 rfl) ?_
    exact t_X11_holds_47 (pi y 61 2 s0) a1 a2 (gi (pi y 61 2 s0) 61 3) h F E
  · rw [if_pos c3] at h
    refine v_iload_n F (dq dkX11_holds_0 21 rfl) rfl 2 rfl ?_
    refine v_goto F (tgt := 47) (dq dkX11_holds_0 22 rfl) (by decide) ?_
    exact t_X11_holds_47 (pi y 61 2 s0) a1 a2 a2 h F E
def f_X11_holds_13 (y : MS) (a1 : Int32) (a2 : Int32) (s0 : Int32) : MS := if a1 = 1 then (f_X11_holds_30 (pi y 61 1 s0) a1 a2 a2) else (f_X11_holds_30 (pi y 61 1 s0) a1 a2 (gi (pi y 61 1 s0) 61 2))
set_option maxRecDepth 100000 in
set_option maxHeartbeats 4000000 in
theorem t_X11_holds_13 {C : Cx} {K : KE} {nn : Nat} {x : CS} {R : MS}  (y : MS) (a1 : Int32) (a2 : Int32) (s0 : Int32) (h : f_X11_holds_13 y a1 a2 s0 = R) (F : Fx C RX11 cX11_holds 3 rm_X11_holds K) (E : CE C (xfM K nn x R) none 0 0 none) : V C 13 [(0, .ref (K.1 + 61)), (1, .int a1), (2, .int a2)] [.int s0, .ref (K.1 + 61)] (xfM K nn x y) 0 0 := by
  unfold f_X11_holds_13 at h
  refine v_put F 61 (xnM (by decide)) xc_61 rfl inlX11 tyX11_ok nmX11 1 (by decide) (tc11 _ (List.mem_of_getElem? (i := 18) rfl)) rfl rfl (tyX11_ok 1 (by decide)) rfl rfl (Nat.le_of_ble_eq_true rfl) (dq dkX11_holds_0 7 rfl) ?_
  refine v_eqM (xwM (q := 61) (j := 1) (v := s0) (by decide) (by decide) rfl) ?_
  refine v_aload_n F (dq dkX11_holds_0 8 rfl) rfl 0 rfl ?_
  refine v_iload_n F (dq dkX11_holds_0 9 rfl) rfl 1 rfl ?_
  refine v_iconst F (v := 1) (dq dkX11_holds_0 10 rfl) ki_1 ?_
  refine v_icmp_ne F (tgt := 26) (dq dkX11_holds_0 11 rfl) (by decide) (fun c4 => ?_) (fun c4 => ?_)
  · rw [if_neg c4] at h
    refine v_aload_n F (dq dkX11_holds_0 14 rfl) rfl 0 rfl ?_
    refine v_get F 61 (xnM (by decide)) xc_61 rfl inlX11 2 (by decide) (tc16 _ (List.mem_of_getElem? (i := 14) rfl)) rfl rfl (dq dkX11_holds_0 15 rfl) ?_
    exact t_X11_holds_30 (pi y 61 1 s0) a1 a2 (gi (pi y 61 1 s0) 61 2) h F E
  · rw [if_pos c4] at h
    refine v_iload_n F (dq dkX11_holds_0 12 rfl) rfl 2 rfl ?_
    refine v_goto F (tgt := 30) (dq dkX11_holds_0 13 rfl) (by decide) ?_
    exact t_X11_holds_30 (pi y 61 1 s0) a1 a2 a2 h F E
def f_X11_holds (y : MS) (a1 : Int32) (a2 : Int32) : MS := if a1 = 0 then (f_X11_holds_13 y a1 a2 a2) else (f_X11_holds_13 y a1 a2 (gi y 61 1))
set_option maxRecDepth 100000 in
set_option maxHeartbeats 4000000 in
theorem c_X11_holds {K : KE} {l : Launch} {nn : Nat} (x : CS) (y : MS) (a1 : Int32) (a2 : Int32) : MC K l yX11_holds cX11_holds 3 none rm_X11_holds 0 0 [.ref (K.1 + 61), .int a1, .int a2] (xfM K nn x y) (xfM K nn x (f_X11_holds y a1 a2)) none := by
  obtain ⟨R, h⟩ : ∃ R, f_X11_holds y a1 a2 = R := ⟨_, rfl⟩
  rw [h]
  unfold f_X11_holds at h
  refine mc_of (ls0 := [(0, .ref (K.1 + 61)), (1, .int a1), (2, .int a2)]) (by decide) (Nat.le_of_ble_eq_true rfl) rfl (fun C hl hnm F E => ?_)
  have F : Fx C RX11 cX11_holds 3 rm_X11_holds K := F
  refine v_aload_n F (dq dkX11_holds_0 0 rfl) rfl 0 rfl ?_
  refine v_iload_n F (dq dkX11_holds_0 1 rfl) rfl 1 rfl ?_
  refine v_if_ne F (tgt := 9) (dq dkX11_holds_0 2 rfl) (by decide) (fun c5 => ?_) (fun c5 => ?_)
  · rw [if_neg c5] at h
    refine v_aload_n F (dq dkX11_holds_0 5 rfl) rfl 0 rfl ?_
    refine v_get F 61 (xnM (by decide)) xc_61 rfl inlX11 1 (by decide) (tc11 _ (List.mem_of_getElem? (i := 18) rfl)) rfl rfl (dq dkX11_holds_0 6 rfl) ?_
    exact t_X11_holds_13 y a1 a2 (gi y 61 1) h F E
  · rw [if_pos c5] at h
    refine v_iload_n F (dq dkX11_holds_0 3 rfl) rfl 2 rfl ?_
    refine v_goto F (tgt := 13) (dq dkX11_holds_0 4 rfl) (by decide) ?_
    exact t_X11_holds_13 y a1 a2 a2 h F E
def rm_X11_set : Room := { frames := 2, cells := 0, slots := 0, locals := 52 }
def f_X11_set_33 (y : MS) (a1 : Int32) (a2 : Int32) (s0 : Int32) (s1 : Int32) (s2 : Int32) : Int32 × MS := if (b2i (f_X11_in s2 s1 s0)) = 0 then (((-2), y)) else (((f_X11_count y a1), (f_X11_holds y a1 a2)))
set_option maxRecDepth 100000 in
set_option maxHeartbeats 4000000 in
theorem t_X11_set_33 {C : Cx} {K : KE} {nn : Nat} {x : CS} {R : Int32 × MS}  (y : MS) (a1 : Int32) (a2 : Int32) (s0 : Int32) (s1 : Int32) (s2 : Int32) (h : f_X11_set_33 y a1 a2 s0 s1 s2 = R) (F : Fx C RX11 cX11_set 4 rm_X11_set K) (E : CE C (xfM K nn x R.2) (some (.int R.1)) 0 0 (some .int)) : V C 33 [(0, .ref (K.1 + 61)), (1, .int a1), (2, .int a2)] [.int s0, .int s1, .int s2] (xfM K nn x y) 0 0 := by
  unfold f_X11_set_33 at h
  refine v_callS 3 F (kc1 := 0) (ks1 := 0) (as := [.int s2, .int s1, .int s0]) (st := []) (st1 := (.int (b2i (f_X11_in s2 s1 s0)) :: [])) (res := (some (.int (b2i (f_X11_in s2 s1 s0))))) (c_X11_in (l := C.2.1) s2 s1 s0) (tc15 _ (List.mem_of_getElem? (i := 1) rfl)) (tc15 _ (List.mem_of_getElem? (i := 2) rfl)) (tc1 _ (List.mem_of_getElem? (i := 5) rfl)) (tc15 _ (List.mem_of_getElem? (i := 3) rfl)) (by decide) rfl ⟨rfl, rfl, Nat.le_of_ble_eq_true rfl, Nat.le_of_ble_eq_true rfl⟩ ⟨Nat.le_of_ble_eq_true rfl, Nat.le_of_ble_eq_true rfl⟩ rfl (Nat.le_of_ble_eq_true rfl) rfl rfl rfl (dq dkX11_set_0 20 rfl) ?_
  refine v_if_ne F (tgt := 42) (dq dkX11_set_0 21 rfl) (by decide) (fun c2 => ?_) (fun c2 => ?_)
  · rw [if_neg c2] at h
    refine v_aload_n F (dq dkX11_set_0 24 rfl) rfl 0 rfl ?_
    refine v_iload_n F (dq dkX11_set_0 25 rfl) rfl 1 rfl ?_
    refine v_callV 1 F (q := 61) (kc1 := 0) (ks1 := 0) (as := [.int a1]) (st := []) (st1 := (.int (f_X11_count y a1) :: [])) (res := (some (.int (f_X11_count y a1)))) (c_X11_count (l := C.2.1) x y a1) (xnM (by decide)) xc_61 rfl (tc16 _ (List.mem_of_getElem? (i := 10) rfl)) (tc16 _ (List.mem_of_getElem? (i := 11) rfl)) (tc16 _ (List.mem_of_getElem? (i := 12) rfl)) (tc1 _ (List.mem_of_getElem? (i := 5) rfl)) (tc16 _ (List.mem_of_getElem? (i := 13) rfl)) (by decide) rfl ⟨rfl, rfl, Nat.le_of_ble_eq_true rfl, Nat.le_of_ble_eq_true rfl⟩ ⟨Nat.le_of_ble_eq_true rfl, Nat.le_of_ble_eq_true rfl⟩ rfl (Nat.le_of_ble_eq_true rfl) rfl rfl rfl (dq dkX11_set_0 26 rfl) ?_
    refine v_istore_n F (ls' := [(3, .int (f_X11_count y a1)), (0, .ref (K.1 + 61)), (1, .int a1), (2, .int a2)]) (dq dkX11_set_0 27 rfl) rfl (by decide) rfl ?_
    refine v_aload_n F (dq dkX11_set_0 28 rfl) rfl 1 rfl ?_
    refine v_iload_n F (dq dkX11_set_0 29 rfl) rfl 2 rfl ?_
    refine v_iload_n F (dq dkX11_set_0 30 rfl) rfl 3 rfl ?_
    refine v_callV 2 F (q := 61) (kc1 := 0) (ks1 := 0) (as := [.int a1, .int a2]) (st := []) (st1 := []) (res := none) (c_X11_holds (l := C.2.1) x y a1 a2) (xnM (by decide)) xc_61 rfl (tc16 _ (List.mem_of_getElem? (i := 20) rfl)) (tc16 _ (List.mem_of_getElem? (i := 21) rfl)) (tc16 _ (List.mem_of_getElem? (i := 22) rfl)) (tc1 _ (List.mem_of_getElem? (i := 5) rfl)) (tc16 _ (List.mem_of_getElem? (i := 23) rfl)) (by decide) rfl ⟨rfl, rfl, Nat.le_of_ble_eq_true rfl, Nat.le_of_ble_eq_true rfl⟩ ⟨Nat.le_of_ble_eq_true rfl, Nat.le_of_ble_eq_true rfl⟩ rfl (Nat.le_of_ble_eq_true rfl) rfl rfl rfl (dq dkX11_set_0 31 rfl) ?_
    refine v_iload_n F (dq dkX11_set_0 32 rfl) rfl 0 rfl ?_
    subst h
    exact v_iret F E (dq dkX11_set_0 33 rfl)
  · rw [if_pos c2] at h
    refine v_bipush F (v := (-2)) (dq dkX11_set_0 22 rfl) kb_m2 ?_
    subst h
    exact v_iret F E (dq dkX11_set_0 23 rfl)
def f_X11_set_22 (y : MS) (a1 : Int32) (a2 : Int32) (s0 : Int32) (s1 : Int32) : Int32 × MS := if a1 = 3 then (f_X11_set_33 y a1 a2 5 s0 s1) else (f_X11_set_33 y a1 a2 9 s0 s1)
set_option maxRecDepth 100000 in
set_option maxHeartbeats 4000000 in
theorem t_X11_set_22 {C : Cx} {K : KE} {nn : Nat} {x : CS} {R : Int32 × MS}  (y : MS) (a1 : Int32) (a2 : Int32) (s0 : Int32) (s1 : Int32) (h : f_X11_set_22 y a1 a2 s0 s1 = R) (F : Fx C RX11 cX11_set 4 rm_X11_set K) (E : CE C (xfM K nn x R.2) (some (.int R.1)) 0 0 (some .int)) : V C 22 [(0, .ref (K.1 + 61)), (1, .int a1), (2, .int a2)] [.int s0, .int s1] (xfM K nn x y) 0 0 := by
  unfold f_X11_set_22 at h
  refine v_iload_n F (dq dkX11_set_0 14 rfl) rfl 1 rfl ?_
  refine v_iconst F (v := 3) (dq dkX11_set_0 15 rfl) ki_3 ?_
  refine v_icmp_ne F (tgt := 31) (dq dkX11_set_0 16 rfl) (by decide) (fun c5 => ?_) (fun c5 => ?_)
  · rw [if_neg c5] at h
    refine v_bipush F (v := 9) (dq dkX11_set_0 19 rfl) kb_9 ?_
    exact t_X11_set_33 y a1 a2 9 s0 s1 h F E
  · rw [if_pos c5] at h
    refine v_iconst F (v := 5) (dq dkX11_set_0 17 rfl) ki_5 ?_
    refine v_goto F (tgt := 33) (dq dkX11_set_0 18 rfl) (by decide) ?_
    exact t_X11_set_33 y a1 a2 5 s0 s1 h F E
def f_X11_set (y : MS) (a1 : Int32) (a2 : Int32) : Int32 × MS := if (b2i (f_X11_in a1 0 4)) = 0 then (((-1), y)) else (if a1 = 3 then (f_X11_set_22 y a1 a2 1 a2) else (f_X11_set_22 y a1 a2 0 a2))
set_option maxRecDepth 100000 in
set_option maxHeartbeats 4000000 in
theorem c_X11_set {K : KE} {l : Launch} {nn : Nat} (x : CS) (y : MS) (a1 : Int32) (a2 : Int32) : MC K l yX11_set cX11_set 4 (some .int) rm_X11_set 0 0 [.ref (K.1 + 61), .int a1, .int a2] (xfM K nn x y) (xfM K nn x ((f_X11_set y a1 a2).2)) (some (.int (f_X11_set y a1 a2).1)) := by
  obtain ⟨R, h⟩ : ∃ R, f_X11_set y a1 a2 = R := ⟨_, rfl⟩
  rw [h]
  unfold f_X11_set at h
  refine mc_of (ls0 := [(0, .ref (K.1 + 61)), (1, .int a1), (2, .int a2)]) (by decide) (Nat.le_of_ble_eq_true rfl) rfl (fun C hl hnm F E => ?_)
  have F : Fx C RX11 cX11_set 4 rm_X11_set K := F
  refine v_iload_n F (dq dkX11_set_0 0 rfl) rfl 1 rfl ?_
  refine v_iconst F (v := 0) (dq dkX11_set_0 1 rfl) ki_0 ?_
  refine v_iconst F (v := 4) (dq dkX11_set_0 2 rfl) ki_4 ?_
  refine v_callS 3 F (kc1 := 0) (ks1 := 0) (as := [.int a1, .int 0, .int 4]) (st := []) (st1 := (.int (b2i (f_X11_in a1 0 4)) :: [])) (res := (some (.int (b2i (f_X11_in a1 0 4))))) (c_X11_in (l := C.2.1) a1 0 4) (tc15 _ (List.mem_of_getElem? (i := 1) rfl)) (tc15 _ (List.mem_of_getElem? (i := 2) rfl)) (tc1 _ (List.mem_of_getElem? (i := 5) rfl)) (tc15 _ (List.mem_of_getElem? (i := 3) rfl)) (by decide) rfl ⟨rfl, rfl, Nat.le_of_ble_eq_true rfl, Nat.le_of_ble_eq_true rfl⟩ ⟨Nat.le_of_ble_eq_true rfl, Nat.le_of_ble_eq_true rfl⟩ rfl (Nat.le_of_ble_eq_true rfl) rfl rfl rfl (dq dkX11_set_0 3 rfl) ?_
  refine v_if_ne F (tgt := 11) (dq dkX11_set_0 4 rfl) (by decide) (fun c7 => ?_) (fun c7 => ?_)
  · rw [if_neg c7] at h
    refine v_iload_n F (dq dkX11_set_0 7 rfl) rfl 2 rfl ?_
    refine v_iload_n F (dq dkX11_set_0 8 rfl) rfl 1 rfl ?_
    refine v_iconst F (v := 3) (dq dkX11_set_0 9 rfl) ki_3 ?_
    refine v_icmp_ne F (tgt := 21) (dq dkX11_set_0 10 rfl) (by decide) (fun c8 => ?_) (fun c8 => ?_)
    · rw [if_neg c8] at h
      refine v_iconst F (v := 0) (dq dkX11_set_0 13 rfl) ki_0 ?_
      exact t_X11_set_22 y a1 a2 0 a2 h F E
    · rw [if_pos c8] at h
      refine v_iconst F (v := 1) (dq dkX11_set_0 11 rfl) ki_1 ?_
      refine v_goto F (tgt := 22) (dq dkX11_set_0 12 rfl) (by decide) ?_
      exact t_X11_set_22 y a1 a2 1 a2 h F E
  · rw [if_pos c7] at h
    refine v_iconst F (v := (-1)) (dq dkX11_set_0 5 rfl) ki_m1 ?_
    subst h
    exact v_iret F E (dq dkX11_set_0 6 rfl)
def rm_X11_feed : Room := { frames := 2, cells := 0, slots := 0, locals := 52 }
def f_X11_feed_33 : Nat → MS → Int64 → Int32 → Option (Int32 × MS)
  | 0, _, _, _ => none
  | n + 1, y, a1, a4 => if a4 < 0 then (some (gi y 61 17, y)) else (gd (ib (gi y 61 17) 160) ((f_X11_feed_33 n) (pi (pi y 71 ((gi y 61 17).toNatClampNeg) (((a1 >>> ((8 * a4).toInt64 &&& 63)) &&& 255).toInt32)) 61 17 ((gi (pi y 71 ((gi y 61 17).toNatClampNeg) (((a1 >>> ((8 * a4).toInt64 &&& 63)) &&& 255).toInt32)) 61 17) + 1)) a1 (a4 + (-1))))
set_option maxRecDepth 100000 in
set_option maxHeartbeats 4000000 in
theorem t_X11_feed_33 {C : Cx} {K : KE} {nn : Nat} {x : CS} {R : Int32 × MS}  (F : Fx C RX11 cX11_feed 5 rm_X11_feed K) (E : CE C (xfM K nn x R.2) (some (.int R.1)) 0 0 (some .int)) : ∀ (n : Nat) (y : MS) (a1 : Int64) (a4 : Int32) (h : f_X11_feed_33 n y a1 a4 = some R), V C 33 [(0, .ref (K.1 + 61)), (1, .long a1), (4, .int a4)] [] (xfM K nn x y) 0 0 := by
  intro n
  induction n with
  | zero => intro y a1 a4 h; cases h
  | succ n ih =>
    intro y a1 a4 h
    rw [f_X11_feed_33] at h
    refine v_iload F (dq dkX11_feed_0 19 rfl) 2 rfl ?_
    refine v_if_lt F (tgt := 75) (dq dkX11_feed_0 20 rfl) (by decide) (fun c1 => ?_) (fun c1 => ?_)
    · rw [if_pos c1] at h
      refine v_aload_n F (dq dkX11_feed_1 2 rfl) rfl 0 rfl ?_
      refine v_get F 61 (xnM (by decide)) xc_61 rfl inlX11 17 (by decide) (tc16 _ (List.mem_of_getElem? (i := 19) rfl)) rfl rfl (dq dkX11_feed_1 3 rfl) ?_
      have h := Option.some.inj h
      subst h
      exact v_iret F E (dq dkX11_feed_1 4 rfl)
    · rw [if_neg c1] at h
      refine v_aload_n F (dq dkX11_feed_0 21 rfl) rfl 0 rfl ?_
      refine v_get F 61 (xnM (by decide)) xc_61 rfl inlX11 16 (by decide) (tc12 _ (List.mem_of_getElem? (i := 5) rfl)) rfl rfl (dq dkX11_feed_0 22 rfl) ?_
      refine v_aload_n F (dq dkX11_feed_0 23 rfl) rfl 0 rfl ?_
      refine v_get F 61 (xnM (by decide)) xc_61 rfl inlX11 17 (by decide) (tc16 _ (List.mem_of_getElem? (i := 19) rfl)) rfl rfl (dq dkX11_feed_0 24 rfl) ?_
      refine v_lload_n F (dq dkX11_feed_0 25 rfl) rfl 1 rfl ?_
      refine v_bipush F (v := 8) (dq dkX11_feed_0 26 rfl) kb_8 ?_
      refine v_iload F (dq dkX11_feed_0 27 rfl) 2 rfl ?_
      refine v_imul F (dq dkX11_feed_0 28 rfl) ?_
      refine v_lshr F (dq dkX11_feed_0 29 rfl) ?_
      refine v_ldc2 F (v := 255) (tc17 _ (List.mem_of_getElem? (i := 13) rfl)) (dq dkX11_feed_0 30 rfl) ?_
      refine v_land F (dq dkX11_feed_0 31 rfl) ?_
      refine v_l2i F (dq dkX11_feed_0 32 rfl) ?_
      obtain ⟨g2, h⟩ := gd_of h
      refine v_iast F 71 (xnM (by decide)) xc_71 (ib_in g2) (dq dkX11_feed_0 33 rfl) ?_
      refine v_eqM (xwM (q := 71) (j := (gi y 61 17).toNatClampNeg) (v := ((a1 >>> ((8 * a4).toInt64 &&& 63)) &&& 255).toInt32) (by decide) (by decide) rfl) ?_
      refine v_aload_n F (dq dkX11_feed_0 34 rfl) rfl 0 rfl ?_
      refine v_dup F (dq dkX11_feed_0 35 rfl) rfl ?_
      refine v_get F 61 (xnM (by decide)) xc_61 rfl inlX11 17 (by decide) (tc16 _ (List.mem_of_getElem? (i := 19) rfl)) rfl rfl (dq dkX11_feed_0 36 rfl) ?_
      refine v_iconst F (v := 1) (dq dkX11_feed_0 37 rfl) ki_1 ?_
      refine v_iadd F (dq dkX11_feed_0 38 rfl) ?_
      refine v_put F 61 (xnM (by decide)) xc_61 rfl inlX11 tyX11_ok nmX11 17 (by decide) (tc16 _ (List.mem_of_getElem? (i := 19) rfl)) rfl rfl (tyX11_ok 17 (by decide)) rfl rfl (Nat.le_of_ble_eq_true rfl) (dq dkX11_feed_0 39 rfl) ?_
      refine v_eqM (xwM (q := 61) (j := 17) (v := (gi (pi y 71 ((gi y 61 17).toNatClampNeg) (((a1 >>> ((8 * a4).toInt64 &&& 63)) &&& 255).toInt32)) 61 17) + 1) (by decide) (by decide) rfl) ?_
      refine v_iinc F (v := a4 + (-1)) (ls' := [(4, .int (a4 + (-1))), (0, .ref (K.1 + 61)), (1, .long a1)]) (dq dkX11_feed_1 0 rfl) (j := 2) rfl (kv_add ki_m1) (by decide) rfl ?_
      refine v_goto F (tgt := 33) (dq dkX11_feed_1 1 rfl) (by decide) ?_
      refine v_sub [1, 2, 0] rfl ?_
      exact ih (pi (pi y 71 ((gi y 61 17).toNatClampNeg) (((a1 >>> ((8 * a4).toInt64 &&& 63)) &&& 255).toInt32)) 61 17 ((gi (pi y 71 ((gi y 61 17).toNatClampNeg) (((a1 >>> ((8 * a4).toInt64 &&& 63)) &&& 255).toInt32)) 61 17) + 1)) a1 (a4 + (-1)) h
def f_X11_feed (y : MS) (a1 : Int64) (a3 : Int32) : Option (Int32 × MS) := if (b2i (f_X11_in a3 1 8)) = 0 then (some ((-2), y)) else (if ((gi y 61 17) + a3) ≤ 160 then (f_X11_feed_33 1000 y a1 (a3 - 1)) else (some ((-4), y)))
set_option maxRecDepth 100000 in
set_option maxHeartbeats 4000000 in
theorem c_X11_feed {K : KE} {l : Launch} {R : Int32 × MS} {nn : Nat} (x : CS) (y : MS) (a1 : Int64) (a3 : Int32) (h : f_X11_feed y a1 a3 = some R) : MC K l yX11_feed cX11_feed 5 (some .int) rm_X11_feed 0 0 [.ref (K.1 + 61), .long a1, .int a3] (xfM K nn x y) (xfM K nn x R.2) (some (.int R.1)) := by
  unfold f_X11_feed at h
  refine mc_of (ls0 := [(0, .ref (K.1 + 61)), (1, .long a1), (3, .int a3)]) (by decide) (Nat.le_of_ble_eq_true rfl) rfl (fun C hl hnm F E => ?_)
  have F : Fx C RX11 cX11_feed 5 rm_X11_feed K := F
  refine v_iload_n F (dq dkX11_feed_0 0 rfl) rfl 2 rfl ?_
  refine v_iconst F (v := 1) (dq dkX11_feed_0 1 rfl) ki_1 ?_
  refine v_bipush F (v := 8) (dq dkX11_feed_0 2 rfl) kb_8 ?_
  refine v_callS 3 F (kc1 := 0) (ks1 := 0) (as := [.int a3, .int 1, .int 8]) (st := []) (st1 := (.int (b2i (f_X11_in a3 1 8)) :: [])) (res := (some (.int (b2i (f_X11_in a3 1 8))))) (c_X11_in (l := C.2.1) a3 1 8) (tc15 _ (List.mem_of_getElem? (i := 1) rfl)) (tc15 _ (List.mem_of_getElem? (i := 2) rfl)) (tc1 _ (List.mem_of_getElem? (i := 5) rfl)) (tc15 _ (List.mem_of_getElem? (i := 3) rfl)) (by decide) rfl ⟨rfl, rfl, Nat.le_of_ble_eq_true rfl, Nat.le_of_ble_eq_true rfl⟩ ⟨Nat.le_of_ble_eq_true rfl, Nat.le_of_ble_eq_true rfl⟩ rfl (Nat.le_of_ble_eq_true rfl) rfl rfl rfl (dq dkX11_feed_0 3 rfl) ?_
  refine v_if_ne F (tgt := 13) (dq dkX11_feed_0 4 rfl) (by decide) (fun c4 => ?_) (fun c4 => ?_)
  · rw [if_neg c4] at h
    refine v_aload_n F (dq dkX11_feed_0 7 rfl) rfl 0 rfl ?_
    refine v_get F 61 (xnM (by decide)) xc_61 rfl inlX11 17 (by decide) (tc16 _ (List.mem_of_getElem? (i := 19) rfl)) rfl rfl (dq dkX11_feed_0 8 rfl) ?_
    refine v_iload_n F (dq dkX11_feed_0 9 rfl) rfl 2 rfl ?_
    refine v_iadd F (dq dkX11_feed_0 10 rfl) ?_
    refine v_sipush F (v := 160) (dq dkX11_feed_0 11 rfl) ks_160 ?_
    refine v_icmp_le F (tgt := 28) (dq dkX11_feed_0 12 rfl) (by decide) (fun c5 => ?_) (fun c5 => ?_)
    · rw [if_pos c5] at h
      refine v_iload_n F (dq dkX11_feed_0 15 rfl) rfl 2 rfl ?_
      refine v_iconst F (v := 1) (dq dkX11_feed_0 16 rfl) ki_1 ?_
      refine v_isub F (dq dkX11_feed_0 17 rfl) ?_
      refine v_istore F (ls' := [(4, .int (a3 - 1)), (0, .ref (K.1 + 61)), (1, .long a1), (3, .int a3)]) (dq dkX11_feed_0 18 rfl) (by decide) rfl ?_
      refine v_sub [1, 2, 0] rfl ?_
      exact t_X11_feed_33 F E 1000 y a1 (a3 - 1) h
    · rw [if_neg c5] at h
      refine v_bipush F (v := (-4)) (dq dkX11_feed_0 13 rfl) kb_m4 ?_
      have h := Option.some.inj h
      subst h
      exact v_iret F E (dq dkX11_feed_0 14 rfl)
  · rw [if_pos c4] at h
    refine v_bipush F (v := (-2)) (dq dkX11_feed_0 5 rfl) kb_m2 ?_
    have h := Option.some.inj h
    subst h
    exact v_iret F E (dq dkX11_feed_0 6 rfl)
def rm_X11_letters : Room := { frames := 2, cells := 0, slots := 0, locals := 52 }
def f_X11_letters_76 (y : MS) (a1 : Int64) (a3 : Int32) : Option (Int64 × MS) := if a3 ≤ 5 then (some (a1, y)) else (some (0, y))
set_option maxRecDepth 100000 in
set_option maxHeartbeats 4000000 in
theorem t_X11_letters_76 {C : Cx} {K : KE} {nn : Nat} {x : CS} {R : Int64 × MS}  (y : MS) (a1 : Int64) (a3 : Int32) (h : f_X11_letters_76 y a1 a3 = some R) (F : Fx C RX11 cX11_letters 4 rm_X11_letters K) (E : CE C (xfM K nn x R.2) (some (.long R.1)) 0 0 (some .long)) : V C 76 [(1, .long a1), (3, .int a3)] [] (xfM K nn x y) 0 0 := by
  unfold f_X11_letters_76 at h
  refine v_iload_n F (dq dkX11_letters_1 2 rfl) rfl 1 rfl ?_
  refine v_iconst F (v := 5) (dq dkX11_letters_1 3 rfl) ki_5 ?_
  refine v_icmp_le F (tgt := 85) (dq dkX11_letters_1 4 rfl) (by decide) (fun c1 => ?_) (fun c1 => ?_)
  · rw [if_pos c1] at h
    refine v_lload_n F (dq dkX11_letters_1 7 rfl) rfl 0 rfl ?_
    have h := Option.some.inj h
    subst h
    exact v_lret F E (dq dkX11_letters_1 8 rfl)
  · rw [if_neg c1] at h
    refine v_lconst F (v := 0) (dq dkX11_letters_1 5 rfl) rfl ?_
    refine v_goto F (tgt := 86) (dq dkX11_letters_1 6 rfl) (by decide) ?_
    have h := Option.some.inj h
    subst h
    exact v_lret F E (dq dkX11_letters_1 8 rfl)
def f_X11_letters_59 (k4 : MS → Int64 → Int32 → Option (Int64 × MS)) (y : MS) (a3 : Int32) (s0 : Int64) : Option (Int64 × MS) := k4 (pi y 61 31 ((gi y 61 31) + 1)) s0 (a3 + 1)
set_option maxRecDepth 100000 in
set_option maxHeartbeats 4000000 in
theorem t_X11_letters_59 {C : Cx} {K : KE} {nn : Nat} {x : CS} {R : Int64 × MS}  (k4 : MS → Int64 → Int32 → Option (Int64 × MS)) (y : MS) (a3 : Int32) (s0 : Int64) (hk4 : ∀ (y : MS) (a1 : Int64) (a3 : Int32), k4 y a1 a3 = some R → V C 4 [(0, .ref (K.1 + 61)), (1, .long a1), (3, .int a3)] [] (xfM K nn x y) 0 0) (h : f_X11_letters_59 k4 y a3 s0 = some R) (F : Fx C RX11 cX11_letters 4 rm_X11_letters K) (E : CE C (xfM K nn x R.2) (some (.long R.1)) 0 0 (some .long)) : V C 59 [(0, .ref (K.1 + 61)), (3, .int a3)] [.long s0] (xfM K nn x y) 0 0 := by
  unfold f_X11_letters_59 at h
  refine v_lstore_n F (ls' := [(1, .long s0), (0, .ref (K.1 + 61)), (3, .int a3)]) (dq dkX11_letters_0 33 rfl) rfl (by decide) rfl ?_
  refine v_iinc F (v := a3 + 1) (ls' := [(3, .int (a3 + 1)), (1, .long s0), (0, .ref (K.1 + 61))]) (dq dkX11_letters_0 34 rfl) (j := 2) rfl (kv_add ki_1) (by decide) rfl ?_
  refine v_aload_n F (dq dkX11_letters_0 35 rfl) rfl 2 rfl ?_
  refine v_dup F (dq dkX11_letters_0 36 rfl) rfl ?_
  refine v_get F 61 (xnM (by decide)) xc_61 rfl inlX11 31 (by decide) (tc17 _ (List.mem_of_getElem? (i := 22) rfl)) rfl rfl (dq dkX11_letters_0 37 rfl) ?_
  refine v_iconst F (v := 1) (dq dkX11_letters_0 38 rfl) ki_1 ?_
  refine v_iadd F (dq dkX11_letters_0 39 rfl) ?_
  refine v_put F 61 (xnM (by decide)) xc_61 rfl inlX11 tyX11_ok nmX11 31 (by decide) (tc17 _ (List.mem_of_getElem? (i := 22) rfl)) rfl rfl (tyX11_ok 31 (by decide)) rfl rfl (Nat.le_of_ble_eq_true rfl) (dq dkX11_letters_1 0 rfl) ?_
  refine v_eqM (xwM (q := 61) (j := 31) (v := (gi y 61 31) + 1) (by decide) (by decide) rfl) ?_
  refine v_goto F (tgt := 4) (dq dkX11_letters_1 1 rfl) (by decide) ?_
  refine v_sub [2, 1, 0] rfl ?_
  exact hk4 (pi y 61 31 ((gi y 61 31) + 1)) s0 (a3 + 1) h
def f_X11_letters_4 : Nat → MS → Int64 → Int32 → Option (Int64 × MS)
  | 0, _, _, _ => none
  | n + 1, y, a1, a3 => if (gi y 61 17) ≤ (gi y 61 31) then (f_X11_letters_76 y a1 a3) else (gd (ib (gi y 61 31) 160) (if (b2i (f_X11_in (gi y 71 (gi y 61 31).toNatClampNeg) 97 122)) = 0 then (f_X11_letters_76 y a1 a3) else (if 8 ≤ a3 then (f_X11_letters_59 (f_X11_letters_4 n) y a3 a1) else (gd (ib (gi y 61 31) 160) (f_X11_letters_59 (f_X11_letters_4 n) y a3 ((a1 <<< ((8 : Int32).toInt64 &&& 63)) ||| ((gi y 71 (gi y 61 31).toNatClampNeg).toInt64)))))))
set_option maxRecDepth 100000 in
set_option maxHeartbeats 4000000 in
theorem t_X11_letters_4 {C : Cx} {K : KE} {nn : Nat} {x : CS} {R : Int64 × MS}  (F : Fx C RX11 cX11_letters 4 rm_X11_letters K) (E : CE C (xfM K nn x R.2) (some (.long R.1)) 0 0 (some .long)) : ∀ (n : Nat) (y : MS) (a1 : Int64) (a3 : Int32) (h : f_X11_letters_4 n y a1 a3 = some R), V C 4 [(0, .ref (K.1 + 61)), (1, .long a1), (3, .int a3)] [] (xfM K nn x y) 0 0 := by
  intro n
  induction n with
  | zero => intro y a1 a3 h; cases h
  | succ n ih =>
    intro y a1 a3 h
    rw [f_X11_letters_4] at h
    refine v_aload_n F (dq dkX11_letters_0 4 rfl) rfl 0 rfl ?_
    refine v_get F 61 (xnM (by decide)) xc_61 rfl inlX11 31 (by decide) (tc17 _ (List.mem_of_getElem? (i := 22) rfl)) rfl rfl (dq dkX11_letters_0 5 rfl) ?_
    refine v_aload_n F (dq dkX11_letters_0 6 rfl) rfl 0 rfl ?_
    refine v_get F 61 (xnM (by decide)) xc_61 rfl inlX11 17 (by decide) (tc16 _ (List.mem_of_getElem? (i := 19) rfl)) rfl rfl (dq dkX11_letters_0 7 rfl) ?_
    refine v_icmp_ge F (tgt := 76) (dq dkX11_letters_0 8 rfl) (by decide) (fun c2 => ?_) (fun c2 => ?_)
    · rw [if_pos c2] at h
      refine v_sub [1, 2] rfl ?_
      exact t_X11_letters_76 y a1 a3 h F E
    · rw [if_neg c2] at h
      refine v_aload_n F (dq dkX11_letters_0 9 rfl) rfl 0 rfl ?_
      refine v_get F 61 (xnM (by decide)) xc_61 rfl inlX11 16 (by decide) (tc12 _ (List.mem_of_getElem? (i := 5) rfl)) rfl rfl (dq dkX11_letters_0 10 rfl) ?_
      refine v_aload_n F (dq dkX11_letters_0 11 rfl) rfl 0 rfl ?_
      refine v_get F 61 (xnM (by decide)) xc_61 rfl inlX11 31 (by decide) (tc17 _ (List.mem_of_getElem? (i := 22) rfl)) rfl rfl (dq dkX11_letters_0 12 rfl) ?_
      obtain ⟨g3, h⟩ := gd_of h
      refine v_iald F 71 (xnM (by decide)) xc_71 (ib_in g3) (dq dkX11_letters_0 13 rfl) ?_
      refine v_bipush F (v := 97) (dq dkX11_letters_0 14 rfl) kb_97 ?_
      refine v_bipush F (v := 122) (dq dkX11_letters_0 15 rfl) kb_122 ?_
      refine v_callS 3 F (kc1 := 0) (ks1 := 0) (as := [.int (gi y 71 (gi y 61 31).toNatClampNeg), .int 97, .int 122]) (st := []) (st1 := (.int (b2i (f_X11_in (gi y 71 (gi y 61 31).toNatClampNeg) 97 122)) :: [])) (res := (some (.int (b2i (f_X11_in (gi y 71 (gi y 61 31).toNatClampNeg) 97 122))))) (c_X11_in (l := C.2.1) (gi y 71 (gi y 61 31).toNatClampNeg) 97 122) (tc15 _ (List.mem_of_getElem? (i := 1) rfl)) (tc15 _ (List.mem_of_getElem? (i := 2) rfl)) (tc1 _ (List.mem_of_getElem? (i := 5) rfl)) (tc15 _ (List.mem_of_getElem? (i := 3) rfl)) (by decide) rfl ⟨rfl, rfl, Nat.le_of_ble_eq_true rfl, Nat.le_of_ble_eq_true rfl⟩ ⟨Nat.le_of_ble_eq_true rfl, Nat.le_of_ble_eq_true rfl⟩ rfl (Nat.le_of_ble_eq_true rfl) rfl rfl rfl (dq dkX11_letters_0 16 rfl) ?_
      refine v_if_eq F (tgt := 76) (dq dkX11_letters_0 17 rfl) (by decide) (fun c5 => ?_) (fun c5 => ?_)
      · rw [if_pos c5] at h
        refine v_sub [1, 2] rfl ?_
        exact t_X11_letters_76 y a1 a3 h F E
      · rw [if_neg c5] at h
        refine v_iload_n F (dq dkX11_letters_0 18 rfl) rfl 2 rfl ?_
        refine v_bipush F (v := 8) (dq dkX11_letters_0 19 rfl) kb_8 ?_
        refine v_icmp_ge F (tgt := 58) (dq dkX11_letters_0 20 rfl) (by decide) (fun c6 => ?_) (fun c6 => ?_)
        · rw [if_pos c6] at h
          refine v_lload_n F (dq dkX11_letters_0 32 rfl) rfl 1 rfl ?_
          refine v_sub [0, 2] rfl ?_
          exact t_X11_letters_59 (f_X11_letters_4 n) y a3 a1 ih h F E
        · rw [if_neg c6] at h
          refine v_lload_n F (dq dkX11_letters_0 21 rfl) rfl 1 rfl ?_
          refine v_bipush F (v := 8) (dq dkX11_letters_0 22 rfl) kb_8 ?_
          refine v_lshl F (dq dkX11_letters_0 23 rfl) ?_
          refine v_aload_n F (dq dkX11_letters_0 24 rfl) rfl 0 rfl ?_
          refine v_get F 61 (xnM (by decide)) xc_61 rfl inlX11 16 (by decide) (tc12 _ (List.mem_of_getElem? (i := 5) rfl)) rfl rfl (dq dkX11_letters_0 25 rfl) ?_
          refine v_aload_n F (dq dkX11_letters_0 26 rfl) rfl 0 rfl ?_
          refine v_get F 61 (xnM (by decide)) xc_61 rfl inlX11 31 (by decide) (tc17 _ (List.mem_of_getElem? (i := 22) rfl)) rfl rfl (dq dkX11_letters_0 27 rfl) ?_
          obtain ⟨g7, h⟩ := gd_of h
          refine v_iald F 71 (xnM (by decide)) xc_71 (ib_in g7) (dq dkX11_letters_0 28 rfl) ?_
          refine v_i2l F (dq dkX11_letters_0 29 rfl) ?_
          refine v_lor F (dq dkX11_letters_0 30 rfl) ?_
          refine v_goto F (tgt := 59) (dq dkX11_letters_0 31 rfl) (by decide) ?_
          refine v_sub [0, 2] rfl ?_
          exact t_X11_letters_59 (f_X11_letters_4 n) y a3 ((a1 <<< ((8 : Int32).toInt64 &&& 63)) ||| ((gi y 71 (gi y 61 31).toNatClampNeg).toInt64)) ih h F E
def f_X11_letters (y : MS) : Option (Int64 × MS) := f_X11_letters_4 1000 y 0 0
set_option maxRecDepth 100000 in
set_option maxHeartbeats 4000000 in
theorem c_X11_letters {K : KE} {l : Launch} {R : Int64 × MS} {nn : Nat} (x : CS) (y : MS) (h : f_X11_letters y = some R) : MC K l yX11_letters cX11_letters 4 (some .long) rm_X11_letters 0 0 [.ref (K.1 + 61)] (xfM K nn x y) (xfM K nn x R.2) (some (.long R.1)) := by
  unfold f_X11_letters at h
  refine mc_of (ls0 := [(0, .ref (K.1 + 61))]) (by decide) (Nat.le_of_ble_eq_true rfl) rfl (fun C hl hnm F E => ?_)
  have F : Fx C RX11 cX11_letters 4 rm_X11_letters K := F
  refine v_lconst F (v := 0) (dq dkX11_letters_0 0 rfl) rfl ?_
  refine v_lstore_n F (ls' := [(1, .long 0), (0, .ref (K.1 + 61))]) (dq dkX11_letters_0 1 rfl) rfl (by decide) rfl ?_
  refine v_iconst F (v := 0) (dq dkX11_letters_0 2 rfl) ki_0 ?_
  refine v_istore_n F (ls' := [(3, .int 0), (1, .long 0), (0, .ref (K.1 + 61))]) (dq dkX11_letters_0 3 rfl) rfl (by decide) rfl ?_
  refine v_sub [2, 1, 0] rfl ?_
  exact t_X11_letters_4 F E 1000 y 0 0 h
def rm_X11_next : Room := { frames := 3, cells := 0, slots := 0, locals := 75 }
def f_X11_next_374 (y : MS) (s0 : Int32) : Option (MS) := some (pi (pi y 61 33 s0) 61 31 ((gi (pi y 61 33 s0) 61 31) + 1))
set_option maxRecDepth 100000 in
set_option maxHeartbeats 4000000 in
theorem t_X11_next_374 {C : Cx} {K : KE} {nn : Nat} {x : CS} {R : MS}  (y : MS) (s0 : Int32) (h : f_X11_next_374 y s0 = some R) (F : Fx C RX11 cX11_next 5 rm_X11_next K) (E : CE C (xfM K nn x R) none 0 0 none) : V C 374 [(0, .ref (K.1 + 61))] [.int s0, .ref (K.1 + 61)] (xfM K nn x y) 0 0 := by
  unfold f_X11_next_374 at h
  refine v_put F 61 (xnM (by decide)) xc_61 rfl inlX11 tyX11_ok nmX11 33 (by decide) (tc18 _ (List.mem_of_getElem? (i := 0) rfl)) rfl rfl (tyX11_ok 33 (by decide)) rfl rfl (Nat.le_of_ble_eq_true rfl) (dq dkX11_next_4 34 rfl) ?_
  refine v_eqM (xwM (q := 61) (j := 33) (v := s0) (by decide) (by decide) rfl) ?_
  refine v_aload_n F (dq dkX11_next_4 35 rfl) rfl 0 rfl ?_
  refine v_dup F (dq dkX11_next_4 36 rfl) rfl ?_
  refine v_get F 61 (xnM (by decide)) xc_61 rfl inlX11 31 (by decide) (tc17 _ (List.mem_of_getElem? (i := 22) rfl)) rfl rfl (dq dkX11_next_4 37 rfl) ?_
  refine v_iconst F (v := 1) (dq dkX11_next_4 38 rfl) ki_1 ?_
  refine v_iadd F (dq dkX11_next_4 39 rfl) ?_
  refine v_put F 61 (xnM (by decide)) xc_61 rfl inlX11 tyX11_ok nmX11 31 (by decide) (tc17 _ (List.mem_of_getElem? (i := 22) rfl)) rfl rfl (tyX11_ok 31 (by decide)) rfl rfl (Nat.le_of_ble_eq_true rfl) (dq dkX11_next_5 0 rfl) ?_
  refine v_eqM (xwM (q := 61) (j := 31) (v := (gi (pi y 61 33 s0) 61 31) + 1) (by decide) (by decide) rfl) ?_
  have h := Option.some.inj h
  subst h
  exact v_vret F E (dq dkX11_next_5 1 rfl)
def f_X11_next_363 (y : MS) (a1 : Int32) (s0 : Int32) : Option (MS) := if s0 = 0 then (f_X11_next_374 y (-1)) else (f_X11_next_374 y a1)
set_option maxRecDepth 100000 in
set_option maxHeartbeats 4000000 in
theorem t_X11_next_363 {C : Cx} {K : KE} {nn : Nat} {x : CS} {R : MS}  (y : MS) (a1 : Int32) (s0 : Int32) (h : f_X11_next_363 y a1 s0 = some R) (F : Fx C RX11 cX11_next 5 rm_X11_next K) (E : CE C (xfM K nn x R) none 0 0 none) : V C 363 [(0, .ref (K.1 + 61)), (1, .int a1)] [.int s0] (xfM K nn x y) 0 0 := by
  unfold f_X11_next_363 at h
  refine v_istore_n F (ls' := [(2, .int s0), (0, .ref (K.1 + 61)), (1, .int a1)]) (dq dkX11_next_4 27 rfl) rfl (by decide) rfl ?_
  refine v_aload_n F (dq dkX11_next_4 28 rfl) rfl 1 rfl ?_
  refine v_iload_n F (dq dkX11_next_4 29 rfl) rfl 0 rfl ?_
  refine v_if_eq F (tgt := 373) (dq dkX11_next_4 30 rfl) (by decide) (fun c1 => ?_) (fun c1 => ?_)
  · rw [if_pos c1] at h
    refine v_iconst F (v := (-1)) (dq dkX11_next_4 33 rfl) ki_m1 ?_
    refine v_sub [1] rfl ?_
    exact t_X11_next_374 y (-1) h F E
  · rw [if_neg c1] at h
    refine v_iload_n F (dq dkX11_next_4 31 rfl) rfl 2 rfl ?_
    refine v_goto F (tgt := 374) (dq dkX11_next_4 32 rfl) (by decide) ?_
    refine v_sub [1] rfl ?_
    exact t_X11_next_374 y a1 h F E
def f_X11_next_358 (y : MS) (a1 : Int32) : Option (MS) := f_X11_next_363 y a1 1
set_option maxRecDepth 100000 in
set_option maxHeartbeats 4000000 in
theorem t_X11_next_358 {C : Cx} {K : KE} {nn : Nat} {x : CS} {R : MS}  (y : MS) (a1 : Int32) (h : f_X11_next_358 y a1 = some R) (F : Fx C RX11 cX11_next 5 rm_X11_next K) (E : CE C (xfM K nn x R) none 0 0 none) : V C 358 [(0, .ref (K.1 + 61)), (1, .int a1)] [] (xfM K nn x y) 0 0 := by
  unfold f_X11_next_358 at h
  refine v_iconst F (v := 1) (dq dkX11_next_4 24 rfl) ki_1 ?_
  refine v_goto F (tgt := 363) (dq dkX11_next_4 25 rfl) (by decide) ?_
  exact t_X11_next_363 y a1 1 h F E
def f_X11_next_304 (y : MS) (s0 : Int32) : Option (MS) := some (pi y 61 33 s0)
set_option maxRecDepth 100000 in
set_option maxHeartbeats 4000000 in
theorem t_X11_next_304 {C : Cx} {K : KE} {nn : Nat} {x : CS} {R : MS}  (y : MS) (s0 : Int32) (h : f_X11_next_304 y s0 = some R) (F : Fx C RX11 cX11_next 5 rm_X11_next K) (E : CE C (xfM K nn x R) none 0 0 none) : V C 304 [] [.int s0, .ref (K.1 + 61)] (xfM K nn x y) 0 0 := by
  unfold f_X11_next_304 at h
  refine v_put F 61 (xnM (by decide)) xc_61 rfl inlX11 tyX11_ok nmX11 33 (by decide) (tc18 _ (List.mem_of_getElem? (i := 0) rfl)) rfl rfl (tyX11_ok 33 (by decide)) rfl rfl (Nat.le_of_ble_eq_true rfl) (dq dkX11_next_3 38 rfl) ?_
  refine v_eqM (xwM (q := 61) (j := 33) (v := s0) (by decide) (by decide) rfl) ?_
  refine v_goto F (tgt := 387) (dq dkX11_next_3 39 rfl) (by decide) ?_
  have h := Option.some.inj h
  subst h
  exact v_vret F E (dq dkX11_next_5 1 rfl)
def f_X11_next_293 (y : MS) (a2 : Int32) : Option (MS) := if a2 ≤ 4 then (f_X11_next_304 y 1) else (f_X11_next_304 y (-1))
set_option maxRecDepth 100000 in
set_option maxHeartbeats 4000000 in
theorem t_X11_next_293 {C : Cx} {K : KE} {nn : Nat} {x : CS} {R : MS}  (y : MS) (a2 : Int32) (h : f_X11_next_293 y a2 = some R) (F : Fx C RX11 cX11_next 5 rm_X11_next K) (E : CE C (xfM K nn x R) none 0 0 none) : V C 293 [(0, .ref (K.1 + 61)), (2, .int a2)] [] (xfM K nn x y) 0 0 := by
  unfold f_X11_next_293 at h
  refine v_aload_n F (dq dkX11_next_3 31 rfl) rfl 0 rfl ?_
  refine v_iload_n F (dq dkX11_next_3 32 rfl) rfl 1 rfl ?_
  refine v_iconst F (v := 4) (dq dkX11_next_3 33 rfl) ki_4 ?_
  refine v_icmp_le F (tgt := 303) (dq dkX11_next_3 34 rfl) (by decide) (fun c2 => ?_) (fun c2 => ?_)
  · rw [if_pos c2] at h
    refine v_iconst F (v := 1) (dq dkX11_next_3 37 rfl) ki_1 ?_
    refine v_sub [] rfl ?_
    exact t_X11_next_304 y 1 h F E
  · rw [if_neg c2] at h
    refine v_iconst F (v := (-1)) (dq dkX11_next_3 35 rfl) ki_m1 ?_
    refine v_goto F (tgt := 304) (dq dkX11_next_3 36 rfl) (by decide) ?_
    refine v_sub [] rfl ?_
    exact t_X11_next_304 y (-1) h F E
def f_X11_next_274 (k214 : MS → Int32 → Option (MS)) (y : MS) (a2 : Int32) (s0 : Int32) : Option (MS) := k214 (pi (pi y 61 34 s0) 61 31 ((gi (pi y 61 34 s0) 61 31) + 1)) (a2 + 1)
set_option maxRecDepth 100000 in
set_option maxHeartbeats 4000000 in
theorem t_X11_next_274 {C : Cx} {K : KE} {nn : Nat} {x : CS} {R : MS}  (k214 : MS → Int32 → Option (MS)) (y : MS) (a2 : Int32) (s0 : Int32) (hk214 : ∀ (y : MS) (a2 : Int32), k214 y a2 = some R → V C 214 [(0, .ref (K.1 + 61)), (2, .int a2)] [] (xfM K nn x y) 0 0) (h : f_X11_next_274 k214 y a2 s0 = some R) (F : Fx C RX11 cX11_next 5 rm_X11_next K) (E : CE C (xfM K nn x R) none 0 0 none) : V C 274 [(0, .ref (K.1 + 61)), (2, .int a2)] [.int s0, .ref (K.1 + 61)] (xfM K nn x y) 0 0 := by
  unfold f_X11_next_274 at h
  refine v_put F 61 (xnM (by decide)) xc_61 rfl inlX11 tyX11_ok nmX11 34 (by decide) (tc18 _ (List.mem_of_getElem? (i := 1) rfl)) rfl rfl (tyX11_ok 34 (by decide)) rfl rfl (Nat.le_of_ble_eq_true rfl) (dq dkX11_next_3 22 rfl) ?_
  refine v_eqM (xwM (q := 61) (j := 34) (v := s0) (by decide) (by decide) rfl) ?_
  refine v_iinc F (v := a2 + 1) (ls' := [(2, .int (a2 + 1)), (0, .ref (K.1 + 61))]) (dq dkX11_next_3 23 rfl) (j := 1) rfl (kv_add ki_1) (by decide) rfl ?_
  refine v_aload_n F (dq dkX11_next_3 24 rfl) rfl 1 rfl ?_
  refine v_dup F (dq dkX11_next_3 25 rfl) rfl ?_
  refine v_get F 61 (xnM (by decide)) xc_61 rfl inlX11 31 (by decide) (tc17 _ (List.mem_of_getElem? (i := 22) rfl)) rfl rfl (dq dkX11_next_3 26 rfl) ?_
  refine v_iconst F (v := 1) (dq dkX11_next_3 27 rfl) ki_1 ?_
  refine v_iadd F (dq dkX11_next_3 28 rfl) ?_
  refine v_put F 61 (xnM (by decide)) xc_61 rfl inlX11 tyX11_ok nmX11 31 (by decide) (tc17 _ (List.mem_of_getElem? (i := 22) rfl)) rfl rfl (tyX11_ok 31 (by decide)) rfl rfl (Nat.le_of_ble_eq_true rfl) (dq dkX11_next_3 29 rfl) ?_
  refine v_eqM (xwM (q := 61) (j := 31) (v := (gi (pi y 61 34 s0) 61 31) + 1) (by decide) (by decide) rfl) ?_
  refine v_goto F (tgt := 214) (dq dkX11_next_3 30 rfl) (by decide) ?_
  refine v_sub [1, 0] rfl ?_
  exact hk214 (pi (pi y 61 34 s0) 61 31 ((gi (pi y 61 34 s0) 61 31) + 1)) (a2 + 1) h
def f_X11_next_214 : Nat → MS → Int32 → Option (MS)
  | 0, _, _ => none
  | n + 1, y, a2 => if (gi y 61 17) ≤ (gi y 61 31) then (f_X11_next_293 y a2) else (gd (ib (gi y 61 31) 160) (if (b2i (f_X11_in (gi y 71 (gi y 61 31).toNatClampNeg) 48 57)) = 0 then (f_X11_next_293 y a2) else (if 4 ≤ a2 then (f_X11_next_274 (f_X11_next_214 n) y a2 0) else (gd (ib (gi y 61 31) 160) (f_X11_next_274 (f_X11_next_214 n) y a2 (((10 * (gi y 61 34)) + (gi y 71 (gi y 61 31).toNatClampNeg)) - 48))))))
set_option maxRecDepth 100000 in
set_option maxHeartbeats 4000000 in
theorem t_X11_next_214 {C : Cx} {K : KE} {nn : Nat} {x : CS} {R : MS}  (F : Fx C RX11 cX11_next 5 rm_X11_next K) (E : CE C (xfM K nn x R) none 0 0 none) : ∀ (n : Nat) (y : MS) (a2 : Int32) (h : f_X11_next_214 n y a2 = some R), V C 214 [(0, .ref (K.1 + 61)), (2, .int a2)] [] (xfM K nn x y) 0 0 := by
  intro n
  induction n with
  | zero => intro y a2 h; cases h
  | succ n ih =>
    intro y a2 h
    rw [f_X11_next_214] at h
    refine v_aload_n F (dq dkX11_next_2 30 rfl) rfl 0 rfl ?_
    refine v_get F 61 (xnM (by decide)) xc_61 rfl inlX11 31 (by decide) (tc17 _ (List.mem_of_getElem? (i := 22) rfl)) rfl rfl (dq dkX11_next_2 31 rfl) ?_
    refine v_aload_n F (dq dkX11_next_2 32 rfl) rfl 0 rfl ?_
    refine v_get F 61 (xnM (by decide)) xc_61 rfl inlX11 17 (by decide) (tc16 _ (List.mem_of_getElem? (i := 19) rfl)) rfl rfl (dq dkX11_next_2 33 rfl) ?_
    refine v_icmp_ge F (tgt := 293) (dq dkX11_next_2 34 rfl) (by decide) (fun c3 => ?_) (fun c3 => ?_)
    · rw [if_pos c3] at h
      exact t_X11_next_293 y a2 h F E
    · rw [if_neg c3] at h
      refine v_aload_n F (dq dkX11_next_2 35 rfl) rfl 0 rfl ?_
      refine v_get F 61 (xnM (by decide)) xc_61 rfl inlX11 16 (by decide) (tc12 _ (List.mem_of_getElem? (i := 5) rfl)) rfl rfl (dq dkX11_next_2 36 rfl) ?_
      refine v_aload_n F (dq dkX11_next_2 37 rfl) rfl 0 rfl ?_
      refine v_get F 61 (xnM (by decide)) xc_61 rfl inlX11 31 (by decide) (tc17 _ (List.mem_of_getElem? (i := 22) rfl)) rfl rfl (dq dkX11_next_2 38 rfl) ?_
      obtain ⟨g4, h⟩ := gd_of h
      refine v_iald F 71 (xnM (by decide)) xc_71 (ib_in g4) (dq dkX11_next_2 39 rfl) ?_
      refine v_bipush F (v := 48) (dq dkX11_next_3 0 rfl) kb_48 ?_
      refine v_bipush F (v := 57) (dq dkX11_next_3 1 rfl) kb_57 ?_
      refine v_callS 3 F (kc1 := 0) (ks1 := 0) (as := [.int (gi y 71 (gi y 61 31).toNatClampNeg), .int 48, .int 57]) (st := []) (st1 := (.int (b2i (f_X11_in (gi y 71 (gi y 61 31).toNatClampNeg) 48 57)) :: [])) (res := (some (.int (b2i (f_X11_in (gi y 71 (gi y 61 31).toNatClampNeg) 48 57))))) (c_X11_in (l := C.2.1) (gi y 71 (gi y 61 31).toNatClampNeg) 48 57) (tc15 _ (List.mem_of_getElem? (i := 1) rfl)) (tc15 _ (List.mem_of_getElem? (i := 2) rfl)) (tc1 _ (List.mem_of_getElem? (i := 5) rfl)) (tc15 _ (List.mem_of_getElem? (i := 3) rfl)) (by decide) rfl ⟨rfl, rfl, Nat.le_of_ble_eq_true rfl, Nat.le_of_ble_eq_true rfl⟩ ⟨Nat.le_of_ble_eq_true rfl, Nat.le_of_ble_eq_true rfl⟩ rfl (Nat.le_of_ble_eq_true rfl) rfl rfl rfl (dq dkX11_next_3 2 rfl) ?_
      refine v_if_eq F (tgt := 293) (dq dkX11_next_3 3 rfl) (by decide) (fun c6 => ?_) (fun c6 => ?_)
      · rw [if_pos c6] at h
        exact t_X11_next_293 y a2 h F E
      · rw [if_neg c6] at h
        refine v_aload_n F (dq dkX11_next_3 4 rfl) rfl 0 rfl ?_
        refine v_iload_n F (dq dkX11_next_3 5 rfl) rfl 1 rfl ?_
        refine v_iconst F (v := 4) (dq dkX11_next_3 6 rfl) ki_4 ?_
        refine v_icmp_ge F (tgt := 273) (dq dkX11_next_3 7 rfl) (by decide) (fun c7 => ?_) (fun c7 => ?_)
        · rw [if_pos c7] at h
          refine v_iconst F (v := 0) (dq dkX11_next_3 21 rfl) ki_0 ?_
          exact t_X11_next_274 (f_X11_next_214 n) y a2 0 ih h F E
        · rw [if_neg c7] at h
          refine v_bipush F (v := 10) (dq dkX11_next_3 8 rfl) kb_10 ?_
          refine v_aload_n F (dq dkX11_next_3 9 rfl) rfl 0 rfl ?_
          refine v_get F 61 (xnM (by decide)) xc_61 rfl inlX11 34 (by decide) (tc18 _ (List.mem_of_getElem? (i := 1) rfl)) rfl rfl (dq dkX11_next_3 10 rfl) ?_
          refine v_imul F (dq dkX11_next_3 11 rfl) ?_
          refine v_aload_n F (dq dkX11_next_3 12 rfl) rfl 0 rfl ?_
          refine v_get F 61 (xnM (by decide)) xc_61 rfl inlX11 16 (by decide) (tc12 _ (List.mem_of_getElem? (i := 5) rfl)) rfl rfl (dq dkX11_next_3 13 rfl) ?_
          refine v_aload_n F (dq dkX11_next_3 14 rfl) rfl 0 rfl ?_
          refine v_get F 61 (xnM (by decide)) xc_61 rfl inlX11 31 (by decide) (tc17 _ (List.mem_of_getElem? (i := 22) rfl)) rfl rfl (dq dkX11_next_3 15 rfl) ?_
          obtain ⟨g8, h⟩ := gd_of h
          refine v_iald F 71 (xnM (by decide)) xc_71 (ib_in g8) (dq dkX11_next_3 16 rfl) ?_
          refine v_iadd F (dq dkX11_next_3 17 rfl) ?_
          refine v_bipush F (v := 48) (dq dkX11_next_3 18 rfl) kb_48 ?_
          refine v_isub F (dq dkX11_next_3 19 rfl) ?_
          refine v_goto F (tgt := 274) (dq dkX11_next_3 20 rfl) (by decide) ?_
          exact t_X11_next_274 (f_X11_next_214 n) y a2 (((10 * (gi y 61 34)) + (gi y 71 (gi y 61 31).toNatClampNeg)) - 48) ih h F E
def f_X11_next_195 (y : MS) (s0 : Int32) : Option (MS) := some (pi y 61 34 s0)
set_option maxRecDepth 100000 in
set_option maxHeartbeats 4000000 in
theorem t_X11_next_195 {C : Cx} {K : KE} {nn : Nat} {x : CS} {R : MS}  (y : MS) (s0 : Int32) (h : f_X11_next_195 y s0 = some R) (F : Fx C RX11 cX11_next 5 rm_X11_next K) (E : CE C (xfM K nn x R) none 0 0 none) : V C 195 [] [.int s0, .ref (K.1 + 61)] (xfM K nn x y) 0 0 := by
  unfold f_X11_next_195 at h
  refine v_put F 61 (xnM (by decide)) xc_61 rfl inlX11 tyX11_ok nmX11 34 (by decide) (tc18 _ (List.mem_of_getElem? (i := 1) rfl)) rfl rfl (tyX11_ok 34 (by decide)) rfl rfl (Nat.le_of_ble_eq_true rfl) (dq dkX11_next_2 21 rfl) ?_
  refine v_eqM (xwM (q := 61) (j := 34) (v := s0) (by decide) (by decide) rfl) ?_
  refine v_goto F (tgt := 387) (dq dkX11_next_2 22 rfl) (by decide) ?_
  have h := Option.some.inj h
  subst h
  exact v_vret F E (dq dkX11_next_5 1 rfl)
def f_X11_next_176 (y : MS) (a4 : Int32) (s0 : Int32) : Option (MS) := if 3 ≤ a4 then (f_X11_next_195 (pi y 61 33 s0) (a4 - 3)) else (f_X11_next_195 (pi y 61 33 s0) a4)
set_option maxRecDepth 100000 in
set_option maxHeartbeats 4000000 in
theorem t_X11_next_176 {C : Cx} {K : KE} {nn : Nat} {x : CS} {R : MS}  (y : MS) (a4 : Int32) (s0 : Int32) (h : f_X11_next_176 y a4 s0 = some R) (F : Fx C RX11 cX11_next 5 rm_X11_next K) (E : CE C (xfM K nn x R) none 0 0 none) : V C 176 [(0, .ref (K.1 + 61)), (4, .int a4)] [.int s0, .ref (K.1 + 61)] (xfM K nn x y) 0 0 := by
  unfold f_X11_next_176 at h
  refine v_put F 61 (xnM (by decide)) xc_61 rfl inlX11 tyX11_ok nmX11 33 (by decide) (tc18 _ (List.mem_of_getElem? (i := 0) rfl)) rfl rfl (tyX11_ok 33 (by decide)) rfl rfl (Nat.le_of_ble_eq_true rfl) (dq dkX11_next_2 11 rfl) ?_
  refine v_eqM (xwM (q := 61) (j := 33) (v := s0) (by decide) (by decide) rfl) ?_
  refine v_aload_n F (dq dkX11_next_2 12 rfl) rfl 0 rfl ?_
  refine v_iload F (dq dkX11_next_2 13 rfl) 1 rfl ?_
  refine v_iconst F (v := 3) (dq dkX11_next_2 14 rfl) ki_3 ?_
  refine v_icmp_ge F (tgt := 191) (dq dkX11_next_2 15 rfl) (by decide) (fun c9 => ?_) (fun c9 => ?_)
  · rw [if_pos c9] at h
    refine v_iload F (dq dkX11_next_2 18 rfl) 1 rfl ?_
    refine v_iconst F (v := 3) (dq dkX11_next_2 19 rfl) ki_3 ?_
    refine v_isub F (dq dkX11_next_2 20 rfl) ?_
    refine v_sub [] rfl ?_
    exact t_X11_next_195 (pi y 61 33 s0) (a4 - 3) h F E
  · rw [if_neg c9] at h
    refine v_iload F (dq dkX11_next_2 16 rfl) 1 rfl ?_
    refine v_goto F (tgt := 195) (dq dkX11_next_2 17 rfl) (by decide) ?_
    refine v_sub [] rfl ?_
    exact t_X11_next_195 (pi y 61 33 s0) a4 h F E
def f_X11_next_136 (y : MS) (a4 : Int32) : Option (MS) := if 3 ≤ a4 then (if 9 ≤ a4 then (if a4 = 12 then (f_X11_next_176 y a4 (-1)) else (f_X11_next_176 y a4 ((4 + a4) - 9))) else (f_X11_next_176 y a4 2)) else (f_X11_next_176 y a4 3)
set_option maxRecDepth 100000 in
set_option maxHeartbeats 4000000 in
theorem t_X11_next_136 {C : Cx} {K : KE} {nn : Nat} {x : CS} {R : MS}  (y : MS) (a4 : Int32) (h : f_X11_next_136 y a4 = some R) (F : Fx C RX11 cX11_next 5 rm_X11_next K) (E : CE C (xfM K nn x R) none 0 0 none) : V C 136 [(0, .ref (K.1 + 61)), (4, .int a4)] [] (xfM K nn x y) 0 0 := by
  unfold f_X11_next_136 at h
  refine v_aload_n F (dq dkX11_next_1 30 rfl) rfl 0 rfl ?_
  refine v_iload F (dq dkX11_next_1 31 rfl) 1 rfl ?_
  refine v_iconst F (v := 3) (dq dkX11_next_1 32 rfl) ki_3 ?_
  refine v_icmp_ge F (tgt := 147) (dq dkX11_next_1 33 rfl) (by decide) (fun c10 => ?_) (fun c10 => ?_)
  · rw [if_pos c10] at h
    refine v_iload F (dq dkX11_next_1 36 rfl) 1 rfl ?_
    refine v_bipush F (v := 9) (dq dkX11_next_1 37 rfl) kb_9 ?_
    refine v_icmp_ge F (tgt := 158) (dq dkX11_next_1 38 rfl) (by decide) (fun c11 => ?_) (fun c11 => ?_)
    · rw [if_pos c11] at h
      refine v_iload F (dq dkX11_next_2 1 rfl) 1 rfl ?_
      refine v_bipush F (v := 12) (dq dkX11_next_2 2 rfl) kb_12 ?_
      refine v_icmp_ne F (tgt := 169) (dq dkX11_next_2 3 rfl) (by decide) (fun c12 => ?_) (fun c12 => ?_)
      · rw [if_neg c12] at h
        refine v_iconst F (v := 4) (dq dkX11_next_2 6 rfl) ki_4 ?_
        refine v_iload F (dq dkX11_next_2 7 rfl) 1 rfl ?_
        refine v_iadd F (dq dkX11_next_2 8 rfl) ?_
        refine v_bipush F (v := 9) (dq dkX11_next_2 9 rfl) kb_9 ?_
        refine v_isub F (dq dkX11_next_2 10 rfl) ?_
        exact t_X11_next_176 y a4 ((4 + a4) - 9) h F E
      · rw [if_pos c12] at h
        refine v_iconst F (v := (-1)) (dq dkX11_next_2 4 rfl) ki_m1 ?_
        refine v_goto F (tgt := 176) (dq dkX11_next_2 5 rfl) (by decide) ?_
        exact t_X11_next_176 y a4 (-1) h F E
    · rw [if_neg c11] at h
      refine v_iconst F (v := 2) (dq dkX11_next_1 39 rfl) ki_2 ?_
      refine v_goto F (tgt := 176) (dq dkX11_next_2 0 rfl) (by decide) ?_
      exact t_X11_next_176 y a4 2 h F E
  · rw [if_neg c10] at h
    refine v_iconst F (v := 3) (dq dkX11_next_1 34 rfl) ki_3 ?_
    refine v_goto F (tgt := 176) (dq dkX11_next_1 35 rfl) (by decide) ?_
    exact t_X11_next_176 y a4 3 h F E
def f_X11_next_111 : Nat → MS → Int64 → Int32 → Option (MS)
  | 0, _, _, _ => none
  | n + 1, y, a2, a4 => if 12 ≤ a4 then (f_X11_next_136 y a4) else (gd (ib a4 12) (if (lg_cmp (wdl a4.toNatClampNeg) a2) = 0 then (f_X11_next_136 y a4) else ((f_X11_next_111 n) y a2 (a4 + 1))))
set_option maxRecDepth 100000 in
set_option maxHeartbeats 4000000 in
theorem t_X11_next_111 {C : Cx} {K : KE} {nn : Nat} {x : CS} {R : MS}  (F : Fx C RX11 cX11_next 5 rm_X11_next K) (E : CE C (xfM K nn x R) none 0 0 none) : ∀ (n : Nat) (y : MS) (a2 : Int64) (a4 : Int32) (h : f_X11_next_111 n y a2 a4 = some R), V C 111 [(0, .ref (K.1 + 61)), (2, .long a2), (4, .int a4)] [] (xfM K nn x y) 0 0 := by
  intro n
  induction n with
  | zero => intro y a2 a4 h; cases h
  | succ n ih =>
    intro y a2 a4 h
    rw [f_X11_next_111] at h
    refine v_iload F (dq dkX11_next_1 18 rfl) 2 rfl ?_
    refine v_bipush F (v := 12) (dq dkX11_next_1 19 rfl) kb_12 ?_
    refine v_icmp_ge F (tgt := 136) (dq dkX11_next_1 20 rfl) (by decide) (fun c13 => ?_) (fun c13 => ?_)
    · rw [if_pos c13] at h
      refine v_sub [0, 2] rfl ?_
      exact t_X11_next_136 y a4 h F E
    · rw [if_neg c13] at h
      refine v_aload_n F (dq dkX11_next_1 21 rfl) rfl 0 rfl ?_
      refine v_get F 61 (xnM (by decide)) xc_61 rfl inlX11 35 (by decide) (tc13 _ (List.mem_of_getElem? (i := 4) rfl)) rfl rfl (dq dkX11_next_1 22 rfl) ?_
      refine v_iload F (dq dkX11_next_1 23 rfl) 2 rfl ?_
      obtain ⟨g14, h⟩ := gd_of h
      refine v_lald F 80 (xnM (by decide)) xc_80 (ib_in g14) (dq dkX11_next_1 24 rfl) ?_
      refine v_lload_n F (dq dkX11_next_1 25 rfl) rfl 1 rfl ?_
      refine v_lcmp F (dq dkX11_next_1 26 rfl) ?_
      refine v_if_eq F (tgt := 136) (dq dkX11_next_1 27 rfl) (by decide) (fun c15 => ?_) (fun c15 => ?_)
      · rw [if_pos c15] at h
        refine v_sub [0, 2] rfl ?_
        exact t_X11_next_136 y a4 h F E
      · rw [if_neg c15] at h
        refine v_iinc F (v := a4 + 1) (ls' := [(4, .int (a4 + 1)), (0, .ref (K.1 + 61)), (2, .long a2)]) (dq dkX11_next_1 28 rfl) (j := 2) rfl (kv_add ki_1) (by decide) rfl ?_
        refine v_goto F (tgt := 111) (dq dkX11_next_1 29 rfl) (by decide) ?_
        refine v_sub [1, 2, 0] rfl ?_
        exact ih y a2 (a4 + 1) h
def f_X11_next_52 (y : MS) : Option (MS) := if (gi (pi (pi (pi y 61 32 (gi y 61 31)) 61 33 0) 61 34 0) 61 31) = (gi (pi (pi (pi y 61 32 (gi y 61 31)) 61 33 0) 61 34 0) 61 17) then (some (pi (pi (pi y 61 32 (gi y 61 31)) 61 33 0) 61 34 0)) else (gd (ib (gi (pi (pi (pi y 61 32 (gi y 61 31)) 61 33 0) 61 34 0) 61 31) 160) (if (b2i (f_X11_in (gi (pi (pi (pi y 61 32 (gi y 61 31)) 61 33 0) 61 34 0) 71 (gi (pi (pi (pi y 61 32 (gi y 61 31)) 61 33 0) 61 34 0) 61 31).toNatClampNeg) 97 122)) = 0 then (if (b2i (f_X11_in (gi (pi (pi (pi y 61 32 (gi y 61 31)) 61 33 0) 61 34 0) 71 (gi (pi (pi (pi y 61 32 (gi y 61 31)) 61 33 0) 61 34 0) 61 31).toNatClampNeg) 48 57)) = 0 then (if (gi (pi (pi (pi y 61 32 (gi y 61 31)) 61 33 0) 61 34 0) 71 (gi (pi (pi (pi y 61 32 (gi y 61 31)) 61 33 0) 61 34 0) 61 31).toNatClampNeg) = 40 then (f_X11_next_358 (pi (pi (pi y 61 32 (gi y 61 31)) 61 33 0) 61 34 0) (gi (pi (pi (pi y 61 32 (gi y 61 31)) 61 33 0) 61 34 0) 71 (gi (pi (pi (pi y 61 32 (gi y 61 31)) 61 33 0) 61 34 0) 61 31).toNatClampNeg)) else (if (gi (pi (pi (pi y 61 32 (gi y 61 31)) 61 33 0) 61 34 0) 71 (gi (pi (pi (pi y 61 32 (gi y 61 31)) 61 33 0) 61 34 0) 61 31).toNatClampNeg) = 41 then (f_X11_next_358 (pi (pi (pi y 61 32 (gi y 61 31)) 61 33 0) 61 34 0) (gi (pi (pi (pi y 61 32 (gi y 61 31)) 61 33 0) 61 34 0) 71 (gi (pi (pi (pi y 61 32 (gi y 61 31)) 61 33 0) 61 34 0) 61 31).toNatClampNeg)) else (if (gi (pi (pi (pi y 61 32 (gi y 61 31)) 61 33 0) 61 34 0) 71 (gi (pi (pi (pi y 61 32 (gi y 61 31)) 61 33 0) 61 34 0) 61 31).toNatClampNeg) = 59 then (f_X11_next_358 (pi (pi (pi y 61 32 (gi y 61 31)) 61 33 0) 61 34 0) (gi (pi (pi (pi y 61 32 (gi y 61 31)) 61 33 0) 61 34 0) 71 (gi (pi (pi (pi y 61 32 (gi y 61 31)) 61 33 0) 61 34 0) 61 31).toNatClampNeg)) else (if (gi (pi (pi (pi y 61 32 (gi y 61 31)) 61 33 0) 61 34 0) 71 (gi (pi (pi (pi y 61 32 (gi y 61 31)) 61 33 0) 61 34 0) 61 31).toNatClampNeg) = 43 then (f_X11_next_358 (pi (pi (pi y 61 32 (gi y 61 31)) 61 33 0) 61 34 0) (gi (pi (pi (pi y 61 32 (gi y 61 31)) 61 33 0) 61 34 0) 71 (gi (pi (pi (pi y 61 32 (gi y 61 31)) 61 33 0) 61 34 0) 61 31).toNatClampNeg)) else (if (gi (pi (pi (pi y 61 32 (gi y 61 31)) 61 33 0) 61 34 0) 71 (gi (pi (pi (pi y 61 32 (gi y 61 31)) 61 33 0) 61 34 0) 61 31).toNatClampNeg) = 45 then (f_X11_next_358 (pi (pi (pi y 61 32 (gi y 61 31)) 61 33 0) 61 34 0) (gi (pi (pi (pi y 61 32 (gi y 61 31)) 61 33 0) 61 34 0) 71 (gi (pi (pi (pi y 61 32 (gi y 61 31)) 61 33 0) 61 34 0) 61 31).toNatClampNeg)) else (if (gi (pi (pi (pi y 61 32 (gi y 61 31)) 61 33 0) 61 34 0) 71 (gi (pi (pi (pi y 61 32 (gi y 61 31)) 61 33 0) 61 34 0) 61 31).toNatClampNeg) = 42 then (f_X11_next_358 (pi (pi (pi y 61 32 (gi y 61 31)) 61 33 0) 61 34 0) (gi (pi (pi (pi y 61 32 (gi y 61 31)) 61 33 0) 61 34 0) 71 (gi (pi (pi (pi y 61 32 (gi y 61 31)) 61 33 0) 61 34 0) 61 31).toNatClampNeg)) else (if (gi (pi (pi (pi y 61 32 (gi y 61 31)) 61 33 0) 61 34 0) 71 (gi (pi (pi (pi y 61 32 (gi y 61 31)) 61 33 0) 61 34 0) 61 31).toNatClampNeg) = 60 then (f_X11_next_358 (pi (pi (pi y 61 32 (gi y 61 31)) 61 33 0) 61 34 0) (gi (pi (pi (pi y 61 32 (gi y 61 31)) 61 33 0) 61 34 0) 71 (gi (pi (pi (pi y 61 32 (gi y 61 31)) 61 33 0) 61 34 0) 61 31).toNatClampNeg)) else (if (gi (pi (pi (pi y 61 32 (gi y 61 31)) 61 33 0) 61 34 0) 71 (gi (pi (pi (pi y 61 32 (gi y 61 31)) 61 33 0) 61 34 0) 61 31).toNatClampNeg) = 61 then (f_X11_next_358 (pi (pi (pi y 61 32 (gi y 61 31)) 61 33 0) 61 34 0) (gi (pi (pi (pi y 61 32 (gi y 61 31)) 61 33 0) 61 34 0) 71 (gi (pi (pi (pi y 61 32 (gi y 61 31)) 61 33 0) 61 34 0) 61 31).toNatClampNeg)) else (f_X11_next_363 (pi (pi (pi y 61 32 (gi y 61 31)) 61 33 0) 61 34 0) (gi (pi (pi (pi y 61 32 (gi y 61 31)) 61 33 0) 61 34 0) 71 (gi (pi (pi (pi y 61 32 (gi y 61 31)) 61 33 0) 61 34 0) 61 31).toNatClampNeg) 0))))))))) else (f_X11_next_214 1000 (pi (pi (pi y 61 32 (gi y 61 31)) 61 33 0) 61 34 0) 0)) else ((f_X11_letters (pi (pi (pi y 61 32 (gi y 61 31)) 61 33 0) 61 34 0)).bind fun r30 => f_X11_next_111 1000 r30.2 r30.1 0)))
set_option maxRecDepth 100000 in
set_option maxHeartbeats 4000000 in
theorem t_X11_next_52 {C : Cx} {K : KE} {nn : Nat} {x : CS} {R : MS}  (y : MS) (h : f_X11_next_52 y = some R) (F : Fx C RX11 cX11_next 5 rm_X11_next K) (E : CE C (xfM K nn x R) none 0 0 none) : V C 52 [(0, .ref (K.1 + 61))] [] (xfM K nn x y) 0 0 := by
  unfold f_X11_next_52 at h
  refine v_aload_n F (dq dkX11_next_0 26 rfl) rfl 0 rfl ?_
  refine v_aload_n F (dq dkX11_next_0 27 rfl) rfl 0 rfl ?_
  refine v_get F 61 (xnM (by decide)) xc_61 rfl inlX11 31 (by decide) (tc17 _ (List.mem_of_getElem? (i := 22) rfl)) rfl rfl (dq dkX11_next_0 28 rfl) ?_
  refine v_put F 61 (xnM (by decide)) xc_61 rfl inlX11 tyX11_ok nmX11 32 (by decide) (tc18 _ (List.mem_of_getElem? (i := 2) rfl)) rfl rfl (tyX11_ok 32 (by decide)) rfl rfl (Nat.le_of_ble_eq_true rfl) (dq dkX11_next_0 29 rfl) ?_
  refine v_eqM (xwM (q := 61) (j := 32) (v := gi y 61 31) (by decide) (by decide) rfl) ?_
  refine v_aload_n F (dq dkX11_next_0 30 rfl) rfl 0 rfl ?_
  refine v_iconst F (v := 0) (dq dkX11_next_0 31 rfl) ki_0 ?_
  refine v_put F 61 (xnM (by decide)) xc_61 rfl inlX11 tyX11_ok nmX11 33 (by decide) (tc18 _ (List.mem_of_getElem? (i := 0) rfl)) rfl rfl (tyX11_ok 33 (by decide)) rfl rfl (Nat.le_of_ble_eq_true rfl) (dq dkX11_next_0 32 rfl) ?_
  refine v_eqM (xwM (q := 61) (j := 33) (v := 0) (by decide) (by decide) rfl) ?_
  refine v_aload_n F (dq dkX11_next_0 33 rfl) rfl 0 rfl ?_
  refine v_iconst F (v := 0) (dq dkX11_next_0 34 rfl) ki_0 ?_
  refine v_put F 61 (xnM (by decide)) xc_61 rfl inlX11 tyX11_ok nmX11 34 (by decide) (tc18 _ (List.mem_of_getElem? (i := 1) rfl)) rfl rfl (tyX11_ok 34 (by decide)) rfl rfl (Nat.le_of_ble_eq_true rfl) (dq dkX11_next_0 35 rfl) ?_
  refine v_eqM (xwM (q := 61) (j := 34) (v := 0) (by decide) (by decide) rfl) ?_
  refine v_aload_n F (dq dkX11_next_0 36 rfl) rfl 0 rfl ?_
  refine v_get F 61 (xnM (by decide)) xc_61 rfl inlX11 31 (by decide) (tc17 _ (List.mem_of_getElem? (i := 22) rfl)) rfl rfl (dq dkX11_next_0 37 rfl) ?_
  refine v_aload_n F (dq dkX11_next_0 38 rfl) rfl 0 rfl ?_
  refine v_get F 61 (xnM (by decide)) xc_61 rfl inlX11 17 (by decide) (tc16 _ (List.mem_of_getElem? (i := 19) rfl)) rfl rfl (dq dkX11_next_0 39 rfl) ?_
  refine v_icmp_ne F (tgt := 82) (dq dkX11_next_1 0 rfl) (by decide) (fun c16 => ?_) (fun c16 => ?_)
  · rw [if_neg c16] at h
    refine v_aload_n F (dq dkX11_next_1 2 rfl) rfl 0 rfl ?_
    refine v_get F 61 (xnM (by decide)) xc_61 rfl inlX11 16 (by decide) (tc12 _ (List.mem_of_getElem? (i := 5) rfl)) rfl rfl (dq dkX11_next_1 3 rfl) ?_
    refine v_aload_n F (dq dkX11_next_1 4 rfl) rfl 0 rfl ?_
    refine v_get F 61 (xnM (by decide)) xc_61 rfl inlX11 31 (by decide) (tc17 _ (List.mem_of_getElem? (i := 22) rfl)) rfl rfl (dq dkX11_next_1 5 rfl) ?_
    obtain ⟨g17, h⟩ := gd_of h
    refine v_iald F 71 (xnM (by decide)) xc_71 (ib_in g17) (dq dkX11_next_1 6 rfl) ?_
    refine v_istore_n F (ls' := [(1, .int (gi (pi (pi (pi y 61 32 (gi y 61 31)) 61 33 0) 61 34 0) 71 (gi (pi (pi (pi y 61 32 (gi y 61 31)) 61 33 0) 61 34 0) 61 31).toNatClampNeg)), (0, .ref (K.1 + 61))]) (dq dkX11_next_1 7 rfl) rfl (by decide) rfl ?_
    refine v_iload_n F (dq dkX11_next_1 8 rfl) rfl 0 rfl ?_
    refine v_bipush F (v := 97) (dq dkX11_next_1 9 rfl) kb_97 ?_
    refine v_bipush F (v := 122) (dq dkX11_next_1 10 rfl) kb_122 ?_
    refine v_callS 3 F (kc1 := 0) (ks1 := 0) (as := [.int (gi (pi (pi (pi y 61 32 (gi y 61 31)) 61 33 0) 61 34 0) 71 (gi (pi (pi (pi y 61 32 (gi y 61 31)) 61 33 0) 61 34 0) 61 31).toNatClampNeg), .int 97, .int 122]) (st := []) (st1 := (.int (b2i (f_X11_in (gi (pi (pi (pi y 61 32 (gi y 61 31)) 61 33 0) 61 34 0) 71 (gi (pi (pi (pi y 61 32 (gi y 61 31)) 61 33 0) 61 34 0) 61 31).toNatClampNeg) 97 122)) :: [])) (res := (some (.int (b2i (f_X11_in (gi (pi (pi (pi y 61 32 (gi y 61 31)) 61 33 0) 61 34 0) 71 (gi (pi (pi (pi y 61 32 (gi y 61 31)) 61 33 0) 61 34 0) 61 31).toNatClampNeg) 97 122))))) (c_X11_in (l := C.2.1) (gi (pi (pi (pi y 61 32 (gi y 61 31)) 61 33 0) 61 34 0) 71 (gi (pi (pi (pi y 61 32 (gi y 61 31)) 61 33 0) 61 34 0) 61 31).toNatClampNeg) 97 122) (tc15 _ (List.mem_of_getElem? (i := 1) rfl)) (tc15 _ (List.mem_of_getElem? (i := 2) rfl)) (tc1 _ (List.mem_of_getElem? (i := 5) rfl)) (tc15 _ (List.mem_of_getElem? (i := 3) rfl)) (by decide) rfl ⟨rfl, rfl, Nat.le_of_ble_eq_true rfl, Nat.le_of_ble_eq_true rfl⟩ ⟨Nat.le_of_ble_eq_true rfl, Nat.le_of_ble_eq_true rfl⟩ rfl (Nat.le_of_ble_eq_true rfl) rfl rfl rfl (dq dkX11_next_1 11 rfl) ?_
    refine v_if_eq F (tgt := 201) (dq dkX11_next_1 12 rfl) (by decide) (fun c19 => ?_) (fun c19 => ?_)
    · rw [if_pos c19] at h
      refine v_iload_n F (dq dkX11_next_2 23 rfl) rfl 0 rfl ?_
      refine v_bipush F (v := 48) (dq dkX11_next_2 24 rfl) kb_48 ?_
      refine v_bipush F (v := 57) (dq dkX11_next_2 25 rfl) kb_57 ?_
      refine v_callS 3 F (kc1 := 0) (ks1 := 0) (as := [.int (gi (pi (pi (pi y 61 32 (gi y 61 31)) 61 33 0) 61 34 0) 71 (gi (pi (pi (pi y 61 32 (gi y 61 31)) 61 33 0) 61 34 0) 61 31).toNatClampNeg), .int 48, .int 57]) (st := []) (st1 := (.int (b2i (f_X11_in (gi (pi (pi (pi y 61 32 (gi y 61 31)) 61 33 0) 61 34 0) 71 (gi (pi (pi (pi y 61 32 (gi y 61 31)) 61 33 0) 61 34 0) 61 31).toNatClampNeg) 48 57)) :: [])) (res := (some (.int (b2i (f_X11_in (gi (pi (pi (pi y 61 32 (gi y 61 31)) 61 33 0) 61 34 0) 71 (gi (pi (pi (pi y 61 32 (gi y 61 31)) 61 33 0) 61 34 0) 61 31).toNatClampNeg) 48 57))))) (c_X11_in (l := C.2.1) (gi (pi (pi (pi y 61 32 (gi y 61 31)) 61 33 0) 61 34 0) 71 (gi (pi (pi (pi y 61 32 (gi y 61 31)) 61 33 0) 61 34 0) 61 31).toNatClampNeg) 48 57) (tc15 _ (List.mem_of_getElem? (i := 1) rfl)) (tc15 _ (List.mem_of_getElem? (i := 2) rfl)) (tc1 _ (List.mem_of_getElem? (i := 5) rfl)) (tc15 _ (List.mem_of_getElem? (i := 3) rfl)) (by decide) rfl ⟨rfl, rfl, Nat.le_of_ble_eq_true rfl, Nat.le_of_ble_eq_true rfl⟩ ⟨Nat.le_of_ble_eq_true rfl, Nat.le_of_ble_eq_true rfl⟩ rfl (Nat.le_of_ble_eq_true rfl) rfl rfl rfl (dq dkX11_next_2 26 rfl) ?_
      refine v_if_eq F (tgt := 310) (dq dkX11_next_2 27 rfl) (by decide) (fun c21 => ?_) (fun c21 => ?_)
      · rw [if_pos c21] at h
        refine v_iload_n F (dq dkX11_next_4 0 rfl) rfl 0 rfl ?_
        refine v_bipush F (v := 40) (dq dkX11_next_4 1 rfl) kb_40 ?_
        refine v_icmp_eq F (tgt := 358) (dq dkX11_next_4 2 rfl) (by decide) (fun c22 => ?_) (fun c22 => ?_)
        · rw [if_pos c22] at h
          refine v_sub [1, 0] rfl ?_
          exact t_X11_next_358 (pi (pi (pi y 61 32 (gi y 61 31)) 61 33 0) 61 34 0) (gi (pi (pi (pi y 61 32 (gi y 61 31)) 61 33 0) 61 34 0) 71 (gi (pi (pi (pi y 61 32 (gi y 61 31)) 61 33 0) 61 34 0) 61 31).toNatClampNeg) h F E
        · rw [if_neg c22] at h
          refine v_iload_n F (dq dkX11_next_4 3 rfl) rfl 0 rfl ?_
          refine v_bipush F (v := 41) (dq dkX11_next_4 4 rfl) kb_41 ?_
          refine v_icmp_eq F (tgt := 358) (dq dkX11_next_4 5 rfl) (by decide) (fun c23 => ?_) (fun c23 => ?_)
          · rw [if_pos c23] at h
            refine v_sub [1, 0] rfl ?_
            exact t_X11_next_358 (pi (pi (pi y 61 32 (gi y 61 31)) 61 33 0) 61 34 0) (gi (pi (pi (pi y 61 32 (gi y 61 31)) 61 33 0) 61 34 0) 71 (gi (pi (pi (pi y 61 32 (gi y 61 31)) 61 33 0) 61 34 0) 61 31).toNatClampNeg) h F E
          · rw [if_neg c23] at h
            refine v_iload_n F (dq dkX11_next_4 6 rfl) rfl 0 rfl ?_
            refine v_bipush F (v := 59) (dq dkX11_next_4 7 rfl) kb_59 ?_
            refine v_icmp_eq F (tgt := 358) (dq dkX11_next_4 8 rfl) (by decide) (fun c24 => ?_) (fun c24 => ?_)
            · rw [if_pos c24] at h
              refine v_sub [1, 0] rfl ?_
              exact t_X11_next_358 (pi (pi (pi y 61 32 (gi y 61 31)) 61 33 0) 61 34 0) (gi (pi (pi (pi y 61 32 (gi y 61 31)) 61 33 0) 61 34 0) 71 (gi (pi (pi (pi y 61 32 (gi y 61 31)) 61 33 0) 61 34 0) 61 31).toNatClampNeg) h F E
            · rw [if_neg c24] at h
              refine v_iload_n F (dq dkX11_next_4 9 rfl) rfl 0 rfl ?_
              refine v_bipush F (v := 43) (dq dkX11_next_4 10 rfl) kb_43 ?_
              refine v_icmp_eq F (tgt := 358) (dq dkX11_next_4 11 rfl) (by decide) (fun c25 => ?_) (fun c25 => ?_)
              · rw [if_pos c25] at h
                refine v_sub [1, 0] rfl ?_
                exact t_X11_next_358 (pi (pi (pi y 61 32 (gi y 61 31)) 61 33 0) 61 34 0) (gi (pi (pi (pi y 61 32 (gi y 61 31)) 61 33 0) 61 34 0) 71 (gi (pi (pi (pi y 61 32 (gi y 61 31)) 61 33 0) 61 34 0) 61 31).toNatClampNeg) h F E
              · rw [if_neg c25] at h
                refine v_iload_n F (dq dkX11_next_4 12 rfl) rfl 0 rfl ?_
                refine v_bipush F (v := 45) (dq dkX11_next_4 13 rfl) kb_45 ?_
                refine v_icmp_eq F (tgt := 358) (dq dkX11_next_4 14 rfl) (by decide) (fun c26 => ?_) (fun c26 => ?_)
                · rw [if_pos c26] at h
                  refine v_sub [1, 0] rfl ?_
                  exact t_X11_next_358 (pi (pi (pi y 61 32 (gi y 61 31)) 61 33 0) 61 34 0) (gi (pi (pi (pi y 61 32 (gi y 61 31)) 61 33 0) 61 34 0) 71 (gi (pi (pi (pi y 61 32 (gi y 61 31)) 61 33 0) 61 34 0) 61 31).toNatClampNeg) h F E
                · rw [if_neg c26] at h
                  refine v_iload_n F (dq dkX11_next_4 15 rfl) rfl 0 rfl ?_
                  refine v_bipush F (v := 42) (dq dkX11_next_4 16 rfl) kb_42 ?_
                  refine v_icmp_eq F (tgt := 358) (dq dkX11_next_4 17 rfl) (by decide) (fun c27 => ?_) (fun c27 => ?_)
                  · rw [if_pos c27] at h
                    refine v_sub [1, 0] rfl ?_
                    exact t_X11_next_358 (pi (pi (pi y 61 32 (gi y 61 31)) 61 33 0) 61 34 0) (gi (pi (pi (pi y 61 32 (gi y 61 31)) 61 33 0) 61 34 0) 71 (gi (pi (pi (pi y 61 32 (gi y 61 31)) 61 33 0) 61 34 0) 61 31).toNatClampNeg) h F E
                  · rw [if_neg c27] at h
                    refine v_iload_n F (dq dkX11_next_4 18 rfl) rfl 0 rfl ?_
                    refine v_bipush F (v := 60) (dq dkX11_next_4 19 rfl) kb_60 ?_
                    refine v_icmp_eq F (tgt := 358) (dq dkX11_next_4 20 rfl) (by decide) (fun c28 => ?_) (fun c28 => ?_)
                    · rw [if_pos c28] at h
                      refine v_sub [1, 0] rfl ?_
                      exact t_X11_next_358 (pi (pi (pi y 61 32 (gi y 61 31)) 61 33 0) 61 34 0) (gi (pi (pi (pi y 61 32 (gi y 61 31)) 61 33 0) 61 34 0) 71 (gi (pi (pi (pi y 61 32 (gi y 61 31)) 61 33 0) 61 34 0) 61 31).toNatClampNeg) h F E
                    · rw [if_neg c28] at h
                      refine v_iload_n F (dq dkX11_next_4 21 rfl) rfl 0 rfl ?_
                      refine v_bipush F (v := 61) (dq dkX11_next_4 22 rfl) kb_61 ?_
                      refine v_icmp_ne F (tgt := 362) (dq dkX11_next_4 23 rfl) (by decide) (fun c29 => ?_) (fun c29 => ?_)
                      · rw [if_neg c29] at h
                        refine v_iconst F (v := 0) (dq dkX11_next_4 26 rfl) ki_0 ?_
                        refine v_sub [1, 0] rfl ?_
                        exact t_X11_next_363 (pi (pi (pi y 61 32 (gi y 61 31)) 61 33 0) 61 34 0) (gi (pi (pi (pi y 61 32 (gi y 61 31)) 61 33 0) 61 34 0) 71 (gi (pi (pi (pi y 61 32 (gi y 61 31)) 61 33 0) 61 34 0) 61 31).toNatClampNeg) 0 h F E
                      · rw [if_pos c29] at h
                        refine v_sub [1, 0] rfl ?_
                        exact t_X11_next_358 (pi (pi (pi y 61 32 (gi y 61 31)) 61 33 0) 61 34 0) (gi (pi (pi (pi y 61 32 (gi y 61 31)) 61 33 0) 61 34 0) 71 (gi (pi (pi (pi y 61 32 (gi y 61 31)) 61 33 0) 61 34 0) 61 31).toNatClampNeg) h F E
      · rw [if_neg c21] at h
        refine v_iconst F (v := 0) (dq dkX11_next_2 28 rfl) ki_0 ?_
        refine v_istore_n F (ls' := [(2, .int 0), (1, .int (gi (pi (pi (pi y 61 32 (gi y 61 31)) 61 33 0) 61 34 0) 71 (gi (pi (pi (pi y 61 32 (gi y 61 31)) 61 33 0) 61 34 0) 61 31).toNatClampNeg)), (0, .ref (K.1 + 61))]) (dq dkX11_next_2 29 rfl) rfl (by decide) rfl ?_
        refine v_sub [2, 0] rfl ?_
        exact t_X11_next_214 F E 1000 (pi (pi (pi y 61 32 (gi y 61 31)) 61 33 0) 61 34 0) 0 h
    · rw [if_neg c19] at h
      refine v_aload_n F (dq dkX11_next_1 13 rfl) rfl 1 rfl ?_
      obtain ⟨r30, e31, h⟩ := bd_of h
      refine v_callV 0 F (q := 61) (kc1 := 0) (ks1 := 0) (as := []) (st := []) (st1 := (.long r30.1 :: [])) (res := (some (.long r30.1))) (c_X11_letters (l := C.2.1) x (pi (pi (pi y 61 32 (gi y 61 31)) 61 33 0) 61 34 0) e31) (xnM (by decide)) xc_61 rfl (tc18 _ (List.mem_of_getElem? (i := 7) rfl)) (tc18 _ (List.mem_of_getElem? (i := 8) rfl)) (tc18 _ (List.mem_of_getElem? (i := 9) rfl)) (tc1 _ (List.mem_of_getElem? (i := 5) rfl)) (tc18 _ (List.mem_of_getElem? (i := 10) rfl)) (by decide) rfl ⟨rfl, rfl, Nat.le_of_ble_eq_true rfl, Nat.le_of_ble_eq_true rfl⟩ ⟨Nat.le_of_ble_eq_true rfl, Nat.le_of_ble_eq_true rfl⟩ rfl (Nat.le_of_ble_eq_true rfl) rfl rfl rfl (dq dkX11_next_1 14 rfl) ?_
      refine v_lstore_n F (ls' := [(2, .long r30.1), (1, .int (gi (pi (pi (pi y 61 32 (gi y 61 31)) 61 33 0) 61 34 0) 71 (gi (pi (pi (pi y 61 32 (gi y 61 31)) 61 33 0) 61 34 0) 61 31).toNatClampNeg)), (0, .ref (K.1 + 61))]) (dq dkX11_next_1 15 rfl) rfl (by decide) rfl ?_
      refine v_iconst F (v := 0) (dq dkX11_next_1 16 rfl) ki_0 ?_
      refine v_istore F (ls' := [(4, .int 0), (2, .long r30.1), (1, .int (gi (pi (pi (pi y 61 32 (gi y 61 31)) 61 33 0) 61 34 0) 71 (gi (pi (pi (pi y 61 32 (gi y 61 31)) 61 33 0) 61 34 0) 61 31).toNatClampNeg)), (0, .ref (K.1 + 61))]) (dq dkX11_next_1 17 rfl) (by decide) rfl ?_
      refine v_sub [3, 1, 0] rfl ?_
      exact t_X11_next_111 F E 1000 r30.2 r30.1 0 h
  · rw [if_pos c16] at h
    have h := Option.some.inj h
    subst h
    exact v_vret F E (dq dkX11_next_1 1 rfl)
def f_X11_next_39 (k0 : MS → Option (MS)) (y : MS) : Option (MS) := k0 (pi y 61 31 ((gi y 61 31) + 1))
set_option maxRecDepth 100000 in
set_option maxHeartbeats 4000000 in
theorem t_X11_next_39 {C : Cx} {K : KE} {nn : Nat} {x : CS} {R : MS}  (k0 : MS → Option (MS)) (y : MS) (hk0 : ∀ (y : MS), k0 y = some R → V C 0 [(0, .ref (K.1 + 61))] [] (xfM K nn x y) 0 0) (h : f_X11_next_39 k0 y = some R) (F : Fx C RX11 cX11_next 5 rm_X11_next K) (E : CE C (xfM K nn x R) none 0 0 none) : V C 39 [(0, .ref (K.1 + 61))] [] (xfM K nn x y) 0 0 := by
  unfold f_X11_next_39 at h
  refine v_aload_n F (dq dkX11_next_0 19 rfl) rfl 0 rfl ?_
  refine v_dup F (dq dkX11_next_0 20 rfl) rfl ?_
  refine v_get F 61 (xnM (by decide)) xc_61 rfl inlX11 31 (by decide) (tc17 _ (List.mem_of_getElem? (i := 22) rfl)) rfl rfl (dq dkX11_next_0 21 rfl) ?_
  refine v_iconst F (v := 1) (dq dkX11_next_0 22 rfl) ki_1 ?_
  refine v_iadd F (dq dkX11_next_0 23 rfl) ?_
  refine v_put F 61 (xnM (by decide)) xc_61 rfl inlX11 tyX11_ok nmX11 31 (by decide) (tc17 _ (List.mem_of_getElem? (i := 22) rfl)) rfl rfl (tyX11_ok 31 (by decide)) rfl rfl (Nat.le_of_ble_eq_true rfl) (dq dkX11_next_0 24 rfl) ?_
  refine v_eqM (xwM (q := 61) (j := 31) (v := (gi y 61 31) + 1) (by decide) (by decide) rfl) ?_
  refine v_goto F (tgt := 0) (dq dkX11_next_0 25 rfl) (by decide) ?_
  exact hk0 (pi y 61 31 ((gi y 61 31) + 1)) h
def f_X11_next_0 : Nat → MS → Option (MS)
  | 0, _ => none
  | n + 1, y => if (gi y 61 17) ≤ (gi y 61 31) then (f_X11_next_52 y) else (gd (ib (gi y 61 31) 160) (if (gi y 71 (gi y 61 31).toNatClampNeg) = 32 then (f_X11_next_39 (f_X11_next_0 n) y) else (gd (ib (gi y 61 31) 160) (if (gi y 71 (gi y 61 31).toNatClampNeg) = 10 then (f_X11_next_39 (f_X11_next_0 n) y) else (f_X11_next_52 y)))))
set_option maxRecDepth 100000 in
set_option maxHeartbeats 4000000 in
theorem t_X11_next_0 {C : Cx} {K : KE} {nn : Nat} {x : CS} {R : MS}  (F : Fx C RX11 cX11_next 5 rm_X11_next K) (E : CE C (xfM K nn x R) none 0 0 none) : ∀ (n : Nat) (y : MS) (h : f_X11_next_0 n y = some R), V C 0 [(0, .ref (K.1 + 61))] [] (xfM K nn x y) 0 0 := by
  intro n
  induction n with
  | zero => intro y h; cases h
  | succ n ih =>
    intro y h
    rw [f_X11_next_0] at h
    refine v_aload_n F (dq dkX11_next_0 0 rfl) rfl 0 rfl ?_
    refine v_get F 61 (xnM (by decide)) xc_61 rfl inlX11 31 (by decide) (tc17 _ (List.mem_of_getElem? (i := 22) rfl)) rfl rfl (dq dkX11_next_0 1 rfl) ?_
    refine v_aload_n F (dq dkX11_next_0 2 rfl) rfl 0 rfl ?_
    refine v_get F 61 (xnM (by decide)) xc_61 rfl inlX11 17 (by decide) (tc16 _ (List.mem_of_getElem? (i := 19) rfl)) rfl rfl (dq dkX11_next_0 3 rfl) ?_
    refine v_icmp_ge F (tgt := 52) (dq dkX11_next_0 4 rfl) (by decide) (fun c32 => ?_) (fun c32 => ?_)
    · rw [if_pos c32] at h
      exact t_X11_next_52 y h F E
    · rw [if_neg c32] at h
      refine v_aload_n F (dq dkX11_next_0 5 rfl) rfl 0 rfl ?_
      refine v_get F 61 (xnM (by decide)) xc_61 rfl inlX11 16 (by decide) (tc12 _ (List.mem_of_getElem? (i := 5) rfl)) rfl rfl (dq dkX11_next_0 6 rfl) ?_
      refine v_aload_n F (dq dkX11_next_0 7 rfl) rfl 0 rfl ?_
      refine v_get F 61 (xnM (by decide)) xc_61 rfl inlX11 31 (by decide) (tc17 _ (List.mem_of_getElem? (i := 22) rfl)) rfl rfl (dq dkX11_next_0 8 rfl) ?_
      obtain ⟨g33, h⟩ := gd_of h
      refine v_iald F 71 (xnM (by decide)) xc_71 (ib_in g33) (dq dkX11_next_0 9 rfl) ?_
      refine v_bipush F (v := 32) (dq dkX11_next_0 10 rfl) kb_32 ?_
      refine v_icmp_eq F (tgt := 39) (dq dkX11_next_0 11 rfl) (by decide) (fun c34 => ?_) (fun c34 => ?_)
      · rw [if_pos c34] at h
        exact t_X11_next_39 (f_X11_next_0 n) y ih h F E
      · rw [if_neg c34] at h
        refine v_aload_n F (dq dkX11_next_0 12 rfl) rfl 0 rfl ?_
        refine v_get F 61 (xnM (by decide)) xc_61 rfl inlX11 16 (by decide) (tc12 _ (List.mem_of_getElem? (i := 5) rfl)) rfl rfl (dq dkX11_next_0 13 rfl) ?_
        refine v_aload_n F (dq dkX11_next_0 14 rfl) rfl 0 rfl ?_
        refine v_get F 61 (xnM (by decide)) xc_61 rfl inlX11 31 (by decide) (tc17 _ (List.mem_of_getElem? (i := 22) rfl)) rfl rfl (dq dkX11_next_0 15 rfl) ?_
        obtain ⟨g35, h⟩ := gd_of h
        refine v_iald F 71 (xnM (by decide)) xc_71 (ib_in g35) (dq dkX11_next_0 16 rfl) ?_
        refine v_bipush F (v := 10) (dq dkX11_next_0 17 rfl) kb_10 ?_
        refine v_icmp_ne F (tgt := 52) (dq dkX11_next_0 18 rfl) (by decide) (fun c36 => ?_) (fun c36 => ?_)
        · rw [if_neg c36] at h
          exact t_X11_next_52 y h F E
        · rw [if_pos c36] at h
          exact t_X11_next_39 (f_X11_next_0 n) y ih h F E
def f_X11_next (y : MS) : Option (MS) := f_X11_next_0 1000 y
set_option maxRecDepth 100000 in
set_option maxHeartbeats 4000000 in
theorem c_X11_next {K : KE} {l : Launch} {R : MS} {nn : Nat} (x : CS) (y : MS) (h : f_X11_next y = some R) : MC K l yX11_next cX11_next 5 none rm_X11_next 0 0 [.ref (K.1 + 61)] (xfM K nn x y) (xfM K nn x R) none := by
  unfold f_X11_next at h
  refine mc_of (ls0 := [(0, .ref (K.1 + 61))]) (by decide) (Nat.le_of_ble_eq_true rfl) rfl (fun C hl hnm F E => ?_)
  have F : Fx C RX11 cX11_next 5 rm_X11_next K := F
  exact t_X11_next_0 F E 1000 y h
def rm_X11_rank : Room := { frames := 1, cells := 0, slots := 0, locals := 30 }
def f_X11_rank (a0 : Int32) : Int32 := if a0 = 0 then 0 else (if a0 = 11 then 1 else (if a0 = 12 then 2 else (if a0 = 13 then 3 else (if 15 < a0 then (if 17 < a0 then (if a0 = 18 then 6 else 7) else 5) else 4))))
set_option maxRecDepth 100000 in
set_option maxHeartbeats 4000000 in
theorem c_X11_rank {K : KE} {l : Launch} {M : GM} (a0 : Int32) : MC K l yX11_rank cX11_rank 1 (some .int) rm_X11_rank 0 0 [.int a0] M M (some (.int (f_X11_rank a0))) := by
  obtain ⟨R, h⟩ : ∃ R, f_X11_rank a0 = R := ⟨_, rfl⟩
  rw [h]
  unfold f_X11_rank at h
  refine mc_of (ls0 := [(0, .int a0)]) (by decide) (Nat.le_of_ble_eq_true rfl) rfl (fun C hl hnm F E => ?_)
  have F : Fx C RX11 cX11_rank 1 rm_X11_rank K := F
  refine v_iload_n F (dq dkX11_rank_0 0 rfl) rfl 0 rfl ?_
  refine v_if_ne F (tgt := 8) (dq dkX11_rank_0 1 rfl) (by decide) (fun c1 => ?_) (fun c1 => ?_)
  · rw [if_neg c1] at h
    refine v_iload_n F (dq dkX11_rank_0 4 rfl) rfl 0 rfl ?_
    refine v_bipush F (v := 11) (dq dkX11_rank_0 5 rfl) kb_11 ?_
    refine v_icmp_ne F (tgt := 18) (dq dkX11_rank_0 6 rfl) (by decide) (fun c2 => ?_) (fun c2 => ?_)
    · rw [if_neg c2] at h
      refine v_iload_n F (dq dkX11_rank_0 9 rfl) rfl 0 rfl ?_
      refine v_bipush F (v := 12) (dq dkX11_rank_0 10 rfl) kb_12 ?_
      refine v_icmp_ne F (tgt := 28) (dq dkX11_rank_0 11 rfl) (by decide) (fun c3 => ?_) (fun c3 => ?_)
      · rw [if_neg c3] at h
        refine v_iload_n F (dq dkX11_rank_0 14 rfl) rfl 0 rfl ?_
        refine v_bipush F (v := 13) (dq dkX11_rank_0 15 rfl) kb_13 ?_
        refine v_icmp_ne F (tgt := 38) (dq dkX11_rank_0 16 rfl) (by decide) (fun c4 => ?_) (fun c4 => ?_)
        · rw [if_neg c4] at h
          refine v_iload_n F (dq dkX11_rank_0 19 rfl) rfl 0 rfl ?_
          refine v_bipush F (v := 15) (dq dkX11_rank_0 20 rfl) kb_15 ?_
          refine v_icmp_gt F (tgt := 48) (dq dkX11_rank_0 21 rfl) (by decide) (fun c5 => ?_) (fun c5 => ?_)
          · rw [if_pos c5] at h
            refine v_iload_n F (dq dkX11_rank_0 24 rfl) rfl 0 rfl ?_
            refine v_bipush F (v := 17) (dq dkX11_rank_0 25 rfl) kb_17 ?_
            refine v_icmp_gt F (tgt := 58) (dq dkX11_rank_0 26 rfl) (by decide) (fun c6 => ?_) (fun c6 => ?_)
            · rw [if_pos c6] at h
              refine v_iload_n F (dq dkX11_rank_0 29 rfl) rfl 0 rfl ?_
              refine v_bipush F (v := 18) (dq dkX11_rank_0 30 rfl) kb_18 ?_
              refine v_icmp_ne F (tgt := 69) (dq dkX11_rank_0 31 rfl) (by decide) (fun c7 => ?_) (fun c7 => ?_)
              · rw [if_neg c7] at h
                refine v_bipush F (v := 7) (dq dkX11_rank_0 34 rfl) kb_7 ?_
                subst h
                exact v_iret F E (dq dkX11_rank_0 35 rfl)
              · rw [if_pos c7] at h
                refine v_bipush F (v := 6) (dq dkX11_rank_0 32 rfl) kb_6 ?_
                refine v_goto F (tgt := 71) (dq dkX11_rank_0 33 rfl) (by decide) ?_
                subst h
                exact v_iret F E (dq dkX11_rank_0 35 rfl)
            · rw [if_neg c6] at h
              refine v_iconst F (v := 5) (dq dkX11_rank_0 27 rfl) ki_5 ?_
              refine v_goto F (tgt := 71) (dq dkX11_rank_0 28 rfl) (by decide) ?_
              subst h
              exact v_iret F E (dq dkX11_rank_0 35 rfl)
          · rw [if_neg c5] at h
            refine v_iconst F (v := 4) (dq dkX11_rank_0 22 rfl) ki_4 ?_
            refine v_goto F (tgt := 71) (dq dkX11_rank_0 23 rfl) (by decide) ?_
            subst h
            exact v_iret F E (dq dkX11_rank_0 35 rfl)
        · rw [if_pos c4] at h
          refine v_iconst F (v := 3) (dq dkX11_rank_0 17 rfl) ki_3 ?_
          refine v_goto F (tgt := 71) (dq dkX11_rank_0 18 rfl) (by decide) ?_
          subst h
          exact v_iret F E (dq dkX11_rank_0 35 rfl)
      · rw [if_pos c3] at h
        refine v_iconst F (v := 2) (dq dkX11_rank_0 12 rfl) ki_2 ?_
        refine v_goto F (tgt := 71) (dq dkX11_rank_0 13 rfl) (by decide) ?_
        subst h
        exact v_iret F E (dq dkX11_rank_0 35 rfl)
    · rw [if_pos c2] at h
      refine v_iconst F (v := 1) (dq dkX11_rank_0 7 rfl) ki_1 ?_
      refine v_goto F (tgt := 71) (dq dkX11_rank_0 8 rfl) (by decide) ?_
      subst h
      exact v_iret F E (dq dkX11_rank_0 35 rfl)
  · rw [if_pos c1] at h
    refine v_iconst F (v := 0) (dq dkX11_rank_0 2 rfl) ki_0 ?_
    refine v_goto F (tgt := 71) (dq dkX11_rank_0 3 rfl) (by decide) ?_
    subst h
    exact v_iret F E (dq dkX11_rank_0 35 rfl)
def rm_X11_puts : Room := { frames := 1, cells := 0, slots := 0, locals := 30 }
def f_X11_puts (y : MS) (a1 : Int32) : Option (MS) := gd (ib ((200 * (gi y 61 20)) + (gi y 61 39)) 1200) (some (pi (pi y 72 (((200 * (gi y 61 20)) + (gi y 61 39)).toNatClampNeg) a1) 61 39 ((gi (pi y 72 (((200 * (gi y 61 20)) + (gi y 61 39)).toNatClampNeg) a1) 61 39) + 1)))
set_option maxRecDepth 100000 in
set_option maxHeartbeats 4000000 in
theorem c_X11_puts {K : KE} {l : Launch} {R : MS} {nn : Nat} (x : CS) (y : MS) (a1 : Int32) (h : f_X11_puts y a1 = some R) : MC K l yX11_puts cX11_puts 2 none rm_X11_puts 0 0 [.ref (K.1 + 61), .int a1] (xfM K nn x y) (xfM K nn x R) none := by
  unfold f_X11_puts at h
  refine mc_of (ls0 := [(0, .ref (K.1 + 61)), (1, .int a1)]) (by decide) (Nat.le_of_ble_eq_true rfl) rfl (fun C hl hnm F E => ?_)
  have F : Fx C RX11 cX11_puts 2 rm_X11_puts K := F
  refine v_aload_n F (dq dkX11_puts_0 0 rfl) rfl 0 rfl ?_
  refine v_get F 61 (xnM (by decide)) xc_61 rfl inlX11 18 (by decide) (tc12 _ (List.mem_of_getElem? (i := 6) rfl)) rfl rfl (dq dkX11_puts_0 1 rfl) ?_
  refine v_sipush F (v := 200) (dq dkX11_puts_0 2 rfl) ks_200 ?_
  refine v_aload_n F (dq dkX11_puts_0 3 rfl) rfl 0 rfl ?_
  refine v_get F 61 (xnM (by decide)) xc_61 rfl inlX11 20 (by decide) (tc12 _ (List.mem_of_getElem? (i := 8) rfl)) rfl rfl (dq dkX11_puts_0 4 rfl) ?_
  refine v_imul F (dq dkX11_puts_0 5 rfl) ?_
  refine v_aload_n F (dq dkX11_puts_0 6 rfl) rfl 0 rfl ?_
  refine v_get F 61 (xnM (by decide)) xc_61 rfl inlX11 39 (by decide) (tc17 _ (List.mem_of_getElem? (i := 23) rfl)) rfl rfl (dq dkX11_puts_0 7 rfl) ?_
  refine v_iadd F (dq dkX11_puts_0 8 rfl) ?_
  refine v_iload_n F (dq dkX11_puts_0 9 rfl) rfl 1 rfl ?_
  obtain ⟨g1, h⟩ := gd_of h
  refine v_iast F 72 (xnM (by decide)) xc_72 (ib_in g1) (dq dkX11_puts_0 10 rfl) ?_
  refine v_eqM (xwM (q := 72) (j := ((200 * (gi y 61 20)) + (gi y 61 39)).toNatClampNeg) (v := a1) (by decide) (by decide) rfl) ?_
  refine v_aload_n F (dq dkX11_puts_0 11 rfl) rfl 0 rfl ?_
  refine v_dup F (dq dkX11_puts_0 12 rfl) rfl ?_
  refine v_get F 61 (xnM (by decide)) xc_61 rfl inlX11 39 (by decide) (tc17 _ (List.mem_of_getElem? (i := 23) rfl)) rfl rfl (dq dkX11_puts_0 13 rfl) ?_
  refine v_iconst F (v := 1) (dq dkX11_puts_0 14 rfl) ki_1 ?_
  refine v_iadd F (dq dkX11_puts_0 15 rfl) ?_
  refine v_put F 61 (xnM (by decide)) xc_61 rfl inlX11 tyX11_ok nmX11 39 (by decide) (tc17 _ (List.mem_of_getElem? (i := 23) rfl)) rfl rfl (tyX11_ok 39 (by decide)) rfl rfl (Nat.le_of_ble_eq_true rfl) (dq dkX11_puts_0 16 rfl) ?_
  refine v_eqM (xwM (q := 61) (j := 39) (v := (gi (pi y 72 (((200 * (gi y 61 20)) + (gi y 61 39)).toNatClampNeg) a1) 61 39) + 1) (by decide) (by decide) rfl) ?_
  have h := Option.some.inj h
  subst h
  exact v_vret F E (dq dkX11_puts_0 17 rfl)
def rm_X11_unwinds : Room := { frames := 2, cells := 0, slots := 0, locals := 51 }
def f_X11_unwinds_67 (k0 : MS → Int32 → Option (MS)) (y : MS) (a1 : Int32) (a2 : Int32) (s0 : Int32) (s1 : Int32) : Option (MS) := (f_X11_puts (pi y 61 38 (s1 - s0)) a2).bind fun r1 => k0 r1 a1
set_option maxRecDepth 100000 in
set_option maxHeartbeats 4000000 in
theorem t_X11_unwinds_67 {C : Cx} {K : KE} {nn : Nat} {x : CS} {R : MS}  (k0 : MS → Int32 → Option (MS)) (y : MS) (a1 : Int32) (a2 : Int32) (s0 : Int32) (s1 : Int32) (hk0 : ∀ (y : MS) (a1 : Int32), k0 y a1 = some R → V C 0 [(0, .ref (K.1 + 61)), (1, .int a1)] [] (xfM K nn x y) 0 0) (h : f_X11_unwinds_67 k0 y a1 a2 s0 s1 = some R) (F : Fx C RX11 cX11_unwinds 3 rm_X11_unwinds K) (E : CE C (xfM K nn x R) none 0 0 none) : V C 67 [(0, .ref (K.1 + 61)), (1, .int a1), (2, .int a2)] [.int s0, .int s1, .ref (K.1 + 61)] (xfM K nn x y) 0 0 := by
  unfold f_X11_unwinds_67 at h
  refine v_isub F (dq dkX11_unwinds_0 37 rfl) ?_
  refine v_put F 61 (xnM (by decide)) xc_61 rfl inlX11 tyX11_ok nmX11 38 (by decide) (tc18 _ (List.mem_of_getElem? (i := 16) rfl)) rfl rfl (tyX11_ok 38 (by decide)) rfl rfl (Nat.le_of_ble_eq_true rfl) (dq dkX11_unwinds_0 38 rfl) ?_
  refine v_eqM (xwM (q := 61) (j := 38) (v := s1 - s0) (by decide) (by decide) rfl) ?_
  refine v_aload_n F (dq dkX11_unwinds_0 39 rfl) rfl 0 rfl ?_
  refine v_iload_n F (dq dkX11_unwinds_1 0 rfl) rfl 2 rfl ?_
  obtain ⟨r1, e2, h⟩ := bd_of h
  refine v_callV 1 F (q := 61) (kc1 := 0) (ks1 := 0) (as := [.int a2]) (st := []) (st1 := []) (res := none) (c_X11_puts (l := C.2.1) x (pi y 61 38 (s1 - s0)) a2 e2) (xnM (by decide)) xc_61 rfl (tc18 _ (List.mem_of_getElem? (i := 18) rfl)) (tc18 _ (List.mem_of_getElem? (i := 19) rfl)) (tc18 _ (List.mem_of_getElem? (i := 20) rfl)) (tc1 _ (List.mem_of_getElem? (i := 5) rfl)) (tc18 _ (List.mem_of_getElem? (i := 21) rfl)) (by decide) rfl ⟨rfl, rfl, Nat.le_of_ble_eq_true rfl, Nat.le_of_ble_eq_true rfl⟩ ⟨Nat.le_of_ble_eq_true rfl, Nat.le_of_ble_eq_true rfl⟩ rfl (Nat.le_of_ble_eq_true rfl) rfl rfl rfl (dq dkX11_unwinds_1 1 rfl) ?_
  refine v_goto F (tgt := 0) (dq dkX11_unwinds_1 2 rfl) (by decide) ?_
  refine v_sub [0, 1] rfl ?_
  exact hk0 r1 a1 h
def f_X11_unwinds_62 (k0 : MS → Int32 → Option (MS)) (y : MS) (a1 : Int32) (a2 : Int32) (s0 : Int32) : Option (MS) := f_X11_unwinds_67 k0 y a1 a2 1 s0
set_option maxRecDepth 100000 in
set_option maxHeartbeats 4000000 in
theorem t_X11_unwinds_62 {C : Cx} {K : KE} {nn : Nat} {x : CS} {R : MS}  (k0 : MS → Int32 → Option (MS)) (y : MS) (a1 : Int32) (a2 : Int32) (s0 : Int32) (hk0 : ∀ (y : MS) (a1 : Int32), k0 y a1 = some R → V C 0 [(0, .ref (K.1 + 61)), (1, .int a1)] [] (xfM K nn x y) 0 0) (h : f_X11_unwinds_62 k0 y a1 a2 s0 = some R) (F : Fx C RX11 cX11_unwinds 3 rm_X11_unwinds K) (E : CE C (xfM K nn x R) none 0 0 none) : V C 62 [(0, .ref (K.1 + 61)), (1, .int a1), (2, .int a2)] [.int s0, .ref (K.1 + 61)] (xfM K nn x y) 0 0 := by
  unfold f_X11_unwinds_62 at h
  refine v_iconst F (v := 1) (dq dkX11_unwinds_0 34 rfl) ki_1 ?_
  refine v_goto F (tgt := 67) (dq dkX11_unwinds_0 35 rfl) (by decide) ?_
  exact t_X11_unwinds_67 k0 y a1 a2 1 s0 hk0 h F E
def f_X11_unwinds_0 : Nat → MS → Int32 → Option (MS)
  | 0, _, _ => none
  | n + 1, y, a1 => if (gi y 61 37) ≤ 0 then (some y) else (gd (ib ((gi y 61 37) - 1) 200) (if (f_X11_rank (gi y 81 ((gi y 61 37) - 1).toNatClampNeg)) < a1 then (some y) else (gd (ib (gi (pi y 61 37 ((gi y 61 37) - 1)) 61 37) 200) (if (gi (pi y 61 37 ((gi y 61 37) - 1)) 81 (gi (pi y 61 37 ((gi y 61 37) - 1)) 61 37).toNatClampNeg) = 13 then (f_X11_unwinds_62 (f_X11_unwinds_0 n) (pi y 61 37 ((gi y 61 37) - 1)) a1 (gi (pi y 61 37 ((gi y 61 37) - 1)) 81 (gi (pi y 61 37 ((gi y 61 37) - 1)) 61 37).toNatClampNeg) (gi (pi y 61 37 ((gi y 61 37) - 1)) 61 38)) else (if (gi (pi y 61 37 ((gi y 61 37) - 1)) 81 (gi (pi y 61 37 ((gi y 61 37) - 1)) 61 37).toNatClampNeg) = 19 then (f_X11_unwinds_62 (f_X11_unwinds_0 n) (pi y 61 37 ((gi y 61 37) - 1)) a1 (gi (pi y 61 37 ((gi y 61 37) - 1)) 81 (gi (pi y 61 37 ((gi y 61 37) - 1)) 61 37).toNatClampNeg) (gi (pi y 61 37 ((gi y 61 37) - 1)) 61 38)) else (f_X11_unwinds_67 (f_X11_unwinds_0 n) (pi y 61 37 ((gi y 61 37) - 1)) a1 (gi (pi y 61 37 ((gi y 61 37) - 1)) 81 (gi (pi y 61 37 ((gi y 61 37) - 1)) 61 37).toNatClampNeg) 0 (gi (pi y 61 37 ((gi y 61 37) - 1)) 61 38)))))))
set_option maxRecDepth 100000 in
set_option maxHeartbeats 4000000 in
theorem t_X11_unwinds_0 {C : Cx} {K : KE} {nn : Nat} {x : CS} {R : MS}  (F : Fx C RX11 cX11_unwinds 3 rm_X11_unwinds K) (E : CE C (xfM K nn x R) none 0 0 none) : ∀ (n : Nat) (y : MS) (a1 : Int32) (h : f_X11_unwinds_0 n y a1 = some R), V C 0 [(0, .ref (K.1 + 61)), (1, .int a1)] [] (xfM K nn x y) 0 0 := by
  intro n
  induction n with
  | zero => intro y a1 h; cases h
  | succ n ih =>
    intro y a1 h
    rw [f_X11_unwinds_0] at h
    refine v_aload_n F (dq dkX11_unwinds_0 0 rfl) rfl 0 rfl ?_
    refine v_get F 61 (xnM (by decide)) xc_61 rfl inlX11 37 (by decide) (tc18 _ (List.mem_of_getElem? (i := 15) rfl)) rfl rfl (dq dkX11_unwinds_0 1 rfl) ?_
    refine v_if_le F (tgt := 79) (dq dkX11_unwinds_0 2 rfl) (by decide) (fun c3 => ?_) (fun c3 => ?_)
    · rw [if_pos c3] at h
      have h := Option.some.inj h
      subst h
      exact v_vret F E (dq dkX11_unwinds_1 3 rfl)
    · rw [if_neg c3] at h
      refine v_aload_n F (dq dkX11_unwinds_0 3 rfl) rfl 0 rfl ?_
      refine v_get F 61 (xnM (by decide)) xc_61 rfl inlX11 36 (by decide) (tc13 _ (List.mem_of_getElem? (i := 5) rfl)) rfl rfl (dq dkX11_unwinds_0 4 rfl) ?_
      refine v_aload_n F (dq dkX11_unwinds_0 5 rfl) rfl 0 rfl ?_
      refine v_get F 61 (xnM (by decide)) xc_61 rfl inlX11 37 (by decide) (tc18 _ (List.mem_of_getElem? (i := 15) rfl)) rfl rfl (dq dkX11_unwinds_0 6 rfl) ?_
      refine v_iconst F (v := 1) (dq dkX11_unwinds_0 7 rfl) ki_1 ?_
      refine v_isub F (dq dkX11_unwinds_0 8 rfl) ?_
      obtain ⟨g4, h⟩ := gd_of h
      refine v_iald F 81 (xnM (by decide)) xc_81 (ib_in g4) (dq dkX11_unwinds_0 9 rfl) ?_
      refine v_callS 1 F (kc1 := 0) (ks1 := 0) (as := [.int (gi y 81 ((gi y 61 37) - 1).toNatClampNeg)]) (st := []) (st1 := (.int (f_X11_rank (gi y 81 ((gi y 61 37) - 1).toNatClampNeg)) :: [])) (res := (some (.int (f_X11_rank (gi y 81 ((gi y 61 37) - 1).toNatClampNeg))))) (c_X11_rank (l := C.2.1) (gi y 81 ((gi y 61 37) - 1).toNatClampNeg)) (tc19 _ (List.mem_of_getElem? (i := 2) rfl)) (tc19 _ (List.mem_of_getElem? (i := 3) rfl)) (tc1 _ (List.mem_of_getElem? (i := 5) rfl)) (tc19 _ (List.mem_of_getElem? (i := 4) rfl)) (by decide) rfl ⟨rfl, rfl, Nat.le_of_ble_eq_true rfl, Nat.le_of_ble_eq_true rfl⟩ ⟨Nat.le_of_ble_eq_true rfl, Nat.le_of_ble_eq_true rfl⟩ rfl (Nat.le_of_ble_eq_true rfl) rfl rfl rfl (dq dkX11_unwinds_0 10 rfl) ?_
      refine v_iload_n F (dq dkX11_unwinds_0 11 rfl) rfl 1 rfl ?_
      refine v_icmp_lt F (tgt := 79) (dq dkX11_unwinds_0 12 rfl) (by decide) (fun c6 => ?_) (fun c6 => ?_)
      · rw [if_pos c6] at h
        have h := Option.some.inj h
        subst h
        exact v_vret F E (dq dkX11_unwinds_1 3 rfl)
      · rw [if_neg c6] at h
        refine v_aload_n F (dq dkX11_unwinds_0 13 rfl) rfl 0 rfl ?_
        refine v_dup F (dq dkX11_unwinds_0 14 rfl) rfl ?_
        refine v_get F 61 (xnM (by decide)) xc_61 rfl inlX11 37 (by decide) (tc18 _ (List.mem_of_getElem? (i := 15) rfl)) rfl rfl (dq dkX11_unwinds_0 15 rfl) ?_
        refine v_iconst F (v := 1) (dq dkX11_unwinds_0 16 rfl) ki_1 ?_
        refine v_isub F (dq dkX11_unwinds_0 17 rfl) ?_
        refine v_put F 61 (xnM (by decide)) xc_61 rfl inlX11 tyX11_ok nmX11 37 (by decide) (tc18 _ (List.mem_of_getElem? (i := 15) rfl)) rfl rfl (tyX11_ok 37 (by decide)) rfl rfl (Nat.le_of_ble_eq_true rfl) (dq dkX11_unwinds_0 18 rfl) ?_
        refine v_eqM (xwM (q := 61) (j := 37) (v := (gi y 61 37) - 1) (by decide) (by decide) rfl) ?_
        refine v_aload_n F (dq dkX11_unwinds_0 19 rfl) rfl 0 rfl ?_
        refine v_get F 61 (xnM (by decide)) xc_61 rfl inlX11 36 (by decide) (tc13 _ (List.mem_of_getElem? (i := 5) rfl)) rfl rfl (dq dkX11_unwinds_0 20 rfl) ?_
        refine v_aload_n F (dq dkX11_unwinds_0 21 rfl) rfl 0 rfl ?_
        refine v_get F 61 (xnM (by decide)) xc_61 rfl inlX11 37 (by decide) (tc18 _ (List.mem_of_getElem? (i := 15) rfl)) rfl rfl (dq dkX11_unwinds_0 22 rfl) ?_
        obtain ⟨g7, h⟩ := gd_of h
        refine v_iald F 81 (xnM (by decide)) xc_81 (ib_in g7) (dq dkX11_unwinds_0 23 rfl) ?_
        refine v_istore_n F (ls' := [(2, .int (gi (pi y 61 37 ((gi y 61 37) - 1)) 81 (gi (pi y 61 37 ((gi y 61 37) - 1)) 61 37).toNatClampNeg)), (0, .ref (K.1 + 61)), (1, .int a1)]) (dq dkX11_unwinds_0 24 rfl) rfl (by decide) rfl ?_
        refine v_aload_n F (dq dkX11_unwinds_0 25 rfl) rfl 1 rfl ?_
        refine v_dup F (dq dkX11_unwinds_0 26 rfl) rfl ?_
        refine v_get F 61 (xnM (by decide)) xc_61 rfl inlX11 38 (by decide) (tc18 _ (List.mem_of_getElem? (i := 16) rfl)) rfl rfl (dq dkX11_unwinds_0 27 rfl) ?_
        refine v_iload_n F (dq dkX11_unwinds_0 28 rfl) rfl 0 rfl ?_
        refine v_bipush F (v := 13) (dq dkX11_unwinds_0 29 rfl) kb_13 ?_
        refine v_icmp_eq F (tgt := 62) (dq dkX11_unwinds_0 30 rfl) (by decide) (fun c8 => ?_) (fun c8 => ?_)
        · rw [if_pos c8] at h
          refine v_sub [1, 2, 0] rfl ?_
          exact t_X11_unwinds_62 (f_X11_unwinds_0 n) (pi y 61 37 ((gi y 61 37) - 1)) a1 (gi (pi y 61 37 ((gi y 61 37) - 1)) 81 (gi (pi y 61 37 ((gi y 61 37) - 1)) 61 37).toNatClampNeg) (gi (pi y 61 37 ((gi y 61 37) - 1)) 61 38) ih h F E
        · rw [if_neg c8] at h
          refine v_iload_n F (dq dkX11_unwinds_0 31 rfl) rfl 0 rfl ?_
          refine v_bipush F (v := 19) (dq dkX11_unwinds_0 32 rfl) kb_19 ?_
          refine v_icmp_ne F (tgt := 66) (dq dkX11_unwinds_0 33 rfl) (by decide) (fun c9 => ?_) (fun c9 => ?_)
          · rw [if_neg c9] at h
            refine v_iconst F (v := 0) (dq dkX11_unwinds_0 36 rfl) ki_0 ?_
            refine v_sub [1, 2, 0] rfl ?_
            exact t_X11_unwinds_67 (f_X11_unwinds_0 n) (pi y 61 37 ((gi y 61 37) - 1)) a1 (gi (pi y 61 37 ((gi y 61 37) - 1)) 81 (gi (pi y 61 37 ((gi y 61 37) - 1)) 61 37).toNatClampNeg) 0 (gi (pi y 61 37 ((gi y 61 37) - 1)) 61 38) ih h F E
          · rw [if_pos c9] at h
            refine v_sub [1, 2, 0] rfl ?_
            exact t_X11_unwinds_62 (f_X11_unwinds_0 n) (pi y 61 37 ((gi y 61 37) - 1)) a1 (gi (pi y 61 37 ((gi y 61 37) - 1)) 81 (gi (pi y 61 37 ((gi y 61 37) - 1)) 61 37).toNatClampNeg) (gi (pi y 61 37 ((gi y 61 37) - 1)) 61 38) ih h F E
def f_X11_unwinds (y : MS) (a1 : Int32) : Option (MS) := f_X11_unwinds_0 1000 y a1
set_option maxRecDepth 100000 in
set_option maxHeartbeats 4000000 in
theorem c_X11_unwinds {K : KE} {l : Launch} {R : MS} {nn : Nat} (x : CS) (y : MS) (a1 : Int32) (h : f_X11_unwinds y a1 = some R) : MC K l yX11_unwinds cX11_unwinds 3 none rm_X11_unwinds 0 0 [.ref (K.1 + 61), .int a1] (xfM K nn x y) (xfM K nn x R) none := by
  unfold f_X11_unwinds at h
  refine mc_of (ls0 := [(0, .ref (K.1 + 61)), (1, .int a1)]) (by decide) (Nat.le_of_ble_eq_true rfl) rfl (fun C hl hnm F E => ?_)
  have F : Fx C RX11 cX11_unwinds 3 rm_X11_unwinds K := F
  exact t_X11_unwinds_0 F E 1000 y a1 h
