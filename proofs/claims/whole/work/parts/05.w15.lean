def rm_X11_by : Room := { frames := 1, cells := 0, slots := 0, locals := 30 }
def f_X11_by (a0 : Int32) (a1 : Int32) : Option (Int32) := gd (decide (¬ a1 = 0)) (some (((a0 + a1) - 1) / a1))
set_option maxRecDepth 100000 in
set_option maxHeartbeats 4000000 in
theorem c_X11_by {K : KE} {l : Launch} {R : Int32} {M : GM} (a0 : Int32) (a1 : Int32) (h : f_X11_by a0 a1 = some R) : MC K l yX11_by cX11_by 2 (some .int) rm_X11_by 0 0 [.int a0, .int a1] M M (some (.int R)) := by
  unfold f_X11_by at h
  refine mc_of (ls0 := [(0, .int a0), (1, .int a1)]) (by decide) (Nat.le_of_ble_eq_true rfl) rfl (fun C hl hnm F E => ?_)
  have F : Fx C RX11 cX11_by 2 rm_X11_by K := F
  refine v_iload_n F (dq dkX11_by_0 0 rfl) rfl 0 rfl ?_
  refine v_iload_n F (dq dkX11_by_0 1 rfl) rfl 1 rfl ?_
  refine v_iadd F (dq dkX11_by_0 2 rfl) ?_
  refine v_iconst F (v := 1) (dq dkX11_by_0 3 rfl) ki_1 ?_
  refine v_isub F (dq dkX11_by_0 4 rfl) ?_
  refine v_iload_n F (dq dkX11_by_0 5 rfl) rfl 1 rfl ?_
  obtain ⟨g1, h⟩ := gd_of h
  refine v_idiv F (dq dkX11_by_0 6 rfl) (of_decide_eq_true g1) ?_
  have h := Option.some.inj h
  subst h
  exact v_iret F E (dq dkX11_by_0 7 rfl)
def rm_X11_workTold : Room := { frames := 2, cells := 0, slots := 0, locals := 52 }
def f_X11_workTold (y : MS) (a1 : Int32) (a2 : Int32) : Option (Int32) := if (b2i (f_X11_in a1 0 ((gi y 61 6) - 1))) = 0 then (some (-5)) else (if a2 = 0 then (gd (ib a1 10) (some (gi y 63 a1.toNatClampNeg))) else (if a2 = 1 then (gd (ib a1 10) (some (gi y 64 a1.toNatClampNeg))) else (if a2 = 2 then (gd (ib a1 10) (some (gi y 65 a1.toNatClampNeg))) else (if a2 = 3 then ((f_X11_daysOf y a1).bind fun r7 => (f_X11_by r7 (gi y 61 4)).bind fun r9 => some r9) else (some (-7))))))
set_option maxRecDepth 100000 in
set_option maxHeartbeats 4000000 in
theorem c_X11_workTold {K : KE} {l : Launch} {R : Int32} {nn : Nat} (x : CS) (y : MS) (a1 : Int32) (a2 : Int32) (h : f_X11_workTold y a1 a2 = some R) : MC K l yX11_workTold cX11_workTold 3 (some .int) rm_X11_workTold 0 0 [.ref (K.1 + 61), .int a1, .int a2] (xfM K nn x y) (xfM K nn x y) (some (.int R)) := by
  unfold f_X11_workTold at h
  refine mc_of (ls0 := [(0, .ref (K.1 + 61)), (1, .int a1), (2, .int a2)]) (by decide) (Nat.le_of_ble_eq_true rfl) rfl (fun C hl hnm F E => ?_)
  have F : Fx C RX11 cX11_workTold 3 rm_X11_workTold K := F
  refine v_iload_n F (dq dkX11_workTold_0 0 rfl) rfl 1 rfl ?_
  refine v_iconst F (v := 0) (dq dkX11_workTold_0 1 rfl) ki_0 ?_
  refine v_aload_n F (dq dkX11_workTold_0 2 rfl) rfl 0 rfl ?_
  refine v_get F 61 (xnM (by decide)) xc_61 rfl inlX11 6 (by decide) (tc16 _ (List.mem_of_getElem? (i := 16) rfl)) rfl rfl (dq dkX11_workTold_0 3 rfl) ?_
  refine v_iconst F (v := 1) (dq dkX11_workTold_0 4 rfl) ki_1 ?_
  refine v_isub F (dq dkX11_workTold_0 5 rfl) ?_
  refine v_callS 3 F (kc1 := 0) (ks1 := 0) (as := [.int a1, .int 0, .int ((gi y 61 6) - 1)]) (st := []) (st1 := (.int (b2i (f_X11_in a1 0 ((gi y 61 6) - 1))) :: [])) (res := (some (.int (b2i (f_X11_in a1 0 ((gi y 61 6) - 1)))))) (c_X11_in (l := C.2.1) a1 0 ((gi y 61 6) - 1)) (tc15 _ (List.mem_of_getElem? (i := 1) rfl)) (tc15 _ (List.mem_of_getElem? (i := 2) rfl)) (tc1 _ (List.mem_of_getElem? (i := 5) rfl)) (tc15 _ (List.mem_of_getElem? (i := 3) rfl)) (by decide) rfl ⟨rfl, rfl, Nat.le_of_ble_eq_true rfl, Nat.le_of_ble_eq_true rfl⟩ ⟨Nat.le_of_ble_eq_true rfl, Nat.le_of_ble_eq_true rfl⟩ rfl (Nat.le_of_ble_eq_true rfl) rfl rfl rfl (dq dkX11_workTold_0 6 rfl) ?_
  refine v_if_ne F (tgt := 17) (dq dkX11_workTold_0 7 rfl) (by decide) (fun c2 => ?_) (fun c2 => ?_)
  · rw [if_neg c2] at h
    refine v_iload_n F (dq dkX11_workTold_0 10 rfl) rfl 2 rfl ?_
    refine v_if_ne F (tgt := 30) (dq dkX11_workTold_0 11 rfl) (by decide) (fun c3 => ?_) (fun c3 => ?_)
    · rw [if_neg c3] at h
      refine v_iload_n F (dq dkX11_workTold_0 17 rfl) rfl 2 rfl ?_
      refine v_iconst F (v := 1) (dq dkX11_workTold_0 18 rfl) ki_1 ?_
      refine v_icmp_ne F (tgt := 44) (dq dkX11_workTold_0 19 rfl) (by decide) (fun c4 => ?_) (fun c4 => ?_)
      · rw [if_neg c4] at h
        refine v_iload_n F (dq dkX11_workTold_0 25 rfl) rfl 2 rfl ?_
        refine v_iconst F (v := 2) (dq dkX11_workTold_0 26 rfl) ki_2 ?_
        refine v_icmp_ne F (tgt := 58) (dq dkX11_workTold_0 27 rfl) (by decide) (fun c5 => ?_) (fun c5 => ?_)
        · rw [if_neg c5] at h
          refine v_iload_n F (dq dkX11_workTold_0 33 rfl) rfl 2 rfl ?_
          refine v_iconst F (v := 3) (dq dkX11_workTold_0 34 rfl) ki_3 ?_
          refine v_icmp_ne F (tgt := 78) (dq dkX11_workTold_0 35 rfl) (by decide) (fun c6 => ?_) (fun c6 => ?_)
          · rw [if_neg c6] at h
            refine v_bipush F (v := (-7)) (dq dkX11_workTold_1 3 rfl) kb_m7 ?_
            have h := Option.some.inj h
            subst h
            exact v_iret F E (dq dkX11_workTold_1 4 rfl)
          · rw [if_pos c6] at h
            refine v_aload_n F (dq dkX11_workTold_0 36 rfl) rfl 0 rfl ?_
            refine v_iload_n F (dq dkX11_workTold_0 37 rfl) rfl 1 rfl ?_
            obtain ⟨r7, e8, h⟩ := bd_of h
            refine v_callV 1 F (q := 61) (kc1 := 0) (ks1 := 0) (as := [.int a1]) (st := []) (st1 := (.int r7 :: [])) (res := (some (.int r7))) (c_X11_daysOf (l := C.2.1) x y a1 e8) (xnM (by decide)) xc_61 rfl (tc24 _ (List.mem_of_getElem? (i := 12) rfl)) (tc24 _ (List.mem_of_getElem? (i := 13) rfl)) (tc24 _ (List.mem_of_getElem? (i := 14) rfl)) (tc1 _ (List.mem_of_getElem? (i := 5) rfl)) (tc24 _ (List.mem_of_getElem? (i := 15) rfl)) (by decide) rfl ⟨rfl, rfl, Nat.le_of_ble_eq_true rfl, Nat.le_of_ble_eq_true rfl⟩ ⟨Nat.le_of_ble_eq_true rfl, Nat.le_of_ble_eq_true rfl⟩ rfl (Nat.le_of_ble_eq_true rfl) rfl rfl rfl (dq dkX11_workTold_0 38 rfl) ?_
            refine v_aload_n F (dq dkX11_workTold_0 39 rfl) rfl 0 rfl ?_
            refine v_get F 61 (xnM (by decide)) xc_61 rfl inlX11 4 (by decide) (tc11 _ (List.mem_of_getElem? (i := 20) rfl)) rfl rfl (dq dkX11_workTold_1 0 rfl) ?_
            obtain ⟨r9, e10, h⟩ := bd_of h
            refine v_callS 2 F (kc1 := 0) (ks1 := 0) (as := [.int r7, .int (gi y 61 4)]) (st := []) (st1 := (.int r9 :: [])) (res := (some (.int r9))) (c_X11_by (l := C.2.1) r7 (gi y 61 4) e10) (tc24 _ (List.mem_of_getElem? (i := 16) rfl)) (tc24 _ (List.mem_of_getElem? (i := 17) rfl)) (tc1 _ (List.mem_of_getElem? (i := 5) rfl)) (tc24 _ (List.mem_of_getElem? (i := 18) rfl)) (by decide) rfl ⟨rfl, rfl, Nat.le_of_ble_eq_true rfl, Nat.le_of_ble_eq_true rfl⟩ ⟨Nat.le_of_ble_eq_true rfl, Nat.le_of_ble_eq_true rfl⟩ rfl (Nat.le_of_ble_eq_true rfl) rfl rfl rfl (dq dkX11_workTold_1 1 rfl) ?_
            refine v_goto F (tgt := 80) (dq dkX11_workTold_1 2 rfl) (by decide) ?_
            have h := Option.some.inj h
            subst h
            exact v_iret F E (dq dkX11_workTold_1 4 rfl)
        · rw [if_pos c5] at h
          refine v_aload_n F (dq dkX11_workTold_0 28 rfl) rfl 0 rfl ?_
          refine v_get F 61 (xnM (by decide)) xc_61 rfl inlX11 9 (by decide) (tc11 _ (List.mem_of_getElem? (i := 23) rfl)) rfl rfl (dq dkX11_workTold_0 29 rfl) ?_
          refine v_iload_n F (dq dkX11_workTold_0 30 rfl) rfl 1 rfl ?_
          obtain ⟨g11, h⟩ := gd_of h
          refine v_iald F 65 (xnM (by decide)) xc_65 (ib_in g11) (dq dkX11_workTold_0 31 rfl) ?_
          refine v_goto F (tgt := 80) (dq dkX11_workTold_0 32 rfl) (by decide) ?_
          have h := Option.some.inj h
          subst h
          exact v_iret F E (dq dkX11_workTold_1 4 rfl)
      · rw [if_pos c4] at h
        refine v_aload_n F (dq dkX11_workTold_0 20 rfl) rfl 0 rfl ?_
        refine v_get F 61 (xnM (by decide)) xc_61 rfl inlX11 8 (by decide) (tc11 _ (List.mem_of_getElem? (i := 22) rfl)) rfl rfl (dq dkX11_workTold_0 21 rfl) ?_
        refine v_iload_n F (dq dkX11_workTold_0 22 rfl) rfl 1 rfl ?_
        obtain ⟨g12, h⟩ := gd_of h
        refine v_iald F 64 (xnM (by decide)) xc_64 (ib_in g12) (dq dkX11_workTold_0 23 rfl) ?_
        refine v_goto F (tgt := 80) (dq dkX11_workTold_0 24 rfl) (by decide) ?_
        have h := Option.some.inj h
        subst h
        exact v_iret F E (dq dkX11_workTold_1 4 rfl)
    · rw [if_pos c3] at h
      refine v_aload_n F (dq dkX11_workTold_0 12 rfl) rfl 0 rfl ?_
      refine v_get F 61 (xnM (by decide)) xc_61 rfl inlX11 7 (by decide) (tc11 _ (List.mem_of_getElem? (i := 21) rfl)) rfl rfl (dq dkX11_workTold_0 13 rfl) ?_
      refine v_iload_n F (dq dkX11_workTold_0 14 rfl) rfl 1 rfl ?_
      obtain ⟨g13, h⟩ := gd_of h
      refine v_iald F 63 (xnM (by decide)) xc_63 (ib_in g13) (dq dkX11_workTold_0 15 rfl) ?_
      refine v_goto F (tgt := 80) (dq dkX11_workTold_0 16 rfl) (by decide) ?_
      have h := Option.some.inj h
      subst h
      exact v_iret F E (dq dkX11_workTold_1 4 rfl)
  · rw [if_pos c2] at h
    refine v_bipush F (v := (-5)) (dq dkX11_workTold_0 8 rfl) kb_m5 ?_
    have h := Option.some.inj h
    subst h
    exact v_iret F E (dq dkX11_workTold_0 9 rfl)
def rm_X11_drawsLess : Room := { frames := 1, cells := 0, slots := 0, locals := 30 }
def f_X11_drawsLess (y : MS) : Option (Int32 × MS) := if (gi y 61 48) = 0 then (some (0, y)) else (some ((((gmlot (pmlot y (((gmlot y) * 48271) - ((gmlot y) * 48271) / 2147483647 * 2147483647))) - (gmlot (pmlot y (((gmlot y) * 48271) - ((gmlot y) * 48271) / 2147483647 * 2147483647))) / 3 * 3).toInt32) - 1, pmlot y (((gmlot y) * 48271) - ((gmlot y) * 48271) / 2147483647 * 2147483647)))
set_option maxRecDepth 100000 in
set_option maxHeartbeats 4000000 in
theorem c_X11_drawsLess {K : KE} {l : Launch} {R : Int32 × MS} {nn : Nat} (x : CS) (y : MS) (h : f_X11_drawsLess y = some R) : MC K l yX11_drawsLess cX11_drawsLess 1 (some .int) rm_X11_drawsLess 0 0 [.ref (K.1 + 61)] (xfM K nn x y) (xfM K nn x R.2) (some (.int R.1)) := by
  unfold f_X11_drawsLess at h
  refine mc_of (ls0 := [(0, .ref (K.1 + 61))]) (by decide) (Nat.le_of_ble_eq_true rfl) rfl (fun C hl hnm F E => ?_)
  have F : Fx C RX11 cX11_drawsLess 1 rm_X11_drawsLess K := F
  refine v_aload_n F (dq dkX11_drawsLess_0 0 rfl) rfl 0 rfl ?_
  refine v_get F 61 (xnM (by decide)) xc_61 rfl inlX11 48 (by decide) (tc28 _ (List.mem_of_getElem? (i := 23) rfl)) rfl rfl (dq dkX11_drawsLess_0 1 rfl) ?_
  refine v_if_ne F (tgt := 9) (dq dkX11_drawsLess_0 2 rfl) (by decide) (fun c1 => ?_) (fun c1 => ?_)
  · rw [if_neg c1] at h
    refine v_aload_n F (dq dkX11_drawsLess_0 5 rfl) rfl 0 rfl ?_
    refine v_aload_n F (dq dkX11_drawsLess_0 6 rfl) rfl 0 rfl ?_
    refine v_get F 61 (xnM (by decide)) xc_61 rfl inlX11 49 (by decide) (tc29 _ (List.mem_of_getElem? (i := 0) rfl)) rfl rfl (dq dkX11_drawsLess_0 7 rfl) ?_
    refine v_ldc2 F (v := 48271) (tc29 _ (List.mem_of_getElem? (i := 1) rfl)) (dq dkX11_drawsLess_0 8 rfl) ?_
    refine v_lmul F (dq dkX11_drawsLess_0 9 rfl) ?_
    refine v_ldc2 F (v := 2147483647) (tc29 _ (List.mem_of_getElem? (i := 2) rfl)) (dq dkX11_drawsLess_0 10 rfl) ?_
    refine v_lrem F (dq dkX11_drawsLess_0 11 rfl) (by decide) ?_
    refine v_put F 61 (xnM (by decide)) xc_61 rfl inlX11 tyX11_ok nmX11 49 (by decide) (tc29 _ (List.mem_of_getElem? (i := 0) rfl)) rfl rfl (tyX11_ok 49 (by decide)) rfl rfl (Nat.le_of_ble_eq_true rfl) (dq dkX11_drawsLess_0 12 rfl) ?_
    refine v_eqM (xw_mlot (v := ((gmlot y) * 48271) - ((gmlot y) * 48271) / 2147483647 * 2147483647)) ?_
    refine v_aload_n F (dq dkX11_drawsLess_0 13 rfl) rfl 0 rfl ?_
    refine v_get F 61 (xnM (by decide)) xc_61 rfl inlX11 49 (by decide) (tc29 _ (List.mem_of_getElem? (i := 0) rfl)) rfl rfl (dq dkX11_drawsLess_0 14 rfl) ?_
    refine v_ldc2 F (v := 3) (tc29 _ (List.mem_of_getElem? (i := 3) rfl)) (dq dkX11_drawsLess_0 15 rfl) ?_
    refine v_lrem F (dq dkX11_drawsLess_0 16 rfl) (by decide) ?_
    refine v_l2i F (dq dkX11_drawsLess_0 17 rfl) ?_
    refine v_iconst F (v := 1) (dq dkX11_drawsLess_0 18 rfl) ki_1 ?_
    refine v_isub F (dq dkX11_drawsLess_0 19 rfl) ?_
    have h := Option.some.inj h
    subst h
    exact v_iret F E (dq dkX11_drawsLess_0 20 rfl)
  · rw [if_pos c1] at h
    refine v_iconst F (v := 0) (dq dkX11_drawsLess_0 3 rfl) ki_0 ?_
    have h := Option.some.inj h
    subst h
    exact v_iret F E (dq dkX11_drawsLess_0 4 rfl)
def rm_X11_knotOf : Room := { frames := 1, cells := 0, slots := 0, locals := 30 }
def f_X11_knotOf (y : MS) (a1 : Int32) : Option (Int32) := gd (ib (36 + a1) 54) (some (gi y 62 (36 + a1).toNatClampNeg))
set_option maxRecDepth 100000 in
set_option maxHeartbeats 4000000 in
theorem c_X11_knotOf {K : KE} {l : Launch} {R : Int32} {nn : Nat} (x : CS) (y : MS) (a1 : Int32) (h : f_X11_knotOf y a1 = some R) : MC K l yX11_knotOf cX11_knotOf 2 (some .int) rm_X11_knotOf 0 0 [.ref (K.1 + 61), .int a1] (xfM K nn x y) (xfM K nn x y) (some (.int R)) := by
  unfold f_X11_knotOf at h
  refine mc_of (ls0 := [(0, .ref (K.1 + 61)), (1, .int a1)]) (by decide) (Nat.le_of_ble_eq_true rfl) rfl (fun C hl hnm F E => ?_)
  have F : Fx C RX11 cX11_knotOf 2 rm_X11_knotOf K := F
  refine v_aload_n F (dq dkX11_knotOf_0 0 rfl) rfl 0 rfl ?_
  refine v_get F 61 (xnM (by decide)) xc_61 rfl inlX11 0 (by decide) (tc11 _ (List.mem_of_getElem? (i := 17) rfl)) rfl rfl (dq dkX11_knotOf_0 1 rfl) ?_
  refine v_bipush F (v := 36) (dq dkX11_knotOf_0 2 rfl) kb_36 ?_
  refine v_iload_n F (dq dkX11_knotOf_0 3 rfl) rfl 1 rfl ?_
  refine v_iadd F (dq dkX11_knotOf_0 4 rfl) ?_
  obtain ⟨g1, h⟩ := gd_of h
  refine v_iald F 62 (xnM (by decide)) xc_62 (ib_in g1) (dq dkX11_knotOf_0 5 rfl) ?_
  have h := Option.some.inj h
  subst h
  exact v_iret F E (dq dkX11_knotOf_0 6 rfl)
def rm_X11_fires : Room := { frames := 4, cells := 0, slots := 0, locals := 102 }
def f_X11_fires_44 (y : MS) (a1 : Int32) (s0 : Int32) (s1 : Int32) (s2 : Int32) : Option (MS) := gd (ib s2 9) (gd (ib a1 9) (if 0 < (gi (pi y 85 s2.toNatClampNeg (s1 - s0)) 85 a1.toNatClampNeg) then (some (pi y 85 s2.toNatClampNeg (s1 - s0))) else (gd (ib a1 9) (some (pi (pi (pi y 85 s2.toNatClampNeg (s1 - s0)) 85 a1.toNatClampNeg 0) 61 45 ((gi (pi (pi y 85 s2.toNatClampNeg (s1 - s0)) 85 a1.toNatClampNeg 0) 61 45) ||| (1 <<< (a1 &&& 31))))))))
set_option maxRecDepth 100000 in
set_option maxHeartbeats 4000000 in
theorem t_X11_fires_44 {C : Cx} {K : KE} {nn : Nat} {x : CS} {R : MS}  (y : MS) (a1 : Int32) (s0 : Int32) (s1 : Int32) (s2 : Int32) (h : f_X11_fires_44 y a1 s0 s1 s2 = some R) (F : Fx C RX11 cX11_fires 3 rm_X11_fires K) (E : CE C (xfM K nn x R) none 0 0 none) : V C 44 [(0, .ref (K.1 + 61)), (1, .int a1)] [.int s0, .int s1, .int s2, .ref (K.1 + 85)] (xfM K nn x y) 0 0 := by
  unfold f_X11_fires_44 at h
  refine v_isub F (dq dkX11_fires_0 28 rfl) ?_
  obtain ⟨g1, h⟩ := gd_of h
  refine v_iast F 85 (xnM (by decide)) xc_85 (ib_in g1) (dq dkX11_fires_0 29 rfl) ?_
  refine v_eqM (xwM (q := 85) (j := s2.toNatClampNeg) (v := s1 - s0) (by decide) (by decide) rfl) ?_
  refine v_aload_n F (dq dkX11_fires_0 30 rfl) rfl 0 rfl ?_
  refine v_get F 61 (xnM (by decide)) xc_61 rfl inlX11 43 (by decide) (tc13 _ (List.mem_of_getElem? (i := 9) rfl)) rfl rfl (dq dkX11_fires_0 31 rfl) ?_
  refine v_iload_n F (dq dkX11_fires_0 32 rfl) rfl 1 rfl ?_
  obtain ⟨g2, h⟩ := gd_of h
  refine v_iald F 85 (xnM (by decide)) xc_85 (ib_in g2) (dq dkX11_fires_0 33 rfl) ?_
  refine v_if_gt F (tgt := 74) (dq dkX11_fires_0 34 rfl) (by decide) (fun c3 => ?_) (fun c3 => ?_)
  · rw [if_pos c3] at h
    have h := Option.some.inj h
    subst h
    exact v_vret F E (dq dkX11_fires_1 8 rfl)
  · rw [if_neg c3] at h
    refine v_aload_n F (dq dkX11_fires_0 35 rfl) rfl 0 rfl ?_
    refine v_get F 61 (xnM (by decide)) xc_61 rfl inlX11 43 (by decide) (tc13 _ (List.mem_of_getElem? (i := 9) rfl)) rfl rfl (dq dkX11_fires_0 36 rfl) ?_
    refine v_iload_n F (dq dkX11_fires_0 37 rfl) rfl 1 rfl ?_
    refine v_iconst F (v := 0) (dq dkX11_fires_0 38 rfl) ki_0 ?_
    obtain ⟨g4, h⟩ := gd_of h
    refine v_iast F 85 (xnM (by decide)) xc_85 (ib_in g4) (dq dkX11_fires_0 39 rfl) ?_
    refine v_eqM (xwM (q := 85) (j := a1.toNatClampNeg) (v := 0) (by decide) (by decide) rfl) ?_
    refine v_aload_n F (dq dkX11_fires_1 0 rfl) rfl 0 rfl ?_
    refine v_dup F (dq dkX11_fires_1 1 rfl) rfl ?_
    refine v_get F 61 (xnM (by decide)) xc_61 rfl inlX11 45 (by decide) (tc27 _ (List.mem_of_getElem? (i := 9) rfl)) rfl rfl (dq dkX11_fires_1 2 rfl) ?_
    refine v_iconst F (v := 1) (dq dkX11_fires_1 3 rfl) ki_1 ?_
    refine v_iload_n F (dq dkX11_fires_1 4 rfl) rfl 1 rfl ?_
    refine v_ishl F (dq dkX11_fires_1 5 rfl) ?_
    refine v_ior F (dq dkX11_fires_1 6 rfl) ?_
    refine v_put F 61 (xnM (by decide)) xc_61 rfl inlX11 tyX11_ok nmX11 45 (by decide) (tc27 _ (List.mem_of_getElem? (i := 9) rfl)) rfl rfl (tyX11_ok 45 (by decide)) rfl rfl (Nat.le_of_ble_eq_true rfl) (dq dkX11_fires_1 7 rfl) ?_
    refine v_eqM (xwM (q := 61) (j := 45) (v := (gi (pi (pi y 85 s2.toNatClampNeg (s1 - s0)) 85 a1.toNatClampNeg 0) 61 45) ||| (1 <<< (a1 &&& 31))) (by decide) (by decide) rfl) ?_
    have h := Option.some.inj h
    subst h
    exact v_vret F E (dq dkX11_fires_1 8 rfl)
def f_X11_fires (y : MS) (a1 : Int32) : Option (MS) := gd (ib a1 9) (gd (ib a1 9) ((f_X11_knotOf y a1).bind fun r7 => (f_X11_says y 0 (gi y 85 a1.toNatClampNeg) (gi y 84 a1.toNatClampNeg) r7).bind fun r9 => (f_X11_drawsLess r9.2).bind fun r11 => gd (ib a1 9) (if 0 ≤ (r9.1 + r11.1) then (f_X11_fires_44 r11.2 a1 (r9.1 + r11.1) (gi r11.2 85 a1.toNatClampNeg) a1) else (f_X11_fires_44 r11.2 a1 0 (gi r11.2 85 a1.toNatClampNeg) a1))))
set_option maxRecDepth 100000 in
set_option maxHeartbeats 4000000 in
theorem c_X11_fires {K : KE} {l : Launch} {R : MS} {nn : Nat} (x : CS) (y : MS) (a1 : Int32) (h : f_X11_fires y a1 = some R) : MC K l yX11_fires cX11_fires 3 none rm_X11_fires 0 0 [.ref (K.1 + 61), .int a1] (xfM K nn x y) (xfM K nn x R) none := by
  unfold f_X11_fires at h
  refine mc_of (ls0 := [(0, .ref (K.1 + 61)), (1, .int a1)]) (by decide) (Nat.le_of_ble_eq_true rfl) rfl (fun C hl hnm F E => ?_)
  have F : Fx C RX11 cX11_fires 3 rm_X11_fires K := F
  refine v_aload_n F (dq dkX11_fires_0 0 rfl) rfl 0 rfl ?_
  refine v_iconst F (v := 0) (dq dkX11_fires_0 1 rfl) ki_0 ?_
  refine v_aload_n F (dq dkX11_fires_0 2 rfl) rfl 0 rfl ?_
  refine v_get F 61 (xnM (by decide)) xc_61 rfl inlX11 43 (by decide) (tc13 _ (List.mem_of_getElem? (i := 9) rfl)) rfl rfl (dq dkX11_fires_0 3 rfl) ?_
  refine v_iload_n F (dq dkX11_fires_0 4 rfl) rfl 1 rfl ?_
  obtain ⟨g5, h⟩ := gd_of h
  refine v_iald F 85 (xnM (by decide)) xc_85 (ib_in g5) (dq dkX11_fires_0 5 rfl) ?_
  refine v_aload_n F (dq dkX11_fires_0 6 rfl) rfl 0 rfl ?_
  refine v_get F 61 (xnM (by decide)) xc_61 rfl inlX11 42 (by decide) (tc13 _ (List.mem_of_getElem? (i := 8) rfl)) rfl rfl (dq dkX11_fires_0 7 rfl) ?_
  refine v_iload_n F (dq dkX11_fires_0 8 rfl) rfl 1 rfl ?_
  obtain ⟨g6, h⟩ := gd_of h
  refine v_iald F 84 (xnM (by decide)) xc_84 (ib_in g6) (dq dkX11_fires_0 9 rfl) ?_
  refine v_aload_n F (dq dkX11_fires_0 10 rfl) rfl 0 rfl ?_
  refine v_iload_n F (dq dkX11_fires_0 11 rfl) rfl 1 rfl ?_
  obtain ⟨r7, e8, h⟩ := bd_of h
  refine v_callV 1 F (q := 61) (kc1 := 0) (ks1 := 0) (as := [.int a1]) (st := [.int (gi y 84 a1.toNatClampNeg), .int (gi y 85 a1.toNatClampNeg), .int 0, .ref (K.1 + 61)]) (st1 := (.int r7 :: [.int (gi y 84 a1.toNatClampNeg), .int (gi y 85 a1.toNatClampNeg), .int 0, .ref (K.1 + 61)])) (res := (some (.int r7))) (c_X11_knotOf (l := C.2.1) x y a1 e8) (xnM (by decide)) xc_61 rfl (tc28 _ (List.mem_of_getElem? (i := 15) rfl)) (tc28 _ (List.mem_of_getElem? (i := 16) rfl)) (tc28 _ (List.mem_of_getElem? (i := 17) rfl)) (tc1 _ (List.mem_of_getElem? (i := 5) rfl)) (tc28 _ (List.mem_of_getElem? (i := 18) rfl)) (by decide) rfl ⟨rfl, rfl, Nat.le_of_ble_eq_true rfl, Nat.le_of_ble_eq_true rfl⟩ ⟨Nat.le_of_ble_eq_true rfl, Nat.le_of_ble_eq_true rfl⟩ rfl (Nat.le_of_ble_eq_true rfl) rfl rfl rfl (dq dkX11_fires_0 12 rfl) ?_
  obtain ⟨r9, e10, h⟩ := bd_of h
  refine v_callV 4 F (q := 61) (kc1 := 0) (ks1 := 0) (as := [.int 0, .int (gi y 85 a1.toNatClampNeg), .int (gi y 84 a1.toNatClampNeg), .int r7]) (st := []) (st1 := (.int r9.1 :: [])) (res := (some (.int r9.1))) (c_X11_says (l := C.2.1) x y 0 (gi y 85 a1.toNatClampNeg) (gi y 84 a1.toNatClampNeg) r7 e10) (xnM (by decide)) xc_61 rfl (tc21 _ (List.mem_of_getElem? (i := 17) rfl)) (tc21 _ (List.mem_of_getElem? (i := 18) rfl)) (tc21 _ (List.mem_of_getElem? (i := 19) rfl)) (tc1 _ (List.mem_of_getElem? (i := 5) rfl)) (tc21 _ (List.mem_of_getElem? (i := 20) rfl)) (by decide) rfl ⟨rfl, rfl, Nat.le_of_ble_eq_true rfl, Nat.le_of_ble_eq_true rfl⟩ ⟨Nat.le_of_ble_eq_true rfl, Nat.le_of_ble_eq_true rfl⟩ rfl (Nat.le_of_ble_eq_true rfl) rfl rfl rfl (dq dkX11_fires_0 13 rfl) ?_
  refine v_aload_n F (dq dkX11_fires_0 14 rfl) rfl 0 rfl ?_
  obtain ⟨r11, e12, h⟩ := bd_of h
  refine v_callV 0 F (q := 61) (kc1 := 0) (ks1 := 0) (as := []) (st := [.int r9.1]) (st1 := (.int r11.1 :: [.int r9.1])) (res := (some (.int r11.1))) (c_X11_drawsLess (l := C.2.1) x r9.2 e12) (xnM (by decide)) xc_61 rfl (tc28 _ (List.mem_of_getElem? (i := 19) rfl)) (tc28 _ (List.mem_of_getElem? (i := 20) rfl)) (tc28 _ (List.mem_of_getElem? (i := 21) rfl)) (tc1 _ (List.mem_of_getElem? (i := 5) rfl)) (tc28 _ (List.mem_of_getElem? (i := 22) rfl)) (by decide) rfl ⟨rfl, rfl, Nat.le_of_ble_eq_true rfl, Nat.le_of_ble_eq_true rfl⟩ ⟨Nat.le_of_ble_eq_true rfl, Nat.le_of_ble_eq_true rfl⟩ rfl (Nat.le_of_ble_eq_true rfl) rfl rfl rfl (dq dkX11_fires_0 15 rfl) ?_
  refine v_iadd F (dq dkX11_fires_0 16 rfl) ?_
  refine v_istore_n F (ls' := [(2, .int (r9.1 + r11.1)), (0, .ref (K.1 + 61)), (1, .int a1)]) (dq dkX11_fires_0 17 rfl) rfl (by decide) rfl ?_
  refine v_aload_n F (dq dkX11_fires_0 18 rfl) rfl 1 rfl ?_
  refine v_get F 61 (xnM (by decide)) xc_61 rfl inlX11 43 (by decide) (tc13 _ (List.mem_of_getElem? (i := 9) rfl)) rfl rfl (dq dkX11_fires_0 19 rfl) ?_
  refine v_iload_n F (dq dkX11_fires_0 20 rfl) rfl 2 rfl ?_
  refine v_dup2 F (dq dkX11_fires_0 21 rfl) rfl rfl ?_
  obtain ⟨g13, h⟩ := gd_of h
  refine v_iald F 85 (xnM (by decide)) xc_85 (ib_in g13) (dq dkX11_fires_0 22 rfl) ?_
  refine v_iload_n F (dq dkX11_fires_0 23 rfl) rfl 0 rfl ?_
  refine v_if_ge F (tgt := 43) (dq dkX11_fires_0 24 rfl) (by decide) (fun c14 => ?_) (fun c14 => ?_)
  · rw [if_pos c14] at h
    refine v_iload_n F (dq dkX11_fires_0 27 rfl) rfl 0 rfl ?_
    refine v_sub [1, 2] rfl ?_
    exact t_X11_fires_44 r11.2 a1 (r9.1 + r11.1) (gi r11.2 85 a1.toNatClampNeg) a1 h F E
  · rw [if_neg c14] at h
    refine v_iconst F (v := 0) (dq dkX11_fires_0 25 rfl) ki_0 ?_
    refine v_goto F (tgt := 44) (dq dkX11_fires_0 26 rfl) (by decide) ?_
    refine v_sub [1, 2] rfl ?_
    exact t_X11_fires_44 r11.2 a1 0 (gi r11.2 85 a1.toNatClampNeg) a1 h F E
def rm_X11_inch : Room := { frames := 4, cells := 0, slots := 0, locals := 102 }
def f_X11_inch_148 (k12 : MS → Int32 → Option (MS)) (y : MS) (a1 : Int32) (s0 : Int32) (s1 : Int32) : Option (MS) := k12 (pi y 61 45 (s1 ||| s0)) (a1 + 1)
set_option maxRecDepth 100000 in
set_option maxHeartbeats 4000000 in
theorem t_X11_inch_148 {C : Cx} {K : KE} {nn : Nat} {x : CS} {R : MS}  (k12 : MS → Int32 → Option (MS)) (y : MS) (a1 : Int32) (s0 : Int32) (s1 : Int32) (hk12 : ∀ (y : MS) (a1 : Int32), k12 y a1 = some R → V C 12 [(0, .ref (K.1 + 61)), (1, .int a1)] [] (xfM K nn x y) 0 0) (h : f_X11_inch_148 k12 y a1 s0 s1 = some R) (F : Fx C RX11 cX11_inch 5 rm_X11_inch K) (E : CE C (xfM K nn x R) none 0 0 none) : V C 148 [(0, .ref (K.1 + 61)), (1, .int a1)] [.int s0, .int s1, .ref (K.1 + 61)] (xfM K nn x y) 0 0 := by
  unfold f_X11_inch_148 at h
  refine v_ior F (dq dkX11_inch_2 18 rfl) ?_
  refine v_put F 61 (xnM (by decide)) xc_61 rfl inlX11 tyX11_ok nmX11 45 (by decide) (tc27 _ (List.mem_of_getElem? (i := 9) rfl)) rfl rfl (tyX11_ok 45 (by decide)) rfl rfl (Nat.le_of_ble_eq_true rfl) (dq dkX11_inch_2 19 rfl) ?_
  refine v_eqM (xwM (q := 61) (j := 45) (v := s1 ||| s0) (by decide) (by decide) rfl) ?_
  refine v_iinc F (v := a1 + 1) (ls' := [(1, .int (a1 + 1)), (0, .ref (K.1 + 61))]) (dq dkX11_inch_2 20 rfl) (j := 1) rfl (kv_add ki_1) (by decide) rfl ?_
  refine v_goto F (tgt := 12) (dq dkX11_inch_2 21 rfl) (by decide) ?_
  refine v_sub [1, 0] rfl ?_
  exact hk12 (pi y 61 45 (s1 ||| s0)) (a1 + 1) h
def f_X11_inch_62 (k12 : MS → Int32 → Option (MS)) (y : MS) (a1 : Int32) (a2 : Int32) (s0 : Int32) (s1 : Int32) (s2 : Int32) : Option (MS) := gd (ib s2 9) (gd (ib a1 9) (gd (ib a1 9) ((f_X11_knotOf (pi y 86 s2.toNatClampNeg (s1 + s0)) a1).bind fun r4 => (f_X11_says (pi y 86 s2.toNatClampNeg (s1 + s0)) 1 (gi (pi y 86 s2.toNatClampNeg (s1 + s0)) 85 a1.toNatClampNeg) (gi (pi y 86 s2.toNatClampNeg (s1 + s0)) 84 a1.toNatClampNeg) r4).bind fun r6 => gd (ib a1 9) (gd (ib a1 9) ((f_X11_knotOf r6.2 a1).bind fun r10 => (f_X11_says r6.2 2 (gi r6.2 85 a1.toNatClampNeg) (gi r6.2 84 a1.toNatClampNeg) r10).bind fun r12 => gd (ib (27 + a1) 54) (if (r6.1 * a2) ≤ (((r12.1 + (gi r12.2 62 (27 + a1).toNatClampNeg)) + (gi r12.2 61 47)) * 4) then (f_X11_inch_148 k12 r12.2 a1 0 (gi r12.2 61 45)) else (f_X11_inch_148 k12 r12.2 a1 (1 <<< (a1 &&& 31)) (gi r12.2 61 45))))))))
set_option maxRecDepth 100000 in
set_option maxHeartbeats 4000000 in
theorem t_X11_inch_62 {C : Cx} {K : KE} {nn : Nat} {x : CS} {R : MS}  (k12 : MS → Int32 → Option (MS)) (y : MS) (a1 : Int32) (a2 : Int32) (s0 : Int32) (s1 : Int32) (s2 : Int32) (hk12 : ∀ (y : MS) (a1 : Int32), k12 y a1 = some R → V C 12 [(0, .ref (K.1 + 61)), (1, .int a1)] [] (xfM K nn x y) 0 0) (h : f_X11_inch_62 k12 y a1 a2 s0 s1 s2 = some R) (F : Fx C RX11 cX11_inch 5 rm_X11_inch K) (E : CE C (xfM K nn x R) none 0 0 none) : V C 62 [(0, .ref (K.1 + 61)), (1, .int a1), (2, .int a2)] [.int s0, .int s1, .int s2, .ref (K.1 + 86)] (xfM K nn x y) 0 0 := by
  unfold f_X11_inch_62 at h
  refine v_iadd F (dq dkX11_inch_1 1 rfl) ?_
  obtain ⟨g1, h⟩ := gd_of h
  refine v_iast F 86 (xnM (by decide)) xc_86 (ib_in g1) (dq dkX11_inch_1 2 rfl) ?_
  refine v_eqM (xwM (q := 86) (j := s2.toNatClampNeg) (v := s1 + s0) (by decide) (by decide) rfl) ?_
  refine v_aload_n F (dq dkX11_inch_1 3 rfl) rfl 0 rfl ?_
  refine v_iconst F (v := 1) (dq dkX11_inch_1 4 rfl) ki_1 ?_
  refine v_aload_n F (dq dkX11_inch_1 5 rfl) rfl 0 rfl ?_
  refine v_get F 61 (xnM (by decide)) xc_61 rfl inlX11 43 (by decide) (tc13 _ (List.mem_of_getElem? (i := 9) rfl)) rfl rfl (dq dkX11_inch_1 6 rfl) ?_
  refine v_iload_n F (dq dkX11_inch_1 7 rfl) rfl 1 rfl ?_
  obtain ⟨g2, h⟩ := gd_of h
  refine v_iald F 85 (xnM (by decide)) xc_85 (ib_in g2) (dq dkX11_inch_1 8 rfl) ?_
  refine v_aload_n F (dq dkX11_inch_1 9 rfl) rfl 0 rfl ?_
  refine v_get F 61 (xnM (by decide)) xc_61 rfl inlX11 42 (by decide) (tc13 _ (List.mem_of_getElem? (i := 8) rfl)) rfl rfl (dq dkX11_inch_1 10 rfl) ?_
  refine v_iload_n F (dq dkX11_inch_1 11 rfl) rfl 1 rfl ?_
  obtain ⟨g3, h⟩ := gd_of h
  refine v_iald F 84 (xnM (by decide)) xc_84 (ib_in g3) (dq dkX11_inch_1 12 rfl) ?_
  refine v_aload_n F (dq dkX11_inch_1 13 rfl) rfl 0 rfl ?_
  refine v_iload_n F (dq dkX11_inch_1 14 rfl) rfl 1 rfl ?_
  obtain ⟨r4, e5, h⟩ := bd_of h
  refine v_callV 1 F (q := 61) (kc1 := 0) (ks1 := 0) (as := [.int a1]) (st := [.int (gi (pi y 86 s2.toNatClampNeg (s1 + s0)) 84 a1.toNatClampNeg), .int (gi (pi y 86 s2.toNatClampNeg (s1 + s0)) 85 a1.toNatClampNeg), .int 1, .ref (K.1 + 61)]) (st1 := (.int r4 :: [.int (gi (pi y 86 s2.toNatClampNeg (s1 + s0)) 84 a1.toNatClampNeg), .int (gi (pi y 86 s2.toNatClampNeg (s1 + s0)) 85 a1.toNatClampNeg), .int 1, .ref (K.1 + 61)])) (res := (some (.int r4))) (c_X11_knotOf (l := C.2.1) x (pi y 86 s2.toNatClampNeg (s1 + s0)) a1 e5) (xnM (by decide)) xc_61 rfl (tc28 _ (List.mem_of_getElem? (i := 15) rfl)) (tc28 _ (List.mem_of_getElem? (i := 16) rfl)) (tc28 _ (List.mem_of_getElem? (i := 17) rfl)) (tc1 _ (List.mem_of_getElem? (i := 5) rfl)) (tc28 _ (List.mem_of_getElem? (i := 18) rfl)) (by decide) rfl ⟨rfl, rfl, Nat.le_of_ble_eq_true rfl, Nat.le_of_ble_eq_true rfl⟩ ⟨Nat.le_of_ble_eq_true rfl, Nat.le_of_ble_eq_true rfl⟩ rfl (Nat.le_of_ble_eq_true rfl) rfl rfl rfl (dq dkX11_inch_1 15 rfl) ?_
  obtain ⟨r6, e7, h⟩ := bd_of h
  refine v_callV 4 F (q := 61) (kc1 := 0) (ks1 := 0) (as := [.int 1, .int (gi (pi y 86 s2.toNatClampNeg (s1 + s0)) 85 a1.toNatClampNeg), .int (gi (pi y 86 s2.toNatClampNeg (s1 + s0)) 84 a1.toNatClampNeg), .int r4]) (st := []) (st1 := (.int r6.1 :: [])) (res := (some (.int r6.1))) (c_X11_says (l := C.2.1) x (pi y 86 s2.toNatClampNeg (s1 + s0)) 1 (gi (pi y 86 s2.toNatClampNeg (s1 + s0)) 85 a1.toNatClampNeg) (gi (pi y 86 s2.toNatClampNeg (s1 + s0)) 84 a1.toNatClampNeg) r4 e7) (xnM (by decide)) xc_61 rfl (tc21 _ (List.mem_of_getElem? (i := 17) rfl)) (tc21 _ (List.mem_of_getElem? (i := 18) rfl)) (tc21 _ (List.mem_of_getElem? (i := 19) rfl)) (tc1 _ (List.mem_of_getElem? (i := 5) rfl)) (tc21 _ (List.mem_of_getElem? (i := 20) rfl)) (by decide) rfl ⟨rfl, rfl, Nat.le_of_ble_eq_true rfl, Nat.le_of_ble_eq_true rfl⟩ ⟨Nat.le_of_ble_eq_true rfl, Nat.le_of_ble_eq_true rfl⟩ rfl (Nat.le_of_ble_eq_true rfl) rfl rfl rfl (dq dkX11_inch_1 16 rfl) ?_
  refine v_istore_n F (ls' := [(3, .int r6.1), (0, .ref (K.1 + 61)), (1, .int a1), (2, .int a2)]) (dq dkX11_inch_1 17 rfl) rfl (by decide) rfl ?_
  refine v_aload_n F (dq dkX11_inch_1 18 rfl) rfl 1 rfl ?_
  refine v_iconst F (v := 2) (dq dkX11_inch_1 19 rfl) ki_2 ?_
  refine v_aload_n F (dq dkX11_inch_1 20 rfl) rfl 1 rfl ?_
  refine v_get F 61 (xnM (by decide)) xc_61 rfl inlX11 43 (by decide) (tc13 _ (List.mem_of_getElem? (i := 9) rfl)) rfl rfl (dq dkX11_inch_1 21 rfl) ?_
  refine v_iload_n F (dq dkX11_inch_1 22 rfl) rfl 2 rfl ?_
  obtain ⟨g8, h⟩ := gd_of h
  refine v_iald F 85 (xnM (by decide)) xc_85 (ib_in g8) (dq dkX11_inch_1 23 rfl) ?_
  refine v_aload_n F (dq dkX11_inch_1 24 rfl) rfl 1 rfl ?_
  refine v_get F 61 (xnM (by decide)) xc_61 rfl inlX11 42 (by decide) (tc13 _ (List.mem_of_getElem? (i := 8) rfl)) rfl rfl (dq dkX11_inch_1 25 rfl) ?_
  refine v_iload_n F (dq dkX11_inch_1 26 rfl) rfl 2 rfl ?_
  obtain ⟨g9, h⟩ := gd_of h
  refine v_iald F 84 (xnM (by decide)) xc_84 (ib_in g9) (dq dkX11_inch_1 27 rfl) ?_
  refine v_aload_n F (dq dkX11_inch_1 28 rfl) rfl 1 rfl ?_
  refine v_iload_n F (dq dkX11_inch_1 29 rfl) rfl 2 rfl ?_
  obtain ⟨r10, e11, h⟩ := bd_of h
  refine v_callV 1 F (q := 61) (kc1 := 0) (ks1 := 0) (as := [.int a1]) (st := [.int (gi r6.2 84 a1.toNatClampNeg), .int (gi r6.2 85 a1.toNatClampNeg), .int 2, .ref (K.1 + 61)]) (st1 := (.int r10 :: [.int (gi r6.2 84 a1.toNatClampNeg), .int (gi r6.2 85 a1.toNatClampNeg), .int 2, .ref (K.1 + 61)])) (res := (some (.int r10))) (c_X11_knotOf (l := C.2.1) x r6.2 a1 e11) (xnM (by decide)) xc_61 rfl (tc28 _ (List.mem_of_getElem? (i := 15) rfl)) (tc28 _ (List.mem_of_getElem? (i := 16) rfl)) (tc28 _ (List.mem_of_getElem? (i := 17) rfl)) (tc1 _ (List.mem_of_getElem? (i := 5) rfl)) (tc28 _ (List.mem_of_getElem? (i := 18) rfl)) (by decide) rfl ⟨rfl, rfl, Nat.le_of_ble_eq_true rfl, Nat.le_of_ble_eq_true rfl⟩ ⟨Nat.le_of_ble_eq_true rfl, Nat.le_of_ble_eq_true rfl⟩ rfl (Nat.le_of_ble_eq_true rfl) rfl rfl rfl (dq dkX11_inch_1 30 rfl) ?_
  obtain ⟨r12, e13, h⟩ := bd_of h
  refine v_callV 4 F (q := 61) (kc1 := 0) (ks1 := 0) (as := [.int 2, .int (gi r6.2 85 a1.toNatClampNeg), .int (gi r6.2 84 a1.toNatClampNeg), .int r10]) (st := []) (st1 := (.int r12.1 :: [])) (res := (some (.int r12.1))) (c_X11_says (l := C.2.1) x r6.2 2 (gi r6.2 85 a1.toNatClampNeg) (gi r6.2 84 a1.toNatClampNeg) r10 e13) (xnM (by decide)) xc_61 rfl (tc21 _ (List.mem_of_getElem? (i := 17) rfl)) (tc21 _ (List.mem_of_getElem? (i := 18) rfl)) (tc21 _ (List.mem_of_getElem? (i := 19) rfl)) (tc1 _ (List.mem_of_getElem? (i := 5) rfl)) (tc21 _ (List.mem_of_getElem? (i := 20) rfl)) (by decide) rfl ⟨rfl, rfl, Nat.le_of_ble_eq_true rfl, Nat.le_of_ble_eq_true rfl⟩ ⟨Nat.le_of_ble_eq_true rfl, Nat.le_of_ble_eq_true rfl⟩ rfl (Nat.le_of_ble_eq_true rfl) rfl rfl rfl (dq dkX11_inch_1 31 rfl) ?_
  refine v_istore F (ls' := [(4, .int r12.1), (3, .int r6.1), (0, .ref (K.1 + 61)), (1, .int a1), (2, .int a2)]) (dq dkX11_inch_1 32 rfl) (by decide) rfl ?_
  refine v_aload_n F (dq dkX11_inch_1 33 rfl) rfl 2 rfl ?_
  refine v_dup F (dq dkX11_inch_1 34 rfl) rfl ?_
  refine v_get F 61 (xnM (by decide)) xc_61 rfl inlX11 45 (by decide) (tc27 _ (List.mem_of_getElem? (i := 9) rfl)) rfl rfl (dq dkX11_inch_1 35 rfl) ?_
  refine v_iload_n F (dq dkX11_inch_1 36 rfl) rfl 1 rfl ?_
  refine v_iload_n F (dq dkX11_inch_1 37 rfl) rfl 4 rfl ?_
  refine v_imul F (dq dkX11_inch_1 38 rfl) ?_
  refine v_iload F (dq dkX11_inch_1 39 rfl) 0 rfl ?_
  refine v_aload_n F (dq dkX11_inch_2 0 rfl) rfl 2 rfl ?_
  refine v_get F 61 (xnM (by decide)) xc_61 rfl inlX11 0 (by decide) (tc11 _ (List.mem_of_getElem? (i := 17) rfl)) rfl rfl (dq dkX11_inch_2 1 rfl) ?_
  refine v_bipush F (v := 27) (dq dkX11_inch_2 2 rfl) kb_27 ?_
  refine v_iload_n F (dq dkX11_inch_2 3 rfl) rfl 3 rfl ?_
  refine v_iadd F (dq dkX11_inch_2 4 rfl) ?_
  obtain ⟨g14, h⟩ := gd_of h
  refine v_iald F 62 (xnM (by decide)) xc_62 (ib_in g14) (dq dkX11_inch_2 5 rfl) ?_
  refine v_iadd F (dq dkX11_inch_2 6 rfl) ?_
  refine v_aload_n F (dq dkX11_inch_2 7 rfl) rfl 2 rfl ?_
  refine v_get F 61 (xnM (by decide)) xc_61 rfl inlX11 47 (by decide) (tc29 _ (List.mem_of_getElem? (i := 8) rfl)) rfl rfl (dq dkX11_inch_2 8 rfl) ?_
  refine v_iadd F (dq dkX11_inch_2 9 rfl) ?_
  refine v_iconst F (v := 4) (dq dkX11_inch_2 10 rfl) ki_4 ?_
  refine v_imul F (dq dkX11_inch_2 11 rfl) ?_
  refine v_icmp_le F (tgt := 147) (dq dkX11_inch_2 12 rfl) (by decide) (fun c15 => ?_) (fun c15 => ?_)
  · rw [if_pos c15] at h
    refine v_iconst F (v := 0) (dq dkX11_inch_2 17 rfl) ki_0 ?_
    refine v_sub [2, 3] rfl ?_
    exact t_X11_inch_148 k12 r12.2 a1 0 (gi r12.2 61 45) hk12 h F E
  · rw [if_neg c15] at h
    refine v_iconst F (v := 1) (dq dkX11_inch_2 13 rfl) ki_1 ?_
    refine v_iload_n F (dq dkX11_inch_2 14 rfl) rfl 3 rfl ?_
    refine v_ishl F (dq dkX11_inch_2 15 rfl) ?_
    refine v_goto F (tgt := 148) (dq dkX11_inch_2 16 rfl) (by decide) ?_
    refine v_sub [2, 3] rfl ?_
    exact t_X11_inch_148 k12 r12.2 a1 (1 <<< (a1 &&& 31)) (gi r12.2 61 45) hk12 h F E
def f_X11_inch_61 (k12 : MS → Int32 → Option (MS)) (y : MS) (a1 : Int32) (a2 : Int32) (s0 : Int32) (s1 : Int32) : Option (MS) := f_X11_inch_62 k12 y a1 a2 0 s0 s1
set_option maxRecDepth 100000 in
set_option maxHeartbeats 4000000 in
theorem t_X11_inch_61 {C : Cx} {K : KE} {nn : Nat} {x : CS} {R : MS}  (k12 : MS → Int32 → Option (MS)) (y : MS) (a1 : Int32) (a2 : Int32) (s0 : Int32) (s1 : Int32) (hk12 : ∀ (y : MS) (a1 : Int32), k12 y a1 = some R → V C 12 [(0, .ref (K.1 + 61)), (1, .int a1)] [] (xfM K nn x y) 0 0) (h : f_X11_inch_61 k12 y a1 a2 s0 s1 = some R) (F : Fx C RX11 cX11_inch 5 rm_X11_inch K) (E : CE C (xfM K nn x R) none 0 0 none) : V C 61 [(0, .ref (K.1 + 61)), (1, .int a1), (2, .int a2)] [.int s0, .int s1, .ref (K.1 + 86)] (xfM K nn x y) 0 0 := by
  unfold f_X11_inch_61 at h
  refine v_iconst F (v := 0) (dq dkX11_inch_1 0 rfl) ki_0 ?_
  exact t_X11_inch_62 k12 y a1 a2 0 s0 s1 hk12 h F E
def f_X11_inch_12 : Nat → MS → Int32 → Option (MS)
  | 0, _, _ => none
  | n + 1, y, a1 => if 9 ≤ a1 then (some y) else (gd (ib a1 9) (gd (ib a1 9) (gd (ib a1 9) (if (4 - (f_X11_size (a1 - 4))) = 0 then (if ((gi (pi y 84 a1.toNatClampNeg ((gi y 84 a1.toNatClampNeg) + (4 - (f_X11_size (a1 - 4))))) 61 46) - (gi (pi y 84 a1.toNatClampNeg ((gi y 84 a1.toNatClampNeg) + (4 - (f_X11_size (a1 - 4))))) 61 46) / 2 * 2) = 0 then (f_X11_inch_62 (f_X11_inch_12 n) (pi y 84 a1.toNatClampNeg ((gi y 84 a1.toNatClampNeg) + (4 - (f_X11_size (a1 - 4))))) a1 (4 - (f_X11_size (a1 - 4))) 1 (gi (pi y 84 a1.toNatClampNeg ((gi y 84 a1.toNatClampNeg) + (4 - (f_X11_size (a1 - 4))))) 86 a1.toNatClampNeg) a1) else (f_X11_inch_61 (f_X11_inch_12 n) (pi y 84 a1.toNatClampNeg ((gi y 84 a1.toNatClampNeg) + (4 - (f_X11_size (a1 - 4))))) a1 (4 - (f_X11_size (a1 - 4))) (gi (pi y 84 a1.toNatClampNeg ((gi y 84 a1.toNatClampNeg) + (4 - (f_X11_size (a1 - 4))))) 86 a1.toNatClampNeg) a1)) else (f_X11_inch_61 (f_X11_inch_12 n) (pi y 84 a1.toNatClampNeg ((gi y 84 a1.toNatClampNeg) + (4 - (f_X11_size (a1 - 4))))) a1 (4 - (f_X11_size (a1 - 4))) (gi (pi y 84 a1.toNatClampNeg ((gi y 84 a1.toNatClampNeg) + (4 - (f_X11_size (a1 - 4))))) 86 a1.toNatClampNeg) a1)))))
set_option maxRecDepth 100000 in
set_option maxHeartbeats 4000000 in
theorem t_X11_inch_12 {C : Cx} {K : KE} {nn : Nat} {x : CS} {R : MS}  (F : Fx C RX11 cX11_inch 5 rm_X11_inch K) (E : CE C (xfM K nn x R) none 0 0 none) : ∀ (n : Nat) (y : MS) (a1 : Int32) (h : f_X11_inch_12 n y a1 = some R), V C 12 [(0, .ref (K.1 + 61)), (1, .int a1)] [] (xfM K nn x y) 0 0 := by
  intro n
  induction n with
  | zero => intro y a1 h; cases h
  | succ n ih =>
    intro y a1 h
    rw [f_X11_inch_12] at h
    refine v_iload_n F (dq dkX11_inch_0 8 rfl) rfl 1 rfl ?_
    refine v_bipush F (v := 9) (dq dkX11_inch_0 9 rfl) kb_9 ?_
    refine v_icmp_ge F (tgt := 158) (dq dkX11_inch_0 10 rfl) (by decide) (fun c16 => ?_) (fun c16 => ?_)
    · rw [if_pos c16] at h
      have h := Option.some.inj h
      subst h
      exact v_vret F E (dq dkX11_inch_2 22 rfl)
    · rw [if_neg c16] at h
      refine v_iconst F (v := 4) (dq dkX11_inch_0 11 rfl) ki_4 ?_
      refine v_iload_n F (dq dkX11_inch_0 12 rfl) rfl 1 rfl ?_
      refine v_iconst F (v := 4) (dq dkX11_inch_0 13 rfl) ki_4 ?_
      refine v_isub F (dq dkX11_inch_0 14 rfl) ?_
      refine v_callS 1 F (kc1 := 0) (ks1 := 0) (as := [.int (a1 - 4)]) (st := [.int 4]) (st1 := (.int (f_X11_size (a1 - 4)) :: [.int 4])) (res := (some (.int (f_X11_size (a1 - 4))))) (c_X11_size (l := C.2.1) (a1 - 4)) (tc29 _ (List.mem_of_getElem? (i := 9) rfl)) (tc29 _ (List.mem_of_getElem? (i := 10) rfl)) (tc1 _ (List.mem_of_getElem? (i := 5) rfl)) (tc29 _ (List.mem_of_getElem? (i := 11) rfl)) (by decide) rfl ⟨rfl, rfl, Nat.le_of_ble_eq_true rfl, Nat.le_of_ble_eq_true rfl⟩ ⟨Nat.le_of_ble_eq_true rfl, Nat.le_of_ble_eq_true rfl⟩ rfl (Nat.le_of_ble_eq_true rfl) rfl rfl rfl (dq dkX11_inch_0 15 rfl) ?_
      refine v_isub F (dq dkX11_inch_0 16 rfl) ?_
      refine v_istore_n F (ls' := [(2, .int (4 - (f_X11_size (a1 - 4)))), (0, .ref (K.1 + 61)), (1, .int a1)]) (dq dkX11_inch_0 17 rfl) rfl (by decide) rfl ?_
      refine v_aload_n F (dq dkX11_inch_0 18 rfl) rfl 1 rfl ?_
      refine v_get F 61 (xnM (by decide)) xc_61 rfl inlX11 42 (by decide) (tc13 _ (List.mem_of_getElem? (i := 8) rfl)) rfl rfl (dq dkX11_inch_0 19 rfl) ?_
      refine v_iload_n F (dq dkX11_inch_0 20 rfl) rfl 2 rfl ?_
      refine v_dup2 F (dq dkX11_inch_0 21 rfl) rfl rfl ?_
      obtain ⟨g18, h⟩ := gd_of h
      refine v_iald F 84 (xnM (by decide)) xc_84 (ib_in g18) (dq dkX11_inch_0 22 rfl) ?_
      refine v_iload_n F (dq dkX11_inch_0 23 rfl) rfl 0 rfl ?_
      refine v_iadd F (dq dkX11_inch_0 24 rfl) ?_
      obtain ⟨g19, h⟩ := gd_of h
      refine v_iast F 84 (xnM (by decide)) xc_84 (ib_in g19) (dq dkX11_inch_0 25 rfl) ?_
      refine v_eqM (xwM (q := 84) (j := a1.toNatClampNeg) (v := (gi y 84 a1.toNatClampNeg) + (4 - (f_X11_size (a1 - 4)))) (by decide) (by decide) rfl) ?_
      refine v_aload_n F (dq dkX11_inch_0 26 rfl) rfl 1 rfl ?_
      refine v_get F 61 (xnM (by decide)) xc_61 rfl inlX11 44 (by decide) (tc13 _ (List.mem_of_getElem? (i := 10) rfl)) rfl rfl (dq dkX11_inch_0 27 rfl) ?_
      refine v_iload_n F (dq dkX11_inch_0 28 rfl) rfl 2 rfl ?_
      refine v_dup2 F (dq dkX11_inch_0 29 rfl) rfl rfl ?_
      obtain ⟨g20, h⟩ := gd_of h
      refine v_iald F 86 (xnM (by decide)) xc_86 (ib_in g20) (dq dkX11_inch_0 30 rfl) ?_
      refine v_iload_n F (dq dkX11_inch_0 31 rfl) rfl 0 rfl ?_
      refine v_if_ne F (tgt := 61) (dq dkX11_inch_0 32 rfl) (by decide) (fun c21 => ?_) (fun c21 => ?_)
      · rw [if_neg c21] at h
        refine v_sub [1, 2, 0] rfl ?_
        exact t_X11_inch_61 (f_X11_inch_12 n) (pi y 84 a1.toNatClampNeg ((gi y 84 a1.toNatClampNeg) + (4 - (f_X11_size (a1 - 4))))) a1 (4 - (f_X11_size (a1 - 4))) (gi (pi y 84 a1.toNatClampNeg ((gi y 84 a1.toNatClampNeg) + (4 - (f_X11_size (a1 - 4))))) 86 a1.toNatClampNeg) a1 ih h F E
      · rw [if_pos c21] at h
        refine v_aload_n F (dq dkX11_inch_0 33 rfl) rfl 1 rfl ?_
        refine v_get F 61 (xnM (by decide)) xc_61 rfl inlX11 46 (by decide) (tc27 _ (List.mem_of_getElem? (i := 22) rfl)) rfl rfl (dq dkX11_inch_0 34 rfl) ?_
        refine v_iconst F (v := 2) (dq dkX11_inch_0 35 rfl) ki_2 ?_
        refine v_irem F (dq dkX11_inch_0 36 rfl) (by decide) ?_
        refine v_if_ne F (tgt := 61) (dq dkX11_inch_0 37 rfl) (by decide) (fun c22 => ?_) (fun c22 => ?_)
        · rw [if_neg c22] at h
          refine v_sub [1, 2, 0] rfl ?_
          exact t_X11_inch_61 (f_X11_inch_12 n) (pi y 84 a1.toNatClampNeg ((gi y 84 a1.toNatClampNeg) + (4 - (f_X11_size (a1 - 4))))) a1 (4 - (f_X11_size (a1 - 4))) (gi (pi y 84 a1.toNatClampNeg ((gi y 84 a1.toNatClampNeg) + (4 - (f_X11_size (a1 - 4))))) 86 a1.toNatClampNeg) a1 ih h F E
        · rw [if_pos c22] at h
          refine v_iconst F (v := 1) (dq dkX11_inch_0 38 rfl) ki_1 ?_
          refine v_goto F (tgt := 62) (dq dkX11_inch_0 39 rfl) (by decide) ?_
          refine v_sub [1, 2, 0] rfl ?_
          exact t_X11_inch_62 (f_X11_inch_12 n) (pi y 84 a1.toNatClampNeg ((gi y 84 a1.toNatClampNeg) + (4 - (f_X11_size (a1 - 4))))) a1 (4 - (f_X11_size (a1 - 4))) 1 (gi (pi y 84 a1.toNatClampNeg ((gi y 84 a1.toNatClampNeg) + (4 - (f_X11_size (a1 - 4))))) 86 a1.toNatClampNeg) a1 ih h F E
def f_X11_inch (y : MS) : Option (MS) := f_X11_inch_12 1000 (pi y 61 46 ((gi y 61 46) + 1)) 0
set_option maxRecDepth 100000 in
set_option maxHeartbeats 4000000 in
theorem c_X11_inch {K : KE} {l : Launch} {R : MS} {nn : Nat} (x : CS) (y : MS) (h : f_X11_inch y = some R) : MC K l yX11_inch cX11_inch 5 none rm_X11_inch 0 0 [.ref (K.1 + 61)] (xfM K nn x y) (xfM K nn x R) none := by
  unfold f_X11_inch at h
  refine mc_of (ls0 := [(0, .ref (K.1 + 61))]) (by decide) (Nat.le_of_ble_eq_true rfl) rfl (fun C hl hnm F E => ?_)
  have F : Fx C RX11 cX11_inch 5 rm_X11_inch K := F
  refine v_aload_n F (dq dkX11_inch_0 0 rfl) rfl 0 rfl ?_
  refine v_dup F (dq dkX11_inch_0 1 rfl) rfl ?_
  refine v_get F 61 (xnM (by decide)) xc_61 rfl inlX11 46 (by decide) (tc27 _ (List.mem_of_getElem? (i := 22) rfl)) rfl rfl (dq dkX11_inch_0 2 rfl) ?_
  refine v_iconst F (v := 1) (dq dkX11_inch_0 3 rfl) ki_1 ?_
  refine v_iadd F (dq dkX11_inch_0 4 rfl) ?_
  refine v_put F 61 (xnM (by decide)) xc_61 rfl inlX11 tyX11_ok nmX11 46 (by decide) (tc27 _ (List.mem_of_getElem? (i := 22) rfl)) rfl rfl (tyX11_ok 46 (by decide)) rfl rfl (Nat.le_of_ble_eq_true rfl) (dq dkX11_inch_0 5 rfl) ?_
  refine v_eqM (xwM (q := 61) (j := 46) (v := (gi y 61 46) + 1) (by decide) (by decide) rfl) ?_
  refine v_iconst F (v := 0) (dq dkX11_inch_0 6 rfl) ki_0 ?_
  refine v_istore_n F (ls' := [(1, .int 0), (0, .ref (K.1 + 61))]) (dq dkX11_inch_0 7 rfl) rfl (by decide) rfl ?_
  refine v_sub [1, 0] rfl ?_
  exact t_X11_inch_12 F E 1000 (pi y 61 46 ((gi y 61 46) + 1)) 0 h
def rm_X11_isAt : Room := { frames := 1, cells := 0, slots := 0, locals := 30 }
def f_X11_isAt_21 (y : MS) : Option (Bool) := some true
set_option maxRecDepth 100000 in
set_option maxHeartbeats 4000000 in
theorem t_X11_isAt_21 {C : Cx} {K : KE} {nn : Nat} {x : CS} {R : Bool}  (y : MS) (h : f_X11_isAt_21 y = some R) (F : Fx C RX11 cX11_isAt 3 rm_X11_isAt K) (E : CE C (xfM K nn x y) (some (.int (b2i R))) 0 0 (some .boolean)) : V C 21 [] [] (xfM K nn x y) 0 0 := by
  unfold f_X11_isAt_21 at h
  refine v_iconst F (v := 1) (dq dkX11_isAt_0 12 rfl) ki_1 ?_
  refine v_goto F (tgt := 26) (dq dkX11_isAt_0 13 rfl) (by decide) ?_
  have h := Option.some.inj h
  subst h
  exact v_zret F E (b2i_n true) (dq dkX11_isAt_0 15 rfl)
def f_X11_isAt (y : MS) (a1 : Int32) (a2 : Int32) : Option (Bool) := gd (ib a1 10) (if (gi y 64 a1.toNatClampNeg) = 9 then (f_X11_isAt_21 y) else (gd (ib a1 10) (if (gi y 64 a1.toNatClampNeg) = a2 then (f_X11_isAt_21 y) else (some false))))
set_option maxRecDepth 100000 in
set_option maxHeartbeats 4000000 in
theorem c_X11_isAt {K : KE} {l : Launch} {R : Bool} {nn : Nat} (x : CS) (y : MS) (a1 : Int32) (a2 : Int32) (h : f_X11_isAt y a1 a2 = some R) : MC K l yX11_isAt cX11_isAt 3 (some .boolean) rm_X11_isAt 0 0 [.ref (K.1 + 61), .int a1, .int a2] (xfM K nn x y) (xfM K nn x y) (some (.int (b2i R))) := by
  unfold f_X11_isAt at h
  refine mc_of (ls0 := [(0, .ref (K.1 + 61)), (1, .int a1), (2, .int a2)]) (by decide) (Nat.le_of_ble_eq_true rfl) rfl (fun C hl hnm F E => ?_)
  have F : Fx C RX11 cX11_isAt 3 rm_X11_isAt K := F
  refine v_aload_n F (dq dkX11_isAt_0 0 rfl) rfl 0 rfl ?_
  refine v_get F 61 (xnM (by decide)) xc_61 rfl inlX11 8 (by decide) (tc11 _ (List.mem_of_getElem? (i := 22) rfl)) rfl rfl (dq dkX11_isAt_0 1 rfl) ?_
  refine v_iload_n F (dq dkX11_isAt_0 2 rfl) rfl 1 rfl ?_
  obtain ⟨g1, h⟩ := gd_of h
  refine v_iald F 64 (xnM (by decide)) xc_64 (ib_in g1) (dq dkX11_isAt_0 3 rfl) ?_
  refine v_bipush F (v := 9) (dq dkX11_isAt_0 4 rfl) kb_9 ?_
  refine v_icmp_eq F (tgt := 21) (dq dkX11_isAt_0 5 rfl) (by decide) (fun c2 => ?_) (fun c2 => ?_)
  · rw [if_pos c2] at h
    refine v_sub [] rfl ?_
    exact t_X11_isAt_21 y h F E
  · rw [if_neg c2] at h
    refine v_aload_n F (dq dkX11_isAt_0 6 rfl) rfl 0 rfl ?_
    refine v_get F 61 (xnM (by decide)) xc_61 rfl inlX11 8 (by decide) (tc11 _ (List.mem_of_getElem? (i := 22) rfl)) rfl rfl (dq dkX11_isAt_0 7 rfl) ?_
    refine v_iload_n F (dq dkX11_isAt_0 8 rfl) rfl 1 rfl ?_
    obtain ⟨g3, h⟩ := gd_of h
    refine v_iald F 64 (xnM (by decide)) xc_64 (ib_in g3) (dq dkX11_isAt_0 9 rfl) ?_
    refine v_iload_n F (dq dkX11_isAt_0 10 rfl) rfl 2 rfl ?_
    refine v_icmp_ne F (tgt := 25) (dq dkX11_isAt_0 11 rfl) (by decide) (fun c4 => ?_) (fun c4 => ?_)
    · rw [if_neg c4] at h
      refine v_iconst F (v := 0) (dq dkX11_isAt_0 14 rfl) ki_0 ?_
      have h := Option.some.inj h
      subst h
      exact v_zret F E (b2i_n false) (dq dkX11_isAt_0 15 rfl)
    · rw [if_pos c4] at h
      refine v_sub [] rfl ?_
      exact t_X11_isAt_21 y h F E
def rm_X11_chars : Room := { frames := 5, cells := 0, slots := 0, locals := 124 }
def f_X11_chars_76 (k2 : MS → Int32 → Int32 → Option (MS)) (y : MS) (a1 : Int32) (a2 : Int32) : Option (MS) := k2 y a1 (a2 + 1)
set_option maxRecDepth 100000 in
set_option maxHeartbeats 4000000 in
theorem t_X11_chars_76 {C : Cx} {K : KE} {nn : Nat} {x : CS} {R : MS}  (k2 : MS → Int32 → Int32 → Option (MS)) (y : MS) (a1 : Int32) (a2 : Int32) (hk2 : ∀ (y : MS) (a1 : Int32) (a2 : Int32), k2 y a1 a2 = some R → V C 2 [(0, .ref (K.1 + 61)), (1, .int a1), (2, .int a2)] [] (xfM K nn x y) 0 0) (h : f_X11_chars_76 k2 y a1 a2 = some R) (F : Fx C RX11 cX11_chars 5 rm_X11_chars K) (E : CE C (xfM K nn x R) none 0 0 none) : V C 76 [(0, .ref (K.1 + 61)), (1, .int a1), (2, .int a2)] [] (xfM K nn x y) 0 0 := by
  unfold f_X11_chars_76 at h
  refine v_iinc F (v := a2 + 1) (ls' := [(2, .int (a2 + 1)), (0, .ref (K.1 + 61)), (1, .int a1)]) (dq dkX11_chars_1 4 rfl) (j := 2) rfl (kv_add ki_1) (by decide) rfl ?_
  refine v_goto F (tgt := 2) (dq dkX11_chars_1 5 rfl) (by decide) ?_
  refine v_sub [1, 2, 0] rfl ?_
  exact hk2 y a1 (a2 + 1) h
def f_X11_chars_35 (k2 : MS → Int32 → Int32 → Option (MS)) : Nat → MS → Int32 → Int32 → Int32 → Int32 → Option (MS)
  | 0, _, _, _, _, _ => none
  | n + 1, y, a1, a2, a3, a4 => gd (ib a1 10) (if (gi y 65 a1.toNatClampNeg) ≤ a4 then (f_X11_chars_76 k2 y a1 a2) else ((f_X11_isAt y a1 a2).bind fun r3 => if (b2i r3) = 0 then (f_X11_chars_76 k2 y a1 a2) else (gd (ib a2 9) (if (gi y 85 a2.toNatClampNeg) ≤ a3 then (f_X11_chars_76 k2 y a1 a2) else ((f_X11_fires y a2).bind fun r8 => (f_X11_chars_35 k2 n) r8 a1 a2 a3 (a4 + 1))))))
set_option maxRecDepth 100000 in
set_option maxHeartbeats 4000000 in
theorem t_X11_chars_35 {C : Cx} {K : KE} {nn : Nat} {x : CS} {R : MS}  (k2 : MS → Int32 → Int32 → Option (MS)) (hk2 : ∀ (y : MS) (a1 : Int32) (a2 : Int32), k2 y a1 a2 = some R → V C 2 [(0, .ref (K.1 + 61)), (1, .int a1), (2, .int a2)] [] (xfM K nn x y) 0 0) (F : Fx C RX11 cX11_chars 5 rm_X11_chars K) (E : CE C (xfM K nn x R) none 0 0 none) : ∀ (n : Nat) (y : MS) (a1 : Int32) (a2 : Int32) (a3 : Int32) (a4 : Int32) (h : f_X11_chars_35 k2 n y a1 a2 a3 a4 = some R), V C 35 [(0, .ref (K.1 + 61)), (1, .int a1), (2, .int a2), (3, .int a3), (4, .int a4)] [] (xfM K nn x y) 0 0 := by
  intro n
  induction n with
  | zero => intro y a1 a2 a3 a4 h; cases h
  | succ n ih =>
    intro y a1 a2 a3 a4 h
    rw [f_X11_chars_35] at h
    refine v_iload F (dq dkX11_chars_0 22 rfl) 4 rfl ?_
    refine v_aload_n F (dq dkX11_chars_0 23 rfl) rfl 0 rfl ?_
    refine v_get F 61 (xnM (by decide)) xc_61 rfl inlX11 9 (by decide) (tc11 _ (List.mem_of_getElem? (i := 23) rfl)) rfl rfl (dq dkX11_chars_0 24 rfl) ?_
    refine v_iload_n F (dq dkX11_chars_0 25 rfl) rfl 1 rfl ?_
    obtain ⟨g1, h⟩ := gd_of h
    refine v_iald F 65 (xnM (by decide)) xc_65 (ib_in g1) (dq dkX11_chars_0 26 rfl) ?_
    refine v_icmp_ge F (tgt := 76) (dq dkX11_chars_0 27 rfl) (by decide) (fun c2 => ?_) (fun c2 => ?_)
    · rw [if_pos c2] at h
      refine v_sub [0, 1, 2] rfl ?_
      exact t_X11_chars_76 k2 y a1 a2 hk2 h F E
    · rw [if_neg c2] at h
      refine v_aload_n F (dq dkX11_chars_0 28 rfl) rfl 0 rfl ?_
      refine v_iload_n F (dq dkX11_chars_0 29 rfl) rfl 1 rfl ?_
      refine v_iload_n F (dq dkX11_chars_0 30 rfl) rfl 2 rfl ?_
      obtain ⟨r3, e4, h⟩ := bd_of h
      refine v_callV 2 F (q := 61) (kc1 := 0) (ks1 := 0) (as := [.int a1, .int a2]) (st := []) (st1 := (.int (b2i r3) :: [])) (res := (some (.int (b2i r3)))) (c_X11_isAt (l := C.2.1) x y a1 a2 e4) (xnM (by decide)) xc_61 rfl (tc28 _ (List.mem_of_getElem? (i := 7) rfl)) (tc28 _ (List.mem_of_getElem? (i := 8) rfl)) (tc28 _ (List.mem_of_getElem? (i := 9) rfl)) (tc1 _ (List.mem_of_getElem? (i := 5) rfl)) (tc28 _ (List.mem_of_getElem? (i := 10) rfl)) (by decide) rfl ⟨rfl, rfl, Nat.le_of_ble_eq_true rfl, Nat.le_of_ble_eq_true rfl⟩ ⟨Nat.le_of_ble_eq_true rfl, Nat.le_of_ble_eq_true rfl⟩ rfl (Nat.le_of_ble_eq_true rfl) rfl rfl rfl (dq dkX11_chars_0 31 rfl) ?_
      refine v_if_eq F (tgt := 76) (dq dkX11_chars_0 32 rfl) (by decide) (fun c5 => ?_) (fun c5 => ?_)
      · rw [if_pos c5] at h
        refine v_sub [0, 1, 2] rfl ?_
        exact t_X11_chars_76 k2 y a1 a2 hk2 h F E
      · rw [if_neg c5] at h
        refine v_aload_n F (dq dkX11_chars_0 33 rfl) rfl 0 rfl ?_
        refine v_get F 61 (xnM (by decide)) xc_61 rfl inlX11 43 (by decide) (tc13 _ (List.mem_of_getElem? (i := 9) rfl)) rfl rfl (dq dkX11_chars_0 34 rfl) ?_
        refine v_iload_n F (dq dkX11_chars_0 35 rfl) rfl 2 rfl ?_
        obtain ⟨g6, h⟩ := gd_of h
        refine v_iald F 85 (xnM (by decide)) xc_85 (ib_in g6) (dq dkX11_chars_0 36 rfl) ?_
        refine v_iload_n F (dq dkX11_chars_0 37 rfl) rfl 3 rfl ?_
        refine v_icmp_le F (tgt := 76) (dq dkX11_chars_0 38 rfl) (by decide) (fun c7 => ?_) (fun c7 => ?_)
        · rw [if_pos c7] at h
          refine v_sub [0, 1, 2] rfl ?_
          exact t_X11_chars_76 k2 y a1 a2 hk2 h F E
        · rw [if_neg c7] at h
          refine v_aload_n F (dq dkX11_chars_0 39 rfl) rfl 0 rfl ?_
          refine v_iload_n F (dq dkX11_chars_1 0 rfl) rfl 2 rfl ?_
          obtain ⟨r8, e9, h⟩ := bd_of h
          refine v_callV 1 F (q := 61) (kc1 := 0) (ks1 := 0) (as := [.int a2]) (st := []) (st1 := []) (res := none) (c_X11_fires (l := C.2.1) x y a2 e9) (xnM (by decide)) xc_61 rfl (tc28 _ (List.mem_of_getElem? (i := 11) rfl)) (tc28 _ (List.mem_of_getElem? (i := 12) rfl)) (tc28 _ (List.mem_of_getElem? (i := 13) rfl)) (tc1 _ (List.mem_of_getElem? (i := 5) rfl)) (tc28 _ (List.mem_of_getElem? (i := 14) rfl)) (by decide) rfl ⟨rfl, rfl, Nat.le_of_ble_eq_true rfl, Nat.le_of_ble_eq_true rfl⟩ ⟨Nat.le_of_ble_eq_true rfl, Nat.le_of_ble_eq_true rfl⟩ rfl (Nat.le_of_ble_eq_true rfl) rfl rfl rfl (dq dkX11_chars_1 1 rfl) ?_
          refine v_iinc F (v := a4 + 1) (ls' := [(4, .int (a4 + 1)), (0, .ref (K.1 + 61)), (1, .int a1), (2, .int a2), (3, .int a3)]) (dq dkX11_chars_1 2 rfl) (j := 4) rfl (kv_add ki_1) (by decide) rfl ?_
          refine v_goto F (tgt := 35) (dq dkX11_chars_1 3 rfl) (by decide) ?_
          refine v_sub [1, 2, 3, 4, 0] rfl ?_
          exact ih r8 a1 a2 a3 (a4 + 1) h
def f_X11_chars_31 (k2 : MS → Int32 → Int32 → Option (MS)) (y : MS) (a1 : Int32) (a2 : Int32) (s0 : Int32) : Option (MS) := f_X11_chars_35 k2 1000 y a1 a2 s0 0
set_option maxRecDepth 100000 in
set_option maxHeartbeats 4000000 in
theorem t_X11_chars_31 {C : Cx} {K : KE} {nn : Nat} {x : CS} {R : MS}  (k2 : MS → Int32 → Int32 → Option (MS)) (y : MS) (a1 : Int32) (a2 : Int32) (s0 : Int32) (hk2 : ∀ (y : MS) (a1 : Int32) (a2 : Int32), k2 y a1 a2 = some R → V C 2 [(0, .ref (K.1 + 61)), (1, .int a1), (2, .int a2)] [] (xfM K nn x y) 0 0) (h : f_X11_chars_31 k2 y a1 a2 s0 = some R) (F : Fx C RX11 cX11_chars 5 rm_X11_chars K) (E : CE C (xfM K nn x R) none 0 0 none) : V C 31 [(0, .ref (K.1 + 61)), (1, .int a1), (2, .int a2)] [.int s0] (xfM K nn x y) 0 0 := by
  unfold f_X11_chars_31 at h
  refine v_istore_n F (ls' := [(3, .int s0), (0, .ref (K.1 + 61)), (1, .int a1), (2, .int a2)]) (dq dkX11_chars_0 19 rfl) rfl (by decide) rfl ?_
  refine v_iconst F (v := 0) (dq dkX11_chars_0 20 rfl) ki_0 ?_
  refine v_istore F (ls' := [(4, .int 0), (3, .int s0), (0, .ref (K.1 + 61)), (1, .int a1), (2, .int a2)]) (dq dkX11_chars_0 21 rfl) (by decide) rfl ?_
  refine v_sub [2, 3, 4, 1, 0] rfl ?_
  exact t_X11_chars_35 k2 hk2 F E 1000 y a1 a2 s0 0 h
def f_X11_chars_2 : Nat → MS → Int32 → Int32 → Option (MS)
  | 0, _, _, _ => none
  | n + 1, y, a1, a2 => if 9 ≤ a2 then (some y) else (gd (ib a1 10) (if (gi y 63 a1.toNatClampNeg) = 2 then (gd (ib (45 + a2) 54) (f_X11_chars_31 (f_X11_chars_2 n) y a1 a2 (gi y 62 (45 + a2).toNatClampNeg))) else (f_X11_chars_31 (f_X11_chars_2 n) y a1 a2 0)))
set_option maxRecDepth 100000 in
set_option maxHeartbeats 4000000 in
theorem t_X11_chars_2 {C : Cx} {K : KE} {nn : Nat} {x : CS} {R : MS}  (F : Fx C RX11 cX11_chars 5 rm_X11_chars K) (E : CE C (xfM K nn x R) none 0 0 none) : ∀ (n : Nat) (y : MS) (a1 : Int32) (a2 : Int32) (h : f_X11_chars_2 n y a1 a2 = some R), V C 2 [(0, .ref (K.1 + 61)), (1, .int a1), (2, .int a2)] [] (xfM K nn x y) 0 0 := by
  intro n
  induction n with
  | zero => intro y a1 a2 h; cases h
  | succ n ih =>
    intro y a1 a2 h
    rw [f_X11_chars_2] at h
    refine v_iload_n F (dq dkX11_chars_0 2 rfl) rfl 2 rfl ?_
    refine v_bipush F (v := 9) (dq dkX11_chars_0 3 rfl) kb_9 ?_
    refine v_icmp_ge F (tgt := 82) (dq dkX11_chars_0 4 rfl) (by decide) (fun c10 => ?_) (fun c10 => ?_)
    · rw [if_pos c10] at h
      have h := Option.some.inj h
      subst h
      exact v_vret F E (dq dkX11_chars_1 6 rfl)
    · rw [if_neg c10] at h
      refine v_aload_n F (dq dkX11_chars_0 5 rfl) rfl 0 rfl ?_
      refine v_get F 61 (xnM (by decide)) xc_61 rfl inlX11 7 (by decide) (tc11 _ (List.mem_of_getElem? (i := 21) rfl)) rfl rfl (dq dkX11_chars_0 6 rfl) ?_
      refine v_iload_n F (dq dkX11_chars_0 7 rfl) rfl 1 rfl ?_
      obtain ⟨g11, h⟩ := gd_of h
      refine v_iald F 63 (xnM (by decide)) xc_63 (ib_in g11) (dq dkX11_chars_0 8 rfl) ?_
      refine v_iconst F (v := 2) (dq dkX11_chars_0 9 rfl) ki_2 ?_
      refine v_icmp_ne F (tgt := 30) (dq dkX11_chars_0 10 rfl) (by decide) (fun c12 => ?_) (fun c12 => ?_)
      · rw [if_neg c12] at h
        refine v_iconst F (v := 0) (dq dkX11_chars_0 18 rfl) ki_0 ?_
        exact t_X11_chars_31 (f_X11_chars_2 n) y a1 a2 0 ih h F E
      · rw [if_pos c12] at h
        refine v_aload_n F (dq dkX11_chars_0 11 rfl) rfl 0 rfl ?_
        refine v_get F 61 (xnM (by decide)) xc_61 rfl inlX11 0 (by decide) (tc11 _ (List.mem_of_getElem? (i := 17) rfl)) rfl rfl (dq dkX11_chars_0 12 rfl) ?_
        refine v_bipush F (v := 45) (dq dkX11_chars_0 13 rfl) kb_45 ?_
        refine v_iload_n F (dq dkX11_chars_0 14 rfl) rfl 2 rfl ?_
        refine v_iadd F (dq dkX11_chars_0 15 rfl) ?_
        obtain ⟨g13, h⟩ := gd_of h
        refine v_iald F 62 (xnM (by decide)) xc_62 (ib_in g13) (dq dkX11_chars_0 16 rfl) ?_
        refine v_goto F (tgt := 31) (dq dkX11_chars_0 17 rfl) (by decide) ?_
        exact t_X11_chars_31 (f_X11_chars_2 n) y a1 a2 (gi y 62 (45 + a2).toNatClampNeg) ih h F E
def f_X11_chars (y : MS) (a1 : Int32) : Option (MS) := f_X11_chars_2 1000 y a1 0
set_option maxRecDepth 100000 in
set_option maxHeartbeats 4000000 in
theorem c_X11_chars {K : KE} {l : Launch} {R : MS} {nn : Nat} (x : CS) (y : MS) (a1 : Int32) (h : f_X11_chars y a1 = some R) : MC K l yX11_chars cX11_chars 5 none rm_X11_chars 0 0 [.ref (K.1 + 61), .int a1] (xfM K nn x y) (xfM K nn x R) none := by
  unfold f_X11_chars at h
  refine mc_of (ls0 := [(0, .ref (K.1 + 61)), (1, .int a1)]) (by decide) (Nat.le_of_ble_eq_true rfl) rfl (fun C hl hnm F E => ?_)
  have F : Fx C RX11 cX11_chars 5 rm_X11_chars K := F
  refine v_iconst F (v := 0) (dq dkX11_chars_0 0 rfl) ki_0 ?_
  refine v_istore_n F (ls' := [(2, .int 0), (0, .ref (K.1 + 61)), (1, .int a1)]) (dq dkX11_chars_0 1 rfl) rfl (by decide) rfl ?_
  refine v_sub [1, 2, 0] rfl ?_
  exact t_X11_chars_2 F E 1000 y a1 0 h
def rm_X11_sews : Room := { frames := 2, cells := 0, slots := 0, locals := 52 }
def f_X11_sews_116 (k74 : MS → Int32 → Int32 → Option (MS)) (y : MS) (a1 : Int32) (a3 : Int32) (s0 : Int32) (s1 : Int32) (s2 : Int32) : Option (MS) := gd (ib s2 9) (k74 (pi y 86 s2.toNatClampNeg (s1 + s0)) a1 (a3 + 1))
set_option maxRecDepth 100000 in
set_option maxHeartbeats 4000000 in
theorem t_X11_sews_116 {C : Cx} {K : KE} {nn : Nat} {x : CS} {R : MS}  (k74 : MS → Int32 → Int32 → Option (MS)) (y : MS) (a1 : Int32) (a3 : Int32) (s0 : Int32) (s1 : Int32) (s2 : Int32) (hk74 : ∀ (y : MS) (a1 : Int32) (a3 : Int32), k74 y a1 a3 = some R → V C 74 [(0, .ref (K.1 + 61)), (1, .int a1), (3, .int a3)] [] (xfM K nn x y) 0 0) (h : f_X11_sews_116 k74 y a1 a3 s0 s1 s2 = some R) (F : Fx C RX11 cX11_sews 4 rm_X11_sews K) (E : CE C (xfM K nn x R) none 0 0 none) : V C 116 [(0, .ref (K.1 + 61)), (1, .int a1), (3, .int a3)] [.int s0, .int s1, .int s2, .ref (K.1 + 86)] (xfM K nn x y) 0 0 := by
  unfold f_X11_sews_116 at h
  refine v_iadd F (dq dkX11_sews_1 30 rfl) ?_
  obtain ⟨g1, h⟩ := gd_of h
  refine v_iast F 86 (xnM (by decide)) xc_86 (ib_in g1) (dq dkX11_sews_1 31 rfl) ?_
  refine v_eqM (xwM (q := 86) (j := s2.toNatClampNeg) (v := s1 + s0) (by decide) (by decide) rfl) ?_
  refine v_iinc F (v := a3 + 1) (ls' := [(3, .int (a3 + 1)), (0, .ref (K.1 + 61)), (1, .int a1)]) (dq dkX11_sews_1 32 rfl) (j := 2) rfl (kv_add ki_1) (by decide) rfl ?_
  refine v_goto F (tgt := 74) (dq dkX11_sews_1 33 rfl) (by decide) ?_
  refine v_sub [1, 2, 0] rfl ?_
  exact hk74 (pi y 86 s2.toNatClampNeg (s1 + s0)) a1 (a3 + 1) h
def f_X11_sews_74 : Nat → MS → Int32 → Int32 → Option (MS)
  | 0, _, _, _ => none
  | n + 1, y, a1, a3 => if 9 ≤ a3 then (some y) else (gd (ib a1 10) (if (gi y 63 a1.toNatClampNeg) = 5 then (gd (ib a3 9) ((f_X11_isAt y a1 a3).bind fun r6 => if (b2i r6) = 0 then (f_X11_sews_116 (f_X11_sews_74 n) y a1 a3 0 (gi y 86 a3.toNatClampNeg) a3) else (gd (ib a1 10) (f_X11_sews_116 (f_X11_sews_74 n) y a1 a3 (gi y 65 a1.toNatClampNeg) (gi y 86 a3.toNatClampNeg) a3)))) else (some y)))
set_option maxRecDepth 100000 in
set_option maxHeartbeats 4000000 in
theorem t_X11_sews_74 {C : Cx} {K : KE} {nn : Nat} {x : CS} {R : MS}  (F : Fx C RX11 cX11_sews 4 rm_X11_sews K) (E : CE C (xfM K nn x R) none 0 0 none) : ∀ (n : Nat) (y : MS) (a1 : Int32) (a3 : Int32) (h : f_X11_sews_74 n y a1 a3 = some R), V C 74 [(0, .ref (K.1 + 61)), (1, .int a1), (3, .int a3)] [] (xfM K nn x y) 0 0 := by
  intro n
  induction n with
  | zero => intro y a1 a3 h; cases h
  | succ n ih =>
    intro y a1 a3 h
    rw [f_X11_sews_74] at h
    refine v_iload_n F (dq dkX11_sews_1 5 rfl) rfl 2 rfl ?_
    refine v_bipush F (v := 9) (dq dkX11_sews_1 6 rfl) kb_9 ?_
    refine v_icmp_ge F (tgt := 124) (dq dkX11_sews_1 7 rfl) (by decide) (fun c2 => ?_) (fun c2 => ?_)
    · rw [if_pos c2] at h
      have h := Option.some.inj h
      subst h
      exact v_vret F E (dq dkX11_sews_1 34 rfl)
    · rw [if_neg c2] at h
      refine v_aload_n F (dq dkX11_sews_1 8 rfl) rfl 0 rfl ?_
      refine v_get F 61 (xnM (by decide)) xc_61 rfl inlX11 7 (by decide) (tc11 _ (List.mem_of_getElem? (i := 21) rfl)) rfl rfl (dq dkX11_sews_1 9 rfl) ?_
      refine v_iload_n F (dq dkX11_sews_1 10 rfl) rfl 1 rfl ?_
      obtain ⟨g3, h⟩ := gd_of h
      refine v_iald F 63 (xnM (by decide)) xc_63 (ib_in g3) (dq dkX11_sews_1 11 rfl) ?_
      refine v_iconst F (v := 5) (dq dkX11_sews_1 12 rfl) ki_5 ?_
      refine v_icmp_ne F (tgt := 124) (dq dkX11_sews_1 13 rfl) (by decide) (fun c4 => ?_) (fun c4 => ?_)
      · rw [if_neg c4] at h
        have h := Option.some.inj h
        subst h
        exact v_vret F E (dq dkX11_sews_1 34 rfl)
      · rw [if_pos c4] at h
        refine v_aload_n F (dq dkX11_sews_1 14 rfl) rfl 0 rfl ?_
        refine v_get F 61 (xnM (by decide)) xc_61 rfl inlX11 44 (by decide) (tc13 _ (List.mem_of_getElem? (i := 10) rfl)) rfl rfl (dq dkX11_sews_1 15 rfl) ?_
        refine v_iload_n F (dq dkX11_sews_1 16 rfl) rfl 2 rfl ?_
        refine v_dup2 F (dq dkX11_sews_1 17 rfl) rfl rfl ?_
        obtain ⟨g5, h⟩ := gd_of h
        refine v_iald F 86 (xnM (by decide)) xc_86 (ib_in g5) (dq dkX11_sews_1 18 rfl) ?_
        refine v_aload_n F (dq dkX11_sews_1 19 rfl) rfl 0 rfl ?_
        refine v_iload_n F (dq dkX11_sews_1 20 rfl) rfl 1 rfl ?_
        refine v_iload_n F (dq dkX11_sews_1 21 rfl) rfl 2 rfl ?_
        obtain ⟨r6, e7, h⟩ := bd_of h
        refine v_callV 2 F (q := 61) (kc1 := 0) (ks1 := 0) (as := [.int a1, .int a3]) (st := [.int (gi y 86 a3.toNatClampNeg), .int a3, .ref (K.1 + 86)]) (st1 := (.int (b2i r6) :: [.int (gi y 86 a3.toNatClampNeg), .int a3, .ref (K.1 + 86)])) (res := (some (.int (b2i r6)))) (c_X11_isAt (l := C.2.1) x y a1 a3 e7) (xnM (by decide)) xc_61 rfl (tc28 _ (List.mem_of_getElem? (i := 7) rfl)) (tc28 _ (List.mem_of_getElem? (i := 8) rfl)) (tc28 _ (List.mem_of_getElem? (i := 9) rfl)) (tc1 _ (List.mem_of_getElem? (i := 5) rfl)) (tc28 _ (List.mem_of_getElem? (i := 10) rfl)) (by decide) rfl ⟨rfl, rfl, Nat.le_of_ble_eq_true rfl, Nat.le_of_ble_eq_true rfl⟩ ⟨Nat.le_of_ble_eq_true rfl, Nat.le_of_ble_eq_true rfl⟩ rfl (Nat.le_of_ble_eq_true rfl) rfl rfl rfl (dq dkX11_sews_1 22 rfl) ?_
        refine v_if_eq F (tgt := 115) (dq dkX11_sews_1 23 rfl) (by decide) (fun c8 => ?_) (fun c8 => ?_)
        · rw [if_pos c8] at h
          refine v_iconst F (v := 0) (dq dkX11_sews_1 29 rfl) ki_0 ?_
          exact t_X11_sews_116 (f_X11_sews_74 n) y a1 a3 0 (gi y 86 a3.toNatClampNeg) a3 ih h F E
        · rw [if_neg c8] at h
          refine v_aload_n F (dq dkX11_sews_1 24 rfl) rfl 0 rfl ?_
          refine v_get F 61 (xnM (by decide)) xc_61 rfl inlX11 9 (by decide) (tc11 _ (List.mem_of_getElem? (i := 23) rfl)) rfl rfl (dq dkX11_sews_1 25 rfl) ?_
          refine v_iload_n F (dq dkX11_sews_1 26 rfl) rfl 1 rfl ?_
          obtain ⟨g9, h⟩ := gd_of h
          refine v_iald F 65 (xnM (by decide)) xc_65 (ib_in g9) (dq dkX11_sews_1 27 rfl) ?_
          refine v_goto F (tgt := 116) (dq dkX11_sews_1 28 rfl) (by decide) ?_
          exact t_X11_sews_116 (f_X11_sews_74 n) y a1 a3 (gi y 65 a1.toNatClampNeg) (gi y 86 a3.toNatClampNeg) a3 ih h F E
def f_X11_sews_66 (k9 : MS → Int32 → Int32 → Int32 → Option (MS)) (y : MS) (a1 : Int32) (a2 : Int32) (a3 : Int32) : Option (MS) := k9 y a1 a2 (a3 + 1)
set_option maxRecDepth 100000 in
set_option maxHeartbeats 4000000 in
theorem t_X11_sews_66 {C : Cx} {K : KE} {nn : Nat} {x : CS} {R : MS}  (k9 : MS → Int32 → Int32 → Int32 → Option (MS)) (y : MS) (a1 : Int32) (a2 : Int32) (a3 : Int32) (hk9 : ∀ (y : MS) (a1 : Int32) (a2 : Int32) (a3 : Int32), k9 y a1 a2 a3 = some R → V C 9 [(0, .ref (K.1 + 61)), (1, .int a1), (2, .int a2), (3, .int a3)] [] (xfM K nn x y) 0 0) (h : f_X11_sews_66 k9 y a1 a2 a3 = some R) (F : Fx C RX11 cX11_sews 4 rm_X11_sews K) (E : CE C (xfM K nn x R) none 0 0 none) : V C 66 [(0, .ref (K.1 + 61)), (1, .int a1), (2, .int a2), (3, .int a3)] [] (xfM K nn x y) 0 0 := by
  unfold f_X11_sews_66 at h
  refine v_iinc F (v := a3 + 1) (ls' := [(3, .int (a3 + 1)), (0, .ref (K.1 + 61)), (1, .int a1), (2, .int a2)]) (dq dkX11_sews_1 1 rfl) (j := 3) rfl (kv_add ki_1) (by decide) rfl ?_
  refine v_goto F (tgt := 9) (dq dkX11_sews_1 2 rfl) (by decide) ?_
  refine v_sub [1, 2, 3, 0] rfl ?_
  exact hk9 y a1 a2 (a3 + 1) h
def f_X11_sews_9 : Nat → MS → Int32 → Int32 → Int32 → Option (MS)
  | 0, _, _, _, _ => none
  | n + 1, y, a1, a2, a3 => if 9 ≤ a3 then (f_X11_sews_74 1000 y a1 0) else ((f_X11_isAt y a1 a3).bind fun r11 => if (b2i r11) = 0 then (f_X11_sews_66 (f_X11_sews_9 n) y a1 a2 a3) else (if a2 ≤ 0 then (f_X11_sews_66 (f_X11_sews_9 n) y a1 a2 a3) else (if (((gi y 61 45) >>> (a3 &&& 31)) &&& 1) = 1 then (gd (ib a3 9) (if (gi y 85 a3.toNatClampNeg) ≤ 0 then (f_X11_sews_66 (f_X11_sews_9 n) y a1 a2 a3) else (f_X11_sews_66 (f_X11_sews_9 n) (pi y 61 45 ((gi y 61 45) &&& ((1 <<< (a3 &&& 31)) ^^^ (-1)))) a1 (a2 + (-1)) a3))) else (f_X11_sews_66 (f_X11_sews_9 n) y a1 a2 a3))))
set_option maxRecDepth 100000 in
set_option maxHeartbeats 4000000 in
theorem t_X11_sews_9 {C : Cx} {K : KE} {nn : Nat} {x : CS} {R : MS}  (F : Fx C RX11 cX11_sews 4 rm_X11_sews K) (E : CE C (xfM K nn x R) none 0 0 none) : ∀ (n : Nat) (y : MS) (a1 : Int32) (a2 : Int32) (a3 : Int32) (h : f_X11_sews_9 n y a1 a2 a3 = some R), V C 9 [(0, .ref (K.1 + 61)), (1, .int a1), (2, .int a2), (3, .int a3)] [] (xfM K nn x y) 0 0 := by
  intro n
  induction n with
  | zero => intro y a1 a2 a3 h; cases h
  | succ n ih =>
    intro y a1 a2 a3 h
    rw [f_X11_sews_9] at h
    refine v_iload_n F (dq dkX11_sews_0 7 rfl) rfl 3 rfl ?_
    refine v_bipush F (v := 9) (dq dkX11_sews_0 8 rfl) kb_9 ?_
    refine v_icmp_ge F (tgt := 72) (dq dkX11_sews_0 9 rfl) (by decide) (fun c10 => ?_) (fun c10 => ?_)
    · rw [if_pos c10] at h
      refine v_iconst F (v := 0) (dq dkX11_sews_1 3 rfl) ki_0 ?_
      refine v_istore_n F (ls' := [(3, .int 0), (0, .ref (K.1 + 61)), (1, .int a1), (2, .int a2)]) (dq dkX11_sews_1 4 rfl) rfl (by decide) rfl ?_
      refine v_sub [1, 2, 0] rfl ?_
      exact t_X11_sews_74 F E 1000 y a1 0 h
    · rw [if_neg c10] at h
      refine v_aload_n F (dq dkX11_sews_0 10 rfl) rfl 0 rfl ?_
      refine v_iload_n F (dq dkX11_sews_0 11 rfl) rfl 1 rfl ?_
      refine v_iload_n F (dq dkX11_sews_0 12 rfl) rfl 3 rfl ?_
      obtain ⟨r11, e12, h⟩ := bd_of h
      refine v_callV 2 F (q := 61) (kc1 := 0) (ks1 := 0) (as := [.int a1, .int a3]) (st := []) (st1 := (.int (b2i r11) :: [])) (res := (some (.int (b2i r11)))) (c_X11_isAt (l := C.2.1) x y a1 a3 e12) (xnM (by decide)) xc_61 rfl (tc28 _ (List.mem_of_getElem? (i := 7) rfl)) (tc28 _ (List.mem_of_getElem? (i := 8) rfl)) (tc28 _ (List.mem_of_getElem? (i := 9) rfl)) (tc1 _ (List.mem_of_getElem? (i := 5) rfl)) (tc28 _ (List.mem_of_getElem? (i := 10) rfl)) (by decide) rfl ⟨rfl, rfl, Nat.le_of_ble_eq_true rfl, Nat.le_of_ble_eq_true rfl⟩ ⟨Nat.le_of_ble_eq_true rfl, Nat.le_of_ble_eq_true rfl⟩ rfl (Nat.le_of_ble_eq_true rfl) rfl rfl rfl (dq dkX11_sews_0 13 rfl) ?_
      refine v_if_eq F (tgt := 66) (dq dkX11_sews_0 14 rfl) (by decide) (fun c13 => ?_) (fun c13 => ?_)
      · rw [if_pos c13] at h
        exact t_X11_sews_66 (f_X11_sews_9 n) y a1 a2 a3 ih h F E
      · rw [if_neg c13] at h
        refine v_iload_n F (dq dkX11_sews_0 15 rfl) rfl 2 rfl ?_
        refine v_if_le F (tgt := 66) (dq dkX11_sews_0 16 rfl) (by decide) (fun c14 => ?_) (fun c14 => ?_)
        · rw [if_pos c14] at h
          exact t_X11_sews_66 (f_X11_sews_9 n) y a1 a2 a3 ih h F E
        · rw [if_neg c14] at h
          refine v_aload_n F (dq dkX11_sews_0 17 rfl) rfl 0 rfl ?_
          refine v_get F 61 (xnM (by decide)) xc_61 rfl inlX11 45 (by decide) (tc27 _ (List.mem_of_getElem? (i := 9) rfl)) rfl rfl (dq dkX11_sews_0 18 rfl) ?_
          refine v_iload_n F (dq dkX11_sews_0 19 rfl) rfl 3 rfl ?_
          refine v_ishr F (dq dkX11_sews_0 20 rfl) ?_
          refine v_iconst F (v := 1) (dq dkX11_sews_0 21 rfl) ki_1 ?_
          refine v_iand F (dq dkX11_sews_0 22 rfl) ?_
          refine v_iconst F (v := 1) (dq dkX11_sews_0 23 rfl) ki_1 ?_
          refine v_icmp_ne F (tgt := 66) (dq dkX11_sews_0 24 rfl) (by decide) (fun c15 => ?_) (fun c15 => ?_)
          · rw [if_neg c15] at h
            exact t_X11_sews_66 (f_X11_sews_9 n) y a1 a2 a3 ih h F E
          · rw [if_pos c15] at h
            refine v_aload_n F (dq dkX11_sews_0 25 rfl) rfl 0 rfl ?_
            refine v_get F 61 (xnM (by decide)) xc_61 rfl inlX11 43 (by decide) (tc13 _ (List.mem_of_getElem? (i := 9) rfl)) rfl rfl (dq dkX11_sews_0 26 rfl) ?_
            refine v_iload_n F (dq dkX11_sews_0 27 rfl) rfl 3 rfl ?_
            obtain ⟨g16, h⟩ := gd_of h
            refine v_iald F 85 (xnM (by decide)) xc_85 (ib_in g16) (dq dkX11_sews_0 28 rfl) ?_
            refine v_if_le F (tgt := 66) (dq dkX11_sews_0 29 rfl) (by decide) (fun c17 => ?_) (fun c17 => ?_)
            · rw [if_pos c17] at h
              exact t_X11_sews_66 (f_X11_sews_9 n) y a1 a2 a3 ih h F E
            · rw [if_neg c17] at h
              refine v_aload_n F (dq dkX11_sews_0 30 rfl) rfl 0 rfl ?_
              refine v_dup F (dq dkX11_sews_0 31 rfl) rfl ?_
              refine v_get F 61 (xnM (by decide)) xc_61 rfl inlX11 45 (by decide) (tc27 _ (List.mem_of_getElem? (i := 9) rfl)) rfl rfl (dq dkX11_sews_0 32 rfl) ?_
              refine v_iconst F (v := 1) (dq dkX11_sews_0 33 rfl) ki_1 ?_
              refine v_iload_n F (dq dkX11_sews_0 34 rfl) rfl 3 rfl ?_
              refine v_ishl F (dq dkX11_sews_0 35 rfl) ?_
              refine v_iconst F (v := (-1)) (dq dkX11_sews_0 36 rfl) ki_m1 ?_
              refine v_ixor F (dq dkX11_sews_0 37 rfl) ?_
              refine v_iand F (dq dkX11_sews_0 38 rfl) ?_
              refine v_put F 61 (xnM (by decide)) xc_61 rfl inlX11 tyX11_ok nmX11 45 (by decide) (tc27 _ (List.mem_of_getElem? (i := 9) rfl)) rfl rfl (tyX11_ok 45 (by decide)) rfl rfl (Nat.le_of_ble_eq_true rfl) (dq dkX11_sews_0 39 rfl) ?_
              refine v_eqM (xwM (q := 61) (j := 45) (v := (gi y 61 45) &&& ((1 <<< (a3 &&& 31)) ^^^ (-1))) (by decide) (by decide) rfl) ?_
              refine v_iinc F (v := a2 + (-1)) (ls' := [(2, .int (a2 + (-1))), (0, .ref (K.1 + 61)), (1, .int a1), (3, .int a3)]) (dq dkX11_sews_1 0 rfl) (j := 2) rfl (kv_add ki_m1) (by decide) rfl ?_
              refine v_sub [1, 2, 0, 3] rfl ?_
              exact t_X11_sews_66 (f_X11_sews_9 n) (pi y 61 45 ((gi y 61 45) &&& ((1 <<< (a3 &&& 31)) ^^^ (-1)))) a1 (a2 + (-1)) a3 ih h F E
def f_X11_sews (y : MS) (a1 : Int32) : Option (MS) := gd (ib a1 10) (f_X11_sews_9 1000 y a1 (gi y 65 a1.toNatClampNeg) 0)
set_option maxRecDepth 100000 in
set_option maxHeartbeats 4000000 in
theorem c_X11_sews {K : KE} {l : Launch} {R : MS} {nn : Nat} (x : CS) (y : MS) (a1 : Int32) (h : f_X11_sews y a1 = some R) : MC K l yX11_sews cX11_sews 4 none rm_X11_sews 0 0 [.ref (K.1 + 61), .int a1] (xfM K nn x y) (xfM K nn x R) none := by
  unfold f_X11_sews at h
  refine mc_of (ls0 := [(0, .ref (K.1 + 61)), (1, .int a1)]) (by decide) (Nat.le_of_ble_eq_true rfl) rfl (fun C hl hnm F E => ?_)
  have F : Fx C RX11 cX11_sews 4 rm_X11_sews K := F
  refine v_aload_n F (dq dkX11_sews_0 0 rfl) rfl 0 rfl ?_
  refine v_get F 61 (xnM (by decide)) xc_61 rfl inlX11 9 (by decide) (tc11 _ (List.mem_of_getElem? (i := 23) rfl)) rfl rfl (dq dkX11_sews_0 1 rfl) ?_
  refine v_iload_n F (dq dkX11_sews_0 2 rfl) rfl 1 rfl ?_
  obtain ⟨g18, h⟩ := gd_of h
  refine v_iald F 65 (xnM (by decide)) xc_65 (ib_in g18) (dq dkX11_sews_0 3 rfl) ?_
  refine v_istore_n F (ls' := [(2, .int (gi y 65 a1.toNatClampNeg)), (0, .ref (K.1 + 61)), (1, .int a1)]) (dq dkX11_sews_0 4 rfl) rfl (by decide) rfl ?_
  refine v_iconst F (v := 0) (dq dkX11_sews_0 5 rfl) ki_0 ?_
  refine v_istore_n F (ls' := [(3, .int 0), (2, .int (gi y 65 a1.toNatClampNeg)), (0, .ref (K.1 + 61)), (1, .int a1)]) (dq dkX11_sews_0 6 rfl) rfl (by decide) rfl ?_
  refine v_sub [2, 3, 1, 0] rfl ?_
  exact t_X11_sews_9 F E 1000 y a1 (gi y 65 a1.toNatClampNeg) 0 h
def rm_X11_makes : Room := { frames := 6, cells := 0, slots := 0, locals := 148 }
def f_X11_makes_66 (y : MS) (a1 : Int32) : Option (MS) := gd (ib a1 10) (if (gi y 63 a1.toNatClampNeg) < 4 then (some y) else ((f_X11_sews y a1).bind fun r3 => some r3))
set_option maxRecDepth 100000 in
set_option maxHeartbeats 4000000 in
theorem t_X11_makes_66 {C : Cx} {K : KE} {nn : Nat} {x : CS} {R : MS}  (y : MS) (a1 : Int32) (h : f_X11_makes_66 y a1 = some R) (F : Fx C RX11 cX11_makes 3 rm_X11_makes K) (E : CE C (xfM K nn x R) none 0 0 none) : V C 66 [(0, .ref (K.1 + 61)), (1, .int a1)] [] (xfM K nn x y) 0 0 := by
  unfold f_X11_makes_66 at h
  refine v_aload_n F (dq dkX11_makes_0 37 rfl) rfl 0 rfl ?_
  refine v_get F 61 (xnM (by decide)) xc_61 rfl inlX11 7 (by decide) (tc11 _ (List.mem_of_getElem? (i := 21) rfl)) rfl rfl (dq dkX11_makes_0 38 rfl) ?_
  refine v_iload_n F (dq dkX11_makes_0 39 rfl) rfl 1 rfl ?_
  obtain ⟨g1, h⟩ := gd_of h
  refine v_iald F 63 (xnM (by decide)) xc_63 (ib_in g1) (dq dkX11_makes_1 0 rfl) ?_
  refine v_iconst F (v := 4) (dq dkX11_makes_1 1 rfl) ki_4 ?_
  refine v_icmp_lt F (tgt := 81) (dq dkX11_makes_1 2 rfl) (by decide) (fun c2 => ?_) (fun c2 => ?_)
  · rw [if_pos c2] at h
    have h := Option.some.inj h
    subst h
    exact v_vret F E (dq dkX11_makes_1 6 rfl)
  · rw [if_neg c2] at h
    refine v_aload_n F (dq dkX11_makes_1 3 rfl) rfl 0 rfl ?_
    refine v_iload_n F (dq dkX11_makes_1 4 rfl) rfl 1 rfl ?_
    obtain ⟨r3, e4, h⟩ := bd_of h
    refine v_callV 1 F (q := 61) (kc1 := 0) (ks1 := 0) (as := [.int a1]) (st := []) (st1 := []) (res := none) (c_X11_sews (l := C.2.1) x y a1 e4) (xnM (by decide)) xc_61 rfl (tc29 _ (List.mem_of_getElem? (i := 12) rfl)) (tc29 _ (List.mem_of_getElem? (i := 13) rfl)) (tc29 _ (List.mem_of_getElem? (i := 14) rfl)) (tc1 _ (List.mem_of_getElem? (i := 5) rfl)) (tc29 _ (List.mem_of_getElem? (i := 15) rfl)) (by decide) rfl ⟨rfl, rfl, Nat.le_of_ble_eq_true rfl, Nat.le_of_ble_eq_true rfl⟩ ⟨Nat.le_of_ble_eq_true rfl, Nat.le_of_ble_eq_true rfl⟩ rfl (Nat.le_of_ble_eq_true rfl) rfl rfl rfl (dq dkX11_makes_1 5 rfl) ?_
    have h := Option.some.inj h
    subst h
    exact v_vret F E (dq dkX11_makes_1 6 rfl)
def f_X11_makes_27 : Nat → MS → Int32 → Int32 → Option (MS)
  | 0, _, _, _ => none
  | n + 1, y, a1, a2 => gd (ib a1 10) (if (gi y 65 a1.toNatClampNeg) ≤ a2 then (f_X11_makes_66 y a1) else (gd (ib a1 10) (if (gi y 63 a1.toNatClampNeg) = 3 then (if 12 ≤ (gi y 61 46) then (f_X11_makes_66 y a1) else ((f_X11_inch y).bind fun r10 => (f_X11_makes_27 n) r10 a1 (a2 + 1))) else (f_X11_makes_66 y a1))))
set_option maxRecDepth 100000 in
set_option maxHeartbeats 4000000 in
theorem t_X11_makes_27 {C : Cx} {K : KE} {nn : Nat} {x : CS} {R : MS}  (F : Fx C RX11 cX11_makes 3 rm_X11_makes K) (E : CE C (xfM K nn x R) none 0 0 none) : ∀ (n : Nat) (y : MS) (a1 : Int32) (a2 : Int32) (h : f_X11_makes_27 n y a1 a2 = some R), V C 27 [(0, .ref (K.1 + 61)), (1, .int a1), (2, .int a2)] [] (xfM K nn x y) 0 0 := by
  intro n
  induction n with
  | zero => intro y a1 a2 h; cases h
  | succ n ih =>
    intro y a1 a2 h
    rw [f_X11_makes_27] at h
    refine v_iload_n F (dq dkX11_makes_0 17 rfl) rfl 2 rfl ?_
    refine v_aload_n F (dq dkX11_makes_0 18 rfl) rfl 0 rfl ?_
    refine v_get F 61 (xnM (by decide)) xc_61 rfl inlX11 9 (by decide) (tc11 _ (List.mem_of_getElem? (i := 23) rfl)) rfl rfl (dq dkX11_makes_0 19 rfl) ?_
    refine v_iload_n F (dq dkX11_makes_0 20 rfl) rfl 1 rfl ?_
    obtain ⟨g5, h⟩ := gd_of h
    refine v_iald F 65 (xnM (by decide)) xc_65 (ib_in g5) (dq dkX11_makes_0 21 rfl) ?_
    refine v_icmp_ge F (tgt := 66) (dq dkX11_makes_0 22 rfl) (by decide) (fun c6 => ?_) (fun c6 => ?_)
    · rw [if_pos c6] at h
      refine v_sub [0, 1] rfl ?_
      exact t_X11_makes_66 y a1 h F E
    · rw [if_neg c6] at h
      refine v_aload_n F (dq dkX11_makes_0 23 rfl) rfl 0 rfl ?_
      refine v_get F 61 (xnM (by decide)) xc_61 rfl inlX11 7 (by decide) (tc11 _ (List.mem_of_getElem? (i := 21) rfl)) rfl rfl (dq dkX11_makes_0 24 rfl) ?_
      refine v_iload_n F (dq dkX11_makes_0 25 rfl) rfl 1 rfl ?_
      obtain ⟨g7, h⟩ := gd_of h
      refine v_iald F 63 (xnM (by decide)) xc_63 (ib_in g7) (dq dkX11_makes_0 26 rfl) ?_
      refine v_iconst F (v := 3) (dq dkX11_makes_0 27 rfl) ki_3 ?_
      refine v_icmp_ne F (tgt := 66) (dq dkX11_makes_0 28 rfl) (by decide) (fun c8 => ?_) (fun c8 => ?_)
      · rw [if_neg c8] at h
        refine v_sub [0, 1] rfl ?_
        exact t_X11_makes_66 y a1 h F E
      · rw [if_pos c8] at h
        refine v_aload_n F (dq dkX11_makes_0 29 rfl) rfl 0 rfl ?_
        refine v_get F 61 (xnM (by decide)) xc_61 rfl inlX11 46 (by decide) (tc27 _ (List.mem_of_getElem? (i := 22) rfl)) rfl rfl (dq dkX11_makes_0 30 rfl) ?_
        refine v_bipush F (v := 12) (dq dkX11_makes_0 31 rfl) kb_12 ?_
        refine v_icmp_ge F (tgt := 66) (dq dkX11_makes_0 32 rfl) (by decide) (fun c9 => ?_) (fun c9 => ?_)
        · rw [if_pos c9] at h
          refine v_sub [0, 1] rfl ?_
          exact t_X11_makes_66 y a1 h F E
        · rw [if_neg c9] at h
          refine v_aload_n F (dq dkX11_makes_0 33 rfl) rfl 0 rfl ?_
          obtain ⟨r10, e11, h⟩ := bd_of h
          refine v_callV 0 F (q := 61) (kc1 := 0) (ks1 := 0) (as := []) (st := []) (st1 := []) (res := none) (c_X11_inch (l := C.2.1) x y e11) (xnM (by decide)) xc_61 rfl (tc29 _ (List.mem_of_getElem? (i := 4) rfl)) (tc29 _ (List.mem_of_getElem? (i := 5) rfl)) (tc29 _ (List.mem_of_getElem? (i := 6) rfl)) (tc1 _ (List.mem_of_getElem? (i := 5) rfl)) (tc29 _ (List.mem_of_getElem? (i := 7) rfl)) (by decide) rfl ⟨rfl, rfl, Nat.le_of_ble_eq_true rfl, Nat.le_of_ble_eq_true rfl⟩ ⟨Nat.le_of_ble_eq_true rfl, Nat.le_of_ble_eq_true rfl⟩ rfl (Nat.le_of_ble_eq_true rfl) rfl rfl rfl (dq dkX11_makes_0 34 rfl) ?_
          refine v_iinc F (v := a2 + 1) (ls' := [(2, .int (a2 + 1)), (0, .ref (K.1 + 61)), (1, .int a1)]) (dq dkX11_makes_0 35 rfl) (j := 2) rfl (kv_add ki_1) (by decide) rfl ?_
          refine v_goto F (tgt := 27) (dq dkX11_makes_0 36 rfl) (by decide) ?_
          refine v_sub [1, 2, 0] rfl ?_
          exact ih r10 a1 (a2 + 1) h
def f_X11_makes_25 (y : MS) (a1 : Int32) : Option (MS) := f_X11_makes_27 1000 y a1 0
set_option maxRecDepth 100000 in
set_option maxHeartbeats 4000000 in
theorem t_X11_makes_25 {C : Cx} {K : KE} {nn : Nat} {x : CS} {R : MS}  (y : MS) (a1 : Int32) (h : f_X11_makes_25 y a1 = some R) (F : Fx C RX11 cX11_makes 3 rm_X11_makes K) (E : CE C (xfM K nn x R) none 0 0 none) : V C 25 [(0, .ref (K.1 + 61)), (1, .int a1)] [] (xfM K nn x y) 0 0 := by
  unfold f_X11_makes_25 at h
  refine v_iconst F (v := 0) (dq dkX11_makes_0 15 rfl) ki_0 ?_
  refine v_istore_n F (ls' := [(2, .int 0), (0, .ref (K.1 + 61)), (1, .int a1)]) (dq dkX11_makes_0 16 rfl) rfl (by decide) rfl ?_
  refine v_sub [1, 2, 0] rfl ?_
  exact t_X11_makes_27 F E 1000 y a1 0 h
def f_X11_makes_20 (y : MS) (a1 : Int32) : Option (MS) := (f_X11_chars y a1).bind fun r12 => f_X11_makes_25 r12 a1
set_option maxRecDepth 100000 in
set_option maxHeartbeats 4000000 in
theorem t_X11_makes_20 {C : Cx} {K : KE} {nn : Nat} {x : CS} {R : MS}  (y : MS) (a1 : Int32) (h : f_X11_makes_20 y a1 = some R) (F : Fx C RX11 cX11_makes 3 rm_X11_makes K) (E : CE C (xfM K nn x R) none 0 0 none) : V C 20 [(0, .ref (K.1 + 61)), (1, .int a1)] [] (xfM K nn x y) 0 0 := by
  unfold f_X11_makes_20 at h
  refine v_aload_n F (dq dkX11_makes_0 12 rfl) rfl 0 rfl ?_
  refine v_iload_n F (dq dkX11_makes_0 13 rfl) rfl 1 rfl ?_
  obtain ⟨r12, e13, h⟩ := bd_of h
  refine v_callV 1 F (q := 61) (kc1 := 0) (ks1 := 0) (as := [.int a1]) (st := []) (st1 := []) (res := none) (c_X11_chars (l := C.2.1) x y a1 e13) (xnM (by decide)) xc_61 rfl (tc28 _ (List.mem_of_getElem? (i := 3) rfl)) (tc28 _ (List.mem_of_getElem? (i := 4) rfl)) (tc28 _ (List.mem_of_getElem? (i := 5) rfl)) (tc1 _ (List.mem_of_getElem? (i := 5) rfl)) (tc28 _ (List.mem_of_getElem? (i := 6) rfl)) (by decide) rfl ⟨rfl, rfl, Nat.le_of_ble_eq_true rfl, Nat.le_of_ble_eq_true rfl⟩ ⟨Nat.le_of_ble_eq_true rfl, Nat.le_of_ble_eq_true rfl⟩ rfl (Nat.le_of_ble_eq_true rfl) rfl rfl rfl (dq dkX11_makes_0 14 rfl) ?_
  exact t_X11_makes_25 r12 a1 h F E
def f_X11_makes (y : MS) (a1 : Int32) : Option (MS) := gd (ib a1 10) (if (gi y 63 a1.toNatClampNeg) = 1 then (f_X11_makes_20 y a1) else (gd (ib a1 10) (if (gi y 63 a1.toNatClampNeg) = 2 then (f_X11_makes_20 y a1) else (f_X11_makes_25 y a1))))
set_option maxRecDepth 100000 in
set_option maxHeartbeats 4000000 in
theorem c_X11_makes {K : KE} {l : Launch} {R : MS} {nn : Nat} (x : CS) (y : MS) (a1 : Int32) (h : f_X11_makes y a1 = some R) : MC K l yX11_makes cX11_makes 3 none rm_X11_makes 0 0 [.ref (K.1 + 61), .int a1] (xfM K nn x y) (xfM K nn x R) none := by
  unfold f_X11_makes at h
  refine mc_of (ls0 := [(0, .ref (K.1 + 61)), (1, .int a1)]) (by decide) (Nat.le_of_ble_eq_true rfl) rfl (fun C hl hnm F E => ?_)
  have F : Fx C RX11 cX11_makes 3 rm_X11_makes K := F
  refine v_aload_n F (dq dkX11_makes_0 0 rfl) rfl 0 rfl ?_
  refine v_get F 61 (xnM (by decide)) xc_61 rfl inlX11 7 (by decide) (tc11 _ (List.mem_of_getElem? (i := 21) rfl)) rfl rfl (dq dkX11_makes_0 1 rfl) ?_
  refine v_iload_n F (dq dkX11_makes_0 2 rfl) rfl 1 rfl ?_
  obtain ⟨g14, h⟩ := gd_of h
  refine v_iald F 63 (xnM (by decide)) xc_63 (ib_in g14) (dq dkX11_makes_0 3 rfl) ?_
  refine v_iconst F (v := 1) (dq dkX11_makes_0 4 rfl) ki_1 ?_
  refine v_icmp_eq F (tgt := 20) (dq dkX11_makes_0 5 rfl) (by decide) (fun c15 => ?_) (fun c15 => ?_)
  · rw [if_pos c15] at h
    exact t_X11_makes_20 y a1 h F E
  · rw [if_neg c15] at h
    refine v_aload_n F (dq dkX11_makes_0 6 rfl) rfl 0 rfl ?_
    refine v_get F 61 (xnM (by decide)) xc_61 rfl inlX11 7 (by decide) (tc11 _ (List.mem_of_getElem? (i := 21) rfl)) rfl rfl (dq dkX11_makes_0 7 rfl) ?_
    refine v_iload_n F (dq dkX11_makes_0 8 rfl) rfl 1 rfl ?_
    obtain ⟨g16, h⟩ := gd_of h
    refine v_iald F 63 (xnM (by decide)) xc_63 (ib_in g16) (dq dkX11_makes_0 9 rfl) ?_
    refine v_iconst F (v := 2) (dq dkX11_makes_0 10 rfl) ki_2 ?_
    refine v_icmp_ne F (tgt := 25) (dq dkX11_makes_0 11 rfl) (by decide) (fun c17 => ?_) (fun c17 => ?_)
    · rw [if_neg c17] at h
      exact t_X11_makes_25 y a1 h F E
    · rw [if_pos c17] at h
      exact t_X11_makes_20 y a1 h F E
def rm_X11_begins : Room := { frames := 1, cells := 0, slots := 0, locals := 30 }
def f_X11_begins_2 : Nat → MS → Int32 → Option (MS)
  | 0, _, _ => none
  | n + 1, y, a1 => if 9 ≤ a1 then (some (pi (pi y 61 45 0) 61 46 0)) else (gd (ib a1 54) (gd (ib a1 9) (gd (ib (9 + a1) 54) (gd (ib a1 9) (gd (ib (18 + a1) 54) (gd (ib a1 9) ((f_X11_begins_2 n) (pi (pi (pi y 84 a1.toNatClampNeg (gi y 62 a1.toNatClampNeg)) 85 a1.toNatClampNeg (gi (pi y 84 a1.toNatClampNeg (gi y 62 a1.toNatClampNeg)) 62 (9 + a1).toNatClampNeg)) 86 a1.toNatClampNeg (gi (pi (pi y 84 a1.toNatClampNeg (gi y 62 a1.toNatClampNeg)) 85 a1.toNatClampNeg (gi (pi y 84 a1.toNatClampNeg (gi y 62 a1.toNatClampNeg)) 62 (9 + a1).toNatClampNeg)) 62 (18 + a1).toNatClampNeg)) (a1 + 1))))))))
set_option maxRecDepth 100000 in
set_option maxHeartbeats 4000000 in
theorem t_X11_begins_2 {C : Cx} {K : KE} {nn : Nat} {x : CS} {R : MS}  (F : Fx C RX11 cX11_begins 2 rm_X11_begins K) (E : CE C (xfM K nn x R) none 0 0 none) : ∀ (n : Nat) (y : MS) (a1 : Int32) (h : f_X11_begins_2 n y a1 = some R), V C 2 [(0, .ref (K.1 + 61)), (1, .int a1)] [] (xfM K nn x y) 0 0 := by
  intro n
  induction n with
  | zero => intro y a1 h; cases h
  | succ n ih =>
    intro y a1 h
    rw [f_X11_begins_2] at h
    refine v_iload_n F (dq dkX11_begins_0 2 rfl) rfl 1 rfl ?_
    refine v_bipush F (v := 9) (dq dkX11_begins_0 3 rfl) kb_9 ?_
    refine v_icmp_ge F (tgt := 56) (dq dkX11_begins_0 4 rfl) (by decide) (fun c1 => ?_) (fun c1 => ?_)
    · rw [if_pos c1] at h
      refine v_aload_n F (dq dkX11_begins_0 35 rfl) rfl 0 rfl ?_
      refine v_iconst F (v := 0) (dq dkX11_begins_0 36 rfl) ki_0 ?_
      refine v_put F 61 (xnM (by decide)) xc_61 rfl inlX11 tyX11_ok nmX11 45 (by decide) (tc27 _ (List.mem_of_getElem? (i := 9) rfl)) rfl rfl (tyX11_ok 45 (by decide)) rfl rfl (Nat.le_of_ble_eq_true rfl) (dq dkX11_begins_0 37 rfl) ?_
      refine v_eqM (xwM (q := 61) (j := 45) (v := 0) (by decide) (by decide) rfl) ?_
      refine v_aload_n F (dq dkX11_begins_0 38 rfl) rfl 0 rfl ?_
      refine v_iconst F (v := 0) (dq dkX11_begins_0 39 rfl) ki_0 ?_
      refine v_put F 61 (xnM (by decide)) xc_61 rfl inlX11 tyX11_ok nmX11 46 (by decide) (tc27 _ (List.mem_of_getElem? (i := 22) rfl)) rfl rfl (tyX11_ok 46 (by decide)) rfl rfl (Nat.le_of_ble_eq_true rfl) (dq dkX11_begins_1 0 rfl) ?_
      refine v_eqM (xwM (q := 61) (j := 46) (v := 0) (by decide) (by decide) rfl) ?_
      have h := Option.some.inj h
      subst h
      exact v_vret F E (dq dkX11_begins_1 1 rfl)
    · rw [if_neg c1] at h
      refine v_aload_n F (dq dkX11_begins_0 5 rfl) rfl 0 rfl ?_
      refine v_get F 61 (xnM (by decide)) xc_61 rfl inlX11 42 (by decide) (tc13 _ (List.mem_of_getElem? (i := 8) rfl)) rfl rfl (dq dkX11_begins_0 6 rfl) ?_
      refine v_iload_n F (dq dkX11_begins_0 7 rfl) rfl 1 rfl ?_
      refine v_aload_n F (dq dkX11_begins_0 8 rfl) rfl 0 rfl ?_
      refine v_get F 61 (xnM (by decide)) xc_61 rfl inlX11 0 (by decide) (tc11 _ (List.mem_of_getElem? (i := 17) rfl)) rfl rfl (dq dkX11_begins_0 9 rfl) ?_
      refine v_iload_n F (dq dkX11_begins_0 10 rfl) rfl 1 rfl ?_
      obtain ⟨g2, h⟩ := gd_of h
      refine v_iald F 62 (xnM (by decide)) xc_62 (ib_in g2) (dq dkX11_begins_0 11 rfl) ?_
      obtain ⟨g3, h⟩ := gd_of h
      refine v_iast F 84 (xnM (by decide)) xc_84 (ib_in g3) (dq dkX11_begins_0 12 rfl) ?_
      refine v_eqM (xwM (q := 84) (j := a1.toNatClampNeg) (v := gi y 62 a1.toNatClampNeg) (by decide) (by decide) rfl) ?_
      refine v_aload_n F (dq dkX11_begins_0 13 rfl) rfl 0 rfl ?_
      refine v_get F 61 (xnM (by decide)) xc_61 rfl inlX11 43 (by decide) (tc13 _ (List.mem_of_getElem? (i := 9) rfl)) rfl rfl (dq dkX11_begins_0 14 rfl) ?_
      refine v_iload_n F (dq dkX11_begins_0 15 rfl) rfl 1 rfl ?_
      refine v_aload_n F (dq dkX11_begins_0 16 rfl) rfl 0 rfl ?_
      refine v_get F 61 (xnM (by decide)) xc_61 rfl inlX11 0 (by decide) (tc11 _ (List.mem_of_getElem? (i := 17) rfl)) rfl rfl (dq dkX11_begins_0 17 rfl) ?_
      refine v_bipush F (v := 9) (dq dkX11_begins_0 18 rfl) kb_9 ?_
      refine v_iload_n F (dq dkX11_begins_0 19 rfl) rfl 1 rfl ?_
      refine v_iadd F (dq dkX11_begins_0 20 rfl) ?_
      obtain ⟨g4, h⟩ := gd_of h
      refine v_iald F 62 (xnM (by decide)) xc_62 (ib_in g4) (dq dkX11_begins_0 21 rfl) ?_
      obtain ⟨g5, h⟩ := gd_of h
      refine v_iast F 85 (xnM (by decide)) xc_85 (ib_in g5) (dq dkX11_begins_0 22 rfl) ?_
      refine v_eqM (xwM (q := 85) (j := a1.toNatClampNeg) (v := gi (pi y 84 a1.toNatClampNeg (gi y 62 a1.toNatClampNeg)) 62 (9 + a1).toNatClampNeg) (by decide) (by decide) rfl) ?_
      refine v_aload_n F (dq dkX11_begins_0 23 rfl) rfl 0 rfl ?_
      refine v_get F 61 (xnM (by decide)) xc_61 rfl inlX11 44 (by decide) (tc13 _ (List.mem_of_getElem? (i := 10) rfl)) rfl rfl (dq dkX11_begins_0 24 rfl) ?_
      refine v_iload_n F (dq dkX11_begins_0 25 rfl) rfl 1 rfl ?_
      refine v_aload_n F (dq dkX11_begins_0 26 rfl) rfl 0 rfl ?_
      refine v_get F 61 (xnM (by decide)) xc_61 rfl inlX11 0 (by decide) (tc11 _ (List.mem_of_getElem? (i := 17) rfl)) rfl rfl (dq dkX11_begins_0 27 rfl) ?_
      refine v_bipush F (v := 18) (dq dkX11_begins_0 28 rfl) kb_18 ?_
      refine v_iload_n F (dq dkX11_begins_0 29 rfl) rfl 1 rfl ?_
      refine v_iadd F (dq dkX11_begins_0 30 rfl) ?_
      obtain ⟨g6, h⟩ := gd_of h
      refine v_iald F 62 (xnM (by decide)) xc_62 (ib_in g6) (dq dkX11_begins_0 31 rfl) ?_
      obtain ⟨g7, h⟩ := gd_of h
      refine v_iast F 86 (xnM (by decide)) xc_86 (ib_in g7) (dq dkX11_begins_0 32 rfl) ?_
      refine v_eqM (xwM (q := 86) (j := a1.toNatClampNeg) (v := gi (pi (pi y 84 a1.toNatClampNeg (gi y 62 a1.toNatClampNeg)) 85 a1.toNatClampNeg (gi (pi y 84 a1.toNatClampNeg (gi y 62 a1.toNatClampNeg)) 62 (9 + a1).toNatClampNeg)) 62 (18 + a1).toNatClampNeg) (by decide) (by decide) rfl) ?_
      refine v_iinc F (v := a1 + 1) (ls' := [(1, .int (a1 + 1)), (0, .ref (K.1 + 61))]) (dq dkX11_begins_0 33 rfl) (j := 1) rfl (kv_add ki_1) (by decide) rfl ?_
      refine v_goto F (tgt := 2) (dq dkX11_begins_0 34 rfl) (by decide) ?_
      refine v_sub [1, 0] rfl ?_
      exact ih (pi (pi (pi y 84 a1.toNatClampNeg (gi y 62 a1.toNatClampNeg)) 85 a1.toNatClampNeg (gi (pi y 84 a1.toNatClampNeg (gi y 62 a1.toNatClampNeg)) 62 (9 + a1).toNatClampNeg)) 86 a1.toNatClampNeg (gi (pi (pi y 84 a1.toNatClampNeg (gi y 62 a1.toNatClampNeg)) 85 a1.toNatClampNeg (gi (pi y 84 a1.toNatClampNeg (gi y 62 a1.toNatClampNeg)) 62 (9 + a1).toNatClampNeg)) 62 (18 + a1).toNatClampNeg)) (a1 + 1) h
def f_X11_begins (y : MS) : Option (MS) := f_X11_begins_2 1000 y 0
set_option maxRecDepth 100000 in
set_option maxHeartbeats 4000000 in
theorem c_X11_begins {K : KE} {l : Launch} {R : MS} {nn : Nat} (x : CS) (y : MS) (h : f_X11_begins y = some R) : MC K l yX11_begins cX11_begins 2 none rm_X11_begins 0 0 [.ref (K.1 + 61)] (xfM K nn x y) (xfM K nn x R) none := by
  unfold f_X11_begins at h
  refine mc_of (ls0 := [(0, .ref (K.1 + 61))]) (by decide) (Nat.le_of_ble_eq_true rfl) rfl (fun C hl hnm F E => ?_)
  have F : Fx C RX11 cX11_begins 2 rm_X11_begins K := F
  refine v_iconst F (v := 0) (dq dkX11_begins_0 0 rfl) ki_0 ?_
  refine v_istore_n F (ls' := [(1, .int 0), (0, .ref (K.1 + 61))]) (dq dkX11_begins_0 1 rfl) rfl (by decide) rfl ?_
  refine v_sub [1, 0] rfl ?_
  exact t_X11_begins_2 F E 1000 y 0 h
def rm_X11_comes : Room := { frames := 7, cells := 0, slots := 0, locals := 170 }
def f_X11_comes_6 : Nat → MS → Int32 → Int32 → Option (MS)
  | 0, _, _, _ => none
  | n + 1, y, a1, a2 => if a1 ≤ a2 then (some y) else ((f_X11_makes y a2).bind fun r2 => (f_X11_comes_6 n) r2 a1 (a2 + 1))
set_option maxRecDepth 100000 in
set_option maxHeartbeats 4000000 in
theorem t_X11_comes_6 {C : Cx} {K : KE} {nn : Nat} {x : CS} {R : MS}  (F : Fx C RX11 cX11_comes 3 rm_X11_comes K) (E : CE C (xfM K nn x R) none 0 0 none) : ∀ (n : Nat) (y : MS) (a1 : Int32) (a2 : Int32) (h : f_X11_comes_6 n y a1 a2 = some R), V C 6 [(0, .ref (K.1 + 61)), (1, .int a1), (2, .int a2)] [] (xfM K nn x y) 0 0 := by
  intro n
  induction n with
  | zero => intro y a1 a2 h; cases h
  | succ n ih =>
    intro y a1 a2 h
    rw [f_X11_comes_6] at h
    refine v_iload_n F (dq dkX11_comes_0 4 rfl) rfl 2 rfl ?_
    refine v_iload_n F (dq dkX11_comes_0 5 rfl) rfl 1 rfl ?_
    refine v_icmp_ge F (tgt := 22) (dq dkX11_comes_0 6 rfl) (by decide) (fun c1 => ?_) (fun c1 => ?_)
    · rw [if_pos c1] at h
      have h := Option.some.inj h
      subst h
      exact v_vret F E (dq dkX11_comes_0 12 rfl)
    · rw [if_neg c1] at h
      refine v_aload_n F (dq dkX11_comes_0 7 rfl) rfl 0 rfl ?_
      refine v_iload_n F (dq dkX11_comes_0 8 rfl) rfl 2 rfl ?_
      obtain ⟨r2, e3, h⟩ := bd_of h
      refine v_callV 1 F (q := 61) (kc1 := 0) (ks1 := 0) (as := [.int a2]) (st := []) (st1 := []) (res := none) (c_X11_makes (l := C.2.1) x y a2 e3) (xnM (by decide)) xc_61 rfl (tc27 _ (List.mem_of_getElem? (i := 23) rfl)) (tc28 _ (List.mem_of_getElem? (i := 0) rfl)) (tc28 _ (List.mem_of_getElem? (i := 1) rfl)) (tc1 _ (List.mem_of_getElem? (i := 5) rfl)) (tc28 _ (List.mem_of_getElem? (i := 2) rfl)) (by decide) rfl ⟨rfl, rfl, Nat.le_of_ble_eq_true rfl, Nat.le_of_ble_eq_true rfl⟩ ⟨Nat.le_of_ble_eq_true rfl, Nat.le_of_ble_eq_true rfl⟩ rfl (Nat.le_of_ble_eq_true rfl) rfl rfl rfl (dq dkX11_comes_0 9 rfl) ?_
      refine v_iinc F (v := a2 + 1) (ls' := [(2, .int (a2 + 1)), (0, .ref (K.1 + 61)), (1, .int a1)]) (dq dkX11_comes_0 10 rfl) (j := 2) rfl (kv_add ki_1) (by decide) rfl ?_
      refine v_goto F (tgt := 6) (dq dkX11_comes_0 11 rfl) (by decide) ?_
      refine v_sub [1, 2, 0] rfl ?_
      exact ih r2 a1 (a2 + 1) h
def f_X11_comes (y : MS) (a1 : Int32) : Option (MS) := (f_X11_begins y).bind fun r4 => f_X11_comes_6 1000 r4 a1 0
set_option maxRecDepth 100000 in
set_option maxHeartbeats 4000000 in
theorem c_X11_comes {K : KE} {l : Launch} {R : MS} {nn : Nat} (x : CS) (y : MS) (a1 : Int32) (h : f_X11_comes y a1 = some R) : MC K l yX11_comes cX11_comes 3 none rm_X11_comes 0 0 [.ref (K.1 + 61), .int a1] (xfM K nn x y) (xfM K nn x R) none := by
  unfold f_X11_comes at h
  refine mc_of (ls0 := [(0, .ref (K.1 + 61)), (1, .int a1)]) (by decide) (Nat.le_of_ble_eq_true rfl) rfl (fun C hl hnm F E => ?_)
  have F : Fx C RX11 cX11_comes 3 rm_X11_comes K := F
  refine v_aload_n F (dq dkX11_comes_0 0 rfl) rfl 0 rfl ?_
  obtain ⟨r4, e5, h⟩ := bd_of h
  refine v_callV 0 F (q := 61) (kc1 := 0) (ks1 := 0) (as := []) (st := []) (st1 := []) (res := none) (c_X11_begins (l := C.2.1) x y e5) (xnM (by decide)) xc_61 rfl (tc27 _ (List.mem_of_getElem? (i := 18) rfl)) (tc27 _ (List.mem_of_getElem? (i := 19) rfl)) (tc27 _ (List.mem_of_getElem? (i := 20) rfl)) (tc1 _ (List.mem_of_getElem? (i := 5) rfl)) (tc27 _ (List.mem_of_getElem? (i := 21) rfl)) (by decide) rfl ⟨rfl, rfl, Nat.le_of_ble_eq_true rfl, Nat.le_of_ble_eq_true rfl⟩ ⟨Nat.le_of_ble_eq_true rfl, Nat.le_of_ble_eq_true rfl⟩ rfl (Nat.le_of_ble_eq_true rfl) rfl rfl rfl (dq dkX11_comes_0 1 rfl) ?_
  refine v_iconst F (v := 0) (dq dkX11_comes_0 2 rfl) ki_0 ?_
  refine v_istore_n F (ls' := [(2, .int 0), (0, .ref (K.1 + 61)), (1, .int a1)]) (dq dkX11_comes_0 3 rfl) rfl (by decide) rfl ?_
  refine v_sub [1, 2, 0] rfl ?_
  exact t_X11_comes_6 F E 1000 r4 a1 0 h
def rm_X11_hull : Room := { frames := 8, cells := 0, slots := 0, locals := 192 }
def f_X11_hull_27 (y : MS) : Option (Int32 × MS) := some ((-7), y)
set_option maxRecDepth 100000 in
set_option maxHeartbeats 4000000 in
theorem t_X11_hull_27 {C : Cx} {K : KE} {nn : Nat} {x : CS} {R : Int32 × MS}  (y : MS) (h : f_X11_hull_27 y = some R) (F : Fx C RX11 cX11_hull 4 rm_X11_hull K) (E : CE C (xfM K nn x R.2) (some (.int R.1)) 0 0 (some .int)) : V C 27 [] [] (xfM K nn x y) 0 0 := by
  unfold f_X11_hull_27 at h
  refine v_bipush F (v := (-7)) (dq dkX11_hull_0 14 rfl) kb_m7 ?_
  have h := Option.some.inj h
  subst h
  exact v_iret F E (dq dkX11_hull_0 15 rfl)
def f_X11_hull (y : MS) (a1 : Int32) (a2 : Int32) (a3 : Int32) : Option (Int32 × MS) := if (b2i (f_X11_areWorks y a1)) = 0 then (some ((-5), y)) else (if (b2i (f_X11_isSection a2)) = 0 then (f_X11_hull_27 y) else (if (b2i (f_X11_in a3 0 3)) = 0 then (f_X11_hull_27 y) else ((f_X11_comes y a1).bind fun r7 => if a3 = 0 then (gd (ib a2 9) (some (gi r7 84 a2.toNatClampNeg, r7))) else (if a3 = 1 then (gd (ib a2 9) (some (gi r7 85 a2.toNatClampNeg, r7))) else (if a3 = 2 then (gd (ib a2 9) (some (gi r7 86 a2.toNatClampNeg, r7))) else (some (((gi r7 61 45) >>> (a2 &&& 31)) &&& 1, r7)))))))
set_option maxRecDepth 100000 in
set_option maxHeartbeats 4000000 in
theorem c_X11_hull {K : KE} {l : Launch} {R : Int32 × MS} {nn : Nat} (x : CS) (y : MS) (a1 : Int32) (a2 : Int32) (a3 : Int32) (h : f_X11_hull y a1 a2 a3 = some R) : MC K l yX11_hull cX11_hull 4 (some .int) rm_X11_hull 0 0 [.ref (K.1 + 61), .int a1, .int a2, .int a3] (xfM K nn x y) (xfM K nn x R.2) (some (.int R.1)) := by
  unfold f_X11_hull at h
  refine mc_of (ls0 := [(0, .ref (K.1 + 61)), (1, .int a1), (2, .int a2), (3, .int a3)]) (by decide) (Nat.le_of_ble_eq_true rfl) rfl (fun C hl hnm F E => ?_)
  have F : Fx C RX11 cX11_hull 4 rm_X11_hull K := F
  refine v_aload_n F (dq dkX11_hull_0 0 rfl) rfl 0 rfl ?_
  refine v_iload_n F (dq dkX11_hull_0 1 rfl) rfl 1 rfl ?_
  refine v_callV 1 F (q := 61) (kc1 := 0) (ks1 := 0) (as := [.int a1]) (st := []) (st1 := (.int (b2i (f_X11_areWorks y a1)) :: [])) (res := (some (.int (b2i (f_X11_areWorks y a1))))) (c_X11_areWorks (l := C.2.1) x y a1) (xnM (by decide)) xc_61 rfl (tc27 _ (List.mem_of_getElem? (i := 10) rfl)) (tc27 _ (List.mem_of_getElem? (i := 11) rfl)) (tc27 _ (List.mem_of_getElem? (i := 12) rfl)) (tc1 _ (List.mem_of_getElem? (i := 5) rfl)) (tc27 _ (List.mem_of_getElem? (i := 13) rfl)) (by decide) rfl ⟨rfl, rfl, Nat.le_of_ble_eq_true rfl, Nat.le_of_ble_eq_true rfl⟩ ⟨Nat.le_of_ble_eq_true rfl, Nat.le_of_ble_eq_true rfl⟩ rfl (Nat.le_of_ble_eq_true rfl) rfl rfl rfl (dq dkX11_hull_0 2 rfl) ?_
  refine v_if_ne F (tgt := 11) (dq dkX11_hull_0 3 rfl) (by decide) (fun c2 => ?_) (fun c2 => ?_)
  · rw [if_neg c2] at h
    refine v_iload_n F (dq dkX11_hull_0 6 rfl) rfl 2 rfl ?_
    refine v_callS 1 F (kc1 := 0) (ks1 := 0) (as := [.int a2]) (st := []) (st1 := (.int (b2i (f_X11_isSection a2)) :: [])) (res := (some (.int (b2i (f_X11_isSection a2))))) (c_X11_isSection (l := C.2.1) a2) (tc14 _ (List.mem_of_getElem? (i := 22) rfl)) (tc14 _ (List.mem_of_getElem? (i := 23) rfl)) (tc1 _ (List.mem_of_getElem? (i := 5) rfl)) (tc15 _ (List.mem_of_getElem? (i := 0) rfl)) (by decide) rfl ⟨rfl, rfl, Nat.le_of_ble_eq_true rfl, Nat.le_of_ble_eq_true rfl⟩ ⟨Nat.le_of_ble_eq_true rfl, Nat.le_of_ble_eq_true rfl⟩ rfl (Nat.le_of_ble_eq_true rfl) rfl rfl rfl (dq dkX11_hull_0 7 rfl) ?_
    refine v_if_eq F (tgt := 27) (dq dkX11_hull_0 8 rfl) (by decide) (fun c4 => ?_) (fun c4 => ?_)
    · rw [if_pos c4] at h
      refine v_sub [] rfl ?_
      exact t_X11_hull_27 y h F E
    · rw [if_neg c4] at h
      refine v_iload_n F (dq dkX11_hull_0 9 rfl) rfl 3 rfl ?_
      refine v_iconst F (v := 0) (dq dkX11_hull_0 10 rfl) ki_0 ?_
      refine v_iconst F (v := 3) (dq dkX11_hull_0 11 rfl) ki_3 ?_
      refine v_callS 3 F (kc1 := 0) (ks1 := 0) (as := [.int a3, .int 0, .int 3]) (st := []) (st1 := (.int (b2i (f_X11_in a3 0 3)) :: [])) (res := (some (.int (b2i (f_X11_in a3 0 3))))) (c_X11_in (l := C.2.1) a3 0 3) (tc15 _ (List.mem_of_getElem? (i := 1) rfl)) (tc15 _ (List.mem_of_getElem? (i := 2) rfl)) (tc1 _ (List.mem_of_getElem? (i := 5) rfl)) (tc15 _ (List.mem_of_getElem? (i := 3) rfl)) (by decide) rfl ⟨rfl, rfl, Nat.le_of_ble_eq_true rfl, Nat.le_of_ble_eq_true rfl⟩ ⟨Nat.le_of_ble_eq_true rfl, Nat.le_of_ble_eq_true rfl⟩ rfl (Nat.le_of_ble_eq_true rfl) rfl rfl rfl (dq dkX11_hull_0 12 rfl) ?_
      refine v_if_ne F (tgt := 30) (dq dkX11_hull_0 13 rfl) (by decide) (fun c6 => ?_) (fun c6 => ?_)
      · rw [if_neg c6] at h
        refine v_aload_n F (dq dkX11_hull_0 16 rfl) rfl 0 rfl ?_
        refine v_iload_n F (dq dkX11_hull_0 17 rfl) rfl 1 rfl ?_
        obtain ⟨r7, e8, h⟩ := bd_of h
        refine v_callV 1 F (q := 61) (kc1 := 0) (ks1 := 0) (as := [.int a1]) (st := []) (st1 := []) (res := none) (c_X11_comes (l := C.2.1) x y a1 e8) (xnM (by decide)) xc_61 rfl (tc27 _ (List.mem_of_getElem? (i := 14) rfl)) (tc27 _ (List.mem_of_getElem? (i := 15) rfl)) (tc27 _ (List.mem_of_getElem? (i := 16) rfl)) (tc1 _ (List.mem_of_getElem? (i := 5) rfl)) (tc27 _ (List.mem_of_getElem? (i := 17) rfl)) (by decide) rfl ⟨rfl, rfl, Nat.le_of_ble_eq_true rfl, Nat.le_of_ble_eq_true rfl⟩ ⟨Nat.le_of_ble_eq_true rfl, Nat.le_of_ble_eq_true rfl⟩ rfl (Nat.le_of_ble_eq_true rfl) rfl rfl rfl (dq dkX11_hull_0 18 rfl) ?_
        refine v_iload_n F (dq dkX11_hull_0 19 rfl) rfl 3 rfl ?_
        refine v_if_ne F (tgt := 48) (dq dkX11_hull_0 20 rfl) (by decide) (fun c9 => ?_) (fun c9 => ?_)
        · rw [if_neg c9] at h
          refine v_iload_n F (dq dkX11_hull_0 26 rfl) rfl 3 rfl ?_
          refine v_iconst F (v := 1) (dq dkX11_hull_0 27 rfl) ki_1 ?_
          refine v_icmp_ne F (tgt := 62) (dq dkX11_hull_0 28 rfl) (by decide) (fun c10 => ?_) (fun c10 => ?_)
          · rw [if_neg c10] at h
            refine v_iload_n F (dq dkX11_hull_0 34 rfl) rfl 3 rfl ?_
            refine v_iconst F (v := 2) (dq dkX11_hull_0 35 rfl) ki_2 ?_
            refine v_icmp_ne F (tgt := 76) (dq dkX11_hull_0 36 rfl) (by decide) (fun c11 => ?_) (fun c11 => ?_)
            · rw [if_neg c11] at h
              refine v_aload_n F (dq dkX11_hull_1 2 rfl) rfl 0 rfl ?_
              refine v_get F 61 (xnM (by decide)) xc_61 rfl inlX11 45 (by decide) (tc27 _ (List.mem_of_getElem? (i := 9) rfl)) rfl rfl (dq dkX11_hull_1 3 rfl) ?_
              refine v_iload_n F (dq dkX11_hull_1 4 rfl) rfl 2 rfl ?_
              refine v_ishr F (dq dkX11_hull_1 5 rfl) ?_
              refine v_iconst F (v := 1) (dq dkX11_hull_1 6 rfl) ki_1 ?_
              refine v_iand F (dq dkX11_hull_1 7 rfl) ?_
              have h := Option.some.inj h
              subst h
              exact v_iret F E (dq dkX11_hull_1 8 rfl)
            · rw [if_pos c11] at h
              refine v_aload_n F (dq dkX11_hull_0 37 rfl) rfl 0 rfl ?_
              refine v_get F 61 (xnM (by decide)) xc_61 rfl inlX11 44 (by decide) (tc13 _ (List.mem_of_getElem? (i := 10) rfl)) rfl rfl (dq dkX11_hull_0 38 rfl) ?_
              refine v_iload_n F (dq dkX11_hull_0 39 rfl) rfl 2 rfl ?_
              obtain ⟨g12, h⟩ := gd_of h
              refine v_iald F 86 (xnM (by decide)) xc_86 (ib_in g12) (dq dkX11_hull_1 0 rfl) ?_
              refine v_goto F (tgt := 84) (dq dkX11_hull_1 1 rfl) (by decide) ?_
              have h := Option.some.inj h
              subst h
              exact v_iret F E (dq dkX11_hull_1 8 rfl)
          · rw [if_pos c10] at h
            refine v_aload_n F (dq dkX11_hull_0 29 rfl) rfl 0 rfl ?_
            refine v_get F 61 (xnM (by decide)) xc_61 rfl inlX11 43 (by decide) (tc13 _ (List.mem_of_getElem? (i := 9) rfl)) rfl rfl (dq dkX11_hull_0 30 rfl) ?_
            refine v_iload_n F (dq dkX11_hull_0 31 rfl) rfl 2 rfl ?_
            obtain ⟨g13, h⟩ := gd_of h
            refine v_iald F 85 (xnM (by decide)) xc_85 (ib_in g13) (dq dkX11_hull_0 32 rfl) ?_
            refine v_goto F (tgt := 84) (dq dkX11_hull_0 33 rfl) (by decide) ?_
            have h := Option.some.inj h
            subst h
            exact v_iret F E (dq dkX11_hull_1 8 rfl)
        · rw [if_pos c9] at h
          refine v_aload_n F (dq dkX11_hull_0 21 rfl) rfl 0 rfl ?_
          refine v_get F 61 (xnM (by decide)) xc_61 rfl inlX11 42 (by decide) (tc13 _ (List.mem_of_getElem? (i := 8) rfl)) rfl rfl (dq dkX11_hull_0 22 rfl) ?_
          refine v_iload_n F (dq dkX11_hull_0 23 rfl) rfl 2 rfl ?_
          obtain ⟨g14, h⟩ := gd_of h
          refine v_iald F 84 (xnM (by decide)) xc_84 (ib_in g14) (dq dkX11_hull_0 24 rfl) ?_
          refine v_goto F (tgt := 84) (dq dkX11_hull_0 25 rfl) (by decide) ?_
          have h := Option.some.inj h
          subst h
          exact v_iret F E (dq dkX11_hull_1 8 rfl)
      · rw [if_pos c6] at h
        refine v_sub [] rfl ?_
        exact t_X11_hull_27 y h F E
  · rw [if_pos c2] at h
    refine v_bipush F (v := (-5)) (dq dkX11_hull_0 4 rfl) kb_m5 ?_
    have h := Option.some.inj h
    subst h
    exact v_iret F E (dq dkX11_hull_0 5 rfl)
def rm_X11_state : Room := { frames := 7, cells := 0, slots := 0, locals := 170 }
def f_X11_state_73 (k32 : MS → Int32 → Int32 → Int32 → Int32 → Option (Int32 × MS)) (y : MS) (a1 : Int32) (a2 : Int32) (a4 : Int32) (s0 : Int32) : Option (Int32 × MS) := k32 y a1 a2 s0 (a4 + 1)
set_option maxRecDepth 100000 in
set_option maxHeartbeats 4000000 in
theorem t_X11_state_73 {C : Cx} {K : KE} {nn : Nat} {x : CS} {R : Int32 × MS}  (k32 : MS → Int32 → Int32 → Int32 → Int32 → Option (Int32 × MS)) (y : MS) (a1 : Int32) (a2 : Int32) (a4 : Int32) (s0 : Int32) (hk32 : ∀ (y : MS) (a1 : Int32) (a2 : Int32) (a3 : Int32) (a4 : Int32), k32 y a1 a2 a3 a4 = some R → V C 32 [(0, .ref (K.1 + 61)), (1, .int a1), (2, .int a2), (3, .int a3), (4, .int a4)] [] (xfM K nn x y) 0 0) (h : f_X11_state_73 k32 y a1 a2 a4 s0 = some R) (F : Fx C RX11 cX11_state 6 rm_X11_state K) (E : CE C (xfM K nn x R.2) (some (.int R.1)) 0 0 (some .int)) : V C 73 [(0, .ref (K.1 + 61)), (1, .int a1), (2, .int a2), (4, .int a4)] [.int s0] (xfM K nn x y) 0 0 := by
  unfold f_X11_state_73 at h
  refine v_istore_n F (ls' := [(3, .int s0), (0, .ref (K.1 + 61)), (1, .int a1), (2, .int a2), (4, .int a4)]) (dq dkX11_state_1 1 rfl) rfl (by decide) rfl ?_
  refine v_iinc F (v := a4 + 1) (ls' := [(4, .int (a4 + 1)), (3, .int s0), (0, .ref (K.1 + 61)), (1, .int a1), (2, .int a2)]) (dq dkX11_state_1 2 rfl) (j := 4) rfl (kv_add ki_1) (by decide) rfl ?_
  refine v_goto F (tgt := 32) (dq dkX11_state_1 3 rfl) (by decide) ?_
  refine v_sub [2, 3, 4, 1, 0] rfl ?_
  exact hk32 y a1 a2 s0 (a4 + 1) h
def f_X11_state_72 (k32 : MS → Int32 → Int32 → Int32 → Int32 → Option (Int32 × MS)) (y : MS) (a1 : Int32) (a2 : Int32) (a3 : Int32) (a4 : Int32) : Option (Int32 × MS) := f_X11_state_73 k32 y a1 a2 a4 a3
set_option maxRecDepth 100000 in
set_option maxHeartbeats 4000000 in
theorem t_X11_state_72 {C : Cx} {K : KE} {nn : Nat} {x : CS} {R : Int32 × MS}  (k32 : MS → Int32 → Int32 → Int32 → Int32 → Option (Int32 × MS)) (y : MS) (a1 : Int32) (a2 : Int32) (a3 : Int32) (a4 : Int32) (hk32 : ∀ (y : MS) (a1 : Int32) (a2 : Int32) (a3 : Int32) (a4 : Int32), k32 y a1 a2 a3 a4 = some R → V C 32 [(0, .ref (K.1 + 61)), (1, .int a1), (2, .int a2), (3, .int a3), (4, .int a4)] [] (xfM K nn x y) 0 0) (h : f_X11_state_72 k32 y a1 a2 a3 a4 = some R) (F : Fx C RX11 cX11_state 6 rm_X11_state K) (E : CE C (xfM K nn x R.2) (some (.int R.1)) 0 0 (some .int)) : V C 72 [(0, .ref (K.1 + 61)), (1, .int a1), (2, .int a2), (3, .int a3), (4, .int a4)] [] (xfM K nn x y) 0 0 := by
  unfold f_X11_state_72 at h
  refine v_iload_n F (dq dkX11_state_1 0 rfl) rfl 3 rfl ?_
  refine v_sub [0, 1, 2, 4] rfl ?_
  exact t_X11_state_73 k32 y a1 a2 a4 a3 hk32 h F E
def f_X11_state_32 : Nat → MS → Int32 → Int32 → Int32 → Int32 → Option (Int32 × MS)
  | 0, _, _, _, _, _ => none
  | n + 1, y, a1, a2, a3, a4 => if a1 ≤ a4 then (if a2 = 0 then (some (gi y 61 45, y)) else (if a2 = 1 then (some (gi y 61 46, y)) else (some (a3, y)))) else ((f_X11_makes y a4).bind fun r4 => if a3 = (-1) then (if ((gi r4 61 45) &&& ((gi y 61 45) ^^^ (-1))) = 0 then (f_X11_state_72 (f_X11_state_32 n) r4 a1 a2 a3 a4) else (f_X11_state_73 (f_X11_state_32 n) r4 a1 a2 a4 a4)) else (f_X11_state_72 (f_X11_state_32 n) r4 a1 a2 a3 a4))
set_option maxRecDepth 100000 in
set_option maxHeartbeats 4000000 in
theorem t_X11_state_32 {C : Cx} {K : KE} {nn : Nat} {x : CS} {R : Int32 × MS}  (F : Fx C RX11 cX11_state 6 rm_X11_state K) (E : CE C (xfM K nn x R.2) (some (.int R.1)) 0 0 (some .int)) : ∀ (n : Nat) (y : MS) (a1 : Int32) (a2 : Int32) (a3 : Int32) (a4 : Int32) (h : f_X11_state_32 n y a1 a2 a3 a4 = some R), V C 32 [(0, .ref (K.1 + 61)), (1, .int a1), (2, .int a2), (3, .int a3), (4, .int a4)] [] (xfM K nn x y) 0 0 := by
  intro n
  induction n with
  | zero => intro y a1 a2 a3 a4 h; cases h
  | succ n ih =>
    intro y a1 a2 a3 a4 h
    rw [f_X11_state_32] at h
    refine v_iload F (dq dkX11_state_0 19 rfl) 4 rfl ?_
    refine v_iload_n F (dq dkX11_state_0 20 rfl) rfl 1 rfl ?_
    refine v_icmp_ge F (tgt := 80) (dq dkX11_state_0 21 rfl) (by decide) (fun c1 => ?_) (fun c1 => ?_)
    · rw [if_pos c1] at h
      refine v_iload_n F (dq dkX11_state_1 4 rfl) rfl 2 rfl ?_
      refine v_if_ne F (tgt := 91) (dq dkX11_state_1 5 rfl) (by decide) (fun c2 => ?_) (fun c2 => ?_)
      · rw [if_neg c2] at h
        refine v_iload_n F (dq dkX11_state_1 9 rfl) rfl 2 rfl ?_
        refine v_iconst F (v := 1) (dq dkX11_state_1 10 rfl) ki_1 ?_
        refine v_icmp_ne F (tgt := 103) (dq dkX11_state_1 11 rfl) (by decide) (fun c3 => ?_) (fun c3 => ?_)
        · rw [if_neg c3] at h
          refine v_iload_n F (dq dkX11_state_1 15 rfl) rfl 3 rfl ?_
          have h := Option.some.inj h
          subst h
          exact v_iret F E (dq dkX11_state_1 16 rfl)
        · rw [if_pos c3] at h
          refine v_aload_n F (dq dkX11_state_1 12 rfl) rfl 0 rfl ?_
          refine v_get F 61 (xnM (by decide)) xc_61 rfl inlX11 46 (by decide) (tc27 _ (List.mem_of_getElem? (i := 22) rfl)) rfl rfl (dq dkX11_state_1 13 rfl) ?_
          refine v_goto F (tgt := 104) (dq dkX11_state_1 14 rfl) (by decide) ?_
          have h := Option.some.inj h
          subst h
          exact v_iret F E (dq dkX11_state_1 16 rfl)
      · rw [if_pos c2] at h
        refine v_aload_n F (dq dkX11_state_1 6 rfl) rfl 0 rfl ?_
        refine v_get F 61 (xnM (by decide)) xc_61 rfl inlX11 45 (by decide) (tc27 _ (List.mem_of_getElem? (i := 9) rfl)) rfl rfl (dq dkX11_state_1 7 rfl) ?_
        refine v_goto F (tgt := 104) (dq dkX11_state_1 8 rfl) (by decide) ?_
        have h := Option.some.inj h
        subst h
        exact v_iret F E (dq dkX11_state_1 16 rfl)
    · rw [if_neg c1] at h
      refine v_aload_n F (dq dkX11_state_0 22 rfl) rfl 0 rfl ?_
      refine v_get F 61 (xnM (by decide)) xc_61 rfl inlX11 45 (by decide) (tc27 _ (List.mem_of_getElem? (i := 9) rfl)) rfl rfl (dq dkX11_state_0 23 rfl) ?_
      refine v_istore F (ls' := [(5, .int (gi y 61 45)), (0, .ref (K.1 + 61)), (1, .int a1), (2, .int a2), (3, .int a3), (4, .int a4)]) (dq dkX11_state_0 24 rfl) (by decide) rfl ?_
      refine v_aload_n F (dq dkX11_state_0 25 rfl) rfl 1 rfl ?_
      refine v_iload F (dq dkX11_state_0 26 rfl) 5 rfl ?_
      obtain ⟨r4, e5, h⟩ := bd_of h
      refine v_callV 1 F (q := 61) (kc1 := 0) (ks1 := 0) (as := [.int a4]) (st := []) (st1 := []) (res := none) (c_X11_makes (l := C.2.1) x y a4 e5) (xnM (by decide)) xc_61 rfl (tc27 _ (List.mem_of_getElem? (i := 23) rfl)) (tc28 _ (List.mem_of_getElem? (i := 0) rfl)) (tc28 _ (List.mem_of_getElem? (i := 1) rfl)) (tc1 _ (List.mem_of_getElem? (i := 5) rfl)) (tc28 _ (List.mem_of_getElem? (i := 2) rfl)) (by decide) rfl ⟨rfl, rfl, Nat.le_of_ble_eq_true rfl, Nat.le_of_ble_eq_true rfl⟩ ⟨Nat.le_of_ble_eq_true rfl, Nat.le_of_ble_eq_true rfl⟩ rfl (Nat.le_of_ble_eq_true rfl) rfl rfl rfl (dq dkX11_state_0 27 rfl) ?_
      refine v_iload_n F (dq dkX11_state_0 28 rfl) rfl 4 rfl ?_
      refine v_iconst F (v := (-1)) (dq dkX11_state_0 29 rfl) ki_m1 ?_
      refine v_icmp_ne F (tgt := 72) (dq dkX11_state_0 30 rfl) (by decide) (fun c6 => ?_) (fun c6 => ?_)
      · rw [if_neg c6] at h
        refine v_sub [1, 2, 3, 4, 5] rfl ?_
        exact t_X11_state_72 (f_X11_state_32 n) r4 a1 a2 a3 a4 ih h F E
      · rw [if_pos c6] at h
        refine v_aload_n F (dq dkX11_state_0 31 rfl) rfl 1 rfl ?_
        refine v_get F 61 (xnM (by decide)) xc_61 rfl inlX11 45 (by decide) (tc27 _ (List.mem_of_getElem? (i := 9) rfl)) rfl rfl (dq dkX11_state_0 32 rfl) ?_
        refine v_iload F (dq dkX11_state_0 33 rfl) 0 rfl ?_
        refine v_iconst F (v := (-1)) (dq dkX11_state_0 34 rfl) ki_m1 ?_
        refine v_ixor F (dq dkX11_state_0 35 rfl) ?_
        refine v_iand F (dq dkX11_state_0 36 rfl) ?_
        refine v_if_eq F (tgt := 72) (dq dkX11_state_0 37 rfl) (by decide) (fun c7 => ?_) (fun c7 => ?_)
        · rw [if_pos c7] at h
          refine v_sub [1, 2, 3, 4, 5] rfl ?_
          exact t_X11_state_72 (f_X11_state_32 n) r4 a1 a2 a3 a4 ih h F E
        · rw [if_neg c7] at h
          refine v_iload F (dq dkX11_state_0 38 rfl) 5 rfl ?_
          refine v_goto F (tgt := 73) (dq dkX11_state_0 39 rfl) (by decide) ?_
          refine v_sub [1, 2, 3, 5] rfl ?_
          exact t_X11_state_73 (f_X11_state_32 n) r4 a1 a2 a4 a4 ih h F E
def f_X11_state (y : MS) (a1 : Int32) (a2 : Int32) : Option (Int32 × MS) := if (b2i (f_X11_areWorks y a1)) = 0 then (some ((-5), y)) else (if (b2i (f_X11_in a2 0 2)) = 0 then (some ((-7), y)) else ((f_X11_begins y).bind fun r12 => f_X11_state_32 1000 r12 a1 a2 (-1) 0))
set_option maxRecDepth 100000 in
set_option maxHeartbeats 4000000 in
theorem c_X11_state {K : KE} {l : Launch} {R : Int32 × MS} {nn : Nat} (x : CS) (y : MS) (a1 : Int32) (a2 : Int32) (h : f_X11_state y a1 a2 = some R) : MC K l yX11_state cX11_state 6 (some .int) rm_X11_state 0 0 [.ref (K.1 + 61), .int a1, .int a2] (xfM K nn x y) (xfM K nn x R.2) (some (.int R.1)) := by
  unfold f_X11_state at h
  refine mc_of (ls0 := [(0, .ref (K.1 + 61)), (1, .int a1), (2, .int a2)]) (by decide) (Nat.le_of_ble_eq_true rfl) rfl (fun C hl hnm F E => ?_)
  have F : Fx C RX11 cX11_state 6 rm_X11_state K := F
  refine v_aload_n F (dq dkX11_state_0 0 rfl) rfl 0 rfl ?_
  refine v_iload_n F (dq dkX11_state_0 1 rfl) rfl 1 rfl ?_
  refine v_callV 1 F (q := 61) (kc1 := 0) (ks1 := 0) (as := [.int a1]) (st := []) (st1 := (.int (b2i (f_X11_areWorks y a1)) :: [])) (res := (some (.int (b2i (f_X11_areWorks y a1))))) (c_X11_areWorks (l := C.2.1) x y a1) (xnM (by decide)) xc_61 rfl (tc27 _ (List.mem_of_getElem? (i := 10) rfl)) (tc27 _ (List.mem_of_getElem? (i := 11) rfl)) (tc27 _ (List.mem_of_getElem? (i := 12) rfl)) (tc1 _ (List.mem_of_getElem? (i := 5) rfl)) (tc27 _ (List.mem_of_getElem? (i := 13) rfl)) (by decide) rfl ⟨rfl, rfl, Nat.le_of_ble_eq_true rfl, Nat.le_of_ble_eq_true rfl⟩ ⟨Nat.le_of_ble_eq_true rfl, Nat.le_of_ble_eq_true rfl⟩ rfl (Nat.le_of_ble_eq_true rfl) rfl rfl rfl (dq dkX11_state_0 2 rfl) ?_
  refine v_if_ne F (tgt := 11) (dq dkX11_state_0 3 rfl) (by decide) (fun c9 => ?_) (fun c9 => ?_)
  · rw [if_neg c9] at h
    refine v_iload_n F (dq dkX11_state_0 6 rfl) rfl 2 rfl ?_
    refine v_iconst F (v := 0) (dq dkX11_state_0 7 rfl) ki_0 ?_
    refine v_iconst F (v := 2) (dq dkX11_state_0 8 rfl) ki_2 ?_
    refine v_callS 3 F (kc1 := 0) (ks1 := 0) (as := [.int a2, .int 0, .int 2]) (st := []) (st1 := (.int (b2i (f_X11_in a2 0 2)) :: [])) (res := (some (.int (b2i (f_X11_in a2 0 2))))) (c_X11_in (l := C.2.1) a2 0 2) (tc15 _ (List.mem_of_getElem? (i := 1) rfl)) (tc15 _ (List.mem_of_getElem? (i := 2) rfl)) (tc1 _ (List.mem_of_getElem? (i := 5) rfl)) (tc15 _ (List.mem_of_getElem? (i := 3) rfl)) (by decide) rfl ⟨rfl, rfl, Nat.le_of_ble_eq_true rfl, Nat.le_of_ble_eq_true rfl⟩ ⟨Nat.le_of_ble_eq_true rfl, Nat.le_of_ble_eq_true rfl⟩ rfl (Nat.le_of_ble_eq_true rfl) rfl rfl rfl (dq dkX11_state_0 9 rfl) ?_
    refine v_if_ne F (tgt := 23) (dq dkX11_state_0 10 rfl) (by decide) (fun c11 => ?_) (fun c11 => ?_)
    · rw [if_neg c11] at h
      refine v_aload_n F (dq dkX11_state_0 13 rfl) rfl 0 rfl ?_
      obtain ⟨r12, e13, h⟩ := bd_of h
      refine v_callV 0 F (q := 61) (kc1 := 0) (ks1 := 0) (as := []) (st := []) (st1 := []) (res := none) (c_X11_begins (l := C.2.1) x y e13) (xnM (by decide)) xc_61 rfl (tc27 _ (List.mem_of_getElem? (i := 18) rfl)) (tc27 _ (List.mem_of_getElem? (i := 19) rfl)) (tc27 _ (List.mem_of_getElem? (i := 20) rfl)) (tc1 _ (List.mem_of_getElem? (i := 5) rfl)) (tc27 _ (List.mem_of_getElem? (i := 21) rfl)) (by decide) rfl ⟨rfl, rfl, Nat.le_of_ble_eq_true rfl, Nat.le_of_ble_eq_true rfl⟩ ⟨Nat.le_of_ble_eq_true rfl, Nat.le_of_ble_eq_true rfl⟩ rfl (Nat.le_of_ble_eq_true rfl) rfl rfl rfl (dq dkX11_state_0 14 rfl) ?_
      refine v_iconst F (v := (-1)) (dq dkX11_state_0 15 rfl) ki_m1 ?_
      refine v_istore_n F (ls' := [(3, .int (-1)), (0, .ref (K.1 + 61)), (1, .int a1), (2, .int a2)]) (dq dkX11_state_0 16 rfl) rfl (by decide) rfl ?_
      refine v_iconst F (v := 0) (dq dkX11_state_0 17 rfl) ki_0 ?_
      refine v_istore F (ls' := [(4, .int 0), (3, .int (-1)), (0, .ref (K.1 + 61)), (1, .int a1), (2, .int a2)]) (dq dkX11_state_0 18 rfl) (by decide) rfl ?_
      refine v_sub [2, 3, 4, 1, 0] rfl ?_
      exact t_X11_state_32 F E 1000 r12 a1 a2 (-1) 0 h
    · rw [if_pos c11] at h
      refine v_bipush F (v := (-7)) (dq dkX11_state_0 11 rfl) kb_m7 ?_
      have h := Option.some.inj h
      subst h
      exact v_iret F E (dq dkX11_state_0 12 rfl)
  · rw [if_pos c9] at h
    refine v_bipush F (v := (-5)) (dq dkX11_state_0 4 rfl) kb_m5 ?_
    have h := Option.some.inj h
    subst h
    exact v_iret F E (dq dkX11_state_0 5 rfl)
def rm_X11_daysBy : Room := { frames := 2, cells := 0, slots := 0, locals := 52 }
def f_X11_daysBy_5 (y : MS) : Nat → Int32 → Int32 → Int32 → Int32 → Option (Int32)
  | 0, _, _, _, _ => none
  | n + 1, a1, a2, a3, a4 => if a1 ≤ a4 then (some a3) else ((f_X11_daysOf y a4).bind fun r2 => (f_X11_by r2 a2).bind fun r4 => (f_X11_daysBy_5 y n) a1 a2 (a3 + r4) (a4 + 1))
set_option maxRecDepth 100000 in
set_option maxHeartbeats 4000000 in
theorem t_X11_daysBy_5 {C : Cx} {K : KE} {nn : Nat} {x : CS} {R : Int32}  (y : MS) (F : Fx C RX11 cX11_daysBy 5 rm_X11_daysBy K) (E : CE C (xfM K nn x y) (some (.int R)) 0 0 (some .int)) : ∀ (n : Nat) (a1 : Int32) (a2 : Int32) (a3 : Int32) (a4 : Int32) (h : f_X11_daysBy_5 y n a1 a2 a3 a4 = some R), V C 5 [(0, .ref (K.1 + 61)), (1, .int a1), (2, .int a2), (3, .int a3), (4, .int a4)] [] (xfM K nn x y) 0 0 := by
  intro n
  induction n with
  | zero => intro a1 a2 a3 a4 h; cases h
  | succ n ih =>
    intro a1 a2 a3 a4 h
    rw [f_X11_daysBy_5] at h
    refine v_iload F (dq dkX11_daysBy_0 4 rfl) 4 rfl ?_
    refine v_iload_n F (dq dkX11_daysBy_0 5 rfl) rfl 1 rfl ?_
    refine v_icmp_ge F (tgt := 30) (dq dkX11_daysBy_0 6 rfl) (by decide) (fun c1 => ?_) (fun c1 => ?_)
    · rw [if_pos c1] at h
      refine v_iload_n F (dq dkX11_daysBy_0 17 rfl) rfl 3 rfl ?_
      have h := Option.some.inj h
      subst h
      exact v_iret F E (dq dkX11_daysBy_0 18 rfl)
    · rw [if_neg c1] at h
      refine v_iload_n F (dq dkX11_daysBy_0 7 rfl) rfl 3 rfl ?_
      refine v_aload_n F (dq dkX11_daysBy_0 8 rfl) rfl 0 rfl ?_
      refine v_iload F (dq dkX11_daysBy_0 9 rfl) 4 rfl ?_
      obtain ⟨r2, e3, h⟩ := bd_of h
      refine v_callV 1 F (q := 61) (kc1 := 0) (ks1 := 0) (as := [.int a4]) (st := [.int a3]) (st1 := (.int r2 :: [.int a3])) (res := (some (.int r2))) (c_X11_daysOf (l := C.2.1) x y a4 e3) (xnM (by decide)) xc_61 rfl (tc24 _ (List.mem_of_getElem? (i := 12) rfl)) (tc24 _ (List.mem_of_getElem? (i := 13) rfl)) (tc24 _ (List.mem_of_getElem? (i := 14) rfl)) (tc1 _ (List.mem_of_getElem? (i := 5) rfl)) (tc24 _ (List.mem_of_getElem? (i := 15) rfl)) (by decide) rfl ⟨rfl, rfl, Nat.le_of_ble_eq_true rfl, Nat.le_of_ble_eq_true rfl⟩ ⟨Nat.le_of_ble_eq_true rfl, Nat.le_of_ble_eq_true rfl⟩ rfl (Nat.le_of_ble_eq_true rfl) rfl rfl rfl (dq dkX11_daysBy_0 10 rfl) ?_
      refine v_iload_n F (dq dkX11_daysBy_0 11 rfl) rfl 2 rfl ?_
      obtain ⟨r4, e5, h⟩ := bd_of h
      refine v_callS 2 F (kc1 := 0) (ks1 := 0) (as := [.int r2, .int a2]) (st := [.int a3]) (st1 := (.int r4 :: [.int a3])) (res := (some (.int r4))) (c_X11_by (l := C.2.1) r2 a2 e5) (tc24 _ (List.mem_of_getElem? (i := 16) rfl)) (tc24 _ (List.mem_of_getElem? (i := 17) rfl)) (tc1 _ (List.mem_of_getElem? (i := 5) rfl)) (tc24 _ (List.mem_of_getElem? (i := 18) rfl)) (by decide) rfl ⟨rfl, rfl, Nat.le_of_ble_eq_true rfl, Nat.le_of_ble_eq_true rfl⟩ ⟨Nat.le_of_ble_eq_true rfl, Nat.le_of_ble_eq_true rfl⟩ rfl (Nat.le_of_ble_eq_true rfl) rfl rfl rfl (dq dkX11_daysBy_0 12 rfl) ?_
      refine v_iadd F (dq dkX11_daysBy_0 13 rfl) ?_
      refine v_istore_n F (ls' := [(3, .int (a3 + r4)), (0, .ref (K.1 + 61)), (1, .int a1), (2, .int a2), (4, .int a4)]) (dq dkX11_daysBy_0 14 rfl) rfl (by decide) rfl ?_
      refine v_iinc F (v := a4 + 1) (ls' := [(4, .int (a4 + 1)), (3, .int (a3 + r4)), (0, .ref (K.1 + 61)), (1, .int a1), (2, .int a2)]) (dq dkX11_daysBy_0 15 rfl) (j := 4) rfl (kv_add ki_1) (by decide) rfl ?_
      refine v_goto F (tgt := 5) (dq dkX11_daysBy_0 16 rfl) (by decide) ?_
      refine v_sub [2, 3, 4, 1, 0] rfl ?_
      exact ih a1 a2 (a3 + r4) (a4 + 1) h
def f_X11_daysBy (y : MS) (a1 : Int32) (a2 : Int32) : Option (Int32) := f_X11_daysBy_5 y 1000 a1 a2 0 0
set_option maxRecDepth 100000 in
set_option maxHeartbeats 4000000 in
theorem c_X11_daysBy {K : KE} {l : Launch} {R : Int32} {nn : Nat} (x : CS) (y : MS) (a1 : Int32) (a2 : Int32) (h : f_X11_daysBy y a1 a2 = some R) : MC K l yX11_daysBy cX11_daysBy 5 (some .int) rm_X11_daysBy 0 0 [.ref (K.1 + 61), .int a1, .int a2] (xfM K nn x y) (xfM K nn x y) (some (.int R)) := by
  unfold f_X11_daysBy at h
  refine mc_of (ls0 := [(0, .ref (K.1 + 61)), (1, .int a1), (2, .int a2)]) (by decide) (Nat.le_of_ble_eq_true rfl) rfl (fun C hl hnm F E => ?_)
  have F : Fx C RX11 cX11_daysBy 5 rm_X11_daysBy K := F
  refine v_iconst F (v := 0) (dq dkX11_daysBy_0 0 rfl) ki_0 ?_
  refine v_istore_n F (ls' := [(3, .int 0), (0, .ref (K.1 + 61)), (1, .int a1), (2, .int a2)]) (dq dkX11_daysBy_0 1 rfl) rfl (by decide) rfl ?_
  refine v_iconst F (v := 0) (dq dkX11_daysBy_0 2 rfl) ki_0 ?_
  refine v_istore F (ls' := [(4, .int 0), (3, .int 0), (0, .ref (K.1 + 61)), (1, .int a1), (2, .int a2)]) (dq dkX11_daysBy_0 3 rfl) (by decide) rfl ?_
  refine v_sub [2, 3, 4, 1, 0] rfl ?_
  exact t_X11_daysBy_5 y F E 1000 a1 a2 0 0 h
def rm_X11_days : Room := { frames := 3, cells := 0, slots := 0, locals := 76 }
def f_X11_days_73 (k28 : Int32 → Int32 → Int32 → Int32 → Option (Int32)) (y : MS) (a1 : Int32) (a2 : Int32) (a4 : Int32) (s0 : Int32) : Option (Int32) := k28 a1 a2 s0 (a4 + 1)
set_option maxRecDepth 100000 in
set_option maxHeartbeats 4000000 in
theorem t_X11_days_73 {C : Cx} {K : KE} {nn : Nat} {x : CS} {R : Int32}  (k28 : Int32 → Int32 → Int32 → Int32 → Option (Int32)) (y : MS) (a1 : Int32) (a2 : Int32) (a4 : Int32) (s0 : Int32) (hk28 : ∀ (a1 : Int32) (a2 : Int32) (a3 : Int32) (a4 : Int32), k28 a1 a2 a3 a4 = some R → V C 28 [(0, .ref (K.1 + 61)), (1, .int a1), (2, .int a2), (3, .int a3), (4, .int a4)] [] (xfM K nn x y) 0 0) (h : f_X11_days_73 k28 y a1 a2 a4 s0 = some R) (F : Fx C RX11 cX11_days 5 rm_X11_days K) (E : CE C (xfM K nn x y) (some (.int R)) 0 0 (some .int)) : V C 73 [(0, .ref (K.1 + 61)), (1, .int a1), (2, .int a2), (4, .int a4)] [.int s0] (xfM K nn x y) 0 0 := by
  unfold f_X11_days_73 at h
  refine v_istore_n F (ls' := [(3, .int s0), (0, .ref (K.1 + 61)), (1, .int a1), (2, .int a2), (4, .int a4)]) (dq dkX11_days_0 39 rfl) rfl (by decide) rfl ?_
  refine v_iinc F (v := a4 + 1) (ls' := [(4, .int (a4 + 1)), (3, .int s0), (0, .ref (K.1 + 61)), (1, .int a1), (2, .int a2)]) (dq dkX11_days_1 0 rfl) (j := 4) rfl (kv_add ki_1) (by decide) rfl ?_
  refine v_goto F (tgt := 28) (dq dkX11_days_1 1 rfl) (by decide) ?_
  refine v_sub [2, 3, 4, 1, 0] rfl ?_
  exact hk28 a1 a2 s0 (a4 + 1) h
def f_X11_days_67 (k28 : Int32 → Int32 → Int32 → Int32 → Option (Int32)) (y : MS) (a1 : Int32) (a2 : Int32) (a4 : Int32) : Option (Int32) := f_X11_days_73 k28 y a1 a2 a4 a4
set_option maxRecDepth 100000 in
set_option maxHeartbeats 4000000 in
theorem t_X11_days_67 {C : Cx} {K : KE} {nn : Nat} {x : CS} {R : Int32}  (k28 : Int32 → Int32 → Int32 → Int32 → Option (Int32)) (y : MS) (a1 : Int32) (a2 : Int32) (a4 : Int32) (hk28 : ∀ (a1 : Int32) (a2 : Int32) (a3 : Int32) (a4 : Int32), k28 a1 a2 a3 a4 = some R → V C 28 [(0, .ref (K.1 + 61)), (1, .int a1), (2, .int a2), (3, .int a3), (4, .int a4)] [] (xfM K nn x y) 0 0) (h : f_X11_days_67 k28 y a1 a2 a4 = some R) (F : Fx C RX11 cX11_days 5 rm_X11_days K) (E : CE C (xfM K nn x y) (some (.int R)) 0 0 (some .int)) : V C 67 [(0, .ref (K.1 + 61)), (1, .int a1), (2, .int a2), (4, .int a4)] [] (xfM K nn x y) 0 0 := by
  unfold f_X11_days_67 at h
  refine v_iload F (dq dkX11_days_0 36 rfl) 3 rfl ?_
  refine v_goto F (tgt := 73) (dq dkX11_days_0 37 rfl) (by decide) ?_
  exact t_X11_days_73 k28 y a1 a2 a4 a4 hk28 h F E
def f_X11_days_28 (y : MS) : Nat → Int32 → Int32 → Int32 → Int32 → Option (Int32)
  | 0, _, _, _, _ => none
  | n + 1, a1, a2, a3, a4 => if a1 ≤ a4 then (if a2 = 0 then ((f_X11_daysBy y a1 (gi y 61 4)).bind fun r3 => some r3) else (some a3)) else (if a3 = (-1) then (f_X11_days_67 (f_X11_days_28 y n) y a1 a2 a4) else ((f_X11_daysOf y a4).bind fun r6 => (f_X11_by r6 (gi y 61 4)).bind fun r8 => (f_X11_daysOf y a3).bind fun r10 => (f_X11_by r10 (gi y 61 4)).bind fun r12 => if r8 ≤ r12 then (f_X11_days_73 (f_X11_days_28 y n) y a1 a2 a4 a3) else (f_X11_days_67 (f_X11_days_28 y n) y a1 a2 a4)))
set_option maxRecDepth 100000 in
set_option maxHeartbeats 4000000 in
theorem t_X11_days_28 {C : Cx} {K : KE} {nn : Nat} {x : CS} {R : Int32}  (y : MS) (F : Fx C RX11 cX11_days 5 rm_X11_days K) (E : CE C (xfM K nn x y) (some (.int R)) 0 0 (some .int)) : ∀ (n : Nat) (a1 : Int32) (a2 : Int32) (a3 : Int32) (a4 : Int32) (h : f_X11_days_28 y n a1 a2 a3 a4 = some R), V C 28 [(0, .ref (K.1 + 61)), (1, .int a1), (2, .int a2), (3, .int a3), (4, .int a4)] [] (xfM K nn x y) 0 0 := by
  intro n
  induction n with
  | zero => intro a1 a2 a3 a4 h; cases h
  | succ n ih =>
    intro a1 a2 a3 a4 h
    rw [f_X11_days_28] at h
    refine v_iload F (dq dkX11_days_0 17 rfl) 4 rfl ?_
    refine v_iload_n F (dq dkX11_days_0 18 rfl) rfl 1 rfl ?_
    refine v_icmp_ge F (tgt := 80) (dq dkX11_days_0 19 rfl) (by decide) (fun c1 => ?_) (fun c1 => ?_)
    · rw [if_pos c1] at h
      refine v_iload_n F (dq dkX11_days_1 2 rfl) rfl 2 rfl ?_
      refine v_if_ne F (tgt := 96) (dq dkX11_days_1 3 rfl) (by decide) (fun c2 => ?_) (fun c2 => ?_)
      · rw [if_neg c2] at h
        refine v_iload_n F (dq dkX11_days_1 10 rfl) rfl 3 rfl ?_
        have h := Option.some.inj h
        subst h
        exact v_iret F E (dq dkX11_days_1 11 rfl)
      · rw [if_pos c2] at h
        refine v_aload_n F (dq dkX11_days_1 4 rfl) rfl 0 rfl ?_
        refine v_iload_n F (dq dkX11_days_1 5 rfl) rfl 1 rfl ?_
        refine v_aload_n F (dq dkX11_days_1 6 rfl) rfl 0 rfl ?_
        refine v_get F 61 (xnM (by decide)) xc_61 rfl inlX11 4 (by decide) (tc11 _ (List.mem_of_getElem? (i := 20) rfl)) rfl rfl (dq dkX11_days_1 7 rfl) ?_
        obtain ⟨r3, e4, h⟩ := bd_of h
        refine v_callV 2 F (q := 61) (kc1 := 0) (ks1 := 0) (as := [.int a1, .int (gi y 61 4)]) (st := []) (st1 := (.int r3 :: [])) (res := (some (.int r3))) (c_X11_daysBy (l := C.2.1) x y a1 (gi y 61 4) e4) (xnM (by decide)) xc_61 rfl (tc30 _ (List.mem_of_getElem? (i := 17) rfl)) (tc30 _ (List.mem_of_getElem? (i := 18) rfl)) (tc30 _ (List.mem_of_getElem? (i := 19) rfl)) (tc1 _ (List.mem_of_getElem? (i := 5) rfl)) (tc30 _ (List.mem_of_getElem? (i := 20) rfl)) (by decide) rfl ⟨rfl, rfl, Nat.le_of_ble_eq_true rfl, Nat.le_of_ble_eq_true rfl⟩ ⟨Nat.le_of_ble_eq_true rfl, Nat.le_of_ble_eq_true rfl⟩ rfl (Nat.le_of_ble_eq_true rfl) rfl rfl rfl (dq dkX11_days_1 8 rfl) ?_
        refine v_goto F (tgt := 97) (dq dkX11_days_1 9 rfl) (by decide) ?_
        have h := Option.some.inj h
        subst h
        exact v_iret F E (dq dkX11_days_1 11 rfl)
    · rw [if_neg c1] at h
      refine v_iload_n F (dq dkX11_days_0 20 rfl) rfl 3 rfl ?_
      refine v_iconst F (v := (-1)) (dq dkX11_days_0 21 rfl) ki_m1 ?_
      refine v_icmp_eq F (tgt := 67) (dq dkX11_days_0 22 rfl) (by decide) (fun c5 => ?_) (fun c5 => ?_)
      · rw [if_pos c5] at h
        refine v_sub [0, 1, 2, 4] rfl ?_
        exact t_X11_days_67 (f_X11_days_28 y n) y a1 a2 a4 ih h F E
      · rw [if_neg c5] at h
        refine v_aload_n F (dq dkX11_days_0 23 rfl) rfl 0 rfl ?_
        refine v_iload F (dq dkX11_days_0 24 rfl) 4 rfl ?_
        obtain ⟨r6, e7, h⟩ := bd_of h
        refine v_callV 1 F (q := 61) (kc1 := 0) (ks1 := 0) (as := [.int a4]) (st := []) (st1 := (.int r6 :: [])) (res := (some (.int r6))) (c_X11_daysOf (l := C.2.1) x y a4 e7) (xnM (by decide)) xc_61 rfl (tc24 _ (List.mem_of_getElem? (i := 12) rfl)) (tc24 _ (List.mem_of_getElem? (i := 13) rfl)) (tc24 _ (List.mem_of_getElem? (i := 14) rfl)) (tc1 _ (List.mem_of_getElem? (i := 5) rfl)) (tc24 _ (List.mem_of_getElem? (i := 15) rfl)) (by decide) rfl ⟨rfl, rfl, Nat.le_of_ble_eq_true rfl, Nat.le_of_ble_eq_true rfl⟩ ⟨Nat.le_of_ble_eq_true rfl, Nat.le_of_ble_eq_true rfl⟩ rfl (Nat.le_of_ble_eq_true rfl) rfl rfl rfl (dq dkX11_days_0 25 rfl) ?_
        refine v_aload_n F (dq dkX11_days_0 26 rfl) rfl 0 rfl ?_
        refine v_get F 61 (xnM (by decide)) xc_61 rfl inlX11 4 (by decide) (tc11 _ (List.mem_of_getElem? (i := 20) rfl)) rfl rfl (dq dkX11_days_0 27 rfl) ?_
        obtain ⟨r8, e9, h⟩ := bd_of h
        refine v_callS 2 F (kc1 := 0) (ks1 := 0) (as := [.int r6, .int (gi y 61 4)]) (st := []) (st1 := (.int r8 :: [])) (res := (some (.int r8))) (c_X11_by (l := C.2.1) r6 (gi y 61 4) e9) (tc24 _ (List.mem_of_getElem? (i := 16) rfl)) (tc24 _ (List.mem_of_getElem? (i := 17) rfl)) (tc1 _ (List.mem_of_getElem? (i := 5) rfl)) (tc24 _ (List.mem_of_getElem? (i := 18) rfl)) (by decide) rfl ⟨rfl, rfl, Nat.le_of_ble_eq_true rfl, Nat.le_of_ble_eq_true rfl⟩ ⟨Nat.le_of_ble_eq_true rfl, Nat.le_of_ble_eq_true rfl⟩ rfl (Nat.le_of_ble_eq_true rfl) rfl rfl rfl (dq dkX11_days_0 28 rfl) ?_
        refine v_aload_n F (dq dkX11_days_0 29 rfl) rfl 0 rfl ?_
        refine v_iload_n F (dq dkX11_days_0 30 rfl) rfl 3 rfl ?_
        obtain ⟨r10, e11, h⟩ := bd_of h
        refine v_callV 1 F (q := 61) (kc1 := 0) (ks1 := 0) (as := [.int a3]) (st := [.int r8]) (st1 := (.int r10 :: [.int r8])) (res := (some (.int r10))) (c_X11_daysOf (l := C.2.1) x y a3 e11) (xnM (by decide)) xc_61 rfl (tc24 _ (List.mem_of_getElem? (i := 12) rfl)) (tc24 _ (List.mem_of_getElem? (i := 13) rfl)) (tc24 _ (List.mem_of_getElem? (i := 14) rfl)) (tc1 _ (List.mem_of_getElem? (i := 5) rfl)) (tc24 _ (List.mem_of_getElem? (i := 15) rfl)) (by decide) rfl ⟨rfl, rfl, Nat.le_of_ble_eq_true rfl, Nat.le_of_ble_eq_true rfl⟩ ⟨Nat.le_of_ble_eq_true rfl, Nat.le_of_ble_eq_true rfl⟩ rfl (Nat.le_of_ble_eq_true rfl) rfl rfl rfl (dq dkX11_days_0 31 rfl) ?_
        refine v_aload_n F (dq dkX11_days_0 32 rfl) rfl 0 rfl ?_
        refine v_get F 61 (xnM (by decide)) xc_61 rfl inlX11 4 (by decide) (tc11 _ (List.mem_of_getElem? (i := 20) rfl)) rfl rfl (dq dkX11_days_0 33 rfl) ?_
        obtain ⟨r12, e13, h⟩ := bd_of h
        refine v_callS 2 F (kc1 := 0) (ks1 := 0) (as := [.int r10, .int (gi y 61 4)]) (st := [.int r8]) (st1 := (.int r12 :: [.int r8])) (res := (some (.int r12))) (c_X11_by (l := C.2.1) r10 (gi y 61 4) e13) (tc24 _ (List.mem_of_getElem? (i := 16) rfl)) (tc24 _ (List.mem_of_getElem? (i := 17) rfl)) (tc1 _ (List.mem_of_getElem? (i := 5) rfl)) (tc24 _ (List.mem_of_getElem? (i := 18) rfl)) (by decide) rfl ⟨rfl, rfl, Nat.le_of_ble_eq_true rfl, Nat.le_of_ble_eq_true rfl⟩ ⟨Nat.le_of_ble_eq_true rfl, Nat.le_of_ble_eq_true rfl⟩ rfl (Nat.le_of_ble_eq_true rfl) rfl rfl rfl (dq dkX11_days_0 34 rfl) ?_
        refine v_icmp_le F (tgt := 72) (dq dkX11_days_0 35 rfl) (by decide) (fun c14 => ?_) (fun c14 => ?_)
        · rw [if_pos c14] at h
          refine v_iload_n F (dq dkX11_days_0 38 rfl) rfl 3 rfl ?_
          refine v_sub [0, 1, 2, 4] rfl ?_
          exact t_X11_days_73 (f_X11_days_28 y n) y a1 a2 a4 a3 ih h F E
        · rw [if_neg c14] at h
          refine v_sub [0, 1, 2, 4] rfl ?_
          exact t_X11_days_67 (f_X11_days_28 y n) y a1 a2 a4 ih h F E
def f_X11_days (y : MS) (a1 : Int32) (a2 : Int32) : Option (Int32) := if (b2i (f_X11_areWorks y a1)) = 0 then (some (-5)) else (if (b2i (f_X11_in a2 0 1)) = 0 then (some (-7)) else (f_X11_days_28 y 1000 a1 a2 (-1) 0))
set_option maxRecDepth 100000 in
set_option maxHeartbeats 4000000 in
theorem c_X11_days {K : KE} {l : Launch} {R : Int32} {nn : Nat} (x : CS) (y : MS) (a1 : Int32) (a2 : Int32) (h : f_X11_days y a1 a2 = some R) : MC K l yX11_days cX11_days 5 (some .int) rm_X11_days 0 0 [.ref (K.1 + 61), .int a1, .int a2] (xfM K nn x y) (xfM K nn x y) (some (.int R)) := by
  unfold f_X11_days at h
  refine mc_of (ls0 := [(0, .ref (K.1 + 61)), (1, .int a1), (2, .int a2)]) (by decide) (Nat.le_of_ble_eq_true rfl) rfl (fun C hl hnm F E => ?_)
  have F : Fx C RX11 cX11_days 5 rm_X11_days K := F
  refine v_aload_n F (dq dkX11_days_0 0 rfl) rfl 0 rfl ?_
  refine v_iload_n F (dq dkX11_days_0 1 rfl) rfl 1 rfl ?_
  refine v_callV 1 F (q := 61) (kc1 := 0) (ks1 := 0) (as := [.int a1]) (st := []) (st1 := (.int (b2i (f_X11_areWorks y a1)) :: [])) (res := (some (.int (b2i (f_X11_areWorks y a1))))) (c_X11_areWorks (l := C.2.1) x y a1) (xnM (by decide)) xc_61 rfl (tc27 _ (List.mem_of_getElem? (i := 10) rfl)) (tc27 _ (List.mem_of_getElem? (i := 11) rfl)) (tc27 _ (List.mem_of_getElem? (i := 12) rfl)) (tc1 _ (List.mem_of_getElem? (i := 5) rfl)) (tc27 _ (List.mem_of_getElem? (i := 13) rfl)) (by decide) rfl ⟨rfl, rfl, Nat.le_of_ble_eq_true rfl, Nat.le_of_ble_eq_true rfl⟩ ⟨Nat.le_of_ble_eq_true rfl, Nat.le_of_ble_eq_true rfl⟩ rfl (Nat.le_of_ble_eq_true rfl) rfl rfl rfl (dq dkX11_days_0 2 rfl) ?_
  refine v_if_ne F (tgt := 11) (dq dkX11_days_0 3 rfl) (by decide) (fun c16 => ?_) (fun c16 => ?_)
  · rw [if_neg c16] at h
    refine v_iload_n F (dq dkX11_days_0 6 rfl) rfl 2 rfl ?_
    refine v_iconst F (v := 0) (dq dkX11_days_0 7 rfl) ki_0 ?_
    refine v_iconst F (v := 1) (dq dkX11_days_0 8 rfl) ki_1 ?_
    refine v_callS 3 F (kc1 := 0) (ks1 := 0) (as := [.int a2, .int 0, .int 1]) (st := []) (st1 := (.int (b2i (f_X11_in a2 0 1)) :: [])) (res := (some (.int (b2i (f_X11_in a2 0 1))))) (c_X11_in (l := C.2.1) a2 0 1) (tc15 _ (List.mem_of_getElem? (i := 1) rfl)) (tc15 _ (List.mem_of_getElem? (i := 2) rfl)) (tc1 _ (List.mem_of_getElem? (i := 5) rfl)) (tc15 _ (List.mem_of_getElem? (i := 3) rfl)) (by decide) rfl ⟨rfl, rfl, Nat.le_of_ble_eq_true rfl, Nat.le_of_ble_eq_true rfl⟩ ⟨Nat.le_of_ble_eq_true rfl, Nat.le_of_ble_eq_true rfl⟩ rfl (Nat.le_of_ble_eq_true rfl) rfl rfl rfl (dq dkX11_days_0 9 rfl) ?_
    refine v_if_ne F (tgt := 23) (dq dkX11_days_0 10 rfl) (by decide) (fun c18 => ?_) (fun c18 => ?_)
    · rw [if_neg c18] at h
      refine v_iconst F (v := (-1)) (dq dkX11_days_0 13 rfl) ki_m1 ?_
      refine v_istore_n F (ls' := [(3, .int (-1)), (0, .ref (K.1 + 61)), (1, .int a1), (2, .int a2)]) (dq dkX11_days_0 14 rfl) rfl (by decide) rfl ?_
      refine v_iconst F (v := 0) (dq dkX11_days_0 15 rfl) ki_0 ?_
      refine v_istore F (ls' := [(4, .int 0), (3, .int (-1)), (0, .ref (K.1 + 61)), (1, .int a1), (2, .int a2)]) (dq dkX11_days_0 16 rfl) (by decide) rfl ?_
      refine v_sub [2, 3, 4, 1, 0] rfl ?_
      exact t_X11_days_28 y F E 1000 a1 a2 (-1) 0 h
    · rw [if_pos c18] at h
      refine v_bipush F (v := (-7)) (dq dkX11_days_0 11 rfl) kb_m7 ?_
      have h := Option.some.inj h
      subst h
      exact v_iret F E (dq dkX11_days_0 12 rfl)
  · rw [if_pos c16] at h
    refine v_bipush F (v := (-5)) (dq dkX11_days_0 4 rfl) kb_m5 ?_
    have h := Option.some.inj h
    subst h
    exact v_iret F E (dq dkX11_days_0 5 rfl)
def rm_X11_fewest : Room := { frames := 3, cells := 0, slots := 0, locals := 76 }
def f_X11_fewest_27 (y : MS) : Nat → Int32 → Int32 → Int32 → Option (Int32)
  | 0, _, _, _ => none
  | n + 1, a1, a2, a3 => if 5 < a3 then (some (-1)) else ((f_X11_daysBy y a1 a3).bind fun r2 => if a2 < r2 then ((f_X11_fewest_27 y n) a1 a2 (a3 + 1)) else (some a3))
set_option maxRecDepth 100000 in
set_option maxHeartbeats 4000000 in
theorem t_X11_fewest_27 {C : Cx} {K : KE} {nn : Nat} {x : CS} {R : Int32}  (y : MS) (F : Fx C RX11 cX11_fewest 4 rm_X11_fewest K) (E : CE C (xfM K nn x y) (some (.int R)) 0 0 (some .int)) : ∀ (n : Nat) (a1 : Int32) (a2 : Int32) (a3 : Int32) (h : f_X11_fewest_27 y n a1 a2 a3 = some R), V C 27 [(0, .ref (K.1 + 61)), (1, .int a1), (2, .int a2), (3, .int a3)] [] (xfM K nn x y) 0 0 := by
  intro n
  induction n with
  | zero => intro a1 a2 a3 h; cases h
  | succ n ih =>
    intro a1 a2 a3 h
    rw [f_X11_fewest_27] at h
    refine v_iload_n F (dq dkX11_fewest_0 15 rfl) rfl 3 rfl ?_
    refine v_iconst F (v := 5) (dq dkX11_fewest_0 16 rfl) ki_5 ?_
    refine v_icmp_gt F (tgt := 50) (dq dkX11_fewest_0 17 rfl) (by decide) (fun c1 => ?_) (fun c1 => ?_)
    · rw [if_pos c1] at h
      refine v_iconst F (v := (-1)) (dq dkX11_fewest_0 28 rfl) ki_m1 ?_
      have h := Option.some.inj h
      subst h
      exact v_iret F E (dq dkX11_fewest_0 29 rfl)
    · rw [if_neg c1] at h
      refine v_aload_n F (dq dkX11_fewest_0 18 rfl) rfl 0 rfl ?_
      refine v_iload_n F (dq dkX11_fewest_0 19 rfl) rfl 1 rfl ?_
      refine v_iload_n F (dq dkX11_fewest_0 20 rfl) rfl 3 rfl ?_
      obtain ⟨r2, e3, h⟩ := bd_of h
      refine v_callV 2 F (q := 61) (kc1 := 0) (ks1 := 0) (as := [.int a1, .int a3]) (st := []) (st1 := (.int r2 :: [])) (res := (some (.int r2))) (c_X11_daysBy (l := C.2.1) x y a1 a3 e3) (xnM (by decide)) xc_61 rfl (tc30 _ (List.mem_of_getElem? (i := 17) rfl)) (tc30 _ (List.mem_of_getElem? (i := 18) rfl)) (tc30 _ (List.mem_of_getElem? (i := 19) rfl)) (tc1 _ (List.mem_of_getElem? (i := 5) rfl)) (tc30 _ (List.mem_of_getElem? (i := 20) rfl)) (by decide) rfl ⟨rfl, rfl, Nat.le_of_ble_eq_true rfl, Nat.le_of_ble_eq_true rfl⟩ ⟨Nat.le_of_ble_eq_true rfl, Nat.le_of_ble_eq_true rfl⟩ rfl (Nat.le_of_ble_eq_true rfl) rfl rfl rfl (dq dkX11_fewest_0 21 rfl) ?_
      refine v_iload_n F (dq dkX11_fewest_0 22 rfl) rfl 2 rfl ?_
      refine v_icmp_gt F (tgt := 44) (dq dkX11_fewest_0 23 rfl) (by decide) (fun c4 => ?_) (fun c4 => ?_)
      · rw [if_pos c4] at h
        refine v_iinc F (v := a3 + 1) (ls' := [(3, .int (a3 + 1)), (0, .ref (K.1 + 61)), (1, .int a1), (2, .int a2)]) (dq dkX11_fewest_0 26 rfl) (j := 3) rfl (kv_add ki_1) (by decide) rfl ?_
        refine v_goto F (tgt := 27) (dq dkX11_fewest_0 27 rfl) (by decide) ?_
        refine v_sub [1, 2, 3, 0] rfl ?_
        exact ih a1 a2 (a3 + 1) h
      · rw [if_neg c4] at h
        refine v_iload_n F (dq dkX11_fewest_0 24 rfl) rfl 3 rfl ?_
        have h := Option.some.inj h
        subst h
        exact v_iret F E (dq dkX11_fewest_0 25 rfl)
def f_X11_fewest (y : MS) (a1 : Int32) (a2 : Int32) : Option (Int32) := if (b2i (f_X11_areWorks y a1)) = 0 then (some (-5)) else (if (b2i (f_X11_in a2 0 999)) = 0 then (some (-7)) else (f_X11_fewest_27 y 1000 a1 a2 1))
set_option maxRecDepth 100000 in
set_option maxHeartbeats 4000000 in
theorem c_X11_fewest {K : KE} {l : Launch} {R : Int32} {nn : Nat} (x : CS) (y : MS) (a1 : Int32) (a2 : Int32) (h : f_X11_fewest y a1 a2 = some R) : MC K l yX11_fewest cX11_fewest 4 (some .int) rm_X11_fewest 0 0 [.ref (K.1 + 61), .int a1, .int a2] (xfM K nn x y) (xfM K nn x y) (some (.int R)) := by
  unfold f_X11_fewest at h
  refine mc_of (ls0 := [(0, .ref (K.1 + 61)), (1, .int a1), (2, .int a2)]) (by decide) (Nat.le_of_ble_eq_true rfl) rfl (fun C hl hnm F E => ?_)
  have F : Fx C RX11 cX11_fewest 4 rm_X11_fewest K := F
  refine v_aload_n F (dq dkX11_fewest_0 0 rfl) rfl 0 rfl ?_
  refine v_iload_n F (dq dkX11_fewest_0 1 rfl) rfl 1 rfl ?_
  refine v_callV 1 F (q := 61) (kc1 := 0) (ks1 := 0) (as := [.int a1]) (st := []) (st1 := (.int (b2i (f_X11_areWorks y a1)) :: [])) (res := (some (.int (b2i (f_X11_areWorks y a1))))) (c_X11_areWorks (l := C.2.1) x y a1) (xnM (by decide)) xc_61 rfl (tc27 _ (List.mem_of_getElem? (i := 10) rfl)) (tc27 _ (List.mem_of_getElem? (i := 11) rfl)) (tc27 _ (List.mem_of_getElem? (i := 12) rfl)) (tc1 _ (List.mem_of_getElem? (i := 5) rfl)) (tc27 _ (List.mem_of_getElem? (i := 13) rfl)) (by decide) rfl ⟨rfl, rfl, Nat.le_of_ble_eq_true rfl, Nat.le_of_ble_eq_true rfl⟩ ⟨Nat.le_of_ble_eq_true rfl, Nat.le_of_ble_eq_true rfl⟩ rfl (Nat.le_of_ble_eq_true rfl) rfl rfl rfl (dq dkX11_fewest_0 2 rfl) ?_
  refine v_if_ne F (tgt := 11) (dq dkX11_fewest_0 3 rfl) (by decide) (fun c6 => ?_) (fun c6 => ?_)
  · rw [if_neg c6] at h
    refine v_iload_n F (dq dkX11_fewest_0 6 rfl) rfl 2 rfl ?_
    refine v_iconst F (v := 0) (dq dkX11_fewest_0 7 rfl) ki_0 ?_
    refine v_sipush F (v := 999) (dq dkX11_fewest_0 8 rfl) ks_999 ?_
    refine v_callS 3 F (kc1 := 0) (ks1 := 0) (as := [.int a2, .int 0, .int 999]) (st := []) (st1 := (.int (b2i (f_X11_in a2 0 999)) :: [])) (res := (some (.int (b2i (f_X11_in a2 0 999))))) (c_X11_in (l := C.2.1) a2 0 999) (tc15 _ (List.mem_of_getElem? (i := 1) rfl)) (tc15 _ (List.mem_of_getElem? (i := 2) rfl)) (tc1 _ (List.mem_of_getElem? (i := 5) rfl)) (tc15 _ (List.mem_of_getElem? (i := 3) rfl)) (by decide) rfl ⟨rfl, rfl, Nat.le_of_ble_eq_true rfl, Nat.le_of_ble_eq_true rfl⟩ ⟨Nat.le_of_ble_eq_true rfl, Nat.le_of_ble_eq_true rfl⟩ rfl (Nat.le_of_ble_eq_true rfl) rfl rfl rfl (dq dkX11_fewest_0 9 rfl) ?_
    refine v_if_ne F (tgt := 25) (dq dkX11_fewest_0 10 rfl) (by decide) (fun c8 => ?_) (fun c8 => ?_)
    · rw [if_neg c8] at h
      refine v_iconst F (v := 1) (dq dkX11_fewest_0 13 rfl) ki_1 ?_
      refine v_istore_n F (ls' := [(3, .int 1), (0, .ref (K.1 + 61)), (1, .int a1), (2, .int a2)]) (dq dkX11_fewest_0 14 rfl) rfl (by decide) rfl ?_
      refine v_sub [1, 2, 3, 0] rfl ?_
      exact t_X11_fewest_27 y F E 1000 a1 a2 1 h
    · rw [if_pos c8] at h
      refine v_bipush F (v := (-7)) (dq dkX11_fewest_0 11 rfl) kb_m7 ?_
      have h := Option.some.inj h
      subst h
      exact v_iret F E (dq dkX11_fewest_0 12 rfl)
  · rw [if_pos c6] at h
    refine v_bipush F (v := (-5)) (dq dkX11_fewest_0 4 rfl) kb_m5 ?_
    have h := Option.some.inj h
    subst h
    exact v_iret F E (dq dkX11_fewest_0 5 rfl)
def rm_X11_cracks : Room := { frames := 8, cells := 0, slots := 0, locals := 192 }
def f_X11_cracks_44 (y : MS) (a4 : Int32) : Option (Int32 × MS) := some ((gi (pi y 61 47 0) 61 45) &&& (a4 ^^^ (-1)), pi y 61 47 0)
set_option maxRecDepth 100000 in
set_option maxHeartbeats 4000000 in
theorem t_X11_cracks_44 {C : Cx} {K : KE} {nn : Nat} {x : CS} {R : Int32 × MS}  (y : MS) (a4 : Int32) (h : f_X11_cracks_44 y a4 = some R) (F : Fx C RX11 cX11_cracks 6 rm_X11_cracks K) (E : CE C (xfM K nn x R.2) (some (.int R.1)) 0 0 (some .int)) : V C 44 [(0, .ref (K.1 + 61)), (4, .int a4)] [] (xfM K nn x y) 0 0 := by
  unfold f_X11_cracks_44 at h
  refine v_aload_n F (dq dkX11_cracks_0 22 rfl) rfl 0 rfl ?_
  refine v_iconst F (v := 0) (dq dkX11_cracks_0 23 rfl) ki_0 ?_
  refine v_put F 61 (xnM (by decide)) xc_61 rfl inlX11 tyX11_ok nmX11 47 (by decide) (tc29 _ (List.mem_of_getElem? (i := 8) rfl)) rfl rfl (tyX11_ok 47 (by decide)) rfl rfl (Nat.le_of_ble_eq_true rfl) (dq dkX11_cracks_0 24 rfl) ?_
  refine v_eqM (xwM (q := 61) (j := 47) (v := 0) (by decide) (by decide) rfl) ?_
  refine v_aload_n F (dq dkX11_cracks_0 25 rfl) rfl 0 rfl ?_
  refine v_get F 61 (xnM (by decide)) xc_61 rfl inlX11 45 (by decide) (tc27 _ (List.mem_of_getElem? (i := 9) rfl)) rfl rfl (dq dkX11_cracks_0 26 rfl) ?_
  refine v_iload F (dq dkX11_cracks_0 27 rfl) 1 rfl ?_
  refine v_iconst F (v := (-1)) (dq dkX11_cracks_0 28 rfl) ki_m1 ?_
  refine v_ixor F (dq dkX11_cracks_0 29 rfl) ?_
  refine v_iand F (dq dkX11_cracks_0 30 rfl) ?_
  have h := Option.some.inj h
  subst h
  exact v_iret F E (dq dkX11_cracks_0 31 rfl)
def f_X11_cracks_19 : Nat → MS → Int32 → Int32 → Int32 → Option (Int32 × MS)
  | 0, _, _, _, _ => none
  | n + 1, y, a2, a4, a5 => if a2 ≤ a5 then (f_X11_cracks_44 y a4) else (if 12 ≤ (gi y 61 46) then (f_X11_cracks_44 y a4) else ((f_X11_inch y).bind fun r3 => (f_X11_cracks_19 n) r3 a2 a4 (a5 + 1)))
set_option maxRecDepth 100000 in
set_option maxHeartbeats 4000000 in
theorem t_X11_cracks_19 {C : Cx} {K : KE} {nn : Nat} {x : CS} {R : Int32 × MS}  (F : Fx C RX11 cX11_cracks 6 rm_X11_cracks K) (E : CE C (xfM K nn x R.2) (some (.int R.1)) 0 0 (some .int)) : ∀ (n : Nat) (y : MS) (a2 : Int32) (a4 : Int32) (a5 : Int32) (h : f_X11_cracks_19 n y a2 a4 a5 = some R), V C 19 [(0, .ref (K.1 + 61)), (2, .int a2), (4, .int a4), (5, .int a5)] [] (xfM K nn x y) 0 0 := by
  intro n
  induction n with
  | zero => intro y a2 a4 a5 h; cases h
  | succ n ih =>
    intro y a2 a4 a5 h
    rw [f_X11_cracks_19] at h
    refine v_iload F (dq dkX11_cracks_0 11 rfl) 3 rfl ?_
    refine v_iload_n F (dq dkX11_cracks_0 12 rfl) rfl 1 rfl ?_
    refine v_icmp_ge F (tgt := 44) (dq dkX11_cracks_0 13 rfl) (by decide) (fun c1 => ?_) (fun c1 => ?_)
    · rw [if_pos c1] at h
      refine v_sub [0, 2] rfl ?_
      exact t_X11_cracks_44 y a4 h F E
    · rw [if_neg c1] at h
      refine v_aload_n F (dq dkX11_cracks_0 14 rfl) rfl 0 rfl ?_
      refine v_get F 61 (xnM (by decide)) xc_61 rfl inlX11 46 (by decide) (tc27 _ (List.mem_of_getElem? (i := 22) rfl)) rfl rfl (dq dkX11_cracks_0 15 rfl) ?_
      refine v_bipush F (v := 12) (dq dkX11_cracks_0 16 rfl) kb_12 ?_
      refine v_icmp_ge F (tgt := 44) (dq dkX11_cracks_0 17 rfl) (by decide) (fun c2 => ?_) (fun c2 => ?_)
      · rw [if_pos c2] at h
        refine v_sub [0, 2] rfl ?_
        exact t_X11_cracks_44 y a4 h F E
      · rw [if_neg c2] at h
        refine v_aload_n F (dq dkX11_cracks_0 18 rfl) rfl 0 rfl ?_
        obtain ⟨r3, e4, h⟩ := bd_of h
        refine v_callV 0 F (q := 61) (kc1 := 0) (ks1 := 0) (as := []) (st := []) (st1 := []) (res := none) (c_X11_inch (l := C.2.1) x y e4) (xnM (by decide)) xc_61 rfl (tc29 _ (List.mem_of_getElem? (i := 4) rfl)) (tc29 _ (List.mem_of_getElem? (i := 5) rfl)) (tc29 _ (List.mem_of_getElem? (i := 6) rfl)) (tc1 _ (List.mem_of_getElem? (i := 5) rfl)) (tc29 _ (List.mem_of_getElem? (i := 7) rfl)) (by decide) rfl ⟨rfl, rfl, Nat.le_of_ble_eq_true rfl, Nat.le_of_ble_eq_true rfl⟩ ⟨Nat.le_of_ble_eq_true rfl, Nat.le_of_ble_eq_true rfl⟩ rfl (Nat.le_of_ble_eq_true rfl) rfl rfl rfl (dq dkX11_cracks_0 19 rfl) ?_
        refine v_iinc F (v := a5 + 1) (ls' := [(5, .int (a5 + 1)), (0, .ref (K.1 + 61)), (2, .int a2), (4, .int a4)]) (dq dkX11_cracks_0 20 rfl) (j := 3) rfl (kv_add ki_1) (by decide) rfl ?_
        refine v_goto F (tgt := 19) (dq dkX11_cracks_0 21 rfl) (by decide) ?_
        refine v_sub [1, 2, 3, 0] rfl ?_
        exact ih r3 a2 a4 (a5 + 1) h
def f_X11_cracks (y : MS) (a1 : Int32) (a2 : Int32) (a3 : Int32) : Option (Int32 × MS) := (f_X11_comes y a1).bind fun r5 => f_X11_cracks_19 1000 (pi r5 61 47 a3) a2 (gi r5 61 45) 0
set_option maxRecDepth 100000 in
set_option maxHeartbeats 4000000 in
theorem c_X11_cracks {K : KE} {l : Launch} {R : Int32 × MS} {nn : Nat} (x : CS) (y : MS) (a1 : Int32) (a2 : Int32) (a3 : Int32) (h : f_X11_cracks y a1 a2 a3 = some R) : MC K l yX11_cracks cX11_cracks 6 (some .int) rm_X11_cracks 0 0 [.ref (K.1 + 61), .int a1, .int a2, .int a3] (xfM K nn x y) (xfM K nn x R.2) (some (.int R.1)) := by
  unfold f_X11_cracks at h
  refine mc_of (ls0 := [(0, .ref (K.1 + 61)), (1, .int a1), (2, .int a2), (3, .int a3)]) (by decide) (Nat.le_of_ble_eq_true rfl) rfl (fun C hl hnm F E => ?_)
  have F : Fx C RX11 cX11_cracks 6 rm_X11_cracks K := F
  refine v_aload_n F (dq dkX11_cracks_0 0 rfl) rfl 0 rfl ?_
  refine v_iload_n F (dq dkX11_cracks_0 1 rfl) rfl 1 rfl ?_
  obtain ⟨r5, e6, h⟩ := bd_of h
  refine v_callV 1 F (q := 61) (kc1 := 0) (ks1 := 0) (as := [.int a1]) (st := []) (st1 := []) (res := none) (c_X11_comes (l := C.2.1) x y a1 e6) (xnM (by decide)) xc_61 rfl (tc27 _ (List.mem_of_getElem? (i := 14) rfl)) (tc27 _ (List.mem_of_getElem? (i := 15) rfl)) (tc27 _ (List.mem_of_getElem? (i := 16) rfl)) (tc1 _ (List.mem_of_getElem? (i := 5) rfl)) (tc27 _ (List.mem_of_getElem? (i := 17) rfl)) (by decide) rfl ⟨rfl, rfl, Nat.le_of_ble_eq_true rfl, Nat.le_of_ble_eq_true rfl⟩ ⟨Nat.le_of_ble_eq_true rfl, Nat.le_of_ble_eq_true rfl⟩ rfl (Nat.le_of_ble_eq_true rfl) rfl rfl rfl (dq dkX11_cracks_0 2 rfl) ?_
  refine v_aload_n F (dq dkX11_cracks_0 3 rfl) rfl 0 rfl ?_
  refine v_get F 61 (xnM (by decide)) xc_61 rfl inlX11 45 (by decide) (tc27 _ (List.mem_of_getElem? (i := 9) rfl)) rfl rfl (dq dkX11_cracks_0 4 rfl) ?_
  refine v_istore F (ls' := [(4, .int (gi r5 61 45)), (0, .ref (K.1 + 61)), (1, .int a1), (2, .int a2), (3, .int a3)]) (dq dkX11_cracks_0 5 rfl) (by decide) rfl ?_
  refine v_aload_n F (dq dkX11_cracks_0 6 rfl) rfl 1 rfl ?_
  refine v_iload_n F (dq dkX11_cracks_0 7 rfl) rfl 4 rfl ?_
  refine v_put F 61 (xnM (by decide)) xc_61 rfl inlX11 tyX11_ok nmX11 47 (by decide) (tc29 _ (List.mem_of_getElem? (i := 8) rfl)) rfl rfl (tyX11_ok 47 (by decide)) rfl rfl (Nat.le_of_ble_eq_true rfl) (dq dkX11_cracks_0 8 rfl) ?_
  refine v_eqM (xwM (q := 61) (j := 47) (v := a3) (by decide) (by decide) rfl) ?_
  refine v_iconst F (v := 0) (dq dkX11_cracks_0 9 rfl) ki_0 ?_
  refine v_istore F (ls' := [(5, .int 0), (4, .int (gi r5 61 45)), (0, .ref (K.1 + 61)), (1, .int a1), (2, .int a2), (3, .int a3)]) (dq dkX11_cracks_0 10 rfl) (by decide) rfl ?_
  refine v_sub [2, 4, 1, 0] rfl ?_
  exact t_X11_cracks_19 F E 1000 (pi r5 61 47 a3) a2 (gi r5 61 45) 0 h
