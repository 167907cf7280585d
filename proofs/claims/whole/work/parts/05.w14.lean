def rm_X11_holds_ : Room := { frames := 1, cells := 0, slots := 0, locals := 30 }
def f_X11_holds_ (y : MS) (a1 : Int32) : Option (MS) := gd (ib (gi y 61 37) 200) (some (pi (pi y 81 ((gi y 61 37).toNatClampNeg) a1) 61 37 ((gi (pi y 81 ((gi y 61 37).toNatClampNeg) a1) 61 37) + 1)))
set_option maxRecDepth 100000 in
set_option maxHeartbeats 4000000 in
theorem c_X11_holds_ {K : KE} {l : Launch} {R : MS} {nn : Nat} (x : CS) (y : MS) (a1 : Int32) (h : f_X11_holds_ y a1 = some R) : MC K l yX11_holds_ cX11_holds_ 2 none rm_X11_holds_ 0 0 [.ref (K.1 + 61), .int a1] (xfM K nn x y) (xfM K nn x R) none := by
  unfold f_X11_holds_ at h
  refine mc_of (ls0 := [(0, .ref (K.1 + 61)), (1, .int a1)]) (by decide) (Nat.le_of_ble_eq_true rfl) rfl (fun C hl hnm F E => ?_)
  have F : Fx C RX11 cX11_holds_ 2 rm_X11_holds_ K := F
  refine v_aload_n F (dq dkX11_holds__0 0 rfl) rfl 0 rfl ?_
  refine v_get F 61 (xnM (by decide)) xc_61 rfl inlX11 36 (by decide) (tc13 _ (List.mem_of_getElem? (i := 5) rfl)) rfl rfl (dq dkX11_holds__0 1 rfl) ?_
  refine v_aload_n F (dq dkX11_holds__0 2 rfl) rfl 0 rfl ?_
  refine v_get F 61 (xnM (by decide)) xc_61 rfl inlX11 37 (by decide) (tc18 _ (List.mem_of_getElem? (i := 15) rfl)) rfl rfl (dq dkX11_holds__0 3 rfl) ?_
  refine v_iload_n F (dq dkX11_holds__0 4 rfl) rfl 1 rfl ?_
  obtain ⟨g1, h⟩ := gd_of h
  refine v_iast F 81 (xnM (by decide)) xc_81 (ib_in g1) (dq dkX11_holds__0 5 rfl) ?_
  refine v_eqM (xwM (q := 81) (j := (gi y 61 37).toNatClampNeg) (v := a1) (by decide) (by decide) rfl) ?_
  refine v_aload_n F (dq dkX11_holds__0 6 rfl) rfl 0 rfl ?_
  refine v_dup F (dq dkX11_holds__0 7 rfl) rfl ?_
  refine v_get F 61 (xnM (by decide)) xc_61 rfl inlX11 37 (by decide) (tc18 _ (List.mem_of_getElem? (i := 15) rfl)) rfl rfl (dq dkX11_holds__0 8 rfl) ?_
  refine v_iconst F (v := 1) (dq dkX11_holds__0 9 rfl) ki_1 ?_
  refine v_iadd F (dq dkX11_holds__0 10 rfl) ?_
  refine v_put F 61 (xnM (by decide)) xc_61 rfl inlX11 tyX11_ok nmX11 37 (by decide) (tc18 _ (List.mem_of_getElem? (i := 15) rfl)) rfl rfl (tyX11_ok 37 (by decide)) rfl rfl (Nat.le_of_ble_eq_true rfl) (dq dkX11_holds__0 11 rfl) ?_
  refine v_eqM (xwM (q := 61) (j := 37) (v := (gi (pi y 81 ((gi y 61 37).toNatClampNeg) a1) 61 37) + 1) (by decide) (by decide) rfl) ?_
  have h := Option.some.inj h
  subst h
  exact v_vret F E (dq dkX11_holds__0 12 rfl)
def rm_X11_opensOne : Room := { frames := 2, cells := 0, slots := 0, locals := 51 }
def f_X11_opensOne (y : MS) (a1 : Int32) : Option (Bool × MS) := if (gi y 61 38) = 5 then (some (false, y)) else ((f_X11_holds_ (pi y 61 38 ((gi y 61 38) + 1)) a1).bind fun r2 => some (true, r2))
set_option maxRecDepth 100000 in
set_option maxHeartbeats 4000000 in
theorem c_X11_opensOne {K : KE} {l : Launch} {R : Bool × MS} {nn : Nat} (x : CS) (y : MS) (a1 : Int32) (h : f_X11_opensOne y a1 = some R) : MC K l yX11_opensOne cX11_opensOne 2 (some .boolean) rm_X11_opensOne 0 0 [.ref (K.1 + 61), .int a1] (xfM K nn x y) (xfM K nn x R.2) (some (.int (b2i R.1))) := by
  unfold f_X11_opensOne at h
  refine mc_of (ls0 := [(0, .ref (K.1 + 61)), (1, .int a1)]) (by decide) (Nat.le_of_ble_eq_true rfl) rfl (fun C hl hnm F E => ?_)
  have F : Fx C RX11 cX11_opensOne 2 rm_X11_opensOne K := F
  refine v_aload_n F (dq dkX11_opensOne_0 0 rfl) rfl 0 rfl ?_
  refine v_get F 61 (xnM (by decide)) xc_61 rfl inlX11 38 (by decide) (tc18 _ (List.mem_of_getElem? (i := 16) rfl)) rfl rfl (dq dkX11_opensOne_0 1 rfl) ?_
  refine v_iconst F (v := 5) (dq dkX11_opensOne_0 2 rfl) ki_5 ?_
  refine v_icmp_ne F (tgt := 10) (dq dkX11_opensOne_0 3 rfl) (by decide) (fun c1 => ?_) (fun c1 => ?_)
  · rw [if_neg c1] at h
    refine v_aload_n F (dq dkX11_opensOne_0 6 rfl) rfl 0 rfl ?_
    refine v_dup F (dq dkX11_opensOne_0 7 rfl) rfl ?_
    refine v_get F 61 (xnM (by decide)) xc_61 rfl inlX11 38 (by decide) (tc18 _ (List.mem_of_getElem? (i := 16) rfl)) rfl rfl (dq dkX11_opensOne_0 8 rfl) ?_
    refine v_iconst F (v := 1) (dq dkX11_opensOne_0 9 rfl) ki_1 ?_
    refine v_iadd F (dq dkX11_opensOne_0 10 rfl) ?_
    refine v_put F 61 (xnM (by decide)) xc_61 rfl inlX11 tyX11_ok nmX11 38 (by decide) (tc18 _ (List.mem_of_getElem? (i := 16) rfl)) rfl rfl (tyX11_ok 38 (by decide)) rfl rfl (Nat.le_of_ble_eq_true rfl) (dq dkX11_opensOne_0 11 rfl) ?_
    refine v_eqM (xwM (q := 61) (j := 38) (v := (gi y 61 38) + 1) (by decide) (by decide) rfl) ?_
    refine v_aload_n F (dq dkX11_opensOne_0 12 rfl) rfl 0 rfl ?_
    refine v_iload_n F (dq dkX11_opensOne_0 13 rfl) rfl 1 rfl ?_
    obtain ⟨r2, e3, h⟩ := bd_of h
    refine v_callV 1 F (q := 61) (kc1 := 0) (ks1 := 0) (as := [.int a1]) (st := []) (st1 := []) (res := none) (c_X11_holds_ (l := C.2.1) x (pi y 61 38 ((gi y 61 38) + 1)) a1 e3) (xnM (by decide)) xc_61 rfl (tc19 _ (List.mem_of_getElem? (i := 9) rfl)) (tc19 _ (List.mem_of_getElem? (i := 10) rfl)) (tc19 _ (List.mem_of_getElem? (i := 11) rfl)) (tc1 _ (List.mem_of_getElem? (i := 5) rfl)) (tc19 _ (List.mem_of_getElem? (i := 12) rfl)) (by decide) rfl ⟨rfl, rfl, Nat.le_of_ble_eq_true rfl, Nat.le_of_ble_eq_true rfl⟩ ⟨Nat.le_of_ble_eq_true rfl, Nat.le_of_ble_eq_true rfl⟩ rfl (Nat.le_of_ble_eq_true rfl) rfl rfl rfl (dq dkX11_opensOne_0 14 rfl) ?_
    refine v_iconst F (v := 1) (dq dkX11_opensOne_0 15 rfl) ki_1 ?_
    have h := Option.some.inj h
    subst h
    exact v_zret F E (b2i_n true) (dq dkX11_opensOne_0 16 rfl)
  · rw [if_pos c1] at h
    refine v_iconst F (v := 0) (dq dkX11_opensOne_0 4 rfl) ki_0 ?_
    have h := Option.some.inj h
    subst h
    exact v_zret F E (b2i_n false) (dq dkX11_opensOne_0 5 rfl)
def rm_X11_between : Room := { frames := 3, cells := 0, slots := 0, locals := 73 }
def f_X11_between_55 (y : MS) (a1 : Int32) : Option (Bool × MS) := (f_X11_holds_ y a1).bind fun r1 => some (true, r1)
set_option maxRecDepth 100000 in
set_option maxHeartbeats 4000000 in
theorem t_X11_between_55 {C : Cx} {K : KE} {nn : Nat} {x : CS} {R : Bool × MS}  (y : MS) (a1 : Int32) (h : f_X11_between_55 y a1 = some R) (F : Fx C RX11 cX11_between 2 rm_X11_between K) (E : CE C (xfM K nn x R.2) (some (.int (b2i R.1))) 0 0 (some .boolean)) : V C 55 [(0, .ref (K.1 + 61)), (1, .int a1)] [] (xfM K nn x y) 0 0 := by
  unfold f_X11_between_55 at h
  refine v_aload_n F (dq dkX11_between_0 29 rfl) rfl 0 rfl ?_
  refine v_iload_n F (dq dkX11_between_0 30 rfl) rfl 1 rfl ?_
  obtain ⟨r1, e2, h⟩ := bd_of h
  refine v_callV 1 F (q := 61) (kc1 := 0) (ks1 := 0) (as := [.int a1]) (st := []) (st1 := []) (res := none) (c_X11_holds_ (l := C.2.1) x y a1 e2) (xnM (by decide)) xc_61 rfl (tc19 _ (List.mem_of_getElem? (i := 9) rfl)) (tc19 _ (List.mem_of_getElem? (i := 10) rfl)) (tc19 _ (List.mem_of_getElem? (i := 11) rfl)) (tc1 _ (List.mem_of_getElem? (i := 5) rfl)) (tc19 _ (List.mem_of_getElem? (i := 12) rfl)) (by decide) rfl ⟨rfl, rfl, Nat.le_of_ble_eq_true rfl, Nat.le_of_ble_eq_true rfl⟩ ⟨Nat.le_of_ble_eq_true rfl, Nat.le_of_ble_eq_true rfl⟩ rfl (Nat.le_of_ble_eq_true rfl) rfl rfl rfl (dq dkX11_between_0 31 rfl) ?_
  refine v_iconst F (v := 1) (dq dkX11_between_0 32 rfl) ki_1 ?_
  have h := Option.some.inj h
  subst h
  exact v_zret F E (b2i_n true) (dq dkX11_between_0 33 rfl)
def f_X11_between_17 (y : MS) (a1 : Int32) (s0 : Int32) : Option (Bool × MS) := (f_X11_unwinds y s0).bind fun r3 => if (f_X11_rank a1) = 4 then (if (gi r3 61 37) ≤ 0 then (f_X11_between_55 r3 a1) else (gd (ib ((gi r3 61 37) - 1) 200) (if (f_X11_rank (gi r3 81 ((gi r3 61 37) - 1).toNatClampNeg)) = 4 then (some (false, r3)) else (f_X11_between_55 r3 a1)))) else (f_X11_between_55 r3 a1)
set_option maxRecDepth 100000 in
set_option maxHeartbeats 4000000 in
theorem t_X11_between_17 {C : Cx} {K : KE} {nn : Nat} {x : CS} {R : Bool × MS}  (y : MS) (a1 : Int32) (s0 : Int32) (h : f_X11_between_17 y a1 s0 = some R) (F : Fx C RX11 cX11_between 2 rm_X11_between K) (E : CE C (xfM K nn x R.2) (some (.int (b2i R.1))) 0 0 (some .boolean)) : V C 17 [(0, .ref (K.1 + 61)), (1, .int a1)] [.int s0, .ref (K.1 + 61)] (xfM K nn x y) 0 0 := by
  unfold f_X11_between_17 at h
  obtain ⟨r3, e4, h⟩ := bd_of h
  refine v_callV 1 F (q := 61) (kc1 := 0) (ks1 := 0) (as := [.int s0]) (st := []) (st1 := []) (res := none) (c_X11_unwinds (l := C.2.1) x y s0 e4) (xnM (by decide)) xc_61 rfl (tc18 _ (List.mem_of_getElem? (i := 22) rfl)) (tc18 _ (List.mem_of_getElem? (i := 23) rfl)) (tc19 _ (List.mem_of_getElem? (i := 0) rfl)) (tc1 _ (List.mem_of_getElem? (i := 5) rfl)) (tc19 _ (List.mem_of_getElem? (i := 1) rfl)) (by decide) rfl ⟨rfl, rfl, Nat.le_of_ble_eq_true rfl, Nat.le_of_ble_eq_true rfl⟩ ⟨Nat.le_of_ble_eq_true rfl, Nat.le_of_ble_eq_true rfl⟩ rfl (Nat.le_of_ble_eq_true rfl) rfl rfl rfl (dq dkX11_between_0 9 rfl) ?_
  refine v_iload_n F (dq dkX11_between_0 10 rfl) rfl 1 rfl ?_
  refine v_callS 1 F (kc1 := 0) (ks1 := 0) (as := [.int a1]) (st := []) (st1 := (.int (f_X11_rank a1) :: [])) (res := (some (.int (f_X11_rank a1)))) (c_X11_rank (l := C.2.1) a1) (tc19 _ (List.mem_of_getElem? (i := 2) rfl)) (tc19 _ (List.mem_of_getElem? (i := 3) rfl)) (tc1 _ (List.mem_of_getElem? (i := 5) rfl)) (tc19 _ (List.mem_of_getElem? (i := 4) rfl)) (by decide) rfl ⟨rfl, rfl, Nat.le_of_ble_eq_true rfl, Nat.le_of_ble_eq_true rfl⟩ ⟨Nat.le_of_ble_eq_true rfl, Nat.le_of_ble_eq_true rfl⟩ rfl (Nat.le_of_ble_eq_true rfl) rfl rfl rfl (dq dkX11_between_0 11 rfl) ?_
  refine v_iconst F (v := 4) (dq dkX11_between_0 12 rfl) ki_4 ?_
  refine v_icmp_ne F (tgt := 55) (dq dkX11_between_0 13 rfl) (by decide) (fun c6 => ?_) (fun c6 => ?_)
  · rw [if_neg c6] at h
    exact t_X11_between_55 r3 a1 h F E
  · rw [if_pos c6] at h
    refine v_aload_n F (dq dkX11_between_0 14 rfl) rfl 0 rfl ?_
    refine v_get F 61 (xnM (by decide)) xc_61 rfl inlX11 37 (by decide) (tc18 _ (List.mem_of_getElem? (i := 15) rfl)) rfl rfl (dq dkX11_between_0 15 rfl) ?_
    refine v_if_le F (tgt := 55) (dq dkX11_between_0 16 rfl) (by decide) (fun c7 => ?_) (fun c7 => ?_)
    · rw [if_pos c7] at h
      exact t_X11_between_55 r3 a1 h F E
    · rw [if_neg c7] at h
      refine v_aload_n F (dq dkX11_between_0 17 rfl) rfl 0 rfl ?_
      refine v_get F 61 (xnM (by decide)) xc_61 rfl inlX11 36 (by decide) (tc13 _ (List.mem_of_getElem? (i := 5) rfl)) rfl rfl (dq dkX11_between_0 18 rfl) ?_
      refine v_aload_n F (dq dkX11_between_0 19 rfl) rfl 0 rfl ?_
      refine v_get F 61 (xnM (by decide)) xc_61 rfl inlX11 37 (by decide) (tc18 _ (List.mem_of_getElem? (i := 15) rfl)) rfl rfl (dq dkX11_between_0 20 rfl) ?_
      refine v_iconst F (v := 1) (dq dkX11_between_0 21 rfl) ki_1 ?_
      refine v_isub F (dq dkX11_between_0 22 rfl) ?_
      obtain ⟨g8, h⟩ := gd_of h
      refine v_iald F 81 (xnM (by decide)) xc_81 (ib_in g8) (dq dkX11_between_0 23 rfl) ?_
      refine v_callS 1 F (kc1 := 0) (ks1 := 0) (as := [.int (gi r3 81 ((gi r3 61 37) - 1).toNatClampNeg)]) (st := []) (st1 := (.int (f_X11_rank (gi r3 81 ((gi r3 61 37) - 1).toNatClampNeg)) :: [])) (res := (some (.int (f_X11_rank (gi r3 81 ((gi r3 61 37) - 1).toNatClampNeg))))) (c_X11_rank (l := C.2.1) (gi r3 81 ((gi r3 61 37) - 1).toNatClampNeg)) (tc19 _ (List.mem_of_getElem? (i := 2) rfl)) (tc19 _ (List.mem_of_getElem? (i := 3) rfl)) (tc1 _ (List.mem_of_getElem? (i := 5) rfl)) (tc19 _ (List.mem_of_getElem? (i := 4) rfl)) (by decide) rfl ⟨rfl, rfl, Nat.le_of_ble_eq_true rfl, Nat.le_of_ble_eq_true rfl⟩ ⟨Nat.le_of_ble_eq_true rfl, Nat.le_of_ble_eq_true rfl⟩ rfl (Nat.le_of_ble_eq_true rfl) rfl rfl rfl (dq dkX11_between_0 24 rfl) ?_
      refine v_iconst F (v := 4) (dq dkX11_between_0 25 rfl) ki_4 ?_
      refine v_icmp_ne F (tgt := 55) (dq dkX11_between_0 26 rfl) (by decide) (fun c10 => ?_) (fun c10 => ?_)
      · rw [if_neg c10] at h
        exact t_X11_between_55 r3 a1 h F E
      · rw [if_pos c10] at h
        refine v_iconst F (v := 0) (dq dkX11_between_0 27 rfl) ki_0 ?_
        have h := Option.some.inj h
        subst h
        exact v_zret F E (b2i_n false) (dq dkX11_between_0 28 rfl)
def f_X11_between (y : MS) (a1 : Int32) : Option (Bool × MS) := if (f_X11_rank a1) = 4 then (f_X11_between_17 y a1 5) else (f_X11_between_17 y a1 (f_X11_rank a1))
set_option maxRecDepth 100000 in
set_option maxHeartbeats 4000000 in
theorem c_X11_between {K : KE} {l : Launch} {R : Bool × MS} {nn : Nat} (x : CS) (y : MS) (a1 : Int32) (h : f_X11_between y a1 = some R) : MC K l yX11_between cX11_between 2 (some .boolean) rm_X11_between 0 0 [.ref (K.1 + 61), .int a1] (xfM K nn x y) (xfM K nn x R.2) (some (.int (b2i R.1))) := by
  unfold f_X11_between at h
  refine mc_of (ls0 := [(0, .ref (K.1 + 61)), (1, .int a1)]) (by decide) (Nat.le_of_ble_eq_true rfl) rfl (fun C hl hnm F E => ?_)
  have F : Fx C RX11 cX11_between 2 rm_X11_between K := F
  refine v_aload_n F (dq dkX11_between_0 0 rfl) rfl 0 rfl ?_
  refine v_iload_n F (dq dkX11_between_0 1 rfl) rfl 1 rfl ?_
  refine v_callS 1 F (kc1 := 0) (ks1 := 0) (as := [.int a1]) (st := [.ref (K.1 + 61)]) (st1 := (.int (f_X11_rank a1) :: [.ref (K.1 + 61)])) (res := (some (.int (f_X11_rank a1)))) (c_X11_rank (l := C.2.1) a1) (tc19 _ (List.mem_of_getElem? (i := 2) rfl)) (tc19 _ (List.mem_of_getElem? (i := 3) rfl)) (tc1 _ (List.mem_of_getElem? (i := 5) rfl)) (tc19 _ (List.mem_of_getElem? (i := 4) rfl)) (by decide) rfl ⟨rfl, rfl, Nat.le_of_ble_eq_true rfl, Nat.le_of_ble_eq_true rfl⟩ ⟨Nat.le_of_ble_eq_true rfl, Nat.le_of_ble_eq_true rfl⟩ rfl (Nat.le_of_ble_eq_true rfl) rfl rfl rfl (dq dkX11_between_0 2 rfl) ?_
  refine v_iconst F (v := 4) (dq dkX11_between_0 3 rfl) ki_4 ?_
  refine v_icmp_ne F (tgt := 13) (dq dkX11_between_0 4 rfl) (by decide) (fun c12 => ?_) (fun c12 => ?_)
  · rw [if_neg c12] at h
    refine v_iload_n F (dq dkX11_between_0 7 rfl) rfl 1 rfl ?_
    refine v_callS 1 F (kc1 := 0) (ks1 := 0) (as := [.int a1]) (st := [.ref (K.1 + 61)]) (st1 := (.int (f_X11_rank a1) :: [.ref (K.1 + 61)])) (res := (some (.int (f_X11_rank a1)))) (c_X11_rank (l := C.2.1) a1) (tc19 _ (List.mem_of_getElem? (i := 2) rfl)) (tc19 _ (List.mem_of_getElem? (i := 3) rfl)) (tc1 _ (List.mem_of_getElem? (i := 5) rfl)) (tc19 _ (List.mem_of_getElem? (i := 4) rfl)) (by decide) rfl ⟨rfl, rfl, Nat.le_of_ble_eq_true rfl, Nat.le_of_ble_eq_true rfl⟩ ⟨Nat.le_of_ble_eq_true rfl, Nat.le_of_ble_eq_true rfl⟩ rfl (Nat.le_of_ble_eq_true rfl) rfl rfl rfl (dq dkX11_between_0 8 rfl) ?_
    exact t_X11_between_17 y a1 (f_X11_rank a1) h F E
  · rw [if_pos c12] at h
    refine v_iconst F (v := 5) (dq dkX11_between_0 5 rfl) ki_5 ?_
    refine v_goto F (tgt := 17) (dq dkX11_between_0 6 rfl) (by decide) ?_
    exact t_X11_between_17 y a1 5 h F E
def rm_X11_signOf : Room := { frames := 1, cells := 0, slots := 0, locals := 30 }
def f_X11_signOf (y : MS) : Int32 := if (gi y 61 33) = 4 then 11 else (if (gi y 61 33) = 5 then 12 else (if (gi y 61 33) = 60 then 14 else (if (gi y 61 33) = 61 then 15 else (if (gi y 61 33) = 43 then 16 else (if (gi y 61 33) = 45 then 17 else (if (gi y 61 33) = 42 then 18 else ((-1))))))))
set_option maxRecDepth 100000 in
set_option maxHeartbeats 4000000 in
theorem c_X11_signOf {K : KE} {l : Launch} {nn : Nat} (x : CS) (y : MS) : MC K l yX11_signOf cX11_signOf 1 (some .int) rm_X11_signOf 0 0 [.ref (K.1 + 61)] (xfM K nn x y) (xfM K nn x y) (some (.int (f_X11_signOf y))) := by
  obtain ⟨R, h⟩ : ∃ R, f_X11_signOf y = R := ⟨_, rfl⟩
  rw [h]
  unfold f_X11_signOf at h
  refine mc_of (ls0 := [(0, .ref (K.1 + 61))]) (by decide) (Nat.le_of_ble_eq_true rfl) rfl (fun C hl hnm F E => ?_)
  have F : Fx C RX11 cX11_signOf 1 rm_X11_signOf K := F
  refine v_aload_n F (dq dkX11_signOf_0 0 rfl) rfl 0 rfl ?_
  refine v_get F 61 (xnM (by decide)) xc_61 rfl inlX11 33 (by decide) (tc18 _ (List.mem_of_getElem? (i := 0) rfl)) rfl rfl (dq dkX11_signOf_0 1 rfl) ?_
  refine v_iconst F (v := 4) (dq dkX11_signOf_0 2 rfl) ki_4 ?_
  refine v_icmp_ne F (tgt := 13) (dq dkX11_signOf_0 3 rfl) (by decide) (fun c1 => ?_) (fun c1 => ?_)
  · rw [if_neg c1] at h
    refine v_aload_n F (dq dkX11_signOf_0 6 rfl) rfl 0 rfl ?_
    refine v_get F 61 (xnM (by decide)) xc_61 rfl inlX11 33 (by decide) (tc18 _ (List.mem_of_getElem? (i := 0) rfl)) rfl rfl (dq dkX11_signOf_0 7 rfl) ?_
    refine v_iconst F (v := 5) (dq dkX11_signOf_0 8 rfl) ki_5 ?_
    refine v_icmp_ne F (tgt := 26) (dq dkX11_signOf_0 9 rfl) (by decide) (fun c2 => ?_) (fun c2 => ?_)
    · rw [if_neg c2] at h
      refine v_aload_n F (dq dkX11_signOf_0 12 rfl) rfl 0 rfl ?_
      refine v_get F 61 (xnM (by decide)) xc_61 rfl inlX11 33 (by decide) (tc18 _ (List.mem_of_getElem? (i := 0) rfl)) rfl rfl (dq dkX11_signOf_0 13 rfl) ?_
      refine v_bipush F (v := 60) (dq dkX11_signOf_0 14 rfl) kb_60 ?_
      refine v_icmp_ne F (tgt := 40) (dq dkX11_signOf_0 15 rfl) (by decide) (fun c3 => ?_) (fun c3 => ?_)
      · rw [if_neg c3] at h
        refine v_aload_n F (dq dkX11_signOf_0 18 rfl) rfl 0 rfl ?_
        refine v_get F 61 (xnM (by decide)) xc_61 rfl inlX11 33 (by decide) (tc18 _ (List.mem_of_getElem? (i := 0) rfl)) rfl rfl (dq dkX11_signOf_0 19 rfl) ?_
        refine v_bipush F (v := 61) (dq dkX11_signOf_0 20 rfl) kb_61 ?_
        refine v_icmp_ne F (tgt := 54) (dq dkX11_signOf_0 21 rfl) (by decide) (fun c4 => ?_) (fun c4 => ?_)
        · rw [if_neg c4] at h
          refine v_aload_n F (dq dkX11_signOf_0 24 rfl) rfl 0 rfl ?_
          refine v_get F 61 (xnM (by decide)) xc_61 rfl inlX11 33 (by decide) (tc18 _ (List.mem_of_getElem? (i := 0) rfl)) rfl rfl (dq dkX11_signOf_0 25 rfl) ?_
          refine v_bipush F (v := 43) (dq dkX11_signOf_0 26 rfl) kb_43 ?_
          refine v_icmp_ne F (tgt := 68) (dq dkX11_signOf_0 27 rfl) (by decide) (fun c5 => ?_) (fun c5 => ?_)
          · rw [if_neg c5] at h
            refine v_aload_n F (dq dkX11_signOf_0 30 rfl) rfl 0 rfl ?_
            refine v_get F 61 (xnM (by decide)) xc_61 rfl inlX11 33 (by decide) (tc18 _ (List.mem_of_getElem? (i := 0) rfl)) rfl rfl (dq dkX11_signOf_0 31 rfl) ?_
            refine v_bipush F (v := 45) (dq dkX11_signOf_0 32 rfl) kb_45 ?_
            refine v_icmp_ne F (tgt := 82) (dq dkX11_signOf_0 33 rfl) (by decide) (fun c6 => ?_) (fun c6 => ?_)
            · rw [if_neg c6] at h
              refine v_aload_n F (dq dkX11_signOf_0 36 rfl) rfl 0 rfl ?_
              refine v_get F 61 (xnM (by decide)) xc_61 rfl inlX11 33 (by decide) (tc18 _ (List.mem_of_getElem? (i := 0) rfl)) rfl rfl (dq dkX11_signOf_0 37 rfl) ?_
              refine v_bipush F (v := 42) (dq dkX11_signOf_0 38 rfl) kb_42 ?_
              refine v_icmp_ne F (tgt := 96) (dq dkX11_signOf_0 39 rfl) (by decide) (fun c7 => ?_) (fun c7 => ?_)
              · rw [if_neg c7] at h
                refine v_iconst F (v := (-1)) (dq dkX11_signOf_1 2 rfl) ki_m1 ?_
                subst h
                exact v_iret F E (dq dkX11_signOf_1 3 rfl)
              · rw [if_pos c7] at h
                refine v_bipush F (v := 18) (dq dkX11_signOf_1 0 rfl) kb_18 ?_
                refine v_goto F (tgt := 97) (dq dkX11_signOf_1 1 rfl) (by decide) ?_
                subst h
                exact v_iret F E (dq dkX11_signOf_1 3 rfl)
            · rw [if_pos c6] at h
              refine v_bipush F (v := 17) (dq dkX11_signOf_0 34 rfl) kb_17 ?_
              refine v_goto F (tgt := 97) (dq dkX11_signOf_0 35 rfl) (by decide) ?_
              subst h
              exact v_iret F E (dq dkX11_signOf_1 3 rfl)
          · rw [if_pos c5] at h
            refine v_bipush F (v := 16) (dq dkX11_signOf_0 28 rfl) kb_16 ?_
            refine v_goto F (tgt := 97) (dq dkX11_signOf_0 29 rfl) (by decide) ?_
            subst h
            exact v_iret F E (dq dkX11_signOf_1 3 rfl)
        · rw [if_pos c4] at h
          refine v_bipush F (v := 15) (dq dkX11_signOf_0 22 rfl) kb_15 ?_
          refine v_goto F (tgt := 97) (dq dkX11_signOf_0 23 rfl) (by decide) ?_
          subst h
          exact v_iret F E (dq dkX11_signOf_1 3 rfl)
      · rw [if_pos c3] at h
        refine v_bipush F (v := 14) (dq dkX11_signOf_0 16 rfl) kb_14 ?_
        refine v_goto F (tgt := 97) (dq dkX11_signOf_0 17 rfl) (by decide) ?_
        subst h
        exact v_iret F E (dq dkX11_signOf_1 3 rfl)
    · rw [if_pos c2] at h
      refine v_bipush F (v := 12) (dq dkX11_signOf_0 10 rfl) kb_12 ?_
      refine v_goto F (tgt := 97) (dq dkX11_signOf_0 11 rfl) (by decide) ?_
      subst h
      exact v_iret F E (dq dkX11_signOf_1 3 rfl)
  · rw [if_pos c1] at h
    refine v_bipush F (v := 11) (dq dkX11_signOf_0 4 rfl) kb_11 ?_
    refine v_goto F (tgt := 97) (dq dkX11_signOf_0 5 rfl) (by decide) ?_
    subst h
    exact v_iret F E (dq dkX11_signOf_1 3 rfl)
def rm_X11_eRead : Room := { frames := 4, cells := 0, slots := 0, locals := 99 }
def f_X11_eRead_247 (y : MS) : Option (Bool × MS) := some (false, y)
set_option maxRecDepth 100000 in
set_option maxHeartbeats 4000000 in
theorem t_X11_eRead_247 {C : Cx} {K : KE} {nn : Nat} {x : CS} {R : Bool × MS}  (y : MS) (h : f_X11_eRead_247 y = some R) (F : Fx C RX11 cX11_eRead 4 rm_X11_eRead K) (E : CE C (xfM K nn x R.2) (some (.int (b2i R.1))) 0 0 (some .boolean)) : V C 247 [] [] (xfM K nn x y) 0 0 := by
  unfold f_X11_eRead_247 at h
  refine v_iconst F (v := 0) (dq dkX11_eRead_3 13 rfl) ki_0 ?_
  have h := Option.some.inj h
  subst h
  exact v_zret F E (b2i_n false) (dq dkX11_eRead_3 14 rfl)
def f_X11_eRead_262 (k14 : MS → Int32 → Int32 → Option (Bool × MS)) (y : MS) (a1 : Int32) (s0 : Int32) : Option (Bool × MS) := k14 y a1 s0
set_option maxRecDepth 100000 in
set_option maxHeartbeats 4000000 in
theorem t_X11_eRead_262 {C : Cx} {K : KE} {nn : Nat} {x : CS} {R : Bool × MS}  (k14 : MS → Int32 → Int32 → Option (Bool × MS)) (y : MS) (a1 : Int32) (s0 : Int32) (hk14 : ∀ (y : MS) (a1 : Int32) (a2 : Int32), k14 y a1 a2 = some R → V C 14 [(0, .ref (K.1 + 61)), (1, .int a1), (2, .int a2)] [] (xfM K nn x y) 0 0) (h : f_X11_eRead_262 k14 y a1 s0 = some R) (F : Fx C RX11 cX11_eRead 4 rm_X11_eRead K) (E : CE C (xfM K nn x R.2) (some (.int (b2i R.1))) 0 0 (some .boolean)) : V C 262 [(0, .ref (K.1 + 61)), (1, .int a1)] [.int s0] (xfM K nn x y) 0 0 := by
  unfold f_X11_eRead_262 at h
  refine v_istore_n F (ls' := [(2, .int s0), (0, .ref (K.1 + 61)), (1, .int a1)]) (dq dkX11_eRead_3 23 rfl) rfl (by decide) rfl ?_
  refine v_goto F (tgt := 14) (dq dkX11_eRead_3 24 rfl) (by decide) ?_
  refine v_sub [1, 2, 0] rfl ?_
  exact hk14 y a1 s0 h
def f_X11_eRead_61 (k14 : MS → Int32 → Int32 → Option (Bool × MS)) (y : MS) (a2 : Int32) (s0 : Int32) : Option (Bool × MS) := (f_X11_puts y s0).bind fun r1 => (f_X11_unwinds r1 7).bind fun r3 => k14 r3 0 a2
set_option maxRecDepth 100000 in
set_option maxHeartbeats 4000000 in
theorem t_X11_eRead_61 {C : Cx} {K : KE} {nn : Nat} {x : CS} {R : Bool × MS}  (k14 : MS → Int32 → Int32 → Option (Bool × MS)) (y : MS) (a2 : Int32) (s0 : Int32) (hk14 : ∀ (y : MS) (a1 : Int32) (a2 : Int32), k14 y a1 a2 = some R → V C 14 [(0, .ref (K.1 + 61)), (1, .int a1), (2, .int a2)] [] (xfM K nn x y) 0 0) (h : f_X11_eRead_61 k14 y a2 s0 = some R) (F : Fx C RX11 cX11_eRead 4 rm_X11_eRead K) (E : CE C (xfM K nn x R.2) (some (.int (b2i R.1))) 0 0 (some .boolean)) : V C 61 [(0, .ref (K.1 + 61)), (2, .int a2)] [.int s0, .ref (K.1 + 61)] (xfM K nn x y) 0 0 := by
  unfold f_X11_eRead_61 at h
  obtain ⟨r1, e2, h⟩ := bd_of h
  refine v_callV 1 F (q := 61) (kc1 := 0) (ks1 := 0) (as := [.int s0]) (st := []) (st1 := []) (res := none) (c_X11_puts (l := C.2.1) x y s0 e2) (xnM (by decide)) xc_61 rfl (tc18 _ (List.mem_of_getElem? (i := 18) rfl)) (tc18 _ (List.mem_of_getElem? (i := 19) rfl)) (tc18 _ (List.mem_of_getElem? (i := 20) rfl)) (tc1 _ (List.mem_of_getElem? (i := 5) rfl)) (tc18 _ (List.mem_of_getElem? (i := 21) rfl)) (by decide) rfl ⟨rfl, rfl, Nat.le_of_ble_eq_true rfl, Nat.le_of_ble_eq_true rfl⟩ ⟨Nat.le_of_ble_eq_true rfl, Nat.le_of_ble_eq_true rfl⟩ rfl (Nat.le_of_ble_eq_true rfl) rfl rfl rfl (dq dkX11_eRead_0 34 rfl) ?_
  refine v_aload_n F (dq dkX11_eRead_0 35 rfl) rfl 0 rfl ?_
  refine v_bipush F (v := 7) (dq dkX11_eRead_0 36 rfl) kb_7 ?_
  obtain ⟨r3, e4, h⟩ := bd_of h
  refine v_callV 1 F (q := 61) (kc1 := 0) (ks1 := 0) (as := [.int 7]) (st := []) (st1 := []) (res := none) (c_X11_unwinds (l := C.2.1) x r1 7 e4) (xnM (by decide)) xc_61 rfl (tc18 _ (List.mem_of_getElem? (i := 22) rfl)) (tc18 _ (List.mem_of_getElem? (i := 23) rfl)) (tc19 _ (List.mem_of_getElem? (i := 0) rfl)) (tc1 _ (List.mem_of_getElem? (i := 5) rfl)) (tc19 _ (List.mem_of_getElem? (i := 1) rfl)) (by decide) rfl ⟨rfl, rfl, Nat.le_of_ble_eq_true rfl, Nat.le_of_ble_eq_true rfl⟩ ⟨Nat.le_of_ble_eq_true rfl, Nat.le_of_ble_eq_true rfl⟩ rfl (Nat.le_of_ble_eq_true rfl) rfl rfl rfl (dq dkX11_eRead_0 37 rfl) ?_
  refine v_iconst F (v := 0) (dq dkX11_eRead_0 38 rfl) ki_0 ?_
  refine v_istore_n F (ls' := [(1, .int 0), (0, .ref (K.1 + 61)), (2, .int a2)]) (dq dkX11_eRead_0 39 rfl) rfl (by decide) rfl ?_
  refine v_goto F (tgt := 14) (dq dkX11_eRead_1 0 rfl) (by decide) ?_
  refine v_sub [1, 0, 2] rfl ?_
  exact hk14 r3 0 a2 h
def f_X11_eRead_38 (k14 : MS → Int32 → Int32 → Option (Bool × MS)) (y : MS) (a2 : Int32) : Option (Bool × MS) := if (gi y 61 33) = 1 then (f_X11_eRead_61 k14 y a2 (100000 + (gi y 61 34))) else (f_X11_eRead_61 k14 y a2 (gi y 61 34))
set_option maxRecDepth 100000 in
set_option maxHeartbeats 4000000 in
theorem t_X11_eRead_38 {C : Cx} {K : KE} {nn : Nat} {x : CS} {R : Bool × MS}  (k14 : MS → Int32 → Int32 → Option (Bool × MS)) (y : MS) (a2 : Int32) (hk14 : ∀ (y : MS) (a1 : Int32) (a2 : Int32), k14 y a1 a2 = some R → V C 14 [(0, .ref (K.1 + 61)), (1, .int a1), (2, .int a2)] [] (xfM K nn x y) 0 0) (h : f_X11_eRead_38 k14 y a2 = some R) (F : Fx C RX11 cX11_eRead 4 rm_X11_eRead K) (E : CE C (xfM K nn x R.2) (some (.int (b2i R.1))) 0 0 (some .boolean)) : V C 38 [(0, .ref (K.1 + 61)), (2, .int a2)] [] (xfM K nn x y) 0 0 := by
  unfold f_X11_eRead_38 at h
  refine v_aload_n F (dq dkX11_eRead_0 22 rfl) rfl 0 rfl ?_
  refine v_aload_n F (dq dkX11_eRead_0 23 rfl) rfl 0 rfl ?_
  refine v_get F 61 (xnM (by decide)) xc_61 rfl inlX11 33 (by decide) (tc18 _ (List.mem_of_getElem? (i := 0) rfl)) rfl rfl (dq dkX11_eRead_0 24 rfl) ?_
  refine v_iconst F (v := 1) (dq dkX11_eRead_0 25 rfl) ki_1 ?_
  refine v_icmp_ne F (tgt := 57) (dq dkX11_eRead_0 26 rfl) (by decide) (fun c5 => ?_) (fun c5 => ?_)
  · rw [if_neg c5] at h
    refine v_aload_n F (dq dkX11_eRead_0 32 rfl) rfl 0 rfl ?_
    refine v_get F 61 (xnM (by decide)) xc_61 rfl inlX11 34 (by decide) (tc18 _ (List.mem_of_getElem? (i := 1) rfl)) rfl rfl (dq dkX11_eRead_0 33 rfl) ?_
    exact t_X11_eRead_61 k14 y a2 (gi y 61 34) hk14 h F E
  · rw [if_pos c5] at h
    refine v_ldc F (v := 100000) (tc18 _ (List.mem_of_getElem? (i := 17) rfl)) (dq dkX11_eRead_0 27 rfl) ?_
    refine v_aload_n F (dq dkX11_eRead_0 28 rfl) rfl 0 rfl ?_
    refine v_get F 61 (xnM (by decide)) xc_61 rfl inlX11 34 (by decide) (tc18 _ (List.mem_of_getElem? (i := 1) rfl)) rfl rfl (dq dkX11_eRead_0 29 rfl) ?_
    refine v_iadd F (dq dkX11_eRead_0 30 rfl) ?_
    refine v_goto F (tgt := 61) (dq dkX11_eRead_0 31 rfl) (by decide) ?_
    exact t_X11_eRead_61 k14 y a2 (100000 + (gi y 61 34)) hk14 h F E
def f_X11_eRead_99 (k14 : MS → Int32 → Int32 → Option (Bool × MS)) (y : MS) (a1 : Int32) : Option (Bool × MS) := if (gi y 61 33) = 45 then ((f_X11_opensOne y 19).bind fun r11 => if (b2i r11.1) = 0 then (some (false, r11.2)) else (k14 r11.2 a1 0)) else (if (gi y 61 33) = 40 then ((f_X11_opensOne y 0).bind fun r8 => if (b2i r8.1) = 0 then (some (false, r8.2)) else (k14 r8.2 a1 1)) else (some (false, y)))
set_option maxRecDepth 100000 in
set_option maxHeartbeats 4000000 in
theorem t_X11_eRead_99 {C : Cx} {K : KE} {nn : Nat} {x : CS} {R : Bool × MS}  (k14 : MS → Int32 → Int32 → Option (Bool × MS)) (y : MS) (a1 : Int32) (hk14 : ∀ (y : MS) (a1 : Int32) (a2 : Int32), k14 y a1 a2 = some R → V C 14 [(0, .ref (K.1 + 61)), (1, .int a1), (2, .int a2)] [] (xfM K nn x y) 0 0) (h : f_X11_eRead_99 k14 y a1 = some R) (F : Fx C RX11 cX11_eRead 4 rm_X11_eRead K) (E : CE C (xfM K nn x R.2) (some (.int (b2i R.1))) 0 0 (some .boolean)) : V C 99 [(0, .ref (K.1 + 61)), (1, .int a1)] [] (xfM K nn x y) 0 0 := by
  unfold f_X11_eRead_99 at h
  refine v_aload_n F (dq dkX11_eRead_1 13 rfl) rfl 0 rfl ?_
  refine v_get F 61 (xnM (by decide)) xc_61 rfl inlX11 33 (by decide) (tc18 _ (List.mem_of_getElem? (i := 0) rfl)) rfl rfl (dq dkX11_eRead_1 14 rfl) ?_
  refine v_bipush F (v := 45) (dq dkX11_eRead_1 15 rfl) kb_45 ?_
  refine v_icmp_ne F (tgt := 124) (dq dkX11_eRead_1 16 rfl) (by decide) (fun c6 => ?_) (fun c6 => ?_)
  · rw [if_neg c6] at h
    refine v_aload_n F (dq dkX11_eRead_1 26 rfl) rfl 0 rfl ?_
    refine v_get F 61 (xnM (by decide)) xc_61 rfl inlX11 33 (by decide) (tc18 _ (List.mem_of_getElem? (i := 0) rfl)) rfl rfl (dq dkX11_eRead_1 27 rfl) ?_
    refine v_bipush F (v := 40) (dq dkX11_eRead_1 28 rfl) kb_40 ?_
    refine v_icmp_ne F (tgt := 148) (dq dkX11_eRead_1 29 rfl) (by decide) (fun c7 => ?_) (fun c7 => ?_)
    · rw [if_neg c7] at h
      refine v_iconst F (v := 0) (dq dkX11_eRead_1 39 rfl) ki_0 ?_
      have h := Option.some.inj h
      subst h
      exact v_zret F E (b2i_n false) (dq dkX11_eRead_2 0 rfl)
    · rw [if_pos c7] at h
      refine v_aload_n F (dq dkX11_eRead_1 30 rfl) rfl 0 rfl ?_
      refine v_iconst F (v := 0) (dq dkX11_eRead_1 31 rfl) ki_0 ?_
      obtain ⟨r8, e9, h⟩ := bd_of h
      refine v_callV 1 F (q := 61) (kc1 := 0) (ks1 := 0) (as := [.int 0]) (st := []) (st1 := (.int (b2i r8.1) :: [])) (res := (some (.int (b2i r8.1)))) (c_X11_opensOne (l := C.2.1) x y 0 e9) (xnM (by decide)) xc_61 rfl (tc19 _ (List.mem_of_getElem? (i := 5) rfl)) (tc19 _ (List.mem_of_getElem? (i := 6) rfl)) (tc19 _ (List.mem_of_getElem? (i := 7) rfl)) (tc1 _ (List.mem_of_getElem? (i := 5) rfl)) (tc19 _ (List.mem_of_getElem? (i := 8) rfl)) (by decide) rfl ⟨rfl, rfl, Nat.le_of_ble_eq_true rfl, Nat.le_of_ble_eq_true rfl⟩ ⟨Nat.le_of_ble_eq_true rfl, Nat.le_of_ble_eq_true rfl⟩ rfl (Nat.le_of_ble_eq_true rfl) rfl rfl rfl (dq dkX11_eRead_1 32 rfl) ?_
      refine v_if_ne F (tgt := 143) (dq dkX11_eRead_1 33 rfl) (by decide) (fun c10 => ?_) (fun c10 => ?_)
      · rw [if_neg c10] at h
        refine v_iconst F (v := 1) (dq dkX11_eRead_1 36 rfl) ki_1 ?_
        refine v_istore_n F (ls' := [(2, .int 1), (0, .ref (K.1 + 61)), (1, .int a1)]) (dq dkX11_eRead_1 37 rfl) rfl (by decide) rfl ?_
        refine v_goto F (tgt := 14) (dq dkX11_eRead_1 38 rfl) (by decide) ?_
        refine v_sub [1, 2, 0] rfl ?_
        exact hk14 r8.2 a1 1 h
      · rw [if_pos c10] at h
        refine v_iconst F (v := 0) (dq dkX11_eRead_1 34 rfl) ki_0 ?_
        have h := Option.some.inj h
        subst h
        exact v_zret F E (b2i_n false) (dq dkX11_eRead_1 35 rfl)
  · rw [if_pos c6] at h
    refine v_aload_n F (dq dkX11_eRead_1 17 rfl) rfl 0 rfl ?_
    refine v_bipush F (v := 19) (dq dkX11_eRead_1 18 rfl) kb_19 ?_
    obtain ⟨r11, e12, h⟩ := bd_of h
    refine v_callV 1 F (q := 61) (kc1 := 0) (ks1 := 0) (as := [.int 19]) (st := []) (st1 := (.int (b2i r11.1) :: [])) (res := (some (.int (b2i r11.1)))) (c_X11_opensOne (l := C.2.1) x y 19 e12) (xnM (by decide)) xc_61 rfl (tc19 _ (List.mem_of_getElem? (i := 5) rfl)) (tc19 _ (List.mem_of_getElem? (i := 6) rfl)) (tc19 _ (List.mem_of_getElem? (i := 7) rfl)) (tc1 _ (List.mem_of_getElem? (i := 5) rfl)) (tc19 _ (List.mem_of_getElem? (i := 8) rfl)) (by decide) rfl ⟨rfl, rfl, Nat.le_of_ble_eq_true rfl, Nat.le_of_ble_eq_true rfl⟩ ⟨Nat.le_of_ble_eq_true rfl, Nat.le_of_ble_eq_true rfl⟩ rfl (Nat.le_of_ble_eq_true rfl) rfl rfl rfl (dq dkX11_eRead_1 19 rfl) ?_
    refine v_if_ne F (tgt := 119) (dq dkX11_eRead_1 20 rfl) (by decide) (fun c13 => ?_) (fun c13 => ?_)
    · rw [if_neg c13] at h
      refine v_iconst F (v := 0) (dq dkX11_eRead_1 23 rfl) ki_0 ?_
      refine v_istore_n F (ls' := [(2, .int 0), (0, .ref (K.1 + 61)), (1, .int a1)]) (dq dkX11_eRead_1 24 rfl) rfl (by decide) rfl ?_
      refine v_goto F (tgt := 14) (dq dkX11_eRead_1 25 rfl) (by decide) ?_
      refine v_sub [1, 2, 0] rfl ?_
      exact hk14 r11.2 a1 0 h
    · rw [if_pos c13] at h
      refine v_iconst F (v := 0) (dq dkX11_eRead_1 21 rfl) ki_0 ?_
      have h := Option.some.inj h
      subst h
      exact v_zret F E (b2i_n false) (dq dkX11_eRead_1 22 rfl)
def f_X11_eRead_14 : Nat → MS → Int32 → Int32 → Option (Bool × MS)
  | 0, _, _, _ => none
  | n + 1, y, a1, a2 => (f_X11_next y).bind fun r14 => if a1 = 0 then (if (gi r14 61 33) = 59 then ((f_X11_unwinds r14 1).bind fun r30 => if (gi r30 61 37) = 0 then (some (true, r30)) else (some (false, r30))) else (if (gi r14 61 33) = 41 then ((f_X11_unwinds r14 1).bind fun r25 => if (gi r25 61 37) = 0 then (some (false, r25)) else ((f_X11_unwinds (pi (pi r25 61 37 ((gi r25 61 37) - 1)) 61 38 ((gi (pi r25 61 37 ((gi r25 61 37) - 1)) 61 38) - 1)) 7).bind fun r28 => (f_X11_eRead_14 n) r28 a1 a2)) else (if (f_X11_signOf r14) = (-1) then (f_X11_eRead_247 r14) else ((f_X11_between r14 (f_X11_signOf r14)).bind fun r21 => if (b2i r21.1) = 0 then (f_X11_eRead_247 r21.2) else (if 12 < (f_X11_signOf r14) then (f_X11_eRead_262 (f_X11_eRead_14 n) r21.2 1 0) else (f_X11_eRead_262 (f_X11_eRead_14 n) r21.2 1 1)))))) else (if (gi r14 61 33) = 1 then (f_X11_eRead_38 (f_X11_eRead_14 n) r14 a2) else (if (gi r14 61 33) = 2 then (f_X11_eRead_38 (f_X11_eRead_14 n) r14 a2) else (if (gi r14 61 33) = 6 then (if a2 = 0 then (f_X11_eRead_99 (f_X11_eRead_14 n) r14 a1) else ((f_X11_opensOne r14 13).bind fun r37 => if (b2i r37.1) = 0 then (some (false, r37.2)) else ((f_X11_eRead_14 n) r37.2 a1 a2))) else (f_X11_eRead_99 (f_X11_eRead_14 n) r14 a1))))
set_option maxRecDepth 100000 in
set_option maxHeartbeats 4000000 in
theorem t_X11_eRead_14 {C : Cx} {K : KE} {nn : Nat} {x : CS} {R : Bool × MS}  (F : Fx C RX11 cX11_eRead 4 rm_X11_eRead K) (E : CE C (xfM K nn x R.2) (some (.int (b2i R.1))) 0 0 (some .boolean)) : ∀ (n : Nat) (y : MS) (a1 : Int32) (a2 : Int32) (h : f_X11_eRead_14 n y a1 a2 = some R), V C 14 [(0, .ref (K.1 + 61)), (1, .int a1), (2, .int a2)] [] (xfM K nn x y) 0 0 := by
  intro n
  induction n with
  | zero => intro y a1 a2 h; cases h
  | succ n ih =>
    intro y a1 a2 h
    rw [f_X11_eRead_14] at h
    refine v_aload_n F (dq dkX11_eRead_0 10 rfl) rfl 0 rfl ?_
    obtain ⟨r14, e15, h⟩ := bd_of h
    refine v_callV 0 F (q := 61) (kc1 := 0) (ks1 := 0) (as := []) (st := []) (st1 := []) (res := none) (c_X11_next (l := C.2.1) x y e15) (xnM (by decide)) xc_61 rfl (tc18 _ (List.mem_of_getElem? (i := 3) rfl)) (tc18 _ (List.mem_of_getElem? (i := 4) rfl)) (tc18 _ (List.mem_of_getElem? (i := 5) rfl)) (tc1 _ (List.mem_of_getElem? (i := 5) rfl)) (tc18 _ (List.mem_of_getElem? (i := 6) rfl)) (by decide) rfl ⟨rfl, rfl, Nat.le_of_ble_eq_true rfl, Nat.le_of_ble_eq_true rfl⟩ ⟨Nat.le_of_ble_eq_true rfl, Nat.le_of_ble_eq_true rfl⟩ rfl (Nat.le_of_ble_eq_true rfl) rfl rfl rfl (dq dkX11_eRead_0 11 rfl) ?_
    refine v_iload_n F (dq dkX11_eRead_0 12 rfl) rfl 1 rfl ?_
    refine v_if_eq F (tgt := 150) (dq dkX11_eRead_0 13 rfl) (by decide) (fun c16 => ?_) (fun c16 => ?_)
    · rw [if_pos c16] at h
      refine v_aload_n F (dq dkX11_eRead_2 1 rfl) rfl 0 rfl ?_
      refine v_get F 61 (xnM (by decide)) xc_61 rfl inlX11 33 (by decide) (tc18 _ (List.mem_of_getElem? (i := 0) rfl)) rfl rfl (dq dkX11_eRead_2 2 rfl) ?_
      refine v_bipush F (v := 59) (dq dkX11_eRead_2 3 rfl) kb_59 ?_
      refine v_icmp_ne F (tgt := 177) (dq dkX11_eRead_2 4 rfl) (by decide) (fun c17 => ?_) (fun c17 => ?_)
      · rw [if_neg c17] at h
        refine v_aload_n F (dq dkX11_eRead_2 15 rfl) rfl 0 rfl ?_
        refine v_get F 61 (xnM (by decide)) xc_61 rfl inlX11 33 (by decide) (tc18 _ (List.mem_of_getElem? (i := 0) rfl)) rfl rfl (dq dkX11_eRead_2 16 rfl) ?_
        refine v_bipush F (v := 41) (dq dkX11_eRead_2 17 rfl) kb_41 ?_
        refine v_icmp_ne F (tgt := 229) (dq dkX11_eRead_2 18 rfl) (by decide) (fun c18 => ?_) (fun c18 => ?_)
        · rw [if_neg c18] at h
          refine v_aload_n F (dq dkX11_eRead_3 3 rfl) rfl 0 rfl ?_
          refine v_callV 0 F (q := 61) (kc1 := 0) (ks1 := 0) (as := []) (st := []) (st1 := (.int (f_X11_signOf r14) :: [])) (res := (some (.int (f_X11_signOf r14)))) (c_X11_signOf (l := C.2.1) x r14) (xnM (by decide)) xc_61 rfl (tc19 _ (List.mem_of_getElem? (i := 13) rfl)) (tc19 _ (List.mem_of_getElem? (i := 14) rfl)) (tc19 _ (List.mem_of_getElem? (i := 15) rfl)) (tc1 _ (List.mem_of_getElem? (i := 5) rfl)) (tc19 _ (List.mem_of_getElem? (i := 16) rfl)) (by decide) rfl ⟨rfl, rfl, Nat.le_of_ble_eq_true rfl, Nat.le_of_ble_eq_true rfl⟩ ⟨Nat.le_of_ble_eq_true rfl, Nat.le_of_ble_eq_true rfl⟩ rfl (Nat.le_of_ble_eq_true rfl) rfl rfl rfl (dq dkX11_eRead_3 4 rfl) ?_
          refine v_istore_n F (ls' := [(3, .int (f_X11_signOf r14)), (0, .ref (K.1 + 61)), (1, .int a1), (2, .int a2)]) (dq dkX11_eRead_3 5 rfl) rfl (by decide) rfl ?_
          refine v_iload_n F (dq dkX11_eRead_3 6 rfl) rfl 0 rfl ?_
          refine v_iconst F (v := (-1)) (dq dkX11_eRead_3 7 rfl) ki_m1 ?_
          refine v_icmp_eq F (tgt := 247) (dq dkX11_eRead_3 8 rfl) (by decide) (fun c20 => ?_) (fun c20 => ?_)
          · rw [if_pos c20] at h
            refine v_sub [] rfl ?_
            exact t_X11_eRead_247 r14 h F E
          · rw [if_neg c20] at h
            refine v_aload_n F (dq dkX11_eRead_3 9 rfl) rfl 1 rfl ?_
            refine v_iload_n F (dq dkX11_eRead_3 10 rfl) rfl 0 rfl ?_
            obtain ⟨r21, e22, h⟩ := bd_of h
            refine v_callV 1 F (q := 61) (kc1 := 0) (ks1 := 0) (as := [.int (f_X11_signOf r14)]) (st := []) (st1 := (.int (b2i r21.1) :: [])) (res := (some (.int (b2i r21.1)))) (c_X11_between (l := C.2.1) x r14 (f_X11_signOf r14) e22) (xnM (by decide)) xc_61 rfl (tc19 _ (List.mem_of_getElem? (i := 17) rfl)) (tc19 _ (List.mem_of_getElem? (i := 18) rfl)) (tc19 _ (List.mem_of_getElem? (i := 19) rfl)) (tc1 _ (List.mem_of_getElem? (i := 5) rfl)) (tc19 _ (List.mem_of_getElem? (i := 20) rfl)) (by decide) rfl ⟨rfl, rfl, Nat.le_of_ble_eq_true rfl, Nat.le_of_ble_eq_true rfl⟩ ⟨Nat.le_of_ble_eq_true rfl, Nat.le_of_ble_eq_true rfl⟩ rfl (Nat.le_of_ble_eq_true rfl) rfl rfl rfl (dq dkX11_eRead_3 11 rfl) ?_
            refine v_if_ne F (tgt := 249) (dq dkX11_eRead_3 12 rfl) (by decide) (fun c23 => ?_) (fun c23 => ?_)
            · rw [if_neg c23] at h
              refine v_iconst F (v := 1) (dq dkX11_eRead_3 15 rfl) ki_1 ?_
              refine v_istore_n F (ls' := [(1, .int 1), (3, .int (f_X11_signOf r14)), (0, .ref (K.1 + 61)), (2, .int a2)]) (dq dkX11_eRead_3 16 rfl) rfl (by decide) rfl ?_
              refine v_iload_n F (dq dkX11_eRead_3 17 rfl) rfl 1 rfl ?_
              refine v_bipush F (v := 12) (dq dkX11_eRead_3 18 rfl) kb_12 ?_
              refine v_icmp_gt F (tgt := 261) (dq dkX11_eRead_3 19 rfl) (by decide) (fun c24 => ?_) (fun c24 => ?_)
              · rw [if_pos c24] at h
                refine v_iconst F (v := 0) (dq dkX11_eRead_3 22 rfl) ki_0 ?_
                refine v_sub [2, 0] rfl ?_
                exact t_X11_eRead_262 (f_X11_eRead_14 n) r21.2 1 0 ih h F E
              · rw [if_neg c24] at h
                refine v_iconst F (v := 1) (dq dkX11_eRead_3 20 rfl) ki_1 ?_
                refine v_goto F (tgt := 262) (dq dkX11_eRead_3 21 rfl) (by decide) ?_
                refine v_sub [2, 0] rfl ?_
                exact t_X11_eRead_262 (f_X11_eRead_14 n) r21.2 1 1 ih h F E
            · rw [if_pos c23] at h
              refine v_sub [] rfl ?_
              exact t_X11_eRead_247 r21.2 h F E
        · rw [if_pos c18] at h
          refine v_aload_n F (dq dkX11_eRead_2 19 rfl) rfl 0 rfl ?_
          refine v_iconst F (v := 1) (dq dkX11_eRead_2 20 rfl) ki_1 ?_
          obtain ⟨r25, e26, h⟩ := bd_of h
          refine v_callV 1 F (q := 61) (kc1 := 0) (ks1 := 0) (as := [.int 1]) (st := []) (st1 := []) (res := none) (c_X11_unwinds (l := C.2.1) x r14 1 e26) (xnM (by decide)) xc_61 rfl (tc18 _ (List.mem_of_getElem? (i := 22) rfl)) (tc18 _ (List.mem_of_getElem? (i := 23) rfl)) (tc19 _ (List.mem_of_getElem? (i := 0) rfl)) (tc1 _ (List.mem_of_getElem? (i := 5) rfl)) (tc19 _ (List.mem_of_getElem? (i := 1) rfl)) (by decide) rfl ⟨rfl, rfl, Nat.le_of_ble_eq_true rfl, Nat.le_of_ble_eq_true rfl⟩ ⟨Nat.le_of_ble_eq_true rfl, Nat.le_of_ble_eq_true rfl⟩ rfl (Nat.le_of_ble_eq_true rfl) rfl rfl rfl (dq dkX11_eRead_2 21 rfl) ?_
          refine v_aload_n F (dq dkX11_eRead_2 22 rfl) rfl 0 rfl ?_
          refine v_get F 61 (xnM (by decide)) xc_61 rfl inlX11 37 (by decide) (tc18 _ (List.mem_of_getElem? (i := 15) rfl)) rfl rfl (dq dkX11_eRead_2 23 rfl) ?_
          refine v_if_ne F (tgt := 200) (dq dkX11_eRead_2 24 rfl) (by decide) (fun c27 => ?_) (fun c27 => ?_)
          · rw [if_neg c27] at h
            refine v_aload_n F (dq dkX11_eRead_2 27 rfl) rfl 0 rfl ?_
            refine v_dup F (dq dkX11_eRead_2 28 rfl) rfl ?_
            refine v_get F 61 (xnM (by decide)) xc_61 rfl inlX11 37 (by decide) (tc18 _ (List.mem_of_getElem? (i := 15) rfl)) rfl rfl (dq dkX11_eRead_2 29 rfl) ?_
            refine v_iconst F (v := 1) (dq dkX11_eRead_2 30 rfl) ki_1 ?_
            refine v_isub F (dq dkX11_eRead_2 31 rfl) ?_
            refine v_put F 61 (xnM (by decide)) xc_61 rfl inlX11 tyX11_ok nmX11 37 (by decide) (tc18 _ (List.mem_of_getElem? (i := 15) rfl)) rfl rfl (tyX11_ok 37 (by decide)) rfl rfl (Nat.le_of_ble_eq_true rfl) (dq dkX11_eRead_2 32 rfl) ?_
            refine v_eqM (xwM (q := 61) (j := 37) (v := (gi r25 61 37) - 1) (by decide) (by decide) rfl) ?_
            refine v_aload_n F (dq dkX11_eRead_2 33 rfl) rfl 0 rfl ?_
            refine v_dup F (dq dkX11_eRead_2 34 rfl) rfl ?_
            refine v_get F 61 (xnM (by decide)) xc_61 rfl inlX11 38 (by decide) (tc18 _ (List.mem_of_getElem? (i := 16) rfl)) rfl rfl (dq dkX11_eRead_2 35 rfl) ?_
            refine v_iconst F (v := 1) (dq dkX11_eRead_2 36 rfl) ki_1 ?_
            refine v_isub F (dq dkX11_eRead_2 37 rfl) ?_
            refine v_put F 61 (xnM (by decide)) xc_61 rfl inlX11 tyX11_ok nmX11 38 (by decide) (tc18 _ (List.mem_of_getElem? (i := 16) rfl)) rfl rfl (tyX11_ok 38 (by decide)) rfl rfl (Nat.le_of_ble_eq_true rfl) (dq dkX11_eRead_2 38 rfl) ?_
            refine v_eqM (xwM (q := 61) (j := 38) (v := (gi (pi r25 61 37 ((gi r25 61 37) - 1)) 61 38) - 1) (by decide) (by decide) rfl) ?_
            refine v_aload_n F (dq dkX11_eRead_2 39 rfl) rfl 0 rfl ?_
            refine v_bipush F (v := 7) (dq dkX11_eRead_3 0 rfl) kb_7 ?_
            obtain ⟨r28, e29, h⟩ := bd_of h
            refine v_callV 1 F (q := 61) (kc1 := 0) (ks1 := 0) (as := [.int 7]) (st := []) (st1 := []) (res := none) (c_X11_unwinds (l := C.2.1) x (pi (pi r25 61 37 ((gi r25 61 37) - 1)) 61 38 ((gi (pi r25 61 37 ((gi r25 61 37) - 1)) 61 38) - 1)) 7 e29) (xnM (by decide)) xc_61 rfl (tc18 _ (List.mem_of_getElem? (i := 22) rfl)) (tc18 _ (List.mem_of_getElem? (i := 23) rfl)) (tc19 _ (List.mem_of_getElem? (i := 0) rfl)) (tc1 _ (List.mem_of_getElem? (i := 5) rfl)) (tc19 _ (List.mem_of_getElem? (i := 1) rfl)) (by decide) rfl ⟨rfl, rfl, Nat.le_of_ble_eq_true rfl, Nat.le_of_ble_eq_true rfl⟩ ⟨Nat.le_of_ble_eq_true rfl, Nat.le_of_ble_eq_true rfl⟩ rfl (Nat.le_of_ble_eq_true rfl) rfl rfl rfl (dq dkX11_eRead_3 1 rfl) ?_
            refine v_goto F (tgt := 14) (dq dkX11_eRead_3 2 rfl) (by decide) ?_
            exact ih r28 a1 a2 h
          · rw [if_pos c27] at h
            refine v_iconst F (v := 0) (dq dkX11_eRead_2 25 rfl) ki_0 ?_
            have h := Option.some.inj h
            subst h
            exact v_zret F E (b2i_n false) (dq dkX11_eRead_2 26 rfl)
      · rw [if_pos c17] at h
        refine v_aload_n F (dq dkX11_eRead_2 5 rfl) rfl 0 rfl ?_
        refine v_iconst F (v := 1) (dq dkX11_eRead_2 6 rfl) ki_1 ?_
        obtain ⟨r30, e31, h⟩ := bd_of h
        refine v_callV 1 F (q := 61) (kc1 := 0) (ks1 := 0) (as := [.int 1]) (st := []) (st1 := []) (res := none) (c_X11_unwinds (l := C.2.1) x r14 1 e31) (xnM (by decide)) xc_61 rfl (tc18 _ (List.mem_of_getElem? (i := 22) rfl)) (tc18 _ (List.mem_of_getElem? (i := 23) rfl)) (tc19 _ (List.mem_of_getElem? (i := 0) rfl)) (tc1 _ (List.mem_of_getElem? (i := 5) rfl)) (tc19 _ (List.mem_of_getElem? (i := 1) rfl)) (by decide) rfl ⟨rfl, rfl, Nat.le_of_ble_eq_true rfl, Nat.le_of_ble_eq_true rfl⟩ ⟨Nat.le_of_ble_eq_true rfl, Nat.le_of_ble_eq_true rfl⟩ rfl (Nat.le_of_ble_eq_true rfl) rfl rfl rfl (dq dkX11_eRead_2 7 rfl) ?_
        refine v_aload_n F (dq dkX11_eRead_2 8 rfl) rfl 0 rfl ?_
        refine v_get F 61 (xnM (by decide)) xc_61 rfl inlX11 37 (by decide) (tc18 _ (List.mem_of_getElem? (i := 15) rfl)) rfl rfl (dq dkX11_eRead_2 9 rfl) ?_
        refine v_if_ne F (tgt := 175) (dq dkX11_eRead_2 10 rfl) (by decide) (fun c32 => ?_) (fun c32 => ?_)
        · rw [if_neg c32] at h
          refine v_iconst F (v := 0) (dq dkX11_eRead_2 13 rfl) ki_0 ?_
          have h := Option.some.inj h
          subst h
          exact v_zret F E (b2i_n false) (dq dkX11_eRead_2 14 rfl)
        · rw [if_pos c32] at h
          refine v_iconst F (v := 1) (dq dkX11_eRead_2 11 rfl) ki_1 ?_
          refine v_goto F (tgt := 176) (dq dkX11_eRead_2 12 rfl) (by decide) ?_
          have h := Option.some.inj h
          subst h
          exact v_zret F E (b2i_n true) (dq dkX11_eRead_2 14 rfl)
    · rw [if_neg c16] at h
      refine v_aload_n F (dq dkX11_eRead_0 14 rfl) rfl 0 rfl ?_
      refine v_get F 61 (xnM (by decide)) xc_61 rfl inlX11 33 (by decide) (tc18 _ (List.mem_of_getElem? (i := 0) rfl)) rfl rfl (dq dkX11_eRead_0 15 rfl) ?_
      refine v_iconst F (v := 1) (dq dkX11_eRead_0 16 rfl) ki_1 ?_
      refine v_icmp_eq F (tgt := 38) (dq dkX11_eRead_0 17 rfl) (by decide) (fun c33 => ?_) (fun c33 => ?_)
      · rw [if_pos c33] at h
        refine v_sub [0, 2] rfl ?_
        exact t_X11_eRead_38 (f_X11_eRead_14 n) r14 a2 ih h F E
      · rw [if_neg c33] at h
        refine v_aload_n F (dq dkX11_eRead_0 18 rfl) rfl 0 rfl ?_
        refine v_get F 61 (xnM (by decide)) xc_61 rfl inlX11 33 (by decide) (tc18 _ (List.mem_of_getElem? (i := 0) rfl)) rfl rfl (dq dkX11_eRead_0 19 rfl) ?_
        refine v_iconst F (v := 2) (dq dkX11_eRead_0 20 rfl) ki_2 ?_
        refine v_icmp_ne F (tgt := 75) (dq dkX11_eRead_0 21 rfl) (by decide) (fun c34 => ?_) (fun c34 => ?_)
        · rw [if_neg c34] at h
          refine v_aload_n F (dq dkX11_eRead_1 1 rfl) rfl 0 rfl ?_
          refine v_get F 61 (xnM (by decide)) xc_61 rfl inlX11 33 (by decide) (tc18 _ (List.mem_of_getElem? (i := 0) rfl)) rfl rfl (dq dkX11_eRead_1 2 rfl) ?_
          refine v_bipush F (v := 6) (dq dkX11_eRead_1 3 rfl) kb_6 ?_
          refine v_icmp_ne F (tgt := 99) (dq dkX11_eRead_1 4 rfl) (by decide) (fun c35 => ?_) (fun c35 => ?_)
          · rw [if_neg c35] at h
            refine v_sub [0, 1] rfl ?_
            exact t_X11_eRead_99 (f_X11_eRead_14 n) r14 a1 ih h F E
          · rw [if_pos c35] at h
            refine v_iload_n F (dq dkX11_eRead_1 5 rfl) rfl 2 rfl ?_
            refine v_if_eq F (tgt := 99) (dq dkX11_eRead_1 6 rfl) (by decide) (fun c36 => ?_) (fun c36 => ?_)
            · rw [if_pos c36] at h
              refine v_sub [0, 1] rfl ?_
              exact t_X11_eRead_99 (f_X11_eRead_14 n) r14 a1 ih h F E
            · rw [if_neg c36] at h
              refine v_aload_n F (dq dkX11_eRead_1 7 rfl) rfl 0 rfl ?_
              refine v_bipush F (v := 13) (dq dkX11_eRead_1 8 rfl) kb_13 ?_
              obtain ⟨r37, e38, h⟩ := bd_of h
              refine v_callV 1 F (q := 61) (kc1 := 0) (ks1 := 0) (as := [.int 13]) (st := []) (st1 := (.int (b2i r37.1) :: [])) (res := (some (.int (b2i r37.1)))) (c_X11_opensOne (l := C.2.1) x r14 13 e38) (xnM (by decide)) xc_61 rfl (tc19 _ (List.mem_of_getElem? (i := 5) rfl)) (tc19 _ (List.mem_of_getElem? (i := 6) rfl)) (tc19 _ (List.mem_of_getElem? (i := 7) rfl)) (tc1 _ (List.mem_of_getElem? (i := 5) rfl)) (tc19 _ (List.mem_of_getElem? (i := 8) rfl)) (by decide) rfl ⟨rfl, rfl, Nat.le_of_ble_eq_true rfl, Nat.le_of_ble_eq_true rfl⟩ ⟨Nat.le_of_ble_eq_true rfl, Nat.le_of_ble_eq_true rfl⟩ rfl (Nat.le_of_ble_eq_true rfl) rfl rfl rfl (dq dkX11_eRead_1 9 rfl) ?_
              refine v_if_ne F (tgt := 14) (dq dkX11_eRead_1 10 rfl) (by decide) (fun c39 => ?_) (fun c39 => ?_)
              · rw [if_neg c39] at h
                exact ih r37.2 a1 a2 h
              · rw [if_pos c39] at h
                refine v_iconst F (v := 0) (dq dkX11_eRead_1 11 rfl) ki_0 ?_
                have h := Option.some.inj h
                subst h
                exact v_zret F E (b2i_n false) (dq dkX11_eRead_1 12 rfl)
        · rw [if_pos c34] at h
          refine v_sub [0, 2] rfl ?_
          exact t_X11_eRead_38 (f_X11_eRead_14 n) r14 a2 ih h F E
def f_X11_eRead (y : MS) : Option (Bool × MS) := f_X11_eRead_14 1000 (pi (pi y 61 37 0) 61 38 0) 1 1
set_option maxRecDepth 100000 in
set_option maxHeartbeats 4000000 in
theorem c_X11_eRead {K : KE} {l : Launch} {R : Bool × MS} {nn : Nat} (x : CS) (y : MS) (h : f_X11_eRead y = some R) : MC K l yX11_eRead cX11_eRead 4 (some .boolean) rm_X11_eRead 0 0 [.ref (K.1 + 61)] (xfM K nn x y) (xfM K nn x R.2) (some (.int (b2i R.1))) := by
  unfold f_X11_eRead at h
  refine mc_of (ls0 := [(0, .ref (K.1 + 61))]) (by decide) (Nat.le_of_ble_eq_true rfl) rfl (fun C hl hnm F E => ?_)
  have F : Fx C RX11 cX11_eRead 4 rm_X11_eRead K := F
  refine v_aload_n F (dq dkX11_eRead_0 0 rfl) rfl 0 rfl ?_
  refine v_iconst F (v := 0) (dq dkX11_eRead_0 1 rfl) ki_0 ?_
  refine v_put F 61 (xnM (by decide)) xc_61 rfl inlX11 tyX11_ok nmX11 37 (by decide) (tc18 _ (List.mem_of_getElem? (i := 15) rfl)) rfl rfl (tyX11_ok 37 (by decide)) rfl rfl (Nat.le_of_ble_eq_true rfl) (dq dkX11_eRead_0 2 rfl) ?_
  refine v_eqM (xwM (q := 61) (j := 37) (v := 0) (by decide) (by decide) rfl) ?_
  refine v_aload_n F (dq dkX11_eRead_0 3 rfl) rfl 0 rfl ?_
  refine v_iconst F (v := 0) (dq dkX11_eRead_0 4 rfl) ki_0 ?_
  refine v_put F 61 (xnM (by decide)) xc_61 rfl inlX11 tyX11_ok nmX11 38 (by decide) (tc18 _ (List.mem_of_getElem? (i := 16) rfl)) rfl rfl (tyX11_ok 38 (by decide)) rfl rfl (Nat.le_of_ble_eq_true rfl) (dq dkX11_eRead_0 5 rfl) ?_
  refine v_eqM (xwM (q := 61) (j := 38) (v := 0) (by decide) (by decide) rfl) ?_
  refine v_iconst F (v := 1) (dq dkX11_eRead_0 6 rfl) ki_1 ?_
  refine v_istore_n F (ls' := [(1, .int 1), (0, .ref (K.1 + 61))]) (dq dkX11_eRead_0 7 rfl) rfl (by decide) rfl ?_
  refine v_iconst F (v := 1) (dq dkX11_eRead_0 8 rfl) ki_1 ?_
  refine v_istore_n F (ls' := [(2, .int 1), (1, .int 1), (0, .ref (K.1 + 61))]) (dq dkX11_eRead_0 9 rfl) rfl (by decide) rfl ?_
  refine v_sub [2, 1, 0] rfl ?_
  exact t_X11_eRead_14 F E 1000 (pi (pi y 61 37 0) 61 38 0) 1 1 h
def rm_X11_text : Room := { frames := 5, cells := 0, slots := 0, locals := 122 }
def f_X11_text_122 (y : MS) (a1 : Int32) : Option (Int32 × MS) := gd (ib ((4 * (gi y 61 20)) + 3) 24) (if a1 = 0 then (some ((-100) - (gi (pi (pi y 73 (((4 * (gi y 61 20)) + 3).toNatClampNeg) (gi y 61 39)) 61 17 0) 61 32), pi (pi y 73 (((4 * (gi y 61 20)) + 3).toNatClampNeg) (gi y 61 39)) 61 17 0)) else (some ((gi (pi (pi (pi y 73 (((4 * (gi y 61 20)) + 3).toNatClampNeg) (gi y 61 39)) 61 17 0) 61 20 ((gi (pi (pi y 73 (((4 * (gi y 61 20)) + 3).toNatClampNeg) (gi y 61 39)) 61 17 0) 61 20) + 1)) 61 20) - 1, pi (pi (pi y 73 (((4 * (gi y 61 20)) + 3).toNatClampNeg) (gi y 61 39)) 61 17 0) 61 20 ((gi (pi (pi y 73 (((4 * (gi y 61 20)) + 3).toNatClampNeg) (gi y 61 39)) 61 17 0) 61 20) + 1))))
set_option maxRecDepth 100000 in
set_option maxHeartbeats 4000000 in
theorem t_X11_text_122 {C : Cx} {K : KE} {nn : Nat} {x : CS} {R : Int32 × MS}  (y : MS) (a1 : Int32) (h : f_X11_text_122 y a1 = some R) (F : Fx C RX11 cX11_text 3 rm_X11_text K) (E : CE C (xfM K nn x R.2) (some (.int R.1)) 0 0 (some .int)) : V C 122 [(0, .ref (K.1 + 61)), (1, .int a1)] [] (xfM K nn x y) 0 0 := by
  unfold f_X11_text_122 at h
  refine v_aload_n F (dq dkX11_text_1 28 rfl) rfl 0 rfl ?_
  refine v_get F 61 (xnM (by decide)) xc_61 rfl inlX11 19 (by decide) (tc12 _ (List.mem_of_getElem? (i := 7) rfl)) rfl rfl (dq dkX11_text_1 29 rfl) ?_
  refine v_iconst F (v := 4) (dq dkX11_text_1 30 rfl) ki_4 ?_
  refine v_aload_n F (dq dkX11_text_1 31 rfl) rfl 0 rfl ?_
  refine v_get F 61 (xnM (by decide)) xc_61 rfl inlX11 20 (by decide) (tc12 _ (List.mem_of_getElem? (i := 8) rfl)) rfl rfl (dq dkX11_text_1 32 rfl) ?_
  refine v_imul F (dq dkX11_text_1 33 rfl) ?_
  refine v_iconst F (v := 3) (dq dkX11_text_1 34 rfl) ki_3 ?_
  refine v_iadd F (dq dkX11_text_1 35 rfl) ?_
  refine v_aload_n F (dq dkX11_text_1 36 rfl) rfl 0 rfl ?_
  refine v_get F 61 (xnM (by decide)) xc_61 rfl inlX11 39 (by decide) (tc17 _ (List.mem_of_getElem? (i := 23) rfl)) rfl rfl (dq dkX11_text_1 37 rfl) ?_
  obtain ⟨g1, h⟩ := gd_of h
  refine v_iast F 73 (xnM (by decide)) xc_73 (ib_in g1) (dq dkX11_text_1 38 rfl) ?_
  refine v_eqM (xwM (q := 73) (j := ((4 * (gi y 61 20)) + 3).toNatClampNeg) (v := gi y 61 39) (by decide) (by decide) rfl) ?_
  refine v_aload_n F (dq dkX11_text_1 39 rfl) rfl 0 rfl ?_
  refine v_iconst F (v := 0) (dq dkX11_text_2 0 rfl) ki_0 ?_
  refine v_put F 61 (xnM (by decide)) xc_61 rfl inlX11 tyX11_ok nmX11 17 (by decide) (tc16 _ (List.mem_of_getElem? (i := 19) rfl)) rfl rfl (tyX11_ok 17 (by decide)) rfl rfl (Nat.le_of_ble_eq_true rfl) (dq dkX11_text_2 1 rfl) ?_
  refine v_eqM (xwM (q := 61) (j := 17) (v := 0) (by decide) (by decide) rfl) ?_
  refine v_iload_n F (dq dkX11_text_2 2 rfl) rfl 1 rfl ?_
  refine v_if_ne F (tgt := 156) (dq dkX11_text_2 3 rfl) (by decide) (fun c2 => ?_) (fun c2 => ?_)
  · rw [if_neg c2] at h
    refine v_aload_n F (dq dkX11_text_2 9 rfl) rfl 0 rfl ?_
    refine v_dup F (dq dkX11_text_2 10 rfl) rfl ?_
    refine v_get F 61 (xnM (by decide)) xc_61 rfl inlX11 20 (by decide) (tc12 _ (List.mem_of_getElem? (i := 8) rfl)) rfl rfl (dq dkX11_text_2 11 rfl) ?_
    refine v_iconst F (v := 1) (dq dkX11_text_2 12 rfl) ki_1 ?_
    refine v_iadd F (dq dkX11_text_2 13 rfl) ?_
    refine v_put F 61 (xnM (by decide)) xc_61 rfl inlX11 tyX11_ok nmX11 20 (by decide) (tc12 _ (List.mem_of_getElem? (i := 8) rfl)) rfl rfl (tyX11_ok 20 (by decide)) rfl rfl (Nat.le_of_ble_eq_true rfl) (dq dkX11_text_2 14 rfl) ?_
    refine v_eqM (xwM (q := 61) (j := 20) (v := (gi (pi (pi y 73 (((4 * (gi y 61 20)) + 3).toNatClampNeg) (gi y 61 39)) 61 17 0) 61 20) + 1) (by decide) (by decide) rfl) ?_
    refine v_aload_n F (dq dkX11_text_2 15 rfl) rfl 0 rfl ?_
    refine v_get F 61 (xnM (by decide)) xc_61 rfl inlX11 20 (by decide) (tc12 _ (List.mem_of_getElem? (i := 8) rfl)) rfl rfl (dq dkX11_text_2 16 rfl) ?_
    refine v_iconst F (v := 1) (dq dkX11_text_2 17 rfl) ki_1 ?_
    refine v_isub F (dq dkX11_text_2 18 rfl) ?_
    have h := Option.some.inj h
    subst h
    exact v_iret F E (dq dkX11_text_2 19 rfl)
  · rw [if_pos c2] at h
    refine v_bipush F (v := (-100)) (dq dkX11_text_2 4 rfl) kb_m100 ?_
    refine v_aload_n F (dq dkX11_text_2 5 rfl) rfl 0 rfl ?_
    refine v_get F 61 (xnM (by decide)) xc_61 rfl inlX11 32 (by decide) (tc18 _ (List.mem_of_getElem? (i := 2) rfl)) rfl rfl (dq dkX11_text_2 6 rfl) ?_
    refine v_isub F (dq dkX11_text_2 7 rfl) ?_
    have h := Option.some.inj h
    subst h
    exact v_iret F E (dq dkX11_text_2 8 rfl)
def f_X11_text_121 (y : MS) (s0 : Int32) : Option (Int32 × MS) := f_X11_text_122 y s0
set_option maxRecDepth 100000 in
set_option maxHeartbeats 4000000 in
theorem t_X11_text_121 {C : Cx} {K : KE} {nn : Nat} {x : CS} {R : Int32 × MS}  (y : MS) (s0 : Int32) (h : f_X11_text_121 y s0 = some R) (F : Fx C RX11 cX11_text 3 rm_X11_text K) (E : CE C (xfM K nn x R.2) (some (.int R.1)) 0 0 (some .int)) : V C 121 [(0, .ref (K.1 + 61))] [.int s0] (xfM K nn x y) 0 0 := by
  unfold f_X11_text_121 at h
  refine v_istore_n F (ls' := [(1, .int s0), (0, .ref (K.1 + 61))]) (dq dkX11_text_1 27 rfl) rfl (by decide) rfl ?_
  refine v_sub [1, 0] rfl ?_
  exact t_X11_text_122 y s0 h F E
def f_X11_text_101 (y : MS) (a1 : Int32) : Option (Int32 × MS) := if a1 = 0 then (f_X11_text_122 y a1) else ((f_X11_next y).bind fun r4 => if (gi r4 61 33) = 0 then (f_X11_text_121 r4 1) else (f_X11_text_121 r4 0))
set_option maxRecDepth 100000 in
set_option maxHeartbeats 4000000 in
theorem t_X11_text_101 {C : Cx} {K : KE} {nn : Nat} {x : CS} {R : Int32 × MS}  (y : MS) (a1 : Int32) (h : f_X11_text_101 y a1 = some R) (F : Fx C RX11 cX11_text 3 rm_X11_text K) (E : CE C (xfM K nn x R.2) (some (.int R.1)) 0 0 (some .int)) : V C 101 [(0, .ref (K.1 + 61)), (1, .int a1)] [] (xfM K nn x y) 0 0 := by
  unfold f_X11_text_101 at h
  refine v_iload_n F (dq dkX11_text_1 17 rfl) rfl 1 rfl ?_
  refine v_if_eq F (tgt := 122) (dq dkX11_text_1 18 rfl) (by decide) (fun c3 => ?_) (fun c3 => ?_)
  · rw [if_pos c3] at h
    exact t_X11_text_122 y a1 h F E
  · rw [if_neg c3] at h
    refine v_aload_n F (dq dkX11_text_1 19 rfl) rfl 0 rfl ?_
    obtain ⟨r4, e5, h⟩ := bd_of h
    refine v_callV 0 F (q := 61) (kc1 := 0) (ks1 := 0) (as := []) (st := []) (st1 := []) (res := none) (c_X11_next (l := C.2.1) x y e5) (xnM (by decide)) xc_61 rfl (tc18 _ (List.mem_of_getElem? (i := 3) rfl)) (tc18 _ (List.mem_of_getElem? (i := 4) rfl)) (tc18 _ (List.mem_of_getElem? (i := 5) rfl)) (tc1 _ (List.mem_of_getElem? (i := 5) rfl)) (tc18 _ (List.mem_of_getElem? (i := 6) rfl)) (by decide) rfl ⟨rfl, rfl, Nat.le_of_ble_eq_true rfl, Nat.le_of_ble_eq_true rfl⟩ ⟨Nat.le_of_ble_eq_true rfl, Nat.le_of_ble_eq_true rfl⟩ rfl (Nat.le_of_ble_eq_true rfl) rfl rfl rfl (dq dkX11_text_1 20 rfl) ?_
    refine v_aload_n F (dq dkX11_text_1 21 rfl) rfl 0 rfl ?_
    refine v_get F 61 (xnM (by decide)) xc_61 rfl inlX11 33 (by decide) (tc18 _ (List.mem_of_getElem? (i := 0) rfl)) rfl rfl (dq dkX11_text_1 22 rfl) ?_
    refine v_if_ne F (tgt := 120) (dq dkX11_text_1 23 rfl) (by decide) (fun c6 => ?_) (fun c6 => ?_)
    · rw [if_neg c6] at h
      refine v_iconst F (v := 0) (dq dkX11_text_1 26 rfl) ki_0 ?_
      refine v_sub [0] rfl ?_
      exact t_X11_text_121 r4 0 h F E
    · rw [if_pos c6] at h
      refine v_iconst F (v := 1) (dq dkX11_text_1 24 rfl) ki_1 ?_
      refine v_goto F (tgt := 121) (dq dkX11_text_1 25 rfl) (by decide) ?_
      refine v_sub [0] rfl ?_
      exact t_X11_text_121 r4 1 h F E
def f_X11_text_94 (k26 : MS → Int32 → Int32 → Option (Int32 × MS)) (y : MS) (a2 : Int32) (s0 : Int32) : Option (Int32 × MS) := k26 y s0 (a2 + 1)
set_option maxRecDepth 100000 in
set_option maxHeartbeats 4000000 in
theorem t_X11_text_94 {C : Cx} {K : KE} {nn : Nat} {x : CS} {R : Int32 × MS}  (k26 : MS → Int32 → Int32 → Option (Int32 × MS)) (y : MS) (a2 : Int32) (s0 : Int32) (hk26 : ∀ (y : MS) (a1 : Int32) (a2 : Int32), k26 y a1 a2 = some R → V C 26 [(0, .ref (K.1 + 61)), (1, .int a1), (2, .int a2)] [] (xfM K nn x y) 0 0) (h : f_X11_text_94 k26 y a2 s0 = some R) (F : Fx C RX11 cX11_text 3 rm_X11_text K) (E : CE C (xfM K nn x R.2) (some (.int R.1)) 0 0 (some .int)) : V C 94 [(0, .ref (K.1 + 61)), (2, .int a2)] [.int s0] (xfM K nn x y) 0 0 := by
  unfold f_X11_text_94 at h
  refine v_istore_n F (ls' := [(1, .int s0), (0, .ref (K.1 + 61)), (2, .int a2)]) (dq dkX11_text_1 14 rfl) rfl (by decide) rfl ?_
  refine v_iinc F (v := a2 + 1) (ls' := [(2, .int (a2 + 1)), (1, .int s0), (0, .ref (K.1 + 61))]) (dq dkX11_text_1 15 rfl) (j := 2) rfl (kv_add ki_1) (by decide) rfl ?_
  refine v_goto F (tgt := 26) (dq dkX11_text_1 16 rfl) (by decide) ?_
  refine v_sub [2, 1, 0] rfl ?_
  exact hk26 y s0 (a2 + 1) h
def f_X11_text_93 (k26 : MS → Int32 → Int32 → Option (Int32 × MS)) (y : MS) (a2 : Int32) : Option (Int32 × MS) := f_X11_text_94 k26 y a2 0
set_option maxRecDepth 100000 in
set_option maxHeartbeats 4000000 in
theorem t_X11_text_93 {C : Cx} {K : KE} {nn : Nat} {x : CS} {R : Int32 × MS}  (k26 : MS → Int32 → Int32 → Option (Int32 × MS)) (y : MS) (a2 : Int32) (hk26 : ∀ (y : MS) (a1 : Int32) (a2 : Int32), k26 y a1 a2 = some R → V C 26 [(0, .ref (K.1 + 61)), (1, .int a1), (2, .int a2)] [] (xfM K nn x y) 0 0) (h : f_X11_text_93 k26 y a2 = some R) (F : Fx C RX11 cX11_text 3 rm_X11_text K) (E : CE C (xfM K nn x R.2) (some (.int R.1)) 0 0 (some .int)) : V C 93 [(0, .ref (K.1 + 61)), (2, .int a2)] [] (xfM K nn x y) 0 0 := by
  unfold f_X11_text_93 at h
  refine v_iconst F (v := 0) (dq dkX11_text_1 13 rfl) ki_0 ?_
  exact t_X11_text_94 k26 y a2 0 hk26 h F E
def f_X11_text_60 (k26 : MS → Int32 → Int32 → Option (Int32 × MS)) (y : MS) (a2 : Int32) (s0 : Int32) : Option (Int32 × MS) := gd (ib ((4 * (gi y 61 20)) + a2) 24) (if s0 = 0 then (f_X11_text_93 k26 (pi y 73 (((4 * (gi y 61 20)) + a2).toNatClampNeg) (gi y 61 39)) a2) else ((f_X11_eRead (pi y 73 (((4 * (gi y 61 20)) + a2).toNatClampNeg) (gi y 61 39))).bind fun r9 => if (b2i r9.1) = 0 then (f_X11_text_93 k26 r9.2 a2) else (f_X11_text_94 k26 r9.2 a2 1)))
set_option maxRecDepth 100000 in
set_option maxHeartbeats 4000000 in
theorem t_X11_text_60 {C : Cx} {K : KE} {nn : Nat} {x : CS} {R : Int32 × MS}  (k26 : MS → Int32 → Int32 → Option (Int32 × MS)) (y : MS) (a2 : Int32) (s0 : Int32) (hk26 : ∀ (y : MS) (a1 : Int32) (a2 : Int32), k26 y a1 a2 = some R → V C 26 [(0, .ref (K.1 + 61)), (1, .int a1), (2, .int a2)] [] (xfM K nn x y) 0 0) (h : f_X11_text_60 k26 y a2 s0 = some R) (F : Fx C RX11 cX11_text 3 rm_X11_text K) (E : CE C (xfM K nn x R.2) (some (.int R.1)) 0 0 (some .int)) : V C 60 [(0, .ref (K.1 + 61)), (2, .int a2)] [.int s0] (xfM K nn x y) 0 0 := by
  unfold f_X11_text_60 at h
  refine v_istore_n F (ls' := [(1, .int s0), (0, .ref (K.1 + 61)), (2, .int a2)]) (dq dkX11_text_0 34 rfl) rfl (by decide) rfl ?_
  refine v_aload_n F (dq dkX11_text_0 35 rfl) rfl 1 rfl ?_
  refine v_get F 61 (xnM (by decide)) xc_61 rfl inlX11 19 (by decide) (tc12 _ (List.mem_of_getElem? (i := 7) rfl)) rfl rfl (dq dkX11_text_0 36 rfl) ?_
  refine v_iconst F (v := 4) (dq dkX11_text_0 37 rfl) ki_4 ?_
  refine v_aload_n F (dq dkX11_text_0 38 rfl) rfl 1 rfl ?_
  refine v_get F 61 (xnM (by decide)) xc_61 rfl inlX11 20 (by decide) (tc12 _ (List.mem_of_getElem? (i := 8) rfl)) rfl rfl (dq dkX11_text_0 39 rfl) ?_
  refine v_imul F (dq dkX11_text_1 0 rfl) ?_
  refine v_iload_n F (dq dkX11_text_1 1 rfl) rfl 2 rfl ?_
  refine v_iadd F (dq dkX11_text_1 2 rfl) ?_
  refine v_aload_n F (dq dkX11_text_1 3 rfl) rfl 1 rfl ?_
  refine v_get F 61 (xnM (by decide)) xc_61 rfl inlX11 39 (by decide) (tc17 _ (List.mem_of_getElem? (i := 23) rfl)) rfl rfl (dq dkX11_text_1 4 rfl) ?_
  obtain ⟨g7, h⟩ := gd_of h
  refine v_iast F 73 (xnM (by decide)) xc_73 (ib_in g7) (dq dkX11_text_1 5 rfl) ?_
  refine v_eqM (xwM (q := 73) (j := ((4 * (gi y 61 20)) + a2).toNatClampNeg) (v := gi y 61 39) (by decide) (by decide) rfl) ?_
  refine v_iload_n F (dq dkX11_text_1 6 rfl) rfl 0 rfl ?_
  refine v_if_eq F (tgt := 93) (dq dkX11_text_1 7 rfl) (by decide) (fun c8 => ?_) (fun c8 => ?_)
  · rw [if_pos c8] at h
    refine v_sub [1, 2] rfl ?_
    exact t_X11_text_93 k26 (pi y 73 (((4 * (gi y 61 20)) + a2).toNatClampNeg) (gi y 61 39)) a2 hk26 h F E
  · rw [if_neg c8] at h
    refine v_aload_n F (dq dkX11_text_1 8 rfl) rfl 1 rfl ?_
    obtain ⟨r9, e10, h⟩ := bd_of h
    refine v_callV 0 F (q := 61) (kc1 := 0) (ks1 := 0) (as := []) (st := []) (st1 := (.int (b2i r9.1) :: [])) (res := (some (.int (b2i r9.1)))) (c_X11_eRead (l := C.2.1) x (pi y 73 (((4 * (gi y 61 20)) + a2).toNatClampNeg) (gi y 61 39)) e10) (xnM (by decide)) xc_61 rfl (tc18 _ (List.mem_of_getElem? (i := 11) rfl)) (tc18 _ (List.mem_of_getElem? (i := 12) rfl)) (tc18 _ (List.mem_of_getElem? (i := 13) rfl)) (tc1 _ (List.mem_of_getElem? (i := 5) rfl)) (tc18 _ (List.mem_of_getElem? (i := 14) rfl)) (by decide) rfl ⟨rfl, rfl, Nat.le_of_ble_eq_true rfl, Nat.le_of_ble_eq_true rfl⟩ ⟨Nat.le_of_ble_eq_true rfl, Nat.le_of_ble_eq_true rfl⟩ rfl (Nat.le_of_ble_eq_true rfl) rfl rfl rfl (dq dkX11_text_1 9 rfl) ?_
    refine v_if_eq F (tgt := 93) (dq dkX11_text_1 10 rfl) (by decide) (fun c11 => ?_) (fun c11 => ?_)
    · rw [if_pos c11] at h
      refine v_sub [1, 2] rfl ?_
      exact t_X11_text_93 k26 r9.2 a2 hk26 h F E
    · rw [if_neg c11] at h
      refine v_iconst F (v := 1) (dq dkX11_text_1 11 rfl) ki_1 ?_
      refine v_goto F (tgt := 94) (dq dkX11_text_1 12 rfl) (by decide) ?_
      refine v_sub [1, 2] rfl ?_
      exact t_X11_text_94 k26 r9.2 a2 1 hk26 h F E
def f_X11_text_59 (k26 : MS → Int32 → Int32 → Option (Int32 × MS)) (y : MS) (a2 : Int32) : Option (Int32 × MS) := f_X11_text_60 k26 y a2 0
set_option maxRecDepth 100000 in
set_option maxHeartbeats 4000000 in
theorem t_X11_text_59 {C : Cx} {K : KE} {nn : Nat} {x : CS} {R : Int32 × MS}  (k26 : MS → Int32 → Int32 → Option (Int32 × MS)) (y : MS) (a2 : Int32) (hk26 : ∀ (y : MS) (a1 : Int32) (a2 : Int32), k26 y a1 a2 = some R → V C 26 [(0, .ref (K.1 + 61)), (1, .int a1), (2, .int a2)] [] (xfM K nn x y) 0 0) (h : f_X11_text_59 k26 y a2 = some R) (F : Fx C RX11 cX11_text 3 rm_X11_text K) (E : CE C (xfM K nn x R.2) (some (.int R.1)) 0 0 (some .int)) : V C 59 [(0, .ref (K.1 + 61)), (2, .int a2)] [] (xfM K nn x y) 0 0 := by
  unfold f_X11_text_59 at h
  refine v_iconst F (v := 0) (dq dkX11_text_0 33 rfl) ki_0 ?_
  exact t_X11_text_60 k26 y a2 0 hk26 h F E
def f_X11_text_26 : Nat → MS → Int32 → Int32 → Option (Int32 × MS)
  | 0, _, _, _ => none
  | n + 1, y, a1, a2 => if 3 ≤ a2 then (f_X11_text_101 y a1) else (if a1 = 0 then (f_X11_text_101 y a1) else ((f_X11_next y).bind fun r14 => if (gi r14 61 33) = 3 then (if (gi r14 61 34) = a2 then (f_X11_text_60 (f_X11_text_26 n) r14 a2 1) else (f_X11_text_59 (f_X11_text_26 n) r14 a2)) else (f_X11_text_59 (f_X11_text_26 n) r14 a2)))
set_option maxRecDepth 100000 in
set_option maxHeartbeats 4000000 in
theorem t_X11_text_26 {C : Cx} {K : KE} {nn : Nat} {x : CS} {R : Int32 × MS}  (F : Fx C RX11 cX11_text 3 rm_X11_text K) (E : CE C (xfM K nn x R.2) (some (.int R.1)) 0 0 (some .int)) : ∀ (n : Nat) (y : MS) (a1 : Int32) (a2 : Int32) (h : f_X11_text_26 n y a1 a2 = some R), V C 26 [(0, .ref (K.1 + 61)), (1, .int a1), (2, .int a2)] [] (xfM K nn x y) 0 0 := by
  intro n
  induction n with
  | zero => intro y a1 a2 h; cases h
  | succ n ih =>
    intro y a1 a2 h
    rw [f_X11_text_26] at h
    refine v_iload_n F (dq dkX11_text_0 16 rfl) rfl 2 rfl ?_
    refine v_iconst F (v := 3) (dq dkX11_text_0 17 rfl) ki_3 ?_
    refine v_icmp_ge F (tgt := 101) (dq dkX11_text_0 18 rfl) (by decide) (fun c12 => ?_) (fun c12 => ?_)
    · rw [if_pos c12] at h
      refine v_sub [0, 1] rfl ?_
      exact t_X11_text_101 y a1 h F E
    · rw [if_neg c12] at h
      refine v_iload_n F (dq dkX11_text_0 19 rfl) rfl 1 rfl ?_
      refine v_if_eq F (tgt := 101) (dq dkX11_text_0 20 rfl) (by decide) (fun c13 => ?_) (fun c13 => ?_)
      · rw [if_pos c13] at h
        refine v_sub [0, 1] rfl ?_
        exact t_X11_text_101 y a1 h F E
      · rw [if_neg c13] at h
        refine v_aload_n F (dq dkX11_text_0 21 rfl) rfl 0 rfl ?_
        obtain ⟨r14, e15, h⟩ := bd_of h
        refine v_callV 0 F (q := 61) (kc1 := 0) (ks1 := 0) (as := []) (st := []) (st1 := []) (res := none) (c_X11_next (l := C.2.1) x y e15) (xnM (by decide)) xc_61 rfl (tc18 _ (List.mem_of_getElem? (i := 3) rfl)) (tc18 _ (List.mem_of_getElem? (i := 4) rfl)) (tc18 _ (List.mem_of_getElem? (i := 5) rfl)) (tc1 _ (List.mem_of_getElem? (i := 5) rfl)) (tc18 _ (List.mem_of_getElem? (i := 6) rfl)) (by decide) rfl ⟨rfl, rfl, Nat.le_of_ble_eq_true rfl, Nat.le_of_ble_eq_true rfl⟩ ⟨Nat.le_of_ble_eq_true rfl, Nat.le_of_ble_eq_true rfl⟩ rfl (Nat.le_of_ble_eq_true rfl) rfl rfl rfl (dq dkX11_text_0 22 rfl) ?_
        refine v_aload_n F (dq dkX11_text_0 23 rfl) rfl 0 rfl ?_
        refine v_get F 61 (xnM (by decide)) xc_61 rfl inlX11 33 (by decide) (tc18 _ (List.mem_of_getElem? (i := 0) rfl)) rfl rfl (dq dkX11_text_0 24 rfl) ?_
        refine v_iconst F (v := 3) (dq dkX11_text_0 25 rfl) ki_3 ?_
        refine v_icmp_ne F (tgt := 59) (dq dkX11_text_0 26 rfl) (by decide) (fun c16 => ?_) (fun c16 => ?_)
        · rw [if_neg c16] at h
          refine v_sub [0, 2] rfl ?_
          exact t_X11_text_59 (f_X11_text_26 n) r14 a2 ih h F E
        · rw [if_pos c16] at h
          refine v_aload_n F (dq dkX11_text_0 27 rfl) rfl 0 rfl ?_
          refine v_get F 61 (xnM (by decide)) xc_61 rfl inlX11 34 (by decide) (tc18 _ (List.mem_of_getElem? (i := 1) rfl)) rfl rfl (dq dkX11_text_0 28 rfl) ?_
          refine v_iload_n F (dq dkX11_text_0 29 rfl) rfl 2 rfl ?_
          refine v_icmp_ne F (tgt := 59) (dq dkX11_text_0 30 rfl) (by decide) (fun c17 => ?_) (fun c17 => ?_)
          · rw [if_neg c17] at h
            refine v_sub [0, 2] rfl ?_
            exact t_X11_text_59 (f_X11_text_26 n) r14 a2 ih h F E
          · rw [if_pos c17] at h
            refine v_iconst F (v := 1) (dq dkX11_text_0 31 rfl) ki_1 ?_
            refine v_goto F (tgt := 60) (dq dkX11_text_0 32 rfl) (by decide) ?_
            refine v_sub [0, 2] rfl ?_
            exact t_X11_text_60 (f_X11_text_26 n) r14 a2 1 ih h F E
def f_X11_text (y : MS) : Option (Int32 × MS) := if (gi y 61 20) = 6 then (some ((-4), y)) else (f_X11_text_26 1000 (pi (pi y 61 31 0) 61 39 0) 1 0)
set_option maxRecDepth 100000 in
set_option maxHeartbeats 4000000 in
theorem c_X11_text {K : KE} {l : Launch} {R : Int32 × MS} {nn : Nat} (x : CS) (y : MS) (h : f_X11_text y = some R) : MC K l yX11_text cX11_text 3 (some .int) rm_X11_text 0 0 [.ref (K.1 + 61)] (xfM K nn x y) (xfM K nn x R.2) (some (.int R.1)) := by
  unfold f_X11_text at h
  refine mc_of (ls0 := [(0, .ref (K.1 + 61))]) (by decide) (Nat.le_of_ble_eq_true rfl) rfl (fun C hl hnm F E => ?_)
  have F : Fx C RX11 cX11_text 3 rm_X11_text K := F
  refine v_aload_n F (dq dkX11_text_0 0 rfl) rfl 0 rfl ?_
  refine v_get F 61 (xnM (by decide)) xc_61 rfl inlX11 20 (by decide) (tc12 _ (List.mem_of_getElem? (i := 8) rfl)) rfl rfl (dq dkX11_text_0 1 rfl) ?_
  refine v_bipush F (v := 6) (dq dkX11_text_0 2 rfl) kb_6 ?_
  refine v_icmp_ne F (tgt := 12) (dq dkX11_text_0 3 rfl) (by decide) (fun c18 => ?_) (fun c18 => ?_)
  · rw [if_neg c18] at h
    refine v_aload_n F (dq dkX11_text_0 6 rfl) rfl 0 rfl ?_
    refine v_iconst F (v := 0) (dq dkX11_text_0 7 rfl) ki_0 ?_
    refine v_put F 61 (xnM (by decide)) xc_61 rfl inlX11 tyX11_ok nmX11 31 (by decide) (tc17 _ (List.mem_of_getElem? (i := 22) rfl)) rfl rfl (tyX11_ok 31 (by decide)) rfl rfl (Nat.le_of_ble_eq_true rfl) (dq dkX11_text_0 8 rfl) ?_
    refine v_eqM (xwM (q := 61) (j := 31) (v := 0) (by decide) (by decide) rfl) ?_
    refine v_aload_n F (dq dkX11_text_0 9 rfl) rfl 0 rfl ?_
    refine v_iconst F (v := 0) (dq dkX11_text_0 10 rfl) ki_0 ?_
    refine v_put F 61 (xnM (by decide)) xc_61 rfl inlX11 tyX11_ok nmX11 39 (by decide) (tc17 _ (List.mem_of_getElem? (i := 23) rfl)) rfl rfl (tyX11_ok 39 (by decide)) rfl rfl (Nat.le_of_ble_eq_true rfl) (dq dkX11_text_0 11 rfl) ?_
    refine v_eqM (xwM (q := 61) (j := 39) (v := 0) (by decide) (by decide) rfl) ?_
    refine v_iconst F (v := 1) (dq dkX11_text_0 12 rfl) ki_1 ?_
    refine v_istore_n F (ls' := [(1, .int 1), (0, .ref (K.1 + 61))]) (dq dkX11_text_0 13 rfl) rfl (by decide) rfl ?_
    refine v_iconst F (v := 0) (dq dkX11_text_0 14 rfl) ki_0 ?_
    refine v_istore_n F (ls' := [(2, .int 0), (1, .int 1), (0, .ref (K.1 + 61))]) (dq dkX11_text_0 15 rfl) rfl (by decide) rfl ?_
    refine v_sub [2, 1, 0] rfl ?_
    exact t_X11_text_26 F E 1000 (pi (pi y 61 31 0) 61 39 0) 1 0 h
  · rw [if_pos c18] at h
    refine v_bipush F (v := (-4)) (dq dkX11_text_0 4 rfl) kb_m4 ?_
    have h := Option.some.inj h
    subst h
    exact v_iret F E (dq dkX11_text_0 5 rfl)
def rm_X11_two : Room := { frames := 1, cells := 0, slots := 0, locals := 30 }
def f_X11_two_102 (a1 : Int32) (a2 : Int32) : Int32 := a1 * a2
set_option maxRecDepth 100000 in
set_option maxHeartbeats 4000000 in
theorem t_X11_two_102 {C : Cx} {K : KE} {M : GM} {R : Int32}  (a1 : Int32) (a2 : Int32) (h : f_X11_two_102 a1 a2 = R) (F : Fx C RX11 cX11_two 3 rm_X11_two K) (E : CE C M (some (.int R)) 0 0 (some .int)) : V C 102 [(1, .int a1), (2, .int a2)] [] M 0 0 := by
  unfold f_X11_two_102 at h
  refine v_iload_n F (dq dkX11_two_1 0 rfl) rfl 0 rfl ?_
  refine v_iload_n F (dq dkX11_two_1 1 rfl) rfl 1 rfl ?_
  refine v_imul F (dq dkX11_two_1 2 rfl) ?_
  subst h
  exact v_iret F E (dq dkX11_two_1 3 rfl)
def f_X11_two_52 : Int32 := 1
set_option maxRecDepth 100000 in
set_option maxHeartbeats 4000000 in
theorem t_X11_two_52 {C : Cx} {K : KE} {M : GM} {R : Int32}  (h : f_X11_two_52  = R) (F : Fx C RX11 cX11_two 3 rm_X11_two K) (E : CE C M (some (.int R)) 0 0 (some .int)) : V C 52 [] [] M 0 0 := by
  unfold f_X11_two_52 at h
  refine v_iconst F (v := 1) (dq dkX11_two_0 6 rfl) ki_1 ?_
  refine v_goto F (tgt := 57) (dq dkX11_two_0 7 rfl) (by decide) ?_
  subst h
  exact v_iret F E (dq dkX11_two_0 9 rfl)
def f_X11_two_70 : Int32 := 0
set_option maxRecDepth 100000 in
set_option maxHeartbeats 4000000 in
theorem t_X11_two_70 {C : Cx} {K : KE} {M : GM} {R : Int32}  (h : f_X11_two_70  = R) (F : Fx C RX11 cX11_two 3 rm_X11_two K) (E : CE C M (some (.int R)) 0 0 (some .int)) : V C 70 [] [] M 0 0 := by
  unfold f_X11_two_70 at h
  refine v_iconst F (v := 0) (dq dkX11_two_0 16 rfl) ki_0 ?_
  subst h
  exact v_iret F E (dq dkX11_two_0 17 rfl)
def f_X11_two (a0 : Int32) (a1 : Int32) (a2 : Int32) : Int32 := if a0 = 11 then (if a1 = 0 then (if a2 = 0 then 0 else f_X11_two_52) else f_X11_two_52) else (if a0 = 12 then (if a1 = 0 then f_X11_two_70 else (if a2 = 0 then f_X11_two_70 else 1)) else (if a0 = 13 then (f_X11_two_102 a1 a2) else (if a0 = 14 then (if a2 ≤ a1 then 0 else 1) else (if a0 = 15 then (if a1 = a2 then 1 else 0) else (if a0 = 16 then (a1 + a2) else (if a0 = 17 then (a1 - a2) else (f_X11_two_102 a1 a2)))))))
set_option maxRecDepth 100000 in
set_option maxHeartbeats 4000000 in
theorem c_X11_two {K : KE} {l : Launch} {M : GM} (a0 : Int32) (a1 : Int32) (a2 : Int32) : MC K l yX11_two cX11_two 3 (some .int) rm_X11_two 0 0 [.int a0, .int a1, .int a2] M M (some (.int (f_X11_two a0 a1 a2))) := by
  obtain ⟨R, h⟩ : ∃ R, f_X11_two a0 a1 a2 = R := ⟨_, rfl⟩
  rw [h]
  unfold f_X11_two at h
  refine mc_of (ls0 := [(0, .int a0), (1, .int a1), (2, .int a2)]) (by decide) (Nat.le_of_ble_eq_true rfl) rfl (fun C hl hnm F E => ?_)
  have F : Fx C RX11 cX11_two 3 rm_X11_two K := F
  refine v_iload_n F (dq dkX11_two_0 0 rfl) rfl 0 rfl ?_
  by_cases c1 : a0 = 11
  · rw [if_pos c1] at h
    refine v_tblIn F (off := 43) (tgt := 44) (dq dkX11_two_0 1 rfl) (by rw [c1]; decide) (by rw [c1]; decide) (by rw [c1]; rfl) (by decide) ?_
    refine v_iload_n F (dq dkX11_two_0 2 rfl) rfl 1 rfl ?_
    refine v_if_ne F (tgt := 52) (dq dkX11_two_0 3 rfl) (by decide) (fun c2 => ?_) (fun c2 => ?_)
    · rw [if_neg c2] at h
      refine v_sub [] rfl ?_
      exact t_X11_two_52 h F E
    · rw [if_pos c2] at h
      refine v_iload_n F (dq dkX11_two_0 4 rfl) rfl 2 rfl ?_
      refine v_if_eq F (tgt := 56) (dq dkX11_two_0 5 rfl) (by decide) (fun c3 => ?_) (fun c3 => ?_)
      · rw [if_pos c3] at h
        refine v_iconst F (v := 0) (dq dkX11_two_0 8 rfl) ki_0 ?_
        subst h
        exact v_iret F E (dq dkX11_two_0 9 rfl)
      · rw [if_neg c3] at h
        refine v_sub [] rfl ?_
        exact t_X11_two_52 h F E
  rw [if_neg c1] at h
  by_cases c4 : a0 = 12
  · rw [if_pos c4] at h
    refine v_tblIn F (off := 57) (tgt := 58) (dq dkX11_two_0 1 rfl) (by rw [c4]; decide) (by rw [c4]; decide) (by rw [c4]; rfl) (by decide) ?_
    refine v_iload_n F (dq dkX11_two_0 10 rfl) rfl 1 rfl ?_
    refine v_if_eq F (tgt := 70) (dq dkX11_two_0 11 rfl) (by decide) (fun c5 => ?_) (fun c5 => ?_)
    · rw [if_pos c5] at h
      refine v_sub [] rfl ?_
      exact t_X11_two_70 h F E
    · rw [if_neg c5] at h
      refine v_iload_n F (dq dkX11_two_0 12 rfl) rfl 2 rfl ?_
      refine v_if_eq F (tgt := 70) (dq dkX11_two_0 13 rfl) (by decide) (fun c6 => ?_) (fun c6 => ?_)
      · rw [if_pos c6] at h
        refine v_sub [] rfl ?_
        exact t_X11_two_70 h F E
      · rw [if_neg c6] at h
        refine v_iconst F (v := 1) (dq dkX11_two_0 14 rfl) ki_1 ?_
        refine v_goto F (tgt := 71) (dq dkX11_two_0 15 rfl) (by decide) ?_
        subst h
        exact v_iret F E (dq dkX11_two_0 17 rfl)
  rw [if_neg c4] at h
  by_cases c7 : a0 = 13
  · rw [if_pos c7] at h
    refine v_tblIn F (off := 101) (tgt := 102) (dq dkX11_two_0 1 rfl) (by rw [c7]; decide) (by rw [c7]; decide) (by rw [c7]; rfl) (by decide) ?_
    refine v_sub [1, 2] rfl ?_
    exact t_X11_two_102 a1 a2 h F E
  rw [if_neg c7] at h
  by_cases c8 : a0 = 14
  · rw [if_pos c8] at h
    refine v_tblIn F (off := 71) (tgt := 72) (dq dkX11_two_0 1 rfl) (by rw [c8]; decide) (by rw [c8]; decide) (by rw [c8]; rfl) (by decide) ?_
    refine v_iload_n F (dq dkX11_two_0 18 rfl) rfl 1 rfl ?_
    refine v_iload_n F (dq dkX11_two_0 19 rfl) rfl 2 rfl ?_
    refine v_icmp_ge F (tgt := 81) (dq dkX11_two_0 20 rfl) (by decide) (fun c9 => ?_) (fun c9 => ?_)
    · rw [if_pos c9] at h
      refine v_iconst F (v := 0) (dq dkX11_two_0 23 rfl) ki_0 ?_
      subst h
      exact v_iret F E (dq dkX11_two_0 24 rfl)
    · rw [if_neg c9] at h
      refine v_iconst F (v := 1) (dq dkX11_two_0 21 rfl) ki_1 ?_
      refine v_goto F (tgt := 82) (dq dkX11_two_0 22 rfl) (by decide) ?_
      subst h
      exact v_iret F E (dq dkX11_two_0 24 rfl)
  rw [if_neg c8] at h
  by_cases c10 : a0 = 15
  · rw [if_pos c10] at h
    refine v_tblIn F (off := 82) (tgt := 83) (dq dkX11_two_0 1 rfl) (by rw [c10]; decide) (by rw [c10]; decide) (by rw [c10]; rfl) (by decide) ?_
    refine v_iload_n F (dq dkX11_two_0 25 rfl) rfl 1 rfl ?_
    refine v_iload_n F (dq dkX11_two_0 26 rfl) rfl 2 rfl ?_
    refine v_icmp_ne F (tgt := 92) (dq dkX11_two_0 27 rfl) (by decide) (fun c11 => ?_) (fun c11 => ?_)
    · rw [if_neg c11] at h
      refine v_iconst F (v := 0) (dq dkX11_two_0 30 rfl) ki_0 ?_
      subst h
      exact v_iret F E (dq dkX11_two_0 31 rfl)
    · rw [if_pos c11] at h
      refine v_iconst F (v := 1) (dq dkX11_two_0 28 rfl) ki_1 ?_
      refine v_goto F (tgt := 93) (dq dkX11_two_0 29 rfl) (by decide) ?_
      subst h
      exact v_iret F E (dq dkX11_two_0 31 rfl)
  rw [if_neg c10] at h
  by_cases c12 : a0 = 16
  · rw [if_pos c12] at h
    refine v_tblIn F (off := 93) (tgt := 94) (dq dkX11_two_0 1 rfl) (by rw [c12]; decide) (by rw [c12]; decide) (by rw [c12]; rfl) (by decide) ?_
    refine v_iload_n F (dq dkX11_two_0 32 rfl) rfl 1 rfl ?_
    refine v_iload_n F (dq dkX11_two_0 33 rfl) rfl 2 rfl ?_
    refine v_iadd F (dq dkX11_two_0 34 rfl) ?_
    subst h
    exact v_iret F E (dq dkX11_two_0 35 rfl)
  rw [if_neg c12] at h
  by_cases c13 : a0 = 17
  · rw [if_pos c13] at h
    refine v_tblIn F (off := 97) (tgt := 98) (dq dkX11_two_0 1 rfl) (by rw [c13]; decide) (by rw [c13]; decide) (by rw [c13]; rfl) (by decide) ?_
    refine v_iload_n F (dq dkX11_two_0 36 rfl) rfl 1 rfl ?_
    refine v_iload_n F (dq dkX11_two_0 37 rfl) rfl 2 rfl ?_
    refine v_isub F (dq dkX11_two_0 38 rfl) ?_
    subst h
    exact v_iret F E (dq dkX11_two_0 39 rfl)
  rw [if_neg c13] at h
  have zc1 := lv_neT c1 (a := 11) (by decide)
  have zc4 := lv_neT c4 (a := 12) (by decide)
  have zc7 := lv_neT c7 (a := 13) (by decide)
  have zc8 := lv_neT c8 (a := 14) (by decide)
  have zc10 := lv_neT c10 (a := 15) (by decide)
  have zc12 := lv_neT c12 (a := 16) (by decide)
  have zc13 := lv_neT c13 (a := 17) (by decide)
  refine v_tblOut F (tgt := 102) (dq dkX11_two_0 1 rfl) (by omega) (by decide) ?_
  refine v_sub [1, 2] rfl ?_
  exact t_X11_two_102 a1 a2 h F E
def rm_X11_worthOf : Room := { frames := 2, cells := 0, slots := 0, locals := 52 }
def f_X11_worthOf_191 (k16 : MS → Int32 → Int32 → Int32 → Option (Int32 × MS)) (y : MS) (a1 : Int32) (a2 : Int32) (a3 : Int32) : Option (Int32 × MS) := k16 y a1 a2 (a3 + 1)
set_option maxRecDepth 100000 in
set_option maxHeartbeats 4000000 in
theorem t_X11_worthOf_191 {C : Cx} {K : KE} {nn : Nat} {x : CS} {R : Int32 × MS}  (k16 : MS → Int32 → Int32 → Int32 → Option (Int32 × MS)) (y : MS) (a1 : Int32) (a2 : Int32) (a3 : Int32) (hk16 : ∀ (y : MS) (a1 : Int32) (a2 : Int32) (a3 : Int32), k16 y a1 a2 a3 = some R → V C 16 [(0, .ref (K.1 + 61)), (1, .int a1), (2, .int a2), (3, .int a3)] [] (xfM K nn x y) 0 0) (h : f_X11_worthOf_191 k16 y a1 a2 a3 = some R) (F : Fx C RX11 cX11_worthOf 5 rm_X11_worthOf K) (E : CE C (xfM K nn x R.2) (some (.int R.1)) 0 0 (some .int)) : V C 191 [(0, .ref (K.1 + 61)), (1, .int a1), (2, .int a2), (3, .int a3)] [] (xfM K nn x y) 0 0 := by
  unfold f_X11_worthOf_191 at h
  refine v_iinc F (v := a3 + 1) (ls' := [(3, .int (a3 + 1)), (0, .ref (K.1 + 61)), (1, .int a1), (2, .int a2)]) (dq dkX11_worthOf_2 34 rfl) (j := 3) rfl (kv_add ki_1) (by decide) rfl ?_
  refine v_goto F (tgt := 16) (dq dkX11_worthOf_2 35 rfl) (by decide) ?_
  refine v_sub [1, 2, 3, 0] rfl ?_
  exact hk16 y a1 a2 (a3 + 1) h
def f_X11_worthOf_93 (k16 : MS → Int32 → Int32 → Int32 → Option (Int32 × MS)) (y : MS) (a1 : Int32) (a2 : Int32) (a3 : Int32) (s0 : Int32) (s1 : Int32) : Option (Int32 × MS) := gd (ib s1 200) (f_X11_worthOf_191 k16 (pi y 82 s1.toNatClampNeg s0) a1 (a2 + 1) a3)
set_option maxRecDepth 100000 in
set_option maxHeartbeats 4000000 in
theorem t_X11_worthOf_93 {C : Cx} {K : KE} {nn : Nat} {x : CS} {R : Int32 × MS}  (k16 : MS → Int32 → Int32 → Int32 → Option (Int32 × MS)) (y : MS) (a1 : Int32) (a2 : Int32) (a3 : Int32) (s0 : Int32) (s1 : Int32) (hk16 : ∀ (y : MS) (a1 : Int32) (a2 : Int32) (a3 : Int32), k16 y a1 a2 a3 = some R → V C 16 [(0, .ref (K.1 + 61)), (1, .int a1), (2, .int a2), (3, .int a3)] [] (xfM K nn x y) 0 0) (h : f_X11_worthOf_93 k16 y a1 a2 a3 s0 s1 = some R) (F : Fx C RX11 cX11_worthOf 5 rm_X11_worthOf K) (E : CE C (xfM K nn x R.2) (some (.int R.1)) 0 0 (some .int)) : V C 93 [(0, .ref (K.1 + 61)), (1, .int a1), (2, .int a2), (3, .int a3)] [.int s0, .int s1, .ref (K.1 + 82)] (xfM K nn x y) 0 0 := by
  unfold f_X11_worthOf_93 at h
  obtain ⟨g1, h⟩ := gd_of h
  refine v_iast F 82 (xnM (by decide)) xc_82 (ib_in g1) (dq dkX11_worthOf_1 15 rfl) ?_
  refine v_eqM (xwM (q := 82) (j := s1.toNatClampNeg) (v := s0) (by decide) (by decide) rfl) ?_
  refine v_iinc F (v := a2 + 1) (ls' := [(2, .int (a2 + 1)), (0, .ref (K.1 + 61)), (1, .int a1), (3, .int a3)]) (dq dkX11_worthOf_1 16 rfl) (j := 2) rfl (kv_add ki_1) (by decide) rfl ?_
  refine v_goto F (tgt := 191) (dq dkX11_worthOf_1 17 rfl) (by decide) ?_
  refine v_sub [1, 2, 0, 3] rfl ?_
  exact t_X11_worthOf_191 k16 (pi y 82 s1.toNatClampNeg s0) a1 (a2 + 1) a3 hk16 h F E
def f_X11_worthOf_66 (k16 : MS → Int32 → Int32 → Int32 → Option (Int32 × MS)) (y : MS) (a1 : Int32) (a2 : Int32) (a3 : Int32) (a4 : Int32) : Option (Int32 × MS) := if 11 ≤ a4 then (f_X11_worthOf_93 k16 y a1 a2 a3 (a4 - 100000) a2) else (gd (ib a4 6) (f_X11_worthOf_93 k16 y a1 a2 a3 (gi y 83 a4.toNatClampNeg) a2))
set_option maxRecDepth 100000 in
set_option maxHeartbeats 4000000 in
theorem t_X11_worthOf_66 {C : Cx} {K : KE} {nn : Nat} {x : CS} {R : Int32 × MS}  (k16 : MS → Int32 → Int32 → Int32 → Option (Int32 × MS)) (y : MS) (a1 : Int32) (a2 : Int32) (a3 : Int32) (a4 : Int32) (hk16 : ∀ (y : MS) (a1 : Int32) (a2 : Int32) (a3 : Int32), k16 y a1 a2 a3 = some R → V C 16 [(0, .ref (K.1 + 61)), (1, .int a1), (2, .int a2), (3, .int a3)] [] (xfM K nn x y) 0 0) (h : f_X11_worthOf_66 k16 y a1 a2 a3 a4 = some R) (F : Fx C RX11 cX11_worthOf 5 rm_X11_worthOf K) (E : CE C (xfM K nn x R.2) (some (.int R.1)) 0 0 (some .int)) : V C 66 [(0, .ref (K.1 + 61)), (1, .int a1), (2, .int a2), (3, .int a3), (4, .int a4)] [] (xfM K nn x y) 0 0 := by
  unfold f_X11_worthOf_66 at h
  refine v_aload_n F (dq dkX11_worthOf_1 1 rfl) rfl 0 rfl ?_
  refine v_get F 61 (xnM (by decide)) xc_61 rfl inlX11 40 (by decide) (tc13 _ (List.mem_of_getElem? (i := 6) rfl)) rfl rfl (dq dkX11_worthOf_1 2 rfl) ?_
  refine v_iload_n F (dq dkX11_worthOf_1 3 rfl) rfl 2 rfl ?_
  refine v_iload F (dq dkX11_worthOf_1 4 rfl) 4 rfl ?_
  refine v_bipush F (v := 11) (dq dkX11_worthOf_1 5 rfl) kb_11 ?_
  refine v_icmp_ge F (tgt := 88) (dq dkX11_worthOf_1 6 rfl) (by decide) (fun c2 => ?_) (fun c2 => ?_)
  · rw [if_pos c2] at h
    refine v_iload F (dq dkX11_worthOf_1 12 rfl) 4 rfl ?_
    refine v_ldc F (v := 100000) (tc18 _ (List.mem_of_getElem? (i := 17) rfl)) (dq dkX11_worthOf_1 13 rfl) ?_
    refine v_isub F (dq dkX11_worthOf_1 14 rfl) ?_
    refine v_sub [0, 1, 2, 3] rfl ?_
    exact t_X11_worthOf_93 k16 y a1 a2 a3 (a4 - 100000) a2 hk16 h F E
  · rw [if_neg c2] at h
    refine v_aload_n F (dq dkX11_worthOf_1 7 rfl) rfl 0 rfl ?_
    refine v_get F 61 (xnM (by decide)) xc_61 rfl inlX11 41 (by decide) (tc13 _ (List.mem_of_getElem? (i := 7) rfl)) rfl rfl (dq dkX11_worthOf_1 8 rfl) ?_
    refine v_iload F (dq dkX11_worthOf_1 9 rfl) 4 rfl ?_
    obtain ⟨g3, h⟩ := gd_of h
    refine v_iald F 83 (xnM (by decide)) xc_83 (ib_in g3) (dq dkX11_worthOf_1 10 rfl) ?_
    refine v_goto F (tgt := 93) (dq dkX11_worthOf_1 11 rfl) (by decide) ?_
    refine v_sub [0, 1, 2, 3] rfl ?_
    exact t_X11_worthOf_93 k16 y a1 a2 a3 (gi y 83 a4.toNatClampNeg) a2 hk16 h F E
def f_X11_worthOf_130 (k16 : MS → Int32 → Int32 → Int32 → Option (Int32 × MS)) (y : MS) (a1 : Int32) (a2 : Int32) (a3 : Int32) (s0 : Int32) (s1 : Int32) : Option (Int32 × MS) := gd (ib s1 200) (f_X11_worthOf_191 k16 (pi y 82 s1.toNatClampNeg s0) a1 a2 a3)
set_option maxRecDepth 100000 in
set_option maxHeartbeats 4000000 in
theorem t_X11_worthOf_130 {C : Cx} {K : KE} {nn : Nat} {x : CS} {R : Int32 × MS}  (k16 : MS → Int32 → Int32 → Int32 → Option (Int32 × MS)) (y : MS) (a1 : Int32) (a2 : Int32) (a3 : Int32) (s0 : Int32) (s1 : Int32) (hk16 : ∀ (y : MS) (a1 : Int32) (a2 : Int32) (a3 : Int32), k16 y a1 a2 a3 = some R → V C 16 [(0, .ref (K.1 + 61)), (1, .int a1), (2, .int a2), (3, .int a3)] [] (xfM K nn x y) 0 0) (h : f_X11_worthOf_130 k16 y a1 a2 a3 s0 s1 = some R) (F : Fx C RX11 cX11_worthOf 5 rm_X11_worthOf K) (E : CE C (xfM K nn x R.2) (some (.int R.1)) 0 0 (some .int)) : V C 130 [(0, .ref (K.1 + 61)), (1, .int a1), (2, .int a2), (3, .int a3)] [.int s0, .int s1, .ref (K.1 + 82)] (xfM K nn x y) 0 0 := by
  unfold f_X11_worthOf_130 at h
  obtain ⟨g4, h⟩ := gd_of h
  refine v_iast F 82 (xnM (by decide)) xc_82 (ib_in g4) (dq dkX11_worthOf_1 36 rfl) ?_
  refine v_eqM (xwM (q := 82) (j := s1.toNatClampNeg) (v := s0) (by decide) (by decide) rfl) ?_
  refine v_goto F (tgt := 191) (dq dkX11_worthOf_1 37 rfl) (by decide) ?_
  exact t_X11_worthOf_191 k16 (pi y 82 s1.toNatClampNeg s0) a1 a2 a3 hk16 h F E
def f_X11_worthOf_16 : Nat → MS → Int32 → Int32 → Int32 → Option (Int32 × MS)
  | 0, _, _, _, _ => none
  | n + 1, y, a1, a2, a3 => gd (ib (((4 * (gi y 61 21)) + a1) + 1) 24) (if (gi y 73 (((4 * (gi y 61 21)) + a1) + 1).toNatClampNeg) ≤ a3 then (some (gi y 82 (0 : Int32).toNatClampNeg, y)) else (gd (ib ((200 * (gi y 61 21)) + a3) 1200) (if 100000 ≤ (gi y 72 ((200 * (gi y 61 21)) + a3).toNatClampNeg) then (f_X11_worthOf_66 (f_X11_worthOf_16 n) y a1 a2 a3 (gi y 72 ((200 * (gi y 61 21)) + a3).toNatClampNeg)) else (if 11 ≤ (gi y 72 ((200 * (gi y 61 21)) + a3).toNatClampNeg) then (if (gi y 72 ((200 * (gi y 61 21)) + a3).toNatClampNeg) = 13 then (gd (ib (a2 - 1) 200) (if (gi y 82 (a2 - 1).toNatClampNeg) = 0 then (f_X11_worthOf_130 (f_X11_worthOf_16 n) y a1 a2 a3 1 (a2 - 1)) else (f_X11_worthOf_130 (f_X11_worthOf_16 n) y a1 a2 a3 0 (a2 - 1)))) else (if (gi y 72 ((200 * (gi y 61 21)) + a3).toNatClampNeg) = 19 then (gd (ib (a2 - 1) 200) (gd (ib (a2 - 1) 200) (f_X11_worthOf_191 (f_X11_worthOf_16 n) (pi y 82 ((a2 - 1).toNatClampNeg) (-(gi y 82 (a2 - 1).toNatClampNeg))) a1 a2 a3))) else (gd (ib ((a2 + (-1)) - 1) 200) (gd (ib (a2 + (-1)) 200) (gd (ib ((a2 + (-1)) - 1) 200) (f_X11_worthOf_191 (f_X11_worthOf_16 n) (pi y 82 (((a2 + (-1)) - 1).toNatClampNeg) (f_X11_two (gi y 72 ((200 * (gi y 61 21)) + a3).toNatClampNeg) (gi y 82 ((a2 + (-1)) - 1).toNatClampNeg) (gi y 82 (a2 + (-1)).toNatClampNeg))) a1 (a2 + (-1)) a3)))))) else (f_X11_worthOf_66 (f_X11_worthOf_16 n) y a1 a2 a3 (gi y 72 ((200 * (gi y 61 21)) + a3).toNatClampNeg))))))
set_option maxRecDepth 100000 in
set_option maxHeartbeats 4000000 in
theorem t_X11_worthOf_16 {C : Cx} {K : KE} {nn : Nat} {x : CS} {R : Int32 × MS}  (F : Fx C RX11 cX11_worthOf 5 rm_X11_worthOf K) (E : CE C (xfM K nn x R.2) (some (.int R.1)) 0 0 (some .int)) : ∀ (n : Nat) (y : MS) (a1 : Int32) (a2 : Int32) (a3 : Int32) (h : f_X11_worthOf_16 n y a1 a2 a3 = some R), V C 16 [(0, .ref (K.1 + 61)), (1, .int a1), (2, .int a2), (3, .int a3)] [] (xfM K nn x y) 0 0 := by
  intro n
  induction n with
  | zero => intro y a1 a2 a3 h; cases h
  | succ n ih =>
    intro y a1 a2 a3 h
    rw [f_X11_worthOf_16] at h
    refine v_iload_n F (dq dkX11_worthOf_0 12 rfl) rfl 3 rfl ?_
    refine v_aload_n F (dq dkX11_worthOf_0 13 rfl) rfl 0 rfl ?_
    refine v_get F 61 (xnM (by decide)) xc_61 rfl inlX11 19 (by decide) (tc12 _ (List.mem_of_getElem? (i := 7) rfl)) rfl rfl (dq dkX11_worthOf_0 14 rfl) ?_
    refine v_iconst F (v := 4) (dq dkX11_worthOf_0 15 rfl) ki_4 ?_
    refine v_aload_n F (dq dkX11_worthOf_0 16 rfl) rfl 0 rfl ?_
    refine v_get F 61 (xnM (by decide)) xc_61 rfl inlX11 21 (by decide) (tc16 _ (List.mem_of_getElem? (i := 18) rfl)) rfl rfl (dq dkX11_worthOf_0 17 rfl) ?_
    refine v_imul F (dq dkX11_worthOf_0 18 rfl) ?_
    refine v_iload_n F (dq dkX11_worthOf_0 19 rfl) rfl 1 rfl ?_
    refine v_iadd F (dq dkX11_worthOf_0 20 rfl) ?_
    refine v_iconst F (v := 1) (dq dkX11_worthOf_0 21 rfl) ki_1 ?_
    refine v_iadd F (dq dkX11_worthOf_0 22 rfl) ?_
    obtain ⟨g5, h⟩ := gd_of h
    refine v_iald F 73 (xnM (by decide)) xc_73 (ib_in g5) (dq dkX11_worthOf_0 23 rfl) ?_
    refine v_icmp_ge F (tgt := 197) (dq dkX11_worthOf_0 24 rfl) (by decide) (fun c6 => ?_) (fun c6 => ?_)
    · rw [if_pos c6] at h
      refine v_aload_n F (dq dkX11_worthOf_2 36 rfl) rfl 0 rfl ?_
      refine v_get F 61 (xnM (by decide)) xc_61 rfl inlX11 40 (by decide) (tc13 _ (List.mem_of_getElem? (i := 6) rfl)) rfl rfl (dq dkX11_worthOf_2 37 rfl) ?_
      refine v_iconst F (v := 0) (dq dkX11_worthOf_2 38 rfl) ki_0 ?_
      refine v_iald F 82 (xnM (by decide)) xc_82 (ib_in (by decide)) (dq dkX11_worthOf_2 39 rfl) ?_
      have h := Option.some.inj h
      subst h
      exact v_iret F E (dq dkX11_worthOf_3 0 rfl)
    · rw [if_neg c6] at h
      refine v_aload_n F (dq dkX11_worthOf_0 25 rfl) rfl 0 rfl ?_
      refine v_get F 61 (xnM (by decide)) xc_61 rfl inlX11 18 (by decide) (tc12 _ (List.mem_of_getElem? (i := 6) rfl)) rfl rfl (dq dkX11_worthOf_0 26 rfl) ?_
      refine v_sipush F (v := 200) (dq dkX11_worthOf_0 27 rfl) ks_200 ?_
      refine v_aload_n F (dq dkX11_worthOf_0 28 rfl) rfl 0 rfl ?_
      refine v_get F 61 (xnM (by decide)) xc_61 rfl inlX11 21 (by decide) (tc16 _ (List.mem_of_getElem? (i := 18) rfl)) rfl rfl (dq dkX11_worthOf_0 29 rfl) ?_
      refine v_imul F (dq dkX11_worthOf_0 30 rfl) ?_
      refine v_iload_n F (dq dkX11_worthOf_0 31 rfl) rfl 3 rfl ?_
      refine v_iadd F (dq dkX11_worthOf_0 32 rfl) ?_
      obtain ⟨g7, h⟩ := gd_of h
      refine v_iald F 72 (xnM (by decide)) xc_72 (ib_in g7) (dq dkX11_worthOf_0 33 rfl) ?_
      refine v_istore F (ls' := [(4, .int (gi y 72 ((200 * (gi y 61 21)) + a3).toNatClampNeg)), (0, .ref (K.1 + 61)), (1, .int a1), (2, .int a2), (3, .int a3)]) (dq dkX11_worthOf_0 34 rfl) (by decide) rfl ?_
      refine v_iload F (dq dkX11_worthOf_0 35 rfl) 0 rfl ?_
      refine v_ldc F (v := 100000) (tc18 _ (List.mem_of_getElem? (i := 17) rfl)) (dq dkX11_worthOf_0 36 rfl) ?_
      refine v_icmp_ge F (tgt := 66) (dq dkX11_worthOf_0 37 rfl) (by decide) (fun c8 => ?_) (fun c8 => ?_)
      · rw [if_pos c8] at h
        refine v_sub [1, 2, 3, 4, 0] rfl ?_
        exact t_X11_worthOf_66 (f_X11_worthOf_16 n) y a1 a2 a3 (gi y 72 ((200 * (gi y 61 21)) + a3).toNatClampNeg) ih h F E
      · rw [if_neg c8] at h
        refine v_iload F (dq dkX11_worthOf_0 38 rfl) 0 rfl ?_
        refine v_bipush F (v := 11) (dq dkX11_worthOf_0 39 rfl) kb_11 ?_
        refine v_icmp_ge F (tgt := 100) (dq dkX11_worthOf_1 0 rfl) (by decide) (fun c9 => ?_) (fun c9 => ?_)
        · rw [if_pos c9] at h
          refine v_iload F (dq dkX11_worthOf_1 18 rfl) 0 rfl ?_
          refine v_bipush F (v := 13) (dq dkX11_worthOf_1 19 rfl) kb_13 ?_
          refine v_icmp_ne F (tgt := 134) (dq dkX11_worthOf_1 20 rfl) (by decide) (fun c10 => ?_) (fun c10 => ?_)
          · rw [if_neg c10] at h
            refine v_iload F (dq dkX11_worthOf_1 38 rfl) 0 rfl ?_
            refine v_bipush F (v := 19) (dq dkX11_worthOf_1 39 rfl) kb_19 ?_
            refine v_icmp_ne F (tgt := 161) (dq dkX11_worthOf_2 0 rfl) (by decide) (fun c11 => ?_) (fun c11 => ?_)
            · rw [if_neg c11] at h
              refine v_iinc F (v := a2 + (-1)) (ls' := [(2, .int (a2 + (-1))), (4, .int (gi y 72 ((200 * (gi y 61 21)) + a3).toNatClampNeg)), (0, .ref (K.1 + 61)), (1, .int a1), (3, .int a3)]) (dq dkX11_worthOf_2 15 rfl) (j := 3) rfl (kv_add ki_m1) (by decide) rfl ?_
              refine v_aload_n F (dq dkX11_worthOf_2 16 rfl) rfl 2 rfl ?_
              refine v_get F 61 (xnM (by decide)) xc_61 rfl inlX11 40 (by decide) (tc13 _ (List.mem_of_getElem? (i := 6) rfl)) rfl rfl (dq dkX11_worthOf_2 17 rfl) ?_
              refine v_iload_n F (dq dkX11_worthOf_2 18 rfl) rfl 0 rfl ?_
              refine v_iconst F (v := 1) (dq dkX11_worthOf_2 19 rfl) ki_1 ?_
              refine v_isub F (dq dkX11_worthOf_2 20 rfl) ?_
              refine v_iload F (dq dkX11_worthOf_2 21 rfl) 1 rfl ?_
              refine v_aload_n F (dq dkX11_worthOf_2 22 rfl) rfl 2 rfl ?_
              refine v_get F 61 (xnM (by decide)) xc_61 rfl inlX11 40 (by decide) (tc13 _ (List.mem_of_getElem? (i := 6) rfl)) rfl rfl (dq dkX11_worthOf_2 23 rfl) ?_
              refine v_iload_n F (dq dkX11_worthOf_2 24 rfl) rfl 0 rfl ?_
              refine v_iconst F (v := 1) (dq dkX11_worthOf_2 25 rfl) ki_1 ?_
              refine v_isub F (dq dkX11_worthOf_2 26 rfl) ?_
              obtain ⟨g12, h⟩ := gd_of h
              refine v_iald F 82 (xnM (by decide)) xc_82 (ib_in g12) (dq dkX11_worthOf_2 27 rfl) ?_
              refine v_aload_n F (dq dkX11_worthOf_2 28 rfl) rfl 2 rfl ?_
              refine v_get F 61 (xnM (by decide)) xc_61 rfl inlX11 40 (by decide) (tc13 _ (List.mem_of_getElem? (i := 6) rfl)) rfl rfl (dq dkX11_worthOf_2 29 rfl) ?_
              refine v_iload_n F (dq dkX11_worthOf_2 30 rfl) rfl 0 rfl ?_
              obtain ⟨g13, h⟩ := gd_of h
              refine v_iald F 82 (xnM (by decide)) xc_82 (ib_in g13) (dq dkX11_worthOf_2 31 rfl) ?_
              refine v_callS 3 F (kc1 := 0) (ks1 := 0) (as := [.int (gi y 72 ((200 * (gi y 61 21)) + a3).toNatClampNeg), .int (gi y 82 ((a2 + (-1)) - 1).toNatClampNeg), .int (gi y 82 (a2 + (-1)).toNatClampNeg)]) (st := [.int ((a2 + (-1)) - 1), .ref (K.1 + 82)]) (st1 := (.int (f_X11_two (gi y 72 ((200 * (gi y 61 21)) + a3).toNatClampNeg) (gi y 82 ((a2 + (-1)) - 1).toNatClampNeg) (gi y 82 (a2 + (-1)).toNatClampNeg)) :: [.int ((a2 + (-1)) - 1), .ref (K.1 + 82)])) (res := (some (.int (f_X11_two (gi y 72 ((200 * (gi y 61 21)) + a3).toNatClampNeg) (gi y 82 ((a2 + (-1)) - 1).toNatClampNeg) (gi y 82 (a2 + (-1)).toNatClampNeg))))) (c_X11_two (l := C.2.1) (gi y 72 ((200 * (gi y 61 21)) + a3).toNatClampNeg) (gi y 82 ((a2 + (-1)) - 1).toNatClampNeg) (gi y 82 (a2 + (-1)).toNatClampNeg)) (tc22 _ (List.mem_of_getElem? (i := 1) rfl)) (tc22 _ (List.mem_of_getElem? (i := 2) rfl)) (tc1 _ (List.mem_of_getElem? (i := 5) rfl)) (tc22 _ (List.mem_of_getElem? (i := 3) rfl)) (by decide) rfl ⟨rfl, rfl, Nat.le_of_ble_eq_true rfl, Nat.le_of_ble_eq_true rfl⟩ ⟨Nat.le_of_ble_eq_true rfl, Nat.le_of_ble_eq_true rfl⟩ rfl (Nat.le_of_ble_eq_true rfl) rfl rfl rfl (dq dkX11_worthOf_2 32 rfl) ?_
              obtain ⟨g15, h⟩ := gd_of h
              refine v_iast F 82 (xnM (by decide)) xc_82 (ib_in g15) (dq dkX11_worthOf_2 33 rfl) ?_
              refine v_eqM (xwM (q := 82) (j := ((a2 + (-1)) - 1).toNatClampNeg) (v := (f_X11_two (gi y 72 ((200 * (gi y 61 21)) + a3).toNatClampNeg) (gi y 82 ((a2 + (-1)) - 1).toNatClampNeg) (gi y 82 (a2 + (-1)).toNatClampNeg))) (by decide) (by decide) rfl) ?_
              refine v_sub [2, 3, 0, 4] rfl ?_
              exact t_X11_worthOf_191 (f_X11_worthOf_16 n) (pi y 82 (((a2 + (-1)) - 1).toNatClampNeg) (f_X11_two (gi y 72 ((200 * (gi y 61 21)) + a3).toNatClampNeg) (gi y 82 ((a2 + (-1)) - 1).toNatClampNeg) (gi y 82 (a2 + (-1)).toNatClampNeg))) a1 (a2 + (-1)) a3 ih h F E
            · rw [if_pos c11] at h
              refine v_aload_n F (dq dkX11_worthOf_2 1 rfl) rfl 1 rfl ?_
              refine v_get F 61 (xnM (by decide)) xc_61 rfl inlX11 40 (by decide) (tc13 _ (List.mem_of_getElem? (i := 6) rfl)) rfl rfl (dq dkX11_worthOf_2 2 rfl) ?_
              refine v_iload_n F (dq dkX11_worthOf_2 3 rfl) rfl 3 rfl ?_
              refine v_iconst F (v := 1) (dq dkX11_worthOf_2 4 rfl) ki_1 ?_
              refine v_isub F (dq dkX11_worthOf_2 5 rfl) ?_
              refine v_aload_n F (dq dkX11_worthOf_2 6 rfl) rfl 1 rfl ?_
              refine v_get F 61 (xnM (by decide)) xc_61 rfl inlX11 40 (by decide) (tc13 _ (List.mem_of_getElem? (i := 6) rfl)) rfl rfl (dq dkX11_worthOf_2 7 rfl) ?_
              refine v_iload_n F (dq dkX11_worthOf_2 8 rfl) rfl 3 rfl ?_
              refine v_iconst F (v := 1) (dq dkX11_worthOf_2 9 rfl) ki_1 ?_
              refine v_isub F (dq dkX11_worthOf_2 10 rfl) ?_
              obtain ⟨g16, h⟩ := gd_of h
              refine v_iald F 82 (xnM (by decide)) xc_82 (ib_in g16) (dq dkX11_worthOf_2 11 rfl) ?_
              refine v_ineg F (dq dkX11_worthOf_2 12 rfl) ?_
              obtain ⟨g17, h⟩ := gd_of h
              refine v_iast F 82 (xnM (by decide)) xc_82 (ib_in g17) (dq dkX11_worthOf_2 13 rfl) ?_
              refine v_eqM (xwM (q := 82) (j := (a2 - 1).toNatClampNeg) (v := -(gi y 82 (a2 - 1).toNatClampNeg)) (by decide) (by decide) rfl) ?_
              refine v_goto F (tgt := 191) (dq dkX11_worthOf_2 14 rfl) (by decide) ?_
              refine v_sub [1, 2, 3, 4] rfl ?_
              exact t_X11_worthOf_191 (f_X11_worthOf_16 n) (pi y 82 ((a2 - 1).toNatClampNeg) (-(gi y 82 (a2 - 1).toNatClampNeg))) a1 a2 a3 ih h F E
          · rw [if_pos c10] at h
            refine v_aload_n F (dq dkX11_worthOf_1 21 rfl) rfl 1 rfl ?_
            refine v_get F 61 (xnM (by decide)) xc_61 rfl inlX11 40 (by decide) (tc13 _ (List.mem_of_getElem? (i := 6) rfl)) rfl rfl (dq dkX11_worthOf_1 22 rfl) ?_
            refine v_iload_n F (dq dkX11_worthOf_1 23 rfl) rfl 3 rfl ?_
            refine v_iconst F (v := 1) (dq dkX11_worthOf_1 24 rfl) ki_1 ?_
            refine v_isub F (dq dkX11_worthOf_1 25 rfl) ?_
            refine v_aload_n F (dq dkX11_worthOf_1 26 rfl) rfl 1 rfl ?_
            refine v_get F 61 (xnM (by decide)) xc_61 rfl inlX11 40 (by decide) (tc13 _ (List.mem_of_getElem? (i := 6) rfl)) rfl rfl (dq dkX11_worthOf_1 27 rfl) ?_
            refine v_iload_n F (dq dkX11_worthOf_1 28 rfl) rfl 3 rfl ?_
            refine v_iconst F (v := 1) (dq dkX11_worthOf_1 29 rfl) ki_1 ?_
            refine v_isub F (dq dkX11_worthOf_1 30 rfl) ?_
            obtain ⟨g18, h⟩ := gd_of h
            refine v_iald F 82 (xnM (by decide)) xc_82 (ib_in g18) (dq dkX11_worthOf_1 31 rfl) ?_
            refine v_if_ne F (tgt := 129) (dq dkX11_worthOf_1 32 rfl) (by decide) (fun c19 => ?_) (fun c19 => ?_)
            · rw [if_neg c19] at h
              refine v_iconst F (v := 0) (dq dkX11_worthOf_1 35 rfl) ki_0 ?_
              refine v_sub [1, 2, 3, 4] rfl ?_
              exact t_X11_worthOf_130 (f_X11_worthOf_16 n) y a1 a2 a3 0 (a2 - 1) ih h F E
            · rw [if_pos c19] at h
              refine v_iconst F (v := 1) (dq dkX11_worthOf_1 33 rfl) ki_1 ?_
              refine v_goto F (tgt := 130) (dq dkX11_worthOf_1 34 rfl) (by decide) ?_
              refine v_sub [1, 2, 3, 4] rfl ?_
              exact t_X11_worthOf_130 (f_X11_worthOf_16 n) y a1 a2 a3 1 (a2 - 1) ih h F E
        · rw [if_neg c9] at h
          refine v_sub [1, 2, 3, 4, 0] rfl ?_
          exact t_X11_worthOf_66 (f_X11_worthOf_16 n) y a1 a2 a3 (gi y 72 ((200 * (gi y 61 21)) + a3).toNatClampNeg) ih h F E
def f_X11_worthOf (y : MS) (a1 : Int32) : Option (Int32 × MS) := gd (ib ((4 * (gi y 61 21)) + a1) 24) (f_X11_worthOf_16 1000 y a1 0 (gi y 73 ((4 * (gi y 61 21)) + a1).toNatClampNeg))
set_option maxRecDepth 100000 in
set_option maxHeartbeats 4000000 in
theorem c_X11_worthOf {K : KE} {l : Launch} {R : Int32 × MS} {nn : Nat} (x : CS) (y : MS) (a1 : Int32) (h : f_X11_worthOf y a1 = some R) : MC K l yX11_worthOf cX11_worthOf 5 (some .int) rm_X11_worthOf 0 0 [.ref (K.1 + 61), .int a1] (xfM K nn x y) (xfM K nn x R.2) (some (.int R.1)) := by
  unfold f_X11_worthOf at h
  refine mc_of (ls0 := [(0, .ref (K.1 + 61)), (1, .int a1)]) (by decide) (Nat.le_of_ble_eq_true rfl) rfl (fun C hl hnm F E => ?_)
  have F : Fx C RX11 cX11_worthOf 5 rm_X11_worthOf K := F
  refine v_iconst F (v := 0) (dq dkX11_worthOf_0 0 rfl) ki_0 ?_
  refine v_istore_n F (ls' := [(2, .int 0), (0, .ref (K.1 + 61)), (1, .int a1)]) (dq dkX11_worthOf_0 1 rfl) rfl (by decide) rfl ?_
  refine v_aload_n F (dq dkX11_worthOf_0 2 rfl) rfl 1 rfl ?_
  refine v_get F 61 (xnM (by decide)) xc_61 rfl inlX11 19 (by decide) (tc12 _ (List.mem_of_getElem? (i := 7) rfl)) rfl rfl (dq dkX11_worthOf_0 3 rfl) ?_
  refine v_iconst F (v := 4) (dq dkX11_worthOf_0 4 rfl) ki_4 ?_
  refine v_aload_n F (dq dkX11_worthOf_0 5 rfl) rfl 1 rfl ?_
  refine v_get F 61 (xnM (by decide)) xc_61 rfl inlX11 21 (by decide) (tc16 _ (List.mem_of_getElem? (i := 18) rfl)) rfl rfl (dq dkX11_worthOf_0 6 rfl) ?_
  refine v_imul F (dq dkX11_worthOf_0 7 rfl) ?_
  refine v_iload_n F (dq dkX11_worthOf_0 8 rfl) rfl 2 rfl ?_
  refine v_iadd F (dq dkX11_worthOf_0 9 rfl) ?_
  obtain ⟨g20, h⟩ := gd_of h
  refine v_iald F 73 (xnM (by decide)) xc_73 (ib_in g20) (dq dkX11_worthOf_0 10 rfl) ?_
  refine v_istore_n F (ls' := [(3, .int (gi y 73 ((4 * (gi y 61 21)) + a1).toNatClampNeg)), (2, .int 0), (0, .ref (K.1 + 61)), (1, .int a1)]) (dq dkX11_worthOf_0 11 rfl) rfl (by decide) rfl ?_
  refine v_sub [2, 3, 1, 0] rfl ?_
  exact t_X11_worthOf_16 F E 1000 y a1 0 (gi y 73 ((4 * (gi y 61 21)) + a1).toNatClampNeg) h
def rm_X11_says : Room := { frames := 3, cells := 0, slots := 0, locals := 76 }
def f_X11_says_71 (y : MS) (a5 : Int32) (s0 : Int32) : Option (Int32 × MS) := if 0 ≤ a5 then (if a5 ≤ s0 then (some (a5, y)) else (some (s0, y))) else (some (0, y))
set_option maxRecDepth 100000 in
set_option maxHeartbeats 4000000 in
theorem t_X11_says_71 {C : Cx} {K : KE} {nn : Nat} {x : CS} {R : Int32 × MS}  (y : MS) (a5 : Int32) (s0 : Int32) (h : f_X11_says_71 y a5 s0 = some R) (F : Fx C RX11 cX11_says 7 rm_X11_says K) (E : CE C (xfM K nn x R.2) (some (.int R.1)) 0 0 (some .int)) : V C 71 [(5, .int a5)] [.int s0] (xfM K nn x y) 0 0 := by
  unfold f_X11_says_71 at h
  refine v_istore F (ls' := [(6, .int s0), (5, .int a5)]) (dq dkX11_says_1 2 rfl) (by decide) rfl ?_
  refine v_iload F (dq dkX11_says_1 3 rfl) 1 rfl ?_
  refine v_if_ge F (tgt := 82) (dq dkX11_says_1 4 rfl) (by decide) (fun c1 => ?_) (fun c1 => ?_)
  · rw [if_pos c1] at h
    refine v_iload F (dq dkX11_says_1 7 rfl) 1 rfl ?_
    refine v_iload F (dq dkX11_says_1 8 rfl) 0 rfl ?_
    refine v_icmp_le F (tgt := 94) (dq dkX11_says_1 9 rfl) (by decide) (fun c2 => ?_) (fun c2 => ?_)
    · rw [if_pos c2] at h
      refine v_iload F (dq dkX11_says_1 12 rfl) 1 rfl ?_
      have h := Option.some.inj h
      subst h
      exact v_iret F E (dq dkX11_says_1 13 rfl)
    · rw [if_neg c2] at h
      refine v_iload F (dq dkX11_says_1 10 rfl) 0 rfl ?_
      refine v_goto F (tgt := 96) (dq dkX11_says_1 11 rfl) (by decide) ?_
      have h := Option.some.inj h
      subst h
      exact v_iret F E (dq dkX11_says_1 13 rfl)
  · rw [if_neg c1] at h
    refine v_iconst F (v := 0) (dq dkX11_says_1 5 rfl) ki_0 ?_
    refine v_goto F (tgt := 96) (dq dkX11_says_1 6 rfl) (by decide) ?_
    have h := Option.some.inj h
    subst h
    exact v_iret F E (dq dkX11_says_1 13 rfl)
def f_X11_says (y : MS) (a1 : Int32) (a2 : Int32) (a3 : Int32) (a4 : Int32) : Option (Int32 × MS) := (f_X11_worthOf (pi (pi (pi (pi (pi (pi y 83 ((0 : Int32).toNatClampNeg) (gi y 61 1)) 83 ((1 : Int32).toNatClampNeg) (gi (pi y 83 ((0 : Int32).toNatClampNeg) (gi y 61 1)) 61 2)) 83 ((2 : Int32).toNatClampNeg) (gi (pi (pi y 83 ((0 : Int32).toNatClampNeg) (gi y 61 1)) 83 ((1 : Int32).toNatClampNeg) (gi (pi y 83 ((0 : Int32).toNatClampNeg) (gi y 61 1)) 61 2)) 61 3)) 83 ((3 : Int32).toNatClampNeg) a2) 83 ((4 : Int32).toNatClampNeg) a4) 83 ((5 : Int32).toNatClampNeg) a3) a1).bind fun r3 => if a1 = 0 then (f_X11_says_71 r3.2 r3.1 9) else (f_X11_says_71 r3.2 r3.1 999)
set_option maxRecDepth 100000 in
set_option maxHeartbeats 4000000 in
theorem c_X11_says {K : KE} {l : Launch} {R : Int32 × MS} {nn : Nat} (x : CS) (y : MS) (a1 : Int32) (a2 : Int32) (a3 : Int32) (a4 : Int32) (h : f_X11_says y a1 a2 a3 a4 = some R) : MC K l yX11_says cX11_says 7 (some .int) rm_X11_says 0 0 [.ref (K.1 + 61), .int a1, .int a2, .int a3, .int a4] (xfM K nn x y) (xfM K nn x R.2) (some (.int R.1)) := by
  unfold f_X11_says at h
  refine mc_of (ls0 := [(0, .ref (K.1 + 61)), (1, .int a1), (2, .int a2), (3, .int a3), (4, .int a4)]) (by decide) (Nat.le_of_ble_eq_true rfl) rfl (fun C hl hnm F E => ?_)
  have F : Fx C RX11 cX11_says 7 rm_X11_says K := F
  refine v_aload_n F (dq dkX11_says_0 0 rfl) rfl 0 rfl ?_
  refine v_get F 61 (xnM (by decide)) xc_61 rfl inlX11 41 (by decide) (tc13 _ (List.mem_of_getElem? (i := 7) rfl)) rfl rfl (dq dkX11_says_0 1 rfl) ?_
  refine v_iconst F (v := 0) (dq dkX11_says_0 2 rfl) ki_0 ?_
  refine v_aload_n F (dq dkX11_says_0 3 rfl) rfl 0 rfl ?_
  refine v_get F 61 (xnM (by decide)) xc_61 rfl inlX11 1 (by decide) (tc11 _ (List.mem_of_getElem? (i := 18) rfl)) rfl rfl (dq dkX11_says_0 4 rfl) ?_
  refine v_iast F 83 (xnM (by decide)) xc_83 (ib_in (by decide)) (dq dkX11_says_0 5 rfl) ?_
  refine v_eqM (xwM (q := 83) (j := (0 : Int32).toNatClampNeg) (v := gi y 61 1) (by decide) (by decide) rfl) ?_
  refine v_aload_n F (dq dkX11_says_0 6 rfl) rfl 0 rfl ?_
  refine v_get F 61 (xnM (by decide)) xc_61 rfl inlX11 41 (by decide) (tc13 _ (List.mem_of_getElem? (i := 7) rfl)) rfl rfl (dq dkX11_says_0 7 rfl) ?_
  refine v_iconst F (v := 1) (dq dkX11_says_0 8 rfl) ki_1 ?_
  refine v_aload_n F (dq dkX11_says_0 9 rfl) rfl 0 rfl ?_
  refine v_get F 61 (xnM (by decide)) xc_61 rfl inlX11 2 (by decide) (tc16 _ (List.mem_of_getElem? (i := 14) rfl)) rfl rfl (dq dkX11_says_0 10 rfl) ?_
  refine v_iast F 83 (xnM (by decide)) xc_83 (ib_in (by decide)) (dq dkX11_says_0 11 rfl) ?_
  refine v_eqM (xwM (q := 83) (j := (1 : Int32).toNatClampNeg) (v := gi (pi y 83 ((0 : Int32).toNatClampNeg) (gi y 61 1)) 61 2) (by decide) (by decide) rfl) ?_
  refine v_aload_n F (dq dkX11_says_0 12 rfl) rfl 0 rfl ?_
  refine v_get F 61 (xnM (by decide)) xc_61 rfl inlX11 41 (by decide) (tc13 _ (List.mem_of_getElem? (i := 7) rfl)) rfl rfl (dq dkX11_says_0 13 rfl) ?_
  refine v_iconst F (v := 2) (dq dkX11_says_0 14 rfl) ki_2 ?_
  refine v_aload_n F (dq dkX11_says_0 15 rfl) rfl 0 rfl ?_
  refine v_get F 61 (xnM (by decide)) xc_61 rfl inlX11 3 (by decide) (tc11 _ (List.mem_of_getElem? (i := 19) rfl)) rfl rfl (dq dkX11_says_0 16 rfl) ?_
  refine v_iast F 83 (xnM (by decide)) xc_83 (ib_in (by decide)) (dq dkX11_says_0 17 rfl) ?_
  refine v_eqM (xwM (q := 83) (j := (2 : Int32).toNatClampNeg) (v := gi (pi (pi y 83 ((0 : Int32).toNatClampNeg) (gi y 61 1)) 83 ((1 : Int32).toNatClampNeg) (gi (pi y 83 ((0 : Int32).toNatClampNeg) (gi y 61 1)) 61 2)) 61 3) (by decide) (by decide) rfl) ?_
  refine v_aload_n F (dq dkX11_says_0 18 rfl) rfl 0 rfl ?_
  refine v_get F 61 (xnM (by decide)) xc_61 rfl inlX11 41 (by decide) (tc13 _ (List.mem_of_getElem? (i := 7) rfl)) rfl rfl (dq dkX11_says_0 19 rfl) ?_
  refine v_iconst F (v := 3) (dq dkX11_says_0 20 rfl) ki_3 ?_
  refine v_iload_n F (dq dkX11_says_0 21 rfl) rfl 2 rfl ?_
  refine v_iast F 83 (xnM (by decide)) xc_83 (ib_in (by decide)) (dq dkX11_says_0 22 rfl) ?_
  refine v_eqM (xwM (q := 83) (j := (3 : Int32).toNatClampNeg) (v := a2) (by decide) (by decide) rfl) ?_
  refine v_aload_n F (dq dkX11_says_0 23 rfl) rfl 0 rfl ?_
  refine v_get F 61 (xnM (by decide)) xc_61 rfl inlX11 41 (by decide) (tc13 _ (List.mem_of_getElem? (i := 7) rfl)) rfl rfl (dq dkX11_says_0 24 rfl) ?_
  refine v_iconst F (v := 4) (dq dkX11_says_0 25 rfl) ki_4 ?_
  refine v_iload F (dq dkX11_says_0 26 rfl) 4 rfl ?_
  refine v_iast F 83 (xnM (by decide)) xc_83 (ib_in (by decide)) (dq dkX11_says_0 27 rfl) ?_
  refine v_eqM (xwM (q := 83) (j := (4 : Int32).toNatClampNeg) (v := a4) (by decide) (by decide) rfl) ?_
  refine v_aload_n F (dq dkX11_says_0 28 rfl) rfl 0 rfl ?_
  refine v_get F 61 (xnM (by decide)) xc_61 rfl inlX11 41 (by decide) (tc13 _ (List.mem_of_getElem? (i := 7) rfl)) rfl rfl (dq dkX11_says_0 29 rfl) ?_
  refine v_iconst F (v := 5) (dq dkX11_says_0 30 rfl) ki_5 ?_
  refine v_iload_n F (dq dkX11_says_0 31 rfl) rfl 3 rfl ?_
  refine v_iast F 83 (xnM (by decide)) xc_83 (ib_in (by decide)) (dq dkX11_says_0 32 rfl) ?_
  refine v_eqM (xwM (q := 83) (j := (5 : Int32).toNatClampNeg) (v := a3) (by decide) (by decide) rfl) ?_
  refine v_aload_n F (dq dkX11_says_0 33 rfl) rfl 0 rfl ?_
  refine v_iload_n F (dq dkX11_says_0 34 rfl) rfl 1 rfl ?_
  obtain ⟨r3, e4, h⟩ := bd_of h
  refine v_callV 1 F (q := 61) (kc1 := 0) (ks1 := 0) (as := [.int a1]) (st := []) (st1 := (.int r3.1 :: [])) (res := (some (.int r3.1))) (c_X11_worthOf (l := C.2.1) x (pi (pi (pi (pi (pi (pi y 83 ((0 : Int32).toNatClampNeg) (gi y 61 1)) 83 ((1 : Int32).toNatClampNeg) (gi (pi y 83 ((0 : Int32).toNatClampNeg) (gi y 61 1)) 61 2)) 83 ((2 : Int32).toNatClampNeg) (gi (pi (pi y 83 ((0 : Int32).toNatClampNeg) (gi y 61 1)) 83 ((1 : Int32).toNatClampNeg) (gi (pi y 83 ((0 : Int32).toNatClampNeg) (gi y 61 1)) 61 2)) 61 3)) 83 ((3 : Int32).toNatClampNeg) a2) 83 ((4 : Int32).toNatClampNeg) a4) 83 ((5 : Int32).toNatClampNeg) a3) a1 e4) (xnM (by decide)) xc_61 rfl (tc21 _ (List.mem_of_getElem? (i := 21) rfl)) (tc21 _ (List.mem_of_getElem? (i := 22) rfl)) (tc21 _ (List.mem_of_getElem? (i := 23) rfl)) (tc1 _ (List.mem_of_getElem? (i := 5) rfl)) (tc22 _ (List.mem_of_getElem? (i := 0) rfl)) (by decide) rfl ⟨rfl, rfl, Nat.le_of_ble_eq_true rfl, Nat.le_of_ble_eq_true rfl⟩ ⟨Nat.le_of_ble_eq_true rfl, Nat.le_of_ble_eq_true rfl⟩ rfl (Nat.le_of_ble_eq_true rfl) rfl rfl rfl (dq dkX11_says_0 35 rfl) ?_
  refine v_istore F (ls' := [(5, .int r3.1), (0, .ref (K.1 + 61)), (1, .int a1), (2, .int a2), (3, .int a3), (4, .int a4)]) (dq dkX11_says_0 36 rfl) (by decide) rfl ?_
  refine v_iload_n F (dq dkX11_says_0 37 rfl) rfl 2 rfl ?_
  refine v_if_ne F (tgt := 68) (dq dkX11_says_0 38 rfl) (by decide) (fun c5 => ?_) (fun c5 => ?_)
  · rw [if_neg c5] at h
    refine v_sipush F (v := 999) (dq dkX11_says_1 1 rfl) ks_999 ?_
    refine v_sub [0] rfl ?_
    exact t_X11_says_71 r3.2 r3.1 999 h F E
  · rw [if_pos c5] at h
    refine v_bipush F (v := 9) (dq dkX11_says_0 39 rfl) kb_9 ?_
    refine v_goto F (tgt := 71) (dq dkX11_says_1 0 rfl) (by decide) ?_
    refine v_sub [0] rfl ?_
    exact t_X11_says_71 r3.2 r3.1 9 h F E
def rm_X11_force : Room := { frames := 2, cells := 0, slots := 0, locals := 52 }
def f_X11_force (y : MS) (a1 : Int32) : Int32 × MS := if (b2i (f_X11_in a1 0 ((gi y 61 20) - 1))) = 0 then (((-2), y)) else ((gi y 61 21, pi y 61 21 a1))
set_option maxRecDepth 100000 in
set_option maxHeartbeats 4000000 in
theorem c_X11_force {K : KE} {l : Launch} {nn : Nat} (x : CS) (y : MS) (a1 : Int32) : MC K l yX11_force cX11_force 3 (some .int) rm_X11_force 0 0 [.ref (K.1 + 61), .int a1] (xfM K nn x y) (xfM K nn x ((f_X11_force y a1).2)) (some (.int (f_X11_force y a1).1)) := by
  obtain ⟨R, h⟩ : ∃ R, f_X11_force y a1 = R := ⟨_, rfl⟩
  rw [h]
  unfold f_X11_force at h
  refine mc_of (ls0 := [(0, .ref (K.1 + 61)), (1, .int a1)]) (by decide) (Nat.le_of_ble_eq_true rfl) rfl (fun C hl hnm F E => ?_)
  have F : Fx C RX11 cX11_force 3 rm_X11_force K := F
  refine v_iload_n F (dq dkX11_force_0 0 rfl) rfl 1 rfl ?_
  refine v_iconst F (v := 0) (dq dkX11_force_0 1 rfl) ki_0 ?_
  refine v_aload_n F (dq dkX11_force_0 2 rfl) rfl 0 rfl ?_
  refine v_get F 61 (xnM (by decide)) xc_61 rfl inlX11 20 (by decide) (tc12 _ (List.mem_of_getElem? (i := 8) rfl)) rfl rfl (dq dkX11_force_0 3 rfl) ?_
  refine v_iconst F (v := 1) (dq dkX11_force_0 4 rfl) ki_1 ?_
  refine v_isub F (dq dkX11_force_0 5 rfl) ?_
  refine v_callS 3 F (kc1 := 0) (ks1 := 0) (as := [.int a1, .int 0, .int ((gi y 61 20) - 1)]) (st := []) (st1 := (.int (b2i (f_X11_in a1 0 ((gi y 61 20) - 1))) :: [])) (res := (some (.int (b2i (f_X11_in a1 0 ((gi y 61 20) - 1)))))) (c_X11_in (l := C.2.1) a1 0 ((gi y 61 20) - 1)) (tc15 _ (List.mem_of_getElem? (i := 1) rfl)) (tc15 _ (List.mem_of_getElem? (i := 2) rfl)) (tc1 _ (List.mem_of_getElem? (i := 5) rfl)) (tc15 _ (List.mem_of_getElem? (i := 3) rfl)) (by decide) rfl ⟨rfl, rfl, Nat.le_of_ble_eq_true rfl, Nat.le_of_ble_eq_true rfl⟩ ⟨Nat.le_of_ble_eq_true rfl, Nat.le_of_ble_eq_true rfl⟩ rfl (Nat.le_of_ble_eq_true rfl) rfl rfl rfl (dq dkX11_force_0 6 rfl) ?_
  refine v_if_ne F (tgt := 17) (dq dkX11_force_0 7 rfl) (by decide) (fun c2 => ?_) (fun c2 => ?_)
  · rw [if_neg c2] at h
    refine v_aload_n F (dq dkX11_force_0 10 rfl) rfl 0 rfl ?_
    refine v_get F 61 (xnM (by decide)) xc_61 rfl inlX11 21 (by decide) (tc16 _ (List.mem_of_getElem? (i := 18) rfl)) rfl rfl (dq dkX11_force_0 11 rfl) ?_
    refine v_istore_n F (ls' := [(2, .int (gi y 61 21)), (0, .ref (K.1 + 61)), (1, .int a1)]) (dq dkX11_force_0 12 rfl) rfl (by decide) rfl ?_
    refine v_aload_n F (dq dkX11_force_0 13 rfl) rfl 1 rfl ?_
    refine v_iload_n F (dq dkX11_force_0 14 rfl) rfl 2 rfl ?_
    refine v_put F 61 (xnM (by decide)) xc_61 rfl inlX11 tyX11_ok nmX11 21 (by decide) (tc16 _ (List.mem_of_getElem? (i := 18) rfl)) rfl rfl (tyX11_ok 21 (by decide)) rfl rfl (Nat.le_of_ble_eq_true rfl) (dq dkX11_force_0 15 rfl) ?_
    refine v_eqM (xwM (q := 61) (j := 21) (v := a1) (by decide) (by decide) rfl) ?_
    refine v_iload_n F (dq dkX11_force_0 16 rfl) rfl 0 rfl ?_
    subst h
    exact v_iret F E (dq dkX11_force_0 17 rfl)
  · rw [if_pos c2] at h
    refine v_bipush F (v := (-2)) (dq dkX11_force_0 8 rfl) kb_m2 ?_
    subst h
    exact v_iret F E (dq dkX11_force_0 9 rfl)
def rm_X11_asks : Room := { frames := 4, cells := 0, slots := 0, locals := 102 }
def f_X11_asks_40 (y : MS) : Option (Int32 × MS) := some ((-2), y)
set_option maxRecDepth 100000 in
set_option maxHeartbeats 4000000 in
theorem t_X11_asks_40 {C : Cx} {K : KE} {nn : Nat} {x : CS} {R : Int32 × MS}  (y : MS) (h : f_X11_asks_40 y = some R) (F : Fx C RX11 cX11_asks 5 rm_X11_asks K) (E : CE C (xfM K nn x R.2) (some (.int R.1)) 0 0 (some .int)) : V C 40 [] [] (xfM K nn x y) 0 0 := by
  unfold f_X11_asks_40 at h
  refine v_bipush F (v := (-2)) (dq dkX11_asks_0 20 rfl) kb_m2 ?_
  have h := Option.some.inj h
  subst h
  exact v_iret F E (dq dkX11_asks_0 21 rfl)
def f_X11_asks (y : MS) (a1 : Int32) (a2 : Int32) (a3 : Int32) (a4 : Int32) : Option (Int32 × MS) := if (b2i (f_X11_in a1 0 2)) = 0 then (f_X11_asks_40 y) else (if (b2i (f_X11_in a2 0 20)) = 0 then (f_X11_asks_40 y) else (if (b2i (f_X11_in a3 0 198)) = 0 then (f_X11_asks_40 y) else (if (b2i (f_X11_in a4 0 1)) = 0 then (f_X11_asks_40 y) else ((f_X11_says y a1 a2 a3 a4).bind fun r9 => some (r9.1, r9.2)))))
set_option maxRecDepth 100000 in
set_option maxHeartbeats 4000000 in
theorem c_X11_asks {K : KE} {l : Launch} {R : Int32 × MS} {nn : Nat} (x : CS) (y : MS) (a1 : Int32) (a2 : Int32) (a3 : Int32) (a4 : Int32) (h : f_X11_asks y a1 a2 a3 a4 = some R) : MC K l yX11_asks cX11_asks 5 (some .int) rm_X11_asks 0 0 [.ref (K.1 + 61), .int a1, .int a2, .int a3, .int a4] (xfM K nn x y) (xfM K nn x R.2) (some (.int R.1)) := by
  unfold f_X11_asks at h
  refine mc_of (ls0 := [(0, .ref (K.1 + 61)), (1, .int a1), (2, .int a2), (3, .int a3), (4, .int a4)]) (by decide) (Nat.le_of_ble_eq_true rfl) rfl (fun C hl hnm F E => ?_)
  have F : Fx C RX11 cX11_asks 5 rm_X11_asks K := F
  refine v_iload_n F (dq dkX11_asks_0 0 rfl) rfl 1 rfl ?_
  refine v_iconst F (v := 0) (dq dkX11_asks_0 1 rfl) ki_0 ?_
  refine v_iconst F (v := 2) (dq dkX11_asks_0 2 rfl) ki_2 ?_
  refine v_callS 3 F (kc1 := 0) (ks1 := 0) (as := [.int a1, .int 0, .int 2]) (st := []) (st1 := (.int (b2i (f_X11_in a1 0 2)) :: [])) (res := (some (.int (b2i (f_X11_in a1 0 2))))) (c_X11_in (l := C.2.1) a1 0 2) (tc15 _ (List.mem_of_getElem? (i := 1) rfl)) (tc15 _ (List.mem_of_getElem? (i := 2) rfl)) (tc1 _ (List.mem_of_getElem? (i := 5) rfl)) (tc15 _ (List.mem_of_getElem? (i := 3) rfl)) (by decide) rfl ⟨rfl, rfl, Nat.le_of_ble_eq_true rfl, Nat.le_of_ble_eq_true rfl⟩ ⟨Nat.le_of_ble_eq_true rfl, Nat.le_of_ble_eq_true rfl⟩ rfl (Nat.le_of_ble_eq_true rfl) rfl rfl rfl (dq dkX11_asks_0 3 rfl) ?_
  refine v_if_eq F (tgt := 40) (dq dkX11_asks_0 4 rfl) (by decide) (fun c2 => ?_) (fun c2 => ?_)
  · rw [if_pos c2] at h
    refine v_sub [] rfl ?_
    exact t_X11_asks_40 y h F E
  · rw [if_neg c2] at h
    refine v_iload_n F (dq dkX11_asks_0 5 rfl) rfl 2 rfl ?_
    refine v_iconst F (v := 0) (dq dkX11_asks_0 6 rfl) ki_0 ?_
    refine v_bipush F (v := 20) (dq dkX11_asks_0 7 rfl) kb_20 ?_
    refine v_callS 3 F (kc1 := 0) (ks1 := 0) (as := [.int a2, .int 0, .int 20]) (st := []) (st1 := (.int (b2i (f_X11_in a2 0 20)) :: [])) (res := (some (.int (b2i (f_X11_in a2 0 20))))) (c_X11_in (l := C.2.1) a2 0 20) (tc15 _ (List.mem_of_getElem? (i := 1) rfl)) (tc15 _ (List.mem_of_getElem? (i := 2) rfl)) (tc1 _ (List.mem_of_getElem? (i := 5) rfl)) (tc15 _ (List.mem_of_getElem? (i := 3) rfl)) (by decide) rfl ⟨rfl, rfl, Nat.le_of_ble_eq_true rfl, Nat.le_of_ble_eq_true rfl⟩ ⟨Nat.le_of_ble_eq_true rfl, Nat.le_of_ble_eq_true rfl⟩ rfl (Nat.le_of_ble_eq_true rfl) rfl rfl rfl (dq dkX11_asks_0 8 rfl) ?_
    refine v_if_eq F (tgt := 40) (dq dkX11_asks_0 9 rfl) (by decide) (fun c4 => ?_) (fun c4 => ?_)
    · rw [if_pos c4] at h
      refine v_sub [] rfl ?_
      exact t_X11_asks_40 y h F E
    · rw [if_neg c4] at h
      refine v_iload_n F (dq dkX11_asks_0 10 rfl) rfl 3 rfl ?_
      refine v_iconst F (v := 0) (dq dkX11_asks_0 11 rfl) ki_0 ?_
      refine v_sipush F (v := 198) (dq dkX11_asks_0 12 rfl) ks_198 ?_
      refine v_callS 3 F (kc1 := 0) (ks1 := 0) (as := [.int a3, .int 0, .int 198]) (st := []) (st1 := (.int (b2i (f_X11_in a3 0 198)) :: [])) (res := (some (.int (b2i (f_X11_in a3 0 198))))) (c_X11_in (l := C.2.1) a3 0 198) (tc15 _ (List.mem_of_getElem? (i := 1) rfl)) (tc15 _ (List.mem_of_getElem? (i := 2) rfl)) (tc1 _ (List.mem_of_getElem? (i := 5) rfl)) (tc15 _ (List.mem_of_getElem? (i := 3) rfl)) (by decide) rfl ⟨rfl, rfl, Nat.le_of_ble_eq_true rfl, Nat.le_of_ble_eq_true rfl⟩ ⟨Nat.le_of_ble_eq_true rfl, Nat.le_of_ble_eq_true rfl⟩ rfl (Nat.le_of_ble_eq_true rfl) rfl rfl rfl (dq dkX11_asks_0 13 rfl) ?_
      refine v_if_eq F (tgt := 40) (dq dkX11_asks_0 14 rfl) (by decide) (fun c6 => ?_) (fun c6 => ?_)
      · rw [if_pos c6] at h
        refine v_sub [] rfl ?_
        exact t_X11_asks_40 y h F E
      · rw [if_neg c6] at h
        refine v_iload F (dq dkX11_asks_0 15 rfl) 4 rfl ?_
        refine v_iconst F (v := 0) (dq dkX11_asks_0 16 rfl) ki_0 ?_
        refine v_iconst F (v := 1) (dq dkX11_asks_0 17 rfl) ki_1 ?_
        refine v_callS 3 F (kc1 := 0) (ks1 := 0) (as := [.int a4, .int 0, .int 1]) (st := []) (st1 := (.int (b2i (f_X11_in a4 0 1)) :: [])) (res := (some (.int (b2i (f_X11_in a4 0 1))))) (c_X11_in (l := C.2.1) a4 0 1) (tc15 _ (List.mem_of_getElem? (i := 1) rfl)) (tc15 _ (List.mem_of_getElem? (i := 2) rfl)) (tc1 _ (List.mem_of_getElem? (i := 5) rfl)) (tc15 _ (List.mem_of_getElem? (i := 3) rfl)) (by decide) rfl ⟨rfl, rfl, Nat.le_of_ble_eq_true rfl, Nat.le_of_ble_eq_true rfl⟩ ⟨Nat.le_of_ble_eq_true rfl, Nat.le_of_ble_eq_true rfl⟩ rfl (Nat.le_of_ble_eq_true rfl) rfl rfl rfl (dq dkX11_asks_0 18 rfl) ?_
        refine v_if_ne F (tgt := 43) (dq dkX11_asks_0 19 rfl) (by decide) (fun c8 => ?_) (fun c8 => ?_)
        · rw [if_neg c8] at h
          refine v_aload_n F (dq dkX11_asks_0 22 rfl) rfl 0 rfl ?_
          refine v_iload_n F (dq dkX11_asks_0 23 rfl) rfl 1 rfl ?_
          refine v_iload_n F (dq dkX11_asks_0 24 rfl) rfl 2 rfl ?_
          refine v_iload_n F (dq dkX11_asks_0 25 rfl) rfl 3 rfl ?_
          refine v_iload F (dq dkX11_asks_0 26 rfl) 4 rfl ?_
          obtain ⟨r9, e10, h⟩ := bd_of h
          refine v_callV 4 F (q := 61) (kc1 := 0) (ks1 := 0) (as := [.int a1, .int a2, .int a3, .int a4]) (st := []) (st1 := (.int r9.1 :: [])) (res := (some (.int r9.1))) (c_X11_says (l := C.2.1) x y a1 a2 a3 a4 e10) (xnM (by decide)) xc_61 rfl (tc21 _ (List.mem_of_getElem? (i := 17) rfl)) (tc21 _ (List.mem_of_getElem? (i := 18) rfl)) (tc21 _ (List.mem_of_getElem? (i := 19) rfl)) (tc1 _ (List.mem_of_getElem? (i := 5) rfl)) (tc21 _ (List.mem_of_getElem? (i := 20) rfl)) (by decide) rfl ⟨rfl, rfl, Nat.le_of_ble_eq_true rfl, Nat.le_of_ble_eq_true rfl⟩ ⟨Nat.le_of_ble_eq_true rfl, Nat.le_of_ble_eq_true rfl⟩ rfl (Nat.le_of_ble_eq_true rfl) rfl rfl rfl (dq dkX11_asks_0 27 rfl) ?_
          have h := Option.some.inj h
          subst h
          exact v_iret F E (dq dkX11_asks_0 28 rfl)
        · rw [if_pos c8] at h
          refine v_sub [] rfl ?_
          exact t_X11_asks_40 y h F E
def rm_X11_work : Room := { frames := 2, cells := 0, slots := 0, locals := 52 }
def f_X11_work_29 (y : MS) : Option (Int32 × MS) := some ((-2), y)
set_option maxRecDepth 100000 in
set_option maxHeartbeats 4000000 in
theorem t_X11_work_29 {C : Cx} {K : KE} {nn : Nat} {x : CS} {R : Int32 × MS}  (y : MS) (h : f_X11_work_29 y = some R) (F : Fx C RX11 cX11_work 4 rm_X11_work K) (E : CE C (xfM K nn x R.2) (some (.int R.1)) 0 0 (some .int)) : V C 29 [] [] (xfM K nn x y) 0 0 := by
  unfold f_X11_work_29 at h
  refine v_bipush F (v := (-2)) (dq dkX11_work_0 15 rfl) kb_m2 ?_
  have h := Option.some.inj h
  subst h
  exact v_iret F E (dq dkX11_work_0 16 rfl)
def f_X11_work (y : MS) (a1 : Int32) (a2 : Int32) (a3 : Int32) : Option (Int32 × MS) := if (b2i (f_X11_in a1 0 5)) = 0 then (f_X11_work_29 y) else (if (b2i (f_X11_in a2 0 9)) = 0 then (f_X11_work_29 y) else (if (b2i (f_X11_in a3 0 9)) = 0 then (f_X11_work_29 y) else (if (gi y 61 6) = 10 then (some ((-4), y)) else (gd (ib (gi y 61 6) 10) (gd (ib (gi (pi y 63 ((gi y 61 6).toNatClampNeg) a1) 61 6) 10) (gd (ib (gi (pi (pi y 63 ((gi y 61 6).toNatClampNeg) a1) 64 ((gi (pi y 63 ((gi y 61 6).toNatClampNeg) a1) 61 6).toNatClampNeg) a2) 61 6) 10) (some ((gi (pi (pi (pi (pi y 63 ((gi y 61 6).toNatClampNeg) a1) 64 ((gi (pi y 63 ((gi y 61 6).toNatClampNeg) a1) 61 6).toNatClampNeg) a2) 65 ((gi (pi (pi y 63 ((gi y 61 6).toNatClampNeg) a1) 64 ((gi (pi y 63 ((gi y 61 6).toNatClampNeg) a1) 61 6).toNatClampNeg) a2) 61 6).toNatClampNeg) a3) 61 6 ((gi (pi (pi (pi y 63 ((gi y 61 6).toNatClampNeg) a1) 64 ((gi (pi y 63 ((gi y 61 6).toNatClampNeg) a1) 61 6).toNatClampNeg) a2) 65 ((gi (pi (pi y 63 ((gi y 61 6).toNatClampNeg) a1) 64 ((gi (pi y 63 ((gi y 61 6).toNatClampNeg) a1) 61 6).toNatClampNeg) a2) 61 6).toNatClampNeg) a3) 61 6) + 1)) 61 6) - 1, pi (pi (pi (pi y 63 ((gi y 61 6).toNatClampNeg) a1) 64 ((gi (pi y 63 ((gi y 61 6).toNatClampNeg) a1) 61 6).toNatClampNeg) a2) 65 ((gi (pi (pi y 63 ((gi y 61 6).toNatClampNeg) a1) 64 ((gi (pi y 63 ((gi y 61 6).toNatClampNeg) a1) 61 6).toNatClampNeg) a2) 61 6).toNatClampNeg) a3) 61 6 ((gi (pi (pi (pi y 63 ((gi y 61 6).toNatClampNeg) a1) 64 ((gi (pi y 63 ((gi y 61 6).toNatClampNeg) a1) 61 6).toNatClampNeg) a2) 65 ((gi (pi (pi y 63 ((gi y 61 6).toNatClampNeg) a1) 64 ((gi (pi y 63 ((gi y 61 6).toNatClampNeg) a1) 61 6).toNatClampNeg) a2) 61 6).toNatClampNeg) a3) 61 6) + 1)))))))))
set_option maxRecDepth 100000 in
set_option maxHeartbeats 4000000 in
theorem c_X11_work {K : KE} {l : Launch} {R : Int32 × MS} {nn : Nat} (x : CS) (y : MS) (a1 : Int32) (a2 : Int32) (a3 : Int32) (h : f_X11_work y a1 a2 a3 = some R) : MC K l yX11_work cX11_work 4 (some .int) rm_X11_work 0 0 [.ref (K.1 + 61), .int a1, .int a2, .int a3] (xfM K nn x y) (xfM K nn x R.2) (some (.int R.1)) := by
  unfold f_X11_work at h
  refine mc_of (ls0 := [(0, .ref (K.1 + 61)), (1, .int a1), (2, .int a2), (3, .int a3)]) (by decide) (Nat.le_of_ble_eq_true rfl) rfl (fun C hl hnm F E => ?_)
  have F : Fx C RX11 cX11_work 4 rm_X11_work K := F
  refine v_iload_n F (dq dkX11_work_0 0 rfl) rfl 1 rfl ?_
  refine v_iconst F (v := 0) (dq dkX11_work_0 1 rfl) ki_0 ?_
  refine v_iconst F (v := 5) (dq dkX11_work_0 2 rfl) ki_5 ?_
  refine v_callS 3 F (kc1 := 0) (ks1 := 0) (as := [.int a1, .int 0, .int 5]) (st := []) (st1 := (.int (b2i (f_X11_in a1 0 5)) :: [])) (res := (some (.int (b2i (f_X11_in a1 0 5))))) (c_X11_in (l := C.2.1) a1 0 5) (tc15 _ (List.mem_of_getElem? (i := 1) rfl)) (tc15 _ (List.mem_of_getElem? (i := 2) rfl)) (tc1 _ (List.mem_of_getElem? (i := 5) rfl)) (tc15 _ (List.mem_of_getElem? (i := 3) rfl)) (by decide) rfl ⟨rfl, rfl, Nat.le_of_ble_eq_true rfl, Nat.le_of_ble_eq_true rfl⟩ ⟨Nat.le_of_ble_eq_true rfl, Nat.le_of_ble_eq_true rfl⟩ rfl (Nat.le_of_ble_eq_true rfl) rfl rfl rfl (dq dkX11_work_0 3 rfl) ?_
  refine v_if_eq F (tgt := 29) (dq dkX11_work_0 4 rfl) (by decide) (fun c2 => ?_) (fun c2 => ?_)
  · rw [if_pos c2] at h
    refine v_sub [] rfl ?_
    exact t_X11_work_29 y h F E
  · rw [if_neg c2] at h
    refine v_iload_n F (dq dkX11_work_0 5 rfl) rfl 2 rfl ?_
    refine v_iconst F (v := 0) (dq dkX11_work_0 6 rfl) ki_0 ?_
    refine v_bipush F (v := 9) (dq dkX11_work_0 7 rfl) kb_9 ?_
    refine v_callS 3 F (kc1 := 0) (ks1 := 0) (as := [.int a2, .int 0, .int 9]) (st := []) (st1 := (.int (b2i (f_X11_in a2 0 9)) :: [])) (res := (some (.int (b2i (f_X11_in a2 0 9))))) (c_X11_in (l := C.2.1) a2 0 9) (tc15 _ (List.mem_of_getElem? (i := 1) rfl)) (tc15 _ (List.mem_of_getElem? (i := 2) rfl)) (tc1 _ (List.mem_of_getElem? (i := 5) rfl)) (tc15 _ (List.mem_of_getElem? (i := 3) rfl)) (by decide) rfl ⟨rfl, rfl, Nat.le_of_ble_eq_true rfl, Nat.le_of_ble_eq_true rfl⟩ ⟨Nat.le_of_ble_eq_true rfl, Nat.le_of_ble_eq_true rfl⟩ rfl (Nat.le_of_ble_eq_true rfl) rfl rfl rfl (dq dkX11_work_0 8 rfl) ?_
    refine v_if_eq F (tgt := 29) (dq dkX11_work_0 9 rfl) (by decide) (fun c4 => ?_) (fun c4 => ?_)
    · rw [if_pos c4] at h
      refine v_sub [] rfl ?_
      exact t_X11_work_29 y h F E
    · rw [if_neg c4] at h
      refine v_iload_n F (dq dkX11_work_0 10 rfl) rfl 3 rfl ?_
      refine v_iconst F (v := 0) (dq dkX11_work_0 11 rfl) ki_0 ?_
      refine v_bipush F (v := 9) (dq dkX11_work_0 12 rfl) kb_9 ?_
      refine v_callS 3 F (kc1 := 0) (ks1 := 0) (as := [.int a3, .int 0, .int 9]) (st := []) (st1 := (.int (b2i (f_X11_in a3 0 9)) :: [])) (res := (some (.int (b2i (f_X11_in a3 0 9))))) (c_X11_in (l := C.2.1) a3 0 9) (tc15 _ (List.mem_of_getElem? (i := 1) rfl)) (tc15 _ (List.mem_of_getElem? (i := 2) rfl)) (tc1 _ (List.mem_of_getElem? (i := 5) rfl)) (tc15 _ (List.mem_of_getElem? (i := 3) rfl)) (by decide) rfl ⟨rfl, rfl, Nat.le_of_ble_eq_true rfl, Nat.le_of_ble_eq_true rfl⟩ ⟨Nat.le_of_ble_eq_true rfl, Nat.le_of_ble_eq_true rfl⟩ rfl (Nat.le_of_ble_eq_true rfl) rfl rfl rfl (dq dkX11_work_0 13 rfl) ?_
      refine v_if_ne F (tgt := 32) (dq dkX11_work_0 14 rfl) (by decide) (fun c6 => ?_) (fun c6 => ?_)
      · rw [if_neg c6] at h
        refine v_aload_n F (dq dkX11_work_0 17 rfl) rfl 0 rfl ?_
        refine v_get F 61 (xnM (by decide)) xc_61 rfl inlX11 6 (by decide) (tc16 _ (List.mem_of_getElem? (i := 16) rfl)) rfl rfl (dq dkX11_work_0 18 rfl) ?_
        refine v_bipush F (v := 10) (dq dkX11_work_0 19 rfl) kb_10 ?_
        refine v_icmp_ne F (tgt := 44) (dq dkX11_work_0 20 rfl) (by decide) (fun c7 => ?_) (fun c7 => ?_)
        · rw [if_neg c7] at h
          refine v_aload_n F (dq dkX11_work_0 23 rfl) rfl 0 rfl ?_
          refine v_get F 61 (xnM (by decide)) xc_61 rfl inlX11 7 (by decide) (tc11 _ (List.mem_of_getElem? (i := 21) rfl)) rfl rfl (dq dkX11_work_0 24 rfl) ?_
          refine v_aload_n F (dq dkX11_work_0 25 rfl) rfl 0 rfl ?_
          refine v_get F 61 (xnM (by decide)) xc_61 rfl inlX11 6 (by decide) (tc16 _ (List.mem_of_getElem? (i := 16) rfl)) rfl rfl (dq dkX11_work_0 26 rfl) ?_
          refine v_iload_n F (dq dkX11_work_0 27 rfl) rfl 1 rfl ?_
          obtain ⟨g8, h⟩ := gd_of h
          refine v_iast F 63 (xnM (by decide)) xc_63 (ib_in g8) (dq dkX11_work_0 28 rfl) ?_
          refine v_eqM (xwM (q := 63) (j := (gi y 61 6).toNatClampNeg) (v := a1) (by decide) (by decide) rfl) ?_
          refine v_aload_n F (dq dkX11_work_0 29 rfl) rfl 0 rfl ?_
          refine v_get F 61 (xnM (by decide)) xc_61 rfl inlX11 8 (by decide) (tc11 _ (List.mem_of_getElem? (i := 22) rfl)) rfl rfl (dq dkX11_work_0 30 rfl) ?_
          refine v_aload_n F (dq dkX11_work_0 31 rfl) rfl 0 rfl ?_
          refine v_get F 61 (xnM (by decide)) xc_61 rfl inlX11 6 (by decide) (tc16 _ (List.mem_of_getElem? (i := 16) rfl)) rfl rfl (dq dkX11_work_0 32 rfl) ?_
          refine v_iload_n F (dq dkX11_work_0 33 rfl) rfl 2 rfl ?_
          obtain ⟨g9, h⟩ := gd_of h
          refine v_iast F 64 (xnM (by decide)) xc_64 (ib_in g9) (dq dkX11_work_0 34 rfl) ?_
          refine v_eqM (xwM (q := 64) (j := (gi (pi y 63 ((gi y 61 6).toNatClampNeg) a1) 61 6).toNatClampNeg) (v := a2) (by decide) (by decide) rfl) ?_
          refine v_aload_n F (dq dkX11_work_0 35 rfl) rfl 0 rfl ?_
          refine v_get F 61 (xnM (by decide)) xc_61 rfl inlX11 9 (by decide) (tc11 _ (List.mem_of_getElem? (i := 23) rfl)) rfl rfl (dq dkX11_work_0 36 rfl) ?_
          refine v_aload_n F (dq dkX11_work_0 37 rfl) rfl 0 rfl ?_
          refine v_get F 61 (xnM (by decide)) xc_61 rfl inlX11 6 (by decide) (tc16 _ (List.mem_of_getElem? (i := 16) rfl)) rfl rfl (dq dkX11_work_0 38 rfl) ?_
          refine v_iload_n F (dq dkX11_work_0 39 rfl) rfl 3 rfl ?_
          obtain ⟨g10, h⟩ := gd_of h
          refine v_iast F 65 (xnM (by decide)) xc_65 (ib_in g10) (dq dkX11_work_1 0 rfl) ?_
          refine v_eqM (xwM (q := 65) (j := (gi (pi (pi y 63 ((gi y 61 6).toNatClampNeg) a1) 64 ((gi (pi y 63 ((gi y 61 6).toNatClampNeg) a1) 61 6).toNatClampNeg) a2) 61 6).toNatClampNeg) (v := a3) (by decide) (by decide) rfl) ?_
          refine v_aload_n F (dq dkX11_work_1 1 rfl) rfl 0 rfl ?_
          refine v_dup F (dq dkX11_work_1 2 rfl) rfl ?_
          refine v_get F 61 (xnM (by decide)) xc_61 rfl inlX11 6 (by decide) (tc16 _ (List.mem_of_getElem? (i := 16) rfl)) rfl rfl (dq dkX11_work_1 3 rfl) ?_
          refine v_iconst F (v := 1) (dq dkX11_work_1 4 rfl) ki_1 ?_
          refine v_iadd F (dq dkX11_work_1 5 rfl) ?_
          refine v_put F 61 (xnM (by decide)) xc_61 rfl inlX11 tyX11_ok nmX11 6 (by decide) (tc16 _ (List.mem_of_getElem? (i := 16) rfl)) rfl rfl (tyX11_ok 6 (by decide)) rfl rfl (Nat.le_of_ble_eq_true rfl) (dq dkX11_work_1 6 rfl) ?_
          refine v_eqM (xwM (q := 61) (j := 6) (v := (gi (pi (pi (pi y 63 ((gi y 61 6).toNatClampNeg) a1) 64 ((gi (pi y 63 ((gi y 61 6).toNatClampNeg) a1) 61 6).toNatClampNeg) a2) 65 ((gi (pi (pi y 63 ((gi y 61 6).toNatClampNeg) a1) 64 ((gi (pi y 63 ((gi y 61 6).toNatClampNeg) a1) 61 6).toNatClampNeg) a2) 61 6).toNatClampNeg) a3) 61 6) + 1) (by decide) (by decide) rfl) ?_
          refine v_aload_n F (dq dkX11_work_1 7 rfl) rfl 0 rfl ?_
          refine v_get F 61 (xnM (by decide)) xc_61 rfl inlX11 6 (by decide) (tc16 _ (List.mem_of_getElem? (i := 16) rfl)) rfl rfl (dq dkX11_work_1 8 rfl) ?_
          refine v_iconst F (v := 1) (dq dkX11_work_1 9 rfl) ki_1 ?_
          refine v_isub F (dq dkX11_work_1 10 rfl) ?_
          have h := Option.some.inj h
          subst h
          exact v_iret F E (dq dkX11_work_1 11 rfl)
        · rw [if_pos c7] at h
          refine v_bipush F (v := (-4)) (dq dkX11_work_0 21 rfl) kb_m4 ?_
          have h := Option.some.inj h
          subst h
          exact v_iret F E (dq dkX11_work_0 22 rfl)
      · rw [if_pos c6] at h
        refine v_sub [] rfl ?_
        exact t_X11_work_29 y h F E
def rm_X11_forget : Room := { frames := 1, cells := 0, slots := 0, locals := 30 }
def f_X11_forget (y : MS) : Int32 × MS := if (gi y 61 6) = 0 then (((-3), y)) else ((gi (pi y 61 6 ((gi y 61 6) - 1)) 61 6, pi y 61 6 ((gi y 61 6) - 1)))
set_option maxRecDepth 100000 in
set_option maxHeartbeats 4000000 in
theorem c_X11_forget {K : KE} {l : Launch} {nn : Nat} (x : CS) (y : MS) : MC K l yX11_forget cX11_forget 1 (some .int) rm_X11_forget 0 0 [.ref (K.1 + 61)] (xfM K nn x y) (xfM K nn x ((f_X11_forget y).2)) (some (.int (f_X11_forget y).1)) := by
  obtain ⟨R, h⟩ : ∃ R, f_X11_forget y = R := ⟨_, rfl⟩
  rw [h]
  unfold f_X11_forget at h
  refine mc_of (ls0 := [(0, .ref (K.1 + 61))]) (by decide) (Nat.le_of_ble_eq_true rfl) rfl (fun C hl hnm F E => ?_)
  have F : Fx C RX11 cX11_forget 1 rm_X11_forget K := F
  refine v_aload_n F (dq dkX11_forget_0 0 rfl) rfl 0 rfl ?_
  refine v_get F 61 (xnM (by decide)) xc_61 rfl inlX11 6 (by decide) (tc16 _ (List.mem_of_getElem? (i := 16) rfl)) rfl rfl (dq dkX11_forget_0 1 rfl) ?_
  refine v_if_ne F (tgt := 10) (dq dkX11_forget_0 2 rfl) (by decide) (fun c1 => ?_) (fun c1 => ?_)
  · rw [if_neg c1] at h
    refine v_aload_n F (dq dkX11_forget_0 5 rfl) rfl 0 rfl ?_
    refine v_dup F (dq dkX11_forget_0 6 rfl) rfl ?_
    refine v_get F 61 (xnM (by decide)) xc_61 rfl inlX11 6 (by decide) (tc16 _ (List.mem_of_getElem? (i := 16) rfl)) rfl rfl (dq dkX11_forget_0 7 rfl) ?_
    refine v_iconst F (v := 1) (dq dkX11_forget_0 8 rfl) ki_1 ?_
    refine v_isub F (dq dkX11_forget_0 9 rfl) ?_
    refine v_put F 61 (xnM (by decide)) xc_61 rfl inlX11 tyX11_ok nmX11 6 (by decide) (tc16 _ (List.mem_of_getElem? (i := 16) rfl)) rfl rfl (tyX11_ok 6 (by decide)) rfl rfl (Nat.le_of_ble_eq_true rfl) (dq dkX11_forget_0 10 rfl) ?_
    refine v_eqM (xwM (q := 61) (j := 6) (v := (gi y 61 6) - 1) (by decide) (by decide) rfl) ?_
    refine v_aload_n F (dq dkX11_forget_0 11 rfl) rfl 0 rfl ?_
    refine v_get F 61 (xnM (by decide)) xc_61 rfl inlX11 6 (by decide) (tc16 _ (List.mem_of_getElem? (i := 16) rfl)) rfl rfl (dq dkX11_forget_0 12 rfl) ?_
    subst h
    exact v_iret F E (dq dkX11_forget_0 13 rfl)
  · rw [if_pos c1] at h
    refine v_bipush F (v := (-3)) (dq dkX11_forget_0 3 rfl) kb_m3 ?_
    subst h
    exact v_iret F E (dq dkX11_forget_0 4 rfl)
def rm_X11_daysOf : Room := { frames := 1, cells := 0, slots := 0, locals := 30 }
def f_X11_daysOf_98 (y : MS) (a2 : Int32) : Option (Int32) := some a2
set_option maxRecDepth 100000 in
set_option maxHeartbeats 4000000 in
theorem t_X11_daysOf_98 {C : Cx} {K : KE} {nn : Nat} {x : CS} {R : Int32}  (y : MS) (a2 : Int32) (h : f_X11_daysOf_98 y a2 = some R) (F : Fx C RX11 cX11_daysOf 3 rm_X11_daysOf K) (E : CE C (xfM K nn x y) (some (.int R)) 0 0 (some .int)) : V C 98 [(2, .int a2)] [] (xfM K nn x y) 0 0 := by
  unfold f_X11_daysOf_98 at h
  refine v_iload_n F (dq dkX11_daysOf_1 8 rfl) rfl 0 rfl ?_
  have h := Option.some.inj h
  subst h
  exact v_iret F E (dq dkX11_daysOf_1 9 rfl)
def f_X11_daysOf_85 (y : MS) (s0 : Int32) : Option (Int32) := some (s0 + 2)
set_option maxRecDepth 100000 in
set_option maxHeartbeats 4000000 in
theorem t_X11_daysOf_85 {C : Cx} {K : KE} {nn : Nat} {x : CS} {R : Int32}  (y : MS) (s0 : Int32) (h : f_X11_daysOf_85 y s0 = some R) (F : Fx C RX11 cX11_daysOf 3 rm_X11_daysOf K) (E : CE C (xfM K nn x y) (some (.int R)) 0 0 (some .int)) : V C 85 [] [.int s0] (xfM K nn x y) 0 0 := by
  unfold f_X11_daysOf_85 at h
  refine v_iconst F (v := 2) (dq dkX11_daysOf_0 35 rfl) ki_2 ?_
  refine v_iadd F (dq dkX11_daysOf_0 36 rfl) ?_
  have h := Option.some.inj h
  subst h
  exact v_iret F E (dq dkX11_daysOf_0 37 rfl)
def f_X11_daysOf (y : MS) (a1 : Int32) : Option (Int32) := gd (ib a1 10) (gd (ib a1 10) (if (gi y 63 a1.toNatClampNeg) = 1 then (gd (ib a1 10) (if (gi y 64 a1.toNatClampNeg) = 9 then (some (2 * (1 + (gi y 65 a1.toNatClampNeg)))) else (some (1 + (gi y 65 a1.toNatClampNeg))))) else (if (gi y 63 a1.toNatClampNeg) = 2 then (gd (ib a1 10) (if (gi y 64 a1.toNatClampNeg) = 9 then (f_X11_daysOf_85 y (2 * (1 + (gi y 65 a1.toNatClampNeg)))) else (f_X11_daysOf_85 y (1 + (gi y 65 a1.toNatClampNeg))))) else (if (gi y 63 a1.toNatClampNeg) = 3 then (f_X11_daysOf_98 y (1 + (gi y 65 a1.toNatClampNeg))) else (if (gi y 63 a1.toNatClampNeg) = 4 then (some (2 * (1 + (gi y 65 a1.toNatClampNeg)))) else (if (gi y 63 a1.toNatClampNeg) = 5 then (some ((2 * (1 + (gi y 65 a1.toNatClampNeg))) + 3)) else (f_X11_daysOf_98 y (1 + (gi y 65 a1.toNatClampNeg)))))))))
set_option maxRecDepth 100000 in
set_option maxHeartbeats 4000000 in
theorem c_X11_daysOf {K : KE} {l : Launch} {R : Int32} {nn : Nat} (x : CS) (y : MS) (a1 : Int32) (h : f_X11_daysOf y a1 = some R) : MC K l yX11_daysOf cX11_daysOf 3 (some .int) rm_X11_daysOf 0 0 [.ref (K.1 + 61), .int a1] (xfM K nn x y) (xfM K nn x y) (some (.int R)) := by
  unfold f_X11_daysOf at h
  refine mc_of (ls0 := [(0, .ref (K.1 + 61)), (1, .int a1)]) (by decide) (Nat.le_of_ble_eq_true rfl) rfl (fun C hl hnm F E => ?_)
  have F : Fx C RX11 cX11_daysOf 3 rm_X11_daysOf K := F
  refine v_iconst F (v := 1) (dq dkX11_daysOf_0 0 rfl) ki_1 ?_
  refine v_aload_n F (dq dkX11_daysOf_0 1 rfl) rfl 0 rfl ?_
  refine v_get F 61 (xnM (by decide)) xc_61 rfl inlX11 9 (by decide) (tc11 _ (List.mem_of_getElem? (i := 23) rfl)) rfl rfl (dq dkX11_daysOf_0 2 rfl) ?_
  refine v_iload_n F (dq dkX11_daysOf_0 3 rfl) rfl 1 rfl ?_
  obtain ⟨g1, h⟩ := gd_of h
  refine v_iald F 65 (xnM (by decide)) xc_65 (ib_in g1) (dq dkX11_daysOf_0 4 rfl) ?_
  refine v_iadd F (dq dkX11_daysOf_0 5 rfl) ?_
  refine v_istore_n F (ls' := [(2, .int (1 + (gi y 65 a1.toNatClampNeg))), (0, .ref (K.1 + 61)), (1, .int a1)]) (dq dkX11_daysOf_0 6 rfl) rfl (by decide) rfl ?_
  refine v_aload_n F (dq dkX11_daysOf_0 7 rfl) rfl 1 rfl ?_
  refine v_get F 61 (xnM (by decide)) xc_61 rfl inlX11 7 (by decide) (tc11 _ (List.mem_of_getElem? (i := 21) rfl)) rfl rfl (dq dkX11_daysOf_0 8 rfl) ?_
  refine v_iload_n F (dq dkX11_daysOf_0 9 rfl) rfl 2 rfl ?_
  obtain ⟨g2, h⟩ := gd_of h
  refine v_iald F 63 (xnM (by decide)) xc_63 (ib_in g2) (dq dkX11_daysOf_0 10 rfl) ?_
  by_cases c3 : (gi y 63 a1.toNatClampNeg) = 1
  · rw [if_pos c3] at h
    refine v_tblIn F (off := 33) (tgt := 48) (dq dkX11_daysOf_0 11 rfl) (by rw [c3]; decide) (by rw [c3]; decide) (by rw [c3]; rfl) (by decide) ?_
    refine v_aload_n F (dq dkX11_daysOf_0 12 rfl) rfl 1 rfl ?_
    refine v_get F 61 (xnM (by decide)) xc_61 rfl inlX11 8 (by decide) (tc11 _ (List.mem_of_getElem? (i := 22) rfl)) rfl rfl (dq dkX11_daysOf_0 13 rfl) ?_
    refine v_iload_n F (dq dkX11_daysOf_0 14 rfl) rfl 2 rfl ?_
    obtain ⟨g4, h⟩ := gd_of h
    refine v_iald F 64 (xnM (by decide)) xc_64 (ib_in g4) (dq dkX11_daysOf_0 15 rfl) ?_
    refine v_bipush F (v := 9) (dq dkX11_daysOf_0 16 rfl) kb_9 ?_
    refine v_icmp_ne F (tgt := 65) (dq dkX11_daysOf_0 17 rfl) (by decide) (fun c5 => ?_) (fun c5 => ?_)
    · rw [if_neg c5] at h
      refine v_iload_n F (dq dkX11_daysOf_0 22 rfl) rfl 0 rfl ?_
      have h := Option.some.inj h
      subst h
      exact v_iret F E (dq dkX11_daysOf_0 23 rfl)
    · rw [if_pos c5] at h
      refine v_iconst F (v := 2) (dq dkX11_daysOf_0 18 rfl) ki_2 ?_
      refine v_iload_n F (dq dkX11_daysOf_0 19 rfl) rfl 0 rfl ?_
      refine v_imul F (dq dkX11_daysOf_0 20 rfl) ?_
      refine v_goto F (tgt := 66) (dq dkX11_daysOf_0 21 rfl) (by decide) ?_
      have h := Option.some.inj h
      subst h
      exact v_iret F E (dq dkX11_daysOf_0 23 rfl)
  rw [if_neg c3] at h
  by_cases c6 : (gi y 63 a1.toNatClampNeg) = 2
  · rw [if_pos c6] at h
    refine v_tblIn F (off := 52) (tgt := 67) (dq dkX11_daysOf_0 11 rfl) (by rw [c6]; decide) (by rw [c6]; decide) (by rw [c6]; rfl) (by decide) ?_
    refine v_aload_n F (dq dkX11_daysOf_0 24 rfl) rfl 1 rfl ?_
    refine v_get F 61 (xnM (by decide)) xc_61 rfl inlX11 8 (by decide) (tc11 _ (List.mem_of_getElem? (i := 22) rfl)) rfl rfl (dq dkX11_daysOf_0 25 rfl) ?_
    refine v_iload_n F (dq dkX11_daysOf_0 26 rfl) rfl 2 rfl ?_
    obtain ⟨g7, h⟩ := gd_of h
    refine v_iald F 64 (xnM (by decide)) xc_64 (ib_in g7) (dq dkX11_daysOf_0 27 rfl) ?_
    refine v_bipush F (v := 9) (dq dkX11_daysOf_0 28 rfl) kb_9 ?_
    refine v_icmp_ne F (tgt := 84) (dq dkX11_daysOf_0 29 rfl) (by decide) (fun c8 => ?_) (fun c8 => ?_)
    · rw [if_neg c8] at h
      refine v_iload_n F (dq dkX11_daysOf_0 34 rfl) rfl 0 rfl ?_
      refine v_sub [] rfl ?_
      exact t_X11_daysOf_85 y (1 + (gi y 65 a1.toNatClampNeg)) h F E
    · rw [if_pos c8] at h
      refine v_iconst F (v := 2) (dq dkX11_daysOf_0 30 rfl) ki_2 ?_
      refine v_iload_n F (dq dkX11_daysOf_0 31 rfl) rfl 0 rfl ?_
      refine v_imul F (dq dkX11_daysOf_0 32 rfl) ?_
      refine v_goto F (tgt := 85) (dq dkX11_daysOf_0 33 rfl) (by decide) ?_
      refine v_sub [] rfl ?_
      exact t_X11_daysOf_85 y (2 * (1 + (gi y 65 a1.toNatClampNeg))) h F E
  rw [if_neg c6] at h
  by_cases c9 : (gi y 63 a1.toNatClampNeg) = 3
  · rw [if_pos c9] at h
    refine v_tblIn F (off := 83) (tgt := 98) (dq dkX11_daysOf_0 11 rfl) (by rw [c9]; decide) (by rw [c9]; decide) (by rw [c9]; rfl) (by decide) ?_
    refine v_sub [0] rfl ?_
    exact t_X11_daysOf_98 y (1 + (gi y 65 a1.toNatClampNeg)) h F E
  rw [if_neg c9] at h
  by_cases c10 : (gi y 63 a1.toNatClampNeg) = 4
  · rw [if_pos c10] at h
    refine v_tblIn F (off := 73) (tgt := 88) (dq dkX11_daysOf_0 11 rfl) (by rw [c10]; decide) (by rw [c10]; decide) (by rw [c10]; rfl) (by decide) ?_
    refine v_iconst F (v := 2) (dq dkX11_daysOf_0 38 rfl) ki_2 ?_
    refine v_iload_n F (dq dkX11_daysOf_0 39 rfl) rfl 0 rfl ?_
    refine v_imul F (dq dkX11_daysOf_1 0 rfl) ?_
    have h := Option.some.inj h
    subst h
    exact v_iret F E (dq dkX11_daysOf_1 1 rfl)
  rw [if_neg c10] at h
  by_cases c11 : (gi y 63 a1.toNatClampNeg) = 5
  · rw [if_pos c11] at h
    refine v_tblIn F (off := 77) (tgt := 92) (dq dkX11_daysOf_0 11 rfl) (by rw [c11]; decide) (by rw [c11]; decide) (by rw [c11]; rfl) (by decide) ?_
    refine v_iconst F (v := 2) (dq dkX11_daysOf_1 2 rfl) ki_2 ?_
    refine v_iload_n F (dq dkX11_daysOf_1 3 rfl) rfl 0 rfl ?_
    refine v_imul F (dq dkX11_daysOf_1 4 rfl) ?_
    refine v_iconst F (v := 3) (dq dkX11_daysOf_1 5 rfl) ki_3 ?_
    refine v_iadd F (dq dkX11_daysOf_1 6 rfl) ?_
    have h := Option.some.inj h
    subst h
    exact v_iret F E (dq dkX11_daysOf_1 7 rfl)
  rw [if_neg c11] at h
  have zc3 := lv_neT c3 (a := 1) (by decide)
  have zc6 := lv_neT c6 (a := 2) (by decide)
  have zc9 := lv_neT c9 (a := 3) (by decide)
  have zc10 := lv_neT c10 (a := 4) (by decide)
  have zc11 := lv_neT c11 (a := 5) (by decide)
  refine v_tblOut F (tgt := 98) (dq dkX11_daysOf_0 11 rfl) (by omega) (by decide) ?_
  refine v_sub [0] rfl ?_
  exact t_X11_daysOf_98 y (1 + (gi y 65 a1.toNatClampNeg)) h F E
