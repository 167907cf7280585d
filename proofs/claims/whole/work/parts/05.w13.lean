def rm_X11_isUnder : Room := { frames := 1, cells := 0, slots := 0, locals := 30 }
def f_X11_isUnder_29 : Bool := true
set_option maxRecDepth 100000 in
set_option maxHeartbeats 4000000 in
theorem t_X11_isUnder_29 {C : Cx} {K : KE} {M : GM} {R : Bool}  (h : f_X11_isUnder_29  = R) (F : Fx C RX11 cX11_isUnder 2 rm_X11_isUnder K) (E : CE C M (some (.int (b2i R))) 0 0 (some .boolean)) : V C 29 [] [] M 0 0 := by
  unfold f_X11_isUnder_29 at h
  refine v_iconst F (v := 1) (dq dkX11_isUnder_0 17 rfl) ki_1 ?_
  refine v_goto F (tgt := 34) (dq dkX11_isUnder_0 18 rfl) (by decide) ?_
  cases h
  exact v_zret F E (b2i_n true) (dq dkX11_isUnder_0 20 rfl)
def f_X11_isUnder_33 : Bool := false
set_option maxRecDepth 100000 in
set_option maxHeartbeats 4000000 in
theorem t_X11_isUnder_33 {C : Cx} {K : KE} {M : GM} {R : Bool}  (h : f_X11_isUnder_33  = R) (F : Fx C RX11 cX11_isUnder 2 rm_X11_isUnder K) (E : CE C M (some (.int (b2i R))) 0 0 (some .boolean)) : V C 33 [] [] M 0 0 := by
  unfold f_X11_isUnder_33 at h
  refine v_iconst F (v := 0) (dq dkX11_isUnder_0 19 rfl) ki_0 ?_
  cases h
  exact v_zret F E (b2i_n false) (dq dkX11_isUnder_0 20 rfl)
def f_X11_isUnder_19 (a0 : Int32) (a1 : Int32) : Bool := if a1 = 4 then (if a0 = 5 then f_X11_isUnder_29 else f_X11_isUnder_33) else f_X11_isUnder_33
set_option maxRecDepth 100000 in
set_option maxHeartbeats 4000000 in
theorem t_X11_isUnder_19 {C : Cx} {K : KE} {M : GM} {R : Bool}  (a0 : Int32) (a1 : Int32) (h : f_X11_isUnder_19 a0 a1 = R) (F : Fx C RX11 cX11_isUnder 2 rm_X11_isUnder K) (E : CE C M (some (.int (b2i R))) 0 0 (some .boolean)) : V C 19 [(0, .int a0), (1, .int a1)] [] M 0 0 := by
  unfold f_X11_isUnder_19 at h
  refine v_iload_n F (dq dkX11_isUnder_0 11 rfl) rfl 1 rfl ?_
  refine v_iconst F (v := 4) (dq dkX11_isUnder_0 12 rfl) ki_4 ?_
  refine v_icmp_ne F (tgt := 33) (dq dkX11_isUnder_0 13 rfl) (by decide) (fun c1 => ?_) (fun c1 => ?_)
  · rw [if_neg c1] at h
    refine v_sub [] rfl ?_
    exact t_X11_isUnder_33 h F E
  · rw [if_pos c1] at h
    refine v_iload_n F (dq dkX11_isUnder_0 14 rfl) rfl 0 rfl ?_
    refine v_iconst F (v := 5) (dq dkX11_isUnder_0 15 rfl) ki_5 ?_
    refine v_icmp_ne F (tgt := 33) (dq dkX11_isUnder_0 16 rfl) (by decide) (fun c2 => ?_) (fun c2 => ?_)
    · rw [if_neg c2] at h
      refine v_sub [] rfl ?_
      exact t_X11_isUnder_33 h F E
    · rw [if_pos c2] at h
      refine v_sub [] rfl ?_
      exact t_X11_isUnder_29 h F E
def f_X11_isUnder (a0 : Int32) (a1 : Int32) : Bool := if a1 = 0 then f_X11_isUnder_29 else (if a0 = a1 then f_X11_isUnder_29 else (if a1 = 1 then (if a0 = 2 then f_X11_isUnder_29 else (f_X11_isUnder_19 a0 a1)) else (f_X11_isUnder_19 a0 a1)))
set_option maxRecDepth 100000 in
set_option maxHeartbeats 4000000 in
theorem c_X11_isUnder {K : KE} {l : Launch} {M : GM} (a0 : Int32) (a1 : Int32) : MC K l yX11_isUnder cX11_isUnder 2 (some .boolean) rm_X11_isUnder 0 0 [.int a0, .int a1] M M (some (.int (b2i (f_X11_isUnder a0 a1)))) := by
  obtain ⟨R, h⟩ : ∃ R, f_X11_isUnder a0 a1 = R := ⟨_, rfl⟩
  rw [h]
  unfold f_X11_isUnder at h
  refine mc_of (ls0 := [(0, .int a0), (1, .int a1)]) (by decide) (Nat.le_of_ble_eq_true rfl) rfl (fun C hl hnm F E => ?_)
  have F : Fx C RX11 cX11_isUnder 2 rm_X11_isUnder K := F
  refine v_iload_n F (dq dkX11_isUnder_0 0 rfl) rfl 1 rfl ?_
  refine v_if_eq F (tgt := 29) (dq dkX11_isUnder_0 1 rfl) (by decide) (fun c3 => ?_) (fun c3 => ?_)
  · rw [if_pos c3] at h
    refine v_sub [] rfl ?_
    exact t_X11_isUnder_29 h F E
  · rw [if_neg c3] at h
    refine v_iload_n F (dq dkX11_isUnder_0 2 rfl) rfl 0 rfl ?_
    refine v_iload_n F (dq dkX11_isUnder_0 3 rfl) rfl 1 rfl ?_
    refine v_icmp_eq F (tgt := 29) (dq dkX11_isUnder_0 4 rfl) (by decide) (fun c4 => ?_) (fun c4 => ?_)
    · rw [if_pos c4] at h
      refine v_sub [] rfl ?_
      exact t_X11_isUnder_29 h F E
    · rw [if_neg c4] at h
      refine v_iload_n F (dq dkX11_isUnder_0 5 rfl) rfl 1 rfl ?_
      refine v_iconst F (v := 1) (dq dkX11_isUnder_0 6 rfl) ki_1 ?_
      refine v_icmp_ne F (tgt := 19) (dq dkX11_isUnder_0 7 rfl) (by decide) (fun c5 => ?_) (fun c5 => ?_)
      · rw [if_neg c5] at h
        exact t_X11_isUnder_19 a0 a1 h F E
      · rw [if_pos c5] at h
        refine v_iload_n F (dq dkX11_isUnder_0 8 rfl) rfl 0 rfl ?_
        refine v_iconst F (v := 2) (dq dkX11_isUnder_0 9 rfl) ki_2 ?_
        refine v_icmp_eq F (tgt := 29) (dq dkX11_isUnder_0 10 rfl) (by decide) (fun c6 => ?_) (fun c6 => ?_)
        · rw [if_pos c6] at h
          refine v_sub [] rfl ?_
          exact t_X11_isUnder_29 h F E
        · rw [if_neg c6] at h
          exact t_X11_isUnder_19 a0 a1 h F E
def rm_X11_taken : Room := { frames := 2, cells := 0, slots := 0, locals := 52 }
def f_X11_taken_108 (y : MS) : Option (Int32) := some (-13)
set_option maxRecDepth 100000 in
set_option maxHeartbeats 4000000 in
theorem t_X11_taken_108 {C : Cx} {K : KE} {x : CS} {R : Int32}  (y : MS) (h : f_X11_taken_108 y = some R) (F : Fx C RX11 cX11_taken 3 rm_X11_taken K) (E : CE C (xf K x y) (some (.int R)) 0 0 (some .int)) : V C 108 [] [] (xf K x y) 0 0 := by
  unfold f_X11_taken_108 at h
  refine v_bipush F (v := (-13)) (dq dkX11_taken_1 17 rfl) kb_m13 ?_
  cases h
  exact v_iret F E (dq dkX11_taken_1 18 rfl)
def f_X11_taken (y : MS) (a1 : Int32) (a2 : Int32) : Option (Int32) := if (b2i (f_X11_in a2 0 6)) = 0 then (some (-2)) else (if (b2i (f_X11_in a1 0 15)) = 0 then (some (-12)) else (if 6 ≤ a1 then (if (a1 - 6) < (gi y 61 6) then (if 6 ≤ a2 then (f_X11_taken_108 y) else (gd (ib (a1 - 6) 10) (if (b2i (f_X11_isUnder (gi y 63 (a1 - 6).toNatClampNeg) a2)) = 0 then (f_X11_taken_108 y) else (some (a1 - 6))))) else (some (-11))) else (if a1 < (gi y 61 10) then (if a2 = 6 then (gd (ib a1 6) (some (gi y 66 a1.toNatClampNeg))) else (some (-13))) else (some (-11)))))
set_option maxRecDepth 100000 in
set_option maxHeartbeats 4000000 in
theorem c_X11_taken {K : KE} {l : Launch} {R : Int32} (x : CS) (y : MS) (a1 : Int32) (a2 : Int32) (h : f_X11_taken y a1 a2 = some R) : MC K l yX11_taken cX11_taken 3 (some .int) rm_X11_taken 0 0 [.ref (K.1 + 61), .int a1, .int a2] (xf K x y) (xf K x y) (some (.int R)) := by
  unfold f_X11_taken at h
  refine mc_of (ls0 := [(0, .ref (K.1 + 61)), (1, .int a1), (2, .int a2)]) (by decide) (Nat.le_of_ble_eq_true rfl) rfl (fun C hl hnm F E => ?_)
  have F : Fx C RX11 cX11_taken 3 rm_X11_taken K := F
  refine v_iload_n F (dq dkX11_taken_0 0 rfl) rfl 2 rfl ?_
  refine v_iconst F (v := 0) (dq dkX11_taken_0 1 rfl) ki_0 ?_
  refine v_bipush F (v := 6) (dq dkX11_taken_0 2 rfl) kb_6 ?_
  refine v_callS 3 F (kc1 := 0) (ks1 := 0) (as := [.int a2, .int 0, .int 6]) (st := []) (st1 := (.int (b2i (f_X11_in a2 0 6)) :: [])) (res := (some (.int (b2i (f_X11_in a2 0 6))))) (c_X11_in (l := C.2.1) a2 0 6) (tc15 _ (List.mem_of_getElem? (i := 1) rfl)) (tc15 _ (List.mem_of_getElem? (i := 2) rfl)) (tc1 _ (List.mem_of_getElem? (i := 5) rfl)) (tc15 _ (List.mem_of_getElem? (i := 3) rfl)) (by decide) rfl ⟨rfl, rfl, Nat.le_of_ble_eq_true rfl, Nat.le_of_ble_eq_true rfl⟩ ⟨Nat.le_of_ble_eq_true rfl, Nat.le_of_ble_eq_true rfl⟩ rfl (Nat.le_of_ble_eq_true rfl) rfl rfl rfl (dq dkX11_taken_0 3 rfl) ?_
  refine v_if_ne F (tgt := 13) (dq dkX11_taken_0 4 rfl) (by decide) (fun c2 => ?_) (fun c2 => ?_)
  · rw [if_neg c2] at h
    refine v_iload_n F (dq dkX11_taken_0 7 rfl) rfl 1 rfl ?_
    refine v_iconst F (v := 0) (dq dkX11_taken_0 8 rfl) ki_0 ?_
    refine v_bipush F (v := 15) (dq dkX11_taken_0 9 rfl) kb_15 ?_
    refine v_callS 3 F (kc1 := 0) (ks1 := 0) (as := [.int a1, .int 0, .int 15]) (st := []) (st1 := (.int (b2i (f_X11_in a1 0 15)) :: [])) (res := (some (.int (b2i (f_X11_in a1 0 15))))) (c_X11_in (l := C.2.1) a1 0 15) (tc15 _ (List.mem_of_getElem? (i := 1) rfl)) (tc15 _ (List.mem_of_getElem? (i := 2) rfl)) (tc1 _ (List.mem_of_getElem? (i := 5) rfl)) (tc15 _ (List.mem_of_getElem? (i := 3) rfl)) (by decide) rfl ⟨rfl, rfl, Nat.le_of_ble_eq_true rfl, Nat.le_of_ble_eq_true rfl⟩ ⟨Nat.le_of_ble_eq_true rfl, Nat.le_of_ble_eq_true rfl⟩ rfl (Nat.le_of_ble_eq_true rfl) rfl rfl rfl (dq dkX11_taken_0 10 rfl) ?_
    refine v_if_ne F (tgt := 26) (dq dkX11_taken_0 11 rfl) (by decide) (fun c4 => ?_) (fun c4 => ?_)
    · rw [if_neg c4] at h
      refine v_iload_n F (dq dkX11_taken_0 14 rfl) rfl 1 rfl ?_
      refine v_bipush F (v := 6) (dq dkX11_taken_0 15 rfl) kb_6 ?_
      refine v_icmp_ge F (tgt := 63) (dq dkX11_taken_0 16 rfl) (by decide) (fun c5 => ?_) (fun c5 => ?_)
      · rw [if_pos c5] at h
        refine v_iload_n F (dq dkX11_taken_0 33 rfl) rfl 1 rfl ?_
        refine v_bipush F (v := 6) (dq dkX11_taken_0 34 rfl) kb_6 ?_
        refine v_isub F (dq dkX11_taken_0 35 rfl) ?_
        refine v_aload_n F (dq dkX11_taken_0 36 rfl) rfl 0 rfl ?_
        refine v_get F 61 (xn (by decide)) xc_61 rfl inlX11 6 (by decide) (tc16 _ (List.mem_of_getElem? (i := 16) rfl)) rfl rfl (dq dkX11_taken_0 37 rfl) ?_
        refine v_icmp_lt F (tgt := 79) (dq dkX11_taken_0 38 rfl) (by decide) (fun c6 => ?_) (fun c6 => ?_)
        · rw [if_pos c6] at h
          refine v_iload_n F (dq dkX11_taken_1 1 rfl) rfl 2 rfl ?_
          refine v_bipush F (v := 6) (dq dkX11_taken_1 2 rfl) kb_6 ?_
          refine v_icmp_ge F (tgt := 108) (dq dkX11_taken_1 3 rfl) (by decide) (fun c7 => ?_) (fun c7 => ?_)
          · rw [if_pos c7] at h
            refine v_sub [] rfl ?_
            exact t_X11_taken_108 y h F E
          · rw [if_neg c7] at h
            refine v_aload_n F (dq dkX11_taken_1 4 rfl) rfl 0 rfl ?_
            refine v_get F 61 (xn (by decide)) xc_61 rfl inlX11 7 (by decide) (tc11 _ (List.mem_of_getElem? (i := 21) rfl)) rfl rfl (dq dkX11_taken_1 5 rfl) ?_
            refine v_iload_n F (dq dkX11_taken_1 6 rfl) rfl 1 rfl ?_
            refine v_bipush F (v := 6) (dq dkX11_taken_1 7 rfl) kb_6 ?_
            refine v_isub F (dq dkX11_taken_1 8 rfl) ?_
            obtain ⟨g8, h⟩ := gd_of h
            refine v_iald F 63 (xn (by decide)) xc_63 (ib_in g8) (dq dkX11_taken_1 9 rfl) ?_
            refine v_iload_n F (dq dkX11_taken_1 10 rfl) rfl 2 rfl ?_
            refine v_callS 2 F (kc1 := 0) (ks1 := 0) (as := [.int (gi y 63 (a1 - 6).toNatClampNeg), .int a2]) (st := []) (st1 := (.int (b2i (f_X11_isUnder (gi y 63 (a1 - 6).toNatClampNeg) a2)) :: [])) (res := (some (.int (b2i (f_X11_isUnder (gi y 63 (a1 - 6).toNatClampNeg) a2))))) (c_X11_isUnder (l := C.2.1) (gi y 63 (a1 - 6).toNatClampNeg) a2) (tc53 _ (List.mem_of_getElem? (i := 22) rfl)) (tc53 _ (List.mem_of_getElem? (i := 23) rfl)) (tc1 _ (List.mem_of_getElem? (i := 5) rfl)) (tc54 _ (List.mem_of_getElem? (i := 0) rfl)) (by decide) rfl ⟨rfl, rfl, Nat.le_of_ble_eq_true rfl, Nat.le_of_ble_eq_true rfl⟩ ⟨Nat.le_of_ble_eq_true rfl, Nat.le_of_ble_eq_true rfl⟩ rfl (Nat.le_of_ble_eq_true rfl) rfl rfl rfl (dq dkX11_taken_1 11 rfl) ?_
            refine v_if_eq F (tgt := 108) (dq dkX11_taken_1 12 rfl) (by decide) (fun c10 => ?_) (fun c10 => ?_)
            · rw [if_pos c10] at h
              refine v_sub [] rfl ?_
              exact t_X11_taken_108 y h F E
            · rw [if_neg c10] at h
              refine v_iload_n F (dq dkX11_taken_1 13 rfl) rfl 1 rfl ?_
              refine v_bipush F (v := 6) (dq dkX11_taken_1 14 rfl) kb_6 ?_
              refine v_isub F (dq dkX11_taken_1 15 rfl) ?_
              refine v_goto F (tgt := 110) (dq dkX11_taken_1 16 rfl) (by decide) ?_
              cases h
              exact v_iret F E (dq dkX11_taken_1 18 rfl)
        · rw [if_neg c6] at h
          refine v_bipush F (v := (-11)) (dq dkX11_taken_0 39 rfl) kb_m11 ?_
          refine v_goto F (tgt := 110) (dq dkX11_taken_1 0 rfl) (by decide) ?_
          cases h
          exact v_iret F E (dq dkX11_taken_1 18 rfl)
      · rw [if_neg c5] at h
        refine v_iload_n F (dq dkX11_taken_0 17 rfl) rfl 1 rfl ?_
        refine v_aload_n F (dq dkX11_taken_0 18 rfl) rfl 0 rfl ?_
        refine v_get F 61 (xn (by decide)) xc_61 rfl inlX11 10 (by decide) (tc16 _ (List.mem_of_getElem? (i := 17) rfl)) rfl rfl (dq dkX11_taken_0 19 rfl) ?_
        refine v_icmp_lt F (tgt := 45) (dq dkX11_taken_0 20 rfl) (by decide) (fun c11 => ?_) (fun c11 => ?_)
        · rw [if_pos c11] at h
          refine v_iload_n F (dq dkX11_taken_0 23 rfl) rfl 2 rfl ?_
          refine v_bipush F (v := 6) (dq dkX11_taken_0 24 rfl) kb_6 ?_
          refine v_icmp_ne F (tgt := 60) (dq dkX11_taken_0 25 rfl) (by decide) (fun c12 => ?_) (fun c12 => ?_)
          · rw [if_neg c12] at h
            refine v_bipush F (v := (-13)) (dq dkX11_taken_0 31 rfl) kb_m13 ?_
            cases h
            exact v_iret F E (dq dkX11_taken_0 32 rfl)
          · rw [if_pos c12] at h
            refine v_aload_n F (dq dkX11_taken_0 26 rfl) rfl 0 rfl ?_
            refine v_get F 61 (xn (by decide)) xc_61 rfl inlX11 11 (by decide) (tc12 _ (List.mem_of_getElem? (i := 0) rfl)) rfl rfl (dq dkX11_taken_0 27 rfl) ?_
            refine v_iload_n F (dq dkX11_taken_0 28 rfl) rfl 1 rfl ?_
            obtain ⟨g13, h⟩ := gd_of h
            refine v_iald F 66 (xn (by decide)) xc_66 (ib_in g13) (dq dkX11_taken_0 29 rfl) ?_
            refine v_goto F (tgt := 62) (dq dkX11_taken_0 30 rfl) (by decide) ?_
            cases h
            exact v_iret F E (dq dkX11_taken_0 32 rfl)
        · rw [if_neg c11] at h
          refine v_bipush F (v := (-11)) (dq dkX11_taken_0 21 rfl) kb_m11 ?_
          refine v_goto F (tgt := 62) (dq dkX11_taken_0 22 rfl) (by decide) ?_
          cases h
          exact v_iret F E (dq dkX11_taken_0 32 rfl)
    · rw [if_pos c4] at h
      refine v_bipush F (v := (-12)) (dq dkX11_taken_0 12 rfl) kb_m12 ?_
      cases h
      exact v_iret F E (dq dkX11_taken_0 13 rfl)
  · rw [if_pos c2] at h
    refine v_bipush F (v := (-2)) (dq dkX11_taken_0 5 rfl) kb_m2 ?_
    cases h
    exact v_iret F E (dq dkX11_taken_0 6 rfl)
