def rm_X10_within : Room := { frames := 1, cells := 0, slots := 0, locals := 30 }
def f_X10_within_14 : Bool := false
set_option maxRecDepth 100000 in
set_option maxHeartbeats 4000000 in
theorem t_X10_within_14 {C : Cx} {K : KE} {M : GM} {R : Bool}  (h : f_X10_within_14  = R) (F : Fx C RX10 cX10_within 3 rm_X10_within K) (E : CE C M (some (.int (b2i R))) 0 0 (some .boolean)) : V C 14 [] [] M 0 0 := by
  unfold f_X10_within_14 at h
  refine v_iconst F (v := 0) (dq dkX10_within_0 8 rfl) ki_0 ?_
  cases h
  exact v_zret F E (b2i_n false) (dq dkX10_within_0 9 rfl)
def f_X10_within (a0 : Int32) (a1 : Int32) (a2 : Int32) : Bool := if a0 < a1 then f_X10_within_14 else (if a2 < a0 then f_X10_within_14 else true)
set_option maxRecDepth 100000 in
set_option maxHeartbeats 4000000 in
theorem c_X10_within {K : KE} {l : Launch} {M : GM} (a0 : Int32) (a1 : Int32) (a2 : Int32) : MC K l yX10_within cX10_within 3 (some .boolean) rm_X10_within 0 0 [.int a0, .int a1, .int a2] M M (some (.int (b2i (f_X10_within a0 a1 a2)))) := by
  refine mc_of (ls0 := [(0, .int a0), (1, .int a1), (2, .int a2)]) (by decide) (Nat.le_of_ble_eq_true rfl) rfl (fun C hl F E => ?_)
  have F : Fx C RX10 cX10_within 3 rm_X10_within K := F
  obtain ⟨R, h⟩ : ∃ R, f_X10_within a0 a1 a2 = R := ⟨_, rfl⟩
  rw [h] at E
  unfold f_X10_within at h
  refine v_iload_n F (dq dkX10_within_0 0 rfl) rfl 0 rfl ?_
  refine v_iload_n F (dq dkX10_within_0 1 rfl) rfl 1 rfl ?_
  refine v_icmp_lt F (tgt := 14) (dq dkX10_within_0 2 rfl) (by decide) (fun c1 => ?_) (fun c1 => ?_)
  · rw [if_pos c1] at h
    refine v_sub [] rfl ?_
    exact t_X10_within_14 h F E
  · rw [if_neg c1] at h
    refine v_iload_n F (dq dkX10_within_0 3 rfl) rfl 0 rfl ?_
    refine v_iload_n F (dq dkX10_within_0 4 rfl) rfl 2 rfl ?_
    refine v_icmp_gt F (tgt := 14) (dq dkX10_within_0 5 rfl) (by decide) (fun c2 => ?_) (fun c2 => ?_)
    · rw [if_pos c2] at h
      refine v_sub [] rfl ?_
      exact t_X10_within_14 h F E
    · rw [if_neg c2] at h
      refine v_iconst F (v := 1) (dq dkX10_within_0 6 rfl) ki_1 ?_
      refine v_goto F (tgt := 15) (dq dkX10_within_0 7 rfl) (by decide) ?_
      cases h
      exact v_zret F E (b2i_n true) (dq dkX10_within_0 9 rfl)
def rm_X10_isSection : Room := { frames := 2, cells := 0, slots := 0, locals := 52 }
def f_X10_isSection (a0 : Int32) : Bool := (f_X10_within a0 0 8)
set_option maxRecDepth 100000 in
set_option maxHeartbeats 4000000 in
theorem c_X10_isSection {K : KE} {l : Launch} {M : GM} (a0 : Int32) : MC K l yX10_isSection cX10_isSection 1 (some .boolean) rm_X10_isSection 0 0 [.int a0] M M (some (.int (b2i (f_X10_isSection a0)))) := by
  refine mc_of (ls0 := [(0, .int a0)]) (by decide) (Nat.le_of_ble_eq_true rfl) rfl (fun C hl F E => ?_)
  have F : Fx C RX10 cX10_isSection 1 rm_X10_isSection K := F
  obtain ⟨R, h⟩ : ∃ R, f_X10_isSection a0 = R := ⟨_, rfl⟩
  rw [h] at E
  unfold f_X10_isSection at h
  refine v_iload_n F (dq dkX10_isSection_0 0 rfl) rfl 0 rfl ?_
  refine v_iconst F (v := 0) (dq dkX10_isSection_0 1 rfl) ki_0 ?_
  refine v_bipush F (v := 8) (dq dkX10_isSection_0 2 rfl) kb_8 ?_
  refine v_callS F (as := [.int a0, .int 0, .int 8]) (st := []) (st1 := (.int (b2i (f_X10_within a0 0 8)) :: [])) (res := (some (.int (b2i (f_X10_within a0 0 8))))) (c_X10_within (l := C.2.1) a0 0 8) (tc14 _ (List.mem_of_getElem? (i := 3) rfl)) (tc8 _ (List.mem_of_getElem? (i := 15) rfl)) (tc1 _ (List.mem_of_getElem? (i := 2) rfl)) (tc8 _ (List.mem_of_getElem? (i := 16) rfl)) (by decide) ⟨rfl, rfl, Nat.le_of_ble_eq_true rfl, Nat.le_of_ble_eq_true rfl⟩ ⟨Nat.le_of_ble_eq_true rfl, Nat.le_of_ble_eq_true rfl⟩ rfl (Nat.le_of_ble_eq_true rfl) rfl rfl rfl (dq dkX10_isSection_0 3 rfl) ?_
  cases h
  exact v_zret F E (b2i_n (f_X10_within a0 0 8)) (dq dkX10_isSection_0 4 rfl)
def rm_X8_of : Room := { frames := 3, cells := 0, slots := 0, locals := 72 }
def f_X8_of_27 (t0 : Nat) (x : CS) : Option (Int32) := some 0
set_option maxRecDepth 100000 in
set_option maxHeartbeats 4000000 in
theorem t_X8_of_27 {C : Cx} {K : KE} {y : MS} {R : Int32}  (t0 : Nat) (x : CS) (h : f_X8_of_27 t0 x = some R) (F : Fx C RX8 cX8_of 3 rm_X8_of K) (E : CE C (xf K x y) (some (.int R)) 0 0 (some .int)) : V C 27 [] [] (xf K x y) 0 0 := by
  unfold f_X8_of_27 at h
  refine v_iconst F (v := 0) (dq dkX8_of_0 15 rfl) ki_0 ?_
  cases h
  exact v_iret F E (dq dkX8_of_0 16 rfl)
def f_X8_of (x : CS) (t0 : Nat) (a1 : Int32) (a2 : Int32) : Option (Int32) := gd (kWd t0) (if (b2i (f_X10_within a1 0 5)) = 0 then (f_X8_of_27 t0 x) else (if (b2i (f_X10_isSection a2)) = 0 then (f_X8_of_27 t0 x) else (gd (kWd t0) (gd (kWd t0) (gd (ib a1 6) (gd (ib a2 (al (t0 + 2 + a1.toNatClampNeg))) (some (gi x (t0 + 2 + a1.toNatClampNeg) a2.toNatClampNeg))))))))
set_option maxRecDepth 100000 in
set_option maxHeartbeats 4000000 in
theorem c_X8_of {K : KE} {l : Launch} {R : Int32} (x : CS) (y : MS) (t0 : Nat) (a1 : Int32) (a2 : Int32) (h : f_X8_of x t0 a1 a2 = some R) : MC K l yX8_of cX8_of 3 (some .int) rm_X8_of 0 0 [.ref (K.1 + t0), .int a1, .int a2] (xf K x y) (xf K x y) (some (.int R)) := by
  refine mc_of (ls0 := [(0, .ref (K.1 + t0)), (1, .int a1), (2, .int a2)]) (by decide) (Nat.le_of_ble_eq_true rfl) rfl (fun C hl F E => ?_)
  have F : Fx C RX8 cX8_of 3 rm_X8_of K := F
  unfold f_X8_of at h
  obtain ⟨_, h⟩ := gd_of h
  refine v_iload_n F (dq dkX8_of_0 0 rfl) rfl 1 rfl ?_
  refine v_iconst F (v := 0) (dq dkX8_of_0 1 rfl) ki_0 ?_
  refine v_iconst F (v := 5) (dq dkX8_of_0 2 rfl) ki_5 ?_
  refine v_callSN F (as := [.int a1, .int 0, .int 5]) (st := []) (st1 := (.int (b2i (f_X10_within a1 0 5)) :: [])) (res := (some (.int (b2i (f_X10_within a1 0 5))))) (c_X10_within (l := C.2.1) a1 0 5) (List.mem_of_getElem? (i := 6) rfl) (tc8 _ (List.mem_of_getElem? (i := 15) rfl)) (tc1 _ (List.mem_of_getElem? (i := 2) rfl)) (tc8 _ (List.mem_of_getElem? (i := 16) rfl)) (by decide) ⟨rfl, rfl, Nat.le_of_ble_eq_true rfl, Nat.le_of_ble_eq_true rfl⟩ ⟨Nat.le_of_ble_eq_true rfl, Nat.le_of_ble_eq_true rfl⟩ rfl (Nat.le_of_ble_eq_true rfl) rfl rfl rfl (dq dkX8_of_0 3 rfl) ?_
  refine v_if_eq F (tgt := 27) (dq dkX8_of_0 4 rfl) (by decide) (fun c2 => ?_) (fun c2 => ?_)
  · rw [if_pos c2] at h
    refine v_sub [] rfl ?_
    exact t_X8_of_27 t0 x h F E
  · rw [if_neg c2] at h
    refine v_iload_n F (dq dkX8_of_0 5 rfl) rfl 2 rfl ?_
    refine v_callSN F (as := [.int a2]) (st := []) (st1 := (.int (b2i (f_X10_isSection a2)) :: [])) (res := (some (.int (b2i (f_X10_isSection a2))))) (c_X10_isSection (l := C.2.1) a2) (List.mem_of_getElem? (i := 7) rfl) (tc14 _ (List.mem_of_getElem? (i := 1) rfl)) (tc1 _ (List.mem_of_getElem? (i := 2) rfl)) (tc14 _ (List.mem_of_getElem? (i := 2) rfl)) (by decide) ⟨rfl, rfl, Nat.le_of_ble_eq_true rfl, Nat.le_of_ble_eq_true rfl⟩ ⟨Nat.le_of_ble_eq_true rfl, Nat.le_of_ble_eq_true rfl⟩ rfl (Nat.le_of_ble_eq_true rfl) rfl rfl rfl (dq dkX8_of_0 6 rfl) ?_
    refine v_if_eq F (tgt := 27) (dq dkX8_of_0 7 rfl) (by decide) (fun c4 => ?_) (fun c4 => ?_)
    · rw [if_pos c4] at h
      refine v_sub [] rfl ?_
      exact t_X8_of_27 t0 x h F E
    · rw [if_neg c4] at h
      refine v_aload_n F (dq dkX8_of_0 8 rfl) rfl 0 rfl ?_
      obtain ⟨g5, h⟩ := gd_of h
      refine v_get F t0 (kWd_lt g5) (kWd_at g5) rfl inlX8 0 (by decide) (tc3 _ (List.mem_of_getElem? (i := 4) rfl)) rfl rfl (dq dkX8_of_0 9 rfl) ?_
      refine v_iload_n F (dq dkX8_of_0 10 rfl) rfl 1 rfl ?_
      obtain ⟨g7, h⟩ := gd_of h
      obtain ⟨g6, h⟩ := gd_of h
      refine v_aald F (t0 + 1) (kWd_lt1 g7) (kWd_rw g7) (t := 2) rfl (ib_in g6) (dq dkX8_of_0 11 rfl) ?_
      refine v_iload_n F (dq dkX8_of_0 12 rfl) rfl 2 rfl ?_
      obtain ⟨g8, h⟩ := gd_of h
      refine v_iald F (t0 + 2 + a1.toNatClampNeg) (xa_lt g8) (xa_at g8) (ib_in g8) (dq dkX8_of_0 13 rfl) ?_
      refine v_goto F (tgt := 28) (dq dkX8_of_0 14 rfl) (by decide) ?_
      cases h
      exact v_iret F E (dq dkX8_of_0 16 rfl)
theorem f_X8_of_k {R : Int32} {x : CS} {t0 : Nat} {a1 : Int32} {a2 : Int32} (h : f_X8_of x t0 a1 a2 = some R) : kWd t0 = true := by
  unfold f_X8_of at h
  exact (gd_of h).1
def rm_X8_put : Room := { frames := 3, cells := 0, slots := 0, locals := 72 }
def f_X8_put (x : CS) (t0 : Nat) (a1 : Int32) (a2 : Int32) (a3 : Int32) : Option (CS) := gd (kWd t0) (if (b2i (f_X10_within a1 0 5)) = 0 then (some x) else (if (b2i (f_X10_isSection a2)) = 0 then (some x) else (gd (kWd t0) (gd (kWd t0) (gd (ib a1 6) (gd (ib a2 (al (t0 + 2 + a1.toNatClampNeg))) (some (pi x (t0 + 2 + a1.toNatClampNeg) a2.toNatClampNeg a3))))))))
set_option maxRecDepth 100000 in
set_option maxHeartbeats 4000000 in
theorem c_X8_put {K : KE} {l : Launch} {R : CS} (x : CS) (y : MS) (t0 : Nat) (a1 : Int32) (a2 : Int32) (a3 : Int32) (h : f_X8_put x t0 a1 a2 a3 = some R) : MC K l yX8_put cX8_put 4 none rm_X8_put 0 0 [.ref (K.1 + t0), .int a1, .int a2, .int a3] (xf K x y) (xf K R y) none := by
  refine mc_of (ls0 := [(0, .ref (K.1 + t0)), (1, .int a1), (2, .int a2), (3, .int a3)]) (by decide) (Nat.le_of_ble_eq_true rfl) rfl (fun C hl F E => ?_)
  have F : Fx C RX8 cX8_put 4 rm_X8_put K := F
  unfold f_X8_put at h
  obtain ⟨_, h⟩ := gd_of h
  refine v_iload_n F (dq dkX8_put_0 0 rfl) rfl 1 rfl ?_
  refine v_iconst F (v := 0) (dq dkX8_put_0 1 rfl) ki_0 ?_
  refine v_iconst F (v := 5) (dq dkX8_put_0 2 rfl) ki_5 ?_
  refine v_callSN F (as := [.int a1, .int 0, .int 5]) (st := []) (st1 := (.int (b2i (f_X10_within a1 0 5)) :: [])) (res := (some (.int (b2i (f_X10_within a1 0 5))))) (c_X10_within (l := C.2.1) a1 0 5) (List.mem_of_getElem? (i := 6) rfl) (tc8 _ (List.mem_of_getElem? (i := 15) rfl)) (tc1 _ (List.mem_of_getElem? (i := 2) rfl)) (tc8 _ (List.mem_of_getElem? (i := 16) rfl)) (by decide) ⟨rfl, rfl, Nat.le_of_ble_eq_true rfl, Nat.le_of_ble_eq_true rfl⟩ ⟨Nat.le_of_ble_eq_true rfl, Nat.le_of_ble_eq_true rfl⟩ rfl (Nat.le_of_ble_eq_true rfl) rfl rfl rfl (dq dkX8_put_0 3 rfl) ?_
  refine v_if_eq F (tgt := 25) (dq dkX8_put_0 4 rfl) (by decide) (fun c2 => ?_) (fun c2 => ?_)
  · rw [if_pos c2] at h
    cases h
    exact v_vret F E (dq dkX8_put_0 15 rfl)
  · rw [if_neg c2] at h
    refine v_iload_n F (dq dkX8_put_0 5 rfl) rfl 2 rfl ?_
    refine v_callSN F (as := [.int a2]) (st := []) (st1 := (.int (b2i (f_X10_isSection a2)) :: [])) (res := (some (.int (b2i (f_X10_isSection a2))))) (c_X10_isSection (l := C.2.1) a2) (List.mem_of_getElem? (i := 7) rfl) (tc14 _ (List.mem_of_getElem? (i := 1) rfl)) (tc1 _ (List.mem_of_getElem? (i := 2) rfl)) (tc14 _ (List.mem_of_getElem? (i := 2) rfl)) (by decide) ⟨rfl, rfl, Nat.le_of_ble_eq_true rfl, Nat.le_of_ble_eq_true rfl⟩ ⟨Nat.le_of_ble_eq_true rfl, Nat.le_of_ble_eq_true rfl⟩ rfl (Nat.le_of_ble_eq_true rfl) rfl rfl rfl (dq dkX8_put_0 6 rfl) ?_
    refine v_if_eq F (tgt := 25) (dq dkX8_put_0 7 rfl) (by decide) (fun c4 => ?_) (fun c4 => ?_)
    · rw [if_pos c4] at h
      cases h
      exact v_vret F E (dq dkX8_put_0 15 rfl)
    · rw [if_neg c4] at h
      refine v_aload_n F (dq dkX8_put_0 8 rfl) rfl 0 rfl ?_
      obtain ⟨g5, h⟩ := gd_of h
      refine v_get F t0 (kWd_lt g5) (kWd_at g5) rfl inlX8 0 (by decide) (tc3 _ (List.mem_of_getElem? (i := 4) rfl)) rfl rfl (dq dkX8_put_0 9 rfl) ?_
      refine v_iload_n F (dq dkX8_put_0 10 rfl) rfl 1 rfl ?_
      obtain ⟨g7, h⟩ := gd_of h
      obtain ⟨g6, h⟩ := gd_of h
      refine v_aald F (t0 + 1) (kWd_lt1 g7) (kWd_rw g7) (t := 2) rfl (ib_in g6) (dq dkX8_put_0 11 rfl) ?_
      refine v_iload_n F (dq dkX8_put_0 12 rfl) rfl 2 rfl ?_
      refine v_iload_n F (dq dkX8_put_0 13 rfl) rfl 3 rfl ?_
      obtain ⟨g8, h⟩ := gd_of h
      refine v_iast F (t0 + 2 + a1.toNatClampNeg) (xa_lt g8) (xa_at g8) (ib_in g8) (dq dkX8_put_0 14 rfl) ?_
      refine v_eqM (xwC (q := (t0 + 2 + a1.toNatClampNeg)) (j := a2.toNatClampNeg) (v := a3) (xa_lc g8) (xa_e g8)) ?_
      cases h
      exact v_vret F E (dq dkX8_put_0 15 rfl)
theorem f_X8_put_k {R : CS} {x : CS} {t0 : Nat} {a1 : Int32} {a2 : Int32} {a3 : Int32} (h : f_X8_put x t0 a1 a2 a3 = some R) : kWd t0 = true := by
  unfold f_X8_put at h
  exact (gd_of h).1
def rm_X8_setting : Room := { frames := 2, cells := 0, slots := 0, locals := 52 }
def f_X8_setting (x : CS) (t0 : Nat) (a1 : Int32) : Option (Int32) := gd (kWd t0) (if (b2i (f_X10_within a1 0 4)) = 0 then (some 0) else (gd (kWd t0) (gd (ib a1 (al (t0 + 8))) (some (gi x (t0 + 8) a1.toNatClampNeg)))))
set_option maxRecDepth 100000 in
set_option maxHeartbeats 4000000 in
theorem c_X8_setting {K : KE} {l : Launch} {R : Int32} (x : CS) (y : MS) (t0 : Nat) (a1 : Int32) (h : f_X8_setting x t0 a1 = some R) : MC K l yX8_setting cX8_setting 2 (some .int) rm_X8_setting 0 0 [.ref (K.1 + t0), .int a1] (xf K x y) (xf K x y) (some (.int R)) := by
  refine mc_of (ls0 := [(0, .ref (K.1 + t0)), (1, .int a1)]) (by decide) (Nat.le_of_ble_eq_true rfl) rfl (fun C hl F E => ?_)
  have F : Fx C RX8 cX8_setting 2 rm_X8_setting K := F
  unfold f_X8_setting at h
  obtain ⟨_, h⟩ := gd_of h
  refine v_iload_n F (dq dkX8_setting_0 0 rfl) rfl 1 rfl ?_
  refine v_iconst F (v := 0) (dq dkX8_setting_0 1 rfl) ki_0 ?_
  refine v_iconst F (v := 4) (dq dkX8_setting_0 2 rfl) ki_4 ?_
  refine v_callSN F (as := [.int a1, .int 0, .int 4]) (st := []) (st1 := (.int (b2i (f_X10_within a1 0 4)) :: [])) (res := (some (.int (b2i (f_X10_within a1 0 4))))) (c_X10_within (l := C.2.1) a1 0 4) (List.mem_of_getElem? (i := 6) rfl) (tc8 _ (List.mem_of_getElem? (i := 15) rfl)) (tc1 _ (List.mem_of_getElem? (i := 2) rfl)) (tc8 _ (List.mem_of_getElem? (i := 16) rfl)) (by decide) ⟨rfl, rfl, Nat.le_of_ble_eq_true rfl, Nat.le_of_ble_eq_true rfl⟩ ⟨Nat.le_of_ble_eq_true rfl, Nat.le_of_ble_eq_true rfl⟩ rfl (Nat.le_of_ble_eq_true rfl) rfl rfl rfl (dq dkX8_setting_0 3 rfl) ?_
  refine v_if_eq F (tgt := 18) (dq dkX8_setting_0 4 rfl) (by decide) (fun c2 => ?_) (fun c2 => ?_)
  · rw [if_pos c2] at h
    refine v_iconst F (v := 0) (dq dkX8_setting_0 10 rfl) ki_0 ?_
    cases h
    exact v_iret F E (dq dkX8_setting_0 11 rfl)
  · rw [if_neg c2] at h
    refine v_aload_n F (dq dkX8_setting_0 5 rfl) rfl 0 rfl ?_
    obtain ⟨g3, h⟩ := gd_of h
    refine v_get F t0 (kWd_lt g3) (kWd_at g3) rfl inlX8 1 (by decide) (tc3 _ (List.mem_of_getElem? (i := 5) rfl)) rfl rfl (dq dkX8_setting_0 6 rfl) ?_
    refine v_iload_n F (dq dkX8_setting_0 7 rfl) rfl 1 rfl ?_
    obtain ⟨g4, h⟩ := gd_of h
    refine v_iald F (t0 + 8) (xa_lt g4) (xa_at g4) (ib_in g4) (dq dkX8_setting_0 8 rfl) ?_
    refine v_goto F (tgt := 19) (dq dkX8_setting_0 9 rfl) (by decide) ?_
    cases h
    exact v_iret F E (dq dkX8_setting_0 11 rfl)
theorem f_X8_setting_k {R : Int32} {x : CS} {t0 : Nat} {a1 : Int32} (h : f_X8_setting x t0 a1 = some R) : kWd t0 = true := by
  unfold f_X8_setting at h
  exact (gd_of h).1
def rm_X8_putSetting : Room := { frames := 2, cells := 0, slots := 0, locals := 52 }
def f_X8_putSetting (x : CS) (t0 : Nat) (a1 : Int32) (a2 : Int32) : Option (CS) := gd (kWd t0) (if (b2i (f_X10_within a1 0 4)) = 0 then (some x) else (gd (kWd t0) (gd (ib a1 (al (t0 + 8))) (some (pi x (t0 + 8) a1.toNatClampNeg a2)))))
set_option maxRecDepth 100000 in
set_option maxHeartbeats 4000000 in
theorem c_X8_putSetting {K : KE} {l : Launch} {R : CS} (x : CS) (y : MS) (t0 : Nat) (a1 : Int32) (a2 : Int32) (h : f_X8_putSetting x t0 a1 a2 = some R) : MC K l yX8_putSetting cX8_putSetting 3 none rm_X8_putSetting 0 0 [.ref (K.1 + t0), .int a1, .int a2] (xf K x y) (xf K R y) none := by
  refine mc_of (ls0 := [(0, .ref (K.1 + t0)), (1, .int a1), (2, .int a2)]) (by decide) (Nat.le_of_ble_eq_true rfl) rfl (fun C hl F E => ?_)
  have F : Fx C RX8 cX8_putSetting 3 rm_X8_putSetting K := F
  unfold f_X8_putSetting at h
  obtain ⟨_, h⟩ := gd_of h
  refine v_iload_n F (dq dkX8_putSetting_0 0 rfl) rfl 1 rfl ?_
  refine v_iconst F (v := 0) (dq dkX8_putSetting_0 1 rfl) ki_0 ?_
  refine v_iconst F (v := 4) (dq dkX8_putSetting_0 2 rfl) ki_4 ?_
  refine v_callSN F (as := [.int a1, .int 0, .int 4]) (st := []) (st1 := (.int (b2i (f_X10_within a1 0 4)) :: [])) (res := (some (.int (b2i (f_X10_within a1 0 4))))) (c_X10_within (l := C.2.1) a1 0 4) (List.mem_of_getElem? (i := 6) rfl) (tc8 _ (List.mem_of_getElem? (i := 15) rfl)) (tc1 _ (List.mem_of_getElem? (i := 2) rfl)) (tc8 _ (List.mem_of_getElem? (i := 16) rfl)) (by decide) ⟨rfl, rfl, Nat.le_of_ble_eq_true rfl, Nat.le_of_ble_eq_true rfl⟩ ⟨Nat.le_of_ble_eq_true rfl, Nat.le_of_ble_eq_true rfl⟩ rfl (Nat.le_of_ble_eq_true rfl) rfl rfl rfl (dq dkX8_putSetting_0 3 rfl) ?_
  refine v_if_eq F (tgt := 16) (dq dkX8_putSetting_0 4 rfl) (by decide) (fun c2 => ?_) (fun c2 => ?_)
  · rw [if_pos c2] at h
    cases h
    exact v_vret F E (dq dkX8_putSetting_0 10 rfl)
  · rw [if_neg c2] at h
    refine v_aload_n F (dq dkX8_putSetting_0 5 rfl) rfl 0 rfl ?_
    obtain ⟨g3, h⟩ := gd_of h
    refine v_get F t0 (kWd_lt g3) (kWd_at g3) rfl inlX8 1 (by decide) (tc3 _ (List.mem_of_getElem? (i := 5) rfl)) rfl rfl (dq dkX8_putSetting_0 6 rfl) ?_
    refine v_iload_n F (dq dkX8_putSetting_0 7 rfl) rfl 1 rfl ?_
    refine v_iload_n F (dq dkX8_putSetting_0 8 rfl) rfl 2 rfl ?_
    obtain ⟨g4, h⟩ := gd_of h
    refine v_iast F (t0 + 8) (xa_lt g4) (xa_at g4) (ib_in g4) (dq dkX8_putSetting_0 9 rfl) ?_
    refine v_eqM (xwC (q := (t0 + 8)) (j := a1.toNatClampNeg) (v := a2) (xa_lc g4) (xa_e g4)) ?_
    cases h
    exact v_vret F E (dq dkX8_putSetting_0 10 rfl)
theorem f_X8_putSetting_k {R : CS} {x : CS} {t0 : Nat} {a1 : Int32} {a2 : Int32} (h : f_X8_putSetting x t0 a1 a2 = some R) : kWd t0 = true := by
  unfold f_X8_putSetting at h
  exact (gd_of h).1
def rm_X8_become : Room := { frames := 1, cells := 0, slots := 0, locals := 30 }
def f_X8_become_45 (t0 : Nat) : Nat → CS → Nat → Int32 → Option (CS)
  | 0, _, _, _ => none
  | n + 1, x, a1, a2 => if 4 < a2 then (gd (kWd a1) (gd (kWd t0) (some (pi x t0 2 (gi x a1 2))))) else (gd (kWd t0) (gd (kWd a1) (gd (ib a2 (al (a1 + 8))) (gd (ib a2 (al (t0 + 8))) ((f_X8_become_45 t0 n) (pi x (t0 + 8) a2.toNatClampNeg (gi x (a1 + 8) a2.toNatClampNeg)) a1 (a2 + 1))))))
set_option maxRecDepth 100000 in
set_option maxHeartbeats 4000000 in
theorem t_X8_become_45 {C : Cx} {K : KE} {y : MS} {R : CS}  (t0 : Nat) (F : Fx C RX8 cX8_become 4 rm_X8_become K) (E : CE C (xf K R y) none 0 0 none) : ∀ (n : Nat) (x : CS) (a1 : Nat) (a2 : Int32) (h : f_X8_become_45 t0 n x a1 a2 = some R), V C 45 [(0, .ref (K.1 + t0)), (1, .ref (K.1 + a1)), (2, .int a2)] [] (xf K x y) 0 0 := by
  intro n
  induction n with
  | zero => intro x a1 a2 h; cases h
  | succ n ih =>
    intro x a1 a2 h
    rw [f_X8_become_45] at h
    refine v_iload_n F (dq dkX8_become_0 28 rfl) rfl 2 rfl ?_
    refine v_iconst F (v := 4) (dq dkX8_become_0 29 rfl) ki_4 ?_
    refine v_icmp_gt F (tgt := 68) (dq dkX8_become_0 30 rfl) (by decide) (fun c1 => ?_) (fun c1 => ?_)
    · rw [if_pos c1] at h
      refine v_aload_n F (dq dkX8_become_1 1 rfl) rfl 0 rfl ?_
      refine v_aload_n F (dq dkX8_become_1 2 rfl) rfl 1 rfl ?_
      obtain ⟨g2, h⟩ := gd_of h
      refine v_get F a1 (kWd_lt g2) (kWd_at g2) rfl inlX8 2 (by decide) (tc3 _ (List.mem_of_getElem? (i := 6) rfl)) rfl rfl (dq dkX8_become_1 3 rfl) ?_
      obtain ⟨g3, h⟩ := gd_of h
      refine v_put F t0 (kWd_lt g3) (kWd_at g3) rfl inlX8 tyX8_ok nmX8 2 (by decide) (tc3 _ (List.mem_of_getElem? (i := 6) rfl)) rfl rfl (tyX8_ok 2 (by decide)) rfl rfl (by decide) (dq dkX8_become_1 4 rfl) ?_
      refine v_eqM (kWd_w2 g3) ?_
      cases h
      exact v_vret F E (dq dkX8_become_1 5 rfl)
    · rw [if_neg c1] at h
      refine v_aload_n F (dq dkX8_become_0 31 rfl) rfl 0 rfl ?_
      obtain ⟨g4, h⟩ := gd_of h
      refine v_get F t0 (kWd_lt g4) (kWd_at g4) rfl inlX8 1 (by decide) (tc3 _ (List.mem_of_getElem? (i := 5) rfl)) rfl rfl (dq dkX8_become_0 32 rfl) ?_
      refine v_iload_n F (dq dkX8_become_0 33 rfl) rfl 2 rfl ?_
      refine v_aload_n F (dq dkX8_become_0 34 rfl) rfl 1 rfl ?_
      obtain ⟨g5, h⟩ := gd_of h
      refine v_get F a1 (kWd_lt g5) (kWd_at g5) rfl inlX8 1 (by decide) (tc3 _ (List.mem_of_getElem? (i := 5) rfl)) rfl rfl (dq dkX8_become_0 35 rfl) ?_
      refine v_iload_n F (dq dkX8_become_0 36 rfl) rfl 2 rfl ?_
      obtain ⟨g6, h⟩ := gd_of h
      refine v_iald F (a1 + 8) (xa_lt g6) (xa_at g6) (ib_in g6) (dq dkX8_become_0 37 rfl) ?_
      obtain ⟨g7, h⟩ := gd_of h
      refine v_iast F (t0 + 8) (xa_lt g7) (xa_at g7) (ib_in g7) (dq dkX8_become_0 38 rfl) ?_
      refine v_eqM (xwC (q := (t0 + 8)) (j := a2.toNatClampNeg) (v := gi x (a1 + 8) a2.toNatClampNeg) (xa_lc g7) (xa_e g7)) ?_
      refine v_iinc F (v := a2 + 1) (ls' := [(2, .int (a2 + 1)), (0, .ref (K.1 + t0)), (1, .ref (K.1 + a1))]) (dq dkX8_become_0 39 rfl) (j := 2) rfl (kv_add ki_1) (by decide) rfl ?_
      refine v_goto F (tgt := 45) (dq dkX8_become_1 0 rfl) (by decide) ?_
      refine v_sub [1, 2, 0] rfl ?_
      exact ih (pi x (t0 + 8) a2.toNatClampNeg (gi x (a1 + 8) a2.toNatClampNeg)) a1 (a2 + 1) h
def f_X8_become_9 (k2 : CS → Nat → Int32 → Option (CS)) (t0 : Nat) : Nat → CS → Nat → Int32 → Int32 → Option (CS)
  | 0, _, _, _, _ => none
  | n + 1, x, a1, a2, a3 => if 9 ≤ a3 then (k2 x a1 (a2 + 1)) else (gd (kWd t0) (gd (kWd t0) (gd (ib a2 6) (gd (kWd a1) (gd (kWd a1) (gd (ib a2 6) (gd (ib a3 (al (a1 + 2 + a2.toNatClampNeg))) (gd (ib a3 (al (t0 + 2 + a2.toNatClampNeg))) ((f_X8_become_9 k2 t0 n) (pi x (t0 + 2 + a2.toNatClampNeg) a3.toNatClampNeg (gi x (a1 + 2 + a2.toNatClampNeg) a3.toNatClampNeg)) a1 a2 (a3 + 1))))))))))
set_option maxRecDepth 100000 in
set_option maxHeartbeats 4000000 in
theorem t_X8_become_9 {C : Cx} {K : KE} {y : MS} {R : CS}  (k2 : CS → Nat → Int32 → Option (CS)) (t0 : Nat) (hk2 : ∀ (x : CS) (a1 : Nat) (a2 : Int32), k2 x a1 a2 = some R → V C 2 [(0, .ref (K.1 + t0)), (1, .ref (K.1 + a1)), (2, .int a2)] [] (xf K x y) 0 0) (F : Fx C RX8 cX8_become 4 rm_X8_become K) (E : CE C (xf K R y) none 0 0 none) : ∀ (n : Nat) (x : CS) (a1 : Nat) (a2 : Int32) (a3 : Int32) (h : f_X8_become_9 k2 t0 n x a1 a2 a3 = some R), V C 9 [(0, .ref (K.1 + t0)), (1, .ref (K.1 + a1)), (2, .int a2), (3, .int a3)] [] (xf K x y) 0 0 := by
  intro n
  induction n with
  | zero => intro x a1 a2 a3 h; cases h
  | succ n ih =>
    intro x a1 a2 a3 h
    rw [f_X8_become_9] at h
    refine v_iload_n F (dq dkX8_become_0 7 rfl) rfl 3 rfl ?_
    refine v_bipush F (v := 9) (dq dkX8_become_0 8 rfl) kb_9 ?_
    refine v_icmp_ge F (tgt := 37) (dq dkX8_become_0 9 rfl) (by decide) (fun c8 => ?_) (fun c8 => ?_)
    · rw [if_pos c8] at h
      refine v_iinc F (v := a2 + 1) (ls' := [(2, .int (a2 + 1)), (0, .ref (K.1 + t0)), (1, .ref (K.1 + a1)), (3, .int a3)]) (dq dkX8_become_0 24 rfl) (j := 2) rfl (kv_add ki_1) (by decide) rfl ?_
      refine v_goto F (tgt := 2) (dq dkX8_become_0 25 rfl) (by decide) ?_
      refine v_sub [1, 2, 0] rfl ?_
      exact hk2 x a1 (a2 + 1) h
    · rw [if_neg c8] at h
      refine v_aload_n F (dq dkX8_become_0 10 rfl) rfl 0 rfl ?_
      obtain ⟨g9, h⟩ := gd_of h
      refine v_get F t0 (kWd_lt g9) (kWd_at g9) rfl inlX8 0 (by decide) (tc3 _ (List.mem_of_getElem? (i := 4) rfl)) rfl rfl (dq dkX8_become_0 11 rfl) ?_
      refine v_iload_n F (dq dkX8_become_0 12 rfl) rfl 2 rfl ?_
      obtain ⟨g11, h⟩ := gd_of h
      obtain ⟨g10, h⟩ := gd_of h
      refine v_aald F (t0 + 1) (kWd_lt1 g11) (kWd_rw g11) (t := 2) rfl (ib_in g10) (dq dkX8_become_0 13 rfl) ?_
      refine v_iload_n F (dq dkX8_become_0 14 rfl) rfl 3 rfl ?_
      refine v_aload_n F (dq dkX8_become_0 15 rfl) rfl 1 rfl ?_
      obtain ⟨g12, h⟩ := gd_of h
      refine v_get F a1 (kWd_lt g12) (kWd_at g12) rfl inlX8 0 (by decide) (tc3 _ (List.mem_of_getElem? (i := 4) rfl)) rfl rfl (dq dkX8_become_0 16 rfl) ?_
      refine v_iload_n F (dq dkX8_become_0 17 rfl) rfl 2 rfl ?_
      obtain ⟨g14, h⟩ := gd_of h
      obtain ⟨g13, h⟩ := gd_of h
      refine v_aald F (a1 + 1) (kWd_lt1 g14) (kWd_rw g14) (t := 2) rfl (ib_in g13) (dq dkX8_become_0 18 rfl) ?_
      refine v_iload_n F (dq dkX8_become_0 19 rfl) rfl 3 rfl ?_
      obtain ⟨g15, h⟩ := gd_of h
      refine v_iald F (a1 + 2 + a2.toNatClampNeg) (xa_lt g15) (xa_at g15) (ib_in g15) (dq dkX8_become_0 20 rfl) ?_
      obtain ⟨g16, h⟩ := gd_of h
      refine v_iast F (t0 + 2 + a2.toNatClampNeg) (xa_lt g16) (xa_at g16) (ib_in g16) (dq dkX8_become_0 21 rfl) ?_
      refine v_eqM (xwC (q := (t0 + 2 + a2.toNatClampNeg)) (j := a3.toNatClampNeg) (v := gi x (a1 + 2 + a2.toNatClampNeg) a3.toNatClampNeg) (xa_lc g16) (xa_e g16)) ?_
      refine v_iinc F (v := a3 + 1) (ls' := [(3, .int (a3 + 1)), (0, .ref (K.1 + t0)), (1, .ref (K.1 + a1)), (2, .int a2)]) (dq dkX8_become_0 22 rfl) (j := 3) rfl (kv_add ki_1) (by decide) rfl ?_
      refine v_goto F (tgt := 9) (dq dkX8_become_0 23 rfl) (by decide) ?_
      refine v_sub [1, 2, 3, 0] rfl ?_
      exact ih (pi x (t0 + 2 + a2.toNatClampNeg) a3.toNatClampNeg (gi x (a1 + 2 + a2.toNatClampNeg) a3.toNatClampNeg)) a1 a2 (a3 + 1) h
def f_X8_become_2 (t0 : Nat) : Nat → CS → Nat → Int32 → Option (CS)
  | 0, _, _, _ => none
  | n + 1, x, a1, a2 => if 5 < a2 then (f_X8_become_45 t0 1000 x a1 0) else (f_X8_become_9 (f_X8_become_2 t0 n) t0 1000 x a1 a2 0)
set_option maxRecDepth 100000 in
set_option maxHeartbeats 4000000 in
theorem t_X8_become_2 {C : Cx} {K : KE} {y : MS} {R : CS}  (t0 : Nat) (F : Fx C RX8 cX8_become 4 rm_X8_become K) (E : CE C (xf K R y) none 0 0 none) : ∀ (n : Nat) (x : CS) (a1 : Nat) (a2 : Int32) (h : f_X8_become_2 t0 n x a1 a2 = some R), V C 2 [(0, .ref (K.1 + t0)), (1, .ref (K.1 + a1)), (2, .int a2)] [] (xf K x y) 0 0 := by
  intro n
  induction n with
  | zero => intro x a1 a2 h; cases h
  | succ n ih =>
    intro x a1 a2 h
    rw [f_X8_become_2] at h
    refine v_iload_n F (dq dkX8_become_0 2 rfl) rfl 2 rfl ?_
    refine v_iconst F (v := 5) (dq dkX8_become_0 3 rfl) ki_5 ?_
    refine v_icmp_gt F (tgt := 43) (dq dkX8_become_0 4 rfl) (by decide) (fun c17 => ?_) (fun c17 => ?_)
    · rw [if_pos c17] at h
      refine v_iconst F (v := 0) (dq dkX8_become_0 26 rfl) ki_0 ?_
      refine v_istore_n F (ls' := [(2, .int 0), (0, .ref (K.1 + t0)), (1, .ref (K.1 + a1))]) (dq dkX8_become_0 27 rfl) rfl (by decide) rfl ?_
      refine v_sub [1, 2, 0] rfl ?_
      exact t_X8_become_45 t0 F E 1000 x a1 0 h
    · rw [if_neg c17] at h
      refine v_iconst F (v := 0) (dq dkX8_become_0 5 rfl) ki_0 ?_
      refine v_istore_n F (ls' := [(3, .int 0), (0, .ref (K.1 + t0)), (1, .ref (K.1 + a1)), (2, .int a2)]) (dq dkX8_become_0 6 rfl) rfl (by decide) rfl ?_
      refine v_sub [1, 2, 3, 0] rfl ?_
      exact t_X8_become_9 (f_X8_become_2 t0 n) t0 ih F E 1000 x a1 a2 0 h
def f_X8_become (x : CS) (t0 : Nat) (a1 : Nat) : Option (CS) := gd (kWd t0) (gd (kWd a1) (f_X8_become_2 t0 1000 x a1 0))
set_option maxRecDepth 100000 in
set_option maxHeartbeats 4000000 in
theorem c_X8_become {K : KE} {l : Launch} {R : CS} (x : CS) (y : MS) (t0 : Nat) (a1 : Nat) (h : f_X8_become x t0 a1 = some R) : MC K l yX8_become cX8_become 4 none rm_X8_become 0 0 [.ref (K.1 + t0), .ref (K.1 + a1)] (xf K x y) (xf K R y) none := by
  refine mc_of (ls0 := [(0, .ref (K.1 + t0)), (1, .ref (K.1 + a1))]) (by decide) (Nat.le_of_ble_eq_true rfl) rfl (fun C hl F E => ?_)
  have F : Fx C RX8 cX8_become 4 rm_X8_become K := F
  unfold f_X8_become at h
  obtain ⟨_, h⟩ := gd_of h
  obtain ⟨_, h⟩ := gd_of h
  refine v_iconst F (v := 0) (dq dkX8_become_0 0 rfl) ki_0 ?_
  refine v_istore_n F (ls' := [(2, .int 0), (0, .ref (K.1 + t0)), (1, .ref (K.1 + a1))]) (dq dkX8_become_0 1 rfl) rfl (by decide) rfl ?_
  refine v_sub [1, 2, 0] rfl ?_
  exact t_X8_become_2 t0 F E 1000 x a1 0 h
theorem f_X8_become_k {R : CS} {x : CS} {t0 : Nat} {a1 : Nat} (h : f_X8_become x t0 a1 = some R) : kWd t0 = true := by
  unfold f_X8_become at h
  exact (gd_of h).1
def rm_X4_has : Room := { frames := 1, cells := 0, slots := 0, locals := 30 }
def f_X4_has_22 (t0 : Nat) (x : CS) : Option (Bool) := some false
set_option maxRecDepth 100000 in
set_option maxHeartbeats 4000000 in
theorem t_X4_has_22 {C : Cx} {K : KE} {y : MS} {R : Bool}  (t0 : Nat) (x : CS) (h : f_X4_has_22 t0 x = some R) (F : Fx C RX4 cX4_has 2 rm_X4_has K) (E : CE C (xf K x y) (some (.int (b2i R))) 0 0 (some .boolean)) : V C 22 [] [] (xf K x y) 0 0 := by
  unfold f_X4_has_22 at h
  refine v_iconst F (v := 0) (dq dkX4_has_0 11 rfl) ki_0 ?_
  cases h
  exact v_zret F E (b2i_n false) (dq dkX4_has_0 12 rfl)
def f_X4_has (x : CS) (t0 : Nat) (a1 : Int32) : Option (Bool) := gd (kSh t0) (if a1 < 0 then (f_X4_has_22 t0 x) else (gd (kSh t0) (if (gi x t0 2) ≤ a1 then (f_X4_has_22 t0 x) else (if 40 ≤ a1 then (f_X4_has_22 t0 x) else (some true)))))
set_option maxRecDepth 100000 in
set_option maxHeartbeats 4000000 in
theorem c_X4_has {K : KE} {l : Launch} {R : Bool} (x : CS) (y : MS) (t0 : Nat) (a1 : Int32) (h : f_X4_has x t0 a1 = some R) : MC K l yX4_has cX4_has 2 (some .boolean) rm_X4_has 0 0 [.ref (K.1 + t0), .int a1] (xf K x y) (xf K x y) (some (.int (b2i R))) := by
  refine mc_of (ls0 := [(0, .ref (K.1 + t0)), (1, .int a1)]) (by decide) (Nat.le_of_ble_eq_true rfl) rfl (fun C hl F E => ?_)
  have F : Fx C RX4 cX4_has 2 rm_X4_has K := F
  unfold f_X4_has at h
  obtain ⟨_, h⟩ := gd_of h
  refine v_iload_n F (dq dkX4_has_0 0 rfl) rfl 1 rfl ?_
  refine v_if_lt F (tgt := 22) (dq dkX4_has_0 1 rfl) (by decide) (fun c1 => ?_) (fun c1 => ?_)
  · rw [if_pos c1] at h
    refine v_sub [] rfl ?_
    exact t_X4_has_22 t0 x h F E
  · rw [if_neg c1] at h
    refine v_iload_n F (dq dkX4_has_0 2 rfl) rfl 1 rfl ?_
    refine v_aload_n F (dq dkX4_has_0 3 rfl) rfl 0 rfl ?_
    obtain ⟨g2, h⟩ := gd_of h
    refine v_get F t0 (kSh_lt g2) (kSh_at g2) rfl inlX4 2 (by decide) (tc5 _ (List.mem_of_getElem? (i := 18) rfl)) rfl rfl (dq dkX4_has_0 4 rfl) ?_
    refine v_icmp_ge F (tgt := 22) (dq dkX4_has_0 5 rfl) (by decide) (fun c3 => ?_) (fun c3 => ?_)
    · rw [if_pos c3] at h
      refine v_sub [] rfl ?_
      exact t_X4_has_22 t0 x h F E
    · rw [if_neg c3] at h
      refine v_iload_n F (dq dkX4_has_0 6 rfl) rfl 1 rfl ?_
      refine v_bipush F (v := 40) (dq dkX4_has_0 7 rfl) kb_40 ?_
      refine v_icmp_ge F (tgt := 22) (dq dkX4_has_0 8 rfl) (by decide) (fun c4 => ?_) (fun c4 => ?_)
      · rw [if_pos c4] at h
        refine v_sub [] rfl ?_
        exact t_X4_has_22 t0 x h F E
      · rw [if_neg c4] at h
        refine v_iconst F (v := 1) (dq dkX4_has_0 9 rfl) ki_1 ?_
        refine v_goto F (tgt := 23) (dq dkX4_has_0 10 rfl) (by decide) ?_
        cases h
        exact v_zret F E (b2i_n true) (dq dkX4_has_0 12 rfl)
theorem f_X4_has_k {R : Bool} {x : CS} {t0 : Nat} {a1 : Int32} (h : f_X4_has x t0 a1 = some R) : kSh t0 = true := by
  unfold f_X4_has at h
  exact (gd_of h).1
def rm_X4_at : Room := { frames := 2, cells := 0, slots := 0, locals := 51 }
def f_X4_at (x : CS) (t0 : Nat) (a1 : Int32) : Option (Int32) := gd (kSh t0) ((f_X4_has x t0 a1).bind fun r1 => if (b2i r1) = 0 then (some 0) else (gd (kSh t0) (gd (ib a1 (al (t0 + 1))) (some (gi x (t0 + 1) a1.toNatClampNeg)))))
set_option maxRecDepth 100000 in
set_option maxHeartbeats 4000000 in
theorem c_X4_at {K : KE} {l : Launch} {R : Int32} (x : CS) (y : MS) (t0 : Nat) (a1 : Int32) (h : f_X4_at x t0 a1 = some R) : MC K l yX4_at cX4_at 2 (some .int) rm_X4_at 0 0 [.ref (K.1 + t0), .int a1] (xf K x y) (xf K x y) (some (.int R)) := by
  refine mc_of (ls0 := [(0, .ref (K.1 + t0)), (1, .int a1)]) (by decide) (Nat.le_of_ble_eq_true rfl) rfl (fun C hl F E => ?_)
  have F : Fx C RX4 cX4_at 2 rm_X4_at K := F
  unfold f_X4_at at h
  obtain ⟨_, h⟩ := gd_of h
  refine v_aload_n F (dq dkX4_at_0 0 rfl) rfl 0 rfl ?_
  refine v_iload_n F (dq dkX4_at_0 1 rfl) rfl 1 rfl ?_
  obtain ⟨r1, e2, h⟩ := bd_of h
  beta_reduce at h
  refine v_callV F (q := t0) (as := [.int a1]) (st := []) (st1 := (.int (b2i r1) :: [])) (res := (some (.int (b2i r1)))) (c_X4_has (l := C.2.1) x y t0 a1 e2) (kSh_lt (f_X4_has_k e2)) (kSh_at (f_X4_has_k e2)) rfl (tc35 _ (List.mem_of_getElem? (i := 11) rfl)) (tc35 _ (List.mem_of_getElem? (i := 12) rfl)) (tc35 _ (List.mem_of_getElem? (i := 13) rfl)) (tc2 _ (List.mem_of_getElem? (i := 22) rfl)) (tc35 _ (List.mem_of_getElem? (i := 14) rfl)) (by decide) ⟨rfl, rfl, Nat.le_of_ble_eq_true rfl, Nat.le_of_ble_eq_true rfl⟩ ⟨Nat.le_of_ble_eq_true rfl, Nat.le_of_ble_eq_true rfl⟩ rfl (Nat.le_of_ble_eq_true rfl) rfl rfl rfl (dq dkX4_at_0 2 rfl) ?_
  refine v_if_eq F (tgt := 17) (dq dkX4_at_0 3 rfl) (by decide) (fun c3 => ?_) (fun c3 => ?_)
  · rw [if_pos c3] at h
    refine v_iconst F (v := 0) (dq dkX4_at_0 9 rfl) ki_0 ?_
    cases h
    exact v_iret F E (dq dkX4_at_0 10 rfl)
  · rw [if_neg c3] at h
    refine v_aload_n F (dq dkX4_at_0 4 rfl) rfl 0 rfl ?_
    obtain ⟨g4, h⟩ := gd_of h
    refine v_get F t0 (kSh_lt g4) (kSh_at g4) rfl inlX4 0 (by decide) (tc5 _ (List.mem_of_getElem? (i := 16) rfl)) rfl rfl (dq dkX4_at_0 5 rfl) ?_
    refine v_iload_n F (dq dkX4_at_0 6 rfl) rfl 1 rfl ?_
    obtain ⟨g5, h⟩ := gd_of h
    refine v_iald F (t0 + 1) (xa_lt g5) (xa_at g5) (ib_in g5) (dq dkX4_at_0 7 rfl) ?_
    refine v_goto F (tgt := 18) (dq dkX4_at_0 8 rfl) (by decide) ?_
    cases h
    exact v_iret F E (dq dkX4_at_0 10 rfl)
theorem f_X4_at_k {R : Int32} {x : CS} {t0 : Nat} {a1 : Int32} (h : f_X4_at x t0 a1 = some R) : kSh t0 = true := by
  unfold f_X4_at at h
  exact (gd_of h).1
def rm_X4_put : Room := { frames := 2, cells := 0, slots := 0, locals := 51 }
def f_X4_put (x : CS) (t0 : Nat) (a1 : Int32) (a2 : Int32) : Option (CS) := gd (kSh t0) ((f_X4_has x t0 a1).bind fun r1 => if (b2i r1) = 0 then (some x) else (gd (kSh t0) (if (gi x t0 1) = 0 then (gd (kSh t0) (gd (ib a1 (al (t0 + 1))) (some (pi x (t0 + 1) a1.toNatClampNeg a2.toInt8.toInt32)))) else (gd (kSh t0) (if (gi x t0 1) = 1 then (gd (kSh t0) (gd (ib a1 (al (t0 + 1))) (some (pi x (t0 + 1) a1.toNatClampNeg a2.toInt16.toInt32)))) else (gd (kSh t0) (gd (ib a1 (al (t0 + 1))) (some (pi x (t0 + 1) a1.toNatClampNeg a2)))))))))
set_option maxRecDepth 100000 in
set_option maxHeartbeats 4000000 in
theorem c_X4_put {K : KE} {l : Launch} {R : CS} (x : CS) (y : MS) (t0 : Nat) (a1 : Int32) (a2 : Int32) (h : f_X4_put x t0 a1 a2 = some R) : MC K l yX4_put cX4_put 3 none rm_X4_put 0 0 [.ref (K.1 + t0), .int a1, .int a2] (xf K x y) (xf K R y) none := by
  refine mc_of (ls0 := [(0, .ref (K.1 + t0)), (1, .int a1), (2, .int a2)]) (by decide) (Nat.le_of_ble_eq_true rfl) rfl (fun C hl F E => ?_)
  have F : Fx C RX4 cX4_put 3 rm_X4_put K := F
  unfold f_X4_put at h
  obtain ⟨_, h⟩ := gd_of h
  refine v_aload_n F (dq dkX4_put_0 0 rfl) rfl 0 rfl ?_
  refine v_iload_n F (dq dkX4_put_0 1 rfl) rfl 1 rfl ?_
  obtain ⟨r1, e2, h⟩ := bd_of h
  beta_reduce at h
  refine v_callV F (q := t0) (as := [.int a1]) (st := []) (st1 := (.int (b2i r1) :: [])) (res := (some (.int (b2i r1)))) (c_X4_has (l := C.2.1) x y t0 a1 e2) (kSh_lt (f_X4_has_k e2)) (kSh_at (f_X4_has_k e2)) rfl (tc35 _ (List.mem_of_getElem? (i := 11) rfl)) (tc35 _ (List.mem_of_getElem? (i := 12) rfl)) (tc35 _ (List.mem_of_getElem? (i := 13) rfl)) (tc2 _ (List.mem_of_getElem? (i := 22) rfl)) (tc35 _ (List.mem_of_getElem? (i := 14) rfl)) (by decide) ⟨rfl, rfl, Nat.le_of_ble_eq_true rfl, Nat.le_of_ble_eq_true rfl⟩ ⟨Nat.le_of_ble_eq_true rfl, Nat.le_of_ble_eq_true rfl⟩ rfl (Nat.le_of_ble_eq_true rfl) rfl rfl rfl (dq dkX4_put_0 2 rfl) ?_
  refine v_if_ne F (tgt := 9) (dq dkX4_put_0 3 rfl) (by decide) (fun c3 => ?_) (fun c3 => ?_)
  · rw [if_neg c3] at h
    refine v_aload_n F (dq dkX4_put_0 5 rfl) rfl 0 rfl ?_
    obtain ⟨g4, h⟩ := gd_of h
    refine v_get F t0 (kSh_lt g4) (kSh_at g4) rfl inlX4 1 (by decide) (tc5 _ (List.mem_of_getElem? (i := 17) rfl)) rfl rfl (dq dkX4_put_0 6 rfl) ?_
    refine v_if_ne F (tgt := 27) (dq dkX4_put_0 7 rfl) (by decide) (fun c5 => ?_) (fun c5 => ?_)
    · rw [if_neg c5] at h
      refine v_aload_n F (dq dkX4_put_0 15 rfl) rfl 0 rfl ?_
      obtain ⟨g6, h⟩ := gd_of h
      refine v_get F t0 (kSh_lt g6) (kSh_at g6) rfl inlX4 1 (by decide) (tc5 _ (List.mem_of_getElem? (i := 17) rfl)) rfl rfl (dq dkX4_put_0 16 rfl) ?_
      refine v_iconst F (v := 1) (dq dkX4_put_0 17 rfl) ki_1 ?_
      refine v_icmp_ne F (tgt := 46) (dq dkX4_put_0 18 rfl) (by decide) (fun c7 => ?_) (fun c7 => ?_)
      · rw [if_neg c7] at h
        refine v_aload_n F (dq dkX4_put_0 26 rfl) rfl 0 rfl ?_
        obtain ⟨g8, h⟩ := gd_of h
        refine v_get F t0 (kSh_lt g8) (kSh_at g8) rfl inlX4 0 (by decide) (tc5 _ (List.mem_of_getElem? (i := 16) rfl)) rfl rfl (dq dkX4_put_0 27 rfl) ?_
        refine v_iload_n F (dq dkX4_put_0 28 rfl) rfl 1 rfl ?_
        refine v_iload_n F (dq dkX4_put_0 29 rfl) rfl 2 rfl ?_
        obtain ⟨g9, h⟩ := gd_of h
        refine v_iast F (t0 + 1) (xa_lt g9) (xa_at g9) (ib_in g9) (dq dkX4_put_0 30 rfl) ?_
        refine v_eqM (xwC (q := (t0 + 1)) (j := a1.toNatClampNeg) (v := a2) (xa_lc g9) (xa_e g9)) ?_
        cases h
        exact v_vret F E (dq dkX4_put_0 31 rfl)
      · rw [if_pos c7] at h
        refine v_aload_n F (dq dkX4_put_0 19 rfl) rfl 0 rfl ?_
        obtain ⟨g10, h⟩ := gd_of h
        refine v_get F t0 (kSh_lt g10) (kSh_at g10) rfl inlX4 0 (by decide) (tc5 _ (List.mem_of_getElem? (i := 16) rfl)) rfl rfl (dq dkX4_put_0 20 rfl) ?_
        refine v_iload_n F (dq dkX4_put_0 21 rfl) rfl 1 rfl ?_
        refine v_iload_n F (dq dkX4_put_0 22 rfl) rfl 2 rfl ?_
        refine v_i2s F (dq dkX4_put_0 23 rfl) ?_
        obtain ⟨g11, h⟩ := gd_of h
        refine v_iast F (t0 + 1) (xa_lt g11) (xa_at g11) (ib_in g11) (dq dkX4_put_0 24 rfl) ?_
        refine v_eqM (xwC (q := (t0 + 1)) (j := a1.toNatClampNeg) (v := a2.toInt16.toInt32) (xa_lc g11) (xa_e g11)) ?_
        refine v_goto F (tgt := 53) (dq dkX4_put_0 25 rfl) (by decide) ?_
        cases h
        exact v_vret F E (dq dkX4_put_0 31 rfl)
    · rw [if_pos c5] at h
      refine v_aload_n F (dq dkX4_put_0 8 rfl) rfl 0 rfl ?_
      obtain ⟨g12, h⟩ := gd_of h
      refine v_get F t0 (kSh_lt g12) (kSh_at g12) rfl inlX4 0 (by decide) (tc5 _ (List.mem_of_getElem? (i := 16) rfl)) rfl rfl (dq dkX4_put_0 9 rfl) ?_
      refine v_iload_n F (dq dkX4_put_0 10 rfl) rfl 1 rfl ?_
      refine v_iload_n F (dq dkX4_put_0 11 rfl) rfl 2 rfl ?_
      refine v_i2b F (dq dkX4_put_0 12 rfl) ?_
      obtain ⟨g13, h⟩ := gd_of h
      refine v_iast F (t0 + 1) (xa_lt g13) (xa_at g13) (ib_in g13) (dq dkX4_put_0 13 rfl) ?_
      refine v_eqM (xwC (q := (t0 + 1)) (j := a1.toNatClampNeg) (v := a2.toInt8.toInt32) (xa_lc g13) (xa_e g13)) ?_
      refine v_goto F (tgt := 53) (dq dkX4_put_0 14 rfl) (by decide) ?_
      cases h
      exact v_vret F E (dq dkX4_put_0 31 rfl)
  · rw [if_pos c3] at h
    cases h
    exact v_vret F E (dq dkX4_put_0 4 rfl)
theorem f_X4_put_k {R : CS} {x : CS} {t0 : Nat} {a1 : Int32} {a2 : Int32} (h : f_X4_put x t0 a1 a2 = some R) : kSh t0 = true := by
  unfold f_X4_put at h
  exact (gd_of h).1
def rm_X4_isMissing : Room := { frames := 1, cells := 0, slots := 0, locals := 30 }
def f_X4_isMissing (x : CS) (t0 : Nat) : Option (Bool) := gd (kSh t0) (gd (kSh t0) (if (gi x t0 1) = (-1) then (some true) else (some false)))
set_option maxRecDepth 100000 in
set_option maxHeartbeats 4000000 in
theorem c_X4_isMissing {K : KE} {l : Launch} {R : Bool} (x : CS) (y : MS) (t0 : Nat) (h : f_X4_isMissing x t0 = some R) : MC K l yX4_isMissing cX4_isMissing 1 (some .boolean) rm_X4_isMissing 0 0 [.ref (K.1 + t0)] (xf K x y) (xf K x y) (some (.int (b2i R))) := by
  refine mc_of (ls0 := [(0, .ref (K.1 + t0))]) (by decide) (Nat.le_of_ble_eq_true rfl) rfl (fun C hl F E => ?_)
  have F : Fx C RX4 cX4_isMissing 1 rm_X4_isMissing K := F
  unfold f_X4_isMissing at h
  obtain ⟨_, h⟩ := gd_of h
  refine v_aload_n F (dq dkX4_isMissing_0 0 rfl) rfl 0 rfl ?_
  obtain ⟨g1, h⟩ := gd_of h
  refine v_get F t0 (kSh_lt g1) (kSh_at g1) rfl inlX4 1 (by decide) (tc5 _ (List.mem_of_getElem? (i := 17) rfl)) rfl rfl (dq dkX4_isMissing_0 1 rfl) ?_
  refine v_iconst F (v := (-1)) (dq dkX4_isMissing_0 2 rfl) ki_m1 ?_
  refine v_icmp_ne F (tgt := 12) (dq dkX4_isMissing_0 3 rfl) (by decide) (fun c2 => ?_) (fun c2 => ?_)
  · rw [if_neg c2] at h
    refine v_iconst F (v := 0) (dq dkX4_isMissing_0 6 rfl) ki_0 ?_
    cases h
    exact v_zret F E (b2i_n false) (dq dkX4_isMissing_0 7 rfl)
  · rw [if_pos c2] at h
    refine v_iconst F (v := 1) (dq dkX4_isMissing_0 4 rfl) ki_1 ?_
    refine v_goto F (tgt := 13) (dq dkX4_isMissing_0 5 rfl) (by decide) ?_
    cases h
    exact v_zret F E (b2i_n true) (dq dkX4_isMissing_0 7 rfl)
theorem f_X4_isMissing_k {R : Bool} {x : CS} {t0 : Nat} (h : f_X4_isMissing x t0 = some R) : kSh t0 = true := by
  unfold f_X4_isMissing at h
  exact (gd_of h).1
def rm_X4_hasAll : Room := { frames := 1, cells := 0, slots := 0, locals := 30 }
def f_X4_hasAll_22 (t0 : Nat) (x : CS) : Option (Bool) := some false
set_option maxRecDepth 100000 in
set_option maxHeartbeats 4000000 in
theorem t_X4_hasAll_22 {C : Cx} {K : KE} {y : MS} {R : Bool}  (t0 : Nat) (x : CS) (h : f_X4_hasAll_22 t0 x = some R) (F : Fx C RX4 cX4_hasAll 3 rm_X4_hasAll K) (E : CE C (xf K x y) (some (.int (b2i R))) 0 0 (some .boolean)) : V C 22 [] [] (xf K x y) 0 0 := by
  unfold f_X4_hasAll_22 at h
  refine v_iconst F (v := 0) (dq dkX4_hasAll_0 12 rfl) ki_0 ?_
  cases h
  exact v_zret F E (b2i_n false) (dq dkX4_hasAll_0 13 rfl)
def f_X4_hasAll (x : CS) (t0 : Nat) (a1 : Int32) (a2 : Int32) : Option (Bool) := gd (kSh t0) (if a2 < 0 then (f_X4_hasAll_22 t0 x) else (if a1 < 0 then (f_X4_hasAll_22 t0 x) else (gd (kSh t0) (if ((gi x t0 2) - a2) < a1 then (f_X4_hasAll_22 t0 x) else (some true)))))
set_option maxRecDepth 100000 in
set_option maxHeartbeats 4000000 in
theorem c_X4_hasAll {K : KE} {l : Launch} {R : Bool} (x : CS) (y : MS) (t0 : Nat) (a1 : Int32) (a2 : Int32) (h : f_X4_hasAll x t0 a1 a2 = some R) : MC K l yX4_hasAll cX4_hasAll 3 (some .boolean) rm_X4_hasAll 0 0 [.ref (K.1 + t0), .int a1, .int a2] (xf K x y) (xf K x y) (some (.int (b2i R))) := by
  refine mc_of (ls0 := [(0, .ref (K.1 + t0)), (1, .int a1), (2, .int a2)]) (by decide) (Nat.le_of_ble_eq_true rfl) rfl (fun C hl F E => ?_)
  have F : Fx C RX4 cX4_hasAll 3 rm_X4_hasAll K := F
  unfold f_X4_hasAll at h
  obtain ⟨_, h⟩ := gd_of h
  refine v_iload_n F (dq dkX4_hasAll_0 0 rfl) rfl 2 rfl ?_
  refine v_if_lt F (tgt := 22) (dq dkX4_hasAll_0 1 rfl) (by decide) (fun c1 => ?_) (fun c1 => ?_)
  · rw [if_pos c1] at h
    refine v_sub [] rfl ?_
    exact t_X4_hasAll_22 t0 x h F E
  · rw [if_neg c1] at h
    refine v_iload_n F (dq dkX4_hasAll_0 2 rfl) rfl 1 rfl ?_
    refine v_if_lt F (tgt := 22) (dq dkX4_hasAll_0 3 rfl) (by decide) (fun c2 => ?_) (fun c2 => ?_)
    · rw [if_pos c2] at h
      refine v_sub [] rfl ?_
      exact t_X4_hasAll_22 t0 x h F E
    · rw [if_neg c2] at h
      refine v_iload_n F (dq dkX4_hasAll_0 4 rfl) rfl 1 rfl ?_
      refine v_aload_n F (dq dkX4_hasAll_0 5 rfl) rfl 0 rfl ?_
      obtain ⟨g3, h⟩ := gd_of h
      refine v_get F t0 (kSh_lt g3) (kSh_at g3) rfl inlX4 2 (by decide) (tc5 _ (List.mem_of_getElem? (i := 18) rfl)) rfl rfl (dq dkX4_hasAll_0 6 rfl) ?_
      refine v_iload_n F (dq dkX4_hasAll_0 7 rfl) rfl 2 rfl ?_
      refine v_isub F (dq dkX4_hasAll_0 8 rfl) ?_
      refine v_icmp_gt F (tgt := 22) (dq dkX4_hasAll_0 9 rfl) (by decide) (fun c4 => ?_) (fun c4 => ?_)
      · rw [if_pos c4] at h
        refine v_sub [] rfl ?_
        exact t_X4_hasAll_22 t0 x h F E
      · rw [if_neg c4] at h
        refine v_iconst F (v := 1) (dq dkX4_hasAll_0 10 rfl) ki_1 ?_
        refine v_goto F (tgt := 23) (dq dkX4_hasAll_0 11 rfl) (by decide) ?_
        cases h
        exact v_zret F E (b2i_n true) (dq dkX4_hasAll_0 13 rfl)
theorem f_X4_hasAll_k {R : Bool} {x : CS} {t0 : Nat} {a1 : Int32} {a2 : Int32} (h : f_X4_hasAll x t0 a1 a2 = some R) : kSh t0 = true := by
  unfold f_X4_hasAll at h
  exact (gd_of h).1
def rm_X5_takes : Room := { frames := 1, cells := 0, slots := 0, locals := 30 }
def f_X5_takes (a0 : Int32) : Int32 := if a0 ≤ (-10) then (if a0 < (-11) then 2 else 1) else 0
set_option maxRecDepth 100000 in
set_option maxHeartbeats 4000000 in
theorem c_X5_takes {K : KE} {l : Launch} {M : GM} (a0 : Int32) : MC K l yX5_takes cX5_takes 1 (some .int) rm_X5_takes 0 0 [.int a0] M M (some (.int (f_X5_takes a0))) := by
  refine mc_of (ls0 := [(0, .int a0)]) (by decide) (Nat.le_of_ble_eq_true rfl) rfl (fun C hl F E => ?_)
  have F : Fx C RX5 cX5_takes 1 rm_X5_takes K := F
  obtain ⟨R, h⟩ : ∃ R, f_X5_takes a0 = R := ⟨_, rfl⟩
  rw [h] at E
  unfold f_X5_takes at h
  refine v_iload_n F (dq dkX5_takes_0 0 rfl) rfl 0 rfl ?_
  refine v_bipush F (v := (-10)) (dq dkX5_takes_0 1 rfl) kb_m10 ?_
  refine v_icmp_le F (tgt := 8) (dq dkX5_takes_0 2 rfl) (by decide) (fun c1 => ?_) (fun c1 => ?_)
  · rw [if_pos c1] at h
    refine v_iload_n F (dq dkX5_takes_0 5 rfl) rfl 0 rfl ?_
    refine v_bipush F (v := (-11)) (dq dkX5_takes_0 6 rfl) kb_m11 ?_
    refine v_icmp_lt F (tgt := 18) (dq dkX5_takes_0 7 rfl) (by decide) (fun c2 => ?_) (fun c2 => ?_)
    · rw [if_pos c2] at h
      refine v_iconst F (v := 2) (dq dkX5_takes_0 10 rfl) ki_2 ?_
      cases h
      exact v_iret F E (dq dkX5_takes_0 11 rfl)
    · rw [if_neg c2] at h
      refine v_iconst F (v := 1) (dq dkX5_takes_0 8 rfl) ki_1 ?_
      refine v_goto F (tgt := 19) (dq dkX5_takes_0 9 rfl) (by decide) ?_
      cases h
      exact v_iret F E (dq dkX5_takes_0 11 rfl)
  · rw [if_neg c1] at h
    refine v_iconst F (v := 0) (dq dkX5_takes_0 3 rfl) ki_0 ?_
    cases h
    exact v_iret F E (dq dkX5_takes_0 4 rfl)
def rm_X5_result : Room := { frames := 1, cells := 0, slots := 0, locals := 30 }
def f_X5_result_91 (x : CS) : Option (Int32) := some 0
set_option maxRecDepth 100000 in
set_option maxHeartbeats 4000000 in
theorem t_X5_result_91 {C : Cx} {K : KE} {y : MS} {R : Int32}  (x : CS) (h : f_X5_result_91 x = some R) (F : Fx C RX5 cX5_result 5 rm_X5_result K) (E : CE C (xf K x y) (some (.int R)) 0 0 (some .int)) : V C 91 [] [] (xf K x y) 0 0 := by
  unfold f_X5_result_91 at h
  refine v_iconst F (v := 0) (dq dkX5_result_0 25 rfl) ki_0 ?_
  cases h
  exact v_iret F E (dq dkX5_result_0 26 rfl)
def f_X5_result_73 (x : CS) : Option (Int32) := some 1
set_option maxRecDepth 100000 in
set_option maxHeartbeats 4000000 in
theorem t_X5_result_73 {C : Cx} {K : KE} {y : MS} {R : Int32}  (x : CS) (h : f_X5_result_73 x = some R) (F : Fx C RX5 cX5_result 5 rm_X5_result K) (E : CE C (xf K x y) (some (.int R)) 0 0 (some .int)) : V C 73 [] [] (xf K x y) 0 0 := by
  unfold f_X5_result_73 at h
  refine v_iconst F (v := 1) (dq dkX5_result_0 15 rfl) ki_1 ?_
  refine v_goto F (tgt := 78) (dq dkX5_result_0 16 rfl) (by decide) ?_
  cases h
  exact v_iret F E (dq dkX5_result_0 18 rfl)
def f_X5_result (x : CS) (a0 : Int32) (a1 : Int32) (a2 : Int32) (a3 : Nat) : Option (Int32) := if a0 = (-18) then (some (a1 * a2)) else (if a0 = (-17) then (some (a1 - a2)) else (if a0 = (-16) then (some (a1 + a2)) else (if a0 = (-15) then (if a1 = a2 then (some 1) else (some 0)) else (if a0 = (-14) then (if a2 ≤ a1 then (some 0) else (some 1)) else (if a0 = (-13) then (if a1 = 0 then (f_X5_result_91 x) else (if a2 = 0 then (f_X5_result_91 x) else (some 1))) else (if a0 = (-12) then (if a1 = 0 then (if a2 = 0 then (some 0) else (f_X5_result_73 x)) else (f_X5_result_73 x)) else (if a0 = (-11) then (if a1 = 0 then (some 1) else (some 0)) else (if a0 = (-10) then (some (-a1)) else (if a0 < 0 then (gd (decide (0 < al a3)) (if (nI (al a3)) ≤ ((-1) - a0) then (some 0) else (gd (ib ((-1) - a0) (al a3)) (some (gi x a3 ((-1) - a0).toNatClampNeg))))) else (some a0))))))))))
set_option maxRecDepth 100000 in
set_option maxHeartbeats 4000000 in
theorem c_X5_result {K : KE} {l : Launch} {R : Int32} (x : CS) (y : MS) (a0 : Int32) (a1 : Int32) (a2 : Int32) (a3 : Nat) (h : f_X5_result x a0 a1 a2 a3 = some R) : MC K l yX5_result cX5_result 5 (some .int) rm_X5_result 0 0 [.int a0, .int a1, .int a2, .ref (K.1 + a3)] (xf K x y) (xf K x y) (some (.int R)) := by
  refine mc_of (ls0 := [(0, .int a0), (1, .int a1), (2, .int a2), (3, .ref (K.1 + a3))]) (by decide) (Nat.le_of_ble_eq_true rfl) rfl (fun C hl F E => ?_)
  have F : Fx C RX5 cX5_result 5 rm_X5_result K := F
  unfold f_X5_result at h
  refine v_iload_n F (dq dkX5_result_0 0 rfl) rfl 0 rfl ?_
  by_cases c1 : a0 = (-18)
  · rw [if_pos c1] at h
    refine v_tblIn F (off := 122) (tgt := 123) (dq dkX5_result_0 1 rfl) (by rw [c1]; decide) (by rw [c1]; decide) (by rw [c1]; rfl) (by decide) ?_
    refine v_iload_n F (dq dkX5_result_1 9 rfl) rfl 1 rfl ?_
    refine v_iload_n F (dq dkX5_result_1 10 rfl) rfl 2 rfl ?_
    refine v_imul F (dq dkX5_result_1 11 rfl) ?_
    cases h
    exact v_iret F E (dq dkX5_result_1 12 rfl)
  rw [if_neg c1] at h
  by_cases c2 : a0 = (-17)
  · rw [if_pos c2] at h
    refine v_tblIn F (off := 118) (tgt := 119) (dq dkX5_result_0 1 rfl) (by rw [c2]; decide) (by rw [c2]; decide) (by rw [c2]; rfl) (by decide) ?_
    refine v_iload_n F (dq dkX5_result_1 5 rfl) rfl 1 rfl ?_
    refine v_iload_n F (dq dkX5_result_1 6 rfl) rfl 2 rfl ?_
    refine v_isub F (dq dkX5_result_1 7 rfl) ?_
    cases h
    exact v_iret F E (dq dkX5_result_1 8 rfl)
  rw [if_neg c2] at h
  by_cases c3 : a0 = (-16)
  · rw [if_pos c3] at h
    refine v_tblIn F (off := 114) (tgt := 115) (dq dkX5_result_0 1 rfl) (by rw [c3]; decide) (by rw [c3]; decide) (by rw [c3]; rfl) (by decide) ?_
    refine v_iload_n F (dq dkX5_result_1 1 rfl) rfl 1 rfl ?_
    refine v_iload_n F (dq dkX5_result_1 2 rfl) rfl 2 rfl ?_
    refine v_iadd F (dq dkX5_result_1 3 rfl) ?_
    cases h
    exact v_iret F E (dq dkX5_result_1 4 rfl)
  rw [if_neg c3] at h
  by_cases c4 : a0 = (-15)
  · rw [if_pos c4] at h
    refine v_tblIn F (off := 103) (tgt := 104) (dq dkX5_result_0 1 rfl) (by rw [c4]; decide) (by rw [c4]; decide) (by rw [c4]; rfl) (by decide) ?_
    refine v_iload_n F (dq dkX5_result_0 34 rfl) rfl 1 rfl ?_
    refine v_iload_n F (dq dkX5_result_0 35 rfl) rfl 2 rfl ?_
    refine v_icmp_ne F (tgt := 113) (dq dkX5_result_0 36 rfl) (by decide) (fun c5 => ?_) (fun c5 => ?_)
    · rw [if_neg c5] at h
      refine v_iconst F (v := 0) (dq dkX5_result_0 39 rfl) ki_0 ?_
      cases h
      exact v_iret F E (dq dkX5_result_1 0 rfl)
    · rw [if_pos c5] at h
      refine v_iconst F (v := 1) (dq dkX5_result_0 37 rfl) ki_1 ?_
      refine v_goto F (tgt := 114) (dq dkX5_result_0 38 rfl) (by decide) ?_
      cases h
      exact v_iret F E (dq dkX5_result_1 0 rfl)
  rw [if_neg c4] at h
  by_cases c6 : a0 = (-14)
  · rw [if_pos c6] at h
    refine v_tblIn F (off := 92) (tgt := 93) (dq dkX5_result_0 1 rfl) (by rw [c6]; decide) (by rw [c6]; decide) (by rw [c6]; rfl) (by decide) ?_
    refine v_iload_n F (dq dkX5_result_0 27 rfl) rfl 1 rfl ?_
    refine v_iload_n F (dq dkX5_result_0 28 rfl) rfl 2 rfl ?_
    refine v_icmp_ge F (tgt := 102) (dq dkX5_result_0 29 rfl) (by decide) (fun c7 => ?_) (fun c7 => ?_)
    · rw [if_pos c7] at h
      refine v_iconst F (v := 0) (dq dkX5_result_0 32 rfl) ki_0 ?_
      cases h
      exact v_iret F E (dq dkX5_result_0 33 rfl)
    · rw [if_neg c7] at h
      refine v_iconst F (v := 1) (dq dkX5_result_0 30 rfl) ki_1 ?_
      refine v_goto F (tgt := 103) (dq dkX5_result_0 31 rfl) (by decide) ?_
      cases h
      exact v_iret F E (dq dkX5_result_0 33 rfl)
  rw [if_neg c6] at h
  by_cases c8 : a0 = (-13)
  · rw [if_pos c8] at h
    refine v_tblIn F (off := 78) (tgt := 79) (dq dkX5_result_0 1 rfl) (by rw [c8]; decide) (by rw [c8]; decide) (by rw [c8]; rfl) (by decide) ?_
    refine v_iload_n F (dq dkX5_result_0 19 rfl) rfl 1 rfl ?_
    refine v_if_eq F (tgt := 91) (dq dkX5_result_0 20 rfl) (by decide) (fun c9 => ?_) (fun c9 => ?_)
    · rw [if_pos c9] at h
      refine v_sub [] rfl ?_
      exact t_X5_result_91 x h F E
    · rw [if_neg c9] at h
      refine v_iload_n F (dq dkX5_result_0 21 rfl) rfl 2 rfl ?_
      refine v_if_eq F (tgt := 91) (dq dkX5_result_0 22 rfl) (by decide) (fun c10 => ?_) (fun c10 => ?_)
      · rw [if_pos c10] at h
        refine v_sub [] rfl ?_
        exact t_X5_result_91 x h F E
      · rw [if_neg c10] at h
        refine v_iconst F (v := 1) (dq dkX5_result_0 23 rfl) ki_1 ?_
        refine v_goto F (tgt := 92) (dq dkX5_result_0 24 rfl) (by decide) ?_
        cases h
        exact v_iret F E (dq dkX5_result_0 26 rfl)
  rw [if_neg c8] at h
  by_cases c11 : a0 = (-12)
  · rw [if_pos c11] at h
    refine v_tblIn F (off := 64) (tgt := 65) (dq dkX5_result_0 1 rfl) (by rw [c11]; decide) (by rw [c11]; decide) (by rw [c11]; rfl) (by decide) ?_
    refine v_iload_n F (dq dkX5_result_0 11 rfl) rfl 1 rfl ?_
    refine v_if_ne F (tgt := 73) (dq dkX5_result_0 12 rfl) (by decide) (fun c12 => ?_) (fun c12 => ?_)
    · rw [if_neg c12] at h
      refine v_sub [] rfl ?_
      exact t_X5_result_73 x h F E
    · rw [if_pos c12] at h
      refine v_iload_n F (dq dkX5_result_0 13 rfl) rfl 2 rfl ?_
      refine v_if_eq F (tgt := 77) (dq dkX5_result_0 14 rfl) (by decide) (fun c13 => ?_) (fun c13 => ?_)
      · rw [if_pos c13] at h
        refine v_iconst F (v := 0) (dq dkX5_result_0 17 rfl) ki_0 ?_
        cases h
        exact v_iret F E (dq dkX5_result_0 18 rfl)
      · rw [if_neg c13] at h
        refine v_sub [] rfl ?_
        exact t_X5_result_73 x h F E
  rw [if_neg c11] at h
  by_cases c14 : a0 = (-11)
  · rw [if_pos c14] at h
    refine v_tblIn F (off := 54) (tgt := 55) (dq dkX5_result_0 1 rfl) (by rw [c14]; decide) (by rw [c14]; decide) (by rw [c14]; rfl) (by decide) ?_
    refine v_iload_n F (dq dkX5_result_0 5 rfl) rfl 1 rfl ?_
    refine v_if_ne F (tgt := 63) (dq dkX5_result_0 6 rfl) (by decide) (fun c15 => ?_) (fun c15 => ?_)
    · rw [if_neg c15] at h
      refine v_iconst F (v := 0) (dq dkX5_result_0 9 rfl) ki_0 ?_
      cases h
      exact v_iret F E (dq dkX5_result_0 10 rfl)
    · rw [if_pos c15] at h
      refine v_iconst F (v := 1) (dq dkX5_result_0 7 rfl) ki_1 ?_
      refine v_goto F (tgt := 64) (dq dkX5_result_0 8 rfl) (by decide) ?_
      cases h
      exact v_iret F E (dq dkX5_result_0 10 rfl)
  rw [if_neg c14] at h
  by_cases c16 : a0 = (-10)
  · rw [if_pos c16] at h
    refine v_tblIn F (off := 51) (tgt := 52) (dq dkX5_result_0 1 rfl) (by rw [c16]; decide) (by rw [c16]; decide) (by rw [c16]; rfl) (by decide) ?_
    refine v_iload_n F (dq dkX5_result_0 2 rfl) rfl 1 rfl ?_
    refine v_ineg F (dq dkX5_result_0 3 rfl) ?_
    cases h
    exact v_iret F E (dq dkX5_result_0 4 rfl)
  rw [if_neg c16] at h
  have zc1 := lv_neT c1 (a := -18) (by decide)
  have zc2 := lv_neT c2 (a := -17) (by decide)
  have zc3 := lv_neT c3 (a := -16) (by decide)
  have zc4 := lv_neT c4 (a := -15) (by decide)
  have zc6 := lv_neT c6 (a := -14) (by decide)
  have zc8 := lv_neT c8 (a := -13) (by decide)
  have zc11 := lv_neT c11 (a := -12) (by decide)
  have zc14 := lv_neT c14 (a := -11) (by decide)
  have zc16 := lv_neT c16 (a := -10) (by decide)
  refine v_tblOut F (tgt := 127) (dq dkX5_result_0 1 rfl) (by omega) (by decide) ?_
  refine v_iload_n F (dq dkX5_result_1 13 rfl) rfl 0 rfl ?_
  refine v_if_lt F (tgt := 133) (dq dkX5_result_1 14 rfl) (by decide) (fun c17 => ?_) (fun c17 => ?_)
  · rw [if_pos c17] at h
    refine v_iconst F (v := (-1)) (dq dkX5_result_1 17 rfl) ki_m1 ?_
    refine v_iload_n F (dq dkX5_result_1 18 rfl) rfl 0 rfl ?_
    refine v_isub F (dq dkX5_result_1 19 rfl) ?_
    refine v_istore F (ls' := [(4, .int ((-1) - a0)), (0, .int a0), (1, .int a1), (2, .int a2), (3, .ref (K.1 + a3))]) (dq dkX5_result_1 20 rfl) (by decide) rfl ?_
    refine v_iload F (dq dkX5_result_1 21 rfl) 0 rfl ?_
    refine v_aload_n F (dq dkX5_result_1 22 rfl) rfl 4 rfl ?_
    obtain ⟨g18, h⟩ := gd_of h
    refine v_alen F a3 (xl_lt g18) (xl_at g18) (t := 0) rfl rfl (dq dkX5_result_1 23 rfl) ?_
    refine v_icmp_ge F (tgt := 152) (dq dkX5_result_1 24 rfl) (by decide) (fun c19 => ?_) (fun c19 => ?_)
    · rw [if_pos c19] at h
      refine v_iconst F (v := 0) (dq dkX5_result_1 29 rfl) ki_0 ?_
      cases h
      exact v_iret F E (dq dkX5_result_1 30 rfl)
    · rw [if_neg c19] at h
      refine v_aload_n F (dq dkX5_result_1 25 rfl) rfl 4 rfl ?_
      refine v_iload F (dq dkX5_result_1 26 rfl) 0 rfl ?_
      obtain ⟨g20, h⟩ := gd_of h
      refine v_iald F a3 (xa_lt g20) (xa_at g20) (ib_in g20) (dq dkX5_result_1 27 rfl) ?_
      refine v_goto F (tgt := 153) (dq dkX5_result_1 28 rfl) (by decide) ?_
      cases h
      exact v_iret F E (dq dkX5_result_1 30 rfl)
  · rw [if_neg c17] at h
    refine v_iload_n F (dq dkX5_result_1 15 rfl) rfl 0 rfl ?_
    cases h
    exact v_iret F E (dq dkX5_result_1 16 rfl)
