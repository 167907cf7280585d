def rm_X0_init : Room := { frames := 1, cells := 0, slots := 0, locals := 30 }
def f_X0_init (x : CS) (t0 : Nat) (a1 : Int64) (a3 : Int64) : Option (CS) := gd (kFr x t0) (gd (kFr x t0) (gd (kFr (ptl x t0 0 a1) t0) (some (ptl (ptl x t0 0 a1) t0 1 (if 1 < a3 then a3 else 1)))))
set_option maxRecDepth 100000 in
set_option maxHeartbeats 4000000 in
theorem c_X0_init {K : KE} {l : Launch} {R : CS} (x : CS) (y : MS) (t0 : Nat) (a1 : Int64) (a3 : Int64) (h : f_X0_init x t0 a1 a3 = some R) : MC K l yX0_init cX0_init 5 none rm_X0_init 0 0 [.ref (K.1 + t0), .long a1, .long a3] (xf K x y) (xf K R y) none := by
  unfold f_X0_init at h
  obtain ⟨_, h⟩ := gd_of h
  refine mc_of (ls0 := [(0, .ref (K.1 + t0)), (1, .long a1), (3, .long a3)]) (by decide) (Nat.le_of_ble_eq_true rfl) rfl (fun C hl hnm F E => ?_)
  have F : Fx C RX0 cX0_init 5 rm_X0_init K := F
  refine v_aload_n F (dq dkX0_init_0 0 rfl) rfl 0 rfl ?_
  refine v_objinit F (tc33 _ (List.mem_of_getElem? (i := 2) rfl)) (tc1 _ (List.mem_of_getElem? (i := 11) rfl)) (tc1 _ (List.mem_of_getElem? (i := 12) rfl)) (Nat.le_of_ble_eq_true rfl) (Nat.le_of_ble_eq_true rfl) (dq dkX0_init_0 1 rfl) ?_
  refine v_aload_n F (dq dkX0_init_0 2 rfl) rfl 0 rfl ?_
  refine v_lload_n F (dq dkX0_init_0 3 rfl) rfl 1 rfl ?_
  obtain ⟨g1, h⟩ := gd_of h
  refine v_putF F hnm t0 (kFr_lt g1) (kFr_at g1) rfl inlX0 tyX0_ok nmX0 0 (by decide) (tc33 _ (List.mem_of_getElem? (i := 3) rfl)) rfl rfl rfl (tyX0_ok 0 (by decide)) rfl rfl (Nat.le_of_ble_eq_true rfl) (dq dkX0_init_0 4 rfl) ?_
  refine v_eqM (kFr_w (j := 0) (v := a1) g1 rfl) ?_
  refine v_aload_n F (dq dkX0_init_0 5 rfl) rfl 0 rfl ?_
  refine v_lload_n F (dq dkX0_init_0 6 rfl) rfl 2 rfl ?_
  refine v_lconst F (v := 1) (dq dkX0_init_0 7 rfl) rfl ?_
  refine v_mmaxl F (tc33 _ (List.mem_of_getElem? (i := 4) rfl)) (tc33 _ (List.mem_of_getElem? (i := 5) rfl)) (tc21 _ (List.mem_of_getElem? (i := 1) rfl)) (tc33 _ (List.mem_of_getElem? (i := 6) rfl)) (Nat.le_of_ble_eq_true rfl) (Nat.le_of_ble_eq_true rfl) (Nat.le_of_ble_eq_true rfl) (Nat.le_of_ble_eq_true rfl) (dq dkX0_init_0 8 rfl) ?_
  obtain ⟨g2, h⟩ := gd_of h
  refine v_putF F hnm t0 (kFr_lt g2) (kFr_at g2) rfl inlX0 tyX0_ok nmX0 1 (by decide) (tc33 _ (List.mem_of_getElem? (i := 7) rfl)) rfl rfl rfl (tyX0_ok 1 (by decide)) rfl rfl (Nat.le_of_ble_eq_true rfl) (dq dkX0_init_0 9 rfl) ?_
  refine v_eqM (kFr_w (j := 1) (v := if 1 < a3 then a3 else 1) g2 rfl) ?_
  have h := Option.some.inj h
  subst h
  exact v_vret F E (dq dkX0_init_0 10 rfl)
theorem f_X0_init_k {R : CS} {x : CS} {t0 : Nat} {a1 : Int64} {a3 : Int64} (h : f_X0_init x t0 a1 a3 = some R) : kFr x t0 = true := by
  unfold f_X0_init at h
  exact (gd_of h).1
def rm_X0_isAbove : Room := { frames := 1, cells := 0, slots := 0, locals := 30 }
def f_X0_isAbove (x : CS) (t0 : Nat) (a1 : Nat) : Option (Bool) := gd (kFr x t0) (gd (kFr x t0) (gd (kFr x a1) (gd (kFr x a1) (gd (kFr x t0) (if (lg_cmp ((tl x t0 0) * (tl x a1 1)) ((tl x a1 0) * (tl x t0 1))) ≤ 0 then (some false) else (some true))))))
set_option maxRecDepth 100000 in
set_option maxHeartbeats 4000000 in
theorem c_X0_isAbove {K : KE} {l : Launch} {R : Bool} (x : CS) (y : MS) (t0 : Nat) (a1 : Nat) (h : f_X0_isAbove x t0 a1 = some R) : MC K l yX0_isAbove cX0_isAbove 2 (some .boolean) rm_X0_isAbove 0 0 [.ref (K.1 + t0), .ref (K.1 + a1)] (xf K x y) (xf K x y) (some (.int (b2i R))) := by
  unfold f_X0_isAbove at h
  obtain ⟨_, h⟩ := gd_of h
  refine mc_of (ls0 := [(0, .ref (K.1 + t0)), (1, .ref (K.1 + a1))]) (by decide) (Nat.le_of_ble_eq_true rfl) rfl (fun C hl hnm F E => ?_)
  have F : Fx C RX0 cX0_isAbove 2 rm_X0_isAbove K := F
  refine v_aload_n F (dq dkX0_isAbove_0 0 rfl) rfl 0 rfl ?_
  obtain ⟨g1, h⟩ := gd_of h
  refine v_get F t0 (kFr_lt g1) (kFr_at g1) rfl inlX0 0 (by decide) (tc33 _ (List.mem_of_getElem? (i := 3) rfl)) rfl rfl (dq dkX0_isAbove_0 1 rfl) ?_
  refine v_aload_n F (dq dkX0_isAbove_0 2 rfl) rfl 1 rfl ?_
  obtain ⟨g2, h⟩ := gd_of h
  refine v_get F a1 (kFr_lt g2) (kFr_at g2) rfl inlX0 1 (by decide) (tc33 _ (List.mem_of_getElem? (i := 7) rfl)) rfl rfl (dq dkX0_isAbove_0 3 rfl) ?_
  refine v_lmul F (dq dkX0_isAbove_0 4 rfl) ?_
  refine v_aload_n F (dq dkX0_isAbove_0 5 rfl) rfl 1 rfl ?_
  obtain ⟨g3, h⟩ := gd_of h
  refine v_get F a1 (kFr_lt g3) (kFr_at g3) rfl inlX0 0 (by decide) (tc33 _ (List.mem_of_getElem? (i := 3) rfl)) rfl rfl (dq dkX0_isAbove_0 6 rfl) ?_
  refine v_aload_n F (dq dkX0_isAbove_0 7 rfl) rfl 0 rfl ?_
  obtain ⟨g4, h⟩ := gd_of h
  refine v_get F t0 (kFr_lt g4) (kFr_at g4) rfl inlX0 1 (by decide) (tc33 _ (List.mem_of_getElem? (i := 7) rfl)) rfl rfl (dq dkX0_isAbove_0 8 rfl) ?_
  refine v_lmul F (dq dkX0_isAbove_0 9 rfl) ?_
  refine v_lcmp F (dq dkX0_isAbove_0 10 rfl) ?_
  refine v_if_le F (tgt := 26) (dq dkX0_isAbove_0 11 rfl) (by decide) (fun c5 => ?_) (fun c5 => ?_)
  · rw [if_pos c5] at h
    refine v_iconst F (v := 0) (dq dkX0_isAbove_0 14 rfl) ki_0 ?_
    have h := Option.some.inj h
    subst h
    exact v_zret F E (b2i_n false) (dq dkX0_isAbove_0 15 rfl)
  · rw [if_neg c5] at h
    refine v_iconst F (v := 1) (dq dkX0_isAbove_0 12 rfl) ki_1 ?_
    refine v_goto F (tgt := 27) (dq dkX0_isAbove_0 13 rfl) (by decide) ?_
    have h := Option.some.inj h
    subst h
    exact v_zret F E (b2i_n true) (dq dkX0_isAbove_0 15 rfl)
theorem f_X0_isAbove_k {R : Bool} {x : CS} {t0 : Nat} {a1 : Nat} (h : f_X0_isAbove x t0 a1 = some R) : kFr x t0 = true := by
  unfold f_X0_isAbove at h
  exact (gd_of h).1
def rm_X0_commonOf : Room := { frames := 1, cells := 0, slots := 0, locals := 30 }
def f_X0_commonOf_45 (a4 : Int64) : Option (Int64) := some a4
set_option maxRecDepth 100000 in
set_option maxHeartbeats 4000000 in
theorem t_X0_commonOf_45 {C : Cx} {K : KE} {M : GM} {R : Int64}  (a4 : Int64) (h : f_X0_commonOf_45 a4 = some R) (F : Fx C RX0 cX0_commonOf 11 rm_X0_commonOf K) (E : CE C M (some (.long R)) 0 0 (some .long)) : V C 45 [(4, .long a4)] [] M 0 0 := by
  unfold f_X0_commonOf_45 at h
  refine v_lload F (dq dkX0_commonOf_0 23 rfl) 0 rfl ?_
  have h := Option.some.inj h
  subst h
  exact v_lret F E (dq dkX0_commonOf_0 24 rfl)
def f_X0_commonOf_9 : Nat → Int64 → Int64 → Int32 → Option (Int64)
  | 0, _, _, _ => none
  | n + 1, a4, a6, a8 => if 200 ≤ a8 then (f_X0_commonOf_45 a4) else (if (lg_cmp a6 0) = 0 then (f_X0_commonOf_45 a4) else (gd (decide (¬ a6 = 0)) ((f_X0_commonOf_9 n) a6 (a4 - a4 / a6 * a6) (a8 + 1))))
set_option maxRecDepth 100000 in
set_option maxHeartbeats 4000000 in
theorem t_X0_commonOf_9 {C : Cx} {K : KE} {M : GM} {R : Int64}  (F : Fx C RX0 cX0_commonOf 11 rm_X0_commonOf K) (E : CE C M (some (.long R)) 0 0 (some .long)) : ∀ (n : Nat) (a4 : Int64) (a6 : Int64) (a8 : Int32) (h : f_X0_commonOf_9 n a4 a6 a8 = some R), V C 9 [(4, .long a4), (6, .long a6), (8, .int a8)] [] M 0 0 := by
  intro n
  induction n with
  | zero => intro a4 a6 a8 h; cases h
  | succ n ih =>
    intro a4 a6 a8 h
    rw [f_X0_commonOf_9] at h
    refine v_iload F (dq dkX0_commonOf_0 6 rfl) 2 rfl ?_
    refine v_sipush F (v := 200) (dq dkX0_commonOf_0 7 rfl) ks_200 ?_
    refine v_icmp_ge F (tgt := 45) (dq dkX0_commonOf_0 8 rfl) (by decide) (fun c1 => ?_) (fun c1 => ?_)
    · rw [if_pos c1] at h
      refine v_sub [0] rfl ?_
      exact t_X0_commonOf_45 a4 h F E
    · rw [if_neg c1] at h
      refine v_lload F (dq dkX0_commonOf_0 9 rfl) 1 rfl ?_
      refine v_lconst F (v := 0) (dq dkX0_commonOf_0 10 rfl) rfl ?_
      refine v_lcmp F (dq dkX0_commonOf_0 11 rfl) ?_
      refine v_if_eq F (tgt := 45) (dq dkX0_commonOf_0 12 rfl) (by decide) (fun c2 => ?_) (fun c2 => ?_)
      · rw [if_pos c2] at h
        refine v_sub [0] rfl ?_
        exact t_X0_commonOf_45 a4 h F E
      · rw [if_neg c2] at h
        refine v_lload F (dq dkX0_commonOf_0 13 rfl) 0 rfl ?_
        refine v_lload F (dq dkX0_commonOf_0 14 rfl) 1 rfl ?_
        obtain ⟨g3, h⟩ := gd_of h
        refine v_lrem F (dq dkX0_commonOf_0 15 rfl) (of_decide_eq_true g3) ?_
        refine v_lstore F (ls' := [(9, .long (a4 - a4 / a6 * a6)), (4, .long a4), (6, .long a6), (8, .int a8)]) (dq dkX0_commonOf_0 16 rfl) (by decide) rfl ?_
        refine v_lload F (dq dkX0_commonOf_0 17 rfl) 2 rfl ?_
        refine v_lstore F (ls' := [(4, .long a6), (9, .long (a4 - a4 / a6 * a6)), (6, .long a6), (8, .int a8)]) (dq dkX0_commonOf_0 18 rfl) (by decide) rfl ?_
        refine v_lload F (dq dkX0_commonOf_0 19 rfl) 1 rfl ?_
        refine v_lstore F (ls' := [(6, .long (a4 - a4 / a6 * a6)), (4, .long a6), (9, .long (a4 - a4 / a6 * a6)), (8, .int a8)]) (dq dkX0_commonOf_0 20 rfl) (by decide) rfl ?_
        refine v_iinc F (v := a8 + 1) (ls' := [(8, .int (a8 + 1)), (6, .long (a4 - a4 / a6 * a6)), (4, .long a6), (9, .long (a4 - a4 / a6 * a6))]) (dq dkX0_commonOf_0 21 rfl) (j := 3) rfl (kv_add ki_1) (by decide) rfl ?_
        refine v_goto F (tgt := 9) (dq dkX0_commonOf_0 22 rfl) (by decide) ?_
        refine v_sub [2, 1, 0] rfl ?_
        exact ih a6 (a4 - a4 / a6 * a6) (a8 + 1) h
def f_X0_commonOf (a0 : Int64) (a2 : Int64) : Option (Int64) := f_X0_commonOf_9 1000 a0 a2 0
set_option maxRecDepth 100000 in
set_option maxHeartbeats 4000000 in
theorem c_X0_commonOf {K : KE} {l : Launch} {R : Int64} {M : GM} (a0 : Int64) (a2 : Int64) (h : f_X0_commonOf a0 a2 = some R) : MC K l yX0_commonOf cX0_commonOf 11 (some .long) rm_X0_commonOf 0 0 [.long a0, .long a2] M M (some (.long R)) := by
  unfold f_X0_commonOf at h
  refine mc_of (ls0 := [(0, .long a0), (2, .long a2)]) (by decide) (Nat.le_of_ble_eq_true rfl) rfl (fun C hl hnm F E => ?_)
  have F : Fx C RX0 cX0_commonOf 11 rm_X0_commonOf K := F
  refine v_lload_n F (dq dkX0_commonOf_0 0 rfl) rfl 0 rfl ?_
  refine v_lstore F (ls' := [(4, .long a0), (0, .long a0), (2, .long a2)]) (dq dkX0_commonOf_0 1 rfl) (by decide) rfl ?_
  refine v_lload_n F (dq dkX0_commonOf_0 2 rfl) rfl 2 rfl ?_
  refine v_lstore F (ls' := [(6, .long a2), (4, .long a0), (0, .long a0), (2, .long a2)]) (dq dkX0_commonOf_0 3 rfl) (by decide) rfl ?_
  refine v_iconst F (v := 0) (dq dkX0_commonOf_0 4 rfl) ki_0 ?_
  refine v_istore F (ls' := [(8, .int 0), (6, .long a2), (4, .long a0), (0, .long a0), (2, .long a2)]) (dq dkX0_commonOf_0 5 rfl) (by decide) rfl ?_
  refine v_sub [2, 1, 0] rfl ?_
  exact t_X0_commonOf_9 F E 1000 a0 a2 0 h
def rm_X10_within : Room := { frames := 1, cells := 0, slots := 0, locals := 30 }
def f_X10_within_14 : Bool := false
set_option maxRecDepth 100000 in
set_option maxHeartbeats 4000000 in
theorem t_X10_within_14 {C : Cx} {K : KE} {M : GM} {R : Bool}  (h : f_X10_within_14  = R) (F : Fx C RX10 cX10_within 3 rm_X10_within K) (E : CE C M (some (.int (b2i R))) 0 0 (some .boolean)) : V C 14 [] [] M 0 0 := by
  unfold f_X10_within_14 at h
  refine v_iconst F (v := 0) (dq dkX10_within_0 8 rfl) ki_0 ?_
  subst h
  exact v_zret F E (b2i_n false) (dq dkX10_within_0 9 rfl)
def f_X10_within (a0 : Int32) (a1 : Int32) (a2 : Int32) : Bool := if a0 < a1 then f_X10_within_14 else (if a2 < a0 then f_X10_within_14 else true)
set_option maxRecDepth 100000 in
set_option maxHeartbeats 4000000 in
theorem c_X10_within {K : KE} {l : Launch} {M : GM} (a0 : Int32) (a1 : Int32) (a2 : Int32) : MC K l yX10_within cX10_within 3 (some .boolean) rm_X10_within 0 0 [.int a0, .int a1, .int a2] M M (some (.int (b2i (f_X10_within a0 a1 a2)))) := by
  obtain ⟨R, h⟩ : ∃ R, f_X10_within a0 a1 a2 = R := ⟨_, rfl⟩
  rw [h]
  unfold f_X10_within at h
  refine mc_of (ls0 := [(0, .int a0), (1, .int a1), (2, .int a2)]) (by decide) (Nat.le_of_ble_eq_true rfl) rfl (fun C hl hnm F E => ?_)
  have F : Fx C RX10 cX10_within 3 rm_X10_within K := F
  refine v_iload_n F (dq dkX10_within_0 0 rfl) rfl 0 rfl ?_
  refine v_iload_n F (dq dkX10_within_0 1 rfl) rfl 1 rfl ?_
  refine v_icmp_lt F (tgt := 14) (dq dkX10_within_0 2 rfl) (by decide) (fun c1 => ?_) (fun c1 => ?_)
  · rw [if_pos c1] at h
    refine v_sub [] rfl ?_
    exact t_X10_within_14 h F E
  · rw [if_neg c1] at h
    refine v_iload_n F (dq dkX10_within_0 3 rfl) rfl 0 rfl ?_
    refine v_iload_n F (dq dkX10_within_0 4 rfl) rfl 2 rfl ?_
    refine v_icmp_gt F (tgt := 14) (dq dkX10_within_0 5 rfl) (by decide) (fun c2 => ?_) (fun c2 => ?_)
    · rw [if_pos c2] at h
      refine v_sub [] rfl ?_
      exact t_X10_within_14 h F E
    · rw [if_neg c2] at h
      refine v_iconst F (v := 1) (dq dkX10_within_0 6 rfl) ki_1 ?_
      refine v_goto F (tgt := 15) (dq dkX10_within_0 7 rfl) (by decide) ?_
      subst h
      exact v_zret F E (b2i_n true) (dq dkX10_within_0 9 rfl)
def rm_X0_part : Room := { frames := 2, cells := 0, slots := 0, locals := 60 }
def f_X0_part (x : CS) (t0 : Nat) (a1 : Int32) : Option (Int64) := gd (kFr x t0) (if (b2i (f_X10_within a1 0 1)) = 0 then (some (-4611686018427387904)) else (gd (kFr x t0) (gd (kFr x t0) ((f_X0_commonOf (tl x t0 1) (tl x t0 0)).bind fun r5 => if 0 ≤ (lg_cmp r5 1) then (if a1 = 0 then (gd (kFr x t0) (gd (decide (¬ r5 = 0)) (some ((tl x t0 0) / r5)))) else (gd (kFr x t0) (gd (decide (¬ r5 = 0)) (some ((tl x t0 1) / r5))))) else (some (-4611686018427387904))))))
set_option maxRecDepth 100000 in
set_option maxHeartbeats 4000000 in
theorem c_X0_part {K : KE} {l : Launch} {R : Int64} (x : CS) (y : MS) (t0 : Nat) (a1 : Int32) (h : f_X0_part x t0 a1 = some R) : MC K l yX0_part cX0_part 4 (some .long) rm_X0_part 0 0 [.ref (K.1 + t0), .int a1] (xf K x y) (xf K x y) (some (.long R)) := by
  unfold f_X0_part at h
  obtain ⟨_, h⟩ := gd_of h
  refine mc_of (ls0 := [(0, .ref (K.1 + t0)), (1, .int a1)]) (by decide) (Nat.le_of_ble_eq_true rfl) rfl (fun C hl hnm F E => ?_)
  have F : Fx C RX0 cX0_part 4 rm_X0_part K := F
  refine v_iload_n F (dq dkX0_part_0 0 rfl) rfl 1 rfl ?_
  refine v_iconst F (v := 0) (dq dkX0_part_0 1 rfl) ki_0 ?_
  refine v_iconst F (v := 1) (dq dkX0_part_0 2 rfl) ki_1 ?_
  refine v_callSN 3 F (kc1 := 0) (ks1 := 0) (as := [.int a1, .int 0, .int 1]) (st := []) (st1 := (.int (b2i (f_X10_within a1 0 1)) :: [])) (res := (some (.int (b2i (f_X10_within a1 0 1))))) (c_X10_within (l := C.2.1) a1 0 1) (List.mem_of_getElem? (i := 11) rfl) (tc8 _ (List.mem_of_getElem? (i := 15) rfl)) (tc1 _ (List.mem_of_getElem? (i := 2) rfl)) (tc8 _ (List.mem_of_getElem? (i := 16) rfl)) (by decide) rfl ⟨rfl, rfl, Nat.le_of_ble_eq_true rfl, Nat.le_of_ble_eq_true rfl⟩ ⟨Nat.le_of_ble_eq_true rfl, Nat.le_of_ble_eq_true rfl⟩ rfl (Nat.le_of_ble_eq_true rfl) rfl rfl rfl (dq dkX0_part_0 3 rfl) ?_
  refine v_if_ne F (tgt := 13) (dq dkX0_part_0 4 rfl) (by decide) (fun c2 => ?_) (fun c2 => ?_)
  · rw [if_neg c2] at h
    refine v_aload_n F (dq dkX0_part_0 7 rfl) rfl 0 rfl ?_
    obtain ⟨g3, h⟩ := gd_of h
    refine v_get F t0 (kFr_lt g3) (kFr_at g3) rfl inlX0 1 (by decide) (tc33 _ (List.mem_of_getElem? (i := 7) rfl)) rfl rfl (dq dkX0_part_0 8 rfl) ?_
    refine v_aload_n F (dq dkX0_part_0 9 rfl) rfl 0 rfl ?_
    obtain ⟨g4, h⟩ := gd_of h
    refine v_get F t0 (kFr_lt g4) (kFr_at g4) rfl inlX0 0 (by decide) (tc33 _ (List.mem_of_getElem? (i := 3) rfl)) rfl rfl (dq dkX0_part_0 10 rfl) ?_
    obtain ⟨r5, e6, h⟩ := bd_of h
    refine v_callS 2 F (kc1 := 0) (ks1 := 0) (as := [.long (tl x t0 1), .long (tl x t0 0)]) (st := []) (st1 := (.long r5 :: [])) (res := (some (.long r5))) (c_X0_commonOf (l := C.2.1) (tl x t0 1) (tl x t0 0) e6) (tc33 _ (List.mem_of_getElem? (i := 13) rfl)) (tc33 _ (List.mem_of_getElem? (i := 14) rfl)) (tc32 _ (List.mem_of_getElem? (i := 14) rfl)) (tc33 _ (List.mem_of_getElem? (i := 15) rfl)) (by decide) rfl ⟨rfl, rfl, Nat.le_of_ble_eq_true rfl, Nat.le_of_ble_eq_true rfl⟩ ⟨Nat.le_of_ble_eq_true rfl, Nat.le_of_ble_eq_true rfl⟩ rfl (Nat.le_of_ble_eq_true rfl) rfl rfl rfl (dq dkX0_part_0 11 rfl) ?_
    refine v_lstore_n F (ls' := [(2, .long r5), (0, .ref (K.1 + t0)), (1, .int a1)]) (dq dkX0_part_0 12 rfl) rfl (by decide) rfl ?_
    refine v_lload_n F (dq dkX0_part_0 13 rfl) rfl 0 rfl ?_
    refine v_lconst F (v := 1) (dq dkX0_part_0 14 rfl) rfl ?_
    refine v_lcmp F (dq dkX0_part_0 15 rfl) ?_
    refine v_if_ge F (tgt := 35) (dq dkX0_part_0 16 rfl) (by decide) (fun c7 => ?_) (fun c7 => ?_)
    · rw [if_pos c7] at h
      refine v_iload_n F (dq dkX0_part_0 19 rfl) rfl 2 rfl ?_
      refine v_if_ne F (tgt := 48) (dq dkX0_part_0 20 rfl) (by decide) (fun c8 => ?_) (fun c8 => ?_)
      · rw [if_neg c8] at h
        refine v_aload_n F (dq dkX0_part_0 26 rfl) rfl 1 rfl ?_
        obtain ⟨g9, h⟩ := gd_of h
        refine v_get F t0 (kFr_lt g9) (kFr_at g9) rfl inlX0 1 (by decide) (tc33 _ (List.mem_of_getElem? (i := 7) rfl)) rfl rfl (dq dkX0_part_0 27 rfl) ?_
        refine v_lload_n F (dq dkX0_part_0 28 rfl) rfl 0 rfl ?_
        obtain ⟨g10, h⟩ := gd_of h
        refine v_ldiv F (dq dkX0_part_0 29 rfl) (of_decide_eq_true g10) ?_
        have h := Option.some.inj h
        subst h
        exact v_lret F E (dq dkX0_part_0 30 rfl)
      · rw [if_pos c8] at h
        refine v_aload_n F (dq dkX0_part_0 21 rfl) rfl 1 rfl ?_
        obtain ⟨g11, h⟩ := gd_of h
        refine v_get F t0 (kFr_lt g11) (kFr_at g11) rfl inlX0 0 (by decide) (tc33 _ (List.mem_of_getElem? (i := 3) rfl)) rfl rfl (dq dkX0_part_0 22 rfl) ?_
        refine v_lload_n F (dq dkX0_part_0 23 rfl) rfl 0 rfl ?_
        obtain ⟨g12, h⟩ := gd_of h
        refine v_ldiv F (dq dkX0_part_0 24 rfl) (of_decide_eq_true g12) ?_
        refine v_goto F (tgt := 54) (dq dkX0_part_0 25 rfl) (by decide) ?_
        have h := Option.some.inj h
        subst h
        exact v_lret F E (dq dkX0_part_0 30 rfl)
    · rw [if_neg c7] at h
      refine v_ldc2 F (v := (-4611686018427387904)) (tc33 _ (List.mem_of_getElem? (i := 12) rfl)) (dq dkX0_part_0 17 rfl) ?_
      have h := Option.some.inj h
      subst h
      exact v_lret F E (dq dkX0_part_0 18 rfl)
  · rw [if_pos c2] at h
    refine v_ldc2 F (v := (-4611686018427387904)) (tc33 _ (List.mem_of_getElem? (i := 12) rfl)) (dq dkX0_part_0 5 rfl) ?_
    have h := Option.some.inj h
    subst h
    exact v_lret F E (dq dkX0_part_0 6 rfl)
theorem f_X0_part_k {R : Int64} {x : CS} {t0 : Nat} {a1 : Int32} (h : f_X0_part x t0 a1 = some R) : kFr x t0 = true := by
  unfold f_X0_part at h
  exact (gd_of h).1
def rm_X1_at : Room := { frames := 1, cells := 0, slots := 0, locals := 30 }
def f_X1_at_27 (x : CS) : Option (Option Nat) := some none
set_option maxRecDepth 100000 in
set_option maxHeartbeats 4000000 in
theorem t_X1_at_27 {C : Cx} {K : KE} {y : MS} {R : Option Nat}  (x : CS) (h : f_X1_at_27 x = some R) (F : Fx C RX1 cX1_at 2 rm_X1_at K) (E : CE C (xf K x y) (some (va_rf (R.map (fun q => K.1 + q)))) 0 0 (some (.object "HollowedByFire$Tree"))) : V C 27 [] [] (xf K x y) 0 0 := by
  unfold f_X1_at_27 at h
  refine v_null F (dq dkX1_at_0 14 rfl) ?_
  have h := Option.some.inj h
  subst h
  exact v_aret F E (Or.inl ⟨_, rfl⟩) (Or.inl rfl) (dq dkX1_at_0 15 rfl)
def f_X1_at (x : CS) (a1 : Int32) : Option (Option Nat) := if a1 < 0 then (f_X1_at_27 x) else (if (gi x 34 1) ≤ a1 then (f_X1_at_27 x) else (if 6 ≤ a1 then (f_X1_at_27 x) else (gd (ib a1 6) (oc (gtr x a1.toNatClampNeg) (some none) (fun s5 => some (some s5))))))
set_option maxRecDepth 100000 in
set_option maxHeartbeats 4000000 in
theorem c_X1_at {K : KE} {l : Launch} {R : Option Nat} (x : CS) (y : MS) (a1 : Int32) (h : f_X1_at x a1 = some R) : MC K l yX1_at cX1_at 2 (some (.object "HollowedByFire$Tree")) rm_X1_at 0 0 [.ref (K.1 + 34), .int a1] (xf K x y) (xf K x y) (some (va_rf (R.map (fun q => K.1 + q)))) := by
  unfold f_X1_at at h
  refine mc_of (ls0 := [(0, .ref (K.1 + 34)), (1, .int a1)]) (by decide) (Nat.le_of_ble_eq_true rfl) rfl (fun C hl hnm F E => ?_)
  have F : Fx C RX1 cX1_at 2 rm_X1_at K := F
  refine v_iload_n F (dq dkX1_at_0 0 rfl) rfl 1 rfl ?_
  refine v_if_lt F (tgt := 27) (dq dkX1_at_0 1 rfl) (by decide) (fun c1 => ?_) (fun c1 => ?_)
  · rw [if_pos c1] at h
    refine v_sub [] rfl ?_
    exact t_X1_at_27 x h F E
  · rw [if_neg c1] at h
    refine v_iload_n F (dq dkX1_at_0 2 rfl) rfl 1 rfl ?_
    refine v_aload_n F (dq dkX1_at_0 3 rfl) rfl 0 rfl ?_
    refine v_get F 34 (xn (by decide)) xc_34 rfl inlX1 1 (by decide) (tc4 _ (List.mem_of_getElem? (i := 19) rfl)) rfl rfl (dq dkX1_at_0 4 rfl) ?_
    refine v_icmp_ge F (tgt := 27) (dq dkX1_at_0 5 rfl) (by decide) (fun c2 => ?_) (fun c2 => ?_)
    · rw [if_pos c2] at h
      refine v_sub [] rfl ?_
      exact t_X1_at_27 x h F E
    · rw [if_neg c2] at h
      refine v_iload_n F (dq dkX1_at_0 6 rfl) rfl 1 rfl ?_
      refine v_bipush F (v := 6) (dq dkX1_at_0 7 rfl) kb_6 ?_
      refine v_icmp_ge F (tgt := 27) (dq dkX1_at_0 8 rfl) (by decide) (fun c3 => ?_) (fun c3 => ?_)
      · rw [if_pos c3] at h
        refine v_sub [] rfl ?_
        exact t_X1_at_27 x h F E
      · rw [if_neg c3] at h
        refine v_aload_n F (dq dkX1_at_0 9 rfl) rfl 0 rfl ?_
        refine v_get F 34 (xn (by decide)) xc_34 rfl inlX1 0 (by decide) (tc4 _ (List.mem_of_getElem? (i := 18) rfl)) rfl rfl (dq dkX1_at_0 10 rfl) ?_
        refine v_iload_n F (dq dkX1_at_0 11 rfl) rfl 1 rfl ?_
        obtain ⟨g4, h⟩ := gd_of h
        refine v_aald F 35 (xn (by decide)) xc_35 (t := 4) rfl rfl (ib_in g4) (dq dkX1_at_0 12 rfl) ?_
        rcases o6 : gtr x a1.toNatClampNeg with _ | s5
        all_goals rw [o6] at h
        · have h := oc_nh h
          refine v_goto F (tgt := 28) (dq dkX1_at_0 13 rfl) (by decide) ?_
          have h := Option.some.inj h
          subst h
          exact v_aret F E (Or.inl ⟨_, rfl⟩) (Or.inl rfl) (dq dkX1_at_0 15 rfl)
        · have h := oc_sh h
          refine v_goto F (tgt := 28) (dq dkX1_at_0 13 rfl) (by decide) ?_
          have h := Option.some.inj h
          subst h
          exact v_aret F E (Or.inl ⟨_, rfl⟩) (Or.inr ⟨_, rfl⟩) (dq dkX1_at_0 15 rfl)
def rm_X4_has : Room := { frames := 1, cells := 0, slots := 0, locals := 30 }
def f_X4_has_22 (t0 : Nat) (x : CS) : Option (Bool) := some false
set_option maxRecDepth 100000 in
set_option maxHeartbeats 4000000 in
theorem t_X4_has_22 {C : Cx} {K : KE} {y : MS} {R : Bool}  (t0 : Nat) (x : CS) (h : f_X4_has_22 t0 x = some R) (F : Fx C RX4 cX4_has 2 rm_X4_has K) (E : CE C (xf K x y) (some (.int (b2i R))) 0 0 (some .boolean)) : V C 22 [] [] (xf K x y) 0 0 := by
  unfold f_X4_has_22 at h
  refine v_iconst F (v := 0) (dq dkX4_has_0 11 rfl) ki_0 ?_
  have h := Option.some.inj h
  subst h
  exact v_zret F E (b2i_n false) (dq dkX4_has_0 12 rfl)
def f_X4_has (x : CS) (t0 : Nat) (a1 : Int32) : Option (Bool) := gd (kSh t0) (if a1 < 0 then (f_X4_has_22 t0 x) else (gd (kSh t0) (if (gi x t0 2) ≤ a1 then (f_X4_has_22 t0 x) else (if 40 ≤ a1 then (f_X4_has_22 t0 x) else (some true)))))
set_option maxRecDepth 100000 in
set_option maxHeartbeats 4000000 in
theorem c_X4_has {K : KE} {l : Launch} {R : Bool} (x : CS) (y : MS) (t0 : Nat) (a1 : Int32) (h : f_X4_has x t0 a1 = some R) : MC K l yX4_has cX4_has 2 (some .boolean) rm_X4_has 0 0 [.ref (K.1 + t0), .int a1] (xf K x y) (xf K x y) (some (.int (b2i R))) := by
  unfold f_X4_has at h
  obtain ⟨_, h⟩ := gd_of h
  refine mc_of (ls0 := [(0, .ref (K.1 + t0)), (1, .int a1)]) (by decide) (Nat.le_of_ble_eq_true rfl) rfl (fun C hl hnm F E => ?_)
  have F : Fx C RX4 cX4_has 2 rm_X4_has K := F
  refine v_iload_n F (dq dkX4_has_0 0 rfl) rfl 1 rfl ?_
  refine v_if_lt F (tgt := 22) (dq dkX4_has_0 1 rfl) (by decide) (fun c1 => ?_) (fun c1 => ?_)
  · rw [if_pos c1] at h
    refine v_sub [] rfl ?_
    exact t_X4_has_22 t0 x h F E
  · rw [if_neg c1] at h
    refine v_iload_n F (dq dkX4_has_0 2 rfl) rfl 1 rfl ?_
    refine v_aload_n F (dq dkX4_has_0 3 rfl) rfl 0 rfl ?_
    obtain ⟨g2, h⟩ := gd_of h
    refine v_get F t0 (kSh_lt g2) (kSh_at g2) rfl inlX4 2 (by decide) (tc5 _ (List.mem_of_getElem? (i := 18) rfl)) rfl rfl (dq dkX4_has_0 4 rfl) ?_
    refine v_icmp_ge F (tgt := 22) (dq dkX4_has_0 5 rfl) (by decide) (fun c3 => ?_) (fun c3 => ?_)
    · rw [if_pos c3] at h
      refine v_sub [] rfl ?_
      exact t_X4_has_22 t0 x h F E
    · rw [if_neg c3] at h
      refine v_iload_n F (dq dkX4_has_0 6 rfl) rfl 1 rfl ?_
      refine v_bipush F (v := 40) (dq dkX4_has_0 7 rfl) kb_40 ?_
      refine v_icmp_ge F (tgt := 22) (dq dkX4_has_0 8 rfl) (by decide) (fun c4 => ?_) (fun c4 => ?_)
      · rw [if_pos c4] at h
        refine v_sub [] rfl ?_
        exact t_X4_has_22 t0 x h F E
      · rw [if_neg c4] at h
        refine v_iconst F (v := 1) (dq dkX4_has_0 9 rfl) ki_1 ?_
        refine v_goto F (tgt := 23) (dq dkX4_has_0 10 rfl) (by decide) ?_
        have h := Option.some.inj h
        subst h
        exact v_zret F E (b2i_n true) (dq dkX4_has_0 12 rfl)
theorem f_X4_has_k {R : Bool} {x : CS} {t0 : Nat} {a1 : Int32} (h : f_X4_has x t0 a1 = some R) : kSh t0 = true := by
  unfold f_X4_has at h
  exact (gd_of h).1
def rm_X4_at : Room := { frames := 2, cells := 0, slots := 0, locals := 51 }
def f_X4_at (x : CS) (t0 : Nat) (a1 : Int32) : Option (Int32) := gd (kSh t0) ((f_X4_has x t0 a1).bind fun r1 => if (b2i r1) = 0 then (some 0) else (gd (kSh t0) (gd (ib a1 (al (t0 + 1))) (some (gi x (t0 + 1) a1.toNatClampNeg)))))
set_option maxRecDepth 100000 in
set_option maxHeartbeats 4000000 in
theorem c_X4_at {K : KE} {l : Launch} {R : Int32} (x : CS) (y : MS) (t0 : Nat) (a1 : Int32) (h : f_X4_at x t0 a1 = some R) : MC K l yX4_at cX4_at 2 (some .int) rm_X4_at 0 0 [.ref (K.1 + t0), .int a1] (xf K x y) (xf K x y) (some (.int R)) := by
  unfold f_X4_at at h
  obtain ⟨_, h⟩ := gd_of h
  refine mc_of (ls0 := [(0, .ref (K.1 + t0)), (1, .int a1)]) (by decide) (Nat.le_of_ble_eq_true rfl) rfl (fun C hl hnm F E => ?_)
  have F : Fx C RX4 cX4_at 2 rm_X4_at K := F
  refine v_aload_n F (dq dkX4_at_0 0 rfl) rfl 0 rfl ?_
  refine v_iload_n F (dq dkX4_at_0 1 rfl) rfl 1 rfl ?_
  obtain ⟨r1, e2, h⟩ := bd_of h
  refine v_callV 1 F (q := t0) (kc1 := 0) (ks1 := 0) (as := [.int a1]) (st := []) (st1 := (.int (b2i r1) :: [])) (res := (some (.int (b2i r1)))) (c_X4_has (l := C.2.1) x y t0 a1 e2) (kSh_lt (f_X4_has_k e2)) (kSh_at (f_X4_has_k e2)) rfl (tc35 _ (List.mem_of_getElem? (i := 11) rfl)) (tc35 _ (List.mem_of_getElem? (i := 12) rfl)) (tc35 _ (List.mem_of_getElem? (i := 13) rfl)) (tc2 _ (List.mem_of_getElem? (i := 22) rfl)) (tc35 _ (List.mem_of_getElem? (i := 14) rfl)) (by decide) rfl ⟨rfl, rfl, Nat.le_of_ble_eq_true rfl, Nat.le_of_ble_eq_true rfl⟩ ⟨Nat.le_of_ble_eq_true rfl, Nat.le_of_ble_eq_true rfl⟩ rfl (Nat.le_of_ble_eq_true rfl) rfl rfl rfl (dq dkX4_at_0 2 rfl) ?_
  refine v_if_eq F (tgt := 17) (dq dkX4_at_0 3 rfl) (by decide) (fun c3 => ?_) (fun c3 => ?_)
  · rw [if_pos c3] at h
    refine v_iconst F (v := 0) (dq dkX4_at_0 9 rfl) ki_0 ?_
    have h := Option.some.inj h
    subst h
    exact v_iret F E (dq dkX4_at_0 10 rfl)
  · rw [if_neg c3] at h
    refine v_aload_n F (dq dkX4_at_0 4 rfl) rfl 0 rfl ?_
    obtain ⟨g4, h⟩ := gd_of h
    refine v_get F t0 (kSh_lt g4) (kSh_at g4) rfl inlX4 0 (by decide) (tc5 _ (List.mem_of_getElem? (i := 16) rfl)) rfl rfl (dq dkX4_at_0 5 rfl) ?_
    refine v_iload_n F (dq dkX4_at_0 6 rfl) rfl 1 rfl ?_
    obtain ⟨g5, h⟩ := gd_of h
    refine v_iald F (t0 + 1) (xa_lt g5) (xa_at g5) (ib_in g5) (dq dkX4_at_0 7 rfl) ?_
    refine v_goto F (tgt := 18) (dq dkX4_at_0 8 rfl) (by decide) ?_
    have h := Option.some.inj h
    subst h
    exact v_iret F E (dq dkX4_at_0 10 rfl)
theorem f_X4_at_k {R : Int32} {x : CS} {t0 : Nat} {a1 : Int32} (h : f_X4_at x t0 a1 = some R) : kSh t0 = true := by
  unfold f_X4_at at h
  exact (gd_of h).1
def rm_X7_init : Room := { frames := 1, cells := 1, slots := 5, locals := 30 }
def f_X7_init (x : CS) (t0 : Nat) : Option (CS) := gd (kdy x t0 4) (gd (decide (27 ≤ gn x)) (gd (kdy (pal x (2, fun _ => 0, fun _ => 0)) t0 4) (gd (decide (t0 + 1 = (61 + gn x))) (gd (kTr (p4 (pal x (2, fun _ => 0, fun _ => 0)) t0) t0) (gd (kTr (pti (p4 (pal x (2, fun _ => 0, fun _ => 0)) t0) t0 1 1) t0) (gd (kTr (pti (pti (p4 (pal x (2, fun _ => 0, fun _ => 0)) t0) t0 1 1) t0 2 0) t0) (gd (kTr (pti (pti (pti (p4 (pal x (2, fun _ => 0, fun _ => 0)) t0) t0 1 1) t0 2 0) t0 3 0) t0) (some (pti (pti (pti (pti (p4 (pal x (2, fun _ => 0, fun _ => 0)) t0) t0 1 1) t0 2 0) t0 3 0) t0 4 (-1))))))))))
set_option maxRecDepth 100000 in
set_option maxHeartbeats 4000000 in
theorem c_X7_init {K : KE} {l : Launch} {R : CS} (x : CS) (y : MS) (t0 : Nat) (h : f_X7_init x t0 = some R) : MC K l yX7_init cX7_init 1 none rm_X7_init 1 5 [.ref (K.1 + t0)] (xf K x y) (xf K R y) none := by
  unfold f_X7_init at h
  obtain ⟨_, h⟩ := gd_of h
  refine mc_of (ls0 := [(0, .ref (K.1 + t0))]) (by decide) (Nat.le_of_ble_eq_true rfl) rfl (fun C hl hnm F E => ?_)
  have F : Fx C RX7 cX7_init 1 rm_X7_init K := F
  refine v_aload_n F (dq dkX7_init_0 0 rfl) rfl 0 rfl ?_
  refine v_objinit F (tc42 _ (List.mem_of_getElem? (i := 22) rfl)) (tc1 _ (List.mem_of_getElem? (i := 11) rfl)) (tc1 _ (List.mem_of_getElem? (i := 12) rfl)) (Nat.le_of_ble_eq_true rfl) (Nat.le_of_ble_eq_true rfl) (dq dkX7_init_0 1 rfl) ?_
  refine v_aload_n F (dq dkX7_init_0 2 rfl) rfl 0 rfl ?_
  refine v_iconst F (v := 5) (dq dkX7_init_0 3 rfl) ki_5 ?_
  obtain ⟨g1, h⟩ := gd_of h
  refine v_newai (kc1 := 0 + 1) (ks1 := 0 + 5) F (tc2 _ (List.mem_of_getElem? (i := 11) rfl)) (by decide) (n' := 5) rfl (by decide) (by show 0 + 1 ≤ 1; omega) (by show 0 + 5 ≤ 5; omega) rfl rfl (dq dkX7_init_0 4 rfl) ?_
  refine v_eqM (xwP (of_decide_eq_true g1) (d := (2, fun _ => 0, fun _ => 0)) rfl) ?_
  obtain ⟨g2, h⟩ := gd_of h
  obtain ⟨g3, h⟩ := gd_of h
  refine v_putF F hnm t0 (kd_lt g2) (k4_at g2) rfl inlX7 tyX7_ok nmX7 0 (by decide) (tc42 _ (List.mem_of_getElem? (i := 23) rfl)) rfl rfl rfl (tyX7_ok 0 (by decide)) rfl rfl (Nat.le_of_ble_eq_true rfl) (dq dkX7_init_0 5 rfl) ?_
  refine v_eqM (k4_w g2 (of_decide_eq_true g3)) ?_
  refine v_aload_n F (dq dkX7_init_0 6 rfl) rfl 0 rfl ?_
  refine v_iconst F (v := 1) (dq dkX7_init_0 7 rfl) ki_1 ?_
  obtain ⟨g4, h⟩ := gd_of h
  refine v_put F t0 (kTr_lt g4) (kTr_at g4) rfl inlX7 tyX7_ok nmX7 1 (by decide) (tc43 _ (List.mem_of_getElem? (i := 0) rfl)) rfl rfl (tyX7_ok 1 (by decide)) rfl rfl (Nat.le_of_ble_eq_true rfl) (dq dkX7_init_0 8 rfl) ?_
  refine v_eqM (kTr_w (j := 1) (v := 1) g4 rfl) ?_
  refine v_aload_n F (dq dkX7_init_0 9 rfl) rfl 0 rfl ?_
  refine v_iconst F (v := 0) (dq dkX7_init_0 10 rfl) ki_0 ?_
  obtain ⟨g5, h⟩ := gd_of h
  refine v_put F t0 (kTr_lt g5) (kTr_at g5) rfl inlX7 tyX7_ok nmX7 2 (by decide) (tc43 _ (List.mem_of_getElem? (i := 1) rfl)) rfl rfl (tyX7_ok 2 (by decide)) rfl rfl (Nat.le_of_ble_eq_true rfl) (dq dkX7_init_0 11 rfl) ?_
  refine v_eqM (kTr_w (j := 2) (v := 0) g5 rfl) ?_
  refine v_aload_n F (dq dkX7_init_0 12 rfl) rfl 0 rfl ?_
  refine v_iconst F (v := 0) (dq dkX7_init_0 13 rfl) ki_0 ?_
  obtain ⟨g6, h⟩ := gd_of h
  refine v_put F t0 (kTr_lt g6) (kTr_at g6) rfl inlX7 tyX7_ok nmX7 3 (by decide) (tc43 _ (List.mem_of_getElem? (i := 2) rfl)) rfl rfl (tyX7_ok 3 (by decide)) rfl rfl (Nat.le_of_ble_eq_true rfl) (dq dkX7_init_0 14 rfl) ?_
  refine v_eqM (kTr_w (j := 3) (v := 0) g6 rfl) ?_
  refine v_aload_n F (dq dkX7_init_0 15 rfl) rfl 0 rfl ?_
  refine v_iconst F (v := (-1)) (dq dkX7_init_0 16 rfl) ki_m1 ?_
  obtain ⟨g7, h⟩ := gd_of h
  refine v_put F t0 (kTr_lt g7) (kTr_at g7) rfl inlX7 tyX7_ok nmX7 4 (by decide) (tc43 _ (List.mem_of_getElem? (i := 3) rfl)) rfl rfl (tyX7_ok 4 (by decide)) rfl rfl (Nat.le_of_ble_eq_true rfl) (dq dkX7_init_0 17 rfl) ?_
  refine v_eqM (kTr_w (j := 4) (v := (-1)) g7 rfl) ?_
  have h := Option.some.inj h
  subst h
  refine v_wide (kc' := 1) (ks1 := 5) (by omega) (by omega) ?_
  exact v_vret F E (dq dkX7_init_0 18 rfl)
theorem f_X7_init_k {R : CS} {x : CS} {t0 : Nat} (h : f_X7_init x t0 = some R) : kdy x t0 4 = true := by
  unfold f_X7_init at h
  exact (gd_of h).1
def rm_X1_add : Room := { frames := 3, cells := 2, slots := 10, locals := 72 }
def f_X1_add_16 (x : CS) : Option (Int32 × CS) := some ((-4), x)
set_option maxRecDepth 100000 in
set_option maxHeartbeats 4000000 in
theorem t_X1_add_16 {C : Cx} {K : KE} {y : MS} {R : Int32 × CS}  (x : CS) (kc ks : Nat) (hkc : kc + (0) ≤ 2) (hks : ks + (0) ≤ 10) (h : f_X1_add_16 x = some R) (F : Fx C RX1 cX1_add 7 rm_X1_add K) (E : CE C (xf K R.2 y) (some (.int R.1)) 2 10 (some .int)) : V C 16 [] [] (xf K x y) kc ks := by
  unfold f_X1_add_16 at h
  refine v_bipush F (v := (-4)) (dq dkX1_add_0 7 rfl) kb_m4 ?_
  have h := Option.some.inj h
  subst h
  refine v_wide (kc' := 2) (ks1 := 10) (by omega) (by omega) ?_
  exact v_iret F E (dq dkX1_add_0 8 rfl)
def f_X1_add_49 : Nat → CS → Option Nat → Nat → Int32 → Option (Int32 × CS)
  | 0, _, _, _, _ => none
  | n + 1, x, a4, a5, a6 => oc a4 (if 5 ≤ a6 then (gd (kTr x a5) (gd (ib (gi x 34 1) 6) (some ((gi (pi (ptr x (gi x 34 1).toNatClampNeg (some a5)) 34 1 ((gi (ptr x (gi x 34 1).toNatClampNeg (some a5)) 34 1) + 1)) 34 1) - 1, pi (ptr x (gi x 34 1).toNatClampNeg (some a5)) 34 1 ((gi (ptr x (gi x 34 1).toNatClampNeg (some a5)) 34 1) + 1))))) else (gd (kTr x a5) none)) (fun za4 => if 5 ≤ a6 then (gd (kTr x a5) (gd (ib (gi x 34 1) 6) (some ((gi (pi (ptr x (gi x 34 1).toNatClampNeg (some a5)) 34 1 ((gi (ptr x (gi x 34 1).toNatClampNeg (some a5)) 34 1) + 1)) 34 1) - 1, pi (ptr x (gi x 34 1).toNatClampNeg (some a5)) 34 1 ((gi (ptr x (gi x 34 1).toNatClampNeg (some a5)) 34 1) + 1))))) else (gd (kTr x a5) ((f_X4_at x za4 a6).bind fun r9 => gd (kRg x (a5 + 1)) (gd (ib a6 5) ((f_X1_add_49 n) (pti x (a5 + 1) a6.toNatClampNeg r9) (some za4) a5 (a6 + 1))))))
set_option maxRecDepth 100000 in
set_option maxHeartbeats 4000000 in
theorem t_X1_add_49 {C : Cx} {K : KE} {y : MS} {R : Int32 × CS}  (F : Fx C RX1 cX1_add 7 rm_X1_add K) (E : CE C (xf K R.2 y) (some (.int R.1)) 2 10 (some .int)) : ∀ (n : Nat) (x : CS) (a4 : Option Nat) (a5 : Nat) (a6 : Int32) (kc ks : Nat) (hkc : kc + ((0 * n + 0)) ≤ 2) (hks : ks + ((0 * n + 0)) ≤ 10) (h : f_X1_add_49 n x a4 a5 a6 = some R), V C 49 [(0, .ref (K.1 + 34)), (4, va_rf (a4.map (fun q => K.1 + q))), (5, .ref (K.1 + a5)), (6, .int a6)] [] (xf K x y) kc ks := by
  intro n
  induction n with
  | zero => intro x a4 a5 a6 kc ks hkc hks h; cases h
  | succ n ih =>
    intro x a4 a5 a6 kc ks hkc hks h
    rw [f_X1_add_49] at h
    rcases a4 with _ | za4
    · have h := oc_nh h
      refine v_iload F (dq dkX1_add_0 24 rfl) 3 rfl ?_
      refine v_iconst F (v := 5) (dq dkX1_add_0 25 rfl) ki_5 ?_
      refine v_icmp_ge F (tgt := 76) (dq dkX1_add_0 26 rfl) (by decide) (fun c1 => ?_) (fun c1 => ?_)
      · rw [if_pos c1] at h
        refine v_aload_n F (dq dkX1_add_0 36 rfl) rfl 0 rfl ?_
        refine v_get F 34 (xn (by decide)) xc_34 rfl inlX1 0 (by decide) (tc4 _ (List.mem_of_getElem? (i := 18) rfl)) rfl rfl (dq dkX1_add_0 37 rfl) ?_
        refine v_aload_n F (dq dkX1_add_0 38 rfl) rfl 0 rfl ?_
        refine v_get F 34 (xn (by decide)) xc_34 rfl inlX1 1 (by decide) (tc4 _ (List.mem_of_getElem? (i := 19) rfl)) rfl rfl (dq dkX1_add_0 39 rfl) ?_
        refine v_aload F (dq dkX1_add_1 0 rfl) 2 rfl ?_
        obtain ⟨g2, h⟩ := gd_of h
        obtain ⟨g3, h⟩ := gd_of h
        refine v_aast F 35 (xn (by decide)) xc_35 (kTr_lt g2) (kTr_at g2) rfl rfl (ib_in g3) (dq dkX1_add_1 1 rfl) ?_
        refine v_eqM (xw_tr (i := (gi x 34 1).toNatClampNeg) (v := a5)) ?_
        refine v_aload_n F (dq dkX1_add_1 2 rfl) rfl 0 rfl ?_
        refine v_dup F (dq dkX1_add_1 3 rfl) rfl ?_
        refine v_get F 34 (xn (by decide)) xc_34 rfl inlX1 1 (by decide) (tc4 _ (List.mem_of_getElem? (i := 19) rfl)) rfl rfl (dq dkX1_add_1 4 rfl) ?_
        refine v_iconst F (v := 1) (dq dkX1_add_1 5 rfl) ki_1 ?_
        refine v_iadd F (dq dkX1_add_1 6 rfl) ?_
        refine v_put F 34 (xn (by decide)) xc_34 rfl inlX1 tyX1_ok nmX1 1 (by decide) (tc4 _ (List.mem_of_getElem? (i := 19) rfl)) rfl rfl (tyX1_ok 1 (by decide)) rfl rfl (Nat.le_of_ble_eq_true rfl) (dq dkX1_add_1 7 rfl) ?_
        refine v_eqM (xwC (q := 34) (j := 1) (v := (gi (ptr x (gi x 34 1).toNatClampNeg (some a5)) 34 1) + 1) (by decide) rfl) ?_
        refine v_aload_n F (dq dkX1_add_1 8 rfl) rfl 0 rfl ?_
        refine v_get F 34 (xn (by decide)) xc_34 rfl inlX1 1 (by decide) (tc4 _ (List.mem_of_getElem? (i := 19) rfl)) rfl rfl (dq dkX1_add_1 9 rfl) ?_
        refine v_iconst F (v := 1) (dq dkX1_add_1 10 rfl) ki_1 ?_
        refine v_isub F (dq dkX1_add_1 11 rfl) ?_
        have h := Option.some.inj h
        subst h
        refine v_wide (kc' := 2) (ks1 := 10) (by omega) (by omega) ?_
        exact v_iret F E (dq dkX1_add_1 12 rfl)
      · rw [if_neg c1] at h
        refine v_aload F (dq dkX1_add_0 27 rfl) 2 rfl ?_
        obtain ⟨g4, h⟩ := gd_of h
        refine v_getN F a5 (kTr_lt g4) (kTr_at g4) rfl inlX7 0 (by decide) (List.mem_of_getElem? (i := 19) rfl) rfl rfl (dq dkX1_add_0 28 rfl) ?_
        refine v_iload F (dq dkX1_add_0 29 rfl) 3 rfl ?_
        refine v_aloadN F (dq dkX1_add_0 30 rfl) 1 rfl ?_
        refine v_iload F (dq dkX1_add_0 31 rfl) 3 rfl ?_
        cases h
    · have h := oc_sh h
      refine v_iload F (dq dkX1_add_0 24 rfl) 3 rfl ?_
      refine v_iconst F (v := 5) (dq dkX1_add_0 25 rfl) ki_5 ?_
      refine v_icmp_ge F (tgt := 76) (dq dkX1_add_0 26 rfl) (by decide) (fun c5 => ?_) (fun c5 => ?_)
      · rw [if_pos c5] at h
        refine v_aload_n F (dq dkX1_add_0 36 rfl) rfl 0 rfl ?_
        refine v_get F 34 (xn (by decide)) xc_34 rfl inlX1 0 (by decide) (tc4 _ (List.mem_of_getElem? (i := 18) rfl)) rfl rfl (dq dkX1_add_0 37 rfl) ?_
        refine v_aload_n F (dq dkX1_add_0 38 rfl) rfl 0 rfl ?_
        refine v_get F 34 (xn (by decide)) xc_34 rfl inlX1 1 (by decide) (tc4 _ (List.mem_of_getElem? (i := 19) rfl)) rfl rfl (dq dkX1_add_0 39 rfl) ?_
        refine v_aload F (dq dkX1_add_1 0 rfl) 2 rfl ?_
        obtain ⟨g6, h⟩ := gd_of h
        obtain ⟨g7, h⟩ := gd_of h
        refine v_aast F 35 (xn (by decide)) xc_35 (kTr_lt g6) (kTr_at g6) rfl rfl (ib_in g7) (dq dkX1_add_1 1 rfl) ?_
        refine v_eqM (xw_tr (i := (gi x 34 1).toNatClampNeg) (v := a5)) ?_
        refine v_aload_n F (dq dkX1_add_1 2 rfl) rfl 0 rfl ?_
        refine v_dup F (dq dkX1_add_1 3 rfl) rfl ?_
        refine v_get F 34 (xn (by decide)) xc_34 rfl inlX1 1 (by decide) (tc4 _ (List.mem_of_getElem? (i := 19) rfl)) rfl rfl (dq dkX1_add_1 4 rfl) ?_
        refine v_iconst F (v := 1) (dq dkX1_add_1 5 rfl) ki_1 ?_
        refine v_iadd F (dq dkX1_add_1 6 rfl) ?_
        refine v_put F 34 (xn (by decide)) xc_34 rfl inlX1 tyX1_ok nmX1 1 (by decide) (tc4 _ (List.mem_of_getElem? (i := 19) rfl)) rfl rfl (tyX1_ok 1 (by decide)) rfl rfl (Nat.le_of_ble_eq_true rfl) (dq dkX1_add_1 7 rfl) ?_
        refine v_eqM (xwC (q := 34) (j := 1) (v := (gi (ptr x (gi x 34 1).toNatClampNeg (some a5)) 34 1) + 1) (by decide) rfl) ?_
        refine v_aload_n F (dq dkX1_add_1 8 rfl) rfl 0 rfl ?_
        refine v_get F 34 (xn (by decide)) xc_34 rfl inlX1 1 (by decide) (tc4 _ (List.mem_of_getElem? (i := 19) rfl)) rfl rfl (dq dkX1_add_1 9 rfl) ?_
        refine v_iconst F (v := 1) (dq dkX1_add_1 10 rfl) ki_1 ?_
        refine v_isub F (dq dkX1_add_1 11 rfl) ?_
        have h := Option.some.inj h
        subst h
        refine v_wide (kc' := 2) (ks1 := 10) (by omega) (by omega) ?_
        exact v_iret F E (dq dkX1_add_1 12 rfl)
      · rw [if_neg c5] at h
        refine v_aload F (dq dkX1_add_0 27 rfl) 2 rfl ?_
        obtain ⟨g8, h⟩ := gd_of h
        refine v_getN F a5 (kTr_lt g8) (kTr_at g8) rfl inlX7 0 (by decide) (List.mem_of_getElem? (i := 19) rfl) rfl rfl (dq dkX1_add_0 28 rfl) ?_
        refine v_iload F (dq dkX1_add_0 29 rfl) 3 rfl ?_
        refine v_aload F (dq dkX1_add_0 30 rfl) 1 rfl ?_
        refine v_iload F (dq dkX1_add_0 31 rfl) 3 rfl ?_
        obtain ⟨r9, e10, h⟩ := bd_of h
        refine v_callV 1 F (q := za4) (kc1 := kc) (ks1 := ks) (as := [.int a6]) (st := [.int a6, .ref (K.1 + (a5 + 1))]) (st1 := (.int r9 :: [.int a6, .ref (K.1 + (a5 + 1))])) (res := (some (.int r9))) (c_X4_at (l := C.2.1) x y za4 a6 e10) (kSh_lt (f_X4_at_k e10)) (kSh_at (f_X4_at_k e10)) rfl (tc43 _ (List.mem_of_getElem? (i := 4) rfl)) (tc35 _ (List.mem_of_getElem? (i := 8) rfl)) (tc35 _ (List.mem_of_getElem? (i := 9) rfl)) (tc2 _ (List.mem_of_getElem? (i := 22) rfl)) (tc35 _ (List.mem_of_getElem? (i := 10) rfl)) (by decide) rfl ⟨rfl, rfl, Nat.le_of_ble_eq_true rfl, Nat.le_of_ble_eq_true rfl⟩ ⟨by show kc + 0 ≤ 2; omega, by show ks + 0 ≤ 10; omega⟩ rfl (Nat.le_of_ble_eq_true rfl) rfl rfl rfl (dq dkX1_add_0 32 rfl) ?_
        obtain ⟨g11, h⟩ := gd_of h
        obtain ⟨g12, h⟩ := gd_of h
        refine v_iast F (a5 + 1) (kRg_lt g11) (kRg_at g11) (ib_in g12) (dq dkX1_add_0 33 rfl) ?_
        refine v_eqM (kRg_w (j := a6.toNatClampNeg) (v := r9) g11 rfl) ?_
        refine v_iinc F (v := a6 + 1) (ls' := [(6, .int (a6 + 1)), (0, .ref (K.1 + 34)), (4, .ref (K.1 + za4)), (5, .ref (K.1 + a5))]) (dq dkX1_add_0 34 rfl) (j := 3) rfl (kv_add ki_1) (by decide) rfl ?_
        refine v_goto F (tgt := 49) (dq dkX1_add_0 35 rfl) (by decide) ?_
        refine v_sub [1, 2, 3, 0] rfl ?_
        exact ih (pti x (a5 + 1) a6.toNatClampNeg r9) (some za4) a5 (a6 + 1) (kc) (ks) (by omega) (by omega) h
def f_X1_add (x : CS) (a1 : Int32) (a2 : Int32) (a3 : Int32) (a4 : Option Nat) : Option (Int32 × CS) := oc a4 (if (gi x 34 1) < 0 then (f_X1_add_16 x) else (if (gi x 34 1) < 6 then (gd (decide (27 ≤ gn x)) ((f_X7_init (pal x (4, fun _ => 0, fun _ => 0)) (61 + gn x)).bind fun r16 => gd (kTr r16 (61 + gn x)) (gd (kTr (pti r16 (61 + gn x) 1 a1) (61 + gn x)) (gd (kTr (pti (pti r16 (61 + gn x) 1 a1) (61 + gn x) 2 a2) (61 + gn x)) (f_X1_add_49 1000 (pti (pti (pti r16 (61 + gn x) 1 a1) (61 + gn x) 2 a2) (61 + gn x) 3 a3) none (61 + gn x) 0))))) else (f_X1_add_16 x))) (fun za4 => if (gi x 34 1) < 0 then (f_X1_add_16 x) else (if (gi x 34 1) < 6 then (gd (decide (27 ≤ gn x)) ((f_X7_init (pal x (4, fun _ => 0, fun _ => 0)) (61 + gn x)).bind fun r24 => gd (kTr r24 (61 + gn x)) (gd (kTr (pti r24 (61 + gn x) 1 a1) (61 + gn x)) (gd (kTr (pti (pti r24 (61 + gn x) 1 a1) (61 + gn x) 2 a2) (61 + gn x)) (f_X1_add_49 1000 (pti (pti (pti r24 (61 + gn x) 1 a1) (61 + gn x) 2 a2) (61 + gn x) 3 a3) (some za4) (61 + gn x) 0))))) else (f_X1_add_16 x)))
set_option maxRecDepth 100000 in
set_option maxHeartbeats 4000000 in
theorem c_X1_add {K : KE} {l : Launch} {R : Int32 × CS} (x : CS) (y : MS) (a1 : Int32) (a2 : Int32) (a3 : Int32) (a4 : Option Nat) (h : f_X1_add x a1 a2 a3 a4 = some R) : MC K l yX1_add cX1_add 7 (some .int) rm_X1_add 2 10 [.ref (K.1 + 34), .int a1, .int a2, .int a3, va_rf (a4.map (fun q => K.1 + q))] (xf K x y) (xf K R.2 y) (some (.int R.1)) := by
  unfold f_X1_add at h
  rcases a4 with _ | za4
  · have h := oc_nh h
    refine mc_of (ls0 := [(0, .ref (K.1 + 34)), (1, .int a1), (2, .int a2), (3, .int a3), (4, .null)]) (by decide) (Nat.le_of_ble_eq_true rfl) rfl (fun C hl hnm F E => ?_)
    have F : Fx C RX1 cX1_add 7 rm_X1_add K := F
    refine v_aload_n F (dq dkX1_add_0 0 rfl) rfl 0 rfl ?_
    refine v_get F 34 (xn (by decide)) xc_34 rfl inlX1 1 (by decide) (tc4 _ (List.mem_of_getElem? (i := 19) rfl)) rfl rfl (dq dkX1_add_0 1 rfl) ?_
    refine v_if_lt F (tgt := 16) (dq dkX1_add_0 2 rfl) (by decide) (fun c13 => ?_) (fun c13 => ?_)
    · rw [if_pos c13] at h
      refine v_sub [] rfl ?_
      exact t_X1_add_16 x (0) (0) (by omega) (by omega) h F E
    · rw [if_neg c13] at h
      refine v_aload_n F (dq dkX1_add_0 3 rfl) rfl 0 rfl ?_
      refine v_get F 34 (xn (by decide)) xc_34 rfl inlX1 1 (by decide) (tc4 _ (List.mem_of_getElem? (i := 19) rfl)) rfl rfl (dq dkX1_add_0 4 rfl) ?_
      refine v_bipush F (v := 6) (dq dkX1_add_0 5 rfl) kb_6 ?_
      refine v_icmp_lt F (tgt := 19) (dq dkX1_add_0 6 rfl) (by decide) (fun c14 => ?_) (fun c14 => ?_)
      · rw [if_pos c14] at h
        obtain ⟨g15, h⟩ := gd_of h
        refine v_new (ci := 6) (fs := [.null, .int 0, .int 0, .int 0, .int 0]) (kc1 := 0 + 1) (ks1 := 0 + 5) F rfl inlX7 tyX7_ok (tc4 _ (List.mem_of_getElem? (i := 17) rfl)) (tc42 _ (List.mem_of_getElem? (i := 18) rfl)) (tc42 _ (List.mem_of_getElem? (i := 19) rfl)) (fun j hj => by rcases (show j = 0 ∨ j = 1 ∨ j = 2 ∨ j = 3 ∨ j = 4 by omega) with rfl | rfl | rfl | rfl | rfl <;> rfl) (by show 0 + 1 ≤ 2; omega) (by show 0 + 5 ≤ 10; omega) rfl rfl (dq dkX1_add_0 9 rfl) ?_
        refine v_eqM (xwP (of_decide_eq_true g15) (d := (4, fun _ => 0, fun _ => 0)) rfl) ?_
        refine v_dup F (dq dkX1_add_0 10 rfl) rfl ?_
        obtain ⟨r16, e17, h⟩ := bd_of h
        refine v_callIN 0 F (q := 61 + gn x) (as := []) (st := [.ref (K.1 + (61 + gn x))]) (kc1 := 0 + 1 + 1) (ks1 := 0 + 5 + 5) (c_X7_init (l := C.2.1) (pal x (4, fun _ => 0, fun _ => 0)) y (61 + gn x) e17) (List.mem_of_getElem? (i := 12) rfl) (tc42 _ (List.mem_of_getElem? (i := 20) rfl)) (tc42 _ (List.mem_of_getElem? (i := 19) rfl)) (tc42 _ (List.mem_of_getElem? (i := 21) rfl)) rfl (by decide) rfl ⟨rfl, rfl, Nat.le_of_ble_eq_true rfl, Nat.le_of_ble_eq_true rfl⟩ ⟨by show 0 + 1 + 1 ≤ 2; omega, by show 0 + 5 + 5 ≤ 10; omega⟩ rfl (Nat.le_of_ble_eq_true rfl) rfl rfl (dq dkX1_add_0 11 rfl) ?_
        refine v_astore F (ls' := [(5, .ref (K.1 + (61 + gn x))), (0, .ref (K.1 + 34)), (1, .int a1), (2, .int a2), (3, .int a3), (4, .null)]) (dq dkX1_add_0 12 rfl) (by decide) rfl ?_
        refine v_aload F (dq dkX1_add_0 13 rfl) 0 rfl ?_
        refine v_iload_n F (dq dkX1_add_0 14 rfl) rfl 2 rfl ?_
        obtain ⟨g18, h⟩ := gd_of h
        refine v_putN F (61 + gn x) (kTr_lt g18) (kTr_at g18) rfl inlX7 tyX7_ok nmX7 1 (by decide) (List.mem_of_getElem? (i := 20) rfl) rfl rfl (tyX7_ok 1 (by decide)) rfl rfl (Nat.le_of_ble_eq_true rfl) (dq dkX1_add_0 15 rfl) ?_
        refine v_eqM (kTr_w (j := 1) (v := a1) g18 rfl) ?_
        refine v_aload F (dq dkX1_add_0 16 rfl) 0 rfl ?_
        refine v_iload_n F (dq dkX1_add_0 17 rfl) rfl 3 rfl ?_
        obtain ⟨g19, h⟩ := gd_of h
        refine v_putN F (61 + gn x) (kTr_lt g19) (kTr_at g19) rfl inlX7 tyX7_ok nmX7 2 (by decide) (List.mem_of_getElem? (i := 22) rfl) rfl rfl (tyX7_ok 2 (by decide)) rfl rfl (Nat.le_of_ble_eq_true rfl) (dq dkX1_add_0 18 rfl) ?_
        refine v_eqM (kTr_w (j := 2) (v := a2) g19 rfl) ?_
        refine v_aload F (dq dkX1_add_0 19 rfl) 0 rfl ?_
        refine v_iload_n F (dq dkX1_add_0 20 rfl) rfl 4 rfl ?_
        obtain ⟨g20, h⟩ := gd_of h
        refine v_putN F (61 + gn x) (kTr_lt g20) (kTr_at g20) rfl inlX7 tyX7_ok nmX7 3 (by decide) (List.mem_of_getElem? (i := 23) rfl) rfl rfl (tyX7_ok 3 (by decide)) rfl rfl (Nat.le_of_ble_eq_true rfl) (dq dkX1_add_0 21 rfl) ?_
        refine v_eqM (kTr_w (j := 3) (v := a3) g20 rfl) ?_
        refine v_iconst F (v := 0) (dq dkX1_add_0 22 rfl) ki_0 ?_
        refine v_istore F (ls' := [(6, .int 0), (5, .ref (K.1 + (61 + gn x))), (0, .ref (K.1 + 34)), (1, .int a1), (2, .int a2), (3, .int a3), (4, .null)]) (dq dkX1_add_0 23 rfl) (by decide) rfl ?_
        refine v_sub [2, 6, 1, 0] rfl ?_
        exact t_X1_add_49 F E 1000 (pti (pti (pti r16 (61 + gn x) 1 a1) (61 + gn x) 2 a2) (61 + gn x) 3 a3) none (61 + gn x) 0 (0 + 1 + 1) (0 + 5 + 5) (by omega) (by omega) h
      · rw [if_neg c14] at h
        refine v_sub [] rfl ?_
        exact t_X1_add_16 x (0) (0) (by omega) (by omega) h F E
  · have h := oc_sh h
    refine mc_of (ls0 := [(0, .ref (K.1 + 34)), (1, .int a1), (2, .int a2), (3, .int a3), (4, .ref (K.1 + za4))]) (by decide) (Nat.le_of_ble_eq_true rfl) rfl (fun C hl hnm F E => ?_)
    have F : Fx C RX1 cX1_add 7 rm_X1_add K := F
    refine v_aload_n F (dq dkX1_add_0 0 rfl) rfl 0 rfl ?_
    refine v_get F 34 (xn (by decide)) xc_34 rfl inlX1 1 (by decide) (tc4 _ (List.mem_of_getElem? (i := 19) rfl)) rfl rfl (dq dkX1_add_0 1 rfl) ?_
    refine v_if_lt F (tgt := 16) (dq dkX1_add_0 2 rfl) (by decide) (fun c21 => ?_) (fun c21 => ?_)
    · rw [if_pos c21] at h
      refine v_sub [] rfl ?_
      exact t_X1_add_16 x (0) (0) (by omega) (by omega) h F E
    · rw [if_neg c21] at h
      refine v_aload_n F (dq dkX1_add_0 3 rfl) rfl 0 rfl ?_
      refine v_get F 34 (xn (by decide)) xc_34 rfl inlX1 1 (by decide) (tc4 _ (List.mem_of_getElem? (i := 19) rfl)) rfl rfl (dq dkX1_add_0 4 rfl) ?_
      refine v_bipush F (v := 6) (dq dkX1_add_0 5 rfl) kb_6 ?_
      refine v_icmp_lt F (tgt := 19) (dq dkX1_add_0 6 rfl) (by decide) (fun c22 => ?_) (fun c22 => ?_)
      · rw [if_pos c22] at h
        obtain ⟨g23, h⟩ := gd_of h
        refine v_new (ci := 6) (fs := [.null, .int 0, .int 0, .int 0, .int 0]) (kc1 := 0 + 1) (ks1 := 0 + 5) F rfl inlX7 tyX7_ok (tc4 _ (List.mem_of_getElem? (i := 17) rfl)) (tc42 _ (List.mem_of_getElem? (i := 18) rfl)) (tc42 _ (List.mem_of_getElem? (i := 19) rfl)) (fun j hj => by rcases (show j = 0 ∨ j = 1 ∨ j = 2 ∨ j = 3 ∨ j = 4 by omega) with rfl | rfl | rfl | rfl | rfl <;> rfl) (by show 0 + 1 ≤ 2; omega) (by show 0 + 5 ≤ 10; omega) rfl rfl (dq dkX1_add_0 9 rfl) ?_
        refine v_eqM (xwP (of_decide_eq_true g23) (d := (4, fun _ => 0, fun _ => 0)) rfl) ?_
        refine v_dup F (dq dkX1_add_0 10 rfl) rfl ?_
        obtain ⟨r24, e25, h⟩ := bd_of h
        refine v_callIN 0 F (q := 61 + gn x) (as := []) (st := [.ref (K.1 + (61 + gn x))]) (kc1 := 0 + 1 + 1) (ks1 := 0 + 5 + 5) (c_X7_init (l := C.2.1) (pal x (4, fun _ => 0, fun _ => 0)) y (61 + gn x) e25) (List.mem_of_getElem? (i := 12) rfl) (tc42 _ (List.mem_of_getElem? (i := 20) rfl)) (tc42 _ (List.mem_of_getElem? (i := 19) rfl)) (tc42 _ (List.mem_of_getElem? (i := 21) rfl)) rfl (by decide) rfl ⟨rfl, rfl, Nat.le_of_ble_eq_true rfl, Nat.le_of_ble_eq_true rfl⟩ ⟨by show 0 + 1 + 1 ≤ 2; omega, by show 0 + 5 + 5 ≤ 10; omega⟩ rfl (Nat.le_of_ble_eq_true rfl) rfl rfl (dq dkX1_add_0 11 rfl) ?_
        refine v_astore F (ls' := [(5, .ref (K.1 + (61 + gn x))), (0, .ref (K.1 + 34)), (1, .int a1), (2, .int a2), (3, .int a3), (4, .ref (K.1 + za4))]) (dq dkX1_add_0 12 rfl) (by decide) rfl ?_
        refine v_aload F (dq dkX1_add_0 13 rfl) 0 rfl ?_
        refine v_iload_n F (dq dkX1_add_0 14 rfl) rfl 2 rfl ?_
        obtain ⟨g26, h⟩ := gd_of h
        refine v_putN F (61 + gn x) (kTr_lt g26) (kTr_at g26) rfl inlX7 tyX7_ok nmX7 1 (by decide) (List.mem_of_getElem? (i := 20) rfl) rfl rfl (tyX7_ok 1 (by decide)) rfl rfl (Nat.le_of_ble_eq_true rfl) (dq dkX1_add_0 15 rfl) ?_
        refine v_eqM (kTr_w (j := 1) (v := a1) g26 rfl) ?_
        refine v_aload F (dq dkX1_add_0 16 rfl) 0 rfl ?_
        refine v_iload_n F (dq dkX1_add_0 17 rfl) rfl 3 rfl ?_
        obtain ⟨g27, h⟩ := gd_of h
        refine v_putN F (61 + gn x) (kTr_lt g27) (kTr_at g27) rfl inlX7 tyX7_ok nmX7 2 (by decide) (List.mem_of_getElem? (i := 22) rfl) rfl rfl (tyX7_ok 2 (by decide)) rfl rfl (Nat.le_of_ble_eq_true rfl) (dq dkX1_add_0 18 rfl) ?_
        refine v_eqM (kTr_w (j := 2) (v := a2) g27 rfl) ?_
        refine v_aload F (dq dkX1_add_0 19 rfl) 0 rfl ?_
        refine v_iload_n F (dq dkX1_add_0 20 rfl) rfl 4 rfl ?_
        obtain ⟨g28, h⟩ := gd_of h
        refine v_putN F (61 + gn x) (kTr_lt g28) (kTr_at g28) rfl inlX7 tyX7_ok nmX7 3 (by decide) (List.mem_of_getElem? (i := 23) rfl) rfl rfl (tyX7_ok 3 (by decide)) rfl rfl (Nat.le_of_ble_eq_true rfl) (dq dkX1_add_0 21 rfl) ?_
        refine v_eqM (kTr_w (j := 3) (v := a3) g28 rfl) ?_
        refine v_iconst F (v := 0) (dq dkX1_add_0 22 rfl) ki_0 ?_
        refine v_istore F (ls' := [(6, .int 0), (5, .ref (K.1 + (61 + gn x))), (0, .ref (K.1 + 34)), (1, .int a1), (2, .int a2), (3, .int a3), (4, .ref (K.1 + za4))]) (dq dkX1_add_0 23 rfl) (by decide) rfl ?_
        refine v_sub [2, 6, 1, 0] rfl ?_
        exact t_X1_add_49 F E 1000 (pti (pti (pti r24 (61 + gn x) 1 a1) (61 + gn x) 2 a2) (61 + gn x) 3 a3) (some za4) (61 + gn x) 0 (0 + 1 + 1) (0 + 5 + 5) (by omega) (by omega) h
      · rw [if_neg c22] at h
        refine v_sub [] rfl ?_
        exact t_X1_add_16 x (0) (0) (by omega) (by omega) h F E
def rm_X7_counts : Room := { frames := 2, cells := 0, slots := 0, locals := 52 }
def f_X7_counts (x : CS) (t0 : Nat) (a1 : Int32) : Option (Int32) := gd (kTr x t0) (if (b2i (f_X10_within a1 0 4)) = 0 then (some 0) else (gd (kTr x t0) (gd (kRg x (t0 + 1)) (gd (ib a1 5) (some (ti x (t0 + 1) a1.toNatClampNeg))))))
set_option maxRecDepth 100000 in
set_option maxHeartbeats 4000000 in
theorem c_X7_counts {K : KE} {l : Launch} {R : Int32} (x : CS) (y : MS) (t0 : Nat) (a1 : Int32) (h : f_X7_counts x t0 a1 = some R) : MC K l yX7_counts cX7_counts 2 (some .int) rm_X7_counts 0 0 [.ref (K.1 + t0), .int a1] (xf K x y) (xf K x y) (some (.int R)) := by
  unfold f_X7_counts at h
  obtain ⟨_, h⟩ := gd_of h
  refine mc_of (ls0 := [(0, .ref (K.1 + t0)), (1, .int a1)]) (by decide) (Nat.le_of_ble_eq_true rfl) rfl (fun C hl hnm F E => ?_)
  have F : Fx C RX7 cX7_counts 2 rm_X7_counts K := F
  refine v_iload_n F (dq dkX7_counts_0 0 rfl) rfl 1 rfl ?_
  refine v_iconst F (v := 0) (dq dkX7_counts_0 1 rfl) ki_0 ?_
  refine v_iconst F (v := 4) (dq dkX7_counts_0 2 rfl) ki_4 ?_
  refine v_callSN 3 F (kc1 := 0) (ks1 := 0) (as := [.int a1, .int 0, .int 4]) (st := []) (st1 := (.int (b2i (f_X10_within a1 0 4)) :: [])) (res := (some (.int (b2i (f_X10_within a1 0 4))))) (c_X10_within (l := C.2.1) a1 0 4) (List.mem_of_getElem? (i := 13) rfl) (tc8 _ (List.mem_of_getElem? (i := 15) rfl)) (tc1 _ (List.mem_of_getElem? (i := 2) rfl)) (tc8 _ (List.mem_of_getElem? (i := 16) rfl)) (by decide) rfl ⟨rfl, rfl, Nat.le_of_ble_eq_true rfl, Nat.le_of_ble_eq_true rfl⟩ ⟨Nat.le_of_ble_eq_true rfl, Nat.le_of_ble_eq_true rfl⟩ rfl (Nat.le_of_ble_eq_true rfl) rfl rfl rfl (dq dkX7_counts_0 3 rfl) ?_
  refine v_if_eq F (tgt := 18) (dq dkX7_counts_0 4 rfl) (by decide) (fun c2 => ?_) (fun c2 => ?_)
  · rw [if_pos c2] at h
    refine v_iconst F (v := 0) (dq dkX7_counts_0 10 rfl) ki_0 ?_
    have h := Option.some.inj h
    subst h
    exact v_iret F E (dq dkX7_counts_0 11 rfl)
  · rw [if_neg c2] at h
    refine v_aload_n F (dq dkX7_counts_0 5 rfl) rfl 0 rfl ?_
    obtain ⟨g3, h⟩ := gd_of h
    refine v_get F t0 (kTr_lt g3) (kTr_at g3) rfl inlX7 0 (by decide) (tc42 _ (List.mem_of_getElem? (i := 23) rfl)) rfl rfl (dq dkX7_counts_0 6 rfl) ?_
    refine v_iload_n F (dq dkX7_counts_0 7 rfl) rfl 1 rfl ?_
    obtain ⟨g4, h⟩ := gd_of h
    obtain ⟨g5, h⟩ := gd_of h
    refine v_iald F (t0 + 1) (kRg_lt g4) (kRg_at g4) (ib_in g5) (dq dkX7_counts_0 8 rfl) ?_
    refine v_goto F (tgt := 19) (dq dkX7_counts_0 9 rfl) (by decide) ?_
    have h := Option.some.inj h
    subst h
    exact v_iret F E (dq dkX7_counts_0 11 rfl)
theorem f_X7_counts_k {R : Int32} {x : CS} {t0 : Nat} {a1 : Int32} (h : f_X7_counts x t0 a1 = some R) : kTr x t0 = true := by
  unfold f_X7_counts at h
  exact (gd_of h).1
def rm_X7_goodBy : Room := { frames := 1, cells := 0, slots := 0, locals := 30 }
def f_X7_goodBy (x : CS) (t0 : Nat) (a1 : Int32) : Option (Int32) := gd (kTr x t0) (gd (kTr x t0) (gd (kTr x t0) (some (if 0 < (((ti x t0 1) - (6 * a1)) - (3 * (ti x t0 3))) then (((ti x t0 1) - (6 * a1)) - (3 * (ti x t0 3))) else 0))))
set_option maxRecDepth 100000 in
set_option maxHeartbeats 4000000 in
theorem c_X7_goodBy {K : KE} {l : Launch} {R : Int32} (x : CS) (y : MS) (t0 : Nat) (a1 : Int32) (h : f_X7_goodBy x t0 a1 = some R) : MC K l yX7_goodBy cX7_goodBy 2 (some .int) rm_X7_goodBy 0 0 [.ref (K.1 + t0), .int a1] (xf K x y) (xf K x y) (some (.int R)) := by
  unfold f_X7_goodBy at h
  obtain ⟨_, h⟩ := gd_of h
  refine mc_of (ls0 := [(0, .ref (K.1 + t0)), (1, .int a1)]) (by decide) (Nat.le_of_ble_eq_true rfl) rfl (fun C hl hnm F E => ?_)
  have F : Fx C RX7 cX7_goodBy 2 rm_X7_goodBy K := F
  refine v_iconst F (v := 0) (dq dkX7_goodBy_0 0 rfl) ki_0 ?_
  refine v_aload_n F (dq dkX7_goodBy_0 1 rfl) rfl 0 rfl ?_
  obtain ⟨g1, h⟩ := gd_of h
  refine v_get F t0 (kTr_lt g1) (kTr_at g1) rfl inlX7 1 (by decide) (tc43 _ (List.mem_of_getElem? (i := 0) rfl)) rfl rfl (dq dkX7_goodBy_0 2 rfl) ?_
  refine v_bipush F (v := 6) (dq dkX7_goodBy_0 3 rfl) kb_6 ?_
  refine v_iload_n F (dq dkX7_goodBy_0 4 rfl) rfl 1 rfl ?_
  refine v_imul F (dq dkX7_goodBy_0 5 rfl) ?_
  refine v_isub F (dq dkX7_goodBy_0 6 rfl) ?_
  refine v_iconst F (v := 3) (dq dkX7_goodBy_0 7 rfl) ki_3 ?_
  refine v_aload_n F (dq dkX7_goodBy_0 8 rfl) rfl 0 rfl ?_
  obtain ⟨g2, h⟩ := gd_of h
  refine v_get F t0 (kTr_lt g2) (kTr_at g2) rfl inlX7 3 (by decide) (tc43 _ (List.mem_of_getElem? (i := 2) rfl)) rfl rfl (dq dkX7_goodBy_0 9 rfl) ?_
  refine v_imul F (dq dkX7_goodBy_0 10 rfl) ?_
  refine v_isub F (dq dkX7_goodBy_0 11 rfl) ?_
  refine v_mmax F (tc44 _ (List.mem_of_getElem? (i := 14) rfl)) (tc21 _ (List.mem_of_getElem? (i := 4) rfl)) (tc21 _ (List.mem_of_getElem? (i := 1) rfl)) (tc21 _ (List.mem_of_getElem? (i := 5) rfl)) (Nat.le_of_ble_eq_true rfl) (Nat.le_of_ble_eq_true rfl) (Nat.le_of_ble_eq_true rfl) (Nat.le_of_ble_eq_true rfl) (dq dkX7_goodBy_0 12 rfl) ?_
  have h := Option.some.inj h
  subst h
  exact v_iret F E (dq dkX7_goodBy_0 13 rfl)
theorem f_X7_goodBy_k {R : Int32} {x : CS} {t0 : Nat} {a1 : Int32} (h : f_X7_goodBy x t0 a1 = some R) : kTr x t0 = true := by
  unfold f_X7_goodBy at h
  exact (gd_of h).1
def rm_X7_mean : Room := { frames := 3, cells := 7, slots := 14, locals := 73 }
def f_X7_mean_33 (t0 : Nat) : Nat → CS → Int64 → Int64 → Int32 → Option (Option Nat × CS)
  | 0, _, _, _, _ => none
  | n + 1, x, a1, a3, a5 => if 5 ≤ a5 then (gd (decide (27 ≤ gn x)) ((f_X0_init (pal x (3, fun _ => 0, fun _ => 0)) (61 + gn x) a1 a3).bind fun r3 => some ((some (61 + gn x)), r3))) else ((f_X7_counts x t0 a5).bind fun r5 => (f_X7_goodBy x t0 a5).bind fun r7 => (f_X7_counts x t0 a5).bind fun r9 => (f_X7_mean_33 t0 n) x (a1 + (r5.toInt64 * r7.toInt64)) (a3 + r9.toInt64) (a5 + 1))
set_option maxRecDepth 100000 in
set_option maxHeartbeats 4000000 in
theorem t_X7_mean_33 {C : Cx} {K : KE} {y : MS} {R : Option Nat × CS}  (t0 : Nat) (F : Fx C RX7 cX7_mean 6 rm_X7_mean K) (E : CE C (xf K R.2 y) (some (va_rf (R.1.map (fun q => K.1 + q)))) 7 14 (some (.object "HollowedByFire$Fraction"))) : ∀ (n : Nat) (x : CS) (a1 : Int64) (a3 : Int64) (a5 : Int32) (kc ks : Nat) (hkc : kc + ((1 * n + 1)) ≤ 7) (hks : ks + ((2 * n + 2)) ≤ 14) (h : f_X7_mean_33 t0 n x a1 a3 a5 = some R), V C 33 [(0, .ref (K.1 + t0)), (1, .long a1), (3, .long a3), (5, .int a5)] [] (xf K x y) kc ks := by
  intro n
  induction n with
  | zero => intro x a1 a3 a5 kc ks hkc hks h; cases h
  | succ n ih =>
    intro x a1 a3 a5 kc ks hkc hks h
    rw [f_X7_mean_33] at h
    refine v_iload F (dq dkX7_mean_0 20 rfl) 3 rfl ?_
    refine v_iconst F (v := 5) (dq dkX7_mean_0 21 rfl) ki_5 ?_
    refine v_icmp_ge F (tgt := 73) (dq dkX7_mean_0 22 rfl) (by decide) (fun c1 => ?_) (fun c1 => ?_)
    · rw [if_pos c1] at h
      obtain ⟨g2, h⟩ := gd_of h
      refine v_new (ci := 0) (fs := [.long 0, .long 0]) (kc1 := kc + 1) (ks1 := ks + 2) F rfl inlX0 tyX0_ok (tc44 _ (List.mem_of_getElem? (i := 9) rfl)) (tc32 _ (List.mem_of_getElem? (i := 13) rfl)) (tc32 _ (List.mem_of_getElem? (i := 14) rfl)) (fun j hj => by rcases (show j = 0 ∨ j = 1 by omega) with rfl | rfl <;> rfl) (by show kc + 1 ≤ 7; omega) (by show ks + 2 ≤ 14; omega) rfl rfl (dq dkX7_mean_1 4 rfl) ?_
      refine v_eqM (xwP (of_decide_eq_true g2) (d := (3, fun _ => 0, fun _ => 0)) rfl) ?_
      refine v_dup F (dq dkX7_mean_1 5 rfl) rfl ?_
      refine v_lload_n F (dq dkX7_mean_1 6 rfl) rfl 1 rfl ?_
      refine v_lload_n F (dq dkX7_mean_1 7 rfl) rfl 2 rfl ?_
      obtain ⟨r3, e4, h⟩ := bd_of h
      refine v_callI 2 F (q := 61 + gn x) (as := [.long a1, .long a3]) (st := [.ref (K.1 + (61 + gn x))]) (kc1 := kc + 1) (ks1 := ks + 2) (c_X0_init (l := C.2.1) (pal x (3, fun _ => 0, fun _ => 0)) y (61 + gn x) a1 a3 e4) (tc44 _ (List.mem_of_getElem? (i := 15) rfl)) (tc33 _ (List.mem_of_getElem? (i := 0) rfl)) (tc32 _ (List.mem_of_getElem? (i := 14) rfl)) (tc33 _ (List.mem_of_getElem? (i := 1) rfl)) rfl (by decide) rfl ⟨rfl, rfl, Nat.le_of_ble_eq_true rfl, Nat.le_of_ble_eq_true rfl⟩ ⟨by show kc + 1 + 0 ≤ 7; omega, by show ks + 2 + 0 ≤ 14; omega⟩ rfl (Nat.le_of_ble_eq_true rfl) rfl rfl (dq dkX7_mean_1 8 rfl) ?_
      have h := Option.some.inj h
      subst h
      refine v_wide (kc' := 7) (ks1 := 14) (by omega) (by omega) ?_
      exact v_aret F E (Or.inl ⟨_, rfl⟩) (Or.inr ⟨_, rfl⟩) (dq dkX7_mean_1 9 rfl)
    · rw [if_neg c1] at h
      refine v_lload_n F (dq dkX7_mean_0 23 rfl) rfl 1 rfl ?_
      refine v_aload_n F (dq dkX7_mean_0 24 rfl) rfl 0 rfl ?_
      refine v_iload F (dq dkX7_mean_0 25 rfl) 3 rfl ?_
      obtain ⟨r5, e6, h⟩ := bd_of h
      refine v_callV 1 F (q := t0) (kc1 := kc) (ks1 := ks) (as := [.int a5]) (st := [.long a1]) (st1 := (.int r5 :: [.long a1])) (res := (some (.int r5))) (c_X7_counts (l := C.2.1) x y t0 a5 e6) (kTr_lt (f_X7_counts_k e6)) (kTr_at (f_X7_counts_k e6)) rfl (tc44 _ (List.mem_of_getElem? (i := 16) rfl)) (tc44 _ (List.mem_of_getElem? (i := 17) rfl)) (tc44 _ (List.mem_of_getElem? (i := 18) rfl)) (tc42 _ (List.mem_of_getElem? (i := 19) rfl)) (tc44 _ (List.mem_of_getElem? (i := 19) rfl)) (by decide) rfl ⟨rfl, rfl, Nat.le_of_ble_eq_true rfl, Nat.le_of_ble_eq_true rfl⟩ ⟨by show kc + 0 ≤ 7; omega, by show ks + 0 ≤ 14; omega⟩ rfl (Nat.le_of_ble_eq_true rfl) rfl rfl rfl (dq dkX7_mean_0 26 rfl) ?_
      refine v_i2l F (dq dkX7_mean_0 27 rfl) ?_
      refine v_aload_n F (dq dkX7_mean_0 28 rfl) rfl 0 rfl ?_
      refine v_iload F (dq dkX7_mean_0 29 rfl) 3 rfl ?_
      obtain ⟨r7, e8, h⟩ := bd_of h
      refine v_callV 1 F (q := t0) (kc1 := kc) (ks1 := ks) (as := [.int a5]) (st := [.long r5.toInt64, .long a1]) (st1 := (.int r7 :: [.long r5.toInt64, .long a1])) (res := (some (.int r7))) (c_X7_goodBy (l := C.2.1) x y t0 a5 e8) (kTr_lt (f_X7_goodBy_k e8)) (kTr_at (f_X7_goodBy_k e8)) rfl (tc44 _ (List.mem_of_getElem? (i := 10) rfl)) (tc44 _ (List.mem_of_getElem? (i := 11) rfl)) (tc44 _ (List.mem_of_getElem? (i := 12) rfl)) (tc42 _ (List.mem_of_getElem? (i := 19) rfl)) (tc44 _ (List.mem_of_getElem? (i := 13) rfl)) (by decide) rfl ⟨rfl, rfl, Nat.le_of_ble_eq_true rfl, Nat.le_of_ble_eq_true rfl⟩ ⟨by show kc + 0 ≤ 7; omega, by show ks + 0 ≤ 14; omega⟩ rfl (Nat.le_of_ble_eq_true rfl) rfl rfl rfl (dq dkX7_mean_0 30 rfl) ?_
      refine v_i2l F (dq dkX7_mean_0 31 rfl) ?_
      refine v_lmul F (dq dkX7_mean_0 32 rfl) ?_
      refine v_ladd F (dq dkX7_mean_0 33 rfl) ?_
      refine v_lstore_n F (ls' := [(1, .long (a1 + (r5.toInt64 * r7.toInt64))), (0, .ref (K.1 + t0)), (3, .long a3), (5, .int a5)]) (dq dkX7_mean_0 34 rfl) rfl (by decide) rfl ?_
      refine v_lload_n F (dq dkX7_mean_0 35 rfl) rfl 2 rfl ?_
      refine v_aload_n F (dq dkX7_mean_0 36 rfl) rfl 1 rfl ?_
      refine v_iload F (dq dkX7_mean_0 37 rfl) 3 rfl ?_
      obtain ⟨r9, e10, h⟩ := bd_of h
      refine v_callV 1 F (q := t0) (kc1 := kc) (ks1 := ks) (as := [.int a5]) (st := [.long a3]) (st1 := (.int r9 :: [.long a3])) (res := (some (.int r9))) (c_X7_counts (l := C.2.1) x y t0 a5 e10) (kTr_lt (f_X7_counts_k e10)) (kTr_at (f_X7_counts_k e10)) rfl (tc44 _ (List.mem_of_getElem? (i := 16) rfl)) (tc44 _ (List.mem_of_getElem? (i := 17) rfl)) (tc44 _ (List.mem_of_getElem? (i := 18) rfl)) (tc42 _ (List.mem_of_getElem? (i := 19) rfl)) (tc44 _ (List.mem_of_getElem? (i := 19) rfl)) (by decide) rfl ⟨rfl, rfl, Nat.le_of_ble_eq_true rfl, Nat.le_of_ble_eq_true rfl⟩ ⟨by show kc + 0 ≤ 7; omega, by show ks + 0 ≤ 14; omega⟩ rfl (Nat.le_of_ble_eq_true rfl) rfl rfl rfl (dq dkX7_mean_0 38 rfl) ?_
      refine v_i2l F (dq dkX7_mean_0 39 rfl) ?_
      refine v_ladd F (dq dkX7_mean_1 0 rfl) ?_
      refine v_lstore_n F (ls' := [(3, .long (a3 + r9.toInt64)), (1, .long (a1 + (r5.toInt64 * r7.toInt64))), (0, .ref (K.1 + t0)), (5, .int a5)]) (dq dkX7_mean_1 1 rfl) rfl (by decide) rfl ?_
      refine v_iinc F (v := a5 + 1) (ls' := [(5, .int (a5 + 1)), (3, .long (a3 + r9.toInt64)), (1, .long (a1 + (r5.toInt64 * r7.toInt64))), (0, .ref (K.1 + t0))]) (dq dkX7_mean_1 2 rfl) (j := 3) rfl (kv_add ki_1) (by decide) rfl ?_
      refine v_goto F (tgt := 33) (dq dkX7_mean_1 3 rfl) (by decide) ?_
      refine v_sub [3, 2, 1, 0] rfl ?_
      exact ih x (a1 + (r5.toInt64 * r7.toInt64)) (a3 + r9.toInt64) (a5 + 1) (kc) (ks) (by omega) (by omega) h
def f_X7_mean (x : CS) (t0 : Nat) : Option (Option Nat × CS) := gd (kTr x t0) (gd (kTr x t0) (if (ti x t0 4) = (-1) then (f_X7_mean_33 t0 6 x 0 0 0) else (gd (decide (27 ≤ gn x)) (gd (kTr (pal x (3, fun _ => 0, fun _ => 0)) t0) ((f_X7_goodBy (pal x (3, fun _ => 0, fun _ => 0)) t0 (ti (pal x (3, fun _ => 0, fun _ => 0)) t0 4)).bind fun r15 => (f_X0_init (pal x (3, fun _ => 0, fun _ => 0)) (61 + gn x) r15.toInt64 1).bind fun r17 => some ((some (61 + gn x)), r17))))))
set_option maxRecDepth 100000 in
set_option maxHeartbeats 4000000 in
theorem c_X7_mean {K : KE} {l : Launch} {R : Option Nat × CS} (x : CS) (y : MS) (t0 : Nat) (h : f_X7_mean x t0 = some R) : MC K l yX7_mean cX7_mean 6 (some (.object "HollowedByFire$Fraction")) rm_X7_mean 7 14 [.ref (K.1 + t0)] (xf K x y) (xf K R.2 y) (some (va_rf (R.1.map (fun q => K.1 + q)))) := by
  unfold f_X7_mean at h
  obtain ⟨_, h⟩ := gd_of h
  refine mc_of (ls0 := [(0, .ref (K.1 + t0))]) (by decide) (Nat.le_of_ble_eq_true rfl) rfl (fun C hl hnm F E => ?_)
  have F : Fx C RX7 cX7_mean 6 rm_X7_mean K := F
  refine v_aload_n F (dq dkX7_mean_0 0 rfl) rfl 0 rfl ?_
  obtain ⟨g11, h⟩ := gd_of h
  refine v_get F t0 (kTr_lt g11) (kTr_at g11) rfl inlX7 4 (by decide) (tc43 _ (List.mem_of_getElem? (i := 3) rfl)) rfl rfl (dq dkX7_mean_0 1 rfl) ?_
  refine v_iconst F (v := (-1)) (dq dkX7_mean_0 2 rfl) ki_m1 ?_
  refine v_icmp_eq F (tgt := 26) (dq dkX7_mean_0 3 rfl) (by decide) (fun c12 => ?_) (fun c12 => ?_)
  · rw [if_pos c12] at h
    refine v_lconst F (v := 0) (dq dkX7_mean_0 14 rfl) rfl ?_
    refine v_lstore_n F (ls' := [(1, .long 0), (0, .ref (K.1 + t0))]) (dq dkX7_mean_0 15 rfl) rfl (by decide) rfl ?_
    refine v_lconst F (v := 0) (dq dkX7_mean_0 16 rfl) rfl ?_
    refine v_lstore_n F (ls' := [(3, .long 0), (1, .long 0), (0, .ref (K.1 + t0))]) (dq dkX7_mean_0 17 rfl) rfl (by decide) rfl ?_
    refine v_iconst F (v := 0) (dq dkX7_mean_0 18 rfl) ki_0 ?_
    refine v_istore F (ls' := [(5, .int 0), (3, .long 0), (1, .long 0), (0, .ref (K.1 + t0))]) (dq dkX7_mean_0 19 rfl) (by decide) rfl ?_
    refine v_sub [3, 2, 1, 0] rfl ?_
    exact t_X7_mean_33 t0 F E 6 x 0 0 0 (0) (0) (by omega) (by omega) h
  · rw [if_neg c12] at h
    obtain ⟨g13, h⟩ := gd_of h
    refine v_new (ci := 0) (fs := [.long 0, .long 0]) (kc1 := 0 + 1) (ks1 := 0 + 2) F rfl inlX0 tyX0_ok (tc44 _ (List.mem_of_getElem? (i := 9) rfl)) (tc32 _ (List.mem_of_getElem? (i := 13) rfl)) (tc32 _ (List.mem_of_getElem? (i := 14) rfl)) (fun j hj => by rcases (show j = 0 ∨ j = 1 by omega) with rfl | rfl <;> rfl) (by show 0 + 1 ≤ 7; omega) (by show 0 + 2 ≤ 14; omega) rfl rfl (dq dkX7_mean_0 4 rfl) ?_
    refine v_eqM (xwP (of_decide_eq_true g13) (d := (3, fun _ => 0, fun _ => 0)) rfl) ?_
    refine v_dup F (dq dkX7_mean_0 5 rfl) rfl ?_
    refine v_aload_n F (dq dkX7_mean_0 6 rfl) rfl 0 rfl ?_
    refine v_aload_n F (dq dkX7_mean_0 7 rfl) rfl 0 rfl ?_
    obtain ⟨g14, h⟩ := gd_of h
    refine v_get F t0 (kTr_lt g14) (kTr_at g14) rfl inlX7 4 (by decide) (tc43 _ (List.mem_of_getElem? (i := 3) rfl)) rfl rfl (dq dkX7_mean_0 8 rfl) ?_
    obtain ⟨r15, e16, h⟩ := bd_of h
    refine v_callV 1 F (q := t0) (kc1 := 0 + 1) (ks1 := 0 + 2) (as := [.int (ti (pal x (3, fun _ => 0, fun _ => 0)) t0 4)]) (st := [.ref (K.1 + (61 + gn x)), .ref (K.1 + (61 + gn x))]) (st1 := (.int r15 :: [.ref (K.1 + (61 + gn x)), .ref (K.1 + (61 + gn x))])) (res := (some (.int r15))) (c_X7_goodBy (l := C.2.1) (pal x (3, fun _ => 0, fun _ => 0)) y t0 (ti (pal x (3, fun _ => 0, fun _ => 0)) t0 4) e16) (kTr_lt (f_X7_goodBy_k e16)) (kTr_at (f_X7_goodBy_k e16)) rfl (tc44 _ (List.mem_of_getElem? (i := 10) rfl)) (tc44 _ (List.mem_of_getElem? (i := 11) rfl)) (tc44 _ (List.mem_of_getElem? (i := 12) rfl)) (tc42 _ (List.mem_of_getElem? (i := 19) rfl)) (tc44 _ (List.mem_of_getElem? (i := 13) rfl)) (by decide) rfl ⟨rfl, rfl, Nat.le_of_ble_eq_true rfl, Nat.le_of_ble_eq_true rfl⟩ ⟨by show 0 + 1 + 0 ≤ 7; omega, by show 0 + 2 + 0 ≤ 14; omega⟩ rfl (Nat.le_of_ble_eq_true rfl) rfl rfl rfl (dq dkX7_mean_0 9 rfl) ?_
    refine v_i2l F (dq dkX7_mean_0 10 rfl) ?_
    refine v_lconst F (v := 1) (dq dkX7_mean_0 11 rfl) rfl ?_
    obtain ⟨r17, e18, h⟩ := bd_of h
    refine v_callI 2 F (q := 61 + gn x) (as := [.long r15.toInt64, .long 1]) (st := [.ref (K.1 + (61 + gn x))]) (kc1 := 0 + 1) (ks1 := 0 + 2) (c_X0_init (l := C.2.1) (pal x (3, fun _ => 0, fun _ => 0)) y (61 + gn x) r15.toInt64 1 e18) (tc44 _ (List.mem_of_getElem? (i := 15) rfl)) (tc33 _ (List.mem_of_getElem? (i := 0) rfl)) (tc32 _ (List.mem_of_getElem? (i := 14) rfl)) (tc33 _ (List.mem_of_getElem? (i := 1) rfl)) rfl (by decide) rfl ⟨rfl, rfl, Nat.le_of_ble_eq_true rfl, Nat.le_of_ble_eq_true rfl⟩ ⟨by show 0 + 1 + 0 ≤ 7; omega, by show 0 + 2 + 0 ≤ 14; omega⟩ rfl (Nat.le_of_ble_eq_true rfl) rfl rfl (dq dkX7_mean_0 12 rfl) ?_
    have h := Option.some.inj h
    subst h
    refine v_wide (kc' := 7) (ks1 := 14) (by omega) (by omega) ?_
    exact v_aret F E (Or.inl ⟨_, rfl⟩) (Or.inr ⟨_, rfl⟩) (dq dkX7_mean_0 13 rfl)
theorem f_X7_mean_k {R : Option Nat × CS} {x : CS} {t0 : Nat} (h : f_X7_mean x t0 = some R) : kTr x t0 = true := by
  unfold f_X7_mean at h
  exact (gd_of h).1
def rm_X1_mean : Room := { frames := 4, cells := 7, slots := 14, locals := 98 }
def f_X1_mean (x : CS) (a1 : Int32) : Option (Option Nat × CS) := (f_X1_at x a1).bind fun r1 => oc r1 (gd (decide (27 ≤ gn x)) ((f_X0_init (pal x (3, fun _ => 0, fun _ => 0)) (61 + gn x) 0 1).bind fun r5 => some ((some (61 + gn x)), r5))) (fun s3 => (f_X7_mean x s3).bind fun (r7o, r7x) => oc r7o (some (none, r7x)) (fun s9 => some ((some s9), r7x)))
set_option maxRecDepth 100000 in
set_option maxHeartbeats 4000000 in
theorem c_X1_mean {K : KE} {l : Launch} {R : Option Nat × CS} (x : CS) (y : MS) (a1 : Int32) (h : f_X1_mean x a1 = some R) : MC K l yX1_mean cX1_mean 3 (some (.object "HollowedByFire$Fraction")) rm_X1_mean 7 14 [.ref (K.1 + 34), .int a1] (xf K x y) (xf K R.2 y) (some (va_rf (R.1.map (fun q => K.1 + q)))) := by
  unfold f_X1_mean at h
  refine mc_of (ls0 := [(0, .ref (K.1 + 34)), (1, .int a1)]) (by decide) (Nat.le_of_ble_eq_true rfl) rfl (fun C hl hnm F E => ?_)
  have F : Fx C RX1 cX1_mean 3 rm_X1_mean K := F
  refine v_aload_n F (dq dkX1_mean_0 0 rfl) rfl 0 rfl ?_
  refine v_iload_n F (dq dkX1_mean_0 1 rfl) rfl 1 rfl ?_
  obtain ⟨r1, e2, h⟩ := bd_of h
  refine v_callV 1 F (q := 34) (kc1 := 0) (ks1 := 0) (as := [.int a1]) (st := []) (st1 := (va_rf (r1.map (fun q => K.1 + q)) :: [])) (res := (some (va_rf (r1.map (fun q => K.1 + q))))) (c_X1_at (l := C.2.1) x y a1 e2) (xn (by decide)) xc_34 rfl (tc46 _ (List.mem_of_getElem? (i := 1) rfl)) (tc43 _ (List.mem_of_getElem? (i := 14) rfl)) (tc43 _ (List.mem_of_getElem? (i := 15) rfl)) (tc2 _ (List.mem_of_getElem? (i := 7) rfl)) (tc43 _ (List.mem_of_getElem? (i := 16) rfl)) (by decide) rfl ⟨rfl, rfl, Nat.le_of_ble_eq_true rfl, Nat.le_of_ble_eq_true rfl⟩ ⟨by show 0 + 0 ≤ 7; omega, by show 0 + 0 ≤ 14; omega⟩ rfl (Nat.le_of_ble_eq_true rfl) rfl rfl rfl (dq dkX1_mean_0 2 rfl) ?_
  rcases r1 with _ | s3
  · have h := oc_nh h
    refine v_astore_nN F (ls' := [(2, .null), (0, .ref (K.1 + 34)), (1, .int a1)]) (dq dkX1_mean_0 3 rfl) rfl (by decide) rfl ?_
    refine v_aload_nN F (dq dkX1_mean_0 4 rfl) rfl 0 rfl ?_
    refine v_ifnonnullN F (dq dkX1_mean_0 5 rfl) ?_
    obtain ⟨g4, h⟩ := gd_of h
    refine v_new (ci := 0) (fs := [.long 0, .long 0]) (kc1 := 0 + 1) (ks1 := 0 + 2) F rfl inlX0 tyX0_ok (tc46 _ (List.mem_of_getElem? (i := 0) rfl)) (tc32 _ (List.mem_of_getElem? (i := 13) rfl)) (tc32 _ (List.mem_of_getElem? (i := 14) rfl)) (fun j hj => by rcases (show j = 0 ∨ j = 1 by omega) with rfl | rfl <;> rfl) (by show 0 + 1 ≤ 7; omega) (by show 0 + 2 ≤ 14; omega) rfl rfl (dq dkX1_mean_0 6 rfl) ?_
    refine v_eqM (xwP (of_decide_eq_true g4) (d := (3, fun _ => 0, fun _ => 0)) rfl) ?_
    refine v_dup F (dq dkX1_mean_0 7 rfl) rfl ?_
    refine v_lconst F (v := 0) (dq dkX1_mean_0 8 rfl) rfl ?_
    refine v_lconst F (v := 1) (dq dkX1_mean_0 9 rfl) rfl ?_
    obtain ⟨r5, e6, h⟩ := bd_of h
    refine v_callI 2 F (q := 61 + gn x) (as := [.long 0, .long 1]) (st := [.ref (K.1 + (61 + gn x))]) (kc1 := 0 + 1) (ks1 := 0 + 2) (c_X0_init (l := C.2.1) (pal x (3, fun _ => 0, fun _ => 0)) y (61 + gn x) 0 1 e6) (tc46 _ (List.mem_of_getElem? (i := 2) rfl)) (tc33 _ (List.mem_of_getElem? (i := 0) rfl)) (tc32 _ (List.mem_of_getElem? (i := 14) rfl)) (tc33 _ (List.mem_of_getElem? (i := 1) rfl)) rfl (by decide) rfl ⟨rfl, rfl, Nat.le_of_ble_eq_true rfl, Nat.le_of_ble_eq_true rfl⟩ ⟨by show 0 + 1 + 0 ≤ 7; omega, by show 0 + 2 + 0 ≤ 14; omega⟩ rfl (Nat.le_of_ble_eq_true rfl) rfl rfl (dq dkX1_mean_0 10 rfl) ?_
    refine v_goto F (tgt := 26) (dq dkX1_mean_0 11 rfl) (by decide) ?_
    have h := Option.some.inj h
    subst h
    refine v_wide (kc' := 7) (ks1 := 14) (by omega) (by omega) ?_
    exact v_aret F E (Or.inl ⟨_, rfl⟩) (Or.inr ⟨_, rfl⟩) (dq dkX1_mean_0 14 rfl)
  · have h := oc_sh h
    refine v_astore_n F (ls' := [(2, .ref (K.1 + s3)), (0, .ref (K.1 + 34)), (1, .int a1)]) (dq dkX1_mean_0 3 rfl) rfl (by decide) rfl ?_
    refine v_aload_n F (dq dkX1_mean_0 4 rfl) rfl 0 rfl ?_
    refine v_ifnonnull F (tgt := 22) (dq dkX1_mean_0 5 rfl) (by decide) ?_
    refine v_aload_n F (dq dkX1_mean_0 12 rfl) rfl 0 rfl ?_
    obtain ⟨r7, e8, h⟩ := bd_of h
    obtain ⟨r7o, r7x⟩ := r7
    dsimp only at h
    refine v_callV 0 F (q := s3) (kc1 := 0 + 7) (ks1 := 0 + 14) (as := []) (st := []) (st1 := (va_rf (r7o.map (fun q => K.1 + q)) :: [])) (res := (some (va_rf (r7o.map (fun q => K.1 + q))))) (c_X7_mean (l := C.2.1) x y s3 e8) (kTr_lt (f_X7_mean_k e8)) (kTr_at (f_X7_mean_k e8)) rfl (tc46 _ (List.mem_of_getElem? (i := 3) rfl)) (tc44 _ (List.mem_of_getElem? (i := 6) rfl)) (tc44 _ (List.mem_of_getElem? (i := 7) rfl)) (tc42 _ (List.mem_of_getElem? (i := 19) rfl)) (tc44 _ (List.mem_of_getElem? (i := 8) rfl)) (by decide) rfl ⟨rfl, rfl, Nat.le_of_ble_eq_true rfl, Nat.le_of_ble_eq_true rfl⟩ ⟨by show 0 + 7 ≤ 7; omega, by show 0 + 14 ≤ 14; omega⟩ rfl (Nat.le_of_ble_eq_true rfl) rfl rfl rfl (dq dkX1_mean_0 13 rfl) ?_
    rcases r7o with _ | s9
    · have h := oc_nh h
      have h := Option.some.inj h
      subst h
      refine v_wide (kc' := 7) (ks1 := 14) (by omega) (by omega) ?_
      exact v_aret F E (Or.inl ⟨_, rfl⟩) (Or.inl rfl) (dq dkX1_mean_0 14 rfl)
    · have h := oc_sh h
      have h := Option.some.inj h
      subst h
      refine v_wide (kc' := 7) (ks1 := 14) (by omega) (by omega) ?_
      exact v_aret F E (Or.inl ⟨_, rfl⟩) (Or.inr ⟨_, rfl⟩) (dq dkX1_mean_0 14 rfl)
def rm_X1_bestBut : Room := { frames := 5, cells := 112, slots := 224, locals := 120 }
def f_X1_bestBut_39 (k4 : CS → Int32 → Int32 → Int32 → Option (Int32 × CS)) (x : CS) (a1 : Int32) (a2 : Int32) (a3 : Int32) : Option (Int32 × CS) := k4 x a1 a2 (a3 + 1)
set_option maxRecDepth 100000 in
set_option maxHeartbeats 4000000 in
theorem t_X1_bestBut_39 {C : Cx} {K : KE} {y : MS} {R : Int32 × CS}  (k4 : CS → Int32 → Int32 → Int32 → Option (Int32 × CS)) (x : CS) (a1 : Int32) (a2 : Int32) (a3 : Int32) (Ak4 Bk4 : Nat) (hk4 : ∀ (x : CS) (a1 : Int32) (a2 : Int32) (a3 : Int32) (kc ks : Nat), kc + Ak4 ≤ 112 → ks + Bk4 ≤ 224 → k4 x a1 a2 a3 = some R → V C 4 [(0, .ref (K.1 + 34)), (1, .int a1), (2, .int a2), (3, .int a3)] [] (xf K x y) kc ks) (kc ks : Nat) (hkc : kc + (0 + Ak4) ≤ 112) (hks : ks + (0 + Bk4) ≤ 224) (h : f_X1_bestBut_39 k4 x a1 a2 a3 = some R) (F : Fx C RX1 cX1_bestBut 4 rm_X1_bestBut K) (E : CE C (xf K R.2 y) (some (.int R.1)) 112 224 (some .int)) : V C 39 [(0, .ref (K.1 + 34)), (1, .int a1), (2, .int a2), (3, .int a3)] [] (xf K x y) kc ks := by
  unfold f_X1_bestBut_39 at h
  refine v_iinc F (v := a3 + 1) (ls' := [(3, .int (a3 + 1)), (0, .ref (K.1 + 34)), (1, .int a1), (2, .int a2)]) (dq dkX1_bestBut_0 23 rfl) (j := 3) rfl (kv_add ki_1) (by decide) rfl ?_
  refine v_goto F (tgt := 4) (dq dkX1_bestBut_0 24 rfl) (by decide) ?_
  refine v_sub [1, 2, 3, 0] rfl ?_
  exact hk4 x a1 a2 (a3 + 1) (kc) (ks) (by omega) (by omega) h
def f_X1_bestBut_37 (k4 : CS → Int32 → Int32 → Int32 → Option (Int32 × CS)) (x : CS) (a1 : Int32) (a3 : Int32) : Option (Int32 × CS) := f_X1_bestBut_39 k4 x a1 a3 a3
set_option maxRecDepth 100000 in
set_option maxHeartbeats 4000000 in
theorem t_X1_bestBut_37 {C : Cx} {K : KE} {y : MS} {R : Int32 × CS}  (k4 : CS → Int32 → Int32 → Int32 → Option (Int32 × CS)) (x : CS) (a1 : Int32) (a3 : Int32) (Ak4 Bk4 : Nat) (hk4 : ∀ (x : CS) (a1 : Int32) (a2 : Int32) (a3 : Int32) (kc ks : Nat), kc + Ak4 ≤ 112 → ks + Bk4 ≤ 224 → k4 x a1 a2 a3 = some R → V C 4 [(0, .ref (K.1 + 34)), (1, .int a1), (2, .int a2), (3, .int a3)] [] (xf K x y) kc ks) (kc ks : Nat) (hkc : kc + (0 + Ak4) ≤ 112) (hks : ks + (0 + Bk4) ≤ 224) (h : f_X1_bestBut_37 k4 x a1 a3 = some R) (F : Fx C RX1 cX1_bestBut 4 rm_X1_bestBut K) (E : CE C (xf K R.2 y) (some (.int R.1)) 112 224 (some .int)) : V C 37 [(0, .ref (K.1 + 34)), (1, .int a1), (3, .int a3)] [] (xf K x y) kc ks := by
  unfold f_X1_bestBut_37 at h
  refine v_iload_n F (dq dkX1_bestBut_0 21 rfl) rfl 2 rfl ?_
  refine v_istore_n F (ls' := [(2, .int a3), (0, .ref (K.1 + 34)), (1, .int a1), (3, .int a3)]) (dq dkX1_bestBut_0 22 rfl) rfl (by decide) rfl ?_
  refine v_sub [1, 2, 0, 3] rfl ?_
  exact t_X1_bestBut_39 k4 x a1 a3 a3 Ak4 Bk4 hk4 (kc) (ks) (by omega) (by omega) h F E
def f_X1_bestBut_4 : Nat → CS → Int32 → Int32 → Int32 → Option (Int32 × CS)
  | 0, _, _, _, _ => none
  | n + 1, x, a1, a2, a3 => if (gi x 34 1) ≤ a3 then (some (a2, x)) else (if a3 = a1 then (f_X1_bestBut_39 (f_X1_bestBut_4 n) x a1 a2 a3) else (if a2 < 0 then (f_X1_bestBut_37 (f_X1_bestBut_4 n) x a1 a3) else ((f_X1_mean x a3).bind fun (r4o, r4x) => oc r4o ((f_X1_mean r4x a2).bind fun (r7o, r7x) => oc r7o none (fun s9 => none)) (fun s6 => (f_X1_mean r4x a2).bind fun (r10o, r10x) => oc r10o none (fun s12 => (f_X0_isAbove r10x s6 s12).bind fun r13 => if (b2i r13) = 0 then (f_X1_bestBut_39 (f_X1_bestBut_4 n) r10x a1 a2 a3) else (f_X1_bestBut_37 (f_X1_bestBut_4 n) r10x a1 a3))))))
set_option maxRecDepth 100000 in
set_option maxHeartbeats 4000000 in
theorem t_X1_bestBut_4 {C : Cx} {K : KE} {y : MS} {R : Int32 × CS}  (F : Fx C RX1 cX1_bestBut 4 rm_X1_bestBut K) (E : CE C (xf K R.2 y) (some (.int R.1)) 112 224 (some .int)) : ∀ (n : Nat) (x : CS) (a1 : Int32) (a2 : Int32) (a3 : Int32) (kc ks : Nat) (hkc : kc + ((14 * n + 14)) ≤ 112) (hks : ks + ((28 * n + 28)) ≤ 224) (h : f_X1_bestBut_4 n x a1 a2 a3 = some R), V C 4 [(0, .ref (K.1 + 34)), (1, .int a1), (2, .int a2), (3, .int a3)] [] (xf K x y) kc ks := by
  intro n
  induction n with
  | zero => intro x a1 a2 a3 kc ks hkc hks h; cases h
  | succ n ih =>
    intro x a1 a2 a3 kc ks hkc hks h
    rw [f_X1_bestBut_4] at h
    refine v_iload_n F (dq dkX1_bestBut_0 4 rfl) rfl 3 rfl ?_
    refine v_aload_n F (dq dkX1_bestBut_0 5 rfl) rfl 0 rfl ?_
    refine v_get F 34 (xn (by decide)) xc_34 rfl inlX1 1 (by decide) (tc4 _ (List.mem_of_getElem? (i := 19) rfl)) rfl rfl (dq dkX1_bestBut_0 6 rfl) ?_
    refine v_icmp_ge F (tgt := 45) (dq dkX1_bestBut_0 7 rfl) (by decide) (fun c1 => ?_) (fun c1 => ?_)
    · rw [if_pos c1] at h
      refine v_iload_n F (dq dkX1_bestBut_0 25 rfl) rfl 2 rfl ?_
      have h := Option.some.inj h
      subst h
      refine v_wide (kc' := 112) (ks1 := 224) (by omega) (by omega) ?_
      exact v_iret F E (dq dkX1_bestBut_0 26 rfl)
    · rw [if_neg c1] at h
      refine v_iload_n F (dq dkX1_bestBut_0 8 rfl) rfl 3 rfl ?_
      refine v_iload_n F (dq dkX1_bestBut_0 9 rfl) rfl 1 rfl ?_
      refine v_icmp_eq F (tgt := 39) (dq dkX1_bestBut_0 10 rfl) (by decide) (fun c2 => ?_) (fun c2 => ?_)
      · rw [if_pos c2] at h
        exact t_X1_bestBut_39 (f_X1_bestBut_4 n) x a1 a2 a3 (14 * n + 14) (28 * n + 28) ih (kc) (ks) (by omega) (by omega) h F E
      · rw [if_neg c2] at h
        refine v_iload_n F (dq dkX1_bestBut_0 11 rfl) rfl 2 rfl ?_
        refine v_if_lt F (tgt := 37) (dq dkX1_bestBut_0 12 rfl) (by decide) (fun c3 => ?_) (fun c3 => ?_)
        · rw [if_pos c3] at h
          refine v_sub [0, 1, 3] rfl ?_
          exact t_X1_bestBut_37 (f_X1_bestBut_4 n) x a1 a3 (14 * n + 14) (28 * n + 28) ih (kc) (ks) (by omega) (by omega) h F E
        · rw [if_neg c3] at h
          refine v_aload_n F (dq dkX1_bestBut_0 13 rfl) rfl 0 rfl ?_
          refine v_iload_n F (dq dkX1_bestBut_0 14 rfl) rfl 3 rfl ?_
          obtain ⟨r4, e5, h⟩ := bd_of h
          obtain ⟨r4o, r4x⟩ := r4
          dsimp only at h
          refine v_callV 1 F (q := 34) (kc1 := kc + 7) (ks1 := ks + 14) (as := [.int a3]) (st := []) (st1 := (va_rf (r4o.map (fun q => K.1 + q)) :: [])) (res := (some (va_rf (r4o.map (fun q => K.1 + q))))) (c_X1_mean (l := C.2.1) x y a3 e5) (xn (by decide)) xc_34 rfl (tc45 _ (List.mem_of_getElem? (i := 20) rfl)) (tc45 _ (List.mem_of_getElem? (i := 21) rfl)) (tc45 _ (List.mem_of_getElem? (i := 22) rfl)) (tc2 _ (List.mem_of_getElem? (i := 7) rfl)) (tc45 _ (List.mem_of_getElem? (i := 23) rfl)) (by decide) rfl ⟨rfl, rfl, Nat.le_of_ble_eq_true rfl, Nat.le_of_ble_eq_true rfl⟩ ⟨by show kc + 7 ≤ 112; omega, by show ks + 14 ≤ 224; omega⟩ rfl (Nat.le_of_ble_eq_true rfl) rfl rfl rfl (dq dkX1_bestBut_0 15 rfl) ?_
          rcases r4o with _ | s6
          · have h := oc_nh h
            refine v_aload_n F (dq dkX1_bestBut_0 16 rfl) rfl 0 rfl ?_
            refine v_iload_n F (dq dkX1_bestBut_0 17 rfl) rfl 2 rfl ?_
            obtain ⟨r7, e8, h⟩ := bd_of h
            obtain ⟨r7o, r7x⟩ := r7
            dsimp only at h
            refine v_callV 1 F (q := 34) (kc1 := kc + 7 + 7) (ks1 := ks + 14 + 14) (as := [.int a2]) (st := [.null]) (st1 := (va_rf (r7o.map (fun q => K.1 + q)) :: [.null])) (res := (some (va_rf (r7o.map (fun q => K.1 + q))))) (c_X1_mean (l := C.2.1) r4x y a2 e8) (xn (by decide)) xc_34 rfl (tc45 _ (List.mem_of_getElem? (i := 20) rfl)) (tc45 _ (List.mem_of_getElem? (i := 21) rfl)) (tc45 _ (List.mem_of_getElem? (i := 22) rfl)) (tc2 _ (List.mem_of_getElem? (i := 7) rfl)) (tc45 _ (List.mem_of_getElem? (i := 23) rfl)) (by decide) rfl ⟨rfl, rfl, Nat.le_of_ble_eq_true rfl, Nat.le_of_ble_eq_true rfl⟩ ⟨by show kc + 7 + 7 ≤ 112; omega, by show ks + 14 + 14 ≤ 224; omega⟩ rfl (Nat.le_of_ble_eq_true rfl) rfl rfl rfl (dq dkX1_bestBut_0 18 rfl) ?_
            rcases r7o with _ | s9
            · have h := oc_nh h
              cases h
            · have h := oc_sh h
              cases h
          · have h := oc_sh h
            refine v_aload_n F (dq dkX1_bestBut_0 16 rfl) rfl 0 rfl ?_
            refine v_iload_n F (dq dkX1_bestBut_0 17 rfl) rfl 2 rfl ?_
            obtain ⟨r10, e11, h⟩ := bd_of h
            obtain ⟨r10o, r10x⟩ := r10
            dsimp only at h
            refine v_callV 1 F (q := 34) (kc1 := kc + 7 + 7) (ks1 := ks + 14 + 14) (as := [.int a2]) (st := [.ref (K.1 + s6)]) (st1 := (va_rf (r10o.map (fun q => K.1 + q)) :: [.ref (K.1 + s6)])) (res := (some (va_rf (r10o.map (fun q => K.1 + q))))) (c_X1_mean (l := C.2.1) r4x y a2 e11) (xn (by decide)) xc_34 rfl (tc45 _ (List.mem_of_getElem? (i := 20) rfl)) (tc45 _ (List.mem_of_getElem? (i := 21) rfl)) (tc45 _ (List.mem_of_getElem? (i := 22) rfl)) (tc2 _ (List.mem_of_getElem? (i := 7) rfl)) (tc45 _ (List.mem_of_getElem? (i := 23) rfl)) (by decide) rfl ⟨rfl, rfl, Nat.le_of_ble_eq_true rfl, Nat.le_of_ble_eq_true rfl⟩ ⟨by show kc + 7 + 7 ≤ 112; omega, by show ks + 14 + 14 ≤ 224; omega⟩ rfl (Nat.le_of_ble_eq_true rfl) rfl rfl rfl (dq dkX1_bestBut_0 18 rfl) ?_
            rcases r10o with _ | s12
            · have h := oc_nh h
              cases h
            · have h := oc_sh h
              obtain ⟨r13, e14, h⟩ := bd_of h
              refine v_callV 1 F (q := s6) (kc1 := kc + 7 + 7) (ks1 := ks + 14 + 14) (as := [.ref (K.1 + s12)]) (st := []) (st1 := (.int (b2i r13) :: [])) (res := (some (.int (b2i r13)))) (c_X0_isAbove (l := C.2.1) r10x y s6 s12 e14) (kFr_lt (f_X0_isAbove_k e14)) (kFr_at (f_X0_isAbove_k e14)) rfl (tc46 _ (List.mem_of_getElem? (i := 4) rfl)) (tc46 _ (List.mem_of_getElem? (i := 5) rfl)) (tc46 _ (List.mem_of_getElem? (i := 6) rfl)) (tc32 _ (List.mem_of_getElem? (i := 14) rfl)) (tc46 _ (List.mem_of_getElem? (i := 7) rfl)) (by decide) rfl ⟨rfl, rfl, Nat.le_of_ble_eq_true rfl, Nat.le_of_ble_eq_true rfl⟩ ⟨by show kc + 7 + 7 + 0 ≤ 112; omega, by show ks + 14 + 14 + 0 ≤ 224; omega⟩ rfl (Nat.le_of_ble_eq_true rfl) rfl rfl rfl (dq dkX1_bestBut_0 19 rfl) ?_
              refine v_if_eq F (tgt := 39) (dq dkX1_bestBut_0 20 rfl) (by decide) (fun c15 => ?_) (fun c15 => ?_)
              · rw [if_pos c15] at h
                exact t_X1_bestBut_39 (f_X1_bestBut_4 n) r10x a1 a2 a3 (14 * n + 14) (28 * n + 28) ih (kc + 7 + 7) (ks + 14 + 14) (by omega) (by omega) h F E
              · rw [if_neg c15] at h
                refine v_sub [0, 1, 3] rfl ?_
                exact t_X1_bestBut_37 (f_X1_bestBut_4 n) r10x a1 a3 (14 * n + 14) (28 * n + 28) ih (kc + 7 + 7) (ks + 14 + 14) (by omega) (by omega) h F E
def f_X1_bestBut (x : CS) (a1 : Int32) : Option (Int32 × CS) := f_X1_bestBut_4 7 x a1 (-1) 0
set_option maxRecDepth 100000 in
set_option maxHeartbeats 4000000 in
theorem c_X1_bestBut {K : KE} {l : Launch} {R : Int32 × CS} (x : CS) (y : MS) (a1 : Int32) (h : f_X1_bestBut x a1 = some R) : MC K l yX1_bestBut cX1_bestBut 4 (some .int) rm_X1_bestBut 112 224 [.ref (K.1 + 34), .int a1] (xf K x y) (xf K R.2 y) (some (.int R.1)) := by
  unfold f_X1_bestBut at h
  refine mc_of (ls0 := [(0, .ref (K.1 + 34)), (1, .int a1)]) (by decide) (Nat.le_of_ble_eq_true rfl) rfl (fun C hl hnm F E => ?_)
  have F : Fx C RX1 cX1_bestBut 4 rm_X1_bestBut K := F
  refine v_iconst F (v := (-1)) (dq dkX1_bestBut_0 0 rfl) ki_m1 ?_
  refine v_istore_n F (ls' := [(2, .int (-1)), (0, .ref (K.1 + 34)), (1, .int a1)]) (dq dkX1_bestBut_0 1 rfl) rfl (by decide) rfl ?_
  refine v_iconst F (v := 0) (dq dkX1_bestBut_0 2 rfl) ki_0 ?_
  refine v_istore_n F (ls' := [(3, .int 0), (2, .int (-1)), (0, .ref (K.1 + 34)), (1, .int a1)]) (dq dkX1_bestBut_0 3 rfl) rfl (by decide) rfl ?_
  refine v_sub [2, 3, 1, 0] rfl ?_
  exact t_X1_bestBut_4 F E 7 x a1 (-1) 0 (0) (0) (by omega) (by omega) h
def rm_X1_holeWorth : Room := { frames := 6, cells := 126, slots := 252, locals := 143 }
def f_X1_holeWorth_18 (x : CS) : Option (Option Nat × CS) := gd (decide (27 ≤ gn x)) ((f_X0_init (pal x (3, fun _ => 0, fun _ => 0)) (61 + gn x) 0 1).bind fun r2 => some ((some (61 + gn x)), r2))
set_option maxRecDepth 100000 in
set_option maxHeartbeats 4000000 in
theorem t_X1_holeWorth_18 {C : Cx} {K : KE} {y : MS} {R : Option Nat × CS}  (x : CS) (kc ks : Nat) (hkc : kc + (1) ≤ 126) (hks : ks + (2) ≤ 252) (h : f_X1_holeWorth_18 x = some R) (F : Fx C RX1 cX1_holeWorth 13 rm_X1_holeWorth K) (E : CE C (xf K R.2 y) (some (va_rf (R.1.map (fun q => K.1 + q)))) 126 252 (some (.object "HollowedByFire$Fraction"))) : V C 18 [] [] (xf K x y) kc ks := by
  unfold f_X1_holeWorth_18 at h
  obtain ⟨g1, h⟩ := gd_of h
  refine v_new (ci := 0) (fs := [.long 0, .long 0]) (kc1 := kc + 1) (ks1 := ks + 2) F rfl inlX0 tyX0_ok (tc46 _ (List.mem_of_getElem? (i := 0) rfl)) (tc32 _ (List.mem_of_getElem? (i := 13) rfl)) (tc32 _ (List.mem_of_getElem? (i := 14) rfl)) (fun j hj => by rcases (show j = 0 ∨ j = 1 by omega) with rfl | rfl <;> rfl) (by show kc + 1 ≤ 126; omega) (by show ks + 2 ≤ 252; omega) rfl rfl (dq dkX1_holeWorth_0 10 rfl) ?_
  refine v_eqM (xwP (of_decide_eq_true g1) (d := (3, fun _ => 0, fun _ => 0)) rfl) ?_
  refine v_dup F (dq dkX1_holeWorth_0 11 rfl) rfl ?_
  refine v_lconst F (v := 0) (dq dkX1_holeWorth_0 12 rfl) rfl ?_
  refine v_lconst F (v := 1) (dq dkX1_holeWorth_0 13 rfl) rfl ?_
  obtain ⟨r2, e3, h⟩ := bd_of h
  refine v_callI 2 F (q := 61 + gn x) (as := [.long 0, .long 1]) (st := [.ref (K.1 + (61 + gn x))]) (kc1 := kc + 1) (ks1 := ks + 2) (c_X0_init (l := C.2.1) (pal x (3, fun _ => 0, fun _ => 0)) y (61 + gn x) 0 1 e3) (tc46 _ (List.mem_of_getElem? (i := 2) rfl)) (tc33 _ (List.mem_of_getElem? (i := 0) rfl)) (tc32 _ (List.mem_of_getElem? (i := 14) rfl)) (tc33 _ (List.mem_of_getElem? (i := 1) rfl)) rfl (by decide) rfl ⟨rfl, rfl, Nat.le_of_ble_eq_true rfl, Nat.le_of_ble_eq_true rfl⟩ ⟨by show kc + 1 + 0 ≤ 126; omega, by show ks + 2 + 0 ≤ 252; omega⟩ rfl (Nat.le_of_ble_eq_true rfl) rfl rfl (dq dkX1_holeWorth_0 14 rfl) ?_
  have h := Option.some.inj h
  subst h
  refine v_wide (kc' := 126) (ks1 := 252) (by omega) (by omega) ?_
  exact v_aret F E (Or.inl ⟨_, rfl⟩) (Or.inr ⟨_, rfl⟩) (dq dkX1_holeWorth_0 15 rfl)
def f_X1_holeWorth_50 : Nat → CS → Option Nat → Option Nat → Int64 → Int64 → Int64 → Int32 → Option (Option Nat × CS)
  | 0, _, _, _, _, _, _, _ => none
  | n + 1, x, a2, a3, a4, a6, a8, a10 => oc a2 (oc a3 (if 5 ≤ a10 then (gd (decide (27 ≤ gn x)) none) else none) (fun za3 => if 5 ≤ a10 then (gd (decide (27 ≤ gn x)) (gd (kFr (pal x (3, fun _ => 0, fun _ => 0)) za3) (gd (kFr (pal x (3, fun _ => 0, fun _ => 0)) za3) ((f_X0_init (pal x (3, fun _ => 0, fun _ => 0)) (61 + gn x) (a4 - (if ((tl (pal x (3, fun _ => 0, fun _ => 0)) za3 0) * a8) < a6 then a6 else ((tl (pal x (3, fun _ => 0, fun _ => 0)) za3 0) * a8))) (a8 * (tl (pal x (3, fun _ => 0, fun _ => 0)) za3 1))).bind fun r10 => some ((some (61 + gn x)), r10))))) else none)) (fun za2 => oc a3 (if 5 ≤ a10 then (gd (decide (27 ≤ gn x)) none) else ((f_X7_goodBy x za2 a10).bind fun r14 => none)) (fun za3 => if 5 ≤ a10 then (gd (decide (27 ≤ gn x)) (gd (kFr (pal x (3, fun _ => 0, fun _ => 0)) za3) (gd (kFr (pal x (3, fun _ => 0, fun _ => 0)) za3) ((f_X0_init (pal x (3, fun _ => 0, fun _ => 0)) (61 + gn x) (a4 - (if ((tl (pal x (3, fun _ => 0, fun _ => 0)) za3 0) * a8) < a6 then a6 else ((tl (pal x (3, fun _ => 0, fun _ => 0)) za3 0) * a8))) (a8 * (tl (pal x (3, fun _ => 0, fun _ => 0)) za3 1))).bind fun r20 => some ((some (61 + gn x)), r20))))) else ((f_X7_goodBy x za2 a10).bind fun r22 => gd (kFr x za3) ((f_X7_counts x za2 a10).bind fun r25 => gd (kFr x za3) ((f_X7_counts x za2 a10).bind fun r28 => (f_X7_counts x za2 a10).bind fun r30 => (f_X1_holeWorth_50 n) x (some za2) (some za3) (a4 + (r25.toInt64 * (if (tl x za3 0) < (r22.toInt64 * (tl x za3 1)) then (r22.toInt64 * (tl x za3 1)) else (tl x za3 0)))) (a6 + (r28.toInt64 * (r22.toInt64 * (tl x za3 1)))) (a8 + r30.toInt64) (a10 + 1))))))
set_option maxRecDepth 100000 in
set_option maxHeartbeats 4000000 in
theorem t_X1_holeWorth_50 {C : Cx} {K : KE} {y : MS} {R : Option Nat × CS}  (F : Fx C RX1 cX1_holeWorth 13 rm_X1_holeWorth K) (E : CE C (xf K R.2 y) (some (va_rf (R.1.map (fun q => K.1 + q)))) 126 252 (some (.object "HollowedByFire$Fraction"))) : ∀ (n : Nat) (x : CS) (a2 : Option Nat) (a3 : Option Nat) (a4 : Int64) (a6 : Int64) (a8 : Int64) (a10 : Int32) (kc ks : Nat) (hkc : kc + ((1 * n + 1)) ≤ 126) (hks : ks + ((2 * n + 2)) ≤ 252) (h : f_X1_holeWorth_50 n x a2 a3 a4 a6 a8 a10 = some R), V C 50 [(2, va_rf (a2.map (fun q => K.1 + q))), (3, va_rf (a3.map (fun q => K.1 + q))), (4, .long a4), (6, .long a6), (8, .long a8), (10, .int a10)] [] (xf K x y) kc ks := by
  intro n
  induction n with
  | zero => intro x a2 a3 a4 a6 a8 a10 kc ks hkc hks h; cases h
  | succ n ih =>
    intro x a2 a3 a4 a6 a8 a10 kc ks hkc hks h
    rw [f_X1_holeWorth_50] at h
    rcases a2 with _ | za2
    · have h := oc_nh h
      rcases a3 with _ | za3
      · have h := oc_nh h
        refine v_iload F (dq dkX1_holeWorth_0 30 rfl) 5 rfl ?_
        refine v_iconst F (v := 5) (dq dkX1_holeWorth_0 31 rfl) ki_5 ?_
        refine v_icmp_ge F (tgt := 125) (dq dkX1_holeWorth_0 32 rfl) (by decide) (fun c4 => ?_) (fun c4 => ?_)
        · rw [if_pos c4] at h
          obtain ⟨g5, h⟩ := gd_of h
          refine v_new (ci := 0) (fs := [.long 0, .long 0]) (kc1 := kc + 1) (ks1 := ks + 2) F rfl inlX0 tyX0_ok (tc46 _ (List.mem_of_getElem? (i := 0) rfl)) (tc32 _ (List.mem_of_getElem? (i := 13) rfl)) (tc32 _ (List.mem_of_getElem? (i := 14) rfl)) (fun j hj => by rcases (show j = 0 ∨ j = 1 by omega) with rfl | rfl <;> rfl) (by show kc + 1 ≤ 126; omega) (by show ks + 2 ≤ 252; omega) rfl rfl (dq dkX1_holeWorth_1 31 rfl) ?_
          refine v_eqM (xwP (of_decide_eq_true g5) (d := (3, fun _ => 0, fun _ => 0)) rfl) ?_
          refine v_dup F (dq dkX1_holeWorth_1 32 rfl) rfl ?_
          refine v_lload F (dq dkX1_holeWorth_1 33 rfl) 2 rfl ?_
          refine v_lload F (dq dkX1_holeWorth_1 34 rfl) 3 rfl ?_
          refine v_aload_nN F (dq dkX1_holeWorth_1 35 rfl) rfl 1 rfl ?_
          cases h
        · rw [if_neg c4] at h
          refine v_aload_nN F (dq dkX1_holeWorth_0 33 rfl) rfl 0 rfl ?_
          refine v_iload F (dq dkX1_holeWorth_0 34 rfl) 5 rfl ?_
          cases h
      · have h := oc_sh h
        refine v_iload F (dq dkX1_holeWorth_0 30 rfl) 5 rfl ?_
        refine v_iconst F (v := 5) (dq dkX1_holeWorth_0 31 rfl) ki_5 ?_
        refine v_icmp_ge F (tgt := 125) (dq dkX1_holeWorth_0 32 rfl) (by decide) (fun c6 => ?_) (fun c6 => ?_)
        · rw [if_pos c6] at h
          obtain ⟨g7, h⟩ := gd_of h
          refine v_new (ci := 0) (fs := [.long 0, .long 0]) (kc1 := kc + 1) (ks1 := ks + 2) F rfl inlX0 tyX0_ok (tc46 _ (List.mem_of_getElem? (i := 0) rfl)) (tc32 _ (List.mem_of_getElem? (i := 13) rfl)) (tc32 _ (List.mem_of_getElem? (i := 14) rfl)) (fun j hj => by rcases (show j = 0 ∨ j = 1 by omega) with rfl | rfl <;> rfl) (by show kc + 1 ≤ 126; omega) (by show ks + 2 ≤ 252; omega) rfl rfl (dq dkX1_holeWorth_1 31 rfl) ?_
          refine v_eqM (xwP (of_decide_eq_true g7) (d := (3, fun _ => 0, fun _ => 0)) rfl) ?_
          refine v_dup F (dq dkX1_holeWorth_1 32 rfl) rfl ?_
          refine v_lload F (dq dkX1_holeWorth_1 33 rfl) 2 rfl ?_
          refine v_lload F (dq dkX1_holeWorth_1 34 rfl) 3 rfl ?_
          refine v_aload_n F (dq dkX1_holeWorth_1 35 rfl) rfl 1 rfl ?_
          obtain ⟨g8, h⟩ := gd_of h
          refine v_getN F za3 (kFr_lt g8) (kFr_at g8) rfl inlX0 0 (by decide) (List.mem_of_getElem? (i := 17) rfl) rfl rfl (dq dkX1_holeWorth_1 36 rfl) ?_
          refine v_lload F (dq dkX1_holeWorth_1 37 rfl) 4 rfl ?_
          refine v_lmul F (dq dkX1_holeWorth_1 38 rfl) ?_
          refine v_mmaxl F (tc47 _ (List.mem_of_getElem? (i := 0) rfl)) (tc33 _ (List.mem_of_getElem? (i := 5) rfl)) (tc21 _ (List.mem_of_getElem? (i := 1) rfl)) (tc33 _ (List.mem_of_getElem? (i := 6) rfl)) (Nat.le_of_ble_eq_true rfl) (Nat.le_of_ble_eq_true rfl) (by show kc + 1 ≤ 126; omega) (by show ks + 2 ≤ 252; omega) (dq dkX1_holeWorth_1 39 rfl) ?_
          refine v_lsub F (dq dkX1_holeWorth_2 0 rfl) ?_
          refine v_lload F (dq dkX1_holeWorth_2 1 rfl) 4 rfl ?_
          refine v_aload_n F (dq dkX1_holeWorth_2 2 rfl) rfl 1 rfl ?_
          obtain ⟨g9, h⟩ := gd_of h
          refine v_getN F za3 (kFr_lt g9) (kFr_at g9) rfl inlX0 1 (by decide) (List.mem_of_getElem? (i := 18) rfl) rfl rfl (dq dkX1_holeWorth_2 3 rfl) ?_
          refine v_lmul F (dq dkX1_holeWorth_2 4 rfl) ?_
          obtain ⟨r10, e11, h⟩ := bd_of h
          refine v_callI 2 F (q := 61 + gn x) (as := [.long (a4 - (if ((tl (pal x (3, fun _ => 0, fun _ => 0)) za3 0) * a8) < a6 then a6 else ((tl (pal x (3, fun _ => 0, fun _ => 0)) za3 0) * a8))), .long (a8 * (tl (pal x (3, fun _ => 0, fun _ => 0)) za3 1))]) (st := [.ref (K.1 + (61 + gn x))]) (kc1 := kc + 1) (ks1 := ks + 2) (c_X0_init (l := C.2.1) (pal x (3, fun _ => 0, fun _ => 0)) y (61 + gn x) (a4 - (if ((tl (pal x (3, fun _ => 0, fun _ => 0)) za3 0) * a8) < a6 then a6 else ((tl (pal x (3, fun _ => 0, fun _ => 0)) za3 0) * a8))) (a8 * (tl (pal x (3, fun _ => 0, fun _ => 0)) za3 1)) e11) (tc46 _ (List.mem_of_getElem? (i := 2) rfl)) (tc33 _ (List.mem_of_getElem? (i := 0) rfl)) (tc32 _ (List.mem_of_getElem? (i := 14) rfl)) (tc33 _ (List.mem_of_getElem? (i := 1) rfl)) rfl (by decide) rfl ⟨rfl, rfl, Nat.le_of_ble_eq_true rfl, Nat.le_of_ble_eq_true rfl⟩ ⟨by show kc + 1 + 0 ≤ 126; omega, by show ks + 2 + 0 ≤ 252; omega⟩ rfl (Nat.le_of_ble_eq_true rfl) rfl rfl (dq dkX1_holeWorth_2 5 rfl) ?_
          have h := Option.some.inj h
          subst h
          refine v_wide (kc' := 126) (ks1 := 252) (by omega) (by omega) ?_
          exact v_aret F E (Or.inl ⟨_, rfl⟩) (Or.inr ⟨_, rfl⟩) (dq dkX1_holeWorth_2 6 rfl)
        · rw [if_neg c6] at h
          refine v_aload_nN F (dq dkX1_holeWorth_0 33 rfl) rfl 0 rfl ?_
          refine v_iload F (dq dkX1_holeWorth_0 34 rfl) 5 rfl ?_
          cases h
    · have h := oc_sh h
      rcases a3 with _ | za3
      · have h := oc_nh h
        refine v_iload F (dq dkX1_holeWorth_0 30 rfl) 5 rfl ?_
        refine v_iconst F (v := 5) (dq dkX1_holeWorth_0 31 rfl) ki_5 ?_
        refine v_icmp_ge F (tgt := 125) (dq dkX1_holeWorth_0 32 rfl) (by decide) (fun c12 => ?_) (fun c12 => ?_)
        · rw [if_pos c12] at h
          obtain ⟨g13, h⟩ := gd_of h
          refine v_new (ci := 0) (fs := [.long 0, .long 0]) (kc1 := kc + 1) (ks1 := ks + 2) F rfl inlX0 tyX0_ok (tc46 _ (List.mem_of_getElem? (i := 0) rfl)) (tc32 _ (List.mem_of_getElem? (i := 13) rfl)) (tc32 _ (List.mem_of_getElem? (i := 14) rfl)) (fun j hj => by rcases (show j = 0 ∨ j = 1 by omega) with rfl | rfl <;> rfl) (by show kc + 1 ≤ 126; omega) (by show ks + 2 ≤ 252; omega) rfl rfl (dq dkX1_holeWorth_1 31 rfl) ?_
          refine v_eqM (xwP (of_decide_eq_true g13) (d := (3, fun _ => 0, fun _ => 0)) rfl) ?_
          refine v_dup F (dq dkX1_holeWorth_1 32 rfl) rfl ?_
          refine v_lload F (dq dkX1_holeWorth_1 33 rfl) 2 rfl ?_
          refine v_lload F (dq dkX1_holeWorth_1 34 rfl) 3 rfl ?_
          refine v_aload_nN F (dq dkX1_holeWorth_1 35 rfl) rfl 1 rfl ?_
          cases h
        · rw [if_neg c12] at h
          refine v_aload_n F (dq dkX1_holeWorth_0 33 rfl) rfl 0 rfl ?_
          refine v_iload F (dq dkX1_holeWorth_0 34 rfl) 5 rfl ?_
          obtain ⟨r14, e15, h⟩ := bd_of h
          refine v_callV 1 F (q := za2) (kc1 := kc) (ks1 := ks) (as := [.int a10]) (st := []) (st1 := (.int r14 :: [])) (res := (some (.int r14))) (c_X7_goodBy (l := C.2.1) x y za2 a10 e15) (kTr_lt (f_X7_goodBy_k e15)) (kTr_at (f_X7_goodBy_k e15)) rfl (tc47 _ (List.mem_of_getElem? (i := 2) rfl)) (tc44 _ (List.mem_of_getElem? (i := 11) rfl)) (tc44 _ (List.mem_of_getElem? (i := 12) rfl)) (tc42 _ (List.mem_of_getElem? (i := 19) rfl)) (tc44 _ (List.mem_of_getElem? (i := 13) rfl)) (by decide) rfl ⟨rfl, rfl, Nat.le_of_ble_eq_true rfl, Nat.le_of_ble_eq_true rfl⟩ ⟨by show kc + 0 ≤ 126; omega, by show ks + 0 ≤ 252; omega⟩ rfl (Nat.le_of_ble_eq_true rfl) rfl rfl rfl (dq dkX1_holeWorth_0 35 rfl) ?_
          refine v_i2l F (dq dkX1_holeWorth_0 36 rfl) ?_
          refine v_aload_nN F (dq dkX1_holeWorth_0 37 rfl) rfl 1 rfl ?_
          cases h
      · have h := oc_sh h
        refine v_iload F (dq dkX1_holeWorth_0 30 rfl) 5 rfl ?_
        refine v_iconst F (v := 5) (dq dkX1_holeWorth_0 31 rfl) ki_5 ?_
        refine v_icmp_ge F (tgt := 125) (dq dkX1_holeWorth_0 32 rfl) (by decide) (fun c16 => ?_) (fun c16 => ?_)
        · rw [if_pos c16] at h
          obtain ⟨g17, h⟩ := gd_of h
          refine v_new (ci := 0) (fs := [.long 0, .long 0]) (kc1 := kc + 1) (ks1 := ks + 2) F rfl inlX0 tyX0_ok (tc46 _ (List.mem_of_getElem? (i := 0) rfl)) (tc32 _ (List.mem_of_getElem? (i := 13) rfl)) (tc32 _ (List.mem_of_getElem? (i := 14) rfl)) (fun j hj => by rcases (show j = 0 ∨ j = 1 by omega) with rfl | rfl <;> rfl) (by show kc + 1 ≤ 126; omega) (by show ks + 2 ≤ 252; omega) rfl rfl (dq dkX1_holeWorth_1 31 rfl) ?_
          refine v_eqM (xwP (of_decide_eq_true g17) (d := (3, fun _ => 0, fun _ => 0)) rfl) ?_
          refine v_dup F (dq dkX1_holeWorth_1 32 rfl) rfl ?_
          refine v_lload F (dq dkX1_holeWorth_1 33 rfl) 2 rfl ?_
          refine v_lload F (dq dkX1_holeWorth_1 34 rfl) 3 rfl ?_
          refine v_aload_n F (dq dkX1_holeWorth_1 35 rfl) rfl 1 rfl ?_
          obtain ⟨g18, h⟩ := gd_of h
          refine v_getN F za3 (kFr_lt g18) (kFr_at g18) rfl inlX0 0 (by decide) (List.mem_of_getElem? (i := 17) rfl) rfl rfl (dq dkX1_holeWorth_1 36 rfl) ?_
          refine v_lload F (dq dkX1_holeWorth_1 37 rfl) 4 rfl ?_
          refine v_lmul F (dq dkX1_holeWorth_1 38 rfl) ?_
          refine v_mmaxl F (tc47 _ (List.mem_of_getElem? (i := 0) rfl)) (tc33 _ (List.mem_of_getElem? (i := 5) rfl)) (tc21 _ (List.mem_of_getElem? (i := 1) rfl)) (tc33 _ (List.mem_of_getElem? (i := 6) rfl)) (Nat.le_of_ble_eq_true rfl) (Nat.le_of_ble_eq_true rfl) (by show kc + 1 ≤ 126; omega) (by show ks + 2 ≤ 252; omega) (dq dkX1_holeWorth_1 39 rfl) ?_
          refine v_lsub F (dq dkX1_holeWorth_2 0 rfl) ?_
          refine v_lload F (dq dkX1_holeWorth_2 1 rfl) 4 rfl ?_
          refine v_aload_n F (dq dkX1_holeWorth_2 2 rfl) rfl 1 rfl ?_
          obtain ⟨g19, h⟩ := gd_of h
          refine v_getN F za3 (kFr_lt g19) (kFr_at g19) rfl inlX0 1 (by decide) (List.mem_of_getElem? (i := 18) rfl) rfl rfl (dq dkX1_holeWorth_2 3 rfl) ?_
          refine v_lmul F (dq dkX1_holeWorth_2 4 rfl) ?_
          obtain ⟨r20, e21, h⟩ := bd_of h
          refine v_callI 2 F (q := 61 + gn x) (as := [.long (a4 - (if ((tl (pal x (3, fun _ => 0, fun _ => 0)) za3 0) * a8) < a6 then a6 else ((tl (pal x (3, fun _ => 0, fun _ => 0)) za3 0) * a8))), .long (a8 * (tl (pal x (3, fun _ => 0, fun _ => 0)) za3 1))]) (st := [.ref (K.1 + (61 + gn x))]) (kc1 := kc + 1) (ks1 := ks + 2) (c_X0_init (l := C.2.1) (pal x (3, fun _ => 0, fun _ => 0)) y (61 + gn x) (a4 - (if ((tl (pal x (3, fun _ => 0, fun _ => 0)) za3 0) * a8) < a6 then a6 else ((tl (pal x (3, fun _ => 0, fun _ => 0)) za3 0) * a8))) (a8 * (tl (pal x (3, fun _ => 0, fun _ => 0)) za3 1)) e21) (tc46 _ (List.mem_of_getElem? (i := 2) rfl)) (tc33 _ (List.mem_of_getElem? (i := 0) rfl)) (tc32 _ (List.mem_of_getElem? (i := 14) rfl)) (tc33 _ (List.mem_of_getElem? (i := 1) rfl)) rfl (by decide) rfl ⟨rfl, rfl, Nat.le_of_ble_eq_true rfl, Nat.le_of_ble_eq_true rfl⟩ ⟨by show kc + 1 + 0 ≤ 126; omega, by show ks + 2 + 0 ≤ 252; omega⟩ rfl (Nat.le_of_ble_eq_true rfl) rfl rfl (dq dkX1_holeWorth_2 5 rfl) ?_
          have h := Option.some.inj h
          subst h
          refine v_wide (kc' := 126) (ks1 := 252) (by omega) (by omega) ?_
          exact v_aret F E (Or.inl ⟨_, rfl⟩) (Or.inr ⟨_, rfl⟩) (dq dkX1_holeWorth_2 6 rfl)
        · rw [if_neg c16] at h
          refine v_aload_n F (dq dkX1_holeWorth_0 33 rfl) rfl 0 rfl ?_
          refine v_iload F (dq dkX1_holeWorth_0 34 rfl) 5 rfl ?_
          obtain ⟨r22, e23, h⟩ := bd_of h
          refine v_callV 1 F (q := za2) (kc1 := kc) (ks1 := ks) (as := [.int a10]) (st := []) (st1 := (.int r22 :: [])) (res := (some (.int r22))) (c_X7_goodBy (l := C.2.1) x y za2 a10 e23) (kTr_lt (f_X7_goodBy_k e23)) (kTr_at (f_X7_goodBy_k e23)) rfl (tc47 _ (List.mem_of_getElem? (i := 2) rfl)) (tc44 _ (List.mem_of_getElem? (i := 11) rfl)) (tc44 _ (List.mem_of_getElem? (i := 12) rfl)) (tc42 _ (List.mem_of_getElem? (i := 19) rfl)) (tc44 _ (List.mem_of_getElem? (i := 13) rfl)) (by decide) rfl ⟨rfl, rfl, Nat.le_of_ble_eq_true rfl, Nat.le_of_ble_eq_true rfl⟩ ⟨by show kc + 0 ≤ 126; omega, by show ks + 0 ≤ 252; omega⟩ rfl (Nat.le_of_ble_eq_true rfl) rfl rfl rfl (dq dkX1_holeWorth_0 35 rfl) ?_
          refine v_i2l F (dq dkX1_holeWorth_0 36 rfl) ?_
          refine v_aload_n F (dq dkX1_holeWorth_0 37 rfl) rfl 1 rfl ?_
          obtain ⟨g24, h⟩ := gd_of h
          refine v_getN F za3 (kFr_lt g24) (kFr_at g24) rfl inlX0 1 (by decide) (List.mem_of_getElem? (i := 18) rfl) rfl rfl (dq dkX1_holeWorth_0 38 rfl) ?_
          refine v_lmul F (dq dkX1_holeWorth_0 39 rfl) ?_
          refine v_lstore F (ls' := [(11, .long (r22.toInt64 * (tl x za3 1))), (2, .ref (K.1 + za2)), (3, .ref (K.1 + za3)), (4, .long a4), (6, .long a6), (8, .long a8), (10, .int a10)]) (dq dkX1_holeWorth_1 0 rfl) (by decide) rfl ?_
          refine v_lload F (dq dkX1_holeWorth_1 1 rfl) 3 rfl ?_
          refine v_aload_n F (dq dkX1_holeWorth_1 2 rfl) rfl 1 rfl ?_
          refine v_iload F (dq dkX1_holeWorth_1 3 rfl) 6 rfl ?_
          obtain ⟨r25, e26, h⟩ := bd_of h
          refine v_callV 1 F (q := za2) (kc1 := kc) (ks1 := ks) (as := [.int a10]) (st := [.long a4]) (st1 := (.int r25 :: [.long a4])) (res := (some (.int r25))) (c_X7_counts (l := C.2.1) x y za2 a10 e26) (kTr_lt (f_X7_counts_k e26)) (kTr_at (f_X7_counts_k e26)) rfl (tc47 _ (List.mem_of_getElem? (i := 3) rfl)) (tc44 _ (List.mem_of_getElem? (i := 17) rfl)) (tc44 _ (List.mem_of_getElem? (i := 18) rfl)) (tc42 _ (List.mem_of_getElem? (i := 19) rfl)) (tc44 _ (List.mem_of_getElem? (i := 19) rfl)) (by decide) rfl ⟨rfl, rfl, Nat.le_of_ble_eq_true rfl, Nat.le_of_ble_eq_true rfl⟩ ⟨by show kc + 0 ≤ 126; omega, by show ks + 0 ≤ 252; omega⟩ rfl (Nat.le_of_ble_eq_true rfl) rfl rfl rfl (dq dkX1_holeWorth_1 4 rfl) ?_
          refine v_i2l F (dq dkX1_holeWorth_1 5 rfl) ?_
          refine v_lload F (dq dkX1_holeWorth_1 6 rfl) 0 rfl ?_
          refine v_aload_n F (dq dkX1_holeWorth_1 7 rfl) rfl 2 rfl ?_
          obtain ⟨g27, h⟩ := gd_of h
          refine v_getN F za3 (kFr_lt g27) (kFr_at g27) rfl inlX0 0 (by decide) (List.mem_of_getElem? (i := 17) rfl) rfl rfl (dq dkX1_holeWorth_1 8 rfl) ?_
          refine v_mmaxl F (tc47 _ (List.mem_of_getElem? (i := 0) rfl)) (tc33 _ (List.mem_of_getElem? (i := 5) rfl)) (tc21 _ (List.mem_of_getElem? (i := 1) rfl)) (tc33 _ (List.mem_of_getElem? (i := 6) rfl)) (Nat.le_of_ble_eq_true rfl) (Nat.le_of_ble_eq_true rfl) (by show kc ≤ 126; omega) (by show ks ≤ 252; omega) (dq dkX1_holeWorth_1 9 rfl) ?_
          refine v_lmul F (dq dkX1_holeWorth_1 10 rfl) ?_
          refine v_ladd F (dq dkX1_holeWorth_1 11 rfl) ?_
          refine v_lstore F (ls' := [(4, .long (a4 + (r25.toInt64 * (if (tl x za3 0) < (r22.toInt64 * (tl x za3 1)) then (r22.toInt64 * (tl x za3 1)) else (tl x za3 0))))), (11, .long (r22.toInt64 * (tl x za3 1))), (2, .ref (K.1 + za2)), (3, .ref (K.1 + za3)), (6, .long a6), (8, .long a8), (10, .int a10)]) (dq dkX1_holeWorth_1 12 rfl) (by decide) rfl ?_
          refine v_lload F (dq dkX1_holeWorth_1 13 rfl) 4 rfl ?_
          refine v_aload_n F (dq dkX1_holeWorth_1 14 rfl) rfl 2 rfl ?_
          refine v_iload F (dq dkX1_holeWorth_1 15 rfl) 6 rfl ?_
          obtain ⟨r28, e29, h⟩ := bd_of h
          refine v_callV 1 F (q := za2) (kc1 := kc) (ks1 := ks) (as := [.int a10]) (st := [.long a6]) (st1 := (.int r28 :: [.long a6])) (res := (some (.int r28))) (c_X7_counts (l := C.2.1) x y za2 a10 e29) (kTr_lt (f_X7_counts_k e29)) (kTr_at (f_X7_counts_k e29)) rfl (tc47 _ (List.mem_of_getElem? (i := 3) rfl)) (tc44 _ (List.mem_of_getElem? (i := 17) rfl)) (tc44 _ (List.mem_of_getElem? (i := 18) rfl)) (tc42 _ (List.mem_of_getElem? (i := 19) rfl)) (tc44 _ (List.mem_of_getElem? (i := 19) rfl)) (by decide) rfl ⟨rfl, rfl, Nat.le_of_ble_eq_true rfl, Nat.le_of_ble_eq_true rfl⟩ ⟨by show kc + 0 ≤ 126; omega, by show ks + 0 ≤ 252; omega⟩ rfl (Nat.le_of_ble_eq_true rfl) rfl rfl rfl (dq dkX1_holeWorth_1 16 rfl) ?_
          refine v_i2l F (dq dkX1_holeWorth_1 17 rfl) ?_
          refine v_lload F (dq dkX1_holeWorth_1 18 rfl) 1 rfl ?_
          refine v_lmul F (dq dkX1_holeWorth_1 19 rfl) ?_
          refine v_ladd F (dq dkX1_holeWorth_1 20 rfl) ?_
          refine v_lstore F (ls' := [(6, .long (a6 + (r28.toInt64 * (r22.toInt64 * (tl x za3 1))))), (4, .long (a4 + (r25.toInt64 * (if (tl x za3 0) < (r22.toInt64 * (tl x za3 1)) then (r22.toInt64 * (tl x za3 1)) else (tl x za3 0))))), (11, .long (r22.toInt64 * (tl x za3 1))), (2, .ref (K.1 + za2)), (3, .ref (K.1 + za3)), (8, .long a8), (10, .int a10)]) (dq dkX1_holeWorth_1 21 rfl) (by decide) rfl ?_
          refine v_lload F (dq dkX1_holeWorth_1 22 rfl) 5 rfl ?_
          refine v_aload_n F (dq dkX1_holeWorth_1 23 rfl) rfl 3 rfl ?_
          refine v_iload F (dq dkX1_holeWorth_1 24 rfl) 6 rfl ?_
          obtain ⟨r30, e31, h⟩ := bd_of h
          refine v_callV 1 F (q := za2) (kc1 := kc) (ks1 := ks) (as := [.int a10]) (st := [.long a8]) (st1 := (.int r30 :: [.long a8])) (res := (some (.int r30))) (c_X7_counts (l := C.2.1) x y za2 a10 e31) (kTr_lt (f_X7_counts_k e31)) (kTr_at (f_X7_counts_k e31)) rfl (tc47 _ (List.mem_of_getElem? (i := 3) rfl)) (tc44 _ (List.mem_of_getElem? (i := 17) rfl)) (tc44 _ (List.mem_of_getElem? (i := 18) rfl)) (tc42 _ (List.mem_of_getElem? (i := 19) rfl)) (tc44 _ (List.mem_of_getElem? (i := 19) rfl)) (by decide) rfl ⟨rfl, rfl, Nat.le_of_ble_eq_true rfl, Nat.le_of_ble_eq_true rfl⟩ ⟨by show kc + 0 ≤ 126; omega, by show ks + 0 ≤ 252; omega⟩ rfl (Nat.le_of_ble_eq_true rfl) rfl rfl rfl (dq dkX1_holeWorth_1 25 rfl) ?_
          refine v_i2l F (dq dkX1_holeWorth_1 26 rfl) ?_
          refine v_ladd F (dq dkX1_holeWorth_1 27 rfl) ?_
          refine v_lstore F (ls' := [(8, .long (a8 + r30.toInt64)), (6, .long (a6 + (r28.toInt64 * (r22.toInt64 * (tl x za3 1))))), (4, .long (a4 + (r25.toInt64 * (if (tl x za3 0) < (r22.toInt64 * (tl x za3 1)) then (r22.toInt64 * (tl x za3 1)) else (tl x za3 0))))), (11, .long (r22.toInt64 * (tl x za3 1))), (2, .ref (K.1 + za2)), (3, .ref (K.1 + za3)), (10, .int a10)]) (dq dkX1_holeWorth_1 28 rfl) (by decide) rfl ?_
          refine v_iinc F (v := a10 + 1) (ls' := [(10, .int (a10 + 1)), (8, .long (a8 + r30.toInt64)), (6, .long (a6 + (r28.toInt64 * (r22.toInt64 * (tl x za3 1))))), (4, .long (a4 + (r25.toInt64 * (if (tl x za3 0) < (r22.toInt64 * (tl x za3 1)) then (r22.toInt64 * (tl x za3 1)) else (tl x za3 0))))), (11, .long (r22.toInt64 * (tl x za3 1))), (2, .ref (K.1 + za2)), (3, .ref (K.1 + za3))]) (dq dkX1_holeWorth_1 29 rfl) (j := 6) rfl (kv_add ki_1) (by decide) rfl ?_
          refine v_goto F (tgt := 50) (dq dkX1_holeWorth_1 30 rfl) (by decide) ?_
          refine v_sub [5, 6, 3, 2, 1, 0] rfl ?_
          exact ih x (some za2) (some za3) (a4 + (r25.toInt64 * (if (tl x za3 0) < (r22.toInt64 * (tl x za3 1)) then (r22.toInt64 * (tl x za3 1)) else (tl x za3 0)))) (a6 + (r28.toInt64 * (r22.toInt64 * (tl x za3 1)))) (a8 + r30.toInt64) (a10 + 1) (kc) (ks) (by omega) (by omega) h
def f_X1_holeWorth (x : CS) (a1 : Int32) : Option (Option Nat × CS) := (f_X1_at x a1).bind fun r32 => oc r32 (f_X1_holeWorth_18 x) (fun s34 => gd (kTr x s34) (if (ti x s34 4) = (-1) then ((f_X1_bestBut x a1).bind fun r37 => (f_X1_mean r37.2 r37.1).bind fun (r39o, r39x) => oc r39o (f_X1_holeWorth_50 6 r39x (some s34) none 0 0 0 0) (fun s41 => f_X1_holeWorth_50 6 r39x (some s34) (some s41) 0 0 0 0)) else (f_X1_holeWorth_18 x)))
set_option maxRecDepth 100000 in
set_option maxHeartbeats 4000000 in
theorem c_X1_holeWorth {K : KE} {l : Launch} {R : Option Nat × CS} (x : CS) (y : MS) (a1 : Int32) (h : f_X1_holeWorth x a1 = some R) : MC K l yX1_holeWorth cX1_holeWorth 13 (some (.object "HollowedByFire$Fraction")) rm_X1_holeWorth 126 252 [.ref (K.1 + 34), .int a1] (xf K x y) (xf K R.2 y) (some (va_rf (R.1.map (fun q => K.1 + q)))) := by
  unfold f_X1_holeWorth at h
  refine mc_of (ls0 := [(0, .ref (K.1 + 34)), (1, .int a1)]) (by decide) (Nat.le_of_ble_eq_true rfl) rfl (fun C hl hnm F E => ?_)
  have F : Fx C RX1 cX1_holeWorth 13 rm_X1_holeWorth K := F
  refine v_aload_n F (dq dkX1_holeWorth_0 0 rfl) rfl 0 rfl ?_
  refine v_iload_n F (dq dkX1_holeWorth_0 1 rfl) rfl 1 rfl ?_
  obtain ⟨r32, e33, h⟩ := bd_of h
  refine v_callV 1 F (q := 34) (kc1 := 0) (ks1 := 0) (as := [.int a1]) (st := []) (st1 := (va_rf (r32.map (fun q => K.1 + q)) :: [])) (res := (some (va_rf (r32.map (fun q => K.1 + q))))) (c_X1_at (l := C.2.1) x y a1 e33) (xn (by decide)) xc_34 rfl (tc46 _ (List.mem_of_getElem? (i := 1) rfl)) (tc43 _ (List.mem_of_getElem? (i := 14) rfl)) (tc43 _ (List.mem_of_getElem? (i := 15) rfl)) (tc2 _ (List.mem_of_getElem? (i := 7) rfl)) (tc43 _ (List.mem_of_getElem? (i := 16) rfl)) (by decide) rfl ⟨rfl, rfl, Nat.le_of_ble_eq_true rfl, Nat.le_of_ble_eq_true rfl⟩ ⟨by show 0 + 0 ≤ 126; omega, by show 0 + 0 ≤ 252; omega⟩ rfl (Nat.le_of_ble_eq_true rfl) rfl rfl rfl (dq dkX1_holeWorth_0 2 rfl) ?_
  rcases r32 with _ | s34
  · have h := oc_nh h
    refine v_astore_nN F (ls' := [(2, .null), (0, .ref (K.1 + 34)), (1, .int a1)]) (dq dkX1_holeWorth_0 3 rfl) rfl (by decide) rfl ?_
    refine v_aload_nN F (dq dkX1_holeWorth_0 4 rfl) rfl 0 rfl ?_
    refine v_ifnullN F (tgt := 18) (dq dkX1_holeWorth_0 5 rfl) (by decide) ?_
    refine v_sub [] rfl ?_
    exact t_X1_holeWorth_18 x (0) (0) (by omega) (by omega) h F E
  · have h := oc_sh h
    refine v_astore_n F (ls' := [(2, .ref (K.1 + s34)), (0, .ref (K.1 + 34)), (1, .int a1)]) (dq dkX1_holeWorth_0 3 rfl) rfl (by decide) rfl ?_
    refine v_aload_n F (dq dkX1_holeWorth_0 4 rfl) rfl 0 rfl ?_
    refine v_ifnull F (dq dkX1_holeWorth_0 5 rfl) ?_
    refine v_aload_n F (dq dkX1_holeWorth_0 6 rfl) rfl 0 rfl ?_
    obtain ⟨g35, h⟩ := gd_of h
    refine v_getN F s34 (kTr_lt g35) (kTr_at g35) rfl inlX7 4 (by decide) (List.mem_of_getElem? (i := 24) rfl) rfl rfl (dq dkX1_holeWorth_0 7 rfl) ?_
    refine v_iconst F (v := (-1)) (dq dkX1_holeWorth_0 8 rfl) ki_m1 ?_
    refine v_icmp_eq F (tgt := 28) (dq dkX1_holeWorth_0 9 rfl) (by decide) (fun c36 => ?_) (fun c36 => ?_)
    · rw [if_pos c36] at h
      refine v_aload_n F (dq dkX1_holeWorth_0 16 rfl) rfl 1 rfl ?_
      refine v_aload_n F (dq dkX1_holeWorth_0 17 rfl) rfl 1 rfl ?_
      refine v_iload_n F (dq dkX1_holeWorth_0 18 rfl) rfl 2 rfl ?_
      obtain ⟨r37, e38, h⟩ := bd_of h
      refine v_callV 1 F (q := 34) (kc1 := 0 + 112) (ks1 := 0 + 224) (as := [.int a1]) (st := [.ref (K.1 + 34)]) (st1 := (.int r37.1 :: [.ref (K.1 + 34)])) (res := (some (.int r37.1))) (c_X1_bestBut (l := C.2.1) x y a1 e38) (xn (by decide)) xc_34 rfl (tc47 _ (List.mem_of_getElem? (i := 1) rfl)) (tc45 _ (List.mem_of_getElem? (i := 17) rfl)) (tc45 _ (List.mem_of_getElem? (i := 18) rfl)) (tc2 _ (List.mem_of_getElem? (i := 7) rfl)) (tc45 _ (List.mem_of_getElem? (i := 19) rfl)) (by decide) rfl ⟨rfl, rfl, Nat.le_of_ble_eq_true rfl, Nat.le_of_ble_eq_true rfl⟩ ⟨by show 0 + 112 ≤ 126; omega, by show 0 + 224 ≤ 252; omega⟩ rfl (Nat.le_of_ble_eq_true rfl) rfl rfl rfl (dq dkX1_holeWorth_0 19 rfl) ?_
      obtain ⟨r39, e40, h⟩ := bd_of h
      obtain ⟨r39o, r39x⟩ := r39
      dsimp only at h
      refine v_callV 1 F (q := 34) (kc1 := 0 + 112 + 7) (ks1 := 0 + 224 + 14) (as := [.int r37.1]) (st := []) (st1 := (va_rf (r39o.map (fun q => K.1 + q)) :: [])) (res := (some (va_rf (r39o.map (fun q => K.1 + q))))) (c_X1_mean (l := C.2.1) r37.2 y r37.1 e40) (xn (by decide)) xc_34 rfl (tc45 _ (List.mem_of_getElem? (i := 20) rfl)) (tc45 _ (List.mem_of_getElem? (i := 21) rfl)) (tc45 _ (List.mem_of_getElem? (i := 22) rfl)) (tc2 _ (List.mem_of_getElem? (i := 7) rfl)) (tc45 _ (List.mem_of_getElem? (i := 23) rfl)) (by decide) rfl ⟨rfl, rfl, Nat.le_of_ble_eq_true rfl, Nat.le_of_ble_eq_true rfl⟩ ⟨by show 0 + 112 + 7 ≤ 126; omega, by show 0 + 224 + 14 ≤ 252; omega⟩ rfl (Nat.le_of_ble_eq_true rfl) rfl rfl rfl (dq dkX1_holeWorth_0 20 rfl) ?_
      rcases r39o with _ | s41
      · have h := oc_nh h
        refine v_astore_nN F (ls' := [(3, .null), (2, .ref (K.1 + s34)), (0, .ref (K.1 + 34)), (1, .int a1)]) (dq dkX1_holeWorth_0 21 rfl) rfl (by decide) rfl ?_
        refine v_lconst F (v := 0) (dq dkX1_holeWorth_0 22 rfl) rfl ?_
        refine v_lstore F (ls' := [(4, .long 0), (3, .null), (2, .ref (K.1 + s34)), (0, .ref (K.1 + 34)), (1, .int a1)]) (dq dkX1_holeWorth_0 23 rfl) (by decide) rfl ?_
        refine v_lconst F (v := 0) (dq dkX1_holeWorth_0 24 rfl) rfl ?_
        refine v_lstore F (ls' := [(6, .long 0), (4, .long 0), (3, .null), (2, .ref (K.1 + s34)), (0, .ref (K.1 + 34)), (1, .int a1)]) (dq dkX1_holeWorth_0 25 rfl) (by decide) rfl ?_
        refine v_lconst F (v := 0) (dq dkX1_holeWorth_0 26 rfl) rfl ?_
        refine v_lstore F (ls' := [(8, .long 0), (6, .long 0), (4, .long 0), (3, .null), (2, .ref (K.1 + s34)), (0, .ref (K.1 + 34)), (1, .int a1)]) (dq dkX1_holeWorth_0 27 rfl) (by decide) rfl ?_
        refine v_iconst F (v := 0) (dq dkX1_holeWorth_0 28 rfl) ki_0 ?_
        refine v_istore F (ls' := [(10, .int 0), (8, .long 0), (6, .long 0), (4, .long 0), (3, .null), (2, .ref (K.1 + s34)), (0, .ref (K.1 + 34)), (1, .int a1)]) (dq dkX1_holeWorth_0 29 rfl) (by decide) rfl ?_
        refine v_sub [5, 4, 3, 2, 1, 0] rfl ?_
        exact t_X1_holeWorth_50 F E 6 r39x (some s34) none 0 0 0 0 (0 + 112 + 7) (0 + 224 + 14) (by omega) (by omega) h
      · have h := oc_sh h
        refine v_astore_n F (ls' := [(3, .ref (K.1 + s41)), (2, .ref (K.1 + s34)), (0, .ref (K.1 + 34)), (1, .int a1)]) (dq dkX1_holeWorth_0 21 rfl) rfl (by decide) rfl ?_
        refine v_lconst F (v := 0) (dq dkX1_holeWorth_0 22 rfl) rfl ?_
        refine v_lstore F (ls' := [(4, .long 0), (3, .ref (K.1 + s41)), (2, .ref (K.1 + s34)), (0, .ref (K.1 + 34)), (1, .int a1)]) (dq dkX1_holeWorth_0 23 rfl) (by decide) rfl ?_
        refine v_lconst F (v := 0) (dq dkX1_holeWorth_0 24 rfl) rfl ?_
        refine v_lstore F (ls' := [(6, .long 0), (4, .long 0), (3, .ref (K.1 + s41)), (2, .ref (K.1 + s34)), (0, .ref (K.1 + 34)), (1, .int a1)]) (dq dkX1_holeWorth_0 25 rfl) (by decide) rfl ?_
        refine v_lconst F (v := 0) (dq dkX1_holeWorth_0 26 rfl) rfl ?_
        refine v_lstore F (ls' := [(8, .long 0), (6, .long 0), (4, .long 0), (3, .ref (K.1 + s41)), (2, .ref (K.1 + s34)), (0, .ref (K.1 + 34)), (1, .int a1)]) (dq dkX1_holeWorth_0 27 rfl) (by decide) rfl ?_
        refine v_iconst F (v := 0) (dq dkX1_holeWorth_0 28 rfl) ki_0 ?_
        refine v_istore F (ls' := [(10, .int 0), (8, .long 0), (6, .long 0), (4, .long 0), (3, .ref (K.1 + s41)), (2, .ref (K.1 + s34)), (0, .ref (K.1 + 34)), (1, .int a1)]) (dq dkX1_holeWorth_0 29 rfl) (by decide) rfl ?_
        refine v_sub [5, 4, 3, 2, 1, 0] rfl ?_
        exact t_X1_holeWorth_50 F E 6 r39x (some s34) (some s41) 0 0 0 0 (0 + 112 + 7) (0 + 224 + 14) (by omega) (by omega) h
    · rw [if_neg c36] at h
      refine v_sub [] rfl ?_
      exact t_X1_holeWorth_18 x (0) (0) (by omega) (by omega) h F E
def rm_X10_isSection : Room := { frames := 2, cells := 0, slots := 0, locals := 52 }
def f_X10_isSection (a0 : Int32) : Bool := (f_X10_within a0 0 8)
set_option maxRecDepth 100000 in
set_option maxHeartbeats 4000000 in
theorem c_X10_isSection {K : KE} {l : Launch} {M : GM} (a0 : Int32) : MC K l yX10_isSection cX10_isSection 1 (some .boolean) rm_X10_isSection 0 0 [.int a0] M M (some (.int (b2i (f_X10_isSection a0)))) := by
  obtain ⟨R, h⟩ : ∃ R, f_X10_isSection a0 = R := ⟨_, rfl⟩
  rw [h]
  unfold f_X10_isSection at h
  refine mc_of (ls0 := [(0, .int a0)]) (by decide) (Nat.le_of_ble_eq_true rfl) rfl (fun C hl hnm F E => ?_)
  have F : Fx C RX10 cX10_isSection 1 rm_X10_isSection K := F
  refine v_iload_n F (dq dkX10_isSection_0 0 rfl) rfl 0 rfl ?_
  refine v_iconst F (v := 0) (dq dkX10_isSection_0 1 rfl) ki_0 ?_
  refine v_bipush F (v := 8) (dq dkX10_isSection_0 2 rfl) kb_8 ?_
  refine v_callS 3 F (kc1 := 0) (ks1 := 0) (as := [.int a0, .int 0, .int 8]) (st := []) (st1 := (.int (b2i (f_X10_within a0 0 8)) :: [])) (res := (some (.int (b2i (f_X10_within a0 0 8))))) (c_X10_within (l := C.2.1) a0 0 8) (tc14 _ (List.mem_of_getElem? (i := 3) rfl)) (tc8 _ (List.mem_of_getElem? (i := 15) rfl)) (tc1 _ (List.mem_of_getElem? (i := 2) rfl)) (tc8 _ (List.mem_of_getElem? (i := 16) rfl)) (by decide) rfl ⟨rfl, rfl, Nat.le_of_ble_eq_true rfl, Nat.le_of_ble_eq_true rfl⟩ ⟨Nat.le_of_ble_eq_true rfl, Nat.le_of_ble_eq_true rfl⟩ rfl (Nat.le_of_ble_eq_true rfl) rfl rfl rfl (dq dkX10_isSection_0 3 rfl) ?_
  subst h
  exact v_zret F E (b2i_n (f_X10_within a0 0 8)) (dq dkX10_isSection_0 4 rfl)
def rm_X8_of : Room := { frames := 3, cells := 0, slots := 0, locals := 72 }
def f_X8_of_27 (t0 : Nat) (x : CS) : Option (Int32) := some 0
set_option maxRecDepth 100000 in
set_option maxHeartbeats 4000000 in
theorem t_X8_of_27 {C : Cx} {K : KE} {y : MS} {R : Int32}  (t0 : Nat) (x : CS) (h : f_X8_of_27 t0 x = some R) (F : Fx C RX8 cX8_of 3 rm_X8_of K) (E : CE C (xf K x y) (some (.int R)) 0 0 (some .int)) : V C 27 [] [] (xf K x y) 0 0 := by
  unfold f_X8_of_27 at h
  refine v_iconst F (v := 0) (dq dkX8_of_0 15 rfl) ki_0 ?_
  have h := Option.some.inj h
  subst h
  exact v_iret F E (dq dkX8_of_0 16 rfl)
def f_X8_of (x : CS) (t0 : Nat) (a1 : Int32) (a2 : Int32) : Option (Int32) := gd (kWd t0) (if (b2i (f_X10_within a1 0 5)) = 0 then (f_X8_of_27 t0 x) else (if (b2i (f_X10_isSection a2)) = 0 then (f_X8_of_27 t0 x) else (gd (kWd t0) (gd (kWd t0) (gd (ib a1 6) (gd (ib a2 (al (t0 + 2 + a1.toNatClampNeg))) (some (gi x (t0 + 2 + a1.toNatClampNeg) a2.toNatClampNeg))))))))
set_option maxRecDepth 100000 in
set_option maxHeartbeats 4000000 in
theorem c_X8_of {K : KE} {l : Launch} {R : Int32} (x : CS) (y : MS) (t0 : Nat) (a1 : Int32) (a2 : Int32) (h : f_X8_of x t0 a1 a2 = some R) : MC K l yX8_of cX8_of 3 (some .int) rm_X8_of 0 0 [.ref (K.1 + t0), .int a1, .int a2] (xf K x y) (xf K x y) (some (.int R)) := by
  unfold f_X8_of at h
  obtain ⟨_, h⟩ := gd_of h
  refine mc_of (ls0 := [(0, .ref (K.1 + t0)), (1, .int a1), (2, .int a2)]) (by decide) (Nat.le_of_ble_eq_true rfl) rfl (fun C hl hnm F E => ?_)
  have F : Fx C RX8 cX8_of 3 rm_X8_of K := F
  refine v_iload_n F (dq dkX8_of_0 0 rfl) rfl 1 rfl ?_
  refine v_iconst F (v := 0) (dq dkX8_of_0 1 rfl) ki_0 ?_
  refine v_iconst F (v := 5) (dq dkX8_of_0 2 rfl) ki_5 ?_
  refine v_callSN 3 F (kc1 := 0) (ks1 := 0) (as := [.int a1, .int 0, .int 5]) (st := []) (st1 := (.int (b2i (f_X10_within a1 0 5)) :: [])) (res := (some (.int (b2i (f_X10_within a1 0 5))))) (c_X10_within (l := C.2.1) a1 0 5) (List.mem_of_getElem? (i := 6) rfl) (tc8 _ (List.mem_of_getElem? (i := 15) rfl)) (tc1 _ (List.mem_of_getElem? (i := 2) rfl)) (tc8 _ (List.mem_of_getElem? (i := 16) rfl)) (by decide) rfl ⟨rfl, rfl, Nat.le_of_ble_eq_true rfl, Nat.le_of_ble_eq_true rfl⟩ ⟨Nat.le_of_ble_eq_true rfl, Nat.le_of_ble_eq_true rfl⟩ rfl (Nat.le_of_ble_eq_true rfl) rfl rfl rfl (dq dkX8_of_0 3 rfl) ?_
  refine v_if_eq F (tgt := 27) (dq dkX8_of_0 4 rfl) (by decide) (fun c2 => ?_) (fun c2 => ?_)
  · rw [if_pos c2] at h
    refine v_sub [] rfl ?_
    exact t_X8_of_27 t0 x h F E
  · rw [if_neg c2] at h
    refine v_iload_n F (dq dkX8_of_0 5 rfl) rfl 2 rfl ?_
    refine v_callSN 1 F (kc1 := 0) (ks1 := 0) (as := [.int a2]) (st := []) (st1 := (.int (b2i (f_X10_isSection a2)) :: [])) (res := (some (.int (b2i (f_X10_isSection a2))))) (c_X10_isSection (l := C.2.1) a2) (List.mem_of_getElem? (i := 7) rfl) (tc14 _ (List.mem_of_getElem? (i := 1) rfl)) (tc1 _ (List.mem_of_getElem? (i := 2) rfl)) (tc14 _ (List.mem_of_getElem? (i := 2) rfl)) (by decide) rfl ⟨rfl, rfl, Nat.le_of_ble_eq_true rfl, Nat.le_of_ble_eq_true rfl⟩ ⟨Nat.le_of_ble_eq_true rfl, Nat.le_of_ble_eq_true rfl⟩ rfl (Nat.le_of_ble_eq_true rfl) rfl rfl rfl (dq dkX8_of_0 6 rfl) ?_
    refine v_if_eq F (tgt := 27) (dq dkX8_of_0 7 rfl) (by decide) (fun c4 => ?_) (fun c4 => ?_)
    · rw [if_pos c4] at h
      refine v_sub [] rfl ?_
      exact t_X8_of_27 t0 x h F E
    · rw [if_neg c4] at h
      refine v_aload_n F (dq dkX8_of_0 8 rfl) rfl 0 rfl ?_
      obtain ⟨g5, h⟩ := gd_of h
      refine v_get F t0 (kWd_lt g5) (kWd_at g5) rfl inlX8 0 (by decide) (tc3 _ (List.mem_of_getElem? (i := 4) rfl)) rfl rfl (dq dkX8_of_0 9 rfl) ?_
      refine v_iload_n F (dq dkX8_of_0 10 rfl) rfl 1 rfl ?_
      obtain ⟨g7, h⟩ := gd_of h
      obtain ⟨g6, h⟩ := gd_of h
      refine v_aald F (t0 + 1) (kWd_lt1 g7) (kWd_rw g7) (t := 2) rfl rfl (ib_in g6) (dq dkX8_of_0 11 rfl) ?_
      refine v_iload_n F (dq dkX8_of_0 12 rfl) rfl 2 rfl ?_
      obtain ⟨g8, h⟩ := gd_of h
      refine v_iald F (t0 + 2 + a1.toNatClampNeg) (xa_lt g8) (xa_at g8) (ib_in g8) (dq dkX8_of_0 13 rfl) ?_
      refine v_goto F (tgt := 28) (dq dkX8_of_0 14 rfl) (by decide) ?_
      have h := Option.some.inj h
      subst h
      exact v_iret F E (dq dkX8_of_0 16 rfl)
theorem f_X8_of_k {R : Int32} {x : CS} {t0 : Nat} {a1 : Int32} {a2 : Int32} (h : f_X8_of x t0 a1 a2 = some R) : kWd t0 = true := by
  unfold f_X8_of at h
  exact (gd_of h).1
def rm_X8_setting : Room := { frames := 2, cells := 0, slots := 0, locals := 52 }
def f_X8_setting (x : CS) (t0 : Nat) (a1 : Int32) : Option (Int32) := gd (kWd t0) (if (b2i (f_X10_within a1 0 4)) = 0 then (some 0) else (gd (kWd t0) (gd (ib a1 (al (t0 + 8))) (some (gi x (t0 + 8) a1.toNatClampNeg)))))
set_option maxRecDepth 100000 in
set_option maxHeartbeats 4000000 in
theorem c_X8_setting {K : KE} {l : Launch} {R : Int32} (x : CS) (y : MS) (t0 : Nat) (a1 : Int32) (h : f_X8_setting x t0 a1 = some R) : MC K l yX8_setting cX8_setting 2 (some .int) rm_X8_setting 0 0 [.ref (K.1 + t0), .int a1] (xf K x y) (xf K x y) (some (.int R)) := by
  unfold f_X8_setting at h
  obtain ⟨_, h⟩ := gd_of h
  refine mc_of (ls0 := [(0, .ref (K.1 + t0)), (1, .int a1)]) (by decide) (Nat.le_of_ble_eq_true rfl) rfl (fun C hl hnm F E => ?_)
  have F : Fx C RX8 cX8_setting 2 rm_X8_setting K := F
  refine v_iload_n F (dq dkX8_setting_0 0 rfl) rfl 1 rfl ?_
  refine v_iconst F (v := 0) (dq dkX8_setting_0 1 rfl) ki_0 ?_
  refine v_iconst F (v := 4) (dq dkX8_setting_0 2 rfl) ki_4 ?_
  refine v_callSN 3 F (kc1 := 0) (ks1 := 0) (as := [.int a1, .int 0, .int 4]) (st := []) (st1 := (.int (b2i (f_X10_within a1 0 4)) :: [])) (res := (some (.int (b2i (f_X10_within a1 0 4))))) (c_X10_within (l := C.2.1) a1 0 4) (List.mem_of_getElem? (i := 6) rfl) (tc8 _ (List.mem_of_getElem? (i := 15) rfl)) (tc1 _ (List.mem_of_getElem? (i := 2) rfl)) (tc8 _ (List.mem_of_getElem? (i := 16) rfl)) (by decide) rfl ⟨rfl, rfl, Nat.le_of_ble_eq_true rfl, Nat.le_of_ble_eq_true rfl⟩ ⟨Nat.le_of_ble_eq_true rfl, Nat.le_of_ble_eq_true rfl⟩ rfl (Nat.le_of_ble_eq_true rfl) rfl rfl rfl (dq dkX8_setting_0 3 rfl) ?_
  refine v_if_eq F (tgt := 18) (dq dkX8_setting_0 4 rfl) (by decide) (fun c2 => ?_) (fun c2 => ?_)
  · rw [if_pos c2] at h
    refine v_iconst F (v := 0) (dq dkX8_setting_0 10 rfl) ki_0 ?_
    have h := Option.some.inj h
    subst h
    exact v_iret F E (dq dkX8_setting_0 11 rfl)
  · rw [if_neg c2] at h
    refine v_aload_n F (dq dkX8_setting_0 5 rfl) rfl 0 rfl ?_
    obtain ⟨g3, h⟩ := gd_of h
    refine v_get F t0 (kWd_lt g3) (kWd_at g3) rfl inlX8 1 (by decide) (tc3 _ (List.mem_of_getElem? (i := 5) rfl)) rfl rfl (dq dkX8_setting_0 6 rfl) ?_
    refine v_iload_n F (dq dkX8_setting_0 7 rfl) rfl 1 rfl ?_
    obtain ⟨g4, h⟩ := gd_of h
    refine v_iald F (t0 + 8) (xa_lt g4) (xa_at g4) (ib_in g4) (dq dkX8_setting_0 8 rfl) ?_
    refine v_goto F (tgt := 19) (dq dkX8_setting_0 9 rfl) (by decide) ?_
    have h := Option.some.inj h
    subst h
    exact v_iret F E (dq dkX8_setting_0 11 rfl)
theorem f_X8_setting_k {R : Int32} {x : CS} {t0 : Nat} {a1 : Int32} (h : f_X8_setting x t0 a1 = some R) : kWd t0 = true := by
  unfold f_X8_setting at h
  exact (gd_of h).1
def rm_X2_begin : Room := { frames := 4, cells := 0, slots := 0, locals := 94 }
def f_X2_begin_2 : Nat → CS → Int32 → Option (CS)
  | 0, _, _ => none
  | n + 1, x, a1 => if 9 ≤ a1 then ((f_X8_setting x 1 0).bind fun r2 => (f_X8_setting (pi x 52 ((0 : Int32).toNatClampNeg) r2) 1 1).bind fun r4 => (f_X8_setting (pi (pi x 52 ((0 : Int32).toNatClampNeg) r2) 52 ((1 : Int32).toNatClampNeg) r4) 1 2).bind fun r6 => some (plot (pi (pi (pi (pi (pi (pi (pi (pi x 52 ((0 : Int32).toNatClampNeg) r2) 52 ((1 : Int32).toNatClampNeg) r4) 52 ((2 : Int32).toNatClampNeg) r6) 48 6 0) 48 7 0) 48 8 (-1)) 48 9 0) 48 10 (-1000000)) 0)) else ((f_X8_of x 1 0 a1).bind fun r8 => gd (ib a1 9) ((f_X8_of (pi x 49 a1.toNatClampNeg r8) 1 1 a1).bind fun r11 => gd (ib a1 9) ((f_X8_of (pi (pi x 49 a1.toNatClampNeg r8) 50 a1.toNatClampNeg r11) 1 2 a1).bind fun r14 => gd (ib a1 9) ((f_X2_begin_2 n) (pi (pi (pi x 49 a1.toNatClampNeg r8) 50 a1.toNatClampNeg r11) 51 a1.toNatClampNeg r14) (a1 + 1)))))
set_option maxRecDepth 100000 in
set_option maxHeartbeats 4000000 in
theorem t_X2_begin_2 {C : Cx} {K : KE} {y : MS} {R : CS}  (F : Fx C RX2 cX2_begin 2 rm_X2_begin K) (E : CE C (xf K R y) none 0 0 none) : ∀ (n : Nat) (x : CS) (a1 : Int32) (h : f_X2_begin_2 n x a1 = some R), V C 2 [(0, .ref (K.1 + 48)), (1, .int a1)] [] (xf K x y) 0 0 := by
  intro n
  induction n with
  | zero => intro x a1 h; cases h
  | succ n ih =>
    intro x a1 h
    rw [f_X2_begin_2] at h
    refine v_iload_n F (dq dkX2_begin_0 2 rfl) rfl 1 rfl ?_
    refine v_bipush F (v := 9) (dq dkX2_begin_0 3 rfl) kb_9 ?_
    refine v_icmp_ge F (tgt := 59) (dq dkX2_begin_0 4 rfl) (by decide) (fun c1 => ?_) (fun c1 => ?_)
    · rw [if_pos c1] at h
      refine v_aload_n F (dq dkX2_begin_0 34 rfl) rfl 0 rfl ?_
      refine v_get F 48 (xn (by decide)) xc_48 rfl inlX2 5 (by decide) (tc5 _ (List.mem_of_getElem? (i := 3) rfl)) rfl rfl (dq dkX2_begin_0 35 rfl) ?_
      refine v_iconst F (v := 0) (dq dkX2_begin_0 36 rfl) ki_0 ?_
      refine v_aload_n F (dq dkX2_begin_0 37 rfl) rfl 0 rfl ?_
      refine v_get F 48 (xn (by decide)) xc_48 rfl inlX2 0 (by decide) (tc5 _ (List.mem_of_getElem? (i := 11) rfl)) rfl rfl (dq dkX2_begin_0 38 rfl) ?_
      refine v_iconst F (v := 0) (dq dkX2_begin_0 39 rfl) ki_0 ?_
      obtain ⟨r2, e3, h⟩ := bd_of h
      refine v_callV 1 F (q := 1) (kc1 := 0) (ks1 := 0) (as := [.int 0]) (st := [.int 0, .ref (K.1 + 52)]) (st1 := (.int r2 :: [.int 0, .ref (K.1 + 52)])) (res := (some (.int r2))) (c_X8_setting (l := C.2.1) x y 1 0 e3) (xn (by decide)) xc_1 rfl (tc20 _ (List.mem_of_getElem? (i := 14) rfl)) (tc15 _ (List.mem_of_getElem? (i := 23) rfl)) (tc16 _ (List.mem_of_getElem? (i := 0) rfl)) (tc1 _ (List.mem_of_getElem? (i := 15) rfl)) (tc16 _ (List.mem_of_getElem? (i := 1) rfl)) (by decide) rfl ⟨rfl, rfl, Nat.le_of_ble_eq_true rfl, Nat.le_of_ble_eq_true rfl⟩ ⟨Nat.le_of_ble_eq_true rfl, Nat.le_of_ble_eq_true rfl⟩ rfl (Nat.le_of_ble_eq_true rfl) rfl rfl rfl (dq dkX2_begin_1 0 rfl) ?_
      refine v_iast F 52 (xn (by decide)) xc_52 (ib_in (by decide)) (dq dkX2_begin_1 1 rfl) ?_
      refine v_eqM (xwC (q := 52) (j := (0 : Int32).toNatClampNeg) (v := r2) (by decide) rfl) ?_
      refine v_aload_n F (dq dkX2_begin_1 2 rfl) rfl 0 rfl ?_
      refine v_get F 48 (xn (by decide)) xc_48 rfl inlX2 5 (by decide) (tc5 _ (List.mem_of_getElem? (i := 3) rfl)) rfl rfl (dq dkX2_begin_1 3 rfl) ?_
      refine v_iconst F (v := 1) (dq dkX2_begin_1 4 rfl) ki_1 ?_
      refine v_aload_n F (dq dkX2_begin_1 5 rfl) rfl 0 rfl ?_
      refine v_get F 48 (xn (by decide)) xc_48 rfl inlX2 0 (by decide) (tc5 _ (List.mem_of_getElem? (i := 11) rfl)) rfl rfl (dq dkX2_begin_1 6 rfl) ?_
      refine v_iconst F (v := 1) (dq dkX2_begin_1 7 rfl) ki_1 ?_
      obtain ⟨r4, e5, h⟩ := bd_of h
      refine v_callV 1 F (q := 1) (kc1 := 0) (ks1 := 0) (as := [.int 1]) (st := [.int 1, .ref (K.1 + 52)]) (st1 := (.int r4 :: [.int 1, .ref (K.1 + 52)])) (res := (some (.int r4))) (c_X8_setting (l := C.2.1) (pi x 52 ((0 : Int32).toNatClampNeg) r2) y 1 1 e5) (xn (by decide)) xc_1 rfl (tc20 _ (List.mem_of_getElem? (i := 14) rfl)) (tc15 _ (List.mem_of_getElem? (i := 23) rfl)) (tc16 _ (List.mem_of_getElem? (i := 0) rfl)) (tc1 _ (List.mem_of_getElem? (i := 15) rfl)) (tc16 _ (List.mem_of_getElem? (i := 1) rfl)) (by decide) rfl ⟨rfl, rfl, Nat.le_of_ble_eq_true rfl, Nat.le_of_ble_eq_true rfl⟩ ⟨Nat.le_of_ble_eq_true rfl, Nat.le_of_ble_eq_true rfl⟩ rfl (Nat.le_of_ble_eq_true rfl) rfl rfl rfl (dq dkX2_begin_1 8 rfl) ?_
      refine v_iast F 52 (xn (by decide)) xc_52 (ib_in (by decide)) (dq dkX2_begin_1 9 rfl) ?_
      refine v_eqM (xwC (q := 52) (j := (1 : Int32).toNatClampNeg) (v := r4) (by decide) rfl) ?_
      refine v_aload_n F (dq dkX2_begin_1 10 rfl) rfl 0 rfl ?_
      refine v_get F 48 (xn (by decide)) xc_48 rfl inlX2 5 (by decide) (tc5 _ (List.mem_of_getElem? (i := 3) rfl)) rfl rfl (dq dkX2_begin_1 11 rfl) ?_
      refine v_iconst F (v := 2) (dq dkX2_begin_1 12 rfl) ki_2 ?_
      refine v_aload_n F (dq dkX2_begin_1 13 rfl) rfl 0 rfl ?_
      refine v_get F 48 (xn (by decide)) xc_48 rfl inlX2 0 (by decide) (tc5 _ (List.mem_of_getElem? (i := 11) rfl)) rfl rfl (dq dkX2_begin_1 14 rfl) ?_
      refine v_iconst F (v := 2) (dq dkX2_begin_1 15 rfl) ki_2 ?_
      obtain ⟨r6, e7, h⟩ := bd_of h
      refine v_callV 1 F (q := 1) (kc1 := 0) (ks1 := 0) (as := [.int 2]) (st := [.int 2, .ref (K.1 + 52)]) (st1 := (.int r6 :: [.int 2, .ref (K.1 + 52)])) (res := (some (.int r6))) (c_X8_setting (l := C.2.1) (pi (pi x 52 ((0 : Int32).toNatClampNeg) r2) 52 ((1 : Int32).toNatClampNeg) r4) y 1 2 e7) (xn (by decide)) xc_1 rfl (tc20 _ (List.mem_of_getElem? (i := 14) rfl)) (tc15 _ (List.mem_of_getElem? (i := 23) rfl)) (tc16 _ (List.mem_of_getElem? (i := 0) rfl)) (tc1 _ (List.mem_of_getElem? (i := 15) rfl)) (tc16 _ (List.mem_of_getElem? (i := 1) rfl)) (by decide) rfl ⟨rfl, rfl, Nat.le_of_ble_eq_true rfl, Nat.le_of_ble_eq_true rfl⟩ ⟨Nat.le_of_ble_eq_true rfl, Nat.le_of_ble_eq_true rfl⟩ rfl (Nat.le_of_ble_eq_true rfl) rfl rfl rfl (dq dkX2_begin_1 16 rfl) ?_
      refine v_iast F 52 (xn (by decide)) xc_52 (ib_in (by decide)) (dq dkX2_begin_1 17 rfl) ?_
      refine v_eqM (xwC (q := 52) (j := (2 : Int32).toNatClampNeg) (v := r6) (by decide) rfl) ?_
      refine v_aload_n F (dq dkX2_begin_1 18 rfl) rfl 0 rfl ?_
      refine v_iconst F (v := 0) (dq dkX2_begin_1 19 rfl) ki_0 ?_
      refine v_put F 48 (xn (by decide)) xc_48 rfl inlX2 tyX2_ok nmX2 6 (by decide) (tc5 _ (List.mem_of_getElem? (i := 4) rfl)) rfl rfl (tyX2_ok 6 (by decide)) rfl rfl (Nat.le_of_ble_eq_true rfl) (dq dkX2_begin_1 20 rfl) ?_
      refine v_eqM (xwC (q := 48) (j := 6) (v := 0) (by decide) rfl) ?_
      refine v_aload_n F (dq dkX2_begin_1 21 rfl) rfl 0 rfl ?_
      refine v_iconst F (v := 0) (dq dkX2_begin_1 22 rfl) ki_0 ?_
      refine v_put F 48 (xn (by decide)) xc_48 rfl inlX2 tyX2_ok nmX2 7 (by decide) (tc5 _ (List.mem_of_getElem? (i := 5) rfl)) rfl rfl (tyX2_ok 7 (by decide)) rfl rfl (Nat.le_of_ble_eq_true rfl) (dq dkX2_begin_1 23 rfl) ?_
      refine v_eqM (xwC (q := 48) (j := 7) (v := 0) (by decide) rfl) ?_
      refine v_aload_n F (dq dkX2_begin_1 24 rfl) rfl 0 rfl ?_
      refine v_iconst F (v := (-1)) (dq dkX2_begin_1 25 rfl) ki_m1 ?_
      refine v_put F 48 (xn (by decide)) xc_48 rfl inlX2 tyX2_ok nmX2 8 (by decide) (tc5 _ (List.mem_of_getElem? (i := 6) rfl)) rfl rfl (tyX2_ok 8 (by decide)) rfl rfl (Nat.le_of_ble_eq_true rfl) (dq dkX2_begin_1 26 rfl) ?_
      refine v_eqM (xwC (q := 48) (j := 8) (v := (-1)) (by decide) rfl) ?_
      refine v_aload_n F (dq dkX2_begin_1 27 rfl) rfl 0 rfl ?_
      refine v_iconst F (v := 0) (dq dkX2_begin_1 28 rfl) ki_0 ?_
      refine v_put F 48 (xn (by decide)) xc_48 rfl inlX2 tyX2_ok nmX2 9 (by decide) (tc5 _ (List.mem_of_getElem? (i := 7) rfl)) rfl rfl (tyX2_ok 9 (by decide)) rfl rfl (Nat.le_of_ble_eq_true rfl) (dq dkX2_begin_1 29 rfl) ?_
      refine v_eqM (xwC (q := 48) (j := 9) (v := 0) (by decide) rfl) ?_
      refine v_aload_n F (dq dkX2_begin_1 30 rfl) rfl 0 rfl ?_
      refine v_ldc F (v := (-1000000)) (tc5 _ (List.mem_of_getElem? (i := 8) rfl)) (dq dkX2_begin_1 31 rfl) ?_
      refine v_put F 48 (xn (by decide)) xc_48 rfl inlX2 tyX2_ok nmX2 10 (by decide) (tc5 _ (List.mem_of_getElem? (i := 9) rfl)) rfl rfl (tyX2_ok 10 (by decide)) rfl rfl (Nat.le_of_ble_eq_true rfl) (dq dkX2_begin_1 32 rfl) ?_
      refine v_eqM (xwC (q := 48) (j := 10) (v := (-1000000)) (by decide) rfl) ?_
      refine v_aload_n F (dq dkX2_begin_1 33 rfl) rfl 0 rfl ?_
      refine v_lconst F (v := 0) (dq dkX2_begin_1 34 rfl) rfl ?_
      refine v_put F 48 (xn (by decide)) xc_48 rfl inlX2 tyX2_ok nmX2 11 (by decide) (tc5 _ (List.mem_of_getElem? (i := 10) rfl)) rfl rfl (tyX2_ok 11 (by decide)) rfl rfl (Nat.le_of_ble_eq_true rfl) (dq dkX2_begin_1 35 rfl) ?_
      refine v_eqM (xw_lot (v := 0)) ?_
      have h := Option.some.inj h
      subst h
      exact v_vret F E (dq dkX2_begin_1 36 rfl)
    · rw [if_neg c1] at h
      refine v_aload_n F (dq dkX2_begin_0 5 rfl) rfl 0 rfl ?_
      refine v_get F 48 (xn (by decide)) xc_48 rfl inlX2 2 (by decide) (tc5 _ (List.mem_of_getElem? (i := 0) rfl)) rfl rfl (dq dkX2_begin_0 6 rfl) ?_
      refine v_iload_n F (dq dkX2_begin_0 7 rfl) rfl 1 rfl ?_
      refine v_aload_n F (dq dkX2_begin_0 8 rfl) rfl 0 rfl ?_
      refine v_get F 48 (xn (by decide)) xc_48 rfl inlX2 0 (by decide) (tc5 _ (List.mem_of_getElem? (i := 11) rfl)) rfl rfl (dq dkX2_begin_0 9 rfl) ?_
      refine v_iconst F (v := 0) (dq dkX2_begin_0 10 rfl) ki_0 ?_
      refine v_iload_n F (dq dkX2_begin_0 11 rfl) rfl 1 rfl ?_
      obtain ⟨r8, e9, h⟩ := bd_of h
      refine v_callV 2 F (q := 1) (kc1 := 0) (ks1 := 0) (as := [.int 0, .int a1]) (st := [.int a1, .ref (K.1 + 49)]) (st1 := (.int r8 :: [.int a1, .ref (K.1 + 49)])) (res := (some (.int r8))) (c_X8_of (l := C.2.1) x y 1 0 a1 e9) (xn (by decide)) xc_1 rfl (tc20 _ (List.mem_of_getElem? (i := 13) rfl)) (tc14 _ (List.mem_of_getElem? (i := 11) rfl)) (tc14 _ (List.mem_of_getElem? (i := 12) rfl)) (tc1 _ (List.mem_of_getElem? (i := 15) rfl)) (tc14 _ (List.mem_of_getElem? (i := 13) rfl)) (by decide) rfl ⟨rfl, rfl, Nat.le_of_ble_eq_true rfl, Nat.le_of_ble_eq_true rfl⟩ ⟨Nat.le_of_ble_eq_true rfl, Nat.le_of_ble_eq_true rfl⟩ rfl (Nat.le_of_ble_eq_true rfl) rfl rfl rfl (dq dkX2_begin_0 12 rfl) ?_
      obtain ⟨g10, h⟩ := gd_of h
      refine v_iast F 49 (xn (by decide)) xc_49 (ib_in g10) (dq dkX2_begin_0 13 rfl) ?_
      refine v_eqM (xwC (q := 49) (j := a1.toNatClampNeg) (v := r8) (by decide) rfl) ?_
      refine v_aload_n F (dq dkX2_begin_0 14 rfl) rfl 0 rfl ?_
      refine v_get F 48 (xn (by decide)) xc_48 rfl inlX2 3 (by decide) (tc5 _ (List.mem_of_getElem? (i := 1) rfl)) rfl rfl (dq dkX2_begin_0 15 rfl) ?_
      refine v_iload_n F (dq dkX2_begin_0 16 rfl) rfl 1 rfl ?_
      refine v_aload_n F (dq dkX2_begin_0 17 rfl) rfl 0 rfl ?_
      refine v_get F 48 (xn (by decide)) xc_48 rfl inlX2 0 (by decide) (tc5 _ (List.mem_of_getElem? (i := 11) rfl)) rfl rfl (dq dkX2_begin_0 18 rfl) ?_
      refine v_iconst F (v := 1) (dq dkX2_begin_0 19 rfl) ki_1 ?_
      refine v_iload_n F (dq dkX2_begin_0 20 rfl) rfl 1 rfl ?_
      obtain ⟨r11, e12, h⟩ := bd_of h
      refine v_callV 2 F (q := 1) (kc1 := 0) (ks1 := 0) (as := [.int 1, .int a1]) (st := [.int a1, .ref (K.1 + 50)]) (st1 := (.int r11 :: [.int a1, .ref (K.1 + 50)])) (res := (some (.int r11))) (c_X8_of (l := C.2.1) (pi x 49 a1.toNatClampNeg r8) y 1 1 a1 e12) (xn (by decide)) xc_1 rfl (tc20 _ (List.mem_of_getElem? (i := 13) rfl)) (tc14 _ (List.mem_of_getElem? (i := 11) rfl)) (tc14 _ (List.mem_of_getElem? (i := 12) rfl)) (tc1 _ (List.mem_of_getElem? (i := 15) rfl)) (tc14 _ (List.mem_of_getElem? (i := 13) rfl)) (by decide) rfl ⟨rfl, rfl, Nat.le_of_ble_eq_true rfl, Nat.le_of_ble_eq_true rfl⟩ ⟨Nat.le_of_ble_eq_true rfl, Nat.le_of_ble_eq_true rfl⟩ rfl (Nat.le_of_ble_eq_true rfl) rfl rfl rfl (dq dkX2_begin_0 21 rfl) ?_
      obtain ⟨g13, h⟩ := gd_of h
      refine v_iast F 50 (xn (by decide)) xc_50 (ib_in g13) (dq dkX2_begin_0 22 rfl) ?_
      refine v_eqM (xwC (q := 50) (j := a1.toNatClampNeg) (v := r11) (by decide) rfl) ?_
      refine v_aload_n F (dq dkX2_begin_0 23 rfl) rfl 0 rfl ?_
      refine v_get F 48 (xn (by decide)) xc_48 rfl inlX2 4 (by decide) (tc5 _ (List.mem_of_getElem? (i := 2) rfl)) rfl rfl (dq dkX2_begin_0 24 rfl) ?_
      refine v_iload_n F (dq dkX2_begin_0 25 rfl) rfl 1 rfl ?_
      refine v_aload_n F (dq dkX2_begin_0 26 rfl) rfl 0 rfl ?_
      refine v_get F 48 (xn (by decide)) xc_48 rfl inlX2 0 (by decide) (tc5 _ (List.mem_of_getElem? (i := 11) rfl)) rfl rfl (dq dkX2_begin_0 27 rfl) ?_
      refine v_iconst F (v := 2) (dq dkX2_begin_0 28 rfl) ki_2 ?_
      refine v_iload_n F (dq dkX2_begin_0 29 rfl) rfl 1 rfl ?_
      obtain ⟨r14, e15, h⟩ := bd_of h
      refine v_callV 2 F (q := 1) (kc1 := 0) (ks1 := 0) (as := [.int 2, .int a1]) (st := [.int a1, .ref (K.1 + 51)]) (st1 := (.int r14 :: [.int a1, .ref (K.1 + 51)])) (res := (some (.int r14))) (c_X8_of (l := C.2.1) (pi (pi x 49 a1.toNatClampNeg r8) 50 a1.toNatClampNeg r11) y 1 2 a1 e15) (xn (by decide)) xc_1 rfl (tc20 _ (List.mem_of_getElem? (i := 13) rfl)) (tc14 _ (List.mem_of_getElem? (i := 11) rfl)) (tc14 _ (List.mem_of_getElem? (i := 12) rfl)) (tc1 _ (List.mem_of_getElem? (i := 15) rfl)) (tc14 _ (List.mem_of_getElem? (i := 13) rfl)) (by decide) rfl ⟨rfl, rfl, Nat.le_of_ble_eq_true rfl, Nat.le_of_ble_eq_true rfl⟩ ⟨Nat.le_of_ble_eq_true rfl, Nat.le_of_ble_eq_true rfl⟩ rfl (Nat.le_of_ble_eq_true rfl) rfl rfl rfl (dq dkX2_begin_0 30 rfl) ?_
      obtain ⟨g16, h⟩ := gd_of h
      refine v_iast F 51 (xn (by decide)) xc_51 (ib_in g16) (dq dkX2_begin_0 31 rfl) ?_
      refine v_eqM (xwC (q := 51) (j := a1.toNatClampNeg) (v := r14) (by decide) rfl) ?_
      refine v_iinc F (v := a1 + 1) (ls' := [(1, .int (a1 + 1)), (0, .ref (K.1 + 48))]) (dq dkX2_begin_0 32 rfl) (j := 1) rfl (kv_add ki_1) (by decide) rfl ?_
      refine v_goto F (tgt := 2) (dq dkX2_begin_0 33 rfl) (by decide) ?_
      refine v_sub [1, 0] rfl ?_
      exact ih (pi (pi (pi x 49 a1.toNatClampNeg r8) 50 a1.toNatClampNeg r11) 51 a1.toNatClampNeg r14) (a1 + 1) h
def f_X2_begin (x : CS) : Option (CS) := f_X2_begin_2 1000 x 0
set_option maxRecDepth 100000 in
set_option maxHeartbeats 4000000 in
theorem c_X2_begin {K : KE} {l : Launch} {R : CS} (x : CS) (y : MS) (h : f_X2_begin x = some R) : MC K l yX2_begin cX2_begin 2 none rm_X2_begin 0 0 [.ref (K.1 + 48)] (xf K x y) (xf K R y) none := by
  unfold f_X2_begin at h
  refine mc_of (ls0 := [(0, .ref (K.1 + 48))]) (by decide) (Nat.le_of_ble_eq_true rfl) rfl (fun C hl hnm F E => ?_)
  have F : Fx C RX2 cX2_begin 2 rm_X2_begin K := F
  refine v_iconst F (v := 0) (dq dkX2_begin_0 0 rfl) ki_0 ?_
  refine v_istore_n F (ls' := [(1, .int 0), (0, .ref (K.1 + 48))]) (dq dkX2_begin_0 1 rfl) rfl (by decide) rfl ?_
  refine v_sub [1, 0] rfl ?_
  exact t_X2_begin_2 F E 1000 x 0 h
def rm_X2_blow : Room := { frames := 1, cells := 0, slots := 0, locals := 30 }
def f_X2_blow (x : CS) (a1 : Int32) : Option (CS) := some (pi x 52 ((1 : Int32).toNatClampNeg) a1)
set_option maxRecDepth 100000 in
set_option maxHeartbeats 4000000 in
theorem c_X2_blow {K : KE} {l : Launch} {R : CS} (x : CS) (y : MS) (a1 : Int32) (h : f_X2_blow x a1 = some R) : MC K l yX2_blow cX2_blow 2 none rm_X2_blow 0 0 [.ref (K.1 + 48), .int a1] (xf K x y) (xf K R y) none := by
  unfold f_X2_blow at h
  refine mc_of (ls0 := [(0, .ref (K.1 + 48)), (1, .int a1)]) (by decide) (Nat.le_of_ble_eq_true rfl) rfl (fun C hl hnm F E => ?_)
  have F : Fx C RX2 cX2_blow 2 rm_X2_blow K := F
  refine v_aload_n F (dq dkX2_blow_0 0 rfl) rfl 0 rfl ?_
  refine v_get F 48 (xn (by decide)) xc_48 rfl inlX2 5 (by decide) (tc5 _ (List.mem_of_getElem? (i := 3) rfl)) rfl rfl (dq dkX2_blow_0 1 rfl) ?_
  refine v_iconst F (v := 1) (dq dkX2_blow_0 2 rfl) ki_1 ?_
  refine v_iload_n F (dq dkX2_blow_0 3 rfl) rfl 1 rfl ?_
  refine v_iast F 52 (xn (by decide)) xc_52 (ib_in (by decide)) (dq dkX2_blow_0 4 rfl) ?_
  refine v_eqM (xwC (q := 52) (j := (1 : Int32).toNatClampNeg) (v := a1) (by decide) rfl) ?_
  have h := Option.some.inj h
  subst h
  exact v_vret F E (dq dkX2_blow_0 5 rfl)
def rm_X2_drawBy : Room := { frames := 1, cells := 0, slots := 0, locals := 30 }
def f_X2_drawBy (x : CS) (a1 : Int32) : CS := plot x (a1.toInt64 + 1)
set_option maxRecDepth 100000 in
set_option maxHeartbeats 4000000 in
theorem c_X2_drawBy {K : KE} {l : Launch} (x : CS) (y : MS) (a1 : Int32) : MC K l yX2_drawBy cX2_drawBy 2 none rm_X2_drawBy 0 0 [.ref (K.1 + 48), .int a1] (xf K x y) (xf K (f_X2_drawBy x a1) y) none := by
  obtain ⟨R, h⟩ : ∃ R, f_X2_drawBy x a1 = R := ⟨_, rfl⟩
  rw [h]
  unfold f_X2_drawBy at h
  refine mc_of (ls0 := [(0, .ref (K.1 + 48)), (1, .int a1)]) (by decide) (Nat.le_of_ble_eq_true rfl) rfl (fun C hl hnm F E => ?_)
  have F : Fx C RX2 cX2_drawBy 2 rm_X2_drawBy K := F
  refine v_aload_n F (dq dkX2_drawBy_0 0 rfl) rfl 0 rfl ?_
  refine v_iload_n F (dq dkX2_drawBy_0 1 rfl) rfl 1 rfl ?_
  refine v_i2l F (dq dkX2_drawBy_0 2 rfl) ?_
  refine v_lconst F (v := 1) (dq dkX2_drawBy_0 3 rfl) rfl ?_
  refine v_ladd F (dq dkX2_drawBy_0 4 rfl) ?_
  refine v_put F 48 (xn (by decide)) xc_48 rfl inlX2 tyX2_ok nmX2 11 (by decide) (tc5 _ (List.mem_of_getElem? (i := 10) rfl)) rfl rfl (tyX2_ok 11 (by decide)) rfl rfl (Nat.le_of_ble_eq_true rfl) (dq dkX2_drawBy_0 5 rfl) ?_
  refine v_eqM (xw_lot (v := a1.toInt64 + 1)) ?_
  subst h
  exact v_vret F E (dq dkX2_drawBy_0 6 rfl)
def rm_X5_result : Room := { frames := 1, cells := 0, slots := 0, locals := 30 }
def f_X5_result_91 (x : CS) : Option (Int32) := some 0
set_option maxRecDepth 100000 in
set_option maxHeartbeats 4000000 in
theorem t_X5_result_91 {C : Cx} {K : KE} {y : MS} {R : Int32}  (x : CS) (h : f_X5_result_91 x = some R) (F : Fx C RX5 cX5_result 5 rm_X5_result K) (E : CE C (xf K x y) (some (.int R)) 0 0 (some .int)) : V C 91 [] [] (xf K x y) 0 0 := by
  unfold f_X5_result_91 at h
  refine v_iconst F (v := 0) (dq dkX5_result_0 25 rfl) ki_0 ?_
  have h := Option.some.inj h
  subst h
  exact v_iret F E (dq dkX5_result_0 26 rfl)
def f_X5_result_73 (x : CS) : Option (Int32) := some 1
set_option maxRecDepth 100000 in
set_option maxHeartbeats 4000000 in
theorem t_X5_result_73 {C : Cx} {K : KE} {y : MS} {R : Int32}  (x : CS) (h : f_X5_result_73 x = some R) (F : Fx C RX5 cX5_result 5 rm_X5_result K) (E : CE C (xf K x y) (some (.int R)) 0 0 (some .int)) : V C 73 [] [] (xf K x y) 0 0 := by
  unfold f_X5_result_73 at h
  refine v_iconst F (v := 1) (dq dkX5_result_0 15 rfl) ki_1 ?_
  refine v_goto F (tgt := 78) (dq dkX5_result_0 16 rfl) (by decide) ?_
  have h := Option.some.inj h
  subst h
  exact v_iret F E (dq dkX5_result_0 18 rfl)
def f_X5_result (x : CS) (a0 : Int32) (a1 : Int32) (a2 : Int32) (a3 : Nat) : Option (Int32) := if a0 = (-18) then (some (a1 * a2)) else (if a0 = (-17) then (some (a1 - a2)) else (if a0 = (-16) then (some (a1 + a2)) else (if a0 = (-15) then (if a1 = a2 then (some 1) else (some 0)) else (if a0 = (-14) then (if a2 ≤ a1 then (some 0) else (some 1)) else (if a0 = (-13) then (if a1 = 0 then (f_X5_result_91 x) else (if a2 = 0 then (f_X5_result_91 x) else (some 1))) else (if a0 = (-12) then (if a1 = 0 then (if a2 = 0 then (some 0) else (f_X5_result_73 x)) else (f_X5_result_73 x)) else (if a0 = (-11) then (if a1 = 0 then (some 1) else (some 0)) else (if a0 = (-10) then (some (-a1)) else (if a0 < 0 then (gd (decide (0 < al a3)) (if (nI (al a3)) ≤ ((-1) - a0) then (some 0) else (gd (ib ((-1) - a0) (al a3)) (some (gi x a3 ((-1) - a0).toNatClampNeg))))) else (some a0))))))))))
set_option maxRecDepth 100000 in
set_option maxHeartbeats 4000000 in
theorem c_X5_result {K : KE} {l : Launch} {R : Int32} (x : CS) (y : MS) (a0 : Int32) (a1 : Int32) (a2 : Int32) (a3 : Nat) (h : f_X5_result x a0 a1 a2 a3 = some R) : MC K l yX5_result cX5_result 5 (some .int) rm_X5_result 0 0 [.int a0, .int a1, .int a2, .ref (K.1 + a3)] (xf K x y) (xf K x y) (some (.int R)) := by
  unfold f_X5_result at h
  refine mc_of (ls0 := [(0, .int a0), (1, .int a1), (2, .int a2), (3, .ref (K.1 + a3))]) (by decide) (Nat.le_of_ble_eq_true rfl) rfl (fun C hl hnm F E => ?_)
  have F : Fx C RX5 cX5_result 5 rm_X5_result K := F
  refine v_iload_n F (dq dkX5_result_0 0 rfl) rfl 0 rfl ?_
  by_cases c1 : a0 = (-18)
  · rw [if_pos c1] at h
    refine v_tblIn F (off := 122) (tgt := 123) (dq dkX5_result_0 1 rfl) (by rw [c1]; decide) (by rw [c1]; decide) (by rw [c1]; rfl) (by decide) ?_
    refine v_iload_n F (dq dkX5_result_1 9 rfl) rfl 1 rfl ?_
    refine v_iload_n F (dq dkX5_result_1 10 rfl) rfl 2 rfl ?_
    refine v_imul F (dq dkX5_result_1 11 rfl) ?_
    have h := Option.some.inj h
    subst h
    exact v_iret F E (dq dkX5_result_1 12 rfl)
  rw [if_neg c1] at h
  by_cases c2 : a0 = (-17)
  · rw [if_pos c2] at h
    refine v_tblIn F (off := 118) (tgt := 119) (dq dkX5_result_0 1 rfl) (by rw [c2]; decide) (by rw [c2]; decide) (by rw [c2]; rfl) (by decide) ?_
    refine v_iload_n F (dq dkX5_result_1 5 rfl) rfl 1 rfl ?_
    refine v_iload_n F (dq dkX5_result_1 6 rfl) rfl 2 rfl ?_
    refine v_isub F (dq dkX5_result_1 7 rfl) ?_
    have h := Option.some.inj h
    subst h
    exact v_iret F E (dq dkX5_result_1 8 rfl)
  rw [if_neg c2] at h
  by_cases c3 : a0 = (-16)
  · rw [if_pos c3] at h
    refine v_tblIn F (off := 114) (tgt := 115) (dq dkX5_result_0 1 rfl) (by rw [c3]; decide) (by rw [c3]; decide) (by rw [c3]; rfl) (by decide) ?_
    refine v_iload_n F (dq dkX5_result_1 1 rfl) rfl 1 rfl ?_
    refine v_iload_n F (dq dkX5_result_1 2 rfl) rfl 2 rfl ?_
    refine v_iadd F (dq dkX5_result_1 3 rfl) ?_
    have h := Option.some.inj h
    subst h
    exact v_iret F E (dq dkX5_result_1 4 rfl)
  rw [if_neg c3] at h
  by_cases c4 : a0 = (-15)
  · rw [if_pos c4] at h
    refine v_tblIn F (off := 103) (tgt := 104) (dq dkX5_result_0 1 rfl) (by rw [c4]; decide) (by rw [c4]; decide) (by rw [c4]; rfl) (by decide) ?_
    refine v_iload_n F (dq dkX5_result_0 34 rfl) rfl 1 rfl ?_
    refine v_iload_n F (dq dkX5_result_0 35 rfl) rfl 2 rfl ?_
    refine v_icmp_ne F (tgt := 113) (dq dkX5_result_0 36 rfl) (by decide) (fun c5 => ?_) (fun c5 => ?_)
    · rw [if_neg c5] at h
      refine v_iconst F (v := 0) (dq dkX5_result_0 39 rfl) ki_0 ?_
      have h := Option.some.inj h
      subst h
      exact v_iret F E (dq dkX5_result_1 0 rfl)
    · rw [if_pos c5] at h
      refine v_iconst F (v := 1) (dq dkX5_result_0 37 rfl) ki_1 ?_
      refine v_goto F (tgt := 114) (dq dkX5_result_0 38 rfl) (by decide) ?_
      have h := Option.some.inj h
      subst h
      exact v_iret F E (dq dkX5_result_1 0 rfl)
  rw [if_neg c4] at h
  by_cases c6 : a0 = (-14)
  · rw [if_pos c6] at h
    refine v_tblIn F (off := 92) (tgt := 93) (dq dkX5_result_0 1 rfl) (by rw [c6]; decide) (by rw [c6]; decide) (by rw [c6]; rfl) (by decide) ?_
    refine v_iload_n F (dq dkX5_result_0 27 rfl) rfl 1 rfl ?_
    refine v_iload_n F (dq dkX5_result_0 28 rfl) rfl 2 rfl ?_
    refine v_icmp_ge F (tgt := 102) (dq dkX5_result_0 29 rfl) (by decide) (fun c7 => ?_) (fun c7 => ?_)
    · rw [if_pos c7] at h
      refine v_iconst F (v := 0) (dq dkX5_result_0 32 rfl) ki_0 ?_
      have h := Option.some.inj h
      subst h
      exact v_iret F E (dq dkX5_result_0 33 rfl)
    · rw [if_neg c7] at h
      refine v_iconst F (v := 1) (dq dkX5_result_0 30 rfl) ki_1 ?_
      refine v_goto F (tgt := 103) (dq dkX5_result_0 31 rfl) (by decide) ?_
      have h := Option.some.inj h
      subst h
      exact v_iret F E (dq dkX5_result_0 33 rfl)
  rw [if_neg c6] at h
  by_cases c8 : a0 = (-13)
  · rw [if_pos c8] at h
    refine v_tblIn F (off := 78) (tgt := 79) (dq dkX5_result_0 1 rfl) (by rw [c8]; decide) (by rw [c8]; decide) (by rw [c8]; rfl) (by decide) ?_
    refine v_iload_n F (dq dkX5_result_0 19 rfl) rfl 1 rfl ?_
    refine v_if_eq F (tgt := 91) (dq dkX5_result_0 20 rfl) (by decide) (fun c9 => ?_) (fun c9 => ?_)
    · rw [if_pos c9] at h
      refine v_sub [] rfl ?_
      exact t_X5_result_91 x h F E
    · rw [if_neg c9] at h
      refine v_iload_n F (dq dkX5_result_0 21 rfl) rfl 2 rfl ?_
      refine v_if_eq F (tgt := 91) (dq dkX5_result_0 22 rfl) (by decide) (fun c10 => ?_) (fun c10 => ?_)
      · rw [if_pos c10] at h
        refine v_sub [] rfl ?_
        exact t_X5_result_91 x h F E
      · rw [if_neg c10] at h
        refine v_iconst F (v := 1) (dq dkX5_result_0 23 rfl) ki_1 ?_
        refine v_goto F (tgt := 92) (dq dkX5_result_0 24 rfl) (by decide) ?_
        have h := Option.some.inj h
        subst h
        exact v_iret F E (dq dkX5_result_0 26 rfl)
  rw [if_neg c8] at h
  by_cases c11 : a0 = (-12)
  · rw [if_pos c11] at h
    refine v_tblIn F (off := 64) (tgt := 65) (dq dkX5_result_0 1 rfl) (by rw [c11]; decide) (by rw [c11]; decide) (by rw [c11]; rfl) (by decide) ?_
    refine v_iload_n F (dq dkX5_result_0 11 rfl) rfl 1 rfl ?_
    refine v_if_ne F (tgt := 73) (dq dkX5_result_0 12 rfl) (by decide) (fun c12 => ?_) (fun c12 => ?_)
    · rw [if_neg c12] at h
      refine v_sub [] rfl ?_
      exact t_X5_result_73 x h F E
    · rw [if_pos c12] at h
      refine v_iload_n F (dq dkX5_result_0 13 rfl) rfl 2 rfl ?_
      refine v_if_eq F (tgt := 77) (dq dkX5_result_0 14 rfl) (by decide) (fun c13 => ?_) (fun c13 => ?_)
      · rw [if_pos c13] at h
        refine v_iconst F (v := 0) (dq dkX5_result_0 17 rfl) ki_0 ?_
        have h := Option.some.inj h
        subst h
        exact v_iret F E (dq dkX5_result_0 18 rfl)
      · rw [if_neg c13] at h
        refine v_sub [] rfl ?_
        exact t_X5_result_73 x h F E
  rw [if_neg c11] at h
  by_cases c14 : a0 = (-11)
  · rw [if_pos c14] at h
    refine v_tblIn F (off := 54) (tgt := 55) (dq dkX5_result_0 1 rfl) (by rw [c14]; decide) (by rw [c14]; decide) (by rw [c14]; rfl) (by decide) ?_
    refine v_iload_n F (dq dkX5_result_0 5 rfl) rfl 1 rfl ?_
    refine v_if_ne F (tgt := 63) (dq dkX5_result_0 6 rfl) (by decide) (fun c15 => ?_) (fun c15 => ?_)
    · rw [if_neg c15] at h
      refine v_iconst F (v := 0) (dq dkX5_result_0 9 rfl) ki_0 ?_
      have h := Option.some.inj h
      subst h
      exact v_iret F E (dq dkX5_result_0 10 rfl)
    · rw [if_pos c15] at h
      refine v_iconst F (v := 1) (dq dkX5_result_0 7 rfl) ki_1 ?_
      refine v_goto F (tgt := 64) (dq dkX5_result_0 8 rfl) (by decide) ?_
      have h := Option.some.inj h
      subst h
      exact v_iret F E (dq dkX5_result_0 10 rfl)
  rw [if_neg c14] at h
  by_cases c16 : a0 = (-10)
  · rw [if_pos c16] at h
    refine v_tblIn F (off := 51) (tgt := 52) (dq dkX5_result_0 1 rfl) (by rw [c16]; decide) (by rw [c16]; decide) (by rw [c16]; rfl) (by decide) ?_
    refine v_iload_n F (dq dkX5_result_0 2 rfl) rfl 1 rfl ?_
    refine v_ineg F (dq dkX5_result_0 3 rfl) ?_
    have h := Option.some.inj h
    subst h
    exact v_iret F E (dq dkX5_result_0 4 rfl)
  rw [if_neg c16] at h
  have zc1 := lv_neT c1 (a := -18) (by decide)
  have zc2 := lv_neT c2 (a := -17) (by decide)
  have zc3 := lv_neT c3 (a := -16) (by decide)
  have zc4 := lv_neT c4 (a := -15) (by decide)
  have zc6 := lv_neT c6 (a := -14) (by decide)
  have zc8 := lv_neT c8 (a := -13) (by decide)
  have zc11 := lv_neT c11 (a := -12) (by decide)
  have zc14 := lv_neT c14 (a := -11) (by decide)
  have zc16 := lv_neT c16 (a := -10) (by decide)
  refine v_tblOut F (tgt := 127) (dq dkX5_result_0 1 rfl) (by omega) (by decide) ?_
  refine v_iload_n F (dq dkX5_result_1 13 rfl) rfl 0 rfl ?_
  refine v_if_lt F (tgt := 133) (dq dkX5_result_1 14 rfl) (by decide) (fun c17 => ?_) (fun c17 => ?_)
  · rw [if_pos c17] at h
    refine v_iconst F (v := (-1)) (dq dkX5_result_1 17 rfl) ki_m1 ?_
    refine v_iload_n F (dq dkX5_result_1 18 rfl) rfl 0 rfl ?_
    refine v_isub F (dq dkX5_result_1 19 rfl) ?_
    refine v_istore F (ls' := [(4, .int ((-1) - a0)), (0, .int a0), (1, .int a1), (2, .int a2), (3, .ref (K.1 + a3))]) (dq dkX5_result_1 20 rfl) (by decide) rfl ?_
    refine v_iload F (dq dkX5_result_1 21 rfl) 0 rfl ?_
    refine v_aload_n F (dq dkX5_result_1 22 rfl) rfl 4 rfl ?_
    obtain ⟨g18, h⟩ := gd_of h
    refine v_alen F a3 (xl_lt g18) (xl_at g18) (t := 0) rfl (n := nI (al a3)) rfl (dq dkX5_result_1 23 rfl) ?_
    refine v_icmp_ge F (tgt := 152) (dq dkX5_result_1 24 rfl) (by decide) (fun c19 => ?_) (fun c19 => ?_)
    · rw [if_pos c19] at h
      refine v_iconst F (v := 0) (dq dkX5_result_1 29 rfl) ki_0 ?_
      have h := Option.some.inj h
      subst h
      exact v_iret F E (dq dkX5_result_1 30 rfl)
    · rw [if_neg c19] at h
      refine v_aload_n F (dq dkX5_result_1 25 rfl) rfl 4 rfl ?_
      refine v_iload F (dq dkX5_result_1 26 rfl) 0 rfl ?_
      obtain ⟨g20, h⟩ := gd_of h
      refine v_iald F a3 (xa_lt g20) (xa_at g20) (ib_in g20) (dq dkX5_result_1 27 rfl) ?_
      refine v_goto F (tgt := 153) (dq dkX5_result_1 28 rfl) (by decide) ?_
      have h := Option.some.inj h
      subst h
      exact v_iret F E (dq dkX5_result_1 30 rfl)
  · rw [if_neg c17] at h
    refine v_iload_n F (dq dkX5_result_1 15 rfl) rfl 0 rfl ?_
    have h := Option.some.inj h
    subst h
    exact v_iret F E (dq dkX5_result_1 16 rfl)
