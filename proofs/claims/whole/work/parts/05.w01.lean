def rm_X0_commonOf : Room := { frames := 1, cells := 0, slots := 0, locals := 30 }
def f_X0_commonOf_45 (a4 : Int64) : Option (Int64) := some a4
set_option maxRecDepth 100000 in
set_option maxHeartbeats 4000000 in
theorem t_X0_commonOf_45 {C : Cx} {K : KE} {M : GM} {R : Int64}  (a4 : Int64) (h : f_X0_commonOf_45 a4 = some R) (F : Fx C RX0 cX0_commonOf 11 rm_X0_commonOf K) (E : CE C M (some (.long R)) 0 0 (some .long)) : V C 45 [(4, .long a4)] [] M 0 0 := by
  unfold f_X0_commonOf_45 at h
  refine v_lload F (dq dkX0_commonOf_0 23 rfl) 0 rfl ?_
  cases h
  exact v_lret F E (dq dkX0_commonOf_0 24 rfl)
def f_X0_commonOf_9 : Nat → Int64 → Int64 → Int32 → Option (Int64)
  | 0, _, _, _ => none
  | n + 1, a4, a6, a8 => if 200 ≤ a8 then (f_X0_commonOf_45 a4) else (if (lg_cmp a6 0) = 0 then (f_X0_commonOf_45 a4) else (gd (decide (¬ a6 = 0)) ((f_X0_commonOf_9 n) a6 (a4 - a4 / a6 * a6) (a8 + 1))))
set_option maxRecDepth 100000 in
set_option maxHeartbeats 4000000 in
theorem t_X0_commonOf_9 {C : Cx} {K : KE} {M : GM} {R : Int64}  (F : Fx C RX0 cX0_commonOf 11 rm_X0_commonOf K) (E : CE C M (some (.long R)) 0 0 (some .long)) : ∀ (n : Nat) (a4 : Int64) (a6 : Int64) (a8 : Int32) (h : f_X0_commonOf_9 n a4 a6 a8 = some R), V C 9 [(4, .long a4), (6, .long a6), (8, .int a8)] [] M 0 0 := by
  intro n
  induction n with
  | zero => intro a4 a6 a8 h; cases h
  | succ n ih =>
    intro a4 a6 a8 h
    rw [f_X0_commonOf_9] at h
    refine v_iload F (dq dkX0_commonOf_0 6 rfl) 2 rfl ?_
    refine v_sipush F (v := 200) (dq dkX0_commonOf_0 7 rfl) ks_200 ?_
    refine v_icmp_ge F (tgt := 45) (dq dkX0_commonOf_0 8 rfl) (by decide) (fun c1 => ?_) (fun c1 => ?_)
    · rw [if_pos c1] at h
      refine v_sub [0] rfl ?_
      exact t_X0_commonOf_45 a4 h F E
    · rw [if_neg c1] at h
      refine v_lload F (dq dkX0_commonOf_0 9 rfl) 1 rfl ?_
      refine v_lconst F (v := 0) (dq dkX0_commonOf_0 10 rfl) rfl ?_
      refine v_lcmp F (dq dkX0_commonOf_0 11 rfl) ?_
      refine v_if_eq F (tgt := 45) (dq dkX0_commonOf_0 12 rfl) (by decide) (fun c2 => ?_) (fun c2 => ?_)
      · rw [if_pos c2] at h
        refine v_sub [0] rfl ?_
        exact t_X0_commonOf_45 a4 h F E
      · rw [if_neg c2] at h
        refine v_lload F (dq dkX0_commonOf_0 13 rfl) 0 rfl ?_
        refine v_lload F (dq dkX0_commonOf_0 14 rfl) 1 rfl ?_
        obtain ⟨g3, h⟩ := gd_of h
        refine v_lrem F (dq dkX0_commonOf_0 15 rfl) (of_decide_eq_true g3) ?_
        refine v_lstore F (ls' := [(9, .long (a4 - a4 / a6 * a6)), (4, .long a4), (6, .long a6), (8, .int a8)]) (dq dkX0_commonOf_0 16 rfl) (by decide) rfl ?_
        refine v_lload F (dq dkX0_commonOf_0 17 rfl) 2 rfl ?_
        refine v_lstore F (ls' := [(4, .long a6), (9, .long (a4 - a4 / a6 * a6)), (6, .long a6), (8, .int a8)]) (dq dkX0_commonOf_0 18 rfl) (by decide) rfl ?_
        refine v_lload F (dq dkX0_commonOf_0 19 rfl) 1 rfl ?_
        refine v_lstore F (ls' := [(6, .long (a4 - a4 / a6 * a6)), (4, .long a6), (9, .long (a4 - a4 / a6 * a6)), (8, .int a8)]) (dq dkX0_commonOf_0 20 rfl) (by decide) rfl ?_
        refine v_iinc F (v := a8 + 1) (ls' := [(8, .int (a8 + 1)), (6, .long (a4 - a4 / a6 * a6)), (4, .long a6), (9, .long (a4 - a4 / a6 * a6))]) (dq dkX0_commonOf_0 21 rfl) (j := 3) rfl (kv_add ki_1) (by decide) rfl ?_
        refine v_goto F (tgt := 9) (dq dkX0_commonOf_0 22 rfl) (by decide) ?_
        refine v_sub [2, 1, 0] rfl ?_
        exact ih a6 (a4 - a4 / a6 * a6) (a8 + 1) h
def f_X0_commonOf (a0 : Int64) (a2 : Int64) : Option (Int64) := f_X0_commonOf_9 1000 a0 a2 0
set_option maxRecDepth 100000 in
set_option maxHeartbeats 4000000 in
theorem c_X0_commonOf {K : KE} {l : Launch} {R : Int64} {M : GM} (a0 : Int64) (a2 : Int64) (h : f_X0_commonOf a0 a2 = some R) : MC K l yX0_commonOf cX0_commonOf 11 (some .long) rm_X0_commonOf 0 0 [.long a0, .long a2] M M (some (.long R)) := by
  refine mc_of (ls0 := [(0, .long a0), (2, .long a2)]) (by decide) (Nat.le_of_ble_eq_true rfl) rfl (fun C hl F E => ?_)
  have F : Fx C RX0 cX0_commonOf 11 rm_X0_commonOf K := F
  unfold f_X0_commonOf at h
  refine v_lload_n F (dq dkX0_commonOf_0 0 rfl) rfl 0 rfl ?_
  refine v_lstore F (ls' := [(4, .long a0), (0, .long a0), (2, .long a2)]) (dq dkX0_commonOf_0 1 rfl) (by decide) rfl ?_
  refine v_lload_n F (dq dkX0_commonOf_0 2 rfl) rfl 2 rfl ?_
  refine v_lstore F (ls' := [(6, .long a2), (4, .long a0), (0, .long a0), (2, .long a2)]) (dq dkX0_commonOf_0 3 rfl) (by decide) rfl ?_
  refine v_iconst F (v := 0) (dq dkX0_commonOf_0 4 rfl) ki_0 ?_
  refine v_istore F (ls' := [(8, .int 0), (6, .long a2), (4, .long a0), (0, .long a0), (2, .long a2)]) (dq dkX0_commonOf_0 5 rfl) (by decide) rfl ?_
  refine v_sub [2, 1, 0] rfl ?_
  exact t_X0_commonOf_9 F E 1000 a0 a2 0 h
def rm_X10_within : Room := { frames := 1, cells := 0, slots := 0, locals := 30 }
def f_X10_within_14 : Bool := false
set_option maxRecDepth 100000 in
set_option maxHeartbeats 4000000 in
theorem t_X10_within_14 {C : Cx} {K : KE} {M : GM} {R : Bool}  (h : f_X10_within_14  = R) (F : Fx C RX10 cX10_within 3 rm_X10_within K) (E : CE C M (some (.int (b2i R))) 0 0 (some .boolean)) : V C 14 [] [] M 0 0 := by
  unfold f_X10_within_14 at h
  refine v_iconst F (v := 0) (dq dkX10_within_0 8 rfl) ki_0 ?_
  cases h
  exact v_zret F E (b2i_n false) (dq dkX10_within_0 9 rfl)
def f_X10_within (a0 : Int32) (a1 : Int32) (a2 : Int32) : Bool := if a0 < a1 then f_X10_within_14 else (if a2 < a0 then f_X10_within_14 else true)
set_option maxRecDepth 100000 in
set_option maxHeartbeats 4000000 in
theorem c_X10_within {K : KE} {l : Launch} {M : GM} (a0 : Int32) (a1 : Int32) (a2 : Int32) : MC K l yX10_within cX10_within 3 (some .boolean) rm_X10_within 0 0 [.int a0, .int a1, .int a2] M M (some (.int (b2i (f_X10_within a0 a1 a2)))) := by
  refine mc_of (ls0 := [(0, .int a0), (1, .int a1), (2, .int a2)]) (by decide) (Nat.le_of_ble_eq_true rfl) rfl (fun C hl F E => ?_)
  have F : Fx C RX10 cX10_within 3 rm_X10_within K := F
  obtain ⟨R, h⟩ : ∃ R, f_X10_within a0 a1 a2 = R := ⟨_, rfl⟩
  rw [h] at E
  unfold f_X10_within at h
  refine v_iload_n F (dq dkX10_within_0 0 rfl) rfl 0 rfl ?_
  refine v_iload_n F (dq dkX10_within_0 1 rfl) rfl 1 rfl ?_
  refine v_icmp_lt F (tgt := 14) (dq dkX10_within_0 2 rfl) (by decide) (fun c1 => ?_) (fun c1 => ?_)
  · rw [if_pos c1] at h
    refine v_sub [] rfl ?_
    exact t_X10_within_14 h F E
  · rw [if_neg c1] at h
    refine v_iload_n F (dq dkX10_within_0 3 rfl) rfl 0 rfl ?_
    refine v_iload_n F (dq dkX10_within_0 4 rfl) rfl 2 rfl ?_
    refine v_icmp_gt F (tgt := 14) (dq dkX10_within_0 5 rfl) (by decide) (fun c2 => ?_) (fun c2 => ?_)
    · rw [if_pos c2] at h
      refine v_sub [] rfl ?_
      exact t_X10_within_14 h F E
    · rw [if_neg c2] at h
      refine v_iconst F (v := 1) (dq dkX10_within_0 6 rfl) ki_1 ?_
      refine v_goto F (tgt := 15) (dq dkX10_within_0 7 rfl) (by decide) ?_
      cases h
      exact v_zret F E (b2i_n true) (dq dkX10_within_0 9 rfl)
def rm_X4_has : Room := { frames := 1, cells := 0, slots := 0, locals := 30 }
def f_X4_has_22 (t0 : Nat) (x : CS) : Option (Bool) := some false
set_option maxRecDepth 100000 in
set_option maxHeartbeats 4000000 in
theorem t_X4_has_22 {C : Cx} {K : KE} {y : MS} {R : Bool}  (t0 : Nat) (x : CS) (h : f_X4_has_22 t0 x = some R) (F : Fx C RX4 cX4_has 2 rm_X4_has K) (E : CE C (xf K x y) (some (.int (b2i R))) 0 0 (some .boolean)) : V C 22 [] [] (xf K x y) 0 0 := by
  unfold f_X4_has_22 at h
  refine v_iconst F (v := 0) (dq dkX4_has_0 11 rfl) ki_0 ?_
  cases h
  exact v_zret F E (b2i_n false) (dq dkX4_has_0 12 rfl)
def f_X4_has (x : CS) (t0 : Nat) (a1 : Int32) : Option (Bool) := gd (kSh t0) (if a1 < 0 then (f_X4_has_22 t0 x) else (gd (kSh t0) (if (gi x t0 2) ≤ a1 then (f_X4_has_22 t0 x) else (if 40 ≤ a1 then (f_X4_has_22 t0 x) else (some true)))))
set_option maxRecDepth 100000 in
set_option maxHeartbeats 4000000 in
theorem c_X4_has {K : KE} {l : Launch} {R : Bool} (x : CS) (y : MS) (t0 : Nat) (a1 : Int32) (h : f_X4_has x t0 a1 = some R) : MC K l yX4_has cX4_has 2 (some .boolean) rm_X4_has 0 0 [.ref (K.1 + t0), .int a1] (xf K x y) (xf K x y) (some (.int (b2i R))) := by
  refine mc_of (ls0 := [(0, .ref (K.1 + t0)), (1, .int a1)]) (by decide) (Nat.le_of_ble_eq_true rfl) rfl (fun C hl F E => ?_)
  have F : Fx C RX4 cX4_has 2 rm_X4_has K := F
  unfold f_X4_has at h
  obtain ⟨_, h⟩ := gd_of h
  refine v_iload_n F (dq dkX4_has_0 0 rfl) rfl 1 rfl ?_
  refine v_if_lt F (tgt := 22) (dq dkX4_has_0 1 rfl) (by decide) (fun c1 => ?_) (fun c1 => ?_)
  · rw [if_pos c1] at h
    refine v_sub [] rfl ?_
    exact t_X4_has_22 t0 x h F E
  · rw [if_neg c1] at h
    refine v_iload_n F (dq dkX4_has_0 2 rfl) rfl 1 rfl ?_
    refine v_aload_n F (dq dkX4_has_0 3 rfl) rfl 0 rfl ?_
    obtain ⟨g2, h⟩ := gd_of h
    refine v_get F t0 (kSh_lt g2) (kSh_at g2) rfl inlX4 2 (by decide) (tc5 _ (List.mem_of_getElem? (i := 18) rfl)) rfl rfl (dq dkX4_has_0 4 rfl) ?_
    refine v_icmp_ge F (tgt := 22) (dq dkX4_has_0 5 rfl) (by decide) (fun c3 => ?_) (fun c3 => ?_)
    · rw [if_pos c3] at h
      refine v_sub [] rfl ?_
      exact t_X4_has_22 t0 x h F E
    · rw [if_neg c3] at h
      refine v_iload_n F (dq dkX4_has_0 6 rfl) rfl 1 rfl ?_
      refine v_bipush F (v := 40) (dq dkX4_has_0 7 rfl) kb_40 ?_
      refine v_icmp_ge F (tgt := 22) (dq dkX4_has_0 8 rfl) (by decide) (fun c4 => ?_) (fun c4 => ?_)
      · rw [if_pos c4] at h
        refine v_sub [] rfl ?_
        exact t_X4_has_22 t0 x h F E
      · rw [if_neg c4] at h
        refine v_iconst F (v := 1) (dq dkX4_has_0 9 rfl) ki_1 ?_
        refine v_goto F (tgt := 23) (dq dkX4_has_0 10 rfl) (by decide) ?_
        cases h
        exact v_zret F E (b2i_n true) (dq dkX4_has_0 12 rfl)
theorem f_X4_has_k {R : Bool} {x : CS} {t0 : Nat} {a1 : Int32} (h : f_X4_has x t0 a1 = some R) : kSh t0 = true := by
  unfold f_X4_has at h
  exact (gd_of h).1
def rm_X4_at : Room := { frames := 2, cells := 0, slots := 0, locals := 51 }
def f_X4_at (x : CS) (t0 : Nat) (a1 : Int32) : Option (Int32) := gd (kSh t0) ((f_X4_has x t0 a1).bind fun r1 => if (b2i r1) = 0 then (some 0) else (gd (kSh t0) (gd (ib a1 (al (t0 + 1))) (some (gi x (t0 + 1) a1.toNatClampNeg)))))
set_option maxRecDepth 100000 in
set_option maxHeartbeats 4000000 in
theorem c_X4_at {K : KE} {l : Launch} {R : Int32} (x : CS) (y : MS) (t0 : Nat) (a1 : Int32) (h : f_X4_at x t0 a1 = some R) : MC K l yX4_at cX4_at 2 (some .int) rm_X4_at 0 0 [.ref (K.1 + t0), .int a1] (xf K x y) (xf K x y) (some (.int R)) := by
  refine mc_of (ls0 := [(0, .ref (K.1 + t0)), (1, .int a1)]) (by decide) (Nat.le_of_ble_eq_true rfl) rfl (fun C hl F E => ?_)
  have F : Fx C RX4 cX4_at 2 rm_X4_at K := F
  unfold f_X4_at at h
  obtain ⟨_, h⟩ := gd_of h
  refine v_aload_n F (dq dkX4_at_0 0 rfl) rfl 0 rfl ?_
  refine v_iload_n F (dq dkX4_at_0 1 rfl) rfl 1 rfl ?_
  obtain ⟨r1, e2, h⟩ := bd_of h
  refine v_callV 1 F (q := t0) (as := [.int a1]) (st := []) (st1 := (.int (b2i r1) :: [])) (res := (some (.int (b2i r1)))) (c_X4_has (l := C.2.1) x y t0 a1 e2) (kSh_lt (f_X4_has_k e2)) (kSh_at (f_X4_has_k e2)) rfl (tc35 _ (List.mem_of_getElem? (i := 11) rfl)) (tc35 _ (List.mem_of_getElem? (i := 12) rfl)) (tc35 _ (List.mem_of_getElem? (i := 13) rfl)) (tc2 _ (List.mem_of_getElem? (i := 22) rfl)) (tc35 _ (List.mem_of_getElem? (i := 14) rfl)) (by decide) rfl ⟨rfl, rfl, Nat.le_of_ble_eq_true rfl, Nat.le_of_ble_eq_true rfl⟩ ⟨Nat.le_of_ble_eq_true rfl, Nat.le_of_ble_eq_true rfl⟩ rfl (Nat.le_of_ble_eq_true rfl) rfl rfl rfl (dq dkX4_at_0 2 rfl) ?_
  refine v_if_eq F (tgt := 17) (dq dkX4_at_0 3 rfl) (by decide) (fun c3 => ?_) (fun c3 => ?_)
  · rw [if_pos c3] at h
    refine v_iconst F (v := 0) (dq dkX4_at_0 9 rfl) ki_0 ?_
    cases h
    exact v_iret F E (dq dkX4_at_0 10 rfl)
  · rw [if_neg c3] at h
    refine v_aload_n F (dq dkX4_at_0 4 rfl) rfl 0 rfl ?_
    obtain ⟨g4, h⟩ := gd_of h
    refine v_get F t0 (kSh_lt g4) (kSh_at g4) rfl inlX4 0 (by decide) (tc5 _ (List.mem_of_getElem? (i := 16) rfl)) rfl rfl (dq dkX4_at_0 5 rfl) ?_
    refine v_iload_n F (dq dkX4_at_0 6 rfl) rfl 1 rfl ?_
    obtain ⟨g5, h⟩ := gd_of h
    refine v_iald F (t0 + 1) (xa_lt g5) (xa_at g5) (ib_in g5) (dq dkX4_at_0 7 rfl) ?_
    refine v_goto F (tgt := 18) (dq dkX4_at_0 8 rfl) (by decide) ?_
    cases h
    exact v_iret F E (dq dkX4_at_0 10 rfl)
theorem f_X4_at_k {R : Int32} {x : CS} {t0 : Nat} {a1 : Int32} (h : f_X4_at x t0 a1 = some R) : kSh t0 = true := by
  unfold f_X4_at at h
  exact (gd_of h).1
def rm_X10_isSection : Room := { frames := 2, cells := 0, slots := 0, locals := 52 }
def f_X10_isSection (a0 : Int32) : Bool := (f_X10_within a0 0 8)
set_option maxRecDepth 100000 in
set_option maxHeartbeats 4000000 in
theorem c_X10_isSection {K : KE} {l : Launch} {M : GM} (a0 : Int32) : MC K l yX10_isSection cX10_isSection 1 (some .boolean) rm_X10_isSection 0 0 [.int a0] M M (some (.int (b2i (f_X10_isSection a0)))) := by
  refine mc_of (ls0 := [(0, .int a0)]) (by decide) (Nat.le_of_ble_eq_true rfl) rfl (fun C hl F E => ?_)
  have F : Fx C RX10 cX10_isSection 1 rm_X10_isSection K := F
  obtain ⟨R, h⟩ : ∃ R, f_X10_isSection a0 = R := ⟨_, rfl⟩
  rw [h] at E
  unfold f_X10_isSection at h
  refine v_iload_n F (dq dkX10_isSection_0 0 rfl) rfl 0 rfl ?_
  refine v_iconst F (v := 0) (dq dkX10_isSection_0 1 rfl) ki_0 ?_
  refine v_bipush F (v := 8) (dq dkX10_isSection_0 2 rfl) kb_8 ?_
  refine v_callS 3 F (as := [.int a0, .int 0, .int 8]) (st := []) (st1 := (.int (b2i (f_X10_within a0 0 8)) :: [])) (res := (some (.int (b2i (f_X10_within a0 0 8))))) (c_X10_within (l := C.2.1) a0 0 8) (tc14 _ (List.mem_of_getElem? (i := 3) rfl)) (tc8 _ (List.mem_of_getElem? (i := 15) rfl)) (tc1 _ (List.mem_of_getElem? (i := 2) rfl)) (tc8 _ (List.mem_of_getElem? (i := 16) rfl)) (by decide) rfl ⟨rfl, rfl, Nat.le_of_ble_eq_true rfl, Nat.le_of_ble_eq_true rfl⟩ ⟨Nat.le_of_ble_eq_true rfl, Nat.le_of_ble_eq_true rfl⟩ rfl (Nat.le_of_ble_eq_true rfl) rfl rfl rfl (dq dkX10_isSection_0 3 rfl) ?_
  cases h
  exact v_zret F E (b2i_n (f_X10_within a0 0 8)) (dq dkX10_isSection_0 4 rfl)
def rm_X8_of : Room := { frames := 3, cells := 0, slots := 0, locals := 72 }
def f_X8_of_27 (t0 : Nat) (x : CS) : Option (Int32) := some 0
set_option maxRecDepth 100000 in
set_option maxHeartbeats 4000000 in
theorem t_X8_of_27 {C : Cx} {K : KE} {y : MS} {R : Int32}  (t0 : Nat) (x : CS) (h : f_X8_of_27 t0 x = some R) (F : Fx C RX8 cX8_of 3 rm_X8_of K) (E : CE C (xf K x y) (some (.int R)) 0 0 (some .int)) : V C 27 [] [] (xf K x y) 0 0 := by
  unfold f_X8_of_27 at h
  refine v_iconst F (v := 0) (dq dkX8_of_0 15 rfl) ki_0 ?_
  cases h
  exact v_iret F E (dq dkX8_of_0 16 rfl)
def f_X8_of (x : CS) (t0 : Nat) (a1 : Int32) (a2 : Int32) : Option (Int32) := gd (kWd t0) (if (b2i (f_X10_within a1 0 5)) = 0 then (f_X8_of_27 t0 x) else (if (b2i (f_X10_isSection a2)) = 0 then (f_X8_of_27 t0 x) else (gd (kWd t0) (gd (kWd t0) (gd (ib a1 6) (gd (ib a2 (al (t0 + 2 + a1.toNatClampNeg))) (some (gi x (t0 + 2 + a1.toNatClampNeg) a2.toNatClampNeg))))))))
set_option maxRecDepth 100000 in
set_option maxHeartbeats 4000000 in
theorem c_X8_of {K : KE} {l : Launch} {R : Int32} (x : CS) (y : MS) (t0 : Nat) (a1 : Int32) (a2 : Int32) (h : f_X8_of x t0 a1 a2 = some R) : MC K l yX8_of cX8_of 3 (some .int) rm_X8_of 0 0 [.ref (K.1 + t0), .int a1, .int a2] (xf K x y) (xf K x y) (some (.int R)) := by
  refine mc_of (ls0 := [(0, .ref (K.1 + t0)), (1, .int a1), (2, .int a2)]) (by decide) (Nat.le_of_ble_eq_true rfl) rfl (fun C hl F E => ?_)
  have F : Fx C RX8 cX8_of 3 rm_X8_of K := F
  unfold f_X8_of at h
  obtain ⟨_, h⟩ := gd_of h
  refine v_iload_n F (dq dkX8_of_0 0 rfl) rfl 1 rfl ?_
  refine v_iconst F (v := 0) (dq dkX8_of_0 1 rfl) ki_0 ?_
  refine v_iconst F (v := 5) (dq dkX8_of_0 2 rfl) ki_5 ?_
  refine v_callSN 3 F (as := [.int a1, .int 0, .int 5]) (st := []) (st1 := (.int (b2i (f_X10_within a1 0 5)) :: [])) (res := (some (.int (b2i (f_X10_within a1 0 5))))) (c_X10_within (l := C.2.1) a1 0 5) (List.mem_of_getElem? (i := 6) rfl) (tc8 _ (List.mem_of_getElem? (i := 15) rfl)) (tc1 _ (List.mem_of_getElem? (i := 2) rfl)) (tc8 _ (List.mem_of_getElem? (i := 16) rfl)) (by decide) rfl ⟨rfl, rfl, Nat.le_of_ble_eq_true rfl, Nat.le_of_ble_eq_true rfl⟩ ⟨Nat.le_of_ble_eq_true rfl, Nat.le_of_ble_eq_true rfl⟩ rfl (Nat.le_of_ble_eq_true rfl) rfl rfl rfl (dq dkX8_of_0 3 rfl) ?_
  refine v_if_eq F (tgt := 27) (dq dkX8_of_0 4 rfl) (by decide) (fun c2 => ?_) (fun c2 => ?_)
  · rw [if_pos c2] at h
    refine v_sub [] rfl ?_
    exact t_X8_of_27 t0 x h F E
  · rw [if_neg c2] at h
    refine v_iload_n F (dq dkX8_of_0 5 rfl) rfl 2 rfl ?_
    refine v_callSN 1 F (as := [.int a2]) (st := []) (st1 := (.int (b2i (f_X10_isSection a2)) :: [])) (res := (some (.int (b2i (f_X10_isSection a2))))) (c_X10_isSection (l := C.2.1) a2) (List.mem_of_getElem? (i := 7) rfl) (tc14 _ (List.mem_of_getElem? (i := 1) rfl)) (tc1 _ (List.mem_of_getElem? (i := 2) rfl)) (tc14 _ (List.mem_of_getElem? (i := 2) rfl)) (by decide) rfl ⟨rfl, rfl, Nat.le_of_ble_eq_true rfl, Nat.le_of_ble_eq_true rfl⟩ ⟨Nat.le_of_ble_eq_true rfl, Nat.le_of_ble_eq_true rfl⟩ rfl (Nat.le_of_ble_eq_true rfl) rfl rfl rfl (dq dkX8_of_0 6 rfl) ?_
    refine v_if_eq F (tgt := 27) (dq dkX8_of_0 7 rfl) (by decide) (fun c4 => ?_) (fun c4 => ?_)
    · rw [if_pos c4] at h
      refine v_sub [] rfl ?_
      exact t_X8_of_27 t0 x h F E
    · rw [if_neg c4] at h
      refine v_aload_n F (dq dkX8_of_0 8 rfl) rfl 0 rfl ?_
      obtain ⟨g5, h⟩ := gd_of h
      refine v_get F t0 (kWd_lt g5) (kWd_at g5) rfl inlX8 0 (by decide) (tc3 _ (List.mem_of_getElem? (i := 4) rfl)) rfl rfl (dq dkX8_of_0 9 rfl) ?_
      refine v_iload_n F (dq dkX8_of_0 10 rfl) rfl 1 rfl ?_
      obtain ⟨g7, h⟩ := gd_of h
      obtain ⟨g6, h⟩ := gd_of h
      refine v_aald F (t0 + 1) (kWd_lt1 g7) (kWd_rw g7) (t := 2) rfl rfl (ib_in g6) (dq dkX8_of_0 11 rfl) ?_
      refine v_iload_n F (dq dkX8_of_0 12 rfl) rfl 2 rfl ?_
      obtain ⟨g8, h⟩ := gd_of h
      refine v_iald F (t0 + 2 + a1.toNatClampNeg) (xa_lt g8) (xa_at g8) (ib_in g8) (dq dkX8_of_0 13 rfl) ?_
      refine v_goto F (tgt := 28) (dq dkX8_of_0 14 rfl) (by decide) ?_
      cases h
      exact v_iret F E (dq dkX8_of_0 16 rfl)
theorem f_X8_of_k {R : Int32} {x : CS} {t0 : Nat} {a1 : Int32} {a2 : Int32} (h : f_X8_of x t0 a1 a2 = some R) : kWd t0 = true := by
  unfold f_X8_of at h
  exact (gd_of h).1
def rm_X8_setting : Room := { frames := 2, cells := 0, slots := 0, locals := 52 }
def f_X8_setting (x : CS) (t0 : Nat) (a1 : Int32) : Option (Int32) := gd (kWd t0) (if (b2i (f_X10_within a1 0 4)) = 0 then (some 0) else (gd (kWd t0) (gd (ib a1 (al (t0 + 8))) (some (gi x (t0 + 8) a1.toNatClampNeg)))))
set_option maxRecDepth 100000 in
set_option maxHeartbeats 4000000 in
theorem c_X8_setting {K : KE} {l : Launch} {R : Int32} (x : CS) (y : MS) (t0 : Nat) (a1 : Int32) (h : f_X8_setting x t0 a1 = some R) : MC K l yX8_setting cX8_setting 2 (some .int) rm_X8_setting 0 0 [.ref (K.1 + t0), .int a1] (xf K x y) (xf K x y) (some (.int R)) := by
  refine mc_of (ls0 := [(0, .ref (K.1 + t0)), (1, .int a1)]) (by decide) (Nat.le_of_ble_eq_true rfl) rfl (fun C hl F E => ?_)
  have F : Fx C RX8 cX8_setting 2 rm_X8_setting K := F
  unfold f_X8_setting at h
  obtain ⟨_, h⟩ := gd_of h
  refine v_iload_n F (dq dkX8_setting_0 0 rfl) rfl 1 rfl ?_
  refine v_iconst F (v := 0) (dq dkX8_setting_0 1 rfl) ki_0 ?_
  refine v_iconst F (v := 4) (dq dkX8_setting_0 2 rfl) ki_4 ?_
  refine v_callSN 3 F (as := [.int a1, .int 0, .int 4]) (st := []) (st1 := (.int (b2i (f_X10_within a1 0 4)) :: [])) (res := (some (.int (b2i (f_X10_within a1 0 4))))) (c_X10_within (l := C.2.1) a1 0 4) (List.mem_of_getElem? (i := 6) rfl) (tc8 _ (List.mem_of_getElem? (i := 15) rfl)) (tc1 _ (List.mem_of_getElem? (i := 2) rfl)) (tc8 _ (List.mem_of_getElem? (i := 16) rfl)) (by decide) rfl ⟨rfl, rfl, Nat.le_of_ble_eq_true rfl, Nat.le_of_ble_eq_true rfl⟩ ⟨Nat.le_of_ble_eq_true rfl, Nat.le_of_ble_eq_true rfl⟩ rfl (Nat.le_of_ble_eq_true rfl) rfl rfl rfl (dq dkX8_setting_0 3 rfl) ?_
  refine v_if_eq F (tgt := 18) (dq dkX8_setting_0 4 rfl) (by decide) (fun c2 => ?_) (fun c2 => ?_)
  · rw [if_pos c2] at h
    refine v_iconst F (v := 0) (dq dkX8_setting_0 10 rfl) ki_0 ?_
    cases h
    exact v_iret F E (dq dkX8_setting_0 11 rfl)
  · rw [if_neg c2] at h
    refine v_aload_n F (dq dkX8_setting_0 5 rfl) rfl 0 rfl ?_
    obtain ⟨g3, h⟩ := gd_of h
    refine v_get F t0 (kWd_lt g3) (kWd_at g3) rfl inlX8 1 (by decide) (tc3 _ (List.mem_of_getElem? (i := 5) rfl)) rfl rfl (dq dkX8_setting_0 6 rfl) ?_
    refine v_iload_n F (dq dkX8_setting_0 7 rfl) rfl 1 rfl ?_
    obtain ⟨g4, h⟩ := gd_of h
    refine v_iald F (t0 + 8) (xa_lt g4) (xa_at g4) (ib_in g4) (dq dkX8_setting_0 8 rfl) ?_
    refine v_goto F (tgt := 19) (dq dkX8_setting_0 9 rfl) (by decide) ?_
    cases h
    exact v_iret F E (dq dkX8_setting_0 11 rfl)
theorem f_X8_setting_k {R : Int32} {x : CS} {t0 : Nat} {a1 : Int32} (h : f_X8_setting x t0 a1 = some R) : kWd t0 = true := by
  unfold f_X8_setting at h
  exact (gd_of h).1
def rm_X2_begin : Room := { frames := 4, cells := 0, slots := 0, locals := 94 }
def f_X2_begin_2 : Nat → CS → Int32 → Option (CS)
  | 0, _, _ => none
  | n + 1, x, a1 => if 9 ≤ a1 then ((f_X8_setting x 1 0).bind fun r2 => (f_X8_setting (pi x 52 ((0 : Int32).toNatClampNeg) r2) 1 1).bind fun r4 => (f_X8_setting (pi (pi x 52 ((0 : Int32).toNatClampNeg) r2) 52 ((1 : Int32).toNatClampNeg) r4) 1 2).bind fun r6 => some (plot (pi (pi (pi (pi (pi (pi (pi (pi x 52 ((0 : Int32).toNatClampNeg) r2) 52 ((1 : Int32).toNatClampNeg) r4) 52 ((2 : Int32).toNatClampNeg) r6) 48 6 0) 48 7 0) 48 8 (-1)) 48 9 0) 48 10 (-1000000)) 0)) else ((f_X8_of x 1 0 a1).bind fun r8 => gd (ib a1 9) ((f_X8_of (pi x 49 a1.toNatClampNeg r8) 1 1 a1).bind fun r11 => gd (ib a1 9) ((f_X8_of (pi (pi x 49 a1.toNatClampNeg r8) 50 a1.toNatClampNeg r11) 1 2 a1).bind fun r14 => gd (ib a1 9) ((f_X2_begin_2 n) (pi (pi (pi x 49 a1.toNatClampNeg r8) 50 a1.toNatClampNeg r11) 51 a1.toNatClampNeg r14) (a1 + 1)))))
set_option maxRecDepth 100000 in
set_option maxHeartbeats 4000000 in
theorem t_X2_begin_2 {C : Cx} {K : KE} {y : MS} {R : CS}  (F : Fx C RX2 cX2_begin 2 rm_X2_begin K) (E : CE C (xf K R y) none 0 0 none) : ∀ (n : Nat) (x : CS) (a1 : Int32) (h : f_X2_begin_2 n x a1 = some R), V C 2 [(0, .ref (K.1 + 48)), (1, .int a1)] [] (xf K x y) 0 0 := by
  intro n
  induction n with
  | zero => intro x a1 h; cases h
  | succ n ih =>
    intro x a1 h
    rw [f_X2_begin_2] at h
    refine v_iload_n F (dq dkX2_begin_0 2 rfl) rfl 1 rfl ?_
    refine v_bipush F (v := 9) (dq dkX2_begin_0 3 rfl) kb_9 ?_
    refine v_icmp_ge F (tgt := 59) (dq dkX2_begin_0 4 rfl) (by decide) (fun c1 => ?_) (fun c1 => ?_)
    · rw [if_pos c1] at h
      refine v_aload_n F (dq dkX2_begin_0 34 rfl) rfl 0 rfl ?_
      refine v_get F 48 (xn (by decide)) xc_48 rfl inlX2 5 (by decide) (tc5 _ (List.mem_of_getElem? (i := 3) rfl)) rfl rfl (dq dkX2_begin_0 35 rfl) ?_
      refine v_iconst F (v := 0) (dq dkX2_begin_0 36 rfl) ki_0 ?_
      refine v_aload_n F (dq dkX2_begin_0 37 rfl) rfl 0 rfl ?_
      refine v_get F 48 (xn (by decide)) xc_48 rfl inlX2 0 (by decide) (tc5 _ (List.mem_of_getElem? (i := 11) rfl)) rfl rfl (dq dkX2_begin_0 38 rfl) ?_
      refine v_iconst F (v := 0) (dq dkX2_begin_0 39 rfl) ki_0 ?_
      obtain ⟨r2, e3, h⟩ := bd_of h
      refine v_callV 1 F (q := 1) (as := [.int 0]) (st := [.int 0, .ref (K.1 + 52)]) (st1 := (.int r2 :: [.int 0, .ref (K.1 + 52)])) (res := (some (.int r2))) (c_X8_setting (l := C.2.1) x y 1 0 e3) (xn (by decide)) xc_1 rfl (tc20 _ (List.mem_of_getElem? (i := 14) rfl)) (tc15 _ (List.mem_of_getElem? (i := 23) rfl)) (tc16 _ (List.mem_of_getElem? (i := 0) rfl)) (tc1 _ (List.mem_of_getElem? (i := 15) rfl)) (tc16 _ (List.mem_of_getElem? (i := 1) rfl)) (by decide) rfl ⟨rfl, rfl, Nat.le_of_ble_eq_true rfl, Nat.le_of_ble_eq_true rfl⟩ ⟨Nat.le_of_ble_eq_true rfl, Nat.le_of_ble_eq_true rfl⟩ rfl (Nat.le_of_ble_eq_true rfl) rfl rfl rfl (dq dkX2_begin_1 0 rfl) ?_
      refine v_iast F 52 (xn (by decide)) xc_52 (ib_in (by decide)) (dq dkX2_begin_1 1 rfl) ?_
      refine v_eqM (xwC (q := 52) (j := (0 : Int32).toNatClampNeg) (v := r2) (by decide) rfl) ?_
      refine v_aload_n F (dq dkX2_begin_1 2 rfl) rfl 0 rfl ?_
      refine v_get F 48 (xn (by decide)) xc_48 rfl inlX2 5 (by decide) (tc5 _ (List.mem_of_getElem? (i := 3) rfl)) rfl rfl (dq dkX2_begin_1 3 rfl) ?_
      refine v_iconst F (v := 1) (dq dkX2_begin_1 4 rfl) ki_1 ?_
      refine v_aload_n F (dq dkX2_begin_1 5 rfl) rfl 0 rfl ?_
      refine v_get F 48 (xn (by decide)) xc_48 rfl inlX2 0 (by decide) (tc5 _ (List.mem_of_getElem? (i := 11) rfl)) rfl rfl (dq dkX2_begin_1 6 rfl) ?_
      refine v_iconst F (v := 1) (dq dkX2_begin_1 7 rfl) ki_1 ?_
      obtain ⟨r4, e5, h⟩ := bd_of h
      refine v_callV 1 F (q := 1) (as := [.int 1]) (st := [.int 1, .ref (K.1 + 52)]) (st1 := (.int r4 :: [.int 1, .ref (K.1 + 52)])) (res := (some (.int r4))) (c_X8_setting (l := C.2.1) (pi x 52 ((0 : Int32).toNatClampNeg) r2) y 1 1 e5) (xn (by decide)) xc_1 rfl (tc20 _ (List.mem_of_getElem? (i := 14) rfl)) (tc15 _ (List.mem_of_getElem? (i := 23) rfl)) (tc16 _ (List.mem_of_getElem? (i := 0) rfl)) (tc1 _ (List.mem_of_getElem? (i := 15) rfl)) (tc16 _ (List.mem_of_getElem? (i := 1) rfl)) (by decide) rfl ⟨rfl, rfl, Nat.le_of_ble_eq_true rfl, Nat.le_of_ble_eq_true rfl⟩ ⟨Nat.le_of_ble_eq_true rfl, Nat.le_of_ble_eq_true rfl⟩ rfl (Nat.le_of_ble_eq_true rfl) rfl rfl rfl (dq dkX2_begin_1 8 rfl) ?_
      refine v_iast F 52 (xn (by decide)) xc_52 (ib_in (by decide)) (dq dkX2_begin_1 9 rfl) ?_
      refine v_eqM (xwC (q := 52) (j := (1 : Int32).toNatClampNeg) (v := r4) (by decide) rfl) ?_
      refine v_aload_n F (dq dkX2_begin_1 10 rfl) rfl 0 rfl ?_
      refine v_get F 48 (xn (by decide)) xc_48 rfl inlX2 5 (by decide) (tc5 _ (List.mem_of_getElem? (i := 3) rfl)) rfl rfl (dq dkX2_begin_1 11 rfl) ?_
      refine v_iconst F (v := 2) (dq dkX2_begin_1 12 rfl) ki_2 ?_
      refine v_aload_n F (dq dkX2_begin_1 13 rfl) rfl 0 rfl ?_
      refine v_get F 48 (xn (by decide)) xc_48 rfl inlX2 0 (by decide) (tc5 _ (List.mem_of_getElem? (i := 11) rfl)) rfl rfl (dq dkX2_begin_1 14 rfl) ?_
      refine v_iconst F (v := 2) (dq dkX2_begin_1 15 rfl) ki_2 ?_
      obtain ⟨r6, e7, h⟩ := bd_of h
      refine v_callV 1 F (q := 1) (as := [.int 2]) (st := [.int 2, .ref (K.1 + 52)]) (st1 := (.int r6 :: [.int 2, .ref (K.1 + 52)])) (res := (some (.int r6))) (c_X8_setting (l := C.2.1) (pi (pi x 52 ((0 : Int32).toNatClampNeg) r2) 52 ((1 : Int32).toNatClampNeg) r4) y 1 2 e7) (xn (by decide)) xc_1 rfl (tc20 _ (List.mem_of_getElem? (i := 14) rfl)) (tc15 _ (List.mem_of_getElem? (i := 23) rfl)) (tc16 _ (List.mem_of_getElem? (i := 0) rfl)) (tc1 _ (List.mem_of_getElem? (i := 15) rfl)) (tc16 _ (List.mem_of_getElem? (i := 1) rfl)) (by decide) rfl ⟨rfl, rfl, Nat.le_of_ble_eq_true rfl, Nat.le_of_ble_eq_true rfl⟩ ⟨Nat.le_of_ble_eq_true rfl, Nat.le_of_ble_eq_true rfl⟩ rfl (Nat.le_of_ble_eq_true rfl) rfl rfl rfl (dq dkX2_begin_1 16 rfl) ?_
      refine v_iast F 52 (xn (by decide)) xc_52 (ib_in (by decide)) (dq dkX2_begin_1 17 rfl) ?_
      refine v_eqM (xwC (q := 52) (j := (2 : Int32).toNatClampNeg) (v := r6) (by decide) rfl) ?_
      refine v_aload_n F (dq dkX2_begin_1 18 rfl) rfl 0 rfl ?_
      refine v_iconst F (v := 0) (dq dkX2_begin_1 19 rfl) ki_0 ?_
      refine v_put F 48 (xn (by decide)) xc_48 rfl inlX2 tyX2_ok nmX2 6 (by decide) (tc5 _ (List.mem_of_getElem? (i := 4) rfl)) rfl rfl (tyX2_ok 6 (by decide)) rfl rfl (Nat.le_of_ble_eq_true rfl) (dq dkX2_begin_1 20 rfl) ?_
      refine v_eqM (xwC (q := 48) (j := 6) (v := 0) (by decide) rfl) ?_
      refine v_aload_n F (dq dkX2_begin_1 21 rfl) rfl 0 rfl ?_
      refine v_iconst F (v := 0) (dq dkX2_begin_1 22 rfl) ki_0 ?_
      refine v_put F 48 (xn (by decide)) xc_48 rfl inlX2 tyX2_ok nmX2 7 (by decide) (tc5 _ (List.mem_of_getElem? (i := 5) rfl)) rfl rfl (tyX2_ok 7 (by decide)) rfl rfl (Nat.le_of_ble_eq_true rfl) (dq dkX2_begin_1 23 rfl) ?_
      refine v_eqM (xwC (q := 48) (j := 7) (v := 0) (by decide) rfl) ?_
      refine v_aload_n F (dq dkX2_begin_1 24 rfl) rfl 0 rfl ?_
      refine v_iconst F (v := (-1)) (dq dkX2_begin_1 25 rfl) ki_m1 ?_
      refine v_put F 48 (xn (by decide)) xc_48 rfl inlX2 tyX2_ok nmX2 8 (by decide) (tc5 _ (List.mem_of_getElem? (i := 6) rfl)) rfl rfl (tyX2_ok 8 (by decide)) rfl rfl (Nat.le_of_ble_eq_true rfl) (dq dkX2_begin_1 26 rfl) ?_
      refine v_eqM (xwC (q := 48) (j := 8) (v := (-1)) (by decide) rfl) ?_
      refine v_aload_n F (dq dkX2_begin_1 27 rfl) rfl 0 rfl ?_
      refine v_iconst F (v := 0) (dq dkX2_begin_1 28 rfl) ki_0 ?_
      refine v_put F 48 (xn (by decide)) xc_48 rfl inlX2 tyX2_ok nmX2 9 (by decide) (tc5 _ (List.mem_of_getElem? (i := 7) rfl)) rfl rfl (tyX2_ok 9 (by decide)) rfl rfl (Nat.le_of_ble_eq_true rfl) (dq dkX2_begin_1 29 rfl) ?_
      refine v_eqM (xwC (q := 48) (j := 9) (v := 0) (by decide) rfl) ?_
      refine v_aload_n F (dq dkX2_begin_1 30 rfl) rfl 0 rfl ?_
      refine v_ldc F (v := (-1000000)) (tc5 _ (List.mem_of_getElem? (i := 8) rfl)) (dq dkX2_begin_1 31 rfl) ?_
      refine v_put F 48 (xn (by decide)) xc_48 rfl inlX2 tyX2_ok nmX2 10 (by decide) (tc5 _ (List.mem_of_getElem? (i := 9) rfl)) rfl rfl (tyX2_ok 10 (by decide)) rfl rfl (Nat.le_of_ble_eq_true rfl) (dq dkX2_begin_1 32 rfl) ?_
      refine v_eqM (xwC (q := 48) (j := 10) (v := (-1000000)) (by decide) rfl) ?_
      refine v_aload_n F (dq dkX2_begin_1 33 rfl) rfl 0 rfl ?_
      refine v_lconst F (v := 0) (dq dkX2_begin_1 34 rfl) rfl ?_
      refine v_put F 48 (xn (by decide)) xc_48 rfl inlX2 tyX2_ok nmX2 11 (by decide) (tc5 _ (List.mem_of_getElem? (i := 10) rfl)) rfl rfl (tyX2_ok 11 (by decide)) rfl rfl (Nat.le_of_ble_eq_true rfl) (dq dkX2_begin_1 35 rfl) ?_
      refine v_eqM (xw_lot (v := 0)) ?_
      cases h
      exact v_vret F E (dq dkX2_begin_1 36 rfl)
    · rw [if_neg c1] at h
      refine v_aload_n F (dq dkX2_begin_0 5 rfl) rfl 0 rfl ?_
      refine v_get F 48 (xn (by decide)) xc_48 rfl inlX2 2 (by decide) (tc5 _ (List.mem_of_getElem? (i := 0) rfl)) rfl rfl (dq dkX2_begin_0 6 rfl) ?_
      refine v_iload_n F (dq dkX2_begin_0 7 rfl) rfl 1 rfl ?_
      refine v_aload_n F (dq dkX2_begin_0 8 rfl) rfl 0 rfl ?_
      refine v_get F 48 (xn (by decide)) xc_48 rfl inlX2 0 (by decide) (tc5 _ (List.mem_of_getElem? (i := 11) rfl)) rfl rfl (dq dkX2_begin_0 9 rfl) ?_
      refine v_iconst F (v := 0) (dq dkX2_begin_0 10 rfl) ki_0 ?_
      refine v_iload_n F (dq dkX2_begin_0 11 rfl) rfl 1 rfl ?_
      obtain ⟨r8, e9, h⟩ := bd_of h
      refine v_callV 2 F (q := 1) (as := [.int 0, .int a1]) (st := [.int a1, .ref (K.1 + 49)]) (st1 := (.int r8 :: [.int a1, .ref (K.1 + 49)])) (res := (some (.int r8))) (c_X8_of (l := C.2.1) x y 1 0 a1 e9) (xn (by decide)) xc_1 rfl (tc20 _ (List.mem_of_getElem? (i := 13) rfl)) (tc14 _ (List.mem_of_getElem? (i := 11) rfl)) (tc14 _ (List.mem_of_getElem? (i := 12) rfl)) (tc1 _ (List.mem_of_getElem? (i := 15) rfl)) (tc14 _ (List.mem_of_getElem? (i := 13) rfl)) (by decide) rfl ⟨rfl, rfl, Nat.le_of_ble_eq_true rfl, Nat.le_of_ble_eq_true rfl⟩ ⟨Nat.le_of_ble_eq_true rfl, Nat.le_of_ble_eq_true rfl⟩ rfl (Nat.le_of_ble_eq_true rfl) rfl rfl rfl (dq dkX2_begin_0 12 rfl) ?_
      obtain ⟨g10, h⟩ := gd_of h
      refine v_iast F 49 (xn (by decide)) xc_49 (ib_in g10) (dq dkX2_begin_0 13 rfl) ?_
      refine v_eqM (xwC (q := 49) (j := a1.toNatClampNeg) (v := r8) (by decide) rfl) ?_
      refine v_aload_n F (dq dkX2_begin_0 14 rfl) rfl 0 rfl ?_
      refine v_get F 48 (xn (by decide)) xc_48 rfl inlX2 3 (by decide) (tc5 _ (List.mem_of_getElem? (i := 1) rfl)) rfl rfl (dq dkX2_begin_0 15 rfl) ?_
      refine v_iload_n F (dq dkX2_begin_0 16 rfl) rfl 1 rfl ?_
      refine v_aload_n F (dq dkX2_begin_0 17 rfl) rfl 0 rfl ?_
      refine v_get F 48 (xn (by decide)) xc_48 rfl inlX2 0 (by decide) (tc5 _ (List.mem_of_getElem? (i := 11) rfl)) rfl rfl (dq dkX2_begin_0 18 rfl) ?_
      refine v_iconst F (v := 1) (dq dkX2_begin_0 19 rfl) ki_1 ?_
      refine v_iload_n F (dq dkX2_begin_0 20 rfl) rfl 1 rfl ?_
      obtain ⟨r11, e12, h⟩ := bd_of h
      refine v_callV 2 F (q := 1) (as := [.int 1, .int a1]) (st := [.int a1, .ref (K.1 + 50)]) (st1 := (.int r11 :: [.int a1, .ref (K.1 + 50)])) (res := (some (.int r11))) (c_X8_of (l := C.2.1) (pi x 49 a1.toNatClampNeg r8) y 1 1 a1 e12) (xn (by decide)) xc_1 rfl (tc20 _ (List.mem_of_getElem? (i := 13) rfl)) (tc14 _ (List.mem_of_getElem? (i := 11) rfl)) (tc14 _ (List.mem_of_getElem? (i := 12) rfl)) (tc1 _ (List.mem_of_getElem? (i := 15) rfl)) (tc14 _ (List.mem_of_getElem? (i := 13) rfl)) (by decide) rfl ⟨rfl, rfl, Nat.le_of_ble_eq_true rfl, Nat.le_of_ble_eq_true rfl⟩ ⟨Nat.le_of_ble_eq_true rfl, Nat.le_of_ble_eq_true rfl⟩ rfl (Nat.le_of_ble_eq_true rfl) rfl rfl rfl (dq dkX2_begin_0 21 rfl) ?_
      obtain ⟨g13, h⟩ := gd_of h
      refine v_iast F 50 (xn (by decide)) xc_50 (ib_in g13) (dq dkX2_begin_0 22 rfl) ?_
      refine v_eqM (xwC (q := 50) (j := a1.toNatClampNeg) (v := r11) (by decide) rfl) ?_
      refine v_aload_n F (dq dkX2_begin_0 23 rfl) rfl 0 rfl ?_
      refine v_get F 48 (xn (by decide)) xc_48 rfl inlX2 4 (by decide) (tc5 _ (List.mem_of_getElem? (i := 2) rfl)) rfl rfl (dq dkX2_begin_0 24 rfl) ?_
      refine v_iload_n F (dq dkX2_begin_0 25 rfl) rfl 1 rfl ?_
      refine v_aload_n F (dq dkX2_begin_0 26 rfl) rfl 0 rfl ?_
      refine v_get F 48 (xn (by decide)) xc_48 rfl inlX2 0 (by decide) (tc5 _ (List.mem_of_getElem? (i := 11) rfl)) rfl rfl (dq dkX2_begin_0 27 rfl) ?_
      refine v_iconst F (v := 2) (dq dkX2_begin_0 28 rfl) ki_2 ?_
      refine v_iload_n F (dq dkX2_begin_0 29 rfl) rfl 1 rfl ?_
      obtain ⟨r14, e15, h⟩ := bd_of h
      refine v_callV 2 F (q := 1) (as := [.int 2, .int a1]) (st := [.int a1, .ref (K.1 + 51)]) (st1 := (.int r14 :: [.int a1, .ref (K.1 + 51)])) (res := (some (.int r14))) (c_X8_of (l := C.2.1) (pi (pi x 49 a1.toNatClampNeg r8) 50 a1.toNatClampNeg r11) y 1 2 a1 e15) (xn (by decide)) xc_1 rfl (tc20 _ (List.mem_of_getElem? (i := 13) rfl)) (tc14 _ (List.mem_of_getElem? (i := 11) rfl)) (tc14 _ (List.mem_of_getElem? (i := 12) rfl)) (tc1 _ (List.mem_of_getElem? (i := 15) rfl)) (tc14 _ (List.mem_of_getElem? (i := 13) rfl)) (by decide) rfl ⟨rfl, rfl, Nat.le_of_ble_eq_true rfl, Nat.le_of_ble_eq_true rfl⟩ ⟨Nat.le_of_ble_eq_true rfl, Nat.le_of_ble_eq_true rfl⟩ rfl (Nat.le_of_ble_eq_true rfl) rfl rfl rfl (dq dkX2_begin_0 30 rfl) ?_
      obtain ⟨g16, h⟩ := gd_of h
      refine v_iast F 51 (xn (by decide)) xc_51 (ib_in g16) (dq dkX2_begin_0 31 rfl) ?_
      refine v_eqM (xwC (q := 51) (j := a1.toNatClampNeg) (v := r14) (by decide) rfl) ?_
      refine v_iinc F (v := a1 + 1) (ls' := [(1, .int (a1 + 1)), (0, .ref (K.1 + 48))]) (dq dkX2_begin_0 32 rfl) (j := 1) rfl (kv_add ki_1) (by decide) rfl ?_
      refine v_goto F (tgt := 2) (dq dkX2_begin_0 33 rfl) (by decide) ?_
      refine v_sub [1, 0] rfl ?_
      exact ih (pi (pi (pi x 49 a1.toNatClampNeg r8) 50 a1.toNatClampNeg r11) 51 a1.toNatClampNeg r14) (a1 + 1) h
def f_X2_begin (x : CS) : Option (CS) := f_X2_begin_2 1000 x 0
set_option maxRecDepth 100000 in
set_option maxHeartbeats 4000000 in
theorem c_X2_begin {K : KE} {l : Launch} {R : CS} (x : CS) (y : MS) (h : f_X2_begin x = some R) : MC K l yX2_begin cX2_begin 2 none rm_X2_begin 0 0 [.ref (K.1 + 48)] (xf K x y) (xf K R y) none := by
  refine mc_of (ls0 := [(0, .ref (K.1 + 48))]) (by decide) (Nat.le_of_ble_eq_true rfl) rfl (fun C hl F E => ?_)
  have F : Fx C RX2 cX2_begin 2 rm_X2_begin K := F
  unfold f_X2_begin at h
  refine v_iconst F (v := 0) (dq dkX2_begin_0 0 rfl) ki_0 ?_
  refine v_istore_n F (ls' := [(1, .int 0), (0, .ref (K.1 + 48))]) (dq dkX2_begin_0 1 rfl) rfl (by decide) rfl ?_
  refine v_sub [1, 0] rfl ?_
  exact t_X2_begin_2 F E 1000 x 0 h
def rm_X2_blow : Room := { frames := 1, cells := 0, slots := 0, locals := 30 }
def f_X2_blow (x : CS) (a1 : Int32) : Option (CS) := some (pi x 52 ((1 : Int32).toNatClampNeg) a1)
set_option maxRecDepth 100000 in
set_option maxHeartbeats 4000000 in
theorem c_X2_blow {K : KE} {l : Launch} {R : CS} (x : CS) (y : MS) (a1 : Int32) (h : f_X2_blow x a1 = some R) : MC K l yX2_blow cX2_blow 2 none rm_X2_blow 0 0 [.ref (K.1 + 48), .int a1] (xf K x y) (xf K R y) none := by
  refine mc_of (ls0 := [(0, .ref (K.1 + 48)), (1, .int a1)]) (by decide) (Nat.le_of_ble_eq_true rfl) rfl (fun C hl F E => ?_)
  have F : Fx C RX2 cX2_blow 2 rm_X2_blow K := F
  unfold f_X2_blow at h
  refine v_aload_n F (dq dkX2_blow_0 0 rfl) rfl 0 rfl ?_
  refine v_get F 48 (xn (by decide)) xc_48 rfl inlX2 5 (by decide) (tc5 _ (List.mem_of_getElem? (i := 3) rfl)) rfl rfl (dq dkX2_blow_0 1 rfl) ?_
  refine v_iconst F (v := 1) (dq dkX2_blow_0 2 rfl) ki_1 ?_
  refine v_iload_n F (dq dkX2_blow_0 3 rfl) rfl 1 rfl ?_
  refine v_iast F 52 (xn (by decide)) xc_52 (ib_in (by decide)) (dq dkX2_blow_0 4 rfl) ?_
  refine v_eqM (xwC (q := 52) (j := (1 : Int32).toNatClampNeg) (v := a1) (by decide) rfl) ?_
  cases h
  exact v_vret F E (dq dkX2_blow_0 5 rfl)
def rm_X2_drawBy : Room := { frames := 1, cells := 0, slots := 0, locals := 30 }
def f_X2_drawBy (x : CS) (a1 : Int32) : CS := plot x (a1.toInt64 + 1)
set_option maxRecDepth 100000 in
set_option maxHeartbeats 4000000 in
theorem c_X2_drawBy {K : KE} {l : Launch} (x : CS) (y : MS) (a1 : Int32) : MC K l yX2_drawBy cX2_drawBy 2 none rm_X2_drawBy 0 0 [.ref (K.1 + 48), .int a1] (xf K x y) (xf K (f_X2_drawBy x a1) y) none := by
  refine mc_of (ls0 := [(0, .ref (K.1 + 48)), (1, .int a1)]) (by decide) (Nat.le_of_ble_eq_true rfl) rfl (fun C hl F E => ?_)
  have F : Fx C RX2 cX2_drawBy 2 rm_X2_drawBy K := F
  obtain ⟨R, h⟩ : ∃ R, f_X2_drawBy x a1 = R := ⟨_, rfl⟩
  rw [h] at E
  unfold f_X2_drawBy at h
  refine v_aload_n F (dq dkX2_drawBy_0 0 rfl) rfl 0 rfl ?_
  refine v_iload_n F (dq dkX2_drawBy_0 1 rfl) rfl 1 rfl ?_
  refine v_i2l F (dq dkX2_drawBy_0 2 rfl) ?_
  refine v_lconst F (v := 1) (dq dkX2_drawBy_0 3 rfl) rfl ?_
  refine v_ladd F (dq dkX2_drawBy_0 4 rfl) ?_
  refine v_put F 48 (xn (by decide)) xc_48 rfl inlX2 tyX2_ok nmX2 11 (by decide) (tc5 _ (List.mem_of_getElem? (i := 10) rfl)) rfl rfl (tyX2_ok 11 (by decide)) rfl rfl (Nat.le_of_ble_eq_true rfl) (dq dkX2_drawBy_0 5 rfl) ?_
  refine v_eqM (xw_lot (v := a1.toInt64 + 1)) ?_
  cases h
  exact v_vret F E (dq dkX2_drawBy_0 6 rfl)
def rm_X5_result : Room := { frames := 1, cells := 0, slots := 0, locals := 30 }
def f_X5_result_91 (x : CS) : Option (Int32) := some 0
set_option maxRecDepth 100000 in
set_option maxHeartbeats 4000000 in
theorem t_X5_result_91 {C : Cx} {K : KE} {y : MS} {R : Int32}  (x : CS) (h : f_X5_result_91 x = some R) (F : Fx C RX5 cX5_result 5 rm_X5_result K) (E : CE C (xf K x y) (some (.int R)) 0 0 (some .int)) : V C 91 [] [] (xf K x y) 0 0 := by
  unfold f_X5_result_91 at h
  refine v_iconst F (v := 0) (dq dkX5_result_0 25 rfl) ki_0 ?_
  cases h
  exact v_iret F E (dq dkX5_result_0 26 rfl)
def f_X5_result_73 (x : CS) : Option (Int32) := some 1
set_option maxRecDepth 100000 in
set_option maxHeartbeats 4000000 in
theorem t_X5_result_73 {C : Cx} {K : KE} {y : MS} {R : Int32}  (x : CS) (h : f_X5_result_73 x = some R) (F : Fx C RX5 cX5_result 5 rm_X5_result K) (E : CE C (xf K x y) (some (.int R)) 0 0 (some .int)) : V C 73 [] [] (xf K x y) 0 0 := by
  unfold f_X5_result_73 at h
  refine v_iconst F (v := 1) (dq dkX5_result_0 15 rfl) ki_1 ?_
  refine v_goto F (tgt := 78) (dq dkX5_result_0 16 rfl) (by decide) ?_
  cases h
  exact v_iret F E (dq dkX5_result_0 18 rfl)
def f_X5_result (x : CS) (a0 : Int32) (a1 : Int32) (a2 : Int32) (a3 : Nat) : Option (Int32) := if a0 = (-18) then (some (a1 * a2)) else (if a0 = (-17) then (some (a1 - a2)) else (if a0 = (-16) then (some (a1 + a2)) else (if a0 = (-15) then (if a1 = a2 then (some 1) else (some 0)) else (if a0 = (-14) then (if a2 ≤ a1 then (some 0) else (some 1)) else (if a0 = (-13) then (if a1 = 0 then (f_X5_result_91 x) else (if a2 = 0 then (f_X5_result_91 x) else (some 1))) else (if a0 = (-12) then (if a1 = 0 then (if a2 = 0 then (some 0) else (f_X5_result_73 x)) else (f_X5_result_73 x)) else (if a0 = (-11) then (if a1 = 0 then (some 1) else (some 0)) else (if a0 = (-10) then (some (-a1)) else (if a0 < 0 then (gd (decide (0 < al a3)) (if (nI (al a3)) ≤ ((-1) - a0) then (some 0) else (gd (ib ((-1) - a0) (al a3)) (some (gi x a3 ((-1) - a0).toNatClampNeg))))) else (some a0))))))))))
set_option maxRecDepth 100000 in
set_option maxHeartbeats 4000000 in
theorem c_X5_result {K : KE} {l : Launch} {R : Int32} (x : CS) (y : MS) (a0 : Int32) (a1 : Int32) (a2 : Int32) (a3 : Nat) (h : f_X5_result x a0 a1 a2 a3 = some R) : MC K l yX5_result cX5_result 5 (some .int) rm_X5_result 0 0 [.int a0, .int a1, .int a2, .ref (K.1 + a3)] (xf K x y) (xf K x y) (some (.int R)) := by
  refine mc_of (ls0 := [(0, .int a0), (1, .int a1), (2, .int a2), (3, .ref (K.1 + a3))]) (by decide) (Nat.le_of_ble_eq_true rfl) rfl (fun C hl F E => ?_)
  have F : Fx C RX5 cX5_result 5 rm_X5_result K := F
  unfold f_X5_result at h
  refine v_iload_n F (dq dkX5_result_0 0 rfl) rfl 0 rfl ?_
  by_cases c1 : a0 = (-18)
  · rw [if_pos c1] at h
    refine v_tblIn F (off := 122) (tgt := 123) (dq dkX5_result_0 1 rfl) (by rw [c1]; decide) (by rw [c1]; decide) (by rw [c1]; rfl) (by decide) ?_
    refine v_iload_n F (dq dkX5_result_1 9 rfl) rfl 1 rfl ?_
    refine v_iload_n F (dq dkX5_result_1 10 rfl) rfl 2 rfl ?_
    refine v_imul F (dq dkX5_result_1 11 rfl) ?_
    cases h
    exact v_iret F E (dq dkX5_result_1 12 rfl)
  rw [if_neg c1] at h
  by_cases c2 : a0 = (-17)
  · rw [if_pos c2] at h
    refine v_tblIn F (off := 118) (tgt := 119) (dq dkX5_result_0 1 rfl) (by rw [c2]; decide) (by rw [c2]; decide) (by rw [c2]; rfl) (by decide) ?_
    refine v_iload_n F (dq dkX5_result_1 5 rfl) rfl 1 rfl ?_
    refine v_iload_n F (dq dkX5_result_1 6 rfl) rfl 2 rfl ?_
    refine v_isub F (dq dkX5_result_1 7 rfl) ?_
    cases h
    exact v_iret F E (dq dkX5_result_1 8 rfl)
  rw [if_neg c2] at h
  by_cases c3 : a0 = (-16)
  · rw [if_pos c3] at h
    refine v_tblIn F (off := 114) (tgt := 115) (dq dkX5_result_0 1 rfl) (by rw [c3]; decide) (by rw [c3]; decide) (by rw [c3]; rfl) (by decide) ?_
    refine v_iload_n F (dq dkX5_result_1 1 rfl) rfl 1 rfl ?_
    refine v_iload_n F (dq dkX5_result_1 2 rfl) rfl 2 rfl ?_
    refine v_iadd F (dq dkX5_result_1 3 rfl) ?_
    cases h
    exact v_iret F E (dq dkX5_result_1 4 rfl)
  rw [if_neg c3] at h
  by_cases c4 : a0 = (-15)
  · rw [if_pos c4] at h
    refine v_tblIn F (off := 103) (tgt := 104) (dq dkX5_result_0 1 rfl) (by rw [c4]; decide) (by rw [c4]; decide) (by rw [c4]; rfl) (by decide) ?_
    refine v_iload_n F (dq dkX5_result_0 34 rfl) rfl 1 rfl ?_
    refine v_iload_n F (dq dkX5_result_0 35 rfl) rfl 2 rfl ?_
    refine v_icmp_ne F (tgt := 113) (dq dkX5_result_0 36 rfl) (by decide) (fun c5 => ?_) (fun c5 => ?_)
    · rw [if_neg c5] at h
      refine v_iconst F (v := 0) (dq dkX5_result_0 39 rfl) ki_0 ?_
      cases h
      exact v_iret F E (dq dkX5_result_1 0 rfl)
    · rw [if_pos c5] at h
      refine v_iconst F (v := 1) (dq dkX5_result_0 37 rfl) ki_1 ?_
      refine v_goto F (tgt := 114) (dq dkX5_result_0 38 rfl) (by decide) ?_
      cases h
      exact v_iret F E (dq dkX5_result_1 0 rfl)
  rw [if_neg c4] at h
  by_cases c6 : a0 = (-14)
  · rw [if_pos c6] at h
    refine v_tblIn F (off := 92) (tgt := 93) (dq dkX5_result_0 1 rfl) (by rw [c6]; decide) (by rw [c6]; decide) (by rw [c6]; rfl) (by decide) ?_
    refine v_iload_n F (dq dkX5_result_0 27 rfl) rfl 1 rfl ?_
    refine v_iload_n F (dq dkX5_result_0 28 rfl) rfl 2 rfl ?_
    refine v_icmp_ge F (tgt := 102) (dq dkX5_result_0 29 rfl) (by decide) (fun c7 => ?_) (fun c7 => ?_)
    · rw [if_pos c7] at h
      refine v_iconst F (v := 0) (dq dkX5_result_0 32 rfl) ki_0 ?_
      cases h
      exact v_iret F E (dq dkX5_result_0 33 rfl)
    · rw [if_neg c7] at h
      refine v_iconst F (v := 1) (dq dkX5_result_0 30 rfl) ki_1 ?_
      refine v_goto F (tgt := 103) (dq dkX5_result_0 31 rfl) (by decide) ?_
      cases h
      exact v_iret F E (dq dkX5_result_0 33 rfl)
  rw [if_neg c6] at h
  by_cases c8 : a0 = (-13)
  · rw [if_pos c8] at h
    refine v_tblIn F (off := 78) (tgt := 79) (dq dkX5_result_0 1 rfl) (by rw [c8]; decide) (by rw [c8]; decide) (by rw [c8]; rfl) (by decide) ?_
    refine v_iload_n F (dq dkX5_result_0 19 rfl) rfl 1 rfl ?_
    refine v_if_eq F (tgt := 91) (dq dkX5_result_0 20 rfl) (by decide) (fun c9 => ?_) (fun c9 => ?_)
    · rw [if_pos c9] at h
      refine v_sub [] rfl ?_
      exact t_X5_result_91 x h F E
    · rw [if_neg c9] at h
      refine v_iload_n F (dq dkX5_result_0 21 rfl) rfl 2 rfl ?_
      refine v_if_eq F (tgt := 91) (dq dkX5_result_0 22 rfl) (by decide) (fun c10 => ?_) (fun c10 => ?_)
      · rw [if_pos c10] at h
        refine v_sub [] rfl ?_
        exact t_X5_result_91 x h F E
      · rw [if_neg c10] at h
        refine v_iconst F (v := 1) (dq dkX5_result_0 23 rfl) ki_1 ?_
        refine v_goto F (tgt := 92) (dq dkX5_result_0 24 rfl) (by decide) ?_
        cases h
        exact v_iret F E (dq dkX5_result_0 26 rfl)
  rw [if_neg c8] at h
  by_cases c11 : a0 = (-12)
  · rw [if_pos c11] at h
    refine v_tblIn F (off := 64) (tgt := 65) (dq dkX5_result_0 1 rfl) (by rw [c11]; decide) (by rw [c11]; decide) (by rw [c11]; rfl) (by decide) ?_
    refine v_iload_n F (dq dkX5_result_0 11 rfl) rfl 1 rfl ?_
    refine v_if_ne F (tgt := 73) (dq dkX5_result_0 12 rfl) (by decide) (fun c12 => ?_) (fun c12 => ?_)
    · rw [if_neg c12] at h
      refine v_sub [] rfl ?_
      exact t_X5_result_73 x h F E
    · rw [if_pos c12] at h
      refine v_iload_n F (dq dkX5_result_0 13 rfl) rfl 2 rfl ?_
      refine v_if_eq F (tgt := 77) (dq dkX5_result_0 14 rfl) (by decide) (fun c13 => ?_) (fun c13 => ?_)
      · rw [if_pos c13] at h
        refine v_iconst F (v := 0) (dq dkX5_result_0 17 rfl) ki_0 ?_
        cases h
        exact v_iret F E (dq dkX5_result_0 18 rfl)
      · rw [if_neg c13] at h
        refine v_sub [] rfl ?_
        exact t_X5_result_73 x h F E
  rw [if_neg c11] at h
  by_cases c14 : a0 = (-11)
  · rw [if_pos c14] at h
    refine v_tblIn F (off := 54) (tgt := 55) (dq dkX5_result_0 1 rfl) (by rw [c14]; decide) (by rw [c14]; decide) (by rw [c14]; rfl) (by decide) ?_
    refine v_iload_n F (dq dkX5_result_0 5 rfl) rfl 1 rfl ?_
    refine v_if_ne F (tgt := 63) (dq dkX5_result_0 6 rfl) (by decide) (fun c15 => ?_) (fun c15 => ?_)
    · rw [if_neg c15] at h
      refine v_iconst F (v := 0) (dq dkX5_result_0 9 rfl) ki_0 ?_
      cases h
      exact v_iret F E (dq dkX5_result_0 10 rfl)
    · rw [if_pos c15] at h
      refine v_iconst F (v := 1) (dq dkX5_result_0 7 rfl) ki_1 ?_
      refine v_goto F (tgt := 64) (dq dkX5_result_0 8 rfl) (by decide) ?_
      cases h
      exact v_iret F E (dq dkX5_result_0 10 rfl)
  rw [if_neg c14] at h
  by_cases c16 : a0 = (-10)
  · rw [if_pos c16] at h
    refine v_tblIn F (off := 51) (tgt := 52) (dq dkX5_result_0 1 rfl) (by rw [c16]; decide) (by rw [c16]; decide) (by rw [c16]; rfl) (by decide) ?_
    refine v_iload_n F (dq dkX5_result_0 2 rfl) rfl 1 rfl ?_
    refine v_ineg F (dq dkX5_result_0 3 rfl) ?_
    cases h
    exact v_iret F E (dq dkX5_result_0 4 rfl)
  rw [if_neg c16] at h
  have zc1 := lv_neT c1 (a := -18) (by decide)
  have zc2 := lv_neT c2 (a := -17) (by decide)
  have zc3 := lv_neT c3 (a := -16) (by decide)
  have zc4 := lv_neT c4 (a := -15) (by decide)
  have zc6 := lv_neT c6 (a := -14) (by decide)
  have zc8 := lv_neT c8 (a := -13) (by decide)
  have zc11 := lv_neT c11 (a := -12) (by decide)
  have zc14 := lv_neT c14 (a := -11) (by decide)
  have zc16 := lv_neT c16 (a := -10) (by decide)
  refine v_tblOut F (tgt := 127) (dq dkX5_result_0 1 rfl) (by omega) (by decide) ?_
  refine v_iload_n F (dq dkX5_result_1 13 rfl) rfl 0 rfl ?_
  refine v_if_lt F (tgt := 133) (dq dkX5_result_1 14 rfl) (by decide) (fun c17 => ?_) (fun c17 => ?_)
  · rw [if_pos c17] at h
    refine v_iconst F (v := (-1)) (dq dkX5_result_1 17 rfl) ki_m1 ?_
    refine v_iload_n F (dq dkX5_result_1 18 rfl) rfl 0 rfl ?_
    refine v_isub F (dq dkX5_result_1 19 rfl) ?_
    refine v_istore F (ls' := [(4, .int ((-1) - a0)), (0, .int a0), (1, .int a1), (2, .int a2), (3, .ref (K.1 + a3))]) (dq dkX5_result_1 20 rfl) (by decide) rfl ?_
    refine v_iload F (dq dkX5_result_1 21 rfl) 0 rfl ?_
    refine v_aload_n F (dq dkX5_result_1 22 rfl) rfl 4 rfl ?_
    obtain ⟨g18, h⟩ := gd_of h
    refine v_alen F a3 (xl_lt g18) (xl_at g18) (t := 0) rfl (n := nI (al a3)) rfl (dq dkX5_result_1 23 rfl) ?_
    refine v_icmp_ge F (tgt := 152) (dq dkX5_result_1 24 rfl) (by decide) (fun c19 => ?_) (fun c19 => ?_)
    · rw [if_pos c19] at h
      refine v_iconst F (v := 0) (dq dkX5_result_1 29 rfl) ki_0 ?_
      cases h
      exact v_iret F E (dq dkX5_result_1 30 rfl)
    · rw [if_neg c19] at h
      refine v_aload_n F (dq dkX5_result_1 25 rfl) rfl 4 rfl ?_
      refine v_iload F (dq dkX5_result_1 26 rfl) 0 rfl ?_
      obtain ⟨g20, h⟩ := gd_of h
      refine v_iald F a3 (xa_lt g20) (xa_at g20) (ib_in g20) (dq dkX5_result_1 27 rfl) ?_
      refine v_goto F (tgt := 153) (dq dkX5_result_1 28 rfl) (by decide) ?_
      cases h
      exact v_iret F E (dq dkX5_result_1 30 rfl)
  · rw [if_neg c17] at h
    refine v_iload_n F (dq dkX5_result_1 15 rfl) rfl 0 rfl ?_
    cases h
    exact v_iret F E (dq dkX5_result_1 16 rfl)
def rm_X5_takes : Room := { frames := 1, cells := 0, slots := 0, locals := 30 }
def f_X5_takes (a0 : Int32) : Int32 := if a0 ≤ (-10) then (if a0 < (-11) then 2 else 1) else 0
set_option maxRecDepth 100000 in
set_option maxHeartbeats 4000000 in
theorem c_X5_takes {K : KE} {l : Launch} {M : GM} (a0 : Int32) : MC K l yX5_takes cX5_takes 1 (some .int) rm_X5_takes 0 0 [.int a0] M M (some (.int (f_X5_takes a0))) := by
  refine mc_of (ls0 := [(0, .int a0)]) (by decide) (Nat.le_of_ble_eq_true rfl) rfl (fun C hl F E => ?_)
  have F : Fx C RX5 cX5_takes 1 rm_X5_takes K := F
  obtain ⟨R, h⟩ : ∃ R, f_X5_takes a0 = R := ⟨_, rfl⟩
  rw [h] at E
  unfold f_X5_takes at h
  refine v_iload_n F (dq dkX5_takes_0 0 rfl) rfl 0 rfl ?_
  refine v_bipush F (v := (-10)) (dq dkX5_takes_0 1 rfl) kb_m10 ?_
  refine v_icmp_le F (tgt := 8) (dq dkX5_takes_0 2 rfl) (by decide) (fun c1 => ?_) (fun c1 => ?_)
  · rw [if_pos c1] at h
    refine v_iload_n F (dq dkX5_takes_0 5 rfl) rfl 0 rfl ?_
    refine v_bipush F (v := (-11)) (dq dkX5_takes_0 6 rfl) kb_m11 ?_
    refine v_icmp_lt F (tgt := 18) (dq dkX5_takes_0 7 rfl) (by decide) (fun c2 => ?_) (fun c2 => ?_)
    · rw [if_pos c2] at h
      refine v_iconst F (v := 2) (dq dkX5_takes_0 10 rfl) ki_2 ?_
      cases h
      exact v_iret F E (dq dkX5_takes_0 11 rfl)
    · rw [if_neg c2] at h
      refine v_iconst F (v := 1) (dq dkX5_takes_0 8 rfl) ki_1 ?_
      refine v_goto F (tgt := 19) (dq dkX5_takes_0 9 rfl) (by decide) ?_
      cases h
      exact v_iret F E (dq dkX5_takes_0 11 rfl)
  · rw [if_neg c1] at h
    refine v_iconst F (v := 0) (dq dkX5_takes_0 3 rfl) ki_0 ?_
    cases h
    exact v_iret F E (dq dkX5_takes_0 4 rfl)
def rm_X3_answer : Room := { frames := 2, cells := 0, slots := 0, locals := 54 }
def f_X3_answer_21 (x : CS) : Option (Int32 × CS) := some (0, x)
set_option maxRecDepth 100000 in
set_option maxHeartbeats 4000000 in
theorem t_X3_answer_21 {C : Cx} {K : KE} {y : MS} {R : Int32 × CS}  (x : CS) (h : f_X3_answer_21 x = some R) (F : Fx C RX3 cX3_answer 12 rm_X3_answer K) (E : CE C (xf K R.2 y) (some (.int R.1)) 0 0 (some .int)) : V C 21 [] [] (xf K x y) 0 0 := by
  unfold f_X3_answer_21 at h
  refine v_iconst F (v := 0) (dq dkX3_answer_0 11 rfl) ki_0 ?_
  cases h
  exact v_iret F E (dq dkX3_answer_0 12 rfl)
def f_X3_answer_219 (x : CS) (s0 : Int32) (s1 : Int32) (s2 : Int32) : Option (Int32 × CS) := some (if s2 < (if s0 < s1 then s0 else s1) then (if s0 < s1 then s0 else s1) else s2, x)
set_option maxRecDepth 100000 in
set_option maxHeartbeats 4000000 in
theorem t_X3_answer_219 {C : Cx} {K : KE} {y : MS} {R : Int32 × CS}  (x : CS) (s0 : Int32) (s1 : Int32) (s2 : Int32) (h : f_X3_answer_219 x s0 s1 s2 = some R) (F : Fx C RX3 cX3_answer 12 rm_X3_answer K) (E : CE C (xf K R.2 y) (some (.int R.1)) 0 0 (some .int)) : V C 219 [] [.int s0, .int s1, .int s2] (xf K x y) 0 0 := by
  unfold f_X3_answer_219 at h
  refine v_mmin F (tc20 _ (List.mem_of_getElem? (i := 23) rfl)) (tc21 _ (List.mem_of_getElem? (i := 0) rfl)) (tc21 _ (List.mem_of_getElem? (i := 1) rfl)) (tc21 _ (List.mem_of_getElem? (i := 2) rfl)) (Nat.le_of_ble_eq_true rfl) (Nat.le_of_ble_eq_true rfl) (Nat.le_of_ble_eq_true rfl) (Nat.le_of_ble_eq_true rfl) (dq dkX3_answer_3 4 rfl) ?_
  refine v_mmax F (tc21 _ (List.mem_of_getElem? (i := 3) rfl)) (tc21 _ (List.mem_of_getElem? (i := 4) rfl)) (tc21 _ (List.mem_of_getElem? (i := 1) rfl)) (tc21 _ (List.mem_of_getElem? (i := 5) rfl)) (Nat.le_of_ble_eq_true rfl) (Nat.le_of_ble_eq_true rfl) (Nat.le_of_ble_eq_true rfl) (Nat.le_of_ble_eq_true rfl) (dq dkX3_answer_3 5 rfl) ?_
  cases h
  exact v_iret F E (dq dkX3_answer_3 6 rfl)
def f_X3_answer_122 (x : CS) : Option (Int32 × CS) := some (0, x)
set_option maxRecDepth 100000 in
set_option maxHeartbeats 4000000 in
theorem t_X3_answer_122 {C : Cx} {K : KE} {y : MS} {R : Int32 × CS}  (x : CS) (h : f_X3_answer_122 x = some R) (F : Fx C RX3 cX3_answer 12 rm_X3_answer K) (E : CE C (xf K R.2 y) (some (.int R.1)) 0 0 (some .int)) : V C 122 [] [] (xf K x y) 0 0 := by
  unfold f_X3_answer_122 at h
  refine v_iconst F (v := 0) (dq dkX3_answer_1 30 rfl) ki_0 ?_
  cases h
  exact v_iret F E (dq dkX3_answer_1 31 rfl)
def f_X3_answer_164 (k81 : CS → Int32 → Nat → Nat → Int32 → Int32 → Int32 → Option (Int32 × CS)) (x : CS) (a2 : Int32) (a3 : Nat) (a4 : Nat) (a5 : Int32) (a6 : Int32) (a7 : Int32) (a8 : Int32) (a9 : Int32) (a10 : Int32) (s0 : Int32) : Option (Int32 × CS) := (f_X5_result x a8 a10 s0 a3).bind fun r1 => gd (ib ((a6 + (1 - a9)) - 1) 160) (k81 (pi x 25 (((a6 + (1 - a9)) - 1).toNatClampNeg) r1) a2 a3 a4 a5 (a6 + (1 - a9)) (a7 + 1))
set_option maxRecDepth 100000 in
set_option maxHeartbeats 4000000 in
theorem t_X3_answer_164 {C : Cx} {K : KE} {y : MS} {R : Int32 × CS}  (k81 : CS → Int32 → Nat → Nat → Int32 → Int32 → Int32 → Option (Int32 × CS)) (x : CS) (a2 : Int32) (a3 : Nat) (a4 : Nat) (a5 : Int32) (a6 : Int32) (a7 : Int32) (a8 : Int32) (a9 : Int32) (a10 : Int32) (s0 : Int32) (hk81 : ∀ (x : CS) (a2 : Int32) (a3 : Nat) (a4 : Nat) (a5 : Int32) (a6 : Int32) (a7 : Int32), k81 x a2 a3 a4 a5 a6 a7 = some R → V C 81 [(0, .ref (K.1 + 10)), (2, .int a2), (3, .ref (K.1 + a3)), (4, .ref (K.1 + a4)), (5, .int a5), (6, .int a6), (7, .int a7)] [] (xf K x y) 0 0) (h : f_X3_answer_164 k81 x a2 a3 a4 a5 a6 a7 a8 a9 a10 s0 = some R) (F : Fx C RX3 cX3_answer 12 rm_X3_answer K) (E : CE C (xf K R.2 y) (some (.int R.1)) 0 0 (some .int)) : V C 164 [(0, .ref (K.1 + 10)), (2, .int a2), (3, .ref (K.1 + a3)), (4, .ref (K.1 + a4)), (5, .int a5), (6, .int a6), (7, .int a7), (8, .int a8), (9, .int a9), (10, .int a10)] [.int s0] (xf K x y) 0 0 := by
  unfold f_X3_answer_164 at h
  refine v_istore F (ls' := [(11, .int s0), (0, .ref (K.1 + 10)), (2, .int a2), (3, .ref (K.1 + a3)), (4, .ref (K.1 + a4)), (5, .int a5), (6, .int a6), (7, .int a7), (8, .int a8), (9, .int a9), (10, .int a10)]) (dq dkX3_answer_2 14 rfl) (by decide) rfl ?_
  refine v_iload F (dq dkX3_answer_2 15 rfl) 6 rfl ?_
  refine v_iconst F (v := 1) (dq dkX3_answer_2 16 rfl) ki_1 ?_
  refine v_iload F (dq dkX3_answer_2 17 rfl) 9 rfl ?_
  refine v_isub F (dq dkX3_answer_2 18 rfl) ?_
  refine v_iadd F (dq dkX3_answer_2 19 rfl) ?_
  refine v_istore F (ls' := [(6, .int (a6 + (1 - a9))), (11, .int s0), (0, .ref (K.1 + 10)), (2, .int a2), (3, .ref (K.1 + a3)), (4, .ref (K.1 + a4)), (5, .int a5), (7, .int a7), (8, .int a8), (9, .int a9), (10, .int a10)]) (dq dkX3_answer_2 20 rfl) (by decide) rfl ?_
  refine v_aload_n F (dq dkX3_answer_2 21 rfl) rfl 2 rfl ?_
  refine v_get F 10 (xn (by decide)) xc_10 rfl inlX3 2 (by decide) (tc3 _ (List.mem_of_getElem? (i := 15) rfl)) rfl rfl (dq dkX3_answer_2 22 rfl) ?_
  refine v_iload F (dq dkX3_answer_2 23 rfl) 0 rfl ?_
  refine v_iconst F (v := 1) (dq dkX3_answer_2 24 rfl) ki_1 ?_
  refine v_isub F (dq dkX3_answer_2 25 rfl) ?_
  refine v_iload F (dq dkX3_answer_2 26 rfl) 8 rfl ?_
  refine v_iload F (dq dkX3_answer_2 27 rfl) 10 rfl ?_
  refine v_iload F (dq dkX3_answer_2 28 rfl) 1 rfl ?_
  refine v_aload_n F (dq dkX3_answer_2 29 rfl) rfl 4 rfl ?_
  obtain ⟨r1, e2, h⟩ := bd_of h
  refine v_callS 4 F (as := [.int a8, .int a10, .int s0, .ref (K.1 + a3)]) (st := [.int ((a6 + (1 - a9)) - 1), .ref (K.1 + 25)]) (st1 := (.int r1 :: [.int ((a6 + (1 - a9)) - 1), .ref (K.1 + 25)])) (res := (some (.int r1))) (c_X5_result (l := C.2.1) x y a8 a10 s0 a3 e2) (tc21 _ (List.mem_of_getElem? (i := 10) rfl)) (tc21 _ (List.mem_of_getElem? (i := 11) rfl)) (tc21 _ (List.mem_of_getElem? (i := 8) rfl)) (tc21 _ (List.mem_of_getElem? (i := 12) rfl)) (by decide) rfl ⟨rfl, rfl, Nat.le_of_ble_eq_true rfl, Nat.le_of_ble_eq_true rfl⟩ ⟨Nat.le_of_ble_eq_true rfl, Nat.le_of_ble_eq_true rfl⟩ rfl (Nat.le_of_ble_eq_true rfl) rfl rfl rfl (dq dkX3_answer_2 30 rfl) ?_
  obtain ⟨g3, h⟩ := gd_of h
  refine v_iast F 25 (xn (by decide)) xc_25 (ib_in g3) (dq dkX3_answer_2 31 rfl) ?_
  refine v_eqM (xwC (q := 25) (j := ((a6 + (1 - a9)) - 1).toNatClampNeg) (v := r1) (by decide) rfl) ?_
  refine v_iinc F (v := a7 + 1) (ls' := [(7, .int (a7 + 1)), (6, .int (a6 + (1 - a9))), (11, .int s0), (0, .ref (K.1 + 10)), (2, .int a2), (3, .ref (K.1 + a3)), (4, .ref (K.1 + a4)), (5, .int a5), (8, .int a8), (9, .int a9), (10, .int a10)]) (dq dkX3_answer_2 32 rfl) (j := 7) rfl (kv_add ki_1) (by decide) rfl ?_
  refine v_goto F (tgt := 81) (dq dkX3_answer_2 33 rfl) (by decide) ?_
  refine v_sub [3, 4, 5, 6, 7, 1, 0] rfl ?_
  exact hk81 (pi x 25 (((a6 + (1 - a9)) - 1).toNatClampNeg) r1) a2 a3 a4 a5 (a6 + (1 - a9)) (a7 + 1) h
def f_X3_answer_143 (k81 : CS → Int32 → Nat → Nat → Int32 → Int32 → Int32 → Option (Int32 × CS)) (x : CS) (a2 : Int32) (a3 : Nat) (a4 : Nat) (a5 : Int32) (a6 : Int32) (a7 : Int32) (a8 : Int32) (a9 : Int32) (s0 : Int32) : Option (Int32 × CS) := if a9 ≤ 1 then (f_X3_answer_164 k81 x a2 a3 a4 a5 a6 a7 a8 a9 s0 0) else (gd (ib (a6 - 1) 160) (f_X3_answer_164 k81 x a2 a3 a4 a5 a6 a7 a8 a9 s0 (gi x 25 (a6 - 1).toNatClampNeg)))
set_option maxRecDepth 100000 in
set_option maxHeartbeats 4000000 in
theorem t_X3_answer_143 {C : Cx} {K : KE} {y : MS} {R : Int32 × CS}  (k81 : CS → Int32 → Nat → Nat → Int32 → Int32 → Int32 → Option (Int32 × CS)) (x : CS) (a2 : Int32) (a3 : Nat) (a4 : Nat) (a5 : Int32) (a6 : Int32) (a7 : Int32) (a8 : Int32) (a9 : Int32) (s0 : Int32) (hk81 : ∀ (x : CS) (a2 : Int32) (a3 : Nat) (a4 : Nat) (a5 : Int32) (a6 : Int32) (a7 : Int32), k81 x a2 a3 a4 a5 a6 a7 = some R → V C 81 [(0, .ref (K.1 + 10)), (2, .int a2), (3, .ref (K.1 + a3)), (4, .ref (K.1 + a4)), (5, .int a5), (6, .int a6), (7, .int a7)] [] (xf K x y) 0 0) (h : f_X3_answer_143 k81 x a2 a3 a4 a5 a6 a7 a8 a9 s0 = some R) (F : Fx C RX3 cX3_answer 12 rm_X3_answer K) (E : CE C (xf K R.2 y) (some (.int R.1)) 0 0 (some .int)) : V C 143 [(0, .ref (K.1 + 10)), (2, .int a2), (3, .ref (K.1 + a3)), (4, .ref (K.1 + a4)), (5, .int a5), (6, .int a6), (7, .int a7), (8, .int a8), (9, .int a9)] [.int s0] (xf K x y) 0 0 := by
  unfold f_X3_answer_143 at h
  refine v_istore F (ls' := [(10, .int s0), (0, .ref (K.1 + 10)), (2, .int a2), (3, .ref (K.1 + a3)), (4, .ref (K.1 + a4)), (5, .int a5), (6, .int a6), (7, .int a7), (8, .int a8), (9, .int a9)]) (dq dkX3_answer_2 2 rfl) (by decide) rfl ?_
  refine v_iload F (dq dkX3_answer_2 3 rfl) 9 rfl ?_
  refine v_iconst F (v := 1) (dq dkX3_answer_2 4 rfl) ki_1 ?_
  refine v_icmp_le F (tgt := 163) (dq dkX3_answer_2 5 rfl) (by decide) (fun c4 => ?_) (fun c4 => ?_)
  · rw [if_pos c4] at h
    refine v_iconst F (v := 0) (dq dkX3_answer_2 13 rfl) ki_0 ?_
    refine v_sub [1, 2, 3, 4, 5, 6, 7, 8, 9, 0] rfl ?_
    exact t_X3_answer_164 k81 x a2 a3 a4 a5 a6 a7 a8 a9 s0 0 hk81 h F E
  · rw [if_neg c4] at h
    refine v_aload_n F (dq dkX3_answer_2 6 rfl) rfl 1 rfl ?_
    refine v_get F 10 (xn (by decide)) xc_10 rfl inlX3 2 (by decide) (tc3 _ (List.mem_of_getElem? (i := 15) rfl)) rfl rfl (dq dkX3_answer_2 7 rfl) ?_
    refine v_iload F (dq dkX3_answer_2 8 rfl) 6 rfl ?_
    refine v_iconst F (v := 1) (dq dkX3_answer_2 9 rfl) ki_1 ?_
    refine v_isub F (dq dkX3_answer_2 10 rfl) ?_
    obtain ⟨g5, h⟩ := gd_of h
    refine v_iald F 25 (xn (by decide)) xc_25 (ib_in g5) (dq dkX3_answer_2 11 rfl) ?_
    refine v_goto F (tgt := 164) (dq dkX3_answer_2 12 rfl) (by decide) ?_
    refine v_sub [1, 2, 3, 4, 5, 6, 7, 8, 9, 0] rfl ?_
    exact t_X3_answer_164 k81 x a2 a3 a4 a5 a6 a7 a8 a9 s0 (gi x 25 (a6 - 1).toNatClampNeg) hk81 h F E
def f_X3_answer_81 : Nat → CS → Int32 → Nat → Nat → Int32 → Int32 → Int32 → Option (Int32 × CS)
  | 0, _, _, _, _, _, _, _ => none
  | n + 1, x, a2, a3, a4, a5, a6, a7 => if a5 ≤ a7 then (if a2 = 0 then (f_X3_answer_219 x 9 (gi x 25 (0 : Int32).toNatClampNeg) 0) else (f_X3_answer_219 x 999 (gi x 25 (0 : Int32).toNatClampNeg) 0)) else (gd (ib a7 (al a4)) (if a6 < (f_X5_takes (gi x a4 a7.toNatClampNeg)) then (f_X3_answer_122 x) else (if (a6 - (f_X5_takes (gi x a4 a7.toNatClampNeg))) < 160 then (if (f_X5_takes (gi x a4 a7.toNatClampNeg)) ≤ 0 then (f_X3_answer_143 (f_X3_answer_81 n) x a2 a3 a4 a5 a6 a7 (gi x a4 a7.toNatClampNeg) (f_X5_takes (gi x a4 a7.toNatClampNeg)) 0) else (gd (ib (a6 - (f_X5_takes (gi x a4 a7.toNatClampNeg))) 160) (f_X3_answer_143 (f_X3_answer_81 n) x a2 a3 a4 a5 a6 a7 (gi x a4 a7.toNatClampNeg) (f_X5_takes (gi x a4 a7.toNatClampNeg)) (gi x 25 (a6 - (f_X5_takes (gi x a4 a7.toNatClampNeg))).toNatClampNeg)))) else (f_X3_answer_122 x))))
set_option maxRecDepth 100000 in
set_option maxHeartbeats 4000000 in
theorem t_X3_answer_81 {C : Cx} {K : KE} {y : MS} {R : Int32 × CS}  (F : Fx C RX3 cX3_answer 12 rm_X3_answer K) (E : CE C (xf K R.2 y) (some (.int R.1)) 0 0 (some .int)) : ∀ (n : Nat) (x : CS) (a2 : Int32) (a3 : Nat) (a4 : Nat) (a5 : Int32) (a6 : Int32) (a7 : Int32) (h : f_X3_answer_81 n x a2 a3 a4 a5 a6 a7 = some R), V C 81 [(0, .ref (K.1 + 10)), (2, .int a2), (3, .ref (K.1 + a3)), (4, .ref (K.1 + a4)), (5, .int a5), (6, .int a6), (7, .int a7)] [] (xf K x y) 0 0 := by
  intro n
  induction n with
  | zero => intro x a2 a3 a4 a5 a6 a7 h; cases h
  | succ n ih =>
    intro x a2 a3 a4 a5 a6 a7 h
    rw [f_X3_answer_81] at h
    refine v_iload F (dq dkX3_answer_1 10 rfl) 6 rfl ?_
    refine v_iload F (dq dkX3_answer_1 11 rfl) 4 rfl ?_
    refine v_icmp_ge F (tgt := 200) (dq dkX3_answer_1 12 rfl) (by decide) (fun c6 => ?_) (fun c6 => ?_)
    · rw [if_pos c6] at h
      refine v_iconst F (v := 0) (dq dkX3_answer_2 34 rfl) ki_0 ?_
      refine v_aload_n F (dq dkX3_answer_2 35 rfl) rfl 0 rfl ?_
      refine v_get F 10 (xn (by decide)) xc_10 rfl inlX3 2 (by decide) (tc3 _ (List.mem_of_getElem? (i := 15) rfl)) rfl rfl (dq dkX3_answer_2 36 rfl) ?_
      refine v_iconst F (v := 0) (dq dkX3_answer_2 37 rfl) ki_0 ?_
      refine v_iald F 25 (xn (by decide)) xc_25 (ib_in (by decide)) (dq dkX3_answer_2 38 rfl) ?_
      refine v_iload_n F (dq dkX3_answer_2 39 rfl) rfl 1 rfl ?_
      refine v_if_ne F (tgt := 216) (dq dkX3_answer_3 0 rfl) (by decide) (fun c7 => ?_) (fun c7 => ?_)
      · rw [if_neg c7] at h
        refine v_sipush F (v := 999) (dq dkX3_answer_3 3 rfl) ks_999 ?_
        refine v_sub [] rfl ?_
        exact t_X3_answer_219 x 999 (gi x 25 (0 : Int32).toNatClampNeg) 0 h F E
      · rw [if_pos c7] at h
        refine v_bipush F (v := 9) (dq dkX3_answer_3 1 rfl) kb_9 ?_
        refine v_goto F (tgt := 219) (dq dkX3_answer_3 2 rfl) (by decide) ?_
        refine v_sub [] rfl ?_
        exact t_X3_answer_219 x 9 (gi x 25 (0 : Int32).toNatClampNeg) 0 h F E
    · rw [if_neg c6] at h
      refine v_aload F (dq dkX3_answer_1 13 rfl) 3 rfl ?_
      refine v_iload F (dq dkX3_answer_1 14 rfl) 6 rfl ?_
      obtain ⟨g8, h⟩ := gd_of h
      refine v_iald F a4 (xa_lt g8) (xa_at g8) (ib_in g8) (dq dkX3_answer_1 15 rfl) ?_
      refine v_istore F (ls' := [(8, .int (gi x a4 a7.toNatClampNeg)), (0, .ref (K.1 + 10)), (2, .int a2), (3, .ref (K.1 + a3)), (4, .ref (K.1 + a4)), (5, .int a5), (6, .int a6), (7, .int a7)]) (dq dkX3_answer_1 16 rfl) (by decide) rfl ?_
      refine v_iload F (dq dkX3_answer_1 17 rfl) 0 rfl ?_
      refine v_callS 1 F (as := [.int (gi x a4 a7.toNatClampNeg)]) (st := []) (st1 := (.int (f_X5_takes (gi x a4 a7.toNatClampNeg)) :: [])) (res := (some (.int (f_X5_takes (gi x a4 a7.toNatClampNeg))))) (c_X5_takes (l := C.2.1) (gi x a4 a7.toNatClampNeg)) (tc21 _ (List.mem_of_getElem? (i := 6) rfl)) (tc21 _ (List.mem_of_getElem? (i := 7) rfl)) (tc21 _ (List.mem_of_getElem? (i := 8) rfl)) (tc21 _ (List.mem_of_getElem? (i := 9) rfl)) (by decide) rfl ⟨rfl, rfl, Nat.le_of_ble_eq_true rfl, Nat.le_of_ble_eq_true rfl⟩ ⟨Nat.le_of_ble_eq_true rfl, Nat.le_of_ble_eq_true rfl⟩ rfl (Nat.le_of_ble_eq_true rfl) rfl rfl rfl (dq dkX3_answer_1 18 rfl) ?_
      refine v_istore F (ls' := [(9, .int (f_X5_takes (gi x a4 a7.toNatClampNeg))), (8, .int (gi x a4 a7.toNatClampNeg)), (0, .ref (K.1 + 10)), (2, .int a2), (3, .ref (K.1 + a3)), (4, .ref (K.1 + a4)), (5, .int a5), (6, .int a6), (7, .int a7)]) (dq dkX3_answer_1 19 rfl) (by decide) rfl ?_
      refine v_iload F (dq dkX3_answer_1 20 rfl) 0 rfl ?_
      refine v_iload F (dq dkX3_answer_1 21 rfl) 7 rfl ?_
      refine v_icmp_gt F (tgt := 122) (dq dkX3_answer_1 22 rfl) (by decide) (fun c10 => ?_) (fun c10 => ?_)
      · rw [if_pos c10] at h
        refine v_sub [] rfl ?_
        exact t_X3_answer_122 x h F E
      · rw [if_neg c10] at h
        refine v_iload F (dq dkX3_answer_1 23 rfl) 7 rfl ?_
        refine v_iload F (dq dkX3_answer_1 24 rfl) 0 rfl ?_
        refine v_isub F (dq dkX3_answer_1 25 rfl) ?_
        refine v_aload_n F (dq dkX3_answer_1 26 rfl) rfl 2 rfl ?_
        refine v_get F 10 (xn (by decide)) xc_10 rfl inlX3 2 (by decide) (tc3 _ (List.mem_of_getElem? (i := 15) rfl)) rfl rfl (dq dkX3_answer_1 27 rfl) ?_
        refine v_alen F 25 (xn (by decide)) xc_25 (t := 0) rfl (n := 160) rfl (dq dkX3_answer_1 28 rfl) ?_
        refine v_icmp_lt F (tgt := 124) (dq dkX3_answer_1 29 rfl) (by decide) (fun c11 => ?_) (fun c11 => ?_)
        · rw [if_pos c11] at h
          refine v_iload F (dq dkX3_answer_1 32 rfl) 0 rfl ?_
          refine v_if_le F (tgt := 142) (dq dkX3_answer_1 33 rfl) (by decide) (fun c12 => ?_) (fun c12 => ?_)
          · rw [if_pos c12] at h
            refine v_iconst F (v := 0) (dq dkX3_answer_2 1 rfl) ki_0 ?_
            refine v_sub [2, 3, 4, 5, 6, 7, 8, 1, 0] rfl ?_
            exact t_X3_answer_143 (f_X3_answer_81 n) x a2 a3 a4 a5 a6 a7 (gi x a4 a7.toNatClampNeg) (f_X5_takes (gi x a4 a7.toNatClampNeg)) 0 ih h F E
          · rw [if_neg c12] at h
            refine v_aload_n F (dq dkX3_answer_1 34 rfl) rfl 2 rfl ?_
            refine v_get F 10 (xn (by decide)) xc_10 rfl inlX3 2 (by decide) (tc3 _ (List.mem_of_getElem? (i := 15) rfl)) rfl rfl (dq dkX3_answer_1 35 rfl) ?_
            refine v_iload F (dq dkX3_answer_1 36 rfl) 7 rfl ?_
            refine v_iload F (dq dkX3_answer_1 37 rfl) 0 rfl ?_
            refine v_isub F (dq dkX3_answer_1 38 rfl) ?_
            obtain ⟨g13, h⟩ := gd_of h
            refine v_iald F 25 (xn (by decide)) xc_25 (ib_in g13) (dq dkX3_answer_1 39 rfl) ?_
            refine v_goto F (tgt := 143) (dq dkX3_answer_2 0 rfl) (by decide) ?_
            refine v_sub [2, 3, 4, 5, 6, 7, 8, 1, 0] rfl ?_
            exact t_X3_answer_143 (f_X3_answer_81 n) x a2 a3 a4 a5 a6 a7 (gi x a4 a7.toNatClampNeg) (f_X5_takes (gi x a4 a7.toNatClampNeg)) (gi x 25 (a6 - (f_X5_takes (gi x a4 a7.toNatClampNeg))).toNatClampNeg) ih h F E
        · rw [if_neg c11] at h
          refine v_sub [] rfl ?_
          exact t_X3_answer_122 x h F E
def f_X3_answer_79 (x : CS) (a2 : Int32) (a3 : Nat) (a4 : Nat) (a5 : Int32) (a6 : Int32) (s0 : Int32) : Option (Int32 × CS) := f_X3_answer_81 1000 x a2 a3 a4 a5 a6 s0
set_option maxRecDepth 100000 in
set_option maxHeartbeats 4000000 in
theorem t_X3_answer_79 {C : Cx} {K : KE} {y : MS} {R : Int32 × CS}  (x : CS) (a2 : Int32) (a3 : Nat) (a4 : Nat) (a5 : Int32) (a6 : Int32) (s0 : Int32) (h : f_X3_answer_79 x a2 a3 a4 a5 a6 s0 = some R) (F : Fx C RX3 cX3_answer 12 rm_X3_answer K) (E : CE C (xf K R.2 y) (some (.int R.1)) 0 0 (some .int)) : V C 79 [(0, .ref (K.1 + 10)), (2, .int a2), (3, .ref (K.1 + a3)), (4, .ref (K.1 + a4)), (5, .int a5), (6, .int a6)] [.int s0] (xf K x y) 0 0 := by
  unfold f_X3_answer_79 at h
  refine v_istore F (ls' := [(7, .int s0), (0, .ref (K.1 + 10)), (2, .int a2), (3, .ref (K.1 + a3)), (4, .ref (K.1 + a4)), (5, .int a5), (6, .int a6)]) (dq dkX3_answer_1 9 rfl) (by decide) rfl ?_
  refine v_sub [1, 2, 3, 4, 5, 6, 0] rfl ?_
  exact t_X3_answer_81 F E 1000 x a2 a3 a4 a5 a6 s0 h
def f_X3_answer (x : CS) (a1 : Int32) (a2 : Int32) (a3 : Nat) : Option (Int32 × CS) := if a1 < 0 then (f_X3_answer_21 x) else (if (gi x 10 3) ≤ a1 then (f_X3_answer_21 x) else (if a2 < 0 then (f_X3_answer_21 x) else (if a2 ≤ 2 then (gd (ib a1 6) (gd (ib a1 6) (gd (ib a2 (al (19 + a1.toNatClampNeg))) (gd (decide (0 < al (12 + a1.toNatClampNeg))) (if a2 = 0 then (f_X3_answer_79 (pi x 25 ((0 : Int32).toNatClampNeg) 0) a2 a3 (12 + a1.toNatClampNeg) (if (nI (al (12 + a1.toNatClampNeg))) < (gi x (19 + a1.toNatClampNeg) a2.toNatClampNeg) then (nI (al (12 + a1.toNatClampNeg))) else (gi x (19 + a1.toNatClampNeg) a2.toNatClampNeg)) 0 0) else (gd (ib a1 6) (gd (ib (a2 - 1) (al (19 + a1.toNatClampNeg))) (f_X3_answer_79 (pi x 25 ((0 : Int32).toNatClampNeg) 0) a2 a3 (12 + a1.toNatClampNeg) (if (nI (al (12 + a1.toNatClampNeg))) < (gi x (19 + a1.toNatClampNeg) a2.toNatClampNeg) then (nI (al (12 + a1.toNatClampNeg))) else (gi x (19 + a1.toNatClampNeg) a2.toNatClampNeg)) 0 (if (gi (pi x 25 ((0 : Int32).toNatClampNeg) 0) (19 + a1.toNatClampNeg) (a2 - 1).toNatClampNeg) < 0 then 0 else (gi (pi x 25 ((0 : Int32).toNatClampNeg) 0) (19 + a1.toNatClampNeg) (a2 - 1).toNatClampNeg)))))))))) else (f_X3_answer_21 x))))
set_option maxRecDepth 100000 in
set_option maxHeartbeats 4000000 in
theorem c_X3_answer {K : KE} {l : Launch} {R : Int32 × CS} (x : CS) (y : MS) (a1 : Int32) (a2 : Int32) (a3 : Nat) (h : f_X3_answer x a1 a2 a3 = some R) : MC K l yX3_answer cX3_answer 12 (some .int) rm_X3_answer 0 0 [.ref (K.1 + 10), .int a1, .int a2, .ref (K.1 + a3)] (xf K x y) (xf K R.2 y) (some (.int R.1)) := by
  refine mc_of (ls0 := [(0, .ref (K.1 + 10)), (1, .int a1), (2, .int a2), (3, .ref (K.1 + a3))]) (by decide) (Nat.le_of_ble_eq_true rfl) rfl (fun C hl F E => ?_)
  have F : Fx C RX3 cX3_answer 12 rm_X3_answer K := F
  unfold f_X3_answer at h
  refine v_iload_n F (dq dkX3_answer_0 0 rfl) rfl 1 rfl ?_
  refine v_if_lt F (tgt := 21) (dq dkX3_answer_0 1 rfl) (by decide) (fun c14 => ?_) (fun c14 => ?_)
  · rw [if_pos c14] at h
    refine v_sub [] rfl ?_
    exact t_X3_answer_21 x h F E
  · rw [if_neg c14] at h
    refine v_iload_n F (dq dkX3_answer_0 2 rfl) rfl 1 rfl ?_
    refine v_aload_n F (dq dkX3_answer_0 3 rfl) rfl 0 rfl ?_
    refine v_get F 10 (xn (by decide)) xc_10 rfl inlX3 3 (by decide) (tc3 _ (List.mem_of_getElem? (i := 16) rfl)) rfl rfl (dq dkX3_answer_0 4 rfl) ?_
    refine v_icmp_ge F (tgt := 21) (dq dkX3_answer_0 5 rfl) (by decide) (fun c15 => ?_) (fun c15 => ?_)
    · rw [if_pos c15] at h
      refine v_sub [] rfl ?_
      exact t_X3_answer_21 x h F E
    · rw [if_neg c15] at h
      refine v_iload_n F (dq dkX3_answer_0 6 rfl) rfl 2 rfl ?_
      refine v_if_lt F (tgt := 21) (dq dkX3_answer_0 7 rfl) (by decide) (fun c16 => ?_) (fun c16 => ?_)
      · rw [if_pos c16] at h
        refine v_sub [] rfl ?_
        exact t_X3_answer_21 x h F E
      · rw [if_neg c16] at h
        refine v_iload_n F (dq dkX3_answer_0 8 rfl) rfl 2 rfl ?_
        refine v_iconst F (v := 2) (dq dkX3_answer_0 9 rfl) ki_2 ?_
        refine v_icmp_le F (tgt := 23) (dq dkX3_answer_0 10 rfl) (by decide) (fun c17 => ?_) (fun c17 => ?_)
        · rw [if_pos c17] at h
          refine v_aload_n F (dq dkX3_answer_0 13 rfl) rfl 0 rfl ?_
          refine v_get F 10 (xn (by decide)) xc_10 rfl inlX3 0 (by decide) (tc3 _ (List.mem_of_getElem? (i := 13) rfl)) rfl rfl (dq dkX3_answer_0 14 rfl) ?_
          refine v_iload_n F (dq dkX3_answer_0 15 rfl) rfl 1 rfl ?_
          obtain ⟨g18, h⟩ := gd_of h
          refine v_aald F 11 (xn (by decide)) xc_11 (t := 2) rfl rfl (ib_in g18) (dq dkX3_answer_0 16 rfl) ?_
          refine v_astore F (ls' := [(4, .ref (K.1 + (12 + a1.toNatClampNeg))), (0, .ref (K.1 + 10)), (1, .int a1), (2, .int a2), (3, .ref (K.1 + a3))]) (dq dkX3_answer_0 17 rfl) (by decide) rfl ?_
          refine v_aload_n F (dq dkX3_answer_0 18 rfl) rfl 1 rfl ?_
          refine v_get F 10 (xn (by decide)) xc_10 rfl inlX3 1 (by decide) (tc3 _ (List.mem_of_getElem? (i := 14) rfl)) rfl rfl (dq dkX3_answer_0 19 rfl) ?_
          refine v_iload_n F (dq dkX3_answer_0 20 rfl) rfl 2 rfl ?_
          obtain ⟨g19, h⟩ := gd_of h
          refine v_aald F 18 (xn (by decide)) xc_18 (t := 2) rfl rfl (ib_in g19) (dq dkX3_answer_0 21 rfl) ?_
          refine v_iload_n F (dq dkX3_answer_0 22 rfl) rfl 3 rfl ?_
          obtain ⟨g20, h⟩ := gd_of h
          refine v_iald F (19 + a1.toNatClampNeg) (xa_lt g20) (xa_at g20) (ib_in g20) (dq dkX3_answer_0 23 rfl) ?_
          refine v_aload F (dq dkX3_answer_0 24 rfl) 0 rfl ?_
          obtain ⟨g21, h⟩ := gd_of h
          refine v_alen F (12 + a1.toNatClampNeg) (xl_lt g21) (xl_at g21) (t := 0) rfl (n := nI (al (12 + a1.toNatClampNeg))) rfl (dq dkX3_answer_0 25 rfl) ?_
          refine v_mmin F (tc20 _ (List.mem_of_getElem? (i := 23) rfl)) (tc21 _ (List.mem_of_getElem? (i := 0) rfl)) (tc21 _ (List.mem_of_getElem? (i := 1) rfl)) (tc21 _ (List.mem_of_getElem? (i := 2) rfl)) (Nat.le_of_ble_eq_true rfl) (Nat.le_of_ble_eq_true rfl) (Nat.le_of_ble_eq_true rfl) (Nat.le_of_ble_eq_true rfl) (dq dkX3_answer_0 26 rfl) ?_
          refine v_istore F (ls' := [(5, .int (if (nI (al (12 + a1.toNatClampNeg))) < (gi x (19 + a1.toNatClampNeg) a2.toNatClampNeg) then (nI (al (12 + a1.toNatClampNeg))) else (gi x (19 + a1.toNatClampNeg) a2.toNatClampNeg))), (4, .ref (K.1 + (12 + a1.toNatClampNeg))), (0, .ref (K.1 + 10)), (1, .int a1), (2, .int a2), (3, .ref (K.1 + a3))]) (dq dkX3_answer_0 27 rfl) (by decide) rfl ?_
          refine v_iconst F (v := 0) (dq dkX3_answer_0 28 rfl) ki_0 ?_
          refine v_istore F (ls' := [(6, .int 0), (5, .int (if (nI (al (12 + a1.toNatClampNeg))) < (gi x (19 + a1.toNatClampNeg) a2.toNatClampNeg) then (nI (al (12 + a1.toNatClampNeg))) else (gi x (19 + a1.toNatClampNeg) a2.toNatClampNeg))), (4, .ref (K.1 + (12 + a1.toNatClampNeg))), (0, .ref (K.1 + 10)), (1, .int a1), (2, .int a2), (3, .ref (K.1 + a3))]) (dq dkX3_answer_0 29 rfl) (by decide) rfl ?_
          refine v_aload_n F (dq dkX3_answer_0 30 rfl) rfl 3 rfl ?_
          refine v_get F 10 (xn (by decide)) xc_10 rfl inlX3 2 (by decide) (tc3 _ (List.mem_of_getElem? (i := 15) rfl)) rfl rfl (dq dkX3_answer_0 31 rfl) ?_
          refine v_iconst F (v := 0) (dq dkX3_answer_0 32 rfl) ki_0 ?_
          refine v_iconst F (v := 0) (dq dkX3_answer_0 33 rfl) ki_0 ?_
          refine v_iast F 25 (xn (by decide)) xc_25 (ib_in (by decide)) (dq dkX3_answer_0 34 rfl) ?_
          refine v_eqM (xwC (q := 25) (j := (0 : Int32).toNatClampNeg) (v := 0) (by decide) rfl) ?_
          refine v_iload_n F (dq dkX3_answer_0 35 rfl) rfl 5 rfl ?_
          refine v_if_ne F (tgt := 65) (dq dkX3_answer_0 36 rfl) (by decide) (fun c22 => ?_) (fun c22 => ?_)
          · rw [if_neg c22] at h
            refine v_aload_n F (dq dkX3_answer_0 39 rfl) rfl 3 rfl ?_
            refine v_get F 10 (xn (by decide)) xc_10 rfl inlX3 1 (by decide) (tc3 _ (List.mem_of_getElem? (i := 14) rfl)) rfl rfl (dq dkX3_answer_1 0 rfl) ?_
            refine v_iload_n F (dq dkX3_answer_1 1 rfl) rfl 4 rfl ?_
            obtain ⟨g23, h⟩ := gd_of h
            refine v_aald F 18 (xn (by decide)) xc_18 (t := 2) rfl rfl (ib_in g23) (dq dkX3_answer_1 2 rfl) ?_
            refine v_iload_n F (dq dkX3_answer_1 3 rfl) rfl 5 rfl ?_
            refine v_iconst F (v := 1) (dq dkX3_answer_1 4 rfl) ki_1 ?_
            refine v_isub F (dq dkX3_answer_1 5 rfl) ?_
            obtain ⟨g24, h⟩ := gd_of h
            refine v_iald F (19 + a1.toNatClampNeg) (xa_lt g24) (xa_at g24) (ib_in g24) (dq dkX3_answer_1 6 rfl) ?_
            refine v_iconst F (v := 0) (dq dkX3_answer_1 7 rfl) ki_0 ?_
            refine v_mmax F (tc21 _ (List.mem_of_getElem? (i := 3) rfl)) (tc21 _ (List.mem_of_getElem? (i := 4) rfl)) (tc21 _ (List.mem_of_getElem? (i := 1) rfl)) (tc21 _ (List.mem_of_getElem? (i := 5) rfl)) (Nat.le_of_ble_eq_true rfl) (Nat.le_of_ble_eq_true rfl) (Nat.le_of_ble_eq_true rfl) (Nat.le_of_ble_eq_true rfl) (dq dkX3_answer_1 8 rfl) ?_
            refine v_sub [3, 5, 6, 2, 1, 0] rfl ?_
            exact t_X3_answer_79 (pi x 25 ((0 : Int32).toNatClampNeg) 0) a2 a3 (12 + a1.toNatClampNeg) (if (nI (al (12 + a1.toNatClampNeg))) < (gi x (19 + a1.toNatClampNeg) a2.toNatClampNeg) then (nI (al (12 + a1.toNatClampNeg))) else (gi x (19 + a1.toNatClampNeg) a2.toNatClampNeg)) 0 (if (gi (pi x 25 ((0 : Int32).toNatClampNeg) 0) (19 + a1.toNatClampNeg) (a2 - 1).toNatClampNeg) < 0 then 0 else (gi (pi x 25 ((0 : Int32).toNatClampNeg) 0) (19 + a1.toNatClampNeg) (a2 - 1).toNatClampNeg)) h F E
          · rw [if_pos c22] at h
            refine v_iconst F (v := 0) (dq dkX3_answer_0 37 rfl) ki_0 ?_
            refine v_goto F (tgt := 79) (dq dkX3_answer_0 38 rfl) (by decide) ?_
            refine v_sub [3, 5, 6, 2, 1, 0] rfl ?_
            exact t_X3_answer_79 (pi x 25 ((0 : Int32).toNatClampNeg) 0) a2 a3 (12 + a1.toNatClampNeg) (if (nI (al (12 + a1.toNatClampNeg))) < (gi x (19 + a1.toNatClampNeg) a2.toNatClampNeg) then (nI (al (12 + a1.toNatClampNeg))) else (gi x (19 + a1.toNatClampNeg) a2.toNatClampNeg)) 0 0 h F E
        · rw [if_neg c17] at h
          refine v_sub [] rfl ?_
          exact t_X3_answer_21 x h F E
def rm_X2_asked : Room := { frames := 3, cells := 0, slots := 0, locals := 85 }
def f_X2_asked (x : CS) (a1 : Int32) (a2 : Int32) (a3 : Int32) (a4 : Int32) : Option (Int32 × CS) := (f_X3_answer (pi (pi (pi x 52 ((3 : Int32).toNatClampNeg) a2) 52 ((4 : Int32).toNatClampNeg) a4) 52 ((5 : Int32).toNatClampNeg) a3) (gi (pi (pi (pi x 52 ((3 : Int32).toNatClampNeg) a2) 52 ((4 : Int32).toNatClampNeg) a4) 52 ((5 : Int32).toNatClampNeg) a3) 1 2) a1 52).bind fun r1 => some (r1.1, r1.2)
set_option maxRecDepth 100000 in
set_option maxHeartbeats 4000000 in
theorem c_X2_asked {K : KE} {l : Launch} {R : Int32 × CS} (x : CS) (y : MS) (a1 : Int32) (a2 : Int32) (a3 : Int32) (a4 : Int32) (h : f_X2_asked x a1 a2 a3 a4 = some R) : MC K l yX2_asked cX2_asked 5 (some .int) rm_X2_asked 0 0 [.ref (K.1 + 48), .int a1, .int a2, .int a3, .int a4] (xf K x y) (xf K R.2 y) (some (.int R.1)) := by
  refine mc_of (ls0 := [(0, .ref (K.1 + 48)), (1, .int a1), (2, .int a2), (3, .int a3), (4, .int a4)]) (by decide) (Nat.le_of_ble_eq_true rfl) rfl (fun C hl F E => ?_)
  have F : Fx C RX2 cX2_asked 5 rm_X2_asked K := F
  unfold f_X2_asked at h
  refine v_aload_n F (dq dkX2_asked_0 0 rfl) rfl 0 rfl ?_
  refine v_get F 48 (xn (by decide)) xc_48 rfl inlX2 5 (by decide) (tc5 _ (List.mem_of_getElem? (i := 3) rfl)) rfl rfl (dq dkX2_asked_0 1 rfl) ?_
  refine v_iconst F (v := 3) (dq dkX2_asked_0 2 rfl) ki_3 ?_
  refine v_iload_n F (dq dkX2_asked_0 3 rfl) rfl 2 rfl ?_
  refine v_iast F 52 (xn (by decide)) xc_52 (ib_in (by decide)) (dq dkX2_asked_0 4 rfl) ?_
  refine v_eqM (xwC (q := 52) (j := (3 : Int32).toNatClampNeg) (v := a2) (by decide) rfl) ?_
  refine v_aload_n F (dq dkX2_asked_0 5 rfl) rfl 0 rfl ?_
  refine v_get F 48 (xn (by decide)) xc_48 rfl inlX2 5 (by decide) (tc5 _ (List.mem_of_getElem? (i := 3) rfl)) rfl rfl (dq dkX2_asked_0 6 rfl) ?_
  refine v_iconst F (v := 4) (dq dkX2_asked_0 7 rfl) ki_4 ?_
  refine v_iload F (dq dkX2_asked_0 8 rfl) 4 rfl ?_
  refine v_iast F 52 (xn (by decide)) xc_52 (ib_in (by decide)) (dq dkX2_asked_0 9 rfl) ?_
  refine v_eqM (xwC (q := 52) (j := (4 : Int32).toNatClampNeg) (v := a4) (by decide) rfl) ?_
  refine v_aload_n F (dq dkX2_asked_0 10 rfl) rfl 0 rfl ?_
  refine v_get F 48 (xn (by decide)) xc_48 rfl inlX2 5 (by decide) (tc5 _ (List.mem_of_getElem? (i := 3) rfl)) rfl rfl (dq dkX2_asked_0 11 rfl) ?_
  refine v_iconst F (v := 5) (dq dkX2_asked_0 12 rfl) ki_5 ?_
  refine v_iload_n F (dq dkX2_asked_0 13 rfl) rfl 3 rfl ?_
  refine v_iast F 52 (xn (by decide)) xc_52 (ib_in (by decide)) (dq dkX2_asked_0 14 rfl) ?_
  refine v_eqM (xwC (q := 52) (j := (5 : Int32).toNatClampNeg) (v := a3) (by decide) rfl) ?_
  refine v_aload_n F (dq dkX2_asked_0 15 rfl) rfl 0 rfl ?_
  refine v_get F 48 (xn (by decide)) xc_48 rfl inlX2 1 (by decide) (tc5 _ (List.mem_of_getElem? (i := 12) rfl)) rfl rfl (dq dkX2_asked_0 16 rfl) ?_
  refine v_aload_n F (dq dkX2_asked_0 17 rfl) rfl 0 rfl ?_
  refine v_get F 48 (xn (by decide)) xc_48 rfl inlX2 0 (by decide) (tc5 _ (List.mem_of_getElem? (i := 11) rfl)) rfl rfl (dq dkX2_asked_0 18 rfl) ?_
  refine v_getN F 1 (xn (by decide)) xc_1 rfl inlX8 2 (by decide) (List.mem_of_getElem? (i := 0) rfl) rfl rfl (dq dkX2_asked_0 19 rfl) ?_
  refine v_iload_n F (dq dkX2_asked_0 20 rfl) rfl 1 rfl ?_
  refine v_aload_n F (dq dkX2_asked_0 21 rfl) rfl 0 rfl ?_
  refine v_get F 48 (xn (by decide)) xc_48 rfl inlX2 5 (by decide) (tc5 _ (List.mem_of_getElem? (i := 3) rfl)) rfl rfl (dq dkX2_asked_0 22 rfl) ?_
  obtain ⟨r1, e2, h⟩ := bd_of h
  refine v_callV 3 F (q := 10) (as := [.int (gi (pi (pi (pi x 52 ((3 : Int32).toNatClampNeg) a2) 52 ((4 : Int32).toNatClampNeg) a4) 52 ((5 : Int32).toNatClampNeg) a3) 1 2), .int a1, .ref (K.1 + 52)]) (st := []) (st1 := (.int r1.1 :: [])) (res := (some (.int r1.1))) (c_X3_answer (l := C.2.1) (pi (pi (pi x 52 ((3 : Int32).toNatClampNeg) a2) 52 ((4 : Int32).toNatClampNeg) a4) 52 ((5 : Int32).toNatClampNeg) a3) y (gi (pi (pi (pi x 52 ((3 : Int32).toNatClampNeg) a2) 52 ((4 : Int32).toNatClampNeg) a4) 52 ((5 : Int32).toNatClampNeg) a3) 1 2) a1 52 e2) (xn (by decide)) xc_10 rfl (tc20 _ (List.mem_of_getElem? (i := 19) rfl)) (tc20 _ (List.mem_of_getElem? (i := 20) rfl)) (tc20 _ (List.mem_of_getElem? (i := 21) rfl)) (tc1 _ (List.mem_of_getElem? (i := 19) rfl)) (tc20 _ (List.mem_of_getElem? (i := 22) rfl)) (by decide) rfl ⟨rfl, rfl, Nat.le_of_ble_eq_true rfl, Nat.le_of_ble_eq_true rfl⟩ ⟨Nat.le_of_ble_eq_true rfl, Nat.le_of_ble_eq_true rfl⟩ rfl (Nat.le_of_ble_eq_true rfl) rfl rfl rfl (dq dkX2_asked_0 23 rfl) ?_
  cases h
  exact v_iret F E (dq dkX2_asked_0 24 rfl)
def rm_X2_bit : Room := { frames := 3, cells := 0, slots := 0, locals := 72 }
def f_X2_bit (a0 : Int32) : Int32 := if (b2i (f_X10_isSection a0)) = 0 then 0 else (1 <<< (a0 &&& 31))
set_option maxRecDepth 100000 in
set_option maxHeartbeats 4000000 in
theorem c_X2_bit {K : KE} {l : Launch} {M : GM} (a0 : Int32) : MC K l yX2_bit cX2_bit 1 (some .int) rm_X2_bit 0 0 [.int a0] M M (some (.int (f_X2_bit a0))) := by
  refine mc_of (ls0 := [(0, .int a0)]) (by decide) (Nat.le_of_ble_eq_true rfl) rfl (fun C hl F E => ?_)
  have F : Fx C RX2 cX2_bit 1 rm_X2_bit K := F
  obtain ⟨R, h⟩ : ∃ R, f_X2_bit a0 = R := ⟨_, rfl⟩
  rw [h] at E
  unfold f_X2_bit at h
  refine v_iload_n F (dq dkX2_bit_0 0 rfl) rfl 0 rfl ?_
  refine v_callSN 1 F (as := [.int a0]) (st := []) (st1 := (.int (b2i (f_X10_isSection a0)) :: [])) (res := (some (.int (b2i (f_X10_isSection a0))))) (c_X10_isSection (l := C.2.1) a0) (List.mem_of_getElem? (i := 9) rfl) (tc14 _ (List.mem_of_getElem? (i := 1) rfl)) (tc1 _ (List.mem_of_getElem? (i := 2) rfl)) (tc14 _ (List.mem_of_getElem? (i := 2) rfl)) (by decide) rfl ⟨rfl, rfl, Nat.le_of_ble_eq_true rfl, Nat.le_of_ble_eq_true rfl⟩ ⟨Nat.le_of_ble_eq_true rfl, Nat.le_of_ble_eq_true rfl⟩ rfl (Nat.le_of_ble_eq_true rfl) rfl rfl rfl (dq dkX2_bit_0 1 rfl) ?_
  refine v_if_eq F (tgt := 13) (dq dkX2_bit_0 2 rfl) (by decide) (fun c2 => ?_) (fun c2 => ?_)
  · rw [if_pos c2] at h
    refine v_iconst F (v := 0) (dq dkX2_bit_0 7 rfl) ki_0 ?_
    cases h
    exact v_iret F E (dq dkX2_bit_0 8 rfl)
  · rw [if_neg c2] at h
    refine v_iconst F (v := 1) (dq dkX2_bit_0 3 rfl) ki_1 ?_
    refine v_iload_n F (dq dkX2_bit_0 4 rfl) rfl 0 rfl ?_
    refine v_ishl F (dq dkX2_bit_0 5 rfl) ?_
    refine v_goto F (tgt := 14) (dq dkX2_bit_0 6 rfl) (by decide) ?_
    cases h
    exact v_iret F E (dq dkX2_bit_0 8 rfl)
def rm_X2_isBroken : Room := { frames := 4, cells := 0, slots := 0, locals := 92 }
def f_X2_isBroken (x : CS) (a1 : Int32) : Bool := if ((gi x 48 6) &&& (f_X2_bit a1)) = 0 then false else true
set_option maxRecDepth 100000 in
set_option maxHeartbeats 4000000 in
theorem c_X2_isBroken {K : KE} {l : Launch} (x : CS) (y : MS) (a1 : Int32) : MC K l yX2_isBroken cX2_isBroken 2 (some .boolean) rm_X2_isBroken 0 0 [.ref (K.1 + 48), .int a1] (xf K x y) (xf K x y) (some (.int (b2i (f_X2_isBroken x a1)))) := by
  refine mc_of (ls0 := [(0, .ref (K.1 + 48)), (1, .int a1)]) (by decide) (Nat.le_of_ble_eq_true rfl) rfl (fun C hl F E => ?_)
  have F : Fx C RX2 cX2_isBroken 2 rm_X2_isBroken K := F
  obtain ⟨R, h⟩ : ∃ R, f_X2_isBroken x a1 = R := ⟨_, rfl⟩
  rw [h] at E
  unfold f_X2_isBroken at h
  refine v_aload_n F (dq dkX2_isBroken_0 0 rfl) rfl 0 rfl ?_
  refine v_get F 48 (xn (by decide)) xc_48 rfl inlX2 6 (by decide) (tc5 _ (List.mem_of_getElem? (i := 4) rfl)) rfl rfl (dq dkX2_isBroken_0 1 rfl) ?_
  refine v_iload_n F (dq dkX2_isBroken_0 2 rfl) rfl 1 rfl ?_
  refine v_callS 1 F (as := [.int a1]) (st := [.int (gi x 48 6)]) (st1 := (.int (f_X2_bit a1) :: [.int (gi x 48 6)])) (res := (some (.int (f_X2_bit a1)))) (c_X2_bit (l := C.2.1) a1) (tc26 _ (List.mem_of_getElem? (i := 4) rfl)) (tc26 _ (List.mem_of_getElem? (i := 5) rfl)) (tc2 _ (List.mem_of_getElem? (i := 19) rfl)) (tc26 _ (List.mem_of_getElem? (i := 6) rfl)) (by decide) rfl ⟨rfl, rfl, Nat.le_of_ble_eq_true rfl, Nat.le_of_ble_eq_true rfl⟩ ⟨Nat.le_of_ble_eq_true rfl, Nat.le_of_ble_eq_true rfl⟩ rfl (Nat.le_of_ble_eq_true rfl) rfl rfl rfl (dq dkX2_isBroken_0 3 rfl) ?_
  refine v_iand F (dq dkX2_isBroken_0 4 rfl) ?_
  refine v_if_eq F (tgt := 16) (dq dkX2_isBroken_0 5 rfl) (by decide) (fun c2 => ?_) (fun c2 => ?_)
  · rw [if_pos c2] at h
    refine v_iconst F (v := 0) (dq dkX2_isBroken_0 8 rfl) ki_0 ?_
    cases h
    exact v_zret F E (b2i_n false) (dq dkX2_isBroken_0 9 rfl)
  · rw [if_neg c2] at h
    refine v_iconst F (v := 1) (dq dkX2_isBroken_0 6 rfl) ki_1 ?_
    refine v_goto F (tgt := 17) (dq dkX2_isBroken_0 7 rfl) (by decide) ?_
    cases h
    exact v_zret F E (b2i_n true) (dq dkX2_isBroken_0 9 rfl)
def rm_X2_fire : Room := { frames := 4, cells := 0, slots := 0, locals := 109 }
def f_X2_fire_78 (x : CS) (a1 : Int32) (a2 : Int32) : Option (CS) := gd (ib a1 9) (gd (ib a1 9) (gd (ib a1 9) (if 0 < (gi (pi x 50 a1.toNatClampNeg ((gi x 50 a1.toNatClampNeg) - a2)) 50 a1.toNatClampNeg) then (some (pi x 50 a1.toNatClampNeg ((gi x 50 a1.toNatClampNeg) - a2))) else (gd (ib a1 9) (some (pi (pi (pi x 50 a1.toNatClampNeg ((gi x 50 a1.toNatClampNeg) - a2)) 50 a1.toNatClampNeg 0) 48 6 ((gi (pi (pi x 50 a1.toNatClampNeg ((gi x 50 a1.toNatClampNeg) - a2)) 50 a1.toNatClampNeg 0) 48 6) ||| (f_X2_bit a1))))))))
set_option maxRecDepth 100000 in
set_option maxHeartbeats 4000000 in
theorem t_X2_fire_78 {C : Cx} {K : KE} {y : MS} {R : CS}  (x : CS) (a1 : Int32) (a2 : Int32) (h : f_X2_fire_78 x a1 a2 = some R) (F : Fx C RX2 cX2_fire 3 rm_X2_fire K) (E : CE C (xf K R y) none 0 0 none) : V C 78 [(0, .ref (K.1 + 48)), (1, .int a1), (2, .int a2)] [] (xf K x y) 0 0 := by
  unfold f_X2_fire_78 at h
  refine v_aload_n F (dq dkX2_fire_1 6 rfl) rfl 0 rfl ?_
  refine v_get F 48 (xn (by decide)) xc_48 rfl inlX2 3 (by decide) (tc5 _ (List.mem_of_getElem? (i := 1) rfl)) rfl rfl (dq dkX2_fire_1 7 rfl) ?_
  refine v_iload_n F (dq dkX2_fire_1 8 rfl) rfl 1 rfl ?_
  refine v_dup2 F (dq dkX2_fire_1 9 rfl) rfl rfl ?_
  obtain ⟨g1, h⟩ := gd_of h
  refine v_iald F 50 (xn (by decide)) xc_50 (ib_in g1) (dq dkX2_fire_1 10 rfl) ?_
  refine v_iload_n F (dq dkX2_fire_1 11 rfl) rfl 2 rfl ?_
  refine v_isub F (dq dkX2_fire_1 12 rfl) ?_
  obtain ⟨g2, h⟩ := gd_of h
  refine v_iast F 50 (xn (by decide)) xc_50 (ib_in g2) (dq dkX2_fire_1 13 rfl) ?_
  refine v_eqM (xwC (q := 50) (j := a1.toNatClampNeg) (v := (gi x 50 a1.toNatClampNeg) - a2) (by decide) rfl) ?_
  refine v_aload_n F (dq dkX2_fire_1 14 rfl) rfl 0 rfl ?_
  refine v_get F 48 (xn (by decide)) xc_48 rfl inlX2 3 (by decide) (tc5 _ (List.mem_of_getElem? (i := 1) rfl)) rfl rfl (dq dkX2_fire_1 15 rfl) ?_
  refine v_iload_n F (dq dkX2_fire_1 16 rfl) rfl 1 rfl ?_
  obtain ⟨g3, h⟩ := gd_of h
  refine v_iald F 50 (xn (by decide)) xc_50 (ib_in g3) (dq dkX2_fire_1 17 rfl) ?_
  refine v_if_gt F (tgt := 117) (dq dkX2_fire_1 18 rfl) (by decide) (fun c4 => ?_) (fun c4 => ?_)
  · rw [if_pos c4] at h
    cases h
    exact v_vret F E (dq dkX2_fire_1 31 rfl)
  · rw [if_neg c4] at h
    refine v_aload_n F (dq dkX2_fire_1 19 rfl) rfl 0 rfl ?_
    refine v_get F 48 (xn (by decide)) xc_48 rfl inlX2 3 (by decide) (tc5 _ (List.mem_of_getElem? (i := 1) rfl)) rfl rfl (dq dkX2_fire_1 20 rfl) ?_
    refine v_iload_n F (dq dkX2_fire_1 21 rfl) rfl 1 rfl ?_
    refine v_iconst F (v := 0) (dq dkX2_fire_1 22 rfl) ki_0 ?_
    obtain ⟨g5, h⟩ := gd_of h
    refine v_iast F 50 (xn (by decide)) xc_50 (ib_in g5) (dq dkX2_fire_1 23 rfl) ?_
    refine v_eqM (xwC (q := 50) (j := a1.toNatClampNeg) (v := 0) (by decide) rfl) ?_
    refine v_aload_n F (dq dkX2_fire_1 24 rfl) rfl 0 rfl ?_
    refine v_dup F (dq dkX2_fire_1 25 rfl) rfl ?_
    refine v_get F 48 (xn (by decide)) xc_48 rfl inlX2 6 (by decide) (tc5 _ (List.mem_of_getElem? (i := 4) rfl)) rfl rfl (dq dkX2_fire_1 26 rfl) ?_
    refine v_iload_n F (dq dkX2_fire_1 27 rfl) rfl 1 rfl ?_
    refine v_callS 1 F (as := [.int a1]) (st := [.int (gi (pi (pi x 50 a1.toNatClampNeg ((gi x 50 a1.toNatClampNeg) - a2)) 50 a1.toNatClampNeg 0) 48 6), .ref (K.1 + 48)]) (st1 := (.int (f_X2_bit a1) :: [.int (gi (pi (pi x 50 a1.toNatClampNeg ((gi x 50 a1.toNatClampNeg) - a2)) 50 a1.toNatClampNeg 0) 48 6), .ref (K.1 + 48)])) (res := (some (.int (f_X2_bit a1)))) (c_X2_bit (l := C.2.1) a1) (tc26 _ (List.mem_of_getElem? (i := 4) rfl)) (tc26 _ (List.mem_of_getElem? (i := 5) rfl)) (tc2 _ (List.mem_of_getElem? (i := 19) rfl)) (tc26 _ (List.mem_of_getElem? (i := 6) rfl)) (by decide) rfl ⟨rfl, rfl, Nat.le_of_ble_eq_true rfl, Nat.le_of_ble_eq_true rfl⟩ ⟨Nat.le_of_ble_eq_true rfl, Nat.le_of_ble_eq_true rfl⟩ rfl (Nat.le_of_ble_eq_true rfl) rfl rfl rfl (dq dkX2_fire_1 28 rfl) ?_
    refine v_ior F (dq dkX2_fire_1 29 rfl) ?_
    refine v_put F 48 (xn (by decide)) xc_48 rfl inlX2 tyX2_ok nmX2 6 (by decide) (tc5 _ (List.mem_of_getElem? (i := 4) rfl)) rfl rfl (tyX2_ok 6 (by decide)) rfl rfl (Nat.le_of_ble_eq_true rfl) (dq dkX2_fire_1 30 rfl) ?_
    refine v_eqM (xwC (q := 48) (j := 6) (v := (gi (pi (pi x 50 a1.toNatClampNeg ((gi x 50 a1.toNatClampNeg) - a2)) 50 a1.toNatClampNeg 0) 48 6) ||| (f_X2_bit a1)) (by decide) rfl) ?_
    cases h
    exact v_vret F E (dq dkX2_fire_1 31 rfl)
def f_X2_fire (x : CS) (a1 : Int32) : Option (CS) := if (b2i (f_X10_isSection a1)) = 0 then (some x) else (gd (ib a1 9) (gd (ib a1 9) ((f_X8_of x 1 4 a1).bind fun r11 => (f_X2_asked x 0 (gi x 50 a1.toNatClampNeg) (gi x 49 a1.toNatClampNeg) r11).bind fun r13 => if (lg_cmp (glot r13.2) 0) = 0 then (f_X2_fire_78 r13.2 a1 r13.1) else (f_X2_fire_78 (plot r13.2 (((glot r13.2) * 48271) - ((glot r13.2) * 48271) / 2147483647 * 2147483647)) a1 (if 0 < ((r13.1 + (((glot (plot r13.2 (((glot r13.2) * 48271) - ((glot r13.2) * 48271) / 2147483647 * 2147483647))) - (glot (plot r13.2 (((glot r13.2) * 48271) - ((glot r13.2) * 48271) / 2147483647 * 2147483647))) / 3 * 3).toInt32)) - 1) then ((r13.1 + (((glot (plot r13.2 (((glot r13.2) * 48271) - ((glot r13.2) * 48271) / 2147483647 * 2147483647))) - (glot (plot r13.2 (((glot r13.2) * 48271) - ((glot r13.2) * 48271) / 2147483647 * 2147483647))) / 3 * 3).toInt32)) - 1) else 0)))))
set_option maxRecDepth 100000 in
set_option maxHeartbeats 4000000 in
theorem c_X2_fire {K : KE} {l : Launch} {R : CS} (x : CS) (y : MS) (a1 : Int32) (h : f_X2_fire x a1 = some R) : MC K l yX2_fire cX2_fire 3 none rm_X2_fire 0 0 [.ref (K.1 + 48), .int a1] (xf K x y) (xf K R y) none := by
  refine mc_of (ls0 := [(0, .ref (K.1 + 48)), (1, .int a1)]) (by decide) (Nat.le_of_ble_eq_true rfl) rfl (fun C hl F E => ?_)
  have F : Fx C RX2 cX2_fire 3 rm_X2_fire K := F
  unfold f_X2_fire at h
  refine v_iload_n F (dq dkX2_fire_0 0 rfl) rfl 1 rfl ?_
  refine v_callSN 1 F (as := [.int a1]) (st := []) (st1 := (.int (b2i (f_X10_isSection a1)) :: [])) (res := (some (.int (b2i (f_X10_isSection a1))))) (c_X10_isSection (l := C.2.1) a1) (List.mem_of_getElem? (i := 9) rfl) (tc14 _ (List.mem_of_getElem? (i := 1) rfl)) (tc1 _ (List.mem_of_getElem? (i := 2) rfl)) (tc14 _ (List.mem_of_getElem? (i := 2) rfl)) (by decide) rfl ⟨rfl, rfl, Nat.le_of_ble_eq_true rfl, Nat.le_of_ble_eq_true rfl⟩ ⟨Nat.le_of_ble_eq_true rfl, Nat.le_of_ble_eq_true rfl⟩ rfl (Nat.le_of_ble_eq_true rfl) rfl rfl rfl (dq dkX2_fire_0 1 rfl) ?_
  refine v_if_ne F (tgt := 8) (dq dkX2_fire_0 2 rfl) (by decide) (fun c8 => ?_) (fun c8 => ?_)
  · rw [if_neg c8] at h
    refine v_aload_n F (dq dkX2_fire_0 4 rfl) rfl 0 rfl ?_
    refine v_iconst F (v := 0) (dq dkX2_fire_0 5 rfl) ki_0 ?_
    refine v_aload_n F (dq dkX2_fire_0 6 rfl) rfl 0 rfl ?_
    refine v_get F 48 (xn (by decide)) xc_48 rfl inlX2 3 (by decide) (tc5 _ (List.mem_of_getElem? (i := 1) rfl)) rfl rfl (dq dkX2_fire_0 7 rfl) ?_
    refine v_iload_n F (dq dkX2_fire_0 8 rfl) rfl 1 rfl ?_
    obtain ⟨g9, h⟩ := gd_of h
    refine v_iald F 50 (xn (by decide)) xc_50 (ib_in g9) (dq dkX2_fire_0 9 rfl) ?_
    refine v_aload_n F (dq dkX2_fire_0 10 rfl) rfl 0 rfl ?_
    refine v_get F 48 (xn (by decide)) xc_48 rfl inlX2 2 (by decide) (tc5 _ (List.mem_of_getElem? (i := 0) rfl)) rfl rfl (dq dkX2_fire_0 11 rfl) ?_
    refine v_iload_n F (dq dkX2_fire_0 12 rfl) rfl 1 rfl ?_
    obtain ⟨g10, h⟩ := gd_of h
    refine v_iald F 49 (xn (by decide)) xc_49 (ib_in g10) (dq dkX2_fire_0 13 rfl) ?_
    refine v_aload_n F (dq dkX2_fire_0 14 rfl) rfl 0 rfl ?_
    refine v_get F 48 (xn (by decide)) xc_48 rfl inlX2 0 (by decide) (tc5 _ (List.mem_of_getElem? (i := 11) rfl)) rfl rfl (dq dkX2_fire_0 15 rfl) ?_
    refine v_iconst F (v := 4) (dq dkX2_fire_0 16 rfl) ki_4 ?_
    refine v_iload_n F (dq dkX2_fire_0 17 rfl) rfl 1 rfl ?_
    obtain ⟨r11, e12, h⟩ := bd_of h
    refine v_callV 2 F (q := 1) (as := [.int 4, .int a1]) (st := [.int (gi x 49 a1.toNatClampNeg), .int (gi x 50 a1.toNatClampNeg), .int 0, .ref (K.1 + 48)]) (st1 := (.int r11 :: [.int (gi x 49 a1.toNatClampNeg), .int (gi x 50 a1.toNatClampNeg), .int 0, .ref (K.1 + 48)])) (res := (some (.int r11))) (c_X8_of (l := C.2.1) x y 1 4 a1 e12) (xn (by decide)) xc_1 rfl (tc20 _ (List.mem_of_getElem? (i := 13) rfl)) (tc14 _ (List.mem_of_getElem? (i := 11) rfl)) (tc14 _ (List.mem_of_getElem? (i := 12) rfl)) (tc1 _ (List.mem_of_getElem? (i := 15) rfl)) (tc14 _ (List.mem_of_getElem? (i := 13) rfl)) (by decide) rfl ⟨rfl, rfl, Nat.le_of_ble_eq_true rfl, Nat.le_of_ble_eq_true rfl⟩ ⟨Nat.le_of_ble_eq_true rfl, Nat.le_of_ble_eq_true rfl⟩ rfl (Nat.le_of_ble_eq_true rfl) rfl rfl rfl (dq dkX2_fire_0 18 rfl) ?_
    obtain ⟨r13, e14, h⟩ := bd_of h
    refine v_callV 4 F (q := 48) (as := [.int 0, .int (gi x 50 a1.toNatClampNeg), .int (gi x 49 a1.toNatClampNeg), .int r11]) (st := []) (st1 := (.int r13.1 :: [])) (res := (some (.int r13.1))) (c_X2_asked (l := C.2.1) x y 0 (gi x 50 a1.toNatClampNeg) (gi x 49 a1.toNatClampNeg) r11 e14) (xn (by decide)) xc_48 rfl (tc26 _ (List.mem_of_getElem? (i := 3) rfl)) (tc20 _ (List.mem_of_getElem? (i := 16) rfl)) (tc20 _ (List.mem_of_getElem? (i := 17) rfl)) (tc2 _ (List.mem_of_getElem? (i := 19) rfl)) (tc20 _ (List.mem_of_getElem? (i := 18) rfl)) (by decide) rfl ⟨rfl, rfl, Nat.le_of_ble_eq_true rfl, Nat.le_of_ble_eq_true rfl⟩ ⟨Nat.le_of_ble_eq_true rfl, Nat.le_of_ble_eq_true rfl⟩ rfl (Nat.le_of_ble_eq_true rfl) rfl rfl rfl (dq dkX2_fire_0 19 rfl) ?_
    refine v_istore_n F (ls' := [(2, .int r13.1), (0, .ref (K.1 + 48)), (1, .int a1)]) (dq dkX2_fire_0 20 rfl) rfl (by decide) rfl ?_
    refine v_aload_n F (dq dkX2_fire_0 21 rfl) rfl 1 rfl ?_
    refine v_get F 48 (xn (by decide)) xc_48 rfl inlX2 11 (by decide) (tc5 _ (List.mem_of_getElem? (i := 10) rfl)) rfl rfl (dq dkX2_fire_0 22 rfl) ?_
    refine v_lconst F (v := 0) (dq dkX2_fire_0 23 rfl) rfl ?_
    refine v_lcmp F (dq dkX2_fire_0 24 rfl) ?_
    refine v_if_eq F (tgt := 78) (dq dkX2_fire_0 25 rfl) (by decide) (fun c15 => ?_) (fun c15 => ?_)
    · rw [if_pos c15] at h
      refine v_sub [1, 2, 0] rfl ?_
      exact t_X2_fire_78 r13.2 a1 r13.1 h F E
    · rw [if_neg c15] at h
      refine v_aload_n F (dq dkX2_fire_0 26 rfl) rfl 1 rfl ?_
      refine v_aload_n F (dq dkX2_fire_0 27 rfl) rfl 1 rfl ?_
      refine v_get F 48 (xn (by decide)) xc_48 rfl inlX2 11 (by decide) (tc5 _ (List.mem_of_getElem? (i := 10) rfl)) rfl rfl (dq dkX2_fire_0 28 rfl) ?_
      refine v_ldc2 F (v := 48271) (tc25 _ (List.mem_of_getElem? (i := 23) rfl)) (dq dkX2_fire_0 29 rfl) ?_
      refine v_lmul F (dq dkX2_fire_0 30 rfl) ?_
      refine v_ldc2 F (v := 2147483647) (tc26 _ (List.mem_of_getElem? (i := 0) rfl)) (dq dkX2_fire_0 31 rfl) ?_
      refine v_lrem F (dq dkX2_fire_0 32 rfl) (by decide) ?_
      refine v_put F 48 (xn (by decide)) xc_48 rfl inlX2 tyX2_ok nmX2 11 (by decide) (tc5 _ (List.mem_of_getElem? (i := 10) rfl)) rfl rfl (tyX2_ok 11 (by decide)) rfl rfl (Nat.le_of_ble_eq_true rfl) (dq dkX2_fire_0 33 rfl) ?_
      refine v_eqM (xw_lot (v := ((glot r13.2) * 48271) - ((glot r13.2) * 48271) / 2147483647 * 2147483647)) ?_
      refine v_iconst F (v := 0) (dq dkX2_fire_0 34 rfl) ki_0 ?_
      refine v_iload_n F (dq dkX2_fire_0 35 rfl) rfl 0 rfl ?_
      refine v_aload_n F (dq dkX2_fire_0 36 rfl) rfl 1 rfl ?_
      refine v_get F 48 (xn (by decide)) xc_48 rfl inlX2 11 (by decide) (tc5 _ (List.mem_of_getElem? (i := 10) rfl)) rfl rfl (dq dkX2_fire_0 37 rfl) ?_
      refine v_ldc2 F (v := 3) (tc26 _ (List.mem_of_getElem? (i := 1) rfl)) (dq dkX2_fire_0 38 rfl) ?_
      refine v_lrem F (dq dkX2_fire_0 39 rfl) (by decide) ?_
      refine v_l2i F (dq dkX2_fire_1 0 rfl) ?_
      refine v_iadd F (dq dkX2_fire_1 1 rfl) ?_
      refine v_iconst F (v := 1) (dq dkX2_fire_1 2 rfl) ki_1 ?_
      refine v_isub F (dq dkX2_fire_1 3 rfl) ?_
      refine v_mmax F (tc26 _ (List.mem_of_getElem? (i := 2) rfl)) (tc21 _ (List.mem_of_getElem? (i := 4) rfl)) (tc21 _ (List.mem_of_getElem? (i := 1) rfl)) (tc21 _ (List.mem_of_getElem? (i := 5) rfl)) (Nat.le_of_ble_eq_true rfl) (Nat.le_of_ble_eq_true rfl) (Nat.le_of_ble_eq_true rfl) (Nat.le_of_ble_eq_true rfl) (dq dkX2_fire_1 4 rfl) ?_
      refine v_istore_n F (ls' := [(2, .int (if 0 < ((r13.1 + (((glot (plot r13.2 (((glot r13.2) * 48271) - ((glot r13.2) * 48271) / 2147483647 * 2147483647))) - (glot (plot r13.2 (((glot r13.2) * 48271) - ((glot r13.2) * 48271) / 2147483647 * 2147483647))) / 3 * 3).toInt32)) - 1) then ((r13.1 + (((glot (plot r13.2 (((glot r13.2) * 48271) - ((glot r13.2) * 48271) / 2147483647 * 2147483647))) - (glot (plot r13.2 (((glot r13.2) * 48271) - ((glot r13.2) * 48271) / 2147483647 * 2147483647))) / 3 * 3).toInt32)) - 1) else 0)), (0, .ref (K.1 + 48)), (1, .int a1)]) (dq dkX2_fire_1 5 rfl) rfl (by decide) rfl ?_
      refine v_sub [1, 2, 0] rfl ?_
      exact t_X2_fire_78 (plot r13.2 (((glot r13.2) * 48271) - ((glot r13.2) * 48271) / 2147483647 * 2147483647)) a1 (if 0 < ((r13.1 + (((glot (plot r13.2 (((glot r13.2) * 48271) - ((glot r13.2) * 48271) / 2147483647 * 2147483647))) - (glot (plot r13.2 (((glot r13.2) * 48271) - ((glot r13.2) * 48271) / 2147483647 * 2147483647))) / 3 * 3).toInt32)) - 1) then ((r13.1 + (((glot (plot r13.2 (((glot r13.2) * 48271) - ((glot r13.2) * 48271) / 2147483647 * 2147483647))) - (glot (plot r13.2 (((glot r13.2) * 48271) - ((glot r13.2) * 48271) / 2147483647 * 2147483647))) / 3 * 3).toInt32)) - 1) else 0) h F E
  · rw [if_pos c8] at h
    cases h
    exact v_vret F E (dq dkX2_fire_0 3 rfl)
def rm_X2_burn : Room := { frames := 5, cells := 0, slots := 0, locals := 131 }
def f_X2_burn_3 : Nat → CS → Int32 → Int32 → Int32 → Int32 → Option (CS)
  | 0, _, _, _, _, _ => none
  | n + 1, x, a1, a2, a3, a4 => if a2 ≤ a4 then (some x) else (if (b2i (f_X10_isSection a1)) = 0 then (some x) else (gd (ib a1 9) (if (gi x 50 a1.toNatClampNeg) ≤ a3 then (some x) else ((f_X2_fire x a1).bind fun r6 => (f_X2_burn_3 n) r6 a1 a2 a3 (a4 + 1)))))
set_option maxRecDepth 100000 in
set_option maxHeartbeats 4000000 in
theorem t_X2_burn_3 {C : Cx} {K : KE} {y : MS} {R : CS}  (F : Fx C RX2 cX2_burn 5 rm_X2_burn K) (E : CE C (xf K R y) none 0 0 none) : ∀ (n : Nat) (x : CS) (a1 : Int32) (a2 : Int32) (a3 : Int32) (a4 : Int32) (h : f_X2_burn_3 n x a1 a2 a3 a4 = some R), V C 3 [(0, .ref (K.1 + 48)), (1, .int a1), (2, .int a2), (3, .int a3), (4, .int a4)] [] (xf K x y) 0 0 := by
  intro n
  induction n with
  | zero => intro x a1 a2 a3 a4 h; cases h
  | succ n ih =>
    intro x a1 a2 a3 a4 h
    rw [f_X2_burn_3] at h
    refine v_iload F (dq dkX2_burn_0 2 rfl) 4 rfl ?_
    refine v_iload_n F (dq dkX2_burn_0 3 rfl) rfl 2 rfl ?_
    refine v_icmp_ge F (tgt := 37) (dq dkX2_burn_0 4 rfl) (by decide) (fun c1 => ?_) (fun c1 => ?_)
    · rw [if_pos c1] at h
      cases h
      exact v_vret F E (dq dkX2_burn_0 19 rfl)
    · rw [if_neg c1] at h
      refine v_iload_n F (dq dkX2_burn_0 5 rfl) rfl 1 rfl ?_
      refine v_callSN 1 F (as := [.int a1]) (st := []) (st1 := (.int (b2i (f_X10_isSection a1)) :: [])) (res := (some (.int (b2i (f_X10_isSection a1))))) (c_X10_isSection (l := C.2.1) a1) (List.mem_of_getElem? (i := 9) rfl) (tc14 _ (List.mem_of_getElem? (i := 1) rfl)) (tc1 _ (List.mem_of_getElem? (i := 2) rfl)) (tc14 _ (List.mem_of_getElem? (i := 2) rfl)) (by decide) rfl ⟨rfl, rfl, Nat.le_of_ble_eq_true rfl, Nat.le_of_ble_eq_true rfl⟩ ⟨Nat.le_of_ble_eq_true rfl, Nat.le_of_ble_eq_true rfl⟩ rfl (Nat.le_of_ble_eq_true rfl) rfl rfl rfl (dq dkX2_burn_0 6 rfl) ?_
      refine v_if_eq F (tgt := 37) (dq dkX2_burn_0 7 rfl) (by decide) (fun c3 => ?_) (fun c3 => ?_)
      · rw [if_pos c3] at h
        cases h
        exact v_vret F E (dq dkX2_burn_0 19 rfl)
      · rw [if_neg c3] at h
        refine v_aload_n F (dq dkX2_burn_0 8 rfl) rfl 0 rfl ?_
        refine v_get F 48 (xn (by decide)) xc_48 rfl inlX2 3 (by decide) (tc5 _ (List.mem_of_getElem? (i := 1) rfl)) rfl rfl (dq dkX2_burn_0 9 rfl) ?_
        refine v_iload_n F (dq dkX2_burn_0 10 rfl) rfl 1 rfl ?_
        obtain ⟨g4, h⟩ := gd_of h
        refine v_iald F 50 (xn (by decide)) xc_50 (ib_in g4) (dq dkX2_burn_0 11 rfl) ?_
        refine v_iload_n F (dq dkX2_burn_0 12 rfl) rfl 3 rfl ?_
        refine v_icmp_le F (tgt := 37) (dq dkX2_burn_0 13 rfl) (by decide) (fun c5 => ?_) (fun c5 => ?_)
        · rw [if_pos c5] at h
          cases h
          exact v_vret F E (dq dkX2_burn_0 19 rfl)
        · rw [if_neg c5] at h
          refine v_aload_n F (dq dkX2_burn_0 14 rfl) rfl 0 rfl ?_
          refine v_iload_n F (dq dkX2_burn_0 15 rfl) rfl 1 rfl ?_
          obtain ⟨r6, e7, h⟩ := bd_of h
          refine v_callV 1 F (q := 48) (as := [.int a1]) (st := []) (st1 := []) (res := none) (c_X2_fire (l := C.2.1) x y a1 e7) (xn (by decide)) xc_48 rfl (tc25 _ (List.mem_of_getElem? (i := 19) rfl)) (tc25 _ (List.mem_of_getElem? (i := 20) rfl)) (tc25 _ (List.mem_of_getElem? (i := 21) rfl)) (tc2 _ (List.mem_of_getElem? (i := 19) rfl)) (tc25 _ (List.mem_of_getElem? (i := 22) rfl)) (by decide) rfl ⟨rfl, rfl, Nat.le_of_ble_eq_true rfl, Nat.le_of_ble_eq_true rfl⟩ ⟨Nat.le_of_ble_eq_true rfl, Nat.le_of_ble_eq_true rfl⟩ rfl (Nat.le_of_ble_eq_true rfl) rfl rfl rfl (dq dkX2_burn_0 16 rfl) ?_
          refine v_iinc F (v := a4 + 1) (ls' := [(4, .int (a4 + 1)), (0, .ref (K.1 + 48)), (1, .int a1), (2, .int a2), (3, .int a3)]) (dq dkX2_burn_0 17 rfl) (j := 4) rfl (kv_add ki_1) (by decide) rfl ?_
          refine v_goto F (tgt := 3) (dq dkX2_burn_0 18 rfl) (by decide) ?_
          refine v_sub [1, 2, 3, 4, 0] rfl ?_
          exact ih r6 a1 a2 a3 (a4 + 1) h
def f_X2_burn (x : CS) (a1 : Int32) (a2 : Int32) (a3 : Int32) : Option (CS) := f_X2_burn_3 1000 x a1 a2 a3 0
set_option maxRecDepth 100000 in
set_option maxHeartbeats 4000000 in
theorem c_X2_burn {K : KE} {l : Launch} {R : CS} (x : CS) (y : MS) (a1 : Int32) (a2 : Int32) (a3 : Int32) (h : f_X2_burn x a1 a2 a3 = some R) : MC K l yX2_burn cX2_burn 5 none rm_X2_burn 0 0 [.ref (K.1 + 48), .int a1, .int a2, .int a3] (xf K x y) (xf K R y) none := by
  refine mc_of (ls0 := [(0, .ref (K.1 + 48)), (1, .int a1), (2, .int a2), (3, .int a3)]) (by decide) (Nat.le_of_ble_eq_true rfl) rfl (fun C hl F E => ?_)
  have F : Fx C RX2 cX2_burn 5 rm_X2_burn K := F
  unfold f_X2_burn at h
  refine v_iconst F (v := 0) (dq dkX2_burn_0 0 rfl) ki_0 ?_
  refine v_istore F (ls' := [(4, .int 0), (0, .ref (K.1 + 48)), (1, .int a1), (2, .int a2), (3, .int a3)]) (dq dkX2_burn_0 1 rfl) (by decide) rfl ?_
  refine v_sub [1, 2, 3, 4, 0] rfl ?_
  exact t_X2_burn_3 F E 1000 x a1 a2 a3 0 h
def rm_X10_share : Room := { frames := 1, cells := 0, slots := 0, locals := 30 }
def f_X10_share (a0 : Int32) : Int32 := 4 - (if 0 ≤ (a0 - 4) then (a0 - 4) else 0 - (a0 - 4))
set_option maxRecDepth 100000 in
set_option maxHeartbeats 4000000 in
theorem c_X10_share {K : KE} {l : Launch} {M : GM} (a0 : Int32) : MC K l yX10_share cX10_share 1 (some .int) rm_X10_share 0 0 [.int a0] M M (some (.int (f_X10_share a0))) := by
  refine mc_of (ls0 := [(0, .int a0)]) (by decide) (Nat.le_of_ble_eq_true rfl) rfl (fun C hl F E => ?_)
  have F : Fx C RX10 cX10_share 1 rm_X10_share K := F
  obtain ⟨R, h⟩ : ∃ R, f_X10_share a0 = R := ⟨_, rfl⟩
  rw [h] at E
  unfold f_X10_share at h
  refine v_iconst F (v := 4) (dq dkX10_share_0 0 rfl) ki_4 ?_
  refine v_iload_n F (dq dkX10_share_0 1 rfl) rfl 0 rfl ?_
  refine v_iconst F (v := 4) (dq dkX10_share_0 2 rfl) ki_4 ?_
  refine v_isub F (dq dkX10_share_0 3 rfl) ?_
  refine v_mabs F (tc26 _ (List.mem_of_getElem? (i := 17) rfl)) (tc26 _ (List.mem_of_getElem? (i := 18) rfl)) (tc21 _ (List.mem_of_getElem? (i := 1) rfl)) (tc26 _ (List.mem_of_getElem? (i := 19) rfl)) (Nat.le_of_ble_eq_true rfl) (Nat.le_of_ble_eq_true rfl) (Nat.le_of_ble_eq_true rfl) (Nat.le_of_ble_eq_true rfl) (dq dkX10_share_0 4 rfl) ?_
  refine v_isub F (dq dkX10_share_0 5 rfl) ?_
  cases h
  exact v_iret F E (dq dkX10_share_0 6 rfl)
def rm_X2_inch : Room := { frames := 4, cells := 0, slots := 0, locals := 109 }
def f_X2_inch_178 (k12 : CS → Int32 → Option (CS)) (x : CS) (a1 : Int32) : Option (CS) := k12 x (a1 + 1)
set_option maxRecDepth 100000 in
set_option maxHeartbeats 4000000 in
theorem t_X2_inch_178 {C : Cx} {K : KE} {y : MS} {R : CS}  (k12 : CS → Int32 → Option (CS)) (x : CS) (a1 : Int32) (hk12 : ∀ (x : CS) (a1 : Int32), k12 x a1 = some R → V C 12 [(0, .ref (K.1 + 48)), (1, .int a1)] [] (xf K x y) 0 0) (h : f_X2_inch_178 k12 x a1 = some R) (F : Fx C RX2 cX2_inch 5 rm_X2_inch K) (E : CE C (xf K R y) none 0 0 none) : V C 178 [(0, .ref (K.1 + 48)), (1, .int a1)] [] (xf K x y) 0 0 := by
  unfold f_X2_inch_178 at h
  refine v_iinc F (v := a1 + 1) (ls' := [(1, .int (a1 + 1)), (0, .ref (K.1 + 48))]) (dq dkX2_inch_2 27 rfl) (j := 1) rfl (kv_add ki_1) (by decide) rfl ?_
  refine v_goto F (tgt := 12) (dq dkX2_inch_2 28 rfl) (by decide) ?_
  refine v_sub [1, 0] rfl ?_
  exact hk12 x (a1 + 1) h
def f_X2_inch_151 (k12 : CS → Int32 → Option (CS)) (x : CS) (a1 : Int32) (a4 : Int32) : Option (CS) := if ((gi x 48 9) &&& (f_X2_bit a1)) = 0 then (f_X2_inch_178 k12 x a1) else (if a4 ≤ (gi x 48 10) then (f_X2_inch_178 k12 x a1) else (f_X2_inch_178 k12 (pi x 48 10 a4) a1))
set_option maxRecDepth 100000 in
set_option maxHeartbeats 4000000 in
theorem t_X2_inch_151 {C : Cx} {K : KE} {y : MS} {R : CS}  (k12 : CS → Int32 → Option (CS)) (x : CS) (a1 : Int32) (a4 : Int32) (hk12 : ∀ (x : CS) (a1 : Int32), k12 x a1 = some R → V C 12 [(0, .ref (K.1 + 48)), (1, .int a1)] [] (xf K x y) 0 0) (h : f_X2_inch_151 k12 x a1 a4 = some R) (F : Fx C RX2 cX2_inch 5 rm_X2_inch K) (E : CE C (xf K R y) none 0 0 none) : V C 151 [(0, .ref (K.1 + 48)), (1, .int a1), (4, .int a4)] [] (xf K x y) 0 0 := by
  unfold f_X2_inch_151 at h
  refine v_aload_n F (dq dkX2_inch_2 14 rfl) rfl 0 rfl ?_
  refine v_get F 48 (xn (by decide)) xc_48 rfl inlX2 9 (by decide) (tc5 _ (List.mem_of_getElem? (i := 7) rfl)) rfl rfl (dq dkX2_inch_2 15 rfl) ?_
  refine v_iload_n F (dq dkX2_inch_2 16 rfl) rfl 1 rfl ?_
  refine v_callS 1 F (as := [.int a1]) (st := [.int (gi x 48 9)]) (st1 := (.int (f_X2_bit a1) :: [.int (gi x 48 9)])) (res := (some (.int (f_X2_bit a1)))) (c_X2_bit (l := C.2.1) a1) (tc26 _ (List.mem_of_getElem? (i := 4) rfl)) (tc26 _ (List.mem_of_getElem? (i := 5) rfl)) (tc2 _ (List.mem_of_getElem? (i := 19) rfl)) (tc26 _ (List.mem_of_getElem? (i := 6) rfl)) (by decide) rfl ⟨rfl, rfl, Nat.le_of_ble_eq_true rfl, Nat.le_of_ble_eq_true rfl⟩ ⟨Nat.le_of_ble_eq_true rfl, Nat.le_of_ble_eq_true rfl⟩ rfl (Nat.le_of_ble_eq_true rfl) rfl rfl rfl (dq dkX2_inch_2 17 rfl) ?_
  refine v_iand F (dq dkX2_inch_2 18 rfl) ?_
  refine v_if_eq F (tgt := 178) (dq dkX2_inch_2 19 rfl) (by decide) (fun c2 => ?_) (fun c2 => ?_)
  · rw [if_pos c2] at h
    refine v_sub [0, 1] rfl ?_
    exact t_X2_inch_178 k12 x a1 hk12 h F E
  · rw [if_neg c2] at h
    refine v_iload F (dq dkX2_inch_2 20 rfl) 2 rfl ?_
    refine v_aload_n F (dq dkX2_inch_2 21 rfl) rfl 0 rfl ?_
    refine v_get F 48 (xn (by decide)) xc_48 rfl inlX2 10 (by decide) (tc5 _ (List.mem_of_getElem? (i := 9) rfl)) rfl rfl (dq dkX2_inch_2 22 rfl) ?_
    refine v_icmp_le F (tgt := 178) (dq dkX2_inch_2 23 rfl) (by decide) (fun c3 => ?_) (fun c3 => ?_)
    · rw [if_pos c3] at h
      refine v_sub [0, 1] rfl ?_
      exact t_X2_inch_178 k12 x a1 hk12 h F E
    · rw [if_neg c3] at h
      refine v_aload_n F (dq dkX2_inch_2 24 rfl) rfl 0 rfl ?_
      refine v_iload F (dq dkX2_inch_2 25 rfl) 2 rfl ?_
      refine v_put F 48 (xn (by decide)) xc_48 rfl inlX2 tyX2_ok nmX2 10 (by decide) (tc5 _ (List.mem_of_getElem? (i := 9) rfl)) rfl rfl (tyX2_ok 10 (by decide)) rfl rfl (Nat.le_of_ble_eq_true rfl) (dq dkX2_inch_2 26 rfl) ?_
      refine v_eqM (xwC (q := 48) (j := 10) (v := a4) (by decide) rfl) ?_
      refine v_sub [0, 1] rfl ?_
      exact t_X2_inch_178 k12 (pi x 48 10 a4) a1 hk12 h F E
def f_X2_inch_57 (k12 : CS → Int32 → Option (CS)) (x : CS) (a1 : Int32) : Option (CS) := gd (ib a1 9) (gd (ib a1 9) ((f_X8_of x 1 4 a1).bind fun r6 => (f_X2_asked x 1 (gi x 50 a1.toNatClampNeg) (gi x 49 a1.toNatClampNeg) r6).bind fun r8 => gd (ib a1 9) (gd (ib a1 9) ((f_X8_of r8.2 1 4 a1).bind fun r12 => (f_X2_asked r8.2 2 (gi r8.2 50 a1.toNatClampNeg) (gi r8.2 49 a1.toNatClampNeg) r12).bind fun r14 => (f_X8_of r14.2 1 3 a1).bind fun r17 => if ((r8.1 * (f_X10_share a1)) - ((r14.1 + r17) * 4)) ≤ 0 then (f_X2_inch_151 k12 r14.2 a1 ((r8.1 * (f_X10_share a1)) - ((r14.1 + r17) * 4))) else (f_X2_inch_151 k12 (pi r14.2 48 6 ((gi r14.2 48 6) ||| (f_X2_bit a1))) a1 ((r8.1 * (f_X10_share a1)) - ((r14.1 + r17) * 4)))))))
set_option maxRecDepth 100000 in
set_option maxHeartbeats 4000000 in
theorem t_X2_inch_57 {C : Cx} {K : KE} {y : MS} {R : CS}  (k12 : CS → Int32 → Option (CS)) (x : CS) (a1 : Int32) (hk12 : ∀ (x : CS) (a1 : Int32), k12 x a1 = some R → V C 12 [(0, .ref (K.1 + 48)), (1, .int a1)] [] (xf K x y) 0 0) (h : f_X2_inch_57 k12 x a1 = some R) (F : Fx C RX2 cX2_inch 5 rm_X2_inch K) (E : CE C (xf K R y) none 0 0 none) : V C 57 [(0, .ref (K.1 + 48)), (1, .int a1)] [] (xf K x y) 0 0 := by
  unfold f_X2_inch_57 at h
  refine v_aload_n F (dq dkX2_inch_0 36 rfl) rfl 0 rfl ?_
  refine v_iconst F (v := 1) (dq dkX2_inch_0 37 rfl) ki_1 ?_
  refine v_aload_n F (dq dkX2_inch_0 38 rfl) rfl 0 rfl ?_
  refine v_get F 48 (xn (by decide)) xc_48 rfl inlX2 3 (by decide) (tc5 _ (List.mem_of_getElem? (i := 1) rfl)) rfl rfl (dq dkX2_inch_0 39 rfl) ?_
  refine v_iload_n F (dq dkX2_inch_1 0 rfl) rfl 1 rfl ?_
  obtain ⟨g4, h⟩ := gd_of h
  refine v_iald F 50 (xn (by decide)) xc_50 (ib_in g4) (dq dkX2_inch_1 1 rfl) ?_
  refine v_aload_n F (dq dkX2_inch_1 2 rfl) rfl 0 rfl ?_
  refine v_get F 48 (xn (by decide)) xc_48 rfl inlX2 2 (by decide) (tc5 _ (List.mem_of_getElem? (i := 0) rfl)) rfl rfl (dq dkX2_inch_1 3 rfl) ?_
  refine v_iload_n F (dq dkX2_inch_1 4 rfl) rfl 1 rfl ?_
  obtain ⟨g5, h⟩ := gd_of h
  refine v_iald F 49 (xn (by decide)) xc_49 (ib_in g5) (dq dkX2_inch_1 5 rfl) ?_
  refine v_aload_n F (dq dkX2_inch_1 6 rfl) rfl 0 rfl ?_
  refine v_get F 48 (xn (by decide)) xc_48 rfl inlX2 0 (by decide) (tc5 _ (List.mem_of_getElem? (i := 11) rfl)) rfl rfl (dq dkX2_inch_1 7 rfl) ?_
  refine v_iconst F (v := 4) (dq dkX2_inch_1 8 rfl) ki_4 ?_
  refine v_iload_n F (dq dkX2_inch_1 9 rfl) rfl 1 rfl ?_
  obtain ⟨r6, e7, h⟩ := bd_of h
  refine v_callV 2 F (q := 1) (as := [.int 4, .int a1]) (st := [.int (gi x 49 a1.toNatClampNeg), .int (gi x 50 a1.toNatClampNeg), .int 1, .ref (K.1 + 48)]) (st1 := (.int r6 :: [.int (gi x 49 a1.toNatClampNeg), .int (gi x 50 a1.toNatClampNeg), .int 1, .ref (K.1 + 48)])) (res := (some (.int r6))) (c_X8_of (l := C.2.1) x y 1 4 a1 e7) (xn (by decide)) xc_1 rfl (tc20 _ (List.mem_of_getElem? (i := 13) rfl)) (tc14 _ (List.mem_of_getElem? (i := 11) rfl)) (tc14 _ (List.mem_of_getElem? (i := 12) rfl)) (tc1 _ (List.mem_of_getElem? (i := 15) rfl)) (tc14 _ (List.mem_of_getElem? (i := 13) rfl)) (by decide) rfl ⟨rfl, rfl, Nat.le_of_ble_eq_true rfl, Nat.le_of_ble_eq_true rfl⟩ ⟨Nat.le_of_ble_eq_true rfl, Nat.le_of_ble_eq_true rfl⟩ rfl (Nat.le_of_ble_eq_true rfl) rfl rfl rfl (dq dkX2_inch_1 10 rfl) ?_
  obtain ⟨r8, e9, h⟩ := bd_of h
  refine v_callV 4 F (q := 48) (as := [.int 1, .int (gi x 50 a1.toNatClampNeg), .int (gi x 49 a1.toNatClampNeg), .int r6]) (st := []) (st1 := (.int r8.1 :: [])) (res := (some (.int r8.1))) (c_X2_asked (l := C.2.1) x y 1 (gi x 50 a1.toNatClampNeg) (gi x 49 a1.toNatClampNeg) r6 e9) (xn (by decide)) xc_48 rfl (tc26 _ (List.mem_of_getElem? (i := 3) rfl)) (tc20 _ (List.mem_of_getElem? (i := 16) rfl)) (tc20 _ (List.mem_of_getElem? (i := 17) rfl)) (tc2 _ (List.mem_of_getElem? (i := 19) rfl)) (tc20 _ (List.mem_of_getElem? (i := 18) rfl)) (by decide) rfl ⟨rfl, rfl, Nat.le_of_ble_eq_true rfl, Nat.le_of_ble_eq_true rfl⟩ ⟨Nat.le_of_ble_eq_true rfl, Nat.le_of_ble_eq_true rfl⟩ rfl (Nat.le_of_ble_eq_true rfl) rfl rfl rfl (dq dkX2_inch_1 11 rfl) ?_
  refine v_istore_n F (ls' := [(2, .int r8.1), (0, .ref (K.1 + 48)), (1, .int a1)]) (dq dkX2_inch_1 12 rfl) rfl (by decide) rfl ?_
  refine v_aload_n F (dq dkX2_inch_1 13 rfl) rfl 1 rfl ?_
  refine v_iconst F (v := 2) (dq dkX2_inch_1 14 rfl) ki_2 ?_
  refine v_aload_n F (dq dkX2_inch_1 15 rfl) rfl 1 rfl ?_
  refine v_get F 48 (xn (by decide)) xc_48 rfl inlX2 3 (by decide) (tc5 _ (List.mem_of_getElem? (i := 1) rfl)) rfl rfl (dq dkX2_inch_1 16 rfl) ?_
  refine v_iload_n F (dq dkX2_inch_1 17 rfl) rfl 2 rfl ?_
  obtain ⟨g10, h⟩ := gd_of h
  refine v_iald F 50 (xn (by decide)) xc_50 (ib_in g10) (dq dkX2_inch_1 18 rfl) ?_
  refine v_aload_n F (dq dkX2_inch_1 19 rfl) rfl 1 rfl ?_
  refine v_get F 48 (xn (by decide)) xc_48 rfl inlX2 2 (by decide) (tc5 _ (List.mem_of_getElem? (i := 0) rfl)) rfl rfl (dq dkX2_inch_1 20 rfl) ?_
  refine v_iload_n F (dq dkX2_inch_1 21 rfl) rfl 2 rfl ?_
  obtain ⟨g11, h⟩ := gd_of h
  refine v_iald F 49 (xn (by decide)) xc_49 (ib_in g11) (dq dkX2_inch_1 22 rfl) ?_
  refine v_aload_n F (dq dkX2_inch_1 23 rfl) rfl 1 rfl ?_
  refine v_get F 48 (xn (by decide)) xc_48 rfl inlX2 0 (by decide) (tc5 _ (List.mem_of_getElem? (i := 11) rfl)) rfl rfl (dq dkX2_inch_1 24 rfl) ?_
  refine v_iconst F (v := 4) (dq dkX2_inch_1 25 rfl) ki_4 ?_
  refine v_iload_n F (dq dkX2_inch_1 26 rfl) rfl 2 rfl ?_
  obtain ⟨r12, e13, h⟩ := bd_of h
  refine v_callV 2 F (q := 1) (as := [.int 4, .int a1]) (st := [.int (gi r8.2 49 a1.toNatClampNeg), .int (gi r8.2 50 a1.toNatClampNeg), .int 2, .ref (K.1 + 48)]) (st1 := (.int r12 :: [.int (gi r8.2 49 a1.toNatClampNeg), .int (gi r8.2 50 a1.toNatClampNeg), .int 2, .ref (K.1 + 48)])) (res := (some (.int r12))) (c_X8_of (l := C.2.1) r8.2 y 1 4 a1 e13) (xn (by decide)) xc_1 rfl (tc20 _ (List.mem_of_getElem? (i := 13) rfl)) (tc14 _ (List.mem_of_getElem? (i := 11) rfl)) (tc14 _ (List.mem_of_getElem? (i := 12) rfl)) (tc1 _ (List.mem_of_getElem? (i := 15) rfl)) (tc14 _ (List.mem_of_getElem? (i := 13) rfl)) (by decide) rfl ⟨rfl, rfl, Nat.le_of_ble_eq_true rfl, Nat.le_of_ble_eq_true rfl⟩ ⟨Nat.le_of_ble_eq_true rfl, Nat.le_of_ble_eq_true rfl⟩ rfl (Nat.le_of_ble_eq_true rfl) rfl rfl rfl (dq dkX2_inch_1 27 rfl) ?_
  obtain ⟨r14, e15, h⟩ := bd_of h
  refine v_callV 4 F (q := 48) (as := [.int 2, .int (gi r8.2 50 a1.toNatClampNeg), .int (gi r8.2 49 a1.toNatClampNeg), .int r12]) (st := []) (st1 := (.int r14.1 :: [])) (res := (some (.int r14.1))) (c_X2_asked (l := C.2.1) r8.2 y 2 (gi r8.2 50 a1.toNatClampNeg) (gi r8.2 49 a1.toNatClampNeg) r12 e15) (xn (by decide)) xc_48 rfl (tc26 _ (List.mem_of_getElem? (i := 3) rfl)) (tc20 _ (List.mem_of_getElem? (i := 16) rfl)) (tc20 _ (List.mem_of_getElem? (i := 17) rfl)) (tc2 _ (List.mem_of_getElem? (i := 19) rfl)) (tc20 _ (List.mem_of_getElem? (i := 18) rfl)) (by decide) rfl ⟨rfl, rfl, Nat.le_of_ble_eq_true rfl, Nat.le_of_ble_eq_true rfl⟩ ⟨Nat.le_of_ble_eq_true rfl, Nat.le_of_ble_eq_true rfl⟩ rfl (Nat.le_of_ble_eq_true rfl) rfl rfl rfl (dq dkX2_inch_1 28 rfl) ?_
  refine v_istore_n F (ls' := [(3, .int r14.1), (2, .int r8.1), (0, .ref (K.1 + 48)), (1, .int a1)]) (dq dkX2_inch_1 29 rfl) rfl (by decide) rfl ?_
  refine v_iload_n F (dq dkX2_inch_1 30 rfl) rfl 1 rfl ?_
  refine v_iload_n F (dq dkX2_inch_1 31 rfl) rfl 3 rfl ?_
  refine v_callSN 1 F (as := [.int a1]) (st := [.int r8.1]) (st1 := (.int (f_X10_share a1) :: [.int r8.1])) (res := (some (.int (f_X10_share a1)))) (c_X10_share (l := C.2.1) a1) (List.mem_of_getElem? (i := 10) rfl) (tc26 _ (List.mem_of_getElem? (i := 15) rfl)) (tc1 _ (List.mem_of_getElem? (i := 2) rfl)) (tc26 _ (List.mem_of_getElem? (i := 16) rfl)) (by decide) rfl ⟨rfl, rfl, Nat.le_of_ble_eq_true rfl, Nat.le_of_ble_eq_true rfl⟩ ⟨Nat.le_of_ble_eq_true rfl, Nat.le_of_ble_eq_true rfl⟩ rfl (Nat.le_of_ble_eq_true rfl) rfl rfl rfl (dq dkX2_inch_1 32 rfl) ?_
  refine v_imul F (dq dkX2_inch_1 33 rfl) ?_
  refine v_iload_n F (dq dkX2_inch_1 34 rfl) rfl 0 rfl ?_
  refine v_aload_n F (dq dkX2_inch_1 35 rfl) rfl 2 rfl ?_
  refine v_get F 48 (xn (by decide)) xc_48 rfl inlX2 0 (by decide) (tc5 _ (List.mem_of_getElem? (i := 11) rfl)) rfl rfl (dq dkX2_inch_1 36 rfl) ?_
  refine v_iconst F (v := 3) (dq dkX2_inch_1 37 rfl) ki_3 ?_
  refine v_iload_n F (dq dkX2_inch_1 38 rfl) rfl 3 rfl ?_
  obtain ⟨r17, e18, h⟩ := bd_of h
  refine v_callV 2 F (q := 1) (as := [.int 3, .int a1]) (st := [.int r14.1, .int (r8.1 * (f_X10_share a1))]) (st1 := (.int r17 :: [.int r14.1, .int (r8.1 * (f_X10_share a1))])) (res := (some (.int r17))) (c_X8_of (l := C.2.1) r14.2 y 1 3 a1 e18) (xn (by decide)) xc_1 rfl (tc20 _ (List.mem_of_getElem? (i := 13) rfl)) (tc14 _ (List.mem_of_getElem? (i := 11) rfl)) (tc14 _ (List.mem_of_getElem? (i := 12) rfl)) (tc1 _ (List.mem_of_getElem? (i := 15) rfl)) (tc14 _ (List.mem_of_getElem? (i := 13) rfl)) (by decide) rfl ⟨rfl, rfl, Nat.le_of_ble_eq_true rfl, Nat.le_of_ble_eq_true rfl⟩ ⟨Nat.le_of_ble_eq_true rfl, Nat.le_of_ble_eq_true rfl⟩ rfl (Nat.le_of_ble_eq_true rfl) rfl rfl rfl (dq dkX2_inch_1 39 rfl) ?_
  refine v_iadd F (dq dkX2_inch_2 0 rfl) ?_
  refine v_iconst F (v := 4) (dq dkX2_inch_2 1 rfl) ki_4 ?_
  refine v_imul F (dq dkX2_inch_2 2 rfl) ?_
  refine v_isub F (dq dkX2_inch_2 3 rfl) ?_
  refine v_istore F (ls' := [(4, .int ((r8.1 * (f_X10_share a1)) - ((r14.1 + r17) * 4))), (3, .int r14.1), (2, .int r8.1), (0, .ref (K.1 + 48)), (1, .int a1)]) (dq dkX2_inch_2 4 rfl) (by decide) rfl ?_
  refine v_iload F (dq dkX2_inch_2 5 rfl) 0 rfl ?_
  refine v_if_le F (tgt := 151) (dq dkX2_inch_2 6 rfl) (by decide) (fun c19 => ?_) (fun c19 => ?_)
  · rw [if_pos c19] at h
    refine v_sub [3, 4, 0] rfl ?_
    exact t_X2_inch_151 k12 r14.2 a1 ((r8.1 * (f_X10_share a1)) - ((r14.1 + r17) * 4)) hk12 h F E
  · rw [if_neg c19] at h
    refine v_aload_n F (dq dkX2_inch_2 7 rfl) rfl 3 rfl ?_
    refine v_dup F (dq dkX2_inch_2 8 rfl) rfl ?_
    refine v_get F 48 (xn (by decide)) xc_48 rfl inlX2 6 (by decide) (tc5 _ (List.mem_of_getElem? (i := 4) rfl)) rfl rfl (dq dkX2_inch_2 9 rfl) ?_
    refine v_iload_n F (dq dkX2_inch_2 10 rfl) rfl 4 rfl ?_
    refine v_callS 1 F (as := [.int a1]) (st := [.int (gi r14.2 48 6), .ref (K.1 + 48)]) (st1 := (.int (f_X2_bit a1) :: [.int (gi r14.2 48 6), .ref (K.1 + 48)])) (res := (some (.int (f_X2_bit a1)))) (c_X2_bit (l := C.2.1) a1) (tc26 _ (List.mem_of_getElem? (i := 4) rfl)) (tc26 _ (List.mem_of_getElem? (i := 5) rfl)) (tc2 _ (List.mem_of_getElem? (i := 19) rfl)) (tc26 _ (List.mem_of_getElem? (i := 6) rfl)) (by decide) rfl ⟨rfl, rfl, Nat.le_of_ble_eq_true rfl, Nat.le_of_ble_eq_true rfl⟩ ⟨Nat.le_of_ble_eq_true rfl, Nat.le_of_ble_eq_true rfl⟩ rfl (Nat.le_of_ble_eq_true rfl) rfl rfl rfl (dq dkX2_inch_2 11 rfl) ?_
    refine v_ior F (dq dkX2_inch_2 12 rfl) ?_
    refine v_put F 48 (xn (by decide)) xc_48 rfl inlX2 tyX2_ok nmX2 6 (by decide) (tc5 _ (List.mem_of_getElem? (i := 4) rfl)) rfl rfl (tyX2_ok 6 (by decide)) rfl rfl (Nat.le_of_ble_eq_true rfl) (dq dkX2_inch_2 13 rfl) ?_
    refine v_eqM (xwC (q := 48) (j := 6) (v := (gi r14.2 48 6) ||| (f_X2_bit a1)) (by decide) rfl) ?_
    refine v_sub [3, 4, 0] rfl ?_
    exact t_X2_inch_151 k12 (pi r14.2 48 6 ((gi r14.2 48 6) ||| (f_X2_bit a1))) a1 ((r8.1 * (f_X10_share a1)) - ((r14.1 + r17) * 4)) hk12 h F E
def f_X2_inch_12 : Nat → CS → Int32 → Option (CS)
  | 0, _, _ => none
  | n + 1, x, a1 => if 9 ≤ a1 then (some x) else (gd (ib a1 9) (gd (ib a1 9) (if (f_X10_share a1) = 0 then (if ((gi (pi x 49 a1.toNatClampNeg ((gi x 49 a1.toNatClampNeg) + (f_X10_share a1))) 48 7) - (gi (pi x 49 a1.toNatClampNeg ((gi x 49 a1.toNatClampNeg) + (f_X10_share a1))) 48 7) / 2 * 2) = 0 then (gd (ib a1 9) (gd (ib a1 9) (f_X2_inch_57 (f_X2_inch_12 n) (pi (pi x 49 a1.toNatClampNeg ((gi x 49 a1.toNatClampNeg) + (f_X10_share a1))) 51 a1.toNatClampNeg ((gi (pi x 49 a1.toNatClampNeg ((gi x 49 a1.toNatClampNeg) + (f_X10_share a1))) 51 a1.toNatClampNeg) + 1)) a1))) else (f_X2_inch_57 (f_X2_inch_12 n) (pi x 49 a1.toNatClampNeg ((gi x 49 a1.toNatClampNeg) + (f_X10_share a1))) a1)) else (f_X2_inch_57 (f_X2_inch_12 n) (pi x 49 a1.toNatClampNeg ((gi x 49 a1.toNatClampNeg) + (f_X10_share a1))) a1))))
set_option maxRecDepth 100000 in
set_option maxHeartbeats 4000000 in
theorem t_X2_inch_12 {C : Cx} {K : KE} {y : MS} {R : CS}  (F : Fx C RX2 cX2_inch 5 rm_X2_inch K) (E : CE C (xf K R y) none 0 0 none) : ∀ (n : Nat) (x : CS) (a1 : Int32) (h : f_X2_inch_12 n x a1 = some R), V C 12 [(0, .ref (K.1 + 48)), (1, .int a1)] [] (xf K x y) 0 0 := by
  intro n
  induction n with
  | zero => intro x a1 h; cases h
  | succ n ih =>
    intro x a1 h
    rw [f_X2_inch_12] at h
    refine v_iload_n F (dq dkX2_inch_0 8 rfl) rfl 1 rfl ?_
    refine v_bipush F (v := 9) (dq dkX2_inch_0 9 rfl) kb_9 ?_
    refine v_icmp_ge F (tgt := 184) (dq dkX2_inch_0 10 rfl) (by decide) (fun c21 => ?_) (fun c21 => ?_)
    · rw [if_pos c21] at h
      cases h
      exact v_vret F E (dq dkX2_inch_2 29 rfl)
    · rw [if_neg c21] at h
      refine v_aload_n F (dq dkX2_inch_0 11 rfl) rfl 0 rfl ?_
      refine v_get F 48 (xn (by decide)) xc_48 rfl inlX2 2 (by decide) (tc5 _ (List.mem_of_getElem? (i := 0) rfl)) rfl rfl (dq dkX2_inch_0 12 rfl) ?_
      refine v_iload_n F (dq dkX2_inch_0 13 rfl) rfl 1 rfl ?_
      refine v_dup2 F (dq dkX2_inch_0 14 rfl) rfl rfl ?_
      obtain ⟨g22, h⟩ := gd_of h
      refine v_iald F 49 (xn (by decide)) xc_49 (ib_in g22) (dq dkX2_inch_0 15 rfl) ?_
      refine v_iload_n F (dq dkX2_inch_0 16 rfl) rfl 1 rfl ?_
      refine v_callSN 1 F (as := [.int a1]) (st := [.int (gi x 49 a1.toNatClampNeg), .int a1, .ref (K.1 + 49)]) (st1 := (.int (f_X10_share a1) :: [.int (gi x 49 a1.toNatClampNeg), .int a1, .ref (K.1 + 49)])) (res := (some (.int (f_X10_share a1)))) (c_X10_share (l := C.2.1) a1) (List.mem_of_getElem? (i := 10) rfl) (tc26 _ (List.mem_of_getElem? (i := 15) rfl)) (tc1 _ (List.mem_of_getElem? (i := 2) rfl)) (tc26 _ (List.mem_of_getElem? (i := 16) rfl)) (by decide) rfl ⟨rfl, rfl, Nat.le_of_ble_eq_true rfl, Nat.le_of_ble_eq_true rfl⟩ ⟨Nat.le_of_ble_eq_true rfl, Nat.le_of_ble_eq_true rfl⟩ rfl (Nat.le_of_ble_eq_true rfl) rfl rfl rfl (dq dkX2_inch_0 17 rfl) ?_
      refine v_iadd F (dq dkX2_inch_0 18 rfl) ?_
      obtain ⟨g24, h⟩ := gd_of h
      refine v_iast F 49 (xn (by decide)) xc_49 (ib_in g24) (dq dkX2_inch_0 19 rfl) ?_
      refine v_eqM (xwC (q := 49) (j := a1.toNatClampNeg) (v := (gi x 49 a1.toNatClampNeg) + (f_X10_share a1)) (by decide) rfl) ?_
      refine v_iload_n F (dq dkX2_inch_0 20 rfl) rfl 1 rfl ?_
      refine v_callSN 1 F (as := [.int a1]) (st := []) (st1 := (.int (f_X10_share a1) :: [])) (res := (some (.int (f_X10_share a1)))) (c_X10_share (l := C.2.1) a1) (List.mem_of_getElem? (i := 10) rfl) (tc26 _ (List.mem_of_getElem? (i := 15) rfl)) (tc1 _ (List.mem_of_getElem? (i := 2) rfl)) (tc26 _ (List.mem_of_getElem? (i := 16) rfl)) (by decide) rfl ⟨rfl, rfl, Nat.le_of_ble_eq_true rfl, Nat.le_of_ble_eq_true rfl⟩ ⟨Nat.le_of_ble_eq_true rfl, Nat.le_of_ble_eq_true rfl⟩ rfl (Nat.le_of_ble_eq_true rfl) rfl rfl rfl (dq dkX2_inch_0 21 rfl) ?_
      refine v_if_ne F (tgt := 57) (dq dkX2_inch_0 22 rfl) (by decide) (fun c26 => ?_) (fun c26 => ?_)
      · rw [if_neg c26] at h
        exact t_X2_inch_57 (f_X2_inch_12 n) (pi x 49 a1.toNatClampNeg ((gi x 49 a1.toNatClampNeg) + (f_X10_share a1))) a1 ih h F E
      · rw [if_pos c26] at h
        refine v_aload_n F (dq dkX2_inch_0 23 rfl) rfl 0 rfl ?_
        refine v_get F 48 (xn (by decide)) xc_48 rfl inlX2 7 (by decide) (tc5 _ (List.mem_of_getElem? (i := 5) rfl)) rfl rfl (dq dkX2_inch_0 24 rfl) ?_
        refine v_iconst F (v := 2) (dq dkX2_inch_0 25 rfl) ki_2 ?_
        refine v_irem F (dq dkX2_inch_0 26 rfl) (by decide) ?_
        refine v_if_ne F (tgt := 57) (dq dkX2_inch_0 27 rfl) (by decide) (fun c27 => ?_) (fun c27 => ?_)
        · rw [if_neg c27] at h
          exact t_X2_inch_57 (f_X2_inch_12 n) (pi x 49 a1.toNatClampNeg ((gi x 49 a1.toNatClampNeg) + (f_X10_share a1))) a1 ih h F E
        · rw [if_pos c27] at h
          refine v_aload_n F (dq dkX2_inch_0 28 rfl) rfl 0 rfl ?_
          refine v_get F 48 (xn (by decide)) xc_48 rfl inlX2 4 (by decide) (tc5 _ (List.mem_of_getElem? (i := 2) rfl)) rfl rfl (dq dkX2_inch_0 29 rfl) ?_
          refine v_iload_n F (dq dkX2_inch_0 30 rfl) rfl 1 rfl ?_
          refine v_dup2 F (dq dkX2_inch_0 31 rfl) rfl rfl ?_
          obtain ⟨g28, h⟩ := gd_of h
          refine v_iald F 51 (xn (by decide)) xc_51 (ib_in g28) (dq dkX2_inch_0 32 rfl) ?_
          refine v_iconst F (v := 1) (dq dkX2_inch_0 33 rfl) ki_1 ?_
          refine v_iadd F (dq dkX2_inch_0 34 rfl) ?_
          obtain ⟨g29, h⟩ := gd_of h
          refine v_iast F 51 (xn (by decide)) xc_51 (ib_in g29) (dq dkX2_inch_0 35 rfl) ?_
          refine v_eqM (xwC (q := 51) (j := a1.toNatClampNeg) (v := (gi (pi x 49 a1.toNatClampNeg ((gi x 49 a1.toNatClampNeg) + (f_X10_share a1))) 51 a1.toNatClampNeg) + 1) (by decide) rfl) ?_
          exact t_X2_inch_57 (f_X2_inch_12 n) (pi (pi x 49 a1.toNatClampNeg ((gi x 49 a1.toNatClampNeg) + (f_X10_share a1))) 51 a1.toNatClampNeg ((gi (pi x 49 a1.toNatClampNeg ((gi x 49 a1.toNatClampNeg) + (f_X10_share a1))) 51 a1.toNatClampNeg) + 1)) a1 ih h F E
def f_X2_inch (x : CS) : Option (CS) := f_X2_inch_12 1000 (pi x 48 7 ((gi x 48 7) + 1)) 0
set_option maxRecDepth 100000 in
set_option maxHeartbeats 4000000 in
theorem c_X2_inch {K : KE} {l : Launch} {R : CS} (x : CS) (y : MS) (h : f_X2_inch x = some R) : MC K l yX2_inch cX2_inch 5 none rm_X2_inch 0 0 [.ref (K.1 + 48)] (xf K x y) (xf K R y) none := by
  refine mc_of (ls0 := [(0, .ref (K.1 + 48))]) (by decide) (Nat.le_of_ble_eq_true rfl) rfl (fun C hl F E => ?_)
  have F : Fx C RX2 cX2_inch 5 rm_X2_inch K := F
  unfold f_X2_inch at h
  refine v_aload_n F (dq dkX2_inch_0 0 rfl) rfl 0 rfl ?_
  refine v_dup F (dq dkX2_inch_0 1 rfl) rfl ?_
  refine v_get F 48 (xn (by decide)) xc_48 rfl inlX2 7 (by decide) (tc5 _ (List.mem_of_getElem? (i := 5) rfl)) rfl rfl (dq dkX2_inch_0 2 rfl) ?_
  refine v_iconst F (v := 1) (dq dkX2_inch_0 3 rfl) ki_1 ?_
  refine v_iadd F (dq dkX2_inch_0 4 rfl) ?_
  refine v_put F 48 (xn (by decide)) xc_48 rfl inlX2 tyX2_ok nmX2 7 (by decide) (tc5 _ (List.mem_of_getElem? (i := 5) rfl)) rfl rfl (tyX2_ok 7 (by decide)) rfl rfl (Nat.le_of_ble_eq_true rfl) (dq dkX2_inch_0 5 rfl) ?_
  refine v_eqM (xwC (q := 48) (j := 7) (v := (gi x 48 7) + 1) (by decide) rfl) ?_
  refine v_iconst F (v := 0) (dq dkX2_inch_0 6 rfl) ki_0 ?_
  refine v_istore_n F (ls' := [(1, .int 0), (0, .ref (K.1 + 48))]) (dq dkX2_inch_0 7 rfl) rfl (by decide) rfl ?_
  refine v_sub [1, 0] rfl ?_
  exact t_X2_inch_12 F E 1000 (pi x 48 7 ((gi x 48 7) + 1)) 0 h
def rm_X2_spreadBy : Room := { frames := 5, cells := 0, slots := 0, locals := 133 }
def f_X2_spreadBy_2 : Nat → CS → Int32 → Int32 → Option (CS)
  | 0, _, _, _ => none
  | n + 1, x, a1, a2 => if a1 ≤ a2 then (some x) else (if 12 ≤ (gi x 48 7) then (some x) else ((f_X2_inch x).bind fun r3 => (f_X2_spreadBy_2 n) r3 a1 (a2 + 1)))
set_option maxRecDepth 100000 in
set_option maxHeartbeats 4000000 in
theorem t_X2_spreadBy_2 {C : Cx} {K : KE} {y : MS} {R : CS}  (F : Fx C RX2 cX2_spreadBy 3 rm_X2_spreadBy K) (E : CE C (xf K R y) none 0 0 none) : ∀ (n : Nat) (x : CS) (a1 : Int32) (a2 : Int32) (h : f_X2_spreadBy_2 n x a1 a2 = some R), V C 2 [(0, .ref (K.1 + 48)), (1, .int a1), (2, .int a2)] [] (xf K x y) 0 0 := by
  intro n
  induction n with
  | zero => intro x a1 a2 h; cases h
  | succ n ih =>
    intro x a1 a2 h
    rw [f_X2_spreadBy_2] at h
    refine v_iload_n F (dq dkX2_spreadBy_0 2 rfl) rfl 2 rfl ?_
    refine v_iload_n F (dq dkX2_spreadBy_0 3 rfl) rfl 1 rfl ?_
    refine v_icmp_ge F (tgt := 26) (dq dkX2_spreadBy_0 4 rfl) (by decide) (fun c1 => ?_) (fun c1 => ?_)
    · rw [if_pos c1] at h
      cases h
      exact v_vret F E (dq dkX2_spreadBy_0 13 rfl)
    · rw [if_neg c1] at h
      refine v_aload_n F (dq dkX2_spreadBy_0 5 rfl) rfl 0 rfl ?_
      refine v_get F 48 (xn (by decide)) xc_48 rfl inlX2 7 (by decide) (tc5 _ (List.mem_of_getElem? (i := 5) rfl)) rfl rfl (dq dkX2_spreadBy_0 6 rfl) ?_
      refine v_bipush F (v := 12) (dq dkX2_spreadBy_0 7 rfl) kb_12 ?_
      refine v_icmp_ge F (tgt := 26) (dq dkX2_spreadBy_0 8 rfl) (by decide) (fun c2 => ?_) (fun c2 => ?_)
      · rw [if_pos c2] at h
        cases h
        exact v_vret F E (dq dkX2_spreadBy_0 13 rfl)
      · rw [if_neg c2] at h
        refine v_aload_n F (dq dkX2_spreadBy_0 9 rfl) rfl 0 rfl ?_
        obtain ⟨r3, e4, h⟩ := bd_of h
        refine v_callV 0 F (q := 48) (as := []) (st := []) (st1 := []) (res := none) (c_X2_inch (l := C.2.1) x y e4) (xn (by decide)) xc_48 rfl (tc26 _ (List.mem_of_getElem? (i := 11) rfl)) (tc26 _ (List.mem_of_getElem? (i := 12) rfl)) (tc26 _ (List.mem_of_getElem? (i := 13) rfl)) (tc2 _ (List.mem_of_getElem? (i := 19) rfl)) (tc26 _ (List.mem_of_getElem? (i := 14) rfl)) (by decide) rfl ⟨rfl, rfl, Nat.le_of_ble_eq_true rfl, Nat.le_of_ble_eq_true rfl⟩ ⟨Nat.le_of_ble_eq_true rfl, Nat.le_of_ble_eq_true rfl⟩ rfl (Nat.le_of_ble_eq_true rfl) rfl rfl rfl (dq dkX2_spreadBy_0 10 rfl) ?_
        refine v_iinc F (v := a2 + 1) (ls' := [(2, .int (a2 + 1)), (0, .ref (K.1 + 48)), (1, .int a1)]) (dq dkX2_spreadBy_0 11 rfl) (j := 2) rfl (kv_add ki_1) (by decide) rfl ?_
        refine v_goto F (tgt := 2) (dq dkX2_spreadBy_0 12 rfl) (by decide) ?_
        refine v_sub [1, 2, 0] rfl ?_
        exact ih r3 a1 (a2 + 1) h
def f_X2_spreadBy (x : CS) (a1 : Int32) : Option (CS) := f_X2_spreadBy_2 1000 x a1 0
set_option maxRecDepth 100000 in
set_option maxHeartbeats 4000000 in
theorem c_X2_spreadBy {K : KE} {l : Launch} {R : CS} (x : CS) (y : MS) (a1 : Int32) (h : f_X2_spreadBy x a1 = some R) : MC K l yX2_spreadBy cX2_spreadBy 3 none rm_X2_spreadBy 0 0 [.ref (K.1 + 48), .int a1] (xf K x y) (xf K R y) none := by
  refine mc_of (ls0 := [(0, .ref (K.1 + 48)), (1, .int a1)]) (by decide) (Nat.le_of_ble_eq_true rfl) rfl (fun C hl F E => ?_)
  have F : Fx C RX2 cX2_spreadBy 3 rm_X2_spreadBy K := F
  unfold f_X2_spreadBy at h
  refine v_iconst F (v := 0) (dq dkX2_spreadBy_0 0 rfl) ki_0 ?_
  refine v_istore_n F (ls' := [(2, .int 0), (0, .ref (K.1 + 48)), (1, .int a1)]) (dq dkX2_spreadBy_0 1 rfl) rfl (by decide) rfl ?_
  refine v_sub [1, 2, 0] rfl ?_
  exact t_X2_spreadBy_2 F E 1000 x a1 0 h
def rm_X2_watch : Room := { frames := 1, cells := 0, slots := 0, locals := 30 }
def f_X2_watch (x : CS) : CS := pi (pi x 48 9 ((gi x 48 6) ^^^ (-1))) 48 10 (-1000000)
set_option maxRecDepth 100000 in
set_option maxHeartbeats 4000000 in
theorem c_X2_watch {K : KE} {l : Launch} (x : CS) (y : MS) : MC K l yX2_watch cX2_watch 1 none rm_X2_watch 0 0 [.ref (K.1 + 48)] (xf K x y) (xf K (f_X2_watch x) y) none := by
  refine mc_of (ls0 := [(0, .ref (K.1 + 48))]) (by decide) (Nat.le_of_ble_eq_true rfl) rfl (fun C hl F E => ?_)
  have F : Fx C RX2 cX2_watch 1 rm_X2_watch K := F
  obtain ⟨R, h⟩ : ∃ R, f_X2_watch x = R := ⟨_, rfl⟩
  rw [h] at E
  unfold f_X2_watch at h
  refine v_aload_n F (dq dkX2_watch_0 0 rfl) rfl 0 rfl ?_
  refine v_aload_n F (dq dkX2_watch_0 1 rfl) rfl 0 rfl ?_
  refine v_get F 48 (xn (by decide)) xc_48 rfl inlX2 6 (by decide) (tc5 _ (List.mem_of_getElem? (i := 4) rfl)) rfl rfl (dq dkX2_watch_0 2 rfl) ?_
  refine v_iconst F (v := (-1)) (dq dkX2_watch_0 3 rfl) ki_m1 ?_
  refine v_ixor F (dq dkX2_watch_0 4 rfl) ?_
  refine v_put F 48 (xn (by decide)) xc_48 rfl inlX2 tyX2_ok nmX2 9 (by decide) (tc5 _ (List.mem_of_getElem? (i := 7) rfl)) rfl rfl (tyX2_ok 9 (by decide)) rfl rfl (Nat.le_of_ble_eq_true rfl) (dq dkX2_watch_0 5 rfl) ?_
  refine v_eqM (xwC (q := 48) (j := 9) (v := (gi x 48 6) ^^^ (-1)) (by decide) rfl) ?_
  refine v_aload_n F (dq dkX2_watch_0 6 rfl) rfl 0 rfl ?_
  refine v_ldc F (v := (-1000000)) (tc5 _ (List.mem_of_getElem? (i := 8) rfl)) (dq dkX2_watch_0 7 rfl) ?_
  refine v_put F 48 (xn (by decide)) xc_48 rfl inlX2 tyX2_ok nmX2 10 (by decide) (tc5 _ (List.mem_of_getElem? (i := 9) rfl)) rfl rfl (tyX2_ok 10 (by decide)) rfl rfl (Nat.le_of_ble_eq_true rfl) (dq dkX2_watch_0 8 rfl) ?_
  refine v_eqM (xwC (q := 48) (j := 10) (v := (-1000000)) (by decide) rfl) ?_
  cases h
  exact v_vret F E (dq dkX2_watch_0 9 rfl)
def rm_X2_chancesWhole : Room := { frames := 1, cells := 0, slots := 0, locals := 30 }
def f_X2_chancesWhole_23 (k5 : Int32 → Int32 → Int32 → Option (Int32)) (x : CS) (a1 : Int32) (a2 : Int32) (a3 : Int32) : Option (Int32) := k5 a1 a2 (a3 + 1)
set_option maxRecDepth 100000 in
set_option maxHeartbeats 4000000 in
theorem t_X2_chancesWhole_23 {C : Cx} {K : KE} {y : MS} {R : Int32}  (k5 : Int32 → Int32 → Int32 → Option (Int32)) (x : CS) (a1 : Int32) (a2 : Int32) (a3 : Int32) (hk5 : ∀ (a1 : Int32) (a2 : Int32) (a3 : Int32), k5 a1 a2 a3 = some R → V C 5 [(0, .ref (K.1 + 48)), (1, .int a1), (2, .int a2), (3, .int a3)] [] (xf K x y) 0 0) (h : f_X2_chancesWhole_23 k5 x a1 a2 a3 = some R) (F : Fx C RX2 cX2_chancesWhole 4 rm_X2_chancesWhole K) (E : CE C (xf K x y) (some (.int R)) 0 0 (some .int)) : V C 23 [(0, .ref (K.1 + 48)), (1, .int a1), (2, .int a2), (3, .int a3)] [] (xf K x y) 0 0 := by
  unfold f_X2_chancesWhole_23 at h
  refine v_iinc F (v := a3 + 1) (ls' := [(3, .int (a3 + 1)), (0, .ref (K.1 + 48)), (1, .int a1), (2, .int a2)]) (dq dkX2_chancesWhole_0 15 rfl) (j := 3) rfl (kv_add ki_1) (by decide) rfl ?_
  refine v_goto F (tgt := 5) (dq dkX2_chancesWhole_0 16 rfl) (by decide) ?_
  refine v_sub [1, 2, 3, 0] rfl ?_
  exact hk5 a1 a2 (a3 + 1) h
def f_X2_chancesWhole_5 (x : CS) : Nat → Int32 → Int32 → Int32 → Option (Int32)
  | 0, _, _, _ => none
  | n + 1, a1, a2, a3 => if a1 < a3 then (some a2) else (if (4 * a3) < (gi x 48 10) then (f_X2_chancesWhole_23 (f_X2_chancesWhole_5 x n) x a1 a2 a3) else (f_X2_chancesWhole_23 (f_X2_chancesWhole_5 x n) x a1 (a2 + 1) a3))
set_option maxRecDepth 100000 in
set_option maxHeartbeats 4000000 in
theorem t_X2_chancesWhole_5 {C : Cx} {K : KE} {y : MS} {R : Int32}  (x : CS) (F : Fx C RX2 cX2_chancesWhole 4 rm_X2_chancesWhole K) (E : CE C (xf K x y) (some (.int R)) 0 0 (some .int)) : ∀ (n : Nat) (a1 : Int32) (a2 : Int32) (a3 : Int32) (h : f_X2_chancesWhole_5 x n a1 a2 a3 = some R), V C 5 [(0, .ref (K.1 + 48)), (1, .int a1), (2, .int a2), (3, .int a3)] [] (xf K x y) 0 0 := by
  intro n
  induction n with
  | zero => intro a1 a2 a3 h; cases h
  | succ n ih =>
    intro a1 a2 a3 h
    rw [f_X2_chancesWhole_5] at h
    refine v_iload_n F (dq dkX2_chancesWhole_0 5 rfl) rfl 3 rfl ?_
    refine v_iload_n F (dq dkX2_chancesWhole_0 6 rfl) rfl 1 rfl ?_
    refine v_icmp_gt F (tgt := 29) (dq dkX2_chancesWhole_0 7 rfl) (by decide) (fun c1 => ?_) (fun c1 => ?_)
    · rw [if_pos c1] at h
      refine v_iload_n F (dq dkX2_chancesWhole_0 17 rfl) rfl 2 rfl ?_
      cases h
      exact v_iret F E (dq dkX2_chancesWhole_0 18 rfl)
    · rw [if_neg c1] at h
      refine v_aload_n F (dq dkX2_chancesWhole_0 8 rfl) rfl 0 rfl ?_
      refine v_get F 48 (xn (by decide)) xc_48 rfl inlX2 10 (by decide) (tc5 _ (List.mem_of_getElem? (i := 9) rfl)) rfl rfl (dq dkX2_chancesWhole_0 9 rfl) ?_
      refine v_iconst F (v := 4) (dq dkX2_chancesWhole_0 10 rfl) ki_4 ?_
      refine v_iload_n F (dq dkX2_chancesWhole_0 11 rfl) rfl 3 rfl ?_
      refine v_imul F (dq dkX2_chancesWhole_0 12 rfl) ?_
      refine v_icmp_gt F (tgt := 23) (dq dkX2_chancesWhole_0 13 rfl) (by decide) (fun c2 => ?_) (fun c2 => ?_)
      · rw [if_pos c2] at h
        exact t_X2_chancesWhole_23 (f_X2_chancesWhole_5 x n) x a1 a2 a3 ih h F E
      · rw [if_neg c2] at h
        refine v_iinc F (v := a2 + 1) (ls' := [(2, .int (a2 + 1)), (0, .ref (K.1 + 48)), (1, .int a1), (3, .int a3)]) (dq dkX2_chancesWhole_0 14 rfl) (j := 2) rfl (kv_add ki_1) (by decide) rfl ?_
        refine v_sub [1, 2, 0, 3] rfl ?_
        exact t_X2_chancesWhole_23 (f_X2_chancesWhole_5 x n) x a1 (a2 + 1) a3 ih h F E
def f_X2_chancesWhole (x : CS) (a1 : Int32) : Option (Int32) := f_X2_chancesWhole_5 x 1000 a1 0 (-a1)
set_option maxRecDepth 100000 in
set_option maxHeartbeats 4000000 in
theorem c_X2_chancesWhole {K : KE} {l : Launch} {R : Int32} (x : CS) (y : MS) (a1 : Int32) (h : f_X2_chancesWhole x a1 = some R) : MC K l yX2_chancesWhole cX2_chancesWhole 4 (some .int) rm_X2_chancesWhole 0 0 [.ref (K.1 + 48), .int a1] (xf K x y) (xf K x y) (some (.int R)) := by
  refine mc_of (ls0 := [(0, .ref (K.1 + 48)), (1, .int a1)]) (by decide) (Nat.le_of_ble_eq_true rfl) rfl (fun C hl F E => ?_)
  have F : Fx C RX2 cX2_chancesWhole 4 rm_X2_chancesWhole K := F
  unfold f_X2_chancesWhole at h
  refine v_iconst F (v := 0) (dq dkX2_chancesWhole_0 0 rfl) ki_0 ?_
  refine v_istore_n F (ls' := [(2, .int 0), (0, .ref (K.1 + 48)), (1, .int a1)]) (dq dkX2_chancesWhole_0 1 rfl) rfl (by decide) rfl ?_
  refine v_iload_n F (dq dkX2_chancesWhole_0 2 rfl) rfl 2 rfl ?_
  refine v_ineg F (dq dkX2_chancesWhole_0 3 rfl) ?_
  refine v_istore_n F (ls' := [(3, .int (-a1)), (2, .int 0), (0, .ref (K.1 + 48)), (1, .int a1)]) (dq dkX2_chancesWhole_0 4 rfl) rfl (by decide) rfl ?_
  refine v_sub [2, 3, 1, 0] rfl ?_
  exact t_X2_chancesWhole_5 x F E 1000 a1 0 (-a1) h
def rm_X2_sew : Room := { frames := 5, cells := 0, slots := 0, locals := 113 }
def f_X2_sew_64 (k6 : CS → Int32 → Int32 → Int32 → Int32 → Option (CS)) (x : CS) (a2 : Int32) (a3 : Int32) (a4 : Int32) (a5 : Int32) : Option (CS) := k6 x a2 a3 a4 (a5 + 1)
set_option maxRecDepth 100000 in
set_option maxHeartbeats 4000000 in
theorem t_X2_sew_64 {C : Cx} {K : KE} {y : MS} {R : CS}  (k6 : CS → Int32 → Int32 → Int32 → Int32 → Option (CS)) (x : CS) (a2 : Int32) (a3 : Int32) (a4 : Int32) (a5 : Int32) (hk6 : ∀ (x : CS) (a2 : Int32) (a3 : Int32) (a4 : Int32) (a5 : Int32), k6 x a2 a3 a4 a5 = some R → V C 6 [(0, .ref (K.1 + 48)), (2, .int a2), (3, .int a3), (4, .int a4), (5, .int a5)] [] (xf K x y) 0 0) (h : f_X2_sew_64 k6 x a2 a3 a4 a5 = some R) (F : Fx C RX2 cX2_sew 6 rm_X2_sew K) (E : CE C (xf K R y) none 0 0 none) : V C 64 [(0, .ref (K.1 + 48)), (2, .int a2), (3, .int a3), (4, .int a4), (5, .int a5)] [] (xf K x y) 0 0 := by
  unfold f_X2_sew_64 at h
  refine v_iinc F (v := a5 + 1) (ls' := [(5, .int (a5 + 1)), (0, .ref (K.1 + 48)), (2, .int a2), (3, .int a3), (4, .int a4)]) (dq dkX2_sew_0 32 rfl) (j := 4) rfl (kv_add ki_1) (by decide) rfl ?_
  refine v_goto F (tgt := 6) (dq dkX2_sew_0 33 rfl) (by decide) ?_
  refine v_sub [1, 2, 3, 4, 0] rfl ?_
  exact hk6 x a2 a3 a4 (a5 + 1) h
def f_X2_sew_6 : Nat → CS → Int32 → Int32 → Int32 → Int32 → Option (CS)
  | 0, _, _, _, _, _ => none
  | n + 1, x, a2, a3, a4, a5 => if a2 < a5 then (some x) else (if (b2i (f_X10_isSection a5)) = 0 then (some x) else (if a3 ≤ a4 then (f_X2_sew_64 (f_X2_sew_6 n) x a2 a3 a4 a5) else (if (b2i (f_X2_isBroken x a5)) = 0 then (f_X2_sew_64 (f_X2_sew_6 n) x a2 a3 a4 a5) else (gd (ib a5 9) (if (gi x 50 a5.toNatClampNeg) ≤ 0 then (f_X2_sew_64 (f_X2_sew_6 n) x a2 a3 a4 a5) else (f_X2_sew_64 (f_X2_sew_6 n) (pi x 48 6 ((gi x 48 6) &&& ((f_X2_bit a5) ^^^ (-1)))) a2 a3 (a4 + 1) a5))))))
set_option maxRecDepth 100000 in
set_option maxHeartbeats 4000000 in
theorem t_X2_sew_6 {C : Cx} {K : KE} {y : MS} {R : CS}  (F : Fx C RX2 cX2_sew 6 rm_X2_sew K) (E : CE C (xf K R y) none 0 0 none) : ∀ (n : Nat) (x : CS) (a2 : Int32) (a3 : Int32) (a4 : Int32) (a5 : Int32) (h : f_X2_sew_6 n x a2 a3 a4 a5 = some R), V C 6 [(0, .ref (K.1 + 48)), (2, .int a2), (3, .int a3), (4, .int a4), (5, .int a5)] [] (xf K x y) 0 0 := by
  intro n
  induction n with
  | zero => intro x a2 a3 a4 a5 h; cases h
  | succ n ih =>
    intro x a2 a3 a4 a5 h
    rw [f_X2_sew_6] at h
    refine v_iload F (dq dkX2_sew_0 4 rfl) 4 rfl ?_
    refine v_iload_n F (dq dkX2_sew_0 5 rfl) rfl 1 rfl ?_
    refine v_icmp_gt F (tgt := 70) (dq dkX2_sew_0 6 rfl) (by decide) (fun c1 => ?_) (fun c1 => ?_)
    · rw [if_pos c1] at h
      cases h
      exact v_vret F E (dq dkX2_sew_0 34 rfl)
    · rw [if_neg c1] at h
      refine v_iload F (dq dkX2_sew_0 7 rfl) 4 rfl ?_
      refine v_callSN 1 F (as := [.int a5]) (st := []) (st1 := (.int (b2i (f_X10_isSection a5)) :: [])) (res := (some (.int (b2i (f_X10_isSection a5))))) (c_X10_isSection (l := C.2.1) a5) (List.mem_of_getElem? (i := 9) rfl) (tc14 _ (List.mem_of_getElem? (i := 1) rfl)) (tc1 _ (List.mem_of_getElem? (i := 2) rfl)) (tc14 _ (List.mem_of_getElem? (i := 2) rfl)) (by decide) rfl ⟨rfl, rfl, Nat.le_of_ble_eq_true rfl, Nat.le_of_ble_eq_true rfl⟩ ⟨Nat.le_of_ble_eq_true rfl, Nat.le_of_ble_eq_true rfl⟩ rfl (Nat.le_of_ble_eq_true rfl) rfl rfl rfl (dq dkX2_sew_0 8 rfl) ?_
      refine v_if_eq F (tgt := 70) (dq dkX2_sew_0 9 rfl) (by decide) (fun c3 => ?_) (fun c3 => ?_)
      · rw [if_pos c3] at h
        cases h
        exact v_vret F E (dq dkX2_sew_0 34 rfl)
      · rw [if_neg c3] at h
        refine v_iload F (dq dkX2_sew_0 10 rfl) 3 rfl ?_
        refine v_iload_n F (dq dkX2_sew_0 11 rfl) rfl 2 rfl ?_
        refine v_icmp_ge F (tgt := 64) (dq dkX2_sew_0 12 rfl) (by decide) (fun c4 => ?_) (fun c4 => ?_)
        · rw [if_pos c4] at h
          exact t_X2_sew_64 (f_X2_sew_6 n) x a2 a3 a4 a5 ih h F E
        · rw [if_neg c4] at h
          refine v_aload_n F (dq dkX2_sew_0 13 rfl) rfl 0 rfl ?_
          refine v_iload F (dq dkX2_sew_0 14 rfl) 4 rfl ?_
          refine v_callV 1 F (q := 48) (as := [.int a5]) (st := []) (st1 := (.int (b2i (f_X2_isBroken x a5)) :: [])) (res := (some (.int (b2i (f_X2_isBroken x a5))))) (c_X2_isBroken (l := C.2.1) x y a5) (xn (by decide)) xc_48 rfl (tc27 _ (List.mem_of_getElem? (i := 0) rfl)) (tc27 _ (List.mem_of_getElem? (i := 1) rfl)) (tc27 _ (List.mem_of_getElem? (i := 2) rfl)) (tc2 _ (List.mem_of_getElem? (i := 19) rfl)) (tc27 _ (List.mem_of_getElem? (i := 3) rfl)) (by decide) rfl ⟨rfl, rfl, Nat.le_of_ble_eq_true rfl, Nat.le_of_ble_eq_true rfl⟩ ⟨Nat.le_of_ble_eq_true rfl, Nat.le_of_ble_eq_true rfl⟩ rfl (Nat.le_of_ble_eq_true rfl) rfl rfl rfl (dq dkX2_sew_0 15 rfl) ?_
          refine v_if_eq F (tgt := 64) (dq dkX2_sew_0 16 rfl) (by decide) (fun c6 => ?_) (fun c6 => ?_)
          · rw [if_pos c6] at h
            exact t_X2_sew_64 (f_X2_sew_6 n) x a2 a3 a4 a5 ih h F E
          · rw [if_neg c6] at h
            refine v_aload_n F (dq dkX2_sew_0 17 rfl) rfl 0 rfl ?_
            refine v_get F 48 (xn (by decide)) xc_48 rfl inlX2 3 (by decide) (tc5 _ (List.mem_of_getElem? (i := 1) rfl)) rfl rfl (dq dkX2_sew_0 18 rfl) ?_
            refine v_iload F (dq dkX2_sew_0 19 rfl) 4 rfl ?_
            obtain ⟨g7, h⟩ := gd_of h
            refine v_iald F 50 (xn (by decide)) xc_50 (ib_in g7) (dq dkX2_sew_0 20 rfl) ?_
            refine v_if_le F (tgt := 64) (dq dkX2_sew_0 21 rfl) (by decide) (fun c8 => ?_) (fun c8 => ?_)
            · rw [if_pos c8] at h
              exact t_X2_sew_64 (f_X2_sew_6 n) x a2 a3 a4 a5 ih h F E
            · rw [if_neg c8] at h
              refine v_aload_n F (dq dkX2_sew_0 22 rfl) rfl 0 rfl ?_
              refine v_dup F (dq dkX2_sew_0 23 rfl) rfl ?_
              refine v_get F 48 (xn (by decide)) xc_48 rfl inlX2 6 (by decide) (tc5 _ (List.mem_of_getElem? (i := 4) rfl)) rfl rfl (dq dkX2_sew_0 24 rfl) ?_
              refine v_iload F (dq dkX2_sew_0 25 rfl) 4 rfl ?_
              refine v_callS 1 F (as := [.int a5]) (st := [.int (gi x 48 6), .ref (K.1 + 48)]) (st1 := (.int (f_X2_bit a5) :: [.int (gi x 48 6), .ref (K.1 + 48)])) (res := (some (.int (f_X2_bit a5)))) (c_X2_bit (l := C.2.1) a5) (tc26 _ (List.mem_of_getElem? (i := 4) rfl)) (tc26 _ (List.mem_of_getElem? (i := 5) rfl)) (tc2 _ (List.mem_of_getElem? (i := 19) rfl)) (tc26 _ (List.mem_of_getElem? (i := 6) rfl)) (by decide) rfl ⟨rfl, rfl, Nat.le_of_ble_eq_true rfl, Nat.le_of_ble_eq_true rfl⟩ ⟨Nat.le_of_ble_eq_true rfl, Nat.le_of_ble_eq_true rfl⟩ rfl (Nat.le_of_ble_eq_true rfl) rfl rfl rfl (dq dkX2_sew_0 26 rfl) ?_
              refine v_iconst F (v := (-1)) (dq dkX2_sew_0 27 rfl) ki_m1 ?_
              refine v_ixor F (dq dkX2_sew_0 28 rfl) ?_
              refine v_iand F (dq dkX2_sew_0 29 rfl) ?_
              refine v_put F 48 (xn (by decide)) xc_48 rfl inlX2 tyX2_ok nmX2 6 (by decide) (tc5 _ (List.mem_of_getElem? (i := 4) rfl)) rfl rfl (tyX2_ok 6 (by decide)) rfl rfl (Nat.le_of_ble_eq_true rfl) (dq dkX2_sew_0 30 rfl) ?_
              refine v_eqM (xwC (q := 48) (j := 6) (v := (gi x 48 6) &&& ((f_X2_bit a5) ^^^ (-1))) (by decide) rfl) ?_
              refine v_iinc F (v := a4 + 1) (ls' := [(4, .int (a4 + 1)), (0, .ref (K.1 + 48)), (2, .int a2), (3, .int a3), (5, .int a5)]) (dq dkX2_sew_0 31 rfl) (j := 3) rfl (kv_add ki_1) (by decide) rfl ?_
              refine v_sub [1, 2, 3, 0, 4] rfl ?_
              exact t_X2_sew_64 (f_X2_sew_6 n) (pi x 48 6 ((gi x 48 6) &&& ((f_X2_bit a5) ^^^ (-1)))) a2 a3 (a4 + 1) a5 ih h F E
def f_X2_sew (x : CS) (a1 : Int32) (a2 : Int32) (a3 : Int32) : Option (CS) := f_X2_sew_6 1000 x a2 a3 0 a1
set_option maxRecDepth 100000 in
set_option maxHeartbeats 4000000 in
theorem c_X2_sew {K : KE} {l : Launch} {R : CS} (x : CS) (y : MS) (a1 : Int32) (a2 : Int32) (a3 : Int32) (h : f_X2_sew x a1 a2 a3 = some R) : MC K l yX2_sew cX2_sew 6 none rm_X2_sew 0 0 [.ref (K.1 + 48), .int a1, .int a2, .int a3] (xf K x y) (xf K R y) none := by
  refine mc_of (ls0 := [(0, .ref (K.1 + 48)), (1, .int a1), (2, .int a2), (3, .int a3)]) (by decide) (Nat.le_of_ble_eq_true rfl) rfl (fun C hl F E => ?_)
  have F : Fx C RX2 cX2_sew 6 rm_X2_sew K := F
  unfold f_X2_sew at h
  refine v_iconst F (v := 0) (dq dkX2_sew_0 0 rfl) ki_0 ?_
  refine v_istore F (ls' := [(4, .int 0), (0, .ref (K.1 + 48)), (1, .int a1), (2, .int a2), (3, .int a3)]) (dq dkX2_sew_0 1 rfl) (by decide) rfl ?_
  refine v_iload_n F (dq dkX2_sew_0 2 rfl) rfl 2 rfl ?_
  refine v_istore F (ls' := [(5, .int a1), (4, .int 0), (0, .ref (K.1 + 48)), (1, .int a1), (2, .int a2), (3, .int a3)]) (dq dkX2_sew_0 3 rfl) (by decide) rfl ?_
  refine v_sub [2, 4, 5, 1, 0] rfl ?_
  exact t_X2_sew_6 F E 1000 x a2 a3 0 a1 h
