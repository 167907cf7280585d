def rm_X5_takes : Room := { frames := 1, cells := 0, slots := 0, locals := 30 }
def f_X5_takes (a0 : Int32) : Int32 := if a0 ≤ (-10) then (if a0 < (-11) then 2 else 1) else 0
set_option maxRecDepth 100000 in
set_option maxHeartbeats 4000000 in
theorem c_X5_takes {K : KE} {l : Launch} {M : GM} (a0 : Int32) : MC K l yX5_takes cX5_takes 1 (some .int) rm_X5_takes 0 0 [.int a0] M M (some (.int (f_X5_takes a0))) := by
  obtain ⟨R, h⟩ : ∃ R, f_X5_takes a0 = R := ⟨_, rfl⟩
  rw [h]
  unfold f_X5_takes at h
  refine mc_of (ls0 := [(0, .int a0)]) (by decide) (Nat.le_of_ble_eq_true rfl) rfl (fun C hl hnm F E => ?_)
  have F : Fx C RX5 cX5_takes 1 rm_X5_takes K := F
  refine v_iload_n F (dq dkX5_takes_0 0 rfl) rfl 0 rfl ?_
  refine v_bipush F (v := (-10)) (dq dkX5_takes_0 1 rfl) kb_m10 ?_
  refine v_icmp_le F (tgt := 8) (dq dkX5_takes_0 2 rfl) (by decide) (fun c1 => ?_) (fun c1 => ?_)
  · rw [if_pos c1] at h
    refine v_iload_n F (dq dkX5_takes_0 5 rfl) rfl 0 rfl ?_
    refine v_bipush F (v := (-11)) (dq dkX5_takes_0 6 rfl) kb_m11 ?_
    refine v_icmp_lt F (tgt := 18) (dq dkX5_takes_0 7 rfl) (by decide) (fun c2 => ?_) (fun c2 => ?_)
    · rw [if_pos c2] at h
      refine v_iconst F (v := 2) (dq dkX5_takes_0 10 rfl) ki_2 ?_
      subst h
      exact v_iret F E (dq dkX5_takes_0 11 rfl)
    · rw [if_neg c2] at h
      refine v_iconst F (v := 1) (dq dkX5_takes_0 8 rfl) ki_1 ?_
      refine v_goto F (tgt := 19) (dq dkX5_takes_0 9 rfl) (by decide) ?_
      subst h
      exact v_iret F E (dq dkX5_takes_0 11 rfl)
  · rw [if_neg c1] at h
    refine v_iconst F (v := 0) (dq dkX5_takes_0 3 rfl) ki_0 ?_
    subst h
    exact v_iret F E (dq dkX5_takes_0 4 rfl)
def rm_X3_answer : Room := { frames := 2, cells := 0, slots := 0, locals := 54 }
def f_X3_answer_21 (x : CS) : Option (Int32 × CS) := some (0, x)
set_option maxRecDepth 100000 in
set_option maxHeartbeats 4000000 in
theorem t_X3_answer_21 {C : Cx} {K : KE} {y : MS} {R : Int32 × CS}  (x : CS) (h : f_X3_answer_21 x = some R) (F : Fx C RX3 cX3_answer 12 rm_X3_answer K) (E : CE C (xf K R.2 y) (some (.int R.1)) 0 0 (some .int)) : V C 21 [] [] (xf K x y) 0 0 := by
  unfold f_X3_answer_21 at h
  refine v_iconst F (v := 0) (dq dkX3_answer_0 11 rfl) ki_0 ?_
  have h := Option.some.inj h
  subst h
  exact v_iret F E (dq dkX3_answer_0 12 rfl)
def f_X3_answer_216 (x : CS) (s0 : Int32) (s1 : Int32) (s2 : Int32) : Option (Int32 × CS) := some (if s2 < (if s0 < s1 then s0 else s1) then (if s0 < s1 then s0 else s1) else s2, x)
set_option maxRecDepth 100000 in
set_option maxHeartbeats 4000000 in
theorem t_X3_answer_216 {C : Cx} {K : KE} {y : MS} {R : Int32 × CS}  (x : CS) (s0 : Int32) (s1 : Int32) (s2 : Int32) (h : f_X3_answer_216 x s0 s1 s2 = some R) (F : Fx C RX3 cX3_answer 12 rm_X3_answer K) (E : CE C (xf K R.2 y) (some (.int R.1)) 0 0 (some .int)) : V C 216 [] [.int s0, .int s1, .int s2] (xf K x y) 0 0 := by
  unfold f_X3_answer_216 at h
  refine v_mmin F (tc20 _ (List.mem_of_getElem? (i := 23) rfl)) (tc21 _ (List.mem_of_getElem? (i := 0) rfl)) (tc21 _ (List.mem_of_getElem? (i := 1) rfl)) (tc21 _ (List.mem_of_getElem? (i := 2) rfl)) (Nat.le_of_ble_eq_true rfl) (Nat.le_of_ble_eq_true rfl) (Nat.le_of_ble_eq_true rfl) (Nat.le_of_ble_eq_true rfl) (dq dkX3_answer_3 2 rfl) ?_
  refine v_mmax F (tc21 _ (List.mem_of_getElem? (i := 3) rfl)) (tc21 _ (List.mem_of_getElem? (i := 4) rfl)) (tc21 _ (List.mem_of_getElem? (i := 1) rfl)) (tc21 _ (List.mem_of_getElem? (i := 5) rfl)) (Nat.le_of_ble_eq_true rfl) (Nat.le_of_ble_eq_true rfl) (Nat.le_of_ble_eq_true rfl) (Nat.le_of_ble_eq_true rfl) (dq dkX3_answer_3 3 rfl) ?_
  have h := Option.some.inj h
  subst h
  exact v_iret F E (dq dkX3_answer_3 4 rfl)
def f_X3_answer_119 (x : CS) : Option (Int32 × CS) := some (0, x)
set_option maxRecDepth 100000 in
set_option maxHeartbeats 4000000 in
theorem t_X3_answer_119 {C : Cx} {K : KE} {y : MS} {R : Int32 × CS}  (x : CS) (h : f_X3_answer_119 x = some R) (F : Fx C RX3 cX3_answer 12 rm_X3_answer K) (E : CE C (xf K R.2 y) (some (.int R.1)) 0 0 (some .int)) : V C 119 [] [] (xf K x y) 0 0 := by
  unfold f_X3_answer_119 at h
  refine v_iconst F (v := 0) (dq dkX3_answer_1 28 rfl) ki_0 ?_
  have h := Option.some.inj h
  subst h
  exact v_iret F E (dq dkX3_answer_1 29 rfl)
def f_X3_answer_161 (k81 : CS → Int32 → Nat → Nat → Int32 → Int32 → Int32 → Option (Int32 × CS)) (x : CS) (a2 : Int32) (a3 : Nat) (a4 : Nat) (a5 : Int32) (a6 : Int32) (a7 : Int32) (a8 : Int32) (a9 : Int32) (a10 : Int32) (s0 : Int32) : Option (Int32 × CS) := (f_X5_result x a8 a10 s0 a3).bind fun r1 => gd (ib ((a6 + (1 - a9)) - 1) 160) (k81 (pi x 25 (((a6 + (1 - a9)) - 1).toNatClampNeg) r1) a2 a3 a4 a5 (a6 + (1 - a9)) (a7 + 1))
set_option maxRecDepth 100000 in
set_option maxHeartbeats 4000000 in
theorem t_X3_answer_161 {C : Cx} {K : KE} {y : MS} {R : Int32 × CS}  (k81 : CS → Int32 → Nat → Nat → Int32 → Int32 → Int32 → Option (Int32 × CS)) (x : CS) (a2 : Int32) (a3 : Nat) (a4 : Nat) (a5 : Int32) (a6 : Int32) (a7 : Int32) (a8 : Int32) (a9 : Int32) (a10 : Int32) (s0 : Int32) (hk81 : ∀ (x : CS) (a2 : Int32) (a3 : Nat) (a4 : Nat) (a5 : Int32) (a6 : Int32) (a7 : Int32), k81 x a2 a3 a4 a5 a6 a7 = some R → V C 81 [(0, .ref (K.1 + 10)), (2, .int a2), (3, .ref (K.1 + a3)), (4, .ref (K.1 + a4)), (5, .int a5), (6, .int a6), (7, .int a7)] [] (xf K x y) 0 0) (h : f_X3_answer_161 k81 x a2 a3 a4 a5 a6 a7 a8 a9 a10 s0 = some R) (F : Fx C RX3 cX3_answer 12 rm_X3_answer K) (E : CE C (xf K R.2 y) (some (.int R.1)) 0 0 (some .int)) : V C 161 [(0, .ref (K.1 + 10)), (2, .int a2), (3, .ref (K.1 + a3)), (4, .ref (K.1 + a4)), (5, .int a5), (6, .int a6), (7, .int a7), (8, .int a8), (9, .int a9), (10, .int a10)] [.int s0] (xf K x y) 0 0 := by
  unfold f_X3_answer_161 at h
  refine v_istore F (ls' := [(11, .int s0), (0, .ref (K.1 + 10)), (2, .int a2), (3, .ref (K.1 + a3)), (4, .ref (K.1 + a4)), (5, .int a5), (6, .int a6), (7, .int a7), (8, .int a8), (9, .int a9), (10, .int a10)]) (dq dkX3_answer_2 12 rfl) (by decide) rfl ?_
  refine v_iload F (dq dkX3_answer_2 13 rfl) 6 rfl ?_
  refine v_iconst F (v := 1) (dq dkX3_answer_2 14 rfl) ki_1 ?_
  refine v_iload F (dq dkX3_answer_2 15 rfl) 9 rfl ?_
  refine v_isub F (dq dkX3_answer_2 16 rfl) ?_
  refine v_iadd F (dq dkX3_answer_2 17 rfl) ?_
  refine v_istore F (ls' := [(6, .int (a6 + (1 - a9))), (11, .int s0), (0, .ref (K.1 + 10)), (2, .int a2), (3, .ref (K.1 + a3)), (4, .ref (K.1 + a4)), (5, .int a5), (7, .int a7), (8, .int a8), (9, .int a9), (10, .int a10)]) (dq dkX3_answer_2 18 rfl) (by decide) rfl ?_
  refine v_aload_n F (dq dkX3_answer_2 19 rfl) rfl 2 rfl ?_
  refine v_get F 10 (xn (by decide)) xc_10 rfl inlX3 2 (by decide) (tc3 _ (List.mem_of_getElem? (i := 15) rfl)) rfl rfl (dq dkX3_answer_2 20 rfl) ?_
  refine v_iload F (dq dkX3_answer_2 21 rfl) 0 rfl ?_
  refine v_iconst F (v := 1) (dq dkX3_answer_2 22 rfl) ki_1 ?_
  refine v_isub F (dq dkX3_answer_2 23 rfl) ?_
  refine v_iload F (dq dkX3_answer_2 24 rfl) 8 rfl ?_
  refine v_iload F (dq dkX3_answer_2 25 rfl) 10 rfl ?_
  refine v_iload F (dq dkX3_answer_2 26 rfl) 1 rfl ?_
  refine v_aload_n F (dq dkX3_answer_2 27 rfl) rfl 4 rfl ?_
  obtain ⟨r1, e2, h⟩ := bd_of h
  refine v_callS 4 F (kc1 := 0) (ks1 := 0) (as := [.int a8, .int a10, .int s0, .ref (K.1 + a3)]) (st := [.int ((a6 + (1 - a9)) - 1), .ref (K.1 + 25)]) (st1 := (.int r1 :: [.int ((a6 + (1 - a9)) - 1), .ref (K.1 + 25)])) (res := (some (.int r1))) (c_X5_result (l := C.2.1) x y a8 a10 s0 a3 e2) (tc21 _ (List.mem_of_getElem? (i := 10) rfl)) (tc21 _ (List.mem_of_getElem? (i := 11) rfl)) (tc21 _ (List.mem_of_getElem? (i := 8) rfl)) (tc21 _ (List.mem_of_getElem? (i := 12) rfl)) (by decide) rfl ⟨rfl, rfl, Nat.le_of_ble_eq_true rfl, Nat.le_of_ble_eq_true rfl⟩ ⟨Nat.le_of_ble_eq_true rfl, Nat.le_of_ble_eq_true rfl⟩ rfl (Nat.le_of_ble_eq_true rfl) rfl rfl rfl (dq dkX3_answer_2 28 rfl) ?_
  obtain ⟨g3, h⟩ := gd_of h
  refine v_iast F 25 (xn (by decide)) xc_25 (ib_in g3) (dq dkX3_answer_2 29 rfl) ?_
  refine v_eqM (xwC (q := 25) (j := ((a6 + (1 - a9)) - 1).toNatClampNeg) (v := r1) (by decide) rfl) ?_
  refine v_iinc F (v := a7 + 1) (ls' := [(7, .int (a7 + 1)), (6, .int (a6 + (1 - a9))), (11, .int s0), (0, .ref (K.1 + 10)), (2, .int a2), (3, .ref (K.1 + a3)), (4, .ref (K.1 + a4)), (5, .int a5), (8, .int a8), (9, .int a9), (10, .int a10)]) (dq dkX3_answer_2 30 rfl) (j := 7) rfl (kv_add ki_1) (by decide) rfl ?_
  refine v_goto F (tgt := 81) (dq dkX3_answer_2 31 rfl) (by decide) ?_
  refine v_sub [3, 4, 5, 6, 7, 1, 0] rfl ?_
  exact hk81 (pi x 25 (((a6 + (1 - a9)) - 1).toNatClampNeg) r1) a2 a3 a4 a5 (a6 + (1 - a9)) (a7 + 1) h
def f_X3_answer_140 (k81 : CS → Int32 → Nat → Nat → Int32 → Int32 → Int32 → Option (Int32 × CS)) (x : CS) (a2 : Int32) (a3 : Nat) (a4 : Nat) (a5 : Int32) (a6 : Int32) (a7 : Int32) (a8 : Int32) (a9 : Int32) (s0 : Int32) : Option (Int32 × CS) := if a9 ≤ 1 then (f_X3_answer_161 k81 x a2 a3 a4 a5 a6 a7 a8 a9 s0 0) else (gd (ib (a6 - 1) 160) (f_X3_answer_161 k81 x a2 a3 a4 a5 a6 a7 a8 a9 s0 (gi x 25 (a6 - 1).toNatClampNeg)))
set_option maxRecDepth 100000 in
set_option maxHeartbeats 4000000 in
theorem t_X3_answer_140 {C : Cx} {K : KE} {y : MS} {R : Int32 × CS}  (k81 : CS → Int32 → Nat → Nat → Int32 → Int32 → Int32 → Option (Int32 × CS)) (x : CS) (a2 : Int32) (a3 : Nat) (a4 : Nat) (a5 : Int32) (a6 : Int32) (a7 : Int32) (a8 : Int32) (a9 : Int32) (s0 : Int32) (hk81 : ∀ (x : CS) (a2 : Int32) (a3 : Nat) (a4 : Nat) (a5 : Int32) (a6 : Int32) (a7 : Int32), k81 x a2 a3 a4 a5 a6 a7 = some R → V C 81 [(0, .ref (K.1 + 10)), (2, .int a2), (3, .ref (K.1 + a3)), (4, .ref (K.1 + a4)), (5, .int a5), (6, .int a6), (7, .int a7)] [] (xf K x y) 0 0) (h : f_X3_answer_140 k81 x a2 a3 a4 a5 a6 a7 a8 a9 s0 = some R) (F : Fx C RX3 cX3_answer 12 rm_X3_answer K) (E : CE C (xf K R.2 y) (some (.int R.1)) 0 0 (some .int)) : V C 140 [(0, .ref (K.1 + 10)), (2, .int a2), (3, .ref (K.1 + a3)), (4, .ref (K.1 + a4)), (5, .int a5), (6, .int a6), (7, .int a7), (8, .int a8), (9, .int a9)] [.int s0] (xf K x y) 0 0 := by
  unfold f_X3_answer_140 at h
  refine v_istore F (ls' := [(10, .int s0), (0, .ref (K.1 + 10)), (2, .int a2), (3, .ref (K.1 + a3)), (4, .ref (K.1 + a4)), (5, .int a5), (6, .int a6), (7, .int a7), (8, .int a8), (9, .int a9)]) (dq dkX3_answer_2 0 rfl) (by decide) rfl ?_
  refine v_iload F (dq dkX3_answer_2 1 rfl) 9 rfl ?_
  refine v_iconst F (v := 1) (dq dkX3_answer_2 2 rfl) ki_1 ?_
  refine v_icmp_le F (tgt := 160) (dq dkX3_answer_2 3 rfl) (by decide) (fun c4 => ?_) (fun c4 => ?_)
  · rw [if_pos c4] at h
    refine v_iconst F (v := 0) (dq dkX3_answer_2 11 rfl) ki_0 ?_
    refine v_sub [1, 2, 3, 4, 5, 6, 7, 8, 9, 0] rfl ?_
    exact t_X3_answer_161 k81 x a2 a3 a4 a5 a6 a7 a8 a9 s0 0 hk81 h F E
  · rw [if_neg c4] at h
    refine v_aload_n F (dq dkX3_answer_2 4 rfl) rfl 1 rfl ?_
    refine v_get F 10 (xn (by decide)) xc_10 rfl inlX3 2 (by decide) (tc3 _ (List.mem_of_getElem? (i := 15) rfl)) rfl rfl (dq dkX3_answer_2 5 rfl) ?_
    refine v_iload F (dq dkX3_answer_2 6 rfl) 6 rfl ?_
    refine v_iconst F (v := 1) (dq dkX3_answer_2 7 rfl) ki_1 ?_
    refine v_isub F (dq dkX3_answer_2 8 rfl) ?_
    obtain ⟨g5, h⟩ := gd_of h
    refine v_iald F 25 (xn (by decide)) xc_25 (ib_in g5) (dq dkX3_answer_2 9 rfl) ?_
    refine v_goto F (tgt := 161) (dq dkX3_answer_2 10 rfl) (by decide) ?_
    refine v_sub [1, 2, 3, 4, 5, 6, 7, 8, 9, 0] rfl ?_
    exact t_X3_answer_161 k81 x a2 a3 a4 a5 a6 a7 a8 a9 s0 (gi x 25 (a6 - 1).toNatClampNeg) hk81 h F E
def f_X3_answer_81 : Nat → CS → Int32 → Nat → Nat → Int32 → Int32 → Int32 → Option (Int32 × CS)
  | 0, _, _, _, _, _, _, _ => none
  | n + 1, x, a2, a3, a4, a5, a6, a7 => if a5 ≤ a7 then (if a2 = 0 then (f_X3_answer_216 x 9 (gi x 25 (0 : Int32).toNatClampNeg) 0) else (f_X3_answer_216 x 999 (gi x 25 (0 : Int32).toNatClampNeg) 0)) else (gd (ib a7 (al a4)) (if a6 < (f_X5_takes (gi x a4 a7.toNatClampNeg)) then (f_X3_answer_119 x) else (if a6 < 160 then (if (f_X5_takes (gi x a4 a7.toNatClampNeg)) ≤ 0 then (f_X3_answer_140 (f_X3_answer_81 n) x a2 a3 a4 a5 a6 a7 (gi x a4 a7.toNatClampNeg) (f_X5_takes (gi x a4 a7.toNatClampNeg)) 0) else (gd (ib (a6 - (f_X5_takes (gi x a4 a7.toNatClampNeg))) 160) (f_X3_answer_140 (f_X3_answer_81 n) x a2 a3 a4 a5 a6 a7 (gi x a4 a7.toNatClampNeg) (f_X5_takes (gi x a4 a7.toNatClampNeg)) (gi x 25 (a6 - (f_X5_takes (gi x a4 a7.toNatClampNeg))).toNatClampNeg)))) else (f_X3_answer_119 x))))
set_option maxRecDepth 100000 in
set_option maxHeartbeats 4000000 in
theorem t_X3_answer_81 {C : Cx} {K : KE} {y : MS} {R : Int32 × CS}  (F : Fx C RX3 cX3_answer 12 rm_X3_answer K) (E : CE C (xf K R.2 y) (some (.int R.1)) 0 0 (some .int)) : ∀ (n : Nat) (x : CS) (a2 : Int32) (a3 : Nat) (a4 : Nat) (a5 : Int32) (a6 : Int32) (a7 : Int32) (h : f_X3_answer_81 n x a2 a3 a4 a5 a6 a7 = some R), V C 81 [(0, .ref (K.1 + 10)), (2, .int a2), (3, .ref (K.1 + a3)), (4, .ref (K.1 + a4)), (5, .int a5), (6, .int a6), (7, .int a7)] [] (xf K x y) 0 0 := by
  intro n
  induction n with
  | zero => intro x a2 a3 a4 a5 a6 a7 h; cases h
  | succ n ih =>
    intro x a2 a3 a4 a5 a6 a7 h
    rw [f_X3_answer_81] at h
    refine v_iload F (dq dkX3_answer_1 10 rfl) 6 rfl ?_
    refine v_iload F (dq dkX3_answer_1 11 rfl) 4 rfl ?_
    refine v_icmp_ge F (tgt := 197) (dq dkX3_answer_1 12 rfl) (by decide) (fun c6 => ?_) (fun c6 => ?_)
    · rw [if_pos c6] at h
      refine v_iconst F (v := 0) (dq dkX3_answer_2 32 rfl) ki_0 ?_
      refine v_aload_n F (dq dkX3_answer_2 33 rfl) rfl 0 rfl ?_
      refine v_get F 10 (xn (by decide)) xc_10 rfl inlX3 2 (by decide) (tc3 _ (List.mem_of_getElem? (i := 15) rfl)) rfl rfl (dq dkX3_answer_2 34 rfl) ?_
      refine v_iconst F (v := 0) (dq dkX3_answer_2 35 rfl) ki_0 ?_
      refine v_iald F 25 (xn (by decide)) xc_25 (ib_in (by decide)) (dq dkX3_answer_2 36 rfl) ?_
      refine v_iload_n F (dq dkX3_answer_2 37 rfl) rfl 1 rfl ?_
      refine v_if_ne F (tgt := 213) (dq dkX3_answer_2 38 rfl) (by decide) (fun c7 => ?_) (fun c7 => ?_)
      · rw [if_neg c7] at h
        refine v_sipush F (v := 999) (dq dkX3_answer_3 1 rfl) ks_999 ?_
        refine v_sub [] rfl ?_
        exact t_X3_answer_216 x 999 (gi x 25 (0 : Int32).toNatClampNeg) 0 h F E
      · rw [if_pos c7] at h
        refine v_bipush F (v := 9) (dq dkX3_answer_2 39 rfl) kb_9 ?_
        refine v_goto F (tgt := 216) (dq dkX3_answer_3 0 rfl) (by decide) ?_
        refine v_sub [] rfl ?_
        exact t_X3_answer_216 x 9 (gi x 25 (0 : Int32).toNatClampNeg) 0 h F E
    · rw [if_neg c6] at h
      refine v_aload F (dq dkX3_answer_1 13 rfl) 3 rfl ?_
      refine v_iload F (dq dkX3_answer_1 14 rfl) 6 rfl ?_
      obtain ⟨g8, h⟩ := gd_of h
      refine v_iald F a4 (xa_lt g8) (xa_at g8) (ib_in g8) (dq dkX3_answer_1 15 rfl) ?_
      refine v_istore F (ls' := [(8, .int (gi x a4 a7.toNatClampNeg)), (0, .ref (K.1 + 10)), (2, .int a2), (3, .ref (K.1 + a3)), (4, .ref (K.1 + a4)), (5, .int a5), (6, .int a6), (7, .int a7)]) (dq dkX3_answer_1 16 rfl) (by decide) rfl ?_
      refine v_iload F (dq dkX3_answer_1 17 rfl) 0 rfl ?_
      refine v_callS 1 F (kc1 := 0) (ks1 := 0) (as := [.int (gi x a4 a7.toNatClampNeg)]) (st := []) (st1 := (.int (f_X5_takes (gi x a4 a7.toNatClampNeg)) :: [])) (res := (some (.int (f_X5_takes (gi x a4 a7.toNatClampNeg))))) (c_X5_takes (l := C.2.1) (gi x a4 a7.toNatClampNeg)) (tc21 _ (List.mem_of_getElem? (i := 6) rfl)) (tc21 _ (List.mem_of_getElem? (i := 7) rfl)) (tc21 _ (List.mem_of_getElem? (i := 8) rfl)) (tc21 _ (List.mem_of_getElem? (i := 9) rfl)) (by decide) rfl ⟨rfl, rfl, Nat.le_of_ble_eq_true rfl, Nat.le_of_ble_eq_true rfl⟩ ⟨Nat.le_of_ble_eq_true rfl, Nat.le_of_ble_eq_true rfl⟩ rfl (Nat.le_of_ble_eq_true rfl) rfl rfl rfl (dq dkX3_answer_1 18 rfl) ?_
      refine v_istore F (ls' := [(9, .int (f_X5_takes (gi x a4 a7.toNatClampNeg))), (8, .int (gi x a4 a7.toNatClampNeg)), (0, .ref (K.1 + 10)), (2, .int a2), (3, .ref (K.1 + a3)), (4, .ref (K.1 + a4)), (5, .int a5), (6, .int a6), (7, .int a7)]) (dq dkX3_answer_1 19 rfl) (by decide) rfl ?_
      refine v_iload F (dq dkX3_answer_1 20 rfl) 0 rfl ?_
      refine v_iload F (dq dkX3_answer_1 21 rfl) 7 rfl ?_
      refine v_icmp_gt F (tgt := 119) (dq dkX3_answer_1 22 rfl) (by decide) (fun c10 => ?_) (fun c10 => ?_)
      · rw [if_pos c10] at h
        refine v_sub [] rfl ?_
        exact t_X3_answer_119 x h F E
      · rw [if_neg c10] at h
        refine v_iload F (dq dkX3_answer_1 23 rfl) 7 rfl ?_
        refine v_aload_n F (dq dkX3_answer_1 24 rfl) rfl 2 rfl ?_
        refine v_get F 10 (xn (by decide)) xc_10 rfl inlX3 2 (by decide) (tc3 _ (List.mem_of_getElem? (i := 15) rfl)) rfl rfl (dq dkX3_answer_1 25 rfl) ?_
        refine v_alen F 25 (xn (by decide)) xc_25 (t := 0) rfl (n := 160) rfl (dq dkX3_answer_1 26 rfl) ?_
        refine v_icmp_lt F (tgt := 121) (dq dkX3_answer_1 27 rfl) (by decide) (fun c11 => ?_) (fun c11 => ?_)
        · rw [if_pos c11] at h
          refine v_iload F (dq dkX3_answer_1 30 rfl) 0 rfl ?_
          refine v_if_le F (tgt := 139) (dq dkX3_answer_1 31 rfl) (by decide) (fun c12 => ?_) (fun c12 => ?_)
          · rw [if_pos c12] at h
            refine v_iconst F (v := 0) (dq dkX3_answer_1 39 rfl) ki_0 ?_
            refine v_sub [2, 3, 4, 5, 6, 7, 8, 1, 0] rfl ?_
            exact t_X3_answer_140 (f_X3_answer_81 n) x a2 a3 a4 a5 a6 a7 (gi x a4 a7.toNatClampNeg) (f_X5_takes (gi x a4 a7.toNatClampNeg)) 0 ih h F E
          · rw [if_neg c12] at h
            refine v_aload_n F (dq dkX3_answer_1 32 rfl) rfl 2 rfl ?_
            refine v_get F 10 (xn (by decide)) xc_10 rfl inlX3 2 (by decide) (tc3 _ (List.mem_of_getElem? (i := 15) rfl)) rfl rfl (dq dkX3_answer_1 33 rfl) ?_
            refine v_iload F (dq dkX3_answer_1 34 rfl) 7 rfl ?_
            refine v_iload F (dq dkX3_answer_1 35 rfl) 0 rfl ?_
            refine v_isub F (dq dkX3_answer_1 36 rfl) ?_
            obtain ⟨g13, h⟩ := gd_of h
            refine v_iald F 25 (xn (by decide)) xc_25 (ib_in g13) (dq dkX3_answer_1 37 rfl) ?_
            refine v_goto F (tgt := 140) (dq dkX3_answer_1 38 rfl) (by decide) ?_
            refine v_sub [2, 3, 4, 5, 6, 7, 8, 1, 0] rfl ?_
            exact t_X3_answer_140 (f_X3_answer_81 n) x a2 a3 a4 a5 a6 a7 (gi x a4 a7.toNatClampNeg) (f_X5_takes (gi x a4 a7.toNatClampNeg)) (gi x 25 (a6 - (f_X5_takes (gi x a4 a7.toNatClampNeg))).toNatClampNeg) ih h F E
        · rw [if_neg c11] at h
          refine v_sub [] rfl ?_
          exact t_X3_answer_119 x h F E
def f_X3_answer_79 (x : CS) (a2 : Int32) (a3 : Nat) (a4 : Nat) (a5 : Int32) (a6 : Int32) (s0 : Int32) : Option (Int32 × CS) := f_X3_answer_81 1000 x a2 a3 a4 a5 a6 s0
set_option maxRecDepth 100000 in
set_option maxHeartbeats 4000000 in
theorem t_X3_answer_79 {C : Cx} {K : KE} {y : MS} {R : Int32 × CS}  (x : CS) (a2 : Int32) (a3 : Nat) (a4 : Nat) (a5 : Int32) (a6 : Int32) (s0 : Int32) (h : f_X3_answer_79 x a2 a3 a4 a5 a6 s0 = some R) (F : Fx C RX3 cX3_answer 12 rm_X3_answer K) (E : CE C (xf K R.2 y) (some (.int R.1)) 0 0 (some .int)) : V C 79 [(0, .ref (K.1 + 10)), (2, .int a2), (3, .ref (K.1 + a3)), (4, .ref (K.1 + a4)), (5, .int a5), (6, .int a6)] [.int s0] (xf K x y) 0 0 := by
  unfold f_X3_answer_79 at h
  refine v_istore F (ls' := [(7, .int s0), (0, .ref (K.1 + 10)), (2, .int a2), (3, .ref (K.1 + a3)), (4, .ref (K.1 + a4)), (5, .int a5), (6, .int a6)]) (dq dkX3_answer_1 9 rfl) (by decide) rfl ?_
  refine v_sub [1, 2, 3, 4, 5, 6, 0] rfl ?_
  exact t_X3_answer_81 F E 1000 x a2 a3 a4 a5 a6 s0 h
def f_X3_answer (x : CS) (a1 : Int32) (a2 : Int32) (a3 : Nat) : Option (Int32 × CS) := if a1 < 0 then (f_X3_answer_21 x) else (if (gi x 10 3) ≤ a1 then (f_X3_answer_21 x) else (if a2 < 0 then (f_X3_answer_21 x) else (if a2 ≤ 2 then (gd (ib a1 6) (gd (ib a1 6) (gd (ib a2 (al (19 + a1.toNatClampNeg))) (gd (decide (0 < al (12 + a1.toNatClampNeg))) (if a2 = 0 then (f_X3_answer_79 (pi x 25 ((0 : Int32).toNatClampNeg) 0) a2 a3 (12 + a1.toNatClampNeg) (if (nI (al (12 + a1.toNatClampNeg))) < (gi x (19 + a1.toNatClampNeg) a2.toNatClampNeg) then (nI (al (12 + a1.toNatClampNeg))) else (gi x (19 + a1.toNatClampNeg) a2.toNatClampNeg)) 0 0) else (gd (ib a1 6) (gd (ib (a2 - 1) (al (19 + a1.toNatClampNeg))) (f_X3_answer_79 (pi x 25 ((0 : Int32).toNatClampNeg) 0) a2 a3 (12 + a1.toNatClampNeg) (if (nI (al (12 + a1.toNatClampNeg))) < (gi x (19 + a1.toNatClampNeg) a2.toNatClampNeg) then (nI (al (12 + a1.toNatClampNeg))) else (gi x (19 + a1.toNatClampNeg) a2.toNatClampNeg)) 0 (if (gi (pi x 25 ((0 : Int32).toNatClampNeg) 0) (19 + a1.toNatClampNeg) (a2 - 1).toNatClampNeg) < 0 then 0 else (gi (pi x 25 ((0 : Int32).toNatClampNeg) 0) (19 + a1.toNatClampNeg) (a2 - 1).toNatClampNeg)))))))))) else (f_X3_answer_21 x))))
set_option maxRecDepth 100000 in
set_option maxHeartbeats 4000000 in
theorem c_X3_answer {K : KE} {l : Launch} {R : Int32 × CS} (x : CS) (y : MS) (a1 : Int32) (a2 : Int32) (a3 : Nat) (h : f_X3_answer x a1 a2 a3 = some R) : MC K l yX3_answer cX3_answer 12 (some .int) rm_X3_answer 0 0 [.ref (K.1 + 10), .int a1, .int a2, .ref (K.1 + a3)] (xf K x y) (xf K R.2 y) (some (.int R.1)) := by
  unfold f_X3_answer at h
  refine mc_of (ls0 := [(0, .ref (K.1 + 10)), (1, .int a1), (2, .int a2), (3, .ref (K.1 + a3))]) (by decide) (Nat.le_of_ble_eq_true rfl) rfl (fun C hl hnm F E => ?_)
  have F : Fx C RX3 cX3_answer 12 rm_X3_answer K := F
  refine v_iload_n F (dq dkX3_answer_0 0 rfl) rfl 1 rfl ?_
  refine v_if_lt F (tgt := 21) (dq dkX3_answer_0 1 rfl) (by decide) (fun c14 => ?_) (fun c14 => ?_)
  · rw [if_pos c14] at h
    refine v_sub [] rfl ?_
    exact t_X3_answer_21 x h F E
  · rw [if_neg c14] at h
    refine v_iload_n F (dq dkX3_answer_0 2 rfl) rfl 1 rfl ?_
    refine v_aload_n F (dq dkX3_answer_0 3 rfl) rfl 0 rfl ?_
    refine v_get F 10 (xn (by decide)) xc_10 rfl inlX3 3 (by decide) (tc3 _ (List.mem_of_getElem? (i := 16) rfl)) rfl rfl (dq dkX3_answer_0 4 rfl) ?_
    refine v_icmp_ge F (tgt := 21) (dq dkX3_answer_0 5 rfl) (by decide) (fun c15 => ?_) (fun c15 => ?_)
    · rw [if_pos c15] at h
      refine v_sub [] rfl ?_
      exact t_X3_answer_21 x h F E
    · rw [if_neg c15] at h
      refine v_iload_n F (dq dkX3_answer_0 6 rfl) rfl 2 rfl ?_
      refine v_if_lt F (tgt := 21) (dq dkX3_answer_0 7 rfl) (by decide) (fun c16 => ?_) (fun c16 => ?_)
      · rw [if_pos c16] at h
        refine v_sub [] rfl ?_
        exact t_X3_answer_21 x h F E
      · rw [if_neg c16] at h
        refine v_iload_n F (dq dkX3_answer_0 8 rfl) rfl 2 rfl ?_
        refine v_iconst F (v := 2) (dq dkX3_answer_0 9 rfl) ki_2 ?_
        refine v_icmp_le F (tgt := 23) (dq dkX3_answer_0 10 rfl) (by decide) (fun c17 => ?_) (fun c17 => ?_)
        · rw [if_pos c17] at h
          refine v_aload_n F (dq dkX3_answer_0 13 rfl) rfl 0 rfl ?_
          refine v_get F 10 (xn (by decide)) xc_10 rfl inlX3 0 (by decide) (tc3 _ (List.mem_of_getElem? (i := 13) rfl)) rfl rfl (dq dkX3_answer_0 14 rfl) ?_
          refine v_iload_n F (dq dkX3_answer_0 15 rfl) rfl 1 rfl ?_
          obtain ⟨g18, h⟩ := gd_of h
          refine v_aald F 11 (xn (by decide)) xc_11 (t := 2) rfl rfl (ib_in g18) (dq dkX3_answer_0 16 rfl) ?_
          refine v_astore F (ls' := [(4, .ref (K.1 + (12 + a1.toNatClampNeg))), (0, .ref (K.1 + 10)), (1, .int a1), (2, .int a2), (3, .ref (K.1 + a3))]) (dq dkX3_answer_0 17 rfl) (by decide) rfl ?_
          refine v_aload_n F (dq dkX3_answer_0 18 rfl) rfl 1 rfl ?_
          refine v_get F 10 (xn (by decide)) xc_10 rfl inlX3 1 (by decide) (tc3 _ (List.mem_of_getElem? (i := 14) rfl)) rfl rfl (dq dkX3_answer_0 19 rfl) ?_
          refine v_iload_n F (dq dkX3_answer_0 20 rfl) rfl 2 rfl ?_
          obtain ⟨g19, h⟩ := gd_of h
          refine v_aald F 18 (xn (by decide)) xc_18 (t := 2) rfl rfl (ib_in g19) (dq dkX3_answer_0 21 rfl) ?_
          refine v_iload_n F (dq dkX3_answer_0 22 rfl) rfl 3 rfl ?_
          obtain ⟨g20, h⟩ := gd_of h
          refine v_iald F (19 + a1.toNatClampNeg) (xa_lt g20) (xa_at g20) (ib_in g20) (dq dkX3_answer_0 23 rfl) ?_
          refine v_aload F (dq dkX3_answer_0 24 rfl) 0 rfl ?_
          obtain ⟨g21, h⟩ := gd_of h
          refine v_alen F (12 + a1.toNatClampNeg) (xl_lt g21) (xl_at g21) (t := 0) rfl (n := nI (al (12 + a1.toNatClampNeg))) rfl (dq dkX3_answer_0 25 rfl) ?_
          refine v_mmin F (tc20 _ (List.mem_of_getElem? (i := 23) rfl)) (tc21 _ (List.mem_of_getElem? (i := 0) rfl)) (tc21 _ (List.mem_of_getElem? (i := 1) rfl)) (tc21 _ (List.mem_of_getElem? (i := 2) rfl)) (Nat.le_of_ble_eq_true rfl) (Nat.le_of_ble_eq_true rfl) (Nat.le_of_ble_eq_true rfl) (Nat.le_of_ble_eq_true rfl) (dq dkX3_answer_0 26 rfl) ?_
          refine v_istore F (ls' := [(5, .int (if (nI (al (12 + a1.toNatClampNeg))) < (gi x (19 + a1.toNatClampNeg) a2.toNatClampNeg) then (nI (al (12 + a1.toNatClampNeg))) else (gi x (19 + a1.toNatClampNeg) a2.toNatClampNeg))), (4, .ref (K.1 + (12 + a1.toNatClampNeg))), (0, .ref (K.1 + 10)), (1, .int a1), (2, .int a2), (3, .ref (K.1 + a3))]) (dq dkX3_answer_0 27 rfl) (by decide) rfl ?_
          refine v_iconst F (v := 0) (dq dkX3_answer_0 28 rfl) ki_0 ?_
          refine v_istore F (ls' := [(6, .int 0), (5, .int (if (nI (al (12 + a1.toNatClampNeg))) < (gi x (19 + a1.toNatClampNeg) a2.toNatClampNeg) then (nI (al (12 + a1.toNatClampNeg))) else (gi x (19 + a1.toNatClampNeg) a2.toNatClampNeg))), (4, .ref (K.1 + (12 + a1.toNatClampNeg))), (0, .ref (K.1 + 10)), (1, .int a1), (2, .int a2), (3, .ref (K.1 + a3))]) (dq dkX3_answer_0 29 rfl) (by decide) rfl ?_
          refine v_aload_n F (dq dkX3_answer_0 30 rfl) rfl 3 rfl ?_
          refine v_get F 10 (xn (by decide)) xc_10 rfl inlX3 2 (by decide) (tc3 _ (List.mem_of_getElem? (i := 15) rfl)) rfl rfl (dq dkX3_answer_0 31 rfl) ?_
          refine v_iconst F (v := 0) (dq dkX3_answer_0 32 rfl) ki_0 ?_
          refine v_iconst F (v := 0) (dq dkX3_answer_0 33 rfl) ki_0 ?_
          refine v_iast F 25 (xn (by decide)) xc_25 (ib_in (by decide)) (dq dkX3_answer_0 34 rfl) ?_
          refine v_eqM (xwC (q := 25) (j := (0 : Int32).toNatClampNeg) (v := 0) (by decide) rfl) ?_
          refine v_iload_n F (dq dkX3_answer_0 35 rfl) rfl 5 rfl ?_
          refine v_if_ne F (tgt := 65) (dq dkX3_answer_0 36 rfl) (by decide) (fun c22 => ?_) (fun c22 => ?_)
          · rw [if_neg c22] at h
            refine v_aload_n F (dq dkX3_answer_0 39 rfl) rfl 3 rfl ?_
            refine v_get F 10 (xn (by decide)) xc_10 rfl inlX3 1 (by decide) (tc3 _ (List.mem_of_getElem? (i := 14) rfl)) rfl rfl (dq dkX3_answer_1 0 rfl) ?_
            refine v_iload_n F (dq dkX3_answer_1 1 rfl) rfl 4 rfl ?_
            obtain ⟨g23, h⟩ := gd_of h
            refine v_aald F 18 (xn (by decide)) xc_18 (t := 2) rfl rfl (ib_in g23) (dq dkX3_answer_1 2 rfl) ?_
            refine v_iload_n F (dq dkX3_answer_1 3 rfl) rfl 5 rfl ?_
            refine v_iconst F (v := 1) (dq dkX3_answer_1 4 rfl) ki_1 ?_
            refine v_isub F (dq dkX3_answer_1 5 rfl) ?_
            obtain ⟨g24, h⟩ := gd_of h
            refine v_iald F (19 + a1.toNatClampNeg) (xa_lt g24) (xa_at g24) (ib_in g24) (dq dkX3_answer_1 6 rfl) ?_
            refine v_iconst F (v := 0) (dq dkX3_answer_1 7 rfl) ki_0 ?_
            refine v_mmax F (tc21 _ (List.mem_of_getElem? (i := 3) rfl)) (tc21 _ (List.mem_of_getElem? (i := 4) rfl)) (tc21 _ (List.mem_of_getElem? (i := 1) rfl)) (tc21 _ (List.mem_of_getElem? (i := 5) rfl)) (Nat.le_of_ble_eq_true rfl) (Nat.le_of_ble_eq_true rfl) (Nat.le_of_ble_eq_true rfl) (Nat.le_of_ble_eq_true rfl) (dq dkX3_answer_1 8 rfl) ?_
            refine v_sub [3, 5, 6, 2, 1, 0] rfl ?_
            exact t_X3_answer_79 (pi x 25 ((0 : Int32).toNatClampNeg) 0) a2 a3 (12 + a1.toNatClampNeg) (if (nI (al (12 + a1.toNatClampNeg))) < (gi x (19 + a1.toNatClampNeg) a2.toNatClampNeg) then (nI (al (12 + a1.toNatClampNeg))) else (gi x (19 + a1.toNatClampNeg) a2.toNatClampNeg)) 0 (if (gi (pi x 25 ((0 : Int32).toNatClampNeg) 0) (19 + a1.toNatClampNeg) (a2 - 1).toNatClampNeg) < 0 then 0 else (gi (pi x 25 ((0 : Int32).toNatClampNeg) 0) (19 + a1.toNatClampNeg) (a2 - 1).toNatClampNeg)) h F E
          · rw [if_pos c22] at h
            refine v_iconst F (v := 0) (dq dkX3_answer_0 37 rfl) ki_0 ?_
            refine v_goto F (tgt := 79) (dq dkX3_answer_0 38 rfl) (by decide) ?_
            refine v_sub [3, 5, 6, 2, 1, 0] rfl ?_
            exact t_X3_answer_79 (pi x 25 ((0 : Int32).toNatClampNeg) 0) a2 a3 (12 + a1.toNatClampNeg) (if (nI (al (12 + a1.toNatClampNeg))) < (gi x (19 + a1.toNatClampNeg) a2.toNatClampNeg) then (nI (al (12 + a1.toNatClampNeg))) else (gi x (19 + a1.toNatClampNeg) a2.toNatClampNeg)) 0 0 h F E
        · rw [if_neg c17] at h
          refine v_sub [] rfl ?_
          exact t_X3_answer_21 x h F E
def rm_X2_asked : Room := { frames := 3, cells := 0, slots := 0, locals := 85 }
def f_X2_asked (x : CS) (a1 : Int32) (a2 : Int32) (a3 : Int32) (a4 : Int32) : Option (Int32 × CS) := (f_X3_answer (pi (pi (pi x 52 ((3 : Int32).toNatClampNeg) a2) 52 ((4 : Int32).toNatClampNeg) a4) 52 ((5 : Int32).toNatClampNeg) a3) (gi (pi (pi (pi x 52 ((3 : Int32).toNatClampNeg) a2) 52 ((4 : Int32).toNatClampNeg) a4) 52 ((5 : Int32).toNatClampNeg) a3) 1 2) a1 52).bind fun r1 => some (r1.1, r1.2)
set_option maxRecDepth 100000 in
set_option maxHeartbeats 4000000 in
theorem c_X2_asked {K : KE} {l : Launch} {R : Int32 × CS} (x : CS) (y : MS) (a1 : Int32) (a2 : Int32) (a3 : Int32) (a4 : Int32) (h : f_X2_asked x a1 a2 a3 a4 = some R) : MC K l yX2_asked cX2_asked 5 (some .int) rm_X2_asked 0 0 [.ref (K.1 + 48), .int a1, .int a2, .int a3, .int a4] (xf K x y) (xf K R.2 y) (some (.int R.1)) := by
  unfold f_X2_asked at h
  refine mc_of (ls0 := [(0, .ref (K.1 + 48)), (1, .int a1), (2, .int a2), (3, .int a3), (4, .int a4)]) (by decide) (Nat.le_of_ble_eq_true rfl) rfl (fun C hl hnm F E => ?_)
  have F : Fx C RX2 cX2_asked 5 rm_X2_asked K := F
  refine v_aload_n F (dq dkX2_asked_0 0 rfl) rfl 0 rfl ?_
  refine v_get F 48 (xn (by decide)) xc_48 rfl inlX2 5 (by decide) (tc5 _ (List.mem_of_getElem? (i := 3) rfl)) rfl rfl (dq dkX2_asked_0 1 rfl) ?_
  refine v_iconst F (v := 3) (dq dkX2_asked_0 2 rfl) ki_3 ?_
  refine v_iload_n F (dq dkX2_asked_0 3 rfl) rfl 2 rfl ?_
  refine v_iast F 52 (xn (by decide)) xc_52 (ib_in (by decide)) (dq dkX2_asked_0 4 rfl) ?_
  refine v_eqM (xwC (q := 52) (j := (3 : Int32).toNatClampNeg) (v := a2) (by decide) rfl) ?_
  refine v_aload_n F (dq dkX2_asked_0 5 rfl) rfl 0 rfl ?_
  refine v_get F 48 (xn (by decide)) xc_48 rfl inlX2 5 (by decide) (tc5 _ (List.mem_of_getElem? (i := 3) rfl)) rfl rfl (dq dkX2_asked_0 6 rfl) ?_
  refine v_iconst F (v := 4) (dq dkX2_asked_0 7 rfl) ki_4 ?_
  refine v_iload F (dq dkX2_asked_0 8 rfl) 4 rfl ?_
  refine v_iast F 52 (xn (by decide)) xc_52 (ib_in (by decide)) (dq dkX2_asked_0 9 rfl) ?_
  refine v_eqM (xwC (q := 52) (j := (4 : Int32).toNatClampNeg) (v := a4) (by decide) rfl) ?_
  refine v_aload_n F (dq dkX2_asked_0 10 rfl) rfl 0 rfl ?_
  refine v_get F 48 (xn (by decide)) xc_48 rfl inlX2 5 (by decide) (tc5 _ (List.mem_of_getElem? (i := 3) rfl)) rfl rfl (dq dkX2_asked_0 11 rfl) ?_
  refine v_iconst F (v := 5) (dq dkX2_asked_0 12 rfl) ki_5 ?_
  refine v_iload_n F (dq dkX2_asked_0 13 rfl) rfl 3 rfl ?_
  refine v_iast F 52 (xn (by decide)) xc_52 (ib_in (by decide)) (dq dkX2_asked_0 14 rfl) ?_
  refine v_eqM (xwC (q := 52) (j := (5 : Int32).toNatClampNeg) (v := a3) (by decide) rfl) ?_
  refine v_aload_n F (dq dkX2_asked_0 15 rfl) rfl 0 rfl ?_
  refine v_get F 48 (xn (by decide)) xc_48 rfl inlX2 1 (by decide) (tc5 _ (List.mem_of_getElem? (i := 12) rfl)) rfl rfl (dq dkX2_asked_0 16 rfl) ?_
  refine v_aload_n F (dq dkX2_asked_0 17 rfl) rfl 0 rfl ?_
  refine v_get F 48 (xn (by decide)) xc_48 rfl inlX2 0 (by decide) (tc5 _ (List.mem_of_getElem? (i := 11) rfl)) rfl rfl (dq dkX2_asked_0 18 rfl) ?_
  refine v_getN F 1 (xn (by decide)) xc_1 rfl inlX8 2 (by decide) (List.mem_of_getElem? (i := 0) rfl) rfl rfl (dq dkX2_asked_0 19 rfl) ?_
  refine v_iload_n F (dq dkX2_asked_0 20 rfl) rfl 1 rfl ?_
  refine v_aload_n F (dq dkX2_asked_0 21 rfl) rfl 0 rfl ?_
  refine v_get F 48 (xn (by decide)) xc_48 rfl inlX2 5 (by decide) (tc5 _ (List.mem_of_getElem? (i := 3) rfl)) rfl rfl (dq dkX2_asked_0 22 rfl) ?_
  obtain ⟨r1, e2, h⟩ := bd_of h
  refine v_callV 3 F (q := 10) (kc1 := 0) (ks1 := 0) (as := [.int (gi (pi (pi (pi x 52 ((3 : Int32).toNatClampNeg) a2) 52 ((4 : Int32).toNatClampNeg) a4) 52 ((5 : Int32).toNatClampNeg) a3) 1 2), .int a1, .ref (K.1 + 52)]) (st := []) (st1 := (.int r1.1 :: [])) (res := (some (.int r1.1))) (c_X3_answer (l := C.2.1) (pi (pi (pi x 52 ((3 : Int32).toNatClampNeg) a2) 52 ((4 : Int32).toNatClampNeg) a4) 52 ((5 : Int32).toNatClampNeg) a3) y (gi (pi (pi (pi x 52 ((3 : Int32).toNatClampNeg) a2) 52 ((4 : Int32).toNatClampNeg) a4) 52 ((5 : Int32).toNatClampNeg) a3) 1 2) a1 52 e2) (xn (by decide)) xc_10 rfl (tc20 _ (List.mem_of_getElem? (i := 19) rfl)) (tc20 _ (List.mem_of_getElem? (i := 20) rfl)) (tc20 _ (List.mem_of_getElem? (i := 21) rfl)) (tc1 _ (List.mem_of_getElem? (i := 19) rfl)) (tc20 _ (List.mem_of_getElem? (i := 22) rfl)) (by decide) rfl ⟨rfl, rfl, Nat.le_of_ble_eq_true rfl, Nat.le_of_ble_eq_true rfl⟩ ⟨Nat.le_of_ble_eq_true rfl, Nat.le_of_ble_eq_true rfl⟩ rfl (Nat.le_of_ble_eq_true rfl) rfl rfl rfl (dq dkX2_asked_0 23 rfl) ?_
  have h := Option.some.inj h
  subst h
  exact v_iret F E (dq dkX2_asked_0 24 rfl)
def rm_X2_bit : Room := { frames := 3, cells := 0, slots := 0, locals := 72 }
def f_X2_bit (a0 : Int32) : Int32 := if (b2i (f_X10_isSection a0)) = 0 then 0 else (1 <<< (a0 &&& 31))
set_option maxRecDepth 100000 in
set_option maxHeartbeats 4000000 in
theorem c_X2_bit {K : KE} {l : Launch} {M : GM} (a0 : Int32) : MC K l yX2_bit cX2_bit 1 (some .int) rm_X2_bit 0 0 [.int a0] M M (some (.int (f_X2_bit a0))) := by
  obtain ⟨R, h⟩ : ∃ R, f_X2_bit a0 = R := ⟨_, rfl⟩
  rw [h]
  unfold f_X2_bit at h
  refine mc_of (ls0 := [(0, .int a0)]) (by decide) (Nat.le_of_ble_eq_true rfl) rfl (fun C hl hnm F E => ?_)
  have F : Fx C RX2 cX2_bit 1 rm_X2_bit K := F
  refine v_iload_n F (dq dkX2_bit_0 0 rfl) rfl 0 rfl ?_
  refine v_callSN 1 F (kc1 := 0) (ks1 := 0) (as := [.int a0]) (st := []) (st1 := (.int (b2i (f_X10_isSection a0)) :: [])) (res := (some (.int (b2i (f_X10_isSection a0))))) (c_X10_isSection (l := C.2.1) a0) (List.mem_of_getElem? (i := 9) rfl) (tc14 _ (List.mem_of_getElem? (i := 1) rfl)) (tc1 _ (List.mem_of_getElem? (i := 2) rfl)) (tc14 _ (List.mem_of_getElem? (i := 2) rfl)) (by decide) rfl ⟨rfl, rfl, Nat.le_of_ble_eq_true rfl, Nat.le_of_ble_eq_true rfl⟩ ⟨Nat.le_of_ble_eq_true rfl, Nat.le_of_ble_eq_true rfl⟩ rfl (Nat.le_of_ble_eq_true rfl) rfl rfl rfl (dq dkX2_bit_0 1 rfl) ?_
  refine v_if_eq F (tgt := 13) (dq dkX2_bit_0 2 rfl) (by decide) (fun c2 => ?_) (fun c2 => ?_)
  · rw [if_pos c2] at h
    refine v_iconst F (v := 0) (dq dkX2_bit_0 7 rfl) ki_0 ?_
    subst h
    exact v_iret F E (dq dkX2_bit_0 8 rfl)
  · rw [if_neg c2] at h
    refine v_iconst F (v := 1) (dq dkX2_bit_0 3 rfl) ki_1 ?_
    refine v_iload_n F (dq dkX2_bit_0 4 rfl) rfl 0 rfl ?_
    refine v_ishl F (dq dkX2_bit_0 5 rfl) ?_
    refine v_goto F (tgt := 14) (dq dkX2_bit_0 6 rfl) (by decide) ?_
    subst h
    exact v_iret F E (dq dkX2_bit_0 8 rfl)
def rm_X2_isBroken : Room := { frames := 4, cells := 0, slots := 0, locals := 92 }
def f_X2_isBroken (x : CS) (a1 : Int32) : Bool := if ((gi x 48 6) &&& (f_X2_bit a1)) = 0 then false else true
set_option maxRecDepth 100000 in
set_option maxHeartbeats 4000000 in
theorem c_X2_isBroken {K : KE} {l : Launch} (x : CS) (y : MS) (a1 : Int32) : MC K l yX2_isBroken cX2_isBroken 2 (some .boolean) rm_X2_isBroken 0 0 [.ref (K.1 + 48), .int a1] (xf K x y) (xf K x y) (some (.int (b2i (f_X2_isBroken x a1)))) := by
  obtain ⟨R, h⟩ : ∃ R, f_X2_isBroken x a1 = R := ⟨_, rfl⟩
  rw [h]
  unfold f_X2_isBroken at h
  refine mc_of (ls0 := [(0, .ref (K.1 + 48)), (1, .int a1)]) (by decide) (Nat.le_of_ble_eq_true rfl) rfl (fun C hl hnm F E => ?_)
  have F : Fx C RX2 cX2_isBroken 2 rm_X2_isBroken K := F
  refine v_aload_n F (dq dkX2_isBroken_0 0 rfl) rfl 0 rfl ?_
  refine v_get F 48 (xn (by decide)) xc_48 rfl inlX2 6 (by decide) (tc5 _ (List.mem_of_getElem? (i := 4) rfl)) rfl rfl (dq dkX2_isBroken_0 1 rfl) ?_
  refine v_iload_n F (dq dkX2_isBroken_0 2 rfl) rfl 1 rfl ?_
  refine v_callS 1 F (kc1 := 0) (ks1 := 0) (as := [.int a1]) (st := [.int (gi x 48 6)]) (st1 := (.int (f_X2_bit a1) :: [.int (gi x 48 6)])) (res := (some (.int (f_X2_bit a1)))) (c_X2_bit (l := C.2.1) a1) (tc26 _ (List.mem_of_getElem? (i := 4) rfl)) (tc26 _ (List.mem_of_getElem? (i := 5) rfl)) (tc2 _ (List.mem_of_getElem? (i := 19) rfl)) (tc26 _ (List.mem_of_getElem? (i := 6) rfl)) (by decide) rfl ⟨rfl, rfl, Nat.le_of_ble_eq_true rfl, Nat.le_of_ble_eq_true rfl⟩ ⟨Nat.le_of_ble_eq_true rfl, Nat.le_of_ble_eq_true rfl⟩ rfl (Nat.le_of_ble_eq_true rfl) rfl rfl rfl (dq dkX2_isBroken_0 3 rfl) ?_
  refine v_iand F (dq dkX2_isBroken_0 4 rfl) ?_
  refine v_if_eq F (tgt := 16) (dq dkX2_isBroken_0 5 rfl) (by decide) (fun c2 => ?_) (fun c2 => ?_)
  · rw [if_pos c2] at h
    refine v_iconst F (v := 0) (dq dkX2_isBroken_0 8 rfl) ki_0 ?_
    subst h
    exact v_zret F E (b2i_n false) (dq dkX2_isBroken_0 9 rfl)
  · rw [if_neg c2] at h
    refine v_iconst F (v := 1) (dq dkX2_isBroken_0 6 rfl) ki_1 ?_
    refine v_goto F (tgt := 17) (dq dkX2_isBroken_0 7 rfl) (by decide) ?_
    subst h
    exact v_zret F E (b2i_n true) (dq dkX2_isBroken_0 9 rfl)
def rm_X2_fire : Room := { frames := 4, cells := 0, slots := 0, locals := 109 }
def f_X2_fire_78 (x : CS) (a1 : Int32) (a2 : Int32) : Option (CS) := gd (ib a1 9) (gd (ib a1 9) (gd (ib a1 9) (if 0 < (gi (pi x 50 a1.toNatClampNeg ((gi x 50 a1.toNatClampNeg) - a2)) 50 a1.toNatClampNeg) then (some (pi x 50 a1.toNatClampNeg ((gi x 50 a1.toNatClampNeg) - a2))) else (gd (ib a1 9) (some (pi (pi (pi x 50 a1.toNatClampNeg ((gi x 50 a1.toNatClampNeg) - a2)) 50 a1.toNatClampNeg 0) 48 6 ((gi (pi (pi x 50 a1.toNatClampNeg ((gi x 50 a1.toNatClampNeg) - a2)) 50 a1.toNatClampNeg 0) 48 6) ||| (f_X2_bit a1))))))))
set_option maxRecDepth 100000 in
set_option maxHeartbeats 4000000 in
theorem t_X2_fire_78 {C : Cx} {K : KE} {y : MS} {R : CS}  (x : CS) (a1 : Int32) (a2 : Int32) (h : f_X2_fire_78 x a1 a2 = some R) (F : Fx C RX2 cX2_fire 3 rm_X2_fire K) (E : CE C (xf K R y) none 0 0 none) : V C 78 [(0, .ref (K.1 + 48)), (1, .int a1), (2, .int a2)] [] (xf K x y) 0 0 := by
  unfold f_X2_fire_78 at h
  refine v_aload_n F (dq dkX2_fire_1 6 rfl) rfl 0 rfl ?_
  refine v_get F 48 (xn (by decide)) xc_48 rfl inlX2 3 (by decide) (tc5 _ (List.mem_of_getElem? (i := 1) rfl)) rfl rfl (dq dkX2_fire_1 7 rfl) ?_
  refine v_iload_n F (dq dkX2_fire_1 8 rfl) rfl 1 rfl ?_
  refine v_dup2 F (dq dkX2_fire_1 9 rfl) rfl rfl ?_
  obtain ⟨g1, h⟩ := gd_of h
  refine v_iald F 50 (xn (by decide)) xc_50 (ib_in g1) (dq dkX2_fire_1 10 rfl) ?_
  refine v_iload_n F (dq dkX2_fire_1 11 rfl) rfl 2 rfl ?_
  refine v_isub F (dq dkX2_fire_1 12 rfl) ?_
  obtain ⟨g2, h⟩ := gd_of h
  refine v_iast F 50 (xn (by decide)) xc_50 (ib_in g2) (dq dkX2_fire_1 13 rfl) ?_
  refine v_eqM (xwC (q := 50) (j := a1.toNatClampNeg) (v := (gi x 50 a1.toNatClampNeg) - a2) (by decide) rfl) ?_
  refine v_aload_n F (dq dkX2_fire_1 14 rfl) rfl 0 rfl ?_
  refine v_get F 48 (xn (by decide)) xc_48 rfl inlX2 3 (by decide) (tc5 _ (List.mem_of_getElem? (i := 1) rfl)) rfl rfl (dq dkX2_fire_1 15 rfl) ?_
  refine v_iload_n F (dq dkX2_fire_1 16 rfl) rfl 1 rfl ?_
  obtain ⟨g3, h⟩ := gd_of h
  refine v_iald F 50 (xn (by decide)) xc_50 (ib_in g3) (dq dkX2_fire_1 17 rfl) ?_
  refine v_if_gt F (tgt := 117) (dq dkX2_fire_1 18 rfl) (by decide) (fun c4 => ?_) (fun c4 => ?_)
  · rw [if_pos c4] at h
    have h := Option.some.inj h
    subst h
    exact v_vret F E (dq dkX2_fire_1 31 rfl)
  · rw [if_neg c4] at h
    refine v_aload_n F (dq dkX2_fire_1 19 rfl) rfl 0 rfl ?_
    refine v_get F 48 (xn (by decide)) xc_48 rfl inlX2 3 (by decide) (tc5 _ (List.mem_of_getElem? (i := 1) rfl)) rfl rfl (dq dkX2_fire_1 20 rfl) ?_
    refine v_iload_n F (dq dkX2_fire_1 21 rfl) rfl 1 rfl ?_
    refine v_iconst F (v := 0) (dq dkX2_fire_1 22 rfl) ki_0 ?_
    obtain ⟨g5, h⟩ := gd_of h
    refine v_iast F 50 (xn (by decide)) xc_50 (ib_in g5) (dq dkX2_fire_1 23 rfl) ?_
    refine v_eqM (xwC (q := 50) (j := a1.toNatClampNeg) (v := 0) (by decide) rfl) ?_
    refine v_aload_n F (dq dkX2_fire_1 24 rfl) rfl 0 rfl ?_
    refine v_dup F (dq dkX2_fire_1 25 rfl) rfl ?_
    refine v_get F 48 (xn (by decide)) xc_48 rfl inlX2 6 (by decide) (tc5 _ (List.mem_of_getElem? (i := 4) rfl)) rfl rfl (dq dkX2_fire_1 26 rfl) ?_
    refine v_iload_n F (dq dkX2_fire_1 27 rfl) rfl 1 rfl ?_
    refine v_callS 1 F (kc1 := 0) (ks1 := 0) (as := [.int a1]) (st := [.int (gi (pi (pi x 50 a1.toNatClampNeg ((gi x 50 a1.toNatClampNeg) - a2)) 50 a1.toNatClampNeg 0) 48 6), .ref (K.1 + 48)]) (st1 := (.int (f_X2_bit a1) :: [.int (gi (pi (pi x 50 a1.toNatClampNeg ((gi x 50 a1.toNatClampNeg) - a2)) 50 a1.toNatClampNeg 0) 48 6), .ref (K.1 + 48)])) (res := (some (.int (f_X2_bit a1)))) (c_X2_bit (l := C.2.1) a1) (tc26 _ (List.mem_of_getElem? (i := 4) rfl)) (tc26 _ (List.mem_of_getElem? (i := 5) rfl)) (tc2 _ (List.mem_of_getElem? (i := 19) rfl)) (tc26 _ (List.mem_of_getElem? (i := 6) rfl)) (by decide) rfl ⟨rfl, rfl, Nat.le_of_ble_eq_true rfl, Nat.le_of_ble_eq_true rfl⟩ ⟨Nat.le_of_ble_eq_true rfl, Nat.le_of_ble_eq_true rfl⟩ rfl (Nat.le_of_ble_eq_true rfl) rfl rfl rfl (dq dkX2_fire_1 28 rfl) ?_
    refine v_ior F (dq dkX2_fire_1 29 rfl) ?_
    refine v_put F 48 (xn (by decide)) xc_48 rfl inlX2 tyX2_ok nmX2 6 (by decide) (tc5 _ (List.mem_of_getElem? (i := 4) rfl)) rfl rfl (tyX2_ok 6 (by decide)) rfl rfl (Nat.le_of_ble_eq_true rfl) (dq dkX2_fire_1 30 rfl) ?_
    refine v_eqM (xwC (q := 48) (j := 6) (v := (gi (pi (pi x 50 a1.toNatClampNeg ((gi x 50 a1.toNatClampNeg) - a2)) 50 a1.toNatClampNeg 0) 48 6) ||| (f_X2_bit a1)) (by decide) rfl) ?_
    have h := Option.some.inj h
    subst h
    exact v_vret F E (dq dkX2_fire_1 31 rfl)
def f_X2_fire (x : CS) (a1 : Int32) : Option (CS) := if (b2i (f_X10_isSection a1)) = 0 then (some x) else (gd (ib a1 9) (gd (ib a1 9) ((f_X8_of x 1 4 a1).bind fun r11 => (f_X2_asked x 0 (gi x 50 a1.toNatClampNeg) (gi x 49 a1.toNatClampNeg) r11).bind fun r13 => if (lg_cmp (glot r13.2) 0) = 0 then (f_X2_fire_78 r13.2 a1 r13.1) else (f_X2_fire_78 (plot r13.2 (((glot r13.2) * 48271) - ((glot r13.2) * 48271) / 2147483647 * 2147483647)) a1 (if 0 < ((r13.1 + (((glot (plot r13.2 (((glot r13.2) * 48271) - ((glot r13.2) * 48271) / 2147483647 * 2147483647))) - (glot (plot r13.2 (((glot r13.2) * 48271) - ((glot r13.2) * 48271) / 2147483647 * 2147483647))) / 3 * 3).toInt32)) - 1) then ((r13.1 + (((glot (plot r13.2 (((glot r13.2) * 48271) - ((glot r13.2) * 48271) / 2147483647 * 2147483647))) - (glot (plot r13.2 (((glot r13.2) * 48271) - ((glot r13.2) * 48271) / 2147483647 * 2147483647))) / 3 * 3).toInt32)) - 1) else 0)))))
set_option maxRecDepth 100000 in
set_option maxHeartbeats 4000000 in
theorem c_X2_fire {K : KE} {l : Launch} {R : CS} (x : CS) (y : MS) (a1 : Int32) (h : f_X2_fire x a1 = some R) : MC K l yX2_fire cX2_fire 3 none rm_X2_fire 0 0 [.ref (K.1 + 48), .int a1] (xf K x y) (xf K R y) none := by
  unfold f_X2_fire at h
  refine mc_of (ls0 := [(0, .ref (K.1 + 48)), (1, .int a1)]) (by decide) (Nat.le_of_ble_eq_true rfl) rfl (fun C hl hnm F E => ?_)
  have F : Fx C RX2 cX2_fire 3 rm_X2_fire K := F
  refine v_iload_n F (dq dkX2_fire_0 0 rfl) rfl 1 rfl ?_
  refine v_callSN 1 F (kc1 := 0) (ks1 := 0) (as := [.int a1]) (st := []) (st1 := (.int (b2i (f_X10_isSection a1)) :: [])) (res := (some (.int (b2i (f_X10_isSection a1))))) (c_X10_isSection (l := C.2.1) a1) (List.mem_of_getElem? (i := 9) rfl) (tc14 _ (List.mem_of_getElem? (i := 1) rfl)) (tc1 _ (List.mem_of_getElem? (i := 2) rfl)) (tc14 _ (List.mem_of_getElem? (i := 2) rfl)) (by decide) rfl ⟨rfl, rfl, Nat.le_of_ble_eq_true rfl, Nat.le_of_ble_eq_true rfl⟩ ⟨Nat.le_of_ble_eq_true rfl, Nat.le_of_ble_eq_true rfl⟩ rfl (Nat.le_of_ble_eq_true rfl) rfl rfl rfl (dq dkX2_fire_0 1 rfl) ?_
  refine v_if_ne F (tgt := 8) (dq dkX2_fire_0 2 rfl) (by decide) (fun c8 => ?_) (fun c8 => ?_)
  · rw [if_neg c8] at h
    refine v_aload_n F (dq dkX2_fire_0 4 rfl) rfl 0 rfl ?_
    refine v_iconst F (v := 0) (dq dkX2_fire_0 5 rfl) ki_0 ?_
    refine v_aload_n F (dq dkX2_fire_0 6 rfl) rfl 0 rfl ?_
    refine v_get F 48 (xn (by decide)) xc_48 rfl inlX2 3 (by decide) (tc5 _ (List.mem_of_getElem? (i := 1) rfl)) rfl rfl (dq dkX2_fire_0 7 rfl) ?_
    refine v_iload_n F (dq dkX2_fire_0 8 rfl) rfl 1 rfl ?_
    obtain ⟨g9, h⟩ := gd_of h
    refine v_iald F 50 (xn (by decide)) xc_50 (ib_in g9) (dq dkX2_fire_0 9 rfl) ?_
    refine v_aload_n F (dq dkX2_fire_0 10 rfl) rfl 0 rfl ?_
    refine v_get F 48 (xn (by decide)) xc_48 rfl inlX2 2 (by decide) (tc5 _ (List.mem_of_getElem? (i := 0) rfl)) rfl rfl (dq dkX2_fire_0 11 rfl) ?_
    refine v_iload_n F (dq dkX2_fire_0 12 rfl) rfl 1 rfl ?_
    obtain ⟨g10, h⟩ := gd_of h
    refine v_iald F 49 (xn (by decide)) xc_49 (ib_in g10) (dq dkX2_fire_0 13 rfl) ?_
    refine v_aload_n F (dq dkX2_fire_0 14 rfl) rfl 0 rfl ?_
    refine v_get F 48 (xn (by decide)) xc_48 rfl inlX2 0 (by decide) (tc5 _ (List.mem_of_getElem? (i := 11) rfl)) rfl rfl (dq dkX2_fire_0 15 rfl) ?_
    refine v_iconst F (v := 4) (dq dkX2_fire_0 16 rfl) ki_4 ?_
    refine v_iload_n F (dq dkX2_fire_0 17 rfl) rfl 1 rfl ?_
    obtain ⟨r11, e12, h⟩ := bd_of h
    refine v_callV 2 F (q := 1) (kc1 := 0) (ks1 := 0) (as := [.int 4, .int a1]) (st := [.int (gi x 49 a1.toNatClampNeg), .int (gi x 50 a1.toNatClampNeg), .int 0, .ref (K.1 + 48)]) (st1 := (.int r11 :: [.int (gi x 49 a1.toNatClampNeg), .int (gi x 50 a1.toNatClampNeg), .int 0, .ref (K.1 + 48)])) (res := (some (.int r11))) (c_X8_of (l := C.2.1) x y 1 4 a1 e12) (xn (by decide)) xc_1 rfl (tc20 _ (List.mem_of_getElem? (i := 13) rfl)) (tc14 _ (List.mem_of_getElem? (i := 11) rfl)) (tc14 _ (List.mem_of_getElem? (i := 12) rfl)) (tc1 _ (List.mem_of_getElem? (i := 15) rfl)) (tc14 _ (List.mem_of_getElem? (i := 13) rfl)) (by decide) rfl ⟨rfl, rfl, Nat.le_of_ble_eq_true rfl, Nat.le_of_ble_eq_true rfl⟩ ⟨Nat.le_of_ble_eq_true rfl, Nat.le_of_ble_eq_true rfl⟩ rfl (Nat.le_of_ble_eq_true rfl) rfl rfl rfl (dq dkX2_fire_0 18 rfl) ?_
    obtain ⟨r13, e14, h⟩ := bd_of h
    refine v_callV 4 F (q := 48) (kc1 := 0) (ks1 := 0) (as := [.int 0, .int (gi x 50 a1.toNatClampNeg), .int (gi x 49 a1.toNatClampNeg), .int r11]) (st := []) (st1 := (.int r13.1 :: [])) (res := (some (.int r13.1))) (c_X2_asked (l := C.2.1) x y 0 (gi x 50 a1.toNatClampNeg) (gi x 49 a1.toNatClampNeg) r11 e14) (xn (by decide)) xc_48 rfl (tc26 _ (List.mem_of_getElem? (i := 3) rfl)) (tc20 _ (List.mem_of_getElem? (i := 16) rfl)) (tc20 _ (List.mem_of_getElem? (i := 17) rfl)) (tc2 _ (List.mem_of_getElem? (i := 19) rfl)) (tc20 _ (List.mem_of_getElem? (i := 18) rfl)) (by decide) rfl ⟨rfl, rfl, Nat.le_of_ble_eq_true rfl, Nat.le_of_ble_eq_true rfl⟩ ⟨Nat.le_of_ble_eq_true rfl, Nat.le_of_ble_eq_true rfl⟩ rfl (Nat.le_of_ble_eq_true rfl) rfl rfl rfl (dq dkX2_fire_0 19 rfl) ?_
    refine v_istore_n F (ls' := [(2, .int r13.1), (0, .ref (K.1 + 48)), (1, .int a1)]) (dq dkX2_fire_0 20 rfl) rfl (by decide) rfl ?_
    refine v_aload_n F (dq dkX2_fire_0 21 rfl) rfl 1 rfl ?_
    refine v_get F 48 (xn (by decide)) xc_48 rfl inlX2 11 (by decide) (tc5 _ (List.mem_of_getElem? (i := 10) rfl)) rfl rfl (dq dkX2_fire_0 22 rfl) ?_
    refine v_lconst F (v := 0) (dq dkX2_fire_0 23 rfl) rfl ?_
    refine v_lcmp F (dq dkX2_fire_0 24 rfl) ?_
    refine v_if_eq F (tgt := 78) (dq dkX2_fire_0 25 rfl) (by decide) (fun c15 => ?_) (fun c15 => ?_)
    · rw [if_pos c15] at h
      refine v_sub [1, 2, 0] rfl ?_
      exact t_X2_fire_78 r13.2 a1 r13.1 h F E
    · rw [if_neg c15] at h
      refine v_aload_n F (dq dkX2_fire_0 26 rfl) rfl 1 rfl ?_
      refine v_aload_n F (dq dkX2_fire_0 27 rfl) rfl 1 rfl ?_
      refine v_get F 48 (xn (by decide)) xc_48 rfl inlX2 11 (by decide) (tc5 _ (List.mem_of_getElem? (i := 10) rfl)) rfl rfl (dq dkX2_fire_0 28 rfl) ?_
      refine v_ldc2 F (v := 48271) (tc25 _ (List.mem_of_getElem? (i := 23) rfl)) (dq dkX2_fire_0 29 rfl) ?_
      refine v_lmul F (dq dkX2_fire_0 30 rfl) ?_
      refine v_ldc2 F (v := 2147483647) (tc26 _ (List.mem_of_getElem? (i := 0) rfl)) (dq dkX2_fire_0 31 rfl) ?_
      refine v_lrem F (dq dkX2_fire_0 32 rfl) (by decide) ?_
      refine v_put F 48 (xn (by decide)) xc_48 rfl inlX2 tyX2_ok nmX2 11 (by decide) (tc5 _ (List.mem_of_getElem? (i := 10) rfl)) rfl rfl (tyX2_ok 11 (by decide)) rfl rfl (Nat.le_of_ble_eq_true rfl) (dq dkX2_fire_0 33 rfl) ?_
      refine v_eqM (xw_lot (v := ((glot r13.2) * 48271) - ((glot r13.2) * 48271) / 2147483647 * 2147483647)) ?_
      refine v_iconst F (v := 0) (dq dkX2_fire_0 34 rfl) ki_0 ?_
      refine v_iload_n F (dq dkX2_fire_0 35 rfl) rfl 0 rfl ?_
      refine v_aload_n F (dq dkX2_fire_0 36 rfl) rfl 1 rfl ?_
      refine v_get F 48 (xn (by decide)) xc_48 rfl inlX2 11 (by decide) (tc5 _ (List.mem_of_getElem? (i := 10) rfl)) rfl rfl (dq dkX2_fire_0 37 rfl) ?_
      refine v_ldc2 F (v := 3) (tc26 _ (List.mem_of_getElem? (i := 1) rfl)) (dq dkX2_fire_0 38 rfl) ?_
      refine v_lrem F (dq dkX2_fire_0 39 rfl) (by decide) ?_
      refine v_l2i F (dq dkX2_fire_1 0 rfl) ?_
      refine v_iadd F (dq dkX2_fire_1 1 rfl) ?_
      refine v_iconst F (v := 1) (dq dkX2_fire_1 2 rfl) ki_1 ?_
      refine v_isub F (dq dkX2_fire_1 3 rfl) ?_
      refine v_mmax F (tc26 _ (List.mem_of_getElem? (i := 2) rfl)) (tc21 _ (List.mem_of_getElem? (i := 4) rfl)) (tc21 _ (List.mem_of_getElem? (i := 1) rfl)) (tc21 _ (List.mem_of_getElem? (i := 5) rfl)) (Nat.le_of_ble_eq_true rfl) (Nat.le_of_ble_eq_true rfl) (Nat.le_of_ble_eq_true rfl) (Nat.le_of_ble_eq_true rfl) (dq dkX2_fire_1 4 rfl) ?_
      refine v_istore_n F (ls' := [(2, .int (if 0 < ((r13.1 + (((glot (plot r13.2 (((glot r13.2) * 48271) - ((glot r13.2) * 48271) / 2147483647 * 2147483647))) - (glot (plot r13.2 (((glot r13.2) * 48271) - ((glot r13.2) * 48271) / 2147483647 * 2147483647))) / 3 * 3).toInt32)) - 1) then ((r13.1 + (((glot (plot r13.2 (((glot r13.2) * 48271) - ((glot r13.2) * 48271) / 2147483647 * 2147483647))) - (glot (plot r13.2 (((glot r13.2) * 48271) - ((glot r13.2) * 48271) / 2147483647 * 2147483647))) / 3 * 3).toInt32)) - 1) else 0)), (0, .ref (K.1 + 48)), (1, .int a1)]) (dq dkX2_fire_1 5 rfl) rfl (by decide) rfl ?_
      refine v_sub [1, 2, 0] rfl ?_
      exact t_X2_fire_78 (plot r13.2 (((glot r13.2) * 48271) - ((glot r13.2) * 48271) / 2147483647 * 2147483647)) a1 (if 0 < ((r13.1 + (((glot (plot r13.2 (((glot r13.2) * 48271) - ((glot r13.2) * 48271) / 2147483647 * 2147483647))) - (glot (plot r13.2 (((glot r13.2) * 48271) - ((glot r13.2) * 48271) / 2147483647 * 2147483647))) / 3 * 3).toInt32)) - 1) then ((r13.1 + (((glot (plot r13.2 (((glot r13.2) * 48271) - ((glot r13.2) * 48271) / 2147483647 * 2147483647))) - (glot (plot r13.2 (((glot r13.2) * 48271) - ((glot r13.2) * 48271) / 2147483647 * 2147483647))) / 3 * 3).toInt32)) - 1) else 0) h F E
  · rw [if_pos c8] at h
    have h := Option.some.inj h
    subst h
    exact v_vret F E (dq dkX2_fire_0 3 rfl)
def rm_X2_burn : Room := { frames := 5, cells := 0, slots := 0, locals := 131 }
def f_X2_burn_3 : Nat → CS → Int32 → Int32 → Int32 → Int32 → Option (CS)
  | 0, _, _, _, _, _ => none
  | n + 1, x, a1, a2, a3, a4 => if a2 ≤ a4 then (some x) else (if (b2i (f_X10_isSection a1)) = 0 then (some x) else (gd (ib a1 9) (if (gi x 50 a1.toNatClampNeg) ≤ a3 then (some x) else ((f_X2_fire x a1).bind fun r6 => (f_X2_burn_3 n) r6 a1 a2 a3 (a4 + 1)))))
set_option maxRecDepth 100000 in
set_option maxHeartbeats 4000000 in
theorem t_X2_burn_3 {C : Cx} {K : KE} {y : MS} {R : CS}  (F : Fx C RX2 cX2_burn 5 rm_X2_burn K) (E : CE C (xf K R y) none 0 0 none) : ∀ (n : Nat) (x : CS) (a1 : Int32) (a2 : Int32) (a3 : Int32) (a4 : Int32) (h : f_X2_burn_3 n x a1 a2 a3 a4 = some R), V C 3 [(0, .ref (K.1 + 48)), (1, .int a1), (2, .int a2), (3, .int a3), (4, .int a4)] [] (xf K x y) 0 0 := by
  intro n
  induction n with
  | zero => intro x a1 a2 a3 a4 h; cases h
  | succ n ih =>
    intro x a1 a2 a3 a4 h
    rw [f_X2_burn_3] at h
    refine v_iload F (dq dkX2_burn_0 2 rfl) 4 rfl ?_
    refine v_iload_n F (dq dkX2_burn_0 3 rfl) rfl 2 rfl ?_
    refine v_icmp_ge F (tgt := 37) (dq dkX2_burn_0 4 rfl) (by decide) (fun c1 => ?_) (fun c1 => ?_)
    · rw [if_pos c1] at h
      have h := Option.some.inj h
      subst h
      exact v_vret F E (dq dkX2_burn_0 19 rfl)
    · rw [if_neg c1] at h
      refine v_iload_n F (dq dkX2_burn_0 5 rfl) rfl 1 rfl ?_
      refine v_callSN 1 F (kc1 := 0) (ks1 := 0) (as := [.int a1]) (st := []) (st1 := (.int (b2i (f_X10_isSection a1)) :: [])) (res := (some (.int (b2i (f_X10_isSection a1))))) (c_X10_isSection (l := C.2.1) a1) (List.mem_of_getElem? (i := 9) rfl) (tc14 _ (List.mem_of_getElem? (i := 1) rfl)) (tc1 _ (List.mem_of_getElem? (i := 2) rfl)) (tc14 _ (List.mem_of_getElem? (i := 2) rfl)) (by decide) rfl ⟨rfl, rfl, Nat.le_of_ble_eq_true rfl, Nat.le_of_ble_eq_true rfl⟩ ⟨Nat.le_of_ble_eq_true rfl, Nat.le_of_ble_eq_true rfl⟩ rfl (Nat.le_of_ble_eq_true rfl) rfl rfl rfl (dq dkX2_burn_0 6 rfl) ?_
      refine v_if_eq F (tgt := 37) (dq dkX2_burn_0 7 rfl) (by decide) (fun c3 => ?_) (fun c3 => ?_)
      · rw [if_pos c3] at h
        have h := Option.some.inj h
        subst h
        exact v_vret F E (dq dkX2_burn_0 19 rfl)
      · rw [if_neg c3] at h
        refine v_aload_n F (dq dkX2_burn_0 8 rfl) rfl 0 rfl ?_
        refine v_get F 48 (xn (by decide)) xc_48 rfl inlX2 3 (by decide) (tc5 _ (List.mem_of_getElem? (i := 1) rfl)) rfl rfl (dq dkX2_burn_0 9 rfl) ?_
        refine v_iload_n F (dq dkX2_burn_0 10 rfl) rfl 1 rfl ?_
        obtain ⟨g4, h⟩ := gd_of h
        refine v_iald F 50 (xn (by decide)) xc_50 (ib_in g4) (dq dkX2_burn_0 11 rfl) ?_
        refine v_iload_n F (dq dkX2_burn_0 12 rfl) rfl 3 rfl ?_
        refine v_icmp_le F (tgt := 37) (dq dkX2_burn_0 13 rfl) (by decide) (fun c5 => ?_) (fun c5 => ?_)
        · rw [if_pos c5] at h
          have h := Option.some.inj h
          subst h
          exact v_vret F E (dq dkX2_burn_0 19 rfl)
        · rw [if_neg c5] at h
          refine v_aload_n F (dq dkX2_burn_0 14 rfl) rfl 0 rfl ?_
          refine v_iload_n F (dq dkX2_burn_0 15 rfl) rfl 1 rfl ?_
          obtain ⟨r6, e7, h⟩ := bd_of h
          refine v_callV 1 F (q := 48) (kc1 := 0) (ks1 := 0) (as := [.int a1]) (st := []) (st1 := []) (res := none) (c_X2_fire (l := C.2.1) x y a1 e7) (xn (by decide)) xc_48 rfl (tc25 _ (List.mem_of_getElem? (i := 19) rfl)) (tc25 _ (List.mem_of_getElem? (i := 20) rfl)) (tc25 _ (List.mem_of_getElem? (i := 21) rfl)) (tc2 _ (List.mem_of_getElem? (i := 19) rfl)) (tc25 _ (List.mem_of_getElem? (i := 22) rfl)) (by decide) rfl ⟨rfl, rfl, Nat.le_of_ble_eq_true rfl, Nat.le_of_ble_eq_true rfl⟩ ⟨Nat.le_of_ble_eq_true rfl, Nat.le_of_ble_eq_true rfl⟩ rfl (Nat.le_of_ble_eq_true rfl) rfl rfl rfl (dq dkX2_burn_0 16 rfl) ?_
          refine v_iinc F (v := a4 + 1) (ls' := [(4, .int (a4 + 1)), (0, .ref (K.1 + 48)), (1, .int a1), (2, .int a2), (3, .int a3)]) (dq dkX2_burn_0 17 rfl) (j := 4) rfl (kv_add ki_1) (by decide) rfl ?_
          refine v_goto F (tgt := 3) (dq dkX2_burn_0 18 rfl) (by decide) ?_
          refine v_sub [1, 2, 3, 4, 0] rfl ?_
          exact ih r6 a1 a2 a3 (a4 + 1) h
def f_X2_burn (x : CS) (a1 : Int32) (a2 : Int32) (a3 : Int32) : Option (CS) := f_X2_burn_3 1000 x a1 a2 a3 0
set_option maxRecDepth 100000 in
set_option maxHeartbeats 4000000 in
theorem c_X2_burn {K : KE} {l : Launch} {R : CS} (x : CS) (y : MS) (a1 : Int32) (a2 : Int32) (a3 : Int32) (h : f_X2_burn x a1 a2 a3 = some R) : MC K l yX2_burn cX2_burn 5 none rm_X2_burn 0 0 [.ref (K.1 + 48), .int a1, .int a2, .int a3] (xf K x y) (xf K R y) none := by
  unfold f_X2_burn at h
  refine mc_of (ls0 := [(0, .ref (K.1 + 48)), (1, .int a1), (2, .int a2), (3, .int a3)]) (by decide) (Nat.le_of_ble_eq_true rfl) rfl (fun C hl hnm F E => ?_)
  have F : Fx C RX2 cX2_burn 5 rm_X2_burn K := F
  refine v_iconst F (v := 0) (dq dkX2_burn_0 0 rfl) ki_0 ?_
  refine v_istore F (ls' := [(4, .int 0), (0, .ref (K.1 + 48)), (1, .int a1), (2, .int a2), (3, .int a3)]) (dq dkX2_burn_0 1 rfl) (by decide) rfl ?_
  refine v_sub [1, 2, 3, 4, 0] rfl ?_
  exact t_X2_burn_3 F E 1000 x a1 a2 a3 0 h
def rm_X10_share : Room := { frames := 1, cells := 0, slots := 0, locals := 30 }
def f_X10_share (a0 : Int32) : Int32 := 4 - (if 0 ≤ (a0 - 4) then (a0 - 4) else 0 - (a0 - 4))
set_option maxRecDepth 100000 in
set_option maxHeartbeats 4000000 in
theorem c_X10_share {K : KE} {l : Launch} {M : GM} (a0 : Int32) : MC K l yX10_share cX10_share 1 (some .int) rm_X10_share 0 0 [.int a0] M M (some (.int (f_X10_share a0))) := by
  obtain ⟨R, h⟩ : ∃ R, f_X10_share a0 = R := ⟨_, rfl⟩
  rw [h]
  unfold f_X10_share at h
  refine mc_of (ls0 := [(0, .int a0)]) (by decide) (Nat.le_of_ble_eq_true rfl) rfl (fun C hl hnm F E => ?_)
  have F : Fx C RX10 cX10_share 1 rm_X10_share K := F
  refine v_iconst F (v := 4) (dq dkX10_share_0 0 rfl) ki_4 ?_
  refine v_iload_n F (dq dkX10_share_0 1 rfl) rfl 0 rfl ?_
  refine v_iconst F (v := 4) (dq dkX10_share_0 2 rfl) ki_4 ?_
  refine v_isub F (dq dkX10_share_0 3 rfl) ?_
  refine v_mabs F (tc26 _ (List.mem_of_getElem? (i := 17) rfl)) (tc26 _ (List.mem_of_getElem? (i := 18) rfl)) (tc21 _ (List.mem_of_getElem? (i := 1) rfl)) (tc26 _ (List.mem_of_getElem? (i := 19) rfl)) (Nat.le_of_ble_eq_true rfl) (Nat.le_of_ble_eq_true rfl) (Nat.le_of_ble_eq_true rfl) (Nat.le_of_ble_eq_true rfl) (dq dkX10_share_0 4 rfl) ?_
  refine v_isub F (dq dkX10_share_0 5 rfl) ?_
  subst h
  exact v_iret F E (dq dkX10_share_0 6 rfl)
def rm_X2_inch : Room := { frames := 4, cells := 0, slots := 0, locals := 109 }
def f_X2_inch_178 (k12 : CS → Int32 → Option (CS)) (x : CS) (a1 : Int32) : Option (CS) := k12 x (a1 + 1)
set_option maxRecDepth 100000 in
set_option maxHeartbeats 4000000 in
theorem t_X2_inch_178 {C : Cx} {K : KE} {y : MS} {R : CS}  (k12 : CS → Int32 → Option (CS)) (x : CS) (a1 : Int32) (hk12 : ∀ (x : CS) (a1 : Int32), k12 x a1 = some R → V C 12 [(0, .ref (K.1 + 48)), (1, .int a1)] [] (xf K x y) 0 0) (h : f_X2_inch_178 k12 x a1 = some R) (F : Fx C RX2 cX2_inch 5 rm_X2_inch K) (E : CE C (xf K R y) none 0 0 none) : V C 178 [(0, .ref (K.1 + 48)), (1, .int a1)] [] (xf K x y) 0 0 := by
  unfold f_X2_inch_178 at h
  refine v_iinc F (v := a1 + 1) (ls' := [(1, .int (a1 + 1)), (0, .ref (K.1 + 48))]) (dq dkX2_inch_2 27 rfl) (j := 1) rfl (kv_add ki_1) (by decide) rfl ?_
  refine v_goto F (tgt := 12) (dq dkX2_inch_2 28 rfl) (by decide) ?_
  refine v_sub [1, 0] rfl ?_
  exact hk12 x (a1 + 1) h
def f_X2_inch_151 (k12 : CS → Int32 → Option (CS)) (x : CS) (a1 : Int32) (a4 : Int32) : Option (CS) := if ((gi x 48 9) &&& (f_X2_bit a1)) = 0 then (f_X2_inch_178 k12 x a1) else (if a4 ≤ (gi x 48 10) then (f_X2_inch_178 k12 x a1) else (f_X2_inch_178 k12 (pi x 48 10 a4) a1))
set_option maxRecDepth 100000 in
set_option maxHeartbeats 4000000 in
theorem t_X2_inch_151 {C : Cx} {K : KE} {y : MS} {R : CS}  (k12 : CS → Int32 → Option (CS)) (x : CS) (a1 : Int32) (a4 : Int32) (hk12 : ∀ (x : CS) (a1 : Int32), k12 x a1 = some R → V C 12 [(0, .ref (K.1 + 48)), (1, .int a1)] [] (xf K x y) 0 0) (h : f_X2_inch_151 k12 x a1 a4 = some R) (F : Fx C RX2 cX2_inch 5 rm_X2_inch K) (E : CE C (xf K R y) none 0 0 none) : V C 151 [(0, .ref (K.1 + 48)), (1, .int a1), (4, .int a4)] [] (xf K x y) 0 0 := by
  unfold f_X2_inch_151 at h
  refine v_aload_n F (dq dkX2_inch_2 14 rfl) rfl 0 rfl ?_
  refine v_get F 48 (xn (by decide)) xc_48 rfl inlX2 9 (by decide) (tc5 _ (List.mem_of_getElem? (i := 7) rfl)) rfl rfl (dq dkX2_inch_2 15 rfl) ?_
  refine v_iload_n F (dq dkX2_inch_2 16 rfl) rfl 1 rfl ?_
  refine v_callS 1 F (kc1 := 0) (ks1 := 0) (as := [.int a1]) (st := [.int (gi x 48 9)]) (st1 := (.int (f_X2_bit a1) :: [.int (gi x 48 9)])) (res := (some (.int (f_X2_bit a1)))) (c_X2_bit (l := C.2.1) a1) (tc26 _ (List.mem_of_getElem? (i := 4) rfl)) (tc26 _ (List.mem_of_getElem? (i := 5) rfl)) (tc2 _ (List.mem_of_getElem? (i := 19) rfl)) (tc26 _ (List.mem_of_getElem? (i := 6) rfl)) (by decide) rfl ⟨rfl, rfl, Nat.le_of_ble_eq_true rfl, Nat.le_of_ble_eq_true rfl⟩ ⟨Nat.le_of_ble_eq_true rfl, Nat.le_of_ble_eq_true rfl⟩ rfl (Nat.le_of_ble_eq_true rfl) rfl rfl rfl (dq dkX2_inch_2 17 rfl) ?_
  refine v_iand F (dq dkX2_inch_2 18 rfl) ?_
  refine v_if_eq F (tgt := 178) (dq dkX2_inch_2 19 rfl) (by decide) (fun c2 => ?_) (fun c2 => ?_)
  · rw [if_pos c2] at h
    refine v_sub [0, 1] rfl ?_
    exact t_X2_inch_178 k12 x a1 hk12 h F E
  · rw [if_neg c2] at h
    refine v_iload F (dq dkX2_inch_2 20 rfl) 2 rfl ?_
    refine v_aload_n F (dq dkX2_inch_2 21 rfl) rfl 0 rfl ?_
    refine v_get F 48 (xn (by decide)) xc_48 rfl inlX2 10 (by decide) (tc5 _ (List.mem_of_getElem? (i := 9) rfl)) rfl rfl (dq dkX2_inch_2 22 rfl) ?_
    refine v_icmp_le F (tgt := 178) (dq dkX2_inch_2 23 rfl) (by decide) (fun c3 => ?_) (fun c3 => ?_)
    · rw [if_pos c3] at h
      refine v_sub [0, 1] rfl ?_
      exact t_X2_inch_178 k12 x a1 hk12 h F E
    · rw [if_neg c3] at h
      refine v_aload_n F (dq dkX2_inch_2 24 rfl) rfl 0 rfl ?_
      refine v_iload F (dq dkX2_inch_2 25 rfl) 2 rfl ?_
      refine v_put F 48 (xn (by decide)) xc_48 rfl inlX2 tyX2_ok nmX2 10 (by decide) (tc5 _ (List.mem_of_getElem? (i := 9) rfl)) rfl rfl (tyX2_ok 10 (by decide)) rfl rfl (Nat.le_of_ble_eq_true rfl) (dq dkX2_inch_2 26 rfl) ?_
      refine v_eqM (xwC (q := 48) (j := 10) (v := a4) (by decide) rfl) ?_
      refine v_sub [0, 1] rfl ?_
      exact t_X2_inch_178 k12 (pi x 48 10 a4) a1 hk12 h F E
def f_X2_inch_57 (k12 : CS → Int32 → Option (CS)) (x : CS) (a1 : Int32) : Option (CS) := gd (ib a1 9) (gd (ib a1 9) ((f_X8_of x 1 4 a1).bind fun r6 => (f_X2_asked x 1 (gi x 50 a1.toNatClampNeg) (gi x 49 a1.toNatClampNeg) r6).bind fun r8 => gd (ib a1 9) (gd (ib a1 9) ((f_X8_of r8.2 1 4 a1).bind fun r12 => (f_X2_asked r8.2 2 (gi r8.2 50 a1.toNatClampNeg) (gi r8.2 49 a1.toNatClampNeg) r12).bind fun r14 => (f_X8_of r14.2 1 3 a1).bind fun r17 => if ((r8.1 * (f_X10_share a1)) - ((r14.1 + r17) * 4)) ≤ 0 then (f_X2_inch_151 k12 r14.2 a1 ((r8.1 * (f_X10_share a1)) - ((r14.1 + r17) * 4))) else (f_X2_inch_151 k12 (pi r14.2 48 6 ((gi r14.2 48 6) ||| (f_X2_bit a1))) a1 ((r8.1 * (f_X10_share a1)) - ((r14.1 + r17) * 4)))))))
set_option maxRecDepth 100000 in
set_option maxHeartbeats 4000000 in
theorem t_X2_inch_57 {C : Cx} {K : KE} {y : MS} {R : CS}  (k12 : CS → Int32 → Option (CS)) (x : CS) (a1 : Int32) (hk12 : ∀ (x : CS) (a1 : Int32), k12 x a1 = some R → V C 12 [(0, .ref (K.1 + 48)), (1, .int a1)] [] (xf K x y) 0 0) (h : f_X2_inch_57 k12 x a1 = some R) (F : Fx C RX2 cX2_inch 5 rm_X2_inch K) (E : CE C (xf K R y) none 0 0 none) : V C 57 [(0, .ref (K.1 + 48)), (1, .int a1)] [] (xf K x y) 0 0 := by
  unfold f_X2_inch_57 at h
  refine v_aload_n F (dq dkX2_inch_0 36 rfl) rfl 0 rfl ?_
  refine v_iconst F (v := 1) (dq dkX2_inch_0 37 rfl) ki_1 ?_
  refine v_aload_n F (dq dkX2_inch_0 38 rfl) rfl 0 rfl ?_
  refine v_get F 48 (xn (by decide)) xc_48 rfl inlX2 3 (by decide) (tc5 _ (List.mem_of_getElem? (i := 1) rfl)) rfl rfl (dq dkX2_inch_0 39 rfl) ?_
  refine v_iload_n F (dq dkX2_inch_1 0 rfl) rfl 1 rfl ?_
  obtain ⟨g4, h⟩ := gd_of h
  refine v_iald F 50 (xn (by decide)) xc_50 (ib_in g4) (dq dkX2_inch_1 1 rfl) ?_
  refine v_aload_n F (dq dkX2_inch_1 2 rfl) rfl 0 rfl ?_
  refine v_get F 48 (xn (by decide)) xc_48 rfl inlX2 2 (by decide) (tc5 _ (List.mem_of_getElem? (i := 0) rfl)) rfl rfl (dq dkX2_inch_1 3 rfl) ?_
  refine v_iload_n F (dq dkX2_inch_1 4 rfl) rfl 1 rfl ?_
  obtain ⟨g5, h⟩ := gd_of h
  refine v_iald F 49 (xn (by decide)) xc_49 (ib_in g5) (dq dkX2_inch_1 5 rfl) ?_
  refine v_aload_n F (dq dkX2_inch_1 6 rfl) rfl 0 rfl ?_
  refine v_get F 48 (xn (by decide)) xc_48 rfl inlX2 0 (by decide) (tc5 _ (List.mem_of_getElem? (i := 11) rfl)) rfl rfl (dq dkX2_inch_1 7 rfl) ?_
  refine v_iconst F (v := 4) (dq dkX2_inch_1 8 rfl) ki_4 ?_
  refine v_iload_n F (dq dkX2_inch_1 9 rfl) rfl 1 rfl ?_
  obtain ⟨r6, e7, h⟩ := bd_of h
  refine v_callV 2 F (q := 1) (kc1 := 0) (ks1 := 0) (as := [.int 4, .int a1]) (st := [.int (gi x 49 a1.toNatClampNeg), .int (gi x 50 a1.toNatClampNeg), .int 1, .ref (K.1 + 48)]) (st1 := (.int r6 :: [.int (gi x 49 a1.toNatClampNeg), .int (gi x 50 a1.toNatClampNeg), .int 1, .ref (K.1 + 48)])) (res := (some (.int r6))) (c_X8_of (l := C.2.1) x y 1 4 a1 e7) (xn (by decide)) xc_1 rfl (tc20 _ (List.mem_of_getElem? (i := 13) rfl)) (tc14 _ (List.mem_of_getElem? (i := 11) rfl)) (tc14 _ (List.mem_of_getElem? (i := 12) rfl)) (tc1 _ (List.mem_of_getElem? (i := 15) rfl)) (tc14 _ (List.mem_of_getElem? (i := 13) rfl)) (by decide) rfl ⟨rfl, rfl, Nat.le_of_ble_eq_true rfl, Nat.le_of_ble_eq_true rfl⟩ ⟨Nat.le_of_ble_eq_true rfl, Nat.le_of_ble_eq_true rfl⟩ rfl (Nat.le_of_ble_eq_true rfl) rfl rfl rfl (dq dkX2_inch_1 10 rfl) ?_
  obtain ⟨r8, e9, h⟩ := bd_of h
  refine v_callV 4 F (q := 48) (kc1 := 0) (ks1 := 0) (as := [.int 1, .int (gi x 50 a1.toNatClampNeg), .int (gi x 49 a1.toNatClampNeg), .int r6]) (st := []) (st1 := (.int r8.1 :: [])) (res := (some (.int r8.1))) (c_X2_asked (l := C.2.1) x y 1 (gi x 50 a1.toNatClampNeg) (gi x 49 a1.toNatClampNeg) r6 e9) (xn (by decide)) xc_48 rfl (tc26 _ (List.mem_of_getElem? (i := 3) rfl)) (tc20 _ (List.mem_of_getElem? (i := 16) rfl)) (tc20 _ (List.mem_of_getElem? (i := 17) rfl)) (tc2 _ (List.mem_of_getElem? (i := 19) rfl)) (tc20 _ (List.mem_of_getElem? (i := 18) rfl)) (by decide) rfl ⟨rfl, rfl, Nat.le_of_ble_eq_true rfl, Nat.le_of_ble_eq_true rfl⟩ ⟨Nat.le_of_ble_eq_true rfl, Nat.le_of_ble_eq_true rfl⟩ rfl (Nat.le_of_ble_eq_true rfl) rfl rfl rfl (dq dkX2_inch_1 11 rfl) ?_
  refine v_istore_n F (ls' := [(2, .int r8.1), (0, .ref (K.1 + 48)), (1, .int a1)]) (dq dkX2_inch_1 12 rfl) rfl (by decide) rfl ?_
  refine v_aload_n F (dq dkX2_inch_1 13 rfl) rfl 1 rfl ?_
  refine v_iconst F (v := 2) (dq dkX2_inch_1 14 rfl) ki_2 ?_
  refine v_aload_n F (dq dkX2_inch_1 15 rfl) rfl 1 rfl ?_
  refine v_get F 48 (xn (by decide)) xc_48 rfl inlX2 3 (by decide) (tc5 _ (List.mem_of_getElem? (i := 1) rfl)) rfl rfl (dq dkX2_inch_1 16 rfl) ?_
  refine v_iload_n F (dq dkX2_inch_1 17 rfl) rfl 2 rfl ?_
  obtain ⟨g10, h⟩ := gd_of h
  refine v_iald F 50 (xn (by decide)) xc_50 (ib_in g10) (dq dkX2_inch_1 18 rfl) ?_
  refine v_aload_n F (dq dkX2_inch_1 19 rfl) rfl 1 rfl ?_
  refine v_get F 48 (xn (by decide)) xc_48 rfl inlX2 2 (by decide) (tc5 _ (List.mem_of_getElem? (i := 0) rfl)) rfl rfl (dq dkX2_inch_1 20 rfl) ?_
  refine v_iload_n F (dq dkX2_inch_1 21 rfl) rfl 2 rfl ?_
  obtain ⟨g11, h⟩ := gd_of h
  refine v_iald F 49 (xn (by decide)) xc_49 (ib_in g11) (dq dkX2_inch_1 22 rfl) ?_
  refine v_aload_n F (dq dkX2_inch_1 23 rfl) rfl 1 rfl ?_
  refine v_get F 48 (xn (by decide)) xc_48 rfl inlX2 0 (by decide) (tc5 _ (List.mem_of_getElem? (i := 11) rfl)) rfl rfl (dq dkX2_inch_1 24 rfl) ?_
  refine v_iconst F (v := 4) (dq dkX2_inch_1 25 rfl) ki_4 ?_
  refine v_iload_n F (dq dkX2_inch_1 26 rfl) rfl 2 rfl ?_
  obtain ⟨r12, e13, h⟩ := bd_of h
  refine v_callV 2 F (q := 1) (kc1 := 0) (ks1 := 0) (as := [.int 4, .int a1]) (st := [.int (gi r8.2 49 a1.toNatClampNeg), .int (gi r8.2 50 a1.toNatClampNeg), .int 2, .ref (K.1 + 48)]) (st1 := (.int r12 :: [.int (gi r8.2 49 a1.toNatClampNeg), .int (gi r8.2 50 a1.toNatClampNeg), .int 2, .ref (K.1 + 48)])) (res := (some (.int r12))) (c_X8_of (l := C.2.1) r8.2 y 1 4 a1 e13) (xn (by decide)) xc_1 rfl (tc20 _ (List.mem_of_getElem? (i := 13) rfl)) (tc14 _ (List.mem_of_getElem? (i := 11) rfl)) (tc14 _ (List.mem_of_getElem? (i := 12) rfl)) (tc1 _ (List.mem_of_getElem? (i := 15) rfl)) (tc14 _ (List.mem_of_getElem? (i := 13) rfl)) (by decide) rfl ⟨rfl, rfl, Nat.le_of_ble_eq_true rfl, Nat.le_of_ble_eq_true rfl⟩ ⟨Nat.le_of_ble_eq_true rfl, Nat.le_of_ble_eq_true rfl⟩ rfl (Nat.le_of_ble_eq_true rfl) rfl rfl rfl (dq dkX2_inch_1 27 rfl) ?_
  obtain ⟨r14, e15, h⟩ := bd_of h
  refine v_callV 4 F (q := 48) (kc1 := 0) (ks1 := 0) (as := [.int 2, .int (gi r8.2 50 a1.toNatClampNeg), .int (gi r8.2 49 a1.toNatClampNeg), .int r12]) (st := []) (st1 := (.int r14.1 :: [])) (res := (some (.int r14.1))) (c_X2_asked (l := C.2.1) r8.2 y 2 (gi r8.2 50 a1.toNatClampNeg) (gi r8.2 49 a1.toNatClampNeg) r12 e15) (xn (by decide)) xc_48 rfl (tc26 _ (List.mem_of_getElem? (i := 3) rfl)) (tc20 _ (List.mem_of_getElem? (i := 16) rfl)) (tc20 _ (List.mem_of_getElem? (i := 17) rfl)) (tc2 _ (List.mem_of_getElem? (i := 19) rfl)) (tc20 _ (List.mem_of_getElem? (i := 18) rfl)) (by decide) rfl ⟨rfl, rfl, Nat.le_of_ble_eq_true rfl, Nat.le_of_ble_eq_true rfl⟩ ⟨Nat.le_of_ble_eq_true rfl, Nat.le_of_ble_eq_true rfl⟩ rfl (Nat.le_of_ble_eq_true rfl) rfl rfl rfl (dq dkX2_inch_1 28 rfl) ?_
  refine v_istore_n F (ls' := [(3, .int r14.1), (2, .int r8.1), (0, .ref (K.1 + 48)), (1, .int a1)]) (dq dkX2_inch_1 29 rfl) rfl (by decide) rfl ?_
  refine v_iload_n F (dq dkX2_inch_1 30 rfl) rfl 1 rfl ?_
  refine v_iload_n F (dq dkX2_inch_1 31 rfl) rfl 3 rfl ?_
  refine v_callSN 1 F (kc1 := 0) (ks1 := 0) (as := [.int a1]) (st := [.int r8.1]) (st1 := (.int (f_X10_share a1) :: [.int r8.1])) (res := (some (.int (f_X10_share a1)))) (c_X10_share (l := C.2.1) a1) (List.mem_of_getElem? (i := 10) rfl) (tc26 _ (List.mem_of_getElem? (i := 15) rfl)) (tc1 _ (List.mem_of_getElem? (i := 2) rfl)) (tc26 _ (List.mem_of_getElem? (i := 16) rfl)) (by decide) rfl ⟨rfl, rfl, Nat.le_of_ble_eq_true rfl, Nat.le_of_ble_eq_true rfl⟩ ⟨Nat.le_of_ble_eq_true rfl, Nat.le_of_ble_eq_true rfl⟩ rfl (Nat.le_of_ble_eq_true rfl) rfl rfl rfl (dq dkX2_inch_1 32 rfl) ?_
  refine v_imul F (dq dkX2_inch_1 33 rfl) ?_
  refine v_iload_n F (dq dkX2_inch_1 34 rfl) rfl 0 rfl ?_
  refine v_aload_n F (dq dkX2_inch_1 35 rfl) rfl 2 rfl ?_
  refine v_get F 48 (xn (by decide)) xc_48 rfl inlX2 0 (by decide) (tc5 _ (List.mem_of_getElem? (i := 11) rfl)) rfl rfl (dq dkX2_inch_1 36 rfl) ?_
  refine v_iconst F (v := 3) (dq dkX2_inch_1 37 rfl) ki_3 ?_
  refine v_iload_n F (dq dkX2_inch_1 38 rfl) rfl 3 rfl ?_
  obtain ⟨r17, e18, h⟩ := bd_of h
  refine v_callV 2 F (q := 1) (kc1 := 0) (ks1 := 0) (as := [.int 3, .int a1]) (st := [.int r14.1, .int (r8.1 * (f_X10_share a1))]) (st1 := (.int r17 :: [.int r14.1, .int (r8.1 * (f_X10_share a1))])) (res := (some (.int r17))) (c_X8_of (l := C.2.1) r14.2 y 1 3 a1 e18) (xn (by decide)) xc_1 rfl (tc20 _ (List.mem_of_getElem? (i := 13) rfl)) (tc14 _ (List.mem_of_getElem? (i := 11) rfl)) (tc14 _ (List.mem_of_getElem? (i := 12) rfl)) (tc1 _ (List.mem_of_getElem? (i := 15) rfl)) (tc14 _ (List.mem_of_getElem? (i := 13) rfl)) (by decide) rfl ⟨rfl, rfl, Nat.le_of_ble_eq_true rfl, Nat.le_of_ble_eq_true rfl⟩ ⟨Nat.le_of_ble_eq_true rfl, Nat.le_of_ble_eq_true rfl⟩ rfl (Nat.le_of_ble_eq_true rfl) rfl rfl rfl (dq dkX2_inch_1 39 rfl) ?_
  refine v_iadd F (dq dkX2_inch_2 0 rfl) ?_
  refine v_iconst F (v := 4) (dq dkX2_inch_2 1 rfl) ki_4 ?_
  refine v_imul F (dq dkX2_inch_2 2 rfl) ?_
  refine v_isub F (dq dkX2_inch_2 3 rfl) ?_
  refine v_istore F (ls' := [(4, .int ((r8.1 * (f_X10_share a1)) - ((r14.1 + r17) * 4))), (3, .int r14.1), (2, .int r8.1), (0, .ref (K.1 + 48)), (1, .int a1)]) (dq dkX2_inch_2 4 rfl) (by decide) rfl ?_
  refine v_iload F (dq dkX2_inch_2 5 rfl) 0 rfl ?_
  refine v_if_le F (tgt := 151) (dq dkX2_inch_2 6 rfl) (by decide) (fun c19 => ?_) (fun c19 => ?_)
  · rw [if_pos c19] at h
    refine v_sub [3, 4, 0] rfl ?_
    exact t_X2_inch_151 k12 r14.2 a1 ((r8.1 * (f_X10_share a1)) - ((r14.1 + r17) * 4)) hk12 h F E
  · rw [if_neg c19] at h
    refine v_aload_n F (dq dkX2_inch_2 7 rfl) rfl 3 rfl ?_
    refine v_dup F (dq dkX2_inch_2 8 rfl) rfl ?_
    refine v_get F 48 (xn (by decide)) xc_48 rfl inlX2 6 (by decide) (tc5 _ (List.mem_of_getElem? (i := 4) rfl)) rfl rfl (dq dkX2_inch_2 9 rfl) ?_
    refine v_iload_n F (dq dkX2_inch_2 10 rfl) rfl 4 rfl ?_
    refine v_callS 1 F (kc1 := 0) (ks1 := 0) (as := [.int a1]) (st := [.int (gi r14.2 48 6), .ref (K.1 + 48)]) (st1 := (.int (f_X2_bit a1) :: [.int (gi r14.2 48 6), .ref (K.1 + 48)])) (res := (some (.int (f_X2_bit a1)))) (c_X2_bit (l := C.2.1) a1) (tc26 _ (List.mem_of_getElem? (i := 4) rfl)) (tc26 _ (List.mem_of_getElem? (i := 5) rfl)) (tc2 _ (List.mem_of_getElem? (i := 19) rfl)) (tc26 _ (List.mem_of_getElem? (i := 6) rfl)) (by decide) rfl ⟨rfl, rfl, Nat.le_of_ble_eq_true rfl, Nat.le_of_ble_eq_true rfl⟩ ⟨Nat.le_of_ble_eq_true rfl, Nat.le_of_ble_eq_true rfl⟩ rfl (Nat.le_of_ble_eq_true rfl) rfl rfl rfl (dq dkX2_inch_2 11 rfl) ?_
    refine v_ior F (dq dkX2_inch_2 12 rfl) ?_
    refine v_put F 48 (xn (by decide)) xc_48 rfl inlX2 tyX2_ok nmX2 6 (by decide) (tc5 _ (List.mem_of_getElem? (i := 4) rfl)) rfl rfl (tyX2_ok 6 (by decide)) rfl rfl (Nat.le_of_ble_eq_true rfl) (dq dkX2_inch_2 13 rfl) ?_
    refine v_eqM (xwC (q := 48) (j := 6) (v := (gi r14.2 48 6) ||| (f_X2_bit a1)) (by decide) rfl) ?_
    refine v_sub [3, 4, 0] rfl ?_
    exact t_X2_inch_151 k12 (pi r14.2 48 6 ((gi r14.2 48 6) ||| (f_X2_bit a1))) a1 ((r8.1 * (f_X10_share a1)) - ((r14.1 + r17) * 4)) hk12 h F E
def f_X2_inch_12 : Nat → CS → Int32 → Option (CS)
  | 0, _, _ => none
  | n + 1, x, a1 => if 9 ≤ a1 then (some x) else (gd (ib a1 9) (gd (ib a1 9) (if (f_X10_share a1) = 0 then (if ((gi (pi x 49 a1.toNatClampNeg ((gi x 49 a1.toNatClampNeg) + (f_X10_share a1))) 48 7) - (gi (pi x 49 a1.toNatClampNeg ((gi x 49 a1.toNatClampNeg) + (f_X10_share a1))) 48 7) / 2 * 2) = 0 then (gd (ib a1 9) (gd (ib a1 9) (f_X2_inch_57 (f_X2_inch_12 n) (pi (pi x 49 a1.toNatClampNeg ((gi x 49 a1.toNatClampNeg) + (f_X10_share a1))) 51 a1.toNatClampNeg ((gi (pi x 49 a1.toNatClampNeg ((gi x 49 a1.toNatClampNeg) + (f_X10_share a1))) 51 a1.toNatClampNeg) + 1)) a1))) else (f_X2_inch_57 (f_X2_inch_12 n) (pi x 49 a1.toNatClampNeg ((gi x 49 a1.toNatClampNeg) + (f_X10_share a1))) a1)) else (f_X2_inch_57 (f_X2_inch_12 n) (pi x 49 a1.toNatClampNeg ((gi x 49 a1.toNatClampNeg) + (f_X10_share a1))) a1))))
set_option maxRecDepth 100000 in
set_option maxHeartbeats 4000000 in
theorem t_X2_inch_12 {C : Cx} {K : KE} {y : MS} {R : CS}  (F : Fx C RX2 cX2_inch 5 rm_X2_inch K) (E : CE C (xf K R y) none 0 0 none) : ∀ (n : Nat) (x : CS) (a1 : Int32) (h : f_X2_inch_12 n x a1 = some R), V C 12 [(0, .ref (K.1 + 48)), (1, .int a1)] [] (xf K x y) 0 0 := by
  intro n
  induction n with
  | zero => intro x a1 h; cases h
  | succ n ih =>
    intro x a1 h
    rw [f_X2_inch_12] at h
    refine v_iload_n F (dq dkX2_inch_0 8 rfl) rfl 1 rfl ?_
    refine v_bipush F (v := 9) (dq dkX2_inch_0 9 rfl) kb_9 ?_
    refine v_icmp_ge F (tgt := 184) (dq dkX2_inch_0 10 rfl) (by decide) (fun c21 => ?_) (fun c21 => ?_)
    · rw [if_pos c21] at h
      have h := Option.some.inj h
      subst h
      exact v_vret F E (dq dkX2_inch_2 29 rfl)
    · rw [if_neg c21] at h
      refine v_aload_n F (dq dkX2_inch_0 11 rfl) rfl 0 rfl ?_
      refine v_get F 48 (xn (by decide)) xc_48 rfl inlX2 2 (by decide) (tc5 _ (List.mem_of_getElem? (i := 0) rfl)) rfl rfl (dq dkX2_inch_0 12 rfl) ?_
      refine v_iload_n F (dq dkX2_inch_0 13 rfl) rfl 1 rfl ?_
      refine v_dup2 F (dq dkX2_inch_0 14 rfl) rfl rfl ?_
      obtain ⟨g22, h⟩ := gd_of h
      refine v_iald F 49 (xn (by decide)) xc_49 (ib_in g22) (dq dkX2_inch_0 15 rfl) ?_
      refine v_iload_n F (dq dkX2_inch_0 16 rfl) rfl 1 rfl ?_
      refine v_callSN 1 F (kc1 := 0) (ks1 := 0) (as := [.int a1]) (st := [.int (gi x 49 a1.toNatClampNeg), .int a1, .ref (K.1 + 49)]) (st1 := (.int (f_X10_share a1) :: [.int (gi x 49 a1.toNatClampNeg), .int a1, .ref (K.1 + 49)])) (res := (some (.int (f_X10_share a1)))) (c_X10_share (l := C.2.1) a1) (List.mem_of_getElem? (i := 10) rfl) (tc26 _ (List.mem_of_getElem? (i := 15) rfl)) (tc1 _ (List.mem_of_getElem? (i := 2) rfl)) (tc26 _ (List.mem_of_getElem? (i := 16) rfl)) (by decide) rfl ⟨rfl, rfl, Nat.le_of_ble_eq_true rfl, Nat.le_of_ble_eq_true rfl⟩ ⟨Nat.le_of_ble_eq_true rfl, Nat.le_of_ble_eq_true rfl⟩ rfl (Nat.le_of_ble_eq_true rfl) rfl rfl rfl (dq dkX2_inch_0 17 rfl) ?_
      refine v_iadd F (dq dkX2_inch_0 18 rfl) ?_
      obtain ⟨g24, h⟩ := gd_of h
      refine v_iast F 49 (xn (by decide)) xc_49 (ib_in g24) (dq dkX2_inch_0 19 rfl) ?_
      refine v_eqM (xwC (q := 49) (j := a1.toNatClampNeg) (v := (gi x 49 a1.toNatClampNeg) + (f_X10_share a1)) (by decide) rfl) ?_
      refine v_iload_n F (dq dkX2_inch_0 20 rfl) rfl 1 rfl ?_
      refine v_callSN 1 F (kc1 := 0) (ks1 := 0) (as := [.int a1]) (st := []) (st1 := (.int (f_X10_share a1) :: [])) (res := (some (.int (f_X10_share a1)))) (c_X10_share (l := C.2.1) a1) (List.mem_of_getElem? (i := 10) rfl) (tc26 _ (List.mem_of_getElem? (i := 15) rfl)) (tc1 _ (List.mem_of_getElem? (i := 2) rfl)) (tc26 _ (List.mem_of_getElem? (i := 16) rfl)) (by decide) rfl ⟨rfl, rfl, Nat.le_of_ble_eq_true rfl, Nat.le_of_ble_eq_true rfl⟩ ⟨Nat.le_of_ble_eq_true rfl, Nat.le_of_ble_eq_true rfl⟩ rfl (Nat.le_of_ble_eq_true rfl) rfl rfl rfl (dq dkX2_inch_0 21 rfl) ?_
      refine v_if_ne F (tgt := 57) (dq dkX2_inch_0 22 rfl) (by decide) (fun c26 => ?_) (fun c26 => ?_)
      · rw [if_neg c26] at h
        exact t_X2_inch_57 (f_X2_inch_12 n) (pi x 49 a1.toNatClampNeg ((gi x 49 a1.toNatClampNeg) + (f_X10_share a1))) a1 ih h F E
      · rw [if_pos c26] at h
        refine v_aload_n F (dq dkX2_inch_0 23 rfl) rfl 0 rfl ?_
        refine v_get F 48 (xn (by decide)) xc_48 rfl inlX2 7 (by decide) (tc5 _ (List.mem_of_getElem? (i := 5) rfl)) rfl rfl (dq dkX2_inch_0 24 rfl) ?_
        refine v_iconst F (v := 2) (dq dkX2_inch_0 25 rfl) ki_2 ?_
        refine v_irem F (dq dkX2_inch_0 26 rfl) (by decide) ?_
        refine v_if_ne F (tgt := 57) (dq dkX2_inch_0 27 rfl) (by decide) (fun c27 => ?_) (fun c27 => ?_)
        · rw [if_neg c27] at h
          exact t_X2_inch_57 (f_X2_inch_12 n) (pi x 49 a1.toNatClampNeg ((gi x 49 a1.toNatClampNeg) + (f_X10_share a1))) a1 ih h F E
        · rw [if_pos c27] at h
          refine v_aload_n F (dq dkX2_inch_0 28 rfl) rfl 0 rfl ?_
          refine v_get F 48 (xn (by decide)) xc_48 rfl inlX2 4 (by decide) (tc5 _ (List.mem_of_getElem? (i := 2) rfl)) rfl rfl (dq dkX2_inch_0 29 rfl) ?_
          refine v_iload_n F (dq dkX2_inch_0 30 rfl) rfl 1 rfl ?_
          refine v_dup2 F (dq dkX2_inch_0 31 rfl) rfl rfl ?_
          obtain ⟨g28, h⟩ := gd_of h
          refine v_iald F 51 (xn (by decide)) xc_51 (ib_in g28) (dq dkX2_inch_0 32 rfl) ?_
          refine v_iconst F (v := 1) (dq dkX2_inch_0 33 rfl) ki_1 ?_
          refine v_iadd F (dq dkX2_inch_0 34 rfl) ?_
          obtain ⟨g29, h⟩ := gd_of h
          refine v_iast F 51 (xn (by decide)) xc_51 (ib_in g29) (dq dkX2_inch_0 35 rfl) ?_
          refine v_eqM (xwC (q := 51) (j := a1.toNatClampNeg) (v := (gi (pi x 49 a1.toNatClampNeg ((gi x 49 a1.toNatClampNeg) + (f_X10_share a1))) 51 a1.toNatClampNeg) + 1) (by decide) rfl) ?_
          exact t_X2_inch_57 (f_X2_inch_12 n) (pi (pi x 49 a1.toNatClampNeg ((gi x 49 a1.toNatClampNeg) + (f_X10_share a1))) 51 a1.toNatClampNeg ((gi (pi x 49 a1.toNatClampNeg ((gi x 49 a1.toNatClampNeg) + (f_X10_share a1))) 51 a1.toNatClampNeg) + 1)) a1 ih h F E
def f_X2_inch (x : CS) : Option (CS) := f_X2_inch_12 1000 (pi x 48 7 ((gi x 48 7) + 1)) 0
set_option maxRecDepth 100000 in
set_option maxHeartbeats 4000000 in
theorem c_X2_inch {K : KE} {l : Launch} {R : CS} (x : CS) (y : MS) (h : f_X2_inch x = some R) : MC K l yX2_inch cX2_inch 5 none rm_X2_inch 0 0 [.ref (K.1 + 48)] (xf K x y) (xf K R y) none := by
  unfold f_X2_inch at h
  refine mc_of (ls0 := [(0, .ref (K.1 + 48))]) (by decide) (Nat.le_of_ble_eq_true rfl) rfl (fun C hl hnm F E => ?_)
  have F : Fx C RX2 cX2_inch 5 rm_X2_inch K := F
  refine v_aload_n F (dq dkX2_inch_0 0 rfl) rfl 0 rfl ?_
  refine v_dup F (dq dkX2_inch_0 1 rfl) rfl ?_
  refine v_get F 48 (xn (by decide)) xc_48 rfl inlX2 7 (by decide) (tc5 _ (List.mem_of_getElem? (i := 5) rfl)) rfl rfl (dq dkX2_inch_0 2 rfl) ?_
  refine v_iconst F (v := 1) (dq dkX2_inch_0 3 rfl) ki_1 ?_
  refine v_iadd F (dq dkX2_inch_0 4 rfl) ?_
  refine v_put F 48 (xn (by decide)) xc_48 rfl inlX2 tyX2_ok nmX2 7 (by decide) (tc5 _ (List.mem_of_getElem? (i := 5) rfl)) rfl rfl (tyX2_ok 7 (by decide)) rfl rfl (Nat.le_of_ble_eq_true rfl) (dq dkX2_inch_0 5 rfl) ?_
  refine v_eqM (xwC (q := 48) (j := 7) (v := (gi x 48 7) + 1) (by decide) rfl) ?_
  refine v_iconst F (v := 0) (dq dkX2_inch_0 6 rfl) ki_0 ?_
  refine v_istore_n F (ls' := [(1, .int 0), (0, .ref (K.1 + 48))]) (dq dkX2_inch_0 7 rfl) rfl (by decide) rfl ?_
  refine v_sub [1, 0] rfl ?_
  exact t_X2_inch_12 F E 1000 (pi x 48 7 ((gi x 48 7) + 1)) 0 h
def rm_X2_spreadBy : Room := { frames := 5, cells := 0, slots := 0, locals := 133 }
def f_X2_spreadBy_2 : Nat → CS → Int32 → Int32 → Option (CS)
  | 0, _, _, _ => none
  | n + 1, x, a1, a2 => if a1 ≤ a2 then (some x) else (if 12 ≤ (gi x 48 7) then (some x) else ((f_X2_inch x).bind fun r3 => (f_X2_spreadBy_2 n) r3 a1 (a2 + 1)))
set_option maxRecDepth 100000 in
set_option maxHeartbeats 4000000 in
theorem t_X2_spreadBy_2 {C : Cx} {K : KE} {y : MS} {R : CS}  (F : Fx C RX2 cX2_spreadBy 3 rm_X2_spreadBy K) (E : CE C (xf K R y) none 0 0 none) : ∀ (n : Nat) (x : CS) (a1 : Int32) (a2 : Int32) (h : f_X2_spreadBy_2 n x a1 a2 = some R), V C 2 [(0, .ref (K.1 + 48)), (1, .int a1), (2, .int a2)] [] (xf K x y) 0 0 := by
  intro n
  induction n with
  | zero => intro x a1 a2 h; cases h
  | succ n ih =>
    intro x a1 a2 h
    rw [f_X2_spreadBy_2] at h
    refine v_iload_n F (dq dkX2_spreadBy_0 2 rfl) rfl 2 rfl ?_
    refine v_iload_n F (dq dkX2_spreadBy_0 3 rfl) rfl 1 rfl ?_
    refine v_icmp_ge F (tgt := 26) (dq dkX2_spreadBy_0 4 rfl) (by decide) (fun c1 => ?_) (fun c1 => ?_)
    · rw [if_pos c1] at h
      have h := Option.some.inj h
      subst h
      exact v_vret F E (dq dkX2_spreadBy_0 13 rfl)
    · rw [if_neg c1] at h
      refine v_aload_n F (dq dkX2_spreadBy_0 5 rfl) rfl 0 rfl ?_
      refine v_get F 48 (xn (by decide)) xc_48 rfl inlX2 7 (by decide) (tc5 _ (List.mem_of_getElem? (i := 5) rfl)) rfl rfl (dq dkX2_spreadBy_0 6 rfl) ?_
      refine v_bipush F (v := 12) (dq dkX2_spreadBy_0 7 rfl) kb_12 ?_
      refine v_icmp_ge F (tgt := 26) (dq dkX2_spreadBy_0 8 rfl) (by decide) (fun c2 => ?_) (fun c2 => ?_)
      · rw [if_pos c2] at h
        have h := Option.some.inj h
        subst h
        exact v_vret F E (dq dkX2_spreadBy_0 13 rfl)
      · rw [if_neg c2] at h
        refine v_aload_n F (dq dkX2_spreadBy_0 9 rfl) rfl 0 rfl ?_
        obtain ⟨r3, e4, h⟩ := bd_of h
        refine v_callV 0 F (q := 48) (kc1 := 0) (ks1 := 0) (as := []) (st := []) (st1 := []) (res := none) (c_X2_inch (l := C.2.1) x y e4) (xn (by decide)) xc_48 rfl (tc26 _ (List.mem_of_getElem? (i := 11) rfl)) (tc26 _ (List.mem_of_getElem? (i := 12) rfl)) (tc26 _ (List.mem_of_getElem? (i := 13) rfl)) (tc2 _ (List.mem_of_getElem? (i := 19) rfl)) (tc26 _ (List.mem_of_getElem? (i := 14) rfl)) (by decide) rfl ⟨rfl, rfl, Nat.le_of_ble_eq_true rfl, Nat.le_of_ble_eq_true rfl⟩ ⟨Nat.le_of_ble_eq_true rfl, Nat.le_of_ble_eq_true rfl⟩ rfl (Nat.le_of_ble_eq_true rfl) rfl rfl rfl (dq dkX2_spreadBy_0 10 rfl) ?_
        refine v_iinc F (v := a2 + 1) (ls' := [(2, .int (a2 + 1)), (0, .ref (K.1 + 48)), (1, .int a1)]) (dq dkX2_spreadBy_0 11 rfl) (j := 2) rfl (kv_add ki_1) (by decide) rfl ?_
        refine v_goto F (tgt := 2) (dq dkX2_spreadBy_0 12 rfl) (by decide) ?_
        refine v_sub [1, 2, 0] rfl ?_
        exact ih r3 a1 (a2 + 1) h
def f_X2_spreadBy (x : CS) (a1 : Int32) : Option (CS) := f_X2_spreadBy_2 1000 x a1 0
set_option maxRecDepth 100000 in
set_option maxHeartbeats 4000000 in
theorem c_X2_spreadBy {K : KE} {l : Launch} {R : CS} (x : CS) (y : MS) (a1 : Int32) (h : f_X2_spreadBy x a1 = some R) : MC K l yX2_spreadBy cX2_spreadBy 3 none rm_X2_spreadBy 0 0 [.ref (K.1 + 48), .int a1] (xf K x y) (xf K R y) none := by
  unfold f_X2_spreadBy at h
  refine mc_of (ls0 := [(0, .ref (K.1 + 48)), (1, .int a1)]) (by decide) (Nat.le_of_ble_eq_true rfl) rfl (fun C hl hnm F E => ?_)
  have F : Fx C RX2 cX2_spreadBy 3 rm_X2_spreadBy K := F
  refine v_iconst F (v := 0) (dq dkX2_spreadBy_0 0 rfl) ki_0 ?_
  refine v_istore_n F (ls' := [(2, .int 0), (0, .ref (K.1 + 48)), (1, .int a1)]) (dq dkX2_spreadBy_0 1 rfl) rfl (by decide) rfl ?_
  refine v_sub [1, 2, 0] rfl ?_
  exact t_X2_spreadBy_2 F E 1000 x a1 0 h
def rm_X2_watch : Room := { frames := 1, cells := 0, slots := 0, locals := 30 }
def f_X2_watch (x : CS) : CS := pi (pi x 48 9 ((gi x 48 6) ^^^ (-1))) 48 10 (-1000000)
set_option maxRecDepth 100000 in
set_option maxHeartbeats 4000000 in
theorem c_X2_watch {K : KE} {l : Launch} (x : CS) (y : MS) : MC K l yX2_watch cX2_watch 1 none rm_X2_watch 0 0 [.ref (K.1 + 48)] (xf K x y) (xf K (f_X2_watch x) y) none := by
  obtain ⟨R, h⟩ : ∃ R, f_X2_watch x = R := ⟨_, rfl⟩
  rw [h]
  unfold f_X2_watch at h
  refine mc_of (ls0 := [(0, .ref (K.1 + 48))]) (by decide) (Nat.le_of_ble_eq_true rfl) rfl (fun C hl hnm F E => ?_)
  have F : Fx C RX2 cX2_watch 1 rm_X2_watch K := F
  refine v_aload_n F (dq dkX2_watch_0 0 rfl) rfl 0 rfl ?_
  refine v_aload_n F (dq dkX2_watch_0 1 rfl) rfl 0 rfl ?_
  refine v_get F 48 (xn (by decide)) xc_48 rfl inlX2 6 (by decide) (tc5 _ (List.mem_of_getElem? (i := 4) rfl)) rfl rfl (dq dkX2_watch_0 2 rfl) ?_
  refine v_iconst F (v := (-1)) (dq dkX2_watch_0 3 rfl) ki_m1 ?_
  refine v_ixor F (dq dkX2_watch_0 4 rfl) ?_
  refine v_put F 48 (xn (by decide)) xc_48 rfl inlX2 tyX2_ok nmX2 9 (by decide) (tc5 _ (List.mem_of_getElem? (i := 7) rfl)) rfl rfl (tyX2_ok 9 (by decide)) rfl rfl (Nat.le_of_ble_eq_true rfl) (dq dkX2_watch_0 5 rfl) ?_
  refine v_eqM (xwC (q := 48) (j := 9) (v := (gi x 48 6) ^^^ (-1)) (by decide) rfl) ?_
  refine v_aload_n F (dq dkX2_watch_0 6 rfl) rfl 0 rfl ?_
  refine v_ldc F (v := (-1000000)) (tc5 _ (List.mem_of_getElem? (i := 8) rfl)) (dq dkX2_watch_0 7 rfl) ?_
  refine v_put F 48 (xn (by decide)) xc_48 rfl inlX2 tyX2_ok nmX2 10 (by decide) (tc5 _ (List.mem_of_getElem? (i := 9) rfl)) rfl rfl (tyX2_ok 10 (by decide)) rfl rfl (Nat.le_of_ble_eq_true rfl) (dq dkX2_watch_0 8 rfl) ?_
  refine v_eqM (xwC (q := 48) (j := 10) (v := (-1000000)) (by decide) rfl) ?_
  subst h
  exact v_vret F E (dq dkX2_watch_0 9 rfl)
def rm_X2_chancesWhole : Room := { frames := 1, cells := 0, slots := 0, locals := 30 }
def f_X2_chancesWhole_23 (k5 : Int32 → Int32 → Int32 → Option (Int32)) (x : CS) (a1 : Int32) (a2 : Int32) (a3 : Int32) : Option (Int32) := k5 a1 a2 (a3 + 1)
set_option maxRecDepth 100000 in
set_option maxHeartbeats 4000000 in
theorem t_X2_chancesWhole_23 {C : Cx} {K : KE} {y : MS} {R : Int32}  (k5 : Int32 → Int32 → Int32 → Option (Int32)) (x : CS) (a1 : Int32) (a2 : Int32) (a3 : Int32) (hk5 : ∀ (a1 : Int32) (a2 : Int32) (a3 : Int32), k5 a1 a2 a3 = some R → V C 5 [(0, .ref (K.1 + 48)), (1, .int a1), (2, .int a2), (3, .int a3)] [] (xf K x y) 0 0) (h : f_X2_chancesWhole_23 k5 x a1 a2 a3 = some R) (F : Fx C RX2 cX2_chancesWhole 4 rm_X2_chancesWhole K) (E : CE C (xf K x y) (some (.int R)) 0 0 (some .int)) : V C 23 [(0, .ref (K.1 + 48)), (1, .int a1), (2, .int a2), (3, .int a3)] [] (xf K x y) 0 0 := by
  unfold f_X2_chancesWhole_23 at h
  refine v_iinc F (v := a3 + 1) (ls' := [(3, .int (a3 + 1)), (0, .ref (K.1 + 48)), (1, .int a1), (2, .int a2)]) (dq dkX2_chancesWhole_0 15 rfl) (j := 3) rfl (kv_add ki_1) (by decide) rfl ?_
  refine v_goto F (tgt := 5) (dq dkX2_chancesWhole_0 16 rfl) (by decide) ?_
  refine v_sub [1, 2, 3, 0] rfl ?_
  exact hk5 a1 a2 (a3 + 1) h
def f_X2_chancesWhole_5 (x : CS) : Nat → Int32 → Int32 → Int32 → Option (Int32)
  | 0, _, _, _ => none
  | n + 1, a1, a2, a3 => if a1 < a3 then (some a2) else (if (4 * a3) < (gi x 48 10) then (f_X2_chancesWhole_23 (f_X2_chancesWhole_5 x n) x a1 a2 a3) else (f_X2_chancesWhole_23 (f_X2_chancesWhole_5 x n) x a1 (a2 + 1) a3))
set_option maxRecDepth 100000 in
set_option maxHeartbeats 4000000 in
theorem t_X2_chancesWhole_5 {C : Cx} {K : KE} {y : MS} {R : Int32}  (x : CS) (F : Fx C RX2 cX2_chancesWhole 4 rm_X2_chancesWhole K) (E : CE C (xf K x y) (some (.int R)) 0 0 (some .int)) : ∀ (n : Nat) (a1 : Int32) (a2 : Int32) (a3 : Int32) (h : f_X2_chancesWhole_5 x n a1 a2 a3 = some R), V C 5 [(0, .ref (K.1 + 48)), (1, .int a1), (2, .int a2), (3, .int a3)] [] (xf K x y) 0 0 := by
  intro n
  induction n with
  | zero => intro a1 a2 a3 h; cases h
  | succ n ih =>
    intro a1 a2 a3 h
    rw [f_X2_chancesWhole_5] at h
    refine v_iload_n F (dq dkX2_chancesWhole_0 5 rfl) rfl 3 rfl ?_
    refine v_iload_n F (dq dkX2_chancesWhole_0 6 rfl) rfl 1 rfl ?_
    refine v_icmp_gt F (tgt := 29) (dq dkX2_chancesWhole_0 7 rfl) (by decide) (fun c1 => ?_) (fun c1 => ?_)
    · rw [if_pos c1] at h
      refine v_iload_n F (dq dkX2_chancesWhole_0 17 rfl) rfl 2 rfl ?_
      have h := Option.some.inj h
      subst h
      exact v_iret F E (dq dkX2_chancesWhole_0 18 rfl)
    · rw [if_neg c1] at h
      refine v_aload_n F (dq dkX2_chancesWhole_0 8 rfl) rfl 0 rfl ?_
      refine v_get F 48 (xn (by decide)) xc_48 rfl inlX2 10 (by decide) (tc5 _ (List.mem_of_getElem? (i := 9) rfl)) rfl rfl (dq dkX2_chancesWhole_0 9 rfl) ?_
      refine v_iconst F (v := 4) (dq dkX2_chancesWhole_0 10 rfl) ki_4 ?_
      refine v_iload_n F (dq dkX2_chancesWhole_0 11 rfl) rfl 3 rfl ?_
      refine v_imul F (dq dkX2_chancesWhole_0 12 rfl) ?_
      refine v_icmp_gt F (tgt := 23) (dq dkX2_chancesWhole_0 13 rfl) (by decide) (fun c2 => ?_) (fun c2 => ?_)
      · rw [if_pos c2] at h
        exact t_X2_chancesWhole_23 (f_X2_chancesWhole_5 x n) x a1 a2 a3 ih h F E
      · rw [if_neg c2] at h
        refine v_iinc F (v := a2 + 1) (ls' := [(2, .int (a2 + 1)), (0, .ref (K.1 + 48)), (1, .int a1), (3, .int a3)]) (dq dkX2_chancesWhole_0 14 rfl) (j := 2) rfl (kv_add ki_1) (by decide) rfl ?_
        refine v_sub [1, 2, 0, 3] rfl ?_
        exact t_X2_chancesWhole_23 (f_X2_chancesWhole_5 x n) x a1 (a2 + 1) a3 ih h F E
def f_X2_chancesWhole (x : CS) (a1 : Int32) : Option (Int32) := f_X2_chancesWhole_5 x 1000 a1 0 (-a1)
set_option maxRecDepth 100000 in
set_option maxHeartbeats 4000000 in
theorem c_X2_chancesWhole {K : KE} {l : Launch} {R : Int32} (x : CS) (y : MS) (a1 : Int32) (h : f_X2_chancesWhole x a1 = some R) : MC K l yX2_chancesWhole cX2_chancesWhole 4 (some .int) rm_X2_chancesWhole 0 0 [.ref (K.1 + 48), .int a1] (xf K x y) (xf K x y) (some (.int R)) := by
  unfold f_X2_chancesWhole at h
  refine mc_of (ls0 := [(0, .ref (K.1 + 48)), (1, .int a1)]) (by decide) (Nat.le_of_ble_eq_true rfl) rfl (fun C hl hnm F E => ?_)
  have F : Fx C RX2 cX2_chancesWhole 4 rm_X2_chancesWhole K := F
  refine v_iconst F (v := 0) (dq dkX2_chancesWhole_0 0 rfl) ki_0 ?_
  refine v_istore_n F (ls' := [(2, .int 0), (0, .ref (K.1 + 48)), (1, .int a1)]) (dq dkX2_chancesWhole_0 1 rfl) rfl (by decide) rfl ?_
  refine v_iload_n F (dq dkX2_chancesWhole_0 2 rfl) rfl 2 rfl ?_
  refine v_ineg F (dq dkX2_chancesWhole_0 3 rfl) ?_
  refine v_istore_n F (ls' := [(3, .int (-a1)), (2, .int 0), (0, .ref (K.1 + 48)), (1, .int a1)]) (dq dkX2_chancesWhole_0 4 rfl) rfl (by decide) rfl ?_
  refine v_sub [2, 3, 1, 0] rfl ?_
  exact t_X2_chancesWhole_5 x F E 1000 a1 0 (-a1) h
def rm_X2_sew : Room := { frames := 5, cells := 0, slots := 0, locals := 113 }
def f_X2_sew_64 (k6 : CS → Int32 → Int32 → Int32 → Int32 → Option (CS)) (x : CS) (a2 : Int32) (a3 : Int32) (a4 : Int32) (a5 : Int32) : Option (CS) := k6 x a2 a3 a4 (a5 + 1)
set_option maxRecDepth 100000 in
set_option maxHeartbeats 4000000 in
theorem t_X2_sew_64 {C : Cx} {K : KE} {y : MS} {R : CS}  (k6 : CS → Int32 → Int32 → Int32 → Int32 → Option (CS)) (x : CS) (a2 : Int32) (a3 : Int32) (a4 : Int32) (a5 : Int32) (hk6 : ∀ (x : CS) (a2 : Int32) (a3 : Int32) (a4 : Int32) (a5 : Int32), k6 x a2 a3 a4 a5 = some R → V C 6 [(0, .ref (K.1 + 48)), (2, .int a2), (3, .int a3), (4, .int a4), (5, .int a5)] [] (xf K x y) 0 0) (h : f_X2_sew_64 k6 x a2 a3 a4 a5 = some R) (F : Fx C RX2 cX2_sew 6 rm_X2_sew K) (E : CE C (xf K R y) none 0 0 none) : V C 64 [(0, .ref (K.1 + 48)), (2, .int a2), (3, .int a3), (4, .int a4), (5, .int a5)] [] (xf K x y) 0 0 := by
  unfold f_X2_sew_64 at h
  refine v_iinc F (v := a5 + 1) (ls' := [(5, .int (a5 + 1)), (0, .ref (K.1 + 48)), (2, .int a2), (3, .int a3), (4, .int a4)]) (dq dkX2_sew_0 32 rfl) (j := 4) rfl (kv_add ki_1) (by decide) rfl ?_
  refine v_goto F (tgt := 6) (dq dkX2_sew_0 33 rfl) (by decide) ?_
  refine v_sub [1, 2, 3, 4, 0] rfl ?_
  exact hk6 x a2 a3 a4 (a5 + 1) h
def f_X2_sew_6 : Nat → CS → Int32 → Int32 → Int32 → Int32 → Option (CS)
  | 0, _, _, _, _, _ => none
  | n + 1, x, a2, a3, a4, a5 => if a2 < a5 then (some x) else (if (b2i (f_X10_isSection a5)) = 0 then (some x) else (if a3 ≤ a4 then (f_X2_sew_64 (f_X2_sew_6 n) x a2 a3 a4 a5) else (if (b2i (f_X2_isBroken x a5)) = 0 then (f_X2_sew_64 (f_X2_sew_6 n) x a2 a3 a4 a5) else (gd (ib a5 9) (if (gi x 50 a5.toNatClampNeg) ≤ 0 then (f_X2_sew_64 (f_X2_sew_6 n) x a2 a3 a4 a5) else (f_X2_sew_64 (f_X2_sew_6 n) (pi x 48 6 ((gi x 48 6) &&& ((f_X2_bit a5) ^^^ (-1)))) a2 a3 (a4 + 1) a5))))))
set_option maxRecDepth 100000 in
set_option maxHeartbeats 4000000 in
theorem t_X2_sew_6 {C : Cx} {K : KE} {y : MS} {R : CS}  (F : Fx C RX2 cX2_sew 6 rm_X2_sew K) (E : CE C (xf K R y) none 0 0 none) : ∀ (n : Nat) (x : CS) (a2 : Int32) (a3 : Int32) (a4 : Int32) (a5 : Int32) (h : f_X2_sew_6 n x a2 a3 a4 a5 = some R), V C 6 [(0, .ref (K.1 + 48)), (2, .int a2), (3, .int a3), (4, .int a4), (5, .int a5)] [] (xf K x y) 0 0 := by
  intro n
  induction n with
  | zero => intro x a2 a3 a4 a5 h; cases h
  | succ n ih =>
    intro x a2 a3 a4 a5 h
    rw [f_X2_sew_6] at h
    refine v_iload F (dq dkX2_sew_0 4 rfl) 4 rfl ?_
    refine v_iload_n F (dq dkX2_sew_0 5 rfl) rfl 1 rfl ?_
    refine v_icmp_gt F (tgt := 70) (dq dkX2_sew_0 6 rfl) (by decide) (fun c1 => ?_) (fun c1 => ?_)
    · rw [if_pos c1] at h
      have h := Option.some.inj h
      subst h
      exact v_vret F E (dq dkX2_sew_0 34 rfl)
    · rw [if_neg c1] at h
      refine v_iload F (dq dkX2_sew_0 7 rfl) 4 rfl ?_
      refine v_callSN 1 F (kc1 := 0) (ks1 := 0) (as := [.int a5]) (st := []) (st1 := (.int (b2i (f_X10_isSection a5)) :: [])) (res := (some (.int (b2i (f_X10_isSection a5))))) (c_X10_isSection (l := C.2.1) a5) (List.mem_of_getElem? (i := 9) rfl) (tc14 _ (List.mem_of_getElem? (i := 1) rfl)) (tc1 _ (List.mem_of_getElem? (i := 2) rfl)) (tc14 _ (List.mem_of_getElem? (i := 2) rfl)) (by decide) rfl ⟨rfl, rfl, Nat.le_of_ble_eq_true rfl, Nat.le_of_ble_eq_true rfl⟩ ⟨Nat.le_of_ble_eq_true rfl, Nat.le_of_ble_eq_true rfl⟩ rfl (Nat.le_of_ble_eq_true rfl) rfl rfl rfl (dq dkX2_sew_0 8 rfl) ?_
      refine v_if_eq F (tgt := 70) (dq dkX2_sew_0 9 rfl) (by decide) (fun c3 => ?_) (fun c3 => ?_)
      · rw [if_pos c3] at h
        have h := Option.some.inj h
        subst h
        exact v_vret F E (dq dkX2_sew_0 34 rfl)
      · rw [if_neg c3] at h
        refine v_iload F (dq dkX2_sew_0 10 rfl) 3 rfl ?_
        refine v_iload_n F (dq dkX2_sew_0 11 rfl) rfl 2 rfl ?_
        refine v_icmp_ge F (tgt := 64) (dq dkX2_sew_0 12 rfl) (by decide) (fun c4 => ?_) (fun c4 => ?_)
        · rw [if_pos c4] at h
          exact t_X2_sew_64 (f_X2_sew_6 n) x a2 a3 a4 a5 ih h F E
        · rw [if_neg c4] at h
          refine v_aload_n F (dq dkX2_sew_0 13 rfl) rfl 0 rfl ?_
          refine v_iload F (dq dkX2_sew_0 14 rfl) 4 rfl ?_
          refine v_callV 1 F (q := 48) (kc1 := 0) (ks1 := 0) (as := [.int a5]) (st := []) (st1 := (.int (b2i (f_X2_isBroken x a5)) :: [])) (res := (some (.int (b2i (f_X2_isBroken x a5))))) (c_X2_isBroken (l := C.2.1) x y a5) (xn (by decide)) xc_48 rfl (tc27 _ (List.mem_of_getElem? (i := 0) rfl)) (tc27 _ (List.mem_of_getElem? (i := 1) rfl)) (tc27 _ (List.mem_of_getElem? (i := 2) rfl)) (tc2 _ (List.mem_of_getElem? (i := 19) rfl)) (tc27 _ (List.mem_of_getElem? (i := 3) rfl)) (by decide) rfl ⟨rfl, rfl, Nat.le_of_ble_eq_true rfl, Nat.le_of_ble_eq_true rfl⟩ ⟨Nat.le_of_ble_eq_true rfl, Nat.le_of_ble_eq_true rfl⟩ rfl (Nat.le_of_ble_eq_true rfl) rfl rfl rfl (dq dkX2_sew_0 15 rfl) ?_
          refine v_if_eq F (tgt := 64) (dq dkX2_sew_0 16 rfl) (by decide) (fun c6 => ?_) (fun c6 => ?_)
          · rw [if_pos c6] at h
            exact t_X2_sew_64 (f_X2_sew_6 n) x a2 a3 a4 a5 ih h F E
          · rw [if_neg c6] at h
            refine v_aload_n F (dq dkX2_sew_0 17 rfl) rfl 0 rfl ?_
            refine v_get F 48 (xn (by decide)) xc_48 rfl inlX2 3 (by decide) (tc5 _ (List.mem_of_getElem? (i := 1) rfl)) rfl rfl (dq dkX2_sew_0 18 rfl) ?_
            refine v_iload F (dq dkX2_sew_0 19 rfl) 4 rfl ?_
            obtain ⟨g7, h⟩ := gd_of h
            refine v_iald F 50 (xn (by decide)) xc_50 (ib_in g7) (dq dkX2_sew_0 20 rfl) ?_
            refine v_if_le F (tgt := 64) (dq dkX2_sew_0 21 rfl) (by decide) (fun c8 => ?_) (fun c8 => ?_)
            · rw [if_pos c8] at h
              exact t_X2_sew_64 (f_X2_sew_6 n) x a2 a3 a4 a5 ih h F E
            · rw [if_neg c8] at h
              refine v_aload_n F (dq dkX2_sew_0 22 rfl) rfl 0 rfl ?_
              refine v_dup F (dq dkX2_sew_0 23 rfl) rfl ?_
              refine v_get F 48 (xn (by decide)) xc_48 rfl inlX2 6 (by decide) (tc5 _ (List.mem_of_getElem? (i := 4) rfl)) rfl rfl (dq dkX2_sew_0 24 rfl) ?_
              refine v_iload F (dq dkX2_sew_0 25 rfl) 4 rfl ?_
              refine v_callS 1 F (kc1 := 0) (ks1 := 0) (as := [.int a5]) (st := [.int (gi x 48 6), .ref (K.1 + 48)]) (st1 := (.int (f_X2_bit a5) :: [.int (gi x 48 6), .ref (K.1 + 48)])) (res := (some (.int (f_X2_bit a5)))) (c_X2_bit (l := C.2.1) a5) (tc26 _ (List.mem_of_getElem? (i := 4) rfl)) (tc26 _ (List.mem_of_getElem? (i := 5) rfl)) (tc2 _ (List.mem_of_getElem? (i := 19) rfl)) (tc26 _ (List.mem_of_getElem? (i := 6) rfl)) (by decide) rfl ⟨rfl, rfl, Nat.le_of_ble_eq_true rfl, Nat.le_of_ble_eq_true rfl⟩ ⟨Nat.le_of_ble_eq_true rfl, Nat.le_of_ble_eq_true rfl⟩ rfl (Nat.le_of_ble_eq_true rfl) rfl rfl rfl (dq dkX2_sew_0 26 rfl) ?_
              refine v_iconst F (v := (-1)) (dq dkX2_sew_0 27 rfl) ki_m1 ?_
              refine v_ixor F (dq dkX2_sew_0 28 rfl) ?_
              refine v_iand F (dq dkX2_sew_0 29 rfl) ?_
              refine v_put F 48 (xn (by decide)) xc_48 rfl inlX2 tyX2_ok nmX2 6 (by decide) (tc5 _ (List.mem_of_getElem? (i := 4) rfl)) rfl rfl (tyX2_ok 6 (by decide)) rfl rfl (Nat.le_of_ble_eq_true rfl) (dq dkX2_sew_0 30 rfl) ?_
              refine v_eqM (xwC (q := 48) (j := 6) (v := (gi x 48 6) &&& ((f_X2_bit a5) ^^^ (-1))) (by decide) rfl) ?_
              refine v_iinc F (v := a4 + 1) (ls' := [(4, .int (a4 + 1)), (0, .ref (K.1 + 48)), (2, .int a2), (3, .int a3), (5, .int a5)]) (dq dkX2_sew_0 31 rfl) (j := 3) rfl (kv_add ki_1) (by decide) rfl ?_
              refine v_sub [1, 2, 3, 0, 4] rfl ?_
              exact t_X2_sew_64 (f_X2_sew_6 n) (pi x 48 6 ((gi x 48 6) &&& ((f_X2_bit a5) ^^^ (-1)))) a2 a3 (a4 + 1) a5 ih h F E
def f_X2_sew (x : CS) (a1 : Int32) (a2 : Int32) (a3 : Int32) : Option (CS) := f_X2_sew_6 1000 x a2 a3 0 a1
set_option maxRecDepth 100000 in
set_option maxHeartbeats 4000000 in
theorem c_X2_sew {K : KE} {l : Launch} {R : CS} (x : CS) (y : MS) (a1 : Int32) (a2 : Int32) (a3 : Int32) (h : f_X2_sew x a1 a2 a3 = some R) : MC K l yX2_sew cX2_sew 6 none rm_X2_sew 0 0 [.ref (K.1 + 48), .int a1, .int a2, .int a3] (xf K x y) (xf K R y) none := by
  unfold f_X2_sew at h
  refine mc_of (ls0 := [(0, .ref (K.1 + 48)), (1, .int a1), (2, .int a2), (3, .int a3)]) (by decide) (Nat.le_of_ble_eq_true rfl) rfl (fun C hl hnm F E => ?_)
  have F : Fx C RX2 cX2_sew 6 rm_X2_sew K := F
  refine v_iconst F (v := 0) (dq dkX2_sew_0 0 rfl) ki_0 ?_
  refine v_istore F (ls' := [(4, .int 0), (0, .ref (K.1 + 48)), (1, .int a1), (2, .int a2), (3, .int a3)]) (dq dkX2_sew_0 1 rfl) (by decide) rfl ?_
  refine v_iload_n F (dq dkX2_sew_0 2 rfl) rfl 2 rfl ?_
  refine v_istore F (ls' := [(5, .int a1), (4, .int 0), (0, .ref (K.1 + 48)), (1, .int a1), (2, .int a2), (3, .int a3)]) (dq dkX2_sew_0 3 rfl) (by decide) rfl ?_
  refine v_sub [2, 4, 5, 1, 0] rfl ?_
  exact t_X2_sew_6 F E 1000 x a2 a3 0 a1 h
def rm_X2_make : Room := { frames := 6, cells := 0, slots := 0, locals := 155 }
def f_X2_make_114 (k84 : CS → Int32 → Int32 → Int32 → Int32 → Option (CS)) (x : CS) (a1 : Int32) (a3 : Int32) (a5 : Int32) (a6 : Int32) (s0 : Int32) (s1 : Int32) (s2 : Int32) : Option (CS) := (f_X2_burn x s2 s1 s0).bind fun r1 => k84 r1 a1 a3 a5 (a6 + 1)
set_option maxRecDepth 100000 in
set_option maxHeartbeats 4000000 in
theorem t_X2_make_114 {C : Cx} {K : KE} {y : MS} {R : CS}  (k84 : CS → Int32 → Int32 → Int32 → Int32 → Option (CS)) (x : CS) (a1 : Int32) (a3 : Int32) (a5 : Int32) (a6 : Int32) (s0 : Int32) (s1 : Int32) (s2 : Int32) (hk84 : ∀ (x : CS) (a1 : Int32) (a3 : Int32) (a5 : Int32) (a6 : Int32), k84 x a1 a3 a5 a6 = some R → V C 84 [(0, .ref (K.1 + 48)), (1, .int a1), (3, .int a3), (5, .int a5), (6, .int a6)] [] (xf K x y) 0 0) (h : f_X2_make_114 k84 x a1 a3 a5 a6 s0 s1 s2 = some R) (F : Fx C RX2 cX2_make 7 rm_X2_make K) (E : CE C (xf K R y) none 0 0 none) : V C 114 [(0, .ref (K.1 + 48)), (1, .int a1), (3, .int a3), (5, .int a5), (6, .int a6)] [.int s0, .int s1, .int s2, .ref (K.1 + 48)] (xf K x y) 0 0 := by
  unfold f_X2_make_114 at h
  obtain ⟨r1, e2, h⟩ := bd_of h
  refine v_callV 3 F (q := 48) (kc1 := 0) (ks1 := 0) (as := [.int s2, .int s1, .int s0]) (st := []) (st1 := []) (res := none) (c_X2_burn (l := C.2.1) x y s2 s1 s0 e2) (xn (by decide)) xc_48 rfl (tc25 _ (List.mem_of_getElem? (i := 15) rfl)) (tc25 _ (List.mem_of_getElem? (i := 16) rfl)) (tc25 _ (List.mem_of_getElem? (i := 17) rfl)) (tc2 _ (List.mem_of_getElem? (i := 19) rfl)) (tc25 _ (List.mem_of_getElem? (i := 18) rfl)) (by decide) rfl ⟨rfl, rfl, Nat.le_of_ble_eq_true rfl, Nat.le_of_ble_eq_true rfl⟩ ⟨Nat.le_of_ble_eq_true rfl, Nat.le_of_ble_eq_true rfl⟩ rfl (Nat.le_of_ble_eq_true rfl) rfl rfl rfl (dq dkX2_make_1 1 rfl) ?_
  refine v_iinc F (v := a6 + 1) (ls' := [(6, .int (a6 + 1)), (0, .ref (K.1 + 48)), (1, .int a1), (3, .int a3), (5, .int a5)]) (dq dkX2_make_1 2 rfl) (j := 4) rfl (kv_add ki_1) (by decide) rfl ?_
  refine v_goto F (tgt := 84) (dq dkX2_make_1 3 rfl) (by decide) ?_
  refine v_sub [1, 2, 3, 4, 0] rfl ?_
  exact hk84 r1 a1 a3 a5 (a6 + 1) h
def f_X2_make_84 : Nat → CS → Int32 → Int32 → Int32 → Int32 → Option (CS)
  | 0, _, _, _, _, _ => none
  | n + 1, x, a1, a3, a5, a6 => if a5 < a6 then (some x) else (if a1 = 2 then ((f_X8_of x 1 5 a6).bind fun r5 => f_X2_make_114 (f_X2_make_84 n) x a1 a3 a5 a6 r5 a3 a6) else (f_X2_make_114 (f_X2_make_84 n) x a1 a3 a5 a6 0 a3 a6))
set_option maxRecDepth 100000 in
set_option maxHeartbeats 4000000 in
theorem t_X2_make_84 {C : Cx} {K : KE} {y : MS} {R : CS}  (F : Fx C RX2 cX2_make 7 rm_X2_make K) (E : CE C (xf K R y) none 0 0 none) : ∀ (n : Nat) (x : CS) (a1 : Int32) (a3 : Int32) (a5 : Int32) (a6 : Int32) (h : f_X2_make_84 n x a1 a3 a5 a6 = some R), V C 84 [(0, .ref (K.1 + 48)), (1, .int a1), (3, .int a3), (5, .int a5), (6, .int a6)] [] (xf K x y) 0 0 := by
  intro n
  induction n with
  | zero => intro x a1 a3 a5 a6 h; cases h
  | succ n ih =>
    intro x a1 a3 a5 a6 h
    rw [f_X2_make_84] at h
    refine v_iload F (dq dkX2_make_0 25 rfl) 4 rfl ?_
    refine v_iload F (dq dkX2_make_0 26 rfl) 3 rfl ?_
    refine v_icmp_gt F (tgt := 123) (dq dkX2_make_0 27 rfl) (by decide) (fun c3 => ?_) (fun c3 => ?_)
    · rw [if_pos c3] at h
      refine v_goto F (tgt := 186) (dq dkX2_make_1 4 rfl) (by decide) ?_
      have h := Option.some.inj h
      subst h
      exact v_vret F E (dq dkX2_make_1 36 rfl)
    · rw [if_neg c3] at h
      refine v_aload_n F (dq dkX2_make_0 28 rfl) rfl 0 rfl ?_
      refine v_iload F (dq dkX2_make_0 29 rfl) 4 rfl ?_
      refine v_iload_n F (dq dkX2_make_0 30 rfl) rfl 2 rfl ?_
      refine v_iload_n F (dq dkX2_make_0 31 rfl) rfl 1 rfl ?_
      refine v_iconst F (v := 2) (dq dkX2_make_0 32 rfl) ki_2 ?_
      refine v_icmp_ne F (tgt := 113) (dq dkX2_make_0 33 rfl) (by decide) (fun c4 => ?_) (fun c4 => ?_)
      · rw [if_neg c4] at h
        refine v_iconst F (v := 0) (dq dkX2_make_1 0 rfl) ki_0 ?_
        exact t_X2_make_114 (f_X2_make_84 n) x a1 a3 a5 a6 0 a3 a6 ih h F E
      · rw [if_pos c4] at h
        refine v_aload_n F (dq dkX2_make_0 34 rfl) rfl 0 rfl ?_
        refine v_get F 48 (xn (by decide)) xc_48 rfl inlX2 0 (by decide) (tc5 _ (List.mem_of_getElem? (i := 11) rfl)) rfl rfl (dq dkX2_make_0 35 rfl) ?_
        refine v_iconst F (v := 5) (dq dkX2_make_0 36 rfl) ki_5 ?_
        refine v_iload F (dq dkX2_make_0 37 rfl) 4 rfl ?_
        obtain ⟨r5, e6, h⟩ := bd_of h
        refine v_callV 2 F (q := 1) (kc1 := 0) (ks1 := 0) (as := [.int 5, .int a6]) (st := [.int a3, .int a6, .ref (K.1 + 48)]) (st1 := (.int r5 :: [.int a3, .int a6, .ref (K.1 + 48)])) (res := (some (.int r5))) (c_X8_of (l := C.2.1) x y 1 5 a6 e6) (xn (by decide)) xc_1 rfl (tc20 _ (List.mem_of_getElem? (i := 13) rfl)) (tc14 _ (List.mem_of_getElem? (i := 11) rfl)) (tc14 _ (List.mem_of_getElem? (i := 12) rfl)) (tc1 _ (List.mem_of_getElem? (i := 15) rfl)) (tc14 _ (List.mem_of_getElem? (i := 13) rfl)) (by decide) rfl ⟨rfl, rfl, Nat.le_of_ble_eq_true rfl, Nat.le_of_ble_eq_true rfl⟩ ⟨Nat.le_of_ble_eq_true rfl, Nat.le_of_ble_eq_true rfl⟩ rfl (Nat.le_of_ble_eq_true rfl) rfl rfl rfl (dq dkX2_make_0 38 rfl) ?_
        refine v_goto F (tgt := 114) (dq dkX2_make_0 39 rfl) (by decide) ?_
        exact t_X2_make_114 (f_X2_make_84 n) x a1 a3 a5 a6 r5 a3 a6 ih h F E
def f_X2_make_80 (x : CS) (a1 : Int32) (a3 : Int32) (a4 : Int32) (a5 : Int32) : Option (CS) := f_X2_make_84 1000 x a1 a3 a5 a4
set_option maxRecDepth 100000 in
set_option maxHeartbeats 4000000 in
theorem t_X2_make_80 {C : Cx} {K : KE} {y : MS} {R : CS}  (x : CS) (a1 : Int32) (a3 : Int32) (a4 : Int32) (a5 : Int32) (h : f_X2_make_80 x a1 a3 a4 a5 = some R) (F : Fx C RX2 cX2_make 7 rm_X2_make K) (E : CE C (xf K R y) none 0 0 none) : V C 80 [(0, .ref (K.1 + 48)), (1, .int a1), (3, .int a3), (4, .int a4), (5, .int a5)] [] (xf K x y) 0 0 := by
  unfold f_X2_make_80 at h
  refine v_iload F (dq dkX2_make_0 23 rfl) 3 rfl ?_
  refine v_istore F (ls' := [(6, .int a4), (0, .ref (K.1 + 48)), (1, .int a1), (3, .int a3), (4, .int a4), (5, .int a5)]) (dq dkX2_make_0 24 rfl) (by decide) rfl ?_
  refine v_sub [1, 2, 3, 5, 0] rfl ?_
  exact t_X2_make_84 F E 1000 x a1 a3 a5 a4 h
def f_X2_make_159 : Nat → CS → Int32 → Int32 → Int32 → Option (CS)
  | 0, _, _, _, _ => none
  | n + 1, x, a3, a5, a6 => if a5 < a6 then (some x) else (gd (ib a6 9) (gd (ib a6 9) ((f_X2_make_159 n) (pi x 51 a6.toNatClampNeg ((gi x 51 a6.toNatClampNeg) + a3)) a3 a5 (a6 + 1))))
set_option maxRecDepth 100000 in
set_option maxHeartbeats 4000000 in
theorem t_X2_make_159 {C : Cx} {K : KE} {y : MS} {R : CS}  (F : Fx C RX2 cX2_make 7 rm_X2_make K) (E : CE C (xf K R y) none 0 0 none) : ∀ (n : Nat) (x : CS) (a3 : Int32) (a5 : Int32) (a6 : Int32) (h : f_X2_make_159 n x a3 a5 a6 = some R), V C 159 [(0, .ref (K.1 + 48)), (3, .int a3), (5, .int a5), (6, .int a6)] [] (xf K x y) 0 0 := by
  intro n
  induction n with
  | zero => intro x a3 a5 a6 h; cases h
  | succ n ih =>
    intro x a3 a5 a6 h
    rw [f_X2_make_159] at h
    refine v_iload F (dq dkX2_make_1 22 rfl) 3 rfl ?_
    refine v_iload F (dq dkX2_make_1 23 rfl) 2 rfl ?_
    refine v_icmp_gt F (tgt := 183) (dq dkX2_make_1 24 rfl) (by decide) (fun c7 => ?_) (fun c7 => ?_)
    · rw [if_pos c7] at h
      refine v_goto F (tgt := 186) (dq dkX2_make_1 35 rfl) (by decide) ?_
      have h := Option.some.inj h
      subst h
      exact v_vret F E (dq dkX2_make_1 36 rfl)
    · rw [if_neg c7] at h
      refine v_aload_n F (dq dkX2_make_1 25 rfl) rfl 0 rfl ?_
      refine v_get F 48 (xn (by decide)) xc_48 rfl inlX2 4 (by decide) (tc5 _ (List.mem_of_getElem? (i := 2) rfl)) rfl rfl (dq dkX2_make_1 26 rfl) ?_
      refine v_iload F (dq dkX2_make_1 27 rfl) 3 rfl ?_
      refine v_dup2 F (dq dkX2_make_1 28 rfl) rfl rfl ?_
      obtain ⟨g8, h⟩ := gd_of h
      refine v_iald F 51 (xn (by decide)) xc_51 (ib_in g8) (dq dkX2_make_1 29 rfl) ?_
      refine v_iload_n F (dq dkX2_make_1 30 rfl) rfl 1 rfl ?_
      refine v_iadd F (dq dkX2_make_1 31 rfl) ?_
      obtain ⟨g9, h⟩ := gd_of h
      refine v_iast F 51 (xn (by decide)) xc_51 (ib_in g9) (dq dkX2_make_1 32 rfl) ?_
      refine v_eqM (xwC (q := 51) (j := a6.toNatClampNeg) (v := (gi x 51 a6.toNatClampNeg) + a3) (by decide) rfl) ?_
      refine v_iinc F (v := a6 + 1) (ls' := [(6, .int (a6 + 1)), (0, .ref (K.1 + 48)), (3, .int a3), (5, .int a5)]) (dq dkX2_make_1 33 rfl) (j := 3) rfl (kv_add ki_1) (by decide) rfl ?_
      refine v_goto F (tgt := 159) (dq dkX2_make_1 34 rfl) (by decide) ?_
      refine v_sub [1, 2, 3, 0] rfl ?_
      exact ih (pi x 51 a6.toNatClampNeg ((gi x 51 a6.toNatClampNeg) + a3)) a3 a5 (a6 + 1) h
def f_X2_make_25 (x : CS) (a1 : Int32) (a3 : Int32) (a4 : Int32) (s0 : Int32) : Option (CS) := if (b2i (f_X10_isSection a4)) = 0 then (some x) else (if (b2i (f_X10_isSection s0)) = 0 then (some x) else (if a1 = 1 then (f_X2_make_80 x a1 a3 a4 s0) else (if a1 = 2 then (f_X2_make_80 x a1 a3 a4 s0) else (if a1 = 3 then ((f_X2_spreadBy x a3).bind fun r17 => some r17) else (if a1 = 4 then ((f_X2_sew x a4 s0 a3).bind fun r20 => some r20) else (if a1 = 5 then ((f_X2_sew x a4 s0 a3).bind fun r23 => f_X2_make_159 1000 r23 a3 s0 a4) else (some x)))))))
set_option maxRecDepth 100000 in
set_option maxHeartbeats 4000000 in
theorem t_X2_make_25 {C : Cx} {K : KE} {y : MS} {R : CS}  (x : CS) (a1 : Int32) (a3 : Int32) (a4 : Int32) (s0 : Int32) (h : f_X2_make_25 x a1 a3 a4 s0 = some R) (F : Fx C RX2 cX2_make 7 rm_X2_make K) (E : CE C (xf K R y) none 0 0 none) : V C 25 [(0, .ref (K.1 + 48)), (1, .int a1), (3, .int a3), (4, .int a4)] [.int s0] (xf K x y) 0 0 := by
  unfold f_X2_make_25 at h
  refine v_istore F (ls' := [(5, .int s0), (0, .ref (K.1 + 48)), (1, .int a1), (3, .int a3), (4, .int a4)]) (dq dkX2_make_0 13 rfl) (by decide) rfl ?_
  refine v_iload F (dq dkX2_make_0 14 rfl) 4 rfl ?_
  refine v_callSN 1 F (kc1 := 0) (ks1 := 0) (as := [.int a4]) (st := []) (st1 := (.int (b2i (f_X10_isSection a4)) :: [])) (res := (some (.int (b2i (f_X10_isSection a4))))) (c_X10_isSection (l := C.2.1) a4) (List.mem_of_getElem? (i := 9) rfl) (tc14 _ (List.mem_of_getElem? (i := 1) rfl)) (tc1 _ (List.mem_of_getElem? (i := 2) rfl)) (tc14 _ (List.mem_of_getElem? (i := 2) rfl)) (by decide) rfl ⟨rfl, rfl, Nat.le_of_ble_eq_true rfl, Nat.le_of_ble_eq_true rfl⟩ ⟨Nat.le_of_ble_eq_true rfl, Nat.le_of_ble_eq_true rfl⟩ rfl (Nat.le_of_ble_eq_true rfl) rfl rfl rfl (dq dkX2_make_0 15 rfl) ?_
  refine v_if_eq F (tgt := 43) (dq dkX2_make_0 16 rfl) (by decide) (fun c11 => ?_) (fun c11 => ?_)
  · rw [if_pos c11] at h
    have h := Option.some.inj h
    subst h
    exact v_vret F E (dq dkX2_make_0 20 rfl)
  · rw [if_neg c11] at h
    refine v_iload F (dq dkX2_make_0 17 rfl) 0 rfl ?_
    refine v_callSN 1 F (kc1 := 0) (ks1 := 0) (as := [.int s0]) (st := []) (st1 := (.int (b2i (f_X10_isSection s0)) :: [])) (res := (some (.int (b2i (f_X10_isSection s0))))) (c_X10_isSection (l := C.2.1) s0) (List.mem_of_getElem? (i := 9) rfl) (tc14 _ (List.mem_of_getElem? (i := 1) rfl)) (tc1 _ (List.mem_of_getElem? (i := 2) rfl)) (tc14 _ (List.mem_of_getElem? (i := 2) rfl)) (by decide) rfl ⟨rfl, rfl, Nat.le_of_ble_eq_true rfl, Nat.le_of_ble_eq_true rfl⟩ ⟨Nat.le_of_ble_eq_true rfl, Nat.le_of_ble_eq_true rfl⟩ rfl (Nat.le_of_ble_eq_true rfl) rfl rfl rfl (dq dkX2_make_0 18 rfl) ?_
    refine v_if_ne F (tgt := 44) (dq dkX2_make_0 19 rfl) (by decide) (fun c13 => ?_) (fun c13 => ?_)
    · rw [if_neg c13] at h
      refine v_iload_n F (dq dkX2_make_0 21 rfl) rfl 2 rfl ?_
      by_cases c14 : a1 = 1
      · rw [if_pos c14] at h
        refine v_tblIn F (off := 35) (tgt := 80) (dq dkX2_make_0 22 rfl) (by rw [c14]; decide) (by rw [c14]; decide) (by rw [c14]; rfl) (by decide) ?_
        refine v_sub [1, 2, 3, 4, 0] rfl ?_
        exact t_X2_make_80 x a1 a3 a4 s0 h F E
      rw [if_neg c14] at h
      by_cases c15 : a1 = 2
      · rw [if_pos c15] at h
        refine v_tblIn F (off := 35) (tgt := 80) (dq dkX2_make_0 22 rfl) (by rw [c15]; decide) (by rw [c15]; decide) (by rw [c15]; rfl) (by decide) ?_
        refine v_sub [1, 2, 3, 4, 0] rfl ?_
        exact t_X2_make_80 x a1 a3 a4 s0 h F E
      rw [if_neg c15] at h
      by_cases c16 : a1 = 3
      · rw [if_pos c16] at h
        refine v_tblIn F (off := 81) (tgt := 126) (dq dkX2_make_0 22 rfl) (by rw [c16]; decide) (by rw [c16]; decide) (by rw [c16]; rfl) (by decide) ?_
        refine v_aload_n F (dq dkX2_make_1 5 rfl) rfl 1 rfl ?_
        refine v_iload_n F (dq dkX2_make_1 6 rfl) rfl 3 rfl ?_
        obtain ⟨r17, e18, h⟩ := bd_of h
        refine v_callV 1 F (q := 48) (kc1 := 0) (ks1 := 0) (as := [.int a3]) (st := []) (st1 := []) (res := none) (c_X2_spreadBy (l := C.2.1) x y a3 e18) (xn (by decide)) xc_48 rfl (tc26 _ (List.mem_of_getElem? (i := 7) rfl)) (tc26 _ (List.mem_of_getElem? (i := 8) rfl)) (tc26 _ (List.mem_of_getElem? (i := 9) rfl)) (tc2 _ (List.mem_of_getElem? (i := 19) rfl)) (tc26 _ (List.mem_of_getElem? (i := 10) rfl)) (by decide) rfl ⟨rfl, rfl, Nat.le_of_ble_eq_true rfl, Nat.le_of_ble_eq_true rfl⟩ ⟨Nat.le_of_ble_eq_true rfl, Nat.le_of_ble_eq_true rfl⟩ rfl (Nat.le_of_ble_eq_true rfl) rfl rfl rfl (dq dkX2_make_1 7 rfl) ?_
        refine v_goto F (tgt := 186) (dq dkX2_make_1 8 rfl) (by decide) ?_
        have h := Option.some.inj h
        subst h
        exact v_vret F E (dq dkX2_make_1 36 rfl)
      rw [if_neg c16] at h
      by_cases c19 : a1 = 4
      · rw [if_pos c19] at h
        refine v_tblIn F (off := 89) (tgt := 134) (dq dkX2_make_0 22 rfl) (by rw [c19]; decide) (by rw [c19]; decide) (by rw [c19]; rfl) (by decide) ?_
        refine v_aload_n F (dq dkX2_make_1 9 rfl) rfl 1 rfl ?_
        refine v_iload F (dq dkX2_make_1 10 rfl) 4 rfl ?_
        refine v_iload F (dq dkX2_make_1 11 rfl) 0 rfl ?_
        refine v_iload_n F (dq dkX2_make_1 12 rfl) rfl 3 rfl ?_
        obtain ⟨r20, e21, h⟩ := bd_of h
        refine v_callV 3 F (q := 48) (kc1 := 0) (ks1 := 0) (as := [.int a4, .int s0, .int a3]) (st := []) (st1 := []) (res := none) (c_X2_sew (l := C.2.1) x y a4 s0 a3 e21) (xn (by decide)) xc_48 rfl (tc26 _ (List.mem_of_getElem? (i := 20) rfl)) (tc26 _ (List.mem_of_getElem? (i := 21) rfl)) (tc26 _ (List.mem_of_getElem? (i := 22) rfl)) (tc2 _ (List.mem_of_getElem? (i := 19) rfl)) (tc26 _ (List.mem_of_getElem? (i := 23) rfl)) (by decide) rfl ⟨rfl, rfl, Nat.le_of_ble_eq_true rfl, Nat.le_of_ble_eq_true rfl⟩ ⟨Nat.le_of_ble_eq_true rfl, Nat.le_of_ble_eq_true rfl⟩ rfl (Nat.le_of_ble_eq_true rfl) rfl rfl rfl (dq dkX2_make_1 13 rfl) ?_
        refine v_goto F (tgt := 186) (dq dkX2_make_1 14 rfl) (by decide) ?_
        have h := Option.some.inj h
        subst h
        exact v_vret F E (dq dkX2_make_1 36 rfl)
      rw [if_neg c19] at h
      by_cases c22 : a1 = 5
      · rw [if_pos c22] at h
        refine v_tblIn F (off := 101) (tgt := 146) (dq dkX2_make_0 22 rfl) (by rw [c22]; decide) (by rw [c22]; decide) (by rw [c22]; rfl) (by decide) ?_
        refine v_aload_n F (dq dkX2_make_1 15 rfl) rfl 1 rfl ?_
        refine v_iload F (dq dkX2_make_1 16 rfl) 4 rfl ?_
        refine v_iload F (dq dkX2_make_1 17 rfl) 0 rfl ?_
        refine v_iload_n F (dq dkX2_make_1 18 rfl) rfl 3 rfl ?_
        obtain ⟨r23, e24, h⟩ := bd_of h
        refine v_callV 3 F (q := 48) (kc1 := 0) (ks1 := 0) (as := [.int a4, .int s0, .int a3]) (st := []) (st1 := []) (res := none) (c_X2_sew (l := C.2.1) x y a4 s0 a3 e24) (xn (by decide)) xc_48 rfl (tc26 _ (List.mem_of_getElem? (i := 20) rfl)) (tc26 _ (List.mem_of_getElem? (i := 21) rfl)) (tc26 _ (List.mem_of_getElem? (i := 22) rfl)) (tc2 _ (List.mem_of_getElem? (i := 19) rfl)) (tc26 _ (List.mem_of_getElem? (i := 23) rfl)) (by decide) rfl ⟨rfl, rfl, Nat.le_of_ble_eq_true rfl, Nat.le_of_ble_eq_true rfl⟩ ⟨Nat.le_of_ble_eq_true rfl, Nat.le_of_ble_eq_true rfl⟩ rfl (Nat.le_of_ble_eq_true rfl) rfl rfl rfl (dq dkX2_make_1 19 rfl) ?_
        refine v_iload F (dq dkX2_make_1 20 rfl) 4 rfl ?_
        refine v_istore F (ls' := [(6, .int a4), (5, .int s0), (0, .ref (K.1 + 48)), (1, .int a1), (3, .int a3), (4, .int a4)]) (dq dkX2_make_1 21 rfl) (by decide) rfl ?_
        refine v_sub [2, 4, 1, 0] rfl ?_
        exact t_X2_make_159 F E 1000 r23 a3 s0 a4 h
      rw [if_neg c22] at h
      have zc14 := lv_neT c14 (a := 1) (by decide)
      have zc15 := lv_neT c15 (a := 2) (by decide)
      have zc16 := lv_neT c16 (a := 3) (by decide)
      have zc19 := lv_neT c19 (a := 4) (by decide)
      have zc22 := lv_neT c22 (a := 5) (by decide)
      refine v_tblOut F (tgt := 186) (dq dkX2_make_0 22 rfl) (by omega) (by decide) ?_
      have h := Option.some.inj h
      subst h
      exact v_vret F E (dq dkX2_make_1 36 rfl)
    · rw [if_pos c13] at h
      have h := Option.some.inj h
      subst h
      exact v_vret F E (dq dkX2_make_0 20 rfl)
def f_X2_make_11 (x : CS) (a1 : Int32) (a2 : Int32) (a3 : Int32) (s0 : Int32) : Option (CS) := if a2 = 9 then (f_X2_make_25 x a1 a3 s0 8) else (f_X2_make_25 x a1 a3 s0 a2)
set_option maxRecDepth 100000 in
set_option maxHeartbeats 4000000 in
theorem t_X2_make_11 {C : Cx} {K : KE} {y : MS} {R : CS}  (x : CS) (a1 : Int32) (a2 : Int32) (a3 : Int32) (s0 : Int32) (h : f_X2_make_11 x a1 a2 a3 s0 = some R) (F : Fx C RX2 cX2_make 7 rm_X2_make K) (E : CE C (xf K R y) none 0 0 none) : V C 11 [(0, .ref (K.1 + 48)), (1, .int a1), (2, .int a2), (3, .int a3)] [.int s0] (xf K x y) 0 0 := by
  unfold f_X2_make_11 at h
  refine v_istore F (ls' := [(4, .int s0), (0, .ref (K.1 + 48)), (1, .int a1), (2, .int a2), (3, .int a3)]) (dq dkX2_make_0 6 rfl) (by decide) rfl ?_
  refine v_iload_n F (dq dkX2_make_0 7 rfl) rfl 3 rfl ?_
  refine v_bipush F (v := 9) (dq dkX2_make_0 8 rfl) kb_9 ?_
  refine v_icmp_ne F (tgt := 24) (dq dkX2_make_0 9 rfl) (by decide) (fun c25 => ?_) (fun c25 => ?_)
  · rw [if_neg c25] at h
    refine v_iload_n F (dq dkX2_make_0 12 rfl) rfl 3 rfl ?_
    refine v_sub [1, 2, 4, 0] rfl ?_
    exact t_X2_make_25 x a1 a3 s0 a2 h F E
  · rw [if_pos c25] at h
    refine v_bipush F (v := 8) (dq dkX2_make_0 10 rfl) kb_8 ?_
    refine v_goto F (tgt := 25) (dq dkX2_make_0 11 rfl) (by decide) ?_
    refine v_sub [1, 2, 4, 0] rfl ?_
    exact t_X2_make_25 x a1 a3 s0 8 h F E
def f_X2_make (x : CS) (a1 : Int32) (a2 : Int32) (a3 : Int32) : Option (CS) := if a2 = 9 then (f_X2_make_11 x a1 a2 a3 0) else (f_X2_make_11 x a1 a2 a3 a2)
set_option maxRecDepth 100000 in
set_option maxHeartbeats 4000000 in
theorem c_X2_make {K : KE} {l : Launch} {R : CS} (x : CS) (y : MS) (a1 : Int32) (a2 : Int32) (a3 : Int32) (h : f_X2_make x a1 a2 a3 = some R) : MC K l yX2_make cX2_make 7 none rm_X2_make 0 0 [.ref (K.1 + 48), .int a1, .int a2, .int a3] (xf K x y) (xf K R y) none := by
  unfold f_X2_make at h
  refine mc_of (ls0 := [(0, .ref (K.1 + 48)), (1, .int a1), (2, .int a2), (3, .int a3)]) (by decide) (Nat.le_of_ble_eq_true rfl) rfl (fun C hl hnm F E => ?_)
  have F : Fx C RX2 cX2_make 7 rm_X2_make K := F
  refine v_iload_n F (dq dkX2_make_0 0 rfl) rfl 2 rfl ?_
  refine v_bipush F (v := 9) (dq dkX2_make_0 1 rfl) kb_9 ?_
  refine v_icmp_ne F (tgt := 10) (dq dkX2_make_0 2 rfl) (by decide) (fun c26 => ?_) (fun c26 => ?_)
  · rw [if_neg c26] at h
    refine v_iload_n F (dq dkX2_make_0 5 rfl) rfl 2 rfl ?_
    exact t_X2_make_11 x a1 a2 a3 a2 h F E
  · rw [if_pos c26] at h
    refine v_iconst F (v := 0) (dq dkX2_make_0 3 rfl) ki_0 ?_
    refine v_goto F (tgt := 11) (dq dkX2_make_0 4 rfl) (by decide) ?_
    exact t_X2_make_11 x a1 a2 a3 0 h F E
def rm_X2_allWide : Room := { frames := 1, cells := 0, slots := 0, locals := 30 }
def f_X2_allWide_4 (x : CS) : Nat → Int32 → Int32 → Option (Int32)
  | 0, _, _ => none
  | n + 1, a1, a2 => if 9 ≤ a2 then (some a1) else (gd (ib a2 9) ((f_X2_allWide_4 x n) (a1 + (gi x 49 a2.toNatClampNeg)) (a2 + 1)))
set_option maxRecDepth 100000 in
set_option maxHeartbeats 4000000 in
theorem t_X2_allWide_4 {C : Cx} {K : KE} {y : MS} {R : Int32}  (x : CS) (F : Fx C RX2 cX2_allWide 3 rm_X2_allWide K) (E : CE C (xf K x y) (some (.int R)) 0 0 (some .int)) : ∀ (n : Nat) (a1 : Int32) (a2 : Int32) (h : f_X2_allWide_4 x n a1 a2 = some R), V C 4 [(0, .ref (K.1 + 48)), (1, .int a1), (2, .int a2)] [] (xf K x y) 0 0 := by
  intro n
  induction n with
  | zero => intro a1 a2 h; cases h
  | succ n ih =>
    intro a1 a2 h
    rw [f_X2_allWide_4] at h
    refine v_iload_n F (dq dkX2_allWide_0 4 rfl) rfl 2 rfl ?_
    refine v_bipush F (v := 9) (dq dkX2_allWide_0 5 rfl) kb_9 ?_
    refine v_icmp_ge F (tgt := 25) (dq dkX2_allWide_0 6 rfl) (by decide) (fun c1 => ?_) (fun c1 => ?_)
    · rw [if_pos c1] at h
      refine v_iload_n F (dq dkX2_allWide_0 16 rfl) rfl 1 rfl ?_
      have h := Option.some.inj h
      subst h
      exact v_iret F E (dq dkX2_allWide_0 17 rfl)
    · rw [if_neg c1] at h
      refine v_iload_n F (dq dkX2_allWide_0 7 rfl) rfl 1 rfl ?_
      refine v_aload_n F (dq dkX2_allWide_0 8 rfl) rfl 0 rfl ?_
      refine v_get F 48 (xn (by decide)) xc_48 rfl inlX2 2 (by decide) (tc5 _ (List.mem_of_getElem? (i := 0) rfl)) rfl rfl (dq dkX2_allWide_0 9 rfl) ?_
      refine v_iload_n F (dq dkX2_allWide_0 10 rfl) rfl 2 rfl ?_
      obtain ⟨g2, h⟩ := gd_of h
      refine v_iald F 49 (xn (by decide)) xc_49 (ib_in g2) (dq dkX2_allWide_0 11 rfl) ?_
      refine v_iadd F (dq dkX2_allWide_0 12 rfl) ?_
      refine v_istore_n F (ls' := [(1, .int (a1 + (gi x 49 a2.toNatClampNeg))), (0, .ref (K.1 + 48)), (2, .int a2)]) (dq dkX2_allWide_0 13 rfl) rfl (by decide) rfl ?_
      refine v_iinc F (v := a2 + 1) (ls' := [(2, .int (a2 + 1)), (1, .int (a1 + (gi x 49 a2.toNatClampNeg))), (0, .ref (K.1 + 48))]) (dq dkX2_allWide_0 14 rfl) (j := 2) rfl (kv_add ki_1) (by decide) rfl ?_
      refine v_goto F (tgt := 4) (dq dkX2_allWide_0 15 rfl) (by decide) ?_
      refine v_sub [2, 1, 0] rfl ?_
      exact ih (a1 + (gi x 49 a2.toNatClampNeg)) (a2 + 1) h
def f_X2_allWide (x : CS) : Option (Int32) := f_X2_allWide_4 x 1000 0 0
set_option maxRecDepth 100000 in
set_option maxHeartbeats 4000000 in
theorem c_X2_allWide {K : KE} {l : Launch} {R : Int32} (x : CS) (y : MS) (h : f_X2_allWide x = some R) : MC K l yX2_allWide cX2_allWide 3 (some .int) rm_X2_allWide 0 0 [.ref (K.1 + 48)] (xf K x y) (xf K x y) (some (.int R)) := by
  unfold f_X2_allWide at h
  refine mc_of (ls0 := [(0, .ref (K.1 + 48))]) (by decide) (Nat.le_of_ble_eq_true rfl) rfl (fun C hl hnm F E => ?_)
  have F : Fx C RX2 cX2_allWide 3 rm_X2_allWide K := F
  refine v_iconst F (v := 0) (dq dkX2_allWide_0 0 rfl) ki_0 ?_
  refine v_istore_n F (ls' := [(1, .int 0), (0, .ref (K.1 + 48))]) (dq dkX2_allWide_0 1 rfl) rfl (by decide) rfl ?_
  refine v_iconst F (v := 0) (dq dkX2_allWide_0 2 rfl) ki_0 ?_
  refine v_istore_n F (ls' := [(2, .int 0), (1, .int 0), (0, .ref (K.1 + 48))]) (dq dkX2_allWide_0 3 rfl) rfl (by decide) rfl ?_
  refine v_sub [2, 1, 0] rfl ?_
  exact t_X2_allWide_4 x F E 1000 0 0 h
def rm_X2_leastHigh : Room := { frames := 1, cells := 0, slots := 0, locals := 30 }
def f_X2_leastHigh_9 (x : CS) : Nat → Int32 → Int32 → Option (Int32)
  | 0, _, _ => none
  | n + 1, a1, a2 => if 9 ≤ a2 then (some a1) else (gd (ib a2 9) ((f_X2_leastHigh_9 x n) (if (gi x 51 a2.toNatClampNeg) < a1 then (gi x 51 a2.toNatClampNeg) else a1) (a2 + 1)))
set_option maxRecDepth 100000 in
set_option maxHeartbeats 4000000 in
theorem t_X2_leastHigh_9 {C : Cx} {K : KE} {y : MS} {R : Int32}  (x : CS) (F : Fx C RX2 cX2_leastHigh 3 rm_X2_leastHigh K) (E : CE C (xf K x y) (some (.int R)) 0 0 (some .int)) : ∀ (n : Nat) (a1 : Int32) (a2 : Int32) (h : f_X2_leastHigh_9 x n a1 a2 = some R), V C 9 [(0, .ref (K.1 + 48)), (1, .int a1), (2, .int a2)] [] (xf K x y) 0 0 := by
  intro n
  induction n with
  | zero => intro a1 a2 h; cases h
  | succ n ih =>
    intro a1 a2 h
    rw [f_X2_leastHigh_9] at h
    refine v_iload_n F (dq dkX2_leastHigh_0 7 rfl) rfl 2 rfl ?_
    refine v_bipush F (v := 9) (dq dkX2_leastHigh_0 8 rfl) kb_9 ?_
    refine v_icmp_ge F (tgt := 32) (dq dkX2_leastHigh_0 9 rfl) (by decide) (fun c1 => ?_) (fun c1 => ?_)
    · rw [if_pos c1] at h
      refine v_iload_n F (dq dkX2_leastHigh_0 19 rfl) rfl 1 rfl ?_
      have h := Option.some.inj h
      subst h
      exact v_iret F E (dq dkX2_leastHigh_0 20 rfl)
    · rw [if_neg c1] at h
      refine v_iload_n F (dq dkX2_leastHigh_0 10 rfl) rfl 1 rfl ?_
      refine v_aload_n F (dq dkX2_leastHigh_0 11 rfl) rfl 0 rfl ?_
      refine v_get F 48 (xn (by decide)) xc_48 rfl inlX2 4 (by decide) (tc5 _ (List.mem_of_getElem? (i := 2) rfl)) rfl rfl (dq dkX2_leastHigh_0 12 rfl) ?_
      refine v_iload_n F (dq dkX2_leastHigh_0 13 rfl) rfl 2 rfl ?_
      obtain ⟨g2, h⟩ := gd_of h
      refine v_iald F 51 (xn (by decide)) xc_51 (ib_in g2) (dq dkX2_leastHigh_0 14 rfl) ?_
      refine v_mmin F (tc40 _ (List.mem_of_getElem? (i := 5) rfl)) (tc21 _ (List.mem_of_getElem? (i := 0) rfl)) (tc21 _ (List.mem_of_getElem? (i := 1) rfl)) (tc21 _ (List.mem_of_getElem? (i := 2) rfl)) (Nat.le_of_ble_eq_true rfl) (Nat.le_of_ble_eq_true rfl) (Nat.le_of_ble_eq_true rfl) (Nat.le_of_ble_eq_true rfl) (dq dkX2_leastHigh_0 15 rfl) ?_
      refine v_istore_n F (ls' := [(1, .int (if (gi x 51 a2.toNatClampNeg) < a1 then (gi x 51 a2.toNatClampNeg) else a1)), (0, .ref (K.1 + 48)), (2, .int a2)]) (dq dkX2_leastHigh_0 16 rfl) rfl (by decide) rfl ?_
      refine v_iinc F (v := a2 + 1) (ls' := [(2, .int (a2 + 1)), (1, .int (if (gi x 51 a2.toNatClampNeg) < a1 then (gi x 51 a2.toNatClampNeg) else a1)), (0, .ref (K.1 + 48))]) (dq dkX2_leastHigh_0 17 rfl) (j := 2) rfl (kv_add ki_1) (by decide) rfl ?_
      refine v_goto F (tgt := 9) (dq dkX2_leastHigh_0 18 rfl) (by decide) ?_
      refine v_sub [2, 1, 0] rfl ?_
      exact ih (if (gi x 51 a2.toNatClampNeg) < a1 then (gi x 51 a2.toNatClampNeg) else a1) (a2 + 1) h
def f_X2_leastHigh (x : CS) : Option (Int32) := f_X2_leastHigh_9 x 1000 (gi x 51 (0 : Int32).toNatClampNeg) 1
set_option maxRecDepth 100000 in
set_option maxHeartbeats 4000000 in
theorem c_X2_leastHigh {K : KE} {l : Launch} {R : Int32} (x : CS) (y : MS) (h : f_X2_leastHigh x = some R) : MC K l yX2_leastHigh cX2_leastHigh 3 (some .int) rm_X2_leastHigh 0 0 [.ref (K.1 + 48)] (xf K x y) (xf K x y) (some (.int R)) := by
  unfold f_X2_leastHigh at h
  refine mc_of (ls0 := [(0, .ref (K.1 + 48))]) (by decide) (Nat.le_of_ble_eq_true rfl) rfl (fun C hl hnm F E => ?_)
  have F : Fx C RX2 cX2_leastHigh 3 rm_X2_leastHigh K := F
  refine v_aload_n F (dq dkX2_leastHigh_0 0 rfl) rfl 0 rfl ?_
  refine v_get F 48 (xn (by decide)) xc_48 rfl inlX2 4 (by decide) (tc5 _ (List.mem_of_getElem? (i := 2) rfl)) rfl rfl (dq dkX2_leastHigh_0 1 rfl) ?_
  refine v_iconst F (v := 0) (dq dkX2_leastHigh_0 2 rfl) ki_0 ?_
  refine v_iald F 51 (xn (by decide)) xc_51 (ib_in (by decide)) (dq dkX2_leastHigh_0 3 rfl) ?_
  refine v_istore_n F (ls' := [(1, .int (gi x 51 (0 : Int32).toNatClampNeg)), (0, .ref (K.1 + 48))]) (dq dkX2_leastHigh_0 4 rfl) rfl (by decide) rfl ?_
  refine v_iconst F (v := 1) (dq dkX2_leastHigh_0 5 rfl) ki_1 ?_
  refine v_istore_n F (ls' := [(2, .int 1), (1, .int (gi x 51 (0 : Int32).toNatClampNeg)), (0, .ref (K.1 + 48))]) (dq dkX2_leastHigh_0 6 rfl) rfl (by decide) rfl ?_
  refine v_sub [2, 1, 0] rfl ?_
  exact t_X2_leastHigh_9 x F E 1000 (gi x 51 (0 : Int32).toNatClampNeg) 1 h
def rm_X2_weight : Room := { frames := 1, cells := 0, slots := 0, locals := 30 }
def f_X2_weight_4 (x : CS) : Nat → Int32 → Int32 → Option (Int32)
  | 0, _, _ => none
  | n + 1, a1, a2 => if 9 ≤ a2 then (some a1) else (gd (ib a2 9) (gd (ib a2 9) (gd (ib a2 9) ((f_X2_weight_4 x n) (a1 + (((gi x 50 a2.toNatClampNeg) * ((gi x 49 a2.toNatClampNeg) + (2 * (gi x 51 a2.toNatClampNeg)))) / 4)) (a2 + 1)))))
set_option maxRecDepth 100000 in
set_option maxHeartbeats 4000000 in
theorem t_X2_weight_4 {C : Cx} {K : KE} {y : MS} {R : Int32}  (x : CS) (F : Fx C RX2 cX2_weight 3 rm_X2_weight K) (E : CE C (xf K x y) (some (.int R)) 0 0 (some .int)) : ∀ (n : Nat) (a1 : Int32) (a2 : Int32) (h : f_X2_weight_4 x n a1 a2 = some R), V C 4 [(0, .ref (K.1 + 48)), (1, .int a1), (2, .int a2)] [] (xf K x y) 0 0 := by
  intro n
  induction n with
  | zero => intro a1 a2 h; cases h
  | succ n ih =>
    intro a1 a2 h
    rw [f_X2_weight_4] at h
    refine v_iload_n F (dq dkX2_weight_0 4 rfl) rfl 2 rfl ?_
    refine v_bipush F (v := 9) (dq dkX2_weight_0 5 rfl) kb_9 ?_
    refine v_icmp_ge F (tgt := 43) (dq dkX2_weight_0 6 rfl) (by decide) (fun c1 => ?_) (fun c1 => ?_)
    · rw [if_pos c1] at h
      refine v_iload_n F (dq dkX2_weight_0 30 rfl) rfl 1 rfl ?_
      have h := Option.some.inj h
      subst h
      exact v_iret F E (dq dkX2_weight_0 31 rfl)
    · rw [if_neg c1] at h
      refine v_iload_n F (dq dkX2_weight_0 7 rfl) rfl 1 rfl ?_
      refine v_aload_n F (dq dkX2_weight_0 8 rfl) rfl 0 rfl ?_
      refine v_get F 48 (xn (by decide)) xc_48 rfl inlX2 3 (by decide) (tc5 _ (List.mem_of_getElem? (i := 1) rfl)) rfl rfl (dq dkX2_weight_0 9 rfl) ?_
      refine v_iload_n F (dq dkX2_weight_0 10 rfl) rfl 2 rfl ?_
      obtain ⟨g2, h⟩ := gd_of h
      refine v_iald F 50 (xn (by decide)) xc_50 (ib_in g2) (dq dkX2_weight_0 11 rfl) ?_
      refine v_aload_n F (dq dkX2_weight_0 12 rfl) rfl 0 rfl ?_
      refine v_get F 48 (xn (by decide)) xc_48 rfl inlX2 2 (by decide) (tc5 _ (List.mem_of_getElem? (i := 0) rfl)) rfl rfl (dq dkX2_weight_0 13 rfl) ?_
      refine v_iload_n F (dq dkX2_weight_0 14 rfl) rfl 2 rfl ?_
      obtain ⟨g3, h⟩ := gd_of h
      refine v_iald F 49 (xn (by decide)) xc_49 (ib_in g3) (dq dkX2_weight_0 15 rfl) ?_
      refine v_iconst F (v := 2) (dq dkX2_weight_0 16 rfl) ki_2 ?_
      refine v_aload_n F (dq dkX2_weight_0 17 rfl) rfl 0 rfl ?_
      refine v_get F 48 (xn (by decide)) xc_48 rfl inlX2 4 (by decide) (tc5 _ (List.mem_of_getElem? (i := 2) rfl)) rfl rfl (dq dkX2_weight_0 18 rfl) ?_
      refine v_iload_n F (dq dkX2_weight_0 19 rfl) rfl 2 rfl ?_
      obtain ⟨g4, h⟩ := gd_of h
      refine v_iald F 51 (xn (by decide)) xc_51 (ib_in g4) (dq dkX2_weight_0 20 rfl) ?_
      refine v_imul F (dq dkX2_weight_0 21 rfl) ?_
      refine v_iadd F (dq dkX2_weight_0 22 rfl) ?_
      refine v_imul F (dq dkX2_weight_0 23 rfl) ?_
      refine v_iconst F (v := 4) (dq dkX2_weight_0 24 rfl) ki_4 ?_
      refine v_idiv F (dq dkX2_weight_0 25 rfl) (by decide) ?_
      refine v_iadd F (dq dkX2_weight_0 26 rfl) ?_
      refine v_istore_n F (ls' := [(1, .int (a1 + (((gi x 50 a2.toNatClampNeg) * ((gi x 49 a2.toNatClampNeg) + (2 * (gi x 51 a2.toNatClampNeg)))) / 4))), (0, .ref (K.1 + 48)), (2, .int a2)]) (dq dkX2_weight_0 27 rfl) rfl (by decide) rfl ?_
      refine v_iinc F (v := a2 + 1) (ls' := [(2, .int (a2 + 1)), (1, .int (a1 + (((gi x 50 a2.toNatClampNeg) * ((gi x 49 a2.toNatClampNeg) + (2 * (gi x 51 a2.toNatClampNeg)))) / 4))), (0, .ref (K.1 + 48))]) (dq dkX2_weight_0 28 rfl) (j := 2) rfl (kv_add ki_1) (by decide) rfl ?_
      refine v_goto F (tgt := 4) (dq dkX2_weight_0 29 rfl) (by decide) ?_
      refine v_sub [2, 1, 0] rfl ?_
      exact ih (a1 + (((gi x 50 a2.toNatClampNeg) * ((gi x 49 a2.toNatClampNeg) + (2 * (gi x 51 a2.toNatClampNeg)))) / 4)) (a2 + 1) h
def f_X2_weight (x : CS) : Option (Int32) := f_X2_weight_4 x 1000 0 0
set_option maxRecDepth 100000 in
set_option maxHeartbeats 4000000 in
theorem c_X2_weight {K : KE} {l : Launch} {R : Int32} (x : CS) (y : MS) (h : f_X2_weight x = some R) : MC K l yX2_weight cX2_weight 3 (some .int) rm_X2_weight 0 0 [.ref (K.1 + 48)] (xf K x y) (xf K x y) (some (.int R)) := by
  unfold f_X2_weight at h
  refine mc_of (ls0 := [(0, .ref (K.1 + 48))]) (by decide) (Nat.le_of_ble_eq_true rfl) rfl (fun C hl hnm F E => ?_)
  have F : Fx C RX2 cX2_weight 3 rm_X2_weight K := F
  refine v_iconst F (v := 0) (dq dkX2_weight_0 0 rfl) ki_0 ?_
  refine v_istore_n F (ls' := [(1, .int 0), (0, .ref (K.1 + 48))]) (dq dkX2_weight_0 1 rfl) rfl (by decide) rfl ?_
  refine v_iconst F (v := 0) (dq dkX2_weight_0 2 rfl) ki_0 ?_
  refine v_istore_n F (ls' := [(2, .int 0), (1, .int 0), (0, .ref (K.1 + 48))]) (dq dkX2_weight_0 3 rfl) rfl (by decide) rfl ?_
  refine v_sub [2, 1, 0] rfl ?_
  exact t_X2_weight_4 x F E 1000 0 0 h
def rm_X2_draught : Room := { frames := 2, cells := 0, slots := 0, locals := 52 }
def f_X2_draught (x : CS) (a1 : Int32) : Option (Int32) := (f_X2_allWide x).bind fun r1 => if 1 ≤ r1 then ((f_X2_weight x).bind fun r4 => gd (decide (¬ r1 = 0)) (some ((((r4 + a1) + r1) - 1) / r1))) else (some 0)
set_option maxRecDepth 100000 in
set_option maxHeartbeats 4000000 in
theorem c_X2_draught {K : KE} {l : Launch} {R : Int32} (x : CS) (y : MS) (a1 : Int32) (h : f_X2_draught x a1 = some R) : MC K l yX2_draught cX2_draught 3 (some .int) rm_X2_draught 0 0 [.ref (K.1 + 48), .int a1] (xf K x y) (xf K x y) (some (.int R)) := by
  unfold f_X2_draught at h
  refine mc_of (ls0 := [(0, .ref (K.1 + 48)), (1, .int a1)]) (by decide) (Nat.le_of_ble_eq_true rfl) rfl (fun C hl hnm F E => ?_)
  have F : Fx C RX2 cX2_draught 3 rm_X2_draught K := F
  refine v_aload_n F (dq dkX2_draught_0 0 rfl) rfl 0 rfl ?_
  obtain ⟨r1, e2, h⟩ := bd_of h
  refine v_callV 0 F (q := 48) (kc1 := 0) (ks1 := 0) (as := []) (st := []) (st1 := (.int r1 :: [])) (res := (some (.int r1))) (c_X2_allWide (l := C.2.1) x y e2) (xn (by decide)) xc_48 rfl (tc39 _ (List.mem_of_getElem? (i := 17) rfl)) (tc39 _ (List.mem_of_getElem? (i := 18) rfl)) (tc39 _ (List.mem_of_getElem? (i := 19) rfl)) (tc2 _ (List.mem_of_getElem? (i := 19) rfl)) (tc39 _ (List.mem_of_getElem? (i := 20) rfl)) (by decide) rfl ⟨rfl, rfl, Nat.le_of_ble_eq_true rfl, Nat.le_of_ble_eq_true rfl⟩ ⟨Nat.le_of_ble_eq_true rfl, Nat.le_of_ble_eq_true rfl⟩ rfl (Nat.le_of_ble_eq_true rfl) rfl rfl rfl (dq dkX2_draught_0 1 rfl) ?_
  refine v_istore_n F (ls' := [(2, .int r1), (0, .ref (K.1 + 48)), (1, .int a1)]) (dq dkX2_draught_0 2 rfl) rfl (by decide) rfl ?_
  refine v_iload_n F (dq dkX2_draught_0 3 rfl) rfl 0 rfl ?_
  refine v_iconst F (v := 1) (dq dkX2_draught_0 4 rfl) ki_1 ?_
  refine v_icmp_ge F (tgt := 14) (dq dkX2_draught_0 5 rfl) (by decide) (fun c3 => ?_) (fun c3 => ?_)
  · rw [if_pos c3] at h
    refine v_aload_n F (dq dkX2_draught_0 8 rfl) rfl 1 rfl ?_
    obtain ⟨r4, e5, h⟩ := bd_of h
    refine v_callV 0 F (q := 48) (kc1 := 0) (ks1 := 0) (as := []) (st := []) (st1 := (.int r4 :: [])) (res := (some (.int r4))) (c_X2_weight (l := C.2.1) x y e5) (xn (by decide)) xc_48 rfl (tc39 _ (List.mem_of_getElem? (i := 21) rfl)) (tc39 _ (List.mem_of_getElem? (i := 22) rfl)) (tc39 _ (List.mem_of_getElem? (i := 23) rfl)) (tc2 _ (List.mem_of_getElem? (i := 19) rfl)) (tc40 _ (List.mem_of_getElem? (i := 0) rfl)) (by decide) rfl ⟨rfl, rfl, Nat.le_of_ble_eq_true rfl, Nat.le_of_ble_eq_true rfl⟩ ⟨Nat.le_of_ble_eq_true rfl, Nat.le_of_ble_eq_true rfl⟩ rfl (Nat.le_of_ble_eq_true rfl) rfl rfl rfl (dq dkX2_draught_0 9 rfl) ?_
    refine v_iload_n F (dq dkX2_draught_0 10 rfl) rfl 2 rfl ?_
    refine v_iadd F (dq dkX2_draught_0 11 rfl) ?_
    refine v_iload_n F (dq dkX2_draught_0 12 rfl) rfl 0 rfl ?_
    refine v_iadd F (dq dkX2_draught_0 13 rfl) ?_
    refine v_iconst F (v := 1) (dq dkX2_draught_0 14 rfl) ki_1 ?_
    refine v_isub F (dq dkX2_draught_0 15 rfl) ?_
    refine v_iload_n F (dq dkX2_draught_0 16 rfl) rfl 0 rfl ?_
    obtain ⟨g6, h⟩ := gd_of h
    refine v_idiv F (dq dkX2_draught_0 17 rfl) (of_decide_eq_true g6) ?_
    have h := Option.some.inj h
    subst h
    exact v_iret F E (dq dkX2_draught_0 18 rfl)
  · rw [if_neg c3] at h
    refine v_iconst F (v := 0) (dq dkX2_draught_0 6 rfl) ki_0 ?_
    refine v_goto F (tgt := 26) (dq dkX2_draught_0 7 rfl) (by decide) ?_
    have h := Option.some.inj h
    subst h
    exact v_iret F E (dq dkX2_draught_0 18 rfl)
def rm_X2_sinks : Room := { frames := 3, cells := 0, slots := 0, locals := 74 }
def f_X2_sinks_19 (x : CS) : Option (Bool) := some true
set_option maxRecDepth 100000 in
set_option maxHeartbeats 4000000 in
theorem t_X2_sinks_19 {C : Cx} {K : KE} {y : MS} {R : Bool}  (x : CS) (h : f_X2_sinks_19 x = some R) (F : Fx C RX2 cX2_sinks 2 rm_X2_sinks K) (E : CE C (xf K x y) (some (.int (b2i R))) 0 0 (some .boolean)) : V C 19 [] [] (xf K x y) 0 0 := by
  unfold f_X2_sinks_19 at h
  refine v_iconst F (v := 1) (dq dkX2_sinks_0 9 rfl) ki_1 ?_
  refine v_goto F (tgt := 24) (dq dkX2_sinks_0 10 rfl) (by decide) ?_
  have h := Option.some.inj h
  subst h
  exact v_zret F E (b2i_n true) (dq dkX2_sinks_0 12 rfl)
def f_X2_sinks (x : CS) (a1 : Int32) : Option (Bool) := if (gi x 48 6) = 0 then ((f_X2_draught x a1).bind fun r2 => (f_X2_leastHigh x).bind fun r4 => if r2 ≤ r4 then (some false) else (f_X2_sinks_19 x)) else (f_X2_sinks_19 x)
set_option maxRecDepth 100000 in
set_option maxHeartbeats 4000000 in
theorem c_X2_sinks {K : KE} {l : Launch} {R : Bool} (x : CS) (y : MS) (a1 : Int32) (h : f_X2_sinks x a1 = some R) : MC K l yX2_sinks cX2_sinks 2 (some .boolean) rm_X2_sinks 0 0 [.ref (K.1 + 48), .int a1] (xf K x y) (xf K x y) (some (.int (b2i R))) := by
  unfold f_X2_sinks at h
  refine mc_of (ls0 := [(0, .ref (K.1 + 48)), (1, .int a1)]) (by decide) (Nat.le_of_ble_eq_true rfl) rfl (fun C hl hnm F E => ?_)
  have F : Fx C RX2 cX2_sinks 2 rm_X2_sinks K := F
  refine v_aload_n F (dq dkX2_sinks_0 0 rfl) rfl 0 rfl ?_
  refine v_get F 48 (xn (by decide)) xc_48 rfl inlX2 6 (by decide) (tc5 _ (List.mem_of_getElem? (i := 4) rfl)) rfl rfl (dq dkX2_sinks_0 1 rfl) ?_
  refine v_if_ne F (tgt := 19) (dq dkX2_sinks_0 2 rfl) (by decide) (fun c1 => ?_) (fun c1 => ?_)
  · rw [if_neg c1] at h
    refine v_sub [] rfl ?_
    exact t_X2_sinks_19 x h F E
  · rw [if_pos c1] at h
    refine v_aload_n F (dq dkX2_sinks_0 3 rfl) rfl 0 rfl ?_
    refine v_iload_n F (dq dkX2_sinks_0 4 rfl) rfl 1 rfl ?_
    obtain ⟨r2, e3, h⟩ := bd_of h
    refine v_callV 1 F (q := 48) (kc1 := 0) (ks1 := 0) (as := [.int a1]) (st := []) (st1 := (.int r2 :: [])) (res := (some (.int r2))) (c_X2_draught (l := C.2.1) x y a1 e3) (xn (by decide)) xc_48 rfl (tc39 _ (List.mem_of_getElem? (i := 13) rfl)) (tc39 _ (List.mem_of_getElem? (i := 14) rfl)) (tc39 _ (List.mem_of_getElem? (i := 15) rfl)) (tc2 _ (List.mem_of_getElem? (i := 19) rfl)) (tc39 _ (List.mem_of_getElem? (i := 16) rfl)) (by decide) rfl ⟨rfl, rfl, Nat.le_of_ble_eq_true rfl, Nat.le_of_ble_eq_true rfl⟩ ⟨Nat.le_of_ble_eq_true rfl, Nat.le_of_ble_eq_true rfl⟩ rfl (Nat.le_of_ble_eq_true rfl) rfl rfl rfl (dq dkX2_sinks_0 5 rfl) ?_
    refine v_aload_n F (dq dkX2_sinks_0 6 rfl) rfl 0 rfl ?_
    obtain ⟨r4, e5, h⟩ := bd_of h
    refine v_callV 0 F (q := 48) (kc1 := 0) (ks1 := 0) (as := []) (st := [.int r2]) (st1 := (.int r4 :: [.int r2])) (res := (some (.int r4))) (c_X2_leastHigh (l := C.2.1) x y e5) (xn (by decide)) xc_48 rfl (tc40 _ (List.mem_of_getElem? (i := 1) rfl)) (tc40 _ (List.mem_of_getElem? (i := 2) rfl)) (tc40 _ (List.mem_of_getElem? (i := 3) rfl)) (tc2 _ (List.mem_of_getElem? (i := 19) rfl)) (tc40 _ (List.mem_of_getElem? (i := 4) rfl)) (by decide) rfl ⟨rfl, rfl, Nat.le_of_ble_eq_true rfl, Nat.le_of_ble_eq_true rfl⟩ ⟨Nat.le_of_ble_eq_true rfl, Nat.le_of_ble_eq_true rfl⟩ rfl (Nat.le_of_ble_eq_true rfl) rfl rfl rfl (dq dkX2_sinks_0 7 rfl) ?_
    refine v_icmp_le F (tgt := 23) (dq dkX2_sinks_0 8 rfl) (by decide) (fun c6 => ?_) (fun c6 => ?_)
    · rw [if_pos c6] at h
      refine v_iconst F (v := 0) (dq dkX2_sinks_0 11 rfl) ki_0 ?_
      have h := Option.some.inj h
      subst h
      exact v_zret F E (b2i_n false) (dq dkX2_sinks_0 12 rfl)
    · rw [if_neg c6] at h
      refine v_sub [] rfl ?_
      exact t_X2_sinks_19 x h F E
def rm_X2_steadiness : Room := { frames := 1, cells := 0, slots := 0, locals := 30 }
def f_X2_steadiness_4 (x : CS) : Nat → Int32 → Int32 → Int32 → Option (Int32)
  | 0, _, _, _ => none
  | n + 1, a1, a2, a3 => if 9 ≤ a3 then (if 0 ≤ a1 then (gd (decide (¬ (a1 + 1) = 0)) (some (a2 / (a1 + 1)))) else (some 0)) else (gd (ib a3 9) (gd (ib a3 9) ((f_X2_steadiness_4 x n) a1 (a2 + ((gi x 49 a3.toNatClampNeg) * (gi x 49 a3.toNatClampNeg))) (a3 + 1))))
set_option maxRecDepth 100000 in
set_option maxHeartbeats 4000000 in
theorem t_X2_steadiness_4 {C : Cx} {K : KE} {y : MS} {R : Int32}  (x : CS) (F : Fx C RX2 cX2_steadiness 4 rm_X2_steadiness K) (E : CE C (xf K x y) (some (.int R)) 0 0 (some .int)) : ∀ (n : Nat) (a1 : Int32) (a2 : Int32) (a3 : Int32) (h : f_X2_steadiness_4 x n a1 a2 a3 = some R), V C 4 [(0, .ref (K.1 + 48)), (1, .int a1), (2, .int a2), (3, .int a3)] [] (xf K x y) 0 0 := by
  intro n
  induction n with
  | zero => intro a1 a2 a3 h; cases h
  | succ n ih =>
    intro a1 a2 a3 h
    rw [f_X2_steadiness_4] at h
    refine v_iload_n F (dq dkX2_steadiness_0 4 rfl) rfl 3 rfl ?_
    refine v_bipush F (v := 9) (dq dkX2_steadiness_0 5 rfl) kb_9 ?_
    refine v_icmp_ge F (tgt := 32) (dq dkX2_steadiness_0 6 rfl) (by decide) (fun c1 => ?_) (fun c1 => ?_)
    · rw [if_pos c1] at h
      refine v_iload_n F (dq dkX2_steadiness_0 21 rfl) rfl 1 rfl ?_
      refine v_if_ge F (tgt := 40) (dq dkX2_steadiness_0 22 rfl) (by decide) (fun c2 => ?_) (fun c2 => ?_)
      · rw [if_pos c2] at h
        refine v_iload_n F (dq dkX2_steadiness_0 25 rfl) rfl 2 rfl ?_
        refine v_iload_n F (dq dkX2_steadiness_0 26 rfl) rfl 1 rfl ?_
        refine v_iconst F (v := 1) (dq dkX2_steadiness_0 27 rfl) ki_1 ?_
        refine v_iadd F (dq dkX2_steadiness_0 28 rfl) ?_
        obtain ⟨g3, h⟩ := gd_of h
        refine v_idiv F (dq dkX2_steadiness_0 29 rfl) (of_decide_eq_true g3) ?_
        have h := Option.some.inj h
        subst h
        exact v_iret F E (dq dkX2_steadiness_0 30 rfl)
      · rw [if_neg c2] at h
        refine v_iconst F (v := 0) (dq dkX2_steadiness_0 23 rfl) ki_0 ?_
        refine v_goto F (tgt := 45) (dq dkX2_steadiness_0 24 rfl) (by decide) ?_
        have h := Option.some.inj h
        subst h
        exact v_iret F E (dq dkX2_steadiness_0 30 rfl)
    · rw [if_neg c1] at h
      refine v_iload_n F (dq dkX2_steadiness_0 7 rfl) rfl 2 rfl ?_
      refine v_aload_n F (dq dkX2_steadiness_0 8 rfl) rfl 0 rfl ?_
      refine v_get F 48 (xn (by decide)) xc_48 rfl inlX2 2 (by decide) (tc5 _ (List.mem_of_getElem? (i := 0) rfl)) rfl rfl (dq dkX2_steadiness_0 9 rfl) ?_
      refine v_iload_n F (dq dkX2_steadiness_0 10 rfl) rfl 3 rfl ?_
      obtain ⟨g4, h⟩ := gd_of h
      refine v_iald F 49 (xn (by decide)) xc_49 (ib_in g4) (dq dkX2_steadiness_0 11 rfl) ?_
      refine v_aload_n F (dq dkX2_steadiness_0 12 rfl) rfl 0 rfl ?_
      refine v_get F 48 (xn (by decide)) xc_48 rfl inlX2 2 (by decide) (tc5 _ (List.mem_of_getElem? (i := 0) rfl)) rfl rfl (dq dkX2_steadiness_0 13 rfl) ?_
      refine v_iload_n F (dq dkX2_steadiness_0 14 rfl) rfl 3 rfl ?_
      obtain ⟨g5, h⟩ := gd_of h
      refine v_iald F 49 (xn (by decide)) xc_49 (ib_in g5) (dq dkX2_steadiness_0 15 rfl) ?_
      refine v_imul F (dq dkX2_steadiness_0 16 rfl) ?_
      refine v_iadd F (dq dkX2_steadiness_0 17 rfl) ?_
      refine v_istore_n F (ls' := [(2, .int (a2 + ((gi x 49 a3.toNatClampNeg) * (gi x 49 a3.toNatClampNeg)))), (0, .ref (K.1 + 48)), (1, .int a1), (3, .int a3)]) (dq dkX2_steadiness_0 18 rfl) rfl (by decide) rfl ?_
      refine v_iinc F (v := a3 + 1) (ls' := [(3, .int (a3 + 1)), (2, .int (a2 + ((gi x 49 a3.toNatClampNeg) * (gi x 49 a3.toNatClampNeg)))), (0, .ref (K.1 + 48)), (1, .int a1)]) (dq dkX2_steadiness_0 19 rfl) (j := 3) rfl (kv_add ki_1) (by decide) rfl ?_
      refine v_goto F (tgt := 4) (dq dkX2_steadiness_0 20 rfl) (by decide) ?_
      refine v_sub [2, 3, 1, 0] rfl ?_
      exact ih a1 (a2 + ((gi x 49 a3.toNatClampNeg) * (gi x 49 a3.toNatClampNeg))) (a3 + 1) h
def f_X2_steadiness (x : CS) (a1 : Int32) : Option (Int32) := f_X2_steadiness_4 x 1000 a1 0 0
set_option maxRecDepth 100000 in
set_option maxHeartbeats 4000000 in
theorem c_X2_steadiness {K : KE} {l : Launch} {R : Int32} (x : CS) (y : MS) (a1 : Int32) (h : f_X2_steadiness x a1 = some R) : MC K l yX2_steadiness cX2_steadiness 4 (some .int) rm_X2_steadiness 0 0 [.ref (K.1 + 48), .int a1] (xf K x y) (xf K x y) (some (.int R)) := by
  unfold f_X2_steadiness at h
  refine mc_of (ls0 := [(0, .ref (K.1 + 48)), (1, .int a1)]) (by decide) (Nat.le_of_ble_eq_true rfl) rfl (fun C hl hnm F E => ?_)
  have F : Fx C RX2 cX2_steadiness 4 rm_X2_steadiness K := F
  refine v_iconst F (v := 0) (dq dkX2_steadiness_0 0 rfl) ki_0 ?_
  refine v_istore_n F (ls' := [(2, .int 0), (0, .ref (K.1 + 48)), (1, .int a1)]) (dq dkX2_steadiness_0 1 rfl) rfl (by decide) rfl ?_
  refine v_iconst F (v := 0) (dq dkX2_steadiness_0 2 rfl) ki_0 ?_
  refine v_istore_n F (ls' := [(3, .int 0), (2, .int 0), (0, .ref (K.1 + 48)), (1, .int a1)]) (dq dkX2_steadiness_0 3 rfl) rfl (by decide) rfl ?_
  refine v_sub [2, 3, 1, 0] rfl ?_
  exact t_X2_steadiness_4 x F E 1000 a1 0 0 h
def rm_X2_driedApart : Room := { frames := 5, cells := 0, slots := 0, locals := 113 }
def f_X2_driedApart_101 (k27 : Int32 → Int32 → Int32 → Option (Int32)) (x : CS) (a2 : Int32) (a3 : Int32) (a4 : Int32) : Option (Int32) := k27 a2 a3 (a4 + 1)
set_option maxRecDepth 100000 in
set_option maxHeartbeats 4000000 in
theorem t_X2_driedApart_101 {C : Cx} {K : KE} {y : MS} {R : Int32}  (k27 : Int32 → Int32 → Int32 → Option (Int32)) (x : CS) (a2 : Int32) (a3 : Int32) (a4 : Int32) (hk27 : ∀ (a2 : Int32) (a3 : Int32) (a4 : Int32), k27 a2 a3 a4 = some R → V C 27 [(0, .ref (K.1 + 48)), (2, .int a2), (3, .int a3), (4, .int a4)] [] (xf K x y) 0 0) (h : f_X2_driedApart_101 k27 x a2 a3 a4 = some R) (F : Fx C RX2 cX2_driedApart 6 rm_X2_driedApart K) (E : CE C (xf K x y) (some (.int R)) 0 0 (some .int)) : V C 101 [(0, .ref (K.1 + 48)), (2, .int a2), (3, .int a3), (4, .int a4)] [] (xf K x y) 0 0 := by
  unfold f_X2_driedApart_101 at h
  refine v_iinc F (v := a4 + 1) (ls' := [(4, .int (a4 + 1)), (0, .ref (K.1 + 48)), (2, .int a2), (3, .int a3)]) (dq dkX2_driedApart_1 17 rfl) (j := 3) rfl (kv_add ki_1) (by decide) rfl ?_
  refine v_goto F (tgt := 27) (dq dkX2_driedApart_1 18 rfl) (by decide) ?_
  refine v_sub [1, 2, 3, 0] rfl ?_
  exact hk27 a2 a3 (a4 + 1) h
def f_X2_driedApart_27 (x : CS) : Nat → Int32 → Int32 → Int32 → Option (Int32)
  | 0, _, _, _ => none
  | n + 1, a2, a3, a4 => if 9 ≤ a4 then (some a2) else ((f_X8_of x 1 3 a4).bind fun r2 => gd (ib a4 9) ((f_X8_of x 1 4 a4).bind fun r5 => if (b2i (f_X2_isBroken x a4)) = 0 then (gd (ib a4 9) (if (gi x 50 a4.toNatClampNeg) ≤ 0 then (f_X2_driedApart_101 (f_X2_driedApart_27 x n) x a2 a3 a4) else (if a3 ≤ ((r2 * (gi x 50 a4.toNatClampNeg)) - (20 * r5)) then (f_X2_driedApart_101 (f_X2_driedApart_27 x n) x a2 a3 a4) else (f_X2_driedApart_101 (f_X2_driedApart_27 x n) x (a2 ||| (f_X2_bit a4)) a3 a4)))) else (f_X2_driedApart_101 (f_X2_driedApart_27 x n) x a2 a3 a4)))
set_option maxRecDepth 100000 in
set_option maxHeartbeats 4000000 in
theorem t_X2_driedApart_27 {C : Cx} {K : KE} {y : MS} {R : Int32}  (x : CS) (F : Fx C RX2 cX2_driedApart 6 rm_X2_driedApart K) (E : CE C (xf K x y) (some (.int R)) 0 0 (some .int)) : ∀ (n : Nat) (a2 : Int32) (a3 : Int32) (a4 : Int32) (h : f_X2_driedApart_27 x n a2 a3 a4 = some R), V C 27 [(0, .ref (K.1 + 48)), (2, .int a2), (3, .int a3), (4, .int a4)] [] (xf K x y) 0 0 := by
  intro n
  induction n with
  | zero => intro a2 a3 a4 h; cases h
  | succ n ih =>
    intro a2 a3 a4 h
    rw [f_X2_driedApart_27] at h
    refine v_iload F (dq dkX2_driedApart_0 18 rfl) 3 rfl ?_
    refine v_bipush F (v := 9) (dq dkX2_driedApart_0 19 rfl) kb_9 ?_
    refine v_icmp_ge F (tgt := 107) (dq dkX2_driedApart_0 20 rfl) (by decide) (fun c1 => ?_) (fun c1 => ?_)
    · rw [if_pos c1] at h
      refine v_iload_n F (dq dkX2_driedApart_1 19 rfl) rfl 1 rfl ?_
      have h := Option.some.inj h
      subst h
      exact v_iret F E (dq dkX2_driedApart_1 20 rfl)
    · rw [if_neg c1] at h
      refine v_aload_n F (dq dkX2_driedApart_0 21 rfl) rfl 0 rfl ?_
      refine v_get F 48 (xn (by decide)) xc_48 rfl inlX2 0 (by decide) (tc5 _ (List.mem_of_getElem? (i := 11) rfl)) rfl rfl (dq dkX2_driedApart_0 22 rfl) ?_
      refine v_iconst F (v := 3) (dq dkX2_driedApart_0 23 rfl) ki_3 ?_
      refine v_iload F (dq dkX2_driedApart_0 24 rfl) 3 rfl ?_
      obtain ⟨r2, e3, h⟩ := bd_of h
      refine v_callV 2 F (q := 1) (kc1 := 0) (ks1 := 0) (as := [.int 3, .int a4]) (st := []) (st1 := (.int r2 :: [])) (res := (some (.int r2))) (c_X8_of (l := C.2.1) x y 1 3 a4 e3) (xn (by decide)) xc_1 rfl (tc20 _ (List.mem_of_getElem? (i := 13) rfl)) (tc14 _ (List.mem_of_getElem? (i := 11) rfl)) (tc14 _ (List.mem_of_getElem? (i := 12) rfl)) (tc1 _ (List.mem_of_getElem? (i := 15) rfl)) (tc14 _ (List.mem_of_getElem? (i := 13) rfl)) (by decide) rfl ⟨rfl, rfl, Nat.le_of_ble_eq_true rfl, Nat.le_of_ble_eq_true rfl⟩ ⟨Nat.le_of_ble_eq_true rfl, Nat.le_of_ble_eq_true rfl⟩ rfl (Nat.le_of_ble_eq_true rfl) rfl rfl rfl (dq dkX2_driedApart_0 25 rfl) ?_
      refine v_aload_n F (dq dkX2_driedApart_0 26 rfl) rfl 0 rfl ?_
      refine v_get F 48 (xn (by decide)) xc_48 rfl inlX2 3 (by decide) (tc5 _ (List.mem_of_getElem? (i := 1) rfl)) rfl rfl (dq dkX2_driedApart_0 27 rfl) ?_
      refine v_iload F (dq dkX2_driedApart_0 28 rfl) 3 rfl ?_
      obtain ⟨g4, h⟩ := gd_of h
      refine v_iald F 50 (xn (by decide)) xc_50 (ib_in g4) (dq dkX2_driedApart_0 29 rfl) ?_
      refine v_imul F (dq dkX2_driedApart_0 30 rfl) ?_
      refine v_bipush F (v := 20) (dq dkX2_driedApart_0 31 rfl) kb_20 ?_
      refine v_aload_n F (dq dkX2_driedApart_0 32 rfl) rfl 0 rfl ?_
      refine v_get F 48 (xn (by decide)) xc_48 rfl inlX2 0 (by decide) (tc5 _ (List.mem_of_getElem? (i := 11) rfl)) rfl rfl (dq dkX2_driedApart_0 33 rfl) ?_
      refine v_iconst F (v := 4) (dq dkX2_driedApart_0 34 rfl) ki_4 ?_
      refine v_iload F (dq dkX2_driedApart_0 35 rfl) 3 rfl ?_
      obtain ⟨r5, e6, h⟩ := bd_of h
      refine v_callV 2 F (q := 1) (kc1 := 0) (ks1 := 0) (as := [.int 4, .int a4]) (st := [.int 20, .int (r2 * (gi x 50 a4.toNatClampNeg))]) (st1 := (.int r5 :: [.int 20, .int (r2 * (gi x 50 a4.toNatClampNeg))])) (res := (some (.int r5))) (c_X8_of (l := C.2.1) x y 1 4 a4 e6) (xn (by decide)) xc_1 rfl (tc20 _ (List.mem_of_getElem? (i := 13) rfl)) (tc14 _ (List.mem_of_getElem? (i := 11) rfl)) (tc14 _ (List.mem_of_getElem? (i := 12) rfl)) (tc1 _ (List.mem_of_getElem? (i := 15) rfl)) (tc14 _ (List.mem_of_getElem? (i := 13) rfl)) (by decide) rfl ⟨rfl, rfl, Nat.le_of_ble_eq_true rfl, Nat.le_of_ble_eq_true rfl⟩ ⟨Nat.le_of_ble_eq_true rfl, Nat.le_of_ble_eq_true rfl⟩ rfl (Nat.le_of_ble_eq_true rfl) rfl rfl rfl (dq dkX2_driedApart_0 36 rfl) ?_
      refine v_imul F (dq dkX2_driedApart_0 37 rfl) ?_
      refine v_isub F (dq dkX2_driedApart_0 38 rfl) ?_
      refine v_istore F (ls' := [(5, .int ((r2 * (gi x 50 a4.toNatClampNeg)) - (20 * r5))), (0, .ref (K.1 + 48)), (2, .int a2), (3, .int a3), (4, .int a4)]) (dq dkX2_driedApart_0 39 rfl) (by decide) rfl ?_
      refine v_aload_n F (dq dkX2_driedApart_1 0 rfl) rfl 1 rfl ?_
      refine v_iload F (dq dkX2_driedApart_1 1 rfl) 4 rfl ?_
      refine v_callV 1 F (q := 48) (kc1 := 0) (ks1 := 0) (as := [.int a4]) (st := []) (st1 := (.int (b2i (f_X2_isBroken x a4)) :: [])) (res := (some (.int (b2i (f_X2_isBroken x a4))))) (c_X2_isBroken (l := C.2.1) x y a4) (xn (by decide)) xc_48 rfl (tc27 _ (List.mem_of_getElem? (i := 0) rfl)) (tc27 _ (List.mem_of_getElem? (i := 1) rfl)) (tc27 _ (List.mem_of_getElem? (i := 2) rfl)) (tc2 _ (List.mem_of_getElem? (i := 19) rfl)) (tc27 _ (List.mem_of_getElem? (i := 3) rfl)) (by decide) rfl ⟨rfl, rfl, Nat.le_of_ble_eq_true rfl, Nat.le_of_ble_eq_true rfl⟩ ⟨Nat.le_of_ble_eq_true rfl, Nat.le_of_ble_eq_true rfl⟩ rfl (Nat.le_of_ble_eq_true rfl) rfl rfl rfl (dq dkX2_driedApart_1 2 rfl) ?_
      refine v_if_ne F (tgt := 101) (dq dkX2_driedApart_1 3 rfl) (by decide) (fun c8 => ?_) (fun c8 => ?_)
      · rw [if_neg c8] at h
        refine v_sub [1, 2, 3, 4] rfl ?_
        exact t_X2_driedApart_101 (f_X2_driedApart_27 x n) x a2 a3 a4 ih h F E
      · rw [if_pos c8] at h
        refine v_aload_n F (dq dkX2_driedApart_1 4 rfl) rfl 1 rfl ?_
        refine v_get F 48 (xn (by decide)) xc_48 rfl inlX2 3 (by decide) (tc5 _ (List.mem_of_getElem? (i := 1) rfl)) rfl rfl (dq dkX2_driedApart_1 5 rfl) ?_
        refine v_iload F (dq dkX2_driedApart_1 6 rfl) 4 rfl ?_
        obtain ⟨g9, h⟩ := gd_of h
        refine v_iald F 50 (xn (by decide)) xc_50 (ib_in g9) (dq dkX2_driedApart_1 7 rfl) ?_
        refine v_if_le F (tgt := 101) (dq dkX2_driedApart_1 8 rfl) (by decide) (fun c10 => ?_) (fun c10 => ?_)
        · rw [if_pos c10] at h
          refine v_sub [1, 2, 3, 4] rfl ?_
          exact t_X2_driedApart_101 (f_X2_driedApart_27 x n) x a2 a3 a4 ih h F E
        · rw [if_neg c10] at h
          refine v_iload_n F (dq dkX2_driedApart_1 9 rfl) rfl 3 rfl ?_
          refine v_iload F (dq dkX2_driedApart_1 10 rfl) 0 rfl ?_
          refine v_icmp_le F (tgt := 101) (dq dkX2_driedApart_1 11 rfl) (by decide) (fun c11 => ?_) (fun c11 => ?_)
          · rw [if_pos c11] at h
            refine v_sub [1, 2, 3, 4] rfl ?_
            exact t_X2_driedApart_101 (f_X2_driedApart_27 x n) x a2 a3 a4 ih h F E
          · rw [if_neg c11] at h
            refine v_iload_n F (dq dkX2_driedApart_1 12 rfl) rfl 2 rfl ?_
            refine v_iload F (dq dkX2_driedApart_1 13 rfl) 4 rfl ?_
            refine v_callS 1 F (kc1 := 0) (ks1 := 0) (as := [.int a4]) (st := [.int a2]) (st1 := (.int (f_X2_bit a4) :: [.int a2])) (res := (some (.int (f_X2_bit a4)))) (c_X2_bit (l := C.2.1) a4) (tc26 _ (List.mem_of_getElem? (i := 4) rfl)) (tc26 _ (List.mem_of_getElem? (i := 5) rfl)) (tc2 _ (List.mem_of_getElem? (i := 19) rfl)) (tc26 _ (List.mem_of_getElem? (i := 6) rfl)) (by decide) rfl ⟨rfl, rfl, Nat.le_of_ble_eq_true rfl, Nat.le_of_ble_eq_true rfl⟩ ⟨Nat.le_of_ble_eq_true rfl, Nat.le_of_ble_eq_true rfl⟩ rfl (Nat.le_of_ble_eq_true rfl) rfl rfl rfl (dq dkX2_driedApart_1 14 rfl) ?_
            refine v_ior F (dq dkX2_driedApart_1 15 rfl) ?_
            refine v_istore_n F (ls' := [(2, .int (a2 ||| (f_X2_bit a4))), (5, .int ((r2 * (gi x 50 a4.toNatClampNeg)) - (20 * r5))), (0, .ref (K.1 + 48)), (3, .int a3), (4, .int a4)]) (dq dkX2_driedApart_1 16 rfl) rfl (by decide) rfl ?_
            refine v_sub [2, 0, 3, 4] rfl ?_
            exact t_X2_driedApart_101 (f_X2_driedApart_27 x n) x (a2 ||| (f_X2_bit a4)) a3 a4 ih h F E
def f_X2_driedApart (x : CS) (a1 : Int32) : Option (Int32) := (f_X8_setting x 1 2).bind fun r13 => (f_X8_setting x 1 4).bind fun r15 => f_X2_driedApart_27 x 1000 0 ((r13 * a1) * (r15 + 1)) 0
set_option maxRecDepth 100000 in
set_option maxHeartbeats 4000000 in
theorem c_X2_driedApart {K : KE} {l : Launch} {R : Int32} (x : CS) (y : MS) (a1 : Int32) (h : f_X2_driedApart x a1 = some R) : MC K l yX2_driedApart cX2_driedApart 6 (some .int) rm_X2_driedApart 0 0 [.ref (K.1 + 48), .int a1] (xf K x y) (xf K x y) (some (.int R)) := by
  unfold f_X2_driedApart at h
  refine mc_of (ls0 := [(0, .ref (K.1 + 48)), (1, .int a1)]) (by decide) (Nat.le_of_ble_eq_true rfl) rfl (fun C hl hnm F E => ?_)
  have F : Fx C RX2 cX2_driedApart 6 rm_X2_driedApart K := F
  refine v_iconst F (v := 0) (dq dkX2_driedApart_0 0 rfl) ki_0 ?_
  refine v_istore_n F (ls' := [(2, .int 0), (0, .ref (K.1 + 48)), (1, .int a1)]) (dq dkX2_driedApart_0 1 rfl) rfl (by decide) rfl ?_
  refine v_aload_n F (dq dkX2_driedApart_0 2 rfl) rfl 1 rfl ?_
  refine v_get F 48 (xn (by decide)) xc_48 rfl inlX2 0 (by decide) (tc5 _ (List.mem_of_getElem? (i := 11) rfl)) rfl rfl (dq dkX2_driedApart_0 3 rfl) ?_
  refine v_iconst F (v := 2) (dq dkX2_driedApart_0 4 rfl) ki_2 ?_
  obtain ⟨r13, e14, h⟩ := bd_of h
  refine v_callV 1 F (q := 1) (kc1 := 0) (ks1 := 0) (as := [.int 2]) (st := []) (st1 := (.int r13 :: [])) (res := (some (.int r13))) (c_X8_setting (l := C.2.1) x y 1 2 e14) (xn (by decide)) xc_1 rfl (tc20 _ (List.mem_of_getElem? (i := 14) rfl)) (tc15 _ (List.mem_of_getElem? (i := 23) rfl)) (tc16 _ (List.mem_of_getElem? (i := 0) rfl)) (tc1 _ (List.mem_of_getElem? (i := 15) rfl)) (tc16 _ (List.mem_of_getElem? (i := 1) rfl)) (by decide) rfl ⟨rfl, rfl, Nat.le_of_ble_eq_true rfl, Nat.le_of_ble_eq_true rfl⟩ ⟨Nat.le_of_ble_eq_true rfl, Nat.le_of_ble_eq_true rfl⟩ rfl (Nat.le_of_ble_eq_true rfl) rfl rfl rfl (dq dkX2_driedApart_0 5 rfl) ?_
  refine v_iload_n F (dq dkX2_driedApart_0 6 rfl) rfl 2 rfl ?_
  refine v_imul F (dq dkX2_driedApart_0 7 rfl) ?_
  refine v_aload_n F (dq dkX2_driedApart_0 8 rfl) rfl 1 rfl ?_
  refine v_get F 48 (xn (by decide)) xc_48 rfl inlX2 0 (by decide) (tc5 _ (List.mem_of_getElem? (i := 11) rfl)) rfl rfl (dq dkX2_driedApart_0 9 rfl) ?_
  refine v_iconst F (v := 4) (dq dkX2_driedApart_0 10 rfl) ki_4 ?_
  obtain ⟨r15, e16, h⟩ := bd_of h
  refine v_callV 1 F (q := 1) (kc1 := 0) (ks1 := 0) (as := [.int 4]) (st := [.int (r13 * a1)]) (st1 := (.int r15 :: [.int (r13 * a1)])) (res := (some (.int r15))) (c_X8_setting (l := C.2.1) x y 1 4 e16) (xn (by decide)) xc_1 rfl (tc20 _ (List.mem_of_getElem? (i := 14) rfl)) (tc15 _ (List.mem_of_getElem? (i := 23) rfl)) (tc16 _ (List.mem_of_getElem? (i := 0) rfl)) (tc1 _ (List.mem_of_getElem? (i := 15) rfl)) (tc16 _ (List.mem_of_getElem? (i := 1) rfl)) (by decide) rfl ⟨rfl, rfl, Nat.le_of_ble_eq_true rfl, Nat.le_of_ble_eq_true rfl⟩ ⟨Nat.le_of_ble_eq_true rfl, Nat.le_of_ble_eq_true rfl⟩ rfl (Nat.le_of_ble_eq_true rfl) rfl rfl rfl (dq dkX2_driedApart_0 11 rfl) ?_
  refine v_iconst F (v := 1) (dq dkX2_driedApart_0 12 rfl) ki_1 ?_
  refine v_iadd F (dq dkX2_driedApart_0 13 rfl) ?_
  refine v_imul F (dq dkX2_driedApart_0 14 rfl) ?_
  refine v_istore_n F (ls' := [(3, .int ((r13 * a1) * (r15 + 1))), (2, .int 0), (0, .ref (K.1 + 48)), (1, .int a1)]) (dq dkX2_driedApart_0 15 rfl) rfl (by decide) rfl ?_
  refine v_iconst F (v := 0) (dq dkX2_driedApart_0 16 rfl) ki_0 ?_
  refine v_istore F (ls' := [(4, .int 0), (3, .int ((r13 * a1) * (r15 + 1))), (2, .int 0), (0, .ref (K.1 + 48)), (1, .int a1)]) (dq dkX2_driedApart_0 17 rfl) (by decide) rfl ?_
  refine v_sub [3, 2, 1, 0] rfl ?_
  exact t_X2_driedApart_27 x F E 1000 0 ((r13 * a1) * (r15 + 1)) 0 h
