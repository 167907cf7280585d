def rm_X3_keep : Room := { frames := 1, cells := 0, slots := 0, locals := 30 }
def f_X3_keep_23 (x : CS) : Option (Int32 × CS) := some ((-4), x)
set_option maxRecDepth 100000 in
set_option maxHeartbeats 4000000 in
theorem t_X3_keep_23 {C : Cx} {K : KE} {y : MS} {R : Int32 × CS}  (x : CS) (h : f_X3_keep_23 x = some R) (F : Fx C RX3 cX3_keep 3 rm_X3_keep K) (E : CE C (xf K R.2 y) (some (.int R.1)) 0 0 (some .int)) : V C 23 [] [] (xf K x y) 0 0 := by
  unfold f_X3_keep_23 at h
  refine v_bipush F (v := (-4)) (dq dkX3_keep_0 12 rfl) kb_m4 ?_
  have h := Option.some.inj h
  subst h
  exact v_iret F E (dq dkX3_keep_0 13 rfl)
def f_X3_keep (x : CS) (a1 : Nat) (a2 : Nat) : Option (Int32 × CS) := if 6 ≤ (gi x 10 3) then (f_X3_keep_23 x) else (gd (decide (0 < al a1)) (if (nI (al a1)) < 160 then (f_X3_keep_23 x) else (gd (decide (0 < al a2)) (if 3 ≤ (nI (al a2)) then (gd (ib (gi x 10 3) 6) (gd (decide (0 < al a1)) (gd (decide (0 < al (12 + (gi x 10 3).toNatClampNeg))) (gd (cpok 0 0 160 (al a1) (al (12 + (gi x 10 3).toNatClampNeg))) (gd (ib (gi (pf x (12 + (gi x 10 3).toNatClampNeg) (va_cpy (gi x a1) (gi x (12 + (gi x 10 3).toNatClampNeg)) (0 : Int32).toNatClampNeg (0 : Int32).toNatClampNeg (160 : Int32).toNatClampNeg)) 10 3) 6) (gd (decide (0 < al a2)) (gd (decide (0 < al (19 + (gi (pf x (12 + (gi x 10 3).toNatClampNeg) (va_cpy (gi x a1) (gi x (12 + (gi x 10 3).toNatClampNeg)) (0 : Int32).toNatClampNeg (0 : Int32).toNatClampNeg (160 : Int32).toNatClampNeg)) 10 3).toNatClampNeg))) (gd (cpok 0 0 3 (al a2) (al (19 + (gi (pf x (12 + (gi x 10 3).toNatClampNeg) (va_cpy (gi x a1) (gi x (12 + (gi x 10 3).toNatClampNeg)) (0 : Int32).toNatClampNeg (0 : Int32).toNatClampNeg (160 : Int32).toNatClampNeg)) 10 3).toNatClampNeg))) (some ((gi (pi (pf (pf x (12 + (gi x 10 3).toNatClampNeg) (va_cpy (gi x a1) (gi x (12 + (gi x 10 3).toNatClampNeg)) (0 : Int32).toNatClampNeg (0 : Int32).toNatClampNeg (160 : Int32).toNatClampNeg)) (19 + (gi (pf x (12 + (gi x 10 3).toNatClampNeg) (va_cpy (gi x a1) (gi x (12 + (gi x 10 3).toNatClampNeg)) (0 : Int32).toNatClampNeg (0 : Int32).toNatClampNeg (160 : Int32).toNatClampNeg)) 10 3).toNatClampNeg) (va_cpy (gi (pf x (12 + (gi x 10 3).toNatClampNeg) (va_cpy (gi x a1) (gi x (12 + (gi x 10 3).toNatClampNeg)) (0 : Int32).toNatClampNeg (0 : Int32).toNatClampNeg (160 : Int32).toNatClampNeg)) a2) (gi (pf x (12 + (gi x 10 3).toNatClampNeg) (va_cpy (gi x a1) (gi x (12 + (gi x 10 3).toNatClampNeg)) (0 : Int32).toNatClampNeg (0 : Int32).toNatClampNeg (160 : Int32).toNatClampNeg)) (19 + (gi (pf x (12 + (gi x 10 3).toNatClampNeg) (va_cpy (gi x a1) (gi x (12 + (gi x 10 3).toNatClampNeg)) (0 : Int32).toNatClampNeg (0 : Int32).toNatClampNeg (160 : Int32).toNatClampNeg)) 10 3).toNatClampNeg)) (0 : Int32).toNatClampNeg (0 : Int32).toNatClampNeg (3 : Int32).toNatClampNeg)) 10 3 ((gi (pf (pf x (12 + (gi x 10 3).toNatClampNeg) (va_cpy (gi x a1) (gi x (12 + (gi x 10 3).toNatClampNeg)) (0 : Int32).toNatClampNeg (0 : Int32).toNatClampNeg (160 : Int32).toNatClampNeg)) (19 + (gi (pf x (12 + (gi x 10 3).toNatClampNeg) (va_cpy (gi x a1) (gi x (12 + (gi x 10 3).toNatClampNeg)) (0 : Int32).toNatClampNeg (0 : Int32).toNatClampNeg (160 : Int32).toNatClampNeg)) 10 3).toNatClampNeg) (va_cpy (gi (pf x (12 + (gi x 10 3).toNatClampNeg) (va_cpy (gi x a1) (gi x (12 + (gi x 10 3).toNatClampNeg)) (0 : Int32).toNatClampNeg (0 : Int32).toNatClampNeg (160 : Int32).toNatClampNeg)) a2) (gi (pf x (12 + (gi x 10 3).toNatClampNeg) (va_cpy (gi x a1) (gi x (12 + (gi x 10 3).toNatClampNeg)) (0 : Int32).toNatClampNeg (0 : Int32).toNatClampNeg (160 : Int32).toNatClampNeg)) (19 + (gi (pf x (12 + (gi x 10 3).toNatClampNeg) (va_cpy (gi x a1) (gi x (12 + (gi x 10 3).toNatClampNeg)) (0 : Int32).toNatClampNeg (0 : Int32).toNatClampNeg (160 : Int32).toNatClampNeg)) 10 3).toNatClampNeg)) (0 : Int32).toNatClampNeg (0 : Int32).toNatClampNeg (3 : Int32).toNatClampNeg)) 10 3) + 1)) 10 3) - 1, pi (pf (pf x (12 + (gi x 10 3).toNatClampNeg) (va_cpy (gi x a1) (gi x (12 + (gi x 10 3).toNatClampNeg)) (0 : Int32).toNatClampNeg (0 : Int32).toNatClampNeg (160 : Int32).toNatClampNeg)) (19 + (gi (pf x (12 + (gi x 10 3).toNatClampNeg) (va_cpy (gi x a1) (gi x (12 + (gi x 10 3).toNatClampNeg)) (0 : Int32).toNatClampNeg (0 : Int32).toNatClampNeg (160 : Int32).toNatClampNeg)) 10 3).toNatClampNeg) (va_cpy (gi (pf x (12 + (gi x 10 3).toNatClampNeg) (va_cpy (gi x a1) (gi x (12 + (gi x 10 3).toNatClampNeg)) (0 : Int32).toNatClampNeg (0 : Int32).toNatClampNeg (160 : Int32).toNatClampNeg)) a2) (gi (pf x (12 + (gi x 10 3).toNatClampNeg) (va_cpy (gi x a1) (gi x (12 + (gi x 10 3).toNatClampNeg)) (0 : Int32).toNatClampNeg (0 : Int32).toNatClampNeg (160 : Int32).toNatClampNeg)) (19 + (gi (pf x (12 + (gi x 10 3).toNatClampNeg) (va_cpy (gi x a1) (gi x (12 + (gi x 10 3).toNatClampNeg)) (0 : Int32).toNatClampNeg (0 : Int32).toNatClampNeg (160 : Int32).toNatClampNeg)) 10 3).toNatClampNeg)) (0 : Int32).toNatClampNeg (0 : Int32).toNatClampNeg (3 : Int32).toNatClampNeg)) 10 3 ((gi (pf (pf x (12 + (gi x 10 3).toNatClampNeg) (va_cpy (gi x a1) (gi x (12 + (gi x 10 3).toNatClampNeg)) (0 : Int32).toNatClampNeg (0 : Int32).toNatClampNeg (160 : Int32).toNatClampNeg)) (19 + (gi (pf x (12 + (gi x 10 3).toNatClampNeg) (va_cpy (gi x a1) (gi x (12 + (gi x 10 3).toNatClampNeg)) (0 : Int32).toNatClampNeg (0 : Int32).toNatClampNeg (160 : Int32).toNatClampNeg)) 10 3).toNatClampNeg) (va_cpy (gi (pf x (12 + (gi x 10 3).toNatClampNeg) (va_cpy (gi x a1) (gi x (12 + (gi x 10 3).toNatClampNeg)) (0 : Int32).toNatClampNeg (0 : Int32).toNatClampNeg (160 : Int32).toNatClampNeg)) a2) (gi (pf x (12 + (gi x 10 3).toNatClampNeg) (va_cpy (gi x a1) (gi x (12 + (gi x 10 3).toNatClampNeg)) (0 : Int32).toNatClampNeg (0 : Int32).toNatClampNeg (160 : Int32).toNatClampNeg)) (19 + (gi (pf x (12 + (gi x 10 3).toNatClampNeg) (va_cpy (gi x a1) (gi x (12 + (gi x 10 3).toNatClampNeg)) (0 : Int32).toNatClampNeg (0 : Int32).toNatClampNeg (160 : Int32).toNatClampNeg)) 10 3).toNatClampNeg)) (0 : Int32).toNatClampNeg (0 : Int32).toNatClampNeg (3 : Int32).toNatClampNeg)) 10 3) + 1))))))))))) else (f_X3_keep_23 x)))))
set_option maxRecDepth 100000 in
set_option maxHeartbeats 4000000 in
theorem c_X3_keep {K : KE} {l : Launch} {R : Int32 × CS} (x : CS) (y : MS) (a1 : Nat) (a2 : Nat) (h : f_X3_keep x a1 a2 = some R) : MC K l yX3_keep cX3_keep 3 (some .int) rm_X3_keep 0 0 [.ref (K.1 + 10), .ref (K.1 + a1), .ref (K.1 + a2)] (xf K x y) (xf K R.2 y) (some (.int R.1)) := by
  unfold f_X3_keep at h
  refine mc_of (ls0 := [(0, .ref (K.1 + 10)), (1, .ref (K.1 + a1)), (2, .ref (K.1 + a2))]) (by decide) (Nat.le_of_ble_eq_true rfl) rfl (fun C hl hnm F E => ?_)
  have F : Fx C RX3 cX3_keep 3 rm_X3_keep K := F
  refine v_aload_n F (dq dkX3_keep_0 0 rfl) rfl 0 rfl ?_
  refine v_get F 10 (xn (by decide)) xc_10 rfl inlX3 3 (by decide) (tc3 _ (List.mem_of_getElem? (i := 16) rfl)) rfl rfl (dq dkX3_keep_0 1 rfl) ?_
  refine v_bipush F (v := 6) (dq dkX3_keep_0 2 rfl) kb_6 ?_
  refine v_icmp_ge F (tgt := 23) (dq dkX3_keep_0 3 rfl) (by decide) (fun c1 => ?_) (fun c1 => ?_)
  · rw [if_pos c1] at h
    refine v_sub [] rfl ?_
    exact t_X3_keep_23 x h F E
  · rw [if_neg c1] at h
    refine v_aload_n F (dq dkX3_keep_0 4 rfl) rfl 1 rfl ?_
    obtain ⟨g2, h⟩ := gd_of h
    refine v_alen F a1 (xl_lt g2) (xl_at g2) (t := 0) rfl (n := nI (al a1)) rfl (dq dkX3_keep_0 5 rfl) ?_
    refine v_sipush F (v := 160) (dq dkX3_keep_0 6 rfl) ks_160 ?_
    refine v_icmp_lt F (tgt := 23) (dq dkX3_keep_0 7 rfl) (by decide) (fun c3 => ?_) (fun c3 => ?_)
    · rw [if_pos c3] at h
      refine v_sub [] rfl ?_
      exact t_X3_keep_23 x h F E
    · rw [if_neg c3] at h
      refine v_aload_n F (dq dkX3_keep_0 8 rfl) rfl 2 rfl ?_
      obtain ⟨g4, h⟩ := gd_of h
      refine v_alen F a2 (xl_lt g4) (xl_at g4) (t := 0) rfl (n := nI (al a2)) rfl (dq dkX3_keep_0 9 rfl) ?_
      refine v_iconst F (v := 3) (dq dkX3_keep_0 10 rfl) ki_3 ?_
      refine v_icmp_ge F (tgt := 26) (dq dkX3_keep_0 11 rfl) (by decide) (fun c5 => ?_) (fun c5 => ?_)
      · rw [if_pos c5] at h
        refine v_aload_n F (dq dkX3_keep_0 14 rfl) rfl 1 rfl ?_
        refine v_iconst F (v := 0) (dq dkX3_keep_0 15 rfl) ki_0 ?_
        refine v_aload_n F (dq dkX3_keep_0 16 rfl) rfl 0 rfl ?_
        refine v_get F 10 (xn (by decide)) xc_10 rfl inlX3 0 (by decide) (tc3 _ (List.mem_of_getElem? (i := 13) rfl)) rfl rfl (dq dkX3_keep_0 17 rfl) ?_
        refine v_aload_n F (dq dkX3_keep_0 18 rfl) rfl 0 rfl ?_
        refine v_get F 10 (xn (by decide)) xc_10 rfl inlX3 3 (by decide) (tc3 _ (List.mem_of_getElem? (i := 16) rfl)) rfl rfl (dq dkX3_keep_0 19 rfl) ?_
        obtain ⟨g6, h⟩ := gd_of h
        refine v_aald F 11 (xn (by decide)) xc_11 (t := 2) rfl rfl (ib_in g6) (dq dkX3_keep_0 20 rfl) ?_
        refine v_iconst F (v := 0) (dq dkX3_keep_0 21 rfl) ki_0 ?_
        refine v_sipush F (v := 160) (dq dkX3_keep_0 22 rfl) ks_160 ?_
        obtain ⟨g7, h⟩ := gd_of h
        obtain ⟨g8, h⟩ := gd_of h
        obtain ⟨g9, h⟩ := gd_of h
        refine v_copy F a1 (12 + (gi x 10 3).toNatClampNeg) (xl_lt g7) (xl_at g7) (xl_lt g8) (xl_at g8) g9 (tc11 _ (List.mem_of_getElem? (i := 5) rfl)) (tc11 _ (List.mem_of_getElem? (i := 6) rfl)) (tc11 _ (List.mem_of_getElem? (i := 7) rfl)) (tc11 _ (List.mem_of_getElem? (i := 8) rfl)) (Nat.le_of_ble_eq_true rfl) (Nat.le_of_ble_eq_true rfl) (dq dkX3_keep_0 23 rfl) ?_
        refine v_eqM (xwF (xl_lc g8) ((xa_all (of_decide_eq_true g8)).2 _)) ?_
        refine v_aload_n F (dq dkX3_keep_0 24 rfl) rfl 2 rfl ?_
        refine v_iconst F (v := 0) (dq dkX3_keep_0 25 rfl) ki_0 ?_
        refine v_aload_n F (dq dkX3_keep_0 26 rfl) rfl 0 rfl ?_
        refine v_get F 10 (xn (by decide)) xc_10 rfl inlX3 1 (by decide) (tc3 _ (List.mem_of_getElem? (i := 14) rfl)) rfl rfl (dq dkX3_keep_0 27 rfl) ?_
        refine v_aload_n F (dq dkX3_keep_0 28 rfl) rfl 0 rfl ?_
        refine v_get F 10 (xn (by decide)) xc_10 rfl inlX3 3 (by decide) (tc3 _ (List.mem_of_getElem? (i := 16) rfl)) rfl rfl (dq dkX3_keep_0 29 rfl) ?_
        obtain ⟨g10, h⟩ := gd_of h
        refine v_aald F 18 (xn (by decide)) xc_18 (t := 2) rfl rfl (ib_in g10) (dq dkX3_keep_0 30 rfl) ?_
        refine v_iconst F (v := 0) (dq dkX3_keep_0 31 rfl) ki_0 ?_
        refine v_iconst F (v := 3) (dq dkX3_keep_0 32 rfl) ki_3 ?_
        obtain ⟨g11, h⟩ := gd_of h
        obtain ⟨g12, h⟩ := gd_of h
        obtain ⟨g13, h⟩ := gd_of h
        refine v_copy F a2 (19 + (gi (pf x (12 + (gi x 10 3).toNatClampNeg) (va_cpy (gi x a1) (gi x (12 + (gi x 10 3).toNatClampNeg)) (0 : Int32).toNatClampNeg (0 : Int32).toNatClampNeg (160 : Int32).toNatClampNeg)) 10 3).toNatClampNeg) (xl_lt g11) (xl_at g11) (xl_lt g12) (xl_at g12) g13 (tc11 _ (List.mem_of_getElem? (i := 5) rfl)) (tc11 _ (List.mem_of_getElem? (i := 6) rfl)) (tc11 _ (List.mem_of_getElem? (i := 7) rfl)) (tc11 _ (List.mem_of_getElem? (i := 8) rfl)) (Nat.le_of_ble_eq_true rfl) (Nat.le_of_ble_eq_true rfl) (dq dkX3_keep_0 33 rfl) ?_
        refine v_eqM (xwF (xl_lc g12) ((xa_all (of_decide_eq_true g12)).2 _)) ?_
        refine v_aload_n F (dq dkX3_keep_0 34 rfl) rfl 0 rfl ?_
        refine v_dup F (dq dkX3_keep_0 35 rfl) rfl ?_
        refine v_get F 10 (xn (by decide)) xc_10 rfl inlX3 3 (by decide) (tc3 _ (List.mem_of_getElem? (i := 16) rfl)) rfl rfl (dq dkX3_keep_0 36 rfl) ?_
        refine v_iconst F (v := 1) (dq dkX3_keep_0 37 rfl) ki_1 ?_
        refine v_iadd F (dq dkX3_keep_0 38 rfl) ?_
        refine v_put F 10 (xn (by decide)) xc_10 rfl inlX3 tyX3_ok nmX3 3 (by decide) (tc3 _ (List.mem_of_getElem? (i := 16) rfl)) rfl rfl (tyX3_ok 3 (by decide)) rfl rfl (Nat.le_of_ble_eq_true rfl) (dq dkX3_keep_0 39 rfl) ?_
        refine v_eqM (xwC (q := 10) (j := 3) (v := (gi (pf (pf x (12 + (gi x 10 3).toNatClampNeg) (va_cpy (gi x a1) (gi x (12 + (gi x 10 3).toNatClampNeg)) (0 : Int32).toNatClampNeg (0 : Int32).toNatClampNeg (160 : Int32).toNatClampNeg)) (19 + (gi (pf x (12 + (gi x 10 3).toNatClampNeg) (va_cpy (gi x a1) (gi x (12 + (gi x 10 3).toNatClampNeg)) (0 : Int32).toNatClampNeg (0 : Int32).toNatClampNeg (160 : Int32).toNatClampNeg)) 10 3).toNatClampNeg) (va_cpy (gi (pf x (12 + (gi x 10 3).toNatClampNeg) (va_cpy (gi x a1) (gi x (12 + (gi x 10 3).toNatClampNeg)) (0 : Int32).toNatClampNeg (0 : Int32).toNatClampNeg (160 : Int32).toNatClampNeg)) a2) (gi (pf x (12 + (gi x 10 3).toNatClampNeg) (va_cpy (gi x a1) (gi x (12 + (gi x 10 3).toNatClampNeg)) (0 : Int32).toNatClampNeg (0 : Int32).toNatClampNeg (160 : Int32).toNatClampNeg)) (19 + (gi (pf x (12 + (gi x 10 3).toNatClampNeg) (va_cpy (gi x a1) (gi x (12 + (gi x 10 3).toNatClampNeg)) (0 : Int32).toNatClampNeg (0 : Int32).toNatClampNeg (160 : Int32).toNatClampNeg)) 10 3).toNatClampNeg)) (0 : Int32).toNatClampNeg (0 : Int32).toNatClampNeg (3 : Int32).toNatClampNeg)) 10 3) + 1) (by decide) rfl) ?_
        refine v_aload_n F (dq dkX3_keep_1 0 rfl) rfl 0 rfl ?_
        refine v_get F 10 (xn (by decide)) xc_10 rfl inlX3 3 (by decide) (tc3 _ (List.mem_of_getElem? (i := 16) rfl)) rfl rfl (dq dkX3_keep_1 1 rfl) ?_
        refine v_iconst F (v := 1) (dq dkX3_keep_1 2 rfl) ki_1 ?_
        refine v_isub F (dq dkX3_keep_1 3 rfl) ?_
        have h := Option.some.inj h
        subst h
        exact v_iret F E (dq dkX3_keep_1 4 rfl)
      · rw [if_neg c5] at h
        refine v_sub [] rfl ?_
        exact t_X3_keep_23 x h F E
def rm_X4_become : Room := { frames := 1, cells := 0, slots := 0, locals := 30 }
def f_X4_become_30 (t0 : Nat) : Nat → CS → Int32 → Option (CS)
  | 0, _, _ => none
  | n + 1, x, a3 => if 40 ≤ a3 then (some x) else (gd (kSh t0) (gd (ib a3 (al (t0 + 1))) ((f_X4_become_30 t0 n) (pi x (t0 + 1) a3.toNatClampNeg 0) (a3 + 1))))
set_option maxRecDepth 100000 in
set_option maxHeartbeats 4000000 in
theorem t_X4_become_30 {C : Cx} {K : KE} {y : MS} {R : CS}  (t0 : Nat) (F : Fx C RX4 cX4_become 4 rm_X4_become K) (E : CE C (xf K R y) none 0 0 none) : ∀ (n : Nat) (x : CS) (a3 : Int32) (h : f_X4_become_30 t0 n x a3 = some R), V C 30 [(0, .ref (K.1 + t0)), (3, .int a3)] [] (xf K x y) 0 0 := by
  intro n
  induction n with
  | zero => intro x a3 h; cases h
  | succ n ih =>
    intro x a3 h
    rw [f_X4_become_30] at h
    refine v_iload_n F (dq dkX4_become_0 17 rfl) rfl 1 rfl ?_
    refine v_bipush F (v := 40) (dq dkX4_become_0 18 rfl) kb_40 ?_
    refine v_icmp_ge F (tgt := 49) (dq dkX4_become_0 19 rfl) (by decide) (fun c1 => ?_) (fun c1 => ?_)
    · rw [if_pos c1] at h
      have h := Option.some.inj h
      subst h
      exact v_vret F E (dq dkX4_become_0 27 rfl)
    · rw [if_neg c1] at h
      refine v_aload_n F (dq dkX4_become_0 20 rfl) rfl 0 rfl ?_
      obtain ⟨g2, h⟩ := gd_of h
      refine v_get F t0 (kSh_lt g2) (kSh_at g2) rfl inlX4 0 (by decide) (tc5 _ (List.mem_of_getElem? (i := 16) rfl)) rfl rfl (dq dkX4_become_0 21 rfl) ?_
      refine v_iload_n F (dq dkX4_become_0 22 rfl) rfl 1 rfl ?_
      refine v_iconst F (v := 0) (dq dkX4_become_0 23 rfl) ki_0 ?_
      obtain ⟨g3, h⟩ := gd_of h
      refine v_iast F (t0 + 1) (xa_lt g3) (xa_at g3) (ib_in g3) (dq dkX4_become_0 24 rfl) ?_
      refine v_eqM (xwC (q := (t0 + 1)) (j := a3.toNatClampNeg) (v := 0) (xa_lc g3) (xa_e g3)) ?_
      refine v_iinc F (v := a3 + 1) (ls' := [(3, .int (a3 + 1)), (0, .ref (K.1 + t0))]) (dq dkX4_become_0 25 rfl) (j := 1) rfl (kv_add ki_1) (by decide) rfl ?_
      refine v_goto F (tgt := 30) (dq dkX4_become_0 26 rfl) (by decide) ?_
      refine v_sub [1, 0] rfl ?_
      exact ih (pi x (t0 + 1) a3.toNatClampNeg 0) (a3 + 1) h
def f_X4_become_25 (t0 : Nat) (x : CS) (s0 : Int32) (s1 : Nat) : Option (CS) := gd (kSh s1) (f_X4_become_30 t0 1000 (pi x s1 2 s0) 0)
set_option maxRecDepth 100000 in
set_option maxHeartbeats 4000000 in
theorem t_X4_become_25 {C : Cx} {K : KE} {y : MS} {R : CS}  (t0 : Nat) (x : CS) (s0 : Int32) (s1 : Nat) (h : f_X4_become_25 t0 x s0 s1 = some R) (F : Fx C RX4 cX4_become 4 rm_X4_become K) (E : CE C (xf K R y) none 0 0 none) : V C 25 [(0, .ref (K.1 + t0))] [.int s0, .ref (K.1 + s1)] (xf K x y) 0 0 := by
  unfold f_X4_become_25 at h
  obtain ⟨g4, h⟩ := gd_of h
  refine v_put F s1 (kSh_lt g4) (kSh_at g4) rfl inlX4 tyX4_ok nmX4 2 (by decide) (tc5 _ (List.mem_of_getElem? (i := 18) rfl)) rfl rfl (tyX4_ok 2 (by decide)) rfl rfl (Nat.le_of_ble_eq_true rfl) (dq dkX4_become_0 14 rfl) ?_
  refine v_eqM (kSh_w2 g4) ?_
  refine v_iconst F (v := 0) (dq dkX4_become_0 15 rfl) ki_0 ?_
  refine v_istore_n F (ls' := [(3, .int 0), (0, .ref (K.1 + t0))]) (dq dkX4_become_0 16 rfl) rfl (by decide) rfl ?_
  refine v_sub [1, 0] rfl ?_
  exact t_X4_become_30 t0 F E 1000 (pi x s1 2 s0) 0 h
def f_X4_become (x : CS) (t0 : Nat) (a1 : Int32) (a2 : Int32) : Option (CS) := gd (kSh t0) (gd (kSh t0) (if a1 = (-1) then (f_X4_become_25 t0 (pi x t0 1 a1) 0 t0) else (f_X4_become_25 t0 (pi x t0 1 a1) (if 0 < (if 40 < a2 then 40 else a2) then (if 40 < a2 then 40 else a2) else 0) t0)))
set_option maxRecDepth 100000 in
set_option maxHeartbeats 4000000 in
theorem c_X4_become {K : KE} {l : Launch} {R : CS} (x : CS) (y : MS) (t0 : Nat) (a1 : Int32) (a2 : Int32) (h : f_X4_become x t0 a1 a2 = some R) : MC K l yX4_become cX4_become 4 none rm_X4_become 0 0 [.ref (K.1 + t0), .int a1, .int a2] (xf K x y) (xf K R y) none := by
  unfold f_X4_become at h
  obtain ⟨_, h⟩ := gd_of h
  refine mc_of (ls0 := [(0, .ref (K.1 + t0)), (1, .int a1), (2, .int a2)]) (by decide) (Nat.le_of_ble_eq_true rfl) rfl (fun C hl hnm F E => ?_)
  have F : Fx C RX4 cX4_become 4 rm_X4_become K := F
  refine v_aload_n F (dq dkX4_become_0 0 rfl) rfl 0 rfl ?_
  refine v_iload_n F (dq dkX4_become_0 1 rfl) rfl 1 rfl ?_
  obtain ⟨g5, h⟩ := gd_of h
  refine v_put F t0 (kSh_lt g5) (kSh_at g5) rfl inlX4 tyX4_ok nmX4 1 (by decide) (tc5 _ (List.mem_of_getElem? (i := 17) rfl)) rfl rfl (tyX4_ok 1 (by decide)) rfl rfl (Nat.le_of_ble_eq_true rfl) (dq dkX4_become_0 2 rfl) ?_
  refine v_eqM (kSh_w1 g5) ?_
  refine v_aload_n F (dq dkX4_become_0 3 rfl) rfl 0 rfl ?_
  refine v_iload_n F (dq dkX4_become_0 4 rfl) rfl 1 rfl ?_
  refine v_iconst F (v := (-1)) (dq dkX4_become_0 5 rfl) ki_m1 ?_
  refine v_icmp_ne F (tgt := 15) (dq dkX4_become_0 6 rfl) (by decide) (fun c6 => ?_) (fun c6 => ?_)
  · rw [if_neg c6] at h
    refine v_iconst F (v := 0) (dq dkX4_become_0 9 rfl) ki_0 ?_
    refine v_iload_n F (dq dkX4_become_0 10 rfl) rfl 2 rfl ?_
    refine v_bipush F (v := 40) (dq dkX4_become_0 11 rfl) kb_40 ?_
    refine v_mmin F (tc51 _ (List.mem_of_getElem? (i := 17) rfl)) (tc21 _ (List.mem_of_getElem? (i := 0) rfl)) (tc21 _ (List.mem_of_getElem? (i := 1) rfl)) (tc21 _ (List.mem_of_getElem? (i := 2) rfl)) (Nat.le_of_ble_eq_true rfl) (Nat.le_of_ble_eq_true rfl) (Nat.le_of_ble_eq_true rfl) (Nat.le_of_ble_eq_true rfl) (dq dkX4_become_0 12 rfl) ?_
    refine v_mmax F (tc51 _ (List.mem_of_getElem? (i := 18) rfl)) (tc21 _ (List.mem_of_getElem? (i := 4) rfl)) (tc21 _ (List.mem_of_getElem? (i := 1) rfl)) (tc21 _ (List.mem_of_getElem? (i := 5) rfl)) (Nat.le_of_ble_eq_true rfl) (Nat.le_of_ble_eq_true rfl) (Nat.le_of_ble_eq_true rfl) (Nat.le_of_ble_eq_true rfl) (dq dkX4_become_0 13 rfl) ?_
    refine v_sub [0] rfl ?_
    exact t_X4_become_25 t0 (pi x t0 1 a1) (if 0 < (if 40 < a2 then 40 else a2) then (if 40 < a2 then 40 else a2) else 0) t0 h F E
  · rw [if_pos c6] at h
    refine v_iconst F (v := 0) (dq dkX4_become_0 7 rfl) ki_0 ?_
    refine v_goto F (tgt := 25) (dq dkX4_become_0 8 rfl) (by decide) ?_
    refine v_sub [0] rfl ?_
    exact t_X4_become_25 t0 (pi x t0 1 a1) 0 t0 h F E
theorem f_X4_become_k {R : CS} {x : CS} {t0 : Nat} {a1 : Int32} {a2 : Int32} (h : f_X4_become x t0 a1 a2 = some R) : kSh t0 = true := by
  unfold f_X4_become at h
  exact (gd_of h).1
def rm_X4_isMissing : Room := { frames := 1, cells := 0, slots := 0, locals := 30 }
def f_X4_isMissing (x : CS) (t0 : Nat) : Option (Bool) := gd (kSh t0) (gd (kSh t0) (if (gi x t0 1) = (-1) then (some true) else (some false)))
set_option maxRecDepth 100000 in
set_option maxHeartbeats 4000000 in
theorem c_X4_isMissing {K : KE} {l : Launch} {R : Bool} (x : CS) (y : MS) (t0 : Nat) (h : f_X4_isMissing x t0 = some R) : MC K l yX4_isMissing cX4_isMissing 1 (some .boolean) rm_X4_isMissing 0 0 [.ref (K.1 + t0)] (xf K x y) (xf K x y) (some (.int (b2i R))) := by
  unfold f_X4_isMissing at h
  obtain ⟨_, h⟩ := gd_of h
  refine mc_of (ls0 := [(0, .ref (K.1 + t0))]) (by decide) (Nat.le_of_ble_eq_true rfl) rfl (fun C hl hnm F E => ?_)
  have F : Fx C RX4 cX4_isMissing 1 rm_X4_isMissing K := F
  refine v_aload_n F (dq dkX4_isMissing_0 0 rfl) rfl 0 rfl ?_
  obtain ⟨g1, h⟩ := gd_of h
  refine v_get F t0 (kSh_lt g1) (kSh_at g1) rfl inlX4 1 (by decide) (tc5 _ (List.mem_of_getElem? (i := 17) rfl)) rfl rfl (dq dkX4_isMissing_0 1 rfl) ?_
  refine v_iconst F (v := (-1)) (dq dkX4_isMissing_0 2 rfl) ki_m1 ?_
  refine v_icmp_ne F (tgt := 12) (dq dkX4_isMissing_0 3 rfl) (by decide) (fun c2 => ?_) (fun c2 => ?_)
  · rw [if_neg c2] at h
    refine v_iconst F (v := 0) (dq dkX4_isMissing_0 6 rfl) ki_0 ?_
    have h := Option.some.inj h
    subst h
    exact v_zret F E (b2i_n false) (dq dkX4_isMissing_0 7 rfl)
  · rw [if_pos c2] at h
    refine v_iconst F (v := 1) (dq dkX4_isMissing_0 4 rfl) ki_1 ?_
    refine v_goto F (tgt := 13) (dq dkX4_isMissing_0 5 rfl) (by decide) ?_
    have h := Option.some.inj h
    subst h
    exact v_zret F E (b2i_n true) (dq dkX4_isMissing_0 7 rfl)
theorem f_X4_isMissing_k {R : Bool} {x : CS} {t0 : Nat} (h : f_X4_isMissing x t0 = some R) : kSh t0 = true := by
  unfold f_X4_isMissing at h
  exact (gd_of h).1
def rm_X4_hasAll : Room := { frames := 1, cells := 0, slots := 0, locals := 30 }
def f_X4_hasAll_22 (t0 : Nat) (x : CS) : Option (Bool) := some false
set_option maxRecDepth 100000 in
set_option maxHeartbeats 4000000 in
theorem t_X4_hasAll_22 {C : Cx} {K : KE} {y : MS} {R : Bool}  (t0 : Nat) (x : CS) (h : f_X4_hasAll_22 t0 x = some R) (F : Fx C RX4 cX4_hasAll 3 rm_X4_hasAll K) (E : CE C (xf K x y) (some (.int (b2i R))) 0 0 (some .boolean)) : V C 22 [] [] (xf K x y) 0 0 := by
  unfold f_X4_hasAll_22 at h
  refine v_iconst F (v := 0) (dq dkX4_hasAll_0 12 rfl) ki_0 ?_
  have h := Option.some.inj h
  subst h
  exact v_zret F E (b2i_n false) (dq dkX4_hasAll_0 13 rfl)
def f_X4_hasAll (x : CS) (t0 : Nat) (a1 : Int32) (a2 : Int32) : Option (Bool) := gd (kSh t0) (if a2 < 0 then (f_X4_hasAll_22 t0 x) else (if a1 < 0 then (f_X4_hasAll_22 t0 x) else (gd (kSh t0) (if ((gi x t0 2) - a2) < a1 then (f_X4_hasAll_22 t0 x) else (some true)))))
set_option maxRecDepth 100000 in
set_option maxHeartbeats 4000000 in
theorem c_X4_hasAll {K : KE} {l : Launch} {R : Bool} (x : CS) (y : MS) (t0 : Nat) (a1 : Int32) (a2 : Int32) (h : f_X4_hasAll x t0 a1 a2 = some R) : MC K l yX4_hasAll cX4_hasAll 3 (some .boolean) rm_X4_hasAll 0 0 [.ref (K.1 + t0), .int a1, .int a2] (xf K x y) (xf K x y) (some (.int (b2i R))) := by
  unfold f_X4_hasAll at h
  obtain ⟨_, h⟩ := gd_of h
  refine mc_of (ls0 := [(0, .ref (K.1 + t0)), (1, .int a1), (2, .int a2)]) (by decide) (Nat.le_of_ble_eq_true rfl) rfl (fun C hl hnm F E => ?_)
  have F : Fx C RX4 cX4_hasAll 3 rm_X4_hasAll K := F
  refine v_iload_n F (dq dkX4_hasAll_0 0 rfl) rfl 2 rfl ?_
  refine v_if_lt F (tgt := 22) (dq dkX4_hasAll_0 1 rfl) (by decide) (fun c1 => ?_) (fun c1 => ?_)
  · rw [if_pos c1] at h
    refine v_sub [] rfl ?_
    exact t_X4_hasAll_22 t0 x h F E
  · rw [if_neg c1] at h
    refine v_iload_n F (dq dkX4_hasAll_0 2 rfl) rfl 1 rfl ?_
    refine v_if_lt F (tgt := 22) (dq dkX4_hasAll_0 3 rfl) (by decide) (fun c2 => ?_) (fun c2 => ?_)
    · rw [if_pos c2] at h
      refine v_sub [] rfl ?_
      exact t_X4_hasAll_22 t0 x h F E
    · rw [if_neg c2] at h
      refine v_iload_n F (dq dkX4_hasAll_0 4 rfl) rfl 1 rfl ?_
      refine v_aload_n F (dq dkX4_hasAll_0 5 rfl) rfl 0 rfl ?_
      obtain ⟨g3, h⟩ := gd_of h
      refine v_get F t0 (kSh_lt g3) (kSh_at g3) rfl inlX4 2 (by decide) (tc5 _ (List.mem_of_getElem? (i := 18) rfl)) rfl rfl (dq dkX4_hasAll_0 6 rfl) ?_
      refine v_iload_n F (dq dkX4_hasAll_0 7 rfl) rfl 2 rfl ?_
      refine v_isub F (dq dkX4_hasAll_0 8 rfl) ?_
      refine v_icmp_gt F (tgt := 22) (dq dkX4_hasAll_0 9 rfl) (by decide) (fun c4 => ?_) (fun c4 => ?_)
      · rw [if_pos c4] at h
        refine v_sub [] rfl ?_
        exact t_X4_hasAll_22 t0 x h F E
      · rw [if_neg c4] at h
        refine v_iconst F (v := 1) (dq dkX4_hasAll_0 10 rfl) ki_1 ?_
        refine v_goto F (tgt := 23) (dq dkX4_hasAll_0 11 rfl) (by decide) ?_
        have h := Option.some.inj h
        subst h
        exact v_zret F E (b2i_n true) (dq dkX4_hasAll_0 13 rfl)
theorem f_X4_hasAll_k {R : Bool} {x : CS} {t0 : Nat} {a1 : Int32} {a2 : Int32} (h : f_X4_hasAll x t0 a1 a2 = some R) : kSh t0 = true := by
  unfold f_X4_hasAll at h
  exact (gd_of h).1
def rm_X4_put : Room := { frames := 2, cells := 0, slots := 0, locals := 51 }
def f_X4_put (x : CS) (t0 : Nat) (a1 : Int32) (a2 : Int32) : Option (CS) := gd (kSh t0) ((f_X4_has x t0 a1).bind fun r1 => if (b2i r1) = 0 then (some x) else (gd (kSh t0) (if (gi x t0 1) = 0 then (gd (kSh t0) (gd (ib a1 (al (t0 + 1))) (some (pi x (t0 + 1) a1.toNatClampNeg a2.toInt8.toInt32)))) else (gd (kSh t0) (if (gi x t0 1) = 1 then (gd (kSh t0) (gd (ib a1 (al (t0 + 1))) (some (pi x (t0 + 1) a1.toNatClampNeg a2.toInt16.toInt32)))) else (gd (kSh t0) (gd (ib a1 (al (t0 + 1))) (some (pi x (t0 + 1) a1.toNatClampNeg a2)))))))))
set_option maxRecDepth 100000 in
set_option maxHeartbeats 4000000 in
theorem c_X4_put {K : KE} {l : Launch} {R : CS} (x : CS) (y : MS) (t0 : Nat) (a1 : Int32) (a2 : Int32) (h : f_X4_put x t0 a1 a2 = some R) : MC K l yX4_put cX4_put 3 none rm_X4_put 0 0 [.ref (K.1 + t0), .int a1, .int a2] (xf K x y) (xf K R y) none := by
  unfold f_X4_put at h
  obtain ⟨_, h⟩ := gd_of h
  refine mc_of (ls0 := [(0, .ref (K.1 + t0)), (1, .int a1), (2, .int a2)]) (by decide) (Nat.le_of_ble_eq_true rfl) rfl (fun C hl hnm F E => ?_)
  have F : Fx C RX4 cX4_put 3 rm_X4_put K := F
  refine v_aload_n F (dq dkX4_put_0 0 rfl) rfl 0 rfl ?_
  refine v_iload_n F (dq dkX4_put_0 1 rfl) rfl 1 rfl ?_
  obtain ⟨r1, e2, h⟩ := bd_of h
  refine v_callV 1 F (q := t0) (kc1 := 0) (ks1 := 0) (as := [.int a1]) (st := []) (st1 := (.int (b2i r1) :: [])) (res := (some (.int (b2i r1)))) (c_X4_has (l := C.2.1) x y t0 a1 e2) (kSh_lt (f_X4_has_k e2)) (kSh_at (f_X4_has_k e2)) rfl (tc35 _ (List.mem_of_getElem? (i := 11) rfl)) (tc35 _ (List.mem_of_getElem? (i := 12) rfl)) (tc35 _ (List.mem_of_getElem? (i := 13) rfl)) (tc2 _ (List.mem_of_getElem? (i := 22) rfl)) (tc35 _ (List.mem_of_getElem? (i := 14) rfl)) (by decide) rfl ⟨rfl, rfl, Nat.le_of_ble_eq_true rfl, Nat.le_of_ble_eq_true rfl⟩ ⟨Nat.le_of_ble_eq_true rfl, Nat.le_of_ble_eq_true rfl⟩ rfl (Nat.le_of_ble_eq_true rfl) rfl rfl rfl (dq dkX4_put_0 2 rfl) ?_
  refine v_if_ne F (tgt := 9) (dq dkX4_put_0 3 rfl) (by decide) (fun c3 => ?_) (fun c3 => ?_)
  · rw [if_neg c3] at h
    refine v_aload_n F (dq dkX4_put_0 5 rfl) rfl 0 rfl ?_
    obtain ⟨g4, h⟩ := gd_of h
    refine v_get F t0 (kSh_lt g4) (kSh_at g4) rfl inlX4 1 (by decide) (tc5 _ (List.mem_of_getElem? (i := 17) rfl)) rfl rfl (dq dkX4_put_0 6 rfl) ?_
    refine v_if_ne F (tgt := 27) (dq dkX4_put_0 7 rfl) (by decide) (fun c5 => ?_) (fun c5 => ?_)
    · rw [if_neg c5] at h
      refine v_aload_n F (dq dkX4_put_0 15 rfl) rfl 0 rfl ?_
      obtain ⟨g6, h⟩ := gd_of h
      refine v_get F t0 (kSh_lt g6) (kSh_at g6) rfl inlX4 1 (by decide) (tc5 _ (List.mem_of_getElem? (i := 17) rfl)) rfl rfl (dq dkX4_put_0 16 rfl) ?_
      refine v_iconst F (v := 1) (dq dkX4_put_0 17 rfl) ki_1 ?_
      refine v_icmp_ne F (tgt := 46) (dq dkX4_put_0 18 rfl) (by decide) (fun c7 => ?_) (fun c7 => ?_)
      · rw [if_neg c7] at h
        refine v_aload_n F (dq dkX4_put_0 26 rfl) rfl 0 rfl ?_
        obtain ⟨g8, h⟩ := gd_of h
        refine v_get F t0 (kSh_lt g8) (kSh_at g8) rfl inlX4 0 (by decide) (tc5 _ (List.mem_of_getElem? (i := 16) rfl)) rfl rfl (dq dkX4_put_0 27 rfl) ?_
        refine v_iload_n F (dq dkX4_put_0 28 rfl) rfl 1 rfl ?_
        refine v_iload_n F (dq dkX4_put_0 29 rfl) rfl 2 rfl ?_
        obtain ⟨g9, h⟩ := gd_of h
        refine v_iast F (t0 + 1) (xa_lt g9) (xa_at g9) (ib_in g9) (dq dkX4_put_0 30 rfl) ?_
        refine v_eqM (xwC (q := (t0 + 1)) (j := a1.toNatClampNeg) (v := a2) (xa_lc g9) (xa_e g9)) ?_
        have h := Option.some.inj h
        subst h
        exact v_vret F E (dq dkX4_put_0 31 rfl)
      · rw [if_pos c7] at h
        refine v_aload_n F (dq dkX4_put_0 19 rfl) rfl 0 rfl ?_
        obtain ⟨g10, h⟩ := gd_of h
        refine v_get F t0 (kSh_lt g10) (kSh_at g10) rfl inlX4 0 (by decide) (tc5 _ (List.mem_of_getElem? (i := 16) rfl)) rfl rfl (dq dkX4_put_0 20 rfl) ?_
        refine v_iload_n F (dq dkX4_put_0 21 rfl) rfl 1 rfl ?_
        refine v_iload_n F (dq dkX4_put_0 22 rfl) rfl 2 rfl ?_
        refine v_i2s F (dq dkX4_put_0 23 rfl) ?_
        obtain ⟨g11, h⟩ := gd_of h
        refine v_iast F (t0 + 1) (xa_lt g11) (xa_at g11) (ib_in g11) (dq dkX4_put_0 24 rfl) ?_
        refine v_eqM (xwC (q := (t0 + 1)) (j := a1.toNatClampNeg) (v := a2.toInt16.toInt32) (xa_lc g11) (xa_e g11)) ?_
        refine v_goto F (tgt := 53) (dq dkX4_put_0 25 rfl) (by decide) ?_
        have h := Option.some.inj h
        subst h
        exact v_vret F E (dq dkX4_put_0 31 rfl)
    · rw [if_pos c5] at h
      refine v_aload_n F (dq dkX4_put_0 8 rfl) rfl 0 rfl ?_
      obtain ⟨g12, h⟩ := gd_of h
      refine v_get F t0 (kSh_lt g12) (kSh_at g12) rfl inlX4 0 (by decide) (tc5 _ (List.mem_of_getElem? (i := 16) rfl)) rfl rfl (dq dkX4_put_0 9 rfl) ?_
      refine v_iload_n F (dq dkX4_put_0 10 rfl) rfl 1 rfl ?_
      refine v_iload_n F (dq dkX4_put_0 11 rfl) rfl 2 rfl ?_
      refine v_i2b F (dq dkX4_put_0 12 rfl) ?_
      obtain ⟨g13, h⟩ := gd_of h
      refine v_iast F (t0 + 1) (xa_lt g13) (xa_at g13) (ib_in g13) (dq dkX4_put_0 13 rfl) ?_
      refine v_eqM (xwC (q := (t0 + 1)) (j := a1.toNatClampNeg) (v := a2.toInt8.toInt32) (xa_lc g13) (xa_e g13)) ?_
      refine v_goto F (tgt := 53) (dq dkX4_put_0 14 rfl) (by decide) ?_
      have h := Option.some.inj h
      subst h
      exact v_vret F E (dq dkX4_put_0 31 rfl)
  · rw [if_pos c3] at h
    have h := Option.some.inj h
    subst h
    exact v_vret F E (dq dkX4_put_0 4 rfl)
theorem f_X4_put_k {R : CS} {x : CS} {t0 : Nat} {a1 : Int32} {a2 : Int32} (h : f_X4_put x t0 a1 a2 = some R) : kSh t0 = true := by
  unfold f_X4_put at h
  exact (gd_of h).1
def rm_X6_append : Room := { frames := 1, cells := 0, slots := 0, locals := 30 }
def f_X6_append (x : CS) (a1 : Int32) : Option (CS) := if 160 ≤ (gi x 26 1) then (some x) else (gd (ib (gi x 26 1) 160) (some (pi (pi x 27 ((gi x 26 1).toNatClampNeg) a1) 26 1 ((gi (pi x 27 ((gi x 26 1).toNatClampNeg) a1) 26 1) + 1))))
set_option maxRecDepth 100000 in
set_option maxHeartbeats 4000000 in
theorem c_X6_append {K : KE} {l : Launch} {R : CS} (x : CS) (y : MS) (a1 : Int32) (h : f_X6_append x a1 = some R) : MC K l yX6_append cX6_append 2 none rm_X6_append 0 0 [.ref (K.1 + 26), .int a1] (xf K x y) (xf K R y) none := by
  unfold f_X6_append at h
  refine mc_of (ls0 := [(0, .ref (K.1 + 26)), (1, .int a1)]) (by decide) (Nat.le_of_ble_eq_true rfl) rfl (fun C hl hnm F E => ?_)
  have F : Fx C RX6 cX6_append 2 rm_X6_append K := F
  refine v_aload_n F (dq dkX6_append_0 0 rfl) rfl 0 rfl ?_
  refine v_get F 26 (xn (by decide)) xc_26 rfl inlX6 1 (by decide) (tc3 _ (List.mem_of_getElem? (i := 21) rfl)) rfl rfl (dq dkX6_append_0 1 rfl) ?_
  refine v_sipush F (v := 160) (dq dkX6_append_0 2 rfl) ks_160 ?_
  refine v_icmp_ge F (tgt := 30) (dq dkX6_append_0 3 rfl) (by decide) (fun c1 => ?_) (fun c1 => ?_)
  · rw [if_pos c1] at h
    have h := Option.some.inj h
    subst h
    exact v_vret F E (dq dkX6_append_0 16 rfl)
  · rw [if_neg c1] at h
    refine v_aload_n F (dq dkX6_append_0 4 rfl) rfl 0 rfl ?_
    refine v_get F 26 (xn (by decide)) xc_26 rfl inlX6 0 (by decide) (tc3 _ (List.mem_of_getElem? (i := 20) rfl)) rfl rfl (dq dkX6_append_0 5 rfl) ?_
    refine v_aload_n F (dq dkX6_append_0 6 rfl) rfl 0 rfl ?_
    refine v_get F 26 (xn (by decide)) xc_26 rfl inlX6 1 (by decide) (tc3 _ (List.mem_of_getElem? (i := 21) rfl)) rfl rfl (dq dkX6_append_0 7 rfl) ?_
    refine v_iload_n F (dq dkX6_append_0 8 rfl) rfl 1 rfl ?_
    obtain ⟨g2, h⟩ := gd_of h
    refine v_iast F 27 (xn (by decide)) xc_27 (ib_in g2) (dq dkX6_append_0 9 rfl) ?_
    refine v_eqM (xwC (q := 27) (j := (gi x 26 1).toNatClampNeg) (v := a1) (by decide) rfl) ?_
    refine v_aload_n F (dq dkX6_append_0 10 rfl) rfl 0 rfl ?_
    refine v_dup F (dq dkX6_append_0 11 rfl) rfl ?_
    refine v_get F 26 (xn (by decide)) xc_26 rfl inlX6 1 (by decide) (tc3 _ (List.mem_of_getElem? (i := 21) rfl)) rfl rfl (dq dkX6_append_0 12 rfl) ?_
    refine v_iconst F (v := 1) (dq dkX6_append_0 13 rfl) ki_1 ?_
    refine v_iadd F (dq dkX6_append_0 14 rfl) ?_
    refine v_put F 26 (xn (by decide)) xc_26 rfl inlX6 tyX6_ok nmX6 1 (by decide) (tc3 _ (List.mem_of_getElem? (i := 21) rfl)) rfl rfl (tyX6_ok 1 (by decide)) rfl rfl (Nat.le_of_ble_eq_true rfl) (dq dkX6_append_0 15 rfl) ?_
    refine v_eqM (xwC (q := 26) (j := 1) (v := (gi (pi x 27 ((gi x 26 1).toNatClampNeg) a1) 26 1) + 1) (by decide) rfl) ?_
    have h := Option.some.inj h
    subst h
    exact v_vret F E (dq dkX6_append_0 16 rfl)
def rm_X6_empty : Room := { frames := 1, cells := 0, slots := 0, locals := 30 }
def f_X6_empty (x : CS) : CS := pi x 26 1 0
set_option maxRecDepth 100000 in
set_option maxHeartbeats 4000000 in
theorem c_X6_empty {K : KE} {l : Launch} (x : CS) (y : MS) : MC K l yX6_empty cX6_empty 1 none rm_X6_empty 0 0 [.ref (K.1 + 26)] (xf K x y) (xf K (f_X6_empty x) y) none := by
  obtain ⟨R, h⟩ : ∃ R, f_X6_empty x = R := ⟨_, rfl⟩
  rw [h]
  unfold f_X6_empty at h
  refine mc_of (ls0 := [(0, .ref (K.1 + 26))]) (by decide) (Nat.le_of_ble_eq_true rfl) rfl (fun C hl hnm F E => ?_)
  have F : Fx C RX6 cX6_empty 1 rm_X6_empty K := F
  refine v_aload_n F (dq dkX6_empty_0 0 rfl) rfl 0 rfl ?_
  refine v_iconst F (v := 0) (dq dkX6_empty_0 1 rfl) ki_0 ?_
  refine v_put F 26 (xn (by decide)) xc_26 rfl inlX6 tyX6_ok nmX6 1 (by decide) (tc3 _ (List.mem_of_getElem? (i := 21) rfl)) rfl rfl (tyX6_ok 1 (by decide)) rfl rfl (Nat.le_of_ble_eq_true rfl) (dq dkX6_empty_0 2 rfl) ?_
  refine v_eqM (xwC (q := 26) (j := 1) (v := 0) (by decide) rfl) ?_
  subst h
  exact v_vret F E (dq dkX6_empty_0 3 rfl)
def rm_X6_byteAt : Room := { frames := 1, cells := 0, slots := 0, locals := 30 }
def f_X6_byteAt_28 (x : CS) : Option (Int32) := some (-1)
set_option maxRecDepth 100000 in
set_option maxHeartbeats 4000000 in
theorem t_X6_byteAt_28 {C : Cx} {K : KE} {y : MS} {R : Int32}  (x : CS) (h : f_X6_byteAt_28 x = some R) (F : Fx C RX6 cX6_byteAt 2 rm_X6_byteAt K) (E : CE C (xf K x y) (some (.int R)) 0 0 (some .int)) : V C 28 [] [] (xf K x y) 0 0 := by
  unfold f_X6_byteAt_28 at h
  refine v_iconst F (v := (-1)) (dq dkX6_byteAt_0 14 rfl) ki_m1 ?_
  have h := Option.some.inj h
  subst h
  exact v_iret F E (dq dkX6_byteAt_0 15 rfl)
def f_X6_byteAt (x : CS) (a1 : Int32) : Option (Int32) := if a1 < 0 then (f_X6_byteAt_28 x) else (if (gi x 26 1) ≤ a1 then (f_X6_byteAt_28 x) else (if 160 ≤ a1 then (f_X6_byteAt_28 x) else (gd (ib a1 160) (some (gi x 27 a1.toNatClampNeg)))))
set_option maxRecDepth 100000 in
set_option maxHeartbeats 4000000 in
theorem c_X6_byteAt {K : KE} {l : Launch} {R : Int32} (x : CS) (y : MS) (a1 : Int32) (h : f_X6_byteAt x a1 = some R) : MC K l yX6_byteAt cX6_byteAt 2 (some .int) rm_X6_byteAt 0 0 [.ref (K.1 + 26), .int a1] (xf K x y) (xf K x y) (some (.int R)) := by
  unfold f_X6_byteAt at h
  refine mc_of (ls0 := [(0, .ref (K.1 + 26)), (1, .int a1)]) (by decide) (Nat.le_of_ble_eq_true rfl) rfl (fun C hl hnm F E => ?_)
  have F : Fx C RX6 cX6_byteAt 2 rm_X6_byteAt K := F
  refine v_iload_n F (dq dkX6_byteAt_0 0 rfl) rfl 1 rfl ?_
  refine v_if_lt F (tgt := 28) (dq dkX6_byteAt_0 1 rfl) (by decide) (fun c1 => ?_) (fun c1 => ?_)
  · rw [if_pos c1] at h
    refine v_sub [] rfl ?_
    exact t_X6_byteAt_28 x h F E
  · rw [if_neg c1] at h
    refine v_iload_n F (dq dkX6_byteAt_0 2 rfl) rfl 1 rfl ?_
    refine v_aload_n F (dq dkX6_byteAt_0 3 rfl) rfl 0 rfl ?_
    refine v_get F 26 (xn (by decide)) xc_26 rfl inlX6 1 (by decide) (tc3 _ (List.mem_of_getElem? (i := 21) rfl)) rfl rfl (dq dkX6_byteAt_0 4 rfl) ?_
    refine v_icmp_ge F (tgt := 28) (dq dkX6_byteAt_0 5 rfl) (by decide) (fun c2 => ?_) (fun c2 => ?_)
    · rw [if_pos c2] at h
      refine v_sub [] rfl ?_
      exact t_X6_byteAt_28 x h F E
    · rw [if_neg c2] at h
      refine v_iload_n F (dq dkX6_byteAt_0 6 rfl) rfl 1 rfl ?_
      refine v_sipush F (v := 160) (dq dkX6_byteAt_0 7 rfl) ks_160 ?_
      refine v_icmp_ge F (tgt := 28) (dq dkX6_byteAt_0 8 rfl) (by decide) (fun c3 => ?_) (fun c3 => ?_)
      · rw [if_pos c3] at h
        refine v_sub [] rfl ?_
        exact t_X6_byteAt_28 x h F E
      · rw [if_neg c3] at h
        refine v_aload_n F (dq dkX6_byteAt_0 9 rfl) rfl 0 rfl ?_
        refine v_get F 26 (xn (by decide)) xc_26 rfl inlX6 0 (by decide) (tc3 _ (List.mem_of_getElem? (i := 20) rfl)) rfl rfl (dq dkX6_byteAt_0 10 rfl) ?_
        refine v_iload_n F (dq dkX6_byteAt_0 11 rfl) rfl 1 rfl ?_
        obtain ⟨g4, h⟩ := gd_of h
        refine v_iald F 27 (xn (by decide)) xc_27 (ib_in g4) (dq dkX6_byteAt_0 12 rfl) ?_
        refine v_goto F (tgt := 29) (dq dkX6_byteAt_0 13 rfl) (by decide) ?_
        have h := Option.some.inj h
        subst h
        exact v_iret F E (dq dkX6_byteAt_0 15 rfl)
def rm_X6_isDigit : Room := { frames := 2, cells := 0, slots := 0, locals := 52 }
def f_X6_isDigit (a0 : Int32) : Bool := (f_X10_within a0 48 57)
set_option maxRecDepth 100000 in
set_option maxHeartbeats 4000000 in
theorem c_X6_isDigit {K : KE} {l : Launch} {M : GM} (a0 : Int32) : MC K l yX6_isDigit cX6_isDigit 1 (some .boolean) rm_X6_isDigit 0 0 [.int a0] M M (some (.int (b2i (f_X6_isDigit a0)))) := by
  obtain ⟨R, h⟩ : ∃ R, f_X6_isDigit a0 = R := ⟨_, rfl⟩
  rw [h]
  unfold f_X6_isDigit at h
  refine mc_of (ls0 := [(0, .int a0)]) (by decide) (Nat.le_of_ble_eq_true rfl) rfl (fun C hl hnm F E => ?_)
  have F : Fx C RX6 cX6_isDigit 1 rm_X6_isDigit K := F
  refine v_iload_n F (dq dkX6_isDigit_0 0 rfl) rfl 0 rfl ?_
  refine v_bipush F (v := 48) (dq dkX6_isDigit_0 1 rfl) kb_48 ?_
  refine v_bipush F (v := 57) (dq dkX6_isDigit_0 2 rfl) kb_57 ?_
  refine v_callSN 3 F (kc1 := 0) (ks1 := 0) (as := [.int a0, .int 48, .int 57]) (st := []) (st1 := (.int (b2i (f_X10_within a0 48 57)) :: [])) (res := (some (.int (b2i (f_X10_within a0 48 57))))) (c_X10_within (l := C.2.1) a0 48 57) (List.mem_of_getElem? (i := 5) rfl) (tc8 _ (List.mem_of_getElem? (i := 15) rfl)) (tc1 _ (List.mem_of_getElem? (i := 2) rfl)) (tc8 _ (List.mem_of_getElem? (i := 16) rfl)) (by decide) rfl ⟨rfl, rfl, Nat.le_of_ble_eq_true rfl, Nat.le_of_ble_eq_true rfl⟩ ⟨Nat.le_of_ble_eq_true rfl, Nat.le_of_ble_eq_true rfl⟩ rfl (Nat.le_of_ble_eq_true rfl) rfl rfl rfl (dq dkX6_isDigit_0 3 rfl) ?_
  subst h
  exact v_zret F E (b2i_n (f_X10_within a0 48 57)) (dq dkX6_isDigit_0 4 rfl)
def rm_X6_isLetter : Room := { frames := 2, cells := 0, slots := 0, locals := 52 }
def f_X6_isLetter (a0 : Int32) : Bool := (f_X10_within a0 97 122)
set_option maxRecDepth 100000 in
set_option maxHeartbeats 4000000 in
theorem c_X6_isLetter {K : KE} {l : Launch} {M : GM} (a0 : Int32) : MC K l yX6_isLetter cX6_isLetter 1 (some .boolean) rm_X6_isLetter 0 0 [.int a0] M M (some (.int (b2i (f_X6_isLetter a0)))) := by
  obtain ⟨R, h⟩ : ∃ R, f_X6_isLetter a0 = R := ⟨_, rfl⟩
  rw [h]
  unfold f_X6_isLetter at h
  refine mc_of (ls0 := [(0, .int a0)]) (by decide) (Nat.le_of_ble_eq_true rfl) rfl (fun C hl hnm F E => ?_)
  have F : Fx C RX6 cX6_isLetter 1 rm_X6_isLetter K := F
  refine v_iload_n F (dq dkX6_isLetter_0 0 rfl) rfl 0 rfl ?_
  refine v_bipush F (v := 97) (dq dkX6_isLetter_0 1 rfl) kb_97 ?_
  refine v_bipush F (v := 122) (dq dkX6_isLetter_0 2 rfl) kb_122 ?_
  refine v_callSN 3 F (kc1 := 0) (ks1 := 0) (as := [.int a0, .int 97, .int 122]) (st := []) (st1 := (.int (b2i (f_X10_within a0 97 122)) :: [])) (res := (some (.int (b2i (f_X10_within a0 97 122))))) (c_X10_within (l := C.2.1) a0 97 122) (List.mem_of_getElem? (i := 5) rfl) (tc8 _ (List.mem_of_getElem? (i := 15) rfl)) (tc1 _ (List.mem_of_getElem? (i := 2) rfl)) (tc8 _ (List.mem_of_getElem? (i := 16) rfl)) (by decide) rfl ⟨rfl, rfl, Nat.le_of_ble_eq_true rfl, Nat.le_of_ble_eq_true rfl⟩ ⟨Nat.le_of_ble_eq_true rfl, Nat.le_of_ble_eq_true rfl⟩ rfl (Nat.le_of_ble_eq_true rfl) rfl rfl rfl (dq dkX6_isLetter_0 3 rfl) ?_
  subst h
  exact v_zret F E (b2i_n (f_X10_within a0 97 122)) (dq dkX6_isLetter_0 4 rfl)
def rm_X6_isSign : Room := { frames := 1, cells := 0, slots := 0, locals := 30 }
def f_X6_isSign_48 : Bool := true
set_option maxRecDepth 100000 in
set_option maxHeartbeats 4000000 in
theorem t_X6_isSign_48 {C : Cx} {K : KE} {M : GM} {R : Bool}  (h : f_X6_isSign_48  = R) (F : Fx C RX6 cX6_isSign 1 rm_X6_isSign K) (E : CE C M (some (.int (b2i R))) 0 0 (some .boolean)) : V C 48 [] [] M 0 0 := by
  unfold f_X6_isSign_48 at h
  refine v_iconst F (v := 1) (dq dkX6_isSign_0 24 rfl) ki_1 ?_
  refine v_goto F (tgt := 53) (dq dkX6_isSign_0 25 rfl) (by decide) ?_
  subst h
  exact v_zret F E (b2i_n true) (dq dkX6_isSign_0 27 rfl)
def f_X6_isSign (a0 : Int32) : Bool := if a0 = 40 then f_X6_isSign_48 else (if a0 = 41 then f_X6_isSign_48 else (if a0 = 59 then f_X6_isSign_48 else (if a0 = 43 then f_X6_isSign_48 else (if a0 = 45 then f_X6_isSign_48 else (if a0 = 42 then f_X6_isSign_48 else (if a0 = 60 then f_X6_isSign_48 else (if a0 = 61 then f_X6_isSign_48 else false)))))))
set_option maxRecDepth 100000 in
set_option maxHeartbeats 4000000 in
theorem c_X6_isSign {K : KE} {l : Launch} {M : GM} (a0 : Int32) : MC K l yX6_isSign cX6_isSign 1 (some .boolean) rm_X6_isSign 0 0 [.int a0] M M (some (.int (b2i (f_X6_isSign a0)))) := by
  obtain ⟨R, h⟩ : ∃ R, f_X6_isSign a0 = R := ⟨_, rfl⟩
  rw [h]
  unfold f_X6_isSign at h
  refine mc_of (ls0 := [(0, .int a0)]) (by decide) (Nat.le_of_ble_eq_true rfl) rfl (fun C hl hnm F E => ?_)
  have F : Fx C RX6 cX6_isSign 1 rm_X6_isSign K := F
  refine v_iload_n F (dq dkX6_isSign_0 0 rfl) rfl 0 rfl ?_
  refine v_bipush F (v := 40) (dq dkX6_isSign_0 1 rfl) kb_40 ?_
  refine v_icmp_eq F (tgt := 48) (dq dkX6_isSign_0 2 rfl) (by decide) (fun c1 => ?_) (fun c1 => ?_)
  · rw [if_pos c1] at h
    refine v_sub [] rfl ?_
    exact t_X6_isSign_48 h F E
  · rw [if_neg c1] at h
    refine v_iload_n F (dq dkX6_isSign_0 3 rfl) rfl 0 rfl ?_
    refine v_bipush F (v := 41) (dq dkX6_isSign_0 4 rfl) kb_41 ?_
    refine v_icmp_eq F (tgt := 48) (dq dkX6_isSign_0 5 rfl) (by decide) (fun c2 => ?_) (fun c2 => ?_)
    · rw [if_pos c2] at h
      refine v_sub [] rfl ?_
      exact t_X6_isSign_48 h F E
    · rw [if_neg c2] at h
      refine v_iload_n F (dq dkX6_isSign_0 6 rfl) rfl 0 rfl ?_
      refine v_bipush F (v := 59) (dq dkX6_isSign_0 7 rfl) kb_59 ?_
      refine v_icmp_eq F (tgt := 48) (dq dkX6_isSign_0 8 rfl) (by decide) (fun c3 => ?_) (fun c3 => ?_)
      · rw [if_pos c3] at h
        refine v_sub [] rfl ?_
        exact t_X6_isSign_48 h F E
      · rw [if_neg c3] at h
        refine v_iload_n F (dq dkX6_isSign_0 9 rfl) rfl 0 rfl ?_
        refine v_bipush F (v := 43) (dq dkX6_isSign_0 10 rfl) kb_43 ?_
        refine v_icmp_eq F (tgt := 48) (dq dkX6_isSign_0 11 rfl) (by decide) (fun c4 => ?_) (fun c4 => ?_)
        · rw [if_pos c4] at h
          refine v_sub [] rfl ?_
          exact t_X6_isSign_48 h F E
        · rw [if_neg c4] at h
          refine v_iload_n F (dq dkX6_isSign_0 12 rfl) rfl 0 rfl ?_
          refine v_bipush F (v := 45) (dq dkX6_isSign_0 13 rfl) kb_45 ?_
          refine v_icmp_eq F (tgt := 48) (dq dkX6_isSign_0 14 rfl) (by decide) (fun c5 => ?_) (fun c5 => ?_)
          · rw [if_pos c5] at h
            refine v_sub [] rfl ?_
            exact t_X6_isSign_48 h F E
          · rw [if_neg c5] at h
            refine v_iload_n F (dq dkX6_isSign_0 15 rfl) rfl 0 rfl ?_
            refine v_bipush F (v := 42) (dq dkX6_isSign_0 16 rfl) kb_42 ?_
            refine v_icmp_eq F (tgt := 48) (dq dkX6_isSign_0 17 rfl) (by decide) (fun c6 => ?_) (fun c6 => ?_)
            · rw [if_pos c6] at h
              refine v_sub [] rfl ?_
              exact t_X6_isSign_48 h F E
            · rw [if_neg c6] at h
              refine v_iload_n F (dq dkX6_isSign_0 18 rfl) rfl 0 rfl ?_
              refine v_bipush F (v := 60) (dq dkX6_isSign_0 19 rfl) kb_60 ?_
              refine v_icmp_eq F (tgt := 48) (dq dkX6_isSign_0 20 rfl) (by decide) (fun c7 => ?_) (fun c7 => ?_)
              · rw [if_pos c7] at h
                refine v_sub [] rfl ?_
                exact t_X6_isSign_48 h F E
              · rw [if_neg c7] at h
                refine v_iload_n F (dq dkX6_isSign_0 21 rfl) rfl 0 rfl ?_
                refine v_bipush F (v := 61) (dq dkX6_isSign_0 22 rfl) kb_61 ?_
                refine v_icmp_ne F (tgt := 52) (dq dkX6_isSign_0 23 rfl) (by decide) (fun c8 => ?_) (fun c8 => ?_)
                · rw [if_neg c8] at h
                  refine v_iconst F (v := 0) (dq dkX6_isSign_0 26 rfl) ki_0 ?_
                  subst h
                  exact v_zret F E (b2i_n false) (dq dkX6_isSign_0 27 rfl)
                · rw [if_pos c8] at h
                  refine v_sub [] rfl ?_
                  exact t_X6_isSign_48 h F E
