def rm_X3_keep : Room := { frames := 1, cells := 0, slots := 0, locals := 30 }
def f_X3_keep_23 (x : CS) : Option (Int32 × CS) := some ((-4), x)
set_option maxRecDepth 100000 in
set_option maxHeartbeats 4000000 in
theorem t_X3_keep_23 {C : Cx} {K : KE} {y : MS} {R : Int32 × CS}  (x : CS) (h : f_X3_keep_23 x = some R) (F : Fx C RX3 cX3_keep 3 rm_X3_keep K) (E : CE C (xf K R.2 y) (some (.int R.1)) 0 0 (some .int)) : V C 23 [] [] (xf K x y) 0 0 := by
  unfold f_X3_keep_23 at h
  refine v_bipush F (v := (-4)) (dq dkX3_keep_0 12 rfl) kb_m4 ?_
  have h := Option.some.inj h
  subst h
  exact v_iret F E (dq dkX3_keep_0 13 rfl)
def f_X3_keep (x : CS) (a1 : Nat) (a2 : Nat) : Option (Int32 × CS) := if 6 ≤ (gi x 10 3) then (f_X3_keep_23 x) else (gd (decide (0 < al a1)) (if (nI (al a1)) < 160 then (f_X3_keep_23 x) else (gd (decide (0 < al a2)) (if 3 ≤ (nI (al a2)) then (gd (ib (gi x 10 3) 6) (gd (decide (0 < al a1)) (gd (decide (0 < al (12 + (gi x 10 3).toNatClampNeg))) (gd (cpok 0 0 160 (al a1) (al (12 + (gi x 10 3).toNatClampNeg))) (gd (ib (gi (pf x (12 + (gi x 10 3).toNatClampNeg) (va_cpy (gi x a1) (gi x (12 + (gi x 10 3).toNatClampNeg)) (0 : Int32).toNatClampNeg (0 : Int32).toNatClampNeg (160 : Int32).toNatClampNeg)) 10 3) 6) (gd (decide (0 < al a2)) (gd (decide (0 < al (19 + (gi (pf x (12 + (gi x 10 3).toNatClampNeg) (va_cpy (gi x a1) (gi x (12 + (gi x 10 3).toNatClampNeg)) (0 : Int32).toNatClampNeg (0 : Int32).toNatClampNeg (160 : Int32).toNatClampNeg)) 10 3).toNatClampNeg))) (gd (cpok 0 0 3 (al a2) (al (19 + (gi (pf x (12 + (gi x 10 3).toNatClampNeg) (va_cpy (gi x a1) (gi x (12 + (gi x 10 3).toNatClampNeg)) (0 : Int32).toNatClampNeg (0 : Int32).toNatClampNeg (160 : Int32).toNatClampNeg)) 10 3).toNatClampNeg))) (some ((gi (pi (pf (pf x (12 + (gi x 10 3).toNatClampNeg) (va_cpy (gi x a1) (gi x (12 + (gi x 10 3).toNatClampNeg)) (0 : Int32).toNatClampNeg (0 : Int32).toNatClampNeg (160 : Int32).toNatClampNeg)) (19 + (gi (pf x (12 + (gi x 10 3).toNatClampNeg) (va_cpy (gi x a1) (gi x (12 + (gi x 10 3).toNatClampNeg)) (0 : Int32).toNatClampNeg (0 : Int32).toNatClampNeg (160 : Int32).toNatClampNeg)) 10 3).toNatClampNeg) (va_cpy (gi (pf x (12 + (gi x 10 3).toNatClampNeg) (va_cpy (gi x a1) (gi x (12 + (gi x 10 3).toNatClampNeg)) (0 : Int32).toNatClampNeg (0 : Int32).toNatClampNeg (160 : Int32).toNatClampNeg)) a2) (gi (pf x (12 + (gi x 10 3).toNatClampNeg) (va_cpy (gi x a1) (gi x (12 + (gi x 10 3).toNatClampNeg)) (0 : Int32).toNatClampNeg (0 : Int32).toNatClampNeg (160 : Int32).toNatClampNeg)) (19 + (gi (pf x (12 + (gi x 10 3).toNatClampNeg) (va_cpy (gi x a1) (gi x (12 + (gi x 10 3).toNatClampNeg)) (0 : Int32).toNatClampNeg (0 : Int32).toNatClampNeg (160 : Int32).toNatClampNeg)) 10 3).toNatClampNeg)) (0 : Int32).toNatClampNeg (0 : Int32).toNatClampNeg (3 : Int32).toNatClampNeg)) 10 3 ((gi (pf (pf x (12 + (gi x 10 3).toNatClampNeg) (va_cpy (gi x a1) (gi x (12 + (gi x 10 3).toNatClampNeg)) (0 : Int32).toNatClampNeg (0 : Int32).toNatClampNeg (160 : Int32).toNatClampNeg)) (19 + (gi (pf x (12 + (gi x 10 3).toNatClampNeg) (va_cpy (gi x a1) (gi x (12 + (gi x 10 3).toNatClampNeg)) (0 : Int32).toNatClampNeg (0 : Int32).toNatClampNeg (160 : Int32).toNatClampNeg)) 10 3).toNatClampNeg) (va_cpy (gi (pf x (12 + (gi x 10 3).toNatClampNeg) (va_cpy (gi x a1) (gi x (12 + (gi x 10 3).toNatClampNeg)) (0 : Int32).toNatClampNeg (0 : Int32).toNatClampNeg (160 : Int32).toNatClampNeg)) a2) (gi (pf x (12 + (gi x 10 3).toNatClampNeg) (va_cpy (gi x a1) (gi x (12 + (gi x 10 3).toNatClampNeg)) (0 : Int32).toNatClampNeg (0 : Int32).toNatClampNeg (160 : Int32).toNatClampNeg)) (19 + (gi (pf x (12 + (gi x 10 3).toNatClampNeg) (va_cpy (gi x a1) (gi x (12 + (gi x 10 3).toNatClampNeg)) (0 : Int32).toNatClampNeg (0 : Int32).toNatClampNeg (160 : Int32).toNatClampNeg)) 10 3).toNatClampNeg)) (0 : Int32).toNatClampNeg (0 : Int32).toNatClampNeg (3 : Int32).toNatClampNeg)) 10 3) + 1)) 10 3) - 1, pi (pf (pf x (12 + (gi x 10 3).toNatClampNeg) (va_cpy (gi x a1) (gi x (12 + (gi x 10 3).toNatClampNeg)) (0 : Int32).toNatClampNeg (0 : Int32).toNatClampNeg (160 : Int32).toNatClampNeg)) (19 + (gi (pf x (12 + (gi x 10 3).toNatClampNeg) (va_cpy (gi x a1) (gi x (12 + (gi x 10 3).toNatClampNeg)) (0 : Int32).toNatClampNeg (0 : Int32).toNatClampNeg (160 : Int32).toNatClampNeg)) 10 3).toNatClampNeg) (va_cpy (gi (pf x (12 + (gi x 10 3).toNatClampNeg) (va_cpy (gi x a1) (gi x (12 + (gi x 10 3).toNatClampNeg)) (0 : Int32).toNatClampNeg (0 : Int32).toNatClampNeg (160 : Int32).toNatClampNeg)) a2) (gi (pf x (12 + (gi x 10 3).toNatClampNeg) (va_cpy (gi x a1) (gi x (12 + (gi x 10 3).toNatClampNeg)) (0 : Int32).toNatClampNeg (0 : Int32).toNatClampNeg (160 : Int32).toNatClampNeg)) (19 + (gi (pf x (12 + (gi x 10 3).toNatClampNeg) (va_cpy (gi x a1) (gi x (12 + (gi x 10 3).toNatClampNeg)) (0 : Int32).toNatClampNeg (0 : Int32).toNatClampNeg (160 : Int32).toNatClampNeg)) 10 3).toNatClampNeg)) (0 : Int32).toNatClampNeg (0 : Int32).toNatClampNeg (3 : Int32).toNatClampNeg)) 10 3 ((gi (pf (pf x (12 + (gi x 10 3).toNatClampNeg) (va_cpy (gi x a1) (gi x (12 + (gi x 10 3).toNatClampNeg)) (0 : Int32).toNatClampNeg (0 : Int32).toNatClampNeg (160 : Int32).toNatClampNeg)) (19 + (gi (pf x (12 + (gi x 10 3).toNatClampNeg) (va_cpy (gi x a1) (gi x (12 + (gi x 10 3).toNatClampNeg)) (0 : Int32).toNatClampNeg (0 : Int32).toNatClampNeg (160 : Int32).toNatClampNeg)) 10 3).toNatClampNeg) (va_cpy (gi (pf x (12 + (gi x 10 3).toNatClampNeg) (va_cpy (gi x a1) (gi x (12 + (gi x 10 3).toNatClampNeg)) (0 : Int32).toNatClampNeg (0 : Int32).toNatClampNeg (160 : Int32).toNatClampNeg)) a2) (gi (pf x (12 + (gi x 10 3).toNatClampNeg) (va_cpy (gi x a1) (gi x (12 + (gi x 10 3).toNatClampNeg)) (0 : Int32).toNatClampNeg (0 : Int32).toNatClampNeg (160 : Int32).toNatClampNeg)) (19 + (gi (pf x (12 + (gi x 10 3).toNatClampNeg) (va_cpy (gi x a1) (gi x (12 + (gi x 10 3).toNatClampNeg)) (0 : Int32).toNatClampNeg (0 : Int32).toNatClampNeg (160 : Int32).toNatClampNeg)) 10 3).toNatClampNeg)) (0 : Int32).toNatClampNeg (0 : Int32).toNatClampNeg (3 : Int32).toNatClampNeg)) 10 3) + 1))))))))))) else (f_X3_keep_23 x)))))
set_option maxRecDepth 100000 in
set_option maxHeartbeats 4000000 in
theorem c_X3_keep {K : KE} {l : Launch} {R : Int32 × CS} (x : CS) (y : MS) (a1 : Nat) (a2 : Nat) (h : f_X3_keep x a1 a2 = some R) : MC K l yX3_keep cX3_keep 3 (some .int) rm_X3_keep 0 0 [.ref (K.1 + 10), .ref (K.1 + a1), .ref (K.1 + a2)] (xf K x y) (xf K R.2 y) (some (.int R.1)) := by
  unfold f_X3_keep at h
  refine mc_of (ls0 := [(0, .ref (K.1 + 10)), (1, .ref (K.1 + a1)), (2, .ref (K.1 + a2))]) (by decide) (Nat.le_of_ble_eq_true rfl) rfl (fun C hl hnm F E => ?_)
  have F : Fx C RX3 cX3_keep 3 rm_X3_keep K := F
  refine v_aload_n F (dq dkX3_keep_0 0 rfl) rfl 0 rfl ?_
  refine v_get F 10 (xn (by decide)) xc_10 rfl inlX3 3 (by decide) (tc3 _ (List.mem_of_getElem? (i := 16) rfl)) rfl rfl (dq dkX3_keep_0 1 rfl) ?_
  refine v_bipush F (v := 6) (dq dkX3_keep_0 2 rfl) kb_6 ?_
  refine v_icmp_ge F (tgt := 23) (dq dkX3_keep_0 3 rfl) (by decide) (fun c1 => ?_) (fun c1 => ?_)
  · rw [if_pos c1] at h
    refine v_sub [] rfl ?_
    exact t_X3_keep_23 x h F E
  · rw [if_neg c1] at h
    refine v_aload_n F (dq dkX3_keep_0 4 rfl) rfl 1 rfl ?_
    obtain ⟨g2, h⟩ := gd_of h
    refine v_alen F a1 (xl_lt g2) (xl_at g2) (t := 0) rfl (n := nI (al a1)) rfl (dq dkX3_keep_0 5 rfl) ?_
    refine v_sipush F (v := 160) (dq dkX3_keep_0 6 rfl) ks_160 ?_
    refine v_icmp_lt F (tgt := 23) (dq dkX3_keep_0 7 rfl) (by decide) (fun c3 => ?_) (fun c3 => ?_)
    · rw [if_pos c3] at h
      refine v_sub [] rfl ?_
      exact t_X3_keep_23 x h F E
    · rw [if_neg c3] at h
      refine v_aload_n F (dq dkX3_keep_0 8 rfl) rfl 2 rfl ?_
      obtain ⟨g4, h⟩ := gd_of h
      refine v_alen F a2 (xl_lt g4) (xl_at g4) (t := 0) rfl (n := nI (al a2)) rfl (dq dkX3_keep_0 9 rfl) ?_
      refine v_iconst F (v := 3) (dq dkX3_keep_0 10 rfl) ki_3 ?_
      refine v_icmp_ge F (tgt := 26) (dq dkX3_keep_0 11 rfl) (by decide) (fun c5 => ?_) (fun c5 => ?_)
      · rw [if_pos c5] at h
        refine v_aload_n F (dq dkX3_keep_0 14 rfl) rfl 1 rfl ?_
        refine v_iconst F (v := 0) (dq dkX3_keep_0 15 rfl) ki_0 ?_
        refine v_aload_n F (dq dkX3_keep_0 16 rfl) rfl 0 rfl ?_
        refine v_get F 10 (xn (by decide)) xc_10 rfl inlX3 0 (by decide) (tc3 _ (List.mem_of_getElem? (i := 13) rfl)) rfl rfl (dq dkX3_keep_0 17 rfl) ?_
        refine v_aload_n F (dq dkX3_keep_0 18 rfl) rfl 0 rfl ?_
        refine v_get F 10 (xn (by decide)) xc_10 rfl inlX3 3 (by decide) (tc3 _ (List.mem_of_getElem? (i := 16) rfl)) rfl rfl (dq dkX3_keep_0 19 rfl) ?_
        obtain ⟨g6, h⟩ := gd_of h
        refine v_aald F 11 (xn (by decide)) xc_11 (t := 2) rfl rfl (ib_in g6) (dq dkX3_keep_0 20 rfl) ?_
        refine v_iconst F (v := 0) (dq dkX3_keep_0 21 rfl) ki_0 ?_
        refine v_sipush F (v := 160) (dq dkX3_keep_0 22 rfl) ks_160 ?_
        obtain ⟨g7, h⟩ := gd_of h
        obtain ⟨g8, h⟩ := gd_of h
        obtain ⟨g9, h⟩ := gd_of h
        refine v_copy F a1 (12 + (gi x 10 3).toNatClampNeg) (xl_lt g7) (xl_at g7) (xl_lt g8) (xl_at g8) g9 (tc11 _ (List.mem_of_getElem? (i := 5) rfl)) (tc11 _ (List.mem_of_getElem? (i := 6) rfl)) (tc11 _ (List.mem_of_getElem? (i := 7) rfl)) (tc11 _ (List.mem_of_getElem? (i := 8) rfl)) (Nat.le_of_ble_eq_true rfl) (Nat.le_of_ble_eq_true rfl) (dq dkX3_keep_0 23 rfl) ?_
        refine v_eqM (xwF (xl_lc g8) ((xa_all (of_decide_eq_true g8)).2 _)) ?_
        refine v_aload_n F (dq dkX3_keep_0 24 rfl) rfl 2 rfl ?_
        refine v_iconst F (v := 0) (dq dkX3_keep_0 25 rfl) ki_0 ?_
        refine v_aload_n F (dq dkX3_keep_0 26 rfl) rfl 0 rfl ?_
        refine v_get F 10 (xn (by decide)) xc_10 rfl inlX3 1 (by decide) (tc3 _ (List.mem_of_getElem? (i := 14) rfl)) rfl rfl (dq dkX3_keep_0 27 rfl) ?_
        refine v_aload_n F (dq dkX3_keep_0 28 rfl) rfl 0 rfl ?_
        refine v_get F 10 (xn (by decide)) xc_10 rfl inlX3 3 (by decide) (tc3 _ (List.mem_of_getElem? (i := 16) rfl)) rfl rfl (dq dkX3_keep_0 29 rfl) ?_
        obtain ⟨g10, h⟩ := gd_of h
        refine v_aald F 18 (xn (by decide)) xc_18 (t := 2) rfl rfl (ib_in g10) (dq dkX3_keep_0 30 rfl) ?_
        refine v_iconst F (v := 0) (dq dkX3_keep_0 31 rfl) ki_0 ?_
        refine v_iconst F (v := 3) (dq dkX3_keep_0 32 rfl) ki_3 ?_
        obtain ⟨g11, h⟩ := gd_of h
        obtain ⟨g12, h⟩ := gd_of h
        obtain ⟨g13, h⟩ := gd_of h
        refine v_copy F a2 (19 + (gi (pf x (12 + (gi x 10 3).toNatClampNeg) (va_cpy (gi x a1) (gi x (12 + (gi x 10 3).toNatClampNeg)) (0 : Int32).toNatClampNeg (0 : Int32).toNatClampNeg (160 : Int32).toNatClampNeg)) 10 3).toNatClampNeg) (xl_lt g11) (xl_at g11) (xl_lt g12) (xl_at g12) g13 (tc11 _ (List.mem_of_getElem? (i := 5) rfl)) (tc11 _ (List.mem_of_getElem? (i := 6) rfl)) (tc11 _ (List.mem_of_getElem? (i := 7) rfl)) (tc11 _ (List.mem_of_getElem? (i := 8) rfl)) (Nat.le_of_ble_eq_true rfl) (Nat.le_of_ble_eq_true rfl) (dq dkX3_keep_0 33 rfl) ?_
        refine v_eqM (xwF (xl_lc g12) ((xa_all (of_decide_eq_true g12)).2 _)) ?_
        refine v_aload_n F (dq dkX3_keep_0 34 rfl) rfl 0 rfl ?_
        refine v_dup F (dq dkX3_keep_0 35 rfl) rfl ?_
        refine v_get F 10 (xn (by decide)) xc_10 rfl inlX3 3 (by decide) (tc3 _ (List.mem_of_getElem? (i := 16) rfl)) rfl rfl (dq dkX3_keep_0 36 rfl) ?_
        refine v_iconst F (v := 1) (dq dkX3_keep_0 37 rfl) ki_1 ?_
        refine v_iadd F (dq dkX3_keep_0 38 rfl) ?_
        refine v_put F 10 (xn (by decide)) xc_10 rfl inlX3 tyX3_ok nmX3 3 (by decide) (tc3 _ (List.mem_of_getElem? (i := 16) rfl)) rfl rfl (tyX3_ok 3 (by decide)) rfl rfl (Nat.le_of_ble_eq_true rfl) (dq dkX3_keep_0 39 rfl) ?_
        refine v_eqM (xwC (q := 10) (j := 3) (v := (gi (pf (pf x (12 + (gi x 10 3).toNatClampNeg) (va_cpy (gi x a1) (gi x (12 + (gi x 10 3).toNatClampNeg)) (0 : Int32).toNatClampNeg (0 : Int32).toNatClampNeg (160 : Int32).toNatClampNeg)) (19 + (gi (pf x (12 + (gi x 10 3).toNatClampNeg) (va_cpy (gi x a1) (gi x (12 + (gi x 10 3).toNatClampNeg)) (0 : Int32).toNatClampNeg (0 : Int32).toNatClampNeg (160 : Int32).toNatClampNeg)) 10 3).toNatClampNeg) (va_cpy (gi (pf x (12 + (gi x 10 3).toNatClampNeg) (va_cpy (gi x a1) (gi x (12 + (gi x 10 3).toNatClampNeg)) (0 : Int32).toNatClampNeg (0 : Int32).toNatClampNeg (160 : Int32).toNatClampNeg)) a2) (gi (pf x (12 + (gi x 10 3).toNatClampNeg) (va_cpy (gi x a1) (gi x (12 + (gi x 10 3).toNatClampNeg)) (0 : Int32).toNatClampNeg (0 : Int32).toNatClampNeg (160 : Int32).toNatClampNeg)) (19 + (gi (pf x (12 + (gi x 10 3).toNatClampNeg) (va_cpy (gi x a1) (gi x (12 + (gi x 10 3).toNatClampNeg)) (0 : Int32).toNatClampNeg (0 : Int32).toNatClampNeg (160 : Int32).toNatClampNeg)) 10 3).toNatClampNeg)) (0 : Int32).toNatClampNeg (0 : Int32).toNatClampNeg (3 : Int32).toNatClampNeg)) 10 3) + 1) (by decide) rfl) ?_
        refine v_aload_n F (dq dkX3_keep_1 0 rfl) rfl 0 rfl ?_
        refine v_get F 10 (xn (by decide)) xc_10 rfl inlX3 3 (by decide) (tc3 _ (List.mem_of_getElem? (i := 16) rfl)) rfl rfl (dq dkX3_keep_1 1 rfl) ?_
        refine v_iconst F (v := 1) (dq dkX3_keep_1 2 rfl) ki_1 ?_
        refine v_isub F (dq dkX3_keep_1 3 rfl) ?_
        have h := Option.some.inj h
        subst h
        exact v_iret F E (dq dkX3_keep_1 4 rfl)
      · rw [if_neg c5] at h
        refine v_sub [] rfl ?_
        exact t_X3_keep_23 x h F E
def rm_X4_become : Room := { frames := 1, cells := 0, slots := 0, locals := 30 }
def f_X4_become_30 (t0 : Nat) : Nat → CS → Int32 → Option (CS)
  | 0, _, _ => none
  | n + 1, x, a3 => if 40 ≤ a3 then (some x) else (gd (kSh t0) (gd (ib a3 (al (t0 + 1))) ((f_X4_become_30 t0 n) (pi x (t0 + 1) a3.toNatClampNeg 0) (a3 + 1))))
set_option maxRecDepth 100000 in
set_option maxHeartbeats 4000000 in
theorem t_X4_become_30 {C : Cx} {K : KE} {y : MS} {R : CS}  (t0 : Nat) (F : Fx C RX4 cX4_become 4 rm_X4_become K) (E : CE C (xf K R y) none 0 0 none) : ∀ (n : Nat) (x : CS) (a3 : Int32) (h : f_X4_become_30 t0 n x a3 = some R), V C 30 [(0, .ref (K.1 + t0)), (3, .int a3)] [] (xf K x y) 0 0 := by
  intro n
  induction n with
  | zero => intro x a3 h; cases h
  | succ n ih =>
    intro x a3 h
    rw [f_X4_become_30] at h
    refine v_iload_n F (dq dkX4_become_0 17 rfl) rfl 1 rfl ?_
    refine v_bipush F (v := 40) (dq dkX4_become_0 18 rfl) kb_40 ?_
    refine v_icmp_ge F (tgt := 49) (dq dkX4_become_0 19 rfl) (by decide) (fun c1 => ?_) (fun c1 => ?_)
    · rw [if_pos c1] at h
      have h := Option.some.inj h
      subst h
      exact v_vret F E (dq dkX4_become_0 27 rfl)
    · rw [if_neg c1] at h
      refine v_aload_n F (dq dkX4_become_0 20 rfl) rfl 0 rfl ?_
      obtain ⟨g2, h⟩ := gd_of h
      refine v_get F t0 (kSh_lt g2) (kSh_at g2) rfl inlX4 0 (by decide) (tc5 _ (List.mem_of_getElem? (i := 16) rfl)) rfl rfl (dq dkX4_become_0 21 rfl) ?_
      refine v_iload_n F (dq dkX4_become_0 22 rfl) rfl 1 rfl ?_
      refine v_iconst F (v := 0) (dq dkX4_become_0 23 rfl) ki_0 ?_
      obtain ⟨g3, h⟩ := gd_of h
      refine v_iast F (t0 + 1) (xa_lt g3) (xa_at g3) (ib_in g3) (dq dkX4_become_0 24 rfl) ?_
      refine v_eqM (xwC (q := (t0 + 1)) (j := a3.toNatClampNeg) (v := 0) (xa_lc g3) (xa_e g3)) ?_
      refine v_iinc F (v := a3 + 1) (ls' := [(3, .int (a3 + 1)), (0, .ref (K.1 + t0))]) (dq dkX4_become_0 25 rfl) (j := 1) rfl (kv_add ki_1) (by decide) rfl ?_
      refine v_goto F (tgt := 30) (dq dkX4_become_0 26 rfl) (by decide) ?_
      refine v_sub [1, 0] rfl ?_
      exact ih (pi x (t0 + 1) a3.toNatClampNeg 0) (a3 + 1) h
def f_X4_become_25 (t0 : Nat) (x : CS) (s0 : Int32) (s1 : Nat) : Option (CS) := gd (kSh s1) (f_X4_become_30 t0 1000 (pi x s1 2 s0) 0)
set_option maxRecDepth 100000 in
set_option maxHeartbeats 4000000 in
theorem t_X4_become_25 {C : Cx} {K : KE} {y : MS} {R : CS}  (t0 : Nat) (x : CS) (s0 : Int32) (s1 : Nat) (h : f_X4_become_25 t0 x s0 s1 = some R) (F : Fx C RX4 cX4_become 4 rm_X4_become K) (E : CE C (xf K R y) none 0 0 none) : V C 25 [(0, .ref (K.1 + t0))] [.int s0, .ref (K.1 + s1)] (xf K x y) 0 0 := by
  unfold f_X4_become_25 at h
  obtain ⟨g4, h⟩ := gd_of h
  refine v_put F s1 (kSh_lt g4) (kSh_at g4) rfl inlX4 tyX4_ok nmX4 2 (by decide) (tc5 _ (List.mem_of_getElem? (i := 18) rfl)) rfl rfl (tyX4_ok 2 (by decide)) rfl rfl (Nat.le_of_ble_eq_true rfl) (dq dkX4_become_0 14 rfl) ?_
  refine v_eqM (kSh_w2 g4) ?_
  refine v_iconst F (v := 0) (dq dkX4_become_0 15 rfl) ki_0 ?_
  refine v_istore_n F (ls' := [(3, .int 0), (0, .ref (K.1 + t0))]) (dq dkX4_become_0 16 rfl) rfl (by decide) rfl ?_
  refine v_sub [1, 0] rfl ?_
  exact t_X4_become_30 t0 F E 1000 (pi x s1 2 s0) 0 h
def f_X4_become (x : CS) (t0 : Nat) (a1 : Int32) (a2 : Int32) : Option (CS) := gd (kSh t0) (gd (kSh t0) (if a1 = (-1) then (f_X4_become_25 t0 (pi x t0 1 a1) 0 t0) else (f_X4_become_25 t0 (pi x t0 1 a1) (if 0 < (if 40 < a2 then 40 else a2) then (if 40 < a2 then 40 else a2) else 0) t0)))
set_option maxRecDepth 100000 in
set_option maxHeartbeats 4000000 in
theorem c_X4_become {K : KE} {l : Launch} {R : CS} (x : CS) (y : MS) (t0 : Nat) (a1 : Int32) (a2 : Int32) (h : f_X4_become x t0 a1 a2 = some R) : MC K l yX4_become cX4_become 4 none rm_X4_become 0 0 [.ref (K.1 + t0), .int a1, .int a2] (xf K x y) (xf K R y) none := by
  unfold f_X4_become at h
  obtain ⟨_, h⟩ := gd_of h
  refine mc_of (ls0 := [(0, .ref (K.1 + t0)), (1, .int a1), (2, .int a2)]) (by decide) (Nat.le_of_ble_eq_true rfl) rfl (fun C hl hnm F E => ?_)
  have F : Fx C RX4 cX4_become 4 rm_X4_become K := F
  refine v_aload_n F (dq dkX4_become_0 0 rfl) rfl 0 rfl ?_
  refine v_iload_n F (dq dkX4_become_0 1 rfl) rfl 1 rfl ?_
  obtain ⟨g5, h⟩ := gd_of h
  refine v_put F t0 (kSh_lt g5) (kSh_at g5) rfl inlX4 tyX4_ok nmX4 1 (by decide) (tc5 _ (List.mem_of_getElem? (i := 17) rfl)) rfl rfl (tyX4_ok 1 (by decide)) rfl rfl (Nat.le_of_ble_eq_true rfl) (dq dkX4_become_0 2 rfl) ?_
  refine v_eqM (kSh_w1 g5) ?_
  refine v_aload_n F (dq dkX4_become_0 3 rfl) rfl 0 rfl ?_
  refine v_iload_n F (dq dkX4_become_0 4 rfl) rfl 1 rfl ?_
  refine v_iconst F (v := (-1)) (dq dkX4_become_0 5 rfl) ki_m1 ?_
  refine v_icmp_ne F (tgt := 15) (dq dkX4_become_0 6 rfl) (by decide) (fun c6 => ?_) (fun c6 => ?_)
  · rw [if_neg c6] at h
    refine v_iconst F (v := 0) (dq dkX4_become_0 9 rfl) ki_0 ?_
    refine v_iload_n F (dq dkX4_become_0 10 rfl) rfl 2 rfl ?_
    refine v_bipush F (v := 40) (dq dkX4_become_0 11 rfl) kb_40 ?_
    refine v_mmin F (tc51 _ (List.mem_of_getElem? (i := 17) rfl)) (tc21 _ (List.mem_of_getElem? (i := 0) rfl)) (tc21 _ (List.mem_of_getElem? (i := 1) rfl)) (tc21 _ (List.mem_of_getElem? (i := 2) rfl)) (Nat.le_of_ble_eq_true rfl) (Nat.le_of_ble_eq_true rfl) (Nat.le_of_ble_eq_true rfl) (Nat.le_of_ble_eq_true rfl) (dq dkX4_become_0 12 rfl) ?_
    refine v_mmax F (tc51 _ (List.mem_of_getElem? (i := 18) rfl)) (tc21 _ (List.mem_of_getElem? (i := 4) rfl)) (tc21 _ (List.mem_of_getElem? (i := 1) rfl)) (tc21 _ (List.mem_of_getElem? (i := 5) rfl)) (Nat.le_of_ble_eq_true rfl) (Nat.le_of_ble_eq_true rfl) (Nat.le_of_ble_eq_true rfl) (Nat.le_of_ble_eq_true rfl) (dq dkX4_become_0 13 rfl) ?_
    refine v_sub [0] rfl ?_
    exact t_X4_become_25 t0 (pi x t0 1 a1) (if 0 < (if 40 < a2 then 40 else a2) then (if 40 < a2 then 40 else a2) else 0) t0 h F E
  · rw [if_pos c6] at h
    refine v_iconst F (v := 0) (dq dkX4_become_0 7 rfl) ki_0 ?_
    refine v_goto F (tgt := 25) (dq dkX4_become_0 8 rfl) (by decide) ?_
    refine v_sub [0] rfl ?_
    exact t_X4_become_25 t0 (pi x t0 1 a1) 0 t0 h F E
theorem f_X4_become_k {R : CS} {x : CS} {t0 : Nat} {a1 : Int32} {a2 : Int32} (h : f_X4_become x t0 a1 a2 = some R) : kSh t0 = true := by
  unfold f_X4_become at h
  exact (gd_of h).1
def rm_X4_isMissing : Room := { frames := 1, cells := 0, slots := 0, locals := 30 }
def f_X4_isMissing (x : CS) (t0 : Nat) : Option (Bool) := gd (kSh t0) (gd (kSh t0) (if (gi x t0 1) = (-1) then (some true) else (some false)))
set_option maxRecDepth 100000 in
set_option maxHeartbeats 4000000 in
theorem c_X4_isMissing {K : KE} {l : Launch} {R : Bool} (x : CS) (y : MS) (t0 : Nat) (h : f_X4_isMissing x t0 = some R) : MC K l yX4_isMissing cX4_isMissing 1 (some .boolean) rm_X4_isMissing 0 0 [.ref (K.1 + t0)] (xf K x y) (xf K x y) (some (.int (b2i R))) := by
  unfold f_X4_isMissing at h
  obtain ⟨_, h⟩ := gd_of h
  refine mc_of (ls0 := [(0, .ref (K.1 + t0))]) (by decide) (Nat.le_of_ble_eq_true rfl) rfl (fun C hl hnm F E => ?_)
  have F : Fx C RX4 cX4_isMissing 1 rm_X4_isMissing K := F
  refine v_aload_n F (dq dkX4_isMissing_0 0 rfl) rfl 0 rfl ?_
  obtain ⟨g1, h⟩ := gd_of h
  refine v_get F t0 (kSh_lt g1) (kSh_at g1) rfl inlX4 1 (by decide) (tc5 _ (List.mem_of_getElem? (i := 17) rfl)) rfl rfl (dq dkX4_isMissing_0 1 rfl) ?_
  refine v_iconst F (v := (-1)) (dq dkX4_isMissing_0 2 rfl) ki_m1 ?_
  refine v_icmp_ne F (tgt := 12) (dq dkX4_isMissing_0 3 rfl) (by decide) (fun c2 => ?_) (fun c2 => ?_)
  · rw [if_neg c2] at h
    refine v_iconst F (v := 0) (dq dkX4_isMissing_0 6 rfl) ki_0 ?_
    have h := Option.some.inj h
    subst h
    exact v_zret F E (b2i_n false) (dq dkX4_isMissing_0 7 rfl)
  · rw [if_pos c2] at h
    refine v_iconst F (v := 1) (dq dkX4_isMissing_0 4 rfl) ki_1 ?_
    refine v_goto F (tgt := 13) (dq dkX4_isMissing_0 5 rfl) (by decide) ?_
    have h := Option.some.inj h
    subst h
    exact v_zret F E (b2i_n true) (dq dkX4_isMissing_0 7 rfl)
theorem f_X4_isMissing_k {R : Bool} {x : CS} {t0 : Nat} (h : f_X4_isMissing x t0 = some R) : kSh t0 = true := by
  unfold f_X4_isMissing at h
  exact (gd_of h).1
def rm_X4_hasAll : Room := { frames := 1, cells := 0, slots := 0, locals := 30 }
def f_X4_hasAll_22 (t0 : Nat) (x : CS) : Option (Bool) := some false
set_option maxRecDepth 100000 in
set_option maxHeartbeats 4000000 in
theorem t_X4_hasAll_22 {C : Cx} {K : KE} {y : MS} {R : Bool}  (t0 : Nat) (x : CS) (h : f_X4_hasAll_22 t0 x = some R) (F : Fx C RX4 cX4_hasAll 3 rm_X4_hasAll K) (E : CE C (xf K x y) (some (.int (b2i R))) 0 0 (some .boolean)) : V C 22 [] [] (xf K x y) 0 0 := by
  unfold f_X4_hasAll_22 at h
  refine v_iconst F (v := 0) (dq dkX4_hasAll_0 12 rfl) ki_0 ?_
  have h := Option.some.inj h
  subst h
  exact v_zret F E (b2i_n false) (dq dkX4_hasAll_0 13 rfl)
def f_X4_hasAll (x : CS) (t0 : Nat) (a1 : Int32) (a2 : Int32) : Option (Bool) := gd (kSh t0) (if a2 < 0 then (f_X4_hasAll_22 t0 x) else (if a1 < 0 then (f_X4_hasAll_22 t0 x) else (gd (kSh t0) (if ((gi x t0 2) - a2) < a1 then (f_X4_hasAll_22 t0 x) else (some true)))))
set_option maxRecDepth 100000 in
set_option maxHeartbeats 4000000 in
theorem c_X4_hasAll {K : KE} {l : Launch} {R : Bool} (x : CS) (y : MS) (t0 : Nat) (a1 : Int32) (a2 : Int32) (h : f_X4_hasAll x t0 a1 a2 = some R) : MC K l yX4_hasAll cX4_hasAll 3 (some .boolean) rm_X4_hasAll 0 0 [.ref (K.1 + t0), .int a1, .int a2] (xf K x y) (xf K x y) (some (.int (b2i R))) := by
  unfold f_X4_hasAll at h
  obtain ⟨_, h⟩ := gd_of h
  refine mc_of (ls0 := [(0, .ref (K.1 + t0)), (1, .int a1), (2, .int a2)]) (by decide) (Nat.le_of_ble_eq_true rfl) rfl (fun C hl hnm F E => ?_)
  have F : Fx C RX4 cX4_hasAll 3 rm_X4_hasAll K := F
  refine v_iload_n F (dq dkX4_hasAll_0 0 rfl) rfl 2 rfl ?_
  refine v_if_lt F (tgt := 22) (dq dkX4_hasAll_0 1 rfl) (by decide) (fun c1 => ?_) (fun c1 => ?_)
  · rw [if_pos c1] at h
    refine v_sub [] rfl ?_
    exact t_X4_hasAll_22 t0 x h F E
  · rw [if_neg c1] at h
    refine v_iload_n F (dq dkX4_hasAll_0 2 rfl) rfl 1 rfl ?_
    refine v_if_lt F (tgt := 22) (dq dkX4_hasAll_0 3 rfl) (by decide) (fun c2 => ?_) (fun c2 => ?_)
    · rw [if_pos c2] at h
      refine v_sub [] rfl ?_
      exact t_X4_hasAll_22 t0 x h F E
    · rw [if_neg c2] at h
      refine v_iload_n F (dq dkX4_hasAll_0 4 rfl) rfl 1 rfl ?_
      refine v_aload_n F (dq dkX4_hasAll_0 5 rfl) rfl 0 rfl ?_
      obtain ⟨g3, h⟩ := gd_of h
      refine v_get F t0 (kSh_lt g3) (kSh_at g3) rfl inlX4 2 (by decide) (tc5 _ (List.mem_of_getElem? (i := 18) rfl)) rfl rfl (dq dkX4_hasAll_0 6 rfl) ?_
      refine v_iload_n F (dq dkX4_hasAll_0 7 rfl) rfl 2 rfl ?_
      refine v_isub F (dq dkX4_hasAll_0 8 rfl) ?_
      refine v_icmp_gt F (tgt := 22) (dq dkX4_hasAll_0 9 rfl) (by decide) (fun c4 => ?_) (fun c4 => ?_)
      · rw [if_pos c4] at h
        refine v_sub [] rfl ?_
        exact t_X4_hasAll_22 t0 x h F E
      · rw [if_neg c4] at h
        refine v_iconst F (v := 1) (dq dkX4_hasAll_0 10 rfl) ki_1 ?_
        refine v_goto F (tgt := 23) (dq dkX4_hasAll_0 11 rfl) (by decide) ?_
        have h := Option.some.inj h
        subst h
        exact v_zret F E (b2i_n true) (dq dkX4_hasAll_0 13 rfl)
theorem f_X4_hasAll_k {R : Bool} {x : CS} {t0 : Nat} {a1 : Int32} {a2 : Int32} (h : f_X4_hasAll x t0 a1 a2 = some R) : kSh t0 = true := by
  unfold f_X4_hasAll at h
  exact (gd_of h).1
def rm_X4_put : Room := { frames := 2, cells := 0, slots := 0, locals := 51 }
def f_X4_put (x : CS) (t0 : Nat) (a1 : Int32) (a2 : Int32) : Option (CS) := gd (kSh t0) ((f_X4_has x t0 a1).bind fun r1 => if (b2i r1) = 0 then (some x) else (gd (kSh t0) (if (gi x t0 1) = 0 then (gd (kSh t0) (gd (ib a1 (al (t0 + 1))) (some (pi x (t0 + 1) a1.toNatClampNeg a2.toInt8.toInt32)))) else (gd (kSh t0) (if (gi x t0 1) = 1 then (gd (kSh t0) (gd (ib a1 (al (t0 + 1))) (some (pi x (t0 + 1) a1.toNatClampNeg a2.toInt16.toInt32)))) else (gd (kSh t0) (gd (ib a1 (al (t0 + 1))) (some (pi x (t0 + 1) a1.toNatClampNeg a2)))))))))
set_option maxRecDepth 100000 in
set_option maxHeartbeats 4000000 in
theorem c_X4_put {K : KE} {l : Launch} {R : CS} (x : CS) (y : MS) (t0 : Nat) (a1 : Int32) (a2 : Int32) (h : f_X4_put x t0 a1 a2 = some R) : MC K l yX4_put cX4_put 3 none rm_X4_put 0 0 [.ref (K.1 + t0), .int a1, .int a2] (xf K x y) (xf K R y) none := by
  unfold f_X4_put at h
  obtain ⟨_, h⟩ := gd_of h
  refine mc_of (ls0 := [(0, .ref (K.1 + t0)), (1, .int a1), (2, .int a2)]) (by decide) (Nat.le_of_ble_eq_true rfl) rfl (fun C hl hnm F E => ?_)
  have F : Fx C RX4 cX4_put 3 rm_X4_put K := F
  refine v_aload_n F (dq dkX4_put_0 0 rfl) rfl 0 rfl ?_
  refine v_iload_n F (dq dkX4_put_0 1 rfl) rfl 1 rfl ?_
  obtain ⟨r1, e2, h⟩ := bd_of h
  refine v_callV 1 F (q := t0) (kc1 := 0) (ks1 := 0) (as := [.int a1]) (st := []) (st1 := (.int (b2i r1) :: [])) (res := (some (.int (b2i r1)))) (c_X4_has (l := C.2.1) x y t0 a1 e2) (kSh_lt (f_X4_has_k e2)) (kSh_at (f_X4_has_k e2)) rfl (tc35 _ (List.mem_of_getElem? (i := 11) rfl)) (tc35 _ (List.mem_of_getElem? (i := 12) rfl)) (tc35 _ (List.mem_of_getElem? (i := 13) rfl)) (tc2 _ (List.mem_of_getElem? (i := 22) rfl)) (tc35 _ (List.mem_of_getElem? (i := 14) rfl)) (by decide) rfl ⟨rfl, rfl, Nat.le_of_ble_eq_true rfl, Nat.le_of_ble_eq_true rfl⟩ ⟨Nat.le_of_ble_eq_true rfl, Nat.le_of_ble_eq_true rfl⟩ rfl (Nat.le_of_ble_eq_true rfl) rfl rfl rfl (dq dkX4_put_0 2 rfl) ?_
  refine v_if_ne F (tgt := 9) (dq dkX4_put_0 3 rfl) (by decide) (fun c3 => ?_) (fun c3 => ?_)
  · rw [if_neg c3] at h
    refine v_aload_n F (dq dkX4_put_0 5 rfl) rfl 0 rfl ?_
    obtain ⟨g4, h⟩ := gd_of h
    refine v_get F t0 (kSh_lt g4) (kSh_at g4) rfl inlX4 1 (by decide) (tc5 _ (List.mem_of_getElem? (i := 17) rfl)) rfl rfl (dq dkX4_put_0 6 rfl) ?_
    refine v_if_ne F (tgt := 27) (dq dkX4_put_0 7 rfl) (by decide) (fun c5 => ?_) (fun c5 => ?_)
    · rw [if_neg c5] at h
      refine v_aload_n F (dq dkX4_put_0 15 rfl) rfl 0 rfl ?_
      obtain ⟨g6, h⟩ := gd_of h
      refine v_get F t0 (kSh_lt g6) (kSh_at g6) rfl inlX4 1 (by decide) (tc5 _ (List.mem_of_getElem? (i := 17) rfl)) rfl rfl (dq dkX4_put_0 16 rfl) ?_
      refine v_iconst F (v := 1) (dq dkX4_put_0 17 rfl) ki_1 ?_
      refine v_icmp_ne F (tgt := 46) (dq dkX4_put_0 18 rfl) (by decide) (fun c7 => ?_) (fun c7 => ?_)
      · rw [if_neg c7] at h
        refine v_aload_n F (dq dkX4_put_0 26 rfl) rfl 0 rfl ?_
        obtain ⟨g8, h⟩ := gd_of h
        refine v_get F t0 (kSh_lt g8) (kSh_at g8) rfl inlX4 0 (by decide) (tc5 _ (List.mem_of_getElem? (i := 16) rfl)) rfl rfl (dq dkX4_put_0 27 rfl) ?_
        refine v_iload_n F (dq dkX4_put_0 28 rfl) rfl 1 rfl ?_
        refine v_iload_n F (dq dkX4_put_0 29 rfl) rfl 2 rfl ?_
        obtain ⟨g9, h⟩ := gd_of h
        refine v_iast F (t0 + 1) (xa_lt g9) (xa_at g9) (ib_in g9) (dq dkX4_put_0 30 rfl) ?_
        refine v_eqM (xwC (q := (t0 + 1)) (j := a1.toNatClampNeg) (v := a2) (xa_lc g9) (xa_e g9)) ?_
        have h := Option.some.inj h
        subst h
        exact v_vret F E (dq dkX4_put_0 31 rfl)
      · rw [if_pos c7] at h
        refine v_aload_n F (dq dkX4_put_0 19 rfl) rfl 0 rfl ?_
        obtain ⟨g10, h⟩ := gd_of h
        refine v_get F t0 (kSh_lt g10) (kSh_at g10) rfl inlX4 0 (by decide) (tc5 _ (List.mem_of_getElem? (i := 16) rfl)) rfl rfl (dq dkX4_put_0 20 rfl) ?_
        refine v_iload_n F (dq dkX4_put_0 21 rfl) rfl 1 rfl ?_
        refine v_iload_n F (dq dkX4_put_0 22 rfl) rfl 2 rfl ?_
        refine v_i2s F (dq dkX4_put_0 23 rfl) ?_
        obtain ⟨g11, h⟩ := gd_of h
        refine v_iast F (t0 + 1) (xa_lt g11) (xa_at g11) (ib_in g11) (dq dkX4_put_0 24 rfl) ?_
        refine v_eqM (xwC (q := (t0 + 1)) (j := a1.toNatClampNeg) (v := a2.toInt16.toInt32) (xa_lc g11) (xa_e g11)) ?_
        refine v_goto F (tgt := 53) (dq dkX4_put_0 25 rfl) (by decide) ?_
        have h := Option.some.inj h
        subst h
        exact v_vret F E (dq dkX4_put_0 31 rfl)
    · rw [if_pos c5] at h
      refine v_aload_n F (dq dkX4_put_0 8 rfl) rfl 0 rfl ?_
      obtain ⟨g12, h⟩ := gd_of h
      refine v_get F t0 (kSh_lt g12) (kSh_at g12) rfl inlX4 0 (by decide) (tc5 _ (List.mem_of_getElem? (i := 16) rfl)) rfl rfl (dq dkX4_put_0 9 rfl) ?_
      refine v_iload_n F (dq dkX4_put_0 10 rfl) rfl 1 rfl ?_
      refine v_iload_n F (dq dkX4_put_0 11 rfl) rfl 2 rfl ?_
      refine v_i2b F (dq dkX4_put_0 12 rfl) ?_
      obtain ⟨g13, h⟩ := gd_of h
      refine v_iast F (t0 + 1) (xa_lt g13) (xa_at g13) (ib_in g13) (dq dkX4_put_0 13 rfl) ?_
      refine v_eqM (xwC (q := (t0 + 1)) (j := a1.toNatClampNeg) (v := a2.toInt8.toInt32) (xa_lc g13) (xa_e g13)) ?_
      refine v_goto F (tgt := 53) (dq dkX4_put_0 14 rfl) (by decide) ?_
      have h := Option.some.inj h
      subst h
      exact v_vret F E (dq dkX4_put_0 31 rfl)
  · rw [if_pos c3] at h
    have h := Option.some.inj h
    subst h
    exact v_vret F E (dq dkX4_put_0 4 rfl)
theorem f_X4_put_k {R : CS} {x : CS} {t0 : Nat} {a1 : Int32} {a2 : Int32} (h : f_X4_put x t0 a1 a2 = some R) : kSh t0 = true := by
  unfold f_X4_put at h
  exact (gd_of h).1
def rm_X6_append : Room := { frames := 1, cells := 0, slots := 0, locals := 30 }
def f_X6_append (x : CS) (a1 : Int32) : Option (CS) := if 160 ≤ (gi x 26 1) then (some x) else (gd (ib (gi x 26 1) 160) (some (pi (pi x 27 ((gi x 26 1).toNatClampNeg) a1) 26 1 ((gi (pi x 27 ((gi x 26 1).toNatClampNeg) a1) 26 1) + 1))))
set_option maxRecDepth 100000 in
set_option maxHeartbeats 4000000 in
theorem c_X6_append {K : KE} {l : Launch} {R : CS} (x : CS) (y : MS) (a1 : Int32) (h : f_X6_append x a1 = some R) : MC K l yX6_append cX6_append 2 none rm_X6_append 0 0 [.ref (K.1 + 26), .int a1] (xf K x y) (xf K R y) none := by
  unfold f_X6_append at h
  refine mc_of (ls0 := [(0, .ref (K.1 + 26)), (1, .int a1)]) (by decide) (Nat.le_of_ble_eq_true rfl) rfl (fun C hl hnm F E => ?_)
  have F : Fx C RX6 cX6_append 2 rm_X6_append K := F
  refine v_aload_n F (dq dkX6_append_0 0 rfl) rfl 0 rfl ?_
  refine v_get F 26 (xn (by decide)) xc_26 rfl inlX6 1 (by decide) (tc3 _ (List.mem_of_getElem? (i := 21) rfl)) rfl rfl (dq dkX6_append_0 1 rfl) ?_
  refine v_sipush F (v := 160) (dq dkX6_append_0 2 rfl) ks_160 ?_
  refine v_icmp_ge F (tgt := 30) (dq dkX6_append_0 3 rfl) (by decide) (fun c1 => ?_) (fun c1 => ?_)
  · rw [if_pos c1] at h
    have h := Option.some.inj h
    subst h
    exact v_vret F E (dq dkX6_append_0 16 rfl)
  · rw [if_neg c1] at h
    refine v_aload_n F (dq dkX6_append_0 4 rfl) rfl 0 rfl ?_
    refine v_get F 26 (xn (by decide)) xc_26 rfl inlX6 0 (by decide) (tc3 _ (List.mem_of_getElem? (i := 20) rfl)) rfl rfl (dq dkX6_append_0 5 rfl) ?_
    refine v_aload_n F (dq dkX6_append_0 6 rfl) rfl 0 rfl ?_
    refine v_get F 26 (xn (by decide)) xc_26 rfl inlX6 1 (by decide) (tc3 _ (List.mem_of_getElem? (i := 21) rfl)) rfl rfl (dq dkX6_append_0 7 rfl) ?_
    refine v_iload_n F (dq dkX6_append_0 8 rfl) rfl 1 rfl ?_
    obtain ⟨g2, h⟩ := gd_of h
    refine v_iast F 27 (xn (by decide)) xc_27 (ib_in g2) (dq dkX6_append_0 9 rfl) ?_
    refine v_eqM (xwC (q := 27) (j := (gi x 26 1).toNatClampNeg) (v := a1) (by decide) rfl) ?_
    refine v_aload_n F (dq dkX6_append_0 10 rfl) rfl 0 rfl ?_
    refine v_dup F (dq dkX6_append_0 11 rfl) rfl ?_
    refine v_get F 26 (xn (by decide)) xc_26 rfl inlX6 1 (by decide) (tc3 _ (List.mem_of_getElem? (i := 21) rfl)) rfl rfl (dq dkX6_append_0 12 rfl) ?_
    refine v_iconst F (v := 1) (dq dkX6_append_0 13 rfl) ki_1 ?_
    refine v_iadd F (dq dkX6_append_0 14 rfl) ?_
    refine v_put F 26 (xn (by decide)) xc_26 rfl inlX6 tyX6_ok nmX6 1 (by decide) (tc3 _ (List.mem_of_getElem? (i := 21) rfl)) rfl rfl (tyX6_ok 1 (by decide)) rfl rfl (Nat.le_of_ble_eq_true rfl) (dq dkX6_append_0 15 rfl) ?_
    refine v_eqM (xwC (q := 26) (j := 1) (v := (gi (pi x 27 ((gi x 26 1).toNatClampNeg) a1) 26 1) + 1) (by decide) rfl) ?_
    have h := Option.some.inj h
    subst h
    exact v_vret F E (dq dkX6_append_0 16 rfl)
def rm_X6_empty : Room := { frames := 1, cells := 0, slots := 0, locals := 30 }
def f_X6_empty (x : CS) : CS := pi x 26 1 0
set_option maxRecDepth 100000 in
set_option maxHeartbeats 4000000 in
theorem c_X6_empty {K : KE} {l : Launch} (x : CS) (y : MS) : MC K l yX6_empty cX6_empty 1 none rm_X6_empty 0 0 [.ref (K.1 + 26)] (xf K x y) (xf K (f_X6_empty x) y) none := by
  obtain ⟨R, h⟩ : ∃ R, f_X6_empty x = R := ⟨_, rfl⟩
  rw [h]
  unfold f_X6_empty at h
  refine mc_of (ls0 := [(0, .ref (K.1 + 26))]) (by decide) (Nat.le_of_ble_eq_true rfl) rfl (fun C hl hnm F E => ?_)
  have F : Fx C RX6 cX6_empty 1 rm_X6_empty K := F
  refine v_aload_n F (dq dkX6_empty_0 0 rfl) rfl 0 rfl ?_
  refine v_iconst F (v := 0) (dq dkX6_empty_0 1 rfl) ki_0 ?_
  refine v_put F 26 (xn (by decide)) xc_26 rfl inlX6 tyX6_ok nmX6 1 (by decide) (tc3 _ (List.mem_of_getElem? (i := 21) rfl)) rfl rfl (tyX6_ok 1 (by decide)) rfl rfl (Nat.le_of_ble_eq_true rfl) (dq dkX6_empty_0 2 rfl) ?_
  refine v_eqM (xwC (q := 26) (j := 1) (v := 0) (by decide) rfl) ?_
  subst h
  exact v_vret F E (dq dkX6_empty_0 3 rfl)
def rm_X6_byteAt : Room := { frames := 1, cells := 0, slots := 0, locals := 30 }
def f_X6_byteAt_28 (x : CS) : Option (Int32) := some (-1)
set_option maxRecDepth 100000 in
set_option maxHeartbeats 4000000 in
theorem t_X6_byteAt_28 {C : Cx} {K : KE} {y : MS} {R : Int32}  (x : CS) (h : f_X6_byteAt_28 x = some R) (F : Fx C RX6 cX6_byteAt 2 rm_X6_byteAt K) (E : CE C (xf K x y) (some (.int R)) 0 0 (some .int)) : V C 28 [] [] (xf K x y) 0 0 := by
  unfold f_X6_byteAt_28 at h
  refine v_iconst F (v := (-1)) (dq dkX6_byteAt_0 14 rfl) ki_m1 ?_
  have h := Option.some.inj h
  subst h
  exact v_iret F E (dq dkX6_byteAt_0 15 rfl)
def f_X6_byteAt (x : CS) (a1 : Int32) : Option (Int32) := if a1 < 0 then (f_X6_byteAt_28 x) else (if (gi x 26 1) ≤ a1 then (f_X6_byteAt_28 x) else (if 160 ≤ a1 then (f_X6_byteAt_28 x) else (gd (ib a1 160) (some (gi x 27 a1.toNatClampNeg)))))
set_option maxRecDepth 100000 in
set_option maxHeartbeats 4000000 in
theorem c_X6_byteAt {K : KE} {l : Launch} {R : Int32} (x : CS) (y : MS) (a1 : Int32) (h : f_X6_byteAt x a1 = some R) : MC K l yX6_byteAt cX6_byteAt 2 (some .int) rm_X6_byteAt 0 0 [.ref (K.1 + 26), .int a1] (xf K x y) (xf K x y) (some (.int R)) := by
  unfold f_X6_byteAt at h
  refine mc_of (ls0 := [(0, .ref (K.1 + 26)), (1, .int a1)]) (by decide) (Nat.le_of_ble_eq_true rfl) rfl (fun C hl hnm F E => ?_)
  have F : Fx C RX6 cX6_byteAt 2 rm_X6_byteAt K := F
  refine v_iload_n F (dq dkX6_byteAt_0 0 rfl) rfl 1 rfl ?_
  refine v_if_lt F (tgt := 28) (dq dkX6_byteAt_0 1 rfl) (by decide) (fun c1 => ?_) (fun c1 => ?_)
  · rw [if_pos c1] at h
    refine v_sub [] rfl ?_
    exact t_X6_byteAt_28 x h F E
  · rw [if_neg c1] at h
    refine v_iload_n F (dq dkX6_byteAt_0 2 rfl) rfl 1 rfl ?_
    refine v_aload_n F (dq dkX6_byteAt_0 3 rfl) rfl 0 rfl ?_
    refine v_get F 26 (xn (by decide)) xc_26 rfl inlX6 1 (by decide) (tc3 _ (List.mem_of_getElem? (i := 21) rfl)) rfl rfl (dq dkX6_byteAt_0 4 rfl) ?_
    refine v_icmp_ge F (tgt := 28) (dq dkX6_byteAt_0 5 rfl) (by decide) (fun c2 => ?_) (fun c2 => ?_)
    · rw [if_pos c2] at h
      refine v_sub [] rfl ?_
      exact t_X6_byteAt_28 x h F E
    · rw [if_neg c2] at h
      refine v_iload_n F (dq dkX6_byteAt_0 6 rfl) rfl 1 rfl ?_
      refine v_sipush F (v := 160) (dq dkX6_byteAt_0 7 rfl) ks_160 ?_
      refine v_icmp_ge F (tgt := 28) (dq dkX6_byteAt_0 8 rfl) (by decide) (fun c3 => ?_) (fun c3 => ?_)
      · rw [if_pos c3] at h
        refine v_sub [] rfl ?_
        exact t_X6_byteAt_28 x h F E
      · rw [if_neg c3] at h
        refine v_aload_n F (dq dkX6_byteAt_0 9 rfl) rfl 0 rfl ?_
        refine v_get F 26 (xn (by decide)) xc_26 rfl inlX6 0 (by decide) (tc3 _ (List.mem_of_getElem? (i := 20) rfl)) rfl rfl (dq dkX6_byteAt_0 10 rfl) ?_
        refine v_iload_n F (dq dkX6_byteAt_0 11 rfl) rfl 1 rfl ?_
        obtain ⟨g4, h⟩ := gd_of h
        refine v_iald F 27 (xn (by decide)) xc_27 (ib_in g4) (dq dkX6_byteAt_0 12 rfl) ?_
        refine v_goto F (tgt := 29) (dq dkX6_byteAt_0 13 rfl) (by decide) ?_
        have h := Option.some.inj h
        subst h
        exact v_iret F E (dq dkX6_byteAt_0 15 rfl)
def rm_X6_isDigit : Room := { frames := 2, cells := 0, slots := 0, locals := 52 }
def f_X6_isDigit (a0 : Int32) : Bool := (f_X10_within a0 48 57)
set_option maxRecDepth 100000 in
set_option maxHeartbeats 4000000 in
theorem c_X6_isDigit {K : KE} {l : Launch} {M : GM} (a0 : Int32) : MC K l yX6_isDigit cX6_isDigit 1 (some .boolean) rm_X6_isDigit 0 0 [.int a0] M M (some (.int (b2i (f_X6_isDigit a0)))) := by
  obtain ⟨R, h⟩ : ∃ R, f_X6_isDigit a0 = R := ⟨_, rfl⟩
  rw [h]
  unfold f_X6_isDigit at h
  refine mc_of (ls0 := [(0, .int a0)]) (by decide) (Nat.le_of_ble_eq_true rfl) rfl (fun C hl hnm F E => ?_)
  have F : Fx C RX6 cX6_isDigit 1 rm_X6_isDigit K := F
  refine v_iload_n F (dq dkX6_isDigit_0 0 rfl) rfl 0 rfl ?_
  refine v_bipush F (v := 48) (dq dkX6_isDigit_0 1 rfl) kb_48 ?_
  refine v_bipush F (v := 57) (dq dkX6_isDigit_0 2 rfl) kb_57 ?_
  refine v_callSN 3 F (kc1 := 0) (ks1 := 0) (as := [.int a0, .int 48, .int 57]) (st := []) (st1 := (.int (b2i (f_X10_within a0 48 57)) :: [])) (res := (some (.int (b2i (f_X10_within a0 48 57))))) (c_X10_within (l := C.2.1) a0 48 57) (List.mem_of_getElem? (i := 5) rfl) (tc8 _ (List.mem_of_getElem? (i := 15) rfl)) (tc1 _ (List.mem_of_getElem? (i := 2) rfl)) (tc8 _ (List.mem_of_getElem? (i := 16) rfl)) (by decide) rfl ⟨rfl, rfl, Nat.le_of_ble_eq_true rfl, Nat.le_of_ble_eq_true rfl⟩ ⟨Nat.le_of_ble_eq_true rfl, Nat.le_of_ble_eq_true rfl⟩ rfl (Nat.le_of_ble_eq_true rfl) rfl rfl rfl (dq dkX6_isDigit_0 3 rfl) ?_
  subst h
  exact v_zret F E (b2i_n (f_X10_within a0 48 57)) (dq dkX6_isDigit_0 4 rfl)
def rm_X6_isLetter : Room := { frames := 2, cells := 0, slots := 0, locals := 52 }
def f_X6_isLetter (a0 : Int32) : Bool := (f_X10_within a0 97 122)
set_option maxRecDepth 100000 in
set_option maxHeartbeats 4000000 in
theorem c_X6_isLetter {K : KE} {l : Launch} {M : GM} (a0 : Int32) : MC K l yX6_isLetter cX6_isLetter 1 (some .boolean) rm_X6_isLetter 0 0 [.int a0] M M (some (.int (b2i (f_X6_isLetter a0)))) := by
  obtain ⟨R, h⟩ : ∃ R, f_X6_isLetter a0 = R := ⟨_, rfl⟩
  rw [h]
  unfold f_X6_isLetter at h
  refine mc_of (ls0 := [(0, .int a0)]) (by decide) (Nat.le_of_ble_eq_true rfl) rfl (fun C hl hnm F E => ?_)
  have F : Fx C RX6 cX6_isLetter 1 rm_X6_isLetter K := F
  refine v_iload_n F (dq dkX6_isLetter_0 0 rfl) rfl 0 rfl ?_
  refine v_bipush F (v := 97) (dq dkX6_isLetter_0 1 rfl) kb_97 ?_
  refine v_bipush F (v := 122) (dq dkX6_isLetter_0 2 rfl) kb_122 ?_
  refine v_callSN 3 F (kc1 := 0) (ks1 := 0) (as := [.int a0, .int 97, .int 122]) (st := []) (st1 := (.int (b2i (f_X10_within a0 97 122)) :: [])) (res := (some (.int (b2i (f_X10_within a0 97 122))))) (c_X10_within (l := C.2.1) a0 97 122) (List.mem_of_getElem? (i := 5) rfl) (tc8 _ (List.mem_of_getElem? (i := 15) rfl)) (tc1 _ (List.mem_of_getElem? (i := 2) rfl)) (tc8 _ (List.mem_of_getElem? (i := 16) rfl)) (by decide) rfl ⟨rfl, rfl, Nat.le_of_ble_eq_true rfl, Nat.le_of_ble_eq_true rfl⟩ ⟨Nat.le_of_ble_eq_true rfl, Nat.le_of_ble_eq_true rfl⟩ rfl (Nat.le_of_ble_eq_true rfl) rfl rfl rfl (dq dkX6_isLetter_0 3 rfl) ?_
  subst h
  exact v_zret F E (b2i_n (f_X10_within a0 97 122)) (dq dkX6_isLetter_0 4 rfl)
def rm_X6_isSign : Room := { frames := 1, cells := 0, slots := 0, locals := 30 }
def f_X6_isSign_48 : Bool := true
set_option maxRecDepth 100000 in
set_option maxHeartbeats 4000000 in
theorem t_X6_isSign_48 {C : Cx} {K : KE} {M : GM} {R : Bool}  (h : f_X6_isSign_48  = R) (F : Fx C RX6 cX6_isSign 1 rm_X6_isSign K) (E : CE C M (some (.int (b2i R))) 0 0 (some .boolean)) : V C 48 [] [] M 0 0 := by
  unfold f_X6_isSign_48 at h
  refine v_iconst F (v := 1) (dq dkX6_isSign_0 24 rfl) ki_1 ?_
  refine v_goto F (tgt := 53) (dq dkX6_isSign_0 25 rfl) (by decide) ?_
  subst h
  exact v_zret F E (b2i_n true) (dq dkX6_isSign_0 27 rfl)
def f_X6_isSign (a0 : Int32) : Bool := if a0 = 40 then f_X6_isSign_48 else (if a0 = 41 then f_X6_isSign_48 else (if a0 = 59 then f_X6_isSign_48 else (if a0 = 43 then f_X6_isSign_48 else (if a0 = 45 then f_X6_isSign_48 else (if a0 = 42 then f_X6_isSign_48 else (if a0 = 60 then f_X6_isSign_48 else (if a0 = 61 then f_X6_isSign_48 else false)))))))
set_option maxRecDepth 100000 in
set_option maxHeartbeats 4000000 in
theorem c_X6_isSign {K : KE} {l : Launch} {M : GM} (a0 : Int32) : MC K l yX6_isSign cX6_isSign 1 (some .boolean) rm_X6_isSign 0 0 [.int a0] M M (some (.int (b2i (f_X6_isSign a0)))) := by
  obtain ⟨R, h⟩ : ∃ R, f_X6_isSign a0 = R := ⟨_, rfl⟩
  rw [h]
  unfold f_X6_isSign at h
  refine mc_of (ls0 := [(0, .int a0)]) (by decide) (Nat.le_of_ble_eq_true rfl) rfl (fun C hl hnm F E => ?_)
  have F : Fx C RX6 cX6_isSign 1 rm_X6_isSign K := F
  refine v_iload_n F (dq dkX6_isSign_0 0 rfl) rfl 0 rfl ?_
  refine v_bipush F (v := 40) (dq dkX6_isSign_0 1 rfl) kb_40 ?_
  refine v_icmp_eq F (tgt := 48) (dq dkX6_isSign_0 2 rfl) (by decide) (fun c1 => ?_) (fun c1 => ?_)
  · rw [if_pos c1] at h
    refine v_sub [] rfl ?_
    exact t_X6_isSign_48 h F E
  · rw [if_neg c1] at h
    refine v_iload_n F (dq dkX6_isSign_0 3 rfl) rfl 0 rfl ?_
    refine v_bipush F (v := 41) (dq dkX6_isSign_0 4 rfl) kb_41 ?_
    refine v_icmp_eq F (tgt := 48) (dq dkX6_isSign_0 5 rfl) (by decide) (fun c2 => ?_) (fun c2 => ?_)
    · rw [if_pos c2] at h
      refine v_sub [] rfl ?_
      exact t_X6_isSign_48 h F E
    · rw [if_neg c2] at h
      refine v_iload_n F (dq dkX6_isSign_0 6 rfl) rfl 0 rfl ?_
      refine v_bipush F (v := 59) (dq dkX6_isSign_0 7 rfl) kb_59 ?_
      refine v_icmp_eq F (tgt := 48) (dq dkX6_isSign_0 8 rfl) (by decide) (fun c3 => ?_) (fun c3 => ?_)
      · rw [if_pos c3] at h
        refine v_sub [] rfl ?_
        exact t_X6_isSign_48 h F E
      · rw [if_neg c3] at h
        refine v_iload_n F (dq dkX6_isSign_0 9 rfl) rfl 0 rfl ?_
        refine v_bipush F (v := 43) (dq dkX6_isSign_0 10 rfl) kb_43 ?_
        refine v_icmp_eq F (tgt := 48) (dq dkX6_isSign_0 11 rfl) (by decide) (fun c4 => ?_) (fun c4 => ?_)
        · rw [if_pos c4] at h
          refine v_sub [] rfl ?_
          exact t_X6_isSign_48 h F E
        · rw [if_neg c4] at h
          refine v_iload_n F (dq dkX6_isSign_0 12 rfl) rfl 0 rfl ?_
          refine v_bipush F (v := 45) (dq dkX6_isSign_0 13 rfl) kb_45 ?_
          refine v_icmp_eq F (tgt := 48) (dq dkX6_isSign_0 14 rfl) (by decide) (fun c5 => ?_) (fun c5 => ?_)
          · rw [if_pos c5] at h
            refine v_sub [] rfl ?_
            exact t_X6_isSign_48 h F E
          · rw [if_neg c5] at h
            refine v_iload_n F (dq dkX6_isSign_0 15 rfl) rfl 0 rfl ?_
            refine v_bipush F (v := 42) (dq dkX6_isSign_0 16 rfl) kb_42 ?_
            refine v_icmp_eq F (tgt := 48) (dq dkX6_isSign_0 17 rfl) (by decide) (fun c6 => ?_) (fun c6 => ?_)
            · rw [if_pos c6] at h
              refine v_sub [] rfl ?_
              exact t_X6_isSign_48 h F E
            · rw [if_neg c6] at h
              refine v_iload_n F (dq dkX6_isSign_0 18 rfl) rfl 0 rfl ?_
              refine v_bipush F (v := 60) (dq dkX6_isSign_0 19 rfl) kb_60 ?_
              refine v_icmp_eq F (tgt := 48) (dq dkX6_isSign_0 20 rfl) (by decide) (fun c7 => ?_) (fun c7 => ?_)
              · rw [if_pos c7] at h
                refine v_sub [] rfl ?_
                exact t_X6_isSign_48 h F E
              · rw [if_neg c7] at h
                refine v_iload_n F (dq dkX6_isSign_0 21 rfl) rfl 0 rfl ?_
                refine v_bipush F (v := 61) (dq dkX6_isSign_0 22 rfl) kb_61 ?_
                refine v_icmp_ne F (tgt := 52) (dq dkX6_isSign_0 23 rfl) (by decide) (fun c8 => ?_) (fun c8 => ?_)
                · rw [if_neg c8] at h
                  refine v_iconst F (v := 0) (dq dkX6_isSign_0 26 rfl) ki_0 ?_
                  subst h
                  exact v_zret F E (b2i_n false) (dq dkX6_isSign_0 27 rfl)
                · rw [if_pos c8] at h
                  refine v_sub [] rfl ?_
                  exact t_X6_isSign_48 h F E
def rm_X6_fail : Room := { frames := 1, cells := 0, slots := 0, locals := 30 }
def f_X6_fail (x : CS) : CS := if 0 ≤ (gi x 26 5) then x else (pi x 26 5 (gi x 26 9))
set_option maxRecDepth 100000 in
set_option maxHeartbeats 4000000 in
theorem c_X6_fail {K : KE} {l : Launch} (x : CS) (y : MS) : MC K l yX6_fail cX6_fail 1 none rm_X6_fail 0 0 [.ref (K.1 + 26)] (xf K x y) (xf K (f_X6_fail x) y) none := by
  obtain ⟨R, h⟩ : ∃ R, f_X6_fail x = R := ⟨_, rfl⟩
  rw [h]
  unfold f_X6_fail at h
  refine mc_of (ls0 := [(0, .ref (K.1 + 26))]) (by decide) (Nat.le_of_ble_eq_true rfl) rfl (fun C hl hnm F E => ?_)
  have F : Fx C RX6 cX6_fail 1 rm_X6_fail K := F
  refine v_aload_n F (dq dkX6_fail_0 0 rfl) rfl 0 rfl ?_
  refine v_get F 26 (xn (by decide)) xc_26 rfl inlX6 5 (by decide) (tc4 _ (List.mem_of_getElem? (i := 1) rfl)) rfl rfl (dq dkX6_fail_0 1 rfl) ?_
  refine v_if_ge F (tgt := 15) (dq dkX6_fail_0 2 rfl) (by decide) (fun c1 => ?_) (fun c1 => ?_)
  · rw [if_pos c1] at h
    subst h
    exact v_vret F E (dq dkX6_fail_0 7 rfl)
  · rw [if_neg c1] at h
    refine v_aload_n F (dq dkX6_fail_0 3 rfl) rfl 0 rfl ?_
    refine v_aload_n F (dq dkX6_fail_0 4 rfl) rfl 0 rfl ?_
    refine v_get F 26 (xn (by decide)) xc_26 rfl inlX6 9 (by decide) (tc4 _ (List.mem_of_getElem? (i := 5) rfl)) rfl rfl (dq dkX6_fail_0 5 rfl) ?_
    refine v_put F 26 (xn (by decide)) xc_26 rfl inlX6 tyX6_ok nmX6 5 (by decide) (tc4 _ (List.mem_of_getElem? (i := 1) rfl)) rfl rfl (tyX6_ok 5 (by decide)) rfl rfl (Nat.le_of_ble_eq_true rfl) (dq dkX6_fail_0 6 rfl) ?_
    refine v_eqM (xwC (q := 26) (j := 5) (v := gi x 26 9) (by decide) rfl) ?_
    subst h
    exact v_vret F E (dq dkX6_fail_0 7 rfl)
def rm_X6_emit : Room := { frames := 1, cells := 0, slots := 0, locals := 30 }
def f_X6_emit (x : CS) (a1 : Int32) : Option (CS) := if 0 ≤ (gi x 26 5) then (some x) else (if 160 ≤ (gi x 26 4) then (some x) else (gd (ib (gi x 26 4) 160) (some (pi (pi x 28 ((gi x 26 4).toNatClampNeg) a1) 26 4 ((gi (pi x 28 ((gi x 26 4).toNatClampNeg) a1) 26 4) + 1)))))
set_option maxRecDepth 100000 in
set_option maxHeartbeats 4000000 in
theorem c_X6_emit {K : KE} {l : Launch} {R : CS} (x : CS) (y : MS) (a1 : Int32) (h : f_X6_emit x a1 = some R) : MC K l yX6_emit cX6_emit 2 none rm_X6_emit 0 0 [.ref (K.1 + 26), .int a1] (xf K x y) (xf K R y) none := by
  unfold f_X6_emit at h
  refine mc_of (ls0 := [(0, .ref (K.1 + 26)), (1, .int a1)]) (by decide) (Nat.le_of_ble_eq_true rfl) rfl (fun C hl hnm F E => ?_)
  have F : Fx C RX6 cX6_emit 2 rm_X6_emit K := F
  refine v_aload_n F (dq dkX6_emit_0 0 rfl) rfl 0 rfl ?_
  refine v_get F 26 (xn (by decide)) xc_26 rfl inlX6 5 (by decide) (tc4 _ (List.mem_of_getElem? (i := 1) rfl)) rfl rfl (dq dkX6_emit_0 1 rfl) ?_
  refine v_if_ge F (tgt := 37) (dq dkX6_emit_0 2 rfl) (by decide) (fun c1 => ?_) (fun c1 => ?_)
  · rw [if_pos c1] at h
    have h := Option.some.inj h
    subst h
    exact v_vret F E (dq dkX6_emit_0 19 rfl)
  · rw [if_neg c1] at h
    refine v_aload_n F (dq dkX6_emit_0 3 rfl) rfl 0 rfl ?_
    refine v_get F 26 (xn (by decide)) xc_26 rfl inlX6 4 (by decide) (tc4 _ (List.mem_of_getElem? (i := 0) rfl)) rfl rfl (dq dkX6_emit_0 4 rfl) ?_
    refine v_sipush F (v := 160) (dq dkX6_emit_0 5 rfl) ks_160 ?_
    refine v_icmp_ge F (tgt := 37) (dq dkX6_emit_0 6 rfl) (by decide) (fun c2 => ?_) (fun c2 => ?_)
    · rw [if_pos c2] at h
      have h := Option.some.inj h
      subst h
      exact v_vret F E (dq dkX6_emit_0 19 rfl)
    · rw [if_neg c2] at h
      refine v_aload_n F (dq dkX6_emit_0 7 rfl) rfl 0 rfl ?_
      refine v_get F 26 (xn (by decide)) xc_26 rfl inlX6 2 (by decide) (tc3 _ (List.mem_of_getElem? (i := 22) rfl)) rfl rfl (dq dkX6_emit_0 8 rfl) ?_
      refine v_aload_n F (dq dkX6_emit_0 9 rfl) rfl 0 rfl ?_
      refine v_get F 26 (xn (by decide)) xc_26 rfl inlX6 4 (by decide) (tc4 _ (List.mem_of_getElem? (i := 0) rfl)) rfl rfl (dq dkX6_emit_0 10 rfl) ?_
      refine v_iload_n F (dq dkX6_emit_0 11 rfl) rfl 1 rfl ?_
      obtain ⟨g3, h⟩ := gd_of h
      refine v_iast F 28 (xn (by decide)) xc_28 (ib_in g3) (dq dkX6_emit_0 12 rfl) ?_
      refine v_eqM (xwC (q := 28) (j := (gi x 26 4).toNatClampNeg) (v := a1) (by decide) rfl) ?_
      refine v_aload_n F (dq dkX6_emit_0 13 rfl) rfl 0 rfl ?_
      refine v_dup F (dq dkX6_emit_0 14 rfl) rfl ?_
      refine v_get F 26 (xn (by decide)) xc_26 rfl inlX6 4 (by decide) (tc4 _ (List.mem_of_getElem? (i := 0) rfl)) rfl rfl (dq dkX6_emit_0 15 rfl) ?_
      refine v_iconst F (v := 1) (dq dkX6_emit_0 16 rfl) ki_1 ?_
      refine v_iadd F (dq dkX6_emit_0 17 rfl) ?_
      refine v_put F 26 (xn (by decide)) xc_26 rfl inlX6 tyX6_ok nmX6 4 (by decide) (tc4 _ (List.mem_of_getElem? (i := 0) rfl)) rfl rfl (tyX6_ok 4 (by decide)) rfl rfl (Nat.le_of_ble_eq_true rfl) (dq dkX6_emit_0 18 rfl) ?_
      refine v_eqM (xwC (q := 26) (j := 4) (v := (gi (pi x 28 ((gi x 26 4).toNatClampNeg) a1) 26 4) + 1) (by decide) rfl) ?_
      have h := Option.some.inj h
      subst h
      exact v_vret F E (dq dkX6_emit_0 19 rfl)
def rm_X6_opens : Room := { frames := 2, cells := 0, slots := 0, locals := 50 }
def f_X6_opens_12 (x : CS) : Bool × CS := if (gi x 26 5) < 0 then ((true, pi x 26 6 ((gi x 26 6) + 1))) else ((false, x))
set_option maxRecDepth 100000 in
set_option maxHeartbeats 4000000 in
theorem t_X6_opens_12 {C : Cx} {K : KE} {y : MS} {R : Bool × CS}  (x : CS) (h : f_X6_opens_12 x = R) (F : Fx C RX6 cX6_opens 1 rm_X6_opens K) (E : CE C (xf K R.2 y) (some (.int (b2i R.1))) 0 0 (some .boolean)) : V C 12 [(0, .ref (K.1 + 26))] [] (xf K x y) 0 0 := by
  unfold f_X6_opens_12 at h
  refine v_aload_n F (dq dkX6_opens_0 6 rfl) rfl 0 rfl ?_
  refine v_get F 26 (xn (by decide)) xc_26 rfl inlX6 5 (by decide) (tc4 _ (List.mem_of_getElem? (i := 1) rfl)) rfl rfl (dq dkX6_opens_0 7 rfl) ?_
  refine v_if_lt F (tgt := 21) (dq dkX6_opens_0 8 rfl) (by decide) (fun c1 => ?_) (fun c1 => ?_)
  · rw [if_pos c1] at h
    refine v_aload_n F (dq dkX6_opens_0 11 rfl) rfl 0 rfl ?_
    refine v_dup F (dq dkX6_opens_0 12 rfl) rfl ?_
    refine v_get F 26 (xn (by decide)) xc_26 rfl inlX6 6 (by decide) (tc4 _ (List.mem_of_getElem? (i := 2) rfl)) rfl rfl (dq dkX6_opens_0 13 rfl) ?_
    refine v_iconst F (v := 1) (dq dkX6_opens_0 14 rfl) ki_1 ?_
    refine v_iadd F (dq dkX6_opens_0 15 rfl) ?_
    refine v_put F 26 (xn (by decide)) xc_26 rfl inlX6 tyX6_ok nmX6 6 (by decide) (tc4 _ (List.mem_of_getElem? (i := 2) rfl)) rfl rfl (tyX6_ok 6 (by decide)) rfl rfl (Nat.le_of_ble_eq_true rfl) (dq dkX6_opens_0 16 rfl) ?_
    refine v_eqM (xwC (q := 26) (j := 6) (v := (gi x 26 6) + 1) (by decide) rfl) ?_
    refine v_iconst F (v := 1) (dq dkX6_opens_0 17 rfl) ki_1 ?_
    subst h
    exact v_zret F E (b2i_n true) (dq dkX6_opens_0 18 rfl)
  · rw [if_neg c1] at h
    refine v_iconst F (v := 0) (dq dkX6_opens_0 9 rfl) ki_0 ?_
    subst h
    exact v_zret F E (b2i_n false) (dq dkX6_opens_0 10 rfl)
def f_X6_opens (x : CS) : Bool × CS := if (gi x 26 6) < 5 then (f_X6_opens_12 x) else (f_X6_opens_12 (f_X6_fail x))
set_option maxRecDepth 100000 in
set_option maxHeartbeats 4000000 in
theorem c_X6_opens {K : KE} {l : Launch} (x : CS) (y : MS) : MC K l yX6_opens cX6_opens 1 (some .boolean) rm_X6_opens 0 0 [.ref (K.1 + 26)] (xf K x y) (xf K ((f_X6_opens x).2) y) (some (.int (b2i (f_X6_opens x).1))) := by
  obtain ⟨R, h⟩ : ∃ R, f_X6_opens x = R := ⟨_, rfl⟩
  rw [h]
  unfold f_X6_opens at h
  refine mc_of (ls0 := [(0, .ref (K.1 + 26))]) (by decide) (Nat.le_of_ble_eq_true rfl) rfl (fun C hl hnm F E => ?_)
  have F : Fx C RX6 cX6_opens 1 rm_X6_opens K := F
  refine v_aload_n F (dq dkX6_opens_0 0 rfl) rfl 0 rfl ?_
  refine v_get F 26 (xn (by decide)) xc_26 rfl inlX6 6 (by decide) (tc4 _ (List.mem_of_getElem? (i := 2) rfl)) rfl rfl (dq dkX6_opens_0 1 rfl) ?_
  refine v_iconst F (v := 5) (dq dkX6_opens_0 2 rfl) ki_5 ?_
  refine v_icmp_lt F (tgt := 12) (dq dkX6_opens_0 3 rfl) (by decide) (fun c2 => ?_) (fun c2 => ?_)
  · rw [if_pos c2] at h
    exact t_X6_opens_12 x h F E
  · rw [if_neg c2] at h
    refine v_aload_n F (dq dkX6_opens_0 4 rfl) rfl 0 rfl ?_
    refine v_callV 0 F (q := 26) (kc1 := 0) (ks1 := 0) (as := []) (st := []) (st1 := []) (res := none) (c_X6_fail (l := C.2.1) x y) (xn (by decide)) xc_26 rfl (tc9 _ (List.mem_of_getElem? (i := 13) rfl)) (tc9 _ (List.mem_of_getElem? (i := 14) rfl)) (tc9 _ (List.mem_of_getElem? (i := 15) rfl)) (tc1 _ (List.mem_of_getElem? (i := 23) rfl)) (tc9 _ (List.mem_of_getElem? (i := 16) rfl)) (by decide) rfl ⟨rfl, rfl, Nat.le_of_ble_eq_true rfl, Nat.le_of_ble_eq_true rfl⟩ ⟨Nat.le_of_ble_eq_true rfl, Nat.le_of_ble_eq_true rfl⟩ rfl (Nat.le_of_ble_eq_true rfl) rfl rfl rfl (dq dkX6_opens_0 5 rfl) ?_
    exact t_X6_opens_12 (f_X6_fail x) h F E
def rm_X7_hurtBy : Room := { frames := 1, cells := 0, slots := 0, locals := 30 }
def f_X7_hurtBy_82 (t0 : Nat) (x : CS) (s0 : Int32) (s1 : Int32) : Option (Int32) := some (if 0 < (s1 - s0) then (s1 - s0) else 0)
set_option maxRecDepth 100000 in
set_option maxHeartbeats 4000000 in
theorem t_X7_hurtBy_82 {C : Cx} {K : KE} {y : MS} {R : Int32}  (t0 : Nat) (x : CS) (s0 : Int32) (s1 : Int32) (h : f_X7_hurtBy_82 t0 x s0 s1 = some R) (F : Fx C RX7 cX7_hurtBy 7 rm_X7_hurtBy K) (E : CE C (xf K x y) (some (.int R)) 0 0 (some .int)) : V C 82 [] [.int s0, .int s1] (xf K x y) 0 0 := by
  unfold f_X7_hurtBy_82 at h
  refine v_isub F (dq dkX7_hurtBy_1 8 rfl) ?_
  refine v_istore F (ls' := [(6, .int (s1 - s0))]) (dq dkX7_hurtBy_1 9 rfl) (by decide) rfl ?_
  refine v_iconst F (v := 0) (dq dkX7_hurtBy_1 10 rfl) ki_0 ?_
  refine v_iload F (dq dkX7_hurtBy_1 11 rfl) 0 rfl ?_
  refine v_mmax F (tc44 _ (List.mem_of_getElem? (i := 14) rfl)) (tc21 _ (List.mem_of_getElem? (i := 4) rfl)) (tc21 _ (List.mem_of_getElem? (i := 1) rfl)) (tc21 _ (List.mem_of_getElem? (i := 5) rfl)) (Nat.le_of_ble_eq_true rfl) (Nat.le_of_ble_eq_true rfl) (Nat.le_of_ble_eq_true rfl) (Nat.le_of_ble_eq_true rfl) (dq dkX7_hurtBy_1 12 rfl) ?_
  have h := Option.some.inj h
  subst h
  exact v_iret F E (dq dkX7_hurtBy_1 13 rfl)
def f_X7_hurtBy_44 (t0 : Nat) (x : CS) (a4 : Int32) (s0 : Int32) : Option (Int32) := gd (kTr x t0) (gd (kTr x t0) (gd (kTr x t0) (if s0 = 0 then (f_X7_hurtBy_82 t0 x 0 ((((if 0 ≤ (ti x t0 2) then (ti x t0 2) else 0 - (ti x t0 2)) * a4) + (3 * (ti x t0 3))) + ((ti x t0 1) / 10))) else (f_X7_hurtBy_82 t0 x 12 ((((if 0 ≤ (ti x t0 2) then (ti x t0 2) else 0 - (ti x t0 2)) * a4) + (3 * (ti x t0 3))) + ((ti x t0 1) / 10))))))
set_option maxRecDepth 100000 in
set_option maxHeartbeats 4000000 in
theorem t_X7_hurtBy_44 {C : Cx} {K : KE} {y : MS} {R : Int32}  (t0 : Nat) (x : CS) (a4 : Int32) (s0 : Int32) (h : f_X7_hurtBy_44 t0 x a4 s0 = some R) (F : Fx C RX7 cX7_hurtBy 7 rm_X7_hurtBy K) (E : CE C (xf K x y) (some (.int R)) 0 0 (some .int)) : V C 44 [(0, .ref (K.1 + t0)), (4, .int a4)] [.int s0] (xf K x y) 0 0 := by
  unfold f_X7_hurtBy_44 at h
  refine v_istore F (ls' := [(5, .int s0), (0, .ref (K.1 + t0)), (4, .int a4)]) (dq dkX7_hurtBy_0 27 rfl) (by decide) rfl ?_
  refine v_aload_n F (dq dkX7_hurtBy_0 28 rfl) rfl 1 rfl ?_
  obtain ⟨g1, h⟩ := gd_of h
  refine v_get F t0 (kTr_lt g1) (kTr_at g1) rfl inlX7 2 (by decide) (tc43 _ (List.mem_of_getElem? (i := 1) rfl)) rfl rfl (dq dkX7_hurtBy_0 29 rfl) ?_
  refine v_mabs F (tc48 _ (List.mem_of_getElem? (i := 6) rfl)) (tc26 _ (List.mem_of_getElem? (i := 18) rfl)) (tc21 _ (List.mem_of_getElem? (i := 1) rfl)) (tc26 _ (List.mem_of_getElem? (i := 19) rfl)) (Nat.le_of_ble_eq_true rfl) (Nat.le_of_ble_eq_true rfl) (Nat.le_of_ble_eq_true rfl) (Nat.le_of_ble_eq_true rfl) (dq dkX7_hurtBy_0 30 rfl) ?_
  refine v_iload F (dq dkX7_hurtBy_0 31 rfl) 2 rfl ?_
  refine v_imul F (dq dkX7_hurtBy_0 32 rfl) ?_
  refine v_iconst F (v := 3) (dq dkX7_hurtBy_0 33 rfl) ki_3 ?_
  refine v_aload_n F (dq dkX7_hurtBy_0 34 rfl) rfl 1 rfl ?_
  obtain ⟨g2, h⟩ := gd_of h
  refine v_get F t0 (kTr_lt g2) (kTr_at g2) rfl inlX7 3 (by decide) (tc43 _ (List.mem_of_getElem? (i := 2) rfl)) rfl rfl (dq dkX7_hurtBy_0 35 rfl) ?_
  refine v_imul F (dq dkX7_hurtBy_0 36 rfl) ?_
  refine v_iadd F (dq dkX7_hurtBy_0 37 rfl) ?_
  refine v_aload_n F (dq dkX7_hurtBy_0 38 rfl) rfl 1 rfl ?_
  obtain ⟨g3, h⟩ := gd_of h
  refine v_get F t0 (kTr_lt g3) (kTr_at g3) rfl inlX7 1 (by decide) (tc43 _ (List.mem_of_getElem? (i := 0) rfl)) rfl rfl (dq dkX7_hurtBy_0 39 rfl) ?_
  refine v_bipush F (v := 10) (dq dkX7_hurtBy_1 0 rfl) kb_10 ?_
  refine v_idiv F (dq dkX7_hurtBy_1 1 rfl) (by decide) ?_
  refine v_iadd F (dq dkX7_hurtBy_1 2 rfl) ?_
  refine v_iload F (dq dkX7_hurtBy_1 3 rfl) 0 rfl ?_
  refine v_if_eq F (tgt := 81) (dq dkX7_hurtBy_1 4 rfl) (by decide) (fun c4 => ?_) (fun c4 => ?_)
  · rw [if_pos c4] at h
    refine v_iconst F (v := 0) (dq dkX7_hurtBy_1 7 rfl) ki_0 ?_
    refine v_sub [] rfl ?_
    exact t_X7_hurtBy_82 t0 x 0 ((((if 0 ≤ (ti x t0 2) then (ti x t0 2) else 0 - (ti x t0 2)) * a4) + (3 * (ti x t0 3))) + ((ti x t0 1) / 10)) h F E
  · rw [if_neg c4] at h
    refine v_bipush F (v := 12) (dq dkX7_hurtBy_1 5 rfl) kb_12 ?_
    refine v_goto F (tgt := 82) (dq dkX7_hurtBy_1 6 rfl) (by decide) ?_
    refine v_sub [] rfl ?_
    exact t_X7_hurtBy_82 t0 x 12 ((((if 0 ≤ (ti x t0 2) then (ti x t0 2) else 0 - (ti x t0 2)) * a4) + (3 * (ti x t0 3))) + ((ti x t0 1) / 10)) h F E
def f_X7_hurtBy_13 (t0 : Nat) (x : CS) (a1 : Int32) (a2 : Int32) (s0 : Int32) (s1 : Int32) : Option (Int32) := if ((a2 >>> ((a1 &&& 7) &&& 31)) &&& 1) = 0 then (f_X7_hurtBy_44 t0 x (if (8 - (if 0 ≤ (s1 - s0) then (s1 - s0) else 0 - (s1 - s0))) < (if 0 ≤ (s1 - s0) then (s1 - s0) else 0 - (s1 - s0)) then (8 - (if 0 ≤ (s1 - s0) then (s1 - s0) else 0 - (s1 - s0))) else (if 0 ≤ (s1 - s0) then (s1 - s0) else 0 - (s1 - s0))) 0) else (f_X7_hurtBy_44 t0 x (if (8 - (if 0 ≤ (s1 - s0) then (s1 - s0) else 0 - (s1 - s0))) < (if 0 ≤ (s1 - s0) then (s1 - s0) else 0 - (s1 - s0)) then (8 - (if 0 ≤ (s1 - s0) then (s1 - s0) else 0 - (s1 - s0))) else (if 0 ≤ (s1 - s0) then (s1 - s0) else 0 - (s1 - s0))) 1)
set_option maxRecDepth 100000 in
set_option maxHeartbeats 4000000 in
theorem t_X7_hurtBy_13 {C : Cx} {K : KE} {y : MS} {R : Int32}  (t0 : Nat) (x : CS) (a1 : Int32) (a2 : Int32) (s0 : Int32) (s1 : Int32) (h : f_X7_hurtBy_13 t0 x a1 a2 s0 s1 = some R) (F : Fx C RX7 cX7_hurtBy 7 rm_X7_hurtBy K) (E : CE C (xf K x y) (some (.int R)) 0 0 (some .int)) : V C 13 [(0, .ref (K.1 + t0)), (1, .int a1), (2, .int a2)] [.int s0, .int s1] (xf K x y) 0 0 := by
  unfold f_X7_hurtBy_13 at h
  refine v_isub F (dq dkX7_hurtBy_0 7 rfl) ?_
  refine v_mabs F (tc48 _ (List.mem_of_getElem? (i := 6) rfl)) (tc26 _ (List.mem_of_getElem? (i := 18) rfl)) (tc21 _ (List.mem_of_getElem? (i := 1) rfl)) (tc26 _ (List.mem_of_getElem? (i := 19) rfl)) (Nat.le_of_ble_eq_true rfl) (Nat.le_of_ble_eq_true rfl) (Nat.le_of_ble_eq_true rfl) (Nat.le_of_ble_eq_true rfl) (dq dkX7_hurtBy_0 8 rfl) ?_
  refine v_istore_n F (ls' := [(3, .int (if 0 ≤ (s1 - s0) then (s1 - s0) else 0 - (s1 - s0))), (0, .ref (K.1 + t0)), (1, .int a1), (2, .int a2)]) (dq dkX7_hurtBy_0 9 rfl) rfl (by decide) rfl ?_
  refine v_iload_n F (dq dkX7_hurtBy_0 10 rfl) rfl 0 rfl ?_
  refine v_bipush F (v := 8) (dq dkX7_hurtBy_0 11 rfl) kb_8 ?_
  refine v_iload_n F (dq dkX7_hurtBy_0 12 rfl) rfl 0 rfl ?_
  refine v_isub F (dq dkX7_hurtBy_0 13 rfl) ?_
  refine v_mmin F (tc48 _ (List.mem_of_getElem? (i := 7) rfl)) (tc21 _ (List.mem_of_getElem? (i := 0) rfl)) (tc21 _ (List.mem_of_getElem? (i := 1) rfl)) (tc21 _ (List.mem_of_getElem? (i := 2) rfl)) (Nat.le_of_ble_eq_true rfl) (Nat.le_of_ble_eq_true rfl) (Nat.le_of_ble_eq_true rfl) (Nat.le_of_ble_eq_true rfl) (dq dkX7_hurtBy_0 14 rfl) ?_
  refine v_istore F (ls' := [(4, .int (if (8 - (if 0 ≤ (s1 - s0) then (s1 - s0) else 0 - (s1 - s0))) < (if 0 ≤ (s1 - s0) then (s1 - s0) else 0 - (s1 - s0)) then (8 - (if 0 ≤ (s1 - s0) then (s1 - s0) else 0 - (s1 - s0))) else (if 0 ≤ (s1 - s0) then (s1 - s0) else 0 - (s1 - s0)))), (3, .int (if 0 ≤ (s1 - s0) then (s1 - s0) else 0 - (s1 - s0))), (0, .ref (K.1 + t0)), (1, .int a1), (2, .int a2)]) (dq dkX7_hurtBy_0 15 rfl) (by decide) rfl ?_
  refine v_iload_n F (dq dkX7_hurtBy_0 16 rfl) rfl 4 rfl ?_
  refine v_iload_n F (dq dkX7_hurtBy_0 17 rfl) rfl 3 rfl ?_
  refine v_bipush F (v := 7) (dq dkX7_hurtBy_0 18 rfl) kb_7 ?_
  refine v_iand F (dq dkX7_hurtBy_0 19 rfl) ?_
  refine v_ishr F (dq dkX7_hurtBy_0 20 rfl) ?_
  refine v_iconst F (v := 1) (dq dkX7_hurtBy_0 21 rfl) ki_1 ?_
  refine v_iand F (dq dkX7_hurtBy_0 22 rfl) ?_
  refine v_if_eq F (tgt := 43) (dq dkX7_hurtBy_0 23 rfl) (by decide) (fun c5 => ?_) (fun c5 => ?_)
  · rw [if_pos c5] at h
    refine v_iconst F (v := 0) (dq dkX7_hurtBy_0 26 rfl) ki_0 ?_
    refine v_sub [2, 0] rfl ?_
    exact t_X7_hurtBy_44 t0 x (if (8 - (if 0 ≤ (s1 - s0) then (s1 - s0) else 0 - (s1 - s0))) < (if 0 ≤ (s1 - s0) then (s1 - s0) else 0 - (s1 - s0)) then (8 - (if 0 ≤ (s1 - s0) then (s1 - s0) else 0 - (s1 - s0))) else (if 0 ≤ (s1 - s0) then (s1 - s0) else 0 - (s1 - s0))) 0 h F E
  · rw [if_neg c5] at h
    refine v_iconst F (v := 1) (dq dkX7_hurtBy_0 24 rfl) ki_1 ?_
    refine v_goto F (tgt := 44) (dq dkX7_hurtBy_0 25 rfl) (by decide) ?_
    refine v_sub [2, 0] rfl ?_
    exact t_X7_hurtBy_44 t0 x (if (8 - (if 0 ≤ (s1 - s0) then (s1 - s0) else 0 - (s1 - s0))) < (if 0 ≤ (s1 - s0) then (s1 - s0) else 0 - (s1 - s0)) then (8 - (if 0 ≤ (s1 - s0) then (s1 - s0) else 0 - (s1 - s0))) else (if 0 ≤ (s1 - s0) then (s1 - s0) else 0 - (s1 - s0))) 1 h F E
def f_X7_hurtBy (x : CS) (t0 : Nat) (a1 : Int32) (a2 : Int32) : Option (Int32) := gd (kTr x t0) (gd (kTr x t0) (if 0 ≤ (ti x t0 2) then (f_X7_hurtBy_13 t0 x a1 a2 0 a1) else (f_X7_hurtBy_13 t0 x a1 a2 4 a1)))
set_option maxRecDepth 100000 in
set_option maxHeartbeats 4000000 in
theorem c_X7_hurtBy {K : KE} {l : Launch} {R : Int32} (x : CS) (y : MS) (t0 : Nat) (a1 : Int32) (a2 : Int32) (h : f_X7_hurtBy x t0 a1 a2 = some R) : MC K l yX7_hurtBy cX7_hurtBy 7 (some .int) rm_X7_hurtBy 0 0 [.ref (K.1 + t0), .int a1, .int a2] (xf K x y) (xf K x y) (some (.int R)) := by
  unfold f_X7_hurtBy at h
  obtain ⟨_, h⟩ := gd_of h
  refine mc_of (ls0 := [(0, .ref (K.1 + t0)), (1, .int a1), (2, .int a2)]) (by decide) (Nat.le_of_ble_eq_true rfl) rfl (fun C hl hnm F E => ?_)
  have F : Fx C RX7 cX7_hurtBy 7 rm_X7_hurtBy K := F
  refine v_iload_n F (dq dkX7_hurtBy_0 0 rfl) rfl 1 rfl ?_
  refine v_aload_n F (dq dkX7_hurtBy_0 1 rfl) rfl 0 rfl ?_
  obtain ⟨g6, h⟩ := gd_of h
  refine v_get F t0 (kTr_lt g6) (kTr_at g6) rfl inlX7 2 (by decide) (tc43 _ (List.mem_of_getElem? (i := 1) rfl)) rfl rfl (dq dkX7_hurtBy_0 2 rfl) ?_
  refine v_if_ge F (tgt := 12) (dq dkX7_hurtBy_0 3 rfl) (by decide) (fun c7 => ?_) (fun c7 => ?_)
  · rw [if_pos c7] at h
    refine v_iconst F (v := 0) (dq dkX7_hurtBy_0 6 rfl) ki_0 ?_
    exact t_X7_hurtBy_13 t0 x a1 a2 0 a1 h F E
  · rw [if_neg c7] at h
    refine v_iconst F (v := 4) (dq dkX7_hurtBy_0 4 rfl) ki_4 ?_
    refine v_goto F (tgt := 13) (dq dkX7_hurtBy_0 5 rfl) (by decide) ?_
    exact t_X7_hurtBy_13 t0 x a1 a2 4 a1 h F E
theorem f_X7_hurtBy_k {R : Int32} {x : CS} {t0 : Nat} {a1 : Int32} {a2 : Int32} (h : f_X7_hurtBy x t0 a1 a2 = some R) : kTr x t0 = true := by
  unfold f_X7_hurtBy at h
  exact (gd_of h).1
def rm_X8_takes : Room := { frames := 2, cells := 0, slots := 0, locals := 52 }
def f_X8_takes_30 (t0 : Nat) (x : CS) : Option (Bool) := some false
set_option maxRecDepth 100000 in
set_option maxHeartbeats 4000000 in
theorem t_X8_takes_30 {C : Cx} {K : KE} {y : MS} {R : Bool}  (t0 : Nat) (x : CS) (h : f_X8_takes_30 t0 x = some R) (F : Fx C RX8 cX8_takes 3 rm_X8_takes K) (E : CE C (xf K x y) (some (.int (b2i R))) 0 0 (some .boolean)) : V C 30 [] [] (xf K x y) 0 0 := by
  unfold f_X8_takes_30 at h
  refine v_iconst F (v := 0) (dq dkX8_takes_0 16 rfl) ki_0 ?_
  have h := Option.some.inj h
  subst h
  exact v_zret F E (b2i_n false) (dq dkX8_takes_0 17 rfl)
def f_X8_takes (x : CS) (t0 : Nat) (a1 : Int32) (a2 : Int32) : Option (Bool) := gd (kWd t0) (if (b2i (f_X10_within a1 0 5)) = 0 then (f_X8_takes_30 t0 x) else (gd (ib a1 6) (gd (ib a1 6) (if (b2i (f_X10_within a2 (sa 1 a1.toNatClampNeg) (sa 2 a1.toNatClampNeg))) = 0 then (f_X8_takes_30 t0 x) else (some true)))))
set_option maxRecDepth 100000 in
set_option maxHeartbeats 4000000 in
theorem c_X8_takes {K : KE} {l : Launch} {R : Bool} (x : CS) (y : MS) (t0 : Nat) (a1 : Int32) (a2 : Int32) (h : f_X8_takes x t0 a1 a2 = some R) : MC K l yX8_takes cX8_takes 3 (some .boolean) rm_X8_takes 0 0 [.ref (K.1 + t0), .int a1, .int a2] (xf K x y) (xf K x y) (some (.int (b2i R))) := by
  unfold f_X8_takes at h
  obtain ⟨_, h⟩ := gd_of h
  refine mc_of (ls0 := [(0, .ref (K.1 + t0)), (1, .int a1), (2, .int a2)]) (by decide) (Nat.le_of_ble_eq_true rfl) rfl (fun C hl hnm F E => ?_)
  have F : Fx C RX8 cX8_takes 3 rm_X8_takes K := F
  refine v_iload_n F (dq dkX8_takes_0 0 rfl) rfl 1 rfl ?_
  refine v_iconst F (v := 0) (dq dkX8_takes_0 1 rfl) ki_0 ?_
  refine v_iconst F (v := 5) (dq dkX8_takes_0 2 rfl) ki_5 ?_
  refine v_callSN 3 F (kc1 := 0) (ks1 := 0) (as := [.int a1, .int 0, .int 5]) (st := []) (st1 := (.int (b2i (f_X10_within a1 0 5)) :: [])) (res := (some (.int (b2i (f_X10_within a1 0 5))))) (c_X10_within (l := C.2.1) a1 0 5) (List.mem_of_getElem? (i := 6) rfl) (tc8 _ (List.mem_of_getElem? (i := 15) rfl)) (tc1 _ (List.mem_of_getElem? (i := 2) rfl)) (tc8 _ (List.mem_of_getElem? (i := 16) rfl)) (by decide) rfl ⟨rfl, rfl, Nat.le_of_ble_eq_true rfl, Nat.le_of_ble_eq_true rfl⟩ ⟨Nat.le_of_ble_eq_true rfl, Nat.le_of_ble_eq_true rfl⟩ rfl (Nat.le_of_ble_eq_true rfl) rfl rfl rfl (dq dkX8_takes_0 3 rfl) ?_
  refine v_if_eq F (tgt := 30) (dq dkX8_takes_0 4 rfl) (by decide) (fun c2 => ?_) (fun c2 => ?_)
  · rw [if_pos c2] at h
    refine v_sub [] rfl ?_
    exact t_X8_takes_30 t0 x h F E
  · rw [if_neg c2] at h
    refine v_iload_n F (dq dkX8_takes_0 5 rfl) rfl 2 rfl ?_
    refine v_gets 1 F rfl (tc14 _ (List.mem_of_getElem? (i := 8) rfl)) (dq dkX8_takes_0 6 rfl) ?_
    refine v_iload_n F (dq dkX8_takes_0 7 rfl) rfl 1 rfl ?_
    obtain ⟨g3, h⟩ := gd_of h
    refine v_ti 1 F rfl (ib_in g3) (dq dkX8_takes_0 8 rfl) ?_
    refine v_gets 2 F rfl (tc14 _ (List.mem_of_getElem? (i := 9) rfl)) (dq dkX8_takes_0 9 rfl) ?_
    refine v_iload_n F (dq dkX8_takes_0 10 rfl) rfl 1 rfl ?_
    obtain ⟨g4, h⟩ := gd_of h
    refine v_ti 2 F rfl (ib_in g4) (dq dkX8_takes_0 11 rfl) ?_
    refine v_callSN 3 F (kc1 := 0) (ks1 := 0) (as := [.int a2, .int (sa 1 a1.toNatClampNeg), .int (sa 2 a1.toNatClampNeg)]) (st := []) (st1 := (.int (b2i (f_X10_within a2 (sa 1 a1.toNatClampNeg) (sa 2 a1.toNatClampNeg))) :: [])) (res := (some (.int (b2i (f_X10_within a2 (sa 1 a1.toNatClampNeg) (sa 2 a1.toNatClampNeg)))))) (c_X10_within (l := C.2.1) a2 (sa 1 a1.toNatClampNeg) (sa 2 a1.toNatClampNeg)) (List.mem_of_getElem? (i := 6) rfl) (tc8 _ (List.mem_of_getElem? (i := 15) rfl)) (tc1 _ (List.mem_of_getElem? (i := 2) rfl)) (tc8 _ (List.mem_of_getElem? (i := 16) rfl)) (by decide) rfl ⟨rfl, rfl, Nat.le_of_ble_eq_true rfl, Nat.le_of_ble_eq_true rfl⟩ ⟨Nat.le_of_ble_eq_true rfl, Nat.le_of_ble_eq_true rfl⟩ rfl (Nat.le_of_ble_eq_true rfl) rfl rfl rfl (dq dkX8_takes_0 12 rfl) ?_
    refine v_if_eq F (tgt := 30) (dq dkX8_takes_0 13 rfl) (by decide) (fun c6 => ?_) (fun c6 => ?_)
    · rw [if_pos c6] at h
      refine v_sub [] rfl ?_
      exact t_X8_takes_30 t0 x h F E
    · rw [if_neg c6] at h
      refine v_iconst F (v := 1) (dq dkX8_takes_0 14 rfl) ki_1 ?_
      refine v_goto F (tgt := 31) (dq dkX8_takes_0 15 rfl) (by decide) ?_
      have h := Option.some.inj h
      subst h
      exact v_zret F E (b2i_n true) (dq dkX8_takes_0 17 rfl)
theorem f_X8_takes_k {R : Bool} {x : CS} {t0 : Nat} {a1 : Int32} {a2 : Int32} (h : f_X8_takes x t0 a1 a2 = some R) : kWd t0 = true := by
  unfold f_X8_takes at h
  exact (gd_of h).1
def rm_X8_put : Room := { frames := 3, cells := 0, slots := 0, locals := 72 }
def f_X8_put (x : CS) (t0 : Nat) (a1 : Int32) (a2 : Int32) (a3 : Int32) : Option (CS) := gd (kWd t0) (if (b2i (f_X10_within a1 0 5)) = 0 then (some x) else (if (b2i (f_X10_isSection a2)) = 0 then (some x) else (gd (kWd t0) (gd (kWd t0) (gd (ib a1 6) (gd (ib a2 (al (t0 + 2 + a1.toNatClampNeg))) (some (pi x (t0 + 2 + a1.toNatClampNeg) a2.toNatClampNeg a3))))))))
set_option maxRecDepth 100000 in
set_option maxHeartbeats 4000000 in
theorem c_X8_put {K : KE} {l : Launch} {R : CS} (x : CS) (y : MS) (t0 : Nat) (a1 : Int32) (a2 : Int32) (a3 : Int32) (h : f_X8_put x t0 a1 a2 a3 = some R) : MC K l yX8_put cX8_put 4 none rm_X8_put 0 0 [.ref (K.1 + t0), .int a1, .int a2, .int a3] (xf K x y) (xf K R y) none := by
  unfold f_X8_put at h
  obtain ⟨_, h⟩ := gd_of h
  refine mc_of (ls0 := [(0, .ref (K.1 + t0)), (1, .int a1), (2, .int a2), (3, .int a3)]) (by decide) (Nat.le_of_ble_eq_true rfl) rfl (fun C hl hnm F E => ?_)
  have F : Fx C RX8 cX8_put 4 rm_X8_put K := F
  refine v_iload_n F (dq dkX8_put_0 0 rfl) rfl 1 rfl ?_
  refine v_iconst F (v := 0) (dq dkX8_put_0 1 rfl) ki_0 ?_
  refine v_iconst F (v := 5) (dq dkX8_put_0 2 rfl) ki_5 ?_
  refine v_callSN 3 F (kc1 := 0) (ks1 := 0) (as := [.int a1, .int 0, .int 5]) (st := []) (st1 := (.int (b2i (f_X10_within a1 0 5)) :: [])) (res := (some (.int (b2i (f_X10_within a1 0 5))))) (c_X10_within (l := C.2.1) a1 0 5) (List.mem_of_getElem? (i := 6) rfl) (tc8 _ (List.mem_of_getElem? (i := 15) rfl)) (tc1 _ (List.mem_of_getElem? (i := 2) rfl)) (tc8 _ (List.mem_of_getElem? (i := 16) rfl)) (by decide) rfl ⟨rfl, rfl, Nat.le_of_ble_eq_true rfl, Nat.le_of_ble_eq_true rfl⟩ ⟨Nat.le_of_ble_eq_true rfl, Nat.le_of_ble_eq_true rfl⟩ rfl (Nat.le_of_ble_eq_true rfl) rfl rfl rfl (dq dkX8_put_0 3 rfl) ?_
  refine v_if_eq F (tgt := 25) (dq dkX8_put_0 4 rfl) (by decide) (fun c2 => ?_) (fun c2 => ?_)
  · rw [if_pos c2] at h
    have h := Option.some.inj h
    subst h
    exact v_vret F E (dq dkX8_put_0 15 rfl)
  · rw [if_neg c2] at h
    refine v_iload_n F (dq dkX8_put_0 5 rfl) rfl 2 rfl ?_
    refine v_callSN 1 F (kc1 := 0) (ks1 := 0) (as := [.int a2]) (st := []) (st1 := (.int (b2i (f_X10_isSection a2)) :: [])) (res := (some (.int (b2i (f_X10_isSection a2))))) (c_X10_isSection (l := C.2.1) a2) (List.mem_of_getElem? (i := 7) rfl) (tc14 _ (List.mem_of_getElem? (i := 1) rfl)) (tc1 _ (List.mem_of_getElem? (i := 2) rfl)) (tc14 _ (List.mem_of_getElem? (i := 2) rfl)) (by decide) rfl ⟨rfl, rfl, Nat.le_of_ble_eq_true rfl, Nat.le_of_ble_eq_true rfl⟩ ⟨Nat.le_of_ble_eq_true rfl, Nat.le_of_ble_eq_true rfl⟩ rfl (Nat.le_of_ble_eq_true rfl) rfl rfl rfl (dq dkX8_put_0 6 rfl) ?_
    refine v_if_eq F (tgt := 25) (dq dkX8_put_0 7 rfl) (by decide) (fun c4 => ?_) (fun c4 => ?_)
    · rw [if_pos c4] at h
      have h := Option.some.inj h
      subst h
      exact v_vret F E (dq dkX8_put_0 15 rfl)
    · rw [if_neg c4] at h
      refine v_aload_n F (dq dkX8_put_0 8 rfl) rfl 0 rfl ?_
      obtain ⟨g5, h⟩ := gd_of h
      refine v_get F t0 (kWd_lt g5) (kWd_at g5) rfl inlX8 0 (by decide) (tc3 _ (List.mem_of_getElem? (i := 4) rfl)) rfl rfl (dq dkX8_put_0 9 rfl) ?_
      refine v_iload_n F (dq dkX8_put_0 10 rfl) rfl 1 rfl ?_
      obtain ⟨g7, h⟩ := gd_of h
      obtain ⟨g6, h⟩ := gd_of h
      refine v_aald F (t0 + 1) (kWd_lt1 g7) (kWd_rw g7) (t := 2) rfl rfl (ib_in g6) (dq dkX8_put_0 11 rfl) ?_
      refine v_iload_n F (dq dkX8_put_0 12 rfl) rfl 2 rfl ?_
      refine v_iload_n F (dq dkX8_put_0 13 rfl) rfl 3 rfl ?_
      obtain ⟨g8, h⟩ := gd_of h
      refine v_iast F (t0 + 2 + a1.toNatClampNeg) (xa_lt g8) (xa_at g8) (ib_in g8) (dq dkX8_put_0 14 rfl) ?_
      refine v_eqM (xwC (q := (t0 + 2 + a1.toNatClampNeg)) (j := a2.toNatClampNeg) (v := a3) (xa_lc g8) (xa_e g8)) ?_
      have h := Option.some.inj h
      subst h
      exact v_vret F E (dq dkX8_put_0 15 rfl)
theorem f_X8_put_k {R : CS} {x : CS} {t0 : Nat} {a1 : Int32} {a2 : Int32} {a3 : Int32} (h : f_X8_put x t0 a1 a2 a3 = some R) : kWd t0 = true := by
  unfold f_X8_put at h
  exact (gd_of h).1
def rm_X8_takesSetting : Room := { frames := 2, cells := 0, slots := 0, locals := 52 }
def f_X8_takesSetting_30 (t0 : Nat) (x : CS) : Option (Bool) := some false
set_option maxRecDepth 100000 in
set_option maxHeartbeats 4000000 in
theorem t_X8_takesSetting_30 {C : Cx} {K : KE} {y : MS} {R : Bool}  (t0 : Nat) (x : CS) (h : f_X8_takesSetting_30 t0 x = some R) (F : Fx C RX8 cX8_takesSetting 3 rm_X8_takesSetting K) (E : CE C (xf K x y) (some (.int (b2i R))) 0 0 (some .boolean)) : V C 30 [] [] (xf K x y) 0 0 := by
  unfold f_X8_takesSetting_30 at h
  refine v_iconst F (v := 0) (dq dkX8_takesSetting_0 16 rfl) ki_0 ?_
  have h := Option.some.inj h
  subst h
  exact v_zret F E (b2i_n false) (dq dkX8_takesSetting_0 17 rfl)
def f_X8_takesSetting (x : CS) (t0 : Nat) (a1 : Int32) (a2 : Int32) : Option (Bool) := gd (kWd t0) (if (b2i (f_X10_within a1 0 4)) = 0 then (f_X8_takesSetting_30 t0 x) else (gd (ib a1 5) (gd (ib a1 5) (if (b2i (f_X10_within a2 (sa 4 a1.toNatClampNeg) (sa 5 a1.toNatClampNeg))) = 0 then (f_X8_takesSetting_30 t0 x) else (some true)))))
set_option maxRecDepth 100000 in
set_option maxHeartbeats 4000000 in
theorem c_X8_takesSetting {K : KE} {l : Launch} {R : Bool} (x : CS) (y : MS) (t0 : Nat) (a1 : Int32) (a2 : Int32) (h : f_X8_takesSetting x t0 a1 a2 = some R) : MC K l yX8_takesSetting cX8_takesSetting 3 (some .boolean) rm_X8_takesSetting 0 0 [.ref (K.1 + t0), .int a1, .int a2] (xf K x y) (xf K x y) (some (.int (b2i R))) := by
  unfold f_X8_takesSetting at h
  obtain ⟨_, h⟩ := gd_of h
  refine mc_of (ls0 := [(0, .ref (K.1 + t0)), (1, .int a1), (2, .int a2)]) (by decide) (Nat.le_of_ble_eq_true rfl) rfl (fun C hl hnm F E => ?_)
  have F : Fx C RX8 cX8_takesSetting 3 rm_X8_takesSetting K := F
  refine v_iload_n F (dq dkX8_takesSetting_0 0 rfl) rfl 1 rfl ?_
  refine v_iconst F (v := 0) (dq dkX8_takesSetting_0 1 rfl) ki_0 ?_
  refine v_iconst F (v := 4) (dq dkX8_takesSetting_0 2 rfl) ki_4 ?_
  refine v_callSN 3 F (kc1 := 0) (ks1 := 0) (as := [.int a1, .int 0, .int 4]) (st := []) (st1 := (.int (b2i (f_X10_within a1 0 4)) :: [])) (res := (some (.int (b2i (f_X10_within a1 0 4))))) (c_X10_within (l := C.2.1) a1 0 4) (List.mem_of_getElem? (i := 6) rfl) (tc8 _ (List.mem_of_getElem? (i := 15) rfl)) (tc1 _ (List.mem_of_getElem? (i := 2) rfl)) (tc8 _ (List.mem_of_getElem? (i := 16) rfl)) (by decide) rfl ⟨rfl, rfl, Nat.le_of_ble_eq_true rfl, Nat.le_of_ble_eq_true rfl⟩ ⟨Nat.le_of_ble_eq_true rfl, Nat.le_of_ble_eq_true rfl⟩ rfl (Nat.le_of_ble_eq_true rfl) rfl rfl rfl (dq dkX8_takesSetting_0 3 rfl) ?_
  refine v_if_eq F (tgt := 30) (dq dkX8_takesSetting_0 4 rfl) (by decide) (fun c2 => ?_) (fun c2 => ?_)
  · rw [if_pos c2] at h
    refine v_sub [] rfl ?_
    exact t_X8_takesSetting_30 t0 x h F E
  · rw [if_neg c2] at h
    refine v_iload_n F (dq dkX8_takesSetting_0 5 rfl) rfl 2 rfl ?_
    refine v_gets 4 F rfl (tc15 _ (List.mem_of_getElem? (i := 20) rfl)) (dq dkX8_takesSetting_0 6 rfl) ?_
    refine v_iload_n F (dq dkX8_takesSetting_0 7 rfl) rfl 1 rfl ?_
    obtain ⟨g3, h⟩ := gd_of h
    refine v_ti 4 F rfl (ib_in g3) (dq dkX8_takesSetting_0 8 rfl) ?_
    refine v_gets 5 F rfl (tc15 _ (List.mem_of_getElem? (i := 21) rfl)) (dq dkX8_takesSetting_0 9 rfl) ?_
    refine v_iload_n F (dq dkX8_takesSetting_0 10 rfl) rfl 1 rfl ?_
    obtain ⟨g4, h⟩ := gd_of h
    refine v_ti 5 F rfl (ib_in g4) (dq dkX8_takesSetting_0 11 rfl) ?_
    refine v_callSN 3 F (kc1 := 0) (ks1 := 0) (as := [.int a2, .int (sa 4 a1.toNatClampNeg), .int (sa 5 a1.toNatClampNeg)]) (st := []) (st1 := (.int (b2i (f_X10_within a2 (sa 4 a1.toNatClampNeg) (sa 5 a1.toNatClampNeg))) :: [])) (res := (some (.int (b2i (f_X10_within a2 (sa 4 a1.toNatClampNeg) (sa 5 a1.toNatClampNeg)))))) (c_X10_within (l := C.2.1) a2 (sa 4 a1.toNatClampNeg) (sa 5 a1.toNatClampNeg)) (List.mem_of_getElem? (i := 6) rfl) (tc8 _ (List.mem_of_getElem? (i := 15) rfl)) (tc1 _ (List.mem_of_getElem? (i := 2) rfl)) (tc8 _ (List.mem_of_getElem? (i := 16) rfl)) (by decide) rfl ⟨rfl, rfl, Nat.le_of_ble_eq_true rfl, Nat.le_of_ble_eq_true rfl⟩ ⟨Nat.le_of_ble_eq_true rfl, Nat.le_of_ble_eq_true rfl⟩ rfl (Nat.le_of_ble_eq_true rfl) rfl rfl rfl (dq dkX8_takesSetting_0 12 rfl) ?_
    refine v_if_eq F (tgt := 30) (dq dkX8_takesSetting_0 13 rfl) (by decide) (fun c6 => ?_) (fun c6 => ?_)
    · rw [if_pos c6] at h
      refine v_sub [] rfl ?_
      exact t_X8_takesSetting_30 t0 x h F E
    · rw [if_neg c6] at h
      refine v_iconst F (v := 1) (dq dkX8_takesSetting_0 14 rfl) ki_1 ?_
      refine v_goto F (tgt := 31) (dq dkX8_takesSetting_0 15 rfl) (by decide) ?_
      have h := Option.some.inj h
      subst h
      exact v_zret F E (b2i_n true) (dq dkX8_takesSetting_0 17 rfl)
theorem f_X8_takesSetting_k {R : Bool} {x : CS} {t0 : Nat} {a1 : Int32} {a2 : Int32} (h : f_X8_takesSetting x t0 a1 a2 = some R) : kWd t0 = true := by
  unfold f_X8_takesSetting at h
  exact (gd_of h).1
def rm_X8_putSetting : Room := { frames := 2, cells := 0, slots := 0, locals := 52 }
def f_X8_putSetting (x : CS) (t0 : Nat) (a1 : Int32) (a2 : Int32) : Option (CS) := gd (kWd t0) (if (b2i (f_X10_within a1 0 4)) = 0 then (some x) else (gd (kWd t0) (gd (ib a1 (al (t0 + 8))) (some (pi x (t0 + 8) a1.toNatClampNeg a2)))))
set_option maxRecDepth 100000 in
set_option maxHeartbeats 4000000 in
theorem c_X8_putSetting {K : KE} {l : Launch} {R : CS} (x : CS) (y : MS) (t0 : Nat) (a1 : Int32) (a2 : Int32) (h : f_X8_putSetting x t0 a1 a2 = some R) : MC K l yX8_putSetting cX8_putSetting 3 none rm_X8_putSetting 0 0 [.ref (K.1 + t0), .int a1, .int a2] (xf K x y) (xf K R y) none := by
  unfold f_X8_putSetting at h
  obtain ⟨_, h⟩ := gd_of h
  refine mc_of (ls0 := [(0, .ref (K.1 + t0)), (1, .int a1), (2, .int a2)]) (by decide) (Nat.le_of_ble_eq_true rfl) rfl (fun C hl hnm F E => ?_)
  have F : Fx C RX8 cX8_putSetting 3 rm_X8_putSetting K := F
  refine v_iload_n F (dq dkX8_putSetting_0 0 rfl) rfl 1 rfl ?_
  refine v_iconst F (v := 0) (dq dkX8_putSetting_0 1 rfl) ki_0 ?_
  refine v_iconst F (v := 4) (dq dkX8_putSetting_0 2 rfl) ki_4 ?_
  refine v_callSN 3 F (kc1 := 0) (ks1 := 0) (as := [.int a1, .int 0, .int 4]) (st := []) (st1 := (.int (b2i (f_X10_within a1 0 4)) :: [])) (res := (some (.int (b2i (f_X10_within a1 0 4))))) (c_X10_within (l := C.2.1) a1 0 4) (List.mem_of_getElem? (i := 6) rfl) (tc8 _ (List.mem_of_getElem? (i := 15) rfl)) (tc1 _ (List.mem_of_getElem? (i := 2) rfl)) (tc8 _ (List.mem_of_getElem? (i := 16) rfl)) (by decide) rfl ⟨rfl, rfl, Nat.le_of_ble_eq_true rfl, Nat.le_of_ble_eq_true rfl⟩ ⟨Nat.le_of_ble_eq_true rfl, Nat.le_of_ble_eq_true rfl⟩ rfl (Nat.le_of_ble_eq_true rfl) rfl rfl rfl (dq dkX8_putSetting_0 3 rfl) ?_
  refine v_if_eq F (tgt := 16) (dq dkX8_putSetting_0 4 rfl) (by decide) (fun c2 => ?_) (fun c2 => ?_)
  · rw [if_pos c2] at h
    have h := Option.some.inj h
    subst h
    exact v_vret F E (dq dkX8_putSetting_0 10 rfl)
  · rw [if_neg c2] at h
    refine v_aload_n F (dq dkX8_putSetting_0 5 rfl) rfl 0 rfl ?_
    obtain ⟨g3, h⟩ := gd_of h
    refine v_get F t0 (kWd_lt g3) (kWd_at g3) rfl inlX8 1 (by decide) (tc3 _ (List.mem_of_getElem? (i := 5) rfl)) rfl rfl (dq dkX8_putSetting_0 6 rfl) ?_
    refine v_iload_n F (dq dkX8_putSetting_0 7 rfl) rfl 1 rfl ?_
    refine v_iload_n F (dq dkX8_putSetting_0 8 rfl) rfl 2 rfl ?_
    obtain ⟨g4, h⟩ := gd_of h
    refine v_iast F (t0 + 8) (xa_lt g4) (xa_at g4) (ib_in g4) (dq dkX8_putSetting_0 9 rfl) ?_
    refine v_eqM (xwC (q := (t0 + 8)) (j := a1.toNatClampNeg) (v := a2) (xa_lc g4) (xa_e g4)) ?_
    have h := Option.some.inj h
    subst h
    exact v_vret F E (dq dkX8_putSetting_0 10 rfl)
theorem f_X8_putSetting_k {R : CS} {x : CS} {t0 : Nat} {a1 : Int32} {a2 : Int32} (h : f_X8_putSetting x t0 a1 a2 = some R) : kWd t0 = true := by
  unfold f_X8_putSetting at h
  exact (gd_of h).1
def rm_X8_become : Room := { frames := 1, cells := 0, slots := 0, locals := 30 }
def f_X8_become_45 (t0 : Nat) : Nat → CS → Nat → Int32 → Option (CS)
  | 0, _, _, _ => none
  | n + 1, x, a1, a2 => if 4 < a2 then (gd (kWd a1) (gd (kWd t0) (some (pi x t0 2 (gi x a1 2))))) else (gd (kWd t0) (gd (kWd a1) (gd (ib a2 (al (a1 + 8))) (gd (ib a2 (al (t0 + 8))) ((f_X8_become_45 t0 n) (pi x (t0 + 8) a2.toNatClampNeg (gi x (a1 + 8) a2.toNatClampNeg)) a1 (a2 + 1))))))
set_option maxRecDepth 100000 in
set_option maxHeartbeats 4000000 in
theorem t_X8_become_45 {C : Cx} {K : KE} {y : MS} {R : CS}  (t0 : Nat) (F : Fx C RX8 cX8_become 4 rm_X8_become K) (E : CE C (xf K R y) none 0 0 none) : ∀ (n : Nat) (x : CS) (a1 : Nat) (a2 : Int32) (h : f_X8_become_45 t0 n x a1 a2 = some R), V C 45 [(0, .ref (K.1 + t0)), (1, .ref (K.1 + a1)), (2, .int a2)] [] (xf K x y) 0 0 := by
  intro n
  induction n with
  | zero => intro x a1 a2 h; cases h
  | succ n ih =>
    intro x a1 a2 h
    rw [f_X8_become_45] at h
    refine v_iload_n F (dq dkX8_become_0 28 rfl) rfl 2 rfl ?_
    refine v_iconst F (v := 4) (dq dkX8_become_0 29 rfl) ki_4 ?_
    refine v_icmp_gt F (tgt := 68) (dq dkX8_become_0 30 rfl) (by decide) (fun c1 => ?_) (fun c1 => ?_)
    · rw [if_pos c1] at h
      refine v_aload_n F (dq dkX8_become_1 1 rfl) rfl 0 rfl ?_
      refine v_aload_n F (dq dkX8_become_1 2 rfl) rfl 1 rfl ?_
      obtain ⟨g2, h⟩ := gd_of h
      refine v_get F a1 (kWd_lt g2) (kWd_at g2) rfl inlX8 2 (by decide) (tc3 _ (List.mem_of_getElem? (i := 6) rfl)) rfl rfl (dq dkX8_become_1 3 rfl) ?_
      obtain ⟨g3, h⟩ := gd_of h
      refine v_put F t0 (kWd_lt g3) (kWd_at g3) rfl inlX8 tyX8_ok nmX8 2 (by decide) (tc3 _ (List.mem_of_getElem? (i := 6) rfl)) rfl rfl (tyX8_ok 2 (by decide)) rfl rfl (Nat.le_of_ble_eq_true rfl) (dq dkX8_become_1 4 rfl) ?_
      refine v_eqM (kWd_w2 g3) ?_
      have h := Option.some.inj h
      subst h
      exact v_vret F E (dq dkX8_become_1 5 rfl)
    · rw [if_neg c1] at h
      refine v_aload_n F (dq dkX8_become_0 31 rfl) rfl 0 rfl ?_
      obtain ⟨g4, h⟩ := gd_of h
      refine v_get F t0 (kWd_lt g4) (kWd_at g4) rfl inlX8 1 (by decide) (tc3 _ (List.mem_of_getElem? (i := 5) rfl)) rfl rfl (dq dkX8_become_0 32 rfl) ?_
      refine v_iload_n F (dq dkX8_become_0 33 rfl) rfl 2 rfl ?_
      refine v_aload_n F (dq dkX8_become_0 34 rfl) rfl 1 rfl ?_
      obtain ⟨g5, h⟩ := gd_of h
      refine v_get F a1 (kWd_lt g5) (kWd_at g5) rfl inlX8 1 (by decide) (tc3 _ (List.mem_of_getElem? (i := 5) rfl)) rfl rfl (dq dkX8_become_0 35 rfl) ?_
      refine v_iload_n F (dq dkX8_become_0 36 rfl) rfl 2 rfl ?_
      obtain ⟨g6, h⟩ := gd_of h
      refine v_iald F (a1 + 8) (xa_lt g6) (xa_at g6) (ib_in g6) (dq dkX8_become_0 37 rfl) ?_
      obtain ⟨g7, h⟩ := gd_of h
      refine v_iast F (t0 + 8) (xa_lt g7) (xa_at g7) (ib_in g7) (dq dkX8_become_0 38 rfl) ?_
      refine v_eqM (xwC (q := (t0 + 8)) (j := a2.toNatClampNeg) (v := gi x (a1 + 8) a2.toNatClampNeg) (xa_lc g7) (xa_e g7)) ?_
      refine v_iinc F (v := a2 + 1) (ls' := [(2, .int (a2 + 1)), (0, .ref (K.1 + t0)), (1, .ref (K.1 + a1))]) (dq dkX8_become_0 39 rfl) (j := 2) rfl (kv_add ki_1) (by decide) rfl ?_
      refine v_goto F (tgt := 45) (dq dkX8_become_1 0 rfl) (by decide) ?_
      refine v_sub [1, 2, 0] rfl ?_
      exact ih (pi x (t0 + 8) a2.toNatClampNeg (gi x (a1 + 8) a2.toNatClampNeg)) a1 (a2 + 1) h
def f_X8_become_9 (k2 : CS → Nat → Int32 → Option (CS)) (t0 : Nat) : Nat → CS → Nat → Int32 → Int32 → Option (CS)
  | 0, _, _, _, _ => none
  | n + 1, x, a1, a2, a3 => if 9 ≤ a3 then (k2 x a1 (a2 + 1)) else (gd (kWd t0) (gd (kWd t0) (gd (ib a2 6) (gd (kWd a1) (gd (kWd a1) (gd (ib a2 6) (gd (ib a3 (al (a1 + 2 + a2.toNatClampNeg))) (gd (ib a3 (al (t0 + 2 + a2.toNatClampNeg))) ((f_X8_become_9 k2 t0 n) (pi x (t0 + 2 + a2.toNatClampNeg) a3.toNatClampNeg (gi x (a1 + 2 + a2.toNatClampNeg) a3.toNatClampNeg)) a1 a2 (a3 + 1))))))))))
set_option maxRecDepth 100000 in
set_option maxHeartbeats 4000000 in
theorem t_X8_become_9 {C : Cx} {K : KE} {y : MS} {R : CS}  (k2 : CS → Nat → Int32 → Option (CS)) (t0 : Nat) (hk2 : ∀ (x : CS) (a1 : Nat) (a2 : Int32), k2 x a1 a2 = some R → V C 2 [(0, .ref (K.1 + t0)), (1, .ref (K.1 + a1)), (2, .int a2)] [] (xf K x y) 0 0) (F : Fx C RX8 cX8_become 4 rm_X8_become K) (E : CE C (xf K R y) none 0 0 none) : ∀ (n : Nat) (x : CS) (a1 : Nat) (a2 : Int32) (a3 : Int32) (h : f_X8_become_9 k2 t0 n x a1 a2 a3 = some R), V C 9 [(0, .ref (K.1 + t0)), (1, .ref (K.1 + a1)), (2, .int a2), (3, .int a3)] [] (xf K x y) 0 0 := by
  intro n
  induction n with
  | zero => intro x a1 a2 a3 h; cases h
  | succ n ih =>
    intro x a1 a2 a3 h
    rw [f_X8_become_9] at h
    refine v_iload_n F (dq dkX8_become_0 7 rfl) rfl 3 rfl ?_
    refine v_bipush F (v := 9) (dq dkX8_become_0 8 rfl) kb_9 ?_
    refine v_icmp_ge F (tgt := 37) (dq dkX8_become_0 9 rfl) (by decide) (fun c8 => ?_) (fun c8 => ?_)
    · rw [if_pos c8] at h
      refine v_iinc F (v := a2 + 1) (ls' := [(2, .int (a2 + 1)), (0, .ref (K.1 + t0)), (1, .ref (K.1 + a1)), (3, .int a3)]) (dq dkX8_become_0 24 rfl) (j := 2) rfl (kv_add ki_1) (by decide) rfl ?_
      refine v_goto F (tgt := 2) (dq dkX8_become_0 25 rfl) (by decide) ?_
      refine v_sub [1, 2, 0] rfl ?_
      exact hk2 x a1 (a2 + 1) h
    · rw [if_neg c8] at h
      refine v_aload_n F (dq dkX8_become_0 10 rfl) rfl 0 rfl ?_
      obtain ⟨g9, h⟩ := gd_of h
      refine v_get F t0 (kWd_lt g9) (kWd_at g9) rfl inlX8 0 (by decide) (tc3 _ (List.mem_of_getElem? (i := 4) rfl)) rfl rfl (dq dkX8_become_0 11 rfl) ?_
      refine v_iload_n F (dq dkX8_become_0 12 rfl) rfl 2 rfl ?_
      obtain ⟨g11, h⟩ := gd_of h
      obtain ⟨g10, h⟩ := gd_of h
      refine v_aald F (t0 + 1) (kWd_lt1 g11) (kWd_rw g11) (t := 2) rfl rfl (ib_in g10) (dq dkX8_become_0 13 rfl) ?_
      refine v_iload_n F (dq dkX8_become_0 14 rfl) rfl 3 rfl ?_
      refine v_aload_n F (dq dkX8_become_0 15 rfl) rfl 1 rfl ?_
      obtain ⟨g12, h⟩ := gd_of h
      refine v_get F a1 (kWd_lt g12) (kWd_at g12) rfl inlX8 0 (by decide) (tc3 _ (List.mem_of_getElem? (i := 4) rfl)) rfl rfl (dq dkX8_become_0 16 rfl) ?_
      refine v_iload_n F (dq dkX8_become_0 17 rfl) rfl 2 rfl ?_
      obtain ⟨g14, h⟩ := gd_of h
      obtain ⟨g13, h⟩ := gd_of h
      refine v_aald F (a1 + 1) (kWd_lt1 g14) (kWd_rw g14) (t := 2) rfl rfl (ib_in g13) (dq dkX8_become_0 18 rfl) ?_
      refine v_iload_n F (dq dkX8_become_0 19 rfl) rfl 3 rfl ?_
      obtain ⟨g15, h⟩ := gd_of h
      refine v_iald F (a1 + 2 + a2.toNatClampNeg) (xa_lt g15) (xa_at g15) (ib_in g15) (dq dkX8_become_0 20 rfl) ?_
      obtain ⟨g16, h⟩ := gd_of h
      refine v_iast F (t0 + 2 + a2.toNatClampNeg) (xa_lt g16) (xa_at g16) (ib_in g16) (dq dkX8_become_0 21 rfl) ?_
      refine v_eqM (xwC (q := (t0 + 2 + a2.toNatClampNeg)) (j := a3.toNatClampNeg) (v := gi x (a1 + 2 + a2.toNatClampNeg) a3.toNatClampNeg) (xa_lc g16) (xa_e g16)) ?_
      refine v_iinc F (v := a3 + 1) (ls' := [(3, .int (a3 + 1)), (0, .ref (K.1 + t0)), (1, .ref (K.1 + a1)), (2, .int a2)]) (dq dkX8_become_0 22 rfl) (j := 3) rfl (kv_add ki_1) (by decide) rfl ?_
      refine v_goto F (tgt := 9) (dq dkX8_become_0 23 rfl) (by decide) ?_
      refine v_sub [1, 2, 3, 0] rfl ?_
      exact ih (pi x (t0 + 2 + a2.toNatClampNeg) a3.toNatClampNeg (gi x (a1 + 2 + a2.toNatClampNeg) a3.toNatClampNeg)) a1 a2 (a3 + 1) h
def f_X8_become_2 (t0 : Nat) : Nat → CS → Nat → Int32 → Option (CS)
  | 0, _, _, _ => none
  | n + 1, x, a1, a2 => if 5 < a2 then (f_X8_become_45 t0 1000 x a1 0) else (f_X8_become_9 (f_X8_become_2 t0 n) t0 1000 x a1 a2 0)
set_option maxRecDepth 100000 in
set_option maxHeartbeats 4000000 in
theorem t_X8_become_2 {C : Cx} {K : KE} {y : MS} {R : CS}  (t0 : Nat) (F : Fx C RX8 cX8_become 4 rm_X8_become K) (E : CE C (xf K R y) none 0 0 none) : ∀ (n : Nat) (x : CS) (a1 : Nat) (a2 : Int32) (h : f_X8_become_2 t0 n x a1 a2 = some R), V C 2 [(0, .ref (K.1 + t0)), (1, .ref (K.1 + a1)), (2, .int a2)] [] (xf K x y) 0 0 := by
  intro n
  induction n with
  | zero => intro x a1 a2 h; cases h
  | succ n ih =>
    intro x a1 a2 h
    rw [f_X8_become_2] at h
    refine v_iload_n F (dq dkX8_become_0 2 rfl) rfl 2 rfl ?_
    refine v_iconst F (v := 5) (dq dkX8_become_0 3 rfl) ki_5 ?_
    refine v_icmp_gt F (tgt := 43) (dq dkX8_become_0 4 rfl) (by decide) (fun c17 => ?_) (fun c17 => ?_)
    · rw [if_pos c17] at h
      refine v_iconst F (v := 0) (dq dkX8_become_0 26 rfl) ki_0 ?_
      refine v_istore_n F (ls' := [(2, .int 0), (0, .ref (K.1 + t0)), (1, .ref (K.1 + a1))]) (dq dkX8_become_0 27 rfl) rfl (by decide) rfl ?_
      refine v_sub [1, 2, 0] rfl ?_
      exact t_X8_become_45 t0 F E 1000 x a1 0 h
    · rw [if_neg c17] at h
      refine v_iconst F (v := 0) (dq dkX8_become_0 5 rfl) ki_0 ?_
      refine v_istore_n F (ls' := [(3, .int 0), (0, .ref (K.1 + t0)), (1, .ref (K.1 + a1)), (2, .int a2)]) (dq dkX8_become_0 6 rfl) rfl (by decide) rfl ?_
      refine v_sub [1, 2, 3, 0] rfl ?_
      exact t_X8_become_9 (f_X8_become_2 t0 n) t0 ih F E 1000 x a1 a2 0 h
def f_X8_become (x : CS) (t0 : Nat) (a1 : Nat) : Option (CS) := gd (kWd t0) (gd (kWd a1) (f_X8_become_2 t0 1000 x a1 0))
set_option maxRecDepth 100000 in
set_option maxHeartbeats 4000000 in
theorem c_X8_become {K : KE} {l : Launch} {R : CS} (x : CS) (y : MS) (t0 : Nat) (a1 : Nat) (h : f_X8_become x t0 a1 = some R) : MC K l yX8_become cX8_become 4 none rm_X8_become 0 0 [.ref (K.1 + t0), .ref (K.1 + a1)] (xf K x y) (xf K R y) none := by
  unfold f_X8_become at h
  obtain ⟨_, h⟩ := gd_of h
  obtain ⟨_, h⟩ := gd_of h
  refine mc_of (ls0 := [(0, .ref (K.1 + t0)), (1, .ref (K.1 + a1))]) (by decide) (Nat.le_of_ble_eq_true rfl) rfl (fun C hl hnm F E => ?_)
  have F : Fx C RX8 cX8_become 4 rm_X8_become K := F
  refine v_iconst F (v := 0) (dq dkX8_become_0 0 rfl) ki_0 ?_
  refine v_istore_n F (ls' := [(2, .int 0), (0, .ref (K.1 + t0)), (1, .ref (K.1 + a1))]) (dq dkX8_become_0 1 rfl) rfl (by decide) rfl ?_
  refine v_sub [1, 2, 0] rfl ?_
  exact t_X8_become_2 t0 F E 1000 x a1 0 h
theorem f_X8_become_k {R : CS} {x : CS} {t0 : Nat} {a1 : Nat} (h : f_X8_become x t0 a1 = some R) : kWd t0 = true := by
  unfold f_X8_become at h
  exact (gd_of h).1
def rm_X9_has : Room := { frames := 1, cells := 0, slots := 0, locals := 30 }
def f_X9_has_22 (x : CS) : Bool := false
set_option maxRecDepth 100000 in
set_option maxHeartbeats 4000000 in
theorem t_X9_has_22 {C : Cx} {K : KE} {y : MS} {R : Bool}  (x : CS) (h : f_X9_has_22 x = R) (F : Fx C RX9 cX9_has 2 rm_X9_has K) (E : CE C (xf K x y) (some (.int (b2i R))) 0 0 (some .boolean)) : V C 22 [] [] (xf K x y) 0 0 := by
  unfold f_X9_has_22 at h
  refine v_iconst F (v := 0) (dq dkX9_has_0 11 rfl) ki_0 ?_
  subst h
  exact v_zret F E (b2i_n false) (dq dkX9_has_0 12 rfl)
def f_X9_has (x : CS) (a1 : Int32) : Bool := if a1 < 0 then (f_X9_has_22 x) else (if (gi x 30 3) ≤ a1 then (f_X9_has_22 x) else (if 10 ≤ a1 then (f_X9_has_22 x) else true))
set_option maxRecDepth 100000 in
set_option maxHeartbeats 4000000 in
theorem c_X9_has {K : KE} {l : Launch} (x : CS) (y : MS) (a1 : Int32) : MC K l yX9_has cX9_has 2 (some .boolean) rm_X9_has 0 0 [.ref (K.1 + 30), .int a1] (xf K x y) (xf K x y) (some (.int (b2i (f_X9_has x a1)))) := by
  obtain ⟨R, h⟩ : ∃ R, f_X9_has x a1 = R := ⟨_, rfl⟩
  rw [h]
  unfold f_X9_has at h
  refine mc_of (ls0 := [(0, .ref (K.1 + 30)), (1, .int a1)]) (by decide) (Nat.le_of_ble_eq_true rfl) rfl (fun C hl hnm F E => ?_)
  have F : Fx C RX9 cX9_has 2 rm_X9_has K := F
  refine v_iload_n F (dq dkX9_has_0 0 rfl) rfl 1 rfl ?_
  refine v_if_lt F (tgt := 22) (dq dkX9_has_0 1 rfl) (by decide) (fun c1 => ?_) (fun c1 => ?_)
  · rw [if_pos c1] at h
    refine v_sub [] rfl ?_
    exact t_X9_has_22 x h F E
  · rw [if_neg c1] at h
    refine v_iload_n F (dq dkX9_has_0 2 rfl) rfl 1 rfl ?_
    refine v_aload_n F (dq dkX9_has_0 3 rfl) rfl 0 rfl ?_
    refine v_get F 30 (xn (by decide)) xc_30 rfl inlX9 3 (by decide) (tc4 _ (List.mem_of_getElem? (i := 13) rfl)) rfl rfl (dq dkX9_has_0 4 rfl) ?_
    refine v_icmp_ge F (tgt := 22) (dq dkX9_has_0 5 rfl) (by decide) (fun c2 => ?_) (fun c2 => ?_)
    · rw [if_pos c2] at h
      refine v_sub [] rfl ?_
      exact t_X9_has_22 x h F E
    · rw [if_neg c2] at h
      refine v_iload_n F (dq dkX9_has_0 6 rfl) rfl 1 rfl ?_
      refine v_bipush F (v := 10) (dq dkX9_has_0 7 rfl) kb_10 ?_
      refine v_icmp_ge F (tgt := 22) (dq dkX9_has_0 8 rfl) (by decide) (fun c3 => ?_) (fun c3 => ?_)
      · rw [if_pos c3] at h
        refine v_sub [] rfl ?_
        exact t_X9_has_22 x h F E
      · rw [if_neg c3] at h
        refine v_iconst F (v := 1) (dq dkX9_has_0 9 rfl) ki_1 ?_
        refine v_goto F (tgt := 23) (dq dkX9_has_0 10 rfl) (by decide) ?_
        subst h
        exact v_zret F E (b2i_n true) (dq dkX9_has_0 12 rfl)
def rm_X9_kind : Room := { frames := 2, cells := 0, slots := 0, locals := 51 }
def f_X9_kind (x : CS) (a1 : Int32) : Option (Int32) := if (b2i (f_X9_has x a1)) = 0 then (some 0) else (gd (ib a1 10) (some (gi x 31 a1.toNatClampNeg)))
set_option maxRecDepth 100000 in
set_option maxHeartbeats 4000000 in
theorem c_X9_kind {K : KE} {l : Launch} {R : Int32} (x : CS) (y : MS) (a1 : Int32) (h : f_X9_kind x a1 = some R) : MC K l yX9_kind cX9_kind 2 (some .int) rm_X9_kind 0 0 [.ref (K.1 + 30), .int a1] (xf K x y) (xf K x y) (some (.int R)) := by
  unfold f_X9_kind at h
  refine mc_of (ls0 := [(0, .ref (K.1 + 30)), (1, .int a1)]) (by decide) (Nat.le_of_ble_eq_true rfl) rfl (fun C hl hnm F E => ?_)
  have F : Fx C RX9 cX9_kind 2 rm_X9_kind K := F
  refine v_aload_n F (dq dkX9_kind_0 0 rfl) rfl 0 rfl ?_
  refine v_iload_n F (dq dkX9_kind_0 1 rfl) rfl 1 rfl ?_
  refine v_callV 1 F (q := 30) (kc1 := 0) (ks1 := 0) (as := [.int a1]) (st := []) (st1 := (.int (b2i (f_X9_has x a1)) :: [])) (res := (some (.int (b2i (f_X9_has x a1))))) (c_X9_has (l := C.2.1) x y a1) (xn (by decide)) xc_30 rfl (tc23 _ (List.mem_of_getElem? (i := 12) rfl)) (tc23 _ (List.mem_of_getElem? (i := 5) rfl)) (tc23 _ (List.mem_of_getElem? (i := 6) rfl)) (tc2 _ (List.mem_of_getElem? (i := 3) rfl)) (tc23 _ (List.mem_of_getElem? (i := 7) rfl)) (by decide) rfl ⟨rfl, rfl, Nat.le_of_ble_eq_true rfl, Nat.le_of_ble_eq_true rfl⟩ ⟨Nat.le_of_ble_eq_true rfl, Nat.le_of_ble_eq_true rfl⟩ rfl (Nat.le_of_ble_eq_true rfl) rfl rfl rfl (dq dkX9_kind_0 2 rfl) ?_
  refine v_if_eq F (tgt := 17) (dq dkX9_kind_0 3 rfl) (by decide) (fun c2 => ?_) (fun c2 => ?_)
  · rw [if_pos c2] at h
    refine v_iconst F (v := 0) (dq dkX9_kind_0 9 rfl) ki_0 ?_
    have h := Option.some.inj h
    subst h
    exact v_iret F E (dq dkX9_kind_0 10 rfl)
  · rw [if_neg c2] at h
    refine v_aload_n F (dq dkX9_kind_0 4 rfl) rfl 0 rfl ?_
    refine v_get F 30 (xn (by decide)) xc_30 rfl inlX9 0 (by decide) (tc4 _ (List.mem_of_getElem? (i := 10) rfl)) rfl rfl (dq dkX9_kind_0 5 rfl) ?_
    refine v_iload_n F (dq dkX9_kind_0 6 rfl) rfl 1 rfl ?_
    obtain ⟨g3, h⟩ := gd_of h
    refine v_iald F 31 (xn (by decide)) xc_31 (ib_in g3) (dq dkX9_kind_0 7 rfl) ?_
    refine v_goto F (tgt := 18) (dq dkX9_kind_0 8 rfl) (by decide) ?_
    have h := Option.some.inj h
    subst h
    exact v_iret F E (dq dkX9_kind_0 10 rfl)
def rm_X9_section : Room := { frames := 2, cells := 0, slots := 0, locals := 51 }
def f_X9_section (x : CS) (a1 : Int32) : Option (Int32) := if (b2i (f_X9_has x a1)) = 0 then (some 0) else (gd (ib a1 10) (some (gi x 32 a1.toNatClampNeg)))
set_option maxRecDepth 100000 in
set_option maxHeartbeats 4000000 in
theorem c_X9_section {K : KE} {l : Launch} {R : Int32} (x : CS) (y : MS) (a1 : Int32) (h : f_X9_section x a1 = some R) : MC K l yX9_section cX9_section 2 (some .int) rm_X9_section 0 0 [.ref (K.1 + 30), .int a1] (xf K x y) (xf K x y) (some (.int R)) := by
  unfold f_X9_section at h
  refine mc_of (ls0 := [(0, .ref (K.1 + 30)), (1, .int a1)]) (by decide) (Nat.le_of_ble_eq_true rfl) rfl (fun C hl hnm F E => ?_)
  have F : Fx C RX9 cX9_section 2 rm_X9_section K := F
  refine v_aload_n F (dq dkX9_section_0 0 rfl) rfl 0 rfl ?_
  refine v_iload_n F (dq dkX9_section_0 1 rfl) rfl 1 rfl ?_
  refine v_callV 1 F (q := 30) (kc1 := 0) (ks1 := 0) (as := [.int a1]) (st := []) (st1 := (.int (b2i (f_X9_has x a1)) :: [])) (res := (some (.int (b2i (f_X9_has x a1))))) (c_X9_has (l := C.2.1) x y a1) (xn (by decide)) xc_30 rfl (tc23 _ (List.mem_of_getElem? (i := 12) rfl)) (tc23 _ (List.mem_of_getElem? (i := 5) rfl)) (tc23 _ (List.mem_of_getElem? (i := 6) rfl)) (tc2 _ (List.mem_of_getElem? (i := 3) rfl)) (tc23 _ (List.mem_of_getElem? (i := 7) rfl)) (by decide) rfl ⟨rfl, rfl, Nat.le_of_ble_eq_true rfl, Nat.le_of_ble_eq_true rfl⟩ ⟨Nat.le_of_ble_eq_true rfl, Nat.le_of_ble_eq_true rfl⟩ rfl (Nat.le_of_ble_eq_true rfl) rfl rfl rfl (dq dkX9_section_0 2 rfl) ?_
  refine v_if_eq F (tgt := 17) (dq dkX9_section_0 3 rfl) (by decide) (fun c2 => ?_) (fun c2 => ?_)
  · rw [if_pos c2] at h
    refine v_iconst F (v := 0) (dq dkX9_section_0 9 rfl) ki_0 ?_
    have h := Option.some.inj h
    subst h
    exact v_iret F E (dq dkX9_section_0 10 rfl)
  · rw [if_neg c2] at h
    refine v_aload_n F (dq dkX9_section_0 4 rfl) rfl 0 rfl ?_
    refine v_get F 30 (xn (by decide)) xc_30 rfl inlX9 1 (by decide) (tc4 _ (List.mem_of_getElem? (i := 11) rfl)) rfl rfl (dq dkX9_section_0 5 rfl) ?_
    refine v_iload_n F (dq dkX9_section_0 6 rfl) rfl 1 rfl ?_
    obtain ⟨g3, h⟩ := gd_of h
    refine v_iald F 32 (xn (by decide)) xc_32 (ib_in g3) (dq dkX9_section_0 7 rfl) ?_
    refine v_goto F (tgt := 18) (dq dkX9_section_0 8 rfl) (by decide) ?_
    have h := Option.some.inj h
    subst h
    exact v_iret F E (dq dkX9_section_0 10 rfl)
def rm_X9_more : Room := { frames := 2, cells := 0, slots := 0, locals := 51 }
def f_X9_more (x : CS) (a1 : Int32) : Option (Int32) := if (b2i (f_X9_has x a1)) = 0 then (some 0) else (gd (ib a1 10) (some (gi x 33 a1.toNatClampNeg)))
set_option maxRecDepth 100000 in
set_option maxHeartbeats 4000000 in
theorem c_X9_more {K : KE} {l : Launch} {R : Int32} (x : CS) (y : MS) (a1 : Int32) (h : f_X9_more x a1 = some R) : MC K l yX9_more cX9_more 2 (some .int) rm_X9_more 0 0 [.ref (K.1 + 30), .int a1] (xf K x y) (xf K x y) (some (.int R)) := by
  unfold f_X9_more at h
  refine mc_of (ls0 := [(0, .ref (K.1 + 30)), (1, .int a1)]) (by decide) (Nat.le_of_ble_eq_true rfl) rfl (fun C hl hnm F E => ?_)
  have F : Fx C RX9 cX9_more 2 rm_X9_more K := F
  refine v_aload_n F (dq dkX9_more_0 0 rfl) rfl 0 rfl ?_
  refine v_iload_n F (dq dkX9_more_0 1 rfl) rfl 1 rfl ?_
  refine v_callV 1 F (q := 30) (kc1 := 0) (ks1 := 0) (as := [.int a1]) (st := []) (st1 := (.int (b2i (f_X9_has x a1)) :: [])) (res := (some (.int (b2i (f_X9_has x a1))))) (c_X9_has (l := C.2.1) x y a1) (xn (by decide)) xc_30 rfl (tc23 _ (List.mem_of_getElem? (i := 12) rfl)) (tc23 _ (List.mem_of_getElem? (i := 5) rfl)) (tc23 _ (List.mem_of_getElem? (i := 6) rfl)) (tc2 _ (List.mem_of_getElem? (i := 3) rfl)) (tc23 _ (List.mem_of_getElem? (i := 7) rfl)) (by decide) rfl ⟨rfl, rfl, Nat.le_of_ble_eq_true rfl, Nat.le_of_ble_eq_true rfl⟩ ⟨Nat.le_of_ble_eq_true rfl, Nat.le_of_ble_eq_true rfl⟩ rfl (Nat.le_of_ble_eq_true rfl) rfl rfl rfl (dq dkX9_more_0 2 rfl) ?_
  refine v_if_eq F (tgt := 17) (dq dkX9_more_0 3 rfl) (by decide) (fun c2 => ?_) (fun c2 => ?_)
  · rw [if_pos c2] at h
    refine v_iconst F (v := 0) (dq dkX9_more_0 9 rfl) ki_0 ?_
    have h := Option.some.inj h
    subst h
    exact v_iret F E (dq dkX9_more_0 10 rfl)
  · rw [if_neg c2] at h
    refine v_aload_n F (dq dkX9_more_0 4 rfl) rfl 0 rfl ?_
    refine v_get F 30 (xn (by decide)) xc_30 rfl inlX9 2 (by decide) (tc4 _ (List.mem_of_getElem? (i := 12) rfl)) rfl rfl (dq dkX9_more_0 5 rfl) ?_
    refine v_iload_n F (dq dkX9_more_0 6 rfl) rfl 1 rfl ?_
    obtain ⟨g3, h⟩ := gd_of h
    refine v_iald F 33 (xn (by decide)) xc_33 (ib_in g3) (dq dkX9_more_0 7 rfl) ?_
    refine v_goto F (tgt := 18) (dq dkX9_more_0 8 rfl) (by decide) ?_
    have h := Option.some.inj h
    subst h
    exact v_iret F E (dq dkX9_more_0 10 rfl)
def rm_X9_add : Room := { frames := 2, cells := 0, slots := 0, locals := 52 }
def f_X9_add_29 (x : CS) : Option (Int32 × CS) := some ((-2), x)
set_option maxRecDepth 100000 in
set_option maxHeartbeats 4000000 in
theorem t_X9_add_29 {C : Cx} {K : KE} {y : MS} {R : Int32 × CS}  (x : CS) (h : f_X9_add_29 x = some R) (F : Fx C RX9 cX9_add 4 rm_X9_add K) (E : CE C (xf K R.2 y) (some (.int R.1)) 0 0 (some .int)) : V C 29 [] [] (xf K x y) 0 0 := by
  unfold f_X9_add_29 at h
  refine v_bipush F (v := (-2)) (dq dkX9_add_0 15 rfl) kb_m2 ?_
  have h := Option.some.inj h
  subst h
  exact v_iret F E (dq dkX9_add_0 16 rfl)
def f_X9_add_48 (x : CS) : Option (Int32 × CS) := some ((-4), x)
set_option maxRecDepth 100000 in
set_option maxHeartbeats 4000000 in
theorem t_X9_add_48 {C : Cx} {K : KE} {y : MS} {R : Int32 × CS}  (x : CS) (h : f_X9_add_48 x = some R) (F : Fx C RX9 cX9_add 4 rm_X9_add K) (E : CE C (xf K R.2 y) (some (.int R.1)) 0 0 (some .int)) : V C 48 [] [] (xf K x y) 0 0 := by
  unfold f_X9_add_48 at h
  refine v_bipush F (v := (-4)) (dq dkX9_add_0 24 rfl) kb_m4 ?_
  have h := Option.some.inj h
  subst h
  exact v_iret F E (dq dkX9_add_0 25 rfl)
def f_X9_add (x : CS) (a1 : Int32) (a2 : Int32) (a3 : Int32) : Option (Int32 × CS) := if (b2i (f_X10_within a1 0 5)) = 0 then (f_X9_add_29 x) else (if (b2i (f_X10_within a2 0 9)) = 0 then (f_X9_add_29 x) else (if (b2i (f_X10_within a3 0 9)) = 0 then (f_X9_add_29 x) else (if (gi x 30 3) < 0 then (f_X9_add_48 x) else (if (gi x 30 3) < 10 then (gd (ib (gi x 30 3) 10) (gd (ib (gi (pi x 31 ((gi x 30 3).toNatClampNeg) a1) 30 3) 10) (gd (ib (gi (pi (pi x 31 ((gi x 30 3).toNatClampNeg) a1) 32 ((gi (pi x 31 ((gi x 30 3).toNatClampNeg) a1) 30 3).toNatClampNeg) a2) 30 3) 10) (some ((gi (pi (pi (pi (pi x 31 ((gi x 30 3).toNatClampNeg) a1) 32 ((gi (pi x 31 ((gi x 30 3).toNatClampNeg) a1) 30 3).toNatClampNeg) a2) 33 ((gi (pi (pi x 31 ((gi x 30 3).toNatClampNeg) a1) 32 ((gi (pi x 31 ((gi x 30 3).toNatClampNeg) a1) 30 3).toNatClampNeg) a2) 30 3).toNatClampNeg) a3) 30 3 ((gi (pi (pi (pi x 31 ((gi x 30 3).toNatClampNeg) a1) 32 ((gi (pi x 31 ((gi x 30 3).toNatClampNeg) a1) 30 3).toNatClampNeg) a2) 33 ((gi (pi (pi x 31 ((gi x 30 3).toNatClampNeg) a1) 32 ((gi (pi x 31 ((gi x 30 3).toNatClampNeg) a1) 30 3).toNatClampNeg) a2) 30 3).toNatClampNeg) a3) 30 3) + 1)) 30 3) - 1, pi (pi (pi (pi x 31 ((gi x 30 3).toNatClampNeg) a1) 32 ((gi (pi x 31 ((gi x 30 3).toNatClampNeg) a1) 30 3).toNatClampNeg) a2) 33 ((gi (pi (pi x 31 ((gi x 30 3).toNatClampNeg) a1) 32 ((gi (pi x 31 ((gi x 30 3).toNatClampNeg) a1) 30 3).toNatClampNeg) a2) 30 3).toNatClampNeg) a3) 30 3 ((gi (pi (pi (pi x 31 ((gi x 30 3).toNatClampNeg) a1) 32 ((gi (pi x 31 ((gi x 30 3).toNatClampNeg) a1) 30 3).toNatClampNeg) a2) 33 ((gi (pi (pi x 31 ((gi x 30 3).toNatClampNeg) a1) 32 ((gi (pi x 31 ((gi x 30 3).toNatClampNeg) a1) 30 3).toNatClampNeg) a2) 30 3).toNatClampNeg) a3) 30 3) + 1)))))) else (f_X9_add_48 x)))))
set_option maxRecDepth 100000 in
set_option maxHeartbeats 4000000 in
theorem c_X9_add {K : KE} {l : Launch} {R : Int32 × CS} (x : CS) (y : MS) (a1 : Int32) (a2 : Int32) (a3 : Int32) (h : f_X9_add x a1 a2 a3 = some R) : MC K l yX9_add cX9_add 4 (some .int) rm_X9_add 0 0 [.ref (K.1 + 30), .int a1, .int a2, .int a3] (xf K x y) (xf K R.2 y) (some (.int R.1)) := by
  unfold f_X9_add at h
  refine mc_of (ls0 := [(0, .ref (K.1 + 30)), (1, .int a1), (2, .int a2), (3, .int a3)]) (by decide) (Nat.le_of_ble_eq_true rfl) rfl (fun C hl hnm F E => ?_)
  have F : Fx C RX9 cX9_add 4 rm_X9_add K := F
  refine v_iload_n F (dq dkX9_add_0 0 rfl) rfl 1 rfl ?_
  refine v_iconst F (v := 0) (dq dkX9_add_0 1 rfl) ki_0 ?_
  refine v_iconst F (v := 5) (dq dkX9_add_0 2 rfl) ki_5 ?_
  refine v_callSN 3 F (kc1 := 0) (ks1 := 0) (as := [.int a1, .int 0, .int 5]) (st := []) (st1 := (.int (b2i (f_X10_within a1 0 5)) :: [])) (res := (some (.int (b2i (f_X10_within a1 0 5))))) (c_X10_within (l := C.2.1) a1 0 5) (List.mem_of_getElem? (i := 8) rfl) (tc8 _ (List.mem_of_getElem? (i := 15) rfl)) (tc1 _ (List.mem_of_getElem? (i := 2) rfl)) (tc8 _ (List.mem_of_getElem? (i := 16) rfl)) (by decide) rfl ⟨rfl, rfl, Nat.le_of_ble_eq_true rfl, Nat.le_of_ble_eq_true rfl⟩ ⟨Nat.le_of_ble_eq_true rfl, Nat.le_of_ble_eq_true rfl⟩ rfl (Nat.le_of_ble_eq_true rfl) rfl rfl rfl (dq dkX9_add_0 3 rfl) ?_
  refine v_if_eq F (tgt := 29) (dq dkX9_add_0 4 rfl) (by decide) (fun c2 => ?_) (fun c2 => ?_)
  · rw [if_pos c2] at h
    refine v_sub [] rfl ?_
    exact t_X9_add_29 x h F E
  · rw [if_neg c2] at h
    refine v_iload_n F (dq dkX9_add_0 5 rfl) rfl 2 rfl ?_
    refine v_iconst F (v := 0) (dq dkX9_add_0 6 rfl) ki_0 ?_
    refine v_bipush F (v := 9) (dq dkX9_add_0 7 rfl) kb_9 ?_
    refine v_callSN 3 F (kc1 := 0) (ks1 := 0) (as := [.int a2, .int 0, .int 9]) (st := []) (st1 := (.int (b2i (f_X10_within a2 0 9)) :: [])) (res := (some (.int (b2i (f_X10_within a2 0 9))))) (c_X10_within (l := C.2.1) a2 0 9) (List.mem_of_getElem? (i := 8) rfl) (tc8 _ (List.mem_of_getElem? (i := 15) rfl)) (tc1 _ (List.mem_of_getElem? (i := 2) rfl)) (tc8 _ (List.mem_of_getElem? (i := 16) rfl)) (by decide) rfl ⟨rfl, rfl, Nat.le_of_ble_eq_true rfl, Nat.le_of_ble_eq_true rfl⟩ ⟨Nat.le_of_ble_eq_true rfl, Nat.le_of_ble_eq_true rfl⟩ rfl (Nat.le_of_ble_eq_true rfl) rfl rfl rfl (dq dkX9_add_0 8 rfl) ?_
    refine v_if_eq F (tgt := 29) (dq dkX9_add_0 9 rfl) (by decide) (fun c4 => ?_) (fun c4 => ?_)
    · rw [if_pos c4] at h
      refine v_sub [] rfl ?_
      exact t_X9_add_29 x h F E
    · rw [if_neg c4] at h
      refine v_iload_n F (dq dkX9_add_0 10 rfl) rfl 3 rfl ?_
      refine v_iconst F (v := 0) (dq dkX9_add_0 11 rfl) ki_0 ?_
      refine v_bipush F (v := 9) (dq dkX9_add_0 12 rfl) kb_9 ?_
      refine v_callSN 3 F (kc1 := 0) (ks1 := 0) (as := [.int a3, .int 0, .int 9]) (st := []) (st1 := (.int (b2i (f_X10_within a3 0 9)) :: [])) (res := (some (.int (b2i (f_X10_within a3 0 9))))) (c_X10_within (l := C.2.1) a3 0 9) (List.mem_of_getElem? (i := 8) rfl) (tc8 _ (List.mem_of_getElem? (i := 15) rfl)) (tc1 _ (List.mem_of_getElem? (i := 2) rfl)) (tc8 _ (List.mem_of_getElem? (i := 16) rfl)) (by decide) rfl ⟨rfl, rfl, Nat.le_of_ble_eq_true rfl, Nat.le_of_ble_eq_true rfl⟩ ⟨Nat.le_of_ble_eq_true rfl, Nat.le_of_ble_eq_true rfl⟩ rfl (Nat.le_of_ble_eq_true rfl) rfl rfl rfl (dq dkX9_add_0 13 rfl) ?_
      refine v_if_ne F (tgt := 32) (dq dkX9_add_0 14 rfl) (by decide) (fun c6 => ?_) (fun c6 => ?_)
      · rw [if_neg c6] at h
        refine v_aload_n F (dq dkX9_add_0 17 rfl) rfl 0 rfl ?_
        refine v_get F 30 (xn (by decide)) xc_30 rfl inlX9 3 (by decide) (tc4 _ (List.mem_of_getElem? (i := 13) rfl)) rfl rfl (dq dkX9_add_0 18 rfl) ?_
        refine v_if_lt F (tgt := 48) (dq dkX9_add_0 19 rfl) (by decide) (fun c7 => ?_) (fun c7 => ?_)
        · rw [if_pos c7] at h
          refine v_sub [] rfl ?_
          exact t_X9_add_48 x h F E
        · rw [if_neg c7] at h
          refine v_aload_n F (dq dkX9_add_0 20 rfl) rfl 0 rfl ?_
          refine v_get F 30 (xn (by decide)) xc_30 rfl inlX9 3 (by decide) (tc4 _ (List.mem_of_getElem? (i := 13) rfl)) rfl rfl (dq dkX9_add_0 21 rfl) ?_
          refine v_bipush F (v := 10) (dq dkX9_add_0 22 rfl) kb_10 ?_
          refine v_icmp_lt F (tgt := 51) (dq dkX9_add_0 23 rfl) (by decide) (fun c8 => ?_) (fun c8 => ?_)
          · rw [if_pos c8] at h
            refine v_aload_n F (dq dkX9_add_0 26 rfl) rfl 0 rfl ?_
            refine v_get F 30 (xn (by decide)) xc_30 rfl inlX9 0 (by decide) (tc4 _ (List.mem_of_getElem? (i := 10) rfl)) rfl rfl (dq dkX9_add_0 27 rfl) ?_
            refine v_aload_n F (dq dkX9_add_0 28 rfl) rfl 0 rfl ?_
            refine v_get F 30 (xn (by decide)) xc_30 rfl inlX9 3 (by decide) (tc4 _ (List.mem_of_getElem? (i := 13) rfl)) rfl rfl (dq dkX9_add_0 29 rfl) ?_
            refine v_iload_n F (dq dkX9_add_0 30 rfl) rfl 1 rfl ?_
            obtain ⟨g9, h⟩ := gd_of h
            refine v_iast F 31 (xn (by decide)) xc_31 (ib_in g9) (dq dkX9_add_0 31 rfl) ?_
            refine v_eqM (xwC (q := 31) (j := (gi x 30 3).toNatClampNeg) (v := a1) (by decide) rfl) ?_
            refine v_aload_n F (dq dkX9_add_0 32 rfl) rfl 0 rfl ?_
            refine v_get F 30 (xn (by decide)) xc_30 rfl inlX9 1 (by decide) (tc4 _ (List.mem_of_getElem? (i := 11) rfl)) rfl rfl (dq dkX9_add_0 33 rfl) ?_
            refine v_aload_n F (dq dkX9_add_0 34 rfl) rfl 0 rfl ?_
            refine v_get F 30 (xn (by decide)) xc_30 rfl inlX9 3 (by decide) (tc4 _ (List.mem_of_getElem? (i := 13) rfl)) rfl rfl (dq dkX9_add_0 35 rfl) ?_
            refine v_iload_n F (dq dkX9_add_0 36 rfl) rfl 2 rfl ?_
            obtain ⟨g10, h⟩ := gd_of h
            refine v_iast F 32 (xn (by decide)) xc_32 (ib_in g10) (dq dkX9_add_0 37 rfl) ?_
            refine v_eqM (xwC (q := 32) (j := (gi (pi x 31 ((gi x 30 3).toNatClampNeg) a1) 30 3).toNatClampNeg) (v := a2) (by decide) rfl) ?_
            refine v_aload_n F (dq dkX9_add_0 38 rfl) rfl 0 rfl ?_
            refine v_get F 30 (xn (by decide)) xc_30 rfl inlX9 2 (by decide) (tc4 _ (List.mem_of_getElem? (i := 12) rfl)) rfl rfl (dq dkX9_add_0 39 rfl) ?_
            refine v_aload_n F (dq dkX9_add_1 0 rfl) rfl 0 rfl ?_
            refine v_get F 30 (xn (by decide)) xc_30 rfl inlX9 3 (by decide) (tc4 _ (List.mem_of_getElem? (i := 13) rfl)) rfl rfl (dq dkX9_add_1 1 rfl) ?_
            refine v_iload_n F (dq dkX9_add_1 2 rfl) rfl 3 rfl ?_
            obtain ⟨g11, h⟩ := gd_of h
            refine v_iast F 33 (xn (by decide)) xc_33 (ib_in g11) (dq dkX9_add_1 3 rfl) ?_
            refine v_eqM (xwC (q := 33) (j := (gi (pi (pi x 31 ((gi x 30 3).toNatClampNeg) a1) 32 ((gi (pi x 31 ((gi x 30 3).toNatClampNeg) a1) 30 3).toNatClampNeg) a2) 30 3).toNatClampNeg) (v := a3) (by decide) rfl) ?_
            refine v_aload_n F (dq dkX9_add_1 4 rfl) rfl 0 rfl ?_
            refine v_dup F (dq dkX9_add_1 5 rfl) rfl ?_
            refine v_get F 30 (xn (by decide)) xc_30 rfl inlX9 3 (by decide) (tc4 _ (List.mem_of_getElem? (i := 13) rfl)) rfl rfl (dq dkX9_add_1 6 rfl) ?_
            refine v_iconst F (v := 1) (dq dkX9_add_1 7 rfl) ki_1 ?_
            refine v_iadd F (dq dkX9_add_1 8 rfl) ?_
            refine v_put F 30 (xn (by decide)) xc_30 rfl inlX9 tyX9_ok nmX9 3 (by decide) (tc4 _ (List.mem_of_getElem? (i := 13) rfl)) rfl rfl (tyX9_ok 3 (by decide)) rfl rfl (Nat.le_of_ble_eq_true rfl) (dq dkX9_add_1 9 rfl) ?_
            refine v_eqM (xwC (q := 30) (j := 3) (v := (gi (pi (pi (pi x 31 ((gi x 30 3).toNatClampNeg) a1) 32 ((gi (pi x 31 ((gi x 30 3).toNatClampNeg) a1) 30 3).toNatClampNeg) a2) 33 ((gi (pi (pi x 31 ((gi x 30 3).toNatClampNeg) a1) 32 ((gi (pi x 31 ((gi x 30 3).toNatClampNeg) a1) 30 3).toNatClampNeg) a2) 30 3).toNatClampNeg) a3) 30 3) + 1) (by decide) rfl) ?_
            refine v_aload_n F (dq dkX9_add_1 10 rfl) rfl 0 rfl ?_
            refine v_get F 30 (xn (by decide)) xc_30 rfl inlX9 3 (by decide) (tc4 _ (List.mem_of_getElem? (i := 13) rfl)) rfl rfl (dq dkX9_add_1 11 rfl) ?_
            refine v_iconst F (v := 1) (dq dkX9_add_1 12 rfl) ki_1 ?_
            refine v_isub F (dq dkX9_add_1 13 rfl) ?_
            have h := Option.some.inj h
            subst h
            exact v_iret F E (dq dkX9_add_1 14 rfl)
          · rw [if_neg c8] at h
            refine v_sub [] rfl ?_
            exact t_X9_add_48 x h F E
      · rw [if_pos c6] at h
        refine v_sub [] rfl ?_
        exact t_X9_add_29 x h F E
def rm_X9_isOne : Room := { frames := 2, cells := 0, slots := 0, locals := 52 }
def f_X9_isOne_37 (x : CS) : Option (Bool) := some false
set_option maxRecDepth 100000 in
set_option maxHeartbeats 4000000 in
theorem t_X9_isOne_37 {C : Cx} {K : KE} {y : MS} {R : Bool}  (x : CS) (h : f_X9_isOne_37 x = some R) (F : Fx C RX9 cX9_isOne 4 rm_X9_isOne K) (E : CE C (xf K x y) (some (.int (b2i R))) 0 0 (some .boolean)) : V C 37 [] [] (xf K x y) 0 0 := by
  unfold f_X9_isOne_37 at h
  refine v_iconst F (v := 0) (dq dkX9_isOne_0 23 rfl) ki_0 ?_
  have h := Option.some.inj h
  subst h
  exact v_zret F E (b2i_n false) (dq dkX9_isOne_0 24 rfl)
def f_X9_isOne_4 (x : CS) : Nat → Int32 → Int32 → Int32 → Option (Bool)
  | 0, _, _, _ => none
  | n + 1, a1, a2, a3 => if 5 < a3 then (f_X9_isOne_37 x) else (if (b2i (f_X10_within a2 0 5)) = 0 then (f_X9_isOne_37 x) else (if a2 = a1 then (some true) else (gd (ib a2 6) ((f_X9_isOne_4 x n) a1 (sa 6 a2.toNatClampNeg) (a3 + 1)))))
set_option maxRecDepth 100000 in
set_option maxHeartbeats 4000000 in
theorem t_X9_isOne_4 {C : Cx} {K : KE} {y : MS} {R : Bool}  (x : CS) (F : Fx C RX9 cX9_isOne 4 rm_X9_isOne K) (E : CE C (xf K x y) (some (.int (b2i R))) 0 0 (some .boolean)) : ∀ (n : Nat) (a1 : Int32) (a2 : Int32) (a3 : Int32) (h : f_X9_isOne_4 x n a1 a2 a3 = some R), V C 4 [(1, .int a1), (2, .int a2), (3, .int a3)] [] (xf K x y) 0 0 := by
  intro n
  induction n with
  | zero => intro a1 a2 a3 h; cases h
  | succ n ih =>
    intro a1 a2 a3 h
    rw [f_X9_isOne_4] at h
    refine v_iload_n F (dq dkX9_isOne_0 4 rfl) rfl 2 rfl ?_
    refine v_iconst F (v := 5) (dq dkX9_isOne_0 5 rfl) ki_5 ?_
    refine v_icmp_gt F (tgt := 37) (dq dkX9_isOne_0 6 rfl) (by decide) (fun c1 => ?_) (fun c1 => ?_)
    · rw [if_pos c1] at h
      refine v_sub [] rfl ?_
      exact t_X9_isOne_37 x h F E
    · rw [if_neg c1] at h
      refine v_iload_n F (dq dkX9_isOne_0 7 rfl) rfl 1 rfl ?_
      refine v_iconst F (v := 0) (dq dkX9_isOne_0 8 rfl) ki_0 ?_
      refine v_iconst F (v := 5) (dq dkX9_isOne_0 9 rfl) ki_5 ?_
      refine v_callSN 3 F (kc1 := 0) (ks1 := 0) (as := [.int a2, .int 0, .int 5]) (st := []) (st1 := (.int (b2i (f_X10_within a2 0 5)) :: [])) (res := (some (.int (b2i (f_X10_within a2 0 5))))) (c_X10_within (l := C.2.1) a2 0 5) (List.mem_of_getElem? (i := 8) rfl) (tc8 _ (List.mem_of_getElem? (i := 15) rfl)) (tc1 _ (List.mem_of_getElem? (i := 2) rfl)) (tc8 _ (List.mem_of_getElem? (i := 16) rfl)) (by decide) rfl ⟨rfl, rfl, Nat.le_of_ble_eq_true rfl, Nat.le_of_ble_eq_true rfl⟩ ⟨Nat.le_of_ble_eq_true rfl, Nat.le_of_ble_eq_true rfl⟩ rfl (Nat.le_of_ble_eq_true rfl) rfl rfl rfl (dq dkX9_isOne_0 10 rfl) ?_
      refine v_if_eq F (tgt := 37) (dq dkX9_isOne_0 11 rfl) (by decide) (fun c3 => ?_) (fun c3 => ?_)
      · rw [if_pos c3] at h
        refine v_sub [] rfl ?_
        exact t_X9_isOne_37 x h F E
      · rw [if_neg c3] at h
        refine v_iload_n F (dq dkX9_isOne_0 12 rfl) rfl 1 rfl ?_
        refine v_iload_n F (dq dkX9_isOne_0 13 rfl) rfl 0 rfl ?_
        refine v_icmp_ne F (tgt := 25) (dq dkX9_isOne_0 14 rfl) (by decide) (fun c4 => ?_) (fun c4 => ?_)
        · rw [if_neg c4] at h
          refine v_gets 6 F rfl (tc53 _ (List.mem_of_getElem? (i := 17) rfl)) (dq dkX9_isOne_0 17 rfl) ?_
          refine v_iload_n F (dq dkX9_isOne_0 18 rfl) rfl 1 rfl ?_
          obtain ⟨g5, h⟩ := gd_of h
          refine v_ti 6 F rfl (ib_in g5) (dq dkX9_isOne_0 19 rfl) ?_
          refine v_istore_n F (ls' := [(2, .int (sa 6 a2.toNatClampNeg)), (1, .int a1), (3, .int a3)]) (dq dkX9_isOne_0 20 rfl) rfl (by decide) rfl ?_
          refine v_iinc F (v := a3 + 1) (ls' := [(3, .int (a3 + 1)), (2, .int (sa 6 a2.toNatClampNeg)), (1, .int a1)]) (dq dkX9_isOne_0 21 rfl) (j := 2) rfl (kv_add ki_1) (by decide) rfl ?_
          refine v_goto F (tgt := 4) (dq dkX9_isOne_0 22 rfl) (by decide) ?_
          refine v_sub [2, 1, 0] rfl ?_
          exact ih a1 (sa 6 a2.toNatClampNeg) (a3 + 1) h
        · rw [if_pos c4] at h
          refine v_iconst F (v := 1) (dq dkX9_isOne_0 15 rfl) ki_1 ?_
          have h := Option.some.inj h
          subst h
          exact v_zret F E (b2i_n true) (dq dkX9_isOne_0 16 rfl)
def f_X9_isOne (x : CS) (a0 : Int32) (a1 : Int32) : Option (Bool) := f_X9_isOne_4 x 1000 a1 a0 0
set_option maxRecDepth 100000 in
set_option maxHeartbeats 4000000 in
theorem c_X9_isOne {K : KE} {l : Launch} {R : Bool} (x : CS) (y : MS) (a0 : Int32) (a1 : Int32) (h : f_X9_isOne x a0 a1 = some R) : MC K l yX9_isOne cX9_isOne 4 (some .boolean) rm_X9_isOne 0 0 [.int a0, .int a1] (xf K x y) (xf K x y) (some (.int (b2i R))) := by
  unfold f_X9_isOne at h
  refine mc_of (ls0 := [(0, .int a0), (1, .int a1)]) (by decide) (Nat.le_of_ble_eq_true rfl) rfl (fun C hl hnm F E => ?_)
  have F : Fx C RX9 cX9_isOne 4 rm_X9_isOne K := F
  refine v_iload_n F (dq dkX9_isOne_0 0 rfl) rfl 0 rfl ?_
  refine v_istore_n F (ls' := [(2, .int a0), (0, .int a0), (1, .int a1)]) (dq dkX9_isOne_0 1 rfl) rfl (by decide) rfl ?_
  refine v_iconst F (v := 0) (dq dkX9_isOne_0 2 rfl) ki_0 ?_
  refine v_istore_n F (ls' := [(3, .int 0), (2, .int a0), (0, .int a0), (1, .int a1)]) (dq dkX9_isOne_0 3 rfl) rfl (by decide) rfl ?_
  refine v_sub [3, 1, 0] rfl ?_
  exact t_X9_isOne_4 x F E 1000 a1 a0 0 h
def rm_X9_daysOfOneMan : Room := { frames := 3, cells := 0, slots := 0, locals := 72 }
def f_X9_daysOfOneMan_80 (x : CS) (a2 : Int32) : Option (Int32) := some a2
set_option maxRecDepth 100000 in
set_option maxHeartbeats 4000000 in
theorem t_X9_daysOfOneMan_80 {C : Cx} {K : KE} {y : MS} {R : Int32}  (x : CS) (a2 : Int32) (h : f_X9_daysOfOneMan_80 x a2 = some R) (F : Fx C RX9 cX9_daysOfOneMan 4 rm_X9_daysOfOneMan K) (E : CE C (xf K x y) (some (.int R)) 0 0 (some .int)) : V C 80 [(2, .int a2)] [] (xf K x y) 0 0 := by
  unfold f_X9_daysOfOneMan_80 at h
  refine v_iload_n F (dq dkX9_daysOfOneMan_0 37 rfl) rfl 0 rfl ?_
  have h := Option.some.inj h
  subst h
  exact v_iret F E (dq dkX9_daysOfOneMan_0 38 rfl)
def f_X9_daysOfOneMan_25 (x : CS) (a1 : Int32) (a2 : Int32) (s0 : Int32) : Option (Int32) := (f_X9_kind x a1).bind fun r1 => if r1 = 1 then (some s0) else (if r1 = 2 then (some (s0 + 2)) else (if r1 = 3 then (f_X9_daysOfOneMan_80 x a2) else (if r1 = 4 then (some (2 * a2)) else (if r1 = 5 then (some ((2 * a2) + 3)) else (f_X9_daysOfOneMan_80 x a2)))))
set_option maxRecDepth 100000 in
set_option maxHeartbeats 4000000 in
theorem t_X9_daysOfOneMan_25 {C : Cx} {K : KE} {y : MS} {R : Int32}  (x : CS) (a1 : Int32) (a2 : Int32) (s0 : Int32) (h : f_X9_daysOfOneMan_25 x a1 a2 s0 = some R) (F : Fx C RX9 cX9_daysOfOneMan 4 rm_X9_daysOfOneMan K) (E : CE C (xf K x y) (some (.int R)) 0 0 (some .int)) : V C 25 [(0, .ref (K.1 + 30)), (1, .int a1), (2, .int a2)] [.int s0] (xf K x y) 0 0 := by
  unfold f_X9_daysOfOneMan_25 at h
  refine v_istore_n F (ls' := [(3, .int s0), (0, .ref (K.1 + 30)), (1, .int a1), (2, .int a2)]) (dq dkX9_daysOfOneMan_0 16 rfl) rfl (by decide) rfl ?_
  refine v_aload_n F (dq dkX9_daysOfOneMan_0 17 rfl) rfl 1 rfl ?_
  refine v_iload_n F (dq dkX9_daysOfOneMan_0 18 rfl) rfl 2 rfl ?_
  obtain ⟨r1, e2, h⟩ := bd_of h
  refine v_callV 1 F (q := 30) (kc1 := 0) (ks1 := 0) (as := [.int a1]) (st := []) (st1 := (.int r1 :: [])) (res := (some (.int r1))) (c_X9_kind (l := C.2.1) x y a1 e2) (xn (by decide)) xc_30 rfl (tc24 _ (List.mem_of_getElem? (i := 7) rfl)) (tc23 _ (List.mem_of_getElem? (i := 9) rfl)) (tc23 _ (List.mem_of_getElem? (i := 10) rfl)) (tc2 _ (List.mem_of_getElem? (i := 3) rfl)) (tc23 _ (List.mem_of_getElem? (i := 11) rfl)) (by decide) rfl ⟨rfl, rfl, Nat.le_of_ble_eq_true rfl, Nat.le_of_ble_eq_true rfl⟩ ⟨Nat.le_of_ble_eq_true rfl, Nat.le_of_ble_eq_true rfl⟩ rfl (Nat.le_of_ble_eq_true rfl) rfl rfl rfl (dq dkX9_daysOfOneMan_0 19 rfl) ?_
  by_cases c3 : r1 = 1
  · rw [if_pos c3] at h
    refine v_tblIn F (off := 33) (tgt := 64) (dq dkX9_daysOfOneMan_0 20 rfl) (by rw [c3]; decide) (by rw [c3]; decide) (by rw [c3]; rfl) (by decide) ?_
    refine v_iload_n F (dq dkX9_daysOfOneMan_0 21 rfl) rfl 0 rfl ?_
    have h := Option.some.inj h
    subst h
    exact v_iret F E (dq dkX9_daysOfOneMan_0 22 rfl)
  rw [if_neg c3] at h
  by_cases c4 : r1 = 2
  · rw [if_pos c4] at h
    refine v_tblIn F (off := 35) (tgt := 66) (dq dkX9_daysOfOneMan_0 20 rfl) (by rw [c4]; decide) (by rw [c4]; decide) (by rw [c4]; rfl) (by decide) ?_
    refine v_iload_n F (dq dkX9_daysOfOneMan_0 23 rfl) rfl 0 rfl ?_
    refine v_iconst F (v := 2) (dq dkX9_daysOfOneMan_0 24 rfl) ki_2 ?_
    refine v_iadd F (dq dkX9_daysOfOneMan_0 25 rfl) ?_
    have h := Option.some.inj h
    subst h
    exact v_iret F E (dq dkX9_daysOfOneMan_0 26 rfl)
  rw [if_neg c4] at h
  by_cases c5 : r1 = 3
  · rw [if_pos c5] at h
    refine v_tblIn F (off := 49) (tgt := 80) (dq dkX9_daysOfOneMan_0 20 rfl) (by rw [c5]; decide) (by rw [c5]; decide) (by rw [c5]; rfl) (by decide) ?_
    refine v_sub [3] rfl ?_
    exact t_X9_daysOfOneMan_80 x a2 h F E
  rw [if_neg c5] at h
  by_cases c6 : r1 = 4
  · rw [if_pos c6] at h
    refine v_tblIn F (off := 39) (tgt := 70) (dq dkX9_daysOfOneMan_0 20 rfl) (by rw [c6]; decide) (by rw [c6]; decide) (by rw [c6]; rfl) (by decide) ?_
    refine v_iconst F (v := 2) (dq dkX9_daysOfOneMan_0 27 rfl) ki_2 ?_
    refine v_iload_n F (dq dkX9_daysOfOneMan_0 28 rfl) rfl 3 rfl ?_
    refine v_imul F (dq dkX9_daysOfOneMan_0 29 rfl) ?_
    have h := Option.some.inj h
    subst h
    exact v_iret F E (dq dkX9_daysOfOneMan_0 30 rfl)
  rw [if_neg c6] at h
  by_cases c7 : r1 = 5
  · rw [if_pos c7] at h
    refine v_tblIn F (off := 43) (tgt := 74) (dq dkX9_daysOfOneMan_0 20 rfl) (by rw [c7]; decide) (by rw [c7]; decide) (by rw [c7]; rfl) (by decide) ?_
    refine v_iconst F (v := 2) (dq dkX9_daysOfOneMan_0 31 rfl) ki_2 ?_
    refine v_iload_n F (dq dkX9_daysOfOneMan_0 32 rfl) rfl 3 rfl ?_
    refine v_imul F (dq dkX9_daysOfOneMan_0 33 rfl) ?_
    refine v_iconst F (v := 3) (dq dkX9_daysOfOneMan_0 34 rfl) ki_3 ?_
    refine v_iadd F (dq dkX9_daysOfOneMan_0 35 rfl) ?_
    have h := Option.some.inj h
    subst h
    exact v_iret F E (dq dkX9_daysOfOneMan_0 36 rfl)
  rw [if_neg c7] at h
  have zc3 := lv_neT c3 (a := 1) (by decide)
  have zc4 := lv_neT c4 (a := 2) (by decide)
  have zc5 := lv_neT c5 (a := 3) (by decide)
  have zc6 := lv_neT c6 (a := 4) (by decide)
  have zc7 := lv_neT c7 (a := 5) (by decide)
  refine v_tblOut F (tgt := 80) (dq dkX9_daysOfOneMan_0 20 rfl) (by omega) (by decide) ?_
  refine v_sub [3] rfl ?_
  exact t_X9_daysOfOneMan_80 x a2 h F E
def f_X9_daysOfOneMan (x : CS) (a1 : Int32) : Option (Int32) := (f_X9_more x a1).bind fun r8 => (f_X9_section x a1).bind fun r10 => if r10 = 9 then (f_X9_daysOfOneMan_25 x a1 (1 + r8) (2 * (1 + r8))) else (f_X9_daysOfOneMan_25 x a1 (1 + r8) (1 + r8))
set_option maxRecDepth 100000 in
set_option maxHeartbeats 4000000 in
theorem c_X9_daysOfOneMan {K : KE} {l : Launch} {R : Int32} (x : CS) (y : MS) (a1 : Int32) (h : f_X9_daysOfOneMan x a1 = some R) : MC K l yX9_daysOfOneMan cX9_daysOfOneMan 4 (some .int) rm_X9_daysOfOneMan 0 0 [.ref (K.1 + 30), .int a1] (xf K x y) (xf K x y) (some (.int R)) := by
  unfold f_X9_daysOfOneMan at h
  refine mc_of (ls0 := [(0, .ref (K.1 + 30)), (1, .int a1)]) (by decide) (Nat.le_of_ble_eq_true rfl) rfl (fun C hl hnm F E => ?_)
  have F : Fx C RX9 cX9_daysOfOneMan 4 rm_X9_daysOfOneMan K := F
  refine v_iconst F (v := 1) (dq dkX9_daysOfOneMan_0 0 rfl) ki_1 ?_
  refine v_aload_n F (dq dkX9_daysOfOneMan_0 1 rfl) rfl 0 rfl ?_
  refine v_iload_n F (dq dkX9_daysOfOneMan_0 2 rfl) rfl 1 rfl ?_
  obtain ⟨r8, e9, h⟩ := bd_of h
  refine v_callV 1 F (q := 30) (kc1 := 0) (ks1 := 0) (as := [.int a1]) (st := [.int 1]) (st1 := (.int r8 :: [.int 1])) (res := (some (.int r8))) (c_X9_more (l := C.2.1) x y a1 e9) (xn (by decide)) xc_30 rfl (tc24 _ (List.mem_of_getElem? (i := 5) rfl)) (tc23 _ (List.mem_of_getElem? (i := 18) rfl)) (tc23 _ (List.mem_of_getElem? (i := 19) rfl)) (tc2 _ (List.mem_of_getElem? (i := 3) rfl)) (tc23 _ (List.mem_of_getElem? (i := 20) rfl)) (by decide) rfl ⟨rfl, rfl, Nat.le_of_ble_eq_true rfl, Nat.le_of_ble_eq_true rfl⟩ ⟨Nat.le_of_ble_eq_true rfl, Nat.le_of_ble_eq_true rfl⟩ rfl (Nat.le_of_ble_eq_true rfl) rfl rfl rfl (dq dkX9_daysOfOneMan_0 3 rfl) ?_
  refine v_iadd F (dq dkX9_daysOfOneMan_0 4 rfl) ?_
  refine v_istore_n F (ls' := [(2, .int (1 + r8)), (0, .ref (K.1 + 30)), (1, .int a1)]) (dq dkX9_daysOfOneMan_0 5 rfl) rfl (by decide) rfl ?_
  refine v_aload_n F (dq dkX9_daysOfOneMan_0 6 rfl) rfl 1 rfl ?_
  refine v_iload_n F (dq dkX9_daysOfOneMan_0 7 rfl) rfl 2 rfl ?_
  obtain ⟨r10, e11, h⟩ := bd_of h
  refine v_callV 1 F (q := 30) (kc1 := 0) (ks1 := 0) (as := [.int a1]) (st := []) (st1 := (.int r10 :: [])) (res := (some (.int r10))) (c_X9_section (l := C.2.1) x y a1 e11) (xn (by decide)) xc_30 rfl (tc24 _ (List.mem_of_getElem? (i := 6) rfl)) (tc23 _ (List.mem_of_getElem? (i := 14) rfl)) (tc23 _ (List.mem_of_getElem? (i := 15) rfl)) (tc2 _ (List.mem_of_getElem? (i := 3) rfl)) (tc23 _ (List.mem_of_getElem? (i := 16) rfl)) (by decide) rfl ⟨rfl, rfl, Nat.le_of_ble_eq_true rfl, Nat.le_of_ble_eq_true rfl⟩ ⟨Nat.le_of_ble_eq_true rfl, Nat.le_of_ble_eq_true rfl⟩ rfl (Nat.le_of_ble_eq_true rfl) rfl rfl rfl (dq dkX9_daysOfOneMan_0 8 rfl) ?_
  refine v_bipush F (v := 9) (dq dkX9_daysOfOneMan_0 9 rfl) kb_9 ?_
  refine v_icmp_ne F (tgt := 24) (dq dkX9_daysOfOneMan_0 10 rfl) (by decide) (fun c12 => ?_) (fun c12 => ?_)
  · rw [if_neg c12] at h
    refine v_iload_n F (dq dkX9_daysOfOneMan_0 15 rfl) rfl 0 rfl ?_
    refine v_sub [1, 2, 0] rfl ?_
    exact t_X9_daysOfOneMan_25 x a1 (1 + r8) (1 + r8) h F E
  · rw [if_pos c12] at h
    refine v_iconst F (v := 2) (dq dkX9_daysOfOneMan_0 11 rfl) ki_2 ?_
    refine v_iload_n F (dq dkX9_daysOfOneMan_0 12 rfl) rfl 0 rfl ?_
    refine v_imul F (dq dkX9_daysOfOneMan_0 13 rfl) ?_
    refine v_goto F (tgt := 25) (dq dkX9_daysOfOneMan_0 14 rfl) (by decide) ?_
    refine v_sub [1, 2, 0] rfl ?_
    exact t_X9_daysOfOneMan_25 x a1 (1 + r8) (2 * (1 + r8)) h F E
def rm_X9_daysBy : Room := { frames := 4, cells := 0, slots := 0, locals := 95 }
def f_X9_daysBy (x : CS) (a1 : Int32) (a2 : Int32) : Option (Int32) := if 1 ≤ a2 then ((f_X9_daysOfOneMan x a1).bind fun r2 => gd (decide (¬ a2 = 0)) (some (((r2 + a2) - 1) / a2))) else (some 0)
set_option maxRecDepth 100000 in
set_option maxHeartbeats 4000000 in
theorem c_X9_daysBy {K : KE} {l : Launch} {R : Int32} (x : CS) (y : MS) (a1 : Int32) (a2 : Int32) (h : f_X9_daysBy x a1 a2 = some R) : MC K l yX9_daysBy cX9_daysBy 3 (some .int) rm_X9_daysBy 0 0 [.ref (K.1 + 30), .int a1, .int a2] (xf K x y) (xf K x y) (some (.int R)) := by
  unfold f_X9_daysBy at h
  refine mc_of (ls0 := [(0, .ref (K.1 + 30)), (1, .int a1), (2, .int a2)]) (by decide) (Nat.le_of_ble_eq_true rfl) rfl (fun C hl hnm F E => ?_)
  have F : Fx C RX9 cX9_daysBy 3 rm_X9_daysBy K := F
  refine v_iload_n F (dq dkX9_daysBy_0 0 rfl) rfl 2 rfl ?_
  refine v_iconst F (v := 1) (dq dkX9_daysBy_0 1 rfl) ki_1 ?_
  refine v_icmp_ge F (tgt := 9) (dq dkX9_daysBy_0 2 rfl) (by decide) (fun c1 => ?_) (fun c1 => ?_)
  · rw [if_pos c1] at h
    refine v_aload_n F (dq dkX9_daysBy_0 5 rfl) rfl 0 rfl ?_
    refine v_iload_n F (dq dkX9_daysBy_0 6 rfl) rfl 1 rfl ?_
    obtain ⟨r2, e3, h⟩ := bd_of h
    refine v_callV 1 F (q := 30) (kc1 := 0) (ks1 := 0) (as := [.int a1]) (st := []) (st1 := (.int r2 :: [])) (res := (some (.int r2))) (c_X9_daysOfOneMan (l := C.2.1) x y a1 e3) (xn (by decide)) xc_30 rfl (tc24 _ (List.mem_of_getElem? (i := 1) rfl)) (tc24 _ (List.mem_of_getElem? (i := 2) rfl)) (tc24 _ (List.mem_of_getElem? (i := 3) rfl)) (tc2 _ (List.mem_of_getElem? (i := 3) rfl)) (tc24 _ (List.mem_of_getElem? (i := 4) rfl)) (by decide) rfl ⟨rfl, rfl, Nat.le_of_ble_eq_true rfl, Nat.le_of_ble_eq_true rfl⟩ ⟨Nat.le_of_ble_eq_true rfl, Nat.le_of_ble_eq_true rfl⟩ rfl (Nat.le_of_ble_eq_true rfl) rfl rfl rfl (dq dkX9_daysBy_0 7 rfl) ?_
    refine v_iload_n F (dq dkX9_daysBy_0 8 rfl) rfl 2 rfl ?_
    refine v_iadd F (dq dkX9_daysBy_0 9 rfl) ?_
    refine v_iconst F (v := 1) (dq dkX9_daysBy_0 10 rfl) ki_1 ?_
    refine v_isub F (dq dkX9_daysBy_0 11 rfl) ?_
    refine v_iload_n F (dq dkX9_daysBy_0 12 rfl) rfl 2 rfl ?_
    obtain ⟨g4, h⟩ := gd_of h
    refine v_idiv F (dq dkX9_daysBy_0 13 rfl) (of_decide_eq_true g4) ?_
    have h := Option.some.inj h
    subst h
    exact v_iret F E (dq dkX9_daysBy_0 14 rfl)
  · rw [if_neg c1] at h
    refine v_iconst F (v := 0) (dq dkX9_daysBy_0 3 rfl) ki_0 ?_
    refine v_goto F (tgt := 20) (dq dkX9_daysBy_0 4 rfl) (by decide) ?_
    have h := Option.some.inj h
    subst h
    exact v_iret F E (dq dkX9_daysBy_0 14 rfl)
def rm_X9_allDaysBy : Room := { frames := 5, cells := 0, slots := 0, locals := 117 }
def f_X9_allDaysBy_36 (x : CS) (a3 : Int32) : Option (Int32) := some a3
set_option maxRecDepth 100000 in
set_option maxHeartbeats 4000000 in
theorem t_X9_allDaysBy_36 {C : Cx} {K : KE} {y : MS} {R : Int32}  (x : CS) (a3 : Int32) (h : f_X9_allDaysBy_36 x a3 = some R) (F : Fx C RX9 cX9_allDaysBy 5 rm_X9_allDaysBy K) (E : CE C (xf K x y) (some (.int R)) 0 0 (some .int)) : V C 36 [(3, .int a3)] [] (xf K x y) 0 0 := by
  unfold f_X9_allDaysBy_36 at h
  refine v_iload_n F (dq dkX9_allDaysBy_0 20 rfl) rfl 0 rfl ?_
  have h := Option.some.inj h
  subst h
  exact v_iret F E (dq dkX9_allDaysBy_0 21 rfl)
def f_X9_allDaysBy_5 (x : CS) : Nat → Int32 → Int32 → Int32 → Int32 → Option (Int32)
  | 0, _, _, _, _ => none
  | n + 1, a1, a2, a3, a4 => if a1 ≤ a4 then (f_X9_allDaysBy_36 x a3) else (if (gi x 30 3) ≤ a4 then (f_X9_allDaysBy_36 x a3) else ((f_X9_daysBy x a4 a2).bind fun r3 => (f_X9_allDaysBy_5 x n) a1 a2 (a3 + r3) (a4 + 1)))
set_option maxRecDepth 100000 in
set_option maxHeartbeats 4000000 in
theorem t_X9_allDaysBy_5 {C : Cx} {K : KE} {y : MS} {R : Int32}  (x : CS) (F : Fx C RX9 cX9_allDaysBy 5 rm_X9_allDaysBy K) (E : CE C (xf K x y) (some (.int R)) 0 0 (some .int)) : ∀ (n : Nat) (a1 : Int32) (a2 : Int32) (a3 : Int32) (a4 : Int32) (h : f_X9_allDaysBy_5 x n a1 a2 a3 a4 = some R), V C 5 [(0, .ref (K.1 + 30)), (1, .int a1), (2, .int a2), (3, .int a3), (4, .int a4)] [] (xf K x y) 0 0 := by
  intro n
  induction n with
  | zero => intro a1 a2 a3 a4 h; cases h
  | succ n ih =>
    intro a1 a2 a3 a4 h
    rw [f_X9_allDaysBy_5] at h
    refine v_iload F (dq dkX9_allDaysBy_0 4 rfl) 4 rfl ?_
    refine v_iload_n F (dq dkX9_allDaysBy_0 5 rfl) rfl 1 rfl ?_
    refine v_icmp_ge F (tgt := 36) (dq dkX9_allDaysBy_0 6 rfl) (by decide) (fun c1 => ?_) (fun c1 => ?_)
    · rw [if_pos c1] at h
      refine v_sub [3] rfl ?_
      exact t_X9_allDaysBy_36 x a3 h F E
    · rw [if_neg c1] at h
      refine v_iload F (dq dkX9_allDaysBy_0 7 rfl) 4 rfl ?_
      refine v_aload_n F (dq dkX9_allDaysBy_0 8 rfl) rfl 0 rfl ?_
      refine v_get F 30 (xn (by decide)) xc_30 rfl inlX9 3 (by decide) (tc4 _ (List.mem_of_getElem? (i := 13) rfl)) rfl rfl (dq dkX9_allDaysBy_0 9 rfl) ?_
      refine v_icmp_ge F (tgt := 36) (dq dkX9_allDaysBy_0 10 rfl) (by decide) (fun c2 => ?_) (fun c2 => ?_)
      · rw [if_pos c2] at h
        refine v_sub [3] rfl ?_
        exact t_X9_allDaysBy_36 x a3 h F E
      · rw [if_neg c2] at h
        refine v_iload_n F (dq dkX9_allDaysBy_0 11 rfl) rfl 3 rfl ?_
        refine v_aload_n F (dq dkX9_allDaysBy_0 12 rfl) rfl 0 rfl ?_
        refine v_iload F (dq dkX9_allDaysBy_0 13 rfl) 4 rfl ?_
        refine v_iload_n F (dq dkX9_allDaysBy_0 14 rfl) rfl 2 rfl ?_
        obtain ⟨r3, e4, h⟩ := bd_of h
        refine v_callV 2 F (q := 30) (kc1 := 0) (ks1 := 0) (as := [.int a4, .int a2]) (st := [.int a3]) (st1 := (.int r3 :: [.int a3])) (res := (some (.int r3))) (c_X9_daysBy (l := C.2.1) x y a4 a2 e4) (xn (by decide)) xc_30 rfl (tc30 _ (List.mem_of_getElem? (i := 8) rfl)) (tc23 _ (List.mem_of_getElem? (i := 22) rfl)) (tc23 _ (List.mem_of_getElem? (i := 23) rfl)) (tc2 _ (List.mem_of_getElem? (i := 3) rfl)) (tc24 _ (List.mem_of_getElem? (i := 0) rfl)) (by decide) rfl ⟨rfl, rfl, Nat.le_of_ble_eq_true rfl, Nat.le_of_ble_eq_true rfl⟩ ⟨Nat.le_of_ble_eq_true rfl, Nat.le_of_ble_eq_true rfl⟩ rfl (Nat.le_of_ble_eq_true rfl) rfl rfl rfl (dq dkX9_allDaysBy_0 15 rfl) ?_
        refine v_iadd F (dq dkX9_allDaysBy_0 16 rfl) ?_
        refine v_istore_n F (ls' := [(3, .int (a3 + r3)), (0, .ref (K.1 + 30)), (1, .int a1), (2, .int a2), (4, .int a4)]) (dq dkX9_allDaysBy_0 17 rfl) rfl (by decide) rfl ?_
        refine v_iinc F (v := a4 + 1) (ls' := [(4, .int (a4 + 1)), (3, .int (a3 + r3)), (0, .ref (K.1 + 30)), (1, .int a1), (2, .int a2)]) (dq dkX9_allDaysBy_0 18 rfl) (j := 4) rfl (kv_add ki_1) (by decide) rfl ?_
        refine v_goto F (tgt := 5) (dq dkX9_allDaysBy_0 19 rfl) (by decide) ?_
        refine v_sub [2, 3, 4, 1, 0] rfl ?_
        exact ih a1 a2 (a3 + r3) (a4 + 1) h
def f_X9_allDaysBy (x : CS) (a1 : Int32) (a2 : Int32) : Option (Int32) := f_X9_allDaysBy_5 x 1000 a1 a2 0 0
set_option maxRecDepth 100000 in
set_option maxHeartbeats 4000000 in
theorem c_X9_allDaysBy {K : KE} {l : Launch} {R : Int32} (x : CS) (y : MS) (a1 : Int32) (a2 : Int32) (h : f_X9_allDaysBy x a1 a2 = some R) : MC K l yX9_allDaysBy cX9_allDaysBy 5 (some .int) rm_X9_allDaysBy 0 0 [.ref (K.1 + 30), .int a1, .int a2] (xf K x y) (xf K x y) (some (.int R)) := by
  unfold f_X9_allDaysBy at h
  refine mc_of (ls0 := [(0, .ref (K.1 + 30)), (1, .int a1), (2, .int a2)]) (by decide) (Nat.le_of_ble_eq_true rfl) rfl (fun C hl hnm F E => ?_)
  have F : Fx C RX9 cX9_allDaysBy 5 rm_X9_allDaysBy K := F
  refine v_iconst F (v := 0) (dq dkX9_allDaysBy_0 0 rfl) ki_0 ?_
  refine v_istore_n F (ls' := [(3, .int 0), (0, .ref (K.1 + 30)), (1, .int a1), (2, .int a2)]) (dq dkX9_allDaysBy_0 1 rfl) rfl (by decide) rfl ?_
  refine v_iconst F (v := 0) (dq dkX9_allDaysBy_0 2 rfl) ki_0 ?_
  refine v_istore F (ls' := [(4, .int 0), (3, .int 0), (0, .ref (K.1 + 30)), (1, .int a1), (2, .int a2)]) (dq dkX9_allDaysBy_0 3 rfl) (by decide) rfl ?_
  refine v_sub [2, 3, 4, 1, 0] rfl ?_
  exact t_X9_allDaysBy_5 x F E 1000 a1 a2 0 0 h
