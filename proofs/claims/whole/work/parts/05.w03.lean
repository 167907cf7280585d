def rm_X3_keep : Room := { frames := 1, cells := 0, slots := 0, locals := 30 }
def f_X3_keep_23 (x : CS) : Option (Int32 × CS) := some ((-4), x)
set_option maxRecDepth 100000 in
set_option maxHeartbeats 4000000 in
theorem t_X3_keep_23 {C : Cx} {K : KE} {y : MS} {R : Int32 × CS}  (x : CS) (h : f_X3_keep_23 x = some R) (F : Fx C RX3 cX3_keep 3 rm_X3_keep K) (E : CE C (xf K R.2 y) (some (.int R.1)) 0 0 (some .int)) : V C 23 [] [] (xf K x y) 0 0 := by
  unfold f_X3_keep_23 at h
  refine v_bipush F (v := (-4)) (dq dkX3_keep_0 12 rfl) kb_m4 ?_
  have h := Option.some.inj h
  subst h
  exact v_iret F E (dq dkX3_keep_0 13 rfl)
def f_X3_keep (x : CS) (a1 : Nat) (a2 : Nat) : Option (Int32 × CS) := if 6 ≤ (gi x 10 3) then (f_X3_keep_23 x) else (gd (decide (0 < al a1)) (if (nI (al a1)) < 160 then (f_X3_keep_23 x) else (gd (decide (0 < al a2)) (if 3 ≤ (nI (al a2)) then (gd (ib (gi x 10 3) 6) (gd (decide (0 < al a1)) (gd (decide (0 < al (12 + (gi x 10 3).toNatClampNeg))) (gd (cpok 0 0 160 (al a1) (al (12 + (gi x 10 3).toNatClampNeg))) (gd (ib (gi (pf x (12 + (gi x 10 3).toNatClampNeg) (va_cpy (gi x a1) (gi x (12 + (gi x 10 3).toNatClampNeg)) (0 : Int32).toNatClampNeg (0 : Int32).toNatClampNeg (160 : Int32).toNatClampNeg)) 10 3) 6) (gd (decide (0 < al a2)) (gd (decide (0 < al (19 + (gi (pf x (12 + (gi x 10 3).toNatClampNeg) (va_cpy (gi x a1) (gi x (12 + (gi x 10 3).toNatClampNeg)) (0 : Int32).toNatClampNeg (0 : Int32).toNatClampNeg (160 : Int32).toNatClampNeg)) 10 3).toNatClampNeg))) (gd (cpok 0 0 3 (al a2) (al (19 + (gi (pf x (12 + (gi x 10 3).toNatClampNeg) (va_cpy (gi x a1) (gi x (12 + (gi x 10 3).toNatClampNeg)) (0 : Int32).toNatClampNeg (0 : Int32).toNatClampNeg (160 : Int32).toNatClampNeg)) 10 3).toNatClampNeg))) (some ((gi (pi (pf (pf x (12 + (gi x 10 3).toNatClampNeg) (va_cpy (gi x a1) (gi x (12 + (gi x 10 3).toNatClampNeg)) (0 : Int32).toNatClampNeg (0 : Int32).toNatClampNeg (160 : Int32).toNatClampNeg)) (19 + (gi (pf x (12 + (gi x 10 3).toNatClampNeg) (va_cpy (gi x a1) (gi x (12 + (gi x 10 3).toNatClampNeg)) (0 : Int32).toNatClampNeg (0 : Int32).toNatClampNeg (160 : Int32).toNatClampNeg)) 10 3).toNatClampNeg) (va_cpy (gi (pf x (12 + (gi x 10 3).toNatClampNeg) (va_cpy (gi x a1) (gi x (12 + (gi x 10 3).toNatClampNeg)) (0 : Int32).toNatClampNeg (0 : Int32).toNatClampNeg (160 : Int32).toNatClampNeg)) a2) (gi (pf x (12 + (gi x 10 3).toNatClampNeg) (va_cpy (gi x a1) (gi x (12 + (gi x 10 3).toNatClampNeg)) (0 : Int32).toNatClampNeg (0 : Int32).toNatClampNeg (160 : Int32).toNatClampNeg)) (19 + (gi (pf x (12 + (gi x 10 3).toNatClampNeg) (va_cpy (gi x a1) (gi x (12 + (gi x 10 3).toNatClampNeg)) (0 : Int32).toNatClampNeg (0 : Int32).toNatClampNeg (160 : Int32).toNatClampNeg)) 10 3).toNatClampNeg)) (0 : Int32).toNatClampNeg (0 : Int32).toNatClampNeg (3 : Int32).toNatClampNeg)) 10 3 ((gi (pf (pf x (12 + (gi x 10 3).toNatClampNeg) (va_cpy (gi x a1) (gi x (12 + (gi x 10 3).toNatClampNeg)) (0 : Int32).toNatClampNeg (0 : Int32).toNatClampNeg (160 : Int32).toNatClampNeg)) (19 + (gi (pf x (12 + (gi x 10 3).toNatClampNeg) (va_cpy (gi x a1) (gi x (12 + (gi x 10 3).toNatClampNeg)) (0 : Int32).toNatClampNeg (0 : Int32).toNatClampNeg (160 : Int32).toNatClampNeg)) 10 3).toNatClampNeg) (va_cpy (gi (pf x (12 + (gi x 10 3).toNatClampNeg) (va_cpy (gi x a1) (gi x (12 + (gi x 10 3).toNatClampNeg)) (0 : Int32).toNatClampNeg (0 : Int32).toNatClampNeg (160 : Int32).toNatClampNeg)) a2) (gi (pf x (12 + (gi x 10 3).toNatClampNeg) (va_cpy (gi x a1) (gi x (12 + (gi x 10 3).toNatClampNeg)) (0 : Int32).toNatClampNeg (0 : Int32).toNatClampNeg (160 : Int32).toNatClampNeg)) (19 + (gi (pf x (12 + (gi x 10 3).toNatClampNeg) (va_cpy (gi x a1) (gi x (12 + (gi x 10 3).toNatClampNeg)) (0 : Int32).toNatClampNeg (0 : Int32).toNatClampNeg (160 : Int32).toNatClampNeg)) 10 3).toNatClampNeg)) (0 : Int32).toNatClampNeg (0 : Int32).toNatClampNeg (3 : Int32).toNatClampNeg)) 10 3) + 1)) 10 3) - 1, pi (pf (pf x (12 + (gi x 10 3).toNatClampNeg) (va_cpy (gi x a1) (gi x (12 + (gi x 10 3).toNatClampNeg)) (0 : Int32).toNatClampNeg (0 : Int32).toNatClampNeg (160 : Int32).toNatClampNeg)) (19 + (gi (pf x (12 + (gi x 10 3).toNatClampNeg) (va_cpy (gi x a1) (gi x (12 + (gi x 10 3).toNatClampNeg)) (0 : Int32).toNatClampNeg (0 : Int32).toNatClampNeg (160 : Int32).toNatClampNeg)) 10 3).toNatClampNeg) (va_cpy (gi (pf x (12 + (gi x 10 3).toNatClampNeg) (va_cpy (gi x a1) (gi x (12 + (gi x 10 3).toNatClampNeg)) (0 : Int32).toNatClampNeg (0 : Int32).toNatClampNeg (160 : Int32).toNatClampNeg)) a2) (gi (pf x (12 + (gi x 10 3).toNatClampNeg) (va_cpy (gi x a1) (gi x (12 + (gi x 10 3).toNatClampNeg)) (0 : Int32).toNatClampNeg (0 : Int32).toNatClampNeg (160 : Int32).toNatClampNeg)) (19 + (gi (pf x (12 + (gi x 10 3).toNatClampNeg) (va_cpy (gi x a1) (gi x (12 + (gi x 10 3).toNatClampNeg)) (0 : Int32).toNatClampNeg (0 : Int32).toNatClampNeg (160 : Int32).toNatClampNeg)) 10 3).toNatClampNeg)) (0 : Int32).toNatClampNeg (0 : Int32).toNatClampNeg (3 : Int32).toNatClampNeg)) 10 3 ((gi (pf (pf x (12 + (gi x 10 3).toNatClampNeg) (va_cpy (gi x a1) (gi x (12 + (gi x 10 3).toNatClampNeg)) (0 : Int32).toNatClampNeg (0 : Int32).toNatClampNeg (160 : Int32).toNatClampNeg)) (19 + (gi (pf x (12 + (gi x 10 3).toNatClampNeg) (va_cpy (gi x a1) (gi x (12 + (gi x 10 3).toNatClampNeg)) (0 : Int32).toNatClampNeg (0 : Int32).toNatClampNeg (160 : Int32).toNatClampNeg)) 10 3).toNatClampNeg) (va_cpy (gi (pf x (12 + (gi x 10 3).toNatClampNeg) (va_cpy (gi x a1) (gi x (12 + (gi x 10 3).toNatClampNeg)) (0 : Int32).toNatClampNeg (0 : Int32).toNatClampNeg (160 : Int32).toNatClampNeg)) a2) (gi (pf x (12 + (gi x 10 3).toNatClampNeg) (va_cpy (gi x a1) (gi x (12 + (gi x 10 3).toNatClampNeg)) (0 : Int32).toNatClampNeg (0 : Int32).toNatClampNeg (160 : Int32).toNatClampNeg)) (19 + (gi (pf x (12 + (gi x 10 3).toNatClampNeg) (va_cpy (gi x a1) (gi x (12 + (gi x 10 3).toNatClampNeg)) (0 : Int32).toNatClampNeg (0 : Int32).toNatClampNeg (160 : Int32).toNatClampNeg)) 10 3).toNatClampNeg)) (0 : Int32).toNatClampNeg (0 : Int32).toNatClampNeg (3 : Int32).toNatClampNeg)) 10 3) + 1))))))))))) else (f_X3_keep_23 x)))))
set_option maxRecDepth 100000 in
set_option maxHeartbeats 4000000 in
theorem c_X3_keep {K : KE} {l : Launch} {R : Int32 × CS} (x : CS) (y : MS) (a1 : Nat) (a2 : Nat) (h : f_X3_keep x a1 a2 = some R) : MC K l yX3_keep cX3_keep 3 (some .int) rm_X3_keep 0 0 [.ref (K.1 + 10), .ref (K.1 + a1), .ref (K.1 + a2)] (xf K x y) (xf K R.2 y) (some (.int R.1)) := by
  unfold f_X3_keep at h
  refine mc_of (ls0 := [(0, .ref (K.1 + 10)), (1, .ref (K.1 + a1)), (2, .ref (K.1 + a2))]) (by decide) (Nat.le_of_ble_eq_true rfl) rfl (fun C hl hnm F E => ?_)
  have F : Fx C RX3 cX3_keep 3 rm_X3_keep K := F
  refine v_aload_n F (dq dkX3_keep_0 0 rfl) rfl 0 rfl ?_
  refine v_get F 10 (xn (by decide)) xc_10 rfl inlX3 3 (by decide) (tc3 _ (List.mem_of_getElem? (i := 16) rfl)) rfl rfl (dq dkX3_keep_0 1 rfl) ?_
  refine v_bipush F (v := 6) (dq dkX3_keep_0 2 rfl) kb_6 ?_
  refine v_icmp_ge F (tgt := 23) (dq dkX3_keep_0 3 rfl) (by decide) (fun c1 => ?_) (fun c1 => ?_)
  · rw [if_pos c1] at h
    refine v_sub [] rfl ?_
    exact t_X3_keep_23 x h F E
  · rw [if_neg c1] at h
    refine v_aload_n F (dq dkX3_keep_0 4 rfl) rfl 1 rfl ?_
    obtain ⟨g2, h⟩ := gd_of h
    refine v_alen F a1 (xl_lt g2) (xl_at g2) (t := 0) rfl (n := nI (al a1)) rfl (dq dkX3_keep_0 5 rfl) ?_
    refine v_sipush F (v := 160) (dq dkX3_keep_0 6 rfl) ks_160 ?_
    refine v_icmp_lt F (tgt := 23) (dq dkX3_keep_0 7 rfl) (by decide) (fun c3 => ?_) (fun c3 => ?_)
    · rw [if_pos c3] at h
      refine v_sub [] rfl ?_
      exact t_X3_keep_23 x h F E
    · rw [if_neg c3] at h
      refine v_aload_n F (dq dkX3_keep_0 8 rfl) rfl 2 rfl ?_
      obtain ⟨g4, h⟩ := gd_of h
      refine v_alen F a2 (xl_lt g4) (xl_at g4) (t := 0) rfl (n := nI (al a2)) rfl (dq dkX3_keep_0 9 rfl) ?_
      refine v_iconst F (v := 3) (dq dkX3_keep_0 10 rfl) ki_3 ?_
      refine v_icmp_ge F (tgt := 26) (dq dkX3_keep_0 11 rfl) (by decide) (fun c5 => ?_) (fun c5 => ?_)
      · rw [if_pos c5] at h
        refine v_aload_n F (dq dkX3_keep_0 14 rfl) rfl 1 rfl ?_
        refine v_iconst F (v := 0) (dq dkX3_keep_0 15 rfl) ki_0 ?_
        refine v_aload_n F (dq dkX3_keep_0 16 rfl) rfl 0 rfl ?_
        refine v_get F 10 (xn (by decide)) xc_10 rfl inlX3 0 (by decide) (tc3 _ (List.mem_of_getElem? (i := 13) rfl)) rfl rfl (dq dkX3_keep_0 17 rfl) ?_
        refine v_aload_n F (dq dkX3_keep_0 18 rfl) rfl 0 rfl ?_
        refine v_get F 10 (xn (by decide)) xc_10 rfl inlX3 3 (by decide) (tc3 _ (List.mem_of_getElem? (i := 16) rfl)) rfl rfl (dq dkX3_keep_0 19 rfl) ?_
        obtain ⟨g6, h⟩ := gd_of h
        refine v_aald F 11 (xn (by decide)) xc_11 (t := 2) rfl rfl (ib_in g6) (dq dkX3_keep_0 20 rfl) ?_
        refine v_iconst F (v := 0) (dq dkX3_keep_0 21 rfl) ki_0 ?_
        refine v_sipush F (v := 160) (dq dkX3_keep_0 22 rfl) ks_160 ?_
        obtain ⟨g7, h⟩ := gd_of h
        obtain ⟨g8, h⟩ := gd_of h
        obtain ⟨g9, h⟩ := gd_of h
        refine v_copy F a1 (12 + (gi x 10 3).toNatClampNeg) (xl_lt g7) (xl_at g7) (xl_lt g8) (xl_at g8) g9 (tc11 _ (List.mem_of_getElem? (i := 5) rfl)) (tc11 _ (List.mem_of_getElem? (i := 6) rfl)) (tc11 _ (List.mem_of_getElem? (i := 7) rfl)) (tc11 _ (List.mem_of_getElem? (i := 8) rfl)) (Nat.le_of_ble_eq_true rfl) (Nat.le_of_ble_eq_true rfl) (dq dkX3_keep_0 23 rfl) ?_
        refine v_eqM (xwF (xl_lc g8) ((xa_all (of_decide_eq_true g8)).2 _)) ?_
        refine v_aload_n F (dq dkX3_keep_0 24 rfl) rfl 2 rfl ?_
        refine v_iconst F (v := 0) (dq dkX3_keep_0 25 rfl) ki_0 ?_
        refine v_aload_n F (dq dkX3_keep_0 26 rfl) rfl 0 rfl ?_
        refine v_get F 10 (xn (by decide)) xc_10 rfl inlX3 1 (by decide) (tc3 _ (List.mem_of_getElem? (i := 14) rfl)) rfl rfl (dq dkX3_keep_0 27 rfl) ?_
        refine v_aload_n F (dq dkX3_keep_0 28 rfl) rfl 0 rfl ?_
        refine v_get F 10 (xn (by decide)) xc_10 rfl inlX3 3 (by decide) (tc3 _ (List.mem_of_getElem? (i := 16) rfl)) rfl rfl (dq dkX3_keep_0 29 rfl) ?_
        obtain ⟨g10, h⟩ := gd_of h
        refine v_aald F 18 (xn (by decide)) xc_18 (t := 2) rfl rfl (ib_in g10) (dq dkX3_keep_0 30 rfl) ?_
        refine v_iconst F (v := 0) (dq dkX3_keep_0 31 rfl) ki_0 ?_
        refine v_iconst F (v := 3) (dq dkX3_keep_0 32 rfl) ki_3 ?_
        obtain ⟨g11, h⟩ := gd_of h
        obtain ⟨g12, h⟩ := gd_of h
        obtain ⟨g13, h⟩ := gd_of h
        refine v_copy F a2 (19 + (gi (pf x (12 + (gi x 10 3).toNatClampNeg) (va_cpy (gi x a1) (gi x (12 + (gi x 10 3).toNatClampNeg)) (0 : Int32).toNatClampNeg (0 : Int32).toNatClampNeg (160 : Int32).toNatClampNeg)) 10 3).toNatClampNeg) (xl_lt g11) (xl_at g11) (xl_lt g12) (xl_at g12) g13 (tc11 _ (List.mem_of_getElem? (i := 5) rfl)) (tc11 _ (List.mem_of_getElem? (i := 6) rfl)) (tc11 _ (List.mem_of_getElem? (i := 7) rfl)) (tc11 _ (List.mem_of_getElem? (i := 8) rfl)) (Nat.le_of_ble_eq_true rfl) (Nat.le_of_ble_eq_true rfl) (dq dkX3_keep_0 33 rfl) ?_
        refine v_eqM (xwF (xl_lc g12) ((xa_all (of_decide_eq_true g12)).2 _)) ?_
        refine v_aload_n F (dq dkX3_keep_0 34 rfl) rfl 0 rfl ?_
        refine v_dup F (dq dkX3_keep_0 35 rfl) rfl ?_
        refine v_get F 10 (xn (by decide)) xc_10 rfl inlX3 3 (by decide) (tc3 _ (List.mem_of_getElem? (i := 16) rfl)) rfl rfl (dq dkX3_keep_0 36 rfl) ?_
        refine v_iconst F (v := 1) (dq dkX3_keep_0 37 rfl) ki_1 ?_
        refine v_iadd F (dq dkX3_keep_0 38 rfl) ?_
        refine v_put F 10 (xn (by decide)) xc_10 rfl inlX3 tyX3_ok nmX3 3 (by decide) (tc3 _ (List.mem_of_getElem? (i := 16) rfl)) rfl rfl (tyX3_ok 3 (by decide)) rfl rfl (Nat.le_of_ble_eq_true rfl) (dq dkX3_keep_0 39 rfl) ?_
        refine v_eqM (xwC (q := 10) (j := 3) (v := (gi (pf (pf x (12 + (gi x 10 3).toNatClampNeg) (va_cpy (gi x a1) (gi x (12 + (gi x 10 3).toNatClampNeg)) (0 : Int32).toNatClampNeg (0 : Int32).toNatClampNeg (160 : Int32).toNatClampNeg)) (19 + (gi (pf x (12 + (gi x 10 3).toNatClampNeg) (va_cpy (gi x a1) (gi x (12 + (gi x 10 3).toNatClampNeg)) (0 : Int32).toNatClampNeg (0 : Int32).toNatClampNeg (160 : Int32).toNatClampNeg)) 10 3).toNatClampNeg) (va_cpy (gi (pf x (12 + (gi x 10 3).toNatClampNeg) (va_cpy (gi x a1) (gi x (12 + (gi x 10 3).toNatClampNeg)) (0 : Int32).toNatClampNeg (0 : Int32).toNatClampNeg (160 : Int32).toNatClampNeg)) a2) (gi (pf x (12 + (gi x 10 3).toNatClampNeg) (va_cpy (gi x a1) (gi x (12 + (gi x 10 3).toNatClampNeg)) (0 : Int32).toNatClampNeg (0 : Int32).toNatClampNeg (160 : Int32).toNatClampNeg)) (19 + (gi (pf x (12 + (gi x 10 3).toNatClampNeg) (va_cpy (gi x a1) (gi x (12 + (gi x 10 3).toNatClampNeg)) (0 : Int32).toNatClampNeg (0 : Int32).toNatClampNeg (160 : Int32).toNatClampNeg)) 10 3).toNatClampNeg)) (0 : Int32).toNatClampNeg (0 : Int32).toNatClampNeg (3 : Int32).toNatClampNeg)) 10 3) + 1) (by decide) rfl) ?_
        refine v_aload_n F (dq dkX3_keep_1 0 rfl) rfl 0 rfl ?_
        refine v_get F 10 (xn (by decide)) xc_10 rfl inlX3 3 (by decide) (tc3 _ (List.mem_of_getElem? (i := 16) rfl)) rfl rfl (dq dkX3_keep_1 1 rfl) ?_
        refine v_iconst F (v := 1) (dq dkX3_keep_1 2 rfl) ki_1 ?_
        refine v_isub F (dq dkX3_keep_1 3 rfl) ?_
        have h := Option.some.inj h
        subst h
        exact v_iret F E (dq dkX3_keep_1 4 rfl)
      · rw [if_neg c5] at h
        refine v_sub [] rfl ?_
        exact t_X3_keep_23 x h F E
def rm_X4_become : Room := { frames := 1, cells := 0, slots := 0, locals := 30 }
def f_X4_become_30 (t0 : Nat) : Nat → CS → Int32 → Option (CS)
  | 0, _, _ => none
  | n + 1, x, a3 => if 40 ≤ a3 then (some x) else (gd (kSh t0) (gd (ib a3 (al (t0 + 1))) ((f_X4_become_30 t0 n) (pi x (t0 + 1) a3.toNatClampNeg 0) (a3 + 1))))
set_option maxRecDepth 100000 in
set_option maxHeartbeats 4000000 in
theorem t_X4_become_30 {C : Cx} {K : KE} {y : MS} {R : CS}  (t0 : Nat) (F : Fx C RX4 cX4_become 4 rm_X4_become K) (E : CE C (xf K R y) none 0 0 none) : ∀ (n : Nat) (x : CS) (a3 : Int32) (h : f_X4_become_30 t0 n x a3 = some R), V C 30 [(0, .ref (K.1 + t0)), (3, .int a3)] [] (xf K x y) 0 0 := by
  intro n
  induction n with
  | zero => intro x a3 h; cases h
  | succ n ih =>
    intro x a3 h
    rw [f_X4_become_30] at h
    refine v_iload_n F (dq dkX4_become_0 17 rfl) rfl 1 rfl ?_
    refine v_bipush F (v := 40) (dq dkX4_become_0 18 rfl) kb_40 ?_
    refine v_icmp_ge F (tgt := 49) (dq dkX4_become_0 19 rfl) (by decide) (fun c1 => ?_) (fun c1 => ?_)
    · rw [if_pos c1] at h
      have h := Option.some.inj h
      subst h
      exact v_vret F E (dq dkX4_become_0 27 rfl)
    · rw [if_neg c1] at h
      refine v_aload_n F (dq dkX4_become_0 20 rfl) rfl 0 rfl ?_
      obtain ⟨g2, h⟩ := gd_of h
      refine v_get F t0 (kSh_lt g2) (kSh_at g2) rfl inlX4 0 (by decide) (tc5 _ (List.mem_of_getElem? (i := 16) rfl)) rfl rfl (dq dkX4_become_0 21 rfl) ?_
      refine v_iload_n F (dq dkX4_become_0 22 rfl) rfl 1 rfl ?_
      refine v_iconst F (v := 0) (dq dkX4_become_0 23 rfl) ki_0 ?_
      obtain ⟨g3, h⟩ := gd_of h
      refine v_iast F (t0 + 1) (xa_lt g3) (xa_at g3) (ib_in g3) (dq dkX4_become_0 24 rfl) ?_
      refine v_eqM (xwC (q := (t0 + 1)) (j := a3.toNatClampNeg) (v := 0) (xa_lc g3) (xa_e g3)) ?_
      refine v_iinc F (v := a3 + 1) (ls' := [(3, .int (a3 + 1)), (0, .ref (K.1 + t0))]) (dq dkX4_become_0 25 rfl) (j := 1) rfl (kv_add ki_1) (by decide) rfl ?_
      refine v_goto F (tgt := 30) (dq dkX4_become_0 26 rfl) (by decide) ?_
      refine v_sub [1, 0] rfl ?_
      exact ih (pi x (t0 + 1) a3.toNatClampNeg 0) (a3 + 1) h
def f_X4_become_25 (t0 : Nat) (x : CS) (s0 : Int32) (s1 : Nat) : Option (CS) := gd (kSh s1) (f_X4_become_30 t0 1000 (pi x s1 2 s0) 0)
set_option maxRecDepth 100000 in
set_option maxHeartbeats 4000000 in
theorem t_X4_become_25 {C : Cx} {K : KE} {y : MS} {R : CS}  (t0 : Nat) (x : CS) (s0 : Int32) (s1 : Nat) (h : f_X4_become_25 t0 x s0 s1 = some R) (F : Fx C RX4 cX4_become 4 rm_X4_become K) (E : CE C (xf K R y) none 0 0 none) : V C 25 [(0, .ref (K.1 + t0))] [.int s0, .ref (K.1 + s1)] (xf K x y) 0 0 := by
  unfold f_X4_become_25 at h
  obtain ⟨g4, h⟩ := gd_of h
  refine v_put F s1 (kSh_lt g4) (kSh_at g4) rfl inlX4 tyX4_ok nmX4 2 (by decide) (tc5 _ (List.mem_of_getElem? (i := 18) rfl)) rfl rfl (tyX4_ok 2 (by decide)) rfl rfl (Nat.le_of_ble_eq_true rfl) (dq dkX4_become_0 14 rfl) ?_
  refine v_eqM (kSh_w2 g4) ?_
  refine v_iconst F (v := 0) (dq dkX4_become_0 15 rfl) ki_0 ?_
  refine v_istore_n F (ls' := [(3, .int 0), (0, .ref (K.1 + t0))]) (dq dkX4_become_0 16 rfl) rfl (by decide) rfl ?_
  refine v_sub [1, 0] rfl ?_
  exact t_X4_become_30 t0 F E 1000 (pi x s1 2 s0) 0 h
def f_X4_become (x : CS) (t0 : Nat) (a1 : Int32) (a2 : Int32) : Option (CS) := gd (kSh t0) (gd (kSh t0) (if a1 = (-1) then (f_X4_become_25 t0 (pi x t0 1 a1) 0 t0) else (f_X4_become_25 t0 (pi x t0 1 a1) (if 0 < (if 40 < a2 then 40 else a2) then (if 40 < a2 then 40 else a2) else 0) t0)))
set_option maxRecDepth 100000 in
set_option maxHeartbeats 4000000 in
theorem c_X4_become {K : KE} {l : Launch} {R : CS} (x : CS) (y : MS) (t0 : Nat) (a1 : Int32) (a2 : Int32) (h : f_X4_become x t0 a1 a2 = some R) : MC K l yX4_become cX4_become 4 none rm_X4_become 0 0 [.ref (K.1 + t0), .int a1, .int a2] (xf K x y) (xf K R y) none := by
  unfold f_X4_become at h
  obtain ⟨_, h⟩ := gd_of h
  refine mc_of (ls0 := [(0, .ref (K.1 + t0)), (1, .int a1), (2, .int a2)]) (by decide) (Nat.le_of_ble_eq_true rfl) rfl (fun C hl hnm F E => ?_)
  have F : Fx C RX4 cX4_become 4 rm_X4_become K := F
  refine v_aload_n F (dq dkX4_become_0 0 rfl) rfl 0 rfl ?_
  refine v_iload_n F (dq dkX4_become_0 1 rfl) rfl 1 rfl ?_
  obtain ⟨g5, h⟩ := gd_of h
  refine v_put F t0 (kSh_lt g5) (kSh_at g5) rfl inlX4 tyX4_ok nmX4 1 (by decide) (tc5 _ (List.mem_of_getElem? (i := 17) rfl)) rfl rfl (tyX4_ok 1 (by decide)) rfl rfl (Nat.le_of_ble_eq_true rfl) (dq dkX4_become_0 2 rfl) ?_
  refine v_eqM (kSh_w1 g5) ?_
  refine v_aload_n F (dq dkX4_become_0 3 rfl) rfl 0 rfl ?_
  refine v_iload_n F (dq dkX4_become_0 4 rfl) rfl 1 rfl ?_
  refine v_iconst F (v := (-1)) (dq dkX4_become_0 5 rfl) ki_m1 ?_
  refine v_icmp_ne F (tgt := 15) (dq dkX4_become_0 6 rfl) (by decide) (fun c6 => ?_) (fun c6 => ?_)
  · rw [if_neg c6] at h
    refine v_iconst F (v := 0) (dq dkX4_become_0 9 rfl) ki_0 ?_
    refine v_iload_n F (dq dkX4_become_0 10 rfl) rfl 2 rfl ?_
    refine v_bipush F (v := 40) (dq dkX4_become_0 11 rfl) kb_40 ?_
    refine v_mmin F (tc51 _ (List.mem_of_getElem? (i := 17) rfl)) (tc21 _ (List.mem_of_getElem? (i := 0) rfl)) (tc21 _ (List.mem_of_getElem? (i := 1) rfl)) (tc21 _ (List.mem_of_getElem? (i := 2) rfl)) (Nat.le_of_ble_eq_true rfl) (Nat.le_of_ble_eq_true rfl) (Nat.le_of_ble_eq_true rfl) (Nat.le_of_ble_eq_true rfl) (dq dkX4_become_0 12 rfl) ?_
    refine v_mmax F (tc51 _ (List.mem_of_getElem? (i := 18) rfl)) (tc21 _ (List.mem_of_getElem? (i := 4) rfl)) (tc21 _ (List.mem_of_getElem? (i := 1) rfl)) (tc21 _ (List.mem_of_getElem? (i := 5) rfl)) (Nat.le_of_ble_eq_true rfl) (Nat.le_of_ble_eq_true rfl) (Nat.le_of_ble_eq_true rfl) (Nat.le_of_ble_eq_true rfl) (dq dkX4_become_0 13 rfl) ?_
    refine v_sub [0] rfl ?_
    exact t_X4_become_25 t0 (pi x t0 1 a1) (if 0 < (if 40 < a2 then 40 else a2) then (if 40 < a2 then 40 else a2) else 0) t0 h F E
  · rw [if_pos c6] at h
    refine v_iconst F (v := 0) (dq dkX4_become_0 7 rfl) ki_0 ?_
    refine v_goto F (tgt := 25) (dq dkX4_become_0 8 rfl) (by decide) ?_
    refine v_sub [0] rfl ?_
    exact t_X4_become_25 t0 (pi x t0 1 a1) 0 t0 h F E
theorem f_X4_become_k {R : CS} {x : CS} {t0 : Nat} {a1 : Int32} {a2 : Int32} (h : f_X4_become x t0 a1 a2 = some R) : kSh t0 = true := by
  unfold f_X4_become at h
  exact (gd_of h).1
def rm_X4_isMissing : Room := { frames := 1, cells := 0, slots := 0, locals := 30 }
def f_X4_isMissing (x : CS) (t0 : Nat) : Option (Bool) := gd (kSh t0) (gd (kSh t0) (if (gi x t0 1) = (-1) then (some true) else (some false)))
set_option maxRecDepth 100000 in
set_option maxHeartbeats 4000000 in
theorem c_X4_isMissing {K : KE} {l : Launch} {R : Bool} (x : CS) (y : MS) (t0 : Nat) (h : f_X4_isMissing x t0 = some R) : MC K l yX4_isMissing cX4_isMissing 1 (some .boolean) rm_X4_isMissing 0 0 [.ref (K.1 + t0)] (xf K x y) (xf K x y) (some (.int (b2i R))) := by
  unfold f_X4_isMissing at h
  obtain ⟨_, h⟩ := gd_of h
  refine mc_of (ls0 := [(0, .ref (K.1 + t0))]) (by decide) (Nat.le_of_ble_eq_true rfl) rfl (fun C hl hnm F E => ?_)
  have F : Fx C RX4 cX4_isMissing 1 rm_X4_isMissing K := F
  refine v_aload_n F (dq dkX4_isMissing_0 0 rfl) rfl 0 rfl ?_
  obtain ⟨g1, h⟩ := gd_of h
  refine v_get F t0 (kSh_lt g1) (kSh_at g1) rfl inlX4 1 (by decide) (tc5 _ (List.mem_of_getElem? (i := 17) rfl)) rfl rfl (dq dkX4_isMissing_0 1 rfl) ?_
  refine v_iconst F (v := (-1)) (dq dkX4_isMissing_0 2 rfl) ki_m1 ?_
  refine v_icmp_ne F (tgt := 12) (dq dkX4_isMissing_0 3 rfl) (by decide) (fun c2 => ?_) (fun c2 => ?_)
  · rw [if_neg c2] at h
    refine v_iconst F (v := 0) (dq dkX4_isMissing_0 6 rfl) ki_0 ?_
    have h := Option.some.inj h
    subst h
    exact v_zret F E (b2i_n false) (dq dkX4_isMissing_0 7 rfl)
  · rw [if_pos c2] at h
    refine v_iconst F (v := 1) (dq dkX4_isMissing_0 4 rfl) ki_1 ?_
    refine v_goto F (tgt := 13) (dq dkX4_isMissing_0 5 rfl) (by decide) ?_
    have h := Option.some.inj h
    subst h
    exact v_zret F E (b2i_n true) (dq dkX4_isMissing_0 7 rfl)
theorem f_X4_isMissing_k {R : Bool} {x : CS} {t0 : Nat} (h : f_X4_isMissing x t0 = some R) : kSh t0 = true := by
  unfold f_X4_isMissing at h
  exact (gd_of h).1
def rm_X4_hasAll : Room := { frames := 1, cells := 0, slots := 0, locals := 30 }
def f_X4_hasAll_22 (t0 : Nat) (x : CS) : Option (Bool) := some false
set_option maxRecDepth 100000 in
set_option maxHeartbeats 4000000 in
theorem t_X4_hasAll_22 {C : Cx} {K : KE} {y : MS} {R : Bool}  (t0 : Nat) (x : CS) (h : f_X4_hasAll_22 t0 x = some R) (F : Fx C RX4 cX4_hasAll 3 rm_X4_hasAll K) (E : CE C (xf K x y) (some (.int (b2i R))) 0 0 (some .boolean)) : V C 22 [] [] (xf K x y) 0 0 := by
  unfold f_X4_hasAll_22 at h
  refine v_iconst F (v := 0) (dq dkX4_hasAll_0 12 rfl) ki_0 ?_
  have h := Option.some.inj h
  subst h
  exact v_zret F E (b2i_n false) (dq dkX4_hasAll_0 13 rfl)
def f_X4_hasAll (x : CS) (t0 : Nat) (a1 : Int32) (a2 : Int32) : Option (Bool) := gd (kSh t0) (if a2 < 0 then (f_X4_hasAll_22 t0 x) else (if a1 < 0 then (f_X4_hasAll_22 t0 x) else (gd (kSh t0) (if ((gi x t0 2) - a2) < a1 then (f_X4_hasAll_22 t0 x) else (some true)))))
set_option maxRecDepth 100000 in
set_option maxHeartbeats 4000000 in
theorem c_X4_hasAll {K : KE} {l : Launch} {R : Bool} (x : CS) (y : MS) (t0 : Nat) (a1 : Int32) (a2 : Int32) (h : f_X4_hasAll x t0 a1 a2 = some R) : MC K l yX4_hasAll cX4_hasAll 3 (some .boolean) rm_X4_hasAll 0 0 [.ref (K.1 + t0), .int a1, .int a2] (xf K x y) (xf K x y) (some (.int (b2i R))) := by
  unfold f_X4_hasAll at h
  obtain ⟨_, h⟩ := gd_of h
  refine mc_of (ls0 := [(0, .ref (K.1 + t0)), (1, .int a1), (2, .int a2)]) (by decide) (Nat.le_of_ble_eq_true rfl) rfl (fun C hl hnm F E => ?_)
  have F : Fx C RX4 cX4_hasAll 3 rm_X4_hasAll K := F
  refine v_iload_n F (dq dkX4_hasAll_0 0 rfl) rfl 2 rfl ?_
  refine v_if_lt F (tgt := 22) (dq dkX4_hasAll_0 1 rfl) (by decide) (fun c1 => ?_) (fun c1 => ?_)
  · rw [if_pos c1] at h
    refine v_sub [] rfl ?_
    exact t_X4_hasAll_22 t0 x h F E
  · rw [if_neg c1] at h
    refine v_iload_n F (dq dkX4_hasAll_0 2 rfl) rfl 1 rfl ?_
    refine v_if_lt F (tgt := 22) (dq dkX4_hasAll_0 3 rfl) (by decide) (fun c2 => ?_) (fun c2 => ?_)
    · rw [if_pos c2] at h
      refine v_sub [] rfl ?_
      exact t_X4_hasAll_22 t0 x h F E
    · rw [if_neg c2] at h
      refine v_iload_n F (dq dkX4_hasAll_0 4 rfl) rfl 1 rfl ?_
      refine v_aload_n F (dq dkX4_hasAll_0 5 rfl) rfl 0 rfl ?_
      obtain ⟨g3, h⟩ := gd_of h
      refine v_get F t0 (kSh_lt g3) (kSh_at g3) rfl inlX4 2 (by decide) (tc5 _ (List.mem_of_getElem? (i := 18) rfl)) rfl rfl (dq dkX4_hasAll_0 6 rfl) ?_
      refine v_iload_n F (dq dkX4_hasAll_0 7 rfl) rfl 2 rfl ?_
      refine v_isub F (dq dkX4_hasAll_0 8 rfl) ?_
      refine v_icmp_gt F (tgt := 22) (dq dkX4_hasAll_0 9 rfl) (by decide) (fun c4 => ?_) (fun c4 => ?_)
      · rw [if_pos c4] at h
        refine v_sub [] rfl ?_
        exact t_X4_hasAll_22 t0 x h F E
      · rw [if_neg c4] at h
        refine v_iconst F (v := 1) (dq dkX4_hasAll_0 10 rfl) ki_1 ?_
        refine v_goto F (tgt := 23) (dq dkX4_hasAll_0 11 rfl) (by decide) ?_
        have h := Option.some.inj h
        subst h
        exact v_zret F E (b2i_n true) (dq dkX4_hasAll_0 13 rfl)
theorem f_X4_hasAll_k {R : Bool} {x : CS} {t0 : Nat} {a1 : Int32} {a2 : Int32} (h : f_X4_hasAll x t0 a1 a2 = some R) : kSh t0 = true := by
  unfold f_X4_hasAll at h
  exact (gd_of h).1
def rm_X4_put : Room := { frames := 2, cells := 0, slots := 0, locals := 51 }
def f_X4_put (x : CS) (t0 : Nat) (a1 : Int32) (a2 : Int32) : Option (CS) := gd (kSh t0) ((f_X4_has x t0 a1).bind fun r1 => if (b2i r1) = 0 then (some x) else (gd (kSh t0) (if (gi x t0 1) = 0 then (gd (kSh t0) (gd (ib a1 (al (t0 + 1))) (some (pi x (t0 + 1) a1.toNatClampNeg a2.toInt8.toInt32)))) else (gd (kSh t0) (if (gi x t0 1) = 1 then (gd (kSh t0) (gd (ib a1 (al (t0 + 1))) (some (pi x (t0 + 1) a1.toNatClampNeg a2.toInt16.toInt32)))) else (gd (kSh t0) (gd (ib a1 (al (t0 + 1))) (some (pi x (t0 + 1) a1.toNatClampNeg a2)))))))))
set_option maxRecDepth 100000 in
set_option maxHeartbeats 4000000 in
theorem c_X4_put {K : KE} {l : Launch} {R : CS} (x : CS) (y : MS) (t0 : Nat) (a1 : Int32) (a2 : Int32) (h : f_X4_put x t0 a1 a2 = some R) : MC K l yX4_put cX4_put 3 none rm_X4_put 0 0 [.ref (K.1 + t0), .int a1, .int a2] (xf K x y) (xf K R y) none := by
  unfold f_X4_put at h
  obtain ⟨_, h⟩ := gd_of h
  refine mc_of (ls0 := [(0, .ref (K.1 + t0)), (1, .int a1), (2, .int a2)]) (by decide) (Nat.le_of_ble_eq_true rfl) rfl (fun C hl hnm F E => ?_)
  have F : Fx C RX4 cX4_put 3 rm_X4_put K := F
  refine v_aload_n F (dq dkX4_put_0 0 rfl) rfl 0 rfl ?_
  refine v_iload_n F (dq dkX4_put_0 1 rfl) rfl 1 rfl ?_
  obtain ⟨r1, e2, h⟩ := bd_of h
  refine v_callV 1 F (q := t0) (kc1 := 0) (ks1 := 0) (as := [.int a1]) (st := []) (st1 := (.int (b2i r1) :: [])) (res := (some (.int (b2i r1)))) (c_X4_has (l := C.2.1) x y t0 a1 e2) (kSh_lt (f_X4_has_k e2)) (kSh_at (f_X4_has_k e2)) rfl (tc35 _ (List.mem_of_getElem? (i := 11) rfl)) (tc35 _ (List.mem_of_getElem? (i := 12) rfl)) (tc35 _ (List.mem_of_getElem? (i := 13) rfl)) (tc2 _ (List.mem_of_getElem? (i := 22) rfl)) (tc35 _ (List.mem_of_getElem? (i := 14) rfl)) (by decide) rfl ⟨rfl, rfl, Nat.le_of_ble_eq_true rfl, Nat.le_of_ble_eq_true rfl⟩ ⟨Nat.le_of_ble_eq_true rfl, Nat.le_of_ble_eq_true rfl⟩ rfl (Nat.le_of_ble_eq_true rfl) rfl rfl rfl (dq dkX4_put_0 2 rfl) ?_
  refine v_if_ne F (tgt := 9) (dq dkX4_put_0 3 rfl) (by decide) (fun c3 => ?_) (fun c3 => ?_)
  · rw [if_neg c3] at h
    refine v_aload_n F (dq dkX4_put_0 5 rfl) rfl 0 rfl ?_
    obtain ⟨g4, h⟩ := gd_of h
    refine v_get F t0 (kSh_lt g4) (kSh_at g4) rfl inlX4 1 (by decide) (tc5 _ (List.mem_of_getElem? (i := 17) rfl)) rfl rfl (dq dkX4_put_0 6 rfl) ?_
    refine v_if_ne F (tgt := 27) (dq dkX4_put_0 7 rfl) (by decide) (fun c5 => ?_) (fun c5 => ?_)
    · rw [if_neg c5] at h
      refine v_aload_n F (dq dkX4_put_0 15 rfl) rfl 0 rfl ?_
      obtain ⟨g6, h⟩ := gd_of h
      refine v_get F t0 (kSh_lt g6) (kSh_at g6) rfl inlX4 1 (by decide) (tc5 _ (List.mem_of_getElem? (i := 17) rfl)) rfl rfl (dq dkX4_put_0 16 rfl) ?_
      refine v_iconst F (v := 1) (dq dkX4_put_0 17 rfl) ki_1 ?_
      refine v_icmp_ne F (tgt := 46) (dq dkX4_put_0 18 rfl) (by decide) (fun c7 => ?_) (fun c7 => ?_)
      · rw [if_neg c7] at h
        refine v_aload_n F (dq dkX4_put_0 26 rfl) rfl 0 rfl ?_
        obtain ⟨g8, h⟩ := gd_of h
        refine v_get F t0 (kSh_lt g8) (kSh_at g8) rfl inlX4 0 (by decide) (tc5 _ (List.mem_of_getElem? (i := 16) rfl)) rfl rfl (dq dkX4_put_0 27 rfl) ?_
        refine v_iload_n F (dq dkX4_put_0 28 rfl) rfl 1 rfl ?_
        refine v_iload_n F (dq dkX4_put_0 29 rfl) rfl 2 rfl ?_
        obtain ⟨g9, h⟩ := gd_of h
        refine v_iast F (t0 + 1) (xa_lt g9) (xa_at g9) (ib_in g9) (dq dkX4_put_0 30 rfl) ?_
        refine v_eqM (xwC (q := (t0 + 1)) (j := a1.toNatClampNeg) (v := a2) (xa_lc g9) (xa_e g9)) ?_
        have h := Option.some.inj h
        subst h
        exact v_vret F E (dq dkX4_put_0 31 rfl)
      · rw [if_pos c7] at h
        refine v_aload_n F (dq dkX4_put_0 19 rfl) rfl 0 rfl ?_
        obtain ⟨g10, h⟩ := gd_of h
        refine v_get F t0 (kSh_lt g10) (kSh_at g10) rfl inlX4 0 (by decide) (tc5 _ (List.mem_of_getElem? (i := 16) rfl)) rfl rfl (dq dkX4_put_0 20 rfl) ?_
        refine v_iload_n F (dq dkX4_put_0 21 rfl) rfl 1 rfl ?_
        refine v_iload_n F (dq dkX4_put_0 22 rfl) rfl 2 rfl ?_
        refine v_i2s F (dq dkX4_put_0 23 rfl) ?_
        obtain ⟨g11, h⟩ := gd_of h
        refine v_iast F (t0 + 1) (xa_lt g11) (xa_at g11) (ib_in g11) (dq dkX4_put_0 24 rfl) ?_
        refine v_eqM (xwC (q := (t0 + 1)) (j := a1.toNatClampNeg) (v := a2.toInt16.toInt32) (xa_lc g11) (xa_e g11)) ?_
        refine v_goto F (tgt := 53) (dq dkX4_put_0 25 rfl) (by decide) ?_
        have h := Option.some.inj h
        subst h
        exact v_vret F E (dq dkX4_put_0 31 rfl)
    · rw [if_pos c5] at h
      refine v_aload_n F (dq dkX4_put_0 8 rfl) rfl 0 rfl ?_
      obtain ⟨g12, h⟩ := gd_of h
      refine v_get F t0 (kSh_lt g12) (kSh_at g12) rfl inlX4 0 (by decide) (tc5 _ (List.mem_of_getElem? (i := 16) rfl)) rfl rfl (dq dkX4_put_0 9 rfl) ?_
      refine v_iload_n F (dq dkX4_put_0 10 rfl) rfl 1 rfl ?_
      refine v_iload_n F (dq dkX4_put_0 11 rfl) rfl 2 rfl ?_
      refine v_i2b F (dq dkX4_put_0 12 rfl) ?_
      obtain ⟨g13, h⟩ := gd_of h
      refine v_iast F (t0 + 1) (xa_lt g13) (xa_at g13) (ib_in g13) (dq dkX4_put_0 13 rfl) ?_
      refine v_eqM (xwC (q := (t0 + 1)) (j := a1.toNatClampNeg) (v := a2.toInt8.toInt32) (xa_lc g13) (xa_e g13)) ?_
      refine v_goto F (tgt := 53) (dq dkX4_put_0 14 rfl) (by decide) ?_
      have h := Option.some.inj h
      subst h
      exact v_vret F E (dq dkX4_put_0 31 rfl)
  · rw [if_pos c3] at h
    have h := Option.some.inj h
    subst h
    exact v_vret F E (dq dkX4_put_0 4 rfl)
theorem f_X4_put_k {R : CS} {x : CS} {t0 : Nat} {a1 : Int32} {a2 : Int32} (h : f_X4_put x t0 a1 a2 = some R) : kSh t0 = true := by
  unfold f_X4_put at h
  exact (gd_of h).1
def rm_X6_append : Room := { frames := 1, cells := 0, slots := 0, locals := 30 }
def f_X6_append (x : CS) (a1 : Int32) : Option (CS) := if 160 ≤ (gi x 26 1) then (some x) else (gd (ib (gi x 26 1) 160) (some (pi (pi x 27 ((gi x 26 1).toNatClampNeg) a1) 26 1 ((gi (pi x 27 ((gi x 26 1).toNatClampNeg) a1) 26 1) + 1))))
set_option maxRecDepth 100000 in
set_option maxHeartbeats 4000000 in
theorem c_X6_append {K : KE} {l : Launch} {R : CS} (x : CS) (y : MS) (a1 : Int32) (h : f_X6_append x a1 = some R) : MC K l yX6_append cX6_append 2 none rm_X6_append 0 0 [.ref (K.1 + 26), .int a1] (xf K x y) (xf K R y) none := by
  unfold f_X6_append at h
  refine mc_of (ls0 := [(0, .ref (K.1 + 26)), (1, .int a1)]) (by decide) (Nat.le_of_ble_eq_true rfl) rfl (fun C hl hnm F E => ?_)
  have F : Fx C RX6 cX6_append 2 rm_X6_append K := F
  refine v_aload_n F (dq dkX6_append_0 0 rfl) rfl 0 rfl ?_
  refine v_get F 26 (xn (by decide)) xc_26 rfl inlX6 1 (by decide) (tc3 _ (List.mem_of_getElem? (i := 21) rfl)) rfl rfl (dq dkX6_append_0 1 rfl) ?_
  refine v_sipush F (v := 160) (dq dkX6_append_0 2 rfl) ks_160 ?_
  refine v_icmp_ge F (tgt := 30) (dq dkX6_append_0 3 rfl) (by decide) (fun c1 => ?_) (fun c1 => ?_)
  · rw [if_pos c1] at h
    have h := Option.some.inj h
    subst h
    exact v_vret F E (dq dkX6_append_0 16 rfl)
  · rw [if_neg c1] at h
    refine v_aload_n F (dq dkX6_append_0 4 rfl) rfl 0 rfl ?_
    refine v_get F 26 (xn (by decide)) xc_26 rfl inlX6 0 (by decide) (tc3 _ (List.mem_of_getElem? (i := 20) rfl)) rfl rfl (dq dkX6_append_0 5 rfl) ?_
    refine v_aload_n F (dq dkX6_append_0 6 rfl) rfl 0 rfl ?_
    refine v_get F 26 (xn (by decide)) xc_26 rfl inlX6 1 (by decide) (tc3 _ (List.mem_of_getElem? (i := 21) rfl)) rfl rfl (dq dkX6_append_0 7 rfl) ?_
    refine v_iload_n F (dq dkX6_append_0 8 rfl) rfl 1 rfl ?_
    obtain ⟨g2, h⟩ := gd_of h
    refine v_iast F 27 (xn (by decide)) xc_27 (ib_in g2) (dq dkX6_append_0 9 rfl) ?_
    refine v_eqM (xwC (q := 27) (j := (gi x 26 1).toNatClampNeg) (v := a1) (by decide) rfl) ?_
    refine v_aload_n F (dq dkX6_append_0 10 rfl) rfl 0 rfl ?_
    refine v_dup F (dq dkX6_append_0 11 rfl) rfl ?_
    refine v_get F 26 (xn (by decide)) xc_26 rfl inlX6 1 (by decide) (tc3 _ (List.mem_of_getElem? (i := 21) rfl)) rfl rfl (dq dkX6_append_0 12 rfl) ?_
    refine v_iconst F (v := 1) (dq dkX6_append_0 13 rfl) ki_1 ?_
    refine v_iadd F (dq dkX6_append_0 14 rfl) ?_
    refine v_put F 26 (xn (by decide)) xc_26 rfl inlX6 tyX6_ok nmX6 1 (by decide) (tc3 _ (List.mem_of_getElem? (i := 21) rfl)) rfl rfl (tyX6_ok 1 (by decide)) rfl rfl (Nat.le_of_ble_eq_true rfl) (dq dkX6_append_0 15 rfl) ?_
    refine v_eqM (xwC (q := 26) (j := 1) (v := (gi (pi x 27 ((gi x 26 1).toNatClampNeg) a1) 26 1) + 1) (by decide) rfl) ?_
    have h := Option.some.inj h
    subst h
    exact v_vret F E (dq dkX6_append_0 16 rfl)
def rm_X6_empty : Room := { frames := 1, cells := 0, slots := 0, locals := 30 }
def f_X6_empty (x : CS) : CS := pi x 26 1 0
set_option maxRecDepth 100000 in
set_option maxHeartbeats 4000000 in
theorem c_X6_empty {K : KE} {l : Launch} (x : CS) (y : MS) : MC K l yX6_empty cX6_empty 1 none rm_X6_empty 0 0 [.ref (K.1 + 26)] (xf K x y) (xf K (f_X6_empty x) y) none := by
  obtain ⟨R, h⟩ : ∃ R, f_X6_empty x = R := ⟨_, rfl⟩
  rw [h]
  unfold f_X6_empty at h
  refine mc_of (ls0 := [(0, .ref (K.1 + 26))]) (by decide) (Nat.le_of_ble_eq_true rfl) rfl (fun C hl hnm F E => ?_)
  have F : Fx C RX6 cX6_empty 1 rm_X6_empty K := F
  refine v_aload_n F (dq dkX6_empty_0 0 rfl) rfl 0 rfl ?_
  refine v_iconst F (v := 0) (dq dkX6_empty_0 1 rfl) ki_0 ?_
  refine v_put F 26 (xn (by decide)) xc_26 rfl inlX6 tyX6_ok nmX6 1 (by decide) (tc3 _ (List.mem_of_getElem? (i := 21) rfl)) rfl rfl (tyX6_ok 1 (by decide)) rfl rfl (Nat.le_of_ble_eq_true rfl) (dq dkX6_empty_0 2 rfl) ?_
  refine v_eqM (xwC (q := 26) (j := 1) (v := 0) (by decide) rfl) ?_
  subst h
  exact v_vret F E (dq dkX6_empty_0 3 rfl)
def rm_X6_byteAt : Room := { frames := 1, cells := 0, slots := 0, locals := 30 }
def f_X6_byteAt_28 (x : CS) : Option (Int32) := some (-1)
set_option maxRecDepth 100000 in
set_option maxHeartbeats 4000000 in
theorem t_X6_byteAt_28 {C : Cx} {K : KE} {y : MS} {R : Int32}  (x : CS) (h : f_X6_byteAt_28 x = some R) (F : Fx C RX6 cX6_byteAt 2 rm_X6_byteAt K) (E : CE C (xf K x y) (some (.int R)) 0 0 (some .int)) : V C 28 [] [] (xf K x y) 0 0 := by
  unfold f_X6_byteAt_28 at h
  refine v_iconst F (v := (-1)) (dq dkX6_byteAt_0 14 rfl) ki_m1 ?_
  have h := Option.some.inj h
  subst h
  exact v_iret F E (dq dkX6_byteAt_0 15 rfl)
def f_X6_byteAt (x : CS) (a1 : Int32) : Option (Int32) := if a1 < 0 then (f_X6_byteAt_28 x) else (if (gi x 26 1) ≤ a1 then (f_X6_byteAt_28 x) else (if 160 ≤ a1 then (f_X6_byteAt_28 x) else (gd (ib a1 160) (some (gi x 27 a1.toNatClampNeg)))))
set_option maxRecDepth 100000 in
set_option maxHeartbeats 4000000 in
theorem c_X6_byteAt {K : KE} {l : Launch} {R : Int32} (x : CS) (y : MS) (a1 : Int32) (h : f_X6_byteAt x a1 = some R) : MC K l yX6_byteAt cX6_byteAt 2 (some .int) rm_X6_byteAt 0 0 [.ref (K.1 + 26), .int a1] (xf K x y) (xf K x y) (some (.int R)) := by
  unfold f_X6_byteAt at h
  refine mc_of (ls0 := [(0, .ref (K.1 + 26)), (1, .int a1)]) (by decide) (Nat.le_of_ble_eq_true rfl) rfl (fun C hl hnm F E => ?_)
  have F : Fx C RX6 cX6_byteAt 2 rm_X6_byteAt K := F
  refine v_iload_n F (dq dkX6_byteAt_0 0 rfl) rfl 1 rfl ?_
  refine v_if_lt F (tgt := 28) (dq dkX6_byteAt_0 1 rfl) (by decide) (fun c1 => ?_) (fun c1 => ?_)
  · rw [if_pos c1] at h
    refine v_sub [] rfl ?_
    exact t_X6_byteAt_28 x h F E
  · rw [if_neg c1] at h
    refine v_iload_n F (dq dkX6_byteAt_0 2 rfl) rfl 1 rfl ?_
    refine v_aload_n F (dq dkX6_byteAt_0 3 rfl) rfl 0 rfl ?_
    refine v_get F 26 (xn (by decide)) xc_26 rfl inlX6 1 (by decide) (tc3 _ (List.mem_of_getElem? (i := 21) rfl)) rfl rfl (dq dkX6_byteAt_0 4 rfl) ?_
    refine v_icmp_ge F (tgt := 28) (dq dkX6_byteAt_0 5 rfl) (by decide) (fun c2 => ?_) (fun c2 => ?_)
    · rw [if_pos c2] at h
      refine v_sub [] rfl ?_
      exact t_X6_byteAt_28 x h F E
    · rw [if_neg c2] at h
      refine v_iload_n F (dq dkX6_byteAt_0 6 rfl) rfl 1 rfl ?_
      refine v_sipush F (v := 160) (dq dkX6_byteAt_0 7 rfl) ks_160 ?_
      refine v_icmp_ge F (tgt := 28) (dq dkX6_byteAt_0 8 rfl) (by decide) (fun c3 => ?_) (fun c3 => ?_)
      · rw [if_pos c3] at h
        refine v_sub [] rfl ?_
        exact t_X6_byteAt_28 x h F E
      · rw [if_neg c3] at h
        refine v_aload_n F (dq dkX6_byteAt_0 9 rfl) rfl 0 rfl ?_
        refine v_get F 26 (xn (by decide)) xc_26 rfl inlX6 0 (by decide) (tc3 _ (List.mem_of_getElem? (i := 20) rfl)) rfl rfl (dq dkX6_byteAt_0 10 rfl) ?_
        refine v_iload_n F (dq dkX6_byteAt_0 11 rfl) rfl 1 rfl ?_
        obtain ⟨g4, h⟩ := gd_of h
        refine v_iald F 27 (xn (by decide)) xc_27 (ib_in g4) (dq dkX6_byteAt_0 12 rfl) ?_
        refine v_goto F (tgt := 29) (dq dkX6_byteAt_0 13 rfl) (by decide) ?_
        have h := Option.some.inj h
        subst h
        exact v_iret F E (dq dkX6_byteAt_0 15 rfl)
def rm_X6_isDigit : Room := { frames := 2, cells := 0, slots := 0, locals := 52 }
def f_X6_isDigit (a0 : Int32) : Bool := (f_X10_within a0 48 57)
set_option maxRecDepth 100000 in
set_option maxHeartbeats 4000000 in
theorem c_X6_isDigit {K : KE} {l : Launch} {M : GM} (a0 : Int32) : MC K l yX6_isDigit cX6_isDigit 1 (some .boolean) rm_X6_isDigit 0 0 [.int a0] M M (some (.int (b2i (f_X6_isDigit a0)))) := by
  obtain ⟨R, h⟩ : ∃ R, f_X6_isDigit a0 = R := ⟨_, rfl⟩
  rw [h]
  unfold f_X6_isDigit at h
  refine mc_of (ls0 := [(0, .int a0)]) (by decide) (Nat.le_of_ble_eq_true rfl) rfl (fun C hl hnm F E => ?_)
  have F : Fx C RX6 cX6_isDigit 1 rm_X6_isDigit K := F
  refine v_iload_n F (dq dkX6_isDigit_0 0 rfl) rfl 0 rfl ?_
  refine v_bipush F (v := 48) (dq dkX6_isDigit_0 1 rfl) kb_48 ?_
  refine v_bipush F (v := 57) (dq dkX6_isDigit_0 2 rfl) kb_57 ?_
  refine v_callSN 3 F (kc1 := 0) (ks1 := 0) (as := [.int a0, .int 48, .int 57]) (st := []) (st1 := (.int (b2i (f_X10_within a0 48 57)) :: [])) (res := (some (.int (b2i (f_X10_within a0 48 57))))) (c_X10_within (l := C.2.1) a0 48 57) (List.mem_of_getElem? (i := 5) rfl) (tc8 _ (List.mem_of_getElem? (i := 15) rfl)) (tc1 _ (List.mem_of_getElem? (i := 2) rfl)) (tc8 _ (List.mem_of_getElem? (i := 16) rfl)) (by decide) rfl ⟨rfl, rfl, Nat.le_of_ble_eq_true rfl, Nat.le_of_ble_eq_true rfl⟩ ⟨Nat.le_of_ble_eq_true rfl, Nat.le_of_ble_eq_true rfl⟩ rfl (Nat.le_of_ble_eq_true rfl) rfl rfl rfl (dq dkX6_isDigit_0 3 rfl) ?_
  subst h
  exact v_zret F E (b2i_n (f_X10_within a0 48 57)) (dq dkX6_isDigit_0 4 rfl)
def rm_X6_isLetter : Room := { frames := 2, cells := 0, slots := 0, locals := 52 }
def f_X6_isLetter (a0 : Int32) : Bool := (f_X10_within a0 97 122)
set_option maxRecDepth 100000 in
set_option maxHeartbeats 4000000 in
theorem c_X6_isLetter {K : KE} {l : Launch} {M : GM} (a0 : Int32) : MC K l yX6_isLetter cX6_isLetter 1 (some .boolean) rm_X6_isLetter 0 0 [.int a0] M M (some (.int (b2i (f_X6_isLetter a0)))) := by
  obtain ⟨R, h⟩ : ∃ R, f_X6_isLetter a0 = R := ⟨_, rfl⟩
  rw [h]
  unfold f_X6_isLetter at h
  refine mc_of (ls0 := [(0, .int a0)]) (by decide) (Nat.le_of_ble_eq_true rfl) rfl (fun C hl hnm F E => ?_)
  have F : Fx C RX6 cX6_isLetter 1 rm_X6_isLetter K := F
  refine v_iload_n F (dq dkX6_isLetter_0 0 rfl) rfl 0 rfl ?_
  refine v_bipush F (v := 97) (dq dkX6_isLetter_0 1 rfl) kb_97 ?_
  refine v_bipush F (v := 122) (dq dkX6_isLetter_0 2 rfl) kb_122 ?_
  refine v_callSN 3 F (kc1 := 0) (ks1 := 0) (as := [.int a0, .int 97, .int 122]) (st := []) (st1 := (.int (b2i (f_X10_within a0 97 122)) :: [])) (res := (some (.int (b2i (f_X10_within a0 97 122))))) (c_X10_within (l := C.2.1) a0 97 122) (List.mem_of_getElem? (i := 5) rfl) (tc8 _ (List.mem_of_getElem? (i := 15) rfl)) (tc1 _ (List.mem_of_getElem? (i := 2) rfl)) (tc8 _ (List.mem_of_getElem? (i := 16) rfl)) (by decide) rfl ⟨rfl, rfl, Nat.le_of_ble_eq_true rfl, Nat.le_of_ble_eq_true rfl⟩ ⟨Nat.le_of_ble_eq_true rfl, Nat.le_of_ble_eq_true rfl⟩ rfl (Nat.le_of_ble_eq_true rfl) rfl rfl rfl (dq dkX6_isLetter_0 3 rfl) ?_
  subst h
  exact v_zret F E (b2i_n (f_X10_within a0 97 122)) (dq dkX6_isLetter_0 4 rfl)
def rm_X6_isSign : Room := { frames := 1, cells := 0, slots := 0, locals := 30 }
def f_X6_isSign_48 : Bool := true
set_option maxRecDepth 100000 in
set_option maxHeartbeats 4000000 in
theorem t_X6_isSign_48 {C : Cx} {K : KE} {M : GM} {R : Bool}  (h : f_X6_isSign_48  = R) (F : Fx C RX6 cX6_isSign 1 rm_X6_isSign K) (E : CE C M (some (.int (b2i R))) 0 0 (some .boolean)) : V C 48 [] [] M 0 0 := by
  unfold f_X6_isSign_48 at h
  refine v_iconst F (v := 1) (dq dkX6_isSign_0 24 rfl) ki_1 ?_
  refine v_goto F (tgt := 53) (dq dkX6_isSign_0 25 rfl) (by decide) ?_
  subst h
  exact v_zret F E (b2i_n true) (dq dkX6_isSign_0 27 rfl)
def f_X6_isSign (a0 : Int32) : Bool := if a0 = 40 then f_X6_isSign_48 else (if a0 = 41 then f_X6_isSign_48 else (if a0 = 59 then f_X6_isSign_48 else (if a0 = 43 then f_X6_isSign_48 else (if a0 = 45 then f_X6_isSign_48 else (if a0 = 42 then f_X6_isSign_48 else (if a0 = 60 then f_X6_isSign_48 else (if a0 = 61 then f_X6_isSign_48 else false)))))))
set_option maxRecDepth 100000 in
set_option maxHeartbeats 4000000 in
theorem c_X6_isSign {K : KE} {l : Launch} {M : GM} (a0 : Int32) : MC K l yX6_isSign cX6_isSign 1 (some .boolean) rm_X6_isSign 0 0 [.int a0] M M (some (.int (b2i (f_X6_isSign a0)))) := by
  obtain ⟨R, h⟩ : ∃ R, f_X6_isSign a0 = R := ⟨_, rfl⟩
  rw [h]
  unfold f_X6_isSign at h
  refine mc_of (ls0 := [(0, .int a0)]) (by decide) (Nat.le_of_ble_eq_true rfl) rfl (fun C hl hnm F E => ?_)
  have F : Fx C RX6 cX6_isSign 1 rm_X6_isSign K := F
  refine v_iload_n F (dq dkX6_isSign_0 0 rfl) rfl 0 rfl ?_
  refine v_bipush F (v := 40) (dq dkX6_isSign_0 1 rfl) kb_40 ?_
  refine v_icmp_eq F (tgt := 48) (dq dkX6_isSign_0 2 rfl) (by decide) (fun c1 => ?_) (fun c1 => ?_)
  · rw [if_pos c1] at h
    refine v_sub [] rfl ?_
    exact t_X6_isSign_48 h F E
  · rw [if_neg c1] at h
    refine v_iload_n F (dq dkX6_isSign_0 3 rfl) rfl 0 rfl ?_
    refine v_bipush F (v := 41) (dq dkX6_isSign_0 4 rfl) kb_41 ?_
    refine v_icmp_eq F (tgt := 48) (dq dkX6_isSign_0 5 rfl) (by decide) (fun c2 => ?_) (fun c2 => ?_)
    · rw [if_pos c2] at h
      refine v_sub [] rfl ?_
      exact t_X6_isSign_48 h F E
    · rw [if_neg c2] at h
      refine v_iload_n F (dq dkX6_isSign_0 6 rfl) rfl 0 rfl ?_
      refine v_bipush F (v := 59) (dq dkX6_isSign_0 7 rfl) kb_59 ?_
      refine v_icmp_eq F (tgt := 48) (dq dkX6_isSign_0 8 rfl) (by decide) (fun c3 => ?_) (fun c3 => ?_)
      · rw [if_pos c3] at h
        refine v_sub [] rfl ?_
        exact t_X6_isSign_48 h F E
      · rw [if_neg c3] at h
        refine v_iload_n F (dq dkX6_isSign_0 9 rfl) rfl 0 rfl ?_
        refine v_bipush F (v := 43) (dq dkX6_isSign_0 10 rfl) kb_43 ?_
        refine v_icmp_eq F (tgt := 48) (dq dkX6_isSign_0 11 rfl) (by decide) (fun c4 => ?_) (fun c4 => ?_)
        · rw [if_pos c4] at h
          refine v_sub [] rfl ?_
          exact t_X6_isSign_48 h F E
        · rw [if_neg c4] at h
          refine v_iload_n F (dq dkX6_isSign_0 12 rfl) rfl 0 rfl ?_
          refine v_bipush F (v := 45) (dq dkX6_isSign_0 13 rfl) kb_45 ?_
          refine v_icmp_eq F (tgt := 48) (dq dkX6_isSign_0 14 rfl) (by decide) (fun c5 => ?_) (fun c5 => ?_)
          · rw [if_pos c5] at h
            refine v_sub [] rfl ?_
            exact t_X6_isSign_48 h F E
          · rw [if_neg c5] at h
            refine v_iload_n F (dq dkX6_isSign_0 15 rfl) rfl 0 rfl ?_
            refine v_bipush F (v := 42) (dq dkX6_isSign_0 16 rfl) kb_42 ?_
            refine v_icmp_eq F (tgt := 48) (dq dkX6_isSign_0 17 rfl) (by decide) (fun c6 => ?_) (fun c6 => ?_)
            · rw [if_pos c6] at h
              refine v_sub [] rfl ?_
              exact t_X6_isSign_48 h F E
            · rw [if_neg c6] at h
              refine v_iload_n F (dq dkX6_isSign_0 18 rfl) rfl 0 rfl ?_
              refine v_bipush F (v := 60) (dq dkX6_isSign_0 19 rfl) kb_60 ?_
              refine v_icmp_eq F (tgt := 48) (dq dkX6_isSign_0 20 rfl) (by decide) (fun c7 => ?_) (fun c7 => ?_)
              · rw [if_pos c7] at h
                refine v_sub [] rfl ?_
                exact t_X6_isSign_48 h F E
              · rw [if_neg c7] at h
                refine v_iload_n F (dq dkX6_isSign_0 21 rfl) rfl 0 rfl ?_
                refine v_bipush F (v := 61) (dq dkX6_isSign_0 22 rfl) kb_61 ?_
                refine v_icmp_ne F (tgt := 52) (dq dkX6_isSign_0 23 rfl) (by decide) (fun c8 => ?_) (fun c8 => ?_)
                · rw [if_neg c8] at h
                  refine v_iconst F (v := 0) (dq dkX6_isSign_0 26 rfl) ki_0 ?_
                  subst h
                  exact v_zret F E (b2i_n false) (dq dkX6_isSign_0 27 rfl)
                · rw [if_pos c8] at h
                  refine v_sub [] rfl ?_
                  exact t_X6_isSign_48 h F E
def rm_X6_spells : Room := { frames := 5, cells := 0, slots := 0, locals := 200 }
def f_X6_spells_20 (x : CS) : Nat → Nat → Int32 → Option (Bool)
  | 0, _, _ => none
  | n + 1, a1, a2 => gd (decide (a1 < 13)) (if (nI (sLen.getD a1 0) >>> ((0 : Int32) &&& 31)) ≤ a2 then (some true) else ((f_X6_byteAt x ((gi x 26 9) + a2)).bind fun r3 => gd (decide (a1 < 13)) (gd (ib a2 (tln a1)) (if r3 = (tch a1 a2.toNatClampNeg) then ((f_X6_spells_20 x n) a1 (a2 + 1)) else (some false)))))
set_option maxRecDepth 100000 in
set_option maxHeartbeats 4000000 in
theorem t_X6_spells_20 {C : Cx} {K : KE} {y : MS} {R : Bool}  (x : CS) (F : Fx C RX6 cX6_spells 3 rm_X6_spells K) (E : CE C (xf K x y) (some (.int (b2i R))) 0 0 (some .boolean)) : ∀ (n : Nat) (a1 : Nat) (a2 : Int32) (h : f_X6_spells_20 x n a1 a2 = some R), V C 20 [(0, .ref (K.1 + 26)), (1, .ref (K.2.2.2 (10 + a1))), (2, .int a2)] [] (xf K x y) 0 0 := by
  intro n
  induction n with
  | zero => intro a1 a2 h; cases h
  | succ n ih =>
    intro a1 a2 h
    rw [f_X6_spells_20] at h
    refine v_iload_n F (dq dkX6_spells_0 12 rfl) rfl 2 rfl ?_
    refine v_aload_n F (dq dkX6_spells_0 13 rfl) rfl 1 rfl ?_
    obtain ⟨g1, h⟩ := gd_of h
    refine v_callT 0 a1 F (kc1 := 0) (ks1 := 0) (as := []) (st := [.int a2]) (st1 := (.int (nI (sLen.getD a1 0) >>> ((0 : Int32) &&& 31)) :: [.int a2])) (res := (some (.int (nI (sLen.getD a1 0) >>> ((0 : Int32) &&& 31))))) (c_J0_length_8abf5 (l := C.2.1) a1 (of_decide_eq_true g1)) (of_decide_eq_true g1) (tc9 _ (List.mem_of_getElem? (i := 1) rfl)) (tc5 _ (List.mem_of_getElem? (i := 20) rfl)) (tc5 _ (List.mem_of_getElem? (i := 21) rfl)) (tc5 _ (List.mem_of_getElem? (i := 22) rfl)) (tc5 _ (List.mem_of_getElem? (i := 23) rfl)) (by decide) rfl ⟨rfl, rfl, Nat.le_of_ble_eq_true rfl, Nat.le_of_ble_eq_true rfl⟩ ⟨Nat.le_of_ble_eq_true rfl, Nat.le_of_ble_eq_true rfl⟩ rfl (Nat.le_of_ble_eq_true rfl) rfl rfl rfl (dq dkX6_spells_0 14 rfl) ?_
    refine v_icmp_ge F (tgt := 54) (dq dkX6_spells_0 15 rfl) (by decide) (fun c2 => ?_) (fun c2 => ?_)
    · rw [if_pos c2] at h
      refine v_iconst F (v := 1) (dq dkX6_spells_0 30 rfl) ki_1 ?_
      have h := Option.some.inj h
      subst h
      exact v_zret F E (b2i_n true) (dq dkX6_spells_0 31 rfl)
    · rw [if_neg c2] at h
      refine v_aload_n F (dq dkX6_spells_0 16 rfl) rfl 0 rfl ?_
      refine v_aload_n F (dq dkX6_spells_0 17 rfl) rfl 0 rfl ?_
      refine v_get F 26 (xn (by decide)) xc_26 rfl inlX6 9 (by decide) (tc4 _ (List.mem_of_getElem? (i := 5) rfl)) rfl rfl (dq dkX6_spells_0 18 rfl) ?_
      refine v_iload_n F (dq dkX6_spells_0 19 rfl) rfl 2 rfl ?_
      refine v_iadd F (dq dkX6_spells_0 20 rfl) ?_
      obtain ⟨r3, e4, h⟩ := bd_of h
      refine v_callV 1 F (q := 26) (kc1 := 0) (ks1 := 0) (as := [.int ((gi x 26 9) + a2)]) (st := []) (st1 := (.int r3 :: [])) (res := (some (.int r3))) (c_X6_byteAt (l := C.2.1) x y ((gi x 26 9) + a2) e4) (xn (by decide)) xc_26 rfl (tc8 _ (List.mem_of_getElem? (i := 8) rfl)) (tc8 _ (List.mem_of_getElem? (i := 9) rfl)) (tc8 _ (List.mem_of_getElem? (i := 10) rfl)) (tc1 _ (List.mem_of_getElem? (i := 23) rfl)) (tc8 _ (List.mem_of_getElem? (i := 11) rfl)) (by decide) rfl ⟨rfl, rfl, Nat.le_of_ble_eq_true rfl, Nat.le_of_ble_eq_true rfl⟩ ⟨Nat.le_of_ble_eq_true rfl, Nat.le_of_ble_eq_true rfl⟩ rfl (Nat.le_of_ble_eq_true rfl) rfl rfl rfl (dq dkX6_spells_0 21 rfl) ?_
      refine v_aload_n F (dq dkX6_spells_0 22 rfl) rfl 1 rfl ?_
      refine v_iload_n F (dq dkX6_spells_0 23 rfl) rfl 2 rfl ?_
      obtain ⟨g5, h⟩ := gd_of h
      obtain ⟨g6, h⟩ := gd_of h
      refine v_callT 1 a1 F (kc1 := 0) (ks1 := 0) (as := [.int a2]) (st := [.int r3]) (st1 := (.int (tch a1 a2.toNatClampNeg) :: [.int r3])) (res := (some (.int (tch a1 a2.toNatClampNeg)))) (c_J0_charAt_5068e (l := C.2.1) a1 (of_decide_eq_true g5) a2 g6) (of_decide_eq_true g5) (tc9 _ (List.mem_of_getElem? (i := 2) rfl)) (tc6 _ (List.mem_of_getElem? (i := 8) rfl)) (tc6 _ (List.mem_of_getElem? (i := 9) rfl)) (tc5 _ (List.mem_of_getElem? (i := 22) rfl)) (tc6 _ (List.mem_of_getElem? (i := 10) rfl)) (by decide) rfl ⟨rfl, rfl, Nat.le_of_ble_eq_true rfl, Nat.le_of_ble_eq_true rfl⟩ ⟨Nat.le_of_ble_eq_true rfl, Nat.le_of_ble_eq_true rfl⟩ rfl (Nat.le_of_ble_eq_true rfl) rfl rfl rfl (dq dkX6_spells_0 24 rfl) ?_
      refine v_icmp_eq F (tgt := 48) (dq dkX6_spells_0 25 rfl) (by decide) (fun c7 => ?_) (fun c7 => ?_)
      · rw [if_pos c7] at h
        refine v_iinc F (v := a2 + 1) (ls' := [(2, .int (a2 + 1)), (0, .ref (K.1 + 26)), (1, .ref (K.2.2.2 (10 + a1)))]) (dq dkX6_spells_0 28 rfl) (j := 2) rfl (kv_add ki_1) (by decide) rfl ?_
        refine v_goto F (tgt := 20) (dq dkX6_spells_0 29 rfl) (by decide) ?_
        refine v_sub [1, 2, 0] rfl ?_
        exact ih a1 (a2 + 1) h
      · rw [if_neg c7] at h
        refine v_iconst F (v := 0) (dq dkX6_spells_0 26 rfl) ki_0 ?_
        have h := Option.some.inj h
        subst h
        exact v_zret F E (b2i_n false) (dq dkX6_spells_0 27 rfl)
def f_X6_spells (x : CS) (a1 : Nat) : Option (Bool) := gd (decide (a1 < 13)) (if ((gi x 26 7) - (gi x 26 9)) = (nI (sLen.getD a1 0) >>> ((0 : Int32) &&& 31)) then (f_X6_spells_20 x 1000 a1 0) else (some false))
set_option maxRecDepth 100000 in
set_option maxHeartbeats 4000000 in
theorem c_X6_spells {K : KE} {l : Launch} {R : Bool} (x : CS) (y : MS) (a1 : Nat) (h : f_X6_spells x a1 = some R) : MC K l yX6_spells cX6_spells 3 (some .boolean) rm_X6_spells 0 0 [.ref (K.1 + 26), .ref (K.2.2.2 (10 + a1))] (xf K x y) (xf K x y) (some (.int (b2i R))) := by
  unfold f_X6_spells at h
  refine mc_of (ls0 := [(0, .ref (K.1 + 26)), (1, .ref (K.2.2.2 (10 + a1)))]) (by decide) (Nat.le_of_ble_eq_true rfl) rfl (fun C hl hnm F E => ?_)
  have F : Fx C RX6 cX6_spells 3 rm_X6_spells K := F
  refine v_aload_n F (dq dkX6_spells_0 0 rfl) rfl 0 rfl ?_
  refine v_get F 26 (xn (by decide)) xc_26 rfl inlX6 7 (by decide) (tc4 _ (List.mem_of_getElem? (i := 3) rfl)) rfl rfl (dq dkX6_spells_0 1 rfl) ?_
  refine v_aload_n F (dq dkX6_spells_0 2 rfl) rfl 0 rfl ?_
  refine v_get F 26 (xn (by decide)) xc_26 rfl inlX6 9 (by decide) (tc4 _ (List.mem_of_getElem? (i := 5) rfl)) rfl rfl (dq dkX6_spells_0 3 rfl) ?_
  refine v_isub F (dq dkX6_spells_0 4 rfl) ?_
  refine v_aload_n F (dq dkX6_spells_0 5 rfl) rfl 1 rfl ?_
  obtain ⟨g8, h⟩ := gd_of h
  refine v_callT 0 a1 F (kc1 := 0) (ks1 := 0) (as := []) (st := [.int ((gi x 26 7) - (gi x 26 9))]) (st1 := (.int (nI (sLen.getD a1 0) >>> ((0 : Int32) &&& 31)) :: [.int ((gi x 26 7) - (gi x 26 9))])) (res := (some (.int (nI (sLen.getD a1 0) >>> ((0 : Int32) &&& 31))))) (c_J0_length_8abf5 (l := C.2.1) a1 (of_decide_eq_true g8)) (of_decide_eq_true g8) (tc9 _ (List.mem_of_getElem? (i := 1) rfl)) (tc5 _ (List.mem_of_getElem? (i := 20) rfl)) (tc5 _ (List.mem_of_getElem? (i := 21) rfl)) (tc5 _ (List.mem_of_getElem? (i := 22) rfl)) (tc5 _ (List.mem_of_getElem? (i := 23) rfl)) (by decide) rfl ⟨rfl, rfl, Nat.le_of_ble_eq_true rfl, Nat.le_of_ble_eq_true rfl⟩ ⟨Nat.le_of_ble_eq_true rfl, Nat.le_of_ble_eq_true rfl⟩ rfl (Nat.le_of_ble_eq_true rfl) rfl rfl rfl (dq dkX6_spells_0 6 rfl) ?_
  refine v_icmp_eq F (tgt := 18) (dq dkX6_spells_0 7 rfl) (by decide) (fun c9 => ?_) (fun c9 => ?_)
  · rw [if_pos c9] at h
    refine v_iconst F (v := 0) (dq dkX6_spells_0 10 rfl) ki_0 ?_
    refine v_istore_n F (ls' := [(2, .int 0), (0, .ref (K.1 + 26)), (1, .ref (K.2.2.2 (10 + a1)))]) (dq dkX6_spells_0 11 rfl) rfl (by decide) rfl ?_
    refine v_sub [1, 2, 0] rfl ?_
    exact t_X6_spells_20 x F E 1000 a1 0 h
  · rw [if_neg c9] at h
    refine v_iconst F (v := 0) (dq dkX6_spells_0 8 rfl) ki_0 ?_
    have h := Option.some.inj h
    subst h
    exact v_zret F E (b2i_n false) (dq dkX6_spells_0 9 rfl)
def rm_X6_wordToken : Room := { frames := 6, cells := 0, slots := 0, locals := 222 }
def f_X6_wordToken (x : CS) : Option (Int32) := (f_X6_spells x 1).bind fun r1 => if (b2i r1) = 0 then ((f_X6_spells x 2).bind fun r4 => if (b2i r4) = 0 then ((f_X6_spells x 3).bind fun r7 => if (b2i r7) = 0 then ((f_X6_spells x 4).bind fun r10 => if (b2i r10) = 0 then ((f_X6_spells x 5).bind fun r13 => if (b2i r13) = 0 then ((f_X6_spells x 6).bind fun r16 => if (b2i r16) = 0 then ((f_X6_spells x 7).bind fun r19 => if (b2i r19) = 0 then ((f_X6_spells x 8).bind fun r22 => if (b2i r22) = 0 then ((f_X6_spells x 9).bind fun r25 => if (b2i r25) = 0 then ((f_X6_spells x 10).bind fun r28 => if (b2i r28) = 0 then ((f_X6_spells x 11).bind fun r31 => if (b2i r31) = 0 then ((f_X6_spells x 12).bind fun r34 => if (b2i r34) = 0 then (some 308) else (some 315)) else (some 314)) else (some 313)) else (some 312)) else (some 311)) else (some 310)) else (some 305)) else (some 304)) else (some 303)) else (some 302)) else (some 301)) else (some 300)
set_option maxRecDepth 100000 in
set_option maxHeartbeats 4000000 in
theorem c_X6_wordToken {K : KE} {l : Launch} {R : Int32} (x : CS) (y : MS) (h : f_X6_wordToken x = some R) : MC K l yX6_wordToken cX6_wordToken 1 (some .int) rm_X6_wordToken 0 0 [.ref (K.1 + 26)] (xf K x y) (xf K x y) (some (.int R)) := by
  unfold f_X6_wordToken at h
  refine mc_of (ls0 := [(0, .ref (K.1 + 26))]) (by decide) (Nat.le_of_ble_eq_true rfl) rfl (fun C hl hnm F E => ?_)
  have F : Fx C RX6 cX6_wordToken 1 rm_X6_wordToken K := F
  refine v_aload_n F (dq dkX6_wordToken_0 0 rfl) rfl 0 rfl ?_
  refine v_ldcS 1 F rfl (dq dkX6_wordToken_0 1 rfl) ?_
  obtain ⟨r1, e2, h⟩ := bd_of h
  refine v_callV 1 F (q := 26) (kc1 := 0) (ks1 := 0) (as := [.ref (K.2.2.2 (10 + 1))]) (st := []) (st1 := (.int (b2i r1) :: [])) (res := (some (.int (b2i r1)))) (c_X6_spells (l := C.2.1) x y 1 e2) (xn (by decide)) xc_26 rfl (tc8 _ (List.mem_of_getElem? (i := 21) rfl)) (tc8 _ (List.mem_of_getElem? (i := 22) rfl)) (tc8 _ (List.mem_of_getElem? (i := 23) rfl)) (tc1 _ (List.mem_of_getElem? (i := 23) rfl)) (tc9 _ (List.mem_of_getElem? (i := 0) rfl)) (by decide) rfl ⟨rfl, rfl, Nat.le_of_ble_eq_true rfl, Nat.le_of_ble_eq_true rfl⟩ ⟨Nat.le_of_ble_eq_true rfl, Nat.le_of_ble_eq_true rfl⟩ rfl (Nat.le_of_ble_eq_true rfl) rfl rfl rfl (dq dkX6_wordToken_0 2 rfl) ?_
  refine v_if_eq F (tgt := 13) (dq dkX6_wordToken_0 3 rfl) (by decide) (fun c3 => ?_) (fun c3 => ?_)
  · rw [if_pos c3] at h
    refine v_aload_n F (dq dkX6_wordToken_0 6 rfl) rfl 0 rfl ?_
    refine v_ldcS 2 F rfl (dq dkX6_wordToken_0 7 rfl) ?_
    obtain ⟨r4, e5, h⟩ := bd_of h
    refine v_callV 1 F (q := 26) (kc1 := 0) (ks1 := 0) (as := [.ref (K.2.2.2 (10 + 2))]) (st := []) (st1 := (.int (b2i r4) :: [])) (res := (some (.int (b2i r4)))) (c_X6_spells (l := C.2.1) x y 2 e5) (xn (by decide)) xc_26 rfl (tc8 _ (List.mem_of_getElem? (i := 21) rfl)) (tc8 _ (List.mem_of_getElem? (i := 22) rfl)) (tc8 _ (List.mem_of_getElem? (i := 23) rfl)) (tc1 _ (List.mem_of_getElem? (i := 23) rfl)) (tc9 _ (List.mem_of_getElem? (i := 0) rfl)) (by decide) rfl ⟨rfl, rfl, Nat.le_of_ble_eq_true rfl, Nat.le_of_ble_eq_true rfl⟩ ⟨Nat.le_of_ble_eq_true rfl, Nat.le_of_ble_eq_true rfl⟩ rfl (Nat.le_of_ble_eq_true rfl) rfl rfl rfl (dq dkX6_wordToken_0 8 rfl) ?_
    refine v_if_eq F (tgt := 26) (dq dkX6_wordToken_0 9 rfl) (by decide) (fun c6 => ?_) (fun c6 => ?_)
    · rw [if_pos c6] at h
      refine v_aload_n F (dq dkX6_wordToken_0 12 rfl) rfl 0 rfl ?_
      refine v_ldcS 3 F rfl (dq dkX6_wordToken_0 13 rfl) ?_
      obtain ⟨r7, e8, h⟩ := bd_of h
      refine v_callV 1 F (q := 26) (kc1 := 0) (ks1 := 0) (as := [.ref (K.2.2.2 (10 + 3))]) (st := []) (st1 := (.int (b2i r7) :: [])) (res := (some (.int (b2i r7)))) (c_X6_spells (l := C.2.1) x y 3 e8) (xn (by decide)) xc_26 rfl (tc8 _ (List.mem_of_getElem? (i := 21) rfl)) (tc8 _ (List.mem_of_getElem? (i := 22) rfl)) (tc8 _ (List.mem_of_getElem? (i := 23) rfl)) (tc1 _ (List.mem_of_getElem? (i := 23) rfl)) (tc9 _ (List.mem_of_getElem? (i := 0) rfl)) (by decide) rfl ⟨rfl, rfl, Nat.le_of_ble_eq_true rfl, Nat.le_of_ble_eq_true rfl⟩ ⟨Nat.le_of_ble_eq_true rfl, Nat.le_of_ble_eq_true rfl⟩ rfl (Nat.le_of_ble_eq_true rfl) rfl rfl rfl (dq dkX6_wordToken_0 14 rfl) ?_
      refine v_if_eq F (tgt := 39) (dq dkX6_wordToken_0 15 rfl) (by decide) (fun c9 => ?_) (fun c9 => ?_)
      · rw [if_pos c9] at h
        refine v_aload_n F (dq dkX6_wordToken_0 18 rfl) rfl 0 rfl ?_
        refine v_ldcS 4 F rfl (dq dkX6_wordToken_0 19 rfl) ?_
        obtain ⟨r10, e11, h⟩ := bd_of h
        refine v_callV 1 F (q := 26) (kc1 := 0) (ks1 := 0) (as := [.ref (K.2.2.2 (10 + 4))]) (st := []) (st1 := (.int (b2i r10) :: [])) (res := (some (.int (b2i r10)))) (c_X6_spells (l := C.2.1) x y 4 e11) (xn (by decide)) xc_26 rfl (tc8 _ (List.mem_of_getElem? (i := 21) rfl)) (tc8 _ (List.mem_of_getElem? (i := 22) rfl)) (tc8 _ (List.mem_of_getElem? (i := 23) rfl)) (tc1 _ (List.mem_of_getElem? (i := 23) rfl)) (tc9 _ (List.mem_of_getElem? (i := 0) rfl)) (by decide) rfl ⟨rfl, rfl, Nat.le_of_ble_eq_true rfl, Nat.le_of_ble_eq_true rfl⟩ ⟨Nat.le_of_ble_eq_true rfl, Nat.le_of_ble_eq_true rfl⟩ rfl (Nat.le_of_ble_eq_true rfl) rfl rfl rfl (dq dkX6_wordToken_0 20 rfl) ?_
        refine v_if_eq F (tgt := 52) (dq dkX6_wordToken_0 21 rfl) (by decide) (fun c12 => ?_) (fun c12 => ?_)
        · rw [if_pos c12] at h
          refine v_aload_n F (dq dkX6_wordToken_0 24 rfl) rfl 0 rfl ?_
          refine v_ldcS 5 F rfl (dq dkX6_wordToken_0 25 rfl) ?_
          obtain ⟨r13, e14, h⟩ := bd_of h
          refine v_callV 1 F (q := 26) (kc1 := 0) (ks1 := 0) (as := [.ref (K.2.2.2 (10 + 5))]) (st := []) (st1 := (.int (b2i r13) :: [])) (res := (some (.int (b2i r13)))) (c_X6_spells (l := C.2.1) x y 5 e14) (xn (by decide)) xc_26 rfl (tc8 _ (List.mem_of_getElem? (i := 21) rfl)) (tc8 _ (List.mem_of_getElem? (i := 22) rfl)) (tc8 _ (List.mem_of_getElem? (i := 23) rfl)) (tc1 _ (List.mem_of_getElem? (i := 23) rfl)) (tc9 _ (List.mem_of_getElem? (i := 0) rfl)) (by decide) rfl ⟨rfl, rfl, Nat.le_of_ble_eq_true rfl, Nat.le_of_ble_eq_true rfl⟩ ⟨Nat.le_of_ble_eq_true rfl, Nat.le_of_ble_eq_true rfl⟩ rfl (Nat.le_of_ble_eq_true rfl) rfl rfl rfl (dq dkX6_wordToken_0 26 rfl) ?_
          refine v_if_eq F (tgt := 65) (dq dkX6_wordToken_0 27 rfl) (by decide) (fun c15 => ?_) (fun c15 => ?_)
          · rw [if_pos c15] at h
            refine v_aload_n F (dq dkX6_wordToken_0 30 rfl) rfl 0 rfl ?_
            refine v_ldcS 6 F rfl (dq dkX6_wordToken_0 31 rfl) ?_
            obtain ⟨r16, e17, h⟩ := bd_of h
            refine v_callV 1 F (q := 26) (kc1 := 0) (ks1 := 0) (as := [.ref (K.2.2.2 (10 + 6))]) (st := []) (st1 := (.int (b2i r16) :: [])) (res := (some (.int (b2i r16)))) (c_X6_spells (l := C.2.1) x y 6 e17) (xn (by decide)) xc_26 rfl (tc8 _ (List.mem_of_getElem? (i := 21) rfl)) (tc8 _ (List.mem_of_getElem? (i := 22) rfl)) (tc8 _ (List.mem_of_getElem? (i := 23) rfl)) (tc1 _ (List.mem_of_getElem? (i := 23) rfl)) (tc9 _ (List.mem_of_getElem? (i := 0) rfl)) (by decide) rfl ⟨rfl, rfl, Nat.le_of_ble_eq_true rfl, Nat.le_of_ble_eq_true rfl⟩ ⟨Nat.le_of_ble_eq_true rfl, Nat.le_of_ble_eq_true rfl⟩ rfl (Nat.le_of_ble_eq_true rfl) rfl rfl rfl (dq dkX6_wordToken_0 32 rfl) ?_
            refine v_if_eq F (tgt := 78) (dq dkX6_wordToken_0 33 rfl) (by decide) (fun c18 => ?_) (fun c18 => ?_)
            · rw [if_pos c18] at h
              refine v_aload_n F (dq dkX6_wordToken_0 36 rfl) rfl 0 rfl ?_
              refine v_ldcS 7 F rfl (dq dkX6_wordToken_0 37 rfl) ?_
              obtain ⟨r19, e20, h⟩ := bd_of h
              refine v_callV 1 F (q := 26) (kc1 := 0) (ks1 := 0) (as := [.ref (K.2.2.2 (10 + 7))]) (st := []) (st1 := (.int (b2i r19) :: [])) (res := (some (.int (b2i r19)))) (c_X6_spells (l := C.2.1) x y 7 e20) (xn (by decide)) xc_26 rfl (tc8 _ (List.mem_of_getElem? (i := 21) rfl)) (tc8 _ (List.mem_of_getElem? (i := 22) rfl)) (tc8 _ (List.mem_of_getElem? (i := 23) rfl)) (tc1 _ (List.mem_of_getElem? (i := 23) rfl)) (tc9 _ (List.mem_of_getElem? (i := 0) rfl)) (by decide) rfl ⟨rfl, rfl, Nat.le_of_ble_eq_true rfl, Nat.le_of_ble_eq_true rfl⟩ ⟨Nat.le_of_ble_eq_true rfl, Nat.le_of_ble_eq_true rfl⟩ rfl (Nat.le_of_ble_eq_true rfl) rfl rfl rfl (dq dkX6_wordToken_0 38 rfl) ?_
              refine v_if_eq F (tgt := 91) (dq dkX6_wordToken_0 39 rfl) (by decide) (fun c21 => ?_) (fun c21 => ?_)
              · rw [if_pos c21] at h
                refine v_aload_n F (dq dkX6_wordToken_1 2 rfl) rfl 0 rfl ?_
                refine v_ldcS 8 F rfl (dq dkX6_wordToken_1 3 rfl) ?_
                obtain ⟨r22, e23, h⟩ := bd_of h
                refine v_callV 1 F (q := 26) (kc1 := 0) (ks1 := 0) (as := [.ref (K.2.2.2 (10 + 8))]) (st := []) (st1 := (.int (b2i r22) :: [])) (res := (some (.int (b2i r22)))) (c_X6_spells (l := C.2.1) x y 8 e23) (xn (by decide)) xc_26 rfl (tc8 _ (List.mem_of_getElem? (i := 21) rfl)) (tc8 _ (List.mem_of_getElem? (i := 22) rfl)) (tc8 _ (List.mem_of_getElem? (i := 23) rfl)) (tc1 _ (List.mem_of_getElem? (i := 23) rfl)) (tc9 _ (List.mem_of_getElem? (i := 0) rfl)) (by decide) rfl ⟨rfl, rfl, Nat.le_of_ble_eq_true rfl, Nat.le_of_ble_eq_true rfl⟩ ⟨Nat.le_of_ble_eq_true rfl, Nat.le_of_ble_eq_true rfl⟩ rfl (Nat.le_of_ble_eq_true rfl) rfl rfl rfl (dq dkX6_wordToken_1 4 rfl) ?_
                refine v_if_eq F (tgt := 104) (dq dkX6_wordToken_1 5 rfl) (by decide) (fun c24 => ?_) (fun c24 => ?_)
                · rw [if_pos c24] at h
                  refine v_aload_n F (dq dkX6_wordToken_1 8 rfl) rfl 0 rfl ?_
                  refine v_ldcS 9 F rfl (dq dkX6_wordToken_1 9 rfl) ?_
                  obtain ⟨r25, e26, h⟩ := bd_of h
                  refine v_callV 1 F (q := 26) (kc1 := 0) (ks1 := 0) (as := [.ref (K.2.2.2 (10 + 9))]) (st := []) (st1 := (.int (b2i r25) :: [])) (res := (some (.int (b2i r25)))) (c_X6_spells (l := C.2.1) x y 9 e26) (xn (by decide)) xc_26 rfl (tc8 _ (List.mem_of_getElem? (i := 21) rfl)) (tc8 _ (List.mem_of_getElem? (i := 22) rfl)) (tc8 _ (List.mem_of_getElem? (i := 23) rfl)) (tc1 _ (List.mem_of_getElem? (i := 23) rfl)) (tc9 _ (List.mem_of_getElem? (i := 0) rfl)) (by decide) rfl ⟨rfl, rfl, Nat.le_of_ble_eq_true rfl, Nat.le_of_ble_eq_true rfl⟩ ⟨Nat.le_of_ble_eq_true rfl, Nat.le_of_ble_eq_true rfl⟩ rfl (Nat.le_of_ble_eq_true rfl) rfl rfl rfl (dq dkX6_wordToken_1 10 rfl) ?_
                  refine v_if_eq F (tgt := 117) (dq dkX6_wordToken_1 11 rfl) (by decide) (fun c27 => ?_) (fun c27 => ?_)
                  · rw [if_pos c27] at h
                    refine v_aload_n F (dq dkX6_wordToken_1 14 rfl) rfl 0 rfl ?_
                    refine v_ldcS 10 F rfl (dq dkX6_wordToken_1 15 rfl) ?_
                    obtain ⟨r28, e29, h⟩ := bd_of h
                    refine v_callV 1 F (q := 26) (kc1 := 0) (ks1 := 0) (as := [.ref (K.2.2.2 (10 + 10))]) (st := []) (st1 := (.int (b2i r28) :: [])) (res := (some (.int (b2i r28)))) (c_X6_spells (l := C.2.1) x y 10 e29) (xn (by decide)) xc_26 rfl (tc8 _ (List.mem_of_getElem? (i := 21) rfl)) (tc8 _ (List.mem_of_getElem? (i := 22) rfl)) (tc8 _ (List.mem_of_getElem? (i := 23) rfl)) (tc1 _ (List.mem_of_getElem? (i := 23) rfl)) (tc9 _ (List.mem_of_getElem? (i := 0) rfl)) (by decide) rfl ⟨rfl, rfl, Nat.le_of_ble_eq_true rfl, Nat.le_of_ble_eq_true rfl⟩ ⟨Nat.le_of_ble_eq_true rfl, Nat.le_of_ble_eq_true rfl⟩ rfl (Nat.le_of_ble_eq_true rfl) rfl rfl rfl (dq dkX6_wordToken_1 16 rfl) ?_
                    refine v_if_eq F (tgt := 130) (dq dkX6_wordToken_1 17 rfl) (by decide) (fun c30 => ?_) (fun c30 => ?_)
                    · rw [if_pos c30] at h
                      refine v_aload_n F (dq dkX6_wordToken_1 20 rfl) rfl 0 rfl ?_
                      refine v_ldcS 11 F rfl (dq dkX6_wordToken_1 21 rfl) ?_
                      obtain ⟨r31, e32, h⟩ := bd_of h
                      refine v_callV 1 F (q := 26) (kc1 := 0) (ks1 := 0) (as := [.ref (K.2.2.2 (10 + 11))]) (st := []) (st1 := (.int (b2i r31) :: [])) (res := (some (.int (b2i r31)))) (c_X6_spells (l := C.2.1) x y 11 e32) (xn (by decide)) xc_26 rfl (tc8 _ (List.mem_of_getElem? (i := 21) rfl)) (tc8 _ (List.mem_of_getElem? (i := 22) rfl)) (tc8 _ (List.mem_of_getElem? (i := 23) rfl)) (tc1 _ (List.mem_of_getElem? (i := 23) rfl)) (tc9 _ (List.mem_of_getElem? (i := 0) rfl)) (by decide) rfl ⟨rfl, rfl, Nat.le_of_ble_eq_true rfl, Nat.le_of_ble_eq_true rfl⟩ ⟨Nat.le_of_ble_eq_true rfl, Nat.le_of_ble_eq_true rfl⟩ rfl (Nat.le_of_ble_eq_true rfl) rfl rfl rfl (dq dkX6_wordToken_1 22 rfl) ?_
                      refine v_if_eq F (tgt := 143) (dq dkX6_wordToken_1 23 rfl) (by decide) (fun c33 => ?_) (fun c33 => ?_)
                      · rw [if_pos c33] at h
                        refine v_aload_n F (dq dkX6_wordToken_1 26 rfl) rfl 0 rfl ?_
                        refine v_ldcS 12 F rfl (dq dkX6_wordToken_1 27 rfl) ?_
                        obtain ⟨r34, e35, h⟩ := bd_of h
                        refine v_callV 1 F (q := 26) (kc1 := 0) (ks1 := 0) (as := [.ref (K.2.2.2 (10 + 12))]) (st := []) (st1 := (.int (b2i r34) :: [])) (res := (some (.int (b2i r34)))) (c_X6_spells (l := C.2.1) x y 12 e35) (xn (by decide)) xc_26 rfl (tc8 _ (List.mem_of_getElem? (i := 21) rfl)) (tc8 _ (List.mem_of_getElem? (i := 22) rfl)) (tc8 _ (List.mem_of_getElem? (i := 23) rfl)) (tc1 _ (List.mem_of_getElem? (i := 23) rfl)) (tc9 _ (List.mem_of_getElem? (i := 0) rfl)) (by decide) rfl ⟨rfl, rfl, Nat.le_of_ble_eq_true rfl, Nat.le_of_ble_eq_true rfl⟩ ⟨Nat.le_of_ble_eq_true rfl, Nat.le_of_ble_eq_true rfl⟩ rfl (Nat.le_of_ble_eq_true rfl) rfl rfl rfl (dq dkX6_wordToken_1 28 rfl) ?_
                        refine v_if_eq F (tgt := 156) (dq dkX6_wordToken_1 29 rfl) (by decide) (fun c36 => ?_) (fun c36 => ?_)
                        · rw [if_pos c36] at h
                          refine v_sipush F (v := 308) (dq dkX6_wordToken_1 32 rfl) ks_308 ?_
                          have h := Option.some.inj h
                          subst h
                          exact v_iret F E (dq dkX6_wordToken_1 33 rfl)
                        · rw [if_neg c36] at h
                          refine v_sipush F (v := 315) (dq dkX6_wordToken_1 30 rfl) ks_315 ?_
                          have h := Option.some.inj h
                          subst h
                          exact v_iret F E (dq dkX6_wordToken_1 31 rfl)
                      · rw [if_neg c33] at h
                        refine v_sipush F (v := 314) (dq dkX6_wordToken_1 24 rfl) ks_314 ?_
                        have h := Option.some.inj h
                        subst h
                        exact v_iret F E (dq dkX6_wordToken_1 25 rfl)
                    · rw [if_neg c30] at h
                      refine v_sipush F (v := 313) (dq dkX6_wordToken_1 18 rfl) ks_313 ?_
                      have h := Option.some.inj h
                      subst h
                      exact v_iret F E (dq dkX6_wordToken_1 19 rfl)
                  · rw [if_neg c27] at h
                    refine v_sipush F (v := 312) (dq dkX6_wordToken_1 12 rfl) ks_312 ?_
                    have h := Option.some.inj h
                    subst h
                    exact v_iret F E (dq dkX6_wordToken_1 13 rfl)
                · rw [if_neg c24] at h
                  refine v_sipush F (v := 311) (dq dkX6_wordToken_1 6 rfl) ks_311 ?_
                  have h := Option.some.inj h
                  subst h
                  exact v_iret F E (dq dkX6_wordToken_1 7 rfl)
              · rw [if_neg c21] at h
                refine v_sipush F (v := 310) (dq dkX6_wordToken_1 0 rfl) ks_310 ?_
                have h := Option.some.inj h
                subst h
                exact v_iret F E (dq dkX6_wordToken_1 1 rfl)
            · rw [if_neg c18] at h
              refine v_sipush F (v := 305) (dq dkX6_wordToken_0 34 rfl) ks_305 ?_
              have h := Option.some.inj h
              subst h
              exact v_iret F E (dq dkX6_wordToken_0 35 rfl)
          · rw [if_neg c15] at h
            refine v_sipush F (v := 304) (dq dkX6_wordToken_0 28 rfl) ks_304 ?_
            have h := Option.some.inj h
            subst h
            exact v_iret F E (dq dkX6_wordToken_0 29 rfl)
        · rw [if_neg c12] at h
          refine v_sipush F (v := 303) (dq dkX6_wordToken_0 22 rfl) ks_303 ?_
          have h := Option.some.inj h
          subst h
          exact v_iret F E (dq dkX6_wordToken_0 23 rfl)
      · rw [if_neg c9] at h
        refine v_sipush F (v := 302) (dq dkX6_wordToken_0 16 rfl) ks_302 ?_
        have h := Option.some.inj h
        subst h
        exact v_iret F E (dq dkX6_wordToken_0 17 rfl)
    · rw [if_neg c6] at h
      refine v_sipush F (v := 301) (dq dkX6_wordToken_0 10 rfl) ks_301 ?_
      have h := Option.some.inj h
      subst h
      exact v_iret F E (dq dkX6_wordToken_0 11 rfl)
  · rw [if_neg c3] at h
    refine v_sipush F (v := 300) (dq dkX6_wordToken_0 4 rfl) ks_300 ?_
    have h := Option.some.inj h
    subst h
    exact v_iret F E (dq dkX6_wordToken_0 5 rfl)
def rm_X6_advance : Room := { frames := 7, cells := 0, slots := 0, locals := 242 }
def f_X6_advance_275 (x : CS) (s0 : Int32) : Option (CS) := some (pi x 26 8 s0)
set_option maxRecDepth 100000 in
set_option maxHeartbeats 4000000 in
theorem t_X6_advance_275 {C : Cx} {K : KE} {y : MS} {R : CS}  (x : CS) (s0 : Int32) (h : f_X6_advance_275 x s0 = some R) (F : Fx C RX6 cX6_advance 3 rm_X6_advance K) (E : CE C (xf K R y) none 0 0 none) : V C 275 [] [.int s0, .ref (K.1 + 26)] (xf K x y) 0 0 := by
  unfold f_X6_advance_275 at h
  refine v_put F 26 (xn (by decide)) xc_26 rfl inlX6 tyX6_ok nmX6 8 (by decide) (tc4 _ (List.mem_of_getElem? (i := 4) rfl)) rfl rfl (tyX6_ok 8 (by decide)) rfl rfl (Nat.le_of_ble_eq_true rfl) (dq dkX6_advance_3 15 rfl) ?_
  refine v_eqM (xwC (q := 26) (j := 8) (v := s0) (by decide) rfl) ?_
  have h := Option.some.inj h
  subst h
  exact v_vret F E (dq dkX6_advance_3 16 rfl)
def f_X6_advance_244 (x : CS) (s0 : Int32) : Option (CS) := some (pi x 26 8 s0)
set_option maxRecDepth 100000 in
set_option maxHeartbeats 4000000 in
theorem t_X6_advance_244 {C : Cx} {K : KE} {y : MS} {R : CS}  (x : CS) (s0 : Int32) (h : f_X6_advance_244 x s0 = some R) (F : Fx C RX6 cX6_advance 3 rm_X6_advance K) (E : CE C (xf K R y) none 0 0 none) : V C 244 [] [.int s0, .ref (K.1 + 26)] (xf K x y) 0 0 := by
  unfold f_X6_advance_244 at h
  refine v_put F 26 (xn (by decide)) xc_26 rfl inlX6 tyX6_ok nmX6 8 (by decide) (tc4 _ (List.mem_of_getElem? (i := 4) rfl)) rfl rfl (tyX6_ok 8 (by decide)) rfl rfl (Nat.le_of_ble_eq_true rfl) (dq dkX6_advance_3 0 rfl) ?_
  refine v_eqM (xwC (q := 26) (j := 8) (v := s0) (by decide) rfl) ?_
  refine v_goto F (tgt := 278) (dq dkX6_advance_3 1 rfl) (by decide) ?_
  have h := Option.some.inj h
  subst h
  exact v_vret F E (dq dkX6_advance_3 16 rfl)
def f_X6_advance_221 (x : CS) : Option (CS) := if ((gi x 26 7) - (gi x 26 9)) ≤ 4 then (f_X6_advance_244 x 306) else (f_X6_advance_244 x 308)
set_option maxRecDepth 100000 in
set_option maxHeartbeats 4000000 in
theorem t_X6_advance_221 {C : Cx} {K : KE} {y : MS} {R : CS}  (x : CS) (h : f_X6_advance_221 x = some R) (F : Fx C RX6 cX6_advance 3 rm_X6_advance K) (E : CE C (xf K R y) none 0 0 none) : V C 221 [(0, .ref (K.1 + 26))] [] (xf K x y) 0 0 := by
  unfold f_X6_advance_221 at h
  refine v_aload_n F (dq dkX6_advance_2 29 rfl) rfl 0 rfl ?_
  refine v_aload_n F (dq dkX6_advance_2 30 rfl) rfl 0 rfl ?_
  refine v_get F 26 (xn (by decide)) xc_26 rfl inlX6 7 (by decide) (tc4 _ (List.mem_of_getElem? (i := 3) rfl)) rfl rfl (dq dkX6_advance_2 31 rfl) ?_
  refine v_aload_n F (dq dkX6_advance_2 32 rfl) rfl 0 rfl ?_
  refine v_get F 26 (xn (by decide)) xc_26 rfl inlX6 9 (by decide) (tc4 _ (List.mem_of_getElem? (i := 5) rfl)) rfl rfl (dq dkX6_advance_2 33 rfl) ?_
  refine v_isub F (dq dkX6_advance_2 34 rfl) ?_
  refine v_iconst F (v := 4) (dq dkX6_advance_2 35 rfl) ki_4 ?_
  refine v_icmp_le F (tgt := 241) (dq dkX6_advance_2 36 rfl) (by decide) (fun c1 => ?_) (fun c1 => ?_)
  · rw [if_pos c1] at h
    refine v_sipush F (v := 306) (dq dkX6_advance_2 39 rfl) ks_306 ?_
    refine v_sub [] rfl ?_
    exact t_X6_advance_244 x 306 h F E
  · rw [if_neg c1] at h
    refine v_sipush F (v := 308) (dq dkX6_advance_2 37 rfl) ks_308 ?_
    refine v_goto F (tgt := 244) (dq dkX6_advance_2 38 rfl) (by decide) ?_
    refine v_sub [] rfl ?_
    exact t_X6_advance_244 x 308 h F E
def f_X6_advance_161 : Nat → CS → Int32 → Option (CS)
  | 0, _, _ => none
  | n + 1, x, a2 => if 160 ≤ a2 then (f_X6_advance_221 x) else ((f_X6_byteAt x (gi x 26 7)).bind fun r3 => if (b2i (f_X6_isDigit r3)) = 0 then (f_X6_advance_221 x) else ((f_X6_byteAt x (gi x 26 7)).bind fun r7 => (f_X6_advance_161 n) (pi (pi x 26 10 ((((gi x 26 10) * 10) + r7) - 48)) 26 7 ((gi (pi x 26 10 ((((gi x 26 10) * 10) + r7) - 48)) 26 7) + 1)) (a2 + 1)))
set_option maxRecDepth 100000 in
set_option maxHeartbeats 4000000 in
theorem t_X6_advance_161 {C : Cx} {K : KE} {y : MS} {R : CS}  (F : Fx C RX6 cX6_advance 3 rm_X6_advance K) (E : CE C (xf K R y) none 0 0 none) : ∀ (n : Nat) (x : CS) (a2 : Int32) (h : f_X6_advance_161 n x a2 = some R), V C 161 [(0, .ref (K.1 + 26)), (2, .int a2)] [] (xf K x y) 0 0 := by
  intro n
  induction n with
  | zero => intro x a2 h; cases h
  | succ n ih =>
    intro x a2 h
    rw [f_X6_advance_161] at h
    refine v_iload_n F (dq dkX6_advance_1 39 rfl) rfl 1 rfl ?_
    refine v_sipush F (v := 160) (dq dkX6_advance_2 0 rfl) ks_160 ?_
    refine v_icmp_ge F (tgt := 221) (dq dkX6_advance_2 1 rfl) (by decide) (fun c2 => ?_) (fun c2 => ?_)
    · rw [if_pos c2] at h
      refine v_sub [0] rfl ?_
      exact t_X6_advance_221 x h F E
    · rw [if_neg c2] at h
      refine v_aload_n F (dq dkX6_advance_2 2 rfl) rfl 0 rfl ?_
      refine v_aload_n F (dq dkX6_advance_2 3 rfl) rfl 0 rfl ?_
      refine v_get F 26 (xn (by decide)) xc_26 rfl inlX6 7 (by decide) (tc4 _ (List.mem_of_getElem? (i := 3) rfl)) rfl rfl (dq dkX6_advance_2 4 rfl) ?_
      obtain ⟨r3, e4, h⟩ := bd_of h
      refine v_callV 1 F (q := 26) (kc1 := 0) (ks1 := 0) (as := [.int (gi x 26 7)]) (st := []) (st1 := (.int r3 :: [])) (res := (some (.int r3))) (c_X6_byteAt (l := C.2.1) x y (gi x 26 7) e4) (xn (by decide)) xc_26 rfl (tc8 _ (List.mem_of_getElem? (i := 8) rfl)) (tc8 _ (List.mem_of_getElem? (i := 9) rfl)) (tc8 _ (List.mem_of_getElem? (i := 10) rfl)) (tc1 _ (List.mem_of_getElem? (i := 23) rfl)) (tc8 _ (List.mem_of_getElem? (i := 11) rfl)) (by decide) rfl ⟨rfl, rfl, Nat.le_of_ble_eq_true rfl, Nat.le_of_ble_eq_true rfl⟩ ⟨Nat.le_of_ble_eq_true rfl, Nat.le_of_ble_eq_true rfl⟩ rfl (Nat.le_of_ble_eq_true rfl) rfl rfl rfl (dq dkX6_advance_2 5 rfl) ?_
      refine v_callS 1 F (kc1 := 0) (ks1 := 0) (as := [.int r3]) (st := []) (st1 := (.int (b2i (f_X6_isDigit r3)) :: [])) (res := (some (.int (b2i (f_X6_isDigit r3))))) (c_X6_isDigit (l := C.2.1) r3) (tc9 _ (List.mem_of_getElem? (i := 3) rfl)) (tc9 _ (List.mem_of_getElem? (i := 4) rfl)) (tc1 _ (List.mem_of_getElem? (i := 23) rfl)) (tc9 _ (List.mem_of_getElem? (i := 5) rfl)) (by decide) rfl ⟨rfl, rfl, Nat.le_of_ble_eq_true rfl, Nat.le_of_ble_eq_true rfl⟩ ⟨Nat.le_of_ble_eq_true rfl, Nat.le_of_ble_eq_true rfl⟩ rfl (Nat.le_of_ble_eq_true rfl) rfl rfl rfl (dq dkX6_advance_2 6 rfl) ?_
      refine v_if_eq F (tgt := 221) (dq dkX6_advance_2 7 rfl) (by decide) (fun c6 => ?_) (fun c6 => ?_)
      · rw [if_pos c6] at h
        refine v_sub [0] rfl ?_
        exact t_X6_advance_221 x h F E
      · rw [if_neg c6] at h
        refine v_aload_n F (dq dkX6_advance_2 8 rfl) rfl 0 rfl ?_
        refine v_aload_n F (dq dkX6_advance_2 9 rfl) rfl 0 rfl ?_
        refine v_get F 26 (xn (by decide)) xc_26 rfl inlX6 10 (by decide) (tc4 _ (List.mem_of_getElem? (i := 6) rfl)) rfl rfl (dq dkX6_advance_2 10 rfl) ?_
        refine v_bipush F (v := 10) (dq dkX6_advance_2 11 rfl) kb_10 ?_
        refine v_imul F (dq dkX6_advance_2 12 rfl) ?_
        refine v_aload_n F (dq dkX6_advance_2 13 rfl) rfl 0 rfl ?_
        refine v_aload_n F (dq dkX6_advance_2 14 rfl) rfl 0 rfl ?_
        refine v_get F 26 (xn (by decide)) xc_26 rfl inlX6 7 (by decide) (tc4 _ (List.mem_of_getElem? (i := 3) rfl)) rfl rfl (dq dkX6_advance_2 15 rfl) ?_
        obtain ⟨r7, e8, h⟩ := bd_of h
        refine v_callV 1 F (q := 26) (kc1 := 0) (ks1 := 0) (as := [.int (gi x 26 7)]) (st := [.int ((gi x 26 10) * 10), .ref (K.1 + 26)]) (st1 := (.int r7 :: [.int ((gi x 26 10) * 10), .ref (K.1 + 26)])) (res := (some (.int r7))) (c_X6_byteAt (l := C.2.1) x y (gi x 26 7) e8) (xn (by decide)) xc_26 rfl (tc8 _ (List.mem_of_getElem? (i := 8) rfl)) (tc8 _ (List.mem_of_getElem? (i := 9) rfl)) (tc8 _ (List.mem_of_getElem? (i := 10) rfl)) (tc1 _ (List.mem_of_getElem? (i := 23) rfl)) (tc8 _ (List.mem_of_getElem? (i := 11) rfl)) (by decide) rfl ⟨rfl, rfl, Nat.le_of_ble_eq_true rfl, Nat.le_of_ble_eq_true rfl⟩ ⟨Nat.le_of_ble_eq_true rfl, Nat.le_of_ble_eq_true rfl⟩ rfl (Nat.le_of_ble_eq_true rfl) rfl rfl rfl (dq dkX6_advance_2 16 rfl) ?_
        refine v_iadd F (dq dkX6_advance_2 17 rfl) ?_
        refine v_bipush F (v := 48) (dq dkX6_advance_2 18 rfl) kb_48 ?_
        refine v_isub F (dq dkX6_advance_2 19 rfl) ?_
        refine v_put F 26 (xn (by decide)) xc_26 rfl inlX6 tyX6_ok nmX6 10 (by decide) (tc4 _ (List.mem_of_getElem? (i := 6) rfl)) rfl rfl (tyX6_ok 10 (by decide)) rfl rfl (Nat.le_of_ble_eq_true rfl) (dq dkX6_advance_2 20 rfl) ?_
        refine v_eqM (xwC (q := 26) (j := 10) (v := (((gi x 26 10) * 10) + r7) - 48) (by decide) rfl) ?_
        refine v_aload_n F (dq dkX6_advance_2 21 rfl) rfl 0 rfl ?_
        refine v_dup F (dq dkX6_advance_2 22 rfl) rfl ?_
        refine v_get F 26 (xn (by decide)) xc_26 rfl inlX6 7 (by decide) (tc4 _ (List.mem_of_getElem? (i := 3) rfl)) rfl rfl (dq dkX6_advance_2 23 rfl) ?_
        refine v_iconst F (v := 1) (dq dkX6_advance_2 24 rfl) ki_1 ?_
        refine v_iadd F (dq dkX6_advance_2 25 rfl) ?_
        refine v_put F 26 (xn (by decide)) xc_26 rfl inlX6 tyX6_ok nmX6 7 (by decide) (tc4 _ (List.mem_of_getElem? (i := 3) rfl)) rfl rfl (tyX6_ok 7 (by decide)) rfl rfl (Nat.le_of_ble_eq_true rfl) (dq dkX6_advance_2 26 rfl) ?_
        refine v_eqM (xwC (q := 26) (j := 7) (v := (gi (pi x 26 10 ((((gi x 26 10) * 10) + r7) - 48)) 26 7) + 1) (by decide) rfl) ?_
        refine v_iinc F (v := a2 + 1) (ls' := [(2, .int (a2 + 1)), (0, .ref (K.1 + 26))]) (dq dkX6_advance_2 27 rfl) (j := 1) rfl (kv_add ki_1) (by decide) rfl ?_
        refine v_goto F (tgt := 161) (dq dkX6_advance_2 28 rfl) (by decide) ?_
        refine v_sub [1, 0] rfl ?_
        exact ih (pi (pi x 26 10 ((((gi x 26 10) * 10) + r7) - 48)) 26 7 ((gi (pi x 26 10 ((((gi x 26 10) * 10) + r7) - 48)) 26 7) + 1)) (a2 + 1) h
def f_X6_advance_136 (x : CS) : Option (CS) := (f_X6_wordToken x).bind fun r9 => some (pi x 26 8 r9)
set_option maxRecDepth 100000 in
set_option maxHeartbeats 4000000 in
theorem t_X6_advance_136 {C : Cx} {K : KE} {y : MS} {R : CS}  (x : CS) (h : f_X6_advance_136 x = some R) (F : Fx C RX6 cX6_advance 3 rm_X6_advance K) (E : CE C (xf K R y) none 0 0 none) : V C 136 [(0, .ref (K.1 + 26))] [] (xf K x y) 0 0 := by
  unfold f_X6_advance_136 at h
  refine v_aload_n F (dq dkX6_advance_1 26 rfl) rfl 0 rfl ?_
  refine v_aload_n F (dq dkX6_advance_1 27 rfl) rfl 0 rfl ?_
  obtain ⟨r9, e10, h⟩ := bd_of h
  refine v_callV 0 F (q := 26) (kc1 := 0) (ks1 := 0) (as := []) (st := [.ref (K.1 + 26)]) (st1 := (.int r9 :: [.ref (K.1 + 26)])) (res := (some (.int r9))) (c_X6_wordToken (l := C.2.1) x y e10) (xn (by decide)) xc_26 rfl (tc8 _ (List.mem_of_getElem? (i := 17) rfl)) (tc8 _ (List.mem_of_getElem? (i := 18) rfl)) (tc8 _ (List.mem_of_getElem? (i := 19) rfl)) (tc1 _ (List.mem_of_getElem? (i := 23) rfl)) (tc8 _ (List.mem_of_getElem? (i := 20) rfl)) (by decide) rfl ⟨rfl, rfl, Nat.le_of_ble_eq_true rfl, Nat.le_of_ble_eq_true rfl⟩ ⟨Nat.le_of_ble_eq_true rfl, Nat.le_of_ble_eq_true rfl⟩ rfl (Nat.le_of_ble_eq_true rfl) rfl rfl rfl (dq dkX6_advance_1 28 rfl) ?_
  refine v_put F 26 (xn (by decide)) xc_26 rfl inlX6 tyX6_ok nmX6 8 (by decide) (tc4 _ (List.mem_of_getElem? (i := 4) rfl)) rfl rfl (tyX6_ok 8 (by decide)) rfl rfl (Nat.le_of_ble_eq_true rfl) (dq dkX6_advance_1 29 rfl) ?_
  refine v_eqM (xwC (q := 26) (j := 8) (v := r9) (by decide) rfl) ?_
  refine v_goto F (tgt := 278) (dq dkX6_advance_1 30 rfl) (by decide) ?_
  have h := Option.some.inj h
  subst h
  exact v_vret F E (dq dkX6_advance_3 16 rfl)
def f_X6_advance_99 : Nat → CS → Int32 → Option (CS)
  | 0, _, _ => none
  | n + 1, x, a2 => if 160 ≤ a2 then (f_X6_advance_136 x) else ((f_X6_byteAt x (gi x 26 7)).bind fun r12 => if (b2i (f_X6_isLetter r12)) = 0 then (f_X6_advance_136 x) else ((f_X6_advance_99 n) (pi x 26 7 ((gi x 26 7) + 1)) (a2 + 1)))
set_option maxRecDepth 100000 in
set_option maxHeartbeats 4000000 in
theorem t_X6_advance_99 {C : Cx} {K : KE} {y : MS} {R : CS}  (F : Fx C RX6 cX6_advance 3 rm_X6_advance K) (E : CE C (xf K R y) none 0 0 none) : ∀ (n : Nat) (x : CS) (a2 : Int32) (h : f_X6_advance_99 n x a2 = some R), V C 99 [(0, .ref (K.1 + 26)), (2, .int a2)] [] (xf K x y) 0 0 := by
  intro n
  induction n with
  | zero => intro x a2 h; cases h
  | succ n ih =>
    intro x a2 h
    rw [f_X6_advance_99] at h
    refine v_iload_n F (dq dkX6_advance_1 9 rfl) rfl 1 rfl ?_
    refine v_sipush F (v := 160) (dq dkX6_advance_1 10 rfl) ks_160 ?_
    refine v_icmp_ge F (tgt := 136) (dq dkX6_advance_1 11 rfl) (by decide) (fun c11 => ?_) (fun c11 => ?_)
    · rw [if_pos c11] at h
      refine v_sub [0] rfl ?_
      exact t_X6_advance_136 x h F E
    · rw [if_neg c11] at h
      refine v_aload_n F (dq dkX6_advance_1 12 rfl) rfl 0 rfl ?_
      refine v_aload_n F (dq dkX6_advance_1 13 rfl) rfl 0 rfl ?_
      refine v_get F 26 (xn (by decide)) xc_26 rfl inlX6 7 (by decide) (tc4 _ (List.mem_of_getElem? (i := 3) rfl)) rfl rfl (dq dkX6_advance_1 14 rfl) ?_
      obtain ⟨r12, e13, h⟩ := bd_of h
      refine v_callV 1 F (q := 26) (kc1 := 0) (ks1 := 0) (as := [.int (gi x 26 7)]) (st := []) (st1 := (.int r12 :: [])) (res := (some (.int r12))) (c_X6_byteAt (l := C.2.1) x y (gi x 26 7) e13) (xn (by decide)) xc_26 rfl (tc8 _ (List.mem_of_getElem? (i := 8) rfl)) (tc8 _ (List.mem_of_getElem? (i := 9) rfl)) (tc8 _ (List.mem_of_getElem? (i := 10) rfl)) (tc1 _ (List.mem_of_getElem? (i := 23) rfl)) (tc8 _ (List.mem_of_getElem? (i := 11) rfl)) (by decide) rfl ⟨rfl, rfl, Nat.le_of_ble_eq_true rfl, Nat.le_of_ble_eq_true rfl⟩ ⟨Nat.le_of_ble_eq_true rfl, Nat.le_of_ble_eq_true rfl⟩ rfl (Nat.le_of_ble_eq_true rfl) rfl rfl rfl (dq dkX6_advance_1 15 rfl) ?_
      refine v_callS 1 F (kc1 := 0) (ks1 := 0) (as := [.int r12]) (st := []) (st1 := (.int (b2i (f_X6_isLetter r12)) :: [])) (res := (some (.int (b2i (f_X6_isLetter r12))))) (c_X6_isLetter (l := C.2.1) r12) (tc8 _ (List.mem_of_getElem? (i := 12) rfl)) (tc8 _ (List.mem_of_getElem? (i := 13) rfl)) (tc1 _ (List.mem_of_getElem? (i := 23) rfl)) (tc8 _ (List.mem_of_getElem? (i := 14) rfl)) (by decide) rfl ⟨rfl, rfl, Nat.le_of_ble_eq_true rfl, Nat.le_of_ble_eq_true rfl⟩ ⟨Nat.le_of_ble_eq_true rfl, Nat.le_of_ble_eq_true rfl⟩ rfl (Nat.le_of_ble_eq_true rfl) rfl rfl rfl (dq dkX6_advance_1 16 rfl) ?_
      refine v_if_eq F (tgt := 136) (dq dkX6_advance_1 17 rfl) (by decide) (fun c15 => ?_) (fun c15 => ?_)
      · rw [if_pos c15] at h
        refine v_sub [0] rfl ?_
        exact t_X6_advance_136 x h F E
      · rw [if_neg c15] at h
        refine v_aload_n F (dq dkX6_advance_1 18 rfl) rfl 0 rfl ?_
        refine v_dup F (dq dkX6_advance_1 19 rfl) rfl ?_
        refine v_get F 26 (xn (by decide)) xc_26 rfl inlX6 7 (by decide) (tc4 _ (List.mem_of_getElem? (i := 3) rfl)) rfl rfl (dq dkX6_advance_1 20 rfl) ?_
        refine v_iconst F (v := 1) (dq dkX6_advance_1 21 rfl) ki_1 ?_
        refine v_iadd F (dq dkX6_advance_1 22 rfl) ?_
        refine v_put F 26 (xn (by decide)) xc_26 rfl inlX6 tyX6_ok nmX6 7 (by decide) (tc4 _ (List.mem_of_getElem? (i := 3) rfl)) rfl rfl (tyX6_ok 7 (by decide)) rfl rfl (Nat.le_of_ble_eq_true rfl) (dq dkX6_advance_1 23 rfl) ?_
        refine v_eqM (xwC (q := 26) (j := 7) (v := (gi x 26 7) + 1) (by decide) rfl) ?_
        refine v_iinc F (v := a2 + 1) (ls' := [(2, .int (a2 + 1)), (0, .ref (K.1 + 26))]) (dq dkX6_advance_1 24 rfl) (j := 1) rfl (kv_add ki_1) (by decide) rfl ?_
        refine v_goto F (tgt := 99) (dq dkX6_advance_1 25 rfl) (by decide) ?_
        refine v_sub [1, 0] rfl ?_
        exact ih (pi x 26 7 ((gi x 26 7) + 1)) (a2 + 1) h
def f_X6_advance_59 (x : CS) : Option (CS) := (f_X6_byteAt (pi x 26 9 (gi x 26 7)) (gi (pi x 26 9 (gi x 26 7)) 26 7)).bind fun r16 => if 0 ≤ r16 then (if (b2i (f_X6_isLetter r16)) = 0 then (if (b2i (f_X6_isDigit r16)) = 0 then (if (b2i (f_X6_isSign r16)) = 0 then (f_X6_advance_275 (pi (pi x 26 9 (gi x 26 7)) 26 7 ((gi (pi x 26 9 (gi x 26 7)) 26 7) + 1)) 308) else (f_X6_advance_275 (pi (pi x 26 9 (gi x 26 7)) 26 7 ((gi (pi x 26 9 (gi x 26 7)) 26 7) + 1)) r16)) else (f_X6_advance_161 1000 (pi (pi x 26 9 (gi x 26 7)) 26 10 0) 0)) else (f_X6_advance_99 1000 (pi x 26 9 (gi x 26 7)) 0)) else (some (pi (pi x 26 9 (gi x 26 7)) 26 8 307))
set_option maxRecDepth 100000 in
set_option maxHeartbeats 4000000 in
theorem t_X6_advance_59 {C : Cx} {K : KE} {y : MS} {R : CS}  (x : CS) (h : f_X6_advance_59 x = some R) (F : Fx C RX6 cX6_advance 3 rm_X6_advance K) (E : CE C (xf K R y) none 0 0 none) : V C 59 [(0, .ref (K.1 + 26))] [] (xf K x y) 0 0 := by
  unfold f_X6_advance_59 at h
  refine v_aload_n F (dq dkX6_advance_0 29 rfl) rfl 0 rfl ?_
  refine v_aload_n F (dq dkX6_advance_0 30 rfl) rfl 0 rfl ?_
  refine v_get F 26 (xn (by decide)) xc_26 rfl inlX6 7 (by decide) (tc4 _ (List.mem_of_getElem? (i := 3) rfl)) rfl rfl (dq dkX6_advance_0 31 rfl) ?_
  refine v_put F 26 (xn (by decide)) xc_26 rfl inlX6 tyX6_ok nmX6 9 (by decide) (tc4 _ (List.mem_of_getElem? (i := 5) rfl)) rfl rfl (tyX6_ok 9 (by decide)) rfl rfl (Nat.le_of_ble_eq_true rfl) (dq dkX6_advance_0 32 rfl) ?_
  refine v_eqM (xwC (q := 26) (j := 9) (v := gi x 26 7) (by decide) rfl) ?_
  refine v_aload_n F (dq dkX6_advance_0 33 rfl) rfl 0 rfl ?_
  refine v_aload_n F (dq dkX6_advance_0 34 rfl) rfl 0 rfl ?_
  refine v_get F 26 (xn (by decide)) xc_26 rfl inlX6 7 (by decide) (tc4 _ (List.mem_of_getElem? (i := 3) rfl)) rfl rfl (dq dkX6_advance_0 35 rfl) ?_
  obtain ⟨r16, e17, h⟩ := bd_of h
  refine v_callV 1 F (q := 26) (kc1 := 0) (ks1 := 0) (as := [.int (gi (pi x 26 9 (gi x 26 7)) 26 7)]) (st := []) (st1 := (.int r16 :: [])) (res := (some (.int r16))) (c_X6_byteAt (l := C.2.1) (pi x 26 9 (gi x 26 7)) y (gi (pi x 26 9 (gi x 26 7)) 26 7) e17) (xn (by decide)) xc_26 rfl (tc8 _ (List.mem_of_getElem? (i := 8) rfl)) (tc8 _ (List.mem_of_getElem? (i := 9) rfl)) (tc8 _ (List.mem_of_getElem? (i := 10) rfl)) (tc1 _ (List.mem_of_getElem? (i := 23) rfl)) (tc8 _ (List.mem_of_getElem? (i := 11) rfl)) (by decide) rfl ⟨rfl, rfl, Nat.le_of_ble_eq_true rfl, Nat.le_of_ble_eq_true rfl⟩ ⟨Nat.le_of_ble_eq_true rfl, Nat.le_of_ble_eq_true rfl⟩ rfl (Nat.le_of_ble_eq_true rfl) rfl rfl rfl (dq dkX6_advance_0 36 rfl) ?_
  refine v_istore_n F (ls' := [(1, .int r16), (0, .ref (K.1 + 26))]) (dq dkX6_advance_0 37 rfl) rfl (by decide) rfl ?_
  refine v_iload_n F (dq dkX6_advance_0 38 rfl) rfl 0 rfl ?_
  refine v_if_ge F (tgt := 90) (dq dkX6_advance_0 39 rfl) (by decide) (fun c18 => ?_) (fun c18 => ?_)
  · rw [if_pos c18] at h
    refine v_iload_n F (dq dkX6_advance_1 4 rfl) rfl 0 rfl ?_
    refine v_callS 1 F (kc1 := 0) (ks1 := 0) (as := [.int r16]) (st := []) (st1 := (.int (b2i (f_X6_isLetter r16)) :: [])) (res := (some (.int (b2i (f_X6_isLetter r16))))) (c_X6_isLetter (l := C.2.1) r16) (tc8 _ (List.mem_of_getElem? (i := 12) rfl)) (tc8 _ (List.mem_of_getElem? (i := 13) rfl)) (tc1 _ (List.mem_of_getElem? (i := 23) rfl)) (tc8 _ (List.mem_of_getElem? (i := 14) rfl)) (by decide) rfl ⟨rfl, rfl, Nat.le_of_ble_eq_true rfl, Nat.le_of_ble_eq_true rfl⟩ ⟨Nat.le_of_ble_eq_true rfl, Nat.le_of_ble_eq_true rfl⟩ rfl (Nat.le_of_ble_eq_true rfl) rfl rfl rfl (dq dkX6_advance_1 5 rfl) ?_
    refine v_if_eq F (tgt := 147) (dq dkX6_advance_1 6 rfl) (by decide) (fun c20 => ?_) (fun c20 => ?_)
    · rw [if_pos c20] at h
      refine v_iload_n F (dq dkX6_advance_1 31 rfl) rfl 0 rfl ?_
      refine v_callS 1 F (kc1 := 0) (ks1 := 0) (as := [.int r16]) (st := []) (st1 := (.int (b2i (f_X6_isDigit r16)) :: [])) (res := (some (.int (b2i (f_X6_isDigit r16))))) (c_X6_isDigit (l := C.2.1) r16) (tc9 _ (List.mem_of_getElem? (i := 3) rfl)) (tc9 _ (List.mem_of_getElem? (i := 4) rfl)) (tc1 _ (List.mem_of_getElem? (i := 23) rfl)) (tc9 _ (List.mem_of_getElem? (i := 5) rfl)) (by decide) rfl ⟨rfl, rfl, Nat.le_of_ble_eq_true rfl, Nat.le_of_ble_eq_true rfl⟩ ⟨Nat.le_of_ble_eq_true rfl, Nat.le_of_ble_eq_true rfl⟩ rfl (Nat.le_of_ble_eq_true rfl) rfl rfl rfl (dq dkX6_advance_1 32 rfl) ?_
      refine v_if_eq F (tgt := 250) (dq dkX6_advance_1 33 rfl) (by decide) (fun c22 => ?_) (fun c22 => ?_)
      · rw [if_pos c22] at h
        refine v_aload_n F (dq dkX6_advance_3 2 rfl) rfl 1 rfl ?_
        refine v_dup F (dq dkX6_advance_3 3 rfl) rfl ?_
        refine v_get F 26 (xn (by decide)) xc_26 rfl inlX6 7 (by decide) (tc4 _ (List.mem_of_getElem? (i := 3) rfl)) rfl rfl (dq dkX6_advance_3 4 rfl) ?_
        refine v_iconst F (v := 1) (dq dkX6_advance_3 5 rfl) ki_1 ?_
        refine v_iadd F (dq dkX6_advance_3 6 rfl) ?_
        refine v_put F 26 (xn (by decide)) xc_26 rfl inlX6 tyX6_ok nmX6 7 (by decide) (tc4 _ (List.mem_of_getElem? (i := 3) rfl)) rfl rfl (tyX6_ok 7 (by decide)) rfl rfl (Nat.le_of_ble_eq_true rfl) (dq dkX6_advance_3 7 rfl) ?_
        refine v_eqM (xwC (q := 26) (j := 7) (v := (gi (pi x 26 9 (gi x 26 7)) 26 7) + 1) (by decide) rfl) ?_
        refine v_aload_n F (dq dkX6_advance_3 8 rfl) rfl 1 rfl ?_
        refine v_iload_n F (dq dkX6_advance_3 9 rfl) rfl 0 rfl ?_
        refine v_callS 1 F (kc1 := 0) (ks1 := 0) (as := [.int r16]) (st := [.ref (K.1 + 26)]) (st1 := (.int (b2i (f_X6_isSign r16)) :: [.ref (K.1 + 26)])) (res := (some (.int (b2i (f_X6_isSign r16))))) (c_X6_isSign (l := C.2.1) r16) (tc9 _ (List.mem_of_getElem? (i := 6) rfl)) (tc9 _ (List.mem_of_getElem? (i := 7) rfl)) (tc1 _ (List.mem_of_getElem? (i := 23) rfl)) (tc9 _ (List.mem_of_getElem? (i := 8) rfl)) (by decide) rfl ⟨rfl, rfl, Nat.le_of_ble_eq_true rfl, Nat.le_of_ble_eq_true rfl⟩ ⟨Nat.le_of_ble_eq_true rfl, Nat.le_of_ble_eq_true rfl⟩ rfl (Nat.le_of_ble_eq_true rfl) rfl rfl rfl (dq dkX6_advance_3 10 rfl) ?_
        refine v_if_eq F (tgt := 272) (dq dkX6_advance_3 11 rfl) (by decide) (fun c24 => ?_) (fun c24 => ?_)
        · rw [if_pos c24] at h
          refine v_sipush F (v := 308) (dq dkX6_advance_3 14 rfl) ks_308 ?_
          refine v_sub [] rfl ?_
          exact t_X6_advance_275 (pi (pi x 26 9 (gi x 26 7)) 26 7 ((gi (pi x 26 9 (gi x 26 7)) 26 7) + 1)) 308 h F E
        · rw [if_neg c24] at h
          refine v_iload_n F (dq dkX6_advance_3 12 rfl) rfl 0 rfl ?_
          refine v_goto F (tgt := 275) (dq dkX6_advance_3 13 rfl) (by decide) ?_
          refine v_sub [] rfl ?_
          exact t_X6_advance_275 (pi (pi x 26 9 (gi x 26 7)) 26 7 ((gi (pi x 26 9 (gi x 26 7)) 26 7) + 1)) r16 h F E
      · rw [if_neg c22] at h
        refine v_aload_n F (dq dkX6_advance_1 34 rfl) rfl 1 rfl ?_
        refine v_iconst F (v := 0) (dq dkX6_advance_1 35 rfl) ki_0 ?_
        refine v_put F 26 (xn (by decide)) xc_26 rfl inlX6 tyX6_ok nmX6 10 (by decide) (tc4 _ (List.mem_of_getElem? (i := 6) rfl)) rfl rfl (tyX6_ok 10 (by decide)) rfl rfl (Nat.le_of_ble_eq_true rfl) (dq dkX6_advance_1 36 rfl) ?_
        refine v_eqM (xwC (q := 26) (j := 10) (v := 0) (by decide) rfl) ?_
        refine v_iconst F (v := 0) (dq dkX6_advance_1 37 rfl) ki_0 ?_
        refine v_istore_n F (ls' := [(2, .int 0), (1, .int r16), (0, .ref (K.1 + 26))]) (dq dkX6_advance_1 38 rfl) rfl (by decide) rfl ?_
        refine v_sub [2, 0] rfl ?_
        exact t_X6_advance_161 F E 1000 (pi (pi x 26 9 (gi x 26 7)) 26 10 0) 0 h
    · rw [if_neg c20] at h
      refine v_iconst F (v := 0) (dq dkX6_advance_1 7 rfl) ki_0 ?_
      refine v_istore_n F (ls' := [(2, .int 0), (1, .int r16), (0, .ref (K.1 + 26))]) (dq dkX6_advance_1 8 rfl) rfl (by decide) rfl ?_
      refine v_sub [2, 0] rfl ?_
      exact t_X6_advance_99 F E 1000 (pi x 26 9 (gi x 26 7)) 0 h
  · rw [if_neg c18] at h
    refine v_aload_n F (dq dkX6_advance_1 0 rfl) rfl 1 rfl ?_
    refine v_sipush F (v := 307) (dq dkX6_advance_1 1 rfl) ks_307 ?_
    refine v_put F 26 (xn (by decide)) xc_26 rfl inlX6 tyX6_ok nmX6 8 (by decide) (tc4 _ (List.mem_of_getElem? (i := 4) rfl)) rfl rfl (tyX6_ok 8 (by decide)) rfl rfl (Nat.le_of_ble_eq_true rfl) (dq dkX6_advance_1 2 rfl) ?_
    refine v_eqM (xwC (q := 26) (j := 8) (v := 307) (by decide) rfl) ?_
    refine v_goto F (tgt := 278) (dq dkX6_advance_1 3 rfl) (by decide) ?_
    have h := Option.some.inj h
    subst h
    exact v_vret F E (dq dkX6_advance_3 16 rfl)
def f_X6_advance_43 (k10 : CS → Int32 → Option (CS)) (x : CS) (a1 : Int32) : Option (CS) := k10 (pi x 26 7 ((gi x 26 7) + 1)) (a1 + 1)
set_option maxRecDepth 100000 in
set_option maxHeartbeats 4000000 in
theorem t_X6_advance_43 {C : Cx} {K : KE} {y : MS} {R : CS}  (k10 : CS → Int32 → Option (CS)) (x : CS) (a1 : Int32) (hk10 : ∀ (x : CS) (a1 : Int32), k10 x a1 = some R → V C 10 [(0, .ref (K.1 + 26)), (1, .int a1)] [] (xf K x y) 0 0) (h : f_X6_advance_43 k10 x a1 = some R) (F : Fx C RX6 cX6_advance 3 rm_X6_advance K) (E : CE C (xf K R y) none 0 0 none) : V C 43 [(0, .ref (K.1 + 26)), (1, .int a1)] [] (xf K x y) 0 0 := by
  unfold f_X6_advance_43 at h
  refine v_aload_n F (dq dkX6_advance_0 21 rfl) rfl 0 rfl ?_
  refine v_dup F (dq dkX6_advance_0 22 rfl) rfl ?_
  refine v_get F 26 (xn (by decide)) xc_26 rfl inlX6 7 (by decide) (tc4 _ (List.mem_of_getElem? (i := 3) rfl)) rfl rfl (dq dkX6_advance_0 23 rfl) ?_
  refine v_iconst F (v := 1) (dq dkX6_advance_0 24 rfl) ki_1 ?_
  refine v_iadd F (dq dkX6_advance_0 25 rfl) ?_
  refine v_put F 26 (xn (by decide)) xc_26 rfl inlX6 tyX6_ok nmX6 7 (by decide) (tc4 _ (List.mem_of_getElem? (i := 3) rfl)) rfl rfl (tyX6_ok 7 (by decide)) rfl rfl (Nat.le_of_ble_eq_true rfl) (dq dkX6_advance_0 26 rfl) ?_
  refine v_eqM (xwC (q := 26) (j := 7) (v := (gi x 26 7) + 1) (by decide) rfl) ?_
  refine v_iinc F (v := a1 + 1) (ls' := [(1, .int (a1 + 1)), (0, .ref (K.1 + 26))]) (dq dkX6_advance_0 27 rfl) (j := 1) rfl (kv_add ki_1) (by decide) rfl ?_
  refine v_goto F (tgt := 10) (dq dkX6_advance_0 28 rfl) (by decide) ?_
  refine v_sub [1, 0] rfl ?_
  exact hk10 (pi x 26 7 ((gi x 26 7) + 1)) (a1 + 1) h
def f_X6_advance_10 : Nat → CS → Int32 → Option (CS)
  | 0, _, _ => none
  | n + 1, x, a1 => if 160 ≤ a1 then (f_X6_advance_59 x) else ((f_X6_byteAt x (gi x 26 7)).bind fun r26 => if r26 = 32 then (f_X6_advance_43 (f_X6_advance_10 n) x a1) else ((f_X6_byteAt x (gi x 26 7)).bind fun r29 => if r29 = 10 then (f_X6_advance_43 (f_X6_advance_10 n) x a1) else (f_X6_advance_59 x)))
set_option maxRecDepth 100000 in
set_option maxHeartbeats 4000000 in
theorem t_X6_advance_10 {C : Cx} {K : KE} {y : MS} {R : CS}  (F : Fx C RX6 cX6_advance 3 rm_X6_advance K) (E : CE C (xf K R y) none 0 0 none) : ∀ (n : Nat) (x : CS) (a1 : Int32) (h : f_X6_advance_10 n x a1 = some R), V C 10 [(0, .ref (K.1 + 26)), (1, .int a1)] [] (xf K x y) 0 0 := by
  intro n
  induction n with
  | zero => intro x a1 h; cases h
  | succ n ih =>
    intro x a1 h
    rw [f_X6_advance_10] at h
    refine v_iload_n F (dq dkX6_advance_0 6 rfl) rfl 1 rfl ?_
    refine v_sipush F (v := 160) (dq dkX6_advance_0 7 rfl) ks_160 ?_
    refine v_icmp_ge F (tgt := 59) (dq dkX6_advance_0 8 rfl) (by decide) (fun c25 => ?_) (fun c25 => ?_)
    · rw [if_pos c25] at h
      refine v_sub [0] rfl ?_
      exact t_X6_advance_59 x h F E
    · rw [if_neg c25] at h
      refine v_aload_n F (dq dkX6_advance_0 9 rfl) rfl 0 rfl ?_
      refine v_aload_n F (dq dkX6_advance_0 10 rfl) rfl 0 rfl ?_
      refine v_get F 26 (xn (by decide)) xc_26 rfl inlX6 7 (by decide) (tc4 _ (List.mem_of_getElem? (i := 3) rfl)) rfl rfl (dq dkX6_advance_0 11 rfl) ?_
      obtain ⟨r26, e27, h⟩ := bd_of h
      refine v_callV 1 F (q := 26) (kc1 := 0) (ks1 := 0) (as := [.int (gi x 26 7)]) (st := []) (st1 := (.int r26 :: [])) (res := (some (.int r26))) (c_X6_byteAt (l := C.2.1) x y (gi x 26 7) e27) (xn (by decide)) xc_26 rfl (tc8 _ (List.mem_of_getElem? (i := 8) rfl)) (tc8 _ (List.mem_of_getElem? (i := 9) rfl)) (tc8 _ (List.mem_of_getElem? (i := 10) rfl)) (tc1 _ (List.mem_of_getElem? (i := 23) rfl)) (tc8 _ (List.mem_of_getElem? (i := 11) rfl)) (by decide) rfl ⟨rfl, rfl, Nat.le_of_ble_eq_true rfl, Nat.le_of_ble_eq_true rfl⟩ ⟨Nat.le_of_ble_eq_true rfl, Nat.le_of_ble_eq_true rfl⟩ rfl (Nat.le_of_ble_eq_true rfl) rfl rfl rfl (dq dkX6_advance_0 12 rfl) ?_
      refine v_bipush F (v := 32) (dq dkX6_advance_0 13 rfl) kb_32 ?_
      refine v_icmp_eq F (tgt := 43) (dq dkX6_advance_0 14 rfl) (by decide) (fun c28 => ?_) (fun c28 => ?_)
      · rw [if_pos c28] at h
        exact t_X6_advance_43 (f_X6_advance_10 n) x a1 ih h F E
      · rw [if_neg c28] at h
        refine v_aload_n F (dq dkX6_advance_0 15 rfl) rfl 0 rfl ?_
        refine v_aload_n F (dq dkX6_advance_0 16 rfl) rfl 0 rfl ?_
        refine v_get F 26 (xn (by decide)) xc_26 rfl inlX6 7 (by decide) (tc4 _ (List.mem_of_getElem? (i := 3) rfl)) rfl rfl (dq dkX6_advance_0 17 rfl) ?_
        obtain ⟨r29, e30, h⟩ := bd_of h
        refine v_callV 1 F (q := 26) (kc1 := 0) (ks1 := 0) (as := [.int (gi x 26 7)]) (st := []) (st1 := (.int r29 :: [])) (res := (some (.int r29))) (c_X6_byteAt (l := C.2.1) x y (gi x 26 7) e30) (xn (by decide)) xc_26 rfl (tc8 _ (List.mem_of_getElem? (i := 8) rfl)) (tc8 _ (List.mem_of_getElem? (i := 9) rfl)) (tc8 _ (List.mem_of_getElem? (i := 10) rfl)) (tc1 _ (List.mem_of_getElem? (i := 23) rfl)) (tc8 _ (List.mem_of_getElem? (i := 11) rfl)) (by decide) rfl ⟨rfl, rfl, Nat.le_of_ble_eq_true rfl, Nat.le_of_ble_eq_true rfl⟩ ⟨Nat.le_of_ble_eq_true rfl, Nat.le_of_ble_eq_true rfl⟩ rfl (Nat.le_of_ble_eq_true rfl) rfl rfl rfl (dq dkX6_advance_0 18 rfl) ?_
        refine v_bipush F (v := 10) (dq dkX6_advance_0 19 rfl) kb_10 ?_
        refine v_icmp_ne F (tgt := 59) (dq dkX6_advance_0 20 rfl) (by decide) (fun c31 => ?_) (fun c31 => ?_)
        · rw [if_neg c31] at h
          refine v_sub [0] rfl ?_
          exact t_X6_advance_59 x h F E
        · rw [if_pos c31] at h
          exact t_X6_advance_43 (f_X6_advance_10 n) x a1 ih h F E
def f_X6_advance (x : CS) : Option (CS) := if (gi x 26 5) < 0 then (f_X6_advance_10 1000 x 0) else (some x)
set_option maxRecDepth 100000 in
set_option maxHeartbeats 4000000 in
theorem c_X6_advance {K : KE} {l : Launch} {R : CS} (x : CS) (y : MS) (h : f_X6_advance x = some R) : MC K l yX6_advance cX6_advance 3 none rm_X6_advance 0 0 [.ref (K.1 + 26)] (xf K x y) (xf K R y) none := by
  unfold f_X6_advance at h
  refine mc_of (ls0 := [(0, .ref (K.1 + 26))]) (by decide) (Nat.le_of_ble_eq_true rfl) rfl (fun C hl hnm F E => ?_)
  have F : Fx C RX6 cX6_advance 3 rm_X6_advance K := F
  refine v_aload_n F (dq dkX6_advance_0 0 rfl) rfl 0 rfl ?_
  refine v_get F 26 (xn (by decide)) xc_26 rfl inlX6 5 (by decide) (tc4 _ (List.mem_of_getElem? (i := 1) rfl)) rfl rfl (dq dkX6_advance_0 1 rfl) ?_
  refine v_if_lt F (tgt := 8) (dq dkX6_advance_0 2 rfl) (by decide) (fun c32 => ?_) (fun c32 => ?_)
  · rw [if_pos c32] at h
    refine v_iconst F (v := 0) (dq dkX6_advance_0 4 rfl) ki_0 ?_
    refine v_istore_n F (ls' := [(1, .int 0), (0, .ref (K.1 + 26))]) (dq dkX6_advance_0 5 rfl) rfl (by decide) rfl ?_
    refine v_sub [1, 0] rfl ?_
    exact t_X6_advance_10 F E 1000 x 0 h
  · rw [if_neg c32] at h
    have h := Option.some.inj h
    subst h
    exact v_vret F E (dq dkX6_advance_0 3 rfl)
def rm_X6_fail : Room := { frames := 1, cells := 0, slots := 0, locals := 30 }
def f_X6_fail (x : CS) : CS := if 0 ≤ (gi x 26 5) then x else (pi x 26 5 (gi x 26 9))
set_option maxRecDepth 100000 in
set_option maxHeartbeats 4000000 in
theorem c_X6_fail {K : KE} {l : Launch} (x : CS) (y : MS) : MC K l yX6_fail cX6_fail 1 none rm_X6_fail 0 0 [.ref (K.1 + 26)] (xf K x y) (xf K (f_X6_fail x) y) none := by
  obtain ⟨R, h⟩ : ∃ R, f_X6_fail x = R := ⟨_, rfl⟩
  rw [h]
  unfold f_X6_fail at h
  refine mc_of (ls0 := [(0, .ref (K.1 + 26))]) (by decide) (Nat.le_of_ble_eq_true rfl) rfl (fun C hl hnm F E => ?_)
  have F : Fx C RX6 cX6_fail 1 rm_X6_fail K := F
  refine v_aload_n F (dq dkX6_fail_0 0 rfl) rfl 0 rfl ?_
  refine v_get F 26 (xn (by decide)) xc_26 rfl inlX6 5 (by decide) (tc4 _ (List.mem_of_getElem? (i := 1) rfl)) rfl rfl (dq dkX6_fail_0 1 rfl) ?_
  refine v_if_ge F (tgt := 15) (dq dkX6_fail_0 2 rfl) (by decide) (fun c1 => ?_) (fun c1 => ?_)
  · rw [if_pos c1] at h
    subst h
    exact v_vret F E (dq dkX6_fail_0 7 rfl)
  · rw [if_neg c1] at h
    refine v_aload_n F (dq dkX6_fail_0 3 rfl) rfl 0 rfl ?_
    refine v_aload_n F (dq dkX6_fail_0 4 rfl) rfl 0 rfl ?_
    refine v_get F 26 (xn (by decide)) xc_26 rfl inlX6 9 (by decide) (tc4 _ (List.mem_of_getElem? (i := 5) rfl)) rfl rfl (dq dkX6_fail_0 5 rfl) ?_
    refine v_put F 26 (xn (by decide)) xc_26 rfl inlX6 tyX6_ok nmX6 5 (by decide) (tc4 _ (List.mem_of_getElem? (i := 1) rfl)) rfl rfl (tyX6_ok 5 (by decide)) rfl rfl (Nat.le_of_ble_eq_true rfl) (dq dkX6_fail_0 6 rfl) ?_
    refine v_eqM (xwC (q := 26) (j := 5) (v := gi x 26 9) (by decide) rfl) ?_
    subst h
    exact v_vret F E (dq dkX6_fail_0 7 rfl)
def rm_X6_expect : Room := { frames := 8, cells := 0, slots := 0, locals := 264 }
def f_X6_expect (x : CS) (a1 : Int32) : Option (CS) := if (gi x 26 8) = a1 then ((f_X6_advance x).bind fun r3 => some r3) else (some (f_X6_fail x))
set_option maxRecDepth 100000 in
set_option maxHeartbeats 4000000 in
theorem c_X6_expect {K : KE} {l : Launch} {R : CS} (x : CS) (y : MS) (a1 : Int32) (h : f_X6_expect x a1 = some R) : MC K l yX6_expect cX6_expect 2 none rm_X6_expect 0 0 [.ref (K.1 + 26), .int a1] (xf K x y) (xf K R y) none := by
  unfold f_X6_expect at h
  refine mc_of (ls0 := [(0, .ref (K.1 + 26)), (1, .int a1)]) (by decide) (Nat.le_of_ble_eq_true rfl) rfl (fun C hl hnm F E => ?_)
  have F : Fx C RX6 cX6_expect 2 rm_X6_expect K := F
  refine v_aload_n F (dq dkX6_expect_0 0 rfl) rfl 0 rfl ?_
  refine v_get F 26 (xn (by decide)) xc_26 rfl inlX6 8 (by decide) (tc4 _ (List.mem_of_getElem? (i := 4) rfl)) rfl rfl (dq dkX6_expect_0 1 rfl) ?_
  refine v_iload_n F (dq dkX6_expect_0 2 rfl) rfl 1 rfl ?_
  refine v_icmp_ne F (tgt := 15) (dq dkX6_expect_0 3 rfl) (by decide) (fun c1 => ?_) (fun c1 => ?_)
  · rw [if_neg c1] at h
    refine v_aload_n F (dq dkX6_expect_0 7 rfl) rfl 0 rfl ?_
    refine v_callV 0 F (q := 26) (kc1 := 0) (ks1 := 0) (as := []) (st := []) (st1 := []) (res := none) (c_X6_fail (l := C.2.1) x y) (xn (by decide)) xc_26 rfl (tc9 _ (List.mem_of_getElem? (i := 13) rfl)) (tc9 _ (List.mem_of_getElem? (i := 14) rfl)) (tc9 _ (List.mem_of_getElem? (i := 15) rfl)) (tc1 _ (List.mem_of_getElem? (i := 23) rfl)) (tc9 _ (List.mem_of_getElem? (i := 16) rfl)) (by decide) rfl ⟨rfl, rfl, Nat.le_of_ble_eq_true rfl, Nat.le_of_ble_eq_true rfl⟩ ⟨Nat.le_of_ble_eq_true rfl, Nat.le_of_ble_eq_true rfl⟩ rfl (Nat.le_of_ble_eq_true rfl) rfl rfl rfl (dq dkX6_expect_0 8 rfl) ?_
    have h := Option.some.inj h
    subst h
    exact v_vret F E (dq dkX6_expect_0 9 rfl)
  · rw [if_pos c1] at h
    refine v_aload_n F (dq dkX6_expect_0 4 rfl) rfl 0 rfl ?_
    obtain ⟨r3, e4, h⟩ := bd_of h
    refine v_callV 0 F (q := 26) (kc1 := 0) (ks1 := 0) (as := []) (st := []) (st1 := []) (res := none) (c_X6_advance (l := C.2.1) x y e4) (xn (by decide)) xc_26 rfl (tc8 _ (List.mem_of_getElem? (i := 4) rfl)) (tc8 _ (List.mem_of_getElem? (i := 5) rfl)) (tc8 _ (List.mem_of_getElem? (i := 6) rfl)) (tc1 _ (List.mem_of_getElem? (i := 23) rfl)) (tc8 _ (List.mem_of_getElem? (i := 7) rfl)) (by decide) rfl ⟨rfl, rfl, Nat.le_of_ble_eq_true rfl, Nat.le_of_ble_eq_true rfl⟩ ⟨Nat.le_of_ble_eq_true rfl, Nat.le_of_ble_eq_true rfl⟩ rfl (Nat.le_of_ble_eq_true rfl) rfl rfl rfl (dq dkX6_expect_0 5 rfl) ?_
    refine v_goto F (tgt := 19) (dq dkX6_expect_0 6 rfl) (by decide) ?_
    have h := Option.some.inj h
    subst h
    exact v_vret F E (dq dkX6_expect_0 9 rfl)
def rm_X6_emit : Room := { frames := 1, cells := 0, slots := 0, locals := 30 }
def f_X6_emit (x : CS) (a1 : Int32) : Option (CS) := if 0 ≤ (gi x 26 5) then (some x) else (if 160 ≤ (gi x 26 4) then (some x) else (gd (ib (gi x 26 4) 160) (some (pi (pi x 28 ((gi x 26 4).toNatClampNeg) a1) 26 4 ((gi (pi x 28 ((gi x 26 4).toNatClampNeg) a1) 26 4) + 1)))))
set_option maxRecDepth 100000 in
set_option maxHeartbeats 4000000 in
theorem c_X6_emit {K : KE} {l : Launch} {R : CS} (x : CS) (y : MS) (a1 : Int32) (h : f_X6_emit x a1 = some R) : MC K l yX6_emit cX6_emit 2 none rm_X6_emit 0 0 [.ref (K.1 + 26), .int a1] (xf K x y) (xf K R y) none := by
  unfold f_X6_emit at h
  refine mc_of (ls0 := [(0, .ref (K.1 + 26)), (1, .int a1)]) (by decide) (Nat.le_of_ble_eq_true rfl) rfl (fun C hl hnm F E => ?_)
  have F : Fx C RX6 cX6_emit 2 rm_X6_emit K := F
  refine v_aload_n F (dq dkX6_emit_0 0 rfl) rfl 0 rfl ?_
  refine v_get F 26 (xn (by decide)) xc_26 rfl inlX6 5 (by decide) (tc4 _ (List.mem_of_getElem? (i := 1) rfl)) rfl rfl (dq dkX6_emit_0 1 rfl) ?_
  refine v_if_ge F (tgt := 37) (dq dkX6_emit_0 2 rfl) (by decide) (fun c1 => ?_) (fun c1 => ?_)
  · rw [if_pos c1] at h
    have h := Option.some.inj h
    subst h
    exact v_vret F E (dq dkX6_emit_0 19 rfl)
  · rw [if_neg c1] at h
    refine v_aload_n F (dq dkX6_emit_0 3 rfl) rfl 0 rfl ?_
    refine v_get F 26 (xn (by decide)) xc_26 rfl inlX6 4 (by decide) (tc4 _ (List.mem_of_getElem? (i := 0) rfl)) rfl rfl (dq dkX6_emit_0 4 rfl) ?_
    refine v_sipush F (v := 160) (dq dkX6_emit_0 5 rfl) ks_160 ?_
    refine v_icmp_ge F (tgt := 37) (dq dkX6_emit_0 6 rfl) (by decide) (fun c2 => ?_) (fun c2 => ?_)
    · rw [if_pos c2] at h
      have h := Option.some.inj h
      subst h
      exact v_vret F E (dq dkX6_emit_0 19 rfl)
    · rw [if_neg c2] at h
      refine v_aload_n F (dq dkX6_emit_0 7 rfl) rfl 0 rfl ?_
      refine v_get F 26 (xn (by decide)) xc_26 rfl inlX6 2 (by decide) (tc3 _ (List.mem_of_getElem? (i := 22) rfl)) rfl rfl (dq dkX6_emit_0 8 rfl) ?_
      refine v_aload_n F (dq dkX6_emit_0 9 rfl) rfl 0 rfl ?_
      refine v_get F 26 (xn (by decide)) xc_26 rfl inlX6 4 (by decide) (tc4 _ (List.mem_of_getElem? (i := 0) rfl)) rfl rfl (dq dkX6_emit_0 10 rfl) ?_
      refine v_iload_n F (dq dkX6_emit_0 11 rfl) rfl 1 rfl ?_
      obtain ⟨g3, h⟩ := gd_of h
      refine v_iast F 28 (xn (by decide)) xc_28 (ib_in g3) (dq dkX6_emit_0 12 rfl) ?_
      refine v_eqM (xwC (q := 28) (j := (gi x 26 4).toNatClampNeg) (v := a1) (by decide) rfl) ?_
      refine v_aload_n F (dq dkX6_emit_0 13 rfl) rfl 0 rfl ?_
      refine v_dup F (dq dkX6_emit_0 14 rfl) rfl ?_
      refine v_get F 26 (xn (by decide)) xc_26 rfl inlX6 4 (by decide) (tc4 _ (List.mem_of_getElem? (i := 0) rfl)) rfl rfl (dq dkX6_emit_0 15 rfl) ?_
      refine v_iconst F (v := 1) (dq dkX6_emit_0 16 rfl) ki_1 ?_
      refine v_iadd F (dq dkX6_emit_0 17 rfl) ?_
      refine v_put F 26 (xn (by decide)) xc_26 rfl inlX6 tyX6_ok nmX6 4 (by decide) (tc4 _ (List.mem_of_getElem? (i := 0) rfl)) rfl rfl (tyX6_ok 4 (by decide)) rfl rfl (Nat.le_of_ble_eq_true rfl) (dq dkX6_emit_0 18 rfl) ?_
      refine v_eqM (xwC (q := 26) (j := 4) (v := (gi (pi x 28 ((gi x 26 4).toNatClampNeg) a1) 26 4) + 1) (by decide) rfl) ?_
      have h := Option.some.inj h
      subst h
      exact v_vret F E (dq dkX6_emit_0 19 rfl)
def rm_X6_opens : Room := { frames := 2, cells := 0, slots := 0, locals := 50 }
def f_X6_opens_12 (x : CS) : Bool × CS := if (gi x 26 5) < 0 then ((true, pi x 26 6 ((gi x 26 6) + 1))) else ((false, x))
set_option maxRecDepth 100000 in
set_option maxHeartbeats 4000000 in
theorem t_X6_opens_12 {C : Cx} {K : KE} {y : MS} {R : Bool × CS}  (x : CS) (h : f_X6_opens_12 x = R) (F : Fx C RX6 cX6_opens 1 rm_X6_opens K) (E : CE C (xf K R.2 y) (some (.int (b2i R.1))) 0 0 (some .boolean)) : V C 12 [(0, .ref (K.1 + 26))] [] (xf K x y) 0 0 := by
  unfold f_X6_opens_12 at h
  refine v_aload_n F (dq dkX6_opens_0 6 rfl) rfl 0 rfl ?_
  refine v_get F 26 (xn (by decide)) xc_26 rfl inlX6 5 (by decide) (tc4 _ (List.mem_of_getElem? (i := 1) rfl)) rfl rfl (dq dkX6_opens_0 7 rfl) ?_
  refine v_if_lt F (tgt := 21) (dq dkX6_opens_0 8 rfl) (by decide) (fun c1 => ?_) (fun c1 => ?_)
  · rw [if_pos c1] at h
    refine v_aload_n F (dq dkX6_opens_0 11 rfl) rfl 0 rfl ?_
    refine v_dup F (dq dkX6_opens_0 12 rfl) rfl ?_
    refine v_get F 26 (xn (by decide)) xc_26 rfl inlX6 6 (by decide) (tc4 _ (List.mem_of_getElem? (i := 2) rfl)) rfl rfl (dq dkX6_opens_0 13 rfl) ?_
    refine v_iconst F (v := 1) (dq dkX6_opens_0 14 rfl) ki_1 ?_
    refine v_iadd F (dq dkX6_opens_0 15 rfl) ?_
    refine v_put F 26 (xn (by decide)) xc_26 rfl inlX6 tyX6_ok nmX6 6 (by decide) (tc4 _ (List.mem_of_getElem? (i := 2) rfl)) rfl rfl (tyX6_ok 6 (by decide)) rfl rfl (Nat.le_of_ble_eq_true rfl) (dq dkX6_opens_0 16 rfl) ?_
    refine v_eqM (xwC (q := 26) (j := 6) (v := (gi x 26 6) + 1) (by decide) rfl) ?_
    refine v_iconst F (v := 1) (dq dkX6_opens_0 17 rfl) ki_1 ?_
    subst h
    exact v_zret F E (b2i_n true) (dq dkX6_opens_0 18 rfl)
  · rw [if_neg c1] at h
    refine v_iconst F (v := 0) (dq dkX6_opens_0 9 rfl) ki_0 ?_
    subst h
    exact v_zret F E (b2i_n false) (dq dkX6_opens_0 10 rfl)
def f_X6_opens (x : CS) : Bool × CS := if (gi x 26 6) < 5 then (f_X6_opens_12 x) else (f_X6_opens_12 (f_X6_fail x))
set_option maxRecDepth 100000 in
set_option maxHeartbeats 4000000 in
theorem c_X6_opens {K : KE} {l : Launch} (x : CS) (y : MS) : MC K l yX6_opens cX6_opens 1 (some .boolean) rm_X6_opens 0 0 [.ref (K.1 + 26)] (xf K x y) (xf K ((f_X6_opens x).2) y) (some (.int (b2i (f_X6_opens x).1))) := by
  obtain ⟨R, h⟩ : ∃ R, f_X6_opens x = R := ⟨_, rfl⟩
  rw [h]
  unfold f_X6_opens at h
  refine mc_of (ls0 := [(0, .ref (K.1 + 26))]) (by decide) (Nat.le_of_ble_eq_true rfl) rfl (fun C hl hnm F E => ?_)
  have F : Fx C RX6 cX6_opens 1 rm_X6_opens K := F
  refine v_aload_n F (dq dkX6_opens_0 0 rfl) rfl 0 rfl ?_
  refine v_get F 26 (xn (by decide)) xc_26 rfl inlX6 6 (by decide) (tc4 _ (List.mem_of_getElem? (i := 2) rfl)) rfl rfl (dq dkX6_opens_0 1 rfl) ?_
  refine v_iconst F (v := 5) (dq dkX6_opens_0 2 rfl) ki_5 ?_
  refine v_icmp_lt F (tgt := 12) (dq dkX6_opens_0 3 rfl) (by decide) (fun c2 => ?_) (fun c2 => ?_)
  · rw [if_pos c2] at h
    exact t_X6_opens_12 x h F E
  · rw [if_neg c2] at h
    refine v_aload_n F (dq dkX6_opens_0 4 rfl) rfl 0 rfl ?_
    refine v_callV 0 F (q := 26) (kc1 := 0) (ks1 := 0) (as := []) (st := []) (st1 := []) (res := none) (c_X6_fail (l := C.2.1) x y) (xn (by decide)) xc_26 rfl (tc9 _ (List.mem_of_getElem? (i := 13) rfl)) (tc9 _ (List.mem_of_getElem? (i := 14) rfl)) (tc9 _ (List.mem_of_getElem? (i := 15) rfl)) (tc1 _ (List.mem_of_getElem? (i := 23) rfl)) (tc9 _ (List.mem_of_getElem? (i := 16) rfl)) (by decide) rfl ⟨rfl, rfl, Nat.le_of_ble_eq_true rfl, Nat.le_of_ble_eq_true rfl⟩ ⟨Nat.le_of_ble_eq_true rfl, Nat.le_of_ble_eq_true rfl⟩ rfl (Nat.le_of_ble_eq_true rfl) rfl rfl rfl (dq dkX6_opens_0 5 rfl) ?_
    exact t_X6_opens_12 (f_X6_fail x) h F E
def rm_X6_readOne (d : Nat) : Room := { frames := 12 + 6 * d, cells := 0, slots := 0, locals := 300 + 180 * d }
def f_X6_readOne (rO rN rE : CS → Option CS) (x : CS) : Option (CS) := if (gi x 26 5) < 0 then (if (gi x 26 8) = 306 then ((f_X6_emit x (gi x 26 10)).bind fun r28 => (f_X6_advance r28).bind fun r30 => some r30) else (if (b2i (f_X10_within (gi x 26 8) 310 315)) = 0 then (if (gi x 26 8) = 45 then (if (b2i ((f_X6_opens x).1)) = 0 then (some ((f_X6_opens x).2)) else ((f_X6_advance ((f_X6_opens x).2)).bind fun r18 => (rO r18).bind fun r20 => (f_X6_emit r20 (-10)).bind fun r22 => some (pi r22 26 6 ((gi r22 26 6) - 1)))) else (if (gi x 26 8) = 40 then (if (b2i ((f_X6_opens x).1)) = 0 then (some ((f_X6_opens x).2)) else ((f_X6_advance ((f_X6_opens x).2)).bind fun r10 => (rE r10).bind fun r12 => (f_X6_expect r12 41).bind fun r14 => some (pi r14 26 6 ((gi r14 26 6) - 1)))) else (some (f_X6_fail x)))) else ((f_X6_emit x ((-1) - ((gi x 26 8) - 310))).bind fun r24 => (f_X6_advance r24).bind fun r26 => some r26))) else (some x)
set_option maxRecDepth 100000 in
set_option maxHeartbeats 4000000 in
theorem c_X6_readOne {K : KE} {l : Launch} {R : CS} (rO rN rE : CS → Option CS) (d : Nat) (hrO : ∀ (l : Launch) (x R : CS) (y : MS), rO x = some R → MC K l yX6_readOne cX6_readOne 1 none (rm_X6_readOne d) 0 0 [.ref (K.1 + 26)] (xf K x y) (xf K R y) none) (hrN : ∀ (l : Launch) (x R : CS) (y : MS), rN x = some R → MC K l yX6_readNot cX6_readNot 2 none (rm_X6_readNot d) 0 0 [.ref (K.1 + 26)] (xf K x y) (xf K R y) none) (hrE : ∀ (l : Launch) (x R : CS) (y : MS), rE x = some R → MC K l yX6_readEither cX6_readEither 2 none (rm_X6_readEither d) 0 0 [.ref (K.1 + 26)] (xf K x y) (xf K R y) none) (x : CS) (y : MS) (h : f_X6_readOne rO rN rE x = some R) : MC K l yX6_readOne cX6_readOne 1 none (rm_X6_readOne (d + 1)) 0 0 [.ref (K.1 + 26)] (xf K x y) (xf K R y) none := by
  unfold f_X6_readOne at h
  refine mc_of (ls0 := [(0, .ref (K.1 + 26))]) (by decide) (Nat.le_of_ble_eq_true rfl) rfl (fun C hl hnm F E => ?_)
  have F : Fx C RX6 cX6_readOne 1 (rm_X6_readOne (d + 1)) K := F
  refine v_aload_n F (dq dkX6_readOne_0 0 rfl) rfl 0 rfl ?_
  refine v_get F 26 (xn (by decide)) xc_26 rfl inlX6 5 (by decide) (tc4 _ (List.mem_of_getElem? (i := 1) rfl)) rfl rfl (dq dkX6_readOne_0 1 rfl) ?_
  refine v_if_lt F (tgt := 8) (dq dkX6_readOne_0 2 rfl) (by decide) (fun c1 => ?_) (fun c1 => ?_)
  · rw [if_pos c1] at h
    refine v_aload_n F (dq dkX6_readOne_0 4 rfl) rfl 0 rfl ?_
    refine v_get F 26 (xn (by decide)) xc_26 rfl inlX6 8 (by decide) (tc4 _ (List.mem_of_getElem? (i := 4) rfl)) rfl rfl (dq dkX6_readOne_0 5 rfl) ?_
    refine v_sipush F (v := 306) (dq dkX6_readOne_0 6 rfl) ks_306 ?_
    refine v_icmp_ne F (tgt := 33) (dq dkX6_readOne_0 7 rfl) (by decide) (fun c2 => ?_) (fun c2 => ?_)
    · rw [if_neg c2] at h
      refine v_aload_n F (dq dkX6_readOne_0 15 rfl) rfl 0 rfl ?_
      refine v_get F 26 (xn (by decide)) xc_26 rfl inlX6 8 (by decide) (tc4 _ (List.mem_of_getElem? (i := 4) rfl)) rfl rfl (dq dkX6_readOne_0 16 rfl) ?_
      refine v_sipush F (v := 310) (dq dkX6_readOne_0 17 rfl) ks_310 ?_
      refine v_sipush F (v := 315) (dq dkX6_readOne_0 18 rfl) ks_315 ?_
      refine v_callSN 3 F (kc1 := 0) (ks1 := 0) (as := [.int (gi x 26 8), .int 310, .int 315]) (st := []) (st1 := (.int (b2i (f_X10_within (gi x 26 8) 310 315)) :: [])) (res := (some (.int (b2i (f_X10_within (gi x 26 8) 310 315))))) (c_X10_within (l := C.2.1) (gi x 26 8) 310 315) (List.mem_of_getElem? (i := 5) rfl) (tc8 _ (List.mem_of_getElem? (i := 15) rfl)) (tc1 _ (List.mem_of_getElem? (i := 2) rfl)) (tc8 _ (List.mem_of_getElem? (i := 16) rfl)) (by decide) rfl ⟨rfl, rfl, by show _ ≤ _; simp only [rm_X6_readOne, rm_X10_within]; omega, by show _ ≤ _; simp only [rm_X6_readOne, rm_X10_within]; omega⟩ ⟨Nat.le_of_ble_eq_true rfl, Nat.le_of_ble_eq_true rfl⟩ rfl (Nat.le_of_ble_eq_true rfl) rfl rfl rfl (dq dkX6_readOne_0 19 rfl) ?_
      refine v_if_eq F (tgt := 70) (dq dkX6_readOne_0 20 rfl) (by decide) (fun c4 => ?_) (fun c4 => ?_)
      · rw [if_pos c4] at h
        refine v_aload_n F (dq dkX6_readOne_0 32 rfl) rfl 0 rfl ?_
        refine v_get F 26 (xn (by decide)) xc_26 rfl inlX6 8 (by decide) (tc4 _ (List.mem_of_getElem? (i := 4) rfl)) rfl rfl (dq dkX6_readOne_0 33 rfl) ?_
        refine v_bipush F (v := 45) (dq dkX6_readOne_0 34 rfl) kb_45 ?_
        refine v_icmp_ne F (tgt := 113) (dq dkX6_readOne_0 35 rfl) (by decide) (fun c5 => ?_) (fun c5 => ?_)
        · rw [if_neg c5] at h
          refine v_aload_n F (dq dkX6_readOne_1 13 rfl) rfl 0 rfl ?_
          refine v_get F 26 (xn (by decide)) xc_26 rfl inlX6 8 (by decide) (tc4 _ (List.mem_of_getElem? (i := 4) rfl)) rfl rfl (dq dkX6_readOne_1 14 rfl) ?_
          refine v_bipush F (v := 40) (dq dkX6_readOne_1 15 rfl) kb_40 ?_
          refine v_icmp_ne F (tgt := 156) (dq dkX6_readOne_1 16 rfl) (by decide) (fun c6 => ?_) (fun c6 => ?_)
          · rw [if_neg c6] at h
            refine v_aload_n F (dq dkX6_readOne_1 34 rfl) rfl 0 rfl ?_
            refine v_callV 0 F (q := 26) (kc1 := 0) (ks1 := 0) (as := []) (st := []) (st1 := []) (res := none) (c_X6_fail (l := C.2.1) x y) (xn (by decide)) xc_26 rfl (tc9 _ (List.mem_of_getElem? (i := 13) rfl)) (tc9 _ (List.mem_of_getElem? (i := 14) rfl)) (tc9 _ (List.mem_of_getElem? (i := 15) rfl)) (tc1 _ (List.mem_of_getElem? (i := 23) rfl)) (tc9 _ (List.mem_of_getElem? (i := 16) rfl)) (by decide) rfl ⟨rfl, rfl, by show _ ≤ _; simp only [rm_X6_readOne, rm_X6_fail]; omega, by show _ ≤ _; simp only [rm_X6_readOne, rm_X6_fail]; omega⟩ ⟨Nat.le_of_ble_eq_true rfl, Nat.le_of_ble_eq_true rfl⟩ rfl (Nat.le_of_ble_eq_true rfl) rfl rfl rfl (dq dkX6_readOne_1 35 rfl) ?_
            have h := Option.some.inj h
            subst h
            exact v_vret F E (dq dkX6_readOne_1 36 rfl)
          · rw [if_pos c6] at h
            refine v_aload_n F (dq dkX6_readOne_1 17 rfl) rfl 0 rfl ?_
            refine v_callV 0 F (q := 26) (kc1 := 0) (ks1 := 0) (as := []) (st := []) (st1 := (.int (b2i ((f_X6_opens x).1)) :: [])) (res := (some (.int (b2i ((f_X6_opens x).1))))) (c_X6_opens (l := C.2.1) x y) (xn (by decide)) xc_26 rfl (tc10 _ (List.mem_of_getElem? (i := 9) rfl)) (tc10 _ (List.mem_of_getElem? (i := 10) rfl)) (tc10 _ (List.mem_of_getElem? (i := 11) rfl)) (tc1 _ (List.mem_of_getElem? (i := 23) rfl)) (tc10 _ (List.mem_of_getElem? (i := 12) rfl)) (by decide) rfl ⟨rfl, rfl, by show _ ≤ _; simp only [rm_X6_readOne, rm_X6_opens]; omega, by show _ ≤ _; simp only [rm_X6_readOne, rm_X6_opens]; omega⟩ ⟨Nat.le_of_ble_eq_true rfl, Nat.le_of_ble_eq_true rfl⟩ rfl (Nat.le_of_ble_eq_true rfl) rfl rfl rfl (dq dkX6_readOne_1 18 rfl) ?_
            refine v_if_eq F (tgt := 160) (dq dkX6_readOne_1 19 rfl) (by decide) (fun c9 => ?_) (fun c9 => ?_)
            · rw [if_pos c9] at h
              have h := Option.some.inj h
              subst h
              exact v_vret F E (dq dkX6_readOne_1 36 rfl)
            · rw [if_neg c9] at h
              refine v_aload_n F (dq dkX6_readOne_1 20 rfl) rfl 0 rfl ?_
              obtain ⟨r10, e11, h⟩ := bd_of h
              refine v_callV 0 F (q := 26) (kc1 := 0) (ks1 := 0) (as := []) (st := []) (st1 := []) (res := none) (c_X6_advance (l := C.2.1) ((f_X6_opens x).2) y e11) (xn (by decide)) xc_26 rfl (tc8 _ (List.mem_of_getElem? (i := 4) rfl)) (tc8 _ (List.mem_of_getElem? (i := 5) rfl)) (tc8 _ (List.mem_of_getElem? (i := 6) rfl)) (tc1 _ (List.mem_of_getElem? (i := 23) rfl)) (tc8 _ (List.mem_of_getElem? (i := 7) rfl)) (by decide) rfl ⟨rfl, rfl, by show _ ≤ _; simp only [rm_X6_readOne, rm_X6_advance]; omega, by show _ ≤ _; simp only [rm_X6_readOne, rm_X6_advance]; omega⟩ ⟨Nat.le_of_ble_eq_true rfl, Nat.le_of_ble_eq_true rfl⟩ rfl (Nat.le_of_ble_eq_true rfl) rfl rfl rfl (dq dkX6_readOne_1 21 rfl) ?_
              refine v_aload_n F (dq dkX6_readOne_1 22 rfl) rfl 0 rfl ?_
              obtain ⟨r12, e13, h⟩ := bd_of h
              refine v_callV 0 F (q := 26) (kc1 := 0) (ks1 := 0) (as := []) (st := []) (st1 := []) (res := none) (hrE C.2.1 r10 _ y e13) (xn (by decide)) xc_26 rfl (tc9 _ (List.mem_of_getElem? (i := 17) rfl)) (tc9 _ (List.mem_of_getElem? (i := 18) rfl)) (tc9 _ (List.mem_of_getElem? (i := 19) rfl)) (tc1 _ (List.mem_of_getElem? (i := 23) rfl)) (tc9 _ (List.mem_of_getElem? (i := 20) rfl)) (by decide) rfl ⟨rfl, rfl, by show _ ≤ _; simp only [rm_X6_readOne, rm_X6_readEither]; omega, by show _ ≤ _; simp only [rm_X6_readOne, rm_X6_readEither]; omega⟩ ⟨Nat.le_of_ble_eq_true rfl, Nat.le_of_ble_eq_true rfl⟩ rfl (Nat.le_of_ble_eq_true rfl) rfl rfl rfl (dq dkX6_readOne_1 23 rfl) ?_
              refine v_aload_n F (dq dkX6_readOne_1 24 rfl) rfl 0 rfl ?_
              refine v_bipush F (v := 41) (dq dkX6_readOne_1 25 rfl) kb_41 ?_
              obtain ⟨r14, e15, h⟩ := bd_of h
              refine v_callV 1 F (q := 26) (kc1 := 0) (ks1 := 0) (as := [.int 41]) (st := []) (st1 := []) (res := none) (c_X6_expect (l := C.2.1) r12 y 41 e15) (xn (by decide)) xc_26 rfl (tc9 _ (List.mem_of_getElem? (i := 9) rfl)) (tc9 _ (List.mem_of_getElem? (i := 10) rfl)) (tc9 _ (List.mem_of_getElem? (i := 11) rfl)) (tc1 _ (List.mem_of_getElem? (i := 23) rfl)) (tc9 _ (List.mem_of_getElem? (i := 12) rfl)) (by decide) rfl ⟨rfl, rfl, by show _ ≤ _; simp only [rm_X6_readOne, rm_X6_expect]; omega, by show _ ≤ _; simp only [rm_X6_readOne, rm_X6_expect]; omega⟩ ⟨Nat.le_of_ble_eq_true rfl, Nat.le_of_ble_eq_true rfl⟩ rfl (Nat.le_of_ble_eq_true rfl) rfl rfl rfl (dq dkX6_readOne_1 26 rfl) ?_
              refine v_aload_n F (dq dkX6_readOne_1 27 rfl) rfl 0 rfl ?_
              refine v_dup F (dq dkX6_readOne_1 28 rfl) rfl ?_
              refine v_get F 26 (xn (by decide)) xc_26 rfl inlX6 6 (by decide) (tc4 _ (List.mem_of_getElem? (i := 2) rfl)) rfl rfl (dq dkX6_readOne_1 29 rfl) ?_
              refine v_iconst F (v := 1) (dq dkX6_readOne_1 30 rfl) ki_1 ?_
              refine v_isub F (dq dkX6_readOne_1 31 rfl) ?_
              refine v_put F 26 (xn (by decide)) xc_26 rfl inlX6 tyX6_ok nmX6 6 (by decide) (tc4 _ (List.mem_of_getElem? (i := 2) rfl)) rfl rfl (tyX6_ok 6 (by decide)) rfl rfl (Nat.le_of_ble_eq_true rfl) (dq dkX6_readOne_1 32 rfl) ?_
              refine v_eqM (xwC (q := 26) (j := 6) (v := (gi r14 26 6) - 1) (by decide) rfl) ?_
              refine v_goto F (tgt := 160) (dq dkX6_readOne_1 33 rfl) (by decide) ?_
              have h := Option.some.inj h
              subst h
              exact v_vret F E (dq dkX6_readOne_1 36 rfl)
        · rw [if_pos c5] at h
          refine v_aload_n F (dq dkX6_readOne_0 36 rfl) rfl 0 rfl ?_
          refine v_callV 0 F (q := 26) (kc1 := 0) (ks1 := 0) (as := []) (st := []) (st1 := (.int (b2i ((f_X6_opens x).1)) :: [])) (res := (some (.int (b2i ((f_X6_opens x).1))))) (c_X6_opens (l := C.2.1) x y) (xn (by decide)) xc_26 rfl (tc10 _ (List.mem_of_getElem? (i := 9) rfl)) (tc10 _ (List.mem_of_getElem? (i := 10) rfl)) (tc10 _ (List.mem_of_getElem? (i := 11) rfl)) (tc1 _ (List.mem_of_getElem? (i := 23) rfl)) (tc10 _ (List.mem_of_getElem? (i := 12) rfl)) (by decide) rfl ⟨rfl, rfl, by show _ ≤ _; simp only [rm_X6_readOne, rm_X6_opens]; omega, by show _ ≤ _; simp only [rm_X6_readOne, rm_X6_opens]; omega⟩ ⟨Nat.le_of_ble_eq_true rfl, Nat.le_of_ble_eq_true rfl⟩ rfl (Nat.le_of_ble_eq_true rfl) rfl rfl rfl (dq dkX6_readOne_0 37 rfl) ?_
          refine v_if_eq F (tgt := 160) (dq dkX6_readOne_0 38 rfl) (by decide) (fun c17 => ?_) (fun c17 => ?_)
          · rw [if_pos c17] at h
            have h := Option.some.inj h
            subst h
            exact v_vret F E (dq dkX6_readOne_1 36 rfl)
          · rw [if_neg c17] at h
            refine v_aload_n F (dq dkX6_readOne_0 39 rfl) rfl 0 rfl ?_
            obtain ⟨r18, e19, h⟩ := bd_of h
            refine v_callV 0 F (q := 26) (kc1 := 0) (ks1 := 0) (as := []) (st := []) (st1 := []) (res := none) (c_X6_advance (l := C.2.1) ((f_X6_opens x).2) y e19) (xn (by decide)) xc_26 rfl (tc8 _ (List.mem_of_getElem? (i := 4) rfl)) (tc8 _ (List.mem_of_getElem? (i := 5) rfl)) (tc8 _ (List.mem_of_getElem? (i := 6) rfl)) (tc1 _ (List.mem_of_getElem? (i := 23) rfl)) (tc8 _ (List.mem_of_getElem? (i := 7) rfl)) (by decide) rfl ⟨rfl, rfl, by show _ ≤ _; simp only [rm_X6_readOne, rm_X6_advance]; omega, by show _ ≤ _; simp only [rm_X6_readOne, rm_X6_advance]; omega⟩ ⟨Nat.le_of_ble_eq_true rfl, Nat.le_of_ble_eq_true rfl⟩ rfl (Nat.le_of_ble_eq_true rfl) rfl rfl rfl (dq dkX6_readOne_1 0 rfl) ?_
            refine v_aload_n F (dq dkX6_readOne_1 1 rfl) rfl 0 rfl ?_
            obtain ⟨r20, e21, h⟩ := bd_of h
            refine v_callV 0 F (q := 26) (kc1 := 0) (ks1 := 0) (as := []) (st := []) (st1 := []) (res := none) (hrO C.2.1 r18 _ y e21) (xn (by decide)) xc_26 rfl (tc10 _ (List.mem_of_getElem? (i := 17) rfl)) (tc10 _ (List.mem_of_getElem? (i := 18) rfl)) (tc10 _ (List.mem_of_getElem? (i := 19) rfl)) (tc1 _ (List.mem_of_getElem? (i := 23) rfl)) (tc10 _ (List.mem_of_getElem? (i := 16) rfl)) (by decide) rfl ⟨rfl, rfl, by show _ ≤ _; simp only [rm_X6_readOne, rm_X6_readOne]; omega, by show _ ≤ _; simp only [rm_X6_readOne, rm_X6_readOne]; omega⟩ ⟨Nat.le_of_ble_eq_true rfl, Nat.le_of_ble_eq_true rfl⟩ rfl (Nat.le_of_ble_eq_true rfl) rfl rfl rfl (dq dkX6_readOne_1 2 rfl) ?_
            refine v_aload_n F (dq dkX6_readOne_1 3 rfl) rfl 0 rfl ?_
            refine v_bipush F (v := (-10)) (dq dkX6_readOne_1 4 rfl) kb_m10 ?_
            obtain ⟨r22, e23, h⟩ := bd_of h
            refine v_callV 1 F (q := 26) (kc1 := 0) (ks1 := 0) (as := [.int (-10)]) (st := []) (st1 := []) (res := none) (c_X6_emit (l := C.2.1) r20 y (-10) e23) (xn (by decide)) xc_26 rfl (tc10 _ (List.mem_of_getElem? (i := 0) rfl)) (tc10 _ (List.mem_of_getElem? (i := 1) rfl)) (tc10 _ (List.mem_of_getElem? (i := 2) rfl)) (tc1 _ (List.mem_of_getElem? (i := 23) rfl)) (tc10 _ (List.mem_of_getElem? (i := 3) rfl)) (by decide) rfl ⟨rfl, rfl, by show _ ≤ _; simp only [rm_X6_readOne, rm_X6_emit]; omega, by show _ ≤ _; simp only [rm_X6_readOne, rm_X6_emit]; omega⟩ ⟨Nat.le_of_ble_eq_true rfl, Nat.le_of_ble_eq_true rfl⟩ rfl (Nat.le_of_ble_eq_true rfl) rfl rfl rfl (dq dkX6_readOne_1 5 rfl) ?_
            refine v_aload_n F (dq dkX6_readOne_1 6 rfl) rfl 0 rfl ?_
            refine v_dup F (dq dkX6_readOne_1 7 rfl) rfl ?_
            refine v_get F 26 (xn (by decide)) xc_26 rfl inlX6 6 (by decide) (tc4 _ (List.mem_of_getElem? (i := 2) rfl)) rfl rfl (dq dkX6_readOne_1 8 rfl) ?_
            refine v_iconst F (v := 1) (dq dkX6_readOne_1 9 rfl) ki_1 ?_
            refine v_isub F (dq dkX6_readOne_1 10 rfl) ?_
            refine v_put F 26 (xn (by decide)) xc_26 rfl inlX6 tyX6_ok nmX6 6 (by decide) (tc4 _ (List.mem_of_getElem? (i := 2) rfl)) rfl rfl (tyX6_ok 6 (by decide)) rfl rfl (Nat.le_of_ble_eq_true rfl) (dq dkX6_readOne_1 11 rfl) ?_
            refine v_eqM (xwC (q := 26) (j := 6) (v := (gi r22 26 6) - 1) (by decide) rfl) ?_
            refine v_goto F (tgt := 160) (dq dkX6_readOne_1 12 rfl) (by decide) ?_
            have h := Option.some.inj h
            subst h
            exact v_vret F E (dq dkX6_readOne_1 36 rfl)
      · rw [if_neg c4] at h
        refine v_aload_n F (dq dkX6_readOne_0 21 rfl) rfl 0 rfl ?_
        refine v_iconst F (v := (-1)) (dq dkX6_readOne_0 22 rfl) ki_m1 ?_
        refine v_aload_n F (dq dkX6_readOne_0 23 rfl) rfl 0 rfl ?_
        refine v_get F 26 (xn (by decide)) xc_26 rfl inlX6 8 (by decide) (tc4 _ (List.mem_of_getElem? (i := 4) rfl)) rfl rfl (dq dkX6_readOne_0 24 rfl) ?_
        refine v_sipush F (v := 310) (dq dkX6_readOne_0 25 rfl) ks_310 ?_
        refine v_isub F (dq dkX6_readOne_0 26 rfl) ?_
        refine v_isub F (dq dkX6_readOne_0 27 rfl) ?_
        obtain ⟨r24, e25, h⟩ := bd_of h
        refine v_callV 1 F (q := 26) (kc1 := 0) (ks1 := 0) (as := [.int ((-1) - ((gi x 26 8) - 310))]) (st := []) (st1 := []) (res := none) (c_X6_emit (l := C.2.1) x y ((-1) - ((gi x 26 8) - 310)) e25) (xn (by decide)) xc_26 rfl (tc10 _ (List.mem_of_getElem? (i := 0) rfl)) (tc10 _ (List.mem_of_getElem? (i := 1) rfl)) (tc10 _ (List.mem_of_getElem? (i := 2) rfl)) (tc1 _ (List.mem_of_getElem? (i := 23) rfl)) (tc10 _ (List.mem_of_getElem? (i := 3) rfl)) (by decide) rfl ⟨rfl, rfl, by show _ ≤ _; simp only [rm_X6_readOne, rm_X6_emit]; omega, by show _ ≤ _; simp only [rm_X6_readOne, rm_X6_emit]; omega⟩ ⟨Nat.le_of_ble_eq_true rfl, Nat.le_of_ble_eq_true rfl⟩ rfl (Nat.le_of_ble_eq_true rfl) rfl rfl rfl (dq dkX6_readOne_0 28 rfl) ?_
        refine v_aload_n F (dq dkX6_readOne_0 29 rfl) rfl 0 rfl ?_
        obtain ⟨r26, e27, h⟩ := bd_of h
        refine v_callV 0 F (q := 26) (kc1 := 0) (ks1 := 0) (as := []) (st := []) (st1 := []) (res := none) (c_X6_advance (l := C.2.1) r24 y e27) (xn (by decide)) xc_26 rfl (tc8 _ (List.mem_of_getElem? (i := 4) rfl)) (tc8 _ (List.mem_of_getElem? (i := 5) rfl)) (tc8 _ (List.mem_of_getElem? (i := 6) rfl)) (tc1 _ (List.mem_of_getElem? (i := 23) rfl)) (tc8 _ (List.mem_of_getElem? (i := 7) rfl)) (by decide) rfl ⟨rfl, rfl, by show _ ≤ _; simp only [rm_X6_readOne, rm_X6_advance]; omega, by show _ ≤ _; simp only [rm_X6_readOne, rm_X6_advance]; omega⟩ ⟨Nat.le_of_ble_eq_true rfl, Nat.le_of_ble_eq_true rfl⟩ rfl (Nat.le_of_ble_eq_true rfl) rfl rfl rfl (dq dkX6_readOne_0 30 rfl) ?_
        refine v_goto F (tgt := 160) (dq dkX6_readOne_0 31 rfl) (by decide) ?_
        have h := Option.some.inj h
        subst h
        exact v_vret F E (dq dkX6_readOne_1 36 rfl)
    · rw [if_pos c2] at h
      refine v_aload_n F (dq dkX6_readOne_0 8 rfl) rfl 0 rfl ?_
      refine v_aload_n F (dq dkX6_readOne_0 9 rfl) rfl 0 rfl ?_
      refine v_get F 26 (xn (by decide)) xc_26 rfl inlX6 10 (by decide) (tc4 _ (List.mem_of_getElem? (i := 6) rfl)) rfl rfl (dq dkX6_readOne_0 10 rfl) ?_
      obtain ⟨r28, e29, h⟩ := bd_of h
      refine v_callV 1 F (q := 26) (kc1 := 0) (ks1 := 0) (as := [.int (gi x 26 10)]) (st := []) (st1 := []) (res := none) (c_X6_emit (l := C.2.1) x y (gi x 26 10) e29) (xn (by decide)) xc_26 rfl (tc10 _ (List.mem_of_getElem? (i := 0) rfl)) (tc10 _ (List.mem_of_getElem? (i := 1) rfl)) (tc10 _ (List.mem_of_getElem? (i := 2) rfl)) (tc1 _ (List.mem_of_getElem? (i := 23) rfl)) (tc10 _ (List.mem_of_getElem? (i := 3) rfl)) (by decide) rfl ⟨rfl, rfl, by show _ ≤ _; simp only [rm_X6_readOne, rm_X6_emit]; omega, by show _ ≤ _; simp only [rm_X6_readOne, rm_X6_emit]; omega⟩ ⟨Nat.le_of_ble_eq_true rfl, Nat.le_of_ble_eq_true rfl⟩ rfl (Nat.le_of_ble_eq_true rfl) rfl rfl rfl (dq dkX6_readOne_0 11 rfl) ?_
      refine v_aload_n F (dq dkX6_readOne_0 12 rfl) rfl 0 rfl ?_
      obtain ⟨r30, e31, h⟩ := bd_of h
      refine v_callV 0 F (q := 26) (kc1 := 0) (ks1 := 0) (as := []) (st := []) (st1 := []) (res := none) (c_X6_advance (l := C.2.1) r28 y e31) (xn (by decide)) xc_26 rfl (tc8 _ (List.mem_of_getElem? (i := 4) rfl)) (tc8 _ (List.mem_of_getElem? (i := 5) rfl)) (tc8 _ (List.mem_of_getElem? (i := 6) rfl)) (tc1 _ (List.mem_of_getElem? (i := 23) rfl)) (tc8 _ (List.mem_of_getElem? (i := 7) rfl)) (by decide) rfl ⟨rfl, rfl, by show _ ≤ _; simp only [rm_X6_readOne, rm_X6_advance]; omega, by show _ ≤ _; simp only [rm_X6_readOne, rm_X6_advance]; omega⟩ ⟨Nat.le_of_ble_eq_true rfl, Nat.le_of_ble_eq_true rfl⟩ rfl (Nat.le_of_ble_eq_true rfl) rfl rfl rfl (dq dkX6_readOne_0 13 rfl) ?_
      refine v_goto F (tgt := 160) (dq dkX6_readOne_0 14 rfl) (by decide) ?_
      have h := Option.some.inj h
      subst h
      exact v_vret F E (dq dkX6_readOne_1 36 rfl)
  · rw [if_neg c1] at h
    have h := Option.some.inj h
    subst h
    exact v_vret F E (dq dkX6_readOne_0 3 rfl)
def rm_X6_readTerm (d : Nat) : Room := { frames := 13 + 6 * d, cells := 0, slots := 0, locals := 330 + 180 * d }
def f_X6_readTerm_6 (rO rN rE : CS → Option CS) : Nat → CS → Int32 → Option (CS)
  | 0, _, _ => none
  | n + 1, x, a1 => if 160 ≤ a1 then (some x) else (if 0 ≤ (gi x 26 5) then (some x) else (if (gi x 26 8) = 42 then ((f_X6_advance x).bind fun r4 => (f_X6_readOne rO rN rE r4).bind fun r6 => (f_X6_emit r6 (-18)).bind fun r8 => (f_X6_readTerm_6 rO rN rE n) r8 (a1 + 1)) else (some x)))
set_option maxRecDepth 100000 in
set_option maxHeartbeats 4000000 in
theorem t_X6_readTerm_6 {C : Cx} {K : KE} {y : MS} {R : CS}  (rO rN rE : CS → Option CS) (d : Nat) (hrO : ∀ (l : Launch) (x R : CS) (y : MS), rO x = some R → MC K l yX6_readOne cX6_readOne 1 none (rm_X6_readOne d) 0 0 [.ref (K.1 + 26)] (xf K x y) (xf K R y) none) (hrN : ∀ (l : Launch) (x R : CS) (y : MS), rN x = some R → MC K l yX6_readNot cX6_readNot 2 none (rm_X6_readNot d) 0 0 [.ref (K.1 + 26)] (xf K x y) (xf K R y) none) (hrE : ∀ (l : Launch) (x R : CS) (y : MS), rE x = some R → MC K l yX6_readEither cX6_readEither 2 none (rm_X6_readEither d) 0 0 [.ref (K.1 + 26)] (xf K x y) (xf K R y) none) (F : Fx C RX6 cX6_readTerm 2 (rm_X6_readTerm (d + 1)) K) (E : CE C (xf K R y) none 0 0 none) : ∀ (n : Nat) (x : CS) (a1 : Int32) (h : f_X6_readTerm_6 rO rN rE n x a1 = some R), V C 6 [(0, .ref (K.1 + 26)), (1, .int a1)] [] (xf K x y) 0 0 := by
  intro n
  induction n with
  | zero => intro x a1 h; cases h
  | succ n ih =>
    intro x a1 h
    rw [f_X6_readTerm_6] at h
    refine v_iload_n F (dq dkX6_readTerm_0 4 rfl) rfl 1 rfl ?_
    refine v_sipush F (v := 160) (dq dkX6_readTerm_0 5 rfl) ks_160 ?_
    refine v_icmp_ge F (tgt := 49) (dq dkX6_readTerm_0 6 rfl) (by decide) (fun c1 => ?_) (fun c1 => ?_)
    · rw [if_pos c1] at h
      have h := Option.some.inj h
      subst h
      exact v_vret F E (dq dkX6_readTerm_0 23 rfl)
    · rw [if_neg c1] at h
      refine v_aload_n F (dq dkX6_readTerm_0 7 rfl) rfl 0 rfl ?_
      refine v_get F 26 (xn (by decide)) xc_26 rfl inlX6 5 (by decide) (tc4 _ (List.mem_of_getElem? (i := 1) rfl)) rfl rfl (dq dkX6_readTerm_0 8 rfl) ?_
      refine v_if_ge F (tgt := 49) (dq dkX6_readTerm_0 9 rfl) (by decide) (fun c2 => ?_) (fun c2 => ?_)
      · rw [if_pos c2] at h
        have h := Option.some.inj h
        subst h
        exact v_vret F E (dq dkX6_readTerm_0 23 rfl)
      · rw [if_neg c2] at h
        refine v_aload_n F (dq dkX6_readTerm_0 10 rfl) rfl 0 rfl ?_
        refine v_get F 26 (xn (by decide)) xc_26 rfl inlX6 8 (by decide) (tc4 _ (List.mem_of_getElem? (i := 4) rfl)) rfl rfl (dq dkX6_readTerm_0 11 rfl) ?_
        refine v_bipush F (v := 42) (dq dkX6_readTerm_0 12 rfl) kb_42 ?_
        refine v_icmp_ne F (tgt := 49) (dq dkX6_readTerm_0 13 rfl) (by decide) (fun c3 => ?_) (fun c3 => ?_)
        · rw [if_neg c3] at h
          have h := Option.some.inj h
          subst h
          exact v_vret F E (dq dkX6_readTerm_0 23 rfl)
        · rw [if_pos c3] at h
          refine v_aload_n F (dq dkX6_readTerm_0 14 rfl) rfl 0 rfl ?_
          obtain ⟨r4, e5, h⟩ := bd_of h
          refine v_callV 0 F (q := 26) (kc1 := 0) (ks1 := 0) (as := []) (st := []) (st1 := []) (res := none) (c_X6_advance (l := C.2.1) x y e5) (xn (by decide)) xc_26 rfl (tc8 _ (List.mem_of_getElem? (i := 4) rfl)) (tc8 _ (List.mem_of_getElem? (i := 5) rfl)) (tc8 _ (List.mem_of_getElem? (i := 6) rfl)) (tc1 _ (List.mem_of_getElem? (i := 23) rfl)) (tc8 _ (List.mem_of_getElem? (i := 7) rfl)) (by decide) rfl ⟨rfl, rfl, by show _ ≤ _; simp only [rm_X6_readTerm, rm_X6_advance]; omega, by show _ ≤ _; simp only [rm_X6_readTerm, rm_X6_advance]; omega⟩ ⟨Nat.le_of_ble_eq_true rfl, Nat.le_of_ble_eq_true rfl⟩ rfl (Nat.le_of_ble_eq_true rfl) rfl rfl rfl (dq dkX6_readTerm_0 15 rfl) ?_
          refine v_aload_n F (dq dkX6_readTerm_0 16 rfl) rfl 0 rfl ?_
          obtain ⟨r6, e7, h⟩ := bd_of h
          refine v_callV 0 F (q := 26) (kc1 := 0) (ks1 := 0) (as := []) (st := []) (st1 := []) (res := none) (c_X6_readOne (l := C.2.1) rO rN rE d hrO hrN hrE r4 y e7) (xn (by decide)) xc_26 rfl (tc10 _ (List.mem_of_getElem? (i := 17) rfl)) (tc10 _ (List.mem_of_getElem? (i := 18) rfl)) (tc10 _ (List.mem_of_getElem? (i := 19) rfl)) (tc1 _ (List.mem_of_getElem? (i := 23) rfl)) (tc10 _ (List.mem_of_getElem? (i := 16) rfl)) (by decide) rfl ⟨rfl, rfl, by show _ ≤ _; simp only [rm_X6_readTerm, rm_X6_readOne]; omega, by show _ ≤ _; simp only [rm_X6_readTerm, rm_X6_readOne]; omega⟩ ⟨Nat.le_of_ble_eq_true rfl, Nat.le_of_ble_eq_true rfl⟩ rfl (Nat.le_of_ble_eq_true rfl) rfl rfl rfl (dq dkX6_readTerm_0 17 rfl) ?_
          refine v_aload_n F (dq dkX6_readTerm_0 18 rfl) rfl 0 rfl ?_
          refine v_bipush F (v := (-18)) (dq dkX6_readTerm_0 19 rfl) kb_m18 ?_
          obtain ⟨r8, e9, h⟩ := bd_of h
          refine v_callV 1 F (q := 26) (kc1 := 0) (ks1 := 0) (as := [.int (-18)]) (st := []) (st1 := []) (res := none) (c_X6_emit (l := C.2.1) r6 y (-18) e9) (xn (by decide)) xc_26 rfl (tc10 _ (List.mem_of_getElem? (i := 0) rfl)) (tc10 _ (List.mem_of_getElem? (i := 1) rfl)) (tc10 _ (List.mem_of_getElem? (i := 2) rfl)) (tc1 _ (List.mem_of_getElem? (i := 23) rfl)) (tc10 _ (List.mem_of_getElem? (i := 3) rfl)) (by decide) rfl ⟨rfl, rfl, by show _ ≤ _; simp only [rm_X6_readTerm, rm_X6_emit]; omega, by show _ ≤ _; simp only [rm_X6_readTerm, rm_X6_emit]; omega⟩ ⟨Nat.le_of_ble_eq_true rfl, Nat.le_of_ble_eq_true rfl⟩ rfl (Nat.le_of_ble_eq_true rfl) rfl rfl rfl (dq dkX6_readTerm_0 20 rfl) ?_
          refine v_iinc F (v := a1 + 1) (ls' := [(1, .int (a1 + 1)), (0, .ref (K.1 + 26))]) (dq dkX6_readTerm_0 21 rfl) (j := 1) rfl (kv_add ki_1) (by decide) rfl ?_
          refine v_goto F (tgt := 6) (dq dkX6_readTerm_0 22 rfl) (by decide) ?_
          refine v_sub [1, 0] rfl ?_
          exact ih r8 (a1 + 1) h
def f_X6_readTerm (rO rN rE : CS → Option CS) (x : CS) : Option (CS) := (f_X6_readOne rO rN rE x).bind fun r10 => f_X6_readTerm_6 rO rN rE 1000 r10 0
set_option maxRecDepth 100000 in
set_option maxHeartbeats 4000000 in
theorem c_X6_readTerm {K : KE} {l : Launch} {R : CS} (rO rN rE : CS → Option CS) (d : Nat) (hrO : ∀ (l : Launch) (x R : CS) (y : MS), rO x = some R → MC K l yX6_readOne cX6_readOne 1 none (rm_X6_readOne d) 0 0 [.ref (K.1 + 26)] (xf K x y) (xf K R y) none) (hrN : ∀ (l : Launch) (x R : CS) (y : MS), rN x = some R → MC K l yX6_readNot cX6_readNot 2 none (rm_X6_readNot d) 0 0 [.ref (K.1 + 26)] (xf K x y) (xf K R y) none) (hrE : ∀ (l : Launch) (x R : CS) (y : MS), rE x = some R → MC K l yX6_readEither cX6_readEither 2 none (rm_X6_readEither d) 0 0 [.ref (K.1 + 26)] (xf K x y) (xf K R y) none) (x : CS) (y : MS) (h : f_X6_readTerm rO rN rE x = some R) : MC K l yX6_readTerm cX6_readTerm 2 none (rm_X6_readTerm (d + 1)) 0 0 [.ref (K.1 + 26)] (xf K x y) (xf K R y) none := by
  unfold f_X6_readTerm at h
  refine mc_of (ls0 := [(0, .ref (K.1 + 26))]) (by decide) (Nat.le_of_ble_eq_true rfl) rfl (fun C hl hnm F E => ?_)
  have F : Fx C RX6 cX6_readTerm 2 (rm_X6_readTerm (d + 1)) K := F
  refine v_aload_n F (dq dkX6_readTerm_0 0 rfl) rfl 0 rfl ?_
  obtain ⟨r10, e11, h⟩ := bd_of h
  refine v_callV 0 F (q := 26) (kc1 := 0) (ks1 := 0) (as := []) (st := []) (st1 := []) (res := none) (c_X6_readOne (l := C.2.1) rO rN rE d hrO hrN hrE x y e11) (xn (by decide)) xc_26 rfl (tc10 _ (List.mem_of_getElem? (i := 17) rfl)) (tc10 _ (List.mem_of_getElem? (i := 18) rfl)) (tc10 _ (List.mem_of_getElem? (i := 19) rfl)) (tc1 _ (List.mem_of_getElem? (i := 23) rfl)) (tc10 _ (List.mem_of_getElem? (i := 16) rfl)) (by decide) rfl ⟨rfl, rfl, by show _ ≤ _; simp only [rm_X6_readTerm, rm_X6_readOne]; omega, by show _ ≤ _; simp only [rm_X6_readTerm, rm_X6_readOne]; omega⟩ ⟨Nat.le_of_ble_eq_true rfl, Nat.le_of_ble_eq_true rfl⟩ rfl (Nat.le_of_ble_eq_true rfl) rfl rfl rfl (dq dkX6_readTerm_0 1 rfl) ?_
  refine v_iconst F (v := 0) (dq dkX6_readTerm_0 2 rfl) ki_0 ?_
  refine v_istore_n F (ls' := [(1, .int 0), (0, .ref (K.1 + 26))]) (dq dkX6_readTerm_0 3 rfl) rfl (by decide) rfl ?_
  refine v_sub [1, 0] rfl ?_
  exact t_X6_readTerm_6 rO rN rE d hrO hrN hrE F E 1000 r10 0 h
def rm_X6_readSum (d : Nat) : Room := { frames := 14 + 6 * d, cells := 0, slots := 0, locals := 360 + 180 * d }
def f_X6_readSum_54 (rO rN rE : CS → Option CS) (k6 : CS → Int32 → Option (CS)) (x : CS) (a1 : Int32) (s0 : Int32) : Option (CS) := (f_X6_advance x).bind fun r1 => (f_X6_readTerm rO rN rE r1).bind fun r3 => (f_X6_emit r3 s0).bind fun r5 => k6 r5 (a1 + 1)
set_option maxRecDepth 100000 in
set_option maxHeartbeats 4000000 in
theorem t_X6_readSum_54 {C : Cx} {K : KE} {y : MS} {R : CS}  (rO rN rE : CS → Option CS) (d : Nat) (hrO : ∀ (l : Launch) (x R : CS) (y : MS), rO x = some R → MC K l yX6_readOne cX6_readOne 1 none (rm_X6_readOne d) 0 0 [.ref (K.1 + 26)] (xf K x y) (xf K R y) none) (hrN : ∀ (l : Launch) (x R : CS) (y : MS), rN x = some R → MC K l yX6_readNot cX6_readNot 2 none (rm_X6_readNot d) 0 0 [.ref (K.1 + 26)] (xf K x y) (xf K R y) none) (hrE : ∀ (l : Launch) (x R : CS) (y : MS), rE x = some R → MC K l yX6_readEither cX6_readEither 2 none (rm_X6_readEither d) 0 0 [.ref (K.1 + 26)] (xf K x y) (xf K R y) none) (k6 : CS → Int32 → Option (CS)) (x : CS) (a1 : Int32) (s0 : Int32) (hk6 : ∀ (x : CS) (a1 : Int32), k6 x a1 = some R → V C 6 [(0, .ref (K.1 + 26)), (1, .int a1)] [] (xf K x y) 0 0) (h : f_X6_readSum_54 rO rN rE k6 x a1 s0 = some R) (F : Fx C RX6 cX6_readSum 3 (rm_X6_readSum (d + 1)) K) (E : CE C (xf K R y) none 0 0 none) : V C 54 [(0, .ref (K.1 + 26)), (1, .int a1)] [.int s0] (xf K x y) 0 0 := by
  unfold f_X6_readSum_54 at h
  refine v_istore_n F (ls' := [(2, .int s0), (0, .ref (K.1 + 26)), (1, .int a1)]) (dq dkX6_readSum_0 25 rfl) rfl (by decide) rfl ?_
  refine v_aload_n F (dq dkX6_readSum_0 26 rfl) rfl 1 rfl ?_
  obtain ⟨r1, e2, h⟩ := bd_of h
  refine v_callV 0 F (q := 26) (kc1 := 0) (ks1 := 0) (as := []) (st := []) (st1 := []) (res := none) (c_X6_advance (l := C.2.1) x y e2) (xn (by decide)) xc_26 rfl (tc8 _ (List.mem_of_getElem? (i := 4) rfl)) (tc8 _ (List.mem_of_getElem? (i := 5) rfl)) (tc8 _ (List.mem_of_getElem? (i := 6) rfl)) (tc1 _ (List.mem_of_getElem? (i := 23) rfl)) (tc8 _ (List.mem_of_getElem? (i := 7) rfl)) (by decide) rfl ⟨rfl, rfl, by show _ ≤ _; simp only [rm_X6_readSum, rm_X6_advance]; omega, by show _ ≤ _; simp only [rm_X6_readSum, rm_X6_advance]; omega⟩ ⟨Nat.le_of_ble_eq_true rfl, Nat.le_of_ble_eq_true rfl⟩ rfl (Nat.le_of_ble_eq_true rfl) rfl rfl rfl (dq dkX6_readSum_0 27 rfl) ?_
  refine v_aload_n F (dq dkX6_readSum_0 28 rfl) rfl 1 rfl ?_
  obtain ⟨r3, e4, h⟩ := bd_of h
  refine v_callV 0 F (q := 26) (kc1 := 0) (ks1 := 0) (as := []) (st := []) (st1 := []) (res := none) (c_X6_readTerm (l := C.2.1) rO rN rE d hrO hrN hrE r1 y e4) (xn (by decide)) xc_26 rfl (tc10 _ (List.mem_of_getElem? (i := 21) rfl)) (tc10 _ (List.mem_of_getElem? (i := 22) rfl)) (tc10 _ (List.mem_of_getElem? (i := 23) rfl)) (tc1 _ (List.mem_of_getElem? (i := 23) rfl)) (tc11 _ (List.mem_of_getElem? (i := 0) rfl)) (by decide) rfl ⟨rfl, rfl, by show _ ≤ _; simp only [rm_X6_readSum, rm_X6_readTerm]; omega, by show _ ≤ _; simp only [rm_X6_readSum, rm_X6_readTerm]; omega⟩ ⟨Nat.le_of_ble_eq_true rfl, Nat.le_of_ble_eq_true rfl⟩ rfl (Nat.le_of_ble_eq_true rfl) rfl rfl rfl (dq dkX6_readSum_0 29 rfl) ?_
  refine v_aload_n F (dq dkX6_readSum_0 30 rfl) rfl 1 rfl ?_
  refine v_iload_n F (dq dkX6_readSum_0 31 rfl) rfl 0 rfl ?_
  obtain ⟨r5, e6, h⟩ := bd_of h
  refine v_callV 1 F (q := 26) (kc1 := 0) (ks1 := 0) (as := [.int s0]) (st := []) (st1 := []) (res := none) (c_X6_emit (l := C.2.1) r3 y s0 e6) (xn (by decide)) xc_26 rfl (tc10 _ (List.mem_of_getElem? (i := 0) rfl)) (tc10 _ (List.mem_of_getElem? (i := 1) rfl)) (tc10 _ (List.mem_of_getElem? (i := 2) rfl)) (tc1 _ (List.mem_of_getElem? (i := 23) rfl)) (tc10 _ (List.mem_of_getElem? (i := 3) rfl)) (by decide) rfl ⟨rfl, rfl, by show _ ≤ _; simp only [rm_X6_readSum, rm_X6_emit]; omega, by show _ ≤ _; simp only [rm_X6_readSum, rm_X6_emit]; omega⟩ ⟨Nat.le_of_ble_eq_true rfl, Nat.le_of_ble_eq_true rfl⟩ rfl (Nat.le_of_ble_eq_true rfl) rfl rfl rfl (dq dkX6_readSum_0 32 rfl) ?_
  refine v_iinc F (v := a1 + 1) (ls' := [(1, .int (a1 + 1)), (2, .int s0), (0, .ref (K.1 + 26))]) (dq dkX6_readSum_0 33 rfl) (j := 2) rfl (kv_add ki_1) (by decide) rfl ?_
  refine v_goto F (tgt := 6) (dq dkX6_readSum_0 34 rfl) (by decide) ?_
  refine v_sub [2, 0] rfl ?_
  exact hk6 r5 (a1 + 1) h
def f_X6_readSum_38 (rO rN rE : CS → Option CS) (k6 : CS → Int32 → Option (CS)) (x : CS) (a1 : Int32) : Option (CS) := if (gi x 26 8) = 43 then (f_X6_readSum_54 rO rN rE k6 x a1 (-16)) else (f_X6_readSum_54 rO rN rE k6 x a1 (-17))
set_option maxRecDepth 100000 in
set_option maxHeartbeats 4000000 in
theorem t_X6_readSum_38 {C : Cx} {K : KE} {y : MS} {R : CS}  (rO rN rE : CS → Option CS) (d : Nat) (hrO : ∀ (l : Launch) (x R : CS) (y : MS), rO x = some R → MC K l yX6_readOne cX6_readOne 1 none (rm_X6_readOne d) 0 0 [.ref (K.1 + 26)] (xf K x y) (xf K R y) none) (hrN : ∀ (l : Launch) (x R : CS) (y : MS), rN x = some R → MC K l yX6_readNot cX6_readNot 2 none (rm_X6_readNot d) 0 0 [.ref (K.1 + 26)] (xf K x y) (xf K R y) none) (hrE : ∀ (l : Launch) (x R : CS) (y : MS), rE x = some R → MC K l yX6_readEither cX6_readEither 2 none (rm_X6_readEither d) 0 0 [.ref (K.1 + 26)] (xf K x y) (xf K R y) none) (k6 : CS → Int32 → Option (CS)) (x : CS) (a1 : Int32) (hk6 : ∀ (x : CS) (a1 : Int32), k6 x a1 = some R → V C 6 [(0, .ref (K.1 + 26)), (1, .int a1)] [] (xf K x y) 0 0) (h : f_X6_readSum_38 rO rN rE k6 x a1 = some R) (F : Fx C RX6 cX6_readSum 3 (rm_X6_readSum (d + 1)) K) (E : CE C (xf K R y) none 0 0 none) : V C 38 [(0, .ref (K.1 + 26)), (1, .int a1)] [] (xf K x y) 0 0 := by
  unfold f_X6_readSum_38 at h
  refine v_aload_n F (dq dkX6_readSum_0 18 rfl) rfl 0 rfl ?_
  refine v_get F 26 (xn (by decide)) xc_26 rfl inlX6 8 (by decide) (tc4 _ (List.mem_of_getElem? (i := 4) rfl)) rfl rfl (dq dkX6_readSum_0 19 rfl) ?_
  refine v_bipush F (v := 43) (dq dkX6_readSum_0 20 rfl) kb_43 ?_
  refine v_icmp_ne F (tgt := 52) (dq dkX6_readSum_0 21 rfl) (by decide) (fun c7 => ?_) (fun c7 => ?_)
  · rw [if_neg c7] at h
    refine v_bipush F (v := (-17)) (dq dkX6_readSum_0 24 rfl) kb_m17 ?_
    exact t_X6_readSum_54 rO rN rE d hrO hrN hrE k6 x a1 (-17) hk6 h F E
  · rw [if_pos c7] at h
    refine v_bipush F (v := (-16)) (dq dkX6_readSum_0 22 rfl) kb_m16 ?_
    refine v_goto F (tgt := 54) (dq dkX6_readSum_0 23 rfl) (by decide) ?_
    exact t_X6_readSum_54 rO rN rE d hrO hrN hrE k6 x a1 (-16) hk6 h F E
def f_X6_readSum_6 (rO rN rE : CS → Option CS) : Nat → CS → Int32 → Option (CS)
  | 0, _, _ => none
  | n + 1, x, a1 => if 160 ≤ a1 then (some x) else (if 0 ≤ (gi x 26 5) then (some x) else (if (gi x 26 8) = 43 then (f_X6_readSum_38 rO rN rE (f_X6_readSum_6 rO rN rE n) x a1) else (if (gi x 26 8) = 45 then (f_X6_readSum_38 rO rN rE (f_X6_readSum_6 rO rN rE n) x a1) else (some x))))
set_option maxRecDepth 100000 in
set_option maxHeartbeats 4000000 in
theorem t_X6_readSum_6 {C : Cx} {K : KE} {y : MS} {R : CS}  (rO rN rE : CS → Option CS) (d : Nat) (hrO : ∀ (l : Launch) (x R : CS) (y : MS), rO x = some R → MC K l yX6_readOne cX6_readOne 1 none (rm_X6_readOne d) 0 0 [.ref (K.1 + 26)] (xf K x y) (xf K R y) none) (hrN : ∀ (l : Launch) (x R : CS) (y : MS), rN x = some R → MC K l yX6_readNot cX6_readNot 2 none (rm_X6_readNot d) 0 0 [.ref (K.1 + 26)] (xf K x y) (xf K R y) none) (hrE : ∀ (l : Launch) (x R : CS) (y : MS), rE x = some R → MC K l yX6_readEither cX6_readEither 2 none (rm_X6_readEither d) 0 0 [.ref (K.1 + 26)] (xf K x y) (xf K R y) none) (F : Fx C RX6 cX6_readSum 3 (rm_X6_readSum (d + 1)) K) (E : CE C (xf K R y) none 0 0 none) : ∀ (n : Nat) (x : CS) (a1 : Int32) (h : f_X6_readSum_6 rO rN rE n x a1 = some R), V C 6 [(0, .ref (K.1 + 26)), (1, .int a1)] [] (xf K x y) 0 0 := by
  intro n
  induction n with
  | zero => intro x a1 h; cases h
  | succ n ih =>
    intro x a1 h
    rw [f_X6_readSum_6] at h
    refine v_iload_n F (dq dkX6_readSum_0 4 rfl) rfl 1 rfl ?_
    refine v_sipush F (v := 160) (dq dkX6_readSum_0 5 rfl) ks_160 ?_
    refine v_icmp_ge F (tgt := 74) (dq dkX6_readSum_0 6 rfl) (by decide) (fun c8 => ?_) (fun c8 => ?_)
    · rw [if_pos c8] at h
      have h := Option.some.inj h
      subst h
      exact v_vret F E (dq dkX6_readSum_0 35 rfl)
    · rw [if_neg c8] at h
      refine v_aload_n F (dq dkX6_readSum_0 7 rfl) rfl 0 rfl ?_
      refine v_get F 26 (xn (by decide)) xc_26 rfl inlX6 5 (by decide) (tc4 _ (List.mem_of_getElem? (i := 1) rfl)) rfl rfl (dq dkX6_readSum_0 8 rfl) ?_
      refine v_if_ge F (tgt := 74) (dq dkX6_readSum_0 9 rfl) (by decide) (fun c9 => ?_) (fun c9 => ?_)
      · rw [if_pos c9] at h
        have h := Option.some.inj h
        subst h
        exact v_vret F E (dq dkX6_readSum_0 35 rfl)
      · rw [if_neg c9] at h
        refine v_aload_n F (dq dkX6_readSum_0 10 rfl) rfl 0 rfl ?_
        refine v_get F 26 (xn (by decide)) xc_26 rfl inlX6 8 (by decide) (tc4 _ (List.mem_of_getElem? (i := 4) rfl)) rfl rfl (dq dkX6_readSum_0 11 rfl) ?_
        refine v_bipush F (v := 43) (dq dkX6_readSum_0 12 rfl) kb_43 ?_
        refine v_icmp_eq F (tgt := 38) (dq dkX6_readSum_0 13 rfl) (by decide) (fun c10 => ?_) (fun c10 => ?_)
        · rw [if_pos c10] at h
          exact t_X6_readSum_38 rO rN rE d hrO hrN hrE (f_X6_readSum_6 rO rN rE n) x a1 ih h F E
        · rw [if_neg c10] at h
          refine v_aload_n F (dq dkX6_readSum_0 14 rfl) rfl 0 rfl ?_
          refine v_get F 26 (xn (by decide)) xc_26 rfl inlX6 8 (by decide) (tc4 _ (List.mem_of_getElem? (i := 4) rfl)) rfl rfl (dq dkX6_readSum_0 15 rfl) ?_
          refine v_bipush F (v := 45) (dq dkX6_readSum_0 16 rfl) kb_45 ?_
          refine v_icmp_ne F (tgt := 74) (dq dkX6_readSum_0 17 rfl) (by decide) (fun c11 => ?_) (fun c11 => ?_)
          · rw [if_neg c11] at h
            have h := Option.some.inj h
            subst h
            exact v_vret F E (dq dkX6_readSum_0 35 rfl)
          · rw [if_pos c11] at h
            exact t_X6_readSum_38 rO rN rE d hrO hrN hrE (f_X6_readSum_6 rO rN rE n) x a1 ih h F E
def f_X6_readSum (rO rN rE : CS → Option CS) (x : CS) : Option (CS) := (f_X6_readTerm rO rN rE x).bind fun r12 => f_X6_readSum_6 rO rN rE 1000 r12 0
set_option maxRecDepth 100000 in
set_option maxHeartbeats 4000000 in
theorem c_X6_readSum {K : KE} {l : Launch} {R : CS} (rO rN rE : CS → Option CS) (d : Nat) (hrO : ∀ (l : Launch) (x R : CS) (y : MS), rO x = some R → MC K l yX6_readOne cX6_readOne 1 none (rm_X6_readOne d) 0 0 [.ref (K.1 + 26)] (xf K x y) (xf K R y) none) (hrN : ∀ (l : Launch) (x R : CS) (y : MS), rN x = some R → MC K l yX6_readNot cX6_readNot 2 none (rm_X6_readNot d) 0 0 [.ref (K.1 + 26)] (xf K x y) (xf K R y) none) (hrE : ∀ (l : Launch) (x R : CS) (y : MS), rE x = some R → MC K l yX6_readEither cX6_readEither 2 none (rm_X6_readEither d) 0 0 [.ref (K.1 + 26)] (xf K x y) (xf K R y) none) (x : CS) (y : MS) (h : f_X6_readSum rO rN rE x = some R) : MC K l yX6_readSum cX6_readSum 3 none (rm_X6_readSum (d + 1)) 0 0 [.ref (K.1 + 26)] (xf K x y) (xf K R y) none := by
  unfold f_X6_readSum at h
  refine mc_of (ls0 := [(0, .ref (K.1 + 26))]) (by decide) (Nat.le_of_ble_eq_true rfl) rfl (fun C hl hnm F E => ?_)
  have F : Fx C RX6 cX6_readSum 3 (rm_X6_readSum (d + 1)) K := F
  refine v_aload_n F (dq dkX6_readSum_0 0 rfl) rfl 0 rfl ?_
  obtain ⟨r12, e13, h⟩ := bd_of h
  refine v_callV 0 F (q := 26) (kc1 := 0) (ks1 := 0) (as := []) (st := []) (st1 := []) (res := none) (c_X6_readTerm (l := C.2.1) rO rN rE d hrO hrN hrE x y e13) (xn (by decide)) xc_26 rfl (tc10 _ (List.mem_of_getElem? (i := 21) rfl)) (tc10 _ (List.mem_of_getElem? (i := 22) rfl)) (tc10 _ (List.mem_of_getElem? (i := 23) rfl)) (tc1 _ (List.mem_of_getElem? (i := 23) rfl)) (tc11 _ (List.mem_of_getElem? (i := 0) rfl)) (by decide) rfl ⟨rfl, rfl, by show _ ≤ _; simp only [rm_X6_readSum, rm_X6_readTerm]; omega, by show _ ≤ _; simp only [rm_X6_readSum, rm_X6_readTerm]; omega⟩ ⟨Nat.le_of_ble_eq_true rfl, Nat.le_of_ble_eq_true rfl⟩ rfl (Nat.le_of_ble_eq_true rfl) rfl rfl rfl (dq dkX6_readSum_0 1 rfl) ?_
  refine v_iconst F (v := 0) (dq dkX6_readSum_0 2 rfl) ki_0 ?_
  refine v_istore_n F (ls' := [(1, .int 0), (0, .ref (K.1 + 26))]) (dq dkX6_readSum_0 3 rfl) rfl (by decide) rfl ?_
  refine v_sub [1, 0] rfl ?_
  exact t_X6_readSum_6 rO rN rE d hrO hrN hrE F E 1000 r12 0 h
def rm_X6_readNot (d : Nat) : Room := { frames := 15 + 6 * d, cells := 0, slots := 0, locals := 390 + 180 * d }
def f_X6_readNot_80 (rO rN rE : CS → Option CS) (x : CS) (s0 : Int32) : Option (CS) := (f_X6_advance x).bind fun r1 => (f_X6_readSum rO rN rE r1).bind fun r3 => (f_X6_emit r3 s0).bind fun r5 => some r5
set_option maxRecDepth 100000 in
set_option maxHeartbeats 4000000 in
theorem t_X6_readNot_80 {C : Cx} {K : KE} {y : MS} {R : CS}  (rO rN rE : CS → Option CS) (d : Nat) (hrO : ∀ (l : Launch) (x R : CS) (y : MS), rO x = some R → MC K l yX6_readOne cX6_readOne 1 none (rm_X6_readOne d) 0 0 [.ref (K.1 + 26)] (xf K x y) (xf K R y) none) (hrN : ∀ (l : Launch) (x R : CS) (y : MS), rN x = some R → MC K l yX6_readNot cX6_readNot 2 none (rm_X6_readNot d) 0 0 [.ref (K.1 + 26)] (xf K x y) (xf K R y) none) (hrE : ∀ (l : Launch) (x R : CS) (y : MS), rE x = some R → MC K l yX6_readEither cX6_readEither 2 none (rm_X6_readEither d) 0 0 [.ref (K.1 + 26)] (xf K x y) (xf K R y) none) (x : CS) (s0 : Int32) (h : f_X6_readNot_80 rO rN rE x s0 = some R) (F : Fx C RX6 cX6_readNot 2 (rm_X6_readNot (d + 1)) K) (E : CE C (xf K R y) none 0 0 none) : V C 80 [(0, .ref (K.1 + 26))] [.int s0] (xf K x y) 0 0 := by
  unfold f_X6_readNot_80 at h
  refine v_istore_n F (ls' := [(1, .int s0), (0, .ref (K.1 + 26))]) (dq dkX6_readNot_0 38 rfl) rfl (by decide) rfl ?_
  refine v_aload_n F (dq dkX6_readNot_0 39 rfl) rfl 1 rfl ?_
  obtain ⟨r1, e2, h⟩ := bd_of h
  refine v_callV 0 F (q := 26) (kc1 := 0) (ks1 := 0) (as := []) (st := []) (st1 := []) (res := none) (c_X6_advance (l := C.2.1) x y e2) (xn (by decide)) xc_26 rfl (tc8 _ (List.mem_of_getElem? (i := 4) rfl)) (tc8 _ (List.mem_of_getElem? (i := 5) rfl)) (tc8 _ (List.mem_of_getElem? (i := 6) rfl)) (tc1 _ (List.mem_of_getElem? (i := 23) rfl)) (tc8 _ (List.mem_of_getElem? (i := 7) rfl)) (by decide) rfl ⟨rfl, rfl, by show _ ≤ _; simp only [rm_X6_readNot, rm_X6_advance]; omega, by show _ ≤ _; simp only [rm_X6_readNot, rm_X6_advance]; omega⟩ ⟨Nat.le_of_ble_eq_true rfl, Nat.le_of_ble_eq_true rfl⟩ rfl (Nat.le_of_ble_eq_true rfl) rfl rfl rfl (dq dkX6_readNot_1 0 rfl) ?_
  refine v_aload_n F (dq dkX6_readNot_1 1 rfl) rfl 1 rfl ?_
  obtain ⟨r3, e4, h⟩ := bd_of h
  refine v_callV 0 F (q := 26) (kc1 := 0) (ks1 := 0) (as := []) (st := []) (st1 := []) (res := none) (c_X6_readSum (l := C.2.1) rO rN rE d hrO hrN hrE r1 y e4) (xn (by decide)) xc_26 rfl (tc10 _ (List.mem_of_getElem? (i := 13) rfl)) (tc10 _ (List.mem_of_getElem? (i := 14) rfl)) (tc10 _ (List.mem_of_getElem? (i := 15) rfl)) (tc1 _ (List.mem_of_getElem? (i := 23) rfl)) (tc10 _ (List.mem_of_getElem? (i := 20) rfl)) (by decide) rfl ⟨rfl, rfl, by show _ ≤ _; simp only [rm_X6_readNot, rm_X6_readSum]; omega, by show _ ≤ _; simp only [rm_X6_readNot, rm_X6_readSum]; omega⟩ ⟨Nat.le_of_ble_eq_true rfl, Nat.le_of_ble_eq_true rfl⟩ rfl (Nat.le_of_ble_eq_true rfl) rfl rfl rfl (dq dkX6_readNot_1 2 rfl) ?_
  refine v_aload_n F (dq dkX6_readNot_1 3 rfl) rfl 1 rfl ?_
  refine v_iload_n F (dq dkX6_readNot_1 4 rfl) rfl 0 rfl ?_
  obtain ⟨r5, e6, h⟩ := bd_of h
  refine v_callV 1 F (q := 26) (kc1 := 0) (ks1 := 0) (as := [.int s0]) (st := []) (st1 := []) (res := none) (c_X6_emit (l := C.2.1) r3 y s0 e6) (xn (by decide)) xc_26 rfl (tc10 _ (List.mem_of_getElem? (i := 0) rfl)) (tc10 _ (List.mem_of_getElem? (i := 1) rfl)) (tc10 _ (List.mem_of_getElem? (i := 2) rfl)) (tc1 _ (List.mem_of_getElem? (i := 23) rfl)) (tc10 _ (List.mem_of_getElem? (i := 3) rfl)) (by decide) rfl ⟨rfl, rfl, by show _ ≤ _; simp only [rm_X6_readNot, rm_X6_emit]; omega, by show _ ≤ _; simp only [rm_X6_readNot, rm_X6_emit]; omega⟩ ⟨Nat.le_of_ble_eq_true rfl, Nat.le_of_ble_eq_true rfl⟩ rfl (Nat.le_of_ble_eq_true rfl) rfl rfl rfl (dq dkX6_readNot_1 5 rfl) ?_
  have h := Option.some.inj h
  subst h
  exact v_vret F E (dq dkX6_readNot_1 6 rfl)
def f_X6_readNot_64 (rO rN rE : CS → Option CS) (x : CS) : Option (CS) := if (gi x 26 8) = 60 then (f_X6_readNot_80 rO rN rE x (-14)) else (f_X6_readNot_80 rO rN rE x (-15))
set_option maxRecDepth 100000 in
set_option maxHeartbeats 4000000 in
theorem t_X6_readNot_64 {C : Cx} {K : KE} {y : MS} {R : CS}  (rO rN rE : CS → Option CS) (d : Nat) (hrO : ∀ (l : Launch) (x R : CS) (y : MS), rO x = some R → MC K l yX6_readOne cX6_readOne 1 none (rm_X6_readOne d) 0 0 [.ref (K.1 + 26)] (xf K x y) (xf K R y) none) (hrN : ∀ (l : Launch) (x R : CS) (y : MS), rN x = some R → MC K l yX6_readNot cX6_readNot 2 none (rm_X6_readNot d) 0 0 [.ref (K.1 + 26)] (xf K x y) (xf K R y) none) (hrE : ∀ (l : Launch) (x R : CS) (y : MS), rE x = some R → MC K l yX6_readEither cX6_readEither 2 none (rm_X6_readEither d) 0 0 [.ref (K.1 + 26)] (xf K x y) (xf K R y) none) (x : CS) (h : f_X6_readNot_64 rO rN rE x = some R) (F : Fx C RX6 cX6_readNot 2 (rm_X6_readNot (d + 1)) K) (E : CE C (xf K R y) none 0 0 none) : V C 64 [(0, .ref (K.1 + 26))] [] (xf K x y) 0 0 := by
  unfold f_X6_readNot_64 at h
  refine v_aload_n F (dq dkX6_readNot_0 31 rfl) rfl 0 rfl ?_
  refine v_get F 26 (xn (by decide)) xc_26 rfl inlX6 8 (by decide) (tc4 _ (List.mem_of_getElem? (i := 4) rfl)) rfl rfl (dq dkX6_readNot_0 32 rfl) ?_
  refine v_bipush F (v := 60) (dq dkX6_readNot_0 33 rfl) kb_60 ?_
  refine v_icmp_ne F (tgt := 78) (dq dkX6_readNot_0 34 rfl) (by decide) (fun c7 => ?_) (fun c7 => ?_)
  · rw [if_neg c7] at h
    refine v_bipush F (v := (-15)) (dq dkX6_readNot_0 37 rfl) kb_m15 ?_
    exact t_X6_readNot_80 rO rN rE d hrO hrN hrE x (-15) h F E
  · rw [if_pos c7] at h
    refine v_bipush F (v := (-14)) (dq dkX6_readNot_0 35 rfl) kb_m14 ?_
    refine v_goto F (tgt := 80) (dq dkX6_readNot_0 36 rfl) (by decide) ?_
    exact t_X6_readNot_80 rO rN rE d hrO hrN hrE x (-14) h F E
def f_X6_readNot (rO rN rE : CS → Option CS) (x : CS) : Option (CS) := if (gi x 26 8) = 305 then (if (b2i ((f_X6_opens x).1)) = 0 then (some ((f_X6_opens x).2)) else ((f_X6_advance ((f_X6_opens x).2)).bind fun r15 => (rN r15).bind fun r17 => (f_X6_emit r17 (-11)).bind fun r19 => some (pi r19 26 6 ((gi r19 26 6) - 1)))) else ((f_X6_readSum rO rN rE x).bind fun r9 => if (gi r9 26 8) = 60 then (f_X6_readNot_64 rO rN rE r9) else (if (gi r9 26 8) = 61 then (f_X6_readNot_64 rO rN rE r9) else (some r9)))
set_option maxRecDepth 100000 in
set_option maxHeartbeats 4000000 in
theorem c_X6_readNot {K : KE} {l : Launch} {R : CS} (rO rN rE : CS → Option CS) (d : Nat) (hrO : ∀ (l : Launch) (x R : CS) (y : MS), rO x = some R → MC K l yX6_readOne cX6_readOne 1 none (rm_X6_readOne d) 0 0 [.ref (K.1 + 26)] (xf K x y) (xf K R y) none) (hrN : ∀ (l : Launch) (x R : CS) (y : MS), rN x = some R → MC K l yX6_readNot cX6_readNot 2 none (rm_X6_readNot d) 0 0 [.ref (K.1 + 26)] (xf K x y) (xf K R y) none) (hrE : ∀ (l : Launch) (x R : CS) (y : MS), rE x = some R → MC K l yX6_readEither cX6_readEither 2 none (rm_X6_readEither d) 0 0 [.ref (K.1 + 26)] (xf K x y) (xf K R y) none) (x : CS) (y : MS) (h : f_X6_readNot rO rN rE x = some R) : MC K l yX6_readNot cX6_readNot 2 none (rm_X6_readNot (d + 1)) 0 0 [.ref (K.1 + 26)] (xf K x y) (xf K R y) none := by
  unfold f_X6_readNot at h
  refine mc_of (ls0 := [(0, .ref (K.1 + 26))]) (by decide) (Nat.le_of_ble_eq_true rfl) rfl (fun C hl hnm F E => ?_)
  have F : Fx C RX6 cX6_readNot 2 (rm_X6_readNot (d + 1)) K := F
  refine v_aload_n F (dq dkX6_readNot_0 0 rfl) rfl 0 rfl ?_
  refine v_get F 26 (xn (by decide)) xc_26 rfl inlX6 8 (by decide) (tc4 _ (List.mem_of_getElem? (i := 4) rfl)) rfl rfl (dq dkX6_readNot_0 1 rfl) ?_
  refine v_sipush F (v := 305) (dq dkX6_readNot_0 2 rfl) ks_305 ?_
  refine v_icmp_ne F (tgt := 42) (dq dkX6_readNot_0 3 rfl) (by decide) (fun c8 => ?_) (fun c8 => ?_)
  · rw [if_neg c8] at h
    refine v_aload_n F (dq dkX6_readNot_0 21 rfl) rfl 0 rfl ?_
    obtain ⟨r9, e10, h⟩ := bd_of h
    refine v_callV 0 F (q := 26) (kc1 := 0) (ks1 := 0) (as := []) (st := []) (st1 := []) (res := none) (c_X6_readSum (l := C.2.1) rO rN rE d hrO hrN hrE x y e10) (xn (by decide)) xc_26 rfl (tc10 _ (List.mem_of_getElem? (i := 13) rfl)) (tc10 _ (List.mem_of_getElem? (i := 14) rfl)) (tc10 _ (List.mem_of_getElem? (i := 15) rfl)) (tc1 _ (List.mem_of_getElem? (i := 23) rfl)) (tc10 _ (List.mem_of_getElem? (i := 20) rfl)) (by decide) rfl ⟨rfl, rfl, by show _ ≤ _; simp only [rm_X6_readNot, rm_X6_readSum]; omega, by show _ ≤ _; simp only [rm_X6_readNot, rm_X6_readSum]; omega⟩ ⟨Nat.le_of_ble_eq_true rfl, Nat.le_of_ble_eq_true rfl⟩ rfl (Nat.le_of_ble_eq_true rfl) rfl rfl rfl (dq dkX6_readNot_0 22 rfl) ?_
    refine v_aload_n F (dq dkX6_readNot_0 23 rfl) rfl 0 rfl ?_
    refine v_get F 26 (xn (by decide)) xc_26 rfl inlX6 8 (by decide) (tc4 _ (List.mem_of_getElem? (i := 4) rfl)) rfl rfl (dq dkX6_readNot_0 24 rfl) ?_
    refine v_bipush F (v := 60) (dq dkX6_readNot_0 25 rfl) kb_60 ?_
    refine v_icmp_eq F (tgt := 64) (dq dkX6_readNot_0 26 rfl) (by decide) (fun c11 => ?_) (fun c11 => ?_)
    · rw [if_pos c11] at h
      exact t_X6_readNot_64 rO rN rE d hrO hrN hrE r9 h F E
    · rw [if_neg c11] at h
      refine v_aload_n F (dq dkX6_readNot_0 27 rfl) rfl 0 rfl ?_
      refine v_get F 26 (xn (by decide)) xc_26 rfl inlX6 8 (by decide) (tc4 _ (List.mem_of_getElem? (i := 4) rfl)) rfl rfl (dq dkX6_readNot_0 28 rfl) ?_
      refine v_bipush F (v := 61) (dq dkX6_readNot_0 29 rfl) kb_61 ?_
      refine v_icmp_ne F (tgt := 94) (dq dkX6_readNot_0 30 rfl) (by decide) (fun c12 => ?_) (fun c12 => ?_)
      · rw [if_neg c12] at h
        have h := Option.some.inj h
        subst h
        exact v_vret F E (dq dkX6_readNot_1 6 rfl)
      · rw [if_pos c12] at h
        exact t_X6_readNot_64 rO rN rE d hrO hrN hrE r9 h F E
  · rw [if_pos c8] at h
    refine v_aload_n F (dq dkX6_readNot_0 4 rfl) rfl 0 rfl ?_
    refine v_callV 0 F (q := 26) (kc1 := 0) (ks1 := 0) (as := []) (st := []) (st1 := (.int (b2i ((f_X6_opens x).1)) :: [])) (res := (some (.int (b2i ((f_X6_opens x).1))))) (c_X6_opens (l := C.2.1) x y) (xn (by decide)) xc_26 rfl (tc10 _ (List.mem_of_getElem? (i := 9) rfl)) (tc10 _ (List.mem_of_getElem? (i := 10) rfl)) (tc10 _ (List.mem_of_getElem? (i := 11) rfl)) (tc1 _ (List.mem_of_getElem? (i := 23) rfl)) (tc10 _ (List.mem_of_getElem? (i := 12) rfl)) (by decide) rfl ⟨rfl, rfl, by show _ ≤ _; simp only [rm_X6_readNot, rm_X6_opens]; omega, by show _ ≤ _; simp only [rm_X6_readNot, rm_X6_opens]; omega⟩ ⟨Nat.le_of_ble_eq_true rfl, Nat.le_of_ble_eq_true rfl⟩ rfl (Nat.le_of_ble_eq_true rfl) rfl rfl rfl (dq dkX6_readNot_0 5 rfl) ?_
    refine v_if_eq F (tgt := 41) (dq dkX6_readNot_0 6 rfl) (by decide) (fun c14 => ?_) (fun c14 => ?_)
    · rw [if_pos c14] at h
      have h := Option.some.inj h
      subst h
      exact v_vret F E (dq dkX6_readNot_0 20 rfl)
    · rw [if_neg c14] at h
      refine v_aload_n F (dq dkX6_readNot_0 7 rfl) rfl 0 rfl ?_
      obtain ⟨r15, e16, h⟩ := bd_of h
      refine v_callV 0 F (q := 26) (kc1 := 0) (ks1 := 0) (as := []) (st := []) (st1 := []) (res := none) (c_X6_advance (l := C.2.1) ((f_X6_opens x).2) y e16) (xn (by decide)) xc_26 rfl (tc8 _ (List.mem_of_getElem? (i := 4) rfl)) (tc8 _ (List.mem_of_getElem? (i := 5) rfl)) (tc8 _ (List.mem_of_getElem? (i := 6) rfl)) (tc1 _ (List.mem_of_getElem? (i := 23) rfl)) (tc8 _ (List.mem_of_getElem? (i := 7) rfl)) (by decide) rfl ⟨rfl, rfl, by show _ ≤ _; simp only [rm_X6_readNot, rm_X6_advance]; omega, by show _ ≤ _; simp only [rm_X6_readNot, rm_X6_advance]; omega⟩ ⟨Nat.le_of_ble_eq_true rfl, Nat.le_of_ble_eq_true rfl⟩ rfl (Nat.le_of_ble_eq_true rfl) rfl rfl rfl (dq dkX6_readNot_0 8 rfl) ?_
      refine v_aload_n F (dq dkX6_readNot_0 9 rfl) rfl 0 rfl ?_
      obtain ⟨r17, e18, h⟩ := bd_of h
      refine v_callV 0 F (q := 26) (kc1 := 0) (ks1 := 0) (as := []) (st := []) (st1 := []) (res := none) (hrN C.2.1 r15 _ y e18) (xn (by decide)) xc_26 rfl (tc10 _ (List.mem_of_getElem? (i := 5) rfl)) (tc10 _ (List.mem_of_getElem? (i := 6) rfl)) (tc10 _ (List.mem_of_getElem? (i := 7) rfl)) (tc1 _ (List.mem_of_getElem? (i := 23) rfl)) (tc10 _ (List.mem_of_getElem? (i := 8) rfl)) (by decide) rfl ⟨rfl, rfl, by show _ ≤ _; simp only [rm_X6_readNot, rm_X6_readNot]; omega, by show _ ≤ _; simp only [rm_X6_readNot, rm_X6_readNot]; omega⟩ ⟨Nat.le_of_ble_eq_true rfl, Nat.le_of_ble_eq_true rfl⟩ rfl (Nat.le_of_ble_eq_true rfl) rfl rfl rfl (dq dkX6_readNot_0 10 rfl) ?_
      refine v_aload_n F (dq dkX6_readNot_0 11 rfl) rfl 0 rfl ?_
      refine v_bipush F (v := (-11)) (dq dkX6_readNot_0 12 rfl) kb_m11 ?_
      obtain ⟨r19, e20, h⟩ := bd_of h
      refine v_callV 1 F (q := 26) (kc1 := 0) (ks1 := 0) (as := [.int (-11)]) (st := []) (st1 := []) (res := none) (c_X6_emit (l := C.2.1) r17 y (-11) e20) (xn (by decide)) xc_26 rfl (tc10 _ (List.mem_of_getElem? (i := 0) rfl)) (tc10 _ (List.mem_of_getElem? (i := 1) rfl)) (tc10 _ (List.mem_of_getElem? (i := 2) rfl)) (tc1 _ (List.mem_of_getElem? (i := 23) rfl)) (tc10 _ (List.mem_of_getElem? (i := 3) rfl)) (by decide) rfl ⟨rfl, rfl, by show _ ≤ _; simp only [rm_X6_readNot, rm_X6_emit]; omega, by show _ ≤ _; simp only [rm_X6_readNot, rm_X6_emit]; omega⟩ ⟨Nat.le_of_ble_eq_true rfl, Nat.le_of_ble_eq_true rfl⟩ rfl (Nat.le_of_ble_eq_true rfl) rfl rfl rfl (dq dkX6_readNot_0 13 rfl) ?_
      refine v_aload_n F (dq dkX6_readNot_0 14 rfl) rfl 0 rfl ?_
      refine v_dup F (dq dkX6_readNot_0 15 rfl) rfl ?_
      refine v_get F 26 (xn (by decide)) xc_26 rfl inlX6 6 (by decide) (tc4 _ (List.mem_of_getElem? (i := 2) rfl)) rfl rfl (dq dkX6_readNot_0 16 rfl) ?_
      refine v_iconst F (v := 1) (dq dkX6_readNot_0 17 rfl) ki_1 ?_
      refine v_isub F (dq dkX6_readNot_0 18 rfl) ?_
      refine v_put F 26 (xn (by decide)) xc_26 rfl inlX6 tyX6_ok nmX6 6 (by decide) (tc4 _ (List.mem_of_getElem? (i := 2) rfl)) rfl rfl (tyX6_ok 6 (by decide)) rfl rfl (Nat.le_of_ble_eq_true rfl) (dq dkX6_readNot_0 19 rfl) ?_
      refine v_eqM (xwC (q := 26) (j := 6) (v := (gi r19 26 6) - 1) (by decide) rfl) ?_
      have h := Option.some.inj h
      subst h
      exact v_vret F E (dq dkX6_readNot_0 20 rfl)
