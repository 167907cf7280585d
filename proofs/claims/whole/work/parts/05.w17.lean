def rm_X11_weight : Room := { frames := 1, cells := 0, slots := 0, locals := 30 }
def f_X11_weight_4 (y : MS) : Nat → Int32 → Int32 → Option (Int32)
  | 0, _, _ => none
  | n + 1, a1, a2 => if 9 ≤ a2 then (some a1) else (gd (ib a2 9) (gd (ib a2 9) (gd (ib a2 9) ((f_X11_weight_4 y n) (a1 + (((gi y 85 a2.toNatClampNeg) * ((gi y 84 a2.toNatClampNeg) + (2 * (gi y 86 a2.toNatClampNeg)))) / 4)) (a2 + 1)))))
set_option maxRecDepth 100000 in
set_option maxHeartbeats 4000000 in
theorem t_X11_weight_4 {C : Cx} {K : KE} {nn : Nat} {x : CS} {R : Int32}  (y : MS) (F : Fx C RX11 cX11_weight 3 rm_X11_weight K) (E : CE C (xfM K nn x y) (some (.int R)) 0 0 (some .int)) : ∀ (n : Nat) (a1 : Int32) (a2 : Int32) (h : f_X11_weight_4 y n a1 a2 = some R), V C 4 [(0, .ref (K.1 + 61)), (1, .int a1), (2, .int a2)] [] (xfM K nn x y) 0 0 := by
  intro n
  induction n with
  | zero => intro a1 a2 h; cases h
  | succ n ih =>
    intro a1 a2 h
    rw [f_X11_weight_4] at h
    refine v_iload_n F (dq dkX11_weight_0 4 rfl) rfl 2 rfl ?_
    refine v_bipush F (v := 9) (dq dkX11_weight_0 5 rfl) kb_9 ?_
    refine v_icmp_ge F (tgt := 43) (dq dkX11_weight_0 6 rfl) (by decide) (fun c1 => ?_) (fun c1 => ?_)
    · rw [if_pos c1] at h
      refine v_iload_n F (dq dkX11_weight_0 30 rfl) rfl 1 rfl ?_
      have h := Option.some.inj h
      subst h
      exact v_iret F E (dq dkX11_weight_0 31 rfl)
    · rw [if_neg c1] at h
      refine v_iload_n F (dq dkX11_weight_0 7 rfl) rfl 1 rfl ?_
      refine v_aload_n F (dq dkX11_weight_0 8 rfl) rfl 0 rfl ?_
      refine v_get F 61 (xnM (by decide)) xc_61 rfl inlX11 43 (by decide) (tc13 _ (List.mem_of_getElem? (i := 9) rfl)) rfl rfl (dq dkX11_weight_0 9 rfl) ?_
      refine v_iload_n F (dq dkX11_weight_0 10 rfl) rfl 2 rfl ?_
      obtain ⟨g2, h⟩ := gd_of h
      refine v_iald F 85 (xnM (by decide)) xc_85 (ib_in g2) (dq dkX11_weight_0 11 rfl) ?_
      refine v_aload_n F (dq dkX11_weight_0 12 rfl) rfl 0 rfl ?_
      refine v_get F 61 (xnM (by decide)) xc_61 rfl inlX11 42 (by decide) (tc13 _ (List.mem_of_getElem? (i := 8) rfl)) rfl rfl (dq dkX11_weight_0 13 rfl) ?_
      refine v_iload_n F (dq dkX11_weight_0 14 rfl) rfl 2 rfl ?_
      obtain ⟨g3, h⟩ := gd_of h
      refine v_iald F 84 (xnM (by decide)) xc_84 (ib_in g3) (dq dkX11_weight_0 15 rfl) ?_
      refine v_iconst F (v := 2) (dq dkX11_weight_0 16 rfl) ki_2 ?_
      refine v_aload_n F (dq dkX11_weight_0 17 rfl) rfl 0 rfl ?_
      refine v_get F 61 (xnM (by decide)) xc_61 rfl inlX11 44 (by decide) (tc13 _ (List.mem_of_getElem? (i := 10) rfl)) rfl rfl (dq dkX11_weight_0 18 rfl) ?_
      refine v_iload_n F (dq dkX11_weight_0 19 rfl) rfl 2 rfl ?_
      obtain ⟨g4, h⟩ := gd_of h
      refine v_iald F 86 (xnM (by decide)) xc_86 (ib_in g4) (dq dkX11_weight_0 20 rfl) ?_
      refine v_imul F (dq dkX11_weight_0 21 rfl) ?_
      refine v_iadd F (dq dkX11_weight_0 22 rfl) ?_
      refine v_imul F (dq dkX11_weight_0 23 rfl) ?_
      refine v_iconst F (v := 4) (dq dkX11_weight_0 24 rfl) ki_4 ?_
      refine v_idiv F (dq dkX11_weight_0 25 rfl) (by decide) ?_
      refine v_iadd F (dq dkX11_weight_0 26 rfl) ?_
      refine v_istore_n F (ls' := [(1, .int (a1 + (((gi y 85 a2.toNatClampNeg) * ((gi y 84 a2.toNatClampNeg) + (2 * (gi y 86 a2.toNatClampNeg)))) / 4))), (0, .ref (K.1 + 61)), (2, .int a2)]) (dq dkX11_weight_0 27 rfl) rfl (by decide) rfl ?_
      refine v_iinc F (v := a2 + 1) (ls' := [(2, .int (a2 + 1)), (1, .int (a1 + (((gi y 85 a2.toNatClampNeg) * ((gi y 84 a2.toNatClampNeg) + (2 * (gi y 86 a2.toNatClampNeg)))) / 4))), (0, .ref (K.1 + 61))]) (dq dkX11_weight_0 28 rfl) (j := 2) rfl (kv_add ki_1) (by decide) rfl ?_
      refine v_goto F (tgt := 4) (dq dkX11_weight_0 29 rfl) (by decide) ?_
      refine v_sub [2, 1, 0] rfl ?_
      exact ih (a1 + (((gi y 85 a2.toNatClampNeg) * ((gi y 84 a2.toNatClampNeg) + (2 * (gi y 86 a2.toNatClampNeg)))) / 4)) (a2 + 1) h
def f_X11_weight (y : MS) : Option (Int32) := f_X11_weight_4 y 1000 0 0
set_option maxRecDepth 100000 in
set_option maxHeartbeats 4000000 in
theorem c_X11_weight {K : KE} {l : Launch} {R : Int32} {nn : Nat} (x : CS) (y : MS) (h : f_X11_weight y = some R) : MC K l yX11_weight cX11_weight 3 (some .int) rm_X11_weight 0 0 [.ref (K.1 + 61)] (xfM K nn x y) (xfM K nn x y) (some (.int R)) := by
  unfold f_X11_weight at h
  refine mc_of (ls0 := [(0, .ref (K.1 + 61))]) (by decide) (Nat.le_of_ble_eq_true rfl) rfl (fun C hl hnm F E => ?_)
  have F : Fx C RX11 cX11_weight 3 rm_X11_weight K := F
  refine v_iconst F (v := 0) (dq dkX11_weight_0 0 rfl) ki_0 ?_
  refine v_istore_n F (ls' := [(1, .int 0), (0, .ref (K.1 + 61))]) (dq dkX11_weight_0 1 rfl) rfl (by decide) rfl ?_
  refine v_iconst F (v := 0) (dq dkX11_weight_0 2 rfl) ki_0 ?_
  refine v_istore_n F (ls' := [(2, .int 0), (1, .int 0), (0, .ref (K.1 + 61))]) (dq dkX11_weight_0 3 rfl) rfl (by decide) rfl ?_
  refine v_sub [2, 1, 0] rfl ?_
  exact t_X11_weight_4 y F E 1000 0 0 h
def rm_X11_allWide : Room := { frames := 1, cells := 0, slots := 0, locals := 30 }
def f_X11_allWide_37 (k4 : Int32 → Int32 → Int32 → Option (Int32)) (y : MS) (a1 : Int32) (a3 : Int32) (s0 : Int32) (s1 : Int32) : Option (Int32) := k4 a1 (s1 + s0) (a3 + 1)
set_option maxRecDepth 100000 in
set_option maxHeartbeats 4000000 in
theorem t_X11_allWide_37 {C : Cx} {K : KE} {nn : Nat} {x : CS} {R : Int32}  (k4 : Int32 → Int32 → Int32 → Option (Int32)) (y : MS) (a1 : Int32) (a3 : Int32) (s0 : Int32) (s1 : Int32) (hk4 : ∀ (a1 : Int32) (a2 : Int32) (a3 : Int32), k4 a1 a2 a3 = some R → V C 4 [(0, .ref (K.1 + 61)), (1, .int a1), (2, .int a2), (3, .int a3)] [] (xfM K nn x y) 0 0) (h : f_X11_allWide_37 k4 y a1 a3 s0 s1 = some R) (F : Fx C RX11 cX11_allWide 4 rm_X11_allWide K) (E : CE C (xfM K nn x y) (some (.int R)) 0 0 (some .int)) : V C 37 [(0, .ref (K.1 + 61)), (1, .int a1), (3, .int a3)] [.int s0, .int s1] (xfM K nn x y) 0 0 := by
  unfold f_X11_allWide_37 at h
  refine v_iadd F (dq dkX11_allWide_0 24 rfl) ?_
  refine v_istore_n F (ls' := [(2, .int (s1 + s0)), (0, .ref (K.1 + 61)), (1, .int a1), (3, .int a3)]) (dq dkX11_allWide_0 25 rfl) rfl (by decide) rfl ?_
  refine v_iinc F (v := a3 + 1) (ls' := [(3, .int (a3 + 1)), (2, .int (s1 + s0)), (0, .ref (K.1 + 61)), (1, .int a1)]) (dq dkX11_allWide_0 26 rfl) (j := 3) rfl (kv_add ki_1) (by decide) rfl ?_
  refine v_goto F (tgt := 4) (dq dkX11_allWide_0 27 rfl) (by decide) ?_
  refine v_sub [2, 3, 1, 0] rfl ?_
  exact hk4 a1 (s1 + s0) (a3 + 1) h
def f_X11_allWide_4 (y : MS) : Nat → Int32 → Int32 → Int32 → Option (Int32)
  | 0, _, _, _ => none
  | n + 1, a1, a2, a3 => if 9 ≤ a3 then (some a2) else (if a1 = 0 then (gd (ib a3 9) (f_X11_allWide_37 (f_X11_allWide_4 y n) y a1 a3 (gi y 84 a3.toNatClampNeg) a2)) else (gd (ib a3 9) (gd (ib a3 9) (f_X11_allWide_37 (f_X11_allWide_4 y n) y a1 a3 ((gi y 84 a3.toNatClampNeg) * (gi y 84 a3.toNatClampNeg)) a2))))
set_option maxRecDepth 100000 in
set_option maxHeartbeats 4000000 in
theorem t_X11_allWide_4 {C : Cx} {K : KE} {nn : Nat} {x : CS} {R : Int32}  (y : MS) (F : Fx C RX11 cX11_allWide 4 rm_X11_allWide K) (E : CE C (xfM K nn x y) (some (.int R)) 0 0 (some .int)) : ∀ (n : Nat) (a1 : Int32) (a2 : Int32) (a3 : Int32) (h : f_X11_allWide_4 y n a1 a2 a3 = some R), V C 4 [(0, .ref (K.1 + 61)), (1, .int a1), (2, .int a2), (3, .int a3)] [] (xfM K nn x y) 0 0 := by
  intro n
  induction n with
  | zero => intro a1 a2 a3 h; cases h
  | succ n ih =>
    intro a1 a2 a3 h
    rw [f_X11_allWide_4] at h
    refine v_iload_n F (dq dkX11_allWide_0 4 rfl) rfl 3 rfl ?_
    refine v_bipush F (v := 9) (dq dkX11_allWide_0 5 rfl) kb_9 ?_
    refine v_icmp_ge F (tgt := 45) (dq dkX11_allWide_0 6 rfl) (by decide) (fun c1 => ?_) (fun c1 => ?_)
    · rw [if_pos c1] at h
      refine v_iload_n F (dq dkX11_allWide_0 28 rfl) rfl 2 rfl ?_
      have h := Option.some.inj h
      subst h
      exact v_iret F E (dq dkX11_allWide_0 29 rfl)
    · rw [if_neg c1] at h
      refine v_iload_n F (dq dkX11_allWide_0 7 rfl) rfl 2 rfl ?_
      refine v_iload_n F (dq dkX11_allWide_0 8 rfl) rfl 1 rfl ?_
      refine v_if_eq F (tgt := 31) (dq dkX11_allWide_0 9 rfl) (by decide) (fun c2 => ?_) (fun c2 => ?_)
      · rw [if_pos c2] at h
        refine v_aload_n F (dq dkX11_allWide_0 20 rfl) rfl 0 rfl ?_
        refine v_get F 61 (xnM (by decide)) xc_61 rfl inlX11 42 (by decide) (tc13 _ (List.mem_of_getElem? (i := 8) rfl)) rfl rfl (dq dkX11_allWide_0 21 rfl) ?_
        refine v_iload_n F (dq dkX11_allWide_0 22 rfl) rfl 3 rfl ?_
        obtain ⟨g3, h⟩ := gd_of h
        refine v_iald F 84 (xnM (by decide)) xc_84 (ib_in g3) (dq dkX11_allWide_0 23 rfl) ?_
        refine v_sub [0, 1, 3] rfl ?_
        exact t_X11_allWide_37 (f_X11_allWide_4 y n) y a1 a3 (gi y 84 a3.toNatClampNeg) a2 ih h F E
      · rw [if_neg c2] at h
        refine v_aload_n F (dq dkX11_allWide_0 10 rfl) rfl 0 rfl ?_
        refine v_get F 61 (xnM (by decide)) xc_61 rfl inlX11 42 (by decide) (tc13 _ (List.mem_of_getElem? (i := 8) rfl)) rfl rfl (dq dkX11_allWide_0 11 rfl) ?_
        refine v_iload_n F (dq dkX11_allWide_0 12 rfl) rfl 3 rfl ?_
        obtain ⟨g4, h⟩ := gd_of h
        refine v_iald F 84 (xnM (by decide)) xc_84 (ib_in g4) (dq dkX11_allWide_0 13 rfl) ?_
        refine v_aload_n F (dq dkX11_allWide_0 14 rfl) rfl 0 rfl ?_
        refine v_get F 61 (xnM (by decide)) xc_61 rfl inlX11 42 (by decide) (tc13 _ (List.mem_of_getElem? (i := 8) rfl)) rfl rfl (dq dkX11_allWide_0 15 rfl) ?_
        refine v_iload_n F (dq dkX11_allWide_0 16 rfl) rfl 3 rfl ?_
        obtain ⟨g5, h⟩ := gd_of h
        refine v_iald F 84 (xnM (by decide)) xc_84 (ib_in g5) (dq dkX11_allWide_0 17 rfl) ?_
        refine v_imul F (dq dkX11_allWide_0 18 rfl) ?_
        refine v_goto F (tgt := 37) (dq dkX11_allWide_0 19 rfl) (by decide) ?_
        refine v_sub [0, 1, 3] rfl ?_
        exact t_X11_allWide_37 (f_X11_allWide_4 y n) y a1 a3 ((gi y 84 a3.toNatClampNeg) * (gi y 84 a3.toNatClampNeg)) a2 ih h F E
def f_X11_allWide (y : MS) (a1 : Int32) : Option (Int32) := f_X11_allWide_4 y 1000 a1 0 0
set_option maxRecDepth 100000 in
set_option maxHeartbeats 4000000 in
theorem c_X11_allWide {K : KE} {l : Launch} {R : Int32} {nn : Nat} (x : CS) (y : MS) (a1 : Int32) (h : f_X11_allWide y a1 = some R) : MC K l yX11_allWide cX11_allWide 4 (some .int) rm_X11_allWide 0 0 [.ref (K.1 + 61), .int a1] (xfM K nn x y) (xfM K nn x y) (some (.int R)) := by
  unfold f_X11_allWide at h
  refine mc_of (ls0 := [(0, .ref (K.1 + 61)), (1, .int a1)]) (by decide) (Nat.le_of_ble_eq_true rfl) rfl (fun C hl hnm F E => ?_)
  have F : Fx C RX11 cX11_allWide 4 rm_X11_allWide K := F
  refine v_iconst F (v := 0) (dq dkX11_allWide_0 0 rfl) ki_0 ?_
  refine v_istore_n F (ls' := [(2, .int 0), (0, .ref (K.1 + 61)), (1, .int a1)]) (dq dkX11_allWide_0 1 rfl) rfl (by decide) rfl ?_
  refine v_iconst F (v := 0) (dq dkX11_allWide_0 2 rfl) ki_0 ?_
  refine v_istore_n F (ls' := [(3, .int 0), (2, .int 0), (0, .ref (K.1 + 61)), (1, .int a1)]) (dq dkX11_allWide_0 3 rfl) rfl (by decide) rfl ?_
  refine v_sub [2, 3, 1, 0] rfl ?_
  exact t_X11_allWide_4 y F E 1000 a1 0 0 h
def rm_X11_leastHigh : Room := { frames := 1, cells := 0, slots := 0, locals := 30 }
def f_X11_leastHigh_35 (k9 : Int32 → Int32 → Option (Int32)) (y : MS) (a2 : Int32) (s0 : Int32) : Option (Int32) := k9 s0 (a2 + 1)
set_option maxRecDepth 100000 in
set_option maxHeartbeats 4000000 in
theorem t_X11_leastHigh_35 {C : Cx} {K : KE} {nn : Nat} {x : CS} {R : Int32}  (k9 : Int32 → Int32 → Option (Int32)) (y : MS) (a2 : Int32) (s0 : Int32) (hk9 : ∀ (a1 : Int32) (a2 : Int32), k9 a1 a2 = some R → V C 9 [(0, .ref (K.1 + 61)), (1, .int a1), (2, .int a2)] [] (xfM K nn x y) 0 0) (h : f_X11_leastHigh_35 k9 y a2 s0 = some R) (F : Fx C RX11 cX11_leastHigh 3 rm_X11_leastHigh K) (E : CE C (xfM K nn x y) (some (.int R)) 0 0 (some .int)) : V C 35 [(0, .ref (K.1 + 61)), (2, .int a2)] [.int s0] (xfM K nn x y) 0 0 := by
  unfold f_X11_leastHigh_35 at h
  refine v_istore_n F (ls' := [(1, .int s0), (0, .ref (K.1 + 61)), (2, .int a2)]) (dq dkX11_leastHigh_0 22 rfl) rfl (by decide) rfl ?_
  refine v_iinc F (v := a2 + 1) (ls' := [(2, .int (a2 + 1)), (1, .int s0), (0, .ref (K.1 + 61))]) (dq dkX11_leastHigh_0 23 rfl) (j := 2) rfl (kv_add ki_1) (by decide) rfl ?_
  refine v_goto F (tgt := 9) (dq dkX11_leastHigh_0 24 rfl) (by decide) ?_
  refine v_sub [2, 1, 0] rfl ?_
  exact hk9 s0 (a2 + 1) h
def f_X11_leastHigh_9 (y : MS) : Nat → Int32 → Int32 → Option (Int32)
  | 0, _, _ => none
  | n + 1, a1, a2 => if 9 ≤ a2 then (some a1) else (gd (ib a2 9) (if a1 ≤ (gi y 86 a2.toNatClampNeg) then (f_X11_leastHigh_35 (f_X11_leastHigh_9 y n) y a2 a1) else (gd (ib a2 9) (f_X11_leastHigh_35 (f_X11_leastHigh_9 y n) y a2 (gi y 86 a2.toNatClampNeg)))))
set_option maxRecDepth 100000 in
set_option maxHeartbeats 4000000 in
theorem t_X11_leastHigh_9 {C : Cx} {K : KE} {nn : Nat} {x : CS} {R : Int32}  (y : MS) (F : Fx C RX11 cX11_leastHigh 3 rm_X11_leastHigh K) (E : CE C (xfM K nn x y) (some (.int R)) 0 0 (some .int)) : ∀ (n : Nat) (a1 : Int32) (a2 : Int32) (h : f_X11_leastHigh_9 y n a1 a2 = some R), V C 9 [(0, .ref (K.1 + 61)), (1, .int a1), (2, .int a2)] [] (xfM K nn x y) 0 0 := by
  intro n
  induction n with
  | zero => intro a1 a2 h; cases h
  | succ n ih =>
    intro a1 a2 h
    rw [f_X11_leastHigh_9] at h
    refine v_iload_n F (dq dkX11_leastHigh_0 7 rfl) rfl 2 rfl ?_
    refine v_bipush F (v := 9) (dq dkX11_leastHigh_0 8 rfl) kb_9 ?_
    refine v_icmp_ge F (tgt := 42) (dq dkX11_leastHigh_0 9 rfl) (by decide) (fun c1 => ?_) (fun c1 => ?_)
    · rw [if_pos c1] at h
      refine v_iload_n F (dq dkX11_leastHigh_0 25 rfl) rfl 1 rfl ?_
      have h := Option.some.inj h
      subst h
      exact v_iret F E (dq dkX11_leastHigh_0 26 rfl)
    · rw [if_neg c1] at h
      refine v_aload_n F (dq dkX11_leastHigh_0 10 rfl) rfl 0 rfl ?_
      refine v_get F 61 (xnM (by decide)) xc_61 rfl inlX11 44 (by decide) (tc13 _ (List.mem_of_getElem? (i := 10) rfl)) rfl rfl (dq dkX11_leastHigh_0 11 rfl) ?_
      refine v_iload_n F (dq dkX11_leastHigh_0 12 rfl) rfl 2 rfl ?_
      obtain ⟨g2, h⟩ := gd_of h
      refine v_iald F 86 (xnM (by decide)) xc_86 (ib_in g2) (dq dkX11_leastHigh_0 13 rfl) ?_
      refine v_iload_n F (dq dkX11_leastHigh_0 14 rfl) rfl 1 rfl ?_
      refine v_icmp_ge F (tgt := 34) (dq dkX11_leastHigh_0 15 rfl) (by decide) (fun c3 => ?_) (fun c3 => ?_)
      · rw [if_pos c3] at h
        refine v_iload_n F (dq dkX11_leastHigh_0 21 rfl) rfl 1 rfl ?_
        refine v_sub [0, 2] rfl ?_
        exact t_X11_leastHigh_35 (f_X11_leastHigh_9 y n) y a2 a1 ih h F E
      · rw [if_neg c3] at h
        refine v_aload_n F (dq dkX11_leastHigh_0 16 rfl) rfl 0 rfl ?_
        refine v_get F 61 (xnM (by decide)) xc_61 rfl inlX11 44 (by decide) (tc13 _ (List.mem_of_getElem? (i := 10) rfl)) rfl rfl (dq dkX11_leastHigh_0 17 rfl) ?_
        refine v_iload_n F (dq dkX11_leastHigh_0 18 rfl) rfl 2 rfl ?_
        obtain ⟨g4, h⟩ := gd_of h
        refine v_iald F 86 (xnM (by decide)) xc_86 (ib_in g4) (dq dkX11_leastHigh_0 19 rfl) ?_
        refine v_goto F (tgt := 35) (dq dkX11_leastHigh_0 20 rfl) (by decide) ?_
        refine v_sub [0, 2] rfl ?_
        exact t_X11_leastHigh_35 (f_X11_leastHigh_9 y n) y a2 (gi y 86 a2.toNatClampNeg) ih h F E
def f_X11_leastHigh (y : MS) : Option (Int32) := f_X11_leastHigh_9 y 1000 (gi y 86 (0 : Int32).toNatClampNeg) 1
set_option maxRecDepth 100000 in
set_option maxHeartbeats 4000000 in
theorem c_X11_leastHigh {K : KE} {l : Launch} {R : Int32} {nn : Nat} (x : CS) (y : MS) (h : f_X11_leastHigh y = some R) : MC K l yX11_leastHigh cX11_leastHigh 3 (some .int) rm_X11_leastHigh 0 0 [.ref (K.1 + 61)] (xfM K nn x y) (xfM K nn x y) (some (.int R)) := by
  unfold f_X11_leastHigh at h
  refine mc_of (ls0 := [(0, .ref (K.1 + 61))]) (by decide) (Nat.le_of_ble_eq_true rfl) rfl (fun C hl hnm F E => ?_)
  have F : Fx C RX11 cX11_leastHigh 3 rm_X11_leastHigh K := F
  refine v_aload_n F (dq dkX11_leastHigh_0 0 rfl) rfl 0 rfl ?_
  refine v_get F 61 (xnM (by decide)) xc_61 rfl inlX11 44 (by decide) (tc13 _ (List.mem_of_getElem? (i := 10) rfl)) rfl rfl (dq dkX11_leastHigh_0 1 rfl) ?_
  refine v_iconst F (v := 0) (dq dkX11_leastHigh_0 2 rfl) ki_0 ?_
  refine v_iald F 86 (xnM (by decide)) xc_86 (ib_in (by decide)) (dq dkX11_leastHigh_0 3 rfl) ?_
  refine v_istore_n F (ls' := [(1, .int (gi y 86 (0 : Int32).toNatClampNeg)), (0, .ref (K.1 + 61))]) (dq dkX11_leastHigh_0 4 rfl) rfl (by decide) rfl ?_
  refine v_iconst F (v := 1) (dq dkX11_leastHigh_0 5 rfl) ki_1 ?_
  refine v_istore_n F (ls' := [(2, .int 1), (1, .int (gi y 86 (0 : Int32).toNatClampNeg)), (0, .ref (K.1 + 61))]) (dq dkX11_leastHigh_0 6 rfl) rfl (by decide) rfl ?_
  refine v_sub [2, 1, 0] rfl ?_
  exact t_X11_leastHigh_9 y F E 1000 (gi y 86 (0 : Int32).toNatClampNeg) 1 h
def rm_X11_draughtOf : Room := { frames := 2, cells := 0, slots := 0, locals := 53 }
def f_X11_draughtOf (y : MS) (a1 : Int32) : Option (Int32) := (f_X11_weight y).bind fun r1 => (f_X11_allWide y 0).bind fun r3 => (f_X11_allWide y 0).bind fun r5 => gd (decide (¬ r5 = 0)) (some ((((r1 + a1) + r3) - 1) / r5))
set_option maxRecDepth 100000 in
set_option maxHeartbeats 4000000 in
theorem c_X11_draughtOf {K : KE} {l : Launch} {R : Int32} {nn : Nat} (x : CS) (y : MS) (a1 : Int32) (h : f_X11_draughtOf y a1 = some R) : MC K l yX11_draughtOf cX11_draughtOf 2 (some .int) rm_X11_draughtOf 0 0 [.ref (K.1 + 61), .int a1] (xfM K nn x y) (xfM K nn x y) (some (.int R)) := by
  unfold f_X11_draughtOf at h
  refine mc_of (ls0 := [(0, .ref (K.1 + 61)), (1, .int a1)]) (by decide) (Nat.le_of_ble_eq_true rfl) rfl (fun C hl hnm F E => ?_)
  have F : Fx C RX11 cX11_draughtOf 2 rm_X11_draughtOf K := F
  refine v_aload_n F (dq dkX11_draughtOf_0 0 rfl) rfl 0 rfl ?_
  obtain ⟨r1, e2, h⟩ := bd_of h
  refine v_callV 0 F (q := 61) (kc1 := 0) (ks1 := 0) (as := []) (st := []) (st1 := (.int r1 :: [])) (res := (some (.int r1))) (c_X11_weight (l := C.2.1) x y e2) (xnM (by decide)) xc_61 rfl (tc40 _ (List.mem_of_getElem? (i := 20) rfl)) (tc40 _ (List.mem_of_getElem? (i := 21) rfl)) (tc40 _ (List.mem_of_getElem? (i := 22) rfl)) (tc1 _ (List.mem_of_getElem? (i := 5) rfl)) (tc40 _ (List.mem_of_getElem? (i := 23) rfl)) (by decide) rfl ⟨rfl, rfl, Nat.le_of_ble_eq_true rfl, Nat.le_of_ble_eq_true rfl⟩ ⟨Nat.le_of_ble_eq_true rfl, Nat.le_of_ble_eq_true rfl⟩ rfl (Nat.le_of_ble_eq_true rfl) rfl rfl rfl (dq dkX11_draughtOf_0 1 rfl) ?_
  refine v_iload_n F (dq dkX11_draughtOf_0 2 rfl) rfl 1 rfl ?_
  refine v_iadd F (dq dkX11_draughtOf_0 3 rfl) ?_
  refine v_aload_n F (dq dkX11_draughtOf_0 4 rfl) rfl 0 rfl ?_
  refine v_iconst F (v := 0) (dq dkX11_draughtOf_0 5 rfl) ki_0 ?_
  obtain ⟨r3, e4, h⟩ := bd_of h
  refine v_callV 1 F (q := 61) (kc1 := 0) (ks1 := 0) (as := [.int 0]) (st := [.int (r1 + a1)]) (st1 := (.int r3 :: [.int (r1 + a1)])) (res := (some (.int r3))) (c_X11_allWide (l := C.2.1) x y 0 e4) (xnM (by decide)) xc_61 rfl (tc41 _ (List.mem_of_getElem? (i := 0) rfl)) (tc41 _ (List.mem_of_getElem? (i := 1) rfl)) (tc41 _ (List.mem_of_getElem? (i := 2) rfl)) (tc1 _ (List.mem_of_getElem? (i := 5) rfl)) (tc41 _ (List.mem_of_getElem? (i := 3) rfl)) (by decide) rfl ⟨rfl, rfl, Nat.le_of_ble_eq_true rfl, Nat.le_of_ble_eq_true rfl⟩ ⟨Nat.le_of_ble_eq_true rfl, Nat.le_of_ble_eq_true rfl⟩ rfl (Nat.le_of_ble_eq_true rfl) rfl rfl rfl (dq dkX11_draughtOf_0 6 rfl) ?_
  refine v_iadd F (dq dkX11_draughtOf_0 7 rfl) ?_
  refine v_iconst F (v := 1) (dq dkX11_draughtOf_0 8 rfl) ki_1 ?_
  refine v_isub F (dq dkX11_draughtOf_0 9 rfl) ?_
  refine v_aload_n F (dq dkX11_draughtOf_0 10 rfl) rfl 0 rfl ?_
  refine v_iconst F (v := 0) (dq dkX11_draughtOf_0 11 rfl) ki_0 ?_
  obtain ⟨r5, e6, h⟩ := bd_of h
  refine v_callV 1 F (q := 61) (kc1 := 0) (ks1 := 0) (as := [.int 0]) (st := [.int (((r1 + a1) + r3) - 1)]) (st1 := (.int r5 :: [.int (((r1 + a1) + r3) - 1)])) (res := (some (.int r5))) (c_X11_allWide (l := C.2.1) x y 0 e6) (xnM (by decide)) xc_61 rfl (tc41 _ (List.mem_of_getElem? (i := 0) rfl)) (tc41 _ (List.mem_of_getElem? (i := 1) rfl)) (tc41 _ (List.mem_of_getElem? (i := 2) rfl)) (tc1 _ (List.mem_of_getElem? (i := 5) rfl)) (tc41 _ (List.mem_of_getElem? (i := 3) rfl)) (by decide) rfl ⟨rfl, rfl, Nat.le_of_ble_eq_true rfl, Nat.le_of_ble_eq_true rfl⟩ ⟨Nat.le_of_ble_eq_true rfl, Nat.le_of_ble_eq_true rfl⟩ rfl (Nat.le_of_ble_eq_true rfl) rfl rfl rfl (dq dkX11_draughtOf_0 12 rfl) ?_
  obtain ⟨g7, h⟩ := gd_of h
  refine v_idiv F (dq dkX11_draughtOf_0 13 rfl) (of_decide_eq_true g7) ?_
  have h := Option.some.inj h
  subst h
  exact v_iret F E (dq dkX11_draughtOf_0 14 rfl)
def rm_X11_sinks : Room := { frames := 3, cells := 0, slots := 0, locals := 74 }
def f_X11_sinks_19 (y : MS) : Option (Bool) := some true
set_option maxRecDepth 100000 in
set_option maxHeartbeats 4000000 in
theorem t_X11_sinks_19 {C : Cx} {K : KE} {nn : Nat} {x : CS} {R : Bool}  (y : MS) (h : f_X11_sinks_19 y = some R) (F : Fx C RX11 cX11_sinks 2 rm_X11_sinks K) (E : CE C (xfM K nn x y) (some (.int (b2i R))) 0 0 (some .boolean)) : V C 19 [] [] (xfM K nn x y) 0 0 := by
  unfold f_X11_sinks_19 at h
  refine v_iconst F (v := 1) (dq dkX11_sinks_0 9 rfl) ki_1 ?_
  refine v_goto F (tgt := 24) (dq dkX11_sinks_0 10 rfl) (by decide) ?_
  have h := Option.some.inj h
  subst h
  exact v_zret F E (b2i_n true) (dq dkX11_sinks_0 12 rfl)
def f_X11_sinks (y : MS) (a1 : Int32) : Option (Bool) := if (gi y 61 45) = 0 then ((f_X11_draughtOf y a1).bind fun r2 => (f_X11_leastHigh y).bind fun r4 => if r2 ≤ r4 then (some false) else (f_X11_sinks_19 y)) else (f_X11_sinks_19 y)
set_option maxRecDepth 100000 in
set_option maxHeartbeats 4000000 in
theorem c_X11_sinks {K : KE} {l : Launch} {R : Bool} {nn : Nat} (x : CS) (y : MS) (a1 : Int32) (h : f_X11_sinks y a1 = some R) : MC K l yX11_sinks cX11_sinks 2 (some .boolean) rm_X11_sinks 0 0 [.ref (K.1 + 61), .int a1] (xfM K nn x y) (xfM K nn x y) (some (.int (b2i R))) := by
  unfold f_X11_sinks at h
  refine mc_of (ls0 := [(0, .ref (K.1 + 61)), (1, .int a1)]) (by decide) (Nat.le_of_ble_eq_true rfl) rfl (fun C hl hnm F E => ?_)
  have F : Fx C RX11 cX11_sinks 2 rm_X11_sinks K := F
  refine v_aload_n F (dq dkX11_sinks_0 0 rfl) rfl 0 rfl ?_
  refine v_get F 61 (xnM (by decide)) xc_61 rfl inlX11 45 (by decide) (tc27 _ (List.mem_of_getElem? (i := 9) rfl)) rfl rfl (dq dkX11_sinks_0 1 rfl) ?_
  refine v_if_ne F (tgt := 19) (dq dkX11_sinks_0 2 rfl) (by decide) (fun c1 => ?_) (fun c1 => ?_)
  · rw [if_neg c1] at h
    refine v_sub [] rfl ?_
    exact t_X11_sinks_19 y h F E
  · rw [if_pos c1] at h
    refine v_aload_n F (dq dkX11_sinks_0 3 rfl) rfl 0 rfl ?_
    refine v_iload_n F (dq dkX11_sinks_0 4 rfl) rfl 1 rfl ?_
    obtain ⟨r2, e3, h⟩ := bd_of h
    refine v_callV 1 F (q := 61) (kc1 := 0) (ks1 := 0) (as := [.int a1]) (st := []) (st1 := (.int r2 :: [])) (res := (some (.int r2))) (c_X11_draughtOf (l := C.2.1) x y a1 e3) (xnM (by decide)) xc_61 rfl (tc40 _ (List.mem_of_getElem? (i := 16) rfl)) (tc40 _ (List.mem_of_getElem? (i := 17) rfl)) (tc40 _ (List.mem_of_getElem? (i := 18) rfl)) (tc1 _ (List.mem_of_getElem? (i := 5) rfl)) (tc40 _ (List.mem_of_getElem? (i := 19) rfl)) (by decide) rfl ⟨rfl, rfl, Nat.le_of_ble_eq_true rfl, Nat.le_of_ble_eq_true rfl⟩ ⟨Nat.le_of_ble_eq_true rfl, Nat.le_of_ble_eq_true rfl⟩ rfl (Nat.le_of_ble_eq_true rfl) rfl rfl rfl (dq dkX11_sinks_0 5 rfl) ?_
    refine v_aload_n F (dq dkX11_sinks_0 6 rfl) rfl 0 rfl ?_
    obtain ⟨r4, e5, h⟩ := bd_of h
    refine v_callV 0 F (q := 61) (kc1 := 0) (ks1 := 0) (as := []) (st := [.int r2]) (st1 := (.int r4 :: [.int r2])) (res := (some (.int r4))) (c_X11_leastHigh (l := C.2.1) x y e5) (xnM (by decide)) xc_61 rfl (tc41 _ (List.mem_of_getElem? (i := 8) rfl)) (tc41 _ (List.mem_of_getElem? (i := 9) rfl)) (tc41 _ (List.mem_of_getElem? (i := 10) rfl)) (tc1 _ (List.mem_of_getElem? (i := 5) rfl)) (tc41 _ (List.mem_of_getElem? (i := 11) rfl)) (by decide) rfl ⟨rfl, rfl, Nat.le_of_ble_eq_true rfl, Nat.le_of_ble_eq_true rfl⟩ ⟨Nat.le_of_ble_eq_true rfl, Nat.le_of_ble_eq_true rfl⟩ rfl (Nat.le_of_ble_eq_true rfl) rfl rfl rfl (dq dkX11_sinks_0 7 rfl) ?_
    refine v_icmp_le F (tgt := 23) (dq dkX11_sinks_0 8 rfl) (by decide) (fun c6 => ?_) (fun c6 => ?_)
    · rw [if_pos c6] at h
      refine v_iconst F (v := 0) (dq dkX11_sinks_0 11 rfl) ki_0 ?_
      have h := Option.some.inj h
      subst h
      exact v_zret F E (b2i_n false) (dq dkX11_sinks_0 12 rfl)
    · rw [if_neg c6] at h
      refine v_sub [] rfl ?_
      exact t_X11_sinks_19 y h F E
def rm_X11_floats : Room := { frames := 8, cells := 0, slots := 0, locals := 192 }
def f_X11_floats_31 (y : MS) : Option (Int32 × MS) := some ((-7), y)
set_option maxRecDepth 100000 in
set_option maxHeartbeats 4000000 in
theorem t_X11_floats_31 {C : Cx} {K : KE} {nn : Nat} {x : CS} {R : Int32 × MS}  (y : MS) (h : f_X11_floats_31 y = some R) (F : Fx C RX11 cX11_floats 5 rm_X11_floats K) (E : CE C (xfM K nn x R.2) (some (.int R.1)) 0 0 (some .int)) : V C 31 [] [] (xfM K nn x y) 0 0 := by
  unfold f_X11_floats_31 at h
  refine v_bipush F (v := (-7)) (dq dkX11_floats_0 16 rfl) kb_m7 ?_
  have h := Option.some.inj h
  subst h
  exact v_iret F E (dq dkX11_floats_0 17 rfl)
def f_X11_floats (y : MS) (a1 : Int32) (a2 : Int32) (a3 : Int32) : Option (Int32 × MS) := if (b2i (f_X11_areWorks y a1)) = 0 then (some ((-5), y)) else (if (b2i (f_X11_in a2 0 9999)) = 0 then (f_X11_floats_31 y) else (if (b2i (f_X11_in a3 0 2)) = 0 then (f_X11_floats_31 y) else ((f_X11_comes y a1).bind fun r7 => (f_X11_draughtOf r7 a2).bind fun r9 => (f_X11_sinks r7 a2).bind fun r11 => if (b2i r11) = 0 then (if a3 = 0 then (some (r9, r7)) else (if a3 = 1 then ((f_X11_leastHigh r7).bind fun r19 => some (r19 - r9, r7)) else ((f_X11_allWide r7 1).bind fun r16 => gd (decide (¬ (r9 + 1) = 0)) (some (r16 / (r9 + 1), r7))))) else (some ((-1), r7)))))
set_option maxRecDepth 100000 in
set_option maxHeartbeats 4000000 in
theorem c_X11_floats {K : KE} {l : Launch} {R : Int32 × MS} {nn : Nat} (x : CS) (y : MS) (a1 : Int32) (a2 : Int32) (a3 : Int32) (h : f_X11_floats y a1 a2 a3 = some R) : MC K l yX11_floats cX11_floats 5 (some .int) rm_X11_floats 0 0 [.ref (K.1 + 61), .int a1, .int a2, .int a3] (xfM K nn x y) (xfM K nn x R.2) (some (.int R.1)) := by
  unfold f_X11_floats at h
  refine mc_of (ls0 := [(0, .ref (K.1 + 61)), (1, .int a1), (2, .int a2), (3, .int a3)]) (by decide) (Nat.le_of_ble_eq_true rfl) rfl (fun C hl hnm F E => ?_)
  have F : Fx C RX11 cX11_floats 5 rm_X11_floats K := F
  refine v_aload_n F (dq dkX11_floats_0 0 rfl) rfl 0 rfl ?_
  refine v_iload_n F (dq dkX11_floats_0 1 rfl) rfl 1 rfl ?_
  refine v_callV 1 F (q := 61) (kc1 := 0) (ks1 := 0) (as := [.int a1]) (st := []) (st1 := (.int (b2i (f_X11_areWorks y a1)) :: [])) (res := (some (.int (b2i (f_X11_areWorks y a1))))) (c_X11_areWorks (l := C.2.1) x y a1) (xnM (by decide)) xc_61 rfl (tc27 _ (List.mem_of_getElem? (i := 10) rfl)) (tc27 _ (List.mem_of_getElem? (i := 11) rfl)) (tc27 _ (List.mem_of_getElem? (i := 12) rfl)) (tc1 _ (List.mem_of_getElem? (i := 5) rfl)) (tc27 _ (List.mem_of_getElem? (i := 13) rfl)) (by decide) rfl ⟨rfl, rfl, Nat.le_of_ble_eq_true rfl, Nat.le_of_ble_eq_true rfl⟩ ⟨Nat.le_of_ble_eq_true rfl, Nat.le_of_ble_eq_true rfl⟩ rfl (Nat.le_of_ble_eq_true rfl) rfl rfl rfl (dq dkX11_floats_0 2 rfl) ?_
  refine v_if_ne F (tgt := 11) (dq dkX11_floats_0 3 rfl) (by decide) (fun c2 => ?_) (fun c2 => ?_)
  · rw [if_neg c2] at h
    refine v_iload_n F (dq dkX11_floats_0 6 rfl) rfl 2 rfl ?_
    refine v_iconst F (v := 0) (dq dkX11_floats_0 7 rfl) ki_0 ?_
    refine v_sipush F (v := 9999) (dq dkX11_floats_0 8 rfl) ks_9999 ?_
    refine v_callS 3 F (kc1 := 0) (ks1 := 0) (as := [.int a2, .int 0, .int 9999]) (st := []) (st1 := (.int (b2i (f_X11_in a2 0 9999)) :: [])) (res := (some (.int (b2i (f_X11_in a2 0 9999))))) (c_X11_in (l := C.2.1) a2 0 9999) (tc15 _ (List.mem_of_getElem? (i := 1) rfl)) (tc15 _ (List.mem_of_getElem? (i := 2) rfl)) (tc1 _ (List.mem_of_getElem? (i := 5) rfl)) (tc15 _ (List.mem_of_getElem? (i := 3) rfl)) (by decide) rfl ⟨rfl, rfl, Nat.le_of_ble_eq_true rfl, Nat.le_of_ble_eq_true rfl⟩ ⟨Nat.le_of_ble_eq_true rfl, Nat.le_of_ble_eq_true rfl⟩ rfl (Nat.le_of_ble_eq_true rfl) rfl rfl rfl (dq dkX11_floats_0 9 rfl) ?_
    refine v_if_eq F (tgt := 31) (dq dkX11_floats_0 10 rfl) (by decide) (fun c4 => ?_) (fun c4 => ?_)
    · rw [if_pos c4] at h
      refine v_sub [] rfl ?_
      exact t_X11_floats_31 y h F E
    · rw [if_neg c4] at h
      refine v_iload_n F (dq dkX11_floats_0 11 rfl) rfl 3 rfl ?_
      refine v_iconst F (v := 0) (dq dkX11_floats_0 12 rfl) ki_0 ?_
      refine v_iconst F (v := 2) (dq dkX11_floats_0 13 rfl) ki_2 ?_
      refine v_callS 3 F (kc1 := 0) (ks1 := 0) (as := [.int a3, .int 0, .int 2]) (st := []) (st1 := (.int (b2i (f_X11_in a3 0 2)) :: [])) (res := (some (.int (b2i (f_X11_in a3 0 2))))) (c_X11_in (l := C.2.1) a3 0 2) (tc15 _ (List.mem_of_getElem? (i := 1) rfl)) (tc15 _ (List.mem_of_getElem? (i := 2) rfl)) (tc1 _ (List.mem_of_getElem? (i := 5) rfl)) (tc15 _ (List.mem_of_getElem? (i := 3) rfl)) (by decide) rfl ⟨rfl, rfl, Nat.le_of_ble_eq_true rfl, Nat.le_of_ble_eq_true rfl⟩ ⟨Nat.le_of_ble_eq_true rfl, Nat.le_of_ble_eq_true rfl⟩ rfl (Nat.le_of_ble_eq_true rfl) rfl rfl rfl (dq dkX11_floats_0 14 rfl) ?_
      refine v_if_ne F (tgt := 34) (dq dkX11_floats_0 15 rfl) (by decide) (fun c6 => ?_) (fun c6 => ?_)
      · rw [if_neg c6] at h
        refine v_aload_n F (dq dkX11_floats_0 18 rfl) rfl 0 rfl ?_
        refine v_iload_n F (dq dkX11_floats_0 19 rfl) rfl 1 rfl ?_
        obtain ⟨r7, e8, h⟩ := bd_of h
        refine v_callV 1 F (q := 61) (kc1 := 0) (ks1 := 0) (as := [.int a1]) (st := []) (st1 := []) (res := none) (c_X11_comes (l := C.2.1) x y a1 e8) (xnM (by decide)) xc_61 rfl (tc27 _ (List.mem_of_getElem? (i := 14) rfl)) (tc27 _ (List.mem_of_getElem? (i := 15) rfl)) (tc27 _ (List.mem_of_getElem? (i := 16) rfl)) (tc1 _ (List.mem_of_getElem? (i := 5) rfl)) (tc27 _ (List.mem_of_getElem? (i := 17) rfl)) (by decide) rfl ⟨rfl, rfl, Nat.le_of_ble_eq_true rfl, Nat.le_of_ble_eq_true rfl⟩ ⟨Nat.le_of_ble_eq_true rfl, Nat.le_of_ble_eq_true rfl⟩ rfl (Nat.le_of_ble_eq_true rfl) rfl rfl rfl (dq dkX11_floats_0 20 rfl) ?_
        refine v_aload_n F (dq dkX11_floats_0 21 rfl) rfl 0 rfl ?_
        refine v_iload_n F (dq dkX11_floats_0 22 rfl) rfl 2 rfl ?_
        obtain ⟨r9, e10, h⟩ := bd_of h
        refine v_callV 1 F (q := 61) (kc1 := 0) (ks1 := 0) (as := [.int a2]) (st := []) (st1 := (.int r9 :: [])) (res := (some (.int r9))) (c_X11_draughtOf (l := C.2.1) x r7 a2 e10) (xnM (by decide)) xc_61 rfl (tc40 _ (List.mem_of_getElem? (i := 16) rfl)) (tc40 _ (List.mem_of_getElem? (i := 17) rfl)) (tc40 _ (List.mem_of_getElem? (i := 18) rfl)) (tc1 _ (List.mem_of_getElem? (i := 5) rfl)) (tc40 _ (List.mem_of_getElem? (i := 19) rfl)) (by decide) rfl ⟨rfl, rfl, Nat.le_of_ble_eq_true rfl, Nat.le_of_ble_eq_true rfl⟩ ⟨Nat.le_of_ble_eq_true rfl, Nat.le_of_ble_eq_true rfl⟩ rfl (Nat.le_of_ble_eq_true rfl) rfl rfl rfl (dq dkX11_floats_0 23 rfl) ?_
        refine v_istore F (ls' := [(4, .int r9), (0, .ref (K.1 + 61)), (1, .int a1), (2, .int a2), (3, .int a3)]) (dq dkX11_floats_0 24 rfl) (by decide) rfl ?_
        refine v_aload_n F (dq dkX11_floats_0 25 rfl) rfl 1 rfl ?_
        refine v_iload_n F (dq dkX11_floats_0 26 rfl) rfl 3 rfl ?_
        obtain ⟨r11, e12, h⟩ := bd_of h
        refine v_callV 1 F (q := 61) (kc1 := 0) (ks1 := 0) (as := [.int a2]) (st := []) (st1 := (.int (b2i r11) :: [])) (res := (some (.int (b2i r11)))) (c_X11_sinks (l := C.2.1) x r7 a2 e12) (xnM (by decide)) xc_61 rfl (tc41 _ (List.mem_of_getElem? (i := 4) rfl)) (tc41 _ (List.mem_of_getElem? (i := 5) rfl)) (tc41 _ (List.mem_of_getElem? (i := 6) rfl)) (tc1 _ (List.mem_of_getElem? (i := 5) rfl)) (tc41 _ (List.mem_of_getElem? (i := 7) rfl)) (by decide) rfl ⟨rfl, rfl, Nat.le_of_ble_eq_true rfl, Nat.le_of_ble_eq_true rfl⟩ ⟨Nat.le_of_ble_eq_true rfl, Nat.le_of_ble_eq_true rfl⟩ rfl (Nat.le_of_ble_eq_true rfl) rfl rfl rfl (dq dkX11_floats_0 27 rfl) ?_
        refine v_if_eq F (tgt := 58) (dq dkX11_floats_0 28 rfl) (by decide) (fun c13 => ?_) (fun c13 => ?_)
        · rw [if_pos c13] at h
          refine v_iload_n F (dq dkX11_floats_0 31 rfl) rfl 4 rfl ?_
          refine v_if_ne F (tgt := 67) (dq dkX11_floats_0 32 rfl) (by decide) (fun c14 => ?_) (fun c14 => ?_)
          · rw [if_neg c14] at h
            refine v_iload_n F (dq dkX11_floats_0 35 rfl) rfl 4 rfl ?_
            refine v_iconst F (v := 1) (dq dkX11_floats_0 36 rfl) ki_1 ?_
            refine v_icmp_ne F (tgt := 82) (dq dkX11_floats_0 37 rfl) (by decide) (fun c15 => ?_) (fun c15 => ?_)
            · rw [if_neg c15] at h
              refine v_aload_n F (dq dkX11_floats_1 3 rfl) rfl 1 rfl ?_
              refine v_iconst F (v := 1) (dq dkX11_floats_1 4 rfl) ki_1 ?_
              obtain ⟨r16, e17, h⟩ := bd_of h
              refine v_callV 1 F (q := 61) (kc1 := 0) (ks1 := 0) (as := [.int 1]) (st := []) (st1 := (.int r16 :: [])) (res := (some (.int r16))) (c_X11_allWide (l := C.2.1) x r7 1 e17) (xnM (by decide)) xc_61 rfl (tc41 _ (List.mem_of_getElem? (i := 0) rfl)) (tc41 _ (List.mem_of_getElem? (i := 1) rfl)) (tc41 _ (List.mem_of_getElem? (i := 2) rfl)) (tc1 _ (List.mem_of_getElem? (i := 5) rfl)) (tc41 _ (List.mem_of_getElem? (i := 3) rfl)) (by decide) rfl ⟨rfl, rfl, Nat.le_of_ble_eq_true rfl, Nat.le_of_ble_eq_true rfl⟩ ⟨Nat.le_of_ble_eq_true rfl, Nat.le_of_ble_eq_true rfl⟩ rfl (Nat.le_of_ble_eq_true rfl) rfl rfl rfl (dq dkX11_floats_1 5 rfl) ?_
              refine v_iload F (dq dkX11_floats_1 6 rfl) 0 rfl ?_
              refine v_iconst F (v := 1) (dq dkX11_floats_1 7 rfl) ki_1 ?_
              refine v_iadd F (dq dkX11_floats_1 8 rfl) ?_
              obtain ⟨g18, h⟩ := gd_of h
              refine v_idiv F (dq dkX11_floats_1 9 rfl) (of_decide_eq_true g18) ?_
              have h := Option.some.inj h
              subst h
              exact v_iret F E (dq dkX11_floats_1 10 rfl)
            · rw [if_pos c15] at h
              refine v_aload_n F (dq dkX11_floats_0 38 rfl) rfl 1 rfl ?_
              obtain ⟨r19, e20, h⟩ := bd_of h
              refine v_callV 0 F (q := 61) (kc1 := 0) (ks1 := 0) (as := []) (st := []) (st1 := (.int r19 :: [])) (res := (some (.int r19))) (c_X11_leastHigh (l := C.2.1) x r7 e20) (xnM (by decide)) xc_61 rfl (tc41 _ (List.mem_of_getElem? (i := 8) rfl)) (tc41 _ (List.mem_of_getElem? (i := 9) rfl)) (tc41 _ (List.mem_of_getElem? (i := 10) rfl)) (tc1 _ (List.mem_of_getElem? (i := 5) rfl)) (tc41 _ (List.mem_of_getElem? (i := 11) rfl)) (by decide) rfl ⟨rfl, rfl, Nat.le_of_ble_eq_true rfl, Nat.le_of_ble_eq_true rfl⟩ ⟨Nat.le_of_ble_eq_true rfl, Nat.le_of_ble_eq_true rfl⟩ rfl (Nat.le_of_ble_eq_true rfl) rfl rfl rfl (dq dkX11_floats_0 39 rfl) ?_
              refine v_iload F (dq dkX11_floats_1 0 rfl) 0 rfl ?_
              refine v_isub F (dq dkX11_floats_1 1 rfl) ?_
              refine v_goto F (tgt := 92) (dq dkX11_floats_1 2 rfl) (by decide) ?_
              have h := Option.some.inj h
              subst h
              exact v_iret F E (dq dkX11_floats_1 10 rfl)
          · rw [if_pos c14] at h
            refine v_iload F (dq dkX11_floats_0 33 rfl) 0 rfl ?_
            refine v_goto F (tgt := 92) (dq dkX11_floats_0 34 rfl) (by decide) ?_
            have h := Option.some.inj h
            subst h
            exact v_iret F E (dq dkX11_floats_1 10 rfl)
        · rw [if_neg c13] at h
          refine v_iconst F (v := (-1)) (dq dkX11_floats_0 29 rfl) ki_m1 ?_
          refine v_goto F (tgt := 92) (dq dkX11_floats_0 30 rfl) (by decide) ?_
          have h := Option.some.inj h
          subst h
          exact v_iret F E (dq dkX11_floats_1 10 rfl)
      · rw [if_pos c6] at h
        refine v_sub [] rfl ?_
        exact t_X11_floats_31 y h F E
  · rw [if_pos c2] at h
    refine v_bipush F (v := (-5)) (dq dkX11_floats_0 4 rfl) kb_m5 ?_
    have h := Option.some.inj h
    subst h
    exact v_iret F E (dq dkX11_floats_0 5 rfl)
def rm_X11_bears : Room := { frames := 8, cells := 0, slots := 0, locals := 192 }
def f_X11_bears_58 (y : MS) : Option (Int32 × MS) := some ((-1), y)
set_option maxRecDepth 100000 in
set_option maxHeartbeats 4000000 in
theorem t_X11_bears_58 {C : Cx} {K : KE} {nn : Nat} {x : CS} {R : Int32 × MS}  (y : MS) (h : f_X11_bears_58 y = some R) (F : Fx C RX11 cX11_bears 4 rm_X11_bears K) (E : CE C (xfM K nn x R.2) (some (.int R.1)) 0 0 (some .int)) : V C 58 [] [] (xfM K nn x y) 0 0 := by
  unfold f_X11_bears_58 at h
  refine v_iconst F (v := (-1)) (dq dkX11_bears_0 33 rfl) ki_m1 ?_
  refine v_goto F (tgt := 63) (dq dkX11_bears_0 34 rfl) (by decide) ?_
  have h := Option.some.inj h
  subst h
  exact v_iret F E (dq dkX11_bears_0 36 rfl)
def f_X11_bears (y : MS) (a1 : Int32) (a2 : Int32) : Option (Int32 × MS) := if (b2i (f_X11_areWorks y a1)) = 0 then (some ((-5), y)) else (if (b2i (f_X11_in a2 0 99)) = 0 then (some ((-7), y)) else ((f_X11_comes y a1).bind fun r5 => (f_X11_allWide r5 0).bind fun r7 => (f_X11_leastHigh r5).bind fun r9 => (f_X11_weight r5).bind fun r11 => if (gi r5 61 45) = 0 then (if 0 ≤ ((r7 * (r9 - a2)) - r11) then (some ((r7 * (r9 - a2)) - r11, r5)) else (f_X11_bears_58 r5)) else (f_X11_bears_58 r5)))
set_option maxRecDepth 100000 in
set_option maxHeartbeats 4000000 in
theorem c_X11_bears {K : KE} {l : Launch} {R : Int32 × MS} {nn : Nat} (x : CS) (y : MS) (a1 : Int32) (a2 : Int32) (h : f_X11_bears y a1 a2 = some R) : MC K l yX11_bears cX11_bears 4 (some .int) rm_X11_bears 0 0 [.ref (K.1 + 61), .int a1, .int a2] (xfM K nn x y) (xfM K nn x R.2) (some (.int R.1)) := by
  unfold f_X11_bears at h
  refine mc_of (ls0 := [(0, .ref (K.1 + 61)), (1, .int a1), (2, .int a2)]) (by decide) (Nat.le_of_ble_eq_true rfl) rfl (fun C hl hnm F E => ?_)
  have F : Fx C RX11 cX11_bears 4 rm_X11_bears K := F
  refine v_aload_n F (dq dkX11_bears_0 0 rfl) rfl 0 rfl ?_
  refine v_iload_n F (dq dkX11_bears_0 1 rfl) rfl 1 rfl ?_
  refine v_callV 1 F (q := 61) (kc1 := 0) (ks1 := 0) (as := [.int a1]) (st := []) (st1 := (.int (b2i (f_X11_areWorks y a1)) :: [])) (res := (some (.int (b2i (f_X11_areWorks y a1))))) (c_X11_areWorks (l := C.2.1) x y a1) (xnM (by decide)) xc_61 rfl (tc27 _ (List.mem_of_getElem? (i := 10) rfl)) (tc27 _ (List.mem_of_getElem? (i := 11) rfl)) (tc27 _ (List.mem_of_getElem? (i := 12) rfl)) (tc1 _ (List.mem_of_getElem? (i := 5) rfl)) (tc27 _ (List.mem_of_getElem? (i := 13) rfl)) (by decide) rfl ⟨rfl, rfl, Nat.le_of_ble_eq_true rfl, Nat.le_of_ble_eq_true rfl⟩ ⟨Nat.le_of_ble_eq_true rfl, Nat.le_of_ble_eq_true rfl⟩ rfl (Nat.le_of_ble_eq_true rfl) rfl rfl rfl (dq dkX11_bears_0 2 rfl) ?_
  refine v_if_ne F (tgt := 11) (dq dkX11_bears_0 3 rfl) (by decide) (fun c2 => ?_) (fun c2 => ?_)
  · rw [if_neg c2] at h
    refine v_iload_n F (dq dkX11_bears_0 6 rfl) rfl 2 rfl ?_
    refine v_iconst F (v := 0) (dq dkX11_bears_0 7 rfl) ki_0 ?_
    refine v_bipush F (v := 99) (dq dkX11_bears_0 8 rfl) kb_99 ?_
    refine v_callS 3 F (kc1 := 0) (ks1 := 0) (as := [.int a2, .int 0, .int 99]) (st := []) (st1 := (.int (b2i (f_X11_in a2 0 99)) :: [])) (res := (some (.int (b2i (f_X11_in a2 0 99))))) (c_X11_in (l := C.2.1) a2 0 99) (tc15 _ (List.mem_of_getElem? (i := 1) rfl)) (tc15 _ (List.mem_of_getElem? (i := 2) rfl)) (tc1 _ (List.mem_of_getElem? (i := 5) rfl)) (tc15 _ (List.mem_of_getElem? (i := 3) rfl)) (by decide) rfl ⟨rfl, rfl, Nat.le_of_ble_eq_true rfl, Nat.le_of_ble_eq_true rfl⟩ ⟨Nat.le_of_ble_eq_true rfl, Nat.le_of_ble_eq_true rfl⟩ rfl (Nat.le_of_ble_eq_true rfl) rfl rfl rfl (dq dkX11_bears_0 9 rfl) ?_
    refine v_if_ne F (tgt := 24) (dq dkX11_bears_0 10 rfl) (by decide) (fun c4 => ?_) (fun c4 => ?_)
    · rw [if_neg c4] at h
      refine v_aload_n F (dq dkX11_bears_0 13 rfl) rfl 0 rfl ?_
      refine v_iload_n F (dq dkX11_bears_0 14 rfl) rfl 1 rfl ?_
      obtain ⟨r5, e6, h⟩ := bd_of h
      refine v_callV 1 F (q := 61) (kc1 := 0) (ks1 := 0) (as := [.int a1]) (st := []) (st1 := []) (res := none) (c_X11_comes (l := C.2.1) x y a1 e6) (xnM (by decide)) xc_61 rfl (tc27 _ (List.mem_of_getElem? (i := 14) rfl)) (tc27 _ (List.mem_of_getElem? (i := 15) rfl)) (tc27 _ (List.mem_of_getElem? (i := 16) rfl)) (tc1 _ (List.mem_of_getElem? (i := 5) rfl)) (tc27 _ (List.mem_of_getElem? (i := 17) rfl)) (by decide) rfl ⟨rfl, rfl, Nat.le_of_ble_eq_true rfl, Nat.le_of_ble_eq_true rfl⟩ ⟨Nat.le_of_ble_eq_true rfl, Nat.le_of_ble_eq_true rfl⟩ rfl (Nat.le_of_ble_eq_true rfl) rfl rfl rfl (dq dkX11_bears_0 15 rfl) ?_
      refine v_aload_n F (dq dkX11_bears_0 16 rfl) rfl 0 rfl ?_
      refine v_iconst F (v := 0) (dq dkX11_bears_0 17 rfl) ki_0 ?_
      obtain ⟨r7, e8, h⟩ := bd_of h
      refine v_callV 1 F (q := 61) (kc1 := 0) (ks1 := 0) (as := [.int 0]) (st := []) (st1 := (.int r7 :: [])) (res := (some (.int r7))) (c_X11_allWide (l := C.2.1) x r5 0 e8) (xnM (by decide)) xc_61 rfl (tc41 _ (List.mem_of_getElem? (i := 0) rfl)) (tc41 _ (List.mem_of_getElem? (i := 1) rfl)) (tc41 _ (List.mem_of_getElem? (i := 2) rfl)) (tc1 _ (List.mem_of_getElem? (i := 5) rfl)) (tc41 _ (List.mem_of_getElem? (i := 3) rfl)) (by decide) rfl ⟨rfl, rfl, Nat.le_of_ble_eq_true rfl, Nat.le_of_ble_eq_true rfl⟩ ⟨Nat.le_of_ble_eq_true rfl, Nat.le_of_ble_eq_true rfl⟩ rfl (Nat.le_of_ble_eq_true rfl) rfl rfl rfl (dq dkX11_bears_0 18 rfl) ?_
      refine v_aload_n F (dq dkX11_bears_0 19 rfl) rfl 0 rfl ?_
      obtain ⟨r9, e10, h⟩ := bd_of h
      refine v_callV 0 F (q := 61) (kc1 := 0) (ks1 := 0) (as := []) (st := [.int r7]) (st1 := (.int r9 :: [.int r7])) (res := (some (.int r9))) (c_X11_leastHigh (l := C.2.1) x r5 e10) (xnM (by decide)) xc_61 rfl (tc41 _ (List.mem_of_getElem? (i := 8) rfl)) (tc41 _ (List.mem_of_getElem? (i := 9) rfl)) (tc41 _ (List.mem_of_getElem? (i := 10) rfl)) (tc1 _ (List.mem_of_getElem? (i := 5) rfl)) (tc41 _ (List.mem_of_getElem? (i := 11) rfl)) (by decide) rfl ⟨rfl, rfl, Nat.le_of_ble_eq_true rfl, Nat.le_of_ble_eq_true rfl⟩ ⟨Nat.le_of_ble_eq_true rfl, Nat.le_of_ble_eq_true rfl⟩ rfl (Nat.le_of_ble_eq_true rfl) rfl rfl rfl (dq dkX11_bears_0 20 rfl) ?_
      refine v_iload_n F (dq dkX11_bears_0 21 rfl) rfl 2 rfl ?_
      refine v_isub F (dq dkX11_bears_0 22 rfl) ?_
      refine v_imul F (dq dkX11_bears_0 23 rfl) ?_
      refine v_aload_n F (dq dkX11_bears_0 24 rfl) rfl 0 rfl ?_
      obtain ⟨r11, e12, h⟩ := bd_of h
      refine v_callV 0 F (q := 61) (kc1 := 0) (ks1 := 0) (as := []) (st := [.int (r7 * (r9 - a2))]) (st1 := (.int r11 :: [.int (r7 * (r9 - a2))])) (res := (some (.int r11))) (c_X11_weight (l := C.2.1) x r5 e12) (xnM (by decide)) xc_61 rfl (tc40 _ (List.mem_of_getElem? (i := 20) rfl)) (tc40 _ (List.mem_of_getElem? (i := 21) rfl)) (tc40 _ (List.mem_of_getElem? (i := 22) rfl)) (tc1 _ (List.mem_of_getElem? (i := 5) rfl)) (tc40 _ (List.mem_of_getElem? (i := 23) rfl)) (by decide) rfl ⟨rfl, rfl, Nat.le_of_ble_eq_true rfl, Nat.le_of_ble_eq_true rfl⟩ ⟨Nat.le_of_ble_eq_true rfl, Nat.le_of_ble_eq_true rfl⟩ rfl (Nat.le_of_ble_eq_true rfl) rfl rfl rfl (dq dkX11_bears_0 25 rfl) ?_
      refine v_isub F (dq dkX11_bears_0 26 rfl) ?_
      refine v_istore_n F (ls' := [(3, .int ((r7 * (r9 - a2)) - r11)), (0, .ref (K.1 + 61)), (1, .int a1), (2, .int a2)]) (dq dkX11_bears_0 27 rfl) rfl (by decide) rfl ?_
      refine v_aload_n F (dq dkX11_bears_0 28 rfl) rfl 1 rfl ?_
      refine v_get F 61 (xnM (by decide)) xc_61 rfl inlX11 45 (by decide) (tc27 _ (List.mem_of_getElem? (i := 9) rfl)) rfl rfl (dq dkX11_bears_0 29 rfl) ?_
      refine v_if_ne F (tgt := 58) (dq dkX11_bears_0 30 rfl) (by decide) (fun c13 => ?_) (fun c13 => ?_)
      · rw [if_neg c13] at h
        refine v_sub [] rfl ?_
        exact t_X11_bears_58 r5 h F E
      · rw [if_pos c13] at h
        refine v_iload_n F (dq dkX11_bears_0 31 rfl) rfl 0 rfl ?_
        refine v_if_ge F (tgt := 62) (dq dkX11_bears_0 32 rfl) (by decide) (fun c14 => ?_) (fun c14 => ?_)
        · rw [if_pos c14] at h
          refine v_iload_n F (dq dkX11_bears_0 35 rfl) rfl 0 rfl ?_
          have h := Option.some.inj h
          subst h
          exact v_iret F E (dq dkX11_bears_0 36 rfl)
        · rw [if_neg c14] at h
          refine v_sub [] rfl ?_
          exact t_X11_bears_58 r5 h F E
    · rw [if_pos c4] at h
      refine v_bipush F (v := (-7)) (dq dkX11_bears_0 11 rfl) kb_m7 ?_
      have h := Option.some.inj h
      subst h
      exact v_iret F E (dq dkX11_bears_0 12 rfl)
  · rw [if_pos c2] at h
    refine v_bipush F (v := (-5)) (dq dkX11_bears_0 4 rfl) kb_m5 ?_
    have h := Option.some.inj h
    subst h
    exact v_iret F E (dq dkX11_bears_0 5 rfl)
def rm_X11_bar : Room := { frames := 8, cells := 0, slots := 0, locals := 192 }
def f_X11_bar_33 (y : MS) : Option (Int32 × MS) := some ((-7), y)
set_option maxRecDepth 100000 in
set_option maxHeartbeats 4000000 in
theorem t_X11_bar_33 {C : Cx} {K : KE} {nn : Nat} {x : CS} {R : Int32 × MS}  (y : MS) (h : f_X11_bar_33 y = some R) (F : Fx C RX11 cX11_bar 5 rm_X11_bar K) (E : CE C (xfM K nn x R.2) (some (.int R.1)) 0 0 (some .int)) : V C 33 [] [] (xfM K nn x y) 0 0 := by
  unfold f_X11_bar_33 at h
  refine v_bipush F (v := (-7)) (dq dkX11_bar_0 16 rfl) kb_m7 ?_
  have h := Option.some.inj h
  subst h
  exact v_iret F E (dq dkX11_bar_0 17 rfl)
def f_X11_bar_99 (y : MS) : Option (Int32 × MS) := some (0, y)
set_option maxRecDepth 100000 in
set_option maxHeartbeats 4000000 in
theorem t_X11_bar_99 {C : Cx} {K : KE} {nn : Nat} {x : CS} {R : Int32 × MS}  (y : MS) (h : f_X11_bar_99 y = some R) (F : Fx C RX11 cX11_bar 5 rm_X11_bar K) (E : CE C (xfM K nn x R.2) (some (.int R.1)) 0 0 (some .int)) : V C 99 [] [] (xfM K nn x y) 0 0 := by
  unfold f_X11_bar_99 at h
  refine v_iconst F (v := 0) (dq dkX11_bar_1 13 rfl) ki_0 ?_
  have h := Option.some.inj h
  subst h
  exact v_iret F E (dq dkX11_bar_1 14 rfl)
def f_X11_bar_73 (y : MS) (a2 : Int32) (a3 : Int32) (s0 : Int32) : Option (Int32 × MS) := (f_X11_sinks y a2).bind fun r1 => if (b2i r1) = 0 then ((f_X11_draughtOf y a2).bind fun r4 => if (s0 - r4) < a3 then (f_X11_bar_99 y) else (some (1, y))) else (f_X11_bar_99 y)
set_option maxRecDepth 100000 in
set_option maxHeartbeats 4000000 in
theorem t_X11_bar_73 {C : Cx} {K : KE} {nn : Nat} {x : CS} {R : Int32 × MS}  (y : MS) (a2 : Int32) (a3 : Int32) (s0 : Int32) (h : f_X11_bar_73 y a2 a3 s0 = some R) (F : Fx C RX11 cX11_bar 5 rm_X11_bar K) (E : CE C (xfM K nn x R.2) (some (.int R.1)) 0 0 (some .int)) : V C 73 [(0, .ref (K.1 + 61)), (2, .int a2), (3, .int a3)] [.int s0] (xfM K nn x y) 0 0 := by
  unfold f_X11_bar_73 at h
  refine v_istore F (ls' := [(4, .int s0), (0, .ref (K.1 + 61)), (2, .int a2), (3, .int a3)]) (dq dkX11_bar_0 39 rfl) (by decide) rfl ?_
  refine v_aload_n F (dq dkX11_bar_1 0 rfl) rfl 1 rfl ?_
  refine v_iload_n F (dq dkX11_bar_1 1 rfl) rfl 2 rfl ?_
  obtain ⟨r1, e2, h⟩ := bd_of h
  refine v_callV 1 F (q := 61) (kc1 := 0) (ks1 := 0) (as := [.int a2]) (st := []) (st1 := (.int (b2i r1) :: [])) (res := (some (.int (b2i r1)))) (c_X11_sinks (l := C.2.1) x y a2 e2) (xnM (by decide)) xc_61 rfl (tc41 _ (List.mem_of_getElem? (i := 4) rfl)) (tc41 _ (List.mem_of_getElem? (i := 5) rfl)) (tc41 _ (List.mem_of_getElem? (i := 6) rfl)) (tc1 _ (List.mem_of_getElem? (i := 5) rfl)) (tc41 _ (List.mem_of_getElem? (i := 7) rfl)) (by decide) rfl ⟨rfl, rfl, Nat.le_of_ble_eq_true rfl, Nat.le_of_ble_eq_true rfl⟩ ⟨Nat.le_of_ble_eq_true rfl, Nat.le_of_ble_eq_true rfl⟩ rfl (Nat.le_of_ble_eq_true rfl) rfl rfl rfl (dq dkX11_bar_1 2 rfl) ?_
  refine v_if_ne F (tgt := 99) (dq dkX11_bar_1 3 rfl) (by decide) (fun c3 => ?_) (fun c3 => ?_)
  · rw [if_neg c3] at h
    refine v_sub [] rfl ?_
    exact t_X11_bar_99 y h F E
  · rw [if_pos c3] at h
    refine v_iload F (dq dkX11_bar_1 4 rfl) 0 rfl ?_
    refine v_aload_n F (dq dkX11_bar_1 5 rfl) rfl 1 rfl ?_
    refine v_iload_n F (dq dkX11_bar_1 6 rfl) rfl 2 rfl ?_
    obtain ⟨r4, e5, h⟩ := bd_of h
    refine v_callV 1 F (q := 61) (kc1 := 0) (ks1 := 0) (as := [.int a2]) (st := [.int s0]) (st1 := (.int r4 :: [.int s0])) (res := (some (.int r4))) (c_X11_draughtOf (l := C.2.1) x y a2 e5) (xnM (by decide)) xc_61 rfl (tc40 _ (List.mem_of_getElem? (i := 16) rfl)) (tc40 _ (List.mem_of_getElem? (i := 17) rfl)) (tc40 _ (List.mem_of_getElem? (i := 18) rfl)) (tc1 _ (List.mem_of_getElem? (i := 5) rfl)) (tc40 _ (List.mem_of_getElem? (i := 19) rfl)) (by decide) rfl ⟨rfl, rfl, Nat.le_of_ble_eq_true rfl, Nat.le_of_ble_eq_true rfl⟩ ⟨Nat.le_of_ble_eq_true rfl, Nat.le_of_ble_eq_true rfl⟩ rfl (Nat.le_of_ble_eq_true rfl) rfl rfl rfl (dq dkX11_bar_1 7 rfl) ?_
    refine v_isub F (dq dkX11_bar_1 8 rfl) ?_
    refine v_iload_n F (dq dkX11_bar_1 9 rfl) rfl 3 rfl ?_
    refine v_icmp_lt F (tgt := 99) (dq dkX11_bar_1 10 rfl) (by decide) (fun c6 => ?_) (fun c6 => ?_)
    · rw [if_pos c6] at h
      refine v_sub [] rfl ?_
      exact t_X11_bar_99 y h F E
    · rw [if_neg c6] at h
      refine v_iconst F (v := 1) (dq dkX11_bar_1 11 rfl) ki_1 ?_
      refine v_goto F (tgt := 100) (dq dkX11_bar_1 12 rfl) (by decide) ?_
      have h := Option.some.inj h
      subst h
      exact v_iret F E (dq dkX11_bar_1 14 rfl)
def f_X11_bar (y : MS) (a1 : Int32) (a2 : Int32) (a3 : Int32) : Option (Int32 × MS) := if (b2i (f_X11_areWorks y a1)) = 0 then (some ((-5), y)) else (if (b2i (f_X11_in a2 0 9999)) = 0 then (f_X11_bar_33 y) else (if (b2i (f_X11_in a3 0 999)) = 0 then (f_X11_bar_33 y) else ((f_X11_comes y a1).bind fun r13 => if (gi r13 86 (8 : Int32).toNatClampNeg) ≤ (gi r13 86 (0 : Int32).toNatClampNeg) then (f_X11_bar_73 r13 a2 a3 (gi r13 86 (8 : Int32).toNatClampNeg)) else (f_X11_bar_73 r13 a2 a3 (gi r13 86 (0 : Int32).toNatClampNeg)))))
set_option maxRecDepth 100000 in
set_option maxHeartbeats 4000000 in
theorem c_X11_bar {K : KE} {l : Launch} {R : Int32 × MS} {nn : Nat} (x : CS) (y : MS) (a1 : Int32) (a2 : Int32) (a3 : Int32) (h : f_X11_bar y a1 a2 a3 = some R) : MC K l yX11_bar cX11_bar 5 (some .int) rm_X11_bar 0 0 [.ref (K.1 + 61), .int a1, .int a2, .int a3] (xfM K nn x y) (xfM K nn x R.2) (some (.int R.1)) := by
  unfold f_X11_bar at h
  refine mc_of (ls0 := [(0, .ref (K.1 + 61)), (1, .int a1), (2, .int a2), (3, .int a3)]) (by decide) (Nat.le_of_ble_eq_true rfl) rfl (fun C hl hnm F E => ?_)
  have F : Fx C RX11 cX11_bar 5 rm_X11_bar K := F
  refine v_aload_n F (dq dkX11_bar_0 0 rfl) rfl 0 rfl ?_
  refine v_iload_n F (dq dkX11_bar_0 1 rfl) rfl 1 rfl ?_
  refine v_callV 1 F (q := 61) (kc1 := 0) (ks1 := 0) (as := [.int a1]) (st := []) (st1 := (.int (b2i (f_X11_areWorks y a1)) :: [])) (res := (some (.int (b2i (f_X11_areWorks y a1))))) (c_X11_areWorks (l := C.2.1) x y a1) (xnM (by decide)) xc_61 rfl (tc27 _ (List.mem_of_getElem? (i := 10) rfl)) (tc27 _ (List.mem_of_getElem? (i := 11) rfl)) (tc27 _ (List.mem_of_getElem? (i := 12) rfl)) (tc1 _ (List.mem_of_getElem? (i := 5) rfl)) (tc27 _ (List.mem_of_getElem? (i := 13) rfl)) (by decide) rfl ⟨rfl, rfl, Nat.le_of_ble_eq_true rfl, Nat.le_of_ble_eq_true rfl⟩ ⟨Nat.le_of_ble_eq_true rfl, Nat.le_of_ble_eq_true rfl⟩ rfl (Nat.le_of_ble_eq_true rfl) rfl rfl rfl (dq dkX11_bar_0 2 rfl) ?_
  refine v_if_ne F (tgt := 11) (dq dkX11_bar_0 3 rfl) (by decide) (fun c8 => ?_) (fun c8 => ?_)
  · rw [if_neg c8] at h
    refine v_iload_n F (dq dkX11_bar_0 6 rfl) rfl 2 rfl ?_
    refine v_iconst F (v := 0) (dq dkX11_bar_0 7 rfl) ki_0 ?_
    refine v_sipush F (v := 9999) (dq dkX11_bar_0 8 rfl) ks_9999 ?_
    refine v_callS 3 F (kc1 := 0) (ks1 := 0) (as := [.int a2, .int 0, .int 9999]) (st := []) (st1 := (.int (b2i (f_X11_in a2 0 9999)) :: [])) (res := (some (.int (b2i (f_X11_in a2 0 9999))))) (c_X11_in (l := C.2.1) a2 0 9999) (tc15 _ (List.mem_of_getElem? (i := 1) rfl)) (tc15 _ (List.mem_of_getElem? (i := 2) rfl)) (tc1 _ (List.mem_of_getElem? (i := 5) rfl)) (tc15 _ (List.mem_of_getElem? (i := 3) rfl)) (by decide) rfl ⟨rfl, rfl, Nat.le_of_ble_eq_true rfl, Nat.le_of_ble_eq_true rfl⟩ ⟨Nat.le_of_ble_eq_true rfl, Nat.le_of_ble_eq_true rfl⟩ rfl (Nat.le_of_ble_eq_true rfl) rfl rfl rfl (dq dkX11_bar_0 9 rfl) ?_
    refine v_if_eq F (tgt := 33) (dq dkX11_bar_0 10 rfl) (by decide) (fun c10 => ?_) (fun c10 => ?_)
    · rw [if_pos c10] at h
      refine v_sub [] rfl ?_
      exact t_X11_bar_33 y h F E
    · rw [if_neg c10] at h
      refine v_iload_n F (dq dkX11_bar_0 11 rfl) rfl 3 rfl ?_
      refine v_iconst F (v := 0) (dq dkX11_bar_0 12 rfl) ki_0 ?_
      refine v_sipush F (v := 999) (dq dkX11_bar_0 13 rfl) ks_999 ?_
      refine v_callS 3 F (kc1 := 0) (ks1 := 0) (as := [.int a3, .int 0, .int 999]) (st := []) (st1 := (.int (b2i (f_X11_in a3 0 999)) :: [])) (res := (some (.int (b2i (f_X11_in a3 0 999))))) (c_X11_in (l := C.2.1) a3 0 999) (tc15 _ (List.mem_of_getElem? (i := 1) rfl)) (tc15 _ (List.mem_of_getElem? (i := 2) rfl)) (tc1 _ (List.mem_of_getElem? (i := 5) rfl)) (tc15 _ (List.mem_of_getElem? (i := 3) rfl)) (by decide) rfl ⟨rfl, rfl, Nat.le_of_ble_eq_true rfl, Nat.le_of_ble_eq_true rfl⟩ ⟨Nat.le_of_ble_eq_true rfl, Nat.le_of_ble_eq_true rfl⟩ rfl (Nat.le_of_ble_eq_true rfl) rfl rfl rfl (dq dkX11_bar_0 14 rfl) ?_
      refine v_if_ne F (tgt := 36) (dq dkX11_bar_0 15 rfl) (by decide) (fun c12 => ?_) (fun c12 => ?_)
      · rw [if_neg c12] at h
        refine v_aload_n F (dq dkX11_bar_0 18 rfl) rfl 0 rfl ?_
        refine v_iload_n F (dq dkX11_bar_0 19 rfl) rfl 1 rfl ?_
        obtain ⟨r13, e14, h⟩ := bd_of h
        refine v_callV 1 F (q := 61) (kc1 := 0) (ks1 := 0) (as := [.int a1]) (st := []) (st1 := []) (res := none) (c_X11_comes (l := C.2.1) x y a1 e14) (xnM (by decide)) xc_61 rfl (tc27 _ (List.mem_of_getElem? (i := 14) rfl)) (tc27 _ (List.mem_of_getElem? (i := 15) rfl)) (tc27 _ (List.mem_of_getElem? (i := 16) rfl)) (tc1 _ (List.mem_of_getElem? (i := 5) rfl)) (tc27 _ (List.mem_of_getElem? (i := 17) rfl)) (by decide) rfl ⟨rfl, rfl, Nat.le_of_ble_eq_true rfl, Nat.le_of_ble_eq_true rfl⟩ ⟨Nat.le_of_ble_eq_true rfl, Nat.le_of_ble_eq_true rfl⟩ rfl (Nat.le_of_ble_eq_true rfl) rfl rfl rfl (dq dkX11_bar_0 20 rfl) ?_
        refine v_aload_n F (dq dkX11_bar_0 21 rfl) rfl 0 rfl ?_
        refine v_get F 61 (xnM (by decide)) xc_61 rfl inlX11 44 (by decide) (tc13 _ (List.mem_of_getElem? (i := 10) rfl)) rfl rfl (dq dkX11_bar_0 22 rfl) ?_
        refine v_iconst F (v := 0) (dq dkX11_bar_0 23 rfl) ki_0 ?_
        refine v_iald F 86 (xnM (by decide)) xc_86 (ib_in (by decide)) (dq dkX11_bar_0 24 rfl) ?_
        refine v_aload_n F (dq dkX11_bar_0 25 rfl) rfl 0 rfl ?_
        refine v_get F 61 (xnM (by decide)) xc_61 rfl inlX11 44 (by decide) (tc13 _ (List.mem_of_getElem? (i := 10) rfl)) rfl rfl (dq dkX11_bar_0 26 rfl) ?_
        refine v_bipush F (v := 8) (dq dkX11_bar_0 27 rfl) kb_8 ?_
        refine v_iald F 86 (xnM (by decide)) xc_86 (ib_in (by decide)) (dq dkX11_bar_0 28 rfl) ?_
        refine v_icmp_ge F (tgt := 66) (dq dkX11_bar_0 29 rfl) (by decide) (fun c15 => ?_) (fun c15 => ?_)
        · rw [if_pos c15] at h
          refine v_aload_n F (dq dkX11_bar_0 35 rfl) rfl 0 rfl ?_
          refine v_get F 61 (xnM (by decide)) xc_61 rfl inlX11 44 (by decide) (tc13 _ (List.mem_of_getElem? (i := 10) rfl)) rfl rfl (dq dkX11_bar_0 36 rfl) ?_
          refine v_bipush F (v := 8) (dq dkX11_bar_0 37 rfl) kb_8 ?_
          refine v_iald F 86 (xnM (by decide)) xc_86 (ib_in (by decide)) (dq dkX11_bar_0 38 rfl) ?_
          refine v_sub [0, 2, 3] rfl ?_
          exact t_X11_bar_73 r13 a2 a3 (gi r13 86 (8 : Int32).toNatClampNeg) h F E
        · rw [if_neg c15] at h
          refine v_aload_n F (dq dkX11_bar_0 30 rfl) rfl 0 rfl ?_
          refine v_get F 61 (xnM (by decide)) xc_61 rfl inlX11 44 (by decide) (tc13 _ (List.mem_of_getElem? (i := 10) rfl)) rfl rfl (dq dkX11_bar_0 31 rfl) ?_
          refine v_iconst F (v := 0) (dq dkX11_bar_0 32 rfl) ki_0 ?_
          refine v_iald F 86 (xnM (by decide)) xc_86 (ib_in (by decide)) (dq dkX11_bar_0 33 rfl) ?_
          refine v_goto F (tgt := 73) (dq dkX11_bar_0 34 rfl) (by decide) ?_
          refine v_sub [0, 2, 3] rfl ?_
          exact t_X11_bar_73 r13 a2 a3 (gi r13 86 (0 : Int32).toNatClampNeg) h F E
      · rw [if_pos c12] at h
        refine v_sub [] rfl ?_
        exact t_X11_bar_33 y h F E
  · rw [if_pos c8] at h
    refine v_bipush F (v := (-5)) (dq dkX11_bar_0 4 rfl) kb_m5 ?_
    have h := Option.some.inj h
    subst h
    exact v_iret F E (dq dkX11_bar_0 5 rfl)
def rm_X11_isTree : Room := { frames := 2, cells := 0, slots := 0, locals := 52 }
def f_X11_isTree (y : MS) (a1 : Int32) : Bool := (f_X11_in a1 0 ((gi y 61 10) - 1))
set_option maxRecDepth 100000 in
set_option maxHeartbeats 4000000 in
theorem c_X11_isTree {K : KE} {l : Launch} {nn : Nat} (x : CS) (y : MS) (a1 : Int32) : MC K l yX11_isTree cX11_isTree 2 (some .boolean) rm_X11_isTree 0 0 [.ref (K.1 + 61), .int a1] (xfM K nn x y) (xfM K nn x y) (some (.int (b2i (f_X11_isTree y a1)))) := by
  obtain ⟨R, h⟩ : ∃ R, f_X11_isTree y a1 = R := ⟨_, rfl⟩
  rw [h]
  unfold f_X11_isTree at h
  refine mc_of (ls0 := [(0, .ref (K.1 + 61)), (1, .int a1)]) (by decide) (Nat.le_of_ble_eq_true rfl) rfl (fun C hl hnm F E => ?_)
  have F : Fx C RX11 cX11_isTree 2 rm_X11_isTree K := F
  refine v_iload_n F (dq dkX11_isTree_0 0 rfl) rfl 1 rfl ?_
  refine v_iconst F (v := 0) (dq dkX11_isTree_0 1 rfl) ki_0 ?_
  refine v_aload_n F (dq dkX11_isTree_0 2 rfl) rfl 0 rfl ?_
  refine v_get F 61 (xnM (by decide)) xc_61 rfl inlX11 10 (by decide) (tc16 _ (List.mem_of_getElem? (i := 17) rfl)) rfl rfl (dq dkX11_isTree_0 3 rfl) ?_
  refine v_iconst F (v := 1) (dq dkX11_isTree_0 4 rfl) ki_1 ?_
  refine v_isub F (dq dkX11_isTree_0 5 rfl) ?_
  refine v_callS 3 F (kc1 := 0) (ks1 := 0) (as := [.int a1, .int 0, .int ((gi y 61 10) - 1)]) (st := []) (st1 := (.int (b2i (f_X11_in a1 0 ((gi y 61 10) - 1))) :: [])) (res := (some (.int (b2i (f_X11_in a1 0 ((gi y 61 10) - 1)))))) (c_X11_in (l := C.2.1) a1 0 ((gi y 61 10) - 1)) (tc15 _ (List.mem_of_getElem? (i := 1) rfl)) (tc15 _ (List.mem_of_getElem? (i := 2) rfl)) (tc1 _ (List.mem_of_getElem? (i := 5) rfl)) (tc15 _ (List.mem_of_getElem? (i := 3) rfl)) (by decide) rfl ⟨rfl, rfl, Nat.le_of_ble_eq_true rfl, Nat.le_of_ble_eq_true rfl⟩ ⟨Nat.le_of_ble_eq_true rfl, Nat.le_of_ble_eq_true rfl⟩ rfl (Nat.le_of_ble_eq_true rfl) rfl rfl rfl (dq dkX11_isTree_0 6 rfl) ?_
  subst h
  exact v_zret F E (b2i_n (f_X11_in a1 0 ((gi y 61 10) - 1))) (dq dkX11_isTree_0 7 rfl)
def rm_X11_tree : Room := { frames := 2, cells := 0, slots := 0, locals := 52 }
def f_X11_tree_41 (y : MS) : Option (Int32 × MS) := some ((-2), y)
set_option maxRecDepth 100000 in
set_option maxHeartbeats 4000000 in
theorem t_X11_tree_41 {C : Cx} {K : KE} {nn : Nat} {x : CS} {R : Int32 × MS}  (y : MS) (h : f_X11_tree_41 y = some R) (F : Fx C RX11 cX11_tree 8 rm_X11_tree K) (E : CE C (xfM K nn x R.2) (some (.int R.1)) 0 0 (some .int)) : V C 41 [] [] (xfM K nn x y) 0 0 := by
  unfold f_X11_tree_41 at h
  refine v_bipush F (v := (-2)) (dq dkX11_tree_0 20 rfl) kb_m2 ?_
  have h := Option.some.inj h
  subst h
  exact v_iret F E (dq dkX11_tree_0 21 rfl)
def f_X11_tree_157 (y : MS) : Option (Int32 × MS) := some ((-2), y)
set_option maxRecDepth 100000 in
set_option maxHeartbeats 4000000 in
theorem t_X11_tree_157 {C : Cx} {K : KE} {nn : Nat} {x : CS} {R : Int32 × MS}  (y : MS) (h : f_X11_tree_157 y = some R) (F : Fx C RX11 cX11_tree 8 rm_X11_tree K) (E : CE C (xfM K nn x R.2) (some (.int R.1)) 0 0 (some .int)) : V C 157 [] [] (xfM K nn x y) 0 0 := by
  unfold f_X11_tree_157 at h
  refine v_bipush F (v := (-2)) (dq dkX11_tree_2 2 rfl) kb_m2 ?_
  have h := Option.some.inj h
  subst h
  exact v_iret F E (dq dkX11_tree_2 3 rfl)
def f_X11_tree_205 : Nat → MS → Int32 → Int32 → Option (Int32 × MS)
  | 0, _, _, _ => none
  | n + 1, y, a4, a7 => if 5 ≤ a7 then (gd (ib (gi y 61 10) 6) (some ((gi (pi (pi y 70 ((gi y 61 10).toNatClampNeg) (-1)) 61 10 ((gi (pi y 70 ((gi y 61 10).toNatClampNeg) (-1)) 61 10) + 1)) 61 10) - 1, pi (pi y 70 ((gi y 61 10).toNatClampNeg) (-1)) 61 10 ((gi (pi y 70 ((gi y 61 10).toNatClampNeg) (-1)) 61 10) + 1)))) else (gd (ib ((40 * a4) + a7) 160) (gd (ib ((5 * (gi y 61 10)) + a7) 30) ((f_X11_tree_205 n) (pi y 69 (((5 * (gi y 61 10)) + a7).toNatClampNeg) (gi y 79 ((40 * a4) + a7).toNatClampNeg)) a4 (a7 + 1))))
set_option maxRecDepth 100000 in
set_option maxHeartbeats 4000000 in
theorem t_X11_tree_205 {C : Cx} {K : KE} {nn : Nat} {x : CS} {R : Int32 × MS}  (F : Fx C RX11 cX11_tree 8 rm_X11_tree K) (E : CE C (xfM K nn x R.2) (some (.int R.1)) 0 0 (some .int)) : ∀ (n : Nat) (y : MS) (a4 : Int32) (a7 : Int32) (h : f_X11_tree_205 n y a4 a7 = some R), V C 205 [(0, .ref (K.1 + 61)), (4, .int a4), (7, .int a7)] [] (xfM K nn x y) 0 0 := by
  intro n
  induction n with
  | zero => intro y a4 a7 h; cases h
  | succ n ih =>
    intro y a4 a7 h
    rw [f_X11_tree_205] at h
    refine v_iload F (dq dkX11_tree_2 30 rfl) 2 rfl ?_
    refine v_iconst F (v := 5) (dq dkX11_tree_2 31 rfl) ki_5 ?_
    refine v_icmp_ge F (tgt := 244) (dq dkX11_tree_2 32 rfl) (by decide) (fun c1 => ?_) (fun c1 => ?_)
    · rw [if_pos c1] at h
      refine v_aload_n F (dq dkX11_tree_3 12 rfl) rfl 0 rfl ?_
      refine v_get F 61 (xnM (by decide)) xc_61 rfl inlX11 15 (by decide) (tc12 _ (List.mem_of_getElem? (i := 4) rfl)) rfl rfl (dq dkX11_tree_3 13 rfl) ?_
      refine v_aload_n F (dq dkX11_tree_3 14 rfl) rfl 0 rfl ?_
      refine v_get F 61 (xnM (by decide)) xc_61 rfl inlX11 10 (by decide) (tc16 _ (List.mem_of_getElem? (i := 17) rfl)) rfl rfl (dq dkX11_tree_3 15 rfl) ?_
      refine v_iconst F (v := (-1)) (dq dkX11_tree_3 16 rfl) ki_m1 ?_
      obtain ⟨g2, h⟩ := gd_of h
      refine v_iast F 70 (xnM (by decide)) xc_70 (ib_in g2) (dq dkX11_tree_3 17 rfl) ?_
      refine v_eqM (xwM (q := 70) (j := (gi y 61 10).toNatClampNeg) (v := (-1)) (by decide) (by decide) rfl) ?_
      refine v_aload_n F (dq dkX11_tree_3 18 rfl) rfl 0 rfl ?_
      refine v_dup F (dq dkX11_tree_3 19 rfl) rfl ?_
      refine v_get F 61 (xnM (by decide)) xc_61 rfl inlX11 10 (by decide) (tc16 _ (List.mem_of_getElem? (i := 17) rfl)) rfl rfl (dq dkX11_tree_3 20 rfl) ?_
      refine v_iconst F (v := 1) (dq dkX11_tree_3 21 rfl) ki_1 ?_
      refine v_iadd F (dq dkX11_tree_3 22 rfl) ?_
      refine v_put F 61 (xnM (by decide)) xc_61 rfl inlX11 tyX11_ok nmX11 10 (by decide) (tc16 _ (List.mem_of_getElem? (i := 17) rfl)) rfl rfl (tyX11_ok 10 (by decide)) rfl rfl (Nat.le_of_ble_eq_true rfl) (dq dkX11_tree_3 23 rfl) ?_
      refine v_eqM (xwM (q := 61) (j := 10) (v := (gi (pi y 70 ((gi y 61 10).toNatClampNeg) (-1)) 61 10) + 1) (by decide) (by decide) rfl) ?_
      refine v_aload_n F (dq dkX11_tree_3 24 rfl) rfl 0 rfl ?_
      refine v_get F 61 (xnM (by decide)) xc_61 rfl inlX11 10 (by decide) (tc16 _ (List.mem_of_getElem? (i := 17) rfl)) rfl rfl (dq dkX11_tree_3 25 rfl) ?_
      refine v_iconst F (v := 1) (dq dkX11_tree_3 26 rfl) ki_1 ?_
      refine v_isub F (dq dkX11_tree_3 27 rfl) ?_
      have h := Option.some.inj h
      subst h
      exact v_iret F E (dq dkX11_tree_3 28 rfl)
    · rw [if_neg c1] at h
      refine v_aload_n F (dq dkX11_tree_2 33 rfl) rfl 0 rfl ?_
      refine v_get F 61 (xnM (by decide)) xc_61 rfl inlX11 14 (by decide) (tc12 _ (List.mem_of_getElem? (i := 3) rfl)) rfl rfl (dq dkX11_tree_2 34 rfl) ?_
      refine v_iconst F (v := 5) (dq dkX11_tree_2 35 rfl) ki_5 ?_
      refine v_aload_n F (dq dkX11_tree_2 36 rfl) rfl 0 rfl ?_
      refine v_get F 61 (xnM (by decide)) xc_61 rfl inlX11 10 (by decide) (tc16 _ (List.mem_of_getElem? (i := 17) rfl)) rfl rfl (dq dkX11_tree_2 37 rfl) ?_
      refine v_imul F (dq dkX11_tree_2 38 rfl) ?_
      refine v_iload F (dq dkX11_tree_2 39 rfl) 2 rfl ?_
      refine v_iadd F (dq dkX11_tree_3 0 rfl) ?_
      refine v_aload_n F (dq dkX11_tree_3 1 rfl) rfl 0 rfl ?_
      refine v_get F 61 (xnM (by decide)) xc_61 rfl inlX11 30 (by decide) (tc12 _ (List.mem_of_getElem? (i := 14) rfl)) rfl rfl (dq dkX11_tree_3 2 rfl) ?_
      refine v_bipush F (v := 40) (dq dkX11_tree_3 3 rfl) kb_40 ?_
      refine v_iload F (dq dkX11_tree_3 4 rfl) 1 rfl ?_
      refine v_imul F (dq dkX11_tree_3 5 rfl) ?_
      refine v_iload F (dq dkX11_tree_3 6 rfl) 2 rfl ?_
      refine v_iadd F (dq dkX11_tree_3 7 rfl) ?_
      obtain ⟨g3, h⟩ := gd_of h
      refine v_iald F 79 (xnM (by decide)) xc_79 (ib_in g3) (dq dkX11_tree_3 8 rfl) ?_
      obtain ⟨g4, h⟩ := gd_of h
      refine v_iast F 69 (xnM (by decide)) xc_69 (ib_in g4) (dq dkX11_tree_3 9 rfl) ?_
      refine v_eqM (xwM (q := 69) (j := ((5 * (gi y 61 10)) + a7).toNatClampNeg) (v := gi y 79 ((40 * a4) + a7).toNatClampNeg) (by decide) (by decide) rfl) ?_
      refine v_iinc F (v := a7 + 1) (ls' := [(7, .int (a7 + 1)), (0, .ref (K.1 + 61)), (4, .int a4)]) (dq dkX11_tree_3 10 rfl) (j := 2) rfl (kv_add ki_1) (by decide) rfl ?_
      refine v_goto F (tgt := 205) (dq dkX11_tree_3 11 rfl) (by decide) ?_
      refine v_sub [1, 2, 0] rfl ?_
      exact ih (pi y 69 (((5 * (gi y 61 10)) + a7).toNatClampNeg) (gi y 79 ((40 * a4) + a7).toNatClampNeg)) a4 (a7 + 1) h
def f_X11_tree_147 (y : MS) (a1 : Int32) (a2 : Int32) (a3 : Int32) (a4 : Int32) (a5 : Int32) (a6 : Int32) : Option (Int32 × MS) := if a5 = 0 then (f_X11_tree_157 y) else (if a6 = 0 then (f_X11_tree_157 y) else (if (gi y 61 10) = 6 then (some ((-4), y)) else (gd (ib (gi y 61 10) 6) (gd (ib (gi (pi y 66 ((gi y 61 10).toNatClampNeg) a1) 61 10) 6) (gd (ib (gi (pi (pi y 66 ((gi y 61 10).toNatClampNeg) a1) 67 ((gi (pi y 66 ((gi y 61 10).toNatClampNeg) a1) 61 10).toNatClampNeg) a2) 61 10) 6) (f_X11_tree_205 1000 (pi (pi (pi y 66 ((gi y 61 10).toNatClampNeg) a1) 67 ((gi (pi y 66 ((gi y 61 10).toNatClampNeg) a1) 61 10).toNatClampNeg) a2) 68 ((gi (pi (pi y 66 ((gi y 61 10).toNatClampNeg) a1) 67 ((gi (pi y 66 ((gi y 61 10).toNatClampNeg) a1) 61 10).toNatClampNeg) a2) 61 10).toNatClampNeg) a3) a4 0))))))
set_option maxRecDepth 100000 in
set_option maxHeartbeats 4000000 in
theorem t_X11_tree_147 {C : Cx} {K : KE} {nn : Nat} {x : CS} {R : Int32 × MS}  (y : MS) (a1 : Int32) (a2 : Int32) (a3 : Int32) (a4 : Int32) (a5 : Int32) (a6 : Int32) (h : f_X11_tree_147 y a1 a2 a3 a4 a5 a6 = some R) (F : Fx C RX11 cX11_tree 8 rm_X11_tree K) (E : CE C (xfM K nn x R.2) (some (.int R.1)) 0 0 (some .int)) : V C 147 [(0, .ref (K.1 + 61)), (1, .int a1), (2, .int a2), (3, .int a3), (4, .int a4), (5, .int a5), (6, .int a6)] [] (xfM K nn x y) 0 0 := by
  unfold f_X11_tree_147 at h
  refine v_iload F (dq dkX11_tree_1 38 rfl) 5 rfl ?_
  refine v_if_eq F (tgt := 157) (dq dkX11_tree_1 39 rfl) (by decide) (fun c5 => ?_) (fun c5 => ?_)
  · rw [if_pos c5] at h
    refine v_sub [] rfl ?_
    exact t_X11_tree_157 y h F E
  · rw [if_neg c5] at h
    refine v_iload F (dq dkX11_tree_2 0 rfl) 6 rfl ?_
    refine v_if_ne F (tgt := 160) (dq dkX11_tree_2 1 rfl) (by decide) (fun c6 => ?_) (fun c6 => ?_)
    · rw [if_neg c6] at h
      refine v_aload_n F (dq dkX11_tree_2 4 rfl) rfl 0 rfl ?_
      refine v_get F 61 (xnM (by decide)) xc_61 rfl inlX11 10 (by decide) (tc16 _ (List.mem_of_getElem? (i := 17) rfl)) rfl rfl (dq dkX11_tree_2 5 rfl) ?_
      refine v_bipush F (v := 6) (dq dkX11_tree_2 6 rfl) kb_6 ?_
      refine v_icmp_ne F (tgt := 172) (dq dkX11_tree_2 7 rfl) (by decide) (fun c7 => ?_) (fun c7 => ?_)
      · rw [if_neg c7] at h
        refine v_aload_n F (dq dkX11_tree_2 10 rfl) rfl 0 rfl ?_
        refine v_get F 61 (xnM (by decide)) xc_61 rfl inlX11 11 (by decide) (tc12 _ (List.mem_of_getElem? (i := 0) rfl)) rfl rfl (dq dkX11_tree_2 11 rfl) ?_
        refine v_aload_n F (dq dkX11_tree_2 12 rfl) rfl 0 rfl ?_
        refine v_get F 61 (xnM (by decide)) xc_61 rfl inlX11 10 (by decide) (tc16 _ (List.mem_of_getElem? (i := 17) rfl)) rfl rfl (dq dkX11_tree_2 13 rfl) ?_
        refine v_iload_n F (dq dkX11_tree_2 14 rfl) rfl 1 rfl ?_
        obtain ⟨g8, h⟩ := gd_of h
        refine v_iast F 66 (xnM (by decide)) xc_66 (ib_in g8) (dq dkX11_tree_2 15 rfl) ?_
        refine v_eqM (xwM (q := 66) (j := (gi y 61 10).toNatClampNeg) (v := a1) (by decide) (by decide) rfl) ?_
        refine v_aload_n F (dq dkX11_tree_2 16 rfl) rfl 0 rfl ?_
        refine v_get F 61 (xnM (by decide)) xc_61 rfl inlX11 12 (by decide) (tc12 _ (List.mem_of_getElem? (i := 1) rfl)) rfl rfl (dq dkX11_tree_2 17 rfl) ?_
        refine v_aload_n F (dq dkX11_tree_2 18 rfl) rfl 0 rfl ?_
        refine v_get F 61 (xnM (by decide)) xc_61 rfl inlX11 10 (by decide) (tc16 _ (List.mem_of_getElem? (i := 17) rfl)) rfl rfl (dq dkX11_tree_2 19 rfl) ?_
        refine v_iload_n F (dq dkX11_tree_2 20 rfl) rfl 2 rfl ?_
        obtain ⟨g9, h⟩ := gd_of h
        refine v_iast F 67 (xnM (by decide)) xc_67 (ib_in g9) (dq dkX11_tree_2 21 rfl) ?_
        refine v_eqM (xwM (q := 67) (j := (gi (pi y 66 ((gi y 61 10).toNatClampNeg) a1) 61 10).toNatClampNeg) (v := a2) (by decide) (by decide) rfl) ?_
        refine v_aload_n F (dq dkX11_tree_2 22 rfl) rfl 0 rfl ?_
        refine v_get F 61 (xnM (by decide)) xc_61 rfl inlX11 13 (by decide) (tc12 _ (List.mem_of_getElem? (i := 2) rfl)) rfl rfl (dq dkX11_tree_2 23 rfl) ?_
        refine v_aload_n F (dq dkX11_tree_2 24 rfl) rfl 0 rfl ?_
        refine v_get F 61 (xnM (by decide)) xc_61 rfl inlX11 10 (by decide) (tc16 _ (List.mem_of_getElem? (i := 17) rfl)) rfl rfl (dq dkX11_tree_2 25 rfl) ?_
        refine v_iload_n F (dq dkX11_tree_2 26 rfl) rfl 3 rfl ?_
        obtain ⟨g10, h⟩ := gd_of h
        refine v_iast F 68 (xnM (by decide)) xc_68 (ib_in g10) (dq dkX11_tree_2 27 rfl) ?_
        refine v_eqM (xwM (q := 68) (j := (gi (pi (pi y 66 ((gi y 61 10).toNatClampNeg) a1) 67 ((gi (pi y 66 ((gi y 61 10).toNatClampNeg) a1) 61 10).toNatClampNeg) a2) 61 10).toNatClampNeg) (v := a3) (by decide) (by decide) rfl) ?_
        refine v_iconst F (v := 0) (dq dkX11_tree_2 28 rfl) ki_0 ?_
        refine v_istore F (ls' := [(7, .int 0), (0, .ref (K.1 + 61)), (1, .int a1), (2, .int a2), (3, .int a3), (4, .int a4), (5, .int a5), (6, .int a6)]) (dq dkX11_tree_2 29 rfl) (by decide) rfl ?_
        refine v_sub [1, 5, 0] rfl ?_
        exact t_X11_tree_205 F E 1000 (pi (pi (pi y 66 ((gi y 61 10).toNatClampNeg) a1) 67 ((gi (pi y 66 ((gi y 61 10).toNatClampNeg) a1) 61 10).toNatClampNeg) a2) 68 ((gi (pi (pi y 66 ((gi y 61 10).toNatClampNeg) a1) 67 ((gi (pi y 66 ((gi y 61 10).toNatClampNeg) a1) 61 10).toNatClampNeg) a2) 61 10).toNatClampNeg) a3) a4 0 h
      · rw [if_pos c7] at h
        refine v_bipush F (v := (-4)) (dq dkX11_tree_2 8 rfl) kb_m4 ?_
        have h := Option.some.inj h
        subst h
        exact v_iret F E (dq dkX11_tree_2 9 rfl)
    · rw [if_pos c6] at h
      refine v_sub [] rfl ?_
      exact t_X11_tree_157 y h F E
def f_X11_tree_138 (k82 : MS → Int32 → Int32 → Int32 → Int32 → Int32 → Int32 → Int32 → Option (Int32 × MS)) (y : MS) (a1 : Int32) (a2 : Int32) (a3 : Int32) (a4 : Int32) (a5 : Int32) (a7 : Int32) (s0 : Int32) (s1 : Int32) : Option (Int32 × MS) := k82 y a1 a2 a3 a4 a5 (s1 + s0) (a7 + 1)
set_option maxRecDepth 100000 in
set_option maxHeartbeats 4000000 in
theorem t_X11_tree_138 {C : Cx} {K : KE} {nn : Nat} {x : CS} {R : Int32 × MS}  (k82 : MS → Int32 → Int32 → Int32 → Int32 → Int32 → Int32 → Int32 → Option (Int32 × MS)) (y : MS) (a1 : Int32) (a2 : Int32) (a3 : Int32) (a4 : Int32) (a5 : Int32) (a7 : Int32) (s0 : Int32) (s1 : Int32) (hk82 : ∀ (y : MS) (a1 : Int32) (a2 : Int32) (a3 : Int32) (a4 : Int32) (a5 : Int32) (a6 : Int32) (a7 : Int32), k82 y a1 a2 a3 a4 a5 a6 a7 = some R → V C 82 [(0, .ref (K.1 + 61)), (1, .int a1), (2, .int a2), (3, .int a3), (4, .int a4), (5, .int a5), (6, .int a6), (7, .int a7)] [] (xfM K nn x y) 0 0) (h : f_X11_tree_138 k82 y a1 a2 a3 a4 a5 a7 s0 s1 = some R) (F : Fx C RX11 cX11_tree 8 rm_X11_tree K) (E : CE C (xfM K nn x R.2) (some (.int R.1)) 0 0 (some .int)) : V C 138 [(0, .ref (K.1 + 61)), (1, .int a1), (2, .int a2), (3, .int a3), (4, .int a4), (5, .int a5), (7, .int a7)] [.int s0, .int s1] (xfM K nn x y) 0 0 := by
  unfold f_X11_tree_138 at h
  refine v_iadd F (dq dkX11_tree_1 34 rfl) ?_
  refine v_istore F (ls' := [(6, .int (s1 + s0)), (0, .ref (K.1 + 61)), (1, .int a1), (2, .int a2), (3, .int a3), (4, .int a4), (5, .int a5), (7, .int a7)]) (dq dkX11_tree_1 35 rfl) (by decide) rfl ?_
  refine v_iinc F (v := a7 + 1) (ls' := [(7, .int (a7 + 1)), (6, .int (s1 + s0)), (0, .ref (K.1 + 61)), (1, .int a1), (2, .int a2), (3, .int a3), (4, .int a4), (5, .int a5)]) (dq dkX11_tree_1 36 rfl) (j := 7) rfl (kv_add ki_1) (by decide) rfl ?_
  refine v_goto F (tgt := 82) (dq dkX11_tree_1 37 rfl) (by decide) ?_
  refine v_sub [2, 3, 4, 5, 6, 7, 1, 0] rfl ?_
  exact hk82 y a1 a2 a3 a4 a5 (s1 + s0) (a7 + 1) h
def f_X11_tree_82 : Nat → MS → Int32 → Int32 → Int32 → Int32 → Int32 → Int32 → Int32 → Option (Int32 × MS)
  | 0, _, _, _, _, _, _, _, _ => none
  | n + 1, y, a1, a2, a3, a4, a5, a6, a7 => if 5 ≤ a7 then (f_X11_tree_147 y a1 a2 a3 a4 a5 a6) else (if a5 = 0 then (f_X11_tree_147 y a1 a2 a3 a4 a5 a6) else (gd (ib ((40 * a4) + a7) 160) (if (b2i (f_X11_in (gi y 79 ((40 * a4) + a7).toNatClampNeg) 0 99)) = 0 then (f_X11_tree_138 (f_X11_tree_82 n) y a1 a2 a3 a4 (b2i (f_X11_in (gi y 79 ((40 * a4) + a7).toNatClampNeg) 0 99)) a7 0 a6) else (gd (ib ((40 * a4) + a7) 160) (f_X11_tree_138 (f_X11_tree_82 n) y a1 a2 a3 a4 (b2i (f_X11_in (gi y 79 ((40 * a4) + a7).toNatClampNeg) 0 99)) a7 (gi y 79 ((40 * a4) + a7).toNatClampNeg) a6)))))
set_option maxRecDepth 100000 in
set_option maxHeartbeats 4000000 in
theorem t_X11_tree_82 {C : Cx} {K : KE} {nn : Nat} {x : CS} {R : Int32 × MS}  (F : Fx C RX11 cX11_tree 8 rm_X11_tree K) (E : CE C (xfM K nn x R.2) (some (.int R.1)) 0 0 (some .int)) : ∀ (n : Nat) (y : MS) (a1 : Int32) (a2 : Int32) (a3 : Int32) (a4 : Int32) (a5 : Int32) (a6 : Int32) (a7 : Int32) (h : f_X11_tree_82 n y a1 a2 a3 a4 a5 a6 a7 = some R), V C 82 [(0, .ref (K.1 + 61)), (1, .int a1), (2, .int a2), (3, .int a3), (4, .int a4), (5, .int a5), (6, .int a6), (7, .int a7)] [] (xfM K nn x y) 0 0 := by
  intro n
  induction n with
  | zero => intro y a1 a2 a3 a4 a5 a6 a7 h; cases h
  | succ n ih =>
    intro y a1 a2 a3 a4 a5 a6 a7 h
    rw [f_X11_tree_82] at h
    refine v_iload F (dq dkX11_tree_1 4 rfl) 7 rfl ?_
    refine v_iconst F (v := 5) (dq dkX11_tree_1 5 rfl) ki_5 ?_
    refine v_icmp_ge F (tgt := 147) (dq dkX11_tree_1 6 rfl) (by decide) (fun c11 => ?_) (fun c11 => ?_)
    · rw [if_pos c11] at h
      refine v_sub [0, 1, 2, 3, 4, 5, 6] rfl ?_
      exact t_X11_tree_147 y a1 a2 a3 a4 a5 a6 h F E
    · rw [if_neg c11] at h
      refine v_iload F (dq dkX11_tree_1 7 rfl) 5 rfl ?_
      refine v_if_eq F (tgt := 147) (dq dkX11_tree_1 8 rfl) (by decide) (fun c12 => ?_) (fun c12 => ?_)
      · rw [if_pos c12] at h
        refine v_sub [0, 1, 2, 3, 4, 5, 6] rfl ?_
        exact t_X11_tree_147 y a1 a2 a3 a4 a5 a6 h F E
      · rw [if_neg c12] at h
        refine v_aload_n F (dq dkX11_tree_1 9 rfl) rfl 0 rfl ?_
        refine v_get F 61 (xnM (by decide)) xc_61 rfl inlX11 30 (by decide) (tc12 _ (List.mem_of_getElem? (i := 14) rfl)) rfl rfl (dq dkX11_tree_1 10 rfl) ?_
        refine v_bipush F (v := 40) (dq dkX11_tree_1 11 rfl) kb_40 ?_
        refine v_iload F (dq dkX11_tree_1 12 rfl) 4 rfl ?_
        refine v_imul F (dq dkX11_tree_1 13 rfl) ?_
        refine v_iload F (dq dkX11_tree_1 14 rfl) 7 rfl ?_
        refine v_iadd F (dq dkX11_tree_1 15 rfl) ?_
        obtain ⟨g13, h⟩ := gd_of h
        refine v_iald F 79 (xnM (by decide)) xc_79 (ib_in g13) (dq dkX11_tree_1 16 rfl) ?_
        refine v_iconst F (v := 0) (dq dkX11_tree_1 17 rfl) ki_0 ?_
        refine v_bipush F (v := 99) (dq dkX11_tree_1 18 rfl) kb_99 ?_
        refine v_callS 3 F (kc1 := 0) (ks1 := 0) (as := [.int (gi y 79 ((40 * a4) + a7).toNatClampNeg), .int 0, .int 99]) (st := []) (st1 := (.int (b2i (f_X11_in (gi y 79 ((40 * a4) + a7).toNatClampNeg) 0 99)) :: [])) (res := (some (.int (b2i (f_X11_in (gi y 79 ((40 * a4) + a7).toNatClampNeg) 0 99))))) (c_X11_in (l := C.2.1) (gi y 79 ((40 * a4) + a7).toNatClampNeg) 0 99) (tc15 _ (List.mem_of_getElem? (i := 1) rfl)) (tc15 _ (List.mem_of_getElem? (i := 2) rfl)) (tc1 _ (List.mem_of_getElem? (i := 5) rfl)) (tc15 _ (List.mem_of_getElem? (i := 3) rfl)) (by decide) rfl ⟨rfl, rfl, Nat.le_of_ble_eq_true rfl, Nat.le_of_ble_eq_true rfl⟩ ⟨Nat.le_of_ble_eq_true rfl, Nat.le_of_ble_eq_true rfl⟩ rfl (Nat.le_of_ble_eq_true rfl) rfl rfl rfl (dq dkX11_tree_1 19 rfl) ?_
        refine v_istore F (ls' := [(5, .int (b2i (f_X11_in (gi y 79 ((40 * a4) + a7).toNatClampNeg) 0 99))), (0, .ref (K.1 + 61)), (1, .int a1), (2, .int a2), (3, .int a3), (4, .int a4), (6, .int a6), (7, .int a7)]) (dq dkX11_tree_1 20 rfl) (by decide) rfl ?_
        refine v_iload F (dq dkX11_tree_1 21 rfl) 6 rfl ?_
        refine v_iload F (dq dkX11_tree_1 22 rfl) 0 rfl ?_
        refine v_if_eq F (tgt := 137) (dq dkX11_tree_1 23 rfl) (by decide) (fun c15 => ?_) (fun c15 => ?_)
        · rw [if_pos c15] at h
          refine v_iconst F (v := 0) (dq dkX11_tree_1 33 rfl) ki_0 ?_
          refine v_sub [1, 2, 3, 4, 5, 0, 7] rfl ?_
          exact t_X11_tree_138 (f_X11_tree_82 n) y a1 a2 a3 a4 (b2i (f_X11_in (gi y 79 ((40 * a4) + a7).toNatClampNeg) 0 99)) a7 0 a6 ih h F E
        · rw [if_neg c15] at h
          refine v_aload_n F (dq dkX11_tree_1 24 rfl) rfl 1 rfl ?_
          refine v_get F 61 (xnM (by decide)) xc_61 rfl inlX11 30 (by decide) (tc12 _ (List.mem_of_getElem? (i := 14) rfl)) rfl rfl (dq dkX11_tree_1 25 rfl) ?_
          refine v_bipush F (v := 40) (dq dkX11_tree_1 26 rfl) kb_40 ?_
          refine v_iload F (dq dkX11_tree_1 27 rfl) 5 rfl ?_
          refine v_imul F (dq dkX11_tree_1 28 rfl) ?_
          refine v_iload F (dq dkX11_tree_1 29 rfl) 7 rfl ?_
          refine v_iadd F (dq dkX11_tree_1 30 rfl) ?_
          obtain ⟨g16, h⟩ := gd_of h
          refine v_iald F 79 (xnM (by decide)) xc_79 (ib_in g16) (dq dkX11_tree_1 31 rfl) ?_
          refine v_goto F (tgt := 138) (dq dkX11_tree_1 32 rfl) (by decide) ?_
          refine v_sub [1, 2, 3, 4, 5, 0, 7] rfl ?_
          exact t_X11_tree_138 (f_X11_tree_82 n) y a1 a2 a3 a4 (b2i (f_X11_in (gi y 79 ((40 * a4) + a7).toNatClampNeg) 0 99)) a7 (gi y 79 ((40 * a4) + a7).toNatClampNeg) a6 ih h F E
def f_X11_tree_74 (y : MS) (a1 : Int32) (a2 : Int32) (a3 : Int32) (a4 : Int32) (s0 : Int32) : Option (Int32 × MS) := f_X11_tree_82 1000 y a1 a2 a3 a4 s0 0 0
set_option maxRecDepth 100000 in
set_option maxHeartbeats 4000000 in
theorem t_X11_tree_74 {C : Cx} {K : KE} {nn : Nat} {x : CS} {R : Int32 × MS}  (y : MS) (a1 : Int32) (a2 : Int32) (a3 : Int32) (a4 : Int32) (s0 : Int32) (h : f_X11_tree_74 y a1 a2 a3 a4 s0 = some R) (F : Fx C RX11 cX11_tree 8 rm_X11_tree K) (E : CE C (xfM K nn x R.2) (some (.int R.1)) 0 0 (some .int)) : V C 74 [(0, .ref (K.1 + 61)), (1, .int a1), (2, .int a2), (3, .int a3), (4, .int a4)] [.int s0] (xfM K nn x y) 0 0 := by
  unfold f_X11_tree_74 at h
  refine v_istore F (ls' := [(5, .int s0), (0, .ref (K.1 + 61)), (1, .int a1), (2, .int a2), (3, .int a3), (4, .int a4)]) (dq dkX11_tree_0 39 rfl) (by decide) rfl ?_
  refine v_iconst F (v := 0) (dq dkX11_tree_1 0 rfl) ki_0 ?_
  refine v_istore F (ls' := [(6, .int 0), (5, .int s0), (0, .ref (K.1 + 61)), (1, .int a1), (2, .int a2), (3, .int a3), (4, .int a4)]) (dq dkX11_tree_1 1 rfl) (by decide) rfl ?_
  refine v_iconst F (v := 0) (dq dkX11_tree_1 2 rfl) ki_0 ?_
  refine v_istore F (ls' := [(7, .int 0), (6, .int 0), (5, .int s0), (0, .ref (K.1 + 61)), (1, .int a1), (2, .int a2), (3, .int a3), (4, .int a4)]) (dq dkX11_tree_1 3 rfl) (by decide) rfl ?_
  refine v_sub [3, 4, 5, 6, 7, 2, 1, 0] rfl ?_
  exact t_X11_tree_82 F E 1000 y a1 a2 a3 a4 s0 0 0 h
def f_X11_tree (y : MS) (a1 : Int32) (a2 : Int32) (a3 : Int32) (a4 : Int32) : Option (Int32 × MS) := if (b2i (f_X11_in a1 1 99)) = 0 then (f_X11_tree_41 y) else (if (b2i (f_X11_in a2 (-9) 9)) = 0 then (f_X11_tree_41 y) else (if (b2i (f_X11_in a3 0 9)) = 0 then (f_X11_tree_41 y) else (if (b2i (f_X11_in a4 0 3)) = 0 then (f_X11_tree_41 y) else (gd (ib a4 4) (if (gi y 77 a4.toNatClampNeg) = (-1) then (some ((-11), y)) else (gd (ib a4 4) (if (gi y 78 a4.toNatClampNeg) = 5 then (f_X11_tree_74 y a1 a2 a3 a4 1) else (f_X11_tree_74 y a1 a2 a3 a4 0))))))))
set_option maxRecDepth 100000 in
set_option maxHeartbeats 4000000 in
theorem c_X11_tree {K : KE} {l : Launch} {R : Int32 × MS} {nn : Nat} (x : CS) (y : MS) (a1 : Int32) (a2 : Int32) (a3 : Int32) (a4 : Int32) (h : f_X11_tree y a1 a2 a3 a4 = some R) : MC K l yX11_tree cX11_tree 8 (some .int) rm_X11_tree 0 0 [.ref (K.1 + 61), .int a1, .int a2, .int a3, .int a4] (xfM K nn x y) (xfM K nn x R.2) (some (.int R.1)) := by
  unfold f_X11_tree at h
  refine mc_of (ls0 := [(0, .ref (K.1 + 61)), (1, .int a1), (2, .int a2), (3, .int a3), (4, .int a4)]) (by decide) (Nat.le_of_ble_eq_true rfl) rfl (fun C hl hnm F E => ?_)
  have F : Fx C RX11 cX11_tree 8 rm_X11_tree K := F
  refine v_iload_n F (dq dkX11_tree_0 0 rfl) rfl 1 rfl ?_
  refine v_iconst F (v := 1) (dq dkX11_tree_0 1 rfl) ki_1 ?_
  refine v_bipush F (v := 99) (dq dkX11_tree_0 2 rfl) kb_99 ?_
  refine v_callS 3 F (kc1 := 0) (ks1 := 0) (as := [.int a1, .int 1, .int 99]) (st := []) (st1 := (.int (b2i (f_X11_in a1 1 99)) :: [])) (res := (some (.int (b2i (f_X11_in a1 1 99))))) (c_X11_in (l := C.2.1) a1 1 99) (tc15 _ (List.mem_of_getElem? (i := 1) rfl)) (tc15 _ (List.mem_of_getElem? (i := 2) rfl)) (tc1 _ (List.mem_of_getElem? (i := 5) rfl)) (tc15 _ (List.mem_of_getElem? (i := 3) rfl)) (by decide) rfl ⟨rfl, rfl, Nat.le_of_ble_eq_true rfl, Nat.le_of_ble_eq_true rfl⟩ ⟨Nat.le_of_ble_eq_true rfl, Nat.le_of_ble_eq_true rfl⟩ rfl (Nat.le_of_ble_eq_true rfl) rfl rfl rfl (dq dkX11_tree_0 3 rfl) ?_
  refine v_if_eq F (tgt := 41) (dq dkX11_tree_0 4 rfl) (by decide) (fun c18 => ?_) (fun c18 => ?_)
  · rw [if_pos c18] at h
    refine v_sub [] rfl ?_
    exact t_X11_tree_41 y h F E
  · rw [if_neg c18] at h
    refine v_iload_n F (dq dkX11_tree_0 5 rfl) rfl 2 rfl ?_
    refine v_bipush F (v := (-9)) (dq dkX11_tree_0 6 rfl) kb_m9 ?_
    refine v_bipush F (v := 9) (dq dkX11_tree_0 7 rfl) kb_9 ?_
    refine v_callS 3 F (kc1 := 0) (ks1 := 0) (as := [.int a2, .int (-9), .int 9]) (st := []) (st1 := (.int (b2i (f_X11_in a2 (-9) 9)) :: [])) (res := (some (.int (b2i (f_X11_in a2 (-9) 9))))) (c_X11_in (l := C.2.1) a2 (-9) 9) (tc15 _ (List.mem_of_getElem? (i := 1) rfl)) (tc15 _ (List.mem_of_getElem? (i := 2) rfl)) (tc1 _ (List.mem_of_getElem? (i := 5) rfl)) (tc15 _ (List.mem_of_getElem? (i := 3) rfl)) (by decide) rfl ⟨rfl, rfl, Nat.le_of_ble_eq_true rfl, Nat.le_of_ble_eq_true rfl⟩ ⟨Nat.le_of_ble_eq_true rfl, Nat.le_of_ble_eq_true rfl⟩ rfl (Nat.le_of_ble_eq_true rfl) rfl rfl rfl (dq dkX11_tree_0 8 rfl) ?_
    refine v_if_eq F (tgt := 41) (dq dkX11_tree_0 9 rfl) (by decide) (fun c20 => ?_) (fun c20 => ?_)
    · rw [if_pos c20] at h
      refine v_sub [] rfl ?_
      exact t_X11_tree_41 y h F E
    · rw [if_neg c20] at h
      refine v_iload_n F (dq dkX11_tree_0 10 rfl) rfl 3 rfl ?_
      refine v_iconst F (v := 0) (dq dkX11_tree_0 11 rfl) ki_0 ?_
      refine v_bipush F (v := 9) (dq dkX11_tree_0 12 rfl) kb_9 ?_
      refine v_callS 3 F (kc1 := 0) (ks1 := 0) (as := [.int a3, .int 0, .int 9]) (st := []) (st1 := (.int (b2i (f_X11_in a3 0 9)) :: [])) (res := (some (.int (b2i (f_X11_in a3 0 9))))) (c_X11_in (l := C.2.1) a3 0 9) (tc15 _ (List.mem_of_getElem? (i := 1) rfl)) (tc15 _ (List.mem_of_getElem? (i := 2) rfl)) (tc1 _ (List.mem_of_getElem? (i := 5) rfl)) (tc15 _ (List.mem_of_getElem? (i := 3) rfl)) (by decide) rfl ⟨rfl, rfl, Nat.le_of_ble_eq_true rfl, Nat.le_of_ble_eq_true rfl⟩ ⟨Nat.le_of_ble_eq_true rfl, Nat.le_of_ble_eq_true rfl⟩ rfl (Nat.le_of_ble_eq_true rfl) rfl rfl rfl (dq dkX11_tree_0 13 rfl) ?_
      refine v_if_eq F (tgt := 41) (dq dkX11_tree_0 14 rfl) (by decide) (fun c22 => ?_) (fun c22 => ?_)
      · rw [if_pos c22] at h
        refine v_sub [] rfl ?_
        exact t_X11_tree_41 y h F E
      · rw [if_neg c22] at h
        refine v_iload F (dq dkX11_tree_0 15 rfl) 4 rfl ?_
        refine v_iconst F (v := 0) (dq dkX11_tree_0 16 rfl) ki_0 ?_
        refine v_iconst F (v := 3) (dq dkX11_tree_0 17 rfl) ki_3 ?_
        refine v_callS 3 F (kc1 := 0) (ks1 := 0) (as := [.int a4, .int 0, .int 3]) (st := []) (st1 := (.int (b2i (f_X11_in a4 0 3)) :: [])) (res := (some (.int (b2i (f_X11_in a4 0 3))))) (c_X11_in (l := C.2.1) a4 0 3) (tc15 _ (List.mem_of_getElem? (i := 1) rfl)) (tc15 _ (List.mem_of_getElem? (i := 2) rfl)) (tc1 _ (List.mem_of_getElem? (i := 5) rfl)) (tc15 _ (List.mem_of_getElem? (i := 3) rfl)) (by decide) rfl ⟨rfl, rfl, Nat.le_of_ble_eq_true rfl, Nat.le_of_ble_eq_true rfl⟩ ⟨Nat.le_of_ble_eq_true rfl, Nat.le_of_ble_eq_true rfl⟩ rfl (Nat.le_of_ble_eq_true rfl) rfl rfl rfl (dq dkX11_tree_0 18 rfl) ?_
        refine v_if_ne F (tgt := 44) (dq dkX11_tree_0 19 rfl) (by decide) (fun c24 => ?_) (fun c24 => ?_)
        · rw [if_neg c24] at h
          refine v_aload_n F (dq dkX11_tree_0 22 rfl) rfl 0 rfl ?_
          refine v_get F 61 (xnM (by decide)) xc_61 rfl inlX11 28 (by decide) (tc12 _ (List.mem_of_getElem? (i := 12) rfl)) rfl rfl (dq dkX11_tree_0 23 rfl) ?_
          refine v_iload F (dq dkX11_tree_0 24 rfl) 4 rfl ?_
          obtain ⟨g25, h⟩ := gd_of h
          refine v_iald F 77 (xnM (by decide)) xc_77 (ib_in g25) (dq dkX11_tree_0 25 rfl) ?_
          refine v_iconst F (v := (-1)) (dq dkX11_tree_0 26 rfl) ki_m1 ?_
          refine v_icmp_ne F (tgt := 58) (dq dkX11_tree_0 27 rfl) (by decide) (fun c26 => ?_) (fun c26 => ?_)
          · rw [if_neg c26] at h
            refine v_aload_n F (dq dkX11_tree_0 30 rfl) rfl 0 rfl ?_
            refine v_get F 61 (xnM (by decide)) xc_61 rfl inlX11 29 (by decide) (tc12 _ (List.mem_of_getElem? (i := 13) rfl)) rfl rfl (dq dkX11_tree_0 31 rfl) ?_
            refine v_iload F (dq dkX11_tree_0 32 rfl) 4 rfl ?_
            obtain ⟨g27, h⟩ := gd_of h
            refine v_iald F 78 (xnM (by decide)) xc_78 (ib_in g27) (dq dkX11_tree_0 33 rfl) ?_
            refine v_iconst F (v := 5) (dq dkX11_tree_0 34 rfl) ki_5 ?_
            refine v_icmp_ne F (tgt := 73) (dq dkX11_tree_0 35 rfl) (by decide) (fun c28 => ?_) (fun c28 => ?_)
            · rw [if_neg c28] at h
              refine v_iconst F (v := 0) (dq dkX11_tree_0 38 rfl) ki_0 ?_
              exact t_X11_tree_74 y a1 a2 a3 a4 0 h F E
            · rw [if_pos c28] at h
              refine v_iconst F (v := 1) (dq dkX11_tree_0 36 rfl) ki_1 ?_
              refine v_goto F (tgt := 74) (dq dkX11_tree_0 37 rfl) (by decide) ?_
              exact t_X11_tree_74 y a1 a2 a3 a4 1 h F E
          · rw [if_pos c26] at h
            refine v_bipush F (v := (-11)) (dq dkX11_tree_0 28 rfl) kb_m11 ?_
            have h := Option.some.inj h
            subst h
            exact v_iret F E (dq dkX11_tree_0 29 rfl)
        · rw [if_pos c24] at h
          refine v_sub [] rfl ?_
          exact t_X11_tree_41 y h F E
def rm_X11_bore : Room := { frames := 3, cells := 0, slots := 0, locals := 73 }
def f_X11_bore (y : MS) (a1 : Int32) (a2 : Int32) : Option (Int32 × MS) := if (b2i (f_X11_isTree y a1)) = 0 then (some ((-5), y)) else (if (b2i (f_X11_in a2 (-1) 4)) = 0 then (some ((-7), y)) else (gd (ib a1 6) (gd (ib a1 6) (some (gi y 70 a1.toNatClampNeg, pi y 70 a1.toNatClampNeg a2)))))
set_option maxRecDepth 100000 in
set_option maxHeartbeats 4000000 in
theorem c_X11_bore {K : KE} {l : Launch} {R : Int32 × MS} {nn : Nat} (x : CS) (y : MS) (a1 : Int32) (a2 : Int32) (h : f_X11_bore y a1 a2 = some R) : MC K l yX11_bore cX11_bore 4 (some .int) rm_X11_bore 0 0 [.ref (K.1 + 61), .int a1, .int a2] (xfM K nn x y) (xfM K nn x R.2) (some (.int R.1)) := by
  unfold f_X11_bore at h
  refine mc_of (ls0 := [(0, .ref (K.1 + 61)), (1, .int a1), (2, .int a2)]) (by decide) (Nat.le_of_ble_eq_true rfl) rfl (fun C hl hnm F E => ?_)
  have F : Fx C RX11 cX11_bore 4 rm_X11_bore K := F
  refine v_aload_n F (dq dkX11_bore_0 0 rfl) rfl 0 rfl ?_
  refine v_iload_n F (dq dkX11_bore_0 1 rfl) rfl 1 rfl ?_
  refine v_callV 1 F (q := 61) (kc1 := 0) (ks1 := 0) (as := [.int a1]) (st := []) (st1 := (.int (b2i (f_X11_isTree y a1)) :: [])) (res := (some (.int (b2i (f_X11_isTree y a1))))) (c_X11_isTree (l := C.2.1) x y a1) (xnM (by decide)) xc_61 rfl (tc43 _ (List.mem_of_getElem? (i := 21) rfl)) (tc43 _ (List.mem_of_getElem? (i := 22) rfl)) (tc43 _ (List.mem_of_getElem? (i := 23) rfl)) (tc1 _ (List.mem_of_getElem? (i := 5) rfl)) (tc44 _ (List.mem_of_getElem? (i := 0) rfl)) (by decide) rfl ⟨rfl, rfl, Nat.le_of_ble_eq_true rfl, Nat.le_of_ble_eq_true rfl⟩ ⟨Nat.le_of_ble_eq_true rfl, Nat.le_of_ble_eq_true rfl⟩ rfl (Nat.le_of_ble_eq_true rfl) rfl rfl rfl (dq dkX11_bore_0 2 rfl) ?_
  refine v_if_ne F (tgt := 11) (dq dkX11_bore_0 3 rfl) (by decide) (fun c2 => ?_) (fun c2 => ?_)
  · rw [if_neg c2] at h
    refine v_iload_n F (dq dkX11_bore_0 6 rfl) rfl 2 rfl ?_
    refine v_iconst F (v := (-1)) (dq dkX11_bore_0 7 rfl) ki_m1 ?_
    refine v_iconst F (v := 4) (dq dkX11_bore_0 8 rfl) ki_4 ?_
    refine v_callS 3 F (kc1 := 0) (ks1 := 0) (as := [.int a2, .int (-1), .int 4]) (st := []) (st1 := (.int (b2i (f_X11_in a2 (-1) 4)) :: [])) (res := (some (.int (b2i (f_X11_in a2 (-1) 4))))) (c_X11_in (l := C.2.1) a2 (-1) 4) (tc15 _ (List.mem_of_getElem? (i := 1) rfl)) (tc15 _ (List.mem_of_getElem? (i := 2) rfl)) (tc1 _ (List.mem_of_getElem? (i := 5) rfl)) (tc15 _ (List.mem_of_getElem? (i := 3) rfl)) (by decide) rfl ⟨rfl, rfl, Nat.le_of_ble_eq_true rfl, Nat.le_of_ble_eq_true rfl⟩ ⟨Nat.le_of_ble_eq_true rfl, Nat.le_of_ble_eq_true rfl⟩ rfl (Nat.le_of_ble_eq_true rfl) rfl rfl rfl (dq dkX11_bore_0 9 rfl) ?_
    refine v_if_ne F (tgt := 23) (dq dkX11_bore_0 10 rfl) (by decide) (fun c4 => ?_) (fun c4 => ?_)
    · rw [if_neg c4] at h
      refine v_aload_n F (dq dkX11_bore_0 13 rfl) rfl 0 rfl ?_
      refine v_get F 61 (xnM (by decide)) xc_61 rfl inlX11 15 (by decide) (tc12 _ (List.mem_of_getElem? (i := 4) rfl)) rfl rfl (dq dkX11_bore_0 14 rfl) ?_
      refine v_iload_n F (dq dkX11_bore_0 15 rfl) rfl 1 rfl ?_
      obtain ⟨g5, h⟩ := gd_of h
      refine v_iald F 70 (xnM (by decide)) xc_70 (ib_in g5) (dq dkX11_bore_0 16 rfl) ?_
      refine v_istore_n F (ls' := [(3, .int (gi y 70 a1.toNatClampNeg)), (0, .ref (K.1 + 61)), (1, .int a1), (2, .int a2)]) (dq dkX11_bore_0 17 rfl) rfl (by decide) rfl ?_
      refine v_aload_n F (dq dkX11_bore_0 18 rfl) rfl 1 rfl ?_
      refine v_get F 61 (xnM (by decide)) xc_61 rfl inlX11 15 (by decide) (tc12 _ (List.mem_of_getElem? (i := 4) rfl)) rfl rfl (dq dkX11_bore_0 19 rfl) ?_
      refine v_iload_n F (dq dkX11_bore_0 20 rfl) rfl 2 rfl ?_
      refine v_iload_n F (dq dkX11_bore_0 21 rfl) rfl 3 rfl ?_
      obtain ⟨g6, h⟩ := gd_of h
      refine v_iast F 70 (xnM (by decide)) xc_70 (ib_in g6) (dq dkX11_bore_0 22 rfl) ?_
      refine v_eqM (xwM (q := 70) (j := a1.toNatClampNeg) (v := a2) (by decide) (by decide) rfl) ?_
      refine v_iload_n F (dq dkX11_bore_0 23 rfl) rfl 0 rfl ?_
      have h := Option.some.inj h
      subst h
      exact v_iret F E (dq dkX11_bore_0 24 rfl)
    · rw [if_pos c4] at h
      refine v_bipush F (v := (-7)) (dq dkX11_bore_0 11 rfl) kb_m7 ?_
      have h := Option.some.inj h
      subst h
      exact v_iret F E (dq dkX11_bore_0 12 rfl)
  · rw [if_pos c2] at h
    refine v_bipush F (v := (-5)) (dq dkX11_bore_0 4 rfl) kb_m5 ?_
    have h := Option.some.inj h
    subst h
    exact v_iret F E (dq dkX11_bore_0 5 rfl)
def rm_X11_goodOf : Room := { frames := 1, cells := 0, slots := 0, locals := 30 }
def f_X11_goodOf (y : MS) (a1 : Int32) (a2 : Int32) : Option (Int64) := gd (ib a1 6) (gd (ib a1 6) (if 0 ≤ (((gi y 66 a1.toNatClampNeg) - (6 * a2)) - (3 * (gi y 68 a1.toNatClampNeg))) then (some ((((gi y 66 a1.toNatClampNeg) - (6 * a2)) - (3 * (gi y 68 a1.toNatClampNeg))).toInt64)) else (some 0)))
set_option maxRecDepth 100000 in
set_option maxHeartbeats 4000000 in
theorem c_X11_goodOf {K : KE} {l : Launch} {R : Int64} {nn : Nat} (x : CS) (y : MS) (a1 : Int32) (a2 : Int32) (h : f_X11_goodOf y a1 a2 = some R) : MC K l yX11_goodOf cX11_goodOf 4 (some .long) rm_X11_goodOf 0 0 [.ref (K.1 + 61), .int a1, .int a2] (xfM K nn x y) (xfM K nn x y) (some (.long R)) := by
  unfold f_X11_goodOf at h
  refine mc_of (ls0 := [(0, .ref (K.1 + 61)), (1, .int a1), (2, .int a2)]) (by decide) (Nat.le_of_ble_eq_true rfl) rfl (fun C hl hnm F E => ?_)
  have F : Fx C RX11 cX11_goodOf 4 rm_X11_goodOf K := F
  refine v_aload_n F (dq dkX11_goodOf_0 0 rfl) rfl 0 rfl ?_
  refine v_get F 61 (xnM (by decide)) xc_61 rfl inlX11 11 (by decide) (tc12 _ (List.mem_of_getElem? (i := 0) rfl)) rfl rfl (dq dkX11_goodOf_0 1 rfl) ?_
  refine v_iload_n F (dq dkX11_goodOf_0 2 rfl) rfl 1 rfl ?_
  obtain ⟨g1, h⟩ := gd_of h
  refine v_iald F 66 (xnM (by decide)) xc_66 (ib_in g1) (dq dkX11_goodOf_0 3 rfl) ?_
  refine v_bipush F (v := 6) (dq dkX11_goodOf_0 4 rfl) kb_6 ?_
  refine v_iload_n F (dq dkX11_goodOf_0 5 rfl) rfl 2 rfl ?_
  refine v_imul F (dq dkX11_goodOf_0 6 rfl) ?_
  refine v_isub F (dq dkX11_goodOf_0 7 rfl) ?_
  refine v_iconst F (v := 3) (dq dkX11_goodOf_0 8 rfl) ki_3 ?_
  refine v_aload_n F (dq dkX11_goodOf_0 9 rfl) rfl 0 rfl ?_
  refine v_get F 61 (xnM (by decide)) xc_61 rfl inlX11 13 (by decide) (tc12 _ (List.mem_of_getElem? (i := 2) rfl)) rfl rfl (dq dkX11_goodOf_0 10 rfl) ?_
  refine v_iload_n F (dq dkX11_goodOf_0 11 rfl) rfl 1 rfl ?_
  obtain ⟨g2, h⟩ := gd_of h
  refine v_iald F 68 (xnM (by decide)) xc_68 (ib_in g2) (dq dkX11_goodOf_0 12 rfl) ?_
  refine v_imul F (dq dkX11_goodOf_0 13 rfl) ?_
  refine v_isub F (dq dkX11_goodOf_0 14 rfl) ?_
  refine v_istore_n F (ls' := [(3, .int (((gi y 66 a1.toNatClampNeg) - (6 * a2)) - (3 * (gi y 68 a1.toNatClampNeg)))), (0, .ref (K.1 + 61)), (1, .int a1), (2, .int a2)]) (dq dkX11_goodOf_0 15 rfl) rfl (by decide) rfl ?_
  refine v_iload_n F (dq dkX11_goodOf_0 16 rfl) rfl 0 rfl ?_
  refine v_if_ge F (tgt := 29) (dq dkX11_goodOf_0 17 rfl) (by decide) (fun c3 => ?_) (fun c3 => ?_)
  · rw [if_pos c3] at h
    refine v_iload_n F (dq dkX11_goodOf_0 20 rfl) rfl 0 rfl ?_
    refine v_i2l F (dq dkX11_goodOf_0 21 rfl) ?_
    have h := Option.some.inj h
    subst h
    exact v_lret F E (dq dkX11_goodOf_0 22 rfl)
  · rw [if_neg c3] at h
    refine v_lconst F (v := 0) (dq dkX11_goodOf_0 18 rfl) rfl ?_
    refine v_goto F (tgt := 31) (dq dkX11_goodOf_0 19 rfl) (by decide) ?_
    have h := Option.some.inj h
    subst h
    exact v_lret F E (dq dkX11_goodOf_0 22 rfl)
def rm_X11_meanAbove : Room := { frames := 2, cells := 0, slots := 0, locals := 53 }
def f_X11_meanAbove_27 (y : MS) : Nat → Int32 → Int64 → Int32 → Option (Int64)
  | 0, _, _, _ => none
  | n + 1, a1, a2, a4 => if 5 ≤ a4 then (some a2) else (gd (ib ((5 * a1) + a4) 30) ((f_X11_goodOf y a1 a4).bind fun r3 => (f_X11_meanAbove_27 y n) a1 (a2 + (((gi y 69 ((5 * a1) + a4).toNatClampNeg).toInt64) * r3)) (a4 + 1)))
set_option maxRecDepth 100000 in
set_option maxHeartbeats 4000000 in
theorem t_X11_meanAbove_27 {C : Cx} {K : KE} {nn : Nat} {x : CS} {R : Int64}  (y : MS) (F : Fx C RX11 cX11_meanAbove 5 rm_X11_meanAbove K) (E : CE C (xfM K nn x y) (some (.long R)) 0 0 (some .long)) : ∀ (n : Nat) (a1 : Int32) (a2 : Int64) (a4 : Int32) (h : f_X11_meanAbove_27 y n a1 a2 a4 = some R), V C 27 [(0, .ref (K.1 + 61)), (1, .int a1), (2, .long a2), (4, .int a4)] [] (xfM K nn x y) 0 0 := by
  intro n
  induction n with
  | zero => intro a1 a2 a4 h; cases h
  | succ n ih =>
    intro a1 a2 a4 h
    rw [f_X11_meanAbove_27] at h
    refine v_iload F (dq dkX11_meanAbove_0 18 rfl) 3 rfl ?_
    refine v_iconst F (v := 5) (dq dkX11_meanAbove_0 19 rfl) ki_5 ?_
    refine v_icmp_ge F (tgt := 62) (dq dkX11_meanAbove_0 20 rfl) (by decide) (fun c1 => ?_) (fun c1 => ?_)
    · rw [if_pos c1] at h
      refine v_lload_n F (dq dkX11_meanAbove_1 0 rfl) rfl 2 rfl ?_
      have h := Option.some.inj h
      subst h
      exact v_lret F E (dq dkX11_meanAbove_1 1 rfl)
    · rw [if_neg c1] at h
      refine v_lload_n F (dq dkX11_meanAbove_0 21 rfl) rfl 2 rfl ?_
      refine v_aload_n F (dq dkX11_meanAbove_0 22 rfl) rfl 0 rfl ?_
      refine v_get F 61 (xnM (by decide)) xc_61 rfl inlX11 14 (by decide) (tc12 _ (List.mem_of_getElem? (i := 3) rfl)) rfl rfl (dq dkX11_meanAbove_0 23 rfl) ?_
      refine v_iconst F (v := 5) (dq dkX11_meanAbove_0 24 rfl) ki_5 ?_
      refine v_iload_n F (dq dkX11_meanAbove_0 25 rfl) rfl 1 rfl ?_
      refine v_imul F (dq dkX11_meanAbove_0 26 rfl) ?_
      refine v_iload F (dq dkX11_meanAbove_0 27 rfl) 3 rfl ?_
      refine v_iadd F (dq dkX11_meanAbove_0 28 rfl) ?_
      obtain ⟨g2, h⟩ := gd_of h
      refine v_iald F 69 (xnM (by decide)) xc_69 (ib_in g2) (dq dkX11_meanAbove_0 29 rfl) ?_
      refine v_i2l F (dq dkX11_meanAbove_0 30 rfl) ?_
      refine v_aload_n F (dq dkX11_meanAbove_0 31 rfl) rfl 0 rfl ?_
      refine v_iload_n F (dq dkX11_meanAbove_0 32 rfl) rfl 1 rfl ?_
      refine v_iload F (dq dkX11_meanAbove_0 33 rfl) 3 rfl ?_
      obtain ⟨r3, e4, h⟩ := bd_of h
      refine v_callV 2 F (q := 61) (kc1 := 0) (ks1 := 0) (as := [.int a1, .int a4]) (st := [.long ((gi y 69 ((5 * a1) + a4).toNatClampNeg).toInt64), .long a2]) (st1 := (.long r3 :: [.long ((gi y 69 ((5 * a1) + a4).toNatClampNeg).toInt64), .long a2])) (res := (some (.long r3))) (c_X11_goodOf (l := C.2.1) x y a1 a4 e4) (xnM (by decide)) xc_61 rfl (tc45 _ (List.mem_of_getElem? (i := 4) rfl)) (tc45 _ (List.mem_of_getElem? (i := 5) rfl)) (tc45 _ (List.mem_of_getElem? (i := 6) rfl)) (tc1 _ (List.mem_of_getElem? (i := 5) rfl)) (tc45 _ (List.mem_of_getElem? (i := 7) rfl)) (by decide) rfl ⟨rfl, rfl, Nat.le_of_ble_eq_true rfl, Nat.le_of_ble_eq_true rfl⟩ ⟨Nat.le_of_ble_eq_true rfl, Nat.le_of_ble_eq_true rfl⟩ rfl (Nat.le_of_ble_eq_true rfl) rfl rfl rfl (dq dkX11_meanAbove_0 34 rfl) ?_
      refine v_lmul F (dq dkX11_meanAbove_0 35 rfl) ?_
      refine v_ladd F (dq dkX11_meanAbove_0 36 rfl) ?_
      refine v_lstore_n F (ls' := [(2, .long (a2 + (((gi y 69 ((5 * a1) + a4).toNatClampNeg).toInt64) * r3))), (0, .ref (K.1 + 61)), (1, .int a1), (4, .int a4)]) (dq dkX11_meanAbove_0 37 rfl) rfl (by decide) rfl ?_
      refine v_iinc F (v := a4 + 1) (ls' := [(4, .int (a4 + 1)), (2, .long (a2 + (((gi y 69 ((5 * a1) + a4).toNatClampNeg).toInt64) * r3))), (0, .ref (K.1 + 61)), (1, .int a1)]) (dq dkX11_meanAbove_0 38 rfl) (j := 3) rfl (kv_add ki_1) (by decide) rfl ?_
      refine v_goto F (tgt := 27) (dq dkX11_meanAbove_0 39 rfl) (by decide) ?_
      refine v_sub [2, 3, 1, 0] rfl ?_
      exact ih a1 (a2 + (((gi y 69 ((5 * a1) + a4).toNatClampNeg).toInt64) * r3)) (a4 + 1) h
def f_X11_meanAbove (y : MS) (a1 : Int32) : Option (Int64) := gd (ib a1 6) (if (gi y 70 a1.toNatClampNeg) = (-1) then (f_X11_meanAbove_27 y 1000 a1 0 0) else (gd (ib a1 6) ((f_X11_goodOf y a1 (gi y 70 a1.toNatClampNeg)).bind fun r8 => some r8)))
set_option maxRecDepth 100000 in
set_option maxHeartbeats 4000000 in
theorem c_X11_meanAbove {K : KE} {l : Launch} {R : Int64} {nn : Nat} (x : CS) (y : MS) (a1 : Int32) (h : f_X11_meanAbove y a1 = some R) : MC K l yX11_meanAbove cX11_meanAbove 5 (some .long) rm_X11_meanAbove 0 0 [.ref (K.1 + 61), .int a1] (xfM K nn x y) (xfM K nn x y) (some (.long R)) := by
  unfold f_X11_meanAbove at h
  refine mc_of (ls0 := [(0, .ref (K.1 + 61)), (1, .int a1)]) (by decide) (Nat.le_of_ble_eq_true rfl) rfl (fun C hl hnm F E => ?_)
  have F : Fx C RX11 cX11_meanAbove 5 rm_X11_meanAbove K := F
  refine v_aload_n F (dq dkX11_meanAbove_0 0 rfl) rfl 0 rfl ?_
  refine v_get F 61 (xnM (by decide)) xc_61 rfl inlX11 15 (by decide) (tc12 _ (List.mem_of_getElem? (i := 4) rfl)) rfl rfl (dq dkX11_meanAbove_0 1 rfl) ?_
  refine v_iload_n F (dq dkX11_meanAbove_0 2 rfl) rfl 1 rfl ?_
  obtain ⟨g5, h⟩ := gd_of h
  refine v_iald F 70 (xnM (by decide)) xc_70 (ib_in g5) (dq dkX11_meanAbove_0 3 rfl) ?_
  refine v_iconst F (v := (-1)) (dq dkX11_meanAbove_0 4 rfl) ki_m1 ?_
  refine v_icmp_eq F (tgt := 22) (dq dkX11_meanAbove_0 5 rfl) (by decide) (fun c6 => ?_) (fun c6 => ?_)
  · rw [if_pos c6] at h
    refine v_lconst F (v := 0) (dq dkX11_meanAbove_0 14 rfl) rfl ?_
    refine v_lstore_n F (ls' := [(2, .long 0), (0, .ref (K.1 + 61)), (1, .int a1)]) (dq dkX11_meanAbove_0 15 rfl) rfl (by decide) rfl ?_
    refine v_iconst F (v := 0) (dq dkX11_meanAbove_0 16 rfl) ki_0 ?_
    refine v_istore F (ls' := [(4, .int 0), (2, .long 0), (0, .ref (K.1 + 61)), (1, .int a1)]) (dq dkX11_meanAbove_0 17 rfl) (by decide) rfl ?_
    refine v_sub [2, 3, 1, 0] rfl ?_
    exact t_X11_meanAbove_27 y F E 1000 a1 0 0 h
  · rw [if_neg c6] at h
    refine v_aload_n F (dq dkX11_meanAbove_0 6 rfl) rfl 0 rfl ?_
    refine v_iload_n F (dq dkX11_meanAbove_0 7 rfl) rfl 1 rfl ?_
    refine v_aload_n F (dq dkX11_meanAbove_0 8 rfl) rfl 0 rfl ?_
    refine v_get F 61 (xnM (by decide)) xc_61 rfl inlX11 15 (by decide) (tc12 _ (List.mem_of_getElem? (i := 4) rfl)) rfl rfl (dq dkX11_meanAbove_0 9 rfl) ?_
    refine v_iload_n F (dq dkX11_meanAbove_0 10 rfl) rfl 1 rfl ?_
    obtain ⟨g7, h⟩ := gd_of h
    refine v_iald F 70 (xnM (by decide)) xc_70 (ib_in g7) (dq dkX11_meanAbove_0 11 rfl) ?_
    obtain ⟨r8, e9, h⟩ := bd_of h
    refine v_callV 2 F (q := 61) (kc1 := 0) (ks1 := 0) (as := [.int a1, .int (gi y 70 a1.toNatClampNeg)]) (st := []) (st1 := (.long r8 :: [])) (res := (some (.long r8))) (c_X11_goodOf (l := C.2.1) x y a1 (gi y 70 a1.toNatClampNeg) e9) (xnM (by decide)) xc_61 rfl (tc45 _ (List.mem_of_getElem? (i := 4) rfl)) (tc45 _ (List.mem_of_getElem? (i := 5) rfl)) (tc45 _ (List.mem_of_getElem? (i := 6) rfl)) (tc1 _ (List.mem_of_getElem? (i := 5) rfl)) (tc45 _ (List.mem_of_getElem? (i := 7) rfl)) (by decide) rfl ⟨rfl, rfl, Nat.le_of_ble_eq_true rfl, Nat.le_of_ble_eq_true rfl⟩ ⟨Nat.le_of_ble_eq_true rfl, Nat.le_of_ble_eq_true rfl⟩ rfl (Nat.le_of_ble_eq_true rfl) rfl rfl rfl (dq dkX11_meanAbove_0 12 rfl) ?_
    have h := Option.some.inj h
    subst h
    exact v_lret F E (dq dkX11_meanAbove_0 13 rfl)
def rm_X11_meanBelow : Room := { frames := 1, cells := 0, slots := 0, locals := 30 }
def f_X11_meanBelow_17 (y : MS) : Nat → Int32 → Int64 → Int32 → Option (Int64)
  | 0, _, _, _ => none
  | n + 1, a1, a2, a4 => if 5 ≤ a4 then (some a2) else (gd (ib ((5 * a1) + a4) 30) ((f_X11_meanBelow_17 y n) a1 (a2 + ((gi y 69 ((5 * a1) + a4).toNatClampNeg).toInt64)) (a4 + 1)))
set_option maxRecDepth 100000 in
set_option maxHeartbeats 4000000 in
theorem t_X11_meanBelow_17 {C : Cx} {K : KE} {nn : Nat} {x : CS} {R : Int64}  (y : MS) (F : Fx C RX11 cX11_meanBelow 5 rm_X11_meanBelow K) (E : CE C (xfM K nn x y) (some (.long R)) 0 0 (some .long)) : ∀ (n : Nat) (a1 : Int32) (a2 : Int64) (a4 : Int32) (h : f_X11_meanBelow_17 y n a1 a2 a4 = some R), V C 17 [(0, .ref (K.1 + 61)), (1, .int a1), (2, .long a2), (4, .int a4)] [] (xfM K nn x y) 0 0 := by
  intro n
  induction n with
  | zero => intro a1 a2 a4 h; cases h
  | succ n ih =>
    intro a1 a2 a4 h
    rw [f_X11_meanBelow_17] at h
    refine v_iload F (dq dkX11_meanBelow_0 12 rfl) 3 rfl ?_
    refine v_iconst F (v := 5) (dq dkX11_meanBelow_0 13 rfl) ki_5 ?_
    refine v_icmp_ge F (tgt := 44) (dq dkX11_meanBelow_0 14 rfl) (by decide) (fun c1 => ?_) (fun c1 => ?_)
    · rw [if_pos c1] at h
      refine v_lload_n F (dq dkX11_meanBelow_0 29 rfl) rfl 2 rfl ?_
      have h := Option.some.inj h
      subst h
      exact v_lret F E (dq dkX11_meanBelow_0 30 rfl)
    · rw [if_neg c1] at h
      refine v_lload_n F (dq dkX11_meanBelow_0 15 rfl) rfl 2 rfl ?_
      refine v_aload_n F (dq dkX11_meanBelow_0 16 rfl) rfl 0 rfl ?_
      refine v_get F 61 (xnM (by decide)) xc_61 rfl inlX11 14 (by decide) (tc12 _ (List.mem_of_getElem? (i := 3) rfl)) rfl rfl (dq dkX11_meanBelow_0 17 rfl) ?_
      refine v_iconst F (v := 5) (dq dkX11_meanBelow_0 18 rfl) ki_5 ?_
      refine v_iload_n F (dq dkX11_meanBelow_0 19 rfl) rfl 1 rfl ?_
      refine v_imul F (dq dkX11_meanBelow_0 20 rfl) ?_
      refine v_iload F (dq dkX11_meanBelow_0 21 rfl) 3 rfl ?_
      refine v_iadd F (dq dkX11_meanBelow_0 22 rfl) ?_
      obtain ⟨g2, h⟩ := gd_of h
      refine v_iald F 69 (xnM (by decide)) xc_69 (ib_in g2) (dq dkX11_meanBelow_0 23 rfl) ?_
      refine v_i2l F (dq dkX11_meanBelow_0 24 rfl) ?_
      refine v_ladd F (dq dkX11_meanBelow_0 25 rfl) ?_
      refine v_lstore_n F (ls' := [(2, .long (a2 + ((gi y 69 ((5 * a1) + a4).toNatClampNeg).toInt64))), (0, .ref (K.1 + 61)), (1, .int a1), (4, .int a4)]) (dq dkX11_meanBelow_0 26 rfl) rfl (by decide) rfl ?_
      refine v_iinc F (v := a4 + 1) (ls' := [(4, .int (a4 + 1)), (2, .long (a2 + ((gi y 69 ((5 * a1) + a4).toNatClampNeg).toInt64))), (0, .ref (K.1 + 61)), (1, .int a1)]) (dq dkX11_meanBelow_0 27 rfl) (j := 3) rfl (kv_add ki_1) (by decide) rfl ?_
      refine v_goto F (tgt := 17) (dq dkX11_meanBelow_0 28 rfl) (by decide) ?_
      refine v_sub [2, 3, 1, 0] rfl ?_
      exact ih a1 (a2 + ((gi y 69 ((5 * a1) + a4).toNatClampNeg).toInt64)) (a4 + 1) h
def f_X11_meanBelow (y : MS) (a1 : Int32) : Option (Int64) := gd (ib a1 6) (if (gi y 70 a1.toNatClampNeg) = (-1) then (f_X11_meanBelow_17 y 1000 a1 0 0) else (some 1))
set_option maxRecDepth 100000 in
set_option maxHeartbeats 4000000 in
theorem c_X11_meanBelow {K : KE} {l : Launch} {R : Int64} {nn : Nat} (x : CS) (y : MS) (a1 : Int32) (h : f_X11_meanBelow y a1 = some R) : MC K l yX11_meanBelow cX11_meanBelow 5 (some .long) rm_X11_meanBelow 0 0 [.ref (K.1 + 61), .int a1] (xfM K nn x y) (xfM K nn x y) (some (.long R)) := by
  unfold f_X11_meanBelow at h
  refine mc_of (ls0 := [(0, .ref (K.1 + 61)), (1, .int a1)]) (by decide) (Nat.le_of_ble_eq_true rfl) rfl (fun C hl hnm F E => ?_)
  have F : Fx C RX11 cX11_meanBelow 5 rm_X11_meanBelow K := F
  refine v_aload_n F (dq dkX11_meanBelow_0 0 rfl) rfl 0 rfl ?_
  refine v_get F 61 (xnM (by decide)) xc_61 rfl inlX11 15 (by decide) (tc12 _ (List.mem_of_getElem? (i := 4) rfl)) rfl rfl (dq dkX11_meanBelow_0 1 rfl) ?_
  refine v_iload_n F (dq dkX11_meanBelow_0 2 rfl) rfl 1 rfl ?_
  obtain ⟨g3, h⟩ := gd_of h
  refine v_iald F 70 (xnM (by decide)) xc_70 (ib_in g3) (dq dkX11_meanBelow_0 3 rfl) ?_
  refine v_iconst F (v := (-1)) (dq dkX11_meanBelow_0 4 rfl) ki_m1 ?_
  refine v_icmp_eq F (tgt := 12) (dq dkX11_meanBelow_0 5 rfl) (by decide) (fun c4 => ?_) (fun c4 => ?_)
  · rw [if_pos c4] at h
    refine v_lconst F (v := 0) (dq dkX11_meanBelow_0 8 rfl) rfl ?_
    refine v_lstore_n F (ls' := [(2, .long 0), (0, .ref (K.1 + 61)), (1, .int a1)]) (dq dkX11_meanBelow_0 9 rfl) rfl (by decide) rfl ?_
    refine v_iconst F (v := 0) (dq dkX11_meanBelow_0 10 rfl) ki_0 ?_
    refine v_istore F (ls' := [(4, .int 0), (2, .long 0), (0, .ref (K.1 + 61)), (1, .int a1)]) (dq dkX11_meanBelow_0 11 rfl) (by decide) rfl ?_
    refine v_sub [2, 3, 1, 0] rfl ?_
    exact t_X11_meanBelow_17 y F E 1000 a1 0 0 h
  · rw [if_neg c4] at h
    refine v_lconst F (v := 1) (dq dkX11_meanBelow_0 6 rfl) rfl ?_
    have h := Option.some.inj h
    subst h
    exact v_lret F E (dq dkX11_meanBelow_0 7 rfl)
def rm_X11_worth : Room := { frames := 3, cells := 0, slots := 0, locals := 77 }
def f_X11_worth_34 (y : MS) : Option (Int64) := some (-4611686018427387904)
set_option maxRecDepth 100000 in
set_option maxHeartbeats 4000000 in
theorem t_X11_worth_34 {C : Cx} {K : KE} {nn : Nat} {x : CS} {R : Int64}  (y : MS) (h : f_X11_worth_34 y = some R) (F : Fx C RX11 cX11_worth 3 rm_X11_worth K) (E : CE C (xfM K nn x y) (some (.long R)) 0 0 (some .long)) : V C 34 [] [] (xfM K nn x y) 0 0 := by
  unfold f_X11_worth_34 at h
  refine v_ldc2 F (v := (-4611686018427387904)) (tc33 _ (List.mem_of_getElem? (i := 20) rfl)) (dq dkX11_worth_0 18 rfl) ?_
  have h := Option.some.inj h
  subst h
  exact v_lret F E (dq dkX11_worth_0 19 rfl)
def f_X11_worth (y : MS) (a1 : Int32) (a2 : Int32) : Option (Int64) := if (b2i (f_X11_isTree y a1)) = 0 then (f_X11_worth_34 y) else (if (b2i (f_X11_in a2 0 1)) = 0 then (f_X11_worth_34 y) else ((f_X11_meanAbove y a1).bind fun r5 => (f_X11_meanBelow y a1).bind fun r7 => (f_X11_lowest r5 r7 a2).bind fun r9 => some r9))
set_option maxRecDepth 100000 in
set_option maxHeartbeats 4000000 in
theorem c_X11_worth {K : KE} {l : Launch} {R : Int64} {nn : Nat} (x : CS) (y : MS) (a1 : Int32) (a2 : Int32) (h : f_X11_worth y a1 a2 = some R) : MC K l yX11_worth cX11_worth 3 (some .long) rm_X11_worth 0 0 [.ref (K.1 + 61), .int a1, .int a2] (xfM K nn x y) (xfM K nn x y) (some (.long R)) := by
  unfold f_X11_worth at h
  refine mc_of (ls0 := [(0, .ref (K.1 + 61)), (1, .int a1), (2, .int a2)]) (by decide) (Nat.le_of_ble_eq_true rfl) rfl (fun C hl hnm F E => ?_)
  have F : Fx C RX11 cX11_worth 3 rm_X11_worth K := F
  refine v_aload_n F (dq dkX11_worth_0 0 rfl) rfl 0 rfl ?_
  refine v_iload_n F (dq dkX11_worth_0 1 rfl) rfl 1 rfl ?_
  refine v_callV 1 F (q := 61) (kc1 := 0) (ks1 := 0) (as := [.int a1]) (st := []) (st1 := (.int (b2i (f_X11_isTree y a1)) :: [])) (res := (some (.int (b2i (f_X11_isTree y a1))))) (c_X11_isTree (l := C.2.1) x y a1) (xnM (by decide)) xc_61 rfl (tc43 _ (List.mem_of_getElem? (i := 21) rfl)) (tc43 _ (List.mem_of_getElem? (i := 22) rfl)) (tc43 _ (List.mem_of_getElem? (i := 23) rfl)) (tc1 _ (List.mem_of_getElem? (i := 5) rfl)) (tc44 _ (List.mem_of_getElem? (i := 0) rfl)) (by decide) rfl ⟨rfl, rfl, Nat.le_of_ble_eq_true rfl, Nat.le_of_ble_eq_true rfl⟩ ⟨Nat.le_of_ble_eq_true rfl, Nat.le_of_ble_eq_true rfl⟩ rfl (Nat.le_of_ble_eq_true rfl) rfl rfl rfl (dq dkX11_worth_0 2 rfl) ?_
  refine v_if_eq F (tgt := 34) (dq dkX11_worth_0 3 rfl) (by decide) (fun c2 => ?_) (fun c2 => ?_)
  · rw [if_pos c2] at h
    refine v_sub [] rfl ?_
    exact t_X11_worth_34 y h F E
  · rw [if_neg c2] at h
    refine v_iload_n F (dq dkX11_worth_0 4 rfl) rfl 2 rfl ?_
    refine v_iconst F (v := 0) (dq dkX11_worth_0 5 rfl) ki_0 ?_
    refine v_iconst F (v := 1) (dq dkX11_worth_0 6 rfl) ki_1 ?_
    refine v_callS 3 F (kc1 := 0) (ks1 := 0) (as := [.int a2, .int 0, .int 1]) (st := []) (st1 := (.int (b2i (f_X11_in a2 0 1)) :: [])) (res := (some (.int (b2i (f_X11_in a2 0 1))))) (c_X11_in (l := C.2.1) a2 0 1) (tc15 _ (List.mem_of_getElem? (i := 1) rfl)) (tc15 _ (List.mem_of_getElem? (i := 2) rfl)) (tc1 _ (List.mem_of_getElem? (i := 5) rfl)) (tc15 _ (List.mem_of_getElem? (i := 3) rfl)) (by decide) rfl ⟨rfl, rfl, Nat.le_of_ble_eq_true rfl, Nat.le_of_ble_eq_true rfl⟩ ⟨Nat.le_of_ble_eq_true rfl, Nat.le_of_ble_eq_true rfl⟩ rfl (Nat.le_of_ble_eq_true rfl) rfl rfl rfl (dq dkX11_worth_0 7 rfl) ?_
    refine v_if_eq F (tgt := 34) (dq dkX11_worth_0 8 rfl) (by decide) (fun c4 => ?_) (fun c4 => ?_)
    · rw [if_pos c4] at h
      refine v_sub [] rfl ?_
      exact t_X11_worth_34 y h F E
    · rw [if_neg c4] at h
      refine v_aload_n F (dq dkX11_worth_0 9 rfl) rfl 0 rfl ?_
      refine v_iload_n F (dq dkX11_worth_0 10 rfl) rfl 1 rfl ?_
      obtain ⟨r5, e6, h⟩ := bd_of h
      refine v_callV 1 F (q := 61) (kc1 := 0) (ks1 := 0) (as := [.int a1]) (st := []) (st1 := (.long r5 :: [])) (res := (some (.long r5))) (c_X11_meanAbove (l := C.2.1) x y a1 e6) (xnM (by decide)) xc_61 rfl (tc45 _ (List.mem_of_getElem? (i := 0) rfl)) (tc45 _ (List.mem_of_getElem? (i := 1) rfl)) (tc45 _ (List.mem_of_getElem? (i := 2) rfl)) (tc1 _ (List.mem_of_getElem? (i := 5) rfl)) (tc45 _ (List.mem_of_getElem? (i := 3) rfl)) (by decide) rfl ⟨rfl, rfl, Nat.le_of_ble_eq_true rfl, Nat.le_of_ble_eq_true rfl⟩ ⟨Nat.le_of_ble_eq_true rfl, Nat.le_of_ble_eq_true rfl⟩ rfl (Nat.le_of_ble_eq_true rfl) rfl rfl rfl (dq dkX11_worth_0 11 rfl) ?_
      refine v_aload_n F (dq dkX11_worth_0 12 rfl) rfl 0 rfl ?_
      refine v_iload_n F (dq dkX11_worth_0 13 rfl) rfl 1 rfl ?_
      obtain ⟨r7, e8, h⟩ := bd_of h
      refine v_callV 1 F (q := 61) (kc1 := 0) (ks1 := 0) (as := [.int a1]) (st := [.long r5]) (st1 := (.long r7 :: [.long r5])) (res := (some (.long r7))) (c_X11_meanBelow (l := C.2.1) x y a1 e8) (xnM (by decide)) xc_61 rfl (tc45 _ (List.mem_of_getElem? (i := 8) rfl)) (tc45 _ (List.mem_of_getElem? (i := 9) rfl)) (tc45 _ (List.mem_of_getElem? (i := 10) rfl)) (tc1 _ (List.mem_of_getElem? (i := 5) rfl)) (tc45 _ (List.mem_of_getElem? (i := 11) rfl)) (by decide) rfl ⟨rfl, rfl, Nat.le_of_ble_eq_true rfl, Nat.le_of_ble_eq_true rfl⟩ ⟨Nat.le_of_ble_eq_true rfl, Nat.le_of_ble_eq_true rfl⟩ rfl (Nat.le_of_ble_eq_true rfl) rfl rfl rfl (dq dkX11_worth_0 14 rfl) ?_
      refine v_iload_n F (dq dkX11_worth_0 15 rfl) rfl 2 rfl ?_
      obtain ⟨r9, e10, h⟩ := bd_of h
      refine v_callS 3 F (kc1 := 0) (ks1 := 0) (as := [.long r5, .long r7, .int a2]) (st := []) (st1 := (.long r9 :: [])) (res := (some (.long r9))) (c_X11_lowest (l := C.2.1) r5 r7 a2 e10) (tc34 _ (List.mem_of_getElem? (i := 2) rfl)) (tc34 _ (List.mem_of_getElem? (i := 3) rfl)) (tc1 _ (List.mem_of_getElem? (i := 5) rfl)) (tc34 _ (List.mem_of_getElem? (i := 4) rfl)) (by decide) rfl ⟨rfl, rfl, Nat.le_of_ble_eq_true rfl, Nat.le_of_ble_eq_true rfl⟩ ⟨Nat.le_of_ble_eq_true rfl, Nat.le_of_ble_eq_true rfl⟩ rfl (Nat.le_of_ble_eq_true rfl) rfl rfl rfl (dq dkX11_worth_0 16 rfl) ?_
      refine v_goto F (tgt := 37) (dq dkX11_worth_0 17 rfl) (by decide) ?_
      have h := Option.some.inj h
      subst h
      exact v_lret F E (dq dkX11_worth_0 19 rfl)
def rm_X11_bestBut : Room := { frames := 3, cells := 0, slots := 0, locals := 77 }
def f_X11_bestBut_50 (k4 : Int32 → Int32 → Int32 → Option (Int32)) (y : MS) (a1 : Int32) (a2 : Int32) (a3 : Int32) : Option (Int32) := k4 a1 a2 (a3 + 1)
set_option maxRecDepth 100000 in
set_option maxHeartbeats 4000000 in
theorem t_X11_bestBut_50 {C : Cx} {K : KE} {nn : Nat} {x : CS} {R : Int32}  (k4 : Int32 → Int32 → Int32 → Option (Int32)) (y : MS) (a1 : Int32) (a2 : Int32) (a3 : Int32) (hk4 : ∀ (a1 : Int32) (a2 : Int32) (a3 : Int32), k4 a1 a2 a3 = some R → V C 4 [(0, .ref (K.1 + 61)), (1, .int a1), (2, .int a2), (3, .int a3)] [] (xfM K nn x y) 0 0) (h : f_X11_bestBut_50 k4 y a1 a2 a3 = some R) (F : Fx C RX11 cX11_bestBut 4 rm_X11_bestBut K) (E : CE C (xfM K nn x y) (some (.int R)) 0 0 (some .int)) : V C 50 [(0, .ref (K.1 + 61)), (1, .int a1), (2, .int a2), (3, .int a3)] [] (xfM K nn x y) 0 0 := by
  unfold f_X11_bestBut_50 at h
  refine v_iinc F (v := a3 + 1) (ls' := [(3, .int (a3 + 1)), (0, .ref (K.1 + 61)), (1, .int a1), (2, .int a2)]) (dq dkX11_bestBut_0 32 rfl) (j := 3) rfl (kv_add ki_1) (by decide) rfl ?_
  refine v_goto F (tgt := 4) (dq dkX11_bestBut_0 33 rfl) (by decide) ?_
  refine v_sub [1, 2, 3, 0] rfl ?_
  exact hk4 a1 a2 (a3 + 1) h
def f_X11_bestBut_48 (k4 : Int32 → Int32 → Int32 → Option (Int32)) (y : MS) (a1 : Int32) (a3 : Int32) : Option (Int32) := f_X11_bestBut_50 k4 y a1 a3 a3
set_option maxRecDepth 100000 in
set_option maxHeartbeats 4000000 in
theorem t_X11_bestBut_48 {C : Cx} {K : KE} {nn : Nat} {x : CS} {R : Int32}  (k4 : Int32 → Int32 → Int32 → Option (Int32)) (y : MS) (a1 : Int32) (a3 : Int32) (hk4 : ∀ (a1 : Int32) (a2 : Int32) (a3 : Int32), k4 a1 a2 a3 = some R → V C 4 [(0, .ref (K.1 + 61)), (1, .int a1), (2, .int a2), (3, .int a3)] [] (xfM K nn x y) 0 0) (h : f_X11_bestBut_48 k4 y a1 a3 = some R) (F : Fx C RX11 cX11_bestBut 4 rm_X11_bestBut K) (E : CE C (xfM K nn x y) (some (.int R)) 0 0 (some .int)) : V C 48 [(0, .ref (K.1 + 61)), (1, .int a1), (3, .int a3)] [] (xfM K nn x y) 0 0 := by
  unfold f_X11_bestBut_48 at h
  refine v_iload_n F (dq dkX11_bestBut_0 30 rfl) rfl 2 rfl ?_
  refine v_istore_n F (ls' := [(2, .int a3), (0, .ref (K.1 + 61)), (1, .int a1), (3, .int a3)]) (dq dkX11_bestBut_0 31 rfl) rfl (by decide) rfl ?_
  refine v_sub [1, 2, 0, 3] rfl ?_
  exact t_X11_bestBut_50 k4 y a1 a3 a3 hk4 h F E
def f_X11_bestBut_4 (y : MS) : Nat → Int32 → Int32 → Int32 → Option (Int32)
  | 0, _, _, _ => none
  | n + 1, a1, a2, a3 => if (gi y 61 10) ≤ a3 then (some a2) else (if a3 = a1 then (f_X11_bestBut_50 (f_X11_bestBut_4 y n) y a1 a2 a3) else (if a2 = (-1) then (f_X11_bestBut_48 (f_X11_bestBut_4 y n) y a1 a3) else ((f_X11_meanAbove y a3).bind fun r4 => (f_X11_meanBelow y a2).bind fun r6 => (f_X11_meanAbove y a2).bind fun r8 => (f_X11_meanBelow y a3).bind fun r10 => if (lg_cmp (r4 * r6) (r8 * r10)) ≤ 0 then (f_X11_bestBut_50 (f_X11_bestBut_4 y n) y a1 a2 a3) else (f_X11_bestBut_48 (f_X11_bestBut_4 y n) y a1 a3))))
set_option maxRecDepth 100000 in
set_option maxHeartbeats 4000000 in
theorem t_X11_bestBut_4 {C : Cx} {K : KE} {nn : Nat} {x : CS} {R : Int32}  (y : MS) (F : Fx C RX11 cX11_bestBut 4 rm_X11_bestBut K) (E : CE C (xfM K nn x y) (some (.int R)) 0 0 (some .int)) : ∀ (n : Nat) (a1 : Int32) (a2 : Int32) (a3 : Int32) (h : f_X11_bestBut_4 y n a1 a2 a3 = some R), V C 4 [(0, .ref (K.1 + 61)), (1, .int a1), (2, .int a2), (3, .int a3)] [] (xfM K nn x y) 0 0 := by
  intro n
  induction n with
  | zero => intro a1 a2 a3 h; cases h
  | succ n ih =>
    intro a1 a2 a3 h
    rw [f_X11_bestBut_4] at h
    refine v_iload_n F (dq dkX11_bestBut_0 4 rfl) rfl 3 rfl ?_
    refine v_aload_n F (dq dkX11_bestBut_0 5 rfl) rfl 0 rfl ?_
    refine v_get F 61 (xnM (by decide)) xc_61 rfl inlX11 10 (by decide) (tc16 _ (List.mem_of_getElem? (i := 17) rfl)) rfl rfl (dq dkX11_bestBut_0 6 rfl) ?_
    refine v_icmp_ge F (tgt := 56) (dq dkX11_bestBut_0 7 rfl) (by decide) (fun c1 => ?_) (fun c1 => ?_)
    · rw [if_pos c1] at h
      refine v_iload_n F (dq dkX11_bestBut_0 34 rfl) rfl 2 rfl ?_
      have h := Option.some.inj h
      subst h
      exact v_iret F E (dq dkX11_bestBut_0 35 rfl)
    · rw [if_neg c1] at h
      refine v_iload_n F (dq dkX11_bestBut_0 8 rfl) rfl 3 rfl ?_
      refine v_iload_n F (dq dkX11_bestBut_0 9 rfl) rfl 1 rfl ?_
      refine v_icmp_eq F (tgt := 50) (dq dkX11_bestBut_0 10 rfl) (by decide) (fun c2 => ?_) (fun c2 => ?_)
      · rw [if_pos c2] at h
        exact t_X11_bestBut_50 (f_X11_bestBut_4 y n) y a1 a2 a3 ih h F E
      · rw [if_neg c2] at h
        refine v_iload_n F (dq dkX11_bestBut_0 11 rfl) rfl 2 rfl ?_
        refine v_iconst F (v := (-1)) (dq dkX11_bestBut_0 12 rfl) ki_m1 ?_
        refine v_icmp_eq F (tgt := 48) (dq dkX11_bestBut_0 13 rfl) (by decide) (fun c3 => ?_) (fun c3 => ?_)
        · rw [if_pos c3] at h
          refine v_sub [0, 1, 3] rfl ?_
          exact t_X11_bestBut_48 (f_X11_bestBut_4 y n) y a1 a3 ih h F E
        · rw [if_neg c3] at h
          refine v_aload_n F (dq dkX11_bestBut_0 14 rfl) rfl 0 rfl ?_
          refine v_iload_n F (dq dkX11_bestBut_0 15 rfl) rfl 3 rfl ?_
          obtain ⟨r4, e5, h⟩ := bd_of h
          refine v_callV 1 F (q := 61) (kc1 := 0) (ks1 := 0) (as := [.int a3]) (st := []) (st1 := (.long r4 :: [])) (res := (some (.long r4))) (c_X11_meanAbove (l := C.2.1) x y a3 e5) (xnM (by decide)) xc_61 rfl (tc45 _ (List.mem_of_getElem? (i := 0) rfl)) (tc45 _ (List.mem_of_getElem? (i := 1) rfl)) (tc45 _ (List.mem_of_getElem? (i := 2) rfl)) (tc1 _ (List.mem_of_getElem? (i := 5) rfl)) (tc45 _ (List.mem_of_getElem? (i := 3) rfl)) (by decide) rfl ⟨rfl, rfl, Nat.le_of_ble_eq_true rfl, Nat.le_of_ble_eq_true rfl⟩ ⟨Nat.le_of_ble_eq_true rfl, Nat.le_of_ble_eq_true rfl⟩ rfl (Nat.le_of_ble_eq_true rfl) rfl rfl rfl (dq dkX11_bestBut_0 16 rfl) ?_
          refine v_aload_n F (dq dkX11_bestBut_0 17 rfl) rfl 0 rfl ?_
          refine v_iload_n F (dq dkX11_bestBut_0 18 rfl) rfl 2 rfl ?_
          obtain ⟨r6, e7, h⟩ := bd_of h
          refine v_callV 1 F (q := 61) (kc1 := 0) (ks1 := 0) (as := [.int a2]) (st := [.long r4]) (st1 := (.long r6 :: [.long r4])) (res := (some (.long r6))) (c_X11_meanBelow (l := C.2.1) x y a2 e7) (xnM (by decide)) xc_61 rfl (tc45 _ (List.mem_of_getElem? (i := 8) rfl)) (tc45 _ (List.mem_of_getElem? (i := 9) rfl)) (tc45 _ (List.mem_of_getElem? (i := 10) rfl)) (tc1 _ (List.mem_of_getElem? (i := 5) rfl)) (tc45 _ (List.mem_of_getElem? (i := 11) rfl)) (by decide) rfl ⟨rfl, rfl, Nat.le_of_ble_eq_true rfl, Nat.le_of_ble_eq_true rfl⟩ ⟨Nat.le_of_ble_eq_true rfl, Nat.le_of_ble_eq_true rfl⟩ rfl (Nat.le_of_ble_eq_true rfl) rfl rfl rfl (dq dkX11_bestBut_0 19 rfl) ?_
          refine v_lmul F (dq dkX11_bestBut_0 20 rfl) ?_
          refine v_aload_n F (dq dkX11_bestBut_0 21 rfl) rfl 0 rfl ?_
          refine v_iload_n F (dq dkX11_bestBut_0 22 rfl) rfl 2 rfl ?_
          obtain ⟨r8, e9, h⟩ := bd_of h
          refine v_callV 1 F (q := 61) (kc1 := 0) (ks1 := 0) (as := [.int a2]) (st := [.long (r4 * r6)]) (st1 := (.long r8 :: [.long (r4 * r6)])) (res := (some (.long r8))) (c_X11_meanAbove (l := C.2.1) x y a2 e9) (xnM (by decide)) xc_61 rfl (tc45 _ (List.mem_of_getElem? (i := 0) rfl)) (tc45 _ (List.mem_of_getElem? (i := 1) rfl)) (tc45 _ (List.mem_of_getElem? (i := 2) rfl)) (tc1 _ (List.mem_of_getElem? (i := 5) rfl)) (tc45 _ (List.mem_of_getElem? (i := 3) rfl)) (by decide) rfl ⟨rfl, rfl, Nat.le_of_ble_eq_true rfl, Nat.le_of_ble_eq_true rfl⟩ ⟨Nat.le_of_ble_eq_true rfl, Nat.le_of_ble_eq_true rfl⟩ rfl (Nat.le_of_ble_eq_true rfl) rfl rfl rfl (dq dkX11_bestBut_0 23 rfl) ?_
          refine v_aload_n F (dq dkX11_bestBut_0 24 rfl) rfl 0 rfl ?_
          refine v_iload_n F (dq dkX11_bestBut_0 25 rfl) rfl 3 rfl ?_
          obtain ⟨r10, e11, h⟩ := bd_of h
          refine v_callV 1 F (q := 61) (kc1 := 0) (ks1 := 0) (as := [.int a3]) (st := [.long r8, .long (r4 * r6)]) (st1 := (.long r10 :: [.long r8, .long (r4 * r6)])) (res := (some (.long r10))) (c_X11_meanBelow (l := C.2.1) x y a3 e11) (xnM (by decide)) xc_61 rfl (tc45 _ (List.mem_of_getElem? (i := 8) rfl)) (tc45 _ (List.mem_of_getElem? (i := 9) rfl)) (tc45 _ (List.mem_of_getElem? (i := 10) rfl)) (tc1 _ (List.mem_of_getElem? (i := 5) rfl)) (tc45 _ (List.mem_of_getElem? (i := 11) rfl)) (by decide) rfl ⟨rfl, rfl, Nat.le_of_ble_eq_true rfl, Nat.le_of_ble_eq_true rfl⟩ ⟨Nat.le_of_ble_eq_true rfl, Nat.le_of_ble_eq_true rfl⟩ rfl (Nat.le_of_ble_eq_true rfl) rfl rfl rfl (dq dkX11_bestBut_0 26 rfl) ?_
          refine v_lmul F (dq dkX11_bestBut_0 27 rfl) ?_
          refine v_lcmp F (dq dkX11_bestBut_0 28 rfl) ?_
          refine v_if_le F (tgt := 50) (dq dkX11_bestBut_0 29 rfl) (by decide) (fun c12 => ?_) (fun c12 => ?_)
          · rw [if_pos c12] at h
            exact t_X11_bestBut_50 (f_X11_bestBut_4 y n) y a1 a2 a3 ih h F E
          · rw [if_neg c12] at h
            refine v_sub [0, 1, 3] rfl ?_
            exact t_X11_bestBut_48 (f_X11_bestBut_4 y n) y a1 a3 ih h F E
def f_X11_bestBut (y : MS) (a1 : Int32) : Option (Int32) := f_X11_bestBut_4 y 1000 a1 (-1) 0
set_option maxRecDepth 100000 in
set_option maxHeartbeats 4000000 in
theorem c_X11_bestBut {K : KE} {l : Launch} {R : Int32} {nn : Nat} (x : CS) (y : MS) (a1 : Int32) (h : f_X11_bestBut y a1 = some R) : MC K l yX11_bestBut cX11_bestBut 4 (some .int) rm_X11_bestBut 0 0 [.ref (K.1 + 61), .int a1] (xfM K nn x y) (xfM K nn x y) (some (.int R)) := by
  unfold f_X11_bestBut at h
  refine mc_of (ls0 := [(0, .ref (K.1 + 61)), (1, .int a1)]) (by decide) (Nat.le_of_ble_eq_true rfl) rfl (fun C hl hnm F E => ?_)
  have F : Fx C RX11 cX11_bestBut 4 rm_X11_bestBut K := F
  refine v_iconst F (v := (-1)) (dq dkX11_bestBut_0 0 rfl) ki_m1 ?_
  refine v_istore_n F (ls' := [(2, .int (-1)), (0, .ref (K.1 + 61)), (1, .int a1)]) (dq dkX11_bestBut_0 1 rfl) rfl (by decide) rfl ?_
  refine v_iconst F (v := 0) (dq dkX11_bestBut_0 2 rfl) ki_0 ?_
  refine v_istore_n F (ls' := [(3, .int 0), (2, .int (-1)), (0, .ref (K.1 + 61)), (1, .int a1)]) (dq dkX11_bestBut_0 3 rfl) rfl (by decide) rfl ?_
  refine v_sub [2, 3, 1, 0] rfl ?_
  exact t_X11_bestBut_4 y F E 1000 a1 (-1) 0 h
def rm_X11_which : Room := { frames := 4, cells := 0, slots := 0, locals := 100 }
def f_X11_which (y : MS) : Option (Int32) := (f_X11_bestBut y (-1)).bind fun r1 => some r1
set_option maxRecDepth 100000 in
set_option maxHeartbeats 4000000 in
theorem c_X11_which {K : KE} {l : Launch} {R : Int32} {nn : Nat} (x : CS) (y : MS) (h : f_X11_which y = some R) : MC K l yX11_which cX11_which 1 (some .int) rm_X11_which 0 0 [.ref (K.1 + 61)] (xfM K nn x y) (xfM K nn x y) (some (.int R)) := by
  unfold f_X11_which at h
  refine mc_of (ls0 := [(0, .ref (K.1 + 61))]) (by decide) (Nat.le_of_ble_eq_true rfl) rfl (fun C hl hnm F E => ?_)
  have F : Fx C RX11 cX11_which 1 rm_X11_which K := F
  refine v_aload_n F (dq dkX11_which_0 0 rfl) rfl 0 rfl ?_
  refine v_iconst F (v := (-1)) (dq dkX11_which_0 1 rfl) ki_m1 ?_
  obtain ⟨r1, e2, h⟩ := bd_of h
  refine v_callV 1 F (q := 61) (kc1 := 0) (ks1 := 0) (as := [.int (-1)]) (st := []) (st1 := (.int r1 :: [])) (res := (some (.int r1))) (c_X11_bestBut (l := C.2.1) x y (-1) e2) (xnM (by decide)) xc_61 rfl (tc46 _ (List.mem_of_getElem? (i := 12) rfl)) (tc46 _ (List.mem_of_getElem? (i := 13) rfl)) (tc46 _ (List.mem_of_getElem? (i := 14) rfl)) (tc1 _ (List.mem_of_getElem? (i := 5) rfl)) (tc46 _ (List.mem_of_getElem? (i := 15) rfl)) (by decide) rfl ⟨rfl, rfl, Nat.le_of_ble_eq_true rfl, Nat.le_of_ble_eq_true rfl⟩ ⟨Nat.le_of_ble_eq_true rfl, Nat.le_of_ble_eq_true rfl⟩ rfl (Nat.le_of_ble_eq_true rfl) rfl rfl rfl (dq dkX11_which_0 2 rfl) ?_
  have h := Option.some.inj h
  subst h
  exact v_iret F E (dq dkX11_which_0 3 rfl)
def rm_X11_boringAbove : Room := { frames := 4, cells := 0, slots := 0, locals := 100 }
def f_X11_boringAbove_162 (y : MS) (s0 : Int64) (s1 : Int64) : Option (Int64 × MS) := some (s1 - s0, y)
set_option maxRecDepth 100000 in
set_option maxHeartbeats 4000000 in
theorem t_X11_boringAbove_162 {C : Cx} {K : KE} {nn : Nat} {x : CS} {R : Int64 × MS}  (y : MS) (s0 : Int64) (s1 : Int64) (h : f_X11_boringAbove_162 y s0 s1 = some R) (F : Fx C RX11 cX11_boringAbove 14 rm_X11_boringAbove K) (E : CE C (xfM K nn x R.2) (some (.long R.1)) 0 0 (some .long)) : V C 162 [] [.long s0, .long s1] (xfM K nn x y) 0 0 := by
  unfold f_X11_boringAbove_162 at h
  refine v_lsub F (dq dkX11_boringAbove_2 16 rfl) ?_
  have h := Option.some.inj h
  subst h
  exact v_lret F E (dq dkX11_boringAbove_2 17 rfl)
def f_X11_boringAbove_112 (k67 : MS → Int32 → Int64 → Int64 → Int64 → Int64 → Int32 → Option (Int64 × MS)) (y : MS) (a1 : Int32) (a3 : Int64) (a5 : Int64) (a7 : Int64) (a11 : Int32) (s0 : Int64) (s1 : Int64) (s2 : Int64) : Option (Int64 × MS) := k67 y a1 a3 a5 a7 (s2 + (s1 * s0)) (a11 + 1)
set_option maxRecDepth 100000 in
set_option maxHeartbeats 4000000 in
theorem t_X11_boringAbove_112 {C : Cx} {K : KE} {nn : Nat} {x : CS} {R : Int64 × MS}  (k67 : MS → Int32 → Int64 → Int64 → Int64 → Int64 → Int32 → Option (Int64 × MS)) (y : MS) (a1 : Int32) (a3 : Int64) (a5 : Int64) (a7 : Int64) (a11 : Int32) (s0 : Int64) (s1 : Int64) (s2 : Int64) (hk67 : ∀ (y : MS) (a1 : Int32) (a3 : Int64) (a5 : Int64) (a7 : Int64) (a9 : Int64) (a11 : Int32), k67 y a1 a3 a5 a7 a9 a11 = some R → V C 67 [(0, .ref (K.1 + 61)), (1, .int a1), (3, .long a3), (5, .long a5), (7, .long a7), (9, .long a9), (11, .int a11)] [] (xfM K nn x y) 0 0) (h : f_X11_boringAbove_112 k67 y a1 a3 a5 a7 a11 s0 s1 s2 = some R) (F : Fx C RX11 cX11_boringAbove 14 rm_X11_boringAbove K) (E : CE C (xfM K nn x R.2) (some (.long R.1)) 0 0 (some .long)) : V C 112 [(0, .ref (K.1 + 61)), (1, .int a1), (3, .long a3), (5, .long a5), (7, .long a7), (11, .int a11)] [.long s0, .long s1, .long s2] (xfM K nn x y) 0 0 := by
  unfold f_X11_boringAbove_112 at h
  refine v_lmul F (dq dkX11_boringAbove_1 28 rfl) ?_
  refine v_ladd F (dq dkX11_boringAbove_1 29 rfl) ?_
  refine v_lstore F (ls' := [(9, .long (s2 + (s1 * s0))), (0, .ref (K.1 + 61)), (1, .int a1), (3, .long a3), (5, .long a5), (7, .long a7), (11, .int a11)]) (dq dkX11_boringAbove_1 30 rfl) (by decide) rfl ?_
  refine v_iinc F (v := a11 + 1) (ls' := [(11, .int (a11 + 1)), (9, .long (s2 + (s1 * s0))), (0, .ref (K.1 + 61)), (1, .int a1), (3, .long a3), (5, .long a5), (7, .long a7)]) (dq dkX11_boringAbove_1 31 rfl) (j := 6) rfl (kv_add ki_1) (by decide) rfl ?_
  refine v_goto F (tgt := 67) (dq dkX11_boringAbove_1 32 rfl) (by decide) ?_
  refine v_sub [2, 3, 4, 5, 6, 1, 0] rfl ?_
  exact hk67 y a1 a3 a5 a7 (s2 + (s1 * s0)) (a11 + 1) h
def f_X11_boringAbove_67 : Nat → MS → Int32 → Int64 → Int64 → Int64 → Int64 → Int32 → Option (Int64 × MS)
  | 0, _, _, _, _, _, _, _ => none
  | n + 1, y, a1, a3, a5, a7, a9, a11 => if 5 ≤ a11 then ((f_X11_meanAbove (pmbb y (a7 * a5)) a1).bind fun r2 => if (lg_cmp (r2 * a5) (a3 * a7)) ≤ 0 then (f_X11_boringAbove_162 (pmbb y (a7 * a5)) (a3 * a7) a9) else (f_X11_boringAbove_162 (pmbb y (a7 * a5)) (r2 * a5) a9)) else ((f_X11_goodOf y a1 a11).bind fun r5 => gd (ib ((5 * a1) + a11) 30) (if (lg_cmp (r5 * a5) a3) ≤ 0 then (f_X11_boringAbove_112 (f_X11_boringAbove_67 n) y a1 a3 a5 a7 a11 a3 ((gi y 69 ((5 * a1) + a11).toNatClampNeg).toInt64) a9) else (f_X11_boringAbove_112 (f_X11_boringAbove_67 n) y a1 a3 a5 a7 a11 (r5 * a5) ((gi y 69 ((5 * a1) + a11).toNatClampNeg).toInt64) a9)))
set_option maxRecDepth 100000 in
set_option maxHeartbeats 4000000 in
theorem t_X11_boringAbove_67 {C : Cx} {K : KE} {nn : Nat} {x : CS} {R : Int64 × MS}  (F : Fx C RX11 cX11_boringAbove 14 rm_X11_boringAbove K) (E : CE C (xfM K nn x R.2) (some (.long R.1)) 0 0 (some .long)) : ∀ (n : Nat) (y : MS) (a1 : Int32) (a3 : Int64) (a5 : Int64) (a7 : Int64) (a9 : Int64) (a11 : Int32) (h : f_X11_boringAbove_67 n y a1 a3 a5 a7 a9 a11 = some R), V C 67 [(0, .ref (K.1 + 61)), (1, .int a1), (3, .long a3), (5, .long a5), (7, .long a7), (9, .long a9), (11, .int a11)] [] (xfM K nn x y) 0 0 := by
  intro n
  induction n with
  | zero => intro y a1 a3 a5 a7 a9 a11 h; cases h
  | succ n ih =>
    intro y a1 a3 a5 a7 a9 a11 h
    rw [f_X11_boringAbove_67] at h
    refine v_iload F (dq dkX11_boringAbove_1 1 rfl) 6 rfl ?_
    refine v_iconst F (v := 5) (dq dkX11_boringAbove_1 2 rfl) ki_5 ?_
    refine v_icmp_ge F (tgt := 122) (dq dkX11_boringAbove_1 3 rfl) (by decide) (fun c1 => ?_) (fun c1 => ?_)
    · rw [if_pos c1] at h
      refine v_aload_n F (dq dkX11_boringAbove_1 33 rfl) rfl 0 rfl ?_
      refine v_lload F (dq dkX11_boringAbove_1 34 rfl) 4 rfl ?_
      refine v_lload F (dq dkX11_boringAbove_1 35 rfl) 3 rfl ?_
      refine v_lmul F (dq dkX11_boringAbove_1 36 rfl) ?_
      refine v_put F 61 (xnM (by decide)) xc_61 rfl inlX11 tyX11_ok nmX11 50 (by decide) (tc47 _ (List.mem_of_getElem? (i := 8) rfl)) rfl rfl (tyX11_ok 50 (by decide)) rfl rfl (Nat.le_of_ble_eq_true rfl) (dq dkX11_boringAbove_1 37 rfl) ?_
      refine v_eqM (xw_mbb (v := a7 * a5)) ?_
      refine v_aload_n F (dq dkX11_boringAbove_1 38 rfl) rfl 0 rfl ?_
      refine v_iload_n F (dq dkX11_boringAbove_1 39 rfl) rfl 1 rfl ?_
      obtain ⟨r2, e3, h⟩ := bd_of h
      refine v_callV 1 F (q := 61) (kc1 := 0) (ks1 := 0) (as := [.int a1]) (st := []) (st1 := (.long r2 :: [])) (res := (some (.long r2))) (c_X11_meanAbove (l := C.2.1) x (pmbb y (a7 * a5)) a1 e3) (xnM (by decide)) xc_61 rfl (tc45 _ (List.mem_of_getElem? (i := 0) rfl)) (tc45 _ (List.mem_of_getElem? (i := 1) rfl)) (tc45 _ (List.mem_of_getElem? (i := 2) rfl)) (tc1 _ (List.mem_of_getElem? (i := 5) rfl)) (tc45 _ (List.mem_of_getElem? (i := 3) rfl)) (by decide) rfl ⟨rfl, rfl, Nat.le_of_ble_eq_true rfl, Nat.le_of_ble_eq_true rfl⟩ ⟨Nat.le_of_ble_eq_true rfl, Nat.le_of_ble_eq_true rfl⟩ rfl (Nat.le_of_ble_eq_true rfl) rfl rfl rfl (dq dkX11_boringAbove_2 0 rfl) ?_
      refine v_lload F (dq dkX11_boringAbove_2 1 rfl) 3 rfl ?_
      refine v_lmul F (dq dkX11_boringAbove_2 2 rfl) ?_
      refine v_lstore F (ls' := [(11, .long (r2 * a5)), (0, .ref (K.1 + 61)), (1, .int a1), (3, .long a3), (5, .long a5), (7, .long a7), (9, .long a9)]) (dq dkX11_boringAbove_2 3 rfl) (by decide) rfl ?_
      refine v_lload F (dq dkX11_boringAbove_2 4 rfl) 6 rfl ?_
      refine v_lload F (dq dkX11_boringAbove_2 5 rfl) 0 rfl ?_
      refine v_lload_n F (dq dkX11_boringAbove_2 6 rfl) rfl 3 rfl ?_
      refine v_lload F (dq dkX11_boringAbove_2 7 rfl) 5 rfl ?_
      refine v_lmul F (dq dkX11_boringAbove_2 8 rfl) ?_
      refine v_lcmp F (dq dkX11_boringAbove_2 9 rfl) ?_
      refine v_if_le F (tgt := 158) (dq dkX11_boringAbove_2 10 rfl) (by decide) (fun c4 => ?_) (fun c4 => ?_)
      · rw [if_pos c4] at h
        refine v_lload_n F (dq dkX11_boringAbove_2 13 rfl) rfl 3 rfl ?_
        refine v_lload F (dq dkX11_boringAbove_2 14 rfl) 5 rfl ?_
        refine v_lmul F (dq dkX11_boringAbove_2 15 rfl) ?_
        refine v_sub [] rfl ?_
        exact t_X11_boringAbove_162 (pmbb y (a7 * a5)) (a3 * a7) a9 h F E
      · rw [if_neg c4] at h
        refine v_lload F (dq dkX11_boringAbove_2 11 rfl) 0 rfl ?_
        refine v_goto F (tgt := 162) (dq dkX11_boringAbove_2 12 rfl) (by decide) ?_
        refine v_sub [] rfl ?_
        exact t_X11_boringAbove_162 (pmbb y (a7 * a5)) (r2 * a5) a9 h F E
    · rw [if_neg c1] at h
      refine v_aload_n F (dq dkX11_boringAbove_1 4 rfl) rfl 0 rfl ?_
      refine v_iload_n F (dq dkX11_boringAbove_1 5 rfl) rfl 1 rfl ?_
      refine v_iload F (dq dkX11_boringAbove_1 6 rfl) 6 rfl ?_
      obtain ⟨r5, e6, h⟩ := bd_of h
      refine v_callV 2 F (q := 61) (kc1 := 0) (ks1 := 0) (as := [.int a1, .int a11]) (st := []) (st1 := (.long r5 :: [])) (res := (some (.long r5))) (c_X11_goodOf (l := C.2.1) x y a1 a11 e6) (xnM (by decide)) xc_61 rfl (tc45 _ (List.mem_of_getElem? (i := 4) rfl)) (tc45 _ (List.mem_of_getElem? (i := 5) rfl)) (tc45 _ (List.mem_of_getElem? (i := 6) rfl)) (tc1 _ (List.mem_of_getElem? (i := 5) rfl)) (tc45 _ (List.mem_of_getElem? (i := 7) rfl)) (by decide) rfl ⟨rfl, rfl, Nat.le_of_ble_eq_true rfl, Nat.le_of_ble_eq_true rfl⟩ ⟨Nat.le_of_ble_eq_true rfl, Nat.le_of_ble_eq_true rfl⟩ rfl (Nat.le_of_ble_eq_true rfl) rfl rfl rfl (dq dkX11_boringAbove_1 7 rfl) ?_
      refine v_lload F (dq dkX11_boringAbove_1 8 rfl) 3 rfl ?_
      refine v_lmul F (dq dkX11_boringAbove_1 9 rfl) ?_
      refine v_lstore F (ls' := [(12, .long (r5 * a5)), (0, .ref (K.1 + 61)), (1, .int a1), (3, .long a3), (5, .long a5), (7, .long a7), (9, .long a9), (11, .int a11)]) (dq dkX11_boringAbove_1 10 rfl) (by decide) rfl ?_
      refine v_lload F (dq dkX11_boringAbove_1 11 rfl) 6 rfl ?_
      refine v_aload_n F (dq dkX11_boringAbove_1 12 rfl) rfl 1 rfl ?_
      refine v_get F 61 (xnM (by decide)) xc_61 rfl inlX11 14 (by decide) (tc12 _ (List.mem_of_getElem? (i := 3) rfl)) rfl rfl (dq dkX11_boringAbove_1 13 rfl) ?_
      refine v_iconst F (v := 5) (dq dkX11_boringAbove_1 14 rfl) ki_5 ?_
      refine v_iload_n F (dq dkX11_boringAbove_1 15 rfl) rfl 2 rfl ?_
      refine v_imul F (dq dkX11_boringAbove_1 16 rfl) ?_
      refine v_iload F (dq dkX11_boringAbove_1 17 rfl) 7 rfl ?_
      refine v_iadd F (dq dkX11_boringAbove_1 18 rfl) ?_
      obtain ⟨g7, h⟩ := gd_of h
      refine v_iald F 69 (xnM (by decide)) xc_69 (ib_in g7) (dq dkX11_boringAbove_1 19 rfl) ?_
      refine v_i2l F (dq dkX11_boringAbove_1 20 rfl) ?_
      refine v_lload F (dq dkX11_boringAbove_1 21 rfl) 0 rfl ?_
      refine v_lload_n F (dq dkX11_boringAbove_1 22 rfl) rfl 3 rfl ?_
      refine v_lcmp F (dq dkX11_boringAbove_1 23 rfl) ?_
      refine v_if_le F (tgt := 111) (dq dkX11_boringAbove_1 24 rfl) (by decide) (fun c8 => ?_) (fun c8 => ?_)
      · rw [if_pos c8] at h
        refine v_lload_n F (dq dkX11_boringAbove_1 27 rfl) rfl 3 rfl ?_
        refine v_sub [1, 2, 3, 4, 5, 7] rfl ?_
        exact t_X11_boringAbove_112 (f_X11_boringAbove_67 n) y a1 a3 a5 a7 a11 a3 ((gi y 69 ((5 * a1) + a11).toNatClampNeg).toInt64) a9 ih h F E
      · rw [if_neg c8] at h
        refine v_lload F (dq dkX11_boringAbove_1 25 rfl) 0 rfl ?_
        refine v_goto F (tgt := 112) (dq dkX11_boringAbove_1 26 rfl) (by decide) ?_
        refine v_sub [1, 2, 3, 4, 5, 7] rfl ?_
        exact t_X11_boringAbove_112 (f_X11_boringAbove_67 n) y a1 a3 a5 a7 a11 (r5 * a5) ((gi y 69 ((5 * a1) + a11).toNatClampNeg).toInt64) a9 ih h F E
def f_X11_boringAbove_52 (y : MS) (a1 : Int32) (a3 : Int64) (s0 : Int64) : Option (Int64 × MS) := (f_X11_meanBelow y a1).bind fun r9 => f_X11_boringAbove_67 1000 y a1 a3 s0 r9 0 0
set_option maxRecDepth 100000 in
set_option maxHeartbeats 4000000 in
theorem t_X11_boringAbove_52 {C : Cx} {K : KE} {nn : Nat} {x : CS} {R : Int64 × MS}  (y : MS) (a1 : Int32) (a3 : Int64) (s0 : Int64) (h : f_X11_boringAbove_52 y a1 a3 s0 = some R) (F : Fx C RX11 cX11_boringAbove 14 rm_X11_boringAbove K) (E : CE C (xfM K nn x R.2) (some (.long R.1)) 0 0 (some .long)) : V C 52 [(0, .ref (K.1 + 61)), (1, .int a1), (3, .long a3)] [.long s0] (xfM K nn x y) 0 0 := by
  unfold f_X11_boringAbove_52 at h
  refine v_lstore F (ls' := [(5, .long s0), (0, .ref (K.1 + 61)), (1, .int a1), (3, .long a3)]) (dq dkX11_boringAbove_0 32 rfl) (by decide) rfl ?_
  refine v_aload_n F (dq dkX11_boringAbove_0 33 rfl) rfl 1 rfl ?_
  refine v_iload_n F (dq dkX11_boringAbove_0 34 rfl) rfl 2 rfl ?_
  obtain ⟨r9, e10, h⟩ := bd_of h
  refine v_callV 1 F (q := 61) (kc1 := 0) (ks1 := 0) (as := [.int a1]) (st := []) (st1 := (.long r9 :: [])) (res := (some (.long r9))) (c_X11_meanBelow (l := C.2.1) x y a1 e10) (xnM (by decide)) xc_61 rfl (tc45 _ (List.mem_of_getElem? (i := 8) rfl)) (tc45 _ (List.mem_of_getElem? (i := 9) rfl)) (tc45 _ (List.mem_of_getElem? (i := 10) rfl)) (tc1 _ (List.mem_of_getElem? (i := 5) rfl)) (tc45 _ (List.mem_of_getElem? (i := 11) rfl)) (by decide) rfl ⟨rfl, rfl, Nat.le_of_ble_eq_true rfl, Nat.le_of_ble_eq_true rfl⟩ ⟨Nat.le_of_ble_eq_true rfl, Nat.le_of_ble_eq_true rfl⟩ rfl (Nat.le_of_ble_eq_true rfl) rfl rfl rfl (dq dkX11_boringAbove_0 35 rfl) ?_
  refine v_lstore F (ls' := [(7, .long r9), (5, .long s0), (0, .ref (K.1 + 61)), (1, .int a1), (3, .long a3)]) (dq dkX11_boringAbove_0 36 rfl) (by decide) rfl ?_
  refine v_lconst F (v := 0) (dq dkX11_boringAbove_0 37 rfl) rfl ?_
  refine v_lstore F (ls' := [(9, .long 0), (7, .long r9), (5, .long s0), (0, .ref (K.1 + 61)), (1, .int a1), (3, .long a3)]) (dq dkX11_boringAbove_0 38 rfl) (by decide) rfl ?_
  refine v_iconst F (v := 0) (dq dkX11_boringAbove_0 39 rfl) ki_0 ?_
  refine v_istore F (ls' := [(11, .int 0), (9, .long 0), (7, .long r9), (5, .long s0), (0, .ref (K.1 + 61)), (1, .int a1), (3, .long a3)]) (dq dkX11_boringAbove_1 0 rfl) (by decide) rfl ?_
  refine v_sub [4, 5, 6, 3, 2, 1, 0] rfl ?_
  exact t_X11_boringAbove_67 F E 1000 y a1 a3 s0 r9 0 0 h
def f_X11_boringAbove_37 (y : MS) (a1 : Int32) (a2 : Int32) (s0 : Int64) : Option (Int64 × MS) := if a2 = (-1) then (f_X11_boringAbove_52 y a1 s0 1) else ((f_X11_meanBelow y a2).bind fun r12 => f_X11_boringAbove_52 y a1 s0 r12)
set_option maxRecDepth 100000 in
set_option maxHeartbeats 4000000 in
theorem t_X11_boringAbove_37 {C : Cx} {K : KE} {nn : Nat} {x : CS} {R : Int64 × MS}  (y : MS) (a1 : Int32) (a2 : Int32) (s0 : Int64) (h : f_X11_boringAbove_37 y a1 a2 s0 = some R) (F : Fx C RX11 cX11_boringAbove 14 rm_X11_boringAbove K) (E : CE C (xfM K nn x R.2) (some (.long R.1)) 0 0 (some .long)) : V C 37 [(0, .ref (K.1 + 61)), (1, .int a1), (2, .int a2)] [.long s0] (xfM K nn x y) 0 0 := by
  unfold f_X11_boringAbove_37 at h
  refine v_lstore_n F (ls' := [(3, .long s0), (0, .ref (K.1 + 61)), (1, .int a1), (2, .int a2)]) (dq dkX11_boringAbove_0 23 rfl) rfl (by decide) rfl ?_
  refine v_iload_n F (dq dkX11_boringAbove_0 24 rfl) rfl 3 rfl ?_
  refine v_iconst F (v := (-1)) (dq dkX11_boringAbove_0 25 rfl) ki_m1 ?_
  refine v_icmp_ne F (tgt := 47) (dq dkX11_boringAbove_0 26 rfl) (by decide) (fun c11 => ?_) (fun c11 => ?_)
  · rw [if_neg c11] at h
    refine v_aload_n F (dq dkX11_boringAbove_0 29 rfl) rfl 1 rfl ?_
    refine v_iload_n F (dq dkX11_boringAbove_0 30 rfl) rfl 3 rfl ?_
    obtain ⟨r12, e13, h⟩ := bd_of h
    refine v_callV 1 F (q := 61) (kc1 := 0) (ks1 := 0) (as := [.int a2]) (st := []) (st1 := (.long r12 :: [])) (res := (some (.long r12))) (c_X11_meanBelow (l := C.2.1) x y a2 e13) (xnM (by decide)) xc_61 rfl (tc45 _ (List.mem_of_getElem? (i := 8) rfl)) (tc45 _ (List.mem_of_getElem? (i := 9) rfl)) (tc45 _ (List.mem_of_getElem? (i := 10) rfl)) (tc1 _ (List.mem_of_getElem? (i := 5) rfl)) (tc45 _ (List.mem_of_getElem? (i := 11) rfl)) (by decide) rfl ⟨rfl, rfl, Nat.le_of_ble_eq_true rfl, Nat.le_of_ble_eq_true rfl⟩ ⟨Nat.le_of_ble_eq_true rfl, Nat.le_of_ble_eq_true rfl⟩ rfl (Nat.le_of_ble_eq_true rfl) rfl rfl rfl (dq dkX11_boringAbove_0 31 rfl) ?_
    refine v_sub [1, 2, 0] rfl ?_
    exact t_X11_boringAbove_52 y a1 s0 r12 h F E
  · rw [if_pos c11] at h
    refine v_lconst F (v := 1) (dq dkX11_boringAbove_0 27 rfl) rfl ?_
    refine v_goto F (tgt := 52) (dq dkX11_boringAbove_0 28 rfl) (by decide) ?_
    refine v_sub [1, 2, 0] rfl ?_
    exact t_X11_boringAbove_52 y a1 s0 1 h F E
def f_X11_boringAbove (y : MS) (a1 : Int32) : Option (Int64 × MS) := gd (ib a1 6) (if (gi (pmbb y 1) 70 a1.toNatClampNeg) = (-1) then ((f_X11_bestBut (pmbb y 1) a1).bind fun r16 => if r16 = (-1) then (f_X11_boringAbove_37 (pmbb y 1) a1 r16 0) else ((f_X11_meanAbove (pmbb y 1) r16).bind fun r19 => f_X11_boringAbove_37 (pmbb y 1) a1 r16 r19)) else (some (0, pmbb y 1)))
set_option maxRecDepth 100000 in
set_option maxHeartbeats 4000000 in
theorem c_X11_boringAbove {K : KE} {l : Launch} {R : Int64 × MS} {nn : Nat} (x : CS) (y : MS) (a1 : Int32) (h : f_X11_boringAbove y a1 = some R) : MC K l yX11_boringAbove cX11_boringAbove 14 (some .long) rm_X11_boringAbove 0 0 [.ref (K.1 + 61), .int a1] (xfM K nn x y) (xfM K nn x R.2) (some (.long R.1)) := by
  unfold f_X11_boringAbove at h
  refine mc_of (ls0 := [(0, .ref (K.1 + 61)), (1, .int a1)]) (by decide) (Nat.le_of_ble_eq_true rfl) rfl (fun C hl hnm F E => ?_)
  have F : Fx C RX11 cX11_boringAbove 14 rm_X11_boringAbove K := F
  refine v_aload_n F (dq dkX11_boringAbove_0 0 rfl) rfl 0 rfl ?_
  refine v_lconst F (v := 1) (dq dkX11_boringAbove_0 1 rfl) rfl ?_
  refine v_put F 61 (xnM (by decide)) xc_61 rfl inlX11 tyX11_ok nmX11 50 (by decide) (tc47 _ (List.mem_of_getElem? (i := 8) rfl)) rfl rfl (tyX11_ok 50 (by decide)) rfl rfl (Nat.le_of_ble_eq_true rfl) (dq dkX11_boringAbove_0 2 rfl) ?_
  refine v_eqM (xw_mbb (v := 1)) ?_
  refine v_aload_n F (dq dkX11_boringAbove_0 3 rfl) rfl 0 rfl ?_
  refine v_get F 61 (xnM (by decide)) xc_61 rfl inlX11 15 (by decide) (tc12 _ (List.mem_of_getElem? (i := 4) rfl)) rfl rfl (dq dkX11_boringAbove_0 4 rfl) ?_
  refine v_iload_n F (dq dkX11_boringAbove_0 5 rfl) rfl 1 rfl ?_
  obtain ⟨g14, h⟩ := gd_of h
  refine v_iald F 70 (xnM (by decide)) xc_70 (ib_in g14) (dq dkX11_boringAbove_0 6 rfl) ?_
  refine v_iconst F (v := (-1)) (dq dkX11_boringAbove_0 7 rfl) ki_m1 ?_
  refine v_icmp_eq F (tgt := 17) (dq dkX11_boringAbove_0 8 rfl) (by decide) (fun c15 => ?_) (fun c15 => ?_)
  · rw [if_pos c15] at h
    refine v_aload_n F (dq dkX11_boringAbove_0 11 rfl) rfl 0 rfl ?_
    refine v_iload_n F (dq dkX11_boringAbove_0 12 rfl) rfl 1 rfl ?_
    obtain ⟨r16, e17, h⟩ := bd_of h
    refine v_callV 1 F (q := 61) (kc1 := 0) (ks1 := 0) (as := [.int a1]) (st := []) (st1 := (.int r16 :: [])) (res := (some (.int r16))) (c_X11_bestBut (l := C.2.1) x (pmbb y 1) a1 e17) (xnM (by decide)) xc_61 rfl (tc46 _ (List.mem_of_getElem? (i := 12) rfl)) (tc46 _ (List.mem_of_getElem? (i := 13) rfl)) (tc46 _ (List.mem_of_getElem? (i := 14) rfl)) (tc1 _ (List.mem_of_getElem? (i := 5) rfl)) (tc46 _ (List.mem_of_getElem? (i := 15) rfl)) (by decide) rfl ⟨rfl, rfl, Nat.le_of_ble_eq_true rfl, Nat.le_of_ble_eq_true rfl⟩ ⟨Nat.le_of_ble_eq_true rfl, Nat.le_of_ble_eq_true rfl⟩ rfl (Nat.le_of_ble_eq_true rfl) rfl rfl rfl (dq dkX11_boringAbove_0 13 rfl) ?_
    refine v_istore_n F (ls' := [(2, .int r16), (0, .ref (K.1 + 61)), (1, .int a1)]) (dq dkX11_boringAbove_0 14 rfl) rfl (by decide) rfl ?_
    refine v_iload_n F (dq dkX11_boringAbove_0 15 rfl) rfl 0 rfl ?_
    refine v_iconst F (v := (-1)) (dq dkX11_boringAbove_0 16 rfl) ki_m1 ?_
    refine v_icmp_ne F (tgt := 32) (dq dkX11_boringAbove_0 17 rfl) (by decide) (fun c18 => ?_) (fun c18 => ?_)
    · rw [if_neg c18] at h
      refine v_aload_n F (dq dkX11_boringAbove_0 20 rfl) rfl 1 rfl ?_
      refine v_iload_n F (dq dkX11_boringAbove_0 21 rfl) rfl 0 rfl ?_
      obtain ⟨r19, e20, h⟩ := bd_of h
      refine v_callV 1 F (q := 61) (kc1 := 0) (ks1 := 0) (as := [.int r16]) (st := []) (st1 := (.long r19 :: [])) (res := (some (.long r19))) (c_X11_meanAbove (l := C.2.1) x (pmbb y 1) r16 e20) (xnM (by decide)) xc_61 rfl (tc45 _ (List.mem_of_getElem? (i := 0) rfl)) (tc45 _ (List.mem_of_getElem? (i := 1) rfl)) (tc45 _ (List.mem_of_getElem? (i := 2) rfl)) (tc1 _ (List.mem_of_getElem? (i := 5) rfl)) (tc45 _ (List.mem_of_getElem? (i := 3) rfl)) (by decide) rfl ⟨rfl, rfl, Nat.le_of_ble_eq_true rfl, Nat.le_of_ble_eq_true rfl⟩ ⟨Nat.le_of_ble_eq_true rfl, Nat.le_of_ble_eq_true rfl⟩ rfl (Nat.le_of_ble_eq_true rfl) rfl rfl rfl (dq dkX11_boringAbove_0 22 rfl) ?_
      refine v_sub [1, 2, 0] rfl ?_
      exact t_X11_boringAbove_37 (pmbb y 1) a1 r16 r19 h F E
    · rw [if_pos c18] at h
      refine v_lconst F (v := 0) (dq dkX11_boringAbove_0 18 rfl) rfl ?_
      refine v_goto F (tgt := 37) (dq dkX11_boringAbove_0 19 rfl) (by decide) ?_
      refine v_sub [1, 2, 0] rfl ?_
      exact t_X11_boringAbove_37 (pmbb y 1) a1 r16 0 h F E
  · rw [if_neg c15] at h
    refine v_lconst F (v := 0) (dq dkX11_boringAbove_0 9 rfl) rfl ?_
    have h := Option.some.inj h
    subst h
    exact v_lret F E (dq dkX11_boringAbove_0 10 rfl)
def rm_X11_boring : Room := { frames := 5, cells := 0, slots := 0, locals := 133 }
def f_X11_boring_17 (y : MS) : Option (Int64 × MS) := some ((-4611686018427387904), y)
set_option maxRecDepth 100000 in
set_option maxHeartbeats 4000000 in
theorem t_X11_boring_17 {C : Cx} {K : KE} {nn : Nat} {x : CS} {R : Int64 × MS}  (y : MS) (h : f_X11_boring_17 y = some R) (F : Fx C RX11 cX11_boring 5 rm_X11_boring K) (E : CE C (xfM K nn x R.2) (some (.long R.1)) 0 0 (some .long)) : V C 17 [] [] (xfM K nn x y) 0 0 := by
  unfold f_X11_boring_17 at h
  refine v_ldc2 F (v := (-4611686018427387904)) (tc33 _ (List.mem_of_getElem? (i := 20) rfl)) (dq dkX11_boring_0 9 rfl) ?_
  have h := Option.some.inj h
  subst h
  exact v_lret F E (dq dkX11_boring_0 10 rfl)
def f_X11_boring (y : MS) (a1 : Int32) (a2 : Int32) : Option (Int64 × MS) := if (b2i (f_X11_isTree y a1)) = 0 then (f_X11_boring_17 y) else (if (b2i (f_X11_in a2 0 1)) = 0 then (f_X11_boring_17 y) else ((f_X11_boringAbove y a1).bind fun r5 => (f_X11_lowest r5.1 (gmbb r5.2) a2).bind fun r7 => some (r7, r5.2)))
set_option maxRecDepth 100000 in
set_option maxHeartbeats 4000000 in
theorem c_X11_boring {K : KE} {l : Launch} {R : Int64 × MS} {nn : Nat} (x : CS) (y : MS) (a1 : Int32) (a2 : Int32) (h : f_X11_boring y a1 a2 = some R) : MC K l yX11_boring cX11_boring 5 (some .long) rm_X11_boring 0 0 [.ref (K.1 + 61), .int a1, .int a2] (xfM K nn x y) (xfM K nn x R.2) (some (.long R.1)) := by
  unfold f_X11_boring at h
  refine mc_of (ls0 := [(0, .ref (K.1 + 61)), (1, .int a1), (2, .int a2)]) (by decide) (Nat.le_of_ble_eq_true rfl) rfl (fun C hl hnm F E => ?_)
  have F : Fx C RX11 cX11_boring 5 rm_X11_boring K := F
  refine v_aload_n F (dq dkX11_boring_0 0 rfl) rfl 0 rfl ?_
  refine v_iload_n F (dq dkX11_boring_0 1 rfl) rfl 1 rfl ?_
  refine v_callV 1 F (q := 61) (kc1 := 0) (ks1 := 0) (as := [.int a1]) (st := []) (st1 := (.int (b2i (f_X11_isTree y a1)) :: [])) (res := (some (.int (b2i (f_X11_isTree y a1))))) (c_X11_isTree (l := C.2.1) x y a1) (xnM (by decide)) xc_61 rfl (tc43 _ (List.mem_of_getElem? (i := 21) rfl)) (tc43 _ (List.mem_of_getElem? (i := 22) rfl)) (tc43 _ (List.mem_of_getElem? (i := 23) rfl)) (tc1 _ (List.mem_of_getElem? (i := 5) rfl)) (tc44 _ (List.mem_of_getElem? (i := 0) rfl)) (by decide) rfl ⟨rfl, rfl, Nat.le_of_ble_eq_true rfl, Nat.le_of_ble_eq_true rfl⟩ ⟨Nat.le_of_ble_eq_true rfl, Nat.le_of_ble_eq_true rfl⟩ rfl (Nat.le_of_ble_eq_true rfl) rfl rfl rfl (dq dkX11_boring_0 2 rfl) ?_
  refine v_if_eq F (tgt := 17) (dq dkX11_boring_0 3 rfl) (by decide) (fun c2 => ?_) (fun c2 => ?_)
  · rw [if_pos c2] at h
    refine v_sub [] rfl ?_
    exact t_X11_boring_17 y h F E
  · rw [if_neg c2] at h
    refine v_iload_n F (dq dkX11_boring_0 4 rfl) rfl 2 rfl ?_
    refine v_iconst F (v := 0) (dq dkX11_boring_0 5 rfl) ki_0 ?_
    refine v_iconst F (v := 1) (dq dkX11_boring_0 6 rfl) ki_1 ?_
    refine v_callS 3 F (kc1 := 0) (ks1 := 0) (as := [.int a2, .int 0, .int 1]) (st := []) (st1 := (.int (b2i (f_X11_in a2 0 1)) :: [])) (res := (some (.int (b2i (f_X11_in a2 0 1))))) (c_X11_in (l := C.2.1) a2 0 1) (tc15 _ (List.mem_of_getElem? (i := 1) rfl)) (tc15 _ (List.mem_of_getElem? (i := 2) rfl)) (tc1 _ (List.mem_of_getElem? (i := 5) rfl)) (tc15 _ (List.mem_of_getElem? (i := 3) rfl)) (by decide) rfl ⟨rfl, rfl, Nat.le_of_ble_eq_true rfl, Nat.le_of_ble_eq_true rfl⟩ ⟨Nat.le_of_ble_eq_true rfl, Nat.le_of_ble_eq_true rfl⟩ rfl (Nat.le_of_ble_eq_true rfl) rfl rfl rfl (dq dkX11_boring_0 7 rfl) ?_
    refine v_if_ne F (tgt := 21) (dq dkX11_boring_0 8 rfl) (by decide) (fun c4 => ?_) (fun c4 => ?_)
    · rw [if_neg c4] at h
      refine v_aload_n F (dq dkX11_boring_0 11 rfl) rfl 0 rfl ?_
      refine v_iload_n F (dq dkX11_boring_0 12 rfl) rfl 1 rfl ?_
      obtain ⟨r5, e6, h⟩ := bd_of h
      refine v_callV 1 F (q := 61) (kc1 := 0) (ks1 := 0) (as := [.int a1]) (st := []) (st1 := (.long r5.1 :: [])) (res := (some (.long r5.1))) (c_X11_boringAbove (l := C.2.1) x y a1 e6) (xnM (by decide)) xc_61 rfl (tc47 _ (List.mem_of_getElem? (i := 9) rfl)) (tc47 _ (List.mem_of_getElem? (i := 10) rfl)) (tc47 _ (List.mem_of_getElem? (i := 11) rfl)) (tc1 _ (List.mem_of_getElem? (i := 5) rfl)) (tc47 _ (List.mem_of_getElem? (i := 12) rfl)) (by decide) rfl ⟨rfl, rfl, Nat.le_of_ble_eq_true rfl, Nat.le_of_ble_eq_true rfl⟩ ⟨Nat.le_of_ble_eq_true rfl, Nat.le_of_ble_eq_true rfl⟩ rfl (Nat.le_of_ble_eq_true rfl) rfl rfl rfl (dq dkX11_boring_0 13 rfl) ?_
      refine v_lstore_n F (ls' := [(3, .long r5.1), (0, .ref (K.1 + 61)), (1, .int a1), (2, .int a2)]) (dq dkX11_boring_0 14 rfl) rfl (by decide) rfl ?_
      refine v_lload_n F (dq dkX11_boring_0 15 rfl) rfl 0 rfl ?_
      refine v_aload_n F (dq dkX11_boring_0 16 rfl) rfl 1 rfl ?_
      refine v_get F 61 (xnM (by decide)) xc_61 rfl inlX11 50 (by decide) (tc47 _ (List.mem_of_getElem? (i := 8) rfl)) rfl rfl (dq dkX11_boring_0 17 rfl) ?_
      refine v_iload_n F (dq dkX11_boring_0 18 rfl) rfl 3 rfl ?_
      obtain ⟨r7, e8, h⟩ := bd_of h
      refine v_callS 3 F (kc1 := 0) (ks1 := 0) (as := [.long r5.1, .long (gmbb r5.2), .int a2]) (st := []) (st1 := (.long r7 :: [])) (res := (some (.long r7))) (c_X11_lowest (l := C.2.1) r5.1 (gmbb r5.2) a2 e8) (tc34 _ (List.mem_of_getElem? (i := 2) rfl)) (tc34 _ (List.mem_of_getElem? (i := 3) rfl)) (tc1 _ (List.mem_of_getElem? (i := 5) rfl)) (tc34 _ (List.mem_of_getElem? (i := 4) rfl)) (by decide) rfl ⟨rfl, rfl, Nat.le_of_ble_eq_true rfl, Nat.le_of_ble_eq_true rfl⟩ ⟨Nat.le_of_ble_eq_true rfl, Nat.le_of_ble_eq_true rfl⟩ rfl (Nat.le_of_ble_eq_true rfl) rfl rfl rfl (dq dkX11_boring_0 19 rfl) ?_
      have h := Option.some.inj h
      subst h
      exact v_lret F E (dq dkX11_boring_0 20 rfl)
    · rw [if_pos c4] at h
      refine v_sub [] rfl ?_
      exact t_X11_boring_17 y h F E
def rm_X11_hole : Room := { frames := 5, cells := 0, slots := 0, locals := 133 }
def f_X11_hole_54 (k10 : MS → Int32 → Int64 → Int64 → Int32 → Option (Int32 × MS)) (y : MS) (a1 : Int32) (a2 : Int64) (a4 : Int64) (a6 : Int32) : Option (Int32 × MS) := k10 y a1 a2 a4 (a6 + 1)
set_option maxRecDepth 100000 in
set_option maxHeartbeats 4000000 in
theorem t_X11_hole_54 {C : Cx} {K : KE} {nn : Nat} {x : CS} {R : Int32 × MS}  (k10 : MS → Int32 → Int64 → Int64 → Int32 → Option (Int32 × MS)) (y : MS) (a1 : Int32) (a2 : Int64) (a4 : Int64) (a6 : Int32) (hk10 : ∀ (y : MS) (a1 : Int32) (a2 : Int64) (a4 : Int64) (a6 : Int32), k10 y a1 a2 a4 a6 = some R → V C 10 [(0, .ref (K.1 + 61)), (1, .int a1), (2, .long a2), (4, .long a4), (6, .int a6)] [] (xfM K nn x y) 0 0) (h : f_X11_hole_54 k10 y a1 a2 a4 a6 = some R) (F : Fx C RX11 cX11_hole 9 rm_X11_hole K) (E : CE C (xfM K nn x R.2) (some (.int R.1)) 0 0 (some .int)) : V C 54 [(0, .ref (K.1 + 61)), (1, .int a1), (2, .long a2), (4, .long a4), (6, .int a6)] [] (xfM K nn x y) 0 0 := by
  unfold f_X11_hole_54 at h
  refine v_iinc F (v := a6 + 1) (ls' := [(6, .int (a6 + 1)), (0, .ref (K.1 + 61)), (1, .int a1), (2, .long a2), (4, .long a4)]) (dq dkX11_hole_0 32 rfl) (j := 4) rfl (kv_add ki_1) (by decide) rfl ?_
  refine v_goto F (tgt := 10) (dq dkX11_hole_0 33 rfl) (by decide) ?_
  refine v_sub [1, 2, 3, 4, 0] rfl ?_
  exact hk10 y a1 a2 a4 (a6 + 1) h
def f_X11_hole_10 : Nat → MS → Int32 → Int64 → Int64 → Int32 → Option (Int32 × MS)
  | 0, _, _, _, _, _ => none
  | n + 1, y, a1, a2, a4, a6 => if (gi y 61 10) ≤ a6 then (some (a1, y)) else ((f_X11_boringAbove y a6).bind fun r2 => if (lg_cmp (r2.1 * a4) (a2 * (gmbb r2.2))) ≤ 0 then (f_X11_hole_54 (f_X11_hole_10 n) r2.2 a1 a2 a4 a6) else (f_X11_hole_54 (f_X11_hole_10 n) r2.2 a6 r2.1 (gmbb r2.2) a6))
set_option maxRecDepth 100000 in
set_option maxHeartbeats 4000000 in
theorem t_X11_hole_10 {C : Cx} {K : KE} {nn : Nat} {x : CS} {R : Int32 × MS}  (F : Fx C RX11 cX11_hole 9 rm_X11_hole K) (E : CE C (xfM K nn x R.2) (some (.int R.1)) 0 0 (some .int)) : ∀ (n : Nat) (y : MS) (a1 : Int32) (a2 : Int64) (a4 : Int64) (a6 : Int32) (h : f_X11_hole_10 n y a1 a2 a4 a6 = some R), V C 10 [(0, .ref (K.1 + 61)), (1, .int a1), (2, .long a2), (4, .long a4), (6, .int a6)] [] (xfM K nn x y) 0 0 := by
  intro n
  induction n with
  | zero => intro y a1 a2 a4 a6 h; cases h
  | succ n ih =>
    intro y a1 a2 a4 a6 h
    rw [f_X11_hole_10] at h
    refine v_iload F (dq dkX11_hole_0 8 rfl) 4 rfl ?_
    refine v_aload_n F (dq dkX11_hole_0 9 rfl) rfl 0 rfl ?_
    refine v_get F 61 (xnM (by decide)) xc_61 rfl inlX11 10 (by decide) (tc16 _ (List.mem_of_getElem? (i := 17) rfl)) rfl rfl (dq dkX11_hole_0 10 rfl) ?_
    refine v_icmp_ge F (tgt := 60) (dq dkX11_hole_0 11 rfl) (by decide) (fun c1 => ?_) (fun c1 => ?_)
    · rw [if_pos c1] at h
      refine v_iload_n F (dq dkX11_hole_0 34 rfl) rfl 1 rfl ?_
      have h := Option.some.inj h
      subst h
      exact v_iret F E (dq dkX11_hole_0 35 rfl)
    · rw [if_neg c1] at h
      refine v_aload_n F (dq dkX11_hole_0 12 rfl) rfl 0 rfl ?_
      refine v_iload F (dq dkX11_hole_0 13 rfl) 4 rfl ?_
      obtain ⟨r2, e3, h⟩ := bd_of h
      refine v_callV 1 F (q := 61) (kc1 := 0) (ks1 := 0) (as := [.int a6]) (st := []) (st1 := (.long r2.1 :: [])) (res := (some (.long r2.1))) (c_X11_boringAbove (l := C.2.1) x y a6 e3) (xnM (by decide)) xc_61 rfl (tc47 _ (List.mem_of_getElem? (i := 9) rfl)) (tc47 _ (List.mem_of_getElem? (i := 10) rfl)) (tc47 _ (List.mem_of_getElem? (i := 11) rfl)) (tc1 _ (List.mem_of_getElem? (i := 5) rfl)) (tc47 _ (List.mem_of_getElem? (i := 12) rfl)) (by decide) rfl ⟨rfl, rfl, Nat.le_of_ble_eq_true rfl, Nat.le_of_ble_eq_true rfl⟩ ⟨Nat.le_of_ble_eq_true rfl, Nat.le_of_ble_eq_true rfl⟩ rfl (Nat.le_of_ble_eq_true rfl) rfl rfl rfl (dq dkX11_hole_0 14 rfl) ?_
      refine v_lstore F (ls' := [(7, .long r2.1), (0, .ref (K.1 + 61)), (1, .int a1), (2, .long a2), (4, .long a4), (6, .int a6)]) (dq dkX11_hole_0 15 rfl) (by decide) rfl ?_
      refine v_lload F (dq dkX11_hole_0 16 rfl) 0 rfl ?_
      refine v_lload F (dq dkX11_hole_0 17 rfl) 4 rfl ?_
      refine v_lmul F (dq dkX11_hole_0 18 rfl) ?_
      refine v_lload_n F (dq dkX11_hole_0 19 rfl) rfl 3 rfl ?_
      refine v_aload_n F (dq dkX11_hole_0 20 rfl) rfl 1 rfl ?_
      refine v_get F 61 (xnM (by decide)) xc_61 rfl inlX11 50 (by decide) (tc47 _ (List.mem_of_getElem? (i := 8) rfl)) rfl rfl (dq dkX11_hole_0 21 rfl) ?_
      refine v_lmul F (dq dkX11_hole_0 22 rfl) ?_
      refine v_lcmp F (dq dkX11_hole_0 23 rfl) ?_
      refine v_if_le F (tgt := 54) (dq dkX11_hole_0 24 rfl) (by decide) (fun c4 => ?_) (fun c4 => ?_)
      · rw [if_pos c4] at h
        refine v_sub [1, 2, 3, 4, 5] rfl ?_
        exact t_X11_hole_54 (f_X11_hole_10 n) r2.2 a1 a2 a4 a6 ih h F E
      · rw [if_neg c4] at h
        refine v_iload F (dq dkX11_hole_0 25 rfl) 5 rfl ?_
        refine v_istore_n F (ls' := [(1, .int a6), (7, .long r2.1), (0, .ref (K.1 + 61)), (2, .long a2), (4, .long a4), (6, .int a6)]) (dq dkX11_hole_0 26 rfl) rfl (by decide) rfl ?_
        refine v_lload F (dq dkX11_hole_0 27 rfl) 1 rfl ?_
        refine v_lstore_n F (ls' := [(2, .long r2.1), (1, .int a6), (7, .long r2.1), (0, .ref (K.1 + 61)), (4, .long a4), (6, .int a6)]) (dq dkX11_hole_0 28 rfl) rfl (by decide) rfl ?_
        refine v_aload_n F (dq dkX11_hole_0 29 rfl) rfl 3 rfl ?_
        refine v_get F 61 (xnM (by decide)) xc_61 rfl inlX11 50 (by decide) (tc47 _ (List.mem_of_getElem? (i := 8) rfl)) rfl rfl (dq dkX11_hole_0 30 rfl) ?_
        refine v_lstore F (ls' := [(4, .long (gmbb r2.2)), (2, .long r2.1), (1, .int a6), (7, .long r2.1), (0, .ref (K.1 + 61)), (6, .int a6)]) (dq dkX11_hole_0 31 rfl) (by decide) rfl ?_
        refine v_sub [4, 2, 1, 0, 5] rfl ?_
        exact t_X11_hole_54 (f_X11_hole_10 n) r2.2 a6 r2.1 (gmbb r2.2) a6 ih h F E
def f_X11_hole (y : MS) : Option (Int32 × MS) := f_X11_hole_10 1000 y (-1) 0 1 0
set_option maxRecDepth 100000 in
set_option maxHeartbeats 4000000 in
theorem c_X11_hole {K : KE} {l : Launch} {R : Int32 × MS} {nn : Nat} (x : CS) (y : MS) (h : f_X11_hole y = some R) : MC K l yX11_hole cX11_hole 9 (some .int) rm_X11_hole 0 0 [.ref (K.1 + 61)] (xfM K nn x y) (xfM K nn x R.2) (some (.int R.1)) := by
  unfold f_X11_hole at h
  refine mc_of (ls0 := [(0, .ref (K.1 + 61))]) (by decide) (Nat.le_of_ble_eq_true rfl) rfl (fun C hl hnm F E => ?_)
  have F : Fx C RX11 cX11_hole 9 rm_X11_hole K := F
  refine v_iconst F (v := (-1)) (dq dkX11_hole_0 0 rfl) ki_m1 ?_
  refine v_istore_n F (ls' := [(1, .int (-1)), (0, .ref (K.1 + 61))]) (dq dkX11_hole_0 1 rfl) rfl (by decide) rfl ?_
  refine v_lconst F (v := 0) (dq dkX11_hole_0 2 rfl) rfl ?_
  refine v_lstore_n F (ls' := [(2, .long 0), (1, .int (-1)), (0, .ref (K.1 + 61))]) (dq dkX11_hole_0 3 rfl) rfl (by decide) rfl ?_
  refine v_lconst F (v := 1) (dq dkX11_hole_0 4 rfl) rfl ?_
  refine v_lstore F (ls' := [(4, .long 1), (2, .long 0), (1, .int (-1)), (0, .ref (K.1 + 61))]) (dq dkX11_hole_0 5 rfl) (by decide) rfl ?_
  refine v_iconst F (v := 0) (dq dkX11_hole_0 6 rfl) ki_0 ?_
  refine v_istore F (ls' := [(6, .int 0), (4, .long 1), (2, .long 0), (1, .int (-1)), (0, .ref (K.1 + 61))]) (dq dkX11_hole_0 7 rfl) (by decide) rfl ?_
  refine v_sub [4, 3, 2, 1, 0] rfl ?_
  exact t_X11_hole_10 F E 1000 y (-1) 0 1 0 h
