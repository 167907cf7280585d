def f_X6_readTerm_6 (rO rN rE : CS → Option CS) : Nat → CS → Int32 → Option (CS)
  | 0, _, _ => none
  | n + 1, x, a1 => if 160 ≤ a1 then (some x) else (if 0 ≤ (gi x 26 5) then (some x) else (if (gi x 26 8) = 42 then ((f_X6_advance x).bind fun r4 => (f_X6_readOne rO rN rE r4).bind fun r6 => (f_X6_emit r6 (-18)).bind fun r8 => (f_X6_readTerm_6 rO rN rE n) r8 (a1 + 1)) else (some x)))
set_option maxRecDepth 100000 in
set_option maxHeartbeats 4000000 in
theorem t_X6_readTerm_6 {C : Cx} {K : KE} {y : MS} {R : CS}  (rO rN rE : CS → Option CS) (d : Nat) (hrO : ∀ (l : Launch) (x R : CS) (y : MS), rO x = some R → MC K l yX6_readOne cX6_readOne 1 none (rm_X6_readOne d) 0 0 [.ref (K.1 + 26)] (xf K x y) (xf K R y) none) (hrN : ∀ (l : Launch) (x R : CS) (y : MS), rN x = some R → MC K l yX6_readNot cX6_readNot 2 none (rm_X6_readNot d) 0 0 [.ref (K.1 + 26)] (xf K x y) (xf K R y) none) (hrE : ∀ (l : Launch) (x R : CS) (y : MS), rE x = some R → MC K l yX6_readEither cX6_readEither 2 none (rm_X6_readEither d) 0 0 [.ref (K.1 + 26)] (xf K x y) (xf K R y) none) (F : Fx C RX6 cX6_readTerm 2 (rm_X6_readTerm (d + 1)) K) (E : CE C (xf K R y) none 0 0 none) : ∀ (n : Nat) (x : CS) (a1 : Int32) (h : f_X6_readTerm_6 rO rN rE n x a1 = some R), V C 6 [(0, .ref (K.1 + 26)), (1, .int a1)] [] (xf K x y) 0 0 := by
  intro n
  induction n with
  | zero => intro x a1 h; cases h
  | succ n ih =>
    intro x a1 h
    rw [f_X6_readTerm_6] at h
    refine v_iload_n F (dq dkX6_readTerm_0 4 rfl) rfl 1 rfl ?_
    refine v_sipush F (v := 160) (dq dkX6_readTerm_0 5 rfl) ks_160 ?_
    refine v_icmp_ge F (tgt := 49) (dq dkX6_readTerm_0 6 rfl) (by decide) (fun c1 => ?_) (fun c1 => ?_)
    · rw [if_pos c1] at h
      have h := Option.some.inj h
      subst h
      exact v_vret F E (dq dkX6_readTerm_0 23 rfl)
    · rw [if_neg c1] at h
      refine v_aload_n F (dq dkX6_readTerm_0 7 rfl) rfl 0 rfl ?_
      refine v_get F 26 (xn (by decide)) xc_26 rfl inlX6 5 (by decide) (tc4 _ (List.mem_of_getElem? (i := 1) rfl)) rfl rfl (dq dkX6_readTerm_0 8 rfl) ?_
      refine v_if_ge F (tgt := 49) (dq dkX6_readTerm_0 9 rfl) (by decide) (fun c2 => ?_) (fun c2 => ?_)
      · rw [if_pos c2] at h
        have h := Option.some.inj h
        subst h
        exact v_vret F E (dq dkX6_readTerm_0 23 rfl)
      · rw [if_neg c2] at h
        refine v_aload_n F (dq dkX6_readTerm_0 10 rfl) rfl 0 rfl ?_
        refine v_get F 26 (xn (by decide)) xc_26 rfl inlX6 8 (by decide) (tc4 _ (List.mem_of_getElem? (i := 4) rfl)) rfl rfl (dq dkX6_readTerm_0 11 rfl) ?_
        refine v_bipush F (v := 42) (dq dkX6_readTerm_0 12 rfl) kb_42 ?_
        refine v_icmp_ne F (tgt := 49) (dq dkX6_readTerm_0 13 rfl) (by decide) (fun c3 => ?_) (fun c3 => ?_)
        · rw [if_neg c3] at h
          have h := Option.some.inj h
          subst h
          exact v_vret F E (dq dkX6_readTerm_0 23 rfl)
        · rw [if_pos c3] at h
          refine v_aload_n F (dq dkX6_readTerm_0 14 rfl) rfl 0 rfl ?_
          obtain ⟨r4, e5, h⟩ := bd_of h
          refine v_callV 0 F (q := 26) (kc1 := 0) (ks1 := 0) (as := []) (st := []) (st1 := []) (res := none) (c_X6_advance (l := C.2.1) x y e5) (xn (by decide)) xc_26 rfl (tc8 _ (List.mem_of_getElem? (i := 4) rfl)) (tc8 _ (List.mem_of_getElem? (i := 5) rfl)) (tc8 _ (List.mem_of_getElem? (i := 6) rfl)) (tc1 _ (List.mem_of_getElem? (i := 23) rfl)) (tc8 _ (List.mem_of_getElem? (i := 7) rfl)) (by decide) rfl ⟨rfl, rfl, by show _ ≤ _; simp only [rm_X6_readTerm, rm_X6_advance]; omega, by show _ ≤ _; simp only [rm_X6_readTerm, rm_X6_advance]; omega⟩ ⟨Nat.le_of_ble_eq_true rfl, Nat.le_of_ble_eq_true rfl⟩ rfl (Nat.le_of_ble_eq_true rfl) rfl rfl rfl (dq dkX6_readTerm_0 15 rfl) ?_
          refine v_aload_n F (dq dkX6_readTerm_0 16 rfl) rfl 0 rfl ?_
          obtain ⟨r6, e7, h⟩ := bd_of h
          refine v_callV 0 F (q := 26) (kc1 := 0) (ks1 := 0) (as := []) (st := []) (st1 := []) (res := none) (c_X6_readOne (l := C.2.1) rO rN rE d hrO hrN hrE r4 y e7) (xn (by decide)) xc_26 rfl (tc10 _ (List.mem_of_getElem? (i := 17) rfl)) (tc10 _ (List.mem_of_getElem? (i := 18) rfl)) (tc10 _ (List.mem_of_getElem? (i := 19) rfl)) (tc1 _ (List.mem_of_getElem? (i := 23) rfl)) (tc10 _ (List.mem_of_getElem? (i := 16) rfl)) (by decide) rfl ⟨rfl, rfl, by show _ ≤ _; simp only [rm_X6_readTerm, rm_X6_readOne]; omega, by show _ ≤ _; simp only [rm_X6_readTerm, rm_X6_readOne]; omega⟩ ⟨Nat.le_of_ble_eq_true rfl, Nat.le_of_ble_eq_true rfl⟩ rfl (Nat.le_of_ble_eq_true rfl) rfl rfl rfl (dq dkX6_readTerm_0 17 rfl) ?_
          refine v_aload_n F (dq dkX6_readTerm_0 18 rfl) rfl 0 rfl ?_
          refine v_bipush F (v := (-18)) (dq dkX6_readTerm_0 19 rfl) kb_m18 ?_
          obtain ⟨r8, e9, h⟩ := bd_of h
          refine v_callV 1 F (q := 26) (kc1 := 0) (ks1 := 0) (as := [.int (-18)]) (st := []) (st1 := []) (res := none) (c_X6_emit (l := C.2.1) r6 y (-18) e9) (xn (by decide)) xc_26 rfl (tc10 _ (List.mem_of_getElem? (i := 0) rfl)) (tc10 _ (List.mem_of_getElem? (i := 1) rfl)) (tc10 _ (List.mem_of_getElem? (i := 2) rfl)) (tc1 _ (List.mem_of_getElem? (i := 23) rfl)) (tc10 _ (List.mem_of_getElem? (i := 3) rfl)) (by decide) rfl ⟨rfl, rfl, by show _ ≤ _; simp only [rm_X6_readTerm, rm_X6_emit]; omega, by show _ ≤ _; simp only [rm_X6_readTerm, rm_X6_emit]; omega⟩ ⟨Nat.le_of_ble_eq_true rfl, Nat.le_of_ble_eq_true rfl⟩ rfl (Nat.le_of_ble_eq_true rfl) rfl rfl rfl (dq dkX6_readTerm_0 20 rfl) ?_
          refine v_iinc F (v := a1 + 1) (ls' := [(1, .int (a1 + 1)), (0, .ref (K.1 + 26))]) (dq dkX6_readTerm_0 21 rfl) (j := 1) rfl (kv_add ki_1) (by decide) rfl ?_
          refine v_goto F (tgt := 6) (dq dkX6_readTerm_0 22 rfl) (by decide) ?_
          refine v_sub [1, 0] rfl ?_
          exact ih r8 (a1 + 1) h
def f_X6_readTerm (rO rN rE : CS → Option CS) (x : CS) : Option (CS) := (f_X6_readOne rO rN rE x).bind fun r10 => f_X6_readTerm_6 rO rN rE 1000 r10 0
set_option maxRecDepth 100000 in
set_option maxHeartbeats 4000000 in
theorem c_X6_readTerm {K : KE} {l : Launch} {R : CS} (rO rN rE : CS → Option CS) (d : Nat) (hrO : ∀ (l : Launch) (x R : CS) (y : MS), rO x = some R → MC K l yX6_readOne cX6_readOne 1 none (rm_X6_readOne d) 0 0 [.ref (K.1 + 26)] (xf K x y) (xf K R y) none) (hrN : ∀ (l : Launch) (x R : CS) (y : MS), rN x = some R → MC K l yX6_readNot cX6_readNot 2 none (rm_X6_readNot d) 0 0 [.ref (K.1 + 26)] (xf K x y) (xf K R y) none) (hrE : ∀ (l : Launch) (x R : CS) (y : MS), rE x = some R → MC K l yX6_readEither cX6_readEither 2 none (rm_X6_readEither d) 0 0 [.ref (K.1 + 26)] (xf K x y) (xf K R y) none) (x : CS) (y : MS) (h : f_X6_readTerm rO rN rE x = some R) : MC K l yX6_readTerm cX6_readTerm 2 none (rm_X6_readTerm (d + 1)) 0 0 [.ref (K.1 + 26)] (xf K x y) (xf K R y) none := by
  unfold f_X6_readTerm at h
  refine mc_of (ls0 := [(0, .ref (K.1 + 26))]) (by decide) (Nat.le_of_ble_eq_true rfl) rfl (fun C hl hnm F E => ?_)
  have F : Fx C RX6 cX6_readTerm 2 (rm_X6_readTerm (d + 1)) K := F
  refine v_aload_n F (dq dkX6_readTerm_0 0 rfl) rfl 0 rfl ?_
  obtain ⟨r10, e11, h⟩ := bd_of h
  refine v_callV 0 F (q := 26) (kc1 := 0) (ks1 := 0) (as := []) (st := []) (st1 := []) (res := none) (c_X6_readOne (l := C.2.1) rO rN rE d hrO hrN hrE x y e11) (xn (by decide)) xc_26 rfl (tc10 _ (List.mem_of_getElem? (i := 17) rfl)) (tc10 _ (List.mem_of_getElem? (i := 18) rfl)) (tc10 _ (List.mem_of_getElem? (i := 19) rfl)) (tc1 _ (List.mem_of_getElem? (i := 23) rfl)) (tc10 _ (List.mem_of_getElem? (i := 16) rfl)) (by decide) rfl ⟨rfl, rfl, by show _ ≤ _; simp only [rm_X6_readTerm, rm_X6_readOne]; omega, by show _ ≤ _; simp only [rm_X6_readTerm, rm_X6_readOne]; omega⟩ ⟨Nat.le_of_ble_eq_true rfl, Nat.le_of_ble_eq_true rfl⟩ rfl (Nat.le_of_ble_eq_true rfl) rfl rfl rfl (dq dkX6_readTerm_0 1 rfl) ?_
  refine v_iconst F (v := 0) (dq dkX6_readTerm_0 2 rfl) ki_0 ?_
  refine v_istore_n F (ls' := [(1, .int 0), (0, .ref (K.1 + 26))]) (dq dkX6_readTerm_0 3 rfl) rfl (by decide) rfl ?_
  refine v_sub [1, 0] rfl ?_
  exact t_X6_readTerm_6 rO rN rE d hrO hrN hrE F E 1000 r10 0 h
def f_X6_readSum_54 (rO rN rE : CS → Option CS) (k6 : CS → Int32 → Option (CS)) (x : CS) (a1 : Int32) (s0 : Int32) : Option (CS) := (f_X6_advance x).bind fun r1 => (f_X6_readTerm rO rN rE r1).bind fun r3 => (f_X6_emit r3 s0).bind fun r5 => k6 r5 (a1 + 1)
set_option maxRecDepth 100000 in
set_option maxHeartbeats 4000000 in
theorem t_X6_readSum_54 {C : Cx} {K : KE} {y : MS} {R : CS}  (rO rN rE : CS → Option CS) (d : Nat) (hrO : ∀ (l : Launch) (x R : CS) (y : MS), rO x = some R → MC K l yX6_readOne cX6_readOne 1 none (rm_X6_readOne d) 0 0 [.ref (K.1 + 26)] (xf K x y) (xf K R y) none) (hrN : ∀ (l : Launch) (x R : CS) (y : MS), rN x = some R → MC K l yX6_readNot cX6_readNot 2 none (rm_X6_readNot d) 0 0 [.ref (K.1 + 26)] (xf K x y) (xf K R y) none) (hrE : ∀ (l : Launch) (x R : CS) (y : MS), rE x = some R → MC K l yX6_readEither cX6_readEither 2 none (rm_X6_readEither d) 0 0 [.ref (K.1 + 26)] (xf K x y) (xf K R y) none) (k6 : CS → Int32 → Option (CS)) (x : CS) (a1 : Int32) (s0 : Int32) (hk6 : ∀ (x : CS) (a1 : Int32), k6 x a1 = some R → V C 6 [(0, .ref (K.1 + 26)), (1, .int a1)] [] (xf K x y) 0 0) (h : f_X6_readSum_54 rO rN rE k6 x a1 s0 = some R) (F : Fx C RX6 cX6_readSum 3 (rm_X6_readSum (d + 1)) K) (E : CE C (xf K R y) none 0 0 none) : V C 54 [(0, .ref (K.1 + 26)), (1, .int a1)] [.int s0] (xf K x y) 0 0 := by
  unfold f_X6_readSum_54 at h
  refine v_istore_n F (ls' := [(2, .int s0), (0, .ref (K.1 + 26)), (1, .int a1)]) (dq dkX6_readSum_0 25 rfl) rfl (by decide) rfl ?_
  refine v_aload_n F (dq dkX6_readSum_0 26 rfl) rfl 1 rfl ?_
  obtain ⟨r1, e2, h⟩ := bd_of h
  refine v_callV 0 F (q := 26) (kc1 := 0) (ks1 := 0) (as := []) (st := []) (st1 := []) (res := none) (c_X6_advance (l := C.2.1) x y e2) (xn (by decide)) xc_26 rfl (tc8 _ (List.mem_of_getElem? (i := 4) rfl)) (tc8 _ (List.mem_of_getElem? (i := 5) rfl)) (tc8 _ (List.mem_of_getElem? (i := 6) rfl)) (tc1 _ (List.mem_of_getElem? (i := 23) rfl)) (tc8 _ (List.mem_of_getElem? (i := 7) rfl)) (by decide) rfl ⟨rfl, rfl, by show _ ≤ _; simp only [rm_X6_readSum, rm_X6_advance]; omega, by show _ ≤ _; simp only [rm_X6_readSum, rm_X6_advance]; omega⟩ ⟨Nat.le_of_ble_eq_true rfl, Nat.le_of_ble_eq_true rfl⟩ rfl (Nat.le_of_ble_eq_true rfl) rfl rfl rfl (dq dkX6_readSum_0 27 rfl) ?_
  refine v_aload_n F (dq dkX6_readSum_0 28 rfl) rfl 1 rfl ?_
  obtain ⟨r3, e4, h⟩ := bd_of h
  refine v_callV 0 F (q := 26) (kc1 := 0) (ks1 := 0) (as := []) (st := []) (st1 := []) (res := none) (c_X6_readTerm (l := C.2.1) rO rN rE d hrO hrN hrE r1 y e4) (xn (by decide)) xc_26 rfl (tc10 _ (List.mem_of_getElem? (i := 21) rfl)) (tc10 _ (List.mem_of_getElem? (i := 22) rfl)) (tc10 _ (List.mem_of_getElem? (i := 23) rfl)) (tc1 _ (List.mem_of_getElem? (i := 23) rfl)) (tc11 _ (List.mem_of_getElem? (i := 0) rfl)) (by decide) rfl ⟨rfl, rfl, by show _ ≤ _; simp only [rm_X6_readSum, rm_X6_readTerm]; omega, by show _ ≤ _; simp only [rm_X6_readSum, rm_X6_readTerm]; omega⟩ ⟨Nat.le_of_ble_eq_true rfl, Nat.le_of_ble_eq_true rfl⟩ rfl (Nat.le_of_ble_eq_true rfl) rfl rfl rfl (dq dkX6_readSum_0 29 rfl) ?_
  refine v_aload_n F (dq dkX6_readSum_0 30 rfl) rfl 1 rfl ?_
  refine v_iload_n F (dq dkX6_readSum_0 31 rfl) rfl 0 rfl ?_
  obtain ⟨r5, e6, h⟩ := bd_of h
  refine v_callV 1 F (q := 26) (kc1 := 0) (ks1 := 0) (as := [.int s0]) (st := []) (st1 := []) (res := none) (c_X6_emit (l := C.2.1) r3 y s0 e6) (xn (by decide)) xc_26 rfl (tc10 _ (List.mem_of_getElem? (i := 0) rfl)) (tc10 _ (List.mem_of_getElem? (i := 1) rfl)) (tc10 _ (List.mem_of_getElem? (i := 2) rfl)) (tc1 _ (List.mem_of_getElem? (i := 23) rfl)) (tc10 _ (List.mem_of_getElem? (i := 3) rfl)) (by decide) rfl ⟨rfl, rfl, by show _ ≤ _; simp only [rm_X6_readSum, rm_X6_emit]; omega, by show _ ≤ _; simp only [rm_X6_readSum, rm_X6_emit]; omega⟩ ⟨Nat.le_of_ble_eq_true rfl, Nat.le_of_ble_eq_true rfl⟩ rfl (Nat.le_of_ble_eq_true rfl) rfl rfl rfl (dq dkX6_readSum_0 32 rfl) ?_
  refine v_iinc F (v := a1 + 1) (ls' := [(1, .int (a1 + 1)), (2, .int s0), (0, .ref (K.1 + 26))]) (dq dkX6_readSum_0 33 rfl) (j := 2) rfl (kv_add ki_1) (by decide) rfl ?_
  refine v_goto F (tgt := 6) (dq dkX6_readSum_0 34 rfl) (by decide) ?_
  refine v_sub [2, 0] rfl ?_
  exact hk6 r5 (a1 + 1) h
def f_X6_readSum_38 (rO rN rE : CS → Option CS) (k6 : CS → Int32 → Option (CS)) (x : CS) (a1 : Int32) : Option (CS) := if (gi x 26 8) = 43 then (f_X6_readSum_54 rO rN rE k6 x a1 (-16)) else (f_X6_readSum_54 rO rN rE k6 x a1 (-17))
set_option maxRecDepth 100000 in
set_option maxHeartbeats 4000000 in
theorem t_X6_readSum_38 {C : Cx} {K : KE} {y : MS} {R : CS}  (rO rN rE : CS → Option CS) (d : Nat) (hrO : ∀ (l : Launch) (x R : CS) (y : MS), rO x = some R → MC K l yX6_readOne cX6_readOne 1 none (rm_X6_readOne d) 0 0 [.ref (K.1 + 26)] (xf K x y) (xf K R y) none) (hrN : ∀ (l : Launch) (x R : CS) (y : MS), rN x = some R → MC K l yX6_readNot cX6_readNot 2 none (rm_X6_readNot d) 0 0 [.ref (K.1 + 26)] (xf K x y) (xf K R y) none) (hrE : ∀ (l : Launch) (x R : CS) (y : MS), rE x = some R → MC K l yX6_readEither cX6_readEither 2 none (rm_X6_readEither d) 0 0 [.ref (K.1 + 26)] (xf K x y) (xf K R y) none) (k6 : CS → Int32 → Option (CS)) (x : CS) (a1 : Int32) (hk6 : ∀ (x : CS) (a1 : Int32), k6 x a1 = some R → V C 6 [(0, .ref (K.1 + 26)), (1, .int a1)] [] (xf K x y) 0 0) (h : f_X6_readSum_38 rO rN rE k6 x a1 = some R) (F : Fx C RX6 cX6_readSum 3 (rm_X6_readSum (d + 1)) K) (E : CE C (xf K R y) none 0 0 none) : V C 38 [(0, .ref (K.1 + 26)), (1, .int a1)] [] (xf K x y) 0 0 := by
  unfold f_X6_readSum_38 at h
  refine v_aload_n F (dq dkX6_readSum_0 18 rfl) rfl 0 rfl ?_
  refine v_get F 26 (xn (by decide)) xc_26 rfl inlX6 8 (by decide) (tc4 _ (List.mem_of_getElem? (i := 4) rfl)) rfl rfl (dq dkX6_readSum_0 19 rfl) ?_
  refine v_bipush F (v := 43) (dq dkX6_readSum_0 20 rfl) kb_43 ?_
  refine v_icmp_ne F (tgt := 52) (dq dkX6_readSum_0 21 rfl) (by decide) (fun c7 => ?_) (fun c7 => ?_)
  · rw [if_neg c7] at h
    refine v_bipush F (v := (-17)) (dq dkX6_readSum_0 24 rfl) kb_m17 ?_
    exact t_X6_readSum_54 rO rN rE d hrO hrN hrE k6 x a1 (-17) hk6 h F E
  · rw [if_pos c7] at h
    refine v_bipush F (v := (-16)) (dq dkX6_readSum_0 22 rfl) kb_m16 ?_
    refine v_goto F (tgt := 54) (dq dkX6_readSum_0 23 rfl) (by decide) ?_
    exact t_X6_readSum_54 rO rN rE d hrO hrN hrE k6 x a1 (-16) hk6 h F E
def f_X6_readSum_6 (rO rN rE : CS → Option CS) : Nat → CS → Int32 → Option (CS)
  | 0, _, _ => none
  | n + 1, x, a1 => if 160 ≤ a1 then (some x) else (if 0 ≤ (gi x 26 5) then (some x) else (if (gi x 26 8) = 43 then (f_X6_readSum_38 rO rN rE (f_X6_readSum_6 rO rN rE n) x a1) else (if (gi x 26 8) = 45 then (f_X6_readSum_38 rO rN rE (f_X6_readSum_6 rO rN rE n) x a1) else (some x))))
set_option maxRecDepth 100000 in
set_option maxHeartbeats 4000000 in
theorem t_X6_readSum_6 {C : Cx} {K : KE} {y : MS} {R : CS}  (rO rN rE : CS → Option CS) (d : Nat) (hrO : ∀ (l : Launch) (x R : CS) (y : MS), rO x = some R → MC K l yX6_readOne cX6_readOne 1 none (rm_X6_readOne d) 0 0 [.ref (K.1 + 26)] (xf K x y) (xf K R y) none) (hrN : ∀ (l : Launch) (x R : CS) (y : MS), rN x = some R → MC K l yX6_readNot cX6_readNot 2 none (rm_X6_readNot d) 0 0 [.ref (K.1 + 26)] (xf K x y) (xf K R y) none) (hrE : ∀ (l : Launch) (x R : CS) (y : MS), rE x = some R → MC K l yX6_readEither cX6_readEither 2 none (rm_X6_readEither d) 0 0 [.ref (K.1 + 26)] (xf K x y) (xf K R y) none) (F : Fx C RX6 cX6_readSum 3 (rm_X6_readSum (d + 1)) K) (E : CE C (xf K R y) none 0 0 none) : ∀ (n : Nat) (x : CS) (a1 : Int32) (h : f_X6_readSum_6 rO rN rE n x a1 = some R), V C 6 [(0, .ref (K.1 + 26)), (1, .int a1)] [] (xf K x y) 0 0 := by
  intro n
  induction n with
  | zero => intro x a1 h; cases h
  | succ n ih =>
    intro x a1 h
    rw [f_X6_readSum_6] at h
    refine v_iload_n F (dq dkX6_readSum_0 4 rfl) rfl 1 rfl ?_
    refine v_sipush F (v := 160) (dq dkX6_readSum_0 5 rfl) ks_160 ?_
    refine v_icmp_ge F (tgt := 74) (dq dkX6_readSum_0 6 rfl) (by decide) (fun c8 => ?_) (fun c8 => ?_)
    · rw [if_pos c8] at h
      have h := Option.some.inj h
      subst h
      exact v_vret F E (dq dkX6_readSum_0 35 rfl)
    · rw [if_neg c8] at h
      refine v_aload_n F (dq dkX6_readSum_0 7 rfl) rfl 0 rfl ?_
      refine v_get F 26 (xn (by decide)) xc_26 rfl inlX6 5 (by decide) (tc4 _ (List.mem_of_getElem? (i := 1) rfl)) rfl rfl (dq dkX6_readSum_0 8 rfl) ?_
      refine v_if_ge F (tgt := 74) (dq dkX6_readSum_0 9 rfl) (by decide) (fun c9 => ?_) (fun c9 => ?_)
      · rw [if_pos c9] at h
        have h := Option.some.inj h
        subst h
        exact v_vret F E (dq dkX6_readSum_0 35 rfl)
      · rw [if_neg c9] at h
        refine v_aload_n F (dq dkX6_readSum_0 10 rfl) rfl 0 rfl ?_
        refine v_get F 26 (xn (by decide)) xc_26 rfl inlX6 8 (by decide) (tc4 _ (List.mem_of_getElem? (i := 4) rfl)) rfl rfl (dq dkX6_readSum_0 11 rfl) ?_
        refine v_bipush F (v := 43) (dq dkX6_readSum_0 12 rfl) kb_43 ?_
        refine v_icmp_eq F (tgt := 38) (dq dkX6_readSum_0 13 rfl) (by decide) (fun c10 => ?_) (fun c10 => ?_)
        · rw [if_pos c10] at h
          exact t_X6_readSum_38 rO rN rE d hrO hrN hrE (f_X6_readSum_6 rO rN rE n) x a1 ih h F E
        · rw [if_neg c10] at h
          refine v_aload_n F (dq dkX6_readSum_0 14 rfl) rfl 0 rfl ?_
          refine v_get F 26 (xn (by decide)) xc_26 rfl inlX6 8 (by decide) (tc4 _ (List.mem_of_getElem? (i := 4) rfl)) rfl rfl (dq dkX6_readSum_0 15 rfl) ?_
          refine v_bipush F (v := 45) (dq dkX6_readSum_0 16 rfl) kb_45 ?_
          refine v_icmp_ne F (tgt := 74) (dq dkX6_readSum_0 17 rfl) (by decide) (fun c11 => ?_) (fun c11 => ?_)
          · rw [if_neg c11] at h
            have h := Option.some.inj h
            subst h
            exact v_vret F E (dq dkX6_readSum_0 35 rfl)
          · rw [if_pos c11] at h
            exact t_X6_readSum_38 rO rN rE d hrO hrN hrE (f_X6_readSum_6 rO rN rE n) x a1 ih h F E
def f_X6_readSum (rO rN rE : CS → Option CS) (x : CS) : Option (CS) := (f_X6_readTerm rO rN rE x).bind fun r12 => f_X6_readSum_6 rO rN rE 1000 r12 0
set_option maxRecDepth 100000 in
set_option maxHeartbeats 4000000 in
theorem c_X6_readSum {K : KE} {l : Launch} {R : CS} (rO rN rE : CS → Option CS) (d : Nat) (hrO : ∀ (l : Launch) (x R : CS) (y : MS), rO x = some R → MC K l yX6_readOne cX6_readOne 1 none (rm_X6_readOne d) 0 0 [.ref (K.1 + 26)] (xf K x y) (xf K R y) none) (hrN : ∀ (l : Launch) (x R : CS) (y : MS), rN x = some R → MC K l yX6_readNot cX6_readNot 2 none (rm_X6_readNot d) 0 0 [.ref (K.1 + 26)] (xf K x y) (xf K R y) none) (hrE : ∀ (l : Launch) (x R : CS) (y : MS), rE x = some R → MC K l yX6_readEither cX6_readEither 2 none (rm_X6_readEither d) 0 0 [.ref (K.1 + 26)] (xf K x y) (xf K R y) none) (x : CS) (y : MS) (h : f_X6_readSum rO rN rE x = some R) : MC K l yX6_readSum cX6_readSum 3 none (rm_X6_readSum (d + 1)) 0 0 [.ref (K.1 + 26)] (xf K x y) (xf K R y) none := by
  unfold f_X6_readSum at h
  refine mc_of (ls0 := [(0, .ref (K.1 + 26))]) (by decide) (Nat.le_of_ble_eq_true rfl) rfl (fun C hl hnm F E => ?_)
  have F : Fx C RX6 cX6_readSum 3 (rm_X6_readSum (d + 1)) K := F
  refine v_aload_n F (dq dkX6_readSum_0 0 rfl) rfl 0 rfl ?_
  obtain ⟨r12, e13, h⟩ := bd_of h
  refine v_callV 0 F (q := 26) (kc1 := 0) (ks1 := 0) (as := []) (st := []) (st1 := []) (res := none) (c_X6_readTerm (l := C.2.1) rO rN rE d hrO hrN hrE x y e13) (xn (by decide)) xc_26 rfl (tc10 _ (List.mem_of_getElem? (i := 21) rfl)) (tc10 _ (List.mem_of_getElem? (i := 22) rfl)) (tc10 _ (List.mem_of_getElem? (i := 23) rfl)) (tc1 _ (List.mem_of_getElem? (i := 23) rfl)) (tc11 _ (List.mem_of_getElem? (i := 0) rfl)) (by decide) rfl ⟨rfl, rfl, by show _ ≤ _; simp only [rm_X6_readSum, rm_X6_readTerm]; omega, by show _ ≤ _; simp only [rm_X6_readSum, rm_X6_readTerm]; omega⟩ ⟨Nat.le_of_ble_eq_true rfl, Nat.le_of_ble_eq_true rfl⟩ rfl (Nat.le_of_ble_eq_true rfl) rfl rfl rfl (dq dkX6_readSum_0 1 rfl) ?_
  refine v_iconst F (v := 0) (dq dkX6_readSum_0 2 rfl) ki_0 ?_
  refine v_istore_n F (ls' := [(1, .int 0), (0, .ref (K.1 + 26))]) (dq dkX6_readSum_0 3 rfl) rfl (by decide) rfl ?_
  refine v_sub [1, 0] rfl ?_
  exact t_X6_readSum_6 rO rN rE d hrO hrN hrE F E 1000 r12 0 h
def f_X6_readNot_80 (rO rN rE : CS → Option CS) (x : CS) (s0 : Int32) : Option (CS) := (f_X6_advance x).bind fun r1 => (f_X6_readSum rO rN rE r1).bind fun r3 => (f_X6_emit r3 s0).bind fun r5 => some r5
set_option maxRecDepth 100000 in
set_option maxHeartbeats 4000000 in
theorem t_X6_readNot_80 {C : Cx} {K : KE} {y : MS} {R : CS}  (rO rN rE : CS → Option CS) (d : Nat) (hrO : ∀ (l : Launch) (x R : CS) (y : MS), rO x = some R → MC K l yX6_readOne cX6_readOne 1 none (rm_X6_readOne d) 0 0 [.ref (K.1 + 26)] (xf K x y) (xf K R y) none) (hrN : ∀ (l : Launch) (x R : CS) (y : MS), rN x = some R → MC K l yX6_readNot cX6_readNot 2 none (rm_X6_readNot d) 0 0 [.ref (K.1 + 26)] (xf K x y) (xf K R y) none) (hrE : ∀ (l : Launch) (x R : CS) (y : MS), rE x = some R → MC K l yX6_readEither cX6_readEither 2 none (rm_X6_readEither d) 0 0 [.ref (K.1 + 26)] (xf K x y) (xf K R y) none) (x : CS) (s0 : Int32) (h : f_X6_readNot_80 rO rN rE x s0 = some R) (F : Fx C RX6 cX6_readNot 2 (rm_X6_readNot (d + 1)) K) (E : CE C (xf K R y) none 0 0 none) : V C 80 [(0, .ref (K.1 + 26))] [.int s0] (xf K x y) 0 0 := by
  unfold f_X6_readNot_80 at h
  refine v_istore_n F (ls' := [(1, .int s0), (0, .ref (K.1 + 26))]) (dq dkX6_readNot_0 38 rfl) rfl (by decide) rfl ?_
  refine v_aload_n F (dq dkX6_readNot_0 39 rfl) rfl 1 rfl ?_
  obtain ⟨r1, e2, h⟩ := bd_of h
  refine v_callV 0 F (q := 26) (kc1 := 0) (ks1 := 0) (as := []) (st := []) (st1 := []) (res := none) (c_X6_advance (l := C.2.1) x y e2) (xn (by decide)) xc_26 rfl (tc8 _ (List.mem_of_getElem? (i := 4) rfl)) (tc8 _ (List.mem_of_getElem? (i := 5) rfl)) (tc8 _ (List.mem_of_getElem? (i := 6) rfl)) (tc1 _ (List.mem_of_getElem? (i := 23) rfl)) (tc8 _ (List.mem_of_getElem? (i := 7) rfl)) (by decide) rfl ⟨rfl, rfl, by show _ ≤ _; simp only [rm_X6_readNot, rm_X6_advance]; omega, by show _ ≤ _; simp only [rm_X6_readNot, rm_X6_advance]; omega⟩ ⟨Nat.le_of_ble_eq_true rfl, Nat.le_of_ble_eq_true rfl⟩ rfl (Nat.le_of_ble_eq_true rfl) rfl rfl rfl (dq dkX6_readNot_1 0 rfl) ?_
  refine v_aload_n F (dq dkX6_readNot_1 1 rfl) rfl 1 rfl ?_
  obtain ⟨r3, e4, h⟩ := bd_of h
  refine v_callV 0 F (q := 26) (kc1 := 0) (ks1 := 0) (as := []) (st := []) (st1 := []) (res := none) (c_X6_readSum (l := C.2.1) rO rN rE d hrO hrN hrE r1 y e4) (xn (by decide)) xc_26 rfl (tc10 _ (List.mem_of_getElem? (i := 13) rfl)) (tc10 _ (List.mem_of_getElem? (i := 14) rfl)) (tc10 _ (List.mem_of_getElem? (i := 15) rfl)) (tc1 _ (List.mem_of_getElem? (i := 23) rfl)) (tc10 _ (List.mem_of_getElem? (i := 20) rfl)) (by decide) rfl ⟨rfl, rfl, by show _ ≤ _; simp only [rm_X6_readNot, rm_X6_readSum]; omega, by show _ ≤ _; simp only [rm_X6_readNot, rm_X6_readSum]; omega⟩ ⟨Nat.le_of_ble_eq_true rfl, Nat.le_of_ble_eq_true rfl⟩ rfl (Nat.le_of_ble_eq_true rfl) rfl rfl rfl (dq dkX6_readNot_1 2 rfl) ?_
  refine v_aload_n F (dq dkX6_readNot_1 3 rfl) rfl 1 rfl ?_
  refine v_iload_n F (dq dkX6_readNot_1 4 rfl) rfl 0 rfl ?_
  obtain ⟨r5, e6, h⟩ := bd_of h
  refine v_callV 1 F (q := 26) (kc1 := 0) (ks1 := 0) (as := [.int s0]) (st := []) (st1 := []) (res := none) (c_X6_emit (l := C.2.1) r3 y s0 e6) (xn (by decide)) xc_26 rfl (tc10 _ (List.mem_of_getElem? (i := 0) rfl)) (tc10 _ (List.mem_of_getElem? (i := 1) rfl)) (tc10 _ (List.mem_of_getElem? (i := 2) rfl)) (tc1 _ (List.mem_of_getElem? (i := 23) rfl)) (tc10 _ (List.mem_of_getElem? (i := 3) rfl)) (by decide) rfl ⟨rfl, rfl, by show _ ≤ _; simp only [rm_X6_readNot, rm_X6_emit]; omega, by show _ ≤ _; simp only [rm_X6_readNot, rm_X6_emit]; omega⟩ ⟨Nat.le_of_ble_eq_true rfl, Nat.le_of_ble_eq_true rfl⟩ rfl (Nat.le_of_ble_eq_true rfl) rfl rfl rfl (dq dkX6_readNot_1 5 rfl) ?_
  have h := Option.some.inj h
  subst h
  exact v_vret F E (dq dkX6_readNot_1 6 rfl)
def f_X6_readNot_64 (rO rN rE : CS → Option CS) (x : CS) : Option (CS) := if (gi x 26 8) = 60 then (f_X6_readNot_80 rO rN rE x (-14)) else (f_X6_readNot_80 rO rN rE x (-15))
set_option maxRecDepth 100000 in
set_option maxHeartbeats 4000000 in
theorem t_X6_readNot_64 {C : Cx} {K : KE} {y : MS} {R : CS}  (rO rN rE : CS → Option CS) (d : Nat) (hrO : ∀ (l : Launch) (x R : CS) (y : MS), rO x = some R → MC K l yX6_readOne cX6_readOne 1 none (rm_X6_readOne d) 0 0 [.ref (K.1 + 26)] (xf K x y) (xf K R y) none) (hrN : ∀ (l : Launch) (x R : CS) (y : MS), rN x = some R → MC K l yX6_readNot cX6_readNot 2 none (rm_X6_readNot d) 0 0 [.ref (K.1 + 26)] (xf K x y) (xf K R y) none) (hrE : ∀ (l : Launch) (x R : CS) (y : MS), rE x = some R → MC K l yX6_readEither cX6_readEither 2 none (rm_X6_readEither d) 0 0 [.ref (K.1 + 26)] (xf K x y) (xf K R y) none) (x : CS) (h : f_X6_readNot_64 rO rN rE x = some R) (F : Fx C RX6 cX6_readNot 2 (rm_X6_readNot (d + 1)) K) (E : CE C (xf K R y) none 0 0 none) : V C 64 [(0, .ref (K.1 + 26))] [] (xf K x y) 0 0 := by
  unfold f_X6_readNot_64 at h
  refine v_aload_n F (dq dkX6_readNot_0 31 rfl) rfl 0 rfl ?_
  refine v_get F 26 (xn (by decide)) xc_26 rfl inlX6 8 (by decide) (tc4 _ (List.mem_of_getElem? (i := 4) rfl)) rfl rfl (dq dkX6_readNot_0 32 rfl) ?_
  refine v_bipush F (v := 60) (dq dkX6_readNot_0 33 rfl) kb_60 ?_
  refine v_icmp_ne F (tgt := 78) (dq dkX6_readNot_0 34 rfl) (by decide) (fun c7 => ?_) (fun c7 => ?_)
  · rw [if_neg c7] at h
    refine v_bipush F (v := (-15)) (dq dkX6_readNot_0 37 rfl) kb_m15 ?_
    exact t_X6_readNot_80 rO rN rE d hrO hrN hrE x (-15) h F E
  · rw [if_pos c7] at h
    refine v_bipush F (v := (-14)) (dq dkX6_readNot_0 35 rfl) kb_m14 ?_
    refine v_goto F (tgt := 80) (dq dkX6_readNot_0 36 rfl) (by decide) ?_
    exact t_X6_readNot_80 rO rN rE d hrO hrN hrE x (-14) h F E
def f_X6_readNot (rO rN rE : CS → Option CS) (x : CS) : Option (CS) := if (gi x 26 8) = 305 then (if (b2i ((f_X6_opens x).1)) = 0 then (some ((f_X6_opens x).2)) else ((f_X6_advance ((f_X6_opens x).2)).bind fun r15 => (rN r15).bind fun r17 => (f_X6_emit r17 (-11)).bind fun r19 => some (pi r19 26 6 ((gi r19 26 6) - 1)))) else ((f_X6_readSum rO rN rE x).bind fun r9 => if (gi r9 26 8) = 60 then (f_X6_readNot_64 rO rN rE r9) else (if (gi r9 26 8) = 61 then (f_X6_readNot_64 rO rN rE r9) else (some r9)))
set_option maxRecDepth 100000 in
set_option maxHeartbeats 4000000 in
theorem c_X6_readNot {K : KE} {l : Launch} {R : CS} (rO rN rE : CS → Option CS) (d : Nat) (hrO : ∀ (l : Launch) (x R : CS) (y : MS), rO x = some R → MC K l yX6_readOne cX6_readOne 1 none (rm_X6_readOne d) 0 0 [.ref (K.1 + 26)] (xf K x y) (xf K R y) none) (hrN : ∀ (l : Launch) (x R : CS) (y : MS), rN x = some R → MC K l yX6_readNot cX6_readNot 2 none (rm_X6_readNot d) 0 0 [.ref (K.1 + 26)] (xf K x y) (xf K R y) none) (hrE : ∀ (l : Launch) (x R : CS) (y : MS), rE x = some R → MC K l yX6_readEither cX6_readEither 2 none (rm_X6_readEither d) 0 0 [.ref (K.1 + 26)] (xf K x y) (xf K R y) none) (x : CS) (y : MS) (h : f_X6_readNot rO rN rE x = some R) : MC K l yX6_readNot cX6_readNot 2 none (rm_X6_readNot (d + 1)) 0 0 [.ref (K.1 + 26)] (xf K x y) (xf K R y) none := by
  unfold f_X6_readNot at h
  refine mc_of (ls0 := [(0, .ref (K.1 + 26))]) (by decide) (Nat.le_of_ble_eq_true rfl) rfl (fun C hl hnm F E => ?_)
  have F : Fx C RX6 cX6_readNot 2 (rm_X6_readNot (d + 1)) K := F
  refine v_aload_n F (dq dkX6_readNot_0 0 rfl) rfl 0 rfl ?_
  refine v_get F 26 (xn (by decide)) xc_26 rfl inlX6 8 (by decide) (tc4 _ (List.mem_of_getElem? (i := 4) rfl)) rfl rfl (dq dkX6_readNot_0 1 rfl) ?_
  refine v_sipush F (v := 305) (dq dkX6_readNot_0 2 rfl) ks_305 ?_
  refine v_icmp_ne F (tgt := 42) (dq dkX6_readNot_0 3 rfl) (by decide) (fun c8 => ?_) (fun c8 => ?_)
  · rw [if_neg c8] at h
    refine v_aload_n F (dq dkX6_readNot_0 21 rfl) rfl 0 rfl ?_
    obtain ⟨r9, e10, h⟩ := bd_of h
    refine v_callV 0 F (q := 26) (kc1 := 0) (ks1 := 0) (as := []) (st := []) (st1 := []) (res := none) (c_X6_readSum (l := C.2.1) rO rN rE d hrO hrN hrE x y e10) (xn (by decide)) xc_26 rfl (tc10 _ (List.mem_of_getElem? (i := 13) rfl)) (tc10 _ (List.mem_of_getElem? (i := 14) rfl)) (tc10 _ (List.mem_of_getElem? (i := 15) rfl)) (tc1 _ (List.mem_of_getElem? (i := 23) rfl)) (tc10 _ (List.mem_of_getElem? (i := 20) rfl)) (by decide) rfl ⟨rfl, rfl, by show _ ≤ _; simp only [rm_X6_readNot, rm_X6_readSum]; omega, by show _ ≤ _; simp only [rm_X6_readNot, rm_X6_readSum]; omega⟩ ⟨Nat.le_of_ble_eq_true rfl, Nat.le_of_ble_eq_true rfl⟩ rfl (Nat.le_of_ble_eq_true rfl) rfl rfl rfl (dq dkX6_readNot_0 22 rfl) ?_
    refine v_aload_n F (dq dkX6_readNot_0 23 rfl) rfl 0 rfl ?_
    refine v_get F 26 (xn (by decide)) xc_26 rfl inlX6 8 (by decide) (tc4 _ (List.mem_of_getElem? (i := 4) rfl)) rfl rfl (dq dkX6_readNot_0 24 rfl) ?_
    refine v_bipush F (v := 60) (dq dkX6_readNot_0 25 rfl) kb_60 ?_
    refine v_icmp_eq F (tgt := 64) (dq dkX6_readNot_0 26 rfl) (by decide) (fun c11 => ?_) (fun c11 => ?_)
    · rw [if_pos c11] at h
      exact t_X6_readNot_64 rO rN rE d hrO hrN hrE r9 h F E
    · rw [if_neg c11] at h
      refine v_aload_n F (dq dkX6_readNot_0 27 rfl) rfl 0 rfl ?_
      refine v_get F 26 (xn (by decide)) xc_26 rfl inlX6 8 (by decide) (tc4 _ (List.mem_of_getElem? (i := 4) rfl)) rfl rfl (dq dkX6_readNot_0 28 rfl) ?_
      refine v_bipush F (v := 61) (dq dkX6_readNot_0 29 rfl) kb_61 ?_
      refine v_icmp_ne F (tgt := 94) (dq dkX6_readNot_0 30 rfl) (by decide) (fun c12 => ?_) (fun c12 => ?_)
      · rw [if_neg c12] at h
        have h := Option.some.inj h
        subst h
        exact v_vret F E (dq dkX6_readNot_1 6 rfl)
      · rw [if_pos c12] at h
        exact t_X6_readNot_64 rO rN rE d hrO hrN hrE r9 h F E
  · rw [if_pos c8] at h
    refine v_aload_n F (dq dkX6_readNot_0 4 rfl) rfl 0 rfl ?_
    refine v_callV 0 F (q := 26) (kc1 := 0) (ks1 := 0) (as := []) (st := []) (st1 := (.int (b2i ((f_X6_opens x).1)) :: [])) (res := (some (.int (b2i ((f_X6_opens x).1))))) (c_X6_opens (l := C.2.1) x y) (xn (by decide)) xc_26 rfl (tc10 _ (List.mem_of_getElem? (i := 9) rfl)) (tc10 _ (List.mem_of_getElem? (i := 10) rfl)) (tc10 _ (List.mem_of_getElem? (i := 11) rfl)) (tc1 _ (List.mem_of_getElem? (i := 23) rfl)) (tc10 _ (List.mem_of_getElem? (i := 12) rfl)) (by decide) rfl ⟨rfl, rfl, by show _ ≤ _; simp only [rm_X6_readNot, rm_X6_opens]; omega, by show _ ≤ _; simp only [rm_X6_readNot, rm_X6_opens]; omega⟩ ⟨Nat.le_of_ble_eq_true rfl, Nat.le_of_ble_eq_true rfl⟩ rfl (Nat.le_of_ble_eq_true rfl) rfl rfl rfl (dq dkX6_readNot_0 5 rfl) ?_
    refine v_if_eq F (tgt := 41) (dq dkX6_readNot_0 6 rfl) (by decide) (fun c14 => ?_) (fun c14 => ?_)
    · rw [if_pos c14] at h
      have h := Option.some.inj h
      subst h
      exact v_vret F E (dq dkX6_readNot_0 20 rfl)
    · rw [if_neg c14] at h
      refine v_aload_n F (dq dkX6_readNot_0 7 rfl) rfl 0 rfl ?_
      obtain ⟨r15, e16, h⟩ := bd_of h
      refine v_callV 0 F (q := 26) (kc1 := 0) (ks1 := 0) (as := []) (st := []) (st1 := []) (res := none) (c_X6_advance (l := C.2.1) ((f_X6_opens x).2) y e16) (xn (by decide)) xc_26 rfl (tc8 _ (List.mem_of_getElem? (i := 4) rfl)) (tc8 _ (List.mem_of_getElem? (i := 5) rfl)) (tc8 _ (List.mem_of_getElem? (i := 6) rfl)) (tc1 _ (List.mem_of_getElem? (i := 23) rfl)) (tc8 _ (List.mem_of_getElem? (i := 7) rfl)) (by decide) rfl ⟨rfl, rfl, by show _ ≤ _; simp only [rm_X6_readNot, rm_X6_advance]; omega, by show _ ≤ _; simp only [rm_X6_readNot, rm_X6_advance]; omega⟩ ⟨Nat.le_of_ble_eq_true rfl, Nat.le_of_ble_eq_true rfl⟩ rfl (Nat.le_of_ble_eq_true rfl) rfl rfl rfl (dq dkX6_readNot_0 8 rfl) ?_
      refine v_aload_n F (dq dkX6_readNot_0 9 rfl) rfl 0 rfl ?_
      obtain ⟨r17, e18, h⟩ := bd_of h
      refine v_callV 0 F (q := 26) (kc1 := 0) (ks1 := 0) (as := []) (st := []) (st1 := []) (res := none) (hrN C.2.1 r15 _ y e18) (xn (by decide)) xc_26 rfl (tc10 _ (List.mem_of_getElem? (i := 5) rfl)) (tc10 _ (List.mem_of_getElem? (i := 6) rfl)) (tc10 _ (List.mem_of_getElem? (i := 7) rfl)) (tc1 _ (List.mem_of_getElem? (i := 23) rfl)) (tc10 _ (List.mem_of_getElem? (i := 8) rfl)) (by decide) rfl ⟨rfl, rfl, by show _ ≤ _; simp only [rm_X6_readNot, rm_X6_readNot]; omega, by show _ ≤ _; simp only [rm_X6_readNot, rm_X6_readNot]; omega⟩ ⟨Nat.le_of_ble_eq_true rfl, Nat.le_of_ble_eq_true rfl⟩ rfl (Nat.le_of_ble_eq_true rfl) rfl rfl rfl (dq dkX6_readNot_0 10 rfl) ?_
      refine v_aload_n F (dq dkX6_readNot_0 11 rfl) rfl 0 rfl ?_
      refine v_bipush F (v := (-11)) (dq dkX6_readNot_0 12 rfl) kb_m11 ?_
      obtain ⟨r19, e20, h⟩ := bd_of h
      refine v_callV 1 F (q := 26) (kc1 := 0) (ks1 := 0) (as := [.int (-11)]) (st := []) (st1 := []) (res := none) (c_X6_emit (l := C.2.1) r17 y (-11) e20) (xn (by decide)) xc_26 rfl (tc10 _ (List.mem_of_getElem? (i := 0) rfl)) (tc10 _ (List.mem_of_getElem? (i := 1) rfl)) (tc10 _ (List.mem_of_getElem? (i := 2) rfl)) (tc1 _ (List.mem_of_getElem? (i := 23) rfl)) (tc10 _ (List.mem_of_getElem? (i := 3) rfl)) (by decide) rfl ⟨rfl, rfl, by show _ ≤ _; simp only [rm_X6_readNot, rm_X6_emit]; omega, by show _ ≤ _; simp only [rm_X6_readNot, rm_X6_emit]; omega⟩ ⟨Nat.le_of_ble_eq_true rfl, Nat.le_of_ble_eq_true rfl⟩ rfl (Nat.le_of_ble_eq_true rfl) rfl rfl rfl (dq dkX6_readNot_0 13 rfl) ?_
      refine v_aload_n F (dq dkX6_readNot_0 14 rfl) rfl 0 rfl ?_
      refine v_dup F (dq dkX6_readNot_0 15 rfl) rfl ?_
      refine v_get F 26 (xn (by decide)) xc_26 rfl inlX6 6 (by decide) (tc4 _ (List.mem_of_getElem? (i := 2) rfl)) rfl rfl (dq dkX6_readNot_0 16 rfl) ?_
      refine v_iconst F (v := 1) (dq dkX6_readNot_0 17 rfl) ki_1 ?_
      refine v_isub F (dq dkX6_readNot_0 18 rfl) ?_
      refine v_put F 26 (xn (by decide)) xc_26 rfl inlX6 tyX6_ok nmX6 6 (by decide) (tc4 _ (List.mem_of_getElem? (i := 2) rfl)) rfl rfl (tyX6_ok 6 (by decide)) rfl rfl (Nat.le_of_ble_eq_true rfl) (dq dkX6_readNot_0 19 rfl) ?_
      refine v_eqM (xwC (q := 26) (j := 6) (v := (gi r19 26 6) - 1) (by decide) rfl) ?_
      have h := Option.some.inj h
      subst h
      exact v_vret F E (dq dkX6_readNot_0 20 rfl)
def f_X6_readBoth_6 (rO rN rE : CS → Option CS) : Nat → CS → Int32 → Option (CS)
  | 0, _, _ => none
  | n + 1, x, a1 => if 160 ≤ a1 then (some x) else (if 0 ≤ (gi x 26 5) then (some x) else (if (gi x 26 8) = 304 then ((f_X6_advance x).bind fun r4 => (f_X6_readNot rO rN rE r4).bind fun r6 => (f_X6_emit r6 (-13)).bind fun r8 => (f_X6_readBoth_6 rO rN rE n) r8 (a1 + 1)) else (some x)))
set_option maxRecDepth 100000 in
set_option maxHeartbeats 4000000 in
theorem t_X6_readBoth_6 {C : Cx} {K : KE} {y : MS} {R : CS}  (rO rN rE : CS → Option CS) (d : Nat) (hrO : ∀ (l : Launch) (x R : CS) (y : MS), rO x = some R → MC K l yX6_readOne cX6_readOne 1 none (rm_X6_readOne d) 0 0 [.ref (K.1 + 26)] (xf K x y) (xf K R y) none) (hrN : ∀ (l : Launch) (x R : CS) (y : MS), rN x = some R → MC K l yX6_readNot cX6_readNot 2 none (rm_X6_readNot d) 0 0 [.ref (K.1 + 26)] (xf K x y) (xf K R y) none) (hrE : ∀ (l : Launch) (x R : CS) (y : MS), rE x = some R → MC K l yX6_readEither cX6_readEither 2 none (rm_X6_readEither d) 0 0 [.ref (K.1 + 26)] (xf K x y) (xf K R y) none) (F : Fx C RX6 cX6_readBoth 2 (rm_X6_readBoth (d + 1)) K) (E : CE C (xf K R y) none 0 0 none) : ∀ (n : Nat) (x : CS) (a1 : Int32) (h : f_X6_readBoth_6 rO rN rE n x a1 = some R), V C 6 [(0, .ref (K.1 + 26)), (1, .int a1)] [] (xf K x y) 0 0 := by
  intro n
  induction n with
  | zero => intro x a1 h; cases h
  | succ n ih =>
    intro x a1 h
    rw [f_X6_readBoth_6] at h
    refine v_iload_n F (dq dkX6_readBoth_0 4 rfl) rfl 1 rfl ?_
    refine v_sipush F (v := 160) (dq dkX6_readBoth_0 5 rfl) ks_160 ?_
    refine v_icmp_ge F (tgt := 50) (dq dkX6_readBoth_0 6 rfl) (by decide) (fun c1 => ?_) (fun c1 => ?_)
    · rw [if_pos c1] at h
      have h := Option.some.inj h
      subst h
      exact v_vret F E (dq dkX6_readBoth_0 23 rfl)
    · rw [if_neg c1] at h
      refine v_aload_n F (dq dkX6_readBoth_0 7 rfl) rfl 0 rfl ?_
      refine v_get F 26 (xn (by decide)) xc_26 rfl inlX6 5 (by decide) (tc4 _ (List.mem_of_getElem? (i := 1) rfl)) rfl rfl (dq dkX6_readBoth_0 8 rfl) ?_
      refine v_if_ge F (tgt := 50) (dq dkX6_readBoth_0 9 rfl) (by decide) (fun c2 => ?_) (fun c2 => ?_)
      · rw [if_pos c2] at h
        have h := Option.some.inj h
        subst h
        exact v_vret F E (dq dkX6_readBoth_0 23 rfl)
      · rw [if_neg c2] at h
        refine v_aload_n F (dq dkX6_readBoth_0 10 rfl) rfl 0 rfl ?_
        refine v_get F 26 (xn (by decide)) xc_26 rfl inlX6 8 (by decide) (tc4 _ (List.mem_of_getElem? (i := 4) rfl)) rfl rfl (dq dkX6_readBoth_0 11 rfl) ?_
        refine v_sipush F (v := 304) (dq dkX6_readBoth_0 12 rfl) ks_304 ?_
        refine v_icmp_ne F (tgt := 50) (dq dkX6_readBoth_0 13 rfl) (by decide) (fun c3 => ?_) (fun c3 => ?_)
        · rw [if_neg c3] at h
          have h := Option.some.inj h
          subst h
          exact v_vret F E (dq dkX6_readBoth_0 23 rfl)
        · rw [if_pos c3] at h
          refine v_aload_n F (dq dkX6_readBoth_0 14 rfl) rfl 0 rfl ?_
          obtain ⟨r4, e5, h⟩ := bd_of h
          refine v_callV 0 F (q := 26) (kc1 := 0) (ks1 := 0) (as := []) (st := []) (st1 := []) (res := none) (c_X6_advance (l := C.2.1) x y e5) (xn (by decide)) xc_26 rfl (tc8 _ (List.mem_of_getElem? (i := 4) rfl)) (tc8 _ (List.mem_of_getElem? (i := 5) rfl)) (tc8 _ (List.mem_of_getElem? (i := 6) rfl)) (tc1 _ (List.mem_of_getElem? (i := 23) rfl)) (tc8 _ (List.mem_of_getElem? (i := 7) rfl)) (by decide) rfl ⟨rfl, rfl, by show _ ≤ _; simp only [rm_X6_readBoth, rm_X6_advance]; omega, by show _ ≤ _; simp only [rm_X6_readBoth, rm_X6_advance]; omega⟩ ⟨Nat.le_of_ble_eq_true rfl, Nat.le_of_ble_eq_true rfl⟩ rfl (Nat.le_of_ble_eq_true rfl) rfl rfl rfl (dq dkX6_readBoth_0 15 rfl) ?_
          refine v_aload_n F (dq dkX6_readBoth_0 16 rfl) rfl 0 rfl ?_
          obtain ⟨r6, e7, h⟩ := bd_of h
          refine v_callV 0 F (q := 26) (kc1 := 0) (ks1 := 0) (as := []) (st := []) (st1 := []) (res := none) (c_X6_readNot (l := C.2.1) rO rN rE d hrO hrN hrE r4 y e7) (xn (by decide)) xc_26 rfl (tc10 _ (List.mem_of_getElem? (i := 5) rfl)) (tc10 _ (List.mem_of_getElem? (i := 6) rfl)) (tc10 _ (List.mem_of_getElem? (i := 7) rfl)) (tc1 _ (List.mem_of_getElem? (i := 23) rfl)) (tc10 _ (List.mem_of_getElem? (i := 8) rfl)) (by decide) rfl ⟨rfl, rfl, by show _ ≤ _; simp only [rm_X6_readBoth, rm_X6_readNot]; omega, by show _ ≤ _; simp only [rm_X6_readBoth, rm_X6_readNot]; omega⟩ ⟨Nat.le_of_ble_eq_true rfl, Nat.le_of_ble_eq_true rfl⟩ rfl (Nat.le_of_ble_eq_true rfl) rfl rfl rfl (dq dkX6_readBoth_0 17 rfl) ?_
          refine v_aload_n F (dq dkX6_readBoth_0 18 rfl) rfl 0 rfl ?_
          refine v_bipush F (v := (-13)) (dq dkX6_readBoth_0 19 rfl) kb_m13 ?_
          obtain ⟨r8, e9, h⟩ := bd_of h
          refine v_callV 1 F (q := 26) (kc1 := 0) (ks1 := 0) (as := [.int (-13)]) (st := []) (st1 := []) (res := none) (c_X6_emit (l := C.2.1) r6 y (-13) e9) (xn (by decide)) xc_26 rfl (tc10 _ (List.mem_of_getElem? (i := 0) rfl)) (tc10 _ (List.mem_of_getElem? (i := 1) rfl)) (tc10 _ (List.mem_of_getElem? (i := 2) rfl)) (tc1 _ (List.mem_of_getElem? (i := 23) rfl)) (tc10 _ (List.mem_of_getElem? (i := 3) rfl)) (by decide) rfl ⟨rfl, rfl, by show _ ≤ _; simp only [rm_X6_readBoth, rm_X6_emit]; omega, by show _ ≤ _; simp only [rm_X6_readBoth, rm_X6_emit]; omega⟩ ⟨Nat.le_of_ble_eq_true rfl, Nat.le_of_ble_eq_true rfl⟩ rfl (Nat.le_of_ble_eq_true rfl) rfl rfl rfl (dq dkX6_readBoth_0 20 rfl) ?_
          refine v_iinc F (v := a1 + 1) (ls' := [(1, .int (a1 + 1)), (0, .ref (K.1 + 26))]) (dq dkX6_readBoth_0 21 rfl) (j := 1) rfl (kv_add ki_1) (by decide) rfl ?_
          refine v_goto F (tgt := 6) (dq dkX6_readBoth_0 22 rfl) (by decide) ?_
          refine v_sub [1, 0] rfl ?_
          exact ih r8 (a1 + 1) h
def f_X6_readBoth (rO rN rE : CS → Option CS) (x : CS) : Option (CS) := (f_X6_readNot rO rN rE x).bind fun r10 => f_X6_readBoth_6 rO rN rE 1000 r10 0
set_option maxRecDepth 100000 in
set_option maxHeartbeats 4000000 in
theorem c_X6_readBoth {K : KE} {l : Launch} {R : CS} (rO rN rE : CS → Option CS) (d : Nat) (hrO : ∀ (l : Launch) (x R : CS) (y : MS), rO x = some R → MC K l yX6_readOne cX6_readOne 1 none (rm_X6_readOne d) 0 0 [.ref (K.1 + 26)] (xf K x y) (xf K R y) none) (hrN : ∀ (l : Launch) (x R : CS) (y : MS), rN x = some R → MC K l yX6_readNot cX6_readNot 2 none (rm_X6_readNot d) 0 0 [.ref (K.1 + 26)] (xf K x y) (xf K R y) none) (hrE : ∀ (l : Launch) (x R : CS) (y : MS), rE x = some R → MC K l yX6_readEither cX6_readEither 2 none (rm_X6_readEither d) 0 0 [.ref (K.1 + 26)] (xf K x y) (xf K R y) none) (x : CS) (y : MS) (h : f_X6_readBoth rO rN rE x = some R) : MC K l yX6_readBoth cX6_readBoth 2 none (rm_X6_readBoth (d + 1)) 0 0 [.ref (K.1 + 26)] (xf K x y) (xf K R y) none := by
  unfold f_X6_readBoth at h
  refine mc_of (ls0 := [(0, .ref (K.1 + 26))]) (by decide) (Nat.le_of_ble_eq_true rfl) rfl (fun C hl hnm F E => ?_)
  have F : Fx C RX6 cX6_readBoth 2 (rm_X6_readBoth (d + 1)) K := F
  refine v_aload_n F (dq dkX6_readBoth_0 0 rfl) rfl 0 rfl ?_
  obtain ⟨r10, e11, h⟩ := bd_of h
  refine v_callV 0 F (q := 26) (kc1 := 0) (ks1 := 0) (as := []) (st := []) (st1 := []) (res := none) (c_X6_readNot (l := C.2.1) rO rN rE d hrO hrN hrE x y e11) (xn (by decide)) xc_26 rfl (tc10 _ (List.mem_of_getElem? (i := 5) rfl)) (tc10 _ (List.mem_of_getElem? (i := 6) rfl)) (tc10 _ (List.mem_of_getElem? (i := 7) rfl)) (tc1 _ (List.mem_of_getElem? (i := 23) rfl)) (tc10 _ (List.mem_of_getElem? (i := 8) rfl)) (by decide) rfl ⟨rfl, rfl, by show _ ≤ _; simp only [rm_X6_readBoth, rm_X6_readNot]; omega, by show _ ≤ _; simp only [rm_X6_readBoth, rm_X6_readNot]; omega⟩ ⟨Nat.le_of_ble_eq_true rfl, Nat.le_of_ble_eq_true rfl⟩ rfl (Nat.le_of_ble_eq_true rfl) rfl rfl rfl (dq dkX6_readBoth_0 1 rfl) ?_
  refine v_iconst F (v := 0) (dq dkX6_readBoth_0 2 rfl) ki_0 ?_
  refine v_istore_n F (ls' := [(1, .int 0), (0, .ref (K.1 + 26))]) (dq dkX6_readBoth_0 3 rfl) rfl (by decide) rfl ?_
  refine v_sub [1, 0] rfl ?_
  exact t_X6_readBoth_6 rO rN rE d hrO hrN hrE F E 1000 r10 0 h
def f_X6_readEither_6 (rO rN rE : CS → Option CS) : Nat → CS → Int32 → Option (CS)
  | 0, _, _ => none
  | n + 1, x, a1 => if 160 ≤ a1 then (some x) else (if 0 ≤ (gi x 26 5) then (some x) else (if (gi x 26 8) = 303 then ((f_X6_advance x).bind fun r4 => (f_X6_readBoth rO rN rE r4).bind fun r6 => (f_X6_emit r6 (-12)).bind fun r8 => (f_X6_readEither_6 rO rN rE n) r8 (a1 + 1)) else (some x)))
set_option maxRecDepth 100000 in
set_option maxHeartbeats 4000000 in
theorem t_X6_readEither_6 {C : Cx} {K : KE} {y : MS} {R : CS}  (rO rN rE : CS → Option CS) (d : Nat) (hrO : ∀ (l : Launch) (x R : CS) (y : MS), rO x = some R → MC K l yX6_readOne cX6_readOne 1 none (rm_X6_readOne d) 0 0 [.ref (K.1 + 26)] (xf K x y) (xf K R y) none) (hrN : ∀ (l : Launch) (x R : CS) (y : MS), rN x = some R → MC K l yX6_readNot cX6_readNot 2 none (rm_X6_readNot d) 0 0 [.ref (K.1 + 26)] (xf K x y) (xf K R y) none) (hrE : ∀ (l : Launch) (x R : CS) (y : MS), rE x = some R → MC K l yX6_readEither cX6_readEither 2 none (rm_X6_readEither d) 0 0 [.ref (K.1 + 26)] (xf K x y) (xf K R y) none) (F : Fx C RX6 cX6_readEither 2 (rm_X6_readEither (d + 1)) K) (E : CE C (xf K R y) none 0 0 none) : ∀ (n : Nat) (x : CS) (a1 : Int32) (h : f_X6_readEither_6 rO rN rE n x a1 = some R), V C 6 [(0, .ref (K.1 + 26)), (1, .int a1)] [] (xf K x y) 0 0 := by
  intro n
  induction n with
  | zero => intro x a1 h; cases h
  | succ n ih =>
    intro x a1 h
    rw [f_X6_readEither_6] at h
    refine v_iload_n F (dq dkX6_readEither_0 4 rfl) rfl 1 rfl ?_
    refine v_sipush F (v := 160) (dq dkX6_readEither_0 5 rfl) ks_160 ?_
    refine v_icmp_ge F (tgt := 50) (dq dkX6_readEither_0 6 rfl) (by decide) (fun c1 => ?_) (fun c1 => ?_)
    · rw [if_pos c1] at h
      have h := Option.some.inj h
      subst h
      exact v_vret F E (dq dkX6_readEither_0 23 rfl)
    · rw [if_neg c1] at h
      refine v_aload_n F (dq dkX6_readEither_0 7 rfl) rfl 0 rfl ?_
      refine v_get F 26 (xn (by decide)) xc_26 rfl inlX6 5 (by decide) (tc4 _ (List.mem_of_getElem? (i := 1) rfl)) rfl rfl (dq dkX6_readEither_0 8 rfl) ?_
      refine v_if_ge F (tgt := 50) (dq dkX6_readEither_0 9 rfl) (by decide) (fun c2 => ?_) (fun c2 => ?_)
      · rw [if_pos c2] at h
        have h := Option.some.inj h
        subst h
        exact v_vret F E (dq dkX6_readEither_0 23 rfl)
      · rw [if_neg c2] at h
        refine v_aload_n F (dq dkX6_readEither_0 10 rfl) rfl 0 rfl ?_
        refine v_get F 26 (xn (by decide)) xc_26 rfl inlX6 8 (by decide) (tc4 _ (List.mem_of_getElem? (i := 4) rfl)) rfl rfl (dq dkX6_readEither_0 11 rfl) ?_
        refine v_sipush F (v := 303) (dq dkX6_readEither_0 12 rfl) ks_303 ?_
        refine v_icmp_ne F (tgt := 50) (dq dkX6_readEither_0 13 rfl) (by decide) (fun c3 => ?_) (fun c3 => ?_)
        · rw [if_neg c3] at h
          have h := Option.some.inj h
          subst h
          exact v_vret F E (dq dkX6_readEither_0 23 rfl)
        · rw [if_pos c3] at h
          refine v_aload_n F (dq dkX6_readEither_0 14 rfl) rfl 0 rfl ?_
          obtain ⟨r4, e5, h⟩ := bd_of h
          refine v_callV 0 F (q := 26) (kc1 := 0) (ks1 := 0) (as := []) (st := []) (st1 := []) (res := none) (c_X6_advance (l := C.2.1) x y e5) (xn (by decide)) xc_26 rfl (tc8 _ (List.mem_of_getElem? (i := 4) rfl)) (tc8 _ (List.mem_of_getElem? (i := 5) rfl)) (tc8 _ (List.mem_of_getElem? (i := 6) rfl)) (tc1 _ (List.mem_of_getElem? (i := 23) rfl)) (tc8 _ (List.mem_of_getElem? (i := 7) rfl)) (by decide) rfl ⟨rfl, rfl, by show _ ≤ _; simp only [rm_X6_readEither, rm_X6_advance]; omega, by show _ ≤ _; simp only [rm_X6_readEither, rm_X6_advance]; omega⟩ ⟨Nat.le_of_ble_eq_true rfl, Nat.le_of_ble_eq_true rfl⟩ rfl (Nat.le_of_ble_eq_true rfl) rfl rfl rfl (dq dkX6_readEither_0 15 rfl) ?_
          refine v_aload_n F (dq dkX6_readEither_0 16 rfl) rfl 0 rfl ?_
          obtain ⟨r6, e7, h⟩ := bd_of h
          refine v_callV 0 F (q := 26) (kc1 := 0) (ks1 := 0) (as := []) (st := []) (st1 := []) (res := none) (c_X6_readBoth (l := C.2.1) rO rN rE d hrO hrN hrE r4 y e7) (xn (by decide)) xc_26 rfl (tc9 _ (List.mem_of_getElem? (i := 21) rfl)) (tc9 _ (List.mem_of_getElem? (i := 22) rfl)) (tc9 _ (List.mem_of_getElem? (i := 23) rfl)) (tc1 _ (List.mem_of_getElem? (i := 23) rfl)) (tc10 _ (List.mem_of_getElem? (i := 4) rfl)) (by decide) rfl ⟨rfl, rfl, by show _ ≤ _; simp only [rm_X6_readEither, rm_X6_readBoth]; omega, by show _ ≤ _; simp only [rm_X6_readEither, rm_X6_readBoth]; omega⟩ ⟨Nat.le_of_ble_eq_true rfl, Nat.le_of_ble_eq_true rfl⟩ rfl (Nat.le_of_ble_eq_true rfl) rfl rfl rfl (dq dkX6_readEither_0 17 rfl) ?_
          refine v_aload_n F (dq dkX6_readEither_0 18 rfl) rfl 0 rfl ?_
          refine v_bipush F (v := (-12)) (dq dkX6_readEither_0 19 rfl) kb_m12 ?_
          obtain ⟨r8, e9, h⟩ := bd_of h
          refine v_callV 1 F (q := 26) (kc1 := 0) (ks1 := 0) (as := [.int (-12)]) (st := []) (st1 := []) (res := none) (c_X6_emit (l := C.2.1) r6 y (-12) e9) (xn (by decide)) xc_26 rfl (tc10 _ (List.mem_of_getElem? (i := 0) rfl)) (tc10 _ (List.mem_of_getElem? (i := 1) rfl)) (tc10 _ (List.mem_of_getElem? (i := 2) rfl)) (tc1 _ (List.mem_of_getElem? (i := 23) rfl)) (tc10 _ (List.mem_of_getElem? (i := 3) rfl)) (by decide) rfl ⟨rfl, rfl, by show _ ≤ _; simp only [rm_X6_readEither, rm_X6_emit]; omega, by show _ ≤ _; simp only [rm_X6_readEither, rm_X6_emit]; omega⟩ ⟨Nat.le_of_ble_eq_true rfl, Nat.le_of_ble_eq_true rfl⟩ rfl (Nat.le_of_ble_eq_true rfl) rfl rfl rfl (dq dkX6_readEither_0 20 rfl) ?_
          refine v_iinc F (v := a1 + 1) (ls' := [(1, .int (a1 + 1)), (0, .ref (K.1 + 26))]) (dq dkX6_readEither_0 21 rfl) (j := 1) rfl (kv_add ki_1) (by decide) rfl ?_
          refine v_goto F (tgt := 6) (dq dkX6_readEither_0 22 rfl) (by decide) ?_
          refine v_sub [1, 0] rfl ?_
          exact ih r8 (a1 + 1) h
def f_X6_readEither (rO rN rE : CS → Option CS) (x : CS) : Option (CS) := (f_X6_readBoth rO rN rE x).bind fun r10 => f_X6_readEither_6 rO rN rE 1000 r10 0
set_option maxRecDepth 100000 in
set_option maxHeartbeats 4000000 in
theorem c_X6_readEither {K : KE} {l : Launch} {R : CS} (rO rN rE : CS → Option CS) (d : Nat) (hrO : ∀ (l : Launch) (x R : CS) (y : MS), rO x = some R → MC K l yX6_readOne cX6_readOne 1 none (rm_X6_readOne d) 0 0 [.ref (K.1 + 26)] (xf K x y) (xf K R y) none) (hrN : ∀ (l : Launch) (x R : CS) (y : MS), rN x = some R → MC K l yX6_readNot cX6_readNot 2 none (rm_X6_readNot d) 0 0 [.ref (K.1 + 26)] (xf K x y) (xf K R y) none) (hrE : ∀ (l : Launch) (x R : CS) (y : MS), rE x = some R → MC K l yX6_readEither cX6_readEither 2 none (rm_X6_readEither d) 0 0 [.ref (K.1 + 26)] (xf K x y) (xf K R y) none) (x : CS) (y : MS) (h : f_X6_readEither rO rN rE x = some R) : MC K l yX6_readEither cX6_readEither 2 none (rm_X6_readEither (d + 1)) 0 0 [.ref (K.1 + 26)] (xf K x y) (xf K R y) none := by
  unfold f_X6_readEither at h
  refine mc_of (ls0 := [(0, .ref (K.1 + 26))]) (by decide) (Nat.le_of_ble_eq_true rfl) rfl (fun C hl hnm F E => ?_)
  have F : Fx C RX6 cX6_readEither 2 (rm_X6_readEither (d + 1)) K := F
  refine v_aload_n F (dq dkX6_readEither_0 0 rfl) rfl 0 rfl ?_
  obtain ⟨r10, e11, h⟩ := bd_of h
  refine v_callV 0 F (q := 26) (kc1 := 0) (ks1 := 0) (as := []) (st := []) (st1 := []) (res := none) (c_X6_readBoth (l := C.2.1) rO rN rE d hrO hrN hrE x y e11) (xn (by decide)) xc_26 rfl (tc9 _ (List.mem_of_getElem? (i := 21) rfl)) (tc9 _ (List.mem_of_getElem? (i := 22) rfl)) (tc9 _ (List.mem_of_getElem? (i := 23) rfl)) (tc1 _ (List.mem_of_getElem? (i := 23) rfl)) (tc10 _ (List.mem_of_getElem? (i := 4) rfl)) (by decide) rfl ⟨rfl, rfl, by show _ ≤ _; simp only [rm_X6_readEither, rm_X6_readBoth]; omega, by show _ ≤ _; simp only [rm_X6_readEither, rm_X6_readBoth]; omega⟩ ⟨Nat.le_of_ble_eq_true rfl, Nat.le_of_ble_eq_true rfl⟩ rfl (Nat.le_of_ble_eq_true rfl) rfl rfl rfl (dq dkX6_readEither_0 1 rfl) ?_
  refine v_iconst F (v := 0) (dq dkX6_readEither_0 2 rfl) ki_0 ?_
  refine v_istore_n F (ls' := [(1, .int 0), (0, .ref (K.1 + 26))]) (dq dkX6_readEither_0 3 rfl) rfl (by decide) rfl ?_
  refine v_sub [1, 0] rfl ?_
  exact t_X6_readEither_6 rO rN rE d hrO hrN hrE F E 1000 r10 0 h
/-- the reading of an E, by how deep it may go -/
def f_X6_grp : Nat → (CS → Option CS) × (CS → Option CS) × (CS → Option CS)
  | 0 => (fun _ => none, fun _ => none, fun _ => none)
  | n + 1 => (f_X6_readOne (f_X6_grp n).1 (f_X6_grp n).2.1 (f_X6_grp n).2.2, f_X6_readNot (f_X6_grp n).1 (f_X6_grp n).2.1 (f_X6_grp n).2.2, f_X6_readEither (f_X6_grp n).1 (f_X6_grp n).2.1 (f_X6_grp n).2.2)
def f_X6_top (n : Nat) (x : CS) : Option CS := (f_X6_grp n).2.2 x
theorem c_X6_grp {K : KE} : ∀ n : Nat, (∀ (l : Launch) (x R : CS) (y : MS), (f_X6_grp n).1 x = some R → MC K l yX6_readOne cX6_readOne 1 none (rm_X6_readOne n) 0 0 [.ref (K.1 + 26)] (xf K x y) (xf K R y) none) ∧ (∀ (l : Launch) (x R : CS) (y : MS), (f_X6_grp n).2.1 x = some R → MC K l yX6_readNot cX6_readNot 2 none (rm_X6_readNot n) 0 0 [.ref (K.1 + 26)] (xf K x y) (xf K R y) none) ∧ (∀ (l : Launch) (x R : CS) (y : MS), (f_X6_grp n).2.2 x = some R → MC K l yX6_readEither cX6_readEither 2 none (rm_X6_readEither n) 0 0 [.ref (K.1 + 26)] (xf K x y) (xf K R y) none) := by
  intro n
  induction n with
  | zero => exact ⟨fun l x R y h => (by cases h), fun l x R y h => (by cases h), fun l x R y h => (by cases h)⟩
  | succ n ih =>
    obtain ⟨i1, i2, i3⟩ := ih
    exact ⟨fun l x R y h => c_X6_readOne _ _ _ n i1 i2 i3 x y h, fun l x R y h => c_X6_readNot _ _ _ n i1 i2 i3 x y h, fun l x R y h => c_X6_readEither _ _ _ n i1 i2 i3 x y h⟩
theorem c_X6_top {K : KE} {l : Launch} (n : Nat) (x : CS) (y : MS) {R : CS} (h : f_X6_top n x = some R) : MC K l yX6_readEither cX6_readEither 2 none (rm_X6_readEither n) 0 0 [.ref (K.1 + 26)] (xf K x y) (xf K R y) none := (c_X6_grp n).2.2 l x R y h
