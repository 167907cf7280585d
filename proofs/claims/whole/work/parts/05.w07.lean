def rm_X6_readOne (d : Nat) : Room := { frames := 12 + 6 * d, cells := 0, slots := 0, locals := 300 + 180 * d }
def rm_X6_readTerm (d : Nat) : Room := { frames := 13 + 6 * d, cells := 0, slots := 0, locals := 330 + 180 * d }
def rm_X6_readSum (d : Nat) : Room := { frames := 14 + 6 * d, cells := 0, slots := 0, locals := 360 + 180 * d }
def rm_X6_readNot (d : Nat) : Room := { frames := 15 + 6 * d, cells := 0, slots := 0, locals := 390 + 180 * d }
def rm_X6_readBoth (d : Nat) : Room := { frames := 16 + 6 * d, cells := 0, slots := 0, locals := 420 + 180 * d }
def rm_X6_readEither (d : Nat) : Room := { frames := 17 + 6 * d, cells := 0, slots := 0, locals := 450 + 180 * d }
def f_X6_readOne (rO rN rE : CS → Option CS) (x : CS) : Option (CS) := if (gi x 26 5) < 0 then (if (gi x 26 8) = 306 then ((f_X6_emit x (gi x 26 10)).bind fun r28 => (f_X6_advance r28).bind fun r30 => some r30) else (if (b2i (f_X10_within (gi x 26 8) 310 315)) = 0 then (if (gi x 26 8) = 45 then (if (b2i ((f_X6_opens x).1)) = 0 then (some ((f_X6_opens x).2)) else ((f_X6_advance ((f_X6_opens x).2)).bind fun r18 => (rO r18).bind fun r20 => (f_X6_emit r20 (-10)).bind fun r22 => some (pi r22 26 6 ((gi r22 26 6) - 1)))) else (if (gi x 26 8) = 40 then (if (b2i ((f_X6_opens x).1)) = 0 then (some ((f_X6_opens x).2)) else ((f_X6_advance ((f_X6_opens x).2)).bind fun r10 => (rE r10).bind fun r12 => (f_X6_expect r12 41).bind fun r14 => some (pi r14 26 6 ((gi r14 26 6) - 1)))) else (some (f_X6_fail x)))) else ((f_X6_emit x ((-1) - ((gi x 26 8) - 310))).bind fun r24 => (f_X6_advance r24).bind fun r26 => some r26))) else (some x)
set_option maxRecDepth 100000 in
set_option maxHeartbeats 4000000 in
theorem c_X6_readOne {K : KE} {l : Launch} {R : CS} (rO rN rE : CS → Option CS) (d : Nat) (hrO : ∀ (l : Launch) (x R : CS) (y : MS), rO x = some R → MC K l yX6_readOne cX6_readOne 1 none (rm_X6_readOne d) 0 0 [.ref (K.1 + 26)] (xf K x y) (xf K R y) none) (hrN : ∀ (l : Launch) (x R : CS) (y : MS), rN x = some R → MC K l yX6_readNot cX6_readNot 2 none (rm_X6_readNot d) 0 0 [.ref (K.1 + 26)] (xf K x y) (xf K R y) none) (hrE : ∀ (l : Launch) (x R : CS) (y : MS), rE x = some R → MC K l yX6_readEither cX6_readEither 2 none (rm_X6_readEither d) 0 0 [.ref (K.1 + 26)] (xf K x y) (xf K R y) none) (x : CS) (y : MS) (h : f_X6_readOne rO rN rE x = some R) : MC K l yX6_readOne cX6_readOne 1 none (rm_X6_readOne (d + 1)) 0 0 [.ref (K.1 + 26)] (xf K x y) (xf K R y) none := by
  unfold f_X6_readOne at h
  refine mc_of (ls0 := [(0, .ref (K.1 + 26))]) (by decide) (Nat.le_of_ble_eq_true rfl) rfl (fun C hl hnm F E => ?_)
  have F : Fx C RX6 cX6_readOne 1 (rm_X6_readOne (d + 1)) K := F
  refine v_aload_n F (dq dkX6_readOne_0 0 rfl) rfl 0 rfl ?_
  refine v_get F 26 (xn (by decide)) xc_26 rfl inlX6 5 (by decide) (tc4 _ (List.mem_of_getElem? (i := 1) rfl)) rfl rfl (dq dkX6_readOne_0 1 rfl) ?_
  refine v_if_lt F (tgt := 8) (dq dkX6_readOne_0 2 rfl) (by decide) (fun c1 => ?_) (fun c1 => ?_)
  · rw [if_pos c1] at h
    refine v_aload_n F (dq dkX6_readOne_0 4 rfl) rfl 0 rfl ?_
    refine v_get F 26 (xn (by decide)) xc_26 rfl inlX6 8 (by decide) (tc4 _ (List.mem_of_getElem? (i := 4) rfl)) rfl rfl (dq dkX6_readOne_0 5 rfl) ?_
    refine v_sipush F (v := 306) (dq dkX6_readOne_0 6 rfl) ks_306 ?_
    refine v_icmp_ne F (tgt := 33) (dq dkX6_readOne_0 7 rfl) (by decide) (fun c2 => ?_) (fun c2 => ?_)
    · rw [if_neg c2] at h
      refine v_aload_n F (dq dkX6_readOne_0 15 rfl) rfl 0 rfl ?_
      refine v_get F 26 (xn (by decide)) xc_26 rfl inlX6 8 (by decide) (tc4 _ (List.mem_of_getElem? (i := 4) rfl)) rfl rfl (dq dkX6_readOne_0 16 rfl) ?_
      refine v_sipush F (v := 310) (dq dkX6_readOne_0 17 rfl) ks_310 ?_
      refine v_sipush F (v := 315) (dq dkX6_readOne_0 18 rfl) ks_315 ?_
      refine v_callSN 3 F (kc1 := 0) (ks1 := 0) (as := [.int (gi x 26 8), .int 310, .int 315]) (st := []) (st1 := (.int (b2i (f_X10_within (gi x 26 8) 310 315)) :: [])) (res := (some (.int (b2i (f_X10_within (gi x 26 8) 310 315))))) (c_X10_within (l := C.2.1) (gi x 26 8) 310 315) (List.mem_of_getElem? (i := 5) rfl) (tc8 _ (List.mem_of_getElem? (i := 15) rfl)) (tc1 _ (List.mem_of_getElem? (i := 2) rfl)) (tc8 _ (List.mem_of_getElem? (i := 16) rfl)) (by decide) rfl ⟨rfl, rfl, by show _ ≤ _; simp only [rm_X6_readOne, rm_X10_within]; omega, by show _ ≤ _; simp only [rm_X6_readOne, rm_X10_within]; omega⟩ ⟨Nat.le_of_ble_eq_true rfl, Nat.le_of_ble_eq_true rfl⟩ rfl (Nat.le_of_ble_eq_true rfl) rfl rfl rfl (dq dkX6_readOne_0 19 rfl) ?_
      refine v_if_eq F (tgt := 70) (dq dkX6_readOne_0 20 rfl) (by decide) (fun c4 => ?_) (fun c4 => ?_)
      · rw [if_pos c4] at h
        refine v_aload_n F (dq dkX6_readOne_0 32 rfl) rfl 0 rfl ?_
        refine v_get F 26 (xn (by decide)) xc_26 rfl inlX6 8 (by decide) (tc4 _ (List.mem_of_getElem? (i := 4) rfl)) rfl rfl (dq dkX6_readOne_0 33 rfl) ?_
        refine v_bipush F (v := 45) (dq dkX6_readOne_0 34 rfl) kb_45 ?_
        refine v_icmp_ne F (tgt := 113) (dq dkX6_readOne_0 35 rfl) (by decide) (fun c5 => ?_) (fun c5 => ?_)
        · rw [if_neg c5] at h
          refine v_aload_n F (dq dkX6_readOne_1 13 rfl) rfl 0 rfl ?_
          refine v_get F 26 (xn (by decide)) xc_26 rfl inlX6 8 (by decide) (tc4 _ (List.mem_of_getElem? (i := 4) rfl)) rfl rfl (dq dkX6_readOne_1 14 rfl) ?_
          refine v_bipush F (v := 40) (dq dkX6_readOne_1 15 rfl) kb_40 ?_
          refine v_icmp_ne F (tgt := 156) (dq dkX6_readOne_1 16 rfl) (by decide) (fun c6 => ?_) (fun c6 => ?_)
          · rw [if_neg c6] at h
            refine v_aload_n F (dq dkX6_readOne_1 34 rfl) rfl 0 rfl ?_
            refine v_callV 0 F (q := 26) (kc1 := 0) (ks1 := 0) (as := []) (st := []) (st1 := []) (res := none) (c_X6_fail (l := C.2.1) x y) (xn (by decide)) xc_26 rfl (tc9 _ (List.mem_of_getElem? (i := 13) rfl)) (tc9 _ (List.mem_of_getElem? (i := 14) rfl)) (tc9 _ (List.mem_of_getElem? (i := 15) rfl)) (tc1 _ (List.mem_of_getElem? (i := 23) rfl)) (tc9 _ (List.mem_of_getElem? (i := 16) rfl)) (by decide) rfl ⟨rfl, rfl, by show _ ≤ _; simp only [rm_X6_readOne, rm_X6_fail]; omega, by show _ ≤ _; simp only [rm_X6_readOne, rm_X6_fail]; omega⟩ ⟨Nat.le_of_ble_eq_true rfl, Nat.le_of_ble_eq_true rfl⟩ rfl (Nat.le_of_ble_eq_true rfl) rfl rfl rfl (dq dkX6_readOne_1 35 rfl) ?_
            have h := Option.some.inj h
            subst h
            exact v_vret F E (dq dkX6_readOne_1 36 rfl)
          · rw [if_pos c6] at h
            refine v_aload_n F (dq dkX6_readOne_1 17 rfl) rfl 0 rfl ?_
            refine v_callV 0 F (q := 26) (kc1 := 0) (ks1 := 0) (as := []) (st := []) (st1 := (.int (b2i ((f_X6_opens x).1)) :: [])) (res := (some (.int (b2i ((f_X6_opens x).1))))) (c_X6_opens (l := C.2.1) x y) (xn (by decide)) xc_26 rfl (tc10 _ (List.mem_of_getElem? (i := 9) rfl)) (tc10 _ (List.mem_of_getElem? (i := 10) rfl)) (tc10 _ (List.mem_of_getElem? (i := 11) rfl)) (tc1 _ (List.mem_of_getElem? (i := 23) rfl)) (tc10 _ (List.mem_of_getElem? (i := 12) rfl)) (by decide) rfl ⟨rfl, rfl, by show _ ≤ _; simp only [rm_X6_readOne, rm_X6_opens]; omega, by show _ ≤ _; simp only [rm_X6_readOne, rm_X6_opens]; omega⟩ ⟨Nat.le_of_ble_eq_true rfl, Nat.le_of_ble_eq_true rfl⟩ rfl (Nat.le_of_ble_eq_true rfl) rfl rfl rfl (dq dkX6_readOne_1 18 rfl) ?_
            refine v_if_eq F (tgt := 160) (dq dkX6_readOne_1 19 rfl) (by decide) (fun c9 => ?_) (fun c9 => ?_)
            · rw [if_pos c9] at h
              have h := Option.some.inj h
              subst h
              exact v_vret F E (dq dkX6_readOne_1 36 rfl)
            · rw [if_neg c9] at h
              refine v_aload_n F (dq dkX6_readOne_1 20 rfl) rfl 0 rfl ?_
              obtain ⟨r10, e11, h⟩ := bd_of h
              refine v_callV 0 F (q := 26) (kc1 := 0) (ks1 := 0) (as := []) (st := []) (st1 := []) (res := none) (c_X6_advance (l := C.2.1) ((f_X6_opens x).2) y e11) (xn (by decide)) xc_26 rfl (tc8 _ (List.mem_of_getElem? (i := 4) rfl)) (tc8 _ (List.mem_of_getElem? (i := 5) rfl)) (tc8 _ (List.mem_of_getElem? (i := 6) rfl)) (tc1 _ (List.mem_of_getElem? (i := 23) rfl)) (tc8 _ (List.mem_of_getElem? (i := 7) rfl)) (by decide) rfl ⟨rfl, rfl, by show _ ≤ _; simp only [rm_X6_readOne, rm_X6_advance]; omega, by show _ ≤ _; simp only [rm_X6_readOne, rm_X6_advance]; omega⟩ ⟨Nat.le_of_ble_eq_true rfl, Nat.le_of_ble_eq_true rfl⟩ rfl (Nat.le_of_ble_eq_true rfl) rfl rfl rfl (dq dkX6_readOne_1 21 rfl) ?_
              refine v_aload_n F (dq dkX6_readOne_1 22 rfl) rfl 0 rfl ?_
              obtain ⟨r12, e13, h⟩ := bd_of h
              refine v_callV 0 F (q := 26) (kc1 := 0) (ks1 := 0) (as := []) (st := []) (st1 := []) (res := none) (hrE C.2.1 r10 _ y e13) (xn (by decide)) xc_26 rfl (tc9 _ (List.mem_of_getElem? (i := 17) rfl)) (tc9 _ (List.mem_of_getElem? (i := 18) rfl)) (tc9 _ (List.mem_of_getElem? (i := 19) rfl)) (tc1 _ (List.mem_of_getElem? (i := 23) rfl)) (tc9 _ (List.mem_of_getElem? (i := 20) rfl)) (by decide) rfl ⟨rfl, rfl, by show _ ≤ _; simp only [rm_X6_readOne, rm_X6_readEither]; omega, by show _ ≤ _; simp only [rm_X6_readOne, rm_X6_readEither]; omega⟩ ⟨Nat.le_of_ble_eq_true rfl, Nat.le_of_ble_eq_true rfl⟩ rfl (Nat.le_of_ble_eq_true rfl) rfl rfl rfl (dq dkX6_readOne_1 23 rfl) ?_
              refine v_aload_n F (dq dkX6_readOne_1 24 rfl) rfl 0 rfl ?_
              refine v_bipush F (v := 41) (dq dkX6_readOne_1 25 rfl) kb_41 ?_
              obtain ⟨r14, e15, h⟩ := bd_of h
              refine v_callV 1 F (q := 26) (kc1 := 0) (ks1 := 0) (as := [.int 41]) (st := []) (st1 := []) (res := none) (c_X6_expect (l := C.2.1) r12 y 41 e15) (xn (by decide)) xc_26 rfl (tc9 _ (List.mem_of_getElem? (i := 9) rfl)) (tc9 _ (List.mem_of_getElem? (i := 10) rfl)) (tc9 _ (List.mem_of_getElem? (i := 11) rfl)) (tc1 _ (List.mem_of_getElem? (i := 23) rfl)) (tc9 _ (List.mem_of_getElem? (i := 12) rfl)) (by decide) rfl ⟨rfl, rfl, by show _ ≤ _; simp only [rm_X6_readOne, rm_X6_expect]; omega, by show _ ≤ _; simp only [rm_X6_readOne, rm_X6_expect]; omega⟩ ⟨Nat.le_of_ble_eq_true rfl, Nat.le_of_ble_eq_true rfl⟩ rfl (Nat.le_of_ble_eq_true rfl) rfl rfl rfl (dq dkX6_readOne_1 26 rfl) ?_
              refine v_aload_n F (dq dkX6_readOne_1 27 rfl) rfl 0 rfl ?_
              refine v_dup F (dq dkX6_readOne_1 28 rfl) rfl ?_
              refine v_get F 26 (xn (by decide)) xc_26 rfl inlX6 6 (by decide) (tc4 _ (List.mem_of_getElem? (i := 2) rfl)) rfl rfl (dq dkX6_readOne_1 29 rfl) ?_
              refine v_iconst F (v := 1) (dq dkX6_readOne_1 30 rfl) ki_1 ?_
              refine v_isub F (dq dkX6_readOne_1 31 rfl) ?_
              refine v_put F 26 (xn (by decide)) xc_26 rfl inlX6 tyX6_ok nmX6 6 (by decide) (tc4 _ (List.mem_of_getElem? (i := 2) rfl)) rfl rfl (tyX6_ok 6 (by decide)) rfl rfl (Nat.le_of_ble_eq_true rfl) (dq dkX6_readOne_1 32 rfl) ?_
              refine v_eqM (xwC (q := 26) (j := 6) (v := (gi r14 26 6) - 1) (by decide) rfl) ?_
              refine v_goto F (tgt := 160) (dq dkX6_readOne_1 33 rfl) (by decide) ?_
              have h := Option.some.inj h
              subst h
              exact v_vret F E (dq dkX6_readOne_1 36 rfl)
        · rw [if_pos c5] at h
          refine v_aload_n F (dq dkX6_readOne_0 36 rfl) rfl 0 rfl ?_
          refine v_callV 0 F (q := 26) (kc1 := 0) (ks1 := 0) (as := []) (st := []) (st1 := (.int (b2i ((f_X6_opens x).1)) :: [])) (res := (some (.int (b2i ((f_X6_opens x).1))))) (c_X6_opens (l := C.2.1) x y) (xn (by decide)) xc_26 rfl (tc10 _ (List.mem_of_getElem? (i := 9) rfl)) (tc10 _ (List.mem_of_getElem? (i := 10) rfl)) (tc10 _ (List.mem_of_getElem? (i := 11) rfl)) (tc1 _ (List.mem_of_getElem? (i := 23) rfl)) (tc10 _ (List.mem_of_getElem? (i := 12) rfl)) (by decide) rfl ⟨rfl, rfl, by show _ ≤ _; simp only [rm_X6_readOne, rm_X6_opens]; omega, by show _ ≤ _; simp only [rm_X6_readOne, rm_X6_opens]; omega⟩ ⟨Nat.le_of_ble_eq_true rfl, Nat.le_of_ble_eq_true rfl⟩ rfl (Nat.le_of_ble_eq_true rfl) rfl rfl rfl (dq dkX6_readOne_0 37 rfl) ?_
          refine v_if_eq F (tgt := 160) (dq dkX6_readOne_0 38 rfl) (by decide) (fun c17 => ?_) (fun c17 => ?_)
          · rw [if_pos c17] at h
            have h := Option.some.inj h
            subst h
            exact v_vret F E (dq dkX6_readOne_1 36 rfl)
          · rw [if_neg c17] at h
            refine v_aload_n F (dq dkX6_readOne_0 39 rfl) rfl 0 rfl ?_
            obtain ⟨r18, e19, h⟩ := bd_of h
            refine v_callV 0 F (q := 26) (kc1 := 0) (ks1 := 0) (as := []) (st := []) (st1 := []) (res := none) (c_X6_advance (l := C.2.1) ((f_X6_opens x).2) y e19) (xn (by decide)) xc_26 rfl (tc8 _ (List.mem_of_getElem? (i := 4) rfl)) (tc8 _ (List.mem_of_getElem? (i := 5) rfl)) (tc8 _ (List.mem_of_getElem? (i := 6) rfl)) (tc1 _ (List.mem_of_getElem? (i := 23) rfl)) (tc8 _ (List.mem_of_getElem? (i := 7) rfl)) (by decide) rfl ⟨rfl, rfl, by show _ ≤ _; simp only [rm_X6_readOne, rm_X6_advance]; omega, by show _ ≤ _; simp only [rm_X6_readOne, rm_X6_advance]; omega⟩ ⟨Nat.le_of_ble_eq_true rfl, Nat.le_of_ble_eq_true rfl⟩ rfl (Nat.le_of_ble_eq_true rfl) rfl rfl rfl (dq dkX6_readOne_1 0 rfl) ?_
            refine v_aload_n F (dq dkX6_readOne_1 1 rfl) rfl 0 rfl ?_
            obtain ⟨r20, e21, h⟩ := bd_of h
            refine v_callV 0 F (q := 26) (kc1 := 0) (ks1 := 0) (as := []) (st := []) (st1 := []) (res := none) (hrO C.2.1 r18 _ y e21) (xn (by decide)) xc_26 rfl (tc10 _ (List.mem_of_getElem? (i := 17) rfl)) (tc10 _ (List.mem_of_getElem? (i := 18) rfl)) (tc10 _ (List.mem_of_getElem? (i := 19) rfl)) (tc1 _ (List.mem_of_getElem? (i := 23) rfl)) (tc10 _ (List.mem_of_getElem? (i := 16) rfl)) (by decide) rfl ⟨rfl, rfl, by show _ ≤ _; simp only [rm_X6_readOne, rm_X6_readOne]; omega, by show _ ≤ _; simp only [rm_X6_readOne, rm_X6_readOne]; omega⟩ ⟨Nat.le_of_ble_eq_true rfl, Nat.le_of_ble_eq_true rfl⟩ rfl (Nat.le_of_ble_eq_true rfl) rfl rfl rfl (dq dkX6_readOne_1 2 rfl) ?_
            refine v_aload_n F (dq dkX6_readOne_1 3 rfl) rfl 0 rfl ?_
            refine v_bipush F (v := (-10)) (dq dkX6_readOne_1 4 rfl) kb_m10 ?_
            obtain ⟨r22, e23, h⟩ := bd_of h
            refine v_callV 1 F (q := 26) (kc1 := 0) (ks1 := 0) (as := [.int (-10)]) (st := []) (st1 := []) (res := none) (c_X6_emit (l := C.2.1) r20 y (-10) e23) (xn (by decide)) xc_26 rfl (tc10 _ (List.mem_of_getElem? (i := 0) rfl)) (tc10 _ (List.mem_of_getElem? (i := 1) rfl)) (tc10 _ (List.mem_of_getElem? (i := 2) rfl)) (tc1 _ (List.mem_of_getElem? (i := 23) rfl)) (tc10 _ (List.mem_of_getElem? (i := 3) rfl)) (by decide) rfl ⟨rfl, rfl, by show _ ≤ _; simp only [rm_X6_readOne, rm_X6_emit]; omega, by show _ ≤ _; simp only [rm_X6_readOne, rm_X6_emit]; omega⟩ ⟨Nat.le_of_ble_eq_true rfl, Nat.le_of_ble_eq_true rfl⟩ rfl (Nat.le_of_ble_eq_true rfl) rfl rfl rfl (dq dkX6_readOne_1 5 rfl) ?_
            refine v_aload_n F (dq dkX6_readOne_1 6 rfl) rfl 0 rfl ?_
            refine v_dup F (dq dkX6_readOne_1 7 rfl) rfl ?_
            refine v_get F 26 (xn (by decide)) xc_26 rfl inlX6 6 (by decide) (tc4 _ (List.mem_of_getElem? (i := 2) rfl)) rfl rfl (dq dkX6_readOne_1 8 rfl) ?_
            refine v_iconst F (v := 1) (dq dkX6_readOne_1 9 rfl) ki_1 ?_
            refine v_isub F (dq dkX6_readOne_1 10 rfl) ?_
            refine v_put F 26 (xn (by decide)) xc_26 rfl inlX6 tyX6_ok nmX6 6 (by decide) (tc4 _ (List.mem_of_getElem? (i := 2) rfl)) rfl rfl (tyX6_ok 6 (by decide)) rfl rfl (Nat.le_of_ble_eq_true rfl) (dq dkX6_readOne_1 11 rfl) ?_
            refine v_eqM (xwC (q := 26) (j := 6) (v := (gi r22 26 6) - 1) (by decide) rfl) ?_
            refine v_goto F (tgt := 160) (dq dkX6_readOne_1 12 rfl) (by decide) ?_
            have h := Option.some.inj h
            subst h
            exact v_vret F E (dq dkX6_readOne_1 36 rfl)
      · rw [if_neg c4] at h
        refine v_aload_n F (dq dkX6_readOne_0 21 rfl) rfl 0 rfl ?_
        refine v_iconst F (v := (-1)) (dq dkX6_readOne_0 22 rfl) ki_m1 ?_
        refine v_aload_n F (dq dkX6_readOne_0 23 rfl) rfl 0 rfl ?_
        refine v_get F 26 (xn (by decide)) xc_26 rfl inlX6 8 (by decide) (tc4 _ (List.mem_of_getElem? (i := 4) rfl)) rfl rfl (dq dkX6_readOne_0 24 rfl) ?_
        refine v_sipush F (v := 310) (dq dkX6_readOne_0 25 rfl) ks_310 ?_
        refine v_isub F (dq dkX6_readOne_0 26 rfl) ?_
        refine v_isub F (dq dkX6_readOne_0 27 rfl) ?_
        obtain ⟨r24, e25, h⟩ := bd_of h
        refine v_callV 1 F (q := 26) (kc1 := 0) (ks1 := 0) (as := [.int ((-1) - ((gi x 26 8) - 310))]) (st := []) (st1 := []) (res := none) (c_X6_emit (l := C.2.1) x y ((-1) - ((gi x 26 8) - 310)) e25) (xn (by decide)) xc_26 rfl (tc10 _ (List.mem_of_getElem? (i := 0) rfl)) (tc10 _ (List.mem_of_getElem? (i := 1) rfl)) (tc10 _ (List.mem_of_getElem? (i := 2) rfl)) (tc1 _ (List.mem_of_getElem? (i := 23) rfl)) (tc10 _ (List.mem_of_getElem? (i := 3) rfl)) (by decide) rfl ⟨rfl, rfl, by show _ ≤ _; simp only [rm_X6_readOne, rm_X6_emit]; omega, by show _ ≤ _; simp only [rm_X6_readOne, rm_X6_emit]; omega⟩ ⟨Nat.le_of_ble_eq_true rfl, Nat.le_of_ble_eq_true rfl⟩ rfl (Nat.le_of_ble_eq_true rfl) rfl rfl rfl (dq dkX6_readOne_0 28 rfl) ?_
        refine v_aload_n F (dq dkX6_readOne_0 29 rfl) rfl 0 rfl ?_
        obtain ⟨r26, e27, h⟩ := bd_of h
        refine v_callV 0 F (q := 26) (kc1 := 0) (ks1 := 0) (as := []) (st := []) (st1 := []) (res := none) (c_X6_advance (l := C.2.1) r24 y e27) (xn (by decide)) xc_26 rfl (tc8 _ (List.mem_of_getElem? (i := 4) rfl)) (tc8 _ (List.mem_of_getElem? (i := 5) rfl)) (tc8 _ (List.mem_of_getElem? (i := 6) rfl)) (tc1 _ (List.mem_of_getElem? (i := 23) rfl)) (tc8 _ (List.mem_of_getElem? (i := 7) rfl)) (by decide) rfl ⟨rfl, rfl, by show _ ≤ _; simp only [rm_X6_readOne, rm_X6_advance]; omega, by show _ ≤ _; simp only [rm_X6_readOne, rm_X6_advance]; omega⟩ ⟨Nat.le_of_ble_eq_true rfl, Nat.le_of_ble_eq_true rfl⟩ rfl (Nat.le_of_ble_eq_true rfl) rfl rfl rfl (dq dkX6_readOne_0 30 rfl) ?_
        refine v_goto F (tgt := 160) (dq dkX6_readOne_0 31 rfl) (by decide) ?_
        have h := Option.some.inj h
        subst h
        exact v_vret F E (dq dkX6_readOne_1 36 rfl)
    · rw [if_pos c2] at h
      refine v_aload_n F (dq dkX6_readOne_0 8 rfl) rfl 0 rfl ?_
      refine v_aload_n F (dq dkX6_readOne_0 9 rfl) rfl 0 rfl ?_
      refine v_get F 26 (xn (by decide)) xc_26 rfl inlX6 10 (by decide) (tc4 _ (List.mem_of_getElem? (i := 6) rfl)) rfl rfl (dq dkX6_readOne_0 10 rfl) ?_
      obtain ⟨r28, e29, h⟩ := bd_of h
      refine v_callV 1 F (q := 26) (kc1 := 0) (ks1 := 0) (as := [.int (gi x 26 10)]) (st := []) (st1 := []) (res := none) (c_X6_emit (l := C.2.1) x y (gi x 26 10) e29) (xn (by decide)) xc_26 rfl (tc10 _ (List.mem_of_getElem? (i := 0) rfl)) (tc10 _ (List.mem_of_getElem? (i := 1) rfl)) (tc10 _ (List.mem_of_getElem? (i := 2) rfl)) (tc1 _ (List.mem_of_getElem? (i := 23) rfl)) (tc10 _ (List.mem_of_getElem? (i := 3) rfl)) (by decide) rfl ⟨rfl, rfl, by show _ ≤ _; simp only [rm_X6_readOne, rm_X6_emit]; omega, by show _ ≤ _; simp only [rm_X6_readOne, rm_X6_emit]; omega⟩ ⟨Nat.le_of_ble_eq_true rfl, Nat.le_of_ble_eq_true rfl⟩ rfl (Nat.le_of_ble_eq_true rfl) rfl rfl rfl (dq dkX6_readOne_0 11 rfl) ?_
      refine v_aload_n F (dq dkX6_readOne_0 12 rfl) rfl 0 rfl ?_
      obtain ⟨r30, e31, h⟩ := bd_of h
      refine v_callV 0 F (q := 26) (kc1 := 0) (ks1 := 0) (as := []) (st := []) (st1 := []) (res := none) (c_X6_advance (l := C.2.1) r28 y e31) (xn (by decide)) xc_26 rfl (tc8 _ (List.mem_of_getElem? (i := 4) rfl)) (tc8 _ (List.mem_of_getElem? (i := 5) rfl)) (tc8 _ (List.mem_of_getElem? (i := 6) rfl)) (tc1 _ (List.mem_of_getElem? (i := 23) rfl)) (tc8 _ (List.mem_of_getElem? (i := 7) rfl)) (by decide) rfl ⟨rfl, rfl, by show _ ≤ _; simp only [rm_X6_readOne, rm_X6_advance]; omega, by show _ ≤ _; simp only [rm_X6_readOne, rm_X6_advance]; omega⟩ ⟨Nat.le_of_ble_eq_true rfl, Nat.le_of_ble_eq_true rfl⟩ rfl (Nat.le_of_ble_eq_true rfl) rfl rfl rfl (dq dkX6_readOne_0 13 rfl) ?_
      refine v_goto F (tgt := 160) (dq dkX6_readOne_0 14 rfl) (by decide) ?_
      have h := Option.some.inj h
      subst h
      exact v_vret F E (dq dkX6_readOne_1 36 rfl)
  · rw [if_neg c1] at h
    have h := Option.some.inj h
    subst h
    exact v_vret F E (dq dkX6_readOne_0 3 rfl)
