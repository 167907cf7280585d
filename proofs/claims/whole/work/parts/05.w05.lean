def rm_X6_wordToken : Room := { frames := 6, cells := 0, slots := 0, locals := 222 }
def f_X6_wordToken (x : CS) : Option (Int32) := (f_X6_spells x 1).bind fun r1 => if (b2i r1) = 0 then ((f_X6_spells x 2).bind fun r4 => if (b2i r4) = 0 then ((f_X6_spells x 3).bind fun r7 => if (b2i r7) = 0 then ((f_X6_spells x 4).bind fun r10 => if (b2i r10) = 0 then ((f_X6_spells x 5).bind fun r13 => if (b2i r13) = 0 then ((f_X6_spells x 6).bind fun r16 => if (b2i r16) = 0 then ((f_X6_spells x 7).bind fun r19 => if (b2i r19) = 0 then ((f_X6_spells x 8).bind fun r22 => if (b2i r22) = 0 then ((f_X6_spells x 9).bind fun r25 => if (b2i r25) = 0 then ((f_X6_spells x 10).bind fun r28 => if (b2i r28) = 0 then ((f_X6_spells x 11).bind fun r31 => if (b2i r31) = 0 then ((f_X6_spells x 12).bind fun r34 => if (b2i r34) = 0 then (some 308) else (some 315)) else (some 314)) else (some 313)) else (some 312)) else (some 311)) else (some 310)) else (some 305)) else (some 304)) else (some 303)) else (some 302)) else (some 301)) else (some 300)
set_option maxRecDepth 100000 in
set_option maxHeartbeats 4000000 in
theorem c_X6_wordToken {K : KE} {l : Launch} {R : Int32} (x : CS) (y : MS) (h : f_X6_wordToken x = some R) : MC K l yX6_wordToken cX6_wordToken 1 (some .int) rm_X6_wordToken 0 0 [.ref (K.1 + 26)] (xf K x y) (xf K x y) (some (.int R)) := by
  unfold f_X6_wordToken at h
  refine mc_of (ls0 := [(0, .ref (K.1 + 26))]) (by decide) (Nat.le_of_ble_eq_true rfl) rfl (fun C hl hnm F E => ?_)
  have F : Fx C RX6 cX6_wordToken 1 rm_X6_wordToken K := F
  refine v_aload_n F (dq dkX6_wordToken_0 0 rfl) rfl 0 rfl ?_
  refine v_ldcS 1 F rfl (dq dkX6_wordToken_0 1 rfl) ?_
  obtain ⟨r1, e2, h⟩ := bd_of h
  refine v_callV 1 F (q := 26) (kc1 := 0) (ks1 := 0) (as := [.ref (K.2.2.2 (10 + 1))]) (st := []) (st1 := (.int (b2i r1) :: [])) (res := (some (.int (b2i r1)))) (c_X6_spells (l := C.2.1) x y 1 e2) (xn (by decide)) xc_26 rfl (tc8 _ (List.mem_of_getElem? (i := 21) rfl)) (tc8 _ (List.mem_of_getElem? (i := 22) rfl)) (tc8 _ (List.mem_of_getElem? (i := 23) rfl)) (tc1 _ (List.mem_of_getElem? (i := 23) rfl)) (tc9 _ (List.mem_of_getElem? (i := 0) rfl)) (by decide) rfl ⟨rfl, rfl, Nat.le_of_ble_eq_true rfl, Nat.le_of_ble_eq_true rfl⟩ ⟨Nat.le_of_ble_eq_true rfl, Nat.le_of_ble_eq_true rfl⟩ rfl (Nat.le_of_ble_eq_true rfl) rfl rfl rfl (dq dkX6_wordToken_0 2 rfl) ?_
  refine v_if_eq F (tgt := 13) (dq dkX6_wordToken_0 3 rfl) (by decide) (fun c3 => ?_) (fun c3 => ?_)
  · rw [if_pos c3] at h
    refine v_aload_n F (dq dkX6_wordToken_0 6 rfl) rfl 0 rfl ?_
    refine v_ldcS 2 F rfl (dq dkX6_wordToken_0 7 rfl) ?_
    obtain ⟨r4, e5, h⟩ := bd_of h
    refine v_callV 1 F (q := 26) (kc1 := 0) (ks1 := 0) (as := [.ref (K.2.2.2 (10 + 2))]) (st := []) (st1 := (.int (b2i r4) :: [])) (res := (some (.int (b2i r4)))) (c_X6_spells (l := C.2.1) x y 2 e5) (xn (by decide)) xc_26 rfl (tc8 _ (List.mem_of_getElem? (i := 21) rfl)) (tc8 _ (List.mem_of_getElem? (i := 22) rfl)) (tc8 _ (List.mem_of_getElem? (i := 23) rfl)) (tc1 _ (List.mem_of_getElem? (i := 23) rfl)) (tc9 _ (List.mem_of_getElem? (i := 0) rfl)) (by decide) rfl ⟨rfl, rfl, Nat.le_of_ble_eq_true rfl, Nat.le_of_ble_eq_true rfl⟩ ⟨Nat.le_of_ble_eq_true rfl, Nat.le_of_ble_eq_true rfl⟩ rfl (Nat.le_of_ble_eq_true rfl) rfl rfl rfl (dq dkX6_wordToken_0 8 rfl) ?_
    refine v_if_eq F (tgt := 26) (dq dkX6_wordToken_0 9 rfl) (by decide) (fun c6 => ?_) (fun c6 => ?_)
    · rw [if_pos c6] at h
      refine v_aload_n F (dq dkX6_wordToken_0 12 rfl) rfl 0 rfl ?_
      refine v_ldcS 3 F rfl (dq dkX6_wordToken_0 13 rfl) ?_
      obtain ⟨r7, e8, h⟩ := bd_of h
      refine v_callV 1 F (q := 26) (kc1 := 0) (ks1 := 0) (as := [.ref (K.2.2.2 (10 + 3))]) (st := []) (st1 := (.int (b2i r7) :: [])) (res := (some (.int (b2i r7)))) (c_X6_spells (l := C.2.1) x y 3 e8) (xn (by decide)) xc_26 rfl (tc8 _ (List.mem_of_getElem? (i := 21) rfl)) (tc8 _ (List.mem_of_getElem? (i := 22) rfl)) (tc8 _ (List.mem_of_getElem? (i := 23) rfl)) (tc1 _ (List.mem_of_getElem? (i := 23) rfl)) (tc9 _ (List.mem_of_getElem? (i := 0) rfl)) (by decide) rfl ⟨rfl, rfl, Nat.le_of_ble_eq_true rfl, Nat.le_of_ble_eq_true rfl⟩ ⟨Nat.le_of_ble_eq_true rfl, Nat.le_of_ble_eq_true rfl⟩ rfl (Nat.le_of_ble_eq_true rfl) rfl rfl rfl (dq dkX6_wordToken_0 14 rfl) ?_
      refine v_if_eq F (tgt := 39) (dq dkX6_wordToken_0 15 rfl) (by decide) (fun c9 => ?_) (fun c9 => ?_)
      · rw [if_pos c9] at h
        refine v_aload_n F (dq dkX6_wordToken_0 18 rfl) rfl 0 rfl ?_
        refine v_ldcS 4 F rfl (dq dkX6_wordToken_0 19 rfl) ?_
        obtain ⟨r10, e11, h⟩ := bd_of h
        refine v_callV 1 F (q := 26) (kc1 := 0) (ks1 := 0) (as := [.ref (K.2.2.2 (10 + 4))]) (st := []) (st1 := (.int (b2i r10) :: [])) (res := (some (.int (b2i r10)))) (c_X6_spells (l := C.2.1) x y 4 e11) (xn (by decide)) xc_26 rfl (tc8 _ (List.mem_of_getElem? (i := 21) rfl)) (tc8 _ (List.mem_of_getElem? (i := 22) rfl)) (tc8 _ (List.mem_of_getElem? (i := 23) rfl)) (tc1 _ (List.mem_of_getElem? (i := 23) rfl)) (tc9 _ (List.mem_of_getElem? (i := 0) rfl)) (by decide) rfl ⟨rfl, rfl, Nat.le_of_ble_eq_true rfl, Nat.le_of_ble_eq_true rfl⟩ ⟨Nat.le_of_ble_eq_true rfl, Nat.le_of_ble_eq_true rfl⟩ rfl (Nat.le_of_ble_eq_true rfl) rfl rfl rfl (dq dkX6_wordToken_0 20 rfl) ?_
        refine v_if_eq F (tgt := 52) (dq dkX6_wordToken_0 21 rfl) (by decide) (fun c12 => ?_) (fun c12 => ?_)
        · rw [if_pos c12] at h
          refine v_aload_n F (dq dkX6_wordToken_0 24 rfl) rfl 0 rfl ?_
          refine v_ldcS 5 F rfl (dq dkX6_wordToken_0 25 rfl) ?_
          obtain ⟨r13, e14, h⟩ := bd_of h
          refine v_callV 1 F (q := 26) (kc1 := 0) (ks1 := 0) (as := [.ref (K.2.2.2 (10 + 5))]) (st := []) (st1 := (.int (b2i r13) :: [])) (res := (some (.int (b2i r13)))) (c_X6_spells (l := C.2.1) x y 5 e14) (xn (by decide)) xc_26 rfl (tc8 _ (List.mem_of_getElem? (i := 21) rfl)) (tc8 _ (List.mem_of_getElem? (i := 22) rfl)) (tc8 _ (List.mem_of_getElem? (i := 23) rfl)) (tc1 _ (List.mem_of_getElem? (i := 23) rfl)) (tc9 _ (List.mem_of_getElem? (i := 0) rfl)) (by decide) rfl ⟨rfl, rfl, Nat.le_of_ble_eq_true rfl, Nat.le_of_ble_eq_true rfl⟩ ⟨Nat.le_of_ble_eq_true rfl, Nat.le_of_ble_eq_true rfl⟩ rfl (Nat.le_of_ble_eq_true rfl) rfl rfl rfl (dq dkX6_wordToken_0 26 rfl) ?_
          refine v_if_eq F (tgt := 65) (dq dkX6_wordToken_0 27 rfl) (by decide) (fun c15 => ?_) (fun c15 => ?_)
          · rw [if_pos c15] at h
            refine v_aload_n F (dq dkX6_wordToken_0 30 rfl) rfl 0 rfl ?_
            refine v_ldcS 6 F rfl (dq dkX6_wordToken_0 31 rfl) ?_
            obtain ⟨r16, e17, h⟩ := bd_of h
            refine v_callV 1 F (q := 26) (kc1 := 0) (ks1 := 0) (as := [.ref (K.2.2.2 (10 + 6))]) (st := []) (st1 := (.int (b2i r16) :: [])) (res := (some (.int (b2i r16)))) (c_X6_spells (l := C.2.1) x y 6 e17) (xn (by decide)) xc_26 rfl (tc8 _ (List.mem_of_getElem? (i := 21) rfl)) (tc8 _ (List.mem_of_getElem? (i := 22) rfl)) (tc8 _ (List.mem_of_getElem? (i := 23) rfl)) (tc1 _ (List.mem_of_getElem? (i := 23) rfl)) (tc9 _ (List.mem_of_getElem? (i := 0) rfl)) (by decide) rfl ⟨rfl, rfl, Nat.le_of_ble_eq_true rfl, Nat.le_of_ble_eq_true rfl⟩ ⟨Nat.le_of_ble_eq_true rfl, Nat.le_of_ble_eq_true rfl⟩ rfl (Nat.le_of_ble_eq_true rfl) rfl rfl rfl (dq dkX6_wordToken_0 32 rfl) ?_
            refine v_if_eq F (tgt := 78) (dq dkX6_wordToken_0 33 rfl) (by decide) (fun c18 => ?_) (fun c18 => ?_)
            · rw [if_pos c18] at h
              refine v_aload_n F (dq dkX6_wordToken_0 36 rfl) rfl 0 rfl ?_
              refine v_ldcS 7 F rfl (dq dkX6_wordToken_0 37 rfl) ?_
              obtain ⟨r19, e20, h⟩ := bd_of h
              refine v_callV 1 F (q := 26) (kc1 := 0) (ks1 := 0) (as := [.ref (K.2.2.2 (10 + 7))]) (st := []) (st1 := (.int (b2i r19) :: [])) (res := (some (.int (b2i r19)))) (c_X6_spells (l := C.2.1) x y 7 e20) (xn (by decide)) xc_26 rfl (tc8 _ (List.mem_of_getElem? (i := 21) rfl)) (tc8 _ (List.mem_of_getElem? (i := 22) rfl)) (tc8 _ (List.mem_of_getElem? (i := 23) rfl)) (tc1 _ (List.mem_of_getElem? (i := 23) rfl)) (tc9 _ (List.mem_of_getElem? (i := 0) rfl)) (by decide) rfl ⟨rfl, rfl, Nat.le_of_ble_eq_true rfl, Nat.le_of_ble_eq_true rfl⟩ ⟨Nat.le_of_ble_eq_true rfl, Nat.le_of_ble_eq_true rfl⟩ rfl (Nat.le_of_ble_eq_true rfl) rfl rfl rfl (dq dkX6_wordToken_0 38 rfl) ?_
              refine v_if_eq F (tgt := 91) (dq dkX6_wordToken_0 39 rfl) (by decide) (fun c21 => ?_) (fun c21 => ?_)
              · rw [if_pos c21] at h
                refine v_aload_n F (dq dkX6_wordToken_1 2 rfl) rfl 0 rfl ?_
                refine v_ldcS 8 F rfl (dq dkX6_wordToken_1 3 rfl) ?_
                obtain ⟨r22, e23, h⟩ := bd_of h
                refine v_callV 1 F (q := 26) (kc1 := 0) (ks1 := 0) (as := [.ref (K.2.2.2 (10 + 8))]) (st := []) (st1 := (.int (b2i r22) :: [])) (res := (some (.int (b2i r22)))) (c_X6_spells (l := C.2.1) x y 8 e23) (xn (by decide)) xc_26 rfl (tc8 _ (List.mem_of_getElem? (i := 21) rfl)) (tc8 _ (List.mem_of_getElem? (i := 22) rfl)) (tc8 _ (List.mem_of_getElem? (i := 23) rfl)) (tc1 _ (List.mem_of_getElem? (i := 23) rfl)) (tc9 _ (List.mem_of_getElem? (i := 0) rfl)) (by decide) rfl ⟨rfl, rfl, Nat.le_of_ble_eq_true rfl, Nat.le_of_ble_eq_true rfl⟩ ⟨Nat.le_of_ble_eq_true rfl, Nat.le_of_ble_eq_true rfl⟩ rfl (Nat.le_of_ble_eq_true rfl) rfl rfl rfl (dq dkX6_wordToken_1 4 rfl) ?_
                refine v_if_eq F (tgt := 104) (dq dkX6_wordToken_1 5 rfl) (by decide) (fun c24 => ?_) (fun c24 => ?_)
                · rw [if_pos c24] at h
                  refine v_aload_n F (dq dkX6_wordToken_1 8 rfl) rfl 0 rfl ?_
                  refine v_ldcS 9 F rfl (dq dkX6_wordToken_1 9 rfl) ?_
                  obtain ⟨r25, e26, h⟩ := bd_of h
                  refine v_callV 1 F (q := 26) (kc1 := 0) (ks1 := 0) (as := [.ref (K.2.2.2 (10 + 9))]) (st := []) (st1 := (.int (b2i r25) :: [])) (res := (some (.int (b2i r25)))) (c_X6_spells (l := C.2.1) x y 9 e26) (xn (by decide)) xc_26 rfl (tc8 _ (List.mem_of_getElem? (i := 21) rfl)) (tc8 _ (List.mem_of_getElem? (i := 22) rfl)) (tc8 _ (List.mem_of_getElem? (i := 23) rfl)) (tc1 _ (List.mem_of_getElem? (i := 23) rfl)) (tc9 _ (List.mem_of_getElem? (i := 0) rfl)) (by decide) rfl ⟨rfl, rfl, Nat.le_of_ble_eq_true rfl, Nat.le_of_ble_eq_true rfl⟩ ⟨Nat.le_of_ble_eq_true rfl, Nat.le_of_ble_eq_true rfl⟩ rfl (Nat.le_of_ble_eq_true rfl) rfl rfl rfl (dq dkX6_wordToken_1 10 rfl) ?_
                  refine v_if_eq F (tgt := 117) (dq dkX6_wordToken_1 11 rfl) (by decide) (fun c27 => ?_) (fun c27 => ?_)
                  · rw [if_pos c27] at h
                    refine v_aload_n F (dq dkX6_wordToken_1 14 rfl) rfl 0 rfl ?_
                    refine v_ldcS 10 F rfl (dq dkX6_wordToken_1 15 rfl) ?_
                    obtain ⟨r28, e29, h⟩ := bd_of h
                    refine v_callV 1 F (q := 26) (kc1 := 0) (ks1 := 0) (as := [.ref (K.2.2.2 (10 + 10))]) (st := []) (st1 := (.int (b2i r28) :: [])) (res := (some (.int (b2i r28)))) (c_X6_spells (l := C.2.1) x y 10 e29) (xn (by decide)) xc_26 rfl (tc8 _ (List.mem_of_getElem? (i := 21) rfl)) (tc8 _ (List.mem_of_getElem? (i := 22) rfl)) (tc8 _ (List.mem_of_getElem? (i := 23) rfl)) (tc1 _ (List.mem_of_getElem? (i := 23) rfl)) (tc9 _ (List.mem_of_getElem? (i := 0) rfl)) (by decide) rfl ⟨rfl, rfl, Nat.le_of_ble_eq_true rfl, Nat.le_of_ble_eq_true rfl⟩ ⟨Nat.le_of_ble_eq_true rfl, Nat.le_of_ble_eq_true rfl⟩ rfl (Nat.le_of_ble_eq_true rfl) rfl rfl rfl (dq dkX6_wordToken_1 16 rfl) ?_
                    refine v_if_eq F (tgt := 130) (dq dkX6_wordToken_1 17 rfl) (by decide) (fun c30 => ?_) (fun c30 => ?_)
                    · rw [if_pos c30] at h
                      refine v_aload_n F (dq dkX6_wordToken_1 20 rfl) rfl 0 rfl ?_
                      refine v_ldcS 11 F rfl (dq dkX6_wordToken_1 21 rfl) ?_
                      obtain ⟨r31, e32, h⟩ := bd_of h
                      refine v_callV 1 F (q := 26) (kc1 := 0) (ks1 := 0) (as := [.ref (K.2.2.2 (10 + 11))]) (st := []) (st1 := (.int (b2i r31) :: [])) (res := (some (.int (b2i r31)))) (c_X6_spells (l := C.2.1) x y 11 e32) (xn (by decide)) xc_26 rfl (tc8 _ (List.mem_of_getElem? (i := 21) rfl)) (tc8 _ (List.mem_of_getElem? (i := 22) rfl)) (tc8 _ (List.mem_of_getElem? (i := 23) rfl)) (tc1 _ (List.mem_of_getElem? (i := 23) rfl)) (tc9 _ (List.mem_of_getElem? (i := 0) rfl)) (by decide) rfl ⟨rfl, rfl, Nat.le_of_ble_eq_true rfl, Nat.le_of_ble_eq_true rfl⟩ ⟨Nat.le_of_ble_eq_true rfl, Nat.le_of_ble_eq_true rfl⟩ rfl (Nat.le_of_ble_eq_true rfl) rfl rfl rfl (dq dkX6_wordToken_1 22 rfl) ?_
                      refine v_if_eq F (tgt := 143) (dq dkX6_wordToken_1 23 rfl) (by decide) (fun c33 => ?_) (fun c33 => ?_)
                      · rw [if_pos c33] at h
                        refine v_aload_n F (dq dkX6_wordToken_1 26 rfl) rfl 0 rfl ?_
                        refine v_ldcS 12 F rfl (dq dkX6_wordToken_1 27 rfl) ?_
                        obtain ⟨r34, e35, h⟩ := bd_of h
                        refine v_callV 1 F (q := 26) (kc1 := 0) (ks1 := 0) (as := [.ref (K.2.2.2 (10 + 12))]) (st := []) (st1 := (.int (b2i r34) :: [])) (res := (some (.int (b2i r34)))) (c_X6_spells (l := C.2.1) x y 12 e35) (xn (by decide)) xc_26 rfl (tc8 _ (List.mem_of_getElem? (i := 21) rfl)) (tc8 _ (List.mem_of_getElem? (i := 22) rfl)) (tc8 _ (List.mem_of_getElem? (i := 23) rfl)) (tc1 _ (List.mem_of_getElem? (i := 23) rfl)) (tc9 _ (List.mem_of_getElem? (i := 0) rfl)) (by decide) rfl ⟨rfl, rfl, Nat.le_of_ble_eq_true rfl, Nat.le_of_ble_eq_true rfl⟩ ⟨Nat.le_of_ble_eq_true rfl, Nat.le_of_ble_eq_true rfl⟩ rfl (Nat.le_of_ble_eq_true rfl) rfl rfl rfl (dq dkX6_wordToken_1 28 rfl) ?_
                        refine v_if_eq F (tgt := 156) (dq dkX6_wordToken_1 29 rfl) (by decide) (fun c36 => ?_) (fun c36 => ?_)
                        · rw [if_pos c36] at h
                          refine v_sipush F (v := 308) (dq dkX6_wordToken_1 32 rfl) ks_308 ?_
                          have h := Option.some.inj h
                          subst h
                          exact v_iret F E (dq dkX6_wordToken_1 33 rfl)
                        · rw [if_neg c36] at h
                          refine v_sipush F (v := 315) (dq dkX6_wordToken_1 30 rfl) ks_315 ?_
                          have h := Option.some.inj h
                          subst h
                          exact v_iret F E (dq dkX6_wordToken_1 31 rfl)
                      · rw [if_neg c33] at h
                        refine v_sipush F (v := 314) (dq dkX6_wordToken_1 24 rfl) ks_314 ?_
                        have h := Option.some.inj h
                        subst h
                        exact v_iret F E (dq dkX6_wordToken_1 25 rfl)
                    · rw [if_neg c30] at h
                      refine v_sipush F (v := 313) (dq dkX6_wordToken_1 18 rfl) ks_313 ?_
                      have h := Option.some.inj h
                      subst h
                      exact v_iret F E (dq dkX6_wordToken_1 19 rfl)
                  · rw [if_neg c27] at h
                    refine v_sipush F (v := 312) (dq dkX6_wordToken_1 12 rfl) ks_312 ?_
                    have h := Option.some.inj h
                    subst h
                    exact v_iret F E (dq dkX6_wordToken_1 13 rfl)
                · rw [if_neg c24] at h
                  refine v_sipush F (v := 311) (dq dkX6_wordToken_1 6 rfl) ks_311 ?_
                  have h := Option.some.inj h
                  subst h
                  exact v_iret F E (dq dkX6_wordToken_1 7 rfl)
              · rw [if_neg c21] at h
                refine v_sipush F (v := 310) (dq dkX6_wordToken_1 0 rfl) ks_310 ?_
                have h := Option.some.inj h
                subst h
                exact v_iret F E (dq dkX6_wordToken_1 1 rfl)
            · rw [if_neg c18] at h
              refine v_sipush F (v := 305) (dq dkX6_wordToken_0 34 rfl) ks_305 ?_
              have h := Option.some.inj h
              subst h
              exact v_iret F E (dq dkX6_wordToken_0 35 rfl)
          · rw [if_neg c15] at h
            refine v_sipush F (v := 304) (dq dkX6_wordToken_0 28 rfl) ks_304 ?_
            have h := Option.some.inj h
            subst h
            exact v_iret F E (dq dkX6_wordToken_0 29 rfl)
        · rw [if_neg c12] at h
          refine v_sipush F (v := 303) (dq dkX6_wordToken_0 22 rfl) ks_303 ?_
          have h := Option.some.inj h
          subst h
          exact v_iret F E (dq dkX6_wordToken_0 23 rfl)
      · rw [if_neg c9] at h
        refine v_sipush F (v := 302) (dq dkX6_wordToken_0 16 rfl) ks_302 ?_
        have h := Option.some.inj h
        subst h
        exact v_iret F E (dq dkX6_wordToken_0 17 rfl)
    · rw [if_neg c6] at h
      refine v_sipush F (v := 301) (dq dkX6_wordToken_0 10 rfl) ks_301 ?_
      have h := Option.some.inj h
      subst h
      exact v_iret F E (dq dkX6_wordToken_0 11 rfl)
  · rw [if_neg c3] at h
    refine v_sipush F (v := 300) (dq dkX6_wordToken_0 4 rfl) ks_300 ?_
    have h := Option.some.inj h
    subst h
    exact v_iret F E (dq dkX6_wordToken_0 5 rfl)
