def rm_X10_old : Room := { frames := 5, cells := 0, slots := 0, locals := 117 }
def f_X10_old_73 (k26 : Option Nat → Int32 → Int32 → Int32 → Option (Int32)) (x : CS) (a2 : Option Nat) (a4 : Int32) (a5 : Int32) (a6 : Int32) : Option (Int32) := oc a2 (k26 none a4 a5 (a6 + 1)) (fun za2 => k26 (some za2) a4 a5 (a6 + 1))
set_option maxRecDepth 100000 in
set_option maxHeartbeats 4000000 in
theorem t_X10_old_73 {C : Cx} {K : KE} {y : MS} {R : Int32}  (k26 : Option Nat → Int32 → Int32 → Int32 → Option (Int32)) (x : CS) (a2 : Option Nat) (a4 : Int32) (a5 : Int32) (a6 : Int32) (hk26 : ∀ (a2 : Option Nat) (a4 : Int32) (a5 : Int32) (a6 : Int32), k26 a2 a4 a5 a6 = some R → V C 26 [(2, va_rf (a2.map (fun q => K.1 + q))), (4, .int a4), (5, .int a5), (6, .int a6)] [] (xf K x y) 0 0) (h : f_X10_old_73 k26 x a2 a4 a5 a6 = some R) (F : Fx C RX10 cX10_old 8 rm_X10_old K) (E : CE C (xf K x y) (some (.int R)) 0 0 (some .int)) : V C 73 [(2, va_rf (a2.map (fun q => K.1 + q))), (4, .int a4), (5, .int a5), (6, .int a6)] [] (xf K x y) 0 0 := by
  unfold f_X10_old_73 at h
  rcases a2 with _ | za2
  · have h := oc_nh h
    refine v_iinc F (v := a6 + 1) (ls' := [(6, .int (a6 + 1)), (2, .null), (4, .int a4), (5, .int a5)]) (dq dkX10_old_0 38 rfl) (j := 3) rfl (kv_add ki_1) (by decide) rfl ?_
    refine v_goto F (tgt := 26) (dq dkX10_old_0 39 rfl) (by decide) ?_
    refine v_sub [1, 2, 3, 0] rfl ?_
    exact hk26 none a4 a5 (a6 + 1) h
  · have h := oc_sh h
    refine v_iinc F (v := a6 + 1) (ls' := [(6, .int (a6 + 1)), (2, .ref (K.1 + za2)), (4, .int a4), (5, .int a5)]) (dq dkX10_old_0 38 rfl) (j := 3) rfl (kv_add ki_1) (by decide) rfl ?_
    refine v_goto F (tgt := 26) (dq dkX10_old_0 39 rfl) (by decide) ?_
    refine v_sub [1, 2, 3, 0] rfl ?_
    exact hk26 (some za2) a4 a5 (a6 + 1) h
def f_X10_old_65 (k26 : Option Nat → Int32 → Int32 → Int32 → Option (Int32)) (x : CS) (a2 : Option Nat) (a6 : Int32) (a7 : Int32) : Option (Int32) := oc a2 (f_X10_old_73 k26 x none a6 a7 a6) (fun za2 => f_X10_old_73 k26 x (some za2) a6 a7 a6)
set_option maxRecDepth 100000 in
set_option maxHeartbeats 4000000 in
theorem t_X10_old_65 {C : Cx} {K : KE} {y : MS} {R : Int32}  (k26 : Option Nat → Int32 → Int32 → Int32 → Option (Int32)) (x : CS) (a2 : Option Nat) (a6 : Int32) (a7 : Int32) (hk26 : ∀ (a2 : Option Nat) (a4 : Int32) (a5 : Int32) (a6 : Int32), k26 a2 a4 a5 a6 = some R → V C 26 [(2, va_rf (a2.map (fun q => K.1 + q))), (4, .int a4), (5, .int a5), (6, .int a6)] [] (xf K x y) 0 0) (h : f_X10_old_65 k26 x a2 a6 a7 = some R) (F : Fx C RX10 cX10_old 8 rm_X10_old K) (E : CE C (xf K x y) (some (.int R)) 0 0 (some .int)) : V C 65 [(2, va_rf (a2.map (fun q => K.1 + q))), (6, .int a6), (7, .int a7)] [] (xf K x y) 0 0 := by
  unfold f_X10_old_65 at h
  rcases a2 with _ | za2
  · have h := oc_nh h
    refine v_iload F (dq dkX10_old_0 34 rfl) 1 rfl ?_
    refine v_istore F (ls' := [(4, .int a6), (2, .null), (6, .int a6), (7, .int a7)]) (dq dkX10_old_0 35 rfl) (by decide) rfl ?_
    refine v_iload F (dq dkX10_old_0 36 rfl) 3 rfl ?_
    refine v_istore F (ls' := [(5, .int a7), (4, .int a6), (2, .null), (6, .int a6), (7, .int a7)]) (dq dkX10_old_0 37 rfl) (by decide) rfl ?_
    refine v_sub [2, 1, 0, 3] rfl ?_
    exact t_X10_old_73 k26 x none a6 a7 a6 hk26 h F E
  · have h := oc_sh h
    refine v_iload F (dq dkX10_old_0 34 rfl) 1 rfl ?_
    refine v_istore F (ls' := [(4, .int a6), (2, .ref (K.1 + za2)), (6, .int a6), (7, .int a7)]) (dq dkX10_old_0 35 rfl) (by decide) rfl ?_
    refine v_iload F (dq dkX10_old_0 36 rfl) 3 rfl ?_
    refine v_istore F (ls' := [(5, .int a7), (4, .int a6), (2, .ref (K.1 + za2)), (6, .int a6), (7, .int a7)]) (dq dkX10_old_0 37 rfl) (by decide) rfl ?_
    refine v_sub [2, 1, 0, 3] rfl ?_
    exact t_X10_old_73 k26 x (some za2) a6 a7 a6 hk26 h F E
def f_X10_old_26 (x : CS) : Nat → Option Nat → Int32 → Int32 → Int32 → Option (Int32)
  | 0, _, _, _, _ => none
  | n + 1, a2, a4, a5, a6 => oc a2 (if 12 < a6 then (some a4) else ((f_X10_canBeCarved x none a6).bind fun r2 => if (b2i r2) = 0 then (f_X10_old_73 (f_X10_old_26 x n) x none a4 a5 a6) else ((f_X10_unevenness x none a6).bind fun r5 => if a4 < 0 then (f_X10_old_65 (f_X10_old_26 x n) x none a6 r5) else (if a5 ≤ r5 then (f_X10_old_73 (f_X10_old_26 x n) x none a4 a5 a6) else (f_X10_old_65 (f_X10_old_26 x n) x none a6 r5))))) (fun za2 => if 12 < a6 then (some a4) else ((f_X10_canBeCarved x (some za2) a6).bind fun r10 => if (b2i r10) = 0 then (f_X10_old_73 (f_X10_old_26 x n) x (some za2) a4 a5 a6) else ((f_X10_unevenness x (some za2) a6).bind fun r13 => if a4 < 0 then (f_X10_old_65 (f_X10_old_26 x n) x (some za2) a6 r13) else (if a5 ≤ r13 then (f_X10_old_73 (f_X10_old_26 x n) x (some za2) a4 a5 a6) else (f_X10_old_65 (f_X10_old_26 x n) x (some za2) a6 r13)))))
set_option maxRecDepth 100000 in
set_option maxHeartbeats 4000000 in
theorem t_X10_old_26 {C : Cx} {K : KE} {y : MS} {R : Int32}  (x : CS) (F : Fx C RX10 cX10_old 8 rm_X10_old K) (E : CE C (xf K x y) (some (.int R)) 0 0 (some .int)) : ∀ (n : Nat) (a2 : Option Nat) (a4 : Int32) (a5 : Int32) (a6 : Int32) (h : f_X10_old_26 x n a2 a4 a5 a6 = some R), V C 26 [(2, va_rf (a2.map (fun q => K.1 + q))), (4, .int a4), (5, .int a5), (6, .int a6)] [] (xf K x y) 0 0 := by
  intro n
  induction n with
  | zero => intro a2 a4 a5 a6 h; cases h
  | succ n ih =>
    intro a2 a4 a5 a6 h
    rw [f_X10_old_26] at h
    rcases a2 with _ | za2
    · have h := oc_nh h
      refine v_iload F (dq dkX10_old_0 17 rfl) 3 rfl ?_
      refine v_bipush F (v := 12) (dq dkX10_old_0 18 rfl) kb_12 ?_
      refine v_icmp_gt F (tgt := 79) (dq dkX10_old_0 19 rfl) (by decide) (fun c1 => ?_) (fun c1 => ?_)
      · rw [if_pos c1] at h
        refine v_iload F (dq dkX10_old_1 0 rfl) 1 rfl ?_
        have h := Option.some.inj h
        subst h
        exact v_iret F E (dq dkX10_old_1 1 rfl)
      · rw [if_neg c1] at h
        refine v_aload_nN F (dq dkX10_old_0 20 rfl) rfl 0 rfl ?_
        refine v_iload F (dq dkX10_old_0 21 rfl) 3 rfl ?_
        obtain ⟨r2, e3, h⟩ := bd_of h
        refine v_callS 2 F (kc1 := 0) (ks1 := 0) (as := [.null, .int a6]) (st := []) (st1 := (.int (b2i r2) :: [])) (res := (some (.int (b2i r2)))) (c_X10_canBeCarved (l := C.2.1) x y none a6 e3) (tc36 _ (List.mem_of_getElem? (i := 11) rfl)) (tc36 _ (List.mem_of_getElem? (i := 12) rfl)) (tc1 _ (List.mem_of_getElem? (i := 2) rfl)) (tc36 _ (List.mem_of_getElem? (i := 13) rfl)) (by decide) rfl ⟨rfl, rfl, Nat.le_of_ble_eq_true rfl, Nat.le_of_ble_eq_true rfl⟩ ⟨Nat.le_of_ble_eq_true rfl, Nat.le_of_ble_eq_true rfl⟩ rfl (Nat.le_of_ble_eq_true rfl) rfl rfl rfl (dq dkX10_old_0 22 rfl) ?_
        refine v_if_ne F (tgt := 45) (dq dkX10_old_0 23 rfl) (by decide) (fun c4 => ?_) (fun c4 => ?_)
        · rw [if_neg c4] at h
          refine v_aload_nN F (dq dkX10_old_0 25 rfl) rfl 0 rfl ?_
          refine v_iload F (dq dkX10_old_0 26 rfl) 3 rfl ?_
          obtain ⟨r5, e6, h⟩ := bd_of h
          refine v_callS 2 F (kc1 := 0) (ks1 := 0) (as := [.null, .int a6]) (st := []) (st1 := (.int r5 :: [])) (res := (some (.int r5))) (c_X10_unevenness (l := C.2.1) x y none a6 e6) (tc36 _ (List.mem_of_getElem? (i := 14) rfl)) (tc36 _ (List.mem_of_getElem? (i := 15) rfl)) (tc1 _ (List.mem_of_getElem? (i := 2) rfl)) (tc36 _ (List.mem_of_getElem? (i := 16) rfl)) (by decide) rfl ⟨rfl, rfl, Nat.le_of_ble_eq_true rfl, Nat.le_of_ble_eq_true rfl⟩ ⟨Nat.le_of_ble_eq_true rfl, Nat.le_of_ble_eq_true rfl⟩ rfl (Nat.le_of_ble_eq_true rfl) rfl rfl rfl (dq dkX10_old_0 27 rfl) ?_
          refine v_istore F (ls' := [(7, .int r5), (2, .null), (4, .int a4), (5, .int a5), (6, .int a6)]) (dq dkX10_old_0 28 rfl) (by decide) rfl ?_
          refine v_iload F (dq dkX10_old_0 29 rfl) 2 rfl ?_
          refine v_if_lt F (tgt := 65) (dq dkX10_old_0 30 rfl) (by decide) (fun c7 => ?_) (fun c7 => ?_)
          · rw [if_pos c7] at h
            refine v_sub [1, 4, 0] rfl ?_
            exact t_X10_old_65 (f_X10_old_26 x n) x none a6 r5 ih h F E
          · rw [if_neg c7] at h
            refine v_iload F (dq dkX10_old_0 31 rfl) 0 rfl ?_
            refine v_iload F (dq dkX10_old_0 32 rfl) 3 rfl ?_
            refine v_icmp_ge F (tgt := 73) (dq dkX10_old_0 33 rfl) (by decide) (fun c8 => ?_) (fun c8 => ?_)
            · rw [if_pos c8] at h
              refine v_sub [1, 2, 3, 4] rfl ?_
              exact t_X10_old_73 (f_X10_old_26 x n) x none a4 a5 a6 ih h F E
            · rw [if_neg c8] at h
              refine v_sub [1, 4, 0] rfl ?_
              exact t_X10_old_65 (f_X10_old_26 x n) x none a6 r5 ih h F E
        · rw [if_pos c4] at h
          refine v_goto F (tgt := 73) (dq dkX10_old_0 24 rfl) (by decide) ?_
          exact t_X10_old_73 (f_X10_old_26 x n) x none a4 a5 a6 ih h F E
    · have h := oc_sh h
      refine v_iload F (dq dkX10_old_0 17 rfl) 3 rfl ?_
      refine v_bipush F (v := 12) (dq dkX10_old_0 18 rfl) kb_12 ?_
      refine v_icmp_gt F (tgt := 79) (dq dkX10_old_0 19 rfl) (by decide) (fun c9 => ?_) (fun c9 => ?_)
      · rw [if_pos c9] at h
        refine v_iload F (dq dkX10_old_1 0 rfl) 1 rfl ?_
        have h := Option.some.inj h
        subst h
        exact v_iret F E (dq dkX10_old_1 1 rfl)
      · rw [if_neg c9] at h
        refine v_aload_n F (dq dkX10_old_0 20 rfl) rfl 0 rfl ?_
        refine v_iload F (dq dkX10_old_0 21 rfl) 3 rfl ?_
        obtain ⟨r10, e11, h⟩ := bd_of h
        refine v_callS 2 F (kc1 := 0) (ks1 := 0) (as := [.ref (K.1 + za2), .int a6]) (st := []) (st1 := (.int (b2i r10) :: [])) (res := (some (.int (b2i r10)))) (c_X10_canBeCarved (l := C.2.1) x y (some za2) a6 e11) (tc36 _ (List.mem_of_getElem? (i := 11) rfl)) (tc36 _ (List.mem_of_getElem? (i := 12) rfl)) (tc1 _ (List.mem_of_getElem? (i := 2) rfl)) (tc36 _ (List.mem_of_getElem? (i := 13) rfl)) (by decide) rfl ⟨rfl, rfl, Nat.le_of_ble_eq_true rfl, Nat.le_of_ble_eq_true rfl⟩ ⟨Nat.le_of_ble_eq_true rfl, Nat.le_of_ble_eq_true rfl⟩ rfl (Nat.le_of_ble_eq_true rfl) rfl rfl rfl (dq dkX10_old_0 22 rfl) ?_
        refine v_if_ne F (tgt := 45) (dq dkX10_old_0 23 rfl) (by decide) (fun c12 => ?_) (fun c12 => ?_)
        · rw [if_neg c12] at h
          refine v_aload_n F (dq dkX10_old_0 25 rfl) rfl 0 rfl ?_
          refine v_iload F (dq dkX10_old_0 26 rfl) 3 rfl ?_
          obtain ⟨r13, e14, h⟩ := bd_of h
          refine v_callS 2 F (kc1 := 0) (ks1 := 0) (as := [.ref (K.1 + za2), .int a6]) (st := []) (st1 := (.int r13 :: [])) (res := (some (.int r13))) (c_X10_unevenness (l := C.2.1) x y (some za2) a6 e14) (tc36 _ (List.mem_of_getElem? (i := 14) rfl)) (tc36 _ (List.mem_of_getElem? (i := 15) rfl)) (tc1 _ (List.mem_of_getElem? (i := 2) rfl)) (tc36 _ (List.mem_of_getElem? (i := 16) rfl)) (by decide) rfl ⟨rfl, rfl, Nat.le_of_ble_eq_true rfl, Nat.le_of_ble_eq_true rfl⟩ ⟨Nat.le_of_ble_eq_true rfl, Nat.le_of_ble_eq_true rfl⟩ rfl (Nat.le_of_ble_eq_true rfl) rfl rfl rfl (dq dkX10_old_0 27 rfl) ?_
          refine v_istore F (ls' := [(7, .int r13), (2, .ref (K.1 + za2)), (4, .int a4), (5, .int a5), (6, .int a6)]) (dq dkX10_old_0 28 rfl) (by decide) rfl ?_
          refine v_iload F (dq dkX10_old_0 29 rfl) 2 rfl ?_
          refine v_if_lt F (tgt := 65) (dq dkX10_old_0 30 rfl) (by decide) (fun c15 => ?_) (fun c15 => ?_)
          · rw [if_pos c15] at h
            refine v_sub [1, 4, 0] rfl ?_
            exact t_X10_old_65 (f_X10_old_26 x n) x (some za2) a6 r13 ih h F E
          · rw [if_neg c15] at h
            refine v_iload F (dq dkX10_old_0 31 rfl) 0 rfl ?_
            refine v_iload F (dq dkX10_old_0 32 rfl) 3 rfl ?_
            refine v_icmp_ge F (tgt := 73) (dq dkX10_old_0 33 rfl) (by decide) (fun c16 => ?_) (fun c16 => ?_)
            · rw [if_pos c16] at h
              refine v_sub [1, 2, 3, 4] rfl ?_
              exact t_X10_old_73 (f_X10_old_26 x n) x (some za2) a4 a5 a6 ih h F E
            · rw [if_neg c16] at h
              refine v_sub [1, 4, 0] rfl ?_
              exact t_X10_old_65 (f_X10_old_26 x n) x (some za2) a6 r13 ih h F E
        · rw [if_pos c12] at h
          refine v_goto F (tgt := 73) (dq dkX10_old_0 24 rfl) (by decide) ?_
          exact t_X10_old_73 (f_X10_old_26 x n) x (some za2) a4 a5 a6 ih h F E
def f_X10_old (x : CS) (a1 : Int32) : Option (Int32) := (f_X10_sheetAt x a1).bind fun r17 => oc r17 ((f_X10_refusalOfWidths x none).bind fun r20 => if r20 = 0 then (f_X10_old_26 x 1000 none (-1) 0 0) else (some r20)) (fun s19 => (f_X10_refusalOfWidths x (some s19)).bind fun r23 => if r23 = 0 then (f_X10_old_26 x 1000 (some s19) (-1) 0 0) else (some r23))
set_option maxRecDepth 100000 in
set_option maxHeartbeats 4000000 in
theorem c_X10_old {K : KE} {l : Launch} {R : Int32} (x : CS) (y : MS) (a1 : Int32) (h : f_X10_old x a1 = some R) : MC K l yX10_old cX10_old 8 (some .int) rm_X10_old 0 0 [.ref (K.1 + 0), .int a1] (xf K x y) (xf K x y) (some (.int R)) := by
  unfold f_X10_old at h
  refine mc_of (ls0 := [(0, .ref (K.1 + 0)), (1, .int a1)]) (by decide) (Nat.le_of_ble_eq_true rfl) rfl (fun C hl hnm F E => ?_)
  have F : Fx C RX10 cX10_old 8 rm_X10_old K := F
  refine v_aload_n F (dq dkX10_old_0 0 rfl) rfl 0 rfl ?_
  refine v_iload_n F (dq dkX10_old_0 1 rfl) rfl 1 rfl ?_
  obtain ⟨r17, e18, h⟩ := bd_of h
  refine v_callV 1 F (q := 0) (kc1 := 0) (ks1 := 0) (as := [.int a1]) (st := []) (st1 := (va_rf (r17.map (fun q => K.1 + q)) :: [])) (res := (some (va_rf (r17.map (fun q => K.1 + q))))) (c_X10_sheetAt (l := C.2.1) x y a1 e18) (xn (by decide)) xc_0 rfl (tc34 _ (List.mem_of_getElem? (i := 17) rfl)) (tc34 _ (List.mem_of_getElem? (i := 18) rfl)) (tc34 _ (List.mem_of_getElem? (i := 19) rfl)) (tc1 _ (List.mem_of_getElem? (i := 2) rfl)) (tc34 _ (List.mem_of_getElem? (i := 20) rfl)) (by decide) rfl ⟨rfl, rfl, Nat.le_of_ble_eq_true rfl, Nat.le_of_ble_eq_true rfl⟩ ⟨Nat.le_of_ble_eq_true rfl, Nat.le_of_ble_eq_true rfl⟩ rfl (Nat.le_of_ble_eq_true rfl) rfl rfl rfl (dq dkX10_old_0 2 rfl) ?_
  rcases r17 with _ | s19
  · have h := oc_nh h
    refine v_astore_nN F (ls' := [(2, .null), (0, .ref (K.1 + 0)), (1, .int a1)]) (dq dkX10_old_0 3 rfl) rfl (by decide) rfl ?_
    refine v_aload_nN F (dq dkX10_old_0 4 rfl) rfl 0 rfl ?_
    obtain ⟨r20, e21, h⟩ := bd_of h
    refine v_callS 1 F (kc1 := 0) (ks1 := 0) (as := [.null]) (st := []) (st1 := (.int r20 :: [])) (res := (some (.int r20))) (c_X10_refusalOfWidths (l := C.2.1) x y none e21) (tc34 _ (List.mem_of_getElem? (i := 21) rfl)) (tc34 _ (List.mem_of_getElem? (i := 22) rfl)) (tc1 _ (List.mem_of_getElem? (i := 2) rfl)) (tc34 _ (List.mem_of_getElem? (i := 23) rfl)) (by decide) rfl ⟨rfl, rfl, Nat.le_of_ble_eq_true rfl, Nat.le_of_ble_eq_true rfl⟩ ⟨Nat.le_of_ble_eq_true rfl, Nat.le_of_ble_eq_true rfl⟩ rfl (Nat.le_of_ble_eq_true rfl) rfl rfl rfl (dq dkX10_old_0 5 rfl) ?_
    refine v_istore_n F (ls' := [(3, .int r20), (2, .null), (0, .ref (K.1 + 0)), (1, .int a1)]) (dq dkX10_old_0 6 rfl) rfl (by decide) rfl ?_
    refine v_iload_n F (dq dkX10_old_0 7 rfl) rfl 0 rfl ?_
    refine v_if_eq F (tgt := 17) (dq dkX10_old_0 8 rfl) (by decide) (fun c22 => ?_) (fun c22 => ?_)
    · rw [if_pos c22] at h
      refine v_iconst F (v := (-1)) (dq dkX10_old_0 11 rfl) ki_m1 ?_
      refine v_istore F (ls' := [(4, .int (-1)), (3, .int r20), (2, .null), (0, .ref (K.1 + 0)), (1, .int a1)]) (dq dkX10_old_0 12 rfl) (by decide) rfl ?_
      refine v_iconst F (v := 0) (dq dkX10_old_0 13 rfl) ki_0 ?_
      refine v_istore F (ls' := [(5, .int 0), (4, .int (-1)), (3, .int r20), (2, .null), (0, .ref (K.1 + 0)), (1, .int a1)]) (dq dkX10_old_0 14 rfl) (by decide) rfl ?_
      refine v_iconst F (v := 0) (dq dkX10_old_0 15 rfl) ki_0 ?_
      refine v_istore F (ls' := [(6, .int 0), (5, .int 0), (4, .int (-1)), (3, .int r20), (2, .null), (0, .ref (K.1 + 0)), (1, .int a1)]) (dq dkX10_old_0 16 rfl) (by decide) rfl ?_
      refine v_sub [4, 2, 1, 0] rfl ?_
      exact t_X10_old_26 x F E 1000 none (-1) 0 0 h
    · rw [if_neg c22] at h
      refine v_iload_n F (dq dkX10_old_0 9 rfl) rfl 0 rfl ?_
      have h := Option.some.inj h
      subst h
      exact v_iret F E (dq dkX10_old_0 10 rfl)
  · have h := oc_sh h
    refine v_astore_n F (ls' := [(2, .ref (K.1 + s19)), (0, .ref (K.1 + 0)), (1, .int a1)]) (dq dkX10_old_0 3 rfl) rfl (by decide) rfl ?_
    refine v_aload_n F (dq dkX10_old_0 4 rfl) rfl 0 rfl ?_
    obtain ⟨r23, e24, h⟩ := bd_of h
    refine v_callS 1 F (kc1 := 0) (ks1 := 0) (as := [.ref (K.1 + s19)]) (st := []) (st1 := (.int r23 :: [])) (res := (some (.int r23))) (c_X10_refusalOfWidths (l := C.2.1) x y (some s19) e24) (tc34 _ (List.mem_of_getElem? (i := 21) rfl)) (tc34 _ (List.mem_of_getElem? (i := 22) rfl)) (tc1 _ (List.mem_of_getElem? (i := 2) rfl)) (tc34 _ (List.mem_of_getElem? (i := 23) rfl)) (by decide) rfl ⟨rfl, rfl, Nat.le_of_ble_eq_true rfl, Nat.le_of_ble_eq_true rfl⟩ ⟨Nat.le_of_ble_eq_true rfl, Nat.le_of_ble_eq_true rfl⟩ rfl (Nat.le_of_ble_eq_true rfl) rfl rfl rfl (dq dkX10_old_0 5 rfl) ?_
    refine v_istore_n F (ls' := [(3, .int r23), (2, .ref (K.1 + s19)), (0, .ref (K.1 + 0)), (1, .int a1)]) (dq dkX10_old_0 6 rfl) rfl (by decide) rfl ?_
    refine v_iload_n F (dq dkX10_old_0 7 rfl) rfl 0 rfl ?_
    refine v_if_eq F (tgt := 17) (dq dkX10_old_0 8 rfl) (by decide) (fun c25 => ?_) (fun c25 => ?_)
    · rw [if_pos c25] at h
      refine v_iconst F (v := (-1)) (dq dkX10_old_0 11 rfl) ki_m1 ?_
      refine v_istore F (ls' := [(4, .int (-1)), (3, .int r23), (2, .ref (K.1 + s19)), (0, .ref (K.1 + 0)), (1, .int a1)]) (dq dkX10_old_0 12 rfl) (by decide) rfl ?_
      refine v_iconst F (v := 0) (dq dkX10_old_0 13 rfl) ki_0 ?_
      refine v_istore F (ls' := [(5, .int 0), (4, .int (-1)), (3, .int r23), (2, .ref (K.1 + s19)), (0, .ref (K.1 + 0)), (1, .int a1)]) (dq dkX10_old_0 14 rfl) (by decide) rfl ?_
      refine v_iconst F (v := 0) (dq dkX10_old_0 15 rfl) ki_0 ?_
      refine v_istore F (ls' := [(6, .int 0), (5, .int 0), (4, .int (-1)), (3, .int r23), (2, .ref (K.1 + s19)), (0, .ref (K.1 + 0)), (1, .int a1)]) (dq dkX10_old_0 16 rfl) (by decide) rfl ?_
      refine v_sub [4, 2, 1, 0] rfl ?_
      exact t_X10_old_26 x F E 1000 (some s19) (-1) 0 0 h
    · rw [if_neg c25] at h
      refine v_iload_n F (dq dkX10_old_0 9 rfl) rfl 0 rfl ?_
      have h := Option.some.inj h
      subst h
      exact v_iret F E (dq dkX10_old_0 10 rfl)
def rm_X10_copyOf : Room := { frames := 5, cells := 0, slots := 0, locals := 116 }
def f_X10_copyOf_38 (x : CS) : Option (Int32 × CS) := some ((-3), x)
set_option maxRecDepth 100000 in
set_option maxHeartbeats 4000000 in
theorem t_X10_copyOf_38 {C : Cx} {K : KE} {y : MS} {R : Int32 × CS}  (x : CS) (h : f_X10_copyOf_38 x = some R) (F : Fx C RX10 cX10_copyOf 8 rm_X10_copyOf K) (E : CE C (xf K R.2 y) (some (.int R.1)) 0 0 (some .int)) : V C 38 [] [] (xf K x y) 0 0 := by
  unfold f_X10_copyOf_38 at h
  refine v_bipush F (v := (-3)) (dq dkX10_copyOf_0 20 rfl) kb_m3 ?_
  have h := Option.some.inj h
  subst h
  exact v_iret F E (dq dkX10_copyOf_0 21 rfl)
def f_X10_copyOf_81 (k47 : CS → Int32 → Option Nat → Int32 → Int32 → Option (Int32 × CS)) (x : CS) (a2 : Int32) (a3 : Option Nat) (a5 : Int32) (a6 : Int32) (a7 : Int32) : Option (Int32 × CS) := oc a3 ((f_X8_put x 1 0 a6 a7).bind fun r1 => k47 r1 a2 none a5 (a6 + 1)) (fun za3 => (f_X8_put x 1 0 a6 a7).bind fun r3 => k47 r3 a2 (some za3) a5 (a6 + 1))
set_option maxRecDepth 100000 in
set_option maxHeartbeats 4000000 in
theorem t_X10_copyOf_81 {C : Cx} {K : KE} {y : MS} {R : Int32 × CS}  (k47 : CS → Int32 → Option Nat → Int32 → Int32 → Option (Int32 × CS)) (x : CS) (a2 : Int32) (a3 : Option Nat) (a5 : Int32) (a6 : Int32) (a7 : Int32) (hk47 : ∀ (x : CS) (a2 : Int32) (a3 : Option Nat) (a5 : Int32) (a6 : Int32), k47 x a2 a3 a5 a6 = some R → V C 47 [(0, .ref (K.1 + 0)), (2, .int a2), (3, va_rf (a3.map (fun q => K.1 + q))), (5, .int a5), (6, .int a6)] [] (xf K x y) 0 0) (h : f_X10_copyOf_81 k47 x a2 a3 a5 a6 a7 = some R) (F : Fx C RX10 cX10_copyOf 8 rm_X10_copyOf K) (E : CE C (xf K R.2 y) (some (.int R.1)) 0 0 (some .int)) : V C 81 [(0, .ref (K.1 + 0)), (2, .int a2), (3, va_rf (a3.map (fun q => K.1 + q))), (5, .int a5), (6, .int a6), (7, .int a7)] [] (xf K x y) 0 0 := by
  unfold f_X10_copyOf_81 at h
  rcases a3 with _ | za3
  · have h := oc_nh h
    refine v_aload_n F (dq dkX10_copyOf_1 2 rfl) rfl 0 rfl ?_
    refine v_get F 0 (xn (by decide)) xc_0 rfl inlX10 0 (by decide) (tc1 _ (List.mem_of_getElem? (i := 16) rfl)) rfl rfl (dq dkX10_copyOf_1 3 rfl) ?_
    refine v_iconst F (v := 0) (dq dkX10_copyOf_1 4 rfl) ki_0 ?_
    refine v_iload F (dq dkX10_copyOf_1 5 rfl) 4 rfl ?_
    refine v_iload F (dq dkX10_copyOf_1 6 rfl) 5 rfl ?_
    obtain ⟨r1, e2, h⟩ := bd_of h
    refine v_callV 3 F (q := 1) (kc1 := 0) (ks1 := 0) (as := [.int 0, .int a6, .int a7]) (st := []) (st1 := []) (res := none) (c_X8_put (l := C.2.1) x y 1 0 a6 a7 e2) (xn (by decide)) xc_1 rfl (tc14 _ (List.mem_of_getElem? (i := 14) rfl)) (tc14 _ (List.mem_of_getElem? (i := 15) rfl)) (tc14 _ (List.mem_of_getElem? (i := 16) rfl)) (tc1 _ (List.mem_of_getElem? (i := 15) rfl)) (tc14 _ (List.mem_of_getElem? (i := 17) rfl)) (by decide) rfl ⟨rfl, rfl, Nat.le_of_ble_eq_true rfl, Nat.le_of_ble_eq_true rfl⟩ ⟨Nat.le_of_ble_eq_true rfl, Nat.le_of_ble_eq_true rfl⟩ rfl (Nat.le_of_ble_eq_true rfl) rfl rfl rfl (dq dkX10_copyOf_1 7 rfl) ?_
    refine v_iinc F (v := a6 + 1) (ls' := [(6, .int (a6 + 1)), (0, .ref (K.1 + 0)), (2, .int a2), (3, .null), (5, .int a5), (7, .int a7)]) (dq dkX10_copyOf_1 8 rfl) (j := 4) rfl (kv_add ki_1) (by decide) rfl ?_
    refine v_goto F (tgt := 47) (dq dkX10_copyOf_1 9 rfl) (by decide) ?_
    refine v_sub [1, 2, 3, 4, 0] rfl ?_
    exact hk47 r1 a2 none a5 (a6 + 1) h
  · have h := oc_sh h
    refine v_aload_n F (dq dkX10_copyOf_1 2 rfl) rfl 0 rfl ?_
    refine v_get F 0 (xn (by decide)) xc_0 rfl inlX10 0 (by decide) (tc1 _ (List.mem_of_getElem? (i := 16) rfl)) rfl rfl (dq dkX10_copyOf_1 3 rfl) ?_
    refine v_iconst F (v := 0) (dq dkX10_copyOf_1 4 rfl) ki_0 ?_
    refine v_iload F (dq dkX10_copyOf_1 5 rfl) 4 rfl ?_
    refine v_iload F (dq dkX10_copyOf_1 6 rfl) 5 rfl ?_
    obtain ⟨r3, e4, h⟩ := bd_of h
    refine v_callV 3 F (q := 1) (kc1 := 0) (ks1 := 0) (as := [.int 0, .int a6, .int a7]) (st := []) (st1 := []) (res := none) (c_X8_put (l := C.2.1) x y 1 0 a6 a7 e4) (xn (by decide)) xc_1 rfl (tc14 _ (List.mem_of_getElem? (i := 14) rfl)) (tc14 _ (List.mem_of_getElem? (i := 15) rfl)) (tc14 _ (List.mem_of_getElem? (i := 16) rfl)) (tc1 _ (List.mem_of_getElem? (i := 15) rfl)) (tc14 _ (List.mem_of_getElem? (i := 17) rfl)) (by decide) rfl ⟨rfl, rfl, Nat.le_of_ble_eq_true rfl, Nat.le_of_ble_eq_true rfl⟩ ⟨Nat.le_of_ble_eq_true rfl, Nat.le_of_ble_eq_true rfl⟩ rfl (Nat.le_of_ble_eq_true rfl) rfl rfl rfl (dq dkX10_copyOf_1 7 rfl) ?_
    refine v_iinc F (v := a6 + 1) (ls' := [(6, .int (a6 + 1)), (0, .ref (K.1 + 0)), (2, .int a2), (3, .ref (K.1 + za3)), (5, .int a5), (7, .int a7)]) (dq dkX10_copyOf_1 8 rfl) (j := 4) rfl (kv_add ki_1) (by decide) rfl ?_
    refine v_goto F (tgt := 47) (dq dkX10_copyOf_1 9 rfl) (by decide) ?_
    refine v_sub [1, 2, 3, 4, 0] rfl ?_
    exact hk47 r3 a2 (some za3) a5 (a6 + 1) h
def f_X10_copyOf_47 : Nat → CS → Int32 → Option Nat → Int32 → Int32 → Option (Int32 × CS)
  | 0, _, _, _, _, _ => none
  | n + 1, x, a2, a3, a5, a6 => oc a3 (if 9 ≤ a6 then (some (a5, x)) else ((f_X10_widthToCarve x none a2 a6).bind fun r6 => (f_X8_of x 1 0 a6).bind fun r8 => if r8 = r6 then (f_X10_copyOf_81 (f_X10_copyOf_47 n) x a2 none a5 a6 r6) else (f_X10_copyOf_81 (f_X10_copyOf_47 n) x a2 none (a5 + 1) a6 r6))) (fun za3 => if 9 ≤ a6 then (some (a5, x)) else ((f_X10_widthToCarve x (some za3) a2 a6).bind fun r12 => (f_X8_of x 1 0 a6).bind fun r14 => if r14 = r12 then (f_X10_copyOf_81 (f_X10_copyOf_47 n) x a2 (some za3) a5 a6 r12) else (f_X10_copyOf_81 (f_X10_copyOf_47 n) x a2 (some za3) (a5 + 1) a6 r12)))
set_option maxRecDepth 100000 in
set_option maxHeartbeats 4000000 in
theorem t_X10_copyOf_47 {C : Cx} {K : KE} {y : MS} {R : Int32 × CS}  (F : Fx C RX10 cX10_copyOf 8 rm_X10_copyOf K) (E : CE C (xf K R.2 y) (some (.int R.1)) 0 0 (some .int)) : ∀ (n : Nat) (x : CS) (a2 : Int32) (a3 : Option Nat) (a5 : Int32) (a6 : Int32) (h : f_X10_copyOf_47 n x a2 a3 a5 a6 = some R), V C 47 [(0, .ref (K.1 + 0)), (2, .int a2), (3, va_rf (a3.map (fun q => K.1 + q))), (5, .int a5), (6, .int a6)] [] (xf K x y) 0 0 := by
  intro n
  induction n with
  | zero => intro x a2 a3 a5 a6 h; cases h
  | succ n ih =>
    intro x a2 a3 a5 a6 h
    rw [f_X10_copyOf_47] at h
    rcases a3 with _ | za3
    · have h := oc_nh h
      refine v_iload F (dq dkX10_copyOf_0 26 rfl) 4 rfl ?_
      refine v_bipush F (v := 9) (dq dkX10_copyOf_0 27 rfl) kb_9 ?_
      refine v_icmp_ge F (tgt := 99) (dq dkX10_copyOf_0 28 rfl) (by decide) (fun c5 => ?_) (fun c5 => ?_)
      · rw [if_pos c5] at h
        refine v_iload F (dq dkX10_copyOf_1 10 rfl) 3 rfl ?_
        have h := Option.some.inj h
        subst h
        exact v_iret F E (dq dkX10_copyOf_1 11 rfl)
      · rw [if_neg c5] at h
        refine v_aload_nN F (dq dkX10_copyOf_0 29 rfl) rfl 2 rfl ?_
        refine v_iload_n F (dq dkX10_copyOf_0 30 rfl) rfl 1 rfl ?_
        refine v_iload F (dq dkX10_copyOf_0 31 rfl) 4 rfl ?_
        obtain ⟨r6, e7, h⟩ := bd_of h
        refine v_callS 3 F (kc1 := 0) (ks1 := 0) (as := [.null, .int a2, .int a6]) (st := []) (st1 := (.int r6 :: [])) (res := (some (.int r6))) (c_X10_widthToCarve (l := C.2.1) x y none a2 a6 e7) (tc35 _ (List.mem_of_getElem? (i := 15) rfl)) (tc35 _ (List.mem_of_getElem? (i := 16) rfl)) (tc1 _ (List.mem_of_getElem? (i := 2) rfl)) (tc35 _ (List.mem_of_getElem? (i := 17) rfl)) (by decide) rfl ⟨rfl, rfl, Nat.le_of_ble_eq_true rfl, Nat.le_of_ble_eq_true rfl⟩ ⟨Nat.le_of_ble_eq_true rfl, Nat.le_of_ble_eq_true rfl⟩ rfl (Nat.le_of_ble_eq_true rfl) rfl rfl rfl (dq dkX10_copyOf_0 32 rfl) ?_
        refine v_istore F (ls' := [(7, .int r6), (0, .ref (K.1 + 0)), (2, .int a2), (3, .null), (5, .int a5), (6, .int a6)]) (dq dkX10_copyOf_0 33 rfl) (by decide) rfl ?_
        refine v_aload_n F (dq dkX10_copyOf_0 34 rfl) rfl 1 rfl ?_
        refine v_get F 0 (xn (by decide)) xc_0 rfl inlX10 0 (by decide) (tc1 _ (List.mem_of_getElem? (i := 16) rfl)) rfl rfl (dq dkX10_copyOf_0 35 rfl) ?_
        refine v_iconst F (v := 0) (dq dkX10_copyOf_0 36 rfl) ki_0 ?_
        refine v_iload F (dq dkX10_copyOf_0 37 rfl) 5 rfl ?_
        obtain ⟨r8, e9, h⟩ := bd_of h
        refine v_callV 2 F (q := 1) (kc1 := 0) (ks1 := 0) (as := [.int 0, .int a6]) (st := []) (st1 := (.int r8 :: [])) (res := (some (.int r8))) (c_X8_of (l := C.2.1) x y 1 0 a6 e9) (xn (by decide)) xc_1 rfl (tc14 _ (List.mem_of_getElem? (i := 10) rfl)) (tc14 _ (List.mem_of_getElem? (i := 11) rfl)) (tc14 _ (List.mem_of_getElem? (i := 12) rfl)) (tc1 _ (List.mem_of_getElem? (i := 15) rfl)) (tc14 _ (List.mem_of_getElem? (i := 13) rfl)) (by decide) rfl ⟨rfl, rfl, Nat.le_of_ble_eq_true rfl, Nat.le_of_ble_eq_true rfl⟩ ⟨Nat.le_of_ble_eq_true rfl, Nat.le_of_ble_eq_true rfl⟩ rfl (Nat.le_of_ble_eq_true rfl) rfl rfl rfl (dq dkX10_copyOf_0 38 rfl) ?_
        refine v_iload F (dq dkX10_copyOf_0 39 rfl) 0 rfl ?_
        refine v_icmp_eq F (tgt := 81) (dq dkX10_copyOf_1 0 rfl) (by decide) (fun c10 => ?_) (fun c10 => ?_)
        · rw [if_pos c10] at h
          refine v_sub [1, 2, 3, 4, 5, 0] rfl ?_
          exact t_X10_copyOf_81 (f_X10_copyOf_47 n) x a2 none a5 a6 r6 ih h F E
        · rw [if_neg c10] at h
          refine v_iinc F (v := a5 + 1) (ls' := [(5, .int (a5 + 1)), (7, .int r6), (0, .ref (K.1 + 0)), (2, .int a2), (3, .null), (6, .int a6)]) (dq dkX10_copyOf_1 1 rfl) (j := 4) rfl (kv_add ki_1) (by decide) rfl ?_
          refine v_sub [2, 3, 4, 0, 5, 1] rfl ?_
          exact t_X10_copyOf_81 (f_X10_copyOf_47 n) x a2 none (a5 + 1) a6 r6 ih h F E
    · have h := oc_sh h
      refine v_iload F (dq dkX10_copyOf_0 26 rfl) 4 rfl ?_
      refine v_bipush F (v := 9) (dq dkX10_copyOf_0 27 rfl) kb_9 ?_
      refine v_icmp_ge F (tgt := 99) (dq dkX10_copyOf_0 28 rfl) (by decide) (fun c11 => ?_) (fun c11 => ?_)
      · rw [if_pos c11] at h
        refine v_iload F (dq dkX10_copyOf_1 10 rfl) 3 rfl ?_
        have h := Option.some.inj h
        subst h
        exact v_iret F E (dq dkX10_copyOf_1 11 rfl)
      · rw [if_neg c11] at h
        refine v_aload_n F (dq dkX10_copyOf_0 29 rfl) rfl 2 rfl ?_
        refine v_iload_n F (dq dkX10_copyOf_0 30 rfl) rfl 1 rfl ?_
        refine v_iload F (dq dkX10_copyOf_0 31 rfl) 4 rfl ?_
        obtain ⟨r12, e13, h⟩ := bd_of h
        refine v_callS 3 F (kc1 := 0) (ks1 := 0) (as := [.ref (K.1 + za3), .int a2, .int a6]) (st := []) (st1 := (.int r12 :: [])) (res := (some (.int r12))) (c_X10_widthToCarve (l := C.2.1) x y (some za3) a2 a6 e13) (tc35 _ (List.mem_of_getElem? (i := 15) rfl)) (tc35 _ (List.mem_of_getElem? (i := 16) rfl)) (tc1 _ (List.mem_of_getElem? (i := 2) rfl)) (tc35 _ (List.mem_of_getElem? (i := 17) rfl)) (by decide) rfl ⟨rfl, rfl, Nat.le_of_ble_eq_true rfl, Nat.le_of_ble_eq_true rfl⟩ ⟨Nat.le_of_ble_eq_true rfl, Nat.le_of_ble_eq_true rfl⟩ rfl (Nat.le_of_ble_eq_true rfl) rfl rfl rfl (dq dkX10_copyOf_0 32 rfl) ?_
        refine v_istore F (ls' := [(7, .int r12), (0, .ref (K.1 + 0)), (2, .int a2), (3, .ref (K.1 + za3)), (5, .int a5), (6, .int a6)]) (dq dkX10_copyOf_0 33 rfl) (by decide) rfl ?_
        refine v_aload_n F (dq dkX10_copyOf_0 34 rfl) rfl 1 rfl ?_
        refine v_get F 0 (xn (by decide)) xc_0 rfl inlX10 0 (by decide) (tc1 _ (List.mem_of_getElem? (i := 16) rfl)) rfl rfl (dq dkX10_copyOf_0 35 rfl) ?_
        refine v_iconst F (v := 0) (dq dkX10_copyOf_0 36 rfl) ki_0 ?_
        refine v_iload F (dq dkX10_copyOf_0 37 rfl) 5 rfl ?_
        obtain ⟨r14, e15, h⟩ := bd_of h
        refine v_callV 2 F (q := 1) (kc1 := 0) (ks1 := 0) (as := [.int 0, .int a6]) (st := []) (st1 := (.int r14 :: [])) (res := (some (.int r14))) (c_X8_of (l := C.2.1) x y 1 0 a6 e15) (xn (by decide)) xc_1 rfl (tc14 _ (List.mem_of_getElem? (i := 10) rfl)) (tc14 _ (List.mem_of_getElem? (i := 11) rfl)) (tc14 _ (List.mem_of_getElem? (i := 12) rfl)) (tc1 _ (List.mem_of_getElem? (i := 15) rfl)) (tc14 _ (List.mem_of_getElem? (i := 13) rfl)) (by decide) rfl ⟨rfl, rfl, Nat.le_of_ble_eq_true rfl, Nat.le_of_ble_eq_true rfl⟩ ⟨Nat.le_of_ble_eq_true rfl, Nat.le_of_ble_eq_true rfl⟩ rfl (Nat.le_of_ble_eq_true rfl) rfl rfl rfl (dq dkX10_copyOf_0 38 rfl) ?_
        refine v_iload F (dq dkX10_copyOf_0 39 rfl) 0 rfl ?_
        refine v_icmp_eq F (tgt := 81) (dq dkX10_copyOf_1 0 rfl) (by decide) (fun c16 => ?_) (fun c16 => ?_)
        · rw [if_pos c16] at h
          refine v_sub [1, 2, 3, 4, 5, 0] rfl ?_
          exact t_X10_copyOf_81 (f_X10_copyOf_47 n) x a2 (some za3) a5 a6 r12 ih h F E
        · rw [if_neg c16] at h
          refine v_iinc F (v := a5 + 1) (ls' := [(5, .int (a5 + 1)), (7, .int r12), (0, .ref (K.1 + 0)), (2, .int a2), (3, .ref (K.1 + za3)), (6, .int a6)]) (dq dkX10_copyOf_1 1 rfl) (j := 4) rfl (kv_add ki_1) (by decide) rfl ?_
          refine v_sub [2, 3, 4, 0, 5, 1] rfl ?_
          exact t_X10_copyOf_81 (f_X10_copyOf_47 n) x a2 (some za3) (a5 + 1) a6 r12 ih h F E
def f_X10_copyOf (x : CS) (a1 : Int32) (a2 : Int32) : Option (Int32 × CS) := (f_X10_sheetAt x a1).bind fun r17 => oc r17 ((f_X10_refusalOfWidths x none).bind fun r20 => if r20 = 0 then (if (b2i (f_X10_within a2 0 12)) = 0 then (f_X10_copyOf_38 x) else ((f_X10_canBeCarved x none a2).bind fun r25 => if (b2i r25) = 0 then (f_X10_copyOf_38 x) else (f_X10_copyOf_47 1000 x a2 none 0 0))) else (some (r20, x))) (fun s19 => (f_X10_refusalOfWidths x (some s19)).bind fun r28 => if r28 = 0 then (if (b2i (f_X10_within a2 0 12)) = 0 then (f_X10_copyOf_38 x) else ((f_X10_canBeCarved x (some s19) a2).bind fun r33 => if (b2i r33) = 0 then (f_X10_copyOf_38 x) else (f_X10_copyOf_47 1000 x a2 (some s19) 0 0))) else (some (r28, x)))
set_option maxRecDepth 100000 in
set_option maxHeartbeats 4000000 in
theorem c_X10_copyOf {K : KE} {l : Launch} {R : Int32 × CS} (x : CS) (y : MS) (a1 : Int32) (a2 : Int32) (h : f_X10_copyOf x a1 a2 = some R) : MC K l yX10_copyOf cX10_copyOf 8 (some .int) rm_X10_copyOf 0 0 [.ref (K.1 + 0), .int a1, .int a2] (xf K x y) (xf K R.2 y) (some (.int R.1)) := by
  unfold f_X10_copyOf at h
  refine mc_of (ls0 := [(0, .ref (K.1 + 0)), (1, .int a1), (2, .int a2)]) (by decide) (Nat.le_of_ble_eq_true rfl) rfl (fun C hl hnm F E => ?_)
  have F : Fx C RX10 cX10_copyOf 8 rm_X10_copyOf K := F
  refine v_aload_n F (dq dkX10_copyOf_0 0 rfl) rfl 0 rfl ?_
  refine v_iload_n F (dq dkX10_copyOf_0 1 rfl) rfl 1 rfl ?_
  obtain ⟨r17, e18, h⟩ := bd_of h
  refine v_callV 1 F (q := 0) (kc1 := 0) (ks1 := 0) (as := [.int a1]) (st := []) (st1 := (va_rf (r17.map (fun q => K.1 + q)) :: [])) (res := (some (va_rf (r17.map (fun q => K.1 + q))))) (c_X10_sheetAt (l := C.2.1) x y a1 e18) (xn (by decide)) xc_0 rfl (tc34 _ (List.mem_of_getElem? (i := 17) rfl)) (tc34 _ (List.mem_of_getElem? (i := 18) rfl)) (tc34 _ (List.mem_of_getElem? (i := 19) rfl)) (tc1 _ (List.mem_of_getElem? (i := 2) rfl)) (tc34 _ (List.mem_of_getElem? (i := 20) rfl)) (by decide) rfl ⟨rfl, rfl, Nat.le_of_ble_eq_true rfl, Nat.le_of_ble_eq_true rfl⟩ ⟨Nat.le_of_ble_eq_true rfl, Nat.le_of_ble_eq_true rfl⟩ rfl (Nat.le_of_ble_eq_true rfl) rfl rfl rfl (dq dkX10_copyOf_0 2 rfl) ?_
  rcases r17 with _ | s19
  · have h := oc_nh h
    refine v_astore_nN F (ls' := [(3, .null), (0, .ref (K.1 + 0)), (1, .int a1), (2, .int a2)]) (dq dkX10_copyOf_0 3 rfl) rfl (by decide) rfl ?_
    refine v_aload_nN F (dq dkX10_copyOf_0 4 rfl) rfl 0 rfl ?_
    obtain ⟨r20, e21, h⟩ := bd_of h
    refine v_callS 1 F (kc1 := 0) (ks1 := 0) (as := [.null]) (st := []) (st1 := (.int r20 :: [])) (res := (some (.int r20))) (c_X10_refusalOfWidths (l := C.2.1) x y none e21) (tc34 _ (List.mem_of_getElem? (i := 21) rfl)) (tc34 _ (List.mem_of_getElem? (i := 22) rfl)) (tc1 _ (List.mem_of_getElem? (i := 2) rfl)) (tc34 _ (List.mem_of_getElem? (i := 23) rfl)) (by decide) rfl ⟨rfl, rfl, Nat.le_of_ble_eq_true rfl, Nat.le_of_ble_eq_true rfl⟩ ⟨Nat.le_of_ble_eq_true rfl, Nat.le_of_ble_eq_true rfl⟩ rfl (Nat.le_of_ble_eq_true rfl) rfl rfl rfl (dq dkX10_copyOf_0 5 rfl) ?_
    refine v_istore F (ls' := [(4, .int r20), (3, .null), (0, .ref (K.1 + 0)), (1, .int a1), (2, .int a2)]) (dq dkX10_copyOf_0 6 rfl) (by decide) rfl ?_
    refine v_iload F (dq dkX10_copyOf_0 7 rfl) 0 rfl ?_
    refine v_if_eq F (tgt := 20) (dq dkX10_copyOf_0 8 rfl) (by decide) (fun c22 => ?_) (fun c22 => ?_)
    · rw [if_pos c22] at h
      refine v_iload_n F (dq dkX10_copyOf_0 11 rfl) rfl 4 rfl ?_
      refine v_iconst F (v := 0) (dq dkX10_copyOf_0 12 rfl) ki_0 ?_
      refine v_bipush F (v := 12) (dq dkX10_copyOf_0 13 rfl) kb_12 ?_
      refine v_callS 3 F (kc1 := 0) (ks1 := 0) (as := [.int a2, .int 0, .int 12]) (st := []) (st1 := (.int (b2i (f_X10_within a2 0 12)) :: [])) (res := (some (.int (b2i (f_X10_within a2 0 12))))) (c_X10_within (l := C.2.1) a2 0 12) (tc14 _ (List.mem_of_getElem? (i := 3) rfl)) (tc8 _ (List.mem_of_getElem? (i := 15) rfl)) (tc1 _ (List.mem_of_getElem? (i := 2) rfl)) (tc8 _ (List.mem_of_getElem? (i := 16) rfl)) (by decide) rfl ⟨rfl, rfl, Nat.le_of_ble_eq_true rfl, Nat.le_of_ble_eq_true rfl⟩ ⟨Nat.le_of_ble_eq_true rfl, Nat.le_of_ble_eq_true rfl⟩ rfl (Nat.le_of_ble_eq_true rfl) rfl rfl rfl (dq dkX10_copyOf_0 14 rfl) ?_
      refine v_if_eq F (tgt := 38) (dq dkX10_copyOf_0 15 rfl) (by decide) (fun c24 => ?_) (fun c24 => ?_)
      · rw [if_pos c24] at h
        refine v_sub [] rfl ?_
        exact t_X10_copyOf_38 x h F E
      · rw [if_neg c24] at h
        refine v_aload_nN F (dq dkX10_copyOf_0 16 rfl) rfl 1 rfl ?_
        refine v_iload_n F (dq dkX10_copyOf_0 17 rfl) rfl 4 rfl ?_
        obtain ⟨r25, e26, h⟩ := bd_of h
        refine v_callS 2 F (kc1 := 0) (ks1 := 0) (as := [.null, .int a2]) (st := []) (st1 := (.int (b2i r25) :: [])) (res := (some (.int (b2i r25)))) (c_X10_canBeCarved (l := C.2.1) x y none a2 e26) (tc36 _ (List.mem_of_getElem? (i := 11) rfl)) (tc36 _ (List.mem_of_getElem? (i := 12) rfl)) (tc1 _ (List.mem_of_getElem? (i := 2) rfl)) (tc36 _ (List.mem_of_getElem? (i := 13) rfl)) (by decide) rfl ⟨rfl, rfl, Nat.le_of_ble_eq_true rfl, Nat.le_of_ble_eq_true rfl⟩ ⟨Nat.le_of_ble_eq_true rfl, Nat.le_of_ble_eq_true rfl⟩ rfl (Nat.le_of_ble_eq_true rfl) rfl rfl rfl (dq dkX10_copyOf_0 18 rfl) ?_
        refine v_if_ne F (tgt := 41) (dq dkX10_copyOf_0 19 rfl) (by decide) (fun c27 => ?_) (fun c27 => ?_)
        · rw [if_neg c27] at h
          refine v_iconst F (v := 0) (dq dkX10_copyOf_0 22 rfl) ki_0 ?_
          refine v_istore F (ls' := [(5, .int 0), (4, .int r20), (3, .null), (0, .ref (K.1 + 0)), (1, .int a1), (2, .int a2)]) (dq dkX10_copyOf_0 23 rfl) (by decide) rfl ?_
          refine v_iconst F (v := 0) (dq dkX10_copyOf_0 24 rfl) ki_0 ?_
          refine v_istore F (ls' := [(6, .int 0), (5, .int 0), (4, .int r20), (3, .null), (0, .ref (K.1 + 0)), (1, .int a1), (2, .int a2)]) (dq dkX10_copyOf_0 25 rfl) (by decide) rfl ?_
          refine v_sub [4, 6, 3, 1, 0] rfl ?_
          exact t_X10_copyOf_47 F E 1000 x a2 none 0 0 h
        · rw [if_pos c27] at h
          refine v_sub [] rfl ?_
          exact t_X10_copyOf_38 x h F E
    · rw [if_neg c22] at h
      refine v_iload F (dq dkX10_copyOf_0 9 rfl) 0 rfl ?_
      have h := Option.some.inj h
      subst h
      exact v_iret F E (dq dkX10_copyOf_0 10 rfl)
  · have h := oc_sh h
    refine v_astore_n F (ls' := [(3, .ref (K.1 + s19)), (0, .ref (K.1 + 0)), (1, .int a1), (2, .int a2)]) (dq dkX10_copyOf_0 3 rfl) rfl (by decide) rfl ?_
    refine v_aload_n F (dq dkX10_copyOf_0 4 rfl) rfl 0 rfl ?_
    obtain ⟨r28, e29, h⟩ := bd_of h
    refine v_callS 1 F (kc1 := 0) (ks1 := 0) (as := [.ref (K.1 + s19)]) (st := []) (st1 := (.int r28 :: [])) (res := (some (.int r28))) (c_X10_refusalOfWidths (l := C.2.1) x y (some s19) e29) (tc34 _ (List.mem_of_getElem? (i := 21) rfl)) (tc34 _ (List.mem_of_getElem? (i := 22) rfl)) (tc1 _ (List.mem_of_getElem? (i := 2) rfl)) (tc34 _ (List.mem_of_getElem? (i := 23) rfl)) (by decide) rfl ⟨rfl, rfl, Nat.le_of_ble_eq_true rfl, Nat.le_of_ble_eq_true rfl⟩ ⟨Nat.le_of_ble_eq_true rfl, Nat.le_of_ble_eq_true rfl⟩ rfl (Nat.le_of_ble_eq_true rfl) rfl rfl rfl (dq dkX10_copyOf_0 5 rfl) ?_
    refine v_istore F (ls' := [(4, .int r28), (3, .ref (K.1 + s19)), (0, .ref (K.1 + 0)), (1, .int a1), (2, .int a2)]) (dq dkX10_copyOf_0 6 rfl) (by decide) rfl ?_
    refine v_iload F (dq dkX10_copyOf_0 7 rfl) 0 rfl ?_
    refine v_if_eq F (tgt := 20) (dq dkX10_copyOf_0 8 rfl) (by decide) (fun c30 => ?_) (fun c30 => ?_)
    · rw [if_pos c30] at h
      refine v_iload_n F (dq dkX10_copyOf_0 11 rfl) rfl 4 rfl ?_
      refine v_iconst F (v := 0) (dq dkX10_copyOf_0 12 rfl) ki_0 ?_
      refine v_bipush F (v := 12) (dq dkX10_copyOf_0 13 rfl) kb_12 ?_
      refine v_callS 3 F (kc1 := 0) (ks1 := 0) (as := [.int a2, .int 0, .int 12]) (st := []) (st1 := (.int (b2i (f_X10_within a2 0 12)) :: [])) (res := (some (.int (b2i (f_X10_within a2 0 12))))) (c_X10_within (l := C.2.1) a2 0 12) (tc14 _ (List.mem_of_getElem? (i := 3) rfl)) (tc8 _ (List.mem_of_getElem? (i := 15) rfl)) (tc1 _ (List.mem_of_getElem? (i := 2) rfl)) (tc8 _ (List.mem_of_getElem? (i := 16) rfl)) (by decide) rfl ⟨rfl, rfl, Nat.le_of_ble_eq_true rfl, Nat.le_of_ble_eq_true rfl⟩ ⟨Nat.le_of_ble_eq_true rfl, Nat.le_of_ble_eq_true rfl⟩ rfl (Nat.le_of_ble_eq_true rfl) rfl rfl rfl (dq dkX10_copyOf_0 14 rfl) ?_
      refine v_if_eq F (tgt := 38) (dq dkX10_copyOf_0 15 rfl) (by decide) (fun c32 => ?_) (fun c32 => ?_)
      · rw [if_pos c32] at h
        refine v_sub [] rfl ?_
        exact t_X10_copyOf_38 x h F E
      · rw [if_neg c32] at h
        refine v_aload_n F (dq dkX10_copyOf_0 16 rfl) rfl 1 rfl ?_
        refine v_iload_n F (dq dkX10_copyOf_0 17 rfl) rfl 4 rfl ?_
        obtain ⟨r33, e34, h⟩ := bd_of h
        refine v_callS 2 F (kc1 := 0) (ks1 := 0) (as := [.ref (K.1 + s19), .int a2]) (st := []) (st1 := (.int (b2i r33) :: [])) (res := (some (.int (b2i r33)))) (c_X10_canBeCarved (l := C.2.1) x y (some s19) a2 e34) (tc36 _ (List.mem_of_getElem? (i := 11) rfl)) (tc36 _ (List.mem_of_getElem? (i := 12) rfl)) (tc1 _ (List.mem_of_getElem? (i := 2) rfl)) (tc36 _ (List.mem_of_getElem? (i := 13) rfl)) (by decide) rfl ⟨rfl, rfl, Nat.le_of_ble_eq_true rfl, Nat.le_of_ble_eq_true rfl⟩ ⟨Nat.le_of_ble_eq_true rfl, Nat.le_of_ble_eq_true rfl⟩ rfl (Nat.le_of_ble_eq_true rfl) rfl rfl rfl (dq dkX10_copyOf_0 18 rfl) ?_
        refine v_if_ne F (tgt := 41) (dq dkX10_copyOf_0 19 rfl) (by decide) (fun c35 => ?_) (fun c35 => ?_)
        · rw [if_neg c35] at h
          refine v_iconst F (v := 0) (dq dkX10_copyOf_0 22 rfl) ki_0 ?_
          refine v_istore F (ls' := [(5, .int 0), (4, .int r28), (3, .ref (K.1 + s19)), (0, .ref (K.1 + 0)), (1, .int a1), (2, .int a2)]) (dq dkX10_copyOf_0 23 rfl) (by decide) rfl ?_
          refine v_iconst F (v := 0) (dq dkX10_copyOf_0 24 rfl) ki_0 ?_
          refine v_istore F (ls' := [(6, .int 0), (5, .int 0), (4, .int r28), (3, .ref (K.1 + s19)), (0, .ref (K.1 + 0)), (1, .int a1), (2, .int a2)]) (dq dkX10_copyOf_0 25 rfl) (by decide) rfl ?_
          refine v_sub [4, 6, 3, 1, 0] rfl ?_
          exact t_X10_copyOf_47 F E 1000 x a2 (some s19) 0 0 h
        · rw [if_pos c35] at h
          refine v_sub [] rfl ?_
          exact t_X10_copyOf_38 x h F E
    · rw [if_neg c30] at h
      refine v_iload F (dq dkX10_copyOf_0 9 rfl) 0 rfl ?_
      have h := Option.some.inj h
      subst h
      exact v_iret F E (dq dkX10_copyOf_0 10 rfl)
def rm_X10_even : Room := { frames := 5, cells := 0, slots := 0, locals := 115 }
def f_X10_even_101 (k41 : CS → Int32 → Int32 → Int32 → Int32 → Int32 → Option (Int32 × CS)) (x : CS) (a1 : Int32) (a2 : Int32) (a3 : Int32) (a4 : Int32) (a5 : Int32) : Option (Int32 × CS) := k41 x a1 a2 a3 a4 (a5 + 1)
set_option maxRecDepth 100000 in
set_option maxHeartbeats 4000000 in
theorem t_X10_even_101 {C : Cx} {K : KE} {y : MS} {R : Int32 × CS}  (k41 : CS → Int32 → Int32 → Int32 → Int32 → Int32 → Option (Int32 × CS)) (x : CS) (a1 : Int32) (a2 : Int32) (a3 : Int32) (a4 : Int32) (a5 : Int32) (hk41 : ∀ (x : CS) (a1 : Int32) (a2 : Int32) (a3 : Int32) (a4 : Int32) (a5 : Int32), k41 x a1 a2 a3 a4 a5 = some R → V C 41 [(0, .ref (K.1 + 0)), (1, .int a1), (2, .int a2), (3, .int a3), (4, .int a4), (5, .int a5)] [] (xf K x y) 0 0) (h : f_X10_even_101 k41 x a1 a2 a3 a4 a5 = some R) (F : Fx C RX10 cX10_even 8 rm_X10_even K) (E : CE C (xf K R.2 y) (some (.int R.1)) 0 0 (some .int)) : V C 101 [(0, .ref (K.1 + 0)), (1, .int a1), (2, .int a2), (3, .int a3), (4, .int a4), (5, .int a5)] [] (xf K x y) 0 0 := by
  unfold f_X10_even_101 at h
  refine v_iinc F (v := a5 + 1) (ls' := [(5, .int (a5 + 1)), (0, .ref (K.1 + 0)), (1, .int a1), (2, .int a2), (3, .int a3), (4, .int a4)]) (dq dkX10_even_1 12 rfl) (j := 5) rfl (kv_add ki_1) (by decide) rfl ?_
  refine v_goto F (tgt := 41) (dq dkX10_even_1 13 rfl) (by decide) ?_
  refine v_sub [1, 2, 3, 4, 5, 0] rfl ?_
  exact hk41 x a1 a2 a3 a4 (a5 + 1) h
def f_X10_even_41 : Nat → CS → Int32 → Int32 → Int32 → Int32 → Int32 → Option (Int32 × CS)
  | 0, _, _, _, _, _, _ => none
  | n + 1, x, a1, a2, a3, a4, a5 => if 20 < a5 then (some (a3, x)) else ((f_X8_of x 1 0 a1).bind fun r2 => (f_X8_of x 1 4 a1).bind fun r4 => (f_X2_asked x 1 a5 r2 r4).bind fun r6 => if a4 ≤ (if 0 ≤ (r6.1 - a2) then (r6.1 - a2) else 0 - (r6.1 - a2)) then (f_X10_even_101 (f_X10_even_41 n) r6.2 a1 a2 a3 a4 a5) else (f_X10_even_101 (f_X10_even_41 n) r6.2 a1 a2 a5 (if 0 ≤ (r6.1 - a2) then (r6.1 - a2) else 0 - (r6.1 - a2)) a5))
set_option maxRecDepth 100000 in
set_option maxHeartbeats 4000000 in
theorem t_X10_even_41 {C : Cx} {K : KE} {y : MS} {R : Int32 × CS}  (F : Fx C RX10 cX10_even 8 rm_X10_even K) (E : CE C (xf K R.2 y) (some (.int R.1)) 0 0 (some .int)) : ∀ (n : Nat) (x : CS) (a1 : Int32) (a2 : Int32) (a3 : Int32) (a4 : Int32) (a5 : Int32) (h : f_X10_even_41 n x a1 a2 a3 a4 a5 = some R), V C 41 [(0, .ref (K.1 + 0)), (1, .int a1), (2, .int a2), (3, .int a3), (4, .int a4), (5, .int a5)] [] (xf K x y) 0 0 := by
  intro n
  induction n with
  | zero => intro x a1 a2 a3 a4 a5 h; cases h
  | succ n ih =>
    intro x a1 a2 a3 a4 a5 h
    rw [f_X10_even_41] at h
    refine v_iload F (dq dkX10_even_0 21 rfl) 5 rfl ?_
    refine v_bipush F (v := 20) (dq dkX10_even_0 22 rfl) kb_20 ?_
    refine v_icmp_gt F (tgt := 107) (dq dkX10_even_0 23 rfl) (by decide) (fun c1 => ?_) (fun c1 => ?_)
    · rw [if_pos c1] at h
      refine v_iload_n F (dq dkX10_even_1 14 rfl) rfl 3 rfl ?_
      have h := Option.some.inj h
      subst h
      exact v_iret F E (dq dkX10_even_1 15 rfl)
    · rw [if_neg c1] at h
      refine v_aload_n F (dq dkX10_even_0 24 rfl) rfl 0 rfl ?_
      refine v_get F 0 (xn (by decide)) xc_0 rfl inlX10 7 (by decide) (tc2 _ (List.mem_of_getElem? (i := 20) rfl)) rfl rfl (dq dkX10_even_0 25 rfl) ?_
      refine v_iconst F (v := 1) (dq dkX10_even_0 26 rfl) ki_1 ?_
      refine v_iload F (dq dkX10_even_0 27 rfl) 5 rfl ?_
      refine v_aload_n F (dq dkX10_even_0 28 rfl) rfl 0 rfl ?_
      refine v_get F 0 (xn (by decide)) xc_0 rfl inlX10 0 (by decide) (tc1 _ (List.mem_of_getElem? (i := 16) rfl)) rfl rfl (dq dkX10_even_0 29 rfl) ?_
      refine v_iconst F (v := 0) (dq dkX10_even_0 30 rfl) ki_0 ?_
      refine v_iload_n F (dq dkX10_even_0 31 rfl) rfl 1 rfl ?_
      obtain ⟨r2, e3, h⟩ := bd_of h
      refine v_callV 2 F (q := 1) (kc1 := 0) (ks1 := 0) (as := [.int 0, .int a1]) (st := [.int a5, .int 1, .ref (K.1 + 48)]) (st1 := (.int r2 :: [.int a5, .int 1, .ref (K.1 + 48)])) (res := (some (.int r2))) (c_X8_of (l := C.2.1) x y 1 0 a1 e3) (xn (by decide)) xc_1 rfl (tc14 _ (List.mem_of_getElem? (i := 10) rfl)) (tc14 _ (List.mem_of_getElem? (i := 11) rfl)) (tc14 _ (List.mem_of_getElem? (i := 12) rfl)) (tc1 _ (List.mem_of_getElem? (i := 15) rfl)) (tc14 _ (List.mem_of_getElem? (i := 13) rfl)) (by decide) rfl ⟨rfl, rfl, Nat.le_of_ble_eq_true rfl, Nat.le_of_ble_eq_true rfl⟩ ⟨Nat.le_of_ble_eq_true rfl, Nat.le_of_ble_eq_true rfl⟩ rfl (Nat.le_of_ble_eq_true rfl) rfl rfl rfl (dq dkX10_even_0 32 rfl) ?_
      refine v_aload_n F (dq dkX10_even_0 33 rfl) rfl 0 rfl ?_
      refine v_get F 0 (xn (by decide)) xc_0 rfl inlX10 0 (by decide) (tc1 _ (List.mem_of_getElem? (i := 16) rfl)) rfl rfl (dq dkX10_even_0 34 rfl) ?_
      refine v_iconst F (v := 4) (dq dkX10_even_0 35 rfl) ki_4 ?_
      refine v_iload_n F (dq dkX10_even_0 36 rfl) rfl 1 rfl ?_
      obtain ⟨r4, e5, h⟩ := bd_of h
      refine v_callV 2 F (q := 1) (kc1 := 0) (ks1 := 0) (as := [.int 4, .int a1]) (st := [.int r2, .int a5, .int 1, .ref (K.1 + 48)]) (st1 := (.int r4 :: [.int r2, .int a5, .int 1, .ref (K.1 + 48)])) (res := (some (.int r4))) (c_X8_of (l := C.2.1) x y 1 4 a1 e5) (xn (by decide)) xc_1 rfl (tc14 _ (List.mem_of_getElem? (i := 10) rfl)) (tc14 _ (List.mem_of_getElem? (i := 11) rfl)) (tc14 _ (List.mem_of_getElem? (i := 12) rfl)) (tc1 _ (List.mem_of_getElem? (i := 15) rfl)) (tc14 _ (List.mem_of_getElem? (i := 13) rfl)) (by decide) rfl ⟨rfl, rfl, Nat.le_of_ble_eq_true rfl, Nat.le_of_ble_eq_true rfl⟩ ⟨Nat.le_of_ble_eq_true rfl, Nat.le_of_ble_eq_true rfl⟩ rfl (Nat.le_of_ble_eq_true rfl) rfl rfl rfl (dq dkX10_even_0 37 rfl) ?_
      obtain ⟨r6, e7, h⟩ := bd_of h
      refine v_callV 4 F (q := 48) (kc1 := 0) (ks1 := 0) (as := [.int 1, .int a5, .int r2, .int r4]) (st := []) (st1 := (.int r6.1 :: [])) (res := (some (.int r6.1))) (c_X2_asked (l := C.2.1) x y 1 a5 r2 r4 e7) (xn (by decide)) xc_48 rfl (tc20 _ (List.mem_of_getElem? (i := 15) rfl)) (tc20 _ (List.mem_of_getElem? (i := 16) rfl)) (tc20 _ (List.mem_of_getElem? (i := 17) rfl)) (tc2 _ (List.mem_of_getElem? (i := 19) rfl)) (tc20 _ (List.mem_of_getElem? (i := 18) rfl)) (by decide) rfl ⟨rfl, rfl, Nat.le_of_ble_eq_true rfl, Nat.le_of_ble_eq_true rfl⟩ ⟨Nat.le_of_ble_eq_true rfl, Nat.le_of_ble_eq_true rfl⟩ rfl (Nat.le_of_ble_eq_true rfl) rfl rfl rfl (dq dkX10_even_0 38 rfl) ?_
      refine v_istore F (ls' := [(6, .int r6.1), (0, .ref (K.1 + 0)), (1, .int a1), (2, .int a2), (3, .int a3), (4, .int a4), (5, .int a5)]) (dq dkX10_even_0 39 rfl) (by decide) rfl ?_
      refine v_iload F (dq dkX10_even_1 0 rfl) 0 rfl ?_
      refine v_iload_n F (dq dkX10_even_1 1 rfl) rfl 3 rfl ?_
      refine v_isub F (dq dkX10_even_1 2 rfl) ?_
      refine v_mabs F (tc26 _ (List.mem_of_getElem? (i := 17) rfl)) (tc26 _ (List.mem_of_getElem? (i := 18) rfl)) (tc21 _ (List.mem_of_getElem? (i := 1) rfl)) (tc26 _ (List.mem_of_getElem? (i := 19) rfl)) (Nat.le_of_ble_eq_true rfl) (Nat.le_of_ble_eq_true rfl) (Nat.le_of_ble_eq_true rfl) (Nat.le_of_ble_eq_true rfl) (dq dkX10_even_1 3 rfl) ?_
      refine v_istore F (ls' := [(7, .int (if 0 ≤ (r6.1 - a2) then (r6.1 - a2) else 0 - (r6.1 - a2))), (6, .int r6.1), (0, .ref (K.1 + 0)), (1, .int a1), (2, .int a2), (3, .int a3), (4, .int a4), (5, .int a5)]) (dq dkX10_even_1 4 rfl) (by decide) rfl ?_
      refine v_iload F (dq dkX10_even_1 5 rfl) 0 rfl ?_
      refine v_iload F (dq dkX10_even_1 6 rfl) 6 rfl ?_
      refine v_icmp_ge F (tgt := 101) (dq dkX10_even_1 7 rfl) (by decide) (fun c8 => ?_) (fun c8 => ?_)
      · rw [if_pos c8] at h
        refine v_sub [2, 3, 4, 5, 6, 7] rfl ?_
        exact t_X10_even_101 (f_X10_even_41 n) r6.2 a1 a2 a3 a4 a5 ih h F E
      · rw [if_neg c8] at h
        refine v_iload F (dq dkX10_even_1 8 rfl) 0 rfl ?_
        refine v_istore F (ls' := [(4, .int (if 0 ≤ (r6.1 - a2) then (r6.1 - a2) else 0 - (r6.1 - a2))), (7, .int (if 0 ≤ (r6.1 - a2) then (r6.1 - a2) else 0 - (r6.1 - a2))), (6, .int r6.1), (0, .ref (K.1 + 0)), (1, .int a1), (2, .int a2), (3, .int a3), (5, .int a5)]) (dq dkX10_even_1 9 rfl) (by decide) rfl ?_
        refine v_iload F (dq dkX10_even_1 10 rfl) 7 rfl ?_
        refine v_istore_n F (ls' := [(3, .int a5), (4, .int (if 0 ≤ (r6.1 - a2) then (r6.1 - a2) else 0 - (r6.1 - a2))), (7, .int (if 0 ≤ (r6.1 - a2) then (r6.1 - a2) else 0 - (r6.1 - a2))), (6, .int r6.1), (0, .ref (K.1 + 0)), (1, .int a1), (2, .int a2), (5, .int a5)]) (dq dkX10_even_1 11 rfl) rfl (by decide) rfl ?_
        refine v_sub [4, 5, 6, 0, 1, 7] rfl ?_
        exact t_X10_even_101 (f_X10_even_41 n) r6.2 a1 a2 a5 (if 0 ≤ (r6.1 - a2) then (r6.1 - a2) else 0 - (r6.1 - a2)) a5 ih h F E
def f_X10_even (x : CS) (a1 : Int32) (a2 : Int32) : Option (Int32 × CS) := if (b2i (f_X10_isSection a1)) = 0 then (some ((-5), x)) else (if (b2i (f_X10_within a2 0 999)) = 0 then (some ((-7), x)) else ((f_X2_begin x).bind fun r13 => f_X10_even_41 1000 r13 a1 a2 1 1000 1))
set_option maxRecDepth 100000 in
set_option maxHeartbeats 4000000 in
theorem c_X10_even {K : KE} {l : Launch} {R : Int32 × CS} (x : CS) (y : MS) (a1 : Int32) (a2 : Int32) (h : f_X10_even x a1 a2 = some R) : MC K l yX10_even cX10_even 8 (some .int) rm_X10_even 0 0 [.ref (K.1 + 0), .int a1, .int a2] (xf K x y) (xf K R.2 y) (some (.int R.1)) := by
  unfold f_X10_even at h
  refine mc_of (ls0 := [(0, .ref (K.1 + 0)), (1, .int a1), (2, .int a2)]) (by decide) (Nat.le_of_ble_eq_true rfl) rfl (fun C hl hnm F E => ?_)
  have F : Fx C RX10 cX10_even 8 rm_X10_even K := F
  refine v_iload_n F (dq dkX10_even_0 0 rfl) rfl 1 rfl ?_
  refine v_callS 1 F (kc1 := 0) (ks1 := 0) (as := [.int a1]) (st := []) (st1 := (.int (b2i (f_X10_isSection a1)) :: [])) (res := (some (.int (b2i (f_X10_isSection a1))))) (c_X10_isSection (l := C.2.1) a1) (tc14 _ (List.mem_of_getElem? (i := 0) rfl)) (tc14 _ (List.mem_of_getElem? (i := 1) rfl)) (tc1 _ (List.mem_of_getElem? (i := 2) rfl)) (tc14 _ (List.mem_of_getElem? (i := 2) rfl)) (by decide) rfl ⟨rfl, rfl, Nat.le_of_ble_eq_true rfl, Nat.le_of_ble_eq_true rfl⟩ ⟨Nat.le_of_ble_eq_true rfl, Nat.le_of_ble_eq_true rfl⟩ rfl (Nat.le_of_ble_eq_true rfl) rfl rfl rfl (dq dkX10_even_0 1 rfl) ?_
  refine v_if_ne F (tgt := 10) (dq dkX10_even_0 2 rfl) (by decide) (fun c10 => ?_) (fun c10 => ?_)
  · rw [if_neg c10] at h
    refine v_iload_n F (dq dkX10_even_0 5 rfl) rfl 2 rfl ?_
    refine v_iconst F (v := 0) (dq dkX10_even_0 6 rfl) ki_0 ?_
    refine v_sipush F (v := 999) (dq dkX10_even_0 7 rfl) ks_999 ?_
    refine v_callS 3 F (kc1 := 0) (ks1 := 0) (as := [.int a2, .int 0, .int 999]) (st := []) (st1 := (.int (b2i (f_X10_within a2 0 999)) :: [])) (res := (some (.int (b2i (f_X10_within a2 0 999))))) (c_X10_within (l := C.2.1) a2 0 999) (tc14 _ (List.mem_of_getElem? (i := 3) rfl)) (tc8 _ (List.mem_of_getElem? (i := 15) rfl)) (tc1 _ (List.mem_of_getElem? (i := 2) rfl)) (tc8 _ (List.mem_of_getElem? (i := 16) rfl)) (by decide) rfl ⟨rfl, rfl, Nat.le_of_ble_eq_true rfl, Nat.le_of_ble_eq_true rfl⟩ ⟨Nat.le_of_ble_eq_true rfl, Nat.le_of_ble_eq_true rfl⟩ rfl (Nat.le_of_ble_eq_true rfl) rfl rfl rfl (dq dkX10_even_0 8 rfl) ?_
    refine v_if_ne F (tgt := 24) (dq dkX10_even_0 9 rfl) (by decide) (fun c12 => ?_) (fun c12 => ?_)
    · rw [if_neg c12] at h
      refine v_aload_n F (dq dkX10_even_0 12 rfl) rfl 0 rfl ?_
      refine v_get F 0 (xn (by decide)) xc_0 rfl inlX10 7 (by decide) (tc2 _ (List.mem_of_getElem? (i := 20) rfl)) rfl rfl (dq dkX10_even_0 13 rfl) ?_
      obtain ⟨r13, e14, h⟩ := bd_of h
      refine v_callV 0 F (q := 48) (kc1 := 0) (ks1 := 0) (as := []) (st := []) (st1 := []) (res := none) (c_X2_begin (l := C.2.1) x y e14) (xn (by decide)) xc_48 rfl (tc20 _ (List.mem_of_getElem? (i := 9) rfl)) (tc20 _ (List.mem_of_getElem? (i := 10) rfl)) (tc20 _ (List.mem_of_getElem? (i := 11) rfl)) (tc2 _ (List.mem_of_getElem? (i := 19) rfl)) (tc20 _ (List.mem_of_getElem? (i := 12) rfl)) (by decide) rfl ⟨rfl, rfl, Nat.le_of_ble_eq_true rfl, Nat.le_of_ble_eq_true rfl⟩ ⟨Nat.le_of_ble_eq_true rfl, Nat.le_of_ble_eq_true rfl⟩ rfl (Nat.le_of_ble_eq_true rfl) rfl rfl rfl (dq dkX10_even_0 14 rfl) ?_
      refine v_iconst F (v := 1) (dq dkX10_even_0 15 rfl) ki_1 ?_
      refine v_istore_n F (ls' := [(3, .int 1), (0, .ref (K.1 + 0)), (1, .int a1), (2, .int a2)]) (dq dkX10_even_0 16 rfl) rfl (by decide) rfl ?_
      refine v_sipush F (v := 1000) (dq dkX10_even_0 17 rfl) ks_1000 ?_
      refine v_istore F (ls' := [(4, .int 1000), (3, .int 1), (0, .ref (K.1 + 0)), (1, .int a1), (2, .int a2)]) (dq dkX10_even_0 18 rfl) (by decide) rfl ?_
      refine v_iconst F (v := 1) (dq dkX10_even_0 19 rfl) ki_1 ?_
      refine v_istore F (ls' := [(5, .int 1), (4, .int 1000), (3, .int 1), (0, .ref (K.1 + 0)), (1, .int a1), (2, .int a2)]) (dq dkX10_even_0 20 rfl) (by decide) rfl ?_
      refine v_sub [3, 4, 5, 2, 1, 0] rfl ?_
      exact t_X10_even_41 F E 1000 r13 a1 a2 1 1000 1 h
    · rw [if_pos c12] at h
      refine v_bipush F (v := (-7)) (dq dkX10_even_0 10 rfl) kb_m7 ?_
      have h := Option.some.inj h
      subst h
      exact v_iret F E (dq dkX10_even_0 11 rfl)
  · rw [if_pos c10] at h
    refine v_bipush F (v := (-5)) (dq dkX10_even_0 3 rfl) kb_m5 ?_
    have h := Option.some.inj h
    subst h
    exact v_iret F E (dq dkX10_even_0 4 rfl)
def rm_X10_hours : Room := { frames := 5, cells := 0, slots := 0, locals := 131 }
def f_X10_hours_50 : Nat → CS → Int32 → Int32 → Int32 → Option (Int32 × CS)
  | 0, _, _, _, _ => none
  | n + 1, x, a1, a3, a4 => if 24 < a4 then (some ((-1), x)) else (gd (ib a1 9) (if a3 < (gi x 50 a1.toNatClampNeg) then ((f_X2_fire x a1).bind fun r4 => (f_X10_hours_50 n) r4 a1 a3 (a4 + 1)) else (some (a4, x))))
set_option maxRecDepth 100000 in
set_option maxHeartbeats 4000000 in
theorem t_X10_hours_50 {C : Cx} {K : KE} {y : MS} {R : Int32 × CS}  (F : Fx C RX10 cX10_hours 5 rm_X10_hours K) (E : CE C (xf K R.2 y) (some (.int R.1)) 0 0 (some .int)) : ∀ (n : Nat) (x : CS) (a1 : Int32) (a3 : Int32) (a4 : Int32) (h : f_X10_hours_50 n x a1 a3 a4 = some R), V C 50 [(0, .ref (K.1 + 0)), (1, .int a1), (3, .int a3), (4, .int a4)] [] (xf K x y) 0 0 := by
  intro n
  induction n with
  | zero => intro x a1 a3 a4 h; cases h
  | succ n ih =>
    intro x a1 a3 a4 h
    rw [f_X10_hours_50] at h
    refine v_iload F (dq dkX10_hours_0 27 rfl) 3 rfl ?_
    refine v_bipush F (v := 24) (dq dkX10_hours_0 28 rfl) kb_24 ?_
    refine v_icmp_gt F (tgt := 87) (dq dkX10_hours_0 29 rfl) (by decide) (fun c1 => ?_) (fun c1 => ?_)
    · rw [if_pos c1] at h
      refine v_iconst F (v := (-1)) (dq dkX10_hours_1 5 rfl) ki_m1 ?_
      have h := Option.some.inj h
      subst h
      exact v_iret F E (dq dkX10_hours_1 6 rfl)
    · rw [if_neg c1] at h
      refine v_aload_n F (dq dkX10_hours_0 30 rfl) rfl 0 rfl ?_
      refine v_get F 0 (xn (by decide)) xc_0 rfl inlX10 7 (by decide) (tc2 _ (List.mem_of_getElem? (i := 20) rfl)) rfl rfl (dq dkX10_hours_0 31 rfl) ?_
      refine v_getN F 48 (xn (by decide)) xc_48 rfl inlX2 3 (by decide) (List.mem_of_getElem? (i := 9) rfl) rfl rfl (dq dkX10_hours_0 32 rfl) ?_
      refine v_iload_n F (dq dkX10_hours_0 33 rfl) rfl 1 rfl ?_
      obtain ⟨g2, h⟩ := gd_of h
      refine v_iald F 50 (xn (by decide)) xc_50 (ib_in g2) (dq dkX10_hours_0 34 rfl) ?_
      refine v_iload_n F (dq dkX10_hours_0 35 rfl) rfl 2 rfl ?_
      refine v_icmp_gt F (tgt := 73) (dq dkX10_hours_0 36 rfl) (by decide) (fun c3 => ?_) (fun c3 => ?_)
      · rw [if_pos c3] at h
        refine v_aload_n F (dq dkX10_hours_0 39 rfl) rfl 0 rfl ?_
        refine v_get F 0 (xn (by decide)) xc_0 rfl inlX10 7 (by decide) (tc2 _ (List.mem_of_getElem? (i := 20) rfl)) rfl rfl (dq dkX10_hours_1 0 rfl) ?_
        refine v_iload_n F (dq dkX10_hours_1 1 rfl) rfl 1 rfl ?_
        obtain ⟨r4, e5, h⟩ := bd_of h
        refine v_callV 1 F (q := 48) (kc1 := 0) (ks1 := 0) (as := [.int a1]) (st := []) (st1 := []) (res := none) (c_X2_fire (l := C.2.1) x y a1 e5) (xn (by decide)) xc_48 rfl (tc37 _ (List.mem_of_getElem? (i := 21) rfl)) (tc25 _ (List.mem_of_getElem? (i := 20) rfl)) (tc25 _ (List.mem_of_getElem? (i := 21) rfl)) (tc2 _ (List.mem_of_getElem? (i := 19) rfl)) (tc25 _ (List.mem_of_getElem? (i := 22) rfl)) (by decide) rfl ⟨rfl, rfl, Nat.le_of_ble_eq_true rfl, Nat.le_of_ble_eq_true rfl⟩ ⟨Nat.le_of_ble_eq_true rfl, Nat.le_of_ble_eq_true rfl⟩ rfl (Nat.le_of_ble_eq_true rfl) rfl rfl rfl (dq dkX10_hours_1 2 rfl) ?_
        refine v_iinc F (v := a4 + 1) (ls' := [(4, .int (a4 + 1)), (0, .ref (K.1 + 0)), (1, .int a1), (3, .int a3)]) (dq dkX10_hours_1 3 rfl) (j := 3) rfl (kv_add ki_1) (by decide) rfl ?_
        refine v_goto F (tgt := 50) (dq dkX10_hours_1 4 rfl) (by decide) ?_
        refine v_sub [1, 2, 3, 0] rfl ?_
        exact ih r4 a1 a3 (a4 + 1) h
      · rw [if_neg c3] at h
        refine v_iload F (dq dkX10_hours_0 37 rfl) 3 rfl ?_
        have h := Option.some.inj h
        subst h
        exact v_iret F E (dq dkX10_hours_0 38 rfl)
def f_X10_hours_39 (x : CS) (a1 : Int32) (s0 : Int32) : Option (Int32 × CS) := (f_X2_begin x).bind fun r6 => f_X10_hours_50 1000 r6 a1 s0 0
set_option maxRecDepth 100000 in
set_option maxHeartbeats 4000000 in
theorem t_X10_hours_39 {C : Cx} {K : KE} {y : MS} {R : Int32 × CS}  (x : CS) (a1 : Int32) (s0 : Int32) (h : f_X10_hours_39 x a1 s0 = some R) (F : Fx C RX10 cX10_hours 5 rm_X10_hours K) (E : CE C (xf K R.2 y) (some (.int R.1)) 0 0 (some .int)) : V C 39 [(0, .ref (K.1 + 0)), (1, .int a1)] [.int s0] (xf K x y) 0 0 := by
  unfold f_X10_hours_39 at h
  refine v_istore_n F (ls' := [(3, .int s0), (0, .ref (K.1 + 0)), (1, .int a1)]) (dq dkX10_hours_0 21 rfl) rfl (by decide) rfl ?_
  refine v_aload_n F (dq dkX10_hours_0 22 rfl) rfl 1 rfl ?_
  refine v_get F 0 (xn (by decide)) xc_0 rfl inlX10 7 (by decide) (tc2 _ (List.mem_of_getElem? (i := 20) rfl)) rfl rfl (dq dkX10_hours_0 23 rfl) ?_
  obtain ⟨r6, e7, h⟩ := bd_of h
  refine v_callV 0 F (q := 48) (kc1 := 0) (ks1 := 0) (as := []) (st := []) (st1 := []) (res := none) (c_X2_begin (l := C.2.1) x y e7) (xn (by decide)) xc_48 rfl (tc20 _ (List.mem_of_getElem? (i := 9) rfl)) (tc20 _ (List.mem_of_getElem? (i := 10) rfl)) (tc20 _ (List.mem_of_getElem? (i := 11) rfl)) (tc2 _ (List.mem_of_getElem? (i := 19) rfl)) (tc20 _ (List.mem_of_getElem? (i := 12) rfl)) (by decide) rfl ⟨rfl, rfl, Nat.le_of_ble_eq_true rfl, Nat.le_of_ble_eq_true rfl⟩ ⟨Nat.le_of_ble_eq_true rfl, Nat.le_of_ble_eq_true rfl⟩ rfl (Nat.le_of_ble_eq_true rfl) rfl rfl rfl (dq dkX10_hours_0 24 rfl) ?_
  refine v_iconst F (v := 0) (dq dkX10_hours_0 25 rfl) ki_0 ?_
  refine v_istore F (ls' := [(4, .int 0), (3, .int s0), (0, .ref (K.1 + 0)), (1, .int a1)]) (dq dkX10_hours_0 26 rfl) (by decide) rfl ?_
  refine v_sub [2, 3, 1, 0] rfl ?_
  exact t_X10_hours_50 F E 1000 r6 a1 s0 0 h
def f_X10_hours (x : CS) (a1 : Int32) (a2 : Int32) : Option (Int32 × CS) := if (b2i (f_X10_isSection a1)) = 0 then (some ((-5), x)) else (if (b2i (f_X10_within a2 0 1)) = 0 then (some ((-7), x)) else (if a2 = 0 then ((f_X8_of x 1 5 a1).bind fun r13 => f_X10_hours_39 x a1 r13) else (f_X10_hours_39 x a1 0)))
set_option maxRecDepth 100000 in
set_option maxHeartbeats 4000000 in
theorem c_X10_hours {K : KE} {l : Launch} {R : Int32 × CS} (x : CS) (y : MS) (a1 : Int32) (a2 : Int32) (h : f_X10_hours x a1 a2 = some R) : MC K l yX10_hours cX10_hours 5 (some .int) rm_X10_hours 0 0 [.ref (K.1 + 0), .int a1, .int a2] (xf K x y) (xf K R.2 y) (some (.int R.1)) := by
  unfold f_X10_hours at h
  refine mc_of (ls0 := [(0, .ref (K.1 + 0)), (1, .int a1), (2, .int a2)]) (by decide) (Nat.le_of_ble_eq_true rfl) rfl (fun C hl hnm F E => ?_)
  have F : Fx C RX10 cX10_hours 5 rm_X10_hours K := F
  refine v_iload_n F (dq dkX10_hours_0 0 rfl) rfl 1 rfl ?_
  refine v_callS 1 F (kc1 := 0) (ks1 := 0) (as := [.int a1]) (st := []) (st1 := (.int (b2i (f_X10_isSection a1)) :: [])) (res := (some (.int (b2i (f_X10_isSection a1))))) (c_X10_isSection (l := C.2.1) a1) (tc14 _ (List.mem_of_getElem? (i := 0) rfl)) (tc14 _ (List.mem_of_getElem? (i := 1) rfl)) (tc1 _ (List.mem_of_getElem? (i := 2) rfl)) (tc14 _ (List.mem_of_getElem? (i := 2) rfl)) (by decide) rfl ⟨rfl, rfl, Nat.le_of_ble_eq_true rfl, Nat.le_of_ble_eq_true rfl⟩ ⟨Nat.le_of_ble_eq_true rfl, Nat.le_of_ble_eq_true rfl⟩ rfl (Nat.le_of_ble_eq_true rfl) rfl rfl rfl (dq dkX10_hours_0 1 rfl) ?_
  refine v_if_ne F (tgt := 10) (dq dkX10_hours_0 2 rfl) (by decide) (fun c9 => ?_) (fun c9 => ?_)
  · rw [if_neg c9] at h
    refine v_iload_n F (dq dkX10_hours_0 5 rfl) rfl 2 rfl ?_
    refine v_iconst F (v := 0) (dq dkX10_hours_0 6 rfl) ki_0 ?_
    refine v_iconst F (v := 1) (dq dkX10_hours_0 7 rfl) ki_1 ?_
    refine v_callS 3 F (kc1 := 0) (ks1 := 0) (as := [.int a2, .int 0, .int 1]) (st := []) (st1 := (.int (b2i (f_X10_within a2 0 1)) :: [])) (res := (some (.int (b2i (f_X10_within a2 0 1))))) (c_X10_within (l := C.2.1) a2 0 1) (tc14 _ (List.mem_of_getElem? (i := 3) rfl)) (tc8 _ (List.mem_of_getElem? (i := 15) rfl)) (tc1 _ (List.mem_of_getElem? (i := 2) rfl)) (tc8 _ (List.mem_of_getElem? (i := 16) rfl)) (by decide) rfl ⟨rfl, rfl, Nat.le_of_ble_eq_true rfl, Nat.le_of_ble_eq_true rfl⟩ ⟨Nat.le_of_ble_eq_true rfl, Nat.le_of_ble_eq_true rfl⟩ rfl (Nat.le_of_ble_eq_true rfl) rfl rfl rfl (dq dkX10_hours_0 8 rfl) ?_
    refine v_if_ne F (tgt := 22) (dq dkX10_hours_0 9 rfl) (by decide) (fun c11 => ?_) (fun c11 => ?_)
    · rw [if_neg c11] at h
      refine v_iload_n F (dq dkX10_hours_0 12 rfl) rfl 2 rfl ?_
      refine v_if_ne F (tgt := 38) (dq dkX10_hours_0 13 rfl) (by decide) (fun c12 => ?_) (fun c12 => ?_)
      · rw [if_neg c12] at h
        refine v_iconst F (v := 0) (dq dkX10_hours_0 20 rfl) ki_0 ?_
        refine v_sub [0, 1] rfl ?_
        exact t_X10_hours_39 x a1 0 h F E
      · rw [if_pos c12] at h
        refine v_aload_n F (dq dkX10_hours_0 14 rfl) rfl 0 rfl ?_
        refine v_get F 0 (xn (by decide)) xc_0 rfl inlX10 0 (by decide) (tc1 _ (List.mem_of_getElem? (i := 16) rfl)) rfl rfl (dq dkX10_hours_0 15 rfl) ?_
        refine v_iconst F (v := 5) (dq dkX10_hours_0 16 rfl) ki_5 ?_
        refine v_iload_n F (dq dkX10_hours_0 17 rfl) rfl 1 rfl ?_
        obtain ⟨r13, e14, h⟩ := bd_of h
        refine v_callV 2 F (q := 1) (kc1 := 0) (ks1 := 0) (as := [.int 5, .int a1]) (st := []) (st1 := (.int r13 :: [])) (res := (some (.int r13))) (c_X8_of (l := C.2.1) x y 1 5 a1 e14) (xn (by decide)) xc_1 rfl (tc14 _ (List.mem_of_getElem? (i := 10) rfl)) (tc14 _ (List.mem_of_getElem? (i := 11) rfl)) (tc14 _ (List.mem_of_getElem? (i := 12) rfl)) (tc1 _ (List.mem_of_getElem? (i := 15) rfl)) (tc14 _ (List.mem_of_getElem? (i := 13) rfl)) (by decide) rfl ⟨rfl, rfl, Nat.le_of_ble_eq_true rfl, Nat.le_of_ble_eq_true rfl⟩ ⟨Nat.le_of_ble_eq_true rfl, Nat.le_of_ble_eq_true rfl⟩ rfl (Nat.le_of_ble_eq_true rfl) rfl rfl rfl (dq dkX10_hours_0 18 rfl) ?_
        refine v_goto F (tgt := 39) (dq dkX10_hours_0 19 rfl) (by decide) ?_
        refine v_sub [0, 1] rfl ?_
        exact t_X10_hours_39 x a1 r13 h F E
    · rw [if_pos c11] at h
      refine v_bipush F (v := (-7)) (dq dkX10_hours_0 10 rfl) kb_m7 ?_
      have h := Option.some.inj h
      subst h
      exact v_iret F E (dq dkX10_hours_0 11 rfl)
  · rw [if_pos c9] at h
    refine v_bipush F (v := (-5)) (dq dkX10_hours_0 3 rfl) kb_m5 ?_
    have h := Option.some.inj h
    subst h
    exact v_iret F E (dq dkX10_hours_0 4 rfl)
def rm_X10_left : Room := { frames := 6, cells := 12, slots := 24, locals := 155 }
def f_X10_left_17 (x : CS) : Option (Int64 × CS) := some ((-4611686018427387904), x)
set_option maxRecDepth 100000 in
set_option maxHeartbeats 4000000 in
theorem t_X10_left_17 {C : Cx} {K : KE} {y : MS} {R : Int64 × CS}  (x : CS) (kc ks : Nat) (hkc : kc + (0) ≤ 12) (hks : ks + (0) ≤ 24) (h : f_X10_left_17 x = some R) (F : Fx C RX10 cX10_left 6 rm_X10_left K) (E : CE C (xf K R.2 y) (some (.long R.1)) 12 24 (some .long)) : V C 17 [] [] (xf K x y) kc ks := by
  unfold f_X10_left_17 at h
  refine v_ldc2 F (v := (-4611686018427387904)) (tc32 _ (List.mem_of_getElem? (i := 11) rfl)) (dq dkX10_left_0 8 rfl) ?_
  have h := Option.some.inj h
  subst h
  refine v_wide (kc' := 12) (ks1 := 24) (by omega) (by omega) ?_
  exact v_lret F E (dq dkX10_left_0 9 rfl)
def f_X10_left_84 (k27 : CS → Int32 → Int32 → Int32 → Int32 → Int32 → Option (Int64 × CS)) (x : CS) (a1 : Int32) (a2 : Int32) (a3 : Int32) (a4 : Int32) (a5 : Int32) : Option (Int64 × CS) := k27 x a1 a2 a3 a4 (a5 + 1)
set_option maxRecDepth 100000 in
set_option maxHeartbeats 4000000 in
theorem t_X10_left_84 {C : Cx} {K : KE} {y : MS} {R : Int64 × CS}  (k27 : CS → Int32 → Int32 → Int32 → Int32 → Int32 → Option (Int64 × CS)) (x : CS) (a1 : Int32) (a2 : Int32) (a3 : Int32) (a4 : Int32) (a5 : Int32) (Ak27 Bk27 : Nat) (hk27 : ∀ (x : CS) (a1 : Int32) (a2 : Int32) (a3 : Int32) (a4 : Int32) (a5 : Int32) (kc ks : Nat), kc + Ak27 ≤ 12 → ks + Bk27 ≤ 24 → k27 x a1 a2 a3 a4 a5 = some R → V C 27 [(0, .ref (K.1 + 0)), (1, .int a1), (2, .int a2), (3, .int a3), (4, .int a4), (5, .int a5)] [] (xf K x y) kc ks) (kc ks : Nat) (hkc : kc + (0 + Ak27) ≤ 12) (hks : ks + (0 + Bk27) ≤ 24) (h : f_X10_left_84 k27 x a1 a2 a3 a4 a5 = some R) (F : Fx C RX10 cX10_left 6 rm_X10_left K) (E : CE C (xf K R.2 y) (some (.long R.1)) 12 24 (some .long)) : V C 84 [(0, .ref (K.1 + 0)), (1, .int a1), (2, .int a2), (3, .int a3), (4, .int a4), (5, .int a5)] [] (xf K x y) kc ks := by
  unfold f_X10_left_84 at h
  refine v_iinc F (v := a5 + 1) (ls' := [(5, .int (a5 + 1)), (0, .ref (K.1 + 0)), (1, .int a1), (2, .int a2), (3, .int a3), (4, .int a4)]) (dq dkX10_left_1 2 rfl) (j := 5) rfl (kv_add ki_1) (by decide) rfl ?_
  refine v_goto F (tgt := 27) (dq dkX10_left_1 3 rfl) (by decide) ?_
  refine v_sub [1, 2, 3, 4, 5, 0] rfl ?_
  exact hk27 x a1 a2 a3 a4 (a5 + 1) (kc) (ks) (by omega) (by omega) h
def f_X10_left_27 : Nat → CS → Int32 → Int32 → Int32 → Int32 → Int32 → Option (Int64 × CS)
  | 0, _, _, _, _, _, _ => none
  | n + 1, x, a1, a2, a3, a4, a5 => if 9 < a5 then (gd (decide (27 ≤ gn x)) ((f_X0_init (pal x (3, fun _ => 0, fun _ => 0)) (61 + gn x) a4.toInt64 10).bind fun r3 => (f_X0_part r3 (61 + gn x) a3).bind fun r5 => some (r5, r3))) else ((f_X2_begin x).bind fun r7 => (f_X2_blow r7 a5).bind fun r9 => (f_X2_burn r9 a1 a2 0).bind fun r11 => gd (ib a1 9) ((f_X8_of r11 1 5 a1).bind fun r14 => if (gi r11 50 a1.toNatClampNeg) < r14 then (f_X10_left_84 (f_X10_left_27 n) r11 a1 a2 a3 a4 a5) else (f_X10_left_84 (f_X10_left_27 n) r11 a1 a2 a3 (a4 + 1) a5)))
set_option maxRecDepth 100000 in
set_option maxHeartbeats 4000000 in
theorem t_X10_left_27 {C : Cx} {K : KE} {y : MS} {R : Int64 × CS}  (F : Fx C RX10 cX10_left 6 rm_X10_left K) (E : CE C (xf K R.2 y) (some (.long R.1)) 12 24 (some .long)) : ∀ (n : Nat) (x : CS) (a1 : Int32) (a2 : Int32) (a3 : Int32) (a4 : Int32) (a5 : Int32) (kc ks : Nat) (hkc : kc + ((1 * n + 1)) ≤ 12) (hks : ks + ((2 * n + 2)) ≤ 24) (h : f_X10_left_27 n x a1 a2 a3 a4 a5 = some R), V C 27 [(0, .ref (K.1 + 0)), (1, .int a1), (2, .int a2), (3, .int a3), (4, .int a4), (5, .int a5)] [] (xf K x y) kc ks := by
  intro n
  induction n with
  | zero => intro x a1 a2 a3 a4 a5 kc ks hkc hks h; cases h
  | succ n ih =>
    intro x a1 a2 a3 a4 a5 kc ks hkc hks h
    rw [f_X10_left_27] at h
    refine v_iload F (dq dkX10_left_0 14 rfl) 5 rfl ?_
    refine v_bipush F (v := 9) (dq dkX10_left_0 15 rfl) kb_9 ?_
    refine v_icmp_gt F (tgt := 90) (dq dkX10_left_0 16 rfl) (by decide) (fun c1 => ?_) (fun c1 => ?_)
    · rw [if_pos c1] at h
      obtain ⟨g2, h⟩ := gd_of h
      refine v_new (ci := 0) (fs := [.long 0, .long 0]) (kc1 := kc + 1) (ks1 := ks + 2) F rfl inlX0 tyX0_ok (tc32 _ (List.mem_of_getElem? (i := 12) rfl)) (tc32 _ (List.mem_of_getElem? (i := 13) rfl)) (tc32 _ (List.mem_of_getElem? (i := 14) rfl)) (fun j hj => by rcases (show j = 0 ∨ j = 1 by omega) with rfl | rfl <;> rfl) (by show kc + 1 ≤ 12; omega) (by show ks + 2 ≤ 24; omega) rfl rfl (dq dkX10_left_1 4 rfl) ?_
      refine v_eqM (xwP (of_decide_eq_true g2) (d := (3, fun _ => 0, fun _ => 0)) rfl) ?_
      refine v_dup F (dq dkX10_left_1 5 rfl) rfl ?_
      refine v_iload F (dq dkX10_left_1 6 rfl) 4 rfl ?_
      refine v_i2l F (dq dkX10_left_1 7 rfl) ?_
      refine v_ldc2 F (v := 10) (tc38 _ (List.mem_of_getElem? (i := 10) rfl)) (dq dkX10_left_1 8 rfl) ?_
      obtain ⟨r3, e4, h⟩ := bd_of h
      refine v_callI 2 F (q := 61 + gn x) (as := [.long a4.toInt64, .long 10]) (st := [.ref (K.1 + (61 + gn x))]) (kc1 := kc + 1) (ks1 := ks + 2) (c_X0_init (l := C.2.1) (pal x (3, fun _ => 0, fun _ => 0)) y (61 + gn x) a4.toInt64 10 e4) (tc32 _ (List.mem_of_getElem? (i := 23) rfl)) (tc33 _ (List.mem_of_getElem? (i := 0) rfl)) (tc32 _ (List.mem_of_getElem? (i := 14) rfl)) (tc33 _ (List.mem_of_getElem? (i := 1) rfl)) rfl (by decide) rfl ⟨rfl, rfl, Nat.le_of_ble_eq_true rfl, Nat.le_of_ble_eq_true rfl⟩ ⟨by show kc + 1 + 0 ≤ 12; omega, by show ks + 2 + 0 ≤ 24; omega⟩ rfl (Nat.le_of_ble_eq_true rfl) rfl rfl (dq dkX10_left_1 9 rfl) ?_
      refine v_iload_n F (dq dkX10_left_1 10 rfl) rfl 3 rfl ?_
      obtain ⟨r5, e6, h⟩ := bd_of h
      refine v_callV 1 F (q := 61 + gn x) (kc1 := kc + 1) (ks1 := ks + 2) (as := [.int a3]) (st := []) (st1 := (.long r5 :: [])) (res := (some (.long r5))) (c_X0_part (l := C.2.1) r3 y (61 + gn x) a3 e6) (kFr_lt (f_X0_part_k e6)) (kFr_at (f_X0_part_k e6)) rfl (tc33 _ (List.mem_of_getElem? (i := 8) rfl)) (tc33 _ (List.mem_of_getElem? (i := 9) rfl)) (tc33 _ (List.mem_of_getElem? (i := 10) rfl)) (tc32 _ (List.mem_of_getElem? (i := 14) rfl)) (tc33 _ (List.mem_of_getElem? (i := 11) rfl)) (by decide) rfl ⟨rfl, rfl, Nat.le_of_ble_eq_true rfl, Nat.le_of_ble_eq_true rfl⟩ ⟨by show kc + 1 + 0 ≤ 12; omega, by show ks + 2 + 0 ≤ 24; omega⟩ rfl (Nat.le_of_ble_eq_true rfl) rfl rfl rfl (dq dkX10_left_1 11 rfl) ?_
      have h := Option.some.inj h
      subst h
      refine v_wide (kc' := 12) (ks1 := 24) (by omega) (by omega) ?_
      exact v_lret F E (dq dkX10_left_1 12 rfl)
    · rw [if_neg c1] at h
      refine v_aload_n F (dq dkX10_left_0 17 rfl) rfl 0 rfl ?_
      refine v_get F 0 (xn (by decide)) xc_0 rfl inlX10 7 (by decide) (tc2 _ (List.mem_of_getElem? (i := 20) rfl)) rfl rfl (dq dkX10_left_0 18 rfl) ?_
      obtain ⟨r7, e8, h⟩ := bd_of h
      refine v_callV 0 F (q := 48) (kc1 := kc) (ks1 := ks) (as := []) (st := []) (st1 := []) (res := none) (c_X2_begin (l := C.2.1) x y e8) (xn (by decide)) xc_48 rfl (tc20 _ (List.mem_of_getElem? (i := 9) rfl)) (tc20 _ (List.mem_of_getElem? (i := 10) rfl)) (tc20 _ (List.mem_of_getElem? (i := 11) rfl)) (tc2 _ (List.mem_of_getElem? (i := 19) rfl)) (tc20 _ (List.mem_of_getElem? (i := 12) rfl)) (by decide) rfl ⟨rfl, rfl, Nat.le_of_ble_eq_true rfl, Nat.le_of_ble_eq_true rfl⟩ ⟨by show kc + 0 ≤ 12; omega, by show ks + 0 ≤ 24; omega⟩ rfl (Nat.le_of_ble_eq_true rfl) rfl rfl rfl (dq dkX10_left_0 19 rfl) ?_
      refine v_aload_n F (dq dkX10_left_0 20 rfl) rfl 0 rfl ?_
      refine v_get F 0 (xn (by decide)) xc_0 rfl inlX10 7 (by decide) (tc2 _ (List.mem_of_getElem? (i := 20) rfl)) rfl rfl (dq dkX10_left_0 21 rfl) ?_
      refine v_iload F (dq dkX10_left_0 22 rfl) 5 rfl ?_
      obtain ⟨r9, e10, h⟩ := bd_of h
      refine v_callV 1 F (q := 48) (kc1 := kc) (ks1 := ks) (as := [.int a5]) (st := []) (st1 := []) (res := none) (c_X2_blow (l := C.2.1) r7 y a5 e10) (xn (by decide)) xc_48 rfl (tc38 _ (List.mem_of_getElem? (i := 11) rfl)) (tc38 _ (List.mem_of_getElem? (i := 12) rfl)) (tc38 _ (List.mem_of_getElem? (i := 13) rfl)) (tc2 _ (List.mem_of_getElem? (i := 19) rfl)) (tc38 _ (List.mem_of_getElem? (i := 14) rfl)) (by decide) rfl ⟨rfl, rfl, Nat.le_of_ble_eq_true rfl, Nat.le_of_ble_eq_true rfl⟩ ⟨by show kc + 0 ≤ 12; omega, by show ks + 0 ≤ 24; omega⟩ rfl (Nat.le_of_ble_eq_true rfl) rfl rfl rfl (dq dkX10_left_0 23 rfl) ?_
      refine v_aload_n F (dq dkX10_left_0 24 rfl) rfl 0 rfl ?_
      refine v_get F 0 (xn (by decide)) xc_0 rfl inlX10 7 (by decide) (tc2 _ (List.mem_of_getElem? (i := 20) rfl)) rfl rfl (dq dkX10_left_0 25 rfl) ?_
      refine v_iload_n F (dq dkX10_left_0 26 rfl) rfl 1 rfl ?_
      refine v_iload_n F (dq dkX10_left_0 27 rfl) rfl 2 rfl ?_
      refine v_iconst F (v := 0) (dq dkX10_left_0 28 rfl) ki_0 ?_
      obtain ⟨r11, e12, h⟩ := bd_of h
      refine v_callV 3 F (q := 48) (kc1 := kc) (ks1 := ks) (as := [.int a1, .int a2, .int 0]) (st := []) (st1 := []) (res := none) (c_X2_burn (l := C.2.1) r9 y a1 a2 0 e12) (xn (by decide)) xc_48 rfl (tc38 _ (List.mem_of_getElem? (i := 15) rfl)) (tc25 _ (List.mem_of_getElem? (i := 16) rfl)) (tc25 _ (List.mem_of_getElem? (i := 17) rfl)) (tc2 _ (List.mem_of_getElem? (i := 19) rfl)) (tc25 _ (List.mem_of_getElem? (i := 18) rfl)) (by decide) rfl ⟨rfl, rfl, Nat.le_of_ble_eq_true rfl, Nat.le_of_ble_eq_true rfl⟩ ⟨by show kc + 0 ≤ 12; omega, by show ks + 0 ≤ 24; omega⟩ rfl (Nat.le_of_ble_eq_true rfl) rfl rfl rfl (dq dkX10_left_0 29 rfl) ?_
      refine v_aload_n F (dq dkX10_left_0 30 rfl) rfl 0 rfl ?_
      refine v_get F 0 (xn (by decide)) xc_0 rfl inlX10 7 (by decide) (tc2 _ (List.mem_of_getElem? (i := 20) rfl)) rfl rfl (dq dkX10_left_0 31 rfl) ?_
      refine v_getN F 48 (xn (by decide)) xc_48 rfl inlX2 3 (by decide) (List.mem_of_getElem? (i := 9) rfl) rfl rfl (dq dkX10_left_0 32 rfl) ?_
      refine v_iload_n F (dq dkX10_left_0 33 rfl) rfl 1 rfl ?_
      obtain ⟨g13, h⟩ := gd_of h
      refine v_iald F 50 (xn (by decide)) xc_50 (ib_in g13) (dq dkX10_left_0 34 rfl) ?_
      refine v_aload_n F (dq dkX10_left_0 35 rfl) rfl 0 rfl ?_
      refine v_get F 0 (xn (by decide)) xc_0 rfl inlX10 0 (by decide) (tc1 _ (List.mem_of_getElem? (i := 16) rfl)) rfl rfl (dq dkX10_left_0 36 rfl) ?_
      refine v_iconst F (v := 5) (dq dkX10_left_0 37 rfl) ki_5 ?_
      refine v_iload_n F (dq dkX10_left_0 38 rfl) rfl 1 rfl ?_
      obtain ⟨r14, e15, h⟩ := bd_of h
      refine v_callV 2 F (q := 1) (kc1 := kc) (ks1 := ks) (as := [.int 5, .int a1]) (st := [.int (gi r11 50 a1.toNatClampNeg)]) (st1 := (.int r14 :: [.int (gi r11 50 a1.toNatClampNeg)])) (res := (some (.int r14))) (c_X8_of (l := C.2.1) r11 y 1 5 a1 e15) (xn (by decide)) xc_1 rfl (tc14 _ (List.mem_of_getElem? (i := 10) rfl)) (tc14 _ (List.mem_of_getElem? (i := 11) rfl)) (tc14 _ (List.mem_of_getElem? (i := 12) rfl)) (tc1 _ (List.mem_of_getElem? (i := 15) rfl)) (tc14 _ (List.mem_of_getElem? (i := 13) rfl)) (by decide) rfl ⟨rfl, rfl, Nat.le_of_ble_eq_true rfl, Nat.le_of_ble_eq_true rfl⟩ ⟨by show kc + 0 ≤ 12; omega, by show ks + 0 ≤ 24; omega⟩ rfl (Nat.le_of_ble_eq_true rfl) rfl rfl rfl (dq dkX10_left_0 39 rfl) ?_
      refine v_icmp_lt F (tgt := 84) (dq dkX10_left_1 0 rfl) (by decide) (fun c16 => ?_) (fun c16 => ?_)
      · rw [if_pos c16] at h
        exact t_X10_left_84 (f_X10_left_27 n) r11 a1 a2 a3 a4 a5 (1 * n + 1) (2 * n + 2) ih (kc) (ks) (by omega) (by omega) h F E
      · rw [if_neg c16] at h
        refine v_iinc F (v := a4 + 1) (ls' := [(4, .int (a4 + 1)), (0, .ref (K.1 + 0)), (1, .int a1), (2, .int a2), (3, .int a3), (5, .int a5)]) (dq dkX10_left_1 1 rfl) (j := 4) rfl (kv_add ki_1) (by decide) rfl ?_
        refine v_sub [1, 2, 3, 4, 0, 5] rfl ?_
        exact t_X10_left_84 (f_X10_left_27 n) r11 a1 a2 a3 (a4 + 1) a5 (1 * n + 1) (2 * n + 2) ih (kc) (ks) (by omega) (by omega) h F E
def f_X10_left (x : CS) (a1 : Int32) (a2 : Int32) (a3 : Int32) : Option (Int64 × CS) := if (b2i (f_X10_isSection a1)) = 0 then (f_X10_left_17 x) else (if (b2i (f_X10_within a2 0 24)) = 0 then (f_X10_left_17 x) else (f_X10_left_27 11 x a1 a2 a3 0 0))
set_option maxRecDepth 100000 in
set_option maxHeartbeats 4000000 in
theorem c_X10_left {K : KE} {l : Launch} {R : Int64 × CS} (x : CS) (y : MS) (a1 : Int32) (a2 : Int32) (a3 : Int32) (h : f_X10_left x a1 a2 a3 = some R) : MC K l yX10_left cX10_left 6 (some .long) rm_X10_left 12 24 [.ref (K.1 + 0), .int a1, .int a2, .int a3] (xf K x y) (xf K R.2 y) (some (.long R.1)) := by
  unfold f_X10_left at h
  refine mc_of (ls0 := [(0, .ref (K.1 + 0)), (1, .int a1), (2, .int a2), (3, .int a3)]) (by decide) (Nat.le_of_ble_eq_true rfl) rfl (fun C hl hnm F E => ?_)
  have F : Fx C RX10 cX10_left 6 rm_X10_left K := F
  refine v_iload_n F (dq dkX10_left_0 0 rfl) rfl 1 rfl ?_
  refine v_callS 1 F (kc1 := 0) (ks1 := 0) (as := [.int a1]) (st := []) (st1 := (.int (b2i (f_X10_isSection a1)) :: [])) (res := (some (.int (b2i (f_X10_isSection a1))))) (c_X10_isSection (l := C.2.1) a1) (tc14 _ (List.mem_of_getElem? (i := 0) rfl)) (tc14 _ (List.mem_of_getElem? (i := 1) rfl)) (tc1 _ (List.mem_of_getElem? (i := 2) rfl)) (tc14 _ (List.mem_of_getElem? (i := 2) rfl)) (by decide) rfl ⟨rfl, rfl, Nat.le_of_ble_eq_true rfl, Nat.le_of_ble_eq_true rfl⟩ ⟨by show 0 + 0 ≤ 12; omega, by show 0 + 0 ≤ 24; omega⟩ rfl (Nat.le_of_ble_eq_true rfl) rfl rfl rfl (dq dkX10_left_0 1 rfl) ?_
  refine v_if_eq F (tgt := 17) (dq dkX10_left_0 2 rfl) (by decide) (fun c18 => ?_) (fun c18 => ?_)
  · rw [if_pos c18] at h
    refine v_sub [] rfl ?_
    exact t_X10_left_17 x (0) (0) (by omega) (by omega) h F E
  · rw [if_neg c18] at h
    refine v_iload_n F (dq dkX10_left_0 3 rfl) rfl 2 rfl ?_
    refine v_iconst F (v := 0) (dq dkX10_left_0 4 rfl) ki_0 ?_
    refine v_bipush F (v := 24) (dq dkX10_left_0 5 rfl) kb_24 ?_
    refine v_callS 3 F (kc1 := 0) (ks1 := 0) (as := [.int a2, .int 0, .int 24]) (st := []) (st1 := (.int (b2i (f_X10_within a2 0 24)) :: [])) (res := (some (.int (b2i (f_X10_within a2 0 24))))) (c_X10_within (l := C.2.1) a2 0 24) (tc14 _ (List.mem_of_getElem? (i := 3) rfl)) (tc8 _ (List.mem_of_getElem? (i := 15) rfl)) (tc1 _ (List.mem_of_getElem? (i := 2) rfl)) (tc8 _ (List.mem_of_getElem? (i := 16) rfl)) (by decide) rfl ⟨rfl, rfl, Nat.le_of_ble_eq_true rfl, Nat.le_of_ble_eq_true rfl⟩ ⟨by show 0 + 0 ≤ 12; omega, by show 0 + 0 ≤ 24; omega⟩ rfl (Nat.le_of_ble_eq_true rfl) rfl rfl rfl (dq dkX10_left_0 6 rfl) ?_
    refine v_if_ne F (tgt := 21) (dq dkX10_left_0 7 rfl) (by decide) (fun c20 => ?_) (fun c20 => ?_)
    · rw [if_neg c20] at h
      refine v_iconst F (v := 0) (dq dkX10_left_0 10 rfl) ki_0 ?_
      refine v_istore F (ls' := [(4, .int 0), (0, .ref (K.1 + 0)), (1, .int a1), (2, .int a2), (3, .int a3)]) (dq dkX10_left_0 11 rfl) (by decide) rfl ?_
      refine v_iconst F (v := 0) (dq dkX10_left_0 12 rfl) ki_0 ?_
      refine v_istore F (ls' := [(5, .int 0), (4, .int 0), (0, .ref (K.1 + 0)), (1, .int a1), (2, .int a2), (3, .int a3)]) (dq dkX10_left_0 13 rfl) (by decide) rfl ?_
      refine v_sub [2, 3, 4, 5, 1, 0] rfl ?_
      exact t_X10_left_27 F E 11 x a1 a2 a3 0 0 (0) (0) (by omega) (by omega) h
    · rw [if_pos c20] at h
      refine v_sub [] rfl ?_
      exact t_X10_left_17 x (0) (0) (by omega) (by omega) h F E
def rm_X10_judge : Room := { frames := 8, cells := 0, slots := 0, locals := 205 }
def f_X10_judge_28 (x : CS) (a3 : Option Nat) : Option (Int32 × CS) := oc a3 ((f_X10_refusalFor none).bind fun r1 => some (r1, x)) (fun za3 => (f_X10_refusalFor (some za3)).bind fun r3 => some (r3, x))
set_option maxRecDepth 100000 in
set_option maxHeartbeats 4000000 in
theorem t_X10_judge_28 {C : Cx} {K : KE} {y : MS} {R : Int32 × CS}  (x : CS) (a3 : Option Nat) (h : f_X10_judge_28 x a3 = some R) (F : Fx C RX10 cX10_judge 5 rm_X10_judge K) (E : CE C (xf K R.2 y) (some (.int R.1)) 0 0 (some .int)) : V C 28 [(3, va_rf (a3.map (fun q => K.1 + q)))] [] (xf K x y) 0 0 := by
  unfold f_X10_judge_28 at h
  rcases a3 with _ | za3
  · have h := oc_nh h
    refine v_aload_nN F (dq dkX10_judge_0 15 rfl) rfl 0 rfl ?_
    obtain ⟨r1, e2, h⟩ := bd_of h
    refine v_callS 1 F (kc1 := 0) (ks1 := 0) (as := [.null]) (st := []) (st1 := (.int r1 :: [])) (res := (some (.int r1))) (c_X10_refusalFor (l := C.2.1) none e2) (tc35 _ (List.mem_of_getElem? (i := 4) rfl)) (tc35 _ (List.mem_of_getElem? (i := 5) rfl)) (tc1 _ (List.mem_of_getElem? (i := 2) rfl)) (tc35 _ (List.mem_of_getElem? (i := 6) rfl)) (by decide) rfl ⟨rfl, rfl, Nat.le_of_ble_eq_true rfl, Nat.le_of_ble_eq_true rfl⟩ ⟨Nat.le_of_ble_eq_true rfl, Nat.le_of_ble_eq_true rfl⟩ rfl (Nat.le_of_ble_eq_true rfl) rfl rfl rfl (dq dkX10_judge_0 16 rfl) ?_
    have h := Option.some.inj h
    subst h
    exact v_iret F E (dq dkX10_judge_0 17 rfl)
  · have h := oc_sh h
    refine v_aload_n F (dq dkX10_judge_0 15 rfl) rfl 0 rfl ?_
    obtain ⟨r3, e4, h⟩ := bd_of h
    refine v_callS 1 F (kc1 := 0) (ks1 := 0) (as := [.ref (K.1 + za3)]) (st := []) (st1 := (.int r3 :: [])) (res := (some (.int r3))) (c_X10_refusalFor (l := C.2.1) (some za3) e4) (tc35 _ (List.mem_of_getElem? (i := 4) rfl)) (tc35 _ (List.mem_of_getElem? (i := 5) rfl)) (tc1 _ (List.mem_of_getElem? (i := 2) rfl)) (tc35 _ (List.mem_of_getElem? (i := 6) rfl)) (by decide) rfl ⟨rfl, rfl, Nat.le_of_ble_eq_true rfl, Nat.le_of_ble_eq_true rfl⟩ ⟨Nat.le_of_ble_eq_true rfl, Nat.le_of_ble_eq_true rfl⟩ rfl (Nat.le_of_ble_eq_true rfl) rfl rfl rfl (dq dkX10_judge_0 16 rfl) ?_
    have h := Option.some.inj h
    subst h
    exact v_iret F E (dq dkX10_judge_0 17 rfl)
def f_X10_judge_54 : Nat → CS → Option Nat → Int32 → Option (Int32 × CS)
  | 0, _, _, _ => none
  | n + 1, x, a3, a4 => oc a3 (if 9 ≤ a4 then (some ((-1), x)) else (gd (ib a4 9) none)) (fun za3 => if 9 ≤ a4 then (some ((-1), x)) else (gd (ib a4 9) ((f_X4_at x za3 a4).bind fun r9 => if r9 ≤ (gi x 50 a4.toNatClampNeg) then ((f_X10_judge_54 n) x (some za3) (a4 + 1)) else (some (a4, x)))))
set_option maxRecDepth 100000 in
set_option maxHeartbeats 4000000 in
theorem t_X10_judge_54 {C : Cx} {K : KE} {y : MS} {R : Int32 × CS}  (F : Fx C RX10 cX10_judge 5 rm_X10_judge K) (E : CE C (xf K R.2 y) (some (.int R.1)) 0 0 (some .int)) : ∀ (n : Nat) (x : CS) (a3 : Option Nat) (a4 : Int32) (h : f_X10_judge_54 n x a3 a4 = some R), V C 54 [(0, .ref (K.1 + 0)), (3, va_rf (a3.map (fun q => K.1 + q))), (4, .int a4)] [] (xf K x y) 0 0 := by
  intro n
  induction n with
  | zero => intro x a3 a4 h; cases h
  | succ n ih =>
    intro x a3 a4 h
    rw [f_X10_judge_54] at h
    rcases a3 with _ | za3
    · have h := oc_nh h
      refine v_iload F (dq dkX10_judge_0 30 rfl) 2 rfl ?_
      refine v_bipush F (v := 9) (dq dkX10_judge_0 31 rfl) kb_9 ?_
      refine v_icmp_ge F (tgt := 89) (dq dkX10_judge_0 32 rfl) (by decide) (fun c5 => ?_) (fun c5 => ?_)
      · rw [if_pos c5] at h
        refine v_iconst F (v := (-1)) (dq dkX10_judge_1 6 rfl) ki_m1 ?_
        have h := Option.some.inj h
        subst h
        exact v_iret F E (dq dkX10_judge_1 7 rfl)
      · rw [if_neg c5] at h
        refine v_aload_n F (dq dkX10_judge_0 33 rfl) rfl 0 rfl ?_
        refine v_get F 0 (xn (by decide)) xc_0 rfl inlX10 7 (by decide) (tc2 _ (List.mem_of_getElem? (i := 20) rfl)) rfl rfl (dq dkX10_judge_0 34 rfl) ?_
        refine v_getN F 48 (xn (by decide)) xc_48 rfl inlX2 3 (by decide) (List.mem_of_getElem? (i := 9) rfl) rfl rfl (dq dkX10_judge_0 35 rfl) ?_
        refine v_iload F (dq dkX10_judge_0 36 rfl) 2 rfl ?_
        obtain ⟨g6, h⟩ := gd_of h
        refine v_iald F 50 (xn (by decide)) xc_50 (ib_in g6) (dq dkX10_judge_0 37 rfl) ?_
        refine v_aload_nN F (dq dkX10_judge_0 38 rfl) rfl 1 rfl ?_
        refine v_iload F (dq dkX10_judge_0 39 rfl) 2 rfl ?_
        cases h
    · have h := oc_sh h
      refine v_iload F (dq dkX10_judge_0 30 rfl) 2 rfl ?_
      refine v_bipush F (v := 9) (dq dkX10_judge_0 31 rfl) kb_9 ?_
      refine v_icmp_ge F (tgt := 89) (dq dkX10_judge_0 32 rfl) (by decide) (fun c7 => ?_) (fun c7 => ?_)
      · rw [if_pos c7] at h
        refine v_iconst F (v := (-1)) (dq dkX10_judge_1 6 rfl) ki_m1 ?_
        have h := Option.some.inj h
        subst h
        exact v_iret F E (dq dkX10_judge_1 7 rfl)
      · rw [if_neg c7] at h
        refine v_aload_n F (dq dkX10_judge_0 33 rfl) rfl 0 rfl ?_
        refine v_get F 0 (xn (by decide)) xc_0 rfl inlX10 7 (by decide) (tc2 _ (List.mem_of_getElem? (i := 20) rfl)) rfl rfl (dq dkX10_judge_0 34 rfl) ?_
        refine v_getN F 48 (xn (by decide)) xc_48 rfl inlX2 3 (by decide) (List.mem_of_getElem? (i := 9) rfl) rfl rfl (dq dkX10_judge_0 35 rfl) ?_
        refine v_iload F (dq dkX10_judge_0 36 rfl) 2 rfl ?_
        obtain ⟨g8, h⟩ := gd_of h
        refine v_iald F 50 (xn (by decide)) xc_50 (ib_in g8) (dq dkX10_judge_0 37 rfl) ?_
        refine v_aload_n F (dq dkX10_judge_0 38 rfl) rfl 1 rfl ?_
        refine v_iload F (dq dkX10_judge_0 39 rfl) 2 rfl ?_
        obtain ⟨r9, e10, h⟩ := bd_of h
        refine v_callV 1 F (q := za3) (kc1 := 0) (ks1 := 0) (as := [.int a4]) (st := [.int (gi x 50 a4.toNatClampNeg)]) (st1 := (.int r9 :: [.int (gi x 50 a4.toNatClampNeg)])) (res := (some (.int r9))) (c_X4_at (l := C.2.1) x y za3 a4 e10) (kSh_lt (f_X4_at_k e10)) (kSh_at (f_X4_at_k e10)) rfl (tc35 _ (List.mem_of_getElem? (i := 7) rfl)) (tc35 _ (List.mem_of_getElem? (i := 8) rfl)) (tc35 _ (List.mem_of_getElem? (i := 9) rfl)) (tc2 _ (List.mem_of_getElem? (i := 22) rfl)) (tc35 _ (List.mem_of_getElem? (i := 10) rfl)) (by decide) rfl ⟨rfl, rfl, Nat.le_of_ble_eq_true rfl, Nat.le_of_ble_eq_true rfl⟩ ⟨Nat.le_of_ble_eq_true rfl, Nat.le_of_ble_eq_true rfl⟩ rfl (Nat.le_of_ble_eq_true rfl) rfl rfl rfl (dq dkX10_judge_1 0 rfl) ?_
        refine v_icmp_ge F (tgt := 83) (dq dkX10_judge_1 1 rfl) (by decide) (fun c11 => ?_) (fun c11 => ?_)
        · rw [if_pos c11] at h
          refine v_iinc F (v := a4 + 1) (ls' := [(4, .int (a4 + 1)), (0, .ref (K.1 + 0)), (3, .ref (K.1 + za3))]) (dq dkX10_judge_1 4 rfl) (j := 2) rfl (kv_add ki_1) (by decide) rfl ?_
          refine v_goto F (tgt := 54) (dq dkX10_judge_1 5 rfl) (by decide) ?_
          refine v_sub [1, 2, 0] rfl ?_
          exact ih x (some za3) (a4 + 1) h
        · rw [if_neg c11] at h
          refine v_iload F (dq dkX10_judge_1 2 rfl) 2 rfl ?_
          have h := Option.some.inj h
          subst h
          exact v_iret F E (dq dkX10_judge_1 3 rfl)
def f_X10_judge (x : CS) (a1 : Int32) (a2 : Int32) : Option (Int32 × CS) := if (b2i (f_X10_isSoMany x a1)) = 0 then (some ((-5), x)) else ((f_X10_sheetAt x a2).bind fun r14 => oc r14 (f_X10_judge_28 x none) (fun s16 => (f_X4_isMissing x s16).bind fun r17 => if (b2i r17) = 0 then (gd (kSh s16) (if (gi x s16 2) = 9 then ((f_X10_makeHull x a1 (-1)).bind fun r22 => f_X10_judge_54 1000 r22 (some s16) 0) else (some ((-2), x)))) else (f_X10_judge_28 x (some s16))))
set_option maxRecDepth 100000 in
set_option maxHeartbeats 4000000 in
theorem c_X10_judge {K : KE} {l : Launch} {R : Int32 × CS} (x : CS) (y : MS) (a1 : Int32) (a2 : Int32) (h : f_X10_judge x a1 a2 = some R) : MC K l yX10_judge cX10_judge 5 (some .int) rm_X10_judge 0 0 [.ref (K.1 + 0), .int a1, .int a2] (xf K x y) (xf K R.2 y) (some (.int R.1)) := by
  unfold f_X10_judge at h
  refine mc_of (ls0 := [(0, .ref (K.1 + 0)), (1, .int a1), (2, .int a2)]) (by decide) (Nat.le_of_ble_eq_true rfl) rfl (fun C hl hnm F E => ?_)
  have F : Fx C RX10 cX10_judge 5 rm_X10_judge K := F
  refine v_aload_n F (dq dkX10_judge_0 0 rfl) rfl 0 rfl ?_
  refine v_iload_n F (dq dkX10_judge_0 1 rfl) rfl 1 rfl ?_
  refine v_callV 1 F (q := 0) (kc1 := 0) (ks1 := 0) (as := [.int a1]) (st := []) (st1 := (.int (b2i (f_X10_isSoMany x a1)) :: [])) (res := (some (.int (b2i (f_X10_isSoMany x a1))))) (c_X10_isSoMany (l := C.2.1) x y a1) (xn (by decide)) xc_0 rfl (tc24 _ (List.mem_of_getElem? (i := 23) rfl)) (tc25 _ (List.mem_of_getElem? (i := 0) rfl)) (tc25 _ (List.mem_of_getElem? (i := 1) rfl)) (tc1 _ (List.mem_of_getElem? (i := 2) rfl)) (tc25 _ (List.mem_of_getElem? (i := 2) rfl)) (by decide) rfl ⟨rfl, rfl, Nat.le_of_ble_eq_true rfl, Nat.le_of_ble_eq_true rfl⟩ ⟨Nat.le_of_ble_eq_true rfl, Nat.le_of_ble_eq_true rfl⟩ rfl (Nat.le_of_ble_eq_true rfl) rfl rfl rfl (dq dkX10_judge_0 2 rfl) ?_
  refine v_if_ne F (tgt := 11) (dq dkX10_judge_0 3 rfl) (by decide) (fun c13 => ?_) (fun c13 => ?_)
  · rw [if_neg c13] at h
    refine v_aload_n F (dq dkX10_judge_0 6 rfl) rfl 0 rfl ?_
    refine v_iload_n F (dq dkX10_judge_0 7 rfl) rfl 2 rfl ?_
    obtain ⟨r14, e15, h⟩ := bd_of h
    refine v_callV 1 F (q := 0) (kc1 := 0) (ks1 := 0) (as := [.int a2]) (st := []) (st1 := (va_rf (r14.map (fun q => K.1 + q)) :: [])) (res := (some (va_rf (r14.map (fun q => K.1 + q))))) (c_X10_sheetAt (l := C.2.1) x y a2 e15) (xn (by decide)) xc_0 rfl (tc34 _ (List.mem_of_getElem? (i := 17) rfl)) (tc34 _ (List.mem_of_getElem? (i := 18) rfl)) (tc34 _ (List.mem_of_getElem? (i := 19) rfl)) (tc1 _ (List.mem_of_getElem? (i := 2) rfl)) (tc34 _ (List.mem_of_getElem? (i := 20) rfl)) (by decide) rfl ⟨rfl, rfl, Nat.le_of_ble_eq_true rfl, Nat.le_of_ble_eq_true rfl⟩ ⟨Nat.le_of_ble_eq_true rfl, Nat.le_of_ble_eq_true rfl⟩ rfl (Nat.le_of_ble_eq_true rfl) rfl rfl rfl (dq dkX10_judge_0 8 rfl) ?_
    rcases r14 with _ | s16
    · have h := oc_nh h
      refine v_astore_nN F (ls' := [(3, .null), (0, .ref (K.1 + 0)), (1, .int a1), (2, .int a2)]) (dq dkX10_judge_0 9 rfl) rfl (by decide) rfl ?_
      refine v_aload_nN F (dq dkX10_judge_0 10 rfl) rfl 0 rfl ?_
      refine v_ifnullN F (tgt := 28) (dq dkX10_judge_0 11 rfl) (by decide) ?_
      refine v_sub [0] rfl ?_
      exact t_X10_judge_28 x none h F E
    · have h := oc_sh h
      refine v_astore_n F (ls' := [(3, .ref (K.1 + s16)), (0, .ref (K.1 + 0)), (1, .int a1), (2, .int a2)]) (dq dkX10_judge_0 9 rfl) rfl (by decide) rfl ?_
      refine v_aload_n F (dq dkX10_judge_0 10 rfl) rfl 0 rfl ?_
      refine v_ifnull F (dq dkX10_judge_0 11 rfl) ?_
      refine v_aload_n F (dq dkX10_judge_0 12 rfl) rfl 0 rfl ?_
      obtain ⟨r17, e18, h⟩ := bd_of h
      refine v_callV 0 F (q := s16) (kc1 := 0) (ks1 := 0) (as := []) (st := []) (st1 := (.int (b2i r17) :: [])) (res := (some (.int (b2i r17)))) (c_X4_isMissing (l := C.2.1) x y s16 e18) (kSh_lt (f_X4_isMissing_k e18)) (kSh_at (f_X4_isMissing_k e18)) rfl (tc35 _ (List.mem_of_getElem? (i := 0) rfl)) (tc35 _ (List.mem_of_getElem? (i := 1) rfl)) (tc35 _ (List.mem_of_getElem? (i := 2) rfl)) (tc2 _ (List.mem_of_getElem? (i := 22) rfl)) (tc35 _ (List.mem_of_getElem? (i := 3) rfl)) (by decide) rfl ⟨rfl, rfl, Nat.le_of_ble_eq_true rfl, Nat.le_of_ble_eq_true rfl⟩ ⟨Nat.le_of_ble_eq_true rfl, Nat.le_of_ble_eq_true rfl⟩ rfl (Nat.le_of_ble_eq_true rfl) rfl rfl rfl (dq dkX10_judge_0 13 rfl) ?_
      refine v_if_eq F (tgt := 33) (dq dkX10_judge_0 14 rfl) (by decide) (fun c19 => ?_) (fun c19 => ?_)
      · rw [if_pos c19] at h
        refine v_aload_n F (dq dkX10_judge_0 18 rfl) rfl 0 rfl ?_
        obtain ⟨g20, h⟩ := gd_of h
        refine v_getN F s16 (kSh_lt g20) (kSh_at g20) rfl inlX4 2 (by decide) (List.mem_of_getElem? (i := 16) rfl) rfl rfl (dq dkX10_judge_0 19 rfl) ?_
        refine v_bipush F (v := 9) (dq dkX10_judge_0 20 rfl) kb_9 ?_
        refine v_icmp_eq F (tgt := 45) (dq dkX10_judge_0 21 rfl) (by decide) (fun c21 => ?_) (fun c21 => ?_)
        · rw [if_pos c21] at h
          refine v_aload_n F (dq dkX10_judge_0 24 rfl) rfl 1 rfl ?_
          refine v_iload_n F (dq dkX10_judge_0 25 rfl) rfl 2 rfl ?_
          refine v_iconst F (v := (-1)) (dq dkX10_judge_0 26 rfl) ki_m1 ?_
          obtain ⟨r22, e23, h⟩ := bd_of h
          refine v_callV 2 F (q := 0) (kc1 := 0) (ks1 := 0) (as := [.int a1, .int (-1)]) (st := []) (st1 := []) (res := none) (c_X10_makeHull (l := C.2.1) x y a1 (-1) e23) (xn (by decide)) xc_0 rfl (tc25 _ (List.mem_of_getElem? (i := 3) rfl)) (tc25 _ (List.mem_of_getElem? (i := 4) rfl)) (tc25 _ (List.mem_of_getElem? (i := 5) rfl)) (tc1 _ (List.mem_of_getElem? (i := 2) rfl)) (tc25 _ (List.mem_of_getElem? (i := 6) rfl)) (by decide) rfl ⟨rfl, rfl, Nat.le_of_ble_eq_true rfl, Nat.le_of_ble_eq_true rfl⟩ ⟨Nat.le_of_ble_eq_true rfl, Nat.le_of_ble_eq_true rfl⟩ rfl (Nat.le_of_ble_eq_true rfl) rfl rfl rfl (dq dkX10_judge_0 27 rfl) ?_
          refine v_iconst F (v := 0) (dq dkX10_judge_0 28 rfl) ki_0 ?_
          refine v_istore F (ls' := [(4, .int 0), (3, .ref (K.1 + s16)), (0, .ref (K.1 + 0)), (1, .int a1), (2, .int a2)]) (dq dkX10_judge_0 29 rfl) (by decide) rfl ?_
          refine v_sub [2, 1, 0] rfl ?_
          exact t_X10_judge_54 F E 1000 r22 (some s16) 0 h
        · rw [if_neg c21] at h
          refine v_bipush F (v := (-2)) (dq dkX10_judge_0 22 rfl) kb_m2 ?_
          have h := Option.some.inj h
          subst h
          exact v_iret F E (dq dkX10_judge_0 23 rfl)
      · rw [if_neg c19] at h
        refine v_sub [0] rfl ?_
        exact t_X10_judge_28 x (some s16) h F E
  · rw [if_pos c13] at h
    refine v_bipush F (v := (-5)) (dq dkX10_judge_0 4 rfl) kb_m5 ?_
    have h := Option.some.inj h
    subst h
    exact v_iret F E (dq dkX10_judge_0 5 rfl)
def rm_X10_floats : Room := { frames := 8, cells := 0, slots := 0, locals := 205 }
def f_X10_floats_31 (x : CS) : Option (Int32 × CS) := some ((-7), x)
set_option maxRecDepth 100000 in
set_option maxHeartbeats 4000000 in
theorem t_X10_floats_31 {C : Cx} {K : KE} {y : MS} {R : Int32 × CS}  (x : CS) (h : f_X10_floats_31 x = some R) (F : Fx C RX10 cX10_floats 5 rm_X10_floats K) (E : CE C (xf K R.2 y) (some (.int R.1)) 0 0 (some .int)) : V C 31 [] [] (xf K x y) 0 0 := by
  unfold f_X10_floats_31 at h
  refine v_bipush F (v := (-7)) (dq dkX10_floats_0 16 rfl) kb_m7 ?_
  have h := Option.some.inj h
  subst h
  exact v_iret F E (dq dkX10_floats_0 17 rfl)
def f_X10_floats (x : CS) (a1 : Int32) (a2 : Int32) (a3 : Int32) : Option (Int32 × CS) := if (b2i (f_X10_isSoMany x a1)) = 0 then (some ((-5), x)) else (if (b2i (f_X10_within a2 0 9999)) = 0 then (f_X10_floats_31 x) else (if (b2i (f_X10_within a3 0 2)) = 0 then (f_X10_floats_31 x) else ((f_X10_makeHull x a1 (-1)).bind fun r7 => (f_X2_sinks r7 a2).bind fun r9 => if (b2i r9) = 0 then ((f_X2_draught r7 a2).bind fun r12 => if a3 = 0 then (some (r12, r7)) else (if a3 = 1 then ((f_X2_leastHigh r7).bind fun r18 => some (r18 - r12, r7)) else ((f_X2_steadiness r7 r12).bind fun r16 => some (r16, r7)))) else (some ((-1), r7)))))
set_option maxRecDepth 100000 in
set_option maxHeartbeats 4000000 in
theorem c_X10_floats {K : KE} {l : Launch} {R : Int32 × CS} (x : CS) (y : MS) (a1 : Int32) (a2 : Int32) (a3 : Int32) (h : f_X10_floats x a1 a2 a3 = some R) : MC K l yX10_floats cX10_floats 5 (some .int) rm_X10_floats 0 0 [.ref (K.1 + 0), .int a1, .int a2, .int a3] (xf K x y) (xf K R.2 y) (some (.int R.1)) := by
  unfold f_X10_floats at h
  refine mc_of (ls0 := [(0, .ref (K.1 + 0)), (1, .int a1), (2, .int a2), (3, .int a3)]) (by decide) (Nat.le_of_ble_eq_true rfl) rfl (fun C hl hnm F E => ?_)
  have F : Fx C RX10 cX10_floats 5 rm_X10_floats K := F
  refine v_aload_n F (dq dkX10_floats_0 0 rfl) rfl 0 rfl ?_
  refine v_iload_n F (dq dkX10_floats_0 1 rfl) rfl 1 rfl ?_
  refine v_callV 1 F (q := 0) (kc1 := 0) (ks1 := 0) (as := [.int a1]) (st := []) (st1 := (.int (b2i (f_X10_isSoMany x a1)) :: [])) (res := (some (.int (b2i (f_X10_isSoMany x a1))))) (c_X10_isSoMany (l := C.2.1) x y a1) (xn (by decide)) xc_0 rfl (tc24 _ (List.mem_of_getElem? (i := 23) rfl)) (tc25 _ (List.mem_of_getElem? (i := 0) rfl)) (tc25 _ (List.mem_of_getElem? (i := 1) rfl)) (tc1 _ (List.mem_of_getElem? (i := 2) rfl)) (tc25 _ (List.mem_of_getElem? (i := 2) rfl)) (by decide) rfl ⟨rfl, rfl, Nat.le_of_ble_eq_true rfl, Nat.le_of_ble_eq_true rfl⟩ ⟨Nat.le_of_ble_eq_true rfl, Nat.le_of_ble_eq_true rfl⟩ rfl (Nat.le_of_ble_eq_true rfl) rfl rfl rfl (dq dkX10_floats_0 2 rfl) ?_
  refine v_if_ne F (tgt := 11) (dq dkX10_floats_0 3 rfl) (by decide) (fun c2 => ?_) (fun c2 => ?_)
  · rw [if_neg c2] at h
    refine v_iload_n F (dq dkX10_floats_0 6 rfl) rfl 2 rfl ?_
    refine v_iconst F (v := 0) (dq dkX10_floats_0 7 rfl) ki_0 ?_
    refine v_sipush F (v := 9999) (dq dkX10_floats_0 8 rfl) ks_9999 ?_
    refine v_callS 3 F (kc1 := 0) (ks1 := 0) (as := [.int a2, .int 0, .int 9999]) (st := []) (st1 := (.int (b2i (f_X10_within a2 0 9999)) :: [])) (res := (some (.int (b2i (f_X10_within a2 0 9999))))) (c_X10_within (l := C.2.1) a2 0 9999) (tc14 _ (List.mem_of_getElem? (i := 3) rfl)) (tc8 _ (List.mem_of_getElem? (i := 15) rfl)) (tc1 _ (List.mem_of_getElem? (i := 2) rfl)) (tc8 _ (List.mem_of_getElem? (i := 16) rfl)) (by decide) rfl ⟨rfl, rfl, Nat.le_of_ble_eq_true rfl, Nat.le_of_ble_eq_true rfl⟩ ⟨Nat.le_of_ble_eq_true rfl, Nat.le_of_ble_eq_true rfl⟩ rfl (Nat.le_of_ble_eq_true rfl) rfl rfl rfl (dq dkX10_floats_0 9 rfl) ?_
    refine v_if_eq F (tgt := 31) (dq dkX10_floats_0 10 rfl) (by decide) (fun c4 => ?_) (fun c4 => ?_)
    · rw [if_pos c4] at h
      refine v_sub [] rfl ?_
      exact t_X10_floats_31 x h F E
    · rw [if_neg c4] at h
      refine v_iload_n F (dq dkX10_floats_0 11 rfl) rfl 3 rfl ?_
      refine v_iconst F (v := 0) (dq dkX10_floats_0 12 rfl) ki_0 ?_
      refine v_iconst F (v := 2) (dq dkX10_floats_0 13 rfl) ki_2 ?_
      refine v_callS 3 F (kc1 := 0) (ks1 := 0) (as := [.int a3, .int 0, .int 2]) (st := []) (st1 := (.int (b2i (f_X10_within a3 0 2)) :: [])) (res := (some (.int (b2i (f_X10_within a3 0 2))))) (c_X10_within (l := C.2.1) a3 0 2) (tc14 _ (List.mem_of_getElem? (i := 3) rfl)) (tc8 _ (List.mem_of_getElem? (i := 15) rfl)) (tc1 _ (List.mem_of_getElem? (i := 2) rfl)) (tc8 _ (List.mem_of_getElem? (i := 16) rfl)) (by decide) rfl ⟨rfl, rfl, Nat.le_of_ble_eq_true rfl, Nat.le_of_ble_eq_true rfl⟩ ⟨Nat.le_of_ble_eq_true rfl, Nat.le_of_ble_eq_true rfl⟩ rfl (Nat.le_of_ble_eq_true rfl) rfl rfl rfl (dq dkX10_floats_0 14 rfl) ?_
      refine v_if_ne F (tgt := 34) (dq dkX10_floats_0 15 rfl) (by decide) (fun c6 => ?_) (fun c6 => ?_)
      · rw [if_neg c6] at h
        refine v_aload_n F (dq dkX10_floats_0 18 rfl) rfl 0 rfl ?_
        refine v_iload_n F (dq dkX10_floats_0 19 rfl) rfl 1 rfl ?_
        refine v_iconst F (v := (-1)) (dq dkX10_floats_0 20 rfl) ki_m1 ?_
        obtain ⟨r7, e8, h⟩ := bd_of h
        refine v_callV 2 F (q := 0) (kc1 := 0) (ks1 := 0) (as := [.int a1, .int (-1)]) (st := []) (st1 := []) (res := none) (c_X10_makeHull (l := C.2.1) x y a1 (-1) e8) (xn (by decide)) xc_0 rfl (tc25 _ (List.mem_of_getElem? (i := 3) rfl)) (tc25 _ (List.mem_of_getElem? (i := 4) rfl)) (tc25 _ (List.mem_of_getElem? (i := 5) rfl)) (tc1 _ (List.mem_of_getElem? (i := 2) rfl)) (tc25 _ (List.mem_of_getElem? (i := 6) rfl)) (by decide) rfl ⟨rfl, rfl, Nat.le_of_ble_eq_true rfl, Nat.le_of_ble_eq_true rfl⟩ ⟨Nat.le_of_ble_eq_true rfl, Nat.le_of_ble_eq_true rfl⟩ rfl (Nat.le_of_ble_eq_true rfl) rfl rfl rfl (dq dkX10_floats_0 21 rfl) ?_
        refine v_aload_n F (dq dkX10_floats_0 22 rfl) rfl 0 rfl ?_
        refine v_get F 0 (xn (by decide)) xc_0 rfl inlX10 7 (by decide) (tc2 _ (List.mem_of_getElem? (i := 20) rfl)) rfl rfl (dq dkX10_floats_0 23 rfl) ?_
        refine v_iload_n F (dq dkX10_floats_0 24 rfl) rfl 2 rfl ?_
        obtain ⟨r9, e10, h⟩ := bd_of h
        refine v_callV 1 F (q := 48) (kc1 := 0) (ks1 := 0) (as := [.int a2]) (st := []) (st1 := (.int (b2i r9) :: [])) (res := (some (.int (b2i r9)))) (c_X2_sinks (l := C.2.1) r7 y a2 e10) (xn (by decide)) xc_48 rfl (tc39 _ (List.mem_of_getElem? (i := 9) rfl)) (tc39 _ (List.mem_of_getElem? (i := 10) rfl)) (tc39 _ (List.mem_of_getElem? (i := 11) rfl)) (tc2 _ (List.mem_of_getElem? (i := 19) rfl)) (tc39 _ (List.mem_of_getElem? (i := 12) rfl)) (by decide) rfl ⟨rfl, rfl, Nat.le_of_ble_eq_true rfl, Nat.le_of_ble_eq_true rfl⟩ ⟨Nat.le_of_ble_eq_true rfl, Nat.le_of_ble_eq_true rfl⟩ rfl (Nat.le_of_ble_eq_true rfl) rfl rfl rfl (dq dkX10_floats_0 25 rfl) ?_
        refine v_if_eq F (tgt := 53) (dq dkX10_floats_0 26 rfl) (by decide) (fun c11 => ?_) (fun c11 => ?_)
        · rw [if_pos c11] at h
          refine v_aload_n F (dq dkX10_floats_0 29 rfl) rfl 0 rfl ?_
          refine v_get F 0 (xn (by decide)) xc_0 rfl inlX10 7 (by decide) (tc2 _ (List.mem_of_getElem? (i := 20) rfl)) rfl rfl (dq dkX10_floats_0 30 rfl) ?_
          refine v_iload_n F (dq dkX10_floats_0 31 rfl) rfl 2 rfl ?_
          obtain ⟨r12, e13, h⟩ := bd_of h
          refine v_callV 1 F (q := 48) (kc1 := 0) (ks1 := 0) (as := [.int a2]) (st := []) (st1 := (.int r12 :: [])) (res := (some (.int r12))) (c_X2_draught (l := C.2.1) r7 y a2 e13) (xn (by decide)) xc_48 rfl (tc40 _ (List.mem_of_getElem? (i := 6) rfl)) (tc39 _ (List.mem_of_getElem? (i := 14) rfl)) (tc39 _ (List.mem_of_getElem? (i := 15) rfl)) (tc2 _ (List.mem_of_getElem? (i := 19) rfl)) (tc39 _ (List.mem_of_getElem? (i := 16) rfl)) (by decide) rfl ⟨rfl, rfl, Nat.le_of_ble_eq_true rfl, Nat.le_of_ble_eq_true rfl⟩ ⟨Nat.le_of_ble_eq_true rfl, Nat.le_of_ble_eq_true rfl⟩ rfl (Nat.le_of_ble_eq_true rfl) rfl rfl rfl (dq dkX10_floats_0 32 rfl) ?_
          refine v_istore F (ls' := [(4, .int r12), (0, .ref (K.1 + 0)), (1, .int a1), (2, .int a2), (3, .int a3)]) (dq dkX10_floats_0 33 rfl) (by decide) rfl ?_
          refine v_iload_n F (dq dkX10_floats_0 34 rfl) rfl 4 rfl ?_
          refine v_if_ne F (tgt := 70) (dq dkX10_floats_0 35 rfl) (by decide) (fun c14 => ?_) (fun c14 => ?_)
          · rw [if_neg c14] at h
            refine v_iload_n F (dq dkX10_floats_0 38 rfl) rfl 4 rfl ?_
            refine v_iconst F (v := 1) (dq dkX10_floats_0 39 rfl) ki_1 ?_
            refine v_icmp_ne F (tgt := 88) (dq dkX10_floats_1 0 rfl) (by decide) (fun c15 => ?_) (fun c15 => ?_)
            · rw [if_neg c15] at h
              refine v_aload_n F (dq dkX10_floats_1 7 rfl) rfl 1 rfl ?_
              refine v_get F 0 (xn (by decide)) xc_0 rfl inlX10 7 (by decide) (tc2 _ (List.mem_of_getElem? (i := 20) rfl)) rfl rfl (dq dkX10_floats_1 8 rfl) ?_
              refine v_iload F (dq dkX10_floats_1 9 rfl) 0 rfl ?_
              obtain ⟨r16, e17, h⟩ := bd_of h
              refine v_callV 1 F (q := 48) (kc1 := 0) (ks1 := 0) (as := [.int r12]) (st := []) (st1 := (.int r16 :: [])) (res := (some (.int r16))) (c_X2_steadiness (l := C.2.1) r7 y r12 e17) (xn (by decide)) xc_48 rfl (tc40 _ (List.mem_of_getElem? (i := 8) rfl)) (tc40 _ (List.mem_of_getElem? (i := 9) rfl)) (tc40 _ (List.mem_of_getElem? (i := 10) rfl)) (tc2 _ (List.mem_of_getElem? (i := 19) rfl)) (tc40 _ (List.mem_of_getElem? (i := 11) rfl)) (by decide) rfl ⟨rfl, rfl, Nat.le_of_ble_eq_true rfl, Nat.le_of_ble_eq_true rfl⟩ ⟨Nat.le_of_ble_eq_true rfl, Nat.le_of_ble_eq_true rfl⟩ rfl (Nat.le_of_ble_eq_true rfl) rfl rfl rfl (dq dkX10_floats_1 10 rfl) ?_
              have h := Option.some.inj h
              subst h
              exact v_iret F E (dq dkX10_floats_1 11 rfl)
            · rw [if_pos c15] at h
              refine v_aload_n F (dq dkX10_floats_1 1 rfl) rfl 1 rfl ?_
              refine v_get F 0 (xn (by decide)) xc_0 rfl inlX10 7 (by decide) (tc2 _ (List.mem_of_getElem? (i := 20) rfl)) rfl rfl (dq dkX10_floats_1 2 rfl) ?_
              obtain ⟨r18, e19, h⟩ := bd_of h
              refine v_callV 0 F (q := 48) (kc1 := 0) (ks1 := 0) (as := []) (st := []) (st1 := (.int r18 :: [])) (res := (some (.int r18))) (c_X2_leastHigh (l := C.2.1) r7 y e19) (xn (by decide)) xc_48 rfl (tc40 _ (List.mem_of_getElem? (i := 7) rfl)) (tc40 _ (List.mem_of_getElem? (i := 2) rfl)) (tc40 _ (List.mem_of_getElem? (i := 3) rfl)) (tc2 _ (List.mem_of_getElem? (i := 19) rfl)) (tc40 _ (List.mem_of_getElem? (i := 4) rfl)) (by decide) rfl ⟨rfl, rfl, Nat.le_of_ble_eq_true rfl, Nat.le_of_ble_eq_true rfl⟩ ⟨Nat.le_of_ble_eq_true rfl, Nat.le_of_ble_eq_true rfl⟩ rfl (Nat.le_of_ble_eq_true rfl) rfl rfl rfl (dq dkX10_floats_1 3 rfl) ?_
              refine v_iload F (dq dkX10_floats_1 4 rfl) 0 rfl ?_
              refine v_isub F (dq dkX10_floats_1 5 rfl) ?_
              refine v_goto F (tgt := 97) (dq dkX10_floats_1 6 rfl) (by decide) ?_
              have h := Option.some.inj h
              subst h
              exact v_iret F E (dq dkX10_floats_1 11 rfl)
          · rw [if_pos c14] at h
            refine v_iload F (dq dkX10_floats_0 36 rfl) 0 rfl ?_
            have h := Option.some.inj h
            subst h
            exact v_iret F E (dq dkX10_floats_0 37 rfl)
        · rw [if_neg c11] at h
          refine v_iconst F (v := (-1)) (dq dkX10_floats_0 27 rfl) ki_m1 ?_
          have h := Option.some.inj h
          subst h
          exact v_iret F E (dq dkX10_floats_0 28 rfl)
      · rw [if_pos c6] at h
        refine v_sub [] rfl ?_
        exact t_X10_floats_31 x h F E
  · rw [if_pos c2] at h
    refine v_bipush F (v := (-5)) (dq dkX10_floats_0 4 rfl) kb_m5 ?_
    have h := Option.some.inj h
    subst h
    exact v_iret F E (dq dkX10_floats_0 5 rfl)
def rm_X10_bears : Room := { frames := 8, cells := 0, slots := 0, locals := 205 }
def f_X10_bears_70 (x : CS) : Option (Int32 × CS) := some ((-1), x)
set_option maxRecDepth 100000 in
set_option maxHeartbeats 4000000 in
theorem t_X10_bears_70 {C : Cx} {K : KE} {y : MS} {R : Int32 × CS}  (x : CS) (h : f_X10_bears_70 x = some R) (F : Fx C RX10 cX10_bears 4 rm_X10_bears K) (E : CE C (xf K R.2 y) (some (.int R.1)) 0 0 (some .int)) : V C 70 [] [] (xf K x y) 0 0 := by
  unfold f_X10_bears_70 at h
  refine v_iconst F (v := (-1)) (dq dkX10_bears_0 37 rfl) ki_m1 ?_
  refine v_goto F (tgt := 75) (dq dkX10_bears_0 38 rfl) (by decide) ?_
  have h := Option.some.inj h
  subst h
  exact v_iret F E (dq dkX10_bears_1 0 rfl)
def f_X10_bears (x : CS) (a1 : Int32) (a2 : Int32) : Option (Int32 × CS) := if (b2i (f_X10_isSoMany x a1)) = 0 then (some ((-5), x)) else (if (b2i (f_X10_within a2 0 99)) = 0 then (some ((-7), x)) else ((f_X10_makeHull x a1 (-1)).bind fun r5 => (f_X2_allWide r5).bind fun r7 => (f_X2_leastHigh r5).bind fun r9 => (f_X2_weight r5).bind fun r11 => if ((r7 * (r9 - a2)) - r11) < 0 then (f_X10_bears_70 r5) else (if (gi r5 48 6) = 0 then (some ((r7 * (r9 - a2)) - r11, r5)) else (f_X10_bears_70 r5))))
set_option maxRecDepth 100000 in
set_option maxHeartbeats 4000000 in
theorem c_X10_bears {K : KE} {l : Launch} {R : Int32 × CS} (x : CS) (y : MS) (a1 : Int32) (a2 : Int32) (h : f_X10_bears x a1 a2 = some R) : MC K l yX10_bears cX10_bears 4 (some .int) rm_X10_bears 0 0 [.ref (K.1 + 0), .int a1, .int a2] (xf K x y) (xf K R.2 y) (some (.int R.1)) := by
  unfold f_X10_bears at h
  refine mc_of (ls0 := [(0, .ref (K.1 + 0)), (1, .int a1), (2, .int a2)]) (by decide) (Nat.le_of_ble_eq_true rfl) rfl (fun C hl hnm F E => ?_)
  have F : Fx C RX10 cX10_bears 4 rm_X10_bears K := F
  refine v_aload_n F (dq dkX10_bears_0 0 rfl) rfl 0 rfl ?_
  refine v_iload_n F (dq dkX10_bears_0 1 rfl) rfl 1 rfl ?_
  refine v_callV 1 F (q := 0) (kc1 := 0) (ks1 := 0) (as := [.int a1]) (st := []) (st1 := (.int (b2i (f_X10_isSoMany x a1)) :: [])) (res := (some (.int (b2i (f_X10_isSoMany x a1))))) (c_X10_isSoMany (l := C.2.1) x y a1) (xn (by decide)) xc_0 rfl (tc24 _ (List.mem_of_getElem? (i := 23) rfl)) (tc25 _ (List.mem_of_getElem? (i := 0) rfl)) (tc25 _ (List.mem_of_getElem? (i := 1) rfl)) (tc1 _ (List.mem_of_getElem? (i := 2) rfl)) (tc25 _ (List.mem_of_getElem? (i := 2) rfl)) (by decide) rfl ⟨rfl, rfl, Nat.le_of_ble_eq_true rfl, Nat.le_of_ble_eq_true rfl⟩ ⟨Nat.le_of_ble_eq_true rfl, Nat.le_of_ble_eq_true rfl⟩ rfl (Nat.le_of_ble_eq_true rfl) rfl rfl rfl (dq dkX10_bears_0 2 rfl) ?_
  refine v_if_ne F (tgt := 11) (dq dkX10_bears_0 3 rfl) (by decide) (fun c2 => ?_) (fun c2 => ?_)
  · rw [if_neg c2] at h
    refine v_iload_n F (dq dkX10_bears_0 6 rfl) rfl 2 rfl ?_
    refine v_iconst F (v := 0) (dq dkX10_bears_0 7 rfl) ki_0 ?_
    refine v_bipush F (v := 99) (dq dkX10_bears_0 8 rfl) kb_99 ?_
    refine v_callS 3 F (kc1 := 0) (ks1 := 0) (as := [.int a2, .int 0, .int 99]) (st := []) (st1 := (.int (b2i (f_X10_within a2 0 99)) :: [])) (res := (some (.int (b2i (f_X10_within a2 0 99))))) (c_X10_within (l := C.2.1) a2 0 99) (tc14 _ (List.mem_of_getElem? (i := 3) rfl)) (tc8 _ (List.mem_of_getElem? (i := 15) rfl)) (tc1 _ (List.mem_of_getElem? (i := 2) rfl)) (tc8 _ (List.mem_of_getElem? (i := 16) rfl)) (by decide) rfl ⟨rfl, rfl, Nat.le_of_ble_eq_true rfl, Nat.le_of_ble_eq_true rfl⟩ ⟨Nat.le_of_ble_eq_true rfl, Nat.le_of_ble_eq_true rfl⟩ rfl (Nat.le_of_ble_eq_true rfl) rfl rfl rfl (dq dkX10_bears_0 9 rfl) ?_
    refine v_if_ne F (tgt := 24) (dq dkX10_bears_0 10 rfl) (by decide) (fun c4 => ?_) (fun c4 => ?_)
    · rw [if_neg c4] at h
      refine v_aload_n F (dq dkX10_bears_0 13 rfl) rfl 0 rfl ?_
      refine v_iload_n F (dq dkX10_bears_0 14 rfl) rfl 1 rfl ?_
      refine v_iconst F (v := (-1)) (dq dkX10_bears_0 15 rfl) ki_m1 ?_
      obtain ⟨r5, e6, h⟩ := bd_of h
      refine v_callV 2 F (q := 0) (kc1 := 0) (ks1 := 0) (as := [.int a1, .int (-1)]) (st := []) (st1 := []) (res := none) (c_X10_makeHull (l := C.2.1) x y a1 (-1) e6) (xn (by decide)) xc_0 rfl (tc25 _ (List.mem_of_getElem? (i := 3) rfl)) (tc25 _ (List.mem_of_getElem? (i := 4) rfl)) (tc25 _ (List.mem_of_getElem? (i := 5) rfl)) (tc1 _ (List.mem_of_getElem? (i := 2) rfl)) (tc25 _ (List.mem_of_getElem? (i := 6) rfl)) (by decide) rfl ⟨rfl, rfl, Nat.le_of_ble_eq_true rfl, Nat.le_of_ble_eq_true rfl⟩ ⟨Nat.le_of_ble_eq_true rfl, Nat.le_of_ble_eq_true rfl⟩ rfl (Nat.le_of_ble_eq_true rfl) rfl rfl rfl (dq dkX10_bears_0 16 rfl) ?_
      refine v_aload_n F (dq dkX10_bears_0 17 rfl) rfl 0 rfl ?_
      refine v_get F 0 (xn (by decide)) xc_0 rfl inlX10 7 (by decide) (tc2 _ (List.mem_of_getElem? (i := 20) rfl)) rfl rfl (dq dkX10_bears_0 18 rfl) ?_
      obtain ⟨r7, e8, h⟩ := bd_of h
      refine v_callV 0 F (q := 48) (kc1 := 0) (ks1 := 0) (as := []) (st := []) (st1 := (.int r7 :: [])) (res := (some (.int r7))) (c_X2_allWide (l := C.2.1) r5 y e8) (xn (by decide)) xc_48 rfl (tc41 _ (List.mem_of_getElem? (i := 16) rfl)) (tc39 _ (List.mem_of_getElem? (i := 18) rfl)) (tc39 _ (List.mem_of_getElem? (i := 19) rfl)) (tc2 _ (List.mem_of_getElem? (i := 19) rfl)) (tc39 _ (List.mem_of_getElem? (i := 20) rfl)) (by decide) rfl ⟨rfl, rfl, Nat.le_of_ble_eq_true rfl, Nat.le_of_ble_eq_true rfl⟩ ⟨Nat.le_of_ble_eq_true rfl, Nat.le_of_ble_eq_true rfl⟩ rfl (Nat.le_of_ble_eq_true rfl) rfl rfl rfl (dq dkX10_bears_0 19 rfl) ?_
      refine v_aload_n F (dq dkX10_bears_0 20 rfl) rfl 0 rfl ?_
      refine v_get F 0 (xn (by decide)) xc_0 rfl inlX10 7 (by decide) (tc2 _ (List.mem_of_getElem? (i := 20) rfl)) rfl rfl (dq dkX10_bears_0 21 rfl) ?_
      obtain ⟨r9, e10, h⟩ := bd_of h
      refine v_callV 0 F (q := 48) (kc1 := 0) (ks1 := 0) (as := []) (st := [.int r7]) (st1 := (.int r9 :: [.int r7])) (res := (some (.int r9))) (c_X2_leastHigh (l := C.2.1) r5 y e10) (xn (by decide)) xc_48 rfl (tc40 _ (List.mem_of_getElem? (i := 7) rfl)) (tc40 _ (List.mem_of_getElem? (i := 2) rfl)) (tc40 _ (List.mem_of_getElem? (i := 3) rfl)) (tc2 _ (List.mem_of_getElem? (i := 19) rfl)) (tc40 _ (List.mem_of_getElem? (i := 4) rfl)) (by decide) rfl ⟨rfl, rfl, Nat.le_of_ble_eq_true rfl, Nat.le_of_ble_eq_true rfl⟩ ⟨Nat.le_of_ble_eq_true rfl, Nat.le_of_ble_eq_true rfl⟩ rfl (Nat.le_of_ble_eq_true rfl) rfl rfl rfl (dq dkX10_bears_0 22 rfl) ?_
      refine v_iload_n F (dq dkX10_bears_0 23 rfl) rfl 2 rfl ?_
      refine v_isub F (dq dkX10_bears_0 24 rfl) ?_
      refine v_imul F (dq dkX10_bears_0 25 rfl) ?_
      refine v_aload_n F (dq dkX10_bears_0 26 rfl) rfl 0 rfl ?_
      refine v_get F 0 (xn (by decide)) xc_0 rfl inlX10 7 (by decide) (tc2 _ (List.mem_of_getElem? (i := 20) rfl)) rfl rfl (dq dkX10_bears_0 27 rfl) ?_
      obtain ⟨r11, e12, h⟩ := bd_of h
      refine v_callV 0 F (q := 48) (kc1 := 0) (ks1 := 0) (as := []) (st := [.int (r7 * (r9 - a2))]) (st1 := (.int r11 :: [.int (r7 * (r9 - a2))])) (res := (some (.int r11))) (c_X2_weight (l := C.2.1) r5 y e12) (xn (by decide)) xc_48 rfl (tc41 _ (List.mem_of_getElem? (i := 17) rfl)) (tc39 _ (List.mem_of_getElem? (i := 22) rfl)) (tc39 _ (List.mem_of_getElem? (i := 23) rfl)) (tc2 _ (List.mem_of_getElem? (i := 19) rfl)) (tc40 _ (List.mem_of_getElem? (i := 0) rfl)) (by decide) rfl ⟨rfl, rfl, Nat.le_of_ble_eq_true rfl, Nat.le_of_ble_eq_true rfl⟩ ⟨Nat.le_of_ble_eq_true rfl, Nat.le_of_ble_eq_true rfl⟩ rfl (Nat.le_of_ble_eq_true rfl) rfl rfl rfl (dq dkX10_bears_0 28 rfl) ?_
      refine v_isub F (dq dkX10_bears_0 29 rfl) ?_
      refine v_istore_n F (ls' := [(3, .int ((r7 * (r9 - a2)) - r11)), (0, .ref (K.1 + 0)), (1, .int a1), (2, .int a2)]) (dq dkX10_bears_0 30 rfl) rfl (by decide) rfl ?_
      refine v_iload_n F (dq dkX10_bears_0 31 rfl) rfl 0 rfl ?_
      refine v_if_lt F (tgt := 70) (dq dkX10_bears_0 32 rfl) (by decide) (fun c13 => ?_) (fun c13 => ?_)
      · rw [if_pos c13] at h
        refine v_sub [] rfl ?_
        exact t_X10_bears_70 r5 h F E
      · rw [if_neg c13] at h
        refine v_aload_n F (dq dkX10_bears_0 33 rfl) rfl 1 rfl ?_
        refine v_get F 0 (xn (by decide)) xc_0 rfl inlX10 7 (by decide) (tc2 _ (List.mem_of_getElem? (i := 20) rfl)) rfl rfl (dq dkX10_bears_0 34 rfl) ?_
        refine v_getN F 48 (xn (by decide)) xc_48 rfl inlX2 6 (by decide) (List.mem_of_getElem? (i := 11) rfl) rfl rfl (dq dkX10_bears_0 35 rfl) ?_
        refine v_if_eq F (tgt := 74) (dq dkX10_bears_0 36 rfl) (by decide) (fun c14 => ?_) (fun c14 => ?_)
        · rw [if_pos c14] at h
          refine v_iload_n F (dq dkX10_bears_0 39 rfl) rfl 0 rfl ?_
          have h := Option.some.inj h
          subst h
          exact v_iret F E (dq dkX10_bears_1 0 rfl)
        · rw [if_neg c14] at h
          refine v_sub [] rfl ?_
          exact t_X10_bears_70 r5 h F E
    · rw [if_pos c4] at h
      refine v_bipush F (v := (-7)) (dq dkX10_bears_0 11 rfl) kb_m7 ?_
      have h := Option.some.inj h
      subst h
      exact v_iret F E (dq dkX10_bears_0 12 rfl)
  · rw [if_pos c2] at h
    refine v_bipush F (v := (-5)) (dq dkX10_bears_0 4 rfl) kb_m5 ?_
    have h := Option.some.inj h
    subst h
    exact v_iret F E (dq dkX10_bears_0 5 rfl)
def rm_X10_bar : Room := { frames := 8, cells := 0, slots := 0, locals := 205 }
def f_X10_bar_33 (x : CS) : Option (Int32 × CS) := some ((-7), x)
set_option maxRecDepth 100000 in
set_option maxHeartbeats 4000000 in
theorem t_X10_bar_33 {C : Cx} {K : KE} {y : MS} {R : Int32 × CS}  (x : CS) (h : f_X10_bar_33 x = some R) (F : Fx C RX10 cX10_bar 5 rm_X10_bar K) (E : CE C (xf K R.2 y) (some (.int R.1)) 0 0 (some .int)) : V C 33 [] [] (xf K x y) 0 0 := by
  unfold f_X10_bar_33 at h
  refine v_bipush F (v := (-7)) (dq dkX10_bar_0 16 rfl) kb_m7 ?_
  have h := Option.some.inj h
  subst h
  exact v_iret F E (dq dkX10_bar_0 17 rfl)
def f_X10_bar_96 (x : CS) : Option (Int32 × CS) := some (0, x)
set_option maxRecDepth 100000 in
set_option maxHeartbeats 4000000 in
theorem t_X10_bar_96 {C : Cx} {K : KE} {y : MS} {R : Int32 × CS}  (x : CS) (h : f_X10_bar_96 x = some R) (F : Fx C RX10 cX10_bar 5 rm_X10_bar K) (E : CE C (xf K R.2 y) (some (.int R.1)) 0 0 (some .int)) : V C 96 [] [] (xf K x y) 0 0 := by
  unfold f_X10_bar_96 at h
  refine v_iconst F (v := 0) (dq dkX10_bar_1 9 rfl) ki_0 ?_
  have h := Option.some.inj h
  subst h
  exact v_iret F E (dq dkX10_bar_1 10 rfl)
def f_X10_bar (x : CS) (a1 : Int32) (a2 : Int32) (a3 : Int32) : Option (Int32 × CS) := if (b2i (f_X10_isSoMany x a1)) = 0 then (some ((-5), x)) else (if (b2i (f_X10_within a2 0 9999)) = 0 then (f_X10_bar_33 x) else (if (b2i (f_X10_within a3 0 999)) = 0 then (f_X10_bar_33 x) else ((f_X10_makeHull x a1 (-1)).bind fun r7 => (f_X2_sinks r7 a2).bind fun r9 => if (b2i r9) = 0 then ((f_X2_draught r7 a2).bind fun r12 => if ((if (gi r7 51 (8 : Int32).toNatClampNeg) < (gi r7 51 (0 : Int32).toNatClampNeg) then (gi r7 51 (8 : Int32).toNatClampNeg) else (gi r7 51 (0 : Int32).toNatClampNeg)) - r12) < a3 then (f_X10_bar_96 r7) else (some (1, r7))) else (f_X10_bar_96 r7))))
set_option maxRecDepth 100000 in
set_option maxHeartbeats 4000000 in
theorem c_X10_bar {K : KE} {l : Launch} {R : Int32 × CS} (x : CS) (y : MS) (a1 : Int32) (a2 : Int32) (a3 : Int32) (h : f_X10_bar x a1 a2 a3 = some R) : MC K l yX10_bar cX10_bar 5 (some .int) rm_X10_bar 0 0 [.ref (K.1 + 0), .int a1, .int a2, .int a3] (xf K x y) (xf K R.2 y) (some (.int R.1)) := by
  unfold f_X10_bar at h
  refine mc_of (ls0 := [(0, .ref (K.1 + 0)), (1, .int a1), (2, .int a2), (3, .int a3)]) (by decide) (Nat.le_of_ble_eq_true rfl) rfl (fun C hl hnm F E => ?_)
  have F : Fx C RX10 cX10_bar 5 rm_X10_bar K := F
  refine v_aload_n F (dq dkX10_bar_0 0 rfl) rfl 0 rfl ?_
  refine v_iload_n F (dq dkX10_bar_0 1 rfl) rfl 1 rfl ?_
  refine v_callV 1 F (q := 0) (kc1 := 0) (ks1 := 0) (as := [.int a1]) (st := []) (st1 := (.int (b2i (f_X10_isSoMany x a1)) :: [])) (res := (some (.int (b2i (f_X10_isSoMany x a1))))) (c_X10_isSoMany (l := C.2.1) x y a1) (xn (by decide)) xc_0 rfl (tc24 _ (List.mem_of_getElem? (i := 23) rfl)) (tc25 _ (List.mem_of_getElem? (i := 0) rfl)) (tc25 _ (List.mem_of_getElem? (i := 1) rfl)) (tc1 _ (List.mem_of_getElem? (i := 2) rfl)) (tc25 _ (List.mem_of_getElem? (i := 2) rfl)) (by decide) rfl ⟨rfl, rfl, Nat.le_of_ble_eq_true rfl, Nat.le_of_ble_eq_true rfl⟩ ⟨Nat.le_of_ble_eq_true rfl, Nat.le_of_ble_eq_true rfl⟩ rfl (Nat.le_of_ble_eq_true rfl) rfl rfl rfl (dq dkX10_bar_0 2 rfl) ?_
  refine v_if_ne F (tgt := 11) (dq dkX10_bar_0 3 rfl) (by decide) (fun c2 => ?_) (fun c2 => ?_)
  · rw [if_neg c2] at h
    refine v_iload_n F (dq dkX10_bar_0 6 rfl) rfl 2 rfl ?_
    refine v_iconst F (v := 0) (dq dkX10_bar_0 7 rfl) ki_0 ?_
    refine v_sipush F (v := 9999) (dq dkX10_bar_0 8 rfl) ks_9999 ?_
    refine v_callS 3 F (kc1 := 0) (ks1 := 0) (as := [.int a2, .int 0, .int 9999]) (st := []) (st1 := (.int (b2i (f_X10_within a2 0 9999)) :: [])) (res := (some (.int (b2i (f_X10_within a2 0 9999))))) (c_X10_within (l := C.2.1) a2 0 9999) (tc14 _ (List.mem_of_getElem? (i := 3) rfl)) (tc8 _ (List.mem_of_getElem? (i := 15) rfl)) (tc1 _ (List.mem_of_getElem? (i := 2) rfl)) (tc8 _ (List.mem_of_getElem? (i := 16) rfl)) (by decide) rfl ⟨rfl, rfl, Nat.le_of_ble_eq_true rfl, Nat.le_of_ble_eq_true rfl⟩ ⟨Nat.le_of_ble_eq_true rfl, Nat.le_of_ble_eq_true rfl⟩ rfl (Nat.le_of_ble_eq_true rfl) rfl rfl rfl (dq dkX10_bar_0 9 rfl) ?_
    refine v_if_eq F (tgt := 33) (dq dkX10_bar_0 10 rfl) (by decide) (fun c4 => ?_) (fun c4 => ?_)
    · rw [if_pos c4] at h
      refine v_sub [] rfl ?_
      exact t_X10_bar_33 x h F E
    · rw [if_neg c4] at h
      refine v_iload_n F (dq dkX10_bar_0 11 rfl) rfl 3 rfl ?_
      refine v_iconst F (v := 0) (dq dkX10_bar_0 12 rfl) ki_0 ?_
      refine v_sipush F (v := 999) (dq dkX10_bar_0 13 rfl) ks_999 ?_
      refine v_callS 3 F (kc1 := 0) (ks1 := 0) (as := [.int a3, .int 0, .int 999]) (st := []) (st1 := (.int (b2i (f_X10_within a3 0 999)) :: [])) (res := (some (.int (b2i (f_X10_within a3 0 999))))) (c_X10_within (l := C.2.1) a3 0 999) (tc14 _ (List.mem_of_getElem? (i := 3) rfl)) (tc8 _ (List.mem_of_getElem? (i := 15) rfl)) (tc1 _ (List.mem_of_getElem? (i := 2) rfl)) (tc8 _ (List.mem_of_getElem? (i := 16) rfl)) (by decide) rfl ⟨rfl, rfl, Nat.le_of_ble_eq_true rfl, Nat.le_of_ble_eq_true rfl⟩ ⟨Nat.le_of_ble_eq_true rfl, Nat.le_of_ble_eq_true rfl⟩ rfl (Nat.le_of_ble_eq_true rfl) rfl rfl rfl (dq dkX10_bar_0 14 rfl) ?_
      refine v_if_ne F (tgt := 36) (dq dkX10_bar_0 15 rfl) (by decide) (fun c6 => ?_) (fun c6 => ?_)
      · rw [if_neg c6] at h
        refine v_aload_n F (dq dkX10_bar_0 18 rfl) rfl 0 rfl ?_
        refine v_iload_n F (dq dkX10_bar_0 19 rfl) rfl 1 rfl ?_
        refine v_iconst F (v := (-1)) (dq dkX10_bar_0 20 rfl) ki_m1 ?_
        obtain ⟨r7, e8, h⟩ := bd_of h
        refine v_callV 2 F (q := 0) (kc1 := 0) (ks1 := 0) (as := [.int a1, .int (-1)]) (st := []) (st1 := []) (res := none) (c_X10_makeHull (l := C.2.1) x y a1 (-1) e8) (xn (by decide)) xc_0 rfl (tc25 _ (List.mem_of_getElem? (i := 3) rfl)) (tc25 _ (List.mem_of_getElem? (i := 4) rfl)) (tc25 _ (List.mem_of_getElem? (i := 5) rfl)) (tc1 _ (List.mem_of_getElem? (i := 2) rfl)) (tc25 _ (List.mem_of_getElem? (i := 6) rfl)) (by decide) rfl ⟨rfl, rfl, Nat.le_of_ble_eq_true rfl, Nat.le_of_ble_eq_true rfl⟩ ⟨Nat.le_of_ble_eq_true rfl, Nat.le_of_ble_eq_true rfl⟩ rfl (Nat.le_of_ble_eq_true rfl) rfl rfl rfl (dq dkX10_bar_0 21 rfl) ?_
        refine v_aload_n F (dq dkX10_bar_0 22 rfl) rfl 0 rfl ?_
        refine v_get F 0 (xn (by decide)) xc_0 rfl inlX10 7 (by decide) (tc2 _ (List.mem_of_getElem? (i := 20) rfl)) rfl rfl (dq dkX10_bar_0 23 rfl) ?_
        refine v_getN F 48 (xn (by decide)) xc_48 rfl inlX2 4 (by decide) (List.mem_of_getElem? (i := 10) rfl) rfl rfl (dq dkX10_bar_0 24 rfl) ?_
        refine v_iconst F (v := 0) (dq dkX10_bar_0 25 rfl) ki_0 ?_
        refine v_iald F 51 (xn (by decide)) xc_51 (ib_in (by decide)) (dq dkX10_bar_0 26 rfl) ?_
        refine v_aload_n F (dq dkX10_bar_0 27 rfl) rfl 0 rfl ?_
        refine v_get F 0 (xn (by decide)) xc_0 rfl inlX10 7 (by decide) (tc2 _ (List.mem_of_getElem? (i := 20) rfl)) rfl rfl (dq dkX10_bar_0 28 rfl) ?_
        refine v_getN F 48 (xn (by decide)) xc_48 rfl inlX2 4 (by decide) (List.mem_of_getElem? (i := 10) rfl) rfl rfl (dq dkX10_bar_0 29 rfl) ?_
        refine v_bipush F (v := 8) (dq dkX10_bar_0 30 rfl) kb_8 ?_
        refine v_iald F 51 (xn (by decide)) xc_51 (ib_in (by decide)) (dq dkX10_bar_0 31 rfl) ?_
        refine v_mmin F (tc42 _ (List.mem_of_getElem? (i := 2) rfl)) (tc21 _ (List.mem_of_getElem? (i := 0) rfl)) (tc21 _ (List.mem_of_getElem? (i := 1) rfl)) (tc21 _ (List.mem_of_getElem? (i := 2) rfl)) (Nat.le_of_ble_eq_true rfl) (Nat.le_of_ble_eq_true rfl) (Nat.le_of_ble_eq_true rfl) (Nat.le_of_ble_eq_true rfl) (dq dkX10_bar_0 32 rfl) ?_
        refine v_istore F (ls' := [(4, .int (if (gi r7 51 (8 : Int32).toNatClampNeg) < (gi r7 51 (0 : Int32).toNatClampNeg) then (gi r7 51 (8 : Int32).toNatClampNeg) else (gi r7 51 (0 : Int32).toNatClampNeg))), (0, .ref (K.1 + 0)), (1, .int a1), (2, .int a2), (3, .int a3)]) (dq dkX10_bar_0 33 rfl) (by decide) rfl ?_
        refine v_aload_n F (dq dkX10_bar_0 34 rfl) rfl 1 rfl ?_
        refine v_get F 0 (xn (by decide)) xc_0 rfl inlX10 7 (by decide) (tc2 _ (List.mem_of_getElem? (i := 20) rfl)) rfl rfl (dq dkX10_bar_0 35 rfl) ?_
        refine v_iload_n F (dq dkX10_bar_0 36 rfl) rfl 3 rfl ?_
        obtain ⟨r9, e10, h⟩ := bd_of h
        refine v_callV 1 F (q := 48) (kc1 := 0) (ks1 := 0) (as := [.int a2]) (st := []) (st1 := (.int (b2i r9) :: [])) (res := (some (.int (b2i r9)))) (c_X2_sinks (l := C.2.1) r7 y a2 e10) (xn (by decide)) xc_48 rfl (tc39 _ (List.mem_of_getElem? (i := 9) rfl)) (tc39 _ (List.mem_of_getElem? (i := 10) rfl)) (tc39 _ (List.mem_of_getElem? (i := 11) rfl)) (tc2 _ (List.mem_of_getElem? (i := 19) rfl)) (tc39 _ (List.mem_of_getElem? (i := 12) rfl)) (by decide) rfl ⟨rfl, rfl, Nat.le_of_ble_eq_true rfl, Nat.le_of_ble_eq_true rfl⟩ ⟨Nat.le_of_ble_eq_true rfl, Nat.le_of_ble_eq_true rfl⟩ rfl (Nat.le_of_ble_eq_true rfl) rfl rfl rfl (dq dkX10_bar_0 37 rfl) ?_
        refine v_if_ne F (tgt := 96) (dq dkX10_bar_0 38 rfl) (by decide) (fun c11 => ?_) (fun c11 => ?_)
        · rw [if_neg c11] at h
          refine v_sub [] rfl ?_
          exact t_X10_bar_96 r7 h F E
        · rw [if_pos c11] at h
          refine v_iload F (dq dkX10_bar_0 39 rfl) 0 rfl ?_
          refine v_aload_n F (dq dkX10_bar_1 0 rfl) rfl 1 rfl ?_
          refine v_get F 0 (xn (by decide)) xc_0 rfl inlX10 7 (by decide) (tc2 _ (List.mem_of_getElem? (i := 20) rfl)) rfl rfl (dq dkX10_bar_1 1 rfl) ?_
          refine v_iload_n F (dq dkX10_bar_1 2 rfl) rfl 3 rfl ?_
          obtain ⟨r12, e13, h⟩ := bd_of h
          refine v_callV 1 F (q := 48) (kc1 := 0) (ks1 := 0) (as := [.int a2]) (st := [.int (if (gi r7 51 (8 : Int32).toNatClampNeg) < (gi r7 51 (0 : Int32).toNatClampNeg) then (gi r7 51 (8 : Int32).toNatClampNeg) else (gi r7 51 (0 : Int32).toNatClampNeg))]) (st1 := (.int r12 :: [.int (if (gi r7 51 (8 : Int32).toNatClampNeg) < (gi r7 51 (0 : Int32).toNatClampNeg) then (gi r7 51 (8 : Int32).toNatClampNeg) else (gi r7 51 (0 : Int32).toNatClampNeg))])) (res := (some (.int r12))) (c_X2_draught (l := C.2.1) r7 y a2 e13) (xn (by decide)) xc_48 rfl (tc40 _ (List.mem_of_getElem? (i := 6) rfl)) (tc39 _ (List.mem_of_getElem? (i := 14) rfl)) (tc39 _ (List.mem_of_getElem? (i := 15) rfl)) (tc2 _ (List.mem_of_getElem? (i := 19) rfl)) (tc39 _ (List.mem_of_getElem? (i := 16) rfl)) (by decide) rfl ⟨rfl, rfl, Nat.le_of_ble_eq_true rfl, Nat.le_of_ble_eq_true rfl⟩ ⟨Nat.le_of_ble_eq_true rfl, Nat.le_of_ble_eq_true rfl⟩ rfl (Nat.le_of_ble_eq_true rfl) rfl rfl rfl (dq dkX10_bar_1 3 rfl) ?_
          refine v_isub F (dq dkX10_bar_1 4 rfl) ?_
          refine v_iload_n F (dq dkX10_bar_1 5 rfl) rfl 4 rfl ?_
          refine v_icmp_lt F (tgt := 96) (dq dkX10_bar_1 6 rfl) (by decide) (fun c14 => ?_) (fun c14 => ?_)
          · rw [if_pos c14] at h
            refine v_sub [] rfl ?_
            exact t_X10_bar_96 r7 h F E
          · rw [if_neg c14] at h
            refine v_iconst F (v := 1) (dq dkX10_bar_1 7 rfl) ki_1 ?_
            refine v_goto F (tgt := 97) (dq dkX10_bar_1 8 rfl) (by decide) ?_
            have h := Option.some.inj h
            subst h
            exact v_iret F E (dq dkX10_bar_1 10 rfl)
      · rw [if_pos c6] at h
        refine v_sub [] rfl ?_
        exact t_X10_bar_33 x h F E
  · rw [if_pos c2] at h
    refine v_bipush F (v := (-5)) (dq dkX10_bar_0 4 rfl) kb_m5 ?_
    have h := Option.some.inj h
    subst h
    exact v_iret F E (dq dkX10_bar_0 5 rfl)
def rm_X10_tellsRings : Room := { frames := 3, cells := 0, slots := 0, locals := 72 }
def f_X10_tellsRings_14 (x : CS) : Nat → Option Nat → Int32 → Int32 → Option (Bool)
  | 0, _, _, _ => none
  | n + 1, a0, a1, a2 => oc a0 (if 5 ≤ a2 then (if a1 ≤ 0 then (some false) else (some true)) else none) (fun za0 => if 5 ≤ a2 then (if a1 ≤ 0 then (some false) else (some true)) else ((f_X4_at x za0 a2).bind fun r5 => if (b2i (f_X10_within r5 0 99)) = 0 then (some false) else ((f_X4_at x za0 a2).bind fun r9 => (f_X10_tellsRings_14 x n) (some za0) (a1 + r9) (a2 + 1))))
set_option maxRecDepth 100000 in
set_option maxHeartbeats 4000000 in
theorem t_X10_tellsRings_14 {C : Cx} {K : KE} {y : MS} {R : Bool}  (x : CS) (F : Fx C RX10 cX10_tellsRings 3 rm_X10_tellsRings K) (E : CE C (xf K x y) (some (.int (b2i R))) 0 0 (some .boolean)) : ∀ (n : Nat) (a0 : Option Nat) (a1 : Int32) (a2 : Int32) (h : f_X10_tellsRings_14 x n a0 a1 a2 = some R), V C 14 [(0, va_rf (a0.map (fun q => K.1 + q))), (1, .int a1), (2, .int a2)] [] (xf K x y) 0 0 := by
  intro n
  induction n with
  | zero => intro a0 a1 a2 h; cases h
  | succ n ih =>
    intro a0 a1 a2 h
    rw [f_X10_tellsRings_14] at h
    rcases a0 with _ | za0
    · have h := oc_nh h
      refine v_iload_n F (dq dkX10_tellsRings_0 10 rfl) rfl 2 rfl ?_
      refine v_iconst F (v := 5) (dq dkX10_tellsRings_0 11 rfl) ki_5 ?_
      refine v_icmp_ge F (tgt := 49) (dq dkX10_tellsRings_0 12 rfl) (by decide) (fun c1 => ?_) (fun c1 => ?_)
      · rw [if_pos c1] at h
        refine v_iload_n F (dq dkX10_tellsRings_0 30 rfl) rfl 1 rfl ?_
        refine v_if_le F (tgt := 57) (dq dkX10_tellsRings_0 31 rfl) (by decide) (fun c2 => ?_) (fun c2 => ?_)
        · rw [if_pos c2] at h
          refine v_iconst F (v := 0) (dq dkX10_tellsRings_0 34 rfl) ki_0 ?_
          have h := Option.some.inj h
          subst h
          exact v_zret F E (b2i_n false) (dq dkX10_tellsRings_0 35 rfl)
        · rw [if_neg c2] at h
          refine v_iconst F (v := 1) (dq dkX10_tellsRings_0 32 rfl) ki_1 ?_
          refine v_goto F (tgt := 58) (dq dkX10_tellsRings_0 33 rfl) (by decide) ?_
          have h := Option.some.inj h
          subst h
          exact v_zret F E (b2i_n true) (dq dkX10_tellsRings_0 35 rfl)
      · rw [if_neg c1] at h
        refine v_aload_nN F (dq dkX10_tellsRings_0 13 rfl) rfl 0 rfl ?_
        refine v_iload_n F (dq dkX10_tellsRings_0 14 rfl) rfl 2 rfl ?_
        cases h
    · have h := oc_sh h
      refine v_iload_n F (dq dkX10_tellsRings_0 10 rfl) rfl 2 rfl ?_
      refine v_iconst F (v := 5) (dq dkX10_tellsRings_0 11 rfl) ki_5 ?_
      refine v_icmp_ge F (tgt := 49) (dq dkX10_tellsRings_0 12 rfl) (by decide) (fun c3 => ?_) (fun c3 => ?_)
      · rw [if_pos c3] at h
        refine v_iload_n F (dq dkX10_tellsRings_0 30 rfl) rfl 1 rfl ?_
        refine v_if_le F (tgt := 57) (dq dkX10_tellsRings_0 31 rfl) (by decide) (fun c4 => ?_) (fun c4 => ?_)
        · rw [if_pos c4] at h
          refine v_iconst F (v := 0) (dq dkX10_tellsRings_0 34 rfl) ki_0 ?_
          have h := Option.some.inj h
          subst h
          exact v_zret F E (b2i_n false) (dq dkX10_tellsRings_0 35 rfl)
        · rw [if_neg c4] at h
          refine v_iconst F (v := 1) (dq dkX10_tellsRings_0 32 rfl) ki_1 ?_
          refine v_goto F (tgt := 58) (dq dkX10_tellsRings_0 33 rfl) (by decide) ?_
          have h := Option.some.inj h
          subst h
          exact v_zret F E (b2i_n true) (dq dkX10_tellsRings_0 35 rfl)
      · rw [if_neg c3] at h
        refine v_aload_n F (dq dkX10_tellsRings_0 13 rfl) rfl 0 rfl ?_
        refine v_iload_n F (dq dkX10_tellsRings_0 14 rfl) rfl 2 rfl ?_
        obtain ⟨r5, e6, h⟩ := bd_of h
        refine v_callV 1 F (q := za0) (kc1 := 0) (ks1 := 0) (as := [.int a2]) (st := []) (st1 := (.int r5 :: [])) (res := (some (.int r5))) (c_X4_at (l := C.2.1) x y za0 a2 e6) (kSh_lt (f_X4_at_k e6)) (kSh_at (f_X4_at_k e6)) rfl (tc35 _ (List.mem_of_getElem? (i := 7) rfl)) (tc35 _ (List.mem_of_getElem? (i := 8) rfl)) (tc35 _ (List.mem_of_getElem? (i := 9) rfl)) (tc2 _ (List.mem_of_getElem? (i := 22) rfl)) (tc35 _ (List.mem_of_getElem? (i := 10) rfl)) (by decide) rfl ⟨rfl, rfl, Nat.le_of_ble_eq_true rfl, Nat.le_of_ble_eq_true rfl⟩ ⟨Nat.le_of_ble_eq_true rfl, Nat.le_of_ble_eq_true rfl⟩ rfl (Nat.le_of_ble_eq_true rfl) rfl rfl rfl (dq dkX10_tellsRings_0 15 rfl) ?_
        refine v_iconst F (v := 0) (dq dkX10_tellsRings_0 16 rfl) ki_0 ?_
        refine v_bipush F (v := 99) (dq dkX10_tellsRings_0 17 rfl) kb_99 ?_
        refine v_callS 3 F (kc1 := 0) (ks1 := 0) (as := [.int r5, .int 0, .int 99]) (st := []) (st1 := (.int (b2i (f_X10_within r5 0 99)) :: [])) (res := (some (.int (b2i (f_X10_within r5 0 99))))) (c_X10_within (l := C.2.1) r5 0 99) (tc14 _ (List.mem_of_getElem? (i := 3) rfl)) (tc8 _ (List.mem_of_getElem? (i := 15) rfl)) (tc1 _ (List.mem_of_getElem? (i := 2) rfl)) (tc8 _ (List.mem_of_getElem? (i := 16) rfl)) (by decide) rfl ⟨rfl, rfl, Nat.le_of_ble_eq_true rfl, Nat.le_of_ble_eq_true rfl⟩ ⟨Nat.le_of_ble_eq_true rfl, Nat.le_of_ble_eq_true rfl⟩ rfl (Nat.le_of_ble_eq_true rfl) rfl rfl rfl (dq dkX10_tellsRings_0 18 rfl) ?_
        refine v_if_ne F (tgt := 35) (dq dkX10_tellsRings_0 19 rfl) (by decide) (fun c8 => ?_) (fun c8 => ?_)
        · rw [if_neg c8] at h
          refine v_iload_n F (dq dkX10_tellsRings_0 22 rfl) rfl 1 rfl ?_
          refine v_aload_n F (dq dkX10_tellsRings_0 23 rfl) rfl 0 rfl ?_
          refine v_iload_n F (dq dkX10_tellsRings_0 24 rfl) rfl 2 rfl ?_
          obtain ⟨r9, e10, h⟩ := bd_of h
          refine v_callV 1 F (q := za0) (kc1 := 0) (ks1 := 0) (as := [.int a2]) (st := [.int a1]) (st1 := (.int r9 :: [.int a1])) (res := (some (.int r9))) (c_X4_at (l := C.2.1) x y za0 a2 e10) (kSh_lt (f_X4_at_k e10)) (kSh_at (f_X4_at_k e10)) rfl (tc35 _ (List.mem_of_getElem? (i := 7) rfl)) (tc35 _ (List.mem_of_getElem? (i := 8) rfl)) (tc35 _ (List.mem_of_getElem? (i := 9) rfl)) (tc2 _ (List.mem_of_getElem? (i := 22) rfl)) (tc35 _ (List.mem_of_getElem? (i := 10) rfl)) (by decide) rfl ⟨rfl, rfl, Nat.le_of_ble_eq_true rfl, Nat.le_of_ble_eq_true rfl⟩ ⟨Nat.le_of_ble_eq_true rfl, Nat.le_of_ble_eq_true rfl⟩ rfl (Nat.le_of_ble_eq_true rfl) rfl rfl rfl (dq dkX10_tellsRings_0 25 rfl) ?_
          refine v_iadd F (dq dkX10_tellsRings_0 26 rfl) ?_
          refine v_istore_n F (ls' := [(1, .int (a1 + r9)), (0, .ref (K.1 + za0)), (2, .int a2)]) (dq dkX10_tellsRings_0 27 rfl) rfl (by decide) rfl ?_
          refine v_iinc F (v := a2 + 1) (ls' := [(2, .int (a2 + 1)), (1, .int (a1 + r9)), (0, .ref (K.1 + za0))]) (dq dkX10_tellsRings_0 28 rfl) (j := 2) rfl (kv_add ki_1) (by decide) rfl ?_
          refine v_goto F (tgt := 14) (dq dkX10_tellsRings_0 29 rfl) (by decide) ?_
          refine v_sub [2, 1, 0] rfl ?_
          exact ih (some za0) (a1 + r9) (a2 + 1) h
        · rw [if_pos c8] at h
          refine v_iconst F (v := 0) (dq dkX10_tellsRings_0 20 rfl) ki_0 ?_
          have h := Option.some.inj h
          subst h
          exact v_zret F E (b2i_n false) (dq dkX10_tellsRings_0 21 rfl)
def f_X10_tellsRings (x : CS) (a0 : Option Nat) : Option (Bool) := oc a0 none (fun za0 => gd (kSh za0) (if (gi x za0 2) = 5 then (f_X10_tellsRings_14 x 1000 (some za0) 0 0) else (some false)))
set_option maxRecDepth 100000 in
set_option maxHeartbeats 4000000 in
theorem c_X10_tellsRings {K : KE} {l : Launch} {R : Bool} (x : CS) (y : MS) (a0 : Option Nat) (h : f_X10_tellsRings x a0 = some R) : MC K l yX10_tellsRings cX10_tellsRings 3 (some .boolean) rm_X10_tellsRings 0 0 [va_rf (a0.map (fun q => K.1 + q))] (xf K x y) (xf K x y) (some (.int (b2i R))) := by
  unfold f_X10_tellsRings at h
  rcases a0 with _ | za0
  · have h := oc_nh h
    refine mc_of (ls0 := [(0, .null)]) (by decide) (Nat.le_of_ble_eq_true rfl) rfl (fun C hl hnm F E => ?_)
    have F : Fx C RX10 cX10_tellsRings 3 rm_X10_tellsRings K := F
    refine v_aload_nN F (dq dkX10_tellsRings_0 0 rfl) rfl 0 rfl ?_
    cases h
  · have h := oc_sh h
    refine mc_of (ls0 := [(0, .ref (K.1 + za0))]) (by decide) (Nat.le_of_ble_eq_true rfl) rfl (fun C hl hnm F E => ?_)
    have F : Fx C RX10 cX10_tellsRings 3 rm_X10_tellsRings K := F
    refine v_aload_n F (dq dkX10_tellsRings_0 0 rfl) rfl 0 rfl ?_
    obtain ⟨g11, h⟩ := gd_of h
    refine v_getN F za0 (kSh_lt g11) (kSh_at g11) rfl inlX4 2 (by decide) (List.mem_of_getElem? (i := 16) rfl) rfl rfl (dq dkX10_tellsRings_0 1 rfl) ?_
    refine v_iconst F (v := 5) (dq dkX10_tellsRings_0 2 rfl) ki_5 ?_
    refine v_icmp_eq F (tgt := 10) (dq dkX10_tellsRings_0 3 rfl) (by decide) (fun c12 => ?_) (fun c12 => ?_)
    · rw [if_pos c12] at h
      refine v_iconst F (v := 0) (dq dkX10_tellsRings_0 6 rfl) ki_0 ?_
      refine v_istore_n F (ls' := [(1, .int 0), (0, .ref (K.1 + za0))]) (dq dkX10_tellsRings_0 7 rfl) rfl (by decide) rfl ?_
      refine v_iconst F (v := 0) (dq dkX10_tellsRings_0 8 rfl) ki_0 ?_
      refine v_istore_n F (ls' := [(2, .int 0), (1, .int 0), (0, .ref (K.1 + za0))]) (dq dkX10_tellsRings_0 9 rfl) rfl (by decide) rfl ?_
      refine v_sub [2, 1, 0] rfl ?_
      exact t_X10_tellsRings_14 x F E 1000 (some za0) 0 0 h
    · rw [if_neg c12] at h
      refine v_iconst F (v := 0) (dq dkX10_tellsRings_0 4 rfl) ki_0 ?_
      have h := Option.some.inj h
      subst h
      exact v_zret F E (b2i_n false) (dq dkX10_tellsRings_0 5 rfl)
def rm_X10_tree : Room := { frames := 4, cells := 2, slots := 10, locals := 98 }
def f_X10_tree_31 (x : CS) : Option (Int32 × CS) := some ((-2), x)
set_option maxRecDepth 100000 in
set_option maxHeartbeats 4000000 in
theorem t_X10_tree_31 {C : Cx} {K : KE} {y : MS} {R : Int32 × CS}  (x : CS) (kc ks : Nat) (hkc : kc + (0) ≤ 2) (hks : ks + (0) ≤ 10) (h : f_X10_tree_31 x = some R) (F : Fx C RX10 cX10_tree 6 rm_X10_tree K) (E : CE C (xf K R.2 y) (some (.int R.1)) 2 10 (some .int)) : V C 31 [] [] (xf K x y) kc ks := by
  unfold f_X10_tree_31 at h
  refine v_bipush F (v := (-2)) (dq dkX10_tree_0 15 rfl) kb_m2 ?_
  have h := Option.some.inj h
  subst h
  refine v_wide (kc' := 2) (ks1 := 10) (by omega) (by omega) ?_
  exact v_iret F E (dq dkX10_tree_0 16 rfl)
def f_X10_tree_55 (x : CS) (a5 : Option Nat) : Option (Int32 × CS) := oc a5 ((f_X10_refusalFor none).bind fun r1 => some (r1, x)) (fun za5 => (f_X10_refusalFor (some za5)).bind fun r3 => some (r3, x))
set_option maxRecDepth 100000 in
set_option maxHeartbeats 4000000 in
theorem t_X10_tree_55 {C : Cx} {K : KE} {y : MS} {R : Int32 × CS}  (x : CS) (a5 : Option Nat) (kc ks : Nat) (hkc : kc + (0) ≤ 2) (hks : ks + (0) ≤ 10) (h : f_X10_tree_55 x a5 = some R) (F : Fx C RX10 cX10_tree 6 rm_X10_tree K) (E : CE C (xf K R.2 y) (some (.int R.1)) 2 10 (some .int)) : V C 55 [(5, va_rf (a5.map (fun q => K.1 + q)))] [] (xf K x y) kc ks := by
  unfold f_X10_tree_55 at h
  rcases a5 with _ | za5
  · have h := oc_nh h
    refine v_aloadN F (dq dkX10_tree_0 26 rfl) 0 rfl ?_
    obtain ⟨r1, e2, h⟩ := bd_of h
    refine v_callS 1 F (kc1 := kc) (ks1 := ks) (as := [.null]) (st := []) (st1 := (.int r1 :: [])) (res := (some (.int r1))) (c_X10_refusalFor (l := C.2.1) none e2) (tc35 _ (List.mem_of_getElem? (i := 4) rfl)) (tc35 _ (List.mem_of_getElem? (i := 5) rfl)) (tc1 _ (List.mem_of_getElem? (i := 2) rfl)) (tc35 _ (List.mem_of_getElem? (i := 6) rfl)) (by decide) rfl ⟨rfl, rfl, Nat.le_of_ble_eq_true rfl, Nat.le_of_ble_eq_true rfl⟩ ⟨by show kc + 0 ≤ 2; omega, by show ks + 0 ≤ 10; omega⟩ rfl (Nat.le_of_ble_eq_true rfl) rfl rfl rfl (dq dkX10_tree_0 27 rfl) ?_
    have h := Option.some.inj h
    subst h
    refine v_wide (kc' := 2) (ks1 := 10) (by omega) (by omega) ?_
    exact v_iret F E (dq dkX10_tree_0 28 rfl)
  · have h := oc_sh h
    refine v_aload F (dq dkX10_tree_0 26 rfl) 0 rfl ?_
    obtain ⟨r3, e4, h⟩ := bd_of h
    refine v_callS 1 F (kc1 := kc) (ks1 := ks) (as := [.ref (K.1 + za5)]) (st := []) (st1 := (.int r3 :: [])) (res := (some (.int r3))) (c_X10_refusalFor (l := C.2.1) (some za5) e4) (tc35 _ (List.mem_of_getElem? (i := 4) rfl)) (tc35 _ (List.mem_of_getElem? (i := 5) rfl)) (tc1 _ (List.mem_of_getElem? (i := 2) rfl)) (tc35 _ (List.mem_of_getElem? (i := 6) rfl)) (by decide) rfl ⟨rfl, rfl, Nat.le_of_ble_eq_true rfl, Nat.le_of_ble_eq_true rfl⟩ ⟨by show kc + 0 ≤ 2; omega, by show ks + 0 ≤ 10; omega⟩ rfl (Nat.le_of_ble_eq_true rfl) rfl rfl rfl (dq dkX10_tree_0 27 rfl) ?_
    have h := Option.some.inj h
    subst h
    refine v_wide (kc' := 2) (ks1 := 10) (by omega) (by omega) ?_
    exact v_iret F E (dq dkX10_tree_0 28 rfl)
def f_X10_tree (x : CS) (a1 : Int32) (a2 : Int32) (a3 : Int32) (a4 : Int32) : Option (Int32 × CS) := if (b2i (f_X10_within a1 1 99)) = 0 then (f_X10_tree_31 x) else (if (b2i (f_X10_within a2 (-9) 9)) = 0 then (f_X10_tree_31 x) else (if (b2i (f_X10_within a3 0 9)) = 0 then (f_X10_tree_31 x) else ((f_X10_sheetAt x a4).bind fun r11 => oc r11 (f_X10_tree_55 x none) (fun s13 => (f_X4_isMissing x s13).bind fun r14 => if (b2i r14) = 0 then ((f_X10_tellsRings x (some s13)).bind fun r17 => if (b2i r17) = 0 then (some ((-2), x)) else ((f_X1_add x a1 a2 a3 (some s13)).bind fun r20 => some (r20.1, r20.2))) else (f_X10_tree_55 x (some s13))))))
set_option maxRecDepth 100000 in
set_option maxHeartbeats 4000000 in
theorem c_X10_tree {K : KE} {l : Launch} {R : Int32 × CS} (x : CS) (y : MS) (a1 : Int32) (a2 : Int32) (a3 : Int32) (a4 : Int32) (h : f_X10_tree x a1 a2 a3 a4 = some R) : MC K l yX10_tree cX10_tree 6 (some .int) rm_X10_tree 2 10 [.ref (K.1 + 0), .int a1, .int a2, .int a3, .int a4] (xf K x y) (xf K R.2 y) (some (.int R.1)) := by
  unfold f_X10_tree at h
  refine mc_of (ls0 := [(0, .ref (K.1 + 0)), (1, .int a1), (2, .int a2), (3, .int a3), (4, .int a4)]) (by decide) (Nat.le_of_ble_eq_true rfl) rfl (fun C hl hnm F E => ?_)
  have F : Fx C RX10 cX10_tree 6 rm_X10_tree K := F
  refine v_iload_n F (dq dkX10_tree_0 0 rfl) rfl 1 rfl ?_
  refine v_iconst F (v := 1) (dq dkX10_tree_0 1 rfl) ki_1 ?_
  refine v_bipush F (v := 99) (dq dkX10_tree_0 2 rfl) kb_99 ?_
  refine v_callS 3 F (kc1 := 0) (ks1 := 0) (as := [.int a1, .int 1, .int 99]) (st := []) (st1 := (.int (b2i (f_X10_within a1 1 99)) :: [])) (res := (some (.int (b2i (f_X10_within a1 1 99))))) (c_X10_within (l := C.2.1) a1 1 99) (tc14 _ (List.mem_of_getElem? (i := 3) rfl)) (tc8 _ (List.mem_of_getElem? (i := 15) rfl)) (tc1 _ (List.mem_of_getElem? (i := 2) rfl)) (tc8 _ (List.mem_of_getElem? (i := 16) rfl)) (by decide) rfl ⟨rfl, rfl, Nat.le_of_ble_eq_true rfl, Nat.le_of_ble_eq_true rfl⟩ ⟨by show 0 + 0 ≤ 2; omega, by show 0 + 0 ≤ 10; omega⟩ rfl (Nat.le_of_ble_eq_true rfl) rfl rfl rfl (dq dkX10_tree_0 3 rfl) ?_
  refine v_if_eq F (tgt := 31) (dq dkX10_tree_0 4 rfl) (by decide) (fun c6 => ?_) (fun c6 => ?_)
  · rw [if_pos c6] at h
    refine v_sub [] rfl ?_
    exact t_X10_tree_31 x (0) (0) (by omega) (by omega) h F E
  · rw [if_neg c6] at h
    refine v_iload_n F (dq dkX10_tree_0 5 rfl) rfl 2 rfl ?_
    refine v_bipush F (v := (-9)) (dq dkX10_tree_0 6 rfl) kb_m9 ?_
    refine v_bipush F (v := 9) (dq dkX10_tree_0 7 rfl) kb_9 ?_
    refine v_callS 3 F (kc1 := 0) (ks1 := 0) (as := [.int a2, .int (-9), .int 9]) (st := []) (st1 := (.int (b2i (f_X10_within a2 (-9) 9)) :: [])) (res := (some (.int (b2i (f_X10_within a2 (-9) 9))))) (c_X10_within (l := C.2.1) a2 (-9) 9) (tc14 _ (List.mem_of_getElem? (i := 3) rfl)) (tc8 _ (List.mem_of_getElem? (i := 15) rfl)) (tc1 _ (List.mem_of_getElem? (i := 2) rfl)) (tc8 _ (List.mem_of_getElem? (i := 16) rfl)) (by decide) rfl ⟨rfl, rfl, Nat.le_of_ble_eq_true rfl, Nat.le_of_ble_eq_true rfl⟩ ⟨by show 0 + 0 ≤ 2; omega, by show 0 + 0 ≤ 10; omega⟩ rfl (Nat.le_of_ble_eq_true rfl) rfl rfl rfl (dq dkX10_tree_0 8 rfl) ?_
    refine v_if_eq F (tgt := 31) (dq dkX10_tree_0 9 rfl) (by decide) (fun c8 => ?_) (fun c8 => ?_)
    · rw [if_pos c8] at h
      refine v_sub [] rfl ?_
      exact t_X10_tree_31 x (0) (0) (by omega) (by omega) h F E
    · rw [if_neg c8] at h
      refine v_iload_n F (dq dkX10_tree_0 10 rfl) rfl 3 rfl ?_
      refine v_iconst F (v := 0) (dq dkX10_tree_0 11 rfl) ki_0 ?_
      refine v_bipush F (v := 9) (dq dkX10_tree_0 12 rfl) kb_9 ?_
      refine v_callS 3 F (kc1 := 0) (ks1 := 0) (as := [.int a3, .int 0, .int 9]) (st := []) (st1 := (.int (b2i (f_X10_within a3 0 9)) :: [])) (res := (some (.int (b2i (f_X10_within a3 0 9))))) (c_X10_within (l := C.2.1) a3 0 9) (tc14 _ (List.mem_of_getElem? (i := 3) rfl)) (tc8 _ (List.mem_of_getElem? (i := 15) rfl)) (tc1 _ (List.mem_of_getElem? (i := 2) rfl)) (tc8 _ (List.mem_of_getElem? (i := 16) rfl)) (by decide) rfl ⟨rfl, rfl, Nat.le_of_ble_eq_true rfl, Nat.le_of_ble_eq_true rfl⟩ ⟨by show 0 + 0 ≤ 2; omega, by show 0 + 0 ≤ 10; omega⟩ rfl (Nat.le_of_ble_eq_true rfl) rfl rfl rfl (dq dkX10_tree_0 13 rfl) ?_
      refine v_if_ne F (tgt := 34) (dq dkX10_tree_0 14 rfl) (by decide) (fun c10 => ?_) (fun c10 => ?_)
      · rw [if_neg c10] at h
        refine v_aload_n F (dq dkX10_tree_0 17 rfl) rfl 0 rfl ?_
        refine v_iload F (dq dkX10_tree_0 18 rfl) 4 rfl ?_
        obtain ⟨r11, e12, h⟩ := bd_of h
        refine v_callV 1 F (q := 0) (kc1 := 0) (ks1 := 0) (as := [.int a4]) (st := []) (st1 := (va_rf (r11.map (fun q => K.1 + q)) :: [])) (res := (some (va_rf (r11.map (fun q => K.1 + q))))) (c_X10_sheetAt (l := C.2.1) x y a4 e12) (xn (by decide)) xc_0 rfl (tc34 _ (List.mem_of_getElem? (i := 17) rfl)) (tc34 _ (List.mem_of_getElem? (i := 18) rfl)) (tc34 _ (List.mem_of_getElem? (i := 19) rfl)) (tc1 _ (List.mem_of_getElem? (i := 2) rfl)) (tc34 _ (List.mem_of_getElem? (i := 20) rfl)) (by decide) rfl ⟨rfl, rfl, Nat.le_of_ble_eq_true rfl, Nat.le_of_ble_eq_true rfl⟩ ⟨by show 0 + 0 ≤ 2; omega, by show 0 + 0 ≤ 10; omega⟩ rfl (Nat.le_of_ble_eq_true rfl) rfl rfl rfl (dq dkX10_tree_0 19 rfl) ?_
        rcases r11 with _ | s13
        · have h := oc_nh h
          refine v_astoreN F (ls' := [(5, .null), (0, .ref (K.1 + 0)), (1, .int a1), (2, .int a2), (3, .int a3), (4, .int a4)]) (dq dkX10_tree_0 20 rfl) (by decide) rfl ?_
          refine v_aloadN F (dq dkX10_tree_0 21 rfl) 0 rfl ?_
          refine v_ifnullN F (tgt := 55) (dq dkX10_tree_0 22 rfl) (by decide) ?_
          refine v_sub [0] rfl ?_
          exact t_X10_tree_55 x none (0) (0) (by omega) (by omega) h F E
        · have h := oc_sh h
          refine v_astore F (ls' := [(5, .ref (K.1 + s13)), (0, .ref (K.1 + 0)), (1, .int a1), (2, .int a2), (3, .int a3), (4, .int a4)]) (dq dkX10_tree_0 20 rfl) (by decide) rfl ?_
          refine v_aload F (dq dkX10_tree_0 21 rfl) 0 rfl ?_
          refine v_ifnull F (dq dkX10_tree_0 22 rfl) ?_
          refine v_aload F (dq dkX10_tree_0 23 rfl) 0 rfl ?_
          obtain ⟨r14, e15, h⟩ := bd_of h
          refine v_callV 0 F (q := s13) (kc1 := 0) (ks1 := 0) (as := []) (st := []) (st1 := (.int (b2i r14) :: [])) (res := (some (.int (b2i r14)))) (c_X4_isMissing (l := C.2.1) x y s13 e15) (kSh_lt (f_X4_isMissing_k e15)) (kSh_at (f_X4_isMissing_k e15)) rfl (tc35 _ (List.mem_of_getElem? (i := 0) rfl)) (tc35 _ (List.mem_of_getElem? (i := 1) rfl)) (tc35 _ (List.mem_of_getElem? (i := 2) rfl)) (tc2 _ (List.mem_of_getElem? (i := 22) rfl)) (tc35 _ (List.mem_of_getElem? (i := 3) rfl)) (by decide) rfl ⟨rfl, rfl, Nat.le_of_ble_eq_true rfl, Nat.le_of_ble_eq_true rfl⟩ ⟨by show 0 + 0 ≤ 2; omega, by show 0 + 0 ≤ 10; omega⟩ rfl (Nat.le_of_ble_eq_true rfl) rfl rfl rfl (dq dkX10_tree_0 24 rfl) ?_
          refine v_if_eq F (tgt := 61) (dq dkX10_tree_0 25 rfl) (by decide) (fun c16 => ?_) (fun c16 => ?_)
          · rw [if_pos c16] at h
            refine v_aload F (dq dkX10_tree_0 29 rfl) 0 rfl ?_
            obtain ⟨r17, e18, h⟩ := bd_of h
            refine v_callS 1 F (kc1 := 0) (ks1 := 0) (as := [.ref (K.1 + s13)]) (st := []) (st1 := (.int (b2i r17) :: [])) (res := (some (.int (b2i r17)))) (c_X10_tellsRings (l := C.2.1) x y (some s13) e18) (tc42 _ (List.mem_of_getElem? (i := 11) rfl)) (tc42 _ (List.mem_of_getElem? (i := 12) rfl)) (tc1 _ (List.mem_of_getElem? (i := 2) rfl)) (tc42 _ (List.mem_of_getElem? (i := 13) rfl)) (by decide) rfl ⟨rfl, rfl, Nat.le_of_ble_eq_true rfl, Nat.le_of_ble_eq_true rfl⟩ ⟨by show 0 + 0 ≤ 2; omega, by show 0 + 0 ≤ 10; omega⟩ rfl (Nat.le_of_ble_eq_true rfl) rfl rfl rfl (dq dkX10_tree_0 30 rfl) ?_
            refine v_if_ne F (tgt := 72) (dq dkX10_tree_0 31 rfl) (by decide) (fun c19 => ?_) (fun c19 => ?_)
            · rw [if_neg c19] at h
              refine v_aload_n F (dq dkX10_tree_0 34 rfl) rfl 1 rfl ?_
              refine v_get F 0 (xn (by decide)) xc_0 rfl inlX10 4 (by decide) (tc2 _ (List.mem_of_getElem? (i := 8) rfl)) rfl rfl (dq dkX10_tree_0 35 rfl) ?_
              refine v_iload_n F (dq dkX10_tree_0 36 rfl) rfl 2 rfl ?_
              refine v_iload_n F (dq dkX10_tree_0 37 rfl) rfl 3 rfl ?_
              refine v_iload_n F (dq dkX10_tree_0 38 rfl) rfl 4 rfl ?_
              refine v_aload F (dq dkX10_tree_0 39 rfl) 0 rfl ?_
              obtain ⟨r20, e21, h⟩ := bd_of h
              refine v_callV 4 F (q := 34) (kc1 := 0 + 2) (ks1 := 0 + 10) (as := [.int a1, .int a2, .int a3, .ref (K.1 + s13)]) (st := []) (st1 := (.int r20.1 :: [])) (res := (some (.int r20.1))) (c_X1_add (l := C.2.1) x y a1 a2 a3 (some s13) e21) (xn (by decide)) xc_34 rfl (tc42 _ (List.mem_of_getElem? (i := 14) rfl)) (tc42 _ (List.mem_of_getElem? (i := 15) rfl)) (tc42 _ (List.mem_of_getElem? (i := 16) rfl)) (tc2 _ (List.mem_of_getElem? (i := 7) rfl)) (tc42 _ (List.mem_of_getElem? (i := 17) rfl)) (by decide) rfl ⟨rfl, rfl, Nat.le_of_ble_eq_true rfl, Nat.le_of_ble_eq_true rfl⟩ ⟨by show 0 + 2 ≤ 2; omega, by show 0 + 10 ≤ 10; omega⟩ rfl (Nat.le_of_ble_eq_true rfl) rfl rfl rfl (dq dkX10_tree_1 0 rfl) ?_
              have h := Option.some.inj h
              subst h
              refine v_wide (kc' := 2) (ks1 := 10) (by omega) (by omega) ?_
              exact v_iret F E (dq dkX10_tree_1 1 rfl)
            · rw [if_pos c19] at h
              refine v_bipush F (v := (-2)) (dq dkX10_tree_0 32 rfl) kb_m2 ?_
              have h := Option.some.inj h
              subst h
              refine v_wide (kc' := 2) (ks1 := 10) (by omega) (by omega) ?_
              exact v_iret F E (dq dkX10_tree_0 33 rfl)
          · rw [if_neg c16] at h
            refine v_sub [0] rfl ?_
            exact t_X10_tree_55 x (some s13) (0) (0) (by omega) (by omega) h F E
      · rw [if_pos c10] at h
        refine v_sub [] rfl ?_
        exact t_X10_tree_31 x (0) (0) (by omega) (by omega) h F E
def rm_X10_bore : Room := { frames := 2, cells := 0, slots := 0, locals := 52 }
def f_X10_bore (x : CS) (a1 : Int32) (a2 : Int32) : Option (Int32 × CS) := (f_X1_at x a1).bind fun r1 => oc r1 (some ((-5), x)) (fun s3 => if (b2i (f_X10_within a2 (-1) 4)) = 0 then (some ((-7), x)) else (gd (kTr x s3) (gd (kTr x s3) (some (ti x s3 4, pti x s3 4 a2)))))
set_option maxRecDepth 100000 in
set_option maxHeartbeats 4000000 in
theorem c_X10_bore {K : KE} {l : Launch} {R : Int32 × CS} (x : CS) (y : MS) (a1 : Int32) (a2 : Int32) (h : f_X10_bore x a1 a2 = some R) : MC K l yX10_bore cX10_bore 5 (some .int) rm_X10_bore 0 0 [.ref (K.1 + 0), .int a1, .int a2] (xf K x y) (xf K R.2 y) (some (.int R.1)) := by
  unfold f_X10_bore at h
  refine mc_of (ls0 := [(0, .ref (K.1 + 0)), (1, .int a1), (2, .int a2)]) (by decide) (Nat.le_of_ble_eq_true rfl) rfl (fun C hl hnm F E => ?_)
  have F : Fx C RX10 cX10_bore 5 rm_X10_bore K := F
  refine v_aload_n F (dq dkX10_bore_0 0 rfl) rfl 0 rfl ?_
  refine v_get F 0 (xn (by decide)) xc_0 rfl inlX10 4 (by decide) (tc2 _ (List.mem_of_getElem? (i := 8) rfl)) rfl rfl (dq dkX10_bore_0 1 rfl) ?_
  refine v_iload_n F (dq dkX10_bore_0 2 rfl) rfl 1 rfl ?_
  obtain ⟨r1, e2, h⟩ := bd_of h
  refine v_callV 1 F (q := 34) (kc1 := 0) (ks1 := 0) (as := [.int a1]) (st := []) (st1 := (va_rf (r1.map (fun q => K.1 + q)) :: [])) (res := (some (va_rf (r1.map (fun q => K.1 + q))))) (c_X1_at (l := C.2.1) x y a1 e2) (xn (by decide)) xc_34 rfl (tc43 _ (List.mem_of_getElem? (i := 13) rfl)) (tc43 _ (List.mem_of_getElem? (i := 14) rfl)) (tc43 _ (List.mem_of_getElem? (i := 15) rfl)) (tc2 _ (List.mem_of_getElem? (i := 7) rfl)) (tc43 _ (List.mem_of_getElem? (i := 16) rfl)) (by decide) rfl ⟨rfl, rfl, Nat.le_of_ble_eq_true rfl, Nat.le_of_ble_eq_true rfl⟩ ⟨Nat.le_of_ble_eq_true rfl, Nat.le_of_ble_eq_true rfl⟩ rfl (Nat.le_of_ble_eq_true rfl) rfl rfl rfl (dq dkX10_bore_0 3 rfl) ?_
  rcases r1 with _ | s3
  · have h := oc_nh h
    refine v_astore_nN F (ls' := [(3, .null), (0, .ref (K.1 + 0)), (1, .int a1), (2, .int a2)]) (dq dkX10_bore_0 4 rfl) rfl (by decide) rfl ?_
    refine v_aload_nN F (dq dkX10_bore_0 5 rfl) rfl 0 rfl ?_
    refine v_ifnonnullN F (dq dkX10_bore_0 6 rfl) ?_
    refine v_bipush F (v := (-5)) (dq dkX10_bore_0 7 rfl) kb_m5 ?_
    have h := Option.some.inj h
    subst h
    exact v_iret F E (dq dkX10_bore_0 8 rfl)
  · have h := oc_sh h
    refine v_astore_n F (ls' := [(3, .ref (K.1 + s3)), (0, .ref (K.1 + 0)), (1, .int a1), (2, .int a2)]) (dq dkX10_bore_0 4 rfl) rfl (by decide) rfl ?_
    refine v_aload_n F (dq dkX10_bore_0 5 rfl) rfl 0 rfl ?_
    refine v_ifnonnull F (tgt := 16) (dq dkX10_bore_0 6 rfl) (by decide) ?_
    refine v_iload_n F (dq dkX10_bore_0 9 rfl) rfl 3 rfl ?_
    refine v_iconst F (v := (-1)) (dq dkX10_bore_0 10 rfl) ki_m1 ?_
    refine v_iconst F (v := 4) (dq dkX10_bore_0 11 rfl) ki_4 ?_
    refine v_callS 3 F (kc1 := 0) (ks1 := 0) (as := [.int a2, .int (-1), .int 4]) (st := []) (st1 := (.int (b2i (f_X10_within a2 (-1) 4)) :: [])) (res := (some (.int (b2i (f_X10_within a2 (-1) 4))))) (c_X10_within (l := C.2.1) a2 (-1) 4) (tc14 _ (List.mem_of_getElem? (i := 3) rfl)) (tc8 _ (List.mem_of_getElem? (i := 15) rfl)) (tc1 _ (List.mem_of_getElem? (i := 2) rfl)) (tc8 _ (List.mem_of_getElem? (i := 16) rfl)) (by decide) rfl ⟨rfl, rfl, Nat.le_of_ble_eq_true rfl, Nat.le_of_ble_eq_true rfl⟩ ⟨Nat.le_of_ble_eq_true rfl, Nat.le_of_ble_eq_true rfl⟩ rfl (Nat.le_of_ble_eq_true rfl) rfl rfl rfl (dq dkX10_bore_0 12 rfl) ?_
    refine v_if_ne F (tgt := 28) (dq dkX10_bore_0 13 rfl) (by decide) (fun c5 => ?_) (fun c5 => ?_)
    · rw [if_neg c5] at h
      refine v_aload_n F (dq dkX10_bore_0 16 rfl) rfl 0 rfl ?_
      obtain ⟨g6, h⟩ := gd_of h
      refine v_getN F s3 (kTr_lt g6) (kTr_at g6) rfl inlX7 4 (by decide) (List.mem_of_getElem? (i := 25) rfl) rfl rfl (dq dkX10_bore_0 17 rfl) ?_
      refine v_istore F (ls' := [(4, .int (ti x s3 4)), (3, .ref (K.1 + s3)), (0, .ref (K.1 + 0)), (1, .int a1), (2, .int a2)]) (dq dkX10_bore_0 18 rfl) (by decide) rfl ?_
      refine v_aload_n F (dq dkX10_bore_0 19 rfl) rfl 1 rfl ?_
      refine v_iload_n F (dq dkX10_bore_0 20 rfl) rfl 4 rfl ?_
      obtain ⟨g7, h⟩ := gd_of h
      refine v_putN F s3 (kTr_lt g7) (kTr_at g7) rfl inlX7 tyX7_ok nmX7 4 (by decide) (List.mem_of_getElem? (i := 25) rfl) rfl rfl (tyX7_ok 4 (by decide)) rfl rfl (Nat.le_of_ble_eq_true rfl) (dq dkX10_bore_0 21 rfl) ?_
      refine v_eqM (kTr_w (j := 4) (v := a2) g7 rfl) ?_
      refine v_iload F (dq dkX10_bore_0 22 rfl) 0 rfl ?_
      have h := Option.some.inj h
      subst h
      exact v_iret F E (dq dkX10_bore_0 23 rfl)
    · rw [if_pos c5] at h
      refine v_bipush F (v := (-7)) (dq dkX10_bore_0 14 rfl) kb_m7 ?_
      have h := Option.some.inj h
      subst h
      exact v_iret F E (dq dkX10_bore_0 15 rfl)
def rm_X10_worth : Room := { frames := 4, cells := 7, slots := 14, locals := 98 }
def f_X10_worth (x : CS) (a1 : Int32) (a2 : Int32) : Option (Int64 × CS) := (f_X1_at x a1).bind fun r1 => oc r1 (some ((-4611686018427387904), x)) (fun s3 => (f_X7_mean x s3).bind fun (r4o, r4x) => oc r4o none (fun s6 => (f_X0_part r4x s6 a2).bind fun r7 => some (r7, r4x)))
set_option maxRecDepth 100000 in
set_option maxHeartbeats 4000000 in
theorem c_X10_worth {K : KE} {l : Launch} {R : Int64 × CS} (x : CS) (y : MS) (a1 : Int32) (a2 : Int32) (h : f_X10_worth x a1 a2 = some R) : MC K l yX10_worth cX10_worth 4 (some .long) rm_X10_worth 7 14 [.ref (K.1 + 0), .int a1, .int a2] (xf K x y) (xf K R.2 y) (some (.long R.1)) := by
  unfold f_X10_worth at h
  refine mc_of (ls0 := [(0, .ref (K.1 + 0)), (1, .int a1), (2, .int a2)]) (by decide) (Nat.le_of_ble_eq_true rfl) rfl (fun C hl hnm F E => ?_)
  have F : Fx C RX10 cX10_worth 4 rm_X10_worth K := F
  refine v_aload_n F (dq dkX10_worth_0 0 rfl) rfl 0 rfl ?_
  refine v_get F 0 (xn (by decide)) xc_0 rfl inlX10 4 (by decide) (tc2 _ (List.mem_of_getElem? (i := 8) rfl)) rfl rfl (dq dkX10_worth_0 1 rfl) ?_
  refine v_iload_n F (dq dkX10_worth_0 2 rfl) rfl 1 rfl ?_
  obtain ⟨r1, e2, h⟩ := bd_of h
  refine v_callV 1 F (q := 34) (kc1 := 0) (ks1 := 0) (as := [.int a1]) (st := []) (st1 := (va_rf (r1.map (fun q => K.1 + q)) :: [])) (res := (some (va_rf (r1.map (fun q => K.1 + q))))) (c_X1_at (l := C.2.1) x y a1 e2) (xn (by decide)) xc_34 rfl (tc43 _ (List.mem_of_getElem? (i := 13) rfl)) (tc43 _ (List.mem_of_getElem? (i := 14) rfl)) (tc43 _ (List.mem_of_getElem? (i := 15) rfl)) (tc2 _ (List.mem_of_getElem? (i := 7) rfl)) (tc43 _ (List.mem_of_getElem? (i := 16) rfl)) (by decide) rfl ⟨rfl, rfl, Nat.le_of_ble_eq_true rfl, Nat.le_of_ble_eq_true rfl⟩ ⟨by show 0 + 0 ≤ 7; omega, by show 0 + 0 ≤ 14; omega⟩ rfl (Nat.le_of_ble_eq_true rfl) rfl rfl rfl (dq dkX10_worth_0 3 rfl) ?_
  rcases r1 with _ | s3
  · have h := oc_nh h
    refine v_astore_nN F (ls' := [(3, .null), (0, .ref (K.1 + 0)), (1, .int a1), (2, .int a2)]) (dq dkX10_worth_0 4 rfl) rfl (by decide) rfl ?_
    refine v_aload_nN F (dq dkX10_worth_0 5 rfl) rfl 0 rfl ?_
    refine v_ifnonnullN F (dq dkX10_worth_0 6 rfl) ?_
    refine v_ldc2 F (v := (-4611686018427387904)) (tc32 _ (List.mem_of_getElem? (i := 11) rfl)) (dq dkX10_worth_0 7 rfl) ?_
    refine v_goto F (tgt := 27) (dq dkX10_worth_0 8 rfl) (by decide) ?_
    have h := Option.some.inj h
    subst h
    refine v_wide (kc' := 7) (ks1 := 14) (by omega) (by omega) ?_
    exact v_lret F E (dq dkX10_worth_0 13 rfl)
  · have h := oc_sh h
    refine v_astore_n F (ls' := [(3, .ref (K.1 + s3)), (0, .ref (K.1 + 0)), (1, .int a1), (2, .int a2)]) (dq dkX10_worth_0 4 rfl) rfl (by decide) rfl ?_
    refine v_aload_n F (dq dkX10_worth_0 5 rfl) rfl 0 rfl ?_
    refine v_ifnonnull F (tgt := 19) (dq dkX10_worth_0 6 rfl) (by decide) ?_
    refine v_aload_n F (dq dkX10_worth_0 9 rfl) rfl 0 rfl ?_
    obtain ⟨r4, e5, h⟩ := bd_of h
    obtain ⟨r4o, r4x⟩ := r4
    dsimp only at h
    refine v_callV 0 F (q := s3) (kc1 := 0 + 7) (ks1 := 0 + 14) (as := []) (st := []) (st1 := (va_rf (r4o.map (fun q => K.1 + q)) :: [])) (res := (some (va_rf (r4o.map (fun q => K.1 + q))))) (c_X7_mean (l := C.2.1) x y s3 e5) (kTr_lt (f_X7_mean_k e5)) (kTr_at (f_X7_mean_k e5)) rfl (tc44 _ (List.mem_of_getElem? (i := 5) rfl)) (tc44 _ (List.mem_of_getElem? (i := 6) rfl)) (tc44 _ (List.mem_of_getElem? (i := 7) rfl)) (tc42 _ (List.mem_of_getElem? (i := 19) rfl)) (tc44 _ (List.mem_of_getElem? (i := 8) rfl)) (by decide) rfl ⟨rfl, rfl, Nat.le_of_ble_eq_true rfl, Nat.le_of_ble_eq_true rfl⟩ ⟨by show 0 + 7 ≤ 7; omega, by show 0 + 14 ≤ 14; omega⟩ rfl (Nat.le_of_ble_eq_true rfl) rfl rfl rfl (dq dkX10_worth_0 10 rfl) ?_
    rcases r4o with _ | s6
    · have h := oc_nh h
      refine v_iload_n F (dq dkX10_worth_0 11 rfl) rfl 3 rfl ?_
      cases h
    · have h := oc_sh h
      refine v_iload_n F (dq dkX10_worth_0 11 rfl) rfl 3 rfl ?_
      obtain ⟨r7, e8, h⟩ := bd_of h
      refine v_callV 1 F (q := s6) (kc1 := 0 + 7) (ks1 := 0 + 14) (as := [.int a2]) (st := []) (st1 := (.long r7 :: [])) (res := (some (.long r7))) (c_X0_part (l := C.2.1) r4x y s6 a2 e8) (kFr_lt (f_X0_part_k e8)) (kFr_at (f_X0_part_k e8)) rfl (tc33 _ (List.mem_of_getElem? (i := 8) rfl)) (tc33 _ (List.mem_of_getElem? (i := 9) rfl)) (tc33 _ (List.mem_of_getElem? (i := 10) rfl)) (tc32 _ (List.mem_of_getElem? (i := 14) rfl)) (tc33 _ (List.mem_of_getElem? (i := 11) rfl)) (by decide) rfl ⟨rfl, rfl, Nat.le_of_ble_eq_true rfl, Nat.le_of_ble_eq_true rfl⟩ ⟨by show 0 + 7 + 0 ≤ 7; omega, by show 0 + 14 + 0 ≤ 14; omega⟩ rfl (Nat.le_of_ble_eq_true rfl) rfl rfl rfl (dq dkX10_worth_0 12 rfl) ?_
      have h := Option.some.inj h
      subst h
      refine v_wide (kc' := 7) (ks1 := 14) (by omega) (by omega) ?_
      exact v_lret F E (dq dkX10_worth_0 13 rfl)
def rm_X10_which : Room := { frames := 6, cells := 112, slots := 224, locals := 143 }
def f_X10_which (x : CS) : Option (Int32 × CS) := (f_X1_bestBut x (-1)).bind fun r1 => some (r1.1, r1.2)
set_option maxRecDepth 100000 in
set_option maxHeartbeats 4000000 in
theorem c_X10_which {K : KE} {l : Launch} {R : Int32 × CS} (x : CS) (y : MS) (h : f_X10_which x = some R) : MC K l yX10_which cX10_which 1 (some .int) rm_X10_which 112 224 [.ref (K.1 + 0)] (xf K x y) (xf K R.2 y) (some (.int R.1)) := by
  unfold f_X10_which at h
  refine mc_of (ls0 := [(0, .ref (K.1 + 0))]) (by decide) (Nat.le_of_ble_eq_true rfl) rfl (fun C hl hnm F E => ?_)
  have F : Fx C RX10 cX10_which 1 rm_X10_which K := F
  refine v_aload_n F (dq dkX10_which_0 0 rfl) rfl 0 rfl ?_
  refine v_get F 0 (xn (by decide)) xc_0 rfl inlX10 4 (by decide) (tc2 _ (List.mem_of_getElem? (i := 8) rfl)) rfl rfl (dq dkX10_which_0 1 rfl) ?_
  refine v_iconst F (v := (-1)) (dq dkX10_which_0 2 rfl) ki_m1 ?_
  obtain ⟨r1, e2, h⟩ := bd_of h
  refine v_callV 1 F (q := 34) (kc1 := 0 + 112) (ks1 := 0 + 224) (as := [.int (-1)]) (st := []) (st1 := (.int r1.1 :: [])) (res := (some (.int r1.1))) (c_X1_bestBut (l := C.2.1) x y (-1) e2) (xn (by decide)) xc_34 rfl (tc45 _ (List.mem_of_getElem? (i := 16) rfl)) (tc45 _ (List.mem_of_getElem? (i := 17) rfl)) (tc45 _ (List.mem_of_getElem? (i := 18) rfl)) (tc2 _ (List.mem_of_getElem? (i := 7) rfl)) (tc45 _ (List.mem_of_getElem? (i := 19) rfl)) (by decide) rfl ⟨rfl, rfl, Nat.le_of_ble_eq_true rfl, Nat.le_of_ble_eq_true rfl⟩ ⟨by show 0 + 112 ≤ 112; omega, by show 0 + 224 ≤ 224; omega⟩ rfl (Nat.le_of_ble_eq_true rfl) rfl rfl rfl (dq dkX10_which_0 3 rfl) ?_
  have h := Option.some.inj h
  subst h
  refine v_wide (kc' := 112) (ks1 := 224) (by omega) (by omega) ?_
  exact v_iret F E (dq dkX10_which_0 4 rfl)
def rm_X10_boring : Room := { frames := 7, cells := 126, slots := 252, locals := 175 }
def f_X10_boring (x : CS) (a1 : Int32) (a2 : Int32) : Option (Int64 × CS) := (f_X1_at x a1).bind fun r1 => oc r1 (some ((-4611686018427387904), x)) (fun s3 => (f_X1_holeWorth x a1).bind fun (r4o, r4x) => oc r4o none (fun s6 => (f_X0_part r4x s6 a2).bind fun r7 => some (r7, r4x)))
set_option maxRecDepth 100000 in
set_option maxHeartbeats 4000000 in
theorem c_X10_boring {K : KE} {l : Launch} {R : Int64 × CS} (x : CS) (y : MS) (a1 : Int32) (a2 : Int32) (h : f_X10_boring x a1 a2 = some R) : MC K l yX10_boring cX10_boring 3 (some .long) rm_X10_boring 126 252 [.ref (K.1 + 0), .int a1, .int a2] (xf K x y) (xf K R.2 y) (some (.long R.1)) := by
  unfold f_X10_boring at h
  refine mc_of (ls0 := [(0, .ref (K.1 + 0)), (1, .int a1), (2, .int a2)]) (by decide) (Nat.le_of_ble_eq_true rfl) rfl (fun C hl hnm F E => ?_)
  have F : Fx C RX10 cX10_boring 3 rm_X10_boring K := F
  refine v_aload_n F (dq dkX10_boring_0 0 rfl) rfl 0 rfl ?_
  refine v_get F 0 (xn (by decide)) xc_0 rfl inlX10 4 (by decide) (tc2 _ (List.mem_of_getElem? (i := 8) rfl)) rfl rfl (dq dkX10_boring_0 1 rfl) ?_
  refine v_iload_n F (dq dkX10_boring_0 2 rfl) rfl 1 rfl ?_
  obtain ⟨r1, e2, h⟩ := bd_of h
  refine v_callV 1 F (q := 34) (kc1 := 0) (ks1 := 0) (as := [.int a1]) (st := []) (st1 := (va_rf (r1.map (fun q => K.1 + q)) :: [])) (res := (some (va_rf (r1.map (fun q => K.1 + q))))) (c_X1_at (l := C.2.1) x y a1 e2) (xn (by decide)) xc_34 rfl (tc43 _ (List.mem_of_getElem? (i := 13) rfl)) (tc43 _ (List.mem_of_getElem? (i := 14) rfl)) (tc43 _ (List.mem_of_getElem? (i := 15) rfl)) (tc2 _ (List.mem_of_getElem? (i := 7) rfl)) (tc43 _ (List.mem_of_getElem? (i := 16) rfl)) (by decide) rfl ⟨rfl, rfl, Nat.le_of_ble_eq_true rfl, Nat.le_of_ble_eq_true rfl⟩ ⟨by show 0 + 0 ≤ 126; omega, by show 0 + 0 ≤ 252; omega⟩ rfl (Nat.le_of_ble_eq_true rfl) rfl rfl rfl (dq dkX10_boring_0 3 rfl) ?_
  rcases r1 with _ | s3
  · have h := oc_nh h
    refine v_ifnonnullN F (dq dkX10_boring_0 4 rfl) ?_
    refine v_ldc2 F (v := (-4611686018427387904)) (tc32 _ (List.mem_of_getElem? (i := 11) rfl)) (dq dkX10_boring_0 5 rfl) ?_
    refine v_goto F (tgt := 29) (dq dkX10_boring_0 6 rfl) (by decide) ?_
    have h := Option.some.inj h
    subst h
    refine v_wide (kc' := 126) (ks1 := 252) (by omega) (by omega) ?_
    exact v_lret F E (dq dkX10_boring_0 13 rfl)
  · have h := oc_sh h
    refine v_ifnonnull F (tgt := 17) (dq dkX10_boring_0 4 rfl) (by decide) ?_
    refine v_aload_n F (dq dkX10_boring_0 7 rfl) rfl 0 rfl ?_
    refine v_get F 0 (xn (by decide)) xc_0 rfl inlX10 4 (by decide) (tc2 _ (List.mem_of_getElem? (i := 8) rfl)) rfl rfl (dq dkX10_boring_0 8 rfl) ?_
    refine v_iload_n F (dq dkX10_boring_0 9 rfl) rfl 1 rfl ?_
    obtain ⟨r4, e5, h⟩ := bd_of h
    obtain ⟨r4o, r4x⟩ := r4
    dsimp only at h
    refine v_callV 1 F (q := 34) (kc1 := 0 + 126) (ks1 := 0 + 252) (as := [.int a1]) (st := []) (st1 := (va_rf (r4o.map (fun q => K.1 + q)) :: [])) (res := (some (va_rf (r4o.map (fun q => K.1 + q))))) (c_X1_holeWorth (l := C.2.1) x y a1 e5) (xn (by decide)) xc_34 rfl (tc46 _ (List.mem_of_getElem? (i := 20) rfl)) (tc46 _ (List.mem_of_getElem? (i := 21) rfl)) (tc46 _ (List.mem_of_getElem? (i := 22) rfl)) (tc2 _ (List.mem_of_getElem? (i := 7) rfl)) (tc46 _ (List.mem_of_getElem? (i := 23) rfl)) (by decide) rfl ⟨rfl, rfl, Nat.le_of_ble_eq_true rfl, Nat.le_of_ble_eq_true rfl⟩ ⟨by show 0 + 126 ≤ 126; omega, by show 0 + 252 ≤ 252; omega⟩ rfl (Nat.le_of_ble_eq_true rfl) rfl rfl rfl (dq dkX10_boring_0 10 rfl) ?_
    rcases r4o with _ | s6
    · have h := oc_nh h
      refine v_iload_n F (dq dkX10_boring_0 11 rfl) rfl 2 rfl ?_
      cases h
    · have h := oc_sh h
      refine v_iload_n F (dq dkX10_boring_0 11 rfl) rfl 2 rfl ?_
      obtain ⟨r7, e8, h⟩ := bd_of h
      refine v_callV 1 F (q := s6) (kc1 := 0 + 126) (ks1 := 0 + 252) (as := [.int a2]) (st := []) (st1 := (.long r7 :: [])) (res := (some (.long r7))) (c_X0_part (l := C.2.1) r4x y s6 a2 e8) (kFr_lt (f_X0_part_k e8)) (kFr_at (f_X0_part_k e8)) rfl (tc33 _ (List.mem_of_getElem? (i := 8) rfl)) (tc33 _ (List.mem_of_getElem? (i := 9) rfl)) (tc33 _ (List.mem_of_getElem? (i := 10) rfl)) (tc32 _ (List.mem_of_getElem? (i := 14) rfl)) (tc33 _ (List.mem_of_getElem? (i := 11) rfl)) (by decide) rfl ⟨rfl, rfl, Nat.le_of_ble_eq_true rfl, Nat.le_of_ble_eq_true rfl⟩ ⟨by show 0 + 126 + 0 ≤ 126; omega, by show 0 + 252 + 0 ≤ 252; omega⟩ rfl (Nat.le_of_ble_eq_true rfl) rfl rfl rfl (dq dkX10_boring_0 12 rfl) ?_
      have h := Option.some.inj h
      subst h
      refine v_wide (kc' := 126) (ks1 := 252) (by omega) (by omega) ?_
      exact v_lret F E (dq dkX10_boring_0 13 rfl)
