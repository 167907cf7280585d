def rm_X6_spells : Room := { frames := 5, cells := 0, slots := 0, locals := 200 }
def f_X6_spells_20 (x : CS) : Nat → Nat → Int32 → Option (Bool)
  | 0, _, _ => none
  | n + 1, a1, a2 => gd (decide (a1 < 13)) (if (nI (sLen.getD a1 0) >>> ((0 : Int32) &&& 31)) ≤ a2 then (some true) else ((f_X6_byteAt x ((gi x 26 9) + a2)).bind fun r3 => gd (decide (a1 < 13)) (gd (ib a2 (tln a1)) (if r3 = (tch a1 a2.toNatClampNeg) then ((f_X6_spells_20 x n) a1 (a2 + 1)) else (some false)))))
set_option maxRecDepth 100000 in
set_option maxHeartbeats 4000000 in
theorem t_X6_spells_20 {C : Cx} {K : KE} {y : MS} {R : Bool}  (x : CS) (F : Fx C RX6 cX6_spells 3 rm_X6_spells K) (E : CE C (xf K x y) (some (.int (b2i R))) 0 0 (some .boolean)) : ∀ (n : Nat) (a1 : Nat) (a2 : Int32) (h : f_X6_spells_20 x n a1 a2 = some R), V C 20 [(0, .ref (K.1 + 26)), (1, .ref (K.2.2.2 (10 + a1))), (2, .int a2)] [] (xf K x y) 0 0 := by
  intro n
  induction n with
  | zero => intro a1 a2 h; cases h
  | succ n ih =>
    intro a1 a2 h
    rw [f_X6_spells_20] at h
    refine v_iload_n F (dq dkX6_spells_0 12 rfl) rfl 2 rfl ?_
    refine v_aload_n F (dq dkX6_spells_0 13 rfl) rfl 1 rfl ?_
    obtain ⟨g1, h⟩ := gd_of h
    refine v_callT 0 a1 F (kc1 := 0) (ks1 := 0) (as := []) (st := [.int a2]) (st1 := (.int (nI (sLen.getD a1 0) >>> ((0 : Int32) &&& 31)) :: [.int a2])) (res := (some (.int (nI (sLen.getD a1 0) >>> ((0 : Int32) &&& 31))))) (c_J0_length_8abf5 (l := C.2.1) a1 (of_decide_eq_true g1)) (of_decide_eq_true g1) (tc9 _ (List.mem_of_getElem? (i := 1) rfl)) (tc5 _ (List.mem_of_getElem? (i := 20) rfl)) (tc5 _ (List.mem_of_getElem? (i := 21) rfl)) (tc5 _ (List.mem_of_getElem? (i := 22) rfl)) (tc5 _ (List.mem_of_getElem? (i := 23) rfl)) (by decide) rfl ⟨rfl, rfl, Nat.le_of_ble_eq_true rfl, Nat.le_of_ble_eq_true rfl⟩ ⟨Nat.le_of_ble_eq_true rfl, Nat.le_of_ble_eq_true rfl⟩ rfl (Nat.le_of_ble_eq_true rfl) rfl rfl rfl (dq dkX6_spells_0 14 rfl) ?_
    refine v_icmp_ge F (tgt := 54) (dq dkX6_spells_0 15 rfl) (by decide) (fun c2 => ?_) (fun c2 => ?_)
    · rw [if_pos c2] at h
      refine v_iconst F (v := 1) (dq dkX6_spells_0 30 rfl) ki_1 ?_
      have h := Option.some.inj h
      subst h
      exact v_zret F E (b2i_n true) (dq dkX6_spells_0 31 rfl)
    · rw [if_neg c2] at h
      refine v_aload_n F (dq dkX6_spells_0 16 rfl) rfl 0 rfl ?_
      refine v_aload_n F (dq dkX6_spells_0 17 rfl) rfl 0 rfl ?_
      refine v_get F 26 (xn (by decide)) xc_26 rfl inlX6 9 (by decide) (tc4 _ (List.mem_of_getElem? (i := 5) rfl)) rfl rfl (dq dkX6_spells_0 18 rfl) ?_
      refine v_iload_n F (dq dkX6_spells_0 19 rfl) rfl 2 rfl ?_
      refine v_iadd F (dq dkX6_spells_0 20 rfl) ?_
      obtain ⟨r3, e4, h⟩ := bd_of h
      refine v_callV 1 F (q := 26) (kc1 := 0) (ks1 := 0) (as := [.int ((gi x 26 9) + a2)]) (st := []) (st1 := (.int r3 :: [])) (res := (some (.int r3))) (c_X6_byteAt (l := C.2.1) x y ((gi x 26 9) + a2) e4) (xn (by decide)) xc_26 rfl (tc8 _ (List.mem_of_getElem? (i := 8) rfl)) (tc8 _ (List.mem_of_getElem? (i := 9) rfl)) (tc8 _ (List.mem_of_getElem? (i := 10) rfl)) (tc1 _ (List.mem_of_getElem? (i := 23) rfl)) (tc8 _ (List.mem_of_getElem? (i := 11) rfl)) (by decide) rfl ⟨rfl, rfl, Nat.le_of_ble_eq_true rfl, Nat.le_of_ble_eq_true rfl⟩ ⟨Nat.le_of_ble_eq_true rfl, Nat.le_of_ble_eq_true rfl⟩ rfl (Nat.le_of_ble_eq_true rfl) rfl rfl rfl (dq dkX6_spells_0 21 rfl) ?_
      refine v_aload_n F (dq dkX6_spells_0 22 rfl) rfl 1 rfl ?_
      refine v_iload_n F (dq dkX6_spells_0 23 rfl) rfl 2 rfl ?_
      obtain ⟨g5, h⟩ := gd_of h
      obtain ⟨g6, h⟩ := gd_of h
      refine v_callT 1 a1 F (kc1 := 0) (ks1 := 0) (as := [.int a2]) (st := [.int r3]) (st1 := (.int (tch a1 a2.toNatClampNeg) :: [.int r3])) (res := (some (.int (tch a1 a2.toNatClampNeg)))) (c_J0_charAt_5068e (l := C.2.1) a1 (of_decide_eq_true g5) a2 g6) (of_decide_eq_true g5) (tc9 _ (List.mem_of_getElem? (i := 2) rfl)) (tc6 _ (List.mem_of_getElem? (i := 8) rfl)) (tc6 _ (List.mem_of_getElem? (i := 9) rfl)) (tc5 _ (List.mem_of_getElem? (i := 22) rfl)) (tc6 _ (List.mem_of_getElem? (i := 10) rfl)) (by decide) rfl ⟨rfl, rfl, Nat.le_of_ble_eq_true rfl, Nat.le_of_ble_eq_true rfl⟩ ⟨Nat.le_of_ble_eq_true rfl, Nat.le_of_ble_eq_true rfl⟩ rfl (Nat.le_of_ble_eq_true rfl) rfl rfl rfl (dq dkX6_spells_0 24 rfl) ?_
      refine v_icmp_eq F (tgt := 48) (dq dkX6_spells_0 25 rfl) (by decide) (fun c7 => ?_) (fun c7 => ?_)
      · rw [if_pos c7] at h
        refine v_iinc F (v := a2 + 1) (ls' := [(2, .int (a2 + 1)), (0, .ref (K.1 + 26)), (1, .ref (K.2.2.2 (10 + a1)))]) (dq dkX6_spells_0 28 rfl) (j := 2) rfl (kv_add ki_1) (by decide) rfl ?_
        refine v_goto F (tgt := 20) (dq dkX6_spells_0 29 rfl) (by decide) ?_
        refine v_sub [1, 2, 0] rfl ?_
        exact ih a1 (a2 + 1) h
      · rw [if_neg c7] at h
        refine v_iconst F (v := 0) (dq dkX6_spells_0 26 rfl) ki_0 ?_
        have h := Option.some.inj h
        subst h
        exact v_zret F E (b2i_n false) (dq dkX6_spells_0 27 rfl)
def f_X6_spells (x : CS) (a1 : Nat) : Option (Bool) := gd (decide (a1 < 13)) (if ((gi x 26 7) - (gi x 26 9)) = (nI (sLen.getD a1 0) >>> ((0 : Int32) &&& 31)) then (f_X6_spells_20 x 1000 a1 0) else (some false))
set_option maxRecDepth 100000 in
set_option maxHeartbeats 4000000 in
theorem c_X6_spells {K : KE} {l : Launch} {R : Bool} (x : CS) (y : MS) (a1 : Nat) (h : f_X6_spells x a1 = some R) : MC K l yX6_spells cX6_spells 3 (some .boolean) rm_X6_spells 0 0 [.ref (K.1 + 26), .ref (K.2.2.2 (10 + a1))] (xf K x y) (xf K x y) (some (.int (b2i R))) := by
  unfold f_X6_spells at h
  refine mc_of (ls0 := [(0, .ref (K.1 + 26)), (1, .ref (K.2.2.2 (10 + a1)))]) (by decide) (Nat.le_of_ble_eq_true rfl) rfl (fun C hl hnm F E => ?_)
  have F : Fx C RX6 cX6_spells 3 rm_X6_spells K := F
  refine v_aload_n F (dq dkX6_spells_0 0 rfl) rfl 0 rfl ?_
  refine v_get F 26 (xn (by decide)) xc_26 rfl inlX6 7 (by decide) (tc4 _ (List.mem_of_getElem? (i := 3) rfl)) rfl rfl (dq dkX6_spells_0 1 rfl) ?_
  refine v_aload_n F (dq dkX6_spells_0 2 rfl) rfl 0 rfl ?_
  refine v_get F 26 (xn (by decide)) xc_26 rfl inlX6 9 (by decide) (tc4 _ (List.mem_of_getElem? (i := 5) rfl)) rfl rfl (dq dkX6_spells_0 3 rfl) ?_
  refine v_isub F (dq dkX6_spells_0 4 rfl) ?_
  refine v_aload_n F (dq dkX6_spells_0 5 rfl) rfl 1 rfl ?_
  obtain ⟨g8, h⟩ := gd_of h
  refine v_callT 0 a1 F (kc1 := 0) (ks1 := 0) (as := []) (st := [.int ((gi x 26 7) - (gi x 26 9))]) (st1 := (.int (nI (sLen.getD a1 0) >>> ((0 : Int32) &&& 31)) :: [.int ((gi x 26 7) - (gi x 26 9))])) (res := (some (.int (nI (sLen.getD a1 0) >>> ((0 : Int32) &&& 31))))) (c_J0_length_8abf5 (l := C.2.1) a1 (of_decide_eq_true g8)) (of_decide_eq_true g8) (tc9 _ (List.mem_of_getElem? (i := 1) rfl)) (tc5 _ (List.mem_of_getElem? (i := 20) rfl)) (tc5 _ (List.mem_of_getElem? (i := 21) rfl)) (tc5 _ (List.mem_of_getElem? (i := 22) rfl)) (tc5 _ (List.mem_of_getElem? (i := 23) rfl)) (by decide) rfl ⟨rfl, rfl, Nat.le_of_ble_eq_true rfl, Nat.le_of_ble_eq_true rfl⟩ ⟨Nat.le_of_ble_eq_true rfl, Nat.le_of_ble_eq_true rfl⟩ rfl (Nat.le_of_ble_eq_true rfl) rfl rfl rfl (dq dkX6_spells_0 6 rfl) ?_
  refine v_icmp_eq F (tgt := 18) (dq dkX6_spells_0 7 rfl) (by decide) (fun c9 => ?_) (fun c9 => ?_)
  · rw [if_pos c9] at h
    refine v_iconst F (v := 0) (dq dkX6_spells_0 10 rfl) ki_0 ?_
    refine v_istore_n F (ls' := [(2, .int 0), (0, .ref (K.1 + 26)), (1, .ref (K.2.2.2 (10 + a1)))]) (dq dkX6_spells_0 11 rfl) rfl (by decide) rfl ?_
    refine v_sub [1, 2, 0] rfl ?_
    exact t_X6_spells_20 x F E 1000 a1 0 h
  · rw [if_neg c9] at h
    refine v_iconst F (v := 0) (dq dkX6_spells_0 8 rfl) ki_0 ?_
    have h := Option.some.inj h
    subst h
    exact v_zret F E (b2i_n false) (dq dkX6_spells_0 9 rfl)
