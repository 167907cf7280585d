def rm_X11_wished : Room := { frames := 3, cells := 0, slots := 0, locals := 75 }
def f_X11_wished (y : MS) (a1 : Int32) (a2 : Int32) (a3 : Int32) : Option (Int32) := if (b2i (f_X11_isSection a3)) = 0 then (some (-5)) else (if (b2i (f_X11_in a2 0 12)) = 0 then (some (-7)) else ((f_X11_widthsWrong y a1).bind fun r5 => if r5 = 0 then ((f_X11_forWish y a1 a2 a3).bind fun r8 => if (b2i (f_X11_in r8 1 99)) = 0 then (some (-1)) else (some r8)) else (some r5)))
set_option maxRecDepth 100000 in
set_option maxHeartbeats 4000000 in
theorem c_X11_wished {K : KE} {l : Launch} {R : Int32} (x : CS) (y : MS) (a1 : Int32) (a2 : Int32) (a3 : Int32) (h : f_X11_wished y a1 a2 a3 = some R) : MC K l yX11_wished cX11_wished 6 (some .int) rm_X11_wished 0 0 [.ref (K.1 + 61), .int a1, .int a2, .int a3] (xf K x y) (xf K x y) (some (.int R)) := by
  refine mc_of (ls0 := [(0, .ref (K.1 + 61)), (1, .int a1), (2, .int a2), (3, .int a3)]) (by decide) (Nat.le_of_ble_eq_true rfl) rfl (fun C hl F E => ?_)
  have F : Fx C RX11 cX11_wished 6 rm_X11_wished K := F
  unfold f_X11_wished at h
  refine v_iload_n F (dq dkX11_wished_0 0 rfl) rfl 3 rfl ?_
  refine v_callS 1 F (as := [.int a3]) (st := []) (st1 := (.int (b2i (f_X11_isSection a3)) :: [])) (res := (some (.int (b2i (f_X11_isSection a3))))) (c_X11_isSection (l := C.2.1) a3) (tc14 _ (List.mem_of_getElem? (i := 22) rfl)) (tc14 _ (List.mem_of_getElem? (i := 23) rfl)) (tc1 _ (List.mem_of_getElem? (i := 5) rfl)) (tc15 _ (List.mem_of_getElem? (i := 0) rfl)) (by decide) rfl ⟨rfl, rfl, Nat.le_of_ble_eq_true rfl, Nat.le_of_ble_eq_true rfl⟩ ⟨Nat.le_of_ble_eq_true rfl, Nat.le_of_ble_eq_true rfl⟩ rfl (Nat.le_of_ble_eq_true rfl) rfl rfl rfl (dq dkX11_wished_0 1 rfl) ?_
  refine v_if_ne F (tgt := 10) (dq dkX11_wished_0 2 rfl) (by decide) (fun c2 => ?_) (fun c2 => ?_)
  · rw [if_neg c2] at h
    refine v_iload_n F (dq dkX11_wished_0 5 rfl) rfl 2 rfl ?_
    refine v_iconst F (v := 0) (dq dkX11_wished_0 6 rfl) ki_0 ?_
    refine v_bipush F (v := 12) (dq dkX11_wished_0 7 rfl) kb_12 ?_
    refine v_callS 3 F (as := [.int a2, .int 0, .int 12]) (st := []) (st1 := (.int (b2i (f_X11_in a2 0 12)) :: [])) (res := (some (.int (b2i (f_X11_in a2 0 12))))) (c_X11_in (l := C.2.1) a2 0 12) (tc15 _ (List.mem_of_getElem? (i := 1) rfl)) (tc15 _ (List.mem_of_getElem? (i := 2) rfl)) (tc1 _ (List.mem_of_getElem? (i := 5) rfl)) (tc15 _ (List.mem_of_getElem? (i := 3) rfl)) (by decide) rfl ⟨rfl, rfl, Nat.le_of_ble_eq_true rfl, Nat.le_of_ble_eq_true rfl⟩ ⟨Nat.le_of_ble_eq_true rfl, Nat.le_of_ble_eq_true rfl⟩ rfl (Nat.le_of_ble_eq_true rfl) rfl rfl rfl (dq dkX11_wished_0 8 rfl) ?_
    refine v_if_ne F (tgt := 23) (dq dkX11_wished_0 9 rfl) (by decide) (fun c4 => ?_) (fun c4 => ?_)
    · rw [if_neg c4] at h
      refine v_aload_n F (dq dkX11_wished_0 12 rfl) rfl 0 rfl ?_
      refine v_iload_n F (dq dkX11_wished_0 13 rfl) rfl 1 rfl ?_
      obtain ⟨r5, e6, h⟩ := bd_of h
      refine v_callV 1 F (q := 61) (as := [.int a1]) (st := []) (st1 := (.int r5 :: [])) (res := (some (.int r5))) (c_X11_widthsWrong (l := C.2.1) x y a1 e6) (xn (by decide)) xc_61 rfl (tc35 _ (List.mem_of_getElem? (i := 23) rfl)) (tc36 _ (List.mem_of_getElem? (i := 0) rfl)) (tc36 _ (List.mem_of_getElem? (i := 1) rfl)) (tc1 _ (List.mem_of_getElem? (i := 5) rfl)) (tc36 _ (List.mem_of_getElem? (i := 2) rfl)) (by decide) rfl ⟨rfl, rfl, Nat.le_of_ble_eq_true rfl, Nat.le_of_ble_eq_true rfl⟩ ⟨Nat.le_of_ble_eq_true rfl, Nat.le_of_ble_eq_true rfl⟩ rfl (Nat.le_of_ble_eq_true rfl) rfl rfl rfl (dq dkX11_wished_0 14 rfl) ?_
      refine v_istore F (ls' := [(4, .int r5), (0, .ref (K.1 + 61)), (1, .int a1), (2, .int a2), (3, .int a3)]) (dq dkX11_wished_0 15 rfl) (by decide) rfl ?_
      refine v_iload F (dq dkX11_wished_0 16 rfl) 0 rfl ?_
      refine v_if_eq F (tgt := 38) (dq dkX11_wished_0 17 rfl) (by decide) (fun c7 => ?_) (fun c7 => ?_)
      · rw [if_pos c7] at h
        refine v_aload_n F (dq dkX11_wished_0 20 rfl) rfl 1 rfl ?_
        refine v_iload_n F (dq dkX11_wished_0 21 rfl) rfl 2 rfl ?_
        refine v_iload_n F (dq dkX11_wished_0 22 rfl) rfl 3 rfl ?_
        refine v_iload_n F (dq dkX11_wished_0 23 rfl) rfl 4 rfl ?_
        obtain ⟨r8, e9, h⟩ := bd_of h
        refine v_callV 3 F (q := 61) (as := [.int a1, .int a2, .int a3]) (st := []) (st1 := (.int r8 :: [])) (res := (some (.int r8))) (c_X11_forWish (l := C.2.1) x y a1 a2 a3 e9) (xn (by decide)) xc_61 rfl (tc36 _ (List.mem_of_getElem? (i := 3) rfl)) (tc36 _ (List.mem_of_getElem? (i := 4) rfl)) (tc36 _ (List.mem_of_getElem? (i := 5) rfl)) (tc1 _ (List.mem_of_getElem? (i := 5) rfl)) (tc36 _ (List.mem_of_getElem? (i := 6) rfl)) (by decide) rfl ⟨rfl, rfl, Nat.le_of_ble_eq_true rfl, Nat.le_of_ble_eq_true rfl⟩ ⟨Nat.le_of_ble_eq_true rfl, Nat.le_of_ble_eq_true rfl⟩ rfl (Nat.le_of_ble_eq_true rfl) rfl rfl rfl (dq dkX11_wished_0 24 rfl) ?_
        refine v_istore F (ls' := [(5, .int r8), (4, .int r5), (0, .ref (K.1 + 61)), (1, .int a1), (2, .int a2), (3, .int a3)]) (dq dkX11_wished_0 25 rfl) (by decide) rfl ?_
        refine v_iload F (dq dkX11_wished_0 26 rfl) 0 rfl ?_
        refine v_iconst F (v := 1) (dq dkX11_wished_0 27 rfl) ki_1 ?_
        refine v_bipush F (v := 99) (dq dkX11_wished_0 28 rfl) kb_99 ?_
        refine v_callS 3 F (as := [.int r8, .int 1, .int 99]) (st := []) (st1 := (.int (b2i (f_X11_in r8 1 99)) :: [])) (res := (some (.int (b2i (f_X11_in r8 1 99))))) (c_X11_in (l := C.2.1) r8 1 99) (tc15 _ (List.mem_of_getElem? (i := 1) rfl)) (tc15 _ (List.mem_of_getElem? (i := 2) rfl)) (tc1 _ (List.mem_of_getElem? (i := 5) rfl)) (tc15 _ (List.mem_of_getElem? (i := 3) rfl)) (by decide) rfl ⟨rfl, rfl, Nat.le_of_ble_eq_true rfl, Nat.le_of_ble_eq_true rfl⟩ ⟨Nat.le_of_ble_eq_true rfl, Nat.le_of_ble_eq_true rfl⟩ rfl (Nat.le_of_ble_eq_true rfl) rfl rfl rfl (dq dkX11_wished_0 29 rfl) ?_
        refine v_if_eq F (tgt := 63) (dq dkX11_wished_0 30 rfl) (by decide) (fun c11 => ?_) (fun c11 => ?_)
        · rw [if_pos c11] at h
          refine v_iconst F (v := (-1)) (dq dkX11_wished_0 33 rfl) ki_m1 ?_
          cases h
          exact v_iret F E (dq dkX11_wished_0 34 rfl)
        · rw [if_neg c11] at h
          refine v_iload F (dq dkX11_wished_0 31 rfl) 0 rfl ?_
          refine v_goto F (tgt := 64) (dq dkX11_wished_0 32 rfl) (by decide) ?_
          cases h
          exact v_iret F E (dq dkX11_wished_0 34 rfl)
      · rw [if_neg c7] at h
        refine v_iload F (dq dkX11_wished_0 18 rfl) 0 rfl ?_
        cases h
        exact v_iret F E (dq dkX11_wished_0 19 rfl)
    · rw [if_pos c4] at h
      refine v_bipush F (v := (-7)) (dq dkX11_wished_0 10 rfl) kb_m7 ?_
      cases h
      exact v_iret F E (dq dkX11_wished_0 11 rfl)
  · rw [if_pos c2] at h
    refine v_bipush F (v := (-5)) (dq dkX11_wished_0 3 rfl) kb_m5 ?_
    cases h
    exact v_iret F E (dq dkX11_wished_0 4 rfl)
def rm_X11_canBe : Room := { frames := 3, cells := 0, slots := 0, locals := 73 }
def f_X11_canBe_2 (y : MS) : Nat → Int32 → Int32 → Int32 → Option (Bool)
  | 0, _, _, _ => none
  | n + 1, a1, a2, a3 => if 9 ≤ a3 then (some true) else ((f_X11_forWish y a1 a2 a3).bind fun r2 => if (b2i (f_X11_in r2 1 99)) = 0 then (some false) else ((f_X11_canBe_2 y n) a1 a2 (a3 + 1)))
set_option maxRecDepth 100000 in
set_option maxHeartbeats 4000000 in
theorem t_X11_canBe_2 {C : Cx} {K : KE} {x : CS} {R : Bool}  (y : MS) (F : Fx C RX11 cX11_canBe 4 rm_X11_canBe K) (E : CE C (xf K x y) (some (.int (b2i R))) 0 0 (some .boolean)) : ∀ (n : Nat) (a1 : Int32) (a2 : Int32) (a3 : Int32) (h : f_X11_canBe_2 y n a1 a2 a3 = some R), V C 2 [(0, .ref (K.1 + 61)), (1, .int a1), (2, .int a2), (3, .int a3)] [] (xf K x y) 0 0 := by
  intro n
  induction n with
  | zero => intro a1 a2 a3 h; cases h
  | succ n ih =>
    intro a1 a2 a3 h
    rw [f_X11_canBe_2] at h
    refine v_iload_n F (dq dkX11_canBe_0 2 rfl) rfl 3 rfl ?_
    refine v_bipush F (v := 9) (dq dkX11_canBe_0 3 rfl) kb_9 ?_
    refine v_icmp_ge F (tgt := 32) (dq dkX11_canBe_0 4 rfl) (by decide) (fun c1 => ?_) (fun c1 => ?_)
    · rw [if_pos c1] at h
      refine v_iconst F (v := 1) (dq dkX11_canBe_0 18 rfl) ki_1 ?_
      cases h
      exact v_zret F E (b2i_n true) (dq dkX11_canBe_0 19 rfl)
    · rw [if_neg c1] at h
      refine v_aload_n F (dq dkX11_canBe_0 5 rfl) rfl 0 rfl ?_
      refine v_iload_n F (dq dkX11_canBe_0 6 rfl) rfl 1 rfl ?_
      refine v_iload_n F (dq dkX11_canBe_0 7 rfl) rfl 2 rfl ?_
      refine v_iload_n F (dq dkX11_canBe_0 8 rfl) rfl 3 rfl ?_
      obtain ⟨r2, e3, h⟩ := bd_of h
      refine v_callV 3 F (q := 61) (as := [.int a1, .int a2, .int a3]) (st := []) (st1 := (.int r2 :: [])) (res := (some (.int r2))) (c_X11_forWish (l := C.2.1) x y a1 a2 a3 e3) (xn (by decide)) xc_61 rfl (tc36 _ (List.mem_of_getElem? (i := 3) rfl)) (tc36 _ (List.mem_of_getElem? (i := 4) rfl)) (tc36 _ (List.mem_of_getElem? (i := 5) rfl)) (tc1 _ (List.mem_of_getElem? (i := 5) rfl)) (tc36 _ (List.mem_of_getElem? (i := 6) rfl)) (by decide) rfl ⟨rfl, rfl, Nat.le_of_ble_eq_true rfl, Nat.le_of_ble_eq_true rfl⟩ ⟨Nat.le_of_ble_eq_true rfl, Nat.le_of_ble_eq_true rfl⟩ rfl (Nat.le_of_ble_eq_true rfl) rfl rfl rfl (dq dkX11_canBe_0 9 rfl) ?_
      refine v_iconst F (v := 1) (dq dkX11_canBe_0 10 rfl) ki_1 ?_
      refine v_bipush F (v := 99) (dq dkX11_canBe_0 11 rfl) kb_99 ?_
      refine v_callS 3 F (as := [.int r2, .int 1, .int 99]) (st := []) (st1 := (.int (b2i (f_X11_in r2 1 99)) :: [])) (res := (some (.int (b2i (f_X11_in r2 1 99))))) (c_X11_in (l := C.2.1) r2 1 99) (tc15 _ (List.mem_of_getElem? (i := 1) rfl)) (tc15 _ (List.mem_of_getElem? (i := 2) rfl)) (tc1 _ (List.mem_of_getElem? (i := 5) rfl)) (tc15 _ (List.mem_of_getElem? (i := 3) rfl)) (by decide) rfl ⟨rfl, rfl, Nat.le_of_ble_eq_true rfl, Nat.le_of_ble_eq_true rfl⟩ ⟨Nat.le_of_ble_eq_true rfl, Nat.le_of_ble_eq_true rfl⟩ rfl (Nat.le_of_ble_eq_true rfl) rfl rfl rfl (dq dkX11_canBe_0 12 rfl) ?_
      refine v_if_ne F (tgt := 26) (dq dkX11_canBe_0 13 rfl) (by decide) (fun c5 => ?_) (fun c5 => ?_)
      · rw [if_neg c5] at h
        refine v_iinc F (v := a3 + 1) (ls' := [(3, .int (a3 + 1)), (0, .ref (K.1 + 61)), (1, .int a1), (2, .int a2)]) (dq dkX11_canBe_0 16 rfl) (j := 3) rfl (kv_add ki_1) (by decide) rfl ?_
        refine v_goto F (tgt := 2) (dq dkX11_canBe_0 17 rfl) (by decide) ?_
        refine v_sub [1, 2, 3, 0] rfl ?_
        exact ih a1 a2 (a3 + 1) h
      · rw [if_pos c5] at h
        refine v_iconst F (v := 0) (dq dkX11_canBe_0 14 rfl) ki_0 ?_
        cases h
        exact v_zret F E (b2i_n false) (dq dkX11_canBe_0 15 rfl)
def f_X11_canBe (y : MS) (a1 : Int32) (a2 : Int32) : Option (Bool) := f_X11_canBe_2 y 1000 a1 a2 0
set_option maxRecDepth 100000 in
set_option maxHeartbeats 4000000 in
theorem c_X11_canBe {K : KE} {l : Launch} {R : Bool} (x : CS) (y : MS) (a1 : Int32) (a2 : Int32) (h : f_X11_canBe y a1 a2 = some R) : MC K l yX11_canBe cX11_canBe 4 (some .boolean) rm_X11_canBe 0 0 [.ref (K.1 + 61), .int a1, .int a2] (xf K x y) (xf K x y) (some (.int (b2i R))) := by
  refine mc_of (ls0 := [(0, .ref (K.1 + 61)), (1, .int a1), (2, .int a2)]) (by decide) (Nat.le_of_ble_eq_true rfl) rfl (fun C hl F E => ?_)
  have F : Fx C RX11 cX11_canBe 4 rm_X11_canBe K := F
  unfold f_X11_canBe at h
  refine v_iconst F (v := 0) (dq dkX11_canBe_0 0 rfl) ki_0 ?_
  refine v_istore_n F (ls' := [(3, .int 0), (0, .ref (K.1 + 61)), (1, .int a1), (2, .int a2)]) (dq dkX11_canBe_0 1 rfl) rfl (by decide) rfl ?_
  refine v_sub [1, 2, 3, 0] rfl ?_
  exact t_X11_canBe_2 y F E 1000 a1 a2 0 h
def rm_X11_old : Room := { frames := 4, cells := 0, slots := 0, locals := 96 }
def f_X11_old_104 (k20 : Int32 → Int32 → Int32 → Int32 → Option (Int32)) (y : MS) (a1 : Int32) (a3 : Int32) (a4 : Int32) (a5 : Int32) : Option (Int32) := k20 a1 a3 a4 (a5 + 1)
set_option maxRecDepth 100000 in
set_option maxHeartbeats 4000000 in
theorem t_X11_old_104 {C : Cx} {K : KE} {x : CS} {R : Int32}  (k20 : Int32 → Int32 → Int32 → Int32 → Option (Int32)) (y : MS) (a1 : Int32) (a3 : Int32) (a4 : Int32) (a5 : Int32) (hk20 : ∀ (a1 : Int32) (a3 : Int32) (a4 : Int32) (a5 : Int32), k20 a1 a3 a4 a5 = some R → V C 20 [(0, .ref (K.1 + 61)), (1, .int a1), (3, .int a3), (4, .int a4), (5, .int a5)] [] (xf K x y) 0 0) (h : f_X11_old_104 k20 y a1 a3 a4 a5 = some R) (F : Fx C RX11 cX11_old 8 rm_X11_old K) (E : CE C (xf K x y) (some (.int R)) 0 0 (some .int)) : V C 104 [(0, .ref (K.1 + 61)), (1, .int a1), (3, .int a3), (4, .int a4), (5, .int a5)] [] (xf K x y) 0 0 := by
  unfold f_X11_old_104 at h
  refine v_iinc F (v := a5 + 1) (ls' := [(5, .int (a5 + 1)), (0, .ref (K.1 + 61)), (1, .int a1), (3, .int a3), (4, .int a4)]) (dq dkX11_old_1 18 rfl) (j := 4) rfl (kv_add ki_1) (by decide) rfl ?_
  refine v_goto F (tgt := 20) (dq dkX11_old_1 19 rfl) (by decide) ?_
  refine v_sub [1, 2, 3, 4, 0] rfl ?_
  exact hk20 a1 a3 a4 (a5 + 1) h
def f_X11_old_97 (k20 : Int32 → Int32 → Int32 → Int32 → Option (Int32)) (y : MS) (a1 : Int32) (a5 : Int32) (a6 : Int32) : Option (Int32) := f_X11_old_104 k20 y a1 a5 a6 a5
set_option maxRecDepth 100000 in
set_option maxHeartbeats 4000000 in
theorem t_X11_old_97 {C : Cx} {K : KE} {x : CS} {R : Int32}  (k20 : Int32 → Int32 → Int32 → Int32 → Option (Int32)) (y : MS) (a1 : Int32) (a5 : Int32) (a6 : Int32) (hk20 : ∀ (a1 : Int32) (a3 : Int32) (a4 : Int32) (a5 : Int32), k20 a1 a3 a4 a5 = some R → V C 20 [(0, .ref (K.1 + 61)), (1, .int a1), (3, .int a3), (4, .int a4), (5, .int a5)] [] (xf K x y) 0 0) (h : f_X11_old_97 k20 y a1 a5 a6 = some R) (F : Fx C RX11 cX11_old 8 rm_X11_old K) (E : CE C (xf K x y) (some (.int R)) 0 0 (some .int)) : V C 97 [(0, .ref (K.1 + 61)), (1, .int a1), (5, .int a5), (6, .int a6)] [] (xf K x y) 0 0 := by
  unfold f_X11_old_97 at h
  refine v_iload F (dq dkX11_old_1 14 rfl) 2 rfl ?_
  refine v_istore_n F (ls' := [(3, .int a5), (0, .ref (K.1 + 61)), (1, .int a1), (5, .int a5), (6, .int a6)]) (dq dkX11_old_1 15 rfl) rfl (by decide) rfl ?_
  refine v_iload F (dq dkX11_old_1 16 rfl) 4 rfl ?_
  refine v_istore F (ls' := [(4, .int a6), (3, .int a5), (0, .ref (K.1 + 61)), (1, .int a1), (5, .int a5), (6, .int a6)]) (dq dkX11_old_1 17 rfl) (by decide) rfl ?_
  refine v_sub [2, 3, 1, 0, 4] rfl ?_
  exact t_X11_old_104 k20 y a1 a5 a6 a5 hk20 h F E
def f_X11_old_33 (k20 : Int32 → Int32 → Int32 → Int32 → Option (Int32)) (y : MS) : Nat → Int32 → Int32 → Int32 → Int32 → Int32 → Int32 → Option (Int32)
  | 0, _, _, _, _, _, _ => none
  | n + 1, a1, a3, a4, a5, a6, a7 => if 9 ≤ a7 then ((f_X11_canBe y a1 a5).bind fun r2 => if (b2i r2) = 0 then (f_X11_old_104 k20 y a1 a3 a4 a5) else (if a3 = (-1) then (f_X11_old_97 k20 y a1 a5 a6) else (if a4 ≤ a6 then (f_X11_old_104 k20 y a1 a3 a4 a5) else (f_X11_old_97 k20 y a1 a5 a6)))) else ((f_X11_forWish y a1 a5 a7).bind fun r7 => (f_X11_forWish y a1 a5 (a7 - 1)).bind fun r9 => (f_X11_old_33 k20 y n) a1 a3 a4 a5 (a6 + (f_X11_size (r7 - r9))) (a7 + 1))
set_option maxRecDepth 100000 in
set_option maxHeartbeats 4000000 in
theorem t_X11_old_33 {C : Cx} {K : KE} {x : CS} {R : Int32}  (k20 : Int32 → Int32 → Int32 → Int32 → Option (Int32)) (y : MS) (hk20 : ∀ (a1 : Int32) (a3 : Int32) (a4 : Int32) (a5 : Int32), k20 a1 a3 a4 a5 = some R → V C 20 [(0, .ref (K.1 + 61)), (1, .int a1), (3, .int a3), (4, .int a4), (5, .int a5)] [] (xf K x y) 0 0) (F : Fx C RX11 cX11_old 8 rm_X11_old K) (E : CE C (xf K x y) (some (.int R)) 0 0 (some .int)) : ∀ (n : Nat) (a1 : Int32) (a3 : Int32) (a4 : Int32) (a5 : Int32) (a6 : Int32) (a7 : Int32) (h : f_X11_old_33 k20 y n a1 a3 a4 a5 a6 a7 = some R), V C 33 [(0, .ref (K.1 + 61)), (1, .int a1), (3, .int a3), (4, .int a4), (5, .int a5), (6, .int a6), (7, .int a7)] [] (xf K x y) 0 0 := by
  intro n
  induction n with
  | zero => intro a1 a3 a4 a5 a6 a7 h; cases h
  | succ n ih =>
    intro a1 a3 a4 a5 a6 a7 h
    rw [f_X11_old_33] at h
    refine v_iload F (dq dkX11_old_0 21 rfl) 6 rfl ?_
    refine v_bipush F (v := 9) (dq dkX11_old_0 22 rfl) kb_9 ?_
    refine v_icmp_ge F (tgt := 75) (dq dkX11_old_0 23 rfl) (by decide) (fun c1 => ?_) (fun c1 => ?_)
    · rw [if_pos c1] at h
      refine v_aload_n F (dq dkX11_old_1 3 rfl) rfl 0 rfl ?_
      refine v_iload_n F (dq dkX11_old_1 4 rfl) rfl 1 rfl ?_
      refine v_iload F (dq dkX11_old_1 5 rfl) 4 rfl ?_
      obtain ⟨r2, e3, h⟩ := bd_of h
      refine v_callV 2 F (q := 61) (as := [.int a1, .int a5]) (st := []) (st1 := (.int (b2i r2) :: [])) (res := (some (.int (b2i r2)))) (c_X11_canBe (l := C.2.1) x y a1 a5 e3) (xn (by decide)) xc_61 rfl (tc36 _ (List.mem_of_getElem? (i := 21) rfl)) (tc36 _ (List.mem_of_getElem? (i := 22) rfl)) (tc36 _ (List.mem_of_getElem? (i := 23) rfl)) (tc1 _ (List.mem_of_getElem? (i := 5) rfl)) (tc37 _ (List.mem_of_getElem? (i := 0) rfl)) (by decide) rfl ⟨rfl, rfl, Nat.le_of_ble_eq_true rfl, Nat.le_of_ble_eq_true rfl⟩ ⟨Nat.le_of_ble_eq_true rfl, Nat.le_of_ble_eq_true rfl⟩ rfl (Nat.le_of_ble_eq_true rfl) rfl rfl rfl (dq dkX11_old_1 6 rfl) ?_
      refine v_if_eq F (tgt := 104) (dq dkX11_old_1 7 rfl) (by decide) (fun c4 => ?_) (fun c4 => ?_)
      · rw [if_pos c4] at h
        refine v_sub [0, 1, 2, 3, 4] rfl ?_
        exact t_X11_old_104 k20 y a1 a3 a4 a5 hk20 h F E
      · rw [if_neg c4] at h
        refine v_iload_n F (dq dkX11_old_1 8 rfl) rfl 2 rfl ?_
        refine v_iconst F (v := (-1)) (dq dkX11_old_1 9 rfl) ki_m1 ?_
        refine v_icmp_eq F (tgt := 97) (dq dkX11_old_1 10 rfl) (by decide) (fun c5 => ?_) (fun c5 => ?_)
        · rw [if_pos c5] at h
          refine v_sub [0, 1, 4, 5] rfl ?_
          exact t_X11_old_97 k20 y a1 a5 a6 hk20 h F E
        · rw [if_neg c5] at h
          refine v_iload F (dq dkX11_old_1 11 rfl) 5 rfl ?_
          refine v_iload F (dq dkX11_old_1 12 rfl) 3 rfl ?_
          refine v_icmp_ge F (tgt := 104) (dq dkX11_old_1 13 rfl) (by decide) (fun c6 => ?_) (fun c6 => ?_)
          · rw [if_pos c6] at h
            refine v_sub [0, 1, 2, 3, 4] rfl ?_
            exact t_X11_old_104 k20 y a1 a3 a4 a5 hk20 h F E
          · rw [if_neg c6] at h
            refine v_sub [0, 1, 4, 5] rfl ?_
            exact t_X11_old_97 k20 y a1 a5 a6 hk20 h F E
    · rw [if_neg c1] at h
      refine v_iload F (dq dkX11_old_0 24 rfl) 5 rfl ?_
      refine v_aload_n F (dq dkX11_old_0 25 rfl) rfl 0 rfl ?_
      refine v_iload_n F (dq dkX11_old_0 26 rfl) rfl 1 rfl ?_
      refine v_iload F (dq dkX11_old_0 27 rfl) 4 rfl ?_
      refine v_iload F (dq dkX11_old_0 28 rfl) 6 rfl ?_
      obtain ⟨r7, e8, h⟩ := bd_of h
      refine v_callV 3 F (q := 61) (as := [.int a1, .int a5, .int a7]) (st := [.int a6]) (st1 := (.int r7 :: [.int a6])) (res := (some (.int r7))) (c_X11_forWish (l := C.2.1) x y a1 a5 a7 e8) (xn (by decide)) xc_61 rfl (tc36 _ (List.mem_of_getElem? (i := 3) rfl)) (tc36 _ (List.mem_of_getElem? (i := 4) rfl)) (tc36 _ (List.mem_of_getElem? (i := 5) rfl)) (tc1 _ (List.mem_of_getElem? (i := 5) rfl)) (tc36 _ (List.mem_of_getElem? (i := 6) rfl)) (by decide) rfl ⟨rfl, rfl, Nat.le_of_ble_eq_true rfl, Nat.le_of_ble_eq_true rfl⟩ ⟨Nat.le_of_ble_eq_true rfl, Nat.le_of_ble_eq_true rfl⟩ rfl (Nat.le_of_ble_eq_true rfl) rfl rfl rfl (dq dkX11_old_0 29 rfl) ?_
      refine v_aload_n F (dq dkX11_old_0 30 rfl) rfl 0 rfl ?_
      refine v_iload_n F (dq dkX11_old_0 31 rfl) rfl 1 rfl ?_
      refine v_iload F (dq dkX11_old_0 32 rfl) 4 rfl ?_
      refine v_iload F (dq dkX11_old_0 33 rfl) 6 rfl ?_
      refine v_iconst F (v := 1) (dq dkX11_old_0 34 rfl) ki_1 ?_
      refine v_isub F (dq dkX11_old_0 35 rfl) ?_
      obtain ⟨r9, e10, h⟩ := bd_of h
      refine v_callV 3 F (q := 61) (as := [.int a1, .int a5, .int (a7 - 1)]) (st := [.int r7, .int a6]) (st1 := (.int r9 :: [.int r7, .int a6])) (res := (some (.int r9))) (c_X11_forWish (l := C.2.1) x y a1 a5 (a7 - 1) e10) (xn (by decide)) xc_61 rfl (tc36 _ (List.mem_of_getElem? (i := 3) rfl)) (tc36 _ (List.mem_of_getElem? (i := 4) rfl)) (tc36 _ (List.mem_of_getElem? (i := 5) rfl)) (tc1 _ (List.mem_of_getElem? (i := 5) rfl)) (tc36 _ (List.mem_of_getElem? (i := 6) rfl)) (by decide) rfl ⟨rfl, rfl, Nat.le_of_ble_eq_true rfl, Nat.le_of_ble_eq_true rfl⟩ ⟨Nat.le_of_ble_eq_true rfl, Nat.le_of_ble_eq_true rfl⟩ rfl (Nat.le_of_ble_eq_true rfl) rfl rfl rfl (dq dkX11_old_0 36 rfl) ?_
      refine v_isub F (dq dkX11_old_0 37 rfl) ?_
      refine v_callS 1 F (as := [.int (r7 - r9)]) (st := [.int a6]) (st1 := (.int (f_X11_size (r7 - r9)) :: [.int a6])) (res := (some (.int (f_X11_size (r7 - r9))))) (c_X11_size (l := C.2.1) (r7 - r9)) (tc29 _ (List.mem_of_getElem? (i := 9) rfl)) (tc29 _ (List.mem_of_getElem? (i := 10) rfl)) (tc1 _ (List.mem_of_getElem? (i := 5) rfl)) (tc29 _ (List.mem_of_getElem? (i := 11) rfl)) (by decide) rfl ⟨rfl, rfl, Nat.le_of_ble_eq_true rfl, Nat.le_of_ble_eq_true rfl⟩ ⟨Nat.le_of_ble_eq_true rfl, Nat.le_of_ble_eq_true rfl⟩ rfl (Nat.le_of_ble_eq_true rfl) rfl rfl rfl (dq dkX11_old_0 38 rfl) ?_
      refine v_iadd F (dq dkX11_old_0 39 rfl) ?_
      refine v_istore F (ls' := [(6, .int (a6 + (f_X11_size (r7 - r9)))), (0, .ref (K.1 + 61)), (1, .int a1), (3, .int a3), (4, .int a4), (5, .int a5), (7, .int a7)]) (dq dkX11_old_1 0 rfl) (by decide) rfl ?_
      refine v_iinc F (v := a7 + 1) (ls' := [(7, .int (a7 + 1)), (6, .int (a6 + (f_X11_size (r7 - r9)))), (0, .ref (K.1 + 61)), (1, .int a1), (3, .int a3), (4, .int a4), (5, .int a5)]) (dq dkX11_old_1 1 rfl) (j := 6) rfl (kv_add ki_1) (by decide) rfl ?_
      refine v_goto F (tgt := 33) (dq dkX11_old_1 2 rfl) (by decide) ?_
      refine v_sub [2, 3, 4, 5, 6, 1, 0] rfl ?_
      exact ih a1 a3 a4 a5 (a6 + (f_X11_size (r7 - r9))) (a7 + 1) h
def f_X11_old_20 (y : MS) : Nat → Int32 → Int32 → Int32 → Int32 → Option (Int32)
  | 0, _, _, _, _ => none
  | n + 1, a1, a3, a4, a5 => if 12 < a5 then (some a3) else (f_X11_old_33 (f_X11_old_20 y n) y 1000 a1 a3 a4 a5 0 1)
set_option maxRecDepth 100000 in
set_option maxHeartbeats 4000000 in
theorem t_X11_old_20 {C : Cx} {K : KE} {x : CS} {R : Int32}  (y : MS) (F : Fx C RX11 cX11_old 8 rm_X11_old K) (E : CE C (xf K x y) (some (.int R)) 0 0 (some .int)) : ∀ (n : Nat) (a1 : Int32) (a3 : Int32) (a4 : Int32) (a5 : Int32) (h : f_X11_old_20 y n a1 a3 a4 a5 = some R), V C 20 [(0, .ref (K.1 + 61)), (1, .int a1), (3, .int a3), (4, .int a4), (5, .int a5)] [] (xf K x y) 0 0 := by
  intro n
  induction n with
  | zero => intro a1 a3 a4 a5 h; cases h
  | succ n ih =>
    intro a1 a3 a4 a5 h
    rw [f_X11_old_20] at h
    refine v_iload F (dq dkX11_old_0 14 rfl) 4 rfl ?_
    refine v_bipush F (v := 12) (dq dkX11_old_0 15 rfl) kb_12 ?_
    refine v_icmp_gt F (tgt := 110) (dq dkX11_old_0 16 rfl) (by decide) (fun c12 => ?_) (fun c12 => ?_)
    · rw [if_pos c12] at h
      refine v_iload_n F (dq dkX11_old_1 20 rfl) rfl 2 rfl ?_
      cases h
      exact v_iret F E (dq dkX11_old_1 21 rfl)
    · rw [if_neg c12] at h
      refine v_iconst F (v := 0) (dq dkX11_old_0 17 rfl) ki_0 ?_
      refine v_istore F (ls' := [(6, .int 0), (0, .ref (K.1 + 61)), (1, .int a1), (3, .int a3), (4, .int a4), (5, .int a5)]) (dq dkX11_old_0 18 rfl) (by decide) rfl ?_
      refine v_iconst F (v := 1) (dq dkX11_old_0 19 rfl) ki_1 ?_
      refine v_istore F (ls' := [(7, .int 1), (6, .int 0), (0, .ref (K.1 + 61)), (1, .int a1), (3, .int a3), (4, .int a4), (5, .int a5)]) (dq dkX11_old_0 20 rfl) (by decide) rfl ?_
      refine v_sub [2, 3, 4, 5, 6, 1, 0] rfl ?_
      exact t_X11_old_33 (f_X11_old_20 y n) y ih F E 1000 a1 a3 a4 a5 0 1 h
def f_X11_old (y : MS) (a1 : Int32) : Option (Int32) := (f_X11_widthsWrong y a1).bind fun r13 => if r13 = 0 then (f_X11_old_20 y 1000 a1 (-1) 0 0) else (some r13)
set_option maxRecDepth 100000 in
set_option maxHeartbeats 4000000 in
theorem c_X11_old {K : KE} {l : Launch} {R : Int32} (x : CS) (y : MS) (a1 : Int32) (h : f_X11_old y a1 = some R) : MC K l yX11_old cX11_old 8 (some .int) rm_X11_old 0 0 [.ref (K.1 + 61), .int a1] (xf K x y) (xf K x y) (some (.int R)) := by
  refine mc_of (ls0 := [(0, .ref (K.1 + 61)), (1, .int a1)]) (by decide) (Nat.le_of_ble_eq_true rfl) rfl (fun C hl F E => ?_)
  have F : Fx C RX11 cX11_old 8 rm_X11_old K := F
  unfold f_X11_old at h
  refine v_aload_n F (dq dkX11_old_0 0 rfl) rfl 0 rfl ?_
  refine v_iload_n F (dq dkX11_old_0 1 rfl) rfl 1 rfl ?_
  obtain ⟨r13, e14, h⟩ := bd_of h
  refine v_callV 1 F (q := 61) (as := [.int a1]) (st := []) (st1 := (.int r13 :: [])) (res := (some (.int r13))) (c_X11_widthsWrong (l := C.2.1) x y a1 e14) (xn (by decide)) xc_61 rfl (tc35 _ (List.mem_of_getElem? (i := 23) rfl)) (tc36 _ (List.mem_of_getElem? (i := 0) rfl)) (tc36 _ (List.mem_of_getElem? (i := 1) rfl)) (tc1 _ (List.mem_of_getElem? (i := 5) rfl)) (tc36 _ (List.mem_of_getElem? (i := 2) rfl)) (by decide) rfl ⟨rfl, rfl, Nat.le_of_ble_eq_true rfl, Nat.le_of_ble_eq_true rfl⟩ ⟨Nat.le_of_ble_eq_true rfl, Nat.le_of_ble_eq_true rfl⟩ rfl (Nat.le_of_ble_eq_true rfl) rfl rfl rfl (dq dkX11_old_0 2 rfl) ?_
  refine v_istore_n F (ls' := [(2, .int r13), (0, .ref (K.1 + 61)), (1, .int a1)]) (dq dkX11_old_0 3 rfl) rfl (by decide) rfl ?_
  refine v_iload_n F (dq dkX11_old_0 4 rfl) rfl 0 rfl ?_
  refine v_if_eq F (tgt := 12) (dq dkX11_old_0 5 rfl) (by decide) (fun c15 => ?_) (fun c15 => ?_)
  · rw [if_pos c15] at h
    refine v_iconst F (v := (-1)) (dq dkX11_old_0 8 rfl) ki_m1 ?_
    refine v_istore_n F (ls' := [(3, .int (-1)), (2, .int r13), (0, .ref (K.1 + 61)), (1, .int a1)]) (dq dkX11_old_0 9 rfl) rfl (by decide) rfl ?_
    refine v_iconst F (v := 0) (dq dkX11_old_0 10 rfl) ki_0 ?_
    refine v_istore F (ls' := [(4, .int 0), (3, .int (-1)), (2, .int r13), (0, .ref (K.1 + 61)), (1, .int a1)]) (dq dkX11_old_0 11 rfl) (by decide) rfl ?_
    refine v_iconst F (v := 0) (dq dkX11_old_0 12 rfl) ki_0 ?_
    refine v_istore F (ls' := [(5, .int 0), (4, .int 0), (3, .int (-1)), (2, .int r13), (0, .ref (K.1 + 61)), (1, .int a1)]) (dq dkX11_old_0 13 rfl) (by decide) rfl ?_
    refine v_sub [4, 5, 2, 1, 0] rfl ?_
    exact t_X11_old_20 y F E 1000 a1 (-1) 0 0 h
  · rw [if_neg c15] at h
    refine v_iload_n F (dq dkX11_old_0 6 rfl) rfl 0 rfl ?_
    cases h
    exact v_iret F E (dq dkX11_old_0 7 rfl)
def rm_X11_copyOf : Room := { frames := 4, cells := 0, slots := 0, locals := 96 }
def f_X11_copyOf_31 (y : MS) : Option (Int32 × MS) := some ((-3), y)
set_option maxRecDepth 100000 in
set_option maxHeartbeats 4000000 in
theorem t_X11_copyOf_31 {C : Cx} {K : KE} {x : CS} {R : Int32 × MS}  (y : MS) (h : f_X11_copyOf_31 y = some R) (F : Fx C RX11 cX11_copyOf 6 rm_X11_copyOf K) (E : CE C (xf K x R.2) (some (.int R.1)) 0 0 (some .int)) : V C 31 [] [] (xf K x y) 0 0 := by
  unfold f_X11_copyOf_31 at h
  refine v_bipush F (v := (-3)) (dq dkX11_copyOf_0 18 rfl) kb_m3 ?_
  cases h
  exact v_iret F E (dq dkX11_copyOf_0 19 rfl)
def f_X11_copyOf_72 (k40 : MS → Int32 → Int32 → Int32 → Int32 → Option (Int32 × MS)) (y : MS) (a1 : Int32) (a2 : Int32) (a5 : Int32) (s0 : Int32) (s1 : Int32) : Option (Int32 × MS) := (f_X11_forWish y a1 a2 a5).bind fun r1 => gd (ib a5 54) (k40 (pi y 62 a5.toNatClampNeg r1) a1 a2 (s1 + s0) (a5 + 1))
set_option maxRecDepth 100000 in
set_option maxHeartbeats 4000000 in
theorem t_X11_copyOf_72 {C : Cx} {K : KE} {x : CS} {R : Int32 × MS}  (k40 : MS → Int32 → Int32 → Int32 → Int32 → Option (Int32 × MS)) (y : MS) (a1 : Int32) (a2 : Int32) (a5 : Int32) (s0 : Int32) (s1 : Int32) (hk40 : ∀ (y : MS) (a1 : Int32) (a2 : Int32) (a4 : Int32) (a5 : Int32), k40 y a1 a2 a4 a5 = some R → V C 40 [(0, .ref (K.1 + 61)), (1, .int a1), (2, .int a2), (4, .int a4), (5, .int a5)] [] (xf K x y) 0 0) (h : f_X11_copyOf_72 k40 y a1 a2 a5 s0 s1 = some R) (F : Fx C RX11 cX11_copyOf 6 rm_X11_copyOf K) (E : CE C (xf K x R.2) (some (.int R.1)) 0 0 (some .int)) : V C 72 [(0, .ref (K.1 + 61)), (1, .int a1), (2, .int a2), (5, .int a5)] [.int s0, .int s1] (xf K x y) 0 0 := by
  unfold f_X11_copyOf_72 at h
  refine v_iadd F (dq dkX11_copyOf_1 1 rfl) ?_
  refine v_istore F (ls' := [(4, .int (s1 + s0)), (0, .ref (K.1 + 61)), (1, .int a1), (2, .int a2), (5, .int a5)]) (dq dkX11_copyOf_1 2 rfl) (by decide) rfl ?_
  refine v_aload_n F (dq dkX11_copyOf_1 3 rfl) rfl 1 rfl ?_
  refine v_get F 61 (xn (by decide)) xc_61 rfl inlX11 0 (by decide) (tc11 _ (List.mem_of_getElem? (i := 17) rfl)) rfl rfl (dq dkX11_copyOf_1 4 rfl) ?_
  refine v_iload F (dq dkX11_copyOf_1 5 rfl) 4 rfl ?_
  refine v_aload_n F (dq dkX11_copyOf_1 6 rfl) rfl 1 rfl ?_
  refine v_iload_n F (dq dkX11_copyOf_1 7 rfl) rfl 2 rfl ?_
  refine v_iload_n F (dq dkX11_copyOf_1 8 rfl) rfl 3 rfl ?_
  refine v_iload F (dq dkX11_copyOf_1 9 rfl) 4 rfl ?_
  obtain ⟨r1, e2, h⟩ := bd_of h
  refine v_callV 3 F (q := 61) (as := [.int a1, .int a2, .int a5]) (st := [.int a5, .ref (K.1 + 62)]) (st1 := (.int r1 :: [.int a5, .ref (K.1 + 62)])) (res := (some (.int r1))) (c_X11_forWish (l := C.2.1) x y a1 a2 a5 e2) (xn (by decide)) xc_61 rfl (tc36 _ (List.mem_of_getElem? (i := 3) rfl)) (tc36 _ (List.mem_of_getElem? (i := 4) rfl)) (tc36 _ (List.mem_of_getElem? (i := 5) rfl)) (tc1 _ (List.mem_of_getElem? (i := 5) rfl)) (tc36 _ (List.mem_of_getElem? (i := 6) rfl)) (by decide) rfl ⟨rfl, rfl, Nat.le_of_ble_eq_true rfl, Nat.le_of_ble_eq_true rfl⟩ ⟨Nat.le_of_ble_eq_true rfl, Nat.le_of_ble_eq_true rfl⟩ rfl (Nat.le_of_ble_eq_true rfl) rfl rfl rfl (dq dkX11_copyOf_1 10 rfl) ?_
  obtain ⟨g3, h⟩ := gd_of h
  refine v_iast F 62 (xn (by decide)) xc_62 (ib_in g3) (dq dkX11_copyOf_1 11 rfl) ?_
  refine v_eqM (xwM (q := 62) (j := a5.toNatClampNeg) (v := r1) (by decide) (by decide) rfl) ?_
  refine v_iinc F (v := a5 + 1) (ls' := [(5, .int (a5 + 1)), (4, .int (s1 + s0)), (0, .ref (K.1 + 61)), (1, .int a1), (2, .int a2)]) (dq dkX11_copyOf_1 12 rfl) (j := 4) rfl (kv_add ki_1) (by decide) rfl ?_
  refine v_goto F (tgt := 40) (dq dkX11_copyOf_1 13 rfl) (by decide) ?_
  refine v_sub [2, 3, 4, 1, 0] rfl ?_
  exact hk40 (pi y 62 a5.toNatClampNeg r1) a1 a2 (s1 + s0) (a5 + 1) h
def f_X11_copyOf_40 : Nat → MS → Int32 → Int32 → Int32 → Int32 → Option (Int32 × MS)
  | 0, _, _, _, _, _ => none
  | n + 1, y, a1, a2, a4, a5 => if 9 ≤ a5 then (some (a4, y)) else (gd (ib a5 54) ((f_X11_forWish y a1 a2 a5).bind fun r6 => if (gi y 62 a5.toNatClampNeg) = r6 then (f_X11_copyOf_72 (f_X11_copyOf_40 n) y a1 a2 a5 0 a4) else (f_X11_copyOf_72 (f_X11_copyOf_40 n) y a1 a2 a5 1 a4)))
set_option maxRecDepth 100000 in
set_option maxHeartbeats 4000000 in
theorem t_X11_copyOf_40 {C : Cx} {K : KE} {x : CS} {R : Int32 × MS}  (F : Fx C RX11 cX11_copyOf 6 rm_X11_copyOf K) (E : CE C (xf K x R.2) (some (.int R.1)) 0 0 (some .int)) : ∀ (n : Nat) (y : MS) (a1 : Int32) (a2 : Int32) (a4 : Int32) (a5 : Int32) (h : f_X11_copyOf_40 n y a1 a2 a4 a5 = some R), V C 40 [(0, .ref (K.1 + 61)), (1, .int a1), (2, .int a2), (4, .int a4), (5, .int a5)] [] (xf K x y) 0 0 := by
  intro n
  induction n with
  | zero => intro y a1 a2 a4 a5 h; cases h
  | succ n ih =>
    intro y a1 a2 a4 a5 h
    rw [f_X11_copyOf_40] at h
    refine v_iload F (dq dkX11_copyOf_0 24 rfl) 4 rfl ?_
    refine v_bipush F (v := 9) (dq dkX11_copyOf_0 25 rfl) kb_9 ?_
    refine v_icmp_ge F (tgt := 96) (dq dkX11_copyOf_0 26 rfl) (by decide) (fun c4 => ?_) (fun c4 => ?_)
    · rw [if_pos c4] at h
      refine v_iload F (dq dkX11_copyOf_1 14 rfl) 3 rfl ?_
      cases h
      exact v_iret F E (dq dkX11_copyOf_1 15 rfl)
    · rw [if_neg c4] at h
      refine v_iload F (dq dkX11_copyOf_0 27 rfl) 3 rfl ?_
      refine v_aload_n F (dq dkX11_copyOf_0 28 rfl) rfl 0 rfl ?_
      refine v_get F 61 (xn (by decide)) xc_61 rfl inlX11 0 (by decide) (tc11 _ (List.mem_of_getElem? (i := 17) rfl)) rfl rfl (dq dkX11_copyOf_0 29 rfl) ?_
      refine v_iload F (dq dkX11_copyOf_0 30 rfl) 4 rfl ?_
      obtain ⟨g5, h⟩ := gd_of h
      refine v_iald F 62 (xn (by decide)) xc_62 (ib_in g5) (dq dkX11_copyOf_0 31 rfl) ?_
      refine v_aload_n F (dq dkX11_copyOf_0 32 rfl) rfl 0 rfl ?_
      refine v_iload_n F (dq dkX11_copyOf_0 33 rfl) rfl 1 rfl ?_
      refine v_iload_n F (dq dkX11_copyOf_0 34 rfl) rfl 2 rfl ?_
      refine v_iload F (dq dkX11_copyOf_0 35 rfl) 4 rfl ?_
      obtain ⟨r6, e7, h⟩ := bd_of h
      refine v_callV 3 F (q := 61) (as := [.int a1, .int a2, .int a5]) (st := [.int (gi y 62 a5.toNatClampNeg), .int a4]) (st1 := (.int r6 :: [.int (gi y 62 a5.toNatClampNeg), .int a4])) (res := (some (.int r6))) (c_X11_forWish (l := C.2.1) x y a1 a2 a5 e7) (xn (by decide)) xc_61 rfl (tc36 _ (List.mem_of_getElem? (i := 3) rfl)) (tc36 _ (List.mem_of_getElem? (i := 4) rfl)) (tc36 _ (List.mem_of_getElem? (i := 5) rfl)) (tc1 _ (List.mem_of_getElem? (i := 5) rfl)) (tc36 _ (List.mem_of_getElem? (i := 6) rfl)) (by decide) rfl ⟨rfl, rfl, Nat.le_of_ble_eq_true rfl, Nat.le_of_ble_eq_true rfl⟩ ⟨Nat.le_of_ble_eq_true rfl, Nat.le_of_ble_eq_true rfl⟩ rfl (Nat.le_of_ble_eq_true rfl) rfl rfl rfl (dq dkX11_copyOf_0 36 rfl) ?_
      refine v_icmp_ne F (tgt := 71) (dq dkX11_copyOf_0 37 rfl) (by decide) (fun c8 => ?_) (fun c8 => ?_)
      · rw [if_neg c8] at h
        refine v_iconst F (v := 1) (dq dkX11_copyOf_1 0 rfl) ki_1 ?_
        refine v_sub [0, 1, 2, 4] rfl ?_
        exact t_X11_copyOf_72 (f_X11_copyOf_40 n) y a1 a2 a5 1 a4 ih h F E
      · rw [if_pos c8] at h
        refine v_iconst F (v := 0) (dq dkX11_copyOf_0 38 rfl) ki_0 ?_
        refine v_goto F (tgt := 72) (dq dkX11_copyOf_0 39 rfl) (by decide) ?_
        refine v_sub [0, 1, 2, 4] rfl ?_
        exact t_X11_copyOf_72 (f_X11_copyOf_40 n) y a1 a2 a5 0 a4 ih h F E
def f_X11_copyOf (y : MS) (a1 : Int32) (a2 : Int32) : Option (Int32 × MS) := (f_X11_widthsWrong y a1).bind fun r9 => if r9 = 0 then (if (b2i (f_X11_in a2 0 12)) = 0 then (f_X11_copyOf_31 y) else ((f_X11_canBe y a1 a2).bind fun r14 => if (b2i r14) = 0 then (f_X11_copyOf_31 y) else (f_X11_copyOf_40 1000 y a1 a2 0 0))) else (some (r9, y))
set_option maxRecDepth 100000 in
set_option maxHeartbeats 4000000 in
theorem c_X11_copyOf {K : KE} {l : Launch} {R : Int32 × MS} (x : CS) (y : MS) (a1 : Int32) (a2 : Int32) (h : f_X11_copyOf y a1 a2 = some R) : MC K l yX11_copyOf cX11_copyOf 6 (some .int) rm_X11_copyOf 0 0 [.ref (K.1 + 61), .int a1, .int a2] (xf K x y) (xf K x R.2) (some (.int R.1)) := by
  refine mc_of (ls0 := [(0, .ref (K.1 + 61)), (1, .int a1), (2, .int a2)]) (by decide) (Nat.le_of_ble_eq_true rfl) rfl (fun C hl F E => ?_)
  have F : Fx C RX11 cX11_copyOf 6 rm_X11_copyOf K := F
  unfold f_X11_copyOf at h
  refine v_aload_n F (dq dkX11_copyOf_0 0 rfl) rfl 0 rfl ?_
  refine v_iload_n F (dq dkX11_copyOf_0 1 rfl) rfl 1 rfl ?_
  obtain ⟨r9, e10, h⟩ := bd_of h
  refine v_callV 1 F (q := 61) (as := [.int a1]) (st := []) (st1 := (.int r9 :: [])) (res := (some (.int r9))) (c_X11_widthsWrong (l := C.2.1) x y a1 e10) (xn (by decide)) xc_61 rfl (tc35 _ (List.mem_of_getElem? (i := 23) rfl)) (tc36 _ (List.mem_of_getElem? (i := 0) rfl)) (tc36 _ (List.mem_of_getElem? (i := 1) rfl)) (tc1 _ (List.mem_of_getElem? (i := 5) rfl)) (tc36 _ (List.mem_of_getElem? (i := 2) rfl)) (by decide) rfl ⟨rfl, rfl, Nat.le_of_ble_eq_true rfl, Nat.le_of_ble_eq_true rfl⟩ ⟨Nat.le_of_ble_eq_true rfl, Nat.le_of_ble_eq_true rfl⟩ rfl (Nat.le_of_ble_eq_true rfl) rfl rfl rfl (dq dkX11_copyOf_0 2 rfl) ?_
  refine v_istore_n F (ls' := [(3, .int r9), (0, .ref (K.1 + 61)), (1, .int a1), (2, .int a2)]) (dq dkX11_copyOf_0 3 rfl) rfl (by decide) rfl ?_
  refine v_iload_n F (dq dkX11_copyOf_0 4 rfl) rfl 0 rfl ?_
  refine v_if_eq F (tgt := 12) (dq dkX11_copyOf_0 5 rfl) (by decide) (fun c11 => ?_) (fun c11 => ?_)
  · rw [if_pos c11] at h
    refine v_iload_n F (dq dkX11_copyOf_0 8 rfl) rfl 3 rfl ?_
    refine v_iconst F (v := 0) (dq dkX11_copyOf_0 9 rfl) ki_0 ?_
    refine v_bipush F (v := 12) (dq dkX11_copyOf_0 10 rfl) kb_12 ?_
    refine v_callS 3 F (as := [.int a2, .int 0, .int 12]) (st := []) (st1 := (.int (b2i (f_X11_in a2 0 12)) :: [])) (res := (some (.int (b2i (f_X11_in a2 0 12))))) (c_X11_in (l := C.2.1) a2 0 12) (tc15 _ (List.mem_of_getElem? (i := 1) rfl)) (tc15 _ (List.mem_of_getElem? (i := 2) rfl)) (tc1 _ (List.mem_of_getElem? (i := 5) rfl)) (tc15 _ (List.mem_of_getElem? (i := 3) rfl)) (by decide) rfl ⟨rfl, rfl, Nat.le_of_ble_eq_true rfl, Nat.le_of_ble_eq_true rfl⟩ ⟨Nat.le_of_ble_eq_true rfl, Nat.le_of_ble_eq_true rfl⟩ rfl (Nat.le_of_ble_eq_true rfl) rfl rfl rfl (dq dkX11_copyOf_0 11 rfl) ?_
    refine v_if_eq F (tgt := 31) (dq dkX11_copyOf_0 12 rfl) (by decide) (fun c13 => ?_) (fun c13 => ?_)
    · rw [if_pos c13] at h
      refine v_sub [] rfl ?_
      exact t_X11_copyOf_31 y h F E
    · rw [if_neg c13] at h
      refine v_aload_n F (dq dkX11_copyOf_0 13 rfl) rfl 1 rfl ?_
      refine v_iload_n F (dq dkX11_copyOf_0 14 rfl) rfl 2 rfl ?_
      refine v_iload_n F (dq dkX11_copyOf_0 15 rfl) rfl 3 rfl ?_
      obtain ⟨r14, e15, h⟩ := bd_of h
      refine v_callV 2 F (q := 61) (as := [.int a1, .int a2]) (st := []) (st1 := (.int (b2i r14) :: [])) (res := (some (.int (b2i r14)))) (c_X11_canBe (l := C.2.1) x y a1 a2 e15) (xn (by decide)) xc_61 rfl (tc36 _ (List.mem_of_getElem? (i := 21) rfl)) (tc36 _ (List.mem_of_getElem? (i := 22) rfl)) (tc36 _ (List.mem_of_getElem? (i := 23) rfl)) (tc1 _ (List.mem_of_getElem? (i := 5) rfl)) (tc37 _ (List.mem_of_getElem? (i := 0) rfl)) (by decide) rfl ⟨rfl, rfl, Nat.le_of_ble_eq_true rfl, Nat.le_of_ble_eq_true rfl⟩ ⟨Nat.le_of_ble_eq_true rfl, Nat.le_of_ble_eq_true rfl⟩ rfl (Nat.le_of_ble_eq_true rfl) rfl rfl rfl (dq dkX11_copyOf_0 16 rfl) ?_
      refine v_if_ne F (tgt := 34) (dq dkX11_copyOf_0 17 rfl) (by decide) (fun c16 => ?_) (fun c16 => ?_)
      · rw [if_neg c16] at h
        refine v_iconst F (v := 0) (dq dkX11_copyOf_0 20 rfl) ki_0 ?_
        refine v_istore F (ls' := [(4, .int 0), (3, .int r9), (0, .ref (K.1 + 61)), (1, .int a1), (2, .int a2)]) (dq dkX11_copyOf_0 21 rfl) (by decide) rfl ?_
        refine v_iconst F (v := 0) (dq dkX11_copyOf_0 22 rfl) ki_0 ?_
        refine v_istore F (ls' := [(5, .int 0), (4, .int 0), (3, .int r9), (0, .ref (K.1 + 61)), (1, .int a1), (2, .int a2)]) (dq dkX11_copyOf_0 23 rfl) (by decide) rfl ?_
        refine v_sub [3, 4, 5, 1, 0] rfl ?_
        exact t_X11_copyOf_40 F E 1000 y a1 a2 0 0 h
      · rw [if_pos c16] at h
        refine v_sub [] rfl ?_
        exact t_X11_copyOf_31 y h F E
  · rw [if_neg c11] at h
    refine v_iload_n F (dq dkX11_copyOf_0 6 rfl) rfl 0 rfl ?_
    cases h
    exact v_iret F E (dq dkX11_copyOf_0 7 rfl)
def rm_X11_even : Room := { frames := 4, cells := 0, slots := 0, locals := 102 }
def f_X11_even_94 (k29 : MS → Int32 → Int32 → Int32 → Int32 → Option (Int32 × MS)) (y : MS) (a1 : Int32) (a2 : Int32) (a4 : Int32) (s0 : Int32) : Option (Int32 × MS) := k29 y a1 a2 s0 (a4 + 1)
set_option maxRecDepth 100000 in
set_option maxHeartbeats 4000000 in
theorem t_X11_even_94 {C : Cx} {K : KE} {x : CS} {R : Int32 × MS}  (k29 : MS → Int32 → Int32 → Int32 → Int32 → Option (Int32 × MS)) (y : MS) (a1 : Int32) (a2 : Int32) (a4 : Int32) (s0 : Int32) (hk29 : ∀ (y : MS) (a1 : Int32) (a2 : Int32) (a3 : Int32) (a4 : Int32), k29 y a1 a2 a3 a4 = some R → V C 29 [(0, .ref (K.1 + 61)), (1, .int a1), (2, .int a2), (3, .int a3), (4, .int a4)] [] (xf K x y) 0 0) (h : f_X11_even_94 k29 y a1 a2 a4 s0 = some R) (F : Fx C RX11 cX11_even 6 rm_X11_even K) (E : CE C (xf K x R.2) (some (.int R.1)) 0 0 (some .int)) : V C 94 [(0, .ref (K.1 + 61)), (1, .int a1), (2, .int a2), (4, .int a4)] [.int s0] (xf K x y) 0 0 := by
  unfold f_X11_even_94 at h
  refine v_istore_n F (ls' := [(3, .int s0), (0, .ref (K.1 + 61)), (1, .int a1), (2, .int a2), (4, .int a4)]) (dq dkX11_even_1 13 rfl) rfl (by decide) rfl ?_
  refine v_iinc F (v := a4 + 1) (ls' := [(4, .int (a4 + 1)), (3, .int s0), (0, .ref (K.1 + 61)), (1, .int a1), (2, .int a2)]) (dq dkX11_even_1 14 rfl) (j := 4) rfl (kv_add ki_1) (by decide) rfl ?_
  refine v_goto F (tgt := 29) (dq dkX11_even_1 15 rfl) (by decide) ?_
  refine v_sub [2, 3, 4, 1, 0] rfl ?_
  exact hk29 y a1 a2 s0 (a4 + 1) h
def f_X11_even_29 : Nat → MS → Int32 → Int32 → Int32 → Int32 → Option (Int32 × MS)
  | 0, _, _, _, _, _ => none
  | n + 1, y, a1, a2, a3, a4 => if 20 < a4 then (some (a3, y)) else (gd (ib a1 54) ((f_X11_knotOf y a1).bind fun r3 => (f_X11_says y 1 a4 (gi y 62 a1.toNatClampNeg) r3).bind fun r5 => gd (ib a1 54) ((f_X11_knotOf r5.2 a1).bind fun r9 => (f_X11_says r5.2 1 a3 (gi r5.2 62 a1.toNatClampNeg) r9).bind fun r11 => if (f_X11_size (r11.1 - a2)) ≤ (f_X11_size (r5.1 - a2)) then (f_X11_even_94 (f_X11_even_29 n) r11.2 a1 a2 a4 a3) else (f_X11_even_94 (f_X11_even_29 n) r11.2 a1 a2 a4 a4))))
set_option maxRecDepth 100000 in
set_option maxHeartbeats 4000000 in
theorem t_X11_even_29 {C : Cx} {K : KE} {x : CS} {R : Int32 × MS}  (F : Fx C RX11 cX11_even 6 rm_X11_even K) (E : CE C (xf K x R.2) (some (.int R.1)) 0 0 (some .int)) : ∀ (n : Nat) (y : MS) (a1 : Int32) (a2 : Int32) (a3 : Int32) (a4 : Int32) (h : f_X11_even_29 n y a1 a2 a3 a4 = some R), V C 29 [(0, .ref (K.1 + 61)), (1, .int a1), (2, .int a2), (3, .int a3), (4, .int a4)] [] (xf K x y) 0 0 := by
  intro n
  induction n with
  | zero => intro y a1 a2 a3 a4 h; cases h
  | succ n ih =>
    intro y a1 a2 a3 a4 h
    rw [f_X11_even_29] at h
    refine v_iload F (dq dkX11_even_0 16 rfl) 4 rfl ?_
    refine v_bipush F (v := 20) (dq dkX11_even_0 17 rfl) kb_20 ?_
    refine v_icmp_gt F (tgt := 101) (dq dkX11_even_0 18 rfl) (by decide) (fun c1 => ?_) (fun c1 => ?_)
    · rw [if_pos c1] at h
      refine v_iload_n F (dq dkX11_even_1 16 rfl) rfl 3 rfl ?_
      cases h
      exact v_iret F E (dq dkX11_even_1 17 rfl)
    · rw [if_neg c1] at h
      refine v_aload_n F (dq dkX11_even_0 19 rfl) rfl 0 rfl ?_
      refine v_iconst F (v := 1) (dq dkX11_even_0 20 rfl) ki_1 ?_
      refine v_iload F (dq dkX11_even_0 21 rfl) 4 rfl ?_
      refine v_aload_n F (dq dkX11_even_0 22 rfl) rfl 0 rfl ?_
      refine v_get F 61 (xn (by decide)) xc_61 rfl inlX11 0 (by decide) (tc11 _ (List.mem_of_getElem? (i := 17) rfl)) rfl rfl (dq dkX11_even_0 23 rfl) ?_
      refine v_iload_n F (dq dkX11_even_0 24 rfl) rfl 1 rfl ?_
      obtain ⟨g2, h⟩ := gd_of h
      refine v_iald F 62 (xn (by decide)) xc_62 (ib_in g2) (dq dkX11_even_0 25 rfl) ?_
      refine v_aload_n F (dq dkX11_even_0 26 rfl) rfl 0 rfl ?_
      refine v_iload_n F (dq dkX11_even_0 27 rfl) rfl 1 rfl ?_
      obtain ⟨r3, e4, h⟩ := bd_of h
      refine v_callV 1 F (q := 61) (as := [.int a1]) (st := [.int (gi y 62 a1.toNatClampNeg), .int a4, .int 1, .ref (K.1 + 61)]) (st1 := (.int r3 :: [.int (gi y 62 a1.toNatClampNeg), .int a4, .int 1, .ref (K.1 + 61)])) (res := (some (.int r3))) (c_X11_knotOf (l := C.2.1) x y a1 e4) (xn (by decide)) xc_61 rfl (tc28 _ (List.mem_of_getElem? (i := 15) rfl)) (tc28 _ (List.mem_of_getElem? (i := 16) rfl)) (tc28 _ (List.mem_of_getElem? (i := 17) rfl)) (tc1 _ (List.mem_of_getElem? (i := 5) rfl)) (tc28 _ (List.mem_of_getElem? (i := 18) rfl)) (by decide) rfl ⟨rfl, rfl, Nat.le_of_ble_eq_true rfl, Nat.le_of_ble_eq_true rfl⟩ ⟨Nat.le_of_ble_eq_true rfl, Nat.le_of_ble_eq_true rfl⟩ rfl (Nat.le_of_ble_eq_true rfl) rfl rfl rfl (dq dkX11_even_0 28 rfl) ?_
      obtain ⟨r5, e6, h⟩ := bd_of h
      refine v_callV 4 F (q := 61) (as := [.int 1, .int a4, .int (gi y 62 a1.toNatClampNeg), .int r3]) (st := []) (st1 := (.int r5.1 :: [])) (res := (some (.int r5.1))) (c_X11_says (l := C.2.1) x y 1 a4 (gi y 62 a1.toNatClampNeg) r3 e6) (xn (by decide)) xc_61 rfl (tc21 _ (List.mem_of_getElem? (i := 17) rfl)) (tc21 _ (List.mem_of_getElem? (i := 18) rfl)) (tc21 _ (List.mem_of_getElem? (i := 19) rfl)) (tc1 _ (List.mem_of_getElem? (i := 5) rfl)) (tc21 _ (List.mem_of_getElem? (i := 20) rfl)) (by decide) rfl ⟨rfl, rfl, Nat.le_of_ble_eq_true rfl, Nat.le_of_ble_eq_true rfl⟩ ⟨Nat.le_of_ble_eq_true rfl, Nat.le_of_ble_eq_true rfl⟩ rfl (Nat.le_of_ble_eq_true rfl) rfl rfl rfl (dq dkX11_even_0 29 rfl) ?_
      refine v_iload_n F (dq dkX11_even_0 30 rfl) rfl 2 rfl ?_
      refine v_isub F (dq dkX11_even_0 31 rfl) ?_
      refine v_callS 1 F (as := [.int (r5.1 - a2)]) (st := []) (st1 := (.int (f_X11_size (r5.1 - a2)) :: [])) (res := (some (.int (f_X11_size (r5.1 - a2))))) (c_X11_size (l := C.2.1) (r5.1 - a2)) (tc29 _ (List.mem_of_getElem? (i := 9) rfl)) (tc29 _ (List.mem_of_getElem? (i := 10) rfl)) (tc1 _ (List.mem_of_getElem? (i := 5) rfl)) (tc29 _ (List.mem_of_getElem? (i := 11) rfl)) (by decide) rfl ⟨rfl, rfl, Nat.le_of_ble_eq_true rfl, Nat.le_of_ble_eq_true rfl⟩ ⟨Nat.le_of_ble_eq_true rfl, Nat.le_of_ble_eq_true rfl⟩ rfl (Nat.le_of_ble_eq_true rfl) rfl rfl rfl (dq dkX11_even_0 32 rfl) ?_
      refine v_istore F (ls' := [(5, .int (f_X11_size (r5.1 - a2))), (0, .ref (K.1 + 61)), (1, .int a1), (2, .int a2), (3, .int a3), (4, .int a4)]) (dq dkX11_even_0 33 rfl) (by decide) rfl ?_
      refine v_iload F (dq dkX11_even_0 34 rfl) 0 rfl ?_
      refine v_aload_n F (dq dkX11_even_0 35 rfl) rfl 1 rfl ?_
      refine v_iconst F (v := 1) (dq dkX11_even_0 36 rfl) ki_1 ?_
      refine v_iload_n F (dq dkX11_even_0 37 rfl) rfl 4 rfl ?_
      refine v_aload_n F (dq dkX11_even_0 38 rfl) rfl 1 rfl ?_
      refine v_get F 61 (xn (by decide)) xc_61 rfl inlX11 0 (by decide) (tc11 _ (List.mem_of_getElem? (i := 17) rfl)) rfl rfl (dq dkX11_even_0 39 rfl) ?_
      refine v_iload_n F (dq dkX11_even_1 0 rfl) rfl 2 rfl ?_
      obtain ⟨g8, h⟩ := gd_of h
      refine v_iald F 62 (xn (by decide)) xc_62 (ib_in g8) (dq dkX11_even_1 1 rfl) ?_
      refine v_aload_n F (dq dkX11_even_1 2 rfl) rfl 1 rfl ?_
      refine v_iload_n F (dq dkX11_even_1 3 rfl) rfl 2 rfl ?_
      obtain ⟨r9, e10, h⟩ := bd_of h
      refine v_callV 1 F (q := 61) (as := [.int a1]) (st := [.int (gi r5.2 62 a1.toNatClampNeg), .int a3, .int 1, .ref (K.1 + 61), .int (f_X11_size (r5.1 - a2))]) (st1 := (.int r9 :: [.int (gi r5.2 62 a1.toNatClampNeg), .int a3, .int 1, .ref (K.1 + 61), .int (f_X11_size (r5.1 - a2))])) (res := (some (.int r9))) (c_X11_knotOf (l := C.2.1) x r5.2 a1 e10) (xn (by decide)) xc_61 rfl (tc28 _ (List.mem_of_getElem? (i := 15) rfl)) (tc28 _ (List.mem_of_getElem? (i := 16) rfl)) (tc28 _ (List.mem_of_getElem? (i := 17) rfl)) (tc1 _ (List.mem_of_getElem? (i := 5) rfl)) (tc28 _ (List.mem_of_getElem? (i := 18) rfl)) (by decide) rfl ⟨rfl, rfl, Nat.le_of_ble_eq_true rfl, Nat.le_of_ble_eq_true rfl⟩ ⟨Nat.le_of_ble_eq_true rfl, Nat.le_of_ble_eq_true rfl⟩ rfl (Nat.le_of_ble_eq_true rfl) rfl rfl rfl (dq dkX11_even_1 4 rfl) ?_
      obtain ⟨r11, e12, h⟩ := bd_of h
      refine v_callV 4 F (q := 61) (as := [.int 1, .int a3, .int (gi r5.2 62 a1.toNatClampNeg), .int r9]) (st := [.int (f_X11_size (r5.1 - a2))]) (st1 := (.int r11.1 :: [.int (f_X11_size (r5.1 - a2))])) (res := (some (.int r11.1))) (c_X11_says (l := C.2.1) x r5.2 1 a3 (gi r5.2 62 a1.toNatClampNeg) r9 e12) (xn (by decide)) xc_61 rfl (tc21 _ (List.mem_of_getElem? (i := 17) rfl)) (tc21 _ (List.mem_of_getElem? (i := 18) rfl)) (tc21 _ (List.mem_of_getElem? (i := 19) rfl)) (tc1 _ (List.mem_of_getElem? (i := 5) rfl)) (tc21 _ (List.mem_of_getElem? (i := 20) rfl)) (by decide) rfl ⟨rfl, rfl, Nat.le_of_ble_eq_true rfl, Nat.le_of_ble_eq_true rfl⟩ ⟨Nat.le_of_ble_eq_true rfl, Nat.le_of_ble_eq_true rfl⟩ rfl (Nat.le_of_ble_eq_true rfl) rfl rfl rfl (dq dkX11_even_1 5 rfl) ?_
      refine v_iload_n F (dq dkX11_even_1 6 rfl) rfl 3 rfl ?_
      refine v_isub F (dq dkX11_even_1 7 rfl) ?_
      refine v_callS 1 F (as := [.int (r11.1 - a2)]) (st := [.int (f_X11_size (r5.1 - a2))]) (st1 := (.int (f_X11_size (r11.1 - a2)) :: [.int (f_X11_size (r5.1 - a2))])) (res := (some (.int (f_X11_size (r11.1 - a2))))) (c_X11_size (l := C.2.1) (r11.1 - a2)) (tc29 _ (List.mem_of_getElem? (i := 9) rfl)) (tc29 _ (List.mem_of_getElem? (i := 10) rfl)) (tc1 _ (List.mem_of_getElem? (i := 5) rfl)) (tc29 _ (List.mem_of_getElem? (i := 11) rfl)) (by decide) rfl ⟨rfl, rfl, Nat.le_of_ble_eq_true rfl, Nat.le_of_ble_eq_true rfl⟩ ⟨Nat.le_of_ble_eq_true rfl, Nat.le_of_ble_eq_true rfl⟩ rfl (Nat.le_of_ble_eq_true rfl) rfl rfl rfl (dq dkX11_even_1 8 rfl) ?_
      refine v_icmp_ge F (tgt := 93) (dq dkX11_even_1 9 rfl) (by decide) (fun c14 => ?_) (fun c14 => ?_)
      · rw [if_pos c14] at h
        refine v_iload_n F (dq dkX11_even_1 12 rfl) rfl 4 rfl ?_
        refine v_sub [1, 2, 3, 5] rfl ?_
        exact t_X11_even_94 (f_X11_even_29 n) r11.2 a1 a2 a4 a3 ih h F E
      · rw [if_neg c14] at h
        refine v_iload F (dq dkX11_even_1 10 rfl) 5 rfl ?_
        refine v_goto F (tgt := 94) (dq dkX11_even_1 11 rfl) (by decide) ?_
        refine v_sub [1, 2, 3, 5] rfl ?_
        exact t_X11_even_94 (f_X11_even_29 n) r11.2 a1 a2 a4 a4 ih h F E
def f_X11_even (y : MS) (a1 : Int32) (a2 : Int32) : Option (Int32 × MS) := if (b2i (f_X11_isSection a1)) = 0 then (some ((-5), y)) else (if (b2i (f_X11_in a2 0 999)) = 0 then (some ((-7), y)) else (f_X11_even_29 1000 y a1 a2 1 2))
set_option maxRecDepth 100000 in
set_option maxHeartbeats 4000000 in
theorem c_X11_even {K : KE} {l : Launch} {R : Int32 × MS} (x : CS) (y : MS) (a1 : Int32) (a2 : Int32) (h : f_X11_even y a1 a2 = some R) : MC K l yX11_even cX11_even 6 (some .int) rm_X11_even 0 0 [.ref (K.1 + 61), .int a1, .int a2] (xf K x y) (xf K x R.2) (some (.int R.1)) := by
  refine mc_of (ls0 := [(0, .ref (K.1 + 61)), (1, .int a1), (2, .int a2)]) (by decide) (Nat.le_of_ble_eq_true rfl) rfl (fun C hl F E => ?_)
  have F : Fx C RX11 cX11_even 6 rm_X11_even K := F
  unfold f_X11_even at h
  refine v_iload_n F (dq dkX11_even_0 0 rfl) rfl 1 rfl ?_
  refine v_callS 1 F (as := [.int a1]) (st := []) (st1 := (.int (b2i (f_X11_isSection a1)) :: [])) (res := (some (.int (b2i (f_X11_isSection a1))))) (c_X11_isSection (l := C.2.1) a1) (tc14 _ (List.mem_of_getElem? (i := 22) rfl)) (tc14 _ (List.mem_of_getElem? (i := 23) rfl)) (tc1 _ (List.mem_of_getElem? (i := 5) rfl)) (tc15 _ (List.mem_of_getElem? (i := 0) rfl)) (by decide) rfl ⟨rfl, rfl, Nat.le_of_ble_eq_true rfl, Nat.le_of_ble_eq_true rfl⟩ ⟨Nat.le_of_ble_eq_true rfl, Nat.le_of_ble_eq_true rfl⟩ rfl (Nat.le_of_ble_eq_true rfl) rfl rfl rfl (dq dkX11_even_0 1 rfl) ?_
  refine v_if_ne F (tgt := 10) (dq dkX11_even_0 2 rfl) (by decide) (fun c16 => ?_) (fun c16 => ?_)
  · rw [if_neg c16] at h
    refine v_iload_n F (dq dkX11_even_0 5 rfl) rfl 2 rfl ?_
    refine v_iconst F (v := 0) (dq dkX11_even_0 6 rfl) ki_0 ?_
    refine v_sipush F (v := 999) (dq dkX11_even_0 7 rfl) ks_999 ?_
    refine v_callS 3 F (as := [.int a2, .int 0, .int 999]) (st := []) (st1 := (.int (b2i (f_X11_in a2 0 999)) :: [])) (res := (some (.int (b2i (f_X11_in a2 0 999))))) (c_X11_in (l := C.2.1) a2 0 999) (tc15 _ (List.mem_of_getElem? (i := 1) rfl)) (tc15 _ (List.mem_of_getElem? (i := 2) rfl)) (tc1 _ (List.mem_of_getElem? (i := 5) rfl)) (tc15 _ (List.mem_of_getElem? (i := 3) rfl)) (by decide) rfl ⟨rfl, rfl, Nat.le_of_ble_eq_true rfl, Nat.le_of_ble_eq_true rfl⟩ ⟨Nat.le_of_ble_eq_true rfl, Nat.le_of_ble_eq_true rfl⟩ rfl (Nat.le_of_ble_eq_true rfl) rfl rfl rfl (dq dkX11_even_0 8 rfl) ?_
    refine v_if_ne F (tgt := 24) (dq dkX11_even_0 9 rfl) (by decide) (fun c18 => ?_) (fun c18 => ?_)
    · rw [if_neg c18] at h
      refine v_iconst F (v := 1) (dq dkX11_even_0 12 rfl) ki_1 ?_
      refine v_istore_n F (ls' := [(3, .int 1), (0, .ref (K.1 + 61)), (1, .int a1), (2, .int a2)]) (dq dkX11_even_0 13 rfl) rfl (by decide) rfl ?_
      refine v_iconst F (v := 2) (dq dkX11_even_0 14 rfl) ki_2 ?_
      refine v_istore F (ls' := [(4, .int 2), (3, .int 1), (0, .ref (K.1 + 61)), (1, .int a1), (2, .int a2)]) (dq dkX11_even_0 15 rfl) (by decide) rfl ?_
      refine v_sub [2, 3, 4, 1, 0] rfl ?_
      exact t_X11_even_29 F E 1000 y a1 a2 1 2 h
    · rw [if_pos c18] at h
      refine v_bipush F (v := (-7)) (dq dkX11_even_0 10 rfl) kb_m7 ?_
      cases h
      exact v_iret F E (dq dkX11_even_0 11 rfl)
  · rw [if_pos c16] at h
    refine v_bipush F (v := (-5)) (dq dkX11_even_0 3 rfl) kb_m5 ?_
    cases h
    exact v_iret F E (dq dkX11_even_0 4 rfl)
def rm_X11_behind : Room := { frames := 4, cells := 0, slots := 0, locals := 102 }
def f_X11_behind_48 (k13 : MS → Int32 → Int32 → Int32 → Int32 → Option (Int32 × MS)) (y : MS) (a1 : Int32) (a2 : Int32) (a4 : Int32) (s0 : Int32) : Option (Int32 × MS) := k13 y a1 a2 s0 (a4 + 1)
set_option maxRecDepth 100000 in
set_option maxHeartbeats 4000000 in
theorem t_X11_behind_48 {C : Cx} {K : KE} {x : CS} {R : Int32 × MS}  (k13 : MS → Int32 → Int32 → Int32 → Int32 → Option (Int32 × MS)) (y : MS) (a1 : Int32) (a2 : Int32) (a4 : Int32) (s0 : Int32) (hk13 : ∀ (y : MS) (a1 : Int32) (a2 : Int32) (a3 : Int32) (a4 : Int32), k13 y a1 a2 a3 a4 = some R → V C 13 [(0, .ref (K.1 + 61)), (1, .int a1), (2, .int a2), (3, .int a3), (4, .int a4)] [] (xf K x y) 0 0) (h : f_X11_behind_48 k13 y a1 a2 a4 s0 = some R) (F : Fx C RX11 cX11_behind 5 rm_X11_behind K) (E : CE C (xf K x R.2) (some (.int R.1)) 0 0 (some .int)) : V C 48 [(0, .ref (K.1 + 61)), (1, .int a1), (2, .int a2), (4, .int a4)] [.int s0] (xf K x y) 0 0 := by
  unfold f_X11_behind_48 at h
  refine v_istore_n F (ls' := [(3, .int s0), (0, .ref (K.1 + 61)), (1, .int a1), (2, .int a2), (4, .int a4)]) (dq dkX11_behind_0 31 rfl) rfl (by decide) rfl ?_
  refine v_iinc F (v := a4 + 1) (ls' := [(4, .int (a4 + 1)), (3, .int s0), (0, .ref (K.1 + 61)), (1, .int a1), (2, .int a2)]) (dq dkX11_behind_0 32 rfl) (j := 4) rfl (kv_add ki_1) (by decide) rfl ?_
  refine v_goto F (tgt := 13) (dq dkX11_behind_0 33 rfl) (by decide) ?_
  refine v_sub [2, 3, 4, 1, 0] rfl ?_
  exact hk13 y a1 a2 s0 (a4 + 1) h
def f_X11_behind_13 : Nat → MS → Int32 → Int32 → Int32 → Int32 → Option (Int32 × MS)
  | 0, _, _, _, _, _ => none
  | n + 1, y, a1, a2, a3, a4 => if a2 ≤ a4 then (some (a3, y)) else (gd (ib a1 54) ((f_X11_knotOf y a1).bind fun r3 => (f_X11_says y 0 a3 (gi y 62 a1.toNatClampNeg) r3).bind fun r5 => if 0 ≤ (a3 - r5.1) then (f_X11_behind_48 (f_X11_behind_13 n) r5.2 a1 a2 a4 (a3 - r5.1)) else (f_X11_behind_48 (f_X11_behind_13 n) r5.2 a1 a2 a4 0)))
set_option maxRecDepth 100000 in
set_option maxHeartbeats 4000000 in
theorem t_X11_behind_13 {C : Cx} {K : KE} {x : CS} {R : Int32 × MS}  (F : Fx C RX11 cX11_behind 5 rm_X11_behind K) (E : CE C (xf K x R.2) (some (.int R.1)) 0 0 (some .int)) : ∀ (n : Nat) (y : MS) (a1 : Int32) (a2 : Int32) (a3 : Int32) (a4 : Int32) (h : f_X11_behind_13 n y a1 a2 a3 a4 = some R), V C 13 [(0, .ref (K.1 + 61)), (1, .int a1), (2, .int a2), (3, .int a3), (4, .int a4)] [] (xf K x y) 0 0 := by
  intro n
  induction n with
  | zero => intro y a1 a2 a3 a4 h; cases h
  | succ n ih =>
    intro y a1 a2 a3 a4 h
    rw [f_X11_behind_13] at h
    refine v_iload F (dq dkX11_behind_0 9 rfl) 4 rfl ?_
    refine v_iload_n F (dq dkX11_behind_0 10 rfl) rfl 2 rfl ?_
    refine v_icmp_ge F (tgt := 55) (dq dkX11_behind_0 11 rfl) (by decide) (fun c1 => ?_) (fun c1 => ?_)
    · rw [if_pos c1] at h
      refine v_iload_n F (dq dkX11_behind_0 34 rfl) rfl 3 rfl ?_
      cases h
      exact v_iret F E (dq dkX11_behind_0 35 rfl)
    · rw [if_neg c1] at h
      refine v_iload_n F (dq dkX11_behind_0 12 rfl) rfl 3 rfl ?_
      refine v_aload_n F (dq dkX11_behind_0 13 rfl) rfl 0 rfl ?_
      refine v_iconst F (v := 0) (dq dkX11_behind_0 14 rfl) ki_0 ?_
      refine v_iload_n F (dq dkX11_behind_0 15 rfl) rfl 3 rfl ?_
      refine v_aload_n F (dq dkX11_behind_0 16 rfl) rfl 0 rfl ?_
      refine v_get F 61 (xn (by decide)) xc_61 rfl inlX11 0 (by decide) (tc11 _ (List.mem_of_getElem? (i := 17) rfl)) rfl rfl (dq dkX11_behind_0 17 rfl) ?_
      refine v_iload_n F (dq dkX11_behind_0 18 rfl) rfl 1 rfl ?_
      obtain ⟨g2, h⟩ := gd_of h
      refine v_iald F 62 (xn (by decide)) xc_62 (ib_in g2) (dq dkX11_behind_0 19 rfl) ?_
      refine v_aload_n F (dq dkX11_behind_0 20 rfl) rfl 0 rfl ?_
      refine v_iload_n F (dq dkX11_behind_0 21 rfl) rfl 1 rfl ?_
      obtain ⟨r3, e4, h⟩ := bd_of h
      refine v_callV 1 F (q := 61) (as := [.int a1]) (st := [.int (gi y 62 a1.toNatClampNeg), .int a3, .int 0, .ref (K.1 + 61), .int a3]) (st1 := (.int r3 :: [.int (gi y 62 a1.toNatClampNeg), .int a3, .int 0, .ref (K.1 + 61), .int a3])) (res := (some (.int r3))) (c_X11_knotOf (l := C.2.1) x y a1 e4) (xn (by decide)) xc_61 rfl (tc28 _ (List.mem_of_getElem? (i := 15) rfl)) (tc28 _ (List.mem_of_getElem? (i := 16) rfl)) (tc28 _ (List.mem_of_getElem? (i := 17) rfl)) (tc1 _ (List.mem_of_getElem? (i := 5) rfl)) (tc28 _ (List.mem_of_getElem? (i := 18) rfl)) (by decide) rfl ⟨rfl, rfl, Nat.le_of_ble_eq_true rfl, Nat.le_of_ble_eq_true rfl⟩ ⟨Nat.le_of_ble_eq_true rfl, Nat.le_of_ble_eq_true rfl⟩ rfl (Nat.le_of_ble_eq_true rfl) rfl rfl rfl (dq dkX11_behind_0 22 rfl) ?_
      obtain ⟨r5, e6, h⟩ := bd_of h
      refine v_callV 4 F (q := 61) (as := [.int 0, .int a3, .int (gi y 62 a1.toNatClampNeg), .int r3]) (st := [.int a3]) (st1 := (.int r5.1 :: [.int a3])) (res := (some (.int r5.1))) (c_X11_says (l := C.2.1) x y 0 a3 (gi y 62 a1.toNatClampNeg) r3 e6) (xn (by decide)) xc_61 rfl (tc21 _ (List.mem_of_getElem? (i := 17) rfl)) (tc21 _ (List.mem_of_getElem? (i := 18) rfl)) (tc21 _ (List.mem_of_getElem? (i := 19) rfl)) (tc1 _ (List.mem_of_getElem? (i := 5) rfl)) (tc21 _ (List.mem_of_getElem? (i := 20) rfl)) (by decide) rfl ⟨rfl, rfl, Nat.le_of_ble_eq_true rfl, Nat.le_of_ble_eq_true rfl⟩ ⟨Nat.le_of_ble_eq_true rfl, Nat.le_of_ble_eq_true rfl⟩ rfl (Nat.le_of_ble_eq_true rfl) rfl rfl rfl (dq dkX11_behind_0 23 rfl) ?_
      refine v_isub F (dq dkX11_behind_0 24 rfl) ?_
      refine v_istore_n F (ls' := [(3, .int (a3 - r5.1)), (0, .ref (K.1 + 61)), (1, .int a1), (2, .int a2), (4, .int a4)]) (dq dkX11_behind_0 25 rfl) rfl (by decide) rfl ?_
      refine v_iload_n F (dq dkX11_behind_0 26 rfl) rfl 0 rfl ?_
      refine v_if_ge F (tgt := 47) (dq dkX11_behind_0 27 rfl) (by decide) (fun c7 => ?_) (fun c7 => ?_)
      · rw [if_pos c7] at h
        refine v_iload_n F (dq dkX11_behind_0 30 rfl) rfl 0 rfl ?_
        refine v_sub [1, 2, 3, 4] rfl ?_
        exact t_X11_behind_48 (f_X11_behind_13 n) r5.2 a1 a2 a4 (a3 - r5.1) ih h F E
      · rw [if_neg c7] at h
        refine v_iconst F (v := 0) (dq dkX11_behind_0 28 rfl) ki_0 ?_
        refine v_goto F (tgt := 48) (dq dkX11_behind_0 29 rfl) (by decide) ?_
        refine v_sub [1, 2, 3, 4] rfl ?_
        exact t_X11_behind_48 (f_X11_behind_13 n) r5.2 a1 a2 a4 0 ih h F E
def f_X11_behind (y : MS) (a1 : Int32) (a2 : Int32) : Option (Int32 × MS) := gd (ib (9 + a1) 54) (f_X11_behind_13 1000 y a1 a2 (gi y 62 (9 + a1).toNatClampNeg) 0)
set_option maxRecDepth 100000 in
set_option maxHeartbeats 4000000 in
theorem c_X11_behind {K : KE} {l : Launch} {R : Int32 × MS} (x : CS) (y : MS) (a1 : Int32) (a2 : Int32) (h : f_X11_behind y a1 a2 = some R) : MC K l yX11_behind cX11_behind 5 (some .int) rm_X11_behind 0 0 [.ref (K.1 + 61), .int a1, .int a2] (xf K x y) (xf K x R.2) (some (.int R.1)) := by
  refine mc_of (ls0 := [(0, .ref (K.1 + 61)), (1, .int a1), (2, .int a2)]) (by decide) (Nat.le_of_ble_eq_true rfl) rfl (fun C hl F E => ?_)
  have F : Fx C RX11 cX11_behind 5 rm_X11_behind K := F
  unfold f_X11_behind at h
  refine v_aload_n F (dq dkX11_behind_0 0 rfl) rfl 0 rfl ?_
  refine v_get F 61 (xn (by decide)) xc_61 rfl inlX11 0 (by decide) (tc11 _ (List.mem_of_getElem? (i := 17) rfl)) rfl rfl (dq dkX11_behind_0 1 rfl) ?_
  refine v_bipush F (v := 9) (dq dkX11_behind_0 2 rfl) kb_9 ?_
  refine v_iload_n F (dq dkX11_behind_0 3 rfl) rfl 1 rfl ?_
  refine v_iadd F (dq dkX11_behind_0 4 rfl) ?_
  obtain ⟨g8, h⟩ := gd_of h
  refine v_iald F 62 (xn (by decide)) xc_62 (ib_in g8) (dq dkX11_behind_0 5 rfl) ?_
  refine v_istore_n F (ls' := [(3, .int (gi y 62 (9 + a1).toNatClampNeg)), (0, .ref (K.1 + 61)), (1, .int a1), (2, .int a2)]) (dq dkX11_behind_0 6 rfl) rfl (by decide) rfl ?_
  refine v_iconst F (v := 0) (dq dkX11_behind_0 7 rfl) ki_0 ?_
  refine v_istore F (ls' := [(4, .int 0), (3, .int (gi y 62 (9 + a1).toNatClampNeg)), (0, .ref (K.1 + 61)), (1, .int a1), (2, .int a2)]) (dq dkX11_behind_0 8 rfl) (by decide) rfl ?_
  refine v_sub [2, 3, 4, 1, 0] rfl ?_
  exact t_X11_behind_13 F E 1000 y a1 a2 (gi y 62 (9 + a1).toNatClampNeg) 0 h
def rm_X11_hours : Room := { frames := 5, cells := 0, slots := 0, locals := 126 }
def f_X11_hours_53 (k24 : MS → Int32 → Int32 → Int32 → Option (Int32 × MS)) (y : MS) (a1 : Int32) (a2 : Int32) (a3 : Int32) (s0 : Int32) (s1 : Int32) : Option (Int32 × MS) := if s0 < s1 then (k24 y a1 a2 (a3 + 1)) else (some (a3, y))
set_option maxRecDepth 100000 in
set_option maxHeartbeats 4000000 in
theorem t_X11_hours_53 {C : Cx} {K : KE} {x : CS} {R : Int32 × MS}  (k24 : MS → Int32 → Int32 → Int32 → Option (Int32 × MS)) (y : MS) (a1 : Int32) (a2 : Int32) (a3 : Int32) (s0 : Int32) (s1 : Int32) (hk24 : ∀ (y : MS) (a1 : Int32) (a2 : Int32) (a3 : Int32), k24 y a1 a2 a3 = some R → V C 24 [(0, .ref (K.1 + 61)), (1, .int a1), (2, .int a2), (3, .int a3)] [] (xf K x y) 0 0) (h : f_X11_hours_53 k24 y a1 a2 a3 s0 s1 = some R) (F : Fx C RX11 cX11_hours 4 rm_X11_hours K) (E : CE C (xf K x R.2) (some (.int R.1)) 0 0 (some .int)) : V C 53 [(0, .ref (K.1 + 61)), (1, .int a1), (2, .int a2), (3, .int a3)] [.int s0, .int s1] (xf K x y) 0 0 := by
  unfold f_X11_hours_53 at h
  refine v_icmp_gt F (tgt := 58) (dq dkX11_hours_0 31 rfl) (by decide) (fun c1 => ?_) (fun c1 => ?_)
  · rw [if_pos c1] at h
    refine v_iinc F (v := a3 + 1) (ls' := [(3, .int (a3 + 1)), (0, .ref (K.1 + 61)), (1, .int a1), (2, .int a2)]) (dq dkX11_hours_0 34 rfl) (j := 3) rfl (kv_add ki_1) (by decide) rfl ?_
    refine v_goto F (tgt := 24) (dq dkX11_hours_0 35 rfl) (by decide) ?_
    refine v_sub [1, 2, 3, 0] rfl ?_
    exact hk24 y a1 a2 (a3 + 1) h
  · rw [if_neg c1] at h
    refine v_iload_n F (dq dkX11_hours_0 32 rfl) rfl 3 rfl ?_
    cases h
    exact v_iret F E (dq dkX11_hours_0 33 rfl)
def f_X11_hours_24 : Nat → MS → Int32 → Int32 → Int32 → Option (Int32 × MS)
  | 0, _, _, _, _ => none
  | n + 1, y, a1, a2, a3 => if 24 < a3 then (some ((-1), y)) else ((f_X11_behind y a1 a3).bind fun r3 => if a2 = 0 then (gd (ib (45 + a1) 54) (f_X11_hours_53 (f_X11_hours_24 n) r3.2 a1 a2 a3 (gi r3.2 62 (45 + a1).toNatClampNeg) r3.1)) else (f_X11_hours_53 (f_X11_hours_24 n) r3.2 a1 a2 a3 0 r3.1))
set_option maxRecDepth 100000 in
set_option maxHeartbeats 4000000 in
theorem t_X11_hours_24 {C : Cx} {K : KE} {x : CS} {R : Int32 × MS}  (F : Fx C RX11 cX11_hours 4 rm_X11_hours K) (E : CE C (xf K x R.2) (some (.int R.1)) 0 0 (some .int)) : ∀ (n : Nat) (y : MS) (a1 : Int32) (a2 : Int32) (a3 : Int32) (h : f_X11_hours_24 n y a1 a2 a3 = some R), V C 24 [(0, .ref (K.1 + 61)), (1, .int a1), (2, .int a2), (3, .int a3)] [] (xf K x y) 0 0 := by
  intro n
  induction n with
  | zero => intro y a1 a2 a3 h; cases h
  | succ n ih =>
    intro y a1 a2 a3 h
    rw [f_X11_hours_24] at h
    refine v_iload_n F (dq dkX11_hours_0 14 rfl) rfl 3 rfl ?_
    refine v_bipush F (v := 24) (dq dkX11_hours_0 15 rfl) kb_24 ?_
    refine v_icmp_gt F (tgt := 64) (dq dkX11_hours_0 16 rfl) (by decide) (fun c2 => ?_) (fun c2 => ?_)
    · rw [if_pos c2] at h
      refine v_iconst F (v := (-1)) (dq dkX11_hours_0 36 rfl) ki_m1 ?_
      cases h
      exact v_iret F E (dq dkX11_hours_0 37 rfl)
    · rw [if_neg c2] at h
      refine v_aload_n F (dq dkX11_hours_0 17 rfl) rfl 0 rfl ?_
      refine v_iload_n F (dq dkX11_hours_0 18 rfl) rfl 1 rfl ?_
      refine v_iload_n F (dq dkX11_hours_0 19 rfl) rfl 3 rfl ?_
      obtain ⟨r3, e4, h⟩ := bd_of h
      refine v_callV 2 F (q := 61) (as := [.int a1, .int a3]) (st := []) (st1 := (.int r3.1 :: [])) (res := (some (.int r3.1))) (c_X11_behind (l := C.2.1) x y a1 a3 e4) (xn (by decide)) xc_61 rfl (tc38 _ (List.mem_of_getElem? (i := 2) rfl)) (tc38 _ (List.mem_of_getElem? (i := 3) rfl)) (tc38 _ (List.mem_of_getElem? (i := 4) rfl)) (tc1 _ (List.mem_of_getElem? (i := 5) rfl)) (tc38 _ (List.mem_of_getElem? (i := 5) rfl)) (by decide) rfl ⟨rfl, rfl, Nat.le_of_ble_eq_true rfl, Nat.le_of_ble_eq_true rfl⟩ ⟨Nat.le_of_ble_eq_true rfl, Nat.le_of_ble_eq_true rfl⟩ rfl (Nat.le_of_ble_eq_true rfl) rfl rfl rfl (dq dkX11_hours_0 20 rfl) ?_
      refine v_iload_n F (dq dkX11_hours_0 21 rfl) rfl 2 rfl ?_
      refine v_if_ne F (tgt := 52) (dq dkX11_hours_0 22 rfl) (by decide) (fun c5 => ?_) (fun c5 => ?_)
      · rw [if_neg c5] at h
        refine v_iconst F (v := 0) (dq dkX11_hours_0 30 rfl) ki_0 ?_
        exact t_X11_hours_53 (f_X11_hours_24 n) r3.2 a1 a2 a3 0 r3.1 ih h F E
      · rw [if_pos c5] at h
        refine v_aload_n F (dq dkX11_hours_0 23 rfl) rfl 0 rfl ?_
        refine v_get F 61 (xn (by decide)) xc_61 rfl inlX11 0 (by decide) (tc11 _ (List.mem_of_getElem? (i := 17) rfl)) rfl rfl (dq dkX11_hours_0 24 rfl) ?_
        refine v_bipush F (v := 45) (dq dkX11_hours_0 25 rfl) kb_45 ?_
        refine v_iload_n F (dq dkX11_hours_0 26 rfl) rfl 1 rfl ?_
        refine v_iadd F (dq dkX11_hours_0 27 rfl) ?_
        obtain ⟨g6, h⟩ := gd_of h
        refine v_iald F 62 (xn (by decide)) xc_62 (ib_in g6) (dq dkX11_hours_0 28 rfl) ?_
        refine v_goto F (tgt := 53) (dq dkX11_hours_0 29 rfl) (by decide) ?_
        exact t_X11_hours_53 (f_X11_hours_24 n) r3.2 a1 a2 a3 (gi r3.2 62 (45 + a1).toNatClampNeg) r3.1 ih h F E
def f_X11_hours (y : MS) (a1 : Int32) (a2 : Int32) : Option (Int32 × MS) := if (b2i (f_X11_isSection a1)) = 0 then (some ((-5), y)) else (if (b2i (f_X11_in a2 0 1)) = 0 then (some ((-7), y)) else (f_X11_hours_24 1000 y a1 a2 0))
set_option maxRecDepth 100000 in
set_option maxHeartbeats 4000000 in
theorem c_X11_hours {K : KE} {l : Launch} {R : Int32 × MS} (x : CS) (y : MS) (a1 : Int32) (a2 : Int32) (h : f_X11_hours y a1 a2 = some R) : MC K l yX11_hours cX11_hours 4 (some .int) rm_X11_hours 0 0 [.ref (K.1 + 61), .int a1, .int a2] (xf K x y) (xf K x R.2) (some (.int R.1)) := by
  refine mc_of (ls0 := [(0, .ref (K.1 + 61)), (1, .int a1), (2, .int a2)]) (by decide) (Nat.le_of_ble_eq_true rfl) rfl (fun C hl F E => ?_)
  have F : Fx C RX11 cX11_hours 4 rm_X11_hours K := F
  unfold f_X11_hours at h
  refine v_iload_n F (dq dkX11_hours_0 0 rfl) rfl 1 rfl ?_
  refine v_callS 1 F (as := [.int a1]) (st := []) (st1 := (.int (b2i (f_X11_isSection a1)) :: [])) (res := (some (.int (b2i (f_X11_isSection a1))))) (c_X11_isSection (l := C.2.1) a1) (tc14 _ (List.mem_of_getElem? (i := 22) rfl)) (tc14 _ (List.mem_of_getElem? (i := 23) rfl)) (tc1 _ (List.mem_of_getElem? (i := 5) rfl)) (tc15 _ (List.mem_of_getElem? (i := 0) rfl)) (by decide) rfl ⟨rfl, rfl, Nat.le_of_ble_eq_true rfl, Nat.le_of_ble_eq_true rfl⟩ ⟨Nat.le_of_ble_eq_true rfl, Nat.le_of_ble_eq_true rfl⟩ rfl (Nat.le_of_ble_eq_true rfl) rfl rfl rfl (dq dkX11_hours_0 1 rfl) ?_
  refine v_if_ne F (tgt := 10) (dq dkX11_hours_0 2 rfl) (by decide) (fun c8 => ?_) (fun c8 => ?_)
  · rw [if_neg c8] at h
    refine v_iload_n F (dq dkX11_hours_0 5 rfl) rfl 2 rfl ?_
    refine v_iconst F (v := 0) (dq dkX11_hours_0 6 rfl) ki_0 ?_
    refine v_iconst F (v := 1) (dq dkX11_hours_0 7 rfl) ki_1 ?_
    refine v_callS 3 F (as := [.int a2, .int 0, .int 1]) (st := []) (st1 := (.int (b2i (f_X11_in a2 0 1)) :: [])) (res := (some (.int (b2i (f_X11_in a2 0 1))))) (c_X11_in (l := C.2.1) a2 0 1) (tc15 _ (List.mem_of_getElem? (i := 1) rfl)) (tc15 _ (List.mem_of_getElem? (i := 2) rfl)) (tc1 _ (List.mem_of_getElem? (i := 5) rfl)) (tc15 _ (List.mem_of_getElem? (i := 3) rfl)) (by decide) rfl ⟨rfl, rfl, Nat.le_of_ble_eq_true rfl, Nat.le_of_ble_eq_true rfl⟩ ⟨Nat.le_of_ble_eq_true rfl, Nat.le_of_ble_eq_true rfl⟩ rfl (Nat.le_of_ble_eq_true rfl) rfl rfl rfl (dq dkX11_hours_0 8 rfl) ?_
    refine v_if_ne F (tgt := 22) (dq dkX11_hours_0 9 rfl) (by decide) (fun c10 => ?_) (fun c10 => ?_)
    · rw [if_neg c10] at h
      refine v_iconst F (v := 0) (dq dkX11_hours_0 12 rfl) ki_0 ?_
      refine v_istore_n F (ls' := [(3, .int 0), (0, .ref (K.1 + 61)), (1, .int a1), (2, .int a2)]) (dq dkX11_hours_0 13 rfl) rfl (by decide) rfl ?_
      refine v_sub [1, 2, 3, 0] rfl ?_
      exact t_X11_hours_24 F E 1000 y a1 a2 0 h
    · rw [if_pos c10] at h
      refine v_bipush F (v := (-7)) (dq dkX11_hours_0 10 rfl) kb_m7 ?_
      cases h
      exact v_iret F E (dq dkX11_hours_0 11 rfl)
  · rw [if_pos c8] at h
    refine v_bipush F (v := (-5)) (dq dkX11_hours_0 3 rfl) kb_m5 ?_
    cases h
    exact v_iret F E (dq dkX11_hours_0 4 rfl)
def rm_X11_left : Room := { frames := 5, cells := 0, slots := 0, locals := 126 }
def f_X11_left_26 (y : MS) : Option (Int64 × MS) := some ((-4611686018427387904), y)
set_option maxRecDepth 100000 in
set_option maxHeartbeats 4000000 in
theorem t_X11_left_26 {C : Cx} {K : KE} {x : CS} {R : Int64 × MS}  (y : MS) (h : f_X11_left_26 y = some R) (F : Fx C RX11 cX11_left 7 rm_X11_left K) (E : CE C (xf K x R.2) (some (.long R.1)) 0 0 (some .long)) : V C 26 [] [] (xf K x y) 0 0 := by
  unfold f_X11_left_26 at h
  refine v_ldc2 F (v := (-4611686018427387904)) (tc33 _ (List.mem_of_getElem? (i := 20) rfl)) (dq dkX11_left_0 13 rfl) ?_
  cases h
  exact v_lret F E (dq dkX11_left_0 14 rfl)
def f_X11_left_80 (k42 : MS → Int32 → Int32 → Int32 → Int32 → Int32 → Int32 → Option (Int64 × MS)) (y : MS) (a1 : Int32) (a2 : Int32) (a3 : Int32) (a4 : Int32) (a6 : Int32) (s0 : Int32) (s1 : Int32) : Option (Int64 × MS) := k42 y a1 a2 a3 a4 (s1 + s0) (a6 + 1)
set_option maxRecDepth 100000 in
set_option maxHeartbeats 4000000 in
theorem t_X11_left_80 {C : Cx} {K : KE} {x : CS} {R : Int64 × MS}  (k42 : MS → Int32 → Int32 → Int32 → Int32 → Int32 → Int32 → Option (Int64 × MS)) (y : MS) (a1 : Int32) (a2 : Int32) (a3 : Int32) (a4 : Int32) (a6 : Int32) (s0 : Int32) (s1 : Int32) (hk42 : ∀ (y : MS) (a1 : Int32) (a2 : Int32) (a3 : Int32) (a4 : Int32) (a5 : Int32) (a6 : Int32), k42 y a1 a2 a3 a4 a5 a6 = some R → V C 42 [(0, .ref (K.1 + 61)), (1, .int a1), (2, .int a2), (3, .int a3), (4, .int a4), (5, .int a5), (6, .int a6)] [] (xf K x y) 0 0) (h : f_X11_left_80 k42 y a1 a2 a3 a4 a6 s0 s1 = some R) (F : Fx C RX11 cX11_left 7 rm_X11_left K) (E : CE C (xf K x R.2) (some (.long R.1)) 0 0 (some .long)) : V C 80 [(0, .ref (K.1 + 61)), (1, .int a1), (2, .int a2), (3, .int a3), (4, .int a4), (6, .int a6)] [.int s0, .int s1] (xf K x y) 0 0 := by
  unfold f_X11_left_80 at h
  refine v_iadd F (dq dkX11_left_1 3 rfl) ?_
  refine v_istore F (ls' := [(5, .int (s1 + s0)), (0, .ref (K.1 + 61)), (1, .int a1), (2, .int a2), (3, .int a3), (4, .int a4), (6, .int a6)]) (dq dkX11_left_1 4 rfl) (by decide) rfl ?_
  refine v_iinc F (v := a6 + 1) (ls' := [(6, .int (a6 + 1)), (5, .int (s1 + s0)), (0, .ref (K.1 + 61)), (1, .int a1), (2, .int a2), (3, .int a3), (4, .int a4)]) (dq dkX11_left_1 5 rfl) (j := 6) rfl (kv_add ki_1) (by decide) rfl ?_
  refine v_goto F (tgt := 42) (dq dkX11_left_1 6 rfl) (by decide) ?_
  refine v_sub [2, 3, 4, 5, 6, 1, 0] rfl ?_
  exact hk42 y a1 a2 a3 a4 (s1 + s0) (a6 + 1) h
def f_X11_left_42 : Nat → MS → Int32 → Int32 → Int32 → Int32 → Int32 → Int32 → Option (Int64 × MS)
  | 0, _, _, _, _, _, _, _ => none
  | n + 1, y, a1, a2, a3, a4, a5, a6 => if 9 < a6 then ((f_X11_lowest a5.toInt64 10 a3).bind fun r2 => some (r2, pi y 61 2 a4)) else ((f_X11_behind (pi y 61 2 a6) a1 a2).bind fun r4 => gd (ib (45 + a1) 54) (if r4.1 < (gi r4.2 62 (45 + a1).toNatClampNeg) then (f_X11_left_80 (f_X11_left_42 n) r4.2 a1 a2 a3 a4 a6 0 a5) else (f_X11_left_80 (f_X11_left_42 n) r4.2 a1 a2 a3 a4 a6 1 a5)))
set_option maxRecDepth 100000 in
set_option maxHeartbeats 4000000 in
theorem t_X11_left_42 {C : Cx} {K : KE} {x : CS} {R : Int64 × MS}  (F : Fx C RX11 cX11_left 7 rm_X11_left K) (E : CE C (xf K x R.2) (some (.long R.1)) 0 0 (some .long)) : ∀ (n : Nat) (y : MS) (a1 : Int32) (a2 : Int32) (a3 : Int32) (a4 : Int32) (a5 : Int32) (a6 : Int32) (h : f_X11_left_42 n y a1 a2 a3 a4 a5 a6 = some R), V C 42 [(0, .ref (K.1 + 61)), (1, .int a1), (2, .int a2), (3, .int a3), (4, .int a4), (5, .int a5), (6, .int a6)] [] (xf K x y) 0 0 := by
  intro n
  induction n with
  | zero => intro y a1 a2 a3 a4 a5 a6 h; cases h
  | succ n ih =>
    intro y a1 a2 a3 a4 a5 a6 h
    rw [f_X11_left_42] at h
    refine v_iload F (dq dkX11_left_0 22 rfl) 6 rfl ?_
    refine v_bipush F (v := 9) (dq dkX11_left_0 23 rfl) kb_9 ?_
    refine v_icmp_gt F (tgt := 89) (dq dkX11_left_0 24 rfl) (by decide) (fun c1 => ?_) (fun c1 => ?_)
    · rw [if_pos c1] at h
      refine v_aload_n F (dq dkX11_left_1 7 rfl) rfl 0 rfl ?_
      refine v_iload F (dq dkX11_left_1 8 rfl) 4 rfl ?_
      refine v_put F 61 (xn (by decide)) xc_61 rfl inlX11 tyX11_ok nmX11 2 (by decide) (tc16 _ (List.mem_of_getElem? (i := 14) rfl)) rfl rfl (tyX11_ok 2 (by decide)) rfl rfl (Nat.le_of_ble_eq_true rfl) (dq dkX11_left_1 9 rfl) ?_
      refine v_eqM (xwM (q := 61) (j := 2) (v := a4) (by decide) (by decide) rfl) ?_
      refine v_iload F (dq dkX11_left_1 10 rfl) 5 rfl ?_
      refine v_i2l F (dq dkX11_left_1 11 rfl) ?_
      refine v_ldc2 F (v := 10) (tc38 _ (List.mem_of_getElem? (i := 20) rfl)) (dq dkX11_left_1 12 rfl) ?_
      refine v_iload_n F (dq dkX11_left_1 13 rfl) rfl 3 rfl ?_
      obtain ⟨r2, e3, h⟩ := bd_of h
      refine v_callS 3 F (as := [.long a5.toInt64, .long 10, .int a3]) (st := []) (st1 := (.long r2 :: [])) (res := (some (.long r2))) (c_X11_lowest (l := C.2.1) a5.toInt64 10 a3 e3) (tc34 _ (List.mem_of_getElem? (i := 2) rfl)) (tc34 _ (List.mem_of_getElem? (i := 3) rfl)) (tc1 _ (List.mem_of_getElem? (i := 5) rfl)) (tc34 _ (List.mem_of_getElem? (i := 4) rfl)) (by decide) rfl ⟨rfl, rfl, Nat.le_of_ble_eq_true rfl, Nat.le_of_ble_eq_true rfl⟩ ⟨Nat.le_of_ble_eq_true rfl, Nat.le_of_ble_eq_true rfl⟩ rfl (Nat.le_of_ble_eq_true rfl) rfl rfl rfl (dq dkX11_left_1 14 rfl) ?_
      cases h
      exact v_lret F E (dq dkX11_left_1 15 rfl)
    · rw [if_neg c1] at h
      refine v_aload_n F (dq dkX11_left_0 25 rfl) rfl 0 rfl ?_
      refine v_iload F (dq dkX11_left_0 26 rfl) 6 rfl ?_
      refine v_put F 61 (xn (by decide)) xc_61 rfl inlX11 tyX11_ok nmX11 2 (by decide) (tc16 _ (List.mem_of_getElem? (i := 14) rfl)) rfl rfl (tyX11_ok 2 (by decide)) rfl rfl (Nat.le_of_ble_eq_true rfl) (dq dkX11_left_0 27 rfl) ?_
      refine v_eqM (xwM (q := 61) (j := 2) (v := a6) (by decide) (by decide) rfl) ?_
      refine v_iload F (dq dkX11_left_0 28 rfl) 5 rfl ?_
      refine v_aload_n F (dq dkX11_left_0 29 rfl) rfl 0 rfl ?_
      refine v_iload_n F (dq dkX11_left_0 30 rfl) rfl 1 rfl ?_
      refine v_iload_n F (dq dkX11_left_0 31 rfl) rfl 2 rfl ?_
      obtain ⟨r4, e5, h⟩ := bd_of h
      refine v_callV 2 F (q := 61) (as := [.int a1, .int a2]) (st := [.int a5]) (st1 := (.int r4.1 :: [.int a5])) (res := (some (.int r4.1))) (c_X11_behind (l := C.2.1) x (pi y 61 2 a6) a1 a2 e5) (xn (by decide)) xc_61 rfl (tc38 _ (List.mem_of_getElem? (i := 2) rfl)) (tc38 _ (List.mem_of_getElem? (i := 3) rfl)) (tc38 _ (List.mem_of_getElem? (i := 4) rfl)) (tc1 _ (List.mem_of_getElem? (i := 5) rfl)) (tc38 _ (List.mem_of_getElem? (i := 5) rfl)) (by decide) rfl ⟨rfl, rfl, Nat.le_of_ble_eq_true rfl, Nat.le_of_ble_eq_true rfl⟩ ⟨Nat.le_of_ble_eq_true rfl, Nat.le_of_ble_eq_true rfl⟩ rfl (Nat.le_of_ble_eq_true rfl) rfl rfl rfl (dq dkX11_left_0 32 rfl) ?_
      refine v_aload_n F (dq dkX11_left_0 33 rfl) rfl 0 rfl ?_
      refine v_get F 61 (xn (by decide)) xc_61 rfl inlX11 0 (by decide) (tc11 _ (List.mem_of_getElem? (i := 17) rfl)) rfl rfl (dq dkX11_left_0 34 rfl) ?_
      refine v_bipush F (v := 45) (dq dkX11_left_0 35 rfl) kb_45 ?_
      refine v_iload_n F (dq dkX11_left_0 36 rfl) rfl 1 rfl ?_
      refine v_iadd F (dq dkX11_left_0 37 rfl) ?_
      obtain ⟨g6, h⟩ := gd_of h
      refine v_iald F 62 (xn (by decide)) xc_62 (ib_in g6) (dq dkX11_left_0 38 rfl) ?_
      refine v_icmp_lt F (tgt := 79) (dq dkX11_left_0 39 rfl) (by decide) (fun c7 => ?_) (fun c7 => ?_)
      · rw [if_pos c7] at h
        refine v_iconst F (v := 0) (dq dkX11_left_1 2 rfl) ki_0 ?_
        refine v_sub [0, 1, 2, 3, 4, 6] rfl ?_
        exact t_X11_left_80 (f_X11_left_42 n) r4.2 a1 a2 a3 a4 a6 0 a5 ih h F E
      · rw [if_neg c7] at h
        refine v_iconst F (v := 1) (dq dkX11_left_1 0 rfl) ki_1 ?_
        refine v_goto F (tgt := 80) (dq dkX11_left_1 1 rfl) (by decide) ?_
        refine v_sub [0, 1, 2, 3, 4, 6] rfl ?_
        exact t_X11_left_80 (f_X11_left_42 n) r4.2 a1 a2 a3 a4 a6 1 a5 ih h F E
def f_X11_left (y : MS) (a1 : Int32) (a2 : Int32) (a3 : Int32) : Option (Int64 × MS) := if (b2i (f_X11_isSection a1)) = 0 then (f_X11_left_26 y) else (if (b2i (f_X11_in a2 0 24)) = 0 then (f_X11_left_26 y) else (if (b2i (f_X11_in a3 0 1)) = 0 then (f_X11_left_26 y) else (f_X11_left_42 1000 y a1 a2 a3 (gi y 61 2) 0 0)))
set_option maxRecDepth 100000 in
set_option maxHeartbeats 4000000 in
theorem c_X11_left {K : KE} {l : Launch} {R : Int64 × MS} (x : CS) (y : MS) (a1 : Int32) (a2 : Int32) (a3 : Int32) (h : f_X11_left y a1 a2 a3 = some R) : MC K l yX11_left cX11_left 7 (some .long) rm_X11_left 0 0 [.ref (K.1 + 61), .int a1, .int a2, .int a3] (xf K x y) (xf K x R.2) (some (.long R.1)) := by
  refine mc_of (ls0 := [(0, .ref (K.1 + 61)), (1, .int a1), (2, .int a2), (3, .int a3)]) (by decide) (Nat.le_of_ble_eq_true rfl) rfl (fun C hl F E => ?_)
  have F : Fx C RX11 cX11_left 7 rm_X11_left K := F
  unfold f_X11_left at h
  refine v_iload_n F (dq dkX11_left_0 0 rfl) rfl 1 rfl ?_
  refine v_callS 1 F (as := [.int a1]) (st := []) (st1 := (.int (b2i (f_X11_isSection a1)) :: [])) (res := (some (.int (b2i (f_X11_isSection a1))))) (c_X11_isSection (l := C.2.1) a1) (tc14 _ (List.mem_of_getElem? (i := 22) rfl)) (tc14 _ (List.mem_of_getElem? (i := 23) rfl)) (tc1 _ (List.mem_of_getElem? (i := 5) rfl)) (tc15 _ (List.mem_of_getElem? (i := 0) rfl)) (by decide) rfl ⟨rfl, rfl, Nat.le_of_ble_eq_true rfl, Nat.le_of_ble_eq_true rfl⟩ ⟨Nat.le_of_ble_eq_true rfl, Nat.le_of_ble_eq_true rfl⟩ rfl (Nat.le_of_ble_eq_true rfl) rfl rfl rfl (dq dkX11_left_0 1 rfl) ?_
  refine v_if_eq F (tgt := 26) (dq dkX11_left_0 2 rfl) (by decide) (fun c9 => ?_) (fun c9 => ?_)
  · rw [if_pos c9] at h
    refine v_sub [] rfl ?_
    exact t_X11_left_26 y h F E
  · rw [if_neg c9] at h
    refine v_iload_n F (dq dkX11_left_0 3 rfl) rfl 2 rfl ?_
    refine v_iconst F (v := 0) (dq dkX11_left_0 4 rfl) ki_0 ?_
    refine v_bipush F (v := 24) (dq dkX11_left_0 5 rfl) kb_24 ?_
    refine v_callS 3 F (as := [.int a2, .int 0, .int 24]) (st := []) (st1 := (.int (b2i (f_X11_in a2 0 24)) :: [])) (res := (some (.int (b2i (f_X11_in a2 0 24))))) (c_X11_in (l := C.2.1) a2 0 24) (tc15 _ (List.mem_of_getElem? (i := 1) rfl)) (tc15 _ (List.mem_of_getElem? (i := 2) rfl)) (tc1 _ (List.mem_of_getElem? (i := 5) rfl)) (tc15 _ (List.mem_of_getElem? (i := 3) rfl)) (by decide) rfl ⟨rfl, rfl, Nat.le_of_ble_eq_true rfl, Nat.le_of_ble_eq_true rfl⟩ ⟨Nat.le_of_ble_eq_true rfl, Nat.le_of_ble_eq_true rfl⟩ rfl (Nat.le_of_ble_eq_true rfl) rfl rfl rfl (dq dkX11_left_0 6 rfl) ?_
    refine v_if_eq F (tgt := 26) (dq dkX11_left_0 7 rfl) (by decide) (fun c11 => ?_) (fun c11 => ?_)
    · rw [if_pos c11] at h
      refine v_sub [] rfl ?_
      exact t_X11_left_26 y h F E
    · rw [if_neg c11] at h
      refine v_iload_n F (dq dkX11_left_0 8 rfl) rfl 3 rfl ?_
      refine v_iconst F (v := 0) (dq dkX11_left_0 9 rfl) ki_0 ?_
      refine v_iconst F (v := 1) (dq dkX11_left_0 10 rfl) ki_1 ?_
      refine v_callS 3 F (as := [.int a3, .int 0, .int 1]) (st := []) (st1 := (.int (b2i (f_X11_in a3 0 1)) :: [])) (res := (some (.int (b2i (f_X11_in a3 0 1))))) (c_X11_in (l := C.2.1) a3 0 1) (tc15 _ (List.mem_of_getElem? (i := 1) rfl)) (tc15 _ (List.mem_of_getElem? (i := 2) rfl)) (tc1 _ (List.mem_of_getElem? (i := 5) rfl)) (tc15 _ (List.mem_of_getElem? (i := 3) rfl)) (by decide) rfl ⟨rfl, rfl, Nat.le_of_ble_eq_true rfl, Nat.le_of_ble_eq_true rfl⟩ ⟨Nat.le_of_ble_eq_true rfl, Nat.le_of_ble_eq_true rfl⟩ rfl (Nat.le_of_ble_eq_true rfl) rfl rfl rfl (dq dkX11_left_0 11 rfl) ?_
      refine v_if_ne F (tgt := 30) (dq dkX11_left_0 12 rfl) (by decide) (fun c13 => ?_) (fun c13 => ?_)
      · rw [if_neg c13] at h
        refine v_aload_n F (dq dkX11_left_0 15 rfl) rfl 0 rfl ?_
        refine v_get F 61 (xn (by decide)) xc_61 rfl inlX11 2 (by decide) (tc16 _ (List.mem_of_getElem? (i := 14) rfl)) rfl rfl (dq dkX11_left_0 16 rfl) ?_
        refine v_istore F (ls' := [(4, .int (gi y 61 2)), (0, .ref (K.1 + 61)), (1, .int a1), (2, .int a2), (3, .int a3)]) (dq dkX11_left_0 17 rfl) (by decide) rfl ?_
        refine v_iconst F (v := 0) (dq dkX11_left_0 18 rfl) ki_0 ?_
        refine v_istore F (ls' := [(5, .int 0), (4, .int (gi y 61 2)), (0, .ref (K.1 + 61)), (1, .int a1), (2, .int a2), (3, .int a3)]) (dq dkX11_left_0 19 rfl) (by decide) rfl ?_
        refine v_iconst F (v := 0) (dq dkX11_left_0 20 rfl) ki_0 ?_
        refine v_istore F (ls' := [(6, .int 0), (5, .int 0), (4, .int (gi y 61 2)), (0, .ref (K.1 + 61)), (1, .int a1), (2, .int a2), (3, .int a3)]) (dq dkX11_left_0 21 rfl) (by decide) rfl ?_
        refine v_sub [3, 4, 5, 6, 2, 1, 0] rfl ?_
        exact t_X11_left_42 F E 1000 y a1 a2 a3 (gi y 61 2) 0 0 h
      · rw [if_pos c13] at h
        refine v_sub [] rfl ?_
        exact t_X11_left_26 y h F E
def rm_X11_judge : Room := { frames := 8, cells := 0, slots := 0, locals := 192 }
def f_X11_judge_57 : Nat → MS → Int32 → Int32 → Option (Int32 × MS)
  | 0, _, _, _ => none
  | n + 1, y, a2, a3 => if 9 ≤ a3 then (some ((-1), y)) else (gd (ib a3 9) (gd (ib ((40 * a2) + a3) 160) (if (gi y 79 ((40 * a2) + a3).toNatClampNeg) ≤ (gi y 85 a3.toNatClampNeg) then ((f_X11_judge_57 n) y a2 (a3 + 1)) else (some (a3, y)))))
set_option maxRecDepth 100000 in
set_option maxHeartbeats 4000000 in
theorem t_X11_judge_57 {C : Cx} {K : KE} {x : CS} {R : Int32 × MS}  (F : Fx C RX11 cX11_judge 4 rm_X11_judge K) (E : CE C (xf K x R.2) (some (.int R.1)) 0 0 (some .int)) : ∀ (n : Nat) (y : MS) (a2 : Int32) (a3 : Int32) (h : f_X11_judge_57 n y a2 a3 = some R), V C 57 [(0, .ref (K.1 + 61)), (2, .int a2), (3, .int a3)] [] (xf K x y) 0 0 := by
  intro n
  induction n with
  | zero => intro y a2 a3 h; cases h
  | succ n ih =>
    intro y a2 a3 h
    rw [f_X11_judge_57] at h
    refine v_iload_n F (dq dkX11_judge_0 34 rfl) rfl 2 rfl ?_
    refine v_bipush F (v := 9) (dq dkX11_judge_0 35 rfl) kb_9 ?_
    refine v_icmp_ge F (tgt := 91) (dq dkX11_judge_0 36 rfl) (by decide) (fun c1 => ?_) (fun c1 => ?_)
    · rw [if_pos c1] at h
      refine v_iconst F (v := (-1)) (dq dkX11_judge_1 14 rfl) ki_m1 ?_
      cases h
      exact v_iret F E (dq dkX11_judge_1 15 rfl)
    · rw [if_neg c1] at h
      refine v_aload_n F (dq dkX11_judge_0 37 rfl) rfl 0 rfl ?_
      refine v_get F 61 (xn (by decide)) xc_61 rfl inlX11 43 (by decide) (tc13 _ (List.mem_of_getElem? (i := 9) rfl)) rfl rfl (dq dkX11_judge_0 38 rfl) ?_
      refine v_iload_n F (dq dkX11_judge_0 39 rfl) rfl 2 rfl ?_
      obtain ⟨g2, h⟩ := gd_of h
      refine v_iald F 85 (xn (by decide)) xc_85 (ib_in g2) (dq dkX11_judge_1 0 rfl) ?_
      refine v_aload_n F (dq dkX11_judge_1 1 rfl) rfl 0 rfl ?_
      refine v_get F 61 (xn (by decide)) xc_61 rfl inlX11 30 (by decide) (tc12 _ (List.mem_of_getElem? (i := 14) rfl)) rfl rfl (dq dkX11_judge_1 2 rfl) ?_
      refine v_bipush F (v := 40) (dq dkX11_judge_1 3 rfl) kb_40 ?_
      refine v_iload_n F (dq dkX11_judge_1 4 rfl) rfl 1 rfl ?_
      refine v_imul F (dq dkX11_judge_1 5 rfl) ?_
      refine v_iload_n F (dq dkX11_judge_1 6 rfl) rfl 2 rfl ?_
      refine v_iadd F (dq dkX11_judge_1 7 rfl) ?_
      obtain ⟨g3, h⟩ := gd_of h
      refine v_iald F 79 (xn (by decide)) xc_79 (ib_in g3) (dq dkX11_judge_1 8 rfl) ?_
      refine v_icmp_ge F (tgt := 85) (dq dkX11_judge_1 9 rfl) (by decide) (fun c4 => ?_) (fun c4 => ?_)
      · rw [if_pos c4] at h
        refine v_iinc F (v := a3 + 1) (ls' := [(3, .int (a3 + 1)), (0, .ref (K.1 + 61)), (2, .int a2)]) (dq dkX11_judge_1 12 rfl) (j := 2) rfl (kv_add ki_1) (by decide) rfl ?_
        refine v_goto F (tgt := 57) (dq dkX11_judge_1 13 rfl) (by decide) ?_
        refine v_sub [1, 2, 0] rfl ?_
        exact ih y a2 (a3 + 1) h
      · rw [if_neg c4] at h
        refine v_iload_n F (dq dkX11_judge_1 10 rfl) rfl 2 rfl ?_
        cases h
        exact v_iret F E (dq dkX11_judge_1 11 rfl)
def f_X11_judge (y : MS) (a1 : Int32) (a2 : Int32) : Option (Int32 × MS) := if (b2i (f_X11_areWorks y a1)) = 0 then (some ((-5), y)) else (if (b2i (f_X11_in a2 0 3)) = 0 then (some ((-2), y)) else (gd (ib a2 4) (if (gi y 77 a2.toNatClampNeg) = (-1) then (some ((-11), y)) else (gd (ib a2 4) (if (gi y 78 a2.toNatClampNeg) = 9 then ((f_X11_comes y a1).bind fun r13 => f_X11_judge_57 1000 r13 a2 0) else (some ((-2), y)))))))
set_option maxRecDepth 100000 in
set_option maxHeartbeats 4000000 in
theorem c_X11_judge {K : KE} {l : Launch} {R : Int32 × MS} (x : CS) (y : MS) (a1 : Int32) (a2 : Int32) (h : f_X11_judge y a1 a2 = some R) : MC K l yX11_judge cX11_judge 4 (some .int) rm_X11_judge 0 0 [.ref (K.1 + 61), .int a1, .int a2] (xf K x y) (xf K x R.2) (some (.int R.1)) := by
  refine mc_of (ls0 := [(0, .ref (K.1 + 61)), (1, .int a1), (2, .int a2)]) (by decide) (Nat.le_of_ble_eq_true rfl) rfl (fun C hl F E => ?_)
  have F : Fx C RX11 cX11_judge 4 rm_X11_judge K := F
  unfold f_X11_judge at h
  refine v_aload_n F (dq dkX11_judge_0 0 rfl) rfl 0 rfl ?_
  refine v_iload_n F (dq dkX11_judge_0 1 rfl) rfl 1 rfl ?_
  refine v_callV 1 F (q := 61) (as := [.int a1]) (st := []) (st1 := (.int (b2i (f_X11_areWorks y a1)) :: [])) (res := (some (.int (b2i (f_X11_areWorks y a1))))) (c_X11_areWorks (l := C.2.1) x y a1) (xn (by decide)) xc_61 rfl (tc27 _ (List.mem_of_getElem? (i := 10) rfl)) (tc27 _ (List.mem_of_getElem? (i := 11) rfl)) (tc27 _ (List.mem_of_getElem? (i := 12) rfl)) (tc1 _ (List.mem_of_getElem? (i := 5) rfl)) (tc27 _ (List.mem_of_getElem? (i := 13) rfl)) (by decide) rfl ⟨rfl, rfl, Nat.le_of_ble_eq_true rfl, Nat.le_of_ble_eq_true rfl⟩ ⟨Nat.le_of_ble_eq_true rfl, Nat.le_of_ble_eq_true rfl⟩ rfl (Nat.le_of_ble_eq_true rfl) rfl rfl rfl (dq dkX11_judge_0 2 rfl) ?_
  refine v_if_ne F (tgt := 11) (dq dkX11_judge_0 3 rfl) (by decide) (fun c6 => ?_) (fun c6 => ?_)
  · rw [if_neg c6] at h
    refine v_iload_n F (dq dkX11_judge_0 6 rfl) rfl 2 rfl ?_
    refine v_iconst F (v := 0) (dq dkX11_judge_0 7 rfl) ki_0 ?_
    refine v_iconst F (v := 3) (dq dkX11_judge_0 8 rfl) ki_3 ?_
    refine v_callS 3 F (as := [.int a2, .int 0, .int 3]) (st := []) (st1 := (.int (b2i (f_X11_in a2 0 3)) :: [])) (res := (some (.int (b2i (f_X11_in a2 0 3))))) (c_X11_in (l := C.2.1) a2 0 3) (tc15 _ (List.mem_of_getElem? (i := 1) rfl)) (tc15 _ (List.mem_of_getElem? (i := 2) rfl)) (tc1 _ (List.mem_of_getElem? (i := 5) rfl)) (tc15 _ (List.mem_of_getElem? (i := 3) rfl)) (by decide) rfl ⟨rfl, rfl, Nat.le_of_ble_eq_true rfl, Nat.le_of_ble_eq_true rfl⟩ ⟨Nat.le_of_ble_eq_true rfl, Nat.le_of_ble_eq_true rfl⟩ rfl (Nat.le_of_ble_eq_true rfl) rfl rfl rfl (dq dkX11_judge_0 9 rfl) ?_
    refine v_if_ne F (tgt := 23) (dq dkX11_judge_0 10 rfl) (by decide) (fun c8 => ?_) (fun c8 => ?_)
    · rw [if_neg c8] at h
      refine v_aload_n F (dq dkX11_judge_0 13 rfl) rfl 0 rfl ?_
      refine v_get F 61 (xn (by decide)) xc_61 rfl inlX11 28 (by decide) (tc12 _ (List.mem_of_getElem? (i := 12) rfl)) rfl rfl (dq dkX11_judge_0 14 rfl) ?_
      refine v_iload_n F (dq dkX11_judge_0 15 rfl) rfl 2 rfl ?_
      obtain ⟨g9, h⟩ := gd_of h
      refine v_iald F 77 (xn (by decide)) xc_77 (ib_in g9) (dq dkX11_judge_0 16 rfl) ?_
      refine v_iconst F (v := (-1)) (dq dkX11_judge_0 17 rfl) ki_m1 ?_
      refine v_icmp_ne F (tgt := 36) (dq dkX11_judge_0 18 rfl) (by decide) (fun c10 => ?_) (fun c10 => ?_)
      · rw [if_neg c10] at h
        refine v_aload_n F (dq dkX11_judge_0 21 rfl) rfl 0 rfl ?_
        refine v_get F 61 (xn (by decide)) xc_61 rfl inlX11 29 (by decide) (tc12 _ (List.mem_of_getElem? (i := 13) rfl)) rfl rfl (dq dkX11_judge_0 22 rfl) ?_
        refine v_iload_n F (dq dkX11_judge_0 23 rfl) rfl 2 rfl ?_
        obtain ⟨g11, h⟩ := gd_of h
        refine v_iald F 78 (xn (by decide)) xc_78 (ib_in g11) (dq dkX11_judge_0 24 rfl) ?_
        refine v_bipush F (v := 9) (dq dkX11_judge_0 25 rfl) kb_9 ?_
        refine v_icmp_eq F (tgt := 50) (dq dkX11_judge_0 26 rfl) (by decide) (fun c12 => ?_) (fun c12 => ?_)
        · rw [if_pos c12] at h
          refine v_aload_n F (dq dkX11_judge_0 29 rfl) rfl 0 rfl ?_
          refine v_iload_n F (dq dkX11_judge_0 30 rfl) rfl 1 rfl ?_
          obtain ⟨r13, e14, h⟩ := bd_of h
          refine v_callV 1 F (q := 61) (as := [.int a1]) (st := []) (st1 := []) (res := none) (c_X11_comes (l := C.2.1) x y a1 e14) (xn (by decide)) xc_61 rfl (tc27 _ (List.mem_of_getElem? (i := 14) rfl)) (tc27 _ (List.mem_of_getElem? (i := 15) rfl)) (tc27 _ (List.mem_of_getElem? (i := 16) rfl)) (tc1 _ (List.mem_of_getElem? (i := 5) rfl)) (tc27 _ (List.mem_of_getElem? (i := 17) rfl)) (by decide) rfl ⟨rfl, rfl, Nat.le_of_ble_eq_true rfl, Nat.le_of_ble_eq_true rfl⟩ ⟨Nat.le_of_ble_eq_true rfl, Nat.le_of_ble_eq_true rfl⟩ rfl (Nat.le_of_ble_eq_true rfl) rfl rfl rfl (dq dkX11_judge_0 31 rfl) ?_
          refine v_iconst F (v := 0) (dq dkX11_judge_0 32 rfl) ki_0 ?_
          refine v_istore_n F (ls' := [(3, .int 0), (0, .ref (K.1 + 61)), (1, .int a1), (2, .int a2)]) (dq dkX11_judge_0 33 rfl) rfl (by decide) rfl ?_
          refine v_sub [1, 3, 0] rfl ?_
          exact t_X11_judge_57 F E 1000 r13 a2 0 h
        · rw [if_neg c12] at h
          refine v_bipush F (v := (-2)) (dq dkX11_judge_0 27 rfl) kb_m2 ?_
          cases h
          exact v_iret F E (dq dkX11_judge_0 28 rfl)
      · rw [if_pos c10] at h
        refine v_bipush F (v := (-11)) (dq dkX11_judge_0 19 rfl) kb_m11 ?_
        cases h
        exact v_iret F E (dq dkX11_judge_0 20 rfl)
    · rw [if_pos c8] at h
      refine v_bipush F (v := (-2)) (dq dkX11_judge_0 11 rfl) kb_m2 ?_
      cases h
      exact v_iret F E (dq dkX11_judge_0 12 rfl)
  · rw [if_pos c6] at h
    refine v_bipush F (v := (-5)) (dq dkX11_judge_0 4 rfl) kb_m5 ?_
    cases h
    exact v_iret F E (dq dkX11_judge_0 5 rfl)
def rm_X11_weight : Room := { frames := 1, cells := 0, slots := 0, locals := 30 }
def f_X11_weight_4 (y : MS) : Nat → Int32 → Int32 → Option (Int32)
  | 0, _, _ => none
  | n + 1, a1, a2 => if 9 ≤ a2 then (some a1) else (gd (ib a2 9) (gd (ib a2 9) (gd (ib a2 9) ((f_X11_weight_4 y n) (a1 + (((gi y 85 a2.toNatClampNeg) * ((gi y 84 a2.toNatClampNeg) + (2 * (gi y 86 a2.toNatClampNeg)))) / 4)) (a2 + 1)))))
set_option maxRecDepth 100000 in
set_option maxHeartbeats 4000000 in
theorem t_X11_weight_4 {C : Cx} {K : KE} {x : CS} {R : Int32}  (y : MS) (F : Fx C RX11 cX11_weight 3 rm_X11_weight K) (E : CE C (xf K x y) (some (.int R)) 0 0 (some .int)) : ∀ (n : Nat) (a1 : Int32) (a2 : Int32) (h : f_X11_weight_4 y n a1 a2 = some R), V C 4 [(0, .ref (K.1 + 61)), (1, .int a1), (2, .int a2)] [] (xf K x y) 0 0 := by
  intro n
  induction n with
  | zero => intro a1 a2 h; cases h
  | succ n ih =>
    intro a1 a2 h
    rw [f_X11_weight_4] at h
    refine v_iload_n F (dq dkX11_weight_0 4 rfl) rfl 2 rfl ?_
    refine v_bipush F (v := 9) (dq dkX11_weight_0 5 rfl) kb_9 ?_
    refine v_icmp_ge F (tgt := 43) (dq dkX11_weight_0 6 rfl) (by decide) (fun c1 => ?_) (fun c1 => ?_)
    · rw [if_pos c1] at h
      refine v_iload_n F (dq dkX11_weight_0 30 rfl) rfl 1 rfl ?_
      cases h
      exact v_iret F E (dq dkX11_weight_0 31 rfl)
    · rw [if_neg c1] at h
      refine v_iload_n F (dq dkX11_weight_0 7 rfl) rfl 1 rfl ?_
      refine v_aload_n F (dq dkX11_weight_0 8 rfl) rfl 0 rfl ?_
      refine v_get F 61 (xn (by decide)) xc_61 rfl inlX11 43 (by decide) (tc13 _ (List.mem_of_getElem? (i := 9) rfl)) rfl rfl (dq dkX11_weight_0 9 rfl) ?_
      refine v_iload_n F (dq dkX11_weight_0 10 rfl) rfl 2 rfl ?_
      obtain ⟨g2, h⟩ := gd_of h
      refine v_iald F 85 (xn (by decide)) xc_85 (ib_in g2) (dq dkX11_weight_0 11 rfl) ?_
      refine v_aload_n F (dq dkX11_weight_0 12 rfl) rfl 0 rfl ?_
      refine v_get F 61 (xn (by decide)) xc_61 rfl inlX11 42 (by decide) (tc13 _ (List.mem_of_getElem? (i := 8) rfl)) rfl rfl (dq dkX11_weight_0 13 rfl) ?_
      refine v_iload_n F (dq dkX11_weight_0 14 rfl) rfl 2 rfl ?_
      obtain ⟨g3, h⟩ := gd_of h
      refine v_iald F 84 (xn (by decide)) xc_84 (ib_in g3) (dq dkX11_weight_0 15 rfl) ?_
      refine v_iconst F (v := 2) (dq dkX11_weight_0 16 rfl) ki_2 ?_
      refine v_aload_n F (dq dkX11_weight_0 17 rfl) rfl 0 rfl ?_
      refine v_get F 61 (xn (by decide)) xc_61 rfl inlX11 44 (by decide) (tc13 _ (List.mem_of_getElem? (i := 10) rfl)) rfl rfl (dq dkX11_weight_0 18 rfl) ?_
      refine v_iload_n F (dq dkX11_weight_0 19 rfl) rfl 2 rfl ?_
      obtain ⟨g4, h⟩ := gd_of h
      refine v_iald F 86 (xn (by decide)) xc_86 (ib_in g4) (dq dkX11_weight_0 20 rfl) ?_
      refine v_imul F (dq dkX11_weight_0 21 rfl) ?_
      refine v_iadd F (dq dkX11_weight_0 22 rfl) ?_
      refine v_imul F (dq dkX11_weight_0 23 rfl) ?_
      refine v_iconst F (v := 4) (dq dkX11_weight_0 24 rfl) ki_4 ?_
      refine v_idiv F (dq dkX11_weight_0 25 rfl) (by decide) ?_
      refine v_iadd F (dq dkX11_weight_0 26 rfl) ?_
      refine v_istore_n F (ls' := [(1, .int (a1 + (((gi y 85 a2.toNatClampNeg) * ((gi y 84 a2.toNatClampNeg) + (2 * (gi y 86 a2.toNatClampNeg)))) / 4))), (0, .ref (K.1 + 61)), (2, .int a2)]) (dq dkX11_weight_0 27 rfl) rfl (by decide) rfl ?_
      refine v_iinc F (v := a2 + 1) (ls' := [(2, .int (a2 + 1)), (1, .int (a1 + (((gi y 85 a2.toNatClampNeg) * ((gi y 84 a2.toNatClampNeg) + (2 * (gi y 86 a2.toNatClampNeg)))) / 4))), (0, .ref (K.1 + 61))]) (dq dkX11_weight_0 28 rfl) (j := 2) rfl (kv_add ki_1) (by decide) rfl ?_
      refine v_goto F (tgt := 4) (dq dkX11_weight_0 29 rfl) (by decide) ?_
      refine v_sub [2, 1, 0] rfl ?_
      exact ih (a1 + (((gi y 85 a2.toNatClampNeg) * ((gi y 84 a2.toNatClampNeg) + (2 * (gi y 86 a2.toNatClampNeg)))) / 4)) (a2 + 1) h
def f_X11_weight (y : MS) : Option (Int32) := f_X11_weight_4 y 1000 0 0
set_option maxRecDepth 100000 in
set_option maxHeartbeats 4000000 in
theorem c_X11_weight {K : KE} {l : Launch} {R : Int32} (x : CS) (y : MS) (h : f_X11_weight y = some R) : MC K l yX11_weight cX11_weight 3 (some .int) rm_X11_weight 0 0 [.ref (K.1 + 61)] (xf K x y) (xf K x y) (some (.int R)) := by
  refine mc_of (ls0 := [(0, .ref (K.1 + 61))]) (by decide) (Nat.le_of_ble_eq_true rfl) rfl (fun C hl F E => ?_)
  have F : Fx C RX11 cX11_weight 3 rm_X11_weight K := F
  unfold f_X11_weight at h
  refine v_iconst F (v := 0) (dq dkX11_weight_0 0 rfl) ki_0 ?_
  refine v_istore_n F (ls' := [(1, .int 0), (0, .ref (K.1 + 61))]) (dq dkX11_weight_0 1 rfl) rfl (by decide) rfl ?_
  refine v_iconst F (v := 0) (dq dkX11_weight_0 2 rfl) ki_0 ?_
  refine v_istore_n F (ls' := [(2, .int 0), (1, .int 0), (0, .ref (K.1 + 61))]) (dq dkX11_weight_0 3 rfl) rfl (by decide) rfl ?_
  refine v_sub [2, 1, 0] rfl ?_
  exact t_X11_weight_4 y F E 1000 0 0 h
def rm_X11_allWide : Room := { frames := 1, cells := 0, slots := 0, locals := 30 }
def f_X11_allWide_37 (k4 : Int32 → Int32 → Int32 → Option (Int32)) (y : MS) (a1 : Int32) (a3 : Int32) (s0 : Int32) (s1 : Int32) : Option (Int32) := k4 a1 (s1 + s0) (a3 + 1)
set_option maxRecDepth 100000 in
set_option maxHeartbeats 4000000 in
theorem t_X11_allWide_37 {C : Cx} {K : KE} {x : CS} {R : Int32}  (k4 : Int32 → Int32 → Int32 → Option (Int32)) (y : MS) (a1 : Int32) (a3 : Int32) (s0 : Int32) (s1 : Int32) (hk4 : ∀ (a1 : Int32) (a2 : Int32) (a3 : Int32), k4 a1 a2 a3 = some R → V C 4 [(0, .ref (K.1 + 61)), (1, .int a1), (2, .int a2), (3, .int a3)] [] (xf K x y) 0 0) (h : f_X11_allWide_37 k4 y a1 a3 s0 s1 = some R) (F : Fx C RX11 cX11_allWide 4 rm_X11_allWide K) (E : CE C (xf K x y) (some (.int R)) 0 0 (some .int)) : V C 37 [(0, .ref (K.1 + 61)), (1, .int a1), (3, .int a3)] [.int s0, .int s1] (xf K x y) 0 0 := by
  unfold f_X11_allWide_37 at h
  refine v_iadd F (dq dkX11_allWide_0 24 rfl) ?_
  refine v_istore_n F (ls' := [(2, .int (s1 + s0)), (0, .ref (K.1 + 61)), (1, .int a1), (3, .int a3)]) (dq dkX11_allWide_0 25 rfl) rfl (by decide) rfl ?_
  refine v_iinc F (v := a3 + 1) (ls' := [(3, .int (a3 + 1)), (2, .int (s1 + s0)), (0, .ref (K.1 + 61)), (1, .int a1)]) (dq dkX11_allWide_0 26 rfl) (j := 3) rfl (kv_add ki_1) (by decide) rfl ?_
  refine v_goto F (tgt := 4) (dq dkX11_allWide_0 27 rfl) (by decide) ?_
  refine v_sub [2, 3, 1, 0] rfl ?_
  exact hk4 a1 (s1 + s0) (a3 + 1) h
def f_X11_allWide_4 (y : MS) : Nat → Int32 → Int32 → Int32 → Option (Int32)
  | 0, _, _, _ => none
  | n + 1, a1, a2, a3 => if 9 ≤ a3 then (some a2) else (if a1 = 0 then (gd (ib a3 9) (f_X11_allWide_37 (f_X11_allWide_4 y n) y a1 a3 (gi y 84 a3.toNatClampNeg) a2)) else (gd (ib a3 9) (gd (ib a3 9) (f_X11_allWide_37 (f_X11_allWide_4 y n) y a1 a3 ((gi y 84 a3.toNatClampNeg) * (gi y 84 a3.toNatClampNeg)) a2))))
set_option maxRecDepth 100000 in
set_option maxHeartbeats 4000000 in
theorem t_X11_allWide_4 {C : Cx} {K : KE} {x : CS} {R : Int32}  (y : MS) (F : Fx C RX11 cX11_allWide 4 rm_X11_allWide K) (E : CE C (xf K x y) (some (.int R)) 0 0 (some .int)) : ∀ (n : Nat) (a1 : Int32) (a2 : Int32) (a3 : Int32) (h : f_X11_allWide_4 y n a1 a2 a3 = some R), V C 4 [(0, .ref (K.1 + 61)), (1, .int a1), (2, .int a2), (3, .int a3)] [] (xf K x y) 0 0 := by
  intro n
  induction n with
  | zero => intro a1 a2 a3 h; cases h
  | succ n ih =>
    intro a1 a2 a3 h
    rw [f_X11_allWide_4] at h
    refine v_iload_n F (dq dkX11_allWide_0 4 rfl) rfl 3 rfl ?_
    refine v_bipush F (v := 9) (dq dkX11_allWide_0 5 rfl) kb_9 ?_
    refine v_icmp_ge F (tgt := 45) (dq dkX11_allWide_0 6 rfl) (by decide) (fun c1 => ?_) (fun c1 => ?_)
    · rw [if_pos c1] at h
      refine v_iload_n F (dq dkX11_allWide_0 28 rfl) rfl 2 rfl ?_
      cases h
      exact v_iret F E (dq dkX11_allWide_0 29 rfl)
    · rw [if_neg c1] at h
      refine v_iload_n F (dq dkX11_allWide_0 7 rfl) rfl 2 rfl ?_
      refine v_iload_n F (dq dkX11_allWide_0 8 rfl) rfl 1 rfl ?_
      refine v_if_eq F (tgt := 31) (dq dkX11_allWide_0 9 rfl) (by decide) (fun c2 => ?_) (fun c2 => ?_)
      · rw [if_pos c2] at h
        refine v_aload_n F (dq dkX11_allWide_0 20 rfl) rfl 0 rfl ?_
        refine v_get F 61 (xn (by decide)) xc_61 rfl inlX11 42 (by decide) (tc13 _ (List.mem_of_getElem? (i := 8) rfl)) rfl rfl (dq dkX11_allWide_0 21 rfl) ?_
        refine v_iload_n F (dq dkX11_allWide_0 22 rfl) rfl 3 rfl ?_
        obtain ⟨g3, h⟩ := gd_of h
        refine v_iald F 84 (xn (by decide)) xc_84 (ib_in g3) (dq dkX11_allWide_0 23 rfl) ?_
        refine v_sub [0, 1, 3] rfl ?_
        exact t_X11_allWide_37 (f_X11_allWide_4 y n) y a1 a3 (gi y 84 a3.toNatClampNeg) a2 ih h F E
      · rw [if_neg c2] at h
        refine v_aload_n F (dq dkX11_allWide_0 10 rfl) rfl 0 rfl ?_
        refine v_get F 61 (xn (by decide)) xc_61 rfl inlX11 42 (by decide) (tc13 _ (List.mem_of_getElem? (i := 8) rfl)) rfl rfl (dq dkX11_allWide_0 11 rfl) ?_
        refine v_iload_n F (dq dkX11_allWide_0 12 rfl) rfl 3 rfl ?_
        obtain ⟨g4, h⟩ := gd_of h
        refine v_iald F 84 (xn (by decide)) xc_84 (ib_in g4) (dq dkX11_allWide_0 13 rfl) ?_
        refine v_aload_n F (dq dkX11_allWide_0 14 rfl) rfl 0 rfl ?_
        refine v_get F 61 (xn (by decide)) xc_61 rfl inlX11 42 (by decide) (tc13 _ (List.mem_of_getElem? (i := 8) rfl)) rfl rfl (dq dkX11_allWide_0 15 rfl) ?_
        refine v_iload_n F (dq dkX11_allWide_0 16 rfl) rfl 3 rfl ?_
        obtain ⟨g5, h⟩ := gd_of h
        refine v_iald F 84 (xn (by decide)) xc_84 (ib_in g5) (dq dkX11_allWide_0 17 rfl) ?_
        refine v_imul F (dq dkX11_allWide_0 18 rfl) ?_
        refine v_goto F (tgt := 37) (dq dkX11_allWide_0 19 rfl) (by decide) ?_
        refine v_sub [0, 1, 3] rfl ?_
        exact t_X11_allWide_37 (f_X11_allWide_4 y n) y a1 a3 ((gi y 84 a3.toNatClampNeg) * (gi y 84 a3.toNatClampNeg)) a2 ih h F E
def f_X11_allWide (y : MS) (a1 : Int32) : Option (Int32) := f_X11_allWide_4 y 1000 a1 0 0
set_option maxRecDepth 100000 in
set_option maxHeartbeats 4000000 in
theorem c_X11_allWide {K : KE} {l : Launch} {R : Int32} (x : CS) (y : MS) (a1 : Int32) (h : f_X11_allWide y a1 = some R) : MC K l yX11_allWide cX11_allWide 4 (some .int) rm_X11_allWide 0 0 [.ref (K.1 + 61), .int a1] (xf K x y) (xf K x y) (some (.int R)) := by
  refine mc_of (ls0 := [(0, .ref (K.1 + 61)), (1, .int a1)]) (by decide) (Nat.le_of_ble_eq_true rfl) rfl (fun C hl F E => ?_)
  have F : Fx C RX11 cX11_allWide 4 rm_X11_allWide K := F
  unfold f_X11_allWide at h
  refine v_iconst F (v := 0) (dq dkX11_allWide_0 0 rfl) ki_0 ?_
  refine v_istore_n F (ls' := [(2, .int 0), (0, .ref (K.1 + 61)), (1, .int a1)]) (dq dkX11_allWide_0 1 rfl) rfl (by decide) rfl ?_
  refine v_iconst F (v := 0) (dq dkX11_allWide_0 2 rfl) ki_0 ?_
  refine v_istore_n F (ls' := [(3, .int 0), (2, .int 0), (0, .ref (K.1 + 61)), (1, .int a1)]) (dq dkX11_allWide_0 3 rfl) rfl (by decide) rfl ?_
  refine v_sub [2, 3, 1, 0] rfl ?_
  exact t_X11_allWide_4 y F E 1000 a1 0 0 h
def rm_X11_leastHigh : Room := { frames := 1, cells := 0, slots := 0, locals := 30 }
def f_X11_leastHigh_35 (k9 : Int32 → Int32 → Option (Int32)) (y : MS) (a2 : Int32) (s0 : Int32) : Option (Int32) := k9 s0 (a2 + 1)
set_option maxRecDepth 100000 in
set_option maxHeartbeats 4000000 in
theorem t_X11_leastHigh_35 {C : Cx} {K : KE} {x : CS} {R : Int32}  (k9 : Int32 → Int32 → Option (Int32)) (y : MS) (a2 : Int32) (s0 : Int32) (hk9 : ∀ (a1 : Int32) (a2 : Int32), k9 a1 a2 = some R → V C 9 [(0, .ref (K.1 + 61)), (1, .int a1), (2, .int a2)] [] (xf K x y) 0 0) (h : f_X11_leastHigh_35 k9 y a2 s0 = some R) (F : Fx C RX11 cX11_leastHigh 3 rm_X11_leastHigh K) (E : CE C (xf K x y) (some (.int R)) 0 0 (some .int)) : V C 35 [(0, .ref (K.1 + 61)), (2, .int a2)] [.int s0] (xf K x y) 0 0 := by
  unfold f_X11_leastHigh_35 at h
  refine v_istore_n F (ls' := [(1, .int s0), (0, .ref (K.1 + 61)), (2, .int a2)]) (dq dkX11_leastHigh_0 22 rfl) rfl (by decide) rfl ?_
  refine v_iinc F (v := a2 + 1) (ls' := [(2, .int (a2 + 1)), (1, .int s0), (0, .ref (K.1 + 61))]) (dq dkX11_leastHigh_0 23 rfl) (j := 2) rfl (kv_add ki_1) (by decide) rfl ?_
  refine v_goto F (tgt := 9) (dq dkX11_leastHigh_0 24 rfl) (by decide) ?_
  refine v_sub [2, 1, 0] rfl ?_
  exact hk9 s0 (a2 + 1) h
def f_X11_leastHigh_9 (y : MS) : Nat → Int32 → Int32 → Option (Int32)
  | 0, _, _ => none
  | n + 1, a1, a2 => if 9 ≤ a2 then (some a1) else (gd (ib a2 9) (if a1 ≤ (gi y 86 a2.toNatClampNeg) then (f_X11_leastHigh_35 (f_X11_leastHigh_9 y n) y a2 a1) else (gd (ib a2 9) (f_X11_leastHigh_35 (f_X11_leastHigh_9 y n) y a2 (gi y 86 a2.toNatClampNeg)))))
set_option maxRecDepth 100000 in
set_option maxHeartbeats 4000000 in
theorem t_X11_leastHigh_9 {C : Cx} {K : KE} {x : CS} {R : Int32}  (y : MS) (F : Fx C RX11 cX11_leastHigh 3 rm_X11_leastHigh K) (E : CE C (xf K x y) (some (.int R)) 0 0 (some .int)) : ∀ (n : Nat) (a1 : Int32) (a2 : Int32) (h : f_X11_leastHigh_9 y n a1 a2 = some R), V C 9 [(0, .ref (K.1 + 61)), (1, .int a1), (2, .int a2)] [] (xf K x y) 0 0 := by
  intro n
  induction n with
  | zero => intro a1 a2 h; cases h
  | succ n ih =>
    intro a1 a2 h
    rw [f_X11_leastHigh_9] at h
    refine v_iload_n F (dq dkX11_leastHigh_0 7 rfl) rfl 2 rfl ?_
    refine v_bipush F (v := 9) (dq dkX11_leastHigh_0 8 rfl) kb_9 ?_
    refine v_icmp_ge F (tgt := 42) (dq dkX11_leastHigh_0 9 rfl) (by decide) (fun c1 => ?_) (fun c1 => ?_)
    · rw [if_pos c1] at h
      refine v_iload_n F (dq dkX11_leastHigh_0 25 rfl) rfl 1 rfl ?_
      cases h
      exact v_iret F E (dq dkX11_leastHigh_0 26 rfl)
    · rw [if_neg c1] at h
      refine v_aload_n F (dq dkX11_leastHigh_0 10 rfl) rfl 0 rfl ?_
      refine v_get F 61 (xn (by decide)) xc_61 rfl inlX11 44 (by decide) (tc13 _ (List.mem_of_getElem? (i := 10) rfl)) rfl rfl (dq dkX11_leastHigh_0 11 rfl) ?_
      refine v_iload_n F (dq dkX11_leastHigh_0 12 rfl) rfl 2 rfl ?_
      obtain ⟨g2, h⟩ := gd_of h
      refine v_iald F 86 (xn (by decide)) xc_86 (ib_in g2) (dq dkX11_leastHigh_0 13 rfl) ?_
      refine v_iload_n F (dq dkX11_leastHigh_0 14 rfl) rfl 1 rfl ?_
      refine v_icmp_ge F (tgt := 34) (dq dkX11_leastHigh_0 15 rfl) (by decide) (fun c3 => ?_) (fun c3 => ?_)
      · rw [if_pos c3] at h
        refine v_iload_n F (dq dkX11_leastHigh_0 21 rfl) rfl 1 rfl ?_
        refine v_sub [0, 2] rfl ?_
        exact t_X11_leastHigh_35 (f_X11_leastHigh_9 y n) y a2 a1 ih h F E
      · rw [if_neg c3] at h
        refine v_aload_n F (dq dkX11_leastHigh_0 16 rfl) rfl 0 rfl ?_
        refine v_get F 61 (xn (by decide)) xc_61 rfl inlX11 44 (by decide) (tc13 _ (List.mem_of_getElem? (i := 10) rfl)) rfl rfl (dq dkX11_leastHigh_0 17 rfl) ?_
        refine v_iload_n F (dq dkX11_leastHigh_0 18 rfl) rfl 2 rfl ?_
        obtain ⟨g4, h⟩ := gd_of h
        refine v_iald F 86 (xn (by decide)) xc_86 (ib_in g4) (dq dkX11_leastHigh_0 19 rfl) ?_
        refine v_goto F (tgt := 35) (dq dkX11_leastHigh_0 20 rfl) (by decide) ?_
        refine v_sub [0, 2] rfl ?_
        exact t_X11_leastHigh_35 (f_X11_leastHigh_9 y n) y a2 (gi y 86 a2.toNatClampNeg) ih h F E
def f_X11_leastHigh (y : MS) : Option (Int32) := f_X11_leastHigh_9 y 1000 (gi y 86 (0 : Int32).toNatClampNeg) 1
set_option maxRecDepth 100000 in
set_option maxHeartbeats 4000000 in
theorem c_X11_leastHigh {K : KE} {l : Launch} {R : Int32} (x : CS) (y : MS) (h : f_X11_leastHigh y = some R) : MC K l yX11_leastHigh cX11_leastHigh 3 (some .int) rm_X11_leastHigh 0 0 [.ref (K.1 + 61)] (xf K x y) (xf K x y) (some (.int R)) := by
  refine mc_of (ls0 := [(0, .ref (K.1 + 61))]) (by decide) (Nat.le_of_ble_eq_true rfl) rfl (fun C hl F E => ?_)
  have F : Fx C RX11 cX11_leastHigh 3 rm_X11_leastHigh K := F
  unfold f_X11_leastHigh at h
  refine v_aload_n F (dq dkX11_leastHigh_0 0 rfl) rfl 0 rfl ?_
  refine v_get F 61 (xn (by decide)) xc_61 rfl inlX11 44 (by decide) (tc13 _ (List.mem_of_getElem? (i := 10) rfl)) rfl rfl (dq dkX11_leastHigh_0 1 rfl) ?_
  refine v_iconst F (v := 0) (dq dkX11_leastHigh_0 2 rfl) ki_0 ?_
  refine v_iald F 86 (xn (by decide)) xc_86 (ib_in (by decide)) (dq dkX11_leastHigh_0 3 rfl) ?_
  refine v_istore_n F (ls' := [(1, .int (gi y 86 (0 : Int32).toNatClampNeg)), (0, .ref (K.1 + 61))]) (dq dkX11_leastHigh_0 4 rfl) rfl (by decide) rfl ?_
  refine v_iconst F (v := 1) (dq dkX11_leastHigh_0 5 rfl) ki_1 ?_
  refine v_istore_n F (ls' := [(2, .int 1), (1, .int (gi y 86 (0 : Int32).toNatClampNeg)), (0, .ref (K.1 + 61))]) (dq dkX11_leastHigh_0 6 rfl) rfl (by decide) rfl ?_
  refine v_sub [2, 1, 0] rfl ?_
  exact t_X11_leastHigh_9 y F E 1000 (gi y 86 (0 : Int32).toNatClampNeg) 1 h
def rm_X11_draughtOf : Room := { frames := 2, cells := 0, slots := 0, locals := 53 }
def f_X11_draughtOf (y : MS) (a1 : Int32) : Option (Int32) := (f_X11_weight y).bind fun r1 => (f_X11_allWide y 0).bind fun r3 => (f_X11_allWide y 0).bind fun r5 => gd (decide (¬ r5 = 0)) (some ((((r1 + a1) + r3) - 1) / r5))
set_option maxRecDepth 100000 in
set_option maxHeartbeats 4000000 in
theorem c_X11_draughtOf {K : KE} {l : Launch} {R : Int32} (x : CS) (y : MS) (a1 : Int32) (h : f_X11_draughtOf y a1 = some R) : MC K l yX11_draughtOf cX11_draughtOf 2 (some .int) rm_X11_draughtOf 0 0 [.ref (K.1 + 61), .int a1] (xf K x y) (xf K x y) (some (.int R)) := by
  refine mc_of (ls0 := [(0, .ref (K.1 + 61)), (1, .int a1)]) (by decide) (Nat.le_of_ble_eq_true rfl) rfl (fun C hl F E => ?_)
  have F : Fx C RX11 cX11_draughtOf 2 rm_X11_draughtOf K := F
  unfold f_X11_draughtOf at h
  refine v_aload_n F (dq dkX11_draughtOf_0 0 rfl) rfl 0 rfl ?_
  obtain ⟨r1, e2, h⟩ := bd_of h
  refine v_callV 0 F (q := 61) (as := []) (st := []) (st1 := (.int r1 :: [])) (res := (some (.int r1))) (c_X11_weight (l := C.2.1) x y e2) (xn (by decide)) xc_61 rfl (tc40 _ (List.mem_of_getElem? (i := 20) rfl)) (tc40 _ (List.mem_of_getElem? (i := 21) rfl)) (tc40 _ (List.mem_of_getElem? (i := 22) rfl)) (tc1 _ (List.mem_of_getElem? (i := 5) rfl)) (tc40 _ (List.mem_of_getElem? (i := 23) rfl)) (by decide) rfl ⟨rfl, rfl, Nat.le_of_ble_eq_true rfl, Nat.le_of_ble_eq_true rfl⟩ ⟨Nat.le_of_ble_eq_true rfl, Nat.le_of_ble_eq_true rfl⟩ rfl (Nat.le_of_ble_eq_true rfl) rfl rfl rfl (dq dkX11_draughtOf_0 1 rfl) ?_
  refine v_iload_n F (dq dkX11_draughtOf_0 2 rfl) rfl 1 rfl ?_
  refine v_iadd F (dq dkX11_draughtOf_0 3 rfl) ?_
  refine v_aload_n F (dq dkX11_draughtOf_0 4 rfl) rfl 0 rfl ?_
  refine v_iconst F (v := 0) (dq dkX11_draughtOf_0 5 rfl) ki_0 ?_
  obtain ⟨r3, e4, h⟩ := bd_of h
  refine v_callV 1 F (q := 61) (as := [.int 0]) (st := [.int (r1 + a1)]) (st1 := (.int r3 :: [.int (r1 + a1)])) (res := (some (.int r3))) (c_X11_allWide (l := C.2.1) x y 0 e4) (xn (by decide)) xc_61 rfl (tc41 _ (List.mem_of_getElem? (i := 0) rfl)) (tc41 _ (List.mem_of_getElem? (i := 1) rfl)) (tc41 _ (List.mem_of_getElem? (i := 2) rfl)) (tc1 _ (List.mem_of_getElem? (i := 5) rfl)) (tc41 _ (List.mem_of_getElem? (i := 3) rfl)) (by decide) rfl ⟨rfl, rfl, Nat.le_of_ble_eq_true rfl, Nat.le_of_ble_eq_true rfl⟩ ⟨Nat.le_of_ble_eq_true rfl, Nat.le_of_ble_eq_true rfl⟩ rfl (Nat.le_of_ble_eq_true rfl) rfl rfl rfl (dq dkX11_draughtOf_0 6 rfl) ?_
  refine v_iadd F (dq dkX11_draughtOf_0 7 rfl) ?_
  refine v_iconst F (v := 1) (dq dkX11_draughtOf_0 8 rfl) ki_1 ?_
  refine v_isub F (dq dkX11_draughtOf_0 9 rfl) ?_
  refine v_aload_n F (dq dkX11_draughtOf_0 10 rfl) rfl 0 rfl ?_
  refine v_iconst F (v := 0) (dq dkX11_draughtOf_0 11 rfl) ki_0 ?_
  obtain ⟨r5, e6, h⟩ := bd_of h
  refine v_callV 1 F (q := 61) (as := [.int 0]) (st := [.int (((r1 + a1) + r3) - 1)]) (st1 := (.int r5 :: [.int (((r1 + a1) + r3) - 1)])) (res := (some (.int r5))) (c_X11_allWide (l := C.2.1) x y 0 e6) (xn (by decide)) xc_61 rfl (tc41 _ (List.mem_of_getElem? (i := 0) rfl)) (tc41 _ (List.mem_of_getElem? (i := 1) rfl)) (tc41 _ (List.mem_of_getElem? (i := 2) rfl)) (tc1 _ (List.mem_of_getElem? (i := 5) rfl)) (tc41 _ (List.mem_of_getElem? (i := 3) rfl)) (by decide) rfl ⟨rfl, rfl, Nat.le_of_ble_eq_true rfl, Nat.le_of_ble_eq_true rfl⟩ ⟨Nat.le_of_ble_eq_true rfl, Nat.le_of_ble_eq_true rfl⟩ rfl (Nat.le_of_ble_eq_true rfl) rfl rfl rfl (dq dkX11_draughtOf_0 12 rfl) ?_
  obtain ⟨g7, h⟩ := gd_of h
  refine v_idiv F (dq dkX11_draughtOf_0 13 rfl) (of_decide_eq_true g7) ?_
  cases h
  exact v_iret F E (dq dkX11_draughtOf_0 14 rfl)
def rm_X11_sinks : Room := { frames := 3, cells := 0, slots := 0, locals := 74 }
def f_X11_sinks_19 (y : MS) : Option (Bool) := some true
set_option maxRecDepth 100000 in
set_option maxHeartbeats 4000000 in
theorem t_X11_sinks_19 {C : Cx} {K : KE} {x : CS} {R : Bool}  (y : MS) (h : f_X11_sinks_19 y = some R) (F : Fx C RX11 cX11_sinks 2 rm_X11_sinks K) (E : CE C (xf K x y) (some (.int (b2i R))) 0 0 (some .boolean)) : V C 19 [] [] (xf K x y) 0 0 := by
  unfold f_X11_sinks_19 at h
  refine v_iconst F (v := 1) (dq dkX11_sinks_0 9 rfl) ki_1 ?_
  refine v_goto F (tgt := 24) (dq dkX11_sinks_0 10 rfl) (by decide) ?_
  cases h
  exact v_zret F E (b2i_n true) (dq dkX11_sinks_0 12 rfl)
def f_X11_sinks (y : MS) (a1 : Int32) : Option (Bool) := if (gi y 61 45) = 0 then ((f_X11_draughtOf y a1).bind fun r2 => (f_X11_leastHigh y).bind fun r4 => if r2 ≤ r4 then (some false) else (f_X11_sinks_19 y)) else (f_X11_sinks_19 y)
set_option maxRecDepth 100000 in
set_option maxHeartbeats 4000000 in
theorem c_X11_sinks {K : KE} {l : Launch} {R : Bool} (x : CS) (y : MS) (a1 : Int32) (h : f_X11_sinks y a1 = some R) : MC K l yX11_sinks cX11_sinks 2 (some .boolean) rm_X11_sinks 0 0 [.ref (K.1 + 61), .int a1] (xf K x y) (xf K x y) (some (.int (b2i R))) := by
  refine mc_of (ls0 := [(0, .ref (K.1 + 61)), (1, .int a1)]) (by decide) (Nat.le_of_ble_eq_true rfl) rfl (fun C hl F E => ?_)
  have F : Fx C RX11 cX11_sinks 2 rm_X11_sinks K := F
  unfold f_X11_sinks at h
  refine v_aload_n F (dq dkX11_sinks_0 0 rfl) rfl 0 rfl ?_
  refine v_get F 61 (xn (by decide)) xc_61 rfl inlX11 45 (by decide) (tc27 _ (List.mem_of_getElem? (i := 9) rfl)) rfl rfl (dq dkX11_sinks_0 1 rfl) ?_
  refine v_if_ne F (tgt := 19) (dq dkX11_sinks_0 2 rfl) (by decide) (fun c1 => ?_) (fun c1 => ?_)
  · rw [if_neg c1] at h
    refine v_sub [] rfl ?_
    exact t_X11_sinks_19 y h F E
  · rw [if_pos c1] at h
    refine v_aload_n F (dq dkX11_sinks_0 3 rfl) rfl 0 rfl ?_
    refine v_iload_n F (dq dkX11_sinks_0 4 rfl) rfl 1 rfl ?_
    obtain ⟨r2, e3, h⟩ := bd_of h
    refine v_callV 1 F (q := 61) (as := [.int a1]) (st := []) (st1 := (.int r2 :: [])) (res := (some (.int r2))) (c_X11_draughtOf (l := C.2.1) x y a1 e3) (xn (by decide)) xc_61 rfl (tc40 _ (List.mem_of_getElem? (i := 16) rfl)) (tc40 _ (List.mem_of_getElem? (i := 17) rfl)) (tc40 _ (List.mem_of_getElem? (i := 18) rfl)) (tc1 _ (List.mem_of_getElem? (i := 5) rfl)) (tc40 _ (List.mem_of_getElem? (i := 19) rfl)) (by decide) rfl ⟨rfl, rfl, Nat.le_of_ble_eq_true rfl, Nat.le_of_ble_eq_true rfl⟩ ⟨Nat.le_of_ble_eq_true rfl, Nat.le_of_ble_eq_true rfl⟩ rfl (Nat.le_of_ble_eq_true rfl) rfl rfl rfl (dq dkX11_sinks_0 5 rfl) ?_
    refine v_aload_n F (dq dkX11_sinks_0 6 rfl) rfl 0 rfl ?_
    obtain ⟨r4, e5, h⟩ := bd_of h
    refine v_callV 0 F (q := 61) (as := []) (st := [.int r2]) (st1 := (.int r4 :: [.int r2])) (res := (some (.int r4))) (c_X11_leastHigh (l := C.2.1) x y e5) (xn (by decide)) xc_61 rfl (tc41 _ (List.mem_of_getElem? (i := 8) rfl)) (tc41 _ (List.mem_of_getElem? (i := 9) rfl)) (tc41 _ (List.mem_of_getElem? (i := 10) rfl)) (tc1 _ (List.mem_of_getElem? (i := 5) rfl)) (tc41 _ (List.mem_of_getElem? (i := 11) rfl)) (by decide) rfl ⟨rfl, rfl, Nat.le_of_ble_eq_true rfl, Nat.le_of_ble_eq_true rfl⟩ ⟨Nat.le_of_ble_eq_true rfl, Nat.le_of_ble_eq_true rfl⟩ rfl (Nat.le_of_ble_eq_true rfl) rfl rfl rfl (dq dkX11_sinks_0 7 rfl) ?_
    refine v_icmp_le F (tgt := 23) (dq dkX11_sinks_0 8 rfl) (by decide) (fun c6 => ?_) (fun c6 => ?_)
    · rw [if_pos c6] at h
      refine v_iconst F (v := 0) (dq dkX11_sinks_0 11 rfl) ki_0 ?_
      cases h
      exact v_zret F E (b2i_n false) (dq dkX11_sinks_0 12 rfl)
    · rw [if_neg c6] at h
      refine v_sub [] rfl ?_
      exact t_X11_sinks_19 y h F E
def rm_X11_floats : Room := { frames := 8, cells := 0, slots := 0, locals := 192 }
def f_X11_floats_31 (y : MS) : Option (Int32 × MS) := some ((-7), y)
set_option maxRecDepth 100000 in
set_option maxHeartbeats 4000000 in
theorem t_X11_floats_31 {C : Cx} {K : KE} {x : CS} {R : Int32 × MS}  (y : MS) (h : f_X11_floats_31 y = some R) (F : Fx C RX11 cX11_floats 5 rm_X11_floats K) (E : CE C (xf K x R.2) (some (.int R.1)) 0 0 (some .int)) : V C 31 [] [] (xf K x y) 0 0 := by
  unfold f_X11_floats_31 at h
  refine v_bipush F (v := (-7)) (dq dkX11_floats_0 16 rfl) kb_m7 ?_
  cases h
  exact v_iret F E (dq dkX11_floats_0 17 rfl)
def f_X11_floats (y : MS) (a1 : Int32) (a2 : Int32) (a3 : Int32) : Option (Int32 × MS) := if (b2i (f_X11_areWorks y a1)) = 0 then (some ((-5), y)) else (if (b2i (f_X11_in a2 0 9999)) = 0 then (f_X11_floats_31 y) else (if (b2i (f_X11_in a3 0 2)) = 0 then (f_X11_floats_31 y) else ((f_X11_comes y a1).bind fun r7 => (f_X11_draughtOf r7 a2).bind fun r9 => (f_X11_sinks r7 a2).bind fun r11 => if (b2i r11) = 0 then (if a3 = 0 then (some (r9, r7)) else (if a3 = 1 then ((f_X11_leastHigh r7).bind fun r19 => some (r19 - r9, r7)) else ((f_X11_allWide r7 1).bind fun r16 => gd (decide (¬ (r9 + 1) = 0)) (some (r16 / (r9 + 1), r7))))) else (some ((-1), r7)))))
set_option maxRecDepth 100000 in
set_option maxHeartbeats 4000000 in
theorem c_X11_floats {K : KE} {l : Launch} {R : Int32 × MS} (x : CS) (y : MS) (a1 : Int32) (a2 : Int32) (a3 : Int32) (h : f_X11_floats y a1 a2 a3 = some R) : MC K l yX11_floats cX11_floats 5 (some .int) rm_X11_floats 0 0 [.ref (K.1 + 61), .int a1, .int a2, .int a3] (xf K x y) (xf K x R.2) (some (.int R.1)) := by
  refine mc_of (ls0 := [(0, .ref (K.1 + 61)), (1, .int a1), (2, .int a2), (3, .int a3)]) (by decide) (Nat.le_of_ble_eq_true rfl) rfl (fun C hl F E => ?_)
  have F : Fx C RX11 cX11_floats 5 rm_X11_floats K := F
  unfold f_X11_floats at h
  refine v_aload_n F (dq dkX11_floats_0 0 rfl) rfl 0 rfl ?_
  refine v_iload_n F (dq dkX11_floats_0 1 rfl) rfl 1 rfl ?_
  refine v_callV 1 F (q := 61) (as := [.int a1]) (st := []) (st1 := (.int (b2i (f_X11_areWorks y a1)) :: [])) (res := (some (.int (b2i (f_X11_areWorks y a1))))) (c_X11_areWorks (l := C.2.1) x y a1) (xn (by decide)) xc_61 rfl (tc27 _ (List.mem_of_getElem? (i := 10) rfl)) (tc27 _ (List.mem_of_getElem? (i := 11) rfl)) (tc27 _ (List.mem_of_getElem? (i := 12) rfl)) (tc1 _ (List.mem_of_getElem? (i := 5) rfl)) (tc27 _ (List.mem_of_getElem? (i := 13) rfl)) (by decide) rfl ⟨rfl, rfl, Nat.le_of_ble_eq_true rfl, Nat.le_of_ble_eq_true rfl⟩ ⟨Nat.le_of_ble_eq_true rfl, Nat.le_of_ble_eq_true rfl⟩ rfl (Nat.le_of_ble_eq_true rfl) rfl rfl rfl (dq dkX11_floats_0 2 rfl) ?_
  refine v_if_ne F (tgt := 11) (dq dkX11_floats_0 3 rfl) (by decide) (fun c2 => ?_) (fun c2 => ?_)
  · rw [if_neg c2] at h
    refine v_iload_n F (dq dkX11_floats_0 6 rfl) rfl 2 rfl ?_
    refine v_iconst F (v := 0) (dq dkX11_floats_0 7 rfl) ki_0 ?_
    refine v_sipush F (v := 9999) (dq dkX11_floats_0 8 rfl) ks_9999 ?_
    refine v_callS 3 F (as := [.int a2, .int 0, .int 9999]) (st := []) (st1 := (.int (b2i (f_X11_in a2 0 9999)) :: [])) (res := (some (.int (b2i (f_X11_in a2 0 9999))))) (c_X11_in (l := C.2.1) a2 0 9999) (tc15 _ (List.mem_of_getElem? (i := 1) rfl)) (tc15 _ (List.mem_of_getElem? (i := 2) rfl)) (tc1 _ (List.mem_of_getElem? (i := 5) rfl)) (tc15 _ (List.mem_of_getElem? (i := 3) rfl)) (by decide) rfl ⟨rfl, rfl, Nat.le_of_ble_eq_true rfl, Nat.le_of_ble_eq_true rfl⟩ ⟨Nat.le_of_ble_eq_true rfl, Nat.le_of_ble_eq_true rfl⟩ rfl (Nat.le_of_ble_eq_true rfl) rfl rfl rfl (dq dkX11_floats_0 9 rfl) ?_
    refine v_if_eq F (tgt := 31) (dq dkX11_floats_0 10 rfl) (by decide) (fun c4 => ?_) (fun c4 => ?_)
    · rw [if_pos c4] at h
      refine v_sub [] rfl ?_
      exact t_X11_floats_31 y h F E
    · rw [if_neg c4] at h
      refine v_iload_n F (dq dkX11_floats_0 11 rfl) rfl 3 rfl ?_
      refine v_iconst F (v := 0) (dq dkX11_floats_0 12 rfl) ki_0 ?_
      refine v_iconst F (v := 2) (dq dkX11_floats_0 13 rfl) ki_2 ?_
      refine v_callS 3 F (as := [.int a3, .int 0, .int 2]) (st := []) (st1 := (.int (b2i (f_X11_in a3 0 2)) :: [])) (res := (some (.int (b2i (f_X11_in a3 0 2))))) (c_X11_in (l := C.2.1) a3 0 2) (tc15 _ (List.mem_of_getElem? (i := 1) rfl)) (tc15 _ (List.mem_of_getElem? (i := 2) rfl)) (tc1 _ (List.mem_of_getElem? (i := 5) rfl)) (tc15 _ (List.mem_of_getElem? (i := 3) rfl)) (by decide) rfl ⟨rfl, rfl, Nat.le_of_ble_eq_true rfl, Nat.le_of_ble_eq_true rfl⟩ ⟨Nat.le_of_ble_eq_true rfl, Nat.le_of_ble_eq_true rfl⟩ rfl (Nat.le_of_ble_eq_true rfl) rfl rfl rfl (dq dkX11_floats_0 14 rfl) ?_
      refine v_if_ne F (tgt := 34) (dq dkX11_floats_0 15 rfl) (by decide) (fun c6 => ?_) (fun c6 => ?_)
      · rw [if_neg c6] at h
        refine v_aload_n F (dq dkX11_floats_0 18 rfl) rfl 0 rfl ?_
        refine v_iload_n F (dq dkX11_floats_0 19 rfl) rfl 1 rfl ?_
        obtain ⟨r7, e8, h⟩ := bd_of h
        refine v_callV 1 F (q := 61) (as := [.int a1]) (st := []) (st1 := []) (res := none) (c_X11_comes (l := C.2.1) x y a1 e8) (xn (by decide)) xc_61 rfl (tc27 _ (List.mem_of_getElem? (i := 14) rfl)) (tc27 _ (List.mem_of_getElem? (i := 15) rfl)) (tc27 _ (List.mem_of_getElem? (i := 16) rfl)) (tc1 _ (List.mem_of_getElem? (i := 5) rfl)) (tc27 _ (List.mem_of_getElem? (i := 17) rfl)) (by decide) rfl ⟨rfl, rfl, Nat.le_of_ble_eq_true rfl, Nat.le_of_ble_eq_true rfl⟩ ⟨Nat.le_of_ble_eq_true rfl, Nat.le_of_ble_eq_true rfl⟩ rfl (Nat.le_of_ble_eq_true rfl) rfl rfl rfl (dq dkX11_floats_0 20 rfl) ?_
        refine v_aload_n F (dq dkX11_floats_0 21 rfl) rfl 0 rfl ?_
        refine v_iload_n F (dq dkX11_floats_0 22 rfl) rfl 2 rfl ?_
        obtain ⟨r9, e10, h⟩ := bd_of h
        refine v_callV 1 F (q := 61) (as := [.int a2]) (st := []) (st1 := (.int r9 :: [])) (res := (some (.int r9))) (c_X11_draughtOf (l := C.2.1) x r7 a2 e10) (xn (by decide)) xc_61 rfl (tc40 _ (List.mem_of_getElem? (i := 16) rfl)) (tc40 _ (List.mem_of_getElem? (i := 17) rfl)) (tc40 _ (List.mem_of_getElem? (i := 18) rfl)) (tc1 _ (List.mem_of_getElem? (i := 5) rfl)) (tc40 _ (List.mem_of_getElem? (i := 19) rfl)) (by decide) rfl ⟨rfl, rfl, Nat.le_of_ble_eq_true rfl, Nat.le_of_ble_eq_true rfl⟩ ⟨Nat.le_of_ble_eq_true rfl, Nat.le_of_ble_eq_true rfl⟩ rfl (Nat.le_of_ble_eq_true rfl) rfl rfl rfl (dq dkX11_floats_0 23 rfl) ?_
        refine v_istore F (ls' := [(4, .int r9), (0, .ref (K.1 + 61)), (1, .int a1), (2, .int a2), (3, .int a3)]) (dq dkX11_floats_0 24 rfl) (by decide) rfl ?_
        refine v_aload_n F (dq dkX11_floats_0 25 rfl) rfl 1 rfl ?_
        refine v_iload_n F (dq dkX11_floats_0 26 rfl) rfl 3 rfl ?_
        obtain ⟨r11, e12, h⟩ := bd_of h
        refine v_callV 1 F (q := 61) (as := [.int a2]) (st := []) (st1 := (.int (b2i r11) :: [])) (res := (some (.int (b2i r11)))) (c_X11_sinks (l := C.2.1) x r7 a2 e12) (xn (by decide)) xc_61 rfl (tc41 _ (List.mem_of_getElem? (i := 4) rfl)) (tc41 _ (List.mem_of_getElem? (i := 5) rfl)) (tc41 _ (List.mem_of_getElem? (i := 6) rfl)) (tc1 _ (List.mem_of_getElem? (i := 5) rfl)) (tc41 _ (List.mem_of_getElem? (i := 7) rfl)) (by decide) rfl ⟨rfl, rfl, Nat.le_of_ble_eq_true rfl, Nat.le_of_ble_eq_true rfl⟩ ⟨Nat.le_of_ble_eq_true rfl, Nat.le_of_ble_eq_true rfl⟩ rfl (Nat.le_of_ble_eq_true rfl) rfl rfl rfl (dq dkX11_floats_0 27 rfl) ?_
        refine v_if_eq F (tgt := 58) (dq dkX11_floats_0 28 rfl) (by decide) (fun c13 => ?_) (fun c13 => ?_)
        · rw [if_pos c13] at h
          refine v_iload_n F (dq dkX11_floats_0 31 rfl) rfl 4 rfl ?_
          refine v_if_ne F (tgt := 67) (dq dkX11_floats_0 32 rfl) (by decide) (fun c14 => ?_) (fun c14 => ?_)
          · rw [if_neg c14] at h
            refine v_iload_n F (dq dkX11_floats_0 35 rfl) rfl 4 rfl ?_
            refine v_iconst F (v := 1) (dq dkX11_floats_0 36 rfl) ki_1 ?_
            refine v_icmp_ne F (tgt := 82) (dq dkX11_floats_0 37 rfl) (by decide) (fun c15 => ?_) (fun c15 => ?_)
            · rw [if_neg c15] at h
              refine v_aload_n F (dq dkX11_floats_1 3 rfl) rfl 1 rfl ?_
              refine v_iconst F (v := 1) (dq dkX11_floats_1 4 rfl) ki_1 ?_
              obtain ⟨r16, e17, h⟩ := bd_of h
              refine v_callV 1 F (q := 61) (as := [.int 1]) (st := []) (st1 := (.int r16 :: [])) (res := (some (.int r16))) (c_X11_allWide (l := C.2.1) x r7 1 e17) (xn (by decide)) xc_61 rfl (tc41 _ (List.mem_of_getElem? (i := 0) rfl)) (tc41 _ (List.mem_of_getElem? (i := 1) rfl)) (tc41 _ (List.mem_of_getElem? (i := 2) rfl)) (tc1 _ (List.mem_of_getElem? (i := 5) rfl)) (tc41 _ (List.mem_of_getElem? (i := 3) rfl)) (by decide) rfl ⟨rfl, rfl, Nat.le_of_ble_eq_true rfl, Nat.le_of_ble_eq_true rfl⟩ ⟨Nat.le_of_ble_eq_true rfl, Nat.le_of_ble_eq_true rfl⟩ rfl (Nat.le_of_ble_eq_true rfl) rfl rfl rfl (dq dkX11_floats_1 5 rfl) ?_
              refine v_iload F (dq dkX11_floats_1 6 rfl) 0 rfl ?_
              refine v_iconst F (v := 1) (dq dkX11_floats_1 7 rfl) ki_1 ?_
              refine v_iadd F (dq dkX11_floats_1 8 rfl) ?_
              obtain ⟨g18, h⟩ := gd_of h
              refine v_idiv F (dq dkX11_floats_1 9 rfl) (of_decide_eq_true g18) ?_
              cases h
              exact v_iret F E (dq dkX11_floats_1 10 rfl)
            · rw [if_pos c15] at h
              refine v_aload_n F (dq dkX11_floats_0 38 rfl) rfl 1 rfl ?_
              obtain ⟨r19, e20, h⟩ := bd_of h
              refine v_callV 0 F (q := 61) (as := []) (st := []) (st1 := (.int r19 :: [])) (res := (some (.int r19))) (c_X11_leastHigh (l := C.2.1) x r7 e20) (xn (by decide)) xc_61 rfl (tc41 _ (List.mem_of_getElem? (i := 8) rfl)) (tc41 _ (List.mem_of_getElem? (i := 9) rfl)) (tc41 _ (List.mem_of_getElem? (i := 10) rfl)) (tc1 _ (List.mem_of_getElem? (i := 5) rfl)) (tc41 _ (List.mem_of_getElem? (i := 11) rfl)) (by decide) rfl ⟨rfl, rfl, Nat.le_of_ble_eq_true rfl, Nat.le_of_ble_eq_true rfl⟩ ⟨Nat.le_of_ble_eq_true rfl, Nat.le_of_ble_eq_true rfl⟩ rfl (Nat.le_of_ble_eq_true rfl) rfl rfl rfl (dq dkX11_floats_0 39 rfl) ?_
              refine v_iload F (dq dkX11_floats_1 0 rfl) 0 rfl ?_
              refine v_isub F (dq dkX11_floats_1 1 rfl) ?_
              refine v_goto F (tgt := 92) (dq dkX11_floats_1 2 rfl) (by decide) ?_
              cases h
              exact v_iret F E (dq dkX11_floats_1 10 rfl)
          · rw [if_pos c14] at h
            refine v_iload F (dq dkX11_floats_0 33 rfl) 0 rfl ?_
            refine v_goto F (tgt := 92) (dq dkX11_floats_0 34 rfl) (by decide) ?_
            cases h
            exact v_iret F E (dq dkX11_floats_1 10 rfl)
        · rw [if_neg c13] at h
          refine v_iconst F (v := (-1)) (dq dkX11_floats_0 29 rfl) ki_m1 ?_
          refine v_goto F (tgt := 92) (dq dkX11_floats_0 30 rfl) (by decide) ?_
          cases h
          exact v_iret F E (dq dkX11_floats_1 10 rfl)
      · rw [if_pos c6] at h
        refine v_sub [] rfl ?_
        exact t_X11_floats_31 y h F E
  · rw [if_pos c2] at h
    refine v_bipush F (v := (-5)) (dq dkX11_floats_0 4 rfl) kb_m5 ?_
    cases h
    exact v_iret F E (dq dkX11_floats_0 5 rfl)
def rm_X11_bears : Room := { frames := 8, cells := 0, slots := 0, locals := 192 }
def f_X11_bears_58 (y : MS) : Option (Int32 × MS) := some ((-1), y)
set_option maxRecDepth 100000 in
set_option maxHeartbeats 4000000 in
theorem t_X11_bears_58 {C : Cx} {K : KE} {x : CS} {R : Int32 × MS}  (y : MS) (h : f_X11_bears_58 y = some R) (F : Fx C RX11 cX11_bears 4 rm_X11_bears K) (E : CE C (xf K x R.2) (some (.int R.1)) 0 0 (some .int)) : V C 58 [] [] (xf K x y) 0 0 := by
  unfold f_X11_bears_58 at h
  refine v_iconst F (v := (-1)) (dq dkX11_bears_0 33 rfl) ki_m1 ?_
  refine v_goto F (tgt := 63) (dq dkX11_bears_0 34 rfl) (by decide) ?_
  cases h
  exact v_iret F E (dq dkX11_bears_0 36 rfl)
def f_X11_bears (y : MS) (a1 : Int32) (a2 : Int32) : Option (Int32 × MS) := if (b2i (f_X11_areWorks y a1)) = 0 then (some ((-5), y)) else (if (b2i (f_X11_in a2 0 99)) = 0 then (some ((-7), y)) else ((f_X11_comes y a1).bind fun r5 => (f_X11_allWide r5 0).bind fun r7 => (f_X11_leastHigh r5).bind fun r9 => (f_X11_weight r5).bind fun r11 => if (gi r5 61 45) = 0 then (if 0 ≤ ((r7 * (r9 - a2)) - r11) then (some ((r7 * (r9 - a2)) - r11, r5)) else (f_X11_bears_58 r5)) else (f_X11_bears_58 r5)))
set_option maxRecDepth 100000 in
set_option maxHeartbeats 4000000 in
theorem c_X11_bears {K : KE} {l : Launch} {R : Int32 × MS} (x : CS) (y : MS) (a1 : Int32) (a2 : Int32) (h : f_X11_bears y a1 a2 = some R) : MC K l yX11_bears cX11_bears 4 (some .int) rm_X11_bears 0 0 [.ref (K.1 + 61), .int a1, .int a2] (xf K x y) (xf K x R.2) (some (.int R.1)) := by
  refine mc_of (ls0 := [(0, .ref (K.1 + 61)), (1, .int a1), (2, .int a2)]) (by decide) (Nat.le_of_ble_eq_true rfl) rfl (fun C hl F E => ?_)
  have F : Fx C RX11 cX11_bears 4 rm_X11_bears K := F
  unfold f_X11_bears at h
  refine v_aload_n F (dq dkX11_bears_0 0 rfl) rfl 0 rfl ?_
  refine v_iload_n F (dq dkX11_bears_0 1 rfl) rfl 1 rfl ?_
  refine v_callV 1 F (q := 61) (as := [.int a1]) (st := []) (st1 := (.int (b2i (f_X11_areWorks y a1)) :: [])) (res := (some (.int (b2i (f_X11_areWorks y a1))))) (c_X11_areWorks (l := C.2.1) x y a1) (xn (by decide)) xc_61 rfl (tc27 _ (List.mem_of_getElem? (i := 10) rfl)) (tc27 _ (List.mem_of_getElem? (i := 11) rfl)) (tc27 _ (List.mem_of_getElem? (i := 12) rfl)) (tc1 _ (List.mem_of_getElem? (i := 5) rfl)) (tc27 _ (List.mem_of_getElem? (i := 13) rfl)) (by decide) rfl ⟨rfl, rfl, Nat.le_of_ble_eq_true rfl, Nat.le_of_ble_eq_true rfl⟩ ⟨Nat.le_of_ble_eq_true rfl, Nat.le_of_ble_eq_true rfl⟩ rfl (Nat.le_of_ble_eq_true rfl) rfl rfl rfl (dq dkX11_bears_0 2 rfl) ?_
  refine v_if_ne F (tgt := 11) (dq dkX11_bears_0 3 rfl) (by decide) (fun c2 => ?_) (fun c2 => ?_)
  · rw [if_neg c2] at h
    refine v_iload_n F (dq dkX11_bears_0 6 rfl) rfl 2 rfl ?_
    refine v_iconst F (v := 0) (dq dkX11_bears_0 7 rfl) ki_0 ?_
    refine v_bipush F (v := 99) (dq dkX11_bears_0 8 rfl) kb_99 ?_
    refine v_callS 3 F (as := [.int a2, .int 0, .int 99]) (st := []) (st1 := (.int (b2i (f_X11_in a2 0 99)) :: [])) (res := (some (.int (b2i (f_X11_in a2 0 99))))) (c_X11_in (l := C.2.1) a2 0 99) (tc15 _ (List.mem_of_getElem? (i := 1) rfl)) (tc15 _ (List.mem_of_getElem? (i := 2) rfl)) (tc1 _ (List.mem_of_getElem? (i := 5) rfl)) (tc15 _ (List.mem_of_getElem? (i := 3) rfl)) (by decide) rfl ⟨rfl, rfl, Nat.le_of_ble_eq_true rfl, Nat.le_of_ble_eq_true rfl⟩ ⟨Nat.le_of_ble_eq_true rfl, Nat.le_of_ble_eq_true rfl⟩ rfl (Nat.le_of_ble_eq_true rfl) rfl rfl rfl (dq dkX11_bears_0 9 rfl) ?_
    refine v_if_ne F (tgt := 24) (dq dkX11_bears_0 10 rfl) (by decide) (fun c4 => ?_) (fun c4 => ?_)
    · rw [if_neg c4] at h
      refine v_aload_n F (dq dkX11_bears_0 13 rfl) rfl 0 rfl ?_
      refine v_iload_n F (dq dkX11_bears_0 14 rfl) rfl 1 rfl ?_
      obtain ⟨r5, e6, h⟩ := bd_of h
      refine v_callV 1 F (q := 61) (as := [.int a1]) (st := []) (st1 := []) (res := none) (c_X11_comes (l := C.2.1) x y a1 e6) (xn (by decide)) xc_61 rfl (tc27 _ (List.mem_of_getElem? (i := 14) rfl)) (tc27 _ (List.mem_of_getElem? (i := 15) rfl)) (tc27 _ (List.mem_of_getElem? (i := 16) rfl)) (tc1 _ (List.mem_of_getElem? (i := 5) rfl)) (tc27 _ (List.mem_of_getElem? (i := 17) rfl)) (by decide) rfl ⟨rfl, rfl, Nat.le_of_ble_eq_true rfl, Nat.le_of_ble_eq_true rfl⟩ ⟨Nat.le_of_ble_eq_true rfl, Nat.le_of_ble_eq_true rfl⟩ rfl (Nat.le_of_ble_eq_true rfl) rfl rfl rfl (dq dkX11_bears_0 15 rfl) ?_
      refine v_aload_n F (dq dkX11_bears_0 16 rfl) rfl 0 rfl ?_
      refine v_iconst F (v := 0) (dq dkX11_bears_0 17 rfl) ki_0 ?_
      obtain ⟨r7, e8, h⟩ := bd_of h
      refine v_callV 1 F (q := 61) (as := [.int 0]) (st := []) (st1 := (.int r7 :: [])) (res := (some (.int r7))) (c_X11_allWide (l := C.2.1) x r5 0 e8) (xn (by decide)) xc_61 rfl (tc41 _ (List.mem_of_getElem? (i := 0) rfl)) (tc41 _ (List.mem_of_getElem? (i := 1) rfl)) (tc41 _ (List.mem_of_getElem? (i := 2) rfl)) (tc1 _ (List.mem_of_getElem? (i := 5) rfl)) (tc41 _ (List.mem_of_getElem? (i := 3) rfl)) (by decide) rfl ⟨rfl, rfl, Nat.le_of_ble_eq_true rfl, Nat.le_of_ble_eq_true rfl⟩ ⟨Nat.le_of_ble_eq_true rfl, Nat.le_of_ble_eq_true rfl⟩ rfl (Nat.le_of_ble_eq_true rfl) rfl rfl rfl (dq dkX11_bears_0 18 rfl) ?_
      refine v_aload_n F (dq dkX11_bears_0 19 rfl) rfl 0 rfl ?_
      obtain ⟨r9, e10, h⟩ := bd_of h
      refine v_callV 0 F (q := 61) (as := []) (st := [.int r7]) (st1 := (.int r9 :: [.int r7])) (res := (some (.int r9))) (c_X11_leastHigh (l := C.2.1) x r5 e10) (xn (by decide)) xc_61 rfl (tc41 _ (List.mem_of_getElem? (i := 8) rfl)) (tc41 _ (List.mem_of_getElem? (i := 9) rfl)) (tc41 _ (List.mem_of_getElem? (i := 10) rfl)) (tc1 _ (List.mem_of_getElem? (i := 5) rfl)) (tc41 _ (List.mem_of_getElem? (i := 11) rfl)) (by decide) rfl ⟨rfl, rfl, Nat.le_of_ble_eq_true rfl, Nat.le_of_ble_eq_true rfl⟩ ⟨Nat.le_of_ble_eq_true rfl, Nat.le_of_ble_eq_true rfl⟩ rfl (Nat.le_of_ble_eq_true rfl) rfl rfl rfl (dq dkX11_bears_0 20 rfl) ?_
      refine v_iload_n F (dq dkX11_bears_0 21 rfl) rfl 2 rfl ?_
      refine v_isub F (dq dkX11_bears_0 22 rfl) ?_
      refine v_imul F (dq dkX11_bears_0 23 rfl) ?_
      refine v_aload_n F (dq dkX11_bears_0 24 rfl) rfl 0 rfl ?_
      obtain ⟨r11, e12, h⟩ := bd_of h
      refine v_callV 0 F (q := 61) (as := []) (st := [.int (r7 * (r9 - a2))]) (st1 := (.int r11 :: [.int (r7 * (r9 - a2))])) (res := (some (.int r11))) (c_X11_weight (l := C.2.1) x r5 e12) (xn (by decide)) xc_61 rfl (tc40 _ (List.mem_of_getElem? (i := 20) rfl)) (tc40 _ (List.mem_of_getElem? (i := 21) rfl)) (tc40 _ (List.mem_of_getElem? (i := 22) rfl)) (tc1 _ (List.mem_of_getElem? (i := 5) rfl)) (tc40 _ (List.mem_of_getElem? (i := 23) rfl)) (by decide) rfl ⟨rfl, rfl, Nat.le_of_ble_eq_true rfl, Nat.le_of_ble_eq_true rfl⟩ ⟨Nat.le_of_ble_eq_true rfl, Nat.le_of_ble_eq_true rfl⟩ rfl (Nat.le_of_ble_eq_true rfl) rfl rfl rfl (dq dkX11_bears_0 25 rfl) ?_
      refine v_isub F (dq dkX11_bears_0 26 rfl) ?_
      refine v_istore_n F (ls' := [(3, .int ((r7 * (r9 - a2)) - r11)), (0, .ref (K.1 + 61)), (1, .int a1), (2, .int a2)]) (dq dkX11_bears_0 27 rfl) rfl (by decide) rfl ?_
      refine v_aload_n F (dq dkX11_bears_0 28 rfl) rfl 1 rfl ?_
      refine v_get F 61 (xn (by decide)) xc_61 rfl inlX11 45 (by decide) (tc27 _ (List.mem_of_getElem? (i := 9) rfl)) rfl rfl (dq dkX11_bears_0 29 rfl) ?_
      refine v_if_ne F (tgt := 58) (dq dkX11_bears_0 30 rfl) (by decide) (fun c13 => ?_) (fun c13 => ?_)
      · rw [if_neg c13] at h
        refine v_sub [] rfl ?_
        exact t_X11_bears_58 r5 h F E
      · rw [if_pos c13] at h
        refine v_iload_n F (dq dkX11_bears_0 31 rfl) rfl 0 rfl ?_
        refine v_if_ge F (tgt := 62) (dq dkX11_bears_0 32 rfl) (by decide) (fun c14 => ?_) (fun c14 => ?_)
        · rw [if_pos c14] at h
          refine v_iload_n F (dq dkX11_bears_0 35 rfl) rfl 0 rfl ?_
          cases h
          exact v_iret F E (dq dkX11_bears_0 36 rfl)
        · rw [if_neg c14] at h
          refine v_sub [] rfl ?_
          exact t_X11_bears_58 r5 h F E
    · rw [if_pos c4] at h
      refine v_bipush F (v := (-7)) (dq dkX11_bears_0 11 rfl) kb_m7 ?_
      cases h
      exact v_iret F E (dq dkX11_bears_0 12 rfl)
  · rw [if_pos c2] at h
    refine v_bipush F (v := (-5)) (dq dkX11_bears_0 4 rfl) kb_m5 ?_
    cases h
    exact v_iret F E (dq dkX11_bears_0 5 rfl)
def rm_X11_bar : Room := { frames := 8, cells := 0, slots := 0, locals := 192 }
def f_X11_bar_33 (y : MS) : Option (Int32 × MS) := some ((-7), y)
set_option maxRecDepth 100000 in
set_option maxHeartbeats 4000000 in
theorem t_X11_bar_33 {C : Cx} {K : KE} {x : CS} {R : Int32 × MS}  (y : MS) (h : f_X11_bar_33 y = some R) (F : Fx C RX11 cX11_bar 5 rm_X11_bar K) (E : CE C (xf K x R.2) (some (.int R.1)) 0 0 (some .int)) : V C 33 [] [] (xf K x y) 0 0 := by
  unfold f_X11_bar_33 at h
  refine v_bipush F (v := (-7)) (dq dkX11_bar_0 16 rfl) kb_m7 ?_
  cases h
  exact v_iret F E (dq dkX11_bar_0 17 rfl)
def f_X11_bar_99 (y : MS) : Option (Int32 × MS) := some (0, y)
set_option maxRecDepth 100000 in
set_option maxHeartbeats 4000000 in
theorem t_X11_bar_99 {C : Cx} {K : KE} {x : CS} {R : Int32 × MS}  (y : MS) (h : f_X11_bar_99 y = some R) (F : Fx C RX11 cX11_bar 5 rm_X11_bar K) (E : CE C (xf K x R.2) (some (.int R.1)) 0 0 (some .int)) : V C 99 [] [] (xf K x y) 0 0 := by
  unfold f_X11_bar_99 at h
  refine v_iconst F (v := 0) (dq dkX11_bar_1 13 rfl) ki_0 ?_
  cases h
  exact v_iret F E (dq dkX11_bar_1 14 rfl)
def f_X11_bar_73 (y : MS) (a2 : Int32) (a3 : Int32) (s0 : Int32) : Option (Int32 × MS) := (f_X11_sinks y a2).bind fun r1 => if (b2i r1) = 0 then ((f_X11_draughtOf y a2).bind fun r4 => if (s0 - r4) < a3 then (f_X11_bar_99 y) else (some (1, y))) else (f_X11_bar_99 y)
set_option maxRecDepth 100000 in
set_option maxHeartbeats 4000000 in
theorem t_X11_bar_73 {C : Cx} {K : KE} {x : CS} {R : Int32 × MS}  (y : MS) (a2 : Int32) (a3 : Int32) (s0 : Int32) (h : f_X11_bar_73 y a2 a3 s0 = some R) (F : Fx C RX11 cX11_bar 5 rm_X11_bar K) (E : CE C (xf K x R.2) (some (.int R.1)) 0 0 (some .int)) : V C 73 [(0, .ref (K.1 + 61)), (2, .int a2), (3, .int a3)] [.int s0] (xf K x y) 0 0 := by
  unfold f_X11_bar_73 at h
  refine v_istore F (ls' := [(4, .int s0), (0, .ref (K.1 + 61)), (2, .int a2), (3, .int a3)]) (dq dkX11_bar_0 39 rfl) (by decide) rfl ?_
  refine v_aload_n F (dq dkX11_bar_1 0 rfl) rfl 1 rfl ?_
  refine v_iload_n F (dq dkX11_bar_1 1 rfl) rfl 2 rfl ?_
  obtain ⟨r1, e2, h⟩ := bd_of h
  refine v_callV 1 F (q := 61) (as := [.int a2]) (st := []) (st1 := (.int (b2i r1) :: [])) (res := (some (.int (b2i r1)))) (c_X11_sinks (l := C.2.1) x y a2 e2) (xn (by decide)) xc_61 rfl (tc41 _ (List.mem_of_getElem? (i := 4) rfl)) (tc41 _ (List.mem_of_getElem? (i := 5) rfl)) (tc41 _ (List.mem_of_getElem? (i := 6) rfl)) (tc1 _ (List.mem_of_getElem? (i := 5) rfl)) (tc41 _ (List.mem_of_getElem? (i := 7) rfl)) (by decide) rfl ⟨rfl, rfl, Nat.le_of_ble_eq_true rfl, Nat.le_of_ble_eq_true rfl⟩ ⟨Nat.le_of_ble_eq_true rfl, Nat.le_of_ble_eq_true rfl⟩ rfl (Nat.le_of_ble_eq_true rfl) rfl rfl rfl (dq dkX11_bar_1 2 rfl) ?_
  refine v_if_ne F (tgt := 99) (dq dkX11_bar_1 3 rfl) (by decide) (fun c3 => ?_) (fun c3 => ?_)
  · rw [if_neg c3] at h
    refine v_sub [] rfl ?_
    exact t_X11_bar_99 y h F E
  · rw [if_pos c3] at h
    refine v_iload F (dq dkX11_bar_1 4 rfl) 0 rfl ?_
    refine v_aload_n F (dq dkX11_bar_1 5 rfl) rfl 1 rfl ?_
    refine v_iload_n F (dq dkX11_bar_1 6 rfl) rfl 2 rfl ?_
    obtain ⟨r4, e5, h⟩ := bd_of h
    refine v_callV 1 F (q := 61) (as := [.int a2]) (st := [.int s0]) (st1 := (.int r4 :: [.int s0])) (res := (some (.int r4))) (c_X11_draughtOf (l := C.2.1) x y a2 e5) (xn (by decide)) xc_61 rfl (tc40 _ (List.mem_of_getElem? (i := 16) rfl)) (tc40 _ (List.mem_of_getElem? (i := 17) rfl)) (tc40 _ (List.mem_of_getElem? (i := 18) rfl)) (tc1 _ (List.mem_of_getElem? (i := 5) rfl)) (tc40 _ (List.mem_of_getElem? (i := 19) rfl)) (by decide) rfl ⟨rfl, rfl, Nat.le_of_ble_eq_true rfl, Nat.le_of_ble_eq_true rfl⟩ ⟨Nat.le_of_ble_eq_true rfl, Nat.le_of_ble_eq_true rfl⟩ rfl (Nat.le_of_ble_eq_true rfl) rfl rfl rfl (dq dkX11_bar_1 7 rfl) ?_
    refine v_isub F (dq dkX11_bar_1 8 rfl) ?_
    refine v_iload_n F (dq dkX11_bar_1 9 rfl) rfl 3 rfl ?_
    refine v_icmp_lt F (tgt := 99) (dq dkX11_bar_1 10 rfl) (by decide) (fun c6 => ?_) (fun c6 => ?_)
    · rw [if_pos c6] at h
      refine v_sub [] rfl ?_
      exact t_X11_bar_99 y h F E
    · rw [if_neg c6] at h
      refine v_iconst F (v := 1) (dq dkX11_bar_1 11 rfl) ki_1 ?_
      refine v_goto F (tgt := 100) (dq dkX11_bar_1 12 rfl) (by decide) ?_
      cases h
      exact v_iret F E (dq dkX11_bar_1 14 rfl)
def f_X11_bar (y : MS) (a1 : Int32) (a2 : Int32) (a3 : Int32) : Option (Int32 × MS) := if (b2i (f_X11_areWorks y a1)) = 0 then (some ((-5), y)) else (if (b2i (f_X11_in a2 0 9999)) = 0 then (f_X11_bar_33 y) else (if (b2i (f_X11_in a3 0 999)) = 0 then (f_X11_bar_33 y) else ((f_X11_comes y a1).bind fun r13 => if (gi r13 86 (8 : Int32).toNatClampNeg) ≤ (gi r13 86 (0 : Int32).toNatClampNeg) then (f_X11_bar_73 r13 a2 a3 (gi r13 86 (8 : Int32).toNatClampNeg)) else (f_X11_bar_73 r13 a2 a3 (gi r13 86 (0 : Int32).toNatClampNeg)))))
set_option maxRecDepth 100000 in
set_option maxHeartbeats 4000000 in
theorem c_X11_bar {K : KE} {l : Launch} {R : Int32 × MS} (x : CS) (y : MS) (a1 : Int32) (a2 : Int32) (a3 : Int32) (h : f_X11_bar y a1 a2 a3 = some R) : MC K l yX11_bar cX11_bar 5 (some .int) rm_X11_bar 0 0 [.ref (K.1 + 61), .int a1, .int a2, .int a3] (xf K x y) (xf K x R.2) (some (.int R.1)) := by
  refine mc_of (ls0 := [(0, .ref (K.1 + 61)), (1, .int a1), (2, .int a2), (3, .int a3)]) (by decide) (Nat.le_of_ble_eq_true rfl) rfl (fun C hl F E => ?_)
  have F : Fx C RX11 cX11_bar 5 rm_X11_bar K := F
  unfold f_X11_bar at h
  refine v_aload_n F (dq dkX11_bar_0 0 rfl) rfl 0 rfl ?_
  refine v_iload_n F (dq dkX11_bar_0 1 rfl) rfl 1 rfl ?_
  refine v_callV 1 F (q := 61) (as := [.int a1]) (st := []) (st1 := (.int (b2i (f_X11_areWorks y a1)) :: [])) (res := (some (.int (b2i (f_X11_areWorks y a1))))) (c_X11_areWorks (l := C.2.1) x y a1) (xn (by decide)) xc_61 rfl (tc27 _ (List.mem_of_getElem? (i := 10) rfl)) (tc27 _ (List.mem_of_getElem? (i := 11) rfl)) (tc27 _ (List.mem_of_getElem? (i := 12) rfl)) (tc1 _ (List.mem_of_getElem? (i := 5) rfl)) (tc27 _ (List.mem_of_getElem? (i := 13) rfl)) (by decide) rfl ⟨rfl, rfl, Nat.le_of_ble_eq_true rfl, Nat.le_of_ble_eq_true rfl⟩ ⟨Nat.le_of_ble_eq_true rfl, Nat.le_of_ble_eq_true rfl⟩ rfl (Nat.le_of_ble_eq_true rfl) rfl rfl rfl (dq dkX11_bar_0 2 rfl) ?_
  refine v_if_ne F (tgt := 11) (dq dkX11_bar_0 3 rfl) (by decide) (fun c8 => ?_) (fun c8 => ?_)
  · rw [if_neg c8] at h
    refine v_iload_n F (dq dkX11_bar_0 6 rfl) rfl 2 rfl ?_
    refine v_iconst F (v := 0) (dq dkX11_bar_0 7 rfl) ki_0 ?_
    refine v_sipush F (v := 9999) (dq dkX11_bar_0 8 rfl) ks_9999 ?_
    refine v_callS 3 F (as := [.int a2, .int 0, .int 9999]) (st := []) (st1 := (.int (b2i (f_X11_in a2 0 9999)) :: [])) (res := (some (.int (b2i (f_X11_in a2 0 9999))))) (c_X11_in (l := C.2.1) a2 0 9999) (tc15 _ (List.mem_of_getElem? (i := 1) rfl)) (tc15 _ (List.mem_of_getElem? (i := 2) rfl)) (tc1 _ (List.mem_of_getElem? (i := 5) rfl)) (tc15 _ (List.mem_of_getElem? (i := 3) rfl)) (by decide) rfl ⟨rfl, rfl, Nat.le_of_ble_eq_true rfl, Nat.le_of_ble_eq_true rfl⟩ ⟨Nat.le_of_ble_eq_true rfl, Nat.le_of_ble_eq_true rfl⟩ rfl (Nat.le_of_ble_eq_true rfl) rfl rfl rfl (dq dkX11_bar_0 9 rfl) ?_
    refine v_if_eq F (tgt := 33) (dq dkX11_bar_0 10 rfl) (by decide) (fun c10 => ?_) (fun c10 => ?_)
    · rw [if_pos c10] at h
      refine v_sub [] rfl ?_
      exact t_X11_bar_33 y h F E
    · rw [if_neg c10] at h
      refine v_iload_n F (dq dkX11_bar_0 11 rfl) rfl 3 rfl ?_
      refine v_iconst F (v := 0) (dq dkX11_bar_0 12 rfl) ki_0 ?_
      refine v_sipush F (v := 999) (dq dkX11_bar_0 13 rfl) ks_999 ?_
      refine v_callS 3 F (as := [.int a3, .int 0, .int 999]) (st := []) (st1 := (.int (b2i (f_X11_in a3 0 999)) :: [])) (res := (some (.int (b2i (f_X11_in a3 0 999))))) (c_X11_in (l := C.2.1) a3 0 999) (tc15 _ (List.mem_of_getElem? (i := 1) rfl)) (tc15 _ (List.mem_of_getElem? (i := 2) rfl)) (tc1 _ (List.mem_of_getElem? (i := 5) rfl)) (tc15 _ (List.mem_of_getElem? (i := 3) rfl)) (by decide) rfl ⟨rfl, rfl, Nat.le_of_ble_eq_true rfl, Nat.le_of_ble_eq_true rfl⟩ ⟨Nat.le_of_ble_eq_true rfl, Nat.le_of_ble_eq_true rfl⟩ rfl (Nat.le_of_ble_eq_true rfl) rfl rfl rfl (dq dkX11_bar_0 14 rfl) ?_
      refine v_if_ne F (tgt := 36) (dq dkX11_bar_0 15 rfl) (by decide) (fun c12 => ?_) (fun c12 => ?_)
      · rw [if_neg c12] at h
        refine v_aload_n F (dq dkX11_bar_0 18 rfl) rfl 0 rfl ?_
        refine v_iload_n F (dq dkX11_bar_0 19 rfl) rfl 1 rfl ?_
        obtain ⟨r13, e14, h⟩ := bd_of h
        refine v_callV 1 F (q := 61) (as := [.int a1]) (st := []) (st1 := []) (res := none) (c_X11_comes (l := C.2.1) x y a1 e14) (xn (by decide)) xc_61 rfl (tc27 _ (List.mem_of_getElem? (i := 14) rfl)) (tc27 _ (List.mem_of_getElem? (i := 15) rfl)) (tc27 _ (List.mem_of_getElem? (i := 16) rfl)) (tc1 _ (List.mem_of_getElem? (i := 5) rfl)) (tc27 _ (List.mem_of_getElem? (i := 17) rfl)) (by decide) rfl ⟨rfl, rfl, Nat.le_of_ble_eq_true rfl, Nat.le_of_ble_eq_true rfl⟩ ⟨Nat.le_of_ble_eq_true rfl, Nat.le_of_ble_eq_true rfl⟩ rfl (Nat.le_of_ble_eq_true rfl) rfl rfl rfl (dq dkX11_bar_0 20 rfl) ?_
        refine v_aload_n F (dq dkX11_bar_0 21 rfl) rfl 0 rfl ?_
        refine v_get F 61 (xn (by decide)) xc_61 rfl inlX11 44 (by decide) (tc13 _ (List.mem_of_getElem? (i := 10) rfl)) rfl rfl (dq dkX11_bar_0 22 rfl) ?_
        refine v_iconst F (v := 0) (dq dkX11_bar_0 23 rfl) ki_0 ?_
        refine v_iald F 86 (xn (by decide)) xc_86 (ib_in (by decide)) (dq dkX11_bar_0 24 rfl) ?_
        refine v_aload_n F (dq dkX11_bar_0 25 rfl) rfl 0 rfl ?_
        refine v_get F 61 (xn (by decide)) xc_61 rfl inlX11 44 (by decide) (tc13 _ (List.mem_of_getElem? (i := 10) rfl)) rfl rfl (dq dkX11_bar_0 26 rfl) ?_
        refine v_bipush F (v := 8) (dq dkX11_bar_0 27 rfl) kb_8 ?_
        refine v_iald F 86 (xn (by decide)) xc_86 (ib_in (by decide)) (dq dkX11_bar_0 28 rfl) ?_
        refine v_icmp_ge F (tgt := 66) (dq dkX11_bar_0 29 rfl) (by decide) (fun c15 => ?_) (fun c15 => ?_)
        · rw [if_pos c15] at h
          refine v_aload_n F (dq dkX11_bar_0 35 rfl) rfl 0 rfl ?_
          refine v_get F 61 (xn (by decide)) xc_61 rfl inlX11 44 (by decide) (tc13 _ (List.mem_of_getElem? (i := 10) rfl)) rfl rfl (dq dkX11_bar_0 36 rfl) ?_
          refine v_bipush F (v := 8) (dq dkX11_bar_0 37 rfl) kb_8 ?_
          refine v_iald F 86 (xn (by decide)) xc_86 (ib_in (by decide)) (dq dkX11_bar_0 38 rfl) ?_
          refine v_sub [0, 2, 3] rfl ?_
          exact t_X11_bar_73 r13 a2 a3 (gi r13 86 (8 : Int32).toNatClampNeg) h F E
        · rw [if_neg c15] at h
          refine v_aload_n F (dq dkX11_bar_0 30 rfl) rfl 0 rfl ?_
          refine v_get F 61 (xn (by decide)) xc_61 rfl inlX11 44 (by decide) (tc13 _ (List.mem_of_getElem? (i := 10) rfl)) rfl rfl (dq dkX11_bar_0 31 rfl) ?_
          refine v_iconst F (v := 0) (dq dkX11_bar_0 32 rfl) ki_0 ?_
          refine v_iald F 86 (xn (by decide)) xc_86 (ib_in (by decide)) (dq dkX11_bar_0 33 rfl) ?_
          refine v_goto F (tgt := 73) (dq dkX11_bar_0 34 rfl) (by decide) ?_
          refine v_sub [0, 2, 3] rfl ?_
          exact t_X11_bar_73 r13 a2 a3 (gi r13 86 (0 : Int32).toNatClampNeg) h F E
      · rw [if_pos c12] at h
        refine v_sub [] rfl ?_
        exact t_X11_bar_33 y h F E
  · rw [if_pos c8] at h
    refine v_bipush F (v := (-5)) (dq dkX11_bar_0 4 rfl) kb_m5 ?_
    cases h
    exact v_iret F E (dq dkX11_bar_0 5 rfl)
def rm_X11_isTree : Room := { frames := 2, cells := 0, slots := 0, locals := 52 }
def f_X11_isTree (y : MS) (a1 : Int32) : Bool := (f_X11_in a1 0 ((gi y 61 10) - 1))
set_option maxRecDepth 100000 in
set_option maxHeartbeats 4000000 in
theorem c_X11_isTree {K : KE} {l : Launch} (x : CS) (y : MS) (a1 : Int32) : MC K l yX11_isTree cX11_isTree 2 (some .boolean) rm_X11_isTree 0 0 [.ref (K.1 + 61), .int a1] (xf K x y) (xf K x y) (some (.int (b2i (f_X11_isTree y a1)))) := by
  refine mc_of (ls0 := [(0, .ref (K.1 + 61)), (1, .int a1)]) (by decide) (Nat.le_of_ble_eq_true rfl) rfl (fun C hl F E => ?_)
  have F : Fx C RX11 cX11_isTree 2 rm_X11_isTree K := F
  obtain ⟨R, h⟩ : ∃ R, f_X11_isTree y a1 = R := ⟨_, rfl⟩
  rw [h] at E
  unfold f_X11_isTree at h
  refine v_iload_n F (dq dkX11_isTree_0 0 rfl) rfl 1 rfl ?_
  refine v_iconst F (v := 0) (dq dkX11_isTree_0 1 rfl) ki_0 ?_
  refine v_aload_n F (dq dkX11_isTree_0 2 rfl) rfl 0 rfl ?_
  refine v_get F 61 (xn (by decide)) xc_61 rfl inlX11 10 (by decide) (tc16 _ (List.mem_of_getElem? (i := 17) rfl)) rfl rfl (dq dkX11_isTree_0 3 rfl) ?_
  refine v_iconst F (v := 1) (dq dkX11_isTree_0 4 rfl) ki_1 ?_
  refine v_isub F (dq dkX11_isTree_0 5 rfl) ?_
  refine v_callS 3 F (as := [.int a1, .int 0, .int ((gi y 61 10) - 1)]) (st := []) (st1 := (.int (b2i (f_X11_in a1 0 ((gi y 61 10) - 1))) :: [])) (res := (some (.int (b2i (f_X11_in a1 0 ((gi y 61 10) - 1)))))) (c_X11_in (l := C.2.1) a1 0 ((gi y 61 10) - 1)) (tc15 _ (List.mem_of_getElem? (i := 1) rfl)) (tc15 _ (List.mem_of_getElem? (i := 2) rfl)) (tc1 _ (List.mem_of_getElem? (i := 5) rfl)) (tc15 _ (List.mem_of_getElem? (i := 3) rfl)) (by decide) rfl ⟨rfl, rfl, Nat.le_of_ble_eq_true rfl, Nat.le_of_ble_eq_true rfl⟩ ⟨Nat.le_of_ble_eq_true rfl, Nat.le_of_ble_eq_true rfl⟩ rfl (Nat.le_of_ble_eq_true rfl) rfl rfl rfl (dq dkX11_isTree_0 6 rfl) ?_
  cases h
  exact v_zret F E (b2i_n (f_X11_in a1 0 ((gi y 61 10) - 1))) (dq dkX11_isTree_0 7 rfl)
def rm_X11_tree : Room := { frames := 2, cells := 0, slots := 0, locals := 52 }
def f_X11_tree_41 (y : MS) : Option (Int32 × MS) := some ((-2), y)
set_option maxRecDepth 100000 in
set_option maxHeartbeats 4000000 in
theorem t_X11_tree_41 {C : Cx} {K : KE} {x : CS} {R : Int32 × MS}  (y : MS) (h : f_X11_tree_41 y = some R) (F : Fx C RX11 cX11_tree 8 rm_X11_tree K) (E : CE C (xf K x R.2) (some (.int R.1)) 0 0 (some .int)) : V C 41 [] [] (xf K x y) 0 0 := by
  unfold f_X11_tree_41 at h
  refine v_bipush F (v := (-2)) (dq dkX11_tree_0 20 rfl) kb_m2 ?_
  cases h
  exact v_iret F E (dq dkX11_tree_0 21 rfl)
def f_X11_tree_157 (y : MS) : Option (Int32 × MS) := some ((-2), y)
set_option maxRecDepth 100000 in
set_option maxHeartbeats 4000000 in
theorem t_X11_tree_157 {C : Cx} {K : KE} {x : CS} {R : Int32 × MS}  (y : MS) (h : f_X11_tree_157 y = some R) (F : Fx C RX11 cX11_tree 8 rm_X11_tree K) (E : CE C (xf K x R.2) (some (.int R.1)) 0 0 (some .int)) : V C 157 [] [] (xf K x y) 0 0 := by
  unfold f_X11_tree_157 at h
  refine v_bipush F (v := (-2)) (dq dkX11_tree_2 2 rfl) kb_m2 ?_
  cases h
  exact v_iret F E (dq dkX11_tree_2 3 rfl)
def f_X11_tree_205 : Nat → MS → Int32 → Int32 → Option (Int32 × MS)
  | 0, _, _, _ => none
  | n + 1, y, a4, a7 => if 5 ≤ a7 then (gd (ib (gi y 61 10) 6) (some ((gi (pi (pi y 70 ((gi y 61 10).toNatClampNeg) (-1)) 61 10 ((gi (pi y 70 ((gi y 61 10).toNatClampNeg) (-1)) 61 10) + 1)) 61 10) - 1, pi (pi y 70 ((gi y 61 10).toNatClampNeg) (-1)) 61 10 ((gi (pi y 70 ((gi y 61 10).toNatClampNeg) (-1)) 61 10) + 1)))) else (gd (ib ((40 * a4) + a7) 160) (gd (ib ((5 * (gi y 61 10)) + a7) 30) ((f_X11_tree_205 n) (pi y 69 (((5 * (gi y 61 10)) + a7).toNatClampNeg) (gi y 79 ((40 * a4) + a7).toNatClampNeg)) a4 (a7 + 1))))
set_option maxRecDepth 100000 in
set_option maxHeartbeats 4000000 in
theorem t_X11_tree_205 {C : Cx} {K : KE} {x : CS} {R : Int32 × MS}  (F : Fx C RX11 cX11_tree 8 rm_X11_tree K) (E : CE C (xf K x R.2) (some (.int R.1)) 0 0 (some .int)) : ∀ (n : Nat) (y : MS) (a4 : Int32) (a7 : Int32) (h : f_X11_tree_205 n y a4 a7 = some R), V C 205 [(0, .ref (K.1 + 61)), (4, .int a4), (7, .int a7)] [] (xf K x y) 0 0 := by
  intro n
  induction n with
  | zero => intro y a4 a7 h; cases h
  | succ n ih =>
    intro y a4 a7 h
    rw [f_X11_tree_205] at h
    refine v_iload F (dq dkX11_tree_2 30 rfl) 2 rfl ?_
    refine v_iconst F (v := 5) (dq dkX11_tree_2 31 rfl) ki_5 ?_
    refine v_icmp_ge F (tgt := 244) (dq dkX11_tree_2 32 rfl) (by decide) (fun c1 => ?_) (fun c1 => ?_)
    · rw [if_pos c1] at h
      refine v_aload_n F (dq dkX11_tree_3 12 rfl) rfl 0 rfl ?_
      refine v_get F 61 (xn (by decide)) xc_61 rfl inlX11 15 (by decide) (tc12 _ (List.mem_of_getElem? (i := 4) rfl)) rfl rfl (dq dkX11_tree_3 13 rfl) ?_
      refine v_aload_n F (dq dkX11_tree_3 14 rfl) rfl 0 rfl ?_
      refine v_get F 61 (xn (by decide)) xc_61 rfl inlX11 10 (by decide) (tc16 _ (List.mem_of_getElem? (i := 17) rfl)) rfl rfl (dq dkX11_tree_3 15 rfl) ?_
      refine v_iconst F (v := (-1)) (dq dkX11_tree_3 16 rfl) ki_m1 ?_
      obtain ⟨g2, h⟩ := gd_of h
      refine v_iast F 70 (xn (by decide)) xc_70 (ib_in g2) (dq dkX11_tree_3 17 rfl) ?_
      refine v_eqM (xwM (q := 70) (j := (gi y 61 10).toNatClampNeg) (v := (-1)) (by decide) (by decide) rfl) ?_
      refine v_aload_n F (dq dkX11_tree_3 18 rfl) rfl 0 rfl ?_
      refine v_dup F (dq dkX11_tree_3 19 rfl) rfl ?_
      refine v_get F 61 (xn (by decide)) xc_61 rfl inlX11 10 (by decide) (tc16 _ (List.mem_of_getElem? (i := 17) rfl)) rfl rfl (dq dkX11_tree_3 20 rfl) ?_
      refine v_iconst F (v := 1) (dq dkX11_tree_3 21 rfl) ki_1 ?_
      refine v_iadd F (dq dkX11_tree_3 22 rfl) ?_
      refine v_put F 61 (xn (by decide)) xc_61 rfl inlX11 tyX11_ok nmX11 10 (by decide) (tc16 _ (List.mem_of_getElem? (i := 17) rfl)) rfl rfl (tyX11_ok 10 (by decide)) rfl rfl (Nat.le_of_ble_eq_true rfl) (dq dkX11_tree_3 23 rfl) ?_
      refine v_eqM (xwM (q := 61) (j := 10) (v := (gi (pi y 70 ((gi y 61 10).toNatClampNeg) (-1)) 61 10) + 1) (by decide) (by decide) rfl) ?_
      refine v_aload_n F (dq dkX11_tree_3 24 rfl) rfl 0 rfl ?_
      refine v_get F 61 (xn (by decide)) xc_61 rfl inlX11 10 (by decide) (tc16 _ (List.mem_of_getElem? (i := 17) rfl)) rfl rfl (dq dkX11_tree_3 25 rfl) ?_
      refine v_iconst F (v := 1) (dq dkX11_tree_3 26 rfl) ki_1 ?_
      refine v_isub F (dq dkX11_tree_3 27 rfl) ?_
      cases h
      exact v_iret F E (dq dkX11_tree_3 28 rfl)
    · rw [if_neg c1] at h
      refine v_aload_n F (dq dkX11_tree_2 33 rfl) rfl 0 rfl ?_
      refine v_get F 61 (xn (by decide)) xc_61 rfl inlX11 14 (by decide) (tc12 _ (List.mem_of_getElem? (i := 3) rfl)) rfl rfl (dq dkX11_tree_2 34 rfl) ?_
      refine v_iconst F (v := 5) (dq dkX11_tree_2 35 rfl) ki_5 ?_
      refine v_aload_n F (dq dkX11_tree_2 36 rfl) rfl 0 rfl ?_
      refine v_get F 61 (xn (by decide)) xc_61 rfl inlX11 10 (by decide) (tc16 _ (List.mem_of_getElem? (i := 17) rfl)) rfl rfl (dq dkX11_tree_2 37 rfl) ?_
      refine v_imul F (dq dkX11_tree_2 38 rfl) ?_
      refine v_iload F (dq dkX11_tree_2 39 rfl) 2 rfl ?_
      refine v_iadd F (dq dkX11_tree_3 0 rfl) ?_
      refine v_aload_n F (dq dkX11_tree_3 1 rfl) rfl 0 rfl ?_
      refine v_get F 61 (xn (by decide)) xc_61 rfl inlX11 30 (by decide) (tc12 _ (List.mem_of_getElem? (i := 14) rfl)) rfl rfl (dq dkX11_tree_3 2 rfl) ?_
      refine v_bipush F (v := 40) (dq dkX11_tree_3 3 rfl) kb_40 ?_
      refine v_iload F (dq dkX11_tree_3 4 rfl) 1 rfl ?_
      refine v_imul F (dq dkX11_tree_3 5 rfl) ?_
      refine v_iload F (dq dkX11_tree_3 6 rfl) 2 rfl ?_
      refine v_iadd F (dq dkX11_tree_3 7 rfl) ?_
      obtain ⟨g3, h⟩ := gd_of h
      refine v_iald F 79 (xn (by decide)) xc_79 (ib_in g3) (dq dkX11_tree_3 8 rfl) ?_
      obtain ⟨g4, h⟩ := gd_of h
      refine v_iast F 69 (xn (by decide)) xc_69 (ib_in g4) (dq dkX11_tree_3 9 rfl) ?_
      refine v_eqM (xwM (q := 69) (j := ((5 * (gi y 61 10)) + a7).toNatClampNeg) (v := gi y 79 ((40 * a4) + a7).toNatClampNeg) (by decide) (by decide) rfl) ?_
      refine v_iinc F (v := a7 + 1) (ls' := [(7, .int (a7 + 1)), (0, .ref (K.1 + 61)), (4, .int a4)]) (dq dkX11_tree_3 10 rfl) (j := 2) rfl (kv_add ki_1) (by decide) rfl ?_
      refine v_goto F (tgt := 205) (dq dkX11_tree_3 11 rfl) (by decide) ?_
      refine v_sub [1, 2, 0] rfl ?_
      exact ih (pi y 69 (((5 * (gi y 61 10)) + a7).toNatClampNeg) (gi y 79 ((40 * a4) + a7).toNatClampNeg)) a4 (a7 + 1) h
def f_X11_tree_147 (y : MS) (a1 : Int32) (a2 : Int32) (a3 : Int32) (a4 : Int32) (a5 : Int32) (a6 : Int32) : Option (Int32 × MS) := if a5 = 0 then (f_X11_tree_157 y) else (if a6 = 0 then (f_X11_tree_157 y) else (if (gi y 61 10) = 6 then (some ((-4), y)) else (gd (ib (gi y 61 10) 6) (gd (ib (gi (pi y 66 ((gi y 61 10).toNatClampNeg) a1) 61 10) 6) (gd (ib (gi (pi (pi y 66 ((gi y 61 10).toNatClampNeg) a1) 67 ((gi (pi y 66 ((gi y 61 10).toNatClampNeg) a1) 61 10).toNatClampNeg) a2) 61 10) 6) (f_X11_tree_205 1000 (pi (pi (pi y 66 ((gi y 61 10).toNatClampNeg) a1) 67 ((gi (pi y 66 ((gi y 61 10).toNatClampNeg) a1) 61 10).toNatClampNeg) a2) 68 ((gi (pi (pi y 66 ((gi y 61 10).toNatClampNeg) a1) 67 ((gi (pi y 66 ((gi y 61 10).toNatClampNeg) a1) 61 10).toNatClampNeg) a2) 61 10).toNatClampNeg) a3) a4 0))))))
set_option maxRecDepth 100000 in
set_option maxHeartbeats 4000000 in
theorem t_X11_tree_147 {C : Cx} {K : KE} {x : CS} {R : Int32 × MS}  (y : MS) (a1 : Int32) (a2 : Int32) (a3 : Int32) (a4 : Int32) (a5 : Int32) (a6 : Int32) (h : f_X11_tree_147 y a1 a2 a3 a4 a5 a6 = some R) (F : Fx C RX11 cX11_tree 8 rm_X11_tree K) (E : CE C (xf K x R.2) (some (.int R.1)) 0 0 (some .int)) : V C 147 [(0, .ref (K.1 + 61)), (1, .int a1), (2, .int a2), (3, .int a3), (4, .int a4), (5, .int a5), (6, .int a6)] [] (xf K x y) 0 0 := by
  unfold f_X11_tree_147 at h
  refine v_iload F (dq dkX11_tree_1 38 rfl) 5 rfl ?_
  refine v_if_eq F (tgt := 157) (dq dkX11_tree_1 39 rfl) (by decide) (fun c5 => ?_) (fun c5 => ?_)
  · rw [if_pos c5] at h
    refine v_sub [] rfl ?_
    exact t_X11_tree_157 y h F E
  · rw [if_neg c5] at h
    refine v_iload F (dq dkX11_tree_2 0 rfl) 6 rfl ?_
    refine v_if_ne F (tgt := 160) (dq dkX11_tree_2 1 rfl) (by decide) (fun c6 => ?_) (fun c6 => ?_)
    · rw [if_neg c6] at h
      refine v_aload_n F (dq dkX11_tree_2 4 rfl) rfl 0 rfl ?_
      refine v_get F 61 (xn (by decide)) xc_61 rfl inlX11 10 (by decide) (tc16 _ (List.mem_of_getElem? (i := 17) rfl)) rfl rfl (dq dkX11_tree_2 5 rfl) ?_
      refine v_bipush F (v := 6) (dq dkX11_tree_2 6 rfl) kb_6 ?_
      refine v_icmp_ne F (tgt := 172) (dq dkX11_tree_2 7 rfl) (by decide) (fun c7 => ?_) (fun c7 => ?_)
      · rw [if_neg c7] at h
        refine v_aload_n F (dq dkX11_tree_2 10 rfl) rfl 0 rfl ?_
        refine v_get F 61 (xn (by decide)) xc_61 rfl inlX11 11 (by decide) (tc12 _ (List.mem_of_getElem? (i := 0) rfl)) rfl rfl (dq dkX11_tree_2 11 rfl) ?_
        refine v_aload_n F (dq dkX11_tree_2 12 rfl) rfl 0 rfl ?_
        refine v_get F 61 (xn (by decide)) xc_61 rfl inlX11 10 (by decide) (tc16 _ (List.mem_of_getElem? (i := 17) rfl)) rfl rfl (dq dkX11_tree_2 13 rfl) ?_
        refine v_iload_n F (dq dkX11_tree_2 14 rfl) rfl 1 rfl ?_
        obtain ⟨g8, h⟩ := gd_of h
        refine v_iast F 66 (xn (by decide)) xc_66 (ib_in g8) (dq dkX11_tree_2 15 rfl) ?_
        refine v_eqM (xwM (q := 66) (j := (gi y 61 10).toNatClampNeg) (v := a1) (by decide) (by decide) rfl) ?_
        refine v_aload_n F (dq dkX11_tree_2 16 rfl) rfl 0 rfl ?_
        refine v_get F 61 (xn (by decide)) xc_61 rfl inlX11 12 (by decide) (tc12 _ (List.mem_of_getElem? (i := 1) rfl)) rfl rfl (dq dkX11_tree_2 17 rfl) ?_
        refine v_aload_n F (dq dkX11_tree_2 18 rfl) rfl 0 rfl ?_
        refine v_get F 61 (xn (by decide)) xc_61 rfl inlX11 10 (by decide) (tc16 _ (List.mem_of_getElem? (i := 17) rfl)) rfl rfl (dq dkX11_tree_2 19 rfl) ?_
        refine v_iload_n F (dq dkX11_tree_2 20 rfl) rfl 2 rfl ?_
        obtain ⟨g9, h⟩ := gd_of h
        refine v_iast F 67 (xn (by decide)) xc_67 (ib_in g9) (dq dkX11_tree_2 21 rfl) ?_
        refine v_eqM (xwM (q := 67) (j := (gi (pi y 66 ((gi y 61 10).toNatClampNeg) a1) 61 10).toNatClampNeg) (v := a2) (by decide) (by decide) rfl) ?_
        refine v_aload_n F (dq dkX11_tree_2 22 rfl) rfl 0 rfl ?_
        refine v_get F 61 (xn (by decide)) xc_61 rfl inlX11 13 (by decide) (tc12 _ (List.mem_of_getElem? (i := 2) rfl)) rfl rfl (dq dkX11_tree_2 23 rfl) ?_
        refine v_aload_n F (dq dkX11_tree_2 24 rfl) rfl 0 rfl ?_
        refine v_get F 61 (xn (by decide)) xc_61 rfl inlX11 10 (by decide) (tc16 _ (List.mem_of_getElem? (i := 17) rfl)) rfl rfl (dq dkX11_tree_2 25 rfl) ?_
        refine v_iload_n F (dq dkX11_tree_2 26 rfl) rfl 3 rfl ?_
        obtain ⟨g10, h⟩ := gd_of h
        refine v_iast F 68 (xn (by decide)) xc_68 (ib_in g10) (dq dkX11_tree_2 27 rfl) ?_
        refine v_eqM (xwM (q := 68) (j := (gi (pi (pi y 66 ((gi y 61 10).toNatClampNeg) a1) 67 ((gi (pi y 66 ((gi y 61 10).toNatClampNeg) a1) 61 10).toNatClampNeg) a2) 61 10).toNatClampNeg) (v := a3) (by decide) (by decide) rfl) ?_
        refine v_iconst F (v := 0) (dq dkX11_tree_2 28 rfl) ki_0 ?_
        refine v_istore F (ls' := [(7, .int 0), (0, .ref (K.1 + 61)), (1, .int a1), (2, .int a2), (3, .int a3), (4, .int a4), (5, .int a5), (6, .int a6)]) (dq dkX11_tree_2 29 rfl) (by decide) rfl ?_
        refine v_sub [1, 5, 0] rfl ?_
        exact t_X11_tree_205 F E 1000 (pi (pi (pi y 66 ((gi y 61 10).toNatClampNeg) a1) 67 ((gi (pi y 66 ((gi y 61 10).toNatClampNeg) a1) 61 10).toNatClampNeg) a2) 68 ((gi (pi (pi y 66 ((gi y 61 10).toNatClampNeg) a1) 67 ((gi (pi y 66 ((gi y 61 10).toNatClampNeg) a1) 61 10).toNatClampNeg) a2) 61 10).toNatClampNeg) a3) a4 0 h
      · rw [if_pos c7] at h
        refine v_bipush F (v := (-4)) (dq dkX11_tree_2 8 rfl) kb_m4 ?_
        cases h
        exact v_iret F E (dq dkX11_tree_2 9 rfl)
    · rw [if_pos c6] at h
      refine v_sub [] rfl ?_
      exact t_X11_tree_157 y h F E
def f_X11_tree_138 (k82 : MS → Int32 → Int32 → Int32 → Int32 → Int32 → Int32 → Int32 → Option (Int32 × MS)) (y : MS) (a1 : Int32) (a2 : Int32) (a3 : Int32) (a4 : Int32) (a5 : Int32) (a7 : Int32) (s0 : Int32) (s1 : Int32) : Option (Int32 × MS) := k82 y a1 a2 a3 a4 a5 (s1 + s0) (a7 + 1)
set_option maxRecDepth 100000 in
set_option maxHeartbeats 4000000 in
theorem t_X11_tree_138 {C : Cx} {K : KE} {x : CS} {R : Int32 × MS}  (k82 : MS → Int32 → Int32 → Int32 → Int32 → Int32 → Int32 → Int32 → Option (Int32 × MS)) (y : MS) (a1 : Int32) (a2 : Int32) (a3 : Int32) (a4 : Int32) (a5 : Int32) (a7 : Int32) (s0 : Int32) (s1 : Int32) (hk82 : ∀ (y : MS) (a1 : Int32) (a2 : Int32) (a3 : Int32) (a4 : Int32) (a5 : Int32) (a6 : Int32) (a7 : Int32), k82 y a1 a2 a3 a4 a5 a6 a7 = some R → V C 82 [(0, .ref (K.1 + 61)), (1, .int a1), (2, .int a2), (3, .int a3), (4, .int a4), (5, .int a5), (6, .int a6), (7, .int a7)] [] (xf K x y) 0 0) (h : f_X11_tree_138 k82 y a1 a2 a3 a4 a5 a7 s0 s1 = some R) (F : Fx C RX11 cX11_tree 8 rm_X11_tree K) (E : CE C (xf K x R.2) (some (.int R.1)) 0 0 (some .int)) : V C 138 [(0, .ref (K.1 + 61)), (1, .int a1), (2, .int a2), (3, .int a3), (4, .int a4), (5, .int a5), (7, .int a7)] [.int s0, .int s1] (xf K x y) 0 0 := by
  unfold f_X11_tree_138 at h
  refine v_iadd F (dq dkX11_tree_1 34 rfl) ?_
  refine v_istore F (ls' := [(6, .int (s1 + s0)), (0, .ref (K.1 + 61)), (1, .int a1), (2, .int a2), (3, .int a3), (4, .int a4), (5, .int a5), (7, .int a7)]) (dq dkX11_tree_1 35 rfl) (by decide) rfl ?_
  refine v_iinc F (v := a7 + 1) (ls' := [(7, .int (a7 + 1)), (6, .int (s1 + s0)), (0, .ref (K.1 + 61)), (1, .int a1), (2, .int a2), (3, .int a3), (4, .int a4), (5, .int a5)]) (dq dkX11_tree_1 36 rfl) (j := 7) rfl (kv_add ki_1) (by decide) rfl ?_
  refine v_goto F (tgt := 82) (dq dkX11_tree_1 37 rfl) (by decide) ?_
  refine v_sub [2, 3, 4, 5, 6, 7, 1, 0] rfl ?_
  exact hk82 y a1 a2 a3 a4 a5 (s1 + s0) (a7 + 1) h
def f_X11_tree_82 : Nat → MS → Int32 → Int32 → Int32 → Int32 → Int32 → Int32 → Int32 → Option (Int32 × MS)
  | 0, _, _, _, _, _, _, _, _ => none
  | n + 1, y, a1, a2, a3, a4, a5, a6, a7 => if 5 ≤ a7 then (f_X11_tree_147 y a1 a2 a3 a4 a5 a6) else (if a5 = 0 then (f_X11_tree_147 y a1 a2 a3 a4 a5 a6) else (gd (ib ((40 * a4) + a7) 160) (if (b2i (f_X11_in (gi y 79 ((40 * a4) + a7).toNatClampNeg) 0 99)) = 0 then (f_X11_tree_138 (f_X11_tree_82 n) y a1 a2 a3 a4 (b2i (f_X11_in (gi y 79 ((40 * a4) + a7).toNatClampNeg) 0 99)) a7 0 a6) else (gd (ib ((40 * a4) + a7) 160) (f_X11_tree_138 (f_X11_tree_82 n) y a1 a2 a3 a4 (b2i (f_X11_in (gi y 79 ((40 * a4) + a7).toNatClampNeg) 0 99)) a7 (gi y 79 ((40 * a4) + a7).toNatClampNeg) a6)))))
set_option maxRecDepth 100000 in
set_option maxHeartbeats 4000000 in
theorem t_X11_tree_82 {C : Cx} {K : KE} {x : CS} {R : Int32 × MS}  (F : Fx C RX11 cX11_tree 8 rm_X11_tree K) (E : CE C (xf K x R.2) (some (.int R.1)) 0 0 (some .int)) : ∀ (n : Nat) (y : MS) (a1 : Int32) (a2 : Int32) (a3 : Int32) (a4 : Int32) (a5 : Int32) (a6 : Int32) (a7 : Int32) (h : f_X11_tree_82 n y a1 a2 a3 a4 a5 a6 a7 = some R), V C 82 [(0, .ref (K.1 + 61)), (1, .int a1), (2, .int a2), (3, .int a3), (4, .int a4), (5, .int a5), (6, .int a6), (7, .int a7)] [] (xf K x y) 0 0 := by
  intro n
  induction n with
  | zero => intro y a1 a2 a3 a4 a5 a6 a7 h; cases h
  | succ n ih =>
    intro y a1 a2 a3 a4 a5 a6 a7 h
    rw [f_X11_tree_82] at h
    refine v_iload F (dq dkX11_tree_1 4 rfl) 7 rfl ?_
    refine v_iconst F (v := 5) (dq dkX11_tree_1 5 rfl) ki_5 ?_
    refine v_icmp_ge F (tgt := 147) (dq dkX11_tree_1 6 rfl) (by decide) (fun c11 => ?_) (fun c11 => ?_)
    · rw [if_pos c11] at h
      refine v_sub [0, 1, 2, 3, 4, 5, 6] rfl ?_
      exact t_X11_tree_147 y a1 a2 a3 a4 a5 a6 h F E
    · rw [if_neg c11] at h
      refine v_iload F (dq dkX11_tree_1 7 rfl) 5 rfl ?_
      refine v_if_eq F (tgt := 147) (dq dkX11_tree_1 8 rfl) (by decide) (fun c12 => ?_) (fun c12 => ?_)
      · rw [if_pos c12] at h
        refine v_sub [0, 1, 2, 3, 4, 5, 6] rfl ?_
        exact t_X11_tree_147 y a1 a2 a3 a4 a5 a6 h F E
      · rw [if_neg c12] at h
        refine v_aload_n F (dq dkX11_tree_1 9 rfl) rfl 0 rfl ?_
        refine v_get F 61 (xn (by decide)) xc_61 rfl inlX11 30 (by decide) (tc12 _ (List.mem_of_getElem? (i := 14) rfl)) rfl rfl (dq dkX11_tree_1 10 rfl) ?_
        refine v_bipush F (v := 40) (dq dkX11_tree_1 11 rfl) kb_40 ?_
        refine v_iload F (dq dkX11_tree_1 12 rfl) 4 rfl ?_
        refine v_imul F (dq dkX11_tree_1 13 rfl) ?_
        refine v_iload F (dq dkX11_tree_1 14 rfl) 7 rfl ?_
        refine v_iadd F (dq dkX11_tree_1 15 rfl) ?_
        obtain ⟨g13, h⟩ := gd_of h
        refine v_iald F 79 (xn (by decide)) xc_79 (ib_in g13) (dq dkX11_tree_1 16 rfl) ?_
        refine v_iconst F (v := 0) (dq dkX11_tree_1 17 rfl) ki_0 ?_
        refine v_bipush F (v := 99) (dq dkX11_tree_1 18 rfl) kb_99 ?_
        refine v_callS 3 F (as := [.int (gi y 79 ((40 * a4) + a7).toNatClampNeg), .int 0, .int 99]) (st := []) (st1 := (.int (b2i (f_X11_in (gi y 79 ((40 * a4) + a7).toNatClampNeg) 0 99)) :: [])) (res := (some (.int (b2i (f_X11_in (gi y 79 ((40 * a4) + a7).toNatClampNeg) 0 99))))) (c_X11_in (l := C.2.1) (gi y 79 ((40 * a4) + a7).toNatClampNeg) 0 99) (tc15 _ (List.mem_of_getElem? (i := 1) rfl)) (tc15 _ (List.mem_of_getElem? (i := 2) rfl)) (tc1 _ (List.mem_of_getElem? (i := 5) rfl)) (tc15 _ (List.mem_of_getElem? (i := 3) rfl)) (by decide) rfl ⟨rfl, rfl, Nat.le_of_ble_eq_true rfl, Nat.le_of_ble_eq_true rfl⟩ ⟨Nat.le_of_ble_eq_true rfl, Nat.le_of_ble_eq_true rfl⟩ rfl (Nat.le_of_ble_eq_true rfl) rfl rfl rfl (dq dkX11_tree_1 19 rfl) ?_
        refine v_istore F (ls' := [(5, .int (b2i (f_X11_in (gi y 79 ((40 * a4) + a7).toNatClampNeg) 0 99))), (0, .ref (K.1 + 61)), (1, .int a1), (2, .int a2), (3, .int a3), (4, .int a4), (6, .int a6), (7, .int a7)]) (dq dkX11_tree_1 20 rfl) (by decide) rfl ?_
        refine v_iload F (dq dkX11_tree_1 21 rfl) 6 rfl ?_
        refine v_iload F (dq dkX11_tree_1 22 rfl) 0 rfl ?_
        refine v_if_eq F (tgt := 137) (dq dkX11_tree_1 23 rfl) (by decide) (fun c15 => ?_) (fun c15 => ?_)
        · rw [if_pos c15] at h
          refine v_iconst F (v := 0) (dq dkX11_tree_1 33 rfl) ki_0 ?_
          refine v_sub [1, 2, 3, 4, 5, 0, 7] rfl ?_
          exact t_X11_tree_138 (f_X11_tree_82 n) y a1 a2 a3 a4 (b2i (f_X11_in (gi y 79 ((40 * a4) + a7).toNatClampNeg) 0 99)) a7 0 a6 ih h F E
        · rw [if_neg c15] at h
          refine v_aload_n F (dq dkX11_tree_1 24 rfl) rfl 1 rfl ?_
          refine v_get F 61 (xn (by decide)) xc_61 rfl inlX11 30 (by decide) (tc12 _ (List.mem_of_getElem? (i := 14) rfl)) rfl rfl (dq dkX11_tree_1 25 rfl) ?_
          refine v_bipush F (v := 40) (dq dkX11_tree_1 26 rfl) kb_40 ?_
          refine v_iload F (dq dkX11_tree_1 27 rfl) 5 rfl ?_
          refine v_imul F (dq dkX11_tree_1 28 rfl) ?_
          refine v_iload F (dq dkX11_tree_1 29 rfl) 7 rfl ?_
          refine v_iadd F (dq dkX11_tree_1 30 rfl) ?_
          obtain ⟨g16, h⟩ := gd_of h
          refine v_iald F 79 (xn (by decide)) xc_79 (ib_in g16) (dq dkX11_tree_1 31 rfl) ?_
          refine v_goto F (tgt := 138) (dq dkX11_tree_1 32 rfl) (by decide) ?_
          refine v_sub [1, 2, 3, 4, 5, 0, 7] rfl ?_
          exact t_X11_tree_138 (f_X11_tree_82 n) y a1 a2 a3 a4 (b2i (f_X11_in (gi y 79 ((40 * a4) + a7).toNatClampNeg) 0 99)) a7 (gi y 79 ((40 * a4) + a7).toNatClampNeg) a6 ih h F E
def f_X11_tree_74 (y : MS) (a1 : Int32) (a2 : Int32) (a3 : Int32) (a4 : Int32) (s0 : Int32) : Option (Int32 × MS) := f_X11_tree_82 1000 y a1 a2 a3 a4 s0 0 0
set_option maxRecDepth 100000 in
set_option maxHeartbeats 4000000 in
theorem t_X11_tree_74 {C : Cx} {K : KE} {x : CS} {R : Int32 × MS}  (y : MS) (a1 : Int32) (a2 : Int32) (a3 : Int32) (a4 : Int32) (s0 : Int32) (h : f_X11_tree_74 y a1 a2 a3 a4 s0 = some R) (F : Fx C RX11 cX11_tree 8 rm_X11_tree K) (E : CE C (xf K x R.2) (some (.int R.1)) 0 0 (some .int)) : V C 74 [(0, .ref (K.1 + 61)), (1, .int a1), (2, .int a2), (3, .int a3), (4, .int a4)] [.int s0] (xf K x y) 0 0 := by
  unfold f_X11_tree_74 at h
  refine v_istore F (ls' := [(5, .int s0), (0, .ref (K.1 + 61)), (1, .int a1), (2, .int a2), (3, .int a3), (4, .int a4)]) (dq dkX11_tree_0 39 rfl) (by decide) rfl ?_
  refine v_iconst F (v := 0) (dq dkX11_tree_1 0 rfl) ki_0 ?_
  refine v_istore F (ls' := [(6, .int 0), (5, .int s0), (0, .ref (K.1 + 61)), (1, .int a1), (2, .int a2), (3, .int a3), (4, .int a4)]) (dq dkX11_tree_1 1 rfl) (by decide) rfl ?_
  refine v_iconst F (v := 0) (dq dkX11_tree_1 2 rfl) ki_0 ?_
  refine v_istore F (ls' := [(7, .int 0), (6, .int 0), (5, .int s0), (0, .ref (K.1 + 61)), (1, .int a1), (2, .int a2), (3, .int a3), (4, .int a4)]) (dq dkX11_tree_1 3 rfl) (by decide) rfl ?_
  refine v_sub [3, 4, 5, 6, 7, 2, 1, 0] rfl ?_
  exact t_X11_tree_82 F E 1000 y a1 a2 a3 a4 s0 0 0 h
def f_X11_tree (y : MS) (a1 : Int32) (a2 : Int32) (a3 : Int32) (a4 : Int32) : Option (Int32 × MS) := if (b2i (f_X11_in a1 1 99)) = 0 then (f_X11_tree_41 y) else (if (b2i (f_X11_in a2 (-9) 9)) = 0 then (f_X11_tree_41 y) else (if (b2i (f_X11_in a3 0 9)) = 0 then (f_X11_tree_41 y) else (if (b2i (f_X11_in a4 0 3)) = 0 then (f_X11_tree_41 y) else (gd (ib a4 4) (if (gi y 77 a4.toNatClampNeg) = (-1) then (some ((-11), y)) else (gd (ib a4 4) (if (gi y 78 a4.toNatClampNeg) = 5 then (f_X11_tree_74 y a1 a2 a3 a4 1) else (f_X11_tree_74 y a1 a2 a3 a4 0))))))))
set_option maxRecDepth 100000 in
set_option maxHeartbeats 4000000 in
theorem c_X11_tree {K : KE} {l : Launch} {R : Int32 × MS} (x : CS) (y : MS) (a1 : Int32) (a2 : Int32) (a3 : Int32) (a4 : Int32) (h : f_X11_tree y a1 a2 a3 a4 = some R) : MC K l yX11_tree cX11_tree 8 (some .int) rm_X11_tree 0 0 [.ref (K.1 + 61), .int a1, .int a2, .int a3, .int a4] (xf K x y) (xf K x R.2) (some (.int R.1)) := by
  refine mc_of (ls0 := [(0, .ref (K.1 + 61)), (1, .int a1), (2, .int a2), (3, .int a3), (4, .int a4)]) (by decide) (Nat.le_of_ble_eq_true rfl) rfl (fun C hl F E => ?_)
  have F : Fx C RX11 cX11_tree 8 rm_X11_tree K := F
  unfold f_X11_tree at h
  refine v_iload_n F (dq dkX11_tree_0 0 rfl) rfl 1 rfl ?_
  refine v_iconst F (v := 1) (dq dkX11_tree_0 1 rfl) ki_1 ?_
  refine v_bipush F (v := 99) (dq dkX11_tree_0 2 rfl) kb_99 ?_
  refine v_callS 3 F (as := [.int a1, .int 1, .int 99]) (st := []) (st1 := (.int (b2i (f_X11_in a1 1 99)) :: [])) (res := (some (.int (b2i (f_X11_in a1 1 99))))) (c_X11_in (l := C.2.1) a1 1 99) (tc15 _ (List.mem_of_getElem? (i := 1) rfl)) (tc15 _ (List.mem_of_getElem? (i := 2) rfl)) (tc1 _ (List.mem_of_getElem? (i := 5) rfl)) (tc15 _ (List.mem_of_getElem? (i := 3) rfl)) (by decide) rfl ⟨rfl, rfl, Nat.le_of_ble_eq_true rfl, Nat.le_of_ble_eq_true rfl⟩ ⟨Nat.le_of_ble_eq_true rfl, Nat.le_of_ble_eq_true rfl⟩ rfl (Nat.le_of_ble_eq_true rfl) rfl rfl rfl (dq dkX11_tree_0 3 rfl) ?_
  refine v_if_eq F (tgt := 41) (dq dkX11_tree_0 4 rfl) (by decide) (fun c18 => ?_) (fun c18 => ?_)
  · rw [if_pos c18] at h
    refine v_sub [] rfl ?_
    exact t_X11_tree_41 y h F E
  · rw [if_neg c18] at h
    refine v_iload_n F (dq dkX11_tree_0 5 rfl) rfl 2 rfl ?_
    refine v_bipush F (v := (-9)) (dq dkX11_tree_0 6 rfl) kb_m9 ?_
    refine v_bipush F (v := 9) (dq dkX11_tree_0 7 rfl) kb_9 ?_
    refine v_callS 3 F (as := [.int a2, .int (-9), .int 9]) (st := []) (st1 := (.int (b2i (f_X11_in a2 (-9) 9)) :: [])) (res := (some (.int (b2i (f_X11_in a2 (-9) 9))))) (c_X11_in (l := C.2.1) a2 (-9) 9) (tc15 _ (List.mem_of_getElem? (i := 1) rfl)) (tc15 _ (List.mem_of_getElem? (i := 2) rfl)) (tc1 _ (List.mem_of_getElem? (i := 5) rfl)) (tc15 _ (List.mem_of_getElem? (i := 3) rfl)) (by decide) rfl ⟨rfl, rfl, Nat.le_of_ble_eq_true rfl, Nat.le_of_ble_eq_true rfl⟩ ⟨Nat.le_of_ble_eq_true rfl, Nat.le_of_ble_eq_true rfl⟩ rfl (Nat.le_of_ble_eq_true rfl) rfl rfl rfl (dq dkX11_tree_0 8 rfl) ?_
    refine v_if_eq F (tgt := 41) (dq dkX11_tree_0 9 rfl) (by decide) (fun c20 => ?_) (fun c20 => ?_)
    · rw [if_pos c20] at h
      refine v_sub [] rfl ?_
      exact t_X11_tree_41 y h F E
    · rw [if_neg c20] at h
      refine v_iload_n F (dq dkX11_tree_0 10 rfl) rfl 3 rfl ?_
      refine v_iconst F (v := 0) (dq dkX11_tree_0 11 rfl) ki_0 ?_
      refine v_bipush F (v := 9) (dq dkX11_tree_0 12 rfl) kb_9 ?_
      refine v_callS 3 F (as := [.int a3, .int 0, .int 9]) (st := []) (st1 := (.int (b2i (f_X11_in a3 0 9)) :: [])) (res := (some (.int (b2i (f_X11_in a3 0 9))))) (c_X11_in (l := C.2.1) a3 0 9) (tc15 _ (List.mem_of_getElem? (i := 1) rfl)) (tc15 _ (List.mem_of_getElem? (i := 2) rfl)) (tc1 _ (List.mem_of_getElem? (i := 5) rfl)) (tc15 _ (List.mem_of_getElem? (i := 3) rfl)) (by decide) rfl ⟨rfl, rfl, Nat.le_of_ble_eq_true rfl, Nat.le_of_ble_eq_true rfl⟩ ⟨Nat.le_of_ble_eq_true rfl, Nat.le_of_ble_eq_true rfl⟩ rfl (Nat.le_of_ble_eq_true rfl) rfl rfl rfl (dq dkX11_tree_0 13 rfl) ?_
      refine v_if_eq F (tgt := 41) (dq dkX11_tree_0 14 rfl) (by decide) (fun c22 => ?_) (fun c22 => ?_)
      · rw [if_pos c22] at h
        refine v_sub [] rfl ?_
        exact t_X11_tree_41 y h F E
      · rw [if_neg c22] at h
        refine v_iload F (dq dkX11_tree_0 15 rfl) 4 rfl ?_
        refine v_iconst F (v := 0) (dq dkX11_tree_0 16 rfl) ki_0 ?_
        refine v_iconst F (v := 3) (dq dkX11_tree_0 17 rfl) ki_3 ?_
        refine v_callS 3 F (as := [.int a4, .int 0, .int 3]) (st := []) (st1 := (.int (b2i (f_X11_in a4 0 3)) :: [])) (res := (some (.int (b2i (f_X11_in a4 0 3))))) (c_X11_in (l := C.2.1) a4 0 3) (tc15 _ (List.mem_of_getElem? (i := 1) rfl)) (tc15 _ (List.mem_of_getElem? (i := 2) rfl)) (tc1 _ (List.mem_of_getElem? (i := 5) rfl)) (tc15 _ (List.mem_of_getElem? (i := 3) rfl)) (by decide) rfl ⟨rfl, rfl, Nat.le_of_ble_eq_true rfl, Nat.le_of_ble_eq_true rfl⟩ ⟨Nat.le_of_ble_eq_true rfl, Nat.le_of_ble_eq_true rfl⟩ rfl (Nat.le_of_ble_eq_true rfl) rfl rfl rfl (dq dkX11_tree_0 18 rfl) ?_
        refine v_if_ne F (tgt := 44) (dq dkX11_tree_0 19 rfl) (by decide) (fun c24 => ?_) (fun c24 => ?_)
        · rw [if_neg c24] at h
          refine v_aload_n F (dq dkX11_tree_0 22 rfl) rfl 0 rfl ?_
          refine v_get F 61 (xn (by decide)) xc_61 rfl inlX11 28 (by decide) (tc12 _ (List.mem_of_getElem? (i := 12) rfl)) rfl rfl (dq dkX11_tree_0 23 rfl) ?_
          refine v_iload F (dq dkX11_tree_0 24 rfl) 4 rfl ?_
          obtain ⟨g25, h⟩ := gd_of h
          refine v_iald F 77 (xn (by decide)) xc_77 (ib_in g25) (dq dkX11_tree_0 25 rfl) ?_
          refine v_iconst F (v := (-1)) (dq dkX11_tree_0 26 rfl) ki_m1 ?_
          refine v_icmp_ne F (tgt := 58) (dq dkX11_tree_0 27 rfl) (by decide) (fun c26 => ?_) (fun c26 => ?_)
          · rw [if_neg c26] at h
            refine v_aload_n F (dq dkX11_tree_0 30 rfl) rfl 0 rfl ?_
            refine v_get F 61 (xn (by decide)) xc_61 rfl inlX11 29 (by decide) (tc12 _ (List.mem_of_getElem? (i := 13) rfl)) rfl rfl (dq dkX11_tree_0 31 rfl) ?_
            refine v_iload F (dq dkX11_tree_0 32 rfl) 4 rfl ?_
            obtain ⟨g27, h⟩ := gd_of h
            refine v_iald F 78 (xn (by decide)) xc_78 (ib_in g27) (dq dkX11_tree_0 33 rfl) ?_
            refine v_iconst F (v := 5) (dq dkX11_tree_0 34 rfl) ki_5 ?_
            refine v_icmp_ne F (tgt := 73) (dq dkX11_tree_0 35 rfl) (by decide) (fun c28 => ?_) (fun c28 => ?_)
            · rw [if_neg c28] at h
              refine v_iconst F (v := 0) (dq dkX11_tree_0 38 rfl) ki_0 ?_
              exact t_X11_tree_74 y a1 a2 a3 a4 0 h F E
            · rw [if_pos c28] at h
              refine v_iconst F (v := 1) (dq dkX11_tree_0 36 rfl) ki_1 ?_
              refine v_goto F (tgt := 74) (dq dkX11_tree_0 37 rfl) (by decide) ?_
              exact t_X11_tree_74 y a1 a2 a3 a4 1 h F E
          · rw [if_pos c26] at h
            refine v_bipush F (v := (-11)) (dq dkX11_tree_0 28 rfl) kb_m11 ?_
            cases h
            exact v_iret F E (dq dkX11_tree_0 29 rfl)
        · rw [if_pos c24] at h
          refine v_sub [] rfl ?_
          exact t_X11_tree_41 y h F E
