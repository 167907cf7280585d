def rm_X10_hole : Room := { frames := 7, cells := 1009, slots := 2018, locals := 175 }
def f_X10_hole_49 (k14 : CS → Int32 → Option Nat → Int32 → Option (Int32 × CS)) (x : CS) (a1 : Int32) (a2 : Option Nat) (a3 : Int32) : Option (Int32 × CS) := oc a2 (k14 x a1 none (a3 + 1)) (fun za2 => k14 x a1 (some za2) (a3 + 1))
set_option maxRecDepth 100000 in
set_option maxHeartbeats 4000000 in
theorem t_X10_hole_49 {C : Cx} {K : KE} {y : MS} {R : Int32 × CS}  (k14 : CS → Int32 → Option Nat → Int32 → Option (Int32 × CS)) (x : CS) (a1 : Int32) (a2 : Option Nat) (a3 : Int32) (Ak14 Bk14 : Nat) (hk14 : ∀ (x : CS) (a1 : Int32) (a2 : Option Nat) (a3 : Int32) (kc ks : Nat), kc + Ak14 ≤ 1009 → ks + Bk14 ≤ 2018 → k14 x a1 a2 a3 = some R → V C 14 [(0, .ref (K.1 + 0)), (1, .int a1), (2, va_rf (a2.map (fun q => K.1 + q))), (3, .int a3)] [] (xf K x y) kc ks) (kc ks : Nat) (hkc : kc + (0 + Ak14) ≤ 1009) (hks : ks + (0 + Bk14) ≤ 2018) (h : f_X10_hole_49 k14 x a1 a2 a3 = some R) (F : Fx C RX10 cX10_hole 5 rm_X10_hole K) (E : CE C (xf K R.2 y) (some (.int R.1)) 1009 2018 (some .int)) : V C 49 [(0, .ref (K.1 + 0)), (1, .int a1), (2, va_rf (a2.map (fun q => K.1 + q))), (3, .int a3)] [] (xf K x y) kc ks := by
  unfold f_X10_hole_49 at h
  rcases a2 with _ | za2
  · have h := oc_nh h
    refine v_iinc F (v := a3 + 1) (ls' := [(3, .int (a3 + 1)), (0, .ref (K.1 + 0)), (1, .int a1), (2, .null)]) (dq dkX10_hole_0 28 rfl) (j := 3) rfl (kv_add ki_1) (by decide) rfl ?_
    refine v_goto F (tgt := 14) (dq dkX10_hole_0 29 rfl) (by decide) ?_
    refine v_sub [1, 2, 3, 0] rfl ?_
    exact hk14 x a1 none (a3 + 1) (kc) (ks) (by omega) (by omega) h
  · have h := oc_sh h
    refine v_iinc F (v := a3 + 1) (ls' := [(3, .int (a3 + 1)), (0, .ref (K.1 + 0)), (1, .int a1), (2, .ref (K.1 + za2))]) (dq dkX10_hole_0 28 rfl) (j := 3) rfl (kv_add ki_1) (by decide) rfl ?_
    refine v_goto F (tgt := 14) (dq dkX10_hole_0 29 rfl) (by decide) ?_
    refine v_sub [1, 2, 3, 0] rfl ?_
    exact hk14 x a1 (some za2) (a3 + 1) (kc) (ks) (by omega) (by omega) h
def f_X10_hole_14 : Nat → CS → Int32 → Option Nat → Int32 → Option (Int32 × CS)
  | 0, _, _, _, _ => none
  | n + 1, x, a1, a2, a3 => oc a2 (if (gi x 34 1) ≤ a3 then (some (a1, x)) else ((f_X1_holeWorth x a3).bind fun (r2o, r2x) => oc r2o none (fun s4 => none))) (fun za2 => if (gi x 34 1) ≤ a3 then (some (a1, x)) else ((f_X1_holeWorth x a3).bind fun (r6o, r6x) => oc r6o none (fun s8 => (f_X0_isAbove r6x s8 za2).bind fun r9 => if (b2i r9) = 0 then (f_X10_hole_49 (f_X10_hole_14 n) r6x a1 (some za2) a3) else (f_X10_hole_49 (f_X10_hole_14 n) r6x a3 (some s8) a3))))
set_option maxRecDepth 100000 in
set_option maxHeartbeats 4000000 in
theorem t_X10_hole_14 {C : Cx} {K : KE} {y : MS} {R : Int32 × CS}  (F : Fx C RX10 cX10_hole 5 rm_X10_hole K) (E : CE C (xf K R.2 y) (some (.int R.1)) 1009 2018 (some .int)) : ∀ (n : Nat) (x : CS) (a1 : Int32) (a2 : Option Nat) (a3 : Int32) (kc ks : Nat) (hkc : kc + ((126 * n + 126)) ≤ 1009) (hks : ks + ((252 * n + 252)) ≤ 2018) (h : f_X10_hole_14 n x a1 a2 a3 = some R), V C 14 [(0, .ref (K.1 + 0)), (1, .int a1), (2, va_rf (a2.map (fun q => K.1 + q))), (3, .int a3)] [] (xf K x y) kc ks := by
  intro n
  induction n with
  | zero => intro x a1 a2 a3 kc ks hkc hks h; cases h
  | succ n ih =>
    intro x a1 a2 a3 kc ks hkc hks h
    rw [f_X10_hole_14] at h
    rcases a2 with _ | za2
    · have h := oc_nh h
      refine v_iload_n F (dq dkX10_hole_0 10 rfl) rfl 3 rfl ?_
      refine v_aload_n F (dq dkX10_hole_0 11 rfl) rfl 0 rfl ?_
      refine v_get F 0 (xn (by decide)) xc_0 rfl inlX10 4 (by decide) (tc2 _ (List.mem_of_getElem? (i := 8) rfl)) rfl rfl (dq dkX10_hole_0 12 rfl) ?_
      refine v_getN F 34 (xn (by decide)) xc_34 rfl inlX1 1 (by decide) (List.mem_of_getElem? (i := 7) rfl) rfl rfl (dq dkX10_hole_0 13 rfl) ?_
      refine v_icmp_ge F (tgt := 55) (dq dkX10_hole_0 14 rfl) (by decide) (fun c1 => ?_) (fun c1 => ?_)
      · rw [if_pos c1] at h
        refine v_iload_n F (dq dkX10_hole_0 30 rfl) rfl 1 rfl ?_
        have h := Option.some.inj h
        subst h
        refine v_wide (kc' := 1009) (ks1 := 2018) (by omega) (by omega) ?_
        exact v_iret F E (dq dkX10_hole_0 31 rfl)
      · rw [if_neg c1] at h
        refine v_aload_n F (dq dkX10_hole_0 15 rfl) rfl 0 rfl ?_
        refine v_get F 0 (xn (by decide)) xc_0 rfl inlX10 4 (by decide) (tc2 _ (List.mem_of_getElem? (i := 8) rfl)) rfl rfl (dq dkX10_hole_0 16 rfl) ?_
        refine v_iload_n F (dq dkX10_hole_0 17 rfl) rfl 3 rfl ?_
        obtain ⟨r2, e3, h⟩ := bd_of h
        obtain ⟨r2o, r2x⟩ := r2
        dsimp only at h
        refine v_callV 1 F (q := 34) (kc1 := kc + 126) (ks1 := ks + 252) (as := [.int a3]) (st := []) (st1 := (va_rf (r2o.map (fun q => K.1 + q)) :: [])) (res := (some (va_rf (r2o.map (fun q => K.1 + q))))) (c_X1_holeWorth (l := C.2.1) x y a3 e3) (xn (by decide)) xc_34 rfl (tc46 _ (List.mem_of_getElem? (i := 20) rfl)) (tc46 _ (List.mem_of_getElem? (i := 21) rfl)) (tc46 _ (List.mem_of_getElem? (i := 22) rfl)) (tc2 _ (List.mem_of_getElem? (i := 7) rfl)) (tc46 _ (List.mem_of_getElem? (i := 23) rfl)) (by decide) rfl ⟨rfl, rfl, Nat.le_of_ble_eq_true rfl, Nat.le_of_ble_eq_true rfl⟩ ⟨by show kc + 126 ≤ 1009; omega, by show ks + 252 ≤ 2018; omega⟩ rfl (Nat.le_of_ble_eq_true rfl) rfl rfl rfl (dq dkX10_hole_0 18 rfl) ?_
        rcases r2o with _ | s4
        · have h := oc_nh h
          refine v_astoreN F (ls' := [(4, .null), (0, .ref (K.1 + 0)), (1, .int a1), (2, .null), (3, .int a3)]) (dq dkX10_hole_0 19 rfl) (by decide) rfl ?_
          refine v_aloadN F (dq dkX10_hole_0 20 rfl) 0 rfl ?_
          refine v_aload_nN F (dq dkX10_hole_0 21 rfl) rfl 3 rfl ?_
          cases h
        · have h := oc_sh h
          refine v_astore F (ls' := [(4, .ref (K.1 + s4)), (0, .ref (K.1 + 0)), (1, .int a1), (2, .null), (3, .int a3)]) (dq dkX10_hole_0 19 rfl) (by decide) rfl ?_
          refine v_aload F (dq dkX10_hole_0 20 rfl) 0 rfl ?_
          refine v_aload_nN F (dq dkX10_hole_0 21 rfl) rfl 3 rfl ?_
          cases h
    · have h := oc_sh h
      refine v_iload_n F (dq dkX10_hole_0 10 rfl) rfl 3 rfl ?_
      refine v_aload_n F (dq dkX10_hole_0 11 rfl) rfl 0 rfl ?_
      refine v_get F 0 (xn (by decide)) xc_0 rfl inlX10 4 (by decide) (tc2 _ (List.mem_of_getElem? (i := 8) rfl)) rfl rfl (dq dkX10_hole_0 12 rfl) ?_
      refine v_getN F 34 (xn (by decide)) xc_34 rfl inlX1 1 (by decide) (List.mem_of_getElem? (i := 7) rfl) rfl rfl (dq dkX10_hole_0 13 rfl) ?_
      refine v_icmp_ge F (tgt := 55) (dq dkX10_hole_0 14 rfl) (by decide) (fun c5 => ?_) (fun c5 => ?_)
      · rw [if_pos c5] at h
        refine v_iload_n F (dq dkX10_hole_0 30 rfl) rfl 1 rfl ?_
        have h := Option.some.inj h
        subst h
        refine v_wide (kc' := 1009) (ks1 := 2018) (by omega) (by omega) ?_
        exact v_iret F E (dq dkX10_hole_0 31 rfl)
      · rw [if_neg c5] at h
        refine v_aload_n F (dq dkX10_hole_0 15 rfl) rfl 0 rfl ?_
        refine v_get F 0 (xn (by decide)) xc_0 rfl inlX10 4 (by decide) (tc2 _ (List.mem_of_getElem? (i := 8) rfl)) rfl rfl (dq dkX10_hole_0 16 rfl) ?_
        refine v_iload_n F (dq dkX10_hole_0 17 rfl) rfl 3 rfl ?_
        obtain ⟨r6, e7, h⟩ := bd_of h
        obtain ⟨r6o, r6x⟩ := r6
        dsimp only at h
        refine v_callV 1 F (q := 34) (kc1 := kc + 126) (ks1 := ks + 252) (as := [.int a3]) (st := []) (st1 := (va_rf (r6o.map (fun q => K.1 + q)) :: [])) (res := (some (va_rf (r6o.map (fun q => K.1 + q))))) (c_X1_holeWorth (l := C.2.1) x y a3 e7) (xn (by decide)) xc_34 rfl (tc46 _ (List.mem_of_getElem? (i := 20) rfl)) (tc46 _ (List.mem_of_getElem? (i := 21) rfl)) (tc46 _ (List.mem_of_getElem? (i := 22) rfl)) (tc2 _ (List.mem_of_getElem? (i := 7) rfl)) (tc46 _ (List.mem_of_getElem? (i := 23) rfl)) (by decide) rfl ⟨rfl, rfl, Nat.le_of_ble_eq_true rfl, Nat.le_of_ble_eq_true rfl⟩ ⟨by show kc + 126 ≤ 1009; omega, by show ks + 252 ≤ 2018; omega⟩ rfl (Nat.le_of_ble_eq_true rfl) rfl rfl rfl (dq dkX10_hole_0 18 rfl) ?_
        rcases r6o with _ | s8
        · have h := oc_nh h
          refine v_astoreN F (ls' := [(4, .null), (0, .ref (K.1 + 0)), (1, .int a1), (2, .ref (K.1 + za2)), (3, .int a3)]) (dq dkX10_hole_0 19 rfl) (by decide) rfl ?_
          refine v_aloadN F (dq dkX10_hole_0 20 rfl) 0 rfl ?_
          refine v_aload_n F (dq dkX10_hole_0 21 rfl) rfl 3 rfl ?_
          cases h
        · have h := oc_sh h
          refine v_astore F (ls' := [(4, .ref (K.1 + s8)), (0, .ref (K.1 + 0)), (1, .int a1), (2, .ref (K.1 + za2)), (3, .int a3)]) (dq dkX10_hole_0 19 rfl) (by decide) rfl ?_
          refine v_aload F (dq dkX10_hole_0 20 rfl) 0 rfl ?_
          refine v_aload_n F (dq dkX10_hole_0 21 rfl) rfl 3 rfl ?_
          obtain ⟨r9, e10, h⟩ := bd_of h
          refine v_callV 1 F (q := s8) (kc1 := kc + 126) (ks1 := ks + 252) (as := [.ref (K.1 + za2)]) (st := []) (st1 := (.int (b2i r9) :: [])) (res := (some (.int (b2i r9)))) (c_X0_isAbove (l := C.2.1) r6x y s8 za2 e10) (kFr_lt (f_X0_isAbove_k e10)) (kFr_at (f_X0_isAbove_k e10)) rfl (tc47 _ (List.mem_of_getElem? (i := 17) rfl)) (tc46 _ (List.mem_of_getElem? (i := 5) rfl)) (tc46 _ (List.mem_of_getElem? (i := 6) rfl)) (tc32 _ (List.mem_of_getElem? (i := 14) rfl)) (tc46 _ (List.mem_of_getElem? (i := 7) rfl)) (by decide) rfl ⟨rfl, rfl, Nat.le_of_ble_eq_true rfl, Nat.le_of_ble_eq_true rfl⟩ ⟨by show kc + 126 + 0 ≤ 1009; omega, by show ks + 252 + 0 ≤ 2018; omega⟩ rfl (Nat.le_of_ble_eq_true rfl) rfl rfl rfl (dq dkX10_hole_0 22 rfl) ?_
          refine v_if_eq F (tgt := 49) (dq dkX10_hole_0 23 rfl) (by decide) (fun c11 => ?_) (fun c11 => ?_)
          · rw [if_pos c11] at h
            refine v_sub [1, 2, 3, 4] rfl ?_
            exact t_X10_hole_49 (f_X10_hole_14 n) r6x a1 (some za2) a3 (126 * n + 126) (252 * n + 252) ih (kc + 126) (ks + 252) (by omega) (by omega) h F E
          · rw [if_neg c11] at h
            refine v_aload F (dq dkX10_hole_0 24 rfl) 0 rfl ?_
            refine v_astore_n F (ls' := [(2, .ref (K.1 + s8)), (4, .ref (K.1 + s8)), (0, .ref (K.1 + 0)), (1, .int a1), (3, .int a3)]) (dq dkX10_hole_0 25 rfl) rfl (by decide) rfl ?_
            refine v_iload_n F (dq dkX10_hole_0 26 rfl) rfl 4 rfl ?_
            refine v_istore_n F (ls' := [(1, .int a3), (2, .ref (K.1 + s8)), (4, .ref (K.1 + s8)), (0, .ref (K.1 + 0)), (3, .int a3)]) (dq dkX10_hole_0 27 rfl) rfl (by decide) rfl ?_
            refine v_sub [3, 0, 1, 4] rfl ?_
            exact t_X10_hole_49 (f_X10_hole_14 n) r6x a3 (some s8) a3 (126 * n + 126) (252 * n + 252) ih (kc + 126) (ks + 252) (by omega) (by omega) h F E
def f_X10_hole (x : CS) : Option (Int32 × CS) := gd (decide (27 ≤ gn x)) ((f_X0_init (pal x (3, fun _ => 0, fun _ => 0)) (61 + gn x) 0 1).bind fun r13 => f_X10_hole_14 7 r13 (-1) (some (61 + gn x)) 0)
set_option maxRecDepth 100000 in
set_option maxHeartbeats 4000000 in
theorem c_X10_hole {K : KE} {l : Launch} {R : Int32 × CS} (x : CS) (y : MS) (h : f_X10_hole x = some R) : MC K l yX10_hole cX10_hole 5 (some .int) rm_X10_hole 1009 2018 [.ref (K.1 + 0)] (xf K x y) (xf K R.2 y) (some (.int R.1)) := by
  unfold f_X10_hole at h
  refine mc_of (ls0 := [(0, .ref (K.1 + 0))]) (by decide) (Nat.le_of_ble_eq_true rfl) rfl (fun C hl hnm F E => ?_)
  have F : Fx C RX10 cX10_hole 5 rm_X10_hole K := F
  refine v_iconst F (v := (-1)) (dq dkX10_hole_0 0 rfl) ki_m1 ?_
  refine v_istore_n F (ls' := [(1, .int (-1)), (0, .ref (K.1 + 0))]) (dq dkX10_hole_0 1 rfl) rfl (by decide) rfl ?_
  obtain ⟨g12, h⟩ := gd_of h
  refine v_new (ci := 0) (fs := [.long 0, .long 0]) (kc1 := 0 + 1) (ks1 := 0 + 2) F rfl inlX0 tyX0_ok (tc32 _ (List.mem_of_getElem? (i := 12) rfl)) (tc32 _ (List.mem_of_getElem? (i := 13) rfl)) (tc32 _ (List.mem_of_getElem? (i := 14) rfl)) (fun j hj => by rcases (show j = 0 ∨ j = 1 by omega) with rfl | rfl <;> rfl) (by show 0 + 1 ≤ 1009; omega) (by show 0 + 2 ≤ 2018; omega) rfl rfl (dq dkX10_hole_0 2 rfl) ?_
  refine v_eqM (xwP (of_decide_eq_true g12) (d := (3, fun _ => 0, fun _ => 0)) rfl) ?_
  refine v_dup F (dq dkX10_hole_0 3 rfl) rfl ?_
  refine v_lconst F (v := 0) (dq dkX10_hole_0 4 rfl) rfl ?_
  refine v_lconst F (v := 1) (dq dkX10_hole_0 5 rfl) rfl ?_
  obtain ⟨r13, e14, h⟩ := bd_of h
  refine v_callI 2 F (q := 61 + gn x) (as := [.long 0, .long 1]) (st := [.ref (K.1 + (61 + gn x))]) (kc1 := 0 + 1) (ks1 := 0 + 2) (c_X0_init (l := C.2.1) (pal x (3, fun _ => 0, fun _ => 0)) y (61 + gn x) 0 1 e14) (tc32 _ (List.mem_of_getElem? (i := 23) rfl)) (tc33 _ (List.mem_of_getElem? (i := 0) rfl)) (tc32 _ (List.mem_of_getElem? (i := 14) rfl)) (tc33 _ (List.mem_of_getElem? (i := 1) rfl)) rfl (by decide) rfl ⟨rfl, rfl, Nat.le_of_ble_eq_true rfl, Nat.le_of_ble_eq_true rfl⟩ ⟨by show 0 + 1 + 0 ≤ 1009; omega, by show 0 + 2 + 0 ≤ 2018; omega⟩ rfl (Nat.le_of_ble_eq_true rfl) rfl rfl (dq dkX10_hole_0 6 rfl) ?_
  refine v_astore_n F (ls' := [(2, .ref (K.1 + (61 + gn x))), (1, .int (-1)), (0, .ref (K.1 + 0))]) (dq dkX10_hole_0 7 rfl) rfl (by decide) rfl ?_
  refine v_iconst F (v := 0) (dq dkX10_hole_0 8 rfl) ki_0 ?_
  refine v_istore_n F (ls' := [(3, .int 0), (2, .ref (K.1 + (61 + gn x))), (1, .int (-1)), (0, .ref (K.1 + 0))]) (dq dkX10_hole_0 9 rfl) rfl (by decide) rfl ?_
  refine v_sub [3, 2, 1, 0] rfl ?_
  exact t_X10_hole_14 F E 7 r13 (-1) (some (61 + gn x)) 0 (0 + 1) (0 + 2) (by omega) (by omega) h
def rm_X10_fell : Room := { frames := 2, cells := 0, slots := 0, locals := 56 }
def f_X10_fell_38 (x : CS) : Option (Int32) := some (-7)
set_option maxRecDepth 100000 in
set_option maxHeartbeats 4000000 in
theorem t_X10_fell_38 {C : Cx} {K : KE} {y : MS} {R : Int32}  (x : CS) (h : f_X10_fell_38 x = some R) (F : Fx C RX10 cX10_fell 7 rm_X10_fell K) (E : CE C (xf K x y) (some (.int R)) 0 0 (some .int)) : V C 38 [] [] (xf K x y) 0 0 := by
  unfold f_X10_fell_38 at h
  refine v_bipush F (v := (-7)) (dq dkX10_fell_0 19 rfl) kb_m7 ?_
  have h := Option.some.inj h
  subst h
  exact v_iret F E (dq dkX10_fell_0 20 rfl)
def f_X10_fell_77 (k47 : Int32 → Int32 → Option Nat → Int32 → Int32 → Option (Int32)) (x : CS) (a2 : Int32) (a3 : Int32) (a4 : Option Nat) (a5 : Int32) (a6 : Int32) : Option (Int32) := oc a4 (k47 a2 a3 none a5 (a6 + 1)) (fun za4 => k47 a2 a3 (some za4) a5 (a6 + 1))
set_option maxRecDepth 100000 in
set_option maxHeartbeats 4000000 in
theorem t_X10_fell_77 {C : Cx} {K : KE} {y : MS} {R : Int32}  (k47 : Int32 → Int32 → Option Nat → Int32 → Int32 → Option (Int32)) (x : CS) (a2 : Int32) (a3 : Int32) (a4 : Option Nat) (a5 : Int32) (a6 : Int32) (hk47 : ∀ (a2 : Int32) (a3 : Int32) (a4 : Option Nat) (a5 : Int32) (a6 : Int32), k47 a2 a3 a4 a5 a6 = some R → V C 47 [(2, .int a2), (3, .int a3), (4, va_rf (a4.map (fun q => K.1 + q))), (5, .int a5), (6, .int a6)] [] (xf K x y) 0 0) (h : f_X10_fell_77 k47 x a2 a3 a4 a5 a6 = some R) (F : Fx C RX10 cX10_fell 7 rm_X10_fell K) (E : CE C (xf K x y) (some (.int R)) 0 0 (some .int)) : V C 77 [(2, .int a2), (3, .int a3), (4, va_rf (a4.map (fun q => K.1 + q))), (5, .int a5), (6, .int a6)] [] (xf K x y) 0 0 := by
  unfold f_X10_fell_77 at h
  rcases a4 with _ | za4
  · have h := oc_nh h
    refine v_iinc F (v := a6 + 1) (ls' := [(6, .int (a6 + 1)), (2, .int a2), (3, .int a3), (4, .null), (5, .int a5)]) (dq dkX10_fell_0 39 rfl) (j := 4) rfl (kv_add ki_1) (by decide) rfl ?_
    refine v_goto F (tgt := 47) (dq dkX10_fell_1 0 rfl) (by decide) ?_
    refine v_sub [1, 2, 3, 4, 0] rfl ?_
    exact hk47 a2 a3 none a5 (a6 + 1) h
  · have h := oc_sh h
    refine v_iinc F (v := a6 + 1) (ls' := [(6, .int (a6 + 1)), (2, .int a2), (3, .int a3), (4, .ref (K.1 + za4)), (5, .int a5)]) (dq dkX10_fell_0 39 rfl) (j := 4) rfl (kv_add ki_1) (by decide) rfl ?_
    refine v_goto F (tgt := 47) (dq dkX10_fell_1 0 rfl) (by decide) ?_
    refine v_sub [1, 2, 3, 4, 0] rfl ?_
    exact hk47 a2 a3 (some za4) a5 (a6 + 1) h
def f_X10_fell_47 (x : CS) : Nat → Int32 → Int32 → Option Nat → Int32 → Int32 → Option (Int32)
  | 0, _, _, _, _, _ => none
  | n + 1, a2, a3, a4, a5, a6 => oc a4 (if 8 ≤ a6 then (if a3 = 0 then (some a5) else none) else none) (fun za4 => if 8 ≤ a6 then (if a3 = 0 then (some a5) else ((f_X7_hurtBy x za4 a5 a2).bind fun r5 => some r5)) else ((f_X7_hurtBy x za4 a6 a2).bind fun r7 => (f_X7_hurtBy x za4 a5 a2).bind fun r9 => if r9 ≤ r7 then (f_X10_fell_77 (f_X10_fell_47 x n) x a2 a3 (some za4) a5 a6) else (f_X10_fell_77 (f_X10_fell_47 x n) x a2 a3 (some za4) a6 a6)))
set_option maxRecDepth 100000 in
set_option maxHeartbeats 4000000 in
theorem t_X10_fell_47 {C : Cx} {K : KE} {y : MS} {R : Int32}  (x : CS) (F : Fx C RX10 cX10_fell 7 rm_X10_fell K) (E : CE C (xf K x y) (some (.int R)) 0 0 (some .int)) : ∀ (n : Nat) (a2 : Int32) (a3 : Int32) (a4 : Option Nat) (a5 : Int32) (a6 : Int32) (h : f_X10_fell_47 x n a2 a3 a4 a5 a6 = some R), V C 47 [(2, .int a2), (3, .int a3), (4, va_rf (a4.map (fun q => K.1 + q))), (5, .int a5), (6, .int a6)] [] (xf K x y) 0 0 := by
  intro n
  induction n with
  | zero => intro a2 a3 a4 a5 a6 h; cases h
  | succ n ih =>
    intro a2 a3 a4 a5 a6 h
    rw [f_X10_fell_47] at h
    rcases a4 with _ | za4
    · have h := oc_nh h
      refine v_iload F (dq dkX10_fell_0 25 rfl) 4 rfl ?_
      refine v_bipush F (v := 8) (dq dkX10_fell_0 26 rfl) kb_8 ?_
      refine v_icmp_ge F (tgt := 83) (dq dkX10_fell_0 27 rfl) (by decide) (fun c1 => ?_) (fun c1 => ?_)
      · rw [if_pos c1] at h
        refine v_iload_n F (dq dkX10_fell_1 1 rfl) rfl 1 rfl ?_
        refine v_if_ne F (tgt := 92) (dq dkX10_fell_1 2 rfl) (by decide) (fun c2 => ?_) (fun c2 => ?_)
        · rw [if_neg c2] at h
          refine v_aloadN F (dq dkX10_fell_1 5 rfl) 2 rfl ?_
          refine v_iload F (dq dkX10_fell_1 6 rfl) 3 rfl ?_
          refine v_iload_n F (dq dkX10_fell_1 7 rfl) rfl 0 rfl ?_
          cases h
        · rw [if_pos c2] at h
          refine v_iload F (dq dkX10_fell_1 3 rfl) 3 rfl ?_
          refine v_goto F (tgt := 100) (dq dkX10_fell_1 4 rfl) (by decide) ?_
          have h := Option.some.inj h
          subst h
          exact v_iret F E (dq dkX10_fell_1 9 rfl)
      · rw [if_neg c1] at h
        refine v_aloadN F (dq dkX10_fell_0 28 rfl) 2 rfl ?_
        refine v_iload F (dq dkX10_fell_0 29 rfl) 4 rfl ?_
        refine v_iload_n F (dq dkX10_fell_0 30 rfl) rfl 0 rfl ?_
        cases h
    · have h := oc_sh h
      refine v_iload F (dq dkX10_fell_0 25 rfl) 4 rfl ?_
      refine v_bipush F (v := 8) (dq dkX10_fell_0 26 rfl) kb_8 ?_
      refine v_icmp_ge F (tgt := 83) (dq dkX10_fell_0 27 rfl) (by decide) (fun c3 => ?_) (fun c3 => ?_)
      · rw [if_pos c3] at h
        refine v_iload_n F (dq dkX10_fell_1 1 rfl) rfl 1 rfl ?_
        refine v_if_ne F (tgt := 92) (dq dkX10_fell_1 2 rfl) (by decide) (fun c4 => ?_) (fun c4 => ?_)
        · rw [if_neg c4] at h
          refine v_aload F (dq dkX10_fell_1 5 rfl) 2 rfl ?_
          refine v_iload F (dq dkX10_fell_1 6 rfl) 3 rfl ?_
          refine v_iload_n F (dq dkX10_fell_1 7 rfl) rfl 0 rfl ?_
          obtain ⟨r5, e6, h⟩ := bd_of h
          refine v_callV 2 F (q := za4) (kc1 := 0) (ks1 := 0) (as := [.int a5, .int a2]) (st := []) (st1 := (.int r5 :: [])) (res := (some (.int r5))) (c_X7_hurtBy (l := C.2.1) x y za4 a5 a2 e6) (kTr_lt (f_X7_hurtBy_k e6)) (kTr_at (f_X7_hurtBy_k e6)) rfl (tc48 _ (List.mem_of_getElem? (i := 2) rfl)) (tc48 _ (List.mem_of_getElem? (i := 3) rfl)) (tc48 _ (List.mem_of_getElem? (i := 4) rfl)) (tc42 _ (List.mem_of_getElem? (i := 19) rfl)) (tc48 _ (List.mem_of_getElem? (i := 5) rfl)) (by decide) rfl ⟨rfl, rfl, Nat.le_of_ble_eq_true rfl, Nat.le_of_ble_eq_true rfl⟩ ⟨Nat.le_of_ble_eq_true rfl, Nat.le_of_ble_eq_true rfl⟩ rfl (Nat.le_of_ble_eq_true rfl) rfl rfl rfl (dq dkX10_fell_1 8 rfl) ?_
          have h := Option.some.inj h
          subst h
          exact v_iret F E (dq dkX10_fell_1 9 rfl)
        · rw [if_pos c4] at h
          refine v_iload F (dq dkX10_fell_1 3 rfl) 3 rfl ?_
          refine v_goto F (tgt := 100) (dq dkX10_fell_1 4 rfl) (by decide) ?_
          have h := Option.some.inj h
          subst h
          exact v_iret F E (dq dkX10_fell_1 9 rfl)
      · rw [if_neg c3] at h
        refine v_aload F (dq dkX10_fell_0 28 rfl) 2 rfl ?_
        refine v_iload F (dq dkX10_fell_0 29 rfl) 4 rfl ?_
        refine v_iload_n F (dq dkX10_fell_0 30 rfl) rfl 0 rfl ?_
        obtain ⟨r7, e8, h⟩ := bd_of h
        refine v_callV 2 F (q := za4) (kc1 := 0) (ks1 := 0) (as := [.int a6, .int a2]) (st := []) (st1 := (.int r7 :: [])) (res := (some (.int r7))) (c_X7_hurtBy (l := C.2.1) x y za4 a6 a2 e8) (kTr_lt (f_X7_hurtBy_k e8)) (kTr_at (f_X7_hurtBy_k e8)) rfl (tc48 _ (List.mem_of_getElem? (i := 2) rfl)) (tc48 _ (List.mem_of_getElem? (i := 3) rfl)) (tc48 _ (List.mem_of_getElem? (i := 4) rfl)) (tc42 _ (List.mem_of_getElem? (i := 19) rfl)) (tc48 _ (List.mem_of_getElem? (i := 5) rfl)) (by decide) rfl ⟨rfl, rfl, Nat.le_of_ble_eq_true rfl, Nat.le_of_ble_eq_true rfl⟩ ⟨Nat.le_of_ble_eq_true rfl, Nat.le_of_ble_eq_true rfl⟩ rfl (Nat.le_of_ble_eq_true rfl) rfl rfl rfl (dq dkX10_fell_0 31 rfl) ?_
        refine v_aload F (dq dkX10_fell_0 32 rfl) 2 rfl ?_
        refine v_iload F (dq dkX10_fell_0 33 rfl) 3 rfl ?_
        refine v_iload_n F (dq dkX10_fell_0 34 rfl) rfl 0 rfl ?_
        obtain ⟨r9, e10, h⟩ := bd_of h
        refine v_callV 2 F (q := za4) (kc1 := 0) (ks1 := 0) (as := [.int a5, .int a2]) (st := [.int r7]) (st1 := (.int r9 :: [.int r7])) (res := (some (.int r9))) (c_X7_hurtBy (l := C.2.1) x y za4 a5 a2 e10) (kTr_lt (f_X7_hurtBy_k e10)) (kTr_at (f_X7_hurtBy_k e10)) rfl (tc48 _ (List.mem_of_getElem? (i := 2) rfl)) (tc48 _ (List.mem_of_getElem? (i := 3) rfl)) (tc48 _ (List.mem_of_getElem? (i := 4) rfl)) (tc42 _ (List.mem_of_getElem? (i := 19) rfl)) (tc48 _ (List.mem_of_getElem? (i := 5) rfl)) (by decide) rfl ⟨rfl, rfl, Nat.le_of_ble_eq_true rfl, Nat.le_of_ble_eq_true rfl⟩ ⟨Nat.le_of_ble_eq_true rfl, Nat.le_of_ble_eq_true rfl⟩ rfl (Nat.le_of_ble_eq_true rfl) rfl rfl rfl (dq dkX10_fell_0 35 rfl) ?_
        refine v_icmp_ge F (tgt := 77) (dq dkX10_fell_0 36 rfl) (by decide) (fun c11 => ?_) (fun c11 => ?_)
        · rw [if_pos c11] at h
          exact t_X10_fell_77 (f_X10_fell_47 x n) x a2 a3 (some za4) a5 a6 ih h F E
        · rw [if_neg c11] at h
          refine v_iload F (dq dkX10_fell_0 37 rfl) 4 rfl ?_
          refine v_istore F (ls' := [(5, .int a6), (2, .int a2), (3, .int a3), (4, .ref (K.1 + za4)), (6, .int a6)]) (dq dkX10_fell_0 38 rfl) (by decide) rfl ?_
          refine v_sub [1, 2, 3, 0, 4] rfl ?_
          exact t_X10_fell_77 (f_X10_fell_47 x n) x a2 a3 (some za4) a6 a6 ih h F E
def f_X10_fell (x : CS) (a1 : Int32) (a2 : Int32) (a3 : Int32) : Option (Int32) := (f_X1_at x a1).bind fun r12 => oc r12 (some (-5)) (fun s14 => if (b2i (f_X10_within a2 0 255)) = 0 then (f_X10_fell_38 x) else (if (b2i (f_X10_within a3 0 1)) = 0 then (f_X10_fell_38 x) else (f_X10_fell_47 x 1000 a2 a3 (some s14) 0 1)))
set_option maxRecDepth 100000 in
set_option maxHeartbeats 4000000 in
theorem c_X10_fell {K : KE} {l : Launch} {R : Int32} (x : CS) (y : MS) (a1 : Int32) (a2 : Int32) (a3 : Int32) (h : f_X10_fell x a1 a2 a3 = some R) : MC K l yX10_fell cX10_fell 7 (some .int) rm_X10_fell 0 0 [.ref (K.1 + 0), .int a1, .int a2, .int a3] (xf K x y) (xf K x y) (some (.int R)) := by
  unfold f_X10_fell at h
  refine mc_of (ls0 := [(0, .ref (K.1 + 0)), (1, .int a1), (2, .int a2), (3, .int a3)]) (by decide) (Nat.le_of_ble_eq_true rfl) rfl (fun C hl hnm F E => ?_)
  have F : Fx C RX10 cX10_fell 7 rm_X10_fell K := F
  refine v_aload_n F (dq dkX10_fell_0 0 rfl) rfl 0 rfl ?_
  refine v_get F 0 (xn (by decide)) xc_0 rfl inlX10 4 (by decide) (tc2 _ (List.mem_of_getElem? (i := 8) rfl)) rfl rfl (dq dkX10_fell_0 1 rfl) ?_
  refine v_iload_n F (dq dkX10_fell_0 2 rfl) rfl 1 rfl ?_
  obtain ⟨r12, e13, h⟩ := bd_of h
  refine v_callV 1 F (q := 34) (kc1 := 0) (ks1 := 0) (as := [.int a1]) (st := []) (st1 := (va_rf (r12.map (fun q => K.1 + q)) :: [])) (res := (some (va_rf (r12.map (fun q => K.1 + q))))) (c_X1_at (l := C.2.1) x y a1 e13) (xn (by decide)) xc_34 rfl (tc43 _ (List.mem_of_getElem? (i := 13) rfl)) (tc43 _ (List.mem_of_getElem? (i := 14) rfl)) (tc43 _ (List.mem_of_getElem? (i := 15) rfl)) (tc2 _ (List.mem_of_getElem? (i := 7) rfl)) (tc43 _ (List.mem_of_getElem? (i := 16) rfl)) (by decide) rfl ⟨rfl, rfl, Nat.le_of_ble_eq_true rfl, Nat.le_of_ble_eq_true rfl⟩ ⟨Nat.le_of_ble_eq_true rfl, Nat.le_of_ble_eq_true rfl⟩ rfl (Nat.le_of_ble_eq_true rfl) rfl rfl rfl (dq dkX10_fell_0 3 rfl) ?_
  rcases r12 with _ | s14
  · have h := oc_nh h
    refine v_astoreN F (ls' := [(4, .null), (0, .ref (K.1 + 0)), (1, .int a1), (2, .int a2), (3, .int a3)]) (dq dkX10_fell_0 4 rfl) (by decide) rfl ?_
    refine v_aloadN F (dq dkX10_fell_0 5 rfl) 0 rfl ?_
    refine v_ifnonnullN F (dq dkX10_fell_0 6 rfl) ?_
    refine v_bipush F (v := (-5)) (dq dkX10_fell_0 7 rfl) kb_m5 ?_
    have h := Option.some.inj h
    subst h
    exact v_iret F E (dq dkX10_fell_0 8 rfl)
  · have h := oc_sh h
    refine v_astore F (ls' := [(4, .ref (K.1 + s14)), (0, .ref (K.1 + 0)), (1, .int a1), (2, .int a2), (3, .int a3)]) (dq dkX10_fell_0 4 rfl) (by decide) rfl ?_
    refine v_aload F (dq dkX10_fell_0 5 rfl) 0 rfl ?_
    refine v_ifnonnull F (tgt := 18) (dq dkX10_fell_0 6 rfl) (by decide) ?_
    refine v_iload_n F (dq dkX10_fell_0 9 rfl) rfl 3 rfl ?_
    refine v_iconst F (v := 0) (dq dkX10_fell_0 10 rfl) ki_0 ?_
    refine v_sipush F (v := 255) (dq dkX10_fell_0 11 rfl) ks_255 ?_
    refine v_callS 3 F (kc1 := 0) (ks1 := 0) (as := [.int a2, .int 0, .int 255]) (st := []) (st1 := (.int (b2i (f_X10_within a2 0 255)) :: [])) (res := (some (.int (b2i (f_X10_within a2 0 255))))) (c_X10_within (l := C.2.1) a2 0 255) (tc14 _ (List.mem_of_getElem? (i := 3) rfl)) (tc8 _ (List.mem_of_getElem? (i := 15) rfl)) (tc1 _ (List.mem_of_getElem? (i := 2) rfl)) (tc8 _ (List.mem_of_getElem? (i := 16) rfl)) (by decide) rfl ⟨rfl, rfl, Nat.le_of_ble_eq_true rfl, Nat.le_of_ble_eq_true rfl⟩ ⟨Nat.le_of_ble_eq_true rfl, Nat.le_of_ble_eq_true rfl⟩ rfl (Nat.le_of_ble_eq_true rfl) rfl rfl rfl (dq dkX10_fell_0 12 rfl) ?_
    refine v_if_eq F (tgt := 38) (dq dkX10_fell_0 13 rfl) (by decide) (fun c16 => ?_) (fun c16 => ?_)
    · rw [if_pos c16] at h
      refine v_sub [] rfl ?_
      exact t_X10_fell_38 x h F E
    · rw [if_neg c16] at h
      refine v_iload_n F (dq dkX10_fell_0 14 rfl) rfl 4 rfl ?_
      refine v_iconst F (v := 0) (dq dkX10_fell_0 15 rfl) ki_0 ?_
      refine v_iconst F (v := 1) (dq dkX10_fell_0 16 rfl) ki_1 ?_
      refine v_callS 3 F (kc1 := 0) (ks1 := 0) (as := [.int a3, .int 0, .int 1]) (st := []) (st1 := (.int (b2i (f_X10_within a3 0 1)) :: [])) (res := (some (.int (b2i (f_X10_within a3 0 1))))) (c_X10_within (l := C.2.1) a3 0 1) (tc14 _ (List.mem_of_getElem? (i := 3) rfl)) (tc8 _ (List.mem_of_getElem? (i := 15) rfl)) (tc1 _ (List.mem_of_getElem? (i := 2) rfl)) (tc8 _ (List.mem_of_getElem? (i := 16) rfl)) (by decide) rfl ⟨rfl, rfl, Nat.le_of_ble_eq_true rfl, Nat.le_of_ble_eq_true rfl⟩ ⟨Nat.le_of_ble_eq_true rfl, Nat.le_of_ble_eq_true rfl⟩ rfl (Nat.le_of_ble_eq_true rfl) rfl rfl rfl (dq dkX10_fell_0 17 rfl) ?_
      refine v_if_ne F (tgt := 41) (dq dkX10_fell_0 18 rfl) (by decide) (fun c18 => ?_) (fun c18 => ?_)
      · rw [if_neg c18] at h
        refine v_iconst F (v := 0) (dq dkX10_fell_0 21 rfl) ki_0 ?_
        refine v_istore F (ls' := [(5, .int 0), (4, .ref (K.1 + s14)), (0, .ref (K.1 + 0)), (1, .int a1), (2, .int a2), (3, .int a3)]) (dq dkX10_fell_0 22 rfl) (by decide) rfl ?_
        refine v_iconst F (v := 1) (dq dkX10_fell_0 23 rfl) ki_1 ?_
        refine v_istore F (ls' := [(6, .int 1), (5, .int 0), (4, .ref (K.1 + s14)), (0, .ref (K.1 + 0)), (1, .int a1), (2, .int a2), (3, .int a3)]) (dq dkX10_fell_0 24 rfl) (by decide) rfl ?_
        refine v_sub [5, 6, 2, 1, 0] rfl ?_
        exact t_X10_fell_47 x F E 1000 a2 a3 (some s14) 0 1 h
      · rw [if_pos c18] at h
        refine v_sub [] rfl ?_
        exact t_X10_fell_38 x h F E
def rm_X10_yearOfForest : Room := { frames := 1, cells := 0, slots := 0, locals := 30 }
def f_X10_yearOfForest_107 (x : CS) (a4 : Int32) : Option (Int32 × CS) := some (a4, x)
set_option maxRecDepth 100000 in
set_option maxHeartbeats 4000000 in
theorem t_X10_yearOfForest_107 {C : Cx} {K : KE} {y : MS} {R : Int32 × CS}  (x : CS) (a4 : Int32) (h : f_X10_yearOfForest_107 x a4 = some R) (F : Fx C RX10 cX10_yearOfForest 6 rm_X10_yearOfForest K) (E : CE C (xf K R.2 y) (some (.int R.1)) 0 0 (some .int)) : V C 107 [(4, .int a4)] [] (xf K x y) 0 0 := by
  unfold f_X10_yearOfForest_107 at h
  refine v_iload F (dq dkX10_yearOfForest_1 20 rfl) 0 rfl ?_
  have h := Option.some.inj h
  subst h
  exact v_iret F E (dq dkX10_yearOfForest_1 21 rfl)
def f_X10_yearOfForest_77 : Nat → CS → Int32 → Int32 → Int32 → Option (Int32 × CS)
  | 0, _, _, _, _ => none
  | n + 1, x, a1, a4, a5 => if a1 ≤ a5 then (f_X10_yearOfForest_107 x a4) else (if 40 ≤ a5 then (f_X10_yearOfForest_107 x a4) else (gd (ib a5 40) (gd (ib a5 40) ((f_X10_yearOfForest_77 n) (pi x 37 a5.toNatClampNeg ((gi x 37 a5.toNatClampNeg) + 1)) a1 a4 (a5 + 1)))))
set_option maxRecDepth 100000 in
set_option maxHeartbeats 4000000 in
theorem t_X10_yearOfForest_77 {C : Cx} {K : KE} {y : MS} {R : Int32 × CS}  (F : Fx C RX10 cX10_yearOfForest 6 rm_X10_yearOfForest K) (E : CE C (xf K R.2 y) (some (.int R.1)) 0 0 (some .int)) : ∀ (n : Nat) (x : CS) (a1 : Int32) (a4 : Int32) (a5 : Int32) (h : f_X10_yearOfForest_77 n x a1 a4 a5 = some R), V C 77 [(0, .ref (K.1 + 0)), (1, .int a1), (4, .int a4), (5, .int a5)] [] (xf K x y) 0 0 := by
  intro n
  induction n with
  | zero => intro x a1 a4 a5 h; cases h
  | succ n ih =>
    intro x a1 a4 a5 h
    rw [f_X10_yearOfForest_77] at h
    refine v_iload F (dq dkX10_yearOfForest_1 4 rfl) 3 rfl ?_
    refine v_iload_n F (dq dkX10_yearOfForest_1 5 rfl) rfl 1 rfl ?_
    refine v_icmp_ge F (tgt := 107) (dq dkX10_yearOfForest_1 6 rfl) (by decide) (fun c1 => ?_) (fun c1 => ?_)
    · rw [if_pos c1] at h
      refine v_sub [2] rfl ?_
      exact t_X10_yearOfForest_107 x a4 h F E
    · rw [if_neg c1] at h
      refine v_iload F (dq dkX10_yearOfForest_1 7 rfl) 3 rfl ?_
      refine v_bipush F (v := 40) (dq dkX10_yearOfForest_1 8 rfl) kb_40 ?_
      refine v_icmp_ge F (tgt := 107) (dq dkX10_yearOfForest_1 9 rfl) (by decide) (fun c2 => ?_) (fun c2 => ?_)
      · rw [if_pos c2] at h
        refine v_sub [2] rfl ?_
        exact t_X10_yearOfForest_107 x a4 h F E
      · rw [if_neg c2] at h
        refine v_aload_n F (dq dkX10_yearOfForest_1 10 rfl) rfl 0 rfl ?_
        refine v_get F 0 (xn (by decide)) xc_0 rfl inlX10 6 (by decide) (tc2 _ (List.mem_of_getElem? (i := 12) rfl)) rfl rfl (dq dkX10_yearOfForest_1 11 rfl) ?_
        refine v_iload F (dq dkX10_yearOfForest_1 12 rfl) 3 rfl ?_
        refine v_dup2 F (dq dkX10_yearOfForest_1 13 rfl) rfl rfl ?_
        obtain ⟨g3, h⟩ := gd_of h
        refine v_iald F 37 (xn (by decide)) xc_37 (ib_in g3) (dq dkX10_yearOfForest_1 14 rfl) ?_
        refine v_iconst F (v := 1) (dq dkX10_yearOfForest_1 15 rfl) ki_1 ?_
        refine v_iadd F (dq dkX10_yearOfForest_1 16 rfl) ?_
        obtain ⟨g4, h⟩ := gd_of h
        refine v_iast F 37 (xn (by decide)) xc_37 (ib_in g4) (dq dkX10_yearOfForest_1 17 rfl) ?_
        refine v_eqM (xwC (q := 37) (j := a5.toNatClampNeg) (v := (gi x 37 a5.toNatClampNeg) + 1) (by decide) rfl) ?_
        refine v_iinc F (v := a5 + 1) (ls' := [(5, .int (a5 + 1)), (0, .ref (K.1 + 0)), (1, .int a1), (4, .int a4)]) (dq dkX10_yearOfForest_1 18 rfl) (j := 3) rfl (kv_add ki_1) (by decide) rfl ?_
        refine v_goto F (tgt := 77) (dq dkX10_yearOfForest_1 19 rfl) (by decide) ?_
        refine v_sub [1, 2, 3, 0] rfl ?_
        exact ih (pi x 37 a5.toNatClampNeg ((gi x 37 a5.toNatClampNeg) + 1)) a1 a4 (a5 + 1) h
def f_X10_yearOfForest_74 (x : CS) (a1 : Int32) (a4 : Int32) : Option (Int32 × CS) := f_X10_yearOfForest_77 1000 x a1 a4 0
set_option maxRecDepth 100000 in
set_option maxHeartbeats 4000000 in
theorem t_X10_yearOfForest_74 {C : Cx} {K : KE} {y : MS} {R : Int32 × CS}  (x : CS) (a1 : Int32) (a4 : Int32) (h : f_X10_yearOfForest_74 x a1 a4 = some R) (F : Fx C RX10 cX10_yearOfForest 6 rm_X10_yearOfForest K) (E : CE C (xf K R.2 y) (some (.int R.1)) 0 0 (some .int)) : V C 74 [(0, .ref (K.1 + 0)), (1, .int a1), (4, .int a4)] [] (xf K x y) 0 0 := by
  unfold f_X10_yearOfForest_74 at h
  refine v_iconst F (v := 0) (dq dkX10_yearOfForest_1 2 rfl) ki_0 ?_
  refine v_istore F (ls' := [(5, .int 0), (0, .ref (K.1 + 0)), (1, .int a1), (4, .int a4)]) (dq dkX10_yearOfForest_1 3 rfl) (by decide) rfl ?_
  refine v_sub [1, 2, 3, 0] rfl ?_
  exact t_X10_yearOfForest_77 F E 1000 x a1 a4 0 h
def f_X10_yearOfForest_47 (x : CS) (a1 : Int32) (a2 : Int32) (a3 : Int32) : Option (Int32 × CS) := if a3 < 0 then (f_X10_yearOfForest_74 x a1 0) else (gd (ib a3 40) (if (gi x 37 a3.toNatClampNeg) < a2 then (f_X10_yearOfForest_74 x a1 0) else (gd (ib a3 40) (f_X10_yearOfForest_74 (pi x 37 a3.toNatClampNeg 0) a1 1))))
set_option maxRecDepth 100000 in
set_option maxHeartbeats 4000000 in
theorem t_X10_yearOfForest_47 {C : Cx} {K : KE} {y : MS} {R : Int32 × CS}  (x : CS) (a1 : Int32) (a2 : Int32) (a3 : Int32) (h : f_X10_yearOfForest_47 x a1 a2 a3 = some R) (F : Fx C RX10 cX10_yearOfForest 6 rm_X10_yearOfForest K) (E : CE C (xf K R.2 y) (some (.int R.1)) 0 0 (some .int)) : V C 47 [(0, .ref (K.1 + 0)), (1, .int a1), (2, .int a2), (3, .int a3)] [] (xf K x y) 0 0 := by
  unfold f_X10_yearOfForest_47 at h
  refine v_iconst F (v := 0) (dq dkX10_yearOfForest_0 25 rfl) ki_0 ?_
  refine v_istore F (ls' := [(4, .int 0), (0, .ref (K.1 + 0)), (1, .int a1), (2, .int a2), (3, .int a3)]) (dq dkX10_yearOfForest_0 26 rfl) (by decide) rfl ?_
  refine v_iload_n F (dq dkX10_yearOfForest_0 27 rfl) rfl 4 rfl ?_
  refine v_if_lt F (tgt := 74) (dq dkX10_yearOfForest_0 28 rfl) (by decide) (fun c5 => ?_) (fun c5 => ?_)
  · rw [if_pos c5] at h
    refine v_sub [1, 2, 0] rfl ?_
    exact t_X10_yearOfForest_74 x a1 0 h F E
  · rw [if_neg c5] at h
    refine v_aload_n F (dq dkX10_yearOfForest_0 29 rfl) rfl 1 rfl ?_
    refine v_get F 0 (xn (by decide)) xc_0 rfl inlX10 6 (by decide) (tc2 _ (List.mem_of_getElem? (i := 12) rfl)) rfl rfl (dq dkX10_yearOfForest_0 30 rfl) ?_
    refine v_iload_n F (dq dkX10_yearOfForest_0 31 rfl) rfl 4 rfl ?_
    obtain ⟨g6, h⟩ := gd_of h
    refine v_iald F 37 (xn (by decide)) xc_37 (ib_in g6) (dq dkX10_yearOfForest_0 32 rfl) ?_
    refine v_iload_n F (dq dkX10_yearOfForest_0 33 rfl) rfl 3 rfl ?_
    refine v_icmp_lt F (tgt := 74) (dq dkX10_yearOfForest_0 34 rfl) (by decide) (fun c7 => ?_) (fun c7 => ?_)
    · rw [if_pos c7] at h
      refine v_sub [1, 2, 0] rfl ?_
      exact t_X10_yearOfForest_74 x a1 0 h F E
    · rw [if_neg c7] at h
      refine v_aload_n F (dq dkX10_yearOfForest_0 35 rfl) rfl 1 rfl ?_
      refine v_get F 0 (xn (by decide)) xc_0 rfl inlX10 6 (by decide) (tc2 _ (List.mem_of_getElem? (i := 12) rfl)) rfl rfl (dq dkX10_yearOfForest_0 36 rfl) ?_
      refine v_iload_n F (dq dkX10_yearOfForest_0 37 rfl) rfl 4 rfl ?_
      refine v_iconst F (v := 0) (dq dkX10_yearOfForest_0 38 rfl) ki_0 ?_
      obtain ⟨g8, h⟩ := gd_of h
      refine v_iast F 37 (xn (by decide)) xc_37 (ib_in g8) (dq dkX10_yearOfForest_0 39 rfl) ?_
      refine v_eqM (xwC (q := 37) (j := a3.toNatClampNeg) (v := 0) (by decide) rfl) ?_
      refine v_iconst F (v := 1) (dq dkX10_yearOfForest_1 0 rfl) ki_1 ?_
      refine v_istore F (ls' := [(4, .int 1), (0, .ref (K.1 + 0)), (1, .int a1), (2, .int a2), (3, .int a3)]) (dq dkX10_yearOfForest_1 1 rfl) (by decide) rfl ?_
      refine v_sub [1, 2, 0] rfl ?_
      exact t_X10_yearOfForest_74 (pi x 37 a3.toNatClampNeg 0) a1 1 h F E
def f_X10_yearOfForest_41 (k5 : CS → Int32 → Int32 → Int32 → Int32 → Option (Int32 × CS)) (x : CS) (a1 : Int32) (a2 : Int32) (a3 : Int32) (a4 : Int32) : Option (Int32 × CS) := k5 x a1 a2 a3 (a4 + 1)
set_option maxRecDepth 100000 in
set_option maxHeartbeats 4000000 in
theorem t_X10_yearOfForest_41 {C : Cx} {K : KE} {y : MS} {R : Int32 × CS}  (k5 : CS → Int32 → Int32 → Int32 → Int32 → Option (Int32 × CS)) (x : CS) (a1 : Int32) (a2 : Int32) (a3 : Int32) (a4 : Int32) (hk5 : ∀ (x : CS) (a1 : Int32) (a2 : Int32) (a3 : Int32) (a4 : Int32), k5 x a1 a2 a3 a4 = some R → V C 5 [(0, .ref (K.1 + 0)), (1, .int a1), (2, .int a2), (3, .int a3), (4, .int a4)] [] (xf K x y) 0 0) (h : f_X10_yearOfForest_41 k5 x a1 a2 a3 a4 = some R) (F : Fx C RX10 cX10_yearOfForest 6 rm_X10_yearOfForest K) (E : CE C (xf K R.2 y) (some (.int R.1)) 0 0 (some .int)) : V C 41 [(0, .ref (K.1 + 0)), (1, .int a1), (2, .int a2), (3, .int a3), (4, .int a4)] [] (xf K x y) 0 0 := by
  unfold f_X10_yearOfForest_41 at h
  refine v_iinc F (v := a4 + 1) (ls' := [(4, .int (a4 + 1)), (0, .ref (K.1 + 0)), (1, .int a1), (2, .int a2), (3, .int a3)]) (dq dkX10_yearOfForest_0 23 rfl) (j := 4) rfl (kv_add ki_1) (by decide) rfl ?_
  refine v_goto F (tgt := 5) (dq dkX10_yearOfForest_0 24 rfl) (by decide) ?_
  refine v_sub [1, 2, 3, 4, 0] rfl ?_
  exact hk5 x a1 a2 a3 (a4 + 1) h
def f_X10_yearOfForest_38 (k5 : CS → Int32 → Int32 → Int32 → Int32 → Option (Int32 × CS)) (x : CS) (a1 : Int32) (a2 : Int32) (a4 : Int32) : Option (Int32 × CS) := f_X10_yearOfForest_41 k5 x a1 a2 a4 a4
set_option maxRecDepth 100000 in
set_option maxHeartbeats 4000000 in
theorem t_X10_yearOfForest_38 {C : Cx} {K : KE} {y : MS} {R : Int32 × CS}  (k5 : CS → Int32 → Int32 → Int32 → Int32 → Option (Int32 × CS)) (x : CS) (a1 : Int32) (a2 : Int32) (a4 : Int32) (hk5 : ∀ (x : CS) (a1 : Int32) (a2 : Int32) (a3 : Int32) (a4 : Int32), k5 x a1 a2 a3 a4 = some R → V C 5 [(0, .ref (K.1 + 0)), (1, .int a1), (2, .int a2), (3, .int a3), (4, .int a4)] [] (xf K x y) 0 0) (h : f_X10_yearOfForest_38 k5 x a1 a2 a4 = some R) (F : Fx C RX10 cX10_yearOfForest 6 rm_X10_yearOfForest K) (E : CE C (xf K R.2 y) (some (.int R.1)) 0 0 (some .int)) : V C 38 [(0, .ref (K.1 + 0)), (1, .int a1), (2, .int a2), (4, .int a4)] [] (xf K x y) 0 0 := by
  unfold f_X10_yearOfForest_38 at h
  refine v_iload F (dq dkX10_yearOfForest_0 21 rfl) 3 rfl ?_
  refine v_istore_n F (ls' := [(3, .int a4), (0, .ref (K.1 + 0)), (1, .int a1), (2, .int a2), (4, .int a4)]) (dq dkX10_yearOfForest_0 22 rfl) rfl (by decide) rfl ?_
  refine v_sub [1, 2, 3, 0, 4] rfl ?_
  exact t_X10_yearOfForest_41 k5 x a1 a2 a4 a4 hk5 h F E
def f_X10_yearOfForest_5 : Nat → CS → Int32 → Int32 → Int32 → Int32 → Option (Int32 × CS)
  | 0, _, _, _, _, _ => none
  | n + 1, x, a1, a2, a3, a4 => if a1 ≤ a4 then (f_X10_yearOfForest_47 x a1 a2 a3) else (if 40 ≤ a4 then (f_X10_yearOfForest_47 x a1 a2 a3) else (if a3 < 0 then (f_X10_yearOfForest_38 (f_X10_yearOfForest_5 n) x a1 a2 a4) else (gd (ib a4 40) (gd (ib a3 40) (if (gi x 37 a4.toNatClampNeg) ≤ (gi x 37 a3.toNatClampNeg) then (f_X10_yearOfForest_41 (f_X10_yearOfForest_5 n) x a1 a2 a3 a4) else (f_X10_yearOfForest_38 (f_X10_yearOfForest_5 n) x a1 a2 a4))))))
set_option maxRecDepth 100000 in
set_option maxHeartbeats 4000000 in
theorem t_X10_yearOfForest_5 {C : Cx} {K : KE} {y : MS} {R : Int32 × CS}  (F : Fx C RX10 cX10_yearOfForest 6 rm_X10_yearOfForest K) (E : CE C (xf K R.2 y) (some (.int R.1)) 0 0 (some .int)) : ∀ (n : Nat) (x : CS) (a1 : Int32) (a2 : Int32) (a3 : Int32) (a4 : Int32) (h : f_X10_yearOfForest_5 n x a1 a2 a3 a4 = some R), V C 5 [(0, .ref (K.1 + 0)), (1, .int a1), (2, .int a2), (3, .int a3), (4, .int a4)] [] (xf K x y) 0 0 := by
  intro n
  induction n with
  | zero => intro x a1 a2 a3 a4 h; cases h
  | succ n ih =>
    intro x a1 a2 a3 a4 h
    rw [f_X10_yearOfForest_5] at h
    refine v_iload F (dq dkX10_yearOfForest_0 4 rfl) 4 rfl ?_
    refine v_iload_n F (dq dkX10_yearOfForest_0 5 rfl) rfl 1 rfl ?_
    refine v_icmp_ge F (tgt := 47) (dq dkX10_yearOfForest_0 6 rfl) (by decide) (fun c9 => ?_) (fun c9 => ?_)
    · rw [if_pos c9] at h
      refine v_sub [0, 1, 2, 3] rfl ?_
      exact t_X10_yearOfForest_47 x a1 a2 a3 h F E
    · rw [if_neg c9] at h
      refine v_iload F (dq dkX10_yearOfForest_0 7 rfl) 4 rfl ?_
      refine v_bipush F (v := 40) (dq dkX10_yearOfForest_0 8 rfl) kb_40 ?_
      refine v_icmp_ge F (tgt := 47) (dq dkX10_yearOfForest_0 9 rfl) (by decide) (fun c10 => ?_) (fun c10 => ?_)
      · rw [if_pos c10] at h
        refine v_sub [0, 1, 2, 3] rfl ?_
        exact t_X10_yearOfForest_47 x a1 a2 a3 h F E
      · rw [if_neg c10] at h
        refine v_iload_n F (dq dkX10_yearOfForest_0 10 rfl) rfl 3 rfl ?_
        refine v_if_lt F (tgt := 38) (dq dkX10_yearOfForest_0 11 rfl) (by decide) (fun c11 => ?_) (fun c11 => ?_)
        · rw [if_pos c11] at h
          refine v_sub [0, 1, 2, 4] rfl ?_
          exact t_X10_yearOfForest_38 (f_X10_yearOfForest_5 n) x a1 a2 a4 ih h F E
        · rw [if_neg c11] at h
          refine v_aload_n F (dq dkX10_yearOfForest_0 12 rfl) rfl 0 rfl ?_
          refine v_get F 0 (xn (by decide)) xc_0 rfl inlX10 6 (by decide) (tc2 _ (List.mem_of_getElem? (i := 12) rfl)) rfl rfl (dq dkX10_yearOfForest_0 13 rfl) ?_
          refine v_iload F (dq dkX10_yearOfForest_0 14 rfl) 4 rfl ?_
          obtain ⟨g12, h⟩ := gd_of h
          refine v_iald F 37 (xn (by decide)) xc_37 (ib_in g12) (dq dkX10_yearOfForest_0 15 rfl) ?_
          refine v_aload_n F (dq dkX10_yearOfForest_0 16 rfl) rfl 0 rfl ?_
          refine v_get F 0 (xn (by decide)) xc_0 rfl inlX10 6 (by decide) (tc2 _ (List.mem_of_getElem? (i := 12) rfl)) rfl rfl (dq dkX10_yearOfForest_0 17 rfl) ?_
          refine v_iload_n F (dq dkX10_yearOfForest_0 18 rfl) rfl 3 rfl ?_
          obtain ⟨g13, h⟩ := gd_of h
          refine v_iald F 37 (xn (by decide)) xc_37 (ib_in g13) (dq dkX10_yearOfForest_0 19 rfl) ?_
          refine v_icmp_le F (tgt := 41) (dq dkX10_yearOfForest_0 20 rfl) (by decide) (fun c14 => ?_) (fun c14 => ?_)
          · rw [if_pos c14] at h
            exact t_X10_yearOfForest_41 (f_X10_yearOfForest_5 n) x a1 a2 a3 a4 ih h F E
          · rw [if_neg c14] at h
            refine v_sub [0, 1, 2, 4] rfl ?_
            exact t_X10_yearOfForest_38 (f_X10_yearOfForest_5 n) x a1 a2 a4 ih h F E
def f_X10_yearOfForest (x : CS) (a1 : Int32) (a2 : Int32) : Option (Int32 × CS) := f_X10_yearOfForest_5 1000 x a1 a2 (-1) 0
set_option maxRecDepth 100000 in
set_option maxHeartbeats 4000000 in
theorem c_X10_yearOfForest {K : KE} {l : Launch} {R : Int32 × CS} (x : CS) (y : MS) (a1 : Int32) (a2 : Int32) (h : f_X10_yearOfForest x a1 a2 = some R) : MC K l yX10_yearOfForest cX10_yearOfForest 6 (some .int) rm_X10_yearOfForest 0 0 [.ref (K.1 + 0), .int a1, .int a2] (xf K x y) (xf K R.2 y) (some (.int R.1)) := by
  unfold f_X10_yearOfForest at h
  refine mc_of (ls0 := [(0, .ref (K.1 + 0)), (1, .int a1), (2, .int a2)]) (by decide) (Nat.le_of_ble_eq_true rfl) rfl (fun C hl hnm F E => ?_)
  have F : Fx C RX10 cX10_yearOfForest 6 rm_X10_yearOfForest K := F
  refine v_iconst F (v := (-1)) (dq dkX10_yearOfForest_0 0 rfl) ki_m1 ?_
  refine v_istore_n F (ls' := [(3, .int (-1)), (0, .ref (K.1 + 0)), (1, .int a1), (2, .int a2)]) (dq dkX10_yearOfForest_0 1 rfl) rfl (by decide) rfl ?_
  refine v_iconst F (v := 0) (dq dkX10_yearOfForest_0 2 rfl) ki_0 ?_
  refine v_istore F (ls' := [(4, .int 0), (3, .int (-1)), (0, .ref (K.1 + 0)), (1, .int a1), (2, .int a2)]) (dq dkX10_yearOfForest_0 3 rfl) (by decide) rfl ?_
  refine v_sub [2, 3, 4, 1, 0] rfl ?_
  exact t_X10_yearOfForest_5 F E 1000 x a1 a2 (-1) 0 h
def rm_X10_forest : Room := { frames := 3, cells := 0, slots := 0, locals := 72 }
def f_X10_forest_22 (x : CS) : Option (Int32 × CS) := some ((-2), x)
set_option maxRecDepth 100000 in
set_option maxHeartbeats 4000000 in
theorem t_X10_forest_22 {C : Cx} {K : KE} {y : MS} {R : Int32 × CS}  (x : CS) (h : f_X10_forest_22 x = some R) (F : Fx C RX10 cX10_forest 8 rm_X10_forest K) (E : CE C (xf K R.2 y) (some (.int R.1)) 0 0 (some .int)) : V C 22 [] [] (xf K x y) 0 0 := by
  unfold f_X10_forest_22 at h
  refine v_bipush F (v := (-2)) (dq dkX10_forest_0 10 rfl) kb_m2 ?_
  have h := Option.some.inj h
  subst h
  exact v_iret F E (dq dkX10_forest_0 11 rfl)
def f_X10_forest_45 (x : CS) (a4 : Option Nat) : Option (Int32 × CS) := oc a4 ((f_X10_refusalFor none).bind fun r1 => some (r1, x)) (fun za4 => (f_X10_refusalFor (some za4)).bind fun r3 => some (r3, x))
set_option maxRecDepth 100000 in
set_option maxHeartbeats 4000000 in
theorem t_X10_forest_45 {C : Cx} {K : KE} {y : MS} {R : Int32 × CS}  (x : CS) (a4 : Option Nat) (h : f_X10_forest_45 x a4 = some R) (F : Fx C RX10 cX10_forest 8 rm_X10_forest K) (E : CE C (xf K R.2 y) (some (.int R.1)) 0 0 (some .int)) : V C 45 [(4, va_rf (a4.map (fun q => K.1 + q)))] [] (xf K x y) 0 0 := by
  unfold f_X10_forest_45 at h
  rcases a4 with _ | za4
  · have h := oc_nh h
    refine v_aloadN F (dq dkX10_forest_0 21 rfl) 0 rfl ?_
    obtain ⟨r1, e2, h⟩ := bd_of h
    refine v_callS 1 F (kc1 := 0) (ks1 := 0) (as := [.null]) (st := []) (st1 := (.int r1 :: [])) (res := (some (.int r1))) (c_X10_refusalFor (l := C.2.1) none e2) (tc35 _ (List.mem_of_getElem? (i := 4) rfl)) (tc35 _ (List.mem_of_getElem? (i := 5) rfl)) (tc1 _ (List.mem_of_getElem? (i := 2) rfl)) (tc35 _ (List.mem_of_getElem? (i := 6) rfl)) (by decide) rfl ⟨rfl, rfl, Nat.le_of_ble_eq_true rfl, Nat.le_of_ble_eq_true rfl⟩ ⟨Nat.le_of_ble_eq_true rfl, Nat.le_of_ble_eq_true rfl⟩ rfl (Nat.le_of_ble_eq_true rfl) rfl rfl rfl (dq dkX10_forest_0 22 rfl) ?_
    have h := Option.some.inj h
    subst h
    exact v_iret F E (dq dkX10_forest_0 23 rfl)
  · have h := oc_sh h
    refine v_aload F (dq dkX10_forest_0 21 rfl) 0 rfl ?_
    obtain ⟨r3, e4, h⟩ := bd_of h
    refine v_callS 1 F (kc1 := 0) (ks1 := 0) (as := [.ref (K.1 + za4)]) (st := []) (st1 := (.int r3 :: [])) (res := (some (.int r3))) (c_X10_refusalFor (l := C.2.1) (some za4) e4) (tc35 _ (List.mem_of_getElem? (i := 4) rfl)) (tc35 _ (List.mem_of_getElem? (i := 5) rfl)) (tc1 _ (List.mem_of_getElem? (i := 2) rfl)) (tc35 _ (List.mem_of_getElem? (i := 6) rfl)) (by decide) rfl ⟨rfl, rfl, Nat.le_of_ble_eq_true rfl, Nat.le_of_ble_eq_true rfl⟩ ⟨Nat.le_of_ble_eq_true rfl, Nat.le_of_ble_eq_true rfl⟩ rfl (Nat.le_of_ble_eq_true rfl) rfl rfl rfl (dq dkX10_forest_0 22 rfl) ?_
    have h := Option.some.inj h
    subst h
    exact v_iret F E (dq dkX10_forest_0 23 rfl)
def f_X10_forest_119 : Nat → CS → Int32 → Int32 → Int32 → Int32 → Int32 → Option (Int32 × CS)
  | 0, _, _, _, _, _, _ => none
  | n + 1, x, a2, a3, a5, a6, a7 => if a3 ≤ a7 then (some (a6, x)) else ((f_X10_yearOfForest x a5 a2).bind fun r6 => (f_X10_forest_119 n) r6.2 a2 a3 a5 (a6 + r6.1) (a7 + 1))
set_option maxRecDepth 100000 in
set_option maxHeartbeats 4000000 in
theorem t_X10_forest_119 {C : Cx} {K : KE} {y : MS} {R : Int32 × CS}  (F : Fx C RX10 cX10_forest 8 rm_X10_forest K) (E : CE C (xf K R.2 y) (some (.int R.1)) 0 0 (some .int)) : ∀ (n : Nat) (x : CS) (a2 : Int32) (a3 : Int32) (a5 : Int32) (a6 : Int32) (a7 : Int32) (h : f_X10_forest_119 n x a2 a3 a5 a6 a7 = some R), V C 119 [(0, .ref (K.1 + 0)), (2, .int a2), (3, .int a3), (5, .int a5), (6, .int a6), (7, .int a7)] [] (xf K x y) 0 0 := by
  intro n
  induction n with
  | zero => intro x a2 a3 a5 a6 a7 h; cases h
  | succ n ih =>
    intro x a2 a3 a5 a6 a7 h
    rw [f_X10_forest_119] at h
    refine v_iload F (dq dkX10_forest_1 17 rfl) 5 rfl ?_
    refine v_iload_n F (dq dkX10_forest_1 18 rfl) rfl 2 rfl ?_
    refine v_icmp_ge F (tgt := 143) (dq dkX10_forest_1 19 rfl) (by decide) (fun c5 => ?_) (fun c5 => ?_)
    · rw [if_pos c5] at h
      refine v_iload F (dq dkX10_forest_1 29 rfl) 4 rfl ?_
      have h := Option.some.inj h
      subst h
      exact v_iret F E (dq dkX10_forest_1 30 rfl)
    · rw [if_neg c5] at h
      refine v_iload F (dq dkX10_forest_1 20 rfl) 4 rfl ?_
      refine v_aload_n F (dq dkX10_forest_1 21 rfl) rfl 0 rfl ?_
      refine v_iload F (dq dkX10_forest_1 22 rfl) 3 rfl ?_
      refine v_iload_n F (dq dkX10_forest_1 23 rfl) rfl 1 rfl ?_
      obtain ⟨r6, e7, h⟩ := bd_of h
      refine v_callV 2 F (q := 0) (kc1 := 0) (ks1 := 0) (as := [.int a5, .int a2]) (st := [.int a6]) (st1 := (.int r6.1 :: [.int a6])) (res := (some (.int r6.1))) (c_X10_yearOfForest (l := C.2.1) x y a5 a2 e7) (xn (by decide)) xc_0 rfl (tc48 _ (List.mem_of_getElem? (i := 16) rfl)) (tc48 _ (List.mem_of_getElem? (i := 17) rfl)) (tc48 _ (List.mem_of_getElem? (i := 18) rfl)) (tc1 _ (List.mem_of_getElem? (i := 2) rfl)) (tc48 _ (List.mem_of_getElem? (i := 19) rfl)) (by decide) rfl ⟨rfl, rfl, Nat.le_of_ble_eq_true rfl, Nat.le_of_ble_eq_true rfl⟩ ⟨Nat.le_of_ble_eq_true rfl, Nat.le_of_ble_eq_true rfl⟩ rfl (Nat.le_of_ble_eq_true rfl) rfl rfl rfl (dq dkX10_forest_1 24 rfl) ?_
      refine v_iadd F (dq dkX10_forest_1 25 rfl) ?_
      refine v_istore F (ls' := [(6, .int (a6 + r6.1)), (0, .ref (K.1 + 0)), (2, .int a2), (3, .int a3), (5, .int a5), (7, .int a7)]) (dq dkX10_forest_1 26 rfl) (by decide) rfl ?_
      refine v_iinc F (v := a7 + 1) (ls' := [(7, .int (a7 + 1)), (6, .int (a6 + r6.1)), (0, .ref (K.1 + 0)), (2, .int a2), (3, .int a3), (5, .int a5)]) (dq dkX10_forest_1 27 rfl) (j := 5) rfl (kv_add ki_1) (by decide) rfl ?_
      refine v_goto F (tgt := 119) (dq dkX10_forest_1 28 rfl) (by decide) ?_
      refine v_sub [2, 3, 4, 5, 1, 0] rfl ?_
      exact ih r6.2 a2 a3 a5 (a6 + r6.1) (a7 + 1) h
def f_X10_forest_66 : Nat → CS → Int32 → Int32 → Option Nat → Int32 → Int32 → Option (Int32 × CS)
  | 0, _, _, _, _, _, _ => none
  | n + 1, x, a2, a3, a4, a5, a6 => oc a4 (if a5 ≤ a6 then (f_X10_forest_119 1000 x a2 a3 a5 0 0) else none) (fun za4 => if a5 ≤ a6 then (f_X10_forest_119 1000 x a2 a3 a5 0 0) else ((f_X4_at x za4 a6).bind fun r10 => gd (ib a6 40) (gd (ib a6 40) (if (b2i (f_X10_within (gi (pi x 37 a6.toNatClampNeg r10) 37 a6.toNatClampNeg) 0 999)) = 0 then (some ((-2), pi x 37 a6.toNatClampNeg r10)) else ((f_X10_forest_66 n) (pi x 37 a6.toNatClampNeg r10) a2 a3 (some za4) a5 (a6 + 1))))))
set_option maxRecDepth 100000 in
set_option maxHeartbeats 4000000 in
theorem t_X10_forest_66 {C : Cx} {K : KE} {y : MS} {R : Int32 × CS}  (F : Fx C RX10 cX10_forest 8 rm_X10_forest K) (E : CE C (xf K R.2 y) (some (.int R.1)) 0 0 (some .int)) : ∀ (n : Nat) (x : CS) (a2 : Int32) (a3 : Int32) (a4 : Option Nat) (a5 : Int32) (a6 : Int32) (h : f_X10_forest_66 n x a2 a3 a4 a5 a6 = some R), V C 66 [(0, .ref (K.1 + 0)), (2, .int a2), (3, .int a3), (4, va_rf (a4.map (fun q => K.1 + q))), (5, .int a5), (6, .int a6)] [] (xf K x y) 0 0 := by
  intro n
  induction n with
  | zero => intro x a2 a3 a4 a5 a6 h; cases h
  | succ n ih =>
    intro x a2 a3 a4 a5 a6 h
    rw [f_X10_forest_66] at h
    rcases a4 with _ | za4
    · have h := oc_nh h
      refine v_iload F (dq dkX10_forest_0 31 rfl) 5 rfl ?_
      refine v_iload F (dq dkX10_forest_0 32 rfl) 4 rfl ?_
      refine v_icmp_ge F (tgt := 113) (dq dkX10_forest_0 33 rfl) (by decide) (fun c8 => ?_) (fun c8 => ?_)
      · rw [if_pos c8] at h
        refine v_iconst F (v := 0) (dq dkX10_forest_1 13 rfl) ki_0 ?_
        refine v_istore F (ls' := [(6, .int 0), (0, .ref (K.1 + 0)), (2, .int a2), (3, .int a3), (4, .null), (5, .int a5)]) (dq dkX10_forest_1 14 rfl) (by decide) rfl ?_
        refine v_iconst F (v := 0) (dq dkX10_forest_1 15 rfl) ki_0 ?_
        refine v_istore F (ls' := [(7, .int 0), (6, .int 0), (0, .ref (K.1 + 0)), (2, .int a2), (3, .int a3), (4, .null), (5, .int a5)]) (dq dkX10_forest_1 16 rfl) (by decide) rfl ?_
        refine v_sub [2, 3, 4, 6, 1, 0] rfl ?_
        exact t_X10_forest_119 F E 1000 x a2 a3 a5 0 0 h
      · rw [if_neg c8] at h
        refine v_aload_n F (dq dkX10_forest_0 34 rfl) rfl 0 rfl ?_
        refine v_get F 0 (xn (by decide)) xc_0 rfl inlX10 6 (by decide) (tc2 _ (List.mem_of_getElem? (i := 12) rfl)) rfl rfl (dq dkX10_forest_0 35 rfl) ?_
        refine v_iload F (dq dkX10_forest_0 36 rfl) 5 rfl ?_
        refine v_aloadN F (dq dkX10_forest_0 37 rfl) 3 rfl ?_
        refine v_iload F (dq dkX10_forest_0 38 rfl) 5 rfl ?_
        cases h
    · have h := oc_sh h
      refine v_iload F (dq dkX10_forest_0 31 rfl) 5 rfl ?_
      refine v_iload F (dq dkX10_forest_0 32 rfl) 4 rfl ?_
      refine v_icmp_ge F (tgt := 113) (dq dkX10_forest_0 33 rfl) (by decide) (fun c9 => ?_) (fun c9 => ?_)
      · rw [if_pos c9] at h
        refine v_iconst F (v := 0) (dq dkX10_forest_1 13 rfl) ki_0 ?_
        refine v_istore F (ls' := [(6, .int 0), (0, .ref (K.1 + 0)), (2, .int a2), (3, .int a3), (4, .ref (K.1 + za4)), (5, .int a5)]) (dq dkX10_forest_1 14 rfl) (by decide) rfl ?_
        refine v_iconst F (v := 0) (dq dkX10_forest_1 15 rfl) ki_0 ?_
        refine v_istore F (ls' := [(7, .int 0), (6, .int 0), (0, .ref (K.1 + 0)), (2, .int a2), (3, .int a3), (4, .ref (K.1 + za4)), (5, .int a5)]) (dq dkX10_forest_1 16 rfl) (by decide) rfl ?_
        refine v_sub [2, 3, 4, 6, 1, 0] rfl ?_
        exact t_X10_forest_119 F E 1000 x a2 a3 a5 0 0 h
      · rw [if_neg c9] at h
        refine v_aload_n F (dq dkX10_forest_0 34 rfl) rfl 0 rfl ?_
        refine v_get F 0 (xn (by decide)) xc_0 rfl inlX10 6 (by decide) (tc2 _ (List.mem_of_getElem? (i := 12) rfl)) rfl rfl (dq dkX10_forest_0 35 rfl) ?_
        refine v_iload F (dq dkX10_forest_0 36 rfl) 5 rfl ?_
        refine v_aload F (dq dkX10_forest_0 37 rfl) 3 rfl ?_
        refine v_iload F (dq dkX10_forest_0 38 rfl) 5 rfl ?_
        obtain ⟨r10, e11, h⟩ := bd_of h
        refine v_callV 1 F (q := za4) (kc1 := 0) (ks1 := 0) (as := [.int a6]) (st := [.int a6, .ref (K.1 + 37)]) (st1 := (.int r10 :: [.int a6, .ref (K.1 + 37)])) (res := (some (.int r10))) (c_X4_at (l := C.2.1) x y za4 a6 e11) (kSh_lt (f_X4_at_k e11)) (kSh_at (f_X4_at_k e11)) rfl (tc35 _ (List.mem_of_getElem? (i := 7) rfl)) (tc35 _ (List.mem_of_getElem? (i := 8) rfl)) (tc35 _ (List.mem_of_getElem? (i := 9) rfl)) (tc2 _ (List.mem_of_getElem? (i := 22) rfl)) (tc35 _ (List.mem_of_getElem? (i := 10) rfl)) (by decide) rfl ⟨rfl, rfl, Nat.le_of_ble_eq_true rfl, Nat.le_of_ble_eq_true rfl⟩ ⟨Nat.le_of_ble_eq_true rfl, Nat.le_of_ble_eq_true rfl⟩ rfl (Nat.le_of_ble_eq_true rfl) rfl rfl rfl (dq dkX10_forest_0 39 rfl) ?_
        obtain ⟨g12, h⟩ := gd_of h
        refine v_iast F 37 (xn (by decide)) xc_37 (ib_in g12) (dq dkX10_forest_1 0 rfl) ?_
        refine v_eqM (xwC (q := 37) (j := a6.toNatClampNeg) (v := r10) (by decide) rfl) ?_
        refine v_aload_n F (dq dkX10_forest_1 1 rfl) rfl 0 rfl ?_
        refine v_get F 0 (xn (by decide)) xc_0 rfl inlX10 6 (by decide) (tc2 _ (List.mem_of_getElem? (i := 12) rfl)) rfl rfl (dq dkX10_forest_1 2 rfl) ?_
        refine v_iload F (dq dkX10_forest_1 3 rfl) 5 rfl ?_
        obtain ⟨g13, h⟩ := gd_of h
        refine v_iald F 37 (xn (by decide)) xc_37 (ib_in g13) (dq dkX10_forest_1 4 rfl) ?_
        refine v_iconst F (v := 0) (dq dkX10_forest_1 5 rfl) ki_0 ?_
        refine v_sipush F (v := 999) (dq dkX10_forest_1 6 rfl) ks_999 ?_
        refine v_callS 3 F (kc1 := 0) (ks1 := 0) (as := [.int (gi (pi x 37 a6.toNatClampNeg r10) 37 a6.toNatClampNeg), .int 0, .int 999]) (st := []) (st1 := (.int (b2i (f_X10_within (gi (pi x 37 a6.toNatClampNeg r10) 37 a6.toNatClampNeg) 0 999)) :: [])) (res := (some (.int (b2i (f_X10_within (gi (pi x 37 a6.toNatClampNeg r10) 37 a6.toNatClampNeg) 0 999))))) (c_X10_within (l := C.2.1) (gi (pi x 37 a6.toNatClampNeg r10) 37 a6.toNatClampNeg) 0 999) (tc14 _ (List.mem_of_getElem? (i := 3) rfl)) (tc8 _ (List.mem_of_getElem? (i := 15) rfl)) (tc1 _ (List.mem_of_getElem? (i := 2) rfl)) (tc8 _ (List.mem_of_getElem? (i := 16) rfl)) (by decide) rfl ⟨rfl, rfl, Nat.le_of_ble_eq_true rfl, Nat.le_of_ble_eq_true rfl⟩ ⟨Nat.le_of_ble_eq_true rfl, Nat.le_of_ble_eq_true rfl⟩ rfl (Nat.le_of_ble_eq_true rfl) rfl rfl rfl (dq dkX10_forest_1 7 rfl) ?_
        refine v_if_ne F (tgt := 107) (dq dkX10_forest_1 8 rfl) (by decide) (fun c15 => ?_) (fun c15 => ?_)
        · rw [if_neg c15] at h
          refine v_iinc F (v := a6 + 1) (ls' := [(6, .int (a6 + 1)), (0, .ref (K.1 + 0)), (2, .int a2), (3, .int a3), (4, .ref (K.1 + za4)), (5, .int a5)]) (dq dkX10_forest_1 11 rfl) (j := 5) rfl (kv_add ki_1) (by decide) rfl ?_
          refine v_goto F (tgt := 66) (dq dkX10_forest_1 12 rfl) (by decide) ?_
          refine v_sub [1, 2, 3, 4, 5, 0] rfl ?_
          exact ih (pi x 37 a6.toNatClampNeg r10) a2 a3 (some za4) a5 (a6 + 1) h
        · rw [if_pos c15] at h
          refine v_bipush F (v := (-2)) (dq dkX10_forest_1 9 rfl) kb_m2 ?_
          have h := Option.some.inj h
          subst h
          exact v_iret F E (dq dkX10_forest_1 10 rfl)
def f_X10_forest (x : CS) (a1 : Int32) (a2 : Int32) (a3 : Int32) : Option (Int32 × CS) := if (b2i (f_X10_within a2 1 999)) = 0 then (f_X10_forest_22 x) else (if (b2i (f_X10_within a3 0 200)) = 0 then (f_X10_forest_22 x) else ((f_X10_sheetAt x a1).bind fun r20 => oc r20 (f_X10_forest_45 x none) (fun s22 => (f_X4_isMissing x s22).bind fun r23 => if (b2i r23) = 0 then (gd (kSh s22) (f_X10_forest_66 1000 x a2 a3 (some s22) (if 40 < (gi x s22 2) then 40 else (gi x s22 2)) 0)) else (f_X10_forest_45 x (some s22)))))
set_option maxRecDepth 100000 in
set_option maxHeartbeats 4000000 in
theorem c_X10_forest {K : KE} {l : Launch} {R : Int32 × CS} (x : CS) (y : MS) (a1 : Int32) (a2 : Int32) (a3 : Int32) (h : f_X10_forest x a1 a2 a3 = some R) : MC K l yX10_forest cX10_forest 8 (some .int) rm_X10_forest 0 0 [.ref (K.1 + 0), .int a1, .int a2, .int a3] (xf K x y) (xf K R.2 y) (some (.int R.1)) := by
  unfold f_X10_forest at h
  refine mc_of (ls0 := [(0, .ref (K.1 + 0)), (1, .int a1), (2, .int a2), (3, .int a3)]) (by decide) (Nat.le_of_ble_eq_true rfl) rfl (fun C hl hnm F E => ?_)
  have F : Fx C RX10 cX10_forest 8 rm_X10_forest K := F
  refine v_iload_n F (dq dkX10_forest_0 0 rfl) rfl 2 rfl ?_
  refine v_iconst F (v := 1) (dq dkX10_forest_0 1 rfl) ki_1 ?_
  refine v_sipush F (v := 999) (dq dkX10_forest_0 2 rfl) ks_999 ?_
  refine v_callS 3 F (kc1 := 0) (ks1 := 0) (as := [.int a2, .int 1, .int 999]) (st := []) (st1 := (.int (b2i (f_X10_within a2 1 999)) :: [])) (res := (some (.int (b2i (f_X10_within a2 1 999))))) (c_X10_within (l := C.2.1) a2 1 999) (tc14 _ (List.mem_of_getElem? (i := 3) rfl)) (tc8 _ (List.mem_of_getElem? (i := 15) rfl)) (tc1 _ (List.mem_of_getElem? (i := 2) rfl)) (tc8 _ (List.mem_of_getElem? (i := 16) rfl)) (by decide) rfl ⟨rfl, rfl, Nat.le_of_ble_eq_true rfl, Nat.le_of_ble_eq_true rfl⟩ ⟨Nat.le_of_ble_eq_true rfl, Nat.le_of_ble_eq_true rfl⟩ rfl (Nat.le_of_ble_eq_true rfl) rfl rfl rfl (dq dkX10_forest_0 3 rfl) ?_
  refine v_if_eq F (tgt := 22) (dq dkX10_forest_0 4 rfl) (by decide) (fun c17 => ?_) (fun c17 => ?_)
  · rw [if_pos c17] at h
    refine v_sub [] rfl ?_
    exact t_X10_forest_22 x h F E
  · rw [if_neg c17] at h
    refine v_iload_n F (dq dkX10_forest_0 5 rfl) rfl 3 rfl ?_
    refine v_iconst F (v := 0) (dq dkX10_forest_0 6 rfl) ki_0 ?_
    refine v_sipush F (v := 200) (dq dkX10_forest_0 7 rfl) ks_200 ?_
    refine v_callS 3 F (kc1 := 0) (ks1 := 0) (as := [.int a3, .int 0, .int 200]) (st := []) (st1 := (.int (b2i (f_X10_within a3 0 200)) :: [])) (res := (some (.int (b2i (f_X10_within a3 0 200))))) (c_X10_within (l := C.2.1) a3 0 200) (tc14 _ (List.mem_of_getElem? (i := 3) rfl)) (tc8 _ (List.mem_of_getElem? (i := 15) rfl)) (tc1 _ (List.mem_of_getElem? (i := 2) rfl)) (tc8 _ (List.mem_of_getElem? (i := 16) rfl)) (by decide) rfl ⟨rfl, rfl, Nat.le_of_ble_eq_true rfl, Nat.le_of_ble_eq_true rfl⟩ ⟨Nat.le_of_ble_eq_true rfl, Nat.le_of_ble_eq_true rfl⟩ rfl (Nat.le_of_ble_eq_true rfl) rfl rfl rfl (dq dkX10_forest_0 8 rfl) ?_
    refine v_if_ne F (tgt := 25) (dq dkX10_forest_0 9 rfl) (by decide) (fun c19 => ?_) (fun c19 => ?_)
    · rw [if_neg c19] at h
      refine v_aload_n F (dq dkX10_forest_0 12 rfl) rfl 0 rfl ?_
      refine v_iload_n F (dq dkX10_forest_0 13 rfl) rfl 1 rfl ?_
      obtain ⟨r20, e21, h⟩ := bd_of h
      refine v_callV 1 F (q := 0) (kc1 := 0) (ks1 := 0) (as := [.int a1]) (st := []) (st1 := (va_rf (r20.map (fun q => K.1 + q)) :: [])) (res := (some (va_rf (r20.map (fun q => K.1 + q))))) (c_X10_sheetAt (l := C.2.1) x y a1 e21) (xn (by decide)) xc_0 rfl (tc34 _ (List.mem_of_getElem? (i := 17) rfl)) (tc34 _ (List.mem_of_getElem? (i := 18) rfl)) (tc34 _ (List.mem_of_getElem? (i := 19) rfl)) (tc1 _ (List.mem_of_getElem? (i := 2) rfl)) (tc34 _ (List.mem_of_getElem? (i := 20) rfl)) (by decide) rfl ⟨rfl, rfl, Nat.le_of_ble_eq_true rfl, Nat.le_of_ble_eq_true rfl⟩ ⟨Nat.le_of_ble_eq_true rfl, Nat.le_of_ble_eq_true rfl⟩ rfl (Nat.le_of_ble_eq_true rfl) rfl rfl rfl (dq dkX10_forest_0 14 rfl) ?_
      rcases r20 with _ | s22
      · have h := oc_nh h
        refine v_astoreN F (ls' := [(4, .null), (0, .ref (K.1 + 0)), (1, .int a1), (2, .int a2), (3, .int a3)]) (dq dkX10_forest_0 15 rfl) (by decide) rfl ?_
        refine v_aloadN F (dq dkX10_forest_0 16 rfl) 0 rfl ?_
        refine v_ifnullN F (tgt := 45) (dq dkX10_forest_0 17 rfl) (by decide) ?_
        refine v_sub [0] rfl ?_
        exact t_X10_forest_45 x none h F E
      · have h := oc_sh h
        refine v_astore F (ls' := [(4, .ref (K.1 + s22)), (0, .ref (K.1 + 0)), (1, .int a1), (2, .int a2), (3, .int a3)]) (dq dkX10_forest_0 15 rfl) (by decide) rfl ?_
        refine v_aload F (dq dkX10_forest_0 16 rfl) 0 rfl ?_
        refine v_ifnull F (dq dkX10_forest_0 17 rfl) ?_
        refine v_aload F (dq dkX10_forest_0 18 rfl) 0 rfl ?_
        obtain ⟨r23, e24, h⟩ := bd_of h
        refine v_callV 0 F (q := s22) (kc1 := 0) (ks1 := 0) (as := []) (st := []) (st1 := (.int (b2i r23) :: [])) (res := (some (.int (b2i r23)))) (c_X4_isMissing (l := C.2.1) x y s22 e24) (kSh_lt (f_X4_isMissing_k e24)) (kSh_at (f_X4_isMissing_k e24)) rfl (tc35 _ (List.mem_of_getElem? (i := 0) rfl)) (tc35 _ (List.mem_of_getElem? (i := 1) rfl)) (tc35 _ (List.mem_of_getElem? (i := 2) rfl)) (tc2 _ (List.mem_of_getElem? (i := 22) rfl)) (tc35 _ (List.mem_of_getElem? (i := 3) rfl)) (by decide) rfl ⟨rfl, rfl, Nat.le_of_ble_eq_true rfl, Nat.le_of_ble_eq_true rfl⟩ ⟨Nat.le_of_ble_eq_true rfl, Nat.le_of_ble_eq_true rfl⟩ rfl (Nat.le_of_ble_eq_true rfl) rfl rfl rfl (dq dkX10_forest_0 19 rfl) ?_
        refine v_if_eq F (tgt := 51) (dq dkX10_forest_0 20 rfl) (by decide) (fun c25 => ?_) (fun c25 => ?_)
        · rw [if_pos c25] at h
          refine v_aload F (dq dkX10_forest_0 24 rfl) 0 rfl ?_
          obtain ⟨g26, h⟩ := gd_of h
          refine v_getN F s22 (kSh_lt g26) (kSh_at g26) rfl inlX4 2 (by decide) (List.mem_of_getElem? (i := 16) rfl) rfl rfl (dq dkX10_forest_0 25 rfl) ?_
          refine v_bipush F (v := 40) (dq dkX10_forest_0 26 rfl) kb_40 ?_
          refine v_mmin F (tc42 _ (List.mem_of_getElem? (i := 2) rfl)) (tc21 _ (List.mem_of_getElem? (i := 0) rfl)) (tc21 _ (List.mem_of_getElem? (i := 1) rfl)) (tc21 _ (List.mem_of_getElem? (i := 2) rfl)) (Nat.le_of_ble_eq_true rfl) (Nat.le_of_ble_eq_true rfl) (Nat.le_of_ble_eq_true rfl) (Nat.le_of_ble_eq_true rfl) (dq dkX10_forest_0 27 rfl) ?_
          refine v_istore F (ls' := [(5, .int (if 40 < (gi x s22 2) then 40 else (gi x s22 2))), (4, .ref (K.1 + s22)), (0, .ref (K.1 + 0)), (1, .int a1), (2, .int a2), (3, .int a3)]) (dq dkX10_forest_0 28 rfl) (by decide) rfl ?_
          refine v_iconst F (v := 0) (dq dkX10_forest_0 29 rfl) ki_0 ?_
          refine v_istore F (ls' := [(6, .int 0), (5, .int (if 40 < (gi x s22 2) then 40 else (gi x s22 2))), (4, .ref (K.1 + s22)), (0, .ref (K.1 + 0)), (1, .int a1), (2, .int a2), (3, .int a3)]) (dq dkX10_forest_0 30 rfl) (by decide) rfl ?_
          refine v_sub [3, 5, 6, 2, 1, 0] rfl ?_
          exact t_X10_forest_66 F E 1000 x a2 a3 (some s22) (if 40 < (gi x s22 2) then 40 else (gi x s22 2)) 0 h
        · rw [if_neg c25] at h
          refine v_sub [0] rfl ?_
          exact t_X10_forest_45 x (some s22) h F E
    · rw [if_pos c19] at h
      refine v_sub [] rfl ?_
      exact t_X10_forest_22 x h F E
def rm_X10_dries : Room := { frames := 8, cells := 0, slots := 0, locals := 205 }
def f_X10_dries (x : CS) (a1 : Int32) (a2 : Int32) : Option (Int32 × CS) := if (b2i (f_X10_isSoMany x a1)) = 0 then (some ((-5), x)) else (if (b2i (f_X10_within a2 0 99)) = 0 then (some ((-7), x)) else ((f_X10_makeHull x a1 (-1)).bind fun r5 => (f_X2_driedApart r5 a2).bind fun r7 => some (r7, r5)))
set_option maxRecDepth 100000 in
set_option maxHeartbeats 4000000 in
theorem c_X10_dries {K : KE} {l : Launch} {R : Int32 × CS} (x : CS) (y : MS) (a1 : Int32) (a2 : Int32) (h : f_X10_dries x a1 a2 = some R) : MC K l yX10_dries cX10_dries 3 (some .int) rm_X10_dries 0 0 [.ref (K.1 + 0), .int a1, .int a2] (xf K x y) (xf K R.2 y) (some (.int R.1)) := by
  unfold f_X10_dries at h
  refine mc_of (ls0 := [(0, .ref (K.1 + 0)), (1, .int a1), (2, .int a2)]) (by decide) (Nat.le_of_ble_eq_true rfl) rfl (fun C hl hnm F E => ?_)
  have F : Fx C RX10 cX10_dries 3 rm_X10_dries K := F
  refine v_aload_n F (dq dkX10_dries_0 0 rfl) rfl 0 rfl ?_
  refine v_iload_n F (dq dkX10_dries_0 1 rfl) rfl 1 rfl ?_
  refine v_callV 1 F (q := 0) (kc1 := 0) (ks1 := 0) (as := [.int a1]) (st := []) (st1 := (.int (b2i (f_X10_isSoMany x a1)) :: [])) (res := (some (.int (b2i (f_X10_isSoMany x a1))))) (c_X10_isSoMany (l := C.2.1) x y a1) (xn (by decide)) xc_0 rfl (tc24 _ (List.mem_of_getElem? (i := 23) rfl)) (tc25 _ (List.mem_of_getElem? (i := 0) rfl)) (tc25 _ (List.mem_of_getElem? (i := 1) rfl)) (tc1 _ (List.mem_of_getElem? (i := 2) rfl)) (tc25 _ (List.mem_of_getElem? (i := 2) rfl)) (by decide) rfl ⟨rfl, rfl, Nat.le_of_ble_eq_true rfl, Nat.le_of_ble_eq_true rfl⟩ ⟨Nat.le_of_ble_eq_true rfl, Nat.le_of_ble_eq_true rfl⟩ rfl (Nat.le_of_ble_eq_true rfl) rfl rfl rfl (dq dkX10_dries_0 2 rfl) ?_
  refine v_if_ne F (tgt := 11) (dq dkX10_dries_0 3 rfl) (by decide) (fun c2 => ?_) (fun c2 => ?_)
  · rw [if_neg c2] at h
    refine v_iload_n F (dq dkX10_dries_0 6 rfl) rfl 2 rfl ?_
    refine v_iconst F (v := 0) (dq dkX10_dries_0 7 rfl) ki_0 ?_
    refine v_bipush F (v := 99) (dq dkX10_dries_0 8 rfl) kb_99 ?_
    refine v_callS 3 F (kc1 := 0) (ks1 := 0) (as := [.int a2, .int 0, .int 99]) (st := []) (st1 := (.int (b2i (f_X10_within a2 0 99)) :: [])) (res := (some (.int (b2i (f_X10_within a2 0 99))))) (c_X10_within (l := C.2.1) a2 0 99) (tc14 _ (List.mem_of_getElem? (i := 3) rfl)) (tc8 _ (List.mem_of_getElem? (i := 15) rfl)) (tc1 _ (List.mem_of_getElem? (i := 2) rfl)) (tc8 _ (List.mem_of_getElem? (i := 16) rfl)) (by decide) rfl ⟨rfl, rfl, Nat.le_of_ble_eq_true rfl, Nat.le_of_ble_eq_true rfl⟩ ⟨Nat.le_of_ble_eq_true rfl, Nat.le_of_ble_eq_true rfl⟩ rfl (Nat.le_of_ble_eq_true rfl) rfl rfl rfl (dq dkX10_dries_0 9 rfl) ?_
    refine v_if_ne F (tgt := 24) (dq dkX10_dries_0 10 rfl) (by decide) (fun c4 => ?_) (fun c4 => ?_)
    · rw [if_neg c4] at h
      refine v_aload_n F (dq dkX10_dries_0 13 rfl) rfl 0 rfl ?_
      refine v_iload_n F (dq dkX10_dries_0 14 rfl) rfl 1 rfl ?_
      refine v_iconst F (v := (-1)) (dq dkX10_dries_0 15 rfl) ki_m1 ?_
      obtain ⟨r5, e6, h⟩ := bd_of h
      refine v_callV 2 F (q := 0) (kc1 := 0) (ks1 := 0) (as := [.int a1, .int (-1)]) (st := []) (st1 := []) (res := none) (c_X10_makeHull (l := C.2.1) x y a1 (-1) e6) (xn (by decide)) xc_0 rfl (tc25 _ (List.mem_of_getElem? (i := 3) rfl)) (tc25 _ (List.mem_of_getElem? (i := 4) rfl)) (tc25 _ (List.mem_of_getElem? (i := 5) rfl)) (tc1 _ (List.mem_of_getElem? (i := 2) rfl)) (tc25 _ (List.mem_of_getElem? (i := 6) rfl)) (by decide) rfl ⟨rfl, rfl, Nat.le_of_ble_eq_true rfl, Nat.le_of_ble_eq_true rfl⟩ ⟨Nat.le_of_ble_eq_true rfl, Nat.le_of_ble_eq_true rfl⟩ rfl (Nat.le_of_ble_eq_true rfl) rfl rfl rfl (dq dkX10_dries_0 16 rfl) ?_
      refine v_aload_n F (dq dkX10_dries_0 17 rfl) rfl 0 rfl ?_
      refine v_get F 0 (xn (by decide)) xc_0 rfl inlX10 7 (by decide) (tc2 _ (List.mem_of_getElem? (i := 20) rfl)) rfl rfl (dq dkX10_dries_0 18 rfl) ?_
      refine v_iload_n F (dq dkX10_dries_0 19 rfl) rfl 2 rfl ?_
      obtain ⟨r7, e8, h⟩ := bd_of h
      refine v_callV 1 F (q := 48) (kc1 := 0) (ks1 := 0) (as := [.int a2]) (st := []) (st1 := (.int r7 :: [])) (res := (some (.int r7))) (c_X2_driedApart (l := C.2.1) r5 y a2 e8) (xn (by decide)) xc_48 rfl (tc49 _ (List.mem_of_getElem? (i := 4) rfl)) (tc49 _ (List.mem_of_getElem? (i := 5) rfl)) (tc49 _ (List.mem_of_getElem? (i := 6) rfl)) (tc2 _ (List.mem_of_getElem? (i := 19) rfl)) (tc49 _ (List.mem_of_getElem? (i := 7) rfl)) (by decide) rfl ⟨rfl, rfl, Nat.le_of_ble_eq_true rfl, Nat.le_of_ble_eq_true rfl⟩ ⟨Nat.le_of_ble_eq_true rfl, Nat.le_of_ble_eq_true rfl⟩ rfl (Nat.le_of_ble_eq_true rfl) rfl rfl rfl (dq dkX10_dries_0 20 rfl) ?_
      have h := Option.some.inj h
      subst h
      exact v_iret F E (dq dkX10_dries_0 21 rfl)
    · rw [if_pos c4] at h
      refine v_bipush F (v := (-7)) (dq dkX10_dries_0 11 rfl) kb_m7 ?_
      have h := Option.some.inj h
      subst h
      exact v_iret F E (dq dkX10_dries_0 12 rfl)
  · rw [if_pos c2] at h
    refine v_bipush F (v := (-5)) (dq dkX10_dries_0 4 rfl) kb_m5 ?_
    have h := Option.some.inj h
    subst h
    exact v_iret F E (dq dkX10_dries_0 5 rfl)
def rm_X10_shade : Room := { frames := 8, cells := 0, slots := 0, locals := 205 }
def f_X10_shade_19 : Nat → CS → Int32 → Option (Int32 × CS)
  | 0, _, _ => none
  | n + 1, x, a2 => if 99 < a2 then (some ((-1), x)) else ((f_X2_driedApart x a2).bind fun r2 => if r2 = 0 then ((f_X10_shade_19 n) x (a2 + 1)) else (some (a2 - 1, x)))
set_option maxRecDepth 100000 in
set_option maxHeartbeats 4000000 in
theorem t_X10_shade_19 {C : Cx} {K : KE} {y : MS} {R : Int32 × CS}  (F : Fx C RX10 cX10_shade 3 rm_X10_shade K) (E : CE C (xf K R.2 y) (some (.int R.1)) 0 0 (some .int)) : ∀ (n : Nat) (x : CS) (a2 : Int32) (h : f_X10_shade_19 n x a2 = some R), V C 19 [(0, .ref (K.1 + 0)), (2, .int a2)] [] (xf K x y) 0 0 := by
  intro n
  induction n with
  | zero => intro x a2 h; cases h
  | succ n ih =>
    intro x a2 h
    rw [f_X10_shade_19] at h
    refine v_iload_n F (dq dkX10_shade_0 12 rfl) rfl 1 rfl ?_
    refine v_bipush F (v := 99) (dq dkX10_shade_0 13 rfl) kb_99 ?_
    refine v_icmp_gt F (tgt := 46) (dq dkX10_shade_0 14 rfl) (by decide) (fun c1 => ?_) (fun c1 => ?_)
    · rw [if_pos c1] at h
      refine v_iconst F (v := (-1)) (dq dkX10_shade_0 26 rfl) ki_m1 ?_
      have h := Option.some.inj h
      subst h
      exact v_iret F E (dq dkX10_shade_0 27 rfl)
    · rw [if_neg c1] at h
      refine v_aload_n F (dq dkX10_shade_0 15 rfl) rfl 0 rfl ?_
      refine v_get F 0 (xn (by decide)) xc_0 rfl inlX10 7 (by decide) (tc2 _ (List.mem_of_getElem? (i := 20) rfl)) rfl rfl (dq dkX10_shade_0 16 rfl) ?_
      refine v_iload_n F (dq dkX10_shade_0 17 rfl) rfl 1 rfl ?_
      obtain ⟨r2, e3, h⟩ := bd_of h
      refine v_callV 1 F (q := 48) (kc1 := 0) (ks1 := 0) (as := [.int a2]) (st := []) (st1 := (.int r2 :: [])) (res := (some (.int r2))) (c_X2_driedApart (l := C.2.1) x y a2 e3) (xn (by decide)) xc_48 rfl (tc49 _ (List.mem_of_getElem? (i := 4) rfl)) (tc49 _ (List.mem_of_getElem? (i := 5) rfl)) (tc49 _ (List.mem_of_getElem? (i := 6) rfl)) (tc2 _ (List.mem_of_getElem? (i := 19) rfl)) (tc49 _ (List.mem_of_getElem? (i := 7) rfl)) (by decide) rfl ⟨rfl, rfl, Nat.le_of_ble_eq_true rfl, Nat.le_of_ble_eq_true rfl⟩ ⟨Nat.le_of_ble_eq_true rfl, Nat.le_of_ble_eq_true rfl⟩ rfl (Nat.le_of_ble_eq_true rfl) rfl rfl rfl (dq dkX10_shade_0 18 rfl) ?_
      refine v_if_eq F (tgt := 40) (dq dkX10_shade_0 19 rfl) (by decide) (fun c4 => ?_) (fun c4 => ?_)
      · rw [if_pos c4] at h
        refine v_iinc F (v := a2 + 1) (ls' := [(2, .int (a2 + 1)), (0, .ref (K.1 + 0))]) (dq dkX10_shade_0 24 rfl) (j := 1) rfl (kv_add ki_1) (by decide) rfl ?_
        refine v_goto F (tgt := 19) (dq dkX10_shade_0 25 rfl) (by decide) ?_
        refine v_sub [1, 0] rfl ?_
        exact ih x (a2 + 1) h
      · rw [if_neg c4] at h
        refine v_iload_n F (dq dkX10_shade_0 20 rfl) rfl 1 rfl ?_
        refine v_iconst F (v := 1) (dq dkX10_shade_0 21 rfl) ki_1 ?_
        refine v_isub F (dq dkX10_shade_0 22 rfl) ?_
        have h := Option.some.inj h
        subst h
        exact v_iret F E (dq dkX10_shade_0 23 rfl)
def f_X10_shade (x : CS) (a1 : Int32) : Option (Int32 × CS) := if (b2i (f_X10_isSoMany x a1)) = 0 then (some ((-5), x)) else ((f_X10_makeHull x a1 (-1)).bind fun r7 => f_X10_shade_19 1000 r7 1)
set_option maxRecDepth 100000 in
set_option maxHeartbeats 4000000 in
theorem c_X10_shade {K : KE} {l : Launch} {R : Int32 × CS} (x : CS) (y : MS) (a1 : Int32) (h : f_X10_shade x a1 = some R) : MC K l yX10_shade cX10_shade 3 (some .int) rm_X10_shade 0 0 [.ref (K.1 + 0), .int a1] (xf K x y) (xf K R.2 y) (some (.int R.1)) := by
  unfold f_X10_shade at h
  refine mc_of (ls0 := [(0, .ref (K.1 + 0)), (1, .int a1)]) (by decide) (Nat.le_of_ble_eq_true rfl) rfl (fun C hl hnm F E => ?_)
  have F : Fx C RX10 cX10_shade 3 rm_X10_shade K := F
  refine v_aload_n F (dq dkX10_shade_0 0 rfl) rfl 0 rfl ?_
  refine v_iload_n F (dq dkX10_shade_0 1 rfl) rfl 1 rfl ?_
  refine v_callV 1 F (q := 0) (kc1 := 0) (ks1 := 0) (as := [.int a1]) (st := []) (st1 := (.int (b2i (f_X10_isSoMany x a1)) :: [])) (res := (some (.int (b2i (f_X10_isSoMany x a1))))) (c_X10_isSoMany (l := C.2.1) x y a1) (xn (by decide)) xc_0 rfl (tc24 _ (List.mem_of_getElem? (i := 23) rfl)) (tc25 _ (List.mem_of_getElem? (i := 0) rfl)) (tc25 _ (List.mem_of_getElem? (i := 1) rfl)) (tc1 _ (List.mem_of_getElem? (i := 2) rfl)) (tc25 _ (List.mem_of_getElem? (i := 2) rfl)) (by decide) rfl ⟨rfl, rfl, Nat.le_of_ble_eq_true rfl, Nat.le_of_ble_eq_true rfl⟩ ⟨Nat.le_of_ble_eq_true rfl, Nat.le_of_ble_eq_true rfl⟩ rfl (Nat.le_of_ble_eq_true rfl) rfl rfl rfl (dq dkX10_shade_0 2 rfl) ?_
  refine v_if_ne F (tgt := 11) (dq dkX10_shade_0 3 rfl) (by decide) (fun c6 => ?_) (fun c6 => ?_)
  · rw [if_neg c6] at h
    refine v_aload_n F (dq dkX10_shade_0 6 rfl) rfl 0 rfl ?_
    refine v_iload_n F (dq dkX10_shade_0 7 rfl) rfl 1 rfl ?_
    refine v_iconst F (v := (-1)) (dq dkX10_shade_0 8 rfl) ki_m1 ?_
    obtain ⟨r7, e8, h⟩ := bd_of h
    refine v_callV 2 F (q := 0) (kc1 := 0) (ks1 := 0) (as := [.int a1, .int (-1)]) (st := []) (st1 := []) (res := none) (c_X10_makeHull (l := C.2.1) x y a1 (-1) e8) (xn (by decide)) xc_0 rfl (tc25 _ (List.mem_of_getElem? (i := 3) rfl)) (tc25 _ (List.mem_of_getElem? (i := 4) rfl)) (tc25 _ (List.mem_of_getElem? (i := 5) rfl)) (tc1 _ (List.mem_of_getElem? (i := 2) rfl)) (tc25 _ (List.mem_of_getElem? (i := 6) rfl)) (by decide) rfl ⟨rfl, rfl, Nat.le_of_ble_eq_true rfl, Nat.le_of_ble_eq_true rfl⟩ ⟨Nat.le_of_ble_eq_true rfl, Nat.le_of_ble_eq_true rfl⟩ rfl (Nat.le_of_ble_eq_true rfl) rfl rfl rfl (dq dkX10_shade_0 9 rfl) ?_
    refine v_iconst F (v := 1) (dq dkX10_shade_0 10 rfl) ki_1 ?_
    refine v_istore_n F (ls' := [(2, .int 1), (0, .ref (K.1 + 0)), (1, .int a1)]) (dq dkX10_shade_0 11 rfl) rfl (by decide) rfl ?_
    refine v_sub [1, 0] rfl ?_
    exact t_X10_shade_19 F E 1000 r7 1 h
  · rw [if_pos c6] at h
    refine v_bipush F (v := (-5)) (dq dkX10_shade_0 4 rfl) kb_m5 ?_
    have h := Option.some.inj h
    subst h
    exact v_iret F E (dq dkX10_shade_0 5 rfl)
def rm_X10_drawn : Room := { frames := 8, cells := 0, slots := 0, locals := 205 }
def f_X10_drawn_39 (x : CS) : Option (Int32 × CS) := some ((-7), x)
set_option maxRecDepth 100000 in
set_option maxHeartbeats 4000000 in
theorem t_X10_drawn_39 {C : Cx} {K : KE} {y : MS} {R : Int32 × CS}  (x : CS) (h : f_X10_drawn_39 x = some R) (F : Fx C RX10 cX10_drawn 5 rm_X10_drawn K) (E : CE C (xf K R.2 y) (some (.int R.1)) 0 0 (some .int)) : V C 39 [] [] (xf K x y) 0 0 := by
  unfold f_X10_drawn_39 at h
  refine v_bipush F (v := (-7)) (dq dkX10_drawn_0 19 rfl) kb_m7 ?_
  have h := Option.some.inj h
  subst h
  exact v_iret F E (dq dkX10_drawn_0 20 rfl)
def f_X10_drawn (x : CS) (a1 : Int32) (a2 : Int32) (a3 : Int32) (a4 : Int32) : Option (Int32 × CS) := if (b2i (f_X10_isSoMany x a1)) = 0 then (some ((-5), x)) else (if (b2i (f_X10_isSection a2)) = 0 then (f_X10_drawn_39 x) else (if (b2i (f_X10_within a3 0 99999)) = 0 then (f_X10_drawn_39 x) else (if (b2i (f_X10_within a4 0 1)) = 0 then (f_X10_drawn_39 x) else ((f_X10_makeHull x a1 a3).bind fun r9 => if a4 = 0 then (gd (ib a2 9) (some (gi r9 50 a2.toNatClampNeg, r9))) else (some (gi r9 48 6, r9))))))
set_option maxRecDepth 100000 in
set_option maxHeartbeats 4000000 in
theorem c_X10_drawn {K : KE} {l : Launch} {R : Int32 × CS} (x : CS) (y : MS) (a1 : Int32) (a2 : Int32) (a3 : Int32) (a4 : Int32) (h : f_X10_drawn x a1 a2 a3 a4 = some R) : MC K l yX10_drawn cX10_drawn 5 (some .int) rm_X10_drawn 0 0 [.ref (K.1 + 0), .int a1, .int a2, .int a3, .int a4] (xf K x y) (xf K R.2 y) (some (.int R.1)) := by
  unfold f_X10_drawn at h
  refine mc_of (ls0 := [(0, .ref (K.1 + 0)), (1, .int a1), (2, .int a2), (3, .int a3), (4, .int a4)]) (by decide) (Nat.le_of_ble_eq_true rfl) rfl (fun C hl hnm F E => ?_)
  have F : Fx C RX10 cX10_drawn 5 rm_X10_drawn K := F
  refine v_aload_n F (dq dkX10_drawn_0 0 rfl) rfl 0 rfl ?_
  refine v_iload_n F (dq dkX10_drawn_0 1 rfl) rfl 1 rfl ?_
  refine v_callV 1 F (q := 0) (kc1 := 0) (ks1 := 0) (as := [.int a1]) (st := []) (st1 := (.int (b2i (f_X10_isSoMany x a1)) :: [])) (res := (some (.int (b2i (f_X10_isSoMany x a1))))) (c_X10_isSoMany (l := C.2.1) x y a1) (xn (by decide)) xc_0 rfl (tc24 _ (List.mem_of_getElem? (i := 23) rfl)) (tc25 _ (List.mem_of_getElem? (i := 0) rfl)) (tc25 _ (List.mem_of_getElem? (i := 1) rfl)) (tc1 _ (List.mem_of_getElem? (i := 2) rfl)) (tc25 _ (List.mem_of_getElem? (i := 2) rfl)) (by decide) rfl ⟨rfl, rfl, Nat.le_of_ble_eq_true rfl, Nat.le_of_ble_eq_true rfl⟩ ⟨Nat.le_of_ble_eq_true rfl, Nat.le_of_ble_eq_true rfl⟩ rfl (Nat.le_of_ble_eq_true rfl) rfl rfl rfl (dq dkX10_drawn_0 2 rfl) ?_
  refine v_if_ne F (tgt := 11) (dq dkX10_drawn_0 3 rfl) (by decide) (fun c2 => ?_) (fun c2 => ?_)
  · rw [if_neg c2] at h
    refine v_iload_n F (dq dkX10_drawn_0 6 rfl) rfl 2 rfl ?_
    refine v_callS 1 F (kc1 := 0) (ks1 := 0) (as := [.int a2]) (st := []) (st1 := (.int (b2i (f_X10_isSection a2)) :: [])) (res := (some (.int (b2i (f_X10_isSection a2))))) (c_X10_isSection (l := C.2.1) a2) (tc14 _ (List.mem_of_getElem? (i := 0) rfl)) (tc14 _ (List.mem_of_getElem? (i := 1) rfl)) (tc1 _ (List.mem_of_getElem? (i := 2) rfl)) (tc14 _ (List.mem_of_getElem? (i := 2) rfl)) (by decide) rfl ⟨rfl, rfl, Nat.le_of_ble_eq_true rfl, Nat.le_of_ble_eq_true rfl⟩ ⟨Nat.le_of_ble_eq_true rfl, Nat.le_of_ble_eq_true rfl⟩ rfl (Nat.le_of_ble_eq_true rfl) rfl rfl rfl (dq dkX10_drawn_0 7 rfl) ?_
    refine v_if_eq F (tgt := 39) (dq dkX10_drawn_0 8 rfl) (by decide) (fun c4 => ?_) (fun c4 => ?_)
    · rw [if_pos c4] at h
      refine v_sub [] rfl ?_
      exact t_X10_drawn_39 x h F E
    · rw [if_neg c4] at h
      refine v_iload_n F (dq dkX10_drawn_0 9 rfl) rfl 3 rfl ?_
      refine v_iconst F (v := 0) (dq dkX10_drawn_0 10 rfl) ki_0 ?_
      refine v_ldcw F (v := 99999) (tc50 _ (List.mem_of_getElem? (i := 4) rfl)) (dq dkX10_drawn_0 11 rfl) ?_
      refine v_callS 3 F (kc1 := 0) (ks1 := 0) (as := [.int a3, .int 0, .int 99999]) (st := []) (st1 := (.int (b2i (f_X10_within a3 0 99999)) :: [])) (res := (some (.int (b2i (f_X10_within a3 0 99999))))) (c_X10_within (l := C.2.1) a3 0 99999) (tc14 _ (List.mem_of_getElem? (i := 3) rfl)) (tc8 _ (List.mem_of_getElem? (i := 15) rfl)) (tc1 _ (List.mem_of_getElem? (i := 2) rfl)) (tc8 _ (List.mem_of_getElem? (i := 16) rfl)) (by decide) rfl ⟨rfl, rfl, Nat.le_of_ble_eq_true rfl, Nat.le_of_ble_eq_true rfl⟩ ⟨Nat.le_of_ble_eq_true rfl, Nat.le_of_ble_eq_true rfl⟩ rfl (Nat.le_of_ble_eq_true rfl) rfl rfl rfl (dq dkX10_drawn_0 12 rfl) ?_
      refine v_if_eq F (tgt := 39) (dq dkX10_drawn_0 13 rfl) (by decide) (fun c6 => ?_) (fun c6 => ?_)
      · rw [if_pos c6] at h
        refine v_sub [] rfl ?_
        exact t_X10_drawn_39 x h F E
      · rw [if_neg c6] at h
        refine v_iload F (dq dkX10_drawn_0 14 rfl) 4 rfl ?_
        refine v_iconst F (v := 0) (dq dkX10_drawn_0 15 rfl) ki_0 ?_
        refine v_iconst F (v := 1) (dq dkX10_drawn_0 16 rfl) ki_1 ?_
        refine v_callS 3 F (kc1 := 0) (ks1 := 0) (as := [.int a4, .int 0, .int 1]) (st := []) (st1 := (.int (b2i (f_X10_within a4 0 1)) :: [])) (res := (some (.int (b2i (f_X10_within a4 0 1))))) (c_X10_within (l := C.2.1) a4 0 1) (tc14 _ (List.mem_of_getElem? (i := 3) rfl)) (tc8 _ (List.mem_of_getElem? (i := 15) rfl)) (tc1 _ (List.mem_of_getElem? (i := 2) rfl)) (tc8 _ (List.mem_of_getElem? (i := 16) rfl)) (by decide) rfl ⟨rfl, rfl, Nat.le_of_ble_eq_true rfl, Nat.le_of_ble_eq_true rfl⟩ ⟨Nat.le_of_ble_eq_true rfl, Nat.le_of_ble_eq_true rfl⟩ rfl (Nat.le_of_ble_eq_true rfl) rfl rfl rfl (dq dkX10_drawn_0 17 rfl) ?_
        refine v_if_ne F (tgt := 42) (dq dkX10_drawn_0 18 rfl) (by decide) (fun c8 => ?_) (fun c8 => ?_)
        · rw [if_neg c8] at h
          refine v_aload_n F (dq dkX10_drawn_0 21 rfl) rfl 0 rfl ?_
          refine v_iload_n F (dq dkX10_drawn_0 22 rfl) rfl 1 rfl ?_
          refine v_iload_n F (dq dkX10_drawn_0 23 rfl) rfl 3 rfl ?_
          obtain ⟨r9, e10, h⟩ := bd_of h
          refine v_callV 2 F (q := 0) (kc1 := 0) (ks1 := 0) (as := [.int a1, .int a3]) (st := []) (st1 := []) (res := none) (c_X10_makeHull (l := C.2.1) x y a1 a3 e10) (xn (by decide)) xc_0 rfl (tc25 _ (List.mem_of_getElem? (i := 3) rfl)) (tc25 _ (List.mem_of_getElem? (i := 4) rfl)) (tc25 _ (List.mem_of_getElem? (i := 5) rfl)) (tc1 _ (List.mem_of_getElem? (i := 2) rfl)) (tc25 _ (List.mem_of_getElem? (i := 6) rfl)) (by decide) rfl ⟨rfl, rfl, Nat.le_of_ble_eq_true rfl, Nat.le_of_ble_eq_true rfl⟩ ⟨Nat.le_of_ble_eq_true rfl, Nat.le_of_ble_eq_true rfl⟩ rfl (Nat.le_of_ble_eq_true rfl) rfl rfl rfl (dq dkX10_drawn_0 24 rfl) ?_
          refine v_iload F (dq dkX10_drawn_0 25 rfl) 4 rfl ?_
          refine v_if_ne F (tgt := 65) (dq dkX10_drawn_0 26 rfl) (by decide) (fun c11 => ?_) (fun c11 => ?_)
          · rw [if_neg c11] at h
            refine v_aload_n F (dq dkX10_drawn_0 33 rfl) rfl 0 rfl ?_
            refine v_get F 0 (xn (by decide)) xc_0 rfl inlX10 7 (by decide) (tc2 _ (List.mem_of_getElem? (i := 20) rfl)) rfl rfl (dq dkX10_drawn_0 34 rfl) ?_
            refine v_getN F 48 (xn (by decide)) xc_48 rfl inlX2 6 (by decide) (List.mem_of_getElem? (i := 11) rfl) rfl rfl (dq dkX10_drawn_0 35 rfl) ?_
            have h := Option.some.inj h
            subst h
            exact v_iret F E (dq dkX10_drawn_0 36 rfl)
          · rw [if_pos c11] at h
            refine v_aload_n F (dq dkX10_drawn_0 27 rfl) rfl 0 rfl ?_
            refine v_get F 0 (xn (by decide)) xc_0 rfl inlX10 7 (by decide) (tc2 _ (List.mem_of_getElem? (i := 20) rfl)) rfl rfl (dq dkX10_drawn_0 28 rfl) ?_
            refine v_getN F 48 (xn (by decide)) xc_48 rfl inlX2 3 (by decide) (List.mem_of_getElem? (i := 9) rfl) rfl rfl (dq dkX10_drawn_0 29 rfl) ?_
            refine v_iload_n F (dq dkX10_drawn_0 30 rfl) rfl 2 rfl ?_
            obtain ⟨g12, h⟩ := gd_of h
            refine v_iald F 50 (xn (by decide)) xc_50 (ib_in g12) (dq dkX10_drawn_0 31 rfl) ?_
            refine v_goto F (tgt := 72) (dq dkX10_drawn_0 32 rfl) (by decide) ?_
            have h := Option.some.inj h
            subst h
            exact v_iret F E (dq dkX10_drawn_0 36 rfl)
        · rw [if_pos c8] at h
          refine v_sub [] rfl ?_
          exact t_X10_drawn_39 x h F E
  · rw [if_pos c2] at h
    refine v_bipush F (v := (-5)) (dq dkX10_drawn_0 4 rfl) kb_m5 ?_
    have h := Option.some.inj h
    subst h
    exact v_iret F E (dq dkX10_drawn_0 5 rfl)
def rm_X10_image : Room := { frames := 2, cells := 0, slots := 0, locals := 53 }
def f_X10_image_56 (k24 : CS → Int32 → Option (Int32 × CS)) (x : CS) (a1 : Int32) (s0 : Int32) (s1 : Int32) : Option (Int32 × CS) := gd (ib s1 6) (k24 (pi x 47 s1.toNatClampNeg s0) (a1 + 1))
set_option maxRecDepth 100000 in
set_option maxHeartbeats 4000000 in
theorem t_X10_image_56 {C : Cx} {K : KE} {y : MS} {R : Int32 × CS}  (k24 : CS → Int32 → Option (Int32 × CS)) (x : CS) (a1 : Int32) (s0 : Int32) (s1 : Int32) (hk24 : ∀ (x : CS) (a1 : Int32), k24 x a1 = some R → V C 24 [(0, .ref (K.1 + 0)), (1, .int a1)] [] (xf K x y) 0 0) (h : f_X10_image_56 k24 x a1 s0 s1 = some R) (F : Fx C RX10 cX10_image 3 rm_X10_image K) (E : CE C (xf K R.2 y) (some (.int R.1)) 0 0 (some .int)) : V C 56 [(0, .ref (K.1 + 0)), (1, .int a1)] [.int s0, .int s1, .ref (K.1 + 47)] (xf K x y) 0 0 := by
  unfold f_X10_image_56 at h
  obtain ⟨g1, h⟩ := gd_of h
  refine v_iast F 47 (xn (by decide)) xc_47 (ib_in g1) (dq dkX10_image_0 29 rfl) ?_
  refine v_eqM (xwC (q := 47) (j := s1.toNatClampNeg) (v := s0) (by decide) rfl) ?_
  refine v_iinc F (v := a1 + 1) (ls' := [(1, .int (a1 + 1)), (0, .ref (K.1 + 0))]) (dq dkX10_image_0 30 rfl) (j := 1) rfl (kv_add ki_1) (by decide) rfl ?_
  refine v_goto F (tgt := 24) (dq dkX10_image_0 31 rfl) (by decide) ?_
  refine v_sub [1, 0] rfl ?_
  exact hk24 (pi x 47 s1.toNatClampNeg s0) (a1 + 1) h
def f_X10_image_24 : Nat → CS → Int32 → Option (Int32 × CS)
  | 0, _, _ => none
  | n + 1, x, a1 => if 6 ≤ a1 then (some (gi (pi x 0 11 1) 30 3, pi x 0 11 1)) else ((f_X1_at x a1).bind fun r3 => oc r3 (f_X10_image_56 (f_X10_image_24 n) x a1 (-1) a1) (fun s5 => gd (kTr x s5) (f_X10_image_56 (f_X10_image_24 n) x a1 (ti x s5 4) a1)))
set_option maxRecDepth 100000 in
set_option maxHeartbeats 4000000 in
theorem t_X10_image_24 {C : Cx} {K : KE} {y : MS} {R : Int32 × CS}  (F : Fx C RX10 cX10_image 3 rm_X10_image K) (E : CE C (xf K R.2 y) (some (.int R.1)) 0 0 (some .int)) : ∀ (n : Nat) (x : CS) (a1 : Int32) (h : f_X10_image_24 n x a1 = some R), V C 24 [(0, .ref (K.1 + 0)), (1, .int a1)] [] (xf K x y) 0 0 := by
  intro n
  induction n with
  | zero => intro x a1 h; cases h
  | succ n ih =>
    intro x a1 h
    rw [f_X10_image_24] at h
    refine v_iload_n F (dq dkX10_image_0 12 rfl) rfl 1 rfl ?_
    refine v_bipush F (v := 6) (dq dkX10_image_0 13 rfl) kb_6 ?_
    refine v_icmp_ge F (tgt := 63) (dq dkX10_image_0 14 rfl) (by decide) (fun c2 => ?_) (fun c2 => ?_)
    · rw [if_pos c2] at h
      refine v_aload_n F (dq dkX10_image_0 32 rfl) rfl 0 rfl ?_
      refine v_iconst F (v := 1) (dq dkX10_image_0 33 rfl) ki_1 ?_
      refine v_put F 0 (xn (by decide)) xc_0 rfl inlX10 tyX10_ok nmX10 11 (by decide) (tc2 _ (List.mem_of_getElem? (i := 16) rfl)) rfl rfl (tyX10_ok 11 (by decide)) (b2i_n true) rfl (Nat.le_of_ble_eq_true rfl) (dq dkX10_image_0 34 rfl) ?_
      refine v_eqM (xwC (q := 0) (j := 11) (v := 1) (by decide) rfl) ?_
      refine v_aload_n F (dq dkX10_image_0 35 rfl) rfl 0 rfl ?_
      refine v_get F 0 (xn (by decide)) xc_0 rfl inlX10 3 (by decide) (tc2 _ (List.mem_of_getElem? (i := 4) rfl)) rfl rfl (dq dkX10_image_0 36 rfl) ?_
      refine v_getN F 30 (xn (by decide)) xc_30 rfl inlX9 3 (by decide) (List.mem_of_getElem? (i := 6) rfl) rfl rfl (dq dkX10_image_0 37 rfl) ?_
      have h := Option.some.inj h
      subst h
      exact v_iret F E (dq dkX10_image_0 38 rfl)
    · rw [if_neg c2] at h
      refine v_aload_n F (dq dkX10_image_0 15 rfl) rfl 0 rfl ?_
      refine v_get F 0 (xn (by decide)) xc_0 rfl inlX10 4 (by decide) (tc2 _ (List.mem_of_getElem? (i := 8) rfl)) rfl rfl (dq dkX10_image_0 16 rfl) ?_
      refine v_iload_n F (dq dkX10_image_0 17 rfl) rfl 1 rfl ?_
      obtain ⟨r3, e4, h⟩ := bd_of h
      refine v_callV 1 F (q := 34) (kc1 := 0) (ks1 := 0) (as := [.int a1]) (st := []) (st1 := (va_rf (r3.map (fun q => K.1 + q)) :: [])) (res := (some (va_rf (r3.map (fun q => K.1 + q))))) (c_X1_at (l := C.2.1) x y a1 e4) (xn (by decide)) xc_34 rfl (tc43 _ (List.mem_of_getElem? (i := 13) rfl)) (tc43 _ (List.mem_of_getElem? (i := 14) rfl)) (tc43 _ (List.mem_of_getElem? (i := 15) rfl)) (tc2 _ (List.mem_of_getElem? (i := 7) rfl)) (tc43 _ (List.mem_of_getElem? (i := 16) rfl)) (by decide) rfl ⟨rfl, rfl, Nat.le_of_ble_eq_true rfl, Nat.le_of_ble_eq_true rfl⟩ ⟨Nat.le_of_ble_eq_true rfl, Nat.le_of_ble_eq_true rfl⟩ rfl (Nat.le_of_ble_eq_true rfl) rfl rfl rfl (dq dkX10_image_0 18 rfl) ?_
      rcases r3 with _ | s5
      · have h := oc_nh h
        refine v_astore_nN F (ls' := [(2, .null), (0, .ref (K.1 + 0)), (1, .int a1)]) (dq dkX10_image_0 19 rfl) rfl (by decide) rfl ?_
        refine v_aload_n F (dq dkX10_image_0 20 rfl) rfl 1 rfl ?_
        refine v_get F 0 (xn (by decide)) xc_0 rfl inlX10 9 (by decide) (tc2 _ (List.mem_of_getElem? (i := 14) rfl)) rfl rfl (dq dkX10_image_0 21 rfl) ?_
        refine v_iload_n F (dq dkX10_image_0 22 rfl) rfl 2 rfl ?_
        refine v_aload_nN F (dq dkX10_image_0 23 rfl) rfl 0 rfl ?_
        refine v_ifnonnullN F (dq dkX10_image_0 24 rfl) ?_
        refine v_iconst F (v := (-1)) (dq dkX10_image_0 25 rfl) ki_m1 ?_
        refine v_goto F (tgt := 56) (dq dkX10_image_0 26 rfl) (by decide) ?_
        refine v_sub [1, 2] rfl ?_
        exact t_X10_image_56 (f_X10_image_24 n) x a1 (-1) a1 ih h F E
      · have h := oc_sh h
        refine v_astore_n F (ls' := [(2, .ref (K.1 + s5)), (0, .ref (K.1 + 0)), (1, .int a1)]) (dq dkX10_image_0 19 rfl) rfl (by decide) rfl ?_
        refine v_aload_n F (dq dkX10_image_0 20 rfl) rfl 1 rfl ?_
        refine v_get F 0 (xn (by decide)) xc_0 rfl inlX10 9 (by decide) (tc2 _ (List.mem_of_getElem? (i := 14) rfl)) rfl rfl (dq dkX10_image_0 21 rfl) ?_
        refine v_iload_n F (dq dkX10_image_0 22 rfl) rfl 2 rfl ?_
        refine v_aload_n F (dq dkX10_image_0 23 rfl) rfl 0 rfl ?_
        refine v_ifnonnull F (tgt := 52) (dq dkX10_image_0 24 rfl) (by decide) ?_
        refine v_aload_n F (dq dkX10_image_0 27 rfl) rfl 0 rfl ?_
        obtain ⟨g6, h⟩ := gd_of h
        refine v_getN F s5 (kTr_lt g6) (kTr_at g6) rfl inlX7 4 (by decide) (List.mem_of_getElem? (i := 25) rfl) rfl rfl (dq dkX10_image_0 28 rfl) ?_
        refine v_sub [1, 2] rfl ?_
        exact t_X10_image_56 (f_X10_image_24 n) x a1 (ti x s5 4) a1 ih h F E
def f_X10_image (x : CS) : Option (Int32 × CS) := (f_X8_become x 38 1).bind fun r7 => f_X10_image_24 1000 (pi r7 0 10 (gi r7 34 1)) 0
set_option maxRecDepth 100000 in
set_option maxHeartbeats 4000000 in
theorem c_X10_image {K : KE} {l : Launch} {R : Int32 × CS} (x : CS) (y : MS) (h : f_X10_image x = some R) : MC K l yX10_image cX10_image 3 (some .int) rm_X10_image 0 0 [.ref (K.1 + 0)] (xf K x y) (xf K R.2 y) (some (.int R.1)) := by
  unfold f_X10_image at h
  refine mc_of (ls0 := [(0, .ref (K.1 + 0))]) (by decide) (Nat.le_of_ble_eq_true rfl) rfl (fun C hl hnm F E => ?_)
  have F : Fx C RX10 cX10_image 3 rm_X10_image K := F
  refine v_aload_n F (dq dkX10_image_0 0 rfl) rfl 0 rfl ?_
  refine v_get F 0 (xn (by decide)) xc_0 rfl inlX10 8 (by decide) (tc2 _ (List.mem_of_getElem? (i := 13) rfl)) rfl rfl (dq dkX10_image_0 1 rfl) ?_
  refine v_aload_n F (dq dkX10_image_0 2 rfl) rfl 0 rfl ?_
  refine v_get F 0 (xn (by decide)) xc_0 rfl inlX10 0 (by decide) (tc1 _ (List.mem_of_getElem? (i := 16) rfl)) rfl rfl (dq dkX10_image_0 3 rfl) ?_
  obtain ⟨r7, e8, h⟩ := bd_of h
  refine v_callV 1 F (q := 38) (kc1 := 0) (ks1 := 0) (as := [.ref (K.1 + 1)]) (st := []) (st1 := []) (res := none) (c_X8_become (l := C.2.1) x y 38 1 e8) (xn (by decide)) xc_38 rfl (tc50 _ (List.mem_of_getElem? (i := 14) rfl)) (tc50 _ (List.mem_of_getElem? (i := 15) rfl)) (tc50 _ (List.mem_of_getElem? (i := 16) rfl)) (tc1 _ (List.mem_of_getElem? (i := 15) rfl)) (tc50 _ (List.mem_of_getElem? (i := 17) rfl)) (by decide) rfl ⟨rfl, rfl, Nat.le_of_ble_eq_true rfl, Nat.le_of_ble_eq_true rfl⟩ ⟨Nat.le_of_ble_eq_true rfl, Nat.le_of_ble_eq_true rfl⟩ rfl (Nat.le_of_ble_eq_true rfl) rfl rfl rfl (dq dkX10_image_0 4 rfl) ?_
  refine v_aload_n F (dq dkX10_image_0 5 rfl) rfl 0 rfl ?_
  refine v_aload_n F (dq dkX10_image_0 6 rfl) rfl 0 rfl ?_
  refine v_get F 0 (xn (by decide)) xc_0 rfl inlX10 4 (by decide) (tc2 _ (List.mem_of_getElem? (i := 8) rfl)) rfl rfl (dq dkX10_image_0 7 rfl) ?_
  refine v_getN F 34 (xn (by decide)) xc_34 rfl inlX1 1 (by decide) (List.mem_of_getElem? (i := 7) rfl) rfl rfl (dq dkX10_image_0 8 rfl) ?_
  refine v_put F 0 (xn (by decide)) xc_0 rfl inlX10 tyX10_ok nmX10 10 (by decide) (tc2 _ (List.mem_of_getElem? (i := 15) rfl)) rfl rfl (tyX10_ok 10 (by decide)) rfl rfl (Nat.le_of_ble_eq_true rfl) (dq dkX10_image_0 9 rfl) ?_
  refine v_eqM (xwC (q := 0) (j := 10) (v := gi r7 34 1) (by decide) rfl) ?_
  refine v_iconst F (v := 0) (dq dkX10_image_0 10 rfl) ki_0 ?_
  refine v_istore_n F (ls' := [(1, .int 0), (0, .ref (K.1 + 0))]) (dq dkX10_image_0 11 rfl) rfl (by decide) rfl ?_
  refine v_sub [1, 0] rfl ?_
  exact t_X10_image_24 F E 1000 (pi r7 0 10 (gi r7 34 1)) 0 h
def rm_X10_back : Room := { frames := 2, cells := 0, slots := 0, locals := 53 }
def f_X10_back_66 (x : CS) : Option (Int32 × CS) := some (gi x 30 3, x)
set_option maxRecDepth 100000 in
set_option maxHeartbeats 4000000 in
theorem t_X10_back_66 {C : Cx} {K : KE} {y : MS} {R : Int32 × CS}  (x : CS) (h : f_X10_back_66 x = some R) (F : Fx C RX10 cX10_back 3 rm_X10_back K) (E : CE C (xf K R.2 y) (some (.int R.1)) 0 0 (some .int)) : V C 66 [(0, .ref (K.1 + 0))] [] (xf K x y) 0 0 := by
  unfold f_X10_back_66 at h
  refine v_aload_n F (dq dkX10_back_0 34 rfl) rfl 0 rfl ?_
  refine v_get F 0 (xn (by decide)) xc_0 rfl inlX10 3 (by decide) (tc2 _ (List.mem_of_getElem? (i := 4) rfl)) rfl rfl (dq dkX10_back_0 35 rfl) ?_
  refine v_getN F 30 (xn (by decide)) xc_30 rfl inlX9 3 (by decide) (List.mem_of_getElem? (i := 6) rfl) rfl rfl (dq dkX10_back_0 36 rfl) ?_
  have h := Option.some.inj h
  subst h
  exact v_iret F E (dq dkX10_back_0 37 rfl)
def f_X10_back_60 (k23 : CS → Int32 → Option (Int32 × CS)) (x : CS) (a1 : Int32) : Option (Int32 × CS) := k23 x (a1 + 1)
set_option maxRecDepth 100000 in
set_option maxHeartbeats 4000000 in
theorem t_X10_back_60 {C : Cx} {K : KE} {y : MS} {R : Int32 × CS}  (k23 : CS → Int32 → Option (Int32 × CS)) (x : CS) (a1 : Int32) (hk23 : ∀ (x : CS) (a1 : Int32), k23 x a1 = some R → V C 23 [(0, .ref (K.1 + 0)), (1, .int a1)] [] (xf K x y) 0 0) (h : f_X10_back_60 k23 x a1 = some R) (F : Fx C RX10 cX10_back 3 rm_X10_back K) (E : CE C (xf K R.2 y) (some (.int R.1)) 0 0 (some .int)) : V C 60 [(0, .ref (K.1 + 0)), (1, .int a1)] [] (xf K x y) 0 0 := by
  unfold f_X10_back_60 at h
  refine v_iinc F (v := a1 + 1) (ls' := [(1, .int (a1 + 1)), (0, .ref (K.1 + 0))]) (dq dkX10_back_0 32 rfl) (j := 1) rfl (kv_add ki_1) (by decide) rfl ?_
  refine v_goto F (tgt := 23) (dq dkX10_back_0 33 rfl) (by decide) ?_
  refine v_sub [1, 0] rfl ?_
  exact hk23 x (a1 + 1) h
def f_X10_back_23 : Nat → CS → Int32 → Option (Int32 × CS)
  | 0, _, _ => none
  | n + 1, x, a1 => if (gi x 0 10) ≤ a1 then (f_X10_back_66 x) else (if 6 ≤ a1 then (f_X10_back_66 x) else ((f_X1_at x a1).bind fun r3 => oc r3 (f_X10_back_60 (f_X10_back_23 n) x a1) (fun s5 => gd (ib a1 6) (gd (kTr x s5) (f_X10_back_60 (f_X10_back_23 n) (pti x s5 4 (gi x 47 a1.toNatClampNeg)) a1)))))
set_option maxRecDepth 100000 in
set_option maxHeartbeats 4000000 in
theorem t_X10_back_23 {C : Cx} {K : KE} {y : MS} {R : Int32 × CS}  (F : Fx C RX10 cX10_back 3 rm_X10_back K) (E : CE C (xf K R.2 y) (some (.int R.1)) 0 0 (some .int)) : ∀ (n : Nat) (x : CS) (a1 : Int32) (h : f_X10_back_23 n x a1 = some R), V C 23 [(0, .ref (K.1 + 0)), (1, .int a1)] [] (xf K x y) 0 0 := by
  intro n
  induction n with
  | zero => intro x a1 h; cases h
  | succ n ih =>
    intro x a1 h
    rw [f_X10_back_23] at h
    refine v_iload_n F (dq dkX10_back_0 12 rfl) rfl 1 rfl ?_
    refine v_aload_n F (dq dkX10_back_0 13 rfl) rfl 0 rfl ?_
    refine v_get F 0 (xn (by decide)) xc_0 rfl inlX10 10 (by decide) (tc2 _ (List.mem_of_getElem? (i := 15) rfl)) rfl rfl (dq dkX10_back_0 14 rfl) ?_
    refine v_icmp_ge F (tgt := 66) (dq dkX10_back_0 15 rfl) (by decide) (fun c1 => ?_) (fun c1 => ?_)
    · rw [if_pos c1] at h
      refine v_sub [0] rfl ?_
      exact t_X10_back_66 x h F E
    · rw [if_neg c1] at h
      refine v_iload_n F (dq dkX10_back_0 16 rfl) rfl 1 rfl ?_
      refine v_bipush F (v := 6) (dq dkX10_back_0 17 rfl) kb_6 ?_
      refine v_icmp_ge F (tgt := 66) (dq dkX10_back_0 18 rfl) (by decide) (fun c2 => ?_) (fun c2 => ?_)
      · rw [if_pos c2] at h
        refine v_sub [0] rfl ?_
        exact t_X10_back_66 x h F E
      · rw [if_neg c2] at h
        refine v_aload_n F (dq dkX10_back_0 19 rfl) rfl 0 rfl ?_
        refine v_get F 0 (xn (by decide)) xc_0 rfl inlX10 4 (by decide) (tc2 _ (List.mem_of_getElem? (i := 8) rfl)) rfl rfl (dq dkX10_back_0 20 rfl) ?_
        refine v_iload_n F (dq dkX10_back_0 21 rfl) rfl 1 rfl ?_
        obtain ⟨r3, e4, h⟩ := bd_of h
        refine v_callV 1 F (q := 34) (kc1 := 0) (ks1 := 0) (as := [.int a1]) (st := []) (st1 := (va_rf (r3.map (fun q => K.1 + q)) :: [])) (res := (some (va_rf (r3.map (fun q => K.1 + q))))) (c_X1_at (l := C.2.1) x y a1 e4) (xn (by decide)) xc_34 rfl (tc43 _ (List.mem_of_getElem? (i := 13) rfl)) (tc43 _ (List.mem_of_getElem? (i := 14) rfl)) (tc43 _ (List.mem_of_getElem? (i := 15) rfl)) (tc2 _ (List.mem_of_getElem? (i := 7) rfl)) (tc43 _ (List.mem_of_getElem? (i := 16) rfl)) (by decide) rfl ⟨rfl, rfl, Nat.le_of_ble_eq_true rfl, Nat.le_of_ble_eq_true rfl⟩ ⟨Nat.le_of_ble_eq_true rfl, Nat.le_of_ble_eq_true rfl⟩ rfl (Nat.le_of_ble_eq_true rfl) rfl rfl rfl (dq dkX10_back_0 22 rfl) ?_
        rcases r3 with _ | s5
        · have h := oc_nh h
          refine v_astore_nN F (ls' := [(2, .null), (0, .ref (K.1 + 0)), (1, .int a1)]) (dq dkX10_back_0 23 rfl) rfl (by decide) rfl ?_
          refine v_aload_nN F (dq dkX10_back_0 24 rfl) rfl 0 rfl ?_
          refine v_ifnullN F (tgt := 60) (dq dkX10_back_0 25 rfl) (by decide) ?_
          refine v_sub [1, 2] rfl ?_
          exact t_X10_back_60 (f_X10_back_23 n) x a1 ih h F E
        · have h := oc_sh h
          refine v_astore_n F (ls' := [(2, .ref (K.1 + s5)), (0, .ref (K.1 + 0)), (1, .int a1)]) (dq dkX10_back_0 23 rfl) rfl (by decide) rfl ?_
          refine v_aload_n F (dq dkX10_back_0 24 rfl) rfl 0 rfl ?_
          refine v_ifnull F (dq dkX10_back_0 25 rfl) ?_
          refine v_aload_n F (dq dkX10_back_0 26 rfl) rfl 0 rfl ?_
          refine v_aload_n F (dq dkX10_back_0 27 rfl) rfl 1 rfl ?_
          refine v_get F 0 (xn (by decide)) xc_0 rfl inlX10 9 (by decide) (tc2 _ (List.mem_of_getElem? (i := 14) rfl)) rfl rfl (dq dkX10_back_0 28 rfl) ?_
          refine v_iload_n F (dq dkX10_back_0 29 rfl) rfl 2 rfl ?_
          obtain ⟨g6, h⟩ := gd_of h
          refine v_iald F 47 (xn (by decide)) xc_47 (ib_in g6) (dq dkX10_back_0 30 rfl) ?_
          obtain ⟨g7, h⟩ := gd_of h
          refine v_putN F s5 (kTr_lt g7) (kTr_at g7) rfl inlX7 tyX7_ok nmX7 4 (by decide) (List.mem_of_getElem? (i := 25) rfl) rfl rfl (tyX7_ok 4 (by decide)) rfl rfl (Nat.le_of_ble_eq_true rfl) (dq dkX10_back_0 31 rfl) ?_
          refine v_eqM (kTr_w (j := 4) (v := gi x 47 a1.toNatClampNeg) g7 rfl) ?_
          refine v_sub [1, 2] rfl ?_
          exact t_X10_back_60 (f_X10_back_23 n) (pti x s5 4 (gi x 47 a1.toNatClampNeg)) a1 ih h F E
def f_X10_back (x : CS) : Option (Int32 × CS) := if (gi x 0 11) = 0 then (some ((-3), x)) else ((f_X8_become x 1 38).bind fun r9 => f_X10_back_23 1000 r9 0)
set_option maxRecDepth 100000 in
set_option maxHeartbeats 4000000 in
theorem c_X10_back {K : KE} {l : Launch} {R : Int32 × CS} (x : CS) (y : MS) (h : f_X10_back x = some R) : MC K l yX10_back cX10_back 3 (some .int) rm_X10_back 0 0 [.ref (K.1 + 0)] (xf K x y) (xf K R.2 y) (some (.int R.1)) := by
  unfold f_X10_back at h
  refine mc_of (ls0 := [(0, .ref (K.1 + 0))]) (by decide) (Nat.le_of_ble_eq_true rfl) rfl (fun C hl hnm F E => ?_)
  have F : Fx C RX10 cX10_back 3 rm_X10_back K := F
  refine v_aload_n F (dq dkX10_back_0 0 rfl) rfl 0 rfl ?_
  refine v_get F 0 (xn (by decide)) xc_0 rfl inlX10 11 (by decide) (tc2 _ (List.mem_of_getElem? (i := 16) rfl)) rfl rfl (dq dkX10_back_0 1 rfl) ?_
  refine v_if_ne F (tgt := 10) (dq dkX10_back_0 2 rfl) (by decide) (fun c8 => ?_) (fun c8 => ?_)
  · rw [if_neg c8] at h
    refine v_aload_n F (dq dkX10_back_0 5 rfl) rfl 0 rfl ?_
    refine v_get F 0 (xn (by decide)) xc_0 rfl inlX10 0 (by decide) (tc1 _ (List.mem_of_getElem? (i := 16) rfl)) rfl rfl (dq dkX10_back_0 6 rfl) ?_
    refine v_aload_n F (dq dkX10_back_0 7 rfl) rfl 0 rfl ?_
    refine v_get F 0 (xn (by decide)) xc_0 rfl inlX10 8 (by decide) (tc2 _ (List.mem_of_getElem? (i := 13) rfl)) rfl rfl (dq dkX10_back_0 8 rfl) ?_
    obtain ⟨r9, e10, h⟩ := bd_of h
    refine v_callV 1 F (q := 1) (kc1 := 0) (ks1 := 0) (as := [.ref (K.1 + 38)]) (st := []) (st1 := []) (res := none) (c_X8_become (l := C.2.1) x y 1 38 e10) (xn (by decide)) xc_1 rfl (tc50 _ (List.mem_of_getElem? (i := 14) rfl)) (tc50 _ (List.mem_of_getElem? (i := 15) rfl)) (tc50 _ (List.mem_of_getElem? (i := 16) rfl)) (tc1 _ (List.mem_of_getElem? (i := 15) rfl)) (tc50 _ (List.mem_of_getElem? (i := 17) rfl)) (by decide) rfl ⟨rfl, rfl, Nat.le_of_ble_eq_true rfl, Nat.le_of_ble_eq_true rfl⟩ ⟨Nat.le_of_ble_eq_true rfl, Nat.le_of_ble_eq_true rfl⟩ rfl (Nat.le_of_ble_eq_true rfl) rfl rfl rfl (dq dkX10_back_0 9 rfl) ?_
    refine v_iconst F (v := 0) (dq dkX10_back_0 10 rfl) ki_0 ?_
    refine v_istore_n F (ls' := [(1, .int 0), (0, .ref (K.1 + 0))]) (dq dkX10_back_0 11 rfl) rfl (by decide) rfl ?_
    refine v_sub [1, 0] rfl ?_
    exact t_X10_back_23 F E 1000 r9 0 h
  · rw [if_pos c8] at h
    refine v_bipush F (v := (-3)) (dq dkX10_back_0 3 rfl) kb_m3 ?_
    have h := Option.some.inj h
    subst h
    exact v_iret F E (dq dkX10_back_0 4 rfl)
def rm_X10_sheet : Room := { frames := 2, cells := 0, slots := 0, locals := 53 }
def f_X10_sheet_21 (x : CS) : Option (Int32 × CS) := some ((-2), x)
set_option maxRecDepth 100000 in
set_option maxHeartbeats 4000000 in
theorem t_X10_sheet_21 {C : Cx} {K : KE} {y : MS} {R : Int32 × CS}  (x : CS) (h : f_X10_sheet_21 x = some R) (F : Fx C RX10 cX10_sheet 5 rm_X10_sheet K) (E : CE C (xf K R.2 y) (some (.int R.1)) 0 0 (some .int)) : V C 21 [] [] (xf K x y) 0 0 := by
  unfold f_X10_sheet_21 at h
  refine v_bipush F (v := (-2)) (dq dkX10_sheet_0 11 rfl) kb_m2 ?_
  have h := Option.some.inj h
  subst h
  exact v_iret F E (dq dkX10_sheet_0 12 rfl)
def f_X10_sheet_45 (x : CS) (a2 : Int32) (a3 : Int32) (a4 : Option Nat) : Option (Int32 × CS) := oc a4 none (fun za4 => (f_X4_become x za4 a2 a3).bind fun r1 => some (1, r1))
set_option maxRecDepth 100000 in
set_option maxHeartbeats 4000000 in
theorem t_X10_sheet_45 {C : Cx} {K : KE} {y : MS} {R : Int32 × CS}  (x : CS) (a2 : Int32) (a3 : Int32) (a4 : Option Nat) (h : f_X10_sheet_45 x a2 a3 a4 = some R) (F : Fx C RX10 cX10_sheet 5 rm_X10_sheet K) (E : CE C (xf K R.2 y) (some (.int R.1)) 0 0 (some .int)) : V C 45 [(2, .int a2), (3, .int a3), (4, va_rf (a4.map (fun q => K.1 + q)))] [] (xf K x y) 0 0 := by
  unfold f_X10_sheet_45 at h
  rcases a4 with _ | za4
  · have h := oc_nh h
    refine v_aloadN F (dq dkX10_sheet_0 25 rfl) 2 rfl ?_
    refine v_iload_n F (dq dkX10_sheet_0 26 rfl) rfl 0 rfl ?_
    refine v_iload_n F (dq dkX10_sheet_0 27 rfl) rfl 1 rfl ?_
    cases h
  · have h := oc_sh h
    refine v_aload F (dq dkX10_sheet_0 25 rfl) 2 rfl ?_
    refine v_iload_n F (dq dkX10_sheet_0 26 rfl) rfl 0 rfl ?_
    refine v_iload_n F (dq dkX10_sheet_0 27 rfl) rfl 1 rfl ?_
    obtain ⟨r1, e2, h⟩ := bd_of h
    refine v_callV 2 F (q := za4) (kc1 := 0) (ks1 := 0) (as := [.int a2, .int a3]) (st := []) (st1 := []) (res := none) (c_X4_become (l := C.2.1) x y za4 a2 a3 e2) (kSh_lt (f_X4_become_k e2)) (kSh_at (f_X4_become_k e2)) rfl (tc51 _ (List.mem_of_getElem? (i := 13) rfl)) (tc51 _ (List.mem_of_getElem? (i := 14) rfl)) (tc51 _ (List.mem_of_getElem? (i := 15) rfl)) (tc2 _ (List.mem_of_getElem? (i := 22) rfl)) (tc51 _ (List.mem_of_getElem? (i := 16) rfl)) (by decide) rfl ⟨rfl, rfl, Nat.le_of_ble_eq_true rfl, Nat.le_of_ble_eq_true rfl⟩ ⟨Nat.le_of_ble_eq_true rfl, Nat.le_of_ble_eq_true rfl⟩ rfl (Nat.le_of_ble_eq_true rfl) rfl rfl rfl (dq dkX10_sheet_0 28 rfl) ?_
    refine v_iconst F (v := 1) (dq dkX10_sheet_0 29 rfl) ki_1 ?_
    have h := Option.some.inj h
    subst h
    exact v_iret F E (dq dkX10_sheet_0 30 rfl)
def f_X10_sheet (x : CS) (a1 : Int32) (a2 : Int32) (a3 : Int32) : Option (Int32 × CS) := (f_X10_sheetAt x a1).bind fun r3 => oc r3 (f_X10_sheet_21 x) (fun s5 => if (b2i (f_X10_within a2 (-1) 2)) = 0 then (f_X10_sheet_21 x) else (if a2 = (-1) then (f_X10_sheet_45 x a2 a3 (some s5)) else (if a3 ≤ 40 then (if 0 ≤ a3 then (f_X10_sheet_45 x a2 a3 (some s5)) else (some ((-14), x))) else (some ((-2), x)))))
set_option maxRecDepth 100000 in
set_option maxHeartbeats 4000000 in
theorem c_X10_sheet {K : KE} {l : Launch} {R : Int32 × CS} (x : CS) (y : MS) (a1 : Int32) (a2 : Int32) (a3 : Int32) (h : f_X10_sheet x a1 a2 a3 = some R) : MC K l yX10_sheet cX10_sheet 5 (some .int) rm_X10_sheet 0 0 [.ref (K.1 + 0), .int a1, .int a2, .int a3] (xf K x y) (xf K R.2 y) (some (.int R.1)) := by
  unfold f_X10_sheet at h
  refine mc_of (ls0 := [(0, .ref (K.1 + 0)), (1, .int a1), (2, .int a2), (3, .int a3)]) (by decide) (Nat.le_of_ble_eq_true rfl) rfl (fun C hl hnm F E => ?_)
  have F : Fx C RX10 cX10_sheet 5 rm_X10_sheet K := F
  refine v_aload_n F (dq dkX10_sheet_0 0 rfl) rfl 0 rfl ?_
  refine v_iload_n F (dq dkX10_sheet_0 1 rfl) rfl 1 rfl ?_
  obtain ⟨r3, e4, h⟩ := bd_of h
  refine v_callV 1 F (q := 0) (kc1 := 0) (ks1 := 0) (as := [.int a1]) (st := []) (st1 := (va_rf (r3.map (fun q => K.1 + q)) :: [])) (res := (some (va_rf (r3.map (fun q => K.1 + q))))) (c_X10_sheetAt (l := C.2.1) x y a1 e4) (xn (by decide)) xc_0 rfl (tc34 _ (List.mem_of_getElem? (i := 17) rfl)) (tc34 _ (List.mem_of_getElem? (i := 18) rfl)) (tc34 _ (List.mem_of_getElem? (i := 19) rfl)) (tc1 _ (List.mem_of_getElem? (i := 2) rfl)) (tc34 _ (List.mem_of_getElem? (i := 20) rfl)) (by decide) rfl ⟨rfl, rfl, Nat.le_of_ble_eq_true rfl, Nat.le_of_ble_eq_true rfl⟩ ⟨Nat.le_of_ble_eq_true rfl, Nat.le_of_ble_eq_true rfl⟩ rfl (Nat.le_of_ble_eq_true rfl) rfl rfl rfl (dq dkX10_sheet_0 2 rfl) ?_
  rcases r3 with _ | s5
  · have h := oc_nh h
    refine v_astoreN F (ls' := [(4, .null), (0, .ref (K.1 + 0)), (1, .int a1), (2, .int a2), (3, .int a3)]) (dq dkX10_sheet_0 3 rfl) (by decide) rfl ?_
    refine v_aloadN F (dq dkX10_sheet_0 4 rfl) 0 rfl ?_
    refine v_ifnullN F (tgt := 21) (dq dkX10_sheet_0 5 rfl) (by decide) ?_
    refine v_sub [] rfl ?_
    exact t_X10_sheet_21 x h F E
  · have h := oc_sh h
    refine v_astore F (ls' := [(4, .ref (K.1 + s5)), (0, .ref (K.1 + 0)), (1, .int a1), (2, .int a2), (3, .int a3)]) (dq dkX10_sheet_0 3 rfl) (by decide) rfl ?_
    refine v_aload F (dq dkX10_sheet_0 4 rfl) 0 rfl ?_
    refine v_ifnull F (dq dkX10_sheet_0 5 rfl) ?_
    refine v_iload_n F (dq dkX10_sheet_0 6 rfl) rfl 3 rfl ?_
    refine v_iconst F (v := (-1)) (dq dkX10_sheet_0 7 rfl) ki_m1 ?_
    refine v_iconst F (v := 2) (dq dkX10_sheet_0 8 rfl) ki_2 ?_
    refine v_callS 3 F (kc1 := 0) (ks1 := 0) (as := [.int a2, .int (-1), .int 2]) (st := []) (st1 := (.int (b2i (f_X10_within a2 (-1) 2)) :: [])) (res := (some (.int (b2i (f_X10_within a2 (-1) 2))))) (c_X10_within (l := C.2.1) a2 (-1) 2) (tc14 _ (List.mem_of_getElem? (i := 3) rfl)) (tc8 _ (List.mem_of_getElem? (i := 15) rfl)) (tc1 _ (List.mem_of_getElem? (i := 2) rfl)) (tc8 _ (List.mem_of_getElem? (i := 16) rfl)) (by decide) rfl ⟨rfl, rfl, Nat.le_of_ble_eq_true rfl, Nat.le_of_ble_eq_true rfl⟩ ⟨Nat.le_of_ble_eq_true rfl, Nat.le_of_ble_eq_true rfl⟩ rfl (Nat.le_of_ble_eq_true rfl) rfl rfl rfl (dq dkX10_sheet_0 9 rfl) ?_
    refine v_if_ne F (tgt := 24) (dq dkX10_sheet_0 10 rfl) (by decide) (fun c7 => ?_) (fun c7 => ?_)
    · rw [if_neg c7] at h
      refine v_iload_n F (dq dkX10_sheet_0 13 rfl) rfl 3 rfl ?_
      refine v_iconst F (v := (-1)) (dq dkX10_sheet_0 14 rfl) ki_m1 ?_
      refine v_icmp_eq F (tgt := 45) (dq dkX10_sheet_0 15 rfl) (by decide) (fun c8 => ?_) (fun c8 => ?_)
      · rw [if_pos c8] at h
        refine v_sub [3, 4, 0] rfl ?_
        exact t_X10_sheet_45 x a2 a3 (some s5) h F E
      · rw [if_neg c8] at h
        refine v_iload_n F (dq dkX10_sheet_0 16 rfl) rfl 4 rfl ?_
        refine v_bipush F (v := 40) (dq dkX10_sheet_0 17 rfl) kb_40 ?_
        refine v_icmp_le F (tgt := 38) (dq dkX10_sheet_0 18 rfl) (by decide) (fun c9 => ?_) (fun c9 => ?_)
        · rw [if_pos c9] at h
          refine v_iload_n F (dq dkX10_sheet_0 21 rfl) rfl 4 rfl ?_
          refine v_if_ge F (tgt := 45) (dq dkX10_sheet_0 22 rfl) (by decide) (fun c10 => ?_) (fun c10 => ?_)
          · rw [if_pos c10] at h
            refine v_sub [3, 4, 0] rfl ?_
            exact t_X10_sheet_45 x a2 a3 (some s5) h F E
          · rw [if_neg c10] at h
            refine v_bipush F (v := (-14)) (dq dkX10_sheet_0 23 rfl) kb_m14 ?_
            have h := Option.some.inj h
            subst h
            exact v_iret F E (dq dkX10_sheet_0 24 rfl)
        · rw [if_neg c9] at h
          refine v_bipush F (v := (-2)) (dq dkX10_sheet_0 19 rfl) kb_m2 ?_
          have h := Option.some.inj h
          subst h
          exact v_iret F E (dq dkX10_sheet_0 20 rfl)
    · rw [if_pos c7] at h
      refine v_sub [] rfl ?_
      exact t_X10_sheet_21 x h F E
def rm_X10_cell : Room := { frames := 3, cells := 0, slots := 0, locals := 73 }
def f_X10_cell_20 (x : CS) (a4 : Option Nat) : Option (Int32 × CS) := oc a4 ((f_X10_refusalFor none).bind fun r1 => some (r1, x)) (fun za4 => (f_X10_refusalFor (some za4)).bind fun r3 => some (r3, x))
set_option maxRecDepth 100000 in
set_option maxHeartbeats 4000000 in
theorem t_X10_cell_20 {C : Cx} {K : KE} {y : MS} {R : Int32 × CS}  (x : CS) (a4 : Option Nat) (h : f_X10_cell_20 x a4 = some R) (F : Fx C RX10 cX10_cell 5 rm_X10_cell K) (E : CE C (xf K R.2 y) (some (.int R.1)) 0 0 (some .int)) : V C 20 [(4, va_rf (a4.map (fun q => K.1 + q)))] [] (xf K x y) 0 0 := by
  unfold f_X10_cell_20 at h
  rcases a4 with _ | za4
  · have h := oc_nh h
    refine v_aloadN F (dq dkX10_cell_0 9 rfl) 0 rfl ?_
    obtain ⟨r1, e2, h⟩ := bd_of h
    refine v_callS 1 F (kc1 := 0) (ks1 := 0) (as := [.null]) (st := []) (st1 := (.int r1 :: [])) (res := (some (.int r1))) (c_X10_refusalFor (l := C.2.1) none e2) (tc35 _ (List.mem_of_getElem? (i := 4) rfl)) (tc35 _ (List.mem_of_getElem? (i := 5) rfl)) (tc1 _ (List.mem_of_getElem? (i := 2) rfl)) (tc35 _ (List.mem_of_getElem? (i := 6) rfl)) (by decide) rfl ⟨rfl, rfl, Nat.le_of_ble_eq_true rfl, Nat.le_of_ble_eq_true rfl⟩ ⟨Nat.le_of_ble_eq_true rfl, Nat.le_of_ble_eq_true rfl⟩ rfl (Nat.le_of_ble_eq_true rfl) rfl rfl rfl (dq dkX10_cell_0 10 rfl) ?_
    have h := Option.some.inj h
    subst h
    exact v_iret F E (dq dkX10_cell_0 11 rfl)
  · have h := oc_sh h
    refine v_aload F (dq dkX10_cell_0 9 rfl) 0 rfl ?_
    obtain ⟨r3, e4, h⟩ := bd_of h
    refine v_callS 1 F (kc1 := 0) (ks1 := 0) (as := [.ref (K.1 + za4)]) (st := []) (st1 := (.int r3 :: [])) (res := (some (.int r3))) (c_X10_refusalFor (l := C.2.1) (some za4) e4) (tc35 _ (List.mem_of_getElem? (i := 4) rfl)) (tc35 _ (List.mem_of_getElem? (i := 5) rfl)) (tc1 _ (List.mem_of_getElem? (i := 2) rfl)) (tc35 _ (List.mem_of_getElem? (i := 6) rfl)) (by decide) rfl ⟨rfl, rfl, Nat.le_of_ble_eq_true rfl, Nat.le_of_ble_eq_true rfl⟩ ⟨Nat.le_of_ble_eq_true rfl, Nat.le_of_ble_eq_true rfl⟩ rfl (Nat.le_of_ble_eq_true rfl) rfl rfl rfl (dq dkX10_cell_0 10 rfl) ?_
    have h := Option.some.inj h
    subst h
    exact v_iret F E (dq dkX10_cell_0 11 rfl)
def f_X10_cell (x : CS) (a1 : Int32) (a2 : Int32) (a3 : Int32) : Option (Int32 × CS) := (f_X10_sheetAt x a1).bind fun r5 => oc r5 (f_X10_cell_20 x none) (fun s7 => (f_X4_isMissing x s7).bind fun r8 => if (b2i r8) = 0 then ((f_X4_has x s7 a2).bind fun r11 => if (b2i r11) = 0 then (some ((-12), x)) else ((f_X4_put x s7 a2 a3).bind fun r14 => some (1, r14))) else (f_X10_cell_20 x (some s7)))
set_option maxRecDepth 100000 in
set_option maxHeartbeats 4000000 in
theorem c_X10_cell {K : KE} {l : Launch} {R : Int32 × CS} (x : CS) (y : MS) (a1 : Int32) (a2 : Int32) (a3 : Int32) (h : f_X10_cell x a1 a2 a3 = some R) : MC K l yX10_cell cX10_cell 5 (some .int) rm_X10_cell 0 0 [.ref (K.1 + 0), .int a1, .int a2, .int a3] (xf K x y) (xf K R.2 y) (some (.int R.1)) := by
  unfold f_X10_cell at h
  refine mc_of (ls0 := [(0, .ref (K.1 + 0)), (1, .int a1), (2, .int a2), (3, .int a3)]) (by decide) (Nat.le_of_ble_eq_true rfl) rfl (fun C hl hnm F E => ?_)
  have F : Fx C RX10 cX10_cell 5 rm_X10_cell K := F
  refine v_aload_n F (dq dkX10_cell_0 0 rfl) rfl 0 rfl ?_
  refine v_iload_n F (dq dkX10_cell_0 1 rfl) rfl 1 rfl ?_
  obtain ⟨r5, e6, h⟩ := bd_of h
  refine v_callV 1 F (q := 0) (kc1 := 0) (ks1 := 0) (as := [.int a1]) (st := []) (st1 := (va_rf (r5.map (fun q => K.1 + q)) :: [])) (res := (some (va_rf (r5.map (fun q => K.1 + q))))) (c_X10_sheetAt (l := C.2.1) x y a1 e6) (xn (by decide)) xc_0 rfl (tc34 _ (List.mem_of_getElem? (i := 17) rfl)) (tc34 _ (List.mem_of_getElem? (i := 18) rfl)) (tc34 _ (List.mem_of_getElem? (i := 19) rfl)) (tc1 _ (List.mem_of_getElem? (i := 2) rfl)) (tc34 _ (List.mem_of_getElem? (i := 20) rfl)) (by decide) rfl ⟨rfl, rfl, Nat.le_of_ble_eq_true rfl, Nat.le_of_ble_eq_true rfl⟩ ⟨Nat.le_of_ble_eq_true rfl, Nat.le_of_ble_eq_true rfl⟩ rfl (Nat.le_of_ble_eq_true rfl) rfl rfl rfl (dq dkX10_cell_0 2 rfl) ?_
  rcases r5 with _ | s7
  · have h := oc_nh h
    refine v_astoreN F (ls' := [(4, .null), (0, .ref (K.1 + 0)), (1, .int a1), (2, .int a2), (3, .int a3)]) (dq dkX10_cell_0 3 rfl) (by decide) rfl ?_
    refine v_aloadN F (dq dkX10_cell_0 4 rfl) 0 rfl ?_
    refine v_ifnullN F (tgt := 20) (dq dkX10_cell_0 5 rfl) (by decide) ?_
    refine v_sub [0] rfl ?_
    exact t_X10_cell_20 x none h F E
  · have h := oc_sh h
    refine v_astore F (ls' := [(4, .ref (K.1 + s7)), (0, .ref (K.1 + 0)), (1, .int a1), (2, .int a2), (3, .int a3)]) (dq dkX10_cell_0 3 rfl) (by decide) rfl ?_
    refine v_aload F (dq dkX10_cell_0 4 rfl) 0 rfl ?_
    refine v_ifnull F (dq dkX10_cell_0 5 rfl) ?_
    refine v_aload F (dq dkX10_cell_0 6 rfl) 0 rfl ?_
    obtain ⟨r8, e9, h⟩ := bd_of h
    refine v_callV 0 F (q := s7) (kc1 := 0) (ks1 := 0) (as := []) (st := []) (st1 := (.int (b2i r8) :: [])) (res := (some (.int (b2i r8)))) (c_X4_isMissing (l := C.2.1) x y s7 e9) (kSh_lt (f_X4_isMissing_k e9)) (kSh_at (f_X4_isMissing_k e9)) rfl (tc35 _ (List.mem_of_getElem? (i := 0) rfl)) (tc35 _ (List.mem_of_getElem? (i := 1) rfl)) (tc35 _ (List.mem_of_getElem? (i := 2) rfl)) (tc2 _ (List.mem_of_getElem? (i := 22) rfl)) (tc35 _ (List.mem_of_getElem? (i := 3) rfl)) (by decide) rfl ⟨rfl, rfl, Nat.le_of_ble_eq_true rfl, Nat.le_of_ble_eq_true rfl⟩ ⟨Nat.le_of_ble_eq_true rfl, Nat.le_of_ble_eq_true rfl⟩ rfl (Nat.le_of_ble_eq_true rfl) rfl rfl rfl (dq dkX10_cell_0 7 rfl) ?_
    refine v_if_eq F (tgt := 26) (dq dkX10_cell_0 8 rfl) (by decide) (fun c10 => ?_) (fun c10 => ?_)
    · rw [if_pos c10] at h
      refine v_aload F (dq dkX10_cell_0 12 rfl) 0 rfl ?_
      refine v_iload_n F (dq dkX10_cell_0 13 rfl) rfl 3 rfl ?_
      obtain ⟨r11, e12, h⟩ := bd_of h
      refine v_callV 1 F (q := s7) (kc1 := 0) (ks1 := 0) (as := [.int a2]) (st := []) (st1 := (.int (b2i r11) :: [])) (res := (some (.int (b2i r11)))) (c_X4_has (l := C.2.1) x y s7 a2 e12) (kSh_lt (f_X4_has_k e12)) (kSh_at (f_X4_has_k e12)) rfl (tc52 _ (List.mem_of_getElem? (i := 3) rfl)) (tc35 _ (List.mem_of_getElem? (i := 12) rfl)) (tc35 _ (List.mem_of_getElem? (i := 13) rfl)) (tc2 _ (List.mem_of_getElem? (i := 22) rfl)) (tc35 _ (List.mem_of_getElem? (i := 14) rfl)) (by decide) rfl ⟨rfl, rfl, Nat.le_of_ble_eq_true rfl, Nat.le_of_ble_eq_true rfl⟩ ⟨Nat.le_of_ble_eq_true rfl, Nat.le_of_ble_eq_true rfl⟩ rfl (Nat.le_of_ble_eq_true rfl) rfl rfl rfl (dq dkX10_cell_0 14 rfl) ?_
      refine v_if_ne F (tgt := 38) (dq dkX10_cell_0 15 rfl) (by decide) (fun c13 => ?_) (fun c13 => ?_)
      · rw [if_neg c13] at h
        refine v_aload F (dq dkX10_cell_0 18 rfl) 0 rfl ?_
        refine v_iload_n F (dq dkX10_cell_0 19 rfl) rfl 3 rfl ?_
        refine v_iload_n F (dq dkX10_cell_0 20 rfl) rfl 4 rfl ?_
        obtain ⟨r14, e15, h⟩ := bd_of h
        refine v_callV 2 F (q := s7) (kc1 := 0) (ks1 := 0) (as := [.int a2, .int a3]) (st := []) (st1 := []) (res := none) (c_X4_put (l := C.2.1) x y s7 a2 a3 e15) (kSh_lt (f_X4_put_k e15)) (kSh_at (f_X4_put_k e15)) rfl (tc52 _ (List.mem_of_getElem? (i := 4) rfl)) (tc52 _ (List.mem_of_getElem? (i := 5) rfl)) (tc52 _ (List.mem_of_getElem? (i := 6) rfl)) (tc2 _ (List.mem_of_getElem? (i := 22) rfl)) (tc52 _ (List.mem_of_getElem? (i := 7) rfl)) (by decide) rfl ⟨rfl, rfl, Nat.le_of_ble_eq_true rfl, Nat.le_of_ble_eq_true rfl⟩ ⟨Nat.le_of_ble_eq_true rfl, Nat.le_of_ble_eq_true rfl⟩ rfl (Nat.le_of_ble_eq_true rfl) rfl rfl rfl (dq dkX10_cell_0 21 rfl) ?_
        refine v_iconst F (v := 1) (dq dkX10_cell_0 22 rfl) ki_1 ?_
        have h := Option.some.inj h
        subst h
        exact v_iret F E (dq dkX10_cell_0 23 rfl)
      · rw [if_pos c13] at h
        refine v_bipush F (v := (-12)) (dq dkX10_cell_0 16 rfl) kb_m12 ?_
        have h := Option.some.inj h
        subst h
        exact v_iret F E (dq dkX10_cell_0 17 rfl)
    · rw [if_neg c10] at h
      refine v_sub [0] rfl ?_
      exact t_X10_cell_20 x (some s7) h F E
def rm_X10_copy : Room := { frames := 2, cells := 0, slots := 0, locals := 52 }
def f_X10_copy_24 (x : CS) : Option (Int32 × CS) := some ((-2), x)
set_option maxRecDepth 100000 in
set_option maxHeartbeats 4000000 in
theorem t_X10_copy_24 {C : Cx} {K : KE} {y : MS} {R : Int32 × CS}  (x : CS) (h : f_X10_copy_24 x = some R) (F : Fx C RX10 cX10_copy 8 rm_X10_copy K) (E : CE C (xf K R.2 y) (some (.int R.1)) 0 0 (some .int)) : V C 24 [] [] (xf K x y) 0 0 := by
  unfold f_X10_copy_24 at h
  refine v_bipush F (v := (-2)) (dq dkX10_copy_0 12 rfl) kb_m2 ?_
  have h := Option.some.inj h
  subst h
  exact v_iret F E (dq dkX10_copy_0 13 rfl)
def f_X10_copy_43 (x : CS) : Option (Int32 × CS) := some ((-11), x)
set_option maxRecDepth 100000 in
set_option maxHeartbeats 4000000 in
theorem t_X10_copy_43 {C : Cx} {K : KE} {y : MS} {R : Int32 × CS}  (x : CS) (h : f_X10_copy_43 x = some R) (F : Fx C RX10 cX10_copy 8 rm_X10_copy K) (E : CE C (xf K R.2 y) (some (.int R.1)) 0 0 (some .int)) : V C 43 [] [] (xf K x y) 0 0 := by
  unfold f_X10_copy_43 at h
  refine v_bipush F (v := (-11)) (dq dkX10_copy_0 20 rfl) kb_m11 ?_
  have h := Option.some.inj h
  subst h
  exact v_iret F E (dq dkX10_copy_0 21 rfl)
def f_X10_copy_85 (x : CS) : Option (Int32 × CS) := some ((-12), x)
set_option maxRecDepth 100000 in
set_option maxHeartbeats 4000000 in
theorem t_X10_copy_85 {C : Cx} {K : KE} {y : MS} {R : Int32 × CS}  (x : CS) (h : f_X10_copy_85 x = some R) (F : Fx C RX10 cX10_copy 8 rm_X10_copy K) (E : CE C (xf K R.2 y) (some (.int R.1)) 0 0 (some .int)) : V C 85 [] [] (xf K x y) 0 0 := by
  unfold f_X10_copy_85 at h
  refine v_bipush F (v := (-12)) (dq dkX10_copy_0 39 rfl) kb_m12 ?_
  have h := Option.some.inj h
  subst h
  exact v_iret F E (dq dkX10_copy_1 0 rfl)
def f_X10_copy (x : CS) (a1 : Int32) (a2 : Int32) (a3 : Int32) (a4 : Int32) (a5 : Int32) : Option (Int32 × CS) := (f_X10_sheetAt x a1).bind fun r1 => oc r1 ((f_X10_sheetAt x a3).bind fun r4 => oc r4 (f_X10_copy_24 x) (fun s6 => f_X10_copy_24 x)) (fun s3 => (f_X10_sheetAt x a3).bind fun r7 => oc r7 (f_X10_copy_24 x) (fun s9 => (f_X4_isMissing x s3).bind fun r10 => if (b2i r10) = 0 then ((f_X4_isMissing x s9).bind fun r13 => if (b2i r13) = 0 then (gd (kSh s3) (gd (kSh s9) (if (gi x s3 1) = (gi x s9 1) then ((f_X4_hasAll x s3 a2 a5).bind fun r19 => if (b2i r19) = 0 then (f_X10_copy_85 x) else ((f_X4_hasAll x s9 a4 a5).bind fun r22 => if (b2i r22) = 0 then (f_X10_copy_85 x) else (gd (kSh s3) (gd (kSh s9) (gd (decide (0 < al (s3 + 1))) (gd (decide (0 < al (s9 + 1))) (gd (cpok a2 a4 a5 (al (s3 + 1)) (al (s9 + 1))) (some (a5, pf x (s9 + 1) (va_cpy (gi x (s3 + 1)) (gi x (s9 + 1)) a2.toNatClampNeg a4.toNatClampNeg a5.toNatClampNeg)))))))))) else (some ((-13), x))))) else (f_X10_copy_43 x)) else (f_X10_copy_43 x)))
set_option maxRecDepth 100000 in
set_option maxHeartbeats 4000000 in
theorem c_X10_copy {K : KE} {l : Launch} {R : Int32 × CS} (x : CS) (y : MS) (a1 : Int32) (a2 : Int32) (a3 : Int32) (a4 : Int32) (a5 : Int32) (h : f_X10_copy x a1 a2 a3 a4 a5 = some R) : MC K l yX10_copy cX10_copy 8 (some .int) rm_X10_copy 0 0 [.ref (K.1 + 0), .int a1, .int a2, .int a3, .int a4, .int a5] (xf K x y) (xf K R.2 y) (some (.int R.1)) := by
  unfold f_X10_copy at h
  refine mc_of (ls0 := [(0, .ref (K.1 + 0)), (1, .int a1), (2, .int a2), (3, .int a3), (4, .int a4), (5, .int a5)]) (by decide) (Nat.le_of_ble_eq_true rfl) rfl (fun C hl hnm F E => ?_)
  have F : Fx C RX10 cX10_copy 8 rm_X10_copy K := F
  refine v_aload_n F (dq dkX10_copy_0 0 rfl) rfl 0 rfl ?_
  refine v_iload_n F (dq dkX10_copy_0 1 rfl) rfl 1 rfl ?_
  obtain ⟨r1, e2, h⟩ := bd_of h
  refine v_callV 1 F (q := 0) (kc1 := 0) (ks1 := 0) (as := [.int a1]) (st := []) (st1 := (va_rf (r1.map (fun q => K.1 + q)) :: [])) (res := (some (va_rf (r1.map (fun q => K.1 + q))))) (c_X10_sheetAt (l := C.2.1) x y a1 e2) (xn (by decide)) xc_0 rfl (tc34 _ (List.mem_of_getElem? (i := 17) rfl)) (tc34 _ (List.mem_of_getElem? (i := 18) rfl)) (tc34 _ (List.mem_of_getElem? (i := 19) rfl)) (tc1 _ (List.mem_of_getElem? (i := 2) rfl)) (tc34 _ (List.mem_of_getElem? (i := 20) rfl)) (by decide) rfl ⟨rfl, rfl, Nat.le_of_ble_eq_true rfl, Nat.le_of_ble_eq_true rfl⟩ ⟨Nat.le_of_ble_eq_true rfl, Nat.le_of_ble_eq_true rfl⟩ rfl (Nat.le_of_ble_eq_true rfl) rfl rfl rfl (dq dkX10_copy_0 2 rfl) ?_
  rcases r1 with _ | s3
  · have h := oc_nh h
    refine v_astoreN F (ls' := [(6, .null), (0, .ref (K.1 + 0)), (1, .int a1), (2, .int a2), (3, .int a3), (4, .int a4), (5, .int a5)]) (dq dkX10_copy_0 3 rfl) (by decide) rfl ?_
    refine v_aload_n F (dq dkX10_copy_0 4 rfl) rfl 1 rfl ?_
    refine v_iload_n F (dq dkX10_copy_0 5 rfl) rfl 4 rfl ?_
    obtain ⟨r4, e5, h⟩ := bd_of h
    refine v_callV 1 F (q := 0) (kc1 := 0) (ks1 := 0) (as := [.int a3]) (st := []) (st1 := (va_rf (r4.map (fun q => K.1 + q)) :: [])) (res := (some (va_rf (r4.map (fun q => K.1 + q))))) (c_X10_sheetAt (l := C.2.1) x y a3 e5) (xn (by decide)) xc_0 rfl (tc34 _ (List.mem_of_getElem? (i := 17) rfl)) (tc34 _ (List.mem_of_getElem? (i := 18) rfl)) (tc34 _ (List.mem_of_getElem? (i := 19) rfl)) (tc1 _ (List.mem_of_getElem? (i := 2) rfl)) (tc34 _ (List.mem_of_getElem? (i := 20) rfl)) (by decide) rfl ⟨rfl, rfl, Nat.le_of_ble_eq_true rfl, Nat.le_of_ble_eq_true rfl⟩ ⟨Nat.le_of_ble_eq_true rfl, Nat.le_of_ble_eq_true rfl⟩ rfl (Nat.le_of_ble_eq_true rfl) rfl rfl rfl (dq dkX10_copy_0 6 rfl) ?_
    rcases r4 with _ | s6
    · have h := oc_nh h
      refine v_astoreN F (ls' := [(7, .null), (6, .null), (0, .ref (K.1 + 0)), (1, .int a1), (2, .int a2), (3, .int a3), (4, .int a4), (5, .int a5)]) (dq dkX10_copy_0 7 rfl) (by decide) rfl ?_
      refine v_aloadN F (dq dkX10_copy_0 8 rfl) 1 rfl ?_
      refine v_ifnullN F (tgt := 24) (dq dkX10_copy_0 9 rfl) (by decide) ?_
      refine v_sub [] rfl ?_
      exact t_X10_copy_24 x h F E
    · have h := oc_sh h
      refine v_astore F (ls' := [(7, .ref (K.1 + s6)), (6, .null), (0, .ref (K.1 + 0)), (1, .int a1), (2, .int a2), (3, .int a3), (4, .int a4), (5, .int a5)]) (dq dkX10_copy_0 7 rfl) (by decide) rfl ?_
      refine v_aloadN F (dq dkX10_copy_0 8 rfl) 1 rfl ?_
      refine v_ifnullN F (tgt := 24) (dq dkX10_copy_0 9 rfl) (by decide) ?_
      refine v_sub [] rfl ?_
      exact t_X10_copy_24 x h F E
  · have h := oc_sh h
    refine v_astore F (ls' := [(6, .ref (K.1 + s3)), (0, .ref (K.1 + 0)), (1, .int a1), (2, .int a2), (3, .int a3), (4, .int a4), (5, .int a5)]) (dq dkX10_copy_0 3 rfl) (by decide) rfl ?_
    refine v_aload_n F (dq dkX10_copy_0 4 rfl) rfl 1 rfl ?_
    refine v_iload_n F (dq dkX10_copy_0 5 rfl) rfl 4 rfl ?_
    obtain ⟨r7, e8, h⟩ := bd_of h
    refine v_callV 1 F (q := 0) (kc1 := 0) (ks1 := 0) (as := [.int a3]) (st := []) (st1 := (va_rf (r7.map (fun q => K.1 + q)) :: [])) (res := (some (va_rf (r7.map (fun q => K.1 + q))))) (c_X10_sheetAt (l := C.2.1) x y a3 e8) (xn (by decide)) xc_0 rfl (tc34 _ (List.mem_of_getElem? (i := 17) rfl)) (tc34 _ (List.mem_of_getElem? (i := 18) rfl)) (tc34 _ (List.mem_of_getElem? (i := 19) rfl)) (tc1 _ (List.mem_of_getElem? (i := 2) rfl)) (tc34 _ (List.mem_of_getElem? (i := 20) rfl)) (by decide) rfl ⟨rfl, rfl, Nat.le_of_ble_eq_true rfl, Nat.le_of_ble_eq_true rfl⟩ ⟨Nat.le_of_ble_eq_true rfl, Nat.le_of_ble_eq_true rfl⟩ rfl (Nat.le_of_ble_eq_true rfl) rfl rfl rfl (dq dkX10_copy_0 6 rfl) ?_
    rcases r7 with _ | s9
    · have h := oc_nh h
      refine v_astoreN F (ls' := [(7, .null), (6, .ref (K.1 + s3)), (0, .ref (K.1 + 0)), (1, .int a1), (2, .int a2), (3, .int a3), (4, .int a4), (5, .int a5)]) (dq dkX10_copy_0 7 rfl) (by decide) rfl ?_
      refine v_aload F (dq dkX10_copy_0 8 rfl) 1 rfl ?_
      refine v_ifnull F (dq dkX10_copy_0 9 rfl) ?_
      refine v_aloadN F (dq dkX10_copy_0 10 rfl) 0 rfl ?_
      refine v_ifnonnullN F (dq dkX10_copy_0 11 rfl) ?_
      refine v_sub [] rfl ?_
      exact t_X10_copy_24 x h F E
    · have h := oc_sh h
      refine v_astore F (ls' := [(7, .ref (K.1 + s9)), (6, .ref (K.1 + s3)), (0, .ref (K.1 + 0)), (1, .int a1), (2, .int a2), (3, .int a3), (4, .int a4), (5, .int a5)]) (dq dkX10_copy_0 7 rfl) (by decide) rfl ?_
      refine v_aload F (dq dkX10_copy_0 8 rfl) 1 rfl ?_
      refine v_ifnull F (dq dkX10_copy_0 9 rfl) ?_
      refine v_aload F (dq dkX10_copy_0 10 rfl) 0 rfl ?_
      refine v_ifnonnull F (tgt := 27) (dq dkX10_copy_0 11 rfl) (by decide) ?_
      refine v_aload F (dq dkX10_copy_0 14 rfl) 1 rfl ?_
      obtain ⟨r10, e11, h⟩ := bd_of h
      refine v_callV 0 F (q := s3) (kc1 := 0) (ks1 := 0) (as := []) (st := []) (st1 := (.int (b2i r10) :: [])) (res := (some (.int (b2i r10)))) (c_X4_isMissing (l := C.2.1) x y s3 e11) (kSh_lt (f_X4_isMissing_k e11)) (kSh_at (f_X4_isMissing_k e11)) rfl (tc35 _ (List.mem_of_getElem? (i := 0) rfl)) (tc35 _ (List.mem_of_getElem? (i := 1) rfl)) (tc35 _ (List.mem_of_getElem? (i := 2) rfl)) (tc2 _ (List.mem_of_getElem? (i := 22) rfl)) (tc35 _ (List.mem_of_getElem? (i := 3) rfl)) (by decide) rfl ⟨rfl, rfl, Nat.le_of_ble_eq_true rfl, Nat.le_of_ble_eq_true rfl⟩ ⟨Nat.le_of_ble_eq_true rfl, Nat.le_of_ble_eq_true rfl⟩ rfl (Nat.le_of_ble_eq_true rfl) rfl rfl rfl (dq dkX10_copy_0 15 rfl) ?_
      refine v_if_ne F (tgt := 43) (dq dkX10_copy_0 16 rfl) (by decide) (fun c12 => ?_) (fun c12 => ?_)
      · rw [if_neg c12] at h
        refine v_sub [] rfl ?_
        exact t_X10_copy_43 x h F E
      · rw [if_pos c12] at h
        refine v_aload F (dq dkX10_copy_0 17 rfl) 0 rfl ?_
        obtain ⟨r13, e14, h⟩ := bd_of h
        refine v_callV 0 F (q := s9) (kc1 := 0) (ks1 := 0) (as := []) (st := []) (st1 := (.int (b2i r13) :: [])) (res := (some (.int (b2i r13)))) (c_X4_isMissing (l := C.2.1) x y s9 e14) (kSh_lt (f_X4_isMissing_k e14)) (kSh_at (f_X4_isMissing_k e14)) rfl (tc35 _ (List.mem_of_getElem? (i := 0) rfl)) (tc35 _ (List.mem_of_getElem? (i := 1) rfl)) (tc35 _ (List.mem_of_getElem? (i := 2) rfl)) (tc2 _ (List.mem_of_getElem? (i := 22) rfl)) (tc35 _ (List.mem_of_getElem? (i := 3) rfl)) (by decide) rfl ⟨rfl, rfl, Nat.le_of_ble_eq_true rfl, Nat.le_of_ble_eq_true rfl⟩ ⟨Nat.le_of_ble_eq_true rfl, Nat.le_of_ble_eq_true rfl⟩ rfl (Nat.le_of_ble_eq_true rfl) rfl rfl rfl (dq dkX10_copy_0 18 rfl) ?_
        refine v_if_eq F (tgt := 46) (dq dkX10_copy_0 19 rfl) (by decide) (fun c15 => ?_) (fun c15 => ?_)
        · rw [if_pos c15] at h
          refine v_aload F (dq dkX10_copy_0 22 rfl) 1 rfl ?_
          obtain ⟨g16, h⟩ := gd_of h
          refine v_getN F s3 (kSh_lt g16) (kSh_at g16) rfl inlX4 1 (by decide) (List.mem_of_getElem? (i := 15) rfl) rfl rfl (dq dkX10_copy_0 23 rfl) ?_
          refine v_aload F (dq dkX10_copy_0 24 rfl) 0 rfl ?_
          obtain ⟨g17, h⟩ := gd_of h
          refine v_getN F s9 (kSh_lt g17) (kSh_at g17) rfl inlX4 1 (by decide) (List.mem_of_getElem? (i := 15) rfl) rfl rfl (dq dkX10_copy_0 25 rfl) ?_
          refine v_icmp_eq F (tgt := 62) (dq dkX10_copy_0 26 rfl) (by decide) (fun c18 => ?_) (fun c18 => ?_)
          · rw [if_pos c18] at h
            refine v_aload F (dq dkX10_copy_0 29 rfl) 1 rfl ?_
            refine v_iload_n F (dq dkX10_copy_0 30 rfl) rfl 4 rfl ?_
            refine v_iload F (dq dkX10_copy_0 31 rfl) 7 rfl ?_
            obtain ⟨r19, e20, h⟩ := bd_of h
            refine v_callV 2 F (q := s3) (kc1 := 0) (ks1 := 0) (as := [.int a2, .int a5]) (st := []) (st1 := (.int (b2i r19) :: [])) (res := (some (.int (b2i r19)))) (c_X4_hasAll (l := C.2.1) x y s3 a2 a5 e20) (kSh_lt (f_X4_hasAll_k e20)) (kSh_at (f_X4_hasAll_k e20)) rfl (tc52 _ (List.mem_of_getElem? (i := 17) rfl)) (tc52 _ (List.mem_of_getElem? (i := 18) rfl)) (tc52 _ (List.mem_of_getElem? (i := 19) rfl)) (tc2 _ (List.mem_of_getElem? (i := 22) rfl)) (tc52 _ (List.mem_of_getElem? (i := 20) rfl)) (by decide) rfl ⟨rfl, rfl, Nat.le_of_ble_eq_true rfl, Nat.le_of_ble_eq_true rfl⟩ ⟨Nat.le_of_ble_eq_true rfl, Nat.le_of_ble_eq_true rfl⟩ rfl (Nat.le_of_ble_eq_true rfl) rfl rfl rfl (dq dkX10_copy_0 32 rfl) ?_
            refine v_if_eq F (tgt := 85) (dq dkX10_copy_0 33 rfl) (by decide) (fun c21 => ?_) (fun c21 => ?_)
            · rw [if_pos c21] at h
              refine v_sub [] rfl ?_
              exact t_X10_copy_85 x h F E
            · rw [if_neg c21] at h
              refine v_aload F (dq dkX10_copy_0 34 rfl) 0 rfl ?_
              refine v_iload F (dq dkX10_copy_0 35 rfl) 6 rfl ?_
              refine v_iload F (dq dkX10_copy_0 36 rfl) 7 rfl ?_
              obtain ⟨r22, e23, h⟩ := bd_of h
              refine v_callV 2 F (q := s9) (kc1 := 0) (ks1 := 0) (as := [.int a4, .int a5]) (st := []) (st1 := (.int (b2i r22) :: [])) (res := (some (.int (b2i r22)))) (c_X4_hasAll (l := C.2.1) x y s9 a4 a5 e23) (kSh_lt (f_X4_hasAll_k e23)) (kSh_at (f_X4_hasAll_k e23)) rfl (tc52 _ (List.mem_of_getElem? (i := 17) rfl)) (tc52 _ (List.mem_of_getElem? (i := 18) rfl)) (tc52 _ (List.mem_of_getElem? (i := 19) rfl)) (tc2 _ (List.mem_of_getElem? (i := 22) rfl)) (tc52 _ (List.mem_of_getElem? (i := 20) rfl)) (by decide) rfl ⟨rfl, rfl, Nat.le_of_ble_eq_true rfl, Nat.le_of_ble_eq_true rfl⟩ ⟨Nat.le_of_ble_eq_true rfl, Nat.le_of_ble_eq_true rfl⟩ rfl (Nat.le_of_ble_eq_true rfl) rfl rfl rfl (dq dkX10_copy_0 37 rfl) ?_
              refine v_if_ne F (tgt := 88) (dq dkX10_copy_0 38 rfl) (by decide) (fun c24 => ?_) (fun c24 => ?_)
              · rw [if_neg c24] at h
                refine v_aload F (dq dkX10_copy_1 1 rfl) 1 rfl ?_
                obtain ⟨g25, h⟩ := gd_of h
                refine v_getN F s3 (kSh_lt g25) (kSh_at g25) rfl inlX4 0 (by decide) (List.mem_of_getElem? (i := 14) rfl) rfl rfl (dq dkX10_copy_1 2 rfl) ?_
                refine v_iload_n F (dq dkX10_copy_1 3 rfl) rfl 4 rfl ?_
                refine v_aload F (dq dkX10_copy_1 4 rfl) 0 rfl ?_
                obtain ⟨g26, h⟩ := gd_of h
                refine v_getN F s9 (kSh_lt g26) (kSh_at g26) rfl inlX4 0 (by decide) (List.mem_of_getElem? (i := 14) rfl) rfl rfl (dq dkX10_copy_1 5 rfl) ?_
                refine v_iload F (dq dkX10_copy_1 6 rfl) 6 rfl ?_
                refine v_iload F (dq dkX10_copy_1 7 rfl) 7 rfl ?_
                obtain ⟨g27, h⟩ := gd_of h
                obtain ⟨g28, h⟩ := gd_of h
                obtain ⟨g29, h⟩ := gd_of h
                refine v_copy F (s3 + 1) (s9 + 1) (xl_lt g27) (xl_at g27) (xl_lt g28) (xl_at g28) g29 (tc52 _ (List.mem_of_getElem? (i := 16) rfl)) (tc11 _ (List.mem_of_getElem? (i := 6) rfl)) (tc11 _ (List.mem_of_getElem? (i := 7) rfl)) (tc11 _ (List.mem_of_getElem? (i := 8) rfl)) (Nat.le_of_ble_eq_true rfl) (Nat.le_of_ble_eq_true rfl) (dq dkX10_copy_1 8 rfl) ?_
                refine v_eqM (xwF (xl_lc g28) ((xa_all (of_decide_eq_true g28)).2 _)) ?_
                refine v_iload F (dq dkX10_copy_1 9 rfl) 7 rfl ?_
                have h := Option.some.inj h
                subst h
                exact v_iret F E (dq dkX10_copy_1 10 rfl)
              · rw [if_pos c24] at h
                refine v_sub [] rfl ?_
                exact t_X10_copy_85 x h F E
          · rw [if_neg c18] at h
            refine v_bipush F (v := (-13)) (dq dkX10_copy_0 27 rfl) kb_m13 ?_
            have h := Option.some.inj h
            subst h
            exact v_iret F E (dq dkX10_copy_0 28 rfl)
        · rw [if_neg c15] at h
          refine v_sub [] rfl ?_
          exact t_X10_copy_43 x h F E
def rm_X10_worksBy : Room := { frames := 3, cells := 0, slots := 0, locals := 75 }
def f_X10_worksBy_32 (x : CS) : Option (Int32 × CS) := some ((-2), x)
set_option maxRecDepth 100000 in
set_option maxHeartbeats 4000000 in
theorem t_X10_worksBy_32 {C : Cx} {K : KE} {y : MS} {R : Int32 × CS}  (x : CS) (h : f_X10_worksBy_32 x = some R) (F : Fx C RX10 cX10_worksBy 9 rm_X10_worksBy K) (E : CE C (xf K R.2 y) (some (.int R.1)) 0 0 (some .int)) : V C 32 [] [] (xf K x y) 0 0 := by
  unfold f_X10_worksBy_32 at h
  refine v_bipush F (v := (-2)) (dq dkX10_worksBy_0 16 rfl) kb_m2 ?_
  have h := Option.some.inj h
  subst h
  exact v_iret F E (dq dkX10_worksBy_0 17 rfl)
def f_X10_worksBy_91 (x : CS) : Option (Int32 × CS) := some ((-12), x)
set_option maxRecDepth 100000 in
set_option maxHeartbeats 4000000 in
theorem t_X10_worksBy_91 {C : Cx} {K : KE} {y : MS} {R : Int32 × CS}  (x : CS) (h : f_X10_worksBy_91 x = some R) (F : Fx C RX10 cX10_worksBy 9 rm_X10_worksBy K) (E : CE C (xf K R.2 y) (some (.int R.1)) 0 0 (some .int)) : V C 91 [] [] (xf K x y) 0 0 := by
  unfold f_X10_worksBy_91 at h
  refine v_bipush F (v := (-12)) (dq dkX10_worksBy_1 8 rfl) kb_m12 ?_
  have h := Option.some.inj h
  subst h
  exact v_iret F E (dq dkX10_worksBy_1 9 rfl)
def f_X10_worksBy_140 (k64 : CS → Int32 → Int32 → Option Nat → Int32 → Int32 → Option (Int32 × CS)) (x : CS) (a3 : Int32) (a4 : Int32) (a5 : Option Nat) (a6 : Int32) (a7 : Int32) : Option (Int32 × CS) := oc a5 (k64 x a3 a4 none a6 (a7 + 1)) (fun za5 => k64 x a3 a4 (some za5) a6 (a7 + 1))
set_option maxRecDepth 100000 in
set_option maxHeartbeats 4000000 in
theorem t_X10_worksBy_140 {C : Cx} {K : KE} {y : MS} {R : Int32 × CS}  (k64 : CS → Int32 → Int32 → Option Nat → Int32 → Int32 → Option (Int32 × CS)) (x : CS) (a3 : Int32) (a4 : Int32) (a5 : Option Nat) (a6 : Int32) (a7 : Int32) (hk64 : ∀ (x : CS) (a3 : Int32) (a4 : Int32) (a5 : Option Nat) (a6 : Int32) (a7 : Int32), k64 x a3 a4 a5 a6 a7 = some R → V C 64 [(0, .ref (K.1 + 0)), (3, .int a3), (4, .int a4), (5, va_rf (a5.map (fun q => K.1 + q))), (6, .int a6), (7, .int a7)] [] (xf K x y) 0 0) (h : f_X10_worksBy_140 k64 x a3 a4 a5 a6 a7 = some R) (F : Fx C RX10 cX10_worksBy 9 rm_X10_worksBy K) (E : CE C (xf K R.2 y) (some (.int R.1)) 0 0 (some .int)) : V C 140 [(0, .ref (K.1 + 0)), (3, .int a3), (4, .int a4), (5, va_rf (a5.map (fun q => K.1 + q))), (6, .int a6), (7, .int a7)] [] (xf K x y) 0 0 := by
  unfold f_X10_worksBy_140 at h
  rcases a5 with _ | za5
  · have h := oc_nh h
    refine v_iinc F (v := a7 + 1) (ls' := [(7, .int (a7 + 1)), (0, .ref (K.1 + 0)), (3, .int a3), (4, .int a4), (5, .null), (6, .int a6)]) (dq dkX10_worksBy_1 34 rfl) (j := 5) rfl (kv_add ki_1) (by decide) rfl ?_
    refine v_goto F (tgt := 64) (dq dkX10_worksBy_1 35 rfl) (by decide) ?_
    refine v_sub [1, 2, 3, 4, 5, 0] rfl ?_
    exact hk64 x a3 a4 none a6 (a7 + 1) h
  · have h := oc_sh h
    refine v_iinc F (v := a7 + 1) (ls' := [(7, .int (a7 + 1)), (0, .ref (K.1 + 0)), (3, .int a3), (4, .int a4), (5, .ref (K.1 + za5)), (6, .int a6)]) (dq dkX10_worksBy_1 34 rfl) (j := 5) rfl (kv_add ki_1) (by decide) rfl ?_
    refine v_goto F (tgt := 64) (dq dkX10_worksBy_1 35 rfl) (by decide) ?_
    refine v_sub [1, 2, 3, 4, 5, 0] rfl ?_
    exact hk64 x a3 a4 (some za5) a6 (a7 + 1) h
def f_X10_worksBy_64 : Nat → CS → Int32 → Int32 → Option Nat → Int32 → Int32 → Option (Int32 × CS)
  | 0, _, _, _, _, _, _ => none
  | n + 1, x, a3, a4, a5, a6, a7 => oc a5 (if a4 ≤ a7 then (some (a6, x)) else (if a3 < 0 then (f_X10_worksBy_91 x) else none)) (fun za5 => if a4 ≤ a7 then (some (a6, x)) else (if a3 < 0 then (f_X10_worksBy_91 x) else (gd (kSh za5) (if a3 ≤ ((gi x za5 2) - (3 * (a7 + 1))) then ((f_X4_at x za5 (a3 + (3 * a7))).bind fun r7 => (f_X4_at x za5 ((a3 + (3 * a7)) + 1)).bind fun r9 => (f_X4_at x za5 ((a3 + (3 * a7)) + 2)).bind fun r11 => (f_X9_add x r7 r9 r11).bind fun r13 => if r13.1 < 0 then (f_X10_worksBy_140 (f_X10_worksBy_64 n) r13.2 a3 a4 (some za5) a6 a7) else (f_X10_worksBy_140 (f_X10_worksBy_64 n) r13.2 a3 a4 (some za5) (a6 + 1) a7)) else (f_X10_worksBy_91 x)))))
set_option maxRecDepth 100000 in
set_option maxHeartbeats 4000000 in
theorem t_X10_worksBy_64 {C : Cx} {K : KE} {y : MS} {R : Int32 × CS}  (F : Fx C RX10 cX10_worksBy 9 rm_X10_worksBy K) (E : CE C (xf K R.2 y) (some (.int R.1)) 0 0 (some .int)) : ∀ (n : Nat) (x : CS) (a3 : Int32) (a4 : Int32) (a5 : Option Nat) (a6 : Int32) (a7 : Int32) (h : f_X10_worksBy_64 n x a3 a4 a5 a6 a7 = some R), V C 64 [(0, .ref (K.1 + 0)), (3, .int a3), (4, .int a4), (5, va_rf (a5.map (fun q => K.1 + q))), (6, .int a6), (7, .int a7)] [] (xf K x y) 0 0 := by
  intro n
  induction n with
  | zero => intro x a3 a4 a5 a6 a7 h; cases h
  | succ n ih =>
    intro x a3 a4 a5 a6 a7 h
    rw [f_X10_worksBy_64] at h
    rcases a5 with _ | za5
    · have h := oc_nh h
      refine v_iload F (dq dkX10_worksBy_0 33 rfl) 5 rfl ?_
      refine v_iload F (dq dkX10_worksBy_0 34 rfl) 2 rfl ?_
      refine v_icmp_ge F (tgt := 146) (dq dkX10_worksBy_0 35 rfl) (by decide) (fun c1 => ?_) (fun c1 => ?_)
      · rw [if_pos c1] at h
        refine v_iload F (dq dkX10_worksBy_1 36 rfl) 4 rfl ?_
        have h := Option.some.inj h
        subst h
        exact v_iret F E (dq dkX10_worksBy_1 37 rfl)
      · rw [if_neg c1] at h
        refine v_iload_n F (dq dkX10_worksBy_0 36 rfl) rfl 1 rfl ?_
        refine v_if_lt F (tgt := 91) (dq dkX10_worksBy_0 37 rfl) (by decide) (fun c2 => ?_) (fun c2 => ?_)
        · rw [if_pos c2] at h
          refine v_sub [] rfl ?_
          exact t_X10_worksBy_91 x h F E
        · rw [if_neg c2] at h
          refine v_iload_n F (dq dkX10_worksBy_0 38 rfl) rfl 1 rfl ?_
          refine v_aloadN F (dq dkX10_worksBy_0 39 rfl) 3 rfl ?_
          cases h
    · have h := oc_sh h
      refine v_iload F (dq dkX10_worksBy_0 33 rfl) 5 rfl ?_
      refine v_iload F (dq dkX10_worksBy_0 34 rfl) 2 rfl ?_
      refine v_icmp_ge F (tgt := 146) (dq dkX10_worksBy_0 35 rfl) (by decide) (fun c3 => ?_) (fun c3 => ?_)
      · rw [if_pos c3] at h
        refine v_iload F (dq dkX10_worksBy_1 36 rfl) 4 rfl ?_
        have h := Option.some.inj h
        subst h
        exact v_iret F E (dq dkX10_worksBy_1 37 rfl)
      · rw [if_neg c3] at h
        refine v_iload_n F (dq dkX10_worksBy_0 36 rfl) rfl 1 rfl ?_
        refine v_if_lt F (tgt := 91) (dq dkX10_worksBy_0 37 rfl) (by decide) (fun c4 => ?_) (fun c4 => ?_)
        · rw [if_pos c4] at h
          refine v_sub [] rfl ?_
          exact t_X10_worksBy_91 x h F E
        · rw [if_neg c4] at h
          refine v_iload_n F (dq dkX10_worksBy_0 38 rfl) rfl 1 rfl ?_
          refine v_aload F (dq dkX10_worksBy_0 39 rfl) 3 rfl ?_
          obtain ⟨g5, h⟩ := gd_of h
          refine v_getN F za5 (kSh_lt g5) (kSh_at g5) rfl inlX4 2 (by decide) (List.mem_of_getElem? (i := 16) rfl) rfl rfl (dq dkX10_worksBy_1 0 rfl) ?_
          refine v_iconst F (v := 3) (dq dkX10_worksBy_1 1 rfl) ki_3 ?_
          refine v_iload F (dq dkX10_worksBy_1 2 rfl) 5 rfl ?_
          refine v_iconst F (v := 1) (dq dkX10_worksBy_1 3 rfl) ki_1 ?_
          refine v_iadd F (dq dkX10_worksBy_1 4 rfl) ?_
          refine v_imul F (dq dkX10_worksBy_1 5 rfl) ?_
          refine v_isub F (dq dkX10_worksBy_1 6 rfl) ?_
          refine v_icmp_le F (tgt := 94) (dq dkX10_worksBy_1 7 rfl) (by decide) (fun c6 => ?_) (fun c6 => ?_)
          · rw [if_pos c6] at h
            refine v_iload_n F (dq dkX10_worksBy_1 10 rfl) rfl 1 rfl ?_
            refine v_iconst F (v := 3) (dq dkX10_worksBy_1 11 rfl) ki_3 ?_
            refine v_iload F (dq dkX10_worksBy_1 12 rfl) 5 rfl ?_
            refine v_imul F (dq dkX10_worksBy_1 13 rfl) ?_
            refine v_iadd F (dq dkX10_worksBy_1 14 rfl) ?_
            refine v_istore F (ls' := [(8, .int (a3 + (3 * a7))), (0, .ref (K.1 + 0)), (3, .int a3), (4, .int a4), (5, .ref (K.1 + za5)), (6, .int a6), (7, .int a7)]) (dq dkX10_worksBy_1 15 rfl) (by decide) rfl ?_
            refine v_aload_n F (dq dkX10_worksBy_1 16 rfl) rfl 1 rfl ?_
            refine v_get F 0 (xn (by decide)) xc_0 rfl inlX10 3 (by decide) (tc2 _ (List.mem_of_getElem? (i := 4) rfl)) rfl rfl (dq dkX10_worksBy_1 17 rfl) ?_
            refine v_aload F (dq dkX10_worksBy_1 18 rfl) 4 rfl ?_
            refine v_iload F (dq dkX10_worksBy_1 19 rfl) 0 rfl ?_
            obtain ⟨r7, e8, h⟩ := bd_of h
            refine v_callV 1 F (q := za5) (kc1 := 0) (ks1 := 0) (as := [.int (a3 + (3 * a7))]) (st := [.ref (K.1 + 30)]) (st1 := (.int r7 :: [.ref (K.1 + 30)])) (res := (some (.int r7))) (c_X4_at (l := C.2.1) x y za5 (a3 + (3 * a7)) e8) (kSh_lt (f_X4_at_k e8)) (kSh_at (f_X4_at_k e8)) rfl (tc35 _ (List.mem_of_getElem? (i := 7) rfl)) (tc35 _ (List.mem_of_getElem? (i := 8) rfl)) (tc35 _ (List.mem_of_getElem? (i := 9) rfl)) (tc2 _ (List.mem_of_getElem? (i := 22) rfl)) (tc35 _ (List.mem_of_getElem? (i := 10) rfl)) (by decide) rfl ⟨rfl, rfl, Nat.le_of_ble_eq_true rfl, Nat.le_of_ble_eq_true rfl⟩ ⟨Nat.le_of_ble_eq_true rfl, Nat.le_of_ble_eq_true rfl⟩ rfl (Nat.le_of_ble_eq_true rfl) rfl rfl rfl (dq dkX10_worksBy_1 20 rfl) ?_
            refine v_aload F (dq dkX10_worksBy_1 21 rfl) 4 rfl ?_
            refine v_iload F (dq dkX10_worksBy_1 22 rfl) 0 rfl ?_
            refine v_iconst F (v := 1) (dq dkX10_worksBy_1 23 rfl) ki_1 ?_
            refine v_iadd F (dq dkX10_worksBy_1 24 rfl) ?_
            obtain ⟨r9, e10, h⟩ := bd_of h
            refine v_callV 1 F (q := za5) (kc1 := 0) (ks1 := 0) (as := [.int ((a3 + (3 * a7)) + 1)]) (st := [.int r7, .ref (K.1 + 30)]) (st1 := (.int r9 :: [.int r7, .ref (K.1 + 30)])) (res := (some (.int r9))) (c_X4_at (l := C.2.1) x y za5 ((a3 + (3 * a7)) + 1) e10) (kSh_lt (f_X4_at_k e10)) (kSh_at (f_X4_at_k e10)) rfl (tc35 _ (List.mem_of_getElem? (i := 7) rfl)) (tc35 _ (List.mem_of_getElem? (i := 8) rfl)) (tc35 _ (List.mem_of_getElem? (i := 9) rfl)) (tc2 _ (List.mem_of_getElem? (i := 22) rfl)) (tc35 _ (List.mem_of_getElem? (i := 10) rfl)) (by decide) rfl ⟨rfl, rfl, Nat.le_of_ble_eq_true rfl, Nat.le_of_ble_eq_true rfl⟩ ⟨Nat.le_of_ble_eq_true rfl, Nat.le_of_ble_eq_true rfl⟩ rfl (Nat.le_of_ble_eq_true rfl) rfl rfl rfl (dq dkX10_worksBy_1 25 rfl) ?_
            refine v_aload F (dq dkX10_worksBy_1 26 rfl) 4 rfl ?_
            refine v_iload F (dq dkX10_worksBy_1 27 rfl) 0 rfl ?_
            refine v_iconst F (v := 2) (dq dkX10_worksBy_1 28 rfl) ki_2 ?_
            refine v_iadd F (dq dkX10_worksBy_1 29 rfl) ?_
            obtain ⟨r11, e12, h⟩ := bd_of h
            refine v_callV 1 F (q := za5) (kc1 := 0) (ks1 := 0) (as := [.int ((a3 + (3 * a7)) + 2)]) (st := [.int r9, .int r7, .ref (K.1 + 30)]) (st1 := (.int r11 :: [.int r9, .int r7, .ref (K.1 + 30)])) (res := (some (.int r11))) (c_X4_at (l := C.2.1) x y za5 ((a3 + (3 * a7)) + 2) e12) (kSh_lt (f_X4_at_k e12)) (kSh_at (f_X4_at_k e12)) rfl (tc35 _ (List.mem_of_getElem? (i := 7) rfl)) (tc35 _ (List.mem_of_getElem? (i := 8) rfl)) (tc35 _ (List.mem_of_getElem? (i := 9) rfl)) (tc2 _ (List.mem_of_getElem? (i := 22) rfl)) (tc35 _ (List.mem_of_getElem? (i := 10) rfl)) (by decide) rfl ⟨rfl, rfl, Nat.le_of_ble_eq_true rfl, Nat.le_of_ble_eq_true rfl⟩ ⟨Nat.le_of_ble_eq_true rfl, Nat.le_of_ble_eq_true rfl⟩ rfl (Nat.le_of_ble_eq_true rfl) rfl rfl rfl (dq dkX10_worksBy_1 30 rfl) ?_
            obtain ⟨r13, e14, h⟩ := bd_of h
            refine v_callV 3 F (q := 30) (kc1 := 0) (ks1 := 0) (as := [.int r7, .int r9, .int r11]) (st := []) (st1 := (.int r13.1 :: [])) (res := (some (.int r13.1))) (c_X9_add (l := C.2.1) x y r7 r9 r11 e14) (xn (by decide)) xc_30 rfl (tc22 _ (List.mem_of_getElem? (i := 8) rfl)) (tc22 _ (List.mem_of_getElem? (i := 9) rfl)) (tc22 _ (List.mem_of_getElem? (i := 10) rfl)) (tc2 _ (List.mem_of_getElem? (i := 3) rfl)) (tc22 _ (List.mem_of_getElem? (i := 11) rfl)) (by decide) rfl ⟨rfl, rfl, Nat.le_of_ble_eq_true rfl, Nat.le_of_ble_eq_true rfl⟩ ⟨Nat.le_of_ble_eq_true rfl, Nat.le_of_ble_eq_true rfl⟩ rfl (Nat.le_of_ble_eq_true rfl) rfl rfl rfl (dq dkX10_worksBy_1 31 rfl) ?_
            refine v_if_lt F (tgt := 140) (dq dkX10_worksBy_1 32 rfl) (by decide) (fun c15 => ?_) (fun c15 => ?_)
            · rw [if_pos c15] at h
              refine v_sub [1, 2, 3, 4, 5, 6] rfl ?_
              exact t_X10_worksBy_140 (f_X10_worksBy_64 n) r13.2 a3 a4 (some za5) a6 a7 ih h F E
            · rw [if_neg c15] at h
              refine v_iinc F (v := a6 + 1) (ls' := [(6, .int (a6 + 1)), (8, .int (a3 + (3 * a7))), (0, .ref (K.1 + 0)), (3, .int a3), (4, .int a4), (5, .ref (K.1 + za5)), (7, .int a7)]) (dq dkX10_worksBy_1 33 rfl) (j := 5) rfl (kv_add ki_1) (by decide) rfl ?_
              refine v_sub [2, 3, 4, 5, 0, 6] rfl ?_
              exact t_X10_worksBy_140 (f_X10_worksBy_64 n) r13.2 a3 a4 (some za5) (a6 + 1) a7 ih h F E
          · rw [if_neg c6] at h
            refine v_sub [] rfl ?_
            exact t_X10_worksBy_91 x h F E
def f_X10_worksBy (x : CS) (a1 : Int32) (a2 : Int32) (a3 : Int32) (a4 : Int32) : Option (Int32 × CS) := (f_X10_sheetAt x a1).bind fun r16 => oc r16 (f_X10_worksBy_32 x) (fun s18 => if (b2i (f_X10_within a2 0 2)) = 0 then (f_X10_worksBy_32 x) else (if (b2i (f_X10_within a4 0 10)) = 0 then (f_X10_worksBy_32 x) else ((f_X4_isMissing x s18).bind fun r23 => if (b2i r23) = 0 then (gd (kSh s18) (if (gi x s18 1) = a2 then (f_X10_worksBy_64 1000 x a3 a4 (some s18) 0 0) else (some ((-13), x)))) else (some ((-11), x)))))
set_option maxRecDepth 100000 in
set_option maxHeartbeats 4000000 in
theorem c_X10_worksBy {K : KE} {l : Launch} {R : Int32 × CS} (x : CS) (y : MS) (a1 : Int32) (a2 : Int32) (a3 : Int32) (a4 : Int32) (h : f_X10_worksBy x a1 a2 a3 a4 = some R) : MC K l yX10_worksBy cX10_worksBy 9 (some .int) rm_X10_worksBy 0 0 [.ref (K.1 + 0), .int a1, .int a2, .int a3, .int a4] (xf K x y) (xf K R.2 y) (some (.int R.1)) := by
  unfold f_X10_worksBy at h
  refine mc_of (ls0 := [(0, .ref (K.1 + 0)), (1, .int a1), (2, .int a2), (3, .int a3), (4, .int a4)]) (by decide) (Nat.le_of_ble_eq_true rfl) rfl (fun C hl hnm F E => ?_)
  have F : Fx C RX10 cX10_worksBy 9 rm_X10_worksBy K := F
  refine v_aload_n F (dq dkX10_worksBy_0 0 rfl) rfl 0 rfl ?_
  refine v_iload_n F (dq dkX10_worksBy_0 1 rfl) rfl 1 rfl ?_
  obtain ⟨r16, e17, h⟩ := bd_of h
  refine v_callV 1 F (q := 0) (kc1 := 0) (ks1 := 0) (as := [.int a1]) (st := []) (st1 := (va_rf (r16.map (fun q => K.1 + q)) :: [])) (res := (some (va_rf (r16.map (fun q => K.1 + q))))) (c_X10_sheetAt (l := C.2.1) x y a1 e17) (xn (by decide)) xc_0 rfl (tc34 _ (List.mem_of_getElem? (i := 17) rfl)) (tc34 _ (List.mem_of_getElem? (i := 18) rfl)) (tc34 _ (List.mem_of_getElem? (i := 19) rfl)) (tc1 _ (List.mem_of_getElem? (i := 2) rfl)) (tc34 _ (List.mem_of_getElem? (i := 20) rfl)) (by decide) rfl ⟨rfl, rfl, Nat.le_of_ble_eq_true rfl, Nat.le_of_ble_eq_true rfl⟩ ⟨Nat.le_of_ble_eq_true rfl, Nat.le_of_ble_eq_true rfl⟩ rfl (Nat.le_of_ble_eq_true rfl) rfl rfl rfl (dq dkX10_worksBy_0 2 rfl) ?_
  rcases r16 with _ | s18
  · have h := oc_nh h
    refine v_astoreN F (ls' := [(5, .null), (0, .ref (K.1 + 0)), (1, .int a1), (2, .int a2), (3, .int a3), (4, .int a4)]) (dq dkX10_worksBy_0 3 rfl) (by decide) rfl ?_
    refine v_aloadN F (dq dkX10_worksBy_0 4 rfl) 0 rfl ?_
    refine v_ifnullN F (tgt := 32) (dq dkX10_worksBy_0 5 rfl) (by decide) ?_
    refine v_sub [] rfl ?_
    exact t_X10_worksBy_32 x h F E
  · have h := oc_sh h
    refine v_astore F (ls' := [(5, .ref (K.1 + s18)), (0, .ref (K.1 + 0)), (1, .int a1), (2, .int a2), (3, .int a3), (4, .int a4)]) (dq dkX10_worksBy_0 3 rfl) (by decide) rfl ?_
    refine v_aload F (dq dkX10_worksBy_0 4 rfl) 0 rfl ?_
    refine v_ifnull F (dq dkX10_worksBy_0 5 rfl) ?_
    refine v_iload_n F (dq dkX10_worksBy_0 6 rfl) rfl 3 rfl ?_
    refine v_iconst F (v := 0) (dq dkX10_worksBy_0 7 rfl) ki_0 ?_
    refine v_iconst F (v := 2) (dq dkX10_worksBy_0 8 rfl) ki_2 ?_
    refine v_callS 3 F (kc1 := 0) (ks1 := 0) (as := [.int a2, .int 0, .int 2]) (st := []) (st1 := (.int (b2i (f_X10_within a2 0 2)) :: [])) (res := (some (.int (b2i (f_X10_within a2 0 2))))) (c_X10_within (l := C.2.1) a2 0 2) (tc14 _ (List.mem_of_getElem? (i := 3) rfl)) (tc8 _ (List.mem_of_getElem? (i := 15) rfl)) (tc1 _ (List.mem_of_getElem? (i := 2) rfl)) (tc8 _ (List.mem_of_getElem? (i := 16) rfl)) (by decide) rfl ⟨rfl, rfl, Nat.le_of_ble_eq_true rfl, Nat.le_of_ble_eq_true rfl⟩ ⟨Nat.le_of_ble_eq_true rfl, Nat.le_of_ble_eq_true rfl⟩ rfl (Nat.le_of_ble_eq_true rfl) rfl rfl rfl (dq dkX10_worksBy_0 9 rfl) ?_
    refine v_if_eq F (tgt := 32) (dq dkX10_worksBy_0 10 rfl) (by decide) (fun c20 => ?_) (fun c20 => ?_)
    · rw [if_pos c20] at h
      refine v_sub [] rfl ?_
      exact t_X10_worksBy_32 x h F E
    · rw [if_neg c20] at h
      refine v_iload F (dq dkX10_worksBy_0 11 rfl) 5 rfl ?_
      refine v_iconst F (v := 0) (dq dkX10_worksBy_0 12 rfl) ki_0 ?_
      refine v_bipush F (v := 10) (dq dkX10_worksBy_0 13 rfl) kb_10 ?_
      refine v_callS 3 F (kc1 := 0) (ks1 := 0) (as := [.int a4, .int 0, .int 10]) (st := []) (st1 := (.int (b2i (f_X10_within a4 0 10)) :: [])) (res := (some (.int (b2i (f_X10_within a4 0 10))))) (c_X10_within (l := C.2.1) a4 0 10) (tc14 _ (List.mem_of_getElem? (i := 3) rfl)) (tc8 _ (List.mem_of_getElem? (i := 15) rfl)) (tc1 _ (List.mem_of_getElem? (i := 2) rfl)) (tc8 _ (List.mem_of_getElem? (i := 16) rfl)) (by decide) rfl ⟨rfl, rfl, Nat.le_of_ble_eq_true rfl, Nat.le_of_ble_eq_true rfl⟩ ⟨Nat.le_of_ble_eq_true rfl, Nat.le_of_ble_eq_true rfl⟩ rfl (Nat.le_of_ble_eq_true rfl) rfl rfl rfl (dq dkX10_worksBy_0 14 rfl) ?_
      refine v_if_ne F (tgt := 35) (dq dkX10_worksBy_0 15 rfl) (by decide) (fun c22 => ?_) (fun c22 => ?_)
      · rw [if_neg c22] at h
        refine v_aload F (dq dkX10_worksBy_0 18 rfl) 0 rfl ?_
        obtain ⟨r23, e24, h⟩ := bd_of h
        refine v_callV 0 F (q := s18) (kc1 := 0) (ks1 := 0) (as := []) (st := []) (st1 := (.int (b2i r23) :: [])) (res := (some (.int (b2i r23)))) (c_X4_isMissing (l := C.2.1) x y s18 e24) (kSh_lt (f_X4_isMissing_k e24)) (kSh_at (f_X4_isMissing_k e24)) rfl (tc35 _ (List.mem_of_getElem? (i := 0) rfl)) (tc35 _ (List.mem_of_getElem? (i := 1) rfl)) (tc35 _ (List.mem_of_getElem? (i := 2) rfl)) (tc2 _ (List.mem_of_getElem? (i := 22) rfl)) (tc35 _ (List.mem_of_getElem? (i := 3) rfl)) (by decide) rfl ⟨rfl, rfl, Nat.le_of_ble_eq_true rfl, Nat.le_of_ble_eq_true rfl⟩ ⟨Nat.le_of_ble_eq_true rfl, Nat.le_of_ble_eq_true rfl⟩ rfl (Nat.le_of_ble_eq_true rfl) rfl rfl rfl (dq dkX10_worksBy_0 19 rfl) ?_
        refine v_if_eq F (tgt := 46) (dq dkX10_worksBy_0 20 rfl) (by decide) (fun c25 => ?_) (fun c25 => ?_)
        · rw [if_pos c25] at h
          refine v_aload F (dq dkX10_worksBy_0 23 rfl) 0 rfl ?_
          obtain ⟨g26, h⟩ := gd_of h
          refine v_getN F s18 (kSh_lt g26) (kSh_at g26) rfl inlX4 1 (by decide) (List.mem_of_getElem? (i := 15) rfl) rfl rfl (dq dkX10_worksBy_0 24 rfl) ?_
          refine v_iload_n F (dq dkX10_worksBy_0 25 rfl) rfl 3 rfl ?_
          refine v_icmp_eq F (tgt := 58) (dq dkX10_worksBy_0 26 rfl) (by decide) (fun c27 => ?_) (fun c27 => ?_)
          · rw [if_pos c27] at h
            refine v_iconst F (v := 0) (dq dkX10_worksBy_0 29 rfl) ki_0 ?_
            refine v_istore F (ls' := [(6, .int 0), (5, .ref (K.1 + s18)), (0, .ref (K.1 + 0)), (1, .int a1), (2, .int a2), (3, .int a3), (4, .int a4)]) (dq dkX10_worksBy_0 30 rfl) (by decide) rfl ?_
            refine v_iconst F (v := 0) (dq dkX10_worksBy_0 31 rfl) ki_0 ?_
            refine v_istore F (ls' := [(7, .int 0), (6, .int 0), (5, .ref (K.1 + s18)), (0, .ref (K.1 + 0)), (1, .int a1), (2, .int a2), (3, .int a3), (4, .int a4)]) (dq dkX10_worksBy_0 32 rfl) (by decide) rfl ?_
            refine v_sub [3, 6, 7, 2, 1, 0] rfl ?_
            exact t_X10_worksBy_64 F E 1000 x a3 a4 (some s18) 0 0 h
          · rw [if_neg c27] at h
            refine v_bipush F (v := (-13)) (dq dkX10_worksBy_0 27 rfl) kb_m13 ?_
            have h := Option.some.inj h
            subst h
            exact v_iret F E (dq dkX10_worksBy_0 28 rfl)
        · rw [if_neg c25] at h
          refine v_bipush F (v := (-11)) (dq dkX10_worksBy_0 21 rfl) kb_m11 ?_
          have h := Option.some.inj h
          subst h
          exact v_iret F E (dq dkX10_worksBy_0 22 rfl)
      · rw [if_pos c22] at h
        refine v_sub [] rfl ?_
        exact t_X10_worksBy_32 x h F E
