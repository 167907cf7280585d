theorem lgc_0 (r : Int64) : lg_cmp r r = 0 := by
  unfold lg_cmp
  simp
def sim_carve (P : CS → MS → Prop) : Prop := ∀ (x : CS) (y : MS) (a0 : Int32) (a1 : Int32) (a2 : Int32), P x y → ∃ (r : Int32) (x1 : CS) (y1 : MS), f_X10_carve x a0 a1 a2 = some (r, x1) ∧ f_X11_carve y a0 a1 a2 = some (r, y1) ∧ P x1 y1
set_option maxRecDepth 100000 in
set_option maxHeartbeats 4000000 in
theorem lw_case_0 {C : Cx} {K : KE} {P : CS → MS → Prop} {b L : Nat} {xs : Nat → Int32} {i : Int32} (S : sim_carve P) (hge : ∀ x y, P x y → 27 ≤ gn x) (F : Fx C RL cL_law 4 room_1 K) (hX : va_X b L xs C.2.2.2.2.1 C.2.2.2.2.1.heap) (hbl : b < C.2.2.2.2.1.heap.size) (hbA : ¬ gA K.1 b) (h1 : vp_in (i + 1) L) (h2 : vp_in (i + 2) L) (h3 : vp_in (i + 3) L) (h4 : vp_in (i + 4) L) (h5 : vp_in (i + 5) L) (x : CS) (y : MS) (hP : P x y) (kc ks : Nat) (hkc : kc + 2000 ≤ 600000) (hks : ks + 4000 ≤ 7302250)
    (hk : ∀ (x1 : CS) (y1 : MS) (kc1 ks1 : Nat), P x1 y1 → kc1 ≤ kc + 2000 → ks1 ≤ ks + 4000 → V C 1911 [(0, .ref b), (1, .ref (K.1 + 0)), (2, .ref (K.1 + 61)), (3, .int i)] [] (xf K x1 y1) kc1 ks1) : V C 236 [(0, .ref b), (1, .ref (K.1 + 0)), (2, .ref (K.1 + 61)), (3, .int i)] [] (xf K x y) kc ks := by
  obtain ⟨r, x1, y1, e1, e2, hP1⟩ := S x y (xs (i + 1).toNatClampNeg) (xs (i + 2).toNatClampNeg) (xs (i + 3).toNatClampNeg) hP
  refine v_aload_n F (dq dkL_law_0 22 rfl) rfl 1 rfl ?_
  refine v_aload_n F (dq dkL_law_0 23 rfl) rfl 0 rfl ?_
  refine v_iload_n F (dq dkL_law_0 24 rfl) rfl 3 rfl ?_
  refine v_iconst F (v := 1) (dq dkL_law_0 25 rfl) ki_1 ?_
  refine v_iadd F (dq dkL_law_0 26 rfl) ?_
  refine v_sld F hX hbl hbA h1 (dq dkL_law_0 27 rfl) ?_
  refine v_aload_n F (dq dkL_law_0 28 rfl) rfl 0 rfl ?_
  refine v_iload_n F (dq dkL_law_0 29 rfl) rfl 3 rfl ?_
  refine v_iconst F (v := 2) (dq dkL_law_0 30 rfl) ki_2 ?_
  refine v_iadd F (dq dkL_law_0 31 rfl) ?_
  refine v_sld F hX hbl hbA h2 (dq dkL_law_0 32 rfl) ?_
  refine v_aload_n F (dq dkL_law_0 33 rfl) rfl 0 rfl ?_
  refine v_iload_n F (dq dkL_law_0 34 rfl) rfl 3 rfl ?_
  refine v_iconst F (v := 3) (dq dkL_law_0 35 rfl) ki_3 ?_
  refine v_iadd F (dq dkL_law_0 36 rfl) ?_
  refine v_sld F hX hbl hbA h3 (dq dkL_law_0 37 rfl) ?_
  refine v_callV 3 F (q := 0) (kc1 := kc) (ks1 := ks) (as := [.int (xs (i + 1).toNatClampNeg), .int (xs (i + 2).toNatClampNeg), .int (xs (i + 3).toNatClampNeg)]) (st := []) (st1 := [.int r]) (res := (some (.int r))) (c_X10_carve (l := C.2.1) x y (xs (i + 1).toNatClampNeg) (xs (i + 2).toNatClampNeg) (xs (i + 3).toNatClampNeg) e1) (xn (by decide)) xc_0 rfl (tc13 _ (List.mem_of_getElem? (i := 20) rfl)) (tc13 _ (List.mem_of_getElem? (i := 21) rfl)) (tc13 _ (List.mem_of_getElem? (i := 22) rfl)) (tc1 _ (List.mem_of_getElem? (i := 2) rfl)) (tc13 _ (List.mem_of_getElem? (i := 23) rfl)) (by decide) rfl ⟨rfl, rfl, Nat.le_of_ble_eq_true rfl, Nat.le_of_ble_eq_true rfl⟩ ⟨by show kc + 0 ≤ 600000; omega, by show ks + 0 ≤ 7302250; omega⟩ rfl (Nat.le_of_ble_eq_true rfl) rfl rfl rfl (dq dkL_law_0 38 rfl) ?_
  refine v_aload_n F (dq dkL_law_0 39 rfl) rfl 2 rfl ?_
  refine v_aload_n F (dq dkL_law_1 0 rfl) rfl 0 rfl ?_
  refine v_iload_n F (dq dkL_law_1 1 rfl) rfl 3 rfl ?_
  refine v_iconst F (v := 1) (dq dkL_law_1 2 rfl) ki_1 ?_
  refine v_iadd F (dq dkL_law_1 3 rfl) ?_
  refine v_sld F hX hbl hbA h1 (dq dkL_law_1 4 rfl) ?_
  refine v_aload_n F (dq dkL_law_1 5 rfl) rfl 0 rfl ?_
  refine v_iload_n F (dq dkL_law_1 6 rfl) rfl 3 rfl ?_
  refine v_iconst F (v := 2) (dq dkL_law_1 7 rfl) ki_2 ?_
  refine v_iadd F (dq dkL_law_1 8 rfl) ?_
  refine v_sld F hX hbl hbA h2 (dq dkL_law_1 9 rfl) ?_
  refine v_aload_n F (dq dkL_law_1 10 rfl) rfl 0 rfl ?_
  refine v_iload_n F (dq dkL_law_1 11 rfl) rfl 3 rfl ?_
  refine v_iconst F (v := 3) (dq dkL_law_1 12 rfl) ki_3 ?_
  refine v_iadd F (dq dkL_law_1 13 rfl) ?_
  refine v_sld F hX hbl hbA h3 (dq dkL_law_1 14 rfl) ?_
  obtain ⟨nn, hnn⟩ : ∃ nn, gn x1 = 27 + nn := ⟨gn x1 - 27, by have := hge _ _ hP1; omega⟩
  refine v_eqM (xfM_of hnn) ?_
  refine v_callV 3 F (q := 61) (kc1 := kc) (ks1 := ks) (as := [.int (xs (i + 1).toNatClampNeg), .int (xs (i + 2).toNatClampNeg), .int (xs (i + 3).toNatClampNeg)]) (st := [.int r]) (st1 := [.int r, .int r]) (res := (some (.int r))) (c_X11_carve (l := C.2.1) x1 y (xs (i + 1).toNatClampNeg) (xs (i + 2).toNatClampNeg) (xs (i + 3).toNatClampNeg) e2) (xnM (by decide)) xc_61 rfl (tc14 _ (List.mem_of_getElem? (i := 18) rfl)) (tc14 _ (List.mem_of_getElem? (i := 19) rfl)) (tc14 _ (List.mem_of_getElem? (i := 20) rfl)) (tc1 _ (List.mem_of_getElem? (i := 5) rfl)) (tc14 _ (List.mem_of_getElem? (i := 21) rfl)) (by decide) rfl ⟨rfl, rfl, Nat.le_of_ble_eq_true rfl, Nat.le_of_ble_eq_true rfl⟩ ⟨by show kc + 0 ≤ 600000; omega, by show ks + 0 ≤ 7302250; omega⟩ rfl (Nat.le_of_ble_eq_true rfl) rfl rfl rfl (dq dkL_law_1 15 rfl) ?_
  refine v_eqM (xfM_of hnn).symm ?_
  refine v_icmp_eq F (tgt := 1911) (dq dkL_law_1 16 rfl) (by decide) (fun _ => ?_) (fun c => absurd rfl c)
  exact hk x1 y1 (kc) (ks) hP1 (by omega) (by omega)
def sim_carved (P : CS → MS → Prop) : Prop := ∀ (x : CS) (y : MS) (a0 : Int32) (a1 : Int32), P x y → ∃ (r : Int32), f_X10_carved x a0 a1 = some r ∧ f_X11_carved y a0 a1 = some r
set_option maxRecDepth 100000 in
set_option maxHeartbeats 4000000 in
theorem lw_case_1 {C : Cx} {K : KE} {P : CS → MS → Prop} {b L : Nat} {xs : Nat → Int32} {i : Int32} (S : sim_carved P) (hge : ∀ x y, P x y → 27 ≤ gn x) (F : Fx C RL cL_law 4 room_1 K) (hX : va_X b L xs C.2.2.2.2.1 C.2.2.2.2.1.heap) (hbl : b < C.2.2.2.2.1.heap.size) (hbA : ¬ gA K.1 b) (h1 : vp_in (i + 1) L) (h2 : vp_in (i + 2) L) (h3 : vp_in (i + 3) L) (h4 : vp_in (i + 4) L) (h5 : vp_in (i + 5) L) (x : CS) (y : MS) (hP : P x y) (kc ks : Nat) (hkc : kc + 2000 ≤ 600000) (hks : ks + 4000 ≤ 7302250)
    (hk : ∀ (x1 : CS) (y1 : MS) (kc1 ks1 : Nat), P x1 y1 → kc1 ≤ kc + 2000 → ks1 ≤ ks + 4000 → V C 1911 [(0, .ref b), (1, .ref (K.1 + 0)), (2, .ref (K.1 + 61)), (3, .int i)] [] (xf K x1 y1) kc1 ks1) : V C 279 [(0, .ref b), (1, .ref (K.1 + 0)), (2, .ref (K.1 + 61)), (3, .int i)] [] (xf K x y) kc ks := by
  obtain ⟨r, e1, e2⟩ := S x y (xs (i + 1).toNatClampNeg) (xs (i + 2).toNatClampNeg) hP
  have hP1 := hP
  refine v_aload_n F (dq dkL_law_1 19 rfl) rfl 1 rfl ?_
  refine v_aload_n F (dq dkL_law_1 20 rfl) rfl 0 rfl ?_
  refine v_iload_n F (dq dkL_law_1 21 rfl) rfl 3 rfl ?_
  refine v_iconst F (v := 1) (dq dkL_law_1 22 rfl) ki_1 ?_
  refine v_iadd F (dq dkL_law_1 23 rfl) ?_
  refine v_sld F hX hbl hbA h1 (dq dkL_law_1 24 rfl) ?_
  refine v_aload_n F (dq dkL_law_1 25 rfl) rfl 0 rfl ?_
  refine v_iload_n F (dq dkL_law_1 26 rfl) rfl 3 rfl ?_
  refine v_iconst F (v := 2) (dq dkL_law_1 27 rfl) ki_2 ?_
  refine v_iadd F (dq dkL_law_1 28 rfl) ?_
  refine v_sld F hX hbl hbA h2 (dq dkL_law_1 29 rfl) ?_
  refine v_callV 2 F (q := 0) (kc1 := kc) (ks1 := ks) (as := [.int (xs (i + 1).toNatClampNeg), .int (xs (i + 2).toNatClampNeg)]) (st := []) (st1 := [.int r]) (res := (some (.int r))) (c_X10_carved (l := C.2.1) x y (xs (i + 1).toNatClampNeg) (xs (i + 2).toNatClampNeg) e1) (xn (by decide)) xc_0 rfl (tc15 _ (List.mem_of_getElem? (i := 4) rfl)) (tc15 _ (List.mem_of_getElem? (i := 5) rfl)) (tc15 _ (List.mem_of_getElem? (i := 6) rfl)) (tc1 _ (List.mem_of_getElem? (i := 2) rfl)) (tc15 _ (List.mem_of_getElem? (i := 7) rfl)) (by decide) rfl ⟨rfl, rfl, Nat.le_of_ble_eq_true rfl, Nat.le_of_ble_eq_true rfl⟩ ⟨by show kc + 0 ≤ 600000; omega, by show ks + 0 ≤ 7302250; omega⟩ rfl (Nat.le_of_ble_eq_true rfl) rfl rfl rfl (dq dkL_law_1 30 rfl) ?_
  refine v_aload_n F (dq dkL_law_1 31 rfl) rfl 2 rfl ?_
  refine v_aload_n F (dq dkL_law_1 32 rfl) rfl 0 rfl ?_
  refine v_iload_n F (dq dkL_law_1 33 rfl) rfl 3 rfl ?_
  refine v_iconst F (v := 1) (dq dkL_law_1 34 rfl) ki_1 ?_
  refine v_iadd F (dq dkL_law_1 35 rfl) ?_
  refine v_sld F hX hbl hbA h1 (dq dkL_law_1 36 rfl) ?_
  refine v_aload_n F (dq dkL_law_1 37 rfl) rfl 0 rfl ?_
  refine v_iload_n F (dq dkL_law_1 38 rfl) rfl 3 rfl ?_
  refine v_iconst F (v := 2) (dq dkL_law_1 39 rfl) ki_2 ?_
  refine v_iadd F (dq dkL_law_2 0 rfl) ?_
  refine v_sld F hX hbl hbA h2 (dq dkL_law_2 1 rfl) ?_
  obtain ⟨nn, hnn⟩ : ∃ nn, gn x = 27 + nn := ⟨gn x - 27, by have := hge _ _ hP1; omega⟩
  refine v_eqM (xfM_of hnn) ?_
  refine v_callV 2 F (q := 61) (kc1 := kc) (ks1 := ks) (as := [.int (xs (i + 1).toNatClampNeg), .int (xs (i + 2).toNatClampNeg)]) (st := [.int r]) (st1 := [.int r, .int r]) (res := (some (.int r))) (c_X11_carved (l := C.2.1) x y (xs (i + 1).toNatClampNeg) (xs (i + 2).toNatClampNeg) e2) (xnM (by decide)) xc_61 rfl (tc15 _ (List.mem_of_getElem? (i := 8) rfl)) (tc15 _ (List.mem_of_getElem? (i := 9) rfl)) (tc15 _ (List.mem_of_getElem? (i := 10) rfl)) (tc1 _ (List.mem_of_getElem? (i := 5) rfl)) (tc15 _ (List.mem_of_getElem? (i := 11) rfl)) (by decide) rfl ⟨rfl, rfl, Nat.le_of_ble_eq_true rfl, Nat.le_of_ble_eq_true rfl⟩ ⟨by show kc + 0 ≤ 600000; omega, by show ks + 0 ≤ 7302250; omega⟩ rfl (Nat.le_of_ble_eq_true rfl) rfl rfl rfl (dq dkL_law_2 2 rfl) ?_
  refine v_eqM (xfM_of hnn).symm ?_
  refine v_icmp_eq F (tgt := 1911) (dq dkL_law_2 3 rfl) (by decide) (fun _ => ?_) (fun c => absurd rfl c)
  exact hk x y (kc) (ks) hP1 (by omega) (by omega)
def sim_set (P : CS → MS → Prop) : Prop := ∀ (x : CS) (y : MS) (a0 : Int32) (a1 : Int32), P x y → ∃ (r : Int32) (x1 : CS) (y1 : MS), f_X10_set x a0 a1 = some (r, x1) ∧ f_X11_set y a0 a1 = (r, y1) ∧ P x1 y1
set_option maxRecDepth 100000 in
set_option maxHeartbeats 4000000 in
theorem lw_case_2 {C : Cx} {K : KE} {P : CS → MS → Prop} {b L : Nat} {xs : Nat → Int32} {i : Int32} (S : sim_set P) (hge : ∀ x y, P x y → 27 ≤ gn x) (F : Fx C RL cL_law 4 room_1 K) (hX : va_X b L xs C.2.2.2.2.1 C.2.2.2.2.1.heap) (hbl : b < C.2.2.2.2.1.heap.size) (hbA : ¬ gA K.1 b) (h1 : vp_in (i + 1) L) (h2 : vp_in (i + 2) L) (h3 : vp_in (i + 3) L) (h4 : vp_in (i + 4) L) (h5 : vp_in (i + 5) L) (x : CS) (y : MS) (hP : P x y) (kc ks : Nat) (hkc : kc + 2000 ≤ 600000) (hks : ks + 4000 ≤ 7302250)
    (hk : ∀ (x1 : CS) (y1 : MS) (kc1 ks1 : Nat), P x1 y1 → kc1 ≤ kc + 2000 → ks1 ≤ ks + 4000 → V C 1911 [(0, .ref b), (1, .ref (K.1 + 0)), (2, .ref (K.1 + 61)), (3, .int i)] [] (xf K x1 y1) kc1 ks1) : V C 312 [(0, .ref b), (1, .ref (K.1 + 0)), (2, .ref (K.1 + 61)), (3, .int i)] [] (xf K x y) kc ks := by
  obtain ⟨r, x1, y1, e1, e2, hP1⟩ := S x y (xs (i + 1).toNatClampNeg) (xs (i + 2).toNatClampNeg) hP
  refine v_aload_n F (dq dkL_law_2 6 rfl) rfl 1 rfl ?_
  refine v_aload_n F (dq dkL_law_2 7 rfl) rfl 0 rfl ?_
  refine v_iload_n F (dq dkL_law_2 8 rfl) rfl 3 rfl ?_
  refine v_iconst F (v := 1) (dq dkL_law_2 9 rfl) ki_1 ?_
  refine v_iadd F (dq dkL_law_2 10 rfl) ?_
  refine v_sld F hX hbl hbA h1 (dq dkL_law_2 11 rfl) ?_
  refine v_aload_n F (dq dkL_law_2 12 rfl) rfl 0 rfl ?_
  refine v_iload_n F (dq dkL_law_2 13 rfl) rfl 3 rfl ?_
  refine v_iconst F (v := 2) (dq dkL_law_2 14 rfl) ki_2 ?_
  refine v_iadd F (dq dkL_law_2 15 rfl) ?_
  refine v_sld F hX hbl hbA h2 (dq dkL_law_2 16 rfl) ?_
  refine v_callV 2 F (q := 0) (kc1 := kc) (ks1 := ks) (as := [.int (xs (i + 1).toNatClampNeg), .int (xs (i + 2).toNatClampNeg)]) (st := []) (st1 := [.int r]) (res := (some (.int r))) (c_X10_set (l := C.2.1) x y (xs (i + 1).toNatClampNeg) (xs (i + 2).toNatClampNeg) e1) (xn (by decide)) xc_0 rfl (tc15 _ (List.mem_of_getElem? (i := 12) rfl)) (tc15 _ (List.mem_of_getElem? (i := 13) rfl)) (tc15 _ (List.mem_of_getElem? (i := 14) rfl)) (tc1 _ (List.mem_of_getElem? (i := 2) rfl)) (tc15 _ (List.mem_of_getElem? (i := 15) rfl)) (by decide) rfl ⟨rfl, rfl, Nat.le_of_ble_eq_true rfl, Nat.le_of_ble_eq_true rfl⟩ ⟨by show kc + 0 ≤ 600000; omega, by show ks + 0 ≤ 7302250; omega⟩ rfl (Nat.le_of_ble_eq_true rfl) rfl rfl rfl (dq dkL_law_2 17 rfl) ?_
  refine v_aload_n F (dq dkL_law_2 18 rfl) rfl 2 rfl ?_
  refine v_aload_n F (dq dkL_law_2 19 rfl) rfl 0 rfl ?_
  refine v_iload_n F (dq dkL_law_2 20 rfl) rfl 3 rfl ?_
  refine v_iconst F (v := 1) (dq dkL_law_2 21 rfl) ki_1 ?_
  refine v_iadd F (dq dkL_law_2 22 rfl) ?_
  refine v_sld F hX hbl hbA h1 (dq dkL_law_2 23 rfl) ?_
  refine v_aload_n F (dq dkL_law_2 24 rfl) rfl 0 rfl ?_
  refine v_iload_n F (dq dkL_law_2 25 rfl) rfl 3 rfl ?_
  refine v_iconst F (v := 2) (dq dkL_law_2 26 rfl) ki_2 ?_
  refine v_iadd F (dq dkL_law_2 27 rfl) ?_
  refine v_sld F hX hbl hbA h2 (dq dkL_law_2 28 rfl) ?_
  obtain ⟨nn, hnn⟩ : ∃ nn, gn x1 = 27 + nn := ⟨gn x1 - 27, by have := hge _ _ hP1; omega⟩
  refine v_eqM (xfM_of hnn) ?_
  have e2' := e2
  refine v_callV 2 F (q := 61) (kc1 := kc) (ks1 := ks) (as := [.int (xs (i + 1).toNatClampNeg), .int (xs (i + 2).toNatClampNeg)]) (st := [.int r]) (st1 := [.int r, .int r]) (res := (some (.int r))) (e2 ▸ (c_X11_set (l := C.2.1) x1 y (xs (i + 1).toNatClampNeg) (xs (i + 2).toNatClampNeg) )) (xnM (by decide)) xc_61 rfl (tc16 _ (List.mem_of_getElem? (i := 6) rfl)) (tc16 _ (List.mem_of_getElem? (i := 7) rfl)) (tc16 _ (List.mem_of_getElem? (i := 8) rfl)) (tc1 _ (List.mem_of_getElem? (i := 5) rfl)) (tc16 _ (List.mem_of_getElem? (i := 9) rfl)) (by decide) rfl ⟨rfl, rfl, Nat.le_of_ble_eq_true rfl, Nat.le_of_ble_eq_true rfl⟩ ⟨by show kc + 0 ≤ 600000; omega, by show ks + 0 ≤ 7302250; omega⟩ rfl (Nat.le_of_ble_eq_true rfl) rfl rfl rfl (dq dkL_law_2 29 rfl) ?_
  refine v_eqM (xfM_of hnn).symm ?_
  refine v_icmp_eq F (tgt := 1911) (dq dkL_law_2 30 rfl) (by decide) (fun _ => ?_) (fun c => absurd rfl c)
  exact hk x1 y1 (kc) (ks) hP1 (by omega) (by omega)
def sim_count (P : CS → MS → Prop) : Prop := ∀ (x : CS) (y : MS) (a0 : Int32), P x y → ∃ (r : Int32), f_X10_count x a0 = some r ∧ f_X11_count y a0 = r
set_option maxRecDepth 100000 in
set_option maxHeartbeats 4000000 in
theorem lw_case_3 {C : Cx} {K : KE} {P : CS → MS → Prop} {b L : Nat} {xs : Nat → Int32} {i : Int32} (S : sim_count P) (hge : ∀ x y, P x y → 27 ≤ gn x) (F : Fx C RL cL_law 4 room_1 K) (hX : va_X b L xs C.2.2.2.2.1 C.2.2.2.2.1.heap) (hbl : b < C.2.2.2.2.1.heap.size) (hbA : ¬ gA K.1 b) (h1 : vp_in (i + 1) L) (h2 : vp_in (i + 2) L) (h3 : vp_in (i + 3) L) (h4 : vp_in (i + 4) L) (h5 : vp_in (i + 5) L) (x : CS) (y : MS) (hP : P x y) (kc ks : Nat) (hkc : kc + 2000 ≤ 600000) (hks : ks + 4000 ≤ 7302250)
    (hk : ∀ (x1 : CS) (y1 : MS) (kc1 ks1 : Nat), P x1 y1 → kc1 ≤ kc + 2000 → ks1 ≤ ks + 4000 → V C 1911 [(0, .ref b), (1, .ref (K.1 + 0)), (2, .ref (K.1 + 61)), (3, .int i)] [] (xf K x1 y1) kc1 ks1) : V C 345 [(0, .ref b), (1, .ref (K.1 + 0)), (2, .ref (K.1 + 61)), (3, .int i)] [] (xf K x y) kc ks := by
  obtain ⟨r, e1, e2⟩ := S x y (xs (i + 1).toNatClampNeg) hP
  have hP1 := hP
  refine v_aload_n F (dq dkL_law_2 33 rfl) rfl 1 rfl ?_
  refine v_aload_n F (dq dkL_law_2 34 rfl) rfl 0 rfl ?_
  refine v_iload_n F (dq dkL_law_2 35 rfl) rfl 3 rfl ?_
  refine v_iconst F (v := 1) (dq dkL_law_2 36 rfl) ki_1 ?_
  refine v_iadd F (dq dkL_law_2 37 rfl) ?_
  refine v_sld F hX hbl hbA h1 (dq dkL_law_2 38 rfl) ?_
  refine v_callV 1 F (q := 0) (kc1 := kc) (ks1 := ks) (as := [.int (xs (i + 1).toNatClampNeg)]) (st := []) (st1 := [.int r]) (res := (some (.int r))) (c_X10_count (l := C.2.1) x y (xs (i + 1).toNatClampNeg) e1) (xn (by decide)) xc_0 rfl (tc17 _ (List.mem_of_getElem? (i := 0) rfl)) (tc17 _ (List.mem_of_getElem? (i := 1) rfl)) (tc17 _ (List.mem_of_getElem? (i := 2) rfl)) (tc1 _ (List.mem_of_getElem? (i := 2) rfl)) (tc17 _ (List.mem_of_getElem? (i := 3) rfl)) (by decide) rfl ⟨rfl, rfl, Nat.le_of_ble_eq_true rfl, Nat.le_of_ble_eq_true rfl⟩ ⟨by show kc + 0 ≤ 600000; omega, by show ks + 0 ≤ 7302250; omega⟩ rfl (Nat.le_of_ble_eq_true rfl) rfl rfl rfl (dq dkL_law_2 39 rfl) ?_
  refine v_aload_n F (dq dkL_law_3 0 rfl) rfl 2 rfl ?_
  refine v_aload_n F (dq dkL_law_3 1 rfl) rfl 0 rfl ?_
  refine v_iload_n F (dq dkL_law_3 2 rfl) rfl 3 rfl ?_
  refine v_iconst F (v := 1) (dq dkL_law_3 3 rfl) ki_1 ?_
  refine v_iadd F (dq dkL_law_3 4 rfl) ?_
  refine v_sld F hX hbl hbA h1 (dq dkL_law_3 5 rfl) ?_
  obtain ⟨nn, hnn⟩ : ∃ nn, gn x = 27 + nn := ⟨gn x - 27, by have := hge _ _ hP1; omega⟩
  refine v_eqM (xfM_of hnn) ?_
  have e2' := e2
  refine v_callV 1 F (q := 61) (kc1 := kc) (ks1 := ks) (as := [.int (xs (i + 1).toNatClampNeg)]) (st := [.int r]) (st1 := [.int r, .int r]) (res := (some (.int r))) (e2 ▸ (c_X11_count (l := C.2.1) x y (xs (i + 1).toNatClampNeg) )) (xnM (by decide)) xc_61 rfl (tc17 _ (List.mem_of_getElem? (i := 4) rfl)) (tc16 _ (List.mem_of_getElem? (i := 11) rfl)) (tc16 _ (List.mem_of_getElem? (i := 12) rfl)) (tc1 _ (List.mem_of_getElem? (i := 5) rfl)) (tc16 _ (List.mem_of_getElem? (i := 13) rfl)) (by decide) rfl ⟨rfl, rfl, Nat.le_of_ble_eq_true rfl, Nat.le_of_ble_eq_true rfl⟩ ⟨by show kc + 0 ≤ 600000; omega, by show ks + 0 ≤ 7302250; omega⟩ rfl (Nat.le_of_ble_eq_true rfl) rfl rfl rfl (dq dkL_law_3 6 rfl) ?_
  refine v_eqM (xfM_of hnn).symm ?_
  refine v_icmp_eq F (tgt := 1911) (dq dkL_law_3 7 rfl) (by decide) (fun _ => ?_) (fun c => absurd rfl c)
  exact hk x y (kc) (ks) hP1 (by omega) (by omega)
def sim_feed (P : CS → MS → Prop) : Prop := ∀ (x : CS) (y : MS) (a0 : Int64) (a1 : Int32), P x y → ∃ (r : Int32) (x1 : CS) (y1 : MS), f_X10_feed x a0 a1 = some (r, x1) ∧ f_X11_feed y a0 a1 = some (r, y1) ∧ P x1 y1
set_option maxRecDepth 100000 in
set_option maxHeartbeats 4000000 in
theorem lw_case_4 {C : Cx} {K : KE} {P : CS → MS → Prop} {b L : Nat} {xs : Nat → Int32} {i : Int32} (S : sim_feed P) (hge : ∀ x y, P x y → 27 ≤ gn x) (F : Fx C RL cL_law 4 room_1 K) (hX : va_X b L xs C.2.2.2.2.1 C.2.2.2.2.1.heap) (hbl : b < C.2.2.2.2.1.heap.size) (hbA : ¬ gA K.1 b) (h1 : vp_in (i + 1) L) (h2 : vp_in (i + 2) L) (h3 : vp_in (i + 3) L) (h4 : vp_in (i + 4) L) (h5 : vp_in (i + 5) L) (x : CS) (y : MS) (hP : P x y) (kc ks : Nat) (hkc : kc + 2000 ≤ 600000) (hks : ks + 4000 ≤ 7302250)
    (hk : ∀ (x1 : CS) (y1 : MS) (kc1 ks1 : Nat), P x1 y1 → kc1 ≤ kc + 2000 → ks1 ≤ ks + 4000 → V C 1911 [(0, .ref b), (1, .ref (K.1 + 0)), (2, .ref (K.1 + 61)), (3, .int i)] [] (xf K x1 y1) kc1 ks1) : V C 368 [(0, .ref b), (1, .ref (K.1 + 0)), (2, .ref (K.1 + 61)), (3, .int i)] [] (xf K x y) kc ks := by
  obtain ⟨r, x1, y1, e1, e2, hP1⟩ := S x y ((((xs (i + 1).toNatClampNeg).toInt64) <<< (((32 : Int32)).toInt64 &&& 63)) ||| (((xs (i + 2).toNatClampNeg).toInt64) &&& 4294967295)) (xs (i + 3).toNatClampNeg) hP
  refine v_aload_n F (dq dkL_law_3 10 rfl) rfl 1 rfl ?_
  refine v_aload_n F (dq dkL_law_3 11 rfl) rfl 0 rfl ?_
  refine v_iload_n F (dq dkL_law_3 12 rfl) rfl 3 rfl ?_
  refine v_iconst F (v := 1) (dq dkL_law_3 13 rfl) ki_1 ?_
  refine v_iadd F (dq dkL_law_3 14 rfl) ?_
  refine v_sld F hX hbl hbA h1 (dq dkL_law_3 15 rfl) ?_
  refine v_i2l F (dq dkL_law_3 16 rfl) ?_
  refine v_bipush F (v := 32) (dq dkL_law_3 17 rfl) kb_32 ?_
  refine v_lshl F (dq dkL_law_3 18 rfl) ?_
  refine v_aload_n F (dq dkL_law_3 19 rfl) rfl 0 rfl ?_
  refine v_iload_n F (dq dkL_law_3 20 rfl) rfl 3 rfl ?_
  refine v_iconst F (v := 2) (dq dkL_law_3 21 rfl) ki_2 ?_
  refine v_iadd F (dq dkL_law_3 22 rfl) ?_
  refine v_sld F hX hbl hbA h2 (dq dkL_law_3 23 rfl) ?_
  refine v_i2l F (dq dkL_law_3 24 rfl) ?_
  refine v_ldc2 F (v := 4294967295) (tc1 _ (List.mem_of_getElem? (i := 6) rfl)) (dq dkL_law_3 25 rfl) ?_
  refine v_land F (dq dkL_law_3 26 rfl) ?_
  refine v_lor F (dq dkL_law_3 27 rfl) ?_
  refine v_aload_n F (dq dkL_law_3 28 rfl) rfl 0 rfl ?_
  refine v_iload_n F (dq dkL_law_3 29 rfl) rfl 3 rfl ?_
  refine v_iconst F (v := 3) (dq dkL_law_3 30 rfl) ki_3 ?_
  refine v_iadd F (dq dkL_law_3 31 rfl) ?_
  refine v_sld F hX hbl hbA h3 (dq dkL_law_3 32 rfl) ?_
  refine v_callV 2 F (q := 0) (kc1 := kc) (ks1 := ks) (as := [.long ((((xs (i + 1).toNatClampNeg).toInt64) <<< (((32 : Int32)).toInt64 &&& 63)) ||| (((xs (i + 2).toNatClampNeg).toInt64) &&& 4294967295)), .int (xs (i + 3).toNatClampNeg)]) (st := []) (st1 := [.int r]) (res := (some (.int r))) (c_X10_feed (l := C.2.1) x y ((((xs (i + 1).toNatClampNeg).toInt64) <<< (((32 : Int32)).toInt64 &&& 63)) ||| (((xs (i + 2).toNatClampNeg).toInt64) &&& 4294967295)) (xs (i + 3).toNatClampNeg) e1) (xn (by decide)) xc_0 rfl (tc17 _ (List.mem_of_getElem? (i := 5) rfl)) (tc17 _ (List.mem_of_getElem? (i := 6) rfl)) (tc17 _ (List.mem_of_getElem? (i := 7) rfl)) (tc1 _ (List.mem_of_getElem? (i := 2) rfl)) (tc17 _ (List.mem_of_getElem? (i := 8) rfl)) (by decide) rfl ⟨rfl, rfl, Nat.le_of_ble_eq_true rfl, Nat.le_of_ble_eq_true rfl⟩ ⟨by show kc + 0 ≤ 600000; omega, by show ks + 0 ≤ 7302250; omega⟩ rfl (Nat.le_of_ble_eq_true rfl) rfl rfl rfl (dq dkL_law_3 33 rfl) ?_
  refine v_aload_n F (dq dkL_law_3 34 rfl) rfl 2 rfl ?_
  refine v_aload_n F (dq dkL_law_3 35 rfl) rfl 0 rfl ?_
  refine v_iload_n F (dq dkL_law_3 36 rfl) rfl 3 rfl ?_
  refine v_iconst F (v := 1) (dq dkL_law_3 37 rfl) ki_1 ?_
  refine v_iadd F (dq dkL_law_3 38 rfl) ?_
  refine v_sld F hX hbl hbA h1 (dq dkL_law_3 39 rfl) ?_
  refine v_i2l F (dq dkL_law_4 0 rfl) ?_
  refine v_bipush F (v := 32) (dq dkL_law_4 1 rfl) kb_32 ?_
  refine v_lshl F (dq dkL_law_4 2 rfl) ?_
  refine v_aload_n F (dq dkL_law_4 3 rfl) rfl 0 rfl ?_
  refine v_iload_n F (dq dkL_law_4 4 rfl) rfl 3 rfl ?_
  refine v_iconst F (v := 2) (dq dkL_law_4 5 rfl) ki_2 ?_
  refine v_iadd F (dq dkL_law_4 6 rfl) ?_
  refine v_sld F hX hbl hbA h2 (dq dkL_law_4 7 rfl) ?_
  refine v_i2l F (dq dkL_law_4 8 rfl) ?_
  refine v_ldc2 F (v := 4294967295) (tc1 _ (List.mem_of_getElem? (i := 6) rfl)) (dq dkL_law_4 9 rfl) ?_
  refine v_land F (dq dkL_law_4 10 rfl) ?_
  refine v_lor F (dq dkL_law_4 11 rfl) ?_
  refine v_aload_n F (dq dkL_law_4 12 rfl) rfl 0 rfl ?_
  refine v_iload_n F (dq dkL_law_4 13 rfl) rfl 3 rfl ?_
  refine v_iconst F (v := 3) (dq dkL_law_4 14 rfl) ki_3 ?_
  refine v_iadd F (dq dkL_law_4 15 rfl) ?_
  refine v_sld F hX hbl hbA h3 (dq dkL_law_4 16 rfl) ?_
  obtain ⟨nn, hnn⟩ : ∃ nn, gn x1 = 27 + nn := ⟨gn x1 - 27, by have := hge _ _ hP1; omega⟩
  refine v_eqM (xfM_of hnn) ?_
  refine v_callV 2 F (q := 61) (kc1 := kc) (ks1 := ks) (as := [.long ((((xs (i + 1).toNatClampNeg).toInt64) <<< (((32 : Int32)).toInt64 &&& 63)) ||| (((xs (i + 2).toNatClampNeg).toInt64) &&& 4294967295)), .int (xs (i + 3).toNatClampNeg)]) (st := [.int r]) (st1 := [.int r, .int r]) (res := (some (.int r))) (c_X11_feed (l := C.2.1) x1 y ((((xs (i + 1).toNatClampNeg).toInt64) <<< (((32 : Int32)).toInt64 &&& 63)) ||| (((xs (i + 2).toNatClampNeg).toInt64) &&& 4294967295)) (xs (i + 3).toNatClampNeg) e2) (xnM (by decide)) xc_61 rfl (tc17 _ (List.mem_of_getElem? (i := 9) rfl)) (tc17 _ (List.mem_of_getElem? (i := 10) rfl)) (tc17 _ (List.mem_of_getElem? (i := 11) rfl)) (tc1 _ (List.mem_of_getElem? (i := 5) rfl)) (tc17 _ (List.mem_of_getElem? (i := 12) rfl)) (by decide) rfl ⟨rfl, rfl, Nat.le_of_ble_eq_true rfl, Nat.le_of_ble_eq_true rfl⟩ ⟨by show kc + 0 ≤ 600000; omega, by show ks + 0 ≤ 7302250; omega⟩ rfl (Nat.le_of_ble_eq_true rfl) rfl rfl rfl (dq dkL_law_4 17 rfl) ?_
  refine v_eqM (xfM_of hnn).symm ?_
  refine v_icmp_eq F (tgt := 1911) (dq dkL_law_4 18 rfl) (by decide) (fun _ => ?_) (fun c => absurd rfl c)
  exact hk x1 y1 (kc) (ks) hP1 (by omega) (by omega)
def sim_text (P : CS → MS → Prop) : Prop := ∀ (x : CS) (y : MS), P x y → ∃ (r : Int32) (x1 : CS) (y1 : MS), f_X10_text x = some (r, x1) ∧ f_X11_text y = some (r, y1) ∧ P x1 y1
set_option maxRecDepth 100000 in
set_option maxHeartbeats 4000000 in
theorem lw_case_5 {C : Cx} {K : KE} {P : CS → MS → Prop} {b L : Nat} {xs : Nat → Int32} {i : Int32} (S : sim_text P) (hge : ∀ x y, P x y → 27 ≤ gn x) (F : Fx C RL cL_law 4 room_1 K) (hX : va_X b L xs C.2.2.2.2.1 C.2.2.2.2.1.heap) (hbl : b < C.2.2.2.2.1.heap.size) (hbA : ¬ gA K.1 b) (h1 : vp_in (i + 1) L) (h2 : vp_in (i + 2) L) (h3 : vp_in (i + 3) L) (h4 : vp_in (i + 4) L) (h5 : vp_in (i + 5) L) (x : CS) (y : MS) (hP : P x y) (kc ks : Nat) (hkc : kc + 2000 ≤ 600000) (hks : ks + 4000 ≤ 7302250)
    (hk : ∀ (x1 : CS) (y1 : MS) (kc1 ks1 : Nat), P x1 y1 → kc1 ≤ kc + 2000 → ks1 ≤ ks + 4000 → V C 1911 [(0, .ref b), (1, .ref (K.1 + 0)), (2, .ref (K.1 + 61)), (3, .int i)] [] (xf K x1 y1) kc1 ks1) : V C 431 [(0, .ref b), (1, .ref (K.1 + 0)), (2, .ref (K.1 + 61)), (3, .int i)] [] (xf K x y) kc ks := by
  obtain ⟨r, x1, y1, e1, e2, hP1⟩ := S x y  hP
  refine v_aload_n F (dq dkL_law_4 21 rfl) rfl 1 rfl ?_
  refine v_callV 0 F (q := 0) (kc1 := kc) (ks1 := ks) (as := []) (st := []) (st1 := [.int r]) (res := (some (.int r))) (c_X10_text (l := C.2.1) x y  e1) (xn (by decide)) xc_0 rfl (tc17 _ (List.mem_of_getElem? (i := 14) rfl)) (tc17 _ (List.mem_of_getElem? (i := 15) rfl)) (tc17 _ (List.mem_of_getElem? (i := 16) rfl)) (tc1 _ (List.mem_of_getElem? (i := 2) rfl)) (tc17 _ (List.mem_of_getElem? (i := 17) rfl)) (by decide) rfl ⟨rfl, rfl, Nat.le_of_ble_eq_true rfl, Nat.le_of_ble_eq_true rfl⟩ ⟨by show kc + 0 ≤ 600000; omega, by show ks + 0 ≤ 7302250; omega⟩ rfl (Nat.le_of_ble_eq_true rfl) rfl rfl rfl (dq dkL_law_4 22 rfl) ?_
  refine v_aload_n F (dq dkL_law_4 23 rfl) rfl 2 rfl ?_
  obtain ⟨nn, hnn⟩ : ∃ nn, gn x1 = 27 + nn := ⟨gn x1 - 27, by have := hge _ _ hP1; omega⟩
  refine v_eqM (xfM_of hnn) ?_
  refine v_callV 0 F (q := 61) (kc1 := kc) (ks1 := ks) (as := []) (st := [.int r]) (st1 := [.int r, .int r]) (res := (some (.int r))) (c_X11_text (l := C.2.1) x1 y  e2) (xnM (by decide)) xc_61 rfl (tc17 _ (List.mem_of_getElem? (i := 18) rfl)) (tc17 _ (List.mem_of_getElem? (i := 19) rfl)) (tc17 _ (List.mem_of_getElem? (i := 20) rfl)) (tc1 _ (List.mem_of_getElem? (i := 5) rfl)) (tc17 _ (List.mem_of_getElem? (i := 21) rfl)) (by decide) rfl ⟨rfl, rfl, Nat.le_of_ble_eq_true rfl, Nat.le_of_ble_eq_true rfl⟩ ⟨by show kc + 0 ≤ 600000; omega, by show ks + 0 ≤ 7302250; omega⟩ rfl (Nat.le_of_ble_eq_true rfl) rfl rfl rfl (dq dkL_law_4 24 rfl) ?_
  refine v_eqM (xfM_of hnn).symm ?_
  refine v_icmp_eq F (tgt := 1911) (dq dkL_law_4 25 rfl) (by decide) (fun _ => ?_) (fun c => absurd rfl c)
  exact hk x1 y1 (kc) (ks) hP1 (by omega) (by omega)
def sim_force (P : CS → MS → Prop) : Prop := ∀ (x : CS) (y : MS) (a0 : Int32), P x y → ∃ (r : Int32) (x1 : CS) (y1 : MS), f_X10_force x a0 = (r, x1) ∧ f_X11_force y a0 = (r, y1) ∧ P x1 y1
set_option maxRecDepth 100000 in
set_option maxHeartbeats 4000000 in
theorem lw_case_6 {C : Cx} {K : KE} {P : CS → MS → Prop} {b L : Nat} {xs : Nat → Int32} {i : Int32} (S : sim_force P) (hge : ∀ x y, P x y → 27 ≤ gn x) (F : Fx C RL cL_law 4 room_1 K) (hX : va_X b L xs C.2.2.2.2.1 C.2.2.2.2.1.heap) (hbl : b < C.2.2.2.2.1.heap.size) (hbA : ¬ gA K.1 b) (h1 : vp_in (i + 1) L) (h2 : vp_in (i + 2) L) (h3 : vp_in (i + 3) L) (h4 : vp_in (i + 4) L) (h5 : vp_in (i + 5) L) (x : CS) (y : MS) (hP : P x y) (kc ks : Nat) (hkc : kc + 2000 ≤ 600000) (hks : ks + 4000 ≤ 7302250)
    (hk : ∀ (x1 : CS) (y1 : MS) (kc1 ks1 : Nat), P x1 y1 → kc1 ≤ kc + 2000 → ks1 ≤ ks + 4000 → V C 1911 [(0, .ref b), (1, .ref (K.1 + 0)), (2, .ref (K.1 + 61)), (3, .int i)] [] (xf K x1 y1) kc1 ks1) : V C 444 [(0, .ref b), (1, .ref (K.1 + 0)), (2, .ref (K.1 + 61)), (3, .int i)] [] (xf K x y) kc ks := by
  obtain ⟨r, x1, y1, e1, e2, hP1⟩ := S x y (xs (i + 1).toNatClampNeg) hP
  refine v_aload_n F (dq dkL_law_4 28 rfl) rfl 1 rfl ?_
  refine v_aload_n F (dq dkL_law_4 29 rfl) rfl 0 rfl ?_
  refine v_iload_n F (dq dkL_law_4 30 rfl) rfl 3 rfl ?_
  refine v_iconst F (v := 1) (dq dkL_law_4 31 rfl) ki_1 ?_
  refine v_iadd F (dq dkL_law_4 32 rfl) ?_
  refine v_sld F hX hbl hbA h1 (dq dkL_law_4 33 rfl) ?_
  have e1' := e1
  refine v_callV 1 F (q := 0) (kc1 := kc) (ks1 := ks) (as := [.int (xs (i + 1).toNatClampNeg)]) (st := []) (st1 := [.int r]) (res := (some (.int r))) (e1 ▸ (c_X10_force (l := C.2.1) x y (xs (i + 1).toNatClampNeg) )) (xn (by decide)) xc_0 rfl (tc19 _ (List.mem_of_getElem? (i := 21) rfl)) (tc19 _ (List.mem_of_getElem? (i := 22) rfl)) (tc19 _ (List.mem_of_getElem? (i := 23) rfl)) (tc1 _ (List.mem_of_getElem? (i := 2) rfl)) (tc20 _ (List.mem_of_getElem? (i := 0) rfl)) (by decide) rfl ⟨rfl, rfl, Nat.le_of_ble_eq_true rfl, Nat.le_of_ble_eq_true rfl⟩ ⟨by show kc + 0 ≤ 600000; omega, by show ks + 0 ≤ 7302250; omega⟩ rfl (Nat.le_of_ble_eq_true rfl) rfl rfl rfl (dq dkL_law_4 34 rfl) ?_
  refine v_aload_n F (dq dkL_law_4 35 rfl) rfl 2 rfl ?_
  refine v_aload_n F (dq dkL_law_4 36 rfl) rfl 0 rfl ?_
  refine v_iload_n F (dq dkL_law_4 37 rfl) rfl 3 rfl ?_
  refine v_iconst F (v := 1) (dq dkL_law_4 38 rfl) ki_1 ?_
  refine v_iadd F (dq dkL_law_4 39 rfl) ?_
  refine v_sld F hX hbl hbA h1 (dq dkL_law_5 0 rfl) ?_
  obtain ⟨nn, hnn⟩ : ∃ nn, gn x1 = 27 + nn := ⟨gn x1 - 27, by have := hge _ _ hP1; omega⟩
  refine v_eqM (xfM_of hnn) ?_
  have e2' := e2
  refine v_callV 1 F (q := 61) (kc1 := kc) (ks1 := ks) (as := [.int (xs (i + 1).toNatClampNeg)]) (st := [.int r]) (st1 := [.int r, .int r]) (res := (some (.int r))) (e2 ▸ (c_X11_force (l := C.2.1) x1 y (xs (i + 1).toNatClampNeg) )) (xnM (by decide)) xc_61 rfl (tc20 _ (List.mem_of_getElem? (i := 1) rfl)) (tc20 _ (List.mem_of_getElem? (i := 2) rfl)) (tc20 _ (List.mem_of_getElem? (i := 3) rfl)) (tc1 _ (List.mem_of_getElem? (i := 5) rfl)) (tc20 _ (List.mem_of_getElem? (i := 4) rfl)) (by decide) rfl ⟨rfl, rfl, Nat.le_of_ble_eq_true rfl, Nat.le_of_ble_eq_true rfl⟩ ⟨by show kc + 0 ≤ 600000; omega, by show ks + 0 ≤ 7302250; omega⟩ rfl (Nat.le_of_ble_eq_true rfl) rfl rfl rfl (dq dkL_law_5 1 rfl) ?_
  refine v_eqM (xfM_of hnn).symm ?_
  refine v_icmp_eq F (tgt := 1911) (dq dkL_law_5 2 rfl) (by decide) (fun _ => ?_) (fun c => absurd rfl c)
  exact hk x1 y1 (kc) (ks) hP1 (by omega) (by omega)
def sim_asks (P : CS → MS → Prop) : Prop := ∀ (x : CS) (y : MS) (a0 : Int32) (a1 : Int32) (a2 : Int32) (a3 : Int32), P x y → ∃ (r : Int32) (x1 : CS) (y1 : MS), f_X10_asks x a0 a1 a2 a3 = some (r, x1) ∧ f_X11_asks y a0 a1 a2 a3 = some (r, y1) ∧ P x1 y1
set_option maxRecDepth 100000 in
set_option maxHeartbeats 4000000 in
theorem lw_case_7 {C : Cx} {K : KE} {P : CS → MS → Prop} {b L : Nat} {xs : Nat → Int32} {i : Int32} (S : sim_asks P) (hge : ∀ x y, P x y → 27 ≤ gn x) (F : Fx C RL cL_law 4 room_1 K) (hX : va_X b L xs C.2.2.2.2.1 C.2.2.2.2.1.heap) (hbl : b < C.2.2.2.2.1.heap.size) (hbA : ¬ gA K.1 b) (h1 : vp_in (i + 1) L) (h2 : vp_in (i + 2) L) (h3 : vp_in (i + 3) L) (h4 : vp_in (i + 4) L) (h5 : vp_in (i + 5) L) (x : CS) (y : MS) (hP : P x y) (kc ks : Nat) (hkc : kc + 2000 ≤ 600000) (hks : ks + 4000 ≤ 7302250)
    (hk : ∀ (x1 : CS) (y1 : MS) (kc1 ks1 : Nat), P x1 y1 → kc1 ≤ kc + 2000 → ks1 ≤ ks + 4000 → V C 1911 [(0, .ref b), (1, .ref (K.1 + 0)), (2, .ref (K.1 + 61)), (3, .int i)] [] (xf K x1 y1) kc1 ks1) : V C 467 [(0, .ref b), (1, .ref (K.1 + 0)), (2, .ref (K.1 + 61)), (3, .int i)] [] (xf K x y) kc ks := by
  obtain ⟨r, x1, y1, e1, e2, hP1⟩ := S x y (xs (i + 1).toNatClampNeg) (xs (i + 2).toNatClampNeg) (xs (i + 3).toNatClampNeg) (xs (i + 4).toNatClampNeg) hP
  refine v_aload_n F (dq dkL_law_5 5 rfl) rfl 1 rfl ?_
  refine v_aload_n F (dq dkL_law_5 6 rfl) rfl 0 rfl ?_
  refine v_iload_n F (dq dkL_law_5 7 rfl) rfl 3 rfl ?_
  refine v_iconst F (v := 1) (dq dkL_law_5 8 rfl) ki_1 ?_
  refine v_iadd F (dq dkL_law_5 9 rfl) ?_
  refine v_sld F hX hbl hbA h1 (dq dkL_law_5 10 rfl) ?_
  refine v_aload_n F (dq dkL_law_5 11 rfl) rfl 0 rfl ?_
  refine v_iload_n F (dq dkL_law_5 12 rfl) rfl 3 rfl ?_
  refine v_iconst F (v := 2) (dq dkL_law_5 13 rfl) ki_2 ?_
  refine v_iadd F (dq dkL_law_5 14 rfl) ?_
  refine v_sld F hX hbl hbA h2 (dq dkL_law_5 15 rfl) ?_
  refine v_aload_n F (dq dkL_law_5 16 rfl) rfl 0 rfl ?_
  refine v_iload_n F (dq dkL_law_5 17 rfl) rfl 3 rfl ?_
  refine v_iconst F (v := 3) (dq dkL_law_5 18 rfl) ki_3 ?_
  refine v_iadd F (dq dkL_law_5 19 rfl) ?_
  refine v_sld F hX hbl hbA h3 (dq dkL_law_5 20 rfl) ?_
  refine v_aload_n F (dq dkL_law_5 21 rfl) rfl 0 rfl ?_
  refine v_iload_n F (dq dkL_law_5 22 rfl) rfl 3 rfl ?_
  refine v_iconst F (v := 4) (dq dkL_law_5 23 rfl) ki_4 ?_
  refine v_iadd F (dq dkL_law_5 24 rfl) ?_
  refine v_sld F hX hbl hbA h4 (dq dkL_law_5 25 rfl) ?_
  refine v_callV 4 F (q := 0) (kc1 := kc) (ks1 := ks) (as := [.int (xs (i + 1).toNatClampNeg), .int (xs (i + 2).toNatClampNeg), .int (xs (i + 3).toNatClampNeg), .int (xs (i + 4).toNatClampNeg)]) (st := []) (st1 := [.int r]) (res := (some (.int r))) (c_X10_asks (l := C.2.1) x y (xs (i + 1).toNatClampNeg) (xs (i + 2).toNatClampNeg) (xs (i + 3).toNatClampNeg) (xs (i + 4).toNatClampNeg) e1) (xn (by decide)) xc_0 rfl (tc20 _ (List.mem_of_getElem? (i := 5) rfl)) (tc20 _ (List.mem_of_getElem? (i := 6) rfl)) (tc20 _ (List.mem_of_getElem? (i := 7) rfl)) (tc1 _ (List.mem_of_getElem? (i := 2) rfl)) (tc20 _ (List.mem_of_getElem? (i := 8) rfl)) (by decide) rfl ⟨rfl, rfl, Nat.le_of_ble_eq_true rfl, Nat.le_of_ble_eq_true rfl⟩ ⟨by show kc + 0 ≤ 600000; omega, by show ks + 0 ≤ 7302250; omega⟩ rfl (Nat.le_of_ble_eq_true rfl) rfl rfl rfl (dq dkL_law_5 26 rfl) ?_
  refine v_aload_n F (dq dkL_law_5 27 rfl) rfl 2 rfl ?_
  refine v_aload_n F (dq dkL_law_5 28 rfl) rfl 0 rfl ?_
  refine v_iload_n F (dq dkL_law_5 29 rfl) rfl 3 rfl ?_
  refine v_iconst F (v := 1) (dq dkL_law_5 30 rfl) ki_1 ?_
  refine v_iadd F (dq dkL_law_5 31 rfl) ?_
  refine v_sld F hX hbl hbA h1 (dq dkL_law_5 32 rfl) ?_
  refine v_aload_n F (dq dkL_law_5 33 rfl) rfl 0 rfl ?_
  refine v_iload_n F (dq dkL_law_5 34 rfl) rfl 3 rfl ?_
  refine v_iconst F (v := 2) (dq dkL_law_5 35 rfl) ki_2 ?_
  refine v_iadd F (dq dkL_law_5 36 rfl) ?_
  refine v_sld F hX hbl hbA h2 (dq dkL_law_5 37 rfl) ?_
  refine v_aload_n F (dq dkL_law_5 38 rfl) rfl 0 rfl ?_
  refine v_iload_n F (dq dkL_law_5 39 rfl) rfl 3 rfl ?_
  refine v_iconst F (v := 3) (dq dkL_law_6 0 rfl) ki_3 ?_
  refine v_iadd F (dq dkL_law_6 1 rfl) ?_
  refine v_sld F hX hbl hbA h3 (dq dkL_law_6 2 rfl) ?_
  refine v_aload_n F (dq dkL_law_6 3 rfl) rfl 0 rfl ?_
  refine v_iload_n F (dq dkL_law_6 4 rfl) rfl 3 rfl ?_
  refine v_iconst F (v := 4) (dq dkL_law_6 5 rfl) ki_4 ?_
  refine v_iadd F (dq dkL_law_6 6 rfl) ?_
  refine v_sld F hX hbl hbA h4 (dq dkL_law_6 7 rfl) ?_
  obtain ⟨nn, hnn⟩ : ∃ nn, gn x1 = 27 + nn := ⟨gn x1 - 27, by have := hge _ _ hP1; omega⟩
  refine v_eqM (xfM_of hnn) ?_
  refine v_callV 4 F (q := 61) (kc1 := kc) (ks1 := ks) (as := [.int (xs (i + 1).toNatClampNeg), .int (xs (i + 2).toNatClampNeg), .int (xs (i + 3).toNatClampNeg), .int (xs (i + 4).toNatClampNeg)]) (st := [.int r]) (st1 := [.int r, .int r]) (res := (some (.int r))) (c_X11_asks (l := C.2.1) x1 y (xs (i + 1).toNatClampNeg) (xs (i + 2).toNatClampNeg) (xs (i + 3).toNatClampNeg) (xs (i + 4).toNatClampNeg) e2) (xnM (by decide)) xc_61 rfl (tc21 _ (List.mem_of_getElem? (i := 13) rfl)) (tc21 _ (List.mem_of_getElem? (i := 14) rfl)) (tc21 _ (List.mem_of_getElem? (i := 15) rfl)) (tc1 _ (List.mem_of_getElem? (i := 5) rfl)) (tc21 _ (List.mem_of_getElem? (i := 16) rfl)) (by decide) rfl ⟨rfl, rfl, Nat.le_of_ble_eq_true rfl, Nat.le_of_ble_eq_true rfl⟩ ⟨by show kc + 0 ≤ 600000; omega, by show ks + 0 ≤ 7302250; omega⟩ rfl (Nat.le_of_ble_eq_true rfl) rfl rfl rfl (dq dkL_law_6 8 rfl) ?_
  refine v_eqM (xfM_of hnn).symm ?_
  refine v_icmp_eq F (tgt := 1911) (dq dkL_law_6 9 rfl) (by decide) (fun _ => ?_) (fun c => absurd rfl c)
  exact hk x1 y1 (kc) (ks) hP1 (by omega) (by omega)
def sim_work (P : CS → MS → Prop) : Prop := ∀ (x : CS) (y : MS) (a0 : Int32) (a1 : Int32) (a2 : Int32), P x y → ∃ (r : Int32) (x1 : CS) (y1 : MS), f_X10_work x a0 a1 a2 = some (r, x1) ∧ f_X11_work y a0 a1 a2 = some (r, y1) ∧ P x1 y1
set_option maxRecDepth 100000 in
set_option maxHeartbeats 4000000 in
theorem lw_case_8 {C : Cx} {K : KE} {P : CS → MS → Prop} {b L : Nat} {xs : Nat → Int32} {i : Int32} (S : sim_work P) (hge : ∀ x y, P x y → 27 ≤ gn x) (F : Fx C RL cL_law 4 room_1 K) (hX : va_X b L xs C.2.2.2.2.1 C.2.2.2.2.1.heap) (hbl : b < C.2.2.2.2.1.heap.size) (hbA : ¬ gA K.1 b) (h1 : vp_in (i + 1) L) (h2 : vp_in (i + 2) L) (h3 : vp_in (i + 3) L) (h4 : vp_in (i + 4) L) (h5 : vp_in (i + 5) L) (x : CS) (y : MS) (hP : P x y) (kc ks : Nat) (hkc : kc + 2000 ≤ 600000) (hks : ks + 4000 ≤ 7302250)
    (hk : ∀ (x1 : CS) (y1 : MS) (kc1 ks1 : Nat), P x1 y1 → kc1 ≤ kc + 2000 → ks1 ≤ ks + 4000 → V C 1911 [(0, .ref b), (1, .ref (K.1 + 0)), (2, .ref (K.1 + 61)), (3, .int i)] [] (xf K x1 y1) kc1 ks1) : V C 520 [(0, .ref b), (1, .ref (K.1 + 0)), (2, .ref (K.1 + 61)), (3, .int i)] [] (xf K x y) kc ks := by
  obtain ⟨r, x1, y1, e1, e2, hP1⟩ := S x y (xs (i + 1).toNatClampNeg) (xs (i + 2).toNatClampNeg) (xs (i + 3).toNatClampNeg) hP
  refine v_aload_n F (dq dkL_law_6 12 rfl) rfl 1 rfl ?_
  refine v_aload_n F (dq dkL_law_6 13 rfl) rfl 0 rfl ?_
  refine v_iload_n F (dq dkL_law_6 14 rfl) rfl 3 rfl ?_
  refine v_iconst F (v := 1) (dq dkL_law_6 15 rfl) ki_1 ?_
  refine v_iadd F (dq dkL_law_6 16 rfl) ?_
  refine v_sld F hX hbl hbA h1 (dq dkL_law_6 17 rfl) ?_
  refine v_aload_n F (dq dkL_law_6 18 rfl) rfl 0 rfl ?_
  refine v_iload_n F (dq dkL_law_6 19 rfl) rfl 3 rfl ?_
  refine v_iconst F (v := 2) (dq dkL_law_6 20 rfl) ki_2 ?_
  refine v_iadd F (dq dkL_law_6 21 rfl) ?_
  refine v_sld F hX hbl hbA h2 (dq dkL_law_6 22 rfl) ?_
  refine v_aload_n F (dq dkL_law_6 23 rfl) rfl 0 rfl ?_
  refine v_iload_n F (dq dkL_law_6 24 rfl) rfl 3 rfl ?_
  refine v_iconst F (v := 3) (dq dkL_law_6 25 rfl) ki_3 ?_
  refine v_iadd F (dq dkL_law_6 26 rfl) ?_
  refine v_sld F hX hbl hbA h3 (dq dkL_law_6 27 rfl) ?_
  refine v_callV 3 F (q := 0) (kc1 := kc) (ks1 := ks) (as := [.int (xs (i + 1).toNatClampNeg), .int (xs (i + 2).toNatClampNeg), .int (xs (i + 3).toNatClampNeg)]) (st := []) (st1 := [.int r]) (res := (some (.int r))) (c_X10_work (l := C.2.1) x y (xs (i + 1).toNatClampNeg) (xs (i + 2).toNatClampNeg) (xs (i + 3).toNatClampNeg) e1) (xn (by decide)) xc_0 rfl (tc22 _ (List.mem_of_getElem? (i := 4) rfl)) (tc22 _ (List.mem_of_getElem? (i := 5) rfl)) (tc22 _ (List.mem_of_getElem? (i := 6) rfl)) (tc1 _ (List.mem_of_getElem? (i := 2) rfl)) (tc22 _ (List.mem_of_getElem? (i := 7) rfl)) (by decide) rfl ⟨rfl, rfl, Nat.le_of_ble_eq_true rfl, Nat.le_of_ble_eq_true rfl⟩ ⟨by show kc + 0 ≤ 600000; omega, by show ks + 0 ≤ 7302250; omega⟩ rfl (Nat.le_of_ble_eq_true rfl) rfl rfl rfl (dq dkL_law_6 28 rfl) ?_
  refine v_aload_n F (dq dkL_law_6 29 rfl) rfl 2 rfl ?_
  refine v_aload_n F (dq dkL_law_6 30 rfl) rfl 0 rfl ?_
  refine v_iload_n F (dq dkL_law_6 31 rfl) rfl 3 rfl ?_
  refine v_iconst F (v := 1) (dq dkL_law_6 32 rfl) ki_1 ?_
  refine v_iadd F (dq dkL_law_6 33 rfl) ?_
  refine v_sld F hX hbl hbA h1 (dq dkL_law_6 34 rfl) ?_
  refine v_aload_n F (dq dkL_law_6 35 rfl) rfl 0 rfl ?_
  refine v_iload_n F (dq dkL_law_6 36 rfl) rfl 3 rfl ?_
  refine v_iconst F (v := 2) (dq dkL_law_6 37 rfl) ki_2 ?_
  refine v_iadd F (dq dkL_law_6 38 rfl) ?_
  refine v_sld F hX hbl hbA h2 (dq dkL_law_6 39 rfl) ?_
  refine v_aload_n F (dq dkL_law_7 0 rfl) rfl 0 rfl ?_
  refine v_iload_n F (dq dkL_law_7 1 rfl) rfl 3 rfl ?_
  refine v_iconst F (v := 3) (dq dkL_law_7 2 rfl) ki_3 ?_
  refine v_iadd F (dq dkL_law_7 3 rfl) ?_
  refine v_sld F hX hbl hbA h3 (dq dkL_law_7 4 rfl) ?_
  obtain ⟨nn, hnn⟩ : ∃ nn, gn x1 = 27 + nn := ⟨gn x1 - 27, by have := hge _ _ hP1; omega⟩
  refine v_eqM (xfM_of hnn) ?_
  refine v_callV 3 F (q := 61) (kc1 := kc) (ks1 := ks) (as := [.int (xs (i + 1).toNatClampNeg), .int (xs (i + 2).toNatClampNeg), .int (xs (i + 3).toNatClampNeg)]) (st := [.int r]) (st1 := [.int r, .int r]) (res := (some (.int r))) (c_X11_work (l := C.2.1) x1 y (xs (i + 1).toNatClampNeg) (xs (i + 2).toNatClampNeg) (xs (i + 3).toNatClampNeg) e2) (xnM (by decide)) xc_61 rfl (tc22 _ (List.mem_of_getElem? (i := 12) rfl)) (tc22 _ (List.mem_of_getElem? (i := 13) rfl)) (tc22 _ (List.mem_of_getElem? (i := 14) rfl)) (tc1 _ (List.mem_of_getElem? (i := 5) rfl)) (tc22 _ (List.mem_of_getElem? (i := 15) rfl)) (by decide) rfl ⟨rfl, rfl, Nat.le_of_ble_eq_true rfl, Nat.le_of_ble_eq_true rfl⟩ ⟨by show kc + 0 ≤ 600000; omega, by show ks + 0 ≤ 7302250; omega⟩ rfl (Nat.le_of_ble_eq_true rfl) rfl rfl rfl (dq dkL_law_7 5 rfl) ?_
  refine v_eqM (xfM_of hnn).symm ?_
  refine v_icmp_eq F (tgt := 1911) (dq dkL_law_7 6 rfl) (by decide) (fun _ => ?_) (fun c => absurd rfl c)
  exact hk x1 y1 (kc) (ks) hP1 (by omega) (by omega)
def sim_forget (P : CS → MS → Prop) : Prop := ∀ (x : CS) (y : MS), P x y → ∃ (r : Int32) (x1 : CS) (y1 : MS), f_X10_forget x = (r, x1) ∧ f_X11_forget y = (r, y1) ∧ P x1 y1
set_option maxRecDepth 100000 in
set_option maxHeartbeats 4000000 in
theorem lw_case_9 {C : Cx} {K : KE} {P : CS → MS → Prop} {b L : Nat} {xs : Nat → Int32} {i : Int32} (S : sim_forget P) (hge : ∀ x y, P x y → 27 ≤ gn x) (F : Fx C RL cL_law 4 room_1 K) (hX : va_X b L xs C.2.2.2.2.1 C.2.2.2.2.1.heap) (hbl : b < C.2.2.2.2.1.heap.size) (hbA : ¬ gA K.1 b) (h1 : vp_in (i + 1) L) (h2 : vp_in (i + 2) L) (h3 : vp_in (i + 3) L) (h4 : vp_in (i + 4) L) (h5 : vp_in (i + 5) L) (x : CS) (y : MS) (hP : P x y) (kc ks : Nat) (hkc : kc + 2000 ≤ 600000) (hks : ks + 4000 ≤ 7302250)
    (hk : ∀ (x1 : CS) (y1 : MS) (kc1 ks1 : Nat), P x1 y1 → kc1 ≤ kc + 2000 → ks1 ≤ ks + 4000 → V C 1911 [(0, .ref b), (1, .ref (K.1 + 0)), (2, .ref (K.1 + 61)), (3, .int i)] [] (xf K x1 y1) kc1 ks1) : V C 563 [(0, .ref b), (1, .ref (K.1 + 0)), (2, .ref (K.1 + 61)), (3, .int i)] [] (xf K x y) kc ks := by
  obtain ⟨r, x1, y1, e1, e2, hP1⟩ := S x y  hP
  refine v_aload_n F (dq dkL_law_7 9 rfl) rfl 1 rfl ?_
  have e1' := e1
  refine v_callV 0 F (q := 0) (kc1 := kc) (ks1 := ks) (as := []) (st := []) (st1 := [.int r]) (res := (some (.int r))) (e1 ▸ (c_X10_forget (l := C.2.1) x y  )) (xn (by decide)) xc_0 rfl (tc22 _ (List.mem_of_getElem? (i := 16) rfl)) (tc22 _ (List.mem_of_getElem? (i := 17) rfl)) (tc22 _ (List.mem_of_getElem? (i := 18) rfl)) (tc1 _ (List.mem_of_getElem? (i := 2) rfl)) (tc22 _ (List.mem_of_getElem? (i := 19) rfl)) (by decide) rfl ⟨rfl, rfl, Nat.le_of_ble_eq_true rfl, Nat.le_of_ble_eq_true rfl⟩ ⟨by show kc + 0 ≤ 600000; omega, by show ks + 0 ≤ 7302250; omega⟩ rfl (Nat.le_of_ble_eq_true rfl) rfl rfl rfl (dq dkL_law_7 10 rfl) ?_
  refine v_aload_n F (dq dkL_law_7 11 rfl) rfl 2 rfl ?_
  obtain ⟨nn, hnn⟩ : ∃ nn, gn x1 = 27 + nn := ⟨gn x1 - 27, by have := hge _ _ hP1; omega⟩
  refine v_eqM (xfM_of hnn) ?_
  have e2' := e2
  refine v_callV 0 F (q := 61) (kc1 := kc) (ks1 := ks) (as := []) (st := [.int r]) (st1 := [.int r, .int r]) (res := (some (.int r))) (e2 ▸ (c_X11_forget (l := C.2.1) x1 y  )) (xnM (by decide)) xc_61 rfl (tc22 _ (List.mem_of_getElem? (i := 20) rfl)) (tc22 _ (List.mem_of_getElem? (i := 21) rfl)) (tc22 _ (List.mem_of_getElem? (i := 22) rfl)) (tc1 _ (List.mem_of_getElem? (i := 5) rfl)) (tc22 _ (List.mem_of_getElem? (i := 23) rfl)) (by decide) rfl ⟨rfl, rfl, Nat.le_of_ble_eq_true rfl, Nat.le_of_ble_eq_true rfl⟩ ⟨by show kc + 0 ≤ 600000; omega, by show ks + 0 ≤ 7302250; omega⟩ rfl (Nat.le_of_ble_eq_true rfl) rfl rfl rfl (dq dkL_law_7 12 rfl) ?_
  refine v_eqM (xfM_of hnn).symm ?_
  refine v_icmp_eq F (tgt := 1911) (dq dkL_law_7 13 rfl) (by decide) (fun _ => ?_) (fun c => absurd rfl c)
  exact hk x1 y1 (kc) (ks) hP1 (by omega) (by omega)
def sim_workTold (P : CS → MS → Prop) : Prop := ∀ (x : CS) (y : MS) (a0 : Int32) (a1 : Int32), P x y → ∃ (r : Int32), f_X10_workTold x a0 a1 = some r ∧ f_X11_workTold y a0 a1 = some r
set_option maxRecDepth 100000 in
set_option maxHeartbeats 4000000 in
theorem lw_case_10 {C : Cx} {K : KE} {P : CS → MS → Prop} {b L : Nat} {xs : Nat → Int32} {i : Int32} (S : sim_workTold P) (hge : ∀ x y, P x y → 27 ≤ gn x) (F : Fx C RL cL_law 4 room_1 K) (hX : va_X b L xs C.2.2.2.2.1 C.2.2.2.2.1.heap) (hbl : b < C.2.2.2.2.1.heap.size) (hbA : ¬ gA K.1 b) (h1 : vp_in (i + 1) L) (h2 : vp_in (i + 2) L) (h3 : vp_in (i + 3) L) (h4 : vp_in (i + 4) L) (h5 : vp_in (i + 5) L) (x : CS) (y : MS) (hP : P x y) (kc ks : Nat) (hkc : kc + 2000 ≤ 600000) (hks : ks + 4000 ≤ 7302250)
    (hk : ∀ (x1 : CS) (y1 : MS) (kc1 ks1 : Nat), P x1 y1 → kc1 ≤ kc + 2000 → ks1 ≤ ks + 4000 → V C 1911 [(0, .ref b), (1, .ref (K.1 + 0)), (2, .ref (K.1 + 61)), (3, .int i)] [] (xf K x1 y1) kc1 ks1) : V C 576 [(0, .ref b), (1, .ref (K.1 + 0)), (2, .ref (K.1 + 61)), (3, .int i)] [] (xf K x y) kc ks := by
  obtain ⟨r, e1, e2⟩ := S x y (xs (i + 1).toNatClampNeg) (xs (i + 2).toNatClampNeg) hP
  have hP1 := hP
  refine v_aload_n F (dq dkL_law_7 16 rfl) rfl 1 rfl ?_
  refine v_aload_n F (dq dkL_law_7 17 rfl) rfl 0 rfl ?_
  refine v_iload_n F (dq dkL_law_7 18 rfl) rfl 3 rfl ?_
  refine v_iconst F (v := 1) (dq dkL_law_7 19 rfl) ki_1 ?_
  refine v_iadd F (dq dkL_law_7 20 rfl) ?_
  refine v_sld F hX hbl hbA h1 (dq dkL_law_7 21 rfl) ?_
  refine v_aload_n F (dq dkL_law_7 22 rfl) rfl 0 rfl ?_
  refine v_iload_n F (dq dkL_law_7 23 rfl) rfl 3 rfl ?_
  refine v_iconst F (v := 2) (dq dkL_law_7 24 rfl) ki_2 ?_
  refine v_iadd F (dq dkL_law_7 25 rfl) ?_
  refine v_sld F hX hbl hbA h2 (dq dkL_law_7 26 rfl) ?_
  refine v_callV 2 F (q := 0) (kc1 := kc) (ks1 := ks) (as := [.int (xs (i + 1).toNatClampNeg), .int (xs (i + 2).toNatClampNeg)]) (st := []) (st1 := [.int r]) (res := (some (.int r))) (c_X10_workTold (l := C.2.1) x y (xs (i + 1).toNatClampNeg) (xs (i + 2).toNatClampNeg) e1) (xn (by decide)) xc_0 rfl (tc23 _ (List.mem_of_getElem? (i := 0) rfl)) (tc23 _ (List.mem_of_getElem? (i := 1) rfl)) (tc23 _ (List.mem_of_getElem? (i := 2) rfl)) (tc1 _ (List.mem_of_getElem? (i := 2) rfl)) (tc23 _ (List.mem_of_getElem? (i := 3) rfl)) (by decide) rfl ⟨rfl, rfl, Nat.le_of_ble_eq_true rfl, Nat.le_of_ble_eq_true rfl⟩ ⟨by show kc + 0 ≤ 600000; omega, by show ks + 0 ≤ 7302250; omega⟩ rfl (Nat.le_of_ble_eq_true rfl) rfl rfl rfl (dq dkL_law_7 27 rfl) ?_
  refine v_aload_n F (dq dkL_law_7 28 rfl) rfl 2 rfl ?_
  refine v_aload_n F (dq dkL_law_7 29 rfl) rfl 0 rfl ?_
  refine v_iload_n F (dq dkL_law_7 30 rfl) rfl 3 rfl ?_
  refine v_iconst F (v := 1) (dq dkL_law_7 31 rfl) ki_1 ?_
  refine v_iadd F (dq dkL_law_7 32 rfl) ?_
  refine v_sld F hX hbl hbA h1 (dq dkL_law_7 33 rfl) ?_
  refine v_aload_n F (dq dkL_law_7 34 rfl) rfl 0 rfl ?_
  refine v_iload_n F (dq dkL_law_7 35 rfl) rfl 3 rfl ?_
  refine v_iconst F (v := 2) (dq dkL_law_7 36 rfl) ki_2 ?_
  refine v_iadd F (dq dkL_law_7 37 rfl) ?_
  refine v_sld F hX hbl hbA h2 (dq dkL_law_7 38 rfl) ?_
  obtain ⟨nn, hnn⟩ : ∃ nn, gn x = 27 + nn := ⟨gn x - 27, by have := hge _ _ hP1; omega⟩
  refine v_eqM (xfM_of hnn) ?_
  refine v_callV 2 F (q := 61) (kc1 := kc) (ks1 := ks) (as := [.int (xs (i + 1).toNatClampNeg), .int (xs (i + 2).toNatClampNeg)]) (st := [.int r]) (st1 := [.int r, .int r]) (res := (some (.int r))) (c_X11_workTold (l := C.2.1) x y (xs (i + 1).toNatClampNeg) (xs (i + 2).toNatClampNeg) e2) (xnM (by decide)) xc_61 rfl (tc24 _ (List.mem_of_getElem? (i := 8) rfl)) (tc24 _ (List.mem_of_getElem? (i := 9) rfl)) (tc24 _ (List.mem_of_getElem? (i := 10) rfl)) (tc1 _ (List.mem_of_getElem? (i := 5) rfl)) (tc24 _ (List.mem_of_getElem? (i := 11) rfl)) (by decide) rfl ⟨rfl, rfl, Nat.le_of_ble_eq_true rfl, Nat.le_of_ble_eq_true rfl⟩ ⟨by show kc + 0 ≤ 600000; omega, by show ks + 0 ≤ 7302250; omega⟩ rfl (Nat.le_of_ble_eq_true rfl) rfl rfl rfl (dq dkL_law_7 39 rfl) ?_
  refine v_eqM (xfM_of hnn).symm ?_
  refine v_icmp_eq F (tgt := 1911) (dq dkL_law_8 0 rfl) (by decide) (fun _ => ?_) (fun c => absurd rfl c)
  exact hk x y (kc) (ks) hP1 (by omega) (by omega)
def sim_hull (P : CS → MS → Prop) : Prop := ∀ (x : CS) (y : MS) (a0 : Int32) (a1 : Int32) (a2 : Int32), P x y → ∃ (r : Int32) (x1 : CS) (y1 : MS), f_X10_hull x a0 a1 a2 = some (r, x1) ∧ f_X11_hull y a0 a1 a2 = some (r, y1) ∧ P x1 y1
set_option maxRecDepth 100000 in
set_option maxHeartbeats 4000000 in
theorem lw_case_11 {C : Cx} {K : KE} {P : CS → MS → Prop} {b L : Nat} {xs : Nat → Int32} {i : Int32} (S : sim_hull P) (hge : ∀ x y, P x y → 27 ≤ gn x) (F : Fx C RL cL_law 4 room_1 K) (hX : va_X b L xs C.2.2.2.2.1 C.2.2.2.2.1.heap) (hbl : b < C.2.2.2.2.1.heap.size) (hbA : ¬ gA K.1 b) (h1 : vp_in (i + 1) L) (h2 : vp_in (i + 2) L) (h3 : vp_in (i + 3) L) (h4 : vp_in (i + 4) L) (h5 : vp_in (i + 5) L) (x : CS) (y : MS) (hP : P x y) (kc ks : Nat) (hkc : kc + 2000 ≤ 600000) (hks : ks + 4000 ≤ 7302250)
    (hk : ∀ (x1 : CS) (y1 : MS) (kc1 ks1 : Nat), P x1 y1 → kc1 ≤ kc + 2000 → ks1 ≤ ks + 4000 → V C 1911 [(0, .ref b), (1, .ref (K.1 + 0)), (2, .ref (K.1 + 61)), (3, .int i)] [] (xf K x1 y1) kc1 ks1) : V C 609 [(0, .ref b), (1, .ref (K.1 + 0)), (2, .ref (K.1 + 61)), (3, .int i)] [] (xf K x y) kc ks := by
  obtain ⟨r, x1, y1, e1, e2, hP1⟩ := S x y (xs (i + 1).toNatClampNeg) (xs (i + 2).toNatClampNeg) (xs (i + 3).toNatClampNeg) hP
  refine v_aload_n F (dq dkL_law_8 3 rfl) rfl 1 rfl ?_
  refine v_aload_n F (dq dkL_law_8 4 rfl) rfl 0 rfl ?_
  refine v_iload_n F (dq dkL_law_8 5 rfl) rfl 3 rfl ?_
  refine v_iconst F (v := 1) (dq dkL_law_8 6 rfl) ki_1 ?_
  refine v_iadd F (dq dkL_law_8 7 rfl) ?_
  refine v_sld F hX hbl hbA h1 (dq dkL_law_8 8 rfl) ?_
  refine v_aload_n F (dq dkL_law_8 9 rfl) rfl 0 rfl ?_
  refine v_iload_n F (dq dkL_law_8 10 rfl) rfl 3 rfl ?_
  refine v_iconst F (v := 2) (dq dkL_law_8 11 rfl) ki_2 ?_
  refine v_iadd F (dq dkL_law_8 12 rfl) ?_
  refine v_sld F hX hbl hbA h2 (dq dkL_law_8 13 rfl) ?_
  refine v_aload_n F (dq dkL_law_8 14 rfl) rfl 0 rfl ?_
  refine v_iload_n F (dq dkL_law_8 15 rfl) rfl 3 rfl ?_
  refine v_iconst F (v := 3) (dq dkL_law_8 16 rfl) ki_3 ?_
  refine v_iadd F (dq dkL_law_8 17 rfl) ?_
  refine v_sld F hX hbl hbA h3 (dq dkL_law_8 18 rfl) ?_
  refine v_callV 3 F (q := 0) (kc1 := kc) (ks1 := ks) (as := [.int (xs (i + 1).toNatClampNeg), .int (xs (i + 2).toNatClampNeg), .int (xs (i + 3).toNatClampNeg)]) (st := []) (st1 := [.int r]) (res := (some (.int r))) (c_X10_hull (l := C.2.1) x y (xs (i + 1).toNatClampNeg) (xs (i + 2).toNatClampNeg) (xs (i + 3).toNatClampNeg) e1) (xn (by decide)) xc_0 rfl (tc24 _ (List.mem_of_getElem? (i := 19) rfl)) (tc24 _ (List.mem_of_getElem? (i := 20) rfl)) (tc24 _ (List.mem_of_getElem? (i := 21) rfl)) (tc1 _ (List.mem_of_getElem? (i := 2) rfl)) (tc24 _ (List.mem_of_getElem? (i := 22) rfl)) (by decide) rfl ⟨rfl, rfl, Nat.le_of_ble_eq_true rfl, Nat.le_of_ble_eq_true rfl⟩ ⟨by show kc + 0 ≤ 600000; omega, by show ks + 0 ≤ 7302250; omega⟩ rfl (Nat.le_of_ble_eq_true rfl) rfl rfl rfl (dq dkL_law_8 19 rfl) ?_
  refine v_aload_n F (dq dkL_law_8 20 rfl) rfl 2 rfl ?_
  refine v_aload_n F (dq dkL_law_8 21 rfl) rfl 0 rfl ?_
  refine v_iload_n F (dq dkL_law_8 22 rfl) rfl 3 rfl ?_
  refine v_iconst F (v := 1) (dq dkL_law_8 23 rfl) ki_1 ?_
  refine v_iadd F (dq dkL_law_8 24 rfl) ?_
  refine v_sld F hX hbl hbA h1 (dq dkL_law_8 25 rfl) ?_
  refine v_aload_n F (dq dkL_law_8 26 rfl) rfl 0 rfl ?_
  refine v_iload_n F (dq dkL_law_8 27 rfl) rfl 3 rfl ?_
  refine v_iconst F (v := 2) (dq dkL_law_8 28 rfl) ki_2 ?_
  refine v_iadd F (dq dkL_law_8 29 rfl) ?_
  refine v_sld F hX hbl hbA h2 (dq dkL_law_8 30 rfl) ?_
  refine v_aload_n F (dq dkL_law_8 31 rfl) rfl 0 rfl ?_
  refine v_iload_n F (dq dkL_law_8 32 rfl) rfl 3 rfl ?_
  refine v_iconst F (v := 3) (dq dkL_law_8 33 rfl) ki_3 ?_
  refine v_iadd F (dq dkL_law_8 34 rfl) ?_
  refine v_sld F hX hbl hbA h3 (dq dkL_law_8 35 rfl) ?_
  obtain ⟨nn, hnn⟩ : ∃ nn, gn x1 = 27 + nn := ⟨gn x1 - 27, by have := hge _ _ hP1; omega⟩
  refine v_eqM (xfM_of hnn) ?_
  refine v_callV 3 F (q := 61) (kc1 := kc) (ks1 := ks) (as := [.int (xs (i + 1).toNatClampNeg), .int (xs (i + 2).toNatClampNeg), .int (xs (i + 3).toNatClampNeg)]) (st := [.int r]) (st1 := [.int r, .int r]) (res := (some (.int r))) (c_X11_hull (l := C.2.1) x1 y (xs (i + 1).toNatClampNeg) (xs (i + 2).toNatClampNeg) (xs (i + 3).toNatClampNeg) e2) (xnM (by decide)) xc_61 rfl (tc27 _ (List.mem_of_getElem? (i := 5) rfl)) (tc27 _ (List.mem_of_getElem? (i := 6) rfl)) (tc27 _ (List.mem_of_getElem? (i := 7) rfl)) (tc1 _ (List.mem_of_getElem? (i := 5) rfl)) (tc27 _ (List.mem_of_getElem? (i := 8) rfl)) (by decide) rfl ⟨rfl, rfl, Nat.le_of_ble_eq_true rfl, Nat.le_of_ble_eq_true rfl⟩ ⟨by show kc + 0 ≤ 600000; omega, by show ks + 0 ≤ 7302250; omega⟩ rfl (Nat.le_of_ble_eq_true rfl) rfl rfl rfl (dq dkL_law_8 36 rfl) ?_
  refine v_eqM (xfM_of hnn).symm ?_
  refine v_icmp_eq F (tgt := 1911) (dq dkL_law_8 37 rfl) (by decide) (fun _ => ?_) (fun c => absurd rfl c)
  exact hk x1 y1 (kc) (ks) hP1 (by omega) (by omega)
def sim_state (P : CS → MS → Prop) : Prop := ∀ (x : CS) (y : MS) (a0 : Int32) (a1 : Int32), P x y → ∃ (r : Int32) (x1 : CS) (y1 : MS), f_X10_state x a0 a1 = some (r, x1) ∧ f_X11_state y a0 a1 = some (r, y1) ∧ P x1 y1
set_option maxRecDepth 100000 in
set_option maxHeartbeats 4000000 in
theorem lw_case_12 {C : Cx} {K : KE} {P : CS → MS → Prop} {b L : Nat} {xs : Nat → Int32} {i : Int32} (S : sim_state P) (hge : ∀ x y, P x y → 27 ≤ gn x) (F : Fx C RL cL_law 4 room_1 K) (hX : va_X b L xs C.2.2.2.2.1 C.2.2.2.2.1.heap) (hbl : b < C.2.2.2.2.1.heap.size) (hbA : ¬ gA K.1 b) (h1 : vp_in (i + 1) L) (h2 : vp_in (i + 2) L) (h3 : vp_in (i + 3) L) (h4 : vp_in (i + 4) L) (h5 : vp_in (i + 5) L) (x : CS) (y : MS) (hP : P x y) (kc ks : Nat) (hkc : kc + 2000 ≤ 600000) (hks : ks + 4000 ≤ 7302250)
    (hk : ∀ (x1 : CS) (y1 : MS) (kc1 ks1 : Nat), P x1 y1 → kc1 ≤ kc + 2000 → ks1 ≤ ks + 4000 → V C 1911 [(0, .ref b), (1, .ref (K.1 + 0)), (2, .ref (K.1 + 61)), (3, .int i)] [] (xf K x1 y1) kc1 ks1) : V C 652 [(0, .ref b), (1, .ref (K.1 + 0)), (2, .ref (K.1 + 61)), (3, .int i)] [] (xf K x y) kc ks := by
  obtain ⟨r, x1, y1, e1, e2, hP1⟩ := S x y (xs (i + 1).toNatClampNeg) (xs (i + 2).toNatClampNeg) hP
  refine v_aload_n F (dq dkL_law_9 0 rfl) rfl 1 rfl ?_
  refine v_aload_n F (dq dkL_law_9 1 rfl) rfl 0 rfl ?_
  refine v_iload_n F (dq dkL_law_9 2 rfl) rfl 3 rfl ?_
  refine v_iconst F (v := 1) (dq dkL_law_9 3 rfl) ki_1 ?_
  refine v_iadd F (dq dkL_law_9 4 rfl) ?_
  refine v_sld F hX hbl hbA h1 (dq dkL_law_9 5 rfl) ?_
  refine v_aload_n F (dq dkL_law_9 6 rfl) rfl 0 rfl ?_
  refine v_iload_n F (dq dkL_law_9 7 rfl) rfl 3 rfl ?_
  refine v_iconst F (v := 2) (dq dkL_law_9 8 rfl) ki_2 ?_
  refine v_iadd F (dq dkL_law_9 9 rfl) ?_
  refine v_sld F hX hbl hbA h2 (dq dkL_law_9 10 rfl) ?_
  refine v_callV 2 F (q := 0) (kc1 := kc) (ks1 := ks) (as := [.int (xs (i + 1).toNatClampNeg), .int (xs (i + 2).toNatClampNeg)]) (st := []) (st1 := [.int r]) (res := (some (.int r))) (c_X10_state (l := C.2.1) x y (xs (i + 1).toNatClampNeg) (xs (i + 2).toNatClampNeg) e1) (xn (by decide)) xc_0 rfl (tc29 _ (List.mem_of_getElem? (i := 16) rfl)) (tc29 _ (List.mem_of_getElem? (i := 17) rfl)) (tc29 _ (List.mem_of_getElem? (i := 18) rfl)) (tc1 _ (List.mem_of_getElem? (i := 2) rfl)) (tc29 _ (List.mem_of_getElem? (i := 19) rfl)) (by decide) rfl ⟨rfl, rfl, Nat.le_of_ble_eq_true rfl, Nat.le_of_ble_eq_true rfl⟩ ⟨by show kc + 0 ≤ 600000; omega, by show ks + 0 ≤ 7302250; omega⟩ rfl (Nat.le_of_ble_eq_true rfl) rfl rfl rfl (dq dkL_law_9 11 rfl) ?_
  refine v_aload_n F (dq dkL_law_9 12 rfl) rfl 2 rfl ?_
  refine v_aload_n F (dq dkL_law_9 13 rfl) rfl 0 rfl ?_
  refine v_iload_n F (dq dkL_law_9 14 rfl) rfl 3 rfl ?_
  refine v_iconst F (v := 1) (dq dkL_law_9 15 rfl) ki_1 ?_
  refine v_iadd F (dq dkL_law_9 16 rfl) ?_
  refine v_sld F hX hbl hbA h1 (dq dkL_law_9 17 rfl) ?_
  refine v_aload_n F (dq dkL_law_9 18 rfl) rfl 0 rfl ?_
  refine v_iload_n F (dq dkL_law_9 19 rfl) rfl 3 rfl ?_
  refine v_iconst F (v := 2) (dq dkL_law_9 20 rfl) ki_2 ?_
  refine v_iadd F (dq dkL_law_9 21 rfl) ?_
  refine v_sld F hX hbl hbA h2 (dq dkL_law_9 22 rfl) ?_
  obtain ⟨nn, hnn⟩ : ∃ nn, gn x1 = 27 + nn := ⟨gn x1 - 27, by have := hge _ _ hP1; omega⟩
  refine v_eqM (xfM_of hnn) ?_
  refine v_callV 2 F (q := 61) (kc1 := kc) (ks1 := ks) (as := [.int (xs (i + 1).toNatClampNeg), .int (xs (i + 2).toNatClampNeg)]) (st := [.int r]) (st1 := [.int r, .int r]) (res := (some (.int r))) (c_X11_state (l := C.2.1) x1 y (xs (i + 1).toNatClampNeg) (xs (i + 2).toNatClampNeg) e2) (xnM (by decide)) xc_61 rfl (tc29 _ (List.mem_of_getElem? (i := 20) rfl)) (tc29 _ (List.mem_of_getElem? (i := 21) rfl)) (tc29 _ (List.mem_of_getElem? (i := 22) rfl)) (tc1 _ (List.mem_of_getElem? (i := 5) rfl)) (tc29 _ (List.mem_of_getElem? (i := 23) rfl)) (by decide) rfl ⟨rfl, rfl, Nat.le_of_ble_eq_true rfl, Nat.le_of_ble_eq_true rfl⟩ ⟨by show kc + 0 ≤ 600000; omega, by show ks + 0 ≤ 7302250; omega⟩ rfl (Nat.le_of_ble_eq_true rfl) rfl rfl rfl (dq dkL_law_9 23 rfl) ?_
  refine v_eqM (xfM_of hnn).symm ?_
  refine v_icmp_eq F (tgt := 1911) (dq dkL_law_9 24 rfl) (by decide) (fun _ => ?_) (fun c => absurd rfl c)
  exact hk x1 y1 (kc) (ks) hP1 (by omega) (by omega)
def sim_days (P : CS → MS → Prop) : Prop := ∀ (x : CS) (y : MS) (a0 : Int32) (a1 : Int32), P x y → ∃ (r : Int32), f_X10_days x a0 a1 = some r ∧ f_X11_days y a0 a1 = some r
set_option maxRecDepth 100000 in
set_option maxHeartbeats 4000000 in
theorem lw_case_13 {C : Cx} {K : KE} {P : CS → MS → Prop} {b L : Nat} {xs : Nat → Int32} {i : Int32} (S : sim_days P) (hge : ∀ x y, P x y → 27 ≤ gn x) (F : Fx C RL cL_law 4 room_1 K) (hX : va_X b L xs C.2.2.2.2.1 C.2.2.2.2.1.heap) (hbl : b < C.2.2.2.2.1.heap.size) (hbA : ¬ gA K.1 b) (h1 : vp_in (i + 1) L) (h2 : vp_in (i + 2) L) (h3 : vp_in (i + 3) L) (h4 : vp_in (i + 4) L) (h5 : vp_in (i + 5) L) (x : CS) (y : MS) (hP : P x y) (kc ks : Nat) (hkc : kc + 2000 ≤ 600000) (hks : ks + 4000 ≤ 7302250)
    (hk : ∀ (x1 : CS) (y1 : MS) (kc1 ks1 : Nat), P x1 y1 → kc1 ≤ kc + 2000 → ks1 ≤ ks + 4000 → V C 1911 [(0, .ref b), (1, .ref (K.1 + 0)), (2, .ref (K.1 + 61)), (3, .int i)] [] (xf K x1 y1) kc1 ks1) : V C 685 [(0, .ref b), (1, .ref (K.1 + 0)), (2, .ref (K.1 + 61)), (3, .int i)] [] (xf K x y) kc ks := by
  obtain ⟨r, e1, e2⟩ := S x y (xs (i + 1).toNatClampNeg) (xs (i + 2).toNatClampNeg) hP
  have hP1 := hP
  refine v_aload_n F (dq dkL_law_9 27 rfl) rfl 1 rfl ?_
  refine v_aload_n F (dq dkL_law_9 28 rfl) rfl 0 rfl ?_
  refine v_iload_n F (dq dkL_law_9 29 rfl) rfl 3 rfl ?_
  refine v_iconst F (v := 1) (dq dkL_law_9 30 rfl) ki_1 ?_
  refine v_iadd F (dq dkL_law_9 31 rfl) ?_
  refine v_sld F hX hbl hbA h1 (dq dkL_law_9 32 rfl) ?_
  refine v_aload_n F (dq dkL_law_9 33 rfl) rfl 0 rfl ?_
  refine v_iload_n F (dq dkL_law_9 34 rfl) rfl 3 rfl ?_
  refine v_iconst F (v := 2) (dq dkL_law_9 35 rfl) ki_2 ?_
  refine v_iadd F (dq dkL_law_9 36 rfl) ?_
  refine v_sld F hX hbl hbA h2 (dq dkL_law_9 37 rfl) ?_
  refine v_callV 2 F (q := 0) (kc1 := kc) (ks1 := ks) (as := [.int (xs (i + 1).toNatClampNeg), .int (xs (i + 2).toNatClampNeg)]) (st := []) (st1 := [.int r]) (res := (some (.int r))) (c_X10_days (l := C.2.1) x y (xs (i + 1).toNatClampNeg) (xs (i + 2).toNatClampNeg) e1) (xn (by decide)) xc_0 rfl (tc30 _ (List.mem_of_getElem? (i := 0) rfl)) (tc30 _ (List.mem_of_getElem? (i := 1) rfl)) (tc30 _ (List.mem_of_getElem? (i := 2) rfl)) (tc1 _ (List.mem_of_getElem? (i := 2) rfl)) (tc30 _ (List.mem_of_getElem? (i := 3) rfl)) (by decide) rfl ⟨rfl, rfl, Nat.le_of_ble_eq_true rfl, Nat.le_of_ble_eq_true rfl⟩ ⟨by show kc + 0 ≤ 600000; omega, by show ks + 0 ≤ 7302250; omega⟩ rfl (Nat.le_of_ble_eq_true rfl) rfl rfl rfl (dq dkL_law_9 38 rfl) ?_
  refine v_aload_n F (dq dkL_law_9 39 rfl) rfl 2 rfl ?_
  refine v_aload_n F (dq dkL_law_10 0 rfl) rfl 0 rfl ?_
  refine v_iload_n F (dq dkL_law_10 1 rfl) rfl 3 rfl ?_
  refine v_iconst F (v := 1) (dq dkL_law_10 2 rfl) ki_1 ?_
  refine v_iadd F (dq dkL_law_10 3 rfl) ?_
  refine v_sld F hX hbl hbA h1 (dq dkL_law_10 4 rfl) ?_
  refine v_aload_n F (dq dkL_law_10 5 rfl) rfl 0 rfl ?_
  refine v_iload_n F (dq dkL_law_10 6 rfl) rfl 3 rfl ?_
  refine v_iconst F (v := 2) (dq dkL_law_10 7 rfl) ki_2 ?_
  refine v_iadd F (dq dkL_law_10 8 rfl) ?_
  refine v_sld F hX hbl hbA h2 (dq dkL_law_10 9 rfl) ?_
  obtain ⟨nn, hnn⟩ : ∃ nn, gn x = 27 + nn := ⟨gn x - 27, by have := hge _ _ hP1; omega⟩
  refine v_eqM (xfM_of hnn) ?_
  refine v_callV 2 F (q := 61) (kc1 := kc) (ks1 := ks) (as := [.int (xs (i + 1).toNatClampNeg), .int (xs (i + 2).toNatClampNeg)]) (st := [.int r]) (st1 := [.int r, .int r]) (res := (some (.int r))) (c_X11_days (l := C.2.1) x y (xs (i + 1).toNatClampNeg) (xs (i + 2).toNatClampNeg) e2) (xnM (by decide)) xc_61 rfl (tc30 _ (List.mem_of_getElem? (i := 13) rfl)) (tc30 _ (List.mem_of_getElem? (i := 14) rfl)) (tc30 _ (List.mem_of_getElem? (i := 15) rfl)) (tc1 _ (List.mem_of_getElem? (i := 5) rfl)) (tc30 _ (List.mem_of_getElem? (i := 16) rfl)) (by decide) rfl ⟨rfl, rfl, Nat.le_of_ble_eq_true rfl, Nat.le_of_ble_eq_true rfl⟩ ⟨by show kc + 0 ≤ 600000; omega, by show ks + 0 ≤ 7302250; omega⟩ rfl (Nat.le_of_ble_eq_true rfl) rfl rfl rfl (dq dkL_law_10 10 rfl) ?_
  refine v_eqM (xfM_of hnn).symm ?_
  refine v_icmp_eq F (tgt := 1911) (dq dkL_law_10 11 rfl) (by decide) (fun _ => ?_) (fun c => absurd rfl c)
  exact hk x y (kc) (ks) hP1 (by omega) (by omega)
def sim_fewest (P : CS → MS → Prop) : Prop := ∀ (x : CS) (y : MS) (a0 : Int32) (a1 : Int32), P x y → ∃ (r : Int32), f_X10_fewest x a0 a1 = some r ∧ f_X11_fewest y a0 a1 = some r
set_option maxRecDepth 100000 in
set_option maxHeartbeats 4000000 in
theorem lw_case_14 {C : Cx} {K : KE} {P : CS → MS → Prop} {b L : Nat} {xs : Nat → Int32} {i : Int32} (S : sim_fewest P) (hge : ∀ x y, P x y → 27 ≤ gn x) (F : Fx C RL cL_law 4 room_1 K) (hX : va_X b L xs C.2.2.2.2.1 C.2.2.2.2.1.heap) (hbl : b < C.2.2.2.2.1.heap.size) (hbA : ¬ gA K.1 b) (h1 : vp_in (i + 1) L) (h2 : vp_in (i + 2) L) (h3 : vp_in (i + 3) L) (h4 : vp_in (i + 4) L) (h5 : vp_in (i + 5) L) (x : CS) (y : MS) (hP : P x y) (kc ks : Nat) (hkc : kc + 2000 ≤ 600000) (hks : ks + 4000 ≤ 7302250)
    (hk : ∀ (x1 : CS) (y1 : MS) (kc1 ks1 : Nat), P x1 y1 → kc1 ≤ kc + 2000 → ks1 ≤ ks + 4000 → V C 1911 [(0, .ref b), (1, .ref (K.1 + 0)), (2, .ref (K.1 + 61)), (3, .int i)] [] (xf K x1 y1) kc1 ks1) : V C 718 [(0, .ref b), (1, .ref (K.1 + 0)), (2, .ref (K.1 + 61)), (3, .int i)] [] (xf K x y) kc ks := by
  obtain ⟨r, e1, e2⟩ := S x y (xs (i + 1).toNatClampNeg) (xs (i + 2).toNatClampNeg) hP
  have hP1 := hP
  refine v_aload_n F (dq dkL_law_10 14 rfl) rfl 1 rfl ?_
  refine v_aload_n F (dq dkL_law_10 15 rfl) rfl 0 rfl ?_
  refine v_iload_n F (dq dkL_law_10 16 rfl) rfl 3 rfl ?_
  refine v_iconst F (v := 1) (dq dkL_law_10 17 rfl) ki_1 ?_
  refine v_iadd F (dq dkL_law_10 18 rfl) ?_
  refine v_sld F hX hbl hbA h1 (dq dkL_law_10 19 rfl) ?_
  refine v_aload_n F (dq dkL_law_10 20 rfl) rfl 0 rfl ?_
  refine v_iload_n F (dq dkL_law_10 21 rfl) rfl 3 rfl ?_
  refine v_iconst F (v := 2) (dq dkL_law_10 22 rfl) ki_2 ?_
  refine v_iadd F (dq dkL_law_10 23 rfl) ?_
  refine v_sld F hX hbl hbA h2 (dq dkL_law_10 24 rfl) ?_
  refine v_callV 2 F (q := 0) (kc1 := kc) (ks1 := ks) (as := [.int (xs (i + 1).toNatClampNeg), .int (xs (i + 2).toNatClampNeg)]) (st := []) (st1 := [.int r]) (res := (some (.int r))) (c_X10_fewest (l := C.2.1) x y (xs (i + 1).toNatClampNeg) (xs (i + 2).toNatClampNeg) e1) (xn (by decide)) xc_0 rfl (tc30 _ (List.mem_of_getElem? (i := 21) rfl)) (tc30 _ (List.mem_of_getElem? (i := 22) rfl)) (tc30 _ (List.mem_of_getElem? (i := 23) rfl)) (tc1 _ (List.mem_of_getElem? (i := 2) rfl)) (tc31 _ (List.mem_of_getElem? (i := 0) rfl)) (by decide) rfl ⟨rfl, rfl, Nat.le_of_ble_eq_true rfl, Nat.le_of_ble_eq_true rfl⟩ ⟨by show kc + 0 ≤ 600000; omega, by show ks + 0 ≤ 7302250; omega⟩ rfl (Nat.le_of_ble_eq_true rfl) rfl rfl rfl (dq dkL_law_10 25 rfl) ?_
  refine v_aload_n F (dq dkL_law_10 26 rfl) rfl 2 rfl ?_
  refine v_aload_n F (dq dkL_law_10 27 rfl) rfl 0 rfl ?_
  refine v_iload_n F (dq dkL_law_10 28 rfl) rfl 3 rfl ?_
  refine v_iconst F (v := 1) (dq dkL_law_10 29 rfl) ki_1 ?_
  refine v_iadd F (dq dkL_law_10 30 rfl) ?_
  refine v_sld F hX hbl hbA h1 (dq dkL_law_10 31 rfl) ?_
  refine v_aload_n F (dq dkL_law_10 32 rfl) rfl 0 rfl ?_
  refine v_iload_n F (dq dkL_law_10 33 rfl) rfl 3 rfl ?_
  refine v_iconst F (v := 2) (dq dkL_law_10 34 rfl) ki_2 ?_
  refine v_iadd F (dq dkL_law_10 35 rfl) ?_
  refine v_sld F hX hbl hbA h2 (dq dkL_law_10 36 rfl) ?_
  obtain ⟨nn, hnn⟩ : ∃ nn, gn x = 27 + nn := ⟨gn x - 27, by have := hge _ _ hP1; omega⟩
  refine v_eqM (xfM_of hnn) ?_
  refine v_callV 2 F (q := 61) (kc1 := kc) (ks1 := ks) (as := [.int (xs (i + 1).toNatClampNeg), .int (xs (i + 2).toNatClampNeg)]) (st := [.int r]) (st1 := [.int r, .int r]) (res := (some (.int r))) (c_X11_fewest (l := C.2.1) x y (xs (i + 1).toNatClampNeg) (xs (i + 2).toNatClampNeg) e2) (xnM (by decide)) xc_61 rfl (tc31 _ (List.mem_of_getElem? (i := 1) rfl)) (tc31 _ (List.mem_of_getElem? (i := 2) rfl)) (tc31 _ (List.mem_of_getElem? (i := 3) rfl)) (tc1 _ (List.mem_of_getElem? (i := 5) rfl)) (tc31 _ (List.mem_of_getElem? (i := 4) rfl)) (by decide) rfl ⟨rfl, rfl, Nat.le_of_ble_eq_true rfl, Nat.le_of_ble_eq_true rfl⟩ ⟨by show kc + 0 ≤ 600000; omega, by show ks + 0 ≤ 7302250; omega⟩ rfl (Nat.le_of_ble_eq_true rfl) rfl rfl rfl (dq dkL_law_10 37 rfl) ?_
  refine v_eqM (xfM_of hnn).symm ?_
  refine v_icmp_eq F (tgt := 1911) (dq dkL_law_10 38 rfl) (by decide) (fun _ => ?_) (fun c => absurd rfl c)
  exact hk x y (kc) (ks) hP1 (by omega) (by omega)
def sim_crack (P : CS → MS → Prop) : Prop := ∀ (x : CS) (y : MS) (a0 : Int32) (a1 : Int32), P x y → ∃ (r : Int32) (x1 : CS) (y1 : MS), f_X10_crack x a0 a1 = some (r, x1) ∧ f_X11_crack y a0 a1 = some (r, y1) ∧ P x1 y1
set_option maxRecDepth 100000 in
set_option maxHeartbeats 4000000 in
theorem lw_case_15 {C : Cx} {K : KE} {P : CS → MS → Prop} {b L : Nat} {xs : Nat → Int32} {i : Int32} (S : sim_crack P) (hge : ∀ x y, P x y → 27 ≤ gn x) (F : Fx C RL cL_law 4 room_1 K) (hX : va_X b L xs C.2.2.2.2.1 C.2.2.2.2.1.heap) (hbl : b < C.2.2.2.2.1.heap.size) (hbA : ¬ gA K.1 b) (h1 : vp_in (i + 1) L) (h2 : vp_in (i + 2) L) (h3 : vp_in (i + 3) L) (h4 : vp_in (i + 4) L) (h5 : vp_in (i + 5) L) (x : CS) (y : MS) (hP : P x y) (kc ks : Nat) (hkc : kc + 2000 ≤ 600000) (hks : ks + 4000 ≤ 7302250)
    (hk : ∀ (x1 : CS) (y1 : MS) (kc1 ks1 : Nat), P x1 y1 → kc1 ≤ kc + 2000 → ks1 ≤ ks + 4000 → V C 1911 [(0, .ref b), (1, .ref (K.1 + 0)), (2, .ref (K.1 + 61)), (3, .int i)] [] (xf K x1 y1) kc1 ks1) : V C 751 [(0, .ref b), (1, .ref (K.1 + 0)), (2, .ref (K.1 + 61)), (3, .int i)] [] (xf K x y) kc ks := by
  obtain ⟨r, x1, y1, e1, e2, hP1⟩ := S x y (xs (i + 1).toNatClampNeg) (xs (i + 2).toNatClampNeg) hP
  refine v_aload_n F (dq dkL_law_11 1 rfl) rfl 1 rfl ?_
  refine v_aload_n F (dq dkL_law_11 2 rfl) rfl 0 rfl ?_
  refine v_iload_n F (dq dkL_law_11 3 rfl) rfl 3 rfl ?_
  refine v_iconst F (v := 1) (dq dkL_law_11 4 rfl) ki_1 ?_
  refine v_iadd F (dq dkL_law_11 5 rfl) ?_
  refine v_sld F hX hbl hbA h1 (dq dkL_law_11 6 rfl) ?_
  refine v_aload_n F (dq dkL_law_11 7 rfl) rfl 0 rfl ?_
  refine v_iload_n F (dq dkL_law_11 8 rfl) rfl 3 rfl ?_
  refine v_iconst F (v := 2) (dq dkL_law_11 9 rfl) ki_2 ?_
  refine v_iadd F (dq dkL_law_11 10 rfl) ?_
  refine v_sld F hX hbl hbA h2 (dq dkL_law_11 11 rfl) ?_
  refine v_callV 2 F (q := 0) (kc1 := kc) (ks1 := ks) (as := [.int (xs (i + 1).toNatClampNeg), .int (xs (i + 2).toNatClampNeg)]) (st := []) (st1 := [.int r]) (res := (some (.int r))) (c_X10_crack (l := C.2.1) x y (xs (i + 1).toNatClampNeg) (xs (i + 2).toNatClampNeg) e1) (xn (by decide)) xc_0 rfl (tc31 _ (List.mem_of_getElem? (i := 5) rfl)) (tc31 _ (List.mem_of_getElem? (i := 6) rfl)) (tc31 _ (List.mem_of_getElem? (i := 7) rfl)) (tc1 _ (List.mem_of_getElem? (i := 2) rfl)) (tc31 _ (List.mem_of_getElem? (i := 8) rfl)) (by decide) rfl ⟨rfl, rfl, Nat.le_of_ble_eq_true rfl, Nat.le_of_ble_eq_true rfl⟩ ⟨by show kc + 0 ≤ 600000; omega, by show ks + 0 ≤ 7302250; omega⟩ rfl (Nat.le_of_ble_eq_true rfl) rfl rfl rfl (dq dkL_law_11 12 rfl) ?_
  refine v_aload_n F (dq dkL_law_11 13 rfl) rfl 2 rfl ?_
  refine v_aload_n F (dq dkL_law_11 14 rfl) rfl 0 rfl ?_
  refine v_iload_n F (dq dkL_law_11 15 rfl) rfl 3 rfl ?_
  refine v_iconst F (v := 1) (dq dkL_law_11 16 rfl) ki_1 ?_
  refine v_iadd F (dq dkL_law_11 17 rfl) ?_
  refine v_sld F hX hbl hbA h1 (dq dkL_law_11 18 rfl) ?_
  refine v_aload_n F (dq dkL_law_11 19 rfl) rfl 0 rfl ?_
  refine v_iload_n F (dq dkL_law_11 20 rfl) rfl 3 rfl ?_
  refine v_iconst F (v := 2) (dq dkL_law_11 21 rfl) ki_2 ?_
  refine v_iadd F (dq dkL_law_11 22 rfl) ?_
  refine v_sld F hX hbl hbA h2 (dq dkL_law_11 23 rfl) ?_
  obtain ⟨nn, hnn⟩ : ∃ nn, gn x1 = 27 + nn := ⟨gn x1 - 27, by have := hge _ _ hP1; omega⟩
  refine v_eqM (xfM_of hnn) ?_
  refine v_callV 2 F (q := 61) (kc1 := kc) (ks1 := ks) (as := [.int (xs (i + 1).toNatClampNeg), .int (xs (i + 2).toNatClampNeg)]) (st := [.int r]) (st1 := [.int r, .int r]) (res := (some (.int r))) (c_X11_crack (l := C.2.1) x1 y (xs (i + 1).toNatClampNeg) (xs (i + 2).toNatClampNeg) e2) (xnM (by decide)) xc_61 rfl (tc31 _ (List.mem_of_getElem? (i := 10) rfl)) (tc31 _ (List.mem_of_getElem? (i := 11) rfl)) (tc31 _ (List.mem_of_getElem? (i := 12) rfl)) (tc1 _ (List.mem_of_getElem? (i := 5) rfl)) (tc31 _ (List.mem_of_getElem? (i := 13) rfl)) (by decide) rfl ⟨rfl, rfl, Nat.le_of_ble_eq_true rfl, Nat.le_of_ble_eq_true rfl⟩ ⟨by show kc + 0 ≤ 600000; omega, by show ks + 0 ≤ 7302250; omega⟩ rfl (Nat.le_of_ble_eq_true rfl) rfl rfl rfl (dq dkL_law_11 24 rfl) ?_
  refine v_eqM (xfM_of hnn).symm ?_
  refine v_icmp_eq F (tgt := 1911) (dq dkL_law_11 25 rfl) (by decide) (fun _ => ?_) (fun c => absurd rfl c)
  exact hk x1 y1 (kc) (ks) hP1 (by omega) (by omega)
def sim_far (P : CS → MS → Prop) : Prop := ∀ (x : CS) (y : MS) (a0 : Int32), P x y → ∃ (r : Int32) (x1 : CS) (y1 : MS), f_X10_far x a0 = some (r, x1) ∧ f_X11_far y a0 = some (r, y1) ∧ P x1 y1
set_option maxRecDepth 100000 in
set_option maxHeartbeats 4000000 in
theorem lw_case_16 {C : Cx} {K : KE} {P : CS → MS → Prop} {b L : Nat} {xs : Nat → Int32} {i : Int32} (S : sim_far P) (hge : ∀ x y, P x y → 27 ≤ gn x) (F : Fx C RL cL_law 4 room_1 K) (hX : va_X b L xs C.2.2.2.2.1 C.2.2.2.2.1.heap) (hbl : b < C.2.2.2.2.1.heap.size) (hbA : ¬ gA K.1 b) (h1 : vp_in (i + 1) L) (h2 : vp_in (i + 2) L) (h3 : vp_in (i + 3) L) (h4 : vp_in (i + 4) L) (h5 : vp_in (i + 5) L) (x : CS) (y : MS) (hP : P x y) (kc ks : Nat) (hkc : kc + 2000 ≤ 600000) (hks : ks + 4000 ≤ 7302250)
    (hk : ∀ (x1 : CS) (y1 : MS) (kc1 ks1 : Nat), P x1 y1 → kc1 ≤ kc + 2000 → ks1 ≤ ks + 4000 → V C 1911 [(0, .ref b), (1, .ref (K.1 + 0)), (2, .ref (K.1 + 61)), (3, .int i)] [] (xf K x1 y1) kc1 ks1) : V C 784 [(0, .ref b), (1, .ref (K.1 + 0)), (2, .ref (K.1 + 61)), (3, .int i)] [] (xf K x y) kc ks := by
  obtain ⟨r, x1, y1, e1, e2, hP1⟩ := S x y (xs (i + 1).toNatClampNeg) hP
  refine v_aload_n F (dq dkL_law_11 28 rfl) rfl 1 rfl ?_
  refine v_aload_n F (dq dkL_law_11 29 rfl) rfl 0 rfl ?_
  refine v_iload_n F (dq dkL_law_11 30 rfl) rfl 3 rfl ?_
  refine v_iconst F (v := 1) (dq dkL_law_11 31 rfl) ki_1 ?_
  refine v_iadd F (dq dkL_law_11 32 rfl) ?_
  refine v_sld F hX hbl hbA h1 (dq dkL_law_11 33 rfl) ?_
  refine v_callV 1 F (q := 0) (kc1 := kc) (ks1 := ks) (as := [.int (xs (i + 1).toNatClampNeg)]) (st := []) (st1 := [.int r]) (res := (some (.int r))) (c_X10_far (l := C.2.1) x y (xs (i + 1).toNatClampNeg) e1) (xn (by decide)) xc_0 rfl (tc31 _ (List.mem_of_getElem? (i := 18) rfl)) (tc31 _ (List.mem_of_getElem? (i := 19) rfl)) (tc31 _ (List.mem_of_getElem? (i := 20) rfl)) (tc1 _ (List.mem_of_getElem? (i := 2) rfl)) (tc31 _ (List.mem_of_getElem? (i := 21) rfl)) (by decide) rfl ⟨rfl, rfl, Nat.le_of_ble_eq_true rfl, Nat.le_of_ble_eq_true rfl⟩ ⟨by show kc + 0 ≤ 600000; omega, by show ks + 0 ≤ 7302250; omega⟩ rfl (Nat.le_of_ble_eq_true rfl) rfl rfl rfl (dq dkL_law_11 34 rfl) ?_
  refine v_aload_n F (dq dkL_law_11 35 rfl) rfl 2 rfl ?_
  refine v_aload_n F (dq dkL_law_11 36 rfl) rfl 0 rfl ?_
  refine v_iload_n F (dq dkL_law_11 37 rfl) rfl 3 rfl ?_
  refine v_iconst F (v := 1) (dq dkL_law_11 38 rfl) ki_1 ?_
  refine v_iadd F (dq dkL_law_11 39 rfl) ?_
  refine v_sld F hX hbl hbA h1 (dq dkL_law_12 0 rfl) ?_
  obtain ⟨nn, hnn⟩ : ∃ nn, gn x1 = 27 + nn := ⟨gn x1 - 27, by have := hge _ _ hP1; omega⟩
  refine v_eqM (xfM_of hnn) ?_
  refine v_callV 1 F (q := 61) (kc1 := kc) (ks1 := ks) (as := [.int (xs (i + 1).toNatClampNeg)]) (st := [.int r]) (st1 := [.int r, .int r]) (res := (some (.int r))) (c_X11_far (l := C.2.1) x1 y (xs (i + 1).toNatClampNeg) e2) (xnM (by decide)) xc_61 rfl (tc31 _ (List.mem_of_getElem? (i := 23) rfl)) (tc32 _ (List.mem_of_getElem? (i := 0) rfl)) (tc32 _ (List.mem_of_getElem? (i := 1) rfl)) (tc1 _ (List.mem_of_getElem? (i := 5) rfl)) (tc32 _ (List.mem_of_getElem? (i := 2) rfl)) (by decide) rfl ⟨rfl, rfl, Nat.le_of_ble_eq_true rfl, Nat.le_of_ble_eq_true rfl⟩ ⟨by show kc + 0 ≤ 600000; omega, by show ks + 0 ≤ 7302250; omega⟩ rfl (Nat.le_of_ble_eq_true rfl) rfl rfl rfl (dq dkL_law_12 1 rfl) ?_
  refine v_eqM (xfM_of hnn).symm ?_
  refine v_icmp_eq F (tgt := 1911) (dq dkL_law_12 2 rfl) (by decide) (fun _ => ?_) (fun c => absurd rfl c)
  exact hk x1 y1 (kc) (ks) hP1 (by omega) (by omega)
def sim_odds (P : CS → MS → Prop) : Prop := ∀ (x : CS) (y : MS) (a0 : Int32) (a1 : Int32) (a2 : Int32) (a3 : Int32), P x y → ∃ (r : Int64) (x1 : CS) (y1 : MS), f_X10_odds x a0 a1 a2 a3 = some (r, x1) ∧ f_X11_odds y a0 a1 a2 a3 = some (r, y1) ∧ P x1 y1
set_option maxRecDepth 100000 in
set_option maxHeartbeats 4000000 in
theorem lw_case_17 {C : Cx} {K : KE} {P : CS → MS → Prop} {b L : Nat} {xs : Nat → Int32} {i : Int32} (S : sim_odds P) (hge : ∀ x y, P x y → 27 ≤ gn x) (F : Fx C RL cL_law 4 room_1 K) (hX : va_X b L xs C.2.2.2.2.1 C.2.2.2.2.1.heap) (hbl : b < C.2.2.2.2.1.heap.size) (hbA : ¬ gA K.1 b) (h1 : vp_in (i + 1) L) (h2 : vp_in (i + 2) L) (h3 : vp_in (i + 3) L) (h4 : vp_in (i + 4) L) (h5 : vp_in (i + 5) L) (x : CS) (y : MS) (hP : P x y) (kc ks : Nat) (hkc : kc + 2000 ≤ 600000) (hks : ks + 4000 ≤ 7302250)
    (hk : ∀ (x1 : CS) (y1 : MS) (kc1 ks1 : Nat), P x1 y1 → kc1 ≤ kc + 2000 → ks1 ≤ ks + 4000 → V C 1911 [(0, .ref b), (1, .ref (K.1 + 0)), (2, .ref (K.1 + 61)), (3, .int i)] [] (xf K x1 y1) kc1 ks1) : V C 807 [(0, .ref b), (1, .ref (K.1 + 0)), (2, .ref (K.1 + 61)), (3, .int i)] [] (xf K x y) kc ks := by
  obtain ⟨r, x1, y1, e1, e2, hP1⟩ := S x y (xs (i + 1).toNatClampNeg) (xs (i + 2).toNatClampNeg) (xs (i + 3).toNatClampNeg) (xs (i + 4).toNatClampNeg) hP
  refine v_aload_n F (dq dkL_law_12 5 rfl) rfl 1 rfl ?_
  refine v_aload_n F (dq dkL_law_12 6 rfl) rfl 0 rfl ?_
  refine v_iload_n F (dq dkL_law_12 7 rfl) rfl 3 rfl ?_
  refine v_iconst F (v := 1) (dq dkL_law_12 8 rfl) ki_1 ?_
  refine v_iadd F (dq dkL_law_12 9 rfl) ?_
  refine v_sld F hX hbl hbA h1 (dq dkL_law_12 10 rfl) ?_
  refine v_aload_n F (dq dkL_law_12 11 rfl) rfl 0 rfl ?_
  refine v_iload_n F (dq dkL_law_12 12 rfl) rfl 3 rfl ?_
  refine v_iconst F (v := 2) (dq dkL_law_12 13 rfl) ki_2 ?_
  refine v_iadd F (dq dkL_law_12 14 rfl) ?_
  refine v_sld F hX hbl hbA h2 (dq dkL_law_12 15 rfl) ?_
  refine v_aload_n F (dq dkL_law_12 16 rfl) rfl 0 rfl ?_
  refine v_iload_n F (dq dkL_law_12 17 rfl) rfl 3 rfl ?_
  refine v_iconst F (v := 3) (dq dkL_law_12 18 rfl) ki_3 ?_
  refine v_iadd F (dq dkL_law_12 19 rfl) ?_
  refine v_sld F hX hbl hbA h3 (dq dkL_law_12 20 rfl) ?_
  refine v_aload_n F (dq dkL_law_12 21 rfl) rfl 0 rfl ?_
  refine v_iload_n F (dq dkL_law_12 22 rfl) rfl 3 rfl ?_
  refine v_iconst F (v := 4) (dq dkL_law_12 23 rfl) ki_4 ?_
  refine v_iadd F (dq dkL_law_12 24 rfl) ?_
  refine v_sld F hX hbl hbA h4 (dq dkL_law_12 25 rfl) ?_
  refine v_callV 4 F (q := 0) (kc1 := kc + 1) (ks1 := ks + 2) (as := [.int (xs (i + 1).toNatClampNeg), .int (xs (i + 2).toNatClampNeg), .int (xs (i + 3).toNatClampNeg), .int (xs (i + 4).toNatClampNeg)]) (st := []) (st1 := [.long r]) (res := (some (.long r))) (c_X10_odds (l := C.2.1) x y (xs (i + 1).toNatClampNeg) (xs (i + 2).toNatClampNeg) (xs (i + 3).toNatClampNeg) (xs (i + 4).toNatClampNeg) e1) (xn (by decide)) xc_0 rfl (tc32 _ (List.mem_of_getElem? (i := 7) rfl)) (tc32 _ (List.mem_of_getElem? (i := 8) rfl)) (tc32 _ (List.mem_of_getElem? (i := 9) rfl)) (tc1 _ (List.mem_of_getElem? (i := 2) rfl)) (tc32 _ (List.mem_of_getElem? (i := 10) rfl)) (by decide) rfl ⟨rfl, rfl, Nat.le_of_ble_eq_true rfl, Nat.le_of_ble_eq_true rfl⟩ ⟨by show kc + 1 ≤ 600000; omega, by show ks + 2 ≤ 7302250; omega⟩ rfl (Nat.le_of_ble_eq_true rfl) rfl rfl rfl (dq dkL_law_12 26 rfl) ?_
  refine v_aload_n F (dq dkL_law_12 27 rfl) rfl 2 rfl ?_
  refine v_aload_n F (dq dkL_law_12 28 rfl) rfl 0 rfl ?_
  refine v_iload_n F (dq dkL_law_12 29 rfl) rfl 3 rfl ?_
  refine v_iconst F (v := 1) (dq dkL_law_12 30 rfl) ki_1 ?_
  refine v_iadd F (dq dkL_law_12 31 rfl) ?_
  refine v_sld F hX hbl hbA h1 (dq dkL_law_12 32 rfl) ?_
  refine v_aload_n F (dq dkL_law_12 33 rfl) rfl 0 rfl ?_
  refine v_iload_n F (dq dkL_law_12 34 rfl) rfl 3 rfl ?_
  refine v_iconst F (v := 2) (dq dkL_law_12 35 rfl) ki_2 ?_
  refine v_iadd F (dq dkL_law_12 36 rfl) ?_
  refine v_sld F hX hbl hbA h2 (dq dkL_law_12 37 rfl) ?_
  refine v_aload_n F (dq dkL_law_12 38 rfl) rfl 0 rfl ?_
  refine v_iload_n F (dq dkL_law_12 39 rfl) rfl 3 rfl ?_
  refine v_iconst F (v := 3) (dq dkL_law_13 0 rfl) ki_3 ?_
  refine v_iadd F (dq dkL_law_13 1 rfl) ?_
  refine v_sld F hX hbl hbA h3 (dq dkL_law_13 2 rfl) ?_
  refine v_aload_n F (dq dkL_law_13 3 rfl) rfl 0 rfl ?_
  refine v_iload_n F (dq dkL_law_13 4 rfl) rfl 3 rfl ?_
  refine v_iconst F (v := 4) (dq dkL_law_13 5 rfl) ki_4 ?_
  refine v_iadd F (dq dkL_law_13 6 rfl) ?_
  refine v_sld F hX hbl hbA h4 (dq dkL_law_13 7 rfl) ?_
  obtain ⟨nn, hnn⟩ : ∃ nn, gn x1 = 27 + nn := ⟨gn x1 - 27, by have := hge _ _ hP1; omega⟩
  refine v_eqM (xfM_of hnn) ?_
  refine v_callV 4 F (q := 61) (kc1 := kc + 1) (ks1 := ks + 2) (as := [.int (xs (i + 1).toNatClampNeg), .int (xs (i + 2).toNatClampNeg), .int (xs (i + 3).toNatClampNeg), .int (xs (i + 4).toNatClampNeg)]) (st := [.long r]) (st1 := [.long r, .long r]) (res := (some (.long r))) (c_X11_odds (l := C.2.1) x1 y (xs (i + 1).toNatClampNeg) (xs (i + 2).toNatClampNeg) (xs (i + 3).toNatClampNeg) (xs (i + 4).toNatClampNeg) e2) (xnM (by decide)) xc_61 rfl (tc33 _ (List.mem_of_getElem? (i := 16) rfl)) (tc33 _ (List.mem_of_getElem? (i := 17) rfl)) (tc33 _ (List.mem_of_getElem? (i := 18) rfl)) (tc1 _ (List.mem_of_getElem? (i := 5) rfl)) (tc33 _ (List.mem_of_getElem? (i := 19) rfl)) (by decide) rfl ⟨rfl, rfl, Nat.le_of_ble_eq_true rfl, Nat.le_of_ble_eq_true rfl⟩ ⟨by show kc + 1 + 0 ≤ 600000; omega, by show ks + 2 + 0 ≤ 7302250; omega⟩ rfl (Nat.le_of_ble_eq_true rfl) rfl rfl rfl (dq dkL_law_13 8 rfl) ?_
  refine v_eqM (xfM_of hnn).symm ?_
  refine v_lcmp F (dq dkL_law_13 9 rfl) ?_
  refine v_if_eq F (tgt := 1911) (dq dkL_law_13 10 rfl) (by decide) (fun _ => ?_) (fun c => absurd (lgc_0 r) c)
  exact hk x1 y1 (kc + 1) (ks + 2) hP1 (by omega) (by omega)
def sim_stop (P : CS → MS → Prop) : Prop := ∀ (x : CS) (y : MS) (a0 : Int32) (a1 : Int32) (a2 : Int32) (a3 : Int32), P x y → ∃ (r : Int32) (x1 : CS) (y1 : MS), f_X10_stop x a0 a1 a2 a3 = some (r, x1) ∧ f_X11_stop y a0 a1 a2 a3 = some (r, y1) ∧ P x1 y1
set_option maxRecDepth 100000 in
set_option maxHeartbeats 4000000 in
theorem lw_case_18 {C : Cx} {K : KE} {P : CS → MS → Prop} {b L : Nat} {xs : Nat → Int32} {i : Int32} (S : sim_stop P) (hge : ∀ x y, P x y → 27 ≤ gn x) (F : Fx C RL cL_law 4 room_1 K) (hX : va_X b L xs C.2.2.2.2.1 C.2.2.2.2.1.heap) (hbl : b < C.2.2.2.2.1.heap.size) (hbA : ¬ gA K.1 b) (h1 : vp_in (i + 1) L) (h2 : vp_in (i + 2) L) (h3 : vp_in (i + 3) L) (h4 : vp_in (i + 4) L) (h5 : vp_in (i + 5) L) (x : CS) (y : MS) (hP : P x y) (kc ks : Nat) (hkc : kc + 2000 ≤ 600000) (hks : ks + 4000 ≤ 7302250)
    (hk : ∀ (x1 : CS) (y1 : MS) (kc1 ks1 : Nat), P x1 y1 → kc1 ≤ kc + 2000 → ks1 ≤ ks + 4000 → V C 1911 [(0, .ref b), (1, .ref (K.1 + 0)), (2, .ref (K.1 + 61)), (3, .int i)] [] (xf K x1 y1) kc1 ks1) : V C 861 [(0, .ref b), (1, .ref (K.1 + 0)), (2, .ref (K.1 + 61)), (3, .int i)] [] (xf K x y) kc ks := by
  obtain ⟨r, x1, y1, e1, e2, hP1⟩ := S x y (xs (i + 1).toNatClampNeg) (xs (i + 2).toNatClampNeg) (xs (i + 3).toNatClampNeg) (xs (i + 4).toNatClampNeg) hP
  refine v_aload_n F (dq dkL_law_13 13 rfl) rfl 1 rfl ?_
  refine v_aload_n F (dq dkL_law_13 14 rfl) rfl 0 rfl ?_
  refine v_iload_n F (dq dkL_law_13 15 rfl) rfl 3 rfl ?_
  refine v_iconst F (v := 1) (dq dkL_law_13 16 rfl) ki_1 ?_
  refine v_iadd F (dq dkL_law_13 17 rfl) ?_
  refine v_sld F hX hbl hbA h1 (dq dkL_law_13 18 rfl) ?_
  refine v_aload_n F (dq dkL_law_13 19 rfl) rfl 0 rfl ?_
  refine v_iload_n F (dq dkL_law_13 20 rfl) rfl 3 rfl ?_
  refine v_iconst F (v := 2) (dq dkL_law_13 21 rfl) ki_2 ?_
  refine v_iadd F (dq dkL_law_13 22 rfl) ?_
  refine v_sld F hX hbl hbA h2 (dq dkL_law_13 23 rfl) ?_
  refine v_aload_n F (dq dkL_law_13 24 rfl) rfl 0 rfl ?_
  refine v_iload_n F (dq dkL_law_13 25 rfl) rfl 3 rfl ?_
  refine v_iconst F (v := 3) (dq dkL_law_13 26 rfl) ki_3 ?_
  refine v_iadd F (dq dkL_law_13 27 rfl) ?_
  refine v_sld F hX hbl hbA h3 (dq dkL_law_13 28 rfl) ?_
  refine v_aload_n F (dq dkL_law_13 29 rfl) rfl 0 rfl ?_
  refine v_iload_n F (dq dkL_law_13 30 rfl) rfl 3 rfl ?_
  refine v_iconst F (v := 4) (dq dkL_law_13 31 rfl) ki_4 ?_
  refine v_iadd F (dq dkL_law_13 32 rfl) ?_
  refine v_sld F hX hbl hbA h4 (dq dkL_law_13 33 rfl) ?_
  refine v_callV 4 F (q := 0) (kc1 := kc) (ks1 := ks) (as := [.int (xs (i + 1).toNatClampNeg), .int (xs (i + 2).toNatClampNeg), .int (xs (i + 3).toNatClampNeg), .int (xs (i + 4).toNatClampNeg)]) (st := []) (st1 := [.int r]) (res := (some (.int r))) (c_X10_stop (l := C.2.1) x y (xs (i + 1).toNatClampNeg) (xs (i + 2).toNatClampNeg) (xs (i + 3).toNatClampNeg) (xs (i + 4).toNatClampNeg) e1) (xn (by decide)) xc_0 rfl (tc34 _ (List.mem_of_getElem? (i := 5) rfl)) (tc34 _ (List.mem_of_getElem? (i := 6) rfl)) (tc34 _ (List.mem_of_getElem? (i := 7) rfl)) (tc1 _ (List.mem_of_getElem? (i := 2) rfl)) (tc34 _ (List.mem_of_getElem? (i := 8) rfl)) (by decide) rfl ⟨rfl, rfl, Nat.le_of_ble_eq_true rfl, Nat.le_of_ble_eq_true rfl⟩ ⟨by show kc + 0 ≤ 600000; omega, by show ks + 0 ≤ 7302250; omega⟩ rfl (Nat.le_of_ble_eq_true rfl) rfl rfl rfl (dq dkL_law_13 34 rfl) ?_
  refine v_aload_n F (dq dkL_law_13 35 rfl) rfl 2 rfl ?_
  refine v_aload_n F (dq dkL_law_13 36 rfl) rfl 0 rfl ?_
  refine v_iload_n F (dq dkL_law_13 37 rfl) rfl 3 rfl ?_
  refine v_iconst F (v := 1) (dq dkL_law_13 38 rfl) ki_1 ?_
  refine v_iadd F (dq dkL_law_13 39 rfl) ?_
  refine v_sld F hX hbl hbA h1 (dq dkL_law_14 0 rfl) ?_
  refine v_aload_n F (dq dkL_law_14 1 rfl) rfl 0 rfl ?_
  refine v_iload_n F (dq dkL_law_14 2 rfl) rfl 3 rfl ?_
  refine v_iconst F (v := 2) (dq dkL_law_14 3 rfl) ki_2 ?_
  refine v_iadd F (dq dkL_law_14 4 rfl) ?_
  refine v_sld F hX hbl hbA h2 (dq dkL_law_14 5 rfl) ?_
  refine v_aload_n F (dq dkL_law_14 6 rfl) rfl 0 rfl ?_
  refine v_iload_n F (dq dkL_law_14 7 rfl) rfl 3 rfl ?_
  refine v_iconst F (v := 3) (dq dkL_law_14 8 rfl) ki_3 ?_
  refine v_iadd F (dq dkL_law_14 9 rfl) ?_
  refine v_sld F hX hbl hbA h3 (dq dkL_law_14 10 rfl) ?_
  refine v_aload_n F (dq dkL_law_14 11 rfl) rfl 0 rfl ?_
  refine v_iload_n F (dq dkL_law_14 12 rfl) rfl 3 rfl ?_
  refine v_iconst F (v := 4) (dq dkL_law_14 13 rfl) ki_4 ?_
  refine v_iadd F (dq dkL_law_14 14 rfl) ?_
  refine v_sld F hX hbl hbA h4 (dq dkL_law_14 15 rfl) ?_
  obtain ⟨nn, hnn⟩ : ∃ nn, gn x1 = 27 + nn := ⟨gn x1 - 27, by have := hge _ _ hP1; omega⟩
  refine v_eqM (xfM_of hnn) ?_
  refine v_callV 4 F (q := 61) (kc1 := kc) (ks1 := ks) (as := [.int (xs (i + 1).toNatClampNeg), .int (xs (i + 2).toNatClampNeg), .int (xs (i + 3).toNatClampNeg), .int (xs (i + 4).toNatClampNeg)]) (st := [.int r]) (st1 := [.int r, .int r]) (res := (some (.int r))) (c_X11_stop (l := C.2.1) x1 y (xs (i + 1).toNatClampNeg) (xs (i + 2).toNatClampNeg) (xs (i + 3).toNatClampNeg) (xs (i + 4).toNatClampNeg) e2) (xnM (by decide)) xc_61 rfl (tc34 _ (List.mem_of_getElem? (i := 9) rfl)) (tc34 _ (List.mem_of_getElem? (i := 10) rfl)) (tc34 _ (List.mem_of_getElem? (i := 11) rfl)) (tc1 _ (List.mem_of_getElem? (i := 5) rfl)) (tc34 _ (List.mem_of_getElem? (i := 12) rfl)) (by decide) rfl ⟨rfl, rfl, Nat.le_of_ble_eq_true rfl, Nat.le_of_ble_eq_true rfl⟩ ⟨by show kc + 0 ≤ 600000; omega, by show ks + 0 ≤ 7302250; omega⟩ rfl (Nat.le_of_ble_eq_true rfl) rfl rfl rfl (dq dkL_law_14 16 rfl) ?_
  refine v_eqM (xfM_of hnn).symm ?_
  refine v_icmp_eq F (tgt := 1911) (dq dkL_law_14 17 rfl) (by decide) (fun _ => ?_) (fun c => absurd rfl c)
  exact hk x1 y1 (kc) (ks) hP1 (by omega) (by omega)
def sim_wished (P : CS → MS → Prop) : Prop := ∀ (x : CS) (y : MS) (a0 : Int32) (a1 : Int32) (a2 : Int32), P x y → ∃ (r : Int32), f_X10_wished x a0 a1 a2 = some r ∧ f_X11_wished y a0 a1 a2 = some r
set_option maxRecDepth 100000 in
set_option maxHeartbeats 4000000 in
theorem lw_case_19 {C : Cx} {K : KE} {P : CS → MS → Prop} {b L : Nat} {xs : Nat → Int32} {i : Int32} (S : sim_wished P) (hge : ∀ x y, P x y → 27 ≤ gn x) (F : Fx C RL cL_law 4 room_1 K) (hX : va_X b L xs C.2.2.2.2.1 C.2.2.2.2.1.heap) (hbl : b < C.2.2.2.2.1.heap.size) (hbA : ¬ gA K.1 b) (h1 : vp_in (i + 1) L) (h2 : vp_in (i + 2) L) (h3 : vp_in (i + 3) L) (h4 : vp_in (i + 4) L) (h5 : vp_in (i + 5) L) (x : CS) (y : MS) (hP : P x y) (kc ks : Nat) (hkc : kc + 2000 ≤ 600000) (hks : ks + 4000 ≤ 7302250)
    (hk : ∀ (x1 : CS) (y1 : MS) (kc1 ks1 : Nat), P x1 y1 → kc1 ≤ kc + 2000 → ks1 ≤ ks + 4000 → V C 1911 [(0, .ref b), (1, .ref (K.1 + 0)), (2, .ref (K.1 + 61)), (3, .int i)] [] (xf K x1 y1) kc1 ks1) : V C 914 [(0, .ref b), (1, .ref (K.1 + 0)), (2, .ref (K.1 + 61)), (3, .int i)] [] (xf K x y) kc ks := by
  obtain ⟨r, e1, e2⟩ := S x y (xs (i + 1).toNatClampNeg) (xs (i + 2).toNatClampNeg) (xs (i + 3).toNatClampNeg) hP
  have hP1 := hP
  refine v_aload_n F (dq dkL_law_14 20 rfl) rfl 1 rfl ?_
  refine v_aload_n F (dq dkL_law_14 21 rfl) rfl 0 rfl ?_
  refine v_iload_n F (dq dkL_law_14 22 rfl) rfl 3 rfl ?_
  refine v_iconst F (v := 1) (dq dkL_law_14 23 rfl) ki_1 ?_
  refine v_iadd F (dq dkL_law_14 24 rfl) ?_
  refine v_sld F hX hbl hbA h1 (dq dkL_law_14 25 rfl) ?_
  refine v_aload_n F (dq dkL_law_14 26 rfl) rfl 0 rfl ?_
  refine v_iload_n F (dq dkL_law_14 27 rfl) rfl 3 rfl ?_
  refine v_iconst F (v := 2) (dq dkL_law_14 28 rfl) ki_2 ?_
  refine v_iadd F (dq dkL_law_14 29 rfl) ?_
  refine v_sld F hX hbl hbA h2 (dq dkL_law_14 30 rfl) ?_
  refine v_aload_n F (dq dkL_law_14 31 rfl) rfl 0 rfl ?_
  refine v_iload_n F (dq dkL_law_14 32 rfl) rfl 3 rfl ?_
  refine v_iconst F (v := 3) (dq dkL_law_14 33 rfl) ki_3 ?_
  refine v_iadd F (dq dkL_law_14 34 rfl) ?_
  refine v_sld F hX hbl hbA h3 (dq dkL_law_14 35 rfl) ?_
  refine v_callV 3 F (q := 0) (kc1 := kc) (ks1 := ks) (as := [.int (xs (i + 1).toNatClampNeg), .int (xs (i + 2).toNatClampNeg), .int (xs (i + 3).toNatClampNeg)]) (st := []) (st1 := [.int r]) (res := (some (.int r))) (c_X10_wished (l := C.2.1) x y (xs (i + 1).toNatClampNeg) (xs (i + 2).toNatClampNeg) (xs (i + 3).toNatClampNeg) e1) (xn (by decide)) xc_0 rfl (tc34 _ (List.mem_of_getElem? (i := 13) rfl)) (tc34 _ (List.mem_of_getElem? (i := 14) rfl)) (tc34 _ (List.mem_of_getElem? (i := 15) rfl)) (tc1 _ (List.mem_of_getElem? (i := 2) rfl)) (tc34 _ (List.mem_of_getElem? (i := 16) rfl)) (by decide) rfl ⟨rfl, rfl, Nat.le_of_ble_eq_true rfl, Nat.le_of_ble_eq_true rfl⟩ ⟨by show kc + 0 ≤ 600000; omega, by show ks + 0 ≤ 7302250; omega⟩ rfl (Nat.le_of_ble_eq_true rfl) rfl rfl rfl (dq dkL_law_14 36 rfl) ?_
  refine v_aload_n F (dq dkL_law_14 37 rfl) rfl 2 rfl ?_
  refine v_aload_n F (dq dkL_law_14 38 rfl) rfl 0 rfl ?_
  refine v_iload_n F (dq dkL_law_14 39 rfl) rfl 3 rfl ?_
  refine v_iconst F (v := 1) (dq dkL_law_15 0 rfl) ki_1 ?_
  refine v_iadd F (dq dkL_law_15 1 rfl) ?_
  refine v_sld F hX hbl hbA h1 (dq dkL_law_15 2 rfl) ?_
  refine v_aload_n F (dq dkL_law_15 3 rfl) rfl 0 rfl ?_
  refine v_iload_n F (dq dkL_law_15 4 rfl) rfl 3 rfl ?_
  refine v_iconst F (v := 2) (dq dkL_law_15 5 rfl) ki_2 ?_
  refine v_iadd F (dq dkL_law_15 6 rfl) ?_
  refine v_sld F hX hbl hbA h2 (dq dkL_law_15 7 rfl) ?_
  refine v_aload_n F (dq dkL_law_15 8 rfl) rfl 0 rfl ?_
  refine v_iload_n F (dq dkL_law_15 9 rfl) rfl 3 rfl ?_
  refine v_iconst F (v := 3) (dq dkL_law_15 10 rfl) ki_3 ?_
  refine v_iadd F (dq dkL_law_15 11 rfl) ?_
  refine v_sld F hX hbl hbA h3 (dq dkL_law_15 12 rfl) ?_
  obtain ⟨nn, hnn⟩ : ∃ nn, gn x = 27 + nn := ⟨gn x - 27, by have := hge _ _ hP1; omega⟩
  refine v_eqM (xfM_of hnn) ?_
  refine v_callV 3 F (q := 61) (kc1 := kc) (ks1 := ks) (as := [.int (xs (i + 1).toNatClampNeg), .int (xs (i + 2).toNatClampNeg), .int (xs (i + 3).toNatClampNeg)]) (st := [.int r]) (st1 := [.int r, .int r]) (res := (some (.int r))) (c_X11_wished (l := C.2.1) x y (xs (i + 1).toNatClampNeg) (xs (i + 2).toNatClampNeg) (xs (i + 3).toNatClampNeg) e2) (xnM (by decide)) xc_61 rfl (tc35 _ (List.mem_of_getElem? (i := 19) rfl)) (tc35 _ (List.mem_of_getElem? (i := 20) rfl)) (tc35 _ (List.mem_of_getElem? (i := 21) rfl)) (tc1 _ (List.mem_of_getElem? (i := 5) rfl)) (tc35 _ (List.mem_of_getElem? (i := 22) rfl)) (by decide) rfl ⟨rfl, rfl, Nat.le_of_ble_eq_true rfl, Nat.le_of_ble_eq_true rfl⟩ ⟨by show kc + 0 ≤ 600000; omega, by show ks + 0 ≤ 7302250; omega⟩ rfl (Nat.le_of_ble_eq_true rfl) rfl rfl rfl (dq dkL_law_15 13 rfl) ?_
  refine v_eqM (xfM_of hnn).symm ?_
  refine v_icmp_eq F (tgt := 1911) (dq dkL_law_15 14 rfl) (by decide) (fun _ => ?_) (fun c => absurd rfl c)
  exact hk x y (kc) (ks) hP1 (by omega) (by omega)
def sim_old (P : CS → MS → Prop) : Prop := ∀ (x : CS) (y : MS) (a0 : Int32), P x y → ∃ (r : Int32), f_X10_old x a0 = some r ∧ f_X11_old y a0 = some r
set_option maxRecDepth 100000 in
set_option maxHeartbeats 4000000 in
theorem lw_case_20 {C : Cx} {K : KE} {P : CS → MS → Prop} {b L : Nat} {xs : Nat → Int32} {i : Int32} (S : sim_old P) (hge : ∀ x y, P x y → 27 ≤ gn x) (F : Fx C RL cL_law 4 room_1 K) (hX : va_X b L xs C.2.2.2.2.1 C.2.2.2.2.1.heap) (hbl : b < C.2.2.2.2.1.heap.size) (hbA : ¬ gA K.1 b) (h1 : vp_in (i + 1) L) (h2 : vp_in (i + 2) L) (h3 : vp_in (i + 3) L) (h4 : vp_in (i + 4) L) (h5 : vp_in (i + 5) L) (x : CS) (y : MS) (hP : P x y) (kc ks : Nat) (hkc : kc + 2000 ≤ 600000) (hks : ks + 4000 ≤ 7302250)
    (hk : ∀ (x1 : CS) (y1 : MS) (kc1 ks1 : Nat), P x1 y1 → kc1 ≤ kc + 2000 → ks1 ≤ ks + 4000 → V C 1911 [(0, .ref b), (1, .ref (K.1 + 0)), (2, .ref (K.1 + 61)), (3, .int i)] [] (xf K x1 y1) kc1 ks1) : V C 957 [(0, .ref b), (1, .ref (K.1 + 0)), (2, .ref (K.1 + 61)), (3, .int i)] [] (xf K x y) kc ks := by
  obtain ⟨r, e1, e2⟩ := S x y (xs (i + 1).toNatClampNeg) hP
  have hP1 := hP
  refine v_aload_n F (dq dkL_law_15 17 rfl) rfl 1 rfl ?_
  refine v_aload_n F (dq dkL_law_15 18 rfl) rfl 0 rfl ?_
  refine v_iload_n F (dq dkL_law_15 19 rfl) rfl 3 rfl ?_
  refine v_iconst F (v := 1) (dq dkL_law_15 20 rfl) ki_1 ?_
  refine v_iadd F (dq dkL_law_15 21 rfl) ?_
  refine v_sld F hX hbl hbA h1 (dq dkL_law_15 22 rfl) ?_
  refine v_callV 1 F (q := 0) (kc1 := kc) (ks1 := ks) (as := [.int (xs (i + 1).toNatClampNeg)]) (st := []) (st1 := [.int r]) (res := (some (.int r))) (c_X10_old (l := C.2.1) x y (xs (i + 1).toNatClampNeg) e1) (xn (by decide)) xc_0 rfl (tc36 _ (List.mem_of_getElem? (i := 7) rfl)) (tc36 _ (List.mem_of_getElem? (i := 8) rfl)) (tc36 _ (List.mem_of_getElem? (i := 9) rfl)) (tc1 _ (List.mem_of_getElem? (i := 2) rfl)) (tc36 _ (List.mem_of_getElem? (i := 10) rfl)) (by decide) rfl ⟨rfl, rfl, Nat.le_of_ble_eq_true rfl, Nat.le_of_ble_eq_true rfl⟩ ⟨by show kc + 0 ≤ 600000; omega, by show ks + 0 ≤ 7302250; omega⟩ rfl (Nat.le_of_ble_eq_true rfl) rfl rfl rfl (dq dkL_law_15 23 rfl) ?_
  refine v_aload_n F (dq dkL_law_15 24 rfl) rfl 2 rfl ?_
  refine v_aload_n F (dq dkL_law_15 25 rfl) rfl 0 rfl ?_
  refine v_iload_n F (dq dkL_law_15 26 rfl) rfl 3 rfl ?_
  refine v_iconst F (v := 1) (dq dkL_law_15 27 rfl) ki_1 ?_
  refine v_iadd F (dq dkL_law_15 28 rfl) ?_
  refine v_sld F hX hbl hbA h1 (dq dkL_law_15 29 rfl) ?_
  obtain ⟨nn, hnn⟩ : ∃ nn, gn x = 27 + nn := ⟨gn x - 27, by have := hge _ _ hP1; omega⟩
  refine v_eqM (xfM_of hnn) ?_
  refine v_callV 1 F (q := 61) (kc1 := kc) (ks1 := ks) (as := [.int (xs (i + 1).toNatClampNeg)]) (st := [.int r]) (st1 := [.int r, .int r]) (res := (some (.int r))) (c_X11_old (l := C.2.1) x y (xs (i + 1).toNatClampNeg) e2) (xnM (by decide)) xc_61 rfl (tc36 _ (List.mem_of_getElem? (i := 17) rfl)) (tc36 _ (List.mem_of_getElem? (i := 18) rfl)) (tc36 _ (List.mem_of_getElem? (i := 19) rfl)) (tc1 _ (List.mem_of_getElem? (i := 5) rfl)) (tc36 _ (List.mem_of_getElem? (i := 20) rfl)) (by decide) rfl ⟨rfl, rfl, Nat.le_of_ble_eq_true rfl, Nat.le_of_ble_eq_true rfl⟩ ⟨by show kc + 0 ≤ 600000; omega, by show ks + 0 ≤ 7302250; omega⟩ rfl (Nat.le_of_ble_eq_true rfl) rfl rfl rfl (dq dkL_law_15 30 rfl) ?_
  refine v_eqM (xfM_of hnn).symm ?_
  refine v_icmp_eq F (tgt := 1911) (dq dkL_law_15 31 rfl) (by decide) (fun _ => ?_) (fun c => absurd rfl c)
  exact hk x y (kc) (ks) hP1 (by omega) (by omega)
def sim_copyOf (P : CS → MS → Prop) : Prop := ∀ (x : CS) (y : MS) (a0 : Int32) (a1 : Int32), P x y → ∃ (r : Int32) (x1 : CS) (y1 : MS), f_X10_copyOf x a0 a1 = some (r, x1) ∧ f_X11_copyOf y a0 a1 = some (r, y1) ∧ P x1 y1
set_option maxRecDepth 100000 in
set_option maxHeartbeats 4000000 in
theorem lw_case_21 {C : Cx} {K : KE} {P : CS → MS → Prop} {b L : Nat} {xs : Nat → Int32} {i : Int32} (S : sim_copyOf P) (hge : ∀ x y, P x y → 27 ≤ gn x) (F : Fx C RL cL_law 4 room_1 K) (hX : va_X b L xs C.2.2.2.2.1 C.2.2.2.2.1.heap) (hbl : b < C.2.2.2.2.1.heap.size) (hbA : ¬ gA K.1 b) (h1 : vp_in (i + 1) L) (h2 : vp_in (i + 2) L) (h3 : vp_in (i + 3) L) (h4 : vp_in (i + 4) L) (h5 : vp_in (i + 5) L) (x : CS) (y : MS) (hP : P x y) (kc ks : Nat) (hkc : kc + 2000 ≤ 600000) (hks : ks + 4000 ≤ 7302250)
    (hk : ∀ (x1 : CS) (y1 : MS) (kc1 ks1 : Nat), P x1 y1 → kc1 ≤ kc + 2000 → ks1 ≤ ks + 4000 → V C 1911 [(0, .ref b), (1, .ref (K.1 + 0)), (2, .ref (K.1 + 61)), (3, .int i)] [] (xf K x1 y1) kc1 ks1) : V C 980 [(0, .ref b), (1, .ref (K.1 + 0)), (2, .ref (K.1 + 61)), (3, .int i)] [] (xf K x y) kc ks := by
  obtain ⟨r, x1, y1, e1, e2, hP1⟩ := S x y (xs (i + 1).toNatClampNeg) (xs (i + 2).toNatClampNeg) hP
  refine v_aload_n F (dq dkL_law_15 34 rfl) rfl 1 rfl ?_
  refine v_aload_n F (dq dkL_law_15 35 rfl) rfl 0 rfl ?_
  refine v_iload_n F (dq dkL_law_15 36 rfl) rfl 3 rfl ?_
  refine v_iconst F (v := 1) (dq dkL_law_15 37 rfl) ki_1 ?_
  refine v_iadd F (dq dkL_law_15 38 rfl) ?_
  refine v_sld F hX hbl hbA h1 (dq dkL_law_15 39 rfl) ?_
  refine v_aload_n F (dq dkL_law_16 0 rfl) rfl 0 rfl ?_
  refine v_iload_n F (dq dkL_law_16 1 rfl) rfl 3 rfl ?_
  refine v_iconst F (v := 2) (dq dkL_law_16 2 rfl) ki_2 ?_
  refine v_iadd F (dq dkL_law_16 3 rfl) ?_
  refine v_sld F hX hbl hbA h2 (dq dkL_law_16 4 rfl) ?_
  refine v_callV 2 F (q := 0) (kc1 := kc) (ks1 := ks) (as := [.int (xs (i + 1).toNatClampNeg), .int (xs (i + 2).toNatClampNeg)]) (st := []) (st1 := [.int r]) (res := (some (.int r))) (c_X10_copyOf (l := C.2.1) x y (xs (i + 1).toNatClampNeg) (xs (i + 2).toNatClampNeg) e1) (xn (by decide)) xc_0 rfl (tc37 _ (List.mem_of_getElem? (i := 1) rfl)) (tc37 _ (List.mem_of_getElem? (i := 2) rfl)) (tc37 _ (List.mem_of_getElem? (i := 3) rfl)) (tc1 _ (List.mem_of_getElem? (i := 2) rfl)) (tc37 _ (List.mem_of_getElem? (i := 4) rfl)) (by decide) rfl ⟨rfl, rfl, Nat.le_of_ble_eq_true rfl, Nat.le_of_ble_eq_true rfl⟩ ⟨by show kc + 0 ≤ 600000; omega, by show ks + 0 ≤ 7302250; omega⟩ rfl (Nat.le_of_ble_eq_true rfl) rfl rfl rfl (dq dkL_law_16 5 rfl) ?_
  refine v_aload_n F (dq dkL_law_16 6 rfl) rfl 2 rfl ?_
  refine v_aload_n F (dq dkL_law_16 7 rfl) rfl 0 rfl ?_
  refine v_iload_n F (dq dkL_law_16 8 rfl) rfl 3 rfl ?_
  refine v_iconst F (v := 1) (dq dkL_law_16 9 rfl) ki_1 ?_
  refine v_iadd F (dq dkL_law_16 10 rfl) ?_
  refine v_sld F hX hbl hbA h1 (dq dkL_law_16 11 rfl) ?_
  refine v_aload_n F (dq dkL_law_16 12 rfl) rfl 0 rfl ?_
  refine v_iload_n F (dq dkL_law_16 13 rfl) rfl 3 rfl ?_
  refine v_iconst F (v := 2) (dq dkL_law_16 14 rfl) ki_2 ?_
  refine v_iadd F (dq dkL_law_16 15 rfl) ?_
  refine v_sld F hX hbl hbA h2 (dq dkL_law_16 16 rfl) ?_
  obtain ⟨nn, hnn⟩ : ∃ nn, gn x1 = 27 + nn := ⟨gn x1 - 27, by have := hge _ _ hP1; omega⟩
  refine v_eqM (xfM_of hnn) ?_
  refine v_callV 2 F (q := 61) (kc1 := kc) (ks1 := ks) (as := [.int (xs (i + 1).toNatClampNeg), .int (xs (i + 2).toNatClampNeg)]) (st := [.int r]) (st1 := [.int r, .int r]) (res := (some (.int r))) (c_X11_copyOf (l := C.2.1) x1 y (xs (i + 1).toNatClampNeg) (xs (i + 2).toNatClampNeg) e2) (xnM (by decide)) xc_61 rfl (tc37 _ (List.mem_of_getElem? (i := 5) rfl)) (tc37 _ (List.mem_of_getElem? (i := 6) rfl)) (tc37 _ (List.mem_of_getElem? (i := 7) rfl)) (tc1 _ (List.mem_of_getElem? (i := 5) rfl)) (tc37 _ (List.mem_of_getElem? (i := 8) rfl)) (by decide) rfl ⟨rfl, rfl, Nat.le_of_ble_eq_true rfl, Nat.le_of_ble_eq_true rfl⟩ ⟨by show kc + 0 ≤ 600000; omega, by show ks + 0 ≤ 7302250; omega⟩ rfl (Nat.le_of_ble_eq_true rfl) rfl rfl rfl (dq dkL_law_16 17 rfl) ?_
  refine v_eqM (xfM_of hnn).symm ?_
  refine v_icmp_eq F (tgt := 1911) (dq dkL_law_16 18 rfl) (by decide) (fun _ => ?_) (fun c => absurd rfl c)
  exact hk x1 y1 (kc) (ks) hP1 (by omega) (by omega)
def sim_even (P : CS → MS → Prop) : Prop := ∀ (x : CS) (y : MS) (a0 : Int32) (a1 : Int32), P x y → ∃ (r : Int32) (x1 : CS) (y1 : MS), f_X10_even x a0 a1 = some (r, x1) ∧ f_X11_even y a0 a1 = some (r, y1) ∧ P x1 y1
set_option maxRecDepth 100000 in
set_option maxHeartbeats 4000000 in
theorem lw_case_22 {C : Cx} {K : KE} {P : CS → MS → Prop} {b L : Nat} {xs : Nat → Int32} {i : Int32} (S : sim_even P) (hge : ∀ x y, P x y → 27 ≤ gn x) (F : Fx C RL cL_law 4 room_1 K) (hX : va_X b L xs C.2.2.2.2.1 C.2.2.2.2.1.heap) (hbl : b < C.2.2.2.2.1.heap.size) (hbA : ¬ gA K.1 b) (h1 : vp_in (i + 1) L) (h2 : vp_in (i + 2) L) (h3 : vp_in (i + 3) L) (h4 : vp_in (i + 4) L) (h5 : vp_in (i + 5) L) (x : CS) (y : MS) (hP : P x y) (kc ks : Nat) (hkc : kc + 2000 ≤ 600000) (hks : ks + 4000 ≤ 7302250)
    (hk : ∀ (x1 : CS) (y1 : MS) (kc1 ks1 : Nat), P x1 y1 → kc1 ≤ kc + 2000 → ks1 ≤ ks + 4000 → V C 1911 [(0, .ref b), (1, .ref (K.1 + 0)), (2, .ref (K.1 + 61)), (3, .int i)] [] (xf K x1 y1) kc1 ks1) : V C 1013 [(0, .ref b), (1, .ref (K.1 + 0)), (2, .ref (K.1 + 61)), (3, .int i)] [] (xf K x y) kc ks := by
  obtain ⟨r, x1, y1, e1, e2, hP1⟩ := S x y (xs (i + 1).toNatClampNeg) (xs (i + 2).toNatClampNeg) hP
  refine v_aload_n F (dq dkL_law_16 21 rfl) rfl 1 rfl ?_
  refine v_aload_n F (dq dkL_law_16 22 rfl) rfl 0 rfl ?_
  refine v_iload_n F (dq dkL_law_16 23 rfl) rfl 3 rfl ?_
  refine v_iconst F (v := 1) (dq dkL_law_16 24 rfl) ki_1 ?_
  refine v_iadd F (dq dkL_law_16 25 rfl) ?_
  refine v_sld F hX hbl hbA h1 (dq dkL_law_16 26 rfl) ?_
  refine v_aload_n F (dq dkL_law_16 27 rfl) rfl 0 rfl ?_
  refine v_iload_n F (dq dkL_law_16 28 rfl) rfl 3 rfl ?_
  refine v_iconst F (v := 2) (dq dkL_law_16 29 rfl) ki_2 ?_
  refine v_iadd F (dq dkL_law_16 30 rfl) ?_
  refine v_sld F hX hbl hbA h2 (dq dkL_law_16 31 rfl) ?_
  refine v_callV 2 F (q := 0) (kc1 := kc) (ks1 := ks) (as := [.int (xs (i + 1).toNatClampNeg), .int (xs (i + 2).toNatClampNeg)]) (st := []) (st1 := [.int r]) (res := (some (.int r))) (c_X10_even (l := C.2.1) x y (xs (i + 1).toNatClampNeg) (xs (i + 2).toNatClampNeg) e1) (xn (by decide)) xc_0 rfl (tc37 _ (List.mem_of_getElem? (i := 9) rfl)) (tc37 _ (List.mem_of_getElem? (i := 10) rfl)) (tc37 _ (List.mem_of_getElem? (i := 11) rfl)) (tc1 _ (List.mem_of_getElem? (i := 2) rfl)) (tc37 _ (List.mem_of_getElem? (i := 12) rfl)) (by decide) rfl ⟨rfl, rfl, Nat.le_of_ble_eq_true rfl, Nat.le_of_ble_eq_true rfl⟩ ⟨by show kc + 0 ≤ 600000; omega, by show ks + 0 ≤ 7302250; omega⟩ rfl (Nat.le_of_ble_eq_true rfl) rfl rfl rfl (dq dkL_law_16 32 rfl) ?_
  refine v_aload_n F (dq dkL_law_16 33 rfl) rfl 2 rfl ?_
  refine v_aload_n F (dq dkL_law_16 34 rfl) rfl 0 rfl ?_
  refine v_iload_n F (dq dkL_law_16 35 rfl) rfl 3 rfl ?_
  refine v_iconst F (v := 1) (dq dkL_law_16 36 rfl) ki_1 ?_
  refine v_iadd F (dq dkL_law_16 37 rfl) ?_
  refine v_sld F hX hbl hbA h1 (dq dkL_law_16 38 rfl) ?_
  refine v_aload_n F (dq dkL_law_16 39 rfl) rfl 0 rfl ?_
  refine v_iload_n F (dq dkL_law_17 0 rfl) rfl 3 rfl ?_
  refine v_iconst F (v := 2) (dq dkL_law_17 1 rfl) ki_2 ?_
  refine v_iadd F (dq dkL_law_17 2 rfl) ?_
  refine v_sld F hX hbl hbA h2 (dq dkL_law_17 3 rfl) ?_
  obtain ⟨nn, hnn⟩ : ∃ nn, gn x1 = 27 + nn := ⟨gn x1 - 27, by have := hge _ _ hP1; omega⟩
  refine v_eqM (xfM_of hnn) ?_
  refine v_callV 2 F (q := 61) (kc1 := kc) (ks1 := ks) (as := [.int (xs (i + 1).toNatClampNeg), .int (xs (i + 2).toNatClampNeg)]) (st := [.int r]) (st1 := [.int r, .int r]) (res := (some (.int r))) (c_X11_even (l := C.2.1) x1 y (xs (i + 1).toNatClampNeg) (xs (i + 2).toNatClampNeg) e2) (xnM (by decide)) xc_61 rfl (tc37 _ (List.mem_of_getElem? (i := 13) rfl)) (tc37 _ (List.mem_of_getElem? (i := 14) rfl)) (tc37 _ (List.mem_of_getElem? (i := 15) rfl)) (tc1 _ (List.mem_of_getElem? (i := 5) rfl)) (tc37 _ (List.mem_of_getElem? (i := 16) rfl)) (by decide) rfl ⟨rfl, rfl, Nat.le_of_ble_eq_true rfl, Nat.le_of_ble_eq_true rfl⟩ ⟨by show kc + 0 ≤ 600000; omega, by show ks + 0 ≤ 7302250; omega⟩ rfl (Nat.le_of_ble_eq_true rfl) rfl rfl rfl (dq dkL_law_17 4 rfl) ?_
  refine v_eqM (xfM_of hnn).symm ?_
  refine v_icmp_eq F (tgt := 1911) (dq dkL_law_17 5 rfl) (by decide) (fun _ => ?_) (fun c => absurd rfl c)
  exact hk x1 y1 (kc) (ks) hP1 (by omega) (by omega)
def sim_hours (P : CS → MS → Prop) : Prop := ∀ (x : CS) (y : MS) (a0 : Int32) (a1 : Int32), P x y → ∃ (r : Int32) (x1 : CS) (y1 : MS), f_X10_hours x a0 a1 = some (r, x1) ∧ f_X11_hours y a0 a1 = some (r, y1) ∧ P x1 y1
set_option maxRecDepth 100000 in
set_option maxHeartbeats 4000000 in
theorem lw_case_23 {C : Cx} {K : KE} {P : CS → MS → Prop} {b L : Nat} {xs : Nat → Int32} {i : Int32} (S : sim_hours P) (hge : ∀ x y, P x y → 27 ≤ gn x) (F : Fx C RL cL_law 4 room_1 K) (hX : va_X b L xs C.2.2.2.2.1 C.2.2.2.2.1.heap) (hbl : b < C.2.2.2.2.1.heap.size) (hbA : ¬ gA K.1 b) (h1 : vp_in (i + 1) L) (h2 : vp_in (i + 2) L) (h3 : vp_in (i + 3) L) (h4 : vp_in (i + 4) L) (h5 : vp_in (i + 5) L) (x : CS) (y : MS) (hP : P x y) (kc ks : Nat) (hkc : kc + 2000 ≤ 600000) (hks : ks + 4000 ≤ 7302250)
    (hk : ∀ (x1 : CS) (y1 : MS) (kc1 ks1 : Nat), P x1 y1 → kc1 ≤ kc + 2000 → ks1 ≤ ks + 4000 → V C 1911 [(0, .ref b), (1, .ref (K.1 + 0)), (2, .ref (K.1 + 61)), (3, .int i)] [] (xf K x1 y1) kc1 ks1) : V C 1046 [(0, .ref b), (1, .ref (K.1 + 0)), (2, .ref (K.1 + 61)), (3, .int i)] [] (xf K x y) kc ks := by
  obtain ⟨r, x1, y1, e1, e2, hP1⟩ := S x y (xs (i + 1).toNatClampNeg) (xs (i + 2).toNatClampNeg) hP
  refine v_aload_n F (dq dkL_law_17 8 rfl) rfl 1 rfl ?_
  refine v_aload_n F (dq dkL_law_17 9 rfl) rfl 0 rfl ?_
  refine v_iload_n F (dq dkL_law_17 10 rfl) rfl 3 rfl ?_
  refine v_iconst F (v := 1) (dq dkL_law_17 11 rfl) ki_1 ?_
  refine v_iadd F (dq dkL_law_17 12 rfl) ?_
  refine v_sld F hX hbl hbA h1 (dq dkL_law_17 13 rfl) ?_
  refine v_aload_n F (dq dkL_law_17 14 rfl) rfl 0 rfl ?_
  refine v_iload_n F (dq dkL_law_17 15 rfl) rfl 3 rfl ?_
  refine v_iconst F (v := 2) (dq dkL_law_17 16 rfl) ki_2 ?_
  refine v_iadd F (dq dkL_law_17 17 rfl) ?_
  refine v_sld F hX hbl hbA h2 (dq dkL_law_17 18 rfl) ?_
  refine v_callV 2 F (q := 0) (kc1 := kc) (ks1 := ks) (as := [.int (xs (i + 1).toNatClampNeg), .int (xs (i + 2).toNatClampNeg)]) (st := []) (st1 := [.int r]) (res := (some (.int r))) (c_X10_hours (l := C.2.1) x y (xs (i + 1).toNatClampNeg) (xs (i + 2).toNatClampNeg) e1) (xn (by decide)) xc_0 rfl (tc37 _ (List.mem_of_getElem? (i := 17) rfl)) (tc37 _ (List.mem_of_getElem? (i := 18) rfl)) (tc37 _ (List.mem_of_getElem? (i := 19) rfl)) (tc1 _ (List.mem_of_getElem? (i := 2) rfl)) (tc37 _ (List.mem_of_getElem? (i := 20) rfl)) (by decide) rfl ⟨rfl, rfl, Nat.le_of_ble_eq_true rfl, Nat.le_of_ble_eq_true rfl⟩ ⟨by show kc + 0 ≤ 600000; omega, by show ks + 0 ≤ 7302250; omega⟩ rfl (Nat.le_of_ble_eq_true rfl) rfl rfl rfl (dq dkL_law_17 19 rfl) ?_
  refine v_aload_n F (dq dkL_law_17 20 rfl) rfl 2 rfl ?_
  refine v_aload_n F (dq dkL_law_17 21 rfl) rfl 0 rfl ?_
  refine v_iload_n F (dq dkL_law_17 22 rfl) rfl 3 rfl ?_
  refine v_iconst F (v := 1) (dq dkL_law_17 23 rfl) ki_1 ?_
  refine v_iadd F (dq dkL_law_17 24 rfl) ?_
  refine v_sld F hX hbl hbA h1 (dq dkL_law_17 25 rfl) ?_
  refine v_aload_n F (dq dkL_law_17 26 rfl) rfl 0 rfl ?_
  refine v_iload_n F (dq dkL_law_17 27 rfl) rfl 3 rfl ?_
  refine v_iconst F (v := 2) (dq dkL_law_17 28 rfl) ki_2 ?_
  refine v_iadd F (dq dkL_law_17 29 rfl) ?_
  refine v_sld F hX hbl hbA h2 (dq dkL_law_17 30 rfl) ?_
  obtain ⟨nn, hnn⟩ : ∃ nn, gn x1 = 27 + nn := ⟨gn x1 - 27, by have := hge _ _ hP1; omega⟩
  refine v_eqM (xfM_of hnn) ?_
  refine v_callV 2 F (q := 61) (kc1 := kc) (ks1 := ks) (as := [.int (xs (i + 1).toNatClampNeg), .int (xs (i + 2).toNatClampNeg)]) (st := [.int r]) (st1 := [.int r, .int r]) (res := (some (.int r))) (c_X11_hours (l := C.2.1) x1 y (xs (i + 1).toNatClampNeg) (xs (i + 2).toNatClampNeg) e2) (xnM (by decide)) xc_61 rfl (tc37 _ (List.mem_of_getElem? (i := 22) rfl)) (tc37 _ (List.mem_of_getElem? (i := 23) rfl)) (tc38 _ (List.mem_of_getElem? (i := 0) rfl)) (tc1 _ (List.mem_of_getElem? (i := 5) rfl)) (tc38 _ (List.mem_of_getElem? (i := 1) rfl)) (by decide) rfl ⟨rfl, rfl, Nat.le_of_ble_eq_true rfl, Nat.le_of_ble_eq_true rfl⟩ ⟨by show kc + 0 ≤ 600000; omega, by show ks + 0 ≤ 7302250; omega⟩ rfl (Nat.le_of_ble_eq_true rfl) rfl rfl rfl (dq dkL_law_17 31 rfl) ?_
  refine v_eqM (xfM_of hnn).symm ?_
  refine v_icmp_eq F (tgt := 1911) (dq dkL_law_17 32 rfl) (by decide) (fun _ => ?_) (fun c => absurd rfl c)
  exact hk x1 y1 (kc) (ks) hP1 (by omega) (by omega)
def sim_left (P : CS → MS → Prop) : Prop := ∀ (x : CS) (y : MS) (a0 : Int32) (a1 : Int32) (a2 : Int32), P x y → ∃ (r : Int64) (x1 : CS) (y1 : MS), f_X10_left x a0 a1 a2 = some (r, x1) ∧ f_X11_left y a0 a1 a2 = some (r, y1) ∧ P x1 y1
set_option maxRecDepth 100000 in
set_option maxHeartbeats 4000000 in
theorem lw_case_24 {C : Cx} {K : KE} {P : CS → MS → Prop} {b L : Nat} {xs : Nat → Int32} {i : Int32} (S : sim_left P) (hge : ∀ x y, P x y → 27 ≤ gn x) (F : Fx C RL cL_law 4 room_1 K) (hX : va_X b L xs C.2.2.2.2.1 C.2.2.2.2.1.heap) (hbl : b < C.2.2.2.2.1.heap.size) (hbA : ¬ gA K.1 b) (h1 : vp_in (i + 1) L) (h2 : vp_in (i + 2) L) (h3 : vp_in (i + 3) L) (h4 : vp_in (i + 4) L) (h5 : vp_in (i + 5) L) (x : CS) (y : MS) (hP : P x y) (kc ks : Nat) (hkc : kc + 2000 ≤ 600000) (hks : ks + 4000 ≤ 7302250)
    (hk : ∀ (x1 : CS) (y1 : MS) (kc1 ks1 : Nat), P x1 y1 → kc1 ≤ kc + 2000 → ks1 ≤ ks + 4000 → V C 1911 [(0, .ref b), (1, .ref (K.1 + 0)), (2, .ref (K.1 + 61)), (3, .int i)] [] (xf K x1 y1) kc1 ks1) : V C 1079 [(0, .ref b), (1, .ref (K.1 + 0)), (2, .ref (K.1 + 61)), (3, .int i)] [] (xf K x y) kc ks := by
  obtain ⟨r, x1, y1, e1, e2, hP1⟩ := S x y (xs (i + 1).toNatClampNeg) (xs (i + 2).toNatClampNeg) (xs (i + 3).toNatClampNeg) hP
  refine v_aload_n F (dq dkL_law_17 35 rfl) rfl 1 rfl ?_
  refine v_aload_n F (dq dkL_law_17 36 rfl) rfl 0 rfl ?_
  refine v_iload_n F (dq dkL_law_17 37 rfl) rfl 3 rfl ?_
  refine v_iconst F (v := 1) (dq dkL_law_17 38 rfl) ki_1 ?_
  refine v_iadd F (dq dkL_law_17 39 rfl) ?_
  refine v_sld F hX hbl hbA h1 (dq dkL_law_18 0 rfl) ?_
  refine v_aload_n F (dq dkL_law_18 1 rfl) rfl 0 rfl ?_
  refine v_iload_n F (dq dkL_law_18 2 rfl) rfl 3 rfl ?_
  refine v_iconst F (v := 2) (dq dkL_law_18 3 rfl) ki_2 ?_
  refine v_iadd F (dq dkL_law_18 4 rfl) ?_
  refine v_sld F hX hbl hbA h2 (dq dkL_law_18 5 rfl) ?_
  refine v_aload_n F (dq dkL_law_18 6 rfl) rfl 0 rfl ?_
  refine v_iload_n F (dq dkL_law_18 7 rfl) rfl 3 rfl ?_
  refine v_iconst F (v := 3) (dq dkL_law_18 8 rfl) ki_3 ?_
  refine v_iadd F (dq dkL_law_18 9 rfl) ?_
  refine v_sld F hX hbl hbA h3 (dq dkL_law_18 10 rfl) ?_
  refine v_callV 3 F (q := 0) (kc1 := kc + 12) (ks1 := ks + 24) (as := [.int (xs (i + 1).toNatClampNeg), .int (xs (i + 2).toNatClampNeg), .int (xs (i + 3).toNatClampNeg)]) (st := []) (st1 := [.long r]) (res := (some (.long r))) (c_X10_left (l := C.2.1) x y (xs (i + 1).toNatClampNeg) (xs (i + 2).toNatClampNeg) (xs (i + 3).toNatClampNeg) e1) (xn (by decide)) xc_0 rfl (tc38 _ (List.mem_of_getElem? (i := 6) rfl)) (tc38 _ (List.mem_of_getElem? (i := 7) rfl)) (tc38 _ (List.mem_of_getElem? (i := 8) rfl)) (tc1 _ (List.mem_of_getElem? (i := 2) rfl)) (tc38 _ (List.mem_of_getElem? (i := 9) rfl)) (by decide) rfl ⟨rfl, rfl, Nat.le_of_ble_eq_true rfl, Nat.le_of_ble_eq_true rfl⟩ ⟨by show kc + 12 ≤ 600000; omega, by show ks + 24 ≤ 7302250; omega⟩ rfl (Nat.le_of_ble_eq_true rfl) rfl rfl rfl (dq dkL_law_18 11 rfl) ?_
  refine v_aload_n F (dq dkL_law_18 12 rfl) rfl 2 rfl ?_
  refine v_aload_n F (dq dkL_law_18 13 rfl) rfl 0 rfl ?_
  refine v_iload_n F (dq dkL_law_18 14 rfl) rfl 3 rfl ?_
  refine v_iconst F (v := 1) (dq dkL_law_18 15 rfl) ki_1 ?_
  refine v_iadd F (dq dkL_law_18 16 rfl) ?_
  refine v_sld F hX hbl hbA h1 (dq dkL_law_18 17 rfl) ?_
  refine v_aload_n F (dq dkL_law_18 18 rfl) rfl 0 rfl ?_
  refine v_iload_n F (dq dkL_law_18 19 rfl) rfl 3 rfl ?_
  refine v_iconst F (v := 2) (dq dkL_law_18 20 rfl) ki_2 ?_
  refine v_iadd F (dq dkL_law_18 21 rfl) ?_
  refine v_sld F hX hbl hbA h2 (dq dkL_law_18 22 rfl) ?_
  refine v_aload_n F (dq dkL_law_18 23 rfl) rfl 0 rfl ?_
  refine v_iload_n F (dq dkL_law_18 24 rfl) rfl 3 rfl ?_
  refine v_iconst F (v := 3) (dq dkL_law_18 25 rfl) ki_3 ?_
  refine v_iadd F (dq dkL_law_18 26 rfl) ?_
  refine v_sld F hX hbl hbA h3 (dq dkL_law_18 27 rfl) ?_
  obtain ⟨nn, hnn⟩ : ∃ nn, gn x1 = 27 + nn := ⟨gn x1 - 27, by have := hge _ _ hP1; omega⟩
  refine v_eqM (xfM_of hnn) ?_
  refine v_callV 3 F (q := 61) (kc1 := kc + 12) (ks1 := ks + 24) (as := [.int (xs (i + 1).toNatClampNeg), .int (xs (i + 2).toNatClampNeg), .int (xs (i + 3).toNatClampNeg)]) (st := [.long r]) (st1 := [.long r, .long r]) (res := (some (.long r))) (c_X11_left (l := C.2.1) x1 y (xs (i + 1).toNatClampNeg) (xs (i + 2).toNatClampNeg) (xs (i + 3).toNatClampNeg) e2) (xnM (by decide)) xc_61 rfl (tc38 _ (List.mem_of_getElem? (i := 16) rfl)) (tc38 _ (List.mem_of_getElem? (i := 17) rfl)) (tc38 _ (List.mem_of_getElem? (i := 18) rfl)) (tc1 _ (List.mem_of_getElem? (i := 5) rfl)) (tc38 _ (List.mem_of_getElem? (i := 19) rfl)) (by decide) rfl ⟨rfl, rfl, Nat.le_of_ble_eq_true rfl, Nat.le_of_ble_eq_true rfl⟩ ⟨by show kc + 12 + 0 ≤ 600000; omega, by show ks + 24 + 0 ≤ 7302250; omega⟩ rfl (Nat.le_of_ble_eq_true rfl) rfl rfl rfl (dq dkL_law_18 28 rfl) ?_
  refine v_eqM (xfM_of hnn).symm ?_
  refine v_lcmp F (dq dkL_law_18 29 rfl) ?_
  refine v_if_eq F (tgt := 1911) (dq dkL_law_18 30 rfl) (by decide) (fun _ => ?_) (fun c => absurd (lgc_0 r) c)
  exact hk x1 y1 (kc + 12) (ks + 24) hP1 (by omega) (by omega)
def sim_judge (P : CS → MS → Prop) : Prop := ∀ (x : CS) (y : MS) (a0 : Int32) (a1 : Int32), P x y → ∃ (r : Int32) (x1 : CS) (y1 : MS), f_X10_judge x a0 a1 = some (r, x1) ∧ f_X11_judge y a0 a1 = some (r, y1) ∧ P x1 y1
set_option maxRecDepth 100000 in
set_option maxHeartbeats 4000000 in
theorem lw_case_25 {C : Cx} {K : KE} {P : CS → MS → Prop} {b L : Nat} {xs : Nat → Int32} {i : Int32} (S : sim_judge P) (hge : ∀ x y, P x y → 27 ≤ gn x) (F : Fx C RL cL_law 4 room_1 K) (hX : va_X b L xs C.2.2.2.2.1 C.2.2.2.2.1.heap) (hbl : b < C.2.2.2.2.1.heap.size) (hbA : ¬ gA K.1 b) (h1 : vp_in (i + 1) L) (h2 : vp_in (i + 2) L) (h3 : vp_in (i + 3) L) (h4 : vp_in (i + 4) L) (h5 : vp_in (i + 5) L) (x : CS) (y : MS) (hP : P x y) (kc ks : Nat) (hkc : kc + 2000 ≤ 600000) (hks : ks + 4000 ≤ 7302250)
    (hk : ∀ (x1 : CS) (y1 : MS) (kc1 ks1 : Nat), P x1 y1 → kc1 ≤ kc + 2000 → ks1 ≤ ks + 4000 → V C 1911 [(0, .ref b), (1, .ref (K.1 + 0)), (2, .ref (K.1 + 61)), (3, .int i)] [] (xf K x1 y1) kc1 ks1) : V C 1123 [(0, .ref b), (1, .ref (K.1 + 0)), (2, .ref (K.1 + 61)), (3, .int i)] [] (xf K x y) kc ks := by
  obtain ⟨r, x1, y1, e1, e2, hP1⟩ := S x y (xs (i + 1).toNatClampNeg) (xs (i + 2).toNatClampNeg) hP
  refine v_aload_n F (dq dkL_law_18 33 rfl) rfl 1 rfl ?_
  refine v_aload_n F (dq dkL_law_18 34 rfl) rfl 0 rfl ?_
  refine v_iload_n F (dq dkL_law_18 35 rfl) rfl 3 rfl ?_
  refine v_iconst F (v := 1) (dq dkL_law_18 36 rfl) ki_1 ?_
  refine v_iadd F (dq dkL_law_18 37 rfl) ?_
  refine v_sld F hX hbl hbA h1 (dq dkL_law_18 38 rfl) ?_
  refine v_aload_n F (dq dkL_law_18 39 rfl) rfl 0 rfl ?_
  refine v_iload_n F (dq dkL_law_19 0 rfl) rfl 3 rfl ?_
  refine v_iconst F (v := 2) (dq dkL_law_19 1 rfl) ki_2 ?_
  refine v_iadd F (dq dkL_law_19 2 rfl) ?_
  refine v_sld F hX hbl hbA h2 (dq dkL_law_19 3 rfl) ?_
  refine v_callV 2 F (q := 0) (kc1 := kc) (ks1 := ks) (as := [.int (xs (i + 1).toNatClampNeg), .int (xs (i + 2).toNatClampNeg)]) (st := []) (st1 := [.int r]) (res := (some (.int r))) (c_X10_judge (l := C.2.1) x y (xs (i + 1).toNatClampNeg) (xs (i + 2).toNatClampNeg) e1) (xn (by decide)) xc_0 rfl (tc38 _ (List.mem_of_getElem? (i := 21) rfl)) (tc38 _ (List.mem_of_getElem? (i := 22) rfl)) (tc38 _ (List.mem_of_getElem? (i := 23) rfl)) (tc1 _ (List.mem_of_getElem? (i := 2) rfl)) (tc39 _ (List.mem_of_getElem? (i := 0) rfl)) (by decide) rfl ⟨rfl, rfl, Nat.le_of_ble_eq_true rfl, Nat.le_of_ble_eq_true rfl⟩ ⟨by show kc + 0 ≤ 600000; omega, by show ks + 0 ≤ 7302250; omega⟩ rfl (Nat.le_of_ble_eq_true rfl) rfl rfl rfl (dq dkL_law_19 4 rfl) ?_
  refine v_aload_n F (dq dkL_law_19 5 rfl) rfl 2 rfl ?_
  refine v_aload_n F (dq dkL_law_19 6 rfl) rfl 0 rfl ?_
  refine v_iload_n F (dq dkL_law_19 7 rfl) rfl 3 rfl ?_
  refine v_iconst F (v := 1) (dq dkL_law_19 8 rfl) ki_1 ?_
  refine v_iadd F (dq dkL_law_19 9 rfl) ?_
  refine v_sld F hX hbl hbA h1 (dq dkL_law_19 10 rfl) ?_
  refine v_aload_n F (dq dkL_law_19 11 rfl) rfl 0 rfl ?_
  refine v_iload_n F (dq dkL_law_19 12 rfl) rfl 3 rfl ?_
  refine v_iconst F (v := 2) (dq dkL_law_19 13 rfl) ki_2 ?_
  refine v_iadd F (dq dkL_law_19 14 rfl) ?_
  refine v_sld F hX hbl hbA h2 (dq dkL_law_19 15 rfl) ?_
  obtain ⟨nn, hnn⟩ : ∃ nn, gn x1 = 27 + nn := ⟨gn x1 - 27, by have := hge _ _ hP1; omega⟩
  refine v_eqM (xfM_of hnn) ?_
  refine v_callV 2 F (q := 61) (kc1 := kc) (ks1 := ks) (as := [.int (xs (i + 1).toNatClampNeg), .int (xs (i + 2).toNatClampNeg)]) (st := [.int r]) (st1 := [.int r, .int r]) (res := (some (.int r))) (c_X11_judge (l := C.2.1) x1 y (xs (i + 1).toNatClampNeg) (xs (i + 2).toNatClampNeg) e2) (xnM (by decide)) xc_61 rfl (tc39 _ (List.mem_of_getElem? (i := 1) rfl)) (tc39 _ (List.mem_of_getElem? (i := 2) rfl)) (tc39 _ (List.mem_of_getElem? (i := 3) rfl)) (tc1 _ (List.mem_of_getElem? (i := 5) rfl)) (tc39 _ (List.mem_of_getElem? (i := 4) rfl)) (by decide) rfl ⟨rfl, rfl, Nat.le_of_ble_eq_true rfl, Nat.le_of_ble_eq_true rfl⟩ ⟨by show kc + 0 ≤ 600000; omega, by show ks + 0 ≤ 7302250; omega⟩ rfl (Nat.le_of_ble_eq_true rfl) rfl rfl rfl (dq dkL_law_19 16 rfl) ?_
  refine v_eqM (xfM_of hnn).symm ?_
  refine v_icmp_eq F (tgt := 1911) (dq dkL_law_19 17 rfl) (by decide) (fun _ => ?_) (fun c => absurd rfl c)
  exact hk x1 y1 (kc) (ks) hP1 (by omega) (by omega)
def sim_floats (P : CS → MS → Prop) : Prop := ∀ (x : CS) (y : MS) (a0 : Int32) (a1 : Int32) (a2 : Int32), P x y → ∃ (r : Int32) (x1 : CS) (y1 : MS), f_X10_floats x a0 a1 a2 = some (r, x1) ∧ f_X11_floats y a0 a1 a2 = some (r, y1) ∧ P x1 y1
set_option maxRecDepth 100000 in
set_option maxHeartbeats 4000000 in
theorem lw_case_26 {C : Cx} {K : KE} {P : CS → MS → Prop} {b L : Nat} {xs : Nat → Int32} {i : Int32} (S : sim_floats P) (hge : ∀ x y, P x y → 27 ≤ gn x) (F : Fx C RL cL_law 4 room_1 K) (hX : va_X b L xs C.2.2.2.2.1 C.2.2.2.2.1.heap) (hbl : b < C.2.2.2.2.1.heap.size) (hbA : ¬ gA K.1 b) (h1 : vp_in (i + 1) L) (h2 : vp_in (i + 2) L) (h3 : vp_in (i + 3) L) (h4 : vp_in (i + 4) L) (h5 : vp_in (i + 5) L) (x : CS) (y : MS) (hP : P x y) (kc ks : Nat) (hkc : kc + 2000 ≤ 600000) (hks : ks + 4000 ≤ 7302250)
    (hk : ∀ (x1 : CS) (y1 : MS) (kc1 ks1 : Nat), P x1 y1 → kc1 ≤ kc + 2000 → ks1 ≤ ks + 4000 → V C 1911 [(0, .ref b), (1, .ref (K.1 + 0)), (2, .ref (K.1 + 61)), (3, .int i)] [] (xf K x1 y1) kc1 ks1) : V C 1156 [(0, .ref b), (1, .ref (K.1 + 0)), (2, .ref (K.1 + 61)), (3, .int i)] [] (xf K x y) kc ks := by
  obtain ⟨r, x1, y1, e1, e2, hP1⟩ := S x y (xs (i + 1).toNatClampNeg) (xs (i + 2).toNatClampNeg) (xs (i + 3).toNatClampNeg) hP
  refine v_aload_n F (dq dkL_law_19 20 rfl) rfl 1 rfl ?_
  refine v_aload_n F (dq dkL_law_19 21 rfl) rfl 0 rfl ?_
  refine v_iload_n F (dq dkL_law_19 22 rfl) rfl 3 rfl ?_
  refine v_iconst F (v := 1) (dq dkL_law_19 23 rfl) ki_1 ?_
  refine v_iadd F (dq dkL_law_19 24 rfl) ?_
  refine v_sld F hX hbl hbA h1 (dq dkL_law_19 25 rfl) ?_
  refine v_aload_n F (dq dkL_law_19 26 rfl) rfl 0 rfl ?_
  refine v_iload_n F (dq dkL_law_19 27 rfl) rfl 3 rfl ?_
  refine v_iconst F (v := 2) (dq dkL_law_19 28 rfl) ki_2 ?_
  refine v_iadd F (dq dkL_law_19 29 rfl) ?_
  refine v_sld F hX hbl hbA h2 (dq dkL_law_19 30 rfl) ?_
  refine v_aload_n F (dq dkL_law_19 31 rfl) rfl 0 rfl ?_
  refine v_iload_n F (dq dkL_law_19 32 rfl) rfl 3 rfl ?_
  refine v_iconst F (v := 3) (dq dkL_law_19 33 rfl) ki_3 ?_
  refine v_iadd F (dq dkL_law_19 34 rfl) ?_
  refine v_sld F hX hbl hbA h3 (dq dkL_law_19 35 rfl) ?_
  refine v_callV 3 F (q := 0) (kc1 := kc) (ks1 := ks) (as := [.int (xs (i + 1).toNatClampNeg), .int (xs (i + 2).toNatClampNeg), .int (xs (i + 3).toNatClampNeg)]) (st := []) (st1 := [.int r]) (res := (some (.int r))) (c_X10_floats (l := C.2.1) x y (xs (i + 1).toNatClampNeg) (xs (i + 2).toNatClampNeg) (xs (i + 3).toNatClampNeg) e1) (xn (by decide)) xc_0 rfl (tc39 _ (List.mem_of_getElem? (i := 5) rfl)) (tc39 _ (List.mem_of_getElem? (i := 6) rfl)) (tc39 _ (List.mem_of_getElem? (i := 7) rfl)) (tc1 _ (List.mem_of_getElem? (i := 2) rfl)) (tc39 _ (List.mem_of_getElem? (i := 8) rfl)) (by decide) rfl ⟨rfl, rfl, Nat.le_of_ble_eq_true rfl, Nat.le_of_ble_eq_true rfl⟩ ⟨by show kc + 0 ≤ 600000; omega, by show ks + 0 ≤ 7302250; omega⟩ rfl (Nat.le_of_ble_eq_true rfl) rfl rfl rfl (dq dkL_law_19 36 rfl) ?_
  refine v_aload_n F (dq dkL_law_19 37 rfl) rfl 2 rfl ?_
  refine v_aload_n F (dq dkL_law_19 38 rfl) rfl 0 rfl ?_
  refine v_iload_n F (dq dkL_law_19 39 rfl) rfl 3 rfl ?_
  refine v_iconst F (v := 1) (dq dkL_law_20 0 rfl) ki_1 ?_
  refine v_iadd F (dq dkL_law_20 1 rfl) ?_
  refine v_sld F hX hbl hbA h1 (dq dkL_law_20 2 rfl) ?_
  refine v_aload_n F (dq dkL_law_20 3 rfl) rfl 0 rfl ?_
  refine v_iload_n F (dq dkL_law_20 4 rfl) rfl 3 rfl ?_
  refine v_iconst F (v := 2) (dq dkL_law_20 5 rfl) ki_2 ?_
  refine v_iadd F (dq dkL_law_20 6 rfl) ?_
  refine v_sld F hX hbl hbA h2 (dq dkL_law_20 7 rfl) ?_
  refine v_aload_n F (dq dkL_law_20 8 rfl) rfl 0 rfl ?_
  refine v_iload_n F (dq dkL_law_20 9 rfl) rfl 3 rfl ?_
  refine v_iconst F (v := 3) (dq dkL_law_20 10 rfl) ki_3 ?_
  refine v_iadd F (dq dkL_law_20 11 rfl) ?_
  refine v_sld F hX hbl hbA h3 (dq dkL_law_20 12 rfl) ?_
  obtain ⟨nn, hnn⟩ : ∃ nn, gn x1 = 27 + nn := ⟨gn x1 - 27, by have := hge _ _ hP1; omega⟩
  refine v_eqM (xfM_of hnn) ?_
  refine v_callV 3 F (q := 61) (kc1 := kc) (ks1 := ks) (as := [.int (xs (i + 1).toNatClampNeg), .int (xs (i + 2).toNatClampNeg), .int (xs (i + 3).toNatClampNeg)]) (st := [.int r]) (st1 := [.int r, .int r]) (res := (some (.int r))) (c_X11_floats (l := C.2.1) x1 y (xs (i + 1).toNatClampNeg) (xs (i + 2).toNatClampNeg) (xs (i + 3).toNatClampNeg) e2) (xnM (by decide)) xc_61 rfl (tc40 _ (List.mem_of_getElem? (i := 12) rfl)) (tc40 _ (List.mem_of_getElem? (i := 13) rfl)) (tc40 _ (List.mem_of_getElem? (i := 14) rfl)) (tc1 _ (List.mem_of_getElem? (i := 5) rfl)) (tc40 _ (List.mem_of_getElem? (i := 15) rfl)) (by decide) rfl ⟨rfl, rfl, Nat.le_of_ble_eq_true rfl, Nat.le_of_ble_eq_true rfl⟩ ⟨by show kc + 0 ≤ 600000; omega, by show ks + 0 ≤ 7302250; omega⟩ rfl (Nat.le_of_ble_eq_true rfl) rfl rfl rfl (dq dkL_law_20 13 rfl) ?_
  refine v_eqM (xfM_of hnn).symm ?_
  refine v_icmp_eq F (tgt := 1911) (dq dkL_law_20 14 rfl) (by decide) (fun _ => ?_) (fun c => absurd rfl c)
  exact hk x1 y1 (kc) (ks) hP1 (by omega) (by omega)
def sim_bears (P : CS → MS → Prop) : Prop := ∀ (x : CS) (y : MS) (a0 : Int32) (a1 : Int32), P x y → ∃ (r : Int32) (x1 : CS) (y1 : MS), f_X10_bears x a0 a1 = some (r, x1) ∧ f_X11_bears y a0 a1 = some (r, y1) ∧ P x1 y1
set_option maxRecDepth 100000 in
set_option maxHeartbeats 4000000 in
theorem lw_case_27 {C : Cx} {K : KE} {P : CS → MS → Prop} {b L : Nat} {xs : Nat → Int32} {i : Int32} (S : sim_bears P) (hge : ∀ x y, P x y → 27 ≤ gn x) (F : Fx C RL cL_law 4 room_1 K) (hX : va_X b L xs C.2.2.2.2.1 C.2.2.2.2.1.heap) (hbl : b < C.2.2.2.2.1.heap.size) (hbA : ¬ gA K.1 b) (h1 : vp_in (i + 1) L) (h2 : vp_in (i + 2) L) (h3 : vp_in (i + 3) L) (h4 : vp_in (i + 4) L) (h5 : vp_in (i + 5) L) (x : CS) (y : MS) (hP : P x y) (kc ks : Nat) (hkc : kc + 2000 ≤ 600000) (hks : ks + 4000 ≤ 7302250)
    (hk : ∀ (x1 : CS) (y1 : MS) (kc1 ks1 : Nat), P x1 y1 → kc1 ≤ kc + 2000 → ks1 ≤ ks + 4000 → V C 1911 [(0, .ref b), (1, .ref (K.1 + 0)), (2, .ref (K.1 + 61)), (3, .int i)] [] (xf K x1 y1) kc1 ks1) : V C 1199 [(0, .ref b), (1, .ref (K.1 + 0)), (2, .ref (K.1 + 61)), (3, .int i)] [] (xf K x y) kc ks := by
  obtain ⟨r, x1, y1, e1, e2, hP1⟩ := S x y (xs (i + 1).toNatClampNeg) (xs (i + 2).toNatClampNeg) hP
  refine v_aload_n F (dq dkL_law_20 17 rfl) rfl 1 rfl ?_
  refine v_aload_n F (dq dkL_law_20 18 rfl) rfl 0 rfl ?_
  refine v_iload_n F (dq dkL_law_20 19 rfl) rfl 3 rfl ?_
  refine v_iconst F (v := 1) (dq dkL_law_20 20 rfl) ki_1 ?_
  refine v_iadd F (dq dkL_law_20 21 rfl) ?_
  refine v_sld F hX hbl hbA h1 (dq dkL_law_20 22 rfl) ?_
  refine v_aload_n F (dq dkL_law_20 23 rfl) rfl 0 rfl ?_
  refine v_iload_n F (dq dkL_law_20 24 rfl) rfl 3 rfl ?_
  refine v_iconst F (v := 2) (dq dkL_law_20 25 rfl) ki_2 ?_
  refine v_iadd F (dq dkL_law_20 26 rfl) ?_
  refine v_sld F hX hbl hbA h2 (dq dkL_law_20 27 rfl) ?_
  refine v_callV 2 F (q := 0) (kc1 := kc) (ks1 := ks) (as := [.int (xs (i + 1).toNatClampNeg), .int (xs (i + 2).toNatClampNeg)]) (st := []) (st1 := [.int r]) (res := (some (.int r))) (c_X10_bears (l := C.2.1) x y (xs (i + 1).toNatClampNeg) (xs (i + 2).toNatClampNeg) e1) (xn (by decide)) xc_0 rfl (tc41 _ (List.mem_of_getElem? (i := 12) rfl)) (tc41 _ (List.mem_of_getElem? (i := 13) rfl)) (tc41 _ (List.mem_of_getElem? (i := 14) rfl)) (tc1 _ (List.mem_of_getElem? (i := 2) rfl)) (tc41 _ (List.mem_of_getElem? (i := 15) rfl)) (by decide) rfl ⟨rfl, rfl, Nat.le_of_ble_eq_true rfl, Nat.le_of_ble_eq_true rfl⟩ ⟨by show kc + 0 ≤ 600000; omega, by show ks + 0 ≤ 7302250; omega⟩ rfl (Nat.le_of_ble_eq_true rfl) rfl rfl rfl (dq dkL_law_20 28 rfl) ?_
  refine v_aload_n F (dq dkL_law_20 29 rfl) rfl 2 rfl ?_
  refine v_aload_n F (dq dkL_law_20 30 rfl) rfl 0 rfl ?_
  refine v_iload_n F (dq dkL_law_20 31 rfl) rfl 3 rfl ?_
  refine v_iconst F (v := 1) (dq dkL_law_20 32 rfl) ki_1 ?_
  refine v_iadd F (dq dkL_law_20 33 rfl) ?_
  refine v_sld F hX hbl hbA h1 (dq dkL_law_20 34 rfl) ?_
  refine v_aload_n F (dq dkL_law_20 35 rfl) rfl 0 rfl ?_
  refine v_iload_n F (dq dkL_law_20 36 rfl) rfl 3 rfl ?_
  refine v_iconst F (v := 2) (dq dkL_law_20 37 rfl) ki_2 ?_
  refine v_iadd F (dq dkL_law_20 38 rfl) ?_
  refine v_sld F hX hbl hbA h2 (dq dkL_law_20 39 rfl) ?_
  obtain ⟨nn, hnn⟩ : ∃ nn, gn x1 = 27 + nn := ⟨gn x1 - 27, by have := hge _ _ hP1; omega⟩
  refine v_eqM (xfM_of hnn) ?_
  refine v_callV 2 F (q := 61) (kc1 := kc) (ks1 := ks) (as := [.int (xs (i + 1).toNatClampNeg), .int (xs (i + 2).toNatClampNeg)]) (st := [.int r]) (st1 := [.int r, .int r]) (res := (some (.int r))) (c_X11_bears (l := C.2.1) x1 y (xs (i + 1).toNatClampNeg) (xs (i + 2).toNatClampNeg) e2) (xnM (by decide)) xc_61 rfl (tc41 _ (List.mem_of_getElem? (i := 18) rfl)) (tc41 _ (List.mem_of_getElem? (i := 19) rfl)) (tc41 _ (List.mem_of_getElem? (i := 20) rfl)) (tc1 _ (List.mem_of_getElem? (i := 5) rfl)) (tc41 _ (List.mem_of_getElem? (i := 21) rfl)) (by decide) rfl ⟨rfl, rfl, Nat.le_of_ble_eq_true rfl, Nat.le_of_ble_eq_true rfl⟩ ⟨by show kc + 0 ≤ 600000; omega, by show ks + 0 ≤ 7302250; omega⟩ rfl (Nat.le_of_ble_eq_true rfl) rfl rfl rfl (dq dkL_law_21 0 rfl) ?_
  refine v_eqM (xfM_of hnn).symm ?_
  refine v_icmp_eq F (tgt := 1911) (dq dkL_law_21 1 rfl) (by decide) (fun _ => ?_) (fun c => absurd rfl c)
  exact hk x1 y1 (kc) (ks) hP1 (by omega) (by omega)
def sim_bar (P : CS → MS → Prop) : Prop := ∀ (x : CS) (y : MS) (a0 : Int32) (a1 : Int32) (a2 : Int32), P x y → ∃ (r : Int32) (x1 : CS) (y1 : MS), f_X10_bar x a0 a1 a2 = some (r, x1) ∧ f_X11_bar y a0 a1 a2 = some (r, y1) ∧ P x1 y1
set_option maxRecDepth 100000 in
set_option maxHeartbeats 4000000 in
theorem lw_case_28 {C : Cx} {K : KE} {P : CS → MS → Prop} {b L : Nat} {xs : Nat → Int32} {i : Int32} (S : sim_bar P) (hge : ∀ x y, P x y → 27 ≤ gn x) (F : Fx C RL cL_law 4 room_1 K) (hX : va_X b L xs C.2.2.2.2.1 C.2.2.2.2.1.heap) (hbl : b < C.2.2.2.2.1.heap.size) (hbA : ¬ gA K.1 b) (h1 : vp_in (i + 1) L) (h2 : vp_in (i + 2) L) (h3 : vp_in (i + 3) L) (h4 : vp_in (i + 4) L) (h5 : vp_in (i + 5) L) (x : CS) (y : MS) (hP : P x y) (kc ks : Nat) (hkc : kc + 2000 ≤ 600000) (hks : ks + 4000 ≤ 7302250)
    (hk : ∀ (x1 : CS) (y1 : MS) (kc1 ks1 : Nat), P x1 y1 → kc1 ≤ kc + 2000 → ks1 ≤ ks + 4000 → V C 1911 [(0, .ref b), (1, .ref (K.1 + 0)), (2, .ref (K.1 + 61)), (3, .int i)] [] (xf K x1 y1) kc1 ks1) : V C 1232 [(0, .ref b), (1, .ref (K.1 + 0)), (2, .ref (K.1 + 61)), (3, .int i)] [] (xf K x y) kc ks := by
  obtain ⟨r, x1, y1, e1, e2, hP1⟩ := S x y (xs (i + 1).toNatClampNeg) (xs (i + 2).toNatClampNeg) (xs (i + 3).toNatClampNeg) hP
  refine v_aload_n F (dq dkL_law_21 4 rfl) rfl 1 rfl ?_
  refine v_aload_n F (dq dkL_law_21 5 rfl) rfl 0 rfl ?_
  refine v_iload_n F (dq dkL_law_21 6 rfl) rfl 3 rfl ?_
  refine v_iconst F (v := 1) (dq dkL_law_21 7 rfl) ki_1 ?_
  refine v_iadd F (dq dkL_law_21 8 rfl) ?_
  refine v_sld F hX hbl hbA h1 (dq dkL_law_21 9 rfl) ?_
  refine v_aload_n F (dq dkL_law_21 10 rfl) rfl 0 rfl ?_
  refine v_iload_n F (dq dkL_law_21 11 rfl) rfl 3 rfl ?_
  refine v_iconst F (v := 2) (dq dkL_law_21 12 rfl) ki_2 ?_
  refine v_iadd F (dq dkL_law_21 13 rfl) ?_
  refine v_sld F hX hbl hbA h2 (dq dkL_law_21 14 rfl) ?_
  refine v_aload_n F (dq dkL_law_21 15 rfl) rfl 0 rfl ?_
  refine v_iload_n F (dq dkL_law_21 16 rfl) rfl 3 rfl ?_
  refine v_iconst F (v := 3) (dq dkL_law_21 17 rfl) ki_3 ?_
  refine v_iadd F (dq dkL_law_21 18 rfl) ?_
  refine v_sld F hX hbl hbA h3 (dq dkL_law_21 19 rfl) ?_
  refine v_callV 3 F (q := 0) (kc1 := kc) (ks1 := ks) (as := [.int (xs (i + 1).toNatClampNeg), .int (xs (i + 2).toNatClampNeg), .int (xs (i + 3).toNatClampNeg)]) (st := []) (st1 := [.int r]) (res := (some (.int r))) (c_X10_bar (l := C.2.1) x y (xs (i + 1).toNatClampNeg) (xs (i + 2).toNatClampNeg) (xs (i + 3).toNatClampNeg) e1) (xn (by decide)) xc_0 rfl (tc41 _ (List.mem_of_getElem? (i := 22) rfl)) (tc41 _ (List.mem_of_getElem? (i := 23) rfl)) (tc42 _ (List.mem_of_getElem? (i := 0) rfl)) (tc1 _ (List.mem_of_getElem? (i := 2) rfl)) (tc42 _ (List.mem_of_getElem? (i := 1) rfl)) (by decide) rfl ⟨rfl, rfl, Nat.le_of_ble_eq_true rfl, Nat.le_of_ble_eq_true rfl⟩ ⟨by show kc + 0 ≤ 600000; omega, by show ks + 0 ≤ 7302250; omega⟩ rfl (Nat.le_of_ble_eq_true rfl) rfl rfl rfl (dq dkL_law_21 20 rfl) ?_
  refine v_aload_n F (dq dkL_law_21 21 rfl) rfl 2 rfl ?_
  refine v_aload_n F (dq dkL_law_21 22 rfl) rfl 0 rfl ?_
  refine v_iload_n F (dq dkL_law_21 23 rfl) rfl 3 rfl ?_
  refine v_iconst F (v := 1) (dq dkL_law_21 24 rfl) ki_1 ?_
  refine v_iadd F (dq dkL_law_21 25 rfl) ?_
  refine v_sld F hX hbl hbA h1 (dq dkL_law_21 26 rfl) ?_
  refine v_aload_n F (dq dkL_law_21 27 rfl) rfl 0 rfl ?_
  refine v_iload_n F (dq dkL_law_21 28 rfl) rfl 3 rfl ?_
  refine v_iconst F (v := 2) (dq dkL_law_21 29 rfl) ki_2 ?_
  refine v_iadd F (dq dkL_law_21 30 rfl) ?_
  refine v_sld F hX hbl hbA h2 (dq dkL_law_21 31 rfl) ?_
  refine v_aload_n F (dq dkL_law_21 32 rfl) rfl 0 rfl ?_
  refine v_iload_n F (dq dkL_law_21 33 rfl) rfl 3 rfl ?_
  refine v_iconst F (v := 3) (dq dkL_law_21 34 rfl) ki_3 ?_
  refine v_iadd F (dq dkL_law_21 35 rfl) ?_
  refine v_sld F hX hbl hbA h3 (dq dkL_law_21 36 rfl) ?_
  obtain ⟨nn, hnn⟩ : ∃ nn, gn x1 = 27 + nn := ⟨gn x1 - 27, by have := hge _ _ hP1; omega⟩
  refine v_eqM (xfM_of hnn) ?_
  refine v_callV 3 F (q := 61) (kc1 := kc) (ks1 := ks) (as := [.int (xs (i + 1).toNatClampNeg), .int (xs (i + 2).toNatClampNeg), .int (xs (i + 3).toNatClampNeg)]) (st := [.int r]) (st1 := [.int r, .int r]) (res := (some (.int r))) (c_X11_bar (l := C.2.1) x1 y (xs (i + 1).toNatClampNeg) (xs (i + 2).toNatClampNeg) (xs (i + 3).toNatClampNeg) e2) (xnM (by decide)) xc_61 rfl (tc42 _ (List.mem_of_getElem? (i := 3) rfl)) (tc42 _ (List.mem_of_getElem? (i := 4) rfl)) (tc42 _ (List.mem_of_getElem? (i := 5) rfl)) (tc1 _ (List.mem_of_getElem? (i := 5) rfl)) (tc42 _ (List.mem_of_getElem? (i := 6) rfl)) (by decide) rfl ⟨rfl, rfl, Nat.le_of_ble_eq_true rfl, Nat.le_of_ble_eq_true rfl⟩ ⟨by show kc + 0 ≤ 600000; omega, by show ks + 0 ≤ 7302250; omega⟩ rfl (Nat.le_of_ble_eq_true rfl) rfl rfl rfl (dq dkL_law_21 37 rfl) ?_
  refine v_eqM (xfM_of hnn).symm ?_
  refine v_icmp_eq F (tgt := 1911) (dq dkL_law_21 38 rfl) (by decide) (fun _ => ?_) (fun c => absurd rfl c)
  exact hk x1 y1 (kc) (ks) hP1 (by omega) (by omega)
def sim_tree (P : CS → MS → Prop) : Prop := ∀ (x : CS) (y : MS) (a0 : Int32) (a1 : Int32) (a2 : Int32) (a3 : Int32), P x y → ∃ (r : Int32) (x1 : CS) (y1 : MS), f_X10_tree x a0 a1 a2 a3 = some (r, x1) ∧ f_X11_tree y a0 a1 a2 a3 = some (r, y1) ∧ P x1 y1
set_option maxRecDepth 100000 in
set_option maxHeartbeats 4000000 in
theorem lw_case_29 {C : Cx} {K : KE} {P : CS → MS → Prop} {b L : Nat} {xs : Nat → Int32} {i : Int32} (S : sim_tree P) (hge : ∀ x y, P x y → 27 ≤ gn x) (F : Fx C RL cL_law 4 room_1 K) (hX : va_X b L xs C.2.2.2.2.1 C.2.2.2.2.1.heap) (hbl : b < C.2.2.2.2.1.heap.size) (hbA : ¬ gA K.1 b) (h1 : vp_in (i + 1) L) (h2 : vp_in (i + 2) L) (h3 : vp_in (i + 3) L) (h4 : vp_in (i + 4) L) (h5 : vp_in (i + 5) L) (x : CS) (y : MS) (hP : P x y) (kc ks : Nat) (hkc : kc + 2000 ≤ 600000) (hks : ks + 4000 ≤ 7302250)
    (hk : ∀ (x1 : CS) (y1 : MS) (kc1 ks1 : Nat), P x1 y1 → kc1 ≤ kc + 2000 → ks1 ≤ ks + 4000 → V C 1911 [(0, .ref b), (1, .ref (K.1 + 0)), (2, .ref (K.1 + 61)), (3, .int i)] [] (xf K x1 y1) kc1 ks1) : V C 1275 [(0, .ref b), (1, .ref (K.1 + 0)), (2, .ref (K.1 + 61)), (3, .int i)] [] (xf K x y) kc ks := by
  obtain ⟨r, x1, y1, e1, e2, hP1⟩ := S x y (xs (i + 1).toNatClampNeg) (xs (i + 2).toNatClampNeg) (xs (i + 3).toNatClampNeg) (xs (i + 4).toNatClampNeg) hP
  refine v_aload_n F (dq dkL_law_22 1 rfl) rfl 1 rfl ?_
  refine v_aload_n F (dq dkL_law_22 2 rfl) rfl 0 rfl ?_
  refine v_iload_n F (dq dkL_law_22 3 rfl) rfl 3 rfl ?_
  refine v_iconst F (v := 1) (dq dkL_law_22 4 rfl) ki_1 ?_
  refine v_iadd F (dq dkL_law_22 5 rfl) ?_
  refine v_sld F hX hbl hbA h1 (dq dkL_law_22 6 rfl) ?_
  refine v_aload_n F (dq dkL_law_22 7 rfl) rfl 0 rfl ?_
  refine v_iload_n F (dq dkL_law_22 8 rfl) rfl 3 rfl ?_
  refine v_iconst F (v := 2) (dq dkL_law_22 9 rfl) ki_2 ?_
  refine v_iadd F (dq dkL_law_22 10 rfl) ?_
  refine v_sld F hX hbl hbA h2 (dq dkL_law_22 11 rfl) ?_
  refine v_aload_n F (dq dkL_law_22 12 rfl) rfl 0 rfl ?_
  refine v_iload_n F (dq dkL_law_22 13 rfl) rfl 3 rfl ?_
  refine v_iconst F (v := 3) (dq dkL_law_22 14 rfl) ki_3 ?_
  refine v_iadd F (dq dkL_law_22 15 rfl) ?_
  refine v_sld F hX hbl hbA h3 (dq dkL_law_22 16 rfl) ?_
  refine v_aload_n F (dq dkL_law_22 17 rfl) rfl 0 rfl ?_
  refine v_iload_n F (dq dkL_law_22 18 rfl) rfl 3 rfl ?_
  refine v_iconst F (v := 4) (dq dkL_law_22 19 rfl) ki_4 ?_
  refine v_iadd F (dq dkL_law_22 20 rfl) ?_
  refine v_sld F hX hbl hbA h4 (dq dkL_law_22 21 rfl) ?_
  refine v_callV 4 F (q := 0) (kc1 := kc + 2) (ks1 := ks + 10) (as := [.int (xs (i + 1).toNatClampNeg), .int (xs (i + 2).toNatClampNeg), .int (xs (i + 3).toNatClampNeg), .int (xs (i + 4).toNatClampNeg)]) (st := []) (st1 := [.int r]) (res := (some (.int r))) (c_X10_tree (l := C.2.1) x y (xs (i + 1).toNatClampNeg) (xs (i + 2).toNatClampNeg) (xs (i + 3).toNatClampNeg) (xs (i + 4).toNatClampNeg) e1) (xn (by decide)) xc_0 rfl (tc42 _ (List.mem_of_getElem? (i := 7) rfl)) (tc42 _ (List.mem_of_getElem? (i := 8) rfl)) (tc42 _ (List.mem_of_getElem? (i := 9) rfl)) (tc1 _ (List.mem_of_getElem? (i := 2) rfl)) (tc42 _ (List.mem_of_getElem? (i := 10) rfl)) (by decide) rfl ⟨rfl, rfl, Nat.le_of_ble_eq_true rfl, Nat.le_of_ble_eq_true rfl⟩ ⟨by show kc + 2 ≤ 600000; omega, by show ks + 10 ≤ 7302250; omega⟩ rfl (Nat.le_of_ble_eq_true rfl) rfl rfl rfl (dq dkL_law_22 22 rfl) ?_
  refine v_aload_n F (dq dkL_law_22 23 rfl) rfl 2 rfl ?_
  refine v_aload_n F (dq dkL_law_22 24 rfl) rfl 0 rfl ?_
  refine v_iload_n F (dq dkL_law_22 25 rfl) rfl 3 rfl ?_
  refine v_iconst F (v := 1) (dq dkL_law_22 26 rfl) ki_1 ?_
  refine v_iadd F (dq dkL_law_22 27 rfl) ?_
  refine v_sld F hX hbl hbA h1 (dq dkL_law_22 28 rfl) ?_
  refine v_aload_n F (dq dkL_law_22 29 rfl) rfl 0 rfl ?_
  refine v_iload_n F (dq dkL_law_22 30 rfl) rfl 3 rfl ?_
  refine v_iconst F (v := 2) (dq dkL_law_22 31 rfl) ki_2 ?_
  refine v_iadd F (dq dkL_law_22 32 rfl) ?_
  refine v_sld F hX hbl hbA h2 (dq dkL_law_22 33 rfl) ?_
  refine v_aload_n F (dq dkL_law_22 34 rfl) rfl 0 rfl ?_
  refine v_iload_n F (dq dkL_law_22 35 rfl) rfl 3 rfl ?_
  refine v_iconst F (v := 3) (dq dkL_law_22 36 rfl) ki_3 ?_
  refine v_iadd F (dq dkL_law_22 37 rfl) ?_
  refine v_sld F hX hbl hbA h3 (dq dkL_law_22 38 rfl) ?_
  refine v_aload_n F (dq dkL_law_22 39 rfl) rfl 0 rfl ?_
  refine v_iload_n F (dq dkL_law_23 0 rfl) rfl 3 rfl ?_
  refine v_iconst F (v := 4) (dq dkL_law_23 1 rfl) ki_4 ?_
  refine v_iadd F (dq dkL_law_23 2 rfl) ?_
  refine v_sld F hX hbl hbA h4 (dq dkL_law_23 3 rfl) ?_
  obtain ⟨nn, hnn⟩ : ∃ nn, gn x1 = 27 + nn := ⟨gn x1 - 27, by have := hge _ _ hP1; omega⟩
  refine v_eqM (xfM_of hnn) ?_
  refine v_callV 4 F (q := 61) (kc1 := kc + 2) (ks1 := ks + 10) (as := [.int (xs (i + 1).toNatClampNeg), .int (xs (i + 2).toNatClampNeg), .int (xs (i + 3).toNatClampNeg), .int (xs (i + 4).toNatClampNeg)]) (st := [.int r]) (st1 := [.int r, .int r]) (res := (some (.int r))) (c_X11_tree (l := C.2.1) x1 y (xs (i + 1).toNatClampNeg) (xs (i + 2).toNatClampNeg) (xs (i + 3).toNatClampNeg) (xs (i + 4).toNatClampNeg) e2) (xnM (by decide)) xc_61 rfl (tc43 _ (List.mem_of_getElem? (i := 5) rfl)) (tc43 _ (List.mem_of_getElem? (i := 6) rfl)) (tc43 _ (List.mem_of_getElem? (i := 7) rfl)) (tc1 _ (List.mem_of_getElem? (i := 5) rfl)) (tc43 _ (List.mem_of_getElem? (i := 8) rfl)) (by decide) rfl ⟨rfl, rfl, Nat.le_of_ble_eq_true rfl, Nat.le_of_ble_eq_true rfl⟩ ⟨by show kc + 2 + 0 ≤ 600000; omega, by show ks + 10 + 0 ≤ 7302250; omega⟩ rfl (Nat.le_of_ble_eq_true rfl) rfl rfl rfl (dq dkL_law_23 4 rfl) ?_
  refine v_eqM (xfM_of hnn).symm ?_
  refine v_icmp_eq F (tgt := 1911) (dq dkL_law_23 5 rfl) (by decide) (fun _ => ?_) (fun c => absurd rfl c)
  exact hk x1 y1 (kc + 2) (ks + 10) hP1 (by omega) (by omega)
def sim_bore (P : CS → MS → Prop) : Prop := ∀ (x : CS) (y : MS) (a0 : Int32) (a1 : Int32), P x y → ∃ (r : Int32) (x1 : CS) (y1 : MS), f_X10_bore x a0 a1 = some (r, x1) ∧ f_X11_bore y a0 a1 = some (r, y1) ∧ P x1 y1
set_option maxRecDepth 100000 in
set_option maxHeartbeats 4000000 in
theorem lw_case_30 {C : Cx} {K : KE} {P : CS → MS → Prop} {b L : Nat} {xs : Nat → Int32} {i : Int32} (S : sim_bore P) (hge : ∀ x y, P x y → 27 ≤ gn x) (F : Fx C RL cL_law 4 room_1 K) (hX : va_X b L xs C.2.2.2.2.1 C.2.2.2.2.1.heap) (hbl : b < C.2.2.2.2.1.heap.size) (hbA : ¬ gA K.1 b) (h1 : vp_in (i + 1) L) (h2 : vp_in (i + 2) L) (h3 : vp_in (i + 3) L) (h4 : vp_in (i + 4) L) (h5 : vp_in (i + 5) L) (x : CS) (y : MS) (hP : P x y) (kc ks : Nat) (hkc : kc + 2000 ≤ 600000) (hks : ks + 4000 ≤ 7302250)
    (hk : ∀ (x1 : CS) (y1 : MS) (kc1 ks1 : Nat), P x1 y1 → kc1 ≤ kc + 2000 → ks1 ≤ ks + 4000 → V C 1911 [(0, .ref b), (1, .ref (K.1 + 0)), (2, .ref (K.1 + 61)), (3, .int i)] [] (xf K x1 y1) kc1 ks1) : V C 1328 [(0, .ref b), (1, .ref (K.1 + 0)), (2, .ref (K.1 + 61)), (3, .int i)] [] (xf K x y) kc ks := by
  obtain ⟨r, x1, y1, e1, e2, hP1⟩ := S x y (xs (i + 1).toNatClampNeg) (xs (i + 2).toNatClampNeg) hP
  refine v_aload_n F (dq dkL_law_23 8 rfl) rfl 1 rfl ?_
  refine v_aload_n F (dq dkL_law_23 9 rfl) rfl 0 rfl ?_
  refine v_iload_n F (dq dkL_law_23 10 rfl) rfl 3 rfl ?_
  refine v_iconst F (v := 1) (dq dkL_law_23 11 rfl) ki_1 ?_
  refine v_iadd F (dq dkL_law_23 12 rfl) ?_
  refine v_sld F hX hbl hbA h1 (dq dkL_law_23 13 rfl) ?_
  refine v_aload_n F (dq dkL_law_23 14 rfl) rfl 0 rfl ?_
  refine v_iload_n F (dq dkL_law_23 15 rfl) rfl 3 rfl ?_
  refine v_iconst F (v := 2) (dq dkL_law_23 16 rfl) ki_2 ?_
  refine v_iadd F (dq dkL_law_23 17 rfl) ?_
  refine v_sld F hX hbl hbA h2 (dq dkL_law_23 18 rfl) ?_
  refine v_callV 2 F (q := 0) (kc1 := kc) (ks1 := ks) (as := [.int (xs (i + 1).toNatClampNeg), .int (xs (i + 2).toNatClampNeg)]) (st := []) (st1 := [.int r]) (res := (some (.int r))) (c_X10_bore (l := C.2.1) x y (xs (i + 1).toNatClampNeg) (xs (i + 2).toNatClampNeg) e1) (xn (by decide)) xc_0 rfl (tc43 _ (List.mem_of_getElem? (i := 9) rfl)) (tc43 _ (List.mem_of_getElem? (i := 10) rfl)) (tc43 _ (List.mem_of_getElem? (i := 11) rfl)) (tc1 _ (List.mem_of_getElem? (i := 2) rfl)) (tc43 _ (List.mem_of_getElem? (i := 12) rfl)) (by decide) rfl ⟨rfl, rfl, Nat.le_of_ble_eq_true rfl, Nat.le_of_ble_eq_true rfl⟩ ⟨by show kc + 0 ≤ 600000; omega, by show ks + 0 ≤ 7302250; omega⟩ rfl (Nat.le_of_ble_eq_true rfl) rfl rfl rfl (dq dkL_law_23 19 rfl) ?_
  refine v_aload_n F (dq dkL_law_23 20 rfl) rfl 2 rfl ?_
  refine v_aload_n F (dq dkL_law_23 21 rfl) rfl 0 rfl ?_
  refine v_iload_n F (dq dkL_law_23 22 rfl) rfl 3 rfl ?_
  refine v_iconst F (v := 1) (dq dkL_law_23 23 rfl) ki_1 ?_
  refine v_iadd F (dq dkL_law_23 24 rfl) ?_
  refine v_sld F hX hbl hbA h1 (dq dkL_law_23 25 rfl) ?_
  refine v_aload_n F (dq dkL_law_23 26 rfl) rfl 0 rfl ?_
  refine v_iload_n F (dq dkL_law_23 27 rfl) rfl 3 rfl ?_
  refine v_iconst F (v := 2) (dq dkL_law_23 28 rfl) ki_2 ?_
  refine v_iadd F (dq dkL_law_23 29 rfl) ?_
  refine v_sld F hX hbl hbA h2 (dq dkL_law_23 30 rfl) ?_
  obtain ⟨nn, hnn⟩ : ∃ nn, gn x1 = 27 + nn := ⟨gn x1 - 27, by have := hge _ _ hP1; omega⟩
  refine v_eqM (xfM_of hnn) ?_
  refine v_callV 2 F (q := 61) (kc1 := kc) (ks1 := ks) (as := [.int (xs (i + 1).toNatClampNeg), .int (xs (i + 2).toNatClampNeg)]) (st := [.int r]) (st1 := [.int r, .int r]) (res := (some (.int r))) (c_X11_bore (l := C.2.1) x1 y (xs (i + 1).toNatClampNeg) (xs (i + 2).toNatClampNeg) e2) (xnM (by decide)) xc_61 rfl (tc43 _ (List.mem_of_getElem? (i := 17) rfl)) (tc43 _ (List.mem_of_getElem? (i := 18) rfl)) (tc43 _ (List.mem_of_getElem? (i := 19) rfl)) (tc1 _ (List.mem_of_getElem? (i := 5) rfl)) (tc43 _ (List.mem_of_getElem? (i := 20) rfl)) (by decide) rfl ⟨rfl, rfl, Nat.le_of_ble_eq_true rfl, Nat.le_of_ble_eq_true rfl⟩ ⟨by show kc + 0 ≤ 600000; omega, by show ks + 0 ≤ 7302250; omega⟩ rfl (Nat.le_of_ble_eq_true rfl) rfl rfl rfl (dq dkL_law_23 31 rfl) ?_
  refine v_eqM (xfM_of hnn).symm ?_
  refine v_icmp_eq F (tgt := 1911) (dq dkL_law_23 32 rfl) (by decide) (fun _ => ?_) (fun c => absurd rfl c)
  exact hk x1 y1 (kc) (ks) hP1 (by omega) (by omega)
def sim_worth (P : CS → MS → Prop) : Prop := ∀ (x : CS) (y : MS) (a0 : Int32) (a1 : Int32), P x y → ∃ (r : Int64) (x1 : CS), f_X10_worth x a0 a1 = some (r, x1) ∧ f_X11_worth y a0 a1 = some r ∧ P x1 y
set_option maxRecDepth 100000 in
set_option maxHeartbeats 4000000 in
theorem lw_case_31 {C : Cx} {K : KE} {P : CS → MS → Prop} {b L : Nat} {xs : Nat → Int32} {i : Int32} (S : sim_worth P) (hge : ∀ x y, P x y → 27 ≤ gn x) (F : Fx C RL cL_law 4 room_1 K) (hX : va_X b L xs C.2.2.2.2.1 C.2.2.2.2.1.heap) (hbl : b < C.2.2.2.2.1.heap.size) (hbA : ¬ gA K.1 b) (h1 : vp_in (i + 1) L) (h2 : vp_in (i + 2) L) (h3 : vp_in (i + 3) L) (h4 : vp_in (i + 4) L) (h5 : vp_in (i + 5) L) (x : CS) (y : MS) (hP : P x y) (kc ks : Nat) (hkc : kc + 2000 ≤ 600000) (hks : ks + 4000 ≤ 7302250)
    (hk : ∀ (x1 : CS) (y1 : MS) (kc1 ks1 : Nat), P x1 y1 → kc1 ≤ kc + 2000 → ks1 ≤ ks + 4000 → V C 1911 [(0, .ref b), (1, .ref (K.1 + 0)), (2, .ref (K.1 + 61)), (3, .int i)] [] (xf K x1 y1) kc1 ks1) : V C 1361 [(0, .ref b), (1, .ref (K.1 + 0)), (2, .ref (K.1 + 61)), (3, .int i)] [] (xf K x y) kc ks := by
  obtain ⟨r, x1, e1, e2, hP1⟩ := S x y (xs (i + 1).toNatClampNeg) (xs (i + 2).toNatClampNeg) hP
  refine v_aload_n F (dq dkL_law_23 35 rfl) rfl 1 rfl ?_
  refine v_aload_n F (dq dkL_law_23 36 rfl) rfl 0 rfl ?_
  refine v_iload_n F (dq dkL_law_23 37 rfl) rfl 3 rfl ?_
  refine v_iconst F (v := 1) (dq dkL_law_23 38 rfl) ki_1 ?_
  refine v_iadd F (dq dkL_law_23 39 rfl) ?_
  refine v_sld F hX hbl hbA h1 (dq dkL_law_24 0 rfl) ?_
  refine v_aload_n F (dq dkL_law_24 1 rfl) rfl 0 rfl ?_
  refine v_iload_n F (dq dkL_law_24 2 rfl) rfl 3 rfl ?_
  refine v_iconst F (v := 2) (dq dkL_law_24 3 rfl) ki_2 ?_
  refine v_iadd F (dq dkL_law_24 4 rfl) ?_
  refine v_sld F hX hbl hbA h2 (dq dkL_law_24 5 rfl) ?_
  refine v_callV 2 F (q := 0) (kc1 := kc + 7) (ks1 := ks + 14) (as := [.int (xs (i + 1).toNatClampNeg), .int (xs (i + 2).toNatClampNeg)]) (st := []) (st1 := [.long r]) (res := (some (.long r))) (c_X10_worth (l := C.2.1) x y (xs (i + 1).toNatClampNeg) (xs (i + 2).toNatClampNeg) e1) (xn (by decide)) xc_0 rfl (tc44 _ (List.mem_of_getElem? (i := 1) rfl)) (tc44 _ (List.mem_of_getElem? (i := 2) rfl)) (tc44 _ (List.mem_of_getElem? (i := 3) rfl)) (tc1 _ (List.mem_of_getElem? (i := 2) rfl)) (tc44 _ (List.mem_of_getElem? (i := 4) rfl)) (by decide) rfl ⟨rfl, rfl, Nat.le_of_ble_eq_true rfl, Nat.le_of_ble_eq_true rfl⟩ ⟨by show kc + 7 ≤ 600000; omega, by show ks + 14 ≤ 7302250; omega⟩ rfl (Nat.le_of_ble_eq_true rfl) rfl rfl rfl (dq dkL_law_24 6 rfl) ?_
  refine v_aload_n F (dq dkL_law_24 7 rfl) rfl 2 rfl ?_
  refine v_aload_n F (dq dkL_law_24 8 rfl) rfl 0 rfl ?_
  refine v_iload_n F (dq dkL_law_24 9 rfl) rfl 3 rfl ?_
  refine v_iconst F (v := 1) (dq dkL_law_24 10 rfl) ki_1 ?_
  refine v_iadd F (dq dkL_law_24 11 rfl) ?_
  refine v_sld F hX hbl hbA h1 (dq dkL_law_24 12 rfl) ?_
  refine v_aload_n F (dq dkL_law_24 13 rfl) rfl 0 rfl ?_
  refine v_iload_n F (dq dkL_law_24 14 rfl) rfl 3 rfl ?_
  refine v_iconst F (v := 2) (dq dkL_law_24 15 rfl) ki_2 ?_
  refine v_iadd F (dq dkL_law_24 16 rfl) ?_
  refine v_sld F hX hbl hbA h2 (dq dkL_law_24 17 rfl) ?_
  obtain ⟨nn, hnn⟩ : ∃ nn, gn x1 = 27 + nn := ⟨gn x1 - 27, by have := hge _ _ hP1; omega⟩
  refine v_eqM (xfM_of hnn) ?_
  refine v_callV 2 F (q := 61) (kc1 := kc + 7) (ks1 := ks + 14) (as := [.int (xs (i + 1).toNatClampNeg), .int (xs (i + 2).toNatClampNeg)]) (st := [.long r]) (st1 := [.long r, .long r]) (res := (some (.long r))) (c_X11_worth (l := C.2.1) x1 y (xs (i + 1).toNatClampNeg) (xs (i + 2).toNatClampNeg) e2) (xnM (by decide)) xc_61 rfl (tc44 _ (List.mem_of_getElem? (i := 20) rfl)) (tc44 _ (List.mem_of_getElem? (i := 21) rfl)) (tc44 _ (List.mem_of_getElem? (i := 22) rfl)) (tc1 _ (List.mem_of_getElem? (i := 5) rfl)) (tc44 _ (List.mem_of_getElem? (i := 23) rfl)) (by decide) rfl ⟨rfl, rfl, Nat.le_of_ble_eq_true rfl, Nat.le_of_ble_eq_true rfl⟩ ⟨by show kc + 7 + 0 ≤ 600000; omega, by show ks + 14 + 0 ≤ 7302250; omega⟩ rfl (Nat.le_of_ble_eq_true rfl) rfl rfl rfl (dq dkL_law_24 18 rfl) ?_
  refine v_eqM (xfM_of hnn).symm ?_
  refine v_lcmp F (dq dkL_law_24 19 rfl) ?_
  refine v_if_eq F (tgt := 1911) (dq dkL_law_24 20 rfl) (by decide) (fun _ => ?_) (fun c => absurd (lgc_0 r) c)
  exact hk x1 y (kc + 7) (ks + 14) hP1 (by omega) (by omega)
def sim_which (P : CS → MS → Prop) : Prop := ∀ (x : CS) (y : MS), P x y → ∃ (r : Int32) (x1 : CS), f_X10_which x = some (r, x1) ∧ f_X11_which y = some r ∧ P x1 y
set_option maxRecDepth 100000 in
set_option maxHeartbeats 4000000 in
theorem lw_case_32 {C : Cx} {K : KE} {P : CS → MS → Prop} {b L : Nat} {xs : Nat → Int32} {i : Int32} (S : sim_which P) (hge : ∀ x y, P x y → 27 ≤ gn x) (F : Fx C RL cL_law 4 room_1 K) (hX : va_X b L xs C.2.2.2.2.1 C.2.2.2.2.1.heap) (hbl : b < C.2.2.2.2.1.heap.size) (hbA : ¬ gA K.1 b) (h1 : vp_in (i + 1) L) (h2 : vp_in (i + 2) L) (h3 : vp_in (i + 3) L) (h4 : vp_in (i + 4) L) (h5 : vp_in (i + 5) L) (x : CS) (y : MS) (hP : P x y) (kc ks : Nat) (hkc : kc + 2000 ≤ 600000) (hks : ks + 4000 ≤ 7302250)
    (hk : ∀ (x1 : CS) (y1 : MS) (kc1 ks1 : Nat), P x1 y1 → kc1 ≤ kc + 2000 → ks1 ≤ ks + 4000 → V C 1911 [(0, .ref b), (1, .ref (K.1 + 0)), (2, .ref (K.1 + 61)), (3, .int i)] [] (xf K x1 y1) kc1 ks1) : V C 1395 [(0, .ref b), (1, .ref (K.1 + 0)), (2, .ref (K.1 + 61)), (3, .int i)] [] (xf K x y) kc ks := by
  obtain ⟨r, x1, e1, e2, hP1⟩ := S x y  hP
  refine v_aload_n F (dq dkL_law_24 23 rfl) rfl 1 rfl ?_
  refine v_callV 0 F (q := 0) (kc1 := kc + 112) (ks1 := ks + 224) (as := []) (st := []) (st1 := [.int r]) (res := (some (.int r))) (c_X10_which (l := C.2.1) x y  e1) (xn (by decide)) xc_0 rfl (tc45 _ (List.mem_of_getElem? (i := 12) rfl)) (tc45 _ (List.mem_of_getElem? (i := 13) rfl)) (tc45 _ (List.mem_of_getElem? (i := 14) rfl)) (tc1 _ (List.mem_of_getElem? (i := 2) rfl)) (tc45 _ (List.mem_of_getElem? (i := 15) rfl)) (by decide) rfl ⟨rfl, rfl, Nat.le_of_ble_eq_true rfl, Nat.le_of_ble_eq_true rfl⟩ ⟨by show kc + 112 ≤ 600000; omega, by show ks + 224 ≤ 7302250; omega⟩ rfl (Nat.le_of_ble_eq_true rfl) rfl rfl rfl (dq dkL_law_24 24 rfl) ?_
  refine v_aload_n F (dq dkL_law_24 25 rfl) rfl 2 rfl ?_
  obtain ⟨nn, hnn⟩ : ∃ nn, gn x1 = 27 + nn := ⟨gn x1 - 27, by have := hge _ _ hP1; omega⟩
  refine v_eqM (xfM_of hnn) ?_
  refine v_callV 0 F (q := 61) (kc1 := kc + 112) (ks1 := ks + 224) (as := []) (st := [.int r]) (st1 := [.int r, .int r]) (res := (some (.int r))) (c_X11_which (l := C.2.1) x1 y  e2) (xnM (by decide)) xc_61 rfl (tc46 _ (List.mem_of_getElem? (i := 8) rfl)) (tc46 _ (List.mem_of_getElem? (i := 9) rfl)) (tc46 _ (List.mem_of_getElem? (i := 10) rfl)) (tc1 _ (List.mem_of_getElem? (i := 5) rfl)) (tc46 _ (List.mem_of_getElem? (i := 11) rfl)) (by decide) rfl ⟨rfl, rfl, Nat.le_of_ble_eq_true rfl, Nat.le_of_ble_eq_true rfl⟩ ⟨by show kc + 112 + 0 ≤ 600000; omega, by show ks + 224 + 0 ≤ 7302250; omega⟩ rfl (Nat.le_of_ble_eq_true rfl) rfl rfl rfl (dq dkL_law_24 26 rfl) ?_
  refine v_eqM (xfM_of hnn).symm ?_
  refine v_icmp_eq F (tgt := 1911) (dq dkL_law_24 27 rfl) (by decide) (fun _ => ?_) (fun c => absurd rfl c)
  exact hk x1 y (kc + 112) (ks + 224) hP1 (by omega) (by omega)
def sim_boring (P : CS → MS → Prop) : Prop := ∀ (x : CS) (y : MS) (a0 : Int32) (a1 : Int32), P x y → ∃ (r : Int64) (x1 : CS) (y1 : MS), f_X10_boring x a0 a1 = some (r, x1) ∧ f_X11_boring y a0 a1 = some (r, y1) ∧ P x1 y1
set_option maxRecDepth 100000 in
set_option maxHeartbeats 4000000 in
theorem lw_case_33 {C : Cx} {K : KE} {P : CS → MS → Prop} {b L : Nat} {xs : Nat → Int32} {i : Int32} (S : sim_boring P) (hge : ∀ x y, P x y → 27 ≤ gn x) (F : Fx C RL cL_law 4 room_1 K) (hX : va_X b L xs C.2.2.2.2.1 C.2.2.2.2.1.heap) (hbl : b < C.2.2.2.2.1.heap.size) (hbA : ¬ gA K.1 b) (h1 : vp_in (i + 1) L) (h2 : vp_in (i + 2) L) (h3 : vp_in (i + 3) L) (h4 : vp_in (i + 4) L) (h5 : vp_in (i + 5) L) (x : CS) (y : MS) (hP : P x y) (kc ks : Nat) (hkc : kc + 2000 ≤ 600000) (hks : ks + 4000 ≤ 7302250)
    (hk : ∀ (x1 : CS) (y1 : MS) (kc1 ks1 : Nat), P x1 y1 → kc1 ≤ kc + 2000 → ks1 ≤ ks + 4000 → V C 1911 [(0, .ref b), (1, .ref (K.1 + 0)), (2, .ref (K.1 + 61)), (3, .int i)] [] (xf K x1 y1) kc1 ks1) : V C 1408 [(0, .ref b), (1, .ref (K.1 + 0)), (2, .ref (K.1 + 61)), (3, .int i)] [] (xf K x y) kc ks := by
  obtain ⟨r, x1, y1, e1, e2, hP1⟩ := S x y (xs (i + 1).toNatClampNeg) (xs (i + 2).toNatClampNeg) hP
  refine v_aload_n F (dq dkL_law_24 30 rfl) rfl 1 rfl ?_
  refine v_aload_n F (dq dkL_law_24 31 rfl) rfl 0 rfl ?_
  refine v_iload_n F (dq dkL_law_24 32 rfl) rfl 3 rfl ?_
  refine v_iconst F (v := 1) (dq dkL_law_24 33 rfl) ki_1 ?_
  refine v_iadd F (dq dkL_law_24 34 rfl) ?_
  refine v_sld F hX hbl hbA h1 (dq dkL_law_24 35 rfl) ?_
  refine v_aload_n F (dq dkL_law_24 36 rfl) rfl 0 rfl ?_
  refine v_iload_n F (dq dkL_law_24 37 rfl) rfl 3 rfl ?_
  refine v_iconst F (v := 2) (dq dkL_law_24 38 rfl) ki_2 ?_
  refine v_iadd F (dq dkL_law_24 39 rfl) ?_
  refine v_sld F hX hbl hbA h2 (dq dkL_law_25 0 rfl) ?_
  refine v_callV 2 F (q := 0) (kc1 := kc + 126) (ks1 := ks + 252) (as := [.int (xs (i + 1).toNatClampNeg), .int (xs (i + 2).toNatClampNeg)]) (st := []) (st1 := [.long r]) (res := (some (.long r))) (c_X10_boring (l := C.2.1) x y (xs (i + 1).toNatClampNeg) (xs (i + 2).toNatClampNeg) e1) (xn (by decide)) xc_0 rfl (tc46 _ (List.mem_of_getElem? (i := 16) rfl)) (tc46 _ (List.mem_of_getElem? (i := 17) rfl)) (tc46 _ (List.mem_of_getElem? (i := 18) rfl)) (tc1 _ (List.mem_of_getElem? (i := 2) rfl)) (tc46 _ (List.mem_of_getElem? (i := 19) rfl)) (by decide) rfl ⟨rfl, rfl, Nat.le_of_ble_eq_true rfl, Nat.le_of_ble_eq_true rfl⟩ ⟨by show kc + 126 ≤ 600000; omega, by show ks + 252 ≤ 7302250; omega⟩ rfl (Nat.le_of_ble_eq_true rfl) rfl rfl rfl (dq dkL_law_25 1 rfl) ?_
  refine v_aload_n F (dq dkL_law_25 2 rfl) rfl 2 rfl ?_
  refine v_aload_n F (dq dkL_law_25 3 rfl) rfl 0 rfl ?_
  refine v_iload_n F (dq dkL_law_25 4 rfl) rfl 3 rfl ?_
  refine v_iconst F (v := 1) (dq dkL_law_25 5 rfl) ki_1 ?_
  refine v_iadd F (dq dkL_law_25 6 rfl) ?_
  refine v_sld F hX hbl hbA h1 (dq dkL_law_25 7 rfl) ?_
  refine v_aload_n F (dq dkL_law_25 8 rfl) rfl 0 rfl ?_
  refine v_iload_n F (dq dkL_law_25 9 rfl) rfl 3 rfl ?_
  refine v_iconst F (v := 2) (dq dkL_law_25 10 rfl) ki_2 ?_
  refine v_iadd F (dq dkL_law_25 11 rfl) ?_
  refine v_sld F hX hbl hbA h2 (dq dkL_law_25 12 rfl) ?_
  obtain ⟨nn, hnn⟩ : ∃ nn, gn x1 = 27 + nn := ⟨gn x1 - 27, by have := hge _ _ hP1; omega⟩
  refine v_eqM (xfM_of hnn) ?_
  refine v_callV 2 F (q := 61) (kc1 := kc + 126) (ks1 := ks + 252) (as := [.int (xs (i + 1).toNatClampNeg), .int (xs (i + 2).toNatClampNeg)]) (st := [.long r]) (st1 := [.long r, .long r]) (res := (some (.long r))) (c_X11_boring (l := C.2.1) x1 y (xs (i + 1).toNatClampNeg) (xs (i + 2).toNatClampNeg) e2) (xnM (by decide)) xc_61 rfl (tc47 _ (List.mem_of_getElem? (i := 4) rfl)) (tc47 _ (List.mem_of_getElem? (i := 5) rfl)) (tc47 _ (List.mem_of_getElem? (i := 6) rfl)) (tc1 _ (List.mem_of_getElem? (i := 5) rfl)) (tc47 _ (List.mem_of_getElem? (i := 7) rfl)) (by decide) rfl ⟨rfl, rfl, Nat.le_of_ble_eq_true rfl, Nat.le_of_ble_eq_true rfl⟩ ⟨by show kc + 126 + 0 ≤ 600000; omega, by show ks + 252 + 0 ≤ 7302250; omega⟩ rfl (Nat.le_of_ble_eq_true rfl) rfl rfl rfl (dq dkL_law_25 13 rfl) ?_
  refine v_eqM (xfM_of hnn).symm ?_
  refine v_lcmp F (dq dkL_law_25 14 rfl) ?_
  refine v_if_eq F (tgt := 1911) (dq dkL_law_25 15 rfl) (by decide) (fun _ => ?_) (fun c => absurd (lgc_0 r) c)
  exact hk x1 y1 (kc + 126) (ks + 252) hP1 (by omega) (by omega)
def sim_hole (P : CS → MS → Prop) : Prop := ∀ (x : CS) (y : MS), P x y → ∃ (r : Int32) (x1 : CS) (y1 : MS), f_X10_hole x = some (r, x1) ∧ f_X11_hole y = some (r, y1) ∧ P x1 y1
set_option maxRecDepth 100000 in
set_option maxHeartbeats 4000000 in
theorem lw_case_34 {C : Cx} {K : KE} {P : CS → MS → Prop} {b L : Nat} {xs : Nat → Int32} {i : Int32} (S : sim_hole P) (hge : ∀ x y, P x y → 27 ≤ gn x) (F : Fx C RL cL_law 4 room_1 K) (hX : va_X b L xs C.2.2.2.2.1 C.2.2.2.2.1.heap) (hbl : b < C.2.2.2.2.1.heap.size) (hbA : ¬ gA K.1 b) (h1 : vp_in (i + 1) L) (h2 : vp_in (i + 2) L) (h3 : vp_in (i + 3) L) (h4 : vp_in (i + 4) L) (h5 : vp_in (i + 5) L) (x : CS) (y : MS) (hP : P x y) (kc ks : Nat) (hkc : kc + 2000 ≤ 600000) (hks : ks + 4000 ≤ 7302250)
    (hk : ∀ (x1 : CS) (y1 : MS) (kc1 ks1 : Nat), P x1 y1 → kc1 ≤ kc + 2000 → ks1 ≤ ks + 4000 → V C 1911 [(0, .ref b), (1, .ref (K.1 + 0)), (2, .ref (K.1 + 61)), (3, .int i)] [] (xf K x1 y1) kc1 ks1) : V C 1442 [(0, .ref b), (1, .ref (K.1 + 0)), (2, .ref (K.1 + 61)), (3, .int i)] [] (xf K x y) kc ks := by
  obtain ⟨r, x1, y1, e1, e2, hP1⟩ := S x y  hP
  refine v_aload_n F (dq dkL_law_25 18 rfl) rfl 1 rfl ?_
  refine v_callV 0 F (q := 0) (kc1 := kc + 1009) (ks1 := ks + 2018) (as := []) (st := []) (st1 := [.int r]) (res := (some (.int r))) (c_X10_hole (l := C.2.1) x y  e1) (xn (by decide)) xc_0 rfl (tc47 _ (List.mem_of_getElem? (i := 13) rfl)) (tc47 _ (List.mem_of_getElem? (i := 14) rfl)) (tc47 _ (List.mem_of_getElem? (i := 15) rfl)) (tc1 _ (List.mem_of_getElem? (i := 2) rfl)) (tc47 _ (List.mem_of_getElem? (i := 16) rfl)) (by decide) rfl ⟨rfl, rfl, Nat.le_of_ble_eq_true rfl, Nat.le_of_ble_eq_true rfl⟩ ⟨by show kc + 1009 ≤ 600000; omega, by show ks + 2018 ≤ 7302250; omega⟩ rfl (Nat.le_of_ble_eq_true rfl) rfl rfl rfl (dq dkL_law_25 19 rfl) ?_
  refine v_aload_n F (dq dkL_law_25 20 rfl) rfl 2 rfl ?_
  obtain ⟨nn, hnn⟩ : ∃ nn, gn x1 = 27 + nn := ⟨gn x1 - 27, by have := hge _ _ hP1; omega⟩
  refine v_eqM (xfM_of hnn) ?_
  refine v_callV 0 F (q := 61) (kc1 := kc + 1009) (ks1 := ks + 2018) (as := []) (st := [.int r]) (st1 := [.int r, .int r]) (res := (some (.int r))) (c_X11_hole (l := C.2.1) x1 y  e2) (xnM (by decide)) xc_61 rfl (tc47 _ (List.mem_of_getElem? (i := 18) rfl)) (tc47 _ (List.mem_of_getElem? (i := 19) rfl)) (tc47 _ (List.mem_of_getElem? (i := 20) rfl)) (tc1 _ (List.mem_of_getElem? (i := 5) rfl)) (tc47 _ (List.mem_of_getElem? (i := 21) rfl)) (by decide) rfl ⟨rfl, rfl, Nat.le_of_ble_eq_true rfl, Nat.le_of_ble_eq_true rfl⟩ ⟨by show kc + 1009 + 0 ≤ 600000; omega, by show ks + 2018 + 0 ≤ 7302250; omega⟩ rfl (Nat.le_of_ble_eq_true rfl) rfl rfl rfl (dq dkL_law_25 21 rfl) ?_
  refine v_eqM (xfM_of hnn).symm ?_
  refine v_icmp_eq F (tgt := 1911) (dq dkL_law_25 22 rfl) (by decide) (fun _ => ?_) (fun c => absurd rfl c)
  exact hk x1 y1 (kc + 1009) (ks + 2018) hP1 (by omega) (by omega)
def sim_fell (P : CS → MS → Prop) : Prop := ∀ (x : CS) (y : MS) (a0 : Int32) (a1 : Int32) (a2 : Int32), P x y → ∃ (r : Int32), f_X10_fell x a0 a1 a2 = some r ∧ f_X11_fell y a0 a1 a2 = some r
set_option maxRecDepth 100000 in
set_option maxHeartbeats 4000000 in
theorem lw_case_35 {C : Cx} {K : KE} {P : CS → MS → Prop} {b L : Nat} {xs : Nat → Int32} {i : Int32} (S : sim_fell P) (hge : ∀ x y, P x y → 27 ≤ gn x) (F : Fx C RL cL_law 4 room_1 K) (hX : va_X b L xs C.2.2.2.2.1 C.2.2.2.2.1.heap) (hbl : b < C.2.2.2.2.1.heap.size) (hbA : ¬ gA K.1 b) (h1 : vp_in (i + 1) L) (h2 : vp_in (i + 2) L) (h3 : vp_in (i + 3) L) (h4 : vp_in (i + 4) L) (h5 : vp_in (i + 5) L) (x : CS) (y : MS) (hP : P x y) (kc ks : Nat) (hkc : kc + 2000 ≤ 600000) (hks : ks + 4000 ≤ 7302250)
    (hk : ∀ (x1 : CS) (y1 : MS) (kc1 ks1 : Nat), P x1 y1 → kc1 ≤ kc + 2000 → ks1 ≤ ks + 4000 → V C 1911 [(0, .ref b), (1, .ref (K.1 + 0)), (2, .ref (K.1 + 61)), (3, .int i)] [] (xf K x1 y1) kc1 ks1) : V C 1455 [(0, .ref b), (1, .ref (K.1 + 0)), (2, .ref (K.1 + 61)), (3, .int i)] [] (xf K x y) kc ks := by
  obtain ⟨r, e1, e2⟩ := S x y (xs (i + 1).toNatClampNeg) (xs (i + 2).toNatClampNeg) (xs (i + 3).toNatClampNeg) hP
  have hP1 := hP
  refine v_aload_n F (dq dkL_law_25 25 rfl) rfl 1 rfl ?_
  refine v_aload_n F (dq dkL_law_25 26 rfl) rfl 0 rfl ?_
  refine v_iload_n F (dq dkL_law_25 27 rfl) rfl 3 rfl ?_
  refine v_iconst F (v := 1) (dq dkL_law_25 28 rfl) ki_1 ?_
  refine v_iadd F (dq dkL_law_25 29 rfl) ?_
  refine v_sld F hX hbl hbA h1 (dq dkL_law_25 30 rfl) ?_
  refine v_aload_n F (dq dkL_law_25 31 rfl) rfl 0 rfl ?_
  refine v_iload_n F (dq dkL_law_25 32 rfl) rfl 3 rfl ?_
  refine v_iconst F (v := 2) (dq dkL_law_25 33 rfl) ki_2 ?_
  refine v_iadd F (dq dkL_law_25 34 rfl) ?_
  refine v_sld F hX hbl hbA h2 (dq dkL_law_25 35 rfl) ?_
  refine v_aload_n F (dq dkL_law_25 36 rfl) rfl 0 rfl ?_
  refine v_iload_n F (dq dkL_law_25 37 rfl) rfl 3 rfl ?_
  refine v_iconst F (v := 3) (dq dkL_law_25 38 rfl) ki_3 ?_
  refine v_iadd F (dq dkL_law_25 39 rfl) ?_
  refine v_sld F hX hbl hbA h3 (dq dkL_law_26 0 rfl) ?_
  refine v_callV 3 F (q := 0) (kc1 := kc) (ks1 := ks) (as := [.int (xs (i + 1).toNatClampNeg), .int (xs (i + 2).toNatClampNeg), .int (xs (i + 3).toNatClampNeg)]) (st := []) (st1 := [.int r]) (res := (some (.int r))) (c_X10_fell (l := C.2.1) x y (xs (i + 1).toNatClampNeg) (xs (i + 2).toNatClampNeg) (xs (i + 3).toNatClampNeg) e1) (xn (by decide)) xc_0 rfl (tc47 _ (List.mem_of_getElem? (i := 22) rfl)) (tc47 _ (List.mem_of_getElem? (i := 23) rfl)) (tc48 _ (List.mem_of_getElem? (i := 0) rfl)) (tc1 _ (List.mem_of_getElem? (i := 2) rfl)) (tc48 _ (List.mem_of_getElem? (i := 1) rfl)) (by decide) rfl ⟨rfl, rfl, Nat.le_of_ble_eq_true rfl, Nat.le_of_ble_eq_true rfl⟩ ⟨by show kc + 0 ≤ 600000; omega, by show ks + 0 ≤ 7302250; omega⟩ rfl (Nat.le_of_ble_eq_true rfl) rfl rfl rfl (dq dkL_law_26 1 rfl) ?_
  refine v_aload_n F (dq dkL_law_26 2 rfl) rfl 2 rfl ?_
  refine v_aload_n F (dq dkL_law_26 3 rfl) rfl 0 rfl ?_
  refine v_iload_n F (dq dkL_law_26 4 rfl) rfl 3 rfl ?_
  refine v_iconst F (v := 1) (dq dkL_law_26 5 rfl) ki_1 ?_
  refine v_iadd F (dq dkL_law_26 6 rfl) ?_
  refine v_sld F hX hbl hbA h1 (dq dkL_law_26 7 rfl) ?_
  refine v_aload_n F (dq dkL_law_26 8 rfl) rfl 0 rfl ?_
  refine v_iload_n F (dq dkL_law_26 9 rfl) rfl 3 rfl ?_
  refine v_iconst F (v := 2) (dq dkL_law_26 10 rfl) ki_2 ?_
  refine v_iadd F (dq dkL_law_26 11 rfl) ?_
  refine v_sld F hX hbl hbA h2 (dq dkL_law_26 12 rfl) ?_
  refine v_aload_n F (dq dkL_law_26 13 rfl) rfl 0 rfl ?_
  refine v_iload_n F (dq dkL_law_26 14 rfl) rfl 3 rfl ?_
  refine v_iconst F (v := 3) (dq dkL_law_26 15 rfl) ki_3 ?_
  refine v_iadd F (dq dkL_law_26 16 rfl) ?_
  refine v_sld F hX hbl hbA h3 (dq dkL_law_26 17 rfl) ?_
  obtain ⟨nn, hnn⟩ : ∃ nn, gn x = 27 + nn := ⟨gn x - 27, by have := hge _ _ hP1; omega⟩
  refine v_eqM (xfM_of hnn) ?_
  refine v_callV 3 F (q := 61) (kc1 := kc) (ks1 := ks) (as := [.int (xs (i + 1).toNatClampNeg), .int (xs (i + 2).toNatClampNeg), .int (xs (i + 3).toNatClampNeg)]) (st := [.int r]) (st1 := [.int r, .int r]) (res := (some (.int r))) (c_X11_fell (l := C.2.1) x y (xs (i + 1).toNatClampNeg) (xs (i + 2).toNatClampNeg) (xs (i + 3).toNatClampNeg) e2) (xnM (by decide)) xc_61 rfl (tc48 _ (List.mem_of_getElem? (i := 8) rfl)) (tc48 _ (List.mem_of_getElem? (i := 9) rfl)) (tc48 _ (List.mem_of_getElem? (i := 10) rfl)) (tc1 _ (List.mem_of_getElem? (i := 5) rfl)) (tc48 _ (List.mem_of_getElem? (i := 11) rfl)) (by decide) rfl ⟨rfl, rfl, Nat.le_of_ble_eq_true rfl, Nat.le_of_ble_eq_true rfl⟩ ⟨by show kc + 0 ≤ 600000; omega, by show ks + 0 ≤ 7302250; omega⟩ rfl (Nat.le_of_ble_eq_true rfl) rfl rfl rfl (dq dkL_law_26 18 rfl) ?_
  refine v_eqM (xfM_of hnn).symm ?_
  refine v_icmp_eq F (tgt := 1911) (dq dkL_law_26 19 rfl) (by decide) (fun _ => ?_) (fun c => absurd rfl c)
  exact hk x y (kc) (ks) hP1 (by omega) (by omega)
def sim_forest (P : CS → MS → Prop) : Prop := ∀ (x : CS) (y : MS) (a0 : Int32) (a1 : Int32) (a2 : Int32), P x y → ∃ (r : Int32) (x1 : CS) (y1 : MS), f_X10_forest x a0 a1 a2 = some (r, x1) ∧ f_X11_forest y a0 a1 a2 = some (r, y1) ∧ P x1 y1
set_option maxRecDepth 100000 in
set_option maxHeartbeats 4000000 in
theorem lw_case_36 {C : Cx} {K : KE} {P : CS → MS → Prop} {b L : Nat} {xs : Nat → Int32} {i : Int32} (S : sim_forest P) (hge : ∀ x y, P x y → 27 ≤ gn x) (F : Fx C RL cL_law 4 room_1 K) (hX : va_X b L xs C.2.2.2.2.1 C.2.2.2.2.1.heap) (hbl : b < C.2.2.2.2.1.heap.size) (hbA : ¬ gA K.1 b) (h1 : vp_in (i + 1) L) (h2 : vp_in (i + 2) L) (h3 : vp_in (i + 3) L) (h4 : vp_in (i + 4) L) (h5 : vp_in (i + 5) L) (x : CS) (y : MS) (hP : P x y) (kc ks : Nat) (hkc : kc + 2000 ≤ 600000) (hks : ks + 4000 ≤ 7302250)
    (hk : ∀ (x1 : CS) (y1 : MS) (kc1 ks1 : Nat), P x1 y1 → kc1 ≤ kc + 2000 → ks1 ≤ ks + 4000 → V C 1911 [(0, .ref b), (1, .ref (K.1 + 0)), (2, .ref (K.1 + 61)), (3, .int i)] [] (xf K x1 y1) kc1 ks1) : V C 1498 [(0, .ref b), (1, .ref (K.1 + 0)), (2, .ref (K.1 + 61)), (3, .int i)] [] (xf K x y) kc ks := by
  obtain ⟨r, x1, y1, e1, e2, hP1⟩ := S x y (xs (i + 1).toNatClampNeg) (xs (i + 2).toNatClampNeg) (xs (i + 3).toNatClampNeg) hP
  refine v_aload_n F (dq dkL_law_26 22 rfl) rfl 1 rfl ?_
  refine v_aload_n F (dq dkL_law_26 23 rfl) rfl 0 rfl ?_
  refine v_iload_n F (dq dkL_law_26 24 rfl) rfl 3 rfl ?_
  refine v_iconst F (v := 1) (dq dkL_law_26 25 rfl) ki_1 ?_
  refine v_iadd F (dq dkL_law_26 26 rfl) ?_
  refine v_sld F hX hbl hbA h1 (dq dkL_law_26 27 rfl) ?_
  refine v_aload_n F (dq dkL_law_26 28 rfl) rfl 0 rfl ?_
  refine v_iload_n F (dq dkL_law_26 29 rfl) rfl 3 rfl ?_
  refine v_iconst F (v := 2) (dq dkL_law_26 30 rfl) ki_2 ?_
  refine v_iadd F (dq dkL_law_26 31 rfl) ?_
  refine v_sld F hX hbl hbA h2 (dq dkL_law_26 32 rfl) ?_
  refine v_aload_n F (dq dkL_law_26 33 rfl) rfl 0 rfl ?_
  refine v_iload_n F (dq dkL_law_26 34 rfl) rfl 3 rfl ?_
  refine v_iconst F (v := 3) (dq dkL_law_26 35 rfl) ki_3 ?_
  refine v_iadd F (dq dkL_law_26 36 rfl) ?_
  refine v_sld F hX hbl hbA h3 (dq dkL_law_26 37 rfl) ?_
  refine v_callV 3 F (q := 0) (kc1 := kc) (ks1 := ks) (as := [.int (xs (i + 1).toNatClampNeg), .int (xs (i + 2).toNatClampNeg), .int (xs (i + 3).toNatClampNeg)]) (st := []) (st1 := [.int r]) (res := (some (.int r))) (c_X10_forest (l := C.2.1) x y (xs (i + 1).toNatClampNeg) (xs (i + 2).toNatClampNeg) (xs (i + 3).toNatClampNeg) e1) (xn (by decide)) xc_0 rfl (tc48 _ (List.mem_of_getElem? (i := 12) rfl)) (tc48 _ (List.mem_of_getElem? (i := 13) rfl)) (tc48 _ (List.mem_of_getElem? (i := 14) rfl)) (tc1 _ (List.mem_of_getElem? (i := 2) rfl)) (tc48 _ (List.mem_of_getElem? (i := 15) rfl)) (by decide) rfl ⟨rfl, rfl, Nat.le_of_ble_eq_true rfl, Nat.le_of_ble_eq_true rfl⟩ ⟨by show kc + 0 ≤ 600000; omega, by show ks + 0 ≤ 7302250; omega⟩ rfl (Nat.le_of_ble_eq_true rfl) rfl rfl rfl (dq dkL_law_26 38 rfl) ?_
  refine v_aload_n F (dq dkL_law_26 39 rfl) rfl 2 rfl ?_
  refine v_aload_n F (dq dkL_law_27 0 rfl) rfl 0 rfl ?_
  refine v_iload_n F (dq dkL_law_27 1 rfl) rfl 3 rfl ?_
  refine v_iconst F (v := 1) (dq dkL_law_27 2 rfl) ki_1 ?_
  refine v_iadd F (dq dkL_law_27 3 rfl) ?_
  refine v_sld F hX hbl hbA h1 (dq dkL_law_27 4 rfl) ?_
  refine v_aload_n F (dq dkL_law_27 5 rfl) rfl 0 rfl ?_
  refine v_iload_n F (dq dkL_law_27 6 rfl) rfl 3 rfl ?_
  refine v_iconst F (v := 2) (dq dkL_law_27 7 rfl) ki_2 ?_
  refine v_iadd F (dq dkL_law_27 8 rfl) ?_
  refine v_sld F hX hbl hbA h2 (dq dkL_law_27 9 rfl) ?_
  refine v_aload_n F (dq dkL_law_27 10 rfl) rfl 0 rfl ?_
  refine v_iload_n F (dq dkL_law_27 11 rfl) rfl 3 rfl ?_
  refine v_iconst F (v := 3) (dq dkL_law_27 12 rfl) ki_3 ?_
  refine v_iadd F (dq dkL_law_27 13 rfl) ?_
  refine v_sld F hX hbl hbA h3 (dq dkL_law_27 14 rfl) ?_
  obtain ⟨nn, hnn⟩ : ∃ nn, gn x1 = 27 + nn := ⟨gn x1 - 27, by have := hge _ _ hP1; omega⟩
  refine v_eqM (xfM_of hnn) ?_
  refine v_callV 3 F (q := 61) (kc1 := kc) (ks1 := ks) (as := [.int (xs (i + 1).toNatClampNeg), .int (xs (i + 2).toNatClampNeg), .int (xs (i + 3).toNatClampNeg)]) (st := [.int r]) (st1 := [.int r, .int r]) (res := (some (.int r))) (c_X11_forest (l := C.2.1) x1 y (xs (i + 1).toNatClampNeg) (xs (i + 2).toNatClampNeg) (xs (i + 3).toNatClampNeg) e2) (xnM (by decide)) xc_61 rfl (tc48 _ (List.mem_of_getElem? (i := 20) rfl)) (tc48 _ (List.mem_of_getElem? (i := 21) rfl)) (tc48 _ (List.mem_of_getElem? (i := 22) rfl)) (tc1 _ (List.mem_of_getElem? (i := 5) rfl)) (tc48 _ (List.mem_of_getElem? (i := 23) rfl)) (by decide) rfl ⟨rfl, rfl, Nat.le_of_ble_eq_true rfl, Nat.le_of_ble_eq_true rfl⟩ ⟨by show kc + 0 ≤ 600000; omega, by show ks + 0 ≤ 7302250; omega⟩ rfl (Nat.le_of_ble_eq_true rfl) rfl rfl rfl (dq dkL_law_27 15 rfl) ?_
  refine v_eqM (xfM_of hnn).symm ?_
  refine v_icmp_eq F (tgt := 1911) (dq dkL_law_27 16 rfl) (by decide) (fun _ => ?_) (fun c => absurd rfl c)
  exact hk x1 y1 (kc) (ks) hP1 (by omega) (by omega)
def sim_dries (P : CS → MS → Prop) : Prop := ∀ (x : CS) (y : MS) (a0 : Int32) (a1 : Int32), P x y → ∃ (r : Int32) (x1 : CS) (y1 : MS), f_X10_dries x a0 a1 = some (r, x1) ∧ f_X11_dries y a0 a1 = some (r, y1) ∧ P x1 y1
set_option maxRecDepth 100000 in
set_option maxHeartbeats 4000000 in
theorem lw_case_37 {C : Cx} {K : KE} {P : CS → MS → Prop} {b L : Nat} {xs : Nat → Int32} {i : Int32} (S : sim_dries P) (hge : ∀ x y, P x y → 27 ≤ gn x) (F : Fx C RL cL_law 4 room_1 K) (hX : va_X b L xs C.2.2.2.2.1 C.2.2.2.2.1.heap) (hbl : b < C.2.2.2.2.1.heap.size) (hbA : ¬ gA K.1 b) (h1 : vp_in (i + 1) L) (h2 : vp_in (i + 2) L) (h3 : vp_in (i + 3) L) (h4 : vp_in (i + 4) L) (h5 : vp_in (i + 5) L) (x : CS) (y : MS) (hP : P x y) (kc ks : Nat) (hkc : kc + 2000 ≤ 600000) (hks : ks + 4000 ≤ 7302250)
    (hk : ∀ (x1 : CS) (y1 : MS) (kc1 ks1 : Nat), P x1 y1 → kc1 ≤ kc + 2000 → ks1 ≤ ks + 4000 → V C 1911 [(0, .ref b), (1, .ref (K.1 + 0)), (2, .ref (K.1 + 61)), (3, .int i)] [] (xf K x1 y1) kc1 ks1) : V C 1541 [(0, .ref b), (1, .ref (K.1 + 0)), (2, .ref (K.1 + 61)), (3, .int i)] [] (xf K x y) kc ks := by
  obtain ⟨r, x1, y1, e1, e2, hP1⟩ := S x y (xs (i + 1).toNatClampNeg) (xs (i + 2).toNatClampNeg) hP
  refine v_aload_n F (dq dkL_law_27 19 rfl) rfl 1 rfl ?_
  refine v_aload_n F (dq dkL_law_27 20 rfl) rfl 0 rfl ?_
  refine v_iload_n F (dq dkL_law_27 21 rfl) rfl 3 rfl ?_
  refine v_iconst F (v := 1) (dq dkL_law_27 22 rfl) ki_1 ?_
  refine v_iadd F (dq dkL_law_27 23 rfl) ?_
  refine v_sld F hX hbl hbA h1 (dq dkL_law_27 24 rfl) ?_
  refine v_aload_n F (dq dkL_law_27 25 rfl) rfl 0 rfl ?_
  refine v_iload_n F (dq dkL_law_27 26 rfl) rfl 3 rfl ?_
  refine v_iconst F (v := 2) (dq dkL_law_27 27 rfl) ki_2 ?_
  refine v_iadd F (dq dkL_law_27 28 rfl) ?_
  refine v_sld F hX hbl hbA h2 (dq dkL_law_27 29 rfl) ?_
  refine v_callV 2 F (q := 0) (kc1 := kc) (ks1 := ks) (as := [.int (xs (i + 1).toNatClampNeg), .int (xs (i + 2).toNatClampNeg)]) (st := []) (st1 := [.int r]) (res := (some (.int r))) (c_X10_dries (l := C.2.1) x y (xs (i + 1).toNatClampNeg) (xs (i + 2).toNatClampNeg) e1) (xn (by decide)) xc_0 rfl (tc49 _ (List.mem_of_getElem? (i := 0) rfl)) (tc49 _ (List.mem_of_getElem? (i := 1) rfl)) (tc49 _ (List.mem_of_getElem? (i := 2) rfl)) (tc1 _ (List.mem_of_getElem? (i := 2) rfl)) (tc49 _ (List.mem_of_getElem? (i := 3) rfl)) (by decide) rfl ⟨rfl, rfl, Nat.le_of_ble_eq_true rfl, Nat.le_of_ble_eq_true rfl⟩ ⟨by show kc + 0 ≤ 600000; omega, by show ks + 0 ≤ 7302250; omega⟩ rfl (Nat.le_of_ble_eq_true rfl) rfl rfl rfl (dq dkL_law_27 30 rfl) ?_
  refine v_aload_n F (dq dkL_law_27 31 rfl) rfl 2 rfl ?_
  refine v_aload_n F (dq dkL_law_27 32 rfl) rfl 0 rfl ?_
  refine v_iload_n F (dq dkL_law_27 33 rfl) rfl 3 rfl ?_
  refine v_iconst F (v := 1) (dq dkL_law_27 34 rfl) ki_1 ?_
  refine v_iadd F (dq dkL_law_27 35 rfl) ?_
  refine v_sld F hX hbl hbA h1 (dq dkL_law_27 36 rfl) ?_
  refine v_aload_n F (dq dkL_law_27 37 rfl) rfl 0 rfl ?_
  refine v_iload_n F (dq dkL_law_27 38 rfl) rfl 3 rfl ?_
  refine v_iconst F (v := 2) (dq dkL_law_27 39 rfl) ki_2 ?_
  refine v_iadd F (dq dkL_law_28 0 rfl) ?_
  refine v_sld F hX hbl hbA h2 (dq dkL_law_28 1 rfl) ?_
  obtain ⟨nn, hnn⟩ : ∃ nn, gn x1 = 27 + nn := ⟨gn x1 - 27, by have := hge _ _ hP1; omega⟩
  refine v_eqM (xfM_of hnn) ?_
  refine v_callV 2 F (q := 61) (kc1 := kc) (ks1 := ks) (as := [.int (xs (i + 1).toNatClampNeg), .int (xs (i + 2).toNatClampNeg)]) (st := [.int r]) (st1 := [.int r, .int r]) (res := (some (.int r))) (c_X11_dries (l := C.2.1) x1 y (xs (i + 1).toNatClampNeg) (xs (i + 2).toNatClampNeg) e2) (xnM (by decide)) xc_61 rfl (tc49 _ (List.mem_of_getElem? (i := 8) rfl)) (tc49 _ (List.mem_of_getElem? (i := 9) rfl)) (tc49 _ (List.mem_of_getElem? (i := 10) rfl)) (tc1 _ (List.mem_of_getElem? (i := 5) rfl)) (tc49 _ (List.mem_of_getElem? (i := 11) rfl)) (by decide) rfl ⟨rfl, rfl, Nat.le_of_ble_eq_true rfl, Nat.le_of_ble_eq_true rfl⟩ ⟨by show kc + 0 ≤ 600000; omega, by show ks + 0 ≤ 7302250; omega⟩ rfl (Nat.le_of_ble_eq_true rfl) rfl rfl rfl (dq dkL_law_28 2 rfl) ?_
  refine v_eqM (xfM_of hnn).symm ?_
  refine v_icmp_eq F (tgt := 1911) (dq dkL_law_28 3 rfl) (by decide) (fun _ => ?_) (fun c => absurd rfl c)
  exact hk x1 y1 (kc) (ks) hP1 (by omega) (by omega)
def sim_shade (P : CS → MS → Prop) : Prop := ∀ (x : CS) (y : MS) (a0 : Int32), P x y → ∃ (r : Int32) (x1 : CS) (y1 : MS), f_X10_shade x a0 = some (r, x1) ∧ f_X11_shade y a0 = some (r, y1) ∧ P x1 y1
set_option maxRecDepth 100000 in
set_option maxHeartbeats 4000000 in
theorem lw_case_38 {C : Cx} {K : KE} {P : CS → MS → Prop} {b L : Nat} {xs : Nat → Int32} {i : Int32} (S : sim_shade P) (hge : ∀ x y, P x y → 27 ≤ gn x) (F : Fx C RL cL_law 4 room_1 K) (hX : va_X b L xs C.2.2.2.2.1 C.2.2.2.2.1.heap) (hbl : b < C.2.2.2.2.1.heap.size) (hbA : ¬ gA K.1 b) (h1 : vp_in (i + 1) L) (h2 : vp_in (i + 2) L) (h3 : vp_in (i + 3) L) (h4 : vp_in (i + 4) L) (h5 : vp_in (i + 5) L) (x : CS) (y : MS) (hP : P x y) (kc ks : Nat) (hkc : kc + 2000 ≤ 600000) (hks : ks + 4000 ≤ 7302250)
    (hk : ∀ (x1 : CS) (y1 : MS) (kc1 ks1 : Nat), P x1 y1 → kc1 ≤ kc + 2000 → ks1 ≤ ks + 4000 → V C 1911 [(0, .ref b), (1, .ref (K.1 + 0)), (2, .ref (K.1 + 61)), (3, .int i)] [] (xf K x1 y1) kc1 ks1) : V C 1574 [(0, .ref b), (1, .ref (K.1 + 0)), (2, .ref (K.1 + 61)), (3, .int i)] [] (xf K x y) kc ks := by
  obtain ⟨r, x1, y1, e1, e2, hP1⟩ := S x y (xs (i + 1).toNatClampNeg) hP
  refine v_aload_n F (dq dkL_law_28 6 rfl) rfl 1 rfl ?_
  refine v_aload_n F (dq dkL_law_28 7 rfl) rfl 0 rfl ?_
  refine v_iload_n F (dq dkL_law_28 8 rfl) rfl 3 rfl ?_
  refine v_iconst F (v := 1) (dq dkL_law_28 9 rfl) ki_1 ?_
  refine v_iadd F (dq dkL_law_28 10 rfl) ?_
  refine v_sld F hX hbl hbA h1 (dq dkL_law_28 11 rfl) ?_
  refine v_callV 1 F (q := 0) (kc1 := kc) (ks1 := ks) (as := [.int (xs (i + 1).toNatClampNeg)]) (st := []) (st1 := [.int r]) (res := (some (.int r))) (c_X10_shade (l := C.2.1) x y (xs (i + 1).toNatClampNeg) e1) (xn (by decide)) xc_0 rfl (tc49 _ (List.mem_of_getElem? (i := 16) rfl)) (tc49 _ (List.mem_of_getElem? (i := 17) rfl)) (tc49 _ (List.mem_of_getElem? (i := 18) rfl)) (tc1 _ (List.mem_of_getElem? (i := 2) rfl)) (tc49 _ (List.mem_of_getElem? (i := 19) rfl)) (by decide) rfl ⟨rfl, rfl, Nat.le_of_ble_eq_true rfl, Nat.le_of_ble_eq_true rfl⟩ ⟨by show kc + 0 ≤ 600000; omega, by show ks + 0 ≤ 7302250; omega⟩ rfl (Nat.le_of_ble_eq_true rfl) rfl rfl rfl (dq dkL_law_28 12 rfl) ?_
  refine v_aload_n F (dq dkL_law_28 13 rfl) rfl 2 rfl ?_
  refine v_aload_n F (dq dkL_law_28 14 rfl) rfl 0 rfl ?_
  refine v_iload_n F (dq dkL_law_28 15 rfl) rfl 3 rfl ?_
  refine v_iconst F (v := 1) (dq dkL_law_28 16 rfl) ki_1 ?_
  refine v_iadd F (dq dkL_law_28 17 rfl) ?_
  refine v_sld F hX hbl hbA h1 (dq dkL_law_28 18 rfl) ?_
  obtain ⟨nn, hnn⟩ : ∃ nn, gn x1 = 27 + nn := ⟨gn x1 - 27, by have := hge _ _ hP1; omega⟩
  refine v_eqM (xfM_of hnn) ?_
  refine v_callV 1 F (q := 61) (kc1 := kc) (ks1 := ks) (as := [.int (xs (i + 1).toNatClampNeg)]) (st := [.int r]) (st1 := [.int r, .int r]) (res := (some (.int r))) (c_X11_shade (l := C.2.1) x1 y (xs (i + 1).toNatClampNeg) e2) (xnM (by decide)) xc_61 rfl (tc49 _ (List.mem_of_getElem? (i := 20) rfl)) (tc49 _ (List.mem_of_getElem? (i := 21) rfl)) (tc49 _ (List.mem_of_getElem? (i := 22) rfl)) (tc1 _ (List.mem_of_getElem? (i := 5) rfl)) (tc49 _ (List.mem_of_getElem? (i := 23) rfl)) (by decide) rfl ⟨rfl, rfl, Nat.le_of_ble_eq_true rfl, Nat.le_of_ble_eq_true rfl⟩ ⟨by show kc + 0 ≤ 600000; omega, by show ks + 0 ≤ 7302250; omega⟩ rfl (Nat.le_of_ble_eq_true rfl) rfl rfl rfl (dq dkL_law_28 19 rfl) ?_
  refine v_eqM (xfM_of hnn).symm ?_
  refine v_icmp_eq F (tgt := 1911) (dq dkL_law_28 20 rfl) (by decide) (fun _ => ?_) (fun c => absurd rfl c)
  exact hk x1 y1 (kc) (ks) hP1 (by omega) (by omega)
def sim_drawn (P : CS → MS → Prop) : Prop := ∀ (x : CS) (y : MS) (a0 : Int32) (a1 : Int32) (a2 : Int32) (a3 : Int32), P x y → ∃ (r : Int32) (x1 : CS) (y1 : MS), f_X10_drawn x a0 a1 a2 a3 = some (r, x1) ∧ f_X11_drawn y a0 a1 a2 a3 = some (r, y1) ∧ P x1 y1
set_option maxRecDepth 100000 in
set_option maxHeartbeats 4000000 in
theorem lw_case_39 {C : Cx} {K : KE} {P : CS → MS → Prop} {b L : Nat} {xs : Nat → Int32} {i : Int32} (S : sim_drawn P) (hge : ∀ x y, P x y → 27 ≤ gn x) (F : Fx C RL cL_law 4 room_1 K) (hX : va_X b L xs C.2.2.2.2.1 C.2.2.2.2.1.heap) (hbl : b < C.2.2.2.2.1.heap.size) (hbA : ¬ gA K.1 b) (h1 : vp_in (i + 1) L) (h2 : vp_in (i + 2) L) (h3 : vp_in (i + 3) L) (h4 : vp_in (i + 4) L) (h5 : vp_in (i + 5) L) (x : CS) (y : MS) (hP : P x y) (kc ks : Nat) (hkc : kc + 2000 ≤ 600000) (hks : ks + 4000 ≤ 7302250)
    (hk : ∀ (x1 : CS) (y1 : MS) (kc1 ks1 : Nat), P x1 y1 → kc1 ≤ kc + 2000 → ks1 ≤ ks + 4000 → V C 1911 [(0, .ref b), (1, .ref (K.1 + 0)), (2, .ref (K.1 + 61)), (3, .int i)] [] (xf K x1 y1) kc1 ks1) : V C 1597 [(0, .ref b), (1, .ref (K.1 + 0)), (2, .ref (K.1 + 61)), (3, .int i)] [] (xf K x y) kc ks := by
  obtain ⟨r, x1, y1, e1, e2, hP1⟩ := S x y (xs (i + 1).toNatClampNeg) (xs (i + 2).toNatClampNeg) (xs (i + 3).toNatClampNeg) (xs (i + 4).toNatClampNeg) hP
  refine v_aload_n F (dq dkL_law_28 23 rfl) rfl 1 rfl ?_
  refine v_aload_n F (dq dkL_law_28 24 rfl) rfl 0 rfl ?_
  refine v_iload_n F (dq dkL_law_28 25 rfl) rfl 3 rfl ?_
  refine v_iconst F (v := 1) (dq dkL_law_28 26 rfl) ki_1 ?_
  refine v_iadd F (dq dkL_law_28 27 rfl) ?_
  refine v_sld F hX hbl hbA h1 (dq dkL_law_28 28 rfl) ?_
  refine v_aload_n F (dq dkL_law_28 29 rfl) rfl 0 rfl ?_
  refine v_iload_n F (dq dkL_law_28 30 rfl) rfl 3 rfl ?_
  refine v_iconst F (v := 2) (dq dkL_law_28 31 rfl) ki_2 ?_
  refine v_iadd F (dq dkL_law_28 32 rfl) ?_
  refine v_sld F hX hbl hbA h2 (dq dkL_law_28 33 rfl) ?_
  refine v_aload_n F (dq dkL_law_28 34 rfl) rfl 0 rfl ?_
  refine v_iload_n F (dq dkL_law_28 35 rfl) rfl 3 rfl ?_
  refine v_iconst F (v := 3) (dq dkL_law_28 36 rfl) ki_3 ?_
  refine v_iadd F (dq dkL_law_28 37 rfl) ?_
  refine v_sld F hX hbl hbA h3 (dq dkL_law_28 38 rfl) ?_
  refine v_aload_n F (dq dkL_law_28 39 rfl) rfl 0 rfl ?_
  refine v_iload_n F (dq dkL_law_29 0 rfl) rfl 3 rfl ?_
  refine v_iconst F (v := 4) (dq dkL_law_29 1 rfl) ki_4 ?_
  refine v_iadd F (dq dkL_law_29 2 rfl) ?_
  refine v_sld F hX hbl hbA h4 (dq dkL_law_29 3 rfl) ?_
  refine v_callV 4 F (q := 0) (kc1 := kc) (ks1 := ks) (as := [.int (xs (i + 1).toNatClampNeg), .int (xs (i + 2).toNatClampNeg), .int (xs (i + 3).toNatClampNeg), .int (xs (i + 4).toNatClampNeg)]) (st := []) (st1 := [.int r]) (res := (some (.int r))) (c_X10_drawn (l := C.2.1) x y (xs (i + 1).toNatClampNeg) (xs (i + 2).toNatClampNeg) (xs (i + 3).toNatClampNeg) (xs (i + 4).toNatClampNeg) e1) (xn (by decide)) xc_0 rfl (tc50 _ (List.mem_of_getElem? (i := 0) rfl)) (tc50 _ (List.mem_of_getElem? (i := 1) rfl)) (tc50 _ (List.mem_of_getElem? (i := 2) rfl)) (tc1 _ (List.mem_of_getElem? (i := 2) rfl)) (tc50 _ (List.mem_of_getElem? (i := 3) rfl)) (by decide) rfl ⟨rfl, rfl, Nat.le_of_ble_eq_true rfl, Nat.le_of_ble_eq_true rfl⟩ ⟨by show kc + 0 ≤ 600000; omega, by show ks + 0 ≤ 7302250; omega⟩ rfl (Nat.le_of_ble_eq_true rfl) rfl rfl rfl (dq dkL_law_29 4 rfl) ?_
  refine v_aload_n F (dq dkL_law_29 5 rfl) rfl 2 rfl ?_
  refine v_aload_n F (dq dkL_law_29 6 rfl) rfl 0 rfl ?_
  refine v_iload_n F (dq dkL_law_29 7 rfl) rfl 3 rfl ?_
  refine v_iconst F (v := 1) (dq dkL_law_29 8 rfl) ki_1 ?_
  refine v_iadd F (dq dkL_law_29 9 rfl) ?_
  refine v_sld F hX hbl hbA h1 (dq dkL_law_29 10 rfl) ?_
  refine v_aload_n F (dq dkL_law_29 11 rfl) rfl 0 rfl ?_
  refine v_iload_n F (dq dkL_law_29 12 rfl) rfl 3 rfl ?_
  refine v_iconst F (v := 2) (dq dkL_law_29 13 rfl) ki_2 ?_
  refine v_iadd F (dq dkL_law_29 14 rfl) ?_
  refine v_sld F hX hbl hbA h2 (dq dkL_law_29 15 rfl) ?_
  refine v_aload_n F (dq dkL_law_29 16 rfl) rfl 0 rfl ?_
  refine v_iload_n F (dq dkL_law_29 17 rfl) rfl 3 rfl ?_
  refine v_iconst F (v := 3) (dq dkL_law_29 18 rfl) ki_3 ?_
  refine v_iadd F (dq dkL_law_29 19 rfl) ?_
  refine v_sld F hX hbl hbA h3 (dq dkL_law_29 20 rfl) ?_
  refine v_aload_n F (dq dkL_law_29 21 rfl) rfl 0 rfl ?_
  refine v_iload_n F (dq dkL_law_29 22 rfl) rfl 3 rfl ?_
  refine v_iconst F (v := 4) (dq dkL_law_29 23 rfl) ki_4 ?_
  refine v_iadd F (dq dkL_law_29 24 rfl) ?_
  refine v_sld F hX hbl hbA h4 (dq dkL_law_29 25 rfl) ?_
  obtain ⟨nn, hnn⟩ : ∃ nn, gn x1 = 27 + nn := ⟨gn x1 - 27, by have := hge _ _ hP1; omega⟩
  refine v_eqM (xfM_of hnn) ?_
  refine v_callV 4 F (q := 61) (kc1 := kc) (ks1 := ks) (as := [.int (xs (i + 1).toNatClampNeg), .int (xs (i + 2).toNatClampNeg), .int (xs (i + 3).toNatClampNeg), .int (xs (i + 4).toNatClampNeg)]) (st := [.int r]) (st1 := [.int r, .int r]) (res := (some (.int r))) (c_X11_drawn (l := C.2.1) x1 y (xs (i + 1).toNatClampNeg) (xs (i + 2).toNatClampNeg) (xs (i + 3).toNatClampNeg) (xs (i + 4).toNatClampNeg) e2) (xnM (by decide)) xc_61 rfl (tc50 _ (List.mem_of_getElem? (i := 5) rfl)) (tc50 _ (List.mem_of_getElem? (i := 6) rfl)) (tc50 _ (List.mem_of_getElem? (i := 7) rfl)) (tc1 _ (List.mem_of_getElem? (i := 5) rfl)) (tc50 _ (List.mem_of_getElem? (i := 8) rfl)) (by decide) rfl ⟨rfl, rfl, Nat.le_of_ble_eq_true rfl, Nat.le_of_ble_eq_true rfl⟩ ⟨by show kc + 0 ≤ 600000; omega, by show ks + 0 ≤ 7302250; omega⟩ rfl (Nat.le_of_ble_eq_true rfl) rfl rfl rfl (dq dkL_law_29 26 rfl) ?_
  refine v_eqM (xfM_of hnn).symm ?_
  refine v_icmp_eq F (tgt := 1911) (dq dkL_law_29 27 rfl) (by decide) (fun _ => ?_) (fun c => absurd rfl c)
  exact hk x1 y1 (kc) (ks) hP1 (by omega) (by omega)
def sim_image (P : CS → MS → Prop) : Prop := ∀ (x : CS) (y : MS), P x y → ∃ (r : Int32) (x1 : CS) (y1 : MS), f_X10_image x = some (r, x1) ∧ f_X11_image y = some (r, y1) ∧ P x1 y1
set_option maxRecDepth 100000 in
set_option maxHeartbeats 4000000 in
theorem lw_case_40 {C : Cx} {K : KE} {P : CS → MS → Prop} {b L : Nat} {xs : Nat → Int32} {i : Int32} (S : sim_image P) (hge : ∀ x y, P x y → 27 ≤ gn x) (F : Fx C RL cL_law 4 room_1 K) (hX : va_X b L xs C.2.2.2.2.1 C.2.2.2.2.1.heap) (hbl : b < C.2.2.2.2.1.heap.size) (hbA : ¬ gA K.1 b) (h1 : vp_in (i + 1) L) (h2 : vp_in (i + 2) L) (h3 : vp_in (i + 3) L) (h4 : vp_in (i + 4) L) (h5 : vp_in (i + 5) L) (x : CS) (y : MS) (hP : P x y) (kc ks : Nat) (hkc : kc + 2000 ≤ 600000) (hks : ks + 4000 ≤ 7302250)
    (hk : ∀ (x1 : CS) (y1 : MS) (kc1 ks1 : Nat), P x1 y1 → kc1 ≤ kc + 2000 → ks1 ≤ ks + 4000 → V C 1911 [(0, .ref b), (1, .ref (K.1 + 0)), (2, .ref (K.1 + 61)), (3, .int i)] [] (xf K x1 y1) kc1 ks1) : V C 1650 [(0, .ref b), (1, .ref (K.1 + 0)), (2, .ref (K.1 + 61)), (3, .int i)] [] (xf K x y) kc ks := by
  obtain ⟨r, x1, y1, e1, e2, hP1⟩ := S x y  hP
  refine v_aload_n F (dq dkL_law_29 30 rfl) rfl 1 rfl ?_
  refine v_callV 0 F (q := 0) (kc1 := kc) (ks1 := ks) (as := []) (st := []) (st1 := [.int r]) (res := (some (.int r))) (c_X10_image (l := C.2.1) x y  e1) (xn (by decide)) xc_0 rfl (tc50 _ (List.mem_of_getElem? (i := 10) rfl)) (tc50 _ (List.mem_of_getElem? (i := 11) rfl)) (tc50 _ (List.mem_of_getElem? (i := 12) rfl)) (tc1 _ (List.mem_of_getElem? (i := 2) rfl)) (tc50 _ (List.mem_of_getElem? (i := 13) rfl)) (by decide) rfl ⟨rfl, rfl, Nat.le_of_ble_eq_true rfl, Nat.le_of_ble_eq_true rfl⟩ ⟨by show kc + 0 ≤ 600000; omega, by show ks + 0 ≤ 7302250; omega⟩ rfl (Nat.le_of_ble_eq_true rfl) rfl rfl rfl (dq dkL_law_29 31 rfl) ?_
  refine v_aload_n F (dq dkL_law_29 32 rfl) rfl 2 rfl ?_
  obtain ⟨nn, hnn⟩ : ∃ nn, gn x1 = 27 + nn := ⟨gn x1 - 27, by have := hge _ _ hP1; omega⟩
  refine v_eqM (xfM_of hnn) ?_
  refine v_callV 0 F (q := 61) (kc1 := kc) (ks1 := ks) (as := []) (st := [.int r]) (st1 := [.int r, .int r]) (res := (some (.int r))) (c_X11_image (l := C.2.1) x1 y  e2) (xnM (by decide)) xc_61 rfl (tc50 _ (List.mem_of_getElem? (i := 18) rfl)) (tc50 _ (List.mem_of_getElem? (i := 19) rfl)) (tc50 _ (List.mem_of_getElem? (i := 20) rfl)) (tc1 _ (List.mem_of_getElem? (i := 5) rfl)) (tc50 _ (List.mem_of_getElem? (i := 21) rfl)) (by decide) rfl ⟨rfl, rfl, Nat.le_of_ble_eq_true rfl, Nat.le_of_ble_eq_true rfl⟩ ⟨by show kc + 0 ≤ 600000; omega, by show ks + 0 ≤ 7302250; omega⟩ rfl (Nat.le_of_ble_eq_true rfl) rfl rfl rfl (dq dkL_law_29 33 rfl) ?_
  refine v_eqM (xfM_of hnn).symm ?_
  refine v_icmp_eq F (tgt := 1911) (dq dkL_law_29 34 rfl) (by decide) (fun _ => ?_) (fun c => absurd rfl c)
  exact hk x1 y1 (kc) (ks) hP1 (by omega) (by omega)
def sim_back (P : CS → MS → Prop) : Prop := ∀ (x : CS) (y : MS), P x y → ∃ (r : Int32) (x1 : CS) (y1 : MS), f_X10_back x = some (r, x1) ∧ f_X11_back y = some (r, y1) ∧ P x1 y1
set_option maxRecDepth 100000 in
set_option maxHeartbeats 4000000 in
theorem lw_case_41 {C : Cx} {K : KE} {P : CS → MS → Prop} {b L : Nat} {xs : Nat → Int32} {i : Int32} (S : sim_back P) (hge : ∀ x y, P x y → 27 ≤ gn x) (F : Fx C RL cL_law 4 room_1 K) (hX : va_X b L xs C.2.2.2.2.1 C.2.2.2.2.1.heap) (hbl : b < C.2.2.2.2.1.heap.size) (hbA : ¬ gA K.1 b) (h1 : vp_in (i + 1) L) (h2 : vp_in (i + 2) L) (h3 : vp_in (i + 3) L) (h4 : vp_in (i + 4) L) (h5 : vp_in (i + 5) L) (x : CS) (y : MS) (hP : P x y) (kc ks : Nat) (hkc : kc + 2000 ≤ 600000) (hks : ks + 4000 ≤ 7302250)
    (hk : ∀ (x1 : CS) (y1 : MS) (kc1 ks1 : Nat), P x1 y1 → kc1 ≤ kc + 2000 → ks1 ≤ ks + 4000 → V C 1911 [(0, .ref b), (1, .ref (K.1 + 0)), (2, .ref (K.1 + 61)), (3, .int i)] [] (xf K x1 y1) kc1 ks1) : V C 1663 [(0, .ref b), (1, .ref (K.1 + 0)), (2, .ref (K.1 + 61)), (3, .int i)] [] (xf K x y) kc ks := by
  obtain ⟨r, x1, y1, e1, e2, hP1⟩ := S x y  hP
  refine v_aload_n F (dq dkL_law_29 37 rfl) rfl 1 rfl ?_
  refine v_callV 0 F (q := 0) (kc1 := kc) (ks1 := ks) (as := []) (st := []) (st1 := [.int r]) (res := (some (.int r))) (c_X10_back (l := C.2.1) x y  e1) (xn (by decide)) xc_0 rfl (tc51 _ (List.mem_of_getElem? (i := 1) rfl)) (tc51 _ (List.mem_of_getElem? (i := 2) rfl)) (tc51 _ (List.mem_of_getElem? (i := 3) rfl)) (tc1 _ (List.mem_of_getElem? (i := 2) rfl)) (tc51 _ (List.mem_of_getElem? (i := 4) rfl)) (by decide) rfl ⟨rfl, rfl, Nat.le_of_ble_eq_true rfl, Nat.le_of_ble_eq_true rfl⟩ ⟨by show kc + 0 ≤ 600000; omega, by show ks + 0 ≤ 7302250; omega⟩ rfl (Nat.le_of_ble_eq_true rfl) rfl rfl rfl (dq dkL_law_29 38 rfl) ?_
  refine v_aload_n F (dq dkL_law_29 39 rfl) rfl 2 rfl ?_
  obtain ⟨nn, hnn⟩ : ∃ nn, gn x1 = 27 + nn := ⟨gn x1 - 27, by have := hge _ _ hP1; omega⟩
  refine v_eqM (xfM_of hnn) ?_
  refine v_callV 0 F (q := 61) (kc1 := kc) (ks1 := ks) (as := []) (st := [.int r]) (st1 := [.int r, .int r]) (res := (some (.int r))) (c_X11_back (l := C.2.1) x1 y  e2) (xnM (by decide)) xc_61 rfl (tc51 _ (List.mem_of_getElem? (i := 5) rfl)) (tc51 _ (List.mem_of_getElem? (i := 6) rfl)) (tc51 _ (List.mem_of_getElem? (i := 7) rfl)) (tc1 _ (List.mem_of_getElem? (i := 5) rfl)) (tc51 _ (List.mem_of_getElem? (i := 8) rfl)) (by decide) rfl ⟨rfl, rfl, Nat.le_of_ble_eq_true rfl, Nat.le_of_ble_eq_true rfl⟩ ⟨by show kc + 0 ≤ 600000; omega, by show ks + 0 ≤ 7302250; omega⟩ rfl (Nat.le_of_ble_eq_true rfl) rfl rfl rfl (dq dkL_law_30 0 rfl) ?_
  refine v_eqM (xfM_of hnn).symm ?_
  refine v_icmp_eq F (tgt := 1911) (dq dkL_law_30 1 rfl) (by decide) (fun _ => ?_) (fun c => absurd rfl c)
  exact hk x1 y1 (kc) (ks) hP1 (by omega) (by omega)
def sim_sheet (P : CS → MS → Prop) : Prop := ∀ (x : CS) (y : MS) (a0 : Int32) (a1 : Int32) (a2 : Int32), P x y → ∃ (r : Int32) (x1 : CS) (y1 : MS), f_X10_sheet x a0 a1 a2 = some (r, x1) ∧ f_X11_sheet y a0 a1 a2 = some (r, y1) ∧ P x1 y1
set_option maxRecDepth 100000 in
set_option maxHeartbeats 4000000 in
theorem lw_case_42 {C : Cx} {K : KE} {P : CS → MS → Prop} {b L : Nat} {xs : Nat → Int32} {i : Int32} (S : sim_sheet P) (hge : ∀ x y, P x y → 27 ≤ gn x) (F : Fx C RL cL_law 4 room_1 K) (hX : va_X b L xs C.2.2.2.2.1 C.2.2.2.2.1.heap) (hbl : b < C.2.2.2.2.1.heap.size) (hbA : ¬ gA K.1 b) (h1 : vp_in (i + 1) L) (h2 : vp_in (i + 2) L) (h3 : vp_in (i + 3) L) (h4 : vp_in (i + 4) L) (h5 : vp_in (i + 5) L) (x : CS) (y : MS) (hP : P x y) (kc ks : Nat) (hkc : kc + 2000 ≤ 600000) (hks : ks + 4000 ≤ 7302250)
    (hk : ∀ (x1 : CS) (y1 : MS) (kc1 ks1 : Nat), P x1 y1 → kc1 ≤ kc + 2000 → ks1 ≤ ks + 4000 → V C 1911 [(0, .ref b), (1, .ref (K.1 + 0)), (2, .ref (K.1 + 61)), (3, .int i)] [] (xf K x1 y1) kc1 ks1) : V C 1676 [(0, .ref b), (1, .ref (K.1 + 0)), (2, .ref (K.1 + 61)), (3, .int i)] [] (xf K x y) kc ks := by
  obtain ⟨r, x1, y1, e1, e2, hP1⟩ := S x y (xs (i + 1).toNatClampNeg) (xs (i + 2).toNatClampNeg) (xs (i + 3).toNatClampNeg) hP
  refine v_aload_n F (dq dkL_law_30 4 rfl) rfl 1 rfl ?_
  refine v_aload_n F (dq dkL_law_30 5 rfl) rfl 0 rfl ?_
  refine v_iload_n F (dq dkL_law_30 6 rfl) rfl 3 rfl ?_
  refine v_iconst F (v := 1) (dq dkL_law_30 7 rfl) ki_1 ?_
  refine v_iadd F (dq dkL_law_30 8 rfl) ?_
  refine v_sld F hX hbl hbA h1 (dq dkL_law_30 9 rfl) ?_
  refine v_aload_n F (dq dkL_law_30 10 rfl) rfl 0 rfl ?_
  refine v_iload_n F (dq dkL_law_30 11 rfl) rfl 3 rfl ?_
  refine v_iconst F (v := 2) (dq dkL_law_30 12 rfl) ki_2 ?_
  refine v_iadd F (dq dkL_law_30 13 rfl) ?_
  refine v_sld F hX hbl hbA h2 (dq dkL_law_30 14 rfl) ?_
  refine v_aload_n F (dq dkL_law_30 15 rfl) rfl 0 rfl ?_
  refine v_iload_n F (dq dkL_law_30 16 rfl) rfl 3 rfl ?_
  refine v_iconst F (v := 3) (dq dkL_law_30 17 rfl) ki_3 ?_
  refine v_iadd F (dq dkL_law_30 18 rfl) ?_
  refine v_sld F hX hbl hbA h3 (dq dkL_law_30 19 rfl) ?_
  refine v_callV 3 F (q := 0) (kc1 := kc) (ks1 := ks) (as := [.int (xs (i + 1).toNatClampNeg), .int (xs (i + 2).toNatClampNeg), .int (xs (i + 3).toNatClampNeg)]) (st := []) (st1 := [.int r]) (res := (some (.int r))) (c_X10_sheet (l := C.2.1) x y (xs (i + 1).toNatClampNeg) (xs (i + 2).toNatClampNeg) (xs (i + 3).toNatClampNeg) e1) (xn (by decide)) xc_0 rfl (tc51 _ (List.mem_of_getElem? (i := 9) rfl)) (tc51 _ (List.mem_of_getElem? (i := 10) rfl)) (tc51 _ (List.mem_of_getElem? (i := 11) rfl)) (tc1 _ (List.mem_of_getElem? (i := 2) rfl)) (tc51 _ (List.mem_of_getElem? (i := 12) rfl)) (by decide) rfl ⟨rfl, rfl, Nat.le_of_ble_eq_true rfl, Nat.le_of_ble_eq_true rfl⟩ ⟨by show kc + 0 ≤ 600000; omega, by show ks + 0 ≤ 7302250; omega⟩ rfl (Nat.le_of_ble_eq_true rfl) rfl rfl rfl (dq dkL_law_30 20 rfl) ?_
  refine v_aload_n F (dq dkL_law_30 21 rfl) rfl 2 rfl ?_
  refine v_aload_n F (dq dkL_law_30 22 rfl) rfl 0 rfl ?_
  refine v_iload_n F (dq dkL_law_30 23 rfl) rfl 3 rfl ?_
  refine v_iconst F (v := 1) (dq dkL_law_30 24 rfl) ki_1 ?_
  refine v_iadd F (dq dkL_law_30 25 rfl) ?_
  refine v_sld F hX hbl hbA h1 (dq dkL_law_30 26 rfl) ?_
  refine v_aload_n F (dq dkL_law_30 27 rfl) rfl 0 rfl ?_
  refine v_iload_n F (dq dkL_law_30 28 rfl) rfl 3 rfl ?_
  refine v_iconst F (v := 2) (dq dkL_law_30 29 rfl) ki_2 ?_
  refine v_iadd F (dq dkL_law_30 30 rfl) ?_
  refine v_sld F hX hbl hbA h2 (dq dkL_law_30 31 rfl) ?_
  refine v_aload_n F (dq dkL_law_30 32 rfl) rfl 0 rfl ?_
  refine v_iload_n F (dq dkL_law_30 33 rfl) rfl 3 rfl ?_
  refine v_iconst F (v := 3) (dq dkL_law_30 34 rfl) ki_3 ?_
  refine v_iadd F (dq dkL_law_30 35 rfl) ?_
  refine v_sld F hX hbl hbA h3 (dq dkL_law_30 36 rfl) ?_
  obtain ⟨nn, hnn⟩ : ∃ nn, gn x1 = 27 + nn := ⟨gn x1 - 27, by have := hge _ _ hP1; omega⟩
  refine v_eqM (xfM_of hnn) ?_
  refine v_callV 3 F (q := 61) (kc1 := kc) (ks1 := ks) (as := [.int (xs (i + 1).toNatClampNeg), .int (xs (i + 2).toNatClampNeg), .int (xs (i + 3).toNatClampNeg)]) (st := [.int r]) (st1 := [.int r, .int r]) (res := (some (.int r))) (c_X11_sheet (l := C.2.1) x1 y (xs (i + 1).toNatClampNeg) (xs (i + 2).toNatClampNeg) (xs (i + 3).toNatClampNeg) e2) (xnM (by decide)) xc_61 rfl (tc51 _ (List.mem_of_getElem? (i := 19) rfl)) (tc51 _ (List.mem_of_getElem? (i := 20) rfl)) (tc51 _ (List.mem_of_getElem? (i := 21) rfl)) (tc1 _ (List.mem_of_getElem? (i := 5) rfl)) (tc51 _ (List.mem_of_getElem? (i := 22) rfl)) (by decide) rfl ⟨rfl, rfl, Nat.le_of_ble_eq_true rfl, Nat.le_of_ble_eq_true rfl⟩ ⟨by show kc + 0 ≤ 600000; omega, by show ks + 0 ≤ 7302250; omega⟩ rfl (Nat.le_of_ble_eq_true rfl) rfl rfl rfl (dq dkL_law_30 37 rfl) ?_
  refine v_eqM (xfM_of hnn).symm ?_
  refine v_icmp_eq F (tgt := 1911) (dq dkL_law_30 38 rfl) (by decide) (fun _ => ?_) (fun c => absurd rfl c)
  exact hk x1 y1 (kc) (ks) hP1 (by omega) (by omega)
def sim_cell (P : CS → MS → Prop) : Prop := ∀ (x : CS) (y : MS) (a0 : Int32) (a1 : Int32) (a2 : Int32), P x y → ∃ (r : Int32) (x1 : CS) (y1 : MS), f_X10_cell x a0 a1 a2 = some (r, x1) ∧ f_X11_cell y a0 a1 a2 = some (r, y1) ∧ P x1 y1
set_option maxRecDepth 100000 in
set_option maxHeartbeats 4000000 in
theorem lw_case_43 {C : Cx} {K : KE} {P : CS → MS → Prop} {b L : Nat} {xs : Nat → Int32} {i : Int32} (S : sim_cell P) (hge : ∀ x y, P x y → 27 ≤ gn x) (F : Fx C RL cL_law 4 room_1 K) (hX : va_X b L xs C.2.2.2.2.1 C.2.2.2.2.1.heap) (hbl : b < C.2.2.2.2.1.heap.size) (hbA : ¬ gA K.1 b) (h1 : vp_in (i + 1) L) (h2 : vp_in (i + 2) L) (h3 : vp_in (i + 3) L) (h4 : vp_in (i + 4) L) (h5 : vp_in (i + 5) L) (x : CS) (y : MS) (hP : P x y) (kc ks : Nat) (hkc : kc + 2000 ≤ 600000) (hks : ks + 4000 ≤ 7302250)
    (hk : ∀ (x1 : CS) (y1 : MS) (kc1 ks1 : Nat), P x1 y1 → kc1 ≤ kc + 2000 → ks1 ≤ ks + 4000 → V C 1911 [(0, .ref b), (1, .ref (K.1 + 0)), (2, .ref (K.1 + 61)), (3, .int i)] [] (xf K x1 y1) kc1 ks1) : V C 1719 [(0, .ref b), (1, .ref (K.1 + 0)), (2, .ref (K.1 + 61)), (3, .int i)] [] (xf K x y) kc ks := by
  obtain ⟨r, x1, y1, e1, e2, hP1⟩ := S x y (xs (i + 1).toNatClampNeg) (xs (i + 2).toNatClampNeg) (xs (i + 3).toNatClampNeg) hP
  refine v_aload_n F (dq dkL_law_31 1 rfl) rfl 1 rfl ?_
  refine v_aload_n F (dq dkL_law_31 2 rfl) rfl 0 rfl ?_
  refine v_iload_n F (dq dkL_law_31 3 rfl) rfl 3 rfl ?_
  refine v_iconst F (v := 1) (dq dkL_law_31 4 rfl) ki_1 ?_
  refine v_iadd F (dq dkL_law_31 5 rfl) ?_
  refine v_sld F hX hbl hbA h1 (dq dkL_law_31 6 rfl) ?_
  refine v_aload_n F (dq dkL_law_31 7 rfl) rfl 0 rfl ?_
  refine v_iload_n F (dq dkL_law_31 8 rfl) rfl 3 rfl ?_
  refine v_iconst F (v := 2) (dq dkL_law_31 9 rfl) ki_2 ?_
  refine v_iadd F (dq dkL_law_31 10 rfl) ?_
  refine v_sld F hX hbl hbA h2 (dq dkL_law_31 11 rfl) ?_
  refine v_aload_n F (dq dkL_law_31 12 rfl) rfl 0 rfl ?_
  refine v_iload_n F (dq dkL_law_31 13 rfl) rfl 3 rfl ?_
  refine v_iconst F (v := 3) (dq dkL_law_31 14 rfl) ki_3 ?_
  refine v_iadd F (dq dkL_law_31 15 rfl) ?_
  refine v_sld F hX hbl hbA h3 (dq dkL_law_31 16 rfl) ?_
  refine v_callV 3 F (q := 0) (kc1 := kc) (ks1 := ks) (as := [.int (xs (i + 1).toNatClampNeg), .int (xs (i + 2).toNatClampNeg), .int (xs (i + 3).toNatClampNeg)]) (st := []) (st1 := [.int r]) (res := (some (.int r))) (c_X10_cell (l := C.2.1) x y (xs (i + 1).toNatClampNeg) (xs (i + 2).toNatClampNeg) (xs (i + 3).toNatClampNeg) e1) (xn (by decide)) xc_0 rfl (tc51 _ (List.mem_of_getElem? (i := 23) rfl)) (tc52 _ (List.mem_of_getElem? (i := 0) rfl)) (tc52 _ (List.mem_of_getElem? (i := 1) rfl)) (tc1 _ (List.mem_of_getElem? (i := 2) rfl)) (tc52 _ (List.mem_of_getElem? (i := 2) rfl)) (by decide) rfl ⟨rfl, rfl, Nat.le_of_ble_eq_true rfl, Nat.le_of_ble_eq_true rfl⟩ ⟨by show kc + 0 ≤ 600000; omega, by show ks + 0 ≤ 7302250; omega⟩ rfl (Nat.le_of_ble_eq_true rfl) rfl rfl rfl (dq dkL_law_31 17 rfl) ?_
  refine v_aload_n F (dq dkL_law_31 18 rfl) rfl 2 rfl ?_
  refine v_aload_n F (dq dkL_law_31 19 rfl) rfl 0 rfl ?_
  refine v_iload_n F (dq dkL_law_31 20 rfl) rfl 3 rfl ?_
  refine v_iconst F (v := 1) (dq dkL_law_31 21 rfl) ki_1 ?_
  refine v_iadd F (dq dkL_law_31 22 rfl) ?_
  refine v_sld F hX hbl hbA h1 (dq dkL_law_31 23 rfl) ?_
  refine v_aload_n F (dq dkL_law_31 24 rfl) rfl 0 rfl ?_
  refine v_iload_n F (dq dkL_law_31 25 rfl) rfl 3 rfl ?_
  refine v_iconst F (v := 2) (dq dkL_law_31 26 rfl) ki_2 ?_
  refine v_iadd F (dq dkL_law_31 27 rfl) ?_
  refine v_sld F hX hbl hbA h2 (dq dkL_law_31 28 rfl) ?_
  refine v_aload_n F (dq dkL_law_31 29 rfl) rfl 0 rfl ?_
  refine v_iload_n F (dq dkL_law_31 30 rfl) rfl 3 rfl ?_
  refine v_iconst F (v := 3) (dq dkL_law_31 31 rfl) ki_3 ?_
  refine v_iadd F (dq dkL_law_31 32 rfl) ?_
  refine v_sld F hX hbl hbA h3 (dq dkL_law_31 33 rfl) ?_
  obtain ⟨nn, hnn⟩ : ∃ nn, gn x1 = 27 + nn := ⟨gn x1 - 27, by have := hge _ _ hP1; omega⟩
  refine v_eqM (xfM_of hnn) ?_
  refine v_callV 3 F (q := 61) (kc1 := kc) (ks1 := ks) (as := [.int (xs (i + 1).toNatClampNeg), .int (xs (i + 2).toNatClampNeg), .int (xs (i + 3).toNatClampNeg)]) (st := [.int r]) (st1 := [.int r, .int r]) (res := (some (.int r))) (c_X11_cell (l := C.2.1) x1 y (xs (i + 1).toNatClampNeg) (xs (i + 2).toNatClampNeg) (xs (i + 3).toNatClampNeg) e2) (xnM (by decide)) xc_61 rfl (tc52 _ (List.mem_of_getElem? (i := 8) rfl)) (tc52 _ (List.mem_of_getElem? (i := 9) rfl)) (tc52 _ (List.mem_of_getElem? (i := 10) rfl)) (tc1 _ (List.mem_of_getElem? (i := 5) rfl)) (tc52 _ (List.mem_of_getElem? (i := 11) rfl)) (by decide) rfl ⟨rfl, rfl, Nat.le_of_ble_eq_true rfl, Nat.le_of_ble_eq_true rfl⟩ ⟨by show kc + 0 ≤ 600000; omega, by show ks + 0 ≤ 7302250; omega⟩ rfl (Nat.le_of_ble_eq_true rfl) rfl rfl rfl (dq dkL_law_31 34 rfl) ?_
  refine v_eqM (xfM_of hnn).symm ?_
  refine v_icmp_eq F (tgt := 1911) (dq dkL_law_31 35 rfl) (by decide) (fun _ => ?_) (fun c => absurd rfl c)
  exact hk x1 y1 (kc) (ks) hP1 (by omega) (by omega)
def sim_copy (P : CS → MS → Prop) : Prop := ∀ (x : CS) (y : MS) (a0 : Int32) (a1 : Int32) (a2 : Int32) (a3 : Int32) (a4 : Int32), P x y → ∃ (r : Int32) (x1 : CS) (y1 : MS), f_X10_copy x a0 a1 a2 a3 a4 = some (r, x1) ∧ f_X11_copy y a0 a1 a2 a3 a4 = some (r, y1) ∧ P x1 y1
set_option maxRecDepth 100000 in
set_option maxHeartbeats 4000000 in
theorem lw_case_44 {C : Cx} {K : KE} {P : CS → MS → Prop} {b L : Nat} {xs : Nat → Int32} {i : Int32} (S : sim_copy P) (hge : ∀ x y, P x y → 27 ≤ gn x) (F : Fx C RL cL_law 4 room_1 K) (hX : va_X b L xs C.2.2.2.2.1 C.2.2.2.2.1.heap) (hbl : b < C.2.2.2.2.1.heap.size) (hbA : ¬ gA K.1 b) (h1 : vp_in (i + 1) L) (h2 : vp_in (i + 2) L) (h3 : vp_in (i + 3) L) (h4 : vp_in (i + 4) L) (h5 : vp_in (i + 5) L) (x : CS) (y : MS) (hP : P x y) (kc ks : Nat) (hkc : kc + 2000 ≤ 600000) (hks : ks + 4000 ≤ 7302250)
    (hk : ∀ (x1 : CS) (y1 : MS) (kc1 ks1 : Nat), P x1 y1 → kc1 ≤ kc + 2000 → ks1 ≤ ks + 4000 → V C 1911 [(0, .ref b), (1, .ref (K.1 + 0)), (2, .ref (K.1 + 61)), (3, .int i)] [] (xf K x1 y1) kc1 ks1) : V C 1762 [(0, .ref b), (1, .ref (K.1 + 0)), (2, .ref (K.1 + 61)), (3, .int i)] [] (xf K x y) kc ks := by
  obtain ⟨r, x1, y1, e1, e2, hP1⟩ := S x y (xs (i + 1).toNatClampNeg) (xs (i + 2).toNatClampNeg) (xs (i + 3).toNatClampNeg) (xs (i + 4).toNatClampNeg) (xs (i + 5).toNatClampNeg) hP
  refine v_aload_n F (dq dkL_law_31 38 rfl) rfl 1 rfl ?_
  refine v_aload_n F (dq dkL_law_31 39 rfl) rfl 0 rfl ?_
  refine v_iload_n F (dq dkL_law_32 0 rfl) rfl 3 rfl ?_
  refine v_iconst F (v := 1) (dq dkL_law_32 1 rfl) ki_1 ?_
  refine v_iadd F (dq dkL_law_32 2 rfl) ?_
  refine v_sld F hX hbl hbA h1 (dq dkL_law_32 3 rfl) ?_
  refine v_aload_n F (dq dkL_law_32 4 rfl) rfl 0 rfl ?_
  refine v_iload_n F (dq dkL_law_32 5 rfl) rfl 3 rfl ?_
  refine v_iconst F (v := 2) (dq dkL_law_32 6 rfl) ki_2 ?_
  refine v_iadd F (dq dkL_law_32 7 rfl) ?_
  refine v_sld F hX hbl hbA h2 (dq dkL_law_32 8 rfl) ?_
  refine v_aload_n F (dq dkL_law_32 9 rfl) rfl 0 rfl ?_
  refine v_iload_n F (dq dkL_law_32 10 rfl) rfl 3 rfl ?_
  refine v_iconst F (v := 3) (dq dkL_law_32 11 rfl) ki_3 ?_
  refine v_iadd F (dq dkL_law_32 12 rfl) ?_
  refine v_sld F hX hbl hbA h3 (dq dkL_law_32 13 rfl) ?_
  refine v_aload_n F (dq dkL_law_32 14 rfl) rfl 0 rfl ?_
  refine v_iload_n F (dq dkL_law_32 15 rfl) rfl 3 rfl ?_
  refine v_iconst F (v := 4) (dq dkL_law_32 16 rfl) ki_4 ?_
  refine v_iadd F (dq dkL_law_32 17 rfl) ?_
  refine v_sld F hX hbl hbA h4 (dq dkL_law_32 18 rfl) ?_
  refine v_aload_n F (dq dkL_law_32 19 rfl) rfl 0 rfl ?_
  refine v_iload_n F (dq dkL_law_32 20 rfl) rfl 3 rfl ?_
  refine v_iconst F (v := 5) (dq dkL_law_32 21 rfl) ki_5 ?_
  refine v_iadd F (dq dkL_law_32 22 rfl) ?_
  refine v_sld F hX hbl hbA h5 (dq dkL_law_32 23 rfl) ?_
  refine v_callV 5 F (q := 0) (kc1 := kc) (ks1 := ks) (as := [.int (xs (i + 1).toNatClampNeg), .int (xs (i + 2).toNatClampNeg), .int (xs (i + 3).toNatClampNeg), .int (xs (i + 4).toNatClampNeg), .int (xs (i + 5).toNatClampNeg)]) (st := []) (st1 := [.int r]) (res := (some (.int r))) (c_X10_copy (l := C.2.1) x y (xs (i + 1).toNatClampNeg) (xs (i + 2).toNatClampNeg) (xs (i + 3).toNatClampNeg) (xs (i + 4).toNatClampNeg) (xs (i + 5).toNatClampNeg) e1) (xn (by decide)) xc_0 rfl (tc52 _ (List.mem_of_getElem? (i := 12) rfl)) (tc52 _ (List.mem_of_getElem? (i := 13) rfl)) (tc52 _ (List.mem_of_getElem? (i := 14) rfl)) (tc1 _ (List.mem_of_getElem? (i := 2) rfl)) (tc52 _ (List.mem_of_getElem? (i := 15) rfl)) (by decide) rfl ⟨rfl, rfl, Nat.le_of_ble_eq_true rfl, Nat.le_of_ble_eq_true rfl⟩ ⟨by show kc + 0 ≤ 600000; omega, by show ks + 0 ≤ 7302250; omega⟩ rfl (Nat.le_of_ble_eq_true rfl) rfl rfl rfl (dq dkL_law_32 24 rfl) ?_
  refine v_aload_n F (dq dkL_law_32 25 rfl) rfl 2 rfl ?_
  refine v_aload_n F (dq dkL_law_32 26 rfl) rfl 0 rfl ?_
  refine v_iload_n F (dq dkL_law_32 27 rfl) rfl 3 rfl ?_
  refine v_iconst F (v := 1) (dq dkL_law_32 28 rfl) ki_1 ?_
  refine v_iadd F (dq dkL_law_32 29 rfl) ?_
  refine v_sld F hX hbl hbA h1 (dq dkL_law_32 30 rfl) ?_
  refine v_aload_n F (dq dkL_law_32 31 rfl) rfl 0 rfl ?_
  refine v_iload_n F (dq dkL_law_32 32 rfl) rfl 3 rfl ?_
  refine v_iconst F (v := 2) (dq dkL_law_32 33 rfl) ki_2 ?_
  refine v_iadd F (dq dkL_law_32 34 rfl) ?_
  refine v_sld F hX hbl hbA h2 (dq dkL_law_32 35 rfl) ?_
  refine v_aload_n F (dq dkL_law_32 36 rfl) rfl 0 rfl ?_
  refine v_iload_n F (dq dkL_law_32 37 rfl) rfl 3 rfl ?_
  refine v_iconst F (v := 3) (dq dkL_law_32 38 rfl) ki_3 ?_
  refine v_iadd F (dq dkL_law_32 39 rfl) ?_
  refine v_sld F hX hbl hbA h3 (dq dkL_law_33 0 rfl) ?_
  refine v_aload_n F (dq dkL_law_33 1 rfl) rfl 0 rfl ?_
  refine v_iload_n F (dq dkL_law_33 2 rfl) rfl 3 rfl ?_
  refine v_iconst F (v := 4) (dq dkL_law_33 3 rfl) ki_4 ?_
  refine v_iadd F (dq dkL_law_33 4 rfl) ?_
  refine v_sld F hX hbl hbA h4 (dq dkL_law_33 5 rfl) ?_
  refine v_aload_n F (dq dkL_law_33 6 rfl) rfl 0 rfl ?_
  refine v_iload_n F (dq dkL_law_33 7 rfl) rfl 3 rfl ?_
  refine v_iconst F (v := 5) (dq dkL_law_33 8 rfl) ki_5 ?_
  refine v_iadd F (dq dkL_law_33 9 rfl) ?_
  refine v_sld F hX hbl hbA h5 (dq dkL_law_33 10 rfl) ?_
  obtain ⟨nn, hnn⟩ : ∃ nn, gn x1 = 27 + nn := ⟨gn x1 - 27, by have := hge _ _ hP1; omega⟩
  refine v_eqM (xfM_of hnn) ?_
  refine v_callV 5 F (q := 61) (kc1 := kc) (ks1 := ks) (as := [.int (xs (i + 1).toNatClampNeg), .int (xs (i + 2).toNatClampNeg), .int (xs (i + 3).toNatClampNeg), .int (xs (i + 4).toNatClampNeg), .int (xs (i + 5).toNatClampNeg)]) (st := [.int r]) (st1 := [.int r, .int r]) (res := (some (.int r))) (c_X11_copy (l := C.2.1) x1 y (xs (i + 1).toNatClampNeg) (xs (i + 2).toNatClampNeg) (xs (i + 3).toNatClampNeg) (xs (i + 4).toNatClampNeg) (xs (i + 5).toNatClampNeg) e2) (xnM (by decide)) xc_61 rfl (tc52 _ (List.mem_of_getElem? (i := 21) rfl)) (tc52 _ (List.mem_of_getElem? (i := 22) rfl)) (tc52 _ (List.mem_of_getElem? (i := 23) rfl)) (tc1 _ (List.mem_of_getElem? (i := 5) rfl)) (tc53 _ (List.mem_of_getElem? (i := 0) rfl)) (by decide) rfl ⟨rfl, rfl, Nat.le_of_ble_eq_true rfl, Nat.le_of_ble_eq_true rfl⟩ ⟨by show kc + 0 ≤ 600000; omega, by show ks + 0 ≤ 7302250; omega⟩ rfl (Nat.le_of_ble_eq_true rfl) rfl rfl rfl (dq dkL_law_33 11 rfl) ?_
  refine v_eqM (xfM_of hnn).symm ?_
  refine v_icmp_eq F (tgt := 1911) (dq dkL_law_33 12 rfl) (by decide) (fun _ => ?_) (fun c => absurd rfl c)
  exact hk x1 y1 (kc) (ks) hP1 (by omega) (by omega)
def sim_worksBy (P : CS → MS → Prop) : Prop := ∀ (x : CS) (y : MS) (a0 : Int32) (a1 : Int32) (a2 : Int32) (a3 : Int32), P x y → ∃ (r : Int32) (x1 : CS) (y1 : MS), f_X10_worksBy x a0 a1 a2 a3 = some (r, x1) ∧ f_X11_worksBy y a0 a1 a2 a3 = some (r, y1) ∧ P x1 y1
set_option maxRecDepth 100000 in
set_option maxHeartbeats 4000000 in
theorem lw_case_45 {C : Cx} {K : KE} {P : CS → MS → Prop} {b L : Nat} {xs : Nat → Int32} {i : Int32} (S : sim_worksBy P) (hge : ∀ x y, P x y → 27 ≤ gn x) (F : Fx C RL cL_law 4 room_1 K) (hX : va_X b L xs C.2.2.2.2.1 C.2.2.2.2.1.heap) (hbl : b < C.2.2.2.2.1.heap.size) (hbA : ¬ gA K.1 b) (h1 : vp_in (i + 1) L) (h2 : vp_in (i + 2) L) (h3 : vp_in (i + 3) L) (h4 : vp_in (i + 4) L) (h5 : vp_in (i + 5) L) (x : CS) (y : MS) (hP : P x y) (kc ks : Nat) (hkc : kc + 2000 ≤ 600000) (hks : ks + 4000 ≤ 7302250)
    (hk : ∀ (x1 : CS) (y1 : MS) (kc1 ks1 : Nat), P x1 y1 → kc1 ≤ kc + 2000 → ks1 ≤ ks + 4000 → V C 1911 [(0, .ref b), (1, .ref (K.1 + 0)), (2, .ref (K.1 + 61)), (3, .int i)] [] (xf K x1 y1) kc1 ks1) : V C 1825 [(0, .ref b), (1, .ref (K.1 + 0)), (2, .ref (K.1 + 61)), (3, .int i)] [] (xf K x y) kc ks := by
  obtain ⟨r, x1, y1, e1, e2, hP1⟩ := S x y (xs (i + 1).toNatClampNeg) (xs (i + 2).toNatClampNeg) (xs (i + 3).toNatClampNeg) (xs (i + 4).toNatClampNeg) hP
  refine v_aload_n F (dq dkL_law_33 15 rfl) rfl 1 rfl ?_
  refine v_aload_n F (dq dkL_law_33 16 rfl) rfl 0 rfl ?_
  refine v_iload_n F (dq dkL_law_33 17 rfl) rfl 3 rfl ?_
  refine v_iconst F (v := 1) (dq dkL_law_33 18 rfl) ki_1 ?_
  refine v_iadd F (dq dkL_law_33 19 rfl) ?_
  refine v_sld F hX hbl hbA h1 (dq dkL_law_33 20 rfl) ?_
  refine v_aload_n F (dq dkL_law_33 21 rfl) rfl 0 rfl ?_
  refine v_iload_n F (dq dkL_law_33 22 rfl) rfl 3 rfl ?_
  refine v_iconst F (v := 2) (dq dkL_law_33 23 rfl) ki_2 ?_
  refine v_iadd F (dq dkL_law_33 24 rfl) ?_
  refine v_sld F hX hbl hbA h2 (dq dkL_law_33 25 rfl) ?_
  refine v_aload_n F (dq dkL_law_33 26 rfl) rfl 0 rfl ?_
  refine v_iload_n F (dq dkL_law_33 27 rfl) rfl 3 rfl ?_
  refine v_iconst F (v := 3) (dq dkL_law_33 28 rfl) ki_3 ?_
  refine v_iadd F (dq dkL_law_33 29 rfl) ?_
  refine v_sld F hX hbl hbA h3 (dq dkL_law_33 30 rfl) ?_
  refine v_aload_n F (dq dkL_law_33 31 rfl) rfl 0 rfl ?_
  refine v_iload_n F (dq dkL_law_33 32 rfl) rfl 3 rfl ?_
  refine v_iconst F (v := 4) (dq dkL_law_33 33 rfl) ki_4 ?_
  refine v_iadd F (dq dkL_law_33 34 rfl) ?_
  refine v_sld F hX hbl hbA h4 (dq dkL_law_33 35 rfl) ?_
  refine v_callV 4 F (q := 0) (kc1 := kc) (ks1 := ks) (as := [.int (xs (i + 1).toNatClampNeg), .int (xs (i + 2).toNatClampNeg), .int (xs (i + 3).toNatClampNeg), .int (xs (i + 4).toNatClampNeg)]) (st := []) (st1 := [.int r]) (res := (some (.int r))) (c_X10_worksBy (l := C.2.1) x y (xs (i + 1).toNatClampNeg) (xs (i + 2).toNatClampNeg) (xs (i + 3).toNatClampNeg) (xs (i + 4).toNatClampNeg) e1) (xn (by decide)) xc_0 rfl (tc53 _ (List.mem_of_getElem? (i := 1) rfl)) (tc53 _ (List.mem_of_getElem? (i := 2) rfl)) (tc53 _ (List.mem_of_getElem? (i := 3) rfl)) (tc1 _ (List.mem_of_getElem? (i := 2) rfl)) (tc53 _ (List.mem_of_getElem? (i := 4) rfl)) (by decide) rfl ⟨rfl, rfl, Nat.le_of_ble_eq_true rfl, Nat.le_of_ble_eq_true rfl⟩ ⟨by show kc + 0 ≤ 600000; omega, by show ks + 0 ≤ 7302250; omega⟩ rfl (Nat.le_of_ble_eq_true rfl) rfl rfl rfl (dq dkL_law_33 36 rfl) ?_
  refine v_aload_n F (dq dkL_law_33 37 rfl) rfl 2 rfl ?_
  refine v_aload_n F (dq dkL_law_33 38 rfl) rfl 0 rfl ?_
  refine v_iload_n F (dq dkL_law_33 39 rfl) rfl 3 rfl ?_
  refine v_iconst F (v := 1) (dq dkL_law_34 0 rfl) ki_1 ?_
  refine v_iadd F (dq dkL_law_34 1 rfl) ?_
  refine v_sld F hX hbl hbA h1 (dq dkL_law_34 2 rfl) ?_
  refine v_aload_n F (dq dkL_law_34 3 rfl) rfl 0 rfl ?_
  refine v_iload_n F (dq dkL_law_34 4 rfl) rfl 3 rfl ?_
  refine v_iconst F (v := 2) (dq dkL_law_34 5 rfl) ki_2 ?_
  refine v_iadd F (dq dkL_law_34 6 rfl) ?_
  refine v_sld F hX hbl hbA h2 (dq dkL_law_34 7 rfl) ?_
  refine v_aload_n F (dq dkL_law_34 8 rfl) rfl 0 rfl ?_
  refine v_iload_n F (dq dkL_law_34 9 rfl) rfl 3 rfl ?_
  refine v_iconst F (v := 3) (dq dkL_law_34 10 rfl) ki_3 ?_
  refine v_iadd F (dq dkL_law_34 11 rfl) ?_
  refine v_sld F hX hbl hbA h3 (dq dkL_law_34 12 rfl) ?_
  refine v_aload_n F (dq dkL_law_34 13 rfl) rfl 0 rfl ?_
  refine v_iload_n F (dq dkL_law_34 14 rfl) rfl 3 rfl ?_
  refine v_iconst F (v := 4) (dq dkL_law_34 15 rfl) ki_4 ?_
  refine v_iadd F (dq dkL_law_34 16 rfl) ?_
  refine v_sld F hX hbl hbA h4 (dq dkL_law_34 17 rfl) ?_
  obtain ⟨nn, hnn⟩ : ∃ nn, gn x1 = 27 + nn := ⟨gn x1 - 27, by have := hge _ _ hP1; omega⟩
  refine v_eqM (xfM_of hnn) ?_
  refine v_callV 4 F (q := 61) (kc1 := kc) (ks1 := ks) (as := [.int (xs (i + 1).toNatClampNeg), .int (xs (i + 2).toNatClampNeg), .int (xs (i + 3).toNatClampNeg), .int (xs (i + 4).toNatClampNeg)]) (st := [.int r]) (st1 := [.int r, .int r]) (res := (some (.int r))) (c_X11_worksBy (l := C.2.1) x1 y (xs (i + 1).toNatClampNeg) (xs (i + 2).toNatClampNeg) (xs (i + 3).toNatClampNeg) (xs (i + 4).toNatClampNeg) e2) (xnM (by decide)) xc_61 rfl (tc53 _ (List.mem_of_getElem? (i := 5) rfl)) (tc53 _ (List.mem_of_getElem? (i := 6) rfl)) (tc53 _ (List.mem_of_getElem? (i := 7) rfl)) (tc1 _ (List.mem_of_getElem? (i := 5) rfl)) (tc53 _ (List.mem_of_getElem? (i := 8) rfl)) (by decide) rfl ⟨rfl, rfl, Nat.le_of_ble_eq_true rfl, Nat.le_of_ble_eq_true rfl⟩ ⟨by show kc + 0 ≤ 600000; omega, by show ks + 0 ≤ 7302250; omega⟩ rfl (Nat.le_of_ble_eq_true rfl) rfl rfl rfl (dq dkL_law_34 18 rfl) ?_
  refine v_eqM (xfM_of hnn).symm ?_
  refine v_icmp_eq F (tgt := 1911) (dq dkL_law_34 19 rfl) (by decide) (fun _ => ?_) (fun c => absurd rfl c)
  exact hk x1 y1 (kc) (ks) hP1 (by omega) (by omega)
def sim_taken (P : CS → MS → Prop) : Prop := ∀ (x : CS) (y : MS) (a0 : Int32) (a1 : Int32), P x y → ∃ (r : Int32), f_X10_taken x a0 a1 = some r ∧ f_X11_taken y a0 a1 = some r
set_option maxRecDepth 100000 in
set_option maxHeartbeats 4000000 in
theorem lw_case_46 {C : Cx} {K : KE} {P : CS → MS → Prop} {b L : Nat} {xs : Nat → Int32} {i : Int32} (S : sim_taken P) (hge : ∀ x y, P x y → 27 ≤ gn x) (F : Fx C RL cL_law 4 room_1 K) (hX : va_X b L xs C.2.2.2.2.1 C.2.2.2.2.1.heap) (hbl : b < C.2.2.2.2.1.heap.size) (hbA : ¬ gA K.1 b) (h1 : vp_in (i + 1) L) (h2 : vp_in (i + 2) L) (h3 : vp_in (i + 3) L) (h4 : vp_in (i + 4) L) (h5 : vp_in (i + 5) L) (x : CS) (y : MS) (hP : P x y) (kc ks : Nat) (hkc : kc + 2000 ≤ 600000) (hks : ks + 4000 ≤ 7302250)
    (hk : ∀ (x1 : CS) (y1 : MS) (kc1 ks1 : Nat), P x1 y1 → kc1 ≤ kc + 2000 → ks1 ≤ ks + 4000 → V C 1911 [(0, .ref b), (1, .ref (K.1 + 0)), (2, .ref (K.1 + 61)), (3, .int i)] [] (xf K x1 y1) kc1 ks1) : V C 1878 [(0, .ref b), (1, .ref (K.1 + 0)), (2, .ref (K.1 + 61)), (3, .int i)] [] (xf K x y) kc ks := by
  obtain ⟨r, e1, e2⟩ := S x y (xs (i + 1).toNatClampNeg) (xs (i + 2).toNatClampNeg) hP
  have hP1 := hP
  refine v_aload_n F (dq dkL_law_34 22 rfl) rfl 1 rfl ?_
  refine v_aload_n F (dq dkL_law_34 23 rfl) rfl 0 rfl ?_
  refine v_iload_n F (dq dkL_law_34 24 rfl) rfl 3 rfl ?_
  refine v_iconst F (v := 1) (dq dkL_law_34 25 rfl) ki_1 ?_
  refine v_iadd F (dq dkL_law_34 26 rfl) ?_
  refine v_sld F hX hbl hbA h1 (dq dkL_law_34 27 rfl) ?_
  refine v_aload_n F (dq dkL_law_34 28 rfl) rfl 0 rfl ?_
  refine v_iload_n F (dq dkL_law_34 29 rfl) rfl 3 rfl ?_
  refine v_iconst F (v := 2) (dq dkL_law_34 30 rfl) ki_2 ?_
  refine v_iadd F (dq dkL_law_34 31 rfl) ?_
  refine v_sld F hX hbl hbA h2 (dq dkL_law_34 32 rfl) ?_
  refine v_callV 2 F (q := 0) (kc1 := kc) (ks1 := ks) (as := [.int (xs (i + 1).toNatClampNeg), .int (xs (i + 2).toNatClampNeg)]) (st := []) (st1 := [.int r]) (res := (some (.int r))) (c_X10_taken (l := C.2.1) x y (xs (i + 1).toNatClampNeg) (xs (i + 2).toNatClampNeg) e1) (xn (by decide)) xc_0 rfl (tc53 _ (List.mem_of_getElem? (i := 10) rfl)) (tc53 _ (List.mem_of_getElem? (i := 11) rfl)) (tc53 _ (List.mem_of_getElem? (i := 12) rfl)) (tc1 _ (List.mem_of_getElem? (i := 2) rfl)) (tc53 _ (List.mem_of_getElem? (i := 13) rfl)) (by decide) rfl ⟨rfl, rfl, Nat.le_of_ble_eq_true rfl, Nat.le_of_ble_eq_true rfl⟩ ⟨by show kc + 0 ≤ 600000; omega, by show ks + 0 ≤ 7302250; omega⟩ rfl (Nat.le_of_ble_eq_true rfl) rfl rfl rfl (dq dkL_law_34 33 rfl) ?_
  refine v_aload_n F (dq dkL_law_34 34 rfl) rfl 2 rfl ?_
  refine v_aload_n F (dq dkL_law_34 35 rfl) rfl 0 rfl ?_
  refine v_iload_n F (dq dkL_law_34 36 rfl) rfl 3 rfl ?_
  refine v_iconst F (v := 1) (dq dkL_law_34 37 rfl) ki_1 ?_
  refine v_iadd F (dq dkL_law_34 38 rfl) ?_
  refine v_sld F hX hbl hbA h1 (dq dkL_law_34 39 rfl) ?_
  refine v_aload_n F (dq dkL_law_35 0 rfl) rfl 0 rfl ?_
  refine v_iload_n F (dq dkL_law_35 1 rfl) rfl 3 rfl ?_
  refine v_iconst F (v := 2) (dq dkL_law_35 2 rfl) ki_2 ?_
  refine v_iadd F (dq dkL_law_35 3 rfl) ?_
  refine v_sld F hX hbl hbA h2 (dq dkL_law_35 4 rfl) ?_
  obtain ⟨nn, hnn⟩ : ∃ nn, gn x = 27 + nn := ⟨gn x - 27, by have := hge _ _ hP1; omega⟩
  refine v_eqM (xfM_of hnn) ?_
  refine v_callV 2 F (q := 61) (kc1 := kc) (ks1 := ks) (as := [.int (xs (i + 1).toNatClampNeg), .int (xs (i + 2).toNatClampNeg)]) (st := [.int r]) (st1 := [.int r, .int r]) (res := (some (.int r))) (c_X11_taken (l := C.2.1) x y (xs (i + 1).toNatClampNeg) (xs (i + 2).toNatClampNeg) e2) (xnM (by decide)) xc_61 rfl (tc53 _ (List.mem_of_getElem? (i := 18) rfl)) (tc53 _ (List.mem_of_getElem? (i := 19) rfl)) (tc53 _ (List.mem_of_getElem? (i := 20) rfl)) (tc1 _ (List.mem_of_getElem? (i := 5) rfl)) (tc53 _ (List.mem_of_getElem? (i := 21) rfl)) (by decide) rfl ⟨rfl, rfl, Nat.le_of_ble_eq_true rfl, Nat.le_of_ble_eq_true rfl⟩ ⟨by show kc + 0 ≤ 600000; omega, by show ks + 0 ≤ 7302250; omega⟩ rfl (Nat.le_of_ble_eq_true rfl) rfl rfl rfl (dq dkL_law_35 5 rfl) ?_
  refine v_eqM (xfM_of hnn).symm ?_
  refine v_icmp_eq F (tgt := 1911) (dq dkL_law_35 6 rfl) (by decide) (fun _ => ?_) (fun c => absurd rfl c)
  exact hk x y (kc) (ks) hP1 (by omega) (by omega)
