theorem io_int {a : Nat} (h : a < 1000) : (Int32.ofNat a).toInt = (a : Int) := Int32.toInt_ofNat_of_lt (by omega)
theorem io_nat {a : Nat} (h : a < 1000) : (Int32.ofNat a).toNatClampNeg = a := by
  show (Int32.ofNat a).toInt.toNat = a
  rw [io_int h]; rfl
theorem io_add (a k : Nat) : Int32.ofNat a + Int32.ofNat k = Int32.ofNat (a + k) := (Int32.ofNat_add a k).symm
theorem io_in {a L : Nat} (k : Nat) (h : a + k < L) (hL : L ≤ 384) : vp_in (Int32.ofNat a + Int32.ofNat k) L := by
  rw [io_add]
  rintro (q | q)
  · have := Int32.lt_iff_toInt_lt.mp q
    rw [io_int (by omega)] at this
    have e : (0 : Int32).toInt = 0 := rfl
    omega
  · rw [io_nat (by omega)] at q
    omega
theorem io_in0 {a L : Nat} (h : a < L) (hL : L ≤ 384) : vp_in (Int32.ofNat a) L := by
  have := io_in 0 h hL
  rw [io_add] at this
  exact this
theorem io_sub {a L : Nat} (ha : a < 1000) (hL : L ≤ 384) : Int32.ofNat L - 6 < Int32.ofNat a ↔ L < a + 6 := by
  rw [Int32.lt_iff_toInt_lt, io_int ha, Int32.toInt_sub, io_int (by omega)]
  have e : (6 : Int32).toInt = 6 := rfl
  rw [e, Int.bmod_eq_of_le (by omega) (by omega)]
  omega
theorem io_and63 (w : Int32) : 0 ≤ (w &&& 63).toInt ∧ (w &&& 63).toInt ≤ 63 := by
  have h : ∀ v : BitVec 32, ¬ (v &&& 63#32).toInt < 0 ∧ ¬ 63 < (v &&& 63#32).toInt := by
    intro v
    have h1 : (v &&& 63#32).toNat ≤ 63 := by
      rw [BitVec.toNat_and]; exact Nat.and_le_right
    rw [BitVec.toInt_eq_toNat_cond]
    split <;> omega
  have := h w.toBitVec
  show 0 ≤ (w.toBitVec &&& 63#32).toInt ∧ (w.toBitVec &&& 63#32).toInt ≤ 63
  omega
/-- class and check answer alike, whatever is called, and P holds again -/
def SimAll (P : CS → MS → Prop) : Prop := sim_carve P ∧ sim_carved P ∧ sim_set P ∧ sim_count P ∧ sim_feed P ∧ sim_text P ∧ sim_force P ∧ sim_asks P ∧ sim_work P ∧ sim_forget P ∧ sim_workTold P ∧ sim_hull P ∧ sim_state P ∧ sim_days P ∧ sim_fewest P ∧ sim_crack P ∧ sim_far P ∧ sim_odds P ∧ sim_stop P ∧ sim_wished P ∧ sim_old P ∧ sim_copyOf P ∧ sim_even P ∧ sim_hours P ∧ sim_left P ∧ sim_judge P ∧ sim_floats P ∧ sim_bears P ∧ sim_bar P ∧ sim_tree P ∧ sim_bore P ∧ sim_worth P ∧ sim_which P ∧ sim_boring P ∧ sim_hole P ∧ sim_fell P ∧ sim_forest P ∧ sim_dries P ∧ sim_shade P ∧ sim_drawn P ∧ sim_image P ∧ sim_back P ∧ sim_sheet P ∧ sim_cell P ∧ sim_copy P ∧ sim_worksBy P ∧ sim_taken P
set_option maxRecDepth 100000 in
set_option maxHeartbeats 4000000 in
theorem lw_disp {i w : Int32} {C : Cx} {K : KE} {P : CS → MS → Prop} {b L : Nat} {xs : Nat → Int32} (S : SimAll P) (hge : ∀ x y, P x y → 27 ≤ gn x) (F : Fx C RL cL_law 4 room_1 K) (hX : va_X b L xs C.2.2.2.2.1 C.2.2.2.2.1.heap) (hbl : b < C.2.2.2.2.1.heap.size) (hbA : ¬ gA K.1 b) (h1 : vp_in (i + 1) L) (h2 : vp_in (i + 2) L) (h3 : vp_in (i + 3) L) (h4 : vp_in (i + 4) L) (h5 : vp_in (i + 5) L) (hw : 0 ≤ w.toInt ∧ w.toInt ≤ 63) (x : CS) (y : MS) (hP : P x y) (kc ks : Nat) (hkc : kc + 2000 ≤ 600000) (hks : ks + 4000 ≤ 7302250)
    (hk : ∀ (x1 : CS) (y1 : MS) (kc1 ks1 : Nat), P x1 y1 → kc1 ≤ kc + 2000 → ks1 ≤ ks + 4000 → V C 1911 [(0, .ref b), (1, .ref (K.1 + 0)), (2, .ref (K.1 + 61)), (3, .int i)] [] (xf K x1 y1) kc1 ks1) : V C 33 [(0, .ref b), (1, .ref (K.1 + 0)), (2, .ref (K.1 + 61)), (3, .int i)] [.int w] (xf K x y) kc ks := by
  rcases (by omega : w.toInt < 47 ∨ 47 ≤ w.toInt) with hs | hs
  · obtain ⟨z, hz⟩ : ∃ z : Nat, w.toInt = (z : Int) := ⟨w.toInt.toNat, by omega⟩
    have hz2 : z < 47 := by omega
    match z, hz2, hz with
    | 0, _, hz => exact v_tblIn F (off := 203) (tgt := 236) (dq dkL_law_0 21 rfl) (by rw [hz]; decide) (by rw [hz]; decide) (by rw [hz]; rfl) (by decide) (lw_case_0 (S.1) hge F hX hbl hbA h1 h2 h3 h4 h5 x y hP kc ks hkc hks hk)
    | 1, _, hz => exact v_tblIn F (off := 246) (tgt := 279) (dq dkL_law_0 21 rfl) (by rw [hz]; decide) (by rw [hz]; decide) (by rw [hz]; rfl) (by decide) (lw_case_1 (S.2.1) hge F hX hbl hbA h1 h2 h3 h4 h5 x y hP kc ks hkc hks hk)
    | 2, _, hz => exact v_tblIn F (off := 279) (tgt := 312) (dq dkL_law_0 21 rfl) (by rw [hz]; decide) (by rw [hz]; decide) (by rw [hz]; rfl) (by decide) (lw_case_2 (S.2.2.1) hge F hX hbl hbA h1 h2 h3 h4 h5 x y hP kc ks hkc hks hk)
    | 3, _, hz => exact v_tblIn F (off := 312) (tgt := 345) (dq dkL_law_0 21 rfl) (by rw [hz]; decide) (by rw [hz]; decide) (by rw [hz]; rfl) (by decide) (lw_case_3 (S.2.2.2.1) hge F hX hbl hbA h1 h2 h3 h4 h5 x y hP kc ks hkc hks hk)
    | 4, _, hz => exact v_tblIn F (off := 335) (tgt := 368) (dq dkL_law_0 21 rfl) (by rw [hz]; decide) (by rw [hz]; decide) (by rw [hz]; rfl) (by decide) (lw_case_4 (S.2.2.2.2.1) hge F hX hbl hbA h1 h2 h3 h4 h5 x y hP kc ks hkc hks hk)
    | 5, _, hz => exact v_tblIn F (off := 398) (tgt := 431) (dq dkL_law_0 21 rfl) (by rw [hz]; decide) (by rw [hz]; decide) (by rw [hz]; rfl) (by decide) (lw_case_5 (S.2.2.2.2.2.1) hge F hX hbl hbA h1 h2 h3 h4 h5 x y hP kc ks hkc hks hk)
    | 6, _, hz => exact v_tblIn F (off := 411) (tgt := 444) (dq dkL_law_0 21 rfl) (by rw [hz]; decide) (by rw [hz]; decide) (by rw [hz]; rfl) (by decide) (lw_case_6 (S.2.2.2.2.2.2.1) hge F hX hbl hbA h1 h2 h3 h4 h5 x y hP kc ks hkc hks hk)
    | 7, _, hz => exact v_tblIn F (off := 434) (tgt := 467) (dq dkL_law_0 21 rfl) (by rw [hz]; decide) (by rw [hz]; decide) (by rw [hz]; rfl) (by decide) (lw_case_7 (S.2.2.2.2.2.2.2.1) hge F hX hbl hbA h1 h2 h3 h4 h5 x y hP kc ks hkc hks hk)
    | 8, _, hz => exact v_tblIn F (off := 487) (tgt := 520) (dq dkL_law_0 21 rfl) (by rw [hz]; decide) (by rw [hz]; decide) (by rw [hz]; rfl) (by decide) (lw_case_8 (S.2.2.2.2.2.2.2.2.1) hge F hX hbl hbA h1 h2 h3 h4 h5 x y hP kc ks hkc hks hk)
    | 9, _, hz => exact v_tblIn F (off := 530) (tgt := 563) (dq dkL_law_0 21 rfl) (by rw [hz]; decide) (by rw [hz]; decide) (by rw [hz]; rfl) (by decide) (lw_case_9 (S.2.2.2.2.2.2.2.2.2.1) hge F hX hbl hbA h1 h2 h3 h4 h5 x y hP kc ks hkc hks hk)
    | 10, _, hz => exact v_tblIn F (off := 543) (tgt := 576) (dq dkL_law_0 21 rfl) (by rw [hz]; decide) (by rw [hz]; decide) (by rw [hz]; rfl) (by decide) (lw_case_10 (S.2.2.2.2.2.2.2.2.2.2.1) hge F hX hbl hbA h1 h2 h3 h4 h5 x y hP kc ks hkc hks hk)
    | 11, _, hz => exact v_tblIn F (off := 576) (tgt := 609) (dq dkL_law_0 21 rfl) (by rw [hz]; decide) (by rw [hz]; decide) (by rw [hz]; rfl) (by decide) (lw_case_11 (S.2.2.2.2.2.2.2.2.2.2.2.1) hge F hX hbl hbA h1 h2 h3 h4 h5 x y hP kc ks hkc hks hk)
    | 12, _, hz => exact v_tblIn F (off := 619) (tgt := 652) (dq dkL_law_0 21 rfl) (by rw [hz]; decide) (by rw [hz]; decide) (by rw [hz]; rfl) (by decide) (lw_case_12 (S.2.2.2.2.2.2.2.2.2.2.2.2.1) hge F hX hbl hbA h1 h2 h3 h4 h5 x y hP kc ks hkc hks hk)
    | 13, _, hz => exact v_tblIn F (off := 652) (tgt := 685) (dq dkL_law_0 21 rfl) (by rw [hz]; decide) (by rw [hz]; decide) (by rw [hz]; rfl) (by decide) (lw_case_13 (S.2.2.2.2.2.2.2.2.2.2.2.2.2.1) hge F hX hbl hbA h1 h2 h3 h4 h5 x y hP kc ks hkc hks hk)
    | 14, _, hz => exact v_tblIn F (off := 685) (tgt := 718) (dq dkL_law_0 21 rfl) (by rw [hz]; decide) (by rw [hz]; decide) (by rw [hz]; rfl) (by decide) (lw_case_14 (S.2.2.2.2.2.2.2.2.2.2.2.2.2.2.1) hge F hX hbl hbA h1 h2 h3 h4 h5 x y hP kc ks hkc hks hk)
    | 15, _, hz => exact v_tblIn F (off := 718) (tgt := 751) (dq dkL_law_0 21 rfl) (by rw [hz]; decide) (by rw [hz]; decide) (by rw [hz]; rfl) (by decide) (lw_case_15 (S.2.2.2.2.2.2.2.2.2.2.2.2.2.2.2.1) hge F hX hbl hbA h1 h2 h3 h4 h5 x y hP kc ks hkc hks hk)
    | 16, _, hz => exact v_tblIn F (off := 751) (tgt := 784) (dq dkL_law_0 21 rfl) (by rw [hz]; decide) (by rw [hz]; decide) (by rw [hz]; rfl) (by decide) (lw_case_16 (S.2.2.2.2.2.2.2.2.2.2.2.2.2.2.2.2.1) hge F hX hbl hbA h1 h2 h3 h4 h5 x y hP kc ks hkc hks hk)
    | 17, _, hz => exact v_tblIn F (off := 774) (tgt := 807) (dq dkL_law_0 21 rfl) (by rw [hz]; decide) (by rw [hz]; decide) (by rw [hz]; rfl) (by decide) (lw_case_17 (S.2.2.2.2.2.2.2.2.2.2.2.2.2.2.2.2.2.1) hge F hX hbl hbA h1 h2 h3 h4 h5 x y hP kc ks hkc hks hk)
    | 18, _, hz => exact v_tblIn F (off := 828) (tgt := 861) (dq dkL_law_0 21 rfl) (by rw [hz]; decide) (by rw [hz]; decide) (by rw [hz]; rfl) (by decide) (lw_case_18 (S.2.2.2.2.2.2.2.2.2.2.2.2.2.2.2.2.2.2.1) hge F hX hbl hbA h1 h2 h3 h4 h5 x y hP kc ks hkc hks hk)
    | 19, _, hz => exact v_tblIn F (off := 881) (tgt := 914) (dq dkL_law_0 21 rfl) (by rw [hz]; decide) (by rw [hz]; decide) (by rw [hz]; rfl) (by decide) (lw_case_19 (S.2.2.2.2.2.2.2.2.2.2.2.2.2.2.2.2.2.2.2.1) hge F hX hbl hbA h1 h2 h3 h4 h5 x y hP kc ks hkc hks hk)
    | 20, _, hz => exact v_tblIn F (off := 924) (tgt := 957) (dq dkL_law_0 21 rfl) (by rw [hz]; decide) (by rw [hz]; decide) (by rw [hz]; rfl) (by decide) (lw_case_20 (S.2.2.2.2.2.2.2.2.2.2.2.2.2.2.2.2.2.2.2.2.1) hge F hX hbl hbA h1 h2 h3 h4 h5 x y hP kc ks hkc hks hk)
    | 21, _, hz => exact v_tblIn F (off := 947) (tgt := 980) (dq dkL_law_0 21 rfl) (by rw [hz]; decide) (by rw [hz]; decide) (by rw [hz]; rfl) (by decide) (lw_case_21 (S.2.2.2.2.2.2.2.2.2.2.2.2.2.2.2.2.2.2.2.2.2.1) hge F hX hbl hbA h1 h2 h3 h4 h5 x y hP kc ks hkc hks hk)
    | 22, _, hz => exact v_tblIn F (off := 980) (tgt := 1013) (dq dkL_law_0 21 rfl) (by rw [hz]; decide) (by rw [hz]; decide) (by rw [hz]; rfl) (by decide) (lw_case_22 (S.2.2.2.2.2.2.2.2.2.2.2.2.2.2.2.2.2.2.2.2.2.2.1) hge F hX hbl hbA h1 h2 h3 h4 h5 x y hP kc ks hkc hks hk)
    | 23, _, hz => exact v_tblIn F (off := 1013) (tgt := 1046) (dq dkL_law_0 21 rfl) (by rw [hz]; decide) (by rw [hz]; decide) (by rw [hz]; rfl) (by decide) (lw_case_23 (S.2.2.2.2.2.2.2.2.2.2.2.2.2.2.2.2.2.2.2.2.2.2.2.1) hge F hX hbl hbA h1 h2 h3 h4 h5 x y hP kc ks hkc hks hk)
    | 24, _, hz => exact v_tblIn F (off := 1046) (tgt := 1079) (dq dkL_law_0 21 rfl) (by rw [hz]; decide) (by rw [hz]; decide) (by rw [hz]; rfl) (by decide) (lw_case_24 (S.2.2.2.2.2.2.2.2.2.2.2.2.2.2.2.2.2.2.2.2.2.2.2.2.1) hge F hX hbl hbA h1 h2 h3 h4 h5 x y hP kc ks hkc hks hk)
    | 25, _, hz => exact v_tblIn F (off := 1090) (tgt := 1123) (dq dkL_law_0 21 rfl) (by rw [hz]; decide) (by rw [hz]; decide) (by rw [hz]; rfl) (by decide) (lw_case_25 (S.2.2.2.2.2.2.2.2.2.2.2.2.2.2.2.2.2.2.2.2.2.2.2.2.2.1) hge F hX hbl hbA h1 h2 h3 h4 h5 x y hP kc ks hkc hks hk)
    | 26, _, hz => exact v_tblIn F (off := 1123) (tgt := 1156) (dq dkL_law_0 21 rfl) (by rw [hz]; decide) (by rw [hz]; decide) (by rw [hz]; rfl) (by decide) (lw_case_26 (S.2.2.2.2.2.2.2.2.2.2.2.2.2.2.2.2.2.2.2.2.2.2.2.2.2.2.1) hge F hX hbl hbA h1 h2 h3 h4 h5 x y hP kc ks hkc hks hk)
    | 27, _, hz => exact v_tblIn F (off := 1166) (tgt := 1199) (dq dkL_law_0 21 rfl) (by rw [hz]; decide) (by rw [hz]; decide) (by rw [hz]; rfl) (by decide) (lw_case_27 (S.2.2.2.2.2.2.2.2.2.2.2.2.2.2.2.2.2.2.2.2.2.2.2.2.2.2.2.1) hge F hX hbl hbA h1 h2 h3 h4 h5 x y hP kc ks hkc hks hk)
    | 28, _, hz => exact v_tblIn F (off := 1199) (tgt := 1232) (dq dkL_law_0 21 rfl) (by rw [hz]; decide) (by rw [hz]; decide) (by rw [hz]; rfl) (by decide) (lw_case_28 (S.2.2.2.2.2.2.2.2.2.2.2.2.2.2.2.2.2.2.2.2.2.2.2.2.2.2.2.2.1) hge F hX hbl hbA h1 h2 h3 h4 h5 x y hP kc ks hkc hks hk)
    | 29, _, hz => exact v_tblIn F (off := 1242) (tgt := 1275) (dq dkL_law_0 21 rfl) (by rw [hz]; decide) (by rw [hz]; decide) (by rw [hz]; rfl) (by decide) (lw_case_29 (S.2.2.2.2.2.2.2.2.2.2.2.2.2.2.2.2.2.2.2.2.2.2.2.2.2.2.2.2.2.1) hge F hX hbl hbA h1 h2 h3 h4 h5 x y hP kc ks hkc hks hk)
    | 30, _, hz => exact v_tblIn F (off := 1295) (tgt := 1328) (dq dkL_law_0 21 rfl) (by rw [hz]; decide) (by rw [hz]; decide) (by rw [hz]; rfl) (by decide) (lw_case_30 (S.2.2.2.2.2.2.2.2.2.2.2.2.2.2.2.2.2.2.2.2.2.2.2.2.2.2.2.2.2.2.1) hge F hX hbl hbA h1 h2 h3 h4 h5 x y hP kc ks hkc hks hk)
    | 31, _, hz => exact v_tblIn F (off := 1328) (tgt := 1361) (dq dkL_law_0 21 rfl) (by rw [hz]; decide) (by rw [hz]; decide) (by rw [hz]; rfl) (by decide) (lw_case_31 (S.2.2.2.2.2.2.2.2.2.2.2.2.2.2.2.2.2.2.2.2.2.2.2.2.2.2.2.2.2.2.2.1) hge F hX hbl hbA h1 h2 h3 h4 h5 x y hP kc ks hkc hks hk)
    | 32, _, hz => exact v_tblIn F (off := 1362) (tgt := 1395) (dq dkL_law_0 21 rfl) (by rw [hz]; decide) (by rw [hz]; decide) (by rw [hz]; rfl) (by decide) (lw_case_32 (S.2.2.2.2.2.2.2.2.2.2.2.2.2.2.2.2.2.2.2.2.2.2.2.2.2.2.2.2.2.2.2.2.1) hge F hX hbl hbA h1 h2 h3 h4 h5 x y hP kc ks hkc hks hk)
    | 33, _, hz => exact v_tblIn F (off := 1375) (tgt := 1408) (dq dkL_law_0 21 rfl) (by rw [hz]; decide) (by rw [hz]; decide) (by rw [hz]; rfl) (by decide) (lw_case_33 (S.2.2.2.2.2.2.2.2.2.2.2.2.2.2.2.2.2.2.2.2.2.2.2.2.2.2.2.2.2.2.2.2.2.1) hge F hX hbl hbA h1 h2 h3 h4 h5 x y hP kc ks hkc hks hk)
    | 34, _, hz => exact v_tblIn F (off := 1409) (tgt := 1442) (dq dkL_law_0 21 rfl) (by rw [hz]; decide) (by rw [hz]; decide) (by rw [hz]; rfl) (by decide) (lw_case_34 (S.2.2.2.2.2.2.2.2.2.2.2.2.2.2.2.2.2.2.2.2.2.2.2.2.2.2.2.2.2.2.2.2.2.2.1) hge F hX hbl hbA h1 h2 h3 h4 h5 x y hP kc ks hkc hks hk)
    | 35, _, hz => exact v_tblIn F (off := 1422) (tgt := 1455) (dq dkL_law_0 21 rfl) (by rw [hz]; decide) (by rw [hz]; decide) (by rw [hz]; rfl) (by decide) (lw_case_35 (S.2.2.2.2.2.2.2.2.2.2.2.2.2.2.2.2.2.2.2.2.2.2.2.2.2.2.2.2.2.2.2.2.2.2.2.1) hge F hX hbl hbA h1 h2 h3 h4 h5 x y hP kc ks hkc hks hk)
    | 36, _, hz => exact v_tblIn F (off := 1465) (tgt := 1498) (dq dkL_law_0 21 rfl) (by rw [hz]; decide) (by rw [hz]; decide) (by rw [hz]; rfl) (by decide) (lw_case_36 (S.2.2.2.2.2.2.2.2.2.2.2.2.2.2.2.2.2.2.2.2.2.2.2.2.2.2.2.2.2.2.2.2.2.2.2.2.1) hge F hX hbl hbA h1 h2 h3 h4 h5 x y hP kc ks hkc hks hk)
    | 37, _, hz => exact v_tblIn F (off := 1508) (tgt := 1541) (dq dkL_law_0 21 rfl) (by rw [hz]; decide) (by rw [hz]; decide) (by rw [hz]; rfl) (by decide) (lw_case_37 (S.2.2.2.2.2.2.2.2.2.2.2.2.2.2.2.2.2.2.2.2.2.2.2.2.2.2.2.2.2.2.2.2.2.2.2.2.2.1) hge F hX hbl hbA h1 h2 h3 h4 h5 x y hP kc ks hkc hks hk)
    | 38, _, hz => exact v_tblIn F (off := 1541) (tgt := 1574) (dq dkL_law_0 21 rfl) (by rw [hz]; decide) (by rw [hz]; decide) (by rw [hz]; rfl) (by decide) (lw_case_38 (S.2.2.2.2.2.2.2.2.2.2.2.2.2.2.2.2.2.2.2.2.2.2.2.2.2.2.2.2.2.2.2.2.2.2.2.2.2.2.1) hge F hX hbl hbA h1 h2 h3 h4 h5 x y hP kc ks hkc hks hk)
    | 39, _, hz => exact v_tblIn F (off := 1564) (tgt := 1597) (dq dkL_law_0 21 rfl) (by rw [hz]; decide) (by rw [hz]; decide) (by rw [hz]; rfl) (by decide) (lw_case_39 (S.2.2.2.2.2.2.2.2.2.2.2.2.2.2.2.2.2.2.2.2.2.2.2.2.2.2.2.2.2.2.2.2.2.2.2.2.2.2.2.1) hge F hX hbl hbA h1 h2 h3 h4 h5 x y hP kc ks hkc hks hk)
    | 40, _, hz => exact v_tblIn F (off := 1617) (tgt := 1650) (dq dkL_law_0 21 rfl) (by rw [hz]; decide) (by rw [hz]; decide) (by rw [hz]; rfl) (by decide) (lw_case_40 (S.2.2.2.2.2.2.2.2.2.2.2.2.2.2.2.2.2.2.2.2.2.2.2.2.2.2.2.2.2.2.2.2.2.2.2.2.2.2.2.2.1) hge F hX hbl hbA h1 h2 h3 h4 h5 x y hP kc ks hkc hks hk)
    | 41, _, hz => exact v_tblIn F (off := 1630) (tgt := 1663) (dq dkL_law_0 21 rfl) (by rw [hz]; decide) (by rw [hz]; decide) (by rw [hz]; rfl) (by decide) (lw_case_41 (S.2.2.2.2.2.2.2.2.2.2.2.2.2.2.2.2.2.2.2.2.2.2.2.2.2.2.2.2.2.2.2.2.2.2.2.2.2.2.2.2.2.1) hge F hX hbl hbA h1 h2 h3 h4 h5 x y hP kc ks hkc hks hk)
    | 42, _, hz => exact v_tblIn F (off := 1643) (tgt := 1676) (dq dkL_law_0 21 rfl) (by rw [hz]; decide) (by rw [hz]; decide) (by rw [hz]; rfl) (by decide) (lw_case_42 (S.2.2.2.2.2.2.2.2.2.2.2.2.2.2.2.2.2.2.2.2.2.2.2.2.2.2.2.2.2.2.2.2.2.2.2.2.2.2.2.2.2.2.1) hge F hX hbl hbA h1 h2 h3 h4 h5 x y hP kc ks hkc hks hk)
    | 43, _, hz => exact v_tblIn F (off := 1686) (tgt := 1719) (dq dkL_law_0 21 rfl) (by rw [hz]; decide) (by rw [hz]; decide) (by rw [hz]; rfl) (by decide) (lw_case_43 (S.2.2.2.2.2.2.2.2.2.2.2.2.2.2.2.2.2.2.2.2.2.2.2.2.2.2.2.2.2.2.2.2.2.2.2.2.2.2.2.2.2.2.2.1) hge F hX hbl hbA h1 h2 h3 h4 h5 x y hP kc ks hkc hks hk)
    | 44, _, hz => exact v_tblIn F (off := 1729) (tgt := 1762) (dq dkL_law_0 21 rfl) (by rw [hz]; decide) (by rw [hz]; decide) (by rw [hz]; rfl) (by decide) (lw_case_44 (S.2.2.2.2.2.2.2.2.2.2.2.2.2.2.2.2.2.2.2.2.2.2.2.2.2.2.2.2.2.2.2.2.2.2.2.2.2.2.2.2.2.2.2.2.1) hge F hX hbl hbA h1 h2 h3 h4 h5 x y hP kc ks hkc hks hk)
    | 45, _, hz => exact v_tblIn F (off := 1792) (tgt := 1825) (dq dkL_law_0 21 rfl) (by rw [hz]; decide) (by rw [hz]; decide) (by rw [hz]; rfl) (by decide) (lw_case_45 (S.2.2.2.2.2.2.2.2.2.2.2.2.2.2.2.2.2.2.2.2.2.2.2.2.2.2.2.2.2.2.2.2.2.2.2.2.2.2.2.2.2.2.2.2.2.1) hge F hX hbl hbA h1 h2 h3 h4 h5 x y hP kc ks hkc hks hk)
    | 46, _, hz => exact v_tblIn F (off := 1845) (tgt := 1878) (dq dkL_law_0 21 rfl) (by rw [hz]; decide) (by rw [hz]; decide) (by rw [hz]; rfl) (by decide) (lw_case_46 (S.2.2.2.2.2.2.2.2.2.2.2.2.2.2.2.2.2.2.2.2.2.2.2.2.2.2.2.2.2.2.2.2.2.2.2.2.2.2.2.2.2.2.2.2.2.2) hge F hX hbl hbA h1 h2 h3 h4 h5 x y hP kc ks hkc hks hk)
    | n + 47, h, _ => exact absurd h (by omega)
  · exact v_tblOut F (tgt := 1911) (dq dkL_law_0 21 rfl) (Or.inr (by omega)) (by decide) (hk x y kc ks hP (Nat.le_add_right _ _) (Nat.le_add_right _ _))
set_option maxRecDepth 100000 in
set_option maxHeartbeats 4000000 in
theorem lw_loop {C : Cx} {K : KE} {P : CS → MS → Prop} {b L : Nat} {xs : Nat → Int32} (S : SimAll P) (hge : ∀ x y, P x y → 27 ≤ gn x) (F : Fx C RL cL_law 4 room_1 K) (hX : va_X b L xs C.2.2.2.2.1 C.2.2.2.2.1.heap) (hbl : b < C.2.2.2.2.1.heap.size) (hbA : ¬ gA K.1 b) (hL : L ≤ 384) (kc0 ks0 : Nat) (hc0 : kc0 + 64 * 2000 ≤ 600000) (hs0 : ks0 + 64 * 4000 ≤ 7302250)
    (hend : ∀ (x : CS) (y : MS) (kc ks m : Nat), P x y → kc ≤ 600000 → ks ≤ 7302250 → V C 1917 [(0, .ref b), (1, .ref (K.1 + 0)), (2, .ref (K.1 + 61)), (3, .int (Int32.ofNat (6 * m)))] [] (xf K x y) kc ks) : ∀ (n m : Nat), n + m = 64 → ∀ (x : CS) (y : MS) (kc ks : Nat), P x y → kc ≤ kc0 + m * 2000 → ks ≤ ks0 + m * 4000 → V C 18 [(0, .ref b), (1, .ref (K.1 + 0)), (2, .ref (K.1 + 61)), (3, .int (Int32.ofNat (6 * m)))] [] (xf K x y) kc ks := by
  intro n
  induction n with
  | zero => intro m hm x y kc ks hP hkc hks
            have em : m = 64 := by omega
            subst em
            refine v_iload_n F (dq dkL_law_0 10 rfl) rfl 3 rfl ?_
            refine v_aload_n F (dq dkL_law_0 11 rfl) rfl 0 rfl ?_
            refine v_slen F hX hbl hbA (dq dkL_law_0 12 rfl) ?_
            refine v_bipush F (v := 6) (dq dkL_law_0 13 rfl) (by decide) ?_
            refine v_isub F (dq dkL_law_0 14 rfl) ?_
            exact v_icmp_gt F (tgt := 1917) (dq dkL_law_0 15 rfl) (by decide) (fun _ => hend x y kc ks 64 hP (by omega) (by omega)) (fun c => absurd ((io_sub (by omega) hL).mpr (by omega)) c)
  | succ n ih =>
    intro m hm x y kc ks hP hkc hks
    refine v_iload_n F (dq dkL_law_0 10 rfl) rfl 3 rfl ?_
    refine v_aload_n F (dq dkL_law_0 11 rfl) rfl 0 rfl ?_
    refine v_slen F hX hbl hbA (dq dkL_law_0 12 rfl) ?_
    refine v_bipush F (v := 6) (dq dkL_law_0 13 rfl) (by decide) ?_
    refine v_isub F (dq dkL_law_0 14 rfl) ?_
    refine v_icmp_gt F (tgt := 1917) (dq dkL_law_0 15 rfl) (by decide) (fun _ => hend x y kc ks m hP (by omega) (by omega)) (fun c => ?_)
    have hm6 : 6 * m + 6 ≤ L := Nat.le_of_not_lt (fun q => c ((io_sub (by omega) hL).mpr q))
    refine v_aload_n F (dq dkL_law_0 16 rfl) rfl 0 rfl ?_
    refine v_iload_n F (dq dkL_law_0 17 rfl) rfl 3 rfl ?_
    refine v_sld F hX hbl hbA (io_in0 (by omega) hL) (dq dkL_law_0 18 rfl) ?_
    refine v_bipush F (v := 63) (dq dkL_law_0 19 rfl) (by decide) ?_
    refine v_iand F (dq dkL_law_0 20 rfl) ?_
    refine lw_disp S hge F hX hbl hbA (io_in 1 (by omega) hL) (io_in 2 (by omega) hL) (io_in 3 (by omega) hL) (io_in 4 (by omega) hL) (io_in 5 (by omega) hL) (io_and63 _) x y hP kc ks (by omega) (by omega) (fun x1 y1 kc1 ks1 hP1 h1 h2 => ?_)
    refine v_iinc F (v := Int32.ofNat (6 * (m + 1))) (ls' := [(3, .int (Int32.ofNat (6 * (m + 1)))), (0, .ref b), (1, .ref (K.1 + 0)), (2, .ref (K.1 + 61))]) (dq dkL_law_35 9 rfl) (j := 3) rfl (by show Int32.ofNat (6 * m) + Int32.ofNat 6 = _; rw [io_add, show 6 * m + 6 = 6 * (m + 1) from by omega]) (by decide) rfl ?_
    refine v_goto F (tgt := 18) (dq dkL_law_35 10 rfl) (by decide) ?_
    refine v_sub [1, 2, 3, 0] rfl ?_
    exact ih (m + 1) (by omega) x1 y1 kc1 ks1 hP1 (by omega) (by omega)
