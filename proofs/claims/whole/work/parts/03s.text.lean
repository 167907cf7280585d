def rm_J0_coder_7d493 : Room := { frames := 1, cells := 0, slots := 0, locals := 30 }
set_option maxRecDepth 100000 in
set_option maxHeartbeats 4000000 in
theorem c_J0_coder_7d493 {K : KE} {l : Launch} {M : GM} (i : Nat) (hi : i < 13) : MC K l yJ0_coder_7d493 cJ0_coder_7d493 1 (some .byte) rm_J0_coder_7d493 0 0 [.ref (K.2.2.2 (10 + i))] M M (some (.int 0)) := by
  refine mc_of (ls0 := [(0, .ref (K.2.2.2 (10 + i)))]) (by decide) (Nat.le_of_ble_eq_true rfl) rfl (fun C hl hnm F E => ?_)
  have F : Fx C RJ0 cJ0_coder_7d493 1 rm_J0_coder_7d493 K := F
  refine v_getsC F (tc6 _ (List.mem_of_getElem? (i := 5) rfl)) (dq dkJ0_coder_7d493_0 0 rfl) ?_
  refine v_if_eq F (tgt := 13) (dq dkJ0_coder_7d493_0 1 rfl) (by decide) (fun c1 => absurd c1 (by decide)) (fun c1 => ?_)
  refine v_aload_n F (dq dkJ0_coder_7d493_0 2 rfl) rfl 0 rfl ?_
  refine v_scod i F hi (tc6 _ (List.mem_of_getElem? (i := 6) rfl)) (dq dkJ0_coder_7d493_0 3 rfl) ?_
  refine v_goto F (tgt := 14) (dq dkJ0_coder_7d493_0 4 rfl) (by decide) ?_
  exact v_nret F E rfl (dq dkJ0_coder_7d493_0 6 rfl)
def rm_J0_length_8abf5 : Room := { frames := 2, cells := 0, slots := 0, locals := 60 }
set_option maxRecDepth 100000 in
set_option maxHeartbeats 4000000 in
theorem c_J0_length_8abf5 {K : KE} {l : Launch} {M : GM} (i : Nat) (hi : i < 13) : MC K l yJ0_length_8abf5 cJ0_length_8abf5 1 (some .int) rm_J0_length_8abf5 0 0 [.ref (K.2.2.2 (10 + i))] M M (some (.int (nI (sLen.getD i 0) >>> ((0 : Int32) &&& 31)))) := by
  refine mc_of (ls0 := [(0, .ref (K.2.2.2 (10 + i)))]) (by decide) (Nat.le_of_ble_eq_true rfl) rfl (fun C hl hnm F E => ?_)
  have F : Fx C RJ0 cJ0_length_8abf5 1 rm_J0_length_8abf5 K := F
  refine v_aload_n F (dq dkJ0_length_8abf5_0 0 rfl) rfl 0 rfl ?_
  refine v_sval i F hi (tc6 _ (List.mem_of_getElem? (i := 0) rfl)) (dq dkJ0_length_8abf5_0 1 rfl) ?_
  refine v_tlen i F hi (v := nI (sLen.getD i 0)) rfl (dq dkJ0_length_8abf5_0 2 rfl) ?_
  refine v_aload_n F (dq dkJ0_length_8abf5_0 3 rfl) rfl 0 rfl ?_
  refine v_callT 0 i F (kc1 := 0) (ks1 := 0) (as := []) (st := [.int (nI (sLen.getD i 0))]) (st1 := [.int 0, .int (nI (sLen.getD i 0))]) (res := (some (.int 0))) (c_J0_coder_7d493 (l := C.2.1) i hi) hi (tc6 _ (List.mem_of_getElem? (i := 1) rfl)) (tc6 _ (List.mem_of_getElem? (i := 2) rfl)) (tc6 _ (List.mem_of_getElem? (i := 3) rfl)) (tc5 _ (List.mem_of_getElem? (i := 22) rfl)) (tc6 _ (List.mem_of_getElem? (i := 4) rfl)) (by decide) rfl ⟨rfl, rfl, Nat.le_of_ble_eq_true rfl, Nat.le_of_ble_eq_true rfl⟩ ⟨Nat.le_of_ble_eq_true rfl, Nat.le_of_ble_eq_true rfl⟩ rfl (Nat.le_of_ble_eq_true rfl) rfl rfl rfl (dq dkJ0_length_8abf5_0 4 rfl) ?_
  refine v_ishr F (dq dkJ0_length_8abf5_0 5 rfl) ?_
  exact v_iret F E (dq dkJ0_length_8abf5_0 6 rfl)
def rm_J0_isLatin1_aae02 : Room := { frames := 1, cells := 0, slots := 0, locals := 30 }
set_option maxRecDepth 100000 in
set_option maxHeartbeats 4000000 in
theorem c_J0_isLatin1_aae02 {K : KE} {l : Launch} {M : GM} (i : Nat) (hi : i < 13) : MC K l yJ0_isLatin1_aae02 cJ0_isLatin1_aae02 1 (some .boolean) rm_J0_isLatin1_aae02 0 0 [.ref (K.2.2.2 (10 + i))] M M (some (.int 1)) := by
  refine mc_of (ls0 := [(0, .ref (K.2.2.2 (10 + i)))]) (by decide) (Nat.le_of_ble_eq_true rfl) rfl (fun C hl hnm F E => ?_)
  have F : Fx C RJ0 cJ0_isLatin1_aae02 1 rm_J0_isLatin1_aae02 K := F
  refine v_getsC F (tc6 _ (List.mem_of_getElem? (i := 5) rfl)) (dq dkJ0_isLatin1_aae02_0 0 rfl) ?_
  refine v_if_eq F (tgt := 17) (dq dkJ0_isLatin1_aae02_0 1 rfl) (by decide) (fun c1 => absurd c1 (by decide)) (fun c1 => ?_)
  refine v_aload_n F (dq dkJ0_isLatin1_aae02_0 2 rfl) rfl 0 rfl ?_
  refine v_scod i F hi (tc6 _ (List.mem_of_getElem? (i := 6) rfl)) (dq dkJ0_isLatin1_aae02_0 3 rfl) ?_
  refine v_if_ne F (tgt := 17) (dq dkJ0_isLatin1_aae02_0 4 rfl) (by decide) (fun c1 => absurd rfl c1) (fun c1 => ?_)
  refine v_iconst F (v := 1) (dq dkJ0_isLatin1_aae02_0 5 rfl) ki_1 ?_
  refine v_goto F (tgt := 18) (dq dkJ0_isLatin1_aae02_0 6 rfl) (by decide) ?_
  exact v_nret F E rfl (dq dkJ0_isLatin1_aae02_0 8 rfl)
def rm_J3_checkIndex_8e157 : Room := { frames := 1, cells := 0, slots := 0, locals := 30 }
set_option maxRecDepth 100000 in
set_option maxHeartbeats 4000000 in
theorem c_J3_checkIndex_8e157 {K : KE} {l : Launch} {M : GM} (a b : Int32) (v : Value) (hv : v = .null ∨ ∃ a, v = .ref a) (h1 : ¬ a < 0) (h2 : a < b) : MC K l yJ3_checkIndex_8e157 cJ3_checkIndex_8e157 3 (some .int) rm_J3_checkIndex_8e157 0 0 [.int a, .int b, v] M M (some (.int a)) := by
  obtain ⟨ls0, hls, hl1⟩ : ∃ ls0, lv_args 0 [.int a, .int b, v] = ls0 ∧ ls0 = [(0, .int a), (1, .int b), (2, v)] := ⟨_, rfl, rfl⟩
  refine mc_of (ls0 := ls0) (by decide) (by rcases hv with rfl | ⟨q, rfl⟩ <;> exact Nat.le_of_ble_eq_true rfl) hls (fun C hl hnm F E => ?_)
  have F : Fx C RJ3 cJ3_checkIndex_8e157 3 rm_J3_checkIndex_8e157 K := F
  rw [hl1]
  refine v_iload_n F (dq dkJ3_checkIndex_8e157_0 0 rfl) rfl 0 rfl ?_
  refine v_if_lt F (tgt := 9) (dq dkJ3_checkIndex_8e157_0 1 rfl) (by decide) (fun c1 => absurd c1 h1) (fun c1 => ?_)
  refine v_iload_n F (dq dkJ3_checkIndex_8e157_0 2 rfl) rfl 0 rfl ?_
  refine v_iload_n F (dq dkJ3_checkIndex_8e157_0 3 rfl) rfl 1 rfl ?_
  refine v_icmp_lt F (tgt := 16) (dq dkJ3_checkIndex_8e157_0 4 rfl) (by decide) (fun c1 => ?_) (fun c1 => absurd h2 c1)
  refine v_iload_n F (dq dkJ3_checkIndex_8e157_0 10 rfl) rfl 0 rfl ?_
  exact v_iret F E (dq dkJ3_checkIndex_8e157_0 11 rfl)
def rm_J0_checkIndex_df160 : Room := { frames := 2, cells := 0, slots := 0, locals := 60 }
set_option maxRecDepth 100000 in
set_option maxHeartbeats 4000000 in
theorem c_J0_checkIndex_df160 {K : KE} {l : Launch} {M : GM} (a b : Int32) (h1 : ¬ a < 0) (h2 : a < b) : MC K l yJ0_checkIndex_df160 cJ0_checkIndex_df160 2 none rm_J0_checkIndex_df160 0 0 [.int a, .int b] M M none := by
  refine mc_of (ls0 := [(0, .int a), (1, .int b)]) (by decide) (Nat.le_of_ble_eq_true rfl) rfl (fun C hl hnm F E => ?_)
  have F : Fx C RJ0 cJ0_checkIndex_df160 2 rm_J0_checkIndex_df160 K := F
  refine v_iload_n F (dq dkJ0_checkIndex_df160_0 0 rfl) rfl 0 rfl ?_
  refine v_iload_n F (dq dkJ0_checkIndex_df160_0 1 rfl) rfl 1 rfl ?_
  refine v_getsQ F (tc6 _ (List.mem_of_getElem? (i := 22) rfl)) (dq dkJ0_checkIndex_df160_0 2 rfl) (fun v hv => ?_)
  refine v_callS 3 F (kc1 := 0) (ks1 := 0) (as := [.int a, .int b, v]) (st := []) (st1 := [.int a]) (res := (some (.int a))) (c_J3_checkIndex_8e157 (l := C.2.1) a b v hv h1 h2) (tc6 _ (List.mem_of_getElem? (i := 23) rfl)) (tc7 _ (List.mem_of_getElem? (i := 0) rfl)) (tc7 _ (List.mem_of_getElem? (i := 1) rfl)) (tc7 _ (List.mem_of_getElem? (i := 2) rfl)) (by decide) rfl ⟨rfl, rfl, Nat.le_of_ble_eq_true rfl, Nat.le_of_ble_eq_true rfl⟩ ⟨Nat.le_of_ble_eq_true rfl, Nat.le_of_ble_eq_true rfl⟩ rfl (Nat.le_of_ble_eq_true rfl) rfl rfl rfl (dq dkJ0_checkIndex_df160_0 3 rfl) ?_
  refine v_pop F (dq dkJ0_checkIndex_df160_0 4 rfl) rfl ?_
  exact v_vret F E (dq dkJ0_checkIndex_df160_0 5 rfl)
def rm_J1_charAt_3b067 : Room := { frames := 3, cells := 0, slots := 0, locals := 100 }
/-- the sign at j of text i -/
def tch (i j : Nat) : Int32 := (((sByt.getD i []).getD j 0) &&& 255)
def tln (i : Nat) : Nat := sLen.getD i 0
theorem tln_s : ∀ i, i < 13 → tln i < 2 ^ 31 := by decide
theorem tch_n (x : Int32) : ((x &&& 255).toUInt32 % 65536).toInt32 = x &&& 255 := sc_c2 x
theorem tch_c (x : Int32) : narrow .char (.int (x &&& 255)) = .int (x &&& 255) := by
  have h := pk_nc (x &&& 255)
  rw [tch_n] at h
  exact h
theorem tln_in {i : Nat} {j : Int32} (hi : i < 13) (h : ib j (tln i) = true) : ¬ j < 0 ∧ j < nI (tln i) := by
  have h1 := ib_in h
  refine ⟨fun z => h1 (Or.inl z), ?_⟩
  obtain ⟨q, hq, rfl⟩ := vp_in_of h1 (tln_s i hi)
  exact nI_lt hq (tln_s i hi)
set_option maxRecDepth 100000 in
set_option maxHeartbeats 4000000 in
theorem c_J1_charAt_3b067 {K : KE} {l : Launch} {M : GM} (i : Nat) (hi : i < 13) (j : Int32) (h : ib j (tln i) = true) : MC K l yJ1_charAt_3b067 cJ1_charAt_3b067 2 (some .char) rm_J1_charAt_3b067 0 0 [.ref (K.2.2.2 (30 + i)), .int j] M M (some (.int (tch i j.toNatClampNeg))) := by
  refine mc_of (ls0 := [(0, .ref (K.2.2.2 (30 + i))), (1, .int j)]) (by decide) (Nat.le_of_ble_eq_true rfl) rfl (fun C hl hnm F E => ?_)
  have F : Fx C RJ1 cJ1_charAt_3b067 2 rm_J1_charAt_3b067 K := F
  refine v_iload_n F (dq dkJ1_charAt_3b067_0 0 rfl) rfl 1 rfl ?_
  refine v_aload_n F (dq dkJ1_charAt_3b067_0 1 rfl) rfl 0 rfl ?_
  refine v_tlen i F hi (v := nI (tln i)) rfl (dq dkJ1_charAt_3b067_0 2 rfl) ?_
  refine v_callS 2 F (kc1 := 0) (ks1 := 0) (as := [.int j, .int (nI (tln i))]) (st := []) (st1 := []) (res := none) (c_J0_checkIndex_df160 (l := C.2.1) j (nI (tln i)) (tln_in hi h).1 (tln_in hi h).2) (tc6 _ (List.mem_of_getElem? (i := 19) rfl)) (tc6 _ (List.mem_of_getElem? (i := 20) rfl)) (tc5 _ (List.mem_of_getElem? (i := 22) rfl)) (tc6 _ (List.mem_of_getElem? (i := 21) rfl)) (by decide) rfl ⟨rfl, rfl, Nat.le_of_ble_eq_true rfl, Nat.le_of_ble_eq_true rfl⟩ ⟨Nat.le_of_ble_eq_true rfl, Nat.le_of_ble_eq_true rfl⟩ rfl (Nat.le_of_ble_eq_true rfl) rfl rfl rfl (dq dkJ1_charAt_3b067_0 3 rfl) ?_
  refine v_aload_n F (dq dkJ1_charAt_3b067_0 4 rfl) rfl 0 rfl ?_
  refine v_iload_n F (dq dkJ1_charAt_3b067_0 5 rfl) rfl 1 rfl ?_
  refine v_tb i F hi (ib_in h) (dq dkJ1_charAt_3b067_0 6 rfl) ?_
  refine v_sipush F (v := 255) (dq dkJ1_charAt_3b067_0 7 rfl) ks_255 ?_
  refine v_iand F (dq dkJ1_charAt_3b067_0 8 rfl) ?_
  refine v_i2c F (dq dkJ1_charAt_3b067_0 9 rfl) ?_
  rw [tch_n]
  exact v_nret F E (tch_c _) (dq dkJ1_charAt_3b067_0 10 rfl)
def rm_J0_charAt_5068e : Room := { frames := 4, cells := 0, slots := 0, locals := 150 }
set_option maxRecDepth 100000 in
set_option maxHeartbeats 4000000 in
theorem c_J0_charAt_5068e {K : KE} {l : Launch} {M : GM} (i : Nat) (hi : i < 13) (j : Int32) (h : ib j (tln i) = true) : MC K l yJ0_charAt_5068e cJ0_charAt_5068e 2 (some .char) rm_J0_charAt_5068e 0 0 [.ref (K.2.2.2 (10 + i)), .int j] M M (some (.int (tch i j.toNatClampNeg))) := by
  refine mc_of (ls0 := [(0, .ref (K.2.2.2 (10 + i))), (1, .int j)]) (by decide) (Nat.le_of_ble_eq_true rfl) rfl (fun C hl hnm F E => ?_)
  have F : Fx C RJ0 cJ0_charAt_5068e 2 rm_J0_charAt_5068e K := F
  refine v_aload_n F (dq dkJ0_charAt_5068e_0 0 rfl) rfl 0 rfl ?_
  refine v_callT 0 i F (kc1 := 0) (ks1 := 0) (as := []) (st := []) (st1 := [.int 1]) (res := (some (.int 1))) (c_J0_isLatin1_aae02 (l := C.2.1) i hi) hi (tc6 _ (List.mem_of_getElem? (i := 11) rfl)) (tc6 _ (List.mem_of_getElem? (i := 12) rfl)) (tc6 _ (List.mem_of_getElem? (i := 13) rfl)) (tc5 _ (List.mem_of_getElem? (i := 22) rfl)) (tc6 _ (List.mem_of_getElem? (i := 14) rfl)) (by decide) rfl ⟨rfl, rfl, Nat.le_of_ble_eq_true rfl, Nat.le_of_ble_eq_true rfl⟩ ⟨Nat.le_of_ble_eq_true rfl, Nat.le_of_ble_eq_true rfl⟩ rfl (Nat.le_of_ble_eq_true rfl) rfl rfl rfl (dq dkJ0_charAt_5068e_0 1 rfl) ?_
  refine v_if_eq F (tgt := 16) (dq dkJ0_charAt_5068e_0 2 rfl) (by decide) (fun c1 => absurd c1 (by decide)) (fun c1 => ?_)
  refine v_aload_n F (dq dkJ0_charAt_5068e_0 3 rfl) rfl 0 rfl ?_
  refine v_sval i F hi (tc6 _ (List.mem_of_getElem? (i := 0) rfl)) (dq dkJ0_charAt_5068e_0 4 rfl) ?_
  refine v_iload_n F (dq dkJ0_charAt_5068e_0 5 rfl) rfl 1 rfl ?_
  refine v_callS 2 F (kc1 := 0) (ks1 := 0) (as := [.ref (K.2.2.2 (30 + i)), .int j]) (st := []) (st1 := [.int (tch i j.toNatClampNeg)]) (res := (some (.int (tch i j.toNatClampNeg)))) (c_J1_charAt_3b067 (l := C.2.1) i hi j h) (tc6 _ (List.mem_of_getElem? (i := 15) rfl)) (tc6 _ (List.mem_of_getElem? (i := 16) rfl)) (tc6 _ (List.mem_of_getElem? (i := 17) rfl)) (tc6 _ (List.mem_of_getElem? (i := 18) rfl)) (by decide) rfl ⟨rfl, rfl, Nat.le_of_ble_eq_true rfl, Nat.le_of_ble_eq_true rfl⟩ ⟨Nat.le_of_ble_eq_true rfl, Nat.le_of_ble_eq_true rfl⟩ rfl (Nat.le_of_ble_eq_true rfl) rfl rfl rfl (dq dkJ0_charAt_5068e_0 6 rfl) ?_
  exact v_nret F E (tch_c _) (dq dkJ0_charAt_5068e_0 7 rfl)
