def rm_X11_crack : Room := { frames := 9, cells := 0, slots := 0, locals := 217 }
def f_X11_crack (y : MS) (a1 : Int32) (a2 : Int32) : Option (Int32 × MS) := if (b2i (f_X11_areWorks y a1)) = 0 then (some ((-5), y)) else (if (b2i (f_X11_in a2 0 12)) = 0 then (some ((-7), y)) else ((f_X11_cracks y a1 a2 0).bind fun r5 => some (r5.1, r5.2)))
set_option maxRecDepth 100000 in
set_option maxHeartbeats 4000000 in
theorem c_X11_crack {K : KE} {l : Launch} {R : Int32 × MS} {nn : Nat} (x : CS) (y : MS) (a1 : Int32) (a2 : Int32) (h : f_X11_crack y a1 a2 = some R) : MC K l yX11_crack cX11_crack 3 (some .int) rm_X11_crack 0 0 [.ref (K.1 + 61), .int a1, .int a2] (xfM K nn x y) (xfM K nn x R.2) (some (.int R.1)) := by
  unfold f_X11_crack at h
  refine mc_of (ls0 := [(0, .ref (K.1 + 61)), (1, .int a1), (2, .int a2)]) (by decide) (Nat.le_of_ble_eq_true rfl) rfl (fun C hl hnm F E => ?_)
  have F : Fx C RX11 cX11_crack 3 rm_X11_crack K := F
  refine v_aload_n F (dq dkX11_crack_0 0 rfl) rfl 0 rfl ?_
  refine v_iload_n F (dq dkX11_crack_0 1 rfl) rfl 1 rfl ?_
  refine v_callV 1 F (q := 61) (kc1 := 0) (ks1 := 0) (as := [.int a1]) (st := []) (st1 := (.int (b2i (f_X11_areWorks y a1)) :: [])) (res := (some (.int (b2i (f_X11_areWorks y a1))))) (c_X11_areWorks (l := C.2.1) x y a1) (xnM (by decide)) xc_61 rfl (tc27 _ (List.mem_of_getElem? (i := 10) rfl)) (tc27 _ (List.mem_of_getElem? (i := 11) rfl)) (tc27 _ (List.mem_of_getElem? (i := 12) rfl)) (tc1 _ (List.mem_of_getElem? (i := 5) rfl)) (tc27 _ (List.mem_of_getElem? (i := 13) rfl)) (by decide) rfl ⟨rfl, rfl, Nat.le_of_ble_eq_true rfl, Nat.le_of_ble_eq_true rfl⟩ ⟨Nat.le_of_ble_eq_true rfl, Nat.le_of_ble_eq_true rfl⟩ rfl (Nat.le_of_ble_eq_true rfl) rfl rfl rfl (dq dkX11_crack_0 2 rfl) ?_
  refine v_if_ne F (tgt := 13) (dq dkX11_crack_0 3 rfl) (by decide) (fun c2 => ?_) (fun c2 => ?_)
  · rw [if_neg c2] at h
    refine v_iload_n F (dq dkX11_crack_0 6 rfl) rfl 2 rfl ?_
    refine v_iconst F (v := 0) (dq dkX11_crack_0 7 rfl) ki_0 ?_
    refine v_bipush F (v := 12) (dq dkX11_crack_0 8 rfl) kb_12 ?_
    refine v_callS 3 F (kc1 := 0) (ks1 := 0) (as := [.int a2, .int 0, .int 12]) (st := []) (st1 := (.int (b2i (f_X11_in a2 0 12)) :: [])) (res := (some (.int (b2i (f_X11_in a2 0 12))))) (c_X11_in (l := C.2.1) a2 0 12) (tc15 _ (List.mem_of_getElem? (i := 1) rfl)) (tc15 _ (List.mem_of_getElem? (i := 2) rfl)) (tc1 _ (List.mem_of_getElem? (i := 5) rfl)) (tc15 _ (List.mem_of_getElem? (i := 3) rfl)) (by decide) rfl ⟨rfl, rfl, Nat.le_of_ble_eq_true rfl, Nat.le_of_ble_eq_true rfl⟩ ⟨Nat.le_of_ble_eq_true rfl, Nat.le_of_ble_eq_true rfl⟩ rfl (Nat.le_of_ble_eq_true rfl) rfl rfl rfl (dq dkX11_crack_0 9 rfl) ?_
    refine v_if_eq F (tgt := 33) (dq dkX11_crack_0 10 rfl) (by decide) (fun c4 => ?_) (fun c4 => ?_)
    · rw [if_pos c4] at h
      refine v_bipush F (v := (-7)) (dq dkX11_crack_0 17 rfl) kb_m7 ?_
      have h := Option.some.inj h
      subst h
      exact v_iret F E (dq dkX11_crack_0 18 rfl)
    · rw [if_neg c4] at h
      refine v_aload_n F (dq dkX11_crack_0 11 rfl) rfl 0 rfl ?_
      refine v_iload_n F (dq dkX11_crack_0 12 rfl) rfl 1 rfl ?_
      refine v_iload_n F (dq dkX11_crack_0 13 rfl) rfl 2 rfl ?_
      refine v_iconst F (v := 0) (dq dkX11_crack_0 14 rfl) ki_0 ?_
      obtain ⟨r5, e6, h⟩ := bd_of h
      refine v_callV 3 F (q := 61) (kc1 := 0) (ks1 := 0) (as := [.int a1, .int a2, .int 0]) (st := []) (st1 := (.int r5.1 :: [])) (res := (some (.int r5.1))) (c_X11_cracks (l := C.2.1) x y a1 a2 0 e6) (xnM (by decide)) xc_61 rfl (tc31 _ (List.mem_of_getElem? (i := 14) rfl)) (tc31 _ (List.mem_of_getElem? (i := 15) rfl)) (tc31 _ (List.mem_of_getElem? (i := 16) rfl)) (tc1 _ (List.mem_of_getElem? (i := 5) rfl)) (tc31 _ (List.mem_of_getElem? (i := 17) rfl)) (by decide) rfl ⟨rfl, rfl, Nat.le_of_ble_eq_true rfl, Nat.le_of_ble_eq_true rfl⟩ ⟨Nat.le_of_ble_eq_true rfl, Nat.le_of_ble_eq_true rfl⟩ rfl (Nat.le_of_ble_eq_true rfl) rfl rfl rfl (dq dkX11_crack_0 15 rfl) ?_
      refine v_goto F (tgt := 35) (dq dkX11_crack_0 16 rfl) (by decide) ?_
      have h := Option.some.inj h
      subst h
      exact v_iret F E (dq dkX11_crack_0 18 rfl)
  · rw [if_pos c2] at h
    refine v_bipush F (v := (-5)) (dq dkX11_crack_0 4 rfl) kb_m5 ?_
    refine v_goto F (tgt := 35) (dq dkX11_crack_0 5 rfl) (by decide) ?_
    have h := Option.some.inj h
    subst h
    exact v_iret F E (dq dkX11_crack_0 18 rfl)
def rm_X11_inchesLeft : Room := { frames := 8, cells := 0, slots := 0, locals := 192 }
def f_X11_inchesLeft (y : MS) (a1 : Int32) : Option (Int32 × MS) := (f_X11_comes y a1).bind fun r1 => some (12 - (gi r1 61 46), r1)
set_option maxRecDepth 100000 in
set_option maxHeartbeats 4000000 in
theorem c_X11_inchesLeft {K : KE} {l : Launch} {R : Int32 × MS} {nn : Nat} (x : CS) (y : MS) (a1 : Int32) (h : f_X11_inchesLeft y a1 = some R) : MC K l yX11_inchesLeft cX11_inchesLeft 2 (some .int) rm_X11_inchesLeft 0 0 [.ref (K.1 + 61), .int a1] (xfM K nn x y) (xfM K nn x R.2) (some (.int R.1)) := by
  unfold f_X11_inchesLeft at h
  refine mc_of (ls0 := [(0, .ref (K.1 + 61)), (1, .int a1)]) (by decide) (Nat.le_of_ble_eq_true rfl) rfl (fun C hl hnm F E => ?_)
  have F : Fx C RX11 cX11_inchesLeft 2 rm_X11_inchesLeft K := F
  refine v_aload_n F (dq dkX11_inchesLeft_0 0 rfl) rfl 0 rfl ?_
  refine v_iload_n F (dq dkX11_inchesLeft_0 1 rfl) rfl 1 rfl ?_
  obtain ⟨r1, e2, h⟩ := bd_of h
  refine v_callV 1 F (q := 61) (kc1 := 0) (ks1 := 0) (as := [.int a1]) (st := []) (st1 := []) (res := none) (c_X11_comes (l := C.2.1) x y a1 e2) (xnM (by decide)) xc_61 rfl (tc27 _ (List.mem_of_getElem? (i := 14) rfl)) (tc27 _ (List.mem_of_getElem? (i := 15) rfl)) (tc27 _ (List.mem_of_getElem? (i := 16) rfl)) (tc1 _ (List.mem_of_getElem? (i := 5) rfl)) (tc27 _ (List.mem_of_getElem? (i := 17) rfl)) (by decide) rfl ⟨rfl, rfl, Nat.le_of_ble_eq_true rfl, Nat.le_of_ble_eq_true rfl⟩ ⟨Nat.le_of_ble_eq_true rfl, Nat.le_of_ble_eq_true rfl⟩ rfl (Nat.le_of_ble_eq_true rfl) rfl rfl rfl (dq dkX11_inchesLeft_0 2 rfl) ?_
  refine v_bipush F (v := 12) (dq dkX11_inchesLeft_0 3 rfl) kb_12 ?_
  refine v_aload_n F (dq dkX11_inchesLeft_0 4 rfl) rfl 0 rfl ?_
  refine v_get F 61 (xnM (by decide)) xc_61 rfl inlX11 46 (by decide) (tc27 _ (List.mem_of_getElem? (i := 22) rfl)) rfl rfl (dq dkX11_inchesLeft_0 5 rfl) ?_
  refine v_isub F (dq dkX11_inchesLeft_0 6 rfl) ?_
  have h := Option.some.inj h
  subst h
  exact v_iret F E (dq dkX11_inchesLeft_0 7 rfl)
def rm_X11_far : Room := { frames := 9, cells := 0, slots := 0, locals := 217 }
def f_X11_far_45 (k22 : MS → Int32 → Int32 → Int32 → Int32 → Option (Int32 × MS)) (y : MS) (a1 : Int32) (a2 : Int32) (a4 : Int32) (s0 : Int32) : Option (Int32 × MS) := k22 y a1 a2 s0 (a4 + 1)
set_option maxRecDepth 100000 in
set_option maxHeartbeats 4000000 in
theorem t_X11_far_45 {C : Cx} {K : KE} {nn : Nat} {x : CS} {R : Int32 × MS}  (k22 : MS → Int32 → Int32 → Int32 → Int32 → Option (Int32 × MS)) (y : MS) (a1 : Int32) (a2 : Int32) (a4 : Int32) (s0 : Int32) (hk22 : ∀ (y : MS) (a1 : Int32) (a2 : Int32) (a3 : Int32) (a4 : Int32), k22 y a1 a2 a3 a4 = some R → V C 22 [(0, .ref (K.1 + 61)), (1, .int a1), (2, .int a2), (3, .int a3), (4, .int a4)] [] (xfM K nn x y) 0 0) (h : f_X11_far_45 k22 y a1 a2 a4 s0 = some R) (F : Fx C RX11 cX11_far 5 rm_X11_far K) (E : CE C (xfM K nn x R.2) (some (.int R.1)) 0 0 (some .int)) : V C 45 [(0, .ref (K.1 + 61)), (1, .int a1), (2, .int a2), (4, .int a4)] [.int s0] (xfM K nn x y) 0 0 := by
  unfold f_X11_far_45 at h
  refine v_istore_n F (ls' := [(3, .int s0), (0, .ref (K.1 + 61)), (1, .int a1), (2, .int a2), (4, .int a4)]) (dq dkX11_far_0 26 rfl) rfl (by decide) rfl ?_
  refine v_iinc F (v := a4 + 1) (ls' := [(4, .int (a4 + 1)), (3, .int s0), (0, .ref (K.1 + 61)), (1, .int a1), (2, .int a2)]) (dq dkX11_far_0 27 rfl) (j := 4) rfl (kv_add ki_1) (by decide) rfl ?_
  refine v_goto F (tgt := 22) (dq dkX11_far_0 28 rfl) (by decide) ?_
  refine v_sub [2, 3, 4, 1, 0] rfl ?_
  exact hk22 y a1 a2 s0 (a4 + 1) h
def f_X11_far_22 : Nat → MS → Int32 → Int32 → Int32 → Int32 → Option (Int32 × MS)
  | 0, _, _, _, _, _ => none
  | n + 1, y, a1, a2, a3, a4 => if a2 < a4 then (some (a3, y)) else ((f_X11_cracks y a1 a4 0).bind fun r2 => if r2.1 = 0 then (f_X11_far_45 (f_X11_far_22 n) r2.2 a1 a2 a4 a4) else (f_X11_far_45 (f_X11_far_22 n) r2.2 a1 a2 a4 a3))
set_option maxRecDepth 100000 in
set_option maxHeartbeats 4000000 in
theorem t_X11_far_22 {C : Cx} {K : KE} {nn : Nat} {x : CS} {R : Int32 × MS}  (F : Fx C RX11 cX11_far 5 rm_X11_far K) (E : CE C (xfM K nn x R.2) (some (.int R.1)) 0 0 (some .int)) : ∀ (n : Nat) (y : MS) (a1 : Int32) (a2 : Int32) (a3 : Int32) (a4 : Int32) (h : f_X11_far_22 n y a1 a2 a3 a4 = some R), V C 22 [(0, .ref (K.1 + 61)), (1, .int a1), (2, .int a2), (3, .int a3), (4, .int a4)] [] (xfM K nn x y) 0 0 := by
  intro n
  induction n with
  | zero => intro y a1 a2 a3 a4 h; cases h
  | succ n ih =>
    intro y a1 a2 a3 a4 h
    rw [f_X11_far_22] at h
    refine v_iload F (dq dkX11_far_0 14 rfl) 4 rfl ?_
    refine v_iload_n F (dq dkX11_far_0 15 rfl) rfl 2 rfl ?_
    refine v_icmp_gt F (tgt := 52) (dq dkX11_far_0 16 rfl) (by decide) (fun c1 => ?_) (fun c1 => ?_)
    · rw [if_pos c1] at h
      refine v_iload_n F (dq dkX11_far_0 29 rfl) rfl 3 rfl ?_
      have h := Option.some.inj h
      subst h
      exact v_iret F E (dq dkX11_far_0 30 rfl)
    · rw [if_neg c1] at h
      refine v_aload_n F (dq dkX11_far_0 17 rfl) rfl 0 rfl ?_
      refine v_iload_n F (dq dkX11_far_0 18 rfl) rfl 1 rfl ?_
      refine v_iload F (dq dkX11_far_0 19 rfl) 4 rfl ?_
      refine v_iconst F (v := 0) (dq dkX11_far_0 20 rfl) ki_0 ?_
      obtain ⟨r2, e3, h⟩ := bd_of h
      refine v_callV 3 F (q := 61) (kc1 := 0) (ks1 := 0) (as := [.int a1, .int a4, .int 0]) (st := []) (st1 := (.int r2.1 :: [])) (res := (some (.int r2.1))) (c_X11_cracks (l := C.2.1) x y a1 a4 0 e3) (xnM (by decide)) xc_61 rfl (tc31 _ (List.mem_of_getElem? (i := 14) rfl)) (tc31 _ (List.mem_of_getElem? (i := 15) rfl)) (tc31 _ (List.mem_of_getElem? (i := 16) rfl)) (tc1 _ (List.mem_of_getElem? (i := 5) rfl)) (tc31 _ (List.mem_of_getElem? (i := 17) rfl)) (by decide) rfl ⟨rfl, rfl, Nat.le_of_ble_eq_true rfl, Nat.le_of_ble_eq_true rfl⟩ ⟨Nat.le_of_ble_eq_true rfl, Nat.le_of_ble_eq_true rfl⟩ rfl (Nat.le_of_ble_eq_true rfl) rfl rfl rfl (dq dkX11_far_0 21 rfl) ?_
      refine v_if_ne F (tgt := 44) (dq dkX11_far_0 22 rfl) (by decide) (fun c4 => ?_) (fun c4 => ?_)
      · rw [if_neg c4] at h
        refine v_iload_n F (dq dkX11_far_0 25 rfl) rfl 3 rfl ?_
        refine v_sub [0, 1, 2, 4] rfl ?_
        exact t_X11_far_45 (f_X11_far_22 n) r2.2 a1 a2 a4 a3 ih h F E
      · rw [if_pos c4] at h
        refine v_iload F (dq dkX11_far_0 23 rfl) 4 rfl ?_
        refine v_goto F (tgt := 45) (dq dkX11_far_0 24 rfl) (by decide) ?_
        refine v_sub [0, 1, 2, 4] rfl ?_
        exact t_X11_far_45 (f_X11_far_22 n) r2.2 a1 a2 a4 a4 ih h F E
def f_X11_far (y : MS) (a1 : Int32) : Option (Int32 × MS) := if (b2i (f_X11_areWorks y a1)) = 0 then (some ((-5), y)) else ((f_X11_inchesLeft y a1).bind fun r7 => f_X11_far_22 1000 r7.2 a1 r7.1 0 1)
set_option maxRecDepth 100000 in
set_option maxHeartbeats 4000000 in
theorem c_X11_far {K : KE} {l : Launch} {R : Int32 × MS} {nn : Nat} (x : CS) (y : MS) (a1 : Int32) (h : f_X11_far y a1 = some R) : MC K l yX11_far cX11_far 5 (some .int) rm_X11_far 0 0 [.ref (K.1 + 61), .int a1] (xfM K nn x y) (xfM K nn x R.2) (some (.int R.1)) := by
  unfold f_X11_far at h
  refine mc_of (ls0 := [(0, .ref (K.1 + 61)), (1, .int a1)]) (by decide) (Nat.le_of_ble_eq_true rfl) rfl (fun C hl hnm F E => ?_)
  have F : Fx C RX11 cX11_far 5 rm_X11_far K := F
  refine v_aload_n F (dq dkX11_far_0 0 rfl) rfl 0 rfl ?_
  refine v_iload_n F (dq dkX11_far_0 1 rfl) rfl 1 rfl ?_
  refine v_callV 1 F (q := 61) (kc1 := 0) (ks1 := 0) (as := [.int a1]) (st := []) (st1 := (.int (b2i (f_X11_areWorks y a1)) :: [])) (res := (some (.int (b2i (f_X11_areWorks y a1))))) (c_X11_areWorks (l := C.2.1) x y a1) (xnM (by decide)) xc_61 rfl (tc27 _ (List.mem_of_getElem? (i := 10) rfl)) (tc27 _ (List.mem_of_getElem? (i := 11) rfl)) (tc27 _ (List.mem_of_getElem? (i := 12) rfl)) (tc1 _ (List.mem_of_getElem? (i := 5) rfl)) (tc27 _ (List.mem_of_getElem? (i := 13) rfl)) (by decide) rfl ⟨rfl, rfl, Nat.le_of_ble_eq_true rfl, Nat.le_of_ble_eq_true rfl⟩ ⟨Nat.le_of_ble_eq_true rfl, Nat.le_of_ble_eq_true rfl⟩ rfl (Nat.le_of_ble_eq_true rfl) rfl rfl rfl (dq dkX11_far_0 2 rfl) ?_
  refine v_if_ne F (tgt := 11) (dq dkX11_far_0 3 rfl) (by decide) (fun c6 => ?_) (fun c6 => ?_)
  · rw [if_neg c6] at h
    refine v_aload_n F (dq dkX11_far_0 6 rfl) rfl 0 rfl ?_
    refine v_iload_n F (dq dkX11_far_0 7 rfl) rfl 1 rfl ?_
    obtain ⟨r7, e8, h⟩ := bd_of h
    refine v_callV 1 F (q := 61) (kc1 := 0) (ks1 := 0) (as := [.int a1]) (st := []) (st1 := (.int r7.1 :: [])) (res := (some (.int r7.1))) (c_X11_inchesLeft (l := C.2.1) x y a1 e8) (xnM (by decide)) xc_61 rfl (tc32 _ (List.mem_of_getElem? (i := 3) rfl)) (tc32 _ (List.mem_of_getElem? (i := 4) rfl)) (tc32 _ (List.mem_of_getElem? (i := 5) rfl)) (tc1 _ (List.mem_of_getElem? (i := 5) rfl)) (tc32 _ (List.mem_of_getElem? (i := 6) rfl)) (by decide) rfl ⟨rfl, rfl, Nat.le_of_ble_eq_true rfl, Nat.le_of_ble_eq_true rfl⟩ ⟨Nat.le_of_ble_eq_true rfl, Nat.le_of_ble_eq_true rfl⟩ rfl (Nat.le_of_ble_eq_true rfl) rfl rfl rfl (dq dkX11_far_0 8 rfl) ?_
    refine v_istore_n F (ls' := [(2, .int r7.1), (0, .ref (K.1 + 61)), (1, .int a1)]) (dq dkX11_far_0 9 rfl) rfl (by decide) rfl ?_
    refine v_iconst F (v := 0) (dq dkX11_far_0 10 rfl) ki_0 ?_
    refine v_istore_n F (ls' := [(3, .int 0), (2, .int r7.1), (0, .ref (K.1 + 61)), (1, .int a1)]) (dq dkX11_far_0 11 rfl) rfl (by decide) rfl ?_
    refine v_iconst F (v := 1) (dq dkX11_far_0 12 rfl) ki_1 ?_
    refine v_istore F (ls' := [(4, .int 1), (3, .int 0), (2, .int r7.1), (0, .ref (K.1 + 61)), (1, .int a1)]) (dq dkX11_far_0 13 rfl) (by decide) rfl ?_
    refine v_sub [3, 4, 2, 1, 0] rfl ?_
    exact t_X11_far_22 F E 1000 r7.2 a1 r7.1 0 1 h
  · rw [if_pos c6] at h
    refine v_bipush F (v := (-5)) (dq dkX11_far_0 4 rfl) kb_m5 ?_
    have h := Option.some.inj h
    subst h
    exact v_iret F E (dq dkX11_far_0 5 rfl)
def rm_X11_lowest : Room := { frames := 1, cells := 0, slots := 0, locals := 30 }
def f_X11_lowest_51 (a5 : Int64) (s0 : Int64) : Option (Int64) := gd (decide (¬ a5 = 0)) (some (s0 / a5))
set_option maxRecDepth 100000 in
set_option maxHeartbeats 4000000 in
theorem t_X11_lowest_51 {C : Cx} {K : KE} {M : GM} {R : Int64}  (a5 : Int64) (s0 : Int64) (h : f_X11_lowest_51 a5 s0 = some R) (F : Fx C RX11 cX11_lowest 11 rm_X11_lowest K) (E : CE C M (some (.long R)) 0 0 (some .long)) : V C 51 [(5, .long a5)] [.long s0] M 0 0 := by
  unfold f_X11_lowest_51 at h
  refine v_lload F (dq dkX11_lowest_0 29 rfl) 0 rfl ?_
  obtain ⟨g1, h⟩ := gd_of h
  refine v_ldiv F (dq dkX11_lowest_0 30 rfl) (of_decide_eq_true g1) ?_
  have h := Option.some.inj h
  subst h
  exact v_lret F E (dq dkX11_lowest_0 31 rfl)
def f_X11_lowest_16 : Nat → Int64 → Int64 → Int32 → Int64 → Int64 → Option (Int64)
  | 0, _, _, _, _, _ => none
  | n + 1, a0, a2, a4, a5, a7 => if (lg_cmp a7 0) = 0 then (if a4 = 0 then (f_X11_lowest_51 a5 a0) else (f_X11_lowest_51 a5 a2)) else (gd (decide (¬ a7 = 0)) ((f_X11_lowest_16 n) a0 a2 a4 a7 (a5 - a5 / a7 * a7)))
set_option maxRecDepth 100000 in
set_option maxHeartbeats 4000000 in
theorem t_X11_lowest_16 {C : Cx} {K : KE} {M : GM} {R : Int64}  (F : Fx C RX11 cX11_lowest 11 rm_X11_lowest K) (E : CE C M (some (.long R)) 0 0 (some .long)) : ∀ (n : Nat) (a0 : Int64) (a2 : Int64) (a4 : Int32) (a5 : Int64) (a7 : Int64) (h : f_X11_lowest_16 n a0 a2 a4 a5 a7 = some R), V C 16 [(0, .long a0), (2, .long a2), (4, .int a4), (5, .long a5), (7, .long a7)] [] M 0 0 := by
  intro n
  induction n with
  | zero => intro a0 a2 a4 a5 a7 h; cases h
  | succ n ih =>
    intro a0 a2 a4 a5 a7 h
    rw [f_X11_lowest_16] at h
    refine v_lload F (dq dkX11_lowest_0 11 rfl) 4 rfl ?_
    refine v_lconst F (v := 0) (dq dkX11_lowest_0 12 rfl) rfl ?_
    refine v_lcmp F (dq dkX11_lowest_0 13 rfl) ?_
    refine v_if_eq F (tgt := 41) (dq dkX11_lowest_0 14 rfl) (by decide) (fun c2 => ?_) (fun c2 => ?_)
    · rw [if_pos c2] at h
      refine v_iload F (dq dkX11_lowest_0 24 rfl) 2 rfl ?_
      refine v_if_ne F (tgt := 50) (dq dkX11_lowest_0 25 rfl) (by decide) (fun c3 => ?_) (fun c3 => ?_)
      · rw [if_neg c3] at h
        refine v_lload_n F (dq dkX11_lowest_0 28 rfl) rfl 1 rfl ?_
        refine v_sub [3] rfl ?_
        exact t_X11_lowest_51 a5 a2 h F E
      · rw [if_pos c3] at h
        refine v_lload_n F (dq dkX11_lowest_0 26 rfl) rfl 0 rfl ?_
        refine v_goto F (tgt := 51) (dq dkX11_lowest_0 27 rfl) (by decide) ?_
        refine v_sub [3] rfl ?_
        exact t_X11_lowest_51 a5 a0 h F E
    · rw [if_neg c2] at h
      refine v_lload F (dq dkX11_lowest_0 15 rfl) 3 rfl ?_
      refine v_lload F (dq dkX11_lowest_0 16 rfl) 4 rfl ?_
      obtain ⟨g4, h⟩ := gd_of h
      refine v_lrem F (dq dkX11_lowest_0 17 rfl) (of_decide_eq_true g4) ?_
      refine v_lstore F (ls' := [(9, .long (a5 - a5 / a7 * a7)), (0, .long a0), (2, .long a2), (4, .int a4), (5, .long a5), (7, .long a7)]) (dq dkX11_lowest_0 18 rfl) (by decide) rfl ?_
      refine v_lload F (dq dkX11_lowest_0 19 rfl) 5 rfl ?_
      refine v_lstore F (ls' := [(5, .long a7), (9, .long (a5 - a5 / a7 * a7)), (0, .long a0), (2, .long a2), (4, .int a4), (7, .long a7)]) (dq dkX11_lowest_0 20 rfl) (by decide) rfl ?_
      refine v_lload F (dq dkX11_lowest_0 21 rfl) 1 rfl ?_
      refine v_lstore F (ls' := [(7, .long (a5 - a5 / a7 * a7)), (5, .long a7), (9, .long (a5 - a5 / a7 * a7)), (0, .long a0), (2, .long a2), (4, .int a4)]) (dq dkX11_lowest_0 22 rfl) (by decide) rfl ?_
      refine v_goto F (tgt := 16) (dq dkX11_lowest_0 23 rfl) (by decide) ?_
      refine v_sub [3, 4, 5, 1, 0] rfl ?_
      exact ih a0 a2 a4 a7 (a5 - a5 / a7 * a7) h
def f_X11_lowest (a0 : Int64) (a2 : Int64) (a4 : Int32) : Option (Int64) := if (lg_cmp a0 0) = 0 then (some a4.toInt64) else (f_X11_lowest_16 1000 a0 a2 a4 a0 a2)
set_option maxRecDepth 100000 in
set_option maxHeartbeats 4000000 in
theorem c_X11_lowest {K : KE} {l : Launch} {R : Int64} {M : GM} (a0 : Int64) (a2 : Int64) (a4 : Int32) (h : f_X11_lowest a0 a2 a4 = some R) : MC K l yX11_lowest cX11_lowest 11 (some .long) rm_X11_lowest 0 0 [.long a0, .long a2, .int a4] M M (some (.long R)) := by
  unfold f_X11_lowest at h
  refine mc_of (ls0 := [(0, .long a0), (2, .long a2), (4, .int a4)]) (by decide) (Nat.le_of_ble_eq_true rfl) rfl (fun C hl hnm F E => ?_)
  have F : Fx C RX11 cX11_lowest 11 rm_X11_lowest K := F
  refine v_lload_n F (dq dkX11_lowest_0 0 rfl) rfl 0 rfl ?_
  refine v_lconst F (v := 0) (dq dkX11_lowest_0 1 rfl) rfl ?_
  refine v_lcmp F (dq dkX11_lowest_0 2 rfl) ?_
  refine v_if_ne F (tgt := 10) (dq dkX11_lowest_0 3 rfl) (by decide) (fun c5 => ?_) (fun c5 => ?_)
  · rw [if_neg c5] at h
    refine v_lload_n F (dq dkX11_lowest_0 7 rfl) rfl 0 rfl ?_
    refine v_lstore F (ls' := [(5, .long a0), (0, .long a0), (2, .long a2), (4, .int a4)]) (dq dkX11_lowest_0 8 rfl) (by decide) rfl ?_
    refine v_lload_n F (dq dkX11_lowest_0 9 rfl) rfl 2 rfl ?_
    refine v_lstore F (ls' := [(7, .long a2), (5, .long a0), (0, .long a0), (2, .long a2), (4, .int a4)]) (dq dkX11_lowest_0 10 rfl) (by decide) rfl ?_
    refine v_sub [2, 3, 4, 1, 0] rfl ?_
    exact t_X11_lowest_16 F E 1000 a0 a2 a4 a0 a2 h
  · rw [if_pos c5] at h
    refine v_iload F (dq dkX11_lowest_0 4 rfl) 2 rfl ?_
    refine v_i2l F (dq dkX11_lowest_0 5 rfl) ?_
    have h := Option.some.inj h
    subst h
    exact v_lret F E (dq dkX11_lowest_0 6 rfl)
def rm_X11_soundOf : Room := { frames := 9, cells := 0, slots := 0, locals := 217 }
def f_X11_soundOf_31 (k7 : MS → Int32 → Int32 → Int32 → Int32 → Int32 → Option (Int32 × MS)) (y : MS) (a1 : Int32) (a2 : Int32) (a3 : Int32) (a5 : Int32) (s0 : Int32) (s1 : Int32) : Option (Int32 × MS) := k7 y a1 a2 a3 (s1 + s0) (a5 + 1)
set_option maxRecDepth 100000 in
set_option maxHeartbeats 4000000 in
theorem t_X11_soundOf_31 {C : Cx} {K : KE} {nn : Nat} {x : CS} {R : Int32 × MS}  (k7 : MS → Int32 → Int32 → Int32 → Int32 → Int32 → Option (Int32 × MS)) (y : MS) (a1 : Int32) (a2 : Int32) (a3 : Int32) (a5 : Int32) (s0 : Int32) (s1 : Int32) (hk7 : ∀ (y : MS) (a1 : Int32) (a2 : Int32) (a3 : Int32) (a4 : Int32) (a5 : Int32), k7 y a1 a2 a3 a4 a5 = some R → V C 7 [(0, .ref (K.1 + 61)), (1, .int a1), (2, .int a2), (3, .int a3), (4, .int a4), (5, .int a5)] [] (xfM K nn x y) 0 0) (h : f_X11_soundOf_31 k7 y a1 a2 a3 a5 s0 s1 = some R) (F : Fx C RX11 cX11_soundOf 6 rm_X11_soundOf K) (E : CE C (xfM K nn x R.2) (some (.int R.1)) 0 0 (some .int)) : V C 31 [(0, .ref (K.1 + 61)), (1, .int a1), (2, .int a2), (3, .int a3), (5, .int a5)] [.int s0, .int s1] (xfM K nn x y) 0 0 := by
  unfold f_X11_soundOf_31 at h
  refine v_iadd F (dq dkX11_soundOf_0 18 rfl) ?_
  refine v_istore F (ls' := [(4, .int (s1 + s0)), (0, .ref (K.1 + 61)), (1, .int a1), (2, .int a2), (3, .int a3), (5, .int a5)]) (dq dkX11_soundOf_0 19 rfl) (by decide) rfl ?_
  refine v_iinc F (v := a5 + 1) (ls' := [(5, .int (a5 + 1)), (4, .int (s1 + s0)), (0, .ref (K.1 + 61)), (1, .int a1), (2, .int a2), (3, .int a3)]) (dq dkX11_soundOf_0 20 rfl) (j := 5) rfl (kv_add ki_1) (by decide) rfl ?_
  refine v_goto F (tgt := 7) (dq dkX11_soundOf_0 21 rfl) (by decide) ?_
  refine v_sub [2, 3, 4, 5, 1, 0] rfl ?_
  exact hk7 y a1 a2 a3 (s1 + s0) (a5 + 1) h
def f_X11_soundOf_7 : Nat → MS → Int32 → Int32 → Int32 → Int32 → Int32 → Option (Int32 × MS)
  | 0, _, _, _, _, _, _ => none
  | n + 1, y, a1, a2, a3, a4, a5 => if a3 < a5 then (some (a4, y)) else ((f_X11_cracks y a1 a2 a5).bind fun r2 => if r2.1 = 0 then (f_X11_soundOf_31 (f_X11_soundOf_7 n) r2.2 a1 a2 a3 a5 1 a4) else (f_X11_soundOf_31 (f_X11_soundOf_7 n) r2.2 a1 a2 a3 a5 0 a4))
set_option maxRecDepth 100000 in
set_option maxHeartbeats 4000000 in
theorem t_X11_soundOf_7 {C : Cx} {K : KE} {nn : Nat} {x : CS} {R : Int32 × MS}  (F : Fx C RX11 cX11_soundOf 6 rm_X11_soundOf K) (E : CE C (xfM K nn x R.2) (some (.int R.1)) 0 0 (some .int)) : ∀ (n : Nat) (y : MS) (a1 : Int32) (a2 : Int32) (a3 : Int32) (a4 : Int32) (a5 : Int32) (h : f_X11_soundOf_7 n y a1 a2 a3 a4 a5 = some R), V C 7 [(0, .ref (K.1 + 61)), (1, .int a1), (2, .int a2), (3, .int a3), (4, .int a4), (5, .int a5)] [] (xfM K nn x y) 0 0 := by
  intro n
  induction n with
  | zero => intro y a1 a2 a3 a4 a5 h; cases h
  | succ n ih =>
    intro y a1 a2 a3 a4 a5 h
    rw [f_X11_soundOf_7] at h
    refine v_iload F (dq dkX11_soundOf_0 5 rfl) 5 rfl ?_
    refine v_iload_n F (dq dkX11_soundOf_0 6 rfl) rfl 3 rfl ?_
    refine v_icmp_gt F (tgt := 40) (dq dkX11_soundOf_0 7 rfl) (by decide) (fun c1 => ?_) (fun c1 => ?_)
    · rw [if_pos c1] at h
      refine v_iload F (dq dkX11_soundOf_0 22 rfl) 4 rfl ?_
      have h := Option.some.inj h
      subst h
      exact v_iret F E (dq dkX11_soundOf_0 23 rfl)
    · rw [if_neg c1] at h
      refine v_iload F (dq dkX11_soundOf_0 8 rfl) 4 rfl ?_
      refine v_aload_n F (dq dkX11_soundOf_0 9 rfl) rfl 0 rfl ?_
      refine v_iload_n F (dq dkX11_soundOf_0 10 rfl) rfl 1 rfl ?_
      refine v_iload_n F (dq dkX11_soundOf_0 11 rfl) rfl 2 rfl ?_
      refine v_iload F (dq dkX11_soundOf_0 12 rfl) 5 rfl ?_
      obtain ⟨r2, e3, h⟩ := bd_of h
      refine v_callV 3 F (q := 61) (kc1 := 0) (ks1 := 0) (as := [.int a1, .int a2, .int a5]) (st := [.int a4]) (st1 := (.int r2.1 :: [.int a4])) (res := (some (.int r2.1))) (c_X11_cracks (l := C.2.1) x y a1 a2 a5 e3) (xnM (by decide)) xc_61 rfl (tc31 _ (List.mem_of_getElem? (i := 14) rfl)) (tc31 _ (List.mem_of_getElem? (i := 15) rfl)) (tc31 _ (List.mem_of_getElem? (i := 16) rfl)) (tc1 _ (List.mem_of_getElem? (i := 5) rfl)) (tc31 _ (List.mem_of_getElem? (i := 17) rfl)) (by decide) rfl ⟨rfl, rfl, Nat.le_of_ble_eq_true rfl, Nat.le_of_ble_eq_true rfl⟩ ⟨Nat.le_of_ble_eq_true rfl, Nat.le_of_ble_eq_true rfl⟩ rfl (Nat.le_of_ble_eq_true rfl) rfl rfl rfl (dq dkX11_soundOf_0 13 rfl) ?_
      refine v_if_ne F (tgt := 30) (dq dkX11_soundOf_0 14 rfl) (by decide) (fun c4 => ?_) (fun c4 => ?_)
      · rw [if_neg c4] at h
        refine v_iconst F (v := 0) (dq dkX11_soundOf_0 17 rfl) ki_0 ?_
        refine v_sub [0, 1, 2, 3, 5] rfl ?_
        exact t_X11_soundOf_31 (f_X11_soundOf_7 n) r2.2 a1 a2 a3 a5 0 a4 ih h F E
      · rw [if_pos c4] at h
        refine v_iconst F (v := 1) (dq dkX11_soundOf_0 15 rfl) ki_1 ?_
        refine v_goto F (tgt := 31) (dq dkX11_soundOf_0 16 rfl) (by decide) ?_
        refine v_sub [0, 1, 2, 3, 5] rfl ?_
        exact t_X11_soundOf_31 (f_X11_soundOf_7 n) r2.2 a1 a2 a3 a5 1 a4 ih h F E
def f_X11_soundOf (y : MS) (a1 : Int32) (a2 : Int32) (a3 : Int32) : Option (Int32 × MS) := f_X11_soundOf_7 1000 y a1 a2 a3 0 (-a3)
set_option maxRecDepth 100000 in
set_option maxHeartbeats 4000000 in
theorem c_X11_soundOf {K : KE} {l : Launch} {R : Int32 × MS} {nn : Nat} (x : CS) (y : MS) (a1 : Int32) (a2 : Int32) (a3 : Int32) (h : f_X11_soundOf y a1 a2 a3 = some R) : MC K l yX11_soundOf cX11_soundOf 6 (some .int) rm_X11_soundOf 0 0 [.ref (K.1 + 61), .int a1, .int a2, .int a3] (xfM K nn x y) (xfM K nn x R.2) (some (.int R.1)) := by
  unfold f_X11_soundOf at h
  refine mc_of (ls0 := [(0, .ref (K.1 + 61)), (1, .int a1), (2, .int a2), (3, .int a3)]) (by decide) (Nat.le_of_ble_eq_true rfl) rfl (fun C hl hnm F E => ?_)
  have F : Fx C RX11 cX11_soundOf 6 rm_X11_soundOf K := F
  refine v_iconst F (v := 0) (dq dkX11_soundOf_0 0 rfl) ki_0 ?_
  refine v_istore F (ls' := [(4, .int 0), (0, .ref (K.1 + 61)), (1, .int a1), (2, .int a2), (3, .int a3)]) (dq dkX11_soundOf_0 1 rfl) (by decide) rfl ?_
  refine v_iload_n F (dq dkX11_soundOf_0 2 rfl) rfl 4 rfl ?_
  refine v_ineg F (dq dkX11_soundOf_0 3 rfl) ?_
  refine v_istore F (ls' := [(5, .int (-a3)), (4, .int 0), (0, .ref (K.1 + 61)), (1, .int a1), (2, .int a2), (3, .int a3)]) (dq dkX11_soundOf_0 4 rfl) (by decide) rfl ?_
  refine v_sub [2, 3, 4, 5, 1, 0] rfl ?_
  exact t_X11_soundOf_7 F E 1000 y a1 a2 a3 0 (-a3) h
def rm_X11_odds : Room := { frames := 10, cells := 0, slots := 0, locals := 242 }
def f_X11_odds_37 (y : MS) : Option (Int64 × MS) := some ((-4611686018427387904), y)
set_option maxRecDepth 100000 in
set_option maxHeartbeats 4000000 in
theorem t_X11_odds_37 {C : Cx} {K : KE} {nn : Nat} {x : CS} {R : Int64 × MS}  (y : MS) (h : f_X11_odds_37 y = some R) (F : Fx C RX11 cX11_odds 5 rm_X11_odds K) (E : CE C (xfM K nn x R.2) (some (.long R.1)) 0 0 (some .long)) : V C 37 [] [] (xfM K nn x y) 0 0 := by
  unfold f_X11_odds_37 at h
  refine v_ldc2 F (v := (-4611686018427387904)) (tc33 _ (List.mem_of_getElem? (i := 20) rfl)) (dq dkX11_odds_0 19 rfl) ?_
  have h := Option.some.inj h
  subst h
  exact v_lret F E (dq dkX11_odds_0 20 rfl)
def f_X11_odds (y : MS) (a1 : Int32) (a2 : Int32) (a3 : Int32) (a4 : Int32) : Option (Int64 × MS) := if (b2i (f_X11_areWorks y a1)) = 0 then (f_X11_odds_37 y) else (if (b2i (f_X11_in a2 0 12)) = 0 then (f_X11_odds_37 y) else (if (b2i (f_X11_in a3 0 5)) = 0 then (f_X11_odds_37 y) else (if (b2i (f_X11_in a4 0 1)) = 0 then (f_X11_odds_37 y) else ((f_X11_soundOf y a1 a2 a3).bind fun r9 => (f_X11_lowest r9.1.toInt64 ((2 * a3.toInt64) + 1) a4).bind fun r11 => some (r11, r9.2)))))
set_option maxRecDepth 100000 in
set_option maxHeartbeats 4000000 in
theorem c_X11_odds {K : KE} {l : Launch} {R : Int64 × MS} {nn : Nat} (x : CS) (y : MS) (a1 : Int32) (a2 : Int32) (a3 : Int32) (a4 : Int32) (h : f_X11_odds y a1 a2 a3 a4 = some R) : MC K l yX11_odds cX11_odds 5 (some .long) rm_X11_odds 0 0 [.ref (K.1 + 61), .int a1, .int a2, .int a3, .int a4] (xfM K nn x y) (xfM K nn x R.2) (some (.long R.1)) := by
  unfold f_X11_odds at h
  refine mc_of (ls0 := [(0, .ref (K.1 + 61)), (1, .int a1), (2, .int a2), (3, .int a3), (4, .int a4)]) (by decide) (Nat.le_of_ble_eq_true rfl) rfl (fun C hl hnm F E => ?_)
  have F : Fx C RX11 cX11_odds 5 rm_X11_odds K := F
  refine v_aload_n F (dq dkX11_odds_0 0 rfl) rfl 0 rfl ?_
  refine v_iload_n F (dq dkX11_odds_0 1 rfl) rfl 1 rfl ?_
  refine v_callV 1 F (q := 61) (kc1 := 0) (ks1 := 0) (as := [.int a1]) (st := []) (st1 := (.int (b2i (f_X11_areWorks y a1)) :: [])) (res := (some (.int (b2i (f_X11_areWorks y a1))))) (c_X11_areWorks (l := C.2.1) x y a1) (xnM (by decide)) xc_61 rfl (tc27 _ (List.mem_of_getElem? (i := 10) rfl)) (tc27 _ (List.mem_of_getElem? (i := 11) rfl)) (tc27 _ (List.mem_of_getElem? (i := 12) rfl)) (tc1 _ (List.mem_of_getElem? (i := 5) rfl)) (tc27 _ (List.mem_of_getElem? (i := 13) rfl)) (by decide) rfl ⟨rfl, rfl, Nat.le_of_ble_eq_true rfl, Nat.le_of_ble_eq_true rfl⟩ ⟨Nat.le_of_ble_eq_true rfl, Nat.le_of_ble_eq_true rfl⟩ rfl (Nat.le_of_ble_eq_true rfl) rfl rfl rfl (dq dkX11_odds_0 2 rfl) ?_
  refine v_if_eq F (tgt := 37) (dq dkX11_odds_0 3 rfl) (by decide) (fun c2 => ?_) (fun c2 => ?_)
  · rw [if_pos c2] at h
    refine v_sub [] rfl ?_
    exact t_X11_odds_37 y h F E
  · rw [if_neg c2] at h
    refine v_iload_n F (dq dkX11_odds_0 4 rfl) rfl 2 rfl ?_
    refine v_iconst F (v := 0) (dq dkX11_odds_0 5 rfl) ki_0 ?_
    refine v_bipush F (v := 12) (dq dkX11_odds_0 6 rfl) kb_12 ?_
    refine v_callS 3 F (kc1 := 0) (ks1 := 0) (as := [.int a2, .int 0, .int 12]) (st := []) (st1 := (.int (b2i (f_X11_in a2 0 12)) :: [])) (res := (some (.int (b2i (f_X11_in a2 0 12))))) (c_X11_in (l := C.2.1) a2 0 12) (tc15 _ (List.mem_of_getElem? (i := 1) rfl)) (tc15 _ (List.mem_of_getElem? (i := 2) rfl)) (tc1 _ (List.mem_of_getElem? (i := 5) rfl)) (tc15 _ (List.mem_of_getElem? (i := 3) rfl)) (by decide) rfl ⟨rfl, rfl, Nat.le_of_ble_eq_true rfl, Nat.le_of_ble_eq_true rfl⟩ ⟨Nat.le_of_ble_eq_true rfl, Nat.le_of_ble_eq_true rfl⟩ rfl (Nat.le_of_ble_eq_true rfl) rfl rfl rfl (dq dkX11_odds_0 7 rfl) ?_
    refine v_if_eq F (tgt := 37) (dq dkX11_odds_0 8 rfl) (by decide) (fun c4 => ?_) (fun c4 => ?_)
    · rw [if_pos c4] at h
      refine v_sub [] rfl ?_
      exact t_X11_odds_37 y h F E
    · rw [if_neg c4] at h
      refine v_iload_n F (dq dkX11_odds_0 9 rfl) rfl 3 rfl ?_
      refine v_iconst F (v := 0) (dq dkX11_odds_0 10 rfl) ki_0 ?_
      refine v_iconst F (v := 5) (dq dkX11_odds_0 11 rfl) ki_5 ?_
      refine v_callS 3 F (kc1 := 0) (ks1 := 0) (as := [.int a3, .int 0, .int 5]) (st := []) (st1 := (.int (b2i (f_X11_in a3 0 5)) :: [])) (res := (some (.int (b2i (f_X11_in a3 0 5))))) (c_X11_in (l := C.2.1) a3 0 5) (tc15 _ (List.mem_of_getElem? (i := 1) rfl)) (tc15 _ (List.mem_of_getElem? (i := 2) rfl)) (tc1 _ (List.mem_of_getElem? (i := 5) rfl)) (tc15 _ (List.mem_of_getElem? (i := 3) rfl)) (by decide) rfl ⟨rfl, rfl, Nat.le_of_ble_eq_true rfl, Nat.le_of_ble_eq_true rfl⟩ ⟨Nat.le_of_ble_eq_true rfl, Nat.le_of_ble_eq_true rfl⟩ rfl (Nat.le_of_ble_eq_true rfl) rfl rfl rfl (dq dkX11_odds_0 12 rfl) ?_
      refine v_if_eq F (tgt := 37) (dq dkX11_odds_0 13 rfl) (by decide) (fun c6 => ?_) (fun c6 => ?_)
      · rw [if_pos c6] at h
        refine v_sub [] rfl ?_
        exact t_X11_odds_37 y h F E
      · rw [if_neg c6] at h
        refine v_iload F (dq dkX11_odds_0 14 rfl) 4 rfl ?_
        refine v_iconst F (v := 0) (dq dkX11_odds_0 15 rfl) ki_0 ?_
        refine v_iconst F (v := 1) (dq dkX11_odds_0 16 rfl) ki_1 ?_
        refine v_callS 3 F (kc1 := 0) (ks1 := 0) (as := [.int a4, .int 0, .int 1]) (st := []) (st1 := (.int (b2i (f_X11_in a4 0 1)) :: [])) (res := (some (.int (b2i (f_X11_in a4 0 1))))) (c_X11_in (l := C.2.1) a4 0 1) (tc15 _ (List.mem_of_getElem? (i := 1) rfl)) (tc15 _ (List.mem_of_getElem? (i := 2) rfl)) (tc1 _ (List.mem_of_getElem? (i := 5) rfl)) (tc15 _ (List.mem_of_getElem? (i := 3) rfl)) (by decide) rfl ⟨rfl, rfl, Nat.le_of_ble_eq_true rfl, Nat.le_of_ble_eq_true rfl⟩ ⟨Nat.le_of_ble_eq_true rfl, Nat.le_of_ble_eq_true rfl⟩ rfl (Nat.le_of_ble_eq_true rfl) rfl rfl rfl (dq dkX11_odds_0 17 rfl) ?_
        refine v_if_ne F (tgt := 41) (dq dkX11_odds_0 18 rfl) (by decide) (fun c8 => ?_) (fun c8 => ?_)
        · rw [if_neg c8] at h
          refine v_aload_n F (dq dkX11_odds_0 21 rfl) rfl 0 rfl ?_
          refine v_iload_n F (dq dkX11_odds_0 22 rfl) rfl 1 rfl ?_
          refine v_iload_n F (dq dkX11_odds_0 23 rfl) rfl 2 rfl ?_
          refine v_iload_n F (dq dkX11_odds_0 24 rfl) rfl 3 rfl ?_
          obtain ⟨r9, e10, h⟩ := bd_of h
          refine v_callV 3 F (q := 61) (kc1 := 0) (ks1 := 0) (as := [.int a1, .int a2, .int a3]) (st := []) (st1 := (.int r9.1 :: [])) (res := (some (.int r9.1))) (c_X11_soundOf (l := C.2.1) x y a1 a2 a3 e10) (xnM (by decide)) xc_61 rfl (tc33 _ (List.mem_of_getElem? (i := 22) rfl)) (tc33 _ (List.mem_of_getElem? (i := 23) rfl)) (tc34 _ (List.mem_of_getElem? (i := 0) rfl)) (tc1 _ (List.mem_of_getElem? (i := 5) rfl)) (tc34 _ (List.mem_of_getElem? (i := 1) rfl)) (by decide) rfl ⟨rfl, rfl, Nat.le_of_ble_eq_true rfl, Nat.le_of_ble_eq_true rfl⟩ ⟨Nat.le_of_ble_eq_true rfl, Nat.le_of_ble_eq_true rfl⟩ rfl (Nat.le_of_ble_eq_true rfl) rfl rfl rfl (dq dkX11_odds_0 25 rfl) ?_
          refine v_i2l F (dq dkX11_odds_0 26 rfl) ?_
          refine v_ldc2 F (v := 2) (tc33 _ (List.mem_of_getElem? (i := 21) rfl)) (dq dkX11_odds_0 27 rfl) ?_
          refine v_iload_n F (dq dkX11_odds_0 28 rfl) rfl 3 rfl ?_
          refine v_i2l F (dq dkX11_odds_0 29 rfl) ?_
          refine v_lmul F (dq dkX11_odds_0 30 rfl) ?_
          refine v_lconst F (v := 1) (dq dkX11_odds_0 31 rfl) rfl ?_
          refine v_ladd F (dq dkX11_odds_0 32 rfl) ?_
          refine v_iload F (dq dkX11_odds_0 33 rfl) 4 rfl ?_
          obtain ⟨r11, e12, h⟩ := bd_of h
          refine v_callS 3 F (kc1 := 0) (ks1 := 0) (as := [.long r9.1.toInt64, .long ((2 * a3.toInt64) + 1), .int a4]) (st := []) (st1 := (.long r11 :: [])) (res := (some (.long r11))) (c_X11_lowest (l := C.2.1) r9.1.toInt64 ((2 * a3.toInt64) + 1) a4 e12) (tc34 _ (List.mem_of_getElem? (i := 2) rfl)) (tc34 _ (List.mem_of_getElem? (i := 3) rfl)) (tc1 _ (List.mem_of_getElem? (i := 5) rfl)) (tc34 _ (List.mem_of_getElem? (i := 4) rfl)) (by decide) rfl ⟨rfl, rfl, Nat.le_of_ble_eq_true rfl, Nat.le_of_ble_eq_true rfl⟩ ⟨Nat.le_of_ble_eq_true rfl, Nat.le_of_ble_eq_true rfl⟩ rfl (Nat.le_of_ble_eq_true rfl) rfl rfl rfl (dq dkX11_odds_0 34 rfl) ?_
          have h := Option.some.inj h
          subst h
          exact v_lret F E (dq dkX11_odds_0 35 rfl)
        · rw [if_pos c8] at h
          refine v_sub [] rfl ?_
          exact t_X11_odds_37 y h F E
def rm_X11_stop : Room := { frames := 10, cells := 0, slots := 0, locals := 242 }
def f_X11_stop_43 (y : MS) : Option (Int32 × MS) := some ((-7), y)
set_option maxRecDepth 100000 in
set_option maxHeartbeats 4000000 in
theorem t_X11_stop_43 {C : Cx} {K : KE} {nn : Nat} {x : CS} {R : Int32 × MS}  (y : MS) (h : f_X11_stop_43 y = some R) (F : Fx C RX11 cX11_stop 11 rm_X11_stop K) (E : CE C (xfM K nn x R.2) (some (.int R.1)) 0 0 (some .int)) : V C 43 [] [] (xfM K nn x y) 0 0 := by
  unfold f_X11_stop_43 at h
  refine v_bipush F (v := (-7)) (dq dkX11_stop_0 21 rfl) kb_m7 ?_
  have h := Option.some.inj h
  subst h
  exact v_iret F E (dq dkX11_stop_0 22 rfl)
def f_X11_stop_116 (k62 : MS → Int32 → Int32 → Int32 → Int32 → Int32 → Int32 → Int32 → Int32 → Option (Int32 × MS)) (y : MS) (a1 : Int32) (a2 : Int32) (a3 : Int32) (a4 : Int32) (a5 : Int32) (a6 : Int32) (a7 : Int32) (a8 : Int32) : Option (Int32 × MS) := k62 y a1 a2 a3 a4 a5 a6 a7 (a8 + 1)
set_option maxRecDepth 100000 in
set_option maxHeartbeats 4000000 in
theorem t_X11_stop_116 {C : Cx} {K : KE} {nn : Nat} {x : CS} {R : Int32 × MS}  (k62 : MS → Int32 → Int32 → Int32 → Int32 → Int32 → Int32 → Int32 → Int32 → Option (Int32 × MS)) (y : MS) (a1 : Int32) (a2 : Int32) (a3 : Int32) (a4 : Int32) (a5 : Int32) (a6 : Int32) (a7 : Int32) (a8 : Int32) (hk62 : ∀ (y : MS) (a1 : Int32) (a2 : Int32) (a3 : Int32) (a4 : Int32) (a5 : Int32) (a6 : Int32) (a7 : Int32) (a8 : Int32), k62 y a1 a2 a3 a4 a5 a6 a7 a8 = some R → V C 62 [(0, .ref (K.1 + 61)), (1, .int a1), (2, .int a2), (3, .int a3), (4, .int a4), (5, .int a5), (6, .int a6), (7, .int a7), (8, .int a8)] [] (xfM K nn x y) 0 0) (h : f_X11_stop_116 k62 y a1 a2 a3 a4 a5 a6 a7 a8 = some R) (F : Fx C RX11 cX11_stop 11 rm_X11_stop K) (E : CE C (xfM K nn x R.2) (some (.int R.1)) 0 0 (some .int)) : V C 116 [(0, .ref (K.1 + 61)), (1, .int a1), (2, .int a2), (3, .int a3), (4, .int a4), (5, .int a5), (6, .int a6), (7, .int a7), (8, .int a8)] [] (xfM K nn x y) 0 0 := by
  unfold f_X11_stop_116 at h
  refine v_iinc F (v := a8 + 1) (ls' := [(8, .int (a8 + 1)), (0, .ref (K.1 + 61)), (1, .int a1), (2, .int a2), (3, .int a3), (4, .int a4), (5, .int a5), (6, .int a6), (7, .int a7)]) (dq dkX11_stop_1 25 rfl) (j := 8) rfl (kv_add ki_1) (by decide) rfl ?_
  refine v_goto F (tgt := 62) (dq dkX11_stop_1 26 rfl) (by decide) ?_
  refine v_sub [1, 2, 3, 4, 5, 6, 7, 8, 0] rfl ?_
  exact hk62 y a1 a2 a3 a4 a5 a6 a7 (a8 + 1) h
def f_X11_stop_62 : Nat → MS → Int32 → Int32 → Int32 → Int32 → Int32 → Int32 → Int32 → Int32 → Option (Int32 × MS)
  | 0, _, _, _, _, _, _, _, _, _ => none
  | n + 1, y, a1, a2, a3, a4, a5, a6, a7, a8 => if a5 < a8 then (some (a6, y)) else ((f_X11_soundOf y a1 a8 a4).bind fun r2 => if (((r2.1 * a8) * a2) - ((((2 * a4) + 1) - r2.1) * a3)) ≤ a7 then (f_X11_stop_116 (f_X11_stop_62 n) r2.2 a1 a2 a3 a4 a5 a6 a7 a8) else (f_X11_stop_116 (f_X11_stop_62 n) r2.2 a1 a2 a3 a4 a5 a8 (((r2.1 * a8) * a2) - ((((2 * a4) + 1) - r2.1) * a3)) a8))
set_option maxRecDepth 100000 in
set_option maxHeartbeats 4000000 in
theorem t_X11_stop_62 {C : Cx} {K : KE} {nn : Nat} {x : CS} {R : Int32 × MS}  (F : Fx C RX11 cX11_stop 11 rm_X11_stop K) (E : CE C (xfM K nn x R.2) (some (.int R.1)) 0 0 (some .int)) : ∀ (n : Nat) (y : MS) (a1 : Int32) (a2 : Int32) (a3 : Int32) (a4 : Int32) (a5 : Int32) (a6 : Int32) (a7 : Int32) (a8 : Int32) (h : f_X11_stop_62 n y a1 a2 a3 a4 a5 a6 a7 a8 = some R), V C 62 [(0, .ref (K.1 + 61)), (1, .int a1), (2, .int a2), (3, .int a3), (4, .int a4), (5, .int a5), (6, .int a6), (7, .int a7), (8, .int a8)] [] (xfM K nn x y) 0 0 := by
  intro n
  induction n with
  | zero => intro y a1 a2 a3 a4 a5 a6 a7 a8 h; cases h
  | succ n ih =>
    intro y a1 a2 a3 a4 a5 a6 a7 a8 h
    rw [f_X11_stop_62] at h
    refine v_iload F (dq dkX11_stop_0 33 rfl) 8 rfl ?_
    refine v_iload F (dq dkX11_stop_0 34 rfl) 5 rfl ?_
    refine v_icmp_gt F (tgt := 122) (dq dkX11_stop_0 35 rfl) (by decide) (fun c1 => ?_) (fun c1 => ?_)
    · rw [if_pos c1] at h
      refine v_iload F (dq dkX11_stop_1 27 rfl) 6 rfl ?_
      have h := Option.some.inj h
      subst h
      exact v_iret F E (dq dkX11_stop_1 28 rfl)
    · rw [if_neg c1] at h
      refine v_aload_n F (dq dkX11_stop_0 36 rfl) rfl 0 rfl ?_
      refine v_iload_n F (dq dkX11_stop_0 37 rfl) rfl 1 rfl ?_
      refine v_iload F (dq dkX11_stop_0 38 rfl) 8 rfl ?_
      refine v_iload F (dq dkX11_stop_0 39 rfl) 4 rfl ?_
      obtain ⟨r2, e3, h⟩ := bd_of h
      refine v_callV 3 F (q := 61) (kc1 := 0) (ks1 := 0) (as := [.int a1, .int a8, .int a4]) (st := []) (st1 := (.int r2.1 :: [])) (res := (some (.int r2.1))) (c_X11_soundOf (l := C.2.1) x y a1 a8 a4 e3) (xnM (by decide)) xc_61 rfl (tc33 _ (List.mem_of_getElem? (i := 22) rfl)) (tc33 _ (List.mem_of_getElem? (i := 23) rfl)) (tc34 _ (List.mem_of_getElem? (i := 0) rfl)) (tc1 _ (List.mem_of_getElem? (i := 5) rfl)) (tc34 _ (List.mem_of_getElem? (i := 1) rfl)) (by decide) rfl ⟨rfl, rfl, Nat.le_of_ble_eq_true rfl, Nat.le_of_ble_eq_true rfl⟩ ⟨Nat.le_of_ble_eq_true rfl, Nat.le_of_ble_eq_true rfl⟩ rfl (Nat.le_of_ble_eq_true rfl) rfl rfl rfl (dq dkX11_stop_1 0 rfl) ?_
      refine v_istore F (ls' := [(9, .int r2.1), (0, .ref (K.1 + 61)), (1, .int a1), (2, .int a2), (3, .int a3), (4, .int a4), (5, .int a5), (6, .int a6), (7, .int a7), (8, .int a8)]) (dq dkX11_stop_1 1 rfl) (by decide) rfl ?_
      refine v_iload F (dq dkX11_stop_1 2 rfl) 0 rfl ?_
      refine v_iload F (dq dkX11_stop_1 3 rfl) 9 rfl ?_
      refine v_imul F (dq dkX11_stop_1 4 rfl) ?_
      refine v_iload_n F (dq dkX11_stop_1 5 rfl) rfl 3 rfl ?_
      refine v_imul F (dq dkX11_stop_1 6 rfl) ?_
      refine v_iconst F (v := 2) (dq dkX11_stop_1 7 rfl) ki_2 ?_
      refine v_iload F (dq dkX11_stop_1 8 rfl) 5 rfl ?_
      refine v_imul F (dq dkX11_stop_1 9 rfl) ?_
      refine v_iconst F (v := 1) (dq dkX11_stop_1 10 rfl) ki_1 ?_
      refine v_iadd F (dq dkX11_stop_1 11 rfl) ?_
      refine v_iload F (dq dkX11_stop_1 12 rfl) 0 rfl ?_
      refine v_isub F (dq dkX11_stop_1 13 rfl) ?_
      refine v_iload_n F (dq dkX11_stop_1 14 rfl) rfl 4 rfl ?_
      refine v_imul F (dq dkX11_stop_1 15 rfl) ?_
      refine v_isub F (dq dkX11_stop_1 16 rfl) ?_
      refine v_istore F (ls' := [(10, .int (((r2.1 * a8) * a2) - ((((2 * a4) + 1) - r2.1) * a3))), (9, .int r2.1), (0, .ref (K.1 + 61)), (1, .int a1), (2, .int a2), (3, .int a3), (4, .int a4), (5, .int a5), (6, .int a6), (7, .int a7), (8, .int a8)]) (dq dkX11_stop_1 17 rfl) (by decide) rfl ?_
      refine v_iload F (dq dkX11_stop_1 18 rfl) 0 rfl ?_
      refine v_iload F (dq dkX11_stop_1 19 rfl) 9 rfl ?_
      refine v_icmp_le F (tgt := 116) (dq dkX11_stop_1 20 rfl) (by decide) (fun c4 => ?_) (fun c4 => ?_)
      · rw [if_pos c4] at h
        refine v_sub [2, 3, 4, 5, 6, 7, 8, 9, 10] rfl ?_
        exact t_X11_stop_116 (f_X11_stop_62 n) r2.2 a1 a2 a3 a4 a5 a6 a7 a8 ih h F E
      · rw [if_neg c4] at h
        refine v_iload F (dq dkX11_stop_1 21 rfl) 10 rfl ?_
        refine v_istore F (ls' := [(6, .int a8), (10, .int (((r2.1 * a8) * a2) - ((((2 * a4) + 1) - r2.1) * a3))), (9, .int r2.1), (0, .ref (K.1 + 61)), (1, .int a1), (2, .int a2), (3, .int a3), (4, .int a4), (5, .int a5), (7, .int a7), (8, .int a8)]) (dq dkX11_stop_1 22 rfl) (by decide) rfl ?_
        refine v_iload F (dq dkX11_stop_1 23 rfl) 1 rfl ?_
        refine v_istore F (ls' := [(7, .int (((r2.1 * a8) * a2) - ((((2 * a4) + 1) - r2.1) * a3))), (6, .int a8), (10, .int (((r2.1 * a8) * a2) - ((((2 * a4) + 1) - r2.1) * a3))), (9, .int r2.1), (0, .ref (K.1 + 61)), (1, .int a1), (2, .int a2), (3, .int a3), (4, .int a4), (5, .int a5), (8, .int a8)]) (dq dkX11_stop_1 24 rfl) (by decide) rfl ?_
        refine v_sub [4, 5, 6, 7, 8, 9, 1, 0, 10] rfl ?_
        exact t_X11_stop_116 (f_X11_stop_62 n) r2.2 a1 a2 a3 a4 a5 a8 (((r2.1 * a8) * a2) - ((((2 * a4) + 1) - r2.1) * a3)) a8 ih h F E
def f_X11_stop (y : MS) (a1 : Int32) (a2 : Int32) (a3 : Int32) (a4 : Int32) : Option (Int32 × MS) := if (b2i (f_X11_areWorks y a1)) = 0 then (some ((-5), y)) else (if (b2i (f_X11_in a2 0 999)) = 0 then (f_X11_stop_43 y) else (if (b2i (f_X11_in a3 0 9999)) = 0 then (f_X11_stop_43 y) else (if (b2i (f_X11_in a4 0 5)) = 0 then (f_X11_stop_43 y) else ((f_X11_inchesLeft y a1).bind fun r13 => f_X11_stop_62 1000 r13.2 a1 a2 a3 a4 r13.1 0 0 1))))
set_option maxRecDepth 100000 in
set_option maxHeartbeats 4000000 in
theorem c_X11_stop {K : KE} {l : Launch} {R : Int32 × MS} {nn : Nat} (x : CS) (y : MS) (a1 : Int32) (a2 : Int32) (a3 : Int32) (a4 : Int32) (h : f_X11_stop y a1 a2 a3 a4 = some R) : MC K l yX11_stop cX11_stop 11 (some .int) rm_X11_stop 0 0 [.ref (K.1 + 61), .int a1, .int a2, .int a3, .int a4] (xfM K nn x y) (xfM K nn x R.2) (some (.int R.1)) := by
  unfold f_X11_stop at h
  refine mc_of (ls0 := [(0, .ref (K.1 + 61)), (1, .int a1), (2, .int a2), (3, .int a3), (4, .int a4)]) (by decide) (Nat.le_of_ble_eq_true rfl) rfl (fun C hl hnm F E => ?_)
  have F : Fx C RX11 cX11_stop 11 rm_X11_stop K := F
  refine v_aload_n F (dq dkX11_stop_0 0 rfl) rfl 0 rfl ?_
  refine v_iload_n F (dq dkX11_stop_0 1 rfl) rfl 1 rfl ?_
  refine v_callV 1 F (q := 61) (kc1 := 0) (ks1 := 0) (as := [.int a1]) (st := []) (st1 := (.int (b2i (f_X11_areWorks y a1)) :: [])) (res := (some (.int (b2i (f_X11_areWorks y a1))))) (c_X11_areWorks (l := C.2.1) x y a1) (xnM (by decide)) xc_61 rfl (tc27 _ (List.mem_of_getElem? (i := 10) rfl)) (tc27 _ (List.mem_of_getElem? (i := 11) rfl)) (tc27 _ (List.mem_of_getElem? (i := 12) rfl)) (tc1 _ (List.mem_of_getElem? (i := 5) rfl)) (tc27 _ (List.mem_of_getElem? (i := 13) rfl)) (by decide) rfl ⟨rfl, rfl, Nat.le_of_ble_eq_true rfl, Nat.le_of_ble_eq_true rfl⟩ ⟨Nat.le_of_ble_eq_true rfl, Nat.le_of_ble_eq_true rfl⟩ rfl (Nat.le_of_ble_eq_true rfl) rfl rfl rfl (dq dkX11_stop_0 2 rfl) ?_
  refine v_if_ne F (tgt := 11) (dq dkX11_stop_0 3 rfl) (by decide) (fun c6 => ?_) (fun c6 => ?_)
  · rw [if_neg c6] at h
    refine v_iload_n F (dq dkX11_stop_0 6 rfl) rfl 2 rfl ?_
    refine v_iconst F (v := 0) (dq dkX11_stop_0 7 rfl) ki_0 ?_
    refine v_sipush F (v := 999) (dq dkX11_stop_0 8 rfl) ks_999 ?_
    refine v_callS 3 F (kc1 := 0) (ks1 := 0) (as := [.int a2, .int 0, .int 999]) (st := []) (st1 := (.int (b2i (f_X11_in a2 0 999)) :: [])) (res := (some (.int (b2i (f_X11_in a2 0 999))))) (c_X11_in (l := C.2.1) a2 0 999) (tc15 _ (List.mem_of_getElem? (i := 1) rfl)) (tc15 _ (List.mem_of_getElem? (i := 2) rfl)) (tc1 _ (List.mem_of_getElem? (i := 5) rfl)) (tc15 _ (List.mem_of_getElem? (i := 3) rfl)) (by decide) rfl ⟨rfl, rfl, Nat.le_of_ble_eq_true rfl, Nat.le_of_ble_eq_true rfl⟩ ⟨Nat.le_of_ble_eq_true rfl, Nat.le_of_ble_eq_true rfl⟩ rfl (Nat.le_of_ble_eq_true rfl) rfl rfl rfl (dq dkX11_stop_0 9 rfl) ?_
    refine v_if_eq F (tgt := 43) (dq dkX11_stop_0 10 rfl) (by decide) (fun c8 => ?_) (fun c8 => ?_)
    · rw [if_pos c8] at h
      refine v_sub [] rfl ?_
      exact t_X11_stop_43 y h F E
    · rw [if_neg c8] at h
      refine v_iload_n F (dq dkX11_stop_0 11 rfl) rfl 3 rfl ?_
      refine v_iconst F (v := 0) (dq dkX11_stop_0 12 rfl) ki_0 ?_
      refine v_sipush F (v := 9999) (dq dkX11_stop_0 13 rfl) ks_9999 ?_
      refine v_callS 3 F (kc1 := 0) (ks1 := 0) (as := [.int a3, .int 0, .int 9999]) (st := []) (st1 := (.int (b2i (f_X11_in a3 0 9999)) :: [])) (res := (some (.int (b2i (f_X11_in a3 0 9999))))) (c_X11_in (l := C.2.1) a3 0 9999) (tc15 _ (List.mem_of_getElem? (i := 1) rfl)) (tc15 _ (List.mem_of_getElem? (i := 2) rfl)) (tc1 _ (List.mem_of_getElem? (i := 5) rfl)) (tc15 _ (List.mem_of_getElem? (i := 3) rfl)) (by decide) rfl ⟨rfl, rfl, Nat.le_of_ble_eq_true rfl, Nat.le_of_ble_eq_true rfl⟩ ⟨Nat.le_of_ble_eq_true rfl, Nat.le_of_ble_eq_true rfl⟩ rfl (Nat.le_of_ble_eq_true rfl) rfl rfl rfl (dq dkX11_stop_0 14 rfl) ?_
      refine v_if_eq F (tgt := 43) (dq dkX11_stop_0 15 rfl) (by decide) (fun c10 => ?_) (fun c10 => ?_)
      · rw [if_pos c10] at h
        refine v_sub [] rfl ?_
        exact t_X11_stop_43 y h F E
      · rw [if_neg c10] at h
        refine v_iload F (dq dkX11_stop_0 16 rfl) 4 rfl ?_
        refine v_iconst F (v := 0) (dq dkX11_stop_0 17 rfl) ki_0 ?_
        refine v_iconst F (v := 5) (dq dkX11_stop_0 18 rfl) ki_5 ?_
        refine v_callS 3 F (kc1 := 0) (ks1 := 0) (as := [.int a4, .int 0, .int 5]) (st := []) (st1 := (.int (b2i (f_X11_in a4 0 5)) :: [])) (res := (some (.int (b2i (f_X11_in a4 0 5))))) (c_X11_in (l := C.2.1) a4 0 5) (tc15 _ (List.mem_of_getElem? (i := 1) rfl)) (tc15 _ (List.mem_of_getElem? (i := 2) rfl)) (tc1 _ (List.mem_of_getElem? (i := 5) rfl)) (tc15 _ (List.mem_of_getElem? (i := 3) rfl)) (by decide) rfl ⟨rfl, rfl, Nat.le_of_ble_eq_true rfl, Nat.le_of_ble_eq_true rfl⟩ ⟨Nat.le_of_ble_eq_true rfl, Nat.le_of_ble_eq_true rfl⟩ rfl (Nat.le_of_ble_eq_true rfl) rfl rfl rfl (dq dkX11_stop_0 19 rfl) ?_
        refine v_if_ne F (tgt := 46) (dq dkX11_stop_0 20 rfl) (by decide) (fun c12 => ?_) (fun c12 => ?_)
        · rw [if_neg c12] at h
          refine v_aload_n F (dq dkX11_stop_0 23 rfl) rfl 0 rfl ?_
          refine v_iload_n F (dq dkX11_stop_0 24 rfl) rfl 1 rfl ?_
          obtain ⟨r13, e14, h⟩ := bd_of h
          refine v_callV 1 F (q := 61) (kc1 := 0) (ks1 := 0) (as := [.int a1]) (st := []) (st1 := (.int r13.1 :: [])) (res := (some (.int r13.1))) (c_X11_inchesLeft (l := C.2.1) x y a1 e14) (xnM (by decide)) xc_61 rfl (tc32 _ (List.mem_of_getElem? (i := 3) rfl)) (tc32 _ (List.mem_of_getElem? (i := 4) rfl)) (tc32 _ (List.mem_of_getElem? (i := 5) rfl)) (tc1 _ (List.mem_of_getElem? (i := 5) rfl)) (tc32 _ (List.mem_of_getElem? (i := 6) rfl)) (by decide) rfl ⟨rfl, rfl, Nat.le_of_ble_eq_true rfl, Nat.le_of_ble_eq_true rfl⟩ ⟨Nat.le_of_ble_eq_true rfl, Nat.le_of_ble_eq_true rfl⟩ rfl (Nat.le_of_ble_eq_true rfl) rfl rfl rfl (dq dkX11_stop_0 25 rfl) ?_
          refine v_istore F (ls' := [(5, .int r13.1), (0, .ref (K.1 + 61)), (1, .int a1), (2, .int a2), (3, .int a3), (4, .int a4)]) (dq dkX11_stop_0 26 rfl) (by decide) rfl ?_
          refine v_iconst F (v := 0) (dq dkX11_stop_0 27 rfl) ki_0 ?_
          refine v_istore F (ls' := [(6, .int 0), (5, .int r13.1), (0, .ref (K.1 + 61)), (1, .int a1), (2, .int a2), (3, .int a3), (4, .int a4)]) (dq dkX11_stop_0 28 rfl) (by decide) rfl ?_
          refine v_iconst F (v := 0) (dq dkX11_stop_0 29 rfl) ki_0 ?_
          refine v_istore F (ls' := [(7, .int 0), (6, .int 0), (5, .int r13.1), (0, .ref (K.1 + 61)), (1, .int a1), (2, .int a2), (3, .int a3), (4, .int a4)]) (dq dkX11_stop_0 30 rfl) (by decide) rfl ?_
          refine v_iconst F (v := 1) (dq dkX11_stop_0 31 rfl) ki_1 ?_
          refine v_istore F (ls' := [(8, .int 1), (7, .int 0), (6, .int 0), (5, .int r13.1), (0, .ref (K.1 + 61)), (1, .int a1), (2, .int a2), (3, .int a3), (4, .int a4)]) (dq dkX11_stop_0 32 rfl) (by decide) rfl ?_
          refine v_sub [4, 5, 6, 7, 8, 3, 2, 1, 0] rfl ?_
          exact t_X11_stop_62 F E 1000 r13.2 a1 a2 a3 a4 r13.1 0 0 1 h
        · rw [if_pos c12] at h
          refine v_sub [] rfl ?_
          exact t_X11_stop_43 y h F E
  · rw [if_pos c6] at h
    refine v_bipush F (v := (-5)) (dq dkX11_stop_0 4 rfl) kb_m5 ?_
    have h := Option.some.inj h
    subst h
    exact v_iret F E (dq dkX11_stop_0 5 rfl)
def rm_X11_widthsWrong : Room := { frames := 2, cells := 0, slots := 0, locals := 52 }
def f_X11_widthsWrong_79 (y : MS) (a2 : Int32) : Option (Int32) := if a2 = 0 then (some (-2)) else (some 0)
set_option maxRecDepth 100000 in
set_option maxHeartbeats 4000000 in
theorem t_X11_widthsWrong_79 {C : Cx} {K : KE} {nn : Nat} {x : CS} {R : Int32}  (y : MS) (a2 : Int32) (h : f_X11_widthsWrong_79 y a2 = some R) (F : Fx C RX11 cX11_widthsWrong 4 rm_X11_widthsWrong K) (E : CE C (xfM K nn x y) (some (.int R)) 0 0 (some .int)) : V C 79 [(2, .int a2)] [] (xfM K nn x y) 0 0 := by
  unfold f_X11_widthsWrong_79 at h
  refine v_iload_n F (dq dkX11_widthsWrong_1 6 rfl) rfl 0 rfl ?_
  refine v_if_eq F (tgt := 87) (dq dkX11_widthsWrong_1 7 rfl) (by decide) (fun c1 => ?_) (fun c1 => ?_)
  · rw [if_pos c1] at h
    refine v_bipush F (v := (-2)) (dq dkX11_widthsWrong_1 10 rfl) kb_m2 ?_
    have h := Option.some.inj h
    subst h
    exact v_iret F E (dq dkX11_widthsWrong_1 11 rfl)
  · rw [if_neg c1] at h
    refine v_iconst F (v := 0) (dq dkX11_widthsWrong_1 8 rfl) ki_0 ?_
    refine v_goto F (tgt := 89) (dq dkX11_widthsWrong_1 9 rfl) (by decide) ?_
    have h := Option.some.inj h
    subst h
    exact v_iret F E (dq dkX11_widthsWrong_1 11 rfl)
def f_X11_widthsWrong_44 (y : MS) : Nat → Int32 → Int32 → Int32 → Option (Int32)
  | 0, _, _, _ => none
  | n + 1, a1, a2, a3 => if 9 ≤ a3 then (f_X11_widthsWrong_79 y a2) else (if a2 = 0 then (f_X11_widthsWrong_79 y a2) else (gd (ib ((40 * a1) + a3) 160) ((f_X11_widthsWrong_44 y n) a1 (b2i (f_X11_in (gi y 79 ((40 * a1) + a3).toNatClampNeg) 1 198)) (a3 + 1))))
set_option maxRecDepth 100000 in
set_option maxHeartbeats 4000000 in
theorem t_X11_widthsWrong_44 {C : Cx} {K : KE} {nn : Nat} {x : CS} {R : Int32}  (y : MS) (F : Fx C RX11 cX11_widthsWrong 4 rm_X11_widthsWrong K) (E : CE C (xfM K nn x y) (some (.int R)) 0 0 (some .int)) : ∀ (n : Nat) (a1 : Int32) (a2 : Int32) (a3 : Int32) (h : f_X11_widthsWrong_44 y n a1 a2 a3 = some R), V C 44 [(0, .ref (K.1 + 61)), (1, .int a1), (2, .int a2), (3, .int a3)] [] (xfM K nn x y) 0 0 := by
  intro n
  induction n with
  | zero => intro a1 a2 a3 h; cases h
  | succ n ih =>
    intro a1 a2 a3 h
    rw [f_X11_widthsWrong_44] at h
    refine v_iload_n F (dq dkX11_widthsWrong_0 27 rfl) rfl 3 rfl ?_
    refine v_bipush F (v := 9) (dq dkX11_widthsWrong_0 28 rfl) kb_9 ?_
    refine v_icmp_ge F (tgt := 79) (dq dkX11_widthsWrong_0 29 rfl) (by decide) (fun c2 => ?_) (fun c2 => ?_)
    · rw [if_pos c2] at h
      refine v_sub [2] rfl ?_
      exact t_X11_widthsWrong_79 y a2 h F E
    · rw [if_neg c2] at h
      refine v_iload_n F (dq dkX11_widthsWrong_0 30 rfl) rfl 2 rfl ?_
      refine v_if_eq F (tgt := 79) (dq dkX11_widthsWrong_0 31 rfl) (by decide) (fun c3 => ?_) (fun c3 => ?_)
      · rw [if_pos c3] at h
        refine v_sub [2] rfl ?_
        exact t_X11_widthsWrong_79 y a2 h F E
      · rw [if_neg c3] at h
        refine v_aload_n F (dq dkX11_widthsWrong_0 32 rfl) rfl 0 rfl ?_
        refine v_get F 61 (xnM (by decide)) xc_61 rfl inlX11 30 (by decide) (tc12 _ (List.mem_of_getElem? (i := 14) rfl)) rfl rfl (dq dkX11_widthsWrong_0 33 rfl) ?_
        refine v_bipush F (v := 40) (dq dkX11_widthsWrong_0 34 rfl) kb_40 ?_
        refine v_iload_n F (dq dkX11_widthsWrong_0 35 rfl) rfl 1 rfl ?_
        refine v_imul F (dq dkX11_widthsWrong_0 36 rfl) ?_
        refine v_iload_n F (dq dkX11_widthsWrong_0 37 rfl) rfl 3 rfl ?_
        refine v_iadd F (dq dkX11_widthsWrong_0 38 rfl) ?_
        obtain ⟨g4, h⟩ := gd_of h
        refine v_iald F 79 (xnM (by decide)) xc_79 (ib_in g4) (dq dkX11_widthsWrong_0 39 rfl) ?_
        refine v_iconst F (v := 1) (dq dkX11_widthsWrong_1 0 rfl) ki_1 ?_
        refine v_sipush F (v := 198) (dq dkX11_widthsWrong_1 1 rfl) ks_198 ?_
        refine v_callS 3 F (kc1 := 0) (ks1 := 0) (as := [.int (gi y 79 ((40 * a1) + a3).toNatClampNeg), .int 1, .int 198]) (st := []) (st1 := (.int (b2i (f_X11_in (gi y 79 ((40 * a1) + a3).toNatClampNeg) 1 198)) :: [])) (res := (some (.int (b2i (f_X11_in (gi y 79 ((40 * a1) + a3).toNatClampNeg) 1 198))))) (c_X11_in (l := C.2.1) (gi y 79 ((40 * a1) + a3).toNatClampNeg) 1 198) (tc15 _ (List.mem_of_getElem? (i := 1) rfl)) (tc15 _ (List.mem_of_getElem? (i := 2) rfl)) (tc1 _ (List.mem_of_getElem? (i := 5) rfl)) (tc15 _ (List.mem_of_getElem? (i := 3) rfl)) (by decide) rfl ⟨rfl, rfl, Nat.le_of_ble_eq_true rfl, Nat.le_of_ble_eq_true rfl⟩ ⟨Nat.le_of_ble_eq_true rfl, Nat.le_of_ble_eq_true rfl⟩ rfl (Nat.le_of_ble_eq_true rfl) rfl rfl rfl (dq dkX11_widthsWrong_1 2 rfl) ?_
        refine v_istore_n F (ls' := [(2, .int (b2i (f_X11_in (gi y 79 ((40 * a1) + a3).toNatClampNeg) 1 198))), (0, .ref (K.1 + 61)), (1, .int a1), (3, .int a3)]) (dq dkX11_widthsWrong_1 3 rfl) rfl (by decide) rfl ?_
        refine v_iinc F (v := a3 + 1) (ls' := [(3, .int (a3 + 1)), (2, .int (b2i (f_X11_in (gi y 79 ((40 * a1) + a3).toNatClampNeg) 1 198))), (0, .ref (K.1 + 61)), (1, .int a1)]) (dq dkX11_widthsWrong_1 4 rfl) (j := 3) rfl (kv_add ki_1) (by decide) rfl ?_
        refine v_goto F (tgt := 44) (dq dkX11_widthsWrong_1 5 rfl) (by decide) ?_
        refine v_sub [2, 3, 1, 0] rfl ?_
        exact ih a1 (b2i (f_X11_in (gi y 79 ((40 * a1) + a3).toNatClampNeg) 1 198)) (a3 + 1) h
def f_X11_widthsWrong_41 (y : MS) (a1 : Int32) (s0 : Int32) : Option (Int32) := f_X11_widthsWrong_44 y 1000 a1 s0 0
set_option maxRecDepth 100000 in
set_option maxHeartbeats 4000000 in
theorem t_X11_widthsWrong_41 {C : Cx} {K : KE} {nn : Nat} {x : CS} {R : Int32}  (y : MS) (a1 : Int32) (s0 : Int32) (h : f_X11_widthsWrong_41 y a1 s0 = some R) (F : Fx C RX11 cX11_widthsWrong 4 rm_X11_widthsWrong K) (E : CE C (xfM K nn x y) (some (.int R)) 0 0 (some .int)) : V C 41 [(0, .ref (K.1 + 61)), (1, .int a1)] [.int s0] (xfM K nn x y) 0 0 := by
  unfold f_X11_widthsWrong_41 at h
  refine v_istore_n F (ls' := [(2, .int s0), (0, .ref (K.1 + 61)), (1, .int a1)]) (dq dkX11_widthsWrong_0 24 rfl) rfl (by decide) rfl ?_
  refine v_iconst F (v := 0) (dq dkX11_widthsWrong_0 25 rfl) ki_0 ?_
  refine v_istore_n F (ls' := [(3, .int 0), (2, .int s0), (0, .ref (K.1 + 61)), (1, .int a1)]) (dq dkX11_widthsWrong_0 26 rfl) rfl (by decide) rfl ?_
  refine v_sub [2, 3, 1, 0] rfl ?_
  exact t_X11_widthsWrong_44 y F E 1000 a1 s0 0 h
def f_X11_widthsWrong (y : MS) (a1 : Int32) : Option (Int32) := if (b2i (f_X11_in a1 0 3)) = 0 then (some (-2)) else (gd (ib a1 4) (if (gi y 77 a1.toNatClampNeg) = (-1) then (some (-11)) else (gd (ib a1 4) (if (gi y 78 a1.toNatClampNeg) = 9 then (f_X11_widthsWrong_41 y a1 1) else (f_X11_widthsWrong_41 y a1 0)))))
set_option maxRecDepth 100000 in
set_option maxHeartbeats 4000000 in
theorem c_X11_widthsWrong {K : KE} {l : Launch} {R : Int32} {nn : Nat} (x : CS) (y : MS) (a1 : Int32) (h : f_X11_widthsWrong y a1 = some R) : MC K l yX11_widthsWrong cX11_widthsWrong 4 (some .int) rm_X11_widthsWrong 0 0 [.ref (K.1 + 61), .int a1] (xfM K nn x y) (xfM K nn x y) (some (.int R)) := by
  unfold f_X11_widthsWrong at h
  refine mc_of (ls0 := [(0, .ref (K.1 + 61)), (1, .int a1)]) (by decide) (Nat.le_of_ble_eq_true rfl) rfl (fun C hl hnm F E => ?_)
  have F : Fx C RX11 cX11_widthsWrong 4 rm_X11_widthsWrong K := F
  refine v_iload_n F (dq dkX11_widthsWrong_0 0 rfl) rfl 1 rfl ?_
  refine v_iconst F (v := 0) (dq dkX11_widthsWrong_0 1 rfl) ki_0 ?_
  refine v_iconst F (v := 3) (dq dkX11_widthsWrong_0 2 rfl) ki_3 ?_
  refine v_callS 3 F (kc1 := 0) (ks1 := 0) (as := [.int a1, .int 0, .int 3]) (st := []) (st1 := (.int (b2i (f_X11_in a1 0 3)) :: [])) (res := (some (.int (b2i (f_X11_in a1 0 3))))) (c_X11_in (l := C.2.1) a1 0 3) (tc15 _ (List.mem_of_getElem? (i := 1) rfl)) (tc15 _ (List.mem_of_getElem? (i := 2) rfl)) (tc1 _ (List.mem_of_getElem? (i := 5) rfl)) (tc15 _ (List.mem_of_getElem? (i := 3) rfl)) (by decide) rfl ⟨rfl, rfl, Nat.le_of_ble_eq_true rfl, Nat.le_of_ble_eq_true rfl⟩ ⟨Nat.le_of_ble_eq_true rfl, Nat.le_of_ble_eq_true rfl⟩ rfl (Nat.le_of_ble_eq_true rfl) rfl rfl rfl (dq dkX11_widthsWrong_0 3 rfl) ?_
  refine v_if_ne F (tgt := 12) (dq dkX11_widthsWrong_0 4 rfl) (by decide) (fun c7 => ?_) (fun c7 => ?_)
  · rw [if_neg c7] at h
    refine v_aload_n F (dq dkX11_widthsWrong_0 7 rfl) rfl 0 rfl ?_
    refine v_get F 61 (xnM (by decide)) xc_61 rfl inlX11 28 (by decide) (tc12 _ (List.mem_of_getElem? (i := 12) rfl)) rfl rfl (dq dkX11_widthsWrong_0 8 rfl) ?_
    refine v_iload_n F (dq dkX11_widthsWrong_0 9 rfl) rfl 1 rfl ?_
    obtain ⟨g8, h⟩ := gd_of h
    refine v_iald F 77 (xnM (by decide)) xc_77 (ib_in g8) (dq dkX11_widthsWrong_0 10 rfl) ?_
    refine v_iconst F (v := (-1)) (dq dkX11_widthsWrong_0 11 rfl) ki_m1 ?_
    refine v_icmp_ne F (tgt := 25) (dq dkX11_widthsWrong_0 12 rfl) (by decide) (fun c9 => ?_) (fun c9 => ?_)
    · rw [if_neg c9] at h
      refine v_aload_n F (dq dkX11_widthsWrong_0 15 rfl) rfl 0 rfl ?_
      refine v_get F 61 (xnM (by decide)) xc_61 rfl inlX11 29 (by decide) (tc12 _ (List.mem_of_getElem? (i := 13) rfl)) rfl rfl (dq dkX11_widthsWrong_0 16 rfl) ?_
      refine v_iload_n F (dq dkX11_widthsWrong_0 17 rfl) rfl 1 rfl ?_
      obtain ⟨g10, h⟩ := gd_of h
      refine v_iald F 78 (xnM (by decide)) xc_78 (ib_in g10) (dq dkX11_widthsWrong_0 18 rfl) ?_
      refine v_bipush F (v := 9) (dq dkX11_widthsWrong_0 19 rfl) kb_9 ?_
      refine v_icmp_ne F (tgt := 40) (dq dkX11_widthsWrong_0 20 rfl) (by decide) (fun c11 => ?_) (fun c11 => ?_)
      · rw [if_neg c11] at h
        refine v_iconst F (v := 0) (dq dkX11_widthsWrong_0 23 rfl) ki_0 ?_
        exact t_X11_widthsWrong_41 y a1 0 h F E
      · rw [if_pos c11] at h
        refine v_iconst F (v := 1) (dq dkX11_widthsWrong_0 21 rfl) ki_1 ?_
        refine v_goto F (tgt := 41) (dq dkX11_widthsWrong_0 22 rfl) (by decide) ?_
        exact t_X11_widthsWrong_41 y a1 1 h F E
    · rw [if_pos c9] at h
      refine v_bipush F (v := (-11)) (dq dkX11_widthsWrong_0 13 rfl) kb_m11 ?_
      have h := Option.some.inj h
      subst h
      exact v_iret F E (dq dkX11_widthsWrong_0 14 rfl)
  · rw [if_pos c7] at h
    refine v_bipush F (v := (-2)) (dq dkX11_widthsWrong_0 5 rfl) kb_m2 ?_
    have h := Option.some.inj h
    subst h
    exact v_iret F E (dq dkX11_widthsWrong_0 6 rfl)
def rm_X11_forWish : Room := { frames := 2, cells := 0, slots := 0, locals := 50 }
def f_X11_forWish (y : MS) (a1 : Int32) (a2 : Int32) (a3 : Int32) : Option (Int32) := gd (ib ((40 * a1) + a3) 160) (some ((gi y 79 ((40 * a1) + a3).toNatClampNeg) - (a2 * (4 - (f_X11_size (a3 - 4))))))
set_option maxRecDepth 100000 in
set_option maxHeartbeats 4000000 in
theorem c_X11_forWish {K : KE} {l : Launch} {R : Int32} {nn : Nat} (x : CS) (y : MS) (a1 : Int32) (a2 : Int32) (a3 : Int32) (h : f_X11_forWish y a1 a2 a3 = some R) : MC K l yX11_forWish cX11_forWish 4 (some .int) rm_X11_forWish 0 0 [.ref (K.1 + 61), .int a1, .int a2, .int a3] (xfM K nn x y) (xfM K nn x y) (some (.int R)) := by
  unfold f_X11_forWish at h
  refine mc_of (ls0 := [(0, .ref (K.1 + 61)), (1, .int a1), (2, .int a2), (3, .int a3)]) (by decide) (Nat.le_of_ble_eq_true rfl) rfl (fun C hl hnm F E => ?_)
  have F : Fx C RX11 cX11_forWish 4 rm_X11_forWish K := F
  refine v_aload_n F (dq dkX11_forWish_0 0 rfl) rfl 0 rfl ?_
  refine v_get F 61 (xnM (by decide)) xc_61 rfl inlX11 30 (by decide) (tc12 _ (List.mem_of_getElem? (i := 14) rfl)) rfl rfl (dq dkX11_forWish_0 1 rfl) ?_
  refine v_bipush F (v := 40) (dq dkX11_forWish_0 2 rfl) kb_40 ?_
  refine v_iload_n F (dq dkX11_forWish_0 3 rfl) rfl 1 rfl ?_
  refine v_imul F (dq dkX11_forWish_0 4 rfl) ?_
  refine v_iload_n F (dq dkX11_forWish_0 5 rfl) rfl 3 rfl ?_
  refine v_iadd F (dq dkX11_forWish_0 6 rfl) ?_
  obtain ⟨g1, h⟩ := gd_of h
  refine v_iald F 79 (xnM (by decide)) xc_79 (ib_in g1) (dq dkX11_forWish_0 7 rfl) ?_
  refine v_iload_n F (dq dkX11_forWish_0 8 rfl) rfl 2 rfl ?_
  refine v_iconst F (v := 4) (dq dkX11_forWish_0 9 rfl) ki_4 ?_
  refine v_iload_n F (dq dkX11_forWish_0 10 rfl) rfl 3 rfl ?_
  refine v_iconst F (v := 4) (dq dkX11_forWish_0 11 rfl) ki_4 ?_
  refine v_isub F (dq dkX11_forWish_0 12 rfl) ?_
  refine v_callS 1 F (kc1 := 0) (ks1 := 0) (as := [.int (a3 - 4)]) (st := [.int 4, .int a2, .int (gi y 79 ((40 * a1) + a3).toNatClampNeg)]) (st1 := (.int (f_X11_size (a3 - 4)) :: [.int 4, .int a2, .int (gi y 79 ((40 * a1) + a3).toNatClampNeg)])) (res := (some (.int (f_X11_size (a3 - 4))))) (c_X11_size (l := C.2.1) (a3 - 4)) (tc29 _ (List.mem_of_getElem? (i := 9) rfl)) (tc29 _ (List.mem_of_getElem? (i := 10) rfl)) (tc1 _ (List.mem_of_getElem? (i := 5) rfl)) (tc29 _ (List.mem_of_getElem? (i := 11) rfl)) (by decide) rfl ⟨rfl, rfl, Nat.le_of_ble_eq_true rfl, Nat.le_of_ble_eq_true rfl⟩ ⟨Nat.le_of_ble_eq_true rfl, Nat.le_of_ble_eq_true rfl⟩ rfl (Nat.le_of_ble_eq_true rfl) rfl rfl rfl (dq dkX11_forWish_0 13 rfl) ?_
  refine v_isub F (dq dkX11_forWish_0 14 rfl) ?_
  refine v_imul F (dq dkX11_forWish_0 15 rfl) ?_
  refine v_isub F (dq dkX11_forWish_0 16 rfl) ?_
  have h := Option.some.inj h
  subst h
  exact v_iret F E (dq dkX11_forWish_0 17 rfl)
def rm_X11_wished : Room := { frames := 3, cells := 0, slots := 0, locals := 75 }
def f_X11_wished (y : MS) (a1 : Int32) (a2 : Int32) (a3 : Int32) : Option (Int32) := if (b2i (f_X11_isSection a3)) = 0 then (some (-5)) else (if (b2i (f_X11_in a2 0 12)) = 0 then (some (-7)) else ((f_X11_widthsWrong y a1).bind fun r5 => if r5 = 0 then ((f_X11_forWish y a1 a2 a3).bind fun r8 => if (b2i (f_X11_in r8 1 99)) = 0 then (some (-1)) else (some r8)) else (some r5)))
set_option maxRecDepth 100000 in
set_option maxHeartbeats 4000000 in
theorem c_X11_wished {K : KE} {l : Launch} {R : Int32} {nn : Nat} (x : CS) (y : MS) (a1 : Int32) (a2 : Int32) (a3 : Int32) (h : f_X11_wished y a1 a2 a3 = some R) : MC K l yX11_wished cX11_wished 6 (some .int) rm_X11_wished 0 0 [.ref (K.1 + 61), .int a1, .int a2, .int a3] (xfM K nn x y) (xfM K nn x y) (some (.int R)) := by
  unfold f_X11_wished at h
  refine mc_of (ls0 := [(0, .ref (K.1 + 61)), (1, .int a1), (2, .int a2), (3, .int a3)]) (by decide) (Nat.le_of_ble_eq_true rfl) rfl (fun C hl hnm F E => ?_)
  have F : Fx C RX11 cX11_wished 6 rm_X11_wished K := F
  refine v_iload_n F (dq dkX11_wished_0 0 rfl) rfl 3 rfl ?_
  refine v_callS 1 F (kc1 := 0) (ks1 := 0) (as := [.int a3]) (st := []) (st1 := (.int (b2i (f_X11_isSection a3)) :: [])) (res := (some (.int (b2i (f_X11_isSection a3))))) (c_X11_isSection (l := C.2.1) a3) (tc14 _ (List.mem_of_getElem? (i := 22) rfl)) (tc14 _ (List.mem_of_getElem? (i := 23) rfl)) (tc1 _ (List.mem_of_getElem? (i := 5) rfl)) (tc15 _ (List.mem_of_getElem? (i := 0) rfl)) (by decide) rfl ⟨rfl, rfl, Nat.le_of_ble_eq_true rfl, Nat.le_of_ble_eq_true rfl⟩ ⟨Nat.le_of_ble_eq_true rfl, Nat.le_of_ble_eq_true rfl⟩ rfl (Nat.le_of_ble_eq_true rfl) rfl rfl rfl (dq dkX11_wished_0 1 rfl) ?_
  refine v_if_ne F (tgt := 10) (dq dkX11_wished_0 2 rfl) (by decide) (fun c2 => ?_) (fun c2 => ?_)
  · rw [if_neg c2] at h
    refine v_iload_n F (dq dkX11_wished_0 5 rfl) rfl 2 rfl ?_
    refine v_iconst F (v := 0) (dq dkX11_wished_0 6 rfl) ki_0 ?_
    refine v_bipush F (v := 12) (dq dkX11_wished_0 7 rfl) kb_12 ?_
    refine v_callS 3 F (kc1 := 0) (ks1 := 0) (as := [.int a2, .int 0, .int 12]) (st := []) (st1 := (.int (b2i (f_X11_in a2 0 12)) :: [])) (res := (some (.int (b2i (f_X11_in a2 0 12))))) (c_X11_in (l := C.2.1) a2 0 12) (tc15 _ (List.mem_of_getElem? (i := 1) rfl)) (tc15 _ (List.mem_of_getElem? (i := 2) rfl)) (tc1 _ (List.mem_of_getElem? (i := 5) rfl)) (tc15 _ (List.mem_of_getElem? (i := 3) rfl)) (by decide) rfl ⟨rfl, rfl, Nat.le_of_ble_eq_true rfl, Nat.le_of_ble_eq_true rfl⟩ ⟨Nat.le_of_ble_eq_true rfl, Nat.le_of_ble_eq_true rfl⟩ rfl (Nat.le_of_ble_eq_true rfl) rfl rfl rfl (dq dkX11_wished_0 8 rfl) ?_
    refine v_if_ne F (tgt := 23) (dq dkX11_wished_0 9 rfl) (by decide) (fun c4 => ?_) (fun c4 => ?_)
    · rw [if_neg c4] at h
      refine v_aload_n F (dq dkX11_wished_0 12 rfl) rfl 0 rfl ?_
      refine v_iload_n F (dq dkX11_wished_0 13 rfl) rfl 1 rfl ?_
      obtain ⟨r5, e6, h⟩ := bd_of h
      refine v_callV 1 F (q := 61) (kc1 := 0) (ks1 := 0) (as := [.int a1]) (st := []) (st1 := (.int r5 :: [])) (res := (some (.int r5))) (c_X11_widthsWrong (l := C.2.1) x y a1 e6) (xnM (by decide)) xc_61 rfl (tc35 _ (List.mem_of_getElem? (i := 23) rfl)) (tc36 _ (List.mem_of_getElem? (i := 0) rfl)) (tc36 _ (List.mem_of_getElem? (i := 1) rfl)) (tc1 _ (List.mem_of_getElem? (i := 5) rfl)) (tc36 _ (List.mem_of_getElem? (i := 2) rfl)) (by decide) rfl ⟨rfl, rfl, Nat.le_of_ble_eq_true rfl, Nat.le_of_ble_eq_true rfl⟩ ⟨Nat.le_of_ble_eq_true rfl, Nat.le_of_ble_eq_true rfl⟩ rfl (Nat.le_of_ble_eq_true rfl) rfl rfl rfl (dq dkX11_wished_0 14 rfl) ?_
      refine v_istore F (ls' := [(4, .int r5), (0, .ref (K.1 + 61)), (1, .int a1), (2, .int a2), (3, .int a3)]) (dq dkX11_wished_0 15 rfl) (by decide) rfl ?_
      refine v_iload F (dq dkX11_wished_0 16 rfl) 0 rfl ?_
      refine v_if_eq F (tgt := 38) (dq dkX11_wished_0 17 rfl) (by decide) (fun c7 => ?_) (fun c7 => ?_)
      · rw [if_pos c7] at h
        refine v_aload_n F (dq dkX11_wished_0 20 rfl) rfl 1 rfl ?_
        refine v_iload_n F (dq dkX11_wished_0 21 rfl) rfl 2 rfl ?_
        refine v_iload_n F (dq dkX11_wished_0 22 rfl) rfl 3 rfl ?_
        refine v_iload_n F (dq dkX11_wished_0 23 rfl) rfl 4 rfl ?_
        obtain ⟨r8, e9, h⟩ := bd_of h
        refine v_callV 3 F (q := 61) (kc1 := 0) (ks1 := 0) (as := [.int a1, .int a2, .int a3]) (st := []) (st1 := (.int r8 :: [])) (res := (some (.int r8))) (c_X11_forWish (l := C.2.1) x y a1 a2 a3 e9) (xnM (by decide)) xc_61 rfl (tc36 _ (List.mem_of_getElem? (i := 3) rfl)) (tc36 _ (List.mem_of_getElem? (i := 4) rfl)) (tc36 _ (List.mem_of_getElem? (i := 5) rfl)) (tc1 _ (List.mem_of_getElem? (i := 5) rfl)) (tc36 _ (List.mem_of_getElem? (i := 6) rfl)) (by decide) rfl ⟨rfl, rfl, Nat.le_of_ble_eq_true rfl, Nat.le_of_ble_eq_true rfl⟩ ⟨Nat.le_of_ble_eq_true rfl, Nat.le_of_ble_eq_true rfl⟩ rfl (Nat.le_of_ble_eq_true rfl) rfl rfl rfl (dq dkX11_wished_0 24 rfl) ?_
        refine v_istore F (ls' := [(5, .int r8), (4, .int r5), (0, .ref (K.1 + 61)), (1, .int a1), (2, .int a2), (3, .int a3)]) (dq dkX11_wished_0 25 rfl) (by decide) rfl ?_
        refine v_iload F (dq dkX11_wished_0 26 rfl) 0 rfl ?_
        refine v_iconst F (v := 1) (dq dkX11_wished_0 27 rfl) ki_1 ?_
        refine v_bipush F (v := 99) (dq dkX11_wished_0 28 rfl) kb_99 ?_
        refine v_callS 3 F (kc1 := 0) (ks1 := 0) (as := [.int r8, .int 1, .int 99]) (st := []) (st1 := (.int (b2i (f_X11_in r8 1 99)) :: [])) (res := (some (.int (b2i (f_X11_in r8 1 99))))) (c_X11_in (l := C.2.1) r8 1 99) (tc15 _ (List.mem_of_getElem? (i := 1) rfl)) (tc15 _ (List.mem_of_getElem? (i := 2) rfl)) (tc1 _ (List.mem_of_getElem? (i := 5) rfl)) (tc15 _ (List.mem_of_getElem? (i := 3) rfl)) (by decide) rfl ⟨rfl, rfl, Nat.le_of_ble_eq_true rfl, Nat.le_of_ble_eq_true rfl⟩ ⟨Nat.le_of_ble_eq_true rfl, Nat.le_of_ble_eq_true rfl⟩ rfl (Nat.le_of_ble_eq_true rfl) rfl rfl rfl (dq dkX11_wished_0 29 rfl) ?_
        refine v_if_eq F (tgt := 63) (dq dkX11_wished_0 30 rfl) (by decide) (fun c11 => ?_) (fun c11 => ?_)
        · rw [if_pos c11] at h
          refine v_iconst F (v := (-1)) (dq dkX11_wished_0 33 rfl) ki_m1 ?_
          have h := Option.some.inj h
          subst h
          exact v_iret F E (dq dkX11_wished_0 34 rfl)
        · rw [if_neg c11] at h
          refine v_iload F (dq dkX11_wished_0 31 rfl) 0 rfl ?_
          refine v_goto F (tgt := 64) (dq dkX11_wished_0 32 rfl) (by decide) ?_
          have h := Option.some.inj h
          subst h
          exact v_iret F E (dq dkX11_wished_0 34 rfl)
      · rw [if_neg c7] at h
        refine v_iload F (dq dkX11_wished_0 18 rfl) 0 rfl ?_
        have h := Option.some.inj h
        subst h
        exact v_iret F E (dq dkX11_wished_0 19 rfl)
    · rw [if_pos c4] at h
      refine v_bipush F (v := (-7)) (dq dkX11_wished_0 10 rfl) kb_m7 ?_
      have h := Option.some.inj h
      subst h
      exact v_iret F E (dq dkX11_wished_0 11 rfl)
  · rw [if_pos c2] at h
    refine v_bipush F (v := (-5)) (dq dkX11_wished_0 3 rfl) kb_m5 ?_
    have h := Option.some.inj h
    subst h
    exact v_iret F E (dq dkX11_wished_0 4 rfl)
def rm_X11_canBe : Room := { frames := 3, cells := 0, slots := 0, locals := 73 }
def f_X11_canBe_2 (y : MS) : Nat → Int32 → Int32 → Int32 → Option (Bool)
  | 0, _, _, _ => none
  | n + 1, a1, a2, a3 => if 9 ≤ a3 then (some true) else ((f_X11_forWish y a1 a2 a3).bind fun r2 => if (b2i (f_X11_in r2 1 99)) = 0 then (some false) else ((f_X11_canBe_2 y n) a1 a2 (a3 + 1)))
set_option maxRecDepth 100000 in
set_option maxHeartbeats 4000000 in
theorem t_X11_canBe_2 {C : Cx} {K : KE} {nn : Nat} {x : CS} {R : Bool}  (y : MS) (F : Fx C RX11 cX11_canBe 4 rm_X11_canBe K) (E : CE C (xfM K nn x y) (some (.int (b2i R))) 0 0 (some .boolean)) : ∀ (n : Nat) (a1 : Int32) (a2 : Int32) (a3 : Int32) (h : f_X11_canBe_2 y n a1 a2 a3 = some R), V C 2 [(0, .ref (K.1 + 61)), (1, .int a1), (2, .int a2), (3, .int a3)] [] (xfM K nn x y) 0 0 := by
  intro n
  induction n with
  | zero => intro a1 a2 a3 h; cases h
  | succ n ih =>
    intro a1 a2 a3 h
    rw [f_X11_canBe_2] at h
    refine v_iload_n F (dq dkX11_canBe_0 2 rfl) rfl 3 rfl ?_
    refine v_bipush F (v := 9) (dq dkX11_canBe_0 3 rfl) kb_9 ?_
    refine v_icmp_ge F (tgt := 32) (dq dkX11_canBe_0 4 rfl) (by decide) (fun c1 => ?_) (fun c1 => ?_)
    · rw [if_pos c1] at h
      refine v_iconst F (v := 1) (dq dkX11_canBe_0 18 rfl) ki_1 ?_
      have h := Option.some.inj h
      subst h
      exact v_zret F E (b2i_n true) (dq dkX11_canBe_0 19 rfl)
    · rw [if_neg c1] at h
      refine v_aload_n F (dq dkX11_canBe_0 5 rfl) rfl 0 rfl ?_
      refine v_iload_n F (dq dkX11_canBe_0 6 rfl) rfl 1 rfl ?_
      refine v_iload_n F (dq dkX11_canBe_0 7 rfl) rfl 2 rfl ?_
      refine v_iload_n F (dq dkX11_canBe_0 8 rfl) rfl 3 rfl ?_
      obtain ⟨r2, e3, h⟩ := bd_of h
      refine v_callV 3 F (q := 61) (kc1 := 0) (ks1 := 0) (as := [.int a1, .int a2, .int a3]) (st := []) (st1 := (.int r2 :: [])) (res := (some (.int r2))) (c_X11_forWish (l := C.2.1) x y a1 a2 a3 e3) (xnM (by decide)) xc_61 rfl (tc36 _ (List.mem_of_getElem? (i := 3) rfl)) (tc36 _ (List.mem_of_getElem? (i := 4) rfl)) (tc36 _ (List.mem_of_getElem? (i := 5) rfl)) (tc1 _ (List.mem_of_getElem? (i := 5) rfl)) (tc36 _ (List.mem_of_getElem? (i := 6) rfl)) (by decide) rfl ⟨rfl, rfl, Nat.le_of_ble_eq_true rfl, Nat.le_of_ble_eq_true rfl⟩ ⟨Nat.le_of_ble_eq_true rfl, Nat.le_of_ble_eq_true rfl⟩ rfl (Nat.le_of_ble_eq_true rfl) rfl rfl rfl (dq dkX11_canBe_0 9 rfl) ?_
      refine v_iconst F (v := 1) (dq dkX11_canBe_0 10 rfl) ki_1 ?_
      refine v_bipush F (v := 99) (dq dkX11_canBe_0 11 rfl) kb_99 ?_
      refine v_callS 3 F (kc1 := 0) (ks1 := 0) (as := [.int r2, .int 1, .int 99]) (st := []) (st1 := (.int (b2i (f_X11_in r2 1 99)) :: [])) (res := (some (.int (b2i (f_X11_in r2 1 99))))) (c_X11_in (l := C.2.1) r2 1 99) (tc15 _ (List.mem_of_getElem? (i := 1) rfl)) (tc15 _ (List.mem_of_getElem? (i := 2) rfl)) (tc1 _ (List.mem_of_getElem? (i := 5) rfl)) (tc15 _ (List.mem_of_getElem? (i := 3) rfl)) (by decide) rfl ⟨rfl, rfl, Nat.le_of_ble_eq_true rfl, Nat.le_of_ble_eq_true rfl⟩ ⟨Nat.le_of_ble_eq_true rfl, Nat.le_of_ble_eq_true rfl⟩ rfl (Nat.le_of_ble_eq_true rfl) rfl rfl rfl (dq dkX11_canBe_0 12 rfl) ?_
      refine v_if_ne F (tgt := 26) (dq dkX11_canBe_0 13 rfl) (by decide) (fun c5 => ?_) (fun c5 => ?_)
      · rw [if_neg c5] at h
        refine v_iinc F (v := a3 + 1) (ls' := [(3, .int (a3 + 1)), (0, .ref (K.1 + 61)), (1, .int a1), (2, .int a2)]) (dq dkX11_canBe_0 16 rfl) (j := 3) rfl (kv_add ki_1) (by decide) rfl ?_
        refine v_goto F (tgt := 2) (dq dkX11_canBe_0 17 rfl) (by decide) ?_
        refine v_sub [1, 2, 3, 0] rfl ?_
        exact ih a1 a2 (a3 + 1) h
      · rw [if_pos c5] at h
        refine v_iconst F (v := 0) (dq dkX11_canBe_0 14 rfl) ki_0 ?_
        have h := Option.some.inj h
        subst h
        exact v_zret F E (b2i_n false) (dq dkX11_canBe_0 15 rfl)
def f_X11_canBe (y : MS) (a1 : Int32) (a2 : Int32) : Option (Bool) := f_X11_canBe_2 y 1000 a1 a2 0
set_option maxRecDepth 100000 in
set_option maxHeartbeats 4000000 in
theorem c_X11_canBe {K : KE} {l : Launch} {R : Bool} {nn : Nat} (x : CS) (y : MS) (a1 : Int32) (a2 : Int32) (h : f_X11_canBe y a1 a2 = some R) : MC K l yX11_canBe cX11_canBe 4 (some .boolean) rm_X11_canBe 0 0 [.ref (K.1 + 61), .int a1, .int a2] (xfM K nn x y) (xfM K nn x y) (some (.int (b2i R))) := by
  unfold f_X11_canBe at h
  refine mc_of (ls0 := [(0, .ref (K.1 + 61)), (1, .int a1), (2, .int a2)]) (by decide) (Nat.le_of_ble_eq_true rfl) rfl (fun C hl hnm F E => ?_)
  have F : Fx C RX11 cX11_canBe 4 rm_X11_canBe K := F
  refine v_iconst F (v := 0) (dq dkX11_canBe_0 0 rfl) ki_0 ?_
  refine v_istore_n F (ls' := [(3, .int 0), (0, .ref (K.1 + 61)), (1, .int a1), (2, .int a2)]) (dq dkX11_canBe_0 1 rfl) rfl (by decide) rfl ?_
  refine v_sub [1, 2, 3, 0] rfl ?_
  exact t_X11_canBe_2 y F E 1000 a1 a2 0 h
def rm_X11_old : Room := { frames := 4, cells := 0, slots := 0, locals := 96 }
def f_X11_old_104 (k20 : Int32 → Int32 → Int32 → Int32 → Option (Int32)) (y : MS) (a1 : Int32) (a3 : Int32) (a4 : Int32) (a5 : Int32) : Option (Int32) := k20 a1 a3 a4 (a5 + 1)
set_option maxRecDepth 100000 in
set_option maxHeartbeats 4000000 in
theorem t_X11_old_104 {C : Cx} {K : KE} {nn : Nat} {x : CS} {R : Int32}  (k20 : Int32 → Int32 → Int32 → Int32 → Option (Int32)) (y : MS) (a1 : Int32) (a3 : Int32) (a4 : Int32) (a5 : Int32) (hk20 : ∀ (a1 : Int32) (a3 : Int32) (a4 : Int32) (a5 : Int32), k20 a1 a3 a4 a5 = some R → V C 20 [(0, .ref (K.1 + 61)), (1, .int a1), (3, .int a3), (4, .int a4), (5, .int a5)] [] (xfM K nn x y) 0 0) (h : f_X11_old_104 k20 y a1 a3 a4 a5 = some R) (F : Fx C RX11 cX11_old 8 rm_X11_old K) (E : CE C (xfM K nn x y) (some (.int R)) 0 0 (some .int)) : V C 104 [(0, .ref (K.1 + 61)), (1, .int a1), (3, .int a3), (4, .int a4), (5, .int a5)] [] (xfM K nn x y) 0 0 := by
  unfold f_X11_old_104 at h
  refine v_iinc F (v := a5 + 1) (ls' := [(5, .int (a5 + 1)), (0, .ref (K.1 + 61)), (1, .int a1), (3, .int a3), (4, .int a4)]) (dq dkX11_old_1 18 rfl) (j := 4) rfl (kv_add ki_1) (by decide) rfl ?_
  refine v_goto F (tgt := 20) (dq dkX11_old_1 19 rfl) (by decide) ?_
  refine v_sub [1, 2, 3, 4, 0] rfl ?_
  exact hk20 a1 a3 a4 (a5 + 1) h
def f_X11_old_97 (k20 : Int32 → Int32 → Int32 → Int32 → Option (Int32)) (y : MS) (a1 : Int32) (a5 : Int32) (a6 : Int32) : Option (Int32) := f_X11_old_104 k20 y a1 a5 a6 a5
set_option maxRecDepth 100000 in
set_option maxHeartbeats 4000000 in
theorem t_X11_old_97 {C : Cx} {K : KE} {nn : Nat} {x : CS} {R : Int32}  (k20 : Int32 → Int32 → Int32 → Int32 → Option (Int32)) (y : MS) (a1 : Int32) (a5 : Int32) (a6 : Int32) (hk20 : ∀ (a1 : Int32) (a3 : Int32) (a4 : Int32) (a5 : Int32), k20 a1 a3 a4 a5 = some R → V C 20 [(0, .ref (K.1 + 61)), (1, .int a1), (3, .int a3), (4, .int a4), (5, .int a5)] [] (xfM K nn x y) 0 0) (h : f_X11_old_97 k20 y a1 a5 a6 = some R) (F : Fx C RX11 cX11_old 8 rm_X11_old K) (E : CE C (xfM K nn x y) (some (.int R)) 0 0 (some .int)) : V C 97 [(0, .ref (K.1 + 61)), (1, .int a1), (5, .int a5), (6, .int a6)] [] (xfM K nn x y) 0 0 := by
  unfold f_X11_old_97 at h
  refine v_iload F (dq dkX11_old_1 14 rfl) 2 rfl ?_
  refine v_istore_n F (ls' := [(3, .int a5), (0, .ref (K.1 + 61)), (1, .int a1), (5, .int a5), (6, .int a6)]) (dq dkX11_old_1 15 rfl) rfl (by decide) rfl ?_
  refine v_iload F (dq dkX11_old_1 16 rfl) 4 rfl ?_
  refine v_istore F (ls' := [(4, .int a6), (3, .int a5), (0, .ref (K.1 + 61)), (1, .int a1), (5, .int a5), (6, .int a6)]) (dq dkX11_old_1 17 rfl) (by decide) rfl ?_
  refine v_sub [2, 3, 1, 0, 4] rfl ?_
  exact t_X11_old_104 k20 y a1 a5 a6 a5 hk20 h F E
def f_X11_old_33 (k20 : Int32 → Int32 → Int32 → Int32 → Option (Int32)) (y : MS) : Nat → Int32 → Int32 → Int32 → Int32 → Int32 → Int32 → Option (Int32)
  | 0, _, _, _, _, _, _ => none
  | n + 1, a1, a3, a4, a5, a6, a7 => if 9 ≤ a7 then ((f_X11_canBe y a1 a5).bind fun r2 => if (b2i r2) = 0 then (f_X11_old_104 k20 y a1 a3 a4 a5) else (if a3 = (-1) then (f_X11_old_97 k20 y a1 a5 a6) else (if a4 ≤ a6 then (f_X11_old_104 k20 y a1 a3 a4 a5) else (f_X11_old_97 k20 y a1 a5 a6)))) else ((f_X11_forWish y a1 a5 a7).bind fun r7 => (f_X11_forWish y a1 a5 (a7 - 1)).bind fun r9 => (f_X11_old_33 k20 y n) a1 a3 a4 a5 (a6 + (f_X11_size (r7 - r9))) (a7 + 1))
set_option maxRecDepth 100000 in
set_option maxHeartbeats 4000000 in
theorem t_X11_old_33 {C : Cx} {K : KE} {nn : Nat} {x : CS} {R : Int32}  (k20 : Int32 → Int32 → Int32 → Int32 → Option (Int32)) (y : MS) (hk20 : ∀ (a1 : Int32) (a3 : Int32) (a4 : Int32) (a5 : Int32), k20 a1 a3 a4 a5 = some R → V C 20 [(0, .ref (K.1 + 61)), (1, .int a1), (3, .int a3), (4, .int a4), (5, .int a5)] [] (xfM K nn x y) 0 0) (F : Fx C RX11 cX11_old 8 rm_X11_old K) (E : CE C (xfM K nn x y) (some (.int R)) 0 0 (some .int)) : ∀ (n : Nat) (a1 : Int32) (a3 : Int32) (a4 : Int32) (a5 : Int32) (a6 : Int32) (a7 : Int32) (h : f_X11_old_33 k20 y n a1 a3 a4 a5 a6 a7 = some R), V C 33 [(0, .ref (K.1 + 61)), (1, .int a1), (3, .int a3), (4, .int a4), (5, .int a5), (6, .int a6), (7, .int a7)] [] (xfM K nn x y) 0 0 := by
  intro n
  induction n with
  | zero => intro a1 a3 a4 a5 a6 a7 h; cases h
  | succ n ih =>
    intro a1 a3 a4 a5 a6 a7 h
    rw [f_X11_old_33] at h
    refine v_iload F (dq dkX11_old_0 21 rfl) 6 rfl ?_
    refine v_bipush F (v := 9) (dq dkX11_old_0 22 rfl) kb_9 ?_
    refine v_icmp_ge F (tgt := 75) (dq dkX11_old_0 23 rfl) (by decide) (fun c1 => ?_) (fun c1 => ?_)
    · rw [if_pos c1] at h
      refine v_aload_n F (dq dkX11_old_1 3 rfl) rfl 0 rfl ?_
      refine v_iload_n F (dq dkX11_old_1 4 rfl) rfl 1 rfl ?_
      refine v_iload F (dq dkX11_old_1 5 rfl) 4 rfl ?_
      obtain ⟨r2, e3, h⟩ := bd_of h
      refine v_callV 2 F (q := 61) (kc1 := 0) (ks1 := 0) (as := [.int a1, .int a5]) (st := []) (st1 := (.int (b2i r2) :: [])) (res := (some (.int (b2i r2)))) (c_X11_canBe (l := C.2.1) x y a1 a5 e3) (xnM (by decide)) xc_61 rfl (tc36 _ (List.mem_of_getElem? (i := 21) rfl)) (tc36 _ (List.mem_of_getElem? (i := 22) rfl)) (tc36 _ (List.mem_of_getElem? (i := 23) rfl)) (tc1 _ (List.mem_of_getElem? (i := 5) rfl)) (tc37 _ (List.mem_of_getElem? (i := 0) rfl)) (by decide) rfl ⟨rfl, rfl, Nat.le_of_ble_eq_true rfl, Nat.le_of_ble_eq_true rfl⟩ ⟨Nat.le_of_ble_eq_true rfl, Nat.le_of_ble_eq_true rfl⟩ rfl (Nat.le_of_ble_eq_true rfl) rfl rfl rfl (dq dkX11_old_1 6 rfl) ?_
      refine v_if_eq F (tgt := 104) (dq dkX11_old_1 7 rfl) (by decide) (fun c4 => ?_) (fun c4 => ?_)
      · rw [if_pos c4] at h
        refine v_sub [0, 1, 2, 3, 4] rfl ?_
        exact t_X11_old_104 k20 y a1 a3 a4 a5 hk20 h F E
      · rw [if_neg c4] at h
        refine v_iload_n F (dq dkX11_old_1 8 rfl) rfl 2 rfl ?_
        refine v_iconst F (v := (-1)) (dq dkX11_old_1 9 rfl) ki_m1 ?_
        refine v_icmp_eq F (tgt := 97) (dq dkX11_old_1 10 rfl) (by decide) (fun c5 => ?_) (fun c5 => ?_)
        · rw [if_pos c5] at h
          refine v_sub [0, 1, 4, 5] rfl ?_
          exact t_X11_old_97 k20 y a1 a5 a6 hk20 h F E
        · rw [if_neg c5] at h
          refine v_iload F (dq dkX11_old_1 11 rfl) 5 rfl ?_
          refine v_iload F (dq dkX11_old_1 12 rfl) 3 rfl ?_
          refine v_icmp_ge F (tgt := 104) (dq dkX11_old_1 13 rfl) (by decide) (fun c6 => ?_) (fun c6 => ?_)
          · rw [if_pos c6] at h
            refine v_sub [0, 1, 2, 3, 4] rfl ?_
            exact t_X11_old_104 k20 y a1 a3 a4 a5 hk20 h F E
          · rw [if_neg c6] at h
            refine v_sub [0, 1, 4, 5] rfl ?_
            exact t_X11_old_97 k20 y a1 a5 a6 hk20 h F E
    · rw [if_neg c1] at h
      refine v_iload F (dq dkX11_old_0 24 rfl) 5 rfl ?_
      refine v_aload_n F (dq dkX11_old_0 25 rfl) rfl 0 rfl ?_
      refine v_iload_n F (dq dkX11_old_0 26 rfl) rfl 1 rfl ?_
      refine v_iload F (dq dkX11_old_0 27 rfl) 4 rfl ?_
      refine v_iload F (dq dkX11_old_0 28 rfl) 6 rfl ?_
      obtain ⟨r7, e8, h⟩ := bd_of h
      refine v_callV 3 F (q := 61) (kc1 := 0) (ks1 := 0) (as := [.int a1, .int a5, .int a7]) (st := [.int a6]) (st1 := (.int r7 :: [.int a6])) (res := (some (.int r7))) (c_X11_forWish (l := C.2.1) x y a1 a5 a7 e8) (xnM (by decide)) xc_61 rfl (tc36 _ (List.mem_of_getElem? (i := 3) rfl)) (tc36 _ (List.mem_of_getElem? (i := 4) rfl)) (tc36 _ (List.mem_of_getElem? (i := 5) rfl)) (tc1 _ (List.mem_of_getElem? (i := 5) rfl)) (tc36 _ (List.mem_of_getElem? (i := 6) rfl)) (by decide) rfl ⟨rfl, rfl, Nat.le_of_ble_eq_true rfl, Nat.le_of_ble_eq_true rfl⟩ ⟨Nat.le_of_ble_eq_true rfl, Nat.le_of_ble_eq_true rfl⟩ rfl (Nat.le_of_ble_eq_true rfl) rfl rfl rfl (dq dkX11_old_0 29 rfl) ?_
      refine v_aload_n F (dq dkX11_old_0 30 rfl) rfl 0 rfl ?_
      refine v_iload_n F (dq dkX11_old_0 31 rfl) rfl 1 rfl ?_
      refine v_iload F (dq dkX11_old_0 32 rfl) 4 rfl ?_
      refine v_iload F (dq dkX11_old_0 33 rfl) 6 rfl ?_
      refine v_iconst F (v := 1) (dq dkX11_old_0 34 rfl) ki_1 ?_
      refine v_isub F (dq dkX11_old_0 35 rfl) ?_
      obtain ⟨r9, e10, h⟩ := bd_of h
      refine v_callV 3 F (q := 61) (kc1 := 0) (ks1 := 0) (as := [.int a1, .int a5, .int (a7 - 1)]) (st := [.int r7, .int a6]) (st1 := (.int r9 :: [.int r7, .int a6])) (res := (some (.int r9))) (c_X11_forWish (l := C.2.1) x y a1 a5 (a7 - 1) e10) (xnM (by decide)) xc_61 rfl (tc36 _ (List.mem_of_getElem? (i := 3) rfl)) (tc36 _ (List.mem_of_getElem? (i := 4) rfl)) (tc36 _ (List.mem_of_getElem? (i := 5) rfl)) (tc1 _ (List.mem_of_getElem? (i := 5) rfl)) (tc36 _ (List.mem_of_getElem? (i := 6) rfl)) (by decide) rfl ⟨rfl, rfl, Nat.le_of_ble_eq_true rfl, Nat.le_of_ble_eq_true rfl⟩ ⟨Nat.le_of_ble_eq_true rfl, Nat.le_of_ble_eq_true rfl⟩ rfl (Nat.le_of_ble_eq_true rfl) rfl rfl rfl (dq dkX11_old_0 36 rfl) ?_
      refine v_isub F (dq dkX11_old_0 37 rfl) ?_
      refine v_callS 1 F (kc1 := 0) (ks1 := 0) (as := [.int (r7 - r9)]) (st := [.int a6]) (st1 := (.int (f_X11_size (r7 - r9)) :: [.int a6])) (res := (some (.int (f_X11_size (r7 - r9))))) (c_X11_size (l := C.2.1) (r7 - r9)) (tc29 _ (List.mem_of_getElem? (i := 9) rfl)) (tc29 _ (List.mem_of_getElem? (i := 10) rfl)) (tc1 _ (List.mem_of_getElem? (i := 5) rfl)) (tc29 _ (List.mem_of_getElem? (i := 11) rfl)) (by decide) rfl ⟨rfl, rfl, Nat.le_of_ble_eq_true rfl, Nat.le_of_ble_eq_true rfl⟩ ⟨Nat.le_of_ble_eq_true rfl, Nat.le_of_ble_eq_true rfl⟩ rfl (Nat.le_of_ble_eq_true rfl) rfl rfl rfl (dq dkX11_old_0 38 rfl) ?_
      refine v_iadd F (dq dkX11_old_0 39 rfl) ?_
      refine v_istore F (ls' := [(6, .int (a6 + (f_X11_size (r7 - r9)))), (0, .ref (K.1 + 61)), (1, .int a1), (3, .int a3), (4, .int a4), (5, .int a5), (7, .int a7)]) (dq dkX11_old_1 0 rfl) (by decide) rfl ?_
      refine v_iinc F (v := a7 + 1) (ls' := [(7, .int (a7 + 1)), (6, .int (a6 + (f_X11_size (r7 - r9)))), (0, .ref (K.1 + 61)), (1, .int a1), (3, .int a3), (4, .int a4), (5, .int a5)]) (dq dkX11_old_1 1 rfl) (j := 6) rfl (kv_add ki_1) (by decide) rfl ?_
      refine v_goto F (tgt := 33) (dq dkX11_old_1 2 rfl) (by decide) ?_
      refine v_sub [2, 3, 4, 5, 6, 1, 0] rfl ?_
      exact ih a1 a3 a4 a5 (a6 + (f_X11_size (r7 - r9))) (a7 + 1) h
def f_X11_old_20 (y : MS) : Nat → Int32 → Int32 → Int32 → Int32 → Option (Int32)
  | 0, _, _, _, _ => none
  | n + 1, a1, a3, a4, a5 => if 12 < a5 then (some a3) else (f_X11_old_33 (f_X11_old_20 y n) y 1000 a1 a3 a4 a5 0 1)
set_option maxRecDepth 100000 in
set_option maxHeartbeats 4000000 in
theorem t_X11_old_20 {C : Cx} {K : KE} {nn : Nat} {x : CS} {R : Int32}  (y : MS) (F : Fx C RX11 cX11_old 8 rm_X11_old K) (E : CE C (xfM K nn x y) (some (.int R)) 0 0 (some .int)) : ∀ (n : Nat) (a1 : Int32) (a3 : Int32) (a4 : Int32) (a5 : Int32) (h : f_X11_old_20 y n a1 a3 a4 a5 = some R), V C 20 [(0, .ref (K.1 + 61)), (1, .int a1), (3, .int a3), (4, .int a4), (5, .int a5)] [] (xfM K nn x y) 0 0 := by
  intro n
  induction n with
  | zero => intro a1 a3 a4 a5 h; cases h
  | succ n ih =>
    intro a1 a3 a4 a5 h
    rw [f_X11_old_20] at h
    refine v_iload F (dq dkX11_old_0 14 rfl) 4 rfl ?_
    refine v_bipush F (v := 12) (dq dkX11_old_0 15 rfl) kb_12 ?_
    refine v_icmp_gt F (tgt := 110) (dq dkX11_old_0 16 rfl) (by decide) (fun c12 => ?_) (fun c12 => ?_)
    · rw [if_pos c12] at h
      refine v_iload_n F (dq dkX11_old_1 20 rfl) rfl 2 rfl ?_
      have h := Option.some.inj h
      subst h
      exact v_iret F E (dq dkX11_old_1 21 rfl)
    · rw [if_neg c12] at h
      refine v_iconst F (v := 0) (dq dkX11_old_0 17 rfl) ki_0 ?_
      refine v_istore F (ls' := [(6, .int 0), (0, .ref (K.1 + 61)), (1, .int a1), (3, .int a3), (4, .int a4), (5, .int a5)]) (dq dkX11_old_0 18 rfl) (by decide) rfl ?_
      refine v_iconst F (v := 1) (dq dkX11_old_0 19 rfl) ki_1 ?_
      refine v_istore F (ls' := [(7, .int 1), (6, .int 0), (0, .ref (K.1 + 61)), (1, .int a1), (3, .int a3), (4, .int a4), (5, .int a5)]) (dq dkX11_old_0 20 rfl) (by decide) rfl ?_
      refine v_sub [2, 3, 4, 5, 6, 1, 0] rfl ?_
      exact t_X11_old_33 (f_X11_old_20 y n) y ih F E 1000 a1 a3 a4 a5 0 1 h
def f_X11_old (y : MS) (a1 : Int32) : Option (Int32) := (f_X11_widthsWrong y a1).bind fun r13 => if r13 = 0 then (f_X11_old_20 y 1000 a1 (-1) 0 0) else (some r13)
set_option maxRecDepth 100000 in
set_option maxHeartbeats 4000000 in
theorem c_X11_old {K : KE} {l : Launch} {R : Int32} {nn : Nat} (x : CS) (y : MS) (a1 : Int32) (h : f_X11_old y a1 = some R) : MC K l yX11_old cX11_old 8 (some .int) rm_X11_old 0 0 [.ref (K.1 + 61), .int a1] (xfM K nn x y) (xfM K nn x y) (some (.int R)) := by
  unfold f_X11_old at h
  refine mc_of (ls0 := [(0, .ref (K.1 + 61)), (1, .int a1)]) (by decide) (Nat.le_of_ble_eq_true rfl) rfl (fun C hl hnm F E => ?_)
  have F : Fx C RX11 cX11_old 8 rm_X11_old K := F
  refine v_aload_n F (dq dkX11_old_0 0 rfl) rfl 0 rfl ?_
  refine v_iload_n F (dq dkX11_old_0 1 rfl) rfl 1 rfl ?_
  obtain ⟨r13, e14, h⟩ := bd_of h
  refine v_callV 1 F (q := 61) (kc1 := 0) (ks1 := 0) (as := [.int a1]) (st := []) (st1 := (.int r13 :: [])) (res := (some (.int r13))) (c_X11_widthsWrong (l := C.2.1) x y a1 e14) (xnM (by decide)) xc_61 rfl (tc35 _ (List.mem_of_getElem? (i := 23) rfl)) (tc36 _ (List.mem_of_getElem? (i := 0) rfl)) (tc36 _ (List.mem_of_getElem? (i := 1) rfl)) (tc1 _ (List.mem_of_getElem? (i := 5) rfl)) (tc36 _ (List.mem_of_getElem? (i := 2) rfl)) (by decide) rfl ⟨rfl, rfl, Nat.le_of_ble_eq_true rfl, Nat.le_of_ble_eq_true rfl⟩ ⟨Nat.le_of_ble_eq_true rfl, Nat.le_of_ble_eq_true rfl⟩ rfl (Nat.le_of_ble_eq_true rfl) rfl rfl rfl (dq dkX11_old_0 2 rfl) ?_
  refine v_istore_n F (ls' := [(2, .int r13), (0, .ref (K.1 + 61)), (1, .int a1)]) (dq dkX11_old_0 3 rfl) rfl (by decide) rfl ?_
  refine v_iload_n F (dq dkX11_old_0 4 rfl) rfl 0 rfl ?_
  refine v_if_eq F (tgt := 12) (dq dkX11_old_0 5 rfl) (by decide) (fun c15 => ?_) (fun c15 => ?_)
  · rw [if_pos c15] at h
    refine v_iconst F (v := (-1)) (dq dkX11_old_0 8 rfl) ki_m1 ?_
    refine v_istore_n F (ls' := [(3, .int (-1)), (2, .int r13), (0, .ref (K.1 + 61)), (1, .int a1)]) (dq dkX11_old_0 9 rfl) rfl (by decide) rfl ?_
    refine v_iconst F (v := 0) (dq dkX11_old_0 10 rfl) ki_0 ?_
    refine v_istore F (ls' := [(4, .int 0), (3, .int (-1)), (2, .int r13), (0, .ref (K.1 + 61)), (1, .int a1)]) (dq dkX11_old_0 11 rfl) (by decide) rfl ?_
    refine v_iconst F (v := 0) (dq dkX11_old_0 12 rfl) ki_0 ?_
    refine v_istore F (ls' := [(5, .int 0), (4, .int 0), (3, .int (-1)), (2, .int r13), (0, .ref (K.1 + 61)), (1, .int a1)]) (dq dkX11_old_0 13 rfl) (by decide) rfl ?_
    refine v_sub [4, 5, 2, 1, 0] rfl ?_
    exact t_X11_old_20 y F E 1000 a1 (-1) 0 0 h
  · rw [if_neg c15] at h
    refine v_iload_n F (dq dkX11_old_0 6 rfl) rfl 0 rfl ?_
    have h := Option.some.inj h
    subst h
    exact v_iret F E (dq dkX11_old_0 7 rfl)
def rm_X11_copyOf : Room := { frames := 4, cells := 0, slots := 0, locals := 96 }
def f_X11_copyOf_31 (y : MS) : Option (Int32 × MS) := some ((-3), y)
set_option maxRecDepth 100000 in
set_option maxHeartbeats 4000000 in
theorem t_X11_copyOf_31 {C : Cx} {K : KE} {nn : Nat} {x : CS} {R : Int32 × MS}  (y : MS) (h : f_X11_copyOf_31 y = some R) (F : Fx C RX11 cX11_copyOf 6 rm_X11_copyOf K) (E : CE C (xfM K nn x R.2) (some (.int R.1)) 0 0 (some .int)) : V C 31 [] [] (xfM K nn x y) 0 0 := by
  unfold f_X11_copyOf_31 at h
  refine v_bipush F (v := (-3)) (dq dkX11_copyOf_0 18 rfl) kb_m3 ?_
  have h := Option.some.inj h
  subst h
  exact v_iret F E (dq dkX11_copyOf_0 19 rfl)
def f_X11_copyOf_72 (k40 : MS → Int32 → Int32 → Int32 → Int32 → Option (Int32 × MS)) (y : MS) (a1 : Int32) (a2 : Int32) (a5 : Int32) (s0 : Int32) (s1 : Int32) : Option (Int32 × MS) := (f_X11_forWish y a1 a2 a5).bind fun r1 => gd (ib a5 54) (k40 (pi y 62 a5.toNatClampNeg r1) a1 a2 (s1 + s0) (a5 + 1))
set_option maxRecDepth 100000 in
set_option maxHeartbeats 4000000 in
theorem t_X11_copyOf_72 {C : Cx} {K : KE} {nn : Nat} {x : CS} {R : Int32 × MS}  (k40 : MS → Int32 → Int32 → Int32 → Int32 → Option (Int32 × MS)) (y : MS) (a1 : Int32) (a2 : Int32) (a5 : Int32) (s0 : Int32) (s1 : Int32) (hk40 : ∀ (y : MS) (a1 : Int32) (a2 : Int32) (a4 : Int32) (a5 : Int32), k40 y a1 a2 a4 a5 = some R → V C 40 [(0, .ref (K.1 + 61)), (1, .int a1), (2, .int a2), (4, .int a4), (5, .int a5)] [] (xfM K nn x y) 0 0) (h : f_X11_copyOf_72 k40 y a1 a2 a5 s0 s1 = some R) (F : Fx C RX11 cX11_copyOf 6 rm_X11_copyOf K) (E : CE C (xfM K nn x R.2) (some (.int R.1)) 0 0 (some .int)) : V C 72 [(0, .ref (K.1 + 61)), (1, .int a1), (2, .int a2), (5, .int a5)] [.int s0, .int s1] (xfM K nn x y) 0 0 := by
  unfold f_X11_copyOf_72 at h
  refine v_iadd F (dq dkX11_copyOf_1 1 rfl) ?_
  refine v_istore F (ls' := [(4, .int (s1 + s0)), (0, .ref (K.1 + 61)), (1, .int a1), (2, .int a2), (5, .int a5)]) (dq dkX11_copyOf_1 2 rfl) (by decide) rfl ?_
  refine v_aload_n F (dq dkX11_copyOf_1 3 rfl) rfl 1 rfl ?_
  refine v_get F 61 (xnM (by decide)) xc_61 rfl inlX11 0 (by decide) (tc11 _ (List.mem_of_getElem? (i := 17) rfl)) rfl rfl (dq dkX11_copyOf_1 4 rfl) ?_
  refine v_iload F (dq dkX11_copyOf_1 5 rfl) 4 rfl ?_
  refine v_aload_n F (dq dkX11_copyOf_1 6 rfl) rfl 1 rfl ?_
  refine v_iload_n F (dq dkX11_copyOf_1 7 rfl) rfl 2 rfl ?_
  refine v_iload_n F (dq dkX11_copyOf_1 8 rfl) rfl 3 rfl ?_
  refine v_iload F (dq dkX11_copyOf_1 9 rfl) 4 rfl ?_
  obtain ⟨r1, e2, h⟩ := bd_of h
  refine v_callV 3 F (q := 61) (kc1 := 0) (ks1 := 0) (as := [.int a1, .int a2, .int a5]) (st := [.int a5, .ref (K.1 + 62)]) (st1 := (.int r1 :: [.int a5, .ref (K.1 + 62)])) (res := (some (.int r1))) (c_X11_forWish (l := C.2.1) x y a1 a2 a5 e2) (xnM (by decide)) xc_61 rfl (tc36 _ (List.mem_of_getElem? (i := 3) rfl)) (tc36 _ (List.mem_of_getElem? (i := 4) rfl)) (tc36 _ (List.mem_of_getElem? (i := 5) rfl)) (tc1 _ (List.mem_of_getElem? (i := 5) rfl)) (tc36 _ (List.mem_of_getElem? (i := 6) rfl)) (by decide) rfl ⟨rfl, rfl, Nat.le_of_ble_eq_true rfl, Nat.le_of_ble_eq_true rfl⟩ ⟨Nat.le_of_ble_eq_true rfl, Nat.le_of_ble_eq_true rfl⟩ rfl (Nat.le_of_ble_eq_true rfl) rfl rfl rfl (dq dkX11_copyOf_1 10 rfl) ?_
  obtain ⟨g3, h⟩ := gd_of h
  refine v_iast F 62 (xnM (by decide)) xc_62 (ib_in g3) (dq dkX11_copyOf_1 11 rfl) ?_
  refine v_eqM (xwM (q := 62) (j := a5.toNatClampNeg) (v := r1) (by decide) (by decide) rfl) ?_
  refine v_iinc F (v := a5 + 1) (ls' := [(5, .int (a5 + 1)), (4, .int (s1 + s0)), (0, .ref (K.1 + 61)), (1, .int a1), (2, .int a2)]) (dq dkX11_copyOf_1 12 rfl) (j := 4) rfl (kv_add ki_1) (by decide) rfl ?_
  refine v_goto F (tgt := 40) (dq dkX11_copyOf_1 13 rfl) (by decide) ?_
  refine v_sub [2, 3, 4, 1, 0] rfl ?_
  exact hk40 (pi y 62 a5.toNatClampNeg r1) a1 a2 (s1 + s0) (a5 + 1) h
def f_X11_copyOf_40 : Nat → MS → Int32 → Int32 → Int32 → Int32 → Option (Int32 × MS)
  | 0, _, _, _, _, _ => none
  | n + 1, y, a1, a2, a4, a5 => if 9 ≤ a5 then (some (a4, y)) else (gd (ib a5 54) ((f_X11_forWish y a1 a2 a5).bind fun r6 => if (gi y 62 a5.toNatClampNeg) = r6 then (f_X11_copyOf_72 (f_X11_copyOf_40 n) y a1 a2 a5 0 a4) else (f_X11_copyOf_72 (f_X11_copyOf_40 n) y a1 a2 a5 1 a4)))
set_option maxRecDepth 100000 in
set_option maxHeartbeats 4000000 in
theorem t_X11_copyOf_40 {C : Cx} {K : KE} {nn : Nat} {x : CS} {R : Int32 × MS}  (F : Fx C RX11 cX11_copyOf 6 rm_X11_copyOf K) (E : CE C (xfM K nn x R.2) (some (.int R.1)) 0 0 (some .int)) : ∀ (n : Nat) (y : MS) (a1 : Int32) (a2 : Int32) (a4 : Int32) (a5 : Int32) (h : f_X11_copyOf_40 n y a1 a2 a4 a5 = some R), V C 40 [(0, .ref (K.1 + 61)), (1, .int a1), (2, .int a2), (4, .int a4), (5, .int a5)] [] (xfM K nn x y) 0 0 := by
  intro n
  induction n with
  | zero => intro y a1 a2 a4 a5 h; cases h
  | succ n ih =>
    intro y a1 a2 a4 a5 h
    rw [f_X11_copyOf_40] at h
    refine v_iload F (dq dkX11_copyOf_0 24 rfl) 4 rfl ?_
    refine v_bipush F (v := 9) (dq dkX11_copyOf_0 25 rfl) kb_9 ?_
    refine v_icmp_ge F (tgt := 96) (dq dkX11_copyOf_0 26 rfl) (by decide) (fun c4 => ?_) (fun c4 => ?_)
    · rw [if_pos c4] at h
      refine v_iload F (dq dkX11_copyOf_1 14 rfl) 3 rfl ?_
      have h := Option.some.inj h
      subst h
      exact v_iret F E (dq dkX11_copyOf_1 15 rfl)
    · rw [if_neg c4] at h
      refine v_iload F (dq dkX11_copyOf_0 27 rfl) 3 rfl ?_
      refine v_aload_n F (dq dkX11_copyOf_0 28 rfl) rfl 0 rfl ?_
      refine v_get F 61 (xnM (by decide)) xc_61 rfl inlX11 0 (by decide) (tc11 _ (List.mem_of_getElem? (i := 17) rfl)) rfl rfl (dq dkX11_copyOf_0 29 rfl) ?_
      refine v_iload F (dq dkX11_copyOf_0 30 rfl) 4 rfl ?_
      obtain ⟨g5, h⟩ := gd_of h
      refine v_iald F 62 (xnM (by decide)) xc_62 (ib_in g5) (dq dkX11_copyOf_0 31 rfl) ?_
      refine v_aload_n F (dq dkX11_copyOf_0 32 rfl) rfl 0 rfl ?_
      refine v_iload_n F (dq dkX11_copyOf_0 33 rfl) rfl 1 rfl ?_
      refine v_iload_n F (dq dkX11_copyOf_0 34 rfl) rfl 2 rfl ?_
      refine v_iload F (dq dkX11_copyOf_0 35 rfl) 4 rfl ?_
      obtain ⟨r6, e7, h⟩ := bd_of h
      refine v_callV 3 F (q := 61) (kc1 := 0) (ks1 := 0) (as := [.int a1, .int a2, .int a5]) (st := [.int (gi y 62 a5.toNatClampNeg), .int a4]) (st1 := (.int r6 :: [.int (gi y 62 a5.toNatClampNeg), .int a4])) (res := (some (.int r6))) (c_X11_forWish (l := C.2.1) x y a1 a2 a5 e7) (xnM (by decide)) xc_61 rfl (tc36 _ (List.mem_of_getElem? (i := 3) rfl)) (tc36 _ (List.mem_of_getElem? (i := 4) rfl)) (tc36 _ (List.mem_of_getElem? (i := 5) rfl)) (tc1 _ (List.mem_of_getElem? (i := 5) rfl)) (tc36 _ (List.mem_of_getElem? (i := 6) rfl)) (by decide) rfl ⟨rfl, rfl, Nat.le_of_ble_eq_true rfl, Nat.le_of_ble_eq_true rfl⟩ ⟨Nat.le_of_ble_eq_true rfl, Nat.le_of_ble_eq_true rfl⟩ rfl (Nat.le_of_ble_eq_true rfl) rfl rfl rfl (dq dkX11_copyOf_0 36 rfl) ?_
      refine v_icmp_ne F (tgt := 71) (dq dkX11_copyOf_0 37 rfl) (by decide) (fun c8 => ?_) (fun c8 => ?_)
      · rw [if_neg c8] at h
        refine v_iconst F (v := 1) (dq dkX11_copyOf_1 0 rfl) ki_1 ?_
        refine v_sub [0, 1, 2, 4] rfl ?_
        exact t_X11_copyOf_72 (f_X11_copyOf_40 n) y a1 a2 a5 1 a4 ih h F E
      · rw [if_pos c8] at h
        refine v_iconst F (v := 0) (dq dkX11_copyOf_0 38 rfl) ki_0 ?_
        refine v_goto F (tgt := 72) (dq dkX11_copyOf_0 39 rfl) (by decide) ?_
        refine v_sub [0, 1, 2, 4] rfl ?_
        exact t_X11_copyOf_72 (f_X11_copyOf_40 n) y a1 a2 a5 0 a4 ih h F E
def f_X11_copyOf (y : MS) (a1 : Int32) (a2 : Int32) : Option (Int32 × MS) := (f_X11_widthsWrong y a1).bind fun r9 => if r9 = 0 then (if (b2i (f_X11_in a2 0 12)) = 0 then (f_X11_copyOf_31 y) else ((f_X11_canBe y a1 a2).bind fun r14 => if (b2i r14) = 0 then (f_X11_copyOf_31 y) else (f_X11_copyOf_40 1000 y a1 a2 0 0))) else (some (r9, y))
set_option maxRecDepth 100000 in
set_option maxHeartbeats 4000000 in
theorem c_X11_copyOf {K : KE} {l : Launch} {R : Int32 × MS} {nn : Nat} (x : CS) (y : MS) (a1 : Int32) (a2 : Int32) (h : f_X11_copyOf y a1 a2 = some R) : MC K l yX11_copyOf cX11_copyOf 6 (some .int) rm_X11_copyOf 0 0 [.ref (K.1 + 61), .int a1, .int a2] (xfM K nn x y) (xfM K nn x R.2) (some (.int R.1)) := by
  unfold f_X11_copyOf at h
  refine mc_of (ls0 := [(0, .ref (K.1 + 61)), (1, .int a1), (2, .int a2)]) (by decide) (Nat.le_of_ble_eq_true rfl) rfl (fun C hl hnm F E => ?_)
  have F : Fx C RX11 cX11_copyOf 6 rm_X11_copyOf K := F
  refine v_aload_n F (dq dkX11_copyOf_0 0 rfl) rfl 0 rfl ?_
  refine v_iload_n F (dq dkX11_copyOf_0 1 rfl) rfl 1 rfl ?_
  obtain ⟨r9, e10, h⟩ := bd_of h
  refine v_callV 1 F (q := 61) (kc1 := 0) (ks1 := 0) (as := [.int a1]) (st := []) (st1 := (.int r9 :: [])) (res := (some (.int r9))) (c_X11_widthsWrong (l := C.2.1) x y a1 e10) (xnM (by decide)) xc_61 rfl (tc35 _ (List.mem_of_getElem? (i := 23) rfl)) (tc36 _ (List.mem_of_getElem? (i := 0) rfl)) (tc36 _ (List.mem_of_getElem? (i := 1) rfl)) (tc1 _ (List.mem_of_getElem? (i := 5) rfl)) (tc36 _ (List.mem_of_getElem? (i := 2) rfl)) (by decide) rfl ⟨rfl, rfl, Nat.le_of_ble_eq_true rfl, Nat.le_of_ble_eq_true rfl⟩ ⟨Nat.le_of_ble_eq_true rfl, Nat.le_of_ble_eq_true rfl⟩ rfl (Nat.le_of_ble_eq_true rfl) rfl rfl rfl (dq dkX11_copyOf_0 2 rfl) ?_
  refine v_istore_n F (ls' := [(3, .int r9), (0, .ref (K.1 + 61)), (1, .int a1), (2, .int a2)]) (dq dkX11_copyOf_0 3 rfl) rfl (by decide) rfl ?_
  refine v_iload_n F (dq dkX11_copyOf_0 4 rfl) rfl 0 rfl ?_
  refine v_if_eq F (tgt := 12) (dq dkX11_copyOf_0 5 rfl) (by decide) (fun c11 => ?_) (fun c11 => ?_)
  · rw [if_pos c11] at h
    refine v_iload_n F (dq dkX11_copyOf_0 8 rfl) rfl 3 rfl ?_
    refine v_iconst F (v := 0) (dq dkX11_copyOf_0 9 rfl) ki_0 ?_
    refine v_bipush F (v := 12) (dq dkX11_copyOf_0 10 rfl) kb_12 ?_
    refine v_callS 3 F (kc1 := 0) (ks1 := 0) (as := [.int a2, .int 0, .int 12]) (st := []) (st1 := (.int (b2i (f_X11_in a2 0 12)) :: [])) (res := (some (.int (b2i (f_X11_in a2 0 12))))) (c_X11_in (l := C.2.1) a2 0 12) (tc15 _ (List.mem_of_getElem? (i := 1) rfl)) (tc15 _ (List.mem_of_getElem? (i := 2) rfl)) (tc1 _ (List.mem_of_getElem? (i := 5) rfl)) (tc15 _ (List.mem_of_getElem? (i := 3) rfl)) (by decide) rfl ⟨rfl, rfl, Nat.le_of_ble_eq_true rfl, Nat.le_of_ble_eq_true rfl⟩ ⟨Nat.le_of_ble_eq_true rfl, Nat.le_of_ble_eq_true rfl⟩ rfl (Nat.le_of_ble_eq_true rfl) rfl rfl rfl (dq dkX11_copyOf_0 11 rfl) ?_
    refine v_if_eq F (tgt := 31) (dq dkX11_copyOf_0 12 rfl) (by decide) (fun c13 => ?_) (fun c13 => ?_)
    · rw [if_pos c13] at h
      refine v_sub [] rfl ?_
      exact t_X11_copyOf_31 y h F E
    · rw [if_neg c13] at h
      refine v_aload_n F (dq dkX11_copyOf_0 13 rfl) rfl 1 rfl ?_
      refine v_iload_n F (dq dkX11_copyOf_0 14 rfl) rfl 2 rfl ?_
      refine v_iload_n F (dq dkX11_copyOf_0 15 rfl) rfl 3 rfl ?_
      obtain ⟨r14, e15, h⟩ := bd_of h
      refine v_callV 2 F (q := 61) (kc1 := 0) (ks1 := 0) (as := [.int a1, .int a2]) (st := []) (st1 := (.int (b2i r14) :: [])) (res := (some (.int (b2i r14)))) (c_X11_canBe (l := C.2.1) x y a1 a2 e15) (xnM (by decide)) xc_61 rfl (tc36 _ (List.mem_of_getElem? (i := 21) rfl)) (tc36 _ (List.mem_of_getElem? (i := 22) rfl)) (tc36 _ (List.mem_of_getElem? (i := 23) rfl)) (tc1 _ (List.mem_of_getElem? (i := 5) rfl)) (tc37 _ (List.mem_of_getElem? (i := 0) rfl)) (by decide) rfl ⟨rfl, rfl, Nat.le_of_ble_eq_true rfl, Nat.le_of_ble_eq_true rfl⟩ ⟨Nat.le_of_ble_eq_true rfl, Nat.le_of_ble_eq_true rfl⟩ rfl (Nat.le_of_ble_eq_true rfl) rfl rfl rfl (dq dkX11_copyOf_0 16 rfl) ?_
      refine v_if_ne F (tgt := 34) (dq dkX11_copyOf_0 17 rfl) (by decide) (fun c16 => ?_) (fun c16 => ?_)
      · rw [if_neg c16] at h
        refine v_iconst F (v := 0) (dq dkX11_copyOf_0 20 rfl) ki_0 ?_
        refine v_istore F (ls' := [(4, .int 0), (3, .int r9), (0, .ref (K.1 + 61)), (1, .int a1), (2, .int a2)]) (dq dkX11_copyOf_0 21 rfl) (by decide) rfl ?_
        refine v_iconst F (v := 0) (dq dkX11_copyOf_0 22 rfl) ki_0 ?_
        refine v_istore F (ls' := [(5, .int 0), (4, .int 0), (3, .int r9), (0, .ref (K.1 + 61)), (1, .int a1), (2, .int a2)]) (dq dkX11_copyOf_0 23 rfl) (by decide) rfl ?_
        refine v_sub [3, 4, 5, 1, 0] rfl ?_
        exact t_X11_copyOf_40 F E 1000 y a1 a2 0 0 h
      · rw [if_pos c16] at h
        refine v_sub [] rfl ?_
        exact t_X11_copyOf_31 y h F E
  · rw [if_neg c11] at h
    refine v_iload_n F (dq dkX11_copyOf_0 6 rfl) rfl 0 rfl ?_
    have h := Option.some.inj h
    subst h
    exact v_iret F E (dq dkX11_copyOf_0 7 rfl)
def rm_X11_even : Room := { frames := 4, cells := 0, slots := 0, locals := 102 }
def f_X11_even_94 (k29 : MS → Int32 → Int32 → Int32 → Int32 → Option (Int32 × MS)) (y : MS) (a1 : Int32) (a2 : Int32) (a4 : Int32) (s0 : Int32) : Option (Int32 × MS) := k29 y a1 a2 s0 (a4 + 1)
set_option maxRecDepth 100000 in
set_option maxHeartbeats 4000000 in
theorem t_X11_even_94 {C : Cx} {K : KE} {nn : Nat} {x : CS} {R : Int32 × MS}  (k29 : MS → Int32 → Int32 → Int32 → Int32 → Option (Int32 × MS)) (y : MS) (a1 : Int32) (a2 : Int32) (a4 : Int32) (s0 : Int32) (hk29 : ∀ (y : MS) (a1 : Int32) (a2 : Int32) (a3 : Int32) (a4 : Int32), k29 y a1 a2 a3 a4 = some R → V C 29 [(0, .ref (K.1 + 61)), (1, .int a1), (2, .int a2), (3, .int a3), (4, .int a4)] [] (xfM K nn x y) 0 0) (h : f_X11_even_94 k29 y a1 a2 a4 s0 = some R) (F : Fx C RX11 cX11_even 6 rm_X11_even K) (E : CE C (xfM K nn x R.2) (some (.int R.1)) 0 0 (some .int)) : V C 94 [(0, .ref (K.1 + 61)), (1, .int a1), (2, .int a2), (4, .int a4)] [.int s0] (xfM K nn x y) 0 0 := by
  unfold f_X11_even_94 at h
  refine v_istore_n F (ls' := [(3, .int s0), (0, .ref (K.1 + 61)), (1, .int a1), (2, .int a2), (4, .int a4)]) (dq dkX11_even_1 13 rfl) rfl (by decide) rfl ?_
  refine v_iinc F (v := a4 + 1) (ls' := [(4, .int (a4 + 1)), (3, .int s0), (0, .ref (K.1 + 61)), (1, .int a1), (2, .int a2)]) (dq dkX11_even_1 14 rfl) (j := 4) rfl (kv_add ki_1) (by decide) rfl ?_
  refine v_goto F (tgt := 29) (dq dkX11_even_1 15 rfl) (by decide) ?_
  refine v_sub [2, 3, 4, 1, 0] rfl ?_
  exact hk29 y a1 a2 s0 (a4 + 1) h
def f_X11_even_29 : Nat → MS → Int32 → Int32 → Int32 → Int32 → Option (Int32 × MS)
  | 0, _, _, _, _, _ => none
  | n + 1, y, a1, a2, a3, a4 => if 20 < a4 then (some (a3, y)) else (gd (ib a1 54) ((f_X11_knotOf y a1).bind fun r3 => (f_X11_says y 1 a4 (gi y 62 a1.toNatClampNeg) r3).bind fun r5 => gd (ib a1 54) ((f_X11_knotOf r5.2 a1).bind fun r9 => (f_X11_says r5.2 1 a3 (gi r5.2 62 a1.toNatClampNeg) r9).bind fun r11 => if (f_X11_size (r11.1 - a2)) ≤ (f_X11_size (r5.1 - a2)) then (f_X11_even_94 (f_X11_even_29 n) r11.2 a1 a2 a4 a3) else (f_X11_even_94 (f_X11_even_29 n) r11.2 a1 a2 a4 a4))))
set_option maxRecDepth 100000 in
set_option maxHeartbeats 4000000 in
theorem t_X11_even_29 {C : Cx} {K : KE} {nn : Nat} {x : CS} {R : Int32 × MS}  (F : Fx C RX11 cX11_even 6 rm_X11_even K) (E : CE C (xfM K nn x R.2) (some (.int R.1)) 0 0 (some .int)) : ∀ (n : Nat) (y : MS) (a1 : Int32) (a2 : Int32) (a3 : Int32) (a4 : Int32) (h : f_X11_even_29 n y a1 a2 a3 a4 = some R), V C 29 [(0, .ref (K.1 + 61)), (1, .int a1), (2, .int a2), (3, .int a3), (4, .int a4)] [] (xfM K nn x y) 0 0 := by
  intro n
  induction n with
  | zero => intro y a1 a2 a3 a4 h; cases h
  | succ n ih =>
    intro y a1 a2 a3 a4 h
    rw [f_X11_even_29] at h
    refine v_iload F (dq dkX11_even_0 16 rfl) 4 rfl ?_
    refine v_bipush F (v := 20) (dq dkX11_even_0 17 rfl) kb_20 ?_
    refine v_icmp_gt F (tgt := 101) (dq dkX11_even_0 18 rfl) (by decide) (fun c1 => ?_) (fun c1 => ?_)
    · rw [if_pos c1] at h
      refine v_iload_n F (dq dkX11_even_1 16 rfl) rfl 3 rfl ?_
      have h := Option.some.inj h
      subst h
      exact v_iret F E (dq dkX11_even_1 17 rfl)
    · rw [if_neg c1] at h
      refine v_aload_n F (dq dkX11_even_0 19 rfl) rfl 0 rfl ?_
      refine v_iconst F (v := 1) (dq dkX11_even_0 20 rfl) ki_1 ?_
      refine v_iload F (dq dkX11_even_0 21 rfl) 4 rfl ?_
      refine v_aload_n F (dq dkX11_even_0 22 rfl) rfl 0 rfl ?_
      refine v_get F 61 (xnM (by decide)) xc_61 rfl inlX11 0 (by decide) (tc11 _ (List.mem_of_getElem? (i := 17) rfl)) rfl rfl (dq dkX11_even_0 23 rfl) ?_
      refine v_iload_n F (dq dkX11_even_0 24 rfl) rfl 1 rfl ?_
      obtain ⟨g2, h⟩ := gd_of h
      refine v_iald F 62 (xnM (by decide)) xc_62 (ib_in g2) (dq dkX11_even_0 25 rfl) ?_
      refine v_aload_n F (dq dkX11_even_0 26 rfl) rfl 0 rfl ?_
      refine v_iload_n F (dq dkX11_even_0 27 rfl) rfl 1 rfl ?_
      obtain ⟨r3, e4, h⟩ := bd_of h
      refine v_callV 1 F (q := 61) (kc1 := 0) (ks1 := 0) (as := [.int a1]) (st := [.int (gi y 62 a1.toNatClampNeg), .int a4, .int 1, .ref (K.1 + 61)]) (st1 := (.int r3 :: [.int (gi y 62 a1.toNatClampNeg), .int a4, .int 1, .ref (K.1 + 61)])) (res := (some (.int r3))) (c_X11_knotOf (l := C.2.1) x y a1 e4) (xnM (by decide)) xc_61 rfl (tc28 _ (List.mem_of_getElem? (i := 15) rfl)) (tc28 _ (List.mem_of_getElem? (i := 16) rfl)) (tc28 _ (List.mem_of_getElem? (i := 17) rfl)) (tc1 _ (List.mem_of_getElem? (i := 5) rfl)) (tc28 _ (List.mem_of_getElem? (i := 18) rfl)) (by decide) rfl ⟨rfl, rfl, Nat.le_of_ble_eq_true rfl, Nat.le_of_ble_eq_true rfl⟩ ⟨Nat.le_of_ble_eq_true rfl, Nat.le_of_ble_eq_true rfl⟩ rfl (Nat.le_of_ble_eq_true rfl) rfl rfl rfl (dq dkX11_even_0 28 rfl) ?_
      obtain ⟨r5, e6, h⟩ := bd_of h
      refine v_callV 4 F (q := 61) (kc1 := 0) (ks1 := 0) (as := [.int 1, .int a4, .int (gi y 62 a1.toNatClampNeg), .int r3]) (st := []) (st1 := (.int r5.1 :: [])) (res := (some (.int r5.1))) (c_X11_says (l := C.2.1) x y 1 a4 (gi y 62 a1.toNatClampNeg) r3 e6) (xnM (by decide)) xc_61 rfl (tc21 _ (List.mem_of_getElem? (i := 17) rfl)) (tc21 _ (List.mem_of_getElem? (i := 18) rfl)) (tc21 _ (List.mem_of_getElem? (i := 19) rfl)) (tc1 _ (List.mem_of_getElem? (i := 5) rfl)) (tc21 _ (List.mem_of_getElem? (i := 20) rfl)) (by decide) rfl ⟨rfl, rfl, Nat.le_of_ble_eq_true rfl, Nat.le_of_ble_eq_true rfl⟩ ⟨Nat.le_of_ble_eq_true rfl, Nat.le_of_ble_eq_true rfl⟩ rfl (Nat.le_of_ble_eq_true rfl) rfl rfl rfl (dq dkX11_even_0 29 rfl) ?_
      refine v_iload_n F (dq dkX11_even_0 30 rfl) rfl 2 rfl ?_
      refine v_isub F (dq dkX11_even_0 31 rfl) ?_
      refine v_callS 1 F (kc1 := 0) (ks1 := 0) (as := [.int (r5.1 - a2)]) (st := []) (st1 := (.int (f_X11_size (r5.1 - a2)) :: [])) (res := (some (.int (f_X11_size (r5.1 - a2))))) (c_X11_size (l := C.2.1) (r5.1 - a2)) (tc29 _ (List.mem_of_getElem? (i := 9) rfl)) (tc29 _ (List.mem_of_getElem? (i := 10) rfl)) (tc1 _ (List.mem_of_getElem? (i := 5) rfl)) (tc29 _ (List.mem_of_getElem? (i := 11) rfl)) (by decide) rfl ⟨rfl, rfl, Nat.le_of_ble_eq_true rfl, Nat.le_of_ble_eq_true rfl⟩ ⟨Nat.le_of_ble_eq_true rfl, Nat.le_of_ble_eq_true rfl⟩ rfl (Nat.le_of_ble_eq_true rfl) rfl rfl rfl (dq dkX11_even_0 32 rfl) ?_
      refine v_istore F (ls' := [(5, .int (f_X11_size (r5.1 - a2))), (0, .ref (K.1 + 61)), (1, .int a1), (2, .int a2), (3, .int a3), (4, .int a4)]) (dq dkX11_even_0 33 rfl) (by decide) rfl ?_
      refine v_iload F (dq dkX11_even_0 34 rfl) 0 rfl ?_
      refine v_aload_n F (dq dkX11_even_0 35 rfl) rfl 1 rfl ?_
      refine v_iconst F (v := 1) (dq dkX11_even_0 36 rfl) ki_1 ?_
      refine v_iload_n F (dq dkX11_even_0 37 rfl) rfl 4 rfl ?_
      refine v_aload_n F (dq dkX11_even_0 38 rfl) rfl 1 rfl ?_
      refine v_get F 61 (xnM (by decide)) xc_61 rfl inlX11 0 (by decide) (tc11 _ (List.mem_of_getElem? (i := 17) rfl)) rfl rfl (dq dkX11_even_0 39 rfl) ?_
      refine v_iload_n F (dq dkX11_even_1 0 rfl) rfl 2 rfl ?_
      obtain ⟨g8, h⟩ := gd_of h
      refine v_iald F 62 (xnM (by decide)) xc_62 (ib_in g8) (dq dkX11_even_1 1 rfl) ?_
      refine v_aload_n F (dq dkX11_even_1 2 rfl) rfl 1 rfl ?_
      refine v_iload_n F (dq dkX11_even_1 3 rfl) rfl 2 rfl ?_
      obtain ⟨r9, e10, h⟩ := bd_of h
      refine v_callV 1 F (q := 61) (kc1 := 0) (ks1 := 0) (as := [.int a1]) (st := [.int (gi r5.2 62 a1.toNatClampNeg), .int a3, .int 1, .ref (K.1 + 61), .int (f_X11_size (r5.1 - a2))]) (st1 := (.int r9 :: [.int (gi r5.2 62 a1.toNatClampNeg), .int a3, .int 1, .ref (K.1 + 61), .int (f_X11_size (r5.1 - a2))])) (res := (some (.int r9))) (c_X11_knotOf (l := C.2.1) x r5.2 a1 e10) (xnM (by decide)) xc_61 rfl (tc28 _ (List.mem_of_getElem? (i := 15) rfl)) (tc28 _ (List.mem_of_getElem? (i := 16) rfl)) (tc28 _ (List.mem_of_getElem? (i := 17) rfl)) (tc1 _ (List.mem_of_getElem? (i := 5) rfl)) (tc28 _ (List.mem_of_getElem? (i := 18) rfl)) (by decide) rfl ⟨rfl, rfl, Nat.le_of_ble_eq_true rfl, Nat.le_of_ble_eq_true rfl⟩ ⟨Nat.le_of_ble_eq_true rfl, Nat.le_of_ble_eq_true rfl⟩ rfl (Nat.le_of_ble_eq_true rfl) rfl rfl rfl (dq dkX11_even_1 4 rfl) ?_
      obtain ⟨r11, e12, h⟩ := bd_of h
      refine v_callV 4 F (q := 61) (kc1 := 0) (ks1 := 0) (as := [.int 1, .int a3, .int (gi r5.2 62 a1.toNatClampNeg), .int r9]) (st := [.int (f_X11_size (r5.1 - a2))]) (st1 := (.int r11.1 :: [.int (f_X11_size (r5.1 - a2))])) (res := (some (.int r11.1))) (c_X11_says (l := C.2.1) x r5.2 1 a3 (gi r5.2 62 a1.toNatClampNeg) r9 e12) (xnM (by decide)) xc_61 rfl (tc21 _ (List.mem_of_getElem? (i := 17) rfl)) (tc21 _ (List.mem_of_getElem? (i := 18) rfl)) (tc21 _ (List.mem_of_getElem? (i := 19) rfl)) (tc1 _ (List.mem_of_getElem? (i := 5) rfl)) (tc21 _ (List.mem_of_getElem? (i := 20) rfl)) (by decide) rfl ⟨rfl, rfl, Nat.le_of_ble_eq_true rfl, Nat.le_of_ble_eq_true rfl⟩ ⟨Nat.le_of_ble_eq_true rfl, Nat.le_of_ble_eq_true rfl⟩ rfl (Nat.le_of_ble_eq_true rfl) rfl rfl rfl (dq dkX11_even_1 5 rfl) ?_
      refine v_iload_n F (dq dkX11_even_1 6 rfl) rfl 3 rfl ?_
      refine v_isub F (dq dkX11_even_1 7 rfl) ?_
      refine v_callS 1 F (kc1 := 0) (ks1 := 0) (as := [.int (r11.1 - a2)]) (st := [.int (f_X11_size (r5.1 - a2))]) (st1 := (.int (f_X11_size (r11.1 - a2)) :: [.int (f_X11_size (r5.1 - a2))])) (res := (some (.int (f_X11_size (r11.1 - a2))))) (c_X11_size (l := C.2.1) (r11.1 - a2)) (tc29 _ (List.mem_of_getElem? (i := 9) rfl)) (tc29 _ (List.mem_of_getElem? (i := 10) rfl)) (tc1 _ (List.mem_of_getElem? (i := 5) rfl)) (tc29 _ (List.mem_of_getElem? (i := 11) rfl)) (by decide) rfl ⟨rfl, rfl, Nat.le_of_ble_eq_true rfl, Nat.le_of_ble_eq_true rfl⟩ ⟨Nat.le_of_ble_eq_true rfl, Nat.le_of_ble_eq_true rfl⟩ rfl (Nat.le_of_ble_eq_true rfl) rfl rfl rfl (dq dkX11_even_1 8 rfl) ?_
      refine v_icmp_ge F (tgt := 93) (dq dkX11_even_1 9 rfl) (by decide) (fun c14 => ?_) (fun c14 => ?_)
      · rw [if_pos c14] at h
        refine v_iload_n F (dq dkX11_even_1 12 rfl) rfl 4 rfl ?_
        refine v_sub [1, 2, 3, 5] rfl ?_
        exact t_X11_even_94 (f_X11_even_29 n) r11.2 a1 a2 a4 a3 ih h F E
      · rw [if_neg c14] at h
        refine v_iload F (dq dkX11_even_1 10 rfl) 5 rfl ?_
        refine v_goto F (tgt := 94) (dq dkX11_even_1 11 rfl) (by decide) ?_
        refine v_sub [1, 2, 3, 5] rfl ?_
        exact t_X11_even_94 (f_X11_even_29 n) r11.2 a1 a2 a4 a4 ih h F E
def f_X11_even (y : MS) (a1 : Int32) (a2 : Int32) : Option (Int32 × MS) := if (b2i (f_X11_isSection a1)) = 0 then (some ((-5), y)) else (if (b2i (f_X11_in a2 0 999)) = 0 then (some ((-7), y)) else (f_X11_even_29 1000 y a1 a2 1 2))
set_option maxRecDepth 100000 in
set_option maxHeartbeats 4000000 in
theorem c_X11_even {K : KE} {l : Launch} {R : Int32 × MS} {nn : Nat} (x : CS) (y : MS) (a1 : Int32) (a2 : Int32) (h : f_X11_even y a1 a2 = some R) : MC K l yX11_even cX11_even 6 (some .int) rm_X11_even 0 0 [.ref (K.1 + 61), .int a1, .int a2] (xfM K nn x y) (xfM K nn x R.2) (some (.int R.1)) := by
  unfold f_X11_even at h
  refine mc_of (ls0 := [(0, .ref (K.1 + 61)), (1, .int a1), (2, .int a2)]) (by decide) (Nat.le_of_ble_eq_true rfl) rfl (fun C hl hnm F E => ?_)
  have F : Fx C RX11 cX11_even 6 rm_X11_even K := F
  refine v_iload_n F (dq dkX11_even_0 0 rfl) rfl 1 rfl ?_
  refine v_callS 1 F (kc1 := 0) (ks1 := 0) (as := [.int a1]) (st := []) (st1 := (.int (b2i (f_X11_isSection a1)) :: [])) (res := (some (.int (b2i (f_X11_isSection a1))))) (c_X11_isSection (l := C.2.1) a1) (tc14 _ (List.mem_of_getElem? (i := 22) rfl)) (tc14 _ (List.mem_of_getElem? (i := 23) rfl)) (tc1 _ (List.mem_of_getElem? (i := 5) rfl)) (tc15 _ (List.mem_of_getElem? (i := 0) rfl)) (by decide) rfl ⟨rfl, rfl, Nat.le_of_ble_eq_true rfl, Nat.le_of_ble_eq_true rfl⟩ ⟨Nat.le_of_ble_eq_true rfl, Nat.le_of_ble_eq_true rfl⟩ rfl (Nat.le_of_ble_eq_true rfl) rfl rfl rfl (dq dkX11_even_0 1 rfl) ?_
  refine v_if_ne F (tgt := 10) (dq dkX11_even_0 2 rfl) (by decide) (fun c16 => ?_) (fun c16 => ?_)
  · rw [if_neg c16] at h
    refine v_iload_n F (dq dkX11_even_0 5 rfl) rfl 2 rfl ?_
    refine v_iconst F (v := 0) (dq dkX11_even_0 6 rfl) ki_0 ?_
    refine v_sipush F (v := 999) (dq dkX11_even_0 7 rfl) ks_999 ?_
    refine v_callS 3 F (kc1 := 0) (ks1 := 0) (as := [.int a2, .int 0, .int 999]) (st := []) (st1 := (.int (b2i (f_X11_in a2 0 999)) :: [])) (res := (some (.int (b2i (f_X11_in a2 0 999))))) (c_X11_in (l := C.2.1) a2 0 999) (tc15 _ (List.mem_of_getElem? (i := 1) rfl)) (tc15 _ (List.mem_of_getElem? (i := 2) rfl)) (tc1 _ (List.mem_of_getElem? (i := 5) rfl)) (tc15 _ (List.mem_of_getElem? (i := 3) rfl)) (by decide) rfl ⟨rfl, rfl, Nat.le_of_ble_eq_true rfl, Nat.le_of_ble_eq_true rfl⟩ ⟨Nat.le_of_ble_eq_true rfl, Nat.le_of_ble_eq_true rfl⟩ rfl (Nat.le_of_ble_eq_true rfl) rfl rfl rfl (dq dkX11_even_0 8 rfl) ?_
    refine v_if_ne F (tgt := 24) (dq dkX11_even_0 9 rfl) (by decide) (fun c18 => ?_) (fun c18 => ?_)
    · rw [if_neg c18] at h
      refine v_iconst F (v := 1) (dq dkX11_even_0 12 rfl) ki_1 ?_
      refine v_istore_n F (ls' := [(3, .int 1), (0, .ref (K.1 + 61)), (1, .int a1), (2, .int a2)]) (dq dkX11_even_0 13 rfl) rfl (by decide) rfl ?_
      refine v_iconst F (v := 2) (dq dkX11_even_0 14 rfl) ki_2 ?_
      refine v_istore F (ls' := [(4, .int 2), (3, .int 1), (0, .ref (K.1 + 61)), (1, .int a1), (2, .int a2)]) (dq dkX11_even_0 15 rfl) (by decide) rfl ?_
      refine v_sub [2, 3, 4, 1, 0] rfl ?_
      exact t_X11_even_29 F E 1000 y a1 a2 1 2 h
    · rw [if_pos c18] at h
      refine v_bipush F (v := (-7)) (dq dkX11_even_0 10 rfl) kb_m7 ?_
      have h := Option.some.inj h
      subst h
      exact v_iret F E (dq dkX11_even_0 11 rfl)
  · rw [if_pos c16] at h
    refine v_bipush F (v := (-5)) (dq dkX11_even_0 3 rfl) kb_m5 ?_
    have h := Option.some.inj h
    subst h
    exact v_iret F E (dq dkX11_even_0 4 rfl)
def rm_X11_behind : Room := { frames := 4, cells := 0, slots := 0, locals := 102 }
def f_X11_behind_48 (k13 : MS → Int32 → Int32 → Int32 → Int32 → Option (Int32 × MS)) (y : MS) (a1 : Int32) (a2 : Int32) (a4 : Int32) (s0 : Int32) : Option (Int32 × MS) := k13 y a1 a2 s0 (a4 + 1)
set_option maxRecDepth 100000 in
set_option maxHeartbeats 4000000 in
theorem t_X11_behind_48 {C : Cx} {K : KE} {nn : Nat} {x : CS} {R : Int32 × MS}  (k13 : MS → Int32 → Int32 → Int32 → Int32 → Option (Int32 × MS)) (y : MS) (a1 : Int32) (a2 : Int32) (a4 : Int32) (s0 : Int32) (hk13 : ∀ (y : MS) (a1 : Int32) (a2 : Int32) (a3 : Int32) (a4 : Int32), k13 y a1 a2 a3 a4 = some R → V C 13 [(0, .ref (K.1 + 61)), (1, .int a1), (2, .int a2), (3, .int a3), (4, .int a4)] [] (xfM K nn x y) 0 0) (h : f_X11_behind_48 k13 y a1 a2 a4 s0 = some R) (F : Fx C RX11 cX11_behind 5 rm_X11_behind K) (E : CE C (xfM K nn x R.2) (some (.int R.1)) 0 0 (some .int)) : V C 48 [(0, .ref (K.1 + 61)), (1, .int a1), (2, .int a2), (4, .int a4)] [.int s0] (xfM K nn x y) 0 0 := by
  unfold f_X11_behind_48 at h
  refine v_istore_n F (ls' := [(3, .int s0), (0, .ref (K.1 + 61)), (1, .int a1), (2, .int a2), (4, .int a4)]) (dq dkX11_behind_0 31 rfl) rfl (by decide) rfl ?_
  refine v_iinc F (v := a4 + 1) (ls' := [(4, .int (a4 + 1)), (3, .int s0), (0, .ref (K.1 + 61)), (1, .int a1), (2, .int a2)]) (dq dkX11_behind_0 32 rfl) (j := 4) rfl (kv_add ki_1) (by decide) rfl ?_
  refine v_goto F (tgt := 13) (dq dkX11_behind_0 33 rfl) (by decide) ?_
  refine v_sub [2, 3, 4, 1, 0] rfl ?_
  exact hk13 y a1 a2 s0 (a4 + 1) h
def f_X11_behind_13 : Nat → MS → Int32 → Int32 → Int32 → Int32 → Option (Int32 × MS)
  | 0, _, _, _, _, _ => none
  | n + 1, y, a1, a2, a3, a4 => if a2 ≤ a4 then (some (a3, y)) else (gd (ib a1 54) ((f_X11_knotOf y a1).bind fun r3 => (f_X11_says y 0 a3 (gi y 62 a1.toNatClampNeg) r3).bind fun r5 => if 0 ≤ (a3 - r5.1) then (f_X11_behind_48 (f_X11_behind_13 n) r5.2 a1 a2 a4 (a3 - r5.1)) else (f_X11_behind_48 (f_X11_behind_13 n) r5.2 a1 a2 a4 0)))
set_option maxRecDepth 100000 in
set_option maxHeartbeats 4000000 in
theorem t_X11_behind_13 {C : Cx} {K : KE} {nn : Nat} {x : CS} {R : Int32 × MS}  (F : Fx C RX11 cX11_behind 5 rm_X11_behind K) (E : CE C (xfM K nn x R.2) (some (.int R.1)) 0 0 (some .int)) : ∀ (n : Nat) (y : MS) (a1 : Int32) (a2 : Int32) (a3 : Int32) (a4 : Int32) (h : f_X11_behind_13 n y a1 a2 a3 a4 = some R), V C 13 [(0, .ref (K.1 + 61)), (1, .int a1), (2, .int a2), (3, .int a3), (4, .int a4)] [] (xfM K nn x y) 0 0 := by
  intro n
  induction n with
  | zero => intro y a1 a2 a3 a4 h; cases h
  | succ n ih =>
    intro y a1 a2 a3 a4 h
    rw [f_X11_behind_13] at h
    refine v_iload F (dq dkX11_behind_0 9 rfl) 4 rfl ?_
    refine v_iload_n F (dq dkX11_behind_0 10 rfl) rfl 2 rfl ?_
    refine v_icmp_ge F (tgt := 55) (dq dkX11_behind_0 11 rfl) (by decide) (fun c1 => ?_) (fun c1 => ?_)
    · rw [if_pos c1] at h
      refine v_iload_n F (dq dkX11_behind_0 34 rfl) rfl 3 rfl ?_
      have h := Option.some.inj h
      subst h
      exact v_iret F E (dq dkX11_behind_0 35 rfl)
    · rw [if_neg c1] at h
      refine v_iload_n F (dq dkX11_behind_0 12 rfl) rfl 3 rfl ?_
      refine v_aload_n F (dq dkX11_behind_0 13 rfl) rfl 0 rfl ?_
      refine v_iconst F (v := 0) (dq dkX11_behind_0 14 rfl) ki_0 ?_
      refine v_iload_n F (dq dkX11_behind_0 15 rfl) rfl 3 rfl ?_
      refine v_aload_n F (dq dkX11_behind_0 16 rfl) rfl 0 rfl ?_
      refine v_get F 61 (xnM (by decide)) xc_61 rfl inlX11 0 (by decide) (tc11 _ (List.mem_of_getElem? (i := 17) rfl)) rfl rfl (dq dkX11_behind_0 17 rfl) ?_
      refine v_iload_n F (dq dkX11_behind_0 18 rfl) rfl 1 rfl ?_
      obtain ⟨g2, h⟩ := gd_of h
      refine v_iald F 62 (xnM (by decide)) xc_62 (ib_in g2) (dq dkX11_behind_0 19 rfl) ?_
      refine v_aload_n F (dq dkX11_behind_0 20 rfl) rfl 0 rfl ?_
      refine v_iload_n F (dq dkX11_behind_0 21 rfl) rfl 1 rfl ?_
      obtain ⟨r3, e4, h⟩ := bd_of h
      refine v_callV 1 F (q := 61) (kc1 := 0) (ks1 := 0) (as := [.int a1]) (st := [.int (gi y 62 a1.toNatClampNeg), .int a3, .int 0, .ref (K.1 + 61), .int a3]) (st1 := (.int r3 :: [.int (gi y 62 a1.toNatClampNeg), .int a3, .int 0, .ref (K.1 + 61), .int a3])) (res := (some (.int r3))) (c_X11_knotOf (l := C.2.1) x y a1 e4) (xnM (by decide)) xc_61 rfl (tc28 _ (List.mem_of_getElem? (i := 15) rfl)) (tc28 _ (List.mem_of_getElem? (i := 16) rfl)) (tc28 _ (List.mem_of_getElem? (i := 17) rfl)) (tc1 _ (List.mem_of_getElem? (i := 5) rfl)) (tc28 _ (List.mem_of_getElem? (i := 18) rfl)) (by decide) rfl ⟨rfl, rfl, Nat.le_of_ble_eq_true rfl, Nat.le_of_ble_eq_true rfl⟩ ⟨Nat.le_of_ble_eq_true rfl, Nat.le_of_ble_eq_true rfl⟩ rfl (Nat.le_of_ble_eq_true rfl) rfl rfl rfl (dq dkX11_behind_0 22 rfl) ?_
      obtain ⟨r5, e6, h⟩ := bd_of h
      refine v_callV 4 F (q := 61) (kc1 := 0) (ks1 := 0) (as := [.int 0, .int a3, .int (gi y 62 a1.toNatClampNeg), .int r3]) (st := [.int a3]) (st1 := (.int r5.1 :: [.int a3])) (res := (some (.int r5.1))) (c_X11_says (l := C.2.1) x y 0 a3 (gi y 62 a1.toNatClampNeg) r3 e6) (xnM (by decide)) xc_61 rfl (tc21 _ (List.mem_of_getElem? (i := 17) rfl)) (tc21 _ (List.mem_of_getElem? (i := 18) rfl)) (tc21 _ (List.mem_of_getElem? (i := 19) rfl)) (tc1 _ (List.mem_of_getElem? (i := 5) rfl)) (tc21 _ (List.mem_of_getElem? (i := 20) rfl)) (by decide) rfl ⟨rfl, rfl, Nat.le_of_ble_eq_true rfl, Nat.le_of_ble_eq_true rfl⟩ ⟨Nat.le_of_ble_eq_true rfl, Nat.le_of_ble_eq_true rfl⟩ rfl (Nat.le_of_ble_eq_true rfl) rfl rfl rfl (dq dkX11_behind_0 23 rfl) ?_
      refine v_isub F (dq dkX11_behind_0 24 rfl) ?_
      refine v_istore_n F (ls' := [(3, .int (a3 - r5.1)), (0, .ref (K.1 + 61)), (1, .int a1), (2, .int a2), (4, .int a4)]) (dq dkX11_behind_0 25 rfl) rfl (by decide) rfl ?_
      refine v_iload_n F (dq dkX11_behind_0 26 rfl) rfl 0 rfl ?_
      refine v_if_ge F (tgt := 47) (dq dkX11_behind_0 27 rfl) (by decide) (fun c7 => ?_) (fun c7 => ?_)
      · rw [if_pos c7] at h
        refine v_iload_n F (dq dkX11_behind_0 30 rfl) rfl 0 rfl ?_
        refine v_sub [1, 2, 3, 4] rfl ?_
        exact t_X11_behind_48 (f_X11_behind_13 n) r5.2 a1 a2 a4 (a3 - r5.1) ih h F E
      · rw [if_neg c7] at h
        refine v_iconst F (v := 0) (dq dkX11_behind_0 28 rfl) ki_0 ?_
        refine v_goto F (tgt := 48) (dq dkX11_behind_0 29 rfl) (by decide) ?_
        refine v_sub [1, 2, 3, 4] rfl ?_
        exact t_X11_behind_48 (f_X11_behind_13 n) r5.2 a1 a2 a4 0 ih h F E
def f_X11_behind (y : MS) (a1 : Int32) (a2 : Int32) : Option (Int32 × MS) := gd (ib (9 + a1) 54) (f_X11_behind_13 1000 y a1 a2 (gi y 62 (9 + a1).toNatClampNeg) 0)
set_option maxRecDepth 100000 in
set_option maxHeartbeats 4000000 in
theorem c_X11_behind {K : KE} {l : Launch} {R : Int32 × MS} {nn : Nat} (x : CS) (y : MS) (a1 : Int32) (a2 : Int32) (h : f_X11_behind y a1 a2 = some R) : MC K l yX11_behind cX11_behind 5 (some .int) rm_X11_behind 0 0 [.ref (K.1 + 61), .int a1, .int a2] (xfM K nn x y) (xfM K nn x R.2) (some (.int R.1)) := by
  unfold f_X11_behind at h
  refine mc_of (ls0 := [(0, .ref (K.1 + 61)), (1, .int a1), (2, .int a2)]) (by decide) (Nat.le_of_ble_eq_true rfl) rfl (fun C hl hnm F E => ?_)
  have F : Fx C RX11 cX11_behind 5 rm_X11_behind K := F
  refine v_aload_n F (dq dkX11_behind_0 0 rfl) rfl 0 rfl ?_
  refine v_get F 61 (xnM (by decide)) xc_61 rfl inlX11 0 (by decide) (tc11 _ (List.mem_of_getElem? (i := 17) rfl)) rfl rfl (dq dkX11_behind_0 1 rfl) ?_
  refine v_bipush F (v := 9) (dq dkX11_behind_0 2 rfl) kb_9 ?_
  refine v_iload_n F (dq dkX11_behind_0 3 rfl) rfl 1 rfl ?_
  refine v_iadd F (dq dkX11_behind_0 4 rfl) ?_
  obtain ⟨g8, h⟩ := gd_of h
  refine v_iald F 62 (xnM (by decide)) xc_62 (ib_in g8) (dq dkX11_behind_0 5 rfl) ?_
  refine v_istore_n F (ls' := [(3, .int (gi y 62 (9 + a1).toNatClampNeg)), (0, .ref (K.1 + 61)), (1, .int a1), (2, .int a2)]) (dq dkX11_behind_0 6 rfl) rfl (by decide) rfl ?_
  refine v_iconst F (v := 0) (dq dkX11_behind_0 7 rfl) ki_0 ?_
  refine v_istore F (ls' := [(4, .int 0), (3, .int (gi y 62 (9 + a1).toNatClampNeg)), (0, .ref (K.1 + 61)), (1, .int a1), (2, .int a2)]) (dq dkX11_behind_0 8 rfl) (by decide) rfl ?_
  refine v_sub [2, 3, 4, 1, 0] rfl ?_
  exact t_X11_behind_13 F E 1000 y a1 a2 (gi y 62 (9 + a1).toNatClampNeg) 0 h
def rm_X11_hours : Room := { frames := 5, cells := 0, slots := 0, locals := 126 }
def f_X11_hours_53 (k24 : MS → Int32 → Int32 → Int32 → Option (Int32 × MS)) (y : MS) (a1 : Int32) (a2 : Int32) (a3 : Int32) (s0 : Int32) (s1 : Int32) : Option (Int32 × MS) := if s0 < s1 then (k24 y a1 a2 (a3 + 1)) else (some (a3, y))
set_option maxRecDepth 100000 in
set_option maxHeartbeats 4000000 in
theorem t_X11_hours_53 {C : Cx} {K : KE} {nn : Nat} {x : CS} {R : Int32 × MS}  (k24 : MS → Int32 → Int32 → Int32 → Option (Int32 × MS)) (y : MS) (a1 : Int32) (a2 : Int32) (a3 : Int32) (s0 : Int32) (s1 : Int32) (hk24 : ∀ (y : MS) (a1 : Int32) (a2 : Int32) (a3 : Int32), k24 y a1 a2 a3 = some R → V C 24 [(0, .ref (K.1 + 61)), (1, .int a1), (2, .int a2), (3, .int a3)] [] (xfM K nn x y) 0 0) (h : f_X11_hours_53 k24 y a1 a2 a3 s0 s1 = some R) (F : Fx C RX11 cX11_hours 4 rm_X11_hours K) (E : CE C (xfM K nn x R.2) (some (.int R.1)) 0 0 (some .int)) : V C 53 [(0, .ref (K.1 + 61)), (1, .int a1), (2, .int a2), (3, .int a3)] [.int s0, .int s1] (xfM K nn x y) 0 0 := by
  unfold f_X11_hours_53 at h
  refine v_icmp_gt F (tgt := 58) (dq dkX11_hours_0 31 rfl) (by decide) (fun c1 => ?_) (fun c1 => ?_)
  · rw [if_pos c1] at h
    refine v_iinc F (v := a3 + 1) (ls' := [(3, .int (a3 + 1)), (0, .ref (K.1 + 61)), (1, .int a1), (2, .int a2)]) (dq dkX11_hours_0 34 rfl) (j := 3) rfl (kv_add ki_1) (by decide) rfl ?_
    refine v_goto F (tgt := 24) (dq dkX11_hours_0 35 rfl) (by decide) ?_
    refine v_sub [1, 2, 3, 0] rfl ?_
    exact hk24 y a1 a2 (a3 + 1) h
  · rw [if_neg c1] at h
    refine v_iload_n F (dq dkX11_hours_0 32 rfl) rfl 3 rfl ?_
    have h := Option.some.inj h
    subst h
    exact v_iret F E (dq dkX11_hours_0 33 rfl)
def f_X11_hours_24 : Nat → MS → Int32 → Int32 → Int32 → Option (Int32 × MS)
  | 0, _, _, _, _ => none
  | n + 1, y, a1, a2, a3 => if 24 < a3 then (some ((-1), y)) else ((f_X11_behind y a1 a3).bind fun r3 => if a2 = 0 then (gd (ib (45 + a1) 54) (f_X11_hours_53 (f_X11_hours_24 n) r3.2 a1 a2 a3 (gi r3.2 62 (45 + a1).toNatClampNeg) r3.1)) else (f_X11_hours_53 (f_X11_hours_24 n) r3.2 a1 a2 a3 0 r3.1))
set_option maxRecDepth 100000 in
set_option maxHeartbeats 4000000 in
theorem t_X11_hours_24 {C : Cx} {K : KE} {nn : Nat} {x : CS} {R : Int32 × MS}  (F : Fx C RX11 cX11_hours 4 rm_X11_hours K) (E : CE C (xfM K nn x R.2) (some (.int R.1)) 0 0 (some .int)) : ∀ (n : Nat) (y : MS) (a1 : Int32) (a2 : Int32) (a3 : Int32) (h : f_X11_hours_24 n y a1 a2 a3 = some R), V C 24 [(0, .ref (K.1 + 61)), (1, .int a1), (2, .int a2), (3, .int a3)] [] (xfM K nn x y) 0 0 := by
  intro n
  induction n with
  | zero => intro y a1 a2 a3 h; cases h
  | succ n ih =>
    intro y a1 a2 a3 h
    rw [f_X11_hours_24] at h
    refine v_iload_n F (dq dkX11_hours_0 14 rfl) rfl 3 rfl ?_
    refine v_bipush F (v := 24) (dq dkX11_hours_0 15 rfl) kb_24 ?_
    refine v_icmp_gt F (tgt := 64) (dq dkX11_hours_0 16 rfl) (by decide) (fun c2 => ?_) (fun c2 => ?_)
    · rw [if_pos c2] at h
      refine v_iconst F (v := (-1)) (dq dkX11_hours_0 36 rfl) ki_m1 ?_
      have h := Option.some.inj h
      subst h
      exact v_iret F E (dq dkX11_hours_0 37 rfl)
    · rw [if_neg c2] at h
      refine v_aload_n F (dq dkX11_hours_0 17 rfl) rfl 0 rfl ?_
      refine v_iload_n F (dq dkX11_hours_0 18 rfl) rfl 1 rfl ?_
      refine v_iload_n F (dq dkX11_hours_0 19 rfl) rfl 3 rfl ?_
      obtain ⟨r3, e4, h⟩ := bd_of h
      refine v_callV 2 F (q := 61) (kc1 := 0) (ks1 := 0) (as := [.int a1, .int a3]) (st := []) (st1 := (.int r3.1 :: [])) (res := (some (.int r3.1))) (c_X11_behind (l := C.2.1) x y a1 a3 e4) (xnM (by decide)) xc_61 rfl (tc38 _ (List.mem_of_getElem? (i := 2) rfl)) (tc38 _ (List.mem_of_getElem? (i := 3) rfl)) (tc38 _ (List.mem_of_getElem? (i := 4) rfl)) (tc1 _ (List.mem_of_getElem? (i := 5) rfl)) (tc38 _ (List.mem_of_getElem? (i := 5) rfl)) (by decide) rfl ⟨rfl, rfl, Nat.le_of_ble_eq_true rfl, Nat.le_of_ble_eq_true rfl⟩ ⟨Nat.le_of_ble_eq_true rfl, Nat.le_of_ble_eq_true rfl⟩ rfl (Nat.le_of_ble_eq_true rfl) rfl rfl rfl (dq dkX11_hours_0 20 rfl) ?_
      refine v_iload_n F (dq dkX11_hours_0 21 rfl) rfl 2 rfl ?_
      refine v_if_ne F (tgt := 52) (dq dkX11_hours_0 22 rfl) (by decide) (fun c5 => ?_) (fun c5 => ?_)
      · rw [if_neg c5] at h
        refine v_iconst F (v := 0) (dq dkX11_hours_0 30 rfl) ki_0 ?_
        exact t_X11_hours_53 (f_X11_hours_24 n) r3.2 a1 a2 a3 0 r3.1 ih h F E
      · rw [if_pos c5] at h
        refine v_aload_n F (dq dkX11_hours_0 23 rfl) rfl 0 rfl ?_
        refine v_get F 61 (xnM (by decide)) xc_61 rfl inlX11 0 (by decide) (tc11 _ (List.mem_of_getElem? (i := 17) rfl)) rfl rfl (dq dkX11_hours_0 24 rfl) ?_
        refine v_bipush F (v := 45) (dq dkX11_hours_0 25 rfl) kb_45 ?_
        refine v_iload_n F (dq dkX11_hours_0 26 rfl) rfl 1 rfl ?_
        refine v_iadd F (dq dkX11_hours_0 27 rfl) ?_
        obtain ⟨g6, h⟩ := gd_of h
        refine v_iald F 62 (xnM (by decide)) xc_62 (ib_in g6) (dq dkX11_hours_0 28 rfl) ?_
        refine v_goto F (tgt := 53) (dq dkX11_hours_0 29 rfl) (by decide) ?_
        exact t_X11_hours_53 (f_X11_hours_24 n) r3.2 a1 a2 a3 (gi r3.2 62 (45 + a1).toNatClampNeg) r3.1 ih h F E
def f_X11_hours (y : MS) (a1 : Int32) (a2 : Int32) : Option (Int32 × MS) := if (b2i (f_X11_isSection a1)) = 0 then (some ((-5), y)) else (if (b2i (f_X11_in a2 0 1)) = 0 then (some ((-7), y)) else (f_X11_hours_24 1000 y a1 a2 0))
set_option maxRecDepth 100000 in
set_option maxHeartbeats 4000000 in
theorem c_X11_hours {K : KE} {l : Launch} {R : Int32 × MS} {nn : Nat} (x : CS) (y : MS) (a1 : Int32) (a2 : Int32) (h : f_X11_hours y a1 a2 = some R) : MC K l yX11_hours cX11_hours 4 (some .int) rm_X11_hours 0 0 [.ref (K.1 + 61), .int a1, .int a2] (xfM K nn x y) (xfM K nn x R.2) (some (.int R.1)) := by
  unfold f_X11_hours at h
  refine mc_of (ls0 := [(0, .ref (K.1 + 61)), (1, .int a1), (2, .int a2)]) (by decide) (Nat.le_of_ble_eq_true rfl) rfl (fun C hl hnm F E => ?_)
  have F : Fx C RX11 cX11_hours 4 rm_X11_hours K := F
  refine v_iload_n F (dq dkX11_hours_0 0 rfl) rfl 1 rfl ?_
  refine v_callS 1 F (kc1 := 0) (ks1 := 0) (as := [.int a1]) (st := []) (st1 := (.int (b2i (f_X11_isSection a1)) :: [])) (res := (some (.int (b2i (f_X11_isSection a1))))) (c_X11_isSection (l := C.2.1) a1) (tc14 _ (List.mem_of_getElem? (i := 22) rfl)) (tc14 _ (List.mem_of_getElem? (i := 23) rfl)) (tc1 _ (List.mem_of_getElem? (i := 5) rfl)) (tc15 _ (List.mem_of_getElem? (i := 0) rfl)) (by decide) rfl ⟨rfl, rfl, Nat.le_of_ble_eq_true rfl, Nat.le_of_ble_eq_true rfl⟩ ⟨Nat.le_of_ble_eq_true rfl, Nat.le_of_ble_eq_true rfl⟩ rfl (Nat.le_of_ble_eq_true rfl) rfl rfl rfl (dq dkX11_hours_0 1 rfl) ?_
  refine v_if_ne F (tgt := 10) (dq dkX11_hours_0 2 rfl) (by decide) (fun c8 => ?_) (fun c8 => ?_)
  · rw [if_neg c8] at h
    refine v_iload_n F (dq dkX11_hours_0 5 rfl) rfl 2 rfl ?_
    refine v_iconst F (v := 0) (dq dkX11_hours_0 6 rfl) ki_0 ?_
    refine v_iconst F (v := 1) (dq dkX11_hours_0 7 rfl) ki_1 ?_
    refine v_callS 3 F (kc1 := 0) (ks1 := 0) (as := [.int a2, .int 0, .int 1]) (st := []) (st1 := (.int (b2i (f_X11_in a2 0 1)) :: [])) (res := (some (.int (b2i (f_X11_in a2 0 1))))) (c_X11_in (l := C.2.1) a2 0 1) (tc15 _ (List.mem_of_getElem? (i := 1) rfl)) (tc15 _ (List.mem_of_getElem? (i := 2) rfl)) (tc1 _ (List.mem_of_getElem? (i := 5) rfl)) (tc15 _ (List.mem_of_getElem? (i := 3) rfl)) (by decide) rfl ⟨rfl, rfl, Nat.le_of_ble_eq_true rfl, Nat.le_of_ble_eq_true rfl⟩ ⟨Nat.le_of_ble_eq_true rfl, Nat.le_of_ble_eq_true rfl⟩ rfl (Nat.le_of_ble_eq_true rfl) rfl rfl rfl (dq dkX11_hours_0 8 rfl) ?_
    refine v_if_ne F (tgt := 22) (dq dkX11_hours_0 9 rfl) (by decide) (fun c10 => ?_) (fun c10 => ?_)
    · rw [if_neg c10] at h
      refine v_iconst F (v := 0) (dq dkX11_hours_0 12 rfl) ki_0 ?_
      refine v_istore_n F (ls' := [(3, .int 0), (0, .ref (K.1 + 61)), (1, .int a1), (2, .int a2)]) (dq dkX11_hours_0 13 rfl) rfl (by decide) rfl ?_
      refine v_sub [1, 2, 3, 0] rfl ?_
      exact t_X11_hours_24 F E 1000 y a1 a2 0 h
    · rw [if_pos c10] at h
      refine v_bipush F (v := (-7)) (dq dkX11_hours_0 10 rfl) kb_m7 ?_
      have h := Option.some.inj h
      subst h
      exact v_iret F E (dq dkX11_hours_0 11 rfl)
  · rw [if_pos c8] at h
    refine v_bipush F (v := (-5)) (dq dkX11_hours_0 3 rfl) kb_m5 ?_
    have h := Option.some.inj h
    subst h
    exact v_iret F E (dq dkX11_hours_0 4 rfl)
def rm_X11_left : Room := { frames := 5, cells := 0, slots := 0, locals := 126 }
def f_X11_left_26 (y : MS) : Option (Int64 × MS) := some ((-4611686018427387904), y)
set_option maxRecDepth 100000 in
set_option maxHeartbeats 4000000 in
theorem t_X11_left_26 {C : Cx} {K : KE} {nn : Nat} {x : CS} {R : Int64 × MS}  (y : MS) (h : f_X11_left_26 y = some R) (F : Fx C RX11 cX11_left 7 rm_X11_left K) (E : CE C (xfM K nn x R.2) (some (.long R.1)) 0 0 (some .long)) : V C 26 [] [] (xfM K nn x y) 0 0 := by
  unfold f_X11_left_26 at h
  refine v_ldc2 F (v := (-4611686018427387904)) (tc33 _ (List.mem_of_getElem? (i := 20) rfl)) (dq dkX11_left_0 13 rfl) ?_
  have h := Option.some.inj h
  subst h
  exact v_lret F E (dq dkX11_left_0 14 rfl)
def f_X11_left_80 (k42 : MS → Int32 → Int32 → Int32 → Int32 → Int32 → Int32 → Option (Int64 × MS)) (y : MS) (a1 : Int32) (a2 : Int32) (a3 : Int32) (a4 : Int32) (a6 : Int32) (s0 : Int32) (s1 : Int32) : Option (Int64 × MS) := k42 y a1 a2 a3 a4 (s1 + s0) (a6 + 1)
set_option maxRecDepth 100000 in
set_option maxHeartbeats 4000000 in
theorem t_X11_left_80 {C : Cx} {K : KE} {nn : Nat} {x : CS} {R : Int64 × MS}  (k42 : MS → Int32 → Int32 → Int32 → Int32 → Int32 → Int32 → Option (Int64 × MS)) (y : MS) (a1 : Int32) (a2 : Int32) (a3 : Int32) (a4 : Int32) (a6 : Int32) (s0 : Int32) (s1 : Int32) (hk42 : ∀ (y : MS) (a1 : Int32) (a2 : Int32) (a3 : Int32) (a4 : Int32) (a5 : Int32) (a6 : Int32), k42 y a1 a2 a3 a4 a5 a6 = some R → V C 42 [(0, .ref (K.1 + 61)), (1, .int a1), (2, .int a2), (3, .int a3), (4, .int a4), (5, .int a5), (6, .int a6)] [] (xfM K nn x y) 0 0) (h : f_X11_left_80 k42 y a1 a2 a3 a4 a6 s0 s1 = some R) (F : Fx C RX11 cX11_left 7 rm_X11_left K) (E : CE C (xfM K nn x R.2) (some (.long R.1)) 0 0 (some .long)) : V C 80 [(0, .ref (K.1 + 61)), (1, .int a1), (2, .int a2), (3, .int a3), (4, .int a4), (6, .int a6)] [.int s0, .int s1] (xfM K nn x y) 0 0 := by
  unfold f_X11_left_80 at h
  refine v_iadd F (dq dkX11_left_1 3 rfl) ?_
  refine v_istore F (ls' := [(5, .int (s1 + s0)), (0, .ref (K.1 + 61)), (1, .int a1), (2, .int a2), (3, .int a3), (4, .int a4), (6, .int a6)]) (dq dkX11_left_1 4 rfl) (by decide) rfl ?_
  refine v_iinc F (v := a6 + 1) (ls' := [(6, .int (a6 + 1)), (5, .int (s1 + s0)), (0, .ref (K.1 + 61)), (1, .int a1), (2, .int a2), (3, .int a3), (4, .int a4)]) (dq dkX11_left_1 5 rfl) (j := 6) rfl (kv_add ki_1) (by decide) rfl ?_
  refine v_goto F (tgt := 42) (dq dkX11_left_1 6 rfl) (by decide) ?_
  refine v_sub [2, 3, 4, 5, 6, 1, 0] rfl ?_
  exact hk42 y a1 a2 a3 a4 (s1 + s0) (a6 + 1) h
def f_X11_left_42 : Nat → MS → Int32 → Int32 → Int32 → Int32 → Int32 → Int32 → Option (Int64 × MS)
  | 0, _, _, _, _, _, _, _ => none
  | n + 1, y, a1, a2, a3, a4, a5, a6 => if 9 < a6 then ((f_X11_lowest a5.toInt64 10 a3).bind fun r2 => some (r2, pi y 61 2 a4)) else ((f_X11_behind (pi y 61 2 a6) a1 a2).bind fun r4 => gd (ib (45 + a1) 54) (if r4.1 < (gi r4.2 62 (45 + a1).toNatClampNeg) then (f_X11_left_80 (f_X11_left_42 n) r4.2 a1 a2 a3 a4 a6 0 a5) else (f_X11_left_80 (f_X11_left_42 n) r4.2 a1 a2 a3 a4 a6 1 a5)))
set_option maxRecDepth 100000 in
set_option maxHeartbeats 4000000 in
theorem t_X11_left_42 {C : Cx} {K : KE} {nn : Nat} {x : CS} {R : Int64 × MS}  (F : Fx C RX11 cX11_left 7 rm_X11_left K) (E : CE C (xfM K nn x R.2) (some (.long R.1)) 0 0 (some .long)) : ∀ (n : Nat) (y : MS) (a1 : Int32) (a2 : Int32) (a3 : Int32) (a4 : Int32) (a5 : Int32) (a6 : Int32) (h : f_X11_left_42 n y a1 a2 a3 a4 a5 a6 = some R), V C 42 [(0, .ref (K.1 + 61)), (1, .int a1), (2, .int a2), (3, .int a3), (4, .int a4), (5, .int a5), (6, .int a6)] [] (xfM K nn x y) 0 0 := by
  intro n
  induction n with
  | zero => intro y a1 a2 a3 a4 a5 a6 h; cases h
  | succ n ih =>
    intro y a1 a2 a3 a4 a5 a6 h
    rw [f_X11_left_42] at h
    refine v_iload F (dq dkX11_left_0 22 rfl) 6 rfl ?_
    refine v_bipush F (v := 9) (dq dkX11_left_0 23 rfl) kb_9 ?_
    refine v_icmp_gt F (tgt := 89) (dq dkX11_left_0 24 rfl) (by decide) (fun c1 => ?_) (fun c1 => ?_)
    · rw [if_pos c1] at h
      refine v_aload_n F (dq dkX11_left_1 7 rfl) rfl 0 rfl ?_
      refine v_iload F (dq dkX11_left_1 8 rfl) 4 rfl ?_
      refine v_put F 61 (xnM (by decide)) xc_61 rfl inlX11 tyX11_ok nmX11 2 (by decide) (tc16 _ (List.mem_of_getElem? (i := 14) rfl)) rfl rfl (tyX11_ok 2 (by decide)) rfl rfl (Nat.le_of_ble_eq_true rfl) (dq dkX11_left_1 9 rfl) ?_
      refine v_eqM (xwM (q := 61) (j := 2) (v := a4) (by decide) (by decide) rfl) ?_
      refine v_iload F (dq dkX11_left_1 10 rfl) 5 rfl ?_
      refine v_i2l F (dq dkX11_left_1 11 rfl) ?_
      refine v_ldc2 F (v := 10) (tc38 _ (List.mem_of_getElem? (i := 20) rfl)) (dq dkX11_left_1 12 rfl) ?_
      refine v_iload_n F (dq dkX11_left_1 13 rfl) rfl 3 rfl ?_
      obtain ⟨r2, e3, h⟩ := bd_of h
      refine v_callS 3 F (kc1 := 0) (ks1 := 0) (as := [.long a5.toInt64, .long 10, .int a3]) (st := []) (st1 := (.long r2 :: [])) (res := (some (.long r2))) (c_X11_lowest (l := C.2.1) a5.toInt64 10 a3 e3) (tc34 _ (List.mem_of_getElem? (i := 2) rfl)) (tc34 _ (List.mem_of_getElem? (i := 3) rfl)) (tc1 _ (List.mem_of_getElem? (i := 5) rfl)) (tc34 _ (List.mem_of_getElem? (i := 4) rfl)) (by decide) rfl ⟨rfl, rfl, Nat.le_of_ble_eq_true rfl, Nat.le_of_ble_eq_true rfl⟩ ⟨Nat.le_of_ble_eq_true rfl, Nat.le_of_ble_eq_true rfl⟩ rfl (Nat.le_of_ble_eq_true rfl) rfl rfl rfl (dq dkX11_left_1 14 rfl) ?_
      have h := Option.some.inj h
      subst h
      exact v_lret F E (dq dkX11_left_1 15 rfl)
    · rw [if_neg c1] at h
      refine v_aload_n F (dq dkX11_left_0 25 rfl) rfl 0 rfl ?_
      refine v_iload F (dq dkX11_left_0 26 rfl) 6 rfl ?_
      refine v_put F 61 (xnM (by decide)) xc_61 rfl inlX11 tyX11_ok nmX11 2 (by decide) (tc16 _ (List.mem_of_getElem? (i := 14) rfl)) rfl rfl (tyX11_ok 2 (by decide)) rfl rfl (Nat.le_of_ble_eq_true rfl) (dq dkX11_left_0 27 rfl) ?_
      refine v_eqM (xwM (q := 61) (j := 2) (v := a6) (by decide) (by decide) rfl) ?_
      refine v_iload F (dq dkX11_left_0 28 rfl) 5 rfl ?_
      refine v_aload_n F (dq dkX11_left_0 29 rfl) rfl 0 rfl ?_
      refine v_iload_n F (dq dkX11_left_0 30 rfl) rfl 1 rfl ?_
      refine v_iload_n F (dq dkX11_left_0 31 rfl) rfl 2 rfl ?_
      obtain ⟨r4, e5, h⟩ := bd_of h
      refine v_callV 2 F (q := 61) (kc1 := 0) (ks1 := 0) (as := [.int a1, .int a2]) (st := [.int a5]) (st1 := (.int r4.1 :: [.int a5])) (res := (some (.int r4.1))) (c_X11_behind (l := C.2.1) x (pi y 61 2 a6) a1 a2 e5) (xnM (by decide)) xc_61 rfl (tc38 _ (List.mem_of_getElem? (i := 2) rfl)) (tc38 _ (List.mem_of_getElem? (i := 3) rfl)) (tc38 _ (List.mem_of_getElem? (i := 4) rfl)) (tc1 _ (List.mem_of_getElem? (i := 5) rfl)) (tc38 _ (List.mem_of_getElem? (i := 5) rfl)) (by decide) rfl ⟨rfl, rfl, Nat.le_of_ble_eq_true rfl, Nat.le_of_ble_eq_true rfl⟩ ⟨Nat.le_of_ble_eq_true rfl, Nat.le_of_ble_eq_true rfl⟩ rfl (Nat.le_of_ble_eq_true rfl) rfl rfl rfl (dq dkX11_left_0 32 rfl) ?_
      refine v_aload_n F (dq dkX11_left_0 33 rfl) rfl 0 rfl ?_
      refine v_get F 61 (xnM (by decide)) xc_61 rfl inlX11 0 (by decide) (tc11 _ (List.mem_of_getElem? (i := 17) rfl)) rfl rfl (dq dkX11_left_0 34 rfl) ?_
      refine v_bipush F (v := 45) (dq dkX11_left_0 35 rfl) kb_45 ?_
      refine v_iload_n F (dq dkX11_left_0 36 rfl) rfl 1 rfl ?_
      refine v_iadd F (dq dkX11_left_0 37 rfl) ?_
      obtain ⟨g6, h⟩ := gd_of h
      refine v_iald F 62 (xnM (by decide)) xc_62 (ib_in g6) (dq dkX11_left_0 38 rfl) ?_
      refine v_icmp_lt F (tgt := 79) (dq dkX11_left_0 39 rfl) (by decide) (fun c7 => ?_) (fun c7 => ?_)
      · rw [if_pos c7] at h
        refine v_iconst F (v := 0) (dq dkX11_left_1 2 rfl) ki_0 ?_
        refine v_sub [0, 1, 2, 3, 4, 6] rfl ?_
        exact t_X11_left_80 (f_X11_left_42 n) r4.2 a1 a2 a3 a4 a6 0 a5 ih h F E
      · rw [if_neg c7] at h
        refine v_iconst F (v := 1) (dq dkX11_left_1 0 rfl) ki_1 ?_
        refine v_goto F (tgt := 80) (dq dkX11_left_1 1 rfl) (by decide) ?_
        refine v_sub [0, 1, 2, 3, 4, 6] rfl ?_
        exact t_X11_left_80 (f_X11_left_42 n) r4.2 a1 a2 a3 a4 a6 1 a5 ih h F E
def f_X11_left (y : MS) (a1 : Int32) (a2 : Int32) (a3 : Int32) : Option (Int64 × MS) := if (b2i (f_X11_isSection a1)) = 0 then (f_X11_left_26 y) else (if (b2i (f_X11_in a2 0 24)) = 0 then (f_X11_left_26 y) else (if (b2i (f_X11_in a3 0 1)) = 0 then (f_X11_left_26 y) else (f_X11_left_42 1000 y a1 a2 a3 (gi y 61 2) 0 0)))
set_option maxRecDepth 100000 in
set_option maxHeartbeats 4000000 in
theorem c_X11_left {K : KE} {l : Launch} {R : Int64 × MS} {nn : Nat} (x : CS) (y : MS) (a1 : Int32) (a2 : Int32) (a3 : Int32) (h : f_X11_left y a1 a2 a3 = some R) : MC K l yX11_left cX11_left 7 (some .long) rm_X11_left 0 0 [.ref (K.1 + 61), .int a1, .int a2, .int a3] (xfM K nn x y) (xfM K nn x R.2) (some (.long R.1)) := by
  unfold f_X11_left at h
  refine mc_of (ls0 := [(0, .ref (K.1 + 61)), (1, .int a1), (2, .int a2), (3, .int a3)]) (by decide) (Nat.le_of_ble_eq_true rfl) rfl (fun C hl hnm F E => ?_)
  have F : Fx C RX11 cX11_left 7 rm_X11_left K := F
  refine v_iload_n F (dq dkX11_left_0 0 rfl) rfl 1 rfl ?_
  refine v_callS 1 F (kc1 := 0) (ks1 := 0) (as := [.int a1]) (st := []) (st1 := (.int (b2i (f_X11_isSection a1)) :: [])) (res := (some (.int (b2i (f_X11_isSection a1))))) (c_X11_isSection (l := C.2.1) a1) (tc14 _ (List.mem_of_getElem? (i := 22) rfl)) (tc14 _ (List.mem_of_getElem? (i := 23) rfl)) (tc1 _ (List.mem_of_getElem? (i := 5) rfl)) (tc15 _ (List.mem_of_getElem? (i := 0) rfl)) (by decide) rfl ⟨rfl, rfl, Nat.le_of_ble_eq_true rfl, Nat.le_of_ble_eq_true rfl⟩ ⟨Nat.le_of_ble_eq_true rfl, Nat.le_of_ble_eq_true rfl⟩ rfl (Nat.le_of_ble_eq_true rfl) rfl rfl rfl (dq dkX11_left_0 1 rfl) ?_
  refine v_if_eq F (tgt := 26) (dq dkX11_left_0 2 rfl) (by decide) (fun c9 => ?_) (fun c9 => ?_)
  · rw [if_pos c9] at h
    refine v_sub [] rfl ?_
    exact t_X11_left_26 y h F E
  · rw [if_neg c9] at h
    refine v_iload_n F (dq dkX11_left_0 3 rfl) rfl 2 rfl ?_
    refine v_iconst F (v := 0) (dq dkX11_left_0 4 rfl) ki_0 ?_
    refine v_bipush F (v := 24) (dq dkX11_left_0 5 rfl) kb_24 ?_
    refine v_callS 3 F (kc1 := 0) (ks1 := 0) (as := [.int a2, .int 0, .int 24]) (st := []) (st1 := (.int (b2i (f_X11_in a2 0 24)) :: [])) (res := (some (.int (b2i (f_X11_in a2 0 24))))) (c_X11_in (l := C.2.1) a2 0 24) (tc15 _ (List.mem_of_getElem? (i := 1) rfl)) (tc15 _ (List.mem_of_getElem? (i := 2) rfl)) (tc1 _ (List.mem_of_getElem? (i := 5) rfl)) (tc15 _ (List.mem_of_getElem? (i := 3) rfl)) (by decide) rfl ⟨rfl, rfl, Nat.le_of_ble_eq_true rfl, Nat.le_of_ble_eq_true rfl⟩ ⟨Nat.le_of_ble_eq_true rfl, Nat.le_of_ble_eq_true rfl⟩ rfl (Nat.le_of_ble_eq_true rfl) rfl rfl rfl (dq dkX11_left_0 6 rfl) ?_
    refine v_if_eq F (tgt := 26) (dq dkX11_left_0 7 rfl) (by decide) (fun c11 => ?_) (fun c11 => ?_)
    · rw [if_pos c11] at h
      refine v_sub [] rfl ?_
      exact t_X11_left_26 y h F E
    · rw [if_neg c11] at h
      refine v_iload_n F (dq dkX11_left_0 8 rfl) rfl 3 rfl ?_
      refine v_iconst F (v := 0) (dq dkX11_left_0 9 rfl) ki_0 ?_
      refine v_iconst F (v := 1) (dq dkX11_left_0 10 rfl) ki_1 ?_
      refine v_callS 3 F (kc1 := 0) (ks1 := 0) (as := [.int a3, .int 0, .int 1]) (st := []) (st1 := (.int (b2i (f_X11_in a3 0 1)) :: [])) (res := (some (.int (b2i (f_X11_in a3 0 1))))) (c_X11_in (l := C.2.1) a3 0 1) (tc15 _ (List.mem_of_getElem? (i := 1) rfl)) (tc15 _ (List.mem_of_getElem? (i := 2) rfl)) (tc1 _ (List.mem_of_getElem? (i := 5) rfl)) (tc15 _ (List.mem_of_getElem? (i := 3) rfl)) (by decide) rfl ⟨rfl, rfl, Nat.le_of_ble_eq_true rfl, Nat.le_of_ble_eq_true rfl⟩ ⟨Nat.le_of_ble_eq_true rfl, Nat.le_of_ble_eq_true rfl⟩ rfl (Nat.le_of_ble_eq_true rfl) rfl rfl rfl (dq dkX11_left_0 11 rfl) ?_
      refine v_if_ne F (tgt := 30) (dq dkX11_left_0 12 rfl) (by decide) (fun c13 => ?_) (fun c13 => ?_)
      · rw [if_neg c13] at h
        refine v_aload_n F (dq dkX11_left_0 15 rfl) rfl 0 rfl ?_
        refine v_get F 61 (xnM (by decide)) xc_61 rfl inlX11 2 (by decide) (tc16 _ (List.mem_of_getElem? (i := 14) rfl)) rfl rfl (dq dkX11_left_0 16 rfl) ?_
        refine v_istore F (ls' := [(4, .int (gi y 61 2)), (0, .ref (K.1 + 61)), (1, .int a1), (2, .int a2), (3, .int a3)]) (dq dkX11_left_0 17 rfl) (by decide) rfl ?_
        refine v_iconst F (v := 0) (dq dkX11_left_0 18 rfl) ki_0 ?_
        refine v_istore F (ls' := [(5, .int 0), (4, .int (gi y 61 2)), (0, .ref (K.1 + 61)), (1, .int a1), (2, .int a2), (3, .int a3)]) (dq dkX11_left_0 19 rfl) (by decide) rfl ?_
        refine v_iconst F (v := 0) (dq dkX11_left_0 20 rfl) ki_0 ?_
        refine v_istore F (ls' := [(6, .int 0), (5, .int 0), (4, .int (gi y 61 2)), (0, .ref (K.1 + 61)), (1, .int a1), (2, .int a2), (3, .int a3)]) (dq dkX11_left_0 21 rfl) (by decide) rfl ?_
        refine v_sub [3, 4, 5, 6, 2, 1, 0] rfl ?_
        exact t_X11_left_42 F E 1000 y a1 a2 a3 (gi y 61 2) 0 0 h
      · rw [if_pos c13] at h
        refine v_sub [] rfl ?_
        exact t_X11_left_26 y h F E
def rm_X11_judge : Room := { frames := 8, cells := 0, slots := 0, locals := 192 }
def f_X11_judge_57 : Nat → MS → Int32 → Int32 → Option (Int32 × MS)
  | 0, _, _, _ => none
  | n + 1, y, a2, a3 => if 9 ≤ a3 then (some ((-1), y)) else (gd (ib a3 9) (gd (ib ((40 * a2) + a3) 160) (if (gi y 79 ((40 * a2) + a3).toNatClampNeg) ≤ (gi y 85 a3.toNatClampNeg) then ((f_X11_judge_57 n) y a2 (a3 + 1)) else (some (a3, y)))))
set_option maxRecDepth 100000 in
set_option maxHeartbeats 4000000 in
theorem t_X11_judge_57 {C : Cx} {K : KE} {nn : Nat} {x : CS} {R : Int32 × MS}  (F : Fx C RX11 cX11_judge 4 rm_X11_judge K) (E : CE C (xfM K nn x R.2) (some (.int R.1)) 0 0 (some .int)) : ∀ (n : Nat) (y : MS) (a2 : Int32) (a3 : Int32) (h : f_X11_judge_57 n y a2 a3 = some R), V C 57 [(0, .ref (K.1 + 61)), (2, .int a2), (3, .int a3)] [] (xfM K nn x y) 0 0 := by
  intro n
  induction n with
  | zero => intro y a2 a3 h; cases h
  | succ n ih =>
    intro y a2 a3 h
    rw [f_X11_judge_57] at h
    refine v_iload_n F (dq dkX11_judge_0 34 rfl) rfl 2 rfl ?_
    refine v_bipush F (v := 9) (dq dkX11_judge_0 35 rfl) kb_9 ?_
    refine v_icmp_ge F (tgt := 91) (dq dkX11_judge_0 36 rfl) (by decide) (fun c1 => ?_) (fun c1 => ?_)
    · rw [if_pos c1] at h
      refine v_iconst F (v := (-1)) (dq dkX11_judge_1 14 rfl) ki_m1 ?_
      have h := Option.some.inj h
      subst h
      exact v_iret F E (dq dkX11_judge_1 15 rfl)
    · rw [if_neg c1] at h
      refine v_aload_n F (dq dkX11_judge_0 37 rfl) rfl 0 rfl ?_
      refine v_get F 61 (xnM (by decide)) xc_61 rfl inlX11 43 (by decide) (tc13 _ (List.mem_of_getElem? (i := 9) rfl)) rfl rfl (dq dkX11_judge_0 38 rfl) ?_
      refine v_iload_n F (dq dkX11_judge_0 39 rfl) rfl 2 rfl ?_
      obtain ⟨g2, h⟩ := gd_of h
      refine v_iald F 85 (xnM (by decide)) xc_85 (ib_in g2) (dq dkX11_judge_1 0 rfl) ?_
      refine v_aload_n F (dq dkX11_judge_1 1 rfl) rfl 0 rfl ?_
      refine v_get F 61 (xnM (by decide)) xc_61 rfl inlX11 30 (by decide) (tc12 _ (List.mem_of_getElem? (i := 14) rfl)) rfl rfl (dq dkX11_judge_1 2 rfl) ?_
      refine v_bipush F (v := 40) (dq dkX11_judge_1 3 rfl) kb_40 ?_
      refine v_iload_n F (dq dkX11_judge_1 4 rfl) rfl 1 rfl ?_
      refine v_imul F (dq dkX11_judge_1 5 rfl) ?_
      refine v_iload_n F (dq dkX11_judge_1 6 rfl) rfl 2 rfl ?_
      refine v_iadd F (dq dkX11_judge_1 7 rfl) ?_
      obtain ⟨g3, h⟩ := gd_of h
      refine v_iald F 79 (xnM (by decide)) xc_79 (ib_in g3) (dq dkX11_judge_1 8 rfl) ?_
      refine v_icmp_ge F (tgt := 85) (dq dkX11_judge_1 9 rfl) (by decide) (fun c4 => ?_) (fun c4 => ?_)
      · rw [if_pos c4] at h
        refine v_iinc F (v := a3 + 1) (ls' := [(3, .int (a3 + 1)), (0, .ref (K.1 + 61)), (2, .int a2)]) (dq dkX11_judge_1 12 rfl) (j := 2) rfl (kv_add ki_1) (by decide) rfl ?_
        refine v_goto F (tgt := 57) (dq dkX11_judge_1 13 rfl) (by decide) ?_
        refine v_sub [1, 2, 0] rfl ?_
        exact ih y a2 (a3 + 1) h
      · rw [if_neg c4] at h
        refine v_iload_n F (dq dkX11_judge_1 10 rfl) rfl 2 rfl ?_
        have h := Option.some.inj h
        subst h
        exact v_iret F E (dq dkX11_judge_1 11 rfl)
def f_X11_judge (y : MS) (a1 : Int32) (a2 : Int32) : Option (Int32 × MS) := if (b2i (f_X11_areWorks y a1)) = 0 then (some ((-5), y)) else (if (b2i (f_X11_in a2 0 3)) = 0 then (some ((-2), y)) else (gd (ib a2 4) (if (gi y 77 a2.toNatClampNeg) = (-1) then (some ((-11), y)) else (gd (ib a2 4) (if (gi y 78 a2.toNatClampNeg) = 9 then ((f_X11_comes y a1).bind fun r13 => f_X11_judge_57 1000 r13 a2 0) else (some ((-2), y)))))))
set_option maxRecDepth 100000 in
set_option maxHeartbeats 4000000 in
theorem c_X11_judge {K : KE} {l : Launch} {R : Int32 × MS} {nn : Nat} (x : CS) (y : MS) (a1 : Int32) (a2 : Int32) (h : f_X11_judge y a1 a2 = some R) : MC K l yX11_judge cX11_judge 4 (some .int) rm_X11_judge 0 0 [.ref (K.1 + 61), .int a1, .int a2] (xfM K nn x y) (xfM K nn x R.2) (some (.int R.1)) := by
  unfold f_X11_judge at h
  refine mc_of (ls0 := [(0, .ref (K.1 + 61)), (1, .int a1), (2, .int a2)]) (by decide) (Nat.le_of_ble_eq_true rfl) rfl (fun C hl hnm F E => ?_)
  have F : Fx C RX11 cX11_judge 4 rm_X11_judge K := F
  refine v_aload_n F (dq dkX11_judge_0 0 rfl) rfl 0 rfl ?_
  refine v_iload_n F (dq dkX11_judge_0 1 rfl) rfl 1 rfl ?_
  refine v_callV 1 F (q := 61) (kc1 := 0) (ks1 := 0) (as := [.int a1]) (st := []) (st1 := (.int (b2i (f_X11_areWorks y a1)) :: [])) (res := (some (.int (b2i (f_X11_areWorks y a1))))) (c_X11_areWorks (l := C.2.1) x y a1) (xnM (by decide)) xc_61 rfl (tc27 _ (List.mem_of_getElem? (i := 10) rfl)) (tc27 _ (List.mem_of_getElem? (i := 11) rfl)) (tc27 _ (List.mem_of_getElem? (i := 12) rfl)) (tc1 _ (List.mem_of_getElem? (i := 5) rfl)) (tc27 _ (List.mem_of_getElem? (i := 13) rfl)) (by decide) rfl ⟨rfl, rfl, Nat.le_of_ble_eq_true rfl, Nat.le_of_ble_eq_true rfl⟩ ⟨Nat.le_of_ble_eq_true rfl, Nat.le_of_ble_eq_true rfl⟩ rfl (Nat.le_of_ble_eq_true rfl) rfl rfl rfl (dq dkX11_judge_0 2 rfl) ?_
  refine v_if_ne F (tgt := 11) (dq dkX11_judge_0 3 rfl) (by decide) (fun c6 => ?_) (fun c6 => ?_)
  · rw [if_neg c6] at h
    refine v_iload_n F (dq dkX11_judge_0 6 rfl) rfl 2 rfl ?_
    refine v_iconst F (v := 0) (dq dkX11_judge_0 7 rfl) ki_0 ?_
    refine v_iconst F (v := 3) (dq dkX11_judge_0 8 rfl) ki_3 ?_
    refine v_callS 3 F (kc1 := 0) (ks1 := 0) (as := [.int a2, .int 0, .int 3]) (st := []) (st1 := (.int (b2i (f_X11_in a2 0 3)) :: [])) (res := (some (.int (b2i (f_X11_in a2 0 3))))) (c_X11_in (l := C.2.1) a2 0 3) (tc15 _ (List.mem_of_getElem? (i := 1) rfl)) (tc15 _ (List.mem_of_getElem? (i := 2) rfl)) (tc1 _ (List.mem_of_getElem? (i := 5) rfl)) (tc15 _ (List.mem_of_getElem? (i := 3) rfl)) (by decide) rfl ⟨rfl, rfl, Nat.le_of_ble_eq_true rfl, Nat.le_of_ble_eq_true rfl⟩ ⟨Nat.le_of_ble_eq_true rfl, Nat.le_of_ble_eq_true rfl⟩ rfl (Nat.le_of_ble_eq_true rfl) rfl rfl rfl (dq dkX11_judge_0 9 rfl) ?_
    refine v_if_ne F (tgt := 23) (dq dkX11_judge_0 10 rfl) (by decide) (fun c8 => ?_) (fun c8 => ?_)
    · rw [if_neg c8] at h
      refine v_aload_n F (dq dkX11_judge_0 13 rfl) rfl 0 rfl ?_
      refine v_get F 61 (xnM (by decide)) xc_61 rfl inlX11 28 (by decide) (tc12 _ (List.mem_of_getElem? (i := 12) rfl)) rfl rfl (dq dkX11_judge_0 14 rfl) ?_
      refine v_iload_n F (dq dkX11_judge_0 15 rfl) rfl 2 rfl ?_
      obtain ⟨g9, h⟩ := gd_of h
      refine v_iald F 77 (xnM (by decide)) xc_77 (ib_in g9) (dq dkX11_judge_0 16 rfl) ?_
      refine v_iconst F (v := (-1)) (dq dkX11_judge_0 17 rfl) ki_m1 ?_
      refine v_icmp_ne F (tgt := 36) (dq dkX11_judge_0 18 rfl) (by decide) (fun c10 => ?_) (fun c10 => ?_)
      · rw [if_neg c10] at h
        refine v_aload_n F (dq dkX11_judge_0 21 rfl) rfl 0 rfl ?_
        refine v_get F 61 (xnM (by decide)) xc_61 rfl inlX11 29 (by decide) (tc12 _ (List.mem_of_getElem? (i := 13) rfl)) rfl rfl (dq dkX11_judge_0 22 rfl) ?_
        refine v_iload_n F (dq dkX11_judge_0 23 rfl) rfl 2 rfl ?_
        obtain ⟨g11, h⟩ := gd_of h
        refine v_iald F 78 (xnM (by decide)) xc_78 (ib_in g11) (dq dkX11_judge_0 24 rfl) ?_
        refine v_bipush F (v := 9) (dq dkX11_judge_0 25 rfl) kb_9 ?_
        refine v_icmp_eq F (tgt := 50) (dq dkX11_judge_0 26 rfl) (by decide) (fun c12 => ?_) (fun c12 => ?_)
        · rw [if_pos c12] at h
          refine v_aload_n F (dq dkX11_judge_0 29 rfl) rfl 0 rfl ?_
          refine v_iload_n F (dq dkX11_judge_0 30 rfl) rfl 1 rfl ?_
          obtain ⟨r13, e14, h⟩ := bd_of h
          refine v_callV 1 F (q := 61) (kc1 := 0) (ks1 := 0) (as := [.int a1]) (st := []) (st1 := []) (res := none) (c_X11_comes (l := C.2.1) x y a1 e14) (xnM (by decide)) xc_61 rfl (tc27 _ (List.mem_of_getElem? (i := 14) rfl)) (tc27 _ (List.mem_of_getElem? (i := 15) rfl)) (tc27 _ (List.mem_of_getElem? (i := 16) rfl)) (tc1 _ (List.mem_of_getElem? (i := 5) rfl)) (tc27 _ (List.mem_of_getElem? (i := 17) rfl)) (by decide) rfl ⟨rfl, rfl, Nat.le_of_ble_eq_true rfl, Nat.le_of_ble_eq_true rfl⟩ ⟨Nat.le_of_ble_eq_true rfl, Nat.le_of_ble_eq_true rfl⟩ rfl (Nat.le_of_ble_eq_true rfl) rfl rfl rfl (dq dkX11_judge_0 31 rfl) ?_
          refine v_iconst F (v := 0) (dq dkX11_judge_0 32 rfl) ki_0 ?_
          refine v_istore_n F (ls' := [(3, .int 0), (0, .ref (K.1 + 61)), (1, .int a1), (2, .int a2)]) (dq dkX11_judge_0 33 rfl) rfl (by decide) rfl ?_
          refine v_sub [1, 3, 0] rfl ?_
          exact t_X11_judge_57 F E 1000 r13 a2 0 h
        · rw [if_neg c12] at h
          refine v_bipush F (v := (-2)) (dq dkX11_judge_0 27 rfl) kb_m2 ?_
          have h := Option.some.inj h
          subst h
          exact v_iret F E (dq dkX11_judge_0 28 rfl)
      · rw [if_pos c10] at h
        refine v_bipush F (v := (-11)) (dq dkX11_judge_0 19 rfl) kb_m11 ?_
        have h := Option.some.inj h
        subst h
        exact v_iret F E (dq dkX11_judge_0 20 rfl)
    · rw [if_pos c8] at h
      refine v_bipush F (v := (-2)) (dq dkX11_judge_0 11 rfl) kb_m2 ?_
      have h := Option.some.inj h
      subst h
      exact v_iret F E (dq dkX11_judge_0 12 rfl)
  · rw [if_pos c6] at h
    refine v_bipush F (v := (-5)) (dq dkX11_judge_0 4 rfl) kb_m5 ?_
    have h := Option.some.inj h
    subst h
    exact v_iret F E (dq dkX11_judge_0 5 rfl)
