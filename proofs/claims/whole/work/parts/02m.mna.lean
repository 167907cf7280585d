variable {C : Cx} {own : String} {cc : ByteArray} {nL : Nat} {R : Room} {K : KE} {pc kc ks : Nat} {ls : List (Nat × Value)} {st : List Value} {M : GM}
/-! new int[n][k]: the outer array at the next address, its rows behind it -/
def mo (c : ClassId) (n h0 i : Nat) : Cell := arrV c n (fun j => va_rf (if j < i then some (h0 + 1 + j) else none))
def mi (cI : ClassId) (k : Nat) : Cell := arrV cI k (fun _ => .int 0)
def mf (s : State) (c cI : ClassId) (n k : Nat) : Nat → State
  | 0 => s.pushCell (mo c n s.heap.size 0)
  | i + 1 => ((mf s c cI n k i).pushCell (mi cI k)).setCell s.heap.size (mo c n s.heap.size (i + 1))
theorem arr_eq {cA : ClassId} {n : Nat} {f g : Nat → Value} (h : ∀ j, j < n → f j = g j) : arrV cA n f = arrV cA n g := by
  unfold arrV
  congr 1
  congr 1
  funext j
  exact h j.val j.isLt
theorem mo_next (c : ClassId) (n h0 i : Nat) : (mo c n h0 i).setSlot i (.ref (h0 + 1 + i)) = mo c n h0 (i + 1) := by
  unfold mo
  rw [arrV_store]
  refine congrArg (arrV c n) (funext fun j => ?_)
  by_cases e : j = i
  · subst e
    simp [updV, va_rf]
  · by_cases h : j < i
    · simp [updV, e, h, Nat.lt_succ_of_lt h]
    · simp [updV, e, h, show ¬ j < i + 1 by omega]
theorem mo_size (c : ClassId) (n h0 i : Nat) : (mo c n h0 i).slots.size = n := arrV_size ..
theorem mi_size (cI : ClassId) (k : Nat) : (mi cI k).slots.size = k := arrV_size ..
theorem mf_ok (s : State) (c cI : ClassId) (n k : Nat) : ∀ i, (mf s c cI n k i).heap.size = s.heap.size + 1 + i ∧ (mf s c cI n k i).heap[s.heap.size]? = some (mo c n s.heap.size i) ∧ (mf s c cI n k i).vm = s.vm ∧ (mf s c cI n k i).slotsUsed = s.slotsUsed + n + i * k
  | 0 => ⟨by simp [mf], by simp [mf], rfl, by simp [mf, mo_size]⟩
  | i + 1 => by
    obtain ⟨a, b, d, u⟩ := mf_ok s c cI n k i
    have hlt : s.heap.size < (mf s c cI n k i).heap.size := by omega
    have hb' : ((mf s c cI n k i).pushCell (mi cI k)).heap[s.heap.size]? = some (mo c n s.heap.size i) := by rw [State.heap_pushCell_of_lt (h := hlt)]; exact b
    refine ⟨?_, State.heap_setCell_self hb', by simp [mf, d], ?_⟩
    · simp [mf, State.setCell, a]; omega
    · simp [mf, u, mi_size, Nat.succ_mul]; omega
theorem mf_top (s : State) (f : JFrame) (c cI : ClassId) (n k : Nat) : ∀ i, mf (s.setTop f) c cI n k i = (mf s c cI n k i).setTop f
  | 0 => rfl
  | i + 1 => by simp only [mf, mf_top s f c cI n k i, State.heap_setTop, State.pushCell_setTop, State.setCell_setTop]
theorem mf_old (s : State) (c cI : ClassId) (n k : Nat) {a : Addr} (ha : a < s.heap.size) : ∀ i, (mf s c cI n k i).heap[a]? = s.heap[a]?
  | 0 => State.heap_pushCell_of_lt _ _ ha
  | i + 1 => by
    have f1 := (mf_ok s c cI n k i).1
    have hlt : a < (mf s c cI n k i).heap.size := Nat.lt_of_lt_of_le ha (by rw [f1]; omega)
    show (((mf s c cI n k i).pushCell (mi cI k)).setCell s.heap.size _).heap[a]? = _
    rw [State.heap_setCell_other (Nat.ne_of_gt ha), State.heap_pushCell_of_lt (h := hlt)]
    exact mf_old s c cI n k ha i
theorem mf_row (s : State) (c cI : ClassId) (n k : Nat) : ∀ i j, j < i → (mf s c cI n k i).heap[s.heap.size + 1 + j]? = some (mi cI k)
  | 0, _, h => absurd h (Nat.not_lt_zero _)
  | i + 1, j, h => by
    have f1 := (mf_ok s c cI n k i).1
    show (((mf s c cI n k i).pushCell (mi cI k)).setCell s.heap.size _).heap[s.heap.size + 1 + j]? = _
    rw [State.heap_setCell_other (show s.heap.size ≠ s.heap.size + 1 + j by omega)]
    rcases Nat.lt_or_ge j i with hj | hj
    · have hlt : s.heap.size + 1 + j < (mf s c cI n k i).heap.size := by rw [f1]; omega
      rw [State.heap_pushCell_of_lt (h := hlt)]
      exact mf_row s c cI n k i j hj
    · have e : s.heap.size + 1 + j = (mf s c cI n k i).heap.size := by rw [f1]; omega
      rw [e]
      simp
section MNA1
variable {E : CtlPost} {e : Env} {d : Bool} {acts : List Action} {s : State}
theorem mn_new {c comp : ClassId} {kl : Class} {ty : FieldType} {len : Nat} {init : Value} (hk : s.vm.classes[c]? = some kl) (hkind : kl.kind = .array comp ty) (hlim : ¬ len > e.platform.arrayLengthLimit) (hhp : ¬ len * componentBytes ty > e.platform.maxHeapBytes) (hfit : fits ty init = true) (hdef : init.isDefault = true) {Q : Addr → Pre} (h1 : s.heap.size < e.platform.maxCells) (h2 : s.slotsUsed + len ≤ e.platform.maxSlots)
    (hq : Q s.heap.size d acts (s.pushCell (arrV c len (fun _ => init)))) : wp (Jvm.newArray c len init) Q E e d acts s := by
  rw [← arrV_new] at hq
  have hfits : ∀ i v, (Array.replicate len init)[i]? = some v → s.fitsSlot c .none i v = true := by
    intro i v hv
    rw [Array.getElem?_replicate] at hv
    split at hv
    · cases hv; simp [State.fitsSlot, State.slotType?, hk, hkind, hfit]
    · cases hv
  have hda : allocActs (Array.replicate len init) s.heap.size acts = acts := by
    have hall : ((Array.replicate len init).all (·.isDefault)) = true := by
      rw [Array.all_replicate]; split <;> simp [hdef]
    unfold allocActs; rw [if_pos hall]
  simp only [Jvm.newArray, Jvm.arrayFits, wp_bind', W.ask, W.ite, hlim, if_false, wp_pure', W.theClass, hk, hkind, hhp, W.alloc, W.stop, Option.some.injEq, exists_eq_left', Array.size_replicate, hda]
  rw [if_neg (by omega)]
  exact ⟨h1, h2, hfits, hq⟩
theorem mn_row {comp cc : ClassId} {kl : Class} {k : Int32} (hkc : s.vm.classes[comp]? = some kl) (hkind : kl.kind = .array cc .int) (hm : ¬ k < 0) (hl2 : ¬ k.toNatClampNeg > e.platform.arrayLengthLimit) (hh2 : ¬ k.toNatClampNeg * componentBytes .int > e.platform.maxHeapBytes) (h1 : s.heap.size < e.platform.maxCells) (h2 : s.slotsUsed + k.toNatClampNeg ≤ e.platform.maxSlots)
    {Q : Addr → Pre} (hq : Q s.heap.size d acts (s.pushCell (mi comp k.toNatClampNeg))) : wp (multianewarray.make comp [k]) Q E e d acts s := by
  rw [multianewarray.make]
  simp only [wp_bind', W.ite, hm, if_false, wp_pure', W.theClass, hkc, hkind, Option.some.injEq, exists_eq_left']
  exact mn_new hkc hkind hl2 hh2 rfl rfl h1 h2 hq
theorem mn_make {c comp cc : ClassId} {kl kc : Class} {n k : Int32} (hk : s.vm.classes[c]? = some kl) (hkind : kl.kind = .array comp (.array .int)) (hkc : s.vm.classes[comp]? = some kc) (hkindc : kc.kind = .array cc .int) (hn : ¬ n < 0) (hm : ¬ k < 0)
    (hl1 : ¬ n.toNatClampNeg > e.platform.arrayLengthLimit) (hh1 : ¬ n.toNatClampNeg * componentBytes (.array .int) > e.platform.maxHeapBytes) (hl2 : ¬ k.toNatClampNeg > e.platform.arrayLengthLimit) (hh2 : ¬ k.toNatClampNeg * componentBytes .int > e.platform.maxHeapBytes)
    (hc : s.heap.size + 1 + n.toNatClampNeg ≤ e.platform.maxCells) (hs : s.slotsUsed + n.toNatClampNeg + n.toNatClampNeg * k.toNatClampNeg ≤ e.platform.maxSlots)
    {Q : Addr → Pre} (hq : ∀ d' acts', Q s.heap.size d' acts' (mf s c comp n.toNatClampNeg k.toNatClampNeg n.toNatClampNeg)) : wp (multianewarray.make c [n, k]) Q E e d acts s := by
  have hfind : ([k].find? (· < 0)) = none := by simp [hm]
  rw [multianewarray.make]
  simp only [wp_bind', W.ite, hn, if_false, wp_pure', W.theClass, hk, hkind, Option.some.injEq, exists_eq_left']
  refine mn_new hk hkind hl1 hh1 rfl rfl (by omega) (by have := Nat.zero_le (n.toNatClampNeg * k.toNatClampNeg); omega) ?_
  simp only [hfind]
  rw [ite_self, wp_bind', Std.Legacy.Range.forIn_eq_forIn_range']
  have hsz : ([:n.toNatClampNeg] : Std.Legacy.Range).size = n.toNatClampNeg := by simp [Std.Legacy.Range.size]
  rw [hsz]
  show wp (forIn (List.range' 0 n.toNatClampNeg 1) PUnit.unit _) _ E e d acts _
  have hstart : s.pushCell (arrV c n.toNatClampNeg (fun _ => .null)) = mf s c comp n.toNatClampNeg k.toNatClampNeg 0 := by
    show _ = s.pushCell (mo c n.toNatClampNeg s.heap.size 0)
    unfold mo
    simp [va_rf]
  rw [hstart]
  refine wp_forIn_inv (fun rest s' => ∃ i, i ≤ n.toNatClampNeg ∧ rest = List.range' i (n.toNatClampNeg - i) ∧ s' = mf s c comp n.toNatClampNeg k.toNatClampNeg i) _ _ ⟨0, Nat.zero_le _, rfl, rfl⟩ ?_ ?_
  · rintro x rest s' d' acts' Q' ⟨i, hi, hl, rfl⟩ hnext
    have hlt : i < n.toNatClampNeg := by
      rcases Nat.lt_or_ge i n.toNatClampNeg with h | h
      · exact h
      · rw [show n.toNatClampNeg - i = 0 from by omega] at hl; simp at hl
    obtain ⟨rfl, hrest⟩ : x = i ∧ rest = List.range' (i + 1) (n.toNatClampNeg - (i + 1)) := by
      rw [show n.toNatClampNeg - i = (n.toNatClampNeg - (i + 1)) + 1 from by omega, List.range'_succ] at hl
      exact ⟨(List.cons.inj hl).1, (List.cons.inj hl).2⟩
    obtain ⟨f1, f2, f3, f4⟩ := mf_ok s c comp n.toNatClampNeg k.toNatClampNeg x
    have hmul : x * k.toNatClampNeg + k.toNatClampNeg ≤ n.toNatClampNeg * k.toNatClampNeg := by
      have := Nat.mul_le_mul_right k.toNatClampNeg (show x + 1 ≤ n.toNatClampNeg from hlt)
      rw [Nat.succ_mul] at this; exact this
    simp only [wp_bind']
    refine mn_row (by rw [f3]; exact hkc) hkindc hm hl2 hh2 (by rw [f1]; omega) (by rw [f4]; omega) ?_
    have hlt0 : s.heap.size < (mf s c comp n.toNatClampNeg k.toNatClampNeg x).heap.size := by rw [f1]; omega
    simp only [wp_bind', W.writeLoc, wp_pure']
    refine ⟨mo c n.toNatClampNeg s.heap.size x, by rw [State.heap_pushCell_of_lt (h := hlt0)]; exact f2, ?_⟩
    first
      | refine ⟨by simp [mo, arrV], by rw [mo_size]; exact hlt, ?_, hnext _ _ _ ⟨x + 1, hlt, hrest, ?_⟩⟩
      | refine ⟨(fun _ h => by cases h), by simp [mo, arrV], by rw [mo_size]; exact hlt, ?_, hnext _ _ _ ⟨x + 1, hlt, hrest, ?_⟩⟩
      | (intro; refine ⟨by simp [mo, arrV], by rw [mo_size]; exact hlt, ?_, hnext _ _ _ ⟨x + 1, hlt, hrest, ?_⟩⟩)
    · simp [mo, arrV, State.fitsSlot, State.slotType?, f3, hk, hkind, fits]
    · rw [f1, mo_next]; rfl
  · rintro s' d' acts' ⟨i, hi, hl, rfl⟩
    have hiN : i = n.toNatClampNeg := by
      rcases Nat.lt_or_ge i n.toNatClampNeg with h | h
      · rw [show n.toNatClampNeg - i = (n.toNatClampNeg - (i + 1)) + 1 from by omega, List.range'_succ] at hl; cases hl
      · omega
    subst hiN
    simp only [wp_pure']
    exact hq _ _
end MNA1
section MNA2
variable {p : Program} {l : Launch} {e : Env} {R : Room} {s : State} {m : MethodId} {args : Array Value} {below : List Frame} {meth : Method} {c : Code} {T : State} {locs : List Loc} {cells slots : Nat}
theorem mn_stand (X : Stand p l e R s m args below meth c T locs cells slots) (cA cI : ClassId) (n k : Nat) :
    ∀ i, Stand p l e R s m args below meth c (mf T cA cI n k i) (locs ++ (List.range i).map fun j => ⟨T.heap.size, j⟩) (cells + 1 + i) (slots + n + i * k)
  | 0 => by
    have h := X.pushed (mo cA n T.heap.size 0)
    rw [mo_size] at h
    simpa [mf] using h
  | i + 1 => by
    have Xi := mn_stand X cA cI n k i
    obtain ⟨f1, f2, f3, f4⟩ := mf_ok T cA cI n k i
    have hlt0 : T.heap.size < (mf T cA cI n k i).heap.size := by rw [f1]; omega
    have hcell : ((mf T cA cI n k i).pushCell (mi cI k)).heap[T.heap.size]? = some (mo cA n T.heap.size i) := by rw [State.heap_pushCell_of_lt (h := hlt0)]; exact f2
    have h := (Xi.pushed (mi cI k)).stored hcell i (.ref (T.heap.size + 1 + i))
    rw [mi_size, mo_next] at h
    have e2 : (locs ++ (List.range (i + 1)).map fun j => (⟨T.heap.size, j⟩ : Loc)) = (locs ++ (List.range i).map fun j => (⟨T.heap.size, j⟩ : Loc)) ++ [⟨T.heap.size, i⟩] := by simp [List.range_succ, List.append_assoc]
    have e3 : slots + n + (i + 1) * k = slots + n + i * k + k := by rw [Nat.succ_mul]; omega
    rw [e2, e3]
    exact h
end MNA2
/-- the memory behind new int[n][k] -/
def gm (M : GM) (c2 cI : ClassId) (B n k : Nat) : GM := (M.1 + (1 + n), fun q => if q = M.1 then .inl (c2, n, .inr (.inr (.inr (.inr (fun j => some (B + (M.1 + 1 + j))))))) else if M.1 < q ∧ q ≤ M.1 + n then .inl (cI, k, .inl (fun _ => 0)) else M.2 q)
theorem v_mna {index n' k' kc1 ks1 : Nat} {n k : Int32} (F : Fx C own cc nL R K) (hcl : Cond.classLink own index "[[I" ∈ wsL_law) (harr : Cond.arrayClass .int ∈ wsL_law) (hn : ¬ n < 0) (hk : ¬ k < 0) (en : n.toNatClampNeg = n') (ek : k.toNatClampNeg = k') (hb1 : n' * 4 ≤ 536870912) (hb2 : k' * 4 ≤ 536870912) (hr1 : kc + (1 + n') ≤ R.cells) (hr2 : ks + (n' + n' * k') ≤ R.slots) (hk1 : kc + 1 + n' = kc1) (hk2 : ks + n' + n' * k' = ks1) (hd : decode cc pc = .ok (.multianewarray index 2, 4))
    (kk : V C (pc + 4) ls (.ref (K.1 + M.1) :: st) (gm M (K.2.2.1 2) (K.2.2.1 0) K.1 n' k') kc1 ks1) : V C pc ls (.int k :: .int n :: st) M kc ks := by
  subst en; subst ek; subst hk1; subst hk2
  obtain ⟨p, l, e, R0, s, m, args, below, meth, c, K0, Q⟩ := C
  obtain ⟨hx, hb, hml, hown, hts, hK, hE, hB, rfl, rfl⟩ := F
  intro H locs lsA hz hP hS hl T hT X
  subst hb
  obtain ⟨comp, c2, k2, g1, g2, g3, g4, g5⟩ := hE.2.2.2.2.2.2.2.2.2.spec
  obtain ⟨comp', kC, cc', g6, g7, g8⟩ := Cond.arrayClass_spec (hts _ harr)
  have e0 : comp' = comp := Option.some.inj (g6.symm.trans g1)
  subst e0
  have ec2 : c2 = K0.2.2.1 2 := Option.some.inj (g5.symm.trans (hK.2 2 _ rfl).2)
  have ec0 : comp' = K0.2.2.1 0 := Option.some.inj (g6.symm.trans (hK.2 0 _ rfl).2)
  have hpl : e.platform.magicAccessors = ({} : Platform).magicAccessors := by rw [X.admits.platform]
  obtain ⟨c0, hfc0, hcl0⟩ := Cond.classLink_spec hown (hts _ hcl) e.platform hpl
  cases g5.symm.trans hfc0
  obtain ⟨hg₁, hwarm₁, hready₁⟩ := State.classEntry (e := e) X.warmed hcl0
  generalize T.vm.noted m.cls index (.cls c2) = vm₁ at hg₁ hwarm₁ hready₁
  have hal : s.vm.Alike vm₁ := hwarm₁.alike
  obtain ⟨kA₁, hkA₁, heA⟩ := hal.2.2 _ _ g3
  obtain ⟨kC₁, hkC₁, heC⟩ := hal.2.2 _ _ g7
  have hkindA₁ : kA₁.kind = .array comp' (.array .int) := by rw [heA]; exact g4
  have hkindC₁ : kC₁.kind = .array cc' .int := by rw [heC]; exact g8
  have X₁ := X.noted hwarm₁
  obtain ⟨hra, hrb⟩ := X.roomAbove hr1 hr2
  have XF := (mn_stand X₁ c2 comp' n.toNatClampNeg k.toNatClampNeg n.toNatClampNeg).dropFresh (fun x hx => by
    obtain ⟨j, -, rfl⟩ := List.mem_map.mp hx
    exact X.heapGrown)
  have hTz : (T.setVm vm₁).heap.size = K0.1 + M.1 := by show T.heap.size = _; rw [hT]; exact hz
  obtain ⟨f1, f2, f3, f4⟩ := mf_ok (T.setVm vm₁) c2 comp' n.toNatClampNeg k.toNatClampNeg n.toNatClampNeg
  rw [hTz] at f1 f2
  have fo : ∀ a, a < H.size → (mf (T.setVm vm₁) c2 comp' n.toNatClampNeg k.toNatClampNeg n.toNatClampNeg).heap[a]? = H[a]? := fun a ha => by
    rw [mf_old (T.setVm vm₁) c2 comp' n.toNatClampNeg k.toNatClampNeg (a := a) (by rw [hTz, ← hz]; exact ha)]
    show T.heap[a]? = _
    rw [hT]
  have fr : ∀ j, j < n.toNatClampNeg → (mf (T.setVm vm₁) c2 comp' n.toNatClampNeg k.toNatClampNeg n.toNatClampNeg).heap[K0.1 + M.1 + 1 + j]? = some (mi comp' k.toNatClampNeg) := fun j hj => by
    have h := mf_row (T.setVm vm₁) c2 comp' n.toNatClampNeg k.toNatClampNeg n.toNatClampNeg j hj
    rw [hTz] at h
    exact h
  obtain ⟨t, a1, b1⟩ := kk (mf (T.setVm vm₁) c2 comp' n.toNatClampNeg k.toNatClampNeg n.toNatClampNeg).heap locs lsA (by rw [f1]; show _ = K0.1 + (M.1 + (1 + n.toNatClampNeg)); omega) (fun q w hw => by
      by_cases hq : q < M.1 + (1 + n.toNatClampNeg)
      · rw [gw_at (M := gm M (K0.2.2.1 2) (K0.2.2.1 0) K0.1 n.toNatClampNeg k.toNatClampNeg) hq] at hw
        cases hw
        by_cases h1 : q < M.1
        · have h2 := hP q _ (gw_at h1)
          have e1 : (gm M (K0.2.2.1 2) (K0.2.2.1 0) K0.1 n.toNatClampNeg k.toNatClampNeg).2 q = M.2 q := by
            show (if q = M.1 then _ else if M.1 < q ∧ q ≤ M.1 + n.toNatClampNeg then _ else M.2 q) = _
            rw [if_neg (by omega), if_neg (by omega)]
          rw [e1]
          exact h2.kept (fo _ (by omega))
        · by_cases h2 : q = M.1
          · subst h2
            have e1 : (gm M (K0.2.2.1 2) (K0.2.2.1 0) K0.1 n.toNatClampNeg k.toNatClampNeg).2 M.1 = .inl (K0.2.2.1 2, n.toNatClampNeg, .inr (.inr (.inr (.inr (fun j => some (K0.1 + (M.1 + 1 + j))))))) := if_pos rfl
            rw [e1]
            show _ = some (vp_cell _ _)
            rw [f2, vp_cell_q, ← ec2]
            refine congrArg some (arr_eq (fun j hj => ?_))
            rw [if_pos hj]
            simp only [Nat.add_assoc]
          · have e1 : (gm M (K0.2.2.1 2) (K0.2.2.1 0) K0.1 n.toNatClampNeg k.toNatClampNeg).2 q = .inl (K0.2.2.1 0, k.toNatClampNeg, .inl (fun _ => 0)) := by
              show (if q = M.1 then _ else if M.1 < q ∧ q ≤ M.1 + n.toNatClampNeg then _ else M.2 q) = _
              rw [if_neg h2, if_pos (by omega)]
            rw [e1, ← ec0]
            have h3 := fr (q - (M.1 + 1)) (by omega)
            rw [show K0.1 + M.1 + 1 + (q - (M.1 + 1)) = K0.1 + q by omega] at h3
            exact h3
      · rw [gw_out (M := gm M (K0.2.2.1 2) (K0.2.2.1 0) K0.1 n.toNatClampNeg k.toNatClampNeg) hq] at hw
        cases hw) ⟨by rw [f1]; have := hS.1; omega, fun x h1 h2 => (fo x (Nat.lt_of_lt_of_le h1 hS.1)).trans (hS.2.1 x h1 h2), hS.2.2⟩ hl _ rfl XF
  refine ⟨t, ?_, b1⟩
  have hl1 : ¬ n.toNatClampNeg > e.platform.arrayLengthLimit := by rw [Launch.admits_arrayLengthLimit X.admits]; omega
  have hh1 : ¬ n.toNatClampNeg * componentBytes (.array .int) > e.platform.maxHeapBytes := by
    rw [Launch.admits_maxHeapBytes X.admits]; show ¬ n.toNatClampNeg * 4 > 536870912; omega
  have hl2 : ¬ k.toNatClampNeg > e.platform.arrayLengthLimit := by rw [Launch.admits_arrayLengthLimit X.admits]; omega
  have hh2 : ¬ k.toNatClampNeg * componentBytes .int > e.platform.maxHeapBytes := by rw [Launch.admits_maxHeapBytes X.admits]; show ¬ k.toNatClampNeg * 4 > 536870912; omega
  jvm_step X.here [hx, hd]
  simp only [multianewarray.sem, wp_bind', W.resolveClassAt_links (State.method?_setTop (F0 m pc lsA (.int k :: .int n :: st)) X.here.top) hg₁]
  rw [W.popN, if_neg (by decide)]
  refine ⟨F0 m pc lsA (.int k :: .int n :: st), State.topJava?_setTop' (s := T.setVm vm₁) _ X.here.top, [.int n, .int k], st, rfl, rfl, ?_⟩
  simp only [List.mapM_cons, List.mapM_nil, wp_bind', wp_pure']
  refine mn_make (kl := kA₁) (kc := kC₁) (comp := comp') (cc := cc') hkA₁ hkindA₁ hkC₁ hkindC₁ hn hk hl1 hh1 hl2 hh2 (by show T.heap.size + 1 + _ ≤ _; omega) (by show T.slotsUsed + _ + _ ≤ _; omega) (fun d' acts' => ?_)
  have eS : ((T.setTop (F0 m pc lsA (.int k :: .int n :: st))).setVm vm₁).setTop { (F0 m pc lsA (.int k :: .int n :: st)) with stack := st } = (T.setVm vm₁).setTop { (F0 m pc lsA (.int k :: .int n :: st)) with stack := st } := by
    show ((T.setVm vm₁).setTop (F0 m pc lsA (.int k :: .int n :: st))).setTop _ = _
    rw [State.setTop_setTop]
  rw [eS, mf_top]
  simp only [wp_bind', W.mark, W.pushRef, State.topJava?_setTop' _ XF.here.top, Option.some.injEq, exists_eq_left', State.setTop_setTop, State.heap_setTop]
  intro acts
  simp [jvm, XF.here.top]
  have e : T.heap.size = K0.1 + M.1 := by rw [hT]; exact hz
  have e' : (T.setVm vm₁).heap.size = K0.1 + M.1 := e
  first | (rw [← e] at a1; exact a1) | (rw [← e'] at a1; exact a1) | exact a1
