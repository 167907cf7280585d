/-! ===== my own layer: one memory, one judgement V, one contract MC ===== -/
/-- a memory: how many cells, and what each is; cell k lies at B + k -/
abbrev GM : Type := Nat × (Nat → va_E)
def gw (B : Nat) (M : GM) : va_W := (List.range M.1).map (fun k => (B + k, M.2 k))
def gu (M : GM) (k : Nat) (e : va_E) : GM := (M.1, fun j => if j = k then e else M.2 j)
def gp (M : GM) (e : va_E) : GM := (M.1 + 1, fun j => if j = M.1 then e else M.2 j)
theorem gw_at {B : Nat} {M : GM} {k : Nat} (h : k < M.1) : (gw B M)[k]? = some (B + k, M.2 k) := by
  unfold gw
  rw [List.getElem?_map, List.getElem?_range h]
  rfl
theorem gw_len {B : Nat} {M : GM} : (gw B M).length = M.1 := by
  unfold gw
  rw [List.length_map, List.length_range]
theorem gw_out {B : Nat} {M : GM} {k : Nat} (h : ¬ k < M.1) : (gw B M)[k]? = none := List.getElem?_eq_none (by rw [gw_len]; omega)
theorem gw_set {B : Nat} {M : GM} {k : Nat} {e : va_E} (h : k < M.1) : (gw B M).set k (B + k, e) = gw B (gu M k e) := by
  apply List.ext_getElem?
  intro j
  by_cases hj : j < M.1
  · by_cases hk : j = k
    · subst hk
      rw [List.getElem?_set_self (by rw [gw_len]; exact h), gw_at (M := gu M j e) h]
      simp [gu]
    · rw [List.getElem?_set_ne (Ne.symm hk), gw_at hj, gw_at (M := gu M k e) hj]
      simp [gu, hk]
  · have hk : ¬ k = j := fun q => hj (q ▸ h)
    rw [List.getElem?_set_ne hk, gw_out hj, gw_out (M := gu M k e) hj]
theorem gw_push {B : Nat} {M : GM} {e : va_E} : gw B M ++ [(B + M.1, e)] = gw B (gp M e) := by
  apply List.ext_getElem?
  intro j
  rcases Nat.lt_trichotomy j M.1 with hj | hj | hj
  · rw [List.getElem?_append_left (by rw [gw_len]; exact hj), gw_at hj, gw_at (M := gp M e) (Nat.lt_succ_of_lt hj)]
    simp [gp, Nat.ne_of_lt hj]
  · subst hj
    rw [List.getElem?_append_right (by rw [gw_len]; exact Nat.le_refl _), gw_len, Nat.sub_self, gw_at (M := gp M e) (Nat.lt_succ_self _)]
    simp [gp]
  · rw [gw_out (M := gp M e) (by show ¬ j < M.1 + 1; omega)]
    exact List.getElem?_eq_none (by rw [List.length_append, gw_len]; simp; omega)
def gA (B : Nat) : Nat → Prop := fun q => B ≤ q
theorem gw_D {B : Nat} {M : GM} : va_D (gA B) (gw B M) := by
  have key : ∀ (k : Nat) (q : Nat × va_E), (gw B M)[k]? = some q → q.1 = B + k := fun k q h => by
    by_cases hk : k < M.1
    · rw [gw_at hk] at h
      cases h
      rfl
    · rw [gw_out hk] at h
      cases h
  refine ⟨fun i j p q hi hj hpq => ?_, fun k q h => ?_⟩
  · have h1 := key i p hi
    have h2 := key j q hj
    omega
  · have h1 := key k q h
    show B ≤ q.1
    omega
/-- what stays: where the memory begins, the classes' numbers, the array classes, the cells of static arrays and texts -/
abbrev KE : Type := Nat × va_G × (Nat → ClassId) × (Nat → Nat)
def tysK (K : KE) : List (ClassId × FieldType) := [(K.2.2.1 0, .int), (K.2.2.1 1, .long), (K.2.2.1 2, .array .int), (K.2.2.1 3, .object "HollowedByFire$Sheet"), (K.2.2.1 4, .object "HollowedByFire$Tree")]

def nestF : List (String × Nat × String × String × String) := [("HollowedByFire$Hull", 65, "HollowedByFire$Wood", "law", "I"), ("HollowedByFire", 146, "HollowedByFire$Wood", "law", "I"), ("HollowedByFire", 145, "HollowedByFire$Laws", "size", "I"), ("HollowedByFire", 149, "HollowedByFire$Tape", "size", "I"), ("HollowedByFire", 97, "HollowedByFire$Tape", "code", "[I"), ("HollowedByFire", 100, "HollowedByFire$Tape", "ends", "[I"), ("HollowedByFire", 141, "HollowedByFire$Works", "size", "I"), ("HollowedByFire", 144, "HollowedByFire$Grove", "size", "I"), ("HollowedByFire", 182, "HollowedByFire$Hull", "wide", "[I"), ("HollowedByFire", 185, "HollowedByFire$Hull", "thick", "[I"), ("HollowedByFire", 188, "HollowedByFire$Hull", "high", "[I"), ("HollowedByFire", 194, "HollowedByFire$Hull", "broken", "I"), ("HollowedByFire", 197, "HollowedByFire$Hull", "spread", "I"), ("HollowedByFire", 200, "HollowedByFire$Hull", "firstBreak", "I"), ("HollowedByFire", 355, "HollowedByFire$Sheet", "row", "[I"), ("HollowedByFire", 349, "HollowedByFire$Sheet", "sort", "I"), ("HollowedByFire", 275, "HollowedByFire$Sheet", "size", "I"), ("HollowedByFire$Grove", 76, "HollowedByFire$Fraction", "above", "J"), ("HollowedByFire$Grove", 69, "HollowedByFire$Fraction", "below", "J"), ("HollowedByFire$Grove", 31, "HollowedByFire$Tree", "rings", "[I"), ("HollowedByFire$Grove", 22, "HollowedByFire$Tree", "girth", "I"), ("HollowedByFire", 364, "HollowedByFire$Tree", "girth", "I"), ("HollowedByFire$Grove", 25, "HollowedByFire$Tree", "lean", "I"), ("HollowedByFire$Grove", 28, "HollowedByFire$Tree", "knots", "I"), ("HollowedByFire$Grove", 60, "HollowedByFire$Tree", "bored", "I"), ("HollowedByFire", 310, "HollowedByFire$Tree", "bored", "I")]
def nestM : List (String × Nat × MethodName) := [("HollowedByFire", 18, ⟨"HollowedByFire$Laws", "<init>", "()V"⟩), ("HollowedByFire", 25, ⟨"HollowedByFire$Tape", "<init>", "()V"⟩), ("HollowedByFire", 32, ⟨"HollowedByFire$Works", "<init>", "()V"⟩), ("HollowedByFire", 39, ⟨"HollowedByFire$Grove", "<init>", "()V"⟩), ("HollowedByFire", 77, ⟨"HollowedByFire$Sheet", "<init>", "()V"⟩), ("HollowedByFire$Tape", 83, ⟨"HollowedByFire", "within", "(III)Z"⟩), ("HollowedByFire$Wood", 30, ⟨"HollowedByFire", "within", "(III)Z"⟩), ("HollowedByFire$Wood", 40, ⟨"HollowedByFire", "isSection", "(I)Z"⟩), ("HollowedByFire$Works", 29, ⟨"HollowedByFire", "within", "(III)Z"⟩), ("HollowedByFire$Hull", 77, ⟨"HollowedByFire", "isSection", "(I)Z"⟩), ("HollowedByFire$Hull", 100, ⟨"HollowedByFire", "share", "(I)I"⟩), ("HollowedByFire$Fraction", 24, ⟨"HollowedByFire", "within", "(III)Z"⟩), ("HollowedByFire$Grove", 21, ⟨"HollowedByFire$Tree", "<init>", "()V"⟩), ("HollowedByFire$Tree", 34, ⟨"HollowedByFire", "within", "(III)Z"⟩)]
def sLit : List (String × Nat × String) := [("HollowedByFire", 78, "char 1 + (sap < heat) ; pull thick * 2 + knot * 9 + wide ; stand heat * 3 ;"), ("HollowedByFire$Tape", 105, "char"), ("HollowedByFire$Tape", 111, "pull"), ("HollowedByFire$Tape", 113, "stand"), ("HollowedByFire$Tape", 115, "or"), ("HollowedByFire$Tape", 117, "and"), ("HollowedByFire$Tape", 119, "not"), ("HollowedByFire$Tape", 121, "heat"), ("HollowedByFire$Tape", 123, "wind"), ("HollowedByFire$Tape", 125, "sap"), ("HollowedByFire$Tape", 127, "thick"), ("HollowedByFire$Tape", 129, "knot"), ("HollowedByFire$Tape", 131, "wide")]
def sLen : List Nat := [75, 4, 4, 5, 2, 3, 3, 4, 4, 3, 5, 4, 4]
def sByt : List (List Int32) := [[99, 104, 97, 114, 32, 49, 32, 43, 32, 40, 115, 97, 112, 32, 60, 32, 104, 101, 97, 116, 41, 32, 59, 32, 112, 117, 108, 108, 32, 116, 104, 105, 99, 107, 32, 42, 32, 50, 32, 43, 32, 107, 110, 111, 116, 32, 42, 32, 57, 32, 43, 32, 119, 105, 100, 101, 32, 59, 32, 115, 116, 97, 110, 100, 32, 104, 101, 97, 116, 32, 42, 32, 51, 32, 59], [99, 104, 97, 114], [112, 117, 108, 108], [115, 116, 97, 110, 100], [111, 114], [97, 110, 100], [110, 111, 116], [104, 101, 97, 116], [119, 105, 110, 100], [115, 97, 112], [116, 104, 105, 99, 107], [107, 110, 111, 116], [119, 105, 100, 101]]
def sArr : List (String × String × List Int32) := [("HollowedByFire$Wood", "AT_FIRST", [20, 8, 10, 30, 0, 2]), ("HollowedByFire$Wood", "LEAST", [1, 1, 1, 1, 0, 0]), ("HollowedByFire$Wood", "MOST", [99, 20, 99, 99, 1, 20]), ("HollowedByFire$Wood", "SETTING_AT_FIRST", [5, 0, 3, 2, 0]), ("HollowedByFire$Wood", "SETTING_LEAST", [0, 0, 0, 1, 0]), ("HollowedByFire$Wood", "SETTING_MOST", [9, 9, 9, 5, 9]), ("HollowedByFire$Works", "KIND_ABOVE", [-1, 0, 1, 0, 0, 4])]
/-- that int[] has an array class over it -/
def aoA (U : State) : Prop := (Cond.arrayOver (.array .int)).before #[] U = true
theorem aoA.spec {u : State} (h : aoA u) : ∃ comp c k, u.vm.findClass (FieldType.array .int).toString = some comp ∧ (u.vm.classes.findIdx? fun x => match x.kind with | .array component _ => component == comp | _ => false) = some c ∧ u.vm.classes[c]? = some k ∧ k.kind = .array comp (.array .int) ∧ u.vm.findClass ("[" ++ (FieldType.array .int).toString) = some c := by
  unfold aoA Cond.before at h
  simp only [Cond.holds, Cond.value, beq_iff_eq] at h
  cases hc : u.vm.findClass (FieldType.array .int).toString with
  | none => simp [hc] at h
  | some comp =>
    simp only [hc, Option.bind_some, Option.bind_eq_some_iff, Option.map_eq_some_iff] at h
    obtain ⟨c, hi, k, hk, hb⟩ := h
    obtain ⟨hlt, hp, -⟩ := Array.findIdx?_eq_some_iff_getElem.mp hi
    have hkk : u.vm.classes[c] = k := (Array.getElem?_eq_some_iff.mp hk).2
    rw [hkk] at hp
    cases hkind : k.kind with
    | array component ty =>
      rw [hkind] at hb hp
      simp at hb hp
      exact ⟨comp, c, k, rfl, hi, hk, by rw [hkind, hp, hb.1], hb.2⟩
    | _ => rw [hkind] at hb; simp at hb
theorem aoA.moved {u U : State} (hvm : u.vm.Alike U.vm) (h : aoA u) : aoA U := by
  obtain ⟨comp, c, k, h1, h2, h3, h4, h5⟩ := h.spec
  obtain ⟨k', hk', he⟩ := hvm.2.2 _ _ h3
  have hi : (U.vm.classes.findIdx? fun (x : Class) => match x.kind with | .array component _ => component == comp | _ => false) = some c := by
    have e1 := va_idx_bare U.vm comp
    have e2 := va_idx_bare u.vm comp
    have e3 : U.vm.bare = u.vm.bare := by first | exact hvm.bare_eq | exact hvm.bare_eq.symm
    rw [e3] at e1
    exact (e1.symm.trans e2).trans h2
  have hkind : k'.kind = .array comp (.array .int) := by rw [he]; exact h4
  have f1 : U.vm.findClass (FieldType.array .int).toString = some comp := by rw [hvm.findClass]; exact h1
  have f2 : U.vm.findClass ("[" ++ (FieldType.array .int).toString) = some c := by rw [hvm.findClass]; exact h5
  unfold aoA Cond.before Cond.holds
  simp only [Cond.value]
  rw [f1, Option.bind_some]
  refine (congrArg (fun o : Option Nat => (o.bind (fun c => (U.vm.classes[c]?).map fun (k : Class) => match k.kind with | .array _ ty => decide (ty = FieldType.array .int) && decide (U.vm.findClass ("[" ++ (FieldType.array .int).toString) = some c) | _ => false) == some true)) hi).trans ?_
  simp [hk', hkind, f2]
def aoS (U : State) : Prop := va_AO "HollowedByFire$Sheet" U ∧ va_AO "HollowedByFire$Tree" U ∧ aoA U
theorem aoS.moved {u U : State} (hvm : u.vm.Alike U.vm) (h : aoS u) : aoS U := ⟨h.1.moved hvm, h.2.1.moved hvm, h.2.2.moved hvm⟩
/-- the surroundings: links to private members of nest mates, static arrays, texts -/
def EV (K : KE) (U : State) (H : Heap) : Prop :=
  (∀ q ∈ nestF, va_Nw (.fieldLinkNest q.1 q.2.1 q.2.2.1 q.2.2.2.1 q.2.2.2.2 "HollowedByFire") U) ∧ (∀ q ∈ nestM, va_Nw (.methodLinkNest q.1 q.2.1 q.2.2 "HollowedByFire") U) ∧
  (∀ (i : Nat) (q : String × String × List Int32), sArr[i]? = some q → va_Z q.1 q.2.1 "[I" (.ref (K.2.2.2 i)) (gA K.1) U H ∧ va_T .int (K.2.2.2 i) q.2.2.length (fun j => .int (q.2.2.getD j 0)) (gA K.1) U H) ∧
  va_Z "java/lang/String" "COMPACT_STRINGS" "Z" (.int 1) (gA K.1) U H ∧
  (∀ (i : Nat) (q : String × Nat × String), sLit[i]? = some q → vk_R q.1 q.2.1 q.2.2 (K.2.2.2 (10 + i)) U) ∧ vk_S 13 sLen sByt (fun i => K.2.2.2 (10 + i)) (fun i => K.2.2.2 (30 + i)) (gA K.1) U H ∧
  va_Zq "jdk/internal/util/Preconditions" "SIOOBE_FORMATTER" "Ljava/util/function/BiFunction;" (gA K.1) U H ∧ aoS U
theorem EV.go {K : KE} {s U : State} {H H1 : Heap} (hW : s.WarmedH U.vm) (h : EV K s H) (hq : ∀ a : Nat, a < H.size → ¬ gA K.1 a → H1[a]? = H[a]?) : EV K U H1 := by
  obtain ⟨h1, h2, h3, h4, h5, h6, h7, h8⟩ := h
  refine ⟨fun q hm => (h1 q hm).warmF hW, fun q hm => (h2 q hm).warmM hW, fun i q hi => ⟨((h3 i q hi).1.moved hW.alike).kept hq, ((h3 i q hi).2.moved hW.alike).kept hq⟩, (h4.moved hW.alike).kept hq, fun i q hi => (h5 i q hi).warm hW, (h6.moved hW.alike).kept hq, (h7.moved hW.alike).kept hq, h8.moved hW.alike⟩
/-- the whole of a state: the memory, the classes, the surroundings -/
def WG (K : KE) (M : GM) (U : State) : Prop := U.heap.size = K.1 + M.1 ∧ va_P K.2.1 vwCl (gw K.1 M) U.heap ∧ va_K K.2.1 vwCl (tysK K) U ∧ EV K U U.heap
abbrev Cx : Type := Program × Launch × Env × Room × State × MethodId × Array Value × List Frame × Method × Code × KE × (State → Prop)
/-- the judgement: a method's run, at pc, with locals ls, stack st, memory M, kc cells of ks slots made, comes to Q -/
def V : Cx → Nat → List (Nat × Value) → List Value → GM → Nat → Nat → Prop
  | (p, l, e, R, s, m, args, below, meth, c, K, Q), pc, ls, st, M, kc, ks => ∀ (H : Heap) (locs : List Loc) (lsA : Array Slot), H.size = K.1 + M.1 → va_P K.2.1 vwCl (gw K.1 M) H → va_S (gA K.1) s.heap H locs → lv_has lsA c.maxLocals ls → W p l e R s m args below meth c H locs kc ks Q (F0 m pc lsA st)
/-- what a run's surroundings give -/
def Fx : Cx → String → ByteArray → Nat → Room → KE → Prop
  | (p, _, _, R0, s, m, args, _, _, c, K0, _), own, cc, nL, R, K => p.tables.exec = Jvm.exec ∧ c.code = cc ∧ c.maxLocals = nL ∧ s.vm.findClass own = some m.cls ∧ (∀ w ∈ wsL_law, w.before args s = true) ∧ va_K K.2.1 vwCl (tysK K) s ∧ EV K s s.heap ∧ K.1 ≤ s.heap.size ∧ R0 = R ∧ K0 = K
def MQC (K : KE) (M' : GM) (res : Option Value) : Array Value → State → Outcome → State → Prop := fun _ st oc t => oc = .returned res ∧ WG K M' t ∧ va_F (gA K.1) st t
/-- a method's contract: from the memory M with these arguments it comes back with res and the memory M' -/
def MC (K : KE) (l : Launch) (y : MethodName) (cc : ByteArray) (nL : Nat) (ret : Option FieldType) (rm : Room) (mc ms : Nat) (as : List Value) (M M' : GM) (res : Option Value) : Prop :=
  Met l y (Cond.code y cc nL ret :: wsL_law) rm (va_Pc as (WG K M)) (MQC K M' res) mc ms (gA K.1)
/-- the end that a run must come to -/
def CE : Cx → GM → Option Value → Nat → Nat → Option FieldType → Prop
  | (_, _, _, _, s, _, args, below, meth, _, K, Q), M', res, mc, ms, ret => Q = MQ below (MQC K M' res) args s mc ms (gA K.1) ∧ meth.sig.returnType = ret ∧ meth.locks = false
variable {C : Cx} {own : String} {cc : ByteArray} {nL : Nat} {R : Room} {K : KE} {pc kc ks : Nat} {ls : List (Nat × Value)} {st : List Value} {M : GM}

theorem v_iadd (F : Fx C own cc nL R K) {x y : Int32} (hd : decode cc pc = .ok (.iadd, 1)) (k : V C (pc + 1) ls (.int (x + y) :: st) M kc ks) : V C pc ls (.int y :: .int x :: st) M kc ks := by
  obtain ⟨p, l, e, R0, s, m, args, below, meth, c, K0, Q⟩ := C
  exact fun H locs lsA hz hP hS hl => lv_iadd F.1 F.2.1 hd (k H locs lsA hz hP hS hl)
theorem v_isub (F : Fx C own cc nL R K) {x y : Int32} (hd : decode cc pc = .ok (.isub, 1)) (k : V C (pc + 1) ls (.int (x - y) :: st) M kc ks) : V C pc ls (.int y :: .int x :: st) M kc ks := by
  obtain ⟨p, l, e, R0, s, m, args, below, meth, c, K0, Q⟩ := C
  exact fun H locs lsA hz hP hS hl => lv_isub F.1 F.2.1 hd (k H locs lsA hz hP hS hl)
theorem v_imul (F : Fx C own cc nL R K) {x y : Int32} (hd : decode cc pc = .ok (.imul, 1)) (k : V C (pc + 1) ls (.int (x * y) :: st) M kc ks) : V C pc ls (.int y :: .int x :: st) M kc ks := by
  obtain ⟨p, l, e, R0, s, m, args, below, meth, c, K0, Q⟩ := C
  exact fun H locs lsA hz hP hS hl => lv_imul F.1 F.2.1 hd (k H locs lsA hz hP hS hl)
theorem v_iand (F : Fx C own cc nL R K) {x y : Int32} (hd : decode cc pc = .ok (.iand, 1)) (k : V C (pc + 1) ls (.int (x &&& y) :: st) M kc ks) : V C pc ls (.int y :: .int x :: st) M kc ks := by
  obtain ⟨p, l, e, R0, s, m, args, below, meth, c, K0, Q⟩ := C
  exact fun H locs lsA hz hP hS hl => lv_iand F.1 F.2.1 hd (k H locs lsA hz hP hS hl)
theorem v_ior (F : Fx C own cc nL R K) {x y : Int32} (hd : decode cc pc = .ok (.ior, 1)) (k : V C (pc + 1) ls (.int (x ||| y) :: st) M kc ks) : V C pc ls (.int y :: .int x :: st) M kc ks := by
  obtain ⟨p, l, e, R0, s, m, args, below, meth, c, K0, Q⟩ := C
  exact fun H locs lsA hz hP hS hl => lv_ior F.1 F.2.1 hd (k H locs lsA hz hP hS hl)
theorem v_ixor (F : Fx C own cc nL R K) {x y : Int32} (hd : decode cc pc = .ok (.ixor, 1)) (k : V C (pc + 1) ls (.int (x ^^^ y) :: st) M kc ks) : V C pc ls (.int y :: .int x :: st) M kc ks := by
  obtain ⟨p, l, e, R0, s, m, args, below, meth, c, K0, Q⟩ := C
  exact fun H locs lsA hz hP hS hl => lv_ixor F.1 F.2.1 hd (k H locs lsA hz hP hS hl)
theorem v_ladd (F : Fx C own cc nL R K) {x y : Int64} (hd : decode cc pc = .ok (.ladd, 1)) (k : V C (pc + 1) ls (.long (x + y) :: st) M kc ks) : V C pc ls (.long y :: .long x :: st) M kc ks := by
  obtain ⟨p, l, e, R0, s, m, args, below, meth, c, K0, Q⟩ := C
  exact fun H locs lsA hz hP hS hl => lv_ladd F.1 F.2.1 hd (k H locs lsA hz hP hS hl)
theorem v_lsub (F : Fx C own cc nL R K) {x y : Int64} (hd : decode cc pc = .ok (.lsub, 1)) (k : V C (pc + 1) ls (.long (x - y) :: st) M kc ks) : V C pc ls (.long y :: .long x :: st) M kc ks := by
  obtain ⟨p, l, e, R0, s, m, args, below, meth, c, K0, Q⟩ := C
  exact fun H locs lsA hz hP hS hl => lv_lsub F.1 F.2.1 hd (k H locs lsA hz hP hS hl)
theorem v_lmul (F : Fx C own cc nL R K) {x y : Int64} (hd : decode cc pc = .ok (.lmul, 1)) (k : V C (pc + 1) ls (.long (x * y) :: st) M kc ks) : V C pc ls (.long y :: .long x :: st) M kc ks := by
  obtain ⟨p, l, e, R0, s, m, args, below, meth, c, K0, Q⟩ := C
  exact fun H locs lsA hz hP hS hl => lv_lmul F.1 F.2.1 hd (k H locs lsA hz hP hS hl)
theorem v_land (F : Fx C own cc nL R K) {x y : Int64} (hd : decode cc pc = .ok (.land, 1)) (k : V C (pc + 1) ls (.long (x &&& y) :: st) M kc ks) : V C pc ls (.long y :: .long x :: st) M kc ks := by
  obtain ⟨p, l, e, R0, s, m, args, below, meth, c, K0, Q⟩ := C
  exact fun H locs lsA hz hP hS hl => lv_land F.1 F.2.1 hd (k H locs lsA hz hP hS hl)
theorem v_lor (F : Fx C own cc nL R K) {x y : Int64} (hd : decode cc pc = .ok (.lor, 1)) (k : V C (pc + 1) ls (.long (x ||| y) :: st) M kc ks) : V C pc ls (.long y :: .long x :: st) M kc ks := by
  obtain ⟨p, l, e, R0, s, m, args, below, meth, c, K0, Q⟩ := C
  exact fun H locs lsA hz hP hS hl => lv_lor F.1 F.2.1 hd (k H locs lsA hz hP hS hl)
theorem v_idiv (F : Fx C own cc nL R K) {x y : Int32} (hd : decode cc pc = .ok (.idiv, 1)) (hne : ¬ y = 0) (k : V C (pc + 1) ls (.int (x / y) :: st) M kc ks) : V C pc ls (.int y :: .int x :: st) M kc ks := by
  obtain ⟨p, l, e, R0, s, m, args, below, meth, c, K0, Q⟩ := C
  exact fun H locs lsA hz hP hS hl => lv_idiv F.1 F.2.1 hd hne (k H locs lsA hz hP hS hl)
theorem v_irem (F : Fx C own cc nL R K) {x y : Int32} (hd : decode cc pc = .ok (.irem, 1)) (hne : ¬ y = 0) (k : V C (pc + 1) ls (.int (x - x / y * y) :: st) M kc ks) : V C pc ls (.int y :: .int x :: st) M kc ks := by
  obtain ⟨p, l, e, R0, s, m, args, below, meth, c, K0, Q⟩ := C
  exact fun H locs lsA hz hP hS hl => lv_irem F.1 F.2.1 hd hne (k H locs lsA hz hP hS hl)
theorem v_ldiv (F : Fx C own cc nL R K) {x y : Int64} (hd : decode cc pc = .ok (.ldiv, 1)) (hne : ¬ y = 0) (k : V C (pc + 1) ls (.long (x / y) :: st) M kc ks) : V C pc ls (.long y :: .long x :: st) M kc ks := by
  obtain ⟨p, l, e, R0, s, m, args, below, meth, c, K0, Q⟩ := C
  exact fun H locs lsA hz hP hS hl => lv_ldiv F.1 F.2.1 hd hne (k H locs lsA hz hP hS hl)
theorem v_lrem (F : Fx C own cc nL R K) {x y : Int64} (hd : decode cc pc = .ok (.lrem, 1)) (hne : ¬ y = 0) (k : V C (pc + 1) ls (.long (x - x / y * y) :: st) M kc ks) : V C pc ls (.long y :: .long x :: st) M kc ks := by
  obtain ⟨p, l, e, R0, s, m, args, below, meth, c, K0, Q⟩ := C
  exact fun H locs lsA hz hP hS hl => lv_lrem F.1 F.2.1 hd hne (k H locs lsA hz hP hS hl)
theorem v_ineg (F : Fx C own cc nL R K) {x : Int32} (hd : decode cc pc = .ok (.ineg, 1)) (k : V C (pc + 1) ls (.int (-x) :: st) M kc ks) : V C pc ls (.int x :: st) M kc ks := by
  obtain ⟨p, l, e, R0, s, m, args, below, meth, c, K0, Q⟩ := C
  exact fun H locs lsA hz hP hS hl => lv_ineg F.1 F.2.1 hd (k H locs lsA hz hP hS hl)
theorem v_ishl (F : Fx C own cc nL R K) {x y : Int32} (hd : decode cc pc = .ok (.ishl, 1)) (k : V C (pc + 1) ls (.int (x <<< (y &&& 31)) :: st) M kc ks) : V C pc ls (.int y :: .int x :: st) M kc ks := by
  obtain ⟨p, l, e, R0, s, m, args, below, meth, c, K0, Q⟩ := C
  exact fun H locs lsA hz hP hS hl => lv_ishl F.1 F.2.1 hd (k H locs lsA hz hP hS hl)
theorem v_ishr (F : Fx C own cc nL R K) {x y : Int32} (hd : decode cc pc = .ok (.ishr, 1)) (k : V C (pc + 1) ls (.int (x >>> (y &&& 31)) :: st) M kc ks) : V C pc ls (.int y :: .int x :: st) M kc ks := by
  obtain ⟨p, l, e, R0, s, m, args, below, meth, c, K0, Q⟩ := C
  exact fun H locs lsA hz hP hS hl => lv_ishr F.1 F.2.1 hd (k H locs lsA hz hP hS hl)
theorem v_i2l (F : Fx C own cc nL R K) {x : Int32} (hd : decode cc pc = .ok (.i2l, 1)) (k : V C (pc + 1) ls (.long x.toInt64 :: st) M kc ks) : V C pc ls (.int x :: st) M kc ks := by
  obtain ⟨p, l, e, R0, s, m, args, below, meth, c, K0, Q⟩ := C
  exact fun H locs lsA hz hP hS hl => lv_i2l F.1 F.2.1 hd rfl (k H locs lsA hz hP hS hl)
theorem v_l2i (F : Fx C own cc nL R K) {x : Int64} (hd : decode cc pc = .ok (.l2i, 1)) (k : V C (pc + 1) ls (.int x.toInt32 :: st) M kc ks) : V C pc ls (.long x :: st) M kc ks := by
  obtain ⟨p, l, e, R0, s, m, args, below, meth, c, K0, Q⟩ := C
  exact fun H locs lsA hz hP hS hl => lv_l2i F.1 F.2.1 hd rfl (k H locs lsA hz hP hS hl)
theorem v_i2b (F : Fx C own cc nL R K) {x : Int32} (hd : decode cc pc = .ok (.i2b, 1)) (k : V C (pc + 1) ls (.int x.toInt8.toInt32 :: st) M kc ks) : V C pc ls (.int x :: st) M kc ks := by
  obtain ⟨p, l, e, R0, s, m, args, below, meth, c, K0, Q⟩ := C
  exact fun H locs lsA hz hP hS hl => lv_i2b F.1 F.2.1 hd rfl (k H locs lsA hz hP hS hl)
theorem v_i2s (F : Fx C own cc nL R K) {x : Int32} (hd : decode cc pc = .ok (.i2s, 1)) (k : V C (pc + 1) ls (.int x.toInt16.toInt32 :: st) M kc ks) : V C pc ls (.int x :: st) M kc ks := by
  obtain ⟨p, l, e, R0, s, m, args, below, meth, c, K0, Q⟩ := C
  exact fun H locs lsA hz hP hS hl => lv_i2s F.1 F.2.1 hd rfl (k H locs lsA hz hP hS hl)
theorem v_lshl (F : Fx C own cc nL R K) {x : Int64} {y : Int32} (hd : decode cc pc = .ok (.lshl, 1)) (k : V C (pc + 1) ls (.long (x <<< (y.toInt64 &&& 63)) :: st) M kc ks) : V C pc ls (.int y :: .long x :: st) M kc ks := by
  obtain ⟨p, l, e, R0, s, m, args, below, meth, c, K0, Q⟩ := C
  exact fun H locs lsA hz hP hS hl => lv_lshl F.1 F.2.1 hd rfl (k H locs lsA hz hP hS hl)
theorem v_lshr (F : Fx C own cc nL R K) {x : Int64} {y : Int32} (hd : decode cc pc = .ok (.lshr, 1)) (k : V C (pc + 1) ls (.long (x >>> (y.toInt64 &&& 63)) :: st) M kc ks) : V C pc ls (.int y :: .long x :: st) M kc ks := by
  obtain ⟨p, l, e, R0, s, m, args, below, meth, c, K0, Q⟩ := C
  exact fun H locs lsA hz hP hS hl => lv_lshr F.1 F.2.1 hd rfl (k H locs lsA hz hP hS hl)
theorem v_lushr (F : Fx C own cc nL R K) {x : Int64} {y : Int32} (hd : decode cc pc = .ok (.lushr, 1)) (k : V C (pc + 1) ls (.long ((x.toUInt64 >>> (y.toInt64.toUInt64 &&& Int64.toUInt64 63)).toInt64) :: st) M kc ks) : V C pc ls (.int y :: .long x :: st) M kc ks := by
  obtain ⟨p, l, e, R0, s, m, args, below, meth, c, K0, Q⟩ := C
  exact fun H locs lsA hz hP hS hl => lv_lushr F.1 F.2.1 hd rfl (k H locs lsA hz hP hS hl)
theorem v_lcmp (F : Fx C own cc nL R K) {x y : Int64} (hd : decode cc pc = .ok (.lcmp, 1)) (k : V C (pc + 1) ls (.int (lg_cmp x y) :: st) M kc ks) : V C pc ls (.long y :: .long x :: st) M kc ks := by
  obtain ⟨p, l, e, R0, s, m, args, below, meth, c, K0, Q⟩ := C
  exact fun H locs lsA hz hP hS hl => W.lcmp F.1 F.2.1 hd (k H locs lsA hz hP hS hl)
theorem v_iconst (F : Fx C own cc nL R K) {n : Int} {v : Int32} (hd : decode cc pc = .ok (.iconst n, 1)) (hv : Int32.ofInt n = v) (k : V C (pc + 1) ls (.int v :: st) M kc ks) : V C pc ls (st) M kc ks := by
  obtain ⟨p, l, e, R0, s, m, args, below, meth, c, K0, Q⟩ := C
  exact fun H locs lsA hz hP hS hl => lv_iconst F.1 F.2.1 hd hv (k H locs lsA hz hP hS hl)
theorem v_bipush (F : Fx C own cc nL R K) {n : Int} {v : Int32} (hd : decode cc pc = .ok (.bipush n, 2)) (hv : (Int8.ofInt n).toInt32 = v) (k : V C (pc + 2) ls (.int v :: st) M kc ks) : V C pc ls (st) M kc ks := by
  obtain ⟨p, l, e, R0, s, m, args, below, meth, c, K0, Q⟩ := C
  exact fun H locs lsA hz hP hS hl => lv_bipush F.1 F.2.1 hd hv (k H locs lsA hz hP hS hl)
theorem v_sipush (F : Fx C own cc nL R K) {n : Int} {v : Int32} (hd : decode cc pc = .ok (.sipush n, 3)) (hv : (Int16.ofInt n).toInt32 = v) (k : V C (pc + 3) ls (.int v :: st) M kc ks) : V C pc ls (st) M kc ks := by
  obtain ⟨p, l, e, R0, s, m, args, below, meth, c, K0, Q⟩ := C
  exact fun H locs lsA hz hP hS hl => lv_sipush F.1 F.2.1 hd hv (k H locs lsA hz hP hS hl)
theorem v_lconst (F : Fx C own cc nL R K) {n : Fin 2} {v : Int64} (hd : decode cc pc = .ok (.lconst n, 1)) (hv : Int64.ofNat (n : Nat) = v) (k : V C (pc + 1) ls (.long v :: st) M kc ks) : V C pc ls (st) M kc ks := by
  obtain ⟨p, l, e, R0, s, m, args, below, meth, c, K0, Q⟩ := C
  exact fun H locs lsA hz hP hS hl => lv_lconst F.1 F.2.1 hd hv (k H locs lsA hz hP hS hl)
theorem v_null (F : Fx C own cc nL R K) (hd : decode cc pc = .ok (.aconst_null, 1)) (k : V C (pc + 1) ls (.null :: st) M kc ks) : V C pc ls (st) M kc ks := by
  obtain ⟨p, l, e, R0, s, m, args, below, meth, c, K0, Q⟩ := C
  exact fun H locs lsA hz hP hS hl => lv_null F.1 F.2.1 hd (k H locs lsA hz hP hS hl)
theorem v_ldc (F : Fx C own cc nL R K) {index : Nat} {v : Int32} (hc : Jvm.Cond.constant own index v ∈ wsL_law) (hd : decode cc pc = .ok (.ldc index, 2)) (k : V C (pc + 2) ls (.int v :: st) M kc ks) : V C pc ls (st) M kc ks := by
  obtain ⟨p, l, e, R0, s, m, args, below, meth, c, K0, Q⟩ := C
  exact fun H locs lsA hz hP hS hl => lv_ldc F.1 F.2.1 F.2.2.2.1 (F.2.2.2.2.1 _ hc) hd (k H locs lsA hz hP hS hl)
theorem v_ldcw (F : Fx C own cc nL R K) {index : Nat} {v : Int32} (hc : Jvm.Cond.constant own index v ∈ wsL_law) (hd : decode cc pc = .ok (.ldc_w index, 3)) (k : V C (pc + 3) ls (.int v :: st) M kc ks) : V C pc ls (st) M kc ks := by
  obtain ⟨p, l, e, R0, s, m, args, below, meth, c, K0, Q⟩ := C
  exact fun H locs lsA hz hP hS hl => lv_ldcw F.1 F.2.1 F.2.2.2.1 (F.2.2.2.2.1 _ hc) hd (k H locs lsA hz hP hS hl)
theorem v_ldc2 (F : Fx C own cc nL R K) {index : Nat} {v : Int64} (hc : Jvm.Cond.constantLong own index v ∈ wsL_law) (hd : decode cc pc = .ok (.ldc2_w index, 3)) (k : V C (pc + 3) ls (.long v :: st) M kc ks) : V C pc ls (st) M kc ks := by
  obtain ⟨p, l, e, R0, s, m, args, below, meth, c, K0, Q⟩ := C
  exact fun H locs lsA hz hP hS hl => lv_ldc2 F.1 F.2.1 F.2.2.2.1 (F.2.2.2.2.1 _ hc) hd (k H locs lsA hz hP hS hl)
theorem v_iload_n (F : Fx C own cc nL R K) {kk : Fin 4} {i : Nat} {x : Int32} (hd : decode cc pc = .ok (.iload_n kk, 1)) (hi : (kk : Nat) = i) (j : Nat) (hj : ls[j]? = some (i, .int x)) (k : V C (pc + 1) ls (.int x :: st) M kc ks) : V C pc ls (st) M kc ks := by
  obtain ⟨p, l, e, R0, s, m, args, below, meth, c, K0, Q⟩ := C
  exact fun H locs lsA hz hP hS hl => lv_iload_n F.1 F.2.1 hd hi (lv_at hl j hj) (k H locs lsA hz hP hS hl)
theorem v_iload (F : Fx C own cc nL R K) {i : Nat} {x : Int32} (hd : decode cc pc = .ok (.iload i, 2)) (j : Nat) (hj : ls[j]? = some (i, .int x)) (k : V C (pc + 2) ls (.int x :: st) M kc ks) : V C pc ls (st) M kc ks := by
  obtain ⟨p, l, e, R0, s, m, args, below, meth, c, K0, Q⟩ := C
  exact fun H locs lsA hz hP hS hl => lv_iload F.1 F.2.1 hd (lv_at hl j hj) (k H locs lsA hz hP hS hl)
theorem v_istore_n (F : Fx C own cc nL R K) {kk : Fin 4} {i : Nat} {x : Int32} {ls' : List (Nat × Value)} (hd : decode cc pc = .ok (.istore_n kk, 1)) (hi : (kk : Nat) = i) (hn : i < nL) (hf : (i, Value.int x) :: ls.filter (fun q => !(q.1 == i) && !(q.1 + 1 == i && q.2.category == 2)) = ls') (k : V C (pc + 1) ls' (st) M kc ks) : V C pc ls (.int x :: st) M kc ks := by
  obtain ⟨p, l, e, R0, s, m, args, below, meth, c, K0, Q⟩ := C
  exact fun H locs lsA hz hP hS hl => lv_istore_n F.1 F.2.1 hd hi hl (by have q := F.2.2.1; omega) hf (fun lsB hl => k H locs lsB hz hP hS hl)
theorem v_istore (F : Fx C own cc nL R K) {i : Nat} {x : Int32} {ls' : List (Nat × Value)} (hd : decode cc pc = .ok (.istore i, 2)) (hn : i < nL) (hf : (i, Value.int x) :: ls.filter (fun q => !(q.1 == i) && !(q.1 + 1 == i && q.2.category == 2)) = ls') (k : V C (pc + 2) ls' (st) M kc ks) : V C pc ls (.int x :: st) M kc ks := by
  obtain ⟨p, l, e, R0, s, m, args, below, meth, c, K0, Q⟩ := C
  exact fun H locs lsA hz hP hS hl => lv_istore F.1 F.2.1 hd hl (by have q := F.2.2.1; omega) hf (fun lsB hl => k H locs lsB hz hP hS hl)
theorem v_lload_n (F : Fx C own cc nL R K) {kk : Fin 4} {i : Nat} {x : Int64} (hd : decode cc pc = .ok (.lload_n kk, 1)) (hi : (kk : Nat) = i) (j : Nat) (hj : ls[j]? = some (i, .long x)) (k : V C (pc + 1) ls (.long x :: st) M kc ks) : V C pc ls (st) M kc ks := by
  obtain ⟨p, l, e, R0, s, m, args, below, meth, c, K0, Q⟩ := C
  exact fun H locs lsA hz hP hS hl => lv_lload_n F.1 F.2.1 hd hi (lv_at hl j hj) (k H locs lsA hz hP hS hl)
theorem v_lload (F : Fx C own cc nL R K) {i : Nat} {x : Int64} (hd : decode cc pc = .ok (.lload i, 2)) (j : Nat) (hj : ls[j]? = some (i, .long x)) (k : V C (pc + 2) ls (.long x :: st) M kc ks) : V C pc ls (st) M kc ks := by
  obtain ⟨p, l, e, R0, s, m, args, below, meth, c, K0, Q⟩ := C
  exact fun H locs lsA hz hP hS hl => lv_lload F.1 F.2.1 hd (lv_at hl j hj) (k H locs lsA hz hP hS hl)
theorem v_lstore_n (F : Fx C own cc nL R K) {kk : Fin 4} {i : Nat} {x : Int64} {ls' : List (Nat × Value)} (hd : decode cc pc = .ok (.lstore_n kk, 1)) (hi : (kk : Nat) = i) (hn : i + 1 < nL) (hf : (i, Value.long x) :: ls.filter (fun q => !(q.1 == i) && (!(q.1 == i + 1) && !(q.1 + 1 == i && q.2.category == 2))) = ls') (k : V C (pc + 1) ls' (st) M kc ks) : V C pc ls (.long x :: st) M kc ks := by
  obtain ⟨p, l, e, R0, s, m, args, below, meth, c, K0, Q⟩ := C
  exact fun H locs lsA hz hP hS hl => lv_lstore_n F.1 F.2.1 hd hi hl (by have q := F.2.2.1; omega) hf (fun lsB hl => k H locs lsB hz hP hS hl)
theorem v_lstore (F : Fx C own cc nL R K) {i : Nat} {x : Int64} {ls' : List (Nat × Value)} (hd : decode cc pc = .ok (.lstore i, 2)) (hn : i + 1 < nL) (hf : (i, Value.long x) :: ls.filter (fun q => !(q.1 == i) && (!(q.1 == i + 1) && !(q.1 + 1 == i && q.2.category == 2))) = ls') (k : V C (pc + 2) ls' (st) M kc ks) : V C pc ls (.long x :: st) M kc ks := by
  obtain ⟨p, l, e, R0, s, m, args, below, meth, c, K0, Q⟩ := C
  exact fun H locs lsA hz hP hS hl => lv_lstore F.1 F.2.1 hd hl (by have q := F.2.2.1; omega) hf (fun lsB hl => k H locs lsB hz hP hS hl)
theorem v_aload_n (F : Fx C own cc nL R K) {kk : Fin 4} {i : Nat} {x : Nat} (hd : decode cc pc = .ok (.aload_n kk, 1)) (hi : (kk : Nat) = i) (j : Nat) (hj : ls[j]? = some (i, .ref x)) (k : V C (pc + 1) ls (.ref x :: st) M kc ks) : V C pc ls (st) M kc ks := by
  obtain ⟨p, l, e, R0, s, m, args, below, meth, c, K0, Q⟩ := C
  exact fun H locs lsA hz hP hS hl => lv_aload_n F.1 F.2.1 hd hi (lv_at hl j hj) (k H locs lsA hz hP hS hl)
theorem v_aload (F : Fx C own cc nL R K) {i : Nat} {x : Nat} (hd : decode cc pc = .ok (.aload i, 2)) (j : Nat) (hj : ls[j]? = some (i, .ref x)) (k : V C (pc + 2) ls (.ref x :: st) M kc ks) : V C pc ls (st) M kc ks := by
  obtain ⟨p, l, e, R0, s, m, args, below, meth, c, K0, Q⟩ := C
  exact fun H locs lsA hz hP hS hl => lv_aload F.1 F.2.1 hd (lv_at hl j hj) (k H locs lsA hz hP hS hl)
theorem v_astore_n (F : Fx C own cc nL R K) {kk : Fin 4} {i : Nat} {x : Nat} {ls' : List (Nat × Value)} (hd : decode cc pc = .ok (.astore_n kk, 1)) (hi : (kk : Nat) = i) (hn : i < nL) (hf : (i, Value.ref x) :: ls.filter (fun q => !(q.1 == i) && !(q.1 + 1 == i && q.2.category == 2)) = ls') (k : V C (pc + 1) ls' (st) M kc ks) : V C pc ls (.ref x :: st) M kc ks := by
  obtain ⟨p, l, e, R0, s, m, args, below, meth, c, K0, Q⟩ := C
  exact fun H locs lsA hz hP hS hl => lv_astore_n F.1 F.2.1 hd hi hl (by have q := F.2.2.1; omega) hf (fun lsB hl => k H locs lsB hz hP hS hl)
theorem v_astore (F : Fx C own cc nL R K) {i : Nat} {x : Nat} {ls' : List (Nat × Value)} (hd : decode cc pc = .ok (.astore i, 2)) (hn : i < nL) (hf : (i, Value.ref x) :: ls.filter (fun q => !(q.1 == i) && !(q.1 + 1 == i && q.2.category == 2)) = ls') (k : V C (pc + 2) ls' (st) M kc ks) : V C pc ls (.ref x :: st) M kc ks := by
  obtain ⟨p, l, e, R0, s, m, args, below, meth, c, K0, Q⟩ := C
  exact fun H locs lsA hz hP hS hl => lv_astore F.1 F.2.1 hd hl (by have q := F.2.2.1; omega) hf (fun lsB hl => k H locs lsB hz hP hS hl)
theorem v_aload_nN (F : Fx C own cc nL R K) {kk : Fin 4} {i : Nat} (hd : decode cc pc = .ok (.aload_n kk, 1)) (hi : (kk : Nat) = i) (j : Nat) (hj : ls[j]? = some (i, .null)) (k : V C (pc + 1) ls (.null :: st) M kc ks) : V C pc ls (st) M kc ks := by
  obtain ⟨p, l, e, R0, s, m, args, below, meth, c, K0, Q⟩ := C
  exact fun H locs lsA hz hP hS hl => lv_aload_nN F.1 F.2.1 hd hi (lv_at hl j hj) (k H locs lsA hz hP hS hl)
theorem v_aloadN (F : Fx C own cc nL R K) {i : Nat} (hd : decode cc pc = .ok (.aload i, 2)) (j : Nat) (hj : ls[j]? = some (i, .null)) (k : V C (pc + 2) ls (.null :: st) M kc ks) : V C pc ls (st) M kc ks := by
  obtain ⟨p, l, e, R0, s, m, args, below, meth, c, K0, Q⟩ := C
  exact fun H locs lsA hz hP hS hl => lv_aloadN F.1 F.2.1 hd (lv_at hl j hj) (k H locs lsA hz hP hS hl)
theorem v_astore_nN (F : Fx C own cc nL R K) {kk : Fin 4} {i : Nat} {ls' : List (Nat × Value)} (hd : decode cc pc = .ok (.astore_n kk, 1)) (hi : (kk : Nat) = i) (hn : i < nL) (hf : (i, Value.null) :: ls.filter (fun q => !(q.1 == i) && !(q.1 + 1 == i && q.2.category == 2)) = ls') (k : V C (pc + 1) ls' (st) M kc ks) : V C pc ls (.null :: st) M kc ks := by
  obtain ⟨p, l, e, R0, s, m, args, below, meth, c, K0, Q⟩ := C
  exact fun H locs lsA hz hP hS hl => lv_astore_nN F.1 F.2.1 hd hi hl (by have q := F.2.2.1; omega) hf (fun lsB hl => k H locs lsB hz hP hS hl)
theorem v_astoreN (F : Fx C own cc nL R K) {i : Nat} {ls' : List (Nat × Value)} (hd : decode cc pc = .ok (.astore i, 2)) (hn : i < nL) (hf : (i, Value.null) :: ls.filter (fun q => !(q.1 == i) && !(q.1 + 1 == i && q.2.category == 2)) = ls') (k : V C (pc + 2) ls' (st) M kc ks) : V C pc ls (.null :: st) M kc ks := by
  obtain ⟨p, l, e, R0, s, m, args, below, meth, c, K0, Q⟩ := C
  exact fun H locs lsA hz hP hS hl => lv_astoreN F.1 F.2.1 hd hl (by have q := F.2.2.1; omega) hf (fun lsB hl => k H locs lsB hz hP hS hl)
theorem v_iinc (F : Fx C own cc nL R K) {i j : Nat} {n : Int} {x v : Int32} {ls' : List (Nat × Value)} (hd : decode cc pc = .ok (.iinc i n, 3)) (hj : ls[j]? = some (i, .int x)) (hv : x + Int32.ofInt n = v) (hn : i < nL) (hf : (i, Value.int v) :: ls.filter (fun q => !(q.1 == i) && !(q.1 + 1 == i && q.2.category == 2)) = ls') (k : V C (pc + 3) ls' (st) M kc ks) : V C pc ls (st) M kc ks := by
  obtain ⟨p, l, e, R0, s, m, args, below, meth, c, K0, Q⟩ := C
  exact fun H locs lsA hz hP hS hl => lv_iinc F.1 F.2.1 hd hl hj hv (by have q := F.2.2.1; omega) hf (fun lsB hl => k H locs lsB hz hP hS hl)
theorem v_dup (F : Fx C own cc nL R K) {a : Value} (hd : decode cc pc = .ok (.dup, 1)) (ha : a.category = 1) (k : V C (pc + 1) ls (a :: a :: st) M kc ks) : V C pc ls (a :: st) M kc ks := by
  obtain ⟨p, l, e, R0, s, m, args, below, meth, c, K0, Q⟩ := C
  exact fun H locs lsA hz hP hS hl => lv_dup F.1 F.2.1 hd ha (k H locs lsA hz hP hS hl)
theorem v_dup2 (F : Fx C own cc nL R K) {a b : Value} (hd : decode cc pc = .ok (.dup2, 1)) (ha : a.category = 1) (hb : b.category = 1) (k : V C (pc + 1) ls (b :: a :: b :: a :: st) M kc ks) : V C pc ls (b :: a :: st) M kc ks := by
  obtain ⟨p, l, e, R0, s, m, args, below, meth, c, K0, Q⟩ := C
  exact fun H locs lsA hz hP hS hl => lv_dup2_11 F.1 F.2.1 hd hb ha (k H locs lsA hz hP hS hl)
theorem v_dup2L (F : Fx C own cc nL R K) {a : Value} (hd : decode cc pc = .ok (.dup2, 1)) (ha : a.category = 2) (k : V C (pc + 1) ls (a :: a :: st) M kc ks) : V C pc ls (a :: st) M kc ks := by
  obtain ⟨p, l, e, R0, s, m, args, below, meth, c, K0, Q⟩ := C
  exact fun H locs lsA hz hP hS hl => lv_dup2_2 F.1 F.2.1 hd ha (k H locs lsA hz hP hS hl)
theorem v_pop (F : Fx C own cc nL R K) {a : Value} (hd : decode cc pc = .ok (.pop, 1)) (ha : a.category = 1) (k : V C (pc + 1) ls (st) M kc ks) : V C pc ls (a :: st) M kc ks := by
  obtain ⟨p, l, e, R0, s, m, args, below, meth, c, K0, Q⟩ := C
  exact fun H locs lsA hz hP hS hl => lv_pop F.1 F.2.1 hd ha (k H locs lsA hz hP hS hl)
theorem v_goto (F : Fx C own cc nL R K) {off : Int} {tgt : Nat} (hd : decode cc pc = .ok (.goto off, 3)) (ht : (pc : Int) + off = (tgt : Int)) (k : V C tgt ls (st) M kc ks) : V C pc ls (st) M kc ks := by
  obtain ⟨p, l, e, R0, s, m, args, below, meth, c, K0, Q⟩ := C
  exact fun H locs lsA hz hP hS hl => lv_goto F.1 F.2.1 hd ht (k H locs lsA hz hP hS hl)
theorem v_if_eq (F : Fx C own cc nL R K) {x : Int32} {off : Int} {tgt : Nat} (hd : decode cc pc = .ok (.ifCond .eq off, 3)) (ht : (pc : Int) + off = (tgt : Int)) (kt : x = 0 → V C tgt ls st M kc ks) (kf : ¬ (x = 0) → V C (pc + 3) ls st M kc ks) : V C pc ls (.int x :: st) M kc ks := by
  obtain ⟨p, l, e, R0, s, m, args, below, meth, c, K0, Q⟩ := C
  exact fun H locs lsA hz hP hS hl => lv_if_eq F.1 F.2.1 hd ht (fun q => kt q H locs lsA hz hP hS hl) (fun q => kf q H locs lsA hz hP hS hl)
theorem v_icmp_eq (F : Fx C own cc nL R K) {x y : Int32} {off : Int} {tgt : Nat} (hd : decode cc pc = .ok (.if_icmp .eq off, 3)) (ht : (pc : Int) + off = (tgt : Int)) (kt : x = y → V C tgt ls st M kc ks) (kf : ¬ (x = y) → V C (pc + 3) ls st M kc ks) : V C pc ls (.int y :: .int x :: st) M kc ks := by
  obtain ⟨p, l, e, R0, s, m, args, below, meth, c, K0, Q⟩ := C
  exact fun H locs lsA hz hP hS hl => lv_icmp_eq F.1 F.2.1 hd ht (fun q => kt q H locs lsA hz hP hS hl) (fun q => kf q H locs lsA hz hP hS hl)
theorem v_if_ne (F : Fx C own cc nL R K) {x : Int32} {off : Int} {tgt : Nat} (hd : decode cc pc = .ok (.ifCond .ne off, 3)) (ht : (pc : Int) + off = (tgt : Int)) (kt : ¬ x = 0 → V C tgt ls st M kc ks) (kf : x = 0 → V C (pc + 3) ls st M kc ks) : V C pc ls (.int x :: st) M kc ks := by
  obtain ⟨p, l, e, R0, s, m, args, below, meth, c, K0, Q⟩ := C
  exact fun H locs lsA hz hP hS hl => lv_if_ne F.1 F.2.1 hd ht (fun q => kt q H locs lsA hz hP hS hl) (fun q => kf q H locs lsA hz hP hS hl)
theorem v_icmp_ne (F : Fx C own cc nL R K) {x y : Int32} {off : Int} {tgt : Nat} (hd : decode cc pc = .ok (.if_icmp .ne off, 3)) (ht : (pc : Int) + off = (tgt : Int)) (kt : ¬ x = y → V C tgt ls st M kc ks) (kf : x = y → V C (pc + 3) ls st M kc ks) : V C pc ls (.int y :: .int x :: st) M kc ks := by
  obtain ⟨p, l, e, R0, s, m, args, below, meth, c, K0, Q⟩ := C
  exact fun H locs lsA hz hP hS hl => lv_icmp_ne F.1 F.2.1 hd ht (fun q => kt q H locs lsA hz hP hS hl) (fun q => kf q H locs lsA hz hP hS hl)
theorem v_if_lt (F : Fx C own cc nL R K) {x : Int32} {off : Int} {tgt : Nat} (hd : decode cc pc = .ok (.ifCond .lt off, 3)) (ht : (pc : Int) + off = (tgt : Int)) (kt : x < 0 → V C tgt ls st M kc ks) (kf : ¬ (x < 0) → V C (pc + 3) ls st M kc ks) : V C pc ls (.int x :: st) M kc ks := by
  obtain ⟨p, l, e, R0, s, m, args, below, meth, c, K0, Q⟩ := C
  exact fun H locs lsA hz hP hS hl => lv_if_lt F.1 F.2.1 hd ht (fun q => kt q H locs lsA hz hP hS hl) (fun q => kf q H locs lsA hz hP hS hl)
theorem v_icmp_lt (F : Fx C own cc nL R K) {x y : Int32} {off : Int} {tgt : Nat} (hd : decode cc pc = .ok (.if_icmp .lt off, 3)) (ht : (pc : Int) + off = (tgt : Int)) (kt : x < y → V C tgt ls st M kc ks) (kf : ¬ (x < y) → V C (pc + 3) ls st M kc ks) : V C pc ls (.int y :: .int x :: st) M kc ks := by
  obtain ⟨p, l, e, R0, s, m, args, below, meth, c, K0, Q⟩ := C
  exact fun H locs lsA hz hP hS hl => lv_icmp_lt F.1 F.2.1 hd ht (fun q => kt q H locs lsA hz hP hS hl) (fun q => kf q H locs lsA hz hP hS hl)
theorem v_if_ge (F : Fx C own cc nL R K) {x : Int32} {off : Int} {tgt : Nat} (hd : decode cc pc = .ok (.ifCond .ge off, 3)) (ht : (pc : Int) + off = (tgt : Int)) (kt : 0 ≤ x → V C tgt ls st M kc ks) (kf : ¬ (0 ≤ x) → V C (pc + 3) ls st M kc ks) : V C pc ls (.int x :: st) M kc ks := by
  obtain ⟨p, l, e, R0, s, m, args, below, meth, c, K0, Q⟩ := C
  exact fun H locs lsA hz hP hS hl => lv_if_ge F.1 F.2.1 hd ht (fun q => kt q H locs lsA hz hP hS hl) (fun q => kf q H locs lsA hz hP hS hl)
theorem v_icmp_ge (F : Fx C own cc nL R K) {x y : Int32} {off : Int} {tgt : Nat} (hd : decode cc pc = .ok (.if_icmp .ge off, 3)) (ht : (pc : Int) + off = (tgt : Int)) (kt : y ≤ x → V C tgt ls st M kc ks) (kf : ¬ (y ≤ x) → V C (pc + 3) ls st M kc ks) : V C pc ls (.int y :: .int x :: st) M kc ks := by
  obtain ⟨p, l, e, R0, s, m, args, below, meth, c, K0, Q⟩ := C
  exact fun H locs lsA hz hP hS hl => lv_icmp_ge F.1 F.2.1 hd ht (fun q => kt q H locs lsA hz hP hS hl) (fun q => kf q H locs lsA hz hP hS hl)
theorem v_if_gt (F : Fx C own cc nL R K) {x : Int32} {off : Int} {tgt : Nat} (hd : decode cc pc = .ok (.ifCond .gt off, 3)) (ht : (pc : Int) + off = (tgt : Int)) (kt : 0 < x → V C tgt ls st M kc ks) (kf : ¬ (0 < x) → V C (pc + 3) ls st M kc ks) : V C pc ls (.int x :: st) M kc ks := by
  obtain ⟨p, l, e, R0, s, m, args, below, meth, c, K0, Q⟩ := C
  exact fun H locs lsA hz hP hS hl => lv_if_gt F.1 F.2.1 hd ht (fun q => kt q H locs lsA hz hP hS hl) (fun q => kf q H locs lsA hz hP hS hl)
theorem v_icmp_gt (F : Fx C own cc nL R K) {x y : Int32} {off : Int} {tgt : Nat} (hd : decode cc pc = .ok (.if_icmp .gt off, 3)) (ht : (pc : Int) + off = (tgt : Int)) (kt : y < x → V C tgt ls st M kc ks) (kf : ¬ (y < x) → V C (pc + 3) ls st M kc ks) : V C pc ls (.int y :: .int x :: st) M kc ks := by
  obtain ⟨p, l, e, R0, s, m, args, below, meth, c, K0, Q⟩ := C
  exact fun H locs lsA hz hP hS hl => lv_icmp_gt F.1 F.2.1 hd ht (fun q => kt q H locs lsA hz hP hS hl) (fun q => kf q H locs lsA hz hP hS hl)
theorem v_if_le (F : Fx C own cc nL R K) {x : Int32} {off : Int} {tgt : Nat} (hd : decode cc pc = .ok (.ifCond .le off, 3)) (ht : (pc : Int) + off = (tgt : Int)) (kt : x ≤ 0 → V C tgt ls st M kc ks) (kf : ¬ (x ≤ 0) → V C (pc + 3) ls st M kc ks) : V C pc ls (.int x :: st) M kc ks := by
  obtain ⟨p, l, e, R0, s, m, args, below, meth, c, K0, Q⟩ := C
  exact fun H locs lsA hz hP hS hl => lv_if_le F.1 F.2.1 hd ht (fun q => kt q H locs lsA hz hP hS hl) (fun q => kf q H locs lsA hz hP hS hl)
theorem v_icmp_le (F : Fx C own cc nL R K) {x y : Int32} {off : Int} {tgt : Nat} (hd : decode cc pc = .ok (.if_icmp .le off, 3)) (ht : (pc : Int) + off = (tgt : Int)) (kt : x ≤ y → V C tgt ls st M kc ks) (kf : ¬ (x ≤ y) → V C (pc + 3) ls st M kc ks) : V C pc ls (.int y :: .int x :: st) M kc ks := by
  obtain ⟨p, l, e, R0, s, m, args, below, meth, c, K0, Q⟩ := C
  exact fun H locs lsA hz hP hS hl => lv_icmp_le F.1 F.2.1 hd ht (fun q => kt q H locs lsA hz hP hS hl) (fun q => kf q H locs lsA hz hP hS hl)
theorem v_ifnull (F : Fx C own cc nL R K) {x : Nat} {off : Int} (hd : decode cc pc = .ok (.ifnull off, 3)) (k : V C (pc + 3) ls (st) M kc ks) : V C pc ls (.ref x :: st) M kc ks := by
  obtain ⟨p, l, e, R0, s, m, args, below, meth, c, K0, Q⟩ := C
  exact fun H locs lsA hz hP hS hl => lv_ifnull F.1 F.2.1 hd (k H locs lsA hz hP hS hl)
theorem v_ifnullN (F : Fx C own cc nL R K) {off : Int} {tgt : Nat} (hd : decode cc pc = .ok (.ifnull off, 3)) (ht : (pc : Int) + off = (tgt : Int)) (k : V C tgt ls (st) M kc ks) : V C pc ls (.null :: st) M kc ks := by
  obtain ⟨p, l, e, R0, s, m, args, below, meth, c, K0, Q⟩ := C
  exact fun H locs lsA hz hP hS hl => lv_ifnullN F.1 F.2.1 hd ht (k H locs lsA hz hP hS hl)
theorem v_ifnonnull (F : Fx C own cc nL R K) {x : Nat} {off : Int} {tgt : Nat} (hd : decode cc pc = .ok (.ifnonnull off, 3)) (ht : (pc : Int) + off = (tgt : Int)) (k : V C tgt ls (st) M kc ks) : V C pc ls (.ref x :: st) M kc ks := by
  obtain ⟨p, l, e, R0, s, m, args, below, meth, c, K0, Q⟩ := C
  exact fun H locs lsA hz hP hS hl => lv_ifnonnull F.1 F.2.1 hd ht (k H locs lsA hz hP hS hl)
theorem v_ifnonnullN (F : Fx C own cc nL R K) {off : Int} (hd : decode cc pc = .ok (.ifnonnull off, 3)) (k : V C (pc + 3) ls (st) M kc ks) : V C pc ls (.null :: st) M kc ks := by
  obtain ⟨p, l, e, R0, s, m, args, below, meth, c, K0, Q⟩ := C
  exact fun H locs lsA hz hP hS hl => lv_ifnonnullN F.1 F.2.1 hd (k H locs lsA hz hP hS hl)
theorem v_tblOut (F : Fx C own cc nL R K) {dflt lo hi : Int} {offs : Array Int} {len : Nat} {x : Int32} {tgt : Nat} (hd : decode cc pc = .ok (.tableswitch dflt lo hi offs, len)) (h : x.toInt < lo ∨ hi < x.toInt) (ht : (pc : Int) + dflt = (tgt : Int)) (k : V C tgt ls (st) M kc ks) : V C pc ls (.int x :: st) M kc ks := by
  obtain ⟨p, l, e, R0, s, m, args, below, meth, c, K0, Q⟩ := C
  exact fun H locs lsA hz hP hS hl => lv_tableOut F.1 F.2.1 hd h ht (k H locs lsA hz hP hS hl)
theorem v_tblIn (F : Fx C own cc nL R K) {dflt lo hi : Int} {offs : Array Int} {len : Nat} {x : Int32} {off : Int} {tgt : Nat} (hd : decode cc pc = .ok (.tableswitch dflt lo hi offs, len)) (h1 : ¬ x.toInt < lo) (h2 : ¬ hi < x.toInt) (ho : offs[(x.toInt - lo).toNat]? = some off) (ht : (pc : Int) + off = (tgt : Int)) (k : V C tgt ls (st) M kc ks) : V C pc ls (.int x :: st) M kc ks := by
  obtain ⟨p, l, e, R0, s, m, args, below, meth, c, K0, Q⟩ := C
  exact fun H locs lsA hz hP hS hl => lv_tableIn F.1 F.2.1 hd h1 h2 ho ht (k H locs lsA hz hP hS hl)
theorem v_sub {ls' : List (Nat × Value)} (ks' : List Nat) (h : lv_pick ls ks' = ls') (k : V C pc ls' st M kc ks) : V C pc ls st M kc ks := by
  obtain ⟨p, l, e, R0, s, m, args, below, meth, c, K0, Q⟩ := C
  exact fun H locs lsA hz hP hS hl => k H locs lsA hz hP hS (lv_sub hl ks' h)
theorem v_wide {kc' ks1 : Nat} (h1 : kc ≤ kc') (h2 : ks ≤ ks1) (k : V C pc ls st M kc' ks1) : V C pc ls st M kc ks := by
  obtain ⟨p, l, e, R0, s, m, args, below, meth, c, K0, Q⟩ := C
  exact fun H locs lsA hz hP hS hl => W.widen h1 h2 (k H locs lsA hz hP hS hl)

theorem v_eqM {M' : GM} (h : M = M') (k : V C pc ls st M' kc ks) : V C pc ls st M kc ks := h ▸ k
theorem g_set {D : va_G} {B : Nat} {H H1 : Heap} {q : Nat} {e : va_E} (hP : va_P D vwCl (gw B M) H) (hq : q < M.1) (he : va_at D vwCl (B + q, e) H1) (oq : ∀ a, a ≠ B + q → H1[a]? = H[a]?) : va_P D vwCl (gw B (gu M q e)) H1 := by
  have h := hP.set gw_D (gw_at hq) he oq
  rwa [gw_set hq] at h
theorem g_push {D : va_G} {B : Nat} {H H1 : Heap} {e : va_E} (hP : va_P D vwCl (gw B M) H) (he : va_at D vwCl (B + M.1, e) H1) (old : ∀ a, a < H.size → H1[a]? = H[a]?) : va_P D vwCl (gw B (gp M e)) H1 := by
  rw [← gw_push]
  refine (hP.kept (fun k x hx => old _ (hP k x hx).lt)).app (fun k x hx => ?_)
  have hz : k < 1 := (List.getElem?_eq_some_iff.mp hx).1
  rw [show k = 0 by omega] at hx
  cases hx
  exact he
theorem g_S {B : Nat} {H0 H H1 : Heap} {locs : List Loc} (hB : B ≤ H0.size) (hS : va_S (gA B) H0 H locs) (z : H1.size = H.size + 1) (old : ∀ a, a < H.size → H1[a]? = H[a]?) : va_S (gA B) H0 H1 locs := ⟨Nat.le_trans hS.1 (by omega), fun x h1 h2 => (old x (Nat.lt_of_lt_of_le h1 hS.1)).trans (hS.2.1 x h1 h2), hS.2.2⟩
section ROWS
variable {ref CC : String} {T : u_T} {N ci index : Nat} {fs : List Value} {v : Value}
/-- reading a field of the object q -/
theorem v_get (F : Fx C own cc nL R K) (q : Nat) (hq : q < M.1) (he : M.2 q = .inr (ci, fs)) (hc : vwCl[ci]? = some (CC, T, N)) (hin : ∀ w ∈ u_ws CC T N, w ∈ wsL_law) (i : Nat) (hi : i < N) (hlink : Cond.fieldLink own index ref (T i).2.1 (T i).2.2.1 ∈ wsL_law) (href : (T i).1 = ref) (hv : fs[i]? = some v) (hd : decode cc pc = .ok (.getfield index, 3))
    (k : V C (pc + 3) ls (v :: st) M kc ks) : V C pc ls (.ref (K.1 + q) :: st) M kc ks := by
  obtain ⟨p, l, e, R0, s, m, args, below, meth, c, K0, Q⟩ := C
  obtain ⟨hx, hb, hml, hown, hts, hK, hE, hB, rfl, rfl⟩ := F
  intro H locs lsA hz hP hS hl
  exact va_get hx hb hts hin hown hK hP q (by rw [gw_at hq, he]) hc i hi (hts _ hlink) (fun x h => by rw [← href]; exact h) hv hd (k H locs lsA hz hP hS hl)
theorem v_getN (F : Fx C own cc nL R K) (q : Nat) (hq : q < M.1) (he : M.2 q = .inr (ci, fs)) (hc : vwCl[ci]? = some (CC, T, N)) (hin : ∀ w ∈ u_ws CC T N, w ∈ wsL_law) (i : Nat) (hi : i < N) (hlink : (own, index, ref, (T i).2.1, (T i).2.2.1) ∈ nestF) (href : (T i).1 = ref) (hv : fs[i]? = some v) (hd : decode cc pc = .ok (.getfield index, 3))
    (k : V C (pc + 3) ls (v :: st) M kc ks) : V C pc ls (.ref (K.1 + q) :: st) M kc ks := by
  obtain ⟨p, l, e, R0, s, m, args, below, meth, c, K0, Q⟩ := C
  obtain ⟨hx, hb, hml, hown, hts, hK, hE, hB, rfl, rfl⟩ := F
  intro H locs lsA hz hP hS hl
  exact va_getN hx hb hts hin hown hK hP q (by rw [gw_at hq, he]) hc i hi (va_Nw.use rfl (hE.1 _ hlink)) (fun x h => by rw [← href]; exact h) hv hd (k H locs lsA hz hP hS hl)
/-- writing a field of the object q -/
theorem v_put {ty0 : Nat → FieldType} {ty : FieldType} (F : Fx C own cc nL R K) (q : Nat) (hq : q < M.1) (he : M.2 q = .inr (ci, fs)) (hc : vwCl[ci]? = some (CC, T, N)) (hin : ∀ w ∈ u_ws CC T N, w ∈ wsL_law) (hty : ∀ k, k < N → parseFieldDescriptor (T k).2.2.1 = some (ty0 k)) (hnm : ∀ a, a < N → ∀ b, b < N → a ≠ b → (T a).2.1 ≠ (T b).2.1) (i : Nat) (hi : i < N) (hlink : Cond.fieldLink own index ref (T i).2.1 (T i).2.2.1 ∈ wsL_law) (href : (T i).1 = ref) (hfin : (T i).2.2.2 = false) (hy : parseFieldDescriptor (T i).2.2.1 = some ty) (hn : narrow ty v = v) (hfit : fits ty v = true) (hl0 : i < fs.length) (hd : decode cc pc = .ok (.putfield index, 3))
    (k : V C (pc + 3) ls st (gu M q (.inr (ci, fs.set i v))) kc ks) : V C pc ls (v :: .ref (K.1 + q) :: st) M kc ks := by
  obtain ⟨p, l, e, R0, s, m, args, below, meth, c, K0, Q⟩ := C
  obtain ⟨hx, hb, hml, hown, hts, hK, hE, hB, rfl, rfl⟩ := F
  intro H locs lsA hz hP hS hl
  have hap := va_apart (own := own) hts hin ty0 hty hnm hK hc
  obtain ⟨r, h1, cell, q1, q2, q3, q4⟩ := hP q _ ((gw_at hq).trans (by rw [he]))
  have hr : r = (CC, T, N) := Option.some.inj (h1.symm.trans hc)
  subst hr
  obtain ⟨hSl, hfc, kC, hkC, hkind⟩ := hK.1 ci _ hc
  obtain ⟨cf, kf, fi, f, hfi, hsl⟩ := hSl i hi
  have hlay := hts _ (hin _ (u_in_lay hi))
  unfold u_lay at hlay
  rw [if_neg (by rw [hfin]; decide)] at hlay
  have hst := (u_facts hfc hkC (u_lays hts hin hi) hfi).1
  have h6 := u_store hfc hkC hkind hlay hfi hy hn hfit
  refine W.putK hx hb (f := f) ⟨hown, hts _ hlink, ⟨_, _, _, by rw [← href]; exact hfi⟩, hst⟩ (by rw [q2]; exact h6) q1 q3 (by rw [hsl]; exact k2_hasslot (q4 i hi)) rfl rfl hd fun H' e1 e2 e3 => ?_
  rw [hsl] at e1 ⊢
  exact k H' _ lsA (by rw [e2]; exact hz) (g_set hP hq ⟨_, hc, t_OB.to (V := updV (vp_V fs) i v) ⟨_, e1, q2, q3, t_set q4 hap hi v⟩ (fun j _ => vp_updV_set hl0 v j)⟩ e3) (hS.put e2 e3 (Nat.le_add_right _ _)) hl
theorem v_putN {ty0 : Nat → FieldType} {ty : FieldType} (F : Fx C own cc nL R K) (q : Nat) (hq : q < M.1) (he : M.2 q = .inr (ci, fs)) (hc : vwCl[ci]? = some (CC, T, N)) (hin : ∀ w ∈ u_ws CC T N, w ∈ wsL_law) (hty : ∀ k, k < N → parseFieldDescriptor (T k).2.2.1 = some (ty0 k)) (hnm : ∀ a, a < N → ∀ b, b < N → a ≠ b → (T a).2.1 ≠ (T b).2.1) (i : Nat) (hi : i < N) (hlink : (own, index, ref, (T i).2.1, (T i).2.2.1) ∈ nestF) (href : (T i).1 = ref) (hfin : (T i).2.2.2 = false) (hy : parseFieldDescriptor (T i).2.2.1 = some ty) (hn : narrow ty v = v) (hfit : fits ty v = true) (hl0 : i < fs.length) (hd : decode cc pc = .ok (.putfield index, 3))
    (k : V C (pc + 3) ls st (gu M q (.inr (ci, fs.set i v))) kc ks) : V C pc ls (v :: .ref (K.1 + q) :: st) M kc ks := by
  obtain ⟨p, l, e, R0, s, m, args, below, meth, c, K0, Q⟩ := C
  obtain ⟨hx, hb, hml, hown, hts, hK, hE, hB, rfl, rfl⟩ := F
  intro H locs lsA hz hP hS hl
  have hap := va_apart (own := own) hts hin ty0 hty hnm hK hc
  obtain ⟨r, h1, cell, q1, q2, q3, q4⟩ := hP q _ ((gw_at hq).trans (by rw [he]))
  have hr : r = (CC, T, N) := Option.some.inj (h1.symm.trans hc)
  subst hr
  obtain ⟨hSl, hfc, kC, hkC, hkind⟩ := hK.1 ci _ hc
  obtain ⟨cf, kf, fi, f, hfi, hsl⟩ := hSl i hi
  have hlay := hts _ (hin _ (u_in_lay hi))
  unfold u_lay at hlay
  rw [if_neg (by rw [hfin]; decide)] at hlay
  have hst := (u_facts hfc hkC (u_lays hts hin hi) hfi).1
  have h6 := u_store hfc hkC hkind hlay hfi hy hn hfit
  have hlk := va_Nw.use (A := args) rfl (hE.1 _ hlink)
  refine va_WputK hx hb (f := f) hown hlk (by rw [← href]; exact hfi) hst (by rw [q2]; exact h6) q1 q3 (by rw [hsl]; exact k2_hasslot (q4 i hi)) rfl rfl hd fun H' e1 e2 e3 => ?_
  rw [hsl] at e1 ⊢
  exact k H' _ lsA (by rw [e2]; exact hz) (g_set hP hq ⟨_, hc, t_OB.to (V := updV (vp_V fs) i v) ⟨_, e1, q2, q3, t_set q4 hap hi v⟩ (fun j _ => vp_updV_set hl0 v j)⟩ e3) (hS.put e2 e3 (Nat.le_add_right _ _)) hl
/-- reading, writing an int array -/
theorem v_iald {n : Nat} {f : Nat → Int32} {i : Int32} (F : Fx C own cc nL R K) (q : Nat) (hq : q < M.1) (he : M.2 q = .inl (K.2.2.1 0, n, .inl f)) (hin : vp_in i n) (hd : decode cc pc = .ok (.iaload, 1))
    (k : V C (pc + 1) ls (.int (f i.toNatClampNeg) :: st) M kc ks) : V C pc ls (.int i :: .ref (K.1 + q) :: st) M kc ks := by
  obtain ⟨p, l, e, R0, s, m, args, below, meth, c, K0, Q⟩ := C
  obtain ⟨hx, hb, hml, hown, hts, hK, hE, hB, rfl, rfl⟩ := F
  intro H locs lsA hz hP hS hl
  exact va_iald hx hb hK hP q 0 ((gw_at hq).trans (by rw [he])) rfl hin hd (k H locs lsA hz hP hS hl)
theorem v_lald {n : Nat} {f : Nat → Int64} {i : Int32} (F : Fx C own cc nL R K) (q : Nat) (hq : q < M.1) (he : M.2 q = .inl (K.2.2.1 1, n, .inr (.inl f))) (hin : vp_in i n) (hd : decode cc pc = .ok (.laload, 1))
    (k : V C (pc + 1) ls (.long (f i.toNatClampNeg) :: st) M kc ks) : V C pc ls (.int i :: .ref (K.1 + q) :: st) M kc ks := by
  obtain ⟨p, l, e, R0, s, m, args, below, meth, c, K0, Q⟩ := C
  obtain ⟨hx, hb, hml, hown, hts, hK, hE, hB, rfl, rfl⟩ := F
  intro H locs lsA hz hP hS hl
  exact va_lald hx hb hK hP q 1 ((gw_at hq).trans (by rw [he])) rfl hin hd (k H locs lsA hz hP hS hl)
theorem v_aald {n t : Nat} {f : Nat → Option Nat} {i : Int32} {ty : FieldType} (F : Fx C own cc nL R K) (q : Nat) (hq : q < M.1) (he : M.2 q = .inl (K.2.2.1 t, n, .inr (.inr (.inr (.inr f))))) (ht : (tysK K)[t]? = some (K.2.2.1 t, ty)) (href : ty.isReference = true) (hin : vp_in i n) (hd : decode cc pc = .ok (.aaload, 1))
    (k : V C (pc + 1) ls (va_rf (f i.toNatClampNeg) :: st) M kc ks) : V C pc ls (.int i :: .ref (K.1 + q) :: st) M kc ks := by
  obtain ⟨p, l, e, R0, s, m, args, below, meth, c, K0, Q⟩ := C
  obtain ⟨hx, hb, hml, hown, hts, hK, hE, hB, rfl, rfl⟩ := F
  intro H locs lsA hz hP hS hl
  have hlt : i.toNatClampNeg < n := Nat.not_le.mp fun z => hin (Or.inr z)
  have hc : H[K0.1 + q]? = some (arrV (K0.2.2.1 t) n (fun j => va_rf (f j))) := by
    have h := hP q (K0.1 + q, .inl (K0.2.2.1 t, n, .inr (.inr (.inr (.inr f))))) ((gw_at hq).trans (by rw [he]))
    exact h
  exact W.aald (v := va_rf (f i.toNatClampNeg)) (ty := ty) hx hb hc ((hK.2 t _ ht).1 n (fun j => va_rf (f j))) href (fun z => by cases z) (by rw [arrV_size]; exact hin) (by rw [arrV_read _ _ hlt]) rfl rfl hd (k H locs lsA hz hP hS hl)
theorem v_alen {cA : ClassId} {x : vp_A} {t : Nat} {ty : FieldType} {n : Int32} (F : Fx C own cc nL R K) (q : Nat) (hq : q < M.1) (he : M.2 q = .inl (cA, x)) (ht : (tysK K)[t]? = some (cA, ty)) (hv : Int32.ofNat x.1 = n) (hd : decode cc pc = .ok (.arraylength, 1))
    (k : V C (pc + 1) ls (.int n :: st) M kc ks) : V C pc ls (.ref (K.1 + q) :: st) M kc ks := by
  obtain ⟨p, l, e, R0, s, m, args, below, meth, c, K0, Q⟩ := C
  obtain ⟨hx, hb, hml, hown, hts, hK, hE, hB, rfl, rfl⟩ := F
  intro H locs lsA hz hP hS hl
  exact va_alen hx hb hK hP q t ((gw_at hq).trans (by rw [he])) ht hv hd (k H locs lsA hz hP hS hl)
theorem v_iast {n : Nat} {f : Nat → Int32} {i x : Int32} (F : Fx C own cc nL R K) (q : Nat) (hq : q < M.1) (he : M.2 q = .inl (K.2.2.1 0, n, .inl f)) (hin : vp_in i n) (hd : decode cc pc = .ok (.iastore, 1))
    (k : V C (pc + 1) ls st (gu M q (.inl (K.2.2.1 0, n, .inl (upd f i.toNatClampNeg x)))) kc ks) : V C pc ls (.int x :: .int i :: .ref (K.1 + q) :: st) M kc ks := by
  obtain ⟨p, l, e, R0, s, m, args, below, meth, c, K0, Q⟩ := C
  obtain ⟨hx, hb, hml, hown, hts, hK, hE, hB, rfl, rfl⟩ := F
  intro H locs lsA hz hP hS hl
  have hc : H[K0.1 + q]? = some (arrV (K0.2.2.1 0) n (fun j => .int (f j))) := hP q (K0.1 + q, .inl (K0.2.2.1 0, n, .inl f)) ((gw_at hq).trans (by rw [he]))
  refine W.iast hx hb hc ((hK.2 0 _ rfl).1 n (fun j => .int (f j))) (fun z => by cases z) (by show ¬ (i < 0 ∨ (arrV _ _ _).slots.size ≤ _); rw [arrV_size]; exact hin) rfl rfl hd fun H1 e1 z oq => ?_
  have hset : H1[K0.1 + q]? = some (arrV (K0.2.2.1 0) n (fun j => .int (upd f i.toNatClampNeg x j))) := by
    rw [e1, arrV_store]
    refine congrArg some (congrArg (arrV _ n) (funext fun j => ?_))
    by_cases hj : j = i.toNatClampNeg <;> simp [updV, upd, hj]
  exact k H1 _ lsA (by rw [z]; exact hz) (g_set hP hq hset oq) (hS.put z oq (Nat.le_add_right _ _)) hl
end ROWS

/-! what comes back, calls, starts and ends -/
theorem gG {ws : List Cond} (h : ∀ w ∈ ws, w ∈ wsL_law) : GoodIn wsL_law ws := fun w hw => ⟨h w hw, good_of_word (List.all_eq_true.mp wsG w (h w hw))⟩
section CALLS
variable {y : MethodName} {cb : ByteArray} {nc : Nat} {rc : Option FieldType} {rm : Room} {mc ms : Nat} {as : List Value} {M' : GM} {res : Option Value} {index : Nat}
theorem gC (hcode : Cond.code y cb nc rc ∈ wsL_law) : ∀ w ∈ (Cond.code y cb nc rc :: wsL_law), w ∈ wsL_law := fun w h => by
  rcases List.mem_cons.mp h with e | h
  · rw [e]; exact hcode
  · exact h
theorem wg_blind {vs : List Value} : FrameBlind (va_Pc vs (WG K M)) := fun a U g mk q => by
  obtain ⟨q0, q1, qP, qK, qE⟩ := q
  exact ⟨q0, q1, qP, va_K.moved (u := U) (U := U.calling g mk a) (Vm.Alike.refl U.vm) qK, by
    obtain ⟨e1, e2, e3, e4, e5, e6, e7, e8⟩ := qE
    exact ⟨fun q hm => (e1 q hm).same rfl rfl, fun q hm => (e2 q hm).same rfl rfl, fun i q hi => ⟨(e3 i q hi).1.moved (Vm.Alike.refl U.vm), (e3 i q hi).2.moved (Vm.Alike.refl U.vm)⟩, e4.moved (Vm.Alike.refl U.vm), fun i q hi => (e5 i q hi).same rfl, e6.moved (Vm.Alike.refl U.vm), e7.moved (Vm.Alike.refl U.vm), e8.moved (u := U) (Vm.Alike.refl U.vm)⟩⟩
theorem wg_go {s U : State} {H : Heap} {locs : List Loc} (hK : va_K K.2.1 vwCl (tysK K) s) (hE : EV K s s.heap) (hB : K.1 ≤ s.heap.size) (hz : H.size = K.1 + M.1) (hP : va_P K.2.1 vwCl (gw K.1 M) H) (hS : va_S (gA K.1) s.heap H locs) (hU : U.heap = H) (hW : s.WarmedH U.vm) : WG K M U :=
  ⟨by rw [hU]; exact hz, by rw [hU]; exact hP, va_K.moved hW.alike hK, by rw [hU]; exact hE.go hW (fun a h1 h2 => hS.2.1 a h1 h2)⟩
/-- behind a call -/
theorem v_back {p : Program} {l : Launch} {e : Env} {R : Room} {s : State} {m : MethodId} {args : Array Value} {below : List Frame} {meth : Method} {c : Code} {Q : State → Prop} {H : Heap} {locs : List Loc} {lsA : Array Slot} {pc : Nat} {st0 rest : List Value} {a : Array Value}
    (hr : va_Run p l e R s m args below meth c H locs kc ks mc ms (F0 m pc lsA st0) rest (MQC K M' res a) (gA K.1)) (hB : K.1 ≤ s.heap.size) (hS : va_S (gA K.1) s.heap H locs) (hl : lv_has lsA c.maxLocals ls)
    (k : V (p, l, e, R, s, m, args, below, meth, c, K, Q) (pc + 3) ls (res.toList ++ rest) M' (kc + mc) (ks + ms)) : W p l e R s m args below meth c H locs kc ks Q (F0 m pc lsA st0) := by
  intro T hT X
  obtain ⟨v, st₀, t, T', L, h0, X', hL, e1, e2, ⟨ho, hw, hz, hk⟩, st⟩ := hr T hT X
  cases ho
  rw [h0] at hz hk
  obtain ⟨w1, w2, w3, w4⟩ := hw
  rw [← e1] at w1 w2
  have hF : ∀ q : Nat, q < H.size → ¬ gA K.1 q → T'.heap[q]? = H[q]? := fun q h1 h2 => by rw [e1]; exact hk q h1 h2
  obtain ⟨t2, a1, b1⟩ := k T'.heap (locs ++ L) lsA w1 w2 ⟨Nat.le_trans hS.1 (by rw [e1]; exact hz), fun q h1 h2 => (hF q (Nat.lt_of_lt_of_le h1 hS.1) h2).trans (hS.2.1 q h1 h2), fun q hq => by
      rcases List.mem_append.mp hq with h | h
      · exact hS.2.2 q h
      · exact hL q h⟩ hl T' rfl X'
  exact ⟨t2, st t2 a1, b1⟩
theorem v_callS (na : Nat) (F : Fx C own cc nL R K) (hM : MC K C.2.1 y cb nc rc rm mc ms as M M' res) (hlink : Cond.methodLink own index y ∈ wsL_law) (hst : Cond.static y ∈ wsL_law) (hini : Cond.initialized y.cls ∈ wsL_law) (hcode : Cond.code y cb nc rc ∈ wsL_law) (hy : y.cls ≠ "java/lang/invoke/MethodHandle" ∧ y.cls ≠ "java/lang/invoke/VarHandle" ∧ (parseMethodDescriptor y.desc).map (fun d => d.parameters.length) = some na) (hna : as.length = na) (hrm : rm.cells = mc ∧ rm.slots = ms ∧ rm.frames + 1 ≤ R.frames ∧ 8 + (nc + 11) + rm.locals ≤ R.locals) (hroom : kc + mc ≤ R.cells ∧ ks + ms ≤ R.slots) {st0 : List Value} (hs0 : st0 = as.reverse ++ st) (hw8 : (st.map fun v => v.category).sum ≤ 8) {st1 : List Value} {kc1 ks1 : Nat} (hs1 : res.toList ++ st = st1) (hk1 : kc + mc = kc1) (hk2 : ks + ms = ks1) (hd : decode cc pc = .ok (.invokestatic index, 3))
    (k : V C (pc + 3) ls st1 M' kc1 ks1) : V C pc ls st0 M kc ks := by
  subst hs1; subst hk1; subst hk2; subst hna
  obtain ⟨p, l, e, R0, s, m, args, below, meth, c, K0, Q⟩ := C
  obtain ⟨hx, hb, hml, hown, hts, hK, hE, hB, rfl, rfl⟩ := F
  intro H locs lsA hz hP hS hl
  have hT : GoodIn wsL_law (va_wsS own index y (Cond.code y cb nc rc :: wsL_law)) := gG (fun w h => by
    rcases List.mem_append.mp h with h | h
    · rcases List.mem_cons.mp h with e | h
      · rw [e]; exact hlink
      · rcases List.mem_cons.mp h with e | h
        · rw [e]; exact hst
        · rw [List.mem_singleton.mp h]; exact hini
    · exact gC hcode w h)
  have cw := va_cwS (R := R0) (mc := mc) (ms := ms) as.length hts hT rfl hrm.1 hrm.2.1 hy hrm.2.2
  exact v_back (va_runS (As := as) (rest := st) ⟨hx, hb, hml, hown, hts⟩ hM cw ⟨wg_blind, fun U hU hW => ⟨rfl, wg_go hK hE hB hz hP hS hU hW⟩⟩ rfl rfl (hl.1.trans hml) hs0 (lv_room hw8) hd hroom) hB hS hl k
theorem v_callSN (na : Nat) (F : Fx C own cc nL R K) (hM : MC K C.2.1 y cb nc rc rm mc ms as M M' res) (hlink : (own, index, y) ∈ nestM) (hst : Cond.static y ∈ wsL_law) (hini : Cond.initialized y.cls ∈ wsL_law) (hcode : Cond.code y cb nc rc ∈ wsL_law) (hy : y.cls ≠ "java/lang/invoke/MethodHandle" ∧ y.cls ≠ "java/lang/invoke/VarHandle" ∧ (parseMethodDescriptor y.desc).map (fun d => d.parameters.length) = some na) (hna : as.length = na) (hrm : rm.cells = mc ∧ rm.slots = ms ∧ rm.frames + 1 ≤ R.frames ∧ 8 + (nc + 11) + rm.locals ≤ R.locals) (hroom : kc + mc ≤ R.cells ∧ ks + ms ≤ R.slots) {st0 : List Value} (hs0 : st0 = as.reverse ++ st) (hw8 : (st.map fun v => v.category).sum ≤ 8) {st1 : List Value} {kc1 ks1 : Nat} (hs1 : res.toList ++ st = st1) (hk1 : kc + mc = kc1) (hk2 : ks + ms = ks1) (hd : decode cc pc = .ok (.invokestatic index, 3))
    (k : V C (pc + 3) ls st1 M' kc1 ks1) : V C pc ls st0 M kc ks := by
  subst hs1; subst hk1; subst hk2; subst hna
  obtain ⟨p, l, e, R0, s, m, args, below, meth, c, K0, Q⟩ := C
  obtain ⟨hx, hb, hml, hown, hts, hK, hE, hB, rfl, rfl⟩ := F
  intro H locs lsA hz hP hS hl
  have cw := va_cnB (R := R0) (mc := mc) (ms := ms) (index := index) (own := own) (host := "HollowedByFire") as.length hts (gG (gC hcode)) rfl hrm.1 hrm.2.1 (hE.2.1 _ hlink) (hts _ hini) hy hrm.2.2
  exact v_back (va_runSN (As := as) (rest := st) ⟨hx, hb, hml, hown, hts⟩ hM ⟨cw, hts _ hst, trivial⟩ ⟨wg_blind, fun U hU hW => ⟨rfl, wg_go hK hE hB hz hP hS hU hW⟩⟩ rfl rfl (hl.1.trans hml) hs0 (lv_room hw8) hd hroom) hB hS hl k
theorem v_callV (na : Nat) {CC : String} {ci q : Nat} {fs : List Value} {T : u_T} {N : Nat} (F : Fx C own cc nL R K) (hM : MC K C.2.1 y cb nc rc rm mc ms (.ref (K.1 + q) :: as) M M' res) (hq : q < M.1) (he : M.2 q = .inr (ci, fs)) (hc : vwCl[ci]? = some (CC, T, N)) (hlink : Cond.methodLink own index y ∈ wsL_law) (hin : Cond.instanceMethod y ∈ wsL_law) (hsel : Cond.selects CC y y ∈ wsL_law) (hini : Cond.initialized CC ∈ wsL_law) (hcode : Cond.code y cb nc rc ∈ wsL_law) (hy : y.cls = CC ∧ y.cls ≠ "java/lang/invoke/MethodHandle" ∧ y.cls ≠ "java/lang/invoke/VarHandle" ∧ (parseMethodDescriptor y.desc).map (fun d => d.parameters.length) = some na) (hna : as.length = na) (hrm : rm.cells = mc ∧ rm.slots = ms ∧ rm.frames + 1 ≤ R.frames ∧ 8 + (nc + 11) + rm.locals ≤ R.locals) (hroom : kc + mc ≤ R.cells ∧ ks + ms ≤ R.slots) {st0 : List Value} (hs0 : st0 = as.reverse ++ .ref (K.1 + q) :: st) (hw8 : (st.map fun v => v.category).sum ≤ 8) {st1 : List Value} {kc1 ks1 : Nat} (hs1 : res.toList ++ st = st1) (hk1 : kc + mc = kc1) (hk2 : ks + ms = ks1) (hd : decode cc pc = .ok (.invokevirtual index, 3))
    (k : V C (pc + 3) ls st1 M' kc1 ks1) : V C pc ls st0 M kc ks := by
  subst hs1; subst hk1; subst hk2; subst hna
  obtain ⟨p, l, e, R0, s, m, args, below, meth, c, K0, Q⟩ := C
  obtain ⟨hx, hb, hml, hown, hts, hK, hE, hB, rfl, rfl⟩ := F
  intro H locs lsA hz hP hS hl
  have hT : GoodIn wsL_law (wsV own index CC y (Cond.code y cb nc rc :: wsL_law)) := gG (fun w h => by
    rcases List.mem_append.mp h with h | h
    · rcases List.mem_cons.mp h with e | h
      · rw [e]; exact hlink
      · rcases List.mem_cons.mp h with e | h
        · rw [e]; exact hin
        · rcases List.mem_cons.mp h with e | h
          · rw [e]; exact hsel
          · rw [List.mem_singleton.mp h]; exact hini
    · exact gC hcode w h)
  have cw := cwV (R := R0) (mc := mc) (ms := ms) as.length hts hT rfl hrm.1 hrm.2.1 hy hrm.2.2
  exact v_back (va_runV (As := as) (rest := st) ⟨hx, hb, hml, hown, hts⟩ hM cw ⟨wg_blind, va_recv hK hP hc ((gw_at hq).trans (by rw [he])), fun U hU hW => ⟨rfl, wg_go hK hE hB hz hP hS hU hW⟩⟩ rfl rfl (hl.1.trans hml) hs0 (lv_room hw8) hd hroom) hB hS hl k
/-- a method's start -/
theorem mc_of {K : KE} {l : Launch} {y : MethodName} {cc : ByteArray} {nL : Nat} {ret : Option FieldType} {rm : Room} {mc ms : Nat} {as : List Value} {M M' : GM} {res : Option Value} {ls0 : List (Nat × Value)} (hy : plainName y.cls = true) (hn : (lg_sl as).length ≤ nL) (hls : lv_args 0 as = ls0)
    (h : ∀ C : Cx, C.2.1 = l → C.2.2.2.2.2.2.2.2.1.name = y.name → Fx C y.cls cc nL rm K → CE C M' res mc ms ret → V C 0 ls0 [] M 0 0) : MC K l y cc nL ret rm mc ms as M M' res := by
  refine Met.ofW (cc := cc) (maxL := nL) (ret := ret) hy rfl ?_
  intro p e s m args below meth c s₁ B hml hv
  obtain ⟨rfl, hz, hP, hK, hE⟩ := hv
  have hts := atoms_spec (ws := Cond.code y cc nL ret :: wsL_law) B.pre
  have hown : s.vm.findClass y.cls = some m.cls := findClass_of_methodNamed B.named
  have hl := lv_entry as (n := nL) hn
  rw [lg_entry_eq]
  generalize (lg_sl as ++ List.replicate (nL - (lg_sl as).length) Slot.unset).toArray = lsA at hl ⊢
  rw [hls] at hl
  refine h (p, l, e, rm, s, m, as.toArray, below, meth, c, K, MQ below (MQC K M' res) as.toArray s mc ms (gA K.1)) rfl (name_of_methodNamed B.named B.method).1 ⟨B.exec, B.bytes, hml, hown, fun w hw => hts w (List.mem_cons_of_mem _ hw), hK, hE, by rw [hz]; exact Nat.le_add_right _ _, rfl, rfl⟩ ⟨rfl, B.returns, B.notSynchronized⟩ s.heap [] lsA hz hP va_S.rf ?_
  rw [hml]; exact hl
theorem v_iret {v : Int32} (F : Fx C own cc nL R K) (E : CE C M (some (.int v)) kc ks (some .int)) (hd : decode cc pc = .ok (.ireturn, 1)) : V C pc ls [.int v] M kc ks := by
  obtain ⟨p, l, e, R0, s, m, args, below, meth, c, K0, Q⟩ := C
  obtain ⟨hx, hb, hml, hown, hts, hK, hE, hB, rfl, rfl⟩ := F
  obtain ⟨rfl, hr, hlk⟩ := E
  intro H locs lsA hz hP hS hl
  exact W.iret hx hb hr (fun t ht hW => ⟨rfl, wg_go hK hE hB hz hP hS ht hW, hS.F ht⟩) hS.2.2 hd hlk
theorem v_zret {v : Int32} (F : Fx C own cc nL R K) (E : CE C M (some (.int v)) kc ks (some .boolean)) (hn : narrow .boolean (.int v) = .int v) (hd : decode cc pc = .ok (.ireturn, 1)) : V C pc ls [.int v] M kc ks := by
  obtain ⟨p, l, e, R0, s, m, args, below, meth, c, K0, Q⟩ := C
  obtain ⟨hx, hb, hml, hown, hts, hK, hE, hB, rfl, rfl⟩ := F
  obtain ⟨rfl, hr, hlk⟩ := E
  intro H locs lsA hz hP hS hl
  exact W.zret hx hb hr hn (fun t ht hW => ⟨rfl, wg_go hK hE hB hz hP hS ht hW, hS.F ht⟩) hS.2.2 hd hlk
theorem v_nret {v : Int32} {ty : FieldType} (F : Fx C own cc nL R K) (E : CE C M (some (.int v)) kc ks (some ty)) (hn : narrow ty (.int v) = .int v) (hd : decode cc pc = .ok (.ireturn, 1)) : V C pc ls [.int v] M kc ks := by
  obtain ⟨p, l, e, R0, s, m, args, below, meth, c, K0, Q⟩ := C
  obtain ⟨hx, hb, hml, hown, hts, hK, hE, hB, rfl, rfl⟩ := F
  obtain ⟨rfl, hr, hlk⟩ := E
  intro H locs lsA hz hP hS hl
  exact W.zret hx hb hr hn (fun t ht hW => ⟨rfl, wg_go hK hE hB hz hP hS ht hW, hS.F ht⟩) hS.2.2 hd hlk
theorem v_vret (F : Fx C own cc nL R K) (E : CE C M none kc ks none) (hd : decode cc pc = .ok (.return_, 1)) : V C pc ls [] M kc ks := by
  obtain ⟨p, l, e, R0, s, m, args, below, meth, c, K0, Q⟩ := C
  obtain ⟨hx, hb, hml, hown, hts, hK, hE, hB, rfl, rfl⟩ := F
  obtain ⟨rfl, hr, hlk⟩ := E
  intro H locs lsA hz hP hS hl
  exact W.vret hx hb hr (fun t ht hW => ⟨rfl, wg_go hK hE hB hz hP hS ht hW, hS.F ht⟩) hS.2.2 hd hlk
theorem v_lret {v : Int64} (F : Fx C own cc nL R K) (E : CE C M (some (.long v)) kc ks (some .long)) (hd : decode cc pc = .ok (.lreturn, 1)) : V C pc ls [.long v] M kc ks := by
  obtain ⟨p, l, e, R0, s, m, args, below, meth, c, K0, Q⟩ := C
  obtain ⟨hx, hb, hml, hown, hts, hK, hE, hB, rfl, rfl⟩ := F
  obtain ⟨rfl, hr, hlk⟩ := E
  intro H locs lsA hz hP hS hl
  exact W.lret hx hb hr (fun t ht hW => ⟨rfl, wg_go hK hE hB hz hP hS ht hW, hS.F ht⟩) hS.2.2 hd hlk
end CALLS

section MORE
variable {index : Nat}
theorem v_mmax {x y : Int32} (F : Fx C own cc nL R K) (hlink : Cond.methodLink own index Lib.Math.max.name ∈ wsL_law) (hst : Cond.static Lib.Math.max.name ∈ wsL_law) (hini : Cond.initialized "java/lang/Math" ∈ wsL_law) (hcode : Cond.code Lib.Math.max.name Lib.Math.max.code 2 (some .int) ∈ wsL_law) (hf : 1 ≤ R.frames) (hlo : (st.map fun v => v.category).sum + 13 ≤ R.locals) (hr1 : kc ≤ R.cells) (hr2 : ks ≤ R.slots) (hd : decode cc pc = .ok (.invokestatic index, 3)) (k : V C (pc + 3) ls (.int (if x < y then y else x) :: st) M kc ks) : V C pc ls (.int y :: .int x :: st) M kc ks := by
  obtain ⟨p, l, e, R0, s, m, args, below, meth, c, K0, Q⟩ := C
  obtain ⟨hx, hb, hml, hown, hts, hK, hE, hB, rfl, rfl⟩ := F
  exact fun H locs lsA hz hP hS hl => va_mmax hx hb hl.1.symm hown (hts _ hlink) (hts _ hst) (hts _ hini) (hts _ hcode) hf hlo hr1 hr2 hd (k H locs lsA hz hP hS hl)
theorem v_mmin {x y : Int32} (F : Fx C own cc nL R K) (hlink : Cond.methodLink own index Lib.Math.min.name ∈ wsL_law) (hst : Cond.static Lib.Math.min.name ∈ wsL_law) (hini : Cond.initialized "java/lang/Math" ∈ wsL_law) (hcode : Cond.code Lib.Math.min.name Lib.Math.min.code 2 (some .int) ∈ wsL_law) (hf : 1 ≤ R.frames) (hlo : (st.map fun v => v.category).sum + 13 ≤ R.locals) (hr1 : kc ≤ R.cells) (hr2 : ks ≤ R.slots) (hd : decode cc pc = .ok (.invokestatic index, 3)) (k : V C (pc + 3) ls (.int (if y < x then y else x) :: st) M kc ks) : V C pc ls (.int y :: .int x :: st) M kc ks := by
  obtain ⟨p, l, e, R0, s, m, args, below, meth, c, K0, Q⟩ := C
  obtain ⟨hx, hb, hml, hown, hts, hK, hE, hB, rfl, rfl⟩ := F
  exact fun H locs lsA hz hP hS hl => va_mmin hx hb hl.1.symm hown (hts _ hlink) (hts _ hst) (hts _ hini) (hts _ hcode) hf hlo hr1 hr2 hd (k H locs lsA hz hP hS hl)
theorem v_mabs {x : Int32} (F : Fx C own cc nL R K) (hlink : Cond.methodLink own index Lib.Math.abs.name ∈ wsL_law) (hst : Cond.static Lib.Math.abs.name ∈ wsL_law) (hini : Cond.initialized "java/lang/Math" ∈ wsL_law) (hcode : Cond.code Lib.Math.abs.name Lib.Math.abs.code 1 (some .int) ∈ wsL_law) (hf : 1 ≤ R.frames) (hlo : (st.map fun v => v.category).sum + 13 ≤ R.locals) (hr1 : kc ≤ R.cells) (hr2 : ks ≤ R.slots) (hd : decode cc pc = .ok (.invokestatic index, 3)) (k : V C (pc + 3) ls (.int (if 0 ≤ x then x else 0 - x) :: st) M kc ks) : V C pc ls (.int x :: st) M kc ks := by
  obtain ⟨p, l, e, R0, s, m, args, below, meth, c, K0, Q⟩ := C
  obtain ⟨hx, hb, hml, hown, hts, hK, hE, hB, rfl, rfl⟩ := F
  exact fun H locs lsA hz hP hS hl => va_mabs hx hb hl.1.symm hown (hts _ hlink) (hts _ hst) (hts _ hini) (hts _ hcode) hf hlo hr1 hr2 hd (k H locs lsA hz hP hS hl)
theorem v_mmaxl {x y : Int64} (F : Fx C own cc nL R K) (hlink : Cond.methodLink own index Lib.MathLoose.max_long.x ∈ wsL_law) (hst : Cond.static Lib.MathLoose.max_long.x ∈ wsL_law) (hini : Cond.initialized "java/lang/Math" ∈ wsL_law) (hcode : Cond.code Lib.MathLoose.max_long.x Lib.MathLoose.max_long.code 4 (some .long) ∈ wsL_law) (hf : 1 ≤ R.frames) (hlo : (st.map fun v => v.category).sum + 15 ≤ R.locals) (hr1 : kc ≤ R.cells) (hr2 : ks ≤ R.slots) (hd : decode cc pc = .ok (.invokestatic index, 3)) (k : V C (pc + 3) ls (.long (if y < x then x else y) :: st) M kc ks) : V C pc ls (.long y :: .long x :: st) M kc ks := by
  obtain ⟨p, l, e, R0, s, m, args, below, meth, c, K0, Q⟩ := C
  obtain ⟨hx, hb, hml, hown, hts, hK, hE, hB, rfl, rfl⟩ := F
  exact fun H locs lsA hz hP hS hl => va_mmax_long hx hb hl.1.symm hown (hts _ hlink) (hts _ hst) (hts _ hini) (hts _ hcode) hf hlo hr1 hr2 hd (k H locs lsA hz hP hS hl)
/-- a static array of whole numbers -/
def sa (i j : Nat) : Int32 := ((sArr.getD i ("", "", [])).2.2).getD j 0
def sn (i : Nat) : Nat := ((sArr.getD i ("", "", [])).2.2).length
theorem v_gets (i : Nat) {CC n : String} {vs : List Int32} (F : Fx C own cc nL R K) (hi : sArr[i]? = some (CC, n, vs)) (hlink : Cond.fieldLink own index CC n "[I" ∈ wsL_law) (hd : decode cc pc = .ok (.getstatic index, 3)) (k : V C (pc + 3) ls (.ref (K.2.2.2 i) :: st) M kc ks) : V C pc ls st M kc ks := by
  obtain ⟨p, l, e, R0, s, m, args, below, meth, c, K0, Q⟩ := C
  obtain ⟨hx, hb, hml, hown, hts, hK, hE, hB, rfl, rfl⟩ := F
  exact fun H locs lsA hz hP hS hl => va_gets hx hb (hE.2.2.1 i _ hi).1 hS hown (hts _ hlink) (fun _ h => h) hd (k H locs lsA hz hP hS hl)
theorem v_ti (i : Nat) {q : String × String × List Int32} {x : Int32} (F : Fx C own cc nL R K) (hi : sArr[i]? = some q) (hin : vp_in x q.2.2.length) (hd : decode cc pc = .ok (.iaload, 1)) (k : V C (pc + 1) ls (.int (sa i x.toNatClampNeg) :: st) M kc ks) : V C pc ls (.int x :: .ref (K.2.2.2 i) :: st) M kc ks := by
  obtain ⟨p, l, e, R0, s, m, args, below, meth, c, K0, Q⟩ := C
  obtain ⟨hx, hb, hml, hown, hts, hK, hE, hB, rfl, rfl⟩ := F
  have hq : sArr.getD i ("", "", []) = q := by rw [List.getD_eq_getElem?_getD, hi]; rfl
  exact fun H locs lsA hz hP hS hl => va_ti hx hb (hE.2.2.1 i _ hi).2 hS hin (v := .int (sa i x.toNatClampNeg)) (by unfold sa; rw [hq]) hd (k H locs lsA hz hP hS hl)
theorem v_aret {v : Value} {rt : FieldType} (F : Fx C own cc nL R K) (E : CE C M (some v) kc ks (some rt)) (hrt : (∃ n, rt = .object n) ∨ ∃ t, rt = .array t) (hv : v = .null ∨ ∃ a, v = .ref a) (hd : decode cc pc = .ok (.areturn, 1)) : V C pc ls [v] M kc ks := by
  obtain ⟨p, l, e, R0, s, m, args, below, meth, c, K0, Q⟩ := C
  obtain ⟨hx, hb, hml, hown, hts, hK, hE, hB, rfl, rfl⟩ := F
  obtain ⟨rfl, hr, hlk⟩ := E
  intro H locs lsA hz hP hS hl
  exact W.aret hx hb hr hrt hv (fun t ht hW => ⟨rfl, wg_go hK hE hB hz hP hS ht hW, hS.F ht⟩) hS.2.2 hd hlk
/-- the law's script -/
theorem v_sld {b L : Nat} {xs : Nat → Int32} {i : Int32} (F : Fx C own cc nL R K) (hX : va_X b L xs C.2.2.2.2.1 C.2.2.2.2.1.heap) (hbl : b < C.2.2.2.2.1.heap.size) (hbA : ¬ gA K.1 b) (hin : vp_in i L) (hd : decode cc pc = .ok (.iaload, 1)) (k : V C (pc + 1) ls (.int (xs i.toNatClampNeg) :: st) M kc ks) : V C pc ls (.int i :: .ref b :: st) M kc ks := by
  obtain ⟨p, l, e, R0, s, m, args, below, meth, c, K0, Q⟩ := C
  obtain ⟨hx, hb, hml, hown, hts, hK, hE, hB, rfl, rfl⟩ := F
  exact fun H locs lsA hz hP hS hl => va_sld hx hb hX hbl hbA hS hin hd (k H locs lsA hz hP hS hl)
theorem v_slen {b L : Nat} {xs : Nat → Int32} (F : Fx C own cc nL R K) (hX : va_X b L xs C.2.2.2.2.1 C.2.2.2.2.1.heap) (hbl : b < C.2.2.2.2.1.heap.size) (hbA : ¬ gA K.1 b) (hd : decode cc pc = .ok (.arraylength, 1)) (k : V C (pc + 1) ls (.int (nI L) :: st) M kc ks) : V C pc ls (.ref b :: st) M kc ks := by
  obtain ⟨p, l, e, R0, s, m, args, below, meth, c, K0, Q⟩ := C
  obtain ⟨hx, hb, hml, hown, hts, hK, hE, hB, rfl, rfl⟩ := F
  exact fun H locs lsA hz hP hS hl => va_slen hx hb hX hbl hbA hS hd (k H locs lsA hz hP hS hl)
/-- texts: the object of text i, the row of its bytes -/
theorem v_ldcS (i : Nat) {tx : String} (F : Fx C own cc nL R K) (hi : sLit[i]? = some (own, index, tx)) (hd : decode cc pc = .ok (.ldc index, 2)) (k : V C (pc + 2) ls (.ref (K.2.2.2 (10 + i)) :: st) M kc ks) : V C pc ls st M kc ks := by
  obtain ⟨p, l, e, R0, s, m, args, below, meth, c, K0, Q⟩ := C
  obtain ⟨hx, hb, hml, hown, hts, hK, hE, hB, rfl, rfl⟩ := F
  exact fun H locs lsA hz hP hS hl => va_ldcS hx hb hown (hE.2.2.2.2.1 i _ hi) hd (k H locs lsA hz hP hS hl)
theorem v_sval (i : Nat) (F : Fx C own cc nL R K) (hi : i < 13) (hlink : Cond.fieldLink own index "java/lang/String" "value" "[B" ∈ wsL_law) (hd : decode cc pc = .ok (.getfield index, 3)) (k : V C (pc + 3) ls (.ref (K.2.2.2 (30 + i)) :: st) M kc ks) : V C pc ls (.ref (K.2.2.2 (10 + i)) :: st) M kc ks := by
  obtain ⟨p, l, e, R0, s, m, args, below, meth, c, K0, Q⟩ := C
  obtain ⟨hx, hb, hml, hown, hts, hK, hE, hB, rfl, rfl⟩ := F
  exact fun H locs lsA hz hP hS hl => vk_getf hx hb (hE.2.2.2.2.2.1.1 i hi).2.2.1 hS hown (hts _ hlink) (fun _ h => h) hd (k H locs lsA hz hP hS hl)
theorem v_scod (i : Nat) (F : Fx C own cc nL R K) (hi : i < 13) (hlink : Cond.fieldLink own index "java/lang/String" "coder" "B" ∈ wsL_law) (hd : decode cc pc = .ok (.getfield index, 3)) (k : V C (pc + 3) ls (.int 0 :: st) M kc ks) : V C pc ls (.ref (K.2.2.2 (10 + i)) :: st) M kc ks := by
  obtain ⟨p, l, e, R0, s, m, args, below, meth, c, K0, Q⟩ := C
  obtain ⟨hx, hb, hml, hown, hts, hK, hE, hB, rfl, rfl⟩ := F
  exact fun H locs lsA hz hP hS hl => vk_getf hx hb (hE.2.2.2.2.2.1.1 i hi).2.1 hS hown (hts _ hlink) (fun _ h => h) hd (k H locs lsA hz hP hS hl)
theorem v_getsC (F : Fx C own cc nL R K) (hlink : Cond.fieldLink own index "java/lang/String" "COMPACT_STRINGS" "Z" ∈ wsL_law) (hd : decode cc pc = .ok (.getstatic index, 3)) (k : V C (pc + 3) ls (.int 1 :: st) M kc ks) : V C pc ls st M kc ks := by
  obtain ⟨p, l, e, R0, s, m, args, below, meth, c, K0, Q⟩ := C
  obtain ⟨hx, hb, hml, hown, hts, hK, hE, hB, rfl, rfl⟩ := F
  exact fun H locs lsA hz hP hS hl => va_gets hx hb hE.2.2.2.1 hS hown (hts _ hlink) (fun _ h => h) hd (k H locs lsA hz hP hS hl)
theorem v_getsQ (F : Fx C own cc nL R K) (hlink : Cond.fieldLink own index "jdk/internal/util/Preconditions" "SIOOBE_FORMATTER" "Ljava/util/function/BiFunction;" ∈ wsL_law) (hd : decode cc pc = .ok (.getstatic index, 3)) (k : ∀ v : Value, (v = .null ∨ ∃ a, v = .ref a) → V C (pc + 3) ls (v :: st) M kc ks) : V C pc ls st M kc ks := by
  obtain ⟨p, l, e, R0, s, m, args, below, meth, c, K0, Q⟩ := C
  obtain ⟨hx, hb, hml, hown, hts, hK, hE, hB, rfl, rfl⟩ := F
  intro H locs lsA hz hP hS hl
  rcases hE.2.2.2.2.2.2.1 with h | ⟨t, h⟩
  · exact va_gets hx hb h hS hown (hts _ hlink) (fun _ h => h) hd (k .null (Or.inl rfl) H locs lsA hz hP hS hl)
  · exact va_gets hx hb h hS hown (hts _ hlink) (fun _ h => h) hd (k (.ref t) (Or.inr ⟨t, rfl⟩) H locs lsA hz hP hS hl)
theorem v_tlen (i : Nat) {v : Int32} (F : Fx C own cc nL R K) (hi : i < 13) (hv : Int32.ofNat (sLen.getD i 0) = v) (hd : decode cc pc = .ok (.arraylength, 1)) (k : V C (pc + 1) ls (.int v :: st) M kc ks) : V C pc ls (.ref (K.2.2.2 (30 + i)) :: st) M kc ks := by
  obtain ⟨p, l, e, R0, s, m, args, below, meth, c, K0, Q⟩ := C
  obtain ⟨hx, hb, hml, hown, hts, hK, hE, hB, rfl, rfl⟩ := F
  exact fun H locs lsA hz hP hS hl => va_tlen hx hb (hE.2.2.2.2.2.1.1 i hi).2.2.2 hS hv hd (k H locs lsA hz hP hS hl)
theorem v_tb (i : Nat) {x : Int32} (F : Fx C own cc nL R K) (hi : i < 13) (hin : vp_in x (sLen.getD i 0)) (hd : decode cc pc = .ok (.baload, 1)) (k : V C (pc + 1) ls (.int ((sByt.getD i []).getD x.toNatClampNeg 0) :: st) M kc ks) : V C pc ls (.int x :: .ref (K.2.2.2 (30 + i)) :: st) M kc ks := by
  obtain ⟨p, l, e, R0, s, m, args, below, meth, c, K0, Q⟩ := C
  obtain ⟨hx, hb, hml, hown, hts, hK, hE, hB, rfl, rfl⟩ := F
  exact fun H locs lsA hz hP hS hl => va_tb hx hb (hE.2.2.2.2.2.1.1 i hi).2.2.2 hS hin (v := .int ((sByt.getD i []).getD x.toNatClampNeg 0)) rfl hd (k H locs lsA hz hP hS hl)
theorem v_i2c {x : Int32} (F : Fx C own cc nL R K) (hd : decode cc pc = .ok (.i2c, 1)) (k : V C (pc + 1) ls (.int (x.toUInt32 % 65536).toInt32 :: st) M kc ks) : V C pc ls (.int x :: st) M kc ks := by
  obtain ⟨p, l, e, R0, s, m, args, below, meth, c, K0, Q⟩ := C
  exact fun H locs lsA hz hP hS hl => lv_i2c F.1 F.2.1 hd rfl (k H locs lsA hz hP hS hl)
/-- a call on text i -/
theorem v_callT (na i : Nat) {y : MethodName} {cb : ByteArray} {nc : Nat} {rc : Option FieldType} {rm : Room} {mc ms : Nat} {as : List Value} {M' : GM} {res : Option Value} (F : Fx C own cc nL R K) (hM : MC K C.2.1 y cb nc rc rm mc ms (.ref (K.2.2.2 (10 + i)) :: as) M M' res) (hi : i < 13) (hlink : Cond.methodLink own index y ∈ wsL_law) (hin : Cond.instanceMethod y ∈ wsL_law) (hsel : Cond.selects "java/lang/String" y y ∈ wsL_law) (hini : Cond.initialized "java/lang/String" ∈ wsL_law) (hcode : Cond.code y cb nc rc ∈ wsL_law) (hy : y.cls = "java/lang/String" ∧ y.cls ≠ "java/lang/invoke/MethodHandle" ∧ y.cls ≠ "java/lang/invoke/VarHandle" ∧ (parseMethodDescriptor y.desc).map (fun d => d.parameters.length) = some na) (hna : as.length = na) (hrm : rm.cells = mc ∧ rm.slots = ms ∧ rm.frames + 1 ≤ R.frames ∧ 8 + (nc + 11) + rm.locals ≤ R.locals) (hroom : kc + mc ≤ R.cells ∧ ks + ms ≤ R.slots) {st0 : List Value} (hs0 : st0 = as.reverse ++ .ref (K.2.2.2 (10 + i)) :: st) (hw8 : (st.map fun v => v.category).sum ≤ 8) {st1 : List Value} {kc1 ks1 : Nat} (hs1 : res.toList ++ st = st1) (hk1 : kc + mc = kc1) (hk2 : ks + ms = ks1) (hd : decode cc pc = .ok (.invokevirtual index, 3))
    (k : V C (pc + 3) ls st1 M' kc1 ks1) : V C pc ls st0 M kc ks := by
  subst hs1; subst hk1; subst hk2; subst hna
  obtain ⟨p, l, e, R0, s, m, args, below, meth, c, K0, Q⟩ := C
  obtain ⟨hx, hb, hml, hown, hts, hK, hE, hB, rfl, rfl⟩ := F
  intro H locs lsA hz hP hS hl
  have hT : GoodIn wsL_law (wsV own index "java/lang/String" y (Cond.code y cb nc rc :: wsL_law)) := gG (fun w h => by
    rcases List.mem_append.mp h with h | h
    · rcases List.mem_cons.mp h with e | h
      · rw [e]; exact hlink
      · rcases List.mem_cons.mp h with e | h
        · rw [e]; exact hin
        · rcases List.mem_cons.mp h with e | h
          · rw [e]; exact hsel
          · rw [List.mem_singleton.mp h]; exact hini
    · exact gC hcode w h)
  have cw := cwV (R := R0) (mc := mc) (ms := ms) as.length hts hT rfl hrm.1 hrm.2.1 hy hrm.2.2
  exact v_back (va_runV (As := as) (rest := st) ⟨hx, hb, hml, hown, hts⟩ hM cw ⟨wg_blind, vk_recv hE.2.2.2.2.2.1 hi hS, fun U hU hW => ⟨rfl, wg_go hK hE hB hz hP hS hU hW⟩⟩ rfl rfl (hl.1.trans hml) hs0 (lv_room hw8) hd hroom) hB hS hl k
end MORE
def cpok (sp dp n : Int32) (n0 n1 : Nat) : Bool := decide (¬ sp < 0 ∧ ¬ dp < 0 ∧ ¬ n < 0 ∧ sp.toNatClampNeg + n.toNatClampNeg ≤ n0 ∧ dp.toNatClampNeg + n.toNatClampNeg ≤ n1)
theorem i_nn {z : Int32} (hz : ¬ z < 0) : z.toInt = (z.toNatClampNeg : Int) := by
  have h0 : (0 : Int) ≤ z.toInt := by simpa using Int32.le_iff_toInt_le.mp (Int32.not_lt.mp hz)
  show z.toInt = ((z.toInt.toNat : Nat) : Int)
  omega
/-- System.arraycopy between int arrays -/
theorem v_copy {n0 n1 index : Nat} {f g : Nat → Int32} {sp dp n : Int32} (F : Fx C own cc nL R K) (q0 q1 : Nat) (hq0 : q0 < M.1) (he0 : M.2 q0 = .inl (K.2.2.1 0, n0, .inl f)) (hq1 : q1 < M.1) (he1 : M.2 q1 = .inl (K.2.2.1 0, n1, .inl g)) (hok : cpok sp dp n n0 n1 = true) (hlink : Cond.methodLink own index arraycopyName ∈ wsL_law) (hnat : Cond.native arraycopyName ∈ wsL_law) (hst : Cond.static arraycopyName ∈ wsL_law) (hini : Cond.initialized "java/lang/System" ∈ wsL_law) (hf : 1 ≤ R.frames) (hlo : (st.map fun v => v.category).sum + (nativeFrameWords "java/lang/System" "arraycopy" 5 + 11) ≤ R.locals) (hd : decode cc pc = .ok (.invokestatic index, 3))
    (k : V C (pc + 3) ls st (gu M q1 (.inl (K.2.2.1 0, n1, .inl (va_cpy f g sp.toNatClampNeg dp.toNatClampNeg n.toNatClampNeg)))) kc ks) : V C pc ls (.int n :: .int dp :: .ref (K.1 + q1) :: .int sp :: .ref (K.1 + q0) :: st) M kc ks := by
  obtain ⟨p, l, e, R0, s, m, args, below, meth, c, K0, Q⟩ := C
  obtain ⟨hx, hb, hml, hown, hts, hK, hE, hB, rfl, rfl⟩ := F
  obtain ⟨h1, h2, h3, h4, h5⟩ : ¬ sp < 0 ∧ ¬ dp < 0 ∧ ¬ n < 0 ∧ sp.toNatClampNeg + n.toNatClampNeg ≤ n0 ∧ dp.toNatClampNeg + n.toNatClampNeg ≤ n1 := of_decide_eq_true hok
  intro H locs lsA hz hP hS hl T hT X
  have hc0 : H[K0.1 + q0]? = some (vp_cell (K0.2.2.1 0) (n0, .inl f)) := hP q0 (K0.1 + q0, .inl (K0.2.2.1 0, n0, .inl f)) ((gw_at hq0).trans (by rw [he0]))
  have hc1 : H[K0.1 + q1]? = some (vp_cell (K0.2.2.1 0) (n1, .inl g)) := hP q1 (K0.1 + q1, .inl (K0.2.2.1 0, n1, .inl g)) ((gw_at hq1).trans (by rw [he1]))
  obtain ⟨-, ka, hka, ca, hkka⟩ := (hK.2 0 _ rfl).1 n0 (fun j => .int (f j))
  have s0 : (vp_cell (K0.2.2.1 0) (n0, .inl f)).slots.size = n0 := arrV_size ..
  have s1 : (vp_cell (K0.2.2.1 0) (n1, .inl g)).slots.size = n1 := arrV_size ..
  obtain ⟨vm', X', step⟩ := X.arraycopy hx hown (hts _ hlink) (hts _ hnat) (hts _ hst) (hts _ hini) (src := K0.1 + q0) (dst := K0.1 + q1) (cs := vp_cell (K0.2.2.1 0) (n0, .inl f)) (cd := vp_cell (K0.2.2.1 0) (n1, .inl g)) (srcPos := sp) (destPos := dp) (n := n) (by rw [hT]; exact hc0) (by rw [hT]; exact hc1)
    (fun _ h => by cases h) (fun _ h => by cases h) (fun h => by cases h) (fun h => by cases h) hka hka hkka hkka (by simp [refKind]) h1 h2 h3
    (by rw [i_nn h1, i_nn h3, s0]; omega) (by rw [i_nn h2, i_nn h3, s1]; omega)
    (fun vm₁ _ i hi => by
      have e : (vp_cell (K0.2.2.1 0) (n0, .inl f)).slots.getD (sp.toNatClampNeg + i) .null = .int (f (sp.toNatClampNeg + i)) := by
        show (arrV _ n0 (fun j => .int (f j))).slots.getD _ _ = _
        rw [Array.getD_eq_getD_getElem?, arrV_read _ _ (by omega)]
        rfl
      rw [e]
      exact ⟨rfl, trivial⟩)
    (g := F0 m pc lsA (.int n :: .int dp :: .ref (K0.1 + q1) :: .int sp :: .ref (K0.1 + q0) :: st)) rfl hl.1 (rest := st) rfl (by rw [hb]; exact hd) hf (by show 2 * 0 + _ + _ ≤ _; omega)
  have e1 : copied (vp_cell (K0.2.2.1 0) (n0, .inl f)) (vp_cell (K0.2.2.1 0) (n1, .inl g)) sp dp n = vp_cell (K0.2.2.1 0) (n1, .inl (va_cpy f g sp.toNatClampNeg dp.toNatClampNeg n.toNatClampNeg)) := va_copied (fun z => .int z) _ _ f g h4
  rw [e1] at X' step
  have hlt : K0.1 + q1 < H.size := (Array.getElem?_eq_some_iff.mp hc1).1
  generalize hce : vp_cell (K0.2.2.1 0) (n1, .inl (va_cpy f g sp.toNatClampNeg dp.toNatClampNeg n.toNatClampNeg)) = ce at X' step
  have hheap : ((T.setVm vm').setCell (K0.1 + q1) ce).heap = H.setIfInBounds (K0.1 + q1) ce := by rw [← hT]; rfl
  have oq : ∀ a : Nat, a ≠ K0.1 + q1 → (H.setIfInBounds (K0.1 + q1) ce)[a]? = H[a]? := fun a ha => by simp [Array.getElem?_setIfInBounds, Ne.symm ha]
  have hset : (H.setIfInBounds (K0.1 + q1) ce)[K0.1 + q1]? = some ce := by simp [Array.getElem?_setIfInBounds, hlt]
  obtain ⟨t, a1, b1⟩ := k _ _ lsA (by rw [Array.size_setIfInBounds]; exact hz) (g_set hP hq1 (by show _ = some (vp_cell _ _); rw [hce]; exact hset) oq) ⟨by rw [Array.size_setIfInBounds]; exact hS.1, fun a g1 g2 => by
      rw [oq a (fun e => g2 (by rw [e]; exact Nat.le_add_right _ _))]
      exact hS.2.1 a g1 g2, fun q hq => by
      rcases List.mem_append.mp hq with h | h
      · exact hS.2.2 q h
      · obtain ⟨z, -, hz⟩ := List.mem_map.mp h
        rw [← hz]
        exact Nat.le_add_right _ _⟩ hl _ hheap X'
  exact ⟨t, step t a1, b1⟩

section MAKE
variable {ref CC : String} {T : u_T} {N ci index : Nat} {fs : List Value} {v : Value}
/-- a final field, in a constructor -/
theorem v_putF {ty0 : Nat → FieldType} {ty : FieldType} (F : Fx C own cc nL R K) (hinit : C.2.2.2.2.2.2.2.2.1.name = "<init>") (q : Nat) (hq : q < M.1) (he : M.2 q = .inr (ci, fs)) (hc : vwCl[ci]? = some (CC, T, N)) (hin : ∀ w ∈ u_ws CC T N, w ∈ wsL_law) (hty : ∀ k, k < N → parseFieldDescriptor (T k).2.2.1 = some (ty0 k)) (hnm : ∀ a, a < N → ∀ b, b < N → a ≠ b → (T a).2.1 ≠ (T b).2.1) (i : Nat) (hi : i < N) (hlink : Cond.fieldLink own index ref (T i).2.1 (T i).2.2.1 ∈ wsL_law) (href : (T i).1 = ref) (hown2 : ref = own) (hfin : (T i).2.2.2 = true) (hy : parseFieldDescriptor (T i).2.2.1 = some ty) (hn : narrow ty v = v) (hfit : fits ty v = true) (hl0 : i < fs.length) (hd : decode cc pc = .ok (.putfield index, 3))
    (k : V C (pc + 3) ls st (gu M q (.inr (ci, fs.set i v))) kc ks) : V C pc ls (v :: .ref (K.1 + q) :: st) M kc ks := by
  obtain ⟨p, l, e, R0, s, m, args, below, meth, c, K0, Q⟩ := C
  obtain ⟨hx, hb, hml, hown, hts, hK, hE, hB, rfl, rfl⟩ := F
  intro H locs lsA hz hP hS hl
  have hap := va_apart (own := own) hts hin ty0 hty hnm hK hc
  obtain ⟨r, h1, cell, q1, q2, q3, q4⟩ := hP q _ ((gw_at hq).trans (by rw [he]))
  have hr : r = (CC, T, N) := Option.some.inj (h1.symm.trans hc)
  subst hr
  obtain ⟨hSl, hfc, kC, hkC, hkind⟩ := hK.1 ci _ hc
  obtain ⟨cf, kf, fi, f, hfi, hsl⟩ := hSl i hi
  have hlay := hts _ (hin _ (u_in_lay hi))
  unfold u_lay at hlay
  rw [if_pos hfin] at hlay
  have hst := (u_facts hfc hkC (u_lays hts hin hi) hfi).1
  have hcf : m.cls = cf := by
    obtain ⟨_, _, c', _, _, _, -, -, hf', -, -, -, hown3, -⟩ := Cond.laysFinal_spec hlay
    have e1 : c' = cf := by have := hfi.symm.trans hf'; simp at this; exact this.1.symm
    rw [href, hown2] at hown3
    rw [← e1]; exact Option.some.inj (hown.symm.trans hown3)
  have h6 := u_fits hfc hkC hkind (Or.inr hlay) hfi hy hn hfit
  refine W.putFinK hx hb hown (hts _ hlink) (by rw [← href]; exact hfi) hst hcf hinit (by rw [q2]; exact h6) q1 q3 (by rw [hsl]; exact k2_hasslot (q4 i hi)) rfl rfl hd fun H' e1 e2 e3 => ?_
  rw [hsl] at e1 ⊢
  exact k H' _ lsA (by rw [e2]; exact hz) (g_set hP hq ⟨_, hc, t_OB.to (V := updV (vp_V fs) i v) ⟨_, e1, q2, q3, t_set q4 hap hi v⟩ (fun j _ => vp_updV_set hl0 v j)⟩ e3) (hS.put e2 e3 (Nat.le_add_right _ _)) hl
/-- a new object -/
theorem v_new {ty : Nat → FieldType} {kc1 ks1 : Nat} (F : Fx C own cc nL R K) (hc : vwCl[ci]? = some (CC, T, N)) (hin : ∀ w ∈ u_ws CC T N, w ∈ wsL_law) (hty : ∀ k, k < N → parseFieldDescriptor (T k).2.2.1 = some (ty k)) (hcl : Cond.classLink own index CC ∈ wsL_law) (hins : Cond.instantiable CC N ∈ wsL_law) (hini : Cond.initialized CC ∈ wsL_law) (hfs : ∀ j, j < N → defaultValue (ty j) = vp_V fs j) (hr1 : kc + 1 ≤ R.cells) (hr2 : ks + N ≤ R.slots) (hk1 : kc + 1 = kc1) (hk2 : ks + N = ks1) (hd : decode cc pc = .ok (.new index, 3))
    (k : V C (pc + 3) ls (.ref (K.1 + M.1) :: st) (gp M (.inr (ci, fs))) kc1 ks1) : V C pc ls st M kc ks := by
  subst hk1; subst hk2
  obtain ⟨p, l, e, R0, s, m, args, below, meth, c, K0, Q⟩ := C
  obtain ⟨hx, hb, hml, hown, hts, hK, hE, hB, rfl, rfl⟩ := F
  intro H locs lsA hz hP hS hl
  have hKn := hK.1 ci _ hc
  refine W.newcK hx hb hown (hts _ hcl) (hts _ hins) (hts _ hini) rfl hd hr1 hr2 hKn.2.1 hz fun H1 kC hkC e1 z1 o1 => ?_
  exact k H1 locs lsA (by rw [z1]; show _ = K0.1 + (M.1 + 1); omega) (g_push hP ⟨_, hc, (u_born ty hts hin hKn hkC e1 hty).to hfs⟩ (fun a ha => o1 a (by omega))) (g_S hB hS (by omega) (fun a ha => o1 a (by omega))) hl
/-- a new array of ints -/
theorem v_newai {n : Int32} {n' kc1 ks1 : Nat} (F : Fx C own cc nL R K) (harr : Cond.arrayClass .int ∈ wsL_law) (hn : ¬ n < 0) (hn' : n.toNatClampNeg = n') (hby : n' * 4 ≤ 536870912) (hr1 : kc + 1 ≤ R.cells) (hr2 : ks + n' ≤ R.slots) (hk1 : kc + 1 = kc1) (hk2 : ks + n' = ks1) (hd : decode cc pc = .ok (.newarray .int, 2))
    (k : V C (pc + 2) ls (.ref (K.1 + M.1) :: st) (gp M (.inl (K.2.2.1 0, n', .inl (fun _ => 0)))) kc1 ks1) : V C pc ls (.int n :: st) M kc ks := by
  subst hk1; subst hk2
  obtain ⟨p, l, e, R0, s, m, args, below, meth, c, K0, Q⟩ := C
  obtain ⟨hx, hb, hml, hown, hts, hK, hE, hB, rfl, rfl⟩ := F
  intro H locs lsA hz hP hS hl
  refine va_newaK (atype := .int) hx hb (hts _ harr) rfl hd rfl hn hn' hby hr1 hr2 hz fun H1 cA e1 z1 o1 hAr hNm => ?_
  have hcA : cA = K0.2.2.1 0 := Option.some.inj (hNm.symm.trans (hK.2 0 _ rfl).2)
  subst hcA
  exact k H1 locs lsA (by rw [z1]; show _ = K0.1 + (M.1 + 1); omega) (g_push hP e1 (fun a ha => o1 a (by omega))) (g_S hB hS (by omega) (fun a ha => o1 a (by omega))) hl
theorem v_newal {n : Int32} {n' kc1 ks1 : Nat} (F : Fx C own cc nL R K) (harr : Cond.arrayClass .long ∈ wsL_law) (hn : ¬ n < 0) (hn' : n.toNatClampNeg = n') (hby : n' * 8 ≤ 536870912) (hr1 : kc + 1 ≤ R.cells) (hr2 : ks + n' ≤ R.slots) (hk1 : kc + 1 = kc1) (hk2 : ks + n' = ks1) (hd : decode cc pc = .ok (.newarray .long, 2))
    (k : V C (pc + 2) ls (.ref (K.1 + M.1) :: st) (gp M (.inl (K.2.2.1 1, n', .inr (.inl (fun _ => 0))))) kc1 ks1) : V C pc ls (.int n :: st) M kc ks := by
  subst hk1; subst hk2
  obtain ⟨p, l, e, R0, s, m, args, below, meth, c, K0, Q⟩ := C
  obtain ⟨hx, hb, hml, hown, hts, hK, hE, hB, rfl, rfl⟩ := F
  intro H locs lsA hz hP hS hl
  refine va_newaK (atype := .long) hx hb (hts _ harr) rfl hd rfl hn hn' hby hr1 hr2 hz fun H1 cA e1 z1 o1 hAr hNm => ?_
  have hcA : cA = K0.2.2.1 1 := Option.some.inj (hNm.symm.trans (hK.2 1 _ rfl).2)
  subst hcA
  exact k H1 locs lsA (by rw [z1]; show _ = K0.1 + (M.1 + 1); omega) (g_push hP e1 (fun a ha => o1 a (by omega))) (g_S hB hS (by omega) (fun a ha => o1 a (by omega))) hl
theorem v_objinit (F : Fx C own cc nL R K) {a : Nat} (hlink : Cond.methodLink own index objectInit ∈ wsL_law) (hin : Cond.instanceMethod objectInit ∈ wsL_law) (hcode : Cond.code objectInit ⟨#[0xb1]⟩ 1 none ∈ wsL_law) (hf : 1 ≤ R.frames) (hlo : (st.map fun v => v.category).sum + 12 ≤ R.locals) (hd : decode cc pc = .ok (.invokespecial index, 3)) (k : V C (pc + 3) ls st M kc ks) : V C pc ls (.ref a :: st) M kc ks := by
  obtain ⟨p, l, e, R0, s, m, args, below, meth, c, K0, Q⟩ := C
  obtain ⟨hx, hb, hml, hown, hts, hK, hE, hB, rfl, rfl⟩ := F
  exact fun H locs lsA hz hP hS hl => W.objInit hx hb hown (hts _ hlink) (hts _ hin) (hts _ hcode) rfl hl.1 rfl hd hf (by show 2 * 0 + _ + _ ≤ _; omega) (k H locs lsA hz hP hS hl)
end MAKE
theorem v_aast {n v ci : Nat} {vs : List Value} {f : Nat → Option Nat} {i : Int32} {r : vw_C} (F : Fx C own cc nL R K) (q : Nat) (hq : q < M.1) (he : M.2 q = .inl (K.2.2.1 4, n, .inr (.inr (.inr (.inr f))))) (hv : v < M.1) (hve : M.2 v = .inr (ci, vs)) (hc : vwCl[ci]? = some r) (hr : r.1 = "HollowedByFire$Tree") (hin : vp_in i n) (hd : decode cc pc = .ok (.aastore, 1))
    (k : V C (pc + 1) ls st (gu M q (.inl (K.2.2.1 4, n, .inr (.inr (.inr (.inr (va_up f i.toNatClampNeg (some (K.1 + v)))))))) ) kc ks) : V C pc ls (.ref (K.1 + v) :: .int i :: .ref (K.1 + q) :: st) M kc ks := by
  obtain ⟨p, l, e, R0, s, m, args, below, meth, c, K0, Q⟩ := C
  obtain ⟨hx, hb, hml, hown, hts, hK, hE, hB, rfl, rfl⟩ := F
  intro H locs lsA hz hP hS hl
  have hlt : i.toNatClampNeg < n := Nat.not_le.mp fun z => hin (Or.inr z)
  have h0 : ¬ i < 0 := fun z => hin (Or.inl z)
  have hc0 : H[K0.1 + q]? = some (arrV (K0.2.2.1 4) n (fun j => va_rf (f j))) := by
    have h := hP q (K0.1 + q, .inl (K0.2.2.1 4, n, .inr (.inr (.inr (.inr f))))) ((gw_at hq).trans (by rw [he]))
    exact h
  obtain ⟨r', hr', cellV, g1, g2, g3, -⟩ := hP v (K0.1 + v, .inr (ci, vs)) ((gw_at hv).trans (by rw [hve]))
  have hcls := (hK.1 ci r hc).2
  obtain ⟨kA, comp, k1, k2, k3, -⟩ := (hK.2 4 _ rfl).2
  have hcomp : comp = K0.2.1.1 ci := Option.some.inj (k3.symm.trans (by rw [← hr]; exact hcls.1))
  subst hcomp
  obtain ⟨kC, hkC, -⟩ := hcls.2
  refine W.aast hx hb hc0 (fun z h => by cases h) (fun h => by cases h) k1 k2 rfl hkC ⟨h0, by rw [arrV_size]; exact hlt⟩ g1 (fun z h => by rw [g3] at h; cases h) (by rw [g2]; exact hkC) (by rw [g2]; exact va_assign hcls) rfl rfl hd fun H1 e1 z oq => ?_
  have hset : H1[K0.1 + q]? = some (vp_cell (K0.2.2.1 4) (n, .inr (.inr (.inr (.inr (va_up f i.toNatClampNeg (some (K0.1 + v)))))))) := by
    rw [e1, arrV_store, vp_cell_q]
    refine congrArg some (congrArg (arrV _ n) (funext fun j => ?_))
    by_cases hj : j = i.toNatClampNeg <;> simp [updV, va_up, va_rf, hj]
  exact k H1 _ lsA (by rw [z]; exact hz) (g_set hP hq hset oq) (hS.put z oq (Nat.le_add_right _ _)) hl
section CALLI
variable {y : MethodName} {cb : ByteArray} {nc : Nat} {rm : Room} {mc ms : Nat} {as : List Value} {M' : GM} {index : Nat}
theorem v_callI (na : Nat) {q : Nat} (F : Fx C own cc nL R K) (hM : MC K C.2.1 y cb nc none rm mc ms (.ref (K.1 + q) :: as) M M' none) (hlink : Cond.methodLink own index y ∈ wsL_law) (hin : Cond.instanceMethod y ∈ wsL_law) (hini : Cond.initialized y.cls ∈ wsL_law) (hcode : Cond.code y cb nc none ∈ wsL_law) (hnm : y.name = "<init>") (hy : y.cls ≠ "java/lang/invoke/MethodHandle" ∧ y.cls ≠ "java/lang/invoke/VarHandle" ∧ (parseMethodDescriptor y.desc).map (fun d => d.parameters.length) = some na) (hna : as.length = na) (hrm : rm.cells = mc ∧ rm.slots = ms ∧ rm.frames + 1 ≤ R.frames ∧ 8 + (nc + 11) + rm.locals ≤ R.locals) (hroom : kc + mc ≤ R.cells ∧ ks + ms ≤ R.slots) {st0 : List Value} (hs0 : st0 = as.reverse ++ .ref (K.1 + q) :: st) (hw8 : (st.map fun v => v.category).sum ≤ 8) {kc1 ks1 : Nat} (hk1 : kc + mc = kc1) (hk2 : ks + ms = ks1) (hd : decode cc pc = .ok (.invokespecial index, 3))
    (k : V C (pc + 3) ls st M' kc1 ks1) : V C pc ls st0 M kc ks := by
  subst hk1; subst hk2; subst hna
  obtain ⟨p, l, e, R0, s, m, args, below, meth, c, K0, Q⟩ := C
  obtain ⟨hx, hb, hml, hown, hts, hK, hE, hB, rfl, rfl⟩ := F
  intro H locs lsA hz hP hS hl
  have cw := cwI (R := R0) (mc := mc) (ms := ms) (own := own) (index := index) as.length hts (gG (gC hcode)) rfl hrm.1 hrm.2.1 (hts _ hini) (hts _ hlink) (hts _ hin) hnm hy hrm.2.2
  exact v_back (res := none) (va_runI (As := as) (rest := st) ⟨hx, hb, hml, hown, hts⟩ hM cw ⟨wg_blind, fun U hU hW => ⟨rfl, wg_go hK hE hB hz hP hS hU hW⟩⟩ rfl rfl (hl.1.trans hml) hs0 (lv_room hw8) hd hroom) hB hS hl k
theorem v_callIN (na : Nat) {q : Nat} (F : Fx C own cc nL R K) (hM : MC K C.2.1 y cb nc none rm mc ms (.ref (K.1 + q) :: as) M M' none) (hlink : (own, index, y) ∈ nestM) (hin : Cond.instanceMethod y ∈ wsL_law) (hini : Cond.initialized y.cls ∈ wsL_law) (hcode : Cond.code y cb nc none ∈ wsL_law) (hnm : y.name = "<init>") (hy : y.cls ≠ "java/lang/invoke/MethodHandle" ∧ y.cls ≠ "java/lang/invoke/VarHandle" ∧ (parseMethodDescriptor y.desc).map (fun d => d.parameters.length) = some na) (hna : as.length = na) (hrm : rm.cells = mc ∧ rm.slots = ms ∧ rm.frames + 1 ≤ R.frames ∧ 8 + (nc + 11) + rm.locals ≤ R.locals) (hroom : kc + mc ≤ R.cells ∧ ks + ms ≤ R.slots) {st0 : List Value} (hs0 : st0 = as.reverse ++ .ref (K.1 + q) :: st) (hw8 : (st.map fun v => v.category).sum ≤ 8) {kc1 ks1 : Nat} (hk1 : kc + mc = kc1) (hk2 : ks + ms = ks1) (hd : decode cc pc = .ok (.invokespecial index, 3))
    (k : V C (pc + 3) ls st M' kc1 ks1) : V C pc ls st0 M kc ks := by
  subst hk1; subst hk2; subst hna
  obtain ⟨p, l, e, R0, s, m, args, below, meth, c, K0, Q⟩ := C
  obtain ⟨hx, hb, hml, hown, hts, hK, hE, hB, rfl, rfl⟩ := F
  intro H locs lsA hz hP hS hl
  have cw := va_cnB (R := R0) (mc := mc) (ms := ms) (index := index) (own := own) (host := "HollowedByFire") as.length hts (gG (gC hcode)) rfl hrm.1 hrm.2.1 (hE.2.1 _ hlink) (hts _ hini) hy hrm.2.2
  exact v_back (res := none) (va_runIN (As := as) (rest := st) ⟨hx, hb, hml, hown, hts⟩ hM ⟨cw, hnm, hts _ hin⟩ ⟨wg_blind, fun U hU hW => ⟨rfl, wg_go hK hE hB hz hP hS hU hW⟩⟩ rfl rfl (hl.1.trans hml) hs0 (lv_room hw8) hd hroom) hB hS hl k
end CALLI

