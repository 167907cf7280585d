/-! ===== the words of the start, 1: what stands in them ===== -/
def ev_G : List Cond := flatC (Jvm.Cond.and given_1 narrow_1)
def ev_s (q : String × String × List Int32) : Term := .static q.1 q.2.1 "[I"
def ev_w (q : String × String × List Int32) : List Cond := .arrayOf (ev_s q) .int :: .eq (.length (ev_s q)) (.int (Int32.ofNat q.2.2.length)) :: (List.range q.2.2.length).map (fun j => .eq (.elem (ev_s q) (.int (Int32.ofNat j))) (.int (q.2.2.getD j 0)))
def ev_q (i : Nat) : String × Nat × String := sLit.getD i ("", 0, "")
def ev_t (i : Nat) : Term := .string (ev_q i).1 (ev_q i).2.1
def ev_v (i : Nat) : Term := .field (ev_t i) "java/lang/String" "value" "[B"
set_option maxRecDepth 100000 in
set_option maxHeartbeats 4000000 in
theorem ev_nF : ∀ q ∈ nestF, Cond.fieldLinkNest q.1 q.2.1 q.2.2.1 q.2.2.2.1 q.2.2.2.2 "HollowedByFire" ∈ tables_1 := by decide +kernel
set_option maxRecDepth 100000 in
set_option maxHeartbeats 4000000 in
theorem ev_nM : ∀ q ∈ nestM, Cond.methodLinkNest q.1 q.2.1 q.2.2 "HollowedByFire" ∈ tables_1 := by decide +kernel
set_option maxRecDepth 100000 in
set_option maxHeartbeats 4000000 in
theorem ev_aZ : ∀ q ∈ sArr, Cond.laysStatic q.1 q.2.1 "[I" ∈ tables_1 ∧ Cond.initialized q.1 ∈ tables_1 := by decide +kernel
set_option maxRecDepth 100000 in
set_option maxHeartbeats 4000000 in
theorem ev_aW : ∀ q ∈ sArr, ∀ w ∈ ev_w q, w ∈ ev_G := by decide +kernel
set_option maxRecDepth 100000 in
set_option maxHeartbeats 4000000 in
theorem ev_aL : ∀ q ∈ sArr, q.2.2.length < 2 ^ 31 := by decide +kernel
set_option maxRecDepth 100000 in
set_option maxHeartbeats 4000000 in
theorem ev_cs : Cond.laysStatic "java/lang/String" "COMPACT_STRINGS" "Z" ∈ tables_1 ∧ Cond.initialized "java/lang/String" ∈ tables_1 ∧ Cond.eq (.static "java/lang/String" "COMPACT_STRINGS" "Z") (.int 1) ∈ ev_G := by decide +kernel
set_option maxRecDepth 100000 in
set_option maxHeartbeats 4000000 in
theorem ev_si : Cond.laysStatic "jdk/internal/util/Preconditions" "SIOOBE_FORMATTER" "Ljava/util/function/BiFunction;" ∈ tables_1 ∧ Cond.initialized "jdk/internal/util/Preconditions" ∈ tables_1 ∧ Cond.isRef (.static "jdk/internal/util/Preconditions" "SIOOBE_FORMATTER" "Ljava/util/function/BiFunction;") ∈ ev_G := by decide +kernel
set_option maxRecDepth 100000 in
set_option maxHeartbeats 4000000 in
theorem ev_sR : ∀ q ∈ sLit, Cond.stringRef q.1 q.2.1 q.2.2 ∈ tables_1 := by decide +kernel
