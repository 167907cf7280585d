/-! ===== BEGIN words of one list among another's, by their places ===== -/
theorem goodIn_r {big : List Cond} (ws : List Cond) (ps : List Nat) (hp : ws = ps.filterMap (fun i => big[i]?)) (h : ws.all goodWord = true) : GoodIn big ws := by
  intro w hw
  have h1 := List.all_eq_true.mp h w hw
  rw [hp] at hw
  obtain ⟨i, -, hi⟩ := List.mem_filterMap.mp hw
  have hm : w ∈ big := by first | exact List.mem_of_getElem? hi | exact List.getElem?_mem hi
  exact ⟨hm, good_of_word h1⟩
theorem goodIn_app {big a b : List Cond} (ha : GoodIn big a) (hb : GoodIn big b) : GoodIn big (a ++ b) := fun w h => (List.mem_append.mp h).elim (ha w) (hb w)
theorem goodIn_ca {big a b : List Cond} {c : Cond} (ha : GoodIn big (c :: a)) (hb : GoodIn big b) : GoodIn big (c :: (a ++ b)) := fun w h => (List.mem_cons.mp h).elim (fun e => ha w (List.mem_cons.mpr (Or.inl e))) (fun h => (List.mem_append.mp h).elim (fun h => ha w (List.mem_cons.mpr (Or.inr h))) (hb w))
theorem goodIn_sub {big ws : List Cond} (hm : ∀ w ∈ ws, w ∈ big) (h : ws.all goodWord = true) : GoodIn big ws := fun w hw => ⟨hm w hw, good_of_word (List.all_eq_true.mp h w hw)⟩
/-! ===== END ===== -/
/-! ===== BEGIN printed: names, fields, word lists, decode rows ===== -/
def RX0 : String := "HollowedByFire$Fraction"
def TX0 : u_T := fun k => match k with
  | 0 => ("HollowedByFire$Fraction", "above", "J", true)
  | _ => ("HollowedByFire$Fraction", "below", "J", true)
def tyX0 : Nat → FieldType := fun k => match k with
  | 0 => .long
  | _ => .long
abbrev wsX00 : List Cond := u_ws RX0 TX0 2
theorem nmX0 : ∀ a, a < 2 → ∀ b, b < 2 → a ≠ b → (TX0 a).2.1 ≠ (TX0 b).2.1 := by decide +kernel
theorem tyX0_ok : ∀ k, k < 2 → parseFieldDescriptor (TX0 k).2.2.1 = some (tyX0 k) := by decide +kernel
abbrev cX0_init : ByteArray := prog_2_method_1_code
def yX0_init : MethodName := ⟨RX0, "<init>", "(JJ)V"⟩
abbrev cX0_isAbove : ByteArray := prog_2_method_2_code
def yX0_isAbove : MethodName := ⟨RX0, "isAbove", "(LHollowedByFire$Fraction;)Z"⟩
abbrev cX0_part : ByteArray := prog_2_method_3_code
def yX0_part : MethodName := ⟨RX0, "part", "(I)J"⟩
abbrev cX0_commonOf : ByteArray := prog_2_method_4_code
def yX0_commonOf : MethodName := ⟨RX0, "commonOf", "(JJ)J"⟩
def RX1 : String := "HollowedByFire$Grove"
def TX1 : u_T := fun k => match k with
  | 0 => ("HollowedByFire$Grove", "trees", "[LHollowedByFire$Tree;", true)
  | _ => ("HollowedByFire$Grove", "size", "I", false)
def tyX1 : Nat → FieldType := fun k => match k with
  | 0 => .array (.object "HollowedByFire$Tree")
  | _ => .int
abbrev wsX10 : List Cond := u_ws RX1 TX1 2
theorem nmX1 : ∀ a, a < 2 → ∀ b, b < 2 → a ≠ b → (TX1 a).2.1 ≠ (TX1 b).2.1 := by decide +kernel
theorem tyX1_ok : ∀ k, k < 2 → parseFieldDescriptor (TX1 k).2.2.1 = some (tyX1 k) := by decide +kernel
abbrev cX1_init : ByteArray := prog_3_method_1_code
def yX1_init : MethodName := ⟨RX1, "<init>", "()V"⟩
abbrev cX1_at : ByteArray := prog_3_method_2_code
def yX1_at : MethodName := ⟨RX1, "at", "(I)LHollowedByFire$Tree;"⟩
abbrev cX1_add : ByteArray := prog_3_method_3_code
def yX1_add : MethodName := ⟨RX1, "add", "(IIILHollowedByFire$Sheet;)I"⟩
abbrev cX1_mean : ByteArray := prog_3_method_4_code
def yX1_mean : MethodName := ⟨RX1, "mean", "(I)LHollowedByFire$Fraction;"⟩
abbrev cX1_bestBut : ByteArray := prog_3_method_5_code
def yX1_bestBut : MethodName := ⟨RX1, "bestBut", "(I)I"⟩
abbrev cX1_holeWorth : ByteArray := prog_3_method_6_code
def yX1_holeWorth : MethodName := ⟨RX1, "holeWorth", "(I)LHollowedByFire$Fraction;"⟩
def RX2 : String := "HollowedByFire$Hull"
def TX2 : u_T := fun k => match k with
  | 0 => ("HollowedByFire$Hull", "wood", "LHollowedByFire$Wood;", true)
  | 1 => ("HollowedByFire$Hull", "laws", "LHollowedByFire$Laws;", true)
  | 2 => ("HollowedByFire$Hull", "wide", "[I", true)
  | 3 => ("HollowedByFire$Hull", "thick", "[I", true)
  | 4 => ("HollowedByFire$Hull", "high", "[I", true)
  | 5 => ("HollowedByFire$Hull", "names", "[I", true)
  | 6 => ("HollowedByFire$Hull", "broken", "I", false)
  | 7 => ("HollowedByFire$Hull", "spread", "I", false)
  | 8 => ("HollowedByFire$Hull", "firstBreak", "I", false)
  | 9 => ("HollowedByFire$Hull", "watched", "I", false)
  | 10 => ("HollowedByFire$Hull", "lacks", "I", false)
  | _ => ("HollowedByFire$Hull", "lot", "J", false)
def tyX2 : Nat → FieldType := fun k => match k with
  | 0 => .object "HollowedByFire$Wood"
  | 1 => .object "HollowedByFire$Laws"
  | 2 => .array .int
  | 3 => .array .int
  | 4 => .array .int
  | 5 => .array .int
  | 6 => .int
  | 7 => .int
  | 8 => .int
  | 9 => .int
  | 10 => .int
  | _ => .long
abbrev wsX20 : List Cond := u_ws RX2 TX2 12
theorem nmX2 : ∀ a, a < 12 → ∀ b, b < 12 → a ≠ b → (TX2 a).2.1 ≠ (TX2 b).2.1 := by decide +kernel
theorem tyX2_ok : ∀ k, k < 12 → parseFieldDescriptor (TX2 k).2.2.1 = some (tyX2 k) := by decide +kernel
abbrev cX2_init : ByteArray := prog_4_method_1_code
def yX2_init : MethodName := ⟨RX2, "<init>", "(LHollowedByFire$Wood;LHollowedByFire$Laws;)V"⟩
abbrev cX2_begin : ByteArray := prog_4_method_2_code
def yX2_begin : MethodName := ⟨RX2, "begin", "()V"⟩
abbrev cX2_blow : ByteArray := prog_4_method_3_code
def yX2_blow : MethodName := ⟨RX2, "blow", "(I)V"⟩
abbrev cX2_drawBy : ByteArray := prog_4_method_4_code
def yX2_drawBy : MethodName := ⟨RX2, "drawBy", "(I)V"⟩
abbrev cX2_asked : ByteArray := prog_4_method_5_code
def yX2_asked : MethodName := ⟨RX2, "asked", "(IIII)I"⟩
abbrev cX2_isBroken : ByteArray := prog_4_method_6_code
def yX2_isBroken : MethodName := ⟨RX2, "isBroken", "(I)Z"⟩
abbrev cX2_bit : ByteArray := prog_4_method_7_code
def yX2_bit : MethodName := ⟨RX2, "bit", "(I)I"⟩
abbrev cX2_fire : ByteArray := prog_4_method_8_code
def yX2_fire : MethodName := ⟨RX2, "fire", "(I)V"⟩
abbrev cX2_burn : ByteArray := prog_4_method_9_code
def yX2_burn : MethodName := ⟨RX2, "burn", "(III)V"⟩
abbrev cX2_inch : ByteArray := prog_4_method_10_code
def yX2_inch : MethodName := ⟨RX2, "inch", "()V"⟩
abbrev cX2_spreadBy : ByteArray := prog_4_method_11_code
def yX2_spreadBy : MethodName := ⟨RX2, "spreadBy", "(I)V"⟩
abbrev cX2_watch : ByteArray := prog_4_method_12_code
def yX2_watch : MethodName := ⟨RX2, "watch", "()V"⟩
abbrev cX2_chancesWhole : ByteArray := prog_4_method_13_code
def yX2_chancesWhole : MethodName := ⟨RX2, "chancesWhole", "(I)I"⟩
abbrev cX2_make : ByteArray := prog_4_method_14_code
def yX2_make : MethodName := ⟨RX2, "make", "(III)V"⟩
abbrev cX2_sew : ByteArray := prog_4_method_15_code
def yX2_sew : MethodName := ⟨RX2, "sew", "(III)V"⟩
abbrev cX2_allWide : ByteArray := prog_4_method_16_code
def yX2_allWide : MethodName := ⟨RX2, "allWide", "()I"⟩
abbrev cX2_leastHigh : ByteArray := prog_4_method_17_code
def yX2_leastHigh : MethodName := ⟨RX2, "leastHigh", "()I"⟩
abbrev cX2_weight : ByteArray := prog_4_method_18_code
def yX2_weight : MethodName := ⟨RX2, "weight", "()I"⟩
abbrev cX2_draught : ByteArray := prog_4_method_19_code
def yX2_draught : MethodName := ⟨RX2, "draught", "(I)I"⟩
abbrev cX2_sinks : ByteArray := prog_4_method_20_code
def yX2_sinks : MethodName := ⟨RX2, "sinks", "(I)Z"⟩
abbrev cX2_steadiness : ByteArray := prog_4_method_21_code
def yX2_steadiness : MethodName := ⟨RX2, "steadiness", "(I)I"⟩
abbrev cX2_driedApart : ByteArray := prog_4_method_22_code
def yX2_driedApart : MethodName := ⟨RX2, "driedApart", "(I)I"⟩
def RX3 : String := "HollowedByFire$Laws"
def TX3 : u_T := fun k => match k with
  | 0 => ("HollowedByFire$Laws", "codes", "[[I", true)
  | 1 => ("HollowedByFire$Laws", "ends", "[[I", true)
  | 2 => ("HollowedByFire$Laws", "stack", "[I", true)
  | _ => ("HollowedByFire$Laws", "size", "I", false)
def tyX3 : Nat → FieldType := fun k => match k with
  | 0 => .array (.array .int)
  | 1 => .array (.array .int)
  | 2 => .array .int
  | _ => .int
abbrev wsX30 : List Cond := u_ws RX3 TX3 4
theorem nmX3 : ∀ a, a < 4 → ∀ b, b < 4 → a ≠ b → (TX3 a).2.1 ≠ (TX3 b).2.1 := by decide +kernel
theorem tyX3_ok : ∀ k, k < 4 → parseFieldDescriptor (TX3 k).2.2.1 = some (tyX3 k) := by decide +kernel
abbrev cX3_init : ByteArray := prog_5_method_1_code
def yX3_init : MethodName := ⟨RX3, "<init>", "()V"⟩
abbrev cX3_keep : ByteArray := prog_5_method_2_code
def yX3_keep : MethodName := ⟨RX3, "keep", "([I[I)I"⟩
abbrev cX3_answer : ByteArray := prog_5_method_3_code
def yX3_answer : MethodName := ⟨RX3, "answer", "(II[I)I"⟩
def RX4 : String := "HollowedByFire$Sheet"
def TX4 : u_T := fun k => match k with
  | 0 => ("HollowedByFire$Sheet", "row", "[I", true)
  | 1 => ("HollowedByFire$Sheet", "sort", "I", false)
  | _ => ("HollowedByFire$Sheet", "size", "I", false)
def tyX4 : Nat → FieldType := fun k => match k with
  | 0 => .array .int
  | 1 => .int
  | _ => .int
abbrev wsX40 : List Cond := u_ws RX4 TX4 3
theorem nmX4 : ∀ a, a < 3 → ∀ b, b < 3 → a ≠ b → (TX4 a).2.1 ≠ (TX4 b).2.1 := by decide +kernel
theorem tyX4_ok : ∀ k, k < 3 → parseFieldDescriptor (TX4 k).2.2.1 = some (tyX4 k) := by decide +kernel
abbrev cX4_init : ByteArray := prog_6_method_1_code
def yX4_init : MethodName := ⟨RX4, "<init>", "()V"⟩
abbrev cX4_become : ByteArray := prog_6_method_2_code
def yX4_become : MethodName := ⟨RX4, "become", "(II)V"⟩
abbrev cX4_isMissing : ByteArray := prog_6_method_3_code
def yX4_isMissing : MethodName := ⟨RX4, "isMissing", "()Z"⟩
abbrev cX4_has : ByteArray := prog_6_method_4_code
def yX4_has : MethodName := ⟨RX4, "has", "(I)Z"⟩
abbrev cX4_hasAll : ByteArray := prog_6_method_5_code
def yX4_hasAll : MethodName := ⟨RX4, "hasAll", "(II)Z"⟩
abbrev cX4_at : ByteArray := prog_6_method_6_code
def yX4_at : MethodName := ⟨RX4, "at", "(I)I"⟩
abbrev cX4_put : ByteArray := prog_6_method_7_code
def yX4_put : MethodName := ⟨RX4, "put", "(II)V"⟩
def RX5 : String := "HollowedByFire$Step"
def TX5 : u_T := fun k => match k with
  | _ => ("", "", "", false)
def tyX5 : Nat → FieldType := fun k => match k with
  | _ => .int
abbrev wsX50 : List Cond := u_ws RX5 TX5 0
theorem nmX5 : ∀ a, a < 0 → ∀ b, b < 0 → a ≠ b → (TX5 a).2.1 ≠ (TX5 b).2.1 := by decide +kernel
theorem tyX5_ok : ∀ k, k < 0 → parseFieldDescriptor (TX5 k).2.2.1 = some (tyX5 k) := by decide +kernel
abbrev cX5_takes : ByteArray := prog_7_method_2_code
def yX5_takes : MethodName := ⟨RX5, "takes", "(I)I"⟩
abbrev cX5_result : ByteArray := prog_7_method_3_code
def yX5_result : MethodName := ⟨RX5, "result", "(III[I)I"⟩
def RX6 : String := "HollowedByFire$Tape"
def TX6 : u_T := fun k => match k with
  | 0 => ("HollowedByFire$Tape", "bytes", "[I", true)
  | 1 => ("HollowedByFire$Tape", "size", "I", false)
  | 2 => ("HollowedByFire$Tape", "code", "[I", true)
  | 3 => ("HollowedByFire$Tape", "ends", "[I", true)
  | 4 => ("HollowedByFire$Tape", "filled", "I", false)
  | 5 => ("HollowedByFire$Tape", "fault", "I", false)
  | 6 => ("HollowedByFire$Tape", "open", "I", false)
  | 7 => ("HollowedByFire$Tape", "next", "I", false)
  | 8 => ("HollowedByFire$Tape", "token", "I", false)
  | 9 => ("HollowedByFire$Tape", "start", "I", false)
  | _ => ("HollowedByFire$Tape", "number", "I", false)
def tyX6 : Nat → FieldType := fun k => match k with
  | 0 => .array .int
  | 1 => .int
  | 2 => .array .int
  | 3 => .array .int
  | 4 => .int
  | 5 => .int
  | 6 => .int
  | 7 => .int
  | 8 => .int
  | 9 => .int
  | _ => .int
abbrev wsX60 : List Cond := u_ws RX6 TX6 11
theorem nmX6 : ∀ a, a < 11 → ∀ b, b < 11 → a ≠ b → (TX6 a).2.1 ≠ (TX6 b).2.1 := by decide +kernel
theorem tyX6_ok : ∀ k, k < 11 → parseFieldDescriptor (TX6 k).2.2.1 = some (tyX6 k) := by decide +kernel
abbrev cX6_init : ByteArray := prog_8_method_1_code
def yX6_init : MethodName := ⟨RX6, "<init>", "()V"⟩
abbrev cX6_append : ByteArray := prog_8_method_2_code
def yX6_append : MethodName := ⟨RX6, "append", "(I)V"⟩
abbrev cX6_empty : ByteArray := prog_8_method_3_code
def yX6_empty : MethodName := ⟨RX6, "empty", "()V"⟩
abbrev cX6_read : ByteArray := prog_8_method_4_code
def yX6_read : MethodName := ⟨RX6, "read", "()I"⟩
abbrev cX6_fail : ByteArray := prog_8_method_5_code
def yX6_fail : MethodName := ⟨RX6, "fail", "()V"⟩
abbrev cX6_expect : ByteArray := prog_8_method_6_code
def yX6_expect : MethodName := ⟨RX6, "expect", "(I)V"⟩
abbrev cX6_emit : ByteArray := prog_8_method_7_code
def yX6_emit : MethodName := ⟨RX6, "emit", "(I)V"⟩
abbrev cX6_opens : ByteArray := prog_8_method_8_code
def yX6_opens : MethodName := ⟨RX6, "opens", "()Z"⟩
abbrev cX6_readEither : ByteArray := prog_8_method_9_code
def yX6_readEither : MethodName := ⟨RX6, "readEither", "()V"⟩
abbrev cX6_readBoth : ByteArray := prog_8_method_10_code
def yX6_readBoth : MethodName := ⟨RX6, "readBoth", "()V"⟩
abbrev cX6_readNot : ByteArray := prog_8_method_11_code
def yX6_readNot : MethodName := ⟨RX6, "readNot", "()V"⟩
abbrev cX6_readSum : ByteArray := prog_8_method_12_code
def yX6_readSum : MethodName := ⟨RX6, "readSum", "()V"⟩
abbrev cX6_readTerm : ByteArray := prog_8_method_13_code
def yX6_readTerm : MethodName := ⟨RX6, "readTerm", "()V"⟩
abbrev cX6_readOne : ByteArray := prog_8_method_14_code
def yX6_readOne : MethodName := ⟨RX6, "readOne", "()V"⟩
abbrev cX6_byteAt : ByteArray := prog_8_method_15_code
def yX6_byteAt : MethodName := ⟨RX6, "byteAt", "(I)I"⟩
abbrev cX6_isLetter : ByteArray := prog_8_method_16_code
def yX6_isLetter : MethodName := ⟨RX6, "isLetter", "(I)Z"⟩
abbrev cX6_isDigit : ByteArray := prog_8_method_17_code
def yX6_isDigit : MethodName := ⟨RX6, "isDigit", "(I)Z"⟩
abbrev cX6_advance : ByteArray := prog_8_method_18_code
def yX6_advance : MethodName := ⟨RX6, "advance", "()V"⟩
abbrev cX6_isSign : ByteArray := prog_8_method_19_code
def yX6_isSign : MethodName := ⟨RX6, "isSign", "(I)Z"⟩
abbrev cX6_wordToken : ByteArray := prog_8_method_20_code
def yX6_wordToken : MethodName := ⟨RX6, "wordToken", "()I"⟩
abbrev cX6_spells : ByteArray := prog_8_method_21_code
def yX6_spells : MethodName := ⟨RX6, "spells", "(Ljava/lang/String;)Z"⟩
def RX7 : String := "HollowedByFire$Tree"
def TX7 : u_T := fun k => match k with
  | 0 => ("HollowedByFire$Tree", "rings", "[I", true)
  | 1 => ("HollowedByFire$Tree", "girth", "I", false)
  | 2 => ("HollowedByFire$Tree", "lean", "I", false)
  | 3 => ("HollowedByFire$Tree", "knots", "I", false)
  | _ => ("HollowedByFire$Tree", "bored", "I", false)
def tyX7 : Nat → FieldType := fun k => match k with
  | 0 => .array .int
  | 1 => .int
  | 2 => .int
  | 3 => .int
  | _ => .int
abbrev wsX70 : List Cond := u_ws RX7 TX7 5
theorem nmX7 : ∀ a, a < 5 → ∀ b, b < 5 → a ≠ b → (TX7 a).2.1 ≠ (TX7 b).2.1 := by decide +kernel
theorem tyX7_ok : ∀ k, k < 5 → parseFieldDescriptor (TX7 k).2.2.1 = some (tyX7 k) := by decide +kernel
abbrev cX7_init : ByteArray := prog_9_method_1_code
def yX7_init : MethodName := ⟨RX7, "<init>", "()V"⟩
abbrev cX7_goodBy : ByteArray := prog_9_method_2_code
def yX7_goodBy : MethodName := ⟨RX7, "goodBy", "(I)I"⟩
abbrev cX7_counts : ByteArray := prog_9_method_3_code
def yX7_counts : MethodName := ⟨RX7, "counts", "(I)I"⟩
abbrev cX7_mean : ByteArray := prog_9_method_4_code
def yX7_mean : MethodName := ⟨RX7, "mean", "()LHollowedByFire$Fraction;"⟩
abbrev cX7_hurtBy : ByteArray := prog_9_method_5_code
def yX7_hurtBy : MethodName := ⟨RX7, "hurtBy", "(II)I"⟩
def RX8 : String := "HollowedByFire$Wood"
def TX8 : u_T := fun k => match k with
  | 0 => ("HollowedByFire$Wood", "rows", "[[I", true)
  | 1 => ("HollowedByFire$Wood", "settings", "[I", true)
  | _ => ("HollowedByFire$Wood", "law", "I", false)
def tyX8 : Nat → FieldType := fun k => match k with
  | 0 => .array (.array .int)
  | 1 => .array .int
  | _ => .int
abbrev wsX80 : List Cond := u_ws RX8 TX8 3
theorem nmX8 : ∀ a, a < 3 → ∀ b, b < 3 → a ≠ b → (TX8 a).2.1 ≠ (TX8 b).2.1 := by decide +kernel
theorem tyX8_ok : ∀ k, k < 3 → parseFieldDescriptor (TX8 k).2.2.1 = some (tyX8 k) := by decide +kernel
abbrev cX8_init : ByteArray := prog_10_method_1_code
def yX8_init : MethodName := ⟨RX8, "<init>", "()V"⟩
abbrev cX8_takes : ByteArray := prog_10_method_2_code
def yX8_takes : MethodName := ⟨RX8, "takes", "(II)Z"⟩
abbrev cX8_of : ByteArray := prog_10_method_3_code
def yX8_of : MethodName := ⟨RX8, "of", "(II)I"⟩
abbrev cX8_put : ByteArray := prog_10_method_4_code
def yX8_put : MethodName := ⟨RX8, "put", "(III)V"⟩
abbrev cX8_takesSetting : ByteArray := prog_10_method_5_code
def yX8_takesSetting : MethodName := ⟨RX8, "takesSetting", "(II)Z"⟩
abbrev cX8_setting : ByteArray := prog_10_method_6_code
def yX8_setting : MethodName := ⟨RX8, "setting", "(I)I"⟩
abbrev cX8_putSetting : ByteArray := prog_10_method_7_code
def yX8_putSetting : MethodName := ⟨RX8, "putSetting", "(II)V"⟩
abbrev cX8_become : ByteArray := prog_10_method_8_code
def yX8_become : MethodName := ⟨RX8, "become", "(LHollowedByFire$Wood;)V"⟩
def RX9 : String := "HollowedByFire$Works"
def TX9 : u_T := fun k => match k with
  | 0 => ("HollowedByFire$Works", "kinds", "[I", true)
  | 1 => ("HollowedByFire$Works", "sections", "[I", true)
  | 2 => ("HollowedByFire$Works", "mores", "[I", true)
  | _ => ("HollowedByFire$Works", "size", "I", false)
def tyX9 : Nat → FieldType := fun k => match k with
  | 0 => .array .int
  | 1 => .array .int
  | 2 => .array .int
  | _ => .int
abbrev wsX90 : List Cond := u_ws RX9 TX9 4
theorem nmX9 : ∀ a, a < 4 → ∀ b, b < 4 → a ≠ b → (TX9 a).2.1 ≠ (TX9 b).2.1 := by decide +kernel
theorem tyX9_ok : ∀ k, k < 4 → parseFieldDescriptor (TX9 k).2.2.1 = some (tyX9 k) := by decide +kernel
abbrev cX9_init : ByteArray := prog_11_method_1_code
def yX9_init : MethodName := ⟨RX9, "<init>", "()V"⟩
abbrev cX9_has : ByteArray := prog_11_method_2_code
def yX9_has : MethodName := ⟨RX9, "has", "(I)Z"⟩
abbrev cX9_kind : ByteArray := prog_11_method_3_code
def yX9_kind : MethodName := ⟨RX9, "kind", "(I)I"⟩
abbrev cX9_section : ByteArray := prog_11_method_4_code
def yX9_section : MethodName := ⟨RX9, "section", "(I)I"⟩
abbrev cX9_more : ByteArray := prog_11_method_5_code
def yX9_more : MethodName := ⟨RX9, "more", "(I)I"⟩
abbrev cX9_add : ByteArray := prog_11_method_6_code
def yX9_add : MethodName := ⟨RX9, "add", "(III)I"⟩
abbrev cX9_isOne : ByteArray := prog_11_method_7_code
def yX9_isOne : MethodName := ⟨RX9, "isOne", "(II)Z"⟩
abbrev cX9_daysOfOneMan : ByteArray := prog_11_method_8_code
def yX9_daysOfOneMan : MethodName := ⟨RX9, "daysOfOneMan", "(I)I"⟩
abbrev cX9_daysBy : ByteArray := prog_11_method_9_code
def yX9_daysBy : MethodName := ⟨RX9, "daysBy", "(II)I"⟩
abbrev cX9_allDaysBy : ByteArray := prog_11_method_10_code
def yX9_allDaysBy : MethodName := ⟨RX9, "allDaysBy", "(II)I"⟩
abbrev cX9_longest : ByteArray := prog_11_method_11_code
def yX9_longest : MethodName := ⟨RX9, "longest", "(II)I"⟩
def RX10 : String := "HollowedByFire"
def TX10 : u_T := fun k => match k with
  | 0 => ("HollowedByFire", "wood", "LHollowedByFire$Wood;", true)
  | 1 => ("HollowedByFire", "laws", "LHollowedByFire$Laws;", true)
  | 2 => ("HollowedByFire", "tape", "LHollowedByFire$Tape;", true)
  | 3 => ("HollowedByFire", "works", "LHollowedByFire$Works;", true)
  | 4 => ("HollowedByFire", "grove", "LHollowedByFire$Grove;", true)
  | 5 => ("HollowedByFire", "sheets", "[LHollowedByFire$Sheet;", true)
  | 6 => ("HollowedByFire", "ages", "[I", true)
  | 7 => ("HollowedByFire", "boat", "LHollowedByFire$Hull;", true)
  | 8 => ("HollowedByFire", "keptWood", "LHollowedByFire$Wood;", true)
  | 9 => ("HollowedByFire", "keptBored", "[I", true)
  | 10 => ("HollowedByFire", "keptTrees", "I", false)
  | _ => ("HollowedByFire", "isKept", "Z", false)
def tyX10 : Nat → FieldType := fun k => match k with
  | 0 => .object "HollowedByFire$Wood"
  | 1 => .object "HollowedByFire$Laws"
  | 2 => .object "HollowedByFire$Tape"
  | 3 => .object "HollowedByFire$Works"
  | 4 => .object "HollowedByFire$Grove"
  | 5 => .array (.object "HollowedByFire$Sheet")
  | 6 => .array .int
  | 7 => .object "HollowedByFire$Hull"
  | 8 => .object "HollowedByFire$Wood"
  | 9 => .array .int
  | 10 => .int
  | _ => .boolean
abbrev wsX100 : List Cond := u_ws RX10 TX10 12
theorem nmX10 : ∀ a, a < 12 → ∀ b, b < 12 → a ≠ b → (TX10 a).2.1 ≠ (TX10 b).2.1 := by decide +kernel
theorem tyX10_ok : ∀ k, k < 12 → parseFieldDescriptor (TX10 k).2.2.1 = some (tyX10 k) := by decide +kernel
abbrev cX10_init : ByteArray := prog_1_method_1_code
def yX10_init : MethodName := ⟨RX10, "<init>", "()V"⟩
abbrev cX10_carve : ByteArray := prog_1_method_2_code
def yX10_carve : MethodName := ⟨RX10, "carve", "(III)I"⟩
abbrev cX10_carved : ByteArray := prog_1_method_3_code
def yX10_carved : MethodName := ⟨RX10, "carved", "(II)I"⟩
abbrev cX10_set : ByteArray := prog_1_method_4_code
def yX10_set : MethodName := ⟨RX10, "set", "(II)I"⟩
abbrev cX10_count : ByteArray := prog_1_method_5_code
def yX10_count : MethodName := ⟨RX10, "count", "(I)I"⟩
abbrev cX10_feed : ByteArray := prog_1_method_6_code
def yX10_feed : MethodName := ⟨RX10, "feed", "(JI)I"⟩
abbrev cX10_text : ByteArray := prog_1_method_7_code
def yX10_text : MethodName := ⟨RX10, "text", "()I"⟩
abbrev cX10_force : ByteArray := prog_1_method_8_code
def yX10_force : MethodName := ⟨RX10, "force", "(I)I"⟩
abbrev cX10_asks : ByteArray := prog_1_method_9_code
def yX10_asks : MethodName := ⟨RX10, "asks", "(IIII)I"⟩
abbrev cX10_work : ByteArray := prog_1_method_10_code
def yX10_work : MethodName := ⟨RX10, "work", "(III)I"⟩
abbrev cX10_forget : ByteArray := prog_1_method_11_code
def yX10_forget : MethodName := ⟨RX10, "forget", "()I"⟩
abbrev cX10_workTold : ByteArray := prog_1_method_12_code
def yX10_workTold : MethodName := ⟨RX10, "workTold", "(II)I"⟩
abbrev cX10_hull : ByteArray := prog_1_method_13_code
def yX10_hull : MethodName := ⟨RX10, "hull", "(III)I"⟩
abbrev cX10_state : ByteArray := prog_1_method_14_code
def yX10_state : MethodName := ⟨RX10, "state", "(II)I"⟩
abbrev cX10_days : ByteArray := prog_1_method_15_code
def yX10_days : MethodName := ⟨RX10, "days", "(II)I"⟩
abbrev cX10_fewest : ByteArray := prog_1_method_16_code
def yX10_fewest : MethodName := ⟨RX10, "fewest", "(II)I"⟩
abbrev cX10_crack : ByteArray := prog_1_method_17_code
def yX10_crack : MethodName := ⟨RX10, "crack", "(II)I"⟩
abbrev cX10_far : ByteArray := prog_1_method_18_code
def yX10_far : MethodName := ⟨RX10, "far", "(I)I"⟩
abbrev cX10_odds : ByteArray := prog_1_method_19_code
def yX10_odds : MethodName := ⟨RX10, "odds", "(IIII)J"⟩
abbrev cX10_stop : ByteArray := prog_1_method_20_code
def yX10_stop : MethodName := ⟨RX10, "stop", "(IIII)I"⟩
abbrev cX10_wished : ByteArray := prog_1_method_21_code
def yX10_wished : MethodName := ⟨RX10, "wished", "(III)I"⟩
abbrev cX10_old : ByteArray := prog_1_method_22_code
def yX10_old : MethodName := ⟨RX10, "old", "(I)I"⟩
abbrev cX10_copyOf : ByteArray := prog_1_method_23_code
def yX10_copyOf : MethodName := ⟨RX10, "copyOf", "(II)I"⟩
abbrev cX10_even : ByteArray := prog_1_method_24_code
def yX10_even : MethodName := ⟨RX10, "even", "(II)I"⟩
abbrev cX10_hours : ByteArray := prog_1_method_25_code
def yX10_hours : MethodName := ⟨RX10, "hours", "(II)I"⟩
abbrev cX10_left : ByteArray := prog_1_method_26_code
def yX10_left : MethodName := ⟨RX10, "left", "(III)J"⟩
abbrev cX10_judge : ByteArray := prog_1_method_27_code
def yX10_judge : MethodName := ⟨RX10, "judge", "(II)I"⟩
abbrev cX10_floats : ByteArray := prog_1_method_28_code
def yX10_floats : MethodName := ⟨RX10, "floats", "(III)I"⟩
abbrev cX10_bears : ByteArray := prog_1_method_29_code
def yX10_bears : MethodName := ⟨RX10, "bears", "(II)I"⟩
abbrev cX10_bar : ByteArray := prog_1_method_30_code
def yX10_bar : MethodName := ⟨RX10, "bar", "(III)I"⟩
abbrev cX10_tree : ByteArray := prog_1_method_31_code
def yX10_tree : MethodName := ⟨RX10, "tree", "(IIII)I"⟩
abbrev cX10_bore : ByteArray := prog_1_method_32_code
def yX10_bore : MethodName := ⟨RX10, "bore", "(II)I"⟩
abbrev cX10_worth : ByteArray := prog_1_method_33_code
def yX10_worth : MethodName := ⟨RX10, "worth", "(II)J"⟩
abbrev cX10_which : ByteArray := prog_1_method_34_code
def yX10_which : MethodName := ⟨RX10, "which", "()I"⟩
abbrev cX10_boring : ByteArray := prog_1_method_35_code
def yX10_boring : MethodName := ⟨RX10, "boring", "(II)J"⟩
abbrev cX10_hole : ByteArray := prog_1_method_36_code
def yX10_hole : MethodName := ⟨RX10, "hole", "()I"⟩
abbrev cX10_fell : ByteArray := prog_1_method_37_code
def yX10_fell : MethodName := ⟨RX10, "fell", "(III)I"⟩
abbrev cX10_forest : ByteArray := prog_1_method_38_code
def yX10_forest : MethodName := ⟨RX10, "forest", "(III)I"⟩
abbrev cX10_dries : ByteArray := prog_1_method_39_code
def yX10_dries : MethodName := ⟨RX10, "dries", "(II)I"⟩
abbrev cX10_shade : ByteArray := prog_1_method_40_code
def yX10_shade : MethodName := ⟨RX10, "shade", "(I)I"⟩
abbrev cX10_drawn : ByteArray := prog_1_method_41_code
def yX10_drawn : MethodName := ⟨RX10, "drawn", "(IIII)I"⟩
abbrev cX10_image : ByteArray := prog_1_method_42_code
def yX10_image : MethodName := ⟨RX10, "image", "()I"⟩
abbrev cX10_back : ByteArray := prog_1_method_43_code
def yX10_back : MethodName := ⟨RX10, "back", "()I"⟩
abbrev cX10_sheet : ByteArray := prog_1_method_44_code
def yX10_sheet : MethodName := ⟨RX10, "sheet", "(III)I"⟩
abbrev cX10_cell : ByteArray := prog_1_method_45_code
def yX10_cell : MethodName := ⟨RX10, "cell", "(III)I"⟩
abbrev cX10_copy : ByteArray := prog_1_method_46_code
def yX10_copy : MethodName := ⟨RX10, "copy", "(IIIII)I"⟩
abbrev cX10_worksBy : ByteArray := prog_1_method_47_code
def yX10_worksBy : MethodName := ⟨RX10, "worksBy", "(IIII)I"⟩
abbrev cX10_taken : ByteArray := prog_1_method_48_code
def yX10_taken : MethodName := ⟨RX10, "taken", "(II)I"⟩
abbrev cX10_within : ByteArray := prog_1_method_49_code
def yX10_within : MethodName := ⟨RX10, "within", "(III)Z"⟩
abbrev cX10_isSection : ByteArray := prog_1_method_50_code
def yX10_isSection : MethodName := ⟨RX10, "isSection", "(I)Z"⟩
abbrev cX10_share : ByteArray := prog_1_method_51_code
def yX10_share : MethodName := ⟨RX10, "share", "(I)I"⟩
abbrev cX10_isSoMany : ByteArray := prog_1_method_52_code
def yX10_isSoMany : MethodName := ⟨RX10, "isSoMany", "(I)Z"⟩
abbrev cX10_makeHull : ByteArray := prog_1_method_53_code
def yX10_makeHull : MethodName := ⟨RX10, "makeHull", "(II)V"⟩
abbrev cX10_sheetAt : ByteArray := prog_1_method_54_code
def yX10_sheetAt : MethodName := ⟨RX10, "sheetAt", "(I)LHollowedByFire$Sheet;"⟩
abbrev cX10_refusalFor : ByteArray := prog_1_method_55_code
def yX10_refusalFor : MethodName := ⟨RX10, "refusalFor", "(LHollowedByFire$Sheet;)I"⟩
abbrev cX10_refusalOfWidths : ByteArray := prog_1_method_56_code
def yX10_refusalOfWidths : MethodName := ⟨RX10, "refusalOfWidths", "(LHollowedByFire$Sheet;)I"⟩
abbrev cX10_widthToCarve : ByteArray := prog_1_method_57_code
def yX10_widthToCarve : MethodName := ⟨RX10, "widthToCarve", "(LHollowedByFire$Sheet;II)I"⟩
abbrev cX10_canBeCarved : ByteArray := prog_1_method_58_code
def yX10_canBeCarved : MethodName := ⟨RX10, "canBeCarved", "(LHollowedByFire$Sheet;I)Z"⟩
abbrev cX10_unevenness : ByteArray := prog_1_method_59_code
def yX10_unevenness : MethodName := ⟨RX10, "unevenness", "(LHollowedByFire$Sheet;I)I"⟩
abbrev cX10_tellsRings : ByteArray := prog_1_method_60_code
def yX10_tellsRings : MethodName := ⟨RX10, "tellsRings", "(LHollowedByFire$Sheet;)Z"⟩
abbrev cX10_yearOfForest : ByteArray := prog_1_method_61_code
def yX10_yearOfForest : MethodName := ⟨RX10, "yearOfForest", "(II)I"⟩
def RX11 : String := "HollowedByFireModel"
def TX11 : u_T := fun k => match k with
  | 0 => ("HollowedByFireModel", "carving", "[I", true)
  | 1 => ("HollowedByFireModel", "heat", "I", false)
  | 2 => ("HollowedByFireModel", "blows", "I", false)
  | 3 => ("HollowedByFireModel", "sap", "I", false)
  | 4 => ("HollowedByFireModel", "men", "I", false)
  | 5 => ("HollowedByFireModel", "season", "I", false)
  | 6 => ("HollowedByFireModel", "works", "I", false)
  | 7 => ("HollowedByFireModel", "kind", "[I", true)
  | 8 => ("HollowedByFireModel", "section", "[I", true)
  | 9 => ("HollowedByFireModel", "more", "[I", true)
  | 10 => ("HollowedByFireModel", "trees", "I", false)
  | 11 => ("HollowedByFireModel", "girth", "[I", true)
  | 12 => ("HollowedByFireModel", "lean", "[I", true)
  | 13 => ("HollowedByFireModel", "knots", "[I", true)
  | 14 => ("HollowedByFireModel", "rings", "[I", true)
  | 15 => ("HollowedByFireModel", "bored", "[I", true)
  | 16 => ("HollowedByFireModel", "tape", "[I", true)
  | 17 => ("HollowedByFireModel", "taped", "I", false)
  | 18 => ("HollowedByFireModel", "codes", "[I", true)
  | 19 => ("HollowedByFireModel", "starts", "[I", true)
  | 20 => ("HollowedByFireModel", "texts", "I", false)
  | 21 => ("HollowedByFireModel", "rule", "I", false)
  | 22 => ("HollowedByFireModel", "hasImage", "Z", false)
  | 23 => ("HollowedByFireModel", "imageTrees", "I", false)
  | 24 => ("HollowedByFireModel", "imageRule", "I", false)
  | 25 => ("HollowedByFireModel", "imageHeld", "[I", true)
  | 26 => ("HollowedByFireModel", "imageCarving", "[I", true)
  | 27 => ("HollowedByFireModel", "imageBored", "[I", true)
  | 28 => ("HollowedByFireModel", "sheetSort", "[I", true)
  | 29 => ("HollowedByFireModel", "sheetSize", "[I", true)
  | 30 => ("HollowedByFireModel", "cells", "[I", true)
  | 31 => ("HollowedByFireModel", "at", "I", false)
  | 32 => ("HollowedByFireModel", "begun", "I", false)
  | 33 => ("HollowedByFireModel", "token", "I", false)
  | 34 => ("HollowedByFireModel", "value", "I", false)
  | 35 => ("HollowedByFireModel", "words", "[J", true)
  | 36 => ("HollowedByFireModel", "held", "[I", true)
  | 37 => ("HollowedByFireModel", "heldMany", "I", false)
  | 38 => ("HollowedByFireModel", "opens", "I", false)
  | 39 => ("HollowedByFireModel", "out", "I", false)
  | 40 => ("HollowedByFireModel", "stack", "[I", true)
  | 41 => ("HollowedByFireModel", "named", "[I", true)
  | 42 => ("HollowedByFireModel", "wide", "[I", true)
  | 43 => ("HollowedByFireModel", "thick", "[I", true)
  | 44 => ("HollowedByFireModel", "high", "[I", true)
  | 45 => ("HollowedByFireModel", "broken", "I", false)
  | 46 => ("HollowedByFireModel", "spread", "I", false)
  | 47 => ("HollowedByFireModel", "grainMore", "I", false)
  | 48 => ("HollowedByFireModel", "isDrawn", "Z", false)
  | 49 => ("HollowedByFireModel", "lot", "J", false)
  | 50 => ("HollowedByFireModel", "boringBelow", "J", false)
  | _ => ("HollowedByFireModel", "ages", "[I", true)
def tyX11 : Nat → FieldType := fun k => match k with
  | 0 => .array .int
  | 1 => .int
  | 2 => .int
  | 3 => .int
  | 4 => .int
  | 5 => .int
  | 6 => .int
  | 7 => .array .int
  | 8 => .array .int
  | 9 => .array .int
  | 10 => .int
  | 11 => .array .int
  | 12 => .array .int
  | 13 => .array .int
  | 14 => .array .int
  | 15 => .array .int
  | 16 => .array .int
  | 17 => .int
  | 18 => .array .int
  | 19 => .array .int
  | 20 => .int
  | 21 => .int
  | 22 => .boolean
  | 23 => .int
  | 24 => .int
  | 25 => .array .int
  | 26 => .array .int
  | 27 => .array .int
  | 28 => .array .int
  | 29 => .array .int
  | 30 => .array .int
  | 31 => .int
  | 32 => .int
  | 33 => .int
  | 34 => .int
  | 35 => .array .long
  | 36 => .array .int
  | 37 => .int
  | 38 => .int
  | 39 => .int
  | 40 => .array .int
  | 41 => .array .int
  | 42 => .array .int
  | 43 => .array .int
  | 44 => .array .int
  | 45 => .int
  | 46 => .int
  | 47 => .int
  | 48 => .boolean
  | 49 => .long
  | 50 => .long
  | _ => .array .int
abbrev wsX110 : List Cond := u_ws RX11 TX11 52
theorem nmX11 : ∀ a, a < 52 → ∀ b, b < 52 → a ≠ b → (TX11 a).2.1 ≠ (TX11 b).2.1 := by decide +kernel
theorem tyX11_ok : ∀ k, k < 52 → parseFieldDescriptor (TX11 k).2.2.1 = some (tyX11 k) := by decide +kernel
abbrev cX11_init : ByteArray := prog_13_method_1_code
def yX11_init : MethodName := ⟨RX11, "<init>", "()V"⟩
abbrev cX11_first : ByteArray := prog_13_method_2_code
def yX11_first : MethodName := ⟨RX11, "first", "(IIIII)V"⟩
abbrev cX11_in : ByteArray := prog_13_method_4_code
def yX11_in : MethodName := ⟨RX11, "in", "(III)Z"⟩
abbrev cX11_isSection : ByteArray := prog_13_method_5_code
def yX11_isSection : MethodName := ⟨RX11, "isSection", "(I)Z"⟩
abbrev cX11_areWorks : ByteArray := prog_13_method_6_code
def yX11_areWorks : MethodName := ⟨RX11, "areWorks", "(I)Z"⟩
abbrev cX11_size : ByteArray := prog_13_method_7_code
def yX11_size : MethodName := ⟨RX11, "size", "(I)I"⟩
abbrev cX11_carve : ByteArray := prog_13_method_8_code
def yX11_carve : MethodName := ⟨RX11, "carve", "(III)I"⟩
abbrev cX11_carved : ByteArray := prog_13_method_9_code
def yX11_carved : MethodName := ⟨RX11, "carved", "(II)I"⟩
abbrev cX11_set : ByteArray := prog_13_method_10_code
def yX11_set : MethodName := ⟨RX11, "set", "(II)I"⟩
abbrev cX11_holds : ByteArray := prog_13_method_11_code
def yX11_holds : MethodName := ⟨RX11, "holds", "(II)V"⟩
abbrev cX11_count : ByteArray := prog_13_method_12_code
def yX11_count : MethodName := ⟨RX11, "count", "(I)I"⟩
abbrev cX11_feed : ByteArray := prog_13_method_13_code
def yX11_feed : MethodName := ⟨RX11, "feed", "(JI)I"⟩
abbrev cX11_letters : ByteArray := prog_13_method_14_code
def yX11_letters : MethodName := ⟨RX11, "letters", "()J"⟩
abbrev cX11_next : ByteArray := prog_13_method_15_code
def yX11_next : MethodName := ⟨RX11, "next", "()V"⟩
abbrev cX11_rank : ByteArray := prog_13_method_16_code
def yX11_rank : MethodName := ⟨RX11, "rank", "(I)I"⟩
abbrev cX11_puts : ByteArray := prog_13_method_17_code
def yX11_puts : MethodName := ⟨RX11, "puts", "(I)V"⟩
abbrev cX11_unwinds : ByteArray := prog_13_method_18_code
def yX11_unwinds : MethodName := ⟨RX11, "unwinds", "(I)V"⟩
abbrev cX11_holds_ : ByteArray := prog_13_method_19_code
def yX11_holds_ : MethodName := ⟨RX11, "holds", "(I)V"⟩
abbrev cX11_opensOne : ByteArray := prog_13_method_20_code
def yX11_opensOne : MethodName := ⟨RX11, "opensOne", "(I)Z"⟩
abbrev cX11_between : ByteArray := prog_13_method_21_code
def yX11_between : MethodName := ⟨RX11, "between", "(I)Z"⟩
abbrev cX11_signOf : ByteArray := prog_13_method_22_code
def yX11_signOf : MethodName := ⟨RX11, "signOf", "()I"⟩
abbrev cX11_eRead : ByteArray := prog_13_method_23_code
def yX11_eRead : MethodName := ⟨RX11, "eRead", "()Z"⟩
abbrev cX11_text : ByteArray := prog_13_method_24_code
def yX11_text : MethodName := ⟨RX11, "text", "()I"⟩
abbrev cX11_two : ByteArray := prog_13_method_25_code
def yX11_two : MethodName := ⟨RX11, "two", "(III)I"⟩
abbrev cX11_worthOf : ByteArray := prog_13_method_26_code
def yX11_worthOf : MethodName := ⟨RX11, "worthOf", "(I)I"⟩
abbrev cX11_says : ByteArray := prog_13_method_27_code
def yX11_says : MethodName := ⟨RX11, "says", "(IIII)I"⟩
abbrev cX11_force : ByteArray := prog_13_method_28_code
def yX11_force : MethodName := ⟨RX11, "force", "(I)I"⟩
abbrev cX11_asks : ByteArray := prog_13_method_29_code
def yX11_asks : MethodName := ⟨RX11, "asks", "(IIII)I"⟩
abbrev cX11_work : ByteArray := prog_13_method_30_code
def yX11_work : MethodName := ⟨RX11, "work", "(III)I"⟩
abbrev cX11_forget : ByteArray := prog_13_method_31_code
def yX11_forget : MethodName := ⟨RX11, "forget", "()I"⟩
abbrev cX11_daysOf : ByteArray := prog_13_method_32_code
def yX11_daysOf : MethodName := ⟨RX11, "daysOf", "(I)I"⟩
abbrev cX11_by : ByteArray := prog_13_method_33_code
def yX11_by : MethodName := ⟨RX11, "by", "(II)I"⟩
abbrev cX11_workTold : ByteArray := prog_13_method_34_code
def yX11_workTold : MethodName := ⟨RX11, "workTold", "(II)I"⟩
abbrev cX11_drawsLess : ByteArray := prog_13_method_35_code
def yX11_drawsLess : MethodName := ⟨RX11, "drawsLess", "()I"⟩
abbrev cX11_knotOf : ByteArray := prog_13_method_36_code
def yX11_knotOf : MethodName := ⟨RX11, "knotOf", "(I)I"⟩
abbrev cX11_fires : ByteArray := prog_13_method_37_code
def yX11_fires : MethodName := ⟨RX11, "fires", "(I)V"⟩
abbrev cX11_inch : ByteArray := prog_13_method_38_code
def yX11_inch : MethodName := ⟨RX11, "inch", "()V"⟩
abbrev cX11_isAt : ByteArray := prog_13_method_39_code
def yX11_isAt : MethodName := ⟨RX11, "isAt", "(II)Z"⟩
abbrev cX11_chars : ByteArray := prog_13_method_40_code
def yX11_chars : MethodName := ⟨RX11, "chars", "(I)V"⟩
abbrev cX11_sews : ByteArray := prog_13_method_41_code
def yX11_sews : MethodName := ⟨RX11, "sews", "(I)V"⟩
abbrev cX11_makes : ByteArray := prog_13_method_42_code
def yX11_makes : MethodName := ⟨RX11, "makes", "(I)V"⟩
abbrev cX11_begins : ByteArray := prog_13_method_43_code
def yX11_begins : MethodName := ⟨RX11, "begins", "()V"⟩
abbrev cX11_comes : ByteArray := prog_13_method_44_code
def yX11_comes : MethodName := ⟨RX11, "comes", "(I)V"⟩
abbrev cX11_hull : ByteArray := prog_13_method_45_code
def yX11_hull : MethodName := ⟨RX11, "hull", "(III)I"⟩
abbrev cX11_state : ByteArray := prog_13_method_46_code
def yX11_state : MethodName := ⟨RX11, "state", "(II)I"⟩
abbrev cX11_daysBy : ByteArray := prog_13_method_47_code
def yX11_daysBy : MethodName := ⟨RX11, "daysBy", "(II)I"⟩
abbrev cX11_days : ByteArray := prog_13_method_48_code
def yX11_days : MethodName := ⟨RX11, "days", "(II)I"⟩
abbrev cX11_fewest : ByteArray := prog_13_method_49_code
def yX11_fewest : MethodName := ⟨RX11, "fewest", "(II)I"⟩
abbrev cX11_cracks : ByteArray := prog_13_method_50_code
def yX11_cracks : MethodName := ⟨RX11, "cracks", "(III)I"⟩
abbrev cX11_crack : ByteArray := prog_13_method_51_code
def yX11_crack : MethodName := ⟨RX11, "crack", "(II)I"⟩
abbrev cX11_inchesLeft : ByteArray := prog_13_method_52_code
def yX11_inchesLeft : MethodName := ⟨RX11, "inchesLeft", "(I)I"⟩
abbrev cX11_far : ByteArray := prog_13_method_53_code
def yX11_far : MethodName := ⟨RX11, "far", "(I)I"⟩
abbrev cX11_lowest : ByteArray := prog_13_method_54_code
def yX11_lowest : MethodName := ⟨RX11, "lowest", "(JJI)J"⟩
abbrev cX11_soundOf : ByteArray := prog_13_method_55_code
def yX11_soundOf : MethodName := ⟨RX11, "soundOf", "(III)I"⟩
abbrev cX11_odds : ByteArray := prog_13_method_56_code
def yX11_odds : MethodName := ⟨RX11, "odds", "(IIII)J"⟩
abbrev cX11_stop : ByteArray := prog_13_method_57_code
def yX11_stop : MethodName := ⟨RX11, "stop", "(IIII)I"⟩
abbrev cX11_widthsWrong : ByteArray := prog_13_method_58_code
def yX11_widthsWrong : MethodName := ⟨RX11, "widthsWrong", "(I)I"⟩
abbrev cX11_forWish : ByteArray := prog_13_method_59_code
def yX11_forWish : MethodName := ⟨RX11, "forWish", "(III)I"⟩
abbrev cX11_wished : ByteArray := prog_13_method_60_code
def yX11_wished : MethodName := ⟨RX11, "wished", "(III)I"⟩
abbrev cX11_canBe : ByteArray := prog_13_method_61_code
def yX11_canBe : MethodName := ⟨RX11, "canBe", "(II)Z"⟩
abbrev cX11_old : ByteArray := prog_13_method_62_code
def yX11_old : MethodName := ⟨RX11, "old", "(I)I"⟩
abbrev cX11_copyOf : ByteArray := prog_13_method_63_code
def yX11_copyOf : MethodName := ⟨RX11, "copyOf", "(II)I"⟩
abbrev cX11_even : ByteArray := prog_13_method_64_code
def yX11_even : MethodName := ⟨RX11, "even", "(II)I"⟩
abbrev cX11_behind : ByteArray := prog_13_method_65_code
def yX11_behind : MethodName := ⟨RX11, "behind", "(II)I"⟩
abbrev cX11_hours : ByteArray := prog_13_method_66_code
def yX11_hours : MethodName := ⟨RX11, "hours", "(II)I"⟩
abbrev cX11_left : ByteArray := prog_13_method_67_code
def yX11_left : MethodName := ⟨RX11, "left", "(III)J"⟩
abbrev cX11_judge : ByteArray := prog_13_method_68_code
def yX11_judge : MethodName := ⟨RX11, "judge", "(II)I"⟩
abbrev cX11_weight : ByteArray := prog_13_method_69_code
def yX11_weight : MethodName := ⟨RX11, "weight", "()I"⟩
abbrev cX11_allWide : ByteArray := prog_13_method_70_code
def yX11_allWide : MethodName := ⟨RX11, "allWide", "(Z)I"⟩
abbrev cX11_leastHigh : ByteArray := prog_13_method_71_code
def yX11_leastHigh : MethodName := ⟨RX11, "leastHigh", "()I"⟩
abbrev cX11_draughtOf : ByteArray := prog_13_method_72_code
def yX11_draughtOf : MethodName := ⟨RX11, "draughtOf", "(I)I"⟩
abbrev cX11_sinks : ByteArray := prog_13_method_73_code
def yX11_sinks : MethodName := ⟨RX11, "sinks", "(I)Z"⟩
abbrev cX11_floats : ByteArray := prog_13_method_74_code
def yX11_floats : MethodName := ⟨RX11, "floats", "(III)I"⟩
abbrev cX11_bears : ByteArray := prog_13_method_75_code
def yX11_bears : MethodName := ⟨RX11, "bears", "(II)I"⟩
abbrev cX11_bar : ByteArray := prog_13_method_76_code
def yX11_bar : MethodName := ⟨RX11, "bar", "(III)I"⟩
abbrev cX11_isTree : ByteArray := prog_13_method_77_code
def yX11_isTree : MethodName := ⟨RX11, "isTree", "(I)Z"⟩
abbrev cX11_tree : ByteArray := prog_13_method_78_code
def yX11_tree : MethodName := ⟨RX11, "tree", "(IIII)I"⟩
abbrev cX11_bore : ByteArray := prog_13_method_79_code
def yX11_bore : MethodName := ⟨RX11, "bore", "(II)I"⟩
abbrev cX11_goodOf : ByteArray := prog_13_method_80_code
def yX11_goodOf : MethodName := ⟨RX11, "goodOf", "(II)J"⟩
abbrev cX11_meanAbove : ByteArray := prog_13_method_81_code
def yX11_meanAbove : MethodName := ⟨RX11, "meanAbove", "(I)J"⟩
abbrev cX11_meanBelow : ByteArray := prog_13_method_82_code
def yX11_meanBelow : MethodName := ⟨RX11, "meanBelow", "(I)J"⟩
abbrev cX11_worth : ByteArray := prog_13_method_83_code
def yX11_worth : MethodName := ⟨RX11, "worth", "(II)J"⟩
abbrev cX11_bestBut : ByteArray := prog_13_method_84_code
def yX11_bestBut : MethodName := ⟨RX11, "bestBut", "(I)I"⟩
abbrev cX11_which : ByteArray := prog_13_method_85_code
def yX11_which : MethodName := ⟨RX11, "which", "()I"⟩
abbrev cX11_boringAbove : ByteArray := prog_13_method_86_code
def yX11_boringAbove : MethodName := ⟨RX11, "boringAbove", "(I)J"⟩
abbrev cX11_boring : ByteArray := prog_13_method_87_code
def yX11_boring : MethodName := ⟨RX11, "boring", "(II)J"⟩
abbrev cX11_hole : ByteArray := prog_13_method_88_code
def yX11_hole : MethodName := ⟨RX11, "hole", "()I"⟩
abbrev cX11_fell : ByteArray := prog_13_method_89_code
def yX11_fell : MethodName := ⟨RX11, "fell", "(III)I"⟩
abbrev cX11_forest : ByteArray := prog_13_method_90_code
def yX11_forest : MethodName := ⟨RX11, "forest", "(III)I"⟩
abbrev cX11_driesIn : ByteArray := prog_13_method_91_code
def yX11_driesIn : MethodName := ⟨RX11, "driesIn", "(I)I"⟩
abbrev cX11_dries : ByteArray := prog_13_method_92_code
def yX11_dries : MethodName := ⟨RX11, "dries", "(II)I"⟩
abbrev cX11_shade : ByteArray := prog_13_method_93_code
def yX11_shade : MethodName := ⟨RX11, "shade", "(I)I"⟩
abbrev cX11_drawn : ByteArray := prog_13_method_94_code
def yX11_drawn : MethodName := ⟨RX11, "drawn", "(IIII)I"⟩
abbrev cX11_image : ByteArray := prog_13_method_95_code
def yX11_image : MethodName := ⟨RX11, "image", "()I"⟩
abbrev cX11_back : ByteArray := prog_13_method_96_code
def yX11_back : MethodName := ⟨RX11, "back", "()I"⟩
abbrev cX11_sheet : ByteArray := prog_13_method_97_code
def yX11_sheet : MethodName := ⟨RX11, "sheet", "(III)I"⟩
abbrev cX11_cell : ByteArray := prog_13_method_98_code
def yX11_cell : MethodName := ⟨RX11, "cell", "(III)I"⟩
abbrev cX11_copy : ByteArray := prog_13_method_99_code
def yX11_copy : MethodName := ⟨RX11, "copy", "(IIIII)I"⟩
abbrev cX11_worksBy : ByteArray := prog_13_method_100_code
def yX11_worksBy : MethodName := ⟨RX11, "worksBy", "(IIII)I"⟩
abbrev cX11_isUnder : ByteArray := prog_13_method_101_code
def yX11_isUnder : MethodName := ⟨RX11, "isUnder", "(II)Z"⟩
abbrev cX11_taken : ByteArray := prog_13_method_102_code
def yX11_taken : MethodName := ⟨RX11, "taken", "(II)I"⟩
def RJ9 : String := "java/lang/Math"
def TJ9 : u_T := fun k => match k with
  | _ => ("", "", "", false)
def tyJ9 : Nat → FieldType := fun k => match k with
  | _ => .int
abbrev wsJ90 : List Cond := u_ws RJ9 TJ9 0
theorem nmJ9 : ∀ a, a < 0 → ∀ b, b < 0 → a ≠ b → (TJ9 a).2.1 ≠ (TJ9 b).2.1 := by decide +kernel
theorem tyJ9_ok : ∀ k, k < 0 → parseFieldDescriptor (TJ9 k).2.2.1 = some (tyJ9 k) := by decide +kernel
abbrev cJ9_abs_0f7a4 : ByteArray := prog_14_method_59_code
def yJ9_abs_0f7a4 : MethodName := ⟨RJ9, "abs", "(I)I"⟩
abbrev cJ9_max_7cf53 : ByteArray := prog_14_method_65_code
def yJ9_max_7cf53 : MethodName := ⟨RJ9, "max", "(II)I"⟩
abbrev cJ9_max_f86c9 : ByteArray := prog_14_method_66_code
def yJ9_max_f86c9 : MethodName := ⟨RJ9, "max", "(JJ)J"⟩
abbrev cJ9_min_7cf53 : ByteArray := prog_14_method_69_code
def yJ9_min_7cf53 : MethodName := ⟨RJ9, "min", "(II)I"⟩
def RJ0 : String := "java/lang/String"
def TJ0 : u_T := fun k => match k with
  | _ => ("", "", "", false)
def tyJ0 : Nat → FieldType := fun k => match k with
  | _ => .int
abbrev wsJ00 : List Cond := u_ws RJ0 TJ0 0
theorem nmJ0 : ∀ a, a < 0 → ∀ b, b < 0 → a ≠ b → (TJ0 a).2.1 ≠ (TJ0 b).2.1 := by decide +kernel
theorem tyJ0_ok : ∀ k, k < 0 → parseFieldDescriptor (TJ0 k).2.2.1 = some (tyJ0 k) := by decide +kernel
abbrev cJ0_length_8abf5 : ByteArray := prog_15_method_54_code
def yJ0_length_8abf5 : MethodName := ⟨RJ0, "length", "()I"⟩
abbrev cJ0_charAt_5068e : ByteArray := prog_15_method_56_code
def yJ0_charAt_5068e : MethodName := ⟨RJ0, "charAt", "(I)C"⟩
abbrev cJ0_coder_7d493 : ByteArray := prog_15_method_152_code
def yJ0_coder_7d493 : MethodName := ⟨RJ0, "coder", "()B"⟩
abbrev cJ0_isLatin1_aae02 : ByteArray := prog_15_method_154_code
def yJ0_isLatin1_aae02 : MethodName := ⟨RJ0, "isLatin1", "()Z"⟩
abbrev cJ0_checkIndex_df160 : ByteArray := prog_15_method_155_code
def yJ0_checkIndex_df160 : MethodName := ⟨RJ0, "checkIndex", "(II)V"⟩
def RJ1 : String := "java/lang/StringLatin1"
def TJ1 : u_T := fun k => match k with
  | _ => ("", "", "", false)
def tyJ1 : Nat → FieldType := fun k => match k with
  | _ => .int
abbrev wsJ10 : List Cond := u_ws RJ1 TJ1 0
theorem nmJ1 : ∀ a, a < 0 → ∀ b, b < 0 → a ≠ b → (TJ1 a).2.1 ≠ (TJ1 b).2.1 := by decide +kernel
theorem tyJ1_ok : ∀ k, k < 0 → parseFieldDescriptor (TJ1 k).2.2.1 = some (tyJ1 k) := by decide +kernel
abbrev cJ1_charAt_3b067 : ByteArray := prog_16_method_2_code
def yJ1_charAt_3b067 : MethodName := ⟨RJ1, "charAt", "([BI)C"⟩
def RJ2 : String := "java/lang/StringUTF16"
def TJ2 : u_T := fun k => match k with
  | _ => ("", "", "", false)
def tyJ2 : Nat → FieldType := fun k => match k with
  | _ => .int
abbrev wsJ20 : List Cond := u_ws RJ2 TJ2 0
theorem nmJ2 : ∀ a, a < 0 → ∀ b, b < 0 → a ≠ b → (TJ2 a).2.1 ≠ (TJ2 b).2.1 := by decide +kernel
theorem tyJ2_ok : ∀ k, k < 0 → parseFieldDescriptor (TJ2 k).2.2.1 = some (tyJ2 k) := by decide +kernel
abbrev cJ2_getChar_3b067 : ByteArray := prog_17_method_5_code
def yJ2_getChar_3b067 : MethodName := ⟨RJ2, "getChar", "([BI)C"⟩
abbrev cJ2_length_9d52b : ByteArray := prog_17_method_6_code
def yJ2_length_9d52b : MethodName := ⟨RJ2, "length", "([B)I"⟩
abbrev cJ2_charAt_3b067 : ByteArray := prog_17_method_83_code
def yJ2_charAt_3b067 : MethodName := ⟨RJ2, "charAt", "([BI)C"⟩
abbrev cJ2_checkIndex_2214a : ByteArray := prog_17_method_91_code
def yJ2_checkIndex_2214a : MethodName := ⟨RJ2, "checkIndex", "(I[B)V"⟩
def RJ10 : String := "java/lang/System"
def TJ10 : u_T := fun k => match k with
  | _ => ("", "", "", false)
def tyJ10 : Nat → FieldType := fun k => match k with
  | _ => .int
abbrev wsJ100 : List Cond := u_ws RJ10 TJ10 0
theorem nmJ10 : ∀ a, a < 0 → ∀ b, b < 0 → a ≠ b → (TJ10 a).2.1 ≠ (TJ10 b).2.1 := by decide +kernel
theorem tyJ10_ok : ∀ k, k < 0 → parseFieldDescriptor (TJ10 k).2.2.1 = some (tyJ10 k) := by decide +kernel
def RJ3 : String := "jdk/internal/util/Preconditions"
def TJ3 : u_T := fun k => match k with
  | _ => ("", "", "", false)
def tyJ3 : Nat → FieldType := fun k => match k with
  | _ => .int
abbrev wsJ30 : List Cond := u_ws RJ3 TJ3 0
theorem nmJ3 : ∀ a, a < 0 → ∀ b, b < 0 → a ≠ b → (TJ3 a).2.1 ≠ (TJ3 b).2.1 := by decide +kernel
theorem tyJ3_ok : ∀ k, k < 0 → parseFieldDescriptor (TJ3 k).2.2.1 = some (tyJ3 k) := by decide +kernel
abbrev cJ3_checkIndex_8e157 : ByteArray := prog_19_method_11_code
def yJ3_checkIndex_8e157 : MethodName := ⟨RJ3, "checkIndex", "(IILjava/util/function/BiFunction;)I"⟩
def RL : String := "HollowedByFireLaw"
abbrev cL_law : ByteArray := code
def yL_law : MethodName := ⟨RL, "law", "([I)Z"⟩
def wsL_law_r1 : List Cond := [Cond.classLink RL 7 RX10, Cond.instantiable RX10 12, Cond.initialized RX10, Cond.classLink RL 10 RX11, Cond.instantiable RX11 52, Cond.initialized RX11, Cond.constantLong RL 32 (4294967295), Cond.methodLink RL 9 yX10_init, Cond.instanceMethod yX10_init, Cond.code yX10_init cX10_init 2 none, Cond.methodLink RX10 1 objectInit, Cond.instanceMethod objectInit, Cond.code objectInit ⟨#[0xb1]⟩ 1 none, Cond.classLink RX10 7 RX8, Cond.instantiable RX8 3, Cond.initialized RX8, Cond.fieldLink RX10 10 "HollowedByFire" "wood" "LHollowedByFire$Wood;", Cond.classLink RX10 16 RX3, Cond.instantiable RX3 4, Cond.initialized RX3, Cond.fieldLink RX10 19 "HollowedByFire" "laws" "LHollowedByFire$Laws;", Cond.classLink RX10 23 RX6, Cond.instantiable RX6 11, Cond.initialized RX6]
def wsL_law_r2 : List Cond := [Cond.fieldLink RX10 26 "HollowedByFire" "tape" "LHollowedByFire$Tape;", Cond.classLink RX10 30 RX9, Cond.instantiable RX9 4, Cond.initialized RX9, Cond.fieldLink RX10 33 "HollowedByFire" "works" "LHollowedByFire$Works;", Cond.classLink RX10 37 RX1, Cond.instantiable RX1 2, Cond.initialized RX1, Cond.fieldLink RX10 40 "HollowedByFire" "grove" "LHollowedByFire$Grove;", Cond.classLink RX10 44 RX4, Cond.fieldLink RX10 46 "HollowedByFire" "sheets" "[LHollowedByFire$Sheet;", Cond.arrayClass .int, Cond.fieldLink RX10 50 "HollowedByFire" "ages" "[I", Cond.fieldLink RX10 54 "HollowedByFire" "keptWood" "LHollowedByFire$Wood;", Cond.fieldLink RX10 57 "HollowedByFire" "keptBored" "[I", Cond.fieldLink RX10 60 "HollowedByFire" "keptTrees" "I", Cond.fieldLink RX10 64 "HollowedByFire" "isKept" "Z", Cond.classLink RX10 68 RX2, Cond.instantiable RX2 12, Cond.initialized RX2, Cond.fieldLink RX10 73 "HollowedByFire" "boat" "LHollowedByFire$Hull;", Cond.instantiable RX4 3, Cond.initialized RX4, Cond.methodLink RX10 9 yX8_init]
def wsL_law_r3 : List Cond := [Cond.instanceMethod yX8_init, Cond.code yX8_init cX8_init 3 none, Cond.methodLink RX8 3 objectInit, Cond.classLink RX8 9 "[[I", Cond.fieldLink RX8 11 "HollowedByFire$Wood" "rows" "[[I", Cond.fieldLink RX8 16 "HollowedByFire$Wood" "settings" "[I", Cond.fieldLink RX8 20 "HollowedByFire$Wood" "law" "I", Cond.fieldLink RX8 24 "HollowedByFire$Wood" "AT_FIRST" "[I", Cond.fieldLink RX8 27 "HollowedByFire$Wood" "SETTING_AT_FIRST" "[I", Cond.instanceMethod yX3_init, Cond.code yX3_init cX3_init 1 none, Cond.methodLink RX3 3 objectInit, Cond.classLink RX3 9 "[[I", Cond.fieldLink RX3 11 "HollowedByFire$Laws" "codes" "[[I", Cond.fieldLink RX3 16 "HollowedByFire$Laws" "ends" "[[I", Cond.fieldLink RX3 19 "HollowedByFire$Laws" "stack" "[I", Cond.fieldLink RX3 23 "HollowedByFire$Laws" "size" "I", Cond.instanceMethod yX6_init, Cond.code yX6_init cX6_init 1 none, Cond.methodLink RX6 3 objectInit, Cond.fieldLink RX6 9 "HollowedByFire$Tape" "bytes" "[I", Cond.fieldLink RX6 15 "HollowedByFire$Tape" "size" "I", Cond.fieldLink RX6 19 "HollowedByFire$Tape" "code" "[I", Cond.fieldLink RX6 22 "HollowedByFire$Tape" "ends" "[I"]
def wsL_law_r4 : List Cond := [Cond.fieldLink RX6 25 "HollowedByFire$Tape" "filled" "I", Cond.fieldLink RX6 28 "HollowedByFire$Tape" "fault" "I", Cond.fieldLink RX6 31 "HollowedByFire$Tape" "open" "I", Cond.fieldLink RX6 34 "HollowedByFire$Tape" "next" "I", Cond.fieldLink RX6 37 "HollowedByFire$Tape" "token" "I", Cond.fieldLink RX6 40 "HollowedByFire$Tape" "start" "I", Cond.fieldLink RX6 43 "HollowedByFire$Tape" "number" "I", Cond.instanceMethod yX9_init, Cond.code yX9_init cX9_init 1 none, Cond.methodLink RX9 3 objectInit, Cond.fieldLink RX9 9 "HollowedByFire$Works" "kinds" "[I", Cond.fieldLink RX9 15 "HollowedByFire$Works" "sections" "[I", Cond.fieldLink RX9 18 "HollowedByFire$Works" "mores" "[I", Cond.fieldLink RX9 21 "HollowedByFire$Works" "size" "I", Cond.instanceMethod yX1_init, Cond.code yX1_init cX1_init 1 none, Cond.methodLink RX1 3 objectInit, Cond.classLink RX1 9 RX7, Cond.fieldLink RX1 11 "HollowedByFire$Grove" "trees" "[LHollowedByFire$Tree;", Cond.fieldLink RX1 17 "HollowedByFire$Grove" "size" "I", Cond.methodLink RX10 70 yX2_init, Cond.instanceMethod yX2_init, Cond.code yX2_init cX2_init 3 none, Cond.methodLink RX2 3 objectInit]
def wsL_law_r5 : List Cond := [Cond.fieldLink RX2 9 "HollowedByFire$Hull" "wide" "[I", Cond.fieldLink RX2 15 "HollowedByFire$Hull" "thick" "[I", Cond.fieldLink RX2 18 "HollowedByFire$Hull" "high" "[I", Cond.fieldLink RX2 23 "HollowedByFire$Hull" "names" "[I", Cond.fieldLink RX2 26 "HollowedByFire$Hull" "broken" "I", Cond.fieldLink RX2 30 "HollowedByFire$Hull" "spread" "I", Cond.fieldLink RX2 33 "HollowedByFire$Hull" "firstBreak" "I", Cond.fieldLink RX2 36 "HollowedByFire$Hull" "watched" "I", Cond.constant RX2 39 (-1000000), Cond.fieldLink RX2 40 "HollowedByFire$Hull" "lacks" "I", Cond.fieldLink RX2 43 "HollowedByFire$Hull" "lot" "J", Cond.fieldLink RX2 47 "HollowedByFire$Hull" "wood" "LHollowedByFire$Wood;", Cond.fieldLink RX2 51 "HollowedByFire$Hull" "laws" "LHollowedByFire$Laws;", Cond.instanceMethod yX4_init, Cond.code yX4_init cX4_init 1 none, Cond.methodLink RX4 3 objectInit, Cond.fieldLink RX4 9 "HollowedByFire$Sheet" "row" "[I", Cond.fieldLink RX4 15 "HollowedByFire$Sheet" "sort" "I", Cond.fieldLink RX4 19 "HollowedByFire$Sheet" "size" "I", Cond.methodLink RX10 80 yJ0_length_8abf5, Cond.instanceMethod yJ0_length_8abf5, Cond.selects RJ0 yJ0_length_8abf5 yJ0_length_8abf5, Cond.initialized RJ0, Cond.code yJ0_length_8abf5 cJ0_length_8abf5 1 (some .int)]
def wsL_law_r6 : List Cond := [Cond.fieldLink RJ0 9 "java/lang/String" "value" "[B", Cond.methodLink RJ0 335 yJ0_coder_7d493, Cond.instanceMethod yJ0_coder_7d493, Cond.selects RJ0 yJ0_coder_7d493 yJ0_coder_7d493, Cond.code yJ0_coder_7d493 cJ0_coder_7d493 1 (some .byte), Cond.fieldLink RJ0 38 "java/lang/String" "COMPACT_STRINGS" "Z", Cond.fieldLink RJ0 15 "java/lang/String" "coder" "B", Cond.methodLink RX10 86 yJ0_charAt_5068e, Cond.instanceMethod yJ0_charAt_5068e, Cond.selects RJ0 yJ0_charAt_5068e yJ0_charAt_5068e, Cond.code yJ0_charAt_5068e cJ0_charAt_5068e 2 (some .char), Cond.methodLink RJ0 492 yJ0_isLatin1_aae02, Cond.instanceMethod yJ0_isLatin1_aae02, Cond.selects RJ0 yJ0_isLatin1_aae02 yJ0_isLatin1_aae02, Cond.code yJ0_isLatin1_aae02 cJ0_isLatin1_aae02 1 (some .boolean), Cond.methodLink RJ0 495 yJ1_charAt_3b067, Cond.static yJ1_charAt_3b067, Cond.initialized RJ1, Cond.code yJ1_charAt_3b067 cJ1_charAt_3b067 2 (some .char), Cond.methodLink RJ1 9 yJ0_checkIndex_df160, Cond.static yJ0_checkIndex_df160, Cond.code yJ0_checkIndex_df160 cJ0_checkIndex_df160 2 none, Cond.fieldLink RJ0 1053 "jdk/internal/util/Preconditions" "SIOOBE_FORMATTER" "Ljava/util/function/BiFunction;", Cond.methodLink RJ0 1059 yJ3_checkIndex_8e157]
def wsL_law_r7 : List Cond := [Cond.static yJ3_checkIndex_8e157, Cond.initialized RJ3, Cond.code yJ3_checkIndex_8e157 cJ3_checkIndex_8e157 3 (some .int), Cond.methodLink RJ0 498 yJ2_charAt_3b067, Cond.static yJ2_charAt_3b067, Cond.initialized RJ2, Cond.code yJ2_charAt_3b067 cJ2_charAt_3b067 2 (some .char), Cond.methodLink RJ2 67 yJ2_checkIndex_2214a, Cond.static yJ2_checkIndex_2214a, Cond.code yJ2_checkIndex_2214a cJ2_checkIndex_2214a 2 none, Cond.methodLink RJ2 48 yJ2_length_9d52b, Cond.static yJ2_length_9d52b, Cond.code yJ2_length_9d52b cJ2_length_9d52b 1 (some .int), Cond.methodLink RJ2 414 yJ0_checkIndex_df160, Cond.methodLink RJ2 71 yJ2_getChar_3b067, Cond.static yJ2_getChar_3b067, Cond.code yJ2_getChar_3b067 cJ2_getChar_3b067 2 (some .char), Cond.fieldLink RJ2 44 "java/lang/StringUTF16" "$assertionsDisabled" "Z", Cond.fieldLink RJ2 59 "java/lang/StringUTF16" "HI_BYTE_SHIFT" "I", Cond.fieldLink RJ2 63 "java/lang/StringUTF16" "LO_BYTE_SHIFT" "I", Cond.methodLink RX10 90 yX6_append, Cond.instanceMethod yX6_append, Cond.selects RX6 yX6_append yX6_append, Cond.code yX6_append cX6_append 2 none]
def wsL_law_r8 : List Cond := [Cond.methodLink RX10 94 yX6_read, Cond.instanceMethod yX6_read, Cond.selects RX6 yX6_read yX6_read, Cond.code yX6_read cX6_read 2 (some .int), Cond.methodLink RX6 46 yX6_advance, Cond.instanceMethod yX6_advance, Cond.selects RX6 yX6_advance yX6_advance, Cond.code yX6_advance cX6_advance 3 none, Cond.methodLink RX6 87 yX6_byteAt, Cond.instanceMethod yX6_byteAt, Cond.selects RX6 yX6_byteAt yX6_byteAt, Cond.code yX6_byteAt cX6_byteAt 2 (some .int), Cond.methodLink RX6 91 yX6_isLetter, Cond.static yX6_isLetter, Cond.code yX6_isLetter cX6_isLetter 1 (some .boolean), Cond.static yX10_within, Cond.code yX10_within cX10_within 3 (some .boolean), Cond.methodLink RX6 95 yX6_wordToken, Cond.instanceMethod yX6_wordToken, Cond.selects RX6 yX6_wordToken yX6_wordToken, Cond.code yX6_wordToken cX6_wordToken 1 (some .int), Cond.methodLink RX6 107 yX6_spells, Cond.instanceMethod yX6_spells, Cond.selects RX6 yX6_spells yX6_spells]
def wsL_law_r9 : List Cond := [Cond.code yX6_spells cX6_spells 3 (some .boolean), Cond.methodLink RX6 133 yJ0_length_8abf5, Cond.methodLink RX6 138 yJ0_charAt_5068e, Cond.methodLink RX6 99 yX6_isDigit, Cond.static yX6_isDigit, Cond.code yX6_isDigit cX6_isDigit 1 (some .boolean), Cond.methodLink RX6 102 yX6_isSign, Cond.static yX6_isSign, Cond.code yX6_isSign cX6_isSign 1 (some .boolean), Cond.methodLink RX6 49 yX6_expect, Cond.instanceMethod yX6_expect, Cond.selects RX6 yX6_expect yX6_expect, Cond.code yX6_expect cX6_expect 2 none, Cond.methodLink RX6 56 yX6_fail, Cond.instanceMethod yX6_fail, Cond.selects RX6 yX6_fail yX6_fail, Cond.code yX6_fail cX6_fail 1 none, Cond.methodLink RX6 53 yX6_readEither, Cond.instanceMethod yX6_readEither, Cond.selects RX6 yX6_readEither yX6_readEither, Cond.code yX6_readEither cX6_readEither 2 none, Cond.methodLink RX6 59 yX6_readBoth, Cond.instanceMethod yX6_readBoth, Cond.selects RX6 yX6_readBoth yX6_readBoth]
def wsL_law_r10 : List Cond := [Cond.methodLink RX6 64 yX6_emit, Cond.instanceMethod yX6_emit, Cond.selects RX6 yX6_emit yX6_emit, Cond.code yX6_emit cX6_emit 2 none, Cond.code yX6_readBoth cX6_readBoth 2 none, Cond.methodLink RX6 67 yX6_readNot, Cond.instanceMethod yX6_readNot, Cond.selects RX6 yX6_readNot yX6_readNot, Cond.code yX6_readNot cX6_readNot 2 none, Cond.methodLink RX6 70 yX6_opens, Cond.instanceMethod yX6_opens, Cond.selects RX6 yX6_opens yX6_opens, Cond.code yX6_opens cX6_opens 1 (some .boolean), Cond.methodLink RX6 74 yX6_readSum, Cond.instanceMethod yX6_readSum, Cond.selects RX6 yX6_readSum yX6_readSum, Cond.code yX6_readOne cX6_readOne 1 none, Cond.methodLink RX6 80 yX6_readOne, Cond.instanceMethod yX6_readOne, Cond.selects RX6 yX6_readOne yX6_readOne, Cond.code yX6_readSum cX6_readSum 3 none, Cond.methodLink RX6 77 yX6_readTerm, Cond.instanceMethod yX6_readTerm, Cond.selects RX6 yX6_readTerm yX6_readTerm]
def wsL_law_r11 : List Cond := [Cond.code yX6_readTerm cX6_readTerm 2 none, Cond.methodLink RX10 103 yX3_keep, Cond.instanceMethod yX3_keep, Cond.selects RX3 yX3_keep yX3_keep, Cond.code yX3_keep cX3_keep 3 (some .int), Cond.methodLink RX3 27 arraycopyName, Cond.native arraycopyName, Cond.static arraycopyName, Cond.initialized "java/lang/System", Cond.methodLink RX10 107 yX6_empty, Cond.instanceMethod yX6_empty, Cond.selects RX6 yX6_empty yX6_empty, Cond.code yX6_empty cX6_empty 1 none, Cond.methodLink RL 12 yX11_init, Cond.instanceMethod yX11_init, Cond.code yX11_init cX11_init 2 none, Cond.methodLink RX11 1 objectInit, Cond.fieldLink RX11 7 "HollowedByFireModel" "carving" "[I", Cond.fieldLink RX11 13 "HollowedByFireModel" "heat" "I", Cond.fieldLink RX11 17 "HollowedByFireModel" "sap" "I", Cond.fieldLink RX11 20 "HollowedByFireModel" "men" "I", Cond.fieldLink RX11 23 "HollowedByFireModel" "kind" "[I", Cond.fieldLink RX11 26 "HollowedByFireModel" "section" "[I", Cond.fieldLink RX11 29 "HollowedByFireModel" "more" "[I"]
def wsL_law_r12 : List Cond := [Cond.fieldLink RX11 32 "HollowedByFireModel" "girth" "[I", Cond.fieldLink RX11 35 "HollowedByFireModel" "lean" "[I", Cond.fieldLink RX11 38 "HollowedByFireModel" "knots" "[I", Cond.fieldLink RX11 41 "HollowedByFireModel" "rings" "[I", Cond.fieldLink RX11 44 "HollowedByFireModel" "bored" "[I", Cond.fieldLink RX11 47 "HollowedByFireModel" "tape" "[I", Cond.fieldLink RX11 50 "HollowedByFireModel" "codes" "[I", Cond.fieldLink RX11 53 "HollowedByFireModel" "starts" "[I", Cond.fieldLink RX11 56 "HollowedByFireModel" "texts" "I", Cond.fieldLink RX11 59 "HollowedByFireModel" "imageHeld" "[I", Cond.fieldLink RX11 62 "HollowedByFireModel" "imageCarving" "[I", Cond.fieldLink RX11 65 "HollowedByFireModel" "imageBored" "[I", Cond.fieldLink RX11 68 "HollowedByFireModel" "sheetSort" "[I", Cond.fieldLink RX11 71 "HollowedByFireModel" "sheetSize" "[I", Cond.fieldLink RX11 74 "HollowedByFireModel" "cells" "[I", Cond.arrayClass .long, Cond.constantLong RX11 77 (1667785074), Cond.constantLong RX11 79 (1886743660), Cond.constantLong RX11 81 (495873781348), Cond.constantLong RX11 83 (1751474548), Cond.constantLong RX11 85 (2003398244), Cond.constantLong RX11 87 (7561584), Cond.constantLong RX11 89 (499967943531), Cond.constantLong RX11 91 (1802399604)]
def wsL_law_r13 : List Cond := [Cond.constantLong RX11 93 (2003395685), Cond.constantLong RX11 95 (28530), Cond.constantLong RX11 97 (6385252), Cond.constantLong RX11 99 (7237492), Cond.fieldLink RX11 101 "HollowedByFireModel" "words" "[J", Cond.fieldLink RX11 105 "HollowedByFireModel" "held" "[I", Cond.fieldLink RX11 108 "HollowedByFireModel" "stack" "[I", Cond.fieldLink RX11 111 "HollowedByFireModel" "named" "[I", Cond.fieldLink RX11 114 "HollowedByFireModel" "wide" "[I", Cond.fieldLink RX11 117 "HollowedByFireModel" "thick" "[I", Cond.fieldLink RX11 120 "HollowedByFireModel" "high" "[I", Cond.fieldLink RX11 123 "HollowedByFireModel" "ages" "[I", Cond.constant RX11 126 (100001), Cond.constant RX11 131 (100002), Cond.constant RX11 132 (100009), Cond.constant RX11 133 (100003), Cond.methodLink RX11 127 yX11_first, Cond.instanceMethod yX11_first, Cond.selects RX11 yX11_first yX11_first, Cond.code yX11_first cX11_first 6 none, Cond.methodLink RL 13 yX10_carve, Cond.instanceMethod yX10_carve, Cond.selects RX10 yX10_carve yX10_carve, Cond.code yX10_carve cX10_carve 5 (some .int)]
def wsL_law_r14 : List Cond := [Cond.methodLink RX10 110 yX10_isSection, Cond.static yX10_isSection, Cond.code yX10_isSection cX10_isSection 1 (some .boolean), Cond.methodLink RX10 126 yX10_within, Cond.methodLink RX10 114 yX8_takes, Cond.instanceMethod yX8_takes, Cond.selects RX8 yX8_takes yX8_takes, Cond.code yX8_takes cX8_takes 3 (some .boolean), Cond.fieldLink RX8 34 "HollowedByFire$Wood" "LEAST" "[I", Cond.fieldLink RX8 37 "HollowedByFire$Wood" "MOST" "[I", Cond.methodLink RX10 118 yX8_of, Cond.instanceMethod yX8_of, Cond.selects RX8 yX8_of yX8_of, Cond.code yX8_of cX8_of 3 (some .int), Cond.methodLink RX10 122 yX8_put, Cond.instanceMethod yX8_put, Cond.selects RX8 yX8_put yX8_put, Cond.code yX8_put cX8_put 4 none, Cond.methodLink RL 17 yX11_carve, Cond.instanceMethod yX11_carve, Cond.selects RX11 yX11_carve yX11_carve, Cond.code yX11_carve cX11_carve 7 (some .int), Cond.methodLink RX11 141 yX11_isSection, Cond.static yX11_isSection]
def wsL_law_r15 : List Cond := [Cond.code yX11_isSection cX11_isSection 1 (some .boolean), Cond.methodLink RX11 134 yX11_in, Cond.static yX11_in, Cond.code yX11_in cX11_in 3 (some .boolean), Cond.methodLink RL 18 yX10_carved, Cond.instanceMethod yX10_carved, Cond.selects RX10 yX10_carved yX10_carved, Cond.code yX10_carved cX10_carved 3 (some .int), Cond.methodLink RL 22 yX11_carved, Cond.instanceMethod yX11_carved, Cond.selects RX11 yX11_carved yX11_carved, Cond.code yX11_carved cX11_carved 3 (some .int), Cond.methodLink RL 23 yX10_set, Cond.instanceMethod yX10_set, Cond.selects RX10 yX10_set yX10_set, Cond.code yX10_set cX10_set 4 (some .int), Cond.methodLink RX10 130 yX8_takesSetting, Cond.instanceMethod yX8_takesSetting, Cond.selects RX8 yX8_takesSetting yX8_takesSetting, Cond.code yX8_takesSetting cX8_takesSetting 3 (some .boolean), Cond.fieldLink RX8 44 "HollowedByFire$Wood" "SETTING_LEAST" "[I", Cond.fieldLink RX8 47 "HollowedByFire$Wood" "SETTING_MOST" "[I", Cond.methodLink RX10 133 yX8_setting, Cond.instanceMethod yX8_setting]
def wsL_law_r16 : List Cond := [Cond.selects RX8 yX8_setting yX8_setting, Cond.code yX8_setting cX8_setting 2 (some .int), Cond.methodLink RX10 137 yX8_putSetting, Cond.instanceMethod yX8_putSetting, Cond.selects RX8 yX8_putSetting yX8_putSetting, Cond.code yX8_putSetting cX8_putSetting 3 none, Cond.methodLink RL 26 yX11_set, Cond.instanceMethod yX11_set, Cond.selects RX11 yX11_set yX11_set, Cond.code yX11_set cX11_set 4 (some .int), Cond.methodLink RX11 145 yX11_count, Cond.instanceMethod yX11_count, Cond.selects RX11 yX11_count yX11_count, Cond.code yX11_count cX11_count 2 (some .int), Cond.fieldLink RX11 153 "HollowedByFireModel" "blows" "I", Cond.fieldLink RX11 156 "HollowedByFireModel" "season" "I", Cond.fieldLink RX11 138 "HollowedByFireModel" "works" "I", Cond.fieldLink RX11 159 "HollowedByFireModel" "trees" "I", Cond.fieldLink RX11 162 "HollowedByFireModel" "rule" "I", Cond.fieldLink RX11 165 "HollowedByFireModel" "taped" "I", Cond.methodLink RX11 149 yX11_holds, Cond.instanceMethod yX11_holds, Cond.selects RX11 yX11_holds yX11_holds, Cond.code yX11_holds cX11_holds 3 none]
def wsL_law_r17 : List Cond := [Cond.methodLink RL 27 yX10_count, Cond.instanceMethod yX10_count, Cond.selects RX10 yX10_count yX10_count, Cond.code yX10_count cX10_count 2 (some .int), Cond.methodLink RL 31 yX11_count, Cond.methodLink RL 34 yX10_feed, Cond.instanceMethod yX10_feed, Cond.selects RX10 yX10_feed yX10_feed, Cond.code yX10_feed cX10_feed 5 (some .int), Cond.methodLink RL 38 yX11_feed, Cond.instanceMethod yX11_feed, Cond.selects RX11 yX11_feed yX11_feed, Cond.code yX11_feed cX11_feed 5 (some .int), Cond.constantLong RX11 168 (255), Cond.methodLink RL 39 yX10_text, Cond.instanceMethod yX10_text, Cond.selects RX10 yX10_text yX10_text, Cond.code yX10_text cX10_text 2 (some .int), Cond.methodLink RL 43 yX11_text, Cond.instanceMethod yX11_text, Cond.selects RX11 yX11_text yX11_text, Cond.code yX11_text cX11_text 3 (some .int), Cond.fieldLink RX11 170 "HollowedByFireModel" "at" "I", Cond.fieldLink RX11 186 "HollowedByFireModel" "out" "I"]
def wsL_law_r18 : List Cond := [Cond.fieldLink RX11 176 "HollowedByFireModel" "token" "I", Cond.fieldLink RX11 179 "HollowedByFireModel" "value" "I", Cond.fieldLink RX11 173 "HollowedByFireModel" "begun" "I", Cond.methodLink RX11 207 yX11_next, Cond.instanceMethod yX11_next, Cond.selects RX11 yX11_next yX11_next, Cond.code yX11_next cX11_next 5 none, Cond.methodLink RX11 182 yX11_letters, Cond.instanceMethod yX11_letters, Cond.selects RX11 yX11_letters yX11_letters, Cond.code yX11_letters cX11_letters 4 (some .long), Cond.methodLink RX11 221 yX11_eRead, Cond.instanceMethod yX11_eRead, Cond.selects RX11 yX11_eRead yX11_eRead, Cond.code yX11_eRead cX11_eRead 4 (some .boolean), Cond.fieldLink RX11 189 "HollowedByFireModel" "heldMany" "I", Cond.fieldLink RX11 195 "HollowedByFireModel" "opens" "I", Cond.constant RX11 210 (100000), Cond.methodLink RX11 198 yX11_puts, Cond.instanceMethod yX11_puts, Cond.selects RX11 yX11_puts yX11_puts, Cond.code yX11_puts cX11_puts 2 none, Cond.methodLink RX11 204 yX11_unwinds, Cond.instanceMethod yX11_unwinds]
def wsL_law_r19 : List Cond := [Cond.selects RX11 yX11_unwinds yX11_unwinds, Cond.code yX11_unwinds cX11_unwinds 3 none, Cond.methodLink RX11 192 yX11_rank, Cond.static yX11_rank, Cond.code yX11_rank cX11_rank 1 (some .int), Cond.methodLink RX11 211 yX11_opensOne, Cond.instanceMethod yX11_opensOne, Cond.selects RX11 yX11_opensOne yX11_opensOne, Cond.code yX11_opensOne cX11_opensOne 2 (some .boolean), Cond.methodLink RX11 202 yX11_holds_, Cond.instanceMethod yX11_holds_, Cond.selects RX11 yX11_holds_ yX11_holds_, Cond.code yX11_holds_ cX11_holds_ 2 none, Cond.methodLink RX11 214 yX11_signOf, Cond.instanceMethod yX11_signOf, Cond.selects RX11 yX11_signOf yX11_signOf, Cond.code yX11_signOf cX11_signOf 1 (some .int), Cond.methodLink RX11 218 yX11_between, Cond.instanceMethod yX11_between, Cond.selects RX11 yX11_between yX11_between, Cond.code yX11_between cX11_between 2 (some .boolean), Cond.methodLink RL 44 yX10_force, Cond.instanceMethod yX10_force, Cond.selects RX10 yX10_force yX10_force]
def wsL_law_r20 : List Cond := [Cond.code yX10_force cX10_force 3 (some .int), Cond.methodLink RL 47 yX11_force, Cond.instanceMethod yX11_force, Cond.selects RX11 yX11_force yX11_force, Cond.code yX11_force cX11_force 3 (some .int), Cond.methodLink RL 48 yX10_asks, Cond.instanceMethod yX10_asks, Cond.selects RX10 yX10_asks yX10_asks, Cond.code yX10_asks cX10_asks 5 (some .int), Cond.methodLink RX10 150 yX2_begin, Cond.instanceMethod yX2_begin, Cond.selects RX2 yX2_begin yX2_begin, Cond.code yX2_begin cX2_begin 2 none, Cond.methodLink RX2 55 yX8_of, Cond.methodLink RX2 61 yX8_setting, Cond.methodLink RX10 153 yX2_asked, Cond.instanceMethod yX2_asked, Cond.selects RX2 yX2_asked yX2_asked, Cond.code yX2_asked cX2_asked 5 (some .int), Cond.methodLink RX2 68 yX3_answer, Cond.instanceMethod yX3_answer, Cond.selects RX3 yX3_answer yX3_answer, Cond.code yX3_answer cX3_answer 12 (some .int), Cond.methodLink RX3 33 Lib.Math.min.name]
def wsL_law_r21 : List Cond := [Cond.static Lib.Math.min.name, Cond.initialized "java/lang/Math", Cond.code Lib.Math.min.name Lib.Math.min.code 2 (some .int), Cond.methodLink RX3 39 Lib.Math.max.name, Cond.static Lib.Math.max.name, Cond.code Lib.Math.max.name Lib.Math.max.code 2 (some .int), Cond.methodLink RX3 42 yX5_takes, Cond.static yX5_takes, Cond.initialized RX5, Cond.code yX5_takes cX5_takes 1 (some .int), Cond.methodLink RX3 48 yX5_result, Cond.static yX5_result, Cond.code yX5_result cX5_result 5 (some .int), Cond.methodLink RL 52 yX11_asks, Cond.instanceMethod yX11_asks, Cond.selects RX11 yX11_asks yX11_asks, Cond.code yX11_asks cX11_asks 5 (some .int), Cond.methodLink RX11 232 yX11_says, Cond.instanceMethod yX11_says, Cond.selects RX11 yX11_says yX11_says, Cond.code yX11_says cX11_says 7 (some .int), Cond.methodLink RX11 229 yX11_worthOf, Cond.instanceMethod yX11_worthOf, Cond.selects RX11 yX11_worthOf yX11_worthOf]
def wsL_law_r22 : List Cond := [Cond.code yX11_worthOf cX11_worthOf 5 (some .int), Cond.methodLink RX11 225 yX11_two, Cond.static yX11_two, Cond.code yX11_two cX11_two 3 (some .int), Cond.methodLink RL 53 yX10_work, Cond.instanceMethod yX10_work, Cond.selects RX10 yX10_work yX10_work, Cond.code yX10_work cX10_work 4 (some .int), Cond.methodLink RX10 157 yX9_add, Cond.instanceMethod yX9_add, Cond.selects RX9 yX9_add yX9_add, Cond.code yX9_add cX9_add 4 (some .int), Cond.methodLink RL 56 yX11_work, Cond.instanceMethod yX11_work, Cond.selects RX11 yX11_work yX11_work, Cond.code yX11_work cX11_work 4 (some .int), Cond.methodLink RL 57 yX10_forget, Cond.instanceMethod yX10_forget, Cond.selects RX10 yX10_forget yX10_forget, Cond.code yX10_forget cX10_forget 1 (some .int), Cond.methodLink RL 60 yX11_forget, Cond.instanceMethod yX11_forget, Cond.selects RX11 yX11_forget yX11_forget, Cond.code yX11_forget cX11_forget 1 (some .int)]
def wsL_law_r23 : List Cond := [Cond.methodLink RL 61 yX10_workTold, Cond.instanceMethod yX10_workTold, Cond.selects RX10 yX10_workTold yX10_workTold, Cond.code yX10_workTold cX10_workTold 3 (some .int), Cond.methodLink RX10 161 yX9_has, Cond.instanceMethod yX9_has, Cond.selects RX9 yX9_has yX9_has, Cond.code yX9_has cX9_has 2 (some .boolean), Cond.methodLink RX10 164 yX9_kind, Cond.instanceMethod yX9_kind, Cond.selects RX9 yX9_kind yX9_kind, Cond.code yX9_kind cX9_kind 2 (some .int), Cond.methodLink RX9 25 yX9_has, Cond.methodLink RX10 167 yX9_section, Cond.instanceMethod yX9_section, Cond.selects RX9 yX9_section yX9_section, Cond.code yX9_section cX9_section 2 (some .int), Cond.methodLink RX10 170 yX9_more, Cond.instanceMethod yX9_more, Cond.selects RX9 yX9_more yX9_more, Cond.code yX9_more cX9_more 2 (some .int), Cond.methodLink RX10 173 yX9_daysBy, Cond.instanceMethod yX9_daysBy, Cond.selects RX9 yX9_daysBy yX9_daysBy]
def wsL_law_r24 : List Cond := [Cond.code yX9_daysBy cX9_daysBy 3 (some .int), Cond.methodLink RX9 46 yX9_daysOfOneMan, Cond.instanceMethod yX9_daysOfOneMan, Cond.selects RX9 yX9_daysOfOneMan yX9_daysOfOneMan, Cond.code yX9_daysOfOneMan cX9_daysOfOneMan 4 (some .int), Cond.methodLink RX9 36 yX9_more, Cond.methodLink RX9 40 yX9_section, Cond.methodLink RX9 43 yX9_kind, Cond.methodLink RL 64 yX11_workTold, Cond.instanceMethod yX11_workTold, Cond.selects RX11 yX11_workTold yX11_workTold, Cond.code yX11_workTold cX11_workTold 3 (some .int), Cond.methodLink RX11 236 yX11_daysOf, Cond.instanceMethod yX11_daysOf, Cond.selects RX11 yX11_daysOf yX11_daysOf, Cond.code yX11_daysOf cX11_daysOf 3 (some .int), Cond.methodLink RX11 239 yX11_by, Cond.static yX11_by, Cond.code yX11_by cX11_by 2 (some .int), Cond.methodLink RL 65 yX10_hull, Cond.instanceMethod yX10_hull, Cond.selects RX10 yX10_hull yX10_hull, Cond.code yX10_hull cX10_hull 4 (some .int), Cond.methodLink RX10 176 yX10_isSoMany]
def wsL_law_r25 : List Cond := [Cond.instanceMethod yX10_isSoMany, Cond.selects RX10 yX10_isSoMany yX10_isSoMany, Cond.code yX10_isSoMany cX10_isSoMany 2 (some .boolean), Cond.methodLink RX10 179 yX10_makeHull, Cond.instanceMethod yX10_makeHull, Cond.selects RX10 yX10_makeHull yX10_makeHull, Cond.code yX10_makeHull cX10_makeHull 5 none, Cond.methodLink RX10 370 yX2_drawBy, Cond.instanceMethod yX2_drawBy, Cond.selects RX2 yX2_drawBy yX2_drawBy, Cond.code yX2_drawBy cX2_drawBy 2 none, Cond.methodLink RX10 373 yX2_make, Cond.instanceMethod yX2_make, Cond.selects RX2 yX2_make yX2_make, Cond.code yX2_make cX2_make 7 none, Cond.methodLink RX2 106 yX2_burn, Cond.instanceMethod yX2_burn, Cond.selects RX2 yX2_burn yX2_burn, Cond.code yX2_burn cX2_burn 5 none, Cond.methodLink RX2 96 yX2_fire, Cond.instanceMethod yX2_fire, Cond.selects RX2 yX2_fire yX2_fire, Cond.code yX2_fire cX2_fire 3 none, Cond.constantLong RX2 85 (48271)]
def wsL_law_r26 : List Cond := [Cond.constantLong RX2 87 (2147483647), Cond.constantLong RX2 89 (3), Cond.methodLink RX2 91 Lib.Math.max.name, Cond.methodLink RX2 81 yX2_asked, Cond.methodLink RX2 74 yX2_bit, Cond.static yX2_bit, Cond.code yX2_bit cX2_bit 1 (some .int), Cond.methodLink RX2 110 yX2_spreadBy, Cond.instanceMethod yX2_spreadBy, Cond.selects RX2 yX2_spreadBy yX2_spreadBy, Cond.code yX2_spreadBy cX2_spreadBy 3 none, Cond.methodLink RX2 103 yX2_inch, Cond.instanceMethod yX2_inch, Cond.selects RX2 yX2_inch yX2_inch, Cond.code yX2_inch cX2_inch 5 none, Cond.static yX10_share, Cond.code yX10_share cX10_share 1 (some .int), Cond.methodLink RX10 252 Lib.Math.abs.name, Cond.static Lib.Math.abs.name, Cond.code Lib.Math.abs.name Lib.Math.abs.code 1 (some .int), Cond.methodLink RX2 113 yX2_sew, Cond.instanceMethod yX2_sew, Cond.selects RX2 yX2_sew yX2_sew, Cond.code yX2_sew cX2_sew 6 none]
def wsL_law_r27 : List Cond := [Cond.methodLink RX2 116 yX2_isBroken, Cond.instanceMethod yX2_isBroken, Cond.selects RX2 yX2_isBroken yX2_isBroken, Cond.code yX2_isBroken cX2_isBroken 2 (some .boolean), Cond.methodLink RX10 191 yX2_isBroken, Cond.methodLink RL 68 yX11_hull, Cond.instanceMethod yX11_hull, Cond.selects RX11 yX11_hull yX11_hull, Cond.code yX11_hull cX11_hull 4 (some .int), Cond.fieldLink RX11 263 "HollowedByFireModel" "broken" "I", Cond.methodLink RX11 297 yX11_areWorks, Cond.instanceMethod yX11_areWorks, Cond.selects RX11 yX11_areWorks yX11_areWorks, Cond.code yX11_areWorks cX11_areWorks 2 (some .boolean), Cond.methodLink RX11 300 yX11_comes, Cond.instanceMethod yX11_comes, Cond.selects RX11 yX11_comes yX11_comes, Cond.code yX11_comes cX11_comes 3 none, Cond.methodLink RX11 291 yX11_begins, Cond.instanceMethod yX11_begins, Cond.selects RX11 yX11_begins yX11_begins, Cond.code yX11_begins cX11_begins 2 none, Cond.fieldLink RX11 266 "HollowedByFireModel" "spread" "I", Cond.methodLink RX11 294 yX11_makes]
def wsL_law_r28 : List Cond := [Cond.instanceMethod yX11_makes, Cond.selects RX11 yX11_makes yX11_makes, Cond.code yX11_makes cX11_makes 3 none, Cond.methodLink RX11 282 yX11_chars, Cond.instanceMethod yX11_chars, Cond.selects RX11 yX11_chars yX11_chars, Cond.code yX11_chars cX11_chars 5 none, Cond.methodLink RX11 275 yX11_isAt, Cond.instanceMethod yX11_isAt, Cond.selects RX11 yX11_isAt yX11_isAt, Cond.code yX11_isAt cX11_isAt 3 (some .boolean), Cond.methodLink RX11 279 yX11_fires, Cond.instanceMethod yX11_fires, Cond.selects RX11 yX11_fires yX11_fires, Cond.code yX11_fires cX11_fires 3 none, Cond.methodLink RX11 257 yX11_knotOf, Cond.instanceMethod yX11_knotOf, Cond.selects RX11 yX11_knotOf yX11_knotOf, Cond.code yX11_knotOf cX11_knotOf 2 (some .int), Cond.methodLink RX11 260 yX11_drawsLess, Cond.instanceMethod yX11_drawsLess, Cond.selects RX11 yX11_drawsLess yX11_drawsLess, Cond.code yX11_drawsLess cX11_drawsLess 1 (some .int), Cond.fieldLink RX11 243 "HollowedByFireModel" "isDrawn" "Z"]
def wsL_law_r29 : List Cond := [Cond.fieldLink RX11 247 "HollowedByFireModel" "lot" "J", Cond.constantLong RX11 251 (48271), Cond.constantLong RX11 253 (2147483647), Cond.constantLong RX11 255 (3), Cond.methodLink RX11 285 yX11_inch, Cond.instanceMethod yX11_inch, Cond.selects RX11 yX11_inch yX11_inch, Cond.code yX11_inch cX11_inch 5 none, Cond.fieldLink RX11 272 "HollowedByFireModel" "grainMore" "I", Cond.methodLink RX11 269 yX11_size, Cond.static yX11_size, Cond.code yX11_size cX11_size 1 (some .int), Cond.methodLink RX11 288 yX11_sews, Cond.instanceMethod yX11_sews, Cond.selects RX11 yX11_sews yX11_sews, Cond.code yX11_sews cX11_sews 4 none, Cond.methodLink RL 69 yX10_state, Cond.instanceMethod yX10_state, Cond.selects RX10 yX10_state yX10_state, Cond.code yX10_state cX10_state 3 (some .int), Cond.methodLink RL 72 yX11_state, Cond.instanceMethod yX11_state, Cond.selects RX11 yX11_state yX11_state, Cond.code yX11_state cX11_state 6 (some .int)]
def wsL_law_r30 : List Cond := [Cond.methodLink RL 73 yX10_days, Cond.instanceMethod yX10_days, Cond.selects RX10 yX10_days yX10_days, Cond.code yX10_days cX10_days 4 (some .int), Cond.methodLink RX10 203 yX9_allDaysBy, Cond.instanceMethod yX9_allDaysBy, Cond.selects RX9 yX9_allDaysBy yX9_allDaysBy, Cond.code yX9_allDaysBy cX9_allDaysBy 5 (some .int), Cond.methodLink RX9 49 yX9_daysBy, Cond.methodLink RX10 206 yX9_longest, Cond.instanceMethod yX9_longest, Cond.selects RX9 yX9_longest yX9_longest, Cond.code yX9_longest cX9_longest 5 (some .int), Cond.methodLink RL 76 yX11_days, Cond.instanceMethod yX11_days, Cond.selects RX11 yX11_days yX11_days, Cond.code yX11_days cX11_days 5 (some .int), Cond.methodLink RX11 303 yX11_daysBy, Cond.instanceMethod yX11_daysBy, Cond.selects RX11 yX11_daysBy yX11_daysBy, Cond.code yX11_daysBy cX11_daysBy 5 (some .int), Cond.methodLink RL 77 yX10_fewest, Cond.instanceMethod yX10_fewest, Cond.selects RX10 yX10_fewest yX10_fewest]
def wsL_law_r31 : List Cond := [Cond.code yX10_fewest cX10_fewest 4 (some .int), Cond.methodLink RL 80 yX11_fewest, Cond.instanceMethod yX11_fewest, Cond.selects RX11 yX11_fewest yX11_fewest, Cond.code yX11_fewest cX11_fewest 4 (some .int), Cond.methodLink RL 81 yX10_crack, Cond.instanceMethod yX10_crack, Cond.selects RX10 yX10_crack yX10_crack, Cond.code yX10_crack cX10_crack 4 (some .int), Cond.methodLink RX10 209 yX2_spreadBy, Cond.methodLink RL 84 yX11_crack, Cond.instanceMethod yX11_crack, Cond.selects RX11 yX11_crack yX11_crack, Cond.code yX11_crack cX11_crack 3 (some .int), Cond.methodLink RX11 306 yX11_cracks, Cond.instanceMethod yX11_cracks, Cond.selects RX11 yX11_cracks yX11_cracks, Cond.code yX11_cracks cX11_cracks 6 (some .int), Cond.methodLink RL 85 yX10_far, Cond.instanceMethod yX10_far, Cond.selects RX10 yX10_far yX10_far, Cond.code yX10_far cX10_far 5 (some .int), Cond.methodLink RX10 212 yX2_inch, Cond.methodLink RL 88 yX11_far]
def wsL_law_r32 : List Cond := [Cond.instanceMethod yX11_far, Cond.selects RX11 yX11_far yX11_far, Cond.code yX11_far cX11_far 5 (some .int), Cond.methodLink RX11 309 yX11_inchesLeft, Cond.instanceMethod yX11_inchesLeft, Cond.selects RX11 yX11_inchesLeft yX11_inchesLeft, Cond.code yX11_inchesLeft cX11_inchesLeft 2 (some .int), Cond.methodLink RL 89 yX10_odds, Cond.instanceMethod yX10_odds, Cond.selects RX10 yX10_odds yX10_odds, Cond.code yX10_odds cX10_odds 5 (some .long), Cond.constantLong RX10 215 (-4611686018427387904), Cond.classLink RX10 220 RX0, Cond.instantiable RX0 2, Cond.initialized RX0, Cond.methodLink RX10 217 yX2_watch, Cond.instanceMethod yX2_watch, Cond.selects RX2 yX2_watch yX2_watch, Cond.code yX2_watch cX2_watch 1 none, Cond.methodLink RX10 222 yX2_chancesWhole, Cond.instanceMethod yX2_chancesWhole, Cond.selects RX2 yX2_chancesWhole yX2_chancesWhole, Cond.code yX2_chancesWhole cX2_chancesWhole 4 (some .int), Cond.methodLink RX10 225 yX0_init]
def wsL_law_r33 : List Cond := [Cond.instanceMethod yX0_init, Cond.code yX0_init cX0_init 5 none, Cond.methodLink RX0 3 objectInit, Cond.fieldLink RX0 9 "HollowedByFire$Fraction" "above" "J", Cond.methodLink RX0 15 Lib.MathLoose.max_long.x, Cond.static Lib.MathLoose.max_long.x, Cond.code Lib.MathLoose.max_long.x Lib.MathLoose.max_long.code 4 (some .long), Cond.fieldLink RX0 21 "HollowedByFire$Fraction" "below" "J", Cond.methodLink RX10 228 yX0_part, Cond.instanceMethod yX0_part, Cond.selects RX0 yX0_part yX0_part, Cond.code yX0_part cX0_part 4 (some .long), Cond.constantLong RX0 28 (-4611686018427387904), Cond.methodLink RX0 30 yX0_commonOf, Cond.static yX0_commonOf, Cond.code yX0_commonOf cX0_commonOf 11 (some .long), Cond.methodLink RL 93 yX11_odds, Cond.instanceMethod yX11_odds, Cond.selects RX11 yX11_odds yX11_odds, Cond.code yX11_odds cX11_odds 5 (some .long), Cond.constantLong RX11 312 (-4611686018427387904), Cond.constantLong RX11 317 (2), Cond.methodLink RX11 314 yX11_soundOf, Cond.instanceMethod yX11_soundOf]
def wsL_law_r34 : List Cond := [Cond.selects RX11 yX11_soundOf yX11_soundOf, Cond.code yX11_soundOf cX11_soundOf 6 (some .int), Cond.methodLink RX11 319 yX11_lowest, Cond.static yX11_lowest, Cond.code yX11_lowest cX11_lowest 11 (some .long), Cond.methodLink RL 94 yX10_stop, Cond.instanceMethod yX10_stop, Cond.selects RX10 yX10_stop yX10_stop, Cond.code yX10_stop cX10_stop 11 (some .int), Cond.methodLink RL 97 yX11_stop, Cond.instanceMethod yX11_stop, Cond.selects RX11 yX11_stop yX11_stop, Cond.code yX11_stop cX11_stop 11 (some .int), Cond.methodLink RL 98 yX10_wished, Cond.instanceMethod yX10_wished, Cond.selects RX10 yX10_wished yX10_wished, Cond.code yX10_wished cX10_wished 7 (some .int), Cond.methodLink RX10 232 yX10_sheetAt, Cond.instanceMethod yX10_sheetAt, Cond.selects RX10 yX10_sheetAt yX10_sheetAt, Cond.code yX10_sheetAt cX10_sheetAt 2 (some (.object "HollowedByFire$Sheet")), Cond.methodLink RX10 236 yX10_refusalOfWidths, Cond.static yX10_refusalOfWidths, Cond.code yX10_refusalOfWidths cX10_refusalOfWidths 2 (some .int)]
def wsL_law_r35 : List Cond := [Cond.methodLink RX10 268 yX4_isMissing, Cond.instanceMethod yX4_isMissing, Cond.selects RX4 yX4_isMissing yX4_isMissing, Cond.code yX4_isMissing cX4_isMissing 1 (some .boolean), Cond.methodLink RX10 272 yX10_refusalFor, Cond.static yX10_refusalFor, Cond.code yX10_refusalFor cX10_refusalFor 1 (some .int), Cond.methodLink RX10 276 yX4_at, Cond.instanceMethod yX4_at, Cond.selects RX4 yX4_at yX4_at, Cond.code yX4_at cX4_at 2 (some .int), Cond.methodLink RX4 31 yX4_has, Cond.instanceMethod yX4_has, Cond.selects RX4 yX4_has yX4_has, Cond.code yX4_has cX4_has 2 (some .boolean), Cond.methodLink RX10 240 yX10_widthToCarve, Cond.static yX10_widthToCarve, Cond.code yX10_widthToCarve cX10_widthToCarve 3 (some .int), Cond.methodLink RX10 376 yX10_share, Cond.methodLink RL 101 yX11_wished, Cond.instanceMethod yX11_wished, Cond.selects RX11 yX11_wished yX11_wished, Cond.code yX11_wished cX11_wished 6 (some .int), Cond.methodLink RX11 323 yX11_widthsWrong]
def wsL_law_r36 : List Cond := [Cond.instanceMethod yX11_widthsWrong, Cond.selects RX11 yX11_widthsWrong yX11_widthsWrong, Cond.code yX11_widthsWrong cX11_widthsWrong 4 (some .int), Cond.methodLink RX11 326 yX11_forWish, Cond.instanceMethod yX11_forWish, Cond.selects RX11 yX11_forWish yX11_forWish, Cond.code yX11_forWish cX11_forWish 4 (some .int), Cond.methodLink RL 102 yX10_old, Cond.instanceMethod yX10_old, Cond.selects RX10 yX10_old yX10_old, Cond.code yX10_old cX10_old 8 (some .int), Cond.methodLink RX10 244 yX10_canBeCarved, Cond.static yX10_canBeCarved, Cond.code yX10_canBeCarved cX10_canBeCarved 3 (some .boolean), Cond.methodLink RX10 248 yX10_unevenness, Cond.static yX10_unevenness, Cond.code yX10_unevenness cX10_unevenness 4 (some .int), Cond.methodLink RL 105 yX11_old, Cond.instanceMethod yX11_old, Cond.selects RX11 yX11_old yX11_old, Cond.code yX11_old cX11_old 8 (some .int), Cond.methodLink RX11 329 yX11_canBe, Cond.instanceMethod yX11_canBe, Cond.selects RX11 yX11_canBe yX11_canBe]
def wsL_law_r37 : List Cond := [Cond.code yX11_canBe cX11_canBe 4 (some .boolean), Cond.methodLink RL 106 yX10_copyOf, Cond.instanceMethod yX10_copyOf, Cond.selects RX10 yX10_copyOf yX10_copyOf, Cond.code yX10_copyOf cX10_copyOf 8 (some .int), Cond.methodLink RL 109 yX11_copyOf, Cond.instanceMethod yX11_copyOf, Cond.selects RX11 yX11_copyOf yX11_copyOf, Cond.code yX11_copyOf cX11_copyOf 6 (some .int), Cond.methodLink RL 110 yX10_even, Cond.instanceMethod yX10_even, Cond.selects RX10 yX10_even yX10_even, Cond.code yX10_even cX10_even 8 (some .int), Cond.methodLink RL 113 yX11_even, Cond.instanceMethod yX11_even, Cond.selects RX11 yX11_even yX11_even, Cond.code yX11_even cX11_even 6 (some .int), Cond.methodLink RL 114 yX10_hours, Cond.instanceMethod yX10_hours, Cond.selects RX10 yX10_hours yX10_hours, Cond.code yX10_hours cX10_hours 5 (some .int), Cond.methodLink RX10 257 yX2_fire, Cond.methodLink RL 117 yX11_hours, Cond.instanceMethod yX11_hours]
def wsL_law_r38 : List Cond := [Cond.selects RX11 yX11_hours yX11_hours, Cond.code yX11_hours cX11_hours 4 (some .int), Cond.methodLink RX11 332 yX11_behind, Cond.instanceMethod yX11_behind, Cond.selects RX11 yX11_behind yX11_behind, Cond.code yX11_behind cX11_behind 5 (some .int), Cond.methodLink RL 118 yX10_left, Cond.instanceMethod yX10_left, Cond.selects RX10 yX10_left yX10_left, Cond.code yX10_left cX10_left 6 (some .long), Cond.constantLong RX10 266 (10), Cond.methodLink RX10 260 yX2_blow, Cond.instanceMethod yX2_blow, Cond.selects RX2 yX2_blow yX2_blow, Cond.code yX2_blow cX2_blow 2 none, Cond.methodLink RX10 263 yX2_burn, Cond.methodLink RL 122 yX11_left, Cond.instanceMethod yX11_left, Cond.selects RX11 yX11_left yX11_left, Cond.code yX11_left cX11_left 7 (some .long), Cond.constantLong RX11 335 (10), Cond.methodLink RL 123 yX10_judge, Cond.instanceMethod yX10_judge, Cond.selects RX10 yX10_judge yX10_judge]
def wsL_law_r39 : List Cond := [Cond.code yX10_judge cX10_judge 5 (some .int), Cond.methodLink RL 126 yX11_judge, Cond.instanceMethod yX11_judge, Cond.selects RX11 yX11_judge yX11_judge, Cond.code yX11_judge cX11_judge 4 (some .int), Cond.methodLink RL 127 yX10_floats, Cond.instanceMethod yX10_floats, Cond.selects RX10 yX10_floats yX10_floats, Cond.code yX10_floats cX10_floats 5 (some .int), Cond.methodLink RX10 279 yX2_sinks, Cond.instanceMethod yX2_sinks, Cond.selects RX2 yX2_sinks yX2_sinks, Cond.code yX2_sinks cX2_sinks 2 (some .boolean), Cond.methodLink RX2 129 yX2_draught, Cond.instanceMethod yX2_draught, Cond.selects RX2 yX2_draught yX2_draught, Cond.code yX2_draught cX2_draught 3 (some .int), Cond.methodLink RX2 122 yX2_allWide, Cond.instanceMethod yX2_allWide, Cond.selects RX2 yX2_allWide yX2_allWide, Cond.code yX2_allWide cX2_allWide 3 (some .int), Cond.methodLink RX2 126 yX2_weight, Cond.instanceMethod yX2_weight, Cond.selects RX2 yX2_weight yX2_weight]
def wsL_law_r40 : List Cond := [Cond.code yX2_weight cX2_weight 3 (some .int), Cond.methodLink RX2 132 yX2_leastHigh, Cond.instanceMethod yX2_leastHigh, Cond.selects RX2 yX2_leastHigh yX2_leastHigh, Cond.code yX2_leastHigh cX2_leastHigh 3 (some .int), Cond.methodLink RX2 119 Lib.Math.min.name, Cond.methodLink RX10 282 yX2_draught, Cond.methodLink RX10 285 yX2_leastHigh, Cond.methodLink RX10 288 yX2_steadiness, Cond.instanceMethod yX2_steadiness, Cond.selects RX2 yX2_steadiness yX2_steadiness, Cond.code yX2_steadiness cX2_steadiness 4 (some .int), Cond.methodLink RL 130 yX11_floats, Cond.instanceMethod yX11_floats, Cond.selects RX11 yX11_floats yX11_floats, Cond.code yX11_floats cX11_floats 5 (some .int), Cond.methodLink RX11 344 yX11_draughtOf, Cond.instanceMethod yX11_draughtOf, Cond.selects RX11 yX11_draughtOf yX11_draughtOf, Cond.code yX11_draughtOf cX11_draughtOf 2 (some .int), Cond.methodLink RX11 337 yX11_weight, Cond.instanceMethod yX11_weight, Cond.selects RX11 yX11_weight yX11_weight, Cond.code yX11_weight cX11_weight 3 (some .int)]
def wsL_law_r41 : List Cond := [Cond.methodLink RX11 340 yX11_allWide, Cond.instanceMethod yX11_allWide, Cond.selects RX11 yX11_allWide yX11_allWide, Cond.code yX11_allWide cX11_allWide 4 (some .int), Cond.methodLink RX11 350 yX11_sinks, Cond.instanceMethod yX11_sinks, Cond.selects RX11 yX11_sinks yX11_sinks, Cond.code yX11_sinks cX11_sinks 2 (some .boolean), Cond.methodLink RX11 347 yX11_leastHigh, Cond.instanceMethod yX11_leastHigh, Cond.selects RX11 yX11_leastHigh yX11_leastHigh, Cond.code yX11_leastHigh cX11_leastHigh 3 (some .int), Cond.methodLink RL 131 yX10_bears, Cond.instanceMethod yX10_bears, Cond.selects RX10 yX10_bears yX10_bears, Cond.code yX10_bears cX10_bears 4 (some .int), Cond.methodLink RX10 291 yX2_allWide, Cond.methodLink RX10 294 yX2_weight, Cond.methodLink RL 134 yX11_bears, Cond.instanceMethod yX11_bears, Cond.selects RX11 yX11_bears yX11_bears, Cond.code yX11_bears cX11_bears 4 (some .int), Cond.methodLink RL 135 yX10_bar, Cond.instanceMethod yX10_bar]
def wsL_law_r42 : List Cond := [Cond.selects RX10 yX10_bar yX10_bar, Cond.code yX10_bar cX10_bar 5 (some .int), Cond.methodLink RX10 297 Lib.Math.min.name, Cond.methodLink RL 138 yX11_bar, Cond.instanceMethod yX11_bar, Cond.selects RX11 yX11_bar yX11_bar, Cond.code yX11_bar cX11_bar 5 (some .int), Cond.methodLink RL 139 yX10_tree, Cond.instanceMethod yX10_tree, Cond.selects RX10 yX10_tree yX10_tree, Cond.code yX10_tree cX10_tree 6 (some .int), Cond.methodLink RX10 300 yX10_tellsRings, Cond.static yX10_tellsRings, Cond.code yX10_tellsRings cX10_tellsRings 3 (some .boolean), Cond.methodLink RX10 304 yX1_add, Cond.instanceMethod yX1_add, Cond.selects RX1 yX1_add yX1_add, Cond.code yX1_add cX1_add 7 (some .int), Cond.instantiable RX7 5, Cond.initialized RX7, Cond.instanceMethod yX7_init, Cond.code yX7_init cX7_init 1 none, Cond.methodLink RX7 3 objectInit, Cond.fieldLink RX7 9 "HollowedByFire$Tree" "rings" "[I"]
def wsL_law_r43 : List Cond := [Cond.fieldLink RX7 15 "HollowedByFire$Tree" "girth" "I", Cond.fieldLink RX7 19 "HollowedByFire$Tree" "lean" "I", Cond.fieldLink RX7 22 "HollowedByFire$Tree" "knots" "I", Cond.fieldLink RX7 25 "HollowedByFire$Tree" "bored" "I", Cond.methodLink RX1 35 yX4_at, Cond.methodLink RL 142 yX11_tree, Cond.instanceMethod yX11_tree, Cond.selects RX11 yX11_tree yX11_tree, Cond.code yX11_tree cX11_tree 8 (some .int), Cond.methodLink RL 143 yX10_bore, Cond.instanceMethod yX10_bore, Cond.selects RX10 yX10_bore yX10_bore, Cond.code yX10_bore cX10_bore 5 (some .int), Cond.methodLink RX10 307 yX1_at, Cond.instanceMethod yX1_at, Cond.selects RX1 yX1_at yX1_at, Cond.code yX1_at cX1_at 2 (some (.object "HollowedByFire$Tree")), Cond.methodLink RL 146 yX11_bore, Cond.instanceMethod yX11_bore, Cond.selects RX11 yX11_bore yX11_bore, Cond.code yX11_bore cX11_bore 4 (some .int), Cond.methodLink RX11 353 yX11_isTree, Cond.instanceMethod yX11_isTree, Cond.selects RX11 yX11_isTree yX11_isTree]
def wsL_law_r44 : List Cond := [Cond.code yX11_isTree cX11_isTree 2 (some .boolean), Cond.methodLink RL 147 yX10_worth, Cond.instanceMethod yX10_worth, Cond.selects RX10 yX10_worth yX10_worth, Cond.code yX10_worth cX10_worth 4 (some .long), Cond.methodLink RX10 315 yX7_mean, Cond.instanceMethod yX7_mean, Cond.selects RX7 yX7_mean yX7_mean, Cond.code yX7_mean cX7_mean 6 (some (.object "HollowedByFire$Fraction")), Cond.classLink RX7 38 RX0, Cond.methodLink RX7 40 yX7_goodBy, Cond.instanceMethod yX7_goodBy, Cond.selects RX7 yX7_goodBy yX7_goodBy, Cond.code yX7_goodBy cX7_goodBy 2 (some .int), Cond.methodLink RX7 28 Lib.Math.max.name, Cond.methodLink RX7 44 yX0_init, Cond.methodLink RX7 47 yX7_counts, Cond.instanceMethod yX7_counts, Cond.selects RX7 yX7_counts yX7_counts, Cond.code yX7_counts cX7_counts 2 (some .int), Cond.methodLink RL 151 yX11_worth, Cond.instanceMethod yX11_worth, Cond.selects RX11 yX11_worth yX11_worth, Cond.code yX11_worth cX11_worth 3 (some .long)]
def wsL_law_r45 : List Cond := [Cond.methodLink RX11 360 yX11_meanAbove, Cond.instanceMethod yX11_meanAbove, Cond.selects RX11 yX11_meanAbove yX11_meanAbove, Cond.code yX11_meanAbove cX11_meanAbove 5 (some .long), Cond.methodLink RX11 356 yX11_goodOf, Cond.instanceMethod yX11_goodOf, Cond.selects RX11 yX11_goodOf yX11_goodOf, Cond.code yX11_goodOf cX11_goodOf 4 (some .long), Cond.methodLink RX11 364 yX11_meanBelow, Cond.instanceMethod yX11_meanBelow, Cond.selects RX11 yX11_meanBelow yX11_meanBelow, Cond.code yX11_meanBelow cX11_meanBelow 5 (some .long), Cond.methodLink RL 152 yX10_which, Cond.instanceMethod yX10_which, Cond.selects RX10 yX10_which yX10_which, Cond.code yX10_which cX10_which 1 (some .int), Cond.methodLink RX10 319 yX1_bestBut, Cond.instanceMethod yX1_bestBut, Cond.selects RX1 yX1_bestBut yX1_bestBut, Cond.code yX1_bestBut cX1_bestBut 4 (some .int), Cond.methodLink RX1 53 yX1_mean, Cond.instanceMethod yX1_mean, Cond.selects RX1 yX1_mean yX1_mean, Cond.code yX1_mean cX1_mean 3 (some (.object "HollowedByFire$Fraction"))]
def wsL_law_r46 : List Cond := [Cond.classLink RX1 44 RX0, Cond.methodLink RX1 41 yX1_at, Cond.methodLink RX1 46 yX0_init, Cond.methodLink RX1 49 yX7_mean, Cond.methodLink RX1 56 yX0_isAbove, Cond.instanceMethod yX0_isAbove, Cond.selects RX0 yX0_isAbove yX0_isAbove, Cond.code yX0_isAbove cX0_isAbove 2 (some .boolean), Cond.methodLink RL 155 yX11_which, Cond.instanceMethod yX11_which, Cond.selects RX11 yX11_which yX11_which, Cond.code yX11_which cX11_which 1 (some .int), Cond.methodLink RX11 367 yX11_bestBut, Cond.instanceMethod yX11_bestBut, Cond.selects RX11 yX11_bestBut yX11_bestBut, Cond.code yX11_bestBut cX11_bestBut 4 (some .int), Cond.methodLink RL 156 yX10_boring, Cond.instanceMethod yX10_boring, Cond.selects RX10 yX10_boring yX10_boring, Cond.code yX10_boring cX10_boring 3 (some .long), Cond.methodLink RX10 322 yX1_holeWorth, Cond.instanceMethod yX1_holeWorth, Cond.selects RX1 yX1_holeWorth yX1_holeWorth, Cond.code yX1_holeWorth cX1_holeWorth 13 (some (.object "HollowedByFire$Fraction"))]
def wsL_law_r47 : List Cond := [Cond.methodLink RX1 79 Lib.MathLoose.max_long.x, Cond.methodLink RX1 63 yX1_bestBut, Cond.methodLink RX1 66 yX7_goodBy, Cond.methodLink RX1 73 yX7_counts, Cond.methodLink RL 159 yX11_boring, Cond.instanceMethod yX11_boring, Cond.selects RX11 yX11_boring yX11_boring, Cond.code yX11_boring cX11_boring 5 (some .long), Cond.fieldLink RX11 370 "HollowedByFireModel" "boringBelow" "J", Cond.methodLink RX11 373 yX11_boringAbove, Cond.instanceMethod yX11_boringAbove, Cond.selects RX11 yX11_boringAbove yX11_boringAbove, Cond.code yX11_boringAbove cX11_boringAbove 14 (some .long), Cond.methodLink RL 160 yX10_hole, Cond.instanceMethod yX10_hole, Cond.selects RX10 yX10_hole yX10_hole, Cond.code yX10_hole cX10_hole 5 (some .int), Cond.methodLink RX10 326 yX0_isAbove, Cond.methodLink RL 163 yX11_hole, Cond.instanceMethod yX11_hole, Cond.selects RX11 yX11_hole yX11_hole, Cond.code yX11_hole cX11_hole 9 (some .int), Cond.methodLink RL 164 yX10_fell, Cond.instanceMethod yX10_fell]
def wsL_law_r48 : List Cond := [Cond.selects RX10 yX10_fell yX10_fell, Cond.code yX10_fell cX10_fell 7 (some .int), Cond.methodLink RX10 330 yX7_hurtBy, Cond.instanceMethod yX7_hurtBy, Cond.selects RX7 yX7_hurtBy yX7_hurtBy, Cond.code yX7_hurtBy cX7_hurtBy 7 (some .int), Cond.methodLink RX7 50 Lib.Math.abs.name, Cond.methodLink RX7 53 Lib.Math.min.name, Cond.methodLink RL 167 yX11_fell, Cond.instanceMethod yX11_fell, Cond.selects RX11 yX11_fell yX11_fell, Cond.code yX11_fell cX11_fell 9 (some .int), Cond.methodLink RL 168 yX10_forest, Cond.instanceMethod yX10_forest, Cond.selects RX10 yX10_forest yX10_forest, Cond.code yX10_forest cX10_forest 8 (some .int), Cond.methodLink RX10 333 yX10_yearOfForest, Cond.instanceMethod yX10_yearOfForest, Cond.selects RX10 yX10_yearOfForest yX10_yearOfForest, Cond.code yX10_yearOfForest cX10_yearOfForest 6 (some .int), Cond.methodLink RL 171 yX11_forest, Cond.instanceMethod yX11_forest, Cond.selects RX11 yX11_forest yX11_forest, Cond.code yX11_forest cX11_forest 8 (some .int)]
def wsL_law_r49 : List Cond := [Cond.methodLink RL 172 yX10_dries, Cond.instanceMethod yX10_dries, Cond.selects RX10 yX10_dries yX10_dries, Cond.code yX10_dries cX10_dries 3 (some .int), Cond.methodLink RX10 336 yX2_driedApart, Cond.instanceMethod yX2_driedApart, Cond.selects RX2 yX2_driedApart yX2_driedApart, Cond.code yX2_driedApart cX2_driedApart 6 (some .int), Cond.methodLink RL 175 yX11_dries, Cond.instanceMethod yX11_dries, Cond.selects RX11 yX11_dries yX11_dries, Cond.code yX11_dries cX11_dries 3 (some .int), Cond.methodLink RX11 376 yX11_driesIn, Cond.instanceMethod yX11_driesIn, Cond.selects RX11 yX11_driesIn yX11_driesIn, Cond.code yX11_driesIn cX11_driesIn 5 (some .int), Cond.methodLink RL 176 yX10_shade, Cond.instanceMethod yX10_shade, Cond.selects RX10 yX10_shade yX10_shade, Cond.code yX10_shade cX10_shade 3 (some .int), Cond.methodLink RL 179 yX11_shade, Cond.instanceMethod yX11_shade, Cond.selects RX11 yX11_shade yX11_shade, Cond.code yX11_shade cX11_shade 3 (some .int)]
def wsL_law_r50 : List Cond := [Cond.methodLink RL 180 yX10_drawn, Cond.instanceMethod yX10_drawn, Cond.selects RX10 yX10_drawn yX10_drawn, Cond.code yX10_drawn cX10_drawn 5 (some .int), Cond.constant RX10 339 (99999), Cond.methodLink RL 183 yX11_drawn, Cond.instanceMethod yX11_drawn, Cond.selects RX11 yX11_drawn yX11_drawn, Cond.code yX11_drawn cX11_drawn 5 (some .int), Cond.constant RX11 379 (99999), Cond.methodLink RL 184 yX10_image, Cond.instanceMethod yX10_image, Cond.selects RX10 yX10_image yX10_image, Cond.code yX10_image cX10_image 3 (some .int), Cond.methodLink RX10 340 yX8_become, Cond.instanceMethod yX8_become, Cond.selects RX8 yX8_become yX8_become, Cond.code yX8_become cX8_become 4 none, Cond.methodLink RL 187 yX11_image, Cond.instanceMethod yX11_image, Cond.selects RX11 yX11_image yX11_image, Cond.code yX11_image cX11_image 2 (some .int), Cond.fieldLink RX11 380 "HollowedByFireModel" "hasImage" "Z", Cond.fieldLink RX11 383 "HollowedByFireModel" "imageTrees" "I"]
def wsL_law_r51 : List Cond := [Cond.fieldLink RX11 386 "HollowedByFireModel" "imageRule" "I", Cond.methodLink RL 188 yX10_back, Cond.instanceMethod yX10_back, Cond.selects RX10 yX10_back yX10_back, Cond.code yX10_back cX10_back 3 (some .int), Cond.methodLink RL 191 yX11_back, Cond.instanceMethod yX11_back, Cond.selects RX11 yX11_back yX11_back, Cond.code yX11_back cX11_back 2 (some .int), Cond.methodLink RL 192 yX10_sheet, Cond.instanceMethod yX10_sheet, Cond.selects RX10 yX10_sheet yX10_sheet, Cond.code yX10_sheet cX10_sheet 5 (some .int), Cond.methodLink RX10 344 yX4_become, Cond.instanceMethod yX4_become, Cond.selects RX4 yX4_become yX4_become, Cond.code yX4_become cX4_become 4 none, Cond.methodLink RX4 22 Lib.Math.min.name, Cond.methodLink RX4 28 Lib.Math.max.name, Cond.methodLink RL 195 yX11_sheet, Cond.instanceMethod yX11_sheet, Cond.selects RX11 yX11_sheet yX11_sheet, Cond.code yX11_sheet cX11_sheet 5 (some .int), Cond.methodLink RL 196 yX10_cell]
def wsL_law_r52 : List Cond := [Cond.instanceMethod yX10_cell, Cond.selects RX10 yX10_cell yX10_cell, Cond.code yX10_cell cX10_cell 5 (some .int), Cond.methodLink RX10 346 yX4_has, Cond.methodLink RX10 347 yX4_put, Cond.instanceMethod yX4_put, Cond.selects RX4 yX4_put yX4_put, Cond.code yX4_put cX4_put 3 none, Cond.methodLink RL 199 yX11_cell, Cond.instanceMethod yX11_cell, Cond.selects RX11 yX11_cell yX11_cell, Cond.code yX11_cell cX11_cell 4 (some .int), Cond.methodLink RL 200 yX10_copy, Cond.instanceMethod yX10_copy, Cond.selects RX10 yX10_copy yX10_copy, Cond.code yX10_copy cX10_copy 8 (some .int), Cond.methodLink RX10 358 arraycopyName, Cond.methodLink RX10 352 yX4_hasAll, Cond.instanceMethod yX4_hasAll, Cond.selects RX4 yX4_hasAll yX4_hasAll, Cond.code yX4_hasAll cX4_hasAll 3 (some .boolean), Cond.methodLink RL 204 yX11_copy, Cond.instanceMethod yX11_copy, Cond.selects RX11 yX11_copy yX11_copy]
def wsL_law_r53 : List Cond := [Cond.code yX11_copy cX11_copy 10 (some .int), Cond.methodLink RL 205 yX10_worksBy, Cond.instanceMethod yX10_worksBy, Cond.selects RX10 yX10_worksBy yX10_worksBy, Cond.code yX10_worksBy cX10_worksBy 9 (some .int), Cond.methodLink RL 208 yX11_worksBy, Cond.instanceMethod yX11_worksBy, Cond.selects RX11 yX11_worksBy yX11_worksBy, Cond.code yX11_worksBy cX11_worksBy 9 (some .int), Cond.methodLink RX11 389 yX11_work, Cond.methodLink RL 209 yX10_taken, Cond.instanceMethod yX10_taken, Cond.selects RX10 yX10_taken yX10_taken, Cond.code yX10_taken cX10_taken 4 (some .int), Cond.methodLink RX10 367 yX9_isOne, Cond.static yX9_isOne, Cond.code yX9_isOne cX9_isOne 4 (some .boolean), Cond.fieldLink RX9 33 "HollowedByFire$Works" "KIND_ABOVE" "[I", Cond.methodLink RL 212 yX11_taken, Cond.instanceMethod yX11_taken, Cond.selects RX11 yX11_taken yX11_taken, Cond.code yX11_taken cX11_taken 3 (some .int), Cond.methodLink RX11 392 yX11_isUnder, Cond.static yX11_isUnder]
def wsL_law_r54 : List Cond := [Cond.code yX11_isUnder cX11_isUnder 2 (some .boolean)]
def wsL_law : List Cond := (wsL_law_r1 ++ (wsL_law_r2 ++ (wsL_law_r3 ++ (wsL_law_r4 ++ (wsL_law_r5 ++ (wsL_law_r6 ++ (wsL_law_r7 ++ (wsL_law_r8 ++ (wsL_law_r9 ++ (wsL_law_r10 ++ (wsL_law_r11 ++ (wsL_law_r12 ++ (wsL_law_r13 ++ (wsL_law_r14 ++ (wsL_law_r15 ++ (wsL_law_r16 ++ (wsL_law_r17 ++ (wsL_law_r18 ++ (wsL_law_r19 ++ (wsL_law_r20 ++ (wsL_law_r21 ++ (wsL_law_r22 ++ (wsL_law_r23 ++ (wsL_law_r24 ++ (wsL_law_r25 ++ (wsL_law_r26 ++ (wsL_law_r27 ++ (wsL_law_r28 ++ (wsL_law_r29 ++ (wsL_law_r30 ++ (wsL_law_r31 ++ (wsL_law_r32 ++ (wsL_law_r33 ++ (wsL_law_r34 ++ (wsL_law_r35 ++ (wsL_law_r36 ++ (wsL_law_r37 ++ (wsL_law_r38 ++ (wsL_law_r39 ++ (wsL_law_r40 ++ (wsL_law_r41 ++ (wsL_law_r42 ++ (wsL_law_r43 ++ (wsL_law_r44 ++ (wsL_law_r45 ++ (wsL_law_r46 ++ (wsL_law_r47 ++ (wsL_law_r48 ++ (wsL_law_r49 ++ (wsL_law_r50 ++ (wsL_law_r51 ++ (wsL_law_r52 ++ (wsL_law_r53 ++ wsL_law_r54))))))))))))))))))))))))))))))))))))))))))))))))))))) ++ wsX100 ++ wsX110 ++ wsX80 ++ wsX30 ++ wsX60 ++ wsX90 ++ wsX10 ++ wsX20 ++ wsX40 ++ wsX00 ++ wsX70 ++ ([] : List Cond)
set_option maxRecDepth 100000 in
theorem inlX0 : ∀ w ∈ wsX00, w ∈ wsL_law := fun _ h => List.mem_append_left _ (List.mem_append_left _ (List.mem_append_right _ h))
set_option maxRecDepth 100000 in
theorem inlX1 : ∀ w ∈ wsX10, w ∈ wsL_law := fun _ h => List.mem_append_left _ (List.mem_append_left _ (List.mem_append_left _ (List.mem_append_left _ (List.mem_append_left _ (List.mem_append_right _ h)))))
set_option maxRecDepth 100000 in
theorem inlX2 : ∀ w ∈ wsX20, w ∈ wsL_law := fun _ h => List.mem_append_left _ (List.mem_append_left _ (List.mem_append_left _ (List.mem_append_left _ (List.mem_append_right _ h))))
set_option maxRecDepth 100000 in
theorem inlX3 : ∀ w ∈ wsX30, w ∈ wsL_law := fun _ h => List.mem_append_left _ (List.mem_append_left _ (List.mem_append_left _ (List.mem_append_left _ (List.mem_append_left _ (List.mem_append_left _ (List.mem_append_left _ (List.mem_append_left _ (List.mem_append_right _ h))))))))
set_option maxRecDepth 100000 in
theorem inlX4 : ∀ w ∈ wsX40, w ∈ wsL_law := fun _ h => List.mem_append_left _ (List.mem_append_left _ (List.mem_append_left _ (List.mem_append_right _ h)))
set_option maxRecDepth 100000 in
theorem inlX6 : ∀ w ∈ wsX60, w ∈ wsL_law := fun _ h => List.mem_append_left _ (List.mem_append_left _ (List.mem_append_left _ (List.mem_append_left _ (List.mem_append_left _ (List.mem_append_left _ (List.mem_append_left _ (List.mem_append_right _ h)))))))
set_option maxRecDepth 100000 in
theorem inlX7 : ∀ w ∈ wsX70, w ∈ wsL_law := fun _ h => List.mem_append_left _ (List.mem_append_right _ h)
set_option maxRecDepth 100000 in
theorem inlX8 : ∀ w ∈ wsX80, w ∈ wsL_law := fun _ h => List.mem_append_left _ (List.mem_append_left _ (List.mem_append_left _ (List.mem_append_left _ (List.mem_append_left _ (List.mem_append_left _ (List.mem_append_left _ (List.mem_append_left _ (List.mem_append_left _ (List.mem_append_right _ h)))))))))
set_option maxRecDepth 100000 in
theorem inlX9 : ∀ w ∈ wsX90, w ∈ wsL_law := fun _ h => List.mem_append_left _ (List.mem_append_left _ (List.mem_append_left _ (List.mem_append_left _ (List.mem_append_left _ (List.mem_append_left _ (List.mem_append_right _ h))))))
set_option maxRecDepth 100000 in
theorem inlX10 : ∀ w ∈ wsX100, w ∈ wsL_law := fun _ h => List.mem_append_left _ (List.mem_append_left _ (List.mem_append_left _ (List.mem_append_left _ (List.mem_append_left _ (List.mem_append_left _ (List.mem_append_left _ (List.mem_append_left _ (List.mem_append_left _ (List.mem_append_left _ (List.mem_append_left _ (List.mem_append_right _ h)))))))))))
set_option maxRecDepth 100000 in
theorem inlX11 : ∀ w ∈ wsX110, w ∈ wsL_law := fun _ h => List.mem_append_left _ (List.mem_append_left _ (List.mem_append_left _ (List.mem_append_left _ (List.mem_append_left _ (List.mem_append_left _ (List.mem_append_left _ (List.mem_append_left _ (List.mem_append_left _ (List.mem_append_left _ (List.mem_append_right _ h))))))))))
abbrev vwCl : List vw_C := [(RX0, TX0, 2), (RX1, TX1, 2), (RX2, TX2, 12), (RX3, TX3, 4), (RX4, TX4, 3), (RX6, TX6, 11), (RX7, TX7, 5), (RX8, TX8, 3), (RX9, TX9, 4), (RX10, TX10, 12), (RX11, TX11, 52)]
/-! ===== END ===== -/
set_option maxRecDepth 100000 in
theorem wsG : wsL_law.all goodWord = true := by decide +kernel
theorem tc1 : ∀ w ∈ wsL_law_r1, w ∈ wsL_law := fun w h => by unfold wsL_law; simp only [List.mem_append]; simp only [h, true_or, or_true]
theorem tc2 : ∀ w ∈ wsL_law_r2, w ∈ wsL_law := fun w h => by unfold wsL_law; simp only [List.mem_append]; simp only [h, true_or, or_true]
theorem tc3 : ∀ w ∈ wsL_law_r3, w ∈ wsL_law := fun w h => by unfold wsL_law; simp only [List.mem_append]; simp only [h, true_or, or_true]
theorem tc4 : ∀ w ∈ wsL_law_r4, w ∈ wsL_law := fun w h => by unfold wsL_law; simp only [List.mem_append]; simp only [h, true_or, or_true]
theorem tc5 : ∀ w ∈ wsL_law_r5, w ∈ wsL_law := fun w h => by unfold wsL_law; simp only [List.mem_append]; simp only [h, true_or, or_true]
theorem tc6 : ∀ w ∈ wsL_law_r6, w ∈ wsL_law := fun w h => by unfold wsL_law; simp only [List.mem_append]; simp only [h, true_or, or_true]
theorem tc7 : ∀ w ∈ wsL_law_r7, w ∈ wsL_law := fun w h => by unfold wsL_law; simp only [List.mem_append]; simp only [h, true_or, or_true]
theorem tc8 : ∀ w ∈ wsL_law_r8, w ∈ wsL_law := fun w h => by unfold wsL_law; simp only [List.mem_append]; simp only [h, true_or, or_true]
theorem tc9 : ∀ w ∈ wsL_law_r9, w ∈ wsL_law := fun w h => by unfold wsL_law; simp only [List.mem_append]; simp only [h, true_or, or_true]
theorem tc10 : ∀ w ∈ wsL_law_r10, w ∈ wsL_law := fun w h => by unfold wsL_law; simp only [List.mem_append]; simp only [h, true_or, or_true]
theorem tc11 : ∀ w ∈ wsL_law_r11, w ∈ wsL_law := fun w h => by unfold wsL_law; simp only [List.mem_append]; simp only [h, true_or, or_true]
theorem tc12 : ∀ w ∈ wsL_law_r12, w ∈ wsL_law := fun w h => by unfold wsL_law; simp only [List.mem_append]; simp only [h, true_or, or_true]
theorem tc13 : ∀ w ∈ wsL_law_r13, w ∈ wsL_law := fun w h => by unfold wsL_law; simp only [List.mem_append]; simp only [h, true_or, or_true]
theorem tc14 : ∀ w ∈ wsL_law_r14, w ∈ wsL_law := fun w h => by unfold wsL_law; simp only [List.mem_append]; simp only [h, true_or, or_true]
theorem tc15 : ∀ w ∈ wsL_law_r15, w ∈ wsL_law := fun w h => by unfold wsL_law; simp only [List.mem_append]; simp only [h, true_or, or_true]
theorem tc16 : ∀ w ∈ wsL_law_r16, w ∈ wsL_law := fun w h => by unfold wsL_law; simp only [List.mem_append]; simp only [h, true_or, or_true]
theorem tc17 : ∀ w ∈ wsL_law_r17, w ∈ wsL_law := fun w h => by unfold wsL_law; simp only [List.mem_append]; simp only [h, true_or, or_true]
theorem tc18 : ∀ w ∈ wsL_law_r18, w ∈ wsL_law := fun w h => by unfold wsL_law; simp only [List.mem_append]; simp only [h, true_or, or_true]
theorem tc19 : ∀ w ∈ wsL_law_r19, w ∈ wsL_law := fun w h => by unfold wsL_law; simp only [List.mem_append]; simp only [h, true_or, or_true]
theorem tc20 : ∀ w ∈ wsL_law_r20, w ∈ wsL_law := fun w h => by unfold wsL_law; simp only [List.mem_append]; simp only [h, true_or, or_true]
theorem tc21 : ∀ w ∈ wsL_law_r21, w ∈ wsL_law := fun w h => by unfold wsL_law; simp only [List.mem_append]; simp only [h, true_or, or_true]
theorem tc22 : ∀ w ∈ wsL_law_r22, w ∈ wsL_law := fun w h => by unfold wsL_law; simp only [List.mem_append]; simp only [h, true_or, or_true]
theorem tc23 : ∀ w ∈ wsL_law_r23, w ∈ wsL_law := fun w h => by unfold wsL_law; simp only [List.mem_append]; simp only [h, true_or, or_true]
theorem tc24 : ∀ w ∈ wsL_law_r24, w ∈ wsL_law := fun w h => by unfold wsL_law; simp only [List.mem_append]; simp only [h, true_or, or_true]
theorem tc25 : ∀ w ∈ wsL_law_r25, w ∈ wsL_law := fun w h => by unfold wsL_law; simp only [List.mem_append]; simp only [h, true_or, or_true]
theorem tc26 : ∀ w ∈ wsL_law_r26, w ∈ wsL_law := fun w h => by unfold wsL_law; simp only [List.mem_append]; simp only [h, true_or, or_true]
theorem tc27 : ∀ w ∈ wsL_law_r27, w ∈ wsL_law := fun w h => by unfold wsL_law; simp only [List.mem_append]; simp only [h, true_or, or_true]
theorem tc28 : ∀ w ∈ wsL_law_r28, w ∈ wsL_law := fun w h => by unfold wsL_law; simp only [List.mem_append]; simp only [h, true_or, or_true]
theorem tc29 : ∀ w ∈ wsL_law_r29, w ∈ wsL_law := fun w h => by unfold wsL_law; simp only [List.mem_append]; simp only [h, true_or, or_true]
theorem tc30 : ∀ w ∈ wsL_law_r30, w ∈ wsL_law := fun w h => by unfold wsL_law; simp only [List.mem_append]; simp only [h, true_or, or_true]
theorem tc31 : ∀ w ∈ wsL_law_r31, w ∈ wsL_law := fun w h => by unfold wsL_law; simp only [List.mem_append]; simp only [h, true_or, or_true]
theorem tc32 : ∀ w ∈ wsL_law_r32, w ∈ wsL_law := fun w h => by unfold wsL_law; simp only [List.mem_append]; simp only [h, true_or, or_true]
theorem tc33 : ∀ w ∈ wsL_law_r33, w ∈ wsL_law := fun w h => by unfold wsL_law; simp only [List.mem_append]; simp only [h, true_or, or_true]
theorem tc34 : ∀ w ∈ wsL_law_r34, w ∈ wsL_law := fun w h => by unfold wsL_law; simp only [List.mem_append]; simp only [h, true_or, or_true]
theorem tc35 : ∀ w ∈ wsL_law_r35, w ∈ wsL_law := fun w h => by unfold wsL_law; simp only [List.mem_append]; simp only [h, true_or, or_true]
theorem tc36 : ∀ w ∈ wsL_law_r36, w ∈ wsL_law := fun w h => by unfold wsL_law; simp only [List.mem_append]; simp only [h, true_or, or_true]
theorem tc37 : ∀ w ∈ wsL_law_r37, w ∈ wsL_law := fun w h => by unfold wsL_law; simp only [List.mem_append]; simp only [h, true_or, or_true]
theorem tc38 : ∀ w ∈ wsL_law_r38, w ∈ wsL_law := fun w h => by unfold wsL_law; simp only [List.mem_append]; simp only [h, true_or, or_true]
theorem tc39 : ∀ w ∈ wsL_law_r39, w ∈ wsL_law := fun w h => by unfold wsL_law; simp only [List.mem_append]; simp only [h, true_or, or_true]
theorem tc40 : ∀ w ∈ wsL_law_r40, w ∈ wsL_law := fun w h => by unfold wsL_law; simp only [List.mem_append]; simp only [h, true_or, or_true]
theorem tc41 : ∀ w ∈ wsL_law_r41, w ∈ wsL_law := fun w h => by unfold wsL_law; simp only [List.mem_append]; simp only [h, true_or, or_true]
theorem tc42 : ∀ w ∈ wsL_law_r42, w ∈ wsL_law := fun w h => by unfold wsL_law; simp only [List.mem_append]; simp only [h, true_or, or_true]
theorem tc43 : ∀ w ∈ wsL_law_r43, w ∈ wsL_law := fun w h => by unfold wsL_law; simp only [List.mem_append]; simp only [h, true_or, or_true]
theorem tc44 : ∀ w ∈ wsL_law_r44, w ∈ wsL_law := fun w h => by unfold wsL_law; simp only [List.mem_append]; simp only [h, true_or, or_true]
theorem tc45 : ∀ w ∈ wsL_law_r45, w ∈ wsL_law := fun w h => by unfold wsL_law; simp only [List.mem_append]; simp only [h, true_or, or_true]
theorem tc46 : ∀ w ∈ wsL_law_r46, w ∈ wsL_law := fun w h => by unfold wsL_law; simp only [List.mem_append]; simp only [h, true_or, or_true]
theorem tc47 : ∀ w ∈ wsL_law_r47, w ∈ wsL_law := fun w h => by unfold wsL_law; simp only [List.mem_append]; simp only [h, true_or, or_true]
theorem tc48 : ∀ w ∈ wsL_law_r48, w ∈ wsL_law := fun w h => by unfold wsL_law; simp only [List.mem_append]; simp only [h, true_or, or_true]
theorem tc49 : ∀ w ∈ wsL_law_r49, w ∈ wsL_law := fun w h => by unfold wsL_law; simp only [List.mem_append]; simp only [h, true_or, or_true]
theorem tc50 : ∀ w ∈ wsL_law_r50, w ∈ wsL_law := fun w h => by unfold wsL_law; simp only [List.mem_append]; simp only [h, true_or, or_true]
theorem tc51 : ∀ w ∈ wsL_law_r51, w ∈ wsL_law := fun w h => by unfold wsL_law; simp only [List.mem_append]; simp only [h, true_or, or_true]
theorem tc52 : ∀ w ∈ wsL_law_r52, w ∈ wsL_law := fun w h => by unfold wsL_law; simp only [List.mem_append]; simp only [h, true_or, or_true]
theorem tc53 : ∀ w ∈ wsL_law_r53, w ∈ wsL_law := fun w h => by unfold wsL_law; simp only [List.mem_append]; simp only [h, true_or, or_true]
theorem tc54 : ∀ w ∈ wsL_law_r54, w ∈ wsL_law := fun w h => by unfold wsL_law; simp only [List.mem_append]; simp only [h, true_or, or_true]
theorem dq {cc : ByteArray} {dl : List (Nat × Instr × Nat)} (h : dl.all (fun r => decide (decode cc r.1 = .ok (r.2.1, r.2.2))) = true) (i : Nat) {pc len : Nat} {ins : Instr} (hi : dl[i]? = some (pc, ins, len)) : decode cc pc = .ok (ins, len) := by
  have h1 : decide (decode cc pc = .ok (ins, len)) = true := List.all_eq_true.mp h (pc, ins, len) (List.mem_of_getElem? hi)
  exact of_decide_eq_true h1
