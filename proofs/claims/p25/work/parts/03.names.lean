/-! ===== BEGIN printed: names, fields, word lists, decode rows ===== -/
def RX0 : String := "FilmPlayer$Film"
def TX0 : u_T := fun k => match k with
  | 0 => ("FilmPlayer$Film", "store", "LFilmPlayer$Store;", true)
  | 1 => ("FilmPlayer$Film", "fates", "[I", true)
  | 2 => ("FilmPlayer$Film", "nextFrame", "I", false)
  | 3 => ("FilmPlayer$Film", "beginTick", "I", false)
  | 4 => ("FilmPlayer$Film", "turnTick", "I", false)
  | _ => ("FilmPlayer$Film", "shownCount", "I", false)
def tyX0 : Nat → FieldType := fun k => match k with
  | 0 => .object "FilmPlayer$Store"
  | 1 => .array .int
  | 2 => .int
  | 3 => .int
  | 4 => .int
  | _ => .int
abbrev wsX00 : List Cond := u_ws RX0 TX0 6
theorem nmX0 : ∀ a, a < 6 → ∀ b, b < 6 → a ≠ b → (TX0 a).2.1 ≠ (TX0 b).2.1 := by decide +kernel
theorem tyX0_ok : ∀ k, k < 6 → parseFieldDescriptor (TX0 k).2.2.1 = some (tyX0 k) := by decide +kernel
abbrev cX0_init : ByteArray := prog_2_method_1_code
def yX0_init : MethodName := ⟨RX0, "<init>", "(LFilmPlayer$Store;)V"⟩
abbrev cX0_kind : ByteArray := prog_2_method_2_code
def yX0_kind : MethodName := ⟨RX0, "kind", "(I)I"⟩
abbrev cX0_needBefore : ByteArray := prog_2_method_3_code
def yX0_needBefore : MethodName := ⟨RX0, "needBefore", "(I)I"⟩
abbrev cX0_needBehind : ByteArray := prog_2_method_4_code
def yX0_needBehind : MethodName := ⟨RX0, "needBehind", "(I)I"⟩
abbrev cX0_play : ByteArray := prog_2_method_5_code
def yX0_play : MethodName := ⟨RX0, "play", "(I)V"⟩
abbrev cX0_canBegin : ByteArray := prog_2_method_6_code
def yX0_canBegin : MethodName := ⟨RX0, "canBegin", "()Z"⟩
abbrev cX0_giveTurn : ByteArray := prog_2_method_7_code
def yX0_giveTurn : MethodName := ⟨RX0, "giveTurn", "(I)V"⟩
abbrev cX0_outcomeOf : ByteArray := prog_2_method_8_code
def yX0_outcomeOf : MethodName := ⟨RX0, "outcomeOf", "(I)I"⟩
abbrev cX0_wasShown : ByteArray := prog_2_method_9_code
def yX0_wasShown : MethodName := ⟨RX0, "wasShown", "(I)Z"⟩
abbrev cX0_isWholeIfAny : ByteArray := prog_2_method_10_code
def yX0_isWholeIfAny : MethodName := ⟨RX0, "isWholeIfAny", "(I)Z"⟩
abbrev cX0_pace : ByteArray := prog_2_method_11_code
def yX0_pace : MethodName := ⟨RX0, "pace", "()I"⟩
abbrev cX0_wholeAhead : ByteArray := prog_2_method_12_code
def yX0_wholeAhead : MethodName := ⟨RX0, "wholeAhead", "()I"⟩
abbrev cX0_countShowable : ByteArray := prog_2_method_13_code
def yX0_countShowable : MethodName := ⟨RX0, "countShowable", "()I"⟩
abbrev cX0_isAnchorShowable : ByteArray := prog_2_method_14_code
def yX0_isAnchorShowable : MethodName := ⟨RX0, "isAnchorShowable", "(I)Z"⟩
abbrev cX0_delay : ByteArray := prog_2_method_15_code
def yX0_delay : MethodName := ⟨RX0, "delay", "()I"⟩
def RX1 : String := "FilmPlayer$Ring"
def TX1 : u_T := fun k => match k with
  | 0 => ("FilmPlayer$Ring", "packets", "[I", true)
  | 1 => ("FilmPlayer$Ring", "arrivals", "[I", true)
  | 2 => ("FilmPlayer$Ring", "count", "I", false)
  | 3 => ("FilmPlayer$Ring", "size", "I", false)
  | 4 => ("FilmPlayer$Ring", "join", "I", false)
  | 5 => ("FilmPlayer$Ring", "patience", "I", false)
  | 6 => ("FilmPlayer$Ring", "load", "I", false)
  | 7 => ("FilmPlayer$Ring", "polling", "Z", false)
  | _ => ("FilmPlayer$Ring", "lostCount", "I", false)
def tyX1 : Nat → FieldType := fun k => match k with
  | 0 => .array .int
  | 1 => .array .int
  | 2 => .int
  | 3 => .int
  | 4 => .int
  | 5 => .int
  | 6 => .int
  | 7 => .boolean
  | _ => .int
abbrev wsX10 : List Cond := u_ws RX1 TX1 9
theorem nmX1 : ∀ a, a < 9 → ∀ b, b < 9 → a ≠ b → (TX1 a).2.1 ≠ (TX1 b).2.1 := by decide +kernel
theorem tyX1_ok : ∀ k, k < 9 → parseFieldDescriptor (TX1 k).2.2.1 = some (tyX1 k) := by decide +kernel
abbrev cX1_init : ByteArray := prog_3_method_1_code
def yX1_init : MethodName := ⟨RX1, "<init>", "()V"⟩
abbrev cX1_put : ByteArray := prog_3_method_2_code
def yX1_put : MethodName := ⟨RX1, "put", "(II)Z"⟩
abbrev cX1_loseAll : ByteArray := prog_3_method_3_code
def yX1_loseAll : MethodName := ⟨RX1, "loseAll", "()I"⟩
abbrev cX1_chooseMany : ByteArray := prog_3_method_4_code
def yX1_chooseMany : MethodName := ⟨RX1, "chooseMany", "(I)I"⟩
abbrev cX1_isInterruptDue : ByteArray := prog_3_method_5_code
def yX1_isInterruptDue : MethodName := ⟨RX1, "isInterruptDue", "(I)Z"⟩
abbrev cX1_packetAt : ByteArray := prog_3_method_6_code
def yX1_packetAt : MethodName := ⟨RX1, "packetAt", "(I)I"⟩
abbrev cX1_removeFirst : ByteArray := prog_3_method_7_code
def yX1_removeFirst : MethodName := ⟨RX1, "removeFirst", "(I)V"⟩
def RX2 : String := "FilmPlayer$Store"
def TX2 : u_T := fun k => match k with
  | 0 => ("FilmPlayer$Store", "had", "[Z", true)
  | 1 => ("FilmPlayer$Store", "askedRow", "[I", true)
  | 2 => ("FilmPlayer$Store", "askedCount", "I", false)
  | 3 => ("FilmPlayer$Store", "highest", "I", false)
  | _ => ("FilmPlayer$Store", "lookedUpTo", "I", false)
def tyX2 : Nat → FieldType := fun k => match k with
  | 0 => .array .boolean
  | 1 => .array .int
  | 2 => .int
  | 3 => .int
  | _ => .int
abbrev wsX20 : List Cond := u_ws RX2 TX2 5
theorem nmX2 : ∀ a, a < 5 → ∀ b, b < 5 → a ≠ b → (TX2 a).2.1 ≠ (TX2 b).2.1 := by decide +kernel
theorem tyX2_ok : ∀ k, k < 5 → parseFieldDescriptor (TX2 k).2.2.1 = some (tyX2 k) := by decide +kernel
abbrev cX2_init : ByteArray := prog_4_method_1_code
def yX2_init : MethodName := ⟨RX2, "<init>", "()V"⟩
abbrev cX2_add : ByteArray := prog_4_method_2_code
def yX2_add : MethodName := ⟨RX2, "add", "(I)V"⟩
abbrev cX2_holds : ByteArray := prog_4_method_3_code
def yX2_holds : MethodName := ⟨RX2, "holds", "(I)Z"⟩
abbrev cX2_holdsFrame : ByteArray := prog_4_method_4_code
def yX2_holdsFrame : MethodName := ⟨RX2, "holdsFrame", "(I)Z"⟩
abbrev cX2_askForMissing : ByteArray := prog_4_method_5_code
def yX2_askForMissing : MethodName := ⟨RX2, "askForMissing", "(I)V"⟩
abbrev cX2_ask : ByteArray := prog_4_method_6_code
def yX2_ask : MethodName := ⟨RX2, "ask", "(I)V"⟩
def RX3 : String := "FilmPlayer"
def TX3 : u_T := fun k => match k with
  | 0 => ("FilmPlayer", "ring", "LFilmPlayer$Ring;", true)
  | 1 => ("FilmPlayer", "store", "LFilmPlayer$Store;", true)
  | 2 => ("FilmPlayer", "film", "LFilmPlayer$Film;", true)
  | _ => ("FilmPlayer", "now", "I", false)
def tyX3 : Nat → FieldType := fun k => match k with
  | 0 => .object "FilmPlayer$Ring"
  | 1 => .object "FilmPlayer$Store"
  | 2 => .object "FilmPlayer$Film"
  | _ => .int
abbrev wsX30 : List Cond := u_ws RX3 TX3 4
theorem nmX3 : ∀ a, a < 4 → ∀ b, b < 4 → a ≠ b → (TX3 a).2.1 ≠ (TX3 b).2.1 := by decide +kernel
theorem tyX3_ok : ∀ k, k < 4 → parseFieldDescriptor (TX3 k).2.2.1 = some (tyX3 k) := by decide +kernel
abbrev cX3_init : ByteArray := prog_1_method_1_code
def yX3_init : MethodName := ⟨RX3, "<init>", "()V"⟩
abbrev cX3_set : ByteArray := prog_1_method_2_code
def yX3_set : MethodName := ⟨RX3, "set", "(IIII)V"⟩
abbrev cX3_arrive : ByteArray := prog_1_method_3_code
def yX3_arrive : MethodName := ⟨RX3, "arrive", "(I)I"⟩
abbrev cX3_arriveRow : ByteArray := prog_1_method_4_code
def yX3_arriveRow : MethodName := ⟨RX3, "arriveRow", "(II)I"⟩
abbrev cX3_advance : ByteArray := prog_1_method_5_code
def yX3_advance : MethodName := ⟨RX3, "advance", "(I)I"⟩
abbrev cX3_reset : ByteArray := prog_1_method_6_code
def yX3_reset : MethodName := ⟨RX3, "reset", "()I"⟩
abbrev cX3_tick : ByteArray := prog_1_method_7_code
def yX3_tick : MethodName := ⟨RX3, "tick", "()I"⟩
abbrev cX3_waiting : ByteArray := prog_1_method_8_code
def yX3_waiting : MethodName := ⟨RX3, "waiting", "()I"⟩
abbrev cX3_lost : ByteArray := prog_1_method_9_code
def yX3_lost : MethodName := ⟨RX3, "lost", "()I"⟩
abbrev cX3_isPolled : ByteArray := prog_1_method_10_code
def yX3_isPolled : MethodName := ⟨RX3, "isPolled", "()Z"⟩
abbrev cX3_has : ByteArray := prog_1_method_11_code
def yX3_has : MethodName := ⟨RX3, "has", "(I)Z"⟩
abbrev cX3_askedAt : ByteArray := prog_1_method_12_code
def yX3_askedAt : MethodName := ⟨RX3, "askedAt", "(I)I"⟩
abbrev cX3_asked : ByteArray := prog_1_method_13_code
def yX3_asked : MethodName := ⟨RX3, "asked", "()I"⟩
abbrev cX3_kindOf : ByteArray := prog_1_method_14_code
def yX3_kindOf : MethodName := ⟨RX3, "kindOf", "(I)I"⟩
abbrev cX3_need : ByteArray := prog_1_method_15_code
def yX3_need : MethodName := ⟨RX3, "need", "(IZ)I"⟩
abbrev cX3_isWhole : ByteArray := prog_1_method_16_code
def yX3_isWhole : MethodName := ⟨RX3, "isWhole", "(I)Z"⟩
abbrev cX3_fate : ByteArray := prog_1_method_17_code
def yX3_fate : MethodName := ⟨RX3, "fate", "(I)I"⟩
abbrev cX3_next : ByteArray := prog_1_method_18_code
def yX3_next : MethodName := ⟨RX3, "next", "()I"⟩
abbrev cX3_turn : ByteArray := prog_1_method_19_code
def yX3_turn : MethodName := ⟨RX3, "turn", "()I"⟩
abbrev cX3_fill : ByteArray := prog_1_method_20_code
def yX3_fill : MethodName := ⟨RX3, "fill", "()I"⟩
abbrev cX3_shown : ByteArray := prog_1_method_21_code
def yX3_shown : MethodName := ⟨RX3, "shown", "()I"⟩
abbrev cX3_couldBe : ByteArray := prog_1_method_22_code
def yX3_couldBe : MethodName := ⟨RX3, "couldBe", "()I"⟩
abbrev cX3_gap : ByteArray := prog_1_method_23_code
def yX3_gap : MethodName := ⟨RX3, "gap", "()I"⟩
abbrev cX3_passTick : ByteArray := prog_1_method_24_code
def yX3_passTick : MethodName := ⟨RX3, "passTick", "()V"⟩
abbrev cX3_isFromOneTo : ByteArray := prog_1_method_25_code
def yX3_isFromOneTo : MethodName := ⟨RX3, "isFromOneTo", "(II)Z"⟩
abbrev cX3_isPacket : ByteArray := prog_1_method_26_code
def yX3_isPacket : MethodName := ⟨RX3, "isPacket", "(I)Z"⟩
abbrev cX3_isFrame : ByteArray := prog_1_method_27_code
def yX3_isFrame : MethodName := ⟨RX3, "isFrame", "(I)Z"⟩
def RX4 : String := "FilmPlayerModel"
def TX4 : u_T := fun k => match k with
  | _ => ("", "", "", false)
def tyX4 : Nat → FieldType := fun k => match k with
  | _ => .int
abbrev wsX40 : List Cond := u_ws RX4 TX4 0
theorem nmX4 : ∀ a, a < 0 → ∀ b, b < 0 → a ≠ b → (TX4 a).2.1 ≠ (TX4 b).2.1 := by decide +kernel
theorem tyX4_ok : ∀ k, k < 0 → parseFieldDescriptor (TX4 k).2.2.1 = some (tyX4 k) := by decide +kernel
def RJ9 : String := "java/lang/Math"
def TJ9 : u_T := fun k => match k with
  | _ => ("", "", "", false)
def tyJ9 : Nat → FieldType := fun k => match k with
  | _ => .int
abbrev wsJ90 : List Cond := u_ws RJ9 TJ9 0
theorem nmJ9 : ∀ a, a < 0 → ∀ b, b < 0 → a ≠ b → (TJ9 a).2.1 ≠ (TJ9 b).2.1 := by decide +kernel
theorem tyJ9_ok : ∀ k, k < 0 → parseFieldDescriptor (TJ9 k).2.2.1 = some (tyJ9 k) := by decide +kernel
abbrev cJ9_max_7cf53 : ByteArray := prog_11_method_65_code
def yJ9_max_7cf53 : MethodName := ⟨RJ9, "max", "(II)I"⟩
abbrev cJ9_min_7cf53 : ByteArray := prog_11_method_69_code
def yJ9_min_7cf53 : MethodName := ⟨RJ9, "min", "(II)I"⟩
def RJ0 : String := "java/lang/String"
def TJ0 : u_T := fun k => match k with
  | _ => ("", "", "", false)
def tyJ0 : Nat → FieldType := fun k => match k with
  | _ => .int
abbrev wsJ00 : List Cond := u_ws RJ0 TJ0 0
theorem nmJ0 : ∀ a, a < 0 → ∀ b, b < 0 → a ≠ b → (TJ0 a).2.1 ≠ (TJ0 b).2.1 := by decide +kernel
theorem tyJ0_ok : ∀ k, k < 0 → parseFieldDescriptor (TJ0 k).2.2.1 = some (tyJ0 k) := by decide +kernel
def RL : String := "FilmPlayerLaw"
abbrev cL_cell : ByteArray := method_2_code
def yL_cell : MethodName := ⟨RL, "cell", "([II)I"⟩
abbrev cL_some : ByteArray := method_3_code
def yL_some : MethodName := ⟨RL, "some", "(II)I"⟩
abbrev cL_call : ByteArray := method_4_code
def yL_call : MethodName := ⟨RL, "call", "(LFilmPlayer;IIIII)I"⟩
abbrev cL_does : ByteArray := method_5_code
def yL_does : MethodName := ⟨RL, "does", "(LFilmPlayer;IIIII)I"⟩
abbrev cL_all : ByteArray := method_6_code
def yL_all : MethodName := ⟨RL, "all", "(LFilmPlayer;)J"⟩
abbrev cL_refused : ByteArray := method_7_code
def yL_refused : MethodName := ⟨RL, "refused", "(LFilmPlayer;)Z"⟩
abbrev cL_comes : ByteArray := method_8_code
def yL_comes : MethodName := ⟨RL, "comes", "(LFilmPlayer;II)Z"⟩
abbrev cL_ticks : ByteArray := method_9_code
def yL_ticks : MethodName := ⟨RL, "ticks", "(LFilmPlayer;I)Z"⟩
abbrev cL_law : ByteArray := code
def yL_law : MethodName := ⟨RL, "law", "([I)Z"⟩
def wsX0_init : List Cond := .code yX0_init cX0_init 2 none :: ([.methodLink RX0 3 objectInit, .instanceMethod objectInit, .code objectInit ⟨#[0xb1]⟩ 1 none, .arrayClass .int, .fieldLink RX0 9 "FilmPlayer$Film" "fates" "[I", .fieldLink RX0 15 "FilmPlayer$Film" "nextFrame" "I", .fieldLink RX0 19 "FilmPlayer$Film" "beginTick" "I", .fieldLink RX0 22 "FilmPlayer$Film" "turnTick" "I", .fieldLink RX0 25 "FilmPlayer$Film" "shownCount" "I", .fieldLink RX0 28 "FilmPlayer$Film" "store" "LFilmPlayer$Store;"] ++ wsX00)
def wsX0_kind : List Cond := .code yX0_kind cX0_kind 1 (some .int) :: ([])
def wsX0_needBefore : List Cond := .code yX0_needBefore cX0_needBefore 2 (some .int) :: ([.methodLink RX0 32 yX0_kind, .static yX0_kind, .initialized RX0, .code yX0_kind cX0_kind 1 (some .int)])
def wsX0_needBehind : List Cond := .code yX0_needBehind cX0_needBehind 1 (some .int) :: ([.methodLink RX0 32 yX0_kind, .static yX0_kind, .initialized RX0, .code yX0_kind cX0_kind 1 (some .int)])
def wsX2_holdsFrame : List Cond := .code yX2_holdsFrame cX2_holdsFrame 3 (some .boolean) :: ([.fieldLink RX2 9 "FilmPlayer$Store" "had" "[Z"] ++ wsX20)
def wsX0_canBegin : List Cond := .code yX0_canBegin cX0_canBegin 2 (some .boolean) :: ([.fieldLink RX0 28 "FilmPlayer$Film" "store" "LFilmPlayer$Store;", .methodLink RX0 44 yX2_holdsFrame, .instanceMethod yX2_holdsFrame, .selects RX2 yX2_holdsFrame yX2_holdsFrame, .initialized RX2, .code yX2_holdsFrame cX2_holdsFrame 3 (some .boolean), .fieldLink RX2 9 "FilmPlayer$Store" "had" "[Z"] ++ wsX00 ++ wsX20)
def wsX3_isFrame : List Cond := .code yX3_isFrame cX3_isFrame 1 (some .boolean) :: ([])
def wsX0_wasShown : List Cond := .code yX0_wasShown cX0_wasShown 2 (some .boolean) :: ([.fieldLink RX0 9 "FilmPlayer$Film" "fates" "[I", .static yX3_isFrame, .initialized RX3, .code yX3_isFrame cX3_isFrame 1 (some .boolean)] ++ wsX00)
def wsX0_isWholeIfAny : List Cond := .code yX0_isWholeIfAny cX0_isWholeIfAny 2 (some .boolean) :: ([.fieldLink RX0 28 "FilmPlayer$Film" "store" "LFilmPlayer$Store;", .methodLink RX0 44 yX2_holdsFrame, .instanceMethod yX2_holdsFrame, .selects RX2 yX2_holdsFrame yX2_holdsFrame, .initialized RX2, .code yX2_holdsFrame cX2_holdsFrame 3 (some .boolean), .fieldLink RX2 9 "FilmPlayer$Store" "had" "[Z"] ++ wsX00 ++ wsX20)
def wsX0_outcomeOf_r1 : List Cond := [Cond.fieldLink RX0 28 "FilmPlayer$Film" "store" "LFilmPlayer$Store;", Cond.methodLink RX0 44 yX2_holdsFrame, Cond.instanceMethod yX2_holdsFrame, Cond.selects RX2 yX2_holdsFrame yX2_holdsFrame, Cond.initialized RX2, Cond.code yX2_holdsFrame cX2_holdsFrame 3 (some .boolean), Cond.fieldLink RX2 9 "FilmPlayer$Store" "had" "[Z", Cond.methodLink RX0 60 yX0_needBefore, Cond.static yX0_needBefore, Cond.initialized RX0, Cond.code yX0_needBefore cX0_needBefore 2 (some .int), Cond.methodLink RX0 32 yX0_kind, Cond.static yX0_kind, Cond.code yX0_kind cX0_kind 1 (some .int), Cond.methodLink RX0 63 yX0_needBehind, Cond.static yX0_needBehind, Cond.code yX0_needBehind cX0_needBehind 1 (some .int), Cond.methodLink RX0 66 yX0_wasShown, Cond.instanceMethod yX0_wasShown, Cond.selects RX0 yX0_wasShown yX0_wasShown, Cond.code yX0_wasShown cX0_wasShown 2 (some .boolean), Cond.fieldLink RX0 9 "FilmPlayer$Film" "fates" "[I", Cond.static yX3_isFrame, Cond.initialized RX3]
def wsX0_outcomeOf_r2 : List Cond := [Cond.code yX3_isFrame cX3_isFrame 1 (some .boolean), Cond.methodLink RX0 69 yX0_isWholeIfAny, Cond.instanceMethod yX0_isWholeIfAny, Cond.selects RX0 yX0_isWholeIfAny yX0_isWholeIfAny, Cond.code yX0_isWholeIfAny cX0_isWholeIfAny 2 (some .boolean)]
def wsX0_outcomeOf : List Cond := .code yX0_outcomeOf cX0_outcomeOf 5 (some .int) :: ((wsX0_outcomeOf_r1 ++ wsX0_outcomeOf_r2) ++ wsX00 ++ wsX20)
def wsX0_wholeAhead : List Cond := .code yX0_wholeAhead cX0_wholeAhead 3 (some .int) :: ([.fieldLink RX0 15 "FilmPlayer$Film" "nextFrame" "I", .fieldLink RX0 28 "FilmPlayer$Film" "store" "LFilmPlayer$Store;", .methodLink RX0 44 yX2_holdsFrame, .instanceMethod yX2_holdsFrame, .selects RX2 yX2_holdsFrame yX2_holdsFrame, .initialized RX2, .code yX2_holdsFrame cX2_holdsFrame 3 (some .boolean), .fieldLink RX2 9 "FilmPlayer$Store" "had" "[Z"] ++ wsX00 ++ wsX20)
def wsX0_pace : List Cond := .code yX0_pace cX0_pace 2 (some .int) :: ([.methodLink RX0 72 yX0_wholeAhead, .instanceMethod yX0_wholeAhead, .selects RX0 yX0_wholeAhead yX0_wholeAhead, .initialized RX0, .code yX0_wholeAhead cX0_wholeAhead 3 (some .int), .fieldLink RX0 15 "FilmPlayer$Film" "nextFrame" "I", .fieldLink RX0 28 "FilmPlayer$Film" "store" "LFilmPlayer$Store;", .methodLink RX0 44 yX2_holdsFrame, .instanceMethod yX2_holdsFrame, .selects RX2 yX2_holdsFrame yX2_holdsFrame, .initialized RX2, .code yX2_holdsFrame cX2_holdsFrame 3 (some .boolean), .fieldLink RX2 9 "FilmPlayer$Store" "had" "[Z"] ++ wsX00 ++ wsX20)
def wsX0_giveTurn_r1 : List Cond := [Cond.fieldLink RX0 15 "FilmPlayer$Film" "nextFrame" "I", Cond.fieldLink RX0 9 "FilmPlayer$Film" "fates" "[I", Cond.fieldLink RX0 25 "FilmPlayer$Film" "shownCount" "I", Cond.fieldLink RX0 22 "FilmPlayer$Film" "turnTick" "I", Cond.static yX3_isFrame, Cond.initialized RX3, Cond.code yX3_isFrame cX3_isFrame 1 (some .boolean), Cond.methodLink RX0 53 yX0_outcomeOf, Cond.instanceMethod yX0_outcomeOf, Cond.selects RX0 yX0_outcomeOf yX0_outcomeOf, Cond.initialized RX0, Cond.code yX0_outcomeOf cX0_outcomeOf 5 (some .int), Cond.fieldLink RX0 28 "FilmPlayer$Film" "store" "LFilmPlayer$Store;", Cond.methodLink RX0 44 yX2_holdsFrame, Cond.instanceMethod yX2_holdsFrame, Cond.selects RX2 yX2_holdsFrame yX2_holdsFrame, Cond.initialized RX2, Cond.code yX2_holdsFrame cX2_holdsFrame 3 (some .boolean), Cond.fieldLink RX2 9 "FilmPlayer$Store" "had" "[Z", Cond.methodLink RX0 60 yX0_needBefore, Cond.static yX0_needBefore, Cond.code yX0_needBefore cX0_needBefore 2 (some .int), Cond.methodLink RX0 32 yX0_kind, Cond.static yX0_kind]
def wsX0_giveTurn_r2 : List Cond := [Cond.code yX0_kind cX0_kind 1 (some .int), Cond.methodLink RX0 63 yX0_needBehind, Cond.static yX0_needBehind, Cond.code yX0_needBehind cX0_needBehind 1 (some .int), Cond.methodLink RX0 66 yX0_wasShown, Cond.instanceMethod yX0_wasShown, Cond.selects RX0 yX0_wasShown yX0_wasShown, Cond.code yX0_wasShown cX0_wasShown 2 (some .boolean), Cond.methodLink RX0 69 yX0_isWholeIfAny, Cond.instanceMethod yX0_isWholeIfAny, Cond.selects RX0 yX0_isWholeIfAny yX0_isWholeIfAny, Cond.code yX0_isWholeIfAny cX0_isWholeIfAny 2 (some .boolean), Cond.methodLink RX0 56 yX0_pace, Cond.instanceMethod yX0_pace, Cond.selects RX0 yX0_pace yX0_pace, Cond.code yX0_pace cX0_pace 2 (some .int), Cond.methodLink RX0 72 yX0_wholeAhead, Cond.instanceMethod yX0_wholeAhead, Cond.selects RX0 yX0_wholeAhead yX0_wholeAhead, Cond.code yX0_wholeAhead cX0_wholeAhead 3 (some .int)]
def wsX0_giveTurn : List Cond := .code yX0_giveTurn cX0_giveTurn 3 none :: ((wsX0_giveTurn_r1 ++ wsX0_giveTurn_r2) ++ wsX00 ++ wsX20)
def wsX0_play_r1 : List Cond := [Cond.fieldLink RX0 19 "FilmPlayer$Film" "beginTick" "I", Cond.fieldLink RX0 22 "FilmPlayer$Film" "turnTick" "I", Cond.methodLink RX0 36 yX0_canBegin, Cond.instanceMethod yX0_canBegin, Cond.selects RX0 yX0_canBegin yX0_canBegin, Cond.initialized RX0, Cond.code yX0_canBegin cX0_canBegin 2 (some .boolean), Cond.fieldLink RX0 28 "FilmPlayer$Film" "store" "LFilmPlayer$Store;", Cond.methodLink RX0 44 yX2_holdsFrame, Cond.instanceMethod yX2_holdsFrame, Cond.selects RX2 yX2_holdsFrame yX2_holdsFrame, Cond.initialized RX2, Cond.code yX2_holdsFrame cX2_holdsFrame 3 (some .boolean), Cond.fieldLink RX2 9 "FilmPlayer$Store" "had" "[Z", Cond.methodLink RX0 40 yX0_giveTurn, Cond.instanceMethod yX0_giveTurn, Cond.selects RX0 yX0_giveTurn yX0_giveTurn, Cond.code yX0_giveTurn cX0_giveTurn 3 none, Cond.fieldLink RX0 15 "FilmPlayer$Film" "nextFrame" "I", Cond.fieldLink RX0 9 "FilmPlayer$Film" "fates" "[I", Cond.fieldLink RX0 25 "FilmPlayer$Film" "shownCount" "I", Cond.static yX3_isFrame, Cond.initialized RX3, Cond.code yX3_isFrame cX3_isFrame 1 (some .boolean)]
def wsX0_play_r2 : List Cond := [Cond.methodLink RX0 53 yX0_outcomeOf, Cond.instanceMethod yX0_outcomeOf, Cond.selects RX0 yX0_outcomeOf yX0_outcomeOf, Cond.code yX0_outcomeOf cX0_outcomeOf 5 (some .int), Cond.methodLink RX0 60 yX0_needBefore, Cond.static yX0_needBefore, Cond.code yX0_needBefore cX0_needBefore 2 (some .int), Cond.methodLink RX0 32 yX0_kind, Cond.static yX0_kind, Cond.code yX0_kind cX0_kind 1 (some .int), Cond.methodLink RX0 63 yX0_needBehind, Cond.static yX0_needBehind, Cond.code yX0_needBehind cX0_needBehind 1 (some .int), Cond.methodLink RX0 66 yX0_wasShown, Cond.instanceMethod yX0_wasShown, Cond.selects RX0 yX0_wasShown yX0_wasShown, Cond.code yX0_wasShown cX0_wasShown 2 (some .boolean), Cond.methodLink RX0 69 yX0_isWholeIfAny, Cond.instanceMethod yX0_isWholeIfAny, Cond.selects RX0 yX0_isWholeIfAny yX0_isWholeIfAny, Cond.code yX0_isWholeIfAny cX0_isWholeIfAny 2 (some .boolean), Cond.methodLink RX0 56 yX0_pace, Cond.instanceMethod yX0_pace, Cond.selects RX0 yX0_pace yX0_pace]
def wsX0_play_r3 : List Cond := [Cond.code yX0_pace cX0_pace 2 (some .int), Cond.methodLink RX0 72 yX0_wholeAhead, Cond.instanceMethod yX0_wholeAhead, Cond.selects RX0 yX0_wholeAhead yX0_wholeAhead, Cond.code yX0_wholeAhead cX0_wholeAhead 3 (some .int)]
def wsX0_play : List Cond := .code yX0_play cX0_play 2 none :: ((wsX0_play_r1 ++ (wsX0_play_r2 ++ wsX0_play_r3)) ++ wsX00 ++ wsX20)
def wsX0_isAnchorShowable : List Cond := .code yX0_isAnchorShowable cX0_isAnchorShowable 2 (some .boolean) :: ([.fieldLink RX0 28 "FilmPlayer$Film" "store" "LFilmPlayer$Store;", .methodLink RX0 44 yX2_holdsFrame, .instanceMethod yX2_holdsFrame, .selects RX2 yX2_holdsFrame yX2_holdsFrame, .initialized RX2, .code yX2_holdsFrame cX2_holdsFrame 3 (some .boolean), .fieldLink RX2 9 "FilmPlayer$Store" "had" "[Z", .methodLink RX0 60 yX0_needBefore, .static yX0_needBefore, .initialized RX0, .code yX0_needBefore cX0_needBefore 2 (some .int), .methodLink RX0 32 yX0_kind, .static yX0_kind, .code yX0_kind cX0_kind 1 (some .int), .methodLink RX0 69 yX0_isWholeIfAny, .instanceMethod yX0_isWholeIfAny, .selects RX0 yX0_isWholeIfAny yX0_isWholeIfAny, .code yX0_isWholeIfAny cX0_isWholeIfAny 2 (some .boolean)] ++ wsX00 ++ wsX20)
def wsX0_countShowable_r1 : List Cond := [Cond.fieldLink RX0 15 "FilmPlayer$Film" "nextFrame" "I", Cond.fieldLink RX0 28 "FilmPlayer$Film" "store" "LFilmPlayer$Store;", Cond.methodLink RX0 44 yX2_holdsFrame, Cond.instanceMethod yX2_holdsFrame, Cond.selects RX2 yX2_holdsFrame yX2_holdsFrame, Cond.initialized RX2, Cond.code yX2_holdsFrame cX2_holdsFrame 3 (some .boolean), Cond.fieldLink RX2 9 "FilmPlayer$Store" "had" "[Z", Cond.methodLink RX0 60 yX0_needBefore, Cond.static yX0_needBefore, Cond.initialized RX0, Cond.code yX0_needBefore cX0_needBefore 2 (some .int), Cond.methodLink RX0 32 yX0_kind, Cond.static yX0_kind, Cond.code yX0_kind cX0_kind 1 (some .int), Cond.methodLink RX0 75 yX0_isAnchorShowable, Cond.instanceMethod yX0_isAnchorShowable, Cond.selects RX0 yX0_isAnchorShowable yX0_isAnchorShowable, Cond.code yX0_isAnchorShowable cX0_isAnchorShowable 2 (some .boolean), Cond.methodLink RX0 69 yX0_isWholeIfAny, Cond.instanceMethod yX0_isWholeIfAny, Cond.selects RX0 yX0_isWholeIfAny yX0_isWholeIfAny, Cond.code yX0_isWholeIfAny cX0_isWholeIfAny 2 (some .boolean), Cond.methodLink RX0 63 yX0_needBehind]
def wsX0_countShowable_r2 : List Cond := [Cond.static yX0_needBehind, Cond.code yX0_needBehind cX0_needBehind 1 (some .int)]
def wsX0_countShowable : List Cond := .code yX0_countShowable cX0_countShowable 3 (some .int) :: ((wsX0_countShowable_r1 ++ wsX0_countShowable_r2) ++ wsX00 ++ wsX20)
def wsX0_delay : List Cond := .code yX0_delay cX0_delay 1 (some .int) :: ([.fieldLink RX0 22 "FilmPlayer$Film" "turnTick" "I", .fieldLink RX0 19 "FilmPlayer$Film" "beginTick" "I", .fieldLink RX0 15 "FilmPlayer$Film" "nextFrame" "I"] ++ wsX00)
def wsX1_init : List Cond := .code yX1_init cX1_init 1 none :: ([.methodLink RX1 3 objectInit, .instanceMethod objectInit, .code objectInit ⟨#[0xb1]⟩ 1 none, .arrayClass .int, .fieldLink RX1 9 "FilmPlayer$Ring" "packets" "[I", .fieldLink RX1 15 "FilmPlayer$Ring" "arrivals" "[I", .fieldLink RX1 18 "FilmPlayer$Ring" "count" "I", .fieldLink RX1 22 "FilmPlayer$Ring" "size" "I", .fieldLink RX1 25 "FilmPlayer$Ring" "join" "I", .fieldLink RX1 28 "FilmPlayer$Ring" "patience" "I", .fieldLink RX1 31 "FilmPlayer$Ring" "load" "I", .fieldLink RX1 34 "FilmPlayer$Ring" "polling" "Z", .fieldLink RX1 38 "FilmPlayer$Ring" "lostCount" "I"] ++ wsX10)
def wsX1_put : List Cond := .code yX1_put cX1_put 3 (some .boolean) :: ([.fieldLink RX1 18 "FilmPlayer$Ring" "count" "I", .fieldLink RX1 22 "FilmPlayer$Ring" "size" "I", .fieldLink RX1 38 "FilmPlayer$Ring" "lostCount" "I", .fieldLink RX1 9 "FilmPlayer$Ring" "packets" "[I", .fieldLink RX1 15 "FilmPlayer$Ring" "arrivals" "[I"] ++ wsX10)
def wsX1_loseAll : List Cond := .code yX1_loseAll cX1_loseAll 2 (some .int) :: ([.fieldLink RX1 18 "FilmPlayer$Ring" "count" "I", .fieldLink RX1 38 "FilmPlayer$Ring" "lostCount" "I", .fieldLink RX1 34 "FilmPlayer$Ring" "polling" "Z"] ++ wsX10)
def wsX1_isInterruptDue : List Cond := .code yX1_isInterruptDue cX1_isInterruptDue 2 (some .boolean) :: ([.fieldLink RX1 18 "FilmPlayer$Ring" "count" "I", .fieldLink RX1 25 "FilmPlayer$Ring" "join" "I", .fieldLink RX1 15 "FilmPlayer$Ring" "arrivals" "[I", .fieldLink RX1 28 "FilmPlayer$Ring" "patience" "I"] ++ wsX10)
def wsX1_chooseMany : List Cond := .code yX1_chooseMany cX1_chooseMany 3 (some .int) :: ([.fieldLink RX1 34 "FilmPlayer$Ring" "polling" "Z", .fieldLink RX1 18 "FilmPlayer$Ring" "count" "I", .methodLink RX1 41 Lib.Math.min.name, .static Lib.Math.min.name, .initialized "java/lang/Math", .code Lib.Math.min.name Lib.Math.min.code 2 (some .int), .fieldLink RX1 31 "FilmPlayer$Ring" "load" "I", .methodLink RX1 47 yX1_isInterruptDue, .instanceMethod yX1_isInterruptDue, .selects RX1 yX1_isInterruptDue yX1_isInterruptDue, .initialized RX1, .code yX1_isInterruptDue cX1_isInterruptDue 2 (some .boolean), .fieldLink RX1 25 "FilmPlayer$Ring" "join" "I", .fieldLink RX1 15 "FilmPlayer$Ring" "arrivals" "[I", .fieldLink RX1 28 "FilmPlayer$Ring" "patience" "I"] ++ wsX10)
def wsX1_packetAt : List Cond := .code yX1_packetAt cX1_packetAt 2 (some .int) :: ([.fieldLink RX1 18 "FilmPlayer$Ring" "count" "I", .fieldLink RX1 9 "FilmPlayer$Ring" "packets" "[I"] ++ wsX10)
def wsX1_removeFirst : List Cond := .code yX1_removeFirst cX1_removeFirst 5 none :: ([.methodLink RX1 51 Lib.Math.max.name, .static Lib.Math.max.name, .initialized "java/lang/Math", .code Lib.Math.max.name Lib.Math.max.code 2 (some .int), .fieldLink RX1 18 "FilmPlayer$Ring" "count" "I", .fieldLink RX1 9 "FilmPlayer$Ring" "packets" "[I", .fieldLink RX1 15 "FilmPlayer$Ring" "arrivals" "[I"] ++ wsX10)
def wsX2_init : List Cond := .code yX2_init cX2_init 1 none :: ([.methodLink RX2 3 objectInit, .instanceMethod objectInit, .code objectInit ⟨#[0xb1]⟩ 1 none, .arrayClass .boolean, .fieldLink RX2 9 "FilmPlayer$Store" "had" "[Z", .arrayClass .int, .fieldLink RX2 15 "FilmPlayer$Store" "askedRow" "[I", .fieldLink RX2 19 "FilmPlayer$Store" "askedCount" "I", .fieldLink RX2 23 "FilmPlayer$Store" "highest" "I", .fieldLink RX2 26 "FilmPlayer$Store" "lookedUpTo" "I"] ++ wsX20)
def wsX3_isPacket : List Cond := .code yX3_isPacket cX3_isPacket 1 (some .boolean) :: ([])
def wsX2_add : List Cond := .code yX2_add cX2_add 2 none :: ([.fieldLink RX2 9 "FilmPlayer$Store" "had" "[Z", .fieldLink RX2 23 "FilmPlayer$Store" "highest" "I", .methodLink RX2 33 Lib.Math.max.name, .static Lib.Math.max.name, .initialized "java/lang/Math", .code Lib.Math.max.name Lib.Math.max.code 2 (some .int), .static yX3_isPacket, .initialized RX3, .code yX3_isPacket cX3_isPacket 1 (some .boolean)] ++ wsX20)
def wsX2_holds : List Cond := .code yX2_holds cX2_holds 2 (some .boolean) :: ([.fieldLink RX2 9 "FilmPlayer$Store" "had" "[Z", .static yX3_isPacket, .initialized RX3, .code yX3_isPacket cX3_isPacket 1 (some .boolean)] ++ wsX20)
def wsX2_ask : List Cond := .code yX2_ask cX2_ask 2 none :: ([.fieldLink RX2 19 "FilmPlayer$Store" "askedCount" "I", .fieldLink RX2 15 "FilmPlayer$Store" "askedRow" "[I"] ++ wsX20)
def wsX2_askForMissing : List Cond := .code yX2_askForMissing cX2_askForMissing 3 none :: ([.fieldLink RX2 26 "FilmPlayer$Store" "lookedUpTo" "I", .fieldLink RX2 23 "FilmPlayer$Store" "highest" "I", .methodLink RX2 33 Lib.Math.max.name, .static Lib.Math.max.name, .initialized "java/lang/Math", .code Lib.Math.max.name Lib.Math.max.code 2 (some .int), .methodLink RX2 39 yX2_holds, .instanceMethod yX2_holds, .selects RX2 yX2_holds yX2_holds, .initialized RX2, .code yX2_holds cX2_holds 2 (some .boolean), .fieldLink RX2 9 "FilmPlayer$Store" "had" "[Z", .static yX3_isPacket, .initialized RX3, .code yX3_isPacket cX3_isPacket 1 (some .boolean), .methodLink RX2 42 yX2_ask, .instanceMethod yX2_ask, .selects RX2 yX2_ask yX2_ask, .code yX2_ask cX2_ask 2 none, .fieldLink RX2 19 "FilmPlayer$Store" "askedCount" "I", .fieldLink RX2 15 "FilmPlayer$Store" "askedRow" "[I"] ++ wsX20)
def wsX3_init_r1 : List Cond := [Cond.methodLink RX3 3 objectInit, Cond.instanceMethod objectInit, Cond.code objectInit ⟨#[0xb1]⟩ 1 none, Cond.classLink RX3 9 RX1, Cond.instantiable RX1 9, Cond.initialized RX1, Cond.fieldLink RX3 12 "FilmPlayer" "ring" "LFilmPlayer$Ring;", Cond.classLink RX3 16 RX2, Cond.instantiable RX2 5, Cond.initialized RX2, Cond.fieldLink RX3 19 "FilmPlayer" "store" "LFilmPlayer$Store;", Cond.classLink RX3 23 RX0, Cond.instantiable RX0 6, Cond.initialized RX0, Cond.fieldLink RX3 28 "FilmPlayer" "film" "LFilmPlayer$Film;", Cond.instanceMethod yX1_init, Cond.code yX1_init cX1_init 1 none, Cond.methodLink RX1 3 objectInit, Cond.arrayClass .int, Cond.fieldLink RX1 9 "FilmPlayer$Ring" "packets" "[I", Cond.fieldLink RX1 15 "FilmPlayer$Ring" "arrivals" "[I", Cond.fieldLink RX1 18 "FilmPlayer$Ring" "count" "I", Cond.fieldLink RX1 22 "FilmPlayer$Ring" "size" "I", Cond.fieldLink RX1 25 "FilmPlayer$Ring" "join" "I"]
def wsX3_init_r2 : List Cond := [Cond.fieldLink RX1 28 "FilmPlayer$Ring" "patience" "I", Cond.fieldLink RX1 31 "FilmPlayer$Ring" "load" "I", Cond.fieldLink RX1 34 "FilmPlayer$Ring" "polling" "Z", Cond.fieldLink RX1 38 "FilmPlayer$Ring" "lostCount" "I", Cond.instanceMethod yX2_init, Cond.code yX2_init cX2_init 1 none, Cond.methodLink RX2 3 objectInit, Cond.arrayClass .boolean, Cond.fieldLink RX2 9 "FilmPlayer$Store" "had" "[Z", Cond.fieldLink RX2 15 "FilmPlayer$Store" "askedRow" "[I", Cond.fieldLink RX2 19 "FilmPlayer$Store" "askedCount" "I", Cond.fieldLink RX2 23 "FilmPlayer$Store" "highest" "I", Cond.fieldLink RX2 26 "FilmPlayer$Store" "lookedUpTo" "I", Cond.methodLink RX3 25 yX0_init, Cond.instanceMethod yX0_init, Cond.code yX0_init cX0_init 2 none, Cond.methodLink RX0 3 objectInit, Cond.fieldLink RX0 9 "FilmPlayer$Film" "fates" "[I", Cond.fieldLink RX0 15 "FilmPlayer$Film" "nextFrame" "I", Cond.fieldLink RX0 19 "FilmPlayer$Film" "beginTick" "I", Cond.fieldLink RX0 22 "FilmPlayer$Film" "turnTick" "I", Cond.fieldLink RX0 25 "FilmPlayer$Film" "shownCount" "I", Cond.fieldLink RX0 28 "FilmPlayer$Film" "store" "LFilmPlayer$Store;"]
def wsX3_init : List Cond := .code yX3_init cX3_init 1 none :: ((wsX3_init_r1 ++ wsX3_init_r2) ++ wsX10 ++ wsX30 ++ wsX20 ++ wsX00)
def wsX3_isFromOneTo : List Cond := .code yX3_isFromOneTo cX3_isFromOneTo 2 (some .boolean) :: ([])
def wsX3_set : List Cond := .code yX3_set cX3_set 5 none :: ([.classLink RX3 36 "java/lang/IllegalArgumentException", .initialized "java/lang/IllegalArgumentException", .fieldLink RX3 12 "FilmPlayer" "ring" "LFilmPlayer$Ring;", .methodLink RX3 32 yX3_isFromOneTo, .static yX3_isFromOneTo, .initialized RX3, .code yX3_isFromOneTo cX3_isFromOneTo 2 (some .boolean)] ++ wsX30 ++ wsX10 ++ (vx_atS RX3 40 "java/lang/IllegalArgumentException" ["java/lang/RuntimeException", "java/lang/Exception"]).filter goodWord)
def wsX3_arrive : List Cond := .code yX3_arrive cX3_arrive 2 (some .int) :: ([.classLink RX3 60 "java/lang/IndexOutOfBoundsException", .initialized "java/lang/IndexOutOfBoundsException", .fieldLink RX3 12 "FilmPlayer" "ring" "LFilmPlayer$Ring;", .fieldLink RX3 65 "FilmPlayer" "now" "I", .methodLink RX3 56 yX3_isPacket, .static yX3_isPacket, .initialized RX3, .code yX3_isPacket cX3_isPacket 1 (some .boolean), .methodLink RX3 68 yX1_put, .instanceMethod yX1_put, .selects RX1 yX1_put yX1_put, .initialized RX1, .code yX1_put cX1_put 3 (some .boolean), .fieldLink RX1 18 "FilmPlayer$Ring" "count" "I", .fieldLink RX1 22 "FilmPlayer$Ring" "size" "I", .fieldLink RX1 38 "FilmPlayer$Ring" "lostCount" "I", .fieldLink RX1 9 "FilmPlayer$Ring" "packets" "[I", .fieldLink RX1 15 "FilmPlayer$Ring" "arrivals" "[I"] ++ wsX30 ++ wsX10 ++ (vx_atS RX3 64 "java/lang/IndexOutOfBoundsException" ["java/lang/RuntimeException", "java/lang/Exception"]).filter goodWord)
def wsX3_arriveRow : List Cond := .code yX3_arriveRow cX3_arriveRow 5 (some .int) :: ([.classLink RX3 60 "java/lang/IndexOutOfBoundsException", .initialized "java/lang/IndexOutOfBoundsException", .classLink RX3 36 "java/lang/IllegalArgumentException", .initialized "java/lang/IllegalArgumentException", .fieldLink RX3 12 "FilmPlayer" "ring" "LFilmPlayer$Ring;", .fieldLink RX3 65 "FilmPlayer" "now" "I", .methodLink RX3 56 yX3_isPacket, .static yX3_isPacket, .initialized RX3, .code yX3_isPacket cX3_isPacket 1 (some .boolean), .methodLink RX3 32 yX3_isFromOneTo, .static yX3_isFromOneTo, .code yX3_isFromOneTo cX3_isFromOneTo 2 (some .boolean), .methodLink RX3 68 yX1_put, .instanceMethod yX1_put, .selects RX1 yX1_put yX1_put, .initialized RX1, .code yX1_put cX1_put 3 (some .boolean), .fieldLink RX1 18 "FilmPlayer$Ring" "count" "I", .fieldLink RX1 22 "FilmPlayer$Ring" "size" "I", .fieldLink RX1 38 "FilmPlayer$Ring" "lostCount" "I", .fieldLink RX1 9 "FilmPlayer$Ring" "packets" "[I", .fieldLink RX1 15 "FilmPlayer$Ring" "arrivals" "[I"] ++ wsX30 ++ wsX10 ++ (vx_atS RX3 64 "java/lang/IndexOutOfBoundsException" ["java/lang/RuntimeException", "java/lang/Exception"]).filter goodWord ++ (vx_atS RX3 40 "java/lang/IllegalArgumentException" ["java/lang/RuntimeException", "java/lang/Exception"]).filter goodWord)
def wsX3_passTick_r1 : List Cond := [Cond.fieldLink RX3 12 "FilmPlayer" "ring" "LFilmPlayer$Ring;", Cond.fieldLink RX3 65 "FilmPlayer" "now" "I", Cond.fieldLink RX3 19 "FilmPlayer" "store" "LFilmPlayer$Store;", Cond.fieldLink RX3 28 "FilmPlayer" "film" "LFilmPlayer$Film;", Cond.methodLink RX3 150 yX1_chooseMany, Cond.instanceMethod yX1_chooseMany, Cond.selects RX1 yX1_chooseMany yX1_chooseMany, Cond.initialized RX1, Cond.code yX1_chooseMany cX1_chooseMany 3 (some .int), Cond.fieldLink RX1 34 "FilmPlayer$Ring" "polling" "Z", Cond.fieldLink RX1 18 "FilmPlayer$Ring" "count" "I", Cond.methodLink RX1 41 Lib.Math.min.name, Cond.static Lib.Math.min.name, Cond.initialized "java/lang/Math", Cond.code Lib.Math.min.name Lib.Math.min.code 2 (some .int), Cond.fieldLink RX1 31 "FilmPlayer$Ring" "load" "I", Cond.methodLink RX1 47 yX1_isInterruptDue, Cond.instanceMethod yX1_isInterruptDue, Cond.selects RX1 yX1_isInterruptDue yX1_isInterruptDue, Cond.code yX1_isInterruptDue cX1_isInterruptDue 2 (some .boolean), Cond.fieldLink RX1 25 "FilmPlayer$Ring" "join" "I", Cond.fieldLink RX1 15 "FilmPlayer$Ring" "arrivals" "[I", Cond.fieldLink RX1 28 "FilmPlayer$Ring" "patience" "I", Cond.methodLink RX3 153 yX1_packetAt]
def wsX3_passTick_r2 : List Cond := [Cond.instanceMethod yX1_packetAt, Cond.selects RX1 yX1_packetAt yX1_packetAt, Cond.code yX1_packetAt cX1_packetAt 2 (some .int), Cond.fieldLink RX1 9 "FilmPlayer$Ring" "packets" "[I", Cond.methodLink RX3 156 yX2_add, Cond.instanceMethod yX2_add, Cond.selects RX2 yX2_add yX2_add, Cond.initialized RX2, Cond.code yX2_add cX2_add 2 none, Cond.fieldLink RX2 9 "FilmPlayer$Store" "had" "[Z", Cond.fieldLink RX2 23 "FilmPlayer$Store" "highest" "I", Cond.methodLink RX2 33 Lib.Math.max.name, Cond.static Lib.Math.max.name, Cond.code Lib.Math.max.name Lib.Math.max.code 2 (some .int), Cond.static yX3_isPacket, Cond.initialized RX3, Cond.code yX3_isPacket cX3_isPacket 1 (some .boolean), Cond.methodLink RX3 160 yX1_removeFirst, Cond.instanceMethod yX1_removeFirst, Cond.selects RX1 yX1_removeFirst yX1_removeFirst, Cond.code yX1_removeFirst cX1_removeFirst 5 none, Cond.methodLink RX1 51 Lib.Math.max.name, Cond.methodLink RX3 163 yX2_askForMissing, Cond.instanceMethod yX2_askForMissing]
def wsX3_passTick_r3 : List Cond := [Cond.selects RX2 yX2_askForMissing yX2_askForMissing, Cond.code yX2_askForMissing cX2_askForMissing 3 none, Cond.fieldLink RX2 26 "FilmPlayer$Store" "lookedUpTo" "I", Cond.methodLink RX2 39 yX2_holds, Cond.instanceMethod yX2_holds, Cond.selects RX2 yX2_holds yX2_holds, Cond.code yX2_holds cX2_holds 2 (some .boolean), Cond.methodLink RX2 42 yX2_ask, Cond.instanceMethod yX2_ask, Cond.selects RX2 yX2_ask yX2_ask, Cond.code yX2_ask cX2_ask 2 none, Cond.fieldLink RX2 19 "FilmPlayer$Store" "askedCount" "I", Cond.fieldLink RX2 15 "FilmPlayer$Store" "askedRow" "[I", Cond.methodLink RX3 166 yX0_play, Cond.instanceMethod yX0_play, Cond.selects RX0 yX0_play yX0_play, Cond.initialized RX0, Cond.code yX0_play cX0_play 2 none, Cond.fieldLink RX0 19 "FilmPlayer$Film" "beginTick" "I", Cond.fieldLink RX0 22 "FilmPlayer$Film" "turnTick" "I", Cond.methodLink RX0 36 yX0_canBegin, Cond.instanceMethod yX0_canBegin, Cond.selects RX0 yX0_canBegin yX0_canBegin, Cond.code yX0_canBegin cX0_canBegin 2 (some .boolean)]
def wsX3_passTick_r4 : List Cond := [Cond.fieldLink RX0 28 "FilmPlayer$Film" "store" "LFilmPlayer$Store;", Cond.methodLink RX0 44 yX2_holdsFrame, Cond.instanceMethod yX2_holdsFrame, Cond.selects RX2 yX2_holdsFrame yX2_holdsFrame, Cond.code yX2_holdsFrame cX2_holdsFrame 3 (some .boolean), Cond.methodLink RX0 40 yX0_giveTurn, Cond.instanceMethod yX0_giveTurn, Cond.selects RX0 yX0_giveTurn yX0_giveTurn, Cond.code yX0_giveTurn cX0_giveTurn 3 none, Cond.fieldLink RX0 15 "FilmPlayer$Film" "nextFrame" "I", Cond.fieldLink RX0 9 "FilmPlayer$Film" "fates" "[I", Cond.fieldLink RX0 25 "FilmPlayer$Film" "shownCount" "I", Cond.static yX3_isFrame, Cond.code yX3_isFrame cX3_isFrame 1 (some .boolean), Cond.methodLink RX0 53 yX0_outcomeOf, Cond.instanceMethod yX0_outcomeOf, Cond.selects RX0 yX0_outcomeOf yX0_outcomeOf, Cond.code yX0_outcomeOf cX0_outcomeOf 5 (some .int), Cond.methodLink RX0 60 yX0_needBefore, Cond.static yX0_needBefore, Cond.code yX0_needBefore cX0_needBefore 2 (some .int), Cond.methodLink RX0 32 yX0_kind, Cond.static yX0_kind, Cond.code yX0_kind cX0_kind 1 (some .int)]
def wsX3_passTick_r5 : List Cond := [Cond.methodLink RX0 63 yX0_needBehind, Cond.static yX0_needBehind, Cond.code yX0_needBehind cX0_needBehind 1 (some .int), Cond.methodLink RX0 66 yX0_wasShown, Cond.instanceMethod yX0_wasShown, Cond.selects RX0 yX0_wasShown yX0_wasShown, Cond.code yX0_wasShown cX0_wasShown 2 (some .boolean), Cond.methodLink RX0 69 yX0_isWholeIfAny, Cond.instanceMethod yX0_isWholeIfAny, Cond.selects RX0 yX0_isWholeIfAny yX0_isWholeIfAny, Cond.code yX0_isWholeIfAny cX0_isWholeIfAny 2 (some .boolean), Cond.methodLink RX0 56 yX0_pace, Cond.instanceMethod yX0_pace, Cond.selects RX0 yX0_pace yX0_pace, Cond.code yX0_pace cX0_pace 2 (some .int), Cond.methodLink RX0 72 yX0_wholeAhead, Cond.instanceMethod yX0_wholeAhead, Cond.selects RX0 yX0_wholeAhead yX0_wholeAhead, Cond.code yX0_wholeAhead cX0_wholeAhead 3 (some .int)]
def wsX3_passTick : List Cond := .code yX3_passTick cX3_passTick 3 none :: ((wsX3_passTick_r1 ++ (wsX3_passTick_r2 ++ (wsX3_passTick_r3 ++ (wsX3_passTick_r4 ++ wsX3_passTick_r5)))) ++ wsX30 ++ wsX00 ++ wsX10 ++ wsX20)
def wsX3_advance_r1 : List Cond := [Cond.classLink RX3 36 "java/lang/IllegalArgumentException", Cond.initialized "java/lang/IllegalArgumentException", Cond.classLink RX3 80 "java/lang/IllegalStateException", Cond.initialized "java/lang/IllegalStateException", Cond.fieldLink RX3 65 "FilmPlayer" "now" "I", Cond.methodLink RX3 32 yX3_isFromOneTo, Cond.static yX3_isFromOneTo, Cond.initialized RX3, Cond.code yX3_isFromOneTo cX3_isFromOneTo 2 (some .boolean), Cond.methodLink RX3 85 yX3_passTick, Cond.instanceMethod yX3_passTick, Cond.selects RX3 yX3_passTick yX3_passTick, Cond.code yX3_passTick cX3_passTick 3 none, Cond.fieldLink RX3 12 "FilmPlayer" "ring" "LFilmPlayer$Ring;", Cond.fieldLink RX3 19 "FilmPlayer" "store" "LFilmPlayer$Store;", Cond.fieldLink RX3 28 "FilmPlayer" "film" "LFilmPlayer$Film;", Cond.methodLink RX3 150 yX1_chooseMany, Cond.instanceMethod yX1_chooseMany, Cond.selects RX1 yX1_chooseMany yX1_chooseMany, Cond.initialized RX1, Cond.code yX1_chooseMany cX1_chooseMany 3 (some .int), Cond.fieldLink RX1 34 "FilmPlayer$Ring" "polling" "Z", Cond.fieldLink RX1 18 "FilmPlayer$Ring" "count" "I", Cond.methodLink RX1 41 Lib.Math.min.name]
def wsX3_advance_r2 : List Cond := [Cond.static Lib.Math.min.name, Cond.initialized "java/lang/Math", Cond.code Lib.Math.min.name Lib.Math.min.code 2 (some .int), Cond.fieldLink RX1 31 "FilmPlayer$Ring" "load" "I", Cond.methodLink RX1 47 yX1_isInterruptDue, Cond.instanceMethod yX1_isInterruptDue, Cond.selects RX1 yX1_isInterruptDue yX1_isInterruptDue, Cond.code yX1_isInterruptDue cX1_isInterruptDue 2 (some .boolean), Cond.fieldLink RX1 25 "FilmPlayer$Ring" "join" "I", Cond.fieldLink RX1 15 "FilmPlayer$Ring" "arrivals" "[I", Cond.fieldLink RX1 28 "FilmPlayer$Ring" "patience" "I", Cond.methodLink RX3 153 yX1_packetAt, Cond.instanceMethod yX1_packetAt, Cond.selects RX1 yX1_packetAt yX1_packetAt, Cond.code yX1_packetAt cX1_packetAt 2 (some .int), Cond.fieldLink RX1 9 "FilmPlayer$Ring" "packets" "[I", Cond.methodLink RX3 156 yX2_add, Cond.instanceMethod yX2_add, Cond.selects RX2 yX2_add yX2_add, Cond.initialized RX2, Cond.code yX2_add cX2_add 2 none, Cond.fieldLink RX2 9 "FilmPlayer$Store" "had" "[Z", Cond.fieldLink RX2 23 "FilmPlayer$Store" "highest" "I", Cond.methodLink RX2 33 Lib.Math.max.name]
def wsX3_advance_r3 : List Cond := [Cond.static Lib.Math.max.name, Cond.code Lib.Math.max.name Lib.Math.max.code 2 (some .int), Cond.static yX3_isPacket, Cond.code yX3_isPacket cX3_isPacket 1 (some .boolean), Cond.methodLink RX3 160 yX1_removeFirst, Cond.instanceMethod yX1_removeFirst, Cond.selects RX1 yX1_removeFirst yX1_removeFirst, Cond.code yX1_removeFirst cX1_removeFirst 5 none, Cond.methodLink RX1 51 Lib.Math.max.name, Cond.methodLink RX3 163 yX2_askForMissing, Cond.instanceMethod yX2_askForMissing, Cond.selects RX2 yX2_askForMissing yX2_askForMissing, Cond.code yX2_askForMissing cX2_askForMissing 3 none, Cond.fieldLink RX2 26 "FilmPlayer$Store" "lookedUpTo" "I", Cond.methodLink RX2 39 yX2_holds, Cond.instanceMethod yX2_holds, Cond.selects RX2 yX2_holds yX2_holds, Cond.code yX2_holds cX2_holds 2 (some .boolean), Cond.methodLink RX2 42 yX2_ask, Cond.instanceMethod yX2_ask, Cond.selects RX2 yX2_ask yX2_ask, Cond.code yX2_ask cX2_ask 2 none, Cond.fieldLink RX2 19 "FilmPlayer$Store" "askedCount" "I", Cond.fieldLink RX2 15 "FilmPlayer$Store" "askedRow" "[I"]
def wsX3_advance_r4 : List Cond := [Cond.methodLink RX3 166 yX0_play, Cond.instanceMethod yX0_play, Cond.selects RX0 yX0_play yX0_play, Cond.initialized RX0, Cond.code yX0_play cX0_play 2 none, Cond.fieldLink RX0 19 "FilmPlayer$Film" "beginTick" "I", Cond.fieldLink RX0 22 "FilmPlayer$Film" "turnTick" "I", Cond.methodLink RX0 36 yX0_canBegin, Cond.instanceMethod yX0_canBegin, Cond.selects RX0 yX0_canBegin yX0_canBegin, Cond.code yX0_canBegin cX0_canBegin 2 (some .boolean), Cond.fieldLink RX0 28 "FilmPlayer$Film" "store" "LFilmPlayer$Store;", Cond.methodLink RX0 44 yX2_holdsFrame, Cond.instanceMethod yX2_holdsFrame, Cond.selects RX2 yX2_holdsFrame yX2_holdsFrame, Cond.code yX2_holdsFrame cX2_holdsFrame 3 (some .boolean), Cond.methodLink RX0 40 yX0_giveTurn, Cond.instanceMethod yX0_giveTurn, Cond.selects RX0 yX0_giveTurn yX0_giveTurn, Cond.code yX0_giveTurn cX0_giveTurn 3 none, Cond.fieldLink RX0 15 "FilmPlayer$Film" "nextFrame" "I", Cond.fieldLink RX0 9 "FilmPlayer$Film" "fates" "[I", Cond.fieldLink RX0 25 "FilmPlayer$Film" "shownCount" "I", Cond.static yX3_isFrame]
def wsX3_advance_r5 : List Cond := [Cond.code yX3_isFrame cX3_isFrame 1 (some .boolean), Cond.methodLink RX0 53 yX0_outcomeOf, Cond.instanceMethod yX0_outcomeOf, Cond.selects RX0 yX0_outcomeOf yX0_outcomeOf, Cond.code yX0_outcomeOf cX0_outcomeOf 5 (some .int), Cond.methodLink RX0 60 yX0_needBefore, Cond.static yX0_needBefore, Cond.code yX0_needBefore cX0_needBefore 2 (some .int), Cond.methodLink RX0 32 yX0_kind, Cond.static yX0_kind, Cond.code yX0_kind cX0_kind 1 (some .int), Cond.methodLink RX0 63 yX0_needBehind, Cond.static yX0_needBehind, Cond.code yX0_needBehind cX0_needBehind 1 (some .int), Cond.methodLink RX0 66 yX0_wasShown, Cond.instanceMethod yX0_wasShown, Cond.selects RX0 yX0_wasShown yX0_wasShown, Cond.code yX0_wasShown cX0_wasShown 2 (some .boolean), Cond.methodLink RX0 69 yX0_isWholeIfAny, Cond.instanceMethod yX0_isWholeIfAny, Cond.selects RX0 yX0_isWholeIfAny yX0_isWholeIfAny, Cond.code yX0_isWholeIfAny cX0_isWholeIfAny 2 (some .boolean), Cond.methodLink RX0 56 yX0_pace, Cond.instanceMethod yX0_pace]
def wsX3_advance_r6 : List Cond := [Cond.selects RX0 yX0_pace yX0_pace, Cond.code yX0_pace cX0_pace 2 (some .int), Cond.methodLink RX0 72 yX0_wholeAhead, Cond.instanceMethod yX0_wholeAhead, Cond.selects RX0 yX0_wholeAhead yX0_wholeAhead, Cond.code yX0_wholeAhead cX0_wholeAhead 3 (some .int)]
def wsX3_advance : List Cond := .code yX3_advance cX3_advance 3 (some .int) :: ((wsX3_advance_r1 ++ (wsX3_advance_r2 ++ (wsX3_advance_r3 ++ (wsX3_advance_r4 ++ (wsX3_advance_r5 ++ wsX3_advance_r6))))) ++ wsX30 ++ wsX00 ++ wsX10 ++ wsX20 ++ (vx_atS RX3 40 "java/lang/IllegalArgumentException" ["java/lang/RuntimeException", "java/lang/Exception"]).filter goodWord ++ (vx_atS RX3 84 "java/lang/IllegalStateException" ["java/lang/RuntimeException", "java/lang/Exception"]).filter goodWord)
def wsX3_reset : List Cond := .code yX3_reset cX3_reset 1 (some .int) :: ([.fieldLink RX3 12 "FilmPlayer" "ring" "LFilmPlayer$Ring;", .methodLink RX3 88 yX1_loseAll, .instanceMethod yX1_loseAll, .selects RX1 yX1_loseAll yX1_loseAll, .initialized RX1, .code yX1_loseAll cX1_loseAll 2 (some .int), .fieldLink RX1 18 "FilmPlayer$Ring" "count" "I", .fieldLink RX1 38 "FilmPlayer$Ring" "lostCount" "I", .fieldLink RX1 34 "FilmPlayer$Ring" "polling" "Z"] ++ wsX30 ++ wsX10)
def wsX3_tick : List Cond := .code yX3_tick cX3_tick 1 (some .int) :: ([.fieldLink RX3 65 "FilmPlayer" "now" "I"] ++ wsX30)
def wsX3_waiting : List Cond := .code yX3_waiting cX3_waiting 1 (some .int) :: ([.fieldLink RX3 12 "FilmPlayer" "ring" "LFilmPlayer$Ring;"] ++ wsX30 ++ wsX10)
def wsX3_lost : List Cond := .code yX3_lost cX3_lost 1 (some .int) :: ([.fieldLink RX3 12 "FilmPlayer" "ring" "LFilmPlayer$Ring;"] ++ wsX30 ++ wsX10)
def wsX3_isPolled : List Cond := .code yX3_isPolled cX3_isPolled 1 (some .boolean) :: ([.fieldLink RX3 12 "FilmPlayer" "ring" "LFilmPlayer$Ring;"] ++ wsX30 ++ wsX10)
def wsX3_has : List Cond := .code yX3_has cX3_has 2 (some .boolean) :: ([.classLink RX3 60 "java/lang/IndexOutOfBoundsException", .initialized "java/lang/IndexOutOfBoundsException", .fieldLink RX3 19 "FilmPlayer" "store" "LFilmPlayer$Store;", .methodLink RX3 56 yX3_isPacket, .static yX3_isPacket, .initialized RX3, .code yX3_isPacket cX3_isPacket 1 (some .boolean), .methodLink RX3 99 yX2_holds, .instanceMethod yX2_holds, .selects RX2 yX2_holds yX2_holds, .initialized RX2, .code yX2_holds cX2_holds 2 (some .boolean), .fieldLink RX2 9 "FilmPlayer$Store" "had" "[Z"] ++ wsX30 ++ wsX20 ++ (vx_atS RX3 64 "java/lang/IndexOutOfBoundsException" ["java/lang/RuntimeException", "java/lang/Exception"]).filter goodWord)
def wsX3_askedAt : List Cond := .code yX3_askedAt cX3_askedAt 2 (some .int) :: ([.classLink RX3 60 "java/lang/IndexOutOfBoundsException", .initialized "java/lang/IndexOutOfBoundsException", .fieldLink RX3 19 "FilmPlayer" "store" "LFilmPlayer$Store;"] ++ wsX30 ++ wsX20 ++ (vx_atS RX3 64 "java/lang/IndexOutOfBoundsException" ["java/lang/RuntimeException", "java/lang/Exception"]).filter goodWord)
def wsX3_asked : List Cond := .code yX3_asked cX3_asked 1 (some .int) :: ([.fieldLink RX3 19 "FilmPlayer" "store" "LFilmPlayer$Store;"] ++ wsX30 ++ wsX20)
def wsX3_kindOf : List Cond := .code yX3_kindOf cX3_kindOf 2 (some .int) :: ([.classLink RX3 60 "java/lang/IndexOutOfBoundsException", .initialized "java/lang/IndexOutOfBoundsException", .methodLink RX3 111 yX3_isFrame, .static yX3_isFrame, .initialized RX3, .code yX3_isFrame cX3_isFrame 1 (some .boolean), .methodLink RX3 116 yX0_kind, .static yX0_kind, .initialized RX0, .code yX0_kind cX0_kind 1 (some .int)] ++ (vx_atS RX3 64 "java/lang/IndexOutOfBoundsException" ["java/lang/RuntimeException", "java/lang/Exception"]).filter goodWord)
def wsX3_need : List Cond := .code yX3_need cX3_need 3 (some .int) :: ([.classLink RX3 60 "java/lang/IndexOutOfBoundsException", .initialized "java/lang/IndexOutOfBoundsException", .methodLink RX3 111 yX3_isFrame, .static yX3_isFrame, .initialized RX3, .code yX3_isFrame cX3_isFrame 1 (some .boolean), .methodLink RX3 120 yX0_needBehind, .static yX0_needBehind, .initialized RX0, .code yX0_needBehind cX0_needBehind 1 (some .int), .methodLink RX0 32 yX0_kind, .static yX0_kind, .code yX0_kind cX0_kind 1 (some .int), .methodLink RX3 123 yX0_needBefore, .static yX0_needBefore, .code yX0_needBefore cX0_needBefore 2 (some .int)] ++ (vx_atS RX3 64 "java/lang/IndexOutOfBoundsException" ["java/lang/RuntimeException", "java/lang/Exception"]).filter goodWord)
def wsX3_isWhole : List Cond := .code yX3_isWhole cX3_isWhole 2 (some .boolean) :: ([.classLink RX3 60 "java/lang/IndexOutOfBoundsException", .initialized "java/lang/IndexOutOfBoundsException", .fieldLink RX3 19 "FilmPlayer" "store" "LFilmPlayer$Store;", .methodLink RX3 111 yX3_isFrame, .static yX3_isFrame, .initialized RX3, .code yX3_isFrame cX3_isFrame 1 (some .boolean), .methodLink RX3 126 yX2_holdsFrame, .instanceMethod yX2_holdsFrame, .selects RX2 yX2_holdsFrame yX2_holdsFrame, .initialized RX2, .code yX2_holdsFrame cX2_holdsFrame 3 (some .boolean), .fieldLink RX2 9 "FilmPlayer$Store" "had" "[Z"] ++ wsX30 ++ wsX20 ++ (vx_atS RX3 64 "java/lang/IndexOutOfBoundsException" ["java/lang/RuntimeException", "java/lang/Exception"]).filter goodWord)
def wsX3_fate : List Cond := .code yX3_fate cX3_fate 2 (some .int) :: ([.classLink RX3 60 "java/lang/IndexOutOfBoundsException", .initialized "java/lang/IndexOutOfBoundsException", .fieldLink RX3 28 "FilmPlayer" "film" "LFilmPlayer$Film;", .methodLink RX3 111 yX3_isFrame, .static yX3_isFrame, .initialized RX3, .code yX3_isFrame cX3_isFrame 1 (some .boolean)] ++ wsX30 ++ wsX00 ++ (vx_atS RX3 64 "java/lang/IndexOutOfBoundsException" ["java/lang/RuntimeException", "java/lang/Exception"]).filter goodWord)
def wsX3_next : List Cond := .code yX3_next cX3_next 1 (some .int) :: ([.fieldLink RX3 28 "FilmPlayer" "film" "LFilmPlayer$Film;"] ++ wsX30 ++ wsX00)
def wsX3_turn : List Cond := .code yX3_turn cX3_turn 1 (some .int) :: ([.fieldLink RX3 28 "FilmPlayer" "film" "LFilmPlayer$Film;"] ++ wsX30 ++ wsX00)
def wsX3_fill : List Cond := .code yX3_fill cX3_fill 1 (some .int) :: ([.fieldLink RX3 28 "FilmPlayer" "film" "LFilmPlayer$Film;", .methodLink RX3 138 yX0_wholeAhead, .instanceMethod yX0_wholeAhead, .selects RX0 yX0_wholeAhead yX0_wholeAhead, .initialized RX0, .code yX0_wholeAhead cX0_wholeAhead 3 (some .int), .fieldLink RX0 15 "FilmPlayer$Film" "nextFrame" "I", .fieldLink RX0 28 "FilmPlayer$Film" "store" "LFilmPlayer$Store;", .methodLink RX0 44 yX2_holdsFrame, .instanceMethod yX2_holdsFrame, .selects RX2 yX2_holdsFrame yX2_holdsFrame, .initialized RX2, .code yX2_holdsFrame cX2_holdsFrame 3 (some .boolean), .fieldLink RX2 9 "FilmPlayer$Store" "had" "[Z"] ++ wsX30 ++ wsX00 ++ wsX20)
def wsX3_shown : List Cond := .code yX3_shown cX3_shown 1 (some .int) :: ([.fieldLink RX3 28 "FilmPlayer" "film" "LFilmPlayer$Film;"] ++ wsX30 ++ wsX00)
def wsX3_couldBe_r1 : List Cond := [Cond.fieldLink RX3 28 "FilmPlayer" "film" "LFilmPlayer$Film;", Cond.methodLink RX3 144 yX0_countShowable, Cond.instanceMethod yX0_countShowable, Cond.selects RX0 yX0_countShowable yX0_countShowable, Cond.initialized RX0, Cond.code yX0_countShowable cX0_countShowable 3 (some .int), Cond.fieldLink RX0 15 "FilmPlayer$Film" "nextFrame" "I", Cond.fieldLink RX0 28 "FilmPlayer$Film" "store" "LFilmPlayer$Store;", Cond.methodLink RX0 44 yX2_holdsFrame, Cond.instanceMethod yX2_holdsFrame, Cond.selects RX2 yX2_holdsFrame yX2_holdsFrame, Cond.initialized RX2, Cond.code yX2_holdsFrame cX2_holdsFrame 3 (some .boolean), Cond.fieldLink RX2 9 "FilmPlayer$Store" "had" "[Z", Cond.methodLink RX0 60 yX0_needBefore, Cond.static yX0_needBefore, Cond.code yX0_needBefore cX0_needBefore 2 (some .int), Cond.methodLink RX0 32 yX0_kind, Cond.static yX0_kind, Cond.code yX0_kind cX0_kind 1 (some .int), Cond.methodLink RX0 75 yX0_isAnchorShowable, Cond.instanceMethod yX0_isAnchorShowable, Cond.selects RX0 yX0_isAnchorShowable yX0_isAnchorShowable, Cond.code yX0_isAnchorShowable cX0_isAnchorShowable 2 (some .boolean)]
def wsX3_couldBe_r2 : List Cond := [Cond.methodLink RX0 69 yX0_isWholeIfAny, Cond.instanceMethod yX0_isWholeIfAny, Cond.selects RX0 yX0_isWholeIfAny yX0_isWholeIfAny, Cond.code yX0_isWholeIfAny cX0_isWholeIfAny 2 (some .boolean), Cond.methodLink RX0 63 yX0_needBehind, Cond.static yX0_needBehind, Cond.code yX0_needBehind cX0_needBehind 1 (some .int)]
def wsX3_couldBe : List Cond := .code yX3_couldBe cX3_couldBe 1 (some .int) :: ((wsX3_couldBe_r1 ++ wsX3_couldBe_r2) ++ wsX30 ++ wsX00 ++ wsX20)
def wsX3_gap : List Cond := .code yX3_gap cX3_gap 1 (some .int) :: ([.fieldLink RX3 28 "FilmPlayer" "film" "LFilmPlayer$Film;", .methodLink RX3 147 yX0_delay, .instanceMethod yX0_delay, .selects RX0 yX0_delay yX0_delay, .initialized RX0, .code yX0_delay cX0_delay 1 (some .int), .fieldLink RX0 22 "FilmPlayer$Film" "turnTick" "I", .fieldLink RX0 19 "FilmPlayer$Film" "beginTick" "I", .fieldLink RX0 15 "FilmPlayer$Film" "nextFrame" "I"] ++ wsX30 ++ wsX00)
def wsJ9_max_7cf53 : List Cond := .code yJ9_max_7cf53 cJ9_max_7cf53 2 (some .int) :: ([])
def wsJ9_min_7cf53 : List Cond := .code yJ9_min_7cf53 cJ9_min_7cf53 2 (some .int) :: ([])
def wsL_cell : List Cond := .code yL_cell cL_cell 3 (some .int) :: ([.constant RL 7 (528734635)])
def wsL_some : List Cond := .code yL_some cL_some 2 (some .int) :: ([])
def wsL_does_r1 : List Cond := [Cond.methodLink RL 20 yX3_set, Cond.instanceMethod yX3_set, Cond.selects RX3 yX3_set yX3_set, Cond.initialized RX3, Cond.code yX3_set cX3_set 5 none, Cond.classLink RX3 36 "java/lang/IllegalArgumentException", Cond.initialized "java/lang/IllegalArgumentException", Cond.fieldLink RX3 12 "FilmPlayer" "ring" "LFilmPlayer$Ring;", Cond.methodLink RX3 32 yX3_isFromOneTo, Cond.static yX3_isFromOneTo, Cond.code yX3_isFromOneTo cX3_isFromOneTo 2 (some .boolean), Cond.methodLink RL 26 yX3_arrive, Cond.instanceMethod yX3_arrive, Cond.selects RX3 yX3_arrive yX3_arrive, Cond.code yX3_arrive cX3_arrive 2 (some .int), Cond.classLink RX3 60 "java/lang/IndexOutOfBoundsException", Cond.initialized "java/lang/IndexOutOfBoundsException", Cond.fieldLink RX3 65 "FilmPlayer" "now" "I", Cond.methodLink RX3 56 yX3_isPacket, Cond.static yX3_isPacket, Cond.code yX3_isPacket cX3_isPacket 1 (some .boolean), Cond.methodLink RX3 68 yX1_put, Cond.instanceMethod yX1_put, Cond.selects RX1 yX1_put yX1_put]
def wsL_does_r2 : List Cond := [Cond.initialized RX1, Cond.code yX1_put cX1_put 3 (some .boolean), Cond.fieldLink RX1 18 "FilmPlayer$Ring" "count" "I", Cond.fieldLink RX1 22 "FilmPlayer$Ring" "size" "I", Cond.fieldLink RX1 38 "FilmPlayer$Ring" "lostCount" "I", Cond.fieldLink RX1 9 "FilmPlayer$Ring" "packets" "[I", Cond.fieldLink RX1 15 "FilmPlayer$Ring" "arrivals" "[I", Cond.methodLink RL 30 yX3_arriveRow, Cond.instanceMethod yX3_arriveRow, Cond.selects RX3 yX3_arriveRow yX3_arriveRow, Cond.code yX3_arriveRow cX3_arriveRow 5 (some .int), Cond.methodLink RL 34 yX3_advance, Cond.instanceMethod yX3_advance, Cond.selects RX3 yX3_advance yX3_advance, Cond.code yX3_advance cX3_advance 3 (some .int), Cond.classLink RX3 80 "java/lang/IllegalStateException", Cond.initialized "java/lang/IllegalStateException", Cond.methodLink RX3 85 yX3_passTick, Cond.instanceMethod yX3_passTick, Cond.selects RX3 yX3_passTick yX3_passTick, Cond.code yX3_passTick cX3_passTick 3 none, Cond.fieldLink RX3 19 "FilmPlayer" "store" "LFilmPlayer$Store;", Cond.fieldLink RX3 28 "FilmPlayer" "film" "LFilmPlayer$Film;", Cond.methodLink RX3 150 yX1_chooseMany]
def wsL_does_r3 : List Cond := [Cond.instanceMethod yX1_chooseMany, Cond.selects RX1 yX1_chooseMany yX1_chooseMany, Cond.code yX1_chooseMany cX1_chooseMany 3 (some .int), Cond.fieldLink RX1 34 "FilmPlayer$Ring" "polling" "Z", Cond.methodLink RX1 41 Lib.Math.min.name, Cond.static Lib.Math.min.name, Cond.initialized "java/lang/Math", Cond.code Lib.Math.min.name Lib.Math.min.code 2 (some .int), Cond.fieldLink RX1 31 "FilmPlayer$Ring" "load" "I", Cond.methodLink RX1 47 yX1_isInterruptDue, Cond.instanceMethod yX1_isInterruptDue, Cond.selects RX1 yX1_isInterruptDue yX1_isInterruptDue, Cond.code yX1_isInterruptDue cX1_isInterruptDue 2 (some .boolean), Cond.fieldLink RX1 25 "FilmPlayer$Ring" "join" "I", Cond.fieldLink RX1 28 "FilmPlayer$Ring" "patience" "I", Cond.methodLink RX3 153 yX1_packetAt, Cond.instanceMethod yX1_packetAt, Cond.selects RX1 yX1_packetAt yX1_packetAt, Cond.code yX1_packetAt cX1_packetAt 2 (some .int), Cond.methodLink RX3 156 yX2_add, Cond.instanceMethod yX2_add, Cond.selects RX2 yX2_add yX2_add, Cond.initialized RX2, Cond.code yX2_add cX2_add 2 none]
def wsL_does_r4 : List Cond := [Cond.fieldLink RX2 9 "FilmPlayer$Store" "had" "[Z", Cond.fieldLink RX2 23 "FilmPlayer$Store" "highest" "I", Cond.methodLink RX2 33 Lib.Math.max.name, Cond.static Lib.Math.max.name, Cond.code Lib.Math.max.name Lib.Math.max.code 2 (some .int), Cond.methodLink RX3 160 yX1_removeFirst, Cond.instanceMethod yX1_removeFirst, Cond.selects RX1 yX1_removeFirst yX1_removeFirst, Cond.code yX1_removeFirst cX1_removeFirst 5 none, Cond.methodLink RX1 51 Lib.Math.max.name, Cond.methodLink RX3 163 yX2_askForMissing, Cond.instanceMethod yX2_askForMissing, Cond.selects RX2 yX2_askForMissing yX2_askForMissing, Cond.code yX2_askForMissing cX2_askForMissing 3 none, Cond.fieldLink RX2 26 "FilmPlayer$Store" "lookedUpTo" "I", Cond.methodLink RX2 39 yX2_holds, Cond.instanceMethod yX2_holds, Cond.selects RX2 yX2_holds yX2_holds, Cond.code yX2_holds cX2_holds 2 (some .boolean), Cond.methodLink RX2 42 yX2_ask, Cond.instanceMethod yX2_ask, Cond.selects RX2 yX2_ask yX2_ask, Cond.code yX2_ask cX2_ask 2 none, Cond.fieldLink RX2 19 "FilmPlayer$Store" "askedCount" "I"]
def wsL_does_r5 : List Cond := [Cond.fieldLink RX2 15 "FilmPlayer$Store" "askedRow" "[I", Cond.methodLink RX3 166 yX0_play, Cond.instanceMethod yX0_play, Cond.selects RX0 yX0_play yX0_play, Cond.initialized RX0, Cond.code yX0_play cX0_play 2 none, Cond.fieldLink RX0 19 "FilmPlayer$Film" "beginTick" "I", Cond.fieldLink RX0 22 "FilmPlayer$Film" "turnTick" "I", Cond.methodLink RX0 36 yX0_canBegin, Cond.instanceMethod yX0_canBegin, Cond.selects RX0 yX0_canBegin yX0_canBegin, Cond.code yX0_canBegin cX0_canBegin 2 (some .boolean), Cond.fieldLink RX0 28 "FilmPlayer$Film" "store" "LFilmPlayer$Store;", Cond.methodLink RX0 44 yX2_holdsFrame, Cond.instanceMethod yX2_holdsFrame, Cond.selects RX2 yX2_holdsFrame yX2_holdsFrame, Cond.code yX2_holdsFrame cX2_holdsFrame 3 (some .boolean), Cond.methodLink RX0 40 yX0_giveTurn, Cond.instanceMethod yX0_giveTurn, Cond.selects RX0 yX0_giveTurn yX0_giveTurn, Cond.code yX0_giveTurn cX0_giveTurn 3 none, Cond.fieldLink RX0 15 "FilmPlayer$Film" "nextFrame" "I", Cond.fieldLink RX0 9 "FilmPlayer$Film" "fates" "[I", Cond.fieldLink RX0 25 "FilmPlayer$Film" "shownCount" "I"]
def wsL_does_r6 : List Cond := [Cond.static yX3_isFrame, Cond.code yX3_isFrame cX3_isFrame 1 (some .boolean), Cond.methodLink RX0 53 yX0_outcomeOf, Cond.instanceMethod yX0_outcomeOf, Cond.selects RX0 yX0_outcomeOf yX0_outcomeOf, Cond.code yX0_outcomeOf cX0_outcomeOf 5 (some .int), Cond.methodLink RX0 60 yX0_needBefore, Cond.static yX0_needBefore, Cond.code yX0_needBefore cX0_needBefore 2 (some .int), Cond.methodLink RX0 32 yX0_kind, Cond.static yX0_kind, Cond.code yX0_kind cX0_kind 1 (some .int), Cond.methodLink RX0 63 yX0_needBehind, Cond.static yX0_needBehind, Cond.code yX0_needBehind cX0_needBehind 1 (some .int), Cond.methodLink RX0 66 yX0_wasShown, Cond.instanceMethod yX0_wasShown, Cond.selects RX0 yX0_wasShown yX0_wasShown, Cond.code yX0_wasShown cX0_wasShown 2 (some .boolean), Cond.methodLink RX0 69 yX0_isWholeIfAny, Cond.instanceMethod yX0_isWholeIfAny, Cond.selects RX0 yX0_isWholeIfAny yX0_isWholeIfAny, Cond.code yX0_isWholeIfAny cX0_isWholeIfAny 2 (some .boolean), Cond.methodLink RX0 56 yX0_pace]
def wsL_does_r7 : List Cond := [Cond.instanceMethod yX0_pace, Cond.selects RX0 yX0_pace yX0_pace, Cond.code yX0_pace cX0_pace 2 (some .int), Cond.methodLink RX0 72 yX0_wholeAhead, Cond.instanceMethod yX0_wholeAhead, Cond.selects RX0 yX0_wholeAhead yX0_wholeAhead, Cond.code yX0_wholeAhead cX0_wholeAhead 3 (some .int), Cond.methodLink RL 37 yX3_has, Cond.instanceMethod yX3_has, Cond.selects RX3 yX3_has yX3_has, Cond.code yX3_has cX3_has 2 (some .boolean), Cond.methodLink RX3 99 yX2_holds, Cond.methodLink RL 41 yX3_askedAt, Cond.instanceMethod yX3_askedAt, Cond.selects RX3 yX3_askedAt yX3_askedAt, Cond.code yX3_askedAt cX3_askedAt 2 (some .int), Cond.methodLink RL 44 yX3_kindOf, Cond.instanceMethod yX3_kindOf, Cond.selects RX3 yX3_kindOf yX3_kindOf, Cond.code yX3_kindOf cX3_kindOf 2 (some .int), Cond.methodLink RX3 111 yX3_isFrame, Cond.methodLink RX3 116 yX0_kind, Cond.methodLink RL 47 yX3_need, Cond.instanceMethod yX3_need]
def wsL_does_r8 : List Cond := [Cond.selects RX3 yX3_need yX3_need, Cond.code yX3_need cX3_need 3 (some .int), Cond.methodLink RX3 120 yX0_needBehind, Cond.methodLink RX3 123 yX0_needBefore, Cond.methodLink RL 51 yX3_isWhole, Cond.instanceMethod yX3_isWhole, Cond.selects RX3 yX3_isWhole yX3_isWhole, Cond.code yX3_isWhole cX3_isWhole 2 (some .boolean), Cond.methodLink RX3 126 yX2_holdsFrame, Cond.methodLink RL 54 yX3_fate, Cond.instanceMethod yX3_fate, Cond.selects RX3 yX3_fate yX3_fate, Cond.code yX3_fate cX3_fate 2 (some .int)]
def wsL_does : List Cond := .code yL_does cL_does 6 (some .int) :: ((wsL_does_r1 ++ (wsL_does_r2 ++ (wsL_does_r3 ++ (wsL_does_r4 ++ (wsL_does_r5 ++ (wsL_does_r6 ++ (wsL_does_r7 ++ wsL_does_r8))))))) ++ wsX30 ++ wsX10 ++ wsX00 ++ wsX20 ++ (vx_atS RX3 40 "java/lang/IllegalArgumentException" ["java/lang/RuntimeException", "java/lang/Exception"]).filter goodWord ++ (vx_atS RX3 64 "java/lang/IndexOutOfBoundsException" ["java/lang/RuntimeException", "java/lang/Exception"]).filter goodWord ++ (vx_atS RX3 84 "java/lang/IllegalStateException" ["java/lang/RuntimeException", "java/lang/Exception"]).filter goodWord)
def wsL_call_r1 : List Cond := [Cond.classLink RL 14 "java/lang/IndexOutOfBoundsException", Cond.classLink RL 16 "java/lang/IllegalArgumentException", Cond.classLink RL 18 "java/lang/IllegalStateException", Cond.methodLink RL 8 yL_does, Cond.static yL_does, Cond.initialized RL, Cond.code yL_does cL_does 6 (some .int), Cond.methodLink RL 20 yX3_set, Cond.instanceMethod yX3_set, Cond.selects RX3 yX3_set yX3_set, Cond.initialized RX3, Cond.code yX3_set cX3_set 5 none, Cond.classLink RX3 36 "java/lang/IllegalArgumentException", Cond.initialized "java/lang/IllegalArgumentException", Cond.fieldLink RX3 12 "FilmPlayer" "ring" "LFilmPlayer$Ring;", Cond.methodLink RX3 32 yX3_isFromOneTo, Cond.static yX3_isFromOneTo, Cond.code yX3_isFromOneTo cX3_isFromOneTo 2 (some .boolean), Cond.methodLink RL 26 yX3_arrive, Cond.instanceMethod yX3_arrive, Cond.selects RX3 yX3_arrive yX3_arrive, Cond.code yX3_arrive cX3_arrive 2 (some .int), Cond.classLink RX3 60 "java/lang/IndexOutOfBoundsException", Cond.initialized "java/lang/IndexOutOfBoundsException"]
def wsL_call_r2 : List Cond := [Cond.fieldLink RX3 65 "FilmPlayer" "now" "I", Cond.methodLink RX3 56 yX3_isPacket, Cond.static yX3_isPacket, Cond.code yX3_isPacket cX3_isPacket 1 (some .boolean), Cond.methodLink RX3 68 yX1_put, Cond.instanceMethod yX1_put, Cond.selects RX1 yX1_put yX1_put, Cond.initialized RX1, Cond.code yX1_put cX1_put 3 (some .boolean), Cond.fieldLink RX1 18 "FilmPlayer$Ring" "count" "I", Cond.fieldLink RX1 22 "FilmPlayer$Ring" "size" "I", Cond.fieldLink RX1 38 "FilmPlayer$Ring" "lostCount" "I", Cond.fieldLink RX1 9 "FilmPlayer$Ring" "packets" "[I", Cond.fieldLink RX1 15 "FilmPlayer$Ring" "arrivals" "[I", Cond.methodLink RL 30 yX3_arriveRow, Cond.instanceMethod yX3_arriveRow, Cond.selects RX3 yX3_arriveRow yX3_arriveRow, Cond.code yX3_arriveRow cX3_arriveRow 5 (some .int), Cond.methodLink RL 34 yX3_advance, Cond.instanceMethod yX3_advance, Cond.selects RX3 yX3_advance yX3_advance, Cond.code yX3_advance cX3_advance 3 (some .int), Cond.classLink RX3 80 "java/lang/IllegalStateException", Cond.initialized "java/lang/IllegalStateException"]
def wsL_call_r3 : List Cond := [Cond.methodLink RX3 85 yX3_passTick, Cond.instanceMethod yX3_passTick, Cond.selects RX3 yX3_passTick yX3_passTick, Cond.code yX3_passTick cX3_passTick 3 none, Cond.fieldLink RX3 19 "FilmPlayer" "store" "LFilmPlayer$Store;", Cond.fieldLink RX3 28 "FilmPlayer" "film" "LFilmPlayer$Film;", Cond.methodLink RX3 150 yX1_chooseMany, Cond.instanceMethod yX1_chooseMany, Cond.selects RX1 yX1_chooseMany yX1_chooseMany, Cond.code yX1_chooseMany cX1_chooseMany 3 (some .int), Cond.fieldLink RX1 34 "FilmPlayer$Ring" "polling" "Z", Cond.methodLink RX1 41 Lib.Math.min.name, Cond.static Lib.Math.min.name, Cond.initialized "java/lang/Math", Cond.code Lib.Math.min.name Lib.Math.min.code 2 (some .int), Cond.fieldLink RX1 31 "FilmPlayer$Ring" "load" "I", Cond.methodLink RX1 47 yX1_isInterruptDue, Cond.instanceMethod yX1_isInterruptDue, Cond.selects RX1 yX1_isInterruptDue yX1_isInterruptDue, Cond.code yX1_isInterruptDue cX1_isInterruptDue 2 (some .boolean), Cond.fieldLink RX1 25 "FilmPlayer$Ring" "join" "I", Cond.fieldLink RX1 28 "FilmPlayer$Ring" "patience" "I", Cond.methodLink RX3 153 yX1_packetAt, Cond.instanceMethod yX1_packetAt]
def wsL_call_r4 : List Cond := [Cond.selects RX1 yX1_packetAt yX1_packetAt, Cond.code yX1_packetAt cX1_packetAt 2 (some .int), Cond.methodLink RX3 156 yX2_add, Cond.instanceMethod yX2_add, Cond.selects RX2 yX2_add yX2_add, Cond.initialized RX2, Cond.code yX2_add cX2_add 2 none, Cond.fieldLink RX2 9 "FilmPlayer$Store" "had" "[Z", Cond.fieldLink RX2 23 "FilmPlayer$Store" "highest" "I", Cond.methodLink RX2 33 Lib.Math.max.name, Cond.static Lib.Math.max.name, Cond.code Lib.Math.max.name Lib.Math.max.code 2 (some .int), Cond.methodLink RX3 160 yX1_removeFirst, Cond.instanceMethod yX1_removeFirst, Cond.selects RX1 yX1_removeFirst yX1_removeFirst, Cond.code yX1_removeFirst cX1_removeFirst 5 none, Cond.methodLink RX1 51 Lib.Math.max.name, Cond.methodLink RX3 163 yX2_askForMissing, Cond.instanceMethod yX2_askForMissing, Cond.selects RX2 yX2_askForMissing yX2_askForMissing, Cond.code yX2_askForMissing cX2_askForMissing 3 none, Cond.fieldLink RX2 26 "FilmPlayer$Store" "lookedUpTo" "I", Cond.methodLink RX2 39 yX2_holds, Cond.instanceMethod yX2_holds]
def wsL_call_r5 : List Cond := [Cond.selects RX2 yX2_holds yX2_holds, Cond.code yX2_holds cX2_holds 2 (some .boolean), Cond.methodLink RX2 42 yX2_ask, Cond.instanceMethod yX2_ask, Cond.selects RX2 yX2_ask yX2_ask, Cond.code yX2_ask cX2_ask 2 none, Cond.fieldLink RX2 19 "FilmPlayer$Store" "askedCount" "I", Cond.fieldLink RX2 15 "FilmPlayer$Store" "askedRow" "[I", Cond.methodLink RX3 166 yX0_play, Cond.instanceMethod yX0_play, Cond.selects RX0 yX0_play yX0_play, Cond.initialized RX0, Cond.code yX0_play cX0_play 2 none, Cond.fieldLink RX0 19 "FilmPlayer$Film" "beginTick" "I", Cond.fieldLink RX0 22 "FilmPlayer$Film" "turnTick" "I", Cond.methodLink RX0 36 yX0_canBegin, Cond.instanceMethod yX0_canBegin, Cond.selects RX0 yX0_canBegin yX0_canBegin, Cond.code yX0_canBegin cX0_canBegin 2 (some .boolean), Cond.fieldLink RX0 28 "FilmPlayer$Film" "store" "LFilmPlayer$Store;", Cond.methodLink RX0 44 yX2_holdsFrame, Cond.instanceMethod yX2_holdsFrame, Cond.selects RX2 yX2_holdsFrame yX2_holdsFrame, Cond.code yX2_holdsFrame cX2_holdsFrame 3 (some .boolean)]
def wsL_call_r6 : List Cond := [Cond.methodLink RX0 40 yX0_giveTurn, Cond.instanceMethod yX0_giveTurn, Cond.selects RX0 yX0_giveTurn yX0_giveTurn, Cond.code yX0_giveTurn cX0_giveTurn 3 none, Cond.fieldLink RX0 15 "FilmPlayer$Film" "nextFrame" "I", Cond.fieldLink RX0 9 "FilmPlayer$Film" "fates" "[I", Cond.fieldLink RX0 25 "FilmPlayer$Film" "shownCount" "I", Cond.static yX3_isFrame, Cond.code yX3_isFrame cX3_isFrame 1 (some .boolean), Cond.methodLink RX0 53 yX0_outcomeOf, Cond.instanceMethod yX0_outcomeOf, Cond.selects RX0 yX0_outcomeOf yX0_outcomeOf, Cond.code yX0_outcomeOf cX0_outcomeOf 5 (some .int), Cond.methodLink RX0 60 yX0_needBefore, Cond.static yX0_needBefore, Cond.code yX0_needBefore cX0_needBefore 2 (some .int), Cond.methodLink RX0 32 yX0_kind, Cond.static yX0_kind, Cond.code yX0_kind cX0_kind 1 (some .int), Cond.methodLink RX0 63 yX0_needBehind, Cond.static yX0_needBehind, Cond.code yX0_needBehind cX0_needBehind 1 (some .int), Cond.methodLink RX0 66 yX0_wasShown, Cond.instanceMethod yX0_wasShown]
def wsL_call_r7 : List Cond := [Cond.selects RX0 yX0_wasShown yX0_wasShown, Cond.code yX0_wasShown cX0_wasShown 2 (some .boolean), Cond.methodLink RX0 69 yX0_isWholeIfAny, Cond.instanceMethod yX0_isWholeIfAny, Cond.selects RX0 yX0_isWholeIfAny yX0_isWholeIfAny, Cond.code yX0_isWholeIfAny cX0_isWholeIfAny 2 (some .boolean), Cond.methodLink RX0 56 yX0_pace, Cond.instanceMethod yX0_pace, Cond.selects RX0 yX0_pace yX0_pace, Cond.code yX0_pace cX0_pace 2 (some .int), Cond.methodLink RX0 72 yX0_wholeAhead, Cond.instanceMethod yX0_wholeAhead, Cond.selects RX0 yX0_wholeAhead yX0_wholeAhead, Cond.code yX0_wholeAhead cX0_wholeAhead 3 (some .int), Cond.methodLink RL 37 yX3_has, Cond.instanceMethod yX3_has, Cond.selects RX3 yX3_has yX3_has, Cond.code yX3_has cX3_has 2 (some .boolean), Cond.methodLink RX3 99 yX2_holds, Cond.methodLink RL 41 yX3_askedAt, Cond.instanceMethod yX3_askedAt, Cond.selects RX3 yX3_askedAt yX3_askedAt, Cond.code yX3_askedAt cX3_askedAt 2 (some .int), Cond.methodLink RL 44 yX3_kindOf]
def wsL_call_r8 : List Cond := [Cond.instanceMethod yX3_kindOf, Cond.selects RX3 yX3_kindOf yX3_kindOf, Cond.code yX3_kindOf cX3_kindOf 2 (some .int), Cond.methodLink RX3 111 yX3_isFrame, Cond.methodLink RX3 116 yX0_kind, Cond.methodLink RL 47 yX3_need, Cond.instanceMethod yX3_need, Cond.selects RX3 yX3_need yX3_need, Cond.code yX3_need cX3_need 3 (some .int), Cond.methodLink RX3 120 yX0_needBehind, Cond.methodLink RX3 123 yX0_needBefore, Cond.methodLink RL 51 yX3_isWhole, Cond.instanceMethod yX3_isWhole, Cond.selects RX3 yX3_isWhole yX3_isWhole, Cond.code yX3_isWhole cX3_isWhole 2 (some .boolean), Cond.methodLink RX3 126 yX2_holdsFrame, Cond.methodLink RL 54 yX3_fate, Cond.instanceMethod yX3_fate, Cond.selects RX3 yX3_fate yX3_fate, Cond.code yX3_fate cX3_fate 2 (some .int)]
def wsL_call : List Cond := .codeWith yL_call cL_call 7 (some .int) [(0, 11, 12, 14), (0, 11, 17, 16), (0, 11, 22, 18)] :: ((wsL_call_r1 ++ (wsL_call_r2 ++ (wsL_call_r3 ++ (wsL_call_r4 ++ (wsL_call_r5 ++ (wsL_call_r6 ++ (wsL_call_r7 ++ wsL_call_r8))))))) ++ wsX30 ++ wsX10 ++ wsX00 ++ wsX20 ++ (vx_atS RX3 40 "java/lang/IllegalArgumentException" ["java/lang/RuntimeException", "java/lang/Exception"]).filter goodWord ++ (vx_atS RX3 64 "java/lang/IndexOutOfBoundsException" ["java/lang/RuntimeException", "java/lang/Exception"]).filter goodWord ++ (vx_atS RX3 84 "java/lang/IllegalStateException" ["java/lang/RuntimeException", "java/lang/Exception"]).filter goodWord)
def wsL_all_r1 : List Cond := [Cond.constantLong RL 61 (41), Cond.constantLong RL 66 (10007), Cond.constantLong RL 71 (3), Cond.constantLong RL 77 (301), Cond.constantLong RL 82 (103), Cond.constantLong RL 87 (20011), Cond.constantLong RL 92 (101), Cond.constantLong RL 103 (40009), Cond.constantLong RL 108 (2), Cond.constantLong RL 110 (5), Cond.methodLink RL 57 yX3_tick, Cond.instanceMethod yX3_tick, Cond.selects RX3 yX3_tick yX3_tick, Cond.initialized RX3, Cond.code yX3_tick cX3_tick 1 (some .int), Cond.fieldLink RX3 65 "FilmPlayer" "now" "I", Cond.methodLink RL 63 yX3_waiting, Cond.instanceMethod yX3_waiting, Cond.selects RX3 yX3_waiting yX3_waiting, Cond.code yX3_waiting cX3_waiting 1 (some .int), Cond.fieldLink RX3 12 "FilmPlayer" "ring" "LFilmPlayer$Ring;", Cond.methodLink RL 68 yX3_lost, Cond.instanceMethod yX3_lost, Cond.selects RX3 yX3_lost yX3_lost]
def wsL_all_r2 : List Cond := [Cond.code yX3_lost cX3_lost 1 (some .int), Cond.methodLink RL 73 yX3_isPolled, Cond.instanceMethod yX3_isPolled, Cond.selects RX3 yX3_isPolled yX3_isPolled, Cond.code yX3_isPolled cX3_isPolled 1 (some .boolean), Cond.methodLink RL 79 yX3_asked, Cond.instanceMethod yX3_asked, Cond.selects RX3 yX3_asked yX3_asked, Cond.code yX3_asked cX3_asked 1 (some .int), Cond.fieldLink RX3 19 "FilmPlayer" "store" "LFilmPlayer$Store;", Cond.methodLink RL 84 yX3_next, Cond.instanceMethod yX3_next, Cond.selects RX3 yX3_next yX3_next, Cond.code yX3_next cX3_next 1 (some .int), Cond.fieldLink RX3 28 "FilmPlayer" "film" "LFilmPlayer$Film;", Cond.methodLink RL 89 yX3_turn, Cond.instanceMethod yX3_turn, Cond.selects RX3 yX3_turn yX3_turn, Cond.code yX3_turn cX3_turn 1 (some .int), Cond.methodLink RL 94 yX3_fill, Cond.instanceMethod yX3_fill, Cond.selects RX3 yX3_fill yX3_fill, Cond.code yX3_fill cX3_fill 1 (some .int), Cond.methodLink RX3 138 yX0_wholeAhead]
def wsL_all_r3 : List Cond := [Cond.instanceMethod yX0_wholeAhead, Cond.selects RX0 yX0_wholeAhead yX0_wholeAhead, Cond.initialized RX0, Cond.code yX0_wholeAhead cX0_wholeAhead 3 (some .int), Cond.fieldLink RX0 15 "FilmPlayer$Film" "nextFrame" "I", Cond.fieldLink RX0 28 "FilmPlayer$Film" "store" "LFilmPlayer$Store;", Cond.methodLink RX0 44 yX2_holdsFrame, Cond.instanceMethod yX2_holdsFrame, Cond.selects RX2 yX2_holdsFrame yX2_holdsFrame, Cond.initialized RX2, Cond.code yX2_holdsFrame cX2_holdsFrame 3 (some .boolean), Cond.fieldLink RX2 9 "FilmPlayer$Store" "had" "[Z", Cond.methodLink RL 97 yX3_shown, Cond.instanceMethod yX3_shown, Cond.selects RX3 yX3_shown yX3_shown, Cond.code yX3_shown cX3_shown 1 (some .int), Cond.methodLink RL 100 yX3_couldBe, Cond.instanceMethod yX3_couldBe, Cond.selects RX3 yX3_couldBe yX3_couldBe, Cond.code yX3_couldBe cX3_couldBe 1 (some .int), Cond.methodLink RX3 144 yX0_countShowable, Cond.instanceMethod yX0_countShowable, Cond.selects RX0 yX0_countShowable yX0_countShowable, Cond.code yX0_countShowable cX0_countShowable 3 (some .int)]
def wsL_all_r4 : List Cond := [Cond.methodLink RX0 60 yX0_needBefore, Cond.static yX0_needBefore, Cond.code yX0_needBefore cX0_needBefore 2 (some .int), Cond.methodLink RX0 32 yX0_kind, Cond.static yX0_kind, Cond.code yX0_kind cX0_kind 1 (some .int), Cond.methodLink RX0 75 yX0_isAnchorShowable, Cond.instanceMethod yX0_isAnchorShowable, Cond.selects RX0 yX0_isAnchorShowable yX0_isAnchorShowable, Cond.code yX0_isAnchorShowable cX0_isAnchorShowable 2 (some .boolean), Cond.methodLink RX0 69 yX0_isWholeIfAny, Cond.instanceMethod yX0_isWholeIfAny, Cond.selects RX0 yX0_isWholeIfAny yX0_isWholeIfAny, Cond.code yX0_isWholeIfAny cX0_isWholeIfAny 2 (some .boolean), Cond.methodLink RX0 63 yX0_needBehind, Cond.static yX0_needBehind, Cond.code yX0_needBehind cX0_needBehind 1 (some .int), Cond.methodLink RL 105 yX3_gap, Cond.instanceMethod yX3_gap, Cond.selects RX3 yX3_gap yX3_gap, Cond.code yX3_gap cX3_gap 1 (some .int), Cond.methodLink RX3 147 yX0_delay, Cond.instanceMethod yX0_delay, Cond.selects RX0 yX0_delay yX0_delay]
def wsL_all_r5 : List Cond := [Cond.code yX0_delay cX0_delay 1 (some .int), Cond.fieldLink RX0 22 "FilmPlayer$Film" "turnTick" "I", Cond.fieldLink RX0 19 "FilmPlayer$Film" "beginTick" "I", Cond.methodLink RL 37 yX3_has, Cond.instanceMethod yX3_has, Cond.selects RX3 yX3_has yX3_has, Cond.code yX3_has cX3_has 2 (some .boolean), Cond.classLink RX3 60 "java/lang/IndexOutOfBoundsException", Cond.initialized "java/lang/IndexOutOfBoundsException", Cond.methodLink RX3 56 yX3_isPacket, Cond.static yX3_isPacket, Cond.code yX3_isPacket cX3_isPacket 1 (some .boolean), Cond.methodLink RX3 99 yX2_holds, Cond.instanceMethod yX2_holds, Cond.selects RX2 yX2_holds yX2_holds, Cond.code yX2_holds cX2_holds 2 (some .boolean), Cond.methodLink RL 54 yX3_fate, Cond.instanceMethod yX3_fate, Cond.selects RX3 yX3_fate yX3_fate, Cond.code yX3_fate cX3_fate 2 (some .int), Cond.methodLink RX3 111 yX3_isFrame, Cond.static yX3_isFrame, Cond.code yX3_isFrame cX3_isFrame 1 (some .boolean)]
def wsL_all : List Cond := .code yL_all cL_all 4 (some .long) :: ((wsL_all_r1 ++ (wsL_all_r2 ++ (wsL_all_r3 ++ (wsL_all_r4 ++ wsL_all_r5)))) ++ wsX30 ++ wsX10 ++ wsX20 ++ wsX00 ++ (vx_atS RX3 64 "java/lang/IndexOutOfBoundsException" ["java/lang/RuntimeException", "java/lang/Exception"]).filter goodWord)
def wsL_refused_r1 : List Cond := [Cond.methodLink RL 112 yL_all, Cond.static yL_all, Cond.initialized RL, Cond.code yL_all cL_all 4 (some .long), Cond.constantLong RL 61 (41), Cond.constantLong RL 66 (10007), Cond.constantLong RL 71 (3), Cond.constantLong RL 77 (301), Cond.constantLong RL 82 (103), Cond.constantLong RL 87 (20011), Cond.constantLong RL 92 (101), Cond.constantLong RL 103 (40009), Cond.constantLong RL 108 (2), Cond.constantLong RL 110 (5), Cond.methodLink RL 57 yX3_tick, Cond.instanceMethod yX3_tick, Cond.selects RX3 yX3_tick yX3_tick, Cond.initialized RX3, Cond.code yX3_tick cX3_tick 1 (some .int), Cond.fieldLink RX3 65 "FilmPlayer" "now" "I", Cond.methodLink RL 63 yX3_waiting, Cond.instanceMethod yX3_waiting, Cond.selects RX3 yX3_waiting yX3_waiting, Cond.code yX3_waiting cX3_waiting 1 (some .int)]
def wsL_refused_r2 : List Cond := [Cond.fieldLink RX3 12 "FilmPlayer" "ring" "LFilmPlayer$Ring;", Cond.methodLink RL 68 yX3_lost, Cond.instanceMethod yX3_lost, Cond.selects RX3 yX3_lost yX3_lost, Cond.code yX3_lost cX3_lost 1 (some .int), Cond.methodLink RL 73 yX3_isPolled, Cond.instanceMethod yX3_isPolled, Cond.selects RX3 yX3_isPolled yX3_isPolled, Cond.code yX3_isPolled cX3_isPolled 1 (some .boolean), Cond.methodLink RL 79 yX3_asked, Cond.instanceMethod yX3_asked, Cond.selects RX3 yX3_asked yX3_asked, Cond.code yX3_asked cX3_asked 1 (some .int), Cond.fieldLink RX3 19 "FilmPlayer" "store" "LFilmPlayer$Store;", Cond.methodLink RL 84 yX3_next, Cond.instanceMethod yX3_next, Cond.selects RX3 yX3_next yX3_next, Cond.code yX3_next cX3_next 1 (some .int), Cond.fieldLink RX3 28 "FilmPlayer" "film" "LFilmPlayer$Film;", Cond.methodLink RL 89 yX3_turn, Cond.instanceMethod yX3_turn, Cond.selects RX3 yX3_turn yX3_turn, Cond.code yX3_turn cX3_turn 1 (some .int), Cond.methodLink RL 94 yX3_fill]
def wsL_refused_r3 : List Cond := [Cond.instanceMethod yX3_fill, Cond.selects RX3 yX3_fill yX3_fill, Cond.code yX3_fill cX3_fill 1 (some .int), Cond.methodLink RX3 138 yX0_wholeAhead, Cond.instanceMethod yX0_wholeAhead, Cond.selects RX0 yX0_wholeAhead yX0_wholeAhead, Cond.initialized RX0, Cond.code yX0_wholeAhead cX0_wholeAhead 3 (some .int), Cond.fieldLink RX0 15 "FilmPlayer$Film" "nextFrame" "I", Cond.fieldLink RX0 28 "FilmPlayer$Film" "store" "LFilmPlayer$Store;", Cond.methodLink RX0 44 yX2_holdsFrame, Cond.instanceMethod yX2_holdsFrame, Cond.selects RX2 yX2_holdsFrame yX2_holdsFrame, Cond.initialized RX2, Cond.code yX2_holdsFrame cX2_holdsFrame 3 (some .boolean), Cond.fieldLink RX2 9 "FilmPlayer$Store" "had" "[Z", Cond.methodLink RL 97 yX3_shown, Cond.instanceMethod yX3_shown, Cond.selects RX3 yX3_shown yX3_shown, Cond.code yX3_shown cX3_shown 1 (some .int), Cond.methodLink RL 100 yX3_couldBe, Cond.instanceMethod yX3_couldBe, Cond.selects RX3 yX3_couldBe yX3_couldBe, Cond.code yX3_couldBe cX3_couldBe 1 (some .int)]
def wsL_refused_r4 : List Cond := [Cond.methodLink RX3 144 yX0_countShowable, Cond.instanceMethod yX0_countShowable, Cond.selects RX0 yX0_countShowable yX0_countShowable, Cond.code yX0_countShowable cX0_countShowable 3 (some .int), Cond.methodLink RX0 60 yX0_needBefore, Cond.static yX0_needBefore, Cond.code yX0_needBefore cX0_needBefore 2 (some .int), Cond.methodLink RX0 32 yX0_kind, Cond.static yX0_kind, Cond.code yX0_kind cX0_kind 1 (some .int), Cond.methodLink RX0 75 yX0_isAnchorShowable, Cond.instanceMethod yX0_isAnchorShowable, Cond.selects RX0 yX0_isAnchorShowable yX0_isAnchorShowable, Cond.code yX0_isAnchorShowable cX0_isAnchorShowable 2 (some .boolean), Cond.methodLink RX0 69 yX0_isWholeIfAny, Cond.instanceMethod yX0_isWholeIfAny, Cond.selects RX0 yX0_isWholeIfAny yX0_isWholeIfAny, Cond.code yX0_isWholeIfAny cX0_isWholeIfAny 2 (some .boolean), Cond.methodLink RX0 63 yX0_needBehind, Cond.static yX0_needBehind, Cond.code yX0_needBehind cX0_needBehind 1 (some .int), Cond.methodLink RL 105 yX3_gap, Cond.instanceMethod yX3_gap, Cond.selects RX3 yX3_gap yX3_gap]
def wsL_refused_r5 : List Cond := [Cond.code yX3_gap cX3_gap 1 (some .int), Cond.methodLink RX3 147 yX0_delay, Cond.instanceMethod yX0_delay, Cond.selects RX0 yX0_delay yX0_delay, Cond.code yX0_delay cX0_delay 1 (some .int), Cond.fieldLink RX0 22 "FilmPlayer$Film" "turnTick" "I", Cond.fieldLink RX0 19 "FilmPlayer$Film" "beginTick" "I", Cond.methodLink RL 37 yX3_has, Cond.instanceMethod yX3_has, Cond.selects RX3 yX3_has yX3_has, Cond.code yX3_has cX3_has 2 (some .boolean), Cond.classLink RX3 60 "java/lang/IndexOutOfBoundsException", Cond.initialized "java/lang/IndexOutOfBoundsException", Cond.methodLink RX3 56 yX3_isPacket, Cond.static yX3_isPacket, Cond.code yX3_isPacket cX3_isPacket 1 (some .boolean), Cond.methodLink RX3 99 yX2_holds, Cond.instanceMethod yX2_holds, Cond.selects RX2 yX2_holds yX2_holds, Cond.code yX2_holds cX2_holds 2 (some .boolean), Cond.methodLink RL 54 yX3_fate, Cond.instanceMethod yX3_fate, Cond.selects RX3 yX3_fate yX3_fate, Cond.code yX3_fate cX3_fate 2 (some .int)]
def wsL_refused_r6 : List Cond := [Cond.methodLink RX3 111 yX3_isFrame, Cond.static yX3_isFrame, Cond.code yX3_isFrame cX3_isFrame 1 (some .boolean), Cond.methodLink RL 116 yL_call, Cond.static yL_call, Cond.codeWith yL_call cL_call 7 (some .int) [(0, 11, 12, 14), (0, 11, 17, 16), (0, 11, 22, 18)], Cond.classLink RL 14 "java/lang/IndexOutOfBoundsException", Cond.classLink RL 16 "java/lang/IllegalArgumentException", Cond.classLink RL 18 "java/lang/IllegalStateException", Cond.methodLink RL 8 yL_does, Cond.static yL_does, Cond.code yL_does cL_does 6 (some .int), Cond.methodLink RL 20 yX3_set, Cond.instanceMethod yX3_set, Cond.selects RX3 yX3_set yX3_set, Cond.code yX3_set cX3_set 5 none, Cond.classLink RX3 36 "java/lang/IllegalArgumentException", Cond.initialized "java/lang/IllegalArgumentException", Cond.methodLink RX3 32 yX3_isFromOneTo, Cond.static yX3_isFromOneTo, Cond.code yX3_isFromOneTo cX3_isFromOneTo 2 (some .boolean), Cond.methodLink RL 26 yX3_arrive, Cond.instanceMethod yX3_arrive, Cond.selects RX3 yX3_arrive yX3_arrive]
def wsL_refused_r7 : List Cond := [Cond.code yX3_arrive cX3_arrive 2 (some .int), Cond.methodLink RX3 68 yX1_put, Cond.instanceMethod yX1_put, Cond.selects RX1 yX1_put yX1_put, Cond.initialized RX1, Cond.code yX1_put cX1_put 3 (some .boolean), Cond.fieldLink RX1 18 "FilmPlayer$Ring" "count" "I", Cond.fieldLink RX1 22 "FilmPlayer$Ring" "size" "I", Cond.fieldLink RX1 38 "FilmPlayer$Ring" "lostCount" "I", Cond.fieldLink RX1 9 "FilmPlayer$Ring" "packets" "[I", Cond.fieldLink RX1 15 "FilmPlayer$Ring" "arrivals" "[I", Cond.methodLink RL 30 yX3_arriveRow, Cond.instanceMethod yX3_arriveRow, Cond.selects RX3 yX3_arriveRow yX3_arriveRow, Cond.code yX3_arriveRow cX3_arriveRow 5 (some .int), Cond.methodLink RL 34 yX3_advance, Cond.instanceMethod yX3_advance, Cond.selects RX3 yX3_advance yX3_advance, Cond.code yX3_advance cX3_advance 3 (some .int), Cond.classLink RX3 80 "java/lang/IllegalStateException", Cond.initialized "java/lang/IllegalStateException", Cond.methodLink RX3 85 yX3_passTick, Cond.instanceMethod yX3_passTick, Cond.selects RX3 yX3_passTick yX3_passTick]
def wsL_refused_r8 : List Cond := [Cond.code yX3_passTick cX3_passTick 3 none, Cond.methodLink RX3 150 yX1_chooseMany, Cond.instanceMethod yX1_chooseMany, Cond.selects RX1 yX1_chooseMany yX1_chooseMany, Cond.code yX1_chooseMany cX1_chooseMany 3 (some .int), Cond.fieldLink RX1 34 "FilmPlayer$Ring" "polling" "Z", Cond.methodLink RX1 41 Lib.Math.min.name, Cond.static Lib.Math.min.name, Cond.initialized "java/lang/Math", Cond.code Lib.Math.min.name Lib.Math.min.code 2 (some .int), Cond.fieldLink RX1 31 "FilmPlayer$Ring" "load" "I", Cond.methodLink RX1 47 yX1_isInterruptDue, Cond.instanceMethod yX1_isInterruptDue, Cond.selects RX1 yX1_isInterruptDue yX1_isInterruptDue, Cond.code yX1_isInterruptDue cX1_isInterruptDue 2 (some .boolean), Cond.fieldLink RX1 25 "FilmPlayer$Ring" "join" "I", Cond.fieldLink RX1 28 "FilmPlayer$Ring" "patience" "I", Cond.methodLink RX3 153 yX1_packetAt, Cond.instanceMethod yX1_packetAt, Cond.selects RX1 yX1_packetAt yX1_packetAt, Cond.code yX1_packetAt cX1_packetAt 2 (some .int), Cond.methodLink RX3 156 yX2_add, Cond.instanceMethod yX2_add, Cond.selects RX2 yX2_add yX2_add]
def wsL_refused_r9 : List Cond := [Cond.code yX2_add cX2_add 2 none, Cond.fieldLink RX2 23 "FilmPlayer$Store" "highest" "I", Cond.methodLink RX2 33 Lib.Math.max.name, Cond.static Lib.Math.max.name, Cond.code Lib.Math.max.name Lib.Math.max.code 2 (some .int), Cond.methodLink RX3 160 yX1_removeFirst, Cond.instanceMethod yX1_removeFirst, Cond.selects RX1 yX1_removeFirst yX1_removeFirst, Cond.code yX1_removeFirst cX1_removeFirst 5 none, Cond.methodLink RX1 51 Lib.Math.max.name, Cond.methodLink RX3 163 yX2_askForMissing, Cond.instanceMethod yX2_askForMissing, Cond.selects RX2 yX2_askForMissing yX2_askForMissing, Cond.code yX2_askForMissing cX2_askForMissing 3 none, Cond.fieldLink RX2 26 "FilmPlayer$Store" "lookedUpTo" "I", Cond.methodLink RX2 39 yX2_holds, Cond.methodLink RX2 42 yX2_ask, Cond.instanceMethod yX2_ask, Cond.selects RX2 yX2_ask yX2_ask, Cond.code yX2_ask cX2_ask 2 none, Cond.fieldLink RX2 19 "FilmPlayer$Store" "askedCount" "I", Cond.fieldLink RX2 15 "FilmPlayer$Store" "askedRow" "[I", Cond.methodLink RX3 166 yX0_play, Cond.instanceMethod yX0_play]
def wsL_refused_r10 : List Cond := [Cond.selects RX0 yX0_play yX0_play, Cond.code yX0_play cX0_play 2 none, Cond.methodLink RX0 36 yX0_canBegin, Cond.instanceMethod yX0_canBegin, Cond.selects RX0 yX0_canBegin yX0_canBegin, Cond.code yX0_canBegin cX0_canBegin 2 (some .boolean), Cond.methodLink RX0 40 yX0_giveTurn, Cond.instanceMethod yX0_giveTurn, Cond.selects RX0 yX0_giveTurn yX0_giveTurn, Cond.code yX0_giveTurn cX0_giveTurn 3 none, Cond.fieldLink RX0 9 "FilmPlayer$Film" "fates" "[I", Cond.fieldLink RX0 25 "FilmPlayer$Film" "shownCount" "I", Cond.methodLink RX0 53 yX0_outcomeOf, Cond.instanceMethod yX0_outcomeOf, Cond.selects RX0 yX0_outcomeOf yX0_outcomeOf, Cond.code yX0_outcomeOf cX0_outcomeOf 5 (some .int), Cond.methodLink RX0 66 yX0_wasShown, Cond.instanceMethod yX0_wasShown, Cond.selects RX0 yX0_wasShown yX0_wasShown, Cond.code yX0_wasShown cX0_wasShown 2 (some .boolean), Cond.methodLink RX0 56 yX0_pace, Cond.instanceMethod yX0_pace, Cond.selects RX0 yX0_pace yX0_pace, Cond.code yX0_pace cX0_pace 2 (some .int)]
def wsL_refused_r11 : List Cond := [Cond.methodLink RX0 72 yX0_wholeAhead, Cond.methodLink RL 41 yX3_askedAt, Cond.instanceMethod yX3_askedAt, Cond.selects RX3 yX3_askedAt yX3_askedAt, Cond.code yX3_askedAt cX3_askedAt 2 (some .int), Cond.methodLink RL 44 yX3_kindOf, Cond.instanceMethod yX3_kindOf, Cond.selects RX3 yX3_kindOf yX3_kindOf, Cond.code yX3_kindOf cX3_kindOf 2 (some .int), Cond.methodLink RX3 116 yX0_kind, Cond.methodLink RL 47 yX3_need, Cond.instanceMethod yX3_need, Cond.selects RX3 yX3_need yX3_need, Cond.code yX3_need cX3_need 3 (some .int), Cond.methodLink RX3 120 yX0_needBehind, Cond.methodLink RX3 123 yX0_needBefore, Cond.methodLink RL 51 yX3_isWhole, Cond.instanceMethod yX3_isWhole, Cond.selects RX3 yX3_isWhole yX3_isWhole, Cond.code yX3_isWhole cX3_isWhole 2 (some .boolean), Cond.methodLink RX3 126 yX2_holdsFrame]
def wsL_refused : List Cond := .code yL_refused cL_refused 3 (some .boolean) :: ((wsL_refused_r1 ++ (wsL_refused_r2 ++ (wsL_refused_r3 ++ (wsL_refused_r4 ++ (wsL_refused_r5 ++ (wsL_refused_r6 ++ (wsL_refused_r7 ++ (wsL_refused_r8 ++ (wsL_refused_r9 ++ (wsL_refused_r10 ++ wsL_refused_r11)))))))))) ++ wsX30 ++ wsX10 ++ wsX20 ++ wsX00 ++ (vx_atS RX3 64 "java/lang/IndexOutOfBoundsException" ["java/lang/RuntimeException", "java/lang/Exception"]).filter goodWord ++ (vx_atS RX3 40 "java/lang/IllegalArgumentException" ["java/lang/RuntimeException", "java/lang/Exception"]).filter goodWord ++ (vx_atS RX3 84 "java/lang/IllegalStateException" ["java/lang/RuntimeException", "java/lang/Exception"]).filter goodWord)
def wsL_comes_r1 : List Cond := [Cond.methodLink RL 63 yX3_waiting, Cond.instanceMethod yX3_waiting, Cond.selects RX3 yX3_waiting yX3_waiting, Cond.initialized RX3, Cond.code yX3_waiting cX3_waiting 1 (some .int), Cond.fieldLink RX3 12 "FilmPlayer" "ring" "LFilmPlayer$Ring;", Cond.methodLink RL 68 yX3_lost, Cond.instanceMethod yX3_lost, Cond.selects RX3 yX3_lost yX3_lost, Cond.code yX3_lost cX3_lost 1 (some .int), Cond.methodLink RL 84 yX3_next, Cond.instanceMethod yX3_next, Cond.selects RX3 yX3_next yX3_next, Cond.code yX3_next cX3_next 1 (some .int), Cond.fieldLink RX3 28 "FilmPlayer" "film" "LFilmPlayer$Film;", Cond.methodLink RL 119 yL_some, Cond.static yL_some, Cond.initialized RL, Cond.code yL_some cL_some 2 (some .int), Cond.methodLink RL 37 yX3_has, Cond.instanceMethod yX3_has, Cond.selects RX3 yX3_has yX3_has, Cond.code yX3_has cX3_has 2 (some .boolean), Cond.classLink RX3 60 "java/lang/IndexOutOfBoundsException"]
def wsL_comes_r2 : List Cond := [Cond.initialized "java/lang/IndexOutOfBoundsException", Cond.fieldLink RX3 19 "FilmPlayer" "store" "LFilmPlayer$Store;", Cond.methodLink RX3 56 yX3_isPacket, Cond.static yX3_isPacket, Cond.code yX3_isPacket cX3_isPacket 1 (some .boolean), Cond.methodLink RX3 99 yX2_holds, Cond.instanceMethod yX2_holds, Cond.selects RX2 yX2_holds yX2_holds, Cond.initialized RX2, Cond.code yX2_holds cX2_holds 2 (some .boolean), Cond.fieldLink RX2 9 "FilmPlayer$Store" "had" "[Z", Cond.methodLink RL 26 yX3_arrive, Cond.instanceMethod yX3_arrive, Cond.selects RX3 yX3_arrive yX3_arrive, Cond.code yX3_arrive cX3_arrive 2 (some .int), Cond.fieldLink RX3 65 "FilmPlayer" "now" "I", Cond.methodLink RX3 68 yX1_put, Cond.instanceMethod yX1_put, Cond.selects RX1 yX1_put yX1_put, Cond.initialized RX1, Cond.code yX1_put cX1_put 3 (some .boolean), Cond.fieldLink RX1 18 "FilmPlayer$Ring" "count" "I", Cond.fieldLink RX1 22 "FilmPlayer$Ring" "size" "I", Cond.fieldLink RX1 38 "FilmPlayer$Ring" "lostCount" "I"]
def wsL_comes_r3 : List Cond := [Cond.fieldLink RX1 9 "FilmPlayer$Ring" "packets" "[I", Cond.fieldLink RX1 15 "FilmPlayer$Ring" "arrivals" "[I", Cond.methodLink RL 116 yL_call, Cond.static yL_call, Cond.codeWith yL_call cL_call 7 (some .int) [(0, 11, 12, 14), (0, 11, 17, 16), (0, 11, 22, 18)], Cond.classLink RL 14 "java/lang/IndexOutOfBoundsException", Cond.classLink RL 16 "java/lang/IllegalArgumentException", Cond.classLink RL 18 "java/lang/IllegalStateException", Cond.methodLink RL 8 yL_does, Cond.static yL_does, Cond.code yL_does cL_does 6 (some .int), Cond.methodLink RL 20 yX3_set, Cond.instanceMethod yX3_set, Cond.selects RX3 yX3_set yX3_set, Cond.code yX3_set cX3_set 5 none, Cond.classLink RX3 36 "java/lang/IllegalArgumentException", Cond.initialized "java/lang/IllegalArgumentException", Cond.methodLink RX3 32 yX3_isFromOneTo, Cond.static yX3_isFromOneTo, Cond.code yX3_isFromOneTo cX3_isFromOneTo 2 (some .boolean), Cond.methodLink RL 30 yX3_arriveRow, Cond.instanceMethod yX3_arriveRow, Cond.selects RX3 yX3_arriveRow yX3_arriveRow, Cond.code yX3_arriveRow cX3_arriveRow 5 (some .int)]
def wsL_comes_r4 : List Cond := [Cond.methodLink RL 34 yX3_advance, Cond.instanceMethod yX3_advance, Cond.selects RX3 yX3_advance yX3_advance, Cond.code yX3_advance cX3_advance 3 (some .int), Cond.classLink RX3 80 "java/lang/IllegalStateException", Cond.initialized "java/lang/IllegalStateException", Cond.methodLink RX3 85 yX3_passTick, Cond.instanceMethod yX3_passTick, Cond.selects RX3 yX3_passTick yX3_passTick, Cond.code yX3_passTick cX3_passTick 3 none, Cond.methodLink RX3 150 yX1_chooseMany, Cond.instanceMethod yX1_chooseMany, Cond.selects RX1 yX1_chooseMany yX1_chooseMany, Cond.code yX1_chooseMany cX1_chooseMany 3 (some .int), Cond.fieldLink RX1 34 "FilmPlayer$Ring" "polling" "Z", Cond.methodLink RX1 41 Lib.Math.min.name, Cond.static Lib.Math.min.name, Cond.initialized "java/lang/Math", Cond.code Lib.Math.min.name Lib.Math.min.code 2 (some .int), Cond.fieldLink RX1 31 "FilmPlayer$Ring" "load" "I", Cond.methodLink RX1 47 yX1_isInterruptDue, Cond.instanceMethod yX1_isInterruptDue, Cond.selects RX1 yX1_isInterruptDue yX1_isInterruptDue, Cond.code yX1_isInterruptDue cX1_isInterruptDue 2 (some .boolean)]
def wsL_comes_r5 : List Cond := [Cond.fieldLink RX1 25 "FilmPlayer$Ring" "join" "I", Cond.fieldLink RX1 28 "FilmPlayer$Ring" "patience" "I", Cond.methodLink RX3 153 yX1_packetAt, Cond.instanceMethod yX1_packetAt, Cond.selects RX1 yX1_packetAt yX1_packetAt, Cond.code yX1_packetAt cX1_packetAt 2 (some .int), Cond.methodLink RX3 156 yX2_add, Cond.instanceMethod yX2_add, Cond.selects RX2 yX2_add yX2_add, Cond.code yX2_add cX2_add 2 none, Cond.fieldLink RX2 23 "FilmPlayer$Store" "highest" "I", Cond.methodLink RX2 33 Lib.Math.max.name, Cond.static Lib.Math.max.name, Cond.code Lib.Math.max.name Lib.Math.max.code 2 (some .int), Cond.methodLink RX3 160 yX1_removeFirst, Cond.instanceMethod yX1_removeFirst, Cond.selects RX1 yX1_removeFirst yX1_removeFirst, Cond.code yX1_removeFirst cX1_removeFirst 5 none, Cond.methodLink RX1 51 Lib.Math.max.name, Cond.methodLink RX3 163 yX2_askForMissing, Cond.instanceMethod yX2_askForMissing, Cond.selects RX2 yX2_askForMissing yX2_askForMissing, Cond.code yX2_askForMissing cX2_askForMissing 3 none, Cond.fieldLink RX2 26 "FilmPlayer$Store" "lookedUpTo" "I"]
def wsL_comes_r6 : List Cond := [Cond.methodLink RX2 39 yX2_holds, Cond.methodLink RX2 42 yX2_ask, Cond.instanceMethod yX2_ask, Cond.selects RX2 yX2_ask yX2_ask, Cond.code yX2_ask cX2_ask 2 none, Cond.fieldLink RX2 19 "FilmPlayer$Store" "askedCount" "I", Cond.fieldLink RX2 15 "FilmPlayer$Store" "askedRow" "[I", Cond.methodLink RX3 166 yX0_play, Cond.instanceMethod yX0_play, Cond.selects RX0 yX0_play yX0_play, Cond.initialized RX0, Cond.code yX0_play cX0_play 2 none, Cond.fieldLink RX0 19 "FilmPlayer$Film" "beginTick" "I", Cond.fieldLink RX0 22 "FilmPlayer$Film" "turnTick" "I", Cond.methodLink RX0 36 yX0_canBegin, Cond.instanceMethod yX0_canBegin, Cond.selects RX0 yX0_canBegin yX0_canBegin, Cond.code yX0_canBegin cX0_canBegin 2 (some .boolean), Cond.fieldLink RX0 28 "FilmPlayer$Film" "store" "LFilmPlayer$Store;", Cond.methodLink RX0 44 yX2_holdsFrame, Cond.instanceMethod yX2_holdsFrame, Cond.selects RX2 yX2_holdsFrame yX2_holdsFrame, Cond.code yX2_holdsFrame cX2_holdsFrame 3 (some .boolean), Cond.methodLink RX0 40 yX0_giveTurn]
def wsL_comes_r7 : List Cond := [Cond.instanceMethod yX0_giveTurn, Cond.selects RX0 yX0_giveTurn yX0_giveTurn, Cond.code yX0_giveTurn cX0_giveTurn 3 none, Cond.fieldLink RX0 15 "FilmPlayer$Film" "nextFrame" "I", Cond.fieldLink RX0 9 "FilmPlayer$Film" "fates" "[I", Cond.fieldLink RX0 25 "FilmPlayer$Film" "shownCount" "I", Cond.static yX3_isFrame, Cond.code yX3_isFrame cX3_isFrame 1 (some .boolean), Cond.methodLink RX0 53 yX0_outcomeOf, Cond.instanceMethod yX0_outcomeOf, Cond.selects RX0 yX0_outcomeOf yX0_outcomeOf, Cond.code yX0_outcomeOf cX0_outcomeOf 5 (some .int), Cond.methodLink RX0 60 yX0_needBefore, Cond.static yX0_needBefore, Cond.code yX0_needBefore cX0_needBefore 2 (some .int), Cond.methodLink RX0 32 yX0_kind, Cond.static yX0_kind, Cond.code yX0_kind cX0_kind 1 (some .int), Cond.methodLink RX0 63 yX0_needBehind, Cond.static yX0_needBehind, Cond.code yX0_needBehind cX0_needBehind 1 (some .int), Cond.methodLink RX0 66 yX0_wasShown, Cond.instanceMethod yX0_wasShown, Cond.selects RX0 yX0_wasShown yX0_wasShown]
def wsL_comes_r8 : List Cond := [Cond.code yX0_wasShown cX0_wasShown 2 (some .boolean), Cond.methodLink RX0 69 yX0_isWholeIfAny, Cond.instanceMethod yX0_isWholeIfAny, Cond.selects RX0 yX0_isWholeIfAny yX0_isWholeIfAny, Cond.code yX0_isWholeIfAny cX0_isWholeIfAny 2 (some .boolean), Cond.methodLink RX0 56 yX0_pace, Cond.instanceMethod yX0_pace, Cond.selects RX0 yX0_pace yX0_pace, Cond.code yX0_pace cX0_pace 2 (some .int), Cond.methodLink RX0 72 yX0_wholeAhead, Cond.instanceMethod yX0_wholeAhead, Cond.selects RX0 yX0_wholeAhead yX0_wholeAhead, Cond.code yX0_wholeAhead cX0_wholeAhead 3 (some .int), Cond.methodLink RL 41 yX3_askedAt, Cond.instanceMethod yX3_askedAt, Cond.selects RX3 yX3_askedAt yX3_askedAt, Cond.code yX3_askedAt cX3_askedAt 2 (some .int), Cond.methodLink RL 44 yX3_kindOf, Cond.instanceMethod yX3_kindOf, Cond.selects RX3 yX3_kindOf yX3_kindOf, Cond.code yX3_kindOf cX3_kindOf 2 (some .int), Cond.methodLink RX3 111 yX3_isFrame, Cond.methodLink RX3 116 yX0_kind, Cond.methodLink RL 47 yX3_need]
def wsL_comes_r9 : List Cond := [Cond.instanceMethod yX3_need, Cond.selects RX3 yX3_need yX3_need, Cond.code yX3_need cX3_need 3 (some .int), Cond.methodLink RX3 120 yX0_needBehind, Cond.methodLink RX3 123 yX0_needBefore, Cond.methodLink RL 51 yX3_isWhole, Cond.instanceMethod yX3_isWhole, Cond.selects RX3 yX3_isWhole yX3_isWhole, Cond.code yX3_isWhole cX3_isWhole 2 (some .boolean), Cond.methodLink RX3 126 yX2_holdsFrame, Cond.methodLink RL 54 yX3_fate, Cond.instanceMethod yX3_fate, Cond.selects RX3 yX3_fate yX3_fate, Cond.code yX3_fate cX3_fate 2 (some .int)]
def wsL_comes : List Cond := .code yL_comes cL_comes 10 (some .boolean) :: ((wsL_comes_r1 ++ (wsL_comes_r2 ++ (wsL_comes_r3 ++ (wsL_comes_r4 ++ (wsL_comes_r5 ++ (wsL_comes_r6 ++ (wsL_comes_r7 ++ (wsL_comes_r8 ++ wsL_comes_r9)))))))) ++ wsX30 ++ wsX10 ++ wsX00 ++ wsX20 ++ (vx_atS RX3 64 "java/lang/IndexOutOfBoundsException" ["java/lang/RuntimeException", "java/lang/Exception"]).filter goodWord ++ (vx_atS RX3 40 "java/lang/IllegalArgumentException" ["java/lang/RuntimeException", "java/lang/Exception"]).filter goodWord ++ (vx_atS RX3 84 "java/lang/IllegalStateException" ["java/lang/RuntimeException", "java/lang/Exception"]).filter goodWord)
def wsL_ticks_r1 : List Cond := [Cond.methodLink RL 57 yX3_tick, Cond.instanceMethod yX3_tick, Cond.selects RX3 yX3_tick yX3_tick, Cond.initialized RX3, Cond.code yX3_tick cX3_tick 1 (some .int), Cond.fieldLink RX3 65 "FilmPlayer" "now" "I", Cond.methodLink RL 63 yX3_waiting, Cond.instanceMethod yX3_waiting, Cond.selects RX3 yX3_waiting yX3_waiting, Cond.code yX3_waiting cX3_waiting 1 (some .int), Cond.fieldLink RX3 12 "FilmPlayer" "ring" "LFilmPlayer$Ring;", Cond.methodLink RL 68 yX3_lost, Cond.instanceMethod yX3_lost, Cond.selects RX3 yX3_lost yX3_lost, Cond.code yX3_lost cX3_lost 1 (some .int), Cond.methodLink RL 79 yX3_asked, Cond.instanceMethod yX3_asked, Cond.selects RX3 yX3_asked yX3_asked, Cond.code yX3_asked cX3_asked 1 (some .int), Cond.fieldLink RX3 19 "FilmPlayer" "store" "LFilmPlayer$Store;", Cond.methodLink RL 84 yX3_next, Cond.instanceMethod yX3_next, Cond.selects RX3 yX3_next yX3_next, Cond.code yX3_next cX3_next 1 (some .int)]
def wsL_ticks_r2 : List Cond := [Cond.fieldLink RX3 28 "FilmPlayer" "film" "LFilmPlayer$Film;", Cond.methodLink RL 89 yX3_turn, Cond.instanceMethod yX3_turn, Cond.selects RX3 yX3_turn yX3_turn, Cond.code yX3_turn cX3_turn 1 (some .int), Cond.methodLink RL 97 yX3_shown, Cond.instanceMethod yX3_shown, Cond.selects RX3 yX3_shown yX3_shown, Cond.code yX3_shown cX3_shown 1 (some .int), Cond.methodLink RL 100 yX3_couldBe, Cond.instanceMethod yX3_couldBe, Cond.selects RX3 yX3_couldBe yX3_couldBe, Cond.code yX3_couldBe cX3_couldBe 1 (some .int), Cond.methodLink RX3 144 yX0_countShowable, Cond.instanceMethod yX0_countShowable, Cond.selects RX0 yX0_countShowable yX0_countShowable, Cond.initialized RX0, Cond.code yX0_countShowable cX0_countShowable 3 (some .int), Cond.fieldLink RX0 15 "FilmPlayer$Film" "nextFrame" "I", Cond.fieldLink RX0 28 "FilmPlayer$Film" "store" "LFilmPlayer$Store;", Cond.methodLink RX0 44 yX2_holdsFrame, Cond.instanceMethod yX2_holdsFrame, Cond.selects RX2 yX2_holdsFrame yX2_holdsFrame, Cond.initialized RX2]
def wsL_ticks_r3 : List Cond := [Cond.code yX2_holdsFrame cX2_holdsFrame 3 (some .boolean), Cond.fieldLink RX2 9 "FilmPlayer$Store" "had" "[Z", Cond.methodLink RX0 60 yX0_needBefore, Cond.static yX0_needBefore, Cond.code yX0_needBefore cX0_needBefore 2 (some .int), Cond.methodLink RX0 32 yX0_kind, Cond.static yX0_kind, Cond.code yX0_kind cX0_kind 1 (some .int), Cond.methodLink RX0 75 yX0_isAnchorShowable, Cond.instanceMethod yX0_isAnchorShowable, Cond.selects RX0 yX0_isAnchorShowable yX0_isAnchorShowable, Cond.code yX0_isAnchorShowable cX0_isAnchorShowable 2 (some .boolean), Cond.methodLink RX0 69 yX0_isWholeIfAny, Cond.instanceMethod yX0_isWholeIfAny, Cond.selects RX0 yX0_isWholeIfAny yX0_isWholeIfAny, Cond.code yX0_isWholeIfAny cX0_isWholeIfAny 2 (some .boolean), Cond.methodLink RX0 63 yX0_needBehind, Cond.static yX0_needBehind, Cond.code yX0_needBehind cX0_needBehind 1 (some .int), Cond.methodLink RL 73 yX3_isPolled, Cond.instanceMethod yX3_isPolled, Cond.selects RX3 yX3_isPolled yX3_isPolled, Cond.code yX3_isPolled cX3_isPolled 1 (some .boolean), Cond.methodLink RL 34 yX3_advance]
def wsL_ticks_r4 : List Cond := [Cond.instanceMethod yX3_advance, Cond.selects RX3 yX3_advance yX3_advance, Cond.code yX3_advance cX3_advance 3 (some .int), Cond.classLink RX3 36 "java/lang/IllegalArgumentException", Cond.initialized "java/lang/IllegalArgumentException", Cond.classLink RX3 80 "java/lang/IllegalStateException", Cond.initialized "java/lang/IllegalStateException", Cond.methodLink RX3 32 yX3_isFromOneTo, Cond.static yX3_isFromOneTo, Cond.code yX3_isFromOneTo cX3_isFromOneTo 2 (some .boolean), Cond.methodLink RX3 85 yX3_passTick, Cond.instanceMethod yX3_passTick, Cond.selects RX3 yX3_passTick yX3_passTick, Cond.code yX3_passTick cX3_passTick 3 none, Cond.methodLink RX3 150 yX1_chooseMany, Cond.instanceMethod yX1_chooseMany, Cond.selects RX1 yX1_chooseMany yX1_chooseMany, Cond.initialized RX1, Cond.code yX1_chooseMany cX1_chooseMany 3 (some .int), Cond.fieldLink RX1 34 "FilmPlayer$Ring" "polling" "Z", Cond.fieldLink RX1 18 "FilmPlayer$Ring" "count" "I", Cond.methodLink RX1 41 Lib.Math.min.name, Cond.static Lib.Math.min.name, Cond.initialized "java/lang/Math"]
def wsL_ticks_r5 : List Cond := [Cond.code Lib.Math.min.name Lib.Math.min.code 2 (some .int), Cond.fieldLink RX1 31 "FilmPlayer$Ring" "load" "I", Cond.methodLink RX1 47 yX1_isInterruptDue, Cond.instanceMethod yX1_isInterruptDue, Cond.selects RX1 yX1_isInterruptDue yX1_isInterruptDue, Cond.code yX1_isInterruptDue cX1_isInterruptDue 2 (some .boolean), Cond.fieldLink RX1 25 "FilmPlayer$Ring" "join" "I", Cond.fieldLink RX1 15 "FilmPlayer$Ring" "arrivals" "[I", Cond.fieldLink RX1 28 "FilmPlayer$Ring" "patience" "I", Cond.methodLink RX3 153 yX1_packetAt, Cond.instanceMethod yX1_packetAt, Cond.selects RX1 yX1_packetAt yX1_packetAt, Cond.code yX1_packetAt cX1_packetAt 2 (some .int), Cond.fieldLink RX1 9 "FilmPlayer$Ring" "packets" "[I", Cond.methodLink RX3 156 yX2_add, Cond.instanceMethod yX2_add, Cond.selects RX2 yX2_add yX2_add, Cond.code yX2_add cX2_add 2 none, Cond.fieldLink RX2 23 "FilmPlayer$Store" "highest" "I", Cond.methodLink RX2 33 Lib.Math.max.name, Cond.static Lib.Math.max.name, Cond.code Lib.Math.max.name Lib.Math.max.code 2 (some .int), Cond.static yX3_isPacket, Cond.code yX3_isPacket cX3_isPacket 1 (some .boolean)]
def wsL_ticks_r6 : List Cond := [Cond.methodLink RX3 160 yX1_removeFirst, Cond.instanceMethod yX1_removeFirst, Cond.selects RX1 yX1_removeFirst yX1_removeFirst, Cond.code yX1_removeFirst cX1_removeFirst 5 none, Cond.methodLink RX1 51 Lib.Math.max.name, Cond.methodLink RX3 163 yX2_askForMissing, Cond.instanceMethod yX2_askForMissing, Cond.selects RX2 yX2_askForMissing yX2_askForMissing, Cond.code yX2_askForMissing cX2_askForMissing 3 none, Cond.fieldLink RX2 26 "FilmPlayer$Store" "lookedUpTo" "I", Cond.methodLink RX2 39 yX2_holds, Cond.instanceMethod yX2_holds, Cond.selects RX2 yX2_holds yX2_holds, Cond.code yX2_holds cX2_holds 2 (some .boolean), Cond.methodLink RX2 42 yX2_ask, Cond.instanceMethod yX2_ask, Cond.selects RX2 yX2_ask yX2_ask, Cond.code yX2_ask cX2_ask 2 none, Cond.fieldLink RX2 19 "FilmPlayer$Store" "askedCount" "I", Cond.fieldLink RX2 15 "FilmPlayer$Store" "askedRow" "[I", Cond.methodLink RX3 166 yX0_play, Cond.instanceMethod yX0_play, Cond.selects RX0 yX0_play yX0_play, Cond.code yX0_play cX0_play 2 none]
def wsL_ticks_r7 : List Cond := [Cond.fieldLink RX0 19 "FilmPlayer$Film" "beginTick" "I", Cond.fieldLink RX0 22 "FilmPlayer$Film" "turnTick" "I", Cond.methodLink RX0 36 yX0_canBegin, Cond.instanceMethod yX0_canBegin, Cond.selects RX0 yX0_canBegin yX0_canBegin, Cond.code yX0_canBegin cX0_canBegin 2 (some .boolean), Cond.methodLink RX0 40 yX0_giveTurn, Cond.instanceMethod yX0_giveTurn, Cond.selects RX0 yX0_giveTurn yX0_giveTurn, Cond.code yX0_giveTurn cX0_giveTurn 3 none, Cond.fieldLink RX0 9 "FilmPlayer$Film" "fates" "[I", Cond.fieldLink RX0 25 "FilmPlayer$Film" "shownCount" "I", Cond.static yX3_isFrame, Cond.code yX3_isFrame cX3_isFrame 1 (some .boolean), Cond.methodLink RX0 53 yX0_outcomeOf, Cond.instanceMethod yX0_outcomeOf, Cond.selects RX0 yX0_outcomeOf yX0_outcomeOf, Cond.code yX0_outcomeOf cX0_outcomeOf 5 (some .int), Cond.methodLink RX0 66 yX0_wasShown, Cond.instanceMethod yX0_wasShown, Cond.selects RX0 yX0_wasShown yX0_wasShown, Cond.code yX0_wasShown cX0_wasShown 2 (some .boolean), Cond.methodLink RX0 56 yX0_pace, Cond.instanceMethod yX0_pace]
def wsL_ticks_r8 : List Cond := [Cond.selects RX0 yX0_pace yX0_pace, Cond.code yX0_pace cX0_pace 2 (some .int), Cond.methodLink RX0 72 yX0_wholeAhead, Cond.instanceMethod yX0_wholeAhead, Cond.selects RX0 yX0_wholeAhead yX0_wholeAhead, Cond.code yX0_wholeAhead cX0_wholeAhead 3 (some .int), Cond.methodLink RL 41 yX3_askedAt, Cond.instanceMethod yX3_askedAt, Cond.selects RX3 yX3_askedAt yX3_askedAt, Cond.code yX3_askedAt cX3_askedAt 2 (some .int), Cond.classLink RX3 60 "java/lang/IndexOutOfBoundsException", Cond.initialized "java/lang/IndexOutOfBoundsException", Cond.methodLink RL 37 yX3_has, Cond.instanceMethod yX3_has, Cond.selects RX3 yX3_has yX3_has, Cond.code yX3_has cX3_has 2 (some .boolean), Cond.methodLink RX3 56 yX3_isPacket, Cond.methodLink RX3 99 yX2_holds, Cond.methodLink RL 54 yX3_fate, Cond.instanceMethod yX3_fate, Cond.selects RX3 yX3_fate yX3_fate, Cond.code yX3_fate cX3_fate 2 (some .int), Cond.methodLink RX3 111 yX3_isFrame, Cond.methodLink RL 94 yX3_fill]
def wsL_ticks_r9 : List Cond := [Cond.instanceMethod yX3_fill, Cond.selects RX3 yX3_fill yX3_fill, Cond.code yX3_fill cX3_fill 1 (some .int), Cond.methodLink RX3 138 yX0_wholeAhead, Cond.methodLink RL 51 yX3_isWhole, Cond.instanceMethod yX3_isWhole, Cond.selects RX3 yX3_isWhole yX3_isWhole, Cond.code yX3_isWhole cX3_isWhole 2 (some .boolean), Cond.methodLink RX3 126 yX2_holdsFrame]
def wsL_ticks : List Cond := .code yL_ticks cL_ticks 16 (some .boolean) :: ((wsL_ticks_r1 ++ (wsL_ticks_r2 ++ (wsL_ticks_r3 ++ (wsL_ticks_r4 ++ (wsL_ticks_r5 ++ (wsL_ticks_r6 ++ (wsL_ticks_r7 ++ (wsL_ticks_r8 ++ wsL_ticks_r9)))))))) ++ wsX30 ++ wsX10 ++ wsX20 ++ wsX00 ++ (vx_atS RX3 40 "java/lang/IllegalArgumentException" ["java/lang/RuntimeException", "java/lang/Exception"]).filter goodWord ++ (vx_atS RX3 84 "java/lang/IllegalStateException" ["java/lang/RuntimeException", "java/lang/Exception"]).filter goodWord ++ (vx_atS RX3 64 "java/lang/IndexOutOfBoundsException" ["java/lang/RuntimeException", "java/lang/Exception"]).filter goodWord)
def wsL_law0_r1 : List Cond := [Cond.classLink RL 21 RX3, Cond.instantiable RX3 4, Cond.initialized RX3, Cond.methodLink RL 122 yX3_init, Cond.instanceMethod yX3_init, Cond.code yX3_init cX3_init 1 none, Cond.methodLink RX3 3 objectInit, Cond.instanceMethod objectInit, Cond.code objectInit ⟨#[0xb1]⟩ 1 none, Cond.classLink RX3 9 RX1, Cond.instantiable RX1 9, Cond.initialized RX1, Cond.fieldLink RX3 12 "FilmPlayer" "ring" "LFilmPlayer$Ring;", Cond.classLink RX3 16 RX2, Cond.instantiable RX2 5, Cond.initialized RX2, Cond.fieldLink RX3 19 "FilmPlayer" "store" "LFilmPlayer$Store;", Cond.classLink RX3 23 RX0, Cond.instantiable RX0 6, Cond.initialized RX0, Cond.fieldLink RX3 28 "FilmPlayer" "film" "LFilmPlayer$Film;", Cond.instanceMethod yX1_init, Cond.code yX1_init cX1_init 1 none, Cond.methodLink RX1 3 objectInit]
def wsL_law0_r2 : List Cond := [Cond.arrayClass .int, Cond.fieldLink RX1 9 "FilmPlayer$Ring" "packets" "[I", Cond.fieldLink RX1 15 "FilmPlayer$Ring" "arrivals" "[I", Cond.fieldLink RX1 18 "FilmPlayer$Ring" "count" "I", Cond.fieldLink RX1 22 "FilmPlayer$Ring" "size" "I", Cond.fieldLink RX1 25 "FilmPlayer$Ring" "join" "I", Cond.fieldLink RX1 28 "FilmPlayer$Ring" "patience" "I", Cond.fieldLink RX1 31 "FilmPlayer$Ring" "load" "I", Cond.fieldLink RX1 34 "FilmPlayer$Ring" "polling" "Z", Cond.fieldLink RX1 38 "FilmPlayer$Ring" "lostCount" "I", Cond.instanceMethod yX2_init, Cond.code yX2_init cX2_init 1 none, Cond.methodLink RX2 3 objectInit, Cond.arrayClass .boolean, Cond.fieldLink RX2 9 "FilmPlayer$Store" "had" "[Z", Cond.fieldLink RX2 15 "FilmPlayer$Store" "askedRow" "[I", Cond.fieldLink RX2 19 "FilmPlayer$Store" "askedCount" "I", Cond.fieldLink RX2 23 "FilmPlayer$Store" "highest" "I", Cond.fieldLink RX2 26 "FilmPlayer$Store" "lookedUpTo" "I", Cond.methodLink RX3 25 yX0_init, Cond.instanceMethod yX0_init, Cond.code yX0_init cX0_init 2 none, Cond.methodLink RX0 3 objectInit, Cond.fieldLink RX0 9 "FilmPlayer$Film" "fates" "[I"]
def wsL_law0_r3 : List Cond := [Cond.fieldLink RX0 15 "FilmPlayer$Film" "nextFrame" "I", Cond.fieldLink RX0 19 "FilmPlayer$Film" "beginTick" "I", Cond.fieldLink RX0 22 "FilmPlayer$Film" "turnTick" "I", Cond.fieldLink RX0 25 "FilmPlayer$Film" "shownCount" "I", Cond.fieldLink RX0 28 "FilmPlayer$Film" "store" "LFilmPlayer$Store;", Cond.methodLink RL 112 yL_all, Cond.static yL_all, Cond.initialized RL, Cond.code yL_all cL_all 4 (some .long), Cond.constantLong RL 61 (41), Cond.constantLong RL 66 (10007), Cond.constantLong RL 71 (3), Cond.constantLong RL 77 (301), Cond.constantLong RL 82 (103), Cond.constantLong RL 87 (20011), Cond.constantLong RL 92 (101), Cond.constantLong RL 103 (40009), Cond.constantLong RL 108 (2), Cond.constantLong RL 110 (5), Cond.methodLink RL 57 yX3_tick, Cond.instanceMethod yX3_tick, Cond.selects RX3 yX3_tick yX3_tick, Cond.code yX3_tick cX3_tick 1 (some .int), Cond.fieldLink RX3 65 "FilmPlayer" "now" "I"]
def wsL_law0_r4 : List Cond := [Cond.methodLink RL 63 yX3_waiting, Cond.instanceMethod yX3_waiting, Cond.selects RX3 yX3_waiting yX3_waiting, Cond.code yX3_waiting cX3_waiting 1 (some .int), Cond.methodLink RL 68 yX3_lost, Cond.instanceMethod yX3_lost, Cond.selects RX3 yX3_lost yX3_lost, Cond.code yX3_lost cX3_lost 1 (some .int), Cond.methodLink RL 73 yX3_isPolled, Cond.instanceMethod yX3_isPolled, Cond.selects RX3 yX3_isPolled yX3_isPolled, Cond.code yX3_isPolled cX3_isPolled 1 (some .boolean), Cond.methodLink RL 79 yX3_asked, Cond.instanceMethod yX3_asked, Cond.selects RX3 yX3_asked yX3_asked, Cond.code yX3_asked cX3_asked 1 (some .int), Cond.methodLink RL 84 yX3_next, Cond.instanceMethod yX3_next, Cond.selects RX3 yX3_next yX3_next, Cond.code yX3_next cX3_next 1 (some .int), Cond.methodLink RL 89 yX3_turn, Cond.instanceMethod yX3_turn, Cond.selects RX3 yX3_turn yX3_turn, Cond.code yX3_turn cX3_turn 1 (some .int)]
def wsL_law0_r5 : List Cond := [Cond.methodLink RL 94 yX3_fill, Cond.instanceMethod yX3_fill, Cond.selects RX3 yX3_fill yX3_fill, Cond.code yX3_fill cX3_fill 1 (some .int), Cond.methodLink RX3 138 yX0_wholeAhead, Cond.instanceMethod yX0_wholeAhead, Cond.selects RX0 yX0_wholeAhead yX0_wholeAhead, Cond.code yX0_wholeAhead cX0_wholeAhead 3 (some .int), Cond.methodLink RX0 44 yX2_holdsFrame, Cond.instanceMethod yX2_holdsFrame, Cond.selects RX2 yX2_holdsFrame yX2_holdsFrame, Cond.code yX2_holdsFrame cX2_holdsFrame 3 (some .boolean), Cond.methodLink RL 97 yX3_shown, Cond.instanceMethod yX3_shown, Cond.selects RX3 yX3_shown yX3_shown, Cond.code yX3_shown cX3_shown 1 (some .int), Cond.methodLink RL 100 yX3_couldBe, Cond.instanceMethod yX3_couldBe, Cond.selects RX3 yX3_couldBe yX3_couldBe, Cond.code yX3_couldBe cX3_couldBe 1 (some .int), Cond.methodLink RX3 144 yX0_countShowable, Cond.instanceMethod yX0_countShowable, Cond.selects RX0 yX0_countShowable yX0_countShowable, Cond.code yX0_countShowable cX0_countShowable 3 (some .int)]
def wsL_law0_r6 : List Cond := [Cond.methodLink RX0 60 yX0_needBefore, Cond.static yX0_needBefore, Cond.code yX0_needBefore cX0_needBefore 2 (some .int), Cond.methodLink RX0 32 yX0_kind, Cond.static yX0_kind, Cond.code yX0_kind cX0_kind 1 (some .int), Cond.methodLink RX0 75 yX0_isAnchorShowable, Cond.instanceMethod yX0_isAnchorShowable, Cond.selects RX0 yX0_isAnchorShowable yX0_isAnchorShowable, Cond.code yX0_isAnchorShowable cX0_isAnchorShowable 2 (some .boolean), Cond.methodLink RX0 69 yX0_isWholeIfAny, Cond.instanceMethod yX0_isWholeIfAny, Cond.selects RX0 yX0_isWholeIfAny yX0_isWholeIfAny, Cond.code yX0_isWholeIfAny cX0_isWholeIfAny 2 (some .boolean), Cond.methodLink RX0 63 yX0_needBehind, Cond.static yX0_needBehind, Cond.code yX0_needBehind cX0_needBehind 1 (some .int), Cond.methodLink RL 105 yX3_gap, Cond.instanceMethod yX3_gap, Cond.selects RX3 yX3_gap yX3_gap, Cond.code yX3_gap cX3_gap 1 (some .int), Cond.methodLink RX3 147 yX0_delay, Cond.instanceMethod yX0_delay, Cond.selects RX0 yX0_delay yX0_delay]
def wsL_law0_r7 : List Cond := [Cond.code yX0_delay cX0_delay 1 (some .int), Cond.methodLink RL 37 yX3_has, Cond.instanceMethod yX3_has, Cond.selects RX3 yX3_has yX3_has, Cond.code yX3_has cX3_has 2 (some .boolean), Cond.classLink RX3 60 "java/lang/IndexOutOfBoundsException", Cond.initialized "java/lang/IndexOutOfBoundsException", Cond.methodLink RX3 56 yX3_isPacket, Cond.static yX3_isPacket, Cond.code yX3_isPacket cX3_isPacket 1 (some .boolean), Cond.methodLink RX3 99 yX2_holds, Cond.instanceMethod yX2_holds, Cond.selects RX2 yX2_holds yX2_holds, Cond.code yX2_holds cX2_holds 2 (some .boolean), Cond.methodLink RL 54 yX3_fate, Cond.instanceMethod yX3_fate, Cond.selects RX3 yX3_fate yX3_fate, Cond.code yX3_fate cX3_fate 2 (some .int), Cond.methodLink RX3 111 yX3_isFrame, Cond.static yX3_isFrame, Cond.code yX3_isFrame cX3_isFrame 1 (some .boolean), Cond.methodLink RL 123 yL_refused, Cond.static yL_refused, Cond.code yL_refused cL_refused 3 (some .boolean)]
def wsL_law0_r8 : List Cond := [Cond.methodLink RL 116 yL_call, Cond.static yL_call, Cond.codeWith yL_call cL_call 7 (some .int) [(0, 11, 12, 14), (0, 11, 17, 16), (0, 11, 22, 18)], Cond.classLink RL 14 "java/lang/IndexOutOfBoundsException", Cond.classLink RL 16 "java/lang/IllegalArgumentException", Cond.classLink RL 18 "java/lang/IllegalStateException", Cond.methodLink RL 8 yL_does, Cond.static yL_does, Cond.code yL_does cL_does 6 (some .int), Cond.methodLink RL 20 yX3_set, Cond.instanceMethod yX3_set, Cond.selects RX3 yX3_set yX3_set, Cond.code yX3_set cX3_set 5 none, Cond.classLink RX3 36 "java/lang/IllegalArgumentException", Cond.initialized "java/lang/IllegalArgumentException", Cond.methodLink RX3 32 yX3_isFromOneTo, Cond.static yX3_isFromOneTo, Cond.code yX3_isFromOneTo cX3_isFromOneTo 2 (some .boolean), Cond.methodLink RL 26 yX3_arrive, Cond.instanceMethod yX3_arrive, Cond.selects RX3 yX3_arrive yX3_arrive, Cond.code yX3_arrive cX3_arrive 2 (some .int), Cond.methodLink RX3 68 yX1_put, Cond.instanceMethod yX1_put]
def wsL_law0_r9 : List Cond := [Cond.selects RX1 yX1_put yX1_put, Cond.code yX1_put cX1_put 3 (some .boolean), Cond.methodLink RL 30 yX3_arriveRow, Cond.instanceMethod yX3_arriveRow, Cond.selects RX3 yX3_arriveRow yX3_arriveRow, Cond.code yX3_arriveRow cX3_arriveRow 5 (some .int), Cond.methodLink RL 34 yX3_advance, Cond.instanceMethod yX3_advance, Cond.selects RX3 yX3_advance yX3_advance, Cond.code yX3_advance cX3_advance 3 (some .int), Cond.classLink RX3 80 "java/lang/IllegalStateException", Cond.initialized "java/lang/IllegalStateException", Cond.methodLink RX3 85 yX3_passTick, Cond.instanceMethod yX3_passTick, Cond.selects RX3 yX3_passTick yX3_passTick, Cond.code yX3_passTick cX3_passTick 3 none, Cond.methodLink RX3 150 yX1_chooseMany, Cond.instanceMethod yX1_chooseMany, Cond.selects RX1 yX1_chooseMany yX1_chooseMany, Cond.code yX1_chooseMany cX1_chooseMany 3 (some .int), Cond.methodLink RX1 41 Lib.Math.min.name, Cond.static Lib.Math.min.name, Cond.initialized "java/lang/Math", Cond.code Lib.Math.min.name Lib.Math.min.code 2 (some .int)]
def wsL_law0_r10 : List Cond := [Cond.methodLink RX1 47 yX1_isInterruptDue, Cond.instanceMethod yX1_isInterruptDue, Cond.selects RX1 yX1_isInterruptDue yX1_isInterruptDue, Cond.code yX1_isInterruptDue cX1_isInterruptDue 2 (some .boolean), Cond.methodLink RX3 153 yX1_packetAt, Cond.instanceMethod yX1_packetAt, Cond.selects RX1 yX1_packetAt yX1_packetAt, Cond.code yX1_packetAt cX1_packetAt 2 (some .int), Cond.methodLink RX3 156 yX2_add, Cond.instanceMethod yX2_add, Cond.selects RX2 yX2_add yX2_add, Cond.code yX2_add cX2_add 2 none, Cond.methodLink RX2 33 Lib.Math.max.name, Cond.static Lib.Math.max.name, Cond.code Lib.Math.max.name Lib.Math.max.code 2 (some .int), Cond.methodLink RX3 160 yX1_removeFirst, Cond.instanceMethod yX1_removeFirst, Cond.selects RX1 yX1_removeFirst yX1_removeFirst, Cond.code yX1_removeFirst cX1_removeFirst 5 none, Cond.methodLink RX1 51 Lib.Math.max.name, Cond.methodLink RX3 163 yX2_askForMissing, Cond.instanceMethod yX2_askForMissing, Cond.selects RX2 yX2_askForMissing yX2_askForMissing, Cond.code yX2_askForMissing cX2_askForMissing 3 none]
def wsL_law0_r11 : List Cond := [Cond.methodLink RX2 39 yX2_holds, Cond.methodLink RX2 42 yX2_ask, Cond.instanceMethod yX2_ask, Cond.selects RX2 yX2_ask yX2_ask, Cond.code yX2_ask cX2_ask 2 none, Cond.methodLink RX3 166 yX0_play, Cond.instanceMethod yX0_play, Cond.selects RX0 yX0_play yX0_play, Cond.code yX0_play cX0_play 2 none, Cond.methodLink RX0 36 yX0_canBegin, Cond.instanceMethod yX0_canBegin, Cond.selects RX0 yX0_canBegin yX0_canBegin, Cond.code yX0_canBegin cX0_canBegin 2 (some .boolean), Cond.methodLink RX0 40 yX0_giveTurn, Cond.instanceMethod yX0_giveTurn, Cond.selects RX0 yX0_giveTurn yX0_giveTurn, Cond.code yX0_giveTurn cX0_giveTurn 3 none, Cond.methodLink RX0 53 yX0_outcomeOf, Cond.instanceMethod yX0_outcomeOf, Cond.selects RX0 yX0_outcomeOf yX0_outcomeOf, Cond.code yX0_outcomeOf cX0_outcomeOf 5 (some .int), Cond.methodLink RX0 66 yX0_wasShown, Cond.instanceMethod yX0_wasShown, Cond.selects RX0 yX0_wasShown yX0_wasShown]
def wsL_law0_r12 : List Cond := [Cond.code yX0_wasShown cX0_wasShown 2 (some .boolean), Cond.methodLink RX0 56 yX0_pace, Cond.instanceMethod yX0_pace, Cond.selects RX0 yX0_pace yX0_pace, Cond.code yX0_pace cX0_pace 2 (some .int), Cond.methodLink RX0 72 yX0_wholeAhead, Cond.methodLink RL 41 yX3_askedAt, Cond.instanceMethod yX3_askedAt, Cond.selects RX3 yX3_askedAt yX3_askedAt, Cond.code yX3_askedAt cX3_askedAt 2 (some .int), Cond.methodLink RL 44 yX3_kindOf, Cond.instanceMethod yX3_kindOf, Cond.selects RX3 yX3_kindOf yX3_kindOf, Cond.code yX3_kindOf cX3_kindOf 2 (some .int), Cond.methodLink RX3 116 yX0_kind, Cond.methodLink RL 47 yX3_need, Cond.instanceMethod yX3_need, Cond.selects RX3 yX3_need yX3_need, Cond.code yX3_need cX3_need 3 (some .int), Cond.methodLink RX3 120 yX0_needBehind, Cond.methodLink RX3 123 yX0_needBefore, Cond.methodLink RL 51 yX3_isWhole, Cond.instanceMethod yX3_isWhole, Cond.selects RX3 yX3_isWhole yX3_isWhole]
def wsL_law0_r13 : List Cond := [Cond.code yX3_isWhole cX3_isWhole 2 (some .boolean), Cond.methodLink RX3 126 yX2_holdsFrame, Cond.methodLink RL 127 yL_cell, Cond.static yL_cell, Cond.code yL_cell cL_cell 3 (some .int), Cond.constant RL 7 (528734635), Cond.methodLink RL 119 yL_some, Cond.static yL_some, Cond.code yL_some cL_some 2 (some .int), Cond.methodLink RL 131 yL_comes, Cond.static yL_comes, Cond.code yL_comes cL_comes 10 (some .boolean), Cond.methodLink RL 135 yL_ticks, Cond.static yL_ticks, Cond.code yL_ticks cL_ticks 16 (some .boolean), Cond.methodLink RL 139 yX3_reset, Cond.instanceMethod yX3_reset, Cond.selects RX3 yX3_reset yX3_reset, Cond.code yX3_reset cX3_reset 1 (some .int), Cond.methodLink RX3 88 yX1_loseAll, Cond.instanceMethod yX1_loseAll, Cond.selects RX1 yX1_loseAll yX1_loseAll, Cond.code yX1_loseAll cX1_loseAll 2 (some .int)]
def wsL_law0 : List Cond := (wsL_law0_r1 ++ (wsL_law0_r2 ++ (wsL_law0_r3 ++ (wsL_law0_r4 ++ (wsL_law0_r5 ++ (wsL_law0_r6 ++ (wsL_law0_r7 ++ (wsL_law0_r8 ++ (wsL_law0_r9 ++ (wsL_law0_r10 ++ (wsL_law0_r11 ++ (wsL_law0_r12 ++ wsL_law0_r13)))))))))))) ++ wsX30 ++ wsX10 ++ wsX20 ++ wsX00 ++ ([] : List Cond)
def wsL_law : List Cond := wsL_law0 ++ (vx_atS RX3 64 "java/lang/IndexOutOfBoundsException" ["java/lang/RuntimeException", "java/lang/Exception"]).filter goodWord ++ (vx_atS RX3 40 "java/lang/IllegalArgumentException" ["java/lang/RuntimeException", "java/lang/Exception"]).filter goodWord ++ (vx_atS RX3 84 "java/lang/IllegalStateException" ["java/lang/RuntimeException", "java/lang/Exception"]).filter goodWord
set_option maxRecDepth 20000 in
theorem wsL_law0_r1_in : ∀ w ∈ wsL_law0_r1, w ∈ lw_tbl := fun w h => (goodIn_p wsL_law0_r1 [27, 30, 35] (by decide +kernel) (by decide +kernel) w h).1
set_option maxRecDepth 20000 in
theorem wsL_law0_r2_in : ∀ w ∈ wsL_law0_r2, w ∈ lw_tbl := fun w h => (goodIn_p wsL_law0_r2 [77, 102] (by decide +kernel) (by decide +kernel) w h).1
set_option maxRecDepth 20000 in
theorem wsL_law0_r3_in : ∀ w ∈ wsL_law0_r3, w ∈ lw_tbl := fun w h => (goodIn_p wsL_law0_r3 [431, 435] (by decide +kernel) (by decide +kernel) w h).1
set_option maxRecDepth 20000 in
theorem wsL_law0_r4_in : ∀ w ∈ wsL_law0_r4, w ∈ lw_tbl := fun w h => (goodIn_p wsL_law0_r4 [151, 155, 159, 443, 448, 453] (by decide +kernel) (by decide +kernel) w h).1
set_option maxRecDepth 20000 in
theorem wsL_law0_r5_in : ∀ w ∈ wsL_law0_r5, w ∈ lw_tbl := fun w h => (goodIn_p wsL_law0_r5 [458, 396, 360, 463, 467, 471] (by decide +kernel) (by decide +kernel) w h).1
set_option maxRecDepth 20000 in
theorem wsL_law0_r6_in : ∀ w ∈ wsL_law0_r6, w ∈ lw_tbl := fun w h => (goodIn_p wsL_law0_r6 [374, 377, 475, 388, 380, 480] (by decide +kernel) (by decide +kernel) w h).1
set_option maxRecDepth 20000 in
theorem wsL_law0_r7_in : ∀ w ∈ wsL_law0_r7, w ∈ lw_tbl := fun w h => (goodIn_p wsL_law0_r7 [484, 400, 257, 344, 428, 367, 489] (by decide +kernel) (by decide +kernel) w h).1
set_option maxRecDepth 20000 in
theorem wsL_law0_r8_in : ∀ w ∈ wsL_law0_r8, w ∈ lw_tbl := fun w h => (goodIn_p wsL_law0_r8 [175, 179, 182, 254] (by decide +kernel) (by decide +kernel) w h).1
set_option maxRecDepth 20000 in
theorem wsL_law0_r9_in : ∀ w ∈ wsL_law0_r9, w ∈ lw_tbl := fun w h => (goodIn_p wsL_law0_r9 [277, 281, 287, 308, 312, 315] (by decide +kernel) (by decide +kernel) w h).1
set_option maxRecDepth 20000 in
theorem wsL_law0_r10_in : ∀ w ∈ wsL_law0_r10, w ∈ lw_tbl := fun w h => (goodIn_p wsL_law0_r10 [319, 323, 327, 331, 335, 340] (by decide +kernel) (by decide +kernel) w h).1
set_option maxRecDepth 20000 in
theorem wsL_law0_r11_in : ∀ w ∈ wsL_law0_r11, w ∈ lw_tbl := fun w h => (goodIn_p wsL_law0_r11 [348, 352, 356, 364, 371] (by decide +kernel) (by decide +kernel) w h).1
set_option maxRecDepth 20000 in
theorem wsL_law0_r12_in : ∀ w ∈ wsL_law0_r12, w ∈ lw_tbl := fun w h => (goodIn_p wsL_law0_r12 [384, 392, 405, 410, 417] (by decide +kernel) (by decide +kernel) w h).1
set_option maxRecDepth 20000 in
theorem wsL_law0_r13_in : ∀ w ∈ wsL_law0_r13, w ∈ lw_tbl := List.forall_mem_cons.mpr ⟨List.mem_of_getElem? (i := 423) (by decide +kernel), List.forall_mem_cons.mpr ⟨(by decide +kernel), List.forall_mem_cons.mpr ⟨(by decide +kernel), List.forall_mem_cons.mpr ⟨(by decide +kernel), List.forall_mem_cons.mpr ⟨List.mem_of_getElem? (i := 162) (by decide +kernel), List.forall_mem_cons.mpr ⟨(by decide +kernel), List.forall_mem_cons.mpr ⟨(by decide +kernel), List.forall_mem_cons.mpr ⟨(by decide +kernel), List.forall_mem_cons.mpr ⟨List.mem_of_getElem? (i := 166) (by decide +kernel), List.forall_mem_cons.mpr ⟨(by decide +kernel), List.forall_mem_cons.mpr ⟨(by decide +kernel), List.forall_mem_cons.mpr ⟨List.mem_append_right _ (List.mem_append_right _ (List.mem_append_right _ (List.mem_of_getElem? (i := 1) rfl))), List.forall_mem_cons.mpr ⟨(by decide +kernel), List.forall_mem_cons.mpr ⟨(by decide +kernel), List.forall_mem_cons.mpr ⟨List.mem_append_right _ (List.mem_append_right _ (List.mem_append_right _ (List.mem_of_getElem? (i := 4) rfl))), List.forall_mem_cons.mpr ⟨(by decide +kernel), List.forall_mem_cons.mpr ⟨(by decide +kernel), List.forall_mem_cons.mpr ⟨(by decide +kernel), List.forall_mem_cons.mpr ⟨List.mem_of_getElem? (i := 143) (by decide +kernel), List.forall_mem_cons.mpr ⟨(by decide +kernel), List.forall_mem_cons.mpr ⟨(by decide +kernel), List.forall_mem_cons.mpr ⟨(by decide +kernel), List.forall_mem_cons.mpr ⟨List.mem_of_getElem? (i := 147) (by decide +kernel), fun _ h => absurd h List.not_mem_nil⟩⟩⟩⟩⟩⟩⟩⟩⟩⟩⟩⟩⟩⟩⟩⟩⟩⟩⟩⟩⟩⟩⟩
theorem wsL_law0_rs_in : ∀ w ∈ wsL_law0_r1 ++ (wsL_law0_r2 ++ (wsL_law0_r3 ++ (wsL_law0_r4 ++ (wsL_law0_r5 ++ (wsL_law0_r6 ++ (wsL_law0_r7 ++ (wsL_law0_r8 ++ (wsL_law0_r9 ++ (wsL_law0_r10 ++ (wsL_law0_r11 ++ (wsL_law0_r12 ++ (wsL_law0_r13)))))))))))), w ∈ lw_tbl := fun w h => (List.mem_append.mp h).elim (fun h => wsL_law0_r1_in w h) (fun h => (List.mem_append.mp h).elim (fun h => wsL_law0_r2_in w h) (fun h => (List.mem_append.mp h).elim (fun h => wsL_law0_r3_in w h) (fun h => (List.mem_append.mp h).elim (fun h => wsL_law0_r4_in w h) (fun h => (List.mem_append.mp h).elim (fun h => wsL_law0_r5_in w h) (fun h => (List.mem_append.mp h).elim (fun h => wsL_law0_r6_in w h) (fun h => (List.mem_append.mp h).elim (fun h => wsL_law0_r7_in w h) (fun h => (List.mem_append.mp h).elim (fun h => wsL_law0_r8_in w h) (fun h => (List.mem_append.mp h).elim (fun h => wsL_law0_r9_in w h) (fun h => (List.mem_append.mp h).elim (fun h => wsL_law0_r10_in w h) (fun h => (List.mem_append.mp h).elim (fun h => wsL_law0_r11_in w h) (fun h => (List.mem_append.mp h).elim (fun h => wsL_law0_r12_in w h) (fun h => wsL_law0_r13_in w h))))))))))))
set_option maxRecDepth 20000 in
theorem wsX00_in : ∀ w ∈ wsX00, w ∈ lw_tbl := fun w h => (goodIn_p wsX00 [] (by decide +kernel) (by decide +kernel) w h).1
set_option maxRecDepth 20000 in
theorem wsX10_in : ∀ w ∈ wsX10, w ∈ lw_tbl := fun w h => (goodIn_p wsX10 [] (by decide +kernel) (by decide +kernel) w h).1
set_option maxRecDepth 20000 in
theorem wsX20_in : ∀ w ∈ wsX20, w ∈ lw_tbl := fun w h => (goodIn_p wsX20 [] (by decide +kernel) (by decide +kernel) w h).1
set_option maxRecDepth 20000 in
theorem wsX30_in : ∀ w ∈ wsX30, w ∈ lw_tbl := fun w h => (goodIn_p wsX30 [] (by decide +kernel) (by decide +kernel) w h).1
theorem wsL_law_in0 : ∀ w ∈ wsL_law0, w ∈ lw_tbl := fun w h => (List.mem_append.mp h).elim (fun h => (List.mem_append.mp h).elim (fun h => (List.mem_append.mp h).elim (fun h => (List.mem_append.mp h).elim (fun h => (List.mem_append.mp h).elim (fun h => wsL_law0_rs_in w h) (fun h => wsX30_in w h)) (fun h => wsX10_in w h)) (fun h => wsX20_in w h)) (fun h => wsX00_in w h)) (fun h => absurd h List.not_mem_nil)
theorem wsL_law_x0 : ∀ w ∈ (vx_atS RX3 64 "java/lang/IndexOutOfBoundsException" ["java/lang/RuntimeException", "java/lang/Exception"]).filter goodWord, w ∈ lw_tbl := by decide +kernel
theorem wsL_law_x1 : ∀ w ∈ (vx_atS RX3 40 "java/lang/IllegalArgumentException" ["java/lang/RuntimeException", "java/lang/Exception"]).filter goodWord, w ∈ lw_tbl := by decide +kernel
theorem wsL_law_x2 : ∀ w ∈ (vx_atS RX3 84 "java/lang/IllegalStateException" ["java/lang/RuntimeException", "java/lang/Exception"]).filter goodWord, w ∈ lw_tbl := by decide +kernel
theorem wsL_law_in : ∀ w ∈ wsL_law, w ∈ lw_tbl := fun w h => (List.mem_append.mp h).elim (fun h => (List.mem_append.mp h).elim (fun h => (List.mem_append.mp h).elim (fun h => wsL_law_in0 w h) (fun h => wsL_law_x0 w h)) (fun h => wsL_law_x1 w h)) (fun h => wsL_law_x2 w h)
theorem inlX0 : ∀ w ∈ wsX00, w ∈ wsL_law := fun _ h => List.mem_append_left _ (List.mem_append_left _ (List.mem_append_left _ (List.mem_append_left _ (List.mem_append_right _ h))))
theorem inX0 : ∀ w ∈ wsX00, w ∈ lw_tbl := fun w h => wsL_law_in w (inlX0 w h)
theorem inlX1 : ∀ w ∈ wsX10, w ∈ wsL_law := fun _ h => List.mem_append_left _ (List.mem_append_left _ (List.mem_append_left _ (List.mem_append_left _ (List.mem_append_left _ (List.mem_append_left _ (List.mem_append_right _ h))))))
theorem inX1 : ∀ w ∈ wsX10, w ∈ lw_tbl := fun w h => wsL_law_in w (inlX1 w h)
theorem inlX2 : ∀ w ∈ wsX20, w ∈ wsL_law := fun _ h => List.mem_append_left _ (List.mem_append_left _ (List.mem_append_left _ (List.mem_append_left _ (List.mem_append_left _ (List.mem_append_right _ h)))))
theorem inX2 : ∀ w ∈ wsX20, w ∈ lw_tbl := fun w h => wsL_law_in w (inlX2 w h)
theorem inlX3 : ∀ w ∈ wsX30, w ∈ wsL_law := fun _ h => List.mem_append_left _ (List.mem_append_left _ (List.mem_append_left _ (List.mem_append_left _ (List.mem_append_left _ (List.mem_append_left _ (List.mem_append_left _ (List.mem_append_right _ h)))))))
theorem inX3 : ∀ w ∈ wsX30, w ∈ lw_tbl := fun w h => wsL_law_in w (inlX3 w h)
theorem inX4 : ∀ w ∈ wsX40, w ∈ lw_tbl := by decide +kernel
theorem inJ9 : ∀ w ∈ wsJ90, w ∈ lw_tbl := by decide +kernel
theorem inJ0 : ∀ w ∈ wsJ00, w ∈ lw_tbl := by decide +kernel
theorem dX0_init_0 : decode cX0_init 0 = .ok (.aload_n 0, 1) := by decide +kernel
theorem dX0_init_1 : decode cX0_init 1 = .ok (.invokespecial 3, 3) := by decide +kernel
theorem dX0_init_4 : decode cX0_init 4 = .ok (.aload_n 0, 1) := by decide +kernel
theorem dX0_init_5 : decode cX0_init 5 = .ok (.bipush 100, 2) := by decide +kernel
theorem dX0_init_7 : decode cX0_init 7 = .ok (.newarray .int, 2) := by decide +kernel
theorem dX0_init_9 : decode cX0_init 9 = .ok (.putfield 9, 3) := by decide +kernel
theorem dX0_init_12 : decode cX0_init 12 = .ok (.aload_n 0, 1) := by decide +kernel
theorem dX0_init_13 : decode cX0_init 13 = .ok (.iconst 0, 1) := by decide +kernel
theorem dX0_init_14 : decode cX0_init 14 = .ok (.putfield 15, 3) := by decide +kernel
theorem dX0_init_17 : decode cX0_init 17 = .ok (.aload_n 0, 1) := by decide +kernel
theorem dX0_init_18 : decode cX0_init 18 = .ok (.iconst (-1), 1) := by decide +kernel
theorem dX0_init_19 : decode cX0_init 19 = .ok (.putfield 19, 3) := by decide +kernel
theorem dX0_init_22 : decode cX0_init 22 = .ok (.aload_n 0, 1) := by decide +kernel
theorem dX0_init_23 : decode cX0_init 23 = .ok (.iconst (-1), 1) := by decide +kernel
theorem dX0_init_24 : decode cX0_init 24 = .ok (.putfield 22, 3) := by decide +kernel
theorem dX0_init_27 : decode cX0_init 27 = .ok (.aload_n 0, 1) := by decide +kernel
theorem dX0_init_28 : decode cX0_init 28 = .ok (.iconst 0, 1) := by decide +kernel
theorem dX0_init_29 : decode cX0_init 29 = .ok (.putfield 25, 3) := by decide +kernel
theorem dX0_init_32 : decode cX0_init 32 = .ok (.aload_n 0, 1) := by decide +kernel
theorem dX0_init_33 : decode cX0_init 33 = .ok (.aload_n 1, 1) := by decide +kernel
theorem dX0_init_34 : decode cX0_init 34 = .ok (.putfield 28, 3) := by decide +kernel
theorem dX0_init_37 : decode cX0_init 37 = .ok (.return_, 1) := by decide +kernel
theorem dX0_kind_0 : decode cX0_kind 0 = .ok (.iload_n 0, 1) := by decide +kernel
theorem dX0_kind_1 : decode cX0_kind 1 = .ok (.bipush 6, 2) := by decide +kernel
theorem dX0_kind_3 : decode cX0_kind 3 = .ok (.irem, 1) := by decide +kernel
theorem dX0_kind_4 : decode cX0_kind 4 = .ok (.ifCond .ne 5, 3) := by decide +kernel
theorem dX0_kind_7 : decode cX0_kind 7 = .ok (.iconst 0, 1) := by decide +kernel
theorem dX0_kind_8 : decode cX0_kind 8 = .ok (.ireturn, 1) := by decide +kernel
theorem dX0_kind_9 : decode cX0_kind 9 = .ok (.iload_n 0, 1) := by decide +kernel
theorem dX0_kind_10 : decode cX0_kind 10 = .ok (.iconst 3, 1) := by decide +kernel
theorem dX0_kind_11 : decode cX0_kind 11 = .ok (.irem, 1) := by decide +kernel
theorem dX0_kind_12 : decode cX0_kind 12 = .ok (.ifCond .ne 7, 3) := by decide +kernel
theorem dX0_kind_15 : decode cX0_kind 15 = .ok (.iconst 1, 1) := by decide +kernel
theorem dX0_kind_16 : decode cX0_kind 16 = .ok (.goto 4, 3) := by decide +kernel
theorem dX0_kind_19 : decode cX0_kind 19 = .ok (.iconst 2, 1) := by decide +kernel
theorem dX0_kind_20 : decode cX0_kind 20 = .ok (.ireturn, 1) := by decide +kernel
set_option maxRecDepth 20000 in
theorem ggX0_needBefore_X0_kind : GoodIn wsX0_needBefore wsX0_kind := goodIn_r _ [4] (by decide +kernel) (by decide +kernel)
set_option maxRecDepth 20000 in
theorem gX0_needBefore_X0_kind : GoodIn wsX0_needBefore (va_wsS RX0 32 yX0_kind wsX0_kind) := goodIn_app (goodIn_of _ (by decide +kernel)) ggX0_needBefore_X0_kind
theorem dX0_needBefore_0 : decode cX0_needBefore 0 = .ok (.iload_n 0, 1) := by decide +kernel
theorem dX0_needBefore_1 : decode cX0_needBefore 1 = .ok (.invokestatic 32, 3) := by decide +kernel
theorem dX0_needBefore_4 : decode cX0_needBefore 4 = .ok (.istore_n 1, 1) := by decide +kernel
theorem dX0_needBefore_5 : decode cX0_needBefore 5 = .ok (.iload_n 1, 1) := by decide +kernel
theorem dX0_needBefore_6 : decode cX0_needBefore 6 = .ok (.ifCond .ne 5, 3) := by decide +kernel
theorem dX0_needBefore_9 : decode cX0_needBefore 9 = .ok (.iconst (-1), 1) := by decide +kernel
theorem dX0_needBefore_10 : decode cX0_needBefore 10 = .ok (.ireturn, 1) := by decide +kernel
theorem dX0_needBefore_11 : decode cX0_needBefore 11 = .ok (.iload_n 1, 1) := by decide +kernel
theorem dX0_needBefore_12 : decode cX0_needBefore 12 = .ok (.iconst 1, 1) := by decide +kernel
theorem dX0_needBefore_13 : decode cX0_needBefore 13 = .ok (.if_icmp .ne 9, 3) := by decide +kernel
theorem dX0_needBefore_16 : decode cX0_needBefore 16 = .ok (.iload_n 0, 1) := by decide +kernel
theorem dX0_needBefore_17 : decode cX0_needBefore 17 = .ok (.iconst 3, 1) := by decide +kernel
theorem dX0_needBefore_18 : decode cX0_needBefore 18 = .ok (.isub, 1) := by decide +kernel
theorem dX0_needBefore_19 : decode cX0_needBefore 19 = .ok (.goto 8, 3) := by decide +kernel
theorem dX0_needBefore_22 : decode cX0_needBefore 22 = .ok (.iload_n 0, 1) := by decide +kernel
theorem dX0_needBefore_23 : decode cX0_needBefore 23 = .ok (.iload_n 0, 1) := by decide +kernel
theorem dX0_needBefore_24 : decode cX0_needBefore 24 = .ok (.iconst 3, 1) := by decide +kernel
theorem dX0_needBefore_25 : decode cX0_needBefore 25 = .ok (.irem, 1) := by decide +kernel
theorem dX0_needBefore_26 : decode cX0_needBefore 26 = .ok (.isub, 1) := by decide +kernel
theorem dX0_needBefore_27 : decode cX0_needBefore 27 = .ok (.ireturn, 1) := by decide +kernel
set_option maxRecDepth 20000 in
theorem ggX0_needBehind_X0_kind : GoodIn wsX0_needBehind wsX0_kind := goodIn_r _ [4] (by decide +kernel) (by decide +kernel)
set_option maxRecDepth 20000 in
theorem gX0_needBehind_X0_kind : GoodIn wsX0_needBehind (va_wsS RX0 32 yX0_kind wsX0_kind) := goodIn_app (goodIn_of _ (by decide +kernel)) ggX0_needBehind_X0_kind
theorem dX0_needBehind_0 : decode cX0_needBehind 0 = .ok (.iload_n 0, 1) := by decide +kernel
theorem dX0_needBehind_1 : decode cX0_needBehind 1 = .ok (.invokestatic 32, 3) := by decide +kernel
theorem dX0_needBehind_4 : decode cX0_needBehind 4 = .ok (.iconst 2, 1) := by decide +kernel
theorem dX0_needBehind_5 : decode cX0_needBehind 5 = .ok (.if_icmp .ne 13, 3) := by decide +kernel
theorem dX0_needBehind_8 : decode cX0_needBehind 8 = .ok (.iload_n 0, 1) := by decide +kernel
theorem dX0_needBehind_9 : decode cX0_needBehind 9 = .ok (.iload_n 0, 1) := by decide +kernel
theorem dX0_needBehind_10 : decode cX0_needBehind 10 = .ok (.iconst 3, 1) := by decide +kernel
theorem dX0_needBehind_11 : decode cX0_needBehind 11 = .ok (.irem, 1) := by decide +kernel
theorem dX0_needBehind_12 : decode cX0_needBehind 12 = .ok (.isub, 1) := by decide +kernel
theorem dX0_needBehind_13 : decode cX0_needBehind 13 = .ok (.iconst 3, 1) := by decide +kernel
theorem dX0_needBehind_14 : decode cX0_needBehind 14 = .ok (.iadd, 1) := by decide +kernel
theorem dX0_needBehind_15 : decode cX0_needBehind 15 = .ok (.goto 4, 3) := by decide +kernel
theorem dX0_needBehind_18 : decode cX0_needBehind 18 = .ok (.iconst (-1), 1) := by decide +kernel
theorem dX0_needBehind_19 : decode cX0_needBehind 19 = .ok (.ireturn, 1) := by decide +kernel
set_option maxRecDepth 20000 in
theorem ggX0_play_X0_canBegin : GoodIn wsX0_play wsX0_canBegin := goodIn_r _ [7, 8, 9, 10, 11, 12, 13, 14, 54, 55, 56, 57, 58, 59, 60, 61, 62, 63, 64] (by decide +kernel) (by decide +kernel)
set_option maxRecDepth 20000 in
theorem gX0_play_X0_canBegin : GoodIn wsX0_play (wsV RX0 36 RX0 yX0_canBegin wsX0_canBegin) := goodIn_app (goodIn_of _ (by decide +kernel)) ggX0_play_X0_canBegin
set_option maxRecDepth 20000 in
theorem ggX0_play_X0_giveTurn : GoodIn wsX0_play wsX0_giveTurn := goodIn_r _ [18, 19, 20, 21, 2, 22, 23, 24, 25, 26, 27, 6, 28, 8, 9, 10, 11, 12, 13, 14, 29, 30, 31, 32, 33, 34, 35, 36, 37, 38, 39, 40, 41, 42, 43, 44, 45, 46, 47, 48, 49, 50, 51, 52, 53, 54, 55, 56, 57, 58, 59, 60, 61, 62, 63, 64] (by decide +kernel) (by decide +kernel)
set_option maxRecDepth 20000 in
theorem gX0_play_X0_giveTurn : GoodIn wsX0_play (wsV RX0 40 RX0 yX0_giveTurn wsX0_giveTurn) := goodIn_app (goodIn_of _ (by decide +kernel)) ggX0_play_X0_giveTurn
theorem dX0_play_0 : decode cX0_play 0 = .ok (.aload_n 0, 1) := by decide +kernel
theorem dX0_play_1 : decode cX0_play 1 = .ok (.getfield 19, 3) := by decide +kernel
theorem dX0_play_4 : decode cX0_play 4 = .ok (.iconst (-1), 1) := by decide +kernel
theorem dX0_play_5 : decode cX0_play 5 = .ok (.if_icmp .ne 20, 3) := by decide +kernel
theorem dX0_play_8 : decode cX0_play 8 = .ok (.aload_n 0, 1) := by decide +kernel
theorem dX0_play_9 : decode cX0_play 9 = .ok (.invokevirtual 36, 3) := by decide +kernel
theorem dX0_play_12 : decode cX0_play 12 = .ok (.ifCond .eq 13, 3) := by decide +kernel
theorem dX0_play_15 : decode cX0_play 15 = .ok (.aload_n 0, 1) := by decide +kernel
theorem dX0_play_16 : decode cX0_play 16 = .ok (.iload_n 1, 1) := by decide +kernel
theorem dX0_play_17 : decode cX0_play 17 = .ok (.putfield 19, 3) := by decide +kernel
theorem dX0_play_20 : decode cX0_play 20 = .ok (.aload_n 0, 1) := by decide +kernel
theorem dX0_play_21 : decode cX0_play 21 = .ok (.iload_n 1, 1) := by decide +kernel
theorem dX0_play_22 : decode cX0_play 22 = .ok (.putfield 22, 3) := by decide +kernel
theorem dX0_play_25 : decode cX0_play 25 = .ok (.aload_n 0, 1) := by decide +kernel
theorem dX0_play_26 : decode cX0_play 26 = .ok (.getfield 22, 3) := by decide +kernel
theorem dX0_play_29 : decode cX0_play 29 = .ok (.iload_n 1, 1) := by decide +kernel
theorem dX0_play_30 : decode cX0_play 30 = .ok (.if_icmp .ne 8, 3) := by decide +kernel
theorem dX0_play_33 : decode cX0_play 33 = .ok (.aload_n 0, 1) := by decide +kernel
theorem dX0_play_34 : decode cX0_play 34 = .ok (.iload_n 1, 1) := by decide +kernel
theorem dX0_play_35 : decode cX0_play 35 = .ok (.invokevirtual 40, 3) := by decide +kernel
theorem dX0_play_38 : decode cX0_play 38 = .ok (.return_, 1) := by decide +kernel
set_option maxRecDepth 20000 in
theorem ggX0_canBegin_X2_holdsFrame : GoodIn wsX0_canBegin wsX2_holdsFrame := goodIn_r _ [6, 7, 14, 15, 16, 17, 18] (by decide +kernel) (by decide +kernel)
set_option maxRecDepth 20000 in
theorem gX0_canBegin_X2_holdsFrame : GoodIn wsX0_canBegin (wsV RX0 44 RX2 yX2_holdsFrame wsX2_holdsFrame) := goodIn_app (goodIn_of _ (by decide +kernel)) ggX0_canBegin_X2_holdsFrame
theorem dX0_canBegin_0 : decode cX0_canBegin 0 = .ok (.iconst 0, 1) := by decide +kernel
theorem dX0_canBegin_1 : decode cX0_canBegin 1 = .ok (.istore_n 1, 1) := by decide +kernel
theorem dX0_canBegin_2 : decode cX0_canBegin 2 = .ok (.iload_n 1, 1) := by decide +kernel
theorem dX0_canBegin_3 : decode cX0_canBegin 3 = .ok (.iconst 3, 1) := by decide +kernel
theorem dX0_canBegin_4 : decode cX0_canBegin 4 = .ok (.if_icmp .ge 22, 3) := by decide +kernel
theorem dX0_canBegin_7 : decode cX0_canBegin 7 = .ok (.aload_n 0, 1) := by decide +kernel
theorem dX0_canBegin_8 : decode cX0_canBegin 8 = .ok (.getfield 28, 3) := by decide +kernel
theorem dX0_canBegin_11 : decode cX0_canBegin 11 = .ok (.iload_n 1, 1) := by decide +kernel
theorem dX0_canBegin_12 : decode cX0_canBegin 12 = .ok (.invokevirtual 44, 3) := by decide +kernel
theorem dX0_canBegin_15 : decode cX0_canBegin 15 = .ok (.ifCond .ne 5, 3) := by decide +kernel
theorem dX0_canBegin_18 : decode cX0_canBegin 18 = .ok (.iconst 0, 1) := by decide +kernel
theorem dX0_canBegin_19 : decode cX0_canBegin 19 = .ok (.ireturn, 1) := by decide +kernel
theorem dX0_canBegin_20 : decode cX0_canBegin 20 = .ok (.iinc 1 1, 3) := by decide +kernel
theorem dX0_canBegin_23 : decode cX0_canBegin 23 = .ok (.goto (-21), 3) := by decide +kernel
theorem dX0_canBegin_26 : decode cX0_canBegin 26 = .ok (.iconst 1, 1) := by decide +kernel
theorem dX0_canBegin_27 : decode cX0_canBegin 27 = .ok (.ireturn, 1) := by decide +kernel
set_option maxRecDepth 20000 in
theorem ggX0_giveTurn_X3_isFrame : GoodIn wsX0_giveTurn wsX3_isFrame := goodIn_r _ [7] (by decide +kernel) (by decide +kernel)
set_option maxRecDepth 20000 in
theorem gX0_giveTurn_X3_isFrame_n50 : GoodIn wsX0_giveTurn (wsX3_isFrame) := ggX0_giveTurn_X3_isFrame
set_option maxRecDepth 20000 in
theorem ggX0_giveTurn_X0_outcomeOf : GoodIn wsX0_giveTurn wsX0_outcomeOf := goodIn_r _ [12, 13, 14, 15, 16, 17, 18, 19, 20, 21, 11, 22, 23, 24, 25, 26, 27, 28, 29, 30, 31, 32, 2, 5, 6, 7, 33, 34, 35, 36, 45, 46, 47, 48, 49, 50, 51, 52, 53, 54, 55] (by decide +kernel) (by decide +kernel)
set_option maxRecDepth 20000 in
theorem gX0_giveTurn_X0_outcomeOf : GoodIn wsX0_giveTurn (wsV RX0 53 RX0 yX0_outcomeOf wsX0_outcomeOf) := goodIn_app (goodIn_of _ (by decide +kernel)) ggX0_giveTurn_X0_outcomeOf
set_option maxRecDepth 20000 in
theorem ggX0_giveTurn_X0_pace : GoodIn wsX0_giveTurn wsX0_pace := goodIn_r _ [40, 41, 42, 43, 11, 44, 1, 13, 14, 15, 16, 17, 18, 19, 45, 46, 47, 48, 49, 50, 51, 52, 53, 54, 55] (by decide +kernel) (by decide +kernel)
set_option maxRecDepth 20000 in
theorem gX0_giveTurn_X0_pace : GoodIn wsX0_giveTurn (wsV RX0 56 RX0 yX0_pace wsX0_pace) := goodIn_app (goodIn_of _ (by decide +kernel)) ggX0_giveTurn_X0_pace
theorem dX0_giveTurn_0 : decode cX0_giveTurn 0 = .ok (.aload_n 0, 1) := by decide +kernel
theorem dX0_giveTurn_1 : decode cX0_giveTurn 1 = .ok (.getfield 15, 3) := by decide +kernel
theorem dX0_giveTurn_4 : decode cX0_giveTurn 4 = .ok (.invokestatic 50, 3) := by decide +kernel
theorem dX0_giveTurn_7 : decode cX0_giveTurn 7 = .ok (.ifCond .ne 4, 3) := by decide +kernel
theorem dX0_giveTurn_10 : decode cX0_giveTurn 10 = .ok (.return_, 1) := by decide +kernel
theorem dX0_giveTurn_11 : decode cX0_giveTurn 11 = .ok (.aload_n 0, 1) := by decide +kernel
theorem dX0_giveTurn_12 : decode cX0_giveTurn 12 = .ok (.aload_n 0, 1) := by decide +kernel
theorem dX0_giveTurn_13 : decode cX0_giveTurn 13 = .ok (.getfield 15, 3) := by decide +kernel
theorem dX0_giveTurn_16 : decode cX0_giveTurn 16 = .ok (.invokevirtual 53, 3) := by decide +kernel
theorem dX0_giveTurn_19 : decode cX0_giveTurn 19 = .ok (.istore_n 2, 1) := by decide +kernel
theorem dX0_giveTurn_20 : decode cX0_giveTurn 20 = .ok (.aload_n 0, 1) := by decide +kernel
theorem dX0_giveTurn_21 : decode cX0_giveTurn 21 = .ok (.getfield 9, 3) := by decide +kernel
theorem dX0_giveTurn_24 : decode cX0_giveTurn 24 = .ok (.aload_n 0, 1) := by decide +kernel
theorem dX0_giveTurn_25 : decode cX0_giveTurn 25 = .ok (.getfield 15, 3) := by decide +kernel
theorem dX0_giveTurn_28 : decode cX0_giveTurn 28 = .ok (.iload_n 2, 1) := by decide +kernel
theorem dX0_giveTurn_29 : decode cX0_giveTurn 29 = .ok (.iastore, 1) := by decide +kernel
theorem dX0_giveTurn_30 : decode cX0_giveTurn 30 = .ok (.iload_n 2, 1) := by decide +kernel
theorem dX0_giveTurn_31 : decode cX0_giveTurn 31 = .ok (.iconst 1, 1) := by decide +kernel
theorem dX0_giveTurn_32 : decode cX0_giveTurn 32 = .ok (.if_icmp .ne 13, 3) := by decide +kernel
theorem dX0_giveTurn_35 : decode cX0_giveTurn 35 = .ok (.aload_n 0, 1) := by decide +kernel
theorem dX0_giveTurn_36 : decode cX0_giveTurn 36 = .ok (.dup, 1) := by decide +kernel
theorem dX0_giveTurn_37 : decode cX0_giveTurn 37 = .ok (.getfield 25, 3) := by decide +kernel
theorem dX0_giveTurn_40 : decode cX0_giveTurn 40 = .ok (.iconst 1, 1) := by decide +kernel
theorem dX0_giveTurn_41 : decode cX0_giveTurn 41 = .ok (.iadd, 1) := by decide +kernel
theorem dX0_giveTurn_42 : decode cX0_giveTurn 42 = .ok (.putfield 25, 3) := by decide +kernel
theorem dX0_giveTurn_45 : decode cX0_giveTurn 45 = .ok (.aload_n 0, 1) := by decide +kernel
theorem dX0_giveTurn_46 : decode cX0_giveTurn 46 = .ok (.dup, 1) := by decide +kernel
theorem dX0_giveTurn_47 : decode cX0_giveTurn 47 = .ok (.getfield 15, 3) := by decide +kernel
theorem dX0_giveTurn_50 : decode cX0_giveTurn 50 = .ok (.iconst 1, 1) := by decide +kernel
theorem dX0_giveTurn_51 : decode cX0_giveTurn 51 = .ok (.iadd, 1) := by decide +kernel
theorem dX0_giveTurn_52 : decode cX0_giveTurn 52 = .ok (.putfield 15, 3) := by decide +kernel
theorem dX0_giveTurn_55 : decode cX0_giveTurn 55 = .ok (.aload_n 0, 1) := by decide +kernel
theorem dX0_giveTurn_56 : decode cX0_giveTurn 56 = .ok (.aload_n 0, 1) := by decide +kernel
theorem dX0_giveTurn_57 : decode cX0_giveTurn 57 = .ok (.getfield 15, 3) := by decide +kernel
theorem dX0_giveTurn_60 : decode cX0_giveTurn 60 = .ok (.bipush 100, 2) := by decide +kernel
theorem dX0_giveTurn_62 : decode cX0_giveTurn 62 = .ok (.if_icmp .ge 12, 3) := by decide +kernel
theorem dX0_giveTurn_65 : decode cX0_giveTurn 65 = .ok (.iload_n 1, 1) := by decide +kernel
theorem dX0_giveTurn_66 : decode cX0_giveTurn 66 = .ok (.aload_n 0, 1) := by decide +kernel
theorem dX0_giveTurn_67 : decode cX0_giveTurn 67 = .ok (.invokevirtual 56, 3) := by decide +kernel
theorem dX0_giveTurn_70 : decode cX0_giveTurn 70 = .ok (.iadd, 1) := by decide +kernel
theorem dX0_giveTurn_71 : decode cX0_giveTurn 71 = .ok (.goto 4, 3) := by decide +kernel
theorem dX0_giveTurn_74 : decode cX0_giveTurn 74 = .ok (.iconst (-1), 1) := by decide +kernel
theorem dX0_giveTurn_75 : decode cX0_giveTurn 75 = .ok (.putfield 22, 3) := by decide +kernel
theorem dX0_giveTurn_78 : decode cX0_giveTurn 78 = .ok (.return_, 1) := by decide +kernel
set_option maxRecDepth 20000 in
theorem ggX0_outcomeOf_X2_holdsFrame : GoodIn wsX0_outcomeOf wsX2_holdsFrame := goodIn_r _ [6, 7, 36, 37, 38, 39, 40] (by decide +kernel) (by decide +kernel)
set_option maxRecDepth 20000 in
theorem gX0_outcomeOf_X2_holdsFrame : GoodIn wsX0_outcomeOf (wsV RX0 44 RX2 yX2_holdsFrame wsX2_holdsFrame) := goodIn_app (goodIn_of _ (by decide +kernel)) ggX0_outcomeOf_X2_holdsFrame
set_option maxRecDepth 20000 in
theorem ggX0_outcomeOf_X0_needBefore : GoodIn wsX0_outcomeOf wsX0_needBefore := goodIn_r _ [11, 12, 13, 10, 14] (by decide +kernel) (by decide +kernel)
set_option maxRecDepth 20000 in
theorem gX0_outcomeOf_X0_needBefore : GoodIn wsX0_outcomeOf (va_wsS RX0 60 yX0_needBefore wsX0_needBefore) := goodIn_app (goodIn_of _ (by decide +kernel)) ggX0_outcomeOf_X0_needBefore
set_option maxRecDepth 20000 in
theorem ggX0_outcomeOf_X0_needBehind : GoodIn wsX0_outcomeOf wsX0_needBehind := goodIn_r _ [17, 12, 13, 10, 14] (by decide +kernel) (by decide +kernel)
set_option maxRecDepth 20000 in
theorem gX0_outcomeOf_X0_needBehind : GoodIn wsX0_outcomeOf (va_wsS RX0 63 yX0_needBehind wsX0_needBehind) := goodIn_app (goodIn_of _ (by decide +kernel)) ggX0_outcomeOf_X0_needBehind
set_option maxRecDepth 20000 in
theorem ggX0_outcomeOf_X0_wasShown : GoodIn wsX0_outcomeOf wsX0_wasShown := goodIn_r _ [21, 22, 23, 24, 25, 30, 31, 32, 33, 34, 35] (by decide +kernel) (by decide +kernel)
set_option maxRecDepth 20000 in
theorem gX0_outcomeOf_X0_wasShown : GoodIn wsX0_outcomeOf (wsV RX0 66 RX0 yX0_wasShown wsX0_wasShown) := goodIn_app (goodIn_of _ (by decide +kernel)) ggX0_outcomeOf_X0_wasShown
set_option maxRecDepth 20000 in
theorem ggX0_outcomeOf_X0_isWholeIfAny : GoodIn wsX0_outcomeOf wsX0_isWholeIfAny := goodIn_r _ [29, 1, 2, 3, 4, 5, 6, 7, 30, 31, 32, 33, 34, 35, 36, 37, 38, 39, 40] (by decide +kernel) (by decide +kernel)
set_option maxRecDepth 20000 in
theorem gX0_outcomeOf_X0_isWholeIfAny : GoodIn wsX0_outcomeOf (wsV RX0 69 RX0 yX0_isWholeIfAny wsX0_isWholeIfAny) := goodIn_app (goodIn_of _ (by decide +kernel)) ggX0_outcomeOf_X0_isWholeIfAny
theorem dX0_outcomeOf_0 : decode cX0_outcomeOf 0 = .ok (.aload_n 0, 1) := by decide +kernel
theorem dX0_outcomeOf_1 : decode cX0_outcomeOf 1 = .ok (.getfield 28, 3) := by decide +kernel
theorem dX0_outcomeOf_4 : decode cX0_outcomeOf 4 = .ok (.iload_n 1, 1) := by decide +kernel
theorem dX0_outcomeOf_5 : decode cX0_outcomeOf 5 = .ok (.invokevirtual 44, 3) := by decide +kernel
theorem dX0_outcomeOf_8 : decode cX0_outcomeOf 8 = .ok (.ifCond .ne 5, 3) := by decide +kernel
theorem dX0_outcomeOf_11 : decode cX0_outcomeOf 11 = .ok (.iconst 2, 1) := by decide +kernel
theorem dX0_outcomeOf_12 : decode cX0_outcomeOf 12 = .ok (.ireturn, 1) := by decide +kernel
theorem dX0_outcomeOf_13 : decode cX0_outcomeOf 13 = .ok (.iload_n 1, 1) := by decide +kernel
theorem dX0_outcomeOf_14 : decode cX0_outcomeOf 14 = .ok (.invokestatic 60, 3) := by decide +kernel
theorem dX0_outcomeOf_17 : decode cX0_outcomeOf 17 = .ok (.istore_n 2, 1) := by decide +kernel
theorem dX0_outcomeOf_18 : decode cX0_outcomeOf 18 = .ok (.iload_n 1, 1) := by decide +kernel
theorem dX0_outcomeOf_19 : decode cX0_outcomeOf 19 = .ok (.invokestatic 63, 3) := by decide +kernel
theorem dX0_outcomeOf_22 : decode cX0_outcomeOf 22 = .ok (.istore_n 3, 1) := by decide +kernel
theorem dX0_outcomeOf_23 : decode cX0_outcomeOf 23 = .ok (.iload_n 2, 1) := by decide +kernel
theorem dX0_outcomeOf_24 : decode cX0_outcomeOf 24 = .ok (.iconst (-1), 1) := by decide +kernel
theorem dX0_outcomeOf_25 : decode cX0_outcomeOf 25 = .ok (.if_icmp .eq 11, 3) := by decide +kernel
theorem dX0_outcomeOf_28 : decode cX0_outcomeOf 28 = .ok (.aload_n 0, 1) := by decide +kernel
theorem dX0_outcomeOf_29 : decode cX0_outcomeOf 29 = .ok (.iload_n 2, 1) := by decide +kernel
theorem dX0_outcomeOf_30 : decode cX0_outcomeOf 30 = .ok (.invokevirtual 66, 3) := by decide +kernel
theorem dX0_outcomeOf_33 : decode cX0_outcomeOf 33 = .ok (.ifCond .eq 15, 3) := by decide +kernel
theorem dX0_outcomeOf_36 : decode cX0_outcomeOf 36 = .ok (.aload_n 0, 1) := by decide +kernel
theorem dX0_outcomeOf_37 : decode cX0_outcomeOf 37 = .ok (.iload_n 3, 1) := by decide +kernel
theorem dX0_outcomeOf_38 : decode cX0_outcomeOf 38 = .ok (.invokevirtual 69, 3) := by decide +kernel
theorem dX0_outcomeOf_41 : decode cX0_outcomeOf 41 = .ok (.ifCond .eq 7, 3) := by decide +kernel
theorem dX0_outcomeOf_44 : decode cX0_outcomeOf 44 = .ok (.iconst 1, 1) := by decide +kernel
theorem dX0_outcomeOf_45 : decode cX0_outcomeOf 45 = .ok (.goto 4, 3) := by decide +kernel
theorem dX0_outcomeOf_48 : decode cX0_outcomeOf 48 = .ok (.iconst 0, 1) := by decide +kernel
theorem dX0_outcomeOf_49 : decode cX0_outcomeOf 49 = .ok (.istore 4, 2) := by decide +kernel
theorem dX0_outcomeOf_51 : decode cX0_outcomeOf 51 = .ok (.iload 4, 2) := by decide +kernel
theorem dX0_outcomeOf_53 : decode cX0_outcomeOf 53 = .ok (.ifCond .eq 7, 3) := by decide +kernel
theorem dX0_outcomeOf_56 : decode cX0_outcomeOf 56 = .ok (.iconst 1, 1) := by decide +kernel
theorem dX0_outcomeOf_57 : decode cX0_outcomeOf 57 = .ok (.goto 4, 3) := by decide +kernel
theorem dX0_outcomeOf_60 : decode cX0_outcomeOf 60 = .ok (.iconst 3, 1) := by decide +kernel
theorem dX0_outcomeOf_61 : decode cX0_outcomeOf 61 = .ok (.ireturn, 1) := by decide +kernel
set_option maxRecDepth 20000 in
theorem ggX0_wasShown_X3_isFrame : GoodIn wsX0_wasShown wsX3_isFrame := goodIn_r _ [4] (by decide +kernel) (by decide +kernel)
set_option maxRecDepth 20000 in
theorem gX0_wasShown_X3_isFrame_n50 : GoodIn wsX0_wasShown (wsX3_isFrame) := ggX0_wasShown_X3_isFrame
theorem dX0_wasShown_0 : decode cX0_wasShown 0 = .ok (.iload_n 1, 1) := by decide +kernel
theorem dX0_wasShown_1 : decode cX0_wasShown 1 = .ok (.invokestatic 50, 3) := by decide +kernel
theorem dX0_wasShown_4 : decode cX0_wasShown 4 = .ok (.ifCond .eq 17, 3) := by decide +kernel
theorem dX0_wasShown_7 : decode cX0_wasShown 7 = .ok (.aload_n 0, 1) := by decide +kernel
theorem dX0_wasShown_8 : decode cX0_wasShown 8 = .ok (.getfield 9, 3) := by decide +kernel
theorem dX0_wasShown_11 : decode cX0_wasShown 11 = .ok (.iload_n 1, 1) := by decide +kernel
theorem dX0_wasShown_12 : decode cX0_wasShown 12 = .ok (.iaload, 1) := by decide +kernel
theorem dX0_wasShown_13 : decode cX0_wasShown 13 = .ok (.iconst 1, 1) := by decide +kernel
theorem dX0_wasShown_14 : decode cX0_wasShown 14 = .ok (.if_icmp .ne 7, 3) := by decide +kernel
theorem dX0_wasShown_17 : decode cX0_wasShown 17 = .ok (.iconst 1, 1) := by decide +kernel
theorem dX0_wasShown_18 : decode cX0_wasShown 18 = .ok (.goto 4, 3) := by decide +kernel
theorem dX0_wasShown_21 : decode cX0_wasShown 21 = .ok (.iconst 0, 1) := by decide +kernel
theorem dX0_wasShown_22 : decode cX0_wasShown 22 = .ok (.ireturn, 1) := by decide +kernel
set_option maxRecDepth 20000 in
theorem ggX0_isWholeIfAny_X2_holdsFrame : GoodIn wsX0_isWholeIfAny wsX2_holdsFrame := goodIn_r _ [6, 7, 14, 15, 16, 17, 18] (by decide +kernel) (by decide +kernel)
set_option maxRecDepth 20000 in
theorem gX0_isWholeIfAny_X2_holdsFrame : GoodIn wsX0_isWholeIfAny (wsV RX0 44 RX2 yX2_holdsFrame wsX2_holdsFrame) := goodIn_app (goodIn_of _ (by decide +kernel)) ggX0_isWholeIfAny_X2_holdsFrame
theorem dX0_isWholeIfAny_0 : decode cX0_isWholeIfAny 0 = .ok (.iload_n 1, 1) := by decide +kernel
theorem dX0_isWholeIfAny_1 : decode cX0_isWholeIfAny 1 = .ok (.iconst (-1), 1) := by decide +kernel
theorem dX0_isWholeIfAny_2 : decode cX0_isWholeIfAny 2 = .ok (.if_icmp .eq 14, 3) := by decide +kernel
theorem dX0_isWholeIfAny_5 : decode cX0_isWholeIfAny 5 = .ok (.aload_n 0, 1) := by decide +kernel
theorem dX0_isWholeIfAny_6 : decode cX0_isWholeIfAny 6 = .ok (.getfield 28, 3) := by decide +kernel
theorem dX0_isWholeIfAny_9 : decode cX0_isWholeIfAny 9 = .ok (.iload_n 1, 1) := by decide +kernel
theorem dX0_isWholeIfAny_10 : decode cX0_isWholeIfAny 10 = .ok (.invokevirtual 44, 3) := by decide +kernel
theorem dX0_isWholeIfAny_13 : decode cX0_isWholeIfAny 13 = .ok (.ifCond .eq 7, 3) := by decide +kernel
theorem dX0_isWholeIfAny_16 : decode cX0_isWholeIfAny 16 = .ok (.iconst 1, 1) := by decide +kernel
theorem dX0_isWholeIfAny_17 : decode cX0_isWholeIfAny 17 = .ok (.goto 4, 3) := by decide +kernel
theorem dX0_isWholeIfAny_20 : decode cX0_isWholeIfAny 20 = .ok (.iconst 0, 1) := by decide +kernel
theorem dX0_isWholeIfAny_21 : decode cX0_isWholeIfAny 21 = .ok (.ireturn, 1) := by decide +kernel
set_option maxRecDepth 20000 in
theorem ggX0_pace_X0_wholeAhead : GoodIn wsX0_pace wsX0_wholeAhead := goodIn_r _ [5, 6, 7, 8, 9, 10, 11, 12, 13, 14, 15, 16, 17, 18, 19, 20, 21, 22, 23, 24] (by decide +kernel) (by decide +kernel)
set_option maxRecDepth 20000 in
theorem gX0_pace_X0_wholeAhead : GoodIn wsX0_pace (wsV RX0 72 RX0 yX0_wholeAhead wsX0_wholeAhead) := goodIn_app (goodIn_of _ (by decide +kernel)) ggX0_pace_X0_wholeAhead
theorem dX0_pace_0 : decode cX0_pace 0 = .ok (.aload_n 0, 1) := by decide +kernel
theorem dX0_pace_1 : decode cX0_pace 1 = .ok (.invokevirtual 72, 3) := by decide +kernel
theorem dX0_pace_4 : decode cX0_pace 4 = .ok (.istore_n 1, 1) := by decide +kernel
theorem dX0_pace_5 : decode cX0_pace 5 = .ok (.iload_n 1, 1) := by decide +kernel
theorem dX0_pace_6 : decode cX0_pace 6 = .ok (.bipush 6, 2) := by decide +kernel
theorem dX0_pace_8 : decode cX0_pace 8 = .ok (.if_icmp .lt 6, 3) := by decide +kernel
theorem dX0_pace_11 : decode cX0_pace 11 = .ok (.bipush 9, 2) := by decide +kernel
theorem dX0_pace_13 : decode cX0_pace 13 = .ok (.ireturn, 1) := by decide +kernel
theorem dX0_pace_14 : decode cX0_pace 14 = .ok (.iload_n 1, 1) := by decide +kernel
theorem dX0_pace_15 : decode cX0_pace 15 = .ok (.iconst 1, 1) := by decide +kernel
theorem dX0_pace_16 : decode cX0_pace 16 = .ok (.if_icmp .gt 8, 3) := by decide +kernel
theorem dX0_pace_19 : decode cX0_pace 19 = .ok (.bipush 11, 2) := by decide +kernel
theorem dX0_pace_21 : decode cX0_pace 21 = .ok (.goto 5, 3) := by decide +kernel
theorem dX0_pace_24 : decode cX0_pace 24 = .ok (.bipush 10, 2) := by decide +kernel
theorem dX0_pace_26 : decode cX0_pace 26 = .ok (.ireturn, 1) := by decide +kernel
set_option maxRecDepth 20000 in
theorem ggX0_wholeAhead_X2_holdsFrame : GoodIn wsX0_wholeAhead wsX2_holdsFrame := goodIn_r _ [7, 8, 15, 16, 17, 18, 19] (by decide +kernel) (by decide +kernel)
set_option maxRecDepth 20000 in
theorem gX0_wholeAhead_X2_holdsFrame : GoodIn wsX0_wholeAhead (wsV RX0 44 RX2 yX2_holdsFrame wsX2_holdsFrame) := goodIn_app (goodIn_of _ (by decide +kernel)) ggX0_wholeAhead_X2_holdsFrame
theorem dX0_wholeAhead_0 : decode cX0_wholeAhead 0 = .ok (.iconst 0, 1) := by decide +kernel
theorem dX0_wholeAhead_1 : decode cX0_wholeAhead 1 = .ok (.istore_n 1, 1) := by decide +kernel
theorem dX0_wholeAhead_2 : decode cX0_wholeAhead 2 = .ok (.aload_n 0, 1) := by decide +kernel
theorem dX0_wholeAhead_3 : decode cX0_wholeAhead 3 = .ok (.getfield 15, 3) := by decide +kernel
theorem dX0_wholeAhead_6 : decode cX0_wholeAhead 6 = .ok (.istore_n 2, 1) := by decide +kernel
theorem dX0_wholeAhead_7 : decode cX0_wholeAhead 7 = .ok (.iload_n 2, 1) := by decide +kernel
theorem dX0_wholeAhead_8 : decode cX0_wholeAhead 8 = .ok (.bipush 100, 2) := by decide +kernel
theorem dX0_wholeAhead_10 : decode cX0_wholeAhead 10 = .ok (.if_icmp .ge 23, 3) := by decide +kernel
theorem dX0_wholeAhead_13 : decode cX0_wholeAhead 13 = .ok (.aload_n 0, 1) := by decide +kernel
theorem dX0_wholeAhead_14 : decode cX0_wholeAhead 14 = .ok (.getfield 28, 3) := by decide +kernel
theorem dX0_wholeAhead_17 : decode cX0_wholeAhead 17 = .ok (.iload_n 2, 1) := by decide +kernel
theorem dX0_wholeAhead_18 : decode cX0_wholeAhead 18 = .ok (.invokevirtual 44, 3) := by decide +kernel
theorem dX0_wholeAhead_21 : decode cX0_wholeAhead 21 = .ok (.ifCond .eq 12, 3) := by decide +kernel
theorem dX0_wholeAhead_24 : decode cX0_wholeAhead 24 = .ok (.iinc 1 1, 3) := by decide +kernel
theorem dX0_wholeAhead_27 : decode cX0_wholeAhead 27 = .ok (.iinc 2 1, 3) := by decide +kernel
theorem dX0_wholeAhead_30 : decode cX0_wholeAhead 30 = .ok (.goto (-23), 3) := by decide +kernel
theorem dX0_wholeAhead_33 : decode cX0_wholeAhead 33 = .ok (.iload_n 1, 1) := by decide +kernel
theorem dX0_wholeAhead_34 : decode cX0_wholeAhead 34 = .ok (.ireturn, 1) := by decide +kernel
set_option maxRecDepth 20000 in
theorem ggX0_countShowable_X2_holdsFrame : GoodIn wsX0_countShowable wsX2_holdsFrame := goodIn_r _ [7, 8, 33, 34, 35, 36, 37] (by decide +kernel) (by decide +kernel)
set_option maxRecDepth 20000 in
theorem gX0_countShowable_X2_holdsFrame : GoodIn wsX0_countShowable (wsV RX0 44 RX2 yX2_holdsFrame wsX2_holdsFrame) := goodIn_app (goodIn_of _ (by decide +kernel)) ggX0_countShowable_X2_holdsFrame
set_option maxRecDepth 20000 in
theorem ggX0_countShowable_X0_needBefore : GoodIn wsX0_countShowable wsX0_needBefore := goodIn_r _ [12, 13, 14, 11, 15] (by decide +kernel) (by decide +kernel)
set_option maxRecDepth 20000 in
theorem gX0_countShowable_X0_needBefore : GoodIn wsX0_countShowable (va_wsS RX0 60 yX0_needBefore wsX0_needBefore) := goodIn_app (goodIn_of _ (by decide +kernel)) ggX0_countShowable_X0_needBefore
set_option maxRecDepth 20000 in
theorem ggX0_countShowable_X0_isAnchorShowable : GoodIn wsX0_countShowable wsX0_isAnchorShowable := goodIn_r _ [19, 2, 3, 4, 5, 6, 7, 8, 9, 10, 11, 12, 13, 14, 15, 20, 21, 22, 23, 27, 28, 29, 30, 31, 32, 33, 34, 35, 36, 37] (by decide +kernel) (by decide +kernel)
set_option maxRecDepth 20000 in
theorem gX0_countShowable_X0_isAnchorShowable : GoodIn wsX0_countShowable (wsV RX0 75 RX0 yX0_isAnchorShowable wsX0_isAnchorShowable) := goodIn_app (goodIn_of _ (by decide +kernel)) ggX0_countShowable_X0_isAnchorShowable
set_option maxRecDepth 20000 in
theorem ggX0_countShowable_X0_needBehind : GoodIn wsX0_countShowable wsX0_needBehind := goodIn_r _ [26, 13, 14, 11, 15] (by decide +kernel) (by decide +kernel)
set_option maxRecDepth 20000 in
theorem gX0_countShowable_X0_needBehind : GoodIn wsX0_countShowable (va_wsS RX0 63 yX0_needBehind wsX0_needBehind) := goodIn_app (goodIn_of _ (by decide +kernel)) ggX0_countShowable_X0_needBehind
theorem dX0_countShowable_0 : decode cX0_countShowable 0 = .ok (.iconst 0, 1) := by decide +kernel
theorem dX0_countShowable_1 : decode cX0_countShowable 1 = .ok (.istore_n 1, 1) := by decide +kernel
theorem dX0_countShowable_2 : decode cX0_countShowable 2 = .ok (.iconst 0, 1) := by decide +kernel
theorem dX0_countShowable_3 : decode cX0_countShowable 3 = .ok (.istore_n 2, 1) := by decide +kernel
theorem dX0_countShowable_4 : decode cX0_countShowable 4 = .ok (.iload_n 2, 1) := by decide +kernel
theorem dX0_countShowable_5 : decode cX0_countShowable 5 = .ok (.aload_n 0, 1) := by decide +kernel
theorem dX0_countShowable_6 : decode cX0_countShowable 6 = .ok (.getfield 15, 3) := by decide +kernel
theorem dX0_countShowable_9 : decode cX0_countShowable 9 = .ok (.if_icmp .ge 45, 3) := by decide +kernel
theorem dX0_countShowable_12 : decode cX0_countShowable 12 = .ok (.aload_n 0, 1) := by decide +kernel
theorem dX0_countShowable_13 : decode cX0_countShowable 13 = .ok (.getfield 28, 3) := by decide +kernel
theorem dX0_countShowable_16 : decode cX0_countShowable 16 = .ok (.iload_n 2, 1) := by decide +kernel
theorem dX0_countShowable_17 : decode cX0_countShowable 17 = .ok (.invokevirtual 44, 3) := by decide +kernel
theorem dX0_countShowable_20 : decode cX0_countShowable 20 = .ok (.ifCond .eq 28, 3) := by decide +kernel
theorem dX0_countShowable_23 : decode cX0_countShowable 23 = .ok (.aload_n 0, 1) := by decide +kernel
theorem dX0_countShowable_24 : decode cX0_countShowable 24 = .ok (.iload_n 2, 1) := by decide +kernel
theorem dX0_countShowable_25 : decode cX0_countShowable 25 = .ok (.invokestatic 60, 3) := by decide +kernel
theorem dX0_countShowable_28 : decode cX0_countShowable 28 = .ok (.invokevirtual 75, 3) := by decide +kernel
theorem dX0_countShowable_31 : decode cX0_countShowable 31 = .ok (.ifCond .eq 17, 3) := by decide +kernel
theorem dX0_countShowable_34 : decode cX0_countShowable 34 = .ok (.aload_n 0, 1) := by decide +kernel
theorem dX0_countShowable_35 : decode cX0_countShowable 35 = .ok (.iload_n 2, 1) := by decide +kernel
theorem dX0_countShowable_36 : decode cX0_countShowable 36 = .ok (.invokestatic 63, 3) := by decide +kernel
theorem dX0_countShowable_39 : decode cX0_countShowable 39 = .ok (.invokevirtual 75, 3) := by decide +kernel
theorem dX0_countShowable_42 : decode cX0_countShowable 42 = .ok (.ifCond .eq 6, 3) := by decide +kernel
theorem dX0_countShowable_45 : decode cX0_countShowable 45 = .ok (.iinc 1 1, 3) := by decide +kernel
theorem dX0_countShowable_48 : decode cX0_countShowable 48 = .ok (.iinc 2 1, 3) := by decide +kernel
theorem dX0_countShowable_51 : decode cX0_countShowable 51 = .ok (.goto (-47), 3) := by decide +kernel
theorem dX0_countShowable_54 : decode cX0_countShowable 54 = .ok (.iload_n 1, 1) := by decide +kernel
theorem dX0_countShowable_55 : decode cX0_countShowable 55 = .ok (.ireturn, 1) := by decide +kernel
set_option maxRecDepth 20000 in
theorem ggX0_isAnchorShowable_X2_holdsFrame : GoodIn wsX0_isAnchorShowable wsX2_holdsFrame := goodIn_r _ [6, 7, 25, 26, 27, 28, 29] (by decide +kernel) (by decide +kernel)
set_option maxRecDepth 20000 in
theorem gX0_isAnchorShowable_X2_holdsFrame : GoodIn wsX0_isAnchorShowable (wsV RX0 44 RX2 yX2_holdsFrame wsX2_holdsFrame) := goodIn_app (goodIn_of _ (by decide +kernel)) ggX0_isAnchorShowable_X2_holdsFrame
set_option maxRecDepth 20000 in
theorem ggX0_isAnchorShowable_X0_needBefore : GoodIn wsX0_isAnchorShowable wsX0_needBefore := goodIn_r _ [11, 12, 13, 10, 14] (by decide +kernel) (by decide +kernel)
set_option maxRecDepth 20000 in
theorem gX0_isAnchorShowable_X0_needBefore : GoodIn wsX0_isAnchorShowable (va_wsS RX0 60 yX0_needBefore wsX0_needBefore) := goodIn_app (goodIn_of _ (by decide +kernel)) ggX0_isAnchorShowable_X0_needBefore
set_option maxRecDepth 20000 in
theorem ggX0_isAnchorShowable_X0_isWholeIfAny : GoodIn wsX0_isAnchorShowable wsX0_isWholeIfAny := goodIn_r _ [18, 1, 2, 3, 4, 5, 6, 7, 19, 20, 21, 22, 23, 24, 25, 26, 27, 28, 29] (by decide +kernel) (by decide +kernel)
set_option maxRecDepth 20000 in
theorem gX0_isAnchorShowable_X0_isWholeIfAny : GoodIn wsX0_isAnchorShowable (wsV RX0 69 RX0 yX0_isWholeIfAny wsX0_isWholeIfAny) := goodIn_app (goodIn_of _ (by decide +kernel)) ggX0_isAnchorShowable_X0_isWholeIfAny
theorem dX0_isAnchorShowable_0 : decode cX0_isAnchorShowable 0 = .ok (.iload_n 1, 1) := by decide +kernel
theorem dX0_isAnchorShowable_1 : decode cX0_isAnchorShowable 1 = .ok (.iconst (-1), 1) := by decide +kernel
theorem dX0_isAnchorShowable_2 : decode cX0_isAnchorShowable 2 = .ok (.if_icmp .eq 25, 3) := by decide +kernel
theorem dX0_isAnchorShowable_5 : decode cX0_isAnchorShowable 5 = .ok (.aload_n 0, 1) := by decide +kernel
theorem dX0_isAnchorShowable_6 : decode cX0_isAnchorShowable 6 = .ok (.getfield 28, 3) := by decide +kernel
theorem dX0_isAnchorShowable_9 : decode cX0_isAnchorShowable 9 = .ok (.iload_n 1, 1) := by decide +kernel
theorem dX0_isAnchorShowable_10 : decode cX0_isAnchorShowable 10 = .ok (.invokevirtual 44, 3) := by decide +kernel
theorem dX0_isAnchorShowable_13 : decode cX0_isAnchorShowable 13 = .ok (.ifCond .eq 18, 3) := by decide +kernel
theorem dX0_isAnchorShowable_16 : decode cX0_isAnchorShowable 16 = .ok (.aload_n 0, 1) := by decide +kernel
theorem dX0_isAnchorShowable_17 : decode cX0_isAnchorShowable 17 = .ok (.iload_n 1, 1) := by decide +kernel
theorem dX0_isAnchorShowable_18 : decode cX0_isAnchorShowable 18 = .ok (.invokestatic 60, 3) := by decide +kernel
theorem dX0_isAnchorShowable_21 : decode cX0_isAnchorShowable 21 = .ok (.invokevirtual 69, 3) := by decide +kernel
theorem dX0_isAnchorShowable_24 : decode cX0_isAnchorShowable 24 = .ok (.ifCond .eq 7, 3) := by decide +kernel
theorem dX0_isAnchorShowable_27 : decode cX0_isAnchorShowable 27 = .ok (.iconst 1, 1) := by decide +kernel
theorem dX0_isAnchorShowable_28 : decode cX0_isAnchorShowable 28 = .ok (.goto 4, 3) := by decide +kernel
theorem dX0_isAnchorShowable_31 : decode cX0_isAnchorShowable 31 = .ok (.iconst 0, 1) := by decide +kernel
theorem dX0_isAnchorShowable_32 : decode cX0_isAnchorShowable 32 = .ok (.ireturn, 1) := by decide +kernel
theorem dX0_delay_0 : decode cX0_delay 0 = .ok (.aload_n 0, 1) := by decide +kernel
theorem dX0_delay_1 : decode cX0_delay 1 = .ok (.getfield 22, 3) := by decide +kernel
theorem dX0_delay_4 : decode cX0_delay 4 = .ok (.iconst (-1), 1) := by decide +kernel
theorem dX0_delay_5 : decode cX0_delay 5 = .ok (.if_icmp .ne 7, 3) := by decide +kernel
theorem dX0_delay_8 : decode cX0_delay 8 = .ok (.iconst 0, 1) := by decide +kernel
theorem dX0_delay_9 : decode cX0_delay 9 = .ok (.goto 20, 3) := by decide +kernel
theorem dX0_delay_12 : decode cX0_delay 12 = .ok (.aload_n 0, 1) := by decide +kernel
theorem dX0_delay_13 : decode cX0_delay 13 = .ok (.getfield 22, 3) := by decide +kernel
theorem dX0_delay_16 : decode cX0_delay 16 = .ok (.aload_n 0, 1) := by decide +kernel
theorem dX0_delay_17 : decode cX0_delay 17 = .ok (.getfield 19, 3) := by decide +kernel
theorem dX0_delay_20 : decode cX0_delay 20 = .ok (.isub, 1) := by decide +kernel
theorem dX0_delay_21 : decode cX0_delay 21 = .ok (.bipush 10, 2) := by decide +kernel
theorem dX0_delay_23 : decode cX0_delay 23 = .ok (.aload_n 0, 1) := by decide +kernel
theorem dX0_delay_24 : decode cX0_delay 24 = .ok (.getfield 15, 3) := by decide +kernel
theorem dX0_delay_27 : decode cX0_delay 27 = .ok (.imul, 1) := by decide +kernel
theorem dX0_delay_28 : decode cX0_delay 28 = .ok (.isub, 1) := by decide +kernel
theorem dX0_delay_29 : decode cX0_delay 29 = .ok (.ireturn, 1) := by decide +kernel
theorem dX1_init_0 : decode cX1_init 0 = .ok (.aload_n 0, 1) := by decide +kernel
theorem dX1_init_1 : decode cX1_init 1 = .ok (.invokespecial 3, 3) := by decide +kernel
theorem dX1_init_4 : decode cX1_init 4 = .ok (.aload_n 0, 1) := by decide +kernel
theorem dX1_init_5 : decode cX1_init 5 = .ok (.bipush 32, 2) := by decide +kernel
theorem dX1_init_7 : decode cX1_init 7 = .ok (.newarray .int, 2) := by decide +kernel
theorem dX1_init_9 : decode cX1_init 9 = .ok (.putfield 9, 3) := by decide +kernel
theorem dX1_init_12 : decode cX1_init 12 = .ok (.aload_n 0, 1) := by decide +kernel
theorem dX1_init_13 : decode cX1_init 13 = .ok (.bipush 32, 2) := by decide +kernel
theorem dX1_init_15 : decode cX1_init 15 = .ok (.newarray .int, 2) := by decide +kernel
theorem dX1_init_17 : decode cX1_init 17 = .ok (.putfield 15, 3) := by decide +kernel
theorem dX1_init_20 : decode cX1_init 20 = .ok (.aload_n 0, 1) := by decide +kernel
theorem dX1_init_21 : decode cX1_init 21 = .ok (.iconst 0, 1) := by decide +kernel
theorem dX1_init_22 : decode cX1_init 22 = .ok (.putfield 18, 3) := by decide +kernel
theorem dX1_init_25 : decode cX1_init 25 = .ok (.aload_n 0, 1) := by decide +kernel
theorem dX1_init_26 : decode cX1_init 26 = .ok (.bipush 16, 2) := by decide +kernel
theorem dX1_init_28 : decode cX1_init 28 = .ok (.putfield 22, 3) := by decide +kernel
theorem dX1_init_31 : decode cX1_init 31 = .ok (.aload_n 0, 1) := by decide +kernel
theorem dX1_init_32 : decode cX1_init 32 = .ok (.iconst 4, 1) := by decide +kernel
theorem dX1_init_33 : decode cX1_init 33 = .ok (.putfield 25, 3) := by decide +kernel
theorem dX1_init_36 : decode cX1_init 36 = .ok (.aload_n 0, 1) := by decide +kernel
theorem dX1_init_37 : decode cX1_init 37 = .ok (.iconst 3, 1) := by decide +kernel
theorem dX1_init_38 : decode cX1_init 38 = .ok (.putfield 28, 3) := by decide +kernel
theorem dX1_init_41 : decode cX1_init 41 = .ok (.aload_n 0, 1) := by decide +kernel
theorem dX1_init_42 : decode cX1_init 42 = .ok (.bipush 8, 2) := by decide +kernel
theorem dX1_init_44 : decode cX1_init 44 = .ok (.putfield 31, 3) := by decide +kernel
theorem dX1_init_47 : decode cX1_init 47 = .ok (.aload_n 0, 1) := by decide +kernel
theorem dX1_init_48 : decode cX1_init 48 = .ok (.iconst 0, 1) := by decide +kernel
theorem dX1_init_49 : decode cX1_init 49 = .ok (.putfield 34, 3) := by decide +kernel
theorem dX1_init_52 : decode cX1_init 52 = .ok (.aload_n 0, 1) := by decide +kernel
theorem dX1_init_53 : decode cX1_init 53 = .ok (.iconst 0, 1) := by decide +kernel
theorem dX1_init_54 : decode cX1_init 54 = .ok (.putfield 38, 3) := by decide +kernel
theorem dX1_init_57 : decode cX1_init 57 = .ok (.return_, 1) := by decide +kernel
theorem dX1_put_0 : decode cX1_put 0 = .ok (.aload_n 0, 1) := by decide +kernel
theorem dX1_put_1 : decode cX1_put 1 = .ok (.getfield 18, 3) := by decide +kernel
theorem dX1_put_4 : decode cX1_put 4 = .ok (.aload_n 0, 1) := by decide +kernel
theorem dX1_put_5 : decode cX1_put 5 = .ok (.getfield 22, 3) := by decide +kernel
theorem dX1_put_8 : decode cX1_put 8 = .ok (.if_icmp .ge 12, 3) := by decide +kernel
theorem dX1_put_11 : decode cX1_put 11 = .ok (.aload_n 0, 1) := by decide +kernel
theorem dX1_put_12 : decode cX1_put 12 = .ok (.getfield 18, 3) := by decide +kernel
theorem dX1_put_15 : decode cX1_put 15 = .ok (.bipush 32, 2) := by decide +kernel
theorem dX1_put_17 : decode cX1_put 17 = .ok (.if_icmp .lt 15, 3) := by decide +kernel
theorem dX1_put_20 : decode cX1_put 20 = .ok (.aload_n 0, 1) := by decide +kernel
theorem dX1_put_21 : decode cX1_put 21 = .ok (.dup, 1) := by decide +kernel
theorem dX1_put_22 : decode cX1_put 22 = .ok (.getfield 38, 3) := by decide +kernel
theorem dX1_put_25 : decode cX1_put 25 = .ok (.iconst 1, 1) := by decide +kernel
theorem dX1_put_26 : decode cX1_put 26 = .ok (.iadd, 1) := by decide +kernel
theorem dX1_put_27 : decode cX1_put 27 = .ok (.putfield 38, 3) := by decide +kernel
theorem dX1_put_30 : decode cX1_put 30 = .ok (.iconst 0, 1) := by decide +kernel
theorem dX1_put_31 : decode cX1_put 31 = .ok (.ireturn, 1) := by decide +kernel
theorem dX1_put_32 : decode cX1_put 32 = .ok (.aload_n 0, 1) := by decide +kernel
theorem dX1_put_33 : decode cX1_put 33 = .ok (.getfield 9, 3) := by decide +kernel
theorem dX1_put_36 : decode cX1_put 36 = .ok (.aload_n 0, 1) := by decide +kernel
theorem dX1_put_37 : decode cX1_put 37 = .ok (.getfield 18, 3) := by decide +kernel
theorem dX1_put_40 : decode cX1_put 40 = .ok (.iload_n 1, 1) := by decide +kernel
theorem dX1_put_41 : decode cX1_put 41 = .ok (.iastore, 1) := by decide +kernel
theorem dX1_put_42 : decode cX1_put 42 = .ok (.aload_n 0, 1) := by decide +kernel
theorem dX1_put_43 : decode cX1_put 43 = .ok (.getfield 15, 3) := by decide +kernel
theorem dX1_put_46 : decode cX1_put 46 = .ok (.aload_n 0, 1) := by decide +kernel
theorem dX1_put_47 : decode cX1_put 47 = .ok (.getfield 18, 3) := by decide +kernel
theorem dX1_put_50 : decode cX1_put 50 = .ok (.iload_n 2, 1) := by decide +kernel
theorem dX1_put_51 : decode cX1_put 51 = .ok (.iastore, 1) := by decide +kernel
theorem dX1_put_52 : decode cX1_put 52 = .ok (.aload_n 0, 1) := by decide +kernel
theorem dX1_put_53 : decode cX1_put 53 = .ok (.dup, 1) := by decide +kernel
theorem dX1_put_54 : decode cX1_put 54 = .ok (.getfield 18, 3) := by decide +kernel
theorem dX1_put_57 : decode cX1_put 57 = .ok (.iconst 1, 1) := by decide +kernel
theorem dX1_put_58 : decode cX1_put 58 = .ok (.iadd, 1) := by decide +kernel
theorem dX1_put_59 : decode cX1_put 59 = .ok (.putfield 18, 3) := by decide +kernel
theorem dX1_put_62 : decode cX1_put 62 = .ok (.iconst 1, 1) := by decide +kernel
theorem dX1_put_63 : decode cX1_put 63 = .ok (.ireturn, 1) := by decide +kernel
theorem dX1_loseAll_0 : decode cX1_loseAll 0 = .ok (.aload_n 0, 1) := by decide +kernel
theorem dX1_loseAll_1 : decode cX1_loseAll 1 = .ok (.getfield 18, 3) := by decide +kernel
theorem dX1_loseAll_4 : decode cX1_loseAll 4 = .ok (.istore_n 1, 1) := by decide +kernel
theorem dX1_loseAll_5 : decode cX1_loseAll 5 = .ok (.aload_n 0, 1) := by decide +kernel
theorem dX1_loseAll_6 : decode cX1_loseAll 6 = .ok (.dup, 1) := by decide +kernel
theorem dX1_loseAll_7 : decode cX1_loseAll 7 = .ok (.getfield 38, 3) := by decide +kernel
theorem dX1_loseAll_10 : decode cX1_loseAll 10 = .ok (.iload_n 1, 1) := by decide +kernel
theorem dX1_loseAll_11 : decode cX1_loseAll 11 = .ok (.iadd, 1) := by decide +kernel
theorem dX1_loseAll_12 : decode cX1_loseAll 12 = .ok (.putfield 38, 3) := by decide +kernel
theorem dX1_loseAll_15 : decode cX1_loseAll 15 = .ok (.aload_n 0, 1) := by decide +kernel
theorem dX1_loseAll_16 : decode cX1_loseAll 16 = .ok (.iconst 0, 1) := by decide +kernel
theorem dX1_loseAll_17 : decode cX1_loseAll 17 = .ok (.putfield 18, 3) := by decide +kernel
theorem dX1_loseAll_20 : decode cX1_loseAll 20 = .ok (.aload_n 0, 1) := by decide +kernel
theorem dX1_loseAll_21 : decode cX1_loseAll 21 = .ok (.iconst 0, 1) := by decide +kernel
theorem dX1_loseAll_22 : decode cX1_loseAll 22 = .ok (.putfield 34, 3) := by decide +kernel
theorem dX1_loseAll_25 : decode cX1_loseAll 25 = .ok (.iload_n 1, 1) := by decide +kernel
theorem dX1_loseAll_26 : decode cX1_loseAll 26 = .ok (.ireturn, 1) := by decide +kernel
set_option maxRecDepth 20000 in
theorem ggX1_chooseMany_X1_isInterruptDue : GoodIn wsX1_chooseMany wsX1_isInterruptDue := goodIn_r _ [12, 2, 13, 14, 15, 16, 17, 18, 19, 20, 21, 22, 23, 24] (by decide +kernel) (by decide +kernel)
set_option maxRecDepth 20000 in
theorem gX1_chooseMany_X1_isInterruptDue : GoodIn wsX1_chooseMany (wsV RX1 47 RX1 yX1_isInterruptDue wsX1_isInterruptDue) := goodIn_app (goodIn_of _ (by decide +kernel)) ggX1_chooseMany_X1_isInterruptDue
theorem dX1_chooseMany_0 : decode cX1_chooseMany 0 = .ok (.aload_n 0, 1) := by decide +kernel
theorem dX1_chooseMany_1 : decode cX1_chooseMany 1 = .ok (.getfield 34, 3) := by decide +kernel
theorem dX1_chooseMany_4 : decode cX1_chooseMany 4 = .ok (.ifCond .eq 28, 3) := by decide +kernel
theorem dX1_chooseMany_7 : decode cX1_chooseMany 7 = .ok (.aload_n 0, 1) := by decide +kernel
theorem dX1_chooseMany_8 : decode cX1_chooseMany 8 = .ok (.getfield 18, 3) := by decide +kernel
theorem dX1_chooseMany_11 : decode cX1_chooseMany 11 = .ok (.bipush 6, 2) := by decide +kernel
theorem dX1_chooseMany_13 : decode cX1_chooseMany 13 = .ok (.invokestatic 41, 3) := by decide +kernel
theorem dX1_chooseMany_16 : decode cX1_chooseMany 16 = .ok (.istore_n 2, 1) := by decide +kernel
theorem dX1_chooseMany_17 : decode cX1_chooseMany 17 = .ok (.aload_n 0, 1) := by decide +kernel
theorem dX1_chooseMany_18 : decode cX1_chooseMany 18 = .ok (.iload_n 2, 1) := by decide +kernel
theorem dX1_chooseMany_19 : decode cX1_chooseMany 19 = .ok (.ifCond .le 7, 3) := by decide +kernel
theorem dX1_chooseMany_22 : decode cX1_chooseMany 22 = .ok (.iconst 1, 1) := by decide +kernel
theorem dX1_chooseMany_23 : decode cX1_chooseMany 23 = .ok (.goto 4, 3) := by decide +kernel
theorem dX1_chooseMany_26 : decode cX1_chooseMany 26 = .ok (.iconst 0, 1) := by decide +kernel
theorem dX1_chooseMany_27 : decode cX1_chooseMany 27 = .ok (.putfield 34, 3) := by decide +kernel
theorem dX1_chooseMany_30 : decode cX1_chooseMany 30 = .ok (.iload_n 2, 1) := by decide +kernel
theorem dX1_chooseMany_31 : decode cX1_chooseMany 31 = .ok (.ireturn, 1) := by decide +kernel
theorem dX1_chooseMany_32 : decode cX1_chooseMany 32 = .ok (.aload_n 0, 1) := by decide +kernel
theorem dX1_chooseMany_33 : decode cX1_chooseMany 33 = .ok (.iload_n 1, 1) := by decide +kernel
theorem dX1_chooseMany_34 : decode cX1_chooseMany 34 = .ok (.invokevirtual 47, 3) := by decide +kernel
theorem dX1_chooseMany_37 : decode cX1_chooseMany 37 = .ok (.ifCond .ne 5, 3) := by decide +kernel
theorem dX1_chooseMany_40 : decode cX1_chooseMany 40 = .ok (.iconst 0, 1) := by decide +kernel
theorem dX1_chooseMany_41 : decode cX1_chooseMany 41 = .ok (.ireturn, 1) := by decide +kernel
theorem dX1_chooseMany_42 : decode cX1_chooseMany 42 = .ok (.aload_n 0, 1) := by decide +kernel
theorem dX1_chooseMany_43 : decode cX1_chooseMany 43 = .ok (.aload_n 0, 1) := by decide +kernel
theorem dX1_chooseMany_44 : decode cX1_chooseMany 44 = .ok (.getfield 18, 3) := by decide +kernel
theorem dX1_chooseMany_47 : decode cX1_chooseMany 47 = .ok (.aload_n 0, 1) := by decide +kernel
theorem dX1_chooseMany_48 : decode cX1_chooseMany 48 = .ok (.getfield 31, 3) := by decide +kernel
theorem dX1_chooseMany_51 : decode cX1_chooseMany 51 = .ok (.if_icmp .lt 7, 3) := by decide +kernel
theorem dX1_chooseMany_54 : decode cX1_chooseMany 54 = .ok (.iconst 1, 1) := by decide +kernel
theorem dX1_chooseMany_55 : decode cX1_chooseMany 55 = .ok (.goto 4, 3) := by decide +kernel
theorem dX1_chooseMany_58 : decode cX1_chooseMany 58 = .ok (.iconst 0, 1) := by decide +kernel
theorem dX1_chooseMany_59 : decode cX1_chooseMany 59 = .ok (.putfield 34, 3) := by decide +kernel
theorem dX1_chooseMany_62 : decode cX1_chooseMany 62 = .ok (.aload_n 0, 1) := by decide +kernel
theorem dX1_chooseMany_63 : decode cX1_chooseMany 63 = .ok (.getfield 18, 3) := by decide +kernel
theorem dX1_chooseMany_66 : decode cX1_chooseMany 66 = .ok (.ireturn, 1) := by decide +kernel
theorem dX1_isInterruptDue_0 : decode cX1_isInterruptDue 0 = .ok (.aload_n 0, 1) := by decide +kernel
theorem dX1_isInterruptDue_1 : decode cX1_isInterruptDue 1 = .ok (.getfield 18, 3) := by decide +kernel
theorem dX1_isInterruptDue_4 : decode cX1_isInterruptDue 4 = .ok (.aload_n 0, 1) := by decide +kernel
theorem dX1_isInterruptDue_5 : decode cX1_isInterruptDue 5 = .ok (.getfield 25, 3) := by decide +kernel
theorem dX1_isInterruptDue_8 : decode cX1_isInterruptDue 8 = .ok (.if_icmp .ge 25, 3) := by decide +kernel
theorem dX1_isInterruptDue_11 : decode cX1_isInterruptDue 11 = .ok (.aload_n 0, 1) := by decide +kernel
theorem dX1_isInterruptDue_12 : decode cX1_isInterruptDue 12 = .ok (.getfield 18, 3) := by decide +kernel
theorem dX1_isInterruptDue_15 : decode cX1_isInterruptDue 15 = .ok (.ifCond .le 22, 3) := by decide +kernel
theorem dX1_isInterruptDue_18 : decode cX1_isInterruptDue 18 = .ok (.iload_n 1, 1) := by decide +kernel
theorem dX1_isInterruptDue_19 : decode cX1_isInterruptDue 19 = .ok (.aload_n 0, 1) := by decide +kernel
theorem dX1_isInterruptDue_20 : decode cX1_isInterruptDue 20 = .ok (.getfield 15, 3) := by decide +kernel
theorem dX1_isInterruptDue_23 : decode cX1_isInterruptDue 23 = .ok (.iconst 0, 1) := by decide +kernel
theorem dX1_isInterruptDue_24 : decode cX1_isInterruptDue 24 = .ok (.iaload, 1) := by decide +kernel
theorem dX1_isInterruptDue_25 : decode cX1_isInterruptDue 25 = .ok (.isub, 1) := by decide +kernel
theorem dX1_isInterruptDue_26 : decode cX1_isInterruptDue 26 = .ok (.aload_n 0, 1) := by decide +kernel
theorem dX1_isInterruptDue_27 : decode cX1_isInterruptDue 27 = .ok (.getfield 28, 3) := by decide +kernel
theorem dX1_isInterruptDue_30 : decode cX1_isInterruptDue 30 = .ok (.if_icmp .lt 7, 3) := by decide +kernel
theorem dX1_isInterruptDue_33 : decode cX1_isInterruptDue 33 = .ok (.iconst 1, 1) := by decide +kernel
theorem dX1_isInterruptDue_34 : decode cX1_isInterruptDue 34 = .ok (.goto 4, 3) := by decide +kernel
theorem dX1_isInterruptDue_37 : decode cX1_isInterruptDue 37 = .ok (.iconst 0, 1) := by decide +kernel
theorem dX1_isInterruptDue_38 : decode cX1_isInterruptDue 38 = .ok (.ireturn, 1) := by decide +kernel
theorem dX1_packetAt_0 : decode cX1_packetAt 0 = .ok (.iload_n 1, 1) := by decide +kernel
theorem dX1_packetAt_1 : decode cX1_packetAt 1 = .ok (.ifCond .lt 26, 3) := by decide +kernel
theorem dX1_packetAt_4 : decode cX1_packetAt 4 = .ok (.iload_n 1, 1) := by decide +kernel
theorem dX1_packetAt_5 : decode cX1_packetAt 5 = .ok (.aload_n 0, 1) := by decide +kernel
theorem dX1_packetAt_6 : decode cX1_packetAt 6 = .ok (.getfield 18, 3) := by decide +kernel
theorem dX1_packetAt_9 : decode cX1_packetAt 9 = .ok (.if_icmp .ge 18, 3) := by decide +kernel
theorem dX1_packetAt_12 : decode cX1_packetAt 12 = .ok (.iload_n 1, 1) := by decide +kernel
theorem dX1_packetAt_13 : decode cX1_packetAt 13 = .ok (.bipush 32, 2) := by decide +kernel
theorem dX1_packetAt_15 : decode cX1_packetAt 15 = .ok (.if_icmp .ge 12, 3) := by decide +kernel
theorem dX1_packetAt_18 : decode cX1_packetAt 18 = .ok (.aload_n 0, 1) := by decide +kernel
theorem dX1_packetAt_19 : decode cX1_packetAt 19 = .ok (.getfield 9, 3) := by decide +kernel
theorem dX1_packetAt_22 : decode cX1_packetAt 22 = .ok (.iload_n 1, 1) := by decide +kernel
theorem dX1_packetAt_23 : decode cX1_packetAt 23 = .ok (.iaload, 1) := by decide +kernel
theorem dX1_packetAt_24 : decode cX1_packetAt 24 = .ok (.goto 4, 3) := by decide +kernel
theorem dX1_packetAt_27 : decode cX1_packetAt 27 = .ok (.iconst (-1), 1) := by decide +kernel
theorem dX1_packetAt_28 : decode cX1_packetAt 28 = .ok (.ireturn, 1) := by decide +kernel
theorem dX1_removeFirst_0 : decode cX1_removeFirst 0 = .ok (.iconst 0, 1) := by decide +kernel
theorem dX1_removeFirst_1 : decode cX1_removeFirst 1 = .ok (.iload_n 1, 1) := by decide +kernel
theorem dX1_removeFirst_2 : decode cX1_removeFirst 2 = .ok (.invokestatic 51, 3) := by decide +kernel
theorem dX1_removeFirst_5 : decode cX1_removeFirst 5 = .ok (.istore_n 2, 1) := by decide +kernel
theorem dX1_removeFirst_6 : decode cX1_removeFirst 6 = .ok (.iconst 0, 1) := by decide +kernel
theorem dX1_removeFirst_7 : decode cX1_removeFirst 7 = .ok (.istore_n 3, 1) := by decide +kernel
theorem dX1_removeFirst_8 : decode cX1_removeFirst 8 = .ok (.iload_n 2, 1) := by decide +kernel
theorem dX1_removeFirst_9 : decode cX1_removeFirst 9 = .ok (.istore 4, 2) := by decide +kernel
theorem dX1_removeFirst_11 : decode cX1_removeFirst 11 = .ok (.iload 4, 2) := by decide +kernel
theorem dX1_removeFirst_13 : decode cX1_removeFirst 13 = .ok (.aload_n 0, 1) := by decide +kernel
theorem dX1_removeFirst_14 : decode cX1_removeFirst 14 = .ok (.getfield 18, 3) := by decide +kernel
theorem dX1_removeFirst_17 : decode cX1_removeFirst 17 = .ok (.if_icmp .ge 45, 3) := by decide +kernel
theorem dX1_removeFirst_20 : decode cX1_removeFirst 20 = .ok (.iload 4, 2) := by decide +kernel
theorem dX1_removeFirst_22 : decode cX1_removeFirst 22 = .ok (.bipush 32, 2) := by decide +kernel
theorem dX1_removeFirst_24 : decode cX1_removeFirst 24 = .ok (.if_icmp .ge 38, 3) := by decide +kernel
theorem dX1_removeFirst_27 : decode cX1_removeFirst 27 = .ok (.aload_n 0, 1) := by decide +kernel
theorem dX1_removeFirst_28 : decode cX1_removeFirst 28 = .ok (.getfield 9, 3) := by decide +kernel
theorem dX1_removeFirst_31 : decode cX1_removeFirst 31 = .ok (.iload_n 3, 1) := by decide +kernel
theorem dX1_removeFirst_32 : decode cX1_removeFirst 32 = .ok (.aload_n 0, 1) := by decide +kernel
theorem dX1_removeFirst_33 : decode cX1_removeFirst 33 = .ok (.getfield 9, 3) := by decide +kernel
theorem dX1_removeFirst_36 : decode cX1_removeFirst 36 = .ok (.iload 4, 2) := by decide +kernel
theorem dX1_removeFirst_38 : decode cX1_removeFirst 38 = .ok (.iaload, 1) := by decide +kernel
theorem dX1_removeFirst_39 : decode cX1_removeFirst 39 = .ok (.iastore, 1) := by decide +kernel
theorem dX1_removeFirst_40 : decode cX1_removeFirst 40 = .ok (.aload_n 0, 1) := by decide +kernel
theorem dX1_removeFirst_41 : decode cX1_removeFirst 41 = .ok (.getfield 15, 3) := by decide +kernel
theorem dX1_removeFirst_44 : decode cX1_removeFirst 44 = .ok (.iload_n 3, 1) := by decide +kernel
theorem dX1_removeFirst_45 : decode cX1_removeFirst 45 = .ok (.aload_n 0, 1) := by decide +kernel
theorem dX1_removeFirst_46 : decode cX1_removeFirst 46 = .ok (.getfield 15, 3) := by decide +kernel
theorem dX1_removeFirst_49 : decode cX1_removeFirst 49 = .ok (.iload 4, 2) := by decide +kernel
theorem dX1_removeFirst_51 : decode cX1_removeFirst 51 = .ok (.iaload, 1) := by decide +kernel
theorem dX1_removeFirst_52 : decode cX1_removeFirst 52 = .ok (.iastore, 1) := by decide +kernel
theorem dX1_removeFirst_53 : decode cX1_removeFirst 53 = .ok (.iinc 3 1, 3) := by decide +kernel
theorem dX1_removeFirst_56 : decode cX1_removeFirst 56 = .ok (.iinc 4 1, 3) := by decide +kernel
theorem dX1_removeFirst_59 : decode cX1_removeFirst 59 = .ok (.goto (-48), 3) := by decide +kernel
theorem dX1_removeFirst_62 : decode cX1_removeFirst 62 = .ok (.aload_n 0, 1) := by decide +kernel
theorem dX1_removeFirst_63 : decode cX1_removeFirst 63 = .ok (.iload_n 3, 1) := by decide +kernel
theorem dX1_removeFirst_64 : decode cX1_removeFirst 64 = .ok (.putfield 18, 3) := by decide +kernel
theorem dX1_removeFirst_67 : decode cX1_removeFirst 67 = .ok (.return_, 1) := by decide +kernel
theorem dX2_init_0 : decode cX2_init 0 = .ok (.aload_n 0, 1) := by decide +kernel
theorem dX2_init_1 : decode cX2_init 1 = .ok (.invokespecial 3, 3) := by decide +kernel
theorem dX2_init_4 : decode cX2_init 4 = .ok (.aload_n 0, 1) := by decide +kernel
theorem dX2_init_5 : decode cX2_init 5 = .ok (.sipush 300, 3) := by decide +kernel
theorem dX2_init_8 : decode cX2_init 8 = .ok (.newarray .boolean, 2) := by decide +kernel
theorem dX2_init_10 : decode cX2_init 10 = .ok (.putfield 9, 3) := by decide +kernel
theorem dX2_init_13 : decode cX2_init 13 = .ok (.aload_n 0, 1) := by decide +kernel
theorem dX2_init_14 : decode cX2_init 14 = .ok (.sipush 300, 3) := by decide +kernel
theorem dX2_init_17 : decode cX2_init 17 = .ok (.newarray .int, 2) := by decide +kernel
theorem dX2_init_19 : decode cX2_init 19 = .ok (.putfield 15, 3) := by decide +kernel
theorem dX2_init_22 : decode cX2_init 22 = .ok (.aload_n 0, 1) := by decide +kernel
theorem dX2_init_23 : decode cX2_init 23 = .ok (.iconst 0, 1) := by decide +kernel
theorem dX2_init_24 : decode cX2_init 24 = .ok (.putfield 19, 3) := by decide +kernel
theorem dX2_init_27 : decode cX2_init 27 = .ok (.aload_n 0, 1) := by decide +kernel
theorem dX2_init_28 : decode cX2_init 28 = .ok (.iconst (-1), 1) := by decide +kernel
theorem dX2_init_29 : decode cX2_init 29 = .ok (.putfield 23, 3) := by decide +kernel
theorem dX2_init_32 : decode cX2_init 32 = .ok (.aload_n 0, 1) := by decide +kernel
theorem dX2_init_33 : decode cX2_init 33 = .ok (.iconst 0, 1) := by decide +kernel
theorem dX2_init_34 : decode cX2_init 34 = .ok (.putfield 26, 3) := by decide +kernel
theorem dX2_init_37 : decode cX2_init 37 = .ok (.return_, 1) := by decide +kernel
set_option maxRecDepth 20000 in
theorem ggX2_add_X3_isPacket : GoodIn wsX2_add wsX3_isPacket := goodIn_r _ [9] (by decide +kernel) (by decide +kernel)
set_option maxRecDepth 20000 in
theorem gX2_add_X3_isPacket_n29 : GoodIn wsX2_add (wsX3_isPacket) := ggX2_add_X3_isPacket
theorem dX2_add_0 : decode cX2_add 0 = .ok (.iload_n 1, 1) := by decide +kernel
theorem dX2_add_1 : decode cX2_add 1 = .ok (.invokestatic 29, 3) := by decide +kernel
theorem dX2_add_4 : decode cX2_add 4 = .ok (.ifCond .eq 22, 3) := by decide +kernel
theorem dX2_add_7 : decode cX2_add 7 = .ok (.aload_n 0, 1) := by decide +kernel
theorem dX2_add_8 : decode cX2_add 8 = .ok (.getfield 9, 3) := by decide +kernel
theorem dX2_add_11 : decode cX2_add 11 = .ok (.iload_n 1, 1) := by decide +kernel
theorem dX2_add_12 : decode cX2_add 12 = .ok (.iconst 1, 1) := by decide +kernel
theorem dX2_add_13 : decode cX2_add 13 = .ok (.bastore, 1) := by decide +kernel
theorem dX2_add_14 : decode cX2_add 14 = .ok (.aload_n 0, 1) := by decide +kernel
theorem dX2_add_15 : decode cX2_add 15 = .ok (.aload_n 0, 1) := by decide +kernel
theorem dX2_add_16 : decode cX2_add 16 = .ok (.getfield 23, 3) := by decide +kernel
theorem dX2_add_19 : decode cX2_add 19 = .ok (.iload_n 1, 1) := by decide +kernel
theorem dX2_add_20 : decode cX2_add 20 = .ok (.invokestatic 33, 3) := by decide +kernel
theorem dX2_add_23 : decode cX2_add 23 = .ok (.putfield 23, 3) := by decide +kernel
theorem dX2_add_26 : decode cX2_add 26 = .ok (.return_, 1) := by decide +kernel
set_option maxRecDepth 20000 in
theorem ggX2_holds_X3_isPacket : GoodIn wsX2_holds wsX3_isPacket := goodIn_r _ [4] (by decide +kernel) (by decide +kernel)
set_option maxRecDepth 20000 in
theorem gX2_holds_X3_isPacket_n29 : GoodIn wsX2_holds (wsX3_isPacket) := ggX2_holds_X3_isPacket
theorem dX2_holds_0 : decode cX2_holds 0 = .ok (.iload_n 1, 1) := by decide +kernel
theorem dX2_holds_1 : decode cX2_holds 1 = .ok (.invokestatic 29, 3) := by decide +kernel
theorem dX2_holds_4 : decode cX2_holds 4 = .ok (.ifCond .eq 16, 3) := by decide +kernel
theorem dX2_holds_7 : decode cX2_holds 7 = .ok (.aload_n 0, 1) := by decide +kernel
theorem dX2_holds_8 : decode cX2_holds 8 = .ok (.getfield 9, 3) := by decide +kernel
theorem dX2_holds_11 : decode cX2_holds 11 = .ok (.iload_n 1, 1) := by decide +kernel
theorem dX2_holds_12 : decode cX2_holds 12 = .ok (.baload, 1) := by decide +kernel
theorem dX2_holds_13 : decode cX2_holds 13 = .ok (.ifCond .eq 7, 3) := by decide +kernel
theorem dX2_holds_16 : decode cX2_holds 16 = .ok (.iconst 1, 1) := by decide +kernel
theorem dX2_holds_17 : decode cX2_holds 17 = .ok (.goto 4, 3) := by decide +kernel
theorem dX2_holds_20 : decode cX2_holds 20 = .ok (.iconst 0, 1) := by decide +kernel
theorem dX2_holds_21 : decode cX2_holds 21 = .ok (.ireturn, 1) := by decide +kernel
theorem dX2_holdsFrame_0 : decode cX2_holdsFrame 0 = .ok (.iload_n 1, 1) := by decide +kernel
theorem dX2_holdsFrame_1 : decode cX2_holdsFrame 1 = .ok (.iconst 3, 1) := by decide +kernel
theorem dX2_holdsFrame_2 : decode cX2_holdsFrame 2 = .ok (.imul, 1) := by decide +kernel
theorem dX2_holdsFrame_3 : decode cX2_holdsFrame 3 = .ok (.istore_n 2, 1) := by decide +kernel
theorem dX2_holdsFrame_4 : decode cX2_holdsFrame 4 = .ok (.iload_n 1, 1) := by decide +kernel
theorem dX2_holdsFrame_5 : decode cX2_holdsFrame 5 = .ok (.ifCond .lt 44, 3) := by decide +kernel
theorem dX2_holdsFrame_8 : decode cX2_holdsFrame 8 = .ok (.iload_n 1, 1) := by decide +kernel
theorem dX2_holdsFrame_9 : decode cX2_holdsFrame 9 = .ok (.bipush 100, 2) := by decide +kernel
theorem dX2_holdsFrame_11 : decode cX2_holdsFrame 11 = .ok (.if_icmp .ge 38, 3) := by decide +kernel
theorem dX2_holdsFrame_14 : decode cX2_holdsFrame 14 = .ok (.aload_n 0, 1) := by decide +kernel
theorem dX2_holdsFrame_15 : decode cX2_holdsFrame 15 = .ok (.getfield 9, 3) := by decide +kernel
theorem dX2_holdsFrame_18 : decode cX2_holdsFrame 18 = .ok (.iload_n 2, 1) := by decide +kernel
theorem dX2_holdsFrame_19 : decode cX2_holdsFrame 19 = .ok (.baload, 1) := by decide +kernel
theorem dX2_holdsFrame_20 : decode cX2_holdsFrame 20 = .ok (.ifCond .eq 29, 3) := by decide +kernel
theorem dX2_holdsFrame_23 : decode cX2_holdsFrame 23 = .ok (.aload_n 0, 1) := by decide +kernel
theorem dX2_holdsFrame_24 : decode cX2_holdsFrame 24 = .ok (.getfield 9, 3) := by decide +kernel
theorem dX2_holdsFrame_27 : decode cX2_holdsFrame 27 = .ok (.iload_n 2, 1) := by decide +kernel
theorem dX2_holdsFrame_28 : decode cX2_holdsFrame 28 = .ok (.iconst 1, 1) := by decide +kernel
theorem dX2_holdsFrame_29 : decode cX2_holdsFrame 29 = .ok (.iadd, 1) := by decide +kernel
theorem dX2_holdsFrame_30 : decode cX2_holdsFrame 30 = .ok (.baload, 1) := by decide +kernel
theorem dX2_holdsFrame_31 : decode cX2_holdsFrame 31 = .ok (.ifCond .eq 18, 3) := by decide +kernel
theorem dX2_holdsFrame_34 : decode cX2_holdsFrame 34 = .ok (.aload_n 0, 1) := by decide +kernel
theorem dX2_holdsFrame_35 : decode cX2_holdsFrame 35 = .ok (.getfield 9, 3) := by decide +kernel
theorem dX2_holdsFrame_38 : decode cX2_holdsFrame 38 = .ok (.iload_n 2, 1) := by decide +kernel
theorem dX2_holdsFrame_39 : decode cX2_holdsFrame 39 = .ok (.iconst 2, 1) := by decide +kernel
theorem dX2_holdsFrame_40 : decode cX2_holdsFrame 40 = .ok (.iadd, 1) := by decide +kernel
theorem dX2_holdsFrame_41 : decode cX2_holdsFrame 41 = .ok (.baload, 1) := by decide +kernel
theorem dX2_holdsFrame_42 : decode cX2_holdsFrame 42 = .ok (.ifCond .eq 7, 3) := by decide +kernel
theorem dX2_holdsFrame_45 : decode cX2_holdsFrame 45 = .ok (.iconst 1, 1) := by decide +kernel
theorem dX2_holdsFrame_46 : decode cX2_holdsFrame 46 = .ok (.goto 4, 3) := by decide +kernel
theorem dX2_holdsFrame_49 : decode cX2_holdsFrame 49 = .ok (.iconst 0, 1) := by decide +kernel
theorem dX2_holdsFrame_50 : decode cX2_holdsFrame 50 = .ok (.ireturn, 1) := by decide +kernel
set_option maxRecDepth 20000 in
theorem ggX2_askForMissing_X2_holds : GoodIn wsX2_askForMissing wsX2_holds := goodIn_r _ [11, 12, 13, 14, 15, 22, 23, 24, 25, 26] (by decide +kernel) (by decide +kernel)
set_option maxRecDepth 20000 in
theorem gX2_askForMissing_X2_holds : GoodIn wsX2_askForMissing (wsV RX2 39 RX2 yX2_holds wsX2_holds) := goodIn_app (goodIn_of _ (by decide +kernel)) ggX2_askForMissing_X2_holds
set_option maxRecDepth 20000 in
theorem ggX2_askForMissing_X2_ask : GoodIn wsX2_askForMissing wsX2_ask := goodIn_r _ [19, 20, 21, 22, 23, 24, 25, 26] (by decide +kernel) (by decide +kernel)
set_option maxRecDepth 20000 in
theorem gX2_askForMissing_X2_ask : GoodIn wsX2_askForMissing (wsV RX2 42 RX2 yX2_ask wsX2_ask) := goodIn_app (goodIn_of _ (by decide +kernel)) ggX2_askForMissing_X2_ask
theorem dX2_askForMissing_0 : decode cX2_askForMissing 0 = .ok (.aload_n 0, 1) := by decide +kernel
theorem dX2_askForMissing_1 : decode cX2_askForMissing 1 = .ok (.getfield 26, 3) := by decide +kernel
theorem dX2_askForMissing_4 : decode cX2_askForMissing 4 = .ok (.istore_n 2, 1) := by decide +kernel
theorem dX2_askForMissing_5 : decode cX2_askForMissing 5 = .ok (.iload_n 2, 1) := by decide +kernel
theorem dX2_askForMissing_6 : decode cX2_askForMissing 6 = .ok (.aload_n 0, 1) := by decide +kernel
theorem dX2_askForMissing_7 : decode cX2_askForMissing 7 = .ok (.getfield 23, 3) := by decide +kernel
theorem dX2_askForMissing_10 : decode cX2_askForMissing 10 = .ok (.if_icmp .ge 29, 3) := by decide +kernel
theorem dX2_askForMissing_13 : decode cX2_askForMissing 13 = .ok (.aload_n 0, 1) := by decide +kernel
theorem dX2_askForMissing_14 : decode cX2_askForMissing 14 = .ok (.iload_n 2, 1) := by decide +kernel
theorem dX2_askForMissing_15 : decode cX2_askForMissing 15 = .ok (.invokevirtual 39, 3) := by decide +kernel
theorem dX2_askForMissing_18 : decode cX2_askForMissing 18 = .ok (.ifCond .ne 15, 3) := by decide +kernel
theorem dX2_askForMissing_21 : decode cX2_askForMissing 21 = .ok (.iload_n 2, 1) := by decide +kernel
theorem dX2_askForMissing_22 : decode cX2_askForMissing 22 = .ok (.iconst 3, 1) := by decide +kernel
theorem dX2_askForMissing_23 : decode cX2_askForMissing 23 = .ok (.idiv, 1) := by decide +kernel
theorem dX2_askForMissing_24 : decode cX2_askForMissing 24 = .ok (.iload_n 1, 1) := by decide +kernel
theorem dX2_askForMissing_25 : decode cX2_askForMissing 25 = .ok (.if_icmp .lt 8, 3) := by decide +kernel
theorem dX2_askForMissing_28 : decode cX2_askForMissing 28 = .ok (.aload_n 0, 1) := by decide +kernel
theorem dX2_askForMissing_29 : decode cX2_askForMissing 29 = .ok (.iload_n 2, 1) := by decide +kernel
theorem dX2_askForMissing_30 : decode cX2_askForMissing 30 = .ok (.invokevirtual 42, 3) := by decide +kernel
theorem dX2_askForMissing_33 : decode cX2_askForMissing 33 = .ok (.iinc 2 1, 3) := by decide +kernel
theorem dX2_askForMissing_36 : decode cX2_askForMissing 36 = .ok (.goto (-31), 3) := by decide +kernel
theorem dX2_askForMissing_39 : decode cX2_askForMissing 39 = .ok (.aload_n 0, 1) := by decide +kernel
theorem dX2_askForMissing_40 : decode cX2_askForMissing 40 = .ok (.aload_n 0, 1) := by decide +kernel
theorem dX2_askForMissing_41 : decode cX2_askForMissing 41 = .ok (.getfield 26, 3) := by decide +kernel
theorem dX2_askForMissing_44 : decode cX2_askForMissing 44 = .ok (.aload_n 0, 1) := by decide +kernel
theorem dX2_askForMissing_45 : decode cX2_askForMissing 45 = .ok (.getfield 23, 3) := by decide +kernel
theorem dX2_askForMissing_48 : decode cX2_askForMissing 48 = .ok (.invokestatic 33, 3) := by decide +kernel
theorem dX2_askForMissing_51 : decode cX2_askForMissing 51 = .ok (.putfield 26, 3) := by decide +kernel
theorem dX2_askForMissing_54 : decode cX2_askForMissing 54 = .ok (.return_, 1) := by decide +kernel
theorem dX2_ask_0 : decode cX2_ask 0 = .ok (.aload_n 0, 1) := by decide +kernel
theorem dX2_ask_1 : decode cX2_ask 1 = .ok (.getfield 19, 3) := by decide +kernel
theorem dX2_ask_4 : decode cX2_ask 4 = .ok (.sipush 300, 3) := by decide +kernel
theorem dX2_ask_7 : decode cX2_ask 7 = .ok (.if_icmp .ge 23, 3) := by decide +kernel
theorem dX2_ask_10 : decode cX2_ask 10 = .ok (.aload_n 0, 1) := by decide +kernel
theorem dX2_ask_11 : decode cX2_ask 11 = .ok (.getfield 15, 3) := by decide +kernel
theorem dX2_ask_14 : decode cX2_ask 14 = .ok (.aload_n 0, 1) := by decide +kernel
theorem dX2_ask_15 : decode cX2_ask 15 = .ok (.getfield 19, 3) := by decide +kernel
theorem dX2_ask_18 : decode cX2_ask 18 = .ok (.iload_n 1, 1) := by decide +kernel
theorem dX2_ask_19 : decode cX2_ask 19 = .ok (.iastore, 1) := by decide +kernel
theorem dX2_ask_20 : decode cX2_ask 20 = .ok (.aload_n 0, 1) := by decide +kernel
theorem dX2_ask_21 : decode cX2_ask 21 = .ok (.dup, 1) := by decide +kernel
theorem dX2_ask_22 : decode cX2_ask 22 = .ok (.getfield 19, 3) := by decide +kernel
theorem dX2_ask_25 : decode cX2_ask 25 = .ok (.iconst 1, 1) := by decide +kernel
theorem dX2_ask_26 : decode cX2_ask 26 = .ok (.iadd, 1) := by decide +kernel
theorem dX2_ask_27 : decode cX2_ask 27 = .ok (.putfield 19, 3) := by decide +kernel
theorem dX2_ask_30 : decode cX2_ask 30 = .ok (.return_, 1) := by decide +kernel
set_option maxRecDepth 20000 in
theorem ggX3_init_X1_init : GoodIn wsX3_init wsX1_init := goodIn_r _ [17, 18, 2, 3, 19, 20, 21, 22, 23, 24, 25, 26, 27, 28, 48, 49, 50, 51, 52, 53, 54, 55, 56] (by decide +kernel) (by decide +kernel)
set_option maxRecDepth 20000 in
theorem gX3_init_X1_init_n11 : GoodIn wsX3_init (wsX1_init) := ggX3_init_X1_init
set_option maxRecDepth 20000 in
theorem ggX3_init_X2_init : GoodIn wsX3_init wsX2_init := goodIn_r _ [30, 31, 2, 3, 32, 33, 19, 34, 35, 36, 37, 61, 62, 63, 64, 65] (by decide +kernel) (by decide +kernel)
set_option maxRecDepth 20000 in
theorem gX3_init_X2_init_n18 : GoodIn wsX3_init (wsX2_init) := ggX3_init_X2_init
set_option maxRecDepth 20000 in
theorem ggX3_init_X0_init : GoodIn wsX3_init wsX0_init := goodIn_r _ [40, 41, 2, 3, 19, 42, 43, 44, 45, 46, 47, 66, 67, 68, 69, 70, 71] (by decide +kernel) (by decide +kernel)
set_option maxRecDepth 20000 in
theorem gX3_init_X0_init : GoodIn wsX3_init (wsX0_init) := ggX3_init_X0_init
theorem dX3_init_0 : decode cX3_init 0 = .ok (.aload_n 0, 1) := by decide +kernel
theorem dX3_init_1 : decode cX3_init 1 = .ok (.invokespecial 3, 3) := by decide +kernel
theorem dX3_init_4 : decode cX3_init 4 = .ok (.aload_n 0, 1) := by decide +kernel
theorem dX3_init_5 : decode cX3_init 5 = .ok (.new 9, 3) := by decide +kernel
theorem dX3_init_8 : decode cX3_init 8 = .ok (.dup, 1) := by decide +kernel
theorem dX3_init_9 : decode cX3_init 9 = .ok (.invokespecial 11, 3) := by decide +kernel
theorem dX3_init_12 : decode cX3_init 12 = .ok (.putfield 12, 3) := by decide +kernel
theorem dX3_init_15 : decode cX3_init 15 = .ok (.aload_n 0, 1) := by decide +kernel
theorem dX3_init_16 : decode cX3_init 16 = .ok (.new 16, 3) := by decide +kernel
theorem dX3_init_19 : decode cX3_init 19 = .ok (.dup, 1) := by decide +kernel
theorem dX3_init_20 : decode cX3_init 20 = .ok (.invokespecial 18, 3) := by decide +kernel
theorem dX3_init_23 : decode cX3_init 23 = .ok (.putfield 19, 3) := by decide +kernel
theorem dX3_init_26 : decode cX3_init 26 = .ok (.aload_n 0, 1) := by decide +kernel
theorem dX3_init_27 : decode cX3_init 27 = .ok (.new 23, 3) := by decide +kernel
theorem dX3_init_30 : decode cX3_init 30 = .ok (.dup, 1) := by decide +kernel
theorem dX3_init_31 : decode cX3_init 31 = .ok (.aload_n 0, 1) := by decide +kernel
theorem dX3_init_32 : decode cX3_init 32 = .ok (.getfield 19, 3) := by decide +kernel
theorem dX3_init_35 : decode cX3_init 35 = .ok (.invokespecial 25, 3) := by decide +kernel
theorem dX3_init_38 : decode cX3_init 38 = .ok (.putfield 28, 3) := by decide +kernel
theorem dX3_init_41 : decode cX3_init 41 = .ok (.return_, 1) := by decide +kernel
set_option maxRecDepth 20000 in
theorem ggX3_set_X3_isFromOneTo : GoodIn wsX3_set wsX3_isFromOneTo := goodIn_r _ [7] (by decide +kernel) (by decide +kernel)
set_option maxRecDepth 20000 in
theorem gX3_set_X3_isFromOneTo : GoodIn wsX3_set (va_wsS RX3 32 yX3_isFromOneTo wsX3_isFromOneTo) := goodIn_app (goodIn_of _ (by decide +kernel)) ggX3_set_X3_isFromOneTo
theorem dX3_set_0 : decode cX3_set 0 = .ok (.iload_n 1, 1) := by decide +kernel
theorem dX3_set_1 : decode cX3_set 1 = .ok (.bipush 32, 2) := by decide +kernel
theorem dX3_set_3 : decode cX3_set 3 = .ok (.invokestatic 32, 3) := by decide +kernel
theorem dX3_set_6 : decode cX3_set 6 = .ok (.ifCond .eq 31, 3) := by decide +kernel
theorem dX3_set_9 : decode cX3_set 9 = .ok (.iload_n 2, 1) := by decide +kernel
theorem dX3_set_10 : decode cX3_set 10 = .ok (.bipush 32, 2) := by decide +kernel
theorem dX3_set_12 : decode cX3_set 12 = .ok (.invokestatic 32, 3) := by decide +kernel
theorem dX3_set_15 : decode cX3_set 15 = .ok (.ifCond .eq 22, 3) := by decide +kernel
theorem dX3_set_18 : decode cX3_set 18 = .ok (.iload_n 3, 1) := by decide +kernel
theorem dX3_set_19 : decode cX3_set 19 = .ok (.bipush 50, 2) := by decide +kernel
theorem dX3_set_21 : decode cX3_set 21 = .ok (.invokestatic 32, 3) := by decide +kernel
theorem dX3_set_24 : decode cX3_set 24 = .ok (.ifCond .eq 13, 3) := by decide +kernel
theorem dX3_set_27 : decode cX3_set 27 = .ok (.iload 4, 2) := by decide +kernel
theorem dX3_set_29 : decode cX3_set 29 = .ok (.bipush 32, 2) := by decide +kernel
theorem dX3_set_31 : decode cX3_set 31 = .ok (.invokestatic 32, 3) := by decide +kernel
theorem dX3_set_34 : decode cX3_set 34 = .ok (.ifCond .ne 13, 3) := by decide +kernel
theorem dX3_set_37 : decode cX3_set 37 = .ok (.new 36, 3) := by decide +kernel
theorem dX3_set_40 : decode cX3_set 40 = .ok (.dup, 1) := by decide +kernel
theorem dX3_set_41 : decode cX3_set 41 = .ok (.ldc 38, 2) := by decide +kernel
theorem dX3_set_43 : decode cX3_set 43 = .ok (.invokespecial 40, 3) := by decide +kernel
theorem dX3_set_46 : decode cX3_set 46 = .ok (.athrow, 1) := by decide +kernel
theorem dX3_set_47 : decode cX3_set 47 = .ok (.aload_n 0, 1) := by decide +kernel
theorem dX3_set_48 : decode cX3_set 48 = .ok (.getfield 12, 3) := by decide +kernel
theorem dX3_set_51 : decode cX3_set 51 = .ok (.iload_n 1, 1) := by decide +kernel
theorem dX3_set_52 : decode cX3_set 52 = .ok (.putfield 43, 3) := by decide +kernel
theorem dX3_set_55 : decode cX3_set 55 = .ok (.aload_n 0, 1) := by decide +kernel
theorem dX3_set_56 : decode cX3_set 56 = .ok (.getfield 12, 3) := by decide +kernel
theorem dX3_set_59 : decode cX3_set 59 = .ok (.iload_n 2, 1) := by decide +kernel
theorem dX3_set_60 : decode cX3_set 60 = .ok (.putfield 47, 3) := by decide +kernel
theorem dX3_set_63 : decode cX3_set 63 = .ok (.aload_n 0, 1) := by decide +kernel
theorem dX3_set_64 : decode cX3_set 64 = .ok (.getfield 12, 3) := by decide +kernel
theorem dX3_set_67 : decode cX3_set 67 = .ok (.iload_n 3, 1) := by decide +kernel
theorem dX3_set_68 : decode cX3_set 68 = .ok (.putfield 50, 3) := by decide +kernel
theorem dX3_set_71 : decode cX3_set 71 = .ok (.aload_n 0, 1) := by decide +kernel
theorem dX3_set_72 : decode cX3_set 72 = .ok (.getfield 12, 3) := by decide +kernel
theorem dX3_set_75 : decode cX3_set 75 = .ok (.iload 4, 2) := by decide +kernel
theorem dX3_set_77 : decode cX3_set 77 = .ok (.putfield 53, 3) := by decide +kernel
theorem dX3_set_80 : decode cX3_set 80 = .ok (.return_, 1) := by decide +kernel
set_option maxRecDepth 20000 in
theorem ggX3_arrive_X3_isPacket : GoodIn wsX3_arrive wsX3_isPacket := goodIn_r _ [8] (by decide +kernel) (by decide +kernel)
set_option maxRecDepth 20000 in
theorem gX3_arrive_X3_isPacket : GoodIn wsX3_arrive (va_wsS RX3 56 yX3_isPacket wsX3_isPacket) := goodIn_app (goodIn_of _ (by decide +kernel)) ggX3_arrive_X3_isPacket
set_option maxRecDepth 20000 in
theorem ggX3_arrive_X1_put : GoodIn wsX3_arrive wsX1_put := goodIn_r _ [13, 14, 15, 16, 17, 18, 23, 24, 25, 26, 27, 28, 29, 30, 31] (by decide +kernel) (by decide +kernel)
set_option maxRecDepth 20000 in
theorem gX3_arrive_X1_put : GoodIn wsX3_arrive (wsV RX3 68 RX1 yX1_put wsX1_put) := goodIn_app (goodIn_of _ (by decide +kernel)) ggX3_arrive_X1_put
theorem dX3_arrive_0 : decode cX3_arrive 0 = .ok (.iload_n 1, 1) := by decide +kernel
theorem dX3_arrive_1 : decode cX3_arrive 1 = .ok (.invokestatic 56, 3) := by decide +kernel
theorem dX3_arrive_4 : decode cX3_arrive 4 = .ok (.ifCond .ne 13, 3) := by decide +kernel
theorem dX3_arrive_7 : decode cX3_arrive 7 = .ok (.new 60, 3) := by decide +kernel
theorem dX3_arrive_10 : decode cX3_arrive 10 = .ok (.dup, 1) := by decide +kernel
theorem dX3_arrive_11 : decode cX3_arrive 11 = .ok (.ldc 62, 2) := by decide +kernel
theorem dX3_arrive_13 : decode cX3_arrive 13 = .ok (.invokespecial 64, 3) := by decide +kernel
theorem dX3_arrive_16 : decode cX3_arrive 16 = .ok (.athrow, 1) := by decide +kernel
theorem dX3_arrive_17 : decode cX3_arrive 17 = .ok (.aload_n 0, 1) := by decide +kernel
theorem dX3_arrive_18 : decode cX3_arrive 18 = .ok (.getfield 12, 3) := by decide +kernel
theorem dX3_arrive_21 : decode cX3_arrive 21 = .ok (.iload_n 1, 1) := by decide +kernel
theorem dX3_arrive_22 : decode cX3_arrive 22 = .ok (.aload_n 0, 1) := by decide +kernel
theorem dX3_arrive_23 : decode cX3_arrive 23 = .ok (.getfield 65, 3) := by decide +kernel
theorem dX3_arrive_26 : decode cX3_arrive 26 = .ok (.invokevirtual 68, 3) := by decide +kernel
theorem dX3_arrive_29 : decode cX3_arrive 29 = .ok (.ifCond .eq 13, 3) := by decide +kernel
theorem dX3_arrive_32 : decode cX3_arrive 32 = .ok (.aload_n 0, 1) := by decide +kernel
theorem dX3_arrive_33 : decode cX3_arrive 33 = .ok (.getfield 12, 3) := by decide +kernel
theorem dX3_arrive_36 : decode cX3_arrive 36 = .ok (.getfield 71, 3) := by decide +kernel
theorem dX3_arrive_39 : decode cX3_arrive 39 = .ok (.goto 4, 3) := by decide +kernel
theorem dX3_arrive_42 : decode cX3_arrive 42 = .ok (.iconst (-1), 1) := by decide +kernel
theorem dX3_arrive_43 : decode cX3_arrive 43 = .ok (.ireturn, 1) := by decide +kernel
set_option maxRecDepth 20000 in
theorem ggX3_arriveRow_X3_isPacket : GoodIn wsX3_arriveRow wsX3_isPacket := goodIn_r _ [10] (by decide +kernel) (by decide +kernel)
set_option maxRecDepth 20000 in
theorem gX3_arriveRow_X3_isPacket : GoodIn wsX3_arriveRow (va_wsS RX3 56 yX3_isPacket wsX3_isPacket) := goodIn_app (goodIn_of _ (by decide +kernel)) ggX3_arriveRow_X3_isPacket
set_option maxRecDepth 20000 in
theorem ggX3_arriveRow_X3_isFromOneTo : GoodIn wsX3_arriveRow wsX3_isFromOneTo := goodIn_r _ [13] (by decide +kernel) (by decide +kernel)
set_option maxRecDepth 20000 in
theorem gX3_arriveRow_X3_isFromOneTo : GoodIn wsX3_arriveRow (va_wsS RX3 32 yX3_isFromOneTo wsX3_isFromOneTo) := goodIn_app (goodIn_of _ (by decide +kernel)) ggX3_arriveRow_X3_isFromOneTo
set_option maxRecDepth 20000 in
theorem ggX3_arriveRow_X1_put : GoodIn wsX3_arriveRow wsX1_put := goodIn_r _ [18, 19, 20, 21, 22, 23, 28, 29, 30, 31, 32, 33, 34, 35, 36] (by decide +kernel) (by decide +kernel)
set_option maxRecDepth 20000 in
theorem gX3_arriveRow_X1_put : GoodIn wsX3_arriveRow (wsV RX3 68 RX1 yX1_put wsX1_put) := goodIn_app (goodIn_of _ (by decide +kernel)) ggX3_arriveRow_X1_put
theorem dX3_arriveRow_0 : decode cX3_arriveRow 0 = .ok (.iload_n 1, 1) := by decide +kernel
theorem dX3_arriveRow_1 : decode cX3_arriveRow 1 = .ok (.invokestatic 56, 3) := by decide +kernel
theorem dX3_arriveRow_4 : decode cX3_arriveRow 4 = .ok (.ifCond .eq 12, 3) := by decide +kernel
theorem dX3_arriveRow_7 : decode cX3_arriveRow 7 = .ok (.iload_n 2, 1) := by decide +kernel
theorem dX3_arriveRow_8 : decode cX3_arriveRow 8 = .ok (.sipush 300, 3) := by decide +kernel
theorem dX3_arriveRow_11 : decode cX3_arriveRow 11 = .ok (.iload_n 1, 1) := by decide +kernel
theorem dX3_arriveRow_12 : decode cX3_arriveRow 12 = .ok (.isub, 1) := by decide +kernel
theorem dX3_arriveRow_13 : decode cX3_arriveRow 13 = .ok (.if_icmp .le 13, 3) := by decide +kernel
theorem dX3_arriveRow_16 : decode cX3_arriveRow 16 = .ok (.new 60, 3) := by decide +kernel
theorem dX3_arriveRow_19 : decode cX3_arriveRow 19 = .ok (.dup, 1) := by decide +kernel
theorem dX3_arriveRow_20 : decode cX3_arriveRow 20 = .ok (.ldc 74, 2) := by decide +kernel
theorem dX3_arriveRow_22 : decode cX3_arriveRow 22 = .ok (.invokespecial 64, 3) := by decide +kernel
theorem dX3_arriveRow_25 : decode cX3_arriveRow 25 = .ok (.athrow, 1) := by decide +kernel
theorem dX3_arriveRow_26 : decode cX3_arriveRow 26 = .ok (.iload_n 2, 1) := by decide +kernel
theorem dX3_arriveRow_27 : decode cX3_arriveRow 27 = .ok (.bipush 30, 2) := by decide +kernel
theorem dX3_arriveRow_29 : decode cX3_arriveRow 29 = .ok (.invokestatic 32, 3) := by decide +kernel
theorem dX3_arriveRow_32 : decode cX3_arriveRow 32 = .ok (.ifCond .ne 13, 3) := by decide +kernel
theorem dX3_arriveRow_35 : decode cX3_arriveRow 35 = .ok (.new 36, 3) := by decide +kernel
theorem dX3_arriveRow_38 : decode cX3_arriveRow 38 = .ok (.dup, 1) := by decide +kernel
theorem dX3_arriveRow_39 : decode cX3_arriveRow 39 = .ok (.ldc 76, 2) := by decide +kernel
theorem dX3_arriveRow_41 : decode cX3_arriveRow 41 = .ok (.invokespecial 40, 3) := by decide +kernel
theorem dX3_arriveRow_44 : decode cX3_arriveRow 44 = .ok (.athrow, 1) := by decide +kernel
theorem dX3_arriveRow_45 : decode cX3_arriveRow 45 = .ok (.iconst 0, 1) := by decide +kernel
theorem dX3_arriveRow_46 : decode cX3_arriveRow 46 = .ok (.istore_n 3, 1) := by decide +kernel
theorem dX3_arriveRow_47 : decode cX3_arriveRow 47 = .ok (.iconst 0, 1) := by decide +kernel
theorem dX3_arriveRow_48 : decode cX3_arriveRow 48 = .ok (.istore 4, 2) := by decide +kernel
theorem dX3_arriveRow_50 : decode cX3_arriveRow 50 = .ok (.iload 4, 2) := by decide +kernel
theorem dX3_arriveRow_52 : decode cX3_arriveRow 52 = .ok (.iload_n 2, 1) := by decide +kernel
theorem dX3_arriveRow_53 : decode cX3_arriveRow 53 = .ok (.if_icmp .ge 30, 3) := by decide +kernel
theorem dX3_arriveRow_56 : decode cX3_arriveRow 56 = .ok (.aload_n 0, 1) := by decide +kernel
theorem dX3_arriveRow_57 : decode cX3_arriveRow 57 = .ok (.getfield 12, 3) := by decide +kernel
theorem dX3_arriveRow_60 : decode cX3_arriveRow 60 = .ok (.iload_n 1, 1) := by decide +kernel
theorem dX3_arriveRow_61 : decode cX3_arriveRow 61 = .ok (.iload 4, 2) := by decide +kernel
theorem dX3_arriveRow_63 : decode cX3_arriveRow 63 = .ok (.iadd, 1) := by decide +kernel
theorem dX3_arriveRow_64 : decode cX3_arriveRow 64 = .ok (.aload_n 0, 1) := by decide +kernel
theorem dX3_arriveRow_65 : decode cX3_arriveRow 65 = .ok (.getfield 65, 3) := by decide +kernel
theorem dX3_arriveRow_68 : decode cX3_arriveRow 68 = .ok (.invokevirtual 68, 3) := by decide +kernel
theorem dX3_arriveRow_71 : decode cX3_arriveRow 71 = .ok (.ifCond .ne 6, 3) := by decide +kernel
theorem dX3_arriveRow_74 : decode cX3_arriveRow 74 = .ok (.iinc 3 1, 3) := by decide +kernel
theorem dX3_arriveRow_77 : decode cX3_arriveRow 77 = .ok (.iinc 4 1, 3) := by decide +kernel
theorem dX3_arriveRow_80 : decode cX3_arriveRow 80 = .ok (.goto (-30), 3) := by decide +kernel
theorem dX3_arriveRow_83 : decode cX3_arriveRow 83 = .ok (.iload_n 3, 1) := by decide +kernel
theorem dX3_arriveRow_84 : decode cX3_arriveRow 84 = .ok (.ireturn, 1) := by decide +kernel
set_option maxRecDepth 20000 in
theorem ggX3_advance_X3_isFromOneTo : GoodIn wsX3_advance wsX3_isFromOneTo := goodIn_r _ [9] (by decide +kernel) (by decide +kernel)
set_option maxRecDepth 20000 in
theorem gX3_advance_X3_isFromOneTo : GoodIn wsX3_advance (va_wsS RX3 32 yX3_isFromOneTo wsX3_isFromOneTo) := goodIn_app (goodIn_of _ (by decide +kernel)) ggX3_advance_X3_isFromOneTo
set_option maxRecDepth 20000 in
theorem ggX3_advance_X3_passTick : GoodIn wsX3_advance wsX3_passTick := goodIn_r _ [13, 14, 5, 15, 16, 17, 18, 19, 20, 21, 22, 23, 24, 25, 26, 27, 28, 29, 30, 31, 32, 33, 34, 35, 36, 37, 38, 39, 40, 41, 42, 43, 44, 45, 46, 47, 48, 49, 50, 51, 8, 52, 53, 54, 55, 56, 57, 58, 59, 60, 61, 62, 63, 64, 65, 66, 67, 68, 69, 70, 71, 72, 73, 74, 75, 76, 77, 78, 79, 80, 81, 82, 83, 84, 85, 86, 87, 88, 89, 90, 91, 92, 93, 94, 95, 96, 97, 98, 99, 100, 101, 102, 103, 104, 105, 106, 107, 108, 109, 110, 111, 112, 113, 114, 115, 116, 117, 118, 119, 120, 121, 122, 123, 124, 125, 126, 127, 128, 129, 130, 131, 132, 133, 134, 135, 136, 137, 138, 139, 140, 141, 142, 143, 144, 145, 146, 147, 148, 149, 150] (by decide +kernel) (by decide +kernel)
set_option maxRecDepth 20000 in
theorem gX3_advance_X3_passTick : GoodIn wsX3_advance (wsV RX3 85 RX3 yX3_passTick wsX3_passTick) := goodIn_app (goodIn_of _ (by decide +kernel)) ggX3_advance_X3_passTick
theorem dX3_advance_0 : decode cX3_advance 0 = .ok (.iload_n 1, 1) := by decide +kernel
theorem dX3_advance_1 : decode cX3_advance 1 = .ok (.bipush 100, 2) := by decide +kernel
theorem dX3_advance_3 : decode cX3_advance 3 = .ok (.invokestatic 32, 3) := by decide +kernel
theorem dX3_advance_6 : decode cX3_advance 6 = .ok (.ifCond .ne 13, 3) := by decide +kernel
theorem dX3_advance_9 : decode cX3_advance 9 = .ok (.new 36, 3) := by decide +kernel
theorem dX3_advance_12 : decode cX3_advance 12 = .ok (.dup, 1) := by decide +kernel
theorem dX3_advance_13 : decode cX3_advance 13 = .ok (.ldc 78, 2) := by decide +kernel
theorem dX3_advance_15 : decode cX3_advance 15 = .ok (.invokespecial 40, 3) := by decide +kernel
theorem dX3_advance_18 : decode cX3_advance 18 = .ok (.athrow, 1) := by decide +kernel
theorem dX3_advance_19 : decode cX3_advance 19 = .ok (.aload_n 0, 1) := by decide +kernel
theorem dX3_advance_20 : decode cX3_advance 20 = .ok (.getfield 65, 3) := by decide +kernel
theorem dX3_advance_23 : decode cX3_advance 23 = .ok (.iload_n 1, 1) := by decide +kernel
theorem dX3_advance_24 : decode cX3_advance 24 = .ok (.iadd, 1) := by decide +kernel
theorem dX3_advance_25 : decode cX3_advance 25 = .ok (.sipush 20000, 3) := by decide +kernel
theorem dX3_advance_28 : decode cX3_advance 28 = .ok (.if_icmp .le 13, 3) := by decide +kernel
theorem dX3_advance_31 : decode cX3_advance 31 = .ok (.new 80, 3) := by decide +kernel
theorem dX3_advance_34 : decode cX3_advance 34 = .ok (.dup, 1) := by decide +kernel
theorem dX3_advance_35 : decode cX3_advance 35 = .ok (.ldc 82, 2) := by decide +kernel
theorem dX3_advance_37 : decode cX3_advance 37 = .ok (.invokespecial 84, 3) := by decide +kernel
theorem dX3_advance_40 : decode cX3_advance 40 = .ok (.athrow, 1) := by decide +kernel
theorem dX3_advance_41 : decode cX3_advance 41 = .ok (.iconst 0, 1) := by decide +kernel
theorem dX3_advance_42 : decode cX3_advance 42 = .ok (.istore_n 2, 1) := by decide +kernel
theorem dX3_advance_43 : decode cX3_advance 43 = .ok (.iload_n 2, 1) := by decide +kernel
theorem dX3_advance_44 : decode cX3_advance 44 = .ok (.iload_n 1, 1) := by decide +kernel
theorem dX3_advance_45 : decode cX3_advance 45 = .ok (.if_icmp .ge 13, 3) := by decide +kernel
theorem dX3_advance_48 : decode cX3_advance 48 = .ok (.aload_n 0, 1) := by decide +kernel
theorem dX3_advance_49 : decode cX3_advance 49 = .ok (.invokevirtual 85, 3) := by decide +kernel
theorem dX3_advance_52 : decode cX3_advance 52 = .ok (.iinc 2 1, 3) := by decide +kernel
theorem dX3_advance_55 : decode cX3_advance 55 = .ok (.goto (-12), 3) := by decide +kernel
theorem dX3_advance_58 : decode cX3_advance 58 = .ok (.aload_n 0, 1) := by decide +kernel
theorem dX3_advance_59 : decode cX3_advance 59 = .ok (.getfield 65, 3) := by decide +kernel
theorem dX3_advance_62 : decode cX3_advance 62 = .ok (.ireturn, 1) := by decide +kernel
set_option maxRecDepth 20000 in
theorem ggX3_reset_X1_loseAll : GoodIn wsX3_reset wsX1_loseAll := goodIn_r _ [6, 7, 8, 9, 14, 15, 16, 17, 18, 19, 20, 21, 22] (by decide +kernel) (by decide +kernel)
set_option maxRecDepth 20000 in
theorem gX3_reset_X1_loseAll : GoodIn wsX3_reset (wsV RX3 88 RX1 yX1_loseAll wsX1_loseAll) := goodIn_app (goodIn_of _ (by decide +kernel)) ggX3_reset_X1_loseAll
theorem dX3_reset_0 : decode cX3_reset 0 = .ok (.aload_n 0, 1) := by decide +kernel
theorem dX3_reset_1 : decode cX3_reset 1 = .ok (.getfield 12, 3) := by decide +kernel
theorem dX3_reset_4 : decode cX3_reset 4 = .ok (.invokevirtual 88, 3) := by decide +kernel
theorem dX3_reset_7 : decode cX3_reset 7 = .ok (.ireturn, 1) := by decide +kernel
theorem dX3_tick_0 : decode cX3_tick 0 = .ok (.aload_n 0, 1) := by decide +kernel
theorem dX3_tick_1 : decode cX3_tick 1 = .ok (.getfield 65, 3) := by decide +kernel
theorem dX3_tick_4 : decode cX3_tick 4 = .ok (.ireturn, 1) := by decide +kernel
theorem dX3_waiting_0 : decode cX3_waiting 0 = .ok (.aload_n 0, 1) := by decide +kernel
theorem dX3_waiting_1 : decode cX3_waiting 1 = .ok (.getfield 12, 3) := by decide +kernel
theorem dX3_waiting_4 : decode cX3_waiting 4 = .ok (.getfield 71, 3) := by decide +kernel
theorem dX3_waiting_7 : decode cX3_waiting 7 = .ok (.ireturn, 1) := by decide +kernel
theorem dX3_lost_0 : decode cX3_lost 0 = .ok (.aload_n 0, 1) := by decide +kernel
theorem dX3_lost_1 : decode cX3_lost 1 = .ok (.getfield 12, 3) := by decide +kernel
theorem dX3_lost_4 : decode cX3_lost 4 = .ok (.getfield 92, 3) := by decide +kernel
theorem dX3_lost_7 : decode cX3_lost 7 = .ok (.ireturn, 1) := by decide +kernel
theorem dX3_isPolled_0 : decode cX3_isPolled 0 = .ok (.aload_n 0, 1) := by decide +kernel
theorem dX3_isPolled_1 : decode cX3_isPolled 1 = .ok (.getfield 12, 3) := by decide +kernel
theorem dX3_isPolled_4 : decode cX3_isPolled 4 = .ok (.getfield 95, 3) := by decide +kernel
theorem dX3_isPolled_7 : decode cX3_isPolled 7 = .ok (.ireturn, 1) := by decide +kernel
set_option maxRecDepth 20000 in
theorem ggX3_has_X3_isPacket : GoodIn wsX3_has wsX3_isPacket := goodIn_r _ [7] (by decide +kernel) (by decide +kernel)
set_option maxRecDepth 20000 in
theorem gX3_has_X3_isPacket : GoodIn wsX3_has (va_wsS RX3 56 yX3_isPacket wsX3_isPacket) := goodIn_app (goodIn_of _ (by decide +kernel)) ggX3_has_X3_isPacket
set_option maxRecDepth 20000 in
theorem ggX3_has_X2_holds : GoodIn wsX3_has wsX2_holds := goodIn_r _ [12, 13, 5, 6, 7, 18, 19, 20, 21, 22] (by decide +kernel) (by decide +kernel)
set_option maxRecDepth 20000 in
theorem gX3_has_X2_holds : GoodIn wsX3_has (wsV RX3 99 RX2 yX2_holds wsX2_holds) := goodIn_app (goodIn_of _ (by decide +kernel)) ggX3_has_X2_holds
theorem dX3_has_0 : decode cX3_has 0 = .ok (.iload_n 1, 1) := by decide +kernel
theorem dX3_has_1 : decode cX3_has 1 = .ok (.invokestatic 56, 3) := by decide +kernel
theorem dX3_has_4 : decode cX3_has 4 = .ok (.ifCond .ne 13, 3) := by decide +kernel
theorem dX3_has_7 : decode cX3_has 7 = .ok (.new 60, 3) := by decide +kernel
theorem dX3_has_10 : decode cX3_has 10 = .ok (.dup, 1) := by decide +kernel
theorem dX3_has_11 : decode cX3_has 11 = .ok (.ldc 62, 2) := by decide +kernel
theorem dX3_has_13 : decode cX3_has 13 = .ok (.invokespecial 64, 3) := by decide +kernel
theorem dX3_has_16 : decode cX3_has 16 = .ok (.athrow, 1) := by decide +kernel
theorem dX3_has_17 : decode cX3_has 17 = .ok (.aload_n 0, 1) := by decide +kernel
theorem dX3_has_18 : decode cX3_has 18 = .ok (.getfield 19, 3) := by decide +kernel
theorem dX3_has_21 : decode cX3_has 21 = .ok (.iload_n 1, 1) := by decide +kernel
theorem dX3_has_22 : decode cX3_has 22 = .ok (.invokevirtual 99, 3) := by decide +kernel
theorem dX3_has_25 : decode cX3_has 25 = .ok (.ireturn, 1) := by decide +kernel
theorem dX3_askedAt_0 : decode cX3_askedAt 0 = .ok (.iload_n 1, 1) := by decide +kernel
theorem dX3_askedAt_1 : decode cX3_askedAt 1 = .ok (.ifCond .lt 14, 3) := by decide +kernel
theorem dX3_askedAt_4 : decode cX3_askedAt 4 = .ok (.iload_n 1, 1) := by decide +kernel
theorem dX3_askedAt_5 : decode cX3_askedAt 5 = .ok (.aload_n 0, 1) := by decide +kernel
theorem dX3_askedAt_6 : decode cX3_askedAt 6 = .ok (.getfield 19, 3) := by decide +kernel
theorem dX3_askedAt_9 : decode cX3_askedAt 9 = .ok (.getfield 102, 3) := by decide +kernel
theorem dX3_askedAt_12 : decode cX3_askedAt 12 = .ok (.if_icmp .lt 13, 3) := by decide +kernel
theorem dX3_askedAt_15 : decode cX3_askedAt 15 = .ok (.new 60, 3) := by decide +kernel
theorem dX3_askedAt_18 : decode cX3_askedAt 18 = .ok (.dup, 1) := by decide +kernel
theorem dX3_askedAt_19 : decode cX3_askedAt 19 = .ok (.ldc 105, 2) := by decide +kernel
theorem dX3_askedAt_21 : decode cX3_askedAt 21 = .ok (.invokespecial 64, 3) := by decide +kernel
theorem dX3_askedAt_24 : decode cX3_askedAt 24 = .ok (.athrow, 1) := by decide +kernel
theorem dX3_askedAt_25 : decode cX3_askedAt 25 = .ok (.aload_n 0, 1) := by decide +kernel
theorem dX3_askedAt_26 : decode cX3_askedAt 26 = .ok (.getfield 19, 3) := by decide +kernel
theorem dX3_askedAt_29 : decode cX3_askedAt 29 = .ok (.getfield 107, 3) := by decide +kernel
theorem dX3_askedAt_32 : decode cX3_askedAt 32 = .ok (.iload_n 1, 1) := by decide +kernel
theorem dX3_askedAt_33 : decode cX3_askedAt 33 = .ok (.iaload, 1) := by decide +kernel
theorem dX3_askedAt_34 : decode cX3_askedAt 34 = .ok (.ireturn, 1) := by decide +kernel
theorem dX3_asked_0 : decode cX3_asked 0 = .ok (.aload_n 0, 1) := by decide +kernel
theorem dX3_asked_1 : decode cX3_asked 1 = .ok (.getfield 19, 3) := by decide +kernel
theorem dX3_asked_4 : decode cX3_asked 4 = .ok (.getfield 102, 3) := by decide +kernel
theorem dX3_asked_7 : decode cX3_asked 7 = .ok (.ireturn, 1) := by decide +kernel
set_option maxRecDepth 20000 in
theorem ggX3_kindOf_X3_isFrame : GoodIn wsX3_kindOf wsX3_isFrame := goodIn_r _ [6] (by decide +kernel) (by decide +kernel)
set_option maxRecDepth 20000 in
theorem gX3_kindOf_X3_isFrame : GoodIn wsX3_kindOf (va_wsS RX3 111 yX3_isFrame wsX3_isFrame) := goodIn_app (goodIn_of _ (by decide +kernel)) ggX3_kindOf_X3_isFrame
set_option maxRecDepth 20000 in
theorem ggX3_kindOf_X0_kind : GoodIn wsX3_kindOf wsX0_kind := goodIn_r _ [10] (by decide +kernel) (by decide +kernel)
set_option maxRecDepth 20000 in
theorem gX3_kindOf_X0_kind : GoodIn wsX3_kindOf (va_wsS RX3 116 yX0_kind wsX0_kind) := goodIn_app (goodIn_of _ (by decide +kernel)) ggX3_kindOf_X0_kind
theorem dX3_kindOf_0 : decode cX3_kindOf 0 = .ok (.iload_n 1, 1) := by decide +kernel
theorem dX3_kindOf_1 : decode cX3_kindOf 1 = .ok (.invokestatic 111, 3) := by decide +kernel
theorem dX3_kindOf_4 : decode cX3_kindOf 4 = .ok (.ifCond .ne 13, 3) := by decide +kernel
theorem dX3_kindOf_7 : decode cX3_kindOf 7 = .ok (.new 60, 3) := by decide +kernel
theorem dX3_kindOf_10 : decode cX3_kindOf 10 = .ok (.dup, 1) := by decide +kernel
theorem dX3_kindOf_11 : decode cX3_kindOf 11 = .ok (.ldc 114, 2) := by decide +kernel
theorem dX3_kindOf_13 : decode cX3_kindOf 13 = .ok (.invokespecial 64, 3) := by decide +kernel
theorem dX3_kindOf_16 : decode cX3_kindOf 16 = .ok (.athrow, 1) := by decide +kernel
theorem dX3_kindOf_17 : decode cX3_kindOf 17 = .ok (.iload_n 1, 1) := by decide +kernel
theorem dX3_kindOf_18 : decode cX3_kindOf 18 = .ok (.invokestatic 116, 3) := by decide +kernel
theorem dX3_kindOf_21 : decode cX3_kindOf 21 = .ok (.ireturn, 1) := by decide +kernel
set_option maxRecDepth 20000 in
theorem ggX3_need_X3_isFrame : GoodIn wsX3_need wsX3_isFrame := goodIn_r _ [6] (by decide +kernel) (by decide +kernel)
set_option maxRecDepth 20000 in
theorem gX3_need_X3_isFrame : GoodIn wsX3_need (va_wsS RX3 111 yX3_isFrame wsX3_isFrame) := goodIn_app (goodIn_of _ (by decide +kernel)) ggX3_need_X3_isFrame
set_option maxRecDepth 20000 in
theorem ggX3_need_X0_needBehind : GoodIn wsX3_need wsX0_needBehind := goodIn_r _ [10, 11, 12, 9, 13] (by decide +kernel) (by decide +kernel)
set_option maxRecDepth 20000 in
theorem gX3_need_X0_needBehind : GoodIn wsX3_need (va_wsS RX3 120 yX0_needBehind wsX0_needBehind) := goodIn_app (goodIn_of _ (by decide +kernel)) ggX3_need_X0_needBehind
set_option maxRecDepth 20000 in
theorem ggX3_need_X0_needBefore : GoodIn wsX3_need wsX0_needBefore := goodIn_r _ [16, 11, 12, 9, 13] (by decide +kernel) (by decide +kernel)
set_option maxRecDepth 20000 in
theorem gX3_need_X0_needBefore : GoodIn wsX3_need (va_wsS RX3 123 yX0_needBefore wsX0_needBefore) := goodIn_app (goodIn_of _ (by decide +kernel)) ggX3_need_X0_needBefore
theorem dX3_need_0 : decode cX3_need 0 = .ok (.iload_n 1, 1) := by decide +kernel
theorem dX3_need_1 : decode cX3_need 1 = .ok (.invokestatic 111, 3) := by decide +kernel
theorem dX3_need_4 : decode cX3_need 4 = .ok (.ifCond .ne 13, 3) := by decide +kernel
theorem dX3_need_7 : decode cX3_need 7 = .ok (.new 60, 3) := by decide +kernel
theorem dX3_need_10 : decode cX3_need 10 = .ok (.dup, 1) := by decide +kernel
theorem dX3_need_11 : decode cX3_need 11 = .ok (.ldc 114, 2) := by decide +kernel
theorem dX3_need_13 : decode cX3_need 13 = .ok (.invokespecial 64, 3) := by decide +kernel
theorem dX3_need_16 : decode cX3_need 16 = .ok (.athrow, 1) := by decide +kernel
theorem dX3_need_17 : decode cX3_need 17 = .ok (.iload_n 2, 1) := by decide +kernel
theorem dX3_need_18 : decode cX3_need 18 = .ok (.ifCond .eq 10, 3) := by decide +kernel
theorem dX3_need_21 : decode cX3_need 21 = .ok (.iload_n 1, 1) := by decide +kernel
theorem dX3_need_22 : decode cX3_need 22 = .ok (.invokestatic 120, 3) := by decide +kernel
theorem dX3_need_25 : decode cX3_need 25 = .ok (.goto 7, 3) := by decide +kernel
theorem dX3_need_28 : decode cX3_need 28 = .ok (.iload_n 1, 1) := by decide +kernel
theorem dX3_need_29 : decode cX3_need 29 = .ok (.invokestatic 123, 3) := by decide +kernel
theorem dX3_need_32 : decode cX3_need 32 = .ok (.ireturn, 1) := by decide +kernel
set_option maxRecDepth 20000 in
theorem ggX3_isWhole_X3_isFrame : GoodIn wsX3_isWhole wsX3_isFrame := goodIn_r _ [7] (by decide +kernel) (by decide +kernel)
set_option maxRecDepth 20000 in
theorem gX3_isWhole_X3_isFrame : GoodIn wsX3_isWhole (va_wsS RX3 111 yX3_isFrame wsX3_isFrame) := goodIn_app (goodIn_of _ (by decide +kernel)) ggX3_isWhole_X3_isFrame
set_option maxRecDepth 20000 in
theorem ggX3_isWhole_X2_holdsFrame : GoodIn wsX3_isWhole wsX2_holdsFrame := goodIn_r _ [12, 13, 18, 19, 20, 21, 22] (by decide +kernel) (by decide +kernel)
set_option maxRecDepth 20000 in
theorem gX3_isWhole_X2_holdsFrame : GoodIn wsX3_isWhole (wsV RX3 126 RX2 yX2_holdsFrame wsX2_holdsFrame) := goodIn_app (goodIn_of _ (by decide +kernel)) ggX3_isWhole_X2_holdsFrame
theorem dX3_isWhole_0 : decode cX3_isWhole 0 = .ok (.iload_n 1, 1) := by decide +kernel
theorem dX3_isWhole_1 : decode cX3_isWhole 1 = .ok (.invokestatic 111, 3) := by decide +kernel
theorem dX3_isWhole_4 : decode cX3_isWhole 4 = .ok (.ifCond .ne 13, 3) := by decide +kernel
theorem dX3_isWhole_7 : decode cX3_isWhole 7 = .ok (.new 60, 3) := by decide +kernel
theorem dX3_isWhole_10 : decode cX3_isWhole 10 = .ok (.dup, 1) := by decide +kernel
theorem dX3_isWhole_11 : decode cX3_isWhole 11 = .ok (.ldc 114, 2) := by decide +kernel
theorem dX3_isWhole_13 : decode cX3_isWhole 13 = .ok (.invokespecial 64, 3) := by decide +kernel
theorem dX3_isWhole_16 : decode cX3_isWhole 16 = .ok (.athrow, 1) := by decide +kernel
theorem dX3_isWhole_17 : decode cX3_isWhole 17 = .ok (.aload_n 0, 1) := by decide +kernel
theorem dX3_isWhole_18 : decode cX3_isWhole 18 = .ok (.getfield 19, 3) := by decide +kernel
theorem dX3_isWhole_21 : decode cX3_isWhole 21 = .ok (.iload_n 1, 1) := by decide +kernel
theorem dX3_isWhole_22 : decode cX3_isWhole 22 = .ok (.invokevirtual 126, 3) := by decide +kernel
theorem dX3_isWhole_25 : decode cX3_isWhole 25 = .ok (.ireturn, 1) := by decide +kernel
set_option maxRecDepth 20000 in
theorem ggX3_fate_X3_isFrame : GoodIn wsX3_fate wsX3_isFrame := goodIn_r _ [7] (by decide +kernel) (by decide +kernel)
set_option maxRecDepth 20000 in
theorem gX3_fate_X3_isFrame : GoodIn wsX3_fate (va_wsS RX3 111 yX3_isFrame wsX3_isFrame) := goodIn_app (goodIn_of _ (by decide +kernel)) ggX3_fate_X3_isFrame
theorem dX3_fate_0 : decode cX3_fate 0 = .ok (.iload_n 1, 1) := by decide +kernel
theorem dX3_fate_1 : decode cX3_fate 1 = .ok (.invokestatic 111, 3) := by decide +kernel
theorem dX3_fate_4 : decode cX3_fate 4 = .ok (.ifCond .ne 13, 3) := by decide +kernel
theorem dX3_fate_7 : decode cX3_fate 7 = .ok (.new 60, 3) := by decide +kernel
theorem dX3_fate_10 : decode cX3_fate 10 = .ok (.dup, 1) := by decide +kernel
theorem dX3_fate_11 : decode cX3_fate 11 = .ok (.ldc 114, 2) := by decide +kernel
theorem dX3_fate_13 : decode cX3_fate 13 = .ok (.invokespecial 64, 3) := by decide +kernel
theorem dX3_fate_16 : decode cX3_fate 16 = .ok (.athrow, 1) := by decide +kernel
theorem dX3_fate_17 : decode cX3_fate 17 = .ok (.aload_n 0, 1) := by decide +kernel
theorem dX3_fate_18 : decode cX3_fate 18 = .ok (.getfield 28, 3) := by decide +kernel
theorem dX3_fate_21 : decode cX3_fate 21 = .ok (.getfield 129, 3) := by decide +kernel
theorem dX3_fate_24 : decode cX3_fate 24 = .ok (.iload_n 1, 1) := by decide +kernel
theorem dX3_fate_25 : decode cX3_fate 25 = .ok (.iaload, 1) := by decide +kernel
theorem dX3_fate_26 : decode cX3_fate 26 = .ok (.ireturn, 1) := by decide +kernel
theorem dX3_next_0 : decode cX3_next 0 = .ok (.aload_n 0, 1) := by decide +kernel
theorem dX3_next_1 : decode cX3_next 1 = .ok (.getfield 28, 3) := by decide +kernel
theorem dX3_next_4 : decode cX3_next 4 = .ok (.getfield 132, 3) := by decide +kernel
theorem dX3_next_7 : decode cX3_next 7 = .ok (.bipush 100, 2) := by decide +kernel
theorem dX3_next_9 : decode cX3_next 9 = .ok (.if_icmp .ge 13, 3) := by decide +kernel
theorem dX3_next_12 : decode cX3_next 12 = .ok (.aload_n 0, 1) := by decide +kernel
theorem dX3_next_13 : decode cX3_next 13 = .ok (.getfield 28, 3) := by decide +kernel
theorem dX3_next_16 : decode cX3_next 16 = .ok (.getfield 132, 3) := by decide +kernel
theorem dX3_next_19 : decode cX3_next 19 = .ok (.goto 4, 3) := by decide +kernel
theorem dX3_next_22 : decode cX3_next 22 = .ok (.iconst (-1), 1) := by decide +kernel
theorem dX3_next_23 : decode cX3_next 23 = .ok (.ireturn, 1) := by decide +kernel
theorem dX3_turn_0 : decode cX3_turn 0 = .ok (.aload_n 0, 1) := by decide +kernel
theorem dX3_turn_1 : decode cX3_turn 1 = .ok (.getfield 28, 3) := by decide +kernel
theorem dX3_turn_4 : decode cX3_turn 4 = .ok (.getfield 135, 3) := by decide +kernel
theorem dX3_turn_7 : decode cX3_turn 7 = .ok (.ireturn, 1) := by decide +kernel
set_option maxRecDepth 20000 in
theorem ggX3_fill_X0_wholeAhead : GoodIn wsX3_fill wsX0_wholeAhead := goodIn_r _ [6, 7, 8, 9, 10, 11, 12, 13, 14, 19, 20, 21, 22, 23, 24, 25, 26, 27, 28, 29] (by decide +kernel) (by decide +kernel)
set_option maxRecDepth 20000 in
theorem gX3_fill_X0_wholeAhead : GoodIn wsX3_fill (wsV RX3 138 RX0 yX0_wholeAhead wsX0_wholeAhead) := goodIn_app (goodIn_of _ (by decide +kernel)) ggX3_fill_X0_wholeAhead
theorem dX3_fill_0 : decode cX3_fill 0 = .ok (.aload_n 0, 1) := by decide +kernel
theorem dX3_fill_1 : decode cX3_fill 1 = .ok (.getfield 28, 3) := by decide +kernel
theorem dX3_fill_4 : decode cX3_fill 4 = .ok (.invokevirtual 138, 3) := by decide +kernel
theorem dX3_fill_7 : decode cX3_fill 7 = .ok (.ireturn, 1) := by decide +kernel
theorem dX3_shown_0 : decode cX3_shown 0 = .ok (.aload_n 0, 1) := by decide +kernel
theorem dX3_shown_1 : decode cX3_shown 1 = .ok (.getfield 28, 3) := by decide +kernel
theorem dX3_shown_4 : decode cX3_shown 4 = .ok (.getfield 141, 3) := by decide +kernel
theorem dX3_shown_7 : decode cX3_shown 7 = .ok (.ireturn, 1) := by decide +kernel
set_option maxRecDepth 20000 in
theorem ggX3_couldBe_X0_countShowable : GoodIn wsX3_couldBe wsX0_countShowable := goodIn_r _ [6, 7, 8, 9, 10, 11, 12, 13, 14, 15, 16, 5, 17, 18, 19, 20, 21, 22, 23, 24, 25, 26, 27, 28, 29, 30, 31, 36, 37, 38, 39, 40, 41, 42, 43, 44, 45, 46] (by decide +kernel) (by decide +kernel)
set_option maxRecDepth 20000 in
theorem gX3_couldBe_X0_countShowable : GoodIn wsX3_couldBe (wsV RX3 144 RX0 yX0_countShowable wsX0_countShowable) := goodIn_app (goodIn_of _ (by decide +kernel)) ggX3_couldBe_X0_countShowable
theorem dX3_couldBe_0 : decode cX3_couldBe 0 = .ok (.aload_n 0, 1) := by decide +kernel
theorem dX3_couldBe_1 : decode cX3_couldBe 1 = .ok (.getfield 28, 3) := by decide +kernel
theorem dX3_couldBe_4 : decode cX3_couldBe 4 = .ok (.invokevirtual 144, 3) := by decide +kernel
theorem dX3_couldBe_7 : decode cX3_couldBe 7 = .ok (.ireturn, 1) := by decide +kernel
set_option maxRecDepth 20000 in
theorem ggX3_gap_X0_delay : GoodIn wsX3_gap wsX0_delay := goodIn_r _ [6, 7, 8, 9, 14, 15, 16, 17, 18, 19] (by decide +kernel) (by decide +kernel)
set_option maxRecDepth 20000 in
theorem gX3_gap_X0_delay : GoodIn wsX3_gap (wsV RX3 147 RX0 yX0_delay wsX0_delay) := goodIn_app (goodIn_of _ (by decide +kernel)) ggX3_gap_X0_delay
theorem dX3_gap_0 : decode cX3_gap 0 = .ok (.aload_n 0, 1) := by decide +kernel
theorem dX3_gap_1 : decode cX3_gap 1 = .ok (.getfield 28, 3) := by decide +kernel
theorem dX3_gap_4 : decode cX3_gap 4 = .ok (.invokevirtual 147, 3) := by decide +kernel
theorem dX3_gap_7 : decode cX3_gap 7 = .ok (.ireturn, 1) := by decide +kernel
set_option maxRecDepth 20000 in
theorem ggX3_passTick_X1_chooseMany : GoodIn wsX3_passTick wsX1_chooseMany := goodIn_r _ [9, 10, 11, 12, 13, 14, 15, 16, 17, 18, 19, 8, 20, 21, 22, 23, 126, 127, 128, 129, 130, 131, 132, 133, 134] (by decide +kernel) (by decide +kernel)
set_option maxRecDepth 20000 in
theorem gX3_passTick_X1_chooseMany : GoodIn wsX3_passTick (wsV RX3 150 RX1 yX1_chooseMany wsX1_chooseMany) := goodIn_app (goodIn_of _ (by decide +kernel)) ggX3_passTick_X1_chooseMany
set_option maxRecDepth 20000 in
theorem ggX3_passTick_X1_packetAt : GoodIn wsX3_passTick wsX1_packetAt := goodIn_r _ [27, 11, 28, 126, 127, 128, 129, 130, 131, 132, 133, 134] (by decide +kernel) (by decide +kernel)
set_option maxRecDepth 20000 in
theorem gX3_passTick_X1_packetAt : GoodIn wsX3_passTick (wsV RX3 153 RX1 yX1_packetAt wsX1_packetAt) := goodIn_app (goodIn_of _ (by decide +kernel)) ggX3_passTick_X1_packetAt
set_option maxRecDepth 20000 in
theorem ggX3_passTick_X2_add : GoodIn wsX3_passTick wsX2_add := goodIn_r _ [33, 34, 35, 36, 37, 14, 38, 39, 40, 41, 135, 136, 137, 138, 139] (by decide +kernel) (by decide +kernel)
set_option maxRecDepth 20000 in
theorem gX3_passTick_X2_add : GoodIn wsX3_passTick (wsV RX3 156 RX2 yX2_add wsX2_add) := goodIn_app (goodIn_of _ (by decide +kernel)) ggX3_passTick_X2_add
set_option maxRecDepth 20000 in
theorem ggX3_passTick_X1_removeFirst : GoodIn wsX3_passTick wsX1_removeFirst := goodIn_r _ [45, 46, 37, 14, 38, 11, 28, 22, 126, 127, 128, 129, 130, 131, 132, 133, 134] (by decide +kernel) (by decide +kernel)
set_option maxRecDepth 20000 in
theorem gX3_passTick_X1_removeFirst : GoodIn wsX3_passTick (wsV RX3 160 RX1 yX1_removeFirst wsX1_removeFirst) := goodIn_app (goodIn_of _ (by decide +kernel)) ggX3_passTick_X1_removeFirst
set_option maxRecDepth 20000 in
theorem ggX3_passTick_X2_askForMissing : GoodIn wsX3_passTick wsX2_askForMissing := goodIn_r _ [50, 51, 35, 36, 37, 14, 38, 52, 53, 54, 32, 55, 34, 39, 40, 41, 56, 57, 58, 59, 60, 61, 135, 136, 137, 138, 139] (by decide +kernel) (by decide +kernel)
set_option maxRecDepth 20000 in
theorem gX3_passTick_X2_askForMissing : GoodIn wsX3_passTick (wsV RX3 163 RX2 yX2_askForMissing wsX2_askForMissing) := goodIn_app (goodIn_of _ (by decide +kernel)) ggX3_passTick_X2_askForMissing
set_option maxRecDepth 20000 in
theorem ggX3_passTick_X0_play : GoodIn wsX3_passTick wsX0_play := goodIn_r _ [66, 67, 68, 69, 70, 71, 65, 72, 73, 74, 75, 76, 32, 77, 34, 78, 79, 80, 81, 82, 83, 84, 85, 40, 86, 87, 88, 89, 90, 91, 92, 93, 94, 95, 96, 97, 98, 99, 100, 101, 102, 103, 104, 105, 106, 107, 108, 109, 110, 111, 112, 113, 114, 115, 120, 121, 122, 123, 124, 125, 135, 136, 137, 138, 139] (by decide +kernel) (by decide +kernel)
set_option maxRecDepth 20000 in
theorem gX3_passTick_X0_play : GoodIn wsX3_passTick (wsV RX3 166 RX0 yX0_play wsX0_play) := goodIn_app (goodIn_of _ (by decide +kernel)) ggX3_passTick_X0_play
theorem dX3_passTick_0 : decode cX3_passTick 0 = .ok (.aload_n 0, 1) := by decide +kernel
theorem dX3_passTick_1 : decode cX3_passTick 1 = .ok (.getfield 12, 3) := by decide +kernel
theorem dX3_passTick_4 : decode cX3_passTick 4 = .ok (.aload_n 0, 1) := by decide +kernel
theorem dX3_passTick_5 : decode cX3_passTick 5 = .ok (.getfield 65, 3) := by decide +kernel
theorem dX3_passTick_8 : decode cX3_passTick 8 = .ok (.invokevirtual 150, 3) := by decide +kernel
theorem dX3_passTick_11 : decode cX3_passTick 11 = .ok (.istore_n 1, 1) := by decide +kernel
theorem dX3_passTick_12 : decode cX3_passTick 12 = .ok (.iconst 0, 1) := by decide +kernel
theorem dX3_passTick_13 : decode cX3_passTick 13 = .ok (.istore_n 2, 1) := by decide +kernel
theorem dX3_passTick_14 : decode cX3_passTick 14 = .ok (.iload_n 2, 1) := by decide +kernel
theorem dX3_passTick_15 : decode cX3_passTick 15 = .ok (.iload_n 1, 1) := by decide +kernel
theorem dX3_passTick_16 : decode cX3_passTick 16 = .ok (.if_icmp .ge 24, 3) := by decide +kernel
theorem dX3_passTick_19 : decode cX3_passTick 19 = .ok (.aload_n 0, 1) := by decide +kernel
theorem dX3_passTick_20 : decode cX3_passTick 20 = .ok (.getfield 19, 3) := by decide +kernel
theorem dX3_passTick_23 : decode cX3_passTick 23 = .ok (.aload_n 0, 1) := by decide +kernel
theorem dX3_passTick_24 : decode cX3_passTick 24 = .ok (.getfield 12, 3) := by decide +kernel
theorem dX3_passTick_27 : decode cX3_passTick 27 = .ok (.iload_n 2, 1) := by decide +kernel
theorem dX3_passTick_28 : decode cX3_passTick 28 = .ok (.invokevirtual 153, 3) := by decide +kernel
theorem dX3_passTick_31 : decode cX3_passTick 31 = .ok (.invokevirtual 156, 3) := by decide +kernel
theorem dX3_passTick_34 : decode cX3_passTick 34 = .ok (.iinc 2 1, 3) := by decide +kernel
theorem dX3_passTick_37 : decode cX3_passTick 37 = .ok (.goto (-23), 3) := by decide +kernel
theorem dX3_passTick_40 : decode cX3_passTick 40 = .ok (.aload_n 0, 1) := by decide +kernel
theorem dX3_passTick_41 : decode cX3_passTick 41 = .ok (.getfield 12, 3) := by decide +kernel
theorem dX3_passTick_44 : decode cX3_passTick 44 = .ok (.iload_n 1, 1) := by decide +kernel
theorem dX3_passTick_45 : decode cX3_passTick 45 = .ok (.invokevirtual 160, 3) := by decide +kernel
theorem dX3_passTick_48 : decode cX3_passTick 48 = .ok (.aload_n 0, 1) := by decide +kernel
theorem dX3_passTick_49 : decode cX3_passTick 49 = .ok (.getfield 19, 3) := by decide +kernel
theorem dX3_passTick_52 : decode cX3_passTick 52 = .ok (.aload_n 0, 1) := by decide +kernel
theorem dX3_passTick_53 : decode cX3_passTick 53 = .ok (.getfield 28, 3) := by decide +kernel
theorem dX3_passTick_56 : decode cX3_passTick 56 = .ok (.getfield 132, 3) := by decide +kernel
theorem dX3_passTick_59 : decode cX3_passTick 59 = .ok (.invokevirtual 163, 3) := by decide +kernel
theorem dX3_passTick_62 : decode cX3_passTick 62 = .ok (.aload_n 0, 1) := by decide +kernel
theorem dX3_passTick_63 : decode cX3_passTick 63 = .ok (.getfield 28, 3) := by decide +kernel
theorem dX3_passTick_66 : decode cX3_passTick 66 = .ok (.aload_n 0, 1) := by decide +kernel
theorem dX3_passTick_67 : decode cX3_passTick 67 = .ok (.getfield 65, 3) := by decide +kernel
theorem dX3_passTick_70 : decode cX3_passTick 70 = .ok (.invokevirtual 166, 3) := by decide +kernel
theorem dX3_passTick_73 : decode cX3_passTick 73 = .ok (.aload_n 0, 1) := by decide +kernel
theorem dX3_passTick_74 : decode cX3_passTick 74 = .ok (.dup, 1) := by decide +kernel
theorem dX3_passTick_75 : decode cX3_passTick 75 = .ok (.getfield 65, 3) := by decide +kernel
theorem dX3_passTick_78 : decode cX3_passTick 78 = .ok (.iconst 1, 1) := by decide +kernel
theorem dX3_passTick_79 : decode cX3_passTick 79 = .ok (.iadd, 1) := by decide +kernel
theorem dX3_passTick_80 : decode cX3_passTick 80 = .ok (.putfield 65, 3) := by decide +kernel
theorem dX3_passTick_83 : decode cX3_passTick 83 = .ok (.return_, 1) := by decide +kernel
theorem dX3_isFromOneTo_0 : decode cX3_isFromOneTo 0 = .ok (.iload_n 0, 1) := by decide +kernel
theorem dX3_isFromOneTo_1 : decode cX3_isFromOneTo 1 = .ok (.iconst 1, 1) := by decide +kernel
theorem dX3_isFromOneTo_2 : decode cX3_isFromOneTo 2 = .ok (.if_icmp .lt 12, 3) := by decide +kernel
theorem dX3_isFromOneTo_5 : decode cX3_isFromOneTo 5 = .ok (.iload_n 0, 1) := by decide +kernel
theorem dX3_isFromOneTo_6 : decode cX3_isFromOneTo 6 = .ok (.iload_n 1, 1) := by decide +kernel
theorem dX3_isFromOneTo_7 : decode cX3_isFromOneTo 7 = .ok (.if_icmp .gt 7, 3) := by decide +kernel
theorem dX3_isFromOneTo_10 : decode cX3_isFromOneTo 10 = .ok (.iconst 1, 1) := by decide +kernel
theorem dX3_isFromOneTo_11 : decode cX3_isFromOneTo 11 = .ok (.goto 4, 3) := by decide +kernel
theorem dX3_isFromOneTo_14 : decode cX3_isFromOneTo 14 = .ok (.iconst 0, 1) := by decide +kernel
theorem dX3_isFromOneTo_15 : decode cX3_isFromOneTo 15 = .ok (.ireturn, 1) := by decide +kernel
theorem dX3_isPacket_0 : decode cX3_isPacket 0 = .ok (.iload_n 0, 1) := by decide +kernel
theorem dX3_isPacket_1 : decode cX3_isPacket 1 = .ok (.ifCond .lt 14, 3) := by decide +kernel
theorem dX3_isPacket_4 : decode cX3_isPacket 4 = .ok (.iload_n 0, 1) := by decide +kernel
theorem dX3_isPacket_5 : decode cX3_isPacket 5 = .ok (.sipush 300, 3) := by decide +kernel
theorem dX3_isPacket_8 : decode cX3_isPacket 8 = .ok (.if_icmp .ge 7, 3) := by decide +kernel
theorem dX3_isPacket_11 : decode cX3_isPacket 11 = .ok (.iconst 1, 1) := by decide +kernel
theorem dX3_isPacket_12 : decode cX3_isPacket 12 = .ok (.goto 4, 3) := by decide +kernel
theorem dX3_isPacket_15 : decode cX3_isPacket 15 = .ok (.iconst 0, 1) := by decide +kernel
theorem dX3_isPacket_16 : decode cX3_isPacket 16 = .ok (.ireturn, 1) := by decide +kernel
theorem dX3_isFrame_0 : decode cX3_isFrame 0 = .ok (.iload_n 0, 1) := by decide +kernel
theorem dX3_isFrame_1 : decode cX3_isFrame 1 = .ok (.ifCond .lt 13, 3) := by decide +kernel
theorem dX3_isFrame_4 : decode cX3_isFrame 4 = .ok (.iload_n 0, 1) := by decide +kernel
theorem dX3_isFrame_5 : decode cX3_isFrame 5 = .ok (.bipush 100, 2) := by decide +kernel
theorem dX3_isFrame_7 : decode cX3_isFrame 7 = .ok (.if_icmp .ge 7, 3) := by decide +kernel
theorem dX3_isFrame_10 : decode cX3_isFrame 10 = .ok (.iconst 1, 1) := by decide +kernel
theorem dX3_isFrame_11 : decode cX3_isFrame 11 = .ok (.goto 4, 3) := by decide +kernel
theorem dX3_isFrame_14 : decode cX3_isFrame 14 = .ok (.iconst 0, 1) := by decide +kernel
theorem dX3_isFrame_15 : decode cX3_isFrame 15 = .ok (.ireturn, 1) := by decide +kernel
theorem dJ9_max_7cf53_0 : decode cJ9_max_7cf53 0 = .ok (.iload_n 0, 1) := by decide +kernel
theorem dJ9_max_7cf53_1 : decode cJ9_max_7cf53 1 = .ok (.iload_n 1, 1) := by decide +kernel
theorem dJ9_max_7cf53_2 : decode cJ9_max_7cf53 2 = .ok (.if_icmp .lt 7, 3) := by decide +kernel
theorem dJ9_max_7cf53_5 : decode cJ9_max_7cf53 5 = .ok (.iload_n 0, 1) := by decide +kernel
theorem dJ9_max_7cf53_6 : decode cJ9_max_7cf53 6 = .ok (.goto 4, 3) := by decide +kernel
theorem dJ9_max_7cf53_9 : decode cJ9_max_7cf53 9 = .ok (.iload_n 1, 1) := by decide +kernel
theorem dJ9_max_7cf53_10 : decode cJ9_max_7cf53 10 = .ok (.ireturn, 1) := by decide +kernel
theorem dJ9_min_7cf53_0 : decode cJ9_min_7cf53 0 = .ok (.iload_n 0, 1) := by decide +kernel
theorem dJ9_min_7cf53_1 : decode cJ9_min_7cf53 1 = .ok (.iload_n 1, 1) := by decide +kernel
theorem dJ9_min_7cf53_2 : decode cJ9_min_7cf53 2 = .ok (.if_icmp .gt 7, 3) := by decide +kernel
theorem dJ9_min_7cf53_5 : decode cJ9_min_7cf53 5 = .ok (.iload_n 0, 1) := by decide +kernel
theorem dJ9_min_7cf53_6 : decode cJ9_min_7cf53 6 = .ok (.goto 4, 3) := by decide +kernel
theorem dJ9_min_7cf53_9 : decode cJ9_min_7cf53 9 = .ok (.iload_n 1, 1) := by decide +kernel
theorem dJ9_min_7cf53_10 : decode cJ9_min_7cf53 10 = .ok (.ireturn, 1) := by decide +kernel
theorem dL_cell_0 : decode cL_cell 0 = .ok (.iload_n 1, 1) := by decide +kernel
theorem dL_cell_1 : decode cL_cell 1 = .ok (.aload_n 0, 1) := by decide +kernel
theorem dL_cell_2 : decode cL_cell 2 = .ok (.arraylength, 1) := by decide +kernel
theorem dL_cell_3 : decode cL_cell 3 = .ok (.if_icmp .ge 9, 3) := by decide +kernel
theorem dL_cell_6 : decode cL_cell 6 = .ok (.aload_n 0, 1) := by decide +kernel
theorem dL_cell_7 : decode cL_cell 7 = .ok (.iload_n 1, 1) := by decide +kernel
theorem dL_cell_8 : decode cL_cell 8 = .ok (.iaload, 1) := by decide +kernel
theorem dL_cell_9 : decode cL_cell 9 = .ok (.goto 11, 3) := by decide +kernel
theorem dL_cell_12 : decode cL_cell 12 = .ok (.sipush 8191, 3) := by decide +kernel
theorem dL_cell_15 : decode cL_cell 15 = .ok (.iload_n 1, 1) := by decide +kernel
theorem dL_cell_16 : decode cL_cell 16 = .ok (.bipush 38, 2) := by decide +kernel
theorem dL_cell_18 : decode cL_cell 18 = .ok (.iadd, 1) := by decide +kernel
theorem dL_cell_19 : decode cL_cell 19 = .ok (.imul, 1) := by decide +kernel
theorem dL_cell_20 : decode cL_cell 20 = .ok (.istore_n 2, 1) := by decide +kernel
theorem dL_cell_21 : decode cL_cell 21 = .ok (.iload_n 2, 1) := by decide +kernel
theorem dL_cell_22 : decode cL_cell 22 = .ok (.iload_n 2, 1) := by decide +kernel
theorem dL_cell_23 : decode cL_cell 23 = .ok (.bipush 14, 2) := by decide +kernel
theorem dL_cell_25 : decode cL_cell 25 = .ok (.iushr, 1) := by decide +kernel
theorem dL_cell_26 : decode cL_cell 26 = .ok (.ixor, 1) := by decide +kernel
theorem dL_cell_27 : decode cL_cell 27 = .ok (.ldc 7, 2) := by decide +kernel
theorem dL_cell_29 : decode cL_cell 29 = .ok (.imul, 1) := by decide +kernel
theorem dL_cell_30 : decode cL_cell 30 = .ok (.sipush 137, 3) := by decide +kernel
theorem dL_cell_33 : decode cL_cell 33 = .ok (.iload_n 1, 1) := by decide +kernel
theorem dL_cell_34 : decode cL_cell 34 = .ok (.imul, 1) := by decide +kernel
theorem dL_cell_35 : decode cL_cell 35 = .ok (.iadd, 1) := by decide +kernel
theorem dL_cell_36 : decode cL_cell 36 = .ok (.ireturn, 1) := by decide +kernel
theorem dL_some_0 : decode cL_some 0 = .ok (.iload_n 0, 1) := by decide +kernel
theorem dL_some_1 : decode cL_some 1 = .ok (.iconst 1, 1) := by decide +kernel
theorem dL_some_2 : decode cL_some 2 = .ok (.iushr, 1) := by decide +kernel
theorem dL_some_3 : decode cL_some 3 = .ok (.iload_n 1, 1) := by decide +kernel
theorem dL_some_4 : decode cL_some 4 = .ok (.irem, 1) := by decide +kernel
theorem dL_some_5 : decode cL_some 5 = .ok (.ireturn, 1) := by decide +kernel
