/-! ===== BEGIN words of one list among another's, by their places ===== -/
theorem goodIn_r {big : List Cond} (ws : List Cond) (ps : List Nat) (hp : ws = ps.filterMap (fun i => big[i]?)) (h : ws.all goodWord = true) : GoodIn big ws := by
  intro w hw
  have h1 := List.all_eq_true.mp h w hw
  rw [hp] at hw
  obtain ⟨i, -, hi⟩ := List.mem_filterMap.mp hw
  have hm : w ∈ big := by first | exact List.mem_of_getElem? hi | exact List.getElem?_mem hi
  exact ⟨hm, good_of_word h1⟩
theorem goodIn_app {big a b : List Cond} (ha : GoodIn big a) (hb : GoodIn big b) : GoodIn big (a ++ b) := fun w h => (List.mem_append.mp h).elim (ha w) (hb w)
theorem goodIn_ca {big a b : List Cond} {c : Cond} (ha : GoodIn big (c :: a)) (hb : GoodIn big b) : GoodIn big (c :: (a ++ b)) := fun w h => (List.mem_cons.mp h).elim (fun e => ha w (List.mem_cons.mpr (Or.inl e))) (fun h => (List.mem_append.mp h).elim (fun h => ha w (List.mem_cons.mpr (Or.inr h))) (hb w))
theorem goodIn_sub {big ws : List Cond} (hm : ∀ w ∈ ws, w ∈ big) (h : ws.all goodWord = true) : GoodIn big ws := fun w hw => ⟨hm w hw, good_of_word (List.all_eq_true.mp h w hw)⟩
/-! ===== END ===== -/

/-! ===== BEGIN printed: names, fields, word lists, decode rows ===== -/
def RX0 : String := "PairSorter$Pile"
def TX0 : u_T := fun k => match k with
  | 0 => ("PairSorter$Pile", "starts", "[I", true)
  | 1 => ("PairSorter$Pile", "lengths", "[I", true)
  | 2 => ("PairSorter$Pile", "count", "I", false)
  | _ => ("PairSorter$Pile", "height", "I", false)
def tyX0 : Nat → FieldType := fun k => match k with
  | 0 => .array .int
  | 1 => .array .int
  | 2 => .int
  | _ => .int
abbrev wsX00 : List Cond := u_ws RX0 TX0 4
theorem nmX0 : ∀ a, a < 4 → ∀ b, b < 4 → a ≠ b → (TX0 a).2.1 ≠ (TX0 b).2.1 := by decide +kernel
theorem tyX0_ok : ∀ k, k < 4 → parseFieldDescriptor (TX0 k).2.2.1 = some (tyX0 k) := by decide +kernel
abbrev cX0_init : ByteArray := prog_2_method_1_code
def yX0_init : MethodName := ⟨RX0, "<init>", "(I)V"⟩
abbrev cX0_empty : ByteArray := prog_2_method_2_code
def yX0_empty : MethodName := ⟨RX0, "empty", "()V"⟩
abbrev cX0_push : ByteArray := prog_2_method_3_code
def yX0_push : MethodName := ⟨RX0, "push", "(II)V"⟩
abbrev cX0_fromTop : ByteArray := prog_2_method_4_code
def yX0_fromTop : MethodName := ⟨RX0, "fromTop", "(I)I"⟩
abbrev cX0_isTooFlat : ByteArray := prog_2_method_5_code
def yX0_isTooFlat : MethodName := ⟨RX0, "isTooFlat", "()Z"⟩
abbrev cX0_isTopTooLong : ByteArray := prog_2_method_6_code
def yX0_isTopTooLong : MethodName := ⟨RX0, "isTopTooLong", "()Z"⟩
abbrev cX0_placeBelowShorterNeighbour : ByteArray := prog_2_method_7_code
def yX0_placeBelowShorterNeighbour : MethodName := ⟨RX0, "placeBelowShorterNeighbour", "()I"⟩
abbrev cX0_join : ByteArray := prog_2_method_8_code
def yX0_join : MethodName := ⟨RX0, "join", "(I)V"⟩
def RX1 : String := "PairSorter"
def TX1 : u_T := fun k => match k with
  | 0 => ("PairSorter", "pairs", "[J", true)
  | 1 => ("PairSorter", "size", "I", false)
  | 2 => ("PairSorter", "aside", "[J", true)
  | 3 => ("PairSorter", "pile", "LPairSorter$Pile;", true)
  | 4 => ("PairSorter", "runLengths", "[I", true)
  | 5 => ("PairSorter", "runs", "I", false)
  | 6 => ("PairSorter", "merges", "I", false)
  | 7 => ("PairSorter", "mergedPairs", "J", false)
  | _ => ("PairSorter", "greatestHeight", "I", false)
def tyX1 : Nat → FieldType := fun k => match k with
  | 0 => .array .long
  | 1 => .int
  | 2 => .array .long
  | 3 => .object "PairSorter$Pile"
  | 4 => .array .int
  | 5 => .int
  | 6 => .int
  | 7 => .long
  | _ => .int
abbrev wsX10 : List Cond := u_ws RX1 TX1 9
theorem nmX1 : ∀ a, a < 9 → ∀ b, b < 9 → a ≠ b → (TX1 a).2.1 ≠ (TX1 b).2.1 := by decide +kernel
theorem tyX1_ok : ∀ k, k < 9 → parseFieldDescriptor (TX1 k).2.2.1 = some (tyX1 k) := by decide +kernel
abbrev cX1_init : ByteArray := prog_1_method_1_code
def yX1_init : MethodName := ⟨RX1, "<init>", "(I)V"⟩
abbrev cX1_put : ByteArray := prog_1_method_2_code
def yX1_put : MethodName := ⟨RX1, "put", "(II)Z"⟩
abbrev cX1_fill : ByteArray := prog_1_method_3_code
def yX1_fill : MethodName := ⟨RX1, "fill", "(IIIII)I"⟩
abbrev cX1_turn : ByteArray := prog_1_method_4_code
def yX1_turn : MethodName := ⟨RX1, "turn", "(II)I"⟩
abbrev cX1_run : ByteArray := prog_1_method_5_code
def yX1_run : MethodName := ⟨RX1, "run", "()I"⟩
abbrev cX1_keyAt : ByteArray := prog_1_method_6_code
def yX1_keyAt : MethodName := ⟨RX1, "keyAt", "(I)I"⟩
abbrev cX1_tagAt : ByteArray := prog_1_method_7_code
def yX1_tagAt : MethodName := ⟨RX1, "tagAt", "(I)I"⟩
abbrev cX1_size : ByteArray := prog_1_method_8_code
def yX1_size : MethodName := ⟨RX1, "size", "()I"⟩
abbrev cX1_stackHigh : ByteArray := prog_1_method_9_code
def yX1_stackHigh : MethodName := ⟨RX1, "stackHigh", "()I"⟩
abbrev cX1_work : ByteArray := prog_1_method_10_code
def yX1_work : MethodName := ⟨RX1, "work", "(II)J"⟩
abbrev cX1_sorted : ByteArray := prog_1_method_11_code
def yX1_sorted : MethodName := ⟨RX1, "sorted", "(I)I"⟩
abbrev cX1_clear : ByteArray := prog_1_method_12_code
def yX1_clear : MethodName := ⟨RX1, "clear", "()V"⟩
abbrev cX1_forgetLatestSorting : ByteArray := prog_1_method_13_code
def yX1_forgetLatestSorting : MethodName := ⟨RX1, "forgetLatestSorting", "()V"⟩
abbrev cX1_isPlace : ByteArray := prog_1_method_14_code
def yX1_isPlace : MethodName := ⟨RX1, "isPlace", "(I)Z"⟩
abbrev cX1_pairOf : ByteArray := prog_1_method_15_code
def yX1_pairOf : MethodName := ⟨RX1, "pairOf", "(II)J"⟩
abbrev cX1_keyOf : ByteArray := prog_1_method_16_code
def yX1_keyOf : MethodName := ⟨RX1, "keyOf", "(J)I"⟩
abbrev cX1_tagOf : ByteArray := prog_1_method_17_code
def yX1_tagOf : MethodName := ⟨RX1, "tagOf", "(J)I"⟩
abbrev cX1_fallsAt : ByteArray := prog_1_method_18_code
def yX1_fallsAt : MethodName := ⟨RX1, "fallsAt", "(I)Z"⟩
abbrev cX1_countNotFalling : ByteArray := prog_1_method_19_code
def yX1_countNotFalling : MethodName := ⟨RX1, "countNotFalling", "(I)I"⟩
abbrev cX1_countFalling : ByteArray := prog_1_method_20_code
def yX1_countFalling : MethodName := ⟨RX1, "countFalling", "(I)I"⟩
abbrev cX1_turnRound : ByteArray := prog_1_method_21_code
def yX1_turnRound : MethodName := ⟨RX1, "turnRound", "(II)V"⟩
abbrev cX1_leastFor : ByteArray := prog_1_method_22_code
def yX1_leastFor : MethodName := ⟨RX1, "leastFor", "(I)I"⟩
abbrev cX1_makeRun : ByteArray := prog_1_method_23_code
def yX1_makeRun : MethodName := ⟨RX1, "makeRun", "(II)I"⟩
abbrev cX1_findRun : ByteArray := prog_1_method_24_code
def yX1_findRun : MethodName := ⟨RX1, "findRun", "(I)I"⟩
abbrev cX1_insert : ByteArray := prog_1_method_25_code
def yX1_insert : MethodName := ⟨RX1, "insert", "(II)V"⟩
abbrev cX1_placeBehindEqualKeys : ByteArray := prog_1_method_26_code
def yX1_placeBehindEqualKeys : MethodName := ⟨RX1, "placeBehindEqualKeys", "(III)I"⟩
abbrev cX1_bringInOrder : ByteArray := prog_1_method_27_code
def yX1_bringInOrder : MethodName := ⟨RX1, "bringInOrder", "()V"⟩
abbrev cX1_mergeWhatIsLeft : ByteArray := prog_1_method_28_code
def yX1_mergeWhatIsLeft : MethodName := ⟨RX1, "mergeWhatIsLeft", "()V"⟩
abbrev cX1_mergeAt : ByteArray := prog_1_method_29_code
def yX1_mergeAt : MethodName := ⟨RX1, "mergeAt", "(I)V"⟩
abbrev cX1_mergeForward : ByteArray := prog_1_method_30_code
def yX1_mergeForward : MethodName := ⟨RX1, "mergeForward", "(III)V"⟩
abbrev cX1_mergeBackward : ByteArray := prog_1_method_31_code
def yX1_mergeBackward : MethodName := ⟨RX1, "mergeBackward", "(III)V"⟩
def RX2 : String := "PairSorterModel"
def TX2 : u_T := fun k => match k with
  | 0 => ("PairSorterModel", "thrown", "I", false)
  | 1 => ("PairSorterModel", "cap", "I", true)
  | 2 => ("PairSorterModel", "keys", "[I", true)
  | 3 => ("PairSorterModel", "tags", "[I", true)
  | 4 => ("PairSorterModel", "otherKeys", "[I", true)
  | 5 => ("PairSorterModel", "otherTags", "[I", true)
  | 6 => ("PairSorterModel", "size", "I", false)
  | 7 => ("PairSorterModel", "high", "I", false)
  | 8 => ("PairSorterModel", "runs", "I", false)
  | 9 => ("PairSorterModel", "lengths", "[I", true)
  | 10 => ("PairSorterModel", "merges", "I", false)
  | 11 => ("PairSorterModel", "merged", "J", false)
  | 12 => ("PairSorterModel", "pile", "[I", true)
  | 13 => ("PairSorterModel", "piled", "I", false)
  | _ => ("PairSorterModel", "height", "I", false)
def tyX2 : Nat → FieldType := fun k => match k with
  | 0 => .int
  | 1 => .int
  | 2 => .array .int
  | 3 => .array .int
  | 4 => .array .int
  | 5 => .array .int
  | 6 => .int
  | 7 => .int
  | 8 => .int
  | 9 => .array .int
  | 10 => .int
  | 11 => .long
  | 12 => .array .int
  | 13 => .int
  | _ => .int
abbrev wsX20 : List Cond := u_ws RX2 TX2 15
theorem nmX2 : ∀ a, a < 15 → ∀ b, b < 15 → a ≠ b → (TX2 a).2.1 ≠ (TX2 b).2.1 := by decide +kernel
theorem tyX2_ok : ∀ k, k < 15 → parseFieldDescriptor (TX2 k).2.2.1 = some (tyX2 k) := by decide +kernel
abbrev cX2_init : ByteArray := prog_4_method_1_code
def yX2_init : MethodName := ⟨RX2, "<init>", "(I)V"⟩
abbrev cX2_put : ByteArray := prog_4_method_3_code
def yX2_put : MethodName := ⟨RX2, "put", "(II)Z"⟩
abbrev cX2_fill : ByteArray := prog_4_method_4_code
def yX2_fill : MethodName := ⟨RX2, "fill", "(IIIII)I"⟩
abbrev cX2_turn : ByteArray := prog_4_method_5_code
def yX2_turn : MethodName := ⟨RX2, "turn", "(II)I"⟩
abbrev cX2_least : ByteArray := prog_4_method_6_code
def yX2_least : MethodName := ⟨RX2, "least", "(I)I"⟩
abbrev cX2_found : ByteArray := prog_4_method_7_code
def yX2_found : MethodName := ⟨RX2, "found", "(I)I"⟩
abbrev cX2_join : ByteArray := prog_4_method_8_code
def yX2_join : MethodName := ⟨RX2, "join", "(I)V"⟩
abbrev cX2_fromTop : ByteArray := prog_4_method_9_code
def yX2_fromTop : MethodName := ⟨RX2, "fromTop", "(I)I"⟩
abbrev cX2_isBrought : ByteArray := prog_4_method_10_code
def yX2_isBrought : MethodName := ⟨RX2, "isBrought", "()Z"⟩
abbrev cX2_lookForRuns : ByteArray := prog_4_method_11_code
def yX2_lookForRuns : MethodName := ⟨RX2, "lookForRuns", "()V"⟩
abbrev cX2_combine : ByteArray := prog_4_method_12_code
def yX2_combine : MethodName := ⟨RX2, "combine", "(III)V"⟩
abbrev cX2_run : ByteArray := prog_4_method_13_code
def yX2_run : MethodName := ⟨RX2, "run", "()I"⟩
abbrev cX2_keyAt : ByteArray := prog_4_method_14_code
def yX2_keyAt : MethodName := ⟨RX2, "keyAt", "(I)I"⟩
abbrev cX2_tagAt : ByteArray := prog_4_method_15_code
def yX2_tagAt : MethodName := ⟨RX2, "tagAt", "(I)I"⟩
abbrev cX2_size : ByteArray := prog_4_method_16_code
def yX2_size : MethodName := ⟨RX2, "size", "()I"⟩
abbrev cX2_stackHigh : ByteArray := prog_4_method_17_code
def yX2_stackHigh : MethodName := ⟨RX2, "stackHigh", "()I"⟩
abbrev cX2_work : ByteArray := prog_4_method_18_code
def yX2_work : MethodName := ⟨RX2, "work", "(II)J"⟩
abbrev cX2_sorted : ByteArray := prog_4_method_19_code
def yX2_sorted : MethodName := ⟨RX2, "sorted", "(I)I"⟩
abbrev cX2_clear : ByteArray := prog_4_method_20_code
def yX2_clear : MethodName := ⟨RX2, "clear", "()V"⟩
def RJ9 : String := "java/lang/Math"
def TJ9 : u_T := fun k => match k with
  | _ => ("", "", "", false)
def tyJ9 : Nat → FieldType := fun k => match k with
  | _ => .int
abbrev wsJ90 : List Cond := u_ws RJ9 TJ9 0
theorem nmJ9 : ∀ a, a < 0 → ∀ b, b < 0 → a ≠ b → (TJ9 a).2.1 ≠ (TJ9 b).2.1 := by decide +kernel
theorem tyJ9_ok : ∀ k, k < 0 → parseFieldDescriptor (TJ9 k).2.2.1 = some (tyJ9 k) := by decide +kernel
abbrev cJ9_floorMod_7cf53 : ByteArray := prog_5_method_50_code
def yJ9_floorMod_7cf53 : MethodName := ⟨RJ9, "floorMod", "(II)I"⟩
abbrev cJ9_max_7cf53 : ByteArray := prog_5_method_65_code
def yJ9_max_7cf53 : MethodName := ⟨RJ9, "max", "(II)I"⟩
abbrev cJ9_min_7cf53 : ByteArray := prog_5_method_69_code
def yJ9_min_7cf53 : MethodName := ⟨RJ9, "min", "(II)I"⟩
def RJ10 : String := "java/lang/System"
def TJ10 : u_T := fun k => match k with
  | _ => ("", "", "", false)
def tyJ10 : Nat → FieldType := fun k => match k with
  | _ => .int
abbrev wsJ100 : List Cond := u_ws RJ10 TJ10 0
theorem nmJ10 : ∀ a, a < 0 → ∀ b, b < 0 → a ≠ b → (TJ10 a).2.1 ≠ (TJ10 b).2.1 := by decide +kernel
theorem tyJ10_ok : ∀ k, k < 0 → parseFieldDescriptor (TJ10 k).2.2.1 = some (tyJ10 k) := by decide +kernel
def RL : String := "PairSorterLaw"
abbrev cL_cell : ByteArray := method_2_code
def yL_cell : MethodName := ⟨RL, "cell", "([II)I"⟩
abbrev cL_law : ByteArray := code
def yL_law : MethodName := ⟨RL, "law", "([I)Z"⟩
def wsX0_init : List Cond := .code yX0_init cX0_init 2 none :: ([.methodLink RX0 1 objectInit, .instanceMethod objectInit, .code objectInit ⟨#[0xb1]⟩ 1 none, .arrayClass .int, .fieldLink RX0 7 "PairSorter$Pile" "starts" "[I", .fieldLink RX0 13 "PairSorter$Pile" "lengths" "[I"] ++ wsX00)
def wsX0_empty : List Cond := .code yX0_empty cX0_empty 1 none :: ([.fieldLink RX0 16 "PairSorter$Pile" "count" "I", .fieldLink RX0 20 "PairSorter$Pile" "height" "I"] ++ wsX00)
def wsX0_push : List Cond := .code yX0_push cX0_push 3 none :: ([.fieldLink RX0 16 "PairSorter$Pile" "count" "I", .fieldLink RX0 13 "PairSorter$Pile" "lengths" "[I", .fieldLink RX0 7 "PairSorter$Pile" "starts" "[I", .fieldLink RX0 20 "PairSorter$Pile" "height" "I", .methodLink RX0 23 Lib.Math.max.name, .static Lib.Math.max.name, .initialized "java/lang/Math", .code Lib.Math.max.name Lib.Math.max.code 2 (some .int)] ++ wsX00)
def wsX0_fromTop : List Cond := .code yX0_fromTop cX0_fromTop 2 (some .int) :: ([.fieldLink RX0 13 "PairSorter$Pile" "lengths" "[I", .fieldLink RX0 16 "PairSorter$Pile" "count" "I"] ++ wsX00)
def wsX0_isTooFlat : List Cond := .code yX0_isTooFlat cX0_isTooFlat 1 (some .boolean) :: ([.fieldLink RX0 16 "PairSorter$Pile" "count" "I", .methodLink RX0 29 yX0_fromTop, .instanceMethod yX0_fromTop, .selects RX0 yX0_fromTop yX0_fromTop, .initialized RX0, .code yX0_fromTop cX0_fromTop 2 (some .int), .fieldLink RX0 13 "PairSorter$Pile" "lengths" "[I"] ++ wsX00)
def wsX0_isTopTooLong : List Cond := .code yX0_isTopTooLong cX0_isTopTooLong 1 (some .boolean) :: ([.fieldLink RX0 16 "PairSorter$Pile" "count" "I", .methodLink RX0 29 yX0_fromTop, .instanceMethod yX0_fromTop, .selects RX0 yX0_fromTop yX0_fromTop, .initialized RX0, .code yX0_fromTop cX0_fromTop 2 (some .int), .fieldLink RX0 13 "PairSorter$Pile" "lengths" "[I"] ++ wsX00)
def wsX0_placeBelowShorterNeighbour : List Cond := .code yX0_placeBelowShorterNeighbour cX0_placeBelowShorterNeighbour 1 (some .int) :: ([.fieldLink RX0 16 "PairSorter$Pile" "count" "I", .methodLink RX0 29 yX0_fromTop, .instanceMethod yX0_fromTop, .selects RX0 yX0_fromTop yX0_fromTop, .initialized RX0, .code yX0_fromTop cX0_fromTop 2 (some .int), .fieldLink RX0 13 "PairSorter$Pile" "lengths" "[I"] ++ wsX00)
def wsX0_join : List Cond := .code yX0_join cX0_join 3 none :: ([.fieldLink RX0 13 "PairSorter$Pile" "lengths" "[I", .fieldLink RX0 16 "PairSorter$Pile" "count" "I", .fieldLink RX0 7 "PairSorter$Pile" "starts" "[I"] ++ wsX00)
def wsX1_init : List Cond := .code yX1_init cX1_init 4 none :: ([.methodLink RX1 1 objectInit, .instanceMethod objectInit, .code objectInit ⟨#[0xb1]⟩ 1 none, .methodLink RX1 9 Lib.Math.min.name, .static Lib.Math.min.name, .initialized "java/lang/Math", .code Lib.Math.min.name Lib.Math.min.code 2 (some .int), .methodLink RX1 15 Lib.Math.max.name, .static Lib.Math.max.name, .code Lib.Math.max.name Lib.Math.max.code 2 (some .int), .arrayClass .long, .fieldLink RX1 18 "PairSorter" "pairs" "[J", .fieldLink RX1 22 "PairSorter" "aside" "[J", .classLink RX1 25 RX0, .instantiable RX0 4, .initialized RX0, .fieldLink RX1 30 "PairSorter" "pile" "LPairSorter$Pile;", .arrayClass .int, .fieldLink RX1 34 "PairSorter" "runLengths" "[I", .instanceMethod yX0_init, .code yX0_init cX0_init 2 none, .methodLink RX0 1 objectInit, .fieldLink RX0 7 "PairSorter$Pile" "starts" "[I", .fieldLink RX0 13 "PairSorter$Pile" "lengths" "[I"] ++ wsX10 ++ wsX00)
def wsX1_pairOf : List Cond := .code yX1_pairOf cX1_pairOf 2 (some .long) :: ([.constantLong RX1 105 (4294967295)])
def wsX1_put : List Cond := .code yX1_put cX1_put 3 (some .boolean) :: ([.fieldLink RX1 38 "PairSorter" "size" "I", .fieldLink RX1 18 "PairSorter" "pairs" "[J", .methodLink RX1 42 yX1_pairOf, .static yX1_pairOf, .initialized RX1, .code yX1_pairOf cX1_pairOf 2 (some .long), .constantLong RX1 105 (4294967295)] ++ wsX10)
def wsJ9_floorMod_7cf53 : List Cond := .code yJ9_floorMod_7cf53 cJ9_floorMod_7cf53 3 (some .int) :: ([])
def wsX1_fill : List Cond := .code yX1_fill cX1_fill 9 (some .int) :: ([.fieldLink RX1 18 "PairSorter" "pairs" "[J", .fieldLink RX1 38 "PairSorter" "size" "I", .methodLink RX1 9 Lib.Math.min.name, .static Lib.Math.min.name, .initialized "java/lang/Math", .code Lib.Math.min.name Lib.Math.min.code 2 (some .int), .methodLink RX1 15 Lib.Math.max.name, .static Lib.Math.max.name, .code Lib.Math.max.name Lib.Math.max.code 2 (some .int), .methodLink RX1 46 yJ9_floorMod_7cf53, .static yJ9_floorMod_7cf53, .initialized RJ9, .code yJ9_floorMod_7cf53 cJ9_floorMod_7cf53 3 (some .int), .methodLink RX1 42 yX1_pairOf, .static yX1_pairOf, .initialized RX1, .code yX1_pairOf cX1_pairOf 2 (some .long), .constantLong RX1 105 (4294967295)] ++ wsX10)
def wsX1_turnRound : List Cond := .code yX1_turnRound cX1_turnRound 7 none :: ([.fieldLink RX1 18 "PairSorter" "pairs" "[J"] ++ wsX10)
def wsX1_turn : List Cond := .code yX1_turn cX1_turn 3 (some .int) :: ([.fieldLink RX1 38 "PairSorter" "size" "I", .methodLink RX1 49 yX1_turnRound, .instanceMethod yX1_turnRound, .selects RX1 yX1_turnRound yX1_turnRound, .initialized RX1, .code yX1_turnRound cX1_turnRound 7 none, .fieldLink RX1 18 "PairSorter" "pairs" "[J"] ++ wsX10)
def wsX1_forgetLatestSorting : List Cond := .code yX1_forgetLatestSorting cX1_forgetLatestSorting 1 none :: ([.fieldLink RX1 60 "PairSorter" "runs" "I", .fieldLink RX1 92 "PairSorter" "merges" "I", .fieldLink RX1 95 "PairSorter" "mergedPairs" "J", .fieldLink RX1 30 "PairSorter" "pile" "LPairSorter$Pile;", .instanceMethod yX0_empty, .initialized RX0, .selects RX0 yX0_empty yX0_empty, .code yX0_empty cX0_empty 1 none, .fieldLink RX0 16 "PairSorter$Pile" "count" "I", .fieldLink RX0 20 "PairSorter$Pile" "height" "I"] ++ wsX10 ++ wsX00)
def wsX1_leastFor : List Cond := .code yX1_leastFor cX1_leastFor 3 (some .int) :: ([])
def wsX1_keyOf : List Cond := .code yX1_keyOf cX1_keyOf 2 (some .int) :: ([])
def wsX1_fallsAt : List Cond := .code yX1_fallsAt cX1_fallsAt 2 (some .boolean) :: ([.fieldLink RX1 18 "PairSorter" "pairs" "[J", .methodLink RX1 85 yX1_keyOf, .static yX1_keyOf, .initialized RX1, .code yX1_keyOf cX1_keyOf 2 (some .int)] ++ wsX10)
def wsX1_countFalling : List Cond := .code yX1_countFalling cX1_countFalling 3 (some .int) :: ([.fieldLink RX1 38 "PairSorter" "size" "I", .methodLink RX1 107 yX1_fallsAt, .instanceMethod yX1_fallsAt, .selects RX1 yX1_fallsAt yX1_fallsAt, .initialized RX1, .code yX1_fallsAt cX1_fallsAt 2 (some .boolean), .fieldLink RX1 18 "PairSorter" "pairs" "[J", .methodLink RX1 85 yX1_keyOf, .static yX1_keyOf, .code yX1_keyOf cX1_keyOf 2 (some .int)] ++ wsX10)
def wsX1_countNotFalling : List Cond := .code yX1_countNotFalling cX1_countNotFalling 3 (some .int) :: ([.fieldLink RX1 38 "PairSorter" "size" "I", .methodLink RX1 107 yX1_fallsAt, .instanceMethod yX1_fallsAt, .selects RX1 yX1_fallsAt yX1_fallsAt, .initialized RX1, .code yX1_fallsAt cX1_fallsAt 2 (some .boolean), .fieldLink RX1 18 "PairSorter" "pairs" "[J", .methodLink RX1 85 yX1_keyOf, .static yX1_keyOf, .code yX1_keyOf cX1_keyOf 2 (some .int)] ++ wsX10)
def wsX1_findRun : List Cond := .code yX1_findRun cX1_findRun 3 (some .int) :: ([.methodLink RX1 116 yX1_countFalling, .instanceMethod yX1_countFalling, .selects RX1 yX1_countFalling yX1_countFalling, .initialized RX1, .code yX1_countFalling cX1_countFalling 3 (some .int), .fieldLink RX1 38 "PairSorter" "size" "I", .methodLink RX1 107 yX1_fallsAt, .instanceMethod yX1_fallsAt, .selects RX1 yX1_fallsAt yX1_fallsAt, .code yX1_fallsAt cX1_fallsAt 2 (some .boolean), .fieldLink RX1 18 "PairSorter" "pairs" "[J", .methodLink RX1 85 yX1_keyOf, .static yX1_keyOf, .code yX1_keyOf cX1_keyOf 2 (some .int), .methodLink RX1 99 yX1_countNotFalling, .instanceMethod yX1_countNotFalling, .selects RX1 yX1_countNotFalling yX1_countNotFalling, .code yX1_countNotFalling cX1_countNotFalling 3 (some .int), .methodLink RX1 49 yX1_turnRound, .instanceMethod yX1_turnRound, .selects RX1 yX1_turnRound yX1_turnRound, .code yX1_turnRound cX1_turnRound 7 none] ++ wsX10)
def wsX1_placeBehindEqualKeys : List Cond := .code yX1_placeBehindEqualKeys cX1_placeBehindEqualKeys 7 (some .int) :: ([.fieldLink RX1 18 "PairSorter" "pairs" "[J", .methodLink RX1 85 yX1_keyOf, .static yX1_keyOf, .initialized RX1, .code yX1_keyOf cX1_keyOf 2 (some .int)] ++ wsX10)
def wsX1_insert : List Cond := .code yX1_insert cX1_insert 6 none :: ([.fieldLink RX1 18 "PairSorter" "pairs" "[J", .methodLink RX1 123 arraycopyName, .native arraycopyName, .static arraycopyName, .initialized "java/lang/System", .methodLink RX1 85 yX1_keyOf, .static yX1_keyOf, .initialized RX1, .code yX1_keyOf cX1_keyOf 2 (some .int), .methodLink RX1 119 yX1_placeBehindEqualKeys, .instanceMethod yX1_placeBehindEqualKeys, .selects RX1 yX1_placeBehindEqualKeys yX1_placeBehindEqualKeys, .code yX1_placeBehindEqualKeys cX1_placeBehindEqualKeys 7 (some .int)] ++ wsX10)
def wsX1_makeRun_r1 : List Cond := [Cond.fieldLink RX1 38 "PairSorter" "size" "I", Cond.methodLink RX1 9 Lib.Math.min.name, Cond.static Lib.Math.min.name, Cond.initialized "java/lang/Math", Cond.code Lib.Math.min.name Lib.Math.min.code 2 (some .int), Cond.methodLink RX1 15 Lib.Math.max.name, Cond.static Lib.Math.max.name, Cond.code Lib.Math.max.name Lib.Math.max.code 2 (some .int), Cond.methodLink RX1 110 yX1_findRun, Cond.instanceMethod yX1_findRun, Cond.selects RX1 yX1_findRun yX1_findRun, Cond.initialized RX1, Cond.code yX1_findRun cX1_findRun 3 (some .int), Cond.methodLink RX1 116 yX1_countFalling, Cond.instanceMethod yX1_countFalling, Cond.selects RX1 yX1_countFalling yX1_countFalling, Cond.code yX1_countFalling cX1_countFalling 3 (some .int), Cond.methodLink RX1 107 yX1_fallsAt, Cond.instanceMethod yX1_fallsAt, Cond.selects RX1 yX1_fallsAt yX1_fallsAt, Cond.code yX1_fallsAt cX1_fallsAt 2 (some .boolean), Cond.fieldLink RX1 18 "PairSorter" "pairs" "[J", Cond.methodLink RX1 85 yX1_keyOf, Cond.static yX1_keyOf]
def wsX1_makeRun_r2 : List Cond := [Cond.code yX1_keyOf cX1_keyOf 2 (some .int), Cond.methodLink RX1 99 yX1_countNotFalling, Cond.instanceMethod yX1_countNotFalling, Cond.selects RX1 yX1_countNotFalling yX1_countNotFalling, Cond.code yX1_countNotFalling cX1_countNotFalling 3 (some .int), Cond.methodLink RX1 49 yX1_turnRound, Cond.instanceMethod yX1_turnRound, Cond.selects RX1 yX1_turnRound yX1_turnRound, Cond.code yX1_turnRound cX1_turnRound 7 none, Cond.methodLink RX1 113 yX1_insert, Cond.instanceMethod yX1_insert, Cond.selects RX1 yX1_insert yX1_insert, Cond.code yX1_insert cX1_insert 6 none, Cond.methodLink RX1 123 arraycopyName, Cond.native arraycopyName, Cond.static arraycopyName, Cond.initialized "java/lang/System", Cond.methodLink RX1 119 yX1_placeBehindEqualKeys, Cond.instanceMethod yX1_placeBehindEqualKeys, Cond.selects RX1 yX1_placeBehindEqualKeys yX1_placeBehindEqualKeys, Cond.code yX1_placeBehindEqualKeys cX1_placeBehindEqualKeys 7 (some .int)]
def wsX1_makeRun : List Cond := .code yX1_makeRun cX1_makeRun 6 (some .int) :: ((wsX1_makeRun_r1 ++ wsX1_makeRun_r2) ++ wsX10)
def wsX1_mergeForward : List Cond := .code yX1_mergeForward cX1_mergeForward 8 none :: ([.fieldLink RX1 18 "PairSorter" "pairs" "[J", .fieldLink RX1 22 "PairSorter" "aside" "[J", .methodLink RX1 123 arraycopyName, .native arraycopyName, .static arraycopyName, .initialized "java/lang/System", .methodLink RX1 85 yX1_keyOf, .static yX1_keyOf, .initialized RX1, .code yX1_keyOf cX1_keyOf 2 (some .int)] ++ wsX10)
def wsX1_mergeBackward : List Cond := .code yX1_mergeBackward cX1_mergeBackward 8 none :: ([.fieldLink RX1 18 "PairSorter" "pairs" "[J", .fieldLink RX1 22 "PairSorter" "aside" "[J", .methodLink RX1 123 arraycopyName, .native arraycopyName, .static arraycopyName, .initialized "java/lang/System", .methodLink RX1 85 yX1_keyOf, .static yX1_keyOf, .initialized RX1, .code yX1_keyOf cX1_keyOf 2 (some .int)] ++ wsX10)
def wsX1_mergeAt_r1 : List Cond := [Cond.fieldLink RX1 30 "PairSorter" "pile" "LPairSorter$Pile;", Cond.fieldLink RX1 92 "PairSorter" "merges" "I", Cond.fieldLink RX1 95 "PairSorter" "mergedPairs" "J", Cond.methodLink RX1 152 yX1_mergeForward, Cond.instanceMethod yX1_mergeForward, Cond.selects RX1 yX1_mergeForward yX1_mergeForward, Cond.initialized RX1, Cond.code yX1_mergeForward cX1_mergeForward 8 none, Cond.fieldLink RX1 18 "PairSorter" "pairs" "[J", Cond.fieldLink RX1 22 "PairSorter" "aside" "[J", Cond.methodLink RX1 123 arraycopyName, Cond.native arraycopyName, Cond.static arraycopyName, Cond.initialized "java/lang/System", Cond.methodLink RX1 85 yX1_keyOf, Cond.static yX1_keyOf, Cond.code yX1_keyOf cX1_keyOf 2 (some .int), Cond.methodLink RX1 156 yX1_mergeBackward, Cond.instanceMethod yX1_mergeBackward, Cond.selects RX1 yX1_mergeBackward yX1_mergeBackward, Cond.code yX1_mergeBackward cX1_mergeBackward 8 none, Cond.instanceMethod yX0_join, Cond.initialized RX0, Cond.selects RX0 yX0_join yX0_join]
def wsX1_mergeAt_r2 : List Cond := [Cond.code yX0_join cX0_join 3 none, Cond.fieldLink RX0 13 "PairSorter$Pile" "lengths" "[I", Cond.fieldLink RX0 16 "PairSorter$Pile" "count" "I", Cond.fieldLink RX0 7 "PairSorter$Pile" "starts" "[I"]
def wsX1_mergeAt : List Cond := .code yX1_mergeAt cX1_mergeAt 5 none :: ((wsX1_mergeAt_r1 ++ wsX1_mergeAt_r2) ++ wsX10 ++ wsX00)
def wsX1_bringInOrder_r1 : List Cond := [Cond.fieldLink RX1 30 "PairSorter" "pile" "LPairSorter$Pile;", Cond.instanceMethod yX0_isTooFlat, Cond.initialized RX0, Cond.selects RX0 yX0_isTooFlat yX0_isTooFlat, Cond.code yX0_isTooFlat cX0_isTooFlat 1 (some .boolean), Cond.fieldLink RX0 16 "PairSorter$Pile" "count" "I", Cond.methodLink RX0 29 yX0_fromTop, Cond.instanceMethod yX0_fromTop, Cond.selects RX0 yX0_fromTop yX0_fromTop, Cond.code yX0_fromTop cX0_fromTop 2 (some .int), Cond.fieldLink RX0 13 "PairSorter$Pile" "lengths" "[I", Cond.instanceMethod yX0_placeBelowShorterNeighbour, Cond.selects RX0 yX0_placeBelowShorterNeighbour yX0_placeBelowShorterNeighbour, Cond.code yX0_placeBelowShorterNeighbour cX0_placeBelowShorterNeighbour 1 (some .int), Cond.methodLink RX1 140 yX1_mergeAt, Cond.instanceMethod yX1_mergeAt, Cond.selects RX1 yX1_mergeAt yX1_mergeAt, Cond.initialized RX1, Cond.code yX1_mergeAt cX1_mergeAt 5 none, Cond.fieldLink RX1 92 "PairSorter" "merges" "I", Cond.fieldLink RX1 95 "PairSorter" "mergedPairs" "J", Cond.methodLink RX1 152 yX1_mergeForward, Cond.instanceMethod yX1_mergeForward, Cond.selects RX1 yX1_mergeForward yX1_mergeForward]
def wsX1_bringInOrder_r2 : List Cond := [Cond.code yX1_mergeForward cX1_mergeForward 8 none, Cond.fieldLink RX1 18 "PairSorter" "pairs" "[J", Cond.fieldLink RX1 22 "PairSorter" "aside" "[J", Cond.methodLink RX1 123 arraycopyName, Cond.native arraycopyName, Cond.static arraycopyName, Cond.initialized "java/lang/System", Cond.methodLink RX1 85 yX1_keyOf, Cond.static yX1_keyOf, Cond.code yX1_keyOf cX1_keyOf 2 (some .int), Cond.methodLink RX1 156 yX1_mergeBackward, Cond.instanceMethod yX1_mergeBackward, Cond.selects RX1 yX1_mergeBackward yX1_mergeBackward, Cond.code yX1_mergeBackward cX1_mergeBackward 8 none, Cond.instanceMethod yX0_join, Cond.selects RX0 yX0_join yX0_join, Cond.code yX0_join cX0_join 3 none, Cond.fieldLink RX0 7 "PairSorter$Pile" "starts" "[I", Cond.instanceMethod yX0_isTopTooLong, Cond.selects RX0 yX0_isTopTooLong yX0_isTopTooLong, Cond.code yX0_isTopTooLong cX0_isTopTooLong 1 (some .boolean)]
def wsX1_bringInOrder : List Cond := .code yX1_bringInOrder cX1_bringInOrder 2 none :: ((wsX1_bringInOrder_r1 ++ wsX1_bringInOrder_r2) ++ wsX10 ++ wsX00)
def wsX1_mergeWhatIsLeft_r1 : List Cond := [Cond.fieldLink RX1 30 "PairSorter" "pile" "LPairSorter$Pile;", Cond.instanceMethod yX0_placeBelowShorterNeighbour, Cond.initialized RX0, Cond.selects RX0 yX0_placeBelowShorterNeighbour yX0_placeBelowShorterNeighbour, Cond.code yX0_placeBelowShorterNeighbour cX0_placeBelowShorterNeighbour 1 (some .int), Cond.fieldLink RX0 16 "PairSorter$Pile" "count" "I", Cond.methodLink RX0 29 yX0_fromTop, Cond.instanceMethod yX0_fromTop, Cond.selects RX0 yX0_fromTop yX0_fromTop, Cond.code yX0_fromTop cX0_fromTop 2 (some .int), Cond.fieldLink RX0 13 "PairSorter$Pile" "lengths" "[I", Cond.methodLink RX1 140 yX1_mergeAt, Cond.instanceMethod yX1_mergeAt, Cond.selects RX1 yX1_mergeAt yX1_mergeAt, Cond.initialized RX1, Cond.code yX1_mergeAt cX1_mergeAt 5 none, Cond.fieldLink RX1 92 "PairSorter" "merges" "I", Cond.fieldLink RX1 95 "PairSorter" "mergedPairs" "J", Cond.methodLink RX1 152 yX1_mergeForward, Cond.instanceMethod yX1_mergeForward, Cond.selects RX1 yX1_mergeForward yX1_mergeForward, Cond.code yX1_mergeForward cX1_mergeForward 8 none, Cond.fieldLink RX1 18 "PairSorter" "pairs" "[J", Cond.fieldLink RX1 22 "PairSorter" "aside" "[J"]
def wsX1_mergeWhatIsLeft_r2 : List Cond := [Cond.methodLink RX1 123 arraycopyName, Cond.native arraycopyName, Cond.static arraycopyName, Cond.initialized "java/lang/System", Cond.methodLink RX1 85 yX1_keyOf, Cond.static yX1_keyOf, Cond.code yX1_keyOf cX1_keyOf 2 (some .int), Cond.methodLink RX1 156 yX1_mergeBackward, Cond.instanceMethod yX1_mergeBackward, Cond.selects RX1 yX1_mergeBackward yX1_mergeBackward, Cond.code yX1_mergeBackward cX1_mergeBackward 8 none, Cond.instanceMethod yX0_join, Cond.selects RX0 yX0_join yX0_join, Cond.code yX0_join cX0_join 3 none, Cond.fieldLink RX0 7 "PairSorter$Pile" "starts" "[I"]
def wsX1_mergeWhatIsLeft : List Cond := .code yX1_mergeWhatIsLeft cX1_mergeWhatIsLeft 2 none :: ((wsX1_mergeWhatIsLeft_r1 ++ wsX1_mergeWhatIsLeft_r2) ++ wsX10 ++ wsX00)
def wsX1_run_r1 : List Cond := [Cond.fieldLink RX1 38 "PairSorter" "size" "I", Cond.fieldLink RX1 60 "PairSorter" "runs" "I", Cond.fieldLink RX1 34 "PairSorter" "runLengths" "[I", Cond.fieldLink RX1 30 "PairSorter" "pile" "LPairSorter$Pile;", Cond.fieldLink RX1 75 "PairSorter" "greatestHeight" "I", Cond.methodLink RX1 15 Lib.Math.max.name, Cond.static Lib.Math.max.name, Cond.initialized "java/lang/Math", Cond.code Lib.Math.max.name Lib.Math.max.code 2 (some .int), Cond.methodLink RX1 53 yX1_forgetLatestSorting, Cond.instanceMethod yX1_forgetLatestSorting, Cond.selects RX1 yX1_forgetLatestSorting yX1_forgetLatestSorting, Cond.initialized RX1, Cond.code yX1_forgetLatestSorting cX1_forgetLatestSorting 1 none, Cond.fieldLink RX1 92 "PairSorter" "merges" "I", Cond.fieldLink RX1 95 "PairSorter" "mergedPairs" "J", Cond.instanceMethod yX0_empty, Cond.initialized RX0, Cond.selects RX0 yX0_empty yX0_empty, Cond.code yX0_empty cX0_empty 1 none, Cond.fieldLink RX0 16 "PairSorter$Pile" "count" "I", Cond.fieldLink RX0 20 "PairSorter$Pile" "height" "I", Cond.methodLink RX1 56 yX1_leastFor, Cond.static yX1_leastFor]
def wsX1_run_r2 : List Cond := [Cond.code yX1_leastFor cX1_leastFor 3 (some .int), Cond.methodLink RX1 63 yX1_makeRun, Cond.instanceMethod yX1_makeRun, Cond.selects RX1 yX1_makeRun yX1_makeRun, Cond.code yX1_makeRun cX1_makeRun 6 (some .int), Cond.methodLink RX1 9 Lib.Math.min.name, Cond.static Lib.Math.min.name, Cond.code Lib.Math.min.name Lib.Math.min.code 2 (some .int), Cond.methodLink RX1 110 yX1_findRun, Cond.instanceMethod yX1_findRun, Cond.selects RX1 yX1_findRun yX1_findRun, Cond.code yX1_findRun cX1_findRun 3 (some .int), Cond.methodLink RX1 116 yX1_countFalling, Cond.instanceMethod yX1_countFalling, Cond.selects RX1 yX1_countFalling yX1_countFalling, Cond.code yX1_countFalling cX1_countFalling 3 (some .int), Cond.methodLink RX1 107 yX1_fallsAt, Cond.instanceMethod yX1_fallsAt, Cond.selects RX1 yX1_fallsAt yX1_fallsAt, Cond.code yX1_fallsAt cX1_fallsAt 2 (some .boolean), Cond.fieldLink RX1 18 "PairSorter" "pairs" "[J", Cond.methodLink RX1 85 yX1_keyOf, Cond.static yX1_keyOf, Cond.code yX1_keyOf cX1_keyOf 2 (some .int)]
def wsX1_run_r3 : List Cond := [Cond.methodLink RX1 99 yX1_countNotFalling, Cond.instanceMethod yX1_countNotFalling, Cond.selects RX1 yX1_countNotFalling yX1_countNotFalling, Cond.code yX1_countNotFalling cX1_countNotFalling 3 (some .int), Cond.methodLink RX1 49 yX1_turnRound, Cond.instanceMethod yX1_turnRound, Cond.selects RX1 yX1_turnRound yX1_turnRound, Cond.code yX1_turnRound cX1_turnRound 7 none, Cond.methodLink RX1 113 yX1_insert, Cond.instanceMethod yX1_insert, Cond.selects RX1 yX1_insert yX1_insert, Cond.code yX1_insert cX1_insert 6 none, Cond.methodLink RX1 123 arraycopyName, Cond.native arraycopyName, Cond.static arraycopyName, Cond.initialized "java/lang/System", Cond.methodLink RX1 119 yX1_placeBehindEqualKeys, Cond.instanceMethod yX1_placeBehindEqualKeys, Cond.selects RX1 yX1_placeBehindEqualKeys yX1_placeBehindEqualKeys, Cond.code yX1_placeBehindEqualKeys cX1_placeBehindEqualKeys 7 (some .int), Cond.instanceMethod yX0_push, Cond.selects RX0 yX0_push yX0_push, Cond.code yX0_push cX0_push 3 none, Cond.fieldLink RX0 13 "PairSorter$Pile" "lengths" "[I"]
def wsX1_run_r4 : List Cond := [Cond.fieldLink RX0 7 "PairSorter$Pile" "starts" "[I", Cond.methodLink RX0 23 Lib.Math.max.name, Cond.methodLink RX1 69 yX1_bringInOrder, Cond.instanceMethod yX1_bringInOrder, Cond.selects RX1 yX1_bringInOrder yX1_bringInOrder, Cond.code yX1_bringInOrder cX1_bringInOrder 2 none, Cond.instanceMethod yX0_isTooFlat, Cond.selects RX0 yX0_isTooFlat yX0_isTooFlat, Cond.code yX0_isTooFlat cX0_isTooFlat 1 (some .boolean), Cond.methodLink RX0 29 yX0_fromTop, Cond.instanceMethod yX0_fromTop, Cond.selects RX0 yX0_fromTop yX0_fromTop, Cond.code yX0_fromTop cX0_fromTop 2 (some .int), Cond.instanceMethod yX0_placeBelowShorterNeighbour, Cond.selects RX0 yX0_placeBelowShorterNeighbour yX0_placeBelowShorterNeighbour, Cond.code yX0_placeBelowShorterNeighbour cX0_placeBelowShorterNeighbour 1 (some .int), Cond.methodLink RX1 140 yX1_mergeAt, Cond.instanceMethod yX1_mergeAt, Cond.selects RX1 yX1_mergeAt yX1_mergeAt, Cond.code yX1_mergeAt cX1_mergeAt 5 none, Cond.methodLink RX1 152 yX1_mergeForward, Cond.instanceMethod yX1_mergeForward, Cond.selects RX1 yX1_mergeForward yX1_mergeForward, Cond.code yX1_mergeForward cX1_mergeForward 8 none]
def wsX1_run_r5 : List Cond := [Cond.fieldLink RX1 22 "PairSorter" "aside" "[J", Cond.methodLink RX1 156 yX1_mergeBackward, Cond.instanceMethod yX1_mergeBackward, Cond.selects RX1 yX1_mergeBackward yX1_mergeBackward, Cond.code yX1_mergeBackward cX1_mergeBackward 8 none, Cond.instanceMethod yX0_join, Cond.selects RX0 yX0_join yX0_join, Cond.code yX0_join cX0_join 3 none, Cond.instanceMethod yX0_isTopTooLong, Cond.selects RX0 yX0_isTopTooLong yX0_isTopTooLong, Cond.code yX0_isTopTooLong cX0_isTopTooLong 1 (some .boolean), Cond.methodLink RX1 72 yX1_mergeWhatIsLeft, Cond.instanceMethod yX1_mergeWhatIsLeft, Cond.selects RX1 yX1_mergeWhatIsLeft yX1_mergeWhatIsLeft, Cond.code yX1_mergeWhatIsLeft cX1_mergeWhatIsLeft 2 none]
def wsX1_run : List Cond := .code yX1_run cX1_run 4 (some .int) :: ((wsX1_run_r1 ++ (wsX1_run_r2 ++ (wsX1_run_r3 ++ (wsX1_run_r4 ++ wsX1_run_r5)))) ++ wsX10 ++ wsX00)
def wsX1_isPlace : List Cond := .code yX1_isPlace cX1_isPlace 2 (some .boolean) :: ([.fieldLink RX1 38 "PairSorter" "size" "I"] ++ wsX10)
def wsX1_keyAt : List Cond := .code yX1_keyAt cX1_keyAt 2 (some .int) :: ([.fieldLink RX1 18 "PairSorter" "pairs" "[J", .methodLink RX1 81 yX1_isPlace, .instanceMethod yX1_isPlace, .selects RX1 yX1_isPlace yX1_isPlace, .initialized RX1, .code yX1_isPlace cX1_isPlace 2 (some .boolean), .fieldLink RX1 38 "PairSorter" "size" "I", .methodLink RX1 85 yX1_keyOf, .static yX1_keyOf, .code yX1_keyOf cX1_keyOf 2 (some .int)] ++ wsX10)
def wsX1_tagOf : List Cond := .code yX1_tagOf cX1_tagOf 2 (some .int) :: ([])
def wsX1_tagAt : List Cond := .code yX1_tagAt cX1_tagAt 2 (some .int) :: ([.fieldLink RX1 18 "PairSorter" "pairs" "[J", .methodLink RX1 81 yX1_isPlace, .instanceMethod yX1_isPlace, .selects RX1 yX1_isPlace yX1_isPlace, .initialized RX1, .code yX1_isPlace cX1_isPlace 2 (some .boolean), .fieldLink RX1 38 "PairSorter" "size" "I", .methodLink RX1 89 yX1_tagOf, .static yX1_tagOf, .code yX1_tagOf cX1_tagOf 2 (some .int)] ++ wsX10)
def wsX1_size : List Cond := .code yX1_size cX1_size 1 (some .int) :: ([.fieldLink RX1 38 "PairSorter" "size" "I"] ++ wsX10)
def wsX1_stackHigh : List Cond := .code yX1_stackHigh cX1_stackHigh 1 (some .int) :: ([.fieldLink RX1 75 "PairSorter" "greatestHeight" "I"] ++ wsX10)
def wsX1_work : List Cond := .code yX1_work cX1_work 3 (some .long) :: ([.fieldLink RX1 60 "PairSorter" "runs" "I", .fieldLink RX1 92 "PairSorter" "merges" "I", .fieldLink RX1 95 "PairSorter" "mergedPairs" "J", .fieldLink RX1 34 "PairSorter" "runLengths" "[I"] ++ wsX10)
def wsX1_sorted : List Cond := .code yX1_sorted cX1_sorted 2 (some .int) :: ([.methodLink RX1 81 yX1_isPlace, .instanceMethod yX1_isPlace, .selects RX1 yX1_isPlace yX1_isPlace, .initialized RX1, .code yX1_isPlace cX1_isPlace 2 (some .boolean), .fieldLink RX1 38 "PairSorter" "size" "I", .methodLink RX1 99 yX1_countNotFalling, .instanceMethod yX1_countNotFalling, .selects RX1 yX1_countNotFalling yX1_countNotFalling, .code yX1_countNotFalling cX1_countNotFalling 3 (some .int), .methodLink RX1 107 yX1_fallsAt, .instanceMethod yX1_fallsAt, .selects RX1 yX1_fallsAt yX1_fallsAt, .code yX1_fallsAt cX1_fallsAt 2 (some .boolean), .fieldLink RX1 18 "PairSorter" "pairs" "[J", .methodLink RX1 85 yX1_keyOf, .static yX1_keyOf, .code yX1_keyOf cX1_keyOf 2 (some .int)] ++ wsX10)
def wsX1_clear : List Cond := .code yX1_clear cX1_clear 1 none :: ([.fieldLink RX1 38 "PairSorter" "size" "I", .fieldLink RX1 75 "PairSorter" "greatestHeight" "I", .methodLink RX1 53 yX1_forgetLatestSorting, .instanceMethod yX1_forgetLatestSorting, .selects RX1 yX1_forgetLatestSorting yX1_forgetLatestSorting, .initialized RX1, .code yX1_forgetLatestSorting cX1_forgetLatestSorting 1 none, .fieldLink RX1 60 "PairSorter" "runs" "I", .fieldLink RX1 92 "PairSorter" "merges" "I", .fieldLink RX1 95 "PairSorter" "mergedPairs" "J", .fieldLink RX1 30 "PairSorter" "pile" "LPairSorter$Pile;", .instanceMethod yX0_empty, .initialized RX0, .selects RX0 yX0_empty yX0_empty, .code yX0_empty cX0_empty 1 none, .fieldLink RX0 16 "PairSorter$Pile" "count" "I", .fieldLink RX0 20 "PairSorter$Pile" "height" "I"] ++ wsX10 ++ wsX00)
def wsX2_init : List Cond := .code yX2_init cX2_init 2 none :: ([.methodLink RX2 1 objectInit, .instanceMethod objectInit, .code objectInit ⟨#[0xb1]⟩ 1 none, .arrayClass .int, .fieldLink RX2 7 "PairSorterModel" "keys" "[I", .fieldLink RX2 13 "PairSorterModel" "tags" "[I", .fieldLink RX2 16 "PairSorterModel" "otherKeys" "[I", .fieldLink RX2 19 "PairSorterModel" "otherTags" "[I", .fieldLink RX2 22 "PairSorterModel" "lengths" "[I", .fieldLink RX2 25 "PairSorterModel" "pile" "[I", .fieldLink RX2 28 "PairSorterModel" "cap" "I"] ++ wsX20)
def wsX2_put : List Cond := .code yX2_put cX2_put 3 (some .boolean) :: ([.fieldLink RX2 32 "PairSorterModel" "thrown" "I", .fieldLink RX2 35 "PairSorterModel" "size" "I", .fieldLink RX2 28 "PairSorterModel" "cap" "I", .fieldLink RX2 7 "PairSorterModel" "keys" "[I", .fieldLink RX2 13 "PairSorterModel" "tags" "[I"] ++ wsX20)
def wsX2_fill : List Cond := .code yX2_fill cX2_fill 9 (some .int) :: ([.fieldLink RX2 32 "PairSorterModel" "thrown" "I", .fieldLink RX2 35 "PairSorterModel" "size" "I", .fieldLink RX2 28 "PairSorterModel" "cap" "I", .fieldLink RX2 7 "PairSorterModel" "keys" "[I", .fieldLink RX2 13 "PairSorterModel" "tags" "[I"] ++ wsX20)
def wsX2_turn : List Cond := .code yX2_turn cX2_turn 4 (some .int) :: ([.fieldLink RX2 32 "PairSorterModel" "thrown" "I", .fieldLink RX2 35 "PairSorterModel" "size" "I", .fieldLink RX2 16 "PairSorterModel" "otherKeys" "[I", .fieldLink RX2 7 "PairSorterModel" "keys" "[I", .fieldLink RX2 19 "PairSorterModel" "otherTags" "[I", .fieldLink RX2 13 "PairSorterModel" "tags" "[I"] ++ wsX20)
def wsX2_least : List Cond := .code yX2_least cX2_least 3 (some .int) :: ([])
def wsX2_found : List Cond := .code yX2_found cX2_found 3 (some .int) :: ([.fieldLink RX2 35 "PairSorterModel" "size" "I", .fieldLink RX2 7 "PairSorterModel" "keys" "[I"] ++ wsX20)
def wsX2_join : List Cond := .code yX2_join cX2_join 3 none :: ([.fieldLink RX2 38 "PairSorterModel" "merges" "I", .fieldLink RX2 41 "PairSorterModel" "merged" "J", .fieldLink RX2 25 "PairSorterModel" "pile" "[I", .fieldLink RX2 45 "PairSorterModel" "piled" "I"] ++ wsX20)
def wsX2_fromTop : List Cond := .code yX2_fromTop cX2_fromTop 2 (some .int) :: ([.fieldLink RX2 25 "PairSorterModel" "pile" "[I", .fieldLink RX2 45 "PairSorterModel" "piled" "I"] ++ wsX20)
def wsX2_isBrought : List Cond := .code yX2_isBrought cX2_isBrought 4 (some .boolean) :: ([.fieldLink RX2 45 "PairSorterModel" "piled" "I", .methodLink RX2 48 yX2_fromTop, .instanceMethod yX2_fromTop, .selects RX2 yX2_fromTop yX2_fromTop, .initialized RX2, .code yX2_fromTop cX2_fromTop 2 (some .int), .fieldLink RX2 25 "PairSorterModel" "pile" "[I", .methodLink RX2 52 yX2_join, .instanceMethod yX2_join, .selects RX2 yX2_join yX2_join, .code yX2_join cX2_join 3 none, .fieldLink RX2 38 "PairSorterModel" "merges" "I", .fieldLink RX2 41 "PairSorterModel" "merged" "J"] ++ wsX20)
def wsX2_lookForRuns_r1 : List Cond := [Cond.fieldLink RX2 35 "PairSorterModel" "size" "I", Cond.fieldLink RX2 22 "PairSorterModel" "lengths" "[I", Cond.fieldLink RX2 62 "PairSorterModel" "runs" "I", Cond.fieldLink RX2 25 "PairSorterModel" "pile" "[I", Cond.fieldLink RX2 45 "PairSorterModel" "piled" "I", Cond.fieldLink RX2 65 "PairSorterModel" "height" "I", Cond.methodLink RX2 56 yX2_least, Cond.static yX2_least, Cond.initialized RX2, Cond.code yX2_least cX2_least 3 (some .int), Cond.methodLink RX2 59 yX2_found, Cond.instanceMethod yX2_found, Cond.selects RX2 yX2_found yX2_found, Cond.code yX2_found cX2_found 3 (some .int), Cond.fieldLink RX2 7 "PairSorterModel" "keys" "[I", Cond.methodLink RX2 68 yX2_isBrought, Cond.instanceMethod yX2_isBrought, Cond.selects RX2 yX2_isBrought yX2_isBrought, Cond.code yX2_isBrought cX2_isBrought 4 (some .boolean), Cond.methodLink RX2 48 yX2_fromTop, Cond.instanceMethod yX2_fromTop, Cond.selects RX2 yX2_fromTop yX2_fromTop, Cond.code yX2_fromTop cX2_fromTop 2 (some .int), Cond.methodLink RX2 52 yX2_join]
def wsX2_lookForRuns_r2 : List Cond := [Cond.instanceMethod yX2_join, Cond.selects RX2 yX2_join yX2_join, Cond.code yX2_join cX2_join 3 none, Cond.fieldLink RX2 38 "PairSorterModel" "merges" "I", Cond.fieldLink RX2 41 "PairSorterModel" "merged" "J"]
def wsX2_lookForRuns : List Cond := .code yX2_lookForRuns cX2_lookForRuns 5 none :: ((wsX2_lookForRuns_r1 ++ wsX2_lookForRuns_r2) ++ wsX20)
def wsX2_combine : List Cond := .code yX2_combine cX2_combine 8 none :: ([.fieldLink RX2 7 "PairSorterModel" "keys" "[I", .fieldLink RX2 16 "PairSorterModel" "otherKeys" "[I", .fieldLink RX2 19 "PairSorterModel" "otherTags" "[I", .fieldLink RX2 13 "PairSorterModel" "tags" "[I"] ++ wsX20)
def wsX2_run_r1 : List Cond := [Cond.fieldLink RX2 32 "PairSorterModel" "thrown" "I", Cond.fieldLink RX2 62 "PairSorterModel" "runs" "I", Cond.fieldLink RX2 38 "PairSorterModel" "merges" "I", Cond.fieldLink RX2 41 "PairSorterModel" "merged" "J", Cond.fieldLink RX2 45 "PairSorterModel" "piled" "I", Cond.fieldLink RX2 65 "PairSorterModel" "height" "I", Cond.fieldLink RX2 35 "PairSorterModel" "size" "I", Cond.fieldLink RX2 79 "PairSorterModel" "high" "I", Cond.methodLink RX2 72 yX2_lookForRuns, Cond.instanceMethod yX2_lookForRuns, Cond.selects RX2 yX2_lookForRuns yX2_lookForRuns, Cond.initialized RX2, Cond.code yX2_lookForRuns cX2_lookForRuns 5 none, Cond.fieldLink RX2 22 "PairSorterModel" "lengths" "[I", Cond.fieldLink RX2 25 "PairSorterModel" "pile" "[I", Cond.methodLink RX2 56 yX2_least, Cond.static yX2_least, Cond.code yX2_least cX2_least 3 (some .int), Cond.methodLink RX2 59 yX2_found, Cond.instanceMethod yX2_found, Cond.selects RX2 yX2_found yX2_found, Cond.code yX2_found cX2_found 3 (some .int), Cond.fieldLink RX2 7 "PairSorterModel" "keys" "[I", Cond.methodLink RX2 68 yX2_isBrought]
def wsX2_run_r2 : List Cond := [Cond.instanceMethod yX2_isBrought, Cond.selects RX2 yX2_isBrought yX2_isBrought, Cond.code yX2_isBrought cX2_isBrought 4 (some .boolean), Cond.methodLink RX2 48 yX2_fromTop, Cond.instanceMethod yX2_fromTop, Cond.selects RX2 yX2_fromTop yX2_fromTop, Cond.code yX2_fromTop cX2_fromTop 2 (some .int), Cond.methodLink RX2 52 yX2_join, Cond.instanceMethod yX2_join, Cond.selects RX2 yX2_join yX2_join, Cond.code yX2_join cX2_join 3 none, Cond.methodLink RX2 75 yX2_combine, Cond.instanceMethod yX2_combine, Cond.selects RX2 yX2_combine yX2_combine, Cond.code yX2_combine cX2_combine 8 none, Cond.fieldLink RX2 16 "PairSorterModel" "otherKeys" "[I", Cond.fieldLink RX2 19 "PairSorterModel" "otherTags" "[I", Cond.fieldLink RX2 13 "PairSorterModel" "tags" "[I"]
def wsX2_run : List Cond := .code yX2_run cX2_run 3 (some .int) :: ((wsX2_run_r1 ++ wsX2_run_r2) ++ wsX20)
def wsX2_keyAt : List Cond := .code yX2_keyAt cX2_keyAt 2 (some .int) :: ([.fieldLink RX2 32 "PairSorterModel" "thrown" "I", .fieldLink RX2 35 "PairSorterModel" "size" "I", .fieldLink RX2 7 "PairSorterModel" "keys" "[I"] ++ wsX20)
def wsX2_tagAt : List Cond := .code yX2_tagAt cX2_tagAt 2 (some .int) :: ([.fieldLink RX2 32 "PairSorterModel" "thrown" "I", .fieldLink RX2 35 "PairSorterModel" "size" "I", .fieldLink RX2 13 "PairSorterModel" "tags" "[I"] ++ wsX20)
def wsX2_size : List Cond := .code yX2_size cX2_size 1 (some .int) :: ([.fieldLink RX2 32 "PairSorterModel" "thrown" "I", .fieldLink RX2 35 "PairSorterModel" "size" "I"] ++ wsX20)
def wsX2_stackHigh : List Cond := .code yX2_stackHigh cX2_stackHigh 1 (some .int) :: ([.fieldLink RX2 32 "PairSorterModel" "thrown" "I", .fieldLink RX2 79 "PairSorterModel" "high" "I"] ++ wsX20)
def wsX2_work : List Cond := .code yX2_work cX2_work 3 (some .long) :: ([.fieldLink RX2 32 "PairSorterModel" "thrown" "I", .fieldLink RX2 62 "PairSorterModel" "runs" "I", .fieldLink RX2 22 "PairSorterModel" "lengths" "[I", .fieldLink RX2 38 "PairSorterModel" "merges" "I", .fieldLink RX2 41 "PairSorterModel" "merged" "J"] ++ wsX20)
def wsX2_sorted : List Cond := .code yX2_sorted cX2_sorted 3 (some .int) :: ([.fieldLink RX2 32 "PairSorterModel" "thrown" "I", .fieldLink RX2 35 "PairSorterModel" "size" "I", .fieldLink RX2 7 "PairSorterModel" "keys" "[I"] ++ wsX20)
def wsX2_clear : List Cond := .code yX2_clear cX2_clear 1 none :: ([.fieldLink RX2 32 "PairSorterModel" "thrown" "I", .fieldLink RX2 35 "PairSorterModel" "size" "I", .fieldLink RX2 79 "PairSorterModel" "high" "I", .fieldLink RX2 62 "PairSorterModel" "runs" "I", .fieldLink RX2 38 "PairSorterModel" "merges" "I", .fieldLink RX2 41 "PairSorterModel" "merged" "J"] ++ wsX20)
def wsJ9_max_7cf53 : List Cond := .code yJ9_max_7cf53 cJ9_max_7cf53 2 (some .int) :: ([])
def wsJ9_min_7cf53 : List Cond := .code yJ9_min_7cf53 cJ9_min_7cf53 2 (some .int) :: ([])
def wsL_cell : List Cond := .code yL_cell cL_cell 2 (some .int) :: ([])
def wsL_law_r1 : List Cond := [Cond.classLink RL 7 RX1, Cond.instantiable RX1 9, Cond.initialized RX1, Cond.classLink RL 18 RX2, Cond.instantiable RX2 15, Cond.initialized RX2, Cond.methodLink RL 9 yL_cell, Cond.static yL_cell, Cond.initialized RL, Cond.code yL_cell cL_cell 2 (some .int), Cond.methodLink RL 15 yX1_init, Cond.instanceMethod yX1_init, Cond.code yX1_init cX1_init 4 none, Cond.methodLink RX1 1 objectInit, Cond.instanceMethod objectInit, Cond.code objectInit ⟨#[0xb1]⟩ 1 none, Cond.methodLink RX1 9 Lib.Math.min.name, Cond.static Lib.Math.min.name, Cond.initialized "java/lang/Math", Cond.code Lib.Math.min.name Lib.Math.min.code 2 (some .int), Cond.methodLink RX1 15 Lib.Math.max.name, Cond.static Lib.Math.max.name, Cond.code Lib.Math.max.name Lib.Math.max.code 2 (some .int), Cond.arrayClass .long]
def wsL_law_r2 : List Cond := [Cond.fieldLink RX1 18 "PairSorter" "pairs" "[J", Cond.fieldLink RX1 22 "PairSorter" "aside" "[J", Cond.classLink RX1 25 RX0, Cond.instantiable RX0 4, Cond.initialized RX0, Cond.fieldLink RX1 30 "PairSorter" "pile" "LPairSorter$Pile;", Cond.arrayClass .int, Cond.fieldLink RX1 34 "PairSorter" "runLengths" "[I", Cond.instanceMethod yX0_init, Cond.code yX0_init cX0_init 2 none, Cond.methodLink RX0 1 objectInit, Cond.fieldLink RX0 7 "PairSorter$Pile" "starts" "[I", Cond.fieldLink RX0 13 "PairSorter$Pile" "lengths" "[I", Cond.methodLink RL 20 yX2_init, Cond.instanceMethod yX2_init, Cond.code yX2_init cX2_init 2 none, Cond.methodLink RX2 1 objectInit, Cond.fieldLink RX2 7 "PairSorterModel" "keys" "[I", Cond.fieldLink RX2 13 "PairSorterModel" "tags" "[I", Cond.fieldLink RX2 16 "PairSorterModel" "otherKeys" "[I", Cond.fieldLink RX2 19 "PairSorterModel" "otherTags" "[I", Cond.fieldLink RX2 22 "PairSorterModel" "lengths" "[I", Cond.fieldLink RX2 25 "PairSorterModel" "pile" "[I", Cond.fieldLink RX2 28 "PairSorterModel" "cap" "I"]
def wsL_law_r3 : List Cond := [Cond.methodLink RL 21 yX1_put, Cond.instanceMethod yX1_put, Cond.selects RX1 yX1_put yX1_put, Cond.code yX1_put cX1_put 3 (some .boolean), Cond.fieldLink RX1 38 "PairSorter" "size" "I", Cond.methodLink RX1 42 yX1_pairOf, Cond.static yX1_pairOf, Cond.code yX1_pairOf cX1_pairOf 2 (some .long), Cond.constantLong RX1 105 (4294967295), Cond.methodLink RL 25 yX2_put, Cond.instanceMethod yX2_put, Cond.selects RX2 yX2_put yX2_put, Cond.code yX2_put cX2_put 3 (some .boolean), Cond.fieldLink RX2 32 "PairSorterModel" "thrown" "I", Cond.fieldLink RX2 35 "PairSorterModel" "size" "I", Cond.methodLink RL 26 yX1_fill, Cond.instanceMethod yX1_fill, Cond.selects RX1 yX1_fill yX1_fill, Cond.code yX1_fill cX1_fill 9 (some .int), Cond.methodLink RX1 46 yJ9_floorMod_7cf53, Cond.static yJ9_floorMod_7cf53, Cond.initialized RJ9, Cond.code yJ9_floorMod_7cf53 cJ9_floorMod_7cf53 3 (some .int), Cond.methodLink RL 30 yX2_fill]
def wsL_law_r4 : List Cond := [Cond.instanceMethod yX2_fill, Cond.selects RX2 yX2_fill yX2_fill, Cond.code yX2_fill cX2_fill 9 (some .int), Cond.methodLink RL 31 yX1_turn, Cond.instanceMethod yX1_turn, Cond.selects RX1 yX1_turn yX1_turn, Cond.code yX1_turn cX1_turn 3 (some .int), Cond.methodLink RX1 49 yX1_turnRound, Cond.instanceMethod yX1_turnRound, Cond.selects RX1 yX1_turnRound yX1_turnRound, Cond.code yX1_turnRound cX1_turnRound 7 none, Cond.methodLink RL 35 yX2_turn, Cond.instanceMethod yX2_turn, Cond.selects RX2 yX2_turn yX2_turn, Cond.code yX2_turn cX2_turn 4 (some .int), Cond.methodLink RL 36 yX1_run, Cond.instanceMethod yX1_run, Cond.selects RX1 yX1_run yX1_run, Cond.code yX1_run cX1_run 4 (some .int), Cond.fieldLink RX1 60 "PairSorter" "runs" "I", Cond.fieldLink RX1 75 "PairSorter" "greatestHeight" "I", Cond.methodLink RX1 53 yX1_forgetLatestSorting, Cond.instanceMethod yX1_forgetLatestSorting, Cond.selects RX1 yX1_forgetLatestSorting yX1_forgetLatestSorting]
def wsL_law_r5 : List Cond := [Cond.code yX1_forgetLatestSorting cX1_forgetLatestSorting 1 none, Cond.fieldLink RX1 92 "PairSorter" "merges" "I", Cond.fieldLink RX1 95 "PairSorter" "mergedPairs" "J", Cond.instanceMethod yX0_empty, Cond.selects RX0 yX0_empty yX0_empty, Cond.code yX0_empty cX0_empty 1 none, Cond.fieldLink RX0 16 "PairSorter$Pile" "count" "I", Cond.fieldLink RX0 20 "PairSorter$Pile" "height" "I", Cond.methodLink RX1 56 yX1_leastFor, Cond.static yX1_leastFor, Cond.code yX1_leastFor cX1_leastFor 3 (some .int), Cond.methodLink RX1 63 yX1_makeRun, Cond.instanceMethod yX1_makeRun, Cond.selects RX1 yX1_makeRun yX1_makeRun, Cond.code yX1_makeRun cX1_makeRun 6 (some .int), Cond.methodLink RX1 110 yX1_findRun, Cond.instanceMethod yX1_findRun, Cond.selects RX1 yX1_findRun yX1_findRun, Cond.code yX1_findRun cX1_findRun 3 (some .int), Cond.methodLink RX1 116 yX1_countFalling, Cond.instanceMethod yX1_countFalling, Cond.selects RX1 yX1_countFalling yX1_countFalling, Cond.code yX1_countFalling cX1_countFalling 3 (some .int), Cond.methodLink RX1 107 yX1_fallsAt]
def wsL_law_r6 : List Cond := [Cond.instanceMethod yX1_fallsAt, Cond.selects RX1 yX1_fallsAt yX1_fallsAt, Cond.code yX1_fallsAt cX1_fallsAt 2 (some .boolean), Cond.methodLink RX1 85 yX1_keyOf, Cond.static yX1_keyOf, Cond.code yX1_keyOf cX1_keyOf 2 (some .int), Cond.methodLink RX1 99 yX1_countNotFalling, Cond.instanceMethod yX1_countNotFalling, Cond.selects RX1 yX1_countNotFalling yX1_countNotFalling, Cond.code yX1_countNotFalling cX1_countNotFalling 3 (some .int), Cond.methodLink RX1 113 yX1_insert, Cond.instanceMethod yX1_insert, Cond.selects RX1 yX1_insert yX1_insert, Cond.code yX1_insert cX1_insert 6 none, Cond.methodLink RX1 123 arraycopyName, Cond.native arraycopyName, Cond.static arraycopyName, Cond.initialized "java/lang/System", Cond.methodLink RX1 119 yX1_placeBehindEqualKeys, Cond.instanceMethod yX1_placeBehindEqualKeys, Cond.selects RX1 yX1_placeBehindEqualKeys yX1_placeBehindEqualKeys, Cond.code yX1_placeBehindEqualKeys cX1_placeBehindEqualKeys 7 (some .int), Cond.instanceMethod yX0_push, Cond.selects RX0 yX0_push yX0_push]
def wsL_law_r7 : List Cond := [Cond.code yX0_push cX0_push 3 none, Cond.methodLink RX0 23 Lib.Math.max.name, Cond.methodLink RX1 69 yX1_bringInOrder, Cond.instanceMethod yX1_bringInOrder, Cond.selects RX1 yX1_bringInOrder yX1_bringInOrder, Cond.code yX1_bringInOrder cX1_bringInOrder 2 none, Cond.instanceMethod yX0_isTooFlat, Cond.selects RX0 yX0_isTooFlat yX0_isTooFlat, Cond.code yX0_isTooFlat cX0_isTooFlat 1 (some .boolean), Cond.methodLink RX0 29 yX0_fromTop, Cond.instanceMethod yX0_fromTop, Cond.selects RX0 yX0_fromTop yX0_fromTop, Cond.code yX0_fromTop cX0_fromTop 2 (some .int), Cond.instanceMethod yX0_placeBelowShorterNeighbour, Cond.selects RX0 yX0_placeBelowShorterNeighbour yX0_placeBelowShorterNeighbour, Cond.code yX0_placeBelowShorterNeighbour cX0_placeBelowShorterNeighbour 1 (some .int), Cond.methodLink RX1 140 yX1_mergeAt, Cond.instanceMethod yX1_mergeAt, Cond.selects RX1 yX1_mergeAt yX1_mergeAt, Cond.code yX1_mergeAt cX1_mergeAt 5 none, Cond.methodLink RX1 152 yX1_mergeForward, Cond.instanceMethod yX1_mergeForward, Cond.selects RX1 yX1_mergeForward yX1_mergeForward, Cond.code yX1_mergeForward cX1_mergeForward 8 none]
def wsL_law_r8 : List Cond := [Cond.methodLink RX1 156 yX1_mergeBackward, Cond.instanceMethod yX1_mergeBackward, Cond.selects RX1 yX1_mergeBackward yX1_mergeBackward, Cond.code yX1_mergeBackward cX1_mergeBackward 8 none, Cond.instanceMethod yX0_join, Cond.selects RX0 yX0_join yX0_join, Cond.code yX0_join cX0_join 3 none, Cond.instanceMethod yX0_isTopTooLong, Cond.selects RX0 yX0_isTopTooLong yX0_isTopTooLong, Cond.code yX0_isTopTooLong cX0_isTopTooLong 1 (some .boolean), Cond.methodLink RX1 72 yX1_mergeWhatIsLeft, Cond.instanceMethod yX1_mergeWhatIsLeft, Cond.selects RX1 yX1_mergeWhatIsLeft yX1_mergeWhatIsLeft, Cond.code yX1_mergeWhatIsLeft cX1_mergeWhatIsLeft 2 none, Cond.methodLink RL 40 yX2_run, Cond.instanceMethod yX2_run, Cond.selects RX2 yX2_run yX2_run, Cond.code yX2_run cX2_run 3 (some .int), Cond.fieldLink RX2 62 "PairSorterModel" "runs" "I", Cond.fieldLink RX2 38 "PairSorterModel" "merges" "I", Cond.fieldLink RX2 41 "PairSorterModel" "merged" "J", Cond.fieldLink RX2 45 "PairSorterModel" "piled" "I", Cond.fieldLink RX2 65 "PairSorterModel" "height" "I", Cond.fieldLink RX2 79 "PairSorterModel" "high" "I"]
def wsL_law_r9 : List Cond := [Cond.methodLink RX2 72 yX2_lookForRuns, Cond.instanceMethod yX2_lookForRuns, Cond.selects RX2 yX2_lookForRuns yX2_lookForRuns, Cond.code yX2_lookForRuns cX2_lookForRuns 5 none, Cond.methodLink RX2 56 yX2_least, Cond.static yX2_least, Cond.code yX2_least cX2_least 3 (some .int), Cond.methodLink RX2 59 yX2_found, Cond.instanceMethod yX2_found, Cond.selects RX2 yX2_found yX2_found, Cond.code yX2_found cX2_found 3 (some .int), Cond.methodLink RX2 68 yX2_isBrought, Cond.instanceMethod yX2_isBrought, Cond.selects RX2 yX2_isBrought yX2_isBrought, Cond.code yX2_isBrought cX2_isBrought 4 (some .boolean), Cond.methodLink RX2 48 yX2_fromTop, Cond.instanceMethod yX2_fromTop, Cond.selects RX2 yX2_fromTop yX2_fromTop, Cond.code yX2_fromTop cX2_fromTop 2 (some .int), Cond.methodLink RX2 52 yX2_join, Cond.instanceMethod yX2_join, Cond.selects RX2 yX2_join yX2_join, Cond.code yX2_join cX2_join 3 none, Cond.methodLink RX2 75 yX2_combine]
def wsL_law_r10 : List Cond := [Cond.instanceMethod yX2_combine, Cond.selects RX2 yX2_combine yX2_combine, Cond.code yX2_combine cX2_combine 8 none, Cond.methodLink RL 41 yX1_keyAt, Cond.instanceMethod yX1_keyAt, Cond.selects RX1 yX1_keyAt yX1_keyAt, Cond.code yX1_keyAt cX1_keyAt 2 (some .int), Cond.methodLink RX1 81 yX1_isPlace, Cond.instanceMethod yX1_isPlace, Cond.selects RX1 yX1_isPlace yX1_isPlace, Cond.code yX1_isPlace cX1_isPlace 2 (some .boolean), Cond.methodLink RL 45 yX2_keyAt, Cond.instanceMethod yX2_keyAt, Cond.selects RX2 yX2_keyAt yX2_keyAt, Cond.code yX2_keyAt cX2_keyAt 2 (some .int), Cond.methodLink RL 46 yX1_tagAt, Cond.instanceMethod yX1_tagAt, Cond.selects RX1 yX1_tagAt yX1_tagAt, Cond.code yX1_tagAt cX1_tagAt 2 (some .int), Cond.methodLink RX1 89 yX1_tagOf, Cond.static yX1_tagOf, Cond.code yX1_tagOf cX1_tagOf 2 (some .int), Cond.methodLink RL 49 yX2_tagAt, Cond.instanceMethod yX2_tagAt]
def wsL_law_r11 : List Cond := [Cond.selects RX2 yX2_tagAt yX2_tagAt, Cond.code yX2_tagAt cX2_tagAt 2 (some .int), Cond.methodLink RL 50 yX1_size, Cond.instanceMethod yX1_size, Cond.selects RX1 yX1_size yX1_size, Cond.code yX1_size cX1_size 1 (some .int), Cond.methodLink RL 53 yX2_size, Cond.instanceMethod yX2_size, Cond.selects RX2 yX2_size yX2_size, Cond.code yX2_size cX2_size 1 (some .int), Cond.methodLink RL 54 yX1_stackHigh, Cond.instanceMethod yX1_stackHigh, Cond.selects RX1 yX1_stackHigh yX1_stackHigh, Cond.code yX1_stackHigh cX1_stackHigh 1 (some .int), Cond.methodLink RL 57 yX2_stackHigh, Cond.instanceMethod yX2_stackHigh, Cond.selects RX2 yX2_stackHigh yX2_stackHigh, Cond.code yX2_stackHigh cX2_stackHigh 1 (some .int), Cond.methodLink RL 58 yX1_work, Cond.instanceMethod yX1_work, Cond.selects RX1 yX1_work yX1_work, Cond.code yX1_work cX1_work 3 (some .long), Cond.methodLink RL 62 yX2_work, Cond.instanceMethod yX2_work]
def wsL_law_r12 : List Cond := [Cond.selects RX2 yX2_work yX2_work, Cond.code yX2_work cX2_work 3 (some .long), Cond.methodLink RL 63 yX1_sorted, Cond.instanceMethod yX1_sorted, Cond.selects RX1 yX1_sorted yX1_sorted, Cond.code yX1_sorted cX1_sorted 2 (some .int), Cond.methodLink RL 66 yX2_sorted, Cond.instanceMethod yX2_sorted, Cond.selects RX2 yX2_sorted yX2_sorted, Cond.code yX2_sorted cX2_sorted 3 (some .int), Cond.methodLink RL 67 yX1_clear, Cond.instanceMethod yX1_clear, Cond.selects RX1 yX1_clear yX1_clear, Cond.code yX1_clear cX1_clear 1 none, Cond.methodLink RL 70 yX2_clear, Cond.instanceMethod yX2_clear, Cond.selects RX2 yX2_clear yX2_clear, Cond.code yX2_clear cX2_clear 1 none]
def wsL_law : List Cond := (wsL_law_r1 ++ (wsL_law_r2 ++ (wsL_law_r3 ++ (wsL_law_r4 ++ (wsL_law_r5 ++ (wsL_law_r6 ++ (wsL_law_r7 ++ (wsL_law_r8 ++ (wsL_law_r9 ++ (wsL_law_r10 ++ (wsL_law_r11 ++ wsL_law_r12))))))))))) ++ wsX10 ++ wsX20 ++ wsX00 ++ ([] : List Cond)
set_option maxRecDepth 20000 in
theorem wsL_law_in : ∀ w ∈ wsL_law, w ∈ lw_tbl := fun w h => (goodIn_p wsL_law [255, 38, 41, 44, 47, 52, 260, 104, 107, 311, 112, 115, 315, 119, 123, 319, 127, 131, 135, 138, 142, 146, 150, 154, 157, 161, 165, 169, 176, 181, 185, 189, 193, 197, 201, 205, 209, 213, 217, 323, 327, 330, 334, 338, 342, 346, 350, 221, 225, 354, 229, 232, 358, 236, 362, 240, 366, 244, 370, 248, 374, 252, 378] (by decide +kernel) (by decide +kernel) w h).1
theorem inlX0 : ∀ w ∈ wsX00, w ∈ wsL_law := fun _ h => List.mem_append_left _ (List.mem_append_right _ h)
theorem inX0 : ∀ w ∈ wsX00, w ∈ lw_tbl := fun w h => wsL_law_in w (inlX0 w h)
theorem inlX1 : ∀ w ∈ wsX10, w ∈ wsL_law := fun _ h => List.mem_append_left _ (List.mem_append_left _ (List.mem_append_left _ (List.mem_append_right _ h)))
theorem inX1 : ∀ w ∈ wsX10, w ∈ lw_tbl := fun w h => wsL_law_in w (inlX1 w h)
theorem inlX2 : ∀ w ∈ wsX20, w ∈ wsL_law := fun _ h => List.mem_append_left _ (List.mem_append_left _ (List.mem_append_right _ h))
theorem inX2 : ∀ w ∈ wsX20, w ∈ lw_tbl := fun w h => wsL_law_in w (inlX2 w h)
theorem inJ9 : ∀ w ∈ wsJ90, w ∈ lw_tbl := by decide +kernel
theorem inJ10 : ∀ w ∈ wsJ100, w ∈ lw_tbl := by decide +kernel
theorem dX0_init_0 : decode cX0_init 0 = .ok (.aload_n 0, 1) := by decide +kernel
theorem dX0_init_1 : decode cX0_init 1 = .ok (.invokespecial 1, 3) := by decide +kernel
theorem dX0_init_4 : decode cX0_init 4 = .ok (.aload_n 0, 1) := by decide +kernel
theorem dX0_init_5 : decode cX0_init 5 = .ok (.iload_n 1, 1) := by decide +kernel
theorem dX0_init_6 : decode cX0_init 6 = .ok (.newarray .int, 2) := by decide +kernel
theorem dX0_init_8 : decode cX0_init 8 = .ok (.putfield 7, 3) := by decide +kernel
theorem dX0_init_11 : decode cX0_init 11 = .ok (.aload_n 0, 1) := by decide +kernel
theorem dX0_init_12 : decode cX0_init 12 = .ok (.iload_n 1, 1) := by decide +kernel
theorem dX0_init_13 : decode cX0_init 13 = .ok (.newarray .int, 2) := by decide +kernel
theorem dX0_init_15 : decode cX0_init 15 = .ok (.putfield 13, 3) := by decide +kernel
theorem dX0_init_18 : decode cX0_init 18 = .ok (.return_, 1) := by decide +kernel
theorem dX0_empty_0 : decode cX0_empty 0 = .ok (.aload_n 0, 1) := by decide +kernel
theorem dX0_empty_1 : decode cX0_empty 1 = .ok (.iconst 0, 1) := by decide +kernel
theorem dX0_empty_2 : decode cX0_empty 2 = .ok (.putfield 16, 3) := by decide +kernel
theorem dX0_empty_5 : decode cX0_empty 5 = .ok (.aload_n 0, 1) := by decide +kernel
theorem dX0_empty_6 : decode cX0_empty 6 = .ok (.iconst 0, 1) := by decide +kernel
theorem dX0_empty_7 : decode cX0_empty 7 = .ok (.putfield 20, 3) := by decide +kernel
theorem dX0_empty_10 : decode cX0_empty 10 = .ok (.return_, 1) := by decide +kernel
theorem dX0_push_0 : decode cX0_push 0 = .ok (.aload_n 0, 1) := by decide +kernel
theorem dX0_push_1 : decode cX0_push 1 = .ok (.getfield 16, 3) := by decide +kernel
theorem dX0_push_4 : decode cX0_push 4 = .ok (.aload_n 0, 1) := by decide +kernel
theorem dX0_push_5 : decode cX0_push 5 = .ok (.getfield 13, 3) := by decide +kernel
theorem dX0_push_8 : decode cX0_push 8 = .ok (.arraylength, 1) := by decide +kernel
theorem dX0_push_9 : decode cX0_push 9 = .ok (.if_icmp .lt 4, 3) := by decide +kernel
theorem dX0_push_12 : decode cX0_push 12 = .ok (.return_, 1) := by decide +kernel
theorem dX0_push_13 : decode cX0_push 13 = .ok (.aload_n 0, 1) := by decide +kernel
theorem dX0_push_14 : decode cX0_push 14 = .ok (.getfield 7, 3) := by decide +kernel
theorem dX0_push_17 : decode cX0_push 17 = .ok (.aload_n 0, 1) := by decide +kernel
theorem dX0_push_18 : decode cX0_push 18 = .ok (.getfield 16, 3) := by decide +kernel
theorem dX0_push_21 : decode cX0_push 21 = .ok (.iload_n 1, 1) := by decide +kernel
theorem dX0_push_22 : decode cX0_push 22 = .ok (.iastore, 1) := by decide +kernel
theorem dX0_push_23 : decode cX0_push 23 = .ok (.aload_n 0, 1) := by decide +kernel
theorem dX0_push_24 : decode cX0_push 24 = .ok (.getfield 13, 3) := by decide +kernel
theorem dX0_push_27 : decode cX0_push 27 = .ok (.aload_n 0, 1) := by decide +kernel
theorem dX0_push_28 : decode cX0_push 28 = .ok (.getfield 16, 3) := by decide +kernel
theorem dX0_push_31 : decode cX0_push 31 = .ok (.iload_n 2, 1) := by decide +kernel
theorem dX0_push_32 : decode cX0_push 32 = .ok (.iastore, 1) := by decide +kernel
theorem dX0_push_33 : decode cX0_push 33 = .ok (.aload_n 0, 1) := by decide +kernel
theorem dX0_push_34 : decode cX0_push 34 = .ok (.dup, 1) := by decide +kernel
theorem dX0_push_35 : decode cX0_push 35 = .ok (.getfield 16, 3) := by decide +kernel
theorem dX0_push_38 : decode cX0_push 38 = .ok (.iconst 1, 1) := by decide +kernel
theorem dX0_push_39 : decode cX0_push 39 = .ok (.iadd, 1) := by decide +kernel
theorem dX0_push_40 : decode cX0_push 40 = .ok (.putfield 16, 3) := by decide +kernel
theorem dX0_push_43 : decode cX0_push 43 = .ok (.aload_n 0, 1) := by decide +kernel
theorem dX0_push_44 : decode cX0_push 44 = .ok (.aload_n 0, 1) := by decide +kernel
theorem dX0_push_45 : decode cX0_push 45 = .ok (.getfield 20, 3) := by decide +kernel
theorem dX0_push_48 : decode cX0_push 48 = .ok (.aload_n 0, 1) := by decide +kernel
theorem dX0_push_49 : decode cX0_push 49 = .ok (.getfield 16, 3) := by decide +kernel
theorem dX0_push_52 : decode cX0_push 52 = .ok (.invokestatic 23, 3) := by decide +kernel
theorem dX0_push_55 : decode cX0_push 55 = .ok (.putfield 20, 3) := by decide +kernel
theorem dX0_push_58 : decode cX0_push 58 = .ok (.return_, 1) := by decide +kernel
theorem dX0_fromTop_0 : decode cX0_fromTop 0 = .ok (.aload_n 0, 1) := by decide +kernel
theorem dX0_fromTop_1 : decode cX0_fromTop 1 = .ok (.getfield 13, 3) := by decide +kernel
theorem dX0_fromTop_4 : decode cX0_fromTop 4 = .ok (.aload_n 0, 1) := by decide +kernel
theorem dX0_fromTop_5 : decode cX0_fromTop 5 = .ok (.getfield 16, 3) := by decide +kernel
theorem dX0_fromTop_8 : decode cX0_fromTop 8 = .ok (.iconst 1, 1) := by decide +kernel
theorem dX0_fromTop_9 : decode cX0_fromTop 9 = .ok (.isub, 1) := by decide +kernel
theorem dX0_fromTop_10 : decode cX0_fromTop 10 = .ok (.iload_n 1, 1) := by decide +kernel
theorem dX0_fromTop_11 : decode cX0_fromTop 11 = .ok (.isub, 1) := by decide +kernel
theorem dX0_fromTop_12 : decode cX0_fromTop 12 = .ok (.iaload, 1) := by decide +kernel
theorem dX0_fromTop_13 : decode cX0_fromTop 13 = .ok (.ireturn, 1) := by decide +kernel
set_option maxRecDepth 20000 in
theorem ggX0_isTooFlat_X0_fromTop : GoodIn wsX0_isTooFlat wsX0_fromTop := goodIn_r _ [6, 7, 1, 8, 9, 10, 11] (by decide +kernel) (by decide +kernel)
set_option maxRecDepth 20000 in
theorem gX0_isTooFlat_X0_fromTop : GoodIn wsX0_isTooFlat (wsV RX0 29 RX0 yX0_fromTop wsX0_fromTop) := goodIn_app (goodIn_of _ (by decide +kernel)) ggX0_isTooFlat_X0_fromTop
theorem dX0_isTooFlat_0 : decode cX0_isTooFlat 0 = .ok (.aload_n 0, 1) := by decide +kernel
theorem dX0_isTooFlat_1 : decode cX0_isTooFlat 1 = .ok (.getfield 16, 3) := by decide +kernel
theorem dX0_isTooFlat_4 : decode cX0_isTooFlat 4 = .ok (.iconst 3, 1) := by decide +kernel
theorem dX0_isTooFlat_5 : decode cX0_isTooFlat 5 = .ok (.if_icmp .lt 22, 3) := by decide +kernel
theorem dX0_isTooFlat_8 : decode cX0_isTooFlat 8 = .ok (.aload_n 0, 1) := by decide +kernel
theorem dX0_isTooFlat_9 : decode cX0_isTooFlat 9 = .ok (.iconst 2, 1) := by decide +kernel
theorem dX0_isTooFlat_10 : decode cX0_isTooFlat 10 = .ok (.invokevirtual 29, 3) := by decide +kernel
theorem dX0_isTooFlat_13 : decode cX0_isTooFlat 13 = .ok (.aload_n 0, 1) := by decide +kernel
theorem dX0_isTooFlat_14 : decode cX0_isTooFlat 14 = .ok (.iconst 1, 1) := by decide +kernel
theorem dX0_isTooFlat_15 : decode cX0_isTooFlat 15 = .ok (.invokevirtual 29, 3) := by decide +kernel
theorem dX0_isTooFlat_18 : decode cX0_isTooFlat 18 = .ok (.aload_n 0, 1) := by decide +kernel
theorem dX0_isTooFlat_19 : decode cX0_isTooFlat 19 = .ok (.iconst 0, 1) := by decide +kernel
theorem dX0_isTooFlat_20 : decode cX0_isTooFlat 20 = .ok (.invokevirtual 29, 3) := by decide +kernel
theorem dX0_isTooFlat_23 : decode cX0_isTooFlat 23 = .ok (.iadd, 1) := by decide +kernel
theorem dX0_isTooFlat_24 : decode cX0_isTooFlat 24 = .ok (.if_icmp .le 30, 3) := by decide +kernel
theorem dX0_isTooFlat_27 : decode cX0_isTooFlat 27 = .ok (.aload_n 0, 1) := by decide +kernel
theorem dX0_isTooFlat_28 : decode cX0_isTooFlat 28 = .ok (.getfield 16, 3) := by decide +kernel
theorem dX0_isTooFlat_31 : decode cX0_isTooFlat 31 = .ok (.iconst 4, 1) := by decide +kernel
theorem dX0_isTooFlat_32 : decode cX0_isTooFlat 32 = .ok (.if_icmp .lt 26, 3) := by decide +kernel
theorem dX0_isTooFlat_35 : decode cX0_isTooFlat 35 = .ok (.aload_n 0, 1) := by decide +kernel
theorem dX0_isTooFlat_36 : decode cX0_isTooFlat 36 = .ok (.iconst 3, 1) := by decide +kernel
theorem dX0_isTooFlat_37 : decode cX0_isTooFlat 37 = .ok (.invokevirtual 29, 3) := by decide +kernel
theorem dX0_isTooFlat_40 : decode cX0_isTooFlat 40 = .ok (.aload_n 0, 1) := by decide +kernel
theorem dX0_isTooFlat_41 : decode cX0_isTooFlat 41 = .ok (.iconst 2, 1) := by decide +kernel
theorem dX0_isTooFlat_42 : decode cX0_isTooFlat 42 = .ok (.invokevirtual 29, 3) := by decide +kernel
theorem dX0_isTooFlat_45 : decode cX0_isTooFlat 45 = .ok (.aload_n 0, 1) := by decide +kernel
theorem dX0_isTooFlat_46 : decode cX0_isTooFlat 46 = .ok (.iconst 1, 1) := by decide +kernel
theorem dX0_isTooFlat_47 : decode cX0_isTooFlat 47 = .ok (.invokevirtual 29, 3) := by decide +kernel
theorem dX0_isTooFlat_50 : decode cX0_isTooFlat 50 = .ok (.iadd, 1) := by decide +kernel
theorem dX0_isTooFlat_51 : decode cX0_isTooFlat 51 = .ok (.if_icmp .gt 7, 3) := by decide +kernel
theorem dX0_isTooFlat_54 : decode cX0_isTooFlat 54 = .ok (.iconst 1, 1) := by decide +kernel
theorem dX0_isTooFlat_55 : decode cX0_isTooFlat 55 = .ok (.goto 4, 3) := by decide +kernel
theorem dX0_isTooFlat_58 : decode cX0_isTooFlat 58 = .ok (.iconst 0, 1) := by decide +kernel
theorem dX0_isTooFlat_59 : decode cX0_isTooFlat 59 = .ok (.ireturn, 1) := by decide +kernel
set_option maxRecDepth 20000 in
theorem ggX0_isTopTooLong_X0_fromTop : GoodIn wsX0_isTopTooLong wsX0_fromTop := goodIn_r _ [6, 7, 1, 8, 9, 10, 11] (by decide +kernel) (by decide +kernel)
set_option maxRecDepth 20000 in
theorem gX0_isTopTooLong_X0_fromTop : GoodIn wsX0_isTopTooLong (wsV RX0 29 RX0 yX0_fromTop wsX0_fromTop) := goodIn_app (goodIn_of _ (by decide +kernel)) ggX0_isTopTooLong_X0_fromTop
theorem dX0_isTopTooLong_0 : decode cX0_isTopTooLong 0 = .ok (.aload_n 0, 1) := by decide +kernel
theorem dX0_isTopTooLong_1 : decode cX0_isTopTooLong 1 = .ok (.getfield 16, 3) := by decide +kernel
theorem dX0_isTopTooLong_4 : decode cX0_isTopTooLong 4 = .ok (.iconst 2, 1) := by decide +kernel
theorem dX0_isTopTooLong_5 : decode cX0_isTopTooLong 5 = .ok (.if_icmp .lt 20, 3) := by decide +kernel
theorem dX0_isTopTooLong_8 : decode cX0_isTopTooLong 8 = .ok (.aload_n 0, 1) := by decide +kernel
theorem dX0_isTopTooLong_9 : decode cX0_isTopTooLong 9 = .ok (.iconst 1, 1) := by decide +kernel
theorem dX0_isTopTooLong_10 : decode cX0_isTopTooLong 10 = .ok (.invokevirtual 29, 3) := by decide +kernel
theorem dX0_isTopTooLong_13 : decode cX0_isTopTooLong 13 = .ok (.aload_n 0, 1) := by decide +kernel
theorem dX0_isTopTooLong_14 : decode cX0_isTopTooLong 14 = .ok (.iconst 0, 1) := by decide +kernel
theorem dX0_isTopTooLong_15 : decode cX0_isTopTooLong 15 = .ok (.invokevirtual 29, 3) := by decide +kernel
theorem dX0_isTopTooLong_18 : decode cX0_isTopTooLong 18 = .ok (.if_icmp .gt 7, 3) := by decide +kernel
theorem dX0_isTopTooLong_21 : decode cX0_isTopTooLong 21 = .ok (.iconst 1, 1) := by decide +kernel
theorem dX0_isTopTooLong_22 : decode cX0_isTopTooLong 22 = .ok (.goto 4, 3) := by decide +kernel
theorem dX0_isTopTooLong_25 : decode cX0_isTopTooLong 25 = .ok (.iconst 0, 1) := by decide +kernel
theorem dX0_isTopTooLong_26 : decode cX0_isTopTooLong 26 = .ok (.ireturn, 1) := by decide +kernel
set_option maxRecDepth 20000 in
theorem ggX0_placeBelowShorterNeighbour_X0_fromTop : GoodIn wsX0_placeBelowShorterNeighbour wsX0_fromTop := goodIn_r _ [6, 7, 1, 8, 9, 10, 11] (by decide +kernel) (by decide +kernel)
set_option maxRecDepth 20000 in
theorem gX0_placeBelowShorterNeighbour_X0_fromTop : GoodIn wsX0_placeBelowShorterNeighbour (wsV RX0 29 RX0 yX0_fromTop wsX0_fromTop) := goodIn_app (goodIn_of _ (by decide +kernel)) ggX0_placeBelowShorterNeighbour_X0_fromTop
theorem dX0_placeBelowShorterNeighbour_0 : decode cX0_placeBelowShorterNeighbour 0 = .ok (.aload_n 0, 1) := by decide +kernel
theorem dX0_placeBelowShorterNeighbour_1 : decode cX0_placeBelowShorterNeighbour 1 = .ok (.getfield 16, 3) := by decide +kernel
theorem dX0_placeBelowShorterNeighbour_4 : decode cX0_placeBelowShorterNeighbour 4 = .ok (.iconst 3, 1) := by decide +kernel
theorem dX0_placeBelowShorterNeighbour_5 : decode cX0_placeBelowShorterNeighbour 5 = .ok (.if_icmp .lt 25, 3) := by decide +kernel
theorem dX0_placeBelowShorterNeighbour_8 : decode cX0_placeBelowShorterNeighbour 8 = .ok (.aload_n 0, 1) := by decide +kernel
theorem dX0_placeBelowShorterNeighbour_9 : decode cX0_placeBelowShorterNeighbour 9 = .ok (.iconst 2, 1) := by decide +kernel
theorem dX0_placeBelowShorterNeighbour_10 : decode cX0_placeBelowShorterNeighbour 10 = .ok (.invokevirtual 29, 3) := by decide +kernel
theorem dX0_placeBelowShorterNeighbour_13 : decode cX0_placeBelowShorterNeighbour 13 = .ok (.aload_n 0, 1) := by decide +kernel
theorem dX0_placeBelowShorterNeighbour_14 : decode cX0_placeBelowShorterNeighbour 14 = .ok (.iconst 0, 1) := by decide +kernel
theorem dX0_placeBelowShorterNeighbour_15 : decode cX0_placeBelowShorterNeighbour 15 = .ok (.invokevirtual 29, 3) := by decide +kernel
theorem dX0_placeBelowShorterNeighbour_18 : decode cX0_placeBelowShorterNeighbour 18 = .ok (.if_icmp .ge 12, 3) := by decide +kernel
theorem dX0_placeBelowShorterNeighbour_21 : decode cX0_placeBelowShorterNeighbour 21 = .ok (.aload_n 0, 1) := by decide +kernel
theorem dX0_placeBelowShorterNeighbour_22 : decode cX0_placeBelowShorterNeighbour 22 = .ok (.getfield 16, 3) := by decide +kernel
theorem dX0_placeBelowShorterNeighbour_25 : decode cX0_placeBelowShorterNeighbour 25 = .ok (.iconst 3, 1) := by decide +kernel
theorem dX0_placeBelowShorterNeighbour_26 : decode cX0_placeBelowShorterNeighbour 26 = .ok (.isub, 1) := by decide +kernel
theorem dX0_placeBelowShorterNeighbour_27 : decode cX0_placeBelowShorterNeighbour 27 = .ok (.goto 9, 3) := by decide +kernel
theorem dX0_placeBelowShorterNeighbour_30 : decode cX0_placeBelowShorterNeighbour 30 = .ok (.aload_n 0, 1) := by decide +kernel
theorem dX0_placeBelowShorterNeighbour_31 : decode cX0_placeBelowShorterNeighbour 31 = .ok (.getfield 16, 3) := by decide +kernel
theorem dX0_placeBelowShorterNeighbour_34 : decode cX0_placeBelowShorterNeighbour 34 = .ok (.iconst 2, 1) := by decide +kernel
theorem dX0_placeBelowShorterNeighbour_35 : decode cX0_placeBelowShorterNeighbour 35 = .ok (.isub, 1) := by decide +kernel
theorem dX0_placeBelowShorterNeighbour_36 : decode cX0_placeBelowShorterNeighbour 36 = .ok (.ireturn, 1) := by decide +kernel
theorem dX0_join_0 : decode cX0_join 0 = .ok (.aload_n 0, 1) := by decide +kernel
theorem dX0_join_1 : decode cX0_join 1 = .ok (.getfield 13, 3) := by decide +kernel
theorem dX0_join_4 : decode cX0_join 4 = .ok (.iload_n 1, 1) := by decide +kernel
theorem dX0_join_5 : decode cX0_join 5 = .ok (.dup2, 1) := by decide +kernel
theorem dX0_join_6 : decode cX0_join 6 = .ok (.iaload, 1) := by decide +kernel
theorem dX0_join_7 : decode cX0_join 7 = .ok (.aload_n 0, 1) := by decide +kernel
theorem dX0_join_8 : decode cX0_join 8 = .ok (.getfield 13, 3) := by decide +kernel
theorem dX0_join_11 : decode cX0_join 11 = .ok (.iload_n 1, 1) := by decide +kernel
theorem dX0_join_12 : decode cX0_join 12 = .ok (.iconst 1, 1) := by decide +kernel
theorem dX0_join_13 : decode cX0_join 13 = .ok (.iadd, 1) := by decide +kernel
theorem dX0_join_14 : decode cX0_join 14 = .ok (.iaload, 1) := by decide +kernel
theorem dX0_join_15 : decode cX0_join 15 = .ok (.iadd, 1) := by decide +kernel
theorem dX0_join_16 : decode cX0_join 16 = .ok (.iastore, 1) := by decide +kernel
theorem dX0_join_17 : decode cX0_join 17 = .ok (.aload_n 0, 1) := by decide +kernel
theorem dX0_join_18 : decode cX0_join 18 = .ok (.dup, 1) := by decide +kernel
theorem dX0_join_19 : decode cX0_join 19 = .ok (.getfield 16, 3) := by decide +kernel
theorem dX0_join_22 : decode cX0_join 22 = .ok (.iconst 1, 1) := by decide +kernel
theorem dX0_join_23 : decode cX0_join 23 = .ok (.isub, 1) := by decide +kernel
theorem dX0_join_24 : decode cX0_join 24 = .ok (.putfield 16, 3) := by decide +kernel
theorem dX0_join_27 : decode cX0_join 27 = .ok (.iload_n 1, 1) := by decide +kernel
theorem dX0_join_28 : decode cX0_join 28 = .ok (.iconst 1, 1) := by decide +kernel
theorem dX0_join_29 : decode cX0_join 29 = .ok (.iadd, 1) := by decide +kernel
theorem dX0_join_30 : decode cX0_join 30 = .ok (.istore_n 2, 1) := by decide +kernel
theorem dX0_join_31 : decode cX0_join 31 = .ok (.iload_n 2, 1) := by decide +kernel
theorem dX0_join_32 : decode cX0_join 32 = .ok (.aload_n 0, 1) := by decide +kernel
theorem dX0_join_33 : decode cX0_join 33 = .ok (.getfield 16, 3) := by decide +kernel
theorem dX0_join_36 : decode cX0_join 36 = .ok (.if_icmp .ge 37, 3) := by decide +kernel
theorem dX0_join_39 : decode cX0_join 39 = .ok (.aload_n 0, 1) := by decide +kernel
theorem dX0_join_40 : decode cX0_join 40 = .ok (.getfield 7, 3) := by decide +kernel
theorem dX0_join_43 : decode cX0_join 43 = .ok (.iload_n 2, 1) := by decide +kernel
theorem dX0_join_44 : decode cX0_join 44 = .ok (.aload_n 0, 1) := by decide +kernel
theorem dX0_join_45 : decode cX0_join 45 = .ok (.getfield 7, 3) := by decide +kernel
theorem dX0_join_48 : decode cX0_join 48 = .ok (.iload_n 2, 1) := by decide +kernel
theorem dX0_join_49 : decode cX0_join 49 = .ok (.iconst 1, 1) := by decide +kernel
theorem dX0_join_50 : decode cX0_join 50 = .ok (.iadd, 1) := by decide +kernel
theorem dX0_join_51 : decode cX0_join 51 = .ok (.iaload, 1) := by decide +kernel
theorem dX0_join_52 : decode cX0_join 52 = .ok (.iastore, 1) := by decide +kernel
theorem dX0_join_53 : decode cX0_join 53 = .ok (.aload_n 0, 1) := by decide +kernel
theorem dX0_join_54 : decode cX0_join 54 = .ok (.getfield 13, 3) := by decide +kernel
theorem dX0_join_57 : decode cX0_join 57 = .ok (.iload_n 2, 1) := by decide +kernel
theorem dX0_join_58 : decode cX0_join 58 = .ok (.aload_n 0, 1) := by decide +kernel
theorem dX0_join_59 : decode cX0_join 59 = .ok (.getfield 13, 3) := by decide +kernel
theorem dX0_join_62 : decode cX0_join 62 = .ok (.iload_n 2, 1) := by decide +kernel
theorem dX0_join_63 : decode cX0_join 63 = .ok (.iconst 1, 1) := by decide +kernel
theorem dX0_join_64 : decode cX0_join 64 = .ok (.iadd, 1) := by decide +kernel
theorem dX0_join_65 : decode cX0_join 65 = .ok (.iaload, 1) := by decide +kernel
theorem dX0_join_66 : decode cX0_join 66 = .ok (.iastore, 1) := by decide +kernel
theorem dX0_join_67 : decode cX0_join 67 = .ok (.iinc 2 1, 3) := by decide +kernel
theorem dX0_join_70 : decode cX0_join 70 = .ok (.goto (-39), 3) := by decide +kernel
theorem dX0_join_73 : decode cX0_join 73 = .ok (.return_, 1) := by decide +kernel
set_option maxRecDepth 20000 in
theorem ggX1_init_X0_init : GoodIn wsX1_init wsX0_init := goodIn_r _ [21, 22, 2, 3, 18, 23, 24, 34, 35, 36, 37] (by decide +kernel) (by decide +kernel)
set_option maxRecDepth 20000 in
theorem gX1_init_X0_init_n27 : GoodIn wsX1_init (wsX0_init) := ggX1_init_X0_init
theorem dX1_init_0 : decode cX1_init 0 = .ok (.aload_n 0, 1) := by decide +kernel
theorem dX1_init_1 : decode cX1_init 1 = .ok (.invokespecial 1, 3) := by decide +kernel
theorem dX1_init_4 : decode cX1_init 4 = .ok (.iconst 1, 1) := by decide +kernel
theorem dX1_init_5 : decode cX1_init 5 = .ok (.sipush 4096, 3) := by decide +kernel
theorem dX1_init_8 : decode cX1_init 8 = .ok (.iload_n 1, 1) := by decide +kernel
theorem dX1_init_9 : decode cX1_init 9 = .ok (.invokestatic 9, 3) := by decide +kernel
theorem dX1_init_12 : decode cX1_init 12 = .ok (.invokestatic 15, 3) := by decide +kernel
theorem dX1_init_15 : decode cX1_init 15 = .ok (.istore_n 2, 1) := by decide +kernel
theorem dX1_init_16 : decode cX1_init 16 = .ok (.iload_n 2, 1) := by decide +kernel
theorem dX1_init_17 : decode cX1_init 17 = .ok (.bipush 16, 2) := by decide +kernel
theorem dX1_init_19 : decode cX1_init 19 = .ok (.idiv, 1) := by decide +kernel
theorem dX1_init_20 : decode cX1_init 20 = .ok (.iconst 1, 1) := by decide +kernel
theorem dX1_init_21 : decode cX1_init 21 = .ok (.iadd, 1) := by decide +kernel
theorem dX1_init_22 : decode cX1_init 22 = .ok (.istore_n 3, 1) := by decide +kernel
theorem dX1_init_23 : decode cX1_init 23 = .ok (.aload_n 0, 1) := by decide +kernel
theorem dX1_init_24 : decode cX1_init 24 = .ok (.iload_n 2, 1) := by decide +kernel
theorem dX1_init_25 : decode cX1_init 25 = .ok (.newarray .long, 2) := by decide +kernel
theorem dX1_init_27 : decode cX1_init 27 = .ok (.putfield 18, 3) := by decide +kernel
theorem dX1_init_30 : decode cX1_init 30 = .ok (.aload_n 0, 1) := by decide +kernel
theorem dX1_init_31 : decode cX1_init 31 = .ok (.iload_n 2, 1) := by decide +kernel
theorem dX1_init_32 : decode cX1_init 32 = .ok (.iconst 2, 1) := by decide +kernel
theorem dX1_init_33 : decode cX1_init 33 = .ok (.idiv, 1) := by decide +kernel
theorem dX1_init_34 : decode cX1_init 34 = .ok (.newarray .long, 2) := by decide +kernel
theorem dX1_init_36 : decode cX1_init 36 = .ok (.putfield 22, 3) := by decide +kernel
theorem dX1_init_39 : decode cX1_init 39 = .ok (.aload_n 0, 1) := by decide +kernel
theorem dX1_init_40 : decode cX1_init 40 = .ok (.new 25, 3) := by decide +kernel
theorem dX1_init_43 : decode cX1_init 43 = .ok (.dup, 1) := by decide +kernel
theorem dX1_init_44 : decode cX1_init 44 = .ok (.iload_n 3, 1) := by decide +kernel
theorem dX1_init_45 : decode cX1_init 45 = .ok (.invokespecial 27, 3) := by decide +kernel
theorem dX1_init_48 : decode cX1_init 48 = .ok (.putfield 30, 3) := by decide +kernel
theorem dX1_init_51 : decode cX1_init 51 = .ok (.aload_n 0, 1) := by decide +kernel
theorem dX1_init_52 : decode cX1_init 52 = .ok (.iload_n 3, 1) := by decide +kernel
theorem dX1_init_53 : decode cX1_init 53 = .ok (.newarray .int, 2) := by decide +kernel
theorem dX1_init_55 : decode cX1_init 55 = .ok (.putfield 34, 3) := by decide +kernel
theorem dX1_init_58 : decode cX1_init 58 = .ok (.return_, 1) := by decide +kernel
set_option maxRecDepth 20000 in
theorem ggX1_put_X1_pairOf : GoodIn wsX1_put wsX1_pairOf := goodIn_r _ [6, 7] (by decide +kernel) (by decide +kernel)
set_option maxRecDepth 20000 in
theorem gX1_put_X1_pairOf : GoodIn wsX1_put (va_wsS RX1 42 yX1_pairOf wsX1_pairOf) := goodIn_app (goodIn_of _ (by decide +kernel)) ggX1_put_X1_pairOf
theorem dX1_put_0 : decode cX1_put 0 = .ok (.aload_n 0, 1) := by decide +kernel
theorem dX1_put_1 : decode cX1_put 1 = .ok (.getfield 38, 3) := by decide +kernel
theorem dX1_put_4 : decode cX1_put 4 = .ok (.aload_n 0, 1) := by decide +kernel
theorem dX1_put_5 : decode cX1_put 5 = .ok (.getfield 18, 3) := by decide +kernel
theorem dX1_put_8 : decode cX1_put 8 = .ok (.arraylength, 1) := by decide +kernel
theorem dX1_put_9 : decode cX1_put 9 = .ok (.if_icmp .lt 5, 3) := by decide +kernel
theorem dX1_put_12 : decode cX1_put 12 = .ok (.iconst 0, 1) := by decide +kernel
theorem dX1_put_13 : decode cX1_put 13 = .ok (.ireturn, 1) := by decide +kernel
theorem dX1_put_14 : decode cX1_put 14 = .ok (.aload_n 0, 1) := by decide +kernel
theorem dX1_put_15 : decode cX1_put 15 = .ok (.getfield 18, 3) := by decide +kernel
theorem dX1_put_18 : decode cX1_put 18 = .ok (.aload_n 0, 1) := by decide +kernel
theorem dX1_put_19 : decode cX1_put 19 = .ok (.getfield 38, 3) := by decide +kernel
theorem dX1_put_22 : decode cX1_put 22 = .ok (.iload_n 1, 1) := by decide +kernel
theorem dX1_put_23 : decode cX1_put 23 = .ok (.iload_n 2, 1) := by decide +kernel
theorem dX1_put_24 : decode cX1_put 24 = .ok (.invokestatic 42, 3) := by decide +kernel
theorem dX1_put_27 : decode cX1_put 27 = .ok (.lastore, 1) := by decide +kernel
theorem dX1_put_28 : decode cX1_put 28 = .ok (.aload_n 0, 1) := by decide +kernel
theorem dX1_put_29 : decode cX1_put 29 = .ok (.dup, 1) := by decide +kernel
theorem dX1_put_30 : decode cX1_put 30 = .ok (.getfield 38, 3) := by decide +kernel
theorem dX1_put_33 : decode cX1_put 33 = .ok (.iconst 1, 1) := by decide +kernel
theorem dX1_put_34 : decode cX1_put 34 = .ok (.iadd, 1) := by decide +kernel
theorem dX1_put_35 : decode cX1_put 35 = .ok (.putfield 38, 3) := by decide +kernel
theorem dX1_put_38 : decode cX1_put 38 = .ok (.iconst 1, 1) := by decide +kernel
theorem dX1_put_39 : decode cX1_put 39 = .ok (.ireturn, 1) := by decide +kernel
set_option maxRecDepth 20000 in
theorem ggX1_fill_J9_floorMod_7cf53 : GoodIn wsX1_fill wsJ9_floorMod_7cf53 := goodIn_r _ [13] (by decide +kernel) (by decide +kernel)
set_option maxRecDepth 20000 in
theorem gX1_fill_J9_floorMod_7cf53 : GoodIn wsX1_fill (va_wsS RX1 46 yJ9_floorMod_7cf53 wsJ9_floorMod_7cf53) := goodIn_app (goodIn_of _ (by decide +kernel)) ggX1_fill_J9_floorMod_7cf53
set_option maxRecDepth 20000 in
theorem ggX1_fill_X1_pairOf : GoodIn wsX1_fill wsX1_pairOf := goodIn_r _ [17, 18] (by decide +kernel) (by decide +kernel)
set_option maxRecDepth 20000 in
theorem gX1_fill_X1_pairOf : GoodIn wsX1_fill (va_wsS RX1 42 yX1_pairOf wsX1_pairOf) := goodIn_app (goodIn_of _ (by decide +kernel)) ggX1_fill_X1_pairOf
theorem dX1_fill_0 : decode cX1_fill 0 = .ok (.iconst 0, 1) := by decide +kernel
theorem dX1_fill_1 : decode cX1_fill 1 = .ok (.iload_n 1, 1) := by decide +kernel
theorem dX1_fill_2 : decode cX1_fill 2 = .ok (.aload_n 0, 1) := by decide +kernel
theorem dX1_fill_3 : decode cX1_fill 3 = .ok (.getfield 18, 3) := by decide +kernel
theorem dX1_fill_6 : decode cX1_fill 6 = .ok (.arraylength, 1) := by decide +kernel
theorem dX1_fill_7 : decode cX1_fill 7 = .ok (.aload_n 0, 1) := by decide +kernel
theorem dX1_fill_8 : decode cX1_fill 8 = .ok (.getfield 38, 3) := by decide +kernel
theorem dX1_fill_11 : decode cX1_fill 11 = .ok (.isub, 1) := by decide +kernel
theorem dX1_fill_12 : decode cX1_fill 12 = .ok (.invokestatic 9, 3) := by decide +kernel
theorem dX1_fill_15 : decode cX1_fill 15 = .ok (.invokestatic 15, 3) := by decide +kernel
theorem dX1_fill_18 : decode cX1_fill 18 = .ok (.istore 6, 2) := by decide +kernel
theorem dX1_fill_20 : decode cX1_fill 20 = .ok (.iconst 0, 1) := by decide +kernel
theorem dX1_fill_21 : decode cX1_fill 21 = .ok (.istore 7, 2) := by decide +kernel
theorem dX1_fill_23 : decode cX1_fill 23 = .ok (.iload 7, 2) := by decide +kernel
theorem dX1_fill_25 : decode cX1_fill 25 = .ok (.iload 6, 2) := by decide +kernel
theorem dX1_fill_27 : decode cX1_fill 27 = .ok (.if_icmp .ge 54, 3) := by decide +kernel
theorem dX1_fill_30 : decode cX1_fill 30 = .ok (.iload_n 2, 1) := by decide +kernel
theorem dX1_fill_31 : decode cX1_fill 31 = .ok (.iload 7, 2) := by decide +kernel
theorem dX1_fill_33 : decode cX1_fill 33 = .ok (.iload_n 3, 1) := by decide +kernel
theorem dX1_fill_34 : decode cX1_fill 34 = .ok (.imul, 1) := by decide +kernel
theorem dX1_fill_35 : decode cX1_fill 35 = .ok (.iadd, 1) := by decide +kernel
theorem dX1_fill_36 : decode cX1_fill 36 = .ok (.istore 8, 2) := by decide +kernel
theorem dX1_fill_38 : decode cX1_fill 38 = .ok (.aload_n 0, 1) := by decide +kernel
theorem dX1_fill_39 : decode cX1_fill 39 = .ok (.getfield 18, 3) := by decide +kernel
theorem dX1_fill_42 : decode cX1_fill 42 = .ok (.aload_n 0, 1) := by decide +kernel
theorem dX1_fill_43 : decode cX1_fill 43 = .ok (.getfield 38, 3) := by decide +kernel
theorem dX1_fill_46 : decode cX1_fill 46 = .ok (.iload 7, 2) := by decide +kernel
theorem dX1_fill_48 : decode cX1_fill 48 = .ok (.iadd, 1) := by decide +kernel
theorem dX1_fill_49 : decode cX1_fill 49 = .ok (.iload 4, 2) := by decide +kernel
theorem dX1_fill_51 : decode cX1_fill 51 = .ok (.ifCond .le 13, 3) := by decide +kernel
theorem dX1_fill_54 : decode cX1_fill 54 = .ok (.iload 8, 2) := by decide +kernel
theorem dX1_fill_56 : decode cX1_fill 56 = .ok (.iload 4, 2) := by decide +kernel
theorem dX1_fill_58 : decode cX1_fill 58 = .ok (.invokestatic 46, 3) := by decide +kernel
theorem dX1_fill_61 : decode cX1_fill 61 = .ok (.goto 5, 3) := by decide +kernel
theorem dX1_fill_64 : decode cX1_fill 64 = .ok (.iload 8, 2) := by decide +kernel
theorem dX1_fill_66 : decode cX1_fill 66 = .ok (.iload 5, 2) := by decide +kernel
theorem dX1_fill_68 : decode cX1_fill 68 = .ok (.iload 7, 2) := by decide +kernel
theorem dX1_fill_70 : decode cX1_fill 70 = .ok (.iadd, 1) := by decide +kernel
theorem dX1_fill_71 : decode cX1_fill 71 = .ok (.invokestatic 42, 3) := by decide +kernel
theorem dX1_fill_74 : decode cX1_fill 74 = .ok (.lastore, 1) := by decide +kernel
theorem dX1_fill_75 : decode cX1_fill 75 = .ok (.iinc 7 1, 3) := by decide +kernel
theorem dX1_fill_78 : decode cX1_fill 78 = .ok (.goto (-55), 3) := by decide +kernel
theorem dX1_fill_81 : decode cX1_fill 81 = .ok (.aload_n 0, 1) := by decide +kernel
theorem dX1_fill_82 : decode cX1_fill 82 = .ok (.dup, 1) := by decide +kernel
theorem dX1_fill_83 : decode cX1_fill 83 = .ok (.getfield 38, 3) := by decide +kernel
theorem dX1_fill_86 : decode cX1_fill 86 = .ok (.iload 6, 2) := by decide +kernel
theorem dX1_fill_88 : decode cX1_fill 88 = .ok (.iadd, 1) := by decide +kernel
theorem dX1_fill_89 : decode cX1_fill 89 = .ok (.putfield 38, 3) := by decide +kernel
theorem dX1_fill_92 : decode cX1_fill 92 = .ok (.iload 6, 2) := by decide +kernel
theorem dX1_fill_94 : decode cX1_fill 94 = .ok (.ireturn, 1) := by decide +kernel
set_option maxRecDepth 20000 in
theorem ggX1_turn_X1_turnRound : GoodIn wsX1_turn wsX1_turnRound := goodIn_r _ [6, 7, 8, 9, 10, 11, 12, 13, 14, 15, 16] (by decide +kernel) (by decide +kernel)
set_option maxRecDepth 20000 in
theorem gX1_turn_X1_turnRound : GoodIn wsX1_turn (wsV RX1 49 RX1 yX1_turnRound wsX1_turnRound) := goodIn_app (goodIn_of _ (by decide +kernel)) ggX1_turn_X1_turnRound
theorem dX1_turn_0 : decode cX1_turn 0 = .ok (.iload_n 1, 1) := by decide +kernel
theorem dX1_turn_1 : decode cX1_turn 1 = .ok (.ifCond .lt 17, 3) := by decide +kernel
theorem dX1_turn_4 : decode cX1_turn 4 = .ok (.iload_n 2, 1) := by decide +kernel
theorem dX1_turn_5 : decode cX1_turn 5 = .ok (.ifCond .lt 13, 3) := by decide +kernel
theorem dX1_turn_8 : decode cX1_turn 8 = .ok (.iload_n 1, 1) := by decide +kernel
theorem dX1_turn_9 : decode cX1_turn 9 = .ok (.aload_n 0, 1) := by decide +kernel
theorem dX1_turn_10 : decode cX1_turn 10 = .ok (.getfield 38, 3) := by decide +kernel
theorem dX1_turn_13 : decode cX1_turn 13 = .ok (.iload_n 2, 1) := by decide +kernel
theorem dX1_turn_14 : decode cX1_turn 14 = .ok (.isub, 1) := by decide +kernel
theorem dX1_turn_15 : decode cX1_turn 15 = .ok (.if_icmp .le 5, 3) := by decide +kernel
theorem dX1_turn_18 : decode cX1_turn 18 = .ok (.iconst 0, 1) := by decide +kernel
theorem dX1_turn_19 : decode cX1_turn 19 = .ok (.ireturn, 1) := by decide +kernel
theorem dX1_turn_20 : decode cX1_turn 20 = .ok (.aload_n 0, 1) := by decide +kernel
theorem dX1_turn_21 : decode cX1_turn 21 = .ok (.iload_n 1, 1) := by decide +kernel
theorem dX1_turn_22 : decode cX1_turn 22 = .ok (.iload_n 2, 1) := by decide +kernel
theorem dX1_turn_23 : decode cX1_turn 23 = .ok (.invokevirtual 49, 3) := by decide +kernel
theorem dX1_turn_26 : decode cX1_turn 26 = .ok (.iload_n 2, 1) := by decide +kernel
theorem dX1_turn_27 : decode cX1_turn 27 = .ok (.ireturn, 1) := by decide +kernel
set_option maxRecDepth 20000 in
theorem ggX1_run_X1_forgetLatestSorting : GoodIn wsX1_run wsX1_forgetLatestSorting := goodIn_r _ [14, 2, 15, 16, 4, 17, 18, 19, 20, 21, 22, 112, 113, 114, 115, 116, 117, 118, 119, 120, 121, 122, 123, 124] (by decide +kernel) (by decide +kernel)
set_option maxRecDepth 20000 in
theorem gX1_run_X1_forgetLatestSorting : GoodIn wsX1_run (wsV RX1 53 RX1 yX1_forgetLatestSorting wsX1_forgetLatestSorting) := goodIn_app (goodIn_of _ (by decide +kernel)) ggX1_run_X1_forgetLatestSorting
set_option maxRecDepth 20000 in
theorem ggX1_run_X1_leastFor : GoodIn wsX1_run wsX1_leastFor := goodIn_r _ [25] (by decide +kernel) (by decide +kernel)
set_option maxRecDepth 20000 in
theorem gX1_run_X1_leastFor : GoodIn wsX1_run (va_wsS RX1 56 yX1_leastFor wsX1_leastFor) := goodIn_app (goodIn_of _ (by decide +kernel)) ggX1_run_X1_leastFor
set_option maxRecDepth 20000 in
theorem ggX1_run_X1_makeRun : GoodIn wsX1_run wsX1_makeRun := goodIn_r _ [29, 1, 30, 31, 8, 32, 6, 7, 9, 33, 34, 35, 13, 36, 37, 38, 39, 40, 41, 42, 43, 44, 45, 46, 47, 48, 49, 50, 51, 52, 53, 54, 55, 56, 57, 58, 59, 60, 61, 62, 63, 64, 65, 66, 67, 68, 112, 113, 114, 115, 116, 117, 118, 119, 120] (by decide +kernel) (by decide +kernel)
set_option maxRecDepth 20000 in
theorem gX1_run_X1_makeRun : GoodIn wsX1_run (wsV RX1 63 RX1 yX1_makeRun wsX1_makeRun) := goodIn_app (goodIn_of _ (by decide +kernel)) ggX1_run_X1_makeRun
set_option maxRecDepth 20000 in
theorem ggX1_run_X0_push : GoodIn wsX1_run wsX0_push := goodIn_r _ [71, 21, 72, 73, 22, 74, 7, 8, 9, 121, 122, 123, 124] (by decide +kernel) (by decide +kernel)
set_option maxRecDepth 20000 in
theorem gX1_run_X0_push_n66 : GoodIn wsX1_run (wsX0_push) := ggX1_run_X0_push
set_option maxRecDepth 20000 in
theorem ggX1_run_X1_bringInOrder : GoodIn wsX1_run wsX1_bringInOrder := goodIn_r _ [78, 4, 79, 18, 80, 81, 21, 82, 83, 84, 85, 72, 86, 87, 88, 89, 90, 91, 13, 92, 15, 16, 93, 94, 95, 96, 45, 97, 61, 62, 63, 64, 46, 47, 48, 98, 99, 100, 101, 102, 103, 104, 73, 105, 106, 107, 112, 113, 114, 115, 116, 117, 118, 119, 120, 121, 122, 123, 124] (by decide +kernel) (by decide +kernel)
set_option maxRecDepth 20000 in
theorem gX1_run_X1_bringInOrder : GoodIn wsX1_run (wsV RX1 69 RX1 yX1_bringInOrder wsX1_bringInOrder) := goodIn_app (goodIn_of _ (by decide +kernel)) ggX1_run_X1_bringInOrder
set_option maxRecDepth 20000 in
theorem ggX1_run_X1_mergeWhatIsLeft : GoodIn wsX1_run wsX1_mergeWhatIsLeft := goodIn_r _ [111, 4, 86, 18, 87, 88, 21, 82, 83, 84, 85, 72, 89, 90, 91, 13, 92, 15, 16, 93, 94, 95, 96, 45, 97, 61, 62, 63, 64, 46, 47, 48, 98, 99, 100, 101, 102, 103, 104, 73, 112, 113, 114, 115, 116, 117, 118, 119, 120, 121, 122, 123, 124] (by decide +kernel) (by decide +kernel)
set_option maxRecDepth 20000 in
theorem gX1_run_X1_mergeWhatIsLeft : GoodIn wsX1_run (wsV RX1 72 RX1 yX1_mergeWhatIsLeft wsX1_mergeWhatIsLeft) := goodIn_app (goodIn_of _ (by decide +kernel)) ggX1_run_X1_mergeWhatIsLeft
theorem dX1_run_0 : decode cX1_run 0 = .ok (.aload_n 0, 1) := by decide +kernel
theorem dX1_run_1 : decode cX1_run 1 = .ok (.invokevirtual 53, 3) := by decide +kernel
theorem dX1_run_4 : decode cX1_run 4 = .ok (.aload_n 0, 1) := by decide +kernel
theorem dX1_run_5 : decode cX1_run 5 = .ok (.getfield 38, 3) := by decide +kernel
theorem dX1_run_8 : decode cX1_run 8 = .ok (.iconst 2, 1) := by decide +kernel
theorem dX1_run_9 : decode cX1_run 9 = .ok (.if_icmp .ge 5, 3) := by decide +kernel
theorem dX1_run_12 : decode cX1_run 12 = .ok (.iconst 0, 1) := by decide +kernel
theorem dX1_run_13 : decode cX1_run 13 = .ok (.ireturn, 1) := by decide +kernel
theorem dX1_run_14 : decode cX1_run 14 = .ok (.aload_n 0, 1) := by decide +kernel
theorem dX1_run_15 : decode cX1_run 15 = .ok (.getfield 38, 3) := by decide +kernel
theorem dX1_run_18 : decode cX1_run 18 = .ok (.invokestatic 56, 3) := by decide +kernel
theorem dX1_run_21 : decode cX1_run 21 = .ok (.istore_n 1, 1) := by decide +kernel
theorem dX1_run_22 : decode cX1_run 22 = .ok (.iconst 0, 1) := by decide +kernel
theorem dX1_run_23 : decode cX1_run 23 = .ok (.istore_n 2, 1) := by decide +kernel
theorem dX1_run_24 : decode cX1_run 24 = .ok (.iload_n 2, 1) := by decide +kernel
theorem dX1_run_25 : decode cX1_run 25 = .ok (.aload_n 0, 1) := by decide +kernel
theorem dX1_run_26 : decode cX1_run 26 = .ok (.getfield 38, 3) := by decide +kernel
theorem dX1_run_29 : decode cX1_run 29 = .ok (.if_icmp .ge 62, 3) := by decide +kernel
theorem dX1_run_32 : decode cX1_run 32 = .ok (.aload_n 0, 1) := by decide +kernel
theorem dX1_run_33 : decode cX1_run 33 = .ok (.getfield 60, 3) := by decide +kernel
theorem dX1_run_36 : decode cX1_run 36 = .ok (.aload_n 0, 1) := by decide +kernel
theorem dX1_run_37 : decode cX1_run 37 = .ok (.getfield 34, 3) := by decide +kernel
theorem dX1_run_40 : decode cX1_run 40 = .ok (.arraylength, 1) := by decide +kernel
theorem dX1_run_41 : decode cX1_run 41 = .ok (.if_icmp .ge 50, 3) := by decide +kernel
theorem dX1_run_44 : decode cX1_run 44 = .ok (.aload_n 0, 1) := by decide +kernel
theorem dX1_run_45 : decode cX1_run 45 = .ok (.iload_n 2, 1) := by decide +kernel
theorem dX1_run_46 : decode cX1_run 46 = .ok (.iload_n 1, 1) := by decide +kernel
theorem dX1_run_47 : decode cX1_run 47 = .ok (.invokevirtual 63, 3) := by decide +kernel
theorem dX1_run_50 : decode cX1_run 50 = .ok (.istore_n 3, 1) := by decide +kernel
theorem dX1_run_51 : decode cX1_run 51 = .ok (.aload_n 0, 1) := by decide +kernel
theorem dX1_run_52 : decode cX1_run 52 = .ok (.getfield 34, 3) := by decide +kernel
theorem dX1_run_55 : decode cX1_run 55 = .ok (.aload_n 0, 1) := by decide +kernel
theorem dX1_run_56 : decode cX1_run 56 = .ok (.getfield 60, 3) := by decide +kernel
theorem dX1_run_59 : decode cX1_run 59 = .ok (.iload_n 3, 1) := by decide +kernel
theorem dX1_run_60 : decode cX1_run 60 = .ok (.iastore, 1) := by decide +kernel
theorem dX1_run_61 : decode cX1_run 61 = .ok (.aload_n 0, 1) := by decide +kernel
theorem dX1_run_62 : decode cX1_run 62 = .ok (.dup, 1) := by decide +kernel
theorem dX1_run_63 : decode cX1_run 63 = .ok (.getfield 60, 3) := by decide +kernel
theorem dX1_run_66 : decode cX1_run 66 = .ok (.iconst 1, 1) := by decide +kernel
theorem dX1_run_67 : decode cX1_run 67 = .ok (.iadd, 1) := by decide +kernel
theorem dX1_run_68 : decode cX1_run 68 = .ok (.putfield 60, 3) := by decide +kernel
theorem dX1_run_71 : decode cX1_run 71 = .ok (.aload_n 0, 1) := by decide +kernel
theorem dX1_run_72 : decode cX1_run 72 = .ok (.getfield 30, 3) := by decide +kernel
theorem dX1_run_75 : decode cX1_run 75 = .ok (.iload_n 2, 1) := by decide +kernel
theorem dX1_run_76 : decode cX1_run 76 = .ok (.iload_n 3, 1) := by decide +kernel
theorem dX1_run_77 : decode cX1_run 77 = .ok (.invokevirtual 66, 3) := by decide +kernel
theorem dX1_run_80 : decode cX1_run 80 = .ok (.aload_n 0, 1) := by decide +kernel
theorem dX1_run_81 : decode cX1_run 81 = .ok (.invokevirtual 69, 3) := by decide +kernel
theorem dX1_run_84 : decode cX1_run 84 = .ok (.iload_n 2, 1) := by decide +kernel
theorem dX1_run_85 : decode cX1_run 85 = .ok (.iload_n 3, 1) := by decide +kernel
theorem dX1_run_86 : decode cX1_run 86 = .ok (.iadd, 1) := by decide +kernel
theorem dX1_run_87 : decode cX1_run 87 = .ok (.istore_n 2, 1) := by decide +kernel
theorem dX1_run_88 : decode cX1_run 88 = .ok (.goto (-64), 3) := by decide +kernel
theorem dX1_run_91 : decode cX1_run 91 = .ok (.aload_n 0, 1) := by decide +kernel
theorem dX1_run_92 : decode cX1_run 92 = .ok (.invokevirtual 72, 3) := by decide +kernel
theorem dX1_run_95 : decode cX1_run 95 = .ok (.aload_n 0, 1) := by decide +kernel
theorem dX1_run_96 : decode cX1_run 96 = .ok (.aload_n 0, 1) := by decide +kernel
theorem dX1_run_97 : decode cX1_run 97 = .ok (.getfield 75, 3) := by decide +kernel
theorem dX1_run_100 : decode cX1_run 100 = .ok (.aload_n 0, 1) := by decide +kernel
theorem dX1_run_101 : decode cX1_run 101 = .ok (.getfield 30, 3) := by decide +kernel
theorem dX1_run_104 : decode cX1_run 104 = .ok (.getfield 78, 3) := by decide +kernel
theorem dX1_run_107 : decode cX1_run 107 = .ok (.invokestatic 15, 3) := by decide +kernel
theorem dX1_run_110 : decode cX1_run 110 = .ok (.putfield 75, 3) := by decide +kernel
