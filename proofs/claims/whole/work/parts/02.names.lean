/-! ===== BEGIN words of one list among another's, by their places ===== -/
theorem goodIn_r {big : List Cond} (ws : List Cond) (ps : List Nat) (hp : ws = ps.filterMap (fun i => big[i]?)) (h : ws.all goodWord = true) : GoodIn big ws := by
  intro w hw
  have h1 := List.all_eq_true.mp h w hw
  rw [hp] at hw
  obtain ⟨i, -, hi⟩ := List.mem_filterMap.mp hw
  have hm : w ∈ big := by first | exact List.mem_of_getElem? hi | exact List.getElem?_mem hi
  exact ⟨hm, good_of_word h1⟩
theorem goodIn_app {big a b : List Cond} (ha : GoodIn big a) (hb : GoodIn big b) : GoodIn big (a ++ b) := fun w h => (List.mem_append.mp h).elim (ha w) (hb w)
theorem goodIn_ca {big a b : List Cond} {c : Cond} (ha : GoodIn big (c :: a)) (hb : GoodIn big b) : GoodIn big (c :: (a ++ b)) := fun w h => (List.mem_cons.mp h).elim (fun e => ha w (List.mem_cons.mpr (Or.inl e))) (fun h => (List.mem_append.mp h).elim (fun h => ha w (List.mem_cons.mpr (Or.inr h))) (hb w))
theorem goodIn_sub {big ws : List Cond} (hm : ∀ w ∈ ws, w ∈ big) (h : ws.all goodWord = true) : GoodIn big ws := fun w hw => ⟨hm w hw, good_of_word (List.all_eq_true.mp h w hw)⟩
/-! ===== END ===== -/

/-! ===== BEGIN printed: names, fields, word lists, decode rows ===== -/
def RX0 : String := "MeldingHeaps"
def TX0 : u_T := fun k => match k with
  | 0 => ("MeldingHeaps", "kinds", "[I", true)
  | 1 => ("MeldingHeaps", "orders", "[I", true)
  | 2 => ("MeldingHeaps", "absorbed", "[Z", true)
  | 3 => ("MeldingHeaps", "floors", "[J", true)
  | 4 => ("MeldingHeaps", "heapCount", "I", false)
  | 5 => ("MeldingHeaps", "keys", "[J", true)
  | 6 => ("MeldingHeaps", "values", "[I", true)
  | 7 => ("MeldingHeaps", "owners", "[I", true)
  | _ => ("MeldingHeaps", "entryCount", "I", false)
def tyX0 : Nat → FieldType := fun k => match k with
  | 0 => .array .int
  | 1 => .array .int
  | 2 => .array .boolean
  | 3 => .array .long
  | 4 => .int
  | 5 => .array .long
  | 6 => .array .int
  | 7 => .array .int
  | _ => .int
abbrev wsX00 : List Cond := u_ws RX0 TX0 9
theorem nmX0 : ∀ a, a < 9 → ∀ b, b < 9 → a ≠ b → (TX0 a).2.1 ≠ (TX0 b).2.1 := by decide +kernel
theorem tyX0_ok : ∀ k, k < 9 → parseFieldDescriptor (TX0 k).2.2.1 = some (tyX0 k) := by decide +kernel
abbrev cX0_init : ByteArray := prog_1_method_1_code
def yX0_init : MethodName := ⟨RX0, "<init>", "()V"⟩
abbrev cX0_open : ByteArray := prog_1_method_2_code
def yX0_open : MethodName := ⟨RX0, "open", "(II)I"⟩
abbrev cX0_insert : ByteArray := prog_1_method_3_code
def yX0_insert : MethodName := ⟨RX0, "insert", "(IJI)I"⟩
abbrev cX0_first : ByteArray := prog_1_method_4_code
def yX0_first : MethodName := ⟨RX0, "first", "(I)I"⟩
abbrev cX0_last : ByteArray := prog_1_method_5_code
def yX0_last : MethodName := ⟨RX0, "last", "(I)I"⟩
abbrev cX0_take : ByteArray := prog_1_method_6_code
def yX0_take : MethodName := ⟨RX0, "take", "(I)I"⟩
abbrev cX0_takeLast : ByteArray := prog_1_method_7_code
def yX0_takeLast : MethodName := ⟨RX0, "takeLast", "(I)I"⟩
abbrev cX0_decrease : ByteArray := prog_1_method_8_code
def yX0_decrease : MethodName := ⟨RX0, "decrease", "(IJ)I"⟩
abbrev cX0_delete : ByteArray := prog_1_method_9_code
def yX0_delete : MethodName := ⟨RX0, "delete", "(I)I"⟩
abbrev cX0_meld : ByteArray := prog_1_method_10_code
def yX0_meld : MethodName := ⟨RX0, "meld", "(II)I"⟩
abbrev cX0_drain : ByteArray := prog_1_method_11_code
def yX0_drain : MethodName := ⟨RX0, "drain", "(III)I"⟩
abbrev cX0_clear : ByteArray := prog_1_method_12_code
def yX0_clear : MethodName := ⟨RX0, "clear", "(I)I"⟩
abbrev cX0_size : ByteArray := prog_1_method_13_code
def yX0_size : MethodName := ⟨RX0, "size", "(I)I"⟩
abbrev cX0_floor : ByteArray := prog_1_method_14_code
def yX0_floor : MethodName := ⟨RX0, "floor", "(I)J"⟩
abbrev cX0_key : ByteArray := prog_1_method_15_code
def yX0_key : MethodName := ⟨RX0, "key", "(I)J"⟩
abbrev cX0_value : ByteArray := prog_1_method_16_code
def yX0_value : MethodName := ⟨RX0, "value", "(I)I"⟩
abbrev cX0_owner : ByteArray := prog_1_method_17_code
def yX0_owner : MethodName := ⟨RX0, "owner", "(I)I"⟩
abbrev cX0_before : ByteArray := prog_1_method_18_code
def yX0_before : MethodName := ⟨RX0, "before", "(I)I"⟩
abbrev cX0_isHeap : ByteArray := prog_1_method_19_code
def yX0_isHeap : MethodName := ⟨RX0, "isHeap", "(I)Z"⟩
abbrev cX0_isEntry : ByteArray := prog_1_method_20_code
def yX0_isEntry : MethodName := ⟨RX0, "isEntry", "(I)Z"⟩
abbrev cX0_refusalOfHeap : ByteArray := prog_1_method_21_code
def yX0_refusalOfHeap : MethodName := ⟨RX0, "refusalOfHeap", "(I)I"⟩
abbrev cX0_refusalOfLastOf : ByteArray := prog_1_method_22_code
def yX0_refusalOfLastOf : MethodName := ⟨RX0, "refusalOfLastOf", "(I)I"⟩
abbrev cX0_refusalOfPair : ByteArray := prog_1_method_23_code
def yX0_refusalOfPair : MethodName := ⟨RX0, "refusalOfPair", "(II)I"⟩
abbrev cX0_refusalOfEntry : ByteArray := prog_1_method_24_code
def yX0_refusalOfEntry : MethodName := ⟨RX0, "refusalOfEntry", "(I)I"⟩
abbrev cX0_weight : ByteArray := prog_1_method_25_code
def yX0_weight : MethodName := ⟨RX0, "weight", "(IJ)J"⟩
abbrev cX0_isBelowFloor : ByteArray := prog_1_method_26_code
def yX0_isBelowFloor : MethodName := ⟨RX0, "isBelowFloor", "(IJ)Z"⟩
abbrev cX0_raiseFloor : ByteArray := prog_1_method_27_code
def yX0_raiseFloor : MethodName := ⟨RX0, "raiseFloor", "(IJ)V"⟩
abbrev cX0_isBefore : ByteArray := prog_1_method_28_code
def yX0_isBefore : MethodName := ⟨RX0, "isBefore", "(III)Z"⟩
abbrev cX0_findFirst : ByteArray := prog_1_method_29_code
def yX0_findFirst : MethodName := ⟨RX0, "findFirst", "(I)I"⟩
abbrev cX0_findLast : ByteArray := prog_1_method_30_code
def yX0_findLast : MethodName := ⟨RX0, "findLast", "(I)I"⟩
abbrev cX0_countEntries : ByteArray := prog_1_method_31_code
def yX0_countEntries : MethodName := ⟨RX0, "countEntries", "(I)I"⟩
abbrev cX0_countBefore : ByteArray := prog_1_method_32_code
def yX0_countBefore : MethodName := ⟨RX0, "countBefore", "(II)I"⟩
abbrev cX0_handOverAll : ByteArray := prog_1_method_33_code
def yX0_handOverAll : MethodName := ⟨RX0, "handOverAll", "(II)I"⟩
def RX1 : String := "MeldingHeapsModel"
def TX1 : u_T := fun k => match k with
  | 0 => ("MeldingHeapsModel", "opened", "I", false)
  | 1 => ("MeldingHeapsModel", "kinds", "[I", true)
  | 2 => ("MeldingHeapsModel", "orders", "[I", true)
  | 3 => ("MeldingHeapsModel", "gone", "[Z", true)
  | 4 => ("MeldingHeapsModel", "floors", "[J", true)
  | 5 => ("MeldingHeapsModel", "inserted", "I", false)
  | 6 => ("MeldingHeapsModel", "keys", "[J", true)
  | 7 => ("MeldingHeapsModel", "values", "[I", true)
  | _ => ("MeldingHeapsModel", "homes", "[I", true)
def tyX1 : Nat → FieldType := fun k => match k with
  | 0 => .int
  | 1 => .array .int
  | 2 => .array .int
  | 3 => .array .boolean
  | 4 => .array .long
  | 5 => .int
  | 6 => .array .long
  | 7 => .array .int
  | _ => .array .int
abbrev wsX10 : List Cond := u_ws RX1 TX1 9
theorem nmX1 : ∀ a, a < 9 → ∀ b, b < 9 → a ≠ b → (TX1 a).2.1 ≠ (TX1 b).2.1 := by decide +kernel
theorem tyX1_ok : ∀ k, k < 9 → parseFieldDescriptor (TX1 k).2.2.1 = some (tyX1 k) := by decide +kernel
abbrev cX1_init : ByteArray := prog_3_method_1_code
def yX1_init : MethodName := ⟨RX1, "<init>", "()V"⟩
abbrev cX1_wrongHeap : ByteArray := prog_3_method_2_code
def yX1_wrongHeap : MethodName := ⟨RX1, "wrongHeap", "(I)I"⟩
abbrev cX1_weight : ByteArray := prog_3_method_4_code
def yX1_weight : MethodName := ⟨RX1, "weight", "(IJ)J"⟩
abbrev cX1_isBelow : ByteArray := prog_3_method_5_code
def yX1_isBelow : MethodName := ⟨RX1, "isBelow", "(IJ)Z"⟩
abbrev cX1_open : ByteArray := prog_3_method_10_code
def yX1_open : MethodName := ⟨RX1, "open", "(II)I"⟩
abbrev cX1_insert : ByteArray := prog_3_method_11_code
def yX1_insert : MethodName := ⟨RX1, "insert", "(IJI)I"⟩
abbrev cX1_first : ByteArray := prog_3_method_12_code
def yX1_first : MethodName := ⟨RX1, "first", "(I)I"⟩
def RJ9 : String := "java/lang/Math"
def TJ9 : u_T := fun k => match k with
  | _ => ("", "", "", false)
def tyJ9 : Nat → FieldType := fun k => match k with
  | _ => .int
abbrev wsJ90 : List Cond := u_ws RJ9 TJ9 0
theorem nmJ9 : ∀ a, a < 0 → ∀ b, b < 0 → a ≠ b → (TJ9 a).2.1 ≠ (TJ9 b).2.1 := by decide +kernel
theorem tyJ9_ok : ∀ k, k < 0 → parseFieldDescriptor (TJ9 k).2.2.1 = some (tyJ9 k) := by decide +kernel
abbrev cJ9_min_7cf53 : ByteArray := prog_4_method_69_code
def yJ9_min_7cf53 : MethodName := ⟨RJ9, "min", "(II)I"⟩
def RL : String := "MeldingHeapsLaw"
abbrev cL_law : ByteArray := code
def yL_law : MethodName := ⟨RL, "law", "([I)Z"⟩
def wsX0_init : List Cond := .code yX0_init cX0_init 1 none :: ([.methodLink RX0 3 objectInit, .instanceMethod objectInit, .code objectInit ⟨#[0xb1]⟩ 1 none, .arrayClass .int, .fieldLink RX0 9 "MeldingHeaps" "kinds" "[I", .fieldLink RX0 13 "MeldingHeaps" "orders" "[I", .arrayClass .boolean, .fieldLink RX0 16 "MeldingHeaps" "absorbed" "[Z", .arrayClass .long, .fieldLink RX0 20 "MeldingHeaps" "floors" "[J", .fieldLink RX0 24 "MeldingHeaps" "heapCount" "I", .fieldLink RX0 28 "MeldingHeaps" "keys" "[J", .fieldLink RX0 31 "MeldingHeaps" "values" "[I", .fieldLink RX0 34 "MeldingHeaps" "owners" "[I", .fieldLink RX0 37 "MeldingHeaps" "entryCount" "I"] ++ wsX00)
def wsX0_open : List Cond := .code yX0_open cX0_open 4 (some .int) :: ([.fieldLink RX0 24 "MeldingHeaps" "heapCount" "I", .fieldLink RX0 9 "MeldingHeaps" "kinds" "[I", .fieldLink RX0 13 "MeldingHeaps" "orders" "[I", .fieldLink RX0 16 "MeldingHeaps" "absorbed" "[Z", .fieldLink RX0 20 "MeldingHeaps" "floors" "[J", .constantLong RX0 40 (-9223372036854775808)] ++ wsX00)
def wsX0_isHeap : List Cond := .code yX0_isHeap cX0_isHeap 2 (some .boolean) :: ([.fieldLink RX0 24 "MeldingHeaps" "heapCount" "I"] ++ wsX00)
def wsX0_refusalOfHeap : List Cond := .code yX0_refusalOfHeap cX0_refusalOfHeap 2 (some .int) :: ([.fieldLink RX0 16 "MeldingHeaps" "absorbed" "[Z", .methodLink RX0 94 yX0_isHeap, .instanceMethod yX0_isHeap, .selects RX0 yX0_isHeap yX0_isHeap, .initialized RX0, .code yX0_isHeap cX0_isHeap 2 (some .boolean), .fieldLink RX0 24 "MeldingHeaps" "heapCount" "I"] ++ wsX00)
def wsX0_weight : List Cond := .code yX0_weight cX0_weight 3 (some .long) :: ([.constantLong RX0 104 (-1), .constantLong RX0 40 (-9223372036854775808), .constantLong RX0 106 (65535)])
def wsX0_isBelowFloor : List Cond := .code yX0_isBelowFloor cX0_isBelowFloor 4 (some .boolean) :: ([.fieldLink RX0 13 "MeldingHeaps" "orders" "[I", .fieldLink RX0 20 "MeldingHeaps" "floors" "[J", .methodLink RX0 72 yX0_weight, .static yX0_weight, .initialized RX0, .code yX0_weight cX0_weight 3 (some .long), .constantLong RX0 104 (-1), .constantLong RX0 40 (-9223372036854775808), .constantLong RX0 106 (65535)] ++ wsX00)
def wsX0_insert_r1 : List Cond := [Cond.fieldLink RX0 37 "MeldingHeaps" "entryCount" "I", Cond.fieldLink RX0 28 "MeldingHeaps" "keys" "[J", Cond.fieldLink RX0 31 "MeldingHeaps" "values" "[I", Cond.fieldLink RX0 34 "MeldingHeaps" "owners" "[I", Cond.methodLink RX0 42 yX0_refusalOfHeap, Cond.instanceMethod yX0_refusalOfHeap, Cond.selects RX0 yX0_refusalOfHeap yX0_refusalOfHeap, Cond.initialized RX0, Cond.code yX0_refusalOfHeap cX0_refusalOfHeap 2 (some .int), Cond.fieldLink RX0 16 "MeldingHeaps" "absorbed" "[Z", Cond.methodLink RX0 94 yX0_isHeap, Cond.instanceMethod yX0_isHeap, Cond.selects RX0 yX0_isHeap yX0_isHeap, Cond.code yX0_isHeap cX0_isHeap 2 (some .boolean), Cond.fieldLink RX0 24 "MeldingHeaps" "heapCount" "I", Cond.methodLink RX0 46 yX0_isBelowFloor, Cond.instanceMethod yX0_isBelowFloor, Cond.selects RX0 yX0_isBelowFloor yX0_isBelowFloor, Cond.code yX0_isBelowFloor cX0_isBelowFloor 4 (some .boolean), Cond.fieldLink RX0 13 "MeldingHeaps" "orders" "[I", Cond.fieldLink RX0 20 "MeldingHeaps" "floors" "[J", Cond.methodLink RX0 72 yX0_weight, Cond.static yX0_weight, Cond.code yX0_weight cX0_weight 3 (some .long)]
def wsX0_insert_r2 : List Cond := [Cond.constantLong RX0 104 (-1), Cond.constantLong RX0 40 (-9223372036854775808), Cond.constantLong RX0 106 (65535)]
def wsX0_insert : List Cond := .code yX0_insert cX0_insert 7 (some .int) :: ((wsX0_insert_r1 ++ wsX0_insert_r2) ++ wsX00)
def wsX0_isBefore : List Cond := .code yX0_isBefore cX0_isBefore 8 (some .boolean) :: ([.fieldLink RX0 28 "MeldingHeaps" "keys" "[J", .methodLink RX0 72 yX0_weight, .static yX0_weight, .initialized RX0, .code yX0_weight cX0_weight 3 (some .long), .constantLong RX0 104 (-1), .constantLong RX0 40 (-9223372036854775808), .constantLong RX0 106 (65535)] ++ wsX00)
def wsX0_findFirst : List Cond := .code yX0_findFirst cX0_findFirst 4 (some .int) :: ([.fieldLink RX0 37 "MeldingHeaps" "entryCount" "I", .fieldLink RX0 34 "MeldingHeaps" "owners" "[I", .fieldLink RX0 13 "MeldingHeaps" "orders" "[I", .methodLink RX0 108 yX0_isBefore, .instanceMethod yX0_isBefore, .selects RX0 yX0_isBefore yX0_isBefore, .initialized RX0, .code yX0_isBefore cX0_isBefore 8 (some .boolean), .fieldLink RX0 28 "MeldingHeaps" "keys" "[J", .methodLink RX0 72 yX0_weight, .static yX0_weight, .code yX0_weight cX0_weight 3 (some .long), .constantLong RX0 104 (-1), .constantLong RX0 40 (-9223372036854775808), .constantLong RX0 106 (65535)] ++ wsX00)
def wsX0_first_r1 : List Cond := [Cond.methodLink RX0 42 yX0_refusalOfHeap, Cond.instanceMethod yX0_refusalOfHeap, Cond.selects RX0 yX0_refusalOfHeap yX0_refusalOfHeap, Cond.initialized RX0, Cond.code yX0_refusalOfHeap cX0_refusalOfHeap 2 (some .int), Cond.fieldLink RX0 16 "MeldingHeaps" "absorbed" "[Z", Cond.methodLink RX0 94 yX0_isHeap, Cond.instanceMethod yX0_isHeap, Cond.selects RX0 yX0_isHeap yX0_isHeap, Cond.code yX0_isHeap cX0_isHeap 2 (some .boolean), Cond.fieldLink RX0 24 "MeldingHeaps" "heapCount" "I", Cond.methodLink RX0 50 yX0_findFirst, Cond.instanceMethod yX0_findFirst, Cond.selects RX0 yX0_findFirst yX0_findFirst, Cond.code yX0_findFirst cX0_findFirst 4 (some .int), Cond.fieldLink RX0 37 "MeldingHeaps" "entryCount" "I", Cond.fieldLink RX0 34 "MeldingHeaps" "owners" "[I", Cond.fieldLink RX0 13 "MeldingHeaps" "orders" "[I", Cond.methodLink RX0 108 yX0_isBefore, Cond.instanceMethod yX0_isBefore, Cond.selects RX0 yX0_isBefore yX0_isBefore, Cond.code yX0_isBefore cX0_isBefore 8 (some .boolean), Cond.fieldLink RX0 28 "MeldingHeaps" "keys" "[J", Cond.methodLink RX0 72 yX0_weight]
def wsX0_first_r2 : List Cond := [Cond.static yX0_weight, Cond.code yX0_weight cX0_weight 3 (some .long), Cond.constantLong RX0 104 (-1), Cond.constantLong RX0 40 (-9223372036854775808), Cond.constantLong RX0 106 (65535)]
def wsX0_first : List Cond := .code yX0_first cX0_first 3 (some .int) :: ((wsX0_first_r1 ++ wsX0_first_r2) ++ wsX00)
def wsX0_refusalOfLastOf : List Cond := .code yX0_refusalOfLastOf cX0_refusalOfLastOf 3 (some .int) :: ([.fieldLink RX0 9 "MeldingHeaps" "kinds" "[I", .methodLink RX0 42 yX0_refusalOfHeap, .instanceMethod yX0_refusalOfHeap, .selects RX0 yX0_refusalOfHeap yX0_refusalOfHeap, .initialized RX0, .code yX0_refusalOfHeap cX0_refusalOfHeap 2 (some .int), .fieldLink RX0 16 "MeldingHeaps" "absorbed" "[Z", .methodLink RX0 94 yX0_isHeap, .instanceMethod yX0_isHeap, .selects RX0 yX0_isHeap yX0_isHeap, .code yX0_isHeap cX0_isHeap 2 (some .boolean), .fieldLink RX0 24 "MeldingHeaps" "heapCount" "I"] ++ wsX00)
def wsX0_findLast : List Cond := .code yX0_findLast cX0_findLast 4 (some .int) :: ([.fieldLink RX0 37 "MeldingHeaps" "entryCount" "I", .fieldLink RX0 34 "MeldingHeaps" "owners" "[I", .fieldLink RX0 13 "MeldingHeaps" "orders" "[I", .methodLink RX0 108 yX0_isBefore, .instanceMethod yX0_isBefore, .selects RX0 yX0_isBefore yX0_isBefore, .initialized RX0, .code yX0_isBefore cX0_isBefore 8 (some .boolean), .fieldLink RX0 28 "MeldingHeaps" "keys" "[J", .methodLink RX0 72 yX0_weight, .static yX0_weight, .code yX0_weight cX0_weight 3 (some .long), .constantLong RX0 104 (-1), .constantLong RX0 40 (-9223372036854775808), .constantLong RX0 106 (65535)] ++ wsX00)
def wsX0_last_r1 : List Cond := [Cond.methodLink RX0 53 yX0_refusalOfLastOf, Cond.instanceMethod yX0_refusalOfLastOf, Cond.selects RX0 yX0_refusalOfLastOf yX0_refusalOfLastOf, Cond.initialized RX0, Cond.code yX0_refusalOfLastOf cX0_refusalOfLastOf 3 (some .int), Cond.fieldLink RX0 9 "MeldingHeaps" "kinds" "[I", Cond.methodLink RX0 42 yX0_refusalOfHeap, Cond.instanceMethod yX0_refusalOfHeap, Cond.selects RX0 yX0_refusalOfHeap yX0_refusalOfHeap, Cond.code yX0_refusalOfHeap cX0_refusalOfHeap 2 (some .int), Cond.fieldLink RX0 16 "MeldingHeaps" "absorbed" "[Z", Cond.methodLink RX0 94 yX0_isHeap, Cond.instanceMethod yX0_isHeap, Cond.selects RX0 yX0_isHeap yX0_isHeap, Cond.code yX0_isHeap cX0_isHeap 2 (some .boolean), Cond.fieldLink RX0 24 "MeldingHeaps" "heapCount" "I", Cond.methodLink RX0 56 yX0_findLast, Cond.instanceMethod yX0_findLast, Cond.selects RX0 yX0_findLast yX0_findLast, Cond.code yX0_findLast cX0_findLast 4 (some .int), Cond.fieldLink RX0 37 "MeldingHeaps" "entryCount" "I", Cond.fieldLink RX0 34 "MeldingHeaps" "owners" "[I", Cond.fieldLink RX0 13 "MeldingHeaps" "orders" "[I", Cond.methodLink RX0 108 yX0_isBefore]
def wsX0_last_r2 : List Cond := [Cond.instanceMethod yX0_isBefore, Cond.selects RX0 yX0_isBefore yX0_isBefore, Cond.code yX0_isBefore cX0_isBefore 8 (some .boolean), Cond.fieldLink RX0 28 "MeldingHeaps" "keys" "[J", Cond.methodLink RX0 72 yX0_weight, Cond.static yX0_weight, Cond.code yX0_weight cX0_weight 3 (some .long), Cond.constantLong RX0 104 (-1), Cond.constantLong RX0 40 (-9223372036854775808), Cond.constantLong RX0 106 (65535)]
def wsX0_last : List Cond := .code yX0_last cX0_last 3 (some .int) :: ((wsX0_last_r1 ++ wsX0_last_r2) ++ wsX00)
def wsX0_raiseFloor : List Cond := .code yX0_raiseFloor cX0_raiseFloor 4 none :: ([.fieldLink RX0 9 "MeldingHeaps" "kinds" "[I", .fieldLink RX0 20 "MeldingHeaps" "floors" "[J", .fieldLink RX0 13 "MeldingHeaps" "orders" "[I", .methodLink RX0 72 yX0_weight, .static yX0_weight, .initialized RX0, .code yX0_weight cX0_weight 3 (some .long), .constantLong RX0 104 (-1), .constantLong RX0 40 (-9223372036854775808), .constantLong RX0 106 (65535)] ++ wsX00)
def wsX0_take_r1 : List Cond := [Cond.fieldLink RX0 28 "MeldingHeaps" "keys" "[J", Cond.fieldLink RX0 34 "MeldingHeaps" "owners" "[I", Cond.methodLink RX0 59 yX0_first, Cond.instanceMethod yX0_first, Cond.selects RX0 yX0_first yX0_first, Cond.initialized RX0, Cond.code yX0_first cX0_first 3 (some .int), Cond.methodLink RX0 42 yX0_refusalOfHeap, Cond.instanceMethod yX0_refusalOfHeap, Cond.selects RX0 yX0_refusalOfHeap yX0_refusalOfHeap, Cond.code yX0_refusalOfHeap cX0_refusalOfHeap 2 (some .int), Cond.fieldLink RX0 16 "MeldingHeaps" "absorbed" "[Z", Cond.methodLink RX0 94 yX0_isHeap, Cond.instanceMethod yX0_isHeap, Cond.selects RX0 yX0_isHeap yX0_isHeap, Cond.code yX0_isHeap cX0_isHeap 2 (some .boolean), Cond.fieldLink RX0 24 "MeldingHeaps" "heapCount" "I", Cond.methodLink RX0 50 yX0_findFirst, Cond.instanceMethod yX0_findFirst, Cond.selects RX0 yX0_findFirst yX0_findFirst, Cond.code yX0_findFirst cX0_findFirst 4 (some .int), Cond.fieldLink RX0 37 "MeldingHeaps" "entryCount" "I", Cond.fieldLink RX0 13 "MeldingHeaps" "orders" "[I", Cond.methodLink RX0 108 yX0_isBefore]
def wsX0_take_r2 : List Cond := [Cond.instanceMethod yX0_isBefore, Cond.selects RX0 yX0_isBefore yX0_isBefore, Cond.code yX0_isBefore cX0_isBefore 8 (some .boolean), Cond.methodLink RX0 72 yX0_weight, Cond.static yX0_weight, Cond.code yX0_weight cX0_weight 3 (some .long), Cond.constantLong RX0 104 (-1), Cond.constantLong RX0 40 (-9223372036854775808), Cond.constantLong RX0 106 (65535), Cond.methodLink RX0 62 yX0_raiseFloor, Cond.instanceMethod yX0_raiseFloor, Cond.selects RX0 yX0_raiseFloor yX0_raiseFloor, Cond.code yX0_raiseFloor cX0_raiseFloor 4 none, Cond.fieldLink RX0 9 "MeldingHeaps" "kinds" "[I", Cond.fieldLink RX0 20 "MeldingHeaps" "floors" "[J"]
def wsX0_take : List Cond := .code yX0_take cX0_take 3 (some .int) :: ((wsX0_take_r1 ++ wsX0_take_r2) ++ wsX00)
def wsX0_takeLast_r1 : List Cond := [Cond.fieldLink RX0 34 "MeldingHeaps" "owners" "[I", Cond.methodLink RX0 66 yX0_last, Cond.instanceMethod yX0_last, Cond.selects RX0 yX0_last yX0_last, Cond.initialized RX0, Cond.code yX0_last cX0_last 3 (some .int), Cond.methodLink RX0 53 yX0_refusalOfLastOf, Cond.instanceMethod yX0_refusalOfLastOf, Cond.selects RX0 yX0_refusalOfLastOf yX0_refusalOfLastOf, Cond.code yX0_refusalOfLastOf cX0_refusalOfLastOf 3 (some .int), Cond.fieldLink RX0 9 "MeldingHeaps" "kinds" "[I", Cond.methodLink RX0 42 yX0_refusalOfHeap, Cond.instanceMethod yX0_refusalOfHeap, Cond.selects RX0 yX0_refusalOfHeap yX0_refusalOfHeap, Cond.code yX0_refusalOfHeap cX0_refusalOfHeap 2 (some .int), Cond.fieldLink RX0 16 "MeldingHeaps" "absorbed" "[Z", Cond.methodLink RX0 94 yX0_isHeap, Cond.instanceMethod yX0_isHeap, Cond.selects RX0 yX0_isHeap yX0_isHeap, Cond.code yX0_isHeap cX0_isHeap 2 (some .boolean), Cond.fieldLink RX0 24 "MeldingHeaps" "heapCount" "I", Cond.methodLink RX0 56 yX0_findLast, Cond.instanceMethod yX0_findLast, Cond.selects RX0 yX0_findLast yX0_findLast]
def wsX0_takeLast_r2 : List Cond := [Cond.code yX0_findLast cX0_findLast 4 (some .int), Cond.fieldLink RX0 37 "MeldingHeaps" "entryCount" "I", Cond.fieldLink RX0 13 "MeldingHeaps" "orders" "[I", Cond.methodLink RX0 108 yX0_isBefore, Cond.instanceMethod yX0_isBefore, Cond.selects RX0 yX0_isBefore yX0_isBefore, Cond.code yX0_isBefore cX0_isBefore 8 (some .boolean), Cond.fieldLink RX0 28 "MeldingHeaps" "keys" "[J", Cond.methodLink RX0 72 yX0_weight, Cond.static yX0_weight, Cond.code yX0_weight cX0_weight 3 (some .long), Cond.constantLong RX0 104 (-1), Cond.constantLong RX0 40 (-9223372036854775808), Cond.constantLong RX0 106 (65535)]
def wsX0_takeLast : List Cond := .code yX0_takeLast cX0_takeLast 3 (some .int) :: ((wsX0_takeLast_r1 ++ wsX0_takeLast_r2) ++ wsX00)
def wsX0_isEntry : List Cond := .code yX0_isEntry cX0_isEntry 2 (some .boolean) :: ([.fieldLink RX0 37 "MeldingHeaps" "entryCount" "I"] ++ wsX00)
def wsX0_refusalOfEntry : List Cond := .code yX0_refusalOfEntry cX0_refusalOfEntry 2 (some .int) :: ([.fieldLink RX0 34 "MeldingHeaps" "owners" "[I", .methodLink RX0 101 yX0_isEntry, .instanceMethod yX0_isEntry, .selects RX0 yX0_isEntry yX0_isEntry, .initialized RX0, .code yX0_isEntry cX0_isEntry 2 (some .boolean), .fieldLink RX0 37 "MeldingHeaps" "entryCount" "I"] ++ wsX00)
def wsX0_decrease_r1 : List Cond := [Cond.fieldLink RX0 34 "MeldingHeaps" "owners" "[I", Cond.fieldLink RX0 13 "MeldingHeaps" "orders" "[I", Cond.fieldLink RX0 28 "MeldingHeaps" "keys" "[J", Cond.methodLink RX0 69 yX0_refusalOfEntry, Cond.instanceMethod yX0_refusalOfEntry, Cond.selects RX0 yX0_refusalOfEntry yX0_refusalOfEntry, Cond.initialized RX0, Cond.code yX0_refusalOfEntry cX0_refusalOfEntry 2 (some .int), Cond.methodLink RX0 101 yX0_isEntry, Cond.instanceMethod yX0_isEntry, Cond.selects RX0 yX0_isEntry yX0_isEntry, Cond.code yX0_isEntry cX0_isEntry 2 (some .boolean), Cond.fieldLink RX0 37 "MeldingHeaps" "entryCount" "I", Cond.methodLink RX0 72 yX0_weight, Cond.static yX0_weight, Cond.code yX0_weight cX0_weight 3 (some .long), Cond.constantLong RX0 104 (-1), Cond.constantLong RX0 40 (-9223372036854775808), Cond.constantLong RX0 106 (65535), Cond.methodLink RX0 46 yX0_isBelowFloor, Cond.instanceMethod yX0_isBelowFloor, Cond.selects RX0 yX0_isBelowFloor yX0_isBelowFloor, Cond.code yX0_isBelowFloor cX0_isBelowFloor 4 (some .boolean), Cond.fieldLink RX0 20 "MeldingHeaps" "floors" "[J"]
def wsX0_decrease_r2 : List Cond := [Cond.methodLink RX0 50 yX0_findFirst, Cond.instanceMethod yX0_findFirst, Cond.selects RX0 yX0_findFirst yX0_findFirst, Cond.code yX0_findFirst cX0_findFirst 4 (some .int), Cond.methodLink RX0 108 yX0_isBefore, Cond.instanceMethod yX0_isBefore, Cond.selects RX0 yX0_isBefore yX0_isBefore, Cond.code yX0_isBefore cX0_isBefore 8 (some .boolean)]
def wsX0_decrease : List Cond := .code yX0_decrease cX0_decrease 6 (some .int) :: ((wsX0_decrease_r1 ++ wsX0_decrease_r2) ++ wsX00)
def wsX0_owner : List Cond := .code yX0_owner cX0_owner 3 (some .int) :: ([.fieldLink RX0 34 "MeldingHeaps" "owners" "[I", .methodLink RX0 69 yX0_refusalOfEntry, .instanceMethod yX0_refusalOfEntry, .selects RX0 yX0_refusalOfEntry yX0_refusalOfEntry, .initialized RX0, .code yX0_refusalOfEntry cX0_refusalOfEntry 2 (some .int), .methodLink RX0 101 yX0_isEntry, .instanceMethod yX0_isEntry, .selects RX0 yX0_isEntry yX0_isEntry, .code yX0_isEntry cX0_isEntry 2 (some .boolean), .fieldLink RX0 37 "MeldingHeaps" "entryCount" "I"] ++ wsX00)
def wsX0_delete : List Cond := .code yX0_delete cX0_delete 3 (some .int) :: ([.fieldLink RX0 34 "MeldingHeaps" "owners" "[I", .methodLink RX0 76 yX0_owner, .instanceMethod yX0_owner, .selects RX0 yX0_owner yX0_owner, .initialized RX0, .code yX0_owner cX0_owner 3 (some .int), .methodLink RX0 69 yX0_refusalOfEntry, .instanceMethod yX0_refusalOfEntry, .selects RX0 yX0_refusalOfEntry yX0_refusalOfEntry, .code yX0_refusalOfEntry cX0_refusalOfEntry 2 (some .int), .methodLink RX0 101 yX0_isEntry, .instanceMethod yX0_isEntry, .selects RX0 yX0_isEntry yX0_isEntry, .code yX0_isEntry cX0_isEntry 2 (some .boolean), .fieldLink RX0 37 "MeldingHeaps" "entryCount" "I"] ++ wsX00)
def wsX0_refusalOfPair : List Cond := .code yX0_refusalOfPair cX0_refusalOfPair 4 (some .int) :: ([.methodLink RX0 42 yX0_refusalOfHeap, .instanceMethod yX0_refusalOfHeap, .selects RX0 yX0_refusalOfHeap yX0_refusalOfHeap, .initialized RX0, .code yX0_refusalOfHeap cX0_refusalOfHeap 2 (some .int), .fieldLink RX0 16 "MeldingHeaps" "absorbed" "[Z", .methodLink RX0 94 yX0_isHeap, .instanceMethod yX0_isHeap, .selects RX0 yX0_isHeap yX0_isHeap, .code yX0_isHeap cX0_isHeap 2 (some .boolean), .fieldLink RX0 24 "MeldingHeaps" "heapCount" "I"] ++ wsX00)
def wsX0_handOverAll : List Cond := .code yX0_handOverAll cX0_handOverAll 5 (some .int) :: ([.fieldLink RX0 37 "MeldingHeaps" "entryCount" "I", .fieldLink RX0 34 "MeldingHeaps" "owners" "[I"] ++ wsX00)
def wsX0_countEntries : List Cond := .code yX0_countEntries cX0_countEntries 4 (some .int) :: ([.fieldLink RX0 37 "MeldingHeaps" "entryCount" "I", .fieldLink RX0 34 "MeldingHeaps" "owners" "[I"] ++ wsX00)
def wsX0_meld_r1 : List Cond := [Cond.fieldLink RX0 9 "MeldingHeaps" "kinds" "[I", Cond.fieldLink RX0 13 "MeldingHeaps" "orders" "[I", Cond.fieldLink RX0 16 "MeldingHeaps" "absorbed" "[Z", Cond.methodLink RX0 79 yX0_refusalOfPair, Cond.instanceMethod yX0_refusalOfPair, Cond.selects RX0 yX0_refusalOfPair yX0_refusalOfPair, Cond.initialized RX0, Cond.code yX0_refusalOfPair cX0_refusalOfPair 4 (some .int), Cond.methodLink RX0 42 yX0_refusalOfHeap, Cond.instanceMethod yX0_refusalOfHeap, Cond.selects RX0 yX0_refusalOfHeap yX0_refusalOfHeap, Cond.code yX0_refusalOfHeap cX0_refusalOfHeap 2 (some .int), Cond.methodLink RX0 94 yX0_isHeap, Cond.instanceMethod yX0_isHeap, Cond.selects RX0 yX0_isHeap yX0_isHeap, Cond.code yX0_isHeap cX0_isHeap 2 (some .boolean), Cond.fieldLink RX0 24 "MeldingHeaps" "heapCount" "I", Cond.methodLink RX0 83 yX0_handOverAll, Cond.instanceMethod yX0_handOverAll, Cond.selects RX0 yX0_handOverAll yX0_handOverAll, Cond.code yX0_handOverAll cX0_handOverAll 5 (some .int), Cond.fieldLink RX0 37 "MeldingHeaps" "entryCount" "I", Cond.fieldLink RX0 34 "MeldingHeaps" "owners" "[I", Cond.methodLink RX0 86 yX0_countEntries]
def wsX0_meld_r2 : List Cond := [Cond.instanceMethod yX0_countEntries, Cond.selects RX0 yX0_countEntries yX0_countEntries, Cond.code yX0_countEntries cX0_countEntries 4 (some .int)]
def wsX0_meld : List Cond := .code yX0_meld cX0_meld 4 (some .int) :: ((wsX0_meld_r1 ++ wsX0_meld_r2) ++ wsX00)
def wsX0_drain_r1 : List Cond := [Cond.methodLink RX0 89 Lib.Math.min.name, Cond.static Lib.Math.min.name, Cond.initialized "java/lang/Math", Cond.code Lib.Math.min.name Lib.Math.min.code 2 (some .int), Cond.fieldLink RX0 28 "MeldingHeaps" "keys" "[J", Cond.fieldLink RX0 34 "MeldingHeaps" "owners" "[I", Cond.methodLink RX0 79 yX0_refusalOfPair, Cond.instanceMethod yX0_refusalOfPair, Cond.selects RX0 yX0_refusalOfPair yX0_refusalOfPair, Cond.initialized RX0, Cond.code yX0_refusalOfPair cX0_refusalOfPair 4 (some .int), Cond.methodLink RX0 42 yX0_refusalOfHeap, Cond.instanceMethod yX0_refusalOfHeap, Cond.selects RX0 yX0_refusalOfHeap yX0_refusalOfHeap, Cond.code yX0_refusalOfHeap cX0_refusalOfHeap 2 (some .int), Cond.fieldLink RX0 16 "MeldingHeaps" "absorbed" "[Z", Cond.methodLink RX0 94 yX0_isHeap, Cond.instanceMethod yX0_isHeap, Cond.selects RX0 yX0_isHeap yX0_isHeap, Cond.code yX0_isHeap cX0_isHeap 2 (some .boolean), Cond.fieldLink RX0 24 "MeldingHeaps" "heapCount" "I", Cond.methodLink RX0 86 yX0_countEntries, Cond.instanceMethod yX0_countEntries, Cond.selects RX0 yX0_countEntries yX0_countEntries]
def wsX0_drain_r2 : List Cond := [Cond.code yX0_countEntries cX0_countEntries 4 (some .int), Cond.fieldLink RX0 37 "MeldingHeaps" "entryCount" "I", Cond.methodLink RX0 50 yX0_findFirst, Cond.instanceMethod yX0_findFirst, Cond.selects RX0 yX0_findFirst yX0_findFirst, Cond.code yX0_findFirst cX0_findFirst 4 (some .int), Cond.fieldLink RX0 13 "MeldingHeaps" "orders" "[I", Cond.methodLink RX0 108 yX0_isBefore, Cond.instanceMethod yX0_isBefore, Cond.selects RX0 yX0_isBefore yX0_isBefore, Cond.code yX0_isBefore cX0_isBefore 8 (some .boolean), Cond.methodLink RX0 72 yX0_weight, Cond.static yX0_weight, Cond.code yX0_weight cX0_weight 3 (some .long), Cond.constantLong RX0 104 (-1), Cond.constantLong RX0 40 (-9223372036854775808), Cond.constantLong RX0 106 (65535), Cond.methodLink RX0 46 yX0_isBelowFloor, Cond.instanceMethod yX0_isBelowFloor, Cond.selects RX0 yX0_isBelowFloor yX0_isBelowFloor, Cond.code yX0_isBelowFloor cX0_isBelowFloor 4 (some .boolean), Cond.fieldLink RX0 20 "MeldingHeaps" "floors" "[J", Cond.methodLink RX0 62 yX0_raiseFloor, Cond.instanceMethod yX0_raiseFloor]
def wsX0_drain_r3 : List Cond := [Cond.selects RX0 yX0_raiseFloor yX0_raiseFloor, Cond.code yX0_raiseFloor cX0_raiseFloor 4 none, Cond.fieldLink RX0 9 "MeldingHeaps" "kinds" "[I"]
def wsX0_drain : List Cond := .code yX0_drain cX0_drain 8 (some .int) :: ((wsX0_drain_r1 ++ (wsX0_drain_r2 ++ wsX0_drain_r3)) ++ wsX00)
def wsX0_clear : List Cond := .code yX0_clear cX0_clear 3 (some .int) :: ([.fieldLink RX0 20 "MeldingHeaps" "floors" "[J", .constantLong RX0 40 (-9223372036854775808), .methodLink RX0 42 yX0_refusalOfHeap, .instanceMethod yX0_refusalOfHeap, .selects RX0 yX0_refusalOfHeap yX0_refusalOfHeap, .initialized RX0, .code yX0_refusalOfHeap cX0_refusalOfHeap 2 (some .int), .fieldLink RX0 16 "MeldingHeaps" "absorbed" "[Z", .methodLink RX0 94 yX0_isHeap, .instanceMethod yX0_isHeap, .selects RX0 yX0_isHeap yX0_isHeap, .code yX0_isHeap cX0_isHeap 2 (some .boolean), .fieldLink RX0 24 "MeldingHeaps" "heapCount" "I", .methodLink RX0 83 yX0_handOverAll, .instanceMethod yX0_handOverAll, .selects RX0 yX0_handOverAll yX0_handOverAll, .code yX0_handOverAll cX0_handOverAll 5 (some .int), .fieldLink RX0 37 "MeldingHeaps" "entryCount" "I", .fieldLink RX0 34 "MeldingHeaps" "owners" "[I"] ++ wsX00)
def wsX0_size : List Cond := .code yX0_size cX0_size 3 (some .int) :: ([.methodLink RX0 42 yX0_refusalOfHeap, .instanceMethod yX0_refusalOfHeap, .selects RX0 yX0_refusalOfHeap yX0_refusalOfHeap, .initialized RX0, .code yX0_refusalOfHeap cX0_refusalOfHeap 2 (some .int), .fieldLink RX0 16 "MeldingHeaps" "absorbed" "[Z", .methodLink RX0 94 yX0_isHeap, .instanceMethod yX0_isHeap, .selects RX0 yX0_isHeap yX0_isHeap, .code yX0_isHeap cX0_isHeap 2 (some .boolean), .fieldLink RX0 24 "MeldingHeaps" "heapCount" "I", .methodLink RX0 86 yX0_countEntries, .instanceMethod yX0_countEntries, .selects RX0 yX0_countEntries yX0_countEntries, .code yX0_countEntries cX0_countEntries 4 (some .int), .fieldLink RX0 37 "MeldingHeaps" "entryCount" "I", .fieldLink RX0 34 "MeldingHeaps" "owners" "[I"] ++ wsX00)
def wsX0_floor : List Cond := .code yX0_floor cX0_floor 2 (some .long) :: ([.fieldLink RX0 20 "MeldingHeaps" "floors" "[J", .constantLong RX0 40 (-9223372036854775808), .methodLink RX0 94 yX0_isHeap, .instanceMethod yX0_isHeap, .selects RX0 yX0_isHeap yX0_isHeap, .initialized RX0, .code yX0_isHeap cX0_isHeap 2 (some .boolean), .fieldLink RX0 24 "MeldingHeaps" "heapCount" "I"] ++ wsX00)
def wsX0_key : List Cond := .code yX0_key cX0_key 2 (some .long) :: ([.fieldLink RX0 28 "MeldingHeaps" "keys" "[J", .methodLink RX0 69 yX0_refusalOfEntry, .instanceMethod yX0_refusalOfEntry, .selects RX0 yX0_refusalOfEntry yX0_refusalOfEntry, .initialized RX0, .code yX0_refusalOfEntry cX0_refusalOfEntry 2 (some .int), .fieldLink RX0 34 "MeldingHeaps" "owners" "[I", .methodLink RX0 101 yX0_isEntry, .instanceMethod yX0_isEntry, .selects RX0 yX0_isEntry yX0_isEntry, .code yX0_isEntry cX0_isEntry 2 (some .boolean), .fieldLink RX0 37 "MeldingHeaps" "entryCount" "I"] ++ wsX00)
def wsX0_value : List Cond := .code yX0_value cX0_value 2 (some .int) :: ([.fieldLink RX0 31 "MeldingHeaps" "values" "[I", .methodLink RX0 69 yX0_refusalOfEntry, .instanceMethod yX0_refusalOfEntry, .selects RX0 yX0_refusalOfEntry yX0_refusalOfEntry, .initialized RX0, .code yX0_refusalOfEntry cX0_refusalOfEntry 2 (some .int), .fieldLink RX0 34 "MeldingHeaps" "owners" "[I", .methodLink RX0 101 yX0_isEntry, .instanceMethod yX0_isEntry, .selects RX0 yX0_isEntry yX0_isEntry, .code yX0_isEntry cX0_isEntry 2 (some .boolean), .fieldLink RX0 37 "MeldingHeaps" "entryCount" "I"] ++ wsX00)
def wsX0_countBefore : List Cond := .code yX0_countBefore cX0_countBefore 5 (some .int) :: ([.fieldLink RX0 37 "MeldingHeaps" "entryCount" "I", .fieldLink RX0 34 "MeldingHeaps" "owners" "[I", .fieldLink RX0 13 "MeldingHeaps" "orders" "[I", .methodLink RX0 108 yX0_isBefore, .instanceMethod yX0_isBefore, .selects RX0 yX0_isBefore yX0_isBefore, .initialized RX0, .code yX0_isBefore cX0_isBefore 8 (some .boolean), .fieldLink RX0 28 "MeldingHeaps" "keys" "[J", .methodLink RX0 72 yX0_weight, .static yX0_weight, .code yX0_weight cX0_weight 3 (some .long), .constantLong RX0 104 (-1), .constantLong RX0 40 (-9223372036854775808), .constantLong RX0 106 (65535)] ++ wsX00)
def wsX0_before_r1 : List Cond := [Cond.fieldLink RX0 34 "MeldingHeaps" "owners" "[I", Cond.methodLink RX0 69 yX0_refusalOfEntry, Cond.instanceMethod yX0_refusalOfEntry, Cond.selects RX0 yX0_refusalOfEntry yX0_refusalOfEntry, Cond.initialized RX0, Cond.code yX0_refusalOfEntry cX0_refusalOfEntry 2 (some .int), Cond.methodLink RX0 101 yX0_isEntry, Cond.instanceMethod yX0_isEntry, Cond.selects RX0 yX0_isEntry yX0_isEntry, Cond.code yX0_isEntry cX0_isEntry 2 (some .boolean), Cond.fieldLink RX0 37 "MeldingHeaps" "entryCount" "I", Cond.methodLink RX0 98 yX0_countBefore, Cond.instanceMethod yX0_countBefore, Cond.selects RX0 yX0_countBefore yX0_countBefore, Cond.code yX0_countBefore cX0_countBefore 5 (some .int), Cond.fieldLink RX0 13 "MeldingHeaps" "orders" "[I", Cond.methodLink RX0 108 yX0_isBefore, Cond.instanceMethod yX0_isBefore, Cond.selects RX0 yX0_isBefore yX0_isBefore, Cond.code yX0_isBefore cX0_isBefore 8 (some .boolean), Cond.fieldLink RX0 28 "MeldingHeaps" "keys" "[J", Cond.methodLink RX0 72 yX0_weight, Cond.static yX0_weight, Cond.code yX0_weight cX0_weight 3 (some .long)]
def wsX0_before_r2 : List Cond := [Cond.constantLong RX0 104 (-1), Cond.constantLong RX0 40 (-9223372036854775808), Cond.constantLong RX0 106 (65535)]
def wsX0_before : List Cond := .code yX0_before cX0_before 3 (some .int) :: ((wsX0_before_r1 ++ wsX0_before_r2) ++ wsX00)
def wsX1_init : List Cond := .code yX1_init cX1_init 1 none :: ([.methodLink RX1 1 objectInit, .instanceMethod objectInit, .code objectInit ⟨#[0xb1]⟩ 1 none, .arrayClass .int, .fieldLink RX1 7 "MeldingHeapsModel" "kinds" "[I", .fieldLink RX1 13 "MeldingHeapsModel" "orders" "[I", .arrayClass .boolean, .fieldLink RX1 16 "MeldingHeapsModel" "gone" "[Z", .arrayClass .long, .fieldLink RX1 20 "MeldingHeapsModel" "floors" "[J", .fieldLink RX1 24 "MeldingHeapsModel" "keys" "[J", .fieldLink RX1 27 "MeldingHeapsModel" "values" "[I", .fieldLink RX1 30 "MeldingHeapsModel" "homes" "[I"] ++ wsX10)
def wsX1_wrongHeap : List Cond := .code yX1_wrongHeap cX1_wrongHeap 2 (some .int) :: ([.fieldLink RX1 33 "MeldingHeapsModel" "opened" "I", .fieldLink RX1 16 "MeldingHeapsModel" "gone" "[Z"] ++ wsX10)
def wsX1_weight : List Cond := .code yX1_weight cX1_weight 5 (some .long) :: ([.fieldLink RX1 13 "MeldingHeapsModel" "orders" "[I", .constantLong RX1 40 (-1), .constantLong RX1 42 (-9223372036854775808), .constantLong RX1 44 (65535)] ++ wsX10)
def wsX1_isBelow : List Cond := .code yX1_isBelow cX1_isBelow 4 (some .boolean) :: ([.fieldLink RX1 7 "MeldingHeapsModel" "kinds" "[I", .fieldLink RX1 20 "MeldingHeapsModel" "floors" "[J", .methodLink RX1 46 yX1_weight, .instanceMethod yX1_weight, .selects RX1 yX1_weight yX1_weight, .initialized RX1, .code yX1_weight cX1_weight 5 (some .long), .fieldLink RX1 13 "MeldingHeapsModel" "orders" "[I", .constantLong RX1 40 (-1), .constantLong RX1 42 (-9223372036854775808), .constantLong RX1 44 (65535)] ++ wsX10)
def wsX1_open : List Cond := .code yX1_open cX1_open 3 (some .int) :: ([.fieldLink RX1 33 "MeldingHeapsModel" "opened" "I", .fieldLink RX1 7 "MeldingHeapsModel" "kinds" "[I", .fieldLink RX1 13 "MeldingHeapsModel" "orders" "[I", .fieldLink RX1 20 "MeldingHeapsModel" "floors" "[J", .constantLong RX1 42 (-9223372036854775808)] ++ wsX10)
def wsX1_insert_r1 : List Cond := [Cond.fieldLink RX1 37 "MeldingHeapsModel" "inserted" "I", Cond.fieldLink RX1 24 "MeldingHeapsModel" "keys" "[J", Cond.fieldLink RX1 27 "MeldingHeapsModel" "values" "[I", Cond.fieldLink RX1 30 "MeldingHeapsModel" "homes" "[I", Cond.methodLink RX1 50 yX1_wrongHeap, Cond.instanceMethod yX1_wrongHeap, Cond.selects RX1 yX1_wrongHeap yX1_wrongHeap, Cond.initialized RX1, Cond.code yX1_wrongHeap cX1_wrongHeap 2 (some .int), Cond.fieldLink RX1 33 "MeldingHeapsModel" "opened" "I", Cond.fieldLink RX1 16 "MeldingHeapsModel" "gone" "[Z", Cond.methodLink RX1 54 yX1_isBelow, Cond.instanceMethod yX1_isBelow, Cond.selects RX1 yX1_isBelow yX1_isBelow, Cond.code yX1_isBelow cX1_isBelow 4 (some .boolean), Cond.fieldLink RX1 7 "MeldingHeapsModel" "kinds" "[I", Cond.fieldLink RX1 20 "MeldingHeapsModel" "floors" "[J", Cond.methodLink RX1 46 yX1_weight, Cond.instanceMethod yX1_weight, Cond.selects RX1 yX1_weight yX1_weight, Cond.code yX1_weight cX1_weight 5 (some .long), Cond.fieldLink RX1 13 "MeldingHeapsModel" "orders" "[I", Cond.constantLong RX1 40 (-1), Cond.constantLong RX1 42 (-9223372036854775808)]
def wsX1_insert_r2 : List Cond := [Cond.constantLong RX1 44 (65535)]
def wsX1_insert : List Cond := .code yX1_insert cX1_insert 6 (some .int) :: ((wsX1_insert_r1 ++ wsX1_insert_r2) ++ wsX10)
def wsX1_first : List Cond := .code yX1_first cX1_first 3 (some .int) :: ([.methodLink RX1 50 yX1_wrongHeap, .instanceMethod yX1_wrongHeap, .selects RX1 yX1_wrongHeap yX1_wrongHeap, .initialized RX1, .code yX1_wrongHeap cX1_wrongHeap 2 (some .int), .fieldLink RX1 33 "MeldingHeapsModel" "opened" "I", .fieldLink RX1 16 "MeldingHeapsModel" "gone" "[Z"] ++ wsX10)
def wsJ9_min_7cf53 : List Cond := .code yJ9_min_7cf53 cJ9_min_7cf53 2 (some .int) :: ([])
def wsL_law_r1 : List Cond := [Cond.classLink RL 7 RX0, Cond.instantiable RX0 9, Cond.initialized RX0, Cond.classLink RL 10 RX1, Cond.instantiable RX1 9, Cond.initialized RX1, Cond.methodLink RL 9 yX0_init, Cond.instanceMethod yX0_init, Cond.code yX0_init cX0_init 1 none, Cond.methodLink RX0 3 objectInit, Cond.instanceMethod objectInit, Cond.code objectInit ⟨#[0xb1]⟩ 1 none, Cond.arrayClass .int, Cond.fieldLink RX0 9 "MeldingHeaps" "kinds" "[I", Cond.fieldLink RX0 13 "MeldingHeaps" "orders" "[I", Cond.arrayClass .boolean, Cond.fieldLink RX0 16 "MeldingHeaps" "absorbed" "[Z", Cond.arrayClass .long, Cond.fieldLink RX0 20 "MeldingHeaps" "floors" "[J", Cond.fieldLink RX0 24 "MeldingHeaps" "heapCount" "I", Cond.fieldLink RX0 28 "MeldingHeaps" "keys" "[J", Cond.fieldLink RX0 31 "MeldingHeaps" "values" "[I", Cond.fieldLink RX0 34 "MeldingHeaps" "owners" "[I", Cond.fieldLink RX0 37 "MeldingHeaps" "entryCount" "I"]
def wsL_law_r2 : List Cond := [Cond.methodLink RL 12 yX1_init, Cond.instanceMethod yX1_init, Cond.code yX1_init cX1_init 1 none, Cond.methodLink RX1 1 objectInit, Cond.fieldLink RX1 7 "MeldingHeapsModel" "kinds" "[I", Cond.fieldLink RX1 13 "MeldingHeapsModel" "orders" "[I", Cond.fieldLink RX1 16 "MeldingHeapsModel" "gone" "[Z", Cond.fieldLink RX1 20 "MeldingHeapsModel" "floors" "[J", Cond.fieldLink RX1 24 "MeldingHeapsModel" "keys" "[J", Cond.fieldLink RX1 27 "MeldingHeapsModel" "values" "[I", Cond.fieldLink RX1 30 "MeldingHeapsModel" "homes" "[I", Cond.methodLink RL 13 yX0_open, Cond.instanceMethod yX0_open, Cond.selects RX0 yX0_open yX0_open, Cond.code yX0_open cX0_open 4 (some .int), Cond.constantLong RX0 40 (-9223372036854775808), Cond.methodLink RL 17 yX1_open, Cond.instanceMethod yX1_open, Cond.selects RX1 yX1_open yX1_open, Cond.code yX1_open cX1_open 3 (some .int), Cond.fieldLink RX1 33 "MeldingHeapsModel" "opened" "I", Cond.constantLong RX1 42 (-9223372036854775808), Cond.methodLink RL 20 yX0_insert, Cond.instanceMethod yX0_insert]
def wsL_law_r3 : List Cond := [Cond.selects RX0 yX0_insert yX0_insert, Cond.code yX0_insert cX0_insert 7 (some .int), Cond.methodLink RX0 42 yX0_refusalOfHeap, Cond.instanceMethod yX0_refusalOfHeap, Cond.selects RX0 yX0_refusalOfHeap yX0_refusalOfHeap, Cond.code yX0_refusalOfHeap cX0_refusalOfHeap 2 (some .int), Cond.methodLink RX0 94 yX0_isHeap, Cond.instanceMethod yX0_isHeap, Cond.selects RX0 yX0_isHeap yX0_isHeap, Cond.code yX0_isHeap cX0_isHeap 2 (some .boolean), Cond.methodLink RX0 46 yX0_isBelowFloor, Cond.instanceMethod yX0_isBelowFloor, Cond.selects RX0 yX0_isBelowFloor yX0_isBelowFloor, Cond.code yX0_isBelowFloor cX0_isBelowFloor 4 (some .boolean), Cond.methodLink RX0 72 yX0_weight, Cond.static yX0_weight, Cond.code yX0_weight cX0_weight 3 (some .long), Cond.constantLong RX0 104 (-1), Cond.constantLong RX0 106 (65535), Cond.methodLink RL 24 yX1_insert, Cond.instanceMethod yX1_insert, Cond.selects RX1 yX1_insert yX1_insert, Cond.code yX1_insert cX1_insert 6 (some .int), Cond.fieldLink RX1 37 "MeldingHeapsModel" "inserted" "I"]
def wsL_law_r4 : List Cond := [Cond.methodLink RX1 50 yX1_wrongHeap, Cond.instanceMethod yX1_wrongHeap, Cond.selects RX1 yX1_wrongHeap yX1_wrongHeap, Cond.code yX1_wrongHeap cX1_wrongHeap 2 (some .int), Cond.methodLink RX1 54 yX1_isBelow, Cond.instanceMethod yX1_isBelow, Cond.selects RX1 yX1_isBelow yX1_isBelow, Cond.code yX1_isBelow cX1_isBelow 4 (some .boolean), Cond.methodLink RX1 46 yX1_weight, Cond.instanceMethod yX1_weight, Cond.selects RX1 yX1_weight yX1_weight, Cond.code yX1_weight cX1_weight 5 (some .long), Cond.constantLong RX1 40 (-1), Cond.constantLong RX1 44 (65535), Cond.methodLink RL 25 yX0_first, Cond.instanceMethod yX0_first, Cond.selects RX0 yX0_first yX0_first, Cond.code yX0_first cX0_first 3 (some .int), Cond.methodLink RX0 50 yX0_findFirst, Cond.instanceMethod yX0_findFirst, Cond.selects RX0 yX0_findFirst yX0_findFirst, Cond.code yX0_findFirst cX0_findFirst 4 (some .int), Cond.methodLink RX0 108 yX0_isBefore, Cond.instanceMethod yX0_isBefore]
def wsL_law_r5 : List Cond := [Cond.selects RX0 yX0_isBefore yX0_isBefore, Cond.code yX0_isBefore cX0_isBefore 8 (some .boolean), Cond.methodLink RL 29 yX1_first, Cond.instanceMethod yX1_first, Cond.selects RX1 yX1_first yX1_first, Cond.code yX1_first cX1_first 3 (some .int), Cond.methodLink RL 30 yX0_last, Cond.instanceMethod yX0_last, Cond.selects RX0 yX0_last yX0_last, Cond.code yX0_last cX0_last 3 (some .int), Cond.methodLink RX0 53 yX0_refusalOfLastOf, Cond.instanceMethod yX0_refusalOfLastOf, Cond.selects RX0 yX0_refusalOfLastOf yX0_refusalOfLastOf, Cond.code yX0_refusalOfLastOf cX0_refusalOfLastOf 3 (some .int), Cond.methodLink RX0 56 yX0_findLast, Cond.instanceMethod yX0_findLast, Cond.selects RX0 yX0_findLast yX0_findLast, Cond.code yX0_findLast cX0_findLast 4 (some .int), Cond.methodLink RL 34 yX0_take, Cond.instanceMethod yX0_take, Cond.selects RX0 yX0_take yX0_take, Cond.code yX0_take cX0_take 3 (some .int), Cond.methodLink RX0 59 yX0_first, Cond.methodLink RX0 62 yX0_raiseFloor]
def wsL_law_r6 : List Cond := [Cond.instanceMethod yX0_raiseFloor, Cond.selects RX0 yX0_raiseFloor yX0_raiseFloor, Cond.code yX0_raiseFloor cX0_raiseFloor 4 none, Cond.methodLink RL 38 yX0_takeLast, Cond.instanceMethod yX0_takeLast, Cond.selects RX0 yX0_takeLast yX0_takeLast, Cond.code yX0_takeLast cX0_takeLast 3 (some .int), Cond.methodLink RX0 66 yX0_last, Cond.methodLink RL 42 yX0_decrease, Cond.instanceMethod yX0_decrease, Cond.selects RX0 yX0_decrease yX0_decrease, Cond.code yX0_decrease cX0_decrease 6 (some .int), Cond.methodLink RX0 69 yX0_refusalOfEntry, Cond.instanceMethod yX0_refusalOfEntry, Cond.selects RX0 yX0_refusalOfEntry yX0_refusalOfEntry, Cond.code yX0_refusalOfEntry cX0_refusalOfEntry 2 (some .int), Cond.methodLink RX0 101 yX0_isEntry, Cond.instanceMethod yX0_isEntry, Cond.selects RX0 yX0_isEntry yX0_isEntry, Cond.code yX0_isEntry cX0_isEntry 2 (some .boolean), Cond.methodLink RL 47 yX0_delete, Cond.instanceMethod yX0_delete, Cond.selects RX0 yX0_delete yX0_delete, Cond.code yX0_delete cX0_delete 3 (some .int)]
def wsL_law_r7 : List Cond := [Cond.methodLink RX0 76 yX0_owner, Cond.instanceMethod yX0_owner, Cond.selects RX0 yX0_owner yX0_owner, Cond.code yX0_owner cX0_owner 3 (some .int), Cond.methodLink RL 51 yX0_meld, Cond.instanceMethod yX0_meld, Cond.selects RX0 yX0_meld yX0_meld, Cond.code yX0_meld cX0_meld 4 (some .int), Cond.methodLink RX0 79 yX0_refusalOfPair, Cond.instanceMethod yX0_refusalOfPair, Cond.selects RX0 yX0_refusalOfPair yX0_refusalOfPair, Cond.code yX0_refusalOfPair cX0_refusalOfPair 4 (some .int), Cond.methodLink RX0 83 yX0_handOverAll, Cond.instanceMethod yX0_handOverAll, Cond.selects RX0 yX0_handOverAll yX0_handOverAll, Cond.code yX0_handOverAll cX0_handOverAll 5 (some .int), Cond.methodLink RX0 86 yX0_countEntries, Cond.instanceMethod yX0_countEntries, Cond.selects RX0 yX0_countEntries yX0_countEntries, Cond.code yX0_countEntries cX0_countEntries 4 (some .int), Cond.methodLink RL 55 yX0_drain, Cond.instanceMethod yX0_drain, Cond.selects RX0 yX0_drain yX0_drain, Cond.code yX0_drain cX0_drain 8 (some .int)]
def wsL_law_r8 : List Cond := [Cond.methodLink RX0 89 Lib.Math.min.name, Cond.static Lib.Math.min.name, Cond.initialized "java/lang/Math", Cond.code Lib.Math.min.name Lib.Math.min.code 2 (some .int), Cond.methodLink RL 60 yX0_clear, Cond.instanceMethod yX0_clear, Cond.selects RX0 yX0_clear yX0_clear, Cond.code yX0_clear cX0_clear 3 (some .int), Cond.methodLink RL 64 yX0_size, Cond.instanceMethod yX0_size, Cond.selects RX0 yX0_size yX0_size, Cond.code yX0_size cX0_size 3 (some .int), Cond.methodLink RL 68 yX0_floor, Cond.instanceMethod yX0_floor, Cond.selects RX0 yX0_floor yX0_floor, Cond.code yX0_floor cX0_floor 2 (some .long), Cond.methodLink RL 73 yX0_key, Cond.instanceMethod yX0_key, Cond.selects RX0 yX0_key yX0_key, Cond.code yX0_key cX0_key 2 (some .long), Cond.methodLink RL 77 yX0_value, Cond.instanceMethod yX0_value, Cond.selects RX0 yX0_value yX0_value, Cond.code yX0_value cX0_value 2 (some .int)]
def wsL_law_r9 : List Cond := [Cond.methodLink RL 81 yX0_owner, Cond.methodLink RL 85 yX0_before, Cond.instanceMethod yX0_before, Cond.selects RX0 yX0_before yX0_before, Cond.code yX0_before cX0_before 3 (some .int), Cond.methodLink RX0 98 yX0_countBefore, Cond.instanceMethod yX0_countBefore, Cond.selects RX0 yX0_countBefore yX0_countBefore, Cond.code yX0_countBefore cX0_countBefore 5 (some .int)]
def wsL_law : List Cond := (wsL_law_r1 ++ (wsL_law_r2 ++ (wsL_law_r3 ++ (wsL_law_r4 ++ (wsL_law_r5 ++ (wsL_law_r6 ++ (wsL_law_r7 ++ (wsL_law_r8 ++ wsL_law_r9)))))))) ++ wsX00 ++ wsX10 ++ ([] : List Cond)
set_option maxRecDepth 20000 in
theorem wsL_law_in : ∀ w ∈ wsL_law, w ∈ lw_tbl := fun w h => (goodIn_p wsL_law [31, 34, 206, 69, 239, 74, 78, 82, 86, 89, 244, 248, 252, 256, 95, 99, 103, 262, 107, 111, 115, 119, 124, 128, 133, 137, 141, 145, 149, 153, 157, 161, 165, 169, 172, 176, 180, 184, 188, 192, 197, 201] (by decide +kernel) (by decide +kernel) w h).1
theorem inlX0 : ∀ w ∈ wsX00, w ∈ wsL_law := fun _ h => List.mem_append_left _ (List.mem_append_left _ (List.mem_append_right _ h))
theorem inX0 : ∀ w ∈ wsX00, w ∈ lw_tbl := fun w h => wsL_law_in w (inlX0 w h)
theorem inlX1 : ∀ w ∈ wsX10, w ∈ wsL_law := fun _ h => List.mem_append_left _ (List.mem_append_right _ h)
theorem inX1 : ∀ w ∈ wsX10, w ∈ lw_tbl := fun w h => wsL_law_in w (inlX1 w h)
theorem inJ9 : ∀ w ∈ wsJ90, w ∈ lw_tbl := by decide +kernel
theorem dX0_init_0 : decode cX0_init 0 = .ok (.aload_n 0, 1) := by decide +kernel
theorem dX0_init_1 : decode cX0_init 1 = .ok (.invokespecial 3, 3) := by decide +kernel
theorem dX0_init_4 : decode cX0_init 4 = .ok (.aload_n 0, 1) := by decide +kernel
theorem dX0_init_5 : decode cX0_init 5 = .ok (.bipush 12, 2) := by decide +kernel
theorem dX0_init_7 : decode cX0_init 7 = .ok (.newarray .int, 2) := by decide +kernel
theorem dX0_init_9 : decode cX0_init 9 = .ok (.putfield 9, 3) := by decide +kernel
theorem dX0_init_12 : decode cX0_init 12 = .ok (.aload_n 0, 1) := by decide +kernel
theorem dX0_init_13 : decode cX0_init 13 = .ok (.bipush 12, 2) := by decide +kernel
theorem dX0_init_15 : decode cX0_init 15 = .ok (.newarray .int, 2) := by decide +kernel
theorem dX0_init_17 : decode cX0_init 17 = .ok (.putfield 13, 3) := by decide +kernel
theorem dX0_init_20 : decode cX0_init 20 = .ok (.aload_n 0, 1) := by decide +kernel
theorem dX0_init_21 : decode cX0_init 21 = .ok (.bipush 12, 2) := by decide +kernel
theorem dX0_init_23 : decode cX0_init 23 = .ok (.newarray .boolean, 2) := by decide +kernel
theorem dX0_init_25 : decode cX0_init 25 = .ok (.putfield 16, 3) := by decide +kernel
theorem dX0_init_28 : decode cX0_init 28 = .ok (.aload_n 0, 1) := by decide +kernel
theorem dX0_init_29 : decode cX0_init 29 = .ok (.bipush 12, 2) := by decide +kernel
theorem dX0_init_31 : decode cX0_init 31 = .ok (.newarray .long, 2) := by decide +kernel
theorem dX0_init_33 : decode cX0_init 33 = .ok (.putfield 20, 3) := by decide +kernel
theorem dX0_init_36 : decode cX0_init 36 = .ok (.aload_n 0, 1) := by decide +kernel
theorem dX0_init_37 : decode cX0_init 37 = .ok (.iconst 0, 1) := by decide +kernel
theorem dX0_init_38 : decode cX0_init 38 = .ok (.putfield 24, 3) := by decide +kernel
theorem dX0_init_41 : decode cX0_init 41 = .ok (.aload_n 0, 1) := by decide +kernel
theorem dX0_init_42 : decode cX0_init 42 = .ok (.sipush 160, 3) := by decide +kernel
theorem dX0_init_45 : decode cX0_init 45 = .ok (.newarray .long, 2) := by decide +kernel
theorem dX0_init_47 : decode cX0_init 47 = .ok (.putfield 28, 3) := by decide +kernel
theorem dX0_init_50 : decode cX0_init 50 = .ok (.aload_n 0, 1) := by decide +kernel
theorem dX0_init_51 : decode cX0_init 51 = .ok (.sipush 160, 3) := by decide +kernel
theorem dX0_init_54 : decode cX0_init 54 = .ok (.newarray .int, 2) := by decide +kernel
theorem dX0_init_56 : decode cX0_init 56 = .ok (.putfield 31, 3) := by decide +kernel
theorem dX0_init_59 : decode cX0_init 59 = .ok (.aload_n 0, 1) := by decide +kernel
theorem dX0_init_60 : decode cX0_init 60 = .ok (.sipush 160, 3) := by decide +kernel
theorem dX0_init_63 : decode cX0_init 63 = .ok (.newarray .int, 2) := by decide +kernel
theorem dX0_init_65 : decode cX0_init 65 = .ok (.putfield 34, 3) := by decide +kernel
theorem dX0_init_68 : decode cX0_init 68 = .ok (.aload_n 0, 1) := by decide +kernel
theorem dX0_init_69 : decode cX0_init 69 = .ok (.iconst 0, 1) := by decide +kernel
theorem dX0_init_70 : decode cX0_init 70 = .ok (.putfield 37, 3) := by decide +kernel
theorem dX0_init_73 : decode cX0_init 73 = .ok (.return_, 1) := by decide +kernel
theorem dX0_open_0 : decode cX0_open 0 = .ok (.iload_n 1, 1) := by decide +kernel
theorem dX0_open_1 : decode cX0_open 1 = .ok (.ifCond .lt 17, 3) := by decide +kernel
theorem dX0_open_4 : decode cX0_open 4 = .ok (.iload_n 1, 1) := by decide +kernel
theorem dX0_open_5 : decode cX0_open 5 = .ok (.iconst 2, 1) := by decide +kernel
theorem dX0_open_6 : decode cX0_open 6 = .ok (.if_icmp .gt 12, 3) := by decide +kernel
theorem dX0_open_9 : decode cX0_open 9 = .ok (.iload_n 2, 1) := by decide +kernel
theorem dX0_open_10 : decode cX0_open 10 = .ok (.ifCond .lt 8, 3) := by decide +kernel
theorem dX0_open_13 : decode cX0_open 13 = .ok (.iload_n 2, 1) := by decide +kernel
theorem dX0_open_14 : decode cX0_open 14 = .ok (.iconst 3, 1) := by decide +kernel
theorem dX0_open_15 : decode cX0_open 15 = .ok (.if_icmp .le 6, 3) := by decide +kernel
theorem dX0_open_18 : decode cX0_open 18 = .ok (.bipush (-2), 2) := by decide +kernel
theorem dX0_open_20 : decode cX0_open 20 = .ok (.ireturn, 1) := by decide +kernel
theorem dX0_open_21 : decode cX0_open 21 = .ok (.aload_n 0, 1) := by decide +kernel
theorem dX0_open_22 : decode cX0_open 22 = .ok (.getfield 24, 3) := by decide +kernel
theorem dX0_open_25 : decode cX0_open 25 = .ok (.bipush 12, 2) := by decide +kernel
theorem dX0_open_27 : decode cX0_open 27 = .ok (.if_icmp .lt 6, 3) := by decide +kernel
theorem dX0_open_30 : decode cX0_open 30 = .ok (.bipush (-8), 2) := by decide +kernel
theorem dX0_open_32 : decode cX0_open 32 = .ok (.ireturn, 1) := by decide +kernel
theorem dX0_open_33 : decode cX0_open 33 = .ok (.aload_n 0, 1) := by decide +kernel
theorem dX0_open_34 : decode cX0_open 34 = .ok (.getfield 24, 3) := by decide +kernel
theorem dX0_open_37 : decode cX0_open 37 = .ok (.istore_n 3, 1) := by decide +kernel
theorem dX0_open_38 : decode cX0_open 38 = .ok (.aload_n 0, 1) := by decide +kernel
theorem dX0_open_39 : decode cX0_open 39 = .ok (.getfield 9, 3) := by decide +kernel
theorem dX0_open_42 : decode cX0_open 42 = .ok (.iload_n 3, 1) := by decide +kernel
theorem dX0_open_43 : decode cX0_open 43 = .ok (.iload_n 1, 1) := by decide +kernel
theorem dX0_open_44 : decode cX0_open 44 = .ok (.iastore, 1) := by decide +kernel
theorem dX0_open_45 : decode cX0_open 45 = .ok (.aload_n 0, 1) := by decide +kernel
theorem dX0_open_46 : decode cX0_open 46 = .ok (.getfield 13, 3) := by decide +kernel
theorem dX0_open_49 : decode cX0_open 49 = .ok (.iload_n 3, 1) := by decide +kernel
theorem dX0_open_50 : decode cX0_open 50 = .ok (.iload_n 2, 1) := by decide +kernel
theorem dX0_open_51 : decode cX0_open 51 = .ok (.iastore, 1) := by decide +kernel
theorem dX0_open_52 : decode cX0_open 52 = .ok (.aload_n 0, 1) := by decide +kernel
theorem dX0_open_53 : decode cX0_open 53 = .ok (.getfield 16, 3) := by decide +kernel
theorem dX0_open_56 : decode cX0_open 56 = .ok (.iload_n 3, 1) := by decide +kernel
theorem dX0_open_57 : decode cX0_open 57 = .ok (.iconst 0, 1) := by decide +kernel
theorem dX0_open_58 : decode cX0_open 58 = .ok (.bastore, 1) := by decide +kernel
theorem dX0_open_59 : decode cX0_open 59 = .ok (.aload_n 0, 1) := by decide +kernel
theorem dX0_open_60 : decode cX0_open 60 = .ok (.getfield 20, 3) := by decide +kernel
theorem dX0_open_63 : decode cX0_open 63 = .ok (.iload_n 3, 1) := by decide +kernel
theorem dX0_open_64 : decode cX0_open 64 = .ok (.ldc2_w 40, 3) := by decide +kernel
theorem dX0_open_67 : decode cX0_open 67 = .ok (.lastore, 1) := by decide +kernel
theorem dX0_open_68 : decode cX0_open 68 = .ok (.aload_n 0, 1) := by decide +kernel
theorem dX0_open_69 : decode cX0_open 69 = .ok (.dup, 1) := by decide +kernel
theorem dX0_open_70 : decode cX0_open 70 = .ok (.getfield 24, 3) := by decide +kernel
theorem dX0_open_73 : decode cX0_open 73 = .ok (.iconst 1, 1) := by decide +kernel
theorem dX0_open_74 : decode cX0_open 74 = .ok (.iadd, 1) := by decide +kernel
theorem dX0_open_75 : decode cX0_open 75 = .ok (.putfield 24, 3) := by decide +kernel
theorem dX0_open_78 : decode cX0_open 78 = .ok (.iload_n 3, 1) := by decide +kernel
theorem dX0_open_79 : decode cX0_open 79 = .ok (.ireturn, 1) := by decide +kernel
set_option maxRecDepth 20000 in
theorem ggX0_insert_X0_refusalOfHeap : GoodIn wsX0_insert wsX0_refusalOfHeap := goodIn_r _ [9, 10, 11, 12, 13, 8, 14, 15, 28, 29, 30, 31, 32, 33, 34, 35, 36] (by decide +kernel) (by decide +kernel)
set_option maxRecDepth 20000 in
theorem gX0_insert_X0_refusalOfHeap : GoodIn wsX0_insert (wsV RX0 42 RX0 yX0_refusalOfHeap wsX0_refusalOfHeap) := goodIn_app (goodIn_of _ (by decide +kernel)) ggX0_insert_X0_refusalOfHeap
set_option maxRecDepth 20000 in
theorem ggX0_insert_X0_isBelowFloor : GoodIn wsX0_insert wsX0_isBelowFloor := goodIn_r _ [19, 20, 21, 22, 23, 8, 24, 25, 26, 27, 28, 29, 30, 31, 32, 33, 34, 35, 36] (by decide +kernel) (by decide +kernel)
set_option maxRecDepth 20000 in
theorem gX0_insert_X0_isBelowFloor : GoodIn wsX0_insert (wsV RX0 46 RX0 yX0_isBelowFloor wsX0_isBelowFloor) := goodIn_app (goodIn_of _ (by decide +kernel)) ggX0_insert_X0_isBelowFloor
theorem dX0_insert_0 : decode cX0_insert 0 = .ok (.aload_n 0, 1) := by decide +kernel
theorem dX0_insert_1 : decode cX0_insert 1 = .ok (.iload_n 1, 1) := by decide +kernel
theorem dX0_insert_2 : decode cX0_insert 2 = .ok (.invokevirtual 42, 3) := by decide +kernel
theorem dX0_insert_5 : decode cX0_insert 5 = .ok (.istore 5, 2) := by decide +kernel
theorem dX0_insert_7 : decode cX0_insert 7 = .ok (.iload 5, 2) := by decide +kernel
theorem dX0_insert_9 : decode cX0_insert 9 = .ok (.ifCond .eq 6, 3) := by decide +kernel
theorem dX0_insert_12 : decode cX0_insert 12 = .ok (.iload 5, 2) := by decide +kernel
theorem dX0_insert_14 : decode cX0_insert 14 = .ok (.ireturn, 1) := by decide +kernel
theorem dX0_insert_15 : decode cX0_insert 15 = .ok (.aload_n 0, 1) := by decide +kernel
theorem dX0_insert_16 : decode cX0_insert 16 = .ok (.iload_n 1, 1) := by decide +kernel
theorem dX0_insert_17 : decode cX0_insert 17 = .ok (.lload_n 2, 1) := by decide +kernel
theorem dX0_insert_18 : decode cX0_insert 18 = .ok (.invokevirtual 46, 3) := by decide +kernel
theorem dX0_insert_21 : decode cX0_insert 21 = .ok (.ifCond .eq 6, 3) := by decide +kernel
theorem dX0_insert_24 : decode cX0_insert 24 = .ok (.bipush (-6), 2) := by decide +kernel
theorem dX0_insert_26 : decode cX0_insert 26 = .ok (.ireturn, 1) := by decide +kernel
theorem dX0_insert_27 : decode cX0_insert 27 = .ok (.aload_n 0, 1) := by decide +kernel
theorem dX0_insert_28 : decode cX0_insert 28 = .ok (.getfield 37, 3) := by decide +kernel
theorem dX0_insert_31 : decode cX0_insert 31 = .ok (.sipush 160, 3) := by decide +kernel
theorem dX0_insert_34 : decode cX0_insert 34 = .ok (.if_icmp .lt 6, 3) := by decide +kernel
theorem dX0_insert_37 : decode cX0_insert 37 = .ok (.bipush (-8), 2) := by decide +kernel
theorem dX0_insert_39 : decode cX0_insert 39 = .ok (.ireturn, 1) := by decide +kernel
theorem dX0_insert_40 : decode cX0_insert 40 = .ok (.aload_n 0, 1) := by decide +kernel
theorem dX0_insert_41 : decode cX0_insert 41 = .ok (.getfield 37, 3) := by decide +kernel
theorem dX0_insert_44 : decode cX0_insert 44 = .ok (.istore 6, 2) := by decide +kernel
theorem dX0_insert_46 : decode cX0_insert 46 = .ok (.aload_n 0, 1) := by decide +kernel
theorem dX0_insert_47 : decode cX0_insert 47 = .ok (.getfield 28, 3) := by decide +kernel
theorem dX0_insert_50 : decode cX0_insert 50 = .ok (.iload 6, 2) := by decide +kernel
theorem dX0_insert_52 : decode cX0_insert 52 = .ok (.lload_n 2, 1) := by decide +kernel
theorem dX0_insert_53 : decode cX0_insert 53 = .ok (.lastore, 1) := by decide +kernel
theorem dX0_insert_54 : decode cX0_insert 54 = .ok (.aload_n 0, 1) := by decide +kernel
theorem dX0_insert_55 : decode cX0_insert 55 = .ok (.getfield 31, 3) := by decide +kernel
theorem dX0_insert_58 : decode cX0_insert 58 = .ok (.iload 6, 2) := by decide +kernel
theorem dX0_insert_60 : decode cX0_insert 60 = .ok (.iload 4, 2) := by decide +kernel
theorem dX0_insert_62 : decode cX0_insert 62 = .ok (.iastore, 1) := by decide +kernel
theorem dX0_insert_63 : decode cX0_insert 63 = .ok (.aload_n 0, 1) := by decide +kernel
theorem dX0_insert_64 : decode cX0_insert 64 = .ok (.getfield 34, 3) := by decide +kernel
theorem dX0_insert_67 : decode cX0_insert 67 = .ok (.iload 6, 2) := by decide +kernel
theorem dX0_insert_69 : decode cX0_insert 69 = .ok (.iload_n 1, 1) := by decide +kernel
theorem dX0_insert_70 : decode cX0_insert 70 = .ok (.iastore, 1) := by decide +kernel
theorem dX0_insert_71 : decode cX0_insert 71 = .ok (.aload_n 0, 1) := by decide +kernel
theorem dX0_insert_72 : decode cX0_insert 72 = .ok (.dup, 1) := by decide +kernel
theorem dX0_insert_73 : decode cX0_insert 73 = .ok (.getfield 37, 3) := by decide +kernel
theorem dX0_insert_76 : decode cX0_insert 76 = .ok (.iconst 1, 1) := by decide +kernel
theorem dX0_insert_77 : decode cX0_insert 77 = .ok (.iadd, 1) := by decide +kernel
theorem dX0_insert_78 : decode cX0_insert 78 = .ok (.putfield 37, 3) := by decide +kernel
theorem dX0_insert_81 : decode cX0_insert 81 = .ok (.iload 6, 2) := by decide +kernel
theorem dX0_insert_83 : decode cX0_insert 83 = .ok (.ireturn, 1) := by decide +kernel
set_option maxRecDepth 20000 in
theorem ggX0_first_X0_refusalOfHeap : GoodIn wsX0_first wsX0_refusalOfHeap := goodIn_r _ [5, 6, 7, 8, 9, 4, 10, 11, 30, 31, 32, 33, 34, 35, 36, 37, 38] (by decide +kernel) (by decide +kernel)
set_option maxRecDepth 20000 in
theorem gX0_first_X0_refusalOfHeap : GoodIn wsX0_first (wsV RX0 42 RX0 yX0_refusalOfHeap wsX0_refusalOfHeap) := goodIn_app (goodIn_of _ (by decide +kernel)) ggX0_first_X0_refusalOfHeap
set_option maxRecDepth 20000 in
theorem ggX0_first_X0_findFirst : GoodIn wsX0_first wsX0_findFirst := goodIn_r _ [15, 16, 17, 18, 19, 20, 21, 4, 22, 23, 24, 25, 26, 27, 28, 29, 30, 31, 32, 33, 34, 35, 36, 37, 38] (by decide +kernel) (by decide +kernel)
set_option maxRecDepth 20000 in
theorem gX0_first_X0_findFirst : GoodIn wsX0_first (wsV RX0 50 RX0 yX0_findFirst wsX0_findFirst) := goodIn_app (goodIn_of _ (by decide +kernel)) ggX0_first_X0_findFirst
theorem dX0_first_0 : decode cX0_first 0 = .ok (.aload_n 0, 1) := by decide +kernel
theorem dX0_first_1 : decode cX0_first 1 = .ok (.iload_n 1, 1) := by decide +kernel
theorem dX0_first_2 : decode cX0_first 2 = .ok (.invokevirtual 42, 3) := by decide +kernel
theorem dX0_first_5 : decode cX0_first 5 = .ok (.istore_n 2, 1) := by decide +kernel
theorem dX0_first_6 : decode cX0_first 6 = .ok (.iload_n 2, 1) := by decide +kernel
theorem dX0_first_7 : decode cX0_first 7 = .ok (.ifCond .eq 7, 3) := by decide +kernel
theorem dX0_first_10 : decode cX0_first 10 = .ok (.iload_n 2, 1) := by decide +kernel
theorem dX0_first_11 : decode cX0_first 11 = .ok (.goto 8, 3) := by decide +kernel
theorem dX0_first_14 : decode cX0_first 14 = .ok (.aload_n 0, 1) := by decide +kernel
theorem dX0_first_15 : decode cX0_first 15 = .ok (.iload_n 1, 1) := by decide +kernel
theorem dX0_first_16 : decode cX0_first 16 = .ok (.invokevirtual 50, 3) := by decide +kernel
theorem dX0_first_19 : decode cX0_first 19 = .ok (.ireturn, 1) := by decide +kernel
set_option maxRecDepth 20000 in
theorem ggX0_last_X0_refusalOfLastOf : GoodIn wsX0_last wsX0_refusalOfLastOf := goodIn_r _ [5, 6, 7, 8, 9, 4, 10, 11, 12, 13, 14, 15, 16, 35, 36, 37, 38, 39, 40, 41, 42, 43] (by decide +kernel) (by decide +kernel)
set_option maxRecDepth 20000 in
theorem gX0_last_X0_refusalOfLastOf : GoodIn wsX0_last (wsV RX0 53 RX0 yX0_refusalOfLastOf wsX0_refusalOfLastOf) := goodIn_app (goodIn_of _ (by decide +kernel)) ggX0_last_X0_refusalOfLastOf
set_option maxRecDepth 20000 in
theorem ggX0_last_X0_findLast : GoodIn wsX0_last wsX0_findLast := goodIn_r _ [20, 21, 22, 23, 24, 25, 26, 4, 27, 28, 29, 30, 31, 32, 33, 34, 35, 36, 37, 38, 39, 40, 41, 42, 43] (by decide +kernel) (by decide +kernel)
set_option maxRecDepth 20000 in
theorem gX0_last_X0_findLast : GoodIn wsX0_last (wsV RX0 56 RX0 yX0_findLast wsX0_findLast) := goodIn_app (goodIn_of _ (by decide +kernel)) ggX0_last_X0_findLast
theorem dX0_last_0 : decode cX0_last 0 = .ok (.aload_n 0, 1) := by decide +kernel
theorem dX0_last_1 : decode cX0_last 1 = .ok (.iload_n 1, 1) := by decide +kernel
theorem dX0_last_2 : decode cX0_last 2 = .ok (.invokevirtual 53, 3) := by decide +kernel
theorem dX0_last_5 : decode cX0_last 5 = .ok (.istore_n 2, 1) := by decide +kernel
theorem dX0_last_6 : decode cX0_last 6 = .ok (.iload_n 2, 1) := by decide +kernel
theorem dX0_last_7 : decode cX0_last 7 = .ok (.ifCond .eq 7, 3) := by decide +kernel
theorem dX0_last_10 : decode cX0_last 10 = .ok (.iload_n 2, 1) := by decide +kernel
theorem dX0_last_11 : decode cX0_last 11 = .ok (.goto 8, 3) := by decide +kernel
theorem dX0_last_14 : decode cX0_last 14 = .ok (.aload_n 0, 1) := by decide +kernel
theorem dX0_last_15 : decode cX0_last 15 = .ok (.iload_n 1, 1) := by decide +kernel
theorem dX0_last_16 : decode cX0_last 16 = .ok (.invokevirtual 56, 3) := by decide +kernel
theorem dX0_last_19 : decode cX0_last 19 = .ok (.ireturn, 1) := by decide +kernel
set_option maxRecDepth 20000 in
theorem ggX0_take_X0_first : GoodIn wsX0_take wsX0_first := goodIn_r _ [7, 8, 9, 10, 6, 11, 12, 13, 14, 15, 16, 17, 18, 19, 20, 21, 22, 2, 23, 24, 25, 26, 27, 1, 28, 29, 30, 31, 32, 33, 40, 41, 42, 43, 44, 45, 46, 47, 48] (by decide +kernel) (by decide +kernel)
set_option maxRecDepth 20000 in
theorem gX0_take_X0_first : GoodIn wsX0_take (wsV RX0 59 RX0 yX0_first wsX0_first) := goodIn_app (goodIn_of _ (by decide +kernel)) ggX0_take_X0_first
set_option maxRecDepth 20000 in
theorem ggX0_take_X0_raiseFloor : GoodIn wsX0_take wsX0_raiseFloor := goodIn_r _ [37, 38, 39, 23, 28, 29, 6, 30, 31, 32, 33, 40, 41, 42, 43, 44, 45, 46, 47, 48] (by decide +kernel) (by decide +kernel)
set_option maxRecDepth 20000 in
theorem gX0_take_X0_raiseFloor : GoodIn wsX0_take (wsV RX0 62 RX0 yX0_raiseFloor wsX0_raiseFloor) := goodIn_app (goodIn_of _ (by decide +kernel)) ggX0_take_X0_raiseFloor
theorem dX0_take_0 : decode cX0_take 0 = .ok (.aload_n 0, 1) := by decide +kernel
theorem dX0_take_1 : decode cX0_take 1 = .ok (.iload_n 1, 1) := by decide +kernel
theorem dX0_take_2 : decode cX0_take 2 = .ok (.invokevirtual 59, 3) := by decide +kernel
theorem dX0_take_5 : decode cX0_take 5 = .ok (.istore_n 2, 1) := by decide +kernel
theorem dX0_take_6 : decode cX0_take 6 = .ok (.iload_n 2, 1) := by decide +kernel
theorem dX0_take_7 : decode cX0_take 7 = .ok (.ifCond .lt 22, 3) := by decide +kernel
theorem dX0_take_10 : decode cX0_take 10 = .ok (.aload_n 0, 1) := by decide +kernel
theorem dX0_take_11 : decode cX0_take 11 = .ok (.iload_n 1, 1) := by decide +kernel
theorem dX0_take_12 : decode cX0_take 12 = .ok (.aload_n 0, 1) := by decide +kernel
theorem dX0_take_13 : decode cX0_take 13 = .ok (.getfield 28, 3) := by decide +kernel
theorem dX0_take_16 : decode cX0_take 16 = .ok (.iload_n 2, 1) := by decide +kernel
theorem dX0_take_17 : decode cX0_take 17 = .ok (.laload, 1) := by decide +kernel
theorem dX0_take_18 : decode cX0_take 18 = .ok (.invokevirtual 62, 3) := by decide +kernel
theorem dX0_take_21 : decode cX0_take 21 = .ok (.aload_n 0, 1) := by decide +kernel
theorem dX0_take_22 : decode cX0_take 22 = .ok (.getfield 34, 3) := by decide +kernel
theorem dX0_take_25 : decode cX0_take 25 = .ok (.iload_n 2, 1) := by decide +kernel
theorem dX0_take_26 : decode cX0_take 26 = .ok (.bipush (-4), 2) := by decide +kernel
theorem dX0_take_28 : decode cX0_take 28 = .ok (.iastore, 1) := by decide +kernel
theorem dX0_take_29 : decode cX0_take 29 = .ok (.iload_n 2, 1) := by decide +kernel
theorem dX0_take_30 : decode cX0_take 30 = .ok (.ireturn, 1) := by decide +kernel
set_option maxRecDepth 20000 in
theorem ggX0_takeLast_X0_last : GoodIn wsX0_takeLast wsX0_last := goodIn_r _ [6, 7, 8, 9, 5, 10, 11, 12, 13, 14, 15, 16, 17, 18, 19, 20, 21, 22, 23, 24, 25, 26, 1, 27, 28, 29, 30, 31, 32, 33, 34, 35, 36, 37, 38, 39, 40, 41, 42, 43, 44, 45, 46, 47] (by decide +kernel) (by decide +kernel)
set_option maxRecDepth 20000 in
theorem gX0_takeLast_X0_last : GoodIn wsX0_takeLast (wsV RX0 66 RX0 yX0_last wsX0_last) := goodIn_app (goodIn_of _ (by decide +kernel)) ggX0_takeLast_X0_last
theorem dX0_takeLast_0 : decode cX0_takeLast 0 = .ok (.aload_n 0, 1) := by decide +kernel
theorem dX0_takeLast_1 : decode cX0_takeLast 1 = .ok (.iload_n 1, 1) := by decide +kernel
theorem dX0_takeLast_2 : decode cX0_takeLast 2 = .ok (.invokevirtual 66, 3) := by decide +kernel
theorem dX0_takeLast_5 : decode cX0_takeLast 5 = .ok (.istore_n 2, 1) := by decide +kernel
theorem dX0_takeLast_6 : decode cX0_takeLast 6 = .ok (.iload_n 2, 1) := by decide +kernel
theorem dX0_takeLast_7 : decode cX0_takeLast 7 = .ok (.ifCond .lt 11, 3) := by decide +kernel
theorem dX0_takeLast_10 : decode cX0_takeLast 10 = .ok (.aload_n 0, 1) := by decide +kernel
theorem dX0_takeLast_11 : decode cX0_takeLast 11 = .ok (.getfield 34, 3) := by decide +kernel
theorem dX0_takeLast_14 : decode cX0_takeLast 14 = .ok (.iload_n 2, 1) := by decide +kernel
theorem dX0_takeLast_15 : decode cX0_takeLast 15 = .ok (.bipush (-4), 2) := by decide +kernel
theorem dX0_takeLast_17 : decode cX0_takeLast 17 = .ok (.iastore, 1) := by decide +kernel
theorem dX0_takeLast_18 : decode cX0_takeLast 18 = .ok (.iload_n 2, 1) := by decide +kernel
theorem dX0_takeLast_19 : decode cX0_takeLast 19 = .ok (.ireturn, 1) := by decide +kernel
set_option maxRecDepth 20000 in
theorem ggX0_decrease_X0_refusalOfEntry : GoodIn wsX0_decrease wsX0_refusalOfEntry := goodIn_r _ [8, 1, 9, 10, 11, 7, 12, 13, 33, 34, 35, 36, 37, 38, 39, 40, 41] (by decide +kernel) (by decide +kernel)
set_option maxRecDepth 20000 in
theorem gX0_decrease_X0_refusalOfEntry : GoodIn wsX0_decrease (wsV RX0 69 RX0 yX0_refusalOfEntry wsX0_refusalOfEntry) := goodIn_app (goodIn_of _ (by decide +kernel)) ggX0_decrease_X0_refusalOfEntry
set_option maxRecDepth 20000 in
theorem ggX0_decrease_X0_weight : GoodIn wsX0_decrease wsX0_weight := goodIn_r _ [16, 17, 18, 19] (by decide +kernel) (by decide +kernel)
set_option maxRecDepth 20000 in
theorem gX0_decrease_X0_weight : GoodIn wsX0_decrease (va_wsS RX0 72 yX0_weight wsX0_weight) := goodIn_app (goodIn_of _ (by decide +kernel)) ggX0_decrease_X0_weight
set_option maxRecDepth 20000 in
theorem ggX0_decrease_X0_isBelowFloor : GoodIn wsX0_decrease wsX0_isBelowFloor := goodIn_r _ [23, 2, 24, 14, 15, 7, 16, 17, 18, 19, 33, 34, 35, 36, 37, 38, 39, 40, 41] (by decide +kernel) (by decide +kernel)
set_option maxRecDepth 20000 in
theorem gX0_decrease_X0_isBelowFloor : GoodIn wsX0_decrease (wsV RX0 46 RX0 yX0_isBelowFloor wsX0_isBelowFloor) := goodIn_app (goodIn_of _ (by decide +kernel)) ggX0_decrease_X0_isBelowFloor
set_option maxRecDepth 20000 in
theorem ggX0_decrease_X0_findFirst : GoodIn wsX0_decrease wsX0_findFirst := goodIn_r _ [28, 13, 1, 2, 29, 30, 31, 7, 32, 3, 14, 15, 16, 17, 18, 19, 33, 34, 35, 36, 37, 38, 39, 40, 41] (by decide +kernel) (by decide +kernel)
set_option maxRecDepth 20000 in
theorem gX0_decrease_X0_findFirst : GoodIn wsX0_decrease (wsV RX0 50 RX0 yX0_findFirst wsX0_findFirst) := goodIn_app (goodIn_of _ (by decide +kernel)) ggX0_decrease_X0_findFirst
theorem dX0_decrease_0 : decode cX0_decrease 0 = .ok (.aload_n 0, 1) := by decide +kernel
theorem dX0_decrease_1 : decode cX0_decrease 1 = .ok (.iload_n 1, 1) := by decide +kernel
theorem dX0_decrease_2 : decode cX0_decrease 2 = .ok (.invokevirtual 69, 3) := by decide +kernel
theorem dX0_decrease_5 : decode cX0_decrease 5 = .ok (.istore 4, 2) := by decide +kernel
theorem dX0_decrease_7 : decode cX0_decrease 7 = .ok (.iload 4, 2) := by decide +kernel
theorem dX0_decrease_9 : decode cX0_decrease 9 = .ok (.ifCond .eq 6, 3) := by decide +kernel
theorem dX0_decrease_12 : decode cX0_decrease 12 = .ok (.iload 4, 2) := by decide +kernel
theorem dX0_decrease_14 : decode cX0_decrease 14 = .ok (.ireturn, 1) := by decide +kernel
theorem dX0_decrease_15 : decode cX0_decrease 15 = .ok (.aload_n 0, 1) := by decide +kernel
theorem dX0_decrease_16 : decode cX0_decrease 16 = .ok (.getfield 34, 3) := by decide +kernel
theorem dX0_decrease_19 : decode cX0_decrease 19 = .ok (.iload_n 1, 1) := by decide +kernel
theorem dX0_decrease_20 : decode cX0_decrease 20 = .ok (.iaload, 1) := by decide +kernel
theorem dX0_decrease_21 : decode cX0_decrease 21 = .ok (.istore 5, 2) := by decide +kernel
theorem dX0_decrease_23 : decode cX0_decrease 23 = .ok (.aload_n 0, 1) := by decide +kernel
theorem dX0_decrease_24 : decode cX0_decrease 24 = .ok (.getfield 13, 3) := by decide +kernel
theorem dX0_decrease_27 : decode cX0_decrease 27 = .ok (.iload 5, 2) := by decide +kernel
theorem dX0_decrease_29 : decode cX0_decrease 29 = .ok (.iaload, 1) := by decide +kernel
theorem dX0_decrease_30 : decode cX0_decrease 30 = .ok (.lload_n 2, 1) := by decide +kernel
theorem dX0_decrease_31 : decode cX0_decrease 31 = .ok (.invokestatic 72, 3) := by decide +kernel
theorem dX0_decrease_34 : decode cX0_decrease 34 = .ok (.aload_n 0, 1) := by decide +kernel
theorem dX0_decrease_35 : decode cX0_decrease 35 = .ok (.getfield 13, 3) := by decide +kernel
theorem dX0_decrease_38 : decode cX0_decrease 38 = .ok (.iload 5, 2) := by decide +kernel
theorem dX0_decrease_40 : decode cX0_decrease 40 = .ok (.iaload, 1) := by decide +kernel
theorem dX0_decrease_41 : decode cX0_decrease 41 = .ok (.aload_n 0, 1) := by decide +kernel
theorem dX0_decrease_42 : decode cX0_decrease 42 = .ok (.getfield 28, 3) := by decide +kernel
theorem dX0_decrease_45 : decode cX0_decrease 45 = .ok (.iload_n 1, 1) := by decide +kernel
theorem dX0_decrease_46 : decode cX0_decrease 46 = .ok (.laload, 1) := by decide +kernel
theorem dX0_decrease_47 : decode cX0_decrease 47 = .ok (.invokestatic 72, 3) := by decide +kernel
theorem dX0_decrease_50 : decode cX0_decrease 50 = .ok (.lcmp, 1) := by decide +kernel
theorem dX0_decrease_51 : decode cX0_decrease 51 = .ok (.ifCond .le 6, 3) := by decide +kernel
theorem dX0_decrease_54 : decode cX0_decrease 54 = .ok (.bipush (-5), 2) := by decide +kernel
theorem dX0_decrease_56 : decode cX0_decrease 56 = .ok (.ireturn, 1) := by decide +kernel
theorem dX0_decrease_57 : decode cX0_decrease 57 = .ok (.aload_n 0, 1) := by decide +kernel
theorem dX0_decrease_58 : decode cX0_decrease 58 = .ok (.iload 5, 2) := by decide +kernel
theorem dX0_decrease_60 : decode cX0_decrease 60 = .ok (.lload_n 2, 1) := by decide +kernel
theorem dX0_decrease_61 : decode cX0_decrease 61 = .ok (.invokevirtual 46, 3) := by decide +kernel
theorem dX0_decrease_64 : decode cX0_decrease 64 = .ok (.ifCond .eq 6, 3) := by decide +kernel
theorem dX0_decrease_67 : decode cX0_decrease 67 = .ok (.bipush (-6), 2) := by decide +kernel
theorem dX0_decrease_69 : decode cX0_decrease 69 = .ok (.ireturn, 1) := by decide +kernel
theorem dX0_decrease_70 : decode cX0_decrease 70 = .ok (.aload_n 0, 1) := by decide +kernel
theorem dX0_decrease_71 : decode cX0_decrease 71 = .ok (.getfield 28, 3) := by decide +kernel
theorem dX0_decrease_74 : decode cX0_decrease 74 = .ok (.iload_n 1, 1) := by decide +kernel
theorem dX0_decrease_75 : decode cX0_decrease 75 = .ok (.lload_n 2, 1) := by decide +kernel
theorem dX0_decrease_76 : decode cX0_decrease 76 = .ok (.lastore, 1) := by decide +kernel
theorem dX0_decrease_77 : decode cX0_decrease 77 = .ok (.aload_n 0, 1) := by decide +kernel
theorem dX0_decrease_78 : decode cX0_decrease 78 = .ok (.iload 5, 2) := by decide +kernel
theorem dX0_decrease_80 : decode cX0_decrease 80 = .ok (.invokevirtual 50, 3) := by decide +kernel
theorem dX0_decrease_83 : decode cX0_decrease 83 = .ok (.iload_n 1, 1) := by decide +kernel
theorem dX0_decrease_84 : decode cX0_decrease 84 = .ok (.if_icmp .ne 7, 3) := by decide +kernel
theorem dX0_decrease_87 : decode cX0_decrease 87 = .ok (.iconst 1, 1) := by decide +kernel
theorem dX0_decrease_88 : decode cX0_decrease 88 = .ok (.goto 4, 3) := by decide +kernel
theorem dX0_decrease_91 : decode cX0_decrease 91 = .ok (.iconst 0, 1) := by decide +kernel
theorem dX0_decrease_92 : decode cX0_decrease 92 = .ok (.ireturn, 1) := by decide +kernel
set_option maxRecDepth 20000 in
theorem ggX0_delete_X0_owner : GoodIn wsX0_delete wsX0_owner := goodIn_r _ [6, 1, 7, 8, 9, 5, 10, 11, 12, 13, 14, 15, 16, 17, 18, 19, 20, 21, 22, 23, 24] (by decide +kernel) (by decide +kernel)
set_option maxRecDepth 20000 in
theorem gX0_delete_X0_owner : GoodIn wsX0_delete (wsV RX0 76 RX0 yX0_owner wsX0_owner) := goodIn_app (goodIn_of _ (by decide +kernel)) ggX0_delete_X0_owner
theorem dX0_delete_0 : decode cX0_delete 0 = .ok (.aload_n 0, 1) := by decide +kernel
theorem dX0_delete_1 : decode cX0_delete 1 = .ok (.iload_n 1, 1) := by decide +kernel
theorem dX0_delete_2 : decode cX0_delete 2 = .ok (.invokevirtual 76, 3) := by decide +kernel
theorem dX0_delete_5 : decode cX0_delete 5 = .ok (.istore_n 2, 1) := by decide +kernel
theorem dX0_delete_6 : decode cX0_delete 6 = .ok (.iload_n 2, 1) := by decide +kernel
theorem dX0_delete_7 : decode cX0_delete 7 = .ok (.ifCond .lt 11, 3) := by decide +kernel
theorem dX0_delete_10 : decode cX0_delete 10 = .ok (.aload_n 0, 1) := by decide +kernel
theorem dX0_delete_11 : decode cX0_delete 11 = .ok (.getfield 34, 3) := by decide +kernel
theorem dX0_delete_14 : decode cX0_delete 14 = .ok (.iload_n 1, 1) := by decide +kernel
theorem dX0_delete_15 : decode cX0_delete 15 = .ok (.bipush (-4), 2) := by decide +kernel
theorem dX0_delete_17 : decode cX0_delete 17 = .ok (.iastore, 1) := by decide +kernel
theorem dX0_delete_18 : decode cX0_delete 18 = .ok (.iload_n 2, 1) := by decide +kernel
theorem dX0_delete_19 : decode cX0_delete 19 = .ok (.ireturn, 1) := by decide +kernel
set_option maxRecDepth 20000 in
theorem ggX0_meld_X0_refusalOfPair : GoodIn wsX0_meld wsX0_refusalOfPair := goodIn_r _ [8, 9, 10, 11, 7, 12, 3, 13, 14, 15, 16, 17, 28, 29, 30, 31, 32, 33, 34, 35, 36] (by decide +kernel) (by decide +kernel)
set_option maxRecDepth 20000 in
theorem gX0_meld_X0_refusalOfPair : GoodIn wsX0_meld (wsV RX0 79 RX0 yX0_refusalOfPair wsX0_refusalOfPair) := goodIn_app (goodIn_of _ (by decide +kernel)) ggX0_meld_X0_refusalOfPair
set_option maxRecDepth 20000 in
theorem ggX0_meld_X0_handOverAll : GoodIn wsX0_meld wsX0_handOverAll := goodIn_r _ [21, 22, 23, 28, 29, 30, 31, 32, 33, 34, 35, 36] (by decide +kernel) (by decide +kernel)
set_option maxRecDepth 20000 in
theorem gX0_meld_X0_handOverAll : GoodIn wsX0_meld (wsV RX0 83 RX0 yX0_handOverAll wsX0_handOverAll) := goodIn_app (goodIn_of _ (by decide +kernel)) ggX0_meld_X0_handOverAll
set_option maxRecDepth 20000 in
theorem ggX0_meld_X0_countEntries : GoodIn wsX0_meld wsX0_countEntries := goodIn_r _ [27, 22, 23, 28, 29, 30, 31, 32, 33, 34, 35, 36] (by decide +kernel) (by decide +kernel)
set_option maxRecDepth 20000 in
theorem gX0_meld_X0_countEntries : GoodIn wsX0_meld (wsV RX0 86 RX0 yX0_countEntries wsX0_countEntries) := goodIn_app (goodIn_of _ (by decide +kernel)) ggX0_meld_X0_countEntries
theorem dX0_meld_0 : decode cX0_meld 0 = .ok (.aload_n 0, 1) := by decide +kernel
theorem dX0_meld_1 : decode cX0_meld 1 = .ok (.iload_n 1, 1) := by decide +kernel
theorem dX0_meld_2 : decode cX0_meld 2 = .ok (.iload_n 2, 1) := by decide +kernel
theorem dX0_meld_3 : decode cX0_meld 3 = .ok (.invokevirtual 79, 3) := by decide +kernel
theorem dX0_meld_6 : decode cX0_meld 6 = .ok (.istore_n 3, 1) := by decide +kernel
theorem dX0_meld_7 : decode cX0_meld 7 = .ok (.iload_n 3, 1) := by decide +kernel
theorem dX0_meld_8 : decode cX0_meld 8 = .ok (.ifCond .eq 5, 3) := by decide +kernel
theorem dX0_meld_11 : decode cX0_meld 11 = .ok (.iload_n 3, 1) := by decide +kernel
theorem dX0_meld_12 : decode cX0_meld 12 = .ok (.ireturn, 1) := by decide +kernel
theorem dX0_meld_13 : decode cX0_meld 13 = .ok (.aload_n 0, 1) := by decide +kernel
theorem dX0_meld_14 : decode cX0_meld 14 = .ok (.getfield 9, 3) := by decide +kernel
theorem dX0_meld_17 : decode cX0_meld 17 = .ok (.iload_n 1, 1) := by decide +kernel
theorem dX0_meld_18 : decode cX0_meld 18 = .ok (.iaload, 1) := by decide +kernel
theorem dX0_meld_19 : decode cX0_meld 19 = .ok (.ifCond .ne 27, 3) := by decide +kernel
theorem dX0_meld_22 : decode cX0_meld 22 = .ok (.aload_n 0, 1) := by decide +kernel
theorem dX0_meld_23 : decode cX0_meld 23 = .ok (.getfield 9, 3) := by decide +kernel
theorem dX0_meld_26 : decode cX0_meld 26 = .ok (.iload_n 2, 1) := by decide +kernel
theorem dX0_meld_27 : decode cX0_meld 27 = .ok (.iaload, 1) := by decide +kernel
theorem dX0_meld_28 : decode cX0_meld 28 = .ok (.ifCond .ne 18, 3) := by decide +kernel
theorem dX0_meld_31 : decode cX0_meld 31 = .ok (.aload_n 0, 1) := by decide +kernel
theorem dX0_meld_32 : decode cX0_meld 32 = .ok (.getfield 13, 3) := by decide +kernel
theorem dX0_meld_35 : decode cX0_meld 35 = .ok (.iload_n 1, 1) := by decide +kernel
theorem dX0_meld_36 : decode cX0_meld 36 = .ok (.iaload, 1) := by decide +kernel
theorem dX0_meld_37 : decode cX0_meld 37 = .ok (.aload_n 0, 1) := by decide +kernel
theorem dX0_meld_38 : decode cX0_meld 38 = .ok (.getfield 13, 3) := by decide +kernel
theorem dX0_meld_41 : decode cX0_meld 41 = .ok (.iload_n 2, 1) := by decide +kernel
theorem dX0_meld_42 : decode cX0_meld 42 = .ok (.iaload, 1) := by decide +kernel
theorem dX0_meld_43 : decode cX0_meld 43 = .ok (.if_icmp .eq 6, 3) := by decide +kernel
theorem dX0_meld_46 : decode cX0_meld 46 = .ok (.bipush (-7), 2) := by decide +kernel
theorem dX0_meld_48 : decode cX0_meld 48 = .ok (.ireturn, 1) := by decide +kernel
theorem dX0_meld_49 : decode cX0_meld 49 = .ok (.aload_n 0, 1) := by decide +kernel
theorem dX0_meld_50 : decode cX0_meld 50 = .ok (.iload_n 2, 1) := by decide +kernel
theorem dX0_meld_51 : decode cX0_meld 51 = .ok (.iload_n 1, 1) := by decide +kernel
theorem dX0_meld_52 : decode cX0_meld 52 = .ok (.invokevirtual 83, 3) := by decide +kernel
theorem dX0_meld_55 : decode cX0_meld 55 = .ok (.pop, 1) := by decide +kernel
theorem dX0_meld_56 : decode cX0_meld 56 = .ok (.aload_n 0, 1) := by decide +kernel
theorem dX0_meld_57 : decode cX0_meld 57 = .ok (.getfield 16, 3) := by decide +kernel
theorem dX0_meld_60 : decode cX0_meld 60 = .ok (.iload_n 2, 1) := by decide +kernel
theorem dX0_meld_61 : decode cX0_meld 61 = .ok (.iconst 1, 1) := by decide +kernel
theorem dX0_meld_62 : decode cX0_meld 62 = .ok (.bastore, 1) := by decide +kernel
theorem dX0_meld_63 : decode cX0_meld 63 = .ok (.aload_n 0, 1) := by decide +kernel
theorem dX0_meld_64 : decode cX0_meld 64 = .ok (.iload_n 1, 1) := by decide +kernel
theorem dX0_meld_65 : decode cX0_meld 65 = .ok (.invokevirtual 86, 3) := by decide +kernel
theorem dX0_meld_68 : decode cX0_meld 68 = .ok (.ireturn, 1) := by decide +kernel
set_option maxRecDepth 20000 in
theorem ggX0_drain_X0_refusalOfPair : GoodIn wsX0_drain wsX0_refusalOfPair := goodIn_r _ [11, 12, 13, 14, 10, 15, 16, 17, 18, 19, 20, 21, 52, 53, 54, 55, 56, 57, 58, 59, 60] (by decide +kernel) (by decide +kernel)
set_option maxRecDepth 20000 in
theorem gX0_drain_X0_refusalOfPair : GoodIn wsX0_drain (wsV RX0 79 RX0 yX0_refusalOfPair wsX0_refusalOfPair) := goodIn_app (goodIn_of _ (by decide +kernel)) ggX0_drain_X0_refusalOfPair
set_option maxRecDepth 20000 in
theorem ggX0_drain_X0_countEntries : GoodIn wsX0_drain wsX0_countEntries := goodIn_r _ [25, 26, 6, 52, 53, 54, 55, 56, 57, 58, 59, 60] (by decide +kernel) (by decide +kernel)
set_option maxRecDepth 20000 in
theorem gX0_drain_X0_countEntries : GoodIn wsX0_drain (wsV RX0 86 RX0 yX0_countEntries wsX0_countEntries) := goodIn_app (goodIn_of _ (by decide +kernel)) ggX0_drain_X0_countEntries
set_option maxRecDepth 20000 in
theorem ggX0_drain_X0_findFirst : GoodIn wsX0_drain wsX0_findFirst := goodIn_r _ [30, 26, 6, 31, 32, 33, 34, 10, 35, 5, 36, 37, 38, 39, 40, 41, 52, 53, 54, 55, 56, 57, 58, 59, 60] (by decide +kernel) (by decide +kernel)
set_option maxRecDepth 20000 in
theorem gX0_drain_X0_findFirst : GoodIn wsX0_drain (wsV RX0 50 RX0 yX0_findFirst wsX0_findFirst) := goodIn_app (goodIn_of _ (by decide +kernel)) ggX0_drain_X0_findFirst
set_option maxRecDepth 20000 in
theorem ggX0_drain_X0_isBelowFloor : GoodIn wsX0_drain wsX0_isBelowFloor := goodIn_r _ [45, 31, 46, 36, 37, 10, 38, 39, 40, 41, 52, 53, 54, 55, 56, 57, 58, 59, 60] (by decide +kernel) (by decide +kernel)
set_option maxRecDepth 20000 in
theorem gX0_drain_X0_isBelowFloor : GoodIn wsX0_drain (wsV RX0 46 RX0 yX0_isBelowFloor wsX0_isBelowFloor) := goodIn_app (goodIn_of _ (by decide +kernel)) ggX0_drain_X0_isBelowFloor
set_option maxRecDepth 20000 in
theorem ggX0_drain_X0_raiseFloor : GoodIn wsX0_drain wsX0_raiseFloor := goodIn_r _ [50, 51, 46, 31, 36, 37, 10, 38, 39, 40, 41, 52, 53, 54, 55, 56, 57, 58, 59, 60] (by decide +kernel) (by decide +kernel)
set_option maxRecDepth 20000 in
theorem gX0_drain_X0_raiseFloor : GoodIn wsX0_drain (wsV RX0 62 RX0 yX0_raiseFloor wsX0_raiseFloor) := goodIn_app (goodIn_of _ (by decide +kernel)) ggX0_drain_X0_raiseFloor
theorem dX0_drain_0 : decode cX0_drain 0 = .ok (.aload_n 0, 1) := by decide +kernel
theorem dX0_drain_1 : decode cX0_drain 1 = .ok (.iload_n 1, 1) := by decide +kernel
theorem dX0_drain_2 : decode cX0_drain 2 = .ok (.iload_n 2, 1) := by decide +kernel
theorem dX0_drain_3 : decode cX0_drain 3 = .ok (.invokevirtual 79, 3) := by decide +kernel
theorem dX0_drain_6 : decode cX0_drain 6 = .ok (.istore 4, 2) := by decide +kernel
theorem dX0_drain_8 : decode cX0_drain 8 = .ok (.iload 4, 2) := by decide +kernel
theorem dX0_drain_10 : decode cX0_drain 10 = .ok (.ifCond .eq 6, 3) := by decide +kernel
theorem dX0_drain_13 : decode cX0_drain 13 = .ok (.iload 4, 2) := by decide +kernel
theorem dX0_drain_15 : decode cX0_drain 15 = .ok (.ireturn, 1) := by decide +kernel
theorem dX0_drain_16 : decode cX0_drain 16 = .ok (.iload_n 3, 1) := by decide +kernel
theorem dX0_drain_17 : decode cX0_drain 17 = .ok (.aload_n 0, 1) := by decide +kernel
theorem dX0_drain_18 : decode cX0_drain 18 = .ok (.iload_n 1, 1) := by decide +kernel
theorem dX0_drain_19 : decode cX0_drain 19 = .ok (.invokevirtual 86, 3) := by decide +kernel
theorem dX0_drain_22 : decode cX0_drain 22 = .ok (.invokestatic 89, 3) := by decide +kernel
theorem dX0_drain_25 : decode cX0_drain 25 = .ok (.istore 5, 2) := by decide +kernel
theorem dX0_drain_27 : decode cX0_drain 27 = .ok (.iconst 0, 1) := by decide +kernel
theorem dX0_drain_28 : decode cX0_drain 28 = .ok (.istore 6, 2) := by decide +kernel
theorem dX0_drain_30 : decode cX0_drain 30 = .ok (.iload 6, 2) := by decide +kernel
theorem dX0_drain_32 : decode cX0_drain 32 = .ok (.iload 5, 2) := by decide +kernel
theorem dX0_drain_34 : decode cX0_drain 34 = .ok (.if_icmp .ge 59, 3) := by decide +kernel
theorem dX0_drain_37 : decode cX0_drain 37 = .ok (.aload_n 0, 1) := by decide +kernel
theorem dX0_drain_38 : decode cX0_drain 38 = .ok (.iload_n 1, 1) := by decide +kernel
theorem dX0_drain_39 : decode cX0_drain 39 = .ok (.invokevirtual 50, 3) := by decide +kernel
theorem dX0_drain_42 : decode cX0_drain 42 = .ok (.istore 7, 2) := by decide +kernel
theorem dX0_drain_44 : decode cX0_drain 44 = .ok (.iload 7, 2) := by decide +kernel
theorem dX0_drain_46 : decode cX0_drain 46 = .ok (.ifCond .lt 47, 3) := by decide +kernel
theorem dX0_drain_49 : decode cX0_drain 49 = .ok (.aload_n 0, 1) := by decide +kernel
theorem dX0_drain_50 : decode cX0_drain 50 = .ok (.iload_n 2, 1) := by decide +kernel
theorem dX0_drain_51 : decode cX0_drain 51 = .ok (.aload_n 0, 1) := by decide +kernel
theorem dX0_drain_52 : decode cX0_drain 52 = .ok (.getfield 28, 3) := by decide +kernel
theorem dX0_drain_55 : decode cX0_drain 55 = .ok (.iload 7, 2) := by decide +kernel
theorem dX0_drain_57 : decode cX0_drain 57 = .ok (.laload, 1) := by decide +kernel
theorem dX0_drain_58 : decode cX0_drain 58 = .ok (.invokevirtual 46, 3) := by decide +kernel
theorem dX0_drain_61 : decode cX0_drain 61 = .ok (.ifCond .eq 6, 3) := by decide +kernel
theorem dX0_drain_64 : decode cX0_drain 64 = .ok (.goto 29, 3) := by decide +kernel
theorem dX0_drain_67 : decode cX0_drain 67 = .ok (.aload_n 0, 1) := by decide +kernel
theorem dX0_drain_68 : decode cX0_drain 68 = .ok (.iload_n 1, 1) := by decide +kernel
theorem dX0_drain_69 : decode cX0_drain 69 = .ok (.aload_n 0, 1) := by decide +kernel
theorem dX0_drain_70 : decode cX0_drain 70 = .ok (.getfield 28, 3) := by decide +kernel
theorem dX0_drain_73 : decode cX0_drain 73 = .ok (.iload 7, 2) := by decide +kernel
theorem dX0_drain_75 : decode cX0_drain 75 = .ok (.laload, 1) := by decide +kernel
theorem dX0_drain_76 : decode cX0_drain 76 = .ok (.invokevirtual 62, 3) := by decide +kernel
theorem dX0_drain_79 : decode cX0_drain 79 = .ok (.aload_n 0, 1) := by decide +kernel
theorem dX0_drain_80 : decode cX0_drain 80 = .ok (.getfield 34, 3) := by decide +kernel
theorem dX0_drain_83 : decode cX0_drain 83 = .ok (.iload 7, 2) := by decide +kernel
theorem dX0_drain_85 : decode cX0_drain 85 = .ok (.iload_n 2, 1) := by decide +kernel
theorem dX0_drain_86 : decode cX0_drain 86 = .ok (.iastore, 1) := by decide +kernel
theorem dX0_drain_87 : decode cX0_drain 87 = .ok (.iinc 6 1, 3) := by decide +kernel
theorem dX0_drain_90 : decode cX0_drain 90 = .ok (.goto (-60), 3) := by decide +kernel
theorem dX0_drain_93 : decode cX0_drain 93 = .ok (.iload 6, 2) := by decide +kernel
theorem dX0_drain_95 : decode cX0_drain 95 = .ok (.ireturn, 1) := by decide +kernel
set_option maxRecDepth 20000 in
theorem ggX0_clear_X0_refusalOfHeap : GoodIn wsX0_clear wsX0_refusalOfHeap := goodIn_r _ [7, 8, 9, 10, 11, 6, 12, 13, 20, 21, 22, 23, 24, 25, 26, 27, 28] (by decide +kernel) (by decide +kernel)
set_option maxRecDepth 20000 in
theorem gX0_clear_X0_refusalOfHeap : GoodIn wsX0_clear (wsV RX0 42 RX0 yX0_refusalOfHeap wsX0_refusalOfHeap) := goodIn_app (goodIn_of _ (by decide +kernel)) ggX0_clear_X0_refusalOfHeap
set_option maxRecDepth 20000 in
theorem ggX0_clear_X0_handOverAll : GoodIn wsX0_clear wsX0_handOverAll := goodIn_r _ [17, 18, 19, 20, 21, 22, 23, 24, 25, 26, 27, 28] (by decide +kernel) (by decide +kernel)
set_option maxRecDepth 20000 in
theorem gX0_clear_X0_handOverAll : GoodIn wsX0_clear (wsV RX0 83 RX0 yX0_handOverAll wsX0_handOverAll) := goodIn_app (goodIn_of _ (by decide +kernel)) ggX0_clear_X0_handOverAll
theorem dX0_clear_0 : decode cX0_clear 0 = .ok (.aload_n 0, 1) := by decide +kernel
theorem dX0_clear_1 : decode cX0_clear 1 = .ok (.iload_n 1, 1) := by decide +kernel
theorem dX0_clear_2 : decode cX0_clear 2 = .ok (.invokevirtual 42, 3) := by decide +kernel
theorem dX0_clear_5 : decode cX0_clear 5 = .ok (.istore_n 2, 1) := by decide +kernel
theorem dX0_clear_6 : decode cX0_clear 6 = .ok (.iload_n 2, 1) := by decide +kernel
theorem dX0_clear_7 : decode cX0_clear 7 = .ok (.ifCond .eq 5, 3) := by decide +kernel
theorem dX0_clear_10 : decode cX0_clear 10 = .ok (.iload_n 2, 1) := by decide +kernel
theorem dX0_clear_11 : decode cX0_clear 11 = .ok (.ireturn, 1) := by decide +kernel
theorem dX0_clear_12 : decode cX0_clear 12 = .ok (.aload_n 0, 1) := by decide +kernel
theorem dX0_clear_13 : decode cX0_clear 13 = .ok (.getfield 20, 3) := by decide +kernel
theorem dX0_clear_16 : decode cX0_clear 16 = .ok (.iload_n 1, 1) := by decide +kernel
theorem dX0_clear_17 : decode cX0_clear 17 = .ok (.ldc2_w 40, 3) := by decide +kernel
theorem dX0_clear_20 : decode cX0_clear 20 = .ok (.lastore, 1) := by decide +kernel
theorem dX0_clear_21 : decode cX0_clear 21 = .ok (.aload_n 0, 1) := by decide +kernel
theorem dX0_clear_22 : decode cX0_clear 22 = .ok (.iload_n 1, 1) := by decide +kernel
theorem dX0_clear_23 : decode cX0_clear 23 = .ok (.bipush (-4), 2) := by decide +kernel
theorem dX0_clear_25 : decode cX0_clear 25 = .ok (.invokevirtual 83, 3) := by decide +kernel
theorem dX0_clear_28 : decode cX0_clear 28 = .ok (.ireturn, 1) := by decide +kernel
set_option maxRecDepth 20000 in
theorem ggX0_size_X0_refusalOfHeap : GoodIn wsX0_size wsX0_refusalOfHeap := goodIn_r _ [5, 6, 7, 8, 9, 4, 10, 11, 18, 19, 20, 21, 22, 23, 24, 25, 26] (by decide +kernel) (by decide +kernel)
set_option maxRecDepth 20000 in
theorem gX0_size_X0_refusalOfHeap : GoodIn wsX0_size (wsV RX0 42 RX0 yX0_refusalOfHeap wsX0_refusalOfHeap) := goodIn_app (goodIn_of _ (by decide +kernel)) ggX0_size_X0_refusalOfHeap
set_option maxRecDepth 20000 in
theorem ggX0_size_X0_countEntries : GoodIn wsX0_size wsX0_countEntries := goodIn_r _ [15, 16, 17, 18, 19, 20, 21, 22, 23, 24, 25, 26] (by decide +kernel) (by decide +kernel)
set_option maxRecDepth 20000 in
theorem gX0_size_X0_countEntries : GoodIn wsX0_size (wsV RX0 86 RX0 yX0_countEntries wsX0_countEntries) := goodIn_app (goodIn_of _ (by decide +kernel)) ggX0_size_X0_countEntries
theorem dX0_size_0 : decode cX0_size 0 = .ok (.aload_n 0, 1) := by decide +kernel
theorem dX0_size_1 : decode cX0_size 1 = .ok (.iload_n 1, 1) := by decide +kernel
theorem dX0_size_2 : decode cX0_size 2 = .ok (.invokevirtual 42, 3) := by decide +kernel
theorem dX0_size_5 : decode cX0_size 5 = .ok (.istore_n 2, 1) := by decide +kernel
theorem dX0_size_6 : decode cX0_size 6 = .ok (.iload_n 2, 1) := by decide +kernel
theorem dX0_size_7 : decode cX0_size 7 = .ok (.ifCond .eq 7, 3) := by decide +kernel
theorem dX0_size_10 : decode cX0_size 10 = .ok (.iload_n 2, 1) := by decide +kernel
theorem dX0_size_11 : decode cX0_size 11 = .ok (.goto 8, 3) := by decide +kernel
theorem dX0_size_14 : decode cX0_size 14 = .ok (.aload_n 0, 1) := by decide +kernel
theorem dX0_size_15 : decode cX0_size 15 = .ok (.iload_n 1, 1) := by decide +kernel
theorem dX0_size_16 : decode cX0_size 16 = .ok (.invokevirtual 86, 3) := by decide +kernel
theorem dX0_size_19 : decode cX0_size 19 = .ok (.ireturn, 1) := by decide +kernel
set_option maxRecDepth 20000 in
theorem ggX0_floor_X0_isHeap : GoodIn wsX0_floor wsX0_isHeap := goodIn_r _ [7, 8, 9, 10, 11, 12, 13, 14, 15, 16, 17] (by decide +kernel) (by decide +kernel)
set_option maxRecDepth 20000 in
theorem gX0_floor_X0_isHeap : GoodIn wsX0_floor (wsV RX0 94 RX0 yX0_isHeap wsX0_isHeap) := goodIn_app (goodIn_of _ (by decide +kernel)) ggX0_floor_X0_isHeap
theorem dX0_floor_0 : decode cX0_floor 0 = .ok (.aload_n 0, 1) := by decide +kernel
theorem dX0_floor_1 : decode cX0_floor 1 = .ok (.iload_n 1, 1) := by decide +kernel
theorem dX0_floor_2 : decode cX0_floor 2 = .ok (.invokevirtual 94, 3) := by decide +kernel
theorem dX0_floor_5 : decode cX0_floor 5 = .ok (.ifCond .eq 12, 3) := by decide +kernel
theorem dX0_floor_8 : decode cX0_floor 8 = .ok (.aload_n 0, 1) := by decide +kernel
theorem dX0_floor_9 : decode cX0_floor 9 = .ok (.getfield 20, 3) := by decide +kernel
theorem dX0_floor_12 : decode cX0_floor 12 = .ok (.iload_n 1, 1) := by decide +kernel
theorem dX0_floor_13 : decode cX0_floor 13 = .ok (.laload, 1) := by decide +kernel
theorem dX0_floor_14 : decode cX0_floor 14 = .ok (.goto 6, 3) := by decide +kernel
theorem dX0_floor_17 : decode cX0_floor 17 = .ok (.ldc2_w 40, 3) := by decide +kernel
theorem dX0_floor_20 : decode cX0_floor 20 = .ok (.lreturn, 1) := by decide +kernel
set_option maxRecDepth 20000 in
theorem ggX0_key_X0_refusalOfEntry : GoodIn wsX0_key wsX0_refusalOfEntry := goodIn_r _ [6, 7, 8, 9, 10, 5, 11, 12, 13, 14, 15, 16, 17, 18, 19, 20, 21] (by decide +kernel) (by decide +kernel)
set_option maxRecDepth 20000 in
theorem gX0_key_X0_refusalOfEntry : GoodIn wsX0_key (wsV RX0 69 RX0 yX0_refusalOfEntry wsX0_refusalOfEntry) := goodIn_app (goodIn_of _ (by decide +kernel)) ggX0_key_X0_refusalOfEntry
theorem dX0_key_0 : decode cX0_key 0 = .ok (.aload_n 0, 1) := by decide +kernel
theorem dX0_key_1 : decode cX0_key 1 = .ok (.iload_n 1, 1) := by decide +kernel
theorem dX0_key_2 : decode cX0_key 2 = .ok (.invokevirtual 69, 3) := by decide +kernel
theorem dX0_key_5 : decode cX0_key 5 = .ok (.ifCond .ne 12, 3) := by decide +kernel
theorem dX0_key_8 : decode cX0_key 8 = .ok (.aload_n 0, 1) := by decide +kernel
theorem dX0_key_9 : decode cX0_key 9 = .ok (.getfield 28, 3) := by decide +kernel
theorem dX0_key_12 : decode cX0_key 12 = .ok (.iload_n 1, 1) := by decide +kernel
theorem dX0_key_13 : decode cX0_key 13 = .ok (.laload, 1) := by decide +kernel
theorem dX0_key_14 : decode cX0_key 14 = .ok (.goto 4, 3) := by decide +kernel
theorem dX0_key_17 : decode cX0_key 17 = .ok (.lconst 0, 1) := by decide +kernel
theorem dX0_key_18 : decode cX0_key 18 = .ok (.lreturn, 1) := by decide +kernel
set_option maxRecDepth 20000 in
theorem ggX0_value_X0_refusalOfEntry : GoodIn wsX0_value wsX0_refusalOfEntry := goodIn_r _ [6, 7, 8, 9, 10, 5, 11, 12, 13, 14, 15, 16, 17, 18, 19, 20, 21] (by decide +kernel) (by decide +kernel)
set_option maxRecDepth 20000 in
theorem gX0_value_X0_refusalOfEntry : GoodIn wsX0_value (wsV RX0 69 RX0 yX0_refusalOfEntry wsX0_refusalOfEntry) := goodIn_app (goodIn_of _ (by decide +kernel)) ggX0_value_X0_refusalOfEntry
theorem dX0_value_0 : decode cX0_value 0 = .ok (.aload_n 0, 1) := by decide +kernel
theorem dX0_value_1 : decode cX0_value 1 = .ok (.iload_n 1, 1) := by decide +kernel
theorem dX0_value_2 : decode cX0_value 2 = .ok (.invokevirtual 69, 3) := by decide +kernel
theorem dX0_value_5 : decode cX0_value 5 = .ok (.ifCond .ne 12, 3) := by decide +kernel
theorem dX0_value_8 : decode cX0_value 8 = .ok (.aload_n 0, 1) := by decide +kernel
theorem dX0_value_9 : decode cX0_value 9 = .ok (.getfield 31, 3) := by decide +kernel
theorem dX0_value_12 : decode cX0_value 12 = .ok (.iload_n 1, 1) := by decide +kernel
theorem dX0_value_13 : decode cX0_value 13 = .ok (.iaload, 1) := by decide +kernel
theorem dX0_value_14 : decode cX0_value 14 = .ok (.goto 4, 3) := by decide +kernel
theorem dX0_value_17 : decode cX0_value 17 = .ok (.iconst 0, 1) := by decide +kernel
theorem dX0_value_18 : decode cX0_value 18 = .ok (.ireturn, 1) := by decide +kernel
set_option maxRecDepth 20000 in
theorem ggX0_owner_X0_refusalOfEntry : GoodIn wsX0_owner wsX0_refusalOfEntry := goodIn_r _ [6, 1, 7, 8, 9, 5, 10, 11, 12, 13, 14, 15, 16, 17, 18, 19, 20] (by decide +kernel) (by decide +kernel)
set_option maxRecDepth 20000 in
theorem gX0_owner_X0_refusalOfEntry : GoodIn wsX0_owner (wsV RX0 69 RX0 yX0_refusalOfEntry wsX0_refusalOfEntry) := goodIn_app (goodIn_of _ (by decide +kernel)) ggX0_owner_X0_refusalOfEntry
theorem dX0_owner_0 : decode cX0_owner 0 = .ok (.aload_n 0, 1) := by decide +kernel
theorem dX0_owner_1 : decode cX0_owner 1 = .ok (.iload_n 1, 1) := by decide +kernel
theorem dX0_owner_2 : decode cX0_owner 2 = .ok (.invokevirtual 69, 3) := by decide +kernel
theorem dX0_owner_5 : decode cX0_owner 5 = .ok (.istore_n 2, 1) := by decide +kernel
theorem dX0_owner_6 : decode cX0_owner 6 = .ok (.iload_n 2, 1) := by decide +kernel
theorem dX0_owner_7 : decode cX0_owner 7 = .ok (.ifCond .eq 7, 3) := by decide +kernel
theorem dX0_owner_10 : decode cX0_owner 10 = .ok (.iload_n 2, 1) := by decide +kernel
theorem dX0_owner_11 : decode cX0_owner 11 = .ok (.goto 9, 3) := by decide +kernel
theorem dX0_owner_14 : decode cX0_owner 14 = .ok (.aload_n 0, 1) := by decide +kernel
theorem dX0_owner_15 : decode cX0_owner 15 = .ok (.getfield 34, 3) := by decide +kernel
theorem dX0_owner_18 : decode cX0_owner 18 = .ok (.iload_n 1, 1) := by decide +kernel
theorem dX0_owner_19 : decode cX0_owner 19 = .ok (.iaload, 1) := by decide +kernel
theorem dX0_owner_20 : decode cX0_owner 20 = .ok (.ireturn, 1) := by decide +kernel
set_option maxRecDepth 20000 in
theorem ggX0_before_X0_refusalOfEntry : GoodIn wsX0_before wsX0_refusalOfEntry := goodIn_r _ [6, 1, 7, 8, 9, 5, 10, 11, 28, 29, 30, 31, 32, 33, 34, 35, 36] (by decide +kernel) (by decide +kernel)
set_option maxRecDepth 20000 in
theorem gX0_before_X0_refusalOfEntry : GoodIn wsX0_before (wsV RX0 69 RX0 yX0_refusalOfEntry wsX0_refusalOfEntry) := goodIn_app (goodIn_of _ (by decide +kernel)) ggX0_before_X0_refusalOfEntry
set_option maxRecDepth 20000 in
theorem ggX0_before_X0_countBefore : GoodIn wsX0_before wsX0_countBefore := goodIn_r _ [15, 11, 1, 16, 17, 18, 19, 5, 20, 21, 22, 23, 24, 25, 26, 27, 28, 29, 30, 31, 32, 33, 34, 35, 36] (by decide +kernel) (by decide +kernel)
set_option maxRecDepth 20000 in
theorem gX0_before_X0_countBefore : GoodIn wsX0_before (wsV RX0 98 RX0 yX0_countBefore wsX0_countBefore) := goodIn_app (goodIn_of _ (by decide +kernel)) ggX0_before_X0_countBefore
theorem dX0_before_0 : decode cX0_before 0 = .ok (.aload_n 0, 1) := by decide +kernel
theorem dX0_before_1 : decode cX0_before 1 = .ok (.iload_n 1, 1) := by decide +kernel
theorem dX0_before_2 : decode cX0_before 2 = .ok (.invokevirtual 69, 3) := by decide +kernel
theorem dX0_before_5 : decode cX0_before 5 = .ok (.istore_n 2, 1) := by decide +kernel
theorem dX0_before_6 : decode cX0_before 6 = .ok (.iload_n 2, 1) := by decide +kernel
theorem dX0_before_7 : decode cX0_before 7 = .ok (.ifCond .eq 7, 3) := by decide +kernel
theorem dX0_before_10 : decode cX0_before 10 = .ok (.iload_n 2, 1) := by decide +kernel
theorem dX0_before_11 : decode cX0_before 11 = .ok (.goto 14, 3) := by decide +kernel
theorem dX0_before_14 : decode cX0_before 14 = .ok (.aload_n 0, 1) := by decide +kernel
theorem dX0_before_15 : decode cX0_before 15 = .ok (.aload_n 0, 1) := by decide +kernel
theorem dX0_before_16 : decode cX0_before 16 = .ok (.getfield 34, 3) := by decide +kernel
theorem dX0_before_19 : decode cX0_before 19 = .ok (.iload_n 1, 1) := by decide +kernel
theorem dX0_before_20 : decode cX0_before 20 = .ok (.iaload, 1) := by decide +kernel
theorem dX0_before_21 : decode cX0_before 21 = .ok (.iload_n 1, 1) := by decide +kernel
theorem dX0_before_22 : decode cX0_before 22 = .ok (.invokevirtual 98, 3) := by decide +kernel
theorem dX0_before_25 : decode cX0_before 25 = .ok (.ireturn, 1) := by decide +kernel
theorem dX0_isHeap_0 : decode cX0_isHeap 0 = .ok (.iload_n 1, 1) := by decide +kernel
theorem dX0_isHeap_1 : decode cX0_isHeap 1 = .ok (.ifCond .lt 15, 3) := by decide +kernel
theorem dX0_isHeap_4 : decode cX0_isHeap 4 = .ok (.iload_n 1, 1) := by decide +kernel
theorem dX0_isHeap_5 : decode cX0_isHeap 5 = .ok (.aload_n 0, 1) := by decide +kernel
theorem dX0_isHeap_6 : decode cX0_isHeap 6 = .ok (.getfield 24, 3) := by decide +kernel
theorem dX0_isHeap_9 : decode cX0_isHeap 9 = .ok (.if_icmp .ge 7, 3) := by decide +kernel
theorem dX0_isHeap_12 : decode cX0_isHeap 12 = .ok (.iconst 1, 1) := by decide +kernel
theorem dX0_isHeap_13 : decode cX0_isHeap 13 = .ok (.goto 4, 3) := by decide +kernel
theorem dX0_isHeap_16 : decode cX0_isHeap 16 = .ok (.iconst 0, 1) := by decide +kernel
theorem dX0_isHeap_17 : decode cX0_isHeap 17 = .ok (.ireturn, 1) := by decide +kernel
theorem dX0_isEntry_0 : decode cX0_isEntry 0 = .ok (.iload_n 1, 1) := by decide +kernel
theorem dX0_isEntry_1 : decode cX0_isEntry 1 = .ok (.ifCond .lt 15, 3) := by decide +kernel
theorem dX0_isEntry_4 : decode cX0_isEntry 4 = .ok (.iload_n 1, 1) := by decide +kernel
theorem dX0_isEntry_5 : decode cX0_isEntry 5 = .ok (.aload_n 0, 1) := by decide +kernel
theorem dX0_isEntry_6 : decode cX0_isEntry 6 = .ok (.getfield 37, 3) := by decide +kernel
theorem dX0_isEntry_9 : decode cX0_isEntry 9 = .ok (.if_icmp .ge 7, 3) := by decide +kernel
theorem dX0_isEntry_12 : decode cX0_isEntry 12 = .ok (.iconst 1, 1) := by decide +kernel
theorem dX0_isEntry_13 : decode cX0_isEntry 13 = .ok (.goto 4, 3) := by decide +kernel
theorem dX0_isEntry_16 : decode cX0_isEntry 16 = .ok (.iconst 0, 1) := by decide +kernel
theorem dX0_isEntry_17 : decode cX0_isEntry 17 = .ok (.ireturn, 1) := by decide +kernel
set_option maxRecDepth 20000 in
theorem ggX0_refusalOfHeap_X0_isHeap : GoodIn wsX0_refusalOfHeap wsX0_isHeap := goodIn_r _ [6, 7, 8, 9, 10, 11, 12, 13, 14, 15, 16] (by decide +kernel) (by decide +kernel)
set_option maxRecDepth 20000 in
theorem gX0_refusalOfHeap_X0_isHeap : GoodIn wsX0_refusalOfHeap (wsV RX0 94 RX0 yX0_isHeap wsX0_isHeap) := goodIn_app (goodIn_of _ (by decide +kernel)) ggX0_refusalOfHeap_X0_isHeap
theorem dX0_refusalOfHeap_0 : decode cX0_refusalOfHeap 0 = .ok (.aload_n 0, 1) := by decide +kernel
theorem dX0_refusalOfHeap_1 : decode cX0_refusalOfHeap 1 = .ok (.iload_n 1, 1) := by decide +kernel
theorem dX0_refusalOfHeap_2 : decode cX0_refusalOfHeap 2 = .ok (.invokevirtual 94, 3) := by decide +kernel
theorem dX0_refusalOfHeap_5 : decode cX0_refusalOfHeap 5 = .ok (.ifCond .ne 6, 3) := by decide +kernel
theorem dX0_refusalOfHeap_8 : decode cX0_refusalOfHeap 8 = .ok (.bipush (-2), 2) := by decide +kernel
theorem dX0_refusalOfHeap_10 : decode cX0_refusalOfHeap 10 = .ok (.ireturn, 1) := by decide +kernel
theorem dX0_refusalOfHeap_11 : decode cX0_refusalOfHeap 11 = .ok (.aload_n 0, 1) := by decide +kernel
theorem dX0_refusalOfHeap_12 : decode cX0_refusalOfHeap 12 = .ok (.getfield 16, 3) := by decide +kernel
theorem dX0_refusalOfHeap_15 : decode cX0_refusalOfHeap 15 = .ok (.iload_n 1, 1) := by decide +kernel
theorem dX0_refusalOfHeap_16 : decode cX0_refusalOfHeap 16 = .ok (.baload, 1) := by decide +kernel
theorem dX0_refusalOfHeap_17 : decode cX0_refusalOfHeap 17 = .ok (.ifCond .eq 8, 3) := by decide +kernel
theorem dX0_refusalOfHeap_20 : decode cX0_refusalOfHeap 20 = .ok (.bipush (-3), 2) := by decide +kernel
theorem dX0_refusalOfHeap_22 : decode cX0_refusalOfHeap 22 = .ok (.goto 4, 3) := by decide +kernel
theorem dX0_refusalOfHeap_25 : decode cX0_refusalOfHeap 25 = .ok (.iconst 0, 1) := by decide +kernel
theorem dX0_refusalOfHeap_26 : decode cX0_refusalOfHeap 26 = .ok (.ireturn, 1) := by decide +kernel
set_option maxRecDepth 20000 in
theorem ggX0_refusalOfLastOf_X0_refusalOfHeap : GoodIn wsX0_refusalOfLastOf wsX0_refusalOfHeap := goodIn_r _ [6, 7, 8, 9, 10, 5, 11, 12, 13, 14, 15, 16, 17, 18, 19, 20, 21] (by decide +kernel) (by decide +kernel)
set_option maxRecDepth 20000 in
theorem gX0_refusalOfLastOf_X0_refusalOfHeap : GoodIn wsX0_refusalOfLastOf (wsV RX0 42 RX0 yX0_refusalOfHeap wsX0_refusalOfHeap) := goodIn_app (goodIn_of _ (by decide +kernel)) ggX0_refusalOfLastOf_X0_refusalOfHeap
theorem dX0_refusalOfLastOf_0 : decode cX0_refusalOfLastOf 0 = .ok (.aload_n 0, 1) := by decide +kernel
theorem dX0_refusalOfLastOf_1 : decode cX0_refusalOfLastOf 1 = .ok (.iload_n 1, 1) := by decide +kernel
theorem dX0_refusalOfLastOf_2 : decode cX0_refusalOfLastOf 2 = .ok (.invokevirtual 42, 3) := by decide +kernel
theorem dX0_refusalOfLastOf_5 : decode cX0_refusalOfLastOf 5 = .ok (.istore_n 2, 1) := by decide +kernel
theorem dX0_refusalOfLastOf_6 : decode cX0_refusalOfLastOf 6 = .ok (.iload_n 2, 1) := by decide +kernel
theorem dX0_refusalOfLastOf_7 : decode cX0_refusalOfLastOf 7 = .ok (.ifCond .eq 5, 3) := by decide +kernel
theorem dX0_refusalOfLastOf_10 : decode cX0_refusalOfLastOf 10 = .ok (.iload_n 2, 1) := by decide +kernel
theorem dX0_refusalOfLastOf_11 : decode cX0_refusalOfLastOf 11 = .ok (.ireturn, 1) := by decide +kernel
theorem dX0_refusalOfLastOf_12 : decode cX0_refusalOfLastOf 12 = .ok (.aload_n 0, 1) := by decide +kernel
theorem dX0_refusalOfLastOf_13 : decode cX0_refusalOfLastOf 13 = .ok (.getfield 9, 3) := by decide +kernel
theorem dX0_refusalOfLastOf_16 : decode cX0_refusalOfLastOf 16 = .ok (.iload_n 1, 1) := by decide +kernel
theorem dX0_refusalOfLastOf_17 : decode cX0_refusalOfLastOf 17 = .ok (.iaload, 1) := by decide +kernel
theorem dX0_refusalOfLastOf_18 : decode cX0_refusalOfLastOf 18 = .ok (.iconst 1, 1) := by decide +kernel
theorem dX0_refusalOfLastOf_19 : decode cX0_refusalOfLastOf 19 = .ok (.if_icmp .ne 7, 3) := by decide +kernel
theorem dX0_refusalOfLastOf_22 : decode cX0_refusalOfLastOf 22 = .ok (.iconst 0, 1) := by decide +kernel
theorem dX0_refusalOfLastOf_23 : decode cX0_refusalOfLastOf 23 = .ok (.goto 5, 3) := by decide +kernel
theorem dX0_refusalOfLastOf_26 : decode cX0_refusalOfLastOf 26 = .ok (.bipush (-7), 2) := by decide +kernel
theorem dX0_refusalOfLastOf_28 : decode cX0_refusalOfLastOf 28 = .ok (.ireturn, 1) := by decide +kernel
set_option maxRecDepth 20000 in
theorem ggX0_refusalOfPair_X0_refusalOfHeap : GoodIn wsX0_refusalOfPair wsX0_refusalOfHeap := goodIn_r _ [5, 6, 7, 8, 9, 4, 10, 11, 12, 13, 14, 15, 16, 17, 18, 19, 20] (by decide +kernel) (by decide +kernel)
set_option maxRecDepth 20000 in
theorem gX0_refusalOfPair_X0_refusalOfHeap : GoodIn wsX0_refusalOfPair (wsV RX0 42 RX0 yX0_refusalOfHeap wsX0_refusalOfHeap) := goodIn_app (goodIn_of _ (by decide +kernel)) ggX0_refusalOfPair_X0_refusalOfHeap
theorem dX0_refusalOfPair_0 : decode cX0_refusalOfPair 0 = .ok (.aload_n 0, 1) := by decide +kernel
theorem dX0_refusalOfPair_1 : decode cX0_refusalOfPair 1 = .ok (.iload_n 1, 1) := by decide +kernel
theorem dX0_refusalOfPair_2 : decode cX0_refusalOfPair 2 = .ok (.invokevirtual 42, 3) := by decide +kernel
theorem dX0_refusalOfPair_5 : decode cX0_refusalOfPair 5 = .ok (.istore_n 3, 1) := by decide +kernel
theorem dX0_refusalOfPair_6 : decode cX0_refusalOfPair 6 = .ok (.iload_n 3, 1) := by decide +kernel
theorem dX0_refusalOfPair_7 : decode cX0_refusalOfPair 7 = .ok (.ifCond .ne 9, 3) := by decide +kernel
theorem dX0_refusalOfPair_10 : decode cX0_refusalOfPair 10 = .ok (.aload_n 0, 1) := by decide +kernel
theorem dX0_refusalOfPair_11 : decode cX0_refusalOfPair 11 = .ok (.iload_n 2, 1) := by decide +kernel
theorem dX0_refusalOfPair_12 : decode cX0_refusalOfPair 12 = .ok (.invokevirtual 42, 3) := by decide +kernel
theorem dX0_refusalOfPair_15 : decode cX0_refusalOfPair 15 = .ok (.istore_n 3, 1) := by decide +kernel
theorem dX0_refusalOfPair_16 : decode cX0_refusalOfPair 16 = .ok (.iload_n 3, 1) := by decide +kernel
theorem dX0_refusalOfPair_17 : decode cX0_refusalOfPair 17 = .ok (.ifCond .eq 5, 3) := by decide +kernel
theorem dX0_refusalOfPair_20 : decode cX0_refusalOfPair 20 = .ok (.iload_n 3, 1) := by decide +kernel
theorem dX0_refusalOfPair_21 : decode cX0_refusalOfPair 21 = .ok (.ireturn, 1) := by decide +kernel
theorem dX0_refusalOfPair_22 : decode cX0_refusalOfPair 22 = .ok (.iload_n 1, 1) := by decide +kernel
theorem dX0_refusalOfPair_23 : decode cX0_refusalOfPair 23 = .ok (.iload_n 2, 1) := by decide +kernel
theorem dX0_refusalOfPair_24 : decode cX0_refusalOfPair 24 = .ok (.if_icmp .ne 8, 3) := by decide +kernel
theorem dX0_refusalOfPair_27 : decode cX0_refusalOfPair 27 = .ok (.bipush (-7), 2) := by decide +kernel
theorem dX0_refusalOfPair_29 : decode cX0_refusalOfPair 29 = .ok (.goto 4, 3) := by decide +kernel
theorem dX0_refusalOfPair_32 : decode cX0_refusalOfPair 32 = .ok (.iconst 0, 1) := by decide +kernel
theorem dX0_refusalOfPair_33 : decode cX0_refusalOfPair 33 = .ok (.ireturn, 1) := by decide +kernel
set_option maxRecDepth 20000 in
theorem ggX0_refusalOfEntry_X0_isEntry : GoodIn wsX0_refusalOfEntry wsX0_isEntry := goodIn_r _ [6, 7, 8, 9, 10, 11, 12, 13, 14, 15, 16] (by decide +kernel) (by decide +kernel)
set_option maxRecDepth 20000 in
theorem gX0_refusalOfEntry_X0_isEntry : GoodIn wsX0_refusalOfEntry (wsV RX0 101 RX0 yX0_isEntry wsX0_isEntry) := goodIn_app (goodIn_of _ (by decide +kernel)) ggX0_refusalOfEntry_X0_isEntry
theorem dX0_refusalOfEntry_0 : decode cX0_refusalOfEntry 0 = .ok (.aload_n 0, 1) := by decide +kernel
theorem dX0_refusalOfEntry_1 : decode cX0_refusalOfEntry 1 = .ok (.iload_n 1, 1) := by decide +kernel
theorem dX0_refusalOfEntry_2 : decode cX0_refusalOfEntry 2 = .ok (.invokevirtual 101, 3) := by decide +kernel
theorem dX0_refusalOfEntry_5 : decode cX0_refusalOfEntry 5 = .ok (.ifCond .ne 6, 3) := by decide +kernel
theorem dX0_refusalOfEntry_8 : decode cX0_refusalOfEntry 8 = .ok (.bipush (-2), 2) := by decide +kernel
theorem dX0_refusalOfEntry_10 : decode cX0_refusalOfEntry 10 = .ok (.ireturn, 1) := by decide +kernel
theorem dX0_refusalOfEntry_11 : decode cX0_refusalOfEntry 11 = .ok (.aload_n 0, 1) := by decide +kernel
theorem dX0_refusalOfEntry_12 : decode cX0_refusalOfEntry 12 = .ok (.getfield 34, 3) := by decide +kernel
theorem dX0_refusalOfEntry_15 : decode cX0_refusalOfEntry 15 = .ok (.iload_n 1, 1) := by decide +kernel
theorem dX0_refusalOfEntry_16 : decode cX0_refusalOfEntry 16 = .ok (.iaload, 1) := by decide +kernel
theorem dX0_refusalOfEntry_17 : decode cX0_refusalOfEntry 17 = .ok (.bipush (-4), 2) := by decide +kernel
theorem dX0_refusalOfEntry_19 : decode cX0_refusalOfEntry 19 = .ok (.if_icmp .ne 8, 3) := by decide +kernel
theorem dX0_refusalOfEntry_22 : decode cX0_refusalOfEntry 22 = .ok (.bipush (-4), 2) := by decide +kernel
theorem dX0_refusalOfEntry_24 : decode cX0_refusalOfEntry 24 = .ok (.goto 4, 3) := by decide +kernel
theorem dX0_refusalOfEntry_27 : decode cX0_refusalOfEntry 27 = .ok (.iconst 0, 1) := by decide +kernel
theorem dX0_refusalOfEntry_28 : decode cX0_refusalOfEntry 28 = .ok (.ireturn, 1) := by decide +kernel
theorem dX0_weight_0 : decode cX0_weight 0 = .ok (.iload_n 0, 1) := by decide +kernel
theorem dX0_weight_1 : decode cX0_weight 1 = .ok (.tableswitch 45 1 3 #[27, 33, 39], 27) := by decide +kernel
theorem dX0_weight_28 : decode cX0_weight 28 = .ok (.ldc2_w 104, 3) := by decide +kernel
theorem dX0_weight_31 : decode cX0_weight 31 = .ok (.lload_n 1, 1) := by decide +kernel
theorem dX0_weight_32 : decode cX0_weight 32 = .ok (.lsub, 1) := by decide +kernel
theorem dX0_weight_33 : decode cX0_weight 33 = .ok (.lreturn, 1) := by decide +kernel
theorem dX0_weight_34 : decode cX0_weight 34 = .ok (.lload_n 1, 1) := by decide +kernel
theorem dX0_weight_35 : decode cX0_weight 35 = .ok (.ldc2_w 40, 3) := by decide +kernel
theorem dX0_weight_38 : decode cX0_weight 38 = .ok (.lxor, 1) := by decide +kernel
theorem dX0_weight_39 : decode cX0_weight 39 = .ok (.lreturn, 1) := by decide +kernel
theorem dX0_weight_40 : decode cX0_weight 40 = .ok (.lload_n 1, 1) := by decide +kernel
theorem dX0_weight_41 : decode cX0_weight 41 = .ok (.ldc2_w 106, 3) := by decide +kernel
theorem dX0_weight_44 : decode cX0_weight 44 = .ok (.land, 1) := by decide +kernel
theorem dX0_weight_45 : decode cX0_weight 45 = .ok (.lreturn, 1) := by decide +kernel
theorem dX0_weight_46 : decode cX0_weight 46 = .ok (.lload_n 1, 1) := by decide +kernel
theorem dX0_weight_47 : decode cX0_weight 47 = .ok (.lreturn, 1) := by decide +kernel
set_option maxRecDepth 20000 in
theorem ggX0_isBelowFloor_X0_weight : GoodIn wsX0_isBelowFloor wsX0_weight := goodIn_r _ [6, 7, 8, 9] (by decide +kernel) (by decide +kernel)
set_option maxRecDepth 20000 in
theorem gX0_isBelowFloor_X0_weight : GoodIn wsX0_isBelowFloor (va_wsS RX0 72 yX0_weight wsX0_weight) := goodIn_app (goodIn_of _ (by decide +kernel)) ggX0_isBelowFloor_X0_weight
theorem dX0_isBelowFloor_0 : decode cX0_isBelowFloor 0 = .ok (.aload_n 0, 1) := by decide +kernel
theorem dX0_isBelowFloor_1 : decode cX0_isBelowFloor 1 = .ok (.getfield 13, 3) := by decide +kernel
theorem dX0_isBelowFloor_4 : decode cX0_isBelowFloor 4 = .ok (.iload_n 1, 1) := by decide +kernel
theorem dX0_isBelowFloor_5 : decode cX0_isBelowFloor 5 = .ok (.iaload, 1) := by decide +kernel
theorem dX0_isBelowFloor_6 : decode cX0_isBelowFloor 6 = .ok (.lload_n 2, 1) := by decide +kernel
theorem dX0_isBelowFloor_7 : decode cX0_isBelowFloor 7 = .ok (.invokestatic 72, 3) := by decide +kernel
theorem dX0_isBelowFloor_10 : decode cX0_isBelowFloor 10 = .ok (.aload_n 0, 1) := by decide +kernel
theorem dX0_isBelowFloor_11 : decode cX0_isBelowFloor 11 = .ok (.getfield 20, 3) := by decide +kernel
theorem dX0_isBelowFloor_14 : decode cX0_isBelowFloor 14 = .ok (.iload_n 1, 1) := by decide +kernel
theorem dX0_isBelowFloor_15 : decode cX0_isBelowFloor 15 = .ok (.laload, 1) := by decide +kernel
theorem dX0_isBelowFloor_16 : decode cX0_isBelowFloor 16 = .ok (.lcmp, 1) := by decide +kernel
theorem dX0_isBelowFloor_17 : decode cX0_isBelowFloor 17 = .ok (.ifCond .ge 7, 3) := by decide +kernel
theorem dX0_isBelowFloor_20 : decode cX0_isBelowFloor 20 = .ok (.iconst 1, 1) := by decide +kernel
theorem dX0_isBelowFloor_21 : decode cX0_isBelowFloor 21 = .ok (.goto 4, 3) := by decide +kernel
theorem dX0_isBelowFloor_24 : decode cX0_isBelowFloor 24 = .ok (.iconst 0, 1) := by decide +kernel
theorem dX0_isBelowFloor_25 : decode cX0_isBelowFloor 25 = .ok (.ireturn, 1) := by decide +kernel
set_option maxRecDepth 20000 in
theorem ggX0_raiseFloor_X0_weight : GoodIn wsX0_raiseFloor wsX0_weight := goodIn_r _ [7, 8, 9, 10] (by decide +kernel) (by decide +kernel)
set_option maxRecDepth 20000 in
theorem gX0_raiseFloor_X0_weight : GoodIn wsX0_raiseFloor (va_wsS RX0 72 yX0_weight wsX0_weight) := goodIn_app (goodIn_of _ (by decide +kernel)) ggX0_raiseFloor_X0_weight
theorem dX0_raiseFloor_0 : decode cX0_raiseFloor 0 = .ok (.aload_n 0, 1) := by decide +kernel
theorem dX0_raiseFloor_1 : decode cX0_raiseFloor 1 = .ok (.getfield 9, 3) := by decide +kernel
theorem dX0_raiseFloor_4 : decode cX0_raiseFloor 4 = .ok (.iload_n 1, 1) := by decide +kernel
theorem dX0_raiseFloor_5 : decode cX0_raiseFloor 5 = .ok (.iaload, 1) := by decide +kernel
theorem dX0_raiseFloor_6 : decode cX0_raiseFloor 6 = .ok (.iconst 2, 1) := by decide +kernel
theorem dX0_raiseFloor_7 : decode cX0_raiseFloor 7 = .ok (.if_icmp .ne 19, 3) := by decide +kernel
theorem dX0_raiseFloor_10 : decode cX0_raiseFloor 10 = .ok (.aload_n 0, 1) := by decide +kernel
theorem dX0_raiseFloor_11 : decode cX0_raiseFloor 11 = .ok (.getfield 20, 3) := by decide +kernel
theorem dX0_raiseFloor_14 : decode cX0_raiseFloor 14 = .ok (.iload_n 1, 1) := by decide +kernel
theorem dX0_raiseFloor_15 : decode cX0_raiseFloor 15 = .ok (.aload_n 0, 1) := by decide +kernel
theorem dX0_raiseFloor_16 : decode cX0_raiseFloor 16 = .ok (.getfield 13, 3) := by decide +kernel
theorem dX0_raiseFloor_19 : decode cX0_raiseFloor 19 = .ok (.iload_n 1, 1) := by decide +kernel
theorem dX0_raiseFloor_20 : decode cX0_raiseFloor 20 = .ok (.iaload, 1) := by decide +kernel
theorem dX0_raiseFloor_21 : decode cX0_raiseFloor 21 = .ok (.lload_n 2, 1) := by decide +kernel
theorem dX0_raiseFloor_22 : decode cX0_raiseFloor 22 = .ok (.invokestatic 72, 3) := by decide +kernel
theorem dX0_raiseFloor_25 : decode cX0_raiseFloor 25 = .ok (.lastore, 1) := by decide +kernel
theorem dX0_raiseFloor_26 : decode cX0_raiseFloor 26 = .ok (.return_, 1) := by decide +kernel
set_option maxRecDepth 20000 in
theorem ggX0_isBefore_X0_weight : GoodIn wsX0_isBefore wsX0_weight := goodIn_r _ [5, 6, 7, 8] (by decide +kernel) (by decide +kernel)
set_option maxRecDepth 20000 in
theorem gX0_isBefore_X0_weight : GoodIn wsX0_isBefore (va_wsS RX0 72 yX0_weight wsX0_weight) := goodIn_app (goodIn_of _ (by decide +kernel)) ggX0_isBefore_X0_weight
theorem dX0_isBefore_0 : decode cX0_isBefore 0 = .ok (.iload_n 1, 1) := by decide +kernel
theorem dX0_isBefore_1 : decode cX0_isBefore 1 = .ok (.aload_n 0, 1) := by decide +kernel
theorem dX0_isBefore_2 : decode cX0_isBefore 2 = .ok (.getfield 28, 3) := by decide +kernel
theorem dX0_isBefore_5 : decode cX0_isBefore 5 = .ok (.iload_n 2, 1) := by decide +kernel
theorem dX0_isBefore_6 : decode cX0_isBefore 6 = .ok (.laload, 1) := by decide +kernel
theorem dX0_isBefore_7 : decode cX0_isBefore 7 = .ok (.invokestatic 72, 3) := by decide +kernel
theorem dX0_isBefore_10 : decode cX0_isBefore 10 = .ok (.lstore 4, 2) := by decide +kernel
theorem dX0_isBefore_12 : decode cX0_isBefore 12 = .ok (.iload_n 1, 1) := by decide +kernel
theorem dX0_isBefore_13 : decode cX0_isBefore 13 = .ok (.aload_n 0, 1) := by decide +kernel
theorem dX0_isBefore_14 : decode cX0_isBefore 14 = .ok (.getfield 28, 3) := by decide +kernel
theorem dX0_isBefore_17 : decode cX0_isBefore 17 = .ok (.iload_n 3, 1) := by decide +kernel
theorem dX0_isBefore_18 : decode cX0_isBefore 18 = .ok (.laload, 1) := by decide +kernel
theorem dX0_isBefore_19 : decode cX0_isBefore 19 = .ok (.invokestatic 72, 3) := by decide +kernel
theorem dX0_isBefore_22 : decode cX0_isBefore 22 = .ok (.lstore 6, 2) := by decide +kernel
theorem dX0_isBefore_24 : decode cX0_isBefore 24 = .ok (.lload 4, 2) := by decide +kernel
theorem dX0_isBefore_26 : decode cX0_isBefore 26 = .ok (.lload 6, 2) := by decide +kernel
theorem dX0_isBefore_28 : decode cX0_isBefore 28 = .ok (.lcmp, 1) := by decide +kernel
theorem dX0_isBefore_29 : decode cX0_isBefore 29 = .ok (.ifCond .lt 16, 3) := by decide +kernel
theorem dX0_isBefore_32 : decode cX0_isBefore 32 = .ok (.lload 4, 2) := by decide +kernel
theorem dX0_isBefore_34 : decode cX0_isBefore 34 = .ok (.lload 6, 2) := by decide +kernel
theorem dX0_isBefore_36 : decode cX0_isBefore 36 = .ok (.lcmp, 1) := by decide +kernel
theorem dX0_isBefore_37 : decode cX0_isBefore 37 = .ok (.ifCond .ne 12, 3) := by decide +kernel
theorem dX0_isBefore_40 : decode cX0_isBefore 40 = .ok (.iload_n 2, 1) := by decide +kernel
theorem dX0_isBefore_41 : decode cX0_isBefore 41 = .ok (.iload_n 3, 1) := by decide +kernel
theorem dX0_isBefore_42 : decode cX0_isBefore 42 = .ok (.if_icmp .ge 7, 3) := by decide +kernel
theorem dX0_isBefore_45 : decode cX0_isBefore 45 = .ok (.iconst 1, 1) := by decide +kernel
theorem dX0_isBefore_46 : decode cX0_isBefore 46 = .ok (.goto 4, 3) := by decide +kernel
theorem dX0_isBefore_49 : decode cX0_isBefore 49 = .ok (.iconst 0, 1) := by decide +kernel
theorem dX0_isBefore_50 : decode cX0_isBefore 50 = .ok (.ireturn, 1) := by decide +kernel
set_option maxRecDepth 20000 in
theorem ggX0_findFirst_X0_isBefore : GoodIn wsX0_findFirst wsX0_isBefore := goodIn_r _ [8, 9, 10, 11, 7, 12, 13, 14, 15, 16, 17, 18, 19, 20, 21, 22, 23, 24] (by decide +kernel) (by decide +kernel)
set_option maxRecDepth 20000 in
theorem gX0_findFirst_X0_isBefore : GoodIn wsX0_findFirst (wsV RX0 108 RX0 yX0_isBefore wsX0_isBefore) := goodIn_app (goodIn_of _ (by decide +kernel)) ggX0_findFirst_X0_isBefore
theorem dX0_findFirst_0 : decode cX0_findFirst 0 = .ok (.iconst (-1), 1) := by decide +kernel
theorem dX0_findFirst_1 : decode cX0_findFirst 1 = .ok (.istore_n 2, 1) := by decide +kernel
theorem dX0_findFirst_2 : decode cX0_findFirst 2 = .ok (.iconst 0, 1) := by decide +kernel
theorem dX0_findFirst_3 : decode cX0_findFirst 3 = .ok (.istore_n 3, 1) := by decide +kernel
theorem dX0_findFirst_4 : decode cX0_findFirst 4 = .ok (.iload_n 3, 1) := by decide +kernel
theorem dX0_findFirst_5 : decode cX0_findFirst 5 = .ok (.aload_n 0, 1) := by decide +kernel
theorem dX0_findFirst_6 : decode cX0_findFirst 6 = .ok (.getfield 37, 3) := by decide +kernel
theorem dX0_findFirst_9 : decode cX0_findFirst 9 = .ok (.if_icmp .ge 41, 3) := by decide +kernel
theorem dX0_findFirst_12 : decode cX0_findFirst 12 = .ok (.aload_n 0, 1) := by decide +kernel
theorem dX0_findFirst_13 : decode cX0_findFirst 13 = .ok (.getfield 34, 3) := by decide +kernel
theorem dX0_findFirst_16 : decode cX0_findFirst 16 = .ok (.iload_n 3, 1) := by decide +kernel
theorem dX0_findFirst_17 : decode cX0_findFirst 17 = .ok (.iaload, 1) := by decide +kernel
theorem dX0_findFirst_18 : decode cX0_findFirst 18 = .ok (.iload_n 1, 1) := by decide +kernel
theorem dX0_findFirst_19 : decode cX0_findFirst 19 = .ok (.if_icmp .ne 25, 3) := by decide +kernel
theorem dX0_findFirst_22 : decode cX0_findFirst 22 = .ok (.iload_n 2, 1) := by decide +kernel
theorem dX0_findFirst_23 : decode cX0_findFirst 23 = .ok (.iconst (-1), 1) := by decide +kernel
theorem dX0_findFirst_24 : decode cX0_findFirst 24 = .ok (.if_icmp .eq 18, 3) := by decide +kernel
theorem dX0_findFirst_27 : decode cX0_findFirst 27 = .ok (.aload_n 0, 1) := by decide +kernel
theorem dX0_findFirst_28 : decode cX0_findFirst 28 = .ok (.aload_n 0, 1) := by decide +kernel
theorem dX0_findFirst_29 : decode cX0_findFirst 29 = .ok (.getfield 13, 3) := by decide +kernel
theorem dX0_findFirst_32 : decode cX0_findFirst 32 = .ok (.iload_n 1, 1) := by decide +kernel
theorem dX0_findFirst_33 : decode cX0_findFirst 33 = .ok (.iaload, 1) := by decide +kernel
theorem dX0_findFirst_34 : decode cX0_findFirst 34 = .ok (.iload_n 3, 1) := by decide +kernel
theorem dX0_findFirst_35 : decode cX0_findFirst 35 = .ok (.iload_n 2, 1) := by decide +kernel
theorem dX0_findFirst_36 : decode cX0_findFirst 36 = .ok (.invokevirtual 108, 3) := by decide +kernel
theorem dX0_findFirst_39 : decode cX0_findFirst 39 = .ok (.ifCond .eq 5, 3) := by decide +kernel
theorem dX0_findFirst_42 : decode cX0_findFirst 42 = .ok (.iload_n 3, 1) := by decide +kernel
theorem dX0_findFirst_43 : decode cX0_findFirst 43 = .ok (.istore_n 2, 1) := by decide +kernel
theorem dX0_findFirst_44 : decode cX0_findFirst 44 = .ok (.iinc 3 1, 3) := by decide +kernel
theorem dX0_findFirst_47 : decode cX0_findFirst 47 = .ok (.goto (-43), 3) := by decide +kernel
theorem dX0_findFirst_50 : decode cX0_findFirst 50 = .ok (.iload_n 2, 1) := by decide +kernel
theorem dX0_findFirst_51 : decode cX0_findFirst 51 = .ok (.ireturn, 1) := by decide +kernel
set_option maxRecDepth 20000 in
theorem ggX0_findLast_X0_isBefore : GoodIn wsX0_findLast wsX0_isBefore := goodIn_r _ [8, 9, 10, 11, 7, 12, 13, 14, 15, 16, 17, 18, 19, 20, 21, 22, 23, 24] (by decide +kernel) (by decide +kernel)
set_option maxRecDepth 20000 in
theorem gX0_findLast_X0_isBefore : GoodIn wsX0_findLast (wsV RX0 108 RX0 yX0_isBefore wsX0_isBefore) := goodIn_app (goodIn_of _ (by decide +kernel)) ggX0_findLast_X0_isBefore
theorem dX0_findLast_0 : decode cX0_findLast 0 = .ok (.iconst (-1), 1) := by decide +kernel
theorem dX0_findLast_1 : decode cX0_findLast 1 = .ok (.istore_n 2, 1) := by decide +kernel
theorem dX0_findLast_2 : decode cX0_findLast 2 = .ok (.iconst 0, 1) := by decide +kernel
theorem dX0_findLast_3 : decode cX0_findLast 3 = .ok (.istore_n 3, 1) := by decide +kernel
theorem dX0_findLast_4 : decode cX0_findLast 4 = .ok (.iload_n 3, 1) := by decide +kernel
theorem dX0_findLast_5 : decode cX0_findLast 5 = .ok (.aload_n 0, 1) := by decide +kernel
theorem dX0_findLast_6 : decode cX0_findLast 6 = .ok (.getfield 37, 3) := by decide +kernel
theorem dX0_findLast_9 : decode cX0_findLast 9 = .ok (.if_icmp .ge 41, 3) := by decide +kernel
theorem dX0_findLast_12 : decode cX0_findLast 12 = .ok (.aload_n 0, 1) := by decide +kernel
theorem dX0_findLast_13 : decode cX0_findLast 13 = .ok (.getfield 34, 3) := by decide +kernel
theorem dX0_findLast_16 : decode cX0_findLast 16 = .ok (.iload_n 3, 1) := by decide +kernel
theorem dX0_findLast_17 : decode cX0_findLast 17 = .ok (.iaload, 1) := by decide +kernel
theorem dX0_findLast_18 : decode cX0_findLast 18 = .ok (.iload_n 1, 1) := by decide +kernel
theorem dX0_findLast_19 : decode cX0_findLast 19 = .ok (.if_icmp .ne 25, 3) := by decide +kernel
theorem dX0_findLast_22 : decode cX0_findLast 22 = .ok (.iload_n 2, 1) := by decide +kernel
theorem dX0_findLast_23 : decode cX0_findLast 23 = .ok (.iconst (-1), 1) := by decide +kernel
theorem dX0_findLast_24 : decode cX0_findLast 24 = .ok (.if_icmp .eq 18, 3) := by decide +kernel
theorem dX0_findLast_27 : decode cX0_findLast 27 = .ok (.aload_n 0, 1) := by decide +kernel
theorem dX0_findLast_28 : decode cX0_findLast 28 = .ok (.aload_n 0, 1) := by decide +kernel
theorem dX0_findLast_29 : decode cX0_findLast 29 = .ok (.getfield 13, 3) := by decide +kernel
theorem dX0_findLast_32 : decode cX0_findLast 32 = .ok (.iload_n 1, 1) := by decide +kernel
theorem dX0_findLast_33 : decode cX0_findLast 33 = .ok (.iaload, 1) := by decide +kernel
theorem dX0_findLast_34 : decode cX0_findLast 34 = .ok (.iload_n 2, 1) := by decide +kernel
theorem dX0_findLast_35 : decode cX0_findLast 35 = .ok (.iload_n 3, 1) := by decide +kernel
theorem dX0_findLast_36 : decode cX0_findLast 36 = .ok (.invokevirtual 108, 3) := by decide +kernel
theorem dX0_findLast_39 : decode cX0_findLast 39 = .ok (.ifCond .eq 5, 3) := by decide +kernel
theorem dX0_findLast_42 : decode cX0_findLast 42 = .ok (.iload_n 3, 1) := by decide +kernel
theorem dX0_findLast_43 : decode cX0_findLast 43 = .ok (.istore_n 2, 1) := by decide +kernel
theorem dX0_findLast_44 : decode cX0_findLast 44 = .ok (.iinc 3 1, 3) := by decide +kernel
theorem dX0_findLast_47 : decode cX0_findLast 47 = .ok (.goto (-43), 3) := by decide +kernel
theorem dX0_findLast_50 : decode cX0_findLast 50 = .ok (.iload_n 2, 1) := by decide +kernel
theorem dX0_findLast_51 : decode cX0_findLast 51 = .ok (.ireturn, 1) := by decide +kernel
theorem dX0_countEntries_0 : decode cX0_countEntries 0 = .ok (.iconst 0, 1) := by decide +kernel
theorem dX0_countEntries_1 : decode cX0_countEntries 1 = .ok (.istore_n 2, 1) := by decide +kernel
theorem dX0_countEntries_2 : decode cX0_countEntries 2 = .ok (.iconst 0, 1) := by decide +kernel
theorem dX0_countEntries_3 : decode cX0_countEntries 3 = .ok (.istore_n 3, 1) := by decide +kernel
theorem dX0_countEntries_4 : decode cX0_countEntries 4 = .ok (.iload_n 3, 1) := by decide +kernel
theorem dX0_countEntries_5 : decode cX0_countEntries 5 = .ok (.aload_n 0, 1) := by decide +kernel
theorem dX0_countEntries_6 : decode cX0_countEntries 6 = .ok (.getfield 37, 3) := by decide +kernel
theorem dX0_countEntries_9 : decode cX0_countEntries 9 = .ok (.if_icmp .ge 22, 3) := by decide +kernel
theorem dX0_countEntries_12 : decode cX0_countEntries 12 = .ok (.aload_n 0, 1) := by decide +kernel
theorem dX0_countEntries_13 : decode cX0_countEntries 13 = .ok (.getfield 34, 3) := by decide +kernel
theorem dX0_countEntries_16 : decode cX0_countEntries 16 = .ok (.iload_n 3, 1) := by decide +kernel
theorem dX0_countEntries_17 : decode cX0_countEntries 17 = .ok (.iaload, 1) := by decide +kernel
theorem dX0_countEntries_18 : decode cX0_countEntries 18 = .ok (.iload_n 1, 1) := by decide +kernel
theorem dX0_countEntries_19 : decode cX0_countEntries 19 = .ok (.if_icmp .ne 6, 3) := by decide +kernel
theorem dX0_countEntries_22 : decode cX0_countEntries 22 = .ok (.iinc 2 1, 3) := by decide +kernel
theorem dX0_countEntries_25 : decode cX0_countEntries 25 = .ok (.iinc 3 1, 3) := by decide +kernel
theorem dX0_countEntries_28 : decode cX0_countEntries 28 = .ok (.goto (-24), 3) := by decide +kernel
theorem dX0_countEntries_31 : decode cX0_countEntries 31 = .ok (.iload_n 2, 1) := by decide +kernel
theorem dX0_countEntries_32 : decode cX0_countEntries 32 = .ok (.ireturn, 1) := by decide +kernel
set_option maxRecDepth 20000 in
theorem ggX0_countBefore_X0_isBefore : GoodIn wsX0_countBefore wsX0_isBefore := goodIn_r _ [8, 9, 10, 11, 7, 12, 13, 14, 15, 16, 17, 18, 19, 20, 21, 22, 23, 24] (by decide +kernel) (by decide +kernel)
set_option maxRecDepth 20000 in
theorem gX0_countBefore_X0_isBefore : GoodIn wsX0_countBefore (wsV RX0 108 RX0 yX0_isBefore wsX0_isBefore) := goodIn_app (goodIn_of _ (by decide +kernel)) ggX0_countBefore_X0_isBefore
theorem dX0_countBefore_0 : decode cX0_countBefore 0 = .ok (.iconst 0, 1) := by decide +kernel
theorem dX0_countBefore_1 : decode cX0_countBefore 1 = .ok (.istore_n 3, 1) := by decide +kernel
theorem dX0_countBefore_2 : decode cX0_countBefore 2 = .ok (.iconst 0, 1) := by decide +kernel
theorem dX0_countBefore_3 : decode cX0_countBefore 3 = .ok (.istore 4, 2) := by decide +kernel
theorem dX0_countBefore_5 : decode cX0_countBefore 5 = .ok (.iload 4, 2) := by decide +kernel
theorem dX0_countBefore_7 : decode cX0_countBefore 7 = .ok (.aload_n 0, 1) := by decide +kernel
theorem dX0_countBefore_8 : decode cX0_countBefore 8 = .ok (.getfield 37, 3) := by decide +kernel
theorem dX0_countBefore_11 : decode cX0_countBefore 11 = .ok (.if_icmp .ge 39, 3) := by decide +kernel
theorem dX0_countBefore_14 : decode cX0_countBefore 14 = .ok (.aload_n 0, 1) := by decide +kernel
theorem dX0_countBefore_15 : decode cX0_countBefore 15 = .ok (.getfield 34, 3) := by decide +kernel
theorem dX0_countBefore_18 : decode cX0_countBefore 18 = .ok (.iload 4, 2) := by decide +kernel
theorem dX0_countBefore_20 : decode cX0_countBefore 20 = .ok (.iaload, 1) := by decide +kernel
theorem dX0_countBefore_21 : decode cX0_countBefore 21 = .ok (.iload_n 1, 1) := by decide +kernel
theorem dX0_countBefore_22 : decode cX0_countBefore 22 = .ok (.if_icmp .ne 22, 3) := by decide +kernel
theorem dX0_countBefore_25 : decode cX0_countBefore 25 = .ok (.aload_n 0, 1) := by decide +kernel
theorem dX0_countBefore_26 : decode cX0_countBefore 26 = .ok (.aload_n 0, 1) := by decide +kernel
theorem dX0_countBefore_27 : decode cX0_countBefore 27 = .ok (.getfield 13, 3) := by decide +kernel
theorem dX0_countBefore_30 : decode cX0_countBefore 30 = .ok (.iload_n 1, 1) := by decide +kernel
theorem dX0_countBefore_31 : decode cX0_countBefore 31 = .ok (.iaload, 1) := by decide +kernel
theorem dX0_countBefore_32 : decode cX0_countBefore 32 = .ok (.iload 4, 2) := by decide +kernel
theorem dX0_countBefore_34 : decode cX0_countBefore 34 = .ok (.iload_n 2, 1) := by decide +kernel
theorem dX0_countBefore_35 : decode cX0_countBefore 35 = .ok (.invokevirtual 108, 3) := by decide +kernel
theorem dX0_countBefore_38 : decode cX0_countBefore 38 = .ok (.ifCond .eq 6, 3) := by decide +kernel
theorem dX0_countBefore_41 : decode cX0_countBefore 41 = .ok (.iinc 3 1, 3) := by decide +kernel
theorem dX0_countBefore_44 : decode cX0_countBefore 44 = .ok (.iinc 4 1, 3) := by decide +kernel
theorem dX0_countBefore_47 : decode cX0_countBefore 47 = .ok (.goto (-42), 3) := by decide +kernel
theorem dX0_countBefore_50 : decode cX0_countBefore 50 = .ok (.iload_n 3, 1) := by decide +kernel
theorem dX0_countBefore_51 : decode cX0_countBefore 51 = .ok (.ireturn, 1) := by decide +kernel
theorem dX0_handOverAll_0 : decode cX0_handOverAll 0 = .ok (.iconst 0, 1) := by decide +kernel
theorem dX0_handOverAll_1 : decode cX0_handOverAll 1 = .ok (.istore_n 3, 1) := by decide +kernel
theorem dX0_handOverAll_2 : decode cX0_handOverAll 2 = .ok (.iconst 0, 1) := by decide +kernel
theorem dX0_handOverAll_3 : decode cX0_handOverAll 3 = .ok (.istore 4, 2) := by decide +kernel
theorem dX0_handOverAll_5 : decode cX0_handOverAll 5 = .ok (.iload 4, 2) := by decide +kernel
theorem dX0_handOverAll_7 : decode cX0_handOverAll 7 = .ok (.aload_n 0, 1) := by decide +kernel
theorem dX0_handOverAll_8 : decode cX0_handOverAll 8 = .ok (.getfield 37, 3) := by decide +kernel
theorem dX0_handOverAll_11 : decode cX0_handOverAll 11 = .ok (.if_icmp .ge 31, 3) := by decide +kernel
theorem dX0_handOverAll_14 : decode cX0_handOverAll 14 = .ok (.aload_n 0, 1) := by decide +kernel
theorem dX0_handOverAll_15 : decode cX0_handOverAll 15 = .ok (.getfield 34, 3) := by decide +kernel
theorem dX0_handOverAll_18 : decode cX0_handOverAll 18 = .ok (.iload 4, 2) := by decide +kernel
theorem dX0_handOverAll_20 : decode cX0_handOverAll 20 = .ok (.iaload, 1) := by decide +kernel
theorem dX0_handOverAll_21 : decode cX0_handOverAll 21 = .ok (.iload_n 1, 1) := by decide +kernel
theorem dX0_handOverAll_22 : decode cX0_handOverAll 22 = .ok (.if_icmp .ne 14, 3) := by decide +kernel
theorem dX0_handOverAll_25 : decode cX0_handOverAll 25 = .ok (.aload_n 0, 1) := by decide +kernel
theorem dX0_handOverAll_26 : decode cX0_handOverAll 26 = .ok (.getfield 34, 3) := by decide +kernel
theorem dX0_handOverAll_29 : decode cX0_handOverAll 29 = .ok (.iload 4, 2) := by decide +kernel
theorem dX0_handOverAll_31 : decode cX0_handOverAll 31 = .ok (.iload_n 2, 1) := by decide +kernel
theorem dX0_handOverAll_32 : decode cX0_handOverAll 32 = .ok (.iastore, 1) := by decide +kernel
theorem dX0_handOverAll_33 : decode cX0_handOverAll 33 = .ok (.iinc 3 1, 3) := by decide +kernel
theorem dX0_handOverAll_36 : decode cX0_handOverAll 36 = .ok (.iinc 4 1, 3) := by decide +kernel
theorem dX0_handOverAll_39 : decode cX0_handOverAll 39 = .ok (.goto (-34), 3) := by decide +kernel
theorem dX0_handOverAll_42 : decode cX0_handOverAll 42 = .ok (.iload_n 3, 1) := by decide +kernel
theorem dX0_handOverAll_43 : decode cX0_handOverAll 43 = .ok (.ireturn, 1) := by decide +kernel
theorem dX1_init_0 : decode cX1_init 0 = .ok (.aload_n 0, 1) := by decide +kernel
theorem dX1_init_1 : decode cX1_init 1 = .ok (.invokespecial 1, 3) := by decide +kernel
theorem dX1_init_4 : decode cX1_init 4 = .ok (.aload_n 0, 1) := by decide +kernel
theorem dX1_init_5 : decode cX1_init 5 = .ok (.bipush 12, 2) := by decide +kernel
theorem dX1_init_7 : decode cX1_init 7 = .ok (.newarray .int, 2) := by decide +kernel
theorem dX1_init_9 : decode cX1_init 9 = .ok (.putfield 7, 3) := by decide +kernel
theorem dX1_init_12 : decode cX1_init 12 = .ok (.aload_n 0, 1) := by decide +kernel
theorem dX1_init_13 : decode cX1_init 13 = .ok (.bipush 12, 2) := by decide +kernel
theorem dX1_init_15 : decode cX1_init 15 = .ok (.newarray .int, 2) := by decide +kernel
theorem dX1_init_17 : decode cX1_init 17 = .ok (.putfield 13, 3) := by decide +kernel
theorem dX1_init_20 : decode cX1_init 20 = .ok (.aload_n 0, 1) := by decide +kernel
theorem dX1_init_21 : decode cX1_init 21 = .ok (.bipush 12, 2) := by decide +kernel
theorem dX1_init_23 : decode cX1_init 23 = .ok (.newarray .boolean, 2) := by decide +kernel
theorem dX1_init_25 : decode cX1_init 25 = .ok (.putfield 16, 3) := by decide +kernel
theorem dX1_init_28 : decode cX1_init 28 = .ok (.aload_n 0, 1) := by decide +kernel
theorem dX1_init_29 : decode cX1_init 29 = .ok (.bipush 12, 2) := by decide +kernel
theorem dX1_init_31 : decode cX1_init 31 = .ok (.newarray .long, 2) := by decide +kernel
theorem dX1_init_33 : decode cX1_init 33 = .ok (.putfield 20, 3) := by decide +kernel
theorem dX1_init_36 : decode cX1_init 36 = .ok (.aload_n 0, 1) := by decide +kernel
theorem dX1_init_37 : decode cX1_init 37 = .ok (.sipush 160, 3) := by decide +kernel
theorem dX1_init_40 : decode cX1_init 40 = .ok (.newarray .long, 2) := by decide +kernel
theorem dX1_init_42 : decode cX1_init 42 = .ok (.putfield 24, 3) := by decide +kernel
theorem dX1_init_45 : decode cX1_init 45 = .ok (.aload_n 0, 1) := by decide +kernel
theorem dX1_init_46 : decode cX1_init 46 = .ok (.sipush 160, 3) := by decide +kernel
theorem dX1_init_49 : decode cX1_init 49 = .ok (.newarray .int, 2) := by decide +kernel
theorem dX1_init_51 : decode cX1_init 51 = .ok (.putfield 27, 3) := by decide +kernel
theorem dX1_init_54 : decode cX1_init 54 = .ok (.aload_n 0, 1) := by decide +kernel
theorem dX1_init_55 : decode cX1_init 55 = .ok (.sipush 160, 3) := by decide +kernel
theorem dX1_init_58 : decode cX1_init 58 = .ok (.newarray .int, 2) := by decide +kernel
theorem dX1_init_60 : decode cX1_init 60 = .ok (.putfield 30, 3) := by decide +kernel
theorem dX1_init_63 : decode cX1_init 63 = .ok (.return_, 1) := by decide +kernel
theorem dX1_wrongHeap_0 : decode cX1_wrongHeap 0 = .ok (.iload_n 1, 1) := by decide +kernel
theorem dX1_wrongHeap_1 : decode cX1_wrongHeap 1 = .ok (.ifCond .lt 11, 3) := by decide +kernel
theorem dX1_wrongHeap_4 : decode cX1_wrongHeap 4 = .ok (.iload_n 1, 1) := by decide +kernel
theorem dX1_wrongHeap_5 : decode cX1_wrongHeap 5 = .ok (.aload_n 0, 1) := by decide +kernel
theorem dX1_wrongHeap_6 : decode cX1_wrongHeap 6 = .ok (.getfield 33, 3) := by decide +kernel
theorem dX1_wrongHeap_9 : decode cX1_wrongHeap 9 = .ok (.if_icmp .lt 6, 3) := by decide +kernel
theorem dX1_wrongHeap_12 : decode cX1_wrongHeap 12 = .ok (.bipush (-2), 2) := by decide +kernel
theorem dX1_wrongHeap_14 : decode cX1_wrongHeap 14 = .ok (.ireturn, 1) := by decide +kernel
theorem dX1_wrongHeap_15 : decode cX1_wrongHeap 15 = .ok (.aload_n 0, 1) := by decide +kernel
theorem dX1_wrongHeap_16 : decode cX1_wrongHeap 16 = .ok (.getfield 16, 3) := by decide +kernel
theorem dX1_wrongHeap_19 : decode cX1_wrongHeap 19 = .ok (.iload_n 1, 1) := by decide +kernel
theorem dX1_wrongHeap_20 : decode cX1_wrongHeap 20 = .ok (.baload, 1) := by decide +kernel
theorem dX1_wrongHeap_21 : decode cX1_wrongHeap 21 = .ok (.ifCond .eq 8, 3) := by decide +kernel
theorem dX1_wrongHeap_24 : decode cX1_wrongHeap 24 = .ok (.bipush (-3), 2) := by decide +kernel
theorem dX1_wrongHeap_26 : decode cX1_wrongHeap 26 = .ok (.goto 4, 3) := by decide +kernel
theorem dX1_wrongHeap_29 : decode cX1_wrongHeap 29 = .ok (.iconst 0, 1) := by decide +kernel
theorem dX1_wrongHeap_30 : decode cX1_wrongHeap 30 = .ok (.ireturn, 1) := by decide +kernel
theorem dX1_weight_0 : decode cX1_weight 0 = .ok (.aload_n 0, 1) := by decide +kernel
theorem dX1_weight_1 : decode cX1_weight 1 = .ok (.getfield 13, 3) := by decide +kernel
theorem dX1_weight_4 : decode cX1_weight 4 = .ok (.iload_n 1, 1) := by decide +kernel
theorem dX1_weight_5 : decode cX1_weight 5 = .ok (.iaload, 1) := by decide +kernel
theorem dX1_weight_6 : decode cX1_weight 6 = .ok (.istore 4, 2) := by decide +kernel
theorem dX1_weight_8 : decode cX1_weight 8 = .ok (.iload 4, 2) := by decide +kernel
theorem dX1_weight_10 : decode cX1_weight 10 = .ok (.ifCond .ne 5, 3) := by decide +kernel
theorem dX1_weight_13 : decode cX1_weight 13 = .ok (.lload_n 2, 1) := by decide +kernel
theorem dX1_weight_14 : decode cX1_weight 14 = .ok (.lreturn, 1) := by decide +kernel
theorem dX1_weight_15 : decode cX1_weight 15 = .ok (.iload 4, 2) := by decide +kernel
theorem dX1_weight_17 : decode cX1_weight 17 = .ok (.iconst 1, 1) := by decide +kernel
theorem dX1_weight_18 : decode cX1_weight 18 = .ok (.if_icmp .ne 9, 3) := by decide +kernel
theorem dX1_weight_21 : decode cX1_weight 21 = .ok (.ldc2_w 40, 3) := by decide +kernel
theorem dX1_weight_24 : decode cX1_weight 24 = .ok (.lload_n 2, 1) := by decide +kernel
theorem dX1_weight_25 : decode cX1_weight 25 = .ok (.lsub, 1) := by decide +kernel
theorem dX1_weight_26 : decode cX1_weight 26 = .ok (.lreturn, 1) := by decide +kernel
theorem dX1_weight_27 : decode cX1_weight 27 = .ok (.iload 4, 2) := by decide +kernel
theorem dX1_weight_29 : decode cX1_weight 29 = .ok (.iconst 2, 1) := by decide +kernel
theorem dX1_weight_30 : decode cX1_weight 30 = .ok (.if_icmp .ne 11, 3) := by decide +kernel
theorem dX1_weight_33 : decode cX1_weight 33 = .ok (.lload_n 2, 1) := by decide +kernel
theorem dX1_weight_34 : decode cX1_weight 34 = .ok (.ldc2_w 42, 3) := by decide +kernel
theorem dX1_weight_37 : decode cX1_weight 37 = .ok (.lxor, 1) := by decide +kernel
theorem dX1_weight_38 : decode cX1_weight 38 = .ok (.goto 8, 3) := by decide +kernel
theorem dX1_weight_41 : decode cX1_weight 41 = .ok (.lload_n 2, 1) := by decide +kernel
theorem dX1_weight_42 : decode cX1_weight 42 = .ok (.ldc2_w 44, 3) := by decide +kernel
theorem dX1_weight_45 : decode cX1_weight 45 = .ok (.land, 1) := by decide +kernel
theorem dX1_weight_46 : decode cX1_weight 46 = .ok (.lreturn, 1) := by decide +kernel
set_option maxRecDepth 20000 in
theorem ggX1_isBelow_X1_weight : GoodIn wsX1_isBelow wsX1_weight := goodIn_r _ [7, 8, 9, 10, 11, 12, 13, 14, 15, 16, 17, 18, 19, 20] (by decide +kernel) (by decide +kernel)
set_option maxRecDepth 20000 in
theorem gX1_isBelow_X1_weight : GoodIn wsX1_isBelow (wsV RX1 46 RX1 yX1_weight wsX1_weight) := goodIn_app (goodIn_of _ (by decide +kernel)) ggX1_isBelow_X1_weight
theorem dX1_isBelow_0 : decode cX1_isBelow 0 = .ok (.aload_n 0, 1) := by decide +kernel
theorem dX1_isBelow_1 : decode cX1_isBelow 1 = .ok (.getfield 7, 3) := by decide +kernel
theorem dX1_isBelow_4 : decode cX1_isBelow 4 = .ok (.iload_n 1, 1) := by decide +kernel
theorem dX1_isBelow_5 : decode cX1_isBelow 5 = .ok (.iaload, 1) := by decide +kernel
theorem dX1_isBelow_6 : decode cX1_isBelow 6 = .ok (.iconst 2, 1) := by decide +kernel
theorem dX1_isBelow_7 : decode cX1_isBelow 7 = .ok (.if_icmp .ne 23, 3) := by decide +kernel
theorem dX1_isBelow_10 : decode cX1_isBelow 10 = .ok (.aload_n 0, 1) := by decide +kernel
theorem dX1_isBelow_11 : decode cX1_isBelow 11 = .ok (.iload_n 1, 1) := by decide +kernel
theorem dX1_isBelow_12 : decode cX1_isBelow 12 = .ok (.lload_n 2, 1) := by decide +kernel
theorem dX1_isBelow_13 : decode cX1_isBelow 13 = .ok (.invokevirtual 46, 3) := by decide +kernel
theorem dX1_isBelow_16 : decode cX1_isBelow 16 = .ok (.aload_n 0, 1) := by decide +kernel
theorem dX1_isBelow_17 : decode cX1_isBelow 17 = .ok (.getfield 20, 3) := by decide +kernel
theorem dX1_isBelow_20 : decode cX1_isBelow 20 = .ok (.iload_n 1, 1) := by decide +kernel
theorem dX1_isBelow_21 : decode cX1_isBelow 21 = .ok (.laload, 1) := by decide +kernel
theorem dX1_isBelow_22 : decode cX1_isBelow 22 = .ok (.lcmp, 1) := by decide +kernel
theorem dX1_isBelow_23 : decode cX1_isBelow 23 = .ok (.ifCond .ge 7, 3) := by decide +kernel
theorem dX1_isBelow_26 : decode cX1_isBelow 26 = .ok (.iconst 1, 1) := by decide +kernel
theorem dX1_isBelow_27 : decode cX1_isBelow 27 = .ok (.goto 4, 3) := by decide +kernel
theorem dX1_isBelow_30 : decode cX1_isBelow 30 = .ok (.iconst 0, 1) := by decide +kernel
theorem dX1_isBelow_31 : decode cX1_isBelow 31 = .ok (.ireturn, 1) := by decide +kernel
theorem dX1_open_0 : decode cX1_open 0 = .ok (.iload_n 1, 1) := by decide +kernel
theorem dX1_open_1 : decode cX1_open 1 = .ok (.ifCond .lt 17, 3) := by decide +kernel
theorem dX1_open_4 : decode cX1_open 4 = .ok (.iload_n 1, 1) := by decide +kernel
theorem dX1_open_5 : decode cX1_open 5 = .ok (.iconst 2, 1) := by decide +kernel
theorem dX1_open_6 : decode cX1_open 6 = .ok (.if_icmp .gt 12, 3) := by decide +kernel
theorem dX1_open_9 : decode cX1_open 9 = .ok (.iload_n 2, 1) := by decide +kernel
theorem dX1_open_10 : decode cX1_open 10 = .ok (.ifCond .lt 8, 3) := by decide +kernel
theorem dX1_open_13 : decode cX1_open 13 = .ok (.iload_n 2, 1) := by decide +kernel
theorem dX1_open_14 : decode cX1_open 14 = .ok (.iconst 3, 1) := by decide +kernel
theorem dX1_open_15 : decode cX1_open 15 = .ok (.if_icmp .le 6, 3) := by decide +kernel
theorem dX1_open_18 : decode cX1_open 18 = .ok (.bipush (-2), 2) := by decide +kernel
theorem dX1_open_20 : decode cX1_open 20 = .ok (.ireturn, 1) := by decide +kernel
theorem dX1_open_21 : decode cX1_open 21 = .ok (.aload_n 0, 1) := by decide +kernel
theorem dX1_open_22 : decode cX1_open 22 = .ok (.getfield 33, 3) := by decide +kernel
theorem dX1_open_25 : decode cX1_open 25 = .ok (.bipush 12, 2) := by decide +kernel
theorem dX1_open_27 : decode cX1_open 27 = .ok (.if_icmp .ne 6, 3) := by decide +kernel
theorem dX1_open_30 : decode cX1_open 30 = .ok (.bipush (-8), 2) := by decide +kernel
theorem dX1_open_32 : decode cX1_open 32 = .ok (.ireturn, 1) := by decide +kernel
theorem dX1_open_33 : decode cX1_open 33 = .ok (.aload_n 0, 1) := by decide +kernel
theorem dX1_open_34 : decode cX1_open 34 = .ok (.getfield 7, 3) := by decide +kernel
theorem dX1_open_37 : decode cX1_open 37 = .ok (.aload_n 0, 1) := by decide +kernel
theorem dX1_open_38 : decode cX1_open 38 = .ok (.getfield 33, 3) := by decide +kernel
theorem dX1_open_41 : decode cX1_open 41 = .ok (.iload_n 1, 1) := by decide +kernel
theorem dX1_open_42 : decode cX1_open 42 = .ok (.iastore, 1) := by decide +kernel
theorem dX1_open_43 : decode cX1_open 43 = .ok (.aload_n 0, 1) := by decide +kernel
theorem dX1_open_44 : decode cX1_open 44 = .ok (.getfield 13, 3) := by decide +kernel
theorem dX1_open_47 : decode cX1_open 47 = .ok (.aload_n 0, 1) := by decide +kernel
theorem dX1_open_48 : decode cX1_open 48 = .ok (.getfield 33, 3) := by decide +kernel
theorem dX1_open_51 : decode cX1_open 51 = .ok (.iload_n 2, 1) := by decide +kernel
theorem dX1_open_52 : decode cX1_open 52 = .ok (.iastore, 1) := by decide +kernel
theorem dX1_open_53 : decode cX1_open 53 = .ok (.aload_n 0, 1) := by decide +kernel
theorem dX1_open_54 : decode cX1_open 54 = .ok (.getfield 20, 3) := by decide +kernel
theorem dX1_open_57 : decode cX1_open 57 = .ok (.aload_n 0, 1) := by decide +kernel
theorem dX1_open_58 : decode cX1_open 58 = .ok (.getfield 33, 3) := by decide +kernel
theorem dX1_open_61 : decode cX1_open 61 = .ok (.ldc2_w 42, 3) := by decide +kernel
theorem dX1_open_64 : decode cX1_open 64 = .ok (.lastore, 1) := by decide +kernel
theorem dX1_open_65 : decode cX1_open 65 = .ok (.aload_n 0, 1) := by decide +kernel
theorem dX1_open_66 : decode cX1_open 66 = .ok (.dup, 1) := by decide +kernel
theorem dX1_open_67 : decode cX1_open 67 = .ok (.getfield 33, 3) := by decide +kernel
theorem dX1_open_70 : decode cX1_open 70 = .ok (.iconst 1, 1) := by decide +kernel
theorem dX1_open_71 : decode cX1_open 71 = .ok (.iadd, 1) := by decide +kernel
theorem dX1_open_72 : decode cX1_open 72 = .ok (.putfield 33, 3) := by decide +kernel
theorem dX1_open_75 : decode cX1_open 75 = .ok (.aload_n 0, 1) := by decide +kernel
theorem dX1_open_76 : decode cX1_open 76 = .ok (.getfield 33, 3) := by decide +kernel
theorem dX1_open_79 : decode cX1_open 79 = .ok (.iconst 1, 1) := by decide +kernel
theorem dX1_open_80 : decode cX1_open 80 = .ok (.isub, 1) := by decide +kernel
theorem dX1_open_81 : decode cX1_open 81 = .ok (.ireturn, 1) := by decide +kernel
set_option maxRecDepth 20000 in
theorem ggX1_insert_X1_wrongHeap : GoodIn wsX1_insert wsX1_wrongHeap := goodIn_r _ [9, 10, 11, 26, 27, 28, 29, 30, 31, 32, 33, 34] (by decide +kernel) (by decide +kernel)
set_option maxRecDepth 20000 in
theorem gX1_insert_X1_wrongHeap : GoodIn wsX1_insert (wsV RX1 50 RX1 yX1_wrongHeap wsX1_wrongHeap) := goodIn_app (goodIn_of _ (by decide +kernel)) ggX1_insert_X1_wrongHeap
set_option maxRecDepth 20000 in
theorem ggX1_insert_X1_isBelow : GoodIn wsX1_insert wsX1_isBelow := goodIn_r _ [15, 16, 17, 18, 19, 20, 8, 21, 22, 23, 24, 25, 26, 27, 28, 29, 30, 31, 32, 33, 34] (by decide +kernel) (by decide +kernel)
set_option maxRecDepth 20000 in
theorem gX1_insert_X1_isBelow : GoodIn wsX1_insert (wsV RX1 54 RX1 yX1_isBelow wsX1_isBelow) := goodIn_app (goodIn_of _ (by decide +kernel)) ggX1_insert_X1_isBelow
theorem dX1_insert_0 : decode cX1_insert 0 = .ok (.aload_n 0, 1) := by decide +kernel
theorem dX1_insert_1 : decode cX1_insert 1 = .ok (.iload_n 1, 1) := by decide +kernel
theorem dX1_insert_2 : decode cX1_insert 2 = .ok (.invokevirtual 50, 3) := by decide +kernel
theorem dX1_insert_5 : decode cX1_insert 5 = .ok (.istore 5, 2) := by decide +kernel
theorem dX1_insert_7 : decode cX1_insert 7 = .ok (.iload 5, 2) := by decide +kernel
theorem dX1_insert_9 : decode cX1_insert 9 = .ok (.ifCond .eq 6, 3) := by decide +kernel
theorem dX1_insert_12 : decode cX1_insert 12 = .ok (.iload 5, 2) := by decide +kernel
theorem dX1_insert_14 : decode cX1_insert 14 = .ok (.ireturn, 1) := by decide +kernel
theorem dX1_insert_15 : decode cX1_insert 15 = .ok (.aload_n 0, 1) := by decide +kernel
theorem dX1_insert_16 : decode cX1_insert 16 = .ok (.iload_n 1, 1) := by decide +kernel
theorem dX1_insert_17 : decode cX1_insert 17 = .ok (.lload_n 2, 1) := by decide +kernel
theorem dX1_insert_18 : decode cX1_insert 18 = .ok (.invokevirtual 54, 3) := by decide +kernel
theorem dX1_insert_21 : decode cX1_insert 21 = .ok (.ifCond .eq 6, 3) := by decide +kernel
theorem dX1_insert_24 : decode cX1_insert 24 = .ok (.bipush (-6), 2) := by decide +kernel
theorem dX1_insert_26 : decode cX1_insert 26 = .ok (.ireturn, 1) := by decide +kernel
theorem dX1_insert_27 : decode cX1_insert 27 = .ok (.aload_n 0, 1) := by decide +kernel
theorem dX1_insert_28 : decode cX1_insert 28 = .ok (.getfield 37, 3) := by decide +kernel
theorem dX1_insert_31 : decode cX1_insert 31 = .ok (.sipush 160, 3) := by decide +kernel
theorem dX1_insert_34 : decode cX1_insert 34 = .ok (.if_icmp .ne 6, 3) := by decide +kernel
theorem dX1_insert_37 : decode cX1_insert 37 = .ok (.bipush (-8), 2) := by decide +kernel
theorem dX1_insert_39 : decode cX1_insert 39 = .ok (.ireturn, 1) := by decide +kernel
theorem dX1_insert_40 : decode cX1_insert 40 = .ok (.aload_n 0, 1) := by decide +kernel
theorem dX1_insert_41 : decode cX1_insert 41 = .ok (.getfield 24, 3) := by decide +kernel
theorem dX1_insert_44 : decode cX1_insert 44 = .ok (.aload_n 0, 1) := by decide +kernel
theorem dX1_insert_45 : decode cX1_insert 45 = .ok (.getfield 37, 3) := by decide +kernel
theorem dX1_insert_48 : decode cX1_insert 48 = .ok (.lload_n 2, 1) := by decide +kernel
theorem dX1_insert_49 : decode cX1_insert 49 = .ok (.lastore, 1) := by decide +kernel
theorem dX1_insert_50 : decode cX1_insert 50 = .ok (.aload_n 0, 1) := by decide +kernel
theorem dX1_insert_51 : decode cX1_insert 51 = .ok (.getfield 27, 3) := by decide +kernel
theorem dX1_insert_54 : decode cX1_insert 54 = .ok (.aload_n 0, 1) := by decide +kernel
theorem dX1_insert_55 : decode cX1_insert 55 = .ok (.getfield 37, 3) := by decide +kernel
theorem dX1_insert_58 : decode cX1_insert 58 = .ok (.iload 4, 2) := by decide +kernel
theorem dX1_insert_60 : decode cX1_insert 60 = .ok (.iastore, 1) := by decide +kernel
theorem dX1_insert_61 : decode cX1_insert 61 = .ok (.aload_n 0, 1) := by decide +kernel
theorem dX1_insert_62 : decode cX1_insert 62 = .ok (.getfield 30, 3) := by decide +kernel
theorem dX1_insert_65 : decode cX1_insert 65 = .ok (.aload_n 0, 1) := by decide +kernel
theorem dX1_insert_66 : decode cX1_insert 66 = .ok (.getfield 37, 3) := by decide +kernel
theorem dX1_insert_69 : decode cX1_insert 69 = .ok (.iload_n 1, 1) := by decide +kernel
theorem dX1_insert_70 : decode cX1_insert 70 = .ok (.iastore, 1) := by decide +kernel
theorem dX1_insert_71 : decode cX1_insert 71 = .ok (.aload_n 0, 1) := by decide +kernel
theorem dX1_insert_72 : decode cX1_insert 72 = .ok (.dup, 1) := by decide +kernel
theorem dX1_insert_73 : decode cX1_insert 73 = .ok (.getfield 37, 3) := by decide +kernel
theorem dX1_insert_76 : decode cX1_insert 76 = .ok (.iconst 1, 1) := by decide +kernel
theorem dX1_insert_77 : decode cX1_insert 77 = .ok (.iadd, 1) := by decide +kernel
theorem dX1_insert_78 : decode cX1_insert 78 = .ok (.putfield 37, 3) := by decide +kernel
theorem dX1_insert_81 : decode cX1_insert 81 = .ok (.aload_n 0, 1) := by decide +kernel
theorem dX1_insert_82 : decode cX1_insert 82 = .ok (.getfield 37, 3) := by decide +kernel
theorem dX1_insert_85 : decode cX1_insert 85 = .ok (.iconst 1, 1) := by decide +kernel
theorem dX1_insert_86 : decode cX1_insert 86 = .ok (.isub, 1) := by decide +kernel
theorem dX1_insert_87 : decode cX1_insert 87 = .ok (.ireturn, 1) := by decide +kernel
set_option maxRecDepth 20000 in
theorem ggX1_first_X1_wrongHeap : GoodIn wsX1_first wsX1_wrongHeap := goodIn_r _ [5, 6, 7, 8, 9, 10, 11, 12, 13, 14, 15, 16] (by decide +kernel) (by decide +kernel)
set_option maxRecDepth 20000 in
theorem gX1_first_X1_wrongHeap : GoodIn wsX1_first (wsV RX1 50 RX1 yX1_wrongHeap wsX1_wrongHeap) := goodIn_app (goodIn_of _ (by decide +kernel)) ggX1_first_X1_wrongHeap
theorem dX1_first_0 : decode cX1_first 0 = .ok (.aload_n 0, 1) := by decide +kernel
theorem dX1_first_1 : decode cX1_first 1 = .ok (.iload_n 1, 1) := by decide +kernel
theorem dX1_first_2 : decode cX1_first 2 = .ok (.invokevirtual 50, 3) := by decide +kernel
theorem dX1_first_5 : decode cX1_first 5 = .ok (.istore_n 2, 1) := by decide +kernel
theorem dX1_first_6 : decode cX1_first 6 = .ok (.iload_n 2, 1) := by decide +kernel
theorem dX1_first_7 : decode cX1_first 7 = .ok (.ifCond .eq 7, 3) := by decide +kernel
theorem dX1_first_10 : decode cX1_first 10 = .ok (.iload_n 2, 1) := by decide +kernel
theorem dX1_first_11 : decode cX1_first 11 = .ok (.goto 9, 3) := by decide +kernel
theorem dX1_first_14 : decode cX1_first 14 = .ok (.aload_n 0, 1) := by decide +kernel
theorem dX1_first_15 : decode cX1_first 15 = .ok (.iload_n 1, 1) := by decide +kernel
theorem dX1_first_16 : decode cX1_first 16 = .ok (.iconst 1, 1) := by decide +kernel
theorem dX1_first_17 : decode cX1_first 17 = .ok (.invokevirtual 58, 3) := by decide +kernel
theorem dX1_first_20 : decode cX1_first 20 = .ok (.ireturn, 1) := by decide +kernel
theorem dJ9_min_7cf53_0 : decode cJ9_min_7cf53 0 = .ok (.iload_n 0, 1) := by decide +kernel
theorem dJ9_min_7cf53_1 : decode cJ9_min_7cf53 1 = .ok (.iload_n 1, 1) := by decide +kernel
theorem dJ9_min_7cf53_2 : decode cJ9_min_7cf53 2 = .ok (.if_icmp .gt 7, 3) := by decide +kernel
theorem dJ9_min_7cf53_5 : decode cJ9_min_7cf53 5 = .ok (.iload_n 0, 1) := by decide +kernel
theorem dJ9_min_7cf53_6 : decode cJ9_min_7cf53 6 = .ok (.goto 4, 3) := by decide +kernel
theorem dJ9_min_7cf53_9 : decode cJ9_min_7cf53 9 = .ok (.iload_n 1, 1) := by decide +kernel
theorem dJ9_min_7cf53_10 : decode cJ9_min_7cf53 10 = .ok (.ireturn, 1) := by decide +kernel
set_option maxRecDepth 20000 in
theorem ggL_law_X0_init : GoodIn wsL_law wsX0_init := goodIn_r _ [8, 9, 10, 11, 12, 13, 14, 15, 16, 17, 18, 19, 20, 21, 22, 23, 201, 202, 203, 204, 205, 206, 207, 208, 209] (by decide +kernel) (by decide +kernel)
set_option maxRecDepth 20000 in
theorem gL_law_X0_init : GoodIn wsL_law (wsX0_init) := ggL_law_X0_init
set_option maxRecDepth 20000 in
theorem ggL_law_X1_init : GoodIn wsL_law wsX1_init := goodIn_r _ [26, 27, 10, 11, 12, 28, 29, 15, 30, 17, 31, 32, 33, 34, 210, 211, 212, 213, 214, 215, 216, 217, 218] (by decide +kernel) (by decide +kernel)
set_option maxRecDepth 20000 in
theorem gL_law_X1_init : GoodIn wsL_law (wsX1_init) := ggL_law_X1_init
set_option maxRecDepth 20000 in
theorem ggL_law_X0_open : GoodIn wsL_law wsX0_open := goodIn_r _ [38, 19, 13, 14, 16, 18, 39, 201, 202, 203, 204, 205, 206, 207, 208, 209] (by decide +kernel) (by decide +kernel)
set_option maxRecDepth 20000 in
theorem gL_law_X0_open : GoodIn wsL_law (wsV RL 13 RX0 yX0_open wsX0_open) := goodIn_app (goodIn_of _ (by decide +kernel)) ggL_law_X0_open
set_option maxRecDepth 20000 in
theorem ggL_law_X1_open : GoodIn wsL_law wsX1_open := goodIn_r _ [43, 44, 28, 29, 31, 45, 210, 211, 212, 213, 214, 215, 216, 217, 218] (by decide +kernel) (by decide +kernel)
set_option maxRecDepth 20000 in
theorem gL_law_X1_open : GoodIn wsL_law (wsV RL 17 RX1 yX1_open wsX1_open) := goodIn_app (goodIn_of _ (by decide +kernel)) ggL_law_X1_open
set_option maxRecDepth 20000 in
theorem ggL_law_X0_insert : GoodIn wsL_law wsX0_insert := goodIn_r _ [49, 23, 20, 21, 22, 50, 51, 52, 2, 53, 16, 54, 55, 56, 57, 19, 58, 59, 60, 61, 14, 18, 62, 63, 64, 65, 39, 66, 201, 202, 203, 204, 205, 206, 207, 208, 209] (by decide +kernel) (by decide +kernel)
set_option maxRecDepth 20000 in
theorem gL_law_X0_insert : GoodIn wsL_law (wsV RL 20 RX0 yX0_insert wsX0_insert) := goodIn_app (goodIn_of _ (by decide +kernel)) ggL_law_X0_insert
set_option maxRecDepth 20000 in
theorem ggL_law_X1_insert : GoodIn wsL_law wsX1_insert := goodIn_r _ [70, 71, 32, 33, 34, 72, 73, 74, 5, 75, 44, 30, 76, 77, 78, 79, 28, 31, 80, 81, 82, 83, 29, 84, 45, 85, 210, 211, 212, 213, 214, 215, 216, 217, 218] (by decide +kernel) (by decide +kernel)
set_option maxRecDepth 20000 in
theorem gL_law_X1_insert : GoodIn wsL_law (wsV RL 24 RX1 yX1_insert wsX1_insert) := goodIn_app (goodIn_of _ (by decide +kernel)) ggL_law_X1_insert
set_option maxRecDepth 20000 in
theorem ggL_law_X0_first : GoodIn wsL_law wsX0_first := goodIn_r _ [89, 50, 51, 52, 2, 53, 16, 54, 55, 56, 57, 19, 90, 91, 92, 93, 23, 22, 14, 94, 95, 96, 97, 20, 62, 63, 64, 65, 39, 66, 201, 202, 203, 204, 205, 206, 207, 208, 209] (by decide +kernel) (by decide +kernel)
set_option maxRecDepth 20000 in
theorem gL_law_X0_first : GoodIn wsL_law (wsV RL 25 RX0 yX0_first wsX0_first) := goodIn_app (goodIn_of _ (by decide +kernel)) ggL_law_X0_first
set_option maxRecDepth 20000 in
theorem ggL_law_X1_first : GoodIn wsL_law wsX1_first := goodIn_r _ [101, 72, 73, 74, 5, 75, 44, 30, 210, 211, 212, 213, 214, 215, 216, 217, 218] (by decide +kernel) (by decide +kernel)
set_option maxRecDepth 20000 in
theorem gL_law_X1_first : GoodIn wsL_law (wsV RL 29 RX1 yX1_first wsX1_first) := goodIn_app (goodIn_of _ (by decide +kernel)) ggL_law_X1_first
set_option maxRecDepth 20000 in
theorem ggL_law_X0_last : GoodIn wsL_law wsX0_last := goodIn_r _ [105, 106, 107, 108, 2, 109, 13, 50, 51, 52, 53, 16, 54, 55, 56, 57, 19, 110, 111, 112, 113, 23, 22, 14, 94, 95, 96, 97, 20, 62, 63, 64, 65, 39, 66, 201, 202, 203, 204, 205, 206, 207, 208, 209] (by decide +kernel) (by decide +kernel)
set_option maxRecDepth 20000 in
theorem gL_law_X0_last : GoodIn wsL_law (wsV RL 30 RX0 yX0_last wsX0_last) := goodIn_app (goodIn_of _ (by decide +kernel)) ggL_law_X0_last
set_option maxRecDepth 20000 in
theorem ggL_law_X0_take : GoodIn wsL_law wsX0_take := goodIn_r _ [117, 20, 22, 118, 87, 88, 2, 89, 50, 51, 52, 53, 16, 54, 55, 56, 57, 19, 90, 91, 92, 93, 23, 14, 94, 95, 96, 97, 62, 63, 64, 65, 39, 66, 119, 120, 121, 122, 13, 18, 201, 202, 203, 204, 205, 206, 207, 208, 209] (by decide +kernel) (by decide +kernel)
set_option maxRecDepth 20000 in
theorem gL_law_X0_take : GoodIn wsL_law (wsV RL 34 RX0 yX0_take wsX0_take) := goodIn_app (goodIn_of _ (by decide +kernel)) ggL_law_X0_take
set_option maxRecDepth 20000 in
theorem ggL_law_X0_takeLast : GoodIn wsL_law wsX0_takeLast := goodIn_r _ [126, 22, 127, 103, 104, 2, 105, 106, 107, 108, 109, 13, 50, 51, 52, 53, 16, 54, 55, 56, 57, 19, 110, 111, 112, 113, 23, 14, 94, 95, 96, 97, 20, 62, 63, 64, 65, 39, 66, 201, 202, 203, 204, 205, 206, 207, 208, 209] (by decide +kernel) (by decide +kernel)
set_option maxRecDepth 20000 in
theorem gL_law_X0_takeLast : GoodIn wsL_law (wsV RL 38 RX0 yX0_takeLast wsX0_takeLast) := goodIn_app (goodIn_of _ (by decide +kernel)) ggL_law_X0_takeLast
set_option maxRecDepth 20000 in
theorem ggL_law_X0_decrease : GoodIn wsL_law wsX0_decrease := goodIn_r _ [131, 22, 14, 20, 132, 133, 134, 2, 135, 136, 137, 138, 139, 23, 62, 63, 64, 65, 39, 66, 58, 59, 60, 61, 18, 90, 91, 92, 93, 94, 95, 96, 97, 201, 202, 203, 204, 205, 206, 207, 208, 209] (by decide +kernel) (by decide +kernel)
set_option maxRecDepth 20000 in
theorem gL_law_X0_decrease : GoodIn wsL_law (wsV RL 42 RX0 yX0_decrease wsX0_decrease) := goodIn_app (goodIn_of _ (by decide +kernel)) ggL_law_X0_decrease
set_option maxRecDepth 20000 in
theorem ggL_law_X0_delete : GoodIn wsL_law wsX0_delete := goodIn_r _ [143, 22, 144, 145, 146, 2, 147, 132, 133, 134, 135, 136, 137, 138, 139, 23, 201, 202, 203, 204, 205, 206, 207, 208, 209] (by decide +kernel) (by decide +kernel)
set_option maxRecDepth 20000 in
theorem gL_law_X0_delete : GoodIn wsL_law (wsV RL 47 RX0 yX0_delete wsX0_delete) := goodIn_app (goodIn_of _ (by decide +kernel)) ggL_law_X0_delete
set_option maxRecDepth 20000 in
theorem ggL_law_X0_meld : GoodIn wsL_law wsX0_meld := goodIn_r _ [151, 13, 14, 16, 152, 153, 154, 2, 155, 50, 51, 52, 53, 54, 55, 56, 57, 19, 156, 157, 158, 159, 23, 22, 160, 161, 162, 163, 201, 202, 203, 204, 205, 206, 207, 208, 209] (by decide +kernel) (by decide +kernel)
set_option maxRecDepth 20000 in
theorem gL_law_X0_meld : GoodIn wsL_law (wsV RL 51 RX0 yX0_meld wsX0_meld) := goodIn_app (goodIn_of _ (by decide +kernel)) ggL_law_X0_meld
set_option maxRecDepth 20000 in
theorem ggL_law_X0_drain : GoodIn wsL_law wsX0_drain := goodIn_r _ [167, 168, 169, 170, 171, 20, 22, 152, 153, 154, 2, 155, 50, 51, 52, 53, 16, 54, 55, 56, 57, 19, 160, 161, 162, 163, 23, 90, 91, 92, 93, 14, 94, 95, 96, 97, 62, 63, 64, 65, 39, 66, 58, 59, 60, 61, 18, 119, 120, 121, 122, 13, 201, 202, 203, 204, 205, 206, 207, 208, 209] (by decide +kernel) (by decide +kernel)
set_option maxRecDepth 20000 in
theorem gL_law_X0_drain : GoodIn wsL_law (wsV RL 55 RX0 yX0_drain wsX0_drain) := goodIn_app (goodIn_of _ (by decide +kernel)) ggL_law_X0_drain
set_option maxRecDepth 20000 in
theorem ggL_law_X0_clear : GoodIn wsL_law wsX0_clear := goodIn_r _ [175, 18, 39, 50, 51, 52, 2, 53, 16, 54, 55, 56, 57, 19, 156, 157, 158, 159, 23, 22, 201, 202, 203, 204, 205, 206, 207, 208, 209] (by decide +kernel) (by decide +kernel)
set_option maxRecDepth 20000 in
theorem gL_law_X0_clear : GoodIn wsL_law (wsV RL 60 RX0 yX0_clear wsX0_clear) := goodIn_app (goodIn_of _ (by decide +kernel)) ggL_law_X0_clear
set_option maxRecDepth 20000 in
theorem ggL_law_X0_size : GoodIn wsL_law wsX0_size := goodIn_r _ [179, 50, 51, 52, 2, 53, 16, 54, 55, 56, 57, 19, 160, 161, 162, 163, 23, 22, 201, 202, 203, 204, 205, 206, 207, 208, 209] (by decide +kernel) (by decide +kernel)
set_option maxRecDepth 20000 in
theorem gL_law_X0_size : GoodIn wsL_law (wsV RL 64 RX0 yX0_size wsX0_size) := goodIn_app (goodIn_of _ (by decide +kernel)) ggL_law_X0_size
set_option maxRecDepth 20000 in
theorem ggL_law_X0_floor : GoodIn wsL_law wsX0_floor := goodIn_r _ [183, 18, 39, 54, 55, 56, 2, 57, 19, 201, 202, 203, 204, 205, 206, 207, 208, 209] (by decide +kernel) (by decide +kernel)
set_option maxRecDepth 20000 in
theorem gL_law_X0_floor : GoodIn wsL_law (wsV RL 68 RX0 yX0_floor wsX0_floor) := goodIn_app (goodIn_of _ (by decide +kernel)) ggL_law_X0_floor
set_option maxRecDepth 20000 in
theorem ggL_law_X0_key : GoodIn wsL_law wsX0_key := goodIn_r _ [187, 20, 132, 133, 134, 2, 135, 22, 136, 137, 138, 139, 23, 201, 202, 203, 204, 205, 206, 207, 208, 209] (by decide +kernel) (by decide +kernel)
set_option maxRecDepth 20000 in
theorem gL_law_X0_key : GoodIn wsL_law (wsV RL 73 RX0 yX0_key wsX0_key) := goodIn_app (goodIn_of _ (by decide +kernel)) ggL_law_X0_key
set_option maxRecDepth 20000 in
theorem ggL_law_X0_value : GoodIn wsL_law wsX0_value := goodIn_r _ [191, 21, 132, 133, 134, 2, 135, 22, 136, 137, 138, 139, 23, 201, 202, 203, 204, 205, 206, 207, 208, 209] (by decide +kernel) (by decide +kernel)
set_option maxRecDepth 20000 in
theorem gL_law_X0_value : GoodIn wsL_law (wsV RL 77 RX0 yX0_value wsX0_value) := goodIn_app (goodIn_of _ (by decide +kernel)) ggL_law_X0_value
set_option maxRecDepth 20000 in
theorem ggL_law_X0_owner : GoodIn wsL_law wsX0_owner := goodIn_r _ [147, 22, 132, 133, 134, 2, 135, 136, 137, 138, 139, 23, 201, 202, 203, 204, 205, 206, 207, 208, 209] (by decide +kernel) (by decide +kernel)
set_option maxRecDepth 20000 in
theorem gL_law_X0_owner : GoodIn wsL_law (wsV RL 81 RX0 yX0_owner wsX0_owner) := goodIn_app (goodIn_of _ (by decide +kernel)) ggL_law_X0_owner
set_option maxRecDepth 20000 in
theorem ggL_law_X0_before : GoodIn wsL_law wsX0_before := goodIn_r _ [196, 22, 132, 133, 134, 2, 135, 136, 137, 138, 139, 23, 197, 198, 199, 200, 14, 94, 95, 96, 97, 20, 62, 63, 64, 65, 39, 66, 201, 202, 203, 204, 205, 206, 207, 208, 209] (by decide +kernel) (by decide +kernel)
set_option maxRecDepth 20000 in
theorem gL_law_X0_before : GoodIn wsL_law (wsV RL 85 RX0 yX0_before wsX0_before) := goodIn_app (goodIn_of _ (by decide +kernel)) ggL_law_X0_before
theorem dL_law_0 : decode cL_law 0 = .ok (.new 7, 3) := by decide +kernel
theorem dL_law_3 : decode cL_law 3 = .ok (.dup, 1) := by decide +kernel
theorem dL_law_4 : decode cL_law 4 = .ok (.invokespecial 9, 3) := by decide +kernel
theorem dL_law_7 : decode cL_law 7 = .ok (.astore_n 1, 1) := by decide +kernel
theorem dL_law_8 : decode cL_law 8 = .ok (.new 10, 3) := by decide +kernel
theorem dL_law_11 : decode cL_law 11 = .ok (.dup, 1) := by decide +kernel
theorem dL_law_12 : decode cL_law 12 = .ok (.invokespecial 12, 3) := by decide +kernel
theorem dL_law_15 : decode cL_law 15 = .ok (.astore_n 2, 1) := by decide +kernel
theorem dL_law_16 : decode cL_law 16 = .ok (.iconst 0, 1) := by decide +kernel
theorem dL_law_17 : decode cL_law 17 = .ok (.istore_n 3, 1) := by decide +kernel
theorem dL_law_18 : decode cL_law 18 = .ok (.iload_n 3, 1) := by decide +kernel
theorem dL_law_19 : decode cL_law 19 = .ok (.aload_n 0, 1) := by decide +kernel
theorem dL_law_20 : decode cL_law 20 = .ok (.arraylength, 1) := by decide +kernel
theorem dL_law_21 : decode cL_law 21 = .ok (.iconst 5, 1) := by decide +kernel
theorem dL_law_22 : decode cL_law 22 = .ok (.isub, 1) := by decide +kernel
theorem dL_law_23 : decode cL_law 23 = .ok (.if_icmp .gt 622, 3) := by decide +kernel
theorem dL_law_26 : decode cL_law 26 = .ok (.aload_n 0, 1) := by decide +kernel
theorem dL_law_27 : decode cL_law 27 = .ok (.iload_n 3, 1) := by decide +kernel
theorem dL_law_28 : decode cL_law 28 = .ok (.iaload, 1) := by decide +kernel
theorem dL_law_29 : decode cL_law 29 = .ok (.bipush 31, 2) := by decide +kernel
theorem dL_law_31 : decode cL_law 31 = .ok (.iand, 1) := by decide +kernel
theorem dL_law_32 : decode cL_law 32 = .ok (.tableswitch 607 0 16 #[84, 117, 190, 213, 236, 259, 282, 345, 368, 401, 444, 467, 490, 514, 538, 561, 584], 84) := by decide +kernel
theorem dL_law_116 : decode cL_law 116 = .ok (.aload_n 1, 1) := by decide +kernel
theorem dL_law_117 : decode cL_law 117 = .ok (.aload_n 0, 1) := by decide +kernel
theorem dL_law_118 : decode cL_law 118 = .ok (.iload_n 3, 1) := by decide +kernel
theorem dL_law_119 : decode cL_law 119 = .ok (.iconst 1, 1) := by decide +kernel
theorem dL_law_120 : decode cL_law 120 = .ok (.iadd, 1) := by decide +kernel
theorem dL_law_121 : decode cL_law 121 = .ok (.iaload, 1) := by decide +kernel
theorem dL_law_122 : decode cL_law 122 = .ok (.aload_n 0, 1) := by decide +kernel
theorem dL_law_123 : decode cL_law 123 = .ok (.iload_n 3, 1) := by decide +kernel
theorem dL_law_124 : decode cL_law 124 = .ok (.iconst 2, 1) := by decide +kernel
theorem dL_law_125 : decode cL_law 125 = .ok (.iadd, 1) := by decide +kernel
theorem dL_law_126 : decode cL_law 126 = .ok (.iaload, 1) := by decide +kernel
theorem dL_law_127 : decode cL_law 127 = .ok (.invokevirtual 13, 3) := by decide +kernel
theorem dL_law_130 : decode cL_law 130 = .ok (.aload_n 2, 1) := by decide +kernel
theorem dL_law_131 : decode cL_law 131 = .ok (.aload_n 0, 1) := by decide +kernel
theorem dL_law_132 : decode cL_law 132 = .ok (.iload_n 3, 1) := by decide +kernel
theorem dL_law_133 : decode cL_law 133 = .ok (.iconst 1, 1) := by decide +kernel
theorem dL_law_134 : decode cL_law 134 = .ok (.iadd, 1) := by decide +kernel
theorem dL_law_135 : decode cL_law 135 = .ok (.iaload, 1) := by decide +kernel
theorem dL_law_136 : decode cL_law 136 = .ok (.aload_n 0, 1) := by decide +kernel
theorem dL_law_137 : decode cL_law 137 = .ok (.iload_n 3, 1) := by decide +kernel
theorem dL_law_138 : decode cL_law 138 = .ok (.iconst 2, 1) := by decide +kernel
theorem dL_law_139 : decode cL_law 139 = .ok (.iadd, 1) := by decide +kernel
theorem dL_law_140 : decode cL_law 140 = .ok (.iaload, 1) := by decide +kernel
theorem dL_law_141 : decode cL_law 141 = .ok (.invokevirtual 17, 3) := by decide +kernel
theorem dL_law_144 : decode cL_law 144 = .ok (.if_icmp .eq 495, 3) := by decide +kernel
theorem dL_law_147 : decode cL_law 147 = .ok (.iconst 0, 1) := by decide +kernel
theorem dL_law_148 : decode cL_law 148 = .ok (.ireturn, 1) := by decide +kernel
theorem dL_law_149 : decode cL_law 149 = .ok (.aload_n 1, 1) := by decide +kernel
theorem dL_law_150 : decode cL_law 150 = .ok (.aload_n 0, 1) := by decide +kernel
theorem dL_law_151 : decode cL_law 151 = .ok (.iload_n 3, 1) := by decide +kernel
theorem dL_law_152 : decode cL_law 152 = .ok (.iconst 1, 1) := by decide +kernel
theorem dL_law_153 : decode cL_law 153 = .ok (.iadd, 1) := by decide +kernel
theorem dL_law_154 : decode cL_law 154 = .ok (.iaload, 1) := by decide +kernel
theorem dL_law_155 : decode cL_law 155 = .ok (.aload_n 0, 1) := by decide +kernel
theorem dL_law_156 : decode cL_law 156 = .ok (.iload_n 3, 1) := by decide +kernel
theorem dL_law_157 : decode cL_law 157 = .ok (.iconst 2, 1) := by decide +kernel
theorem dL_law_158 : decode cL_law 158 = .ok (.iadd, 1) := by decide +kernel
theorem dL_law_159 : decode cL_law 159 = .ok (.iaload, 1) := by decide +kernel
theorem dL_law_160 : decode cL_law 160 = .ok (.i2l, 1) := by decide +kernel
theorem dL_law_161 : decode cL_law 161 = .ok (.bipush 32, 2) := by decide +kernel
theorem dL_law_163 : decode cL_law 163 = .ok (.lshl, 1) := by decide +kernel
theorem dL_law_164 : decode cL_law 164 = .ok (.aload_n 0, 1) := by decide +kernel
theorem dL_law_165 : decode cL_law 165 = .ok (.iload_n 3, 1) := by decide +kernel
theorem dL_law_166 : decode cL_law 166 = .ok (.iconst 3, 1) := by decide +kernel
theorem dL_law_167 : decode cL_law 167 = .ok (.iadd, 1) := by decide +kernel
theorem dL_law_168 : decode cL_law 168 = .ok (.iaload, 1) := by decide +kernel
theorem dL_law_169 : decode cL_law 169 = .ok (.i2l, 1) := by decide +kernel
theorem dL_law_170 : decode cL_law 170 = .ok (.ldc2_w 18, 3) := by decide +kernel
theorem dL_law_173 : decode cL_law 173 = .ok (.land, 1) := by decide +kernel
theorem dL_law_174 : decode cL_law 174 = .ok (.lor, 1) := by decide +kernel
theorem dL_law_175 : decode cL_law 175 = .ok (.aload_n 0, 1) := by decide +kernel
theorem dL_law_176 : decode cL_law 176 = .ok (.iload_n 3, 1) := by decide +kernel
theorem dL_law_177 : decode cL_law 177 = .ok (.iconst 4, 1) := by decide +kernel
theorem dL_law_178 : decode cL_law 178 = .ok (.iadd, 1) := by decide +kernel
theorem dL_law_179 : decode cL_law 179 = .ok (.iaload, 1) := by decide +kernel
theorem dL_law_180 : decode cL_law 180 = .ok (.invokevirtual 20, 3) := by decide +kernel
theorem dL_law_183 : decode cL_law 183 = .ok (.aload_n 2, 1) := by decide +kernel
theorem dL_law_184 : decode cL_law 184 = .ok (.aload_n 0, 1) := by decide +kernel
theorem dL_law_185 : decode cL_law 185 = .ok (.iload_n 3, 1) := by decide +kernel
theorem dL_law_186 : decode cL_law 186 = .ok (.iconst 1, 1) := by decide +kernel
theorem dL_law_187 : decode cL_law 187 = .ok (.iadd, 1) := by decide +kernel
theorem dL_law_188 : decode cL_law 188 = .ok (.iaload, 1) := by decide +kernel
theorem dL_law_189 : decode cL_law 189 = .ok (.aload_n 0, 1) := by decide +kernel
theorem dL_law_190 : decode cL_law 190 = .ok (.iload_n 3, 1) := by decide +kernel
theorem dL_law_191 : decode cL_law 191 = .ok (.iconst 2, 1) := by decide +kernel
theorem dL_law_192 : decode cL_law 192 = .ok (.iadd, 1) := by decide +kernel
theorem dL_law_193 : decode cL_law 193 = .ok (.iaload, 1) := by decide +kernel
theorem dL_law_194 : decode cL_law 194 = .ok (.i2l, 1) := by decide +kernel
theorem dL_law_195 : decode cL_law 195 = .ok (.bipush 32, 2) := by decide +kernel
theorem dL_law_197 : decode cL_law 197 = .ok (.lshl, 1) := by decide +kernel
theorem dL_law_198 : decode cL_law 198 = .ok (.aload_n 0, 1) := by decide +kernel
theorem dL_law_199 : decode cL_law 199 = .ok (.iload_n 3, 1) := by decide +kernel
theorem dL_law_200 : decode cL_law 200 = .ok (.iconst 3, 1) := by decide +kernel
theorem dL_law_201 : decode cL_law 201 = .ok (.iadd, 1) := by decide +kernel
theorem dL_law_202 : decode cL_law 202 = .ok (.iaload, 1) := by decide +kernel
theorem dL_law_203 : decode cL_law 203 = .ok (.i2l, 1) := by decide +kernel
theorem dL_law_204 : decode cL_law 204 = .ok (.ldc2_w 18, 3) := by decide +kernel
theorem dL_law_207 : decode cL_law 207 = .ok (.land, 1) := by decide +kernel
theorem dL_law_208 : decode cL_law 208 = .ok (.lor, 1) := by decide +kernel
theorem dL_law_209 : decode cL_law 209 = .ok (.aload_n 0, 1) := by decide +kernel
theorem dL_law_210 : decode cL_law 210 = .ok (.iload_n 3, 1) := by decide +kernel
theorem dL_law_211 : decode cL_law 211 = .ok (.iconst 4, 1) := by decide +kernel
theorem dL_law_212 : decode cL_law 212 = .ok (.iadd, 1) := by decide +kernel
theorem dL_law_213 : decode cL_law 213 = .ok (.iaload, 1) := by decide +kernel
theorem dL_law_214 : decode cL_law 214 = .ok (.invokevirtual 24, 3) := by decide +kernel
theorem dL_law_217 : decode cL_law 217 = .ok (.if_icmp .eq 422, 3) := by decide +kernel
theorem dL_law_220 : decode cL_law 220 = .ok (.iconst 0, 1) := by decide +kernel
theorem dL_law_221 : decode cL_law 221 = .ok (.ireturn, 1) := by decide +kernel
theorem dL_law_222 : decode cL_law 222 = .ok (.aload_n 1, 1) := by decide +kernel
theorem dL_law_223 : decode cL_law 223 = .ok (.aload_n 0, 1) := by decide +kernel
theorem dL_law_224 : decode cL_law 224 = .ok (.iload_n 3, 1) := by decide +kernel
theorem dL_law_225 : decode cL_law 225 = .ok (.iconst 1, 1) := by decide +kernel
theorem dL_law_226 : decode cL_law 226 = .ok (.iadd, 1) := by decide +kernel
theorem dL_law_227 : decode cL_law 227 = .ok (.iaload, 1) := by decide +kernel
theorem dL_law_228 : decode cL_law 228 = .ok (.invokevirtual 25, 3) := by decide +kernel
theorem dL_law_231 : decode cL_law 231 = .ok (.aload_n 2, 1) := by decide +kernel
theorem dL_law_232 : decode cL_law 232 = .ok (.aload_n 0, 1) := by decide +kernel
theorem dL_law_233 : decode cL_law 233 = .ok (.iload_n 3, 1) := by decide +kernel
theorem dL_law_234 : decode cL_law 234 = .ok (.iconst 1, 1) := by decide +kernel
theorem dL_law_235 : decode cL_law 235 = .ok (.iadd, 1) := by decide +kernel
theorem dL_law_236 : decode cL_law 236 = .ok (.iaload, 1) := by decide +kernel
theorem dL_law_237 : decode cL_law 237 = .ok (.invokevirtual 29, 3) := by decide +kernel
theorem dL_law_240 : decode cL_law 240 = .ok (.if_icmp .eq 399, 3) := by decide +kernel
theorem dL_law_243 : decode cL_law 243 = .ok (.iconst 0, 1) := by decide +kernel
theorem dL_law_244 : decode cL_law 244 = .ok (.ireturn, 1) := by decide +kernel
theorem dL_law_245 : decode cL_law 245 = .ok (.aload_n 1, 1) := by decide +kernel
theorem dL_law_246 : decode cL_law 246 = .ok (.aload_n 0, 1) := by decide +kernel
theorem dL_law_247 : decode cL_law 247 = .ok (.iload_n 3, 1) := by decide +kernel
theorem dL_law_248 : decode cL_law 248 = .ok (.iconst 1, 1) := by decide +kernel
theorem dL_law_249 : decode cL_law 249 = .ok (.iadd, 1) := by decide +kernel
theorem dL_law_250 : decode cL_law 250 = .ok (.iaload, 1) := by decide +kernel
theorem dL_law_251 : decode cL_law 251 = .ok (.invokevirtual 30, 3) := by decide +kernel
theorem dL_law_254 : decode cL_law 254 = .ok (.aload_n 2, 1) := by decide +kernel
theorem dL_law_255 : decode cL_law 255 = .ok (.aload_n 0, 1) := by decide +kernel
theorem dL_law_256 : decode cL_law 256 = .ok (.iload_n 3, 1) := by decide +kernel
theorem dL_law_257 : decode cL_law 257 = .ok (.iconst 1, 1) := by decide +kernel
theorem dL_law_258 : decode cL_law 258 = .ok (.iadd, 1) := by decide +kernel
theorem dL_law_259 : decode cL_law 259 = .ok (.iaload, 1) := by decide +kernel
theorem dL_law_260 : decode cL_law 260 = .ok (.invokevirtual 33, 3) := by decide +kernel
theorem dL_law_263 : decode cL_law 263 = .ok (.if_icmp .eq 376, 3) := by decide +kernel
theorem dL_law_266 : decode cL_law 266 = .ok (.iconst 0, 1) := by decide +kernel
theorem dL_law_267 : decode cL_law 267 = .ok (.ireturn, 1) := by decide +kernel
theorem dL_law_268 : decode cL_law 268 = .ok (.aload_n 1, 1) := by decide +kernel
theorem dL_law_269 : decode cL_law 269 = .ok (.aload_n 0, 1) := by decide +kernel
theorem dL_law_270 : decode cL_law 270 = .ok (.iload_n 3, 1) := by decide +kernel
theorem dL_law_271 : decode cL_law 271 = .ok (.iconst 1, 1) := by decide +kernel
theorem dL_law_272 : decode cL_law 272 = .ok (.iadd, 1) := by decide +kernel
theorem dL_law_273 : decode cL_law 273 = .ok (.iaload, 1) := by decide +kernel
theorem dL_law_274 : decode cL_law 274 = .ok (.invokevirtual 34, 3) := by decide +kernel
theorem dL_law_277 : decode cL_law 277 = .ok (.aload_n 2, 1) := by decide +kernel
theorem dL_law_278 : decode cL_law 278 = .ok (.aload_n 0, 1) := by decide +kernel
theorem dL_law_279 : decode cL_law 279 = .ok (.iload_n 3, 1) := by decide +kernel
theorem dL_law_280 : decode cL_law 280 = .ok (.iconst 1, 1) := by decide +kernel
theorem dL_law_281 : decode cL_law 281 = .ok (.iadd, 1) := by decide +kernel
theorem dL_law_282 : decode cL_law 282 = .ok (.iaload, 1) := by decide +kernel
theorem dL_law_283 : decode cL_law 283 = .ok (.invokevirtual 37, 3) := by decide +kernel
theorem dL_law_286 : decode cL_law 286 = .ok (.if_icmp .eq 353, 3) := by decide +kernel
theorem dL_law_289 : decode cL_law 289 = .ok (.iconst 0, 1) := by decide +kernel
theorem dL_law_290 : decode cL_law 290 = .ok (.ireturn, 1) := by decide +kernel
theorem dL_law_291 : decode cL_law 291 = .ok (.aload_n 1, 1) := by decide +kernel
theorem dL_law_292 : decode cL_law 292 = .ok (.aload_n 0, 1) := by decide +kernel
theorem dL_law_293 : decode cL_law 293 = .ok (.iload_n 3, 1) := by decide +kernel
theorem dL_law_294 : decode cL_law 294 = .ok (.iconst 1, 1) := by decide +kernel
theorem dL_law_295 : decode cL_law 295 = .ok (.iadd, 1) := by decide +kernel
theorem dL_law_296 : decode cL_law 296 = .ok (.iaload, 1) := by decide +kernel
theorem dL_law_297 : decode cL_law 297 = .ok (.invokevirtual 38, 3) := by decide +kernel
theorem dL_law_300 : decode cL_law 300 = .ok (.aload_n 2, 1) := by decide +kernel
theorem dL_law_301 : decode cL_law 301 = .ok (.aload_n 0, 1) := by decide +kernel
theorem dL_law_302 : decode cL_law 302 = .ok (.iload_n 3, 1) := by decide +kernel
theorem dL_law_303 : decode cL_law 303 = .ok (.iconst 1, 1) := by decide +kernel
theorem dL_law_304 : decode cL_law 304 = .ok (.iadd, 1) := by decide +kernel
theorem dL_law_305 : decode cL_law 305 = .ok (.iaload, 1) := by decide +kernel
theorem dL_law_306 : decode cL_law 306 = .ok (.invokevirtual 41, 3) := by decide +kernel
theorem dL_law_309 : decode cL_law 309 = .ok (.if_icmp .eq 330, 3) := by decide +kernel
theorem dL_law_312 : decode cL_law 312 = .ok (.iconst 0, 1) := by decide +kernel
theorem dL_law_313 : decode cL_law 313 = .ok (.ireturn, 1) := by decide +kernel
theorem dL_law_314 : decode cL_law 314 = .ok (.aload_n 1, 1) := by decide +kernel
theorem dL_law_315 : decode cL_law 315 = .ok (.aload_n 0, 1) := by decide +kernel
theorem dL_law_316 : decode cL_law 316 = .ok (.iload_n 3, 1) := by decide +kernel
theorem dL_law_317 : decode cL_law 317 = .ok (.iconst 1, 1) := by decide +kernel
theorem dL_law_318 : decode cL_law 318 = .ok (.iadd, 1) := by decide +kernel
theorem dL_law_319 : decode cL_law 319 = .ok (.iaload, 1) := by decide +kernel
theorem dL_law_320 : decode cL_law 320 = .ok (.aload_n 0, 1) := by decide +kernel
theorem dL_law_321 : decode cL_law 321 = .ok (.iload_n 3, 1) := by decide +kernel
theorem dL_law_322 : decode cL_law 322 = .ok (.iconst 2, 1) := by decide +kernel
theorem dL_law_323 : decode cL_law 323 = .ok (.iadd, 1) := by decide +kernel
theorem dL_law_324 : decode cL_law 324 = .ok (.iaload, 1) := by decide +kernel
theorem dL_law_325 : decode cL_law 325 = .ok (.i2l, 1) := by decide +kernel
theorem dL_law_326 : decode cL_law 326 = .ok (.bipush 32, 2) := by decide +kernel
theorem dL_law_328 : decode cL_law 328 = .ok (.lshl, 1) := by decide +kernel
theorem dL_law_329 : decode cL_law 329 = .ok (.aload_n 0, 1) := by decide +kernel
theorem dL_law_330 : decode cL_law 330 = .ok (.iload_n 3, 1) := by decide +kernel
theorem dL_law_331 : decode cL_law 331 = .ok (.iconst 3, 1) := by decide +kernel
theorem dL_law_332 : decode cL_law 332 = .ok (.iadd, 1) := by decide +kernel
theorem dL_law_333 : decode cL_law 333 = .ok (.iaload, 1) := by decide +kernel
theorem dL_law_334 : decode cL_law 334 = .ok (.i2l, 1) := by decide +kernel
theorem dL_law_335 : decode cL_law 335 = .ok (.ldc2_w 18, 3) := by decide +kernel
theorem dL_law_338 : decode cL_law 338 = .ok (.land, 1) := by decide +kernel
theorem dL_law_339 : decode cL_law 339 = .ok (.lor, 1) := by decide +kernel
theorem dL_law_340 : decode cL_law 340 = .ok (.invokevirtual 42, 3) := by decide +kernel
theorem dL_law_343 : decode cL_law 343 = .ok (.aload_n 2, 1) := by decide +kernel
theorem dL_law_344 : decode cL_law 344 = .ok (.aload_n 0, 1) := by decide +kernel
theorem dL_law_345 : decode cL_law 345 = .ok (.iload_n 3, 1) := by decide +kernel
theorem dL_law_346 : decode cL_law 346 = .ok (.iconst 1, 1) := by decide +kernel
theorem dL_law_347 : decode cL_law 347 = .ok (.iadd, 1) := by decide +kernel
theorem dL_law_348 : decode cL_law 348 = .ok (.iaload, 1) := by decide +kernel
theorem dL_law_349 : decode cL_law 349 = .ok (.aload_n 0, 1) := by decide +kernel
theorem dL_law_350 : decode cL_law 350 = .ok (.iload_n 3, 1) := by decide +kernel
theorem dL_law_351 : decode cL_law 351 = .ok (.iconst 2, 1) := by decide +kernel
theorem dL_law_352 : decode cL_law 352 = .ok (.iadd, 1) := by decide +kernel
theorem dL_law_353 : decode cL_law 353 = .ok (.iaload, 1) := by decide +kernel
theorem dL_law_354 : decode cL_law 354 = .ok (.i2l, 1) := by decide +kernel
theorem dL_law_355 : decode cL_law 355 = .ok (.bipush 32, 2) := by decide +kernel
theorem dL_law_357 : decode cL_law 357 = .ok (.lshl, 1) := by decide +kernel
theorem dL_law_358 : decode cL_law 358 = .ok (.aload_n 0, 1) := by decide +kernel
theorem dL_law_359 : decode cL_law 359 = .ok (.iload_n 3, 1) := by decide +kernel
theorem dL_law_360 : decode cL_law 360 = .ok (.iconst 3, 1) := by decide +kernel
theorem dL_law_361 : decode cL_law 361 = .ok (.iadd, 1) := by decide +kernel
theorem dL_law_362 : decode cL_law 362 = .ok (.iaload, 1) := by decide +kernel
theorem dL_law_363 : decode cL_law 363 = .ok (.i2l, 1) := by decide +kernel
theorem dL_law_364 : decode cL_law 364 = .ok (.ldc2_w 18, 3) := by decide +kernel
theorem dL_law_367 : decode cL_law 367 = .ok (.land, 1) := by decide +kernel
theorem dL_law_368 : decode cL_law 368 = .ok (.lor, 1) := by decide +kernel
theorem dL_law_369 : decode cL_law 369 = .ok (.invokevirtual 46, 3) := by decide +kernel
theorem dL_law_372 : decode cL_law 372 = .ok (.if_icmp .eq 267, 3) := by decide +kernel
theorem dL_law_375 : decode cL_law 375 = .ok (.iconst 0, 1) := by decide +kernel
theorem dL_law_376 : decode cL_law 376 = .ok (.ireturn, 1) := by decide +kernel
theorem dL_law_377 : decode cL_law 377 = .ok (.aload_n 1, 1) := by decide +kernel
theorem dL_law_378 : decode cL_law 378 = .ok (.aload_n 0, 1) := by decide +kernel
theorem dL_law_379 : decode cL_law 379 = .ok (.iload_n 3, 1) := by decide +kernel
theorem dL_law_380 : decode cL_law 380 = .ok (.iconst 1, 1) := by decide +kernel
theorem dL_law_381 : decode cL_law 381 = .ok (.iadd, 1) := by decide +kernel
theorem dL_law_382 : decode cL_law 382 = .ok (.iaload, 1) := by decide +kernel
theorem dL_law_383 : decode cL_law 383 = .ok (.invokevirtual 47, 3) := by decide +kernel
theorem dL_law_386 : decode cL_law 386 = .ok (.aload_n 2, 1) := by decide +kernel
theorem dL_law_387 : decode cL_law 387 = .ok (.aload_n 0, 1) := by decide +kernel
theorem dL_law_388 : decode cL_law 388 = .ok (.iload_n 3, 1) := by decide +kernel
theorem dL_law_389 : decode cL_law 389 = .ok (.iconst 1, 1) := by decide +kernel
theorem dL_law_390 : decode cL_law 390 = .ok (.iadd, 1) := by decide +kernel
theorem dL_law_391 : decode cL_law 391 = .ok (.iaload, 1) := by decide +kernel
theorem dL_law_392 : decode cL_law 392 = .ok (.invokevirtual 50, 3) := by decide +kernel
theorem dL_law_395 : decode cL_law 395 = .ok (.if_icmp .eq 244, 3) := by decide +kernel
theorem dL_law_398 : decode cL_law 398 = .ok (.iconst 0, 1) := by decide +kernel
theorem dL_law_399 : decode cL_law 399 = .ok (.ireturn, 1) := by decide +kernel
theorem dL_law_400 : decode cL_law 400 = .ok (.aload_n 1, 1) := by decide +kernel
theorem dL_law_401 : decode cL_law 401 = .ok (.aload_n 0, 1) := by decide +kernel
theorem dL_law_402 : decode cL_law 402 = .ok (.iload_n 3, 1) := by decide +kernel
theorem dL_law_403 : decode cL_law 403 = .ok (.iconst 1, 1) := by decide +kernel
theorem dL_law_404 : decode cL_law 404 = .ok (.iadd, 1) := by decide +kernel
theorem dL_law_405 : decode cL_law 405 = .ok (.iaload, 1) := by decide +kernel
theorem dL_law_406 : decode cL_law 406 = .ok (.aload_n 0, 1) := by decide +kernel
theorem dL_law_407 : decode cL_law 407 = .ok (.iload_n 3, 1) := by decide +kernel
theorem dL_law_408 : decode cL_law 408 = .ok (.iconst 2, 1) := by decide +kernel
theorem dL_law_409 : decode cL_law 409 = .ok (.iadd, 1) := by decide +kernel
theorem dL_law_410 : decode cL_law 410 = .ok (.iaload, 1) := by decide +kernel
theorem dL_law_411 : decode cL_law 411 = .ok (.invokevirtual 51, 3) := by decide +kernel
theorem dL_law_414 : decode cL_law 414 = .ok (.aload_n 2, 1) := by decide +kernel
theorem dL_law_415 : decode cL_law 415 = .ok (.aload_n 0, 1) := by decide +kernel
theorem dL_law_416 : decode cL_law 416 = .ok (.iload_n 3, 1) := by decide +kernel
theorem dL_law_417 : decode cL_law 417 = .ok (.iconst 1, 1) := by decide +kernel
theorem dL_law_418 : decode cL_law 418 = .ok (.iadd, 1) := by decide +kernel
theorem dL_law_419 : decode cL_law 419 = .ok (.iaload, 1) := by decide +kernel
theorem dL_law_420 : decode cL_law 420 = .ok (.aload_n 0, 1) := by decide +kernel
theorem dL_law_421 : decode cL_law 421 = .ok (.iload_n 3, 1) := by decide +kernel
theorem dL_law_422 : decode cL_law 422 = .ok (.iconst 2, 1) := by decide +kernel
theorem dL_law_423 : decode cL_law 423 = .ok (.iadd, 1) := by decide +kernel
theorem dL_law_424 : decode cL_law 424 = .ok (.iaload, 1) := by decide +kernel
theorem dL_law_425 : decode cL_law 425 = .ok (.invokevirtual 54, 3) := by decide +kernel
theorem dL_law_428 : decode cL_law 428 = .ok (.if_icmp .eq 211, 3) := by decide +kernel
theorem dL_law_431 : decode cL_law 431 = .ok (.iconst 0, 1) := by decide +kernel
theorem dL_law_432 : decode cL_law 432 = .ok (.ireturn, 1) := by decide +kernel
theorem dL_law_433 : decode cL_law 433 = .ok (.aload_n 1, 1) := by decide +kernel
theorem dL_law_434 : decode cL_law 434 = .ok (.aload_n 0, 1) := by decide +kernel
theorem dL_law_435 : decode cL_law 435 = .ok (.iload_n 3, 1) := by decide +kernel
theorem dL_law_436 : decode cL_law 436 = .ok (.iconst 1, 1) := by decide +kernel
theorem dL_law_437 : decode cL_law 437 = .ok (.iadd, 1) := by decide +kernel
theorem dL_law_438 : decode cL_law 438 = .ok (.iaload, 1) := by decide +kernel
theorem dL_law_439 : decode cL_law 439 = .ok (.aload_n 0, 1) := by decide +kernel
theorem dL_law_440 : decode cL_law 440 = .ok (.iload_n 3, 1) := by decide +kernel
theorem dL_law_441 : decode cL_law 441 = .ok (.iconst 2, 1) := by decide +kernel
theorem dL_law_442 : decode cL_law 442 = .ok (.iadd, 1) := by decide +kernel
theorem dL_law_443 : decode cL_law 443 = .ok (.iaload, 1) := by decide +kernel
theorem dL_law_444 : decode cL_law 444 = .ok (.aload_n 0, 1) := by decide +kernel
theorem dL_law_445 : decode cL_law 445 = .ok (.iload_n 3, 1) := by decide +kernel
theorem dL_law_446 : decode cL_law 446 = .ok (.iconst 3, 1) := by decide +kernel
theorem dL_law_447 : decode cL_law 447 = .ok (.iadd, 1) := by decide +kernel
theorem dL_law_448 : decode cL_law 448 = .ok (.iaload, 1) := by decide +kernel
theorem dL_law_449 : decode cL_law 449 = .ok (.invokevirtual 55, 3) := by decide +kernel
theorem dL_law_452 : decode cL_law 452 = .ok (.aload_n 2, 1) := by decide +kernel
theorem dL_law_453 : decode cL_law 453 = .ok (.aload_n 0, 1) := by decide +kernel
theorem dL_law_454 : decode cL_law 454 = .ok (.iload_n 3, 1) := by decide +kernel
theorem dL_law_455 : decode cL_law 455 = .ok (.iconst 1, 1) := by decide +kernel
theorem dL_law_456 : decode cL_law 456 = .ok (.iadd, 1) := by decide +kernel
theorem dL_law_457 : decode cL_law 457 = .ok (.iaload, 1) := by decide +kernel
theorem dL_law_458 : decode cL_law 458 = .ok (.aload_n 0, 1) := by decide +kernel
theorem dL_law_459 : decode cL_law 459 = .ok (.iload_n 3, 1) := by decide +kernel
theorem dL_law_460 : decode cL_law 460 = .ok (.iconst 2, 1) := by decide +kernel
theorem dL_law_461 : decode cL_law 461 = .ok (.iadd, 1) := by decide +kernel
theorem dL_law_462 : decode cL_law 462 = .ok (.iaload, 1) := by decide +kernel
theorem dL_law_463 : decode cL_law 463 = .ok (.aload_n 0, 1) := by decide +kernel
theorem dL_law_464 : decode cL_law 464 = .ok (.iload_n 3, 1) := by decide +kernel
theorem dL_law_465 : decode cL_law 465 = .ok (.iconst 3, 1) := by decide +kernel
theorem dL_law_466 : decode cL_law 466 = .ok (.iadd, 1) := by decide +kernel
theorem dL_law_467 : decode cL_law 467 = .ok (.iaload, 1) := by decide +kernel
theorem dL_law_468 : decode cL_law 468 = .ok (.invokevirtual 59, 3) := by decide +kernel
theorem dL_law_471 : decode cL_law 471 = .ok (.if_icmp .eq 168, 3) := by decide +kernel
theorem dL_law_474 : decode cL_law 474 = .ok (.iconst 0, 1) := by decide +kernel
theorem dL_law_475 : decode cL_law 475 = .ok (.ireturn, 1) := by decide +kernel
theorem dL_law_476 : decode cL_law 476 = .ok (.aload_n 1, 1) := by decide +kernel
theorem dL_law_477 : decode cL_law 477 = .ok (.aload_n 0, 1) := by decide +kernel
theorem dL_law_478 : decode cL_law 478 = .ok (.iload_n 3, 1) := by decide +kernel
theorem dL_law_479 : decode cL_law 479 = .ok (.iconst 1, 1) := by decide +kernel
theorem dL_law_480 : decode cL_law 480 = .ok (.iadd, 1) := by decide +kernel
theorem dL_law_481 : decode cL_law 481 = .ok (.iaload, 1) := by decide +kernel
theorem dL_law_482 : decode cL_law 482 = .ok (.invokevirtual 60, 3) := by decide +kernel
theorem dL_law_485 : decode cL_law 485 = .ok (.aload_n 2, 1) := by decide +kernel
theorem dL_law_486 : decode cL_law 486 = .ok (.aload_n 0, 1) := by decide +kernel
theorem dL_law_487 : decode cL_law 487 = .ok (.iload_n 3, 1) := by decide +kernel
theorem dL_law_488 : decode cL_law 488 = .ok (.iconst 1, 1) := by decide +kernel
theorem dL_law_489 : decode cL_law 489 = .ok (.iadd, 1) := by decide +kernel
theorem dL_law_490 : decode cL_law 490 = .ok (.iaload, 1) := by decide +kernel
theorem dL_law_491 : decode cL_law 491 = .ok (.invokevirtual 63, 3) := by decide +kernel
theorem dL_law_494 : decode cL_law 494 = .ok (.if_icmp .eq 145, 3) := by decide +kernel
theorem dL_law_497 : decode cL_law 497 = .ok (.iconst 0, 1) := by decide +kernel
theorem dL_law_498 : decode cL_law 498 = .ok (.ireturn, 1) := by decide +kernel
theorem dL_law_499 : decode cL_law 499 = .ok (.aload_n 1, 1) := by decide +kernel
theorem dL_law_500 : decode cL_law 500 = .ok (.aload_n 0, 1) := by decide +kernel
theorem dL_law_501 : decode cL_law 501 = .ok (.iload_n 3, 1) := by decide +kernel
theorem dL_law_502 : decode cL_law 502 = .ok (.iconst 1, 1) := by decide +kernel
theorem dL_law_503 : decode cL_law 503 = .ok (.iadd, 1) := by decide +kernel
theorem dL_law_504 : decode cL_law 504 = .ok (.iaload, 1) := by decide +kernel
theorem dL_law_505 : decode cL_law 505 = .ok (.invokevirtual 64, 3) := by decide +kernel
theorem dL_law_508 : decode cL_law 508 = .ok (.aload_n 2, 1) := by decide +kernel
theorem dL_law_509 : decode cL_law 509 = .ok (.aload_n 0, 1) := by decide +kernel
theorem dL_law_510 : decode cL_law 510 = .ok (.iload_n 3, 1) := by decide +kernel
theorem dL_law_511 : decode cL_law 511 = .ok (.iconst 1, 1) := by decide +kernel
theorem dL_law_512 : decode cL_law 512 = .ok (.iadd, 1) := by decide +kernel
theorem dL_law_513 : decode cL_law 513 = .ok (.iaload, 1) := by decide +kernel
theorem dL_law_514 : decode cL_law 514 = .ok (.invokevirtual 67, 3) := by decide +kernel
theorem dL_law_517 : decode cL_law 517 = .ok (.if_icmp .eq 122, 3) := by decide +kernel
theorem dL_law_520 : decode cL_law 520 = .ok (.iconst 0, 1) := by decide +kernel
theorem dL_law_521 : decode cL_law 521 = .ok (.ireturn, 1) := by decide +kernel
theorem dL_law_522 : decode cL_law 522 = .ok (.aload_n 1, 1) := by decide +kernel
theorem dL_law_523 : decode cL_law 523 = .ok (.aload_n 0, 1) := by decide +kernel
theorem dL_law_524 : decode cL_law 524 = .ok (.iload_n 3, 1) := by decide +kernel
theorem dL_law_525 : decode cL_law 525 = .ok (.iconst 1, 1) := by decide +kernel
theorem dL_law_526 : decode cL_law 526 = .ok (.iadd, 1) := by decide +kernel
theorem dL_law_527 : decode cL_law 527 = .ok (.iaload, 1) := by decide +kernel
theorem dL_law_528 : decode cL_law 528 = .ok (.invokevirtual 68, 3) := by decide +kernel
theorem dL_law_531 : decode cL_law 531 = .ok (.aload_n 2, 1) := by decide +kernel
theorem dL_law_532 : decode cL_law 532 = .ok (.aload_n 0, 1) := by decide +kernel
theorem dL_law_533 : decode cL_law 533 = .ok (.iload_n 3, 1) := by decide +kernel
theorem dL_law_534 : decode cL_law 534 = .ok (.iconst 1, 1) := by decide +kernel
theorem dL_law_535 : decode cL_law 535 = .ok (.iadd, 1) := by decide +kernel
theorem dL_law_536 : decode cL_law 536 = .ok (.iaload, 1) := by decide +kernel
theorem dL_law_537 : decode cL_law 537 = .ok (.invokevirtual 72, 3) := by decide +kernel
theorem dL_law_540 : decode cL_law 540 = .ok (.lcmp, 1) := by decide +kernel
theorem dL_law_541 : decode cL_law 541 = .ok (.ifCond .eq 98, 3) := by decide +kernel
theorem dL_law_544 : decode cL_law 544 = .ok (.iconst 0, 1) := by decide +kernel
theorem dL_law_545 : decode cL_law 545 = .ok (.ireturn, 1) := by decide +kernel
theorem dL_law_546 : decode cL_law 546 = .ok (.aload_n 1, 1) := by decide +kernel
theorem dL_law_547 : decode cL_law 547 = .ok (.aload_n 0, 1) := by decide +kernel
theorem dL_law_548 : decode cL_law 548 = .ok (.iload_n 3, 1) := by decide +kernel
theorem dL_law_549 : decode cL_law 549 = .ok (.iconst 1, 1) := by decide +kernel
theorem dL_law_550 : decode cL_law 550 = .ok (.iadd, 1) := by decide +kernel
theorem dL_law_551 : decode cL_law 551 = .ok (.iaload, 1) := by decide +kernel
theorem dL_law_552 : decode cL_law 552 = .ok (.invokevirtual 73, 3) := by decide +kernel
theorem dL_law_555 : decode cL_law 555 = .ok (.aload_n 2, 1) := by decide +kernel
theorem dL_law_556 : decode cL_law 556 = .ok (.aload_n 0, 1) := by decide +kernel
theorem dL_law_557 : decode cL_law 557 = .ok (.iload_n 3, 1) := by decide +kernel
theorem dL_law_558 : decode cL_law 558 = .ok (.iconst 1, 1) := by decide +kernel
theorem dL_law_559 : decode cL_law 559 = .ok (.iadd, 1) := by decide +kernel
theorem dL_law_560 : decode cL_law 560 = .ok (.iaload, 1) := by decide +kernel
theorem dL_law_561 : decode cL_law 561 = .ok (.invokevirtual 76, 3) := by decide +kernel
theorem dL_law_564 : decode cL_law 564 = .ok (.lcmp, 1) := by decide +kernel
theorem dL_law_565 : decode cL_law 565 = .ok (.ifCond .eq 74, 3) := by decide +kernel
theorem dL_law_568 : decode cL_law 568 = .ok (.iconst 0, 1) := by decide +kernel
theorem dL_law_569 : decode cL_law 569 = .ok (.ireturn, 1) := by decide +kernel
theorem dL_law_570 : decode cL_law 570 = .ok (.aload_n 1, 1) := by decide +kernel
theorem dL_law_571 : decode cL_law 571 = .ok (.aload_n 0, 1) := by decide +kernel
theorem dL_law_572 : decode cL_law 572 = .ok (.iload_n 3, 1) := by decide +kernel
theorem dL_law_573 : decode cL_law 573 = .ok (.iconst 1, 1) := by decide +kernel
theorem dL_law_574 : decode cL_law 574 = .ok (.iadd, 1) := by decide +kernel
theorem dL_law_575 : decode cL_law 575 = .ok (.iaload, 1) := by decide +kernel
theorem dL_law_576 : decode cL_law 576 = .ok (.invokevirtual 77, 3) := by decide +kernel
theorem dL_law_579 : decode cL_law 579 = .ok (.aload_n 2, 1) := by decide +kernel
theorem dL_law_580 : decode cL_law 580 = .ok (.aload_n 0, 1) := by decide +kernel
theorem dL_law_581 : decode cL_law 581 = .ok (.iload_n 3, 1) := by decide +kernel
theorem dL_law_582 : decode cL_law 582 = .ok (.iconst 1, 1) := by decide +kernel
theorem dL_law_583 : decode cL_law 583 = .ok (.iadd, 1) := by decide +kernel
theorem dL_law_584 : decode cL_law 584 = .ok (.iaload, 1) := by decide +kernel
theorem dL_law_585 : decode cL_law 585 = .ok (.invokevirtual 80, 3) := by decide +kernel
theorem dL_law_588 : decode cL_law 588 = .ok (.if_icmp .eq 51, 3) := by decide +kernel
theorem dL_law_591 : decode cL_law 591 = .ok (.iconst 0, 1) := by decide +kernel
theorem dL_law_592 : decode cL_law 592 = .ok (.ireturn, 1) := by decide +kernel
theorem dL_law_593 : decode cL_law 593 = .ok (.aload_n 1, 1) := by decide +kernel
theorem dL_law_594 : decode cL_law 594 = .ok (.aload_n 0, 1) := by decide +kernel
theorem dL_law_595 : decode cL_law 595 = .ok (.iload_n 3, 1) := by decide +kernel
theorem dL_law_596 : decode cL_law 596 = .ok (.iconst 1, 1) := by decide +kernel
theorem dL_law_597 : decode cL_law 597 = .ok (.iadd, 1) := by decide +kernel
theorem dL_law_598 : decode cL_law 598 = .ok (.iaload, 1) := by decide +kernel
theorem dL_law_599 : decode cL_law 599 = .ok (.invokevirtual 81, 3) := by decide +kernel
theorem dL_law_602 : decode cL_law 602 = .ok (.aload_n 2, 1) := by decide +kernel
theorem dL_law_603 : decode cL_law 603 = .ok (.aload_n 0, 1) := by decide +kernel
theorem dL_law_604 : decode cL_law 604 = .ok (.iload_n 3, 1) := by decide +kernel
theorem dL_law_605 : decode cL_law 605 = .ok (.iconst 1, 1) := by decide +kernel
theorem dL_law_606 : decode cL_law 606 = .ok (.iadd, 1) := by decide +kernel
theorem dL_law_607 : decode cL_law 607 = .ok (.iaload, 1) := by decide +kernel
theorem dL_law_608 : decode cL_law 608 = .ok (.invokevirtual 84, 3) := by decide +kernel
theorem dL_law_611 : decode cL_law 611 = .ok (.if_icmp .eq 28, 3) := by decide +kernel
theorem dL_law_614 : decode cL_law 614 = .ok (.iconst 0, 1) := by decide +kernel
theorem dL_law_615 : decode cL_law 615 = .ok (.ireturn, 1) := by decide +kernel
theorem dL_law_616 : decode cL_law 616 = .ok (.aload_n 1, 1) := by decide +kernel
theorem dL_law_617 : decode cL_law 617 = .ok (.aload_n 0, 1) := by decide +kernel
theorem dL_law_618 : decode cL_law 618 = .ok (.iload_n 3, 1) := by decide +kernel
theorem dL_law_619 : decode cL_law 619 = .ok (.iconst 1, 1) := by decide +kernel
theorem dL_law_620 : decode cL_law 620 = .ok (.iadd, 1) := by decide +kernel
theorem dL_law_621 : decode cL_law 621 = .ok (.iaload, 1) := by decide +kernel
theorem dL_law_622 : decode cL_law 622 = .ok (.invokevirtual 85, 3) := by decide +kernel
theorem dL_law_625 : decode cL_law 625 = .ok (.aload_n 2, 1) := by decide +kernel
theorem dL_law_626 : decode cL_law 626 = .ok (.aload_n 0, 1) := by decide +kernel
theorem dL_law_627 : decode cL_law 627 = .ok (.iload_n 3, 1) := by decide +kernel
theorem dL_law_628 : decode cL_law 628 = .ok (.iconst 1, 1) := by decide +kernel
theorem dL_law_629 : decode cL_law 629 = .ok (.iadd, 1) := by decide +kernel
theorem dL_law_630 : decode cL_law 630 = .ok (.iaload, 1) := by decide +kernel
theorem dL_law_631 : decode cL_law 631 = .ok (.invokevirtual 88, 3) := by decide +kernel
theorem dL_law_634 : decode cL_law 634 = .ok (.if_icmp .eq 5, 3) := by decide +kernel
theorem dL_law_637 : decode cL_law 637 = .ok (.iconst 0, 1) := by decide +kernel
theorem dL_law_638 : decode cL_law 638 = .ok (.ireturn, 1) := by decide +kernel
theorem dL_law_639 : decode cL_law 639 = .ok (.iinc 3 5, 3) := by decide +kernel
theorem dL_law_642 : decode cL_law 642 = .ok (.goto (-624), 3) := by decide +kernel
theorem dL_law_645 : decode cL_law 645 = .ok (.iconst 1, 1) := by decide +kernel
theorem dL_law_646 : decode cL_law 646 = .ok (.ireturn, 1) := by decide +kernel
abbrev vwCl : List vw_C := [(RX0, TX0, 9), (RX1, TX1, 9)]
