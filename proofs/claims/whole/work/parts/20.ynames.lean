abbrev cY_init : ByteArray := prog_3_method_1_code
def yY_init : MethodName := ⟨RX1, "<init>", "()V"⟩
abbrev cY_wrongHeap : ByteArray := prog_3_method_2_code
def yY_wrongHeap : MethodName := ⟨RX1, "wrongHeap", "(I)I"⟩
abbrev cY_wrongEntry : ByteArray := prog_3_method_3_code
def yY_wrongEntry : MethodName := ⟨RX1, "wrongEntry", "(I)I"⟩
abbrev cY_weight : ByteArray := prog_3_method_4_code
def yY_weight : MethodName := ⟨RX1, "weight", "(IJ)J"⟩
abbrev cY_isBelow : ByteArray := prog_3_method_5_code
def yY_isBelow : MethodName := ⟨RX1, "isBelow", "(IJ)Z"⟩
abbrev cY_rank : ByteArray := prog_3_method_6_code
def yY_rank : MethodName := ⟨RX1, "rank", "(I)I"⟩
abbrev cY_many : ByteArray := prog_3_method_7_code
def yY_many : MethodName := ⟨RX1, "many", "(I)I"⟩
abbrev cY_extreme : ByteArray := prog_3_method_8_code
def yY_extreme : MethodName := ⟨RX1, "extreme", "(IZ)I"⟩
abbrev cY_leave : ByteArray := prog_3_method_9_code
def yY_leave : MethodName := ⟨RX1, "leave", "(II)V"⟩
abbrev cY_open : ByteArray := prog_3_method_10_code
def yY_open : MethodName := ⟨RX1, "open", "(II)I"⟩
abbrev cY_insert : ByteArray := prog_3_method_11_code
def yY_insert : MethodName := ⟨RX1, "insert", "(IJI)I"⟩
abbrev cY_first : ByteArray := prog_3_method_12_code
def yY_first : MethodName := ⟨RX1, "first", "(I)I"⟩
abbrev cY_last : ByteArray := prog_3_method_13_code
def yY_last : MethodName := ⟨RX1, "last", "(I)I"⟩
abbrev cY_take : ByteArray := prog_3_method_14_code
def yY_take : MethodName := ⟨RX1, "take", "(I)I"⟩
abbrev cY_takeLast : ByteArray := prog_3_method_15_code
def yY_takeLast : MethodName := ⟨RX1, "takeLast", "(I)I"⟩
abbrev cY_decrease : ByteArray := prog_3_method_16_code
def yY_decrease : MethodName := ⟨RX1, "decrease", "(IJ)I"⟩
abbrev cY_delete : ByteArray := prog_3_method_17_code
def yY_delete : MethodName := ⟨RX1, "delete", "(I)I"⟩
abbrev cY_wrongPair : ByteArray := prog_3_method_18_code
def yY_wrongPair : MethodName := ⟨RX1, "wrongPair", "(II)I"⟩
abbrev cY_meld : ByteArray := prog_3_method_19_code
def yY_meld : MethodName := ⟨RX1, "meld", "(II)I"⟩
abbrev cY_drain : ByteArray := prog_3_method_20_code
def yY_drain : MethodName := ⟨RX1, "drain", "(III)I"⟩
abbrev cY_clear : ByteArray := prog_3_method_21_code
def yY_clear : MethodName := ⟨RX1, "clear", "(I)I"⟩
abbrev cY_size : ByteArray := prog_3_method_22_code
def yY_size : MethodName := ⟨RX1, "size", "(I)I"⟩
abbrev cY_floor : ByteArray := prog_3_method_23_code
def yY_floor : MethodName := ⟨RX1, "floor", "(I)J"⟩
abbrev cY_key : ByteArray := prog_3_method_24_code
def yY_key : MethodName := ⟨RX1, "key", "(I)J"⟩
abbrev cY_value : ByteArray := prog_3_method_25_code
def yY_value : MethodName := ⟨RX1, "value", "(I)I"⟩
abbrev cY_owner : ByteArray := prog_3_method_26_code
def yY_owner : MethodName := ⟨RX1, "owner", "(I)I"⟩
abbrev cY_before : ByteArray := prog_3_method_27_code
def yY_before : MethodName := ⟨RX1, "before", "(I)I"⟩
def wsY_init : List Cond := .code yY_init cY_init 1 none :: ([.methodLink RX1 1 objectInit, .instanceMethod objectInit, .code objectInit ⟨#[0xb1]⟩ 1 none, .arrayClass .int, .fieldLink RX1 7 "MeldingHeapsModel" "kinds" "[I", .fieldLink RX1 13 "MeldingHeapsModel" "orders" "[I", .arrayClass .boolean, .fieldLink RX1 16 "MeldingHeapsModel" "gone" "[Z", .arrayClass .long, .fieldLink RX1 20 "MeldingHeapsModel" "floors" "[J", .fieldLink RX1 24 "MeldingHeapsModel" "keys" "[J", .fieldLink RX1 27 "MeldingHeapsModel" "values" "[I", .fieldLink RX1 30 "MeldingHeapsModel" "homes" "[I"] ++ wsX10)
def wsY_wrongHeap : List Cond := .code yY_wrongHeap cY_wrongHeap 2 (some .int) :: ([.fieldLink RX1 33 "MeldingHeapsModel" "opened" "I", .fieldLink RX1 16 "MeldingHeapsModel" "gone" "[Z"] ++ wsX10)
def wsY_wrongEntry : List Cond := .code yY_wrongEntry cY_wrongEntry 2 (some .int) :: ([.fieldLink RX1 37 "MeldingHeapsModel" "inserted" "I", .fieldLink RX1 30 "MeldingHeapsModel" "homes" "[I"] ++ wsX10)
def wsY_weight : List Cond := .code yY_weight cY_weight 5 (some .long) :: ([.fieldLink RX1 13 "MeldingHeapsModel" "orders" "[I", .constantLong RX1 40 (-1), .constantLong RX1 42 (-9223372036854775808), .constantLong RX1 44 (65535)] ++ wsX10)
def wsY_isBelow : List Cond := .code yY_isBelow cY_isBelow 4 (some .boolean) :: ([.fieldLink RX1 7 "MeldingHeapsModel" "kinds" "[I", .fieldLink RX1 20 "MeldingHeapsModel" "floors" "[J", .methodLink RX1 46 yY_weight, .instanceMethod yY_weight, .selects RX1 yY_weight yY_weight, .initialized RX1, .code yY_weight cY_weight 5 (some .long), .fieldLink RX1 13 "MeldingHeapsModel" "orders" "[I", .constantLong RX1 40 (-1), .constantLong RX1 42 (-9223372036854775808), .constantLong RX1 44 (65535)] ++ wsX10)
def wsY_rank : List Cond := .code yY_rank cY_rank 9 (some .int) :: ([.fieldLink RX1 30 "MeldingHeapsModel" "homes" "[I", .fieldLink RX1 24 "MeldingHeapsModel" "keys" "[J", .fieldLink RX1 37 "MeldingHeapsModel" "inserted" "I", .methodLink RX1 46 yY_weight, .instanceMethod yY_weight, .selects RX1 yY_weight yY_weight, .initialized RX1, .code yY_weight cY_weight 5 (some .long), .fieldLink RX1 13 "MeldingHeapsModel" "orders" "[I", .constantLong RX1 40 (-1), .constantLong RX1 42 (-9223372036854775808), .constantLong RX1 44 (65535)] ++ wsX10)
def wsY_many : List Cond := .code yY_many cY_many 4 (some .int) :: ([.fieldLink RX1 37 "MeldingHeapsModel" "inserted" "I", .fieldLink RX1 30 "MeldingHeapsModel" "homes" "[I"] ++ wsX10)
def wsY_extreme : List Cond := .code yY_extreme cY_extreme 9 (some .int) :: ([.fieldLink RX1 37 "MeldingHeapsModel" "inserted" "I", .fieldLink RX1 30 "MeldingHeapsModel" "homes" "[I", .fieldLink RX1 24 "MeldingHeapsModel" "keys" "[J", .methodLink RX1 46 yY_weight, .instanceMethod yY_weight, .selects RX1 yY_weight yY_weight, .initialized RX1, .code yY_weight cY_weight 5 (some .long), .fieldLink RX1 13 "MeldingHeapsModel" "orders" "[I", .constantLong RX1 40 (-1), .constantLong RX1 42 (-9223372036854775808), .constantLong RX1 44 (65535)] ++ wsX10)
def wsY_leave : List Cond := .code yY_leave cY_leave 3 none :: ([.fieldLink RX1 20 "MeldingHeapsModel" "floors" "[J", .fieldLink RX1 7 "MeldingHeapsModel" "kinds" "[I", .fieldLink RX1 24 "MeldingHeapsModel" "keys" "[J", .methodLink RX1 46 yY_weight, .instanceMethod yY_weight, .selects RX1 yY_weight yY_weight, .initialized RX1, .code yY_weight cY_weight 5 (some .long), .fieldLink RX1 13 "MeldingHeapsModel" "orders" "[I", .constantLong RX1 40 (-1), .constantLong RX1 42 (-9223372036854775808), .constantLong RX1 44 (65535)] ++ wsX10)
def wsY_open : List Cond := .code yY_open cY_open 3 (some .int) :: ([.fieldLink RX1 33 "MeldingHeapsModel" "opened" "I", .fieldLink RX1 7 "MeldingHeapsModel" "kinds" "[I", .fieldLink RX1 13 "MeldingHeapsModel" "orders" "[I", .fieldLink RX1 20 "MeldingHeapsModel" "floors" "[J", .constantLong RX1 42 (-9223372036854775808)] ++ wsX10)
def wsY_insert : List Cond := .code yY_insert cY_insert 6 (some .int) :: ([.fieldLink RX1 37 "MeldingHeapsModel" "inserted" "I", .fieldLink RX1 24 "MeldingHeapsModel" "keys" "[J", .fieldLink RX1 27 "MeldingHeapsModel" "values" "[I", .fieldLink RX1 30 "MeldingHeapsModel" "homes" "[I", .methodLink RX1 50 yY_wrongHeap, .instanceMethod yY_wrongHeap, .selects RX1 yY_wrongHeap yY_wrongHeap, .initialized RX1, .code yY_wrongHeap cY_wrongHeap 2 (some .int), .fieldLink RX1 33 "MeldingHeapsModel" "opened" "I", .fieldLink RX1 16 "MeldingHeapsModel" "gone" "[Z", .methodLink RX1 54 yY_isBelow, .instanceMethod yY_isBelow, .selects RX1 yY_isBelow yY_isBelow, .code yY_isBelow cY_isBelow 4 (some .boolean), .fieldLink RX1 7 "MeldingHeapsModel" "kinds" "[I", .fieldLink RX1 20 "MeldingHeapsModel" "floors" "[J", .methodLink RX1 46 yY_weight, .instanceMethod yY_weight, .selects RX1 yY_weight yY_weight, .code yY_weight cY_weight 5 (some .long), .fieldLink RX1 13 "MeldingHeapsModel" "orders" "[I", .constantLong RX1 40 (-1), .constantLong RX1 42 (-9223372036854775808), .constantLong RX1 44 (65535)] ++ wsX10)
def wsY_first : List Cond := .code yY_first cY_first 3 (some .int) :: ([.methodLink RX1 50 yY_wrongHeap, .instanceMethod yY_wrongHeap, .selects RX1 yY_wrongHeap yY_wrongHeap, .initialized RX1, .code yY_wrongHeap cY_wrongHeap 2 (some .int), .fieldLink RX1 33 "MeldingHeapsModel" "opened" "I", .fieldLink RX1 16 "MeldingHeapsModel" "gone" "[Z", .methodLink RX1 58 yY_extreme, .instanceMethod yY_extreme, .selects RX1 yY_extreme yY_extreme, .code yY_extreme cY_extreme 9 (some .int), .fieldLink RX1 37 "MeldingHeapsModel" "inserted" "I", .fieldLink RX1 30 "MeldingHeapsModel" "homes" "[I", .fieldLink RX1 24 "MeldingHeapsModel" "keys" "[J", .methodLink RX1 46 yY_weight, .instanceMethod yY_weight, .selects RX1 yY_weight yY_weight, .code yY_weight cY_weight 5 (some .long), .fieldLink RX1 13 "MeldingHeapsModel" "orders" "[I", .constantLong RX1 40 (-1), .constantLong RX1 42 (-9223372036854775808), .constantLong RX1 44 (65535)] ++ wsX10)
def wsY_last : List Cond := .code yY_last cY_last 3 (some .int) :: ([.fieldLink RX1 7 "MeldingHeapsModel" "kinds" "[I", .methodLink RX1 50 yY_wrongHeap, .instanceMethod yY_wrongHeap, .selects RX1 yY_wrongHeap yY_wrongHeap, .initialized RX1, .code yY_wrongHeap cY_wrongHeap 2 (some .int), .fieldLink RX1 33 "MeldingHeapsModel" "opened" "I", .fieldLink RX1 16 "MeldingHeapsModel" "gone" "[Z", .methodLink RX1 58 yY_extreme, .instanceMethod yY_extreme, .selects RX1 yY_extreme yY_extreme, .code yY_extreme cY_extreme 9 (some .int), .fieldLink RX1 37 "MeldingHeapsModel" "inserted" "I", .fieldLink RX1 30 "MeldingHeapsModel" "homes" "[I", .fieldLink RX1 24 "MeldingHeapsModel" "keys" "[J", .methodLink RX1 46 yY_weight, .instanceMethod yY_weight, .selects RX1 yY_weight yY_weight, .code yY_weight cY_weight 5 (some .long), .fieldLink RX1 13 "MeldingHeapsModel" "orders" "[I", .constantLong RX1 40 (-1), .constantLong RX1 42 (-9223372036854775808), .constantLong RX1 44 (65535)] ++ wsX10)
def wsY_take : List Cond := .code yY_take cY_take 3 (some .int) :: ([.fieldLink RX1 30 "MeldingHeapsModel" "homes" "[I", .methodLink RX1 62 yY_first, .instanceMethod yY_first, .selects RX1 yY_first yY_first, .initialized RX1, .code yY_first cY_first 3 (some .int), .methodLink RX1 50 yY_wrongHeap, .instanceMethod yY_wrongHeap, .selects RX1 yY_wrongHeap yY_wrongHeap, .code yY_wrongHeap cY_wrongHeap 2 (some .int), .fieldLink RX1 33 "MeldingHeapsModel" "opened" "I", .fieldLink RX1 16 "MeldingHeapsModel" "gone" "[Z", .methodLink RX1 58 yY_extreme, .instanceMethod yY_extreme, .selects RX1 yY_extreme yY_extreme, .code yY_extreme cY_extreme 9 (some .int), .fieldLink RX1 37 "MeldingHeapsModel" "inserted" "I", .fieldLink RX1 24 "MeldingHeapsModel" "keys" "[J", .methodLink RX1 46 yY_weight, .instanceMethod yY_weight, .selects RX1 yY_weight yY_weight, .code yY_weight cY_weight 5 (some .long), .fieldLink RX1 13 "MeldingHeapsModel" "orders" "[I", .constantLong RX1 40 (-1), .constantLong RX1 42 (-9223372036854775808), .constantLong RX1 44 (65535), .methodLink RX1 65 yY_leave, .instanceMethod yY_leave, .selects RX1 yY_leave yY_leave, .code yY_leave cY_leave 3 none, .fieldLink RX1 20 "MeldingHeapsModel" "floors" "[J", .fieldLink RX1 7 "MeldingHeapsModel" "kinds" "[I"] ++ wsX10)
def wsY_takeLast : List Cond := .code yY_takeLast cY_takeLast 3 (some .int) :: ([.fieldLink RX1 30 "MeldingHeapsModel" "homes" "[I", .methodLink RX1 69 yY_last, .instanceMethod yY_last, .selects RX1 yY_last yY_last, .initialized RX1, .code yY_last cY_last 3 (some .int), .fieldLink RX1 7 "MeldingHeapsModel" "kinds" "[I", .methodLink RX1 50 yY_wrongHeap, .instanceMethod yY_wrongHeap, .selects RX1 yY_wrongHeap yY_wrongHeap, .code yY_wrongHeap cY_wrongHeap 2 (some .int), .fieldLink RX1 33 "MeldingHeapsModel" "opened" "I", .fieldLink RX1 16 "MeldingHeapsModel" "gone" "[Z", .methodLink RX1 58 yY_extreme, .instanceMethod yY_extreme, .selects RX1 yY_extreme yY_extreme, .code yY_extreme cY_extreme 9 (some .int), .fieldLink RX1 37 "MeldingHeapsModel" "inserted" "I", .fieldLink RX1 24 "MeldingHeapsModel" "keys" "[J", .methodLink RX1 46 yY_weight, .instanceMethod yY_weight, .selects RX1 yY_weight yY_weight, .code yY_weight cY_weight 5 (some .long), .fieldLink RX1 13 "MeldingHeapsModel" "orders" "[I", .constantLong RX1 40 (-1), .constantLong RX1 42 (-9223372036854775808), .constantLong RX1 44 (65535)] ++ wsX10)
def wsY_decrease : List Cond := .code yY_decrease cY_decrease 6 (some .int) :: ([.fieldLink RX1 30 "MeldingHeapsModel" "homes" "[I", .fieldLink RX1 24 "MeldingHeapsModel" "keys" "[J", .methodLink RX1 72 yY_wrongEntry, .instanceMethod yY_wrongEntry, .selects RX1 yY_wrongEntry yY_wrongEntry, .initialized RX1, .code yY_wrongEntry cY_wrongEntry 2 (some .int), .fieldLink RX1 37 "MeldingHeapsModel" "inserted" "I", .methodLink RX1 46 yY_weight, .instanceMethod yY_weight, .selects RX1 yY_weight yY_weight, .code yY_weight cY_weight 5 (some .long), .fieldLink RX1 13 "MeldingHeapsModel" "orders" "[I", .constantLong RX1 40 (-1), .constantLong RX1 42 (-9223372036854775808), .constantLong RX1 44 (65535), .methodLink RX1 54 yY_isBelow, .instanceMethod yY_isBelow, .selects RX1 yY_isBelow yY_isBelow, .code yY_isBelow cY_isBelow 4 (some .boolean), .fieldLink RX1 7 "MeldingHeapsModel" "kinds" "[I", .fieldLink RX1 20 "MeldingHeapsModel" "floors" "[J", .methodLink RX1 75 yY_rank, .instanceMethod yY_rank, .selects RX1 yY_rank yY_rank, .code yY_rank cY_rank 9 (some .int)] ++ wsX10)
def wsY_delete : List Cond := .code yY_delete cY_delete 4 (some .int) :: ([.fieldLink RX1 30 "MeldingHeapsModel" "homes" "[I", .methodLink RX1 72 yY_wrongEntry, .instanceMethod yY_wrongEntry, .selects RX1 yY_wrongEntry yY_wrongEntry, .initialized RX1, .code yY_wrongEntry cY_wrongEntry 2 (some .int), .fieldLink RX1 37 "MeldingHeapsModel" "inserted" "I"] ++ wsX10)
def wsY_wrongPair : List Cond := .code yY_wrongPair cY_wrongPair 4 (some .int) :: ([.methodLink RX1 50 yY_wrongHeap, .instanceMethod yY_wrongHeap, .selects RX1 yY_wrongHeap yY_wrongHeap, .initialized RX1, .code yY_wrongHeap cY_wrongHeap 2 (some .int), .fieldLink RX1 33 "MeldingHeapsModel" "opened" "I", .fieldLink RX1 16 "MeldingHeapsModel" "gone" "[Z"] ++ wsX10)
def wsY_meld : List Cond := .code yY_meld cY_meld 5 (some .int) :: ([.fieldLink RX1 7 "MeldingHeapsModel" "kinds" "[I", .fieldLink RX1 13 "MeldingHeapsModel" "orders" "[I", .fieldLink RX1 37 "MeldingHeapsModel" "inserted" "I", .fieldLink RX1 30 "MeldingHeapsModel" "homes" "[I", .fieldLink RX1 16 "MeldingHeapsModel" "gone" "[Z", .methodLink RX1 78 yY_wrongPair, .instanceMethod yY_wrongPair, .selects RX1 yY_wrongPair yY_wrongPair, .initialized RX1, .code yY_wrongPair cY_wrongPair 4 (some .int), .methodLink RX1 50 yY_wrongHeap, .instanceMethod yY_wrongHeap, .selects RX1 yY_wrongHeap yY_wrongHeap, .code yY_wrongHeap cY_wrongHeap 2 (some .int), .fieldLink RX1 33 "MeldingHeapsModel" "opened" "I", .methodLink RX1 82 yY_many, .instanceMethod yY_many, .selects RX1 yY_many yY_many, .code yY_many cY_many 4 (some .int)] ++ wsX10)
def wsY_drain : List Cond := .code yY_drain cY_drain 8 (some .int) :: ([.fieldLink RX1 24 "MeldingHeapsModel" "keys" "[J", .fieldLink RX1 30 "MeldingHeapsModel" "homes" "[I", .methodLink RX1 78 yY_wrongPair, .instanceMethod yY_wrongPair, .selects RX1 yY_wrongPair yY_wrongPair, .initialized RX1, .code yY_wrongPair cY_wrongPair 4 (some .int), .methodLink RX1 50 yY_wrongHeap, .instanceMethod yY_wrongHeap, .selects RX1 yY_wrongHeap yY_wrongHeap, .code yY_wrongHeap cY_wrongHeap 2 (some .int), .fieldLink RX1 33 "MeldingHeapsModel" "opened" "I", .fieldLink RX1 16 "MeldingHeapsModel" "gone" "[Z", .methodLink RX1 58 yY_extreme, .instanceMethod yY_extreme, .selects RX1 yY_extreme yY_extreme, .code yY_extreme cY_extreme 9 (some .int), .fieldLink RX1 37 "MeldingHeapsModel" "inserted" "I", .methodLink RX1 46 yY_weight, .instanceMethod yY_weight, .selects RX1 yY_weight yY_weight, .code yY_weight cY_weight 5 (some .long), .fieldLink RX1 13 "MeldingHeapsModel" "orders" "[I", .constantLong RX1 40 (-1), .constantLong RX1 42 (-9223372036854775808), .constantLong RX1 44 (65535), .methodLink RX1 54 yY_isBelow, .instanceMethod yY_isBelow, .selects RX1 yY_isBelow yY_isBelow, .code yY_isBelow cY_isBelow 4 (some .boolean), .fieldLink RX1 7 "MeldingHeapsModel" "kinds" "[I", .fieldLink RX1 20 "MeldingHeapsModel" "floors" "[J", .methodLink RX1 65 yY_leave, .instanceMethod yY_leave, .selects RX1 yY_leave yY_leave, .code yY_leave cY_leave 3 none] ++ wsX10)
def wsY_clear : List Cond := .code yY_clear cY_clear 5 (some .int) :: ([.fieldLink RX1 37 "MeldingHeapsModel" "inserted" "I", .fieldLink RX1 30 "MeldingHeapsModel" "homes" "[I", .fieldLink RX1 20 "MeldingHeapsModel" "floors" "[J", .constantLong RX1 42 (-9223372036854775808), .methodLink RX1 50 yY_wrongHeap, .instanceMethod yY_wrongHeap, .selects RX1 yY_wrongHeap yY_wrongHeap, .initialized RX1, .code yY_wrongHeap cY_wrongHeap 2 (some .int), .fieldLink RX1 33 "MeldingHeapsModel" "opened" "I", .fieldLink RX1 16 "MeldingHeapsModel" "gone" "[Z", .methodLink RX1 82 yY_many, .instanceMethod yY_many, .selects RX1 yY_many yY_many, .code yY_many cY_many 4 (some .int)] ++ wsX10)
def wsY_size : List Cond := .code yY_size cY_size 3 (some .int) :: ([.methodLink RX1 50 yY_wrongHeap, .instanceMethod yY_wrongHeap, .selects RX1 yY_wrongHeap yY_wrongHeap, .initialized RX1, .code yY_wrongHeap cY_wrongHeap 2 (some .int), .fieldLink RX1 33 "MeldingHeapsModel" "opened" "I", .fieldLink RX1 16 "MeldingHeapsModel" "gone" "[Z", .methodLink RX1 82 yY_many, .instanceMethod yY_many, .selects RX1 yY_many yY_many, .code yY_many cY_many 4 (some .int), .fieldLink RX1 37 "MeldingHeapsModel" "inserted" "I", .fieldLink RX1 30 "MeldingHeapsModel" "homes" "[I"] ++ wsX10)
def wsY_floor : List Cond := .code yY_floor cY_floor 2 (some .long) :: ([.fieldLink RX1 20 "MeldingHeapsModel" "floors" "[J", .constantLong RX1 42 (-9223372036854775808), .methodLink RX1 50 yY_wrongHeap, .instanceMethod yY_wrongHeap, .selects RX1 yY_wrongHeap yY_wrongHeap, .initialized RX1, .code yY_wrongHeap cY_wrongHeap 2 (some .int), .fieldLink RX1 33 "MeldingHeapsModel" "opened" "I", .fieldLink RX1 16 "MeldingHeapsModel" "gone" "[Z"] ++ wsX10)
def wsY_key : List Cond := .code yY_key cY_key 2 (some .long) :: ([.fieldLink RX1 24 "MeldingHeapsModel" "keys" "[J", .methodLink RX1 72 yY_wrongEntry, .instanceMethod yY_wrongEntry, .selects RX1 yY_wrongEntry yY_wrongEntry, .initialized RX1, .code yY_wrongEntry cY_wrongEntry 2 (some .int), .fieldLink RX1 37 "MeldingHeapsModel" "inserted" "I", .fieldLink RX1 30 "MeldingHeapsModel" "homes" "[I"] ++ wsX10)
def wsY_value : List Cond := .code yY_value cY_value 2 (some .int) :: ([.fieldLink RX1 27 "MeldingHeapsModel" "values" "[I", .methodLink RX1 72 yY_wrongEntry, .instanceMethod yY_wrongEntry, .selects RX1 yY_wrongEntry yY_wrongEntry, .initialized RX1, .code yY_wrongEntry cY_wrongEntry 2 (some .int), .fieldLink RX1 37 "MeldingHeapsModel" "inserted" "I", .fieldLink RX1 30 "MeldingHeapsModel" "homes" "[I"] ++ wsX10)
def wsY_owner : List Cond := .code yY_owner cY_owner 3 (some .int) :: ([.fieldLink RX1 30 "MeldingHeapsModel" "homes" "[I", .methodLink RX1 72 yY_wrongEntry, .instanceMethod yY_wrongEntry, .selects RX1 yY_wrongEntry yY_wrongEntry, .initialized RX1, .code yY_wrongEntry cY_wrongEntry 2 (some .int), .fieldLink RX1 37 "MeldingHeapsModel" "inserted" "I"] ++ wsX10)
def wsY_before : List Cond := .code yY_before cY_before 3 (some .int) :: ([.methodLink RX1 72 yY_wrongEntry, .instanceMethod yY_wrongEntry, .selects RX1 yY_wrongEntry yY_wrongEntry, .initialized RX1, .code yY_wrongEntry cY_wrongEntry 2 (some .int), .fieldLink RX1 37 "MeldingHeapsModel" "inserted" "I", .fieldLink RX1 30 "MeldingHeapsModel" "homes" "[I", .methodLink RX1 75 yY_rank, .instanceMethod yY_rank, .selects RX1 yY_rank yY_rank, .code yY_rank cY_rank 9 (some .int), .fieldLink RX1 24 "MeldingHeapsModel" "keys" "[J", .methodLink RX1 46 yY_weight, .instanceMethod yY_weight, .selects RX1 yY_weight yY_weight, .code yY_weight cY_weight 5 (some .long), .fieldLink RX1 13 "MeldingHeapsModel" "orders" "[I", .constantLong RX1 40 (-1), .constantLong RX1 42 (-9223372036854775808), .constantLong RX1 44 (65535)] ++ wsX10)
set_option maxRecDepth 20000 in
theorem ggY_isBelow_Y_weight : GoodIn wsY_isBelow wsY_weight := goodIn_r _ [7, 8, 9, 10, 11, 12, 13, 14, 15, 16, 17, 18, 19, 20] (by decide +kernel) (by decide +kernel)
set_option maxRecDepth 20000 in
theorem gY_isBelow_Y_weight : GoodIn wsY_isBelow (wsV RX1 46 RX1 yY_weight wsY_weight) := goodIn_app (goodIn_of _ (by decide +kernel)) ggY_isBelow_Y_weight
set_option maxRecDepth 20000 in
theorem ggY_rank_Y_weight : GoodIn wsY_rank wsY_weight := goodIn_r _ [8, 9, 10, 11, 12, 13, 14, 15, 16, 17, 18, 19, 20, 21] (by decide +kernel) (by decide +kernel)
set_option maxRecDepth 20000 in
theorem gY_rank_Y_weight : GoodIn wsY_rank (wsV RX1 46 RX1 yY_weight wsY_weight) := goodIn_app (goodIn_of _ (by decide +kernel)) ggY_rank_Y_weight
set_option maxRecDepth 20000 in
theorem ggY_extreme_Y_weight : GoodIn wsY_extreme wsY_weight := goodIn_r _ [8, 9, 10, 11, 12, 13, 14, 15, 16, 17, 18, 19, 20, 21] (by decide +kernel) (by decide +kernel)
set_option maxRecDepth 20000 in
theorem gY_extreme_Y_weight : GoodIn wsY_extreme (wsV RX1 46 RX1 yY_weight wsY_weight) := goodIn_app (goodIn_of _ (by decide +kernel)) ggY_extreme_Y_weight
set_option maxRecDepth 20000 in
theorem ggY_leave_Y_weight : GoodIn wsY_leave wsY_weight := goodIn_r _ [8, 9, 10, 11, 12, 13, 14, 15, 16, 17, 18, 19, 20, 21] (by decide +kernel) (by decide +kernel)
set_option maxRecDepth 20000 in
theorem gY_leave_Y_weight : GoodIn wsY_leave (wsV RX1 46 RX1 yY_weight wsY_weight) := goodIn_app (goodIn_of _ (by decide +kernel)) ggY_leave_Y_weight
set_option maxRecDepth 20000 in
theorem ggY_insert_Y_wrongHeap : GoodIn wsY_insert wsY_wrongHeap := goodIn_r _ [9, 10, 11, 26, 27, 28, 29, 30, 31, 32, 33, 34] (by decide +kernel) (by decide +kernel)
set_option maxRecDepth 20000 in
theorem gY_insert_Y_wrongHeap : GoodIn wsY_insert (wsV RX1 50 RX1 yY_wrongHeap wsY_wrongHeap) := goodIn_app (goodIn_of _ (by decide +kernel)) ggY_insert_Y_wrongHeap
set_option maxRecDepth 20000 in
theorem ggY_insert_Y_isBelow : GoodIn wsY_insert wsY_isBelow := goodIn_r _ [15, 16, 17, 18, 19, 20, 8, 21, 22, 23, 24, 25, 26, 27, 28, 29, 30, 31, 32, 33, 34] (by decide +kernel) (by decide +kernel)
set_option maxRecDepth 20000 in
theorem gY_insert_Y_isBelow : GoodIn wsY_insert (wsV RX1 54 RX1 yY_isBelow wsY_isBelow) := goodIn_app (goodIn_of _ (by decide +kernel)) ggY_insert_Y_isBelow
set_option maxRecDepth 20000 in
theorem ggY_first_Y_wrongHeap : GoodIn wsY_first wsY_wrongHeap := goodIn_r _ [5, 6, 7, 23, 24, 25, 26, 27, 28, 29, 30, 31] (by decide +kernel) (by decide +kernel)
set_option maxRecDepth 20000 in
theorem gY_first_Y_wrongHeap : GoodIn wsY_first (wsV RX1 50 RX1 yY_wrongHeap wsY_wrongHeap) := goodIn_app (goodIn_of _ (by decide +kernel)) ggY_first_Y_wrongHeap
set_option maxRecDepth 20000 in
theorem ggY_first_Y_extreme : GoodIn wsY_first wsY_extreme := goodIn_r _ [11, 12, 13, 14, 15, 16, 17, 4, 18, 19, 20, 21, 22, 23, 24, 25, 26, 27, 28, 29, 30, 31] (by decide +kernel) (by decide +kernel)
set_option maxRecDepth 20000 in
theorem gY_first_Y_extreme : GoodIn wsY_first (wsV RX1 58 RX1 yY_extreme wsY_extreme) := goodIn_app (goodIn_of _ (by decide +kernel)) ggY_first_Y_extreme
set_option maxRecDepth 20000 in
theorem ggY_last_Y_wrongHeap : GoodIn wsY_last wsY_wrongHeap := goodIn_r _ [6, 7, 8, 24, 25, 26, 27, 28, 29, 30, 31, 32] (by decide +kernel) (by decide +kernel)
set_option maxRecDepth 20000 in
theorem gY_last_Y_wrongHeap : GoodIn wsY_last (wsV RX1 50 RX1 yY_wrongHeap wsY_wrongHeap) := goodIn_app (goodIn_of _ (by decide +kernel)) ggY_last_Y_wrongHeap
set_option maxRecDepth 20000 in
theorem ggY_last_Y_extreme : GoodIn wsY_last wsY_extreme := goodIn_r _ [12, 13, 14, 15, 16, 17, 18, 5, 19, 20, 21, 22, 23, 24, 25, 26, 27, 28, 29, 30, 31, 32] (by decide +kernel) (by decide +kernel)
set_option maxRecDepth 20000 in
theorem gY_last_Y_extreme : GoodIn wsY_last (wsV RX1 58 RX1 yY_extreme wsY_extreme) := goodIn_app (goodIn_of _ (by decide +kernel)) ggY_last_Y_extreme
set_option maxRecDepth 20000 in
theorem ggY_take_Y_first : GoodIn wsY_take wsY_first := goodIn_r _ [6, 7, 8, 9, 5, 10, 11, 12, 13, 14, 15, 16, 17, 1, 18, 19, 20, 21, 22, 23, 24, 25, 26, 33, 34, 35, 36, 37, 38, 39, 40, 41] (by decide +kernel) (by decide +kernel)
set_option maxRecDepth 20000 in
theorem gY_take_Y_first : GoodIn wsY_take (wsV RX1 62 RX1 yY_first wsY_first) := goodIn_app (goodIn_of _ (by decide +kernel)) ggY_take_Y_first
set_option maxRecDepth 20000 in
theorem ggY_take_Y_leave : GoodIn wsY_take wsY_leave := goodIn_r _ [30, 31, 32, 18, 19, 20, 21, 5, 22, 23, 24, 25, 26, 33, 34, 35, 36, 37, 38, 39, 40, 41] (by decide +kernel) (by decide +kernel)
set_option maxRecDepth 20000 in
theorem gY_take_Y_leave : GoodIn wsY_take (wsV RX1 65 RX1 yY_leave wsY_leave) := goodIn_app (goodIn_of _ (by decide +kernel)) ggY_take_Y_leave
set_option maxRecDepth 20000 in
theorem ggY_takeLast_Y_last : GoodIn wsY_takeLast wsY_last := goodIn_r _ [6, 7, 8, 9, 10, 5, 11, 12, 13, 14, 15, 16, 17, 18, 1, 19, 20, 21, 22, 23, 24, 25, 26, 27, 28, 29, 30, 31, 32, 33, 34, 35, 36] (by decide +kernel) (by decide +kernel)
set_option maxRecDepth 20000 in
theorem gY_takeLast_Y_last : GoodIn wsY_takeLast (wsV RX1 69 RX1 yY_last wsY_last) := goodIn_app (goodIn_of _ (by decide +kernel)) ggY_takeLast_Y_last
set_option maxRecDepth 20000 in
theorem ggY_decrease_Y_wrongEntry : GoodIn wsY_decrease wsY_wrongEntry := goodIn_r _ [7, 8, 1, 27, 28, 29, 30, 31, 32, 33, 34, 35] (by decide +kernel) (by decide +kernel)
set_option maxRecDepth 20000 in
theorem gY_decrease_Y_wrongEntry : GoodIn wsY_decrease (wsV RX1 72 RX1 yY_wrongEntry wsY_wrongEntry) := goodIn_app (goodIn_of _ (by decide +kernel)) ggY_decrease_Y_wrongEntry
set_option maxRecDepth 20000 in
theorem ggY_decrease_Y_weight : GoodIn wsY_decrease wsY_weight := goodIn_r _ [12, 13, 14, 15, 16, 27, 28, 29, 30, 31, 32, 33, 34, 35] (by decide +kernel) (by decide +kernel)
set_option maxRecDepth 20000 in
theorem gY_decrease_Y_weight : GoodIn wsY_decrease (wsV RX1 46 RX1 yY_weight wsY_weight) := goodIn_app (goodIn_of _ (by decide +kernel)) ggY_decrease_Y_weight
set_option maxRecDepth 20000 in
theorem ggY_decrease_Y_isBelow : GoodIn wsY_decrease wsY_isBelow := goodIn_r _ [20, 21, 22, 9, 10, 11, 6, 12, 13, 14, 15, 16, 27, 28, 29, 30, 31, 32, 33, 34, 35] (by decide +kernel) (by decide +kernel)
set_option maxRecDepth 20000 in
theorem gY_decrease_Y_isBelow : GoodIn wsY_decrease (wsV RX1 54 RX1 yY_isBelow wsY_isBelow) := goodIn_app (goodIn_of _ (by decide +kernel)) ggY_decrease_Y_isBelow
set_option maxRecDepth 20000 in
theorem ggY_decrease_Y_rank : GoodIn wsY_decrease wsY_rank := goodIn_r _ [26, 1, 2, 8, 9, 10, 11, 6, 12, 13, 14, 15, 16, 27, 28, 29, 30, 31, 32, 33, 34, 35] (by decide +kernel) (by decide +kernel)
set_option maxRecDepth 20000 in
theorem gY_decrease_Y_rank : GoodIn wsY_decrease (wsV RX1 75 RX1 yY_rank wsY_rank) := goodIn_app (goodIn_of _ (by decide +kernel)) ggY_decrease_Y_rank
set_option maxRecDepth 20000 in
theorem ggY_delete_Y_wrongEntry : GoodIn wsY_delete wsY_wrongEntry := goodIn_r _ [6, 7, 1, 8, 9, 10, 11, 12, 13, 14, 15, 16] (by decide +kernel) (by decide +kernel)
set_option maxRecDepth 20000 in
theorem gY_delete_Y_wrongEntry : GoodIn wsY_delete (wsV RX1 72 RX1 yY_wrongEntry wsY_wrongEntry) := goodIn_app (goodIn_of _ (by decide +kernel)) ggY_delete_Y_wrongEntry
set_option maxRecDepth 20000 in
theorem ggY_wrongPair_Y_wrongHeap : GoodIn wsY_wrongPair wsY_wrongHeap := goodIn_r _ [5, 6, 7, 8, 9, 10, 11, 12, 13, 14, 15, 16] (by decide +kernel) (by decide +kernel)
set_option maxRecDepth 20000 in
theorem gY_wrongPair_Y_wrongHeap : GoodIn wsY_wrongPair (wsV RX1 50 RX1 yY_wrongHeap wsY_wrongHeap) := goodIn_app (goodIn_of _ (by decide +kernel)) ggY_wrongPair_Y_wrongHeap
set_option maxRecDepth 20000 in
theorem ggY_meld_Y_wrongPair : GoodIn wsY_meld wsY_wrongPair := goodIn_r _ [10, 11, 12, 13, 9, 14, 15, 5, 20, 21, 22, 23, 24, 25, 26, 27, 28] (by decide +kernel) (by decide +kernel)
set_option maxRecDepth 20000 in
theorem gY_meld_Y_wrongPair : GoodIn wsY_meld (wsV RX1 78 RX1 yY_wrongPair wsY_wrongPair) := goodIn_app (goodIn_of _ (by decide +kernel)) ggY_meld_Y_wrongPair
set_option maxRecDepth 20000 in
theorem ggY_meld_Y_many : GoodIn wsY_meld wsY_many := goodIn_r _ [19, 3, 4, 20, 21, 22, 23, 24, 25, 26, 27, 28] (by decide +kernel) (by decide +kernel)
set_option maxRecDepth 20000 in
theorem gY_meld_Y_many : GoodIn wsY_meld (wsV RX1 82 RX1 yY_many wsY_many) := goodIn_app (goodIn_of _ (by decide +kernel)) ggY_meld_Y_many
set_option maxRecDepth 20000 in
theorem ggY_drain_Y_wrongPair : GoodIn wsY_drain wsY_wrongPair := goodIn_r _ [7, 8, 9, 10, 6, 11, 12, 13, 37, 38, 39, 40, 41, 42, 43, 44, 45] (by decide +kernel) (by decide +kernel)
set_option maxRecDepth 20000 in
theorem gY_drain_Y_wrongPair : GoodIn wsY_drain (wsV RX1 78 RX1 yY_wrongPair wsY_wrongPair) := goodIn_app (goodIn_of _ (by decide +kernel)) ggY_drain_Y_wrongPair
set_option maxRecDepth 20000 in
theorem ggY_drain_Y_extreme : GoodIn wsY_drain wsY_extreme := goodIn_r _ [17, 18, 2, 1, 19, 20, 21, 6, 22, 23, 24, 25, 26, 37, 38, 39, 40, 41, 42, 43, 44, 45] (by decide +kernel) (by decide +kernel)
set_option maxRecDepth 20000 in
theorem gY_drain_Y_extreme : GoodIn wsY_drain (wsV RX1 58 RX1 yY_extreme wsY_extreme) := goodIn_app (goodIn_of _ (by decide +kernel)) ggY_drain_Y_extreme
set_option maxRecDepth 20000 in
theorem ggY_drain_Y_isBelow : GoodIn wsY_drain wsY_isBelow := goodIn_r _ [30, 31, 32, 19, 20, 21, 6, 22, 23, 24, 25, 26, 37, 38, 39, 40, 41, 42, 43, 44, 45] (by decide +kernel) (by decide +kernel)
set_option maxRecDepth 20000 in
theorem gY_drain_Y_isBelow : GoodIn wsY_drain (wsV RX1 54 RX1 yY_isBelow wsY_isBelow) := goodIn_app (goodIn_of _ (by decide +kernel)) ggY_drain_Y_isBelow
set_option maxRecDepth 20000 in
theorem ggY_drain_Y_leave : GoodIn wsY_drain wsY_leave := goodIn_r _ [36, 32, 31, 1, 19, 20, 21, 6, 22, 23, 24, 25, 26, 37, 38, 39, 40, 41, 42, 43, 44, 45] (by decide +kernel) (by decide +kernel)
set_option maxRecDepth 20000 in
theorem gY_drain_Y_leave : GoodIn wsY_drain (wsV RX1 65 RX1 yY_leave wsY_leave) := goodIn_app (goodIn_of _ (by decide +kernel)) ggY_drain_Y_leave
set_option maxRecDepth 20000 in
theorem ggY_clear_Y_wrongHeap : GoodIn wsY_clear wsY_wrongHeap := goodIn_r _ [9, 10, 11, 16, 17, 18, 19, 20, 21, 22, 23, 24] (by decide +kernel) (by decide +kernel)
set_option maxRecDepth 20000 in
theorem gY_clear_Y_wrongHeap : GoodIn wsY_clear (wsV RX1 50 RX1 yY_wrongHeap wsY_wrongHeap) := goodIn_app (goodIn_of _ (by decide +kernel)) ggY_clear_Y_wrongHeap
set_option maxRecDepth 20000 in
theorem ggY_clear_Y_many : GoodIn wsY_clear wsY_many := goodIn_r _ [15, 1, 2, 16, 17, 18, 19, 20, 21, 22, 23, 24] (by decide +kernel) (by decide +kernel)
set_option maxRecDepth 20000 in
theorem gY_clear_Y_many : GoodIn wsY_clear (wsV RX1 82 RX1 yY_many wsY_many) := goodIn_app (goodIn_of _ (by decide +kernel)) ggY_clear_Y_many
set_option maxRecDepth 20000 in
theorem ggY_size_Y_wrongHeap : GoodIn wsY_size wsY_wrongHeap := goodIn_r _ [5, 6, 7, 14, 15, 16, 17, 18, 19, 20, 21, 22] (by decide +kernel) (by decide +kernel)
set_option maxRecDepth 20000 in
theorem gY_size_Y_wrongHeap : GoodIn wsY_size (wsV RX1 50 RX1 yY_wrongHeap wsY_wrongHeap) := goodIn_app (goodIn_of _ (by decide +kernel)) ggY_size_Y_wrongHeap
set_option maxRecDepth 20000 in
theorem ggY_size_Y_many : GoodIn wsY_size wsY_many := goodIn_r _ [11, 12, 13, 14, 15, 16, 17, 18, 19, 20, 21, 22] (by decide +kernel) (by decide +kernel)
set_option maxRecDepth 20000 in
theorem gY_size_Y_many : GoodIn wsY_size (wsV RX1 82 RX1 yY_many wsY_many) := goodIn_app (goodIn_of _ (by decide +kernel)) ggY_size_Y_many
set_option maxRecDepth 20000 in
theorem ggY_floor_Y_wrongHeap : GoodIn wsY_floor wsY_wrongHeap := goodIn_r _ [7, 8, 9, 10, 11, 12, 13, 14, 15, 16, 17, 18] (by decide +kernel) (by decide +kernel)
set_option maxRecDepth 20000 in
theorem gY_floor_Y_wrongHeap : GoodIn wsY_floor (wsV RX1 50 RX1 yY_wrongHeap wsY_wrongHeap) := goodIn_app (goodIn_of _ (by decide +kernel)) ggY_floor_Y_wrongHeap
set_option maxRecDepth 20000 in
theorem ggY_key_Y_wrongEntry : GoodIn wsY_key wsY_wrongEntry := goodIn_r _ [6, 7, 8, 9, 10, 11, 12, 13, 14, 15, 16, 17] (by decide +kernel) (by decide +kernel)
set_option maxRecDepth 20000 in
theorem gY_key_Y_wrongEntry : GoodIn wsY_key (wsV RX1 72 RX1 yY_wrongEntry wsY_wrongEntry) := goodIn_app (goodIn_of _ (by decide +kernel)) ggY_key_Y_wrongEntry
set_option maxRecDepth 20000 in
theorem ggY_value_Y_wrongEntry : GoodIn wsY_value wsY_wrongEntry := goodIn_r _ [6, 7, 8, 9, 10, 11, 12, 13, 14, 15, 16, 17] (by decide +kernel) (by decide +kernel)
set_option maxRecDepth 20000 in
theorem gY_value_Y_wrongEntry : GoodIn wsY_value (wsV RX1 72 RX1 yY_wrongEntry wsY_wrongEntry) := goodIn_app (goodIn_of _ (by decide +kernel)) ggY_value_Y_wrongEntry
set_option maxRecDepth 20000 in
theorem ggY_owner_Y_wrongEntry : GoodIn wsY_owner wsY_wrongEntry := goodIn_r _ [6, 7, 1, 8, 9, 10, 11, 12, 13, 14, 15, 16] (by decide +kernel) (by decide +kernel)
set_option maxRecDepth 20000 in
theorem gY_owner_Y_wrongEntry : GoodIn wsY_owner (wsV RX1 72 RX1 yY_wrongEntry wsY_wrongEntry) := goodIn_app (goodIn_of _ (by decide +kernel)) ggY_owner_Y_wrongEntry
set_option maxRecDepth 20000 in
theorem ggY_before_Y_wrongEntry : GoodIn wsY_before wsY_wrongEntry := goodIn_r _ [5, 6, 7, 21, 22, 23, 24, 25, 26, 27, 28, 29] (by decide +kernel) (by decide +kernel)
set_option maxRecDepth 20000 in
theorem gY_before_Y_wrongEntry : GoodIn wsY_before (wsV RX1 72 RX1 yY_wrongEntry wsY_wrongEntry) := goodIn_app (goodIn_of _ (by decide +kernel)) ggY_before_Y_wrongEntry
set_option maxRecDepth 20000 in
theorem ggY_before_Y_rank : GoodIn wsY_before wsY_rank := goodIn_r _ [11, 7, 12, 6, 13, 14, 15, 4, 16, 17, 18, 19, 20, 21, 22, 23, 24, 25, 26, 27, 28, 29] (by decide +kernel) (by decide +kernel)
set_option maxRecDepth 20000 in
theorem gY_before_Y_rank : GoodIn wsY_before (wsV RX1 75 RX1 yY_rank wsY_rank) := goodIn_app (goodIn_of _ (by decide +kernel)) ggY_before_Y_rank
