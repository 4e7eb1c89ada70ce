section
-- ===== PART A: goes FIRST, ahead of the names: the tables' words, and 'selects' of the private methods out of them =====
/-- a private method of a class that the tables say can be made, by its rows of tables_1 -/
def lw_okq (q : MethodName × Nat) : Prop := (q.1.cls ≠ "java/lang/invoke/MethodHandle" ∧ q.1.cls ≠ "java/lang/invoke/VarHandle") ∧ Cond.instantiable q.1.cls q.2 ∈ tables_1 ∧ Cond.privateMethod q.1 ∈ tables_1 ∧ Cond.instanceMethod q.1 ∈ tables_1
theorem lw_p0 : lw_okq (⟨"MeldingHeaps", "refusalOfHeap", "(I)I"⟩, 9) := ⟨⟨by decide +kernel, by decide +kernel⟩, List.mem_of_getElem? (i := 5) (by decide +kernel), List.mem_of_getElem? (i := 53) (by decide +kernel), List.mem_of_getElem? (i := 54) (by decide +kernel)⟩
theorem lw_p1 : lw_okq (⟨"MeldingHeaps", "isHeap", "(I)Z"⟩, 9) := ⟨⟨by decide +kernel, by decide +kernel⟩, List.mem_of_getElem? (i := 5) (by decide +kernel), List.mem_of_getElem? (i := 57) (by decide +kernel), List.mem_of_getElem? (i := 58) (by decide +kernel)⟩
theorem lw_p2 : lw_okq (⟨"MeldingHeaps", "isBelowFloor", "(IJ)Z"⟩, 9) := ⟨⟨by decide +kernel, by decide +kernel⟩, List.mem_of_getElem? (i := 5) (by decide +kernel), List.mem_of_getElem? (i := 61) (by decide +kernel), List.mem_of_getElem? (i := 62) (by decide +kernel)⟩
theorem lw_p3 : lw_okq (⟨"MeldingHeaps", "findFirst", "(I)I"⟩, 9) := ⟨⟨by decide +kernel, by decide +kernel⟩, List.mem_of_getElem? (i := 5) (by decide +kernel), List.mem_of_getElem? (i := 74) (by decide +kernel), List.mem_of_getElem? (i := 75) (by decide +kernel)⟩
theorem lw_p4 : lw_okq (⟨"MeldingHeaps", "isBefore", "(III)Z"⟩, 9) := ⟨⟨by decide +kernel, by decide +kernel⟩, List.mem_of_getElem? (i := 5) (by decide +kernel), List.mem_of_getElem? (i := 78) (by decide +kernel), List.mem_of_getElem? (i := 79) (by decide +kernel)⟩
theorem lw_p5 : lw_okq (⟨"MeldingHeaps", "refusalOfLastOf", "(I)I"⟩, 9) := ⟨⟨by decide +kernel, by decide +kernel⟩, List.mem_of_getElem? (i := 5) (by decide +kernel), List.mem_of_getElem? (i := 86) (by decide +kernel), List.mem_of_getElem? (i := 87) (by decide +kernel)⟩
theorem lw_p6 : lw_okq (⟨"MeldingHeaps", "findLast", "(I)I"⟩, 9) := ⟨⟨by decide +kernel, by decide +kernel⟩, List.mem_of_getElem? (i := 5) (by decide +kernel), List.mem_of_getElem? (i := 90) (by decide +kernel), List.mem_of_getElem? (i := 91) (by decide +kernel)⟩
theorem lw_p7 : lw_okq (⟨"MeldingHeaps", "raiseFloor", "(IJ)V"⟩, 9) := ⟨⟨by decide +kernel, by decide +kernel⟩, List.mem_of_getElem? (i := 5) (by decide +kernel), List.mem_of_getElem? (i := 99) (by decide +kernel), List.mem_of_getElem? (i := 100) (by decide +kernel)⟩
theorem lw_p8 : lw_okq (⟨"MeldingHeaps", "refusalOfEntry", "(I)I"⟩, 9) := ⟨⟨by decide +kernel, by decide +kernel⟩, List.mem_of_getElem? (i := 5) (by decide +kernel), List.mem_of_getElem? (i := 112) (by decide +kernel), List.mem_of_getElem? (i := 113) (by decide +kernel)⟩
theorem lw_p9 : lw_okq (⟨"MeldingHeaps", "isEntry", "(I)Z"⟩, 9) := ⟨⟨by decide +kernel, by decide +kernel⟩, List.mem_of_getElem? (i := 5) (by decide +kernel), List.mem_of_getElem? (i := 116) (by decide +kernel), List.mem_of_getElem? (i := 117) (by decide +kernel)⟩
theorem lw_p10 : lw_okq (⟨"MeldingHeaps", "refusalOfPair", "(II)I"⟩, 9) := ⟨⟨by decide +kernel, by decide +kernel⟩, List.mem_of_getElem? (i := 5) (by decide +kernel), List.mem_of_getElem? (i := 132) (by decide +kernel), List.mem_of_getElem? (i := 133) (by decide +kernel)⟩
theorem lw_p11 : lw_okq (⟨"MeldingHeaps", "handOverAll", "(II)I"⟩, 9) := ⟨⟨by decide +kernel, by decide +kernel⟩, List.mem_of_getElem? (i := 5) (by decide +kernel), List.mem_of_getElem? (i := 136) (by decide +kernel), List.mem_of_getElem? (i := 137) (by decide +kernel)⟩
theorem lw_p12 : lw_okq (⟨"MeldingHeaps", "countEntries", "(I)I"⟩, 9) := ⟨⟨by decide +kernel, by decide +kernel⟩, List.mem_of_getElem? (i := 5) (by decide +kernel), List.mem_of_getElem? (i := 140) (by decide +kernel), List.mem_of_getElem? (i := 141) (by decide +kernel)⟩
theorem lw_p13 : lw_okq (⟨"MeldingHeaps", "countBefore", "(II)I"⟩, 9) := ⟨⟨by decide +kernel, by decide +kernel⟩, List.mem_of_getElem? (i := 5) (by decide +kernel), List.mem_of_getElem? (i := 176) (by decide +kernel), List.mem_of_getElem? (i := 177) (by decide +kernel)⟩
theorem lw_p14 : lw_okq (⟨"MeldingHeapsModel", "wrongHeap", "(I)I"⟩, 9) := ⟨⟨by decide +kernel, by decide +kernel⟩, List.mem_of_getElem? (i := 180) (by decide +kernel), List.mem_of_getElem? (i := 223) (by decide +kernel), List.mem_of_getElem? (i := 224) (by decide +kernel)⟩
theorem lw_p15 : lw_okq (⟨"MeldingHeapsModel", "isBelow", "(IJ)Z"⟩, 9) := ⟨⟨by decide +kernel, by decide +kernel⟩, List.mem_of_getElem? (i := 180) (by decide +kernel), List.mem_of_getElem? (i := 227) (by decide +kernel), List.mem_of_getElem? (i := 228) (by decide +kernel)⟩
def lw_privs_1 : List (MethodName × Nat) := [(⟨"MeldingHeaps", "refusalOfHeap", "(I)I"⟩, 9), (⟨"MeldingHeaps", "isHeap", "(I)Z"⟩, 9), (⟨"MeldingHeaps", "isBelowFloor", "(IJ)Z"⟩, 9), (⟨"MeldingHeaps", "findFirst", "(I)I"⟩, 9), (⟨"MeldingHeaps", "isBefore", "(III)Z"⟩, 9), (⟨"MeldingHeaps", "refusalOfLastOf", "(I)I"⟩, 9), (⟨"MeldingHeaps", "findLast", "(I)I"⟩, 9), (⟨"MeldingHeaps", "raiseFloor", "(IJ)V"⟩, 9), (⟨"MeldingHeaps", "refusalOfEntry", "(I)I"⟩, 9), (⟨"MeldingHeaps", "isEntry", "(I)Z"⟩, 9), (⟨"MeldingHeaps", "refusalOfPair", "(II)I"⟩, 9), (⟨"MeldingHeaps", "handOverAll", "(II)I"⟩, 9), (⟨"MeldingHeaps", "countEntries", "(I)I"⟩, 9), (⟨"MeldingHeaps", "countBefore", "(II)I"⟩, 9), (⟨"MeldingHeapsModel", "wrongHeap", "(I)I"⟩, 9), (⟨"MeldingHeapsModel", "isBelow", "(IJ)Z"⟩, 9)]
theorem lw_r1 : ∀ q ∈ lw_privs_1, lw_okq q := List.forall_mem_cons.mpr ⟨lw_p0, List.forall_mem_cons.mpr ⟨lw_p1, List.forall_mem_cons.mpr ⟨lw_p2, List.forall_mem_cons.mpr ⟨lw_p3, List.forall_mem_cons.mpr ⟨lw_p4, List.forall_mem_cons.mpr ⟨lw_p5, List.forall_mem_cons.mpr ⟨lw_p6, List.forall_mem_cons.mpr ⟨lw_p7, List.forall_mem_cons.mpr ⟨lw_p8, List.forall_mem_cons.mpr ⟨lw_p9, List.forall_mem_cons.mpr ⟨lw_p10, List.forall_mem_cons.mpr ⟨lw_p11, List.forall_mem_cons.mpr ⟨lw_p12, List.forall_mem_cons.mpr ⟨lw_p13, List.forall_mem_cons.mpr ⟨lw_p14, List.forall_mem_cons.mpr ⟨lw_p15, fun _ h => absurd h List.not_mem_nil⟩⟩⟩⟩⟩⟩⟩⟩⟩⟩⟩⟩⟩⟩⟩⟩
theorem lw_p16 : lw_okq (⟨"MeldingHeapsModel", "weight", "(IJ)J"⟩, 9) := ⟨⟨by decide +kernel, by decide +kernel⟩, List.mem_of_getElem? (i := 180) (by decide +kernel), List.mem_of_getElem? (i := 231) (by decide +kernel), List.mem_of_getElem? (i := 232) (by decide +kernel)⟩
theorem lw_p17 : lw_okq (⟨"MeldingHeapsModel", "extreme", "(IZ)I"⟩, 9) := ⟨⟨by decide +kernel, by decide +kernel⟩, List.mem_of_getElem? (i := 180) (by decide +kernel), List.mem_of_getElem? (i := 241) (by decide +kernel), List.mem_of_getElem? (i := 242) (by decide +kernel)⟩
theorem lw_p18 : lw_okq (⟨"MeldingHeapsModel", "leave", "(II)V"⟩, 9) := ⟨⟨by decide +kernel, by decide +kernel⟩, List.mem_of_getElem? (i := 180) (by decide +kernel), List.mem_of_getElem? (i := 254) (by decide +kernel), List.mem_of_getElem? (i := 255) (by decide +kernel)⟩
theorem lw_p19 : lw_okq (⟨"MeldingHeapsModel", "wrongEntry", "(I)I"⟩, 9) := ⟨⟨by decide +kernel, by decide +kernel⟩, List.mem_of_getElem? (i := 180) (by decide +kernel), List.mem_of_getElem? (i := 267) (by decide +kernel), List.mem_of_getElem? (i := 268) (by decide +kernel)⟩
theorem lw_p20 : lw_okq (⟨"MeldingHeapsModel", "rank", "(I)I"⟩, 9) := ⟨⟨by decide +kernel, by decide +kernel⟩, List.mem_of_getElem? (i := 180) (by decide +kernel), List.mem_of_getElem? (i := 271) (by decide +kernel), List.mem_of_getElem? (i := 272) (by decide +kernel)⟩
theorem lw_p21 : lw_okq (⟨"MeldingHeapsModel", "wrongPair", "(II)I"⟩, 9) := ⟨⟨by decide +kernel, by decide +kernel⟩, List.mem_of_getElem? (i := 180) (by decide +kernel), List.mem_of_getElem? (i := 283) (by decide +kernel), List.mem_of_getElem? (i := 284) (by decide +kernel)⟩
theorem lw_p22 : lw_okq (⟨"MeldingHeapsModel", "many", "(I)I"⟩, 9) := ⟨⟨by decide +kernel, by decide +kernel⟩, List.mem_of_getElem? (i := 180) (by decide +kernel), List.mem_of_getElem? (i := 287) (by decide +kernel), List.mem_of_getElem? (i := 288) (by decide +kernel)⟩
def lw_privs_2 : List (MethodName × Nat) := [(⟨"MeldingHeapsModel", "weight", "(IJ)J"⟩, 9), (⟨"MeldingHeapsModel", "extreme", "(IZ)I"⟩, 9), (⟨"MeldingHeapsModel", "leave", "(II)V"⟩, 9), (⟨"MeldingHeapsModel", "wrongEntry", "(I)I"⟩, 9), (⟨"MeldingHeapsModel", "rank", "(I)I"⟩, 9), (⟨"MeldingHeapsModel", "wrongPair", "(II)I"⟩, 9), (⟨"MeldingHeapsModel", "many", "(I)I"⟩, 9)]
theorem lw_r2 : ∀ q ∈ lw_privs_2, lw_okq q := List.forall_mem_cons.mpr ⟨lw_p16, List.forall_mem_cons.mpr ⟨lw_p17, List.forall_mem_cons.mpr ⟨lw_p18, List.forall_mem_cons.mpr ⟨lw_p19, List.forall_mem_cons.mpr ⟨lw_p20, List.forall_mem_cons.mpr ⟨lw_p21, List.forall_mem_cons.mpr ⟨lw_p22, fun _ h => absurd h List.not_mem_nil⟩⟩⟩⟩⟩⟩⟩
def lw_privs : List (MethodName × Nat) := lw_privs_1 ++ (lw_privs_2)
def lw_tbl : List Cond := k2_sels lw_privs ++ tables_1
theorem lw_privs_ok : ∀ q ∈ lw_privs, lw_okq q := by
  show ∀ q ∈ lw_privs_1 ++ (lw_privs_2), lw_okq q
  exact List.forall_mem_append.mpr ⟨lw_r1, lw_r2⟩
end
section
/-! ===== BEGIN words of one list among another's, by their places ===== -/
theorem goodIn_r {big : List Cond} (ws : List Cond) (ps : List Nat) (hp : ws = ps.filterMap (fun i => big[i]?)) (h : ws.all goodWord = true) : GoodIn big ws := by
  intro w hw
  have h1 := List.all_eq_true.mp h w hw
  rw [hp] at hw
  obtain ⟨i, -, hi⟩ := List.mem_filterMap.mp hw
  have hm : w ∈ big := by first | exact List.mem_of_getElem? hi | exact List.getElem?_mem hi
  exact ⟨hm, good_of_word h1⟩
theorem goodIn_app {big a b : List Cond} (ha : GoodIn big a) (hb : GoodIn big b) : GoodIn big (a ++ b) := fun w h => (List.mem_append.mp h).elim (ha w) (hb w)
theorem goodIn_ca {big a b : List Cond} {c : Cond} (ha : GoodIn big (c :: a)) (hb : GoodIn big b) : GoodIn big (c :: (a ++ b)) := fun w h => (List.mem_cons.mp h).elim (fun e => ha w (List.mem_cons.mpr (Or.inl e))) (fun h => (List.mem_append.mp h).elim (fun h => ha w (List.mem_cons.mpr (Or.inr h))) (hb w))
theorem goodIn_sub {big ws : List Cond} (hm : ∀ w ∈ ws, w ∈ big) (h : ws.all goodWord = true) : GoodIn big ws := fun w hw => ⟨hm w hw, good_of_word (List.all_eq_true.mp h w hw)⟩
/-! ===== END ===== -/

/-! ===== BEGIN printed: names, fields, word lists, decode rows ===== -/
def RX0 : String := "MeldingHeaps"
def TX0 : u_T := fun k => match k with
  | 0 => ("MeldingHeaps", "kinds", "[I", true)
  | 1 => ("MeldingHeaps", "orders", "[I", true)
  | 2 => ("MeldingHeaps", "absorbed", "[Z", true)
  | 3 => ("MeldingHeaps", "floors", "[J", true)
  | 4 => ("MeldingHeaps", "heapCount", "I", false)
  | 5 => ("MeldingHeaps", "keys", "[J", true)
  | 6 => ("MeldingHeaps", "values", "[I", true)
  | 7 => ("MeldingHeaps", "owners", "[I", true)
  | _ => ("MeldingHeaps", "entryCount", "I", false)
def tyX0 : Nat → FieldType := fun k => match k with
  | 0 => .array .int
  | 1 => .array .int
  | 2 => .array .boolean
  | 3 => .array .long
  | 4 => .int
  | 5 => .array .long
  | 6 => .array .int
  | 7 => .array .int
  | _ => .int
abbrev wsX00 : List Cond := u_ws RX0 TX0 9
theorem nmX0 : ∀ a, a < 9 → ∀ b, b < 9 → a ≠ b → (TX0 a).2.1 ≠ (TX0 b).2.1 := by decide +kernel
theorem tyX0_ok : ∀ k, k < 9 → parseFieldDescriptor (TX0 k).2.2.1 = some (tyX0 k) := by decide +kernel
abbrev cX0_init : ByteArray := prog_1_method_1_code
def yX0_init : MethodName := ⟨RX0, "<init>", "()V"⟩
abbrev cX0_open : ByteArray := prog_1_method_2_code
def yX0_open : MethodName := ⟨RX0, "open", "(II)I"⟩
abbrev cX0_insert : ByteArray := prog_1_method_3_code
def yX0_insert : MethodName := ⟨RX0, "insert", "(IJI)I"⟩
abbrev cX0_first : ByteArray := prog_1_method_4_code
def yX0_first : MethodName := ⟨RX0, "first", "(I)I"⟩
abbrev cX0_last : ByteArray := prog_1_method_5_code
def yX0_last : MethodName := ⟨RX0, "last", "(I)I"⟩
abbrev cX0_take : ByteArray := prog_1_method_6_code
def yX0_take : MethodName := ⟨RX0, "take", "(I)I"⟩
abbrev cX0_takeLast : ByteArray := prog_1_method_7_code
def yX0_takeLast : MethodName := ⟨RX0, "takeLast", "(I)I"⟩
abbrev cX0_decrease : ByteArray := prog_1_method_8_code
def yX0_decrease : MethodName := ⟨RX0, "decrease", "(IJ)I"⟩
abbrev cX0_delete : ByteArray := prog_1_method_9_code
def yX0_delete : MethodName := ⟨RX0, "delete", "(I)I"⟩
abbrev cX0_meld : ByteArray := prog_1_method_10_code
def yX0_meld : MethodName := ⟨RX0, "meld", "(II)I"⟩
abbrev cX0_drain : ByteArray := prog_1_method_11_code
def yX0_drain : MethodName := ⟨RX0, "drain", "(III)I"⟩
abbrev cX0_clear : ByteArray := prog_1_method_12_code
def yX0_clear : MethodName := ⟨RX0, "clear", "(I)I"⟩
abbrev cX0_size : ByteArray := prog_1_method_13_code
def yX0_size : MethodName := ⟨RX0, "size", "(I)I"⟩
abbrev cX0_floor : ByteArray := prog_1_method_14_code
def yX0_floor : MethodName := ⟨RX0, "floor", "(I)J"⟩
abbrev cX0_key : ByteArray := prog_1_method_15_code
def yX0_key : MethodName := ⟨RX0, "key", "(I)J"⟩
abbrev cX0_value : ByteArray := prog_1_method_16_code
def yX0_value : MethodName := ⟨RX0, "value", "(I)I"⟩
abbrev cX0_owner : ByteArray := prog_1_method_17_code
def yX0_owner : MethodName := ⟨RX0, "owner", "(I)I"⟩
abbrev cX0_before : ByteArray := prog_1_method_18_code
def yX0_before : MethodName := ⟨RX0, "before", "(I)I"⟩
abbrev cX0_isHeap : ByteArray := prog_1_method_19_code
def yX0_isHeap : MethodName := ⟨RX0, "isHeap", "(I)Z"⟩
abbrev cX0_isEntry : ByteArray := prog_1_method_20_code
def yX0_isEntry : MethodName := ⟨RX0, "isEntry", "(I)Z"⟩
abbrev cX0_refusalOfHeap : ByteArray := prog_1_method_21_code
def yX0_refusalOfHeap : MethodName := ⟨RX0, "refusalOfHeap", "(I)I"⟩
abbrev cX0_refusalOfLastOf : ByteArray := prog_1_method_22_code
def yX0_refusalOfLastOf : MethodName := ⟨RX0, "refusalOfLastOf", "(I)I"⟩
abbrev cX0_refusalOfPair : ByteArray := prog_1_method_23_code
def yX0_refusalOfPair : MethodName := ⟨RX0, "refusalOfPair", "(II)I"⟩
abbrev cX0_refusalOfEntry : ByteArray := prog_1_method_24_code
def yX0_refusalOfEntry : MethodName := ⟨RX0, "refusalOfEntry", "(I)I"⟩
abbrev cX0_weight : ByteArray := prog_1_method_25_code
def yX0_weight : MethodName := ⟨RX0, "weight", "(IJ)J"⟩
abbrev cX0_isBelowFloor : ByteArray := prog_1_method_26_code
def yX0_isBelowFloor : MethodName := ⟨RX0, "isBelowFloor", "(IJ)Z"⟩
abbrev cX0_raiseFloor : ByteArray := prog_1_method_27_code
def yX0_raiseFloor : MethodName := ⟨RX0, "raiseFloor", "(IJ)V"⟩
abbrev cX0_isBefore : ByteArray := prog_1_method_28_code
def yX0_isBefore : MethodName := ⟨RX0, "isBefore", "(III)Z"⟩
abbrev cX0_findFirst : ByteArray := prog_1_method_29_code
def yX0_findFirst : MethodName := ⟨RX0, "findFirst", "(I)I"⟩
abbrev cX0_findLast : ByteArray := prog_1_method_30_code
def yX0_findLast : MethodName := ⟨RX0, "findLast", "(I)I"⟩
abbrev cX0_countEntries : ByteArray := prog_1_method_31_code
def yX0_countEntries : MethodName := ⟨RX0, "countEntries", "(I)I"⟩
abbrev cX0_countBefore : ByteArray := prog_1_method_32_code
def yX0_countBefore : MethodName := ⟨RX0, "countBefore", "(II)I"⟩
abbrev cX0_handOverAll : ByteArray := prog_1_method_33_code
def yX0_handOverAll : MethodName := ⟨RX0, "handOverAll", "(II)I"⟩
def RX1 : String := "MeldingHeapsModel"
def TX1 : u_T := fun k => match k with
  | 0 => ("MeldingHeapsModel", "opened", "I", false)
  | 1 => ("MeldingHeapsModel", "kinds", "[I", true)
  | 2 => ("MeldingHeapsModel", "orders", "[I", true)
  | 3 => ("MeldingHeapsModel", "gone", "[Z", true)
  | 4 => ("MeldingHeapsModel", "floors", "[J", true)
  | 5 => ("MeldingHeapsModel", "inserted", "I", false)
  | 6 => ("MeldingHeapsModel", "keys", "[J", true)
  | 7 => ("MeldingHeapsModel", "values", "[I", true)
  | _ => ("MeldingHeapsModel", "homes", "[I", true)
def tyX1 : Nat → FieldType := fun k => match k with
  | 0 => .int
  | 1 => .array .int
  | 2 => .array .int
  | 3 => .array .boolean
  | 4 => .array .long
  | 5 => .int
  | 6 => .array .long
  | 7 => .array .int
  | _ => .array .int
abbrev wsX10 : List Cond := u_ws RX1 TX1 9
theorem nmX1 : ∀ a, a < 9 → ∀ b, b < 9 → a ≠ b → (TX1 a).2.1 ≠ (TX1 b).2.1 := by decide +kernel
theorem tyX1_ok : ∀ k, k < 9 → parseFieldDescriptor (TX1 k).2.2.1 = some (tyX1 k) := by decide +kernel
abbrev cX1_init : ByteArray := prog_3_method_1_code
def yX1_init : MethodName := ⟨RX1, "<init>", "()V"⟩
abbrev cX1_wrongHeap : ByteArray := prog_3_method_2_code
def yX1_wrongHeap : MethodName := ⟨RX1, "wrongHeap", "(I)I"⟩
abbrev cX1_weight : ByteArray := prog_3_method_4_code
def yX1_weight : MethodName := ⟨RX1, "weight", "(IJ)J"⟩
abbrev cX1_isBelow : ByteArray := prog_3_method_5_code
def yX1_isBelow : MethodName := ⟨RX1, "isBelow", "(IJ)Z"⟩
abbrev cX1_open : ByteArray := prog_3_method_10_code
def yX1_open : MethodName := ⟨RX1, "open", "(II)I"⟩
abbrev cX1_insert : ByteArray := prog_3_method_11_code
def yX1_insert : MethodName := ⟨RX1, "insert", "(IJI)I"⟩
abbrev cX1_first : ByteArray := prog_3_method_12_code
def yX1_first : MethodName := ⟨RX1, "first", "(I)I"⟩
def RJ9 : String := "java/lang/Math"
def TJ9 : u_T := fun k => match k with
  | _ => ("", "", "", false)
def tyJ9 : Nat → FieldType := fun k => match k with
  | _ => .int
abbrev wsJ90 : List Cond := u_ws RJ9 TJ9 0
theorem nmJ9 : ∀ a, a < 0 → ∀ b, b < 0 → a ≠ b → (TJ9 a).2.1 ≠ (TJ9 b).2.1 := by decide +kernel
theorem tyJ9_ok : ∀ k, k < 0 → parseFieldDescriptor (TJ9 k).2.2.1 = some (tyJ9 k) := by decide +kernel
abbrev cJ9_min_7cf53 : ByteArray := prog_4_method_69_code
def yJ9_min_7cf53 : MethodName := ⟨RJ9, "min", "(II)I"⟩
def RL : String := "MeldingHeapsLaw"
abbrev cL_law : ByteArray := code
def yL_law : MethodName := ⟨RL, "law", "([I)Z"⟩
def wsX0_init : List Cond := .code yX0_init cX0_init 1 none :: ([.methodLink RX0 3 objectInit, .instanceMethod objectInit, .code objectInit ⟨#[0xb1]⟩ 1 none, .arrayClass .int, .fieldLink RX0 9 "MeldingHeaps" "kinds" "[I", .fieldLink RX0 13 "MeldingHeaps" "orders" "[I", .arrayClass .boolean, .fieldLink RX0 16 "MeldingHeaps" "absorbed" "[Z", .arrayClass .long, .fieldLink RX0 20 "MeldingHeaps" "floors" "[J", .fieldLink RX0 24 "MeldingHeaps" "heapCount" "I", .fieldLink RX0 28 "MeldingHeaps" "keys" "[J", .fieldLink RX0 31 "MeldingHeaps" "values" "[I", .fieldLink RX0 34 "MeldingHeaps" "owners" "[I", .fieldLink RX0 37 "MeldingHeaps" "entryCount" "I"] ++ wsX00)
def wsX0_open : List Cond := .code yX0_open cX0_open 4 (some .int) :: ([.fieldLink RX0 24 "MeldingHeaps" "heapCount" "I", .fieldLink RX0 9 "MeldingHeaps" "kinds" "[I", .fieldLink RX0 13 "MeldingHeaps" "orders" "[I", .fieldLink RX0 16 "MeldingHeaps" "absorbed" "[Z", .fieldLink RX0 20 "MeldingHeaps" "floors" "[J", .constantLong RX0 40 (-9223372036854775808)] ++ wsX00)
def wsX0_isHeap : List Cond := .code yX0_isHeap cX0_isHeap 2 (some .boolean) :: ([.fieldLink RX0 24 "MeldingHeaps" "heapCount" "I"] ++ wsX00)
def wsX0_refusalOfHeap : List Cond := .code yX0_refusalOfHeap cX0_refusalOfHeap 2 (some .int) :: ([.fieldLink RX0 16 "MeldingHeaps" "absorbed" "[Z", .methodLink RX0 94 yX0_isHeap, .instanceMethod yX0_isHeap, .selects RX0 yX0_isHeap yX0_isHeap, .initialized RX0, .code yX0_isHeap cX0_isHeap 2 (some .boolean), .fieldLink RX0 24 "MeldingHeaps" "heapCount" "I"] ++ wsX00)
def wsX0_weight : List Cond := .code yX0_weight cX0_weight 3 (some .long) :: ([.constantLong RX0 104 (-1), .constantLong RX0 40 (-9223372036854775808), .constantLong RX0 106 (65535)])
def wsX0_isBelowFloor : List Cond := .code yX0_isBelowFloor cX0_isBelowFloor 4 (some .boolean) :: ([.fieldLink RX0 13 "MeldingHeaps" "orders" "[I", .fieldLink RX0 20 "MeldingHeaps" "floors" "[J", .methodLink RX0 72 yX0_weight, .static yX0_weight, .initialized RX0, .code yX0_weight cX0_weight 3 (some .long), .constantLong RX0 104 (-1), .constantLong RX0 40 (-9223372036854775808), .constantLong RX0 106 (65535)] ++ wsX00)
def wsX0_insert_r1 : List Cond := [Cond.fieldLink RX0 37 "MeldingHeaps" "entryCount" "I", Cond.fieldLink RX0 28 "MeldingHeaps" "keys" "[J", Cond.fieldLink RX0 31 "MeldingHeaps" "values" "[I", Cond.fieldLink RX0 34 "MeldingHeaps" "owners" "[I", Cond.methodLink RX0 42 yX0_refusalOfHeap, Cond.instanceMethod yX0_refusalOfHeap, Cond.selects RX0 yX0_refusalOfHeap yX0_refusalOfHeap, Cond.initialized RX0, Cond.code yX0_refusalOfHeap cX0_refusalOfHeap 2 (some .int), Cond.fieldLink RX0 16 "MeldingHeaps" "absorbed" "[Z", Cond.methodLink RX0 94 yX0_isHeap, Cond.instanceMethod yX0_isHeap, Cond.selects RX0 yX0_isHeap yX0_isHeap, Cond.code yX0_isHeap cX0_isHeap 2 (some .boolean), Cond.fieldLink RX0 24 "MeldingHeaps" "heapCount" "I", Cond.methodLink RX0 46 yX0_isBelowFloor, Cond.instanceMethod yX0_isBelowFloor, Cond.selects RX0 yX0_isBelowFloor yX0_isBelowFloor, Cond.code yX0_isBelowFloor cX0_isBelowFloor 4 (some .boolean), Cond.fieldLink RX0 13 "MeldingHeaps" "orders" "[I", Cond.fieldLink RX0 20 "MeldingHeaps" "floors" "[J", Cond.methodLink RX0 72 yX0_weight, Cond.static yX0_weight, Cond.code yX0_weight cX0_weight 3 (some .long)]
def wsX0_insert_r2 : List Cond := [Cond.constantLong RX0 104 (-1), Cond.constantLong RX0 40 (-9223372036854775808), Cond.constantLong RX0 106 (65535)]
def wsX0_insert : List Cond := .code yX0_insert cX0_insert 7 (some .int) :: ((wsX0_insert_r1 ++ wsX0_insert_r2) ++ wsX00)
def wsX0_isBefore : List Cond := .code yX0_isBefore cX0_isBefore 8 (some .boolean) :: ([.fieldLink RX0 28 "MeldingHeaps" "keys" "[J", .methodLink RX0 72 yX0_weight, .static yX0_weight, .initialized RX0, .code yX0_weight cX0_weight 3 (some .long), .constantLong RX0 104 (-1), .constantLong RX0 40 (-9223372036854775808), .constantLong RX0 106 (65535)] ++ wsX00)
def wsX0_findFirst : List Cond := .code yX0_findFirst cX0_findFirst 4 (some .int) :: ([.fieldLink RX0 37 "MeldingHeaps" "entryCount" "I", .fieldLink RX0 34 "MeldingHeaps" "owners" "[I", .fieldLink RX0 13 "MeldingHeaps" "orders" "[I", .methodLink RX0 108 yX0_isBefore, .instanceMethod yX0_isBefore, .selects RX0 yX0_isBefore yX0_isBefore, .initialized RX0, .code yX0_isBefore cX0_isBefore 8 (some .boolean), .fieldLink RX0 28 "MeldingHeaps" "keys" "[J", .methodLink RX0 72 yX0_weight, .static yX0_weight, .code yX0_weight cX0_weight 3 (some .long), .constantLong RX0 104 (-1), .constantLong RX0 40 (-9223372036854775808), .constantLong RX0 106 (65535)] ++ wsX00)
def wsX0_first_r1 : List Cond := [Cond.methodLink RX0 42 yX0_refusalOfHeap, Cond.instanceMethod yX0_refusalOfHeap, Cond.selects RX0 yX0_refusalOfHeap yX0_refusalOfHeap, Cond.initialized RX0, Cond.code yX0_refusalOfHeap cX0_refusalOfHeap 2 (some .int), Cond.fieldLink RX0 16 "MeldingHeaps" "absorbed" "[Z", Cond.methodLink RX0 94 yX0_isHeap, Cond.instanceMethod yX0_isHeap, Cond.selects RX0 yX0_isHeap yX0_isHeap, Cond.code yX0_isHeap cX0_isHeap 2 (some .boolean), Cond.fieldLink RX0 24 "MeldingHeaps" "heapCount" "I", Cond.methodLink RX0 50 yX0_findFirst, Cond.instanceMethod yX0_findFirst, Cond.selects RX0 yX0_findFirst yX0_findFirst, Cond.code yX0_findFirst cX0_findFirst 4 (some .int), Cond.fieldLink RX0 37 "MeldingHeaps" "entryCount" "I", Cond.fieldLink RX0 34 "MeldingHeaps" "owners" "[I", Cond.fieldLink RX0 13 "MeldingHeaps" "orders" "[I", Cond.methodLink RX0 108 yX0_isBefore, Cond.instanceMethod yX0_isBefore, Cond.selects RX0 yX0_isBefore yX0_isBefore, Cond.code yX0_isBefore cX0_isBefore 8 (some .boolean), Cond.fieldLink RX0 28 "MeldingHeaps" "keys" "[J", Cond.methodLink RX0 72 yX0_weight]
def wsX0_first_r2 : List Cond := [Cond.static yX0_weight, Cond.code yX0_weight cX0_weight 3 (some .long), Cond.constantLong RX0 104 (-1), Cond.constantLong RX0 40 (-9223372036854775808), Cond.constantLong RX0 106 (65535)]
def wsX0_first : List Cond := .code yX0_first cX0_first 3 (some .int) :: ((wsX0_first_r1 ++ wsX0_first_r2) ++ wsX00)
def wsX0_refusalOfLastOf : List Cond := .code yX0_refusalOfLastOf cX0_refusalOfLastOf 3 (some .int) :: ([.fieldLink RX0 9 "MeldingHeaps" "kinds" "[I", .methodLink RX0 42 yX0_refusalOfHeap, .instanceMethod yX0_refusalOfHeap, .selects RX0 yX0_refusalOfHeap yX0_refusalOfHeap, .initialized RX0, .code yX0_refusalOfHeap cX0_refusalOfHeap 2 (some .int), .fieldLink RX0 16 "MeldingHeaps" "absorbed" "[Z", .methodLink RX0 94 yX0_isHeap, .instanceMethod yX0_isHeap, .selects RX0 yX0_isHeap yX0_isHeap, .code yX0_isHeap cX0_isHeap 2 (some .boolean), .fieldLink RX0 24 "MeldingHeaps" "heapCount" "I"] ++ wsX00)
def wsX0_findLast : List Cond := .code yX0_findLast cX0_findLast 4 (some .int) :: ([.fieldLink RX0 37 "MeldingHeaps" "entryCount" "I", .fieldLink RX0 34 "MeldingHeaps" "owners" "[I", .fieldLink RX0 13 "MeldingHeaps" "orders" "[I", .methodLink RX0 108 yX0_isBefore, .instanceMethod yX0_isBefore, .selects RX0 yX0_isBefore yX0_isBefore, .initialized RX0, .code yX0_isBefore cX0_isBefore 8 (some .boolean), .fieldLink RX0 28 "MeldingHeaps" "keys" "[J", .methodLink RX0 72 yX0_weight, .static yX0_weight, .code yX0_weight cX0_weight 3 (some .long), .constantLong RX0 104 (-1), .constantLong RX0 40 (-9223372036854775808), .constantLong RX0 106 (65535)] ++ wsX00)
def wsX0_last_r1 : List Cond := [Cond.methodLink RX0 53 yX0_refusalOfLastOf, Cond.instanceMethod yX0_refusalOfLastOf, Cond.selects RX0 yX0_refusalOfLastOf yX0_refusalOfLastOf, Cond.initialized RX0, Cond.code yX0_refusalOfLastOf cX0_refusalOfLastOf 3 (some .int), Cond.fieldLink RX0 9 "MeldingHeaps" "kinds" "[I", Cond.methodLink RX0 42 yX0_refusalOfHeap, Cond.instanceMethod yX0_refusalOfHeap, Cond.selects RX0 yX0_refusalOfHeap yX0_refusalOfHeap, Cond.code yX0_refusalOfHeap cX0_refusalOfHeap 2 (some .int), Cond.fieldLink RX0 16 "MeldingHeaps" "absorbed" "[Z", Cond.methodLink RX0 94 yX0_isHeap, Cond.instanceMethod yX0_isHeap, Cond.selects RX0 yX0_isHeap yX0_isHeap, Cond.code yX0_isHeap cX0_isHeap 2 (some .boolean), Cond.fieldLink RX0 24 "MeldingHeaps" "heapCount" "I", Cond.methodLink RX0 56 yX0_findLast, Cond.instanceMethod yX0_findLast, Cond.selects RX0 yX0_findLast yX0_findLast, Cond.code yX0_findLast cX0_findLast 4 (some .int), Cond.fieldLink RX0 37 "MeldingHeaps" "entryCount" "I", Cond.fieldLink RX0 34 "MeldingHeaps" "owners" "[I", Cond.fieldLink RX0 13 "MeldingHeaps" "orders" "[I", Cond.methodLink RX0 108 yX0_isBefore]
def wsX0_last_r2 : List Cond := [Cond.instanceMethod yX0_isBefore, Cond.selects RX0 yX0_isBefore yX0_isBefore, Cond.code yX0_isBefore cX0_isBefore 8 (some .boolean), Cond.fieldLink RX0 28 "MeldingHeaps" "keys" "[J", Cond.methodLink RX0 72 yX0_weight, Cond.static yX0_weight, Cond.code yX0_weight cX0_weight 3 (some .long), Cond.constantLong RX0 104 (-1), Cond.constantLong RX0 40 (-9223372036854775808), Cond.constantLong RX0 106 (65535)]
def wsX0_last : List Cond := .code yX0_last cX0_last 3 (some .int) :: ((wsX0_last_r1 ++ wsX0_last_r2) ++ wsX00)
def wsX0_raiseFloor : List Cond := .code yX0_raiseFloor cX0_raiseFloor 4 none :: ([.fieldLink RX0 9 "MeldingHeaps" "kinds" "[I", .fieldLink RX0 20 "MeldingHeaps" "floors" "[J", .fieldLink RX0 13 "MeldingHeaps" "orders" "[I", .methodLink RX0 72 yX0_weight, .static yX0_weight, .initialized RX0, .code yX0_weight cX0_weight 3 (some .long), .constantLong RX0 104 (-1), .constantLong RX0 40 (-9223372036854775808), .constantLong RX0 106 (65535)] ++ wsX00)
def wsX0_take_r1 : List Cond := [Cond.fieldLink RX0 28 "MeldingHeaps" "keys" "[J", Cond.fieldLink RX0 34 "MeldingHeaps" "owners" "[I", Cond.methodLink RX0 59 yX0_first, Cond.instanceMethod yX0_first, Cond.selects RX0 yX0_first yX0_first, Cond.initialized RX0, Cond.code yX0_first cX0_first 3 (some .int), Cond.methodLink RX0 42 yX0_refusalOfHeap, Cond.instanceMethod yX0_refusalOfHeap, Cond.selects RX0 yX0_refusalOfHeap yX0_refusalOfHeap, Cond.code yX0_refusalOfHeap cX0_refusalOfHeap 2 (some .int), Cond.fieldLink RX0 16 "MeldingHeaps" "absorbed" "[Z", Cond.methodLink RX0 94 yX0_isHeap, Cond.instanceMethod yX0_isHeap, Cond.selects RX0 yX0_isHeap yX0_isHeap, Cond.code yX0_isHeap cX0_isHeap 2 (some .boolean), Cond.fieldLink RX0 24 "MeldingHeaps" "heapCount" "I", Cond.methodLink RX0 50 yX0_findFirst, Cond.instanceMethod yX0_findFirst, Cond.selects RX0 yX0_findFirst yX0_findFirst, Cond.code yX0_findFirst cX0_findFirst 4 (some .int), Cond.fieldLink RX0 37 "MeldingHeaps" "entryCount" "I", Cond.fieldLink RX0 13 "MeldingHeaps" "orders" "[I", Cond.methodLink RX0 108 yX0_isBefore]
def wsX0_take_r2 : List Cond := [Cond.instanceMethod yX0_isBefore, Cond.selects RX0 yX0_isBefore yX0_isBefore, Cond.code yX0_isBefore cX0_isBefore 8 (some .boolean), Cond.methodLink RX0 72 yX0_weight, Cond.static yX0_weight, Cond.code yX0_weight cX0_weight 3 (some .long), Cond.constantLong RX0 104 (-1), Cond.constantLong RX0 40 (-9223372036854775808), Cond.constantLong RX0 106 (65535), Cond.methodLink RX0 62 yX0_raiseFloor, Cond.instanceMethod yX0_raiseFloor, Cond.selects RX0 yX0_raiseFloor yX0_raiseFloor, Cond.code yX0_raiseFloor cX0_raiseFloor 4 none, Cond.fieldLink RX0 9 "MeldingHeaps" "kinds" "[I", Cond.fieldLink RX0 20 "MeldingHeaps" "floors" "[J"]
def wsX0_take : List Cond := .code yX0_take cX0_take 3 (some .int) :: ((wsX0_take_r1 ++ wsX0_take_r2) ++ wsX00)
def wsX0_takeLast_r1 : List Cond := [Cond.fieldLink RX0 34 "MeldingHeaps" "owners" "[I", Cond.methodLink RX0 66 yX0_last, Cond.instanceMethod yX0_last, Cond.selects RX0 yX0_last yX0_last, Cond.initialized RX0, Cond.code yX0_last cX0_last 3 (some .int), Cond.methodLink RX0 53 yX0_refusalOfLastOf, Cond.instanceMethod yX0_refusalOfLastOf, Cond.selects RX0 yX0_refusalOfLastOf yX0_refusalOfLastOf, Cond.code yX0_refusalOfLastOf cX0_refusalOfLastOf 3 (some .int), Cond.fieldLink RX0 9 "MeldingHeaps" "kinds" "[I", Cond.methodLink RX0 42 yX0_refusalOfHeap, Cond.instanceMethod yX0_refusalOfHeap, Cond.selects RX0 yX0_refusalOfHeap yX0_refusalOfHeap, Cond.code yX0_refusalOfHeap cX0_refusalOfHeap 2 (some .int), Cond.fieldLink RX0 16 "MeldingHeaps" "absorbed" "[Z", Cond.methodLink RX0 94 yX0_isHeap, Cond.instanceMethod yX0_isHeap, Cond.selects RX0 yX0_isHeap yX0_isHeap, Cond.code yX0_isHeap cX0_isHeap 2 (some .boolean), Cond.fieldLink RX0 24 "MeldingHeaps" "heapCount" "I", Cond.methodLink RX0 56 yX0_findLast, Cond.instanceMethod yX0_findLast, Cond.selects RX0 yX0_findLast yX0_findLast]
def wsX0_takeLast_r2 : List Cond := [Cond.code yX0_findLast cX0_findLast 4 (some .int), Cond.fieldLink RX0 37 "MeldingHeaps" "entryCount" "I", Cond.fieldLink RX0 13 "MeldingHeaps" "orders" "[I", Cond.methodLink RX0 108 yX0_isBefore, Cond.instanceMethod yX0_isBefore, Cond.selects RX0 yX0_isBefore yX0_isBefore, Cond.code yX0_isBefore cX0_isBefore 8 (some .boolean), Cond.fieldLink RX0 28 "MeldingHeaps" "keys" "[J", Cond.methodLink RX0 72 yX0_weight, Cond.static yX0_weight, Cond.code yX0_weight cX0_weight 3 (some .long), Cond.constantLong RX0 104 (-1), Cond.constantLong RX0 40 (-9223372036854775808), Cond.constantLong RX0 106 (65535)]
def wsX0_takeLast : List Cond := .code yX0_takeLast cX0_takeLast 3 (some .int) :: ((wsX0_takeLast_r1 ++ wsX0_takeLast_r2) ++ wsX00)
def wsX0_isEntry : List Cond := .code yX0_isEntry cX0_isEntry 2 (some .boolean) :: ([.fieldLink RX0 37 "MeldingHeaps" "entryCount" "I"] ++ wsX00)
def wsX0_refusalOfEntry : List Cond := .code yX0_refusalOfEntry cX0_refusalOfEntry 2 (some .int) :: ([.fieldLink RX0 34 "MeldingHeaps" "owners" "[I", .methodLink RX0 101 yX0_isEntry, .instanceMethod yX0_isEntry, .selects RX0 yX0_isEntry yX0_isEntry, .initialized RX0, .code yX0_isEntry cX0_isEntry 2 (some .boolean), .fieldLink RX0 37 "MeldingHeaps" "entryCount" "I"] ++ wsX00)
def wsX0_decrease_r1 : List Cond := [Cond.fieldLink RX0 34 "MeldingHeaps" "owners" "[I", Cond.fieldLink RX0 13 "MeldingHeaps" "orders" "[I", Cond.fieldLink RX0 28 "MeldingHeaps" "keys" "[J", Cond.methodLink RX0 69 yX0_refusalOfEntry, Cond.instanceMethod yX0_refusalOfEntry, Cond.selects RX0 yX0_refusalOfEntry yX0_refusalOfEntry, Cond.initialized RX0, Cond.code yX0_refusalOfEntry cX0_refusalOfEntry 2 (some .int), Cond.methodLink RX0 101 yX0_isEntry, Cond.instanceMethod yX0_isEntry, Cond.selects RX0 yX0_isEntry yX0_isEntry, Cond.code yX0_isEntry cX0_isEntry 2 (some .boolean), Cond.fieldLink RX0 37 "MeldingHeaps" "entryCount" "I", Cond.methodLink RX0 72 yX0_weight, Cond.static yX0_weight, Cond.code yX0_weight cX0_weight 3 (some .long), Cond.constantLong RX0 104 (-1), Cond.constantLong RX0 40 (-9223372036854775808), Cond.constantLong RX0 106 (65535), Cond.methodLink RX0 46 yX0_isBelowFloor, Cond.instanceMethod yX0_isBelowFloor, Cond.selects RX0 yX0_isBelowFloor yX0_isBelowFloor, Cond.code yX0_isBelowFloor cX0_isBelowFloor 4 (some .boolean), Cond.fieldLink RX0 20 "MeldingHeaps" "floors" "[J"]
def wsX0_decrease_r2 : List Cond := [Cond.methodLink RX0 50 yX0_findFirst, Cond.instanceMethod yX0_findFirst, Cond.selects RX0 yX0_findFirst yX0_findFirst, Cond.code yX0_findFirst cX0_findFirst 4 (some .int), Cond.methodLink RX0 108 yX0_isBefore, Cond.instanceMethod yX0_isBefore, Cond.selects RX0 yX0_isBefore yX0_isBefore, Cond.code yX0_isBefore cX0_isBefore 8 (some .boolean)]
def wsX0_decrease : List Cond := .code yX0_decrease cX0_decrease 6 (some .int) :: ((wsX0_decrease_r1 ++ wsX0_decrease_r2) ++ wsX00)
def wsX0_owner : List Cond := .code yX0_owner cX0_owner 3 (some .int) :: ([.fieldLink RX0 34 "MeldingHeaps" "owners" "[I", .methodLink RX0 69 yX0_refusalOfEntry, .instanceMethod yX0_refusalOfEntry, .selects RX0 yX0_refusalOfEntry yX0_refusalOfEntry, .initialized RX0, .code yX0_refusalOfEntry cX0_refusalOfEntry 2 (some .int), .methodLink RX0 101 yX0_isEntry, .instanceMethod yX0_isEntry, .selects RX0 yX0_isEntry yX0_isEntry, .code yX0_isEntry cX0_isEntry 2 (some .boolean), .fieldLink RX0 37 "MeldingHeaps" "entryCount" "I"] ++ wsX00)
def wsX0_delete : List Cond := .code yX0_delete cX0_delete 3 (some .int) :: ([.fieldLink RX0 34 "MeldingHeaps" "owners" "[I", .methodLink RX0 76 yX0_owner, .instanceMethod yX0_owner, .selects RX0 yX0_owner yX0_owner, .initialized RX0, .code yX0_owner cX0_owner 3 (some .int), .methodLink RX0 69 yX0_refusalOfEntry, .instanceMethod yX0_refusalOfEntry, .selects RX0 yX0_refusalOfEntry yX0_refusalOfEntry, .code yX0_refusalOfEntry cX0_refusalOfEntry 2 (some .int), .methodLink RX0 101 yX0_isEntry, .instanceMethod yX0_isEntry, .selects RX0 yX0_isEntry yX0_isEntry, .code yX0_isEntry cX0_isEntry 2 (some .boolean), .fieldLink RX0 37 "MeldingHeaps" "entryCount" "I"] ++ wsX00)
def wsX0_refusalOfPair : List Cond := .code yX0_refusalOfPair cX0_refusalOfPair 4 (some .int) :: ([.methodLink RX0 42 yX0_refusalOfHeap, .instanceMethod yX0_refusalOfHeap, .selects RX0 yX0_refusalOfHeap yX0_refusalOfHeap, .initialized RX0, .code yX0_refusalOfHeap cX0_refusalOfHeap 2 (some .int), .fieldLink RX0 16 "MeldingHeaps" "absorbed" "[Z", .methodLink RX0 94 yX0_isHeap, .instanceMethod yX0_isHeap, .selects RX0 yX0_isHeap yX0_isHeap, .code yX0_isHeap cX0_isHeap 2 (some .boolean), .fieldLink RX0 24 "MeldingHeaps" "heapCount" "I"] ++ wsX00)
def wsX0_handOverAll : List Cond := .code yX0_handOverAll cX0_handOverAll 5 (some .int) :: ([.fieldLink RX0 37 "MeldingHeaps" "entryCount" "I", .fieldLink RX0 34 "MeldingHeaps" "owners" "[I"] ++ wsX00)
def wsX0_countEntries : List Cond := .code yX0_countEntries cX0_countEntries 4 (some .int) :: ([.fieldLink RX0 37 "MeldingHeaps" "entryCount" "I", .fieldLink RX0 34 "MeldingHeaps" "owners" "[I"] ++ wsX00)
def wsX0_meld_r1 : List Cond := [Cond.fieldLink RX0 9 "MeldingHeaps" "kinds" "[I", Cond.fieldLink RX0 13 "MeldingHeaps" "orders" "[I", Cond.fieldLink RX0 16 "MeldingHeaps" "absorbed" "[Z", Cond.methodLink RX0 79 yX0_refusalOfPair, Cond.instanceMethod yX0_refusalOfPair, Cond.selects RX0 yX0_refusalOfPair yX0_refusalOfPair, Cond.initialized RX0, Cond.code yX0_refusalOfPair cX0_refusalOfPair 4 (some .int), Cond.methodLink RX0 42 yX0_refusalOfHeap, Cond.instanceMethod yX0_refusalOfHeap, Cond.selects RX0 yX0_refusalOfHeap yX0_refusalOfHeap, Cond.code yX0_refusalOfHeap cX0_refusalOfHeap 2 (some .int), Cond.methodLink RX0 94 yX0_isHeap, Cond.instanceMethod yX0_isHeap, Cond.selects RX0 yX0_isHeap yX0_isHeap, Cond.code yX0_isHeap cX0_isHeap 2 (some .boolean), Cond.fieldLink RX0 24 "MeldingHeaps" "heapCount" "I", Cond.methodLink RX0 83 yX0_handOverAll, Cond.instanceMethod yX0_handOverAll, Cond.selects RX0 yX0_handOverAll yX0_handOverAll, Cond.code yX0_handOverAll cX0_handOverAll 5 (some .int), Cond.fieldLink RX0 37 "MeldingHeaps" "entryCount" "I", Cond.fieldLink RX0 34 "MeldingHeaps" "owners" "[I", Cond.methodLink RX0 86 yX0_countEntries]
def wsX0_meld_r2 : List Cond := [Cond.instanceMethod yX0_countEntries, Cond.selects RX0 yX0_countEntries yX0_countEntries, Cond.code yX0_countEntries cX0_countEntries 4 (some .int)]
def wsX0_meld : List Cond := .code yX0_meld cX0_meld 4 (some .int) :: ((wsX0_meld_r1 ++ wsX0_meld_r2) ++ wsX00)
def wsX0_drain_r1 : List Cond := [Cond.methodLink RX0 89 Lib.Math.min.name, Cond.static Lib.Math.min.name, Cond.initialized "java/lang/Math", Cond.code Lib.Math.min.name Lib.Math.min.code 2 (some .int), Cond.fieldLink RX0 28 "MeldingHeaps" "keys" "[J", Cond.fieldLink RX0 34 "MeldingHeaps" "owners" "[I", Cond.methodLink RX0 79 yX0_refusalOfPair, Cond.instanceMethod yX0_refusalOfPair, Cond.selects RX0 yX0_refusalOfPair yX0_refusalOfPair, Cond.initialized RX0, Cond.code yX0_refusalOfPair cX0_refusalOfPair 4 (some .int), Cond.methodLink RX0 42 yX0_refusalOfHeap, Cond.instanceMethod yX0_refusalOfHeap, Cond.selects RX0 yX0_refusalOfHeap yX0_refusalOfHeap, Cond.code yX0_refusalOfHeap cX0_refusalOfHeap 2 (some .int), Cond.fieldLink RX0 16 "MeldingHeaps" "absorbed" "[Z", Cond.methodLink RX0 94 yX0_isHeap, Cond.instanceMethod yX0_isHeap, Cond.selects RX0 yX0_isHeap yX0_isHeap, Cond.code yX0_isHeap cX0_isHeap 2 (some .boolean), Cond.fieldLink RX0 24 "MeldingHeaps" "heapCount" "I", Cond.methodLink RX0 86 yX0_countEntries, Cond.instanceMethod yX0_countEntries, Cond.selects RX0 yX0_countEntries yX0_countEntries]
def wsX0_drain_r2 : List Cond := [Cond.code yX0_countEntries cX0_countEntries 4 (some .int), Cond.fieldLink RX0 37 "MeldingHeaps" "entryCount" "I", Cond.methodLink RX0 50 yX0_findFirst, Cond.instanceMethod yX0_findFirst, Cond.selects RX0 yX0_findFirst yX0_findFirst, Cond.code yX0_findFirst cX0_findFirst 4 (some .int), Cond.fieldLink RX0 13 "MeldingHeaps" "orders" "[I", Cond.methodLink RX0 108 yX0_isBefore, Cond.instanceMethod yX0_isBefore, Cond.selects RX0 yX0_isBefore yX0_isBefore, Cond.code yX0_isBefore cX0_isBefore 8 (some .boolean), Cond.methodLink RX0 72 yX0_weight, Cond.static yX0_weight, Cond.code yX0_weight cX0_weight 3 (some .long), Cond.constantLong RX0 104 (-1), Cond.constantLong RX0 40 (-9223372036854775808), Cond.constantLong RX0 106 (65535), Cond.methodLink RX0 46 yX0_isBelowFloor, Cond.instanceMethod yX0_isBelowFloor, Cond.selects RX0 yX0_isBelowFloor yX0_isBelowFloor, Cond.code yX0_isBelowFloor cX0_isBelowFloor 4 (some .boolean), Cond.fieldLink RX0 20 "MeldingHeaps" "floors" "[J", Cond.methodLink RX0 62 yX0_raiseFloor, Cond.instanceMethod yX0_raiseFloor]
def wsX0_drain_r3 : List Cond := [Cond.selects RX0 yX0_raiseFloor yX0_raiseFloor, Cond.code yX0_raiseFloor cX0_raiseFloor 4 none, Cond.fieldLink RX0 9 "MeldingHeaps" "kinds" "[I"]
def wsX0_drain : List Cond := .code yX0_drain cX0_drain 8 (some .int) :: ((wsX0_drain_r1 ++ (wsX0_drain_r2 ++ wsX0_drain_r3)) ++ wsX00)
def wsX0_clear : List Cond := .code yX0_clear cX0_clear 3 (some .int) :: ([.fieldLink RX0 20 "MeldingHeaps" "floors" "[J", .constantLong RX0 40 (-9223372036854775808), .methodLink RX0 42 yX0_refusalOfHeap, .instanceMethod yX0_refusalOfHeap, .selects RX0 yX0_refusalOfHeap yX0_refusalOfHeap, .initialized RX0, .code yX0_refusalOfHeap cX0_refusalOfHeap 2 (some .int), .fieldLink RX0 16 "MeldingHeaps" "absorbed" "[Z", .methodLink RX0 94 yX0_isHeap, .instanceMethod yX0_isHeap, .selects RX0 yX0_isHeap yX0_isHeap, .code yX0_isHeap cX0_isHeap 2 (some .boolean), .fieldLink RX0 24 "MeldingHeaps" "heapCount" "I", .methodLink RX0 83 yX0_handOverAll, .instanceMethod yX0_handOverAll, .selects RX0 yX0_handOverAll yX0_handOverAll, .code yX0_handOverAll cX0_handOverAll 5 (some .int), .fieldLink RX0 37 "MeldingHeaps" "entryCount" "I", .fieldLink RX0 34 "MeldingHeaps" "owners" "[I"] ++ wsX00)
def wsX0_size : List Cond := .code yX0_size cX0_size 3 (some .int) :: ([.methodLink RX0 42 yX0_refusalOfHeap, .instanceMethod yX0_refusalOfHeap, .selects RX0 yX0_refusalOfHeap yX0_refusalOfHeap, .initialized RX0, .code yX0_refusalOfHeap cX0_refusalOfHeap 2 (some .int), .fieldLink RX0 16 "MeldingHeaps" "absorbed" "[Z", .methodLink RX0 94 yX0_isHeap, .instanceMethod yX0_isHeap, .selects RX0 yX0_isHeap yX0_isHeap, .code yX0_isHeap cX0_isHeap 2 (some .boolean), .fieldLink RX0 24 "MeldingHeaps" "heapCount" "I", .methodLink RX0 86 yX0_countEntries, .instanceMethod yX0_countEntries, .selects RX0 yX0_countEntries yX0_countEntries, .code yX0_countEntries cX0_countEntries 4 (some .int), .fieldLink RX0 37 "MeldingHeaps" "entryCount" "I", .fieldLink RX0 34 "MeldingHeaps" "owners" "[I"] ++ wsX00)
def wsX0_floor : List Cond := .code yX0_floor cX0_floor 2 (some .long) :: ([.fieldLink RX0 20 "MeldingHeaps" "floors" "[J", .constantLong RX0 40 (-9223372036854775808), .methodLink RX0 94 yX0_isHeap, .instanceMethod yX0_isHeap, .selects RX0 yX0_isHeap yX0_isHeap, .initialized RX0, .code yX0_isHeap cX0_isHeap 2 (some .boolean), .fieldLink RX0 24 "MeldingHeaps" "heapCount" "I"] ++ wsX00)
def wsX0_key : List Cond := .code yX0_key cX0_key 2 (some .long) :: ([.fieldLink RX0 28 "MeldingHeaps" "keys" "[J", .methodLink RX0 69 yX0_refusalOfEntry, .instanceMethod yX0_refusalOfEntry, .selects RX0 yX0_refusalOfEntry yX0_refusalOfEntry, .initialized RX0, .code yX0_refusalOfEntry cX0_refusalOfEntry 2 (some .int), .fieldLink RX0 34 "MeldingHeaps" "owners" "[I", .methodLink RX0 101 yX0_isEntry, .instanceMethod yX0_isEntry, .selects RX0 yX0_isEntry yX0_isEntry, .code yX0_isEntry cX0_isEntry 2 (some .boolean), .fieldLink RX0 37 "MeldingHeaps" "entryCount" "I"] ++ wsX00)
def wsX0_value : List Cond := .code yX0_value cX0_value 2 (some .int) :: ([.fieldLink RX0 31 "MeldingHeaps" "values" "[I", .methodLink RX0 69 yX0_refusalOfEntry, .instanceMethod yX0_refusalOfEntry, .selects RX0 yX0_refusalOfEntry yX0_refusalOfEntry, .initialized RX0, .code yX0_refusalOfEntry cX0_refusalOfEntry 2 (some .int), .fieldLink RX0 34 "MeldingHeaps" "owners" "[I", .methodLink RX0 101 yX0_isEntry, .instanceMethod yX0_isEntry, .selects RX0 yX0_isEntry yX0_isEntry, .code yX0_isEntry cX0_isEntry 2 (some .boolean), .fieldLink RX0 37 "MeldingHeaps" "entryCount" "I"] ++ wsX00)
def wsX0_countBefore : List Cond := .code yX0_countBefore cX0_countBefore 5 (some .int) :: ([.fieldLink RX0 37 "MeldingHeaps" "entryCount" "I", .fieldLink RX0 34 "MeldingHeaps" "owners" "[I", .fieldLink RX0 13 "MeldingHeaps" "orders" "[I", .methodLink RX0 108 yX0_isBefore, .instanceMethod yX0_isBefore, .selects RX0 yX0_isBefore yX0_isBefore, .initialized RX0, .code yX0_isBefore cX0_isBefore 8 (some .boolean), .fieldLink RX0 28 "MeldingHeaps" "keys" "[J", .methodLink RX0 72 yX0_weight, .static yX0_weight, .code yX0_weight cX0_weight 3 (some .long), .constantLong RX0 104 (-1), .constantLong RX0 40 (-9223372036854775808), .constantLong RX0 106 (65535)] ++ wsX00)
def wsX0_before_r1 : List Cond := [Cond.fieldLink RX0 34 "MeldingHeaps" "owners" "[I", Cond.methodLink RX0 69 yX0_refusalOfEntry, Cond.instanceMethod yX0_refusalOfEntry, Cond.selects RX0 yX0_refusalOfEntry yX0_refusalOfEntry, Cond.initialized RX0, Cond.code yX0_refusalOfEntry cX0_refusalOfEntry 2 (some .int), Cond.methodLink RX0 101 yX0_isEntry, Cond.instanceMethod yX0_isEntry, Cond.selects RX0 yX0_isEntry yX0_isEntry, Cond.code yX0_isEntry cX0_isEntry 2 (some .boolean), Cond.fieldLink RX0 37 "MeldingHeaps" "entryCount" "I", Cond.methodLink RX0 98 yX0_countBefore, Cond.instanceMethod yX0_countBefore, Cond.selects RX0 yX0_countBefore yX0_countBefore, Cond.code yX0_countBefore cX0_countBefore 5 (some .int), Cond.fieldLink RX0 13 "MeldingHeaps" "orders" "[I", Cond.methodLink RX0 108 yX0_isBefore, Cond.instanceMethod yX0_isBefore, Cond.selects RX0 yX0_isBefore yX0_isBefore, Cond.code yX0_isBefore cX0_isBefore 8 (some .boolean), Cond.fieldLink RX0 28 "MeldingHeaps" "keys" "[J", Cond.methodLink RX0 72 yX0_weight, Cond.static yX0_weight, Cond.code yX0_weight cX0_weight 3 (some .long)]
def wsX0_before_r2 : List Cond := [Cond.constantLong RX0 104 (-1), Cond.constantLong RX0 40 (-9223372036854775808), Cond.constantLong RX0 106 (65535)]
def wsX0_before : List Cond := .code yX0_before cX0_before 3 (some .int) :: ((wsX0_before_r1 ++ wsX0_before_r2) ++ wsX00)
def wsX1_init : List Cond := .code yX1_init cX1_init 1 none :: ([.methodLink RX1 1 objectInit, .instanceMethod objectInit, .code objectInit ⟨#[0xb1]⟩ 1 none, .arrayClass .int, .fieldLink RX1 7 "MeldingHeapsModel" "kinds" "[I", .fieldLink RX1 13 "MeldingHeapsModel" "orders" "[I", .arrayClass .boolean, .fieldLink RX1 16 "MeldingHeapsModel" "gone" "[Z", .arrayClass .long, .fieldLink RX1 20 "MeldingHeapsModel" "floors" "[J", .fieldLink RX1 24 "MeldingHeapsModel" "keys" "[J", .fieldLink RX1 27 "MeldingHeapsModel" "values" "[I", .fieldLink RX1 30 "MeldingHeapsModel" "homes" "[I"] ++ wsX10)
def wsX1_wrongHeap : List Cond := .code yX1_wrongHeap cX1_wrongHeap 2 (some .int) :: ([.fieldLink RX1 33 "MeldingHeapsModel" "opened" "I", .fieldLink RX1 16 "MeldingHeapsModel" "gone" "[Z"] ++ wsX10)
def wsX1_weight : List Cond := .code yX1_weight cX1_weight 5 (some .long) :: ([.fieldLink RX1 13 "MeldingHeapsModel" "orders" "[I", .constantLong RX1 40 (-1), .constantLong RX1 42 (-9223372036854775808), .constantLong RX1 44 (65535)] ++ wsX10)
def wsX1_isBelow : List Cond := .code yX1_isBelow cX1_isBelow 4 (some .boolean) :: ([.fieldLink RX1 7 "MeldingHeapsModel" "kinds" "[I", .fieldLink RX1 20 "MeldingHeapsModel" "floors" "[J", .methodLink RX1 46 yX1_weight, .instanceMethod yX1_weight, .selects RX1 yX1_weight yX1_weight, .initialized RX1, .code yX1_weight cX1_weight 5 (some .long), .fieldLink RX1 13 "MeldingHeapsModel" "orders" "[I", .constantLong RX1 40 (-1), .constantLong RX1 42 (-9223372036854775808), .constantLong RX1 44 (65535)] ++ wsX10)
def wsX1_open : List Cond := .code yX1_open cX1_open 3 (some .int) :: ([.fieldLink RX1 33 "MeldingHeapsModel" "opened" "I", .fieldLink RX1 7 "MeldingHeapsModel" "kinds" "[I", .fieldLink RX1 13 "MeldingHeapsModel" "orders" "[I", .fieldLink RX1 20 "MeldingHeapsModel" "floors" "[J", .constantLong RX1 42 (-9223372036854775808)] ++ wsX10)
def wsX1_insert_r1 : List Cond := [Cond.fieldLink RX1 37 "MeldingHeapsModel" "inserted" "I", Cond.fieldLink RX1 24 "MeldingHeapsModel" "keys" "[J", Cond.fieldLink RX1 27 "MeldingHeapsModel" "values" "[I", Cond.fieldLink RX1 30 "MeldingHeapsModel" "homes" "[I", Cond.methodLink RX1 50 yX1_wrongHeap, Cond.instanceMethod yX1_wrongHeap, Cond.selects RX1 yX1_wrongHeap yX1_wrongHeap, Cond.initialized RX1, Cond.code yX1_wrongHeap cX1_wrongHeap 2 (some .int), Cond.fieldLink RX1 33 "MeldingHeapsModel" "opened" "I", Cond.fieldLink RX1 16 "MeldingHeapsModel" "gone" "[Z", Cond.methodLink RX1 54 yX1_isBelow, Cond.instanceMethod yX1_isBelow, Cond.selects RX1 yX1_isBelow yX1_isBelow, Cond.code yX1_isBelow cX1_isBelow 4 (some .boolean), Cond.fieldLink RX1 7 "MeldingHeapsModel" "kinds" "[I", Cond.fieldLink RX1 20 "MeldingHeapsModel" "floors" "[J", Cond.methodLink RX1 46 yX1_weight, Cond.instanceMethod yX1_weight, Cond.selects RX1 yX1_weight yX1_weight, Cond.code yX1_weight cX1_weight 5 (some .long), Cond.fieldLink RX1 13 "MeldingHeapsModel" "orders" "[I", Cond.constantLong RX1 40 (-1), Cond.constantLong RX1 42 (-9223372036854775808)]
def wsX1_insert_r2 : List Cond := [Cond.constantLong RX1 44 (65535)]
def wsX1_insert : List Cond := .code yX1_insert cX1_insert 6 (some .int) :: ((wsX1_insert_r1 ++ wsX1_insert_r2) ++ wsX10)
def wsX1_first : List Cond := .code yX1_first cX1_first 3 (some .int) :: ([.methodLink RX1 50 yX1_wrongHeap, .instanceMethod yX1_wrongHeap, .selects RX1 yX1_wrongHeap yX1_wrongHeap, .initialized RX1, .code yX1_wrongHeap cX1_wrongHeap 2 (some .int), .fieldLink RX1 33 "MeldingHeapsModel" "opened" "I", .fieldLink RX1 16 "MeldingHeapsModel" "gone" "[Z"] ++ wsX10)
def wsJ9_min_7cf53 : List Cond := .code yJ9_min_7cf53 cJ9_min_7cf53 2 (some .int) :: ([])
def wsL_law_r1 : List Cond := [Cond.classLink RL 7 RX0, Cond.instantiable RX0 9, Cond.initialized RX0, Cond.classLink RL 10 RX1, Cond.instantiable RX1 9, Cond.initialized RX1, Cond.methodLink RL 9 yX0_init, Cond.instanceMethod yX0_init, Cond.code yX0_init cX0_init 1 none, Cond.methodLink RX0 3 objectInit, Cond.instanceMethod objectInit, Cond.code objectInit ⟨#[0xb1]⟩ 1 none, Cond.arrayClass .int, Cond.fieldLink RX0 9 "MeldingHeaps" "kinds" "[I", Cond.fieldLink RX0 13 "MeldingHeaps" "orders" "[I", Cond.arrayClass .boolean, Cond.fieldLink RX0 16 "MeldingHeaps" "absorbed" "[Z", Cond.arrayClass .long, Cond.fieldLink RX0 20 "MeldingHeaps" "floors" "[J", Cond.fieldLink RX0 24 "MeldingHeaps" "heapCount" "I", Cond.fieldLink RX0 28 "MeldingHeaps" "keys" "[J", Cond.fieldLink RX0 31 "MeldingHeaps" "values" "[I", Cond.fieldLink RX0 34 "MeldingHeaps" "owners" "[I", Cond.fieldLink RX0 37 "MeldingHeaps" "entryCount" "I"]
def wsL_law_r2 : List Cond := [Cond.methodLink RL 12 yX1_init, Cond.instanceMethod yX1_init, Cond.code yX1_init cX1_init 1 none, Cond.methodLink RX1 1 objectInit, Cond.fieldLink RX1 7 "MeldingHeapsModel" "kinds" "[I", Cond.fieldLink RX1 13 "MeldingHeapsModel" "orders" "[I", Cond.fieldLink RX1 16 "MeldingHeapsModel" "gone" "[Z", Cond.fieldLink RX1 20 "MeldingHeapsModel" "floors" "[J", Cond.fieldLink RX1 24 "MeldingHeapsModel" "keys" "[J", Cond.fieldLink RX1 27 "MeldingHeapsModel" "values" "[I", Cond.fieldLink RX1 30 "MeldingHeapsModel" "homes" "[I", Cond.methodLink RL 13 yX0_open, Cond.instanceMethod yX0_open, Cond.selects RX0 yX0_open yX0_open, Cond.code yX0_open cX0_open 4 (some .int), Cond.constantLong RX0 40 (-9223372036854775808), Cond.methodLink RL 17 yX1_open, Cond.instanceMethod yX1_open, Cond.selects RX1 yX1_open yX1_open, Cond.code yX1_open cX1_open 3 (some .int), Cond.fieldLink RX1 33 "MeldingHeapsModel" "opened" "I", Cond.constantLong RX1 42 (-9223372036854775808), Cond.methodLink RL 20 yX0_insert, Cond.instanceMethod yX0_insert]
def wsL_law_r3 : List Cond := [Cond.selects RX0 yX0_insert yX0_insert, Cond.code yX0_insert cX0_insert 7 (some .int), Cond.methodLink RX0 42 yX0_refusalOfHeap, Cond.instanceMethod yX0_refusalOfHeap, Cond.selects RX0 yX0_refusalOfHeap yX0_refusalOfHeap, Cond.code yX0_refusalOfHeap cX0_refusalOfHeap 2 (some .int), Cond.methodLink RX0 94 yX0_isHeap, Cond.instanceMethod yX0_isHeap, Cond.selects RX0 yX0_isHeap yX0_isHeap, Cond.code yX0_isHeap cX0_isHeap 2 (some .boolean), Cond.methodLink RX0 46 yX0_isBelowFloor, Cond.instanceMethod yX0_isBelowFloor, Cond.selects RX0 yX0_isBelowFloor yX0_isBelowFloor, Cond.code yX0_isBelowFloor cX0_isBelowFloor 4 (some .boolean), Cond.methodLink RX0 72 yX0_weight, Cond.static yX0_weight, Cond.code yX0_weight cX0_weight 3 (some .long), Cond.constantLong RX0 104 (-1), Cond.constantLong RX0 106 (65535), Cond.methodLink RL 24 yX1_insert, Cond.instanceMethod yX1_insert, Cond.selects RX1 yX1_insert yX1_insert, Cond.code yX1_insert cX1_insert 6 (some .int), Cond.fieldLink RX1 37 "MeldingHeapsModel" "inserted" "I"]
def wsL_law_r4 : List Cond := [Cond.methodLink RX1 50 yX1_wrongHeap, Cond.instanceMethod yX1_wrongHeap, Cond.selects RX1 yX1_wrongHeap yX1_wrongHeap, Cond.code yX1_wrongHeap cX1_wrongHeap 2 (some .int), Cond.methodLink RX1 54 yX1_isBelow, Cond.instanceMethod yX1_isBelow, Cond.selects RX1 yX1_isBelow yX1_isBelow, Cond.code yX1_isBelow cX1_isBelow 4 (some .boolean), Cond.methodLink RX1 46 yX1_weight, Cond.instanceMethod yX1_weight, Cond.selects RX1 yX1_weight yX1_weight, Cond.code yX1_weight cX1_weight 5 (some .long), Cond.constantLong RX1 40 (-1), Cond.constantLong RX1 44 (65535), Cond.methodLink RL 25 yX0_first, Cond.instanceMethod yX0_first, Cond.selects RX0 yX0_first yX0_first, Cond.code yX0_first cX0_first 3 (some .int), Cond.methodLink RX0 50 yX0_findFirst, Cond.instanceMethod yX0_findFirst, Cond.selects RX0 yX0_findFirst yX0_findFirst, Cond.code yX0_findFirst cX0_findFirst 4 (some .int), Cond.methodLink RX0 108 yX0_isBefore, Cond.instanceMethod yX0_isBefore]
def wsL_law_r5 : List Cond := [Cond.selects RX0 yX0_isBefore yX0_isBefore, Cond.code yX0_isBefore cX0_isBefore 8 (some .boolean), Cond.methodLink RL 29 yX1_first, Cond.instanceMethod yX1_first, Cond.selects RX1 yX1_first yX1_first, Cond.code yX1_first cX1_first 3 (some .int), Cond.methodLink RL 30 yX0_last, Cond.instanceMethod yX0_last, Cond.selects RX0 yX0_last yX0_last, Cond.code yX0_last cX0_last 3 (some .int), Cond.methodLink RX0 53 yX0_refusalOfLastOf, Cond.instanceMethod yX0_refusalOfLastOf, Cond.selects RX0 yX0_refusalOfLastOf yX0_refusalOfLastOf, Cond.code yX0_refusalOfLastOf cX0_refusalOfLastOf 3 (some .int), Cond.methodLink RX0 56 yX0_findLast, Cond.instanceMethod yX0_findLast, Cond.selects RX0 yX0_findLast yX0_findLast, Cond.code yX0_findLast cX0_findLast 4 (some .int), Cond.methodLink RL 34 yX0_take, Cond.instanceMethod yX0_take, Cond.selects RX0 yX0_take yX0_take, Cond.code yX0_take cX0_take 3 (some .int), Cond.methodLink RX0 59 yX0_first, Cond.methodLink RX0 62 yX0_raiseFloor]
def wsL_law_r6 : List Cond := [Cond.instanceMethod yX0_raiseFloor, Cond.selects RX0 yX0_raiseFloor yX0_raiseFloor, Cond.code yX0_raiseFloor cX0_raiseFloor 4 none, Cond.methodLink RL 38 yX0_takeLast, Cond.instanceMethod yX0_takeLast, Cond.selects RX0 yX0_takeLast yX0_takeLast, Cond.code yX0_takeLast cX0_takeLast 3 (some .int), Cond.methodLink RX0 66 yX0_last, Cond.methodLink RL 42 yX0_decrease, Cond.instanceMethod yX0_decrease, Cond.selects RX0 yX0_decrease yX0_decrease, Cond.code yX0_decrease cX0_decrease 6 (some .int), Cond.methodLink RX0 69 yX0_refusalOfEntry, Cond.instanceMethod yX0_refusalOfEntry, Cond.selects RX0 yX0_refusalOfEntry yX0_refusalOfEntry, Cond.code yX0_refusalOfEntry cX0_refusalOfEntry 2 (some .int), Cond.methodLink RX0 101 yX0_isEntry, Cond.instanceMethod yX0_isEntry, Cond.selects RX0 yX0_isEntry yX0_isEntry, Cond.code yX0_isEntry cX0_isEntry 2 (some .boolean), Cond.methodLink RL 47 yX0_delete, Cond.instanceMethod yX0_delete, Cond.selects RX0 yX0_delete yX0_delete, Cond.code yX0_delete cX0_delete 3 (some .int)]
def wsL_law_r7 : List Cond := [Cond.methodLink RX0 76 yX0_owner, Cond.instanceMethod yX0_owner, Cond.selects RX0 yX0_owner yX0_owner, Cond.code yX0_owner cX0_owner 3 (some .int), Cond.methodLink RL 51 yX0_meld, Cond.instanceMethod yX0_meld, Cond.selects RX0 yX0_meld yX0_meld, Cond.code yX0_meld cX0_meld 4 (some .int), Cond.methodLink RX0 79 yX0_refusalOfPair, Cond.instanceMethod yX0_refusalOfPair, Cond.selects RX0 yX0_refusalOfPair yX0_refusalOfPair, Cond.code yX0_refusalOfPair cX0_refusalOfPair 4 (some .int), Cond.methodLink RX0 83 yX0_handOverAll, Cond.instanceMethod yX0_handOverAll, Cond.selects RX0 yX0_handOverAll yX0_handOverAll, Cond.code yX0_handOverAll cX0_handOverAll 5 (some .int), Cond.methodLink RX0 86 yX0_countEntries, Cond.instanceMethod yX0_countEntries, Cond.selects RX0 yX0_countEntries yX0_countEntries, Cond.code yX0_countEntries cX0_countEntries 4 (some .int), Cond.methodLink RL 55 yX0_drain, Cond.instanceMethod yX0_drain, Cond.selects RX0 yX0_drain yX0_drain, Cond.code yX0_drain cX0_drain 8 (some .int)]
def wsL_law_r8 : List Cond := [Cond.methodLink RX0 89 Lib.Math.min.name, Cond.static Lib.Math.min.name, Cond.initialized "java/lang/Math", Cond.code Lib.Math.min.name Lib.Math.min.code 2 (some .int), Cond.methodLink RL 60 yX0_clear, Cond.instanceMethod yX0_clear, Cond.selects RX0 yX0_clear yX0_clear, Cond.code yX0_clear cX0_clear 3 (some .int), Cond.methodLink RL 64 yX0_size, Cond.instanceMethod yX0_size, Cond.selects RX0 yX0_size yX0_size, Cond.code yX0_size cX0_size 3 (some .int), Cond.methodLink RL 68 yX0_floor, Cond.instanceMethod yX0_floor, Cond.selects RX0 yX0_floor yX0_floor, Cond.code yX0_floor cX0_floor 2 (some .long), Cond.methodLink RL 73 yX0_key, Cond.instanceMethod yX0_key, Cond.selects RX0 yX0_key yX0_key, Cond.code yX0_key cX0_key 2 (some .long), Cond.methodLink RL 77 yX0_value, Cond.instanceMethod yX0_value, Cond.selects RX0 yX0_value yX0_value, Cond.code yX0_value cX0_value 2 (some .int)]
def wsL_law_r9 : List Cond := [Cond.methodLink RL 81 yX0_owner, Cond.methodLink RL 85 yX0_before, Cond.instanceMethod yX0_before, Cond.selects RX0 yX0_before yX0_before, Cond.code yX0_before cX0_before 3 (some .int), Cond.methodLink RX0 98 yX0_countBefore, Cond.instanceMethod yX0_countBefore, Cond.selects RX0 yX0_countBefore yX0_countBefore, Cond.code yX0_countBefore cX0_countBefore 5 (some .int)]
def wsL_law : List Cond := (wsL_law_r1 ++ (wsL_law_r2 ++ (wsL_law_r3 ++ (wsL_law_r4 ++ (wsL_law_r5 ++ (wsL_law_r6 ++ (wsL_law_r7 ++ (wsL_law_r8 ++ wsL_law_r9)))))))) ++ wsX00 ++ wsX10 ++ ([] : List Cond)
set_option maxRecDepth 20000 in
theorem wsL_law_in : ∀ w ∈ wsL_law, w ∈ lw_tbl := fun w h => (goodIn_p wsL_law [31, 34, 206, 69, 239, 74, 78, 82, 86, 89, 244, 248, 252, 256, 95, 99, 103, 262, 107, 111, 115, 119, 124, 128, 133, 137, 141, 145, 149, 153, 157, 161, 165, 169, 172, 176, 180, 184, 188, 192, 197, 201] (by decide +kernel) (by decide +kernel) w h).1
theorem inlX0 : ∀ w ∈ wsX00, w ∈ wsL_law := fun _ h => List.mem_append_left _ (List.mem_append_left _ (List.mem_append_right _ h))
theorem inX0 : ∀ w ∈ wsX00, w ∈ lw_tbl := fun w h => wsL_law_in w (inlX0 w h)
theorem inlX1 : ∀ w ∈ wsX10, w ∈ wsL_law := fun _ h => List.mem_append_left _ (List.mem_append_right _ h)
theorem inX1 : ∀ w ∈ wsX10, w ∈ lw_tbl := fun w h => wsL_law_in w (inlX1 w h)
theorem inJ9 : ∀ w ∈ wsJ90, w ∈ lw_tbl := by decide +kernel
theorem dX0_init_0 : decode cX0_init 0 = .ok (.aload_n 0, 1) := by decide +kernel
theorem dX0_init_1 : decode cX0_init 1 = .ok (.invokespecial 3, 3) := by decide +kernel
theorem dX0_init_4 : decode cX0_init 4 = .ok (.aload_n 0, 1) := by decide +kernel
theorem dX0_init_5 : decode cX0_init 5 = .ok (.bipush 12, 2) := by decide +kernel
theorem dX0_init_7 : decode cX0_init 7 = .ok (.newarray .int, 2) := by decide +kernel
theorem dX0_init_9 : decode cX0_init 9 = .ok (.putfield 9, 3) := by decide +kernel
theorem dX0_init_12 : decode cX0_init 12 = .ok (.aload_n 0, 1) := by decide +kernel
theorem dX0_init_13 : decode cX0_init 13 = .ok (.bipush 12, 2) := by decide +kernel
theorem dX0_init_15 : decode cX0_init 15 = .ok (.newarray .int, 2) := by decide +kernel
theorem dX0_init_17 : decode cX0_init 17 = .ok (.putfield 13, 3) := by decide +kernel
theorem dX0_init_20 : decode cX0_init 20 = .ok (.aload_n 0, 1) := by decide +kernel
theorem dX0_init_21 : decode cX0_init 21 = .ok (.bipush 12, 2) := by decide +kernel
theorem dX0_init_23 : decode cX0_init 23 = .ok (.newarray .boolean, 2) := by decide +kernel
theorem dX0_init_25 : decode cX0_init 25 = .ok (.putfield 16, 3) := by decide +kernel
theorem dX0_init_28 : decode cX0_init 28 = .ok (.aload_n 0, 1) := by decide +kernel
theorem dX0_init_29 : decode cX0_init 29 = .ok (.bipush 12, 2) := by decide +kernel
theorem dX0_init_31 : decode cX0_init 31 = .ok (.newarray .long, 2) := by decide +kernel
theorem dX0_init_33 : decode cX0_init 33 = .ok (.putfield 20, 3) := by decide +kernel
theorem dX0_init_36 : decode cX0_init 36 = .ok (.aload_n 0, 1) := by decide +kernel
theorem dX0_init_37 : decode cX0_init 37 = .ok (.iconst 0, 1) := by decide +kernel
theorem dX0_init_38 : decode cX0_init 38 = .ok (.putfield 24, 3) := by decide +kernel
theorem dX0_init_41 : decode cX0_init 41 = .ok (.aload_n 0, 1) := by decide +kernel
theorem dX0_init_42 : decode cX0_init 42 = .ok (.sipush 160, 3) := by decide +kernel
theorem dX0_init_45 : decode cX0_init 45 = .ok (.newarray .long, 2) := by decide +kernel
theorem dX0_init_47 : decode cX0_init 47 = .ok (.putfield 28, 3) := by decide +kernel
theorem dX0_init_50 : decode cX0_init 50 = .ok (.aload_n 0, 1) := by decide +kernel
theorem dX0_init_51 : decode cX0_init 51 = .ok (.sipush 160, 3) := by decide +kernel
theorem dX0_init_54 : decode cX0_init 54 = .ok (.newarray .int, 2) := by decide +kernel
theorem dX0_init_56 : decode cX0_init 56 = .ok (.putfield 31, 3) := by decide +kernel
theorem dX0_init_59 : decode cX0_init 59 = .ok (.aload_n 0, 1) := by decide +kernel
theorem dX0_init_60 : decode cX0_init 60 = .ok (.sipush 160, 3) := by decide +kernel
theorem dX0_init_63 : decode cX0_init 63 = .ok (.newarray .int, 2) := by decide +kernel
theorem dX0_init_65 : decode cX0_init 65 = .ok (.putfield 34, 3) := by decide +kernel
theorem dX0_init_68 : decode cX0_init 68 = .ok (.aload_n 0, 1) := by decide +kernel
theorem dX0_init_69 : decode cX0_init 69 = .ok (.iconst 0, 1) := by decide +kernel
theorem dX0_init_70 : decode cX0_init 70 = .ok (.putfield 37, 3) := by decide +kernel
theorem dX0_init_73 : decode cX0_init 73 = .ok (.return_, 1) := by decide +kernel
theorem dX0_open_0 : decode cX0_open 0 = .ok (.iload_n 1, 1) := by decide +kernel
theorem dX0_open_1 : decode cX0_open 1 = .ok (.ifCond .lt 17, 3) := by decide +kernel
theorem dX0_open_4 : decode cX0_open 4 = .ok (.iload_n 1, 1) := by decide +kernel
theorem dX0_open_5 : decode cX0_open 5 = .ok (.iconst 2, 1) := by decide +kernel
theorem dX0_open_6 : decode cX0_open 6 = .ok (.if_icmp .gt 12, 3) := by decide +kernel
theorem dX0_open_9 : decode cX0_open 9 = .ok (.iload_n 2, 1) := by decide +kernel
theorem dX0_open_10 : decode cX0_open 10 = .ok (.ifCond .lt 8, 3) := by decide +kernel
theorem dX0_open_13 : decode cX0_open 13 = .ok (.iload_n 2, 1) := by decide +kernel
theorem dX0_open_14 : decode cX0_open 14 = .ok (.iconst 3, 1) := by decide +kernel
theorem dX0_open_15 : decode cX0_open 15 = .ok (.if_icmp .le 6, 3) := by decide +kernel
theorem dX0_open_18 : decode cX0_open 18 = .ok (.bipush (-2), 2) := by decide +kernel
theorem dX0_open_20 : decode cX0_open 20 = .ok (.ireturn, 1) := by decide +kernel
theorem dX0_open_21 : decode cX0_open 21 = .ok (.aload_n 0, 1) := by decide +kernel
theorem dX0_open_22 : decode cX0_open 22 = .ok (.getfield 24, 3) := by decide +kernel
theorem dX0_open_25 : decode cX0_open 25 = .ok (.bipush 12, 2) := by decide +kernel
theorem dX0_open_27 : decode cX0_open 27 = .ok (.if_icmp .lt 6, 3) := by decide +kernel
theorem dX0_open_30 : decode cX0_open 30 = .ok (.bipush (-8), 2) := by decide +kernel
theorem dX0_open_32 : decode cX0_open 32 = .ok (.ireturn, 1) := by decide +kernel
theorem dX0_open_33 : decode cX0_open 33 = .ok (.aload_n 0, 1) := by decide +kernel
theorem dX0_open_34 : decode cX0_open 34 = .ok (.getfield 24, 3) := by decide +kernel
theorem dX0_open_37 : decode cX0_open 37 = .ok (.istore_n 3, 1) := by decide +kernel
theorem dX0_open_38 : decode cX0_open 38 = .ok (.aload_n 0, 1) := by decide +kernel
theorem dX0_open_39 : decode cX0_open 39 = .ok (.getfield 9, 3) := by decide +kernel
theorem dX0_open_42 : decode cX0_open 42 = .ok (.iload_n 3, 1) := by decide +kernel
theorem dX0_open_43 : decode cX0_open 43 = .ok (.iload_n 1, 1) := by decide +kernel
theorem dX0_open_44 : decode cX0_open 44 = .ok (.iastore, 1) := by decide +kernel
theorem dX0_open_45 : decode cX0_open 45 = .ok (.aload_n 0, 1) := by decide +kernel
theorem dX0_open_46 : decode cX0_open 46 = .ok (.getfield 13, 3) := by decide +kernel
theorem dX0_open_49 : decode cX0_open 49 = .ok (.iload_n 3, 1) := by decide +kernel
theorem dX0_open_50 : decode cX0_open 50 = .ok (.iload_n 2, 1) := by decide +kernel
theorem dX0_open_51 : decode cX0_open 51 = .ok (.iastore, 1) := by decide +kernel
theorem dX0_open_52 : decode cX0_open 52 = .ok (.aload_n 0, 1) := by decide +kernel
theorem dX0_open_53 : decode cX0_open 53 = .ok (.getfield 16, 3) := by decide +kernel
theorem dX0_open_56 : decode cX0_open 56 = .ok (.iload_n 3, 1) := by decide +kernel
theorem dX0_open_57 : decode cX0_open 57 = .ok (.iconst 0, 1) := by decide +kernel
theorem dX0_open_58 : decode cX0_open 58 = .ok (.bastore, 1) := by decide +kernel
theorem dX0_open_59 : decode cX0_open 59 = .ok (.aload_n 0, 1) := by decide +kernel
theorem dX0_open_60 : decode cX0_open 60 = .ok (.getfield 20, 3) := by decide +kernel
theorem dX0_open_63 : decode cX0_open 63 = .ok (.iload_n 3, 1) := by decide +kernel
theorem dX0_open_64 : decode cX0_open 64 = .ok (.ldc2_w 40, 3) := by decide +kernel
theorem dX0_open_67 : decode cX0_open 67 = .ok (.lastore, 1) := by decide +kernel
theorem dX0_open_68 : decode cX0_open 68 = .ok (.aload_n 0, 1) := by decide +kernel
theorem dX0_open_69 : decode cX0_open 69 = .ok (.dup, 1) := by decide +kernel
theorem dX0_open_70 : decode cX0_open 70 = .ok (.getfield 24, 3) := by decide +kernel
theorem dX0_open_73 : decode cX0_open 73 = .ok (.iconst 1, 1) := by decide +kernel
theorem dX0_open_74 : decode cX0_open 74 = .ok (.iadd, 1) := by decide +kernel
theorem dX0_open_75 : decode cX0_open 75 = .ok (.putfield 24, 3) := by decide +kernel
theorem dX0_open_78 : decode cX0_open 78 = .ok (.iload_n 3, 1) := by decide +kernel
theorem dX0_open_79 : decode cX0_open 79 = .ok (.ireturn, 1) := by decide +kernel
set_option maxRecDepth 20000 in
theorem ggX0_insert_X0_refusalOfHeap : GoodIn wsX0_insert wsX0_refusalOfHeap := goodIn_r _ [9, 10, 11, 12, 13, 8, 14, 15, 28, 29, 30, 31, 32, 33, 34, 35, 36] (by decide +kernel) (by decide +kernel)
set_option maxRecDepth 20000 in
theorem gX0_insert_X0_refusalOfHeap : GoodIn wsX0_insert (wsV RX0 42 RX0 yX0_refusalOfHeap wsX0_refusalOfHeap) := goodIn_app (goodIn_of _ (by decide +kernel)) ggX0_insert_X0_refusalOfHeap
set_option maxRecDepth 20000 in
theorem ggX0_insert_X0_isBelowFloor : GoodIn wsX0_insert wsX0_isBelowFloor := goodIn_r _ [19, 20, 21, 22, 23, 8, 24, 25, 26, 27, 28, 29, 30, 31, 32, 33, 34, 35, 36] (by decide +kernel) (by decide +kernel)
set_option maxRecDepth 20000 in
theorem gX0_insert_X0_isBelowFloor : GoodIn wsX0_insert (wsV RX0 46 RX0 yX0_isBelowFloor wsX0_isBelowFloor) := goodIn_app (goodIn_of _ (by decide +kernel)) ggX0_insert_X0_isBelowFloor
theorem dX0_insert_0 : decode cX0_insert 0 = .ok (.aload_n 0, 1) := by decide +kernel
theorem dX0_insert_1 : decode cX0_insert 1 = .ok (.iload_n 1, 1) := by decide +kernel
theorem dX0_insert_2 : decode cX0_insert 2 = .ok (.invokevirtual 42, 3) := by decide +kernel
theorem dX0_insert_5 : decode cX0_insert 5 = .ok (.istore 5, 2) := by decide +kernel
theorem dX0_insert_7 : decode cX0_insert 7 = .ok (.iload 5, 2) := by decide +kernel
theorem dX0_insert_9 : decode cX0_insert 9 = .ok (.ifCond .eq 6, 3) := by decide +kernel
theorem dX0_insert_12 : decode cX0_insert 12 = .ok (.iload 5, 2) := by decide +kernel
theorem dX0_insert_14 : decode cX0_insert 14 = .ok (.ireturn, 1) := by decide +kernel
theorem dX0_insert_15 : decode cX0_insert 15 = .ok (.aload_n 0, 1) := by decide +kernel
theorem dX0_insert_16 : decode cX0_insert 16 = .ok (.iload_n 1, 1) := by decide +kernel
theorem dX0_insert_17 : decode cX0_insert 17 = .ok (.lload_n 2, 1) := by decide +kernel
theorem dX0_insert_18 : decode cX0_insert 18 = .ok (.invokevirtual 46, 3) := by decide +kernel
theorem dX0_insert_21 : decode cX0_insert 21 = .ok (.ifCond .eq 6, 3) := by decide +kernel
theorem dX0_insert_24 : decode cX0_insert 24 = .ok (.bipush (-6), 2) := by decide +kernel
theorem dX0_insert_26 : decode cX0_insert 26 = .ok (.ireturn, 1) := by decide +kernel
theorem dX0_insert_27 : decode cX0_insert 27 = .ok (.aload_n 0, 1) := by decide +kernel
theorem dX0_insert_28 : decode cX0_insert 28 = .ok (.getfield 37, 3) := by decide +kernel
theorem dX0_insert_31 : decode cX0_insert 31 = .ok (.sipush 160, 3) := by decide +kernel
theorem dX0_insert_34 : decode cX0_insert 34 = .ok (.if_icmp .lt 6, 3) := by decide +kernel
theorem dX0_insert_37 : decode cX0_insert 37 = .ok (.bipush (-8), 2) := by decide +kernel
theorem dX0_insert_39 : decode cX0_insert 39 = .ok (.ireturn, 1) := by decide +kernel
theorem dX0_insert_40 : decode cX0_insert 40 = .ok (.aload_n 0, 1) := by decide +kernel
theorem dX0_insert_41 : decode cX0_insert 41 = .ok (.getfield 37, 3) := by decide +kernel
theorem dX0_insert_44 : decode cX0_insert 44 = .ok (.istore 6, 2) := by decide +kernel
theorem dX0_insert_46 : decode cX0_insert 46 = .ok (.aload_n 0, 1) := by decide +kernel
theorem dX0_insert_47 : decode cX0_insert 47 = .ok (.getfield 28, 3) := by decide +kernel
theorem dX0_insert_50 : decode cX0_insert 50 = .ok (.iload 6, 2) := by decide +kernel
theorem dX0_insert_52 : decode cX0_insert 52 = .ok (.lload_n 2, 1) := by decide +kernel
theorem dX0_insert_53 : decode cX0_insert 53 = .ok (.lastore, 1) := by decide +kernel
theorem dX0_insert_54 : decode cX0_insert 54 = .ok (.aload_n 0, 1) := by decide +kernel
theorem dX0_insert_55 : decode cX0_insert 55 = .ok (.getfield 31, 3) := by decide +kernel
theorem dX0_insert_58 : decode cX0_insert 58 = .ok (.iload 6, 2) := by decide +kernel
theorem dX0_insert_60 : decode cX0_insert 60 = .ok (.iload 4, 2) := by decide +kernel
theorem dX0_insert_62 : decode cX0_insert 62 = .ok (.iastore, 1) := by decide +kernel
theorem dX0_insert_63 : decode cX0_insert 63 = .ok (.aload_n 0, 1) := by decide +kernel
theorem dX0_insert_64 : decode cX0_insert 64 = .ok (.getfield 34, 3) := by decide +kernel
theorem dX0_insert_67 : decode cX0_insert 67 = .ok (.iload 6, 2) := by decide +kernel
theorem dX0_insert_69 : decode cX0_insert 69 = .ok (.iload_n 1, 1) := by decide +kernel
theorem dX0_insert_70 : decode cX0_insert 70 = .ok (.iastore, 1) := by decide +kernel
theorem dX0_insert_71 : decode cX0_insert 71 = .ok (.aload_n 0, 1) := by decide +kernel
theorem dX0_insert_72 : decode cX0_insert 72 = .ok (.dup, 1) := by decide +kernel
theorem dX0_insert_73 : decode cX0_insert 73 = .ok (.getfield 37, 3) := by decide +kernel
theorem dX0_insert_76 : decode cX0_insert 76 = .ok (.iconst 1, 1) := by decide +kernel
theorem dX0_insert_77 : decode cX0_insert 77 = .ok (.iadd, 1) := by decide +kernel
theorem dX0_insert_78 : decode cX0_insert 78 = .ok (.putfield 37, 3) := by decide +kernel
theorem dX0_insert_81 : decode cX0_insert 81 = .ok (.iload 6, 2) := by decide +kernel
theorem dX0_insert_83 : decode cX0_insert 83 = .ok (.ireturn, 1) := by decide +kernel
set_option maxRecDepth 20000 in
theorem ggX0_first_X0_refusalOfHeap : GoodIn wsX0_first wsX0_refusalOfHeap := goodIn_r _ [5, 6, 7, 8, 9, 4, 10, 11, 30, 31, 32, 33, 34, 35, 36, 37, 38] (by decide +kernel) (by decide +kernel)
set_option maxRecDepth 20000 in
theorem gX0_first_X0_refusalOfHeap : GoodIn wsX0_first (wsV RX0 42 RX0 yX0_refusalOfHeap wsX0_refusalOfHeap) := goodIn_app (goodIn_of _ (by decide +kernel)) ggX0_first_X0_refusalOfHeap
set_option maxRecDepth 20000 in
theorem ggX0_first_X0_findFirst : GoodIn wsX0_first wsX0_findFirst := goodIn_r _ [15, 16, 17, 18, 19, 20, 21, 4, 22, 23, 24, 25, 26, 27, 28, 29, 30, 31, 32, 33, 34, 35, 36, 37, 38] (by decide +kernel) (by decide +kernel)
set_option maxRecDepth 20000 in
theorem gX0_first_X0_findFirst : GoodIn wsX0_first (wsV RX0 50 RX0 yX0_findFirst wsX0_findFirst) := goodIn_app (goodIn_of _ (by decide +kernel)) ggX0_first_X0_findFirst
theorem dX0_first_0 : decode cX0_first 0 = .ok (.aload_n 0, 1) := by decide +kernel
theorem dX0_first_1 : decode cX0_first 1 = .ok (.iload_n 1, 1) := by decide +kernel
theorem dX0_first_2 : decode cX0_first 2 = .ok (.invokevirtual 42, 3) := by decide +kernel
theorem dX0_first_5 : decode cX0_first 5 = .ok (.istore_n 2, 1) := by decide +kernel
theorem dX0_first_6 : decode cX0_first 6 = .ok (.iload_n 2, 1) := by decide +kernel
theorem dX0_first_7 : decode cX0_first 7 = .ok (.ifCond .eq 7, 3) := by decide +kernel
theorem dX0_first_10 : decode cX0_first 10 = .ok (.iload_n 2, 1) := by decide +kernel
theorem dX0_first_11 : decode cX0_first 11 = .ok (.goto 8, 3) := by decide +kernel
theorem dX0_first_14 : decode cX0_first 14 = .ok (.aload_n 0, 1) := by decide +kernel
theorem dX0_first_15 : decode cX0_first 15 = .ok (.iload_n 1, 1) := by decide +kernel
theorem dX0_first_16 : decode cX0_first 16 = .ok (.invokevirtual 50, 3) := by decide +kernel
theorem dX0_first_19 : decode cX0_first 19 = .ok (.ireturn, 1) := by decide +kernel
set_option maxRecDepth 20000 in
theorem ggX0_last_X0_refusalOfLastOf : GoodIn wsX0_last wsX0_refusalOfLastOf := goodIn_r _ [5, 6, 7, 8, 9, 4, 10, 11, 12, 13, 14, 15, 16, 35, 36, 37, 38, 39, 40, 41, 42, 43] (by decide +kernel) (by decide +kernel)
set_option maxRecDepth 20000 in
theorem gX0_last_X0_refusalOfLastOf : GoodIn wsX0_last (wsV RX0 53 RX0 yX0_refusalOfLastOf wsX0_refusalOfLastOf) := goodIn_app (goodIn_of _ (by decide +kernel)) ggX0_last_X0_refusalOfLastOf
set_option maxRecDepth 20000 in
theorem ggX0_last_X0_findLast : GoodIn wsX0_last wsX0_findLast := goodIn_r _ [20, 21, 22, 23, 24, 25, 26, 4, 27, 28, 29, 30, 31, 32, 33, 34, 35, 36, 37, 38, 39, 40, 41, 42, 43] (by decide +kernel) (by decide +kernel)
set_option maxRecDepth 20000 in
theorem gX0_last_X0_findLast : GoodIn wsX0_last (wsV RX0 56 RX0 yX0_findLast wsX0_findLast) := goodIn_app (goodIn_of _ (by decide +kernel)) ggX0_last_X0_findLast
theorem dX0_last_0 : decode cX0_last 0 = .ok (.aload_n 0, 1) := by decide +kernel
theorem dX0_last_1 : decode cX0_last 1 = .ok (.iload_n 1, 1) := by decide +kernel
theorem dX0_last_2 : decode cX0_last 2 = .ok (.invokevirtual 53, 3) := by decide +kernel
theorem dX0_last_5 : decode cX0_last 5 = .ok (.istore_n 2, 1) := by decide +kernel
theorem dX0_last_6 : decode cX0_last 6 = .ok (.iload_n 2, 1) := by decide +kernel
theorem dX0_last_7 : decode cX0_last 7 = .ok (.ifCond .eq 7, 3) := by decide +kernel
theorem dX0_last_10 : decode cX0_last 10 = .ok (.iload_n 2, 1) := by decide +kernel
theorem dX0_last_11 : decode cX0_last 11 = .ok (.goto 8, 3) := by decide +kernel
theorem dX0_last_14 : decode cX0_last 14 = .ok (.aload_n 0, 1) := by decide +kernel
theorem dX0_last_15 : decode cX0_last 15 = .ok (.iload_n 1, 1) := by decide +kernel
theorem dX0_last_16 : decode cX0_last 16 = .ok (.invokevirtual 56, 3) := by decide +kernel
theorem dX0_last_19 : decode cX0_last 19 = .ok (.ireturn, 1) := by decide +kernel
set_option maxRecDepth 20000 in
theorem ggX0_take_X0_first : GoodIn wsX0_take wsX0_first := goodIn_r _ [7, 8, 9, 10, 6, 11, 12, 13, 14, 15, 16, 17, 18, 19, 20, 21, 22, 2, 23, 24, 25, 26, 27, 1, 28, 29, 30, 31, 32, 33, 40, 41, 42, 43, 44, 45, 46, 47, 48] (by decide +kernel) (by decide +kernel)
set_option maxRecDepth 20000 in
theorem gX0_take_X0_first : GoodIn wsX0_take (wsV RX0 59 RX0 yX0_first wsX0_first) := goodIn_app (goodIn_of _ (by decide +kernel)) ggX0_take_X0_first
set_option maxRecDepth 20000 in
theorem ggX0_take_X0_raiseFloor : GoodIn wsX0_take wsX0_raiseFloor := goodIn_r _ [37, 38, 39, 23, 28, 29, 6, 30, 31, 32, 33, 40, 41, 42, 43, 44, 45, 46, 47, 48] (by decide +kernel) (by decide +kernel)
set_option maxRecDepth 20000 in
theorem gX0_take_X0_raiseFloor : GoodIn wsX0_take (wsV RX0 62 RX0 yX0_raiseFloor wsX0_raiseFloor) := goodIn_app (goodIn_of _ (by decide +kernel)) ggX0_take_X0_raiseFloor
theorem dX0_take_0 : decode cX0_take 0 = .ok (.aload_n 0, 1) := by decide +kernel
theorem dX0_take_1 : decode cX0_take 1 = .ok (.iload_n 1, 1) := by decide +kernel
theorem dX0_take_2 : decode cX0_take 2 = .ok (.invokevirtual 59, 3) := by decide +kernel
theorem dX0_take_5 : decode cX0_take 5 = .ok (.istore_n 2, 1) := by decide +kernel
theorem dX0_take_6 : decode cX0_take 6 = .ok (.iload_n 2, 1) := by decide +kernel
theorem dX0_take_7 : decode cX0_take 7 = .ok (.ifCond .lt 22, 3) := by decide +kernel
theorem dX0_take_10 : decode cX0_take 10 = .ok (.aload_n 0, 1) := by decide +kernel
theorem dX0_take_11 : decode cX0_take 11 = .ok (.iload_n 1, 1) := by decide +kernel
theorem dX0_take_12 : decode cX0_take 12 = .ok (.aload_n 0, 1) := by decide +kernel
theorem dX0_take_13 : decode cX0_take 13 = .ok (.getfield 28, 3) := by decide +kernel
theorem dX0_take_16 : decode cX0_take 16 = .ok (.iload_n 2, 1) := by decide +kernel
theorem dX0_take_17 : decode cX0_take 17 = .ok (.laload, 1) := by decide +kernel
theorem dX0_take_18 : decode cX0_take 18 = .ok (.invokevirtual 62, 3) := by decide +kernel
theorem dX0_take_21 : decode cX0_take 21 = .ok (.aload_n 0, 1) := by decide +kernel
theorem dX0_take_22 : decode cX0_take 22 = .ok (.getfield 34, 3) := by decide +kernel
theorem dX0_take_25 : decode cX0_take 25 = .ok (.iload_n 2, 1) := by decide +kernel
theorem dX0_take_26 : decode cX0_take 26 = .ok (.bipush (-4), 2) := by decide +kernel
theorem dX0_take_28 : decode cX0_take 28 = .ok (.iastore, 1) := by decide +kernel
theorem dX0_take_29 : decode cX0_take 29 = .ok (.iload_n 2, 1) := by decide +kernel
theorem dX0_take_30 : decode cX0_take 30 = .ok (.ireturn, 1) := by decide +kernel
set_option maxRecDepth 20000 in
theorem ggX0_takeLast_X0_last : GoodIn wsX0_takeLast wsX0_last := goodIn_r _ [6, 7, 8, 9, 5, 10, 11, 12, 13, 14, 15, 16, 17, 18, 19, 20, 21, 22, 23, 24, 25, 26, 1, 27, 28, 29, 30, 31, 32, 33, 34, 35, 36, 37, 38, 39, 40, 41, 42, 43, 44, 45, 46, 47] (by decide +kernel) (by decide +kernel)
set_option maxRecDepth 20000 in
theorem gX0_takeLast_X0_last : GoodIn wsX0_takeLast (wsV RX0 66 RX0 yX0_last wsX0_last) := goodIn_app (goodIn_of _ (by decide +kernel)) ggX0_takeLast_X0_last
theorem dX0_takeLast_0 : decode cX0_takeLast 0 = .ok (.aload_n 0, 1) := by decide +kernel
theorem dX0_takeLast_1 : decode cX0_takeLast 1 = .ok (.iload_n 1, 1) := by decide +kernel
theorem dX0_takeLast_2 : decode cX0_takeLast 2 = .ok (.invokevirtual 66, 3) := by decide +kernel
theorem dX0_takeLast_5 : decode cX0_takeLast 5 = .ok (.istore_n 2, 1) := by decide +kernel
theorem dX0_takeLast_6 : decode cX0_takeLast 6 = .ok (.iload_n 2, 1) := by decide +kernel
theorem dX0_takeLast_7 : decode cX0_takeLast 7 = .ok (.ifCond .lt 11, 3) := by decide +kernel
theorem dX0_takeLast_10 : decode cX0_takeLast 10 = .ok (.aload_n 0, 1) := by decide +kernel
theorem dX0_takeLast_11 : decode cX0_takeLast 11 = .ok (.getfield 34, 3) := by decide +kernel
theorem dX0_takeLast_14 : decode cX0_takeLast 14 = .ok (.iload_n 2, 1) := by decide +kernel
theorem dX0_takeLast_15 : decode cX0_takeLast 15 = .ok (.bipush (-4), 2) := by decide +kernel
theorem dX0_takeLast_17 : decode cX0_takeLast 17 = .ok (.iastore, 1) := by decide +kernel
theorem dX0_takeLast_18 : decode cX0_takeLast 18 = .ok (.iload_n 2, 1) := by decide +kernel
theorem dX0_takeLast_19 : decode cX0_takeLast 19 = .ok (.ireturn, 1) := by decide +kernel
set_option maxRecDepth 20000 in
theorem ggX0_decrease_X0_refusalOfEntry : GoodIn wsX0_decrease wsX0_refusalOfEntry := goodIn_r _ [8, 1, 9, 10, 11, 7, 12, 13, 33, 34, 35, 36, 37, 38, 39, 40, 41] (by decide +kernel) (by decide +kernel)
set_option maxRecDepth 20000 in
theorem gX0_decrease_X0_refusalOfEntry : GoodIn wsX0_decrease (wsV RX0 69 RX0 yX0_refusalOfEntry wsX0_refusalOfEntry) := goodIn_app (goodIn_of _ (by decide +kernel)) ggX0_decrease_X0_refusalOfEntry
set_option maxRecDepth 20000 in
theorem ggX0_decrease_X0_weight : GoodIn wsX0_decrease wsX0_weight := goodIn_r _ [16, 17, 18, 19] (by decide +kernel) (by decide +kernel)
set_option maxRecDepth 20000 in
theorem gX0_decrease_X0_weight : GoodIn wsX0_decrease (va_wsS RX0 72 yX0_weight wsX0_weight) := goodIn_app (goodIn_of _ (by decide +kernel)) ggX0_decrease_X0_weight
set_option maxRecDepth 20000 in
theorem ggX0_decrease_X0_isBelowFloor : GoodIn wsX0_decrease wsX0_isBelowFloor := goodIn_r _ [23, 2, 24, 14, 15, 7, 16, 17, 18, 19, 33, 34, 35, 36, 37, 38, 39, 40, 41] (by decide +kernel) (by decide +kernel)
set_option maxRecDepth 20000 in
theorem gX0_decrease_X0_isBelowFloor : GoodIn wsX0_decrease (wsV RX0 46 RX0 yX0_isBelowFloor wsX0_isBelowFloor) := goodIn_app (goodIn_of _ (by decide +kernel)) ggX0_decrease_X0_isBelowFloor
set_option maxRecDepth 20000 in
theorem ggX0_decrease_X0_findFirst : GoodIn wsX0_decrease wsX0_findFirst := goodIn_r _ [28, 13, 1, 2, 29, 30, 31, 7, 32, 3, 14, 15, 16, 17, 18, 19, 33, 34, 35, 36, 37, 38, 39, 40, 41] (by decide +kernel) (by decide +kernel)
set_option maxRecDepth 20000 in
theorem gX0_decrease_X0_findFirst : GoodIn wsX0_decrease (wsV RX0 50 RX0 yX0_findFirst wsX0_findFirst) := goodIn_app (goodIn_of _ (by decide +kernel)) ggX0_decrease_X0_findFirst
theorem dX0_decrease_0 : decode cX0_decrease 0 = .ok (.aload_n 0, 1) := by decide +kernel
theorem dX0_decrease_1 : decode cX0_decrease 1 = .ok (.iload_n 1, 1) := by decide +kernel
theorem dX0_decrease_2 : decode cX0_decrease 2 = .ok (.invokevirtual 69, 3) := by decide +kernel
theorem dX0_decrease_5 : decode cX0_decrease 5 = .ok (.istore 4, 2) := by decide +kernel
theorem dX0_decrease_7 : decode cX0_decrease 7 = .ok (.iload 4, 2) := by decide +kernel
theorem dX0_decrease_9 : decode cX0_decrease 9 = .ok (.ifCond .eq 6, 3) := by decide +kernel
theorem dX0_decrease_12 : decode cX0_decrease 12 = .ok (.iload 4, 2) := by decide +kernel
theorem dX0_decrease_14 : decode cX0_decrease 14 = .ok (.ireturn, 1) := by decide +kernel
theorem dX0_decrease_15 : decode cX0_decrease 15 = .ok (.aload_n 0, 1) := by decide +kernel
theorem dX0_decrease_16 : decode cX0_decrease 16 = .ok (.getfield 34, 3) := by decide +kernel
theorem dX0_decrease_19 : decode cX0_decrease 19 = .ok (.iload_n 1, 1) := by decide +kernel
theorem dX0_decrease_20 : decode cX0_decrease 20 = .ok (.iaload, 1) := by decide +kernel
theorem dX0_decrease_21 : decode cX0_decrease 21 = .ok (.istore 5, 2) := by decide +kernel
theorem dX0_decrease_23 : decode cX0_decrease 23 = .ok (.aload_n 0, 1) := by decide +kernel
theorem dX0_decrease_24 : decode cX0_decrease 24 = .ok (.getfield 13, 3) := by decide +kernel
theorem dX0_decrease_27 : decode cX0_decrease 27 = .ok (.iload 5, 2) := by decide +kernel
theorem dX0_decrease_29 : decode cX0_decrease 29 = .ok (.iaload, 1) := by decide +kernel
theorem dX0_decrease_30 : decode cX0_decrease 30 = .ok (.lload_n 2, 1) := by decide +kernel
theorem dX0_decrease_31 : decode cX0_decrease 31 = .ok (.invokestatic 72, 3) := by decide +kernel
theorem dX0_decrease_34 : decode cX0_decrease 34 = .ok (.aload_n 0, 1) := by decide +kernel
theorem dX0_decrease_35 : decode cX0_decrease 35 = .ok (.getfield 13, 3) := by decide +kernel
theorem dX0_decrease_38 : decode cX0_decrease 38 = .ok (.iload 5, 2) := by decide +kernel
theorem dX0_decrease_40 : decode cX0_decrease 40 = .ok (.iaload, 1) := by decide +kernel
theorem dX0_decrease_41 : decode cX0_decrease 41 = .ok (.aload_n 0, 1) := by decide +kernel
theorem dX0_decrease_42 : decode cX0_decrease 42 = .ok (.getfield 28, 3) := by decide +kernel
theorem dX0_decrease_45 : decode cX0_decrease 45 = .ok (.iload_n 1, 1) := by decide +kernel
theorem dX0_decrease_46 : decode cX0_decrease 46 = .ok (.laload, 1) := by decide +kernel
theorem dX0_decrease_47 : decode cX0_decrease 47 = .ok (.invokestatic 72, 3) := by decide +kernel
theorem dX0_decrease_50 : decode cX0_decrease 50 = .ok (.lcmp, 1) := by decide +kernel
theorem dX0_decrease_51 : decode cX0_decrease 51 = .ok (.ifCond .le 6, 3) := by decide +kernel
theorem dX0_decrease_54 : decode cX0_decrease 54 = .ok (.bipush (-5), 2) := by decide +kernel
theorem dX0_decrease_56 : decode cX0_decrease 56 = .ok (.ireturn, 1) := by decide +kernel
theorem dX0_decrease_57 : decode cX0_decrease 57 = .ok (.aload_n 0, 1) := by decide +kernel
theorem dX0_decrease_58 : decode cX0_decrease 58 = .ok (.iload 5, 2) := by decide +kernel
theorem dX0_decrease_60 : decode cX0_decrease 60 = .ok (.lload_n 2, 1) := by decide +kernel
theorem dX0_decrease_61 : decode cX0_decrease 61 = .ok (.invokevirtual 46, 3) := by decide +kernel
theorem dX0_decrease_64 : decode cX0_decrease 64 = .ok (.ifCond .eq 6, 3) := by decide +kernel
theorem dX0_decrease_67 : decode cX0_decrease 67 = .ok (.bipush (-6), 2) := by decide +kernel
theorem dX0_decrease_69 : decode cX0_decrease 69 = .ok (.ireturn, 1) := by decide +kernel
theorem dX0_decrease_70 : decode cX0_decrease 70 = .ok (.aload_n 0, 1) := by decide +kernel
theorem dX0_decrease_71 : decode cX0_decrease 71 = .ok (.getfield 28, 3) := by decide +kernel
theorem dX0_decrease_74 : decode cX0_decrease 74 = .ok (.iload_n 1, 1) := by decide +kernel
theorem dX0_decrease_75 : decode cX0_decrease 75 = .ok (.lload_n 2, 1) := by decide +kernel
theorem dX0_decrease_76 : decode cX0_decrease 76 = .ok (.lastore, 1) := by decide +kernel
theorem dX0_decrease_77 : decode cX0_decrease 77 = .ok (.aload_n 0, 1) := by decide +kernel
theorem dX0_decrease_78 : decode cX0_decrease 78 = .ok (.iload 5, 2) := by decide +kernel
theorem dX0_decrease_80 : decode cX0_decrease 80 = .ok (.invokevirtual 50, 3) := by decide +kernel
theorem dX0_decrease_83 : decode cX0_decrease 83 = .ok (.iload_n 1, 1) := by decide +kernel
theorem dX0_decrease_84 : decode cX0_decrease 84 = .ok (.if_icmp .ne 7, 3) := by decide +kernel
theorem dX0_decrease_87 : decode cX0_decrease 87 = .ok (.iconst 1, 1) := by decide +kernel
theorem dX0_decrease_88 : decode cX0_decrease 88 = .ok (.goto 4, 3) := by decide +kernel
theorem dX0_decrease_91 : decode cX0_decrease 91 = .ok (.iconst 0, 1) := by decide +kernel
theorem dX0_decrease_92 : decode cX0_decrease 92 = .ok (.ireturn, 1) := by decide +kernel
set_option maxRecDepth 20000 in
theorem ggX0_delete_X0_owner : GoodIn wsX0_delete wsX0_owner := goodIn_r _ [6, 1, 7, 8, 9, 5, 10, 11, 12, 13, 14, 15, 16, 17, 18, 19, 20, 21, 22, 23, 24] (by decide +kernel) (by decide +kernel)
set_option maxRecDepth 20000 in
theorem gX0_delete_X0_owner : GoodIn wsX0_delete (wsV RX0 76 RX0 yX0_owner wsX0_owner) := goodIn_app (goodIn_of _ (by decide +kernel)) ggX0_delete_X0_owner
theorem dX0_delete_0 : decode cX0_delete 0 = .ok (.aload_n 0, 1) := by decide +kernel
theorem dX0_delete_1 : decode cX0_delete 1 = .ok (.iload_n 1, 1) := by decide +kernel
theorem dX0_delete_2 : decode cX0_delete 2 = .ok (.invokevirtual 76, 3) := by decide +kernel
theorem dX0_delete_5 : decode cX0_delete 5 = .ok (.istore_n 2, 1) := by decide +kernel
theorem dX0_delete_6 : decode cX0_delete 6 = .ok (.iload_n 2, 1) := by decide +kernel
theorem dX0_delete_7 : decode cX0_delete 7 = .ok (.ifCond .lt 11, 3) := by decide +kernel
theorem dX0_delete_10 : decode cX0_delete 10 = .ok (.aload_n 0, 1) := by decide +kernel
theorem dX0_delete_11 : decode cX0_delete 11 = .ok (.getfield 34, 3) := by decide +kernel
theorem dX0_delete_14 : decode cX0_delete 14 = .ok (.iload_n 1, 1) := by decide +kernel
theorem dX0_delete_15 : decode cX0_delete 15 = .ok (.bipush (-4), 2) := by decide +kernel
theorem dX0_delete_17 : decode cX0_delete 17 = .ok (.iastore, 1) := by decide +kernel
theorem dX0_delete_18 : decode cX0_delete 18 = .ok (.iload_n 2, 1) := by decide +kernel
theorem dX0_delete_19 : decode cX0_delete 19 = .ok (.ireturn, 1) := by decide +kernel
set_option maxRecDepth 20000 in
theorem ggX0_meld_X0_refusalOfPair : GoodIn wsX0_meld wsX0_refusalOfPair := goodIn_r _ [8, 9, 10, 11, 7, 12, 3, 13, 14, 15, 16, 17, 28, 29, 30, 31, 32, 33, 34, 35, 36] (by decide +kernel) (by decide +kernel)
set_option maxRecDepth 20000 in
theorem gX0_meld_X0_refusalOfPair : GoodIn wsX0_meld (wsV RX0 79 RX0 yX0_refusalOfPair wsX0_refusalOfPair) := goodIn_app (goodIn_of _ (by decide +kernel)) ggX0_meld_X0_refusalOfPair
set_option maxRecDepth 20000 in
theorem ggX0_meld_X0_handOverAll : GoodIn wsX0_meld wsX0_handOverAll := goodIn_r _ [21, 22, 23, 28, 29, 30, 31, 32, 33, 34, 35, 36] (by decide +kernel) (by decide +kernel)
set_option maxRecDepth 20000 in
theorem gX0_meld_X0_handOverAll : GoodIn wsX0_meld (wsV RX0 83 RX0 yX0_handOverAll wsX0_handOverAll) := goodIn_app (goodIn_of _ (by decide +kernel)) ggX0_meld_X0_handOverAll
set_option maxRecDepth 20000 in
theorem ggX0_meld_X0_countEntries : GoodIn wsX0_meld wsX0_countEntries := goodIn_r _ [27, 22, 23, 28, 29, 30, 31, 32, 33, 34, 35, 36] (by decide +kernel) (by decide +kernel)
set_option maxRecDepth 20000 in
theorem gX0_meld_X0_countEntries : GoodIn wsX0_meld (wsV RX0 86 RX0 yX0_countEntries wsX0_countEntries) := goodIn_app (goodIn_of _ (by decide +kernel)) ggX0_meld_X0_countEntries
theorem dX0_meld_0 : decode cX0_meld 0 = .ok (.aload_n 0, 1) := by decide +kernel
theorem dX0_meld_1 : decode cX0_meld 1 = .ok (.iload_n 1, 1) := by decide +kernel
theorem dX0_meld_2 : decode cX0_meld 2 = .ok (.iload_n 2, 1) := by decide +kernel
theorem dX0_meld_3 : decode cX0_meld 3 = .ok (.invokevirtual 79, 3) := by decide +kernel
theorem dX0_meld_6 : decode cX0_meld 6 = .ok (.istore_n 3, 1) := by decide +kernel
theorem dX0_meld_7 : decode cX0_meld 7 = .ok (.iload_n 3, 1) := by decide +kernel
theorem dX0_meld_8 : decode cX0_meld 8 = .ok (.ifCond .eq 5, 3) := by decide +kernel
theorem dX0_meld_11 : decode cX0_meld 11 = .ok (.iload_n 3, 1) := by decide +kernel
theorem dX0_meld_12 : decode cX0_meld 12 = .ok (.ireturn, 1) := by decide +kernel
theorem dX0_meld_13 : decode cX0_meld 13 = .ok (.aload_n 0, 1) := by decide +kernel
theorem dX0_meld_14 : decode cX0_meld 14 = .ok (.getfield 9, 3) := by decide +kernel
theorem dX0_meld_17 : decode cX0_meld 17 = .ok (.iload_n 1, 1) := by decide +kernel
theorem dX0_meld_18 : decode cX0_meld 18 = .ok (.iaload, 1) := by decide +kernel
theorem dX0_meld_19 : decode cX0_meld 19 = .ok (.ifCond .ne 27, 3) := by decide +kernel
theorem dX0_meld_22 : decode cX0_meld 22 = .ok (.aload_n 0, 1) := by decide +kernel
theorem dX0_meld_23 : decode cX0_meld 23 = .ok (.getfield 9, 3) := by decide +kernel
theorem dX0_meld_26 : decode cX0_meld 26 = .ok (.iload_n 2, 1) := by decide +kernel
theorem dX0_meld_27 : decode cX0_meld 27 = .ok (.iaload, 1) := by decide +kernel
theorem dX0_meld_28 : decode cX0_meld 28 = .ok (.ifCond .ne 18, 3) := by decide +kernel
theorem dX0_meld_31 : decode cX0_meld 31 = .ok (.aload_n 0, 1) := by decide +kernel
theorem dX0_meld_32 : decode cX0_meld 32 = .ok (.getfield 13, 3) := by decide +kernel
theorem dX0_meld_35 : decode cX0_meld 35 = .ok (.iload_n 1, 1) := by decide +kernel
theorem dX0_meld_36 : decode cX0_meld 36 = .ok (.iaload, 1) := by decide +kernel
theorem dX0_meld_37 : decode cX0_meld 37 = .ok (.aload_n 0, 1) := by decide +kernel
theorem dX0_meld_38 : decode cX0_meld 38 = .ok (.getfield 13, 3) := by decide +kernel
theorem dX0_meld_41 : decode cX0_meld 41 = .ok (.iload_n 2, 1) := by decide +kernel
theorem dX0_meld_42 : decode cX0_meld 42 = .ok (.iaload, 1) := by decide +kernel
theorem dX0_meld_43 : decode cX0_meld 43 = .ok (.if_icmp .eq 6, 3) := by decide +kernel
theorem dX0_meld_46 : decode cX0_meld 46 = .ok (.bipush (-7), 2) := by decide +kernel
theorem dX0_meld_48 : decode cX0_meld 48 = .ok (.ireturn, 1) := by decide +kernel
theorem dX0_meld_49 : decode cX0_meld 49 = .ok (.aload_n 0, 1) := by decide +kernel
theorem dX0_meld_50 : decode cX0_meld 50 = .ok (.iload_n 2, 1) := by decide +kernel
theorem dX0_meld_51 : decode cX0_meld 51 = .ok (.iload_n 1, 1) := by decide +kernel
theorem dX0_meld_52 : decode cX0_meld 52 = .ok (.invokevirtual 83, 3) := by decide +kernel
theorem dX0_meld_55 : decode cX0_meld 55 = .ok (.pop, 1) := by decide +kernel
theorem dX0_meld_56 : decode cX0_meld 56 = .ok (.aload_n 0, 1) := by decide +kernel
theorem dX0_meld_57 : decode cX0_meld 57 = .ok (.getfield 16, 3) := by decide +kernel
theorem dX0_meld_60 : decode cX0_meld 60 = .ok (.iload_n 2, 1) := by decide +kernel
theorem dX0_meld_61 : decode cX0_meld 61 = .ok (.iconst 1, 1) := by decide +kernel
theorem dX0_meld_62 : decode cX0_meld 62 = .ok (.bastore, 1) := by decide +kernel
theorem dX0_meld_63 : decode cX0_meld 63 = .ok (.aload_n 0, 1) := by decide +kernel
theorem dX0_meld_64 : decode cX0_meld 64 = .ok (.iload_n 1, 1) := by decide +kernel
theorem dX0_meld_65 : decode cX0_meld 65 = .ok (.invokevirtual 86, 3) := by decide +kernel
theorem dX0_meld_68 : decode cX0_meld 68 = .ok (.ireturn, 1) := by decide +kernel
set_option maxRecDepth 20000 in
theorem ggX0_drain_X0_refusalOfPair : GoodIn wsX0_drain wsX0_refusalOfPair := goodIn_r _ [11, 12, 13, 14, 10, 15, 16, 17, 18, 19, 20, 21, 52, 53, 54, 55, 56, 57, 58, 59, 60] (by decide +kernel) (by decide +kernel)
set_option maxRecDepth 20000 in
theorem gX0_drain_X0_refusalOfPair : GoodIn wsX0_drain (wsV RX0 79 RX0 yX0_refusalOfPair wsX0_refusalOfPair) := goodIn_app (goodIn_of _ (by decide +kernel)) ggX0_drain_X0_refusalOfPair
set_option maxRecDepth 20000 in
theorem ggX0_drain_X0_countEntries : GoodIn wsX0_drain wsX0_countEntries := goodIn_r _ [25, 26, 6, 52, 53, 54, 55, 56, 57, 58, 59, 60] (by decide +kernel) (by decide +kernel)
set_option maxRecDepth 20000 in
theorem gX0_drain_X0_countEntries : GoodIn wsX0_drain (wsV RX0 86 RX0 yX0_countEntries wsX0_countEntries) := goodIn_app (goodIn_of _ (by decide +kernel)) ggX0_drain_X0_countEntries
set_option maxRecDepth 20000 in
theorem ggX0_drain_X0_findFirst : GoodIn wsX0_drain wsX0_findFirst := goodIn_r _ [30, 26, 6, 31, 32, 33, 34, 10, 35, 5, 36, 37, 38, 39, 40, 41, 52, 53, 54, 55, 56, 57, 58, 59, 60] (by decide +kernel) (by decide +kernel)
set_option maxRecDepth 20000 in
theorem gX0_drain_X0_findFirst : GoodIn wsX0_drain (wsV RX0 50 RX0 yX0_findFirst wsX0_findFirst) := goodIn_app (goodIn_of _ (by decide +kernel)) ggX0_drain_X0_findFirst
set_option maxRecDepth 20000 in
theorem ggX0_drain_X0_isBelowFloor : GoodIn wsX0_drain wsX0_isBelowFloor := goodIn_r _ [45, 31, 46, 36, 37, 10, 38, 39, 40, 41, 52, 53, 54, 55, 56, 57, 58, 59, 60] (by decide +kernel) (by decide +kernel)
set_option maxRecDepth 20000 in
theorem gX0_drain_X0_isBelowFloor : GoodIn wsX0_drain (wsV RX0 46 RX0 yX0_isBelowFloor wsX0_isBelowFloor) := goodIn_app (goodIn_of _ (by decide +kernel)) ggX0_drain_X0_isBelowFloor
set_option maxRecDepth 20000 in
theorem ggX0_drain_X0_raiseFloor : GoodIn wsX0_drain wsX0_raiseFloor := goodIn_r _ [50, 51, 46, 31, 36, 37, 10, 38, 39, 40, 41, 52, 53, 54, 55, 56, 57, 58, 59, 60] (by decide +kernel) (by decide +kernel)
set_option maxRecDepth 20000 in
theorem gX0_drain_X0_raiseFloor : GoodIn wsX0_drain (wsV RX0 62 RX0 yX0_raiseFloor wsX0_raiseFloor) := goodIn_app (goodIn_of _ (by decide +kernel)) ggX0_drain_X0_raiseFloor
theorem dX0_drain_0 : decode cX0_drain 0 = .ok (.aload_n 0, 1) := by decide +kernel
theorem dX0_drain_1 : decode cX0_drain 1 = .ok (.iload_n 1, 1) := by decide +kernel
theorem dX0_drain_2 : decode cX0_drain 2 = .ok (.iload_n 2, 1) := by decide +kernel
theorem dX0_drain_3 : decode cX0_drain 3 = .ok (.invokevirtual 79, 3) := by decide +kernel
theorem dX0_drain_6 : decode cX0_drain 6 = .ok (.istore 4, 2) := by decide +kernel
theorem dX0_drain_8 : decode cX0_drain 8 = .ok (.iload 4, 2) := by decide +kernel
theorem dX0_drain_10 : decode cX0_drain 10 = .ok (.ifCond .eq 6, 3) := by decide +kernel
theorem dX0_drain_13 : decode cX0_drain 13 = .ok (.iload 4, 2) := by decide +kernel
theorem dX0_drain_15 : decode cX0_drain 15 = .ok (.ireturn, 1) := by decide +kernel
theorem dX0_drain_16 : decode cX0_drain 16 = .ok (.iload_n 3, 1) := by decide +kernel
theorem dX0_drain_17 : decode cX0_drain 17 = .ok (.aload_n 0, 1) := by decide +kernel
theorem dX0_drain_18 : decode cX0_drain 18 = .ok (.iload_n 1, 1) := by decide +kernel
theorem dX0_drain_19 : decode cX0_drain 19 = .ok (.invokevirtual 86, 3) := by decide +kernel
theorem dX0_drain_22 : decode cX0_drain 22 = .ok (.invokestatic 89, 3) := by decide +kernel
theorem dX0_drain_25 : decode cX0_drain 25 = .ok (.istore 5, 2) := by decide +kernel
theorem dX0_drain_27 : decode cX0_drain 27 = .ok (.iconst 0, 1) := by decide +kernel
theorem dX0_drain_28 : decode cX0_drain 28 = .ok (.istore 6, 2) := by decide +kernel
theorem dX0_drain_30 : decode cX0_drain 30 = .ok (.iload 6, 2) := by decide +kernel
theorem dX0_drain_32 : decode cX0_drain 32 = .ok (.iload 5, 2) := by decide +kernel
theorem dX0_drain_34 : decode cX0_drain 34 = .ok (.if_icmp .ge 59, 3) := by decide +kernel
theorem dX0_drain_37 : decode cX0_drain 37 = .ok (.aload_n 0, 1) := by decide +kernel
theorem dX0_drain_38 : decode cX0_drain 38 = .ok (.iload_n 1, 1) := by decide +kernel
theorem dX0_drain_39 : decode cX0_drain 39 = .ok (.invokevirtual 50, 3) := by decide +kernel
theorem dX0_drain_42 : decode cX0_drain 42 = .ok (.istore 7, 2) := by decide +kernel
theorem dX0_drain_44 : decode cX0_drain 44 = .ok (.iload 7, 2) := by decide +kernel
theorem dX0_drain_46 : decode cX0_drain 46 = .ok (.ifCond .lt 47, 3) := by decide +kernel
theorem dX0_drain_49 : decode cX0_drain 49 = .ok (.aload_n 0, 1) := by decide +kernel
theorem dX0_drain_50 : decode cX0_drain 50 = .ok (.iload_n 2, 1) := by decide +kernel
theorem dX0_drain_51 : decode cX0_drain 51 = .ok (.aload_n 0, 1) := by decide +kernel
theorem dX0_drain_52 : decode cX0_drain 52 = .ok (.getfield 28, 3) := by decide +kernel
theorem dX0_drain_55 : decode cX0_drain 55 = .ok (.iload 7, 2) := by decide +kernel
theorem dX0_drain_57 : decode cX0_drain 57 = .ok (.laload, 1) := by decide +kernel
theorem dX0_drain_58 : decode cX0_drain 58 = .ok (.invokevirtual 46, 3) := by decide +kernel
theorem dX0_drain_61 : decode cX0_drain 61 = .ok (.ifCond .eq 6, 3) := by decide +kernel
theorem dX0_drain_64 : decode cX0_drain 64 = .ok (.goto 29, 3) := by decide +kernel
theorem dX0_drain_67 : decode cX0_drain 67 = .ok (.aload_n 0, 1) := by decide +kernel
theorem dX0_drain_68 : decode cX0_drain 68 = .ok (.iload_n 1, 1) := by decide +kernel
theorem dX0_drain_69 : decode cX0_drain 69 = .ok (.aload_n 0, 1) := by decide +kernel
theorem dX0_drain_70 : decode cX0_drain 70 = .ok (.getfield 28, 3) := by decide +kernel
theorem dX0_drain_73 : decode cX0_drain 73 = .ok (.iload 7, 2) := by decide +kernel
theorem dX0_drain_75 : decode cX0_drain 75 = .ok (.laload, 1) := by decide +kernel
theorem dX0_drain_76 : decode cX0_drain 76 = .ok (.invokevirtual 62, 3) := by decide +kernel
theorem dX0_drain_79 : decode cX0_drain 79 = .ok (.aload_n 0, 1) := by decide +kernel
theorem dX0_drain_80 : decode cX0_drain 80 = .ok (.getfield 34, 3) := by decide +kernel
theorem dX0_drain_83 : decode cX0_drain 83 = .ok (.iload 7, 2) := by decide +kernel
theorem dX0_drain_85 : decode cX0_drain 85 = .ok (.iload_n 2, 1) := by decide +kernel
theorem dX0_drain_86 : decode cX0_drain 86 = .ok (.iastore, 1) := by decide +kernel
theorem dX0_drain_87 : decode cX0_drain 87 = .ok (.iinc 6 1, 3) := by decide +kernel
theorem dX0_drain_90 : decode cX0_drain 90 = .ok (.goto (-60), 3) := by decide +kernel
theorem dX0_drain_93 : decode cX0_drain 93 = .ok (.iload 6, 2) := by decide +kernel
theorem dX0_drain_95 : decode cX0_drain 95 = .ok (.ireturn, 1) := by decide +kernel
set_option maxRecDepth 20000 in
theorem ggX0_clear_X0_refusalOfHeap : GoodIn wsX0_clear wsX0_refusalOfHeap := goodIn_r _ [7, 8, 9, 10, 11, 6, 12, 13, 20, 21, 22, 23, 24, 25, 26, 27, 28] (by decide +kernel) (by decide +kernel)
set_option maxRecDepth 20000 in
theorem gX0_clear_X0_refusalOfHeap : GoodIn wsX0_clear (wsV RX0 42 RX0 yX0_refusalOfHeap wsX0_refusalOfHeap) := goodIn_app (goodIn_of _ (by decide +kernel)) ggX0_clear_X0_refusalOfHeap
set_option maxRecDepth 20000 in
theorem ggX0_clear_X0_handOverAll : GoodIn wsX0_clear wsX0_handOverAll := goodIn_r _ [17, 18, 19, 20, 21, 22, 23, 24, 25, 26, 27, 28] (by decide +kernel) (by decide +kernel)
set_option maxRecDepth 20000 in
theorem gX0_clear_X0_handOverAll : GoodIn wsX0_clear (wsV RX0 83 RX0 yX0_handOverAll wsX0_handOverAll) := goodIn_app (goodIn_of _ (by decide +kernel)) ggX0_clear_X0_handOverAll
theorem dX0_clear_0 : decode cX0_clear 0 = .ok (.aload_n 0, 1) := by decide +kernel
theorem dX0_clear_1 : decode cX0_clear 1 = .ok (.iload_n 1, 1) := by decide +kernel
theorem dX0_clear_2 : decode cX0_clear 2 = .ok (.invokevirtual 42, 3) := by decide +kernel
theorem dX0_clear_5 : decode cX0_clear 5 = .ok (.istore_n 2, 1) := by decide +kernel
theorem dX0_clear_6 : decode cX0_clear 6 = .ok (.iload_n 2, 1) := by decide +kernel
theorem dX0_clear_7 : decode cX0_clear 7 = .ok (.ifCond .eq 5, 3) := by decide +kernel
theorem dX0_clear_10 : decode cX0_clear 10 = .ok (.iload_n 2, 1) := by decide +kernel
theorem dX0_clear_11 : decode cX0_clear 11 = .ok (.ireturn, 1) := by decide +kernel
theorem dX0_clear_12 : decode cX0_clear 12 = .ok (.aload_n 0, 1) := by decide +kernel
theorem dX0_clear_13 : decode cX0_clear 13 = .ok (.getfield 20, 3) := by decide +kernel
theorem dX0_clear_16 : decode cX0_clear 16 = .ok (.iload_n 1, 1) := by decide +kernel
theorem dX0_clear_17 : decode cX0_clear 17 = .ok (.ldc2_w 40, 3) := by decide +kernel
theorem dX0_clear_20 : decode cX0_clear 20 = .ok (.lastore, 1) := by decide +kernel
theorem dX0_clear_21 : decode cX0_clear 21 = .ok (.aload_n 0, 1) := by decide +kernel
theorem dX0_clear_22 : decode cX0_clear 22 = .ok (.iload_n 1, 1) := by decide +kernel
theorem dX0_clear_23 : decode cX0_clear 23 = .ok (.bipush (-4), 2) := by decide +kernel
theorem dX0_clear_25 : decode cX0_clear 25 = .ok (.invokevirtual 83, 3) := by decide +kernel
theorem dX0_clear_28 : decode cX0_clear 28 = .ok (.ireturn, 1) := by decide +kernel
set_option maxRecDepth 20000 in
theorem ggX0_size_X0_refusalOfHeap : GoodIn wsX0_size wsX0_refusalOfHeap := goodIn_r _ [5, 6, 7, 8, 9, 4, 10, 11, 18, 19, 20, 21, 22, 23, 24, 25, 26] (by decide +kernel) (by decide +kernel)
set_option maxRecDepth 20000 in
theorem gX0_size_X0_refusalOfHeap : GoodIn wsX0_size (wsV RX0 42 RX0 yX0_refusalOfHeap wsX0_refusalOfHeap) := goodIn_app (goodIn_of _ (by decide +kernel)) ggX0_size_X0_refusalOfHeap
set_option maxRecDepth 20000 in
theorem ggX0_size_X0_countEntries : GoodIn wsX0_size wsX0_countEntries := goodIn_r _ [15, 16, 17, 18, 19, 20, 21, 22, 23, 24, 25, 26] (by decide +kernel) (by decide +kernel)
set_option maxRecDepth 20000 in
theorem gX0_size_X0_countEntries : GoodIn wsX0_size (wsV RX0 86 RX0 yX0_countEntries wsX0_countEntries) := goodIn_app (goodIn_of _ (by decide +kernel)) ggX0_size_X0_countEntries
theorem dX0_size_0 : decode cX0_size 0 = .ok (.aload_n 0, 1) := by decide +kernel
theorem dX0_size_1 : decode cX0_size 1 = .ok (.iload_n 1, 1) := by decide +kernel
theorem dX0_size_2 : decode cX0_size 2 = .ok (.invokevirtual 42, 3) := by decide +kernel
theorem dX0_size_5 : decode cX0_size 5 = .ok (.istore_n 2, 1) := by decide +kernel
theorem dX0_size_6 : decode cX0_size 6 = .ok (.iload_n 2, 1) := by decide +kernel
theorem dX0_size_7 : decode cX0_size 7 = .ok (.ifCond .eq 7, 3) := by decide +kernel
theorem dX0_size_10 : decode cX0_size 10 = .ok (.iload_n 2, 1) := by decide +kernel
theorem dX0_size_11 : decode cX0_size 11 = .ok (.goto 8, 3) := by decide +kernel
theorem dX0_size_14 : decode cX0_size 14 = .ok (.aload_n 0, 1) := by decide +kernel
theorem dX0_size_15 : decode cX0_size 15 = .ok (.iload_n 1, 1) := by decide +kernel
theorem dX0_size_16 : decode cX0_size 16 = .ok (.invokevirtual 86, 3) := by decide +kernel
theorem dX0_size_19 : decode cX0_size 19 = .ok (.ireturn, 1) := by decide +kernel
set_option maxRecDepth 20000 in
theorem ggX0_floor_X0_isHeap : GoodIn wsX0_floor wsX0_isHeap := goodIn_r _ [7, 8, 9, 10, 11, 12, 13, 14, 15, 16, 17] (by decide +kernel) (by decide +kernel)
set_option maxRecDepth 20000 in
theorem gX0_floor_X0_isHeap : GoodIn wsX0_floor (wsV RX0 94 RX0 yX0_isHeap wsX0_isHeap) := goodIn_app (goodIn_of _ (by decide +kernel)) ggX0_floor_X0_isHeap
theorem dX0_floor_0 : decode cX0_floor 0 = .ok (.aload_n 0, 1) := by decide +kernel
theorem dX0_floor_1 : decode cX0_floor 1 = .ok (.iload_n 1, 1) := by decide +kernel
theorem dX0_floor_2 : decode cX0_floor 2 = .ok (.invokevirtual 94, 3) := by decide +kernel
theorem dX0_floor_5 : decode cX0_floor 5 = .ok (.ifCond .eq 12, 3) := by decide +kernel
theorem dX0_floor_8 : decode cX0_floor 8 = .ok (.aload_n 0, 1) := by decide +kernel
theorem dX0_floor_9 : decode cX0_floor 9 = .ok (.getfield 20, 3) := by decide +kernel
theorem dX0_floor_12 : decode cX0_floor 12 = .ok (.iload_n 1, 1) := by decide +kernel
theorem dX0_floor_13 : decode cX0_floor 13 = .ok (.laload, 1) := by decide +kernel
theorem dX0_floor_14 : decode cX0_floor 14 = .ok (.goto 6, 3) := by decide +kernel
theorem dX0_floor_17 : decode cX0_floor 17 = .ok (.ldc2_w 40, 3) := by decide +kernel
theorem dX0_floor_20 : decode cX0_floor 20 = .ok (.lreturn, 1) := by decide +kernel
set_option maxRecDepth 20000 in
theorem ggX0_key_X0_refusalOfEntry : GoodIn wsX0_key wsX0_refusalOfEntry := goodIn_r _ [6, 7, 8, 9, 10, 5, 11, 12, 13, 14, 15, 16, 17, 18, 19, 20, 21] (by decide +kernel) (by decide +kernel)
set_option maxRecDepth 20000 in
theorem gX0_key_X0_refusalOfEntry : GoodIn wsX0_key (wsV RX0 69 RX0 yX0_refusalOfEntry wsX0_refusalOfEntry) := goodIn_app (goodIn_of _ (by decide +kernel)) ggX0_key_X0_refusalOfEntry
theorem dX0_key_0 : decode cX0_key 0 = .ok (.aload_n 0, 1) := by decide +kernel
theorem dX0_key_1 : decode cX0_key 1 = .ok (.iload_n 1, 1) := by decide +kernel
theorem dX0_key_2 : decode cX0_key 2 = .ok (.invokevirtual 69, 3) := by decide +kernel
theorem dX0_key_5 : decode cX0_key 5 = .ok (.ifCond .ne 12, 3) := by decide +kernel
theorem dX0_key_8 : decode cX0_key 8 = .ok (.aload_n 0, 1) := by decide +kernel
theorem dX0_key_9 : decode cX0_key 9 = .ok (.getfield 28, 3) := by decide +kernel
theorem dX0_key_12 : decode cX0_key 12 = .ok (.iload_n 1, 1) := by decide +kernel
theorem dX0_key_13 : decode cX0_key 13 = .ok (.laload, 1) := by decide +kernel
theorem dX0_key_14 : decode cX0_key 14 = .ok (.goto 4, 3) := by decide +kernel
theorem dX0_key_17 : decode cX0_key 17 = .ok (.lconst 0, 1) := by decide +kernel
theorem dX0_key_18 : decode cX0_key 18 = .ok (.lreturn, 1) := by decide +kernel
set_option maxRecDepth 20000 in
theorem ggX0_value_X0_refusalOfEntry : GoodIn wsX0_value wsX0_refusalOfEntry := goodIn_r _ [6, 7, 8, 9, 10, 5, 11, 12, 13, 14, 15, 16, 17, 18, 19, 20, 21] (by decide +kernel) (by decide +kernel)
set_option maxRecDepth 20000 in
theorem gX0_value_X0_refusalOfEntry : GoodIn wsX0_value (wsV RX0 69 RX0 yX0_refusalOfEntry wsX0_refusalOfEntry) := goodIn_app (goodIn_of _ (by decide +kernel)) ggX0_value_X0_refusalOfEntry
theorem dX0_value_0 : decode cX0_value 0 = .ok (.aload_n 0, 1) := by decide +kernel
theorem dX0_value_1 : decode cX0_value 1 = .ok (.iload_n 1, 1) := by decide +kernel
theorem dX0_value_2 : decode cX0_value 2 = .ok (.invokevirtual 69, 3) := by decide +kernel
theorem dX0_value_5 : decode cX0_value 5 = .ok (.ifCond .ne 12, 3) := by decide +kernel
theorem dX0_value_8 : decode cX0_value 8 = .ok (.aload_n 0, 1) := by decide +kernel
theorem dX0_value_9 : decode cX0_value 9 = .ok (.getfield 31, 3) := by decide +kernel
theorem dX0_value_12 : decode cX0_value 12 = .ok (.iload_n 1, 1) := by decide +kernel
theorem dX0_value_13 : decode cX0_value 13 = .ok (.iaload, 1) := by decide +kernel
theorem dX0_value_14 : decode cX0_value 14 = .ok (.goto 4, 3) := by decide +kernel
theorem dX0_value_17 : decode cX0_value 17 = .ok (.iconst 0, 1) := by decide +kernel
theorem dX0_value_18 : decode cX0_value 18 = .ok (.ireturn, 1) := by decide +kernel
set_option maxRecDepth 20000 in
theorem ggX0_owner_X0_refusalOfEntry : GoodIn wsX0_owner wsX0_refusalOfEntry := goodIn_r _ [6, 1, 7, 8, 9, 5, 10, 11, 12, 13, 14, 15, 16, 17, 18, 19, 20] (by decide +kernel) (by decide +kernel)
set_option maxRecDepth 20000 in
theorem gX0_owner_X0_refusalOfEntry : GoodIn wsX0_owner (wsV RX0 69 RX0 yX0_refusalOfEntry wsX0_refusalOfEntry) := goodIn_app (goodIn_of _ (by decide +kernel)) ggX0_owner_X0_refusalOfEntry
theorem dX0_owner_0 : decode cX0_owner 0 = .ok (.aload_n 0, 1) := by decide +kernel
theorem dX0_owner_1 : decode cX0_owner 1 = .ok (.iload_n 1, 1) := by decide +kernel
theorem dX0_owner_2 : decode cX0_owner 2 = .ok (.invokevirtual 69, 3) := by decide +kernel
theorem dX0_owner_5 : decode cX0_owner 5 = .ok (.istore_n 2, 1) := by decide +kernel
theorem dX0_owner_6 : decode cX0_owner 6 = .ok (.iload_n 2, 1) := by decide +kernel
theorem dX0_owner_7 : decode cX0_owner 7 = .ok (.ifCond .eq 7, 3) := by decide +kernel
theorem dX0_owner_10 : decode cX0_owner 10 = .ok (.iload_n 2, 1) := by decide +kernel
theorem dX0_owner_11 : decode cX0_owner 11 = .ok (.goto 9, 3) := by decide +kernel
theorem dX0_owner_14 : decode cX0_owner 14 = .ok (.aload_n 0, 1) := by decide +kernel
theorem dX0_owner_15 : decode cX0_owner 15 = .ok (.getfield 34, 3) := by decide +kernel
theorem dX0_owner_18 : decode cX0_owner 18 = .ok (.iload_n 1, 1) := by decide +kernel
theorem dX0_owner_19 : decode cX0_owner 19 = .ok (.iaload, 1) := by decide +kernel
theorem dX0_owner_20 : decode cX0_owner 20 = .ok (.ireturn, 1) := by decide +kernel
set_option maxRecDepth 20000 in
theorem ggX0_before_X0_refusalOfEntry : GoodIn wsX0_before wsX0_refusalOfEntry := goodIn_r _ [6, 1, 7, 8, 9, 5, 10, 11, 28, 29, 30, 31, 32, 33, 34, 35, 36] (by decide +kernel) (by decide +kernel)
set_option maxRecDepth 20000 in
theorem gX0_before_X0_refusalOfEntry : GoodIn wsX0_before (wsV RX0 69 RX0 yX0_refusalOfEntry wsX0_refusalOfEntry) := goodIn_app (goodIn_of _ (by decide +kernel)) ggX0_before_X0_refusalOfEntry
set_option maxRecDepth 20000 in
theorem ggX0_before_X0_countBefore : GoodIn wsX0_before wsX0_countBefore := goodIn_r _ [15, 11, 1, 16, 17, 18, 19, 5, 20, 21, 22, 23, 24, 25, 26, 27, 28, 29, 30, 31, 32, 33, 34, 35, 36] (by decide +kernel) (by decide +kernel)
set_option maxRecDepth 20000 in
theorem gX0_before_X0_countBefore : GoodIn wsX0_before (wsV RX0 98 RX0 yX0_countBefore wsX0_countBefore) := goodIn_app (goodIn_of _ (by decide +kernel)) ggX0_before_X0_countBefore
theorem dX0_before_0 : decode cX0_before 0 = .ok (.aload_n 0, 1) := by decide +kernel
theorem dX0_before_1 : decode cX0_before 1 = .ok (.iload_n 1, 1) := by decide +kernel
theorem dX0_before_2 : decode cX0_before 2 = .ok (.invokevirtual 69, 3) := by decide +kernel
theorem dX0_before_5 : decode cX0_before 5 = .ok (.istore_n 2, 1) := by decide +kernel
theorem dX0_before_6 : decode cX0_before 6 = .ok (.iload_n 2, 1) := by decide +kernel
theorem dX0_before_7 : decode cX0_before 7 = .ok (.ifCond .eq 7, 3) := by decide +kernel
theorem dX0_before_10 : decode cX0_before 10 = .ok (.iload_n 2, 1) := by decide +kernel
theorem dX0_before_11 : decode cX0_before 11 = .ok (.goto 14, 3) := by decide +kernel
theorem dX0_before_14 : decode cX0_before 14 = .ok (.aload_n 0, 1) := by decide +kernel
theorem dX0_before_15 : decode cX0_before 15 = .ok (.aload_n 0, 1) := by decide +kernel
theorem dX0_before_16 : decode cX0_before 16 = .ok (.getfield 34, 3) := by decide +kernel
theorem dX0_before_19 : decode cX0_before 19 = .ok (.iload_n 1, 1) := by decide +kernel
theorem dX0_before_20 : decode cX0_before 20 = .ok (.iaload, 1) := by decide +kernel
theorem dX0_before_21 : decode cX0_before 21 = .ok (.iload_n 1, 1) := by decide +kernel
theorem dX0_before_22 : decode cX0_before 22 = .ok (.invokevirtual 98, 3) := by decide +kernel
theorem dX0_before_25 : decode cX0_before 25 = .ok (.ireturn, 1) := by decide +kernel
theorem dX0_isHeap_0 : decode cX0_isHeap 0 = .ok (.iload_n 1, 1) := by decide +kernel
theorem dX0_isHeap_1 : decode cX0_isHeap 1 = .ok (.ifCond .lt 15, 3) := by decide +kernel
theorem dX0_isHeap_4 : decode cX0_isHeap 4 = .ok (.iload_n 1, 1) := by decide +kernel
theorem dX0_isHeap_5 : decode cX0_isHeap 5 = .ok (.aload_n 0, 1) := by decide +kernel
theorem dX0_isHeap_6 : decode cX0_isHeap 6 = .ok (.getfield 24, 3) := by decide +kernel
theorem dX0_isHeap_9 : decode cX0_isHeap 9 = .ok (.if_icmp .ge 7, 3) := by decide +kernel
theorem dX0_isHeap_12 : decode cX0_isHeap 12 = .ok (.iconst 1, 1) := by decide +kernel
theorem dX0_isHeap_13 : decode cX0_isHeap 13 = .ok (.goto 4, 3) := by decide +kernel
theorem dX0_isHeap_16 : decode cX0_isHeap 16 = .ok (.iconst 0, 1) := by decide +kernel
theorem dX0_isHeap_17 : decode cX0_isHeap 17 = .ok (.ireturn, 1) := by decide +kernel
theorem dX0_isEntry_0 : decode cX0_isEntry 0 = .ok (.iload_n 1, 1) := by decide +kernel
theorem dX0_isEntry_1 : decode cX0_isEntry 1 = .ok (.ifCond .lt 15, 3) := by decide +kernel
theorem dX0_isEntry_4 : decode cX0_isEntry 4 = .ok (.iload_n 1, 1) := by decide +kernel
theorem dX0_isEntry_5 : decode cX0_isEntry 5 = .ok (.aload_n 0, 1) := by decide +kernel
theorem dX0_isEntry_6 : decode cX0_isEntry 6 = .ok (.getfield 37, 3) := by decide +kernel
theorem dX0_isEntry_9 : decode cX0_isEntry 9 = .ok (.if_icmp .ge 7, 3) := by decide +kernel
theorem dX0_isEntry_12 : decode cX0_isEntry 12 = .ok (.iconst 1, 1) := by decide +kernel
theorem dX0_isEntry_13 : decode cX0_isEntry 13 = .ok (.goto 4, 3) := by decide +kernel
theorem dX0_isEntry_16 : decode cX0_isEntry 16 = .ok (.iconst 0, 1) := by decide +kernel
theorem dX0_isEntry_17 : decode cX0_isEntry 17 = .ok (.ireturn, 1) := by decide +kernel
set_option maxRecDepth 20000 in
theorem ggX0_refusalOfHeap_X0_isHeap : GoodIn wsX0_refusalOfHeap wsX0_isHeap := goodIn_r _ [6, 7, 8, 9, 10, 11, 12, 13, 14, 15, 16] (by decide +kernel) (by decide +kernel)
set_option maxRecDepth 20000 in
theorem gX0_refusalOfHeap_X0_isHeap : GoodIn wsX0_refusalOfHeap (wsV RX0 94 RX0 yX0_isHeap wsX0_isHeap) := goodIn_app (goodIn_of _ (by decide +kernel)) ggX0_refusalOfHeap_X0_isHeap
theorem dX0_refusalOfHeap_0 : decode cX0_refusalOfHeap 0 = .ok (.aload_n 0, 1) := by decide +kernel
theorem dX0_refusalOfHeap_1 : decode cX0_refusalOfHeap 1 = .ok (.iload_n 1, 1) := by decide +kernel
theorem dX0_refusalOfHeap_2 : decode cX0_refusalOfHeap 2 = .ok (.invokevirtual 94, 3) := by decide +kernel
theorem dX0_refusalOfHeap_5 : decode cX0_refusalOfHeap 5 = .ok (.ifCond .ne 6, 3) := by decide +kernel
theorem dX0_refusalOfHeap_8 : decode cX0_refusalOfHeap 8 = .ok (.bipush (-2), 2) := by decide +kernel
theorem dX0_refusalOfHeap_10 : decode cX0_refusalOfHeap 10 = .ok (.ireturn, 1) := by decide +kernel
theorem dX0_refusalOfHeap_11 : decode cX0_refusalOfHeap 11 = .ok (.aload_n 0, 1) := by decide +kernel
theorem dX0_refusalOfHeap_12 : decode cX0_refusalOfHeap 12 = .ok (.getfield 16, 3) := by decide +kernel
theorem dX0_refusalOfHeap_15 : decode cX0_refusalOfHeap 15 = .ok (.iload_n 1, 1) := by decide +kernel
theorem dX0_refusalOfHeap_16 : decode cX0_refusalOfHeap 16 = .ok (.baload, 1) := by decide +kernel
theorem dX0_refusalOfHeap_17 : decode cX0_refusalOfHeap 17 = .ok (.ifCond .eq 8, 3) := by decide +kernel
theorem dX0_refusalOfHeap_20 : decode cX0_refusalOfHeap 20 = .ok (.bipush (-3), 2) := by decide +kernel
theorem dX0_refusalOfHeap_22 : decode cX0_refusalOfHeap 22 = .ok (.goto 4, 3) := by decide +kernel
theorem dX0_refusalOfHeap_25 : decode cX0_refusalOfHeap 25 = .ok (.iconst 0, 1) := by decide +kernel
theorem dX0_refusalOfHeap_26 : decode cX0_refusalOfHeap 26 = .ok (.ireturn, 1) := by decide +kernel
set_option maxRecDepth 20000 in
theorem ggX0_refusalOfLastOf_X0_refusalOfHeap : GoodIn wsX0_refusalOfLastOf wsX0_refusalOfHeap := goodIn_r _ [6, 7, 8, 9, 10, 5, 11, 12, 13, 14, 15, 16, 17, 18, 19, 20, 21] (by decide +kernel) (by decide +kernel)
set_option maxRecDepth 20000 in
theorem gX0_refusalOfLastOf_X0_refusalOfHeap : GoodIn wsX0_refusalOfLastOf (wsV RX0 42 RX0 yX0_refusalOfHeap wsX0_refusalOfHeap) := goodIn_app (goodIn_of _ (by decide +kernel)) ggX0_refusalOfLastOf_X0_refusalOfHeap
theorem dX0_refusalOfLastOf_0 : decode cX0_refusalOfLastOf 0 = .ok (.aload_n 0, 1) := by decide +kernel
theorem dX0_refusalOfLastOf_1 : decode cX0_refusalOfLastOf 1 = .ok (.iload_n 1, 1) := by decide +kernel
theorem dX0_refusalOfLastOf_2 : decode cX0_refusalOfLastOf 2 = .ok (.invokevirtual 42, 3) := by decide +kernel
theorem dX0_refusalOfLastOf_5 : decode cX0_refusalOfLastOf 5 = .ok (.istore_n 2, 1) := by decide +kernel
theorem dX0_refusalOfLastOf_6 : decode cX0_refusalOfLastOf 6 = .ok (.iload_n 2, 1) := by decide +kernel
theorem dX0_refusalOfLastOf_7 : decode cX0_refusalOfLastOf 7 = .ok (.ifCond .eq 5, 3) := by decide +kernel
theorem dX0_refusalOfLastOf_10 : decode cX0_refusalOfLastOf 10 = .ok (.iload_n 2, 1) := by decide +kernel
theorem dX0_refusalOfLastOf_11 : decode cX0_refusalOfLastOf 11 = .ok (.ireturn, 1) := by decide +kernel
theorem dX0_refusalOfLastOf_12 : decode cX0_refusalOfLastOf 12 = .ok (.aload_n 0, 1) := by decide +kernel
theorem dX0_refusalOfLastOf_13 : decode cX0_refusalOfLastOf 13 = .ok (.getfield 9, 3) := by decide +kernel
theorem dX0_refusalOfLastOf_16 : decode cX0_refusalOfLastOf 16 = .ok (.iload_n 1, 1) := by decide +kernel
theorem dX0_refusalOfLastOf_17 : decode cX0_refusalOfLastOf 17 = .ok (.iaload, 1) := by decide +kernel
theorem dX0_refusalOfLastOf_18 : decode cX0_refusalOfLastOf 18 = .ok (.iconst 1, 1) := by decide +kernel
theorem dX0_refusalOfLastOf_19 : decode cX0_refusalOfLastOf 19 = .ok (.if_icmp .ne 7, 3) := by decide +kernel
theorem dX0_refusalOfLastOf_22 : decode cX0_refusalOfLastOf 22 = .ok (.iconst 0, 1) := by decide +kernel
theorem dX0_refusalOfLastOf_23 : decode cX0_refusalOfLastOf 23 = .ok (.goto 5, 3) := by decide +kernel
theorem dX0_refusalOfLastOf_26 : decode cX0_refusalOfLastOf 26 = .ok (.bipush (-7), 2) := by decide +kernel
theorem dX0_refusalOfLastOf_28 : decode cX0_refusalOfLastOf 28 = .ok (.ireturn, 1) := by decide +kernel
set_option maxRecDepth 20000 in
theorem ggX0_refusalOfPair_X0_refusalOfHeap : GoodIn wsX0_refusalOfPair wsX0_refusalOfHeap := goodIn_r _ [5, 6, 7, 8, 9, 4, 10, 11, 12, 13, 14, 15, 16, 17, 18, 19, 20] (by decide +kernel) (by decide +kernel)
set_option maxRecDepth 20000 in
theorem gX0_refusalOfPair_X0_refusalOfHeap : GoodIn wsX0_refusalOfPair (wsV RX0 42 RX0 yX0_refusalOfHeap wsX0_refusalOfHeap) := goodIn_app (goodIn_of _ (by decide +kernel)) ggX0_refusalOfPair_X0_refusalOfHeap
theorem dX0_refusalOfPair_0 : decode cX0_refusalOfPair 0 = .ok (.aload_n 0, 1) := by decide +kernel
theorem dX0_refusalOfPair_1 : decode cX0_refusalOfPair 1 = .ok (.iload_n 1, 1) := by decide +kernel
theorem dX0_refusalOfPair_2 : decode cX0_refusalOfPair 2 = .ok (.invokevirtual 42, 3) := by decide +kernel
theorem dX0_refusalOfPair_5 : decode cX0_refusalOfPair 5 = .ok (.istore_n 3, 1) := by decide +kernel
theorem dX0_refusalOfPair_6 : decode cX0_refusalOfPair 6 = .ok (.iload_n 3, 1) := by decide +kernel
theorem dX0_refusalOfPair_7 : decode cX0_refusalOfPair 7 = .ok (.ifCond .ne 9, 3) := by decide +kernel
theorem dX0_refusalOfPair_10 : decode cX0_refusalOfPair 10 = .ok (.aload_n 0, 1) := by decide +kernel
theorem dX0_refusalOfPair_11 : decode cX0_refusalOfPair 11 = .ok (.iload_n 2, 1) := by decide +kernel
theorem dX0_refusalOfPair_12 : decode cX0_refusalOfPair 12 = .ok (.invokevirtual 42, 3) := by decide +kernel
theorem dX0_refusalOfPair_15 : decode cX0_refusalOfPair 15 = .ok (.istore_n 3, 1) := by decide +kernel
theorem dX0_refusalOfPair_16 : decode cX0_refusalOfPair 16 = .ok (.iload_n 3, 1) := by decide +kernel
theorem dX0_refusalOfPair_17 : decode cX0_refusalOfPair 17 = .ok (.ifCond .eq 5, 3) := by decide +kernel
theorem dX0_refusalOfPair_20 : decode cX0_refusalOfPair 20 = .ok (.iload_n 3, 1) := by decide +kernel
theorem dX0_refusalOfPair_21 : decode cX0_refusalOfPair 21 = .ok (.ireturn, 1) := by decide +kernel
theorem dX0_refusalOfPair_22 : decode cX0_refusalOfPair 22 = .ok (.iload_n 1, 1) := by decide +kernel
theorem dX0_refusalOfPair_23 : decode cX0_refusalOfPair 23 = .ok (.iload_n 2, 1) := by decide +kernel
theorem dX0_refusalOfPair_24 : decode cX0_refusalOfPair 24 = .ok (.if_icmp .ne 8, 3) := by decide +kernel
theorem dX0_refusalOfPair_27 : decode cX0_refusalOfPair 27 = .ok (.bipush (-7), 2) := by decide +kernel
theorem dX0_refusalOfPair_29 : decode cX0_refusalOfPair 29 = .ok (.goto 4, 3) := by decide +kernel
theorem dX0_refusalOfPair_32 : decode cX0_refusalOfPair 32 = .ok (.iconst 0, 1) := by decide +kernel
theorem dX0_refusalOfPair_33 : decode cX0_refusalOfPair 33 = .ok (.ireturn, 1) := by decide +kernel
set_option maxRecDepth 20000 in
theorem ggX0_refusalOfEntry_X0_isEntry : GoodIn wsX0_refusalOfEntry wsX0_isEntry := goodIn_r _ [6, 7, 8, 9, 10, 11, 12, 13, 14, 15, 16] (by decide +kernel) (by decide +kernel)
set_option maxRecDepth 20000 in
theorem gX0_refusalOfEntry_X0_isEntry : GoodIn wsX0_refusalOfEntry (wsV RX0 101 RX0 yX0_isEntry wsX0_isEntry) := goodIn_app (goodIn_of _ (by decide +kernel)) ggX0_refusalOfEntry_X0_isEntry
theorem dX0_refusalOfEntry_0 : decode cX0_refusalOfEntry 0 = .ok (.aload_n 0, 1) := by decide +kernel
theorem dX0_refusalOfEntry_1 : decode cX0_refusalOfEntry 1 = .ok (.iload_n 1, 1) := by decide +kernel
theorem dX0_refusalOfEntry_2 : decode cX0_refusalOfEntry 2 = .ok (.invokevirtual 101, 3) := by decide +kernel
theorem dX0_refusalOfEntry_5 : decode cX0_refusalOfEntry 5 = .ok (.ifCond .ne 6, 3) := by decide +kernel
theorem dX0_refusalOfEntry_8 : decode cX0_refusalOfEntry 8 = .ok (.bipush (-2), 2) := by decide +kernel
theorem dX0_refusalOfEntry_10 : decode cX0_refusalOfEntry 10 = .ok (.ireturn, 1) := by decide +kernel
theorem dX0_refusalOfEntry_11 : decode cX0_refusalOfEntry 11 = .ok (.aload_n 0, 1) := by decide +kernel
theorem dX0_refusalOfEntry_12 : decode cX0_refusalOfEntry 12 = .ok (.getfield 34, 3) := by decide +kernel
theorem dX0_refusalOfEntry_15 : decode cX0_refusalOfEntry 15 = .ok (.iload_n 1, 1) := by decide +kernel
theorem dX0_refusalOfEntry_16 : decode cX0_refusalOfEntry 16 = .ok (.iaload, 1) := by decide +kernel
theorem dX0_refusalOfEntry_17 : decode cX0_refusalOfEntry 17 = .ok (.bipush (-4), 2) := by decide +kernel
theorem dX0_refusalOfEntry_19 : decode cX0_refusalOfEntry 19 = .ok (.if_icmp .ne 8, 3) := by decide +kernel
theorem dX0_refusalOfEntry_22 : decode cX0_refusalOfEntry 22 = .ok (.bipush (-4), 2) := by decide +kernel
theorem dX0_refusalOfEntry_24 : decode cX0_refusalOfEntry 24 = .ok (.goto 4, 3) := by decide +kernel
theorem dX0_refusalOfEntry_27 : decode cX0_refusalOfEntry 27 = .ok (.iconst 0, 1) := by decide +kernel
theorem dX0_refusalOfEntry_28 : decode cX0_refusalOfEntry 28 = .ok (.ireturn, 1) := by decide +kernel
theorem dX0_weight_0 : decode cX0_weight 0 = .ok (.iload_n 0, 1) := by decide +kernel
theorem dX0_weight_1 : decode cX0_weight 1 = .ok (.tableswitch 45 1 3 #[27, 33, 39], 27) := by decide +kernel
theorem dX0_weight_28 : decode cX0_weight 28 = .ok (.ldc2_w 104, 3) := by decide +kernel
theorem dX0_weight_31 : decode cX0_weight 31 = .ok (.lload_n 1, 1) := by decide +kernel
theorem dX0_weight_32 : decode cX0_weight 32 = .ok (.lsub, 1) := by decide +kernel
theorem dX0_weight_33 : decode cX0_weight 33 = .ok (.lreturn, 1) := by decide +kernel
theorem dX0_weight_34 : decode cX0_weight 34 = .ok (.lload_n 1, 1) := by decide +kernel
theorem dX0_weight_35 : decode cX0_weight 35 = .ok (.ldc2_w 40, 3) := by decide +kernel
theorem dX0_weight_38 : decode cX0_weight 38 = .ok (.lxor, 1) := by decide +kernel
theorem dX0_weight_39 : decode cX0_weight 39 = .ok (.lreturn, 1) := by decide +kernel
theorem dX0_weight_40 : decode cX0_weight 40 = .ok (.lload_n 1, 1) := by decide +kernel
theorem dX0_weight_41 : decode cX0_weight 41 = .ok (.ldc2_w 106, 3) := by decide +kernel
theorem dX0_weight_44 : decode cX0_weight 44 = .ok (.land, 1) := by decide +kernel
theorem dX0_weight_45 : decode cX0_weight 45 = .ok (.lreturn, 1) := by decide +kernel
theorem dX0_weight_46 : decode cX0_weight 46 = .ok (.lload_n 1, 1) := by decide +kernel
theorem dX0_weight_47 : decode cX0_weight 47 = .ok (.lreturn, 1) := by decide +kernel
set_option maxRecDepth 20000 in
theorem ggX0_isBelowFloor_X0_weight : GoodIn wsX0_isBelowFloor wsX0_weight := goodIn_r _ [6, 7, 8, 9] (by decide +kernel) (by decide +kernel)
set_option maxRecDepth 20000 in
theorem gX0_isBelowFloor_X0_weight : GoodIn wsX0_isBelowFloor (va_wsS RX0 72 yX0_weight wsX0_weight) := goodIn_app (goodIn_of _ (by decide +kernel)) ggX0_isBelowFloor_X0_weight
theorem dX0_isBelowFloor_0 : decode cX0_isBelowFloor 0 = .ok (.aload_n 0, 1) := by decide +kernel
theorem dX0_isBelowFloor_1 : decode cX0_isBelowFloor 1 = .ok (.getfield 13, 3) := by decide +kernel
theorem dX0_isBelowFloor_4 : decode cX0_isBelowFloor 4 = .ok (.iload_n 1, 1) := by decide +kernel
theorem dX0_isBelowFloor_5 : decode cX0_isBelowFloor 5 = .ok (.iaload, 1) := by decide +kernel
theorem dX0_isBelowFloor_6 : decode cX0_isBelowFloor 6 = .ok (.lload_n 2, 1) := by decide +kernel
theorem dX0_isBelowFloor_7 : decode cX0_isBelowFloor 7 = .ok (.invokestatic 72, 3) := by decide +kernel
theorem dX0_isBelowFloor_10 : decode cX0_isBelowFloor 10 = .ok (.aload_n 0, 1) := by decide +kernel
theorem dX0_isBelowFloor_11 : decode cX0_isBelowFloor 11 = .ok (.getfield 20, 3) := by decide +kernel
theorem dX0_isBelowFloor_14 : decode cX0_isBelowFloor 14 = .ok (.iload_n 1, 1) := by decide +kernel
theorem dX0_isBelowFloor_15 : decode cX0_isBelowFloor 15 = .ok (.laload, 1) := by decide +kernel
theorem dX0_isBelowFloor_16 : decode cX0_isBelowFloor 16 = .ok (.lcmp, 1) := by decide +kernel
theorem dX0_isBelowFloor_17 : decode cX0_isBelowFloor 17 = .ok (.ifCond .ge 7, 3) := by decide +kernel
theorem dX0_isBelowFloor_20 : decode cX0_isBelowFloor 20 = .ok (.iconst 1, 1) := by decide +kernel
theorem dX0_isBelowFloor_21 : decode cX0_isBelowFloor 21 = .ok (.goto 4, 3) := by decide +kernel
theorem dX0_isBelowFloor_24 : decode cX0_isBelowFloor 24 = .ok (.iconst 0, 1) := by decide +kernel
theorem dX0_isBelowFloor_25 : decode cX0_isBelowFloor 25 = .ok (.ireturn, 1) := by decide +kernel
set_option maxRecDepth 20000 in
theorem ggX0_raiseFloor_X0_weight : GoodIn wsX0_raiseFloor wsX0_weight := goodIn_r _ [7, 8, 9, 10] (by decide +kernel) (by decide +kernel)
set_option maxRecDepth 20000 in
theorem gX0_raiseFloor_X0_weight : GoodIn wsX0_raiseFloor (va_wsS RX0 72 yX0_weight wsX0_weight) := goodIn_app (goodIn_of _ (by decide +kernel)) ggX0_raiseFloor_X0_weight
theorem dX0_raiseFloor_0 : decode cX0_raiseFloor 0 = .ok (.aload_n 0, 1) := by decide +kernel
theorem dX0_raiseFloor_1 : decode cX0_raiseFloor 1 = .ok (.getfield 9, 3) := by decide +kernel
theorem dX0_raiseFloor_4 : decode cX0_raiseFloor 4 = .ok (.iload_n 1, 1) := by decide +kernel
theorem dX0_raiseFloor_5 : decode cX0_raiseFloor 5 = .ok (.iaload, 1) := by decide +kernel
theorem dX0_raiseFloor_6 : decode cX0_raiseFloor 6 = .ok (.iconst 2, 1) := by decide +kernel
theorem dX0_raiseFloor_7 : decode cX0_raiseFloor 7 = .ok (.if_icmp .ne 19, 3) := by decide +kernel
theorem dX0_raiseFloor_10 : decode cX0_raiseFloor 10 = .ok (.aload_n 0, 1) := by decide +kernel
theorem dX0_raiseFloor_11 : decode cX0_raiseFloor 11 = .ok (.getfield 20, 3) := by decide +kernel
theorem dX0_raiseFloor_14 : decode cX0_raiseFloor 14 = .ok (.iload_n 1, 1) := by decide +kernel
theorem dX0_raiseFloor_15 : decode cX0_raiseFloor 15 = .ok (.aload_n 0, 1) := by decide +kernel
theorem dX0_raiseFloor_16 : decode cX0_raiseFloor 16 = .ok (.getfield 13, 3) := by decide +kernel
theorem dX0_raiseFloor_19 : decode cX0_raiseFloor 19 = .ok (.iload_n 1, 1) := by decide +kernel
theorem dX0_raiseFloor_20 : decode cX0_raiseFloor 20 = .ok (.iaload, 1) := by decide +kernel
theorem dX0_raiseFloor_21 : decode cX0_raiseFloor 21 = .ok (.lload_n 2, 1) := by decide +kernel
theorem dX0_raiseFloor_22 : decode cX0_raiseFloor 22 = .ok (.invokestatic 72, 3) := by decide +kernel
theorem dX0_raiseFloor_25 : decode cX0_raiseFloor 25 = .ok (.lastore, 1) := by decide +kernel
theorem dX0_raiseFloor_26 : decode cX0_raiseFloor 26 = .ok (.return_, 1) := by decide +kernel
set_option maxRecDepth 20000 in
theorem ggX0_isBefore_X0_weight : GoodIn wsX0_isBefore wsX0_weight := goodIn_r _ [5, 6, 7, 8] (by decide +kernel) (by decide +kernel)
set_option maxRecDepth 20000 in
theorem gX0_isBefore_X0_weight : GoodIn wsX0_isBefore (va_wsS RX0 72 yX0_weight wsX0_weight) := goodIn_app (goodIn_of _ (by decide +kernel)) ggX0_isBefore_X0_weight
theorem dX0_isBefore_0 : decode cX0_isBefore 0 = .ok (.iload_n 1, 1) := by decide +kernel
theorem dX0_isBefore_1 : decode cX0_isBefore 1 = .ok (.aload_n 0, 1) := by decide +kernel
theorem dX0_isBefore_2 : decode cX0_isBefore 2 = .ok (.getfield 28, 3) := by decide +kernel
theorem dX0_isBefore_5 : decode cX0_isBefore 5 = .ok (.iload_n 2, 1) := by decide +kernel
theorem dX0_isBefore_6 : decode cX0_isBefore 6 = .ok (.laload, 1) := by decide +kernel
theorem dX0_isBefore_7 : decode cX0_isBefore 7 = .ok (.invokestatic 72, 3) := by decide +kernel
theorem dX0_isBefore_10 : decode cX0_isBefore 10 = .ok (.lstore 4, 2) := by decide +kernel
theorem dX0_isBefore_12 : decode cX0_isBefore 12 = .ok (.iload_n 1, 1) := by decide +kernel
theorem dX0_isBefore_13 : decode cX0_isBefore 13 = .ok (.aload_n 0, 1) := by decide +kernel
theorem dX0_isBefore_14 : decode cX0_isBefore 14 = .ok (.getfield 28, 3) := by decide +kernel
theorem dX0_isBefore_17 : decode cX0_isBefore 17 = .ok (.iload_n 3, 1) := by decide +kernel
theorem dX0_isBefore_18 : decode cX0_isBefore 18 = .ok (.laload, 1) := by decide +kernel
theorem dX0_isBefore_19 : decode cX0_isBefore 19 = .ok (.invokestatic 72, 3) := by decide +kernel
theorem dX0_isBefore_22 : decode cX0_isBefore 22 = .ok (.lstore 6, 2) := by decide +kernel
theorem dX0_isBefore_24 : decode cX0_isBefore 24 = .ok (.lload 4, 2) := by decide +kernel
theorem dX0_isBefore_26 : decode cX0_isBefore 26 = .ok (.lload 6, 2) := by decide +kernel
theorem dX0_isBefore_28 : decode cX0_isBefore 28 = .ok (.lcmp, 1) := by decide +kernel
theorem dX0_isBefore_29 : decode cX0_isBefore 29 = .ok (.ifCond .lt 16, 3) := by decide +kernel
theorem dX0_isBefore_32 : decode cX0_isBefore 32 = .ok (.lload 4, 2) := by decide +kernel
theorem dX0_isBefore_34 : decode cX0_isBefore 34 = .ok (.lload 6, 2) := by decide +kernel
theorem dX0_isBefore_36 : decode cX0_isBefore 36 = .ok (.lcmp, 1) := by decide +kernel
theorem dX0_isBefore_37 : decode cX0_isBefore 37 = .ok (.ifCond .ne 12, 3) := by decide +kernel
theorem dX0_isBefore_40 : decode cX0_isBefore 40 = .ok (.iload_n 2, 1) := by decide +kernel
theorem dX0_isBefore_41 : decode cX0_isBefore 41 = .ok (.iload_n 3, 1) := by decide +kernel
theorem dX0_isBefore_42 : decode cX0_isBefore 42 = .ok (.if_icmp .ge 7, 3) := by decide +kernel
theorem dX0_isBefore_45 : decode cX0_isBefore 45 = .ok (.iconst 1, 1) := by decide +kernel
theorem dX0_isBefore_46 : decode cX0_isBefore 46 = .ok (.goto 4, 3) := by decide +kernel
theorem dX0_isBefore_49 : decode cX0_isBefore 49 = .ok (.iconst 0, 1) := by decide +kernel
theorem dX0_isBefore_50 : decode cX0_isBefore 50 = .ok (.ireturn, 1) := by decide +kernel
set_option maxRecDepth 20000 in
theorem ggX0_findFirst_X0_isBefore : GoodIn wsX0_findFirst wsX0_isBefore := goodIn_r _ [8, 9, 10, 11, 7, 12, 13, 14, 15, 16, 17, 18, 19, 20, 21, 22, 23, 24] (by decide +kernel) (by decide +kernel)
set_option maxRecDepth 20000 in
theorem gX0_findFirst_X0_isBefore : GoodIn wsX0_findFirst (wsV RX0 108 RX0 yX0_isBefore wsX0_isBefore) := goodIn_app (goodIn_of _ (by decide +kernel)) ggX0_findFirst_X0_isBefore
theorem dX0_findFirst_0 : decode cX0_findFirst 0 = .ok (.iconst (-1), 1) := by decide +kernel
theorem dX0_findFirst_1 : decode cX0_findFirst 1 = .ok (.istore_n 2, 1) := by decide +kernel
theorem dX0_findFirst_2 : decode cX0_findFirst 2 = .ok (.iconst 0, 1) := by decide +kernel
theorem dX0_findFirst_3 : decode cX0_findFirst 3 = .ok (.istore_n 3, 1) := by decide +kernel
theorem dX0_findFirst_4 : decode cX0_findFirst 4 = .ok (.iload_n 3, 1) := by decide +kernel
theorem dX0_findFirst_5 : decode cX0_findFirst 5 = .ok (.aload_n 0, 1) := by decide +kernel
theorem dX0_findFirst_6 : decode cX0_findFirst 6 = .ok (.getfield 37, 3) := by decide +kernel
theorem dX0_findFirst_9 : decode cX0_findFirst 9 = .ok (.if_icmp .ge 41, 3) := by decide +kernel
theorem dX0_findFirst_12 : decode cX0_findFirst 12 = .ok (.aload_n 0, 1) := by decide +kernel
theorem dX0_findFirst_13 : decode cX0_findFirst 13 = .ok (.getfield 34, 3) := by decide +kernel
theorem dX0_findFirst_16 : decode cX0_findFirst 16 = .ok (.iload_n 3, 1) := by decide +kernel
theorem dX0_findFirst_17 : decode cX0_findFirst 17 = .ok (.iaload, 1) := by decide +kernel
theorem dX0_findFirst_18 : decode cX0_findFirst 18 = .ok (.iload_n 1, 1) := by decide +kernel
theorem dX0_findFirst_19 : decode cX0_findFirst 19 = .ok (.if_icmp .ne 25, 3) := by decide +kernel
theorem dX0_findFirst_22 : decode cX0_findFirst 22 = .ok (.iload_n 2, 1) := by decide +kernel
theorem dX0_findFirst_23 : decode cX0_findFirst 23 = .ok (.iconst (-1), 1) := by decide +kernel
theorem dX0_findFirst_24 : decode cX0_findFirst 24 = .ok (.if_icmp .eq 18, 3) := by decide +kernel
theorem dX0_findFirst_27 : decode cX0_findFirst 27 = .ok (.aload_n 0, 1) := by decide +kernel
theorem dX0_findFirst_28 : decode cX0_findFirst 28 = .ok (.aload_n 0, 1) := by decide +kernel
theorem dX0_findFirst_29 : decode cX0_findFirst 29 = .ok (.getfield 13, 3) := by decide +kernel
theorem dX0_findFirst_32 : decode cX0_findFirst 32 = .ok (.iload_n 1, 1) := by decide +kernel
theorem dX0_findFirst_33 : decode cX0_findFirst 33 = .ok (.iaload, 1) := by decide +kernel
theorem dX0_findFirst_34 : decode cX0_findFirst 34 = .ok (.iload_n 3, 1) := by decide +kernel
theorem dX0_findFirst_35 : decode cX0_findFirst 35 = .ok (.iload_n 2, 1) := by decide +kernel
theorem dX0_findFirst_36 : decode cX0_findFirst 36 = .ok (.invokevirtual 108, 3) := by decide +kernel
theorem dX0_findFirst_39 : decode cX0_findFirst 39 = .ok (.ifCond .eq 5, 3) := by decide +kernel
theorem dX0_findFirst_42 : decode cX0_findFirst 42 = .ok (.iload_n 3, 1) := by decide +kernel
theorem dX0_findFirst_43 : decode cX0_findFirst 43 = .ok (.istore_n 2, 1) := by decide +kernel
theorem dX0_findFirst_44 : decode cX0_findFirst 44 = .ok (.iinc 3 1, 3) := by decide +kernel
theorem dX0_findFirst_47 : decode cX0_findFirst 47 = .ok (.goto (-43), 3) := by decide +kernel
theorem dX0_findFirst_50 : decode cX0_findFirst 50 = .ok (.iload_n 2, 1) := by decide +kernel
theorem dX0_findFirst_51 : decode cX0_findFirst 51 = .ok (.ireturn, 1) := by decide +kernel
set_option maxRecDepth 20000 in
theorem ggX0_findLast_X0_isBefore : GoodIn wsX0_findLast wsX0_isBefore := goodIn_r _ [8, 9, 10, 11, 7, 12, 13, 14, 15, 16, 17, 18, 19, 20, 21, 22, 23, 24] (by decide +kernel) (by decide +kernel)
set_option maxRecDepth 20000 in
theorem gX0_findLast_X0_isBefore : GoodIn wsX0_findLast (wsV RX0 108 RX0 yX0_isBefore wsX0_isBefore) := goodIn_app (goodIn_of _ (by decide +kernel)) ggX0_findLast_X0_isBefore
theorem dX0_findLast_0 : decode cX0_findLast 0 = .ok (.iconst (-1), 1) := by decide +kernel
theorem dX0_findLast_1 : decode cX0_findLast 1 = .ok (.istore_n 2, 1) := by decide +kernel
theorem dX0_findLast_2 : decode cX0_findLast 2 = .ok (.iconst 0, 1) := by decide +kernel
theorem dX0_findLast_3 : decode cX0_findLast 3 = .ok (.istore_n 3, 1) := by decide +kernel
theorem dX0_findLast_4 : decode cX0_findLast 4 = .ok (.iload_n 3, 1) := by decide +kernel
theorem dX0_findLast_5 : decode cX0_findLast 5 = .ok (.aload_n 0, 1) := by decide +kernel
theorem dX0_findLast_6 : decode cX0_findLast 6 = .ok (.getfield 37, 3) := by decide +kernel
theorem dX0_findLast_9 : decode cX0_findLast 9 = .ok (.if_icmp .ge 41, 3) := by decide +kernel
theorem dX0_findLast_12 : decode cX0_findLast 12 = .ok (.aload_n 0, 1) := by decide +kernel
theorem dX0_findLast_13 : decode cX0_findLast 13 = .ok (.getfield 34, 3) := by decide +kernel
theorem dX0_findLast_16 : decode cX0_findLast 16 = .ok (.iload_n 3, 1) := by decide +kernel
theorem dX0_findLast_17 : decode cX0_findLast 17 = .ok (.iaload, 1) := by decide +kernel
theorem dX0_findLast_18 : decode cX0_findLast 18 = .ok (.iload_n 1, 1) := by decide +kernel
theorem dX0_findLast_19 : decode cX0_findLast 19 = .ok (.if_icmp .ne 25, 3) := by decide +kernel
theorem dX0_findLast_22 : decode cX0_findLast 22 = .ok (.iload_n 2, 1) := by decide +kernel
theorem dX0_findLast_23 : decode cX0_findLast 23 = .ok (.iconst (-1), 1) := by decide +kernel
theorem dX0_findLast_24 : decode cX0_findLast 24 = .ok (.if_icmp .eq 18, 3) := by decide +kernel
theorem dX0_findLast_27 : decode cX0_findLast 27 = .ok (.aload_n 0, 1) := by decide +kernel
theorem dX0_findLast_28 : decode cX0_findLast 28 = .ok (.aload_n 0, 1) := by decide +kernel
theorem dX0_findLast_29 : decode cX0_findLast 29 = .ok (.getfield 13, 3) := by decide +kernel
theorem dX0_findLast_32 : decode cX0_findLast 32 = .ok (.iload_n 1, 1) := by decide +kernel
theorem dX0_findLast_33 : decode cX0_findLast 33 = .ok (.iaload, 1) := by decide +kernel
theorem dX0_findLast_34 : decode cX0_findLast 34 = .ok (.iload_n 2, 1) := by decide +kernel
theorem dX0_findLast_35 : decode cX0_findLast 35 = .ok (.iload_n 3, 1) := by decide +kernel
theorem dX0_findLast_36 : decode cX0_findLast 36 = .ok (.invokevirtual 108, 3) := by decide +kernel
theorem dX0_findLast_39 : decode cX0_findLast 39 = .ok (.ifCond .eq 5, 3) := by decide +kernel
theorem dX0_findLast_42 : decode cX0_findLast 42 = .ok (.iload_n 3, 1) := by decide +kernel
theorem dX0_findLast_43 : decode cX0_findLast 43 = .ok (.istore_n 2, 1) := by decide +kernel
theorem dX0_findLast_44 : decode cX0_findLast 44 = .ok (.iinc 3 1, 3) := by decide +kernel
theorem dX0_findLast_47 : decode cX0_findLast 47 = .ok (.goto (-43), 3) := by decide +kernel
theorem dX0_findLast_50 : decode cX0_findLast 50 = .ok (.iload_n 2, 1) := by decide +kernel
theorem dX0_findLast_51 : decode cX0_findLast 51 = .ok (.ireturn, 1) := by decide +kernel
theorem dX0_countEntries_0 : decode cX0_countEntries 0 = .ok (.iconst 0, 1) := by decide +kernel
theorem dX0_countEntries_1 : decode cX0_countEntries 1 = .ok (.istore_n 2, 1) := by decide +kernel
theorem dX0_countEntries_2 : decode cX0_countEntries 2 = .ok (.iconst 0, 1) := by decide +kernel
theorem dX0_countEntries_3 : decode cX0_countEntries 3 = .ok (.istore_n 3, 1) := by decide +kernel
theorem dX0_countEntries_4 : decode cX0_countEntries 4 = .ok (.iload_n 3, 1) := by decide +kernel
theorem dX0_countEntries_5 : decode cX0_countEntries 5 = .ok (.aload_n 0, 1) := by decide +kernel
theorem dX0_countEntries_6 : decode cX0_countEntries 6 = .ok (.getfield 37, 3) := by decide +kernel
theorem dX0_countEntries_9 : decode cX0_countEntries 9 = .ok (.if_icmp .ge 22, 3) := by decide +kernel
theorem dX0_countEntries_12 : decode cX0_countEntries 12 = .ok (.aload_n 0, 1) := by decide +kernel
theorem dX0_countEntries_13 : decode cX0_countEntries 13 = .ok (.getfield 34, 3) := by decide +kernel
theorem dX0_countEntries_16 : decode cX0_countEntries 16 = .ok (.iload_n 3, 1) := by decide +kernel
theorem dX0_countEntries_17 : decode cX0_countEntries 17 = .ok (.iaload, 1) := by decide +kernel
theorem dX0_countEntries_18 : decode cX0_countEntries 18 = .ok (.iload_n 1, 1) := by decide +kernel
theorem dX0_countEntries_19 : decode cX0_countEntries 19 = .ok (.if_icmp .ne 6, 3) := by decide +kernel
theorem dX0_countEntries_22 : decode cX0_countEntries 22 = .ok (.iinc 2 1, 3) := by decide +kernel
theorem dX0_countEntries_25 : decode cX0_countEntries 25 = .ok (.iinc 3 1, 3) := by decide +kernel
theorem dX0_countEntries_28 : decode cX0_countEntries 28 = .ok (.goto (-24), 3) := by decide +kernel
theorem dX0_countEntries_31 : decode cX0_countEntries 31 = .ok (.iload_n 2, 1) := by decide +kernel
theorem dX0_countEntries_32 : decode cX0_countEntries 32 = .ok (.ireturn, 1) := by decide +kernel
set_option maxRecDepth 20000 in
theorem ggX0_countBefore_X0_isBefore : GoodIn wsX0_countBefore wsX0_isBefore := goodIn_r _ [8, 9, 10, 11, 7, 12, 13, 14, 15, 16, 17, 18, 19, 20, 21, 22, 23, 24] (by decide +kernel) (by decide +kernel)
set_option maxRecDepth 20000 in
theorem gX0_countBefore_X0_isBefore : GoodIn wsX0_countBefore (wsV RX0 108 RX0 yX0_isBefore wsX0_isBefore) := goodIn_app (goodIn_of _ (by decide +kernel)) ggX0_countBefore_X0_isBefore
theorem dX0_countBefore_0 : decode cX0_countBefore 0 = .ok (.iconst 0, 1) := by decide +kernel
theorem dX0_countBefore_1 : decode cX0_countBefore 1 = .ok (.istore_n 3, 1) := by decide +kernel
theorem dX0_countBefore_2 : decode cX0_countBefore 2 = .ok (.iconst 0, 1) := by decide +kernel
theorem dX0_countBefore_3 : decode cX0_countBefore 3 = .ok (.istore 4, 2) := by decide +kernel
theorem dX0_countBefore_5 : decode cX0_countBefore 5 = .ok (.iload 4, 2) := by decide +kernel
theorem dX0_countBefore_7 : decode cX0_countBefore 7 = .ok (.aload_n 0, 1) := by decide +kernel
theorem dX0_countBefore_8 : decode cX0_countBefore 8 = .ok (.getfield 37, 3) := by decide +kernel
theorem dX0_countBefore_11 : decode cX0_countBefore 11 = .ok (.if_icmp .ge 39, 3) := by decide +kernel
theorem dX0_countBefore_14 : decode cX0_countBefore 14 = .ok (.aload_n 0, 1) := by decide +kernel
theorem dX0_countBefore_15 : decode cX0_countBefore 15 = .ok (.getfield 34, 3) := by decide +kernel
theorem dX0_countBefore_18 : decode cX0_countBefore 18 = .ok (.iload 4, 2) := by decide +kernel
theorem dX0_countBefore_20 : decode cX0_countBefore 20 = .ok (.iaload, 1) := by decide +kernel
theorem dX0_countBefore_21 : decode cX0_countBefore 21 = .ok (.iload_n 1, 1) := by decide +kernel
theorem dX0_countBefore_22 : decode cX0_countBefore 22 = .ok (.if_icmp .ne 22, 3) := by decide +kernel
theorem dX0_countBefore_25 : decode cX0_countBefore 25 = .ok (.aload_n 0, 1) := by decide +kernel
theorem dX0_countBefore_26 : decode cX0_countBefore 26 = .ok (.aload_n 0, 1) := by decide +kernel
theorem dX0_countBefore_27 : decode cX0_countBefore 27 = .ok (.getfield 13, 3) := by decide +kernel
theorem dX0_countBefore_30 : decode cX0_countBefore 30 = .ok (.iload_n 1, 1) := by decide +kernel
theorem dX0_countBefore_31 : decode cX0_countBefore 31 = .ok (.iaload, 1) := by decide +kernel
theorem dX0_countBefore_32 : decode cX0_countBefore 32 = .ok (.iload 4, 2) := by decide +kernel
theorem dX0_countBefore_34 : decode cX0_countBefore 34 = .ok (.iload_n 2, 1) := by decide +kernel
theorem dX0_countBefore_35 : decode cX0_countBefore 35 = .ok (.invokevirtual 108, 3) := by decide +kernel
theorem dX0_countBefore_38 : decode cX0_countBefore 38 = .ok (.ifCond .eq 6, 3) := by decide +kernel
theorem dX0_countBefore_41 : decode cX0_countBefore 41 = .ok (.iinc 3 1, 3) := by decide +kernel
theorem dX0_countBefore_44 : decode cX0_countBefore 44 = .ok (.iinc 4 1, 3) := by decide +kernel
theorem dX0_countBefore_47 : decode cX0_countBefore 47 = .ok (.goto (-42), 3) := by decide +kernel
theorem dX0_countBefore_50 : decode cX0_countBefore 50 = .ok (.iload_n 3, 1) := by decide +kernel
theorem dX0_countBefore_51 : decode cX0_countBefore 51 = .ok (.ireturn, 1) := by decide +kernel
theorem dX0_handOverAll_0 : decode cX0_handOverAll 0 = .ok (.iconst 0, 1) := by decide +kernel
theorem dX0_handOverAll_1 : decode cX0_handOverAll 1 = .ok (.istore_n 3, 1) := by decide +kernel
theorem dX0_handOverAll_2 : decode cX0_handOverAll 2 = .ok (.iconst 0, 1) := by decide +kernel
theorem dX0_handOverAll_3 : decode cX0_handOverAll 3 = .ok (.istore 4, 2) := by decide +kernel
theorem dX0_handOverAll_5 : decode cX0_handOverAll 5 = .ok (.iload 4, 2) := by decide +kernel
theorem dX0_handOverAll_7 : decode cX0_handOverAll 7 = .ok (.aload_n 0, 1) := by decide +kernel
theorem dX0_handOverAll_8 : decode cX0_handOverAll 8 = .ok (.getfield 37, 3) := by decide +kernel
theorem dX0_handOverAll_11 : decode cX0_handOverAll 11 = .ok (.if_icmp .ge 31, 3) := by decide +kernel
theorem dX0_handOverAll_14 : decode cX0_handOverAll 14 = .ok (.aload_n 0, 1) := by decide +kernel
theorem dX0_handOverAll_15 : decode cX0_handOverAll 15 = .ok (.getfield 34, 3) := by decide +kernel
theorem dX0_handOverAll_18 : decode cX0_handOverAll 18 = .ok (.iload 4, 2) := by decide +kernel
theorem dX0_handOverAll_20 : decode cX0_handOverAll 20 = .ok (.iaload, 1) := by decide +kernel
theorem dX0_handOverAll_21 : decode cX0_handOverAll 21 = .ok (.iload_n 1, 1) := by decide +kernel
theorem dX0_handOverAll_22 : decode cX0_handOverAll 22 = .ok (.if_icmp .ne 14, 3) := by decide +kernel
theorem dX0_handOverAll_25 : decode cX0_handOverAll 25 = .ok (.aload_n 0, 1) := by decide +kernel
theorem dX0_handOverAll_26 : decode cX0_handOverAll 26 = .ok (.getfield 34, 3) := by decide +kernel
theorem dX0_handOverAll_29 : decode cX0_handOverAll 29 = .ok (.iload 4, 2) := by decide +kernel
theorem dX0_handOverAll_31 : decode cX0_handOverAll 31 = .ok (.iload_n 2, 1) := by decide +kernel
theorem dX0_handOverAll_32 : decode cX0_handOverAll 32 = .ok (.iastore, 1) := by decide +kernel
theorem dX0_handOverAll_33 : decode cX0_handOverAll 33 = .ok (.iinc 3 1, 3) := by decide +kernel
theorem dX0_handOverAll_36 : decode cX0_handOverAll 36 = .ok (.iinc 4 1, 3) := by decide +kernel
theorem dX0_handOverAll_39 : decode cX0_handOverAll 39 = .ok (.goto (-34), 3) := by decide +kernel
theorem dX0_handOverAll_42 : decode cX0_handOverAll 42 = .ok (.iload_n 3, 1) := by decide +kernel
theorem dX0_handOverAll_43 : decode cX0_handOverAll 43 = .ok (.ireturn, 1) := by decide +kernel
theorem dX1_init_0 : decode cX1_init 0 = .ok (.aload_n 0, 1) := by decide +kernel
theorem dX1_init_1 : decode cX1_init 1 = .ok (.invokespecial 1, 3) := by decide +kernel
theorem dX1_init_4 : decode cX1_init 4 = .ok (.aload_n 0, 1) := by decide +kernel
theorem dX1_init_5 : decode cX1_init 5 = .ok (.bipush 12, 2) := by decide +kernel
theorem dX1_init_7 : decode cX1_init 7 = .ok (.newarray .int, 2) := by decide +kernel
theorem dX1_init_9 : decode cX1_init 9 = .ok (.putfield 7, 3) := by decide +kernel
theorem dX1_init_12 : decode cX1_init 12 = .ok (.aload_n 0, 1) := by decide +kernel
theorem dX1_init_13 : decode cX1_init 13 = .ok (.bipush 12, 2) := by decide +kernel
theorem dX1_init_15 : decode cX1_init 15 = .ok (.newarray .int, 2) := by decide +kernel
theorem dX1_init_17 : decode cX1_init 17 = .ok (.putfield 13, 3) := by decide +kernel
theorem dX1_init_20 : decode cX1_init 20 = .ok (.aload_n 0, 1) := by decide +kernel
theorem dX1_init_21 : decode cX1_init 21 = .ok (.bipush 12, 2) := by decide +kernel
theorem dX1_init_23 : decode cX1_init 23 = .ok (.newarray .boolean, 2) := by decide +kernel
theorem dX1_init_25 : decode cX1_init 25 = .ok (.putfield 16, 3) := by decide +kernel
theorem dX1_init_28 : decode cX1_init 28 = .ok (.aload_n 0, 1) := by decide +kernel
theorem dX1_init_29 : decode cX1_init 29 = .ok (.bipush 12, 2) := by decide +kernel
theorem dX1_init_31 : decode cX1_init 31 = .ok (.newarray .long, 2) := by decide +kernel
theorem dX1_init_33 : decode cX1_init 33 = .ok (.putfield 20, 3) := by decide +kernel
theorem dX1_init_36 : decode cX1_init 36 = .ok (.aload_n 0, 1) := by decide +kernel
theorem dX1_init_37 : decode cX1_init 37 = .ok (.sipush 160, 3) := by decide +kernel
theorem dX1_init_40 : decode cX1_init 40 = .ok (.newarray .long, 2) := by decide +kernel
theorem dX1_init_42 : decode cX1_init 42 = .ok (.putfield 24, 3) := by decide +kernel
theorem dX1_init_45 : decode cX1_init 45 = .ok (.aload_n 0, 1) := by decide +kernel
theorem dX1_init_46 : decode cX1_init 46 = .ok (.sipush 160, 3) := by decide +kernel
theorem dX1_init_49 : decode cX1_init 49 = .ok (.newarray .int, 2) := by decide +kernel
theorem dX1_init_51 : decode cX1_init 51 = .ok (.putfield 27, 3) := by decide +kernel
theorem dX1_init_54 : decode cX1_init 54 = .ok (.aload_n 0, 1) := by decide +kernel
theorem dX1_init_55 : decode cX1_init 55 = .ok (.sipush 160, 3) := by decide +kernel
theorem dX1_init_58 : decode cX1_init 58 = .ok (.newarray .int, 2) := by decide +kernel
theorem dX1_init_60 : decode cX1_init 60 = .ok (.putfield 30, 3) := by decide +kernel
theorem dX1_init_63 : decode cX1_init 63 = .ok (.return_, 1) := by decide +kernel
theorem dX1_wrongHeap_0 : decode cX1_wrongHeap 0 = .ok (.iload_n 1, 1) := by decide +kernel
theorem dX1_wrongHeap_1 : decode cX1_wrongHeap 1 = .ok (.ifCond .lt 11, 3) := by decide +kernel
theorem dX1_wrongHeap_4 : decode cX1_wrongHeap 4 = .ok (.iload_n 1, 1) := by decide +kernel
theorem dX1_wrongHeap_5 : decode cX1_wrongHeap 5 = .ok (.aload_n 0, 1) := by decide +kernel
theorem dX1_wrongHeap_6 : decode cX1_wrongHeap 6 = .ok (.getfield 33, 3) := by decide +kernel
theorem dX1_wrongHeap_9 : decode cX1_wrongHeap 9 = .ok (.if_icmp .lt 6, 3) := by decide +kernel
theorem dX1_wrongHeap_12 : decode cX1_wrongHeap 12 = .ok (.bipush (-2), 2) := by decide +kernel
theorem dX1_wrongHeap_14 : decode cX1_wrongHeap 14 = .ok (.ireturn, 1) := by decide +kernel
theorem dX1_wrongHeap_15 : decode cX1_wrongHeap 15 = .ok (.aload_n 0, 1) := by decide +kernel
theorem dX1_wrongHeap_16 : decode cX1_wrongHeap 16 = .ok (.getfield 16, 3) := by decide +kernel
theorem dX1_wrongHeap_19 : decode cX1_wrongHeap 19 = .ok (.iload_n 1, 1) := by decide +kernel
theorem dX1_wrongHeap_20 : decode cX1_wrongHeap 20 = .ok (.baload, 1) := by decide +kernel
theorem dX1_wrongHeap_21 : decode cX1_wrongHeap 21 = .ok (.ifCond .eq 8, 3) := by decide +kernel
theorem dX1_wrongHeap_24 : decode cX1_wrongHeap 24 = .ok (.bipush (-3), 2) := by decide +kernel
theorem dX1_wrongHeap_26 : decode cX1_wrongHeap 26 = .ok (.goto 4, 3) := by decide +kernel
theorem dX1_wrongHeap_29 : decode cX1_wrongHeap 29 = .ok (.iconst 0, 1) := by decide +kernel
theorem dX1_wrongHeap_30 : decode cX1_wrongHeap 30 = .ok (.ireturn, 1) := by decide +kernel
theorem dX1_weight_0 : decode cX1_weight 0 = .ok (.aload_n 0, 1) := by decide +kernel
theorem dX1_weight_1 : decode cX1_weight 1 = .ok (.getfield 13, 3) := by decide +kernel
theorem dX1_weight_4 : decode cX1_weight 4 = .ok (.iload_n 1, 1) := by decide +kernel
theorem dX1_weight_5 : decode cX1_weight 5 = .ok (.iaload, 1) := by decide +kernel
theorem dX1_weight_6 : decode cX1_weight 6 = .ok (.istore 4, 2) := by decide +kernel
theorem dX1_weight_8 : decode cX1_weight 8 = .ok (.iload 4, 2) := by decide +kernel
theorem dX1_weight_10 : decode cX1_weight 10 = .ok (.ifCond .ne 5, 3) := by decide +kernel
theorem dX1_weight_13 : decode cX1_weight 13 = .ok (.lload_n 2, 1) := by decide +kernel
theorem dX1_weight_14 : decode cX1_weight 14 = .ok (.lreturn, 1) := by decide +kernel
theorem dX1_weight_15 : decode cX1_weight 15 = .ok (.iload 4, 2) := by decide +kernel
theorem dX1_weight_17 : decode cX1_weight 17 = .ok (.iconst 1, 1) := by decide +kernel
theorem dX1_weight_18 : decode cX1_weight 18 = .ok (.if_icmp .ne 9, 3) := by decide +kernel
theorem dX1_weight_21 : decode cX1_weight 21 = .ok (.ldc2_w 40, 3) := by decide +kernel
theorem dX1_weight_24 : decode cX1_weight 24 = .ok (.lload_n 2, 1) := by decide +kernel
theorem dX1_weight_25 : decode cX1_weight 25 = .ok (.lsub, 1) := by decide +kernel
theorem dX1_weight_26 : decode cX1_weight 26 = .ok (.lreturn, 1) := by decide +kernel
theorem dX1_weight_27 : decode cX1_weight 27 = .ok (.iload 4, 2) := by decide +kernel
theorem dX1_weight_29 : decode cX1_weight 29 = .ok (.iconst 2, 1) := by decide +kernel
theorem dX1_weight_30 : decode cX1_weight 30 = .ok (.if_icmp .ne 11, 3) := by decide +kernel
theorem dX1_weight_33 : decode cX1_weight 33 = .ok (.lload_n 2, 1) := by decide +kernel
theorem dX1_weight_34 : decode cX1_weight 34 = .ok (.ldc2_w 42, 3) := by decide +kernel
theorem dX1_weight_37 : decode cX1_weight 37 = .ok (.lxor, 1) := by decide +kernel
theorem dX1_weight_38 : decode cX1_weight 38 = .ok (.goto 8, 3) := by decide +kernel
theorem dX1_weight_41 : decode cX1_weight 41 = .ok (.lload_n 2, 1) := by decide +kernel
theorem dX1_weight_42 : decode cX1_weight 42 = .ok (.ldc2_w 44, 3) := by decide +kernel
theorem dX1_weight_45 : decode cX1_weight 45 = .ok (.land, 1) := by decide +kernel
theorem dX1_weight_46 : decode cX1_weight 46 = .ok (.lreturn, 1) := by decide +kernel
set_option maxRecDepth 20000 in
theorem ggX1_isBelow_X1_weight : GoodIn wsX1_isBelow wsX1_weight := goodIn_r _ [7, 8, 9, 10, 11, 12, 13, 14, 15, 16, 17, 18, 19, 20] (by decide +kernel) (by decide +kernel)
set_option maxRecDepth 20000 in
theorem gX1_isBelow_X1_weight : GoodIn wsX1_isBelow (wsV RX1 46 RX1 yX1_weight wsX1_weight) := goodIn_app (goodIn_of _ (by decide +kernel)) ggX1_isBelow_X1_weight
theorem dX1_isBelow_0 : decode cX1_isBelow 0 = .ok (.aload_n 0, 1) := by decide +kernel
theorem dX1_isBelow_1 : decode cX1_isBelow 1 = .ok (.getfield 7, 3) := by decide +kernel
theorem dX1_isBelow_4 : decode cX1_isBelow 4 = .ok (.iload_n 1, 1) := by decide +kernel
theorem dX1_isBelow_5 : decode cX1_isBelow 5 = .ok (.iaload, 1) := by decide +kernel
theorem dX1_isBelow_6 : decode cX1_isBelow 6 = .ok (.iconst 2, 1) := by decide +kernel
theorem dX1_isBelow_7 : decode cX1_isBelow 7 = .ok (.if_icmp .ne 23, 3) := by decide +kernel
theorem dX1_isBelow_10 : decode cX1_isBelow 10 = .ok (.aload_n 0, 1) := by decide +kernel
theorem dX1_isBelow_11 : decode cX1_isBelow 11 = .ok (.iload_n 1, 1) := by decide +kernel
theorem dX1_isBelow_12 : decode cX1_isBelow 12 = .ok (.lload_n 2, 1) := by decide +kernel
theorem dX1_isBelow_13 : decode cX1_isBelow 13 = .ok (.invokevirtual 46, 3) := by decide +kernel
theorem dX1_isBelow_16 : decode cX1_isBelow 16 = .ok (.aload_n 0, 1) := by decide +kernel
theorem dX1_isBelow_17 : decode cX1_isBelow 17 = .ok (.getfield 20, 3) := by decide +kernel
theorem dX1_isBelow_20 : decode cX1_isBelow 20 = .ok (.iload_n 1, 1) := by decide +kernel
theorem dX1_isBelow_21 : decode cX1_isBelow 21 = .ok (.laload, 1) := by decide +kernel
theorem dX1_isBelow_22 : decode cX1_isBelow 22 = .ok (.lcmp, 1) := by decide +kernel
theorem dX1_isBelow_23 : decode cX1_isBelow 23 = .ok (.ifCond .ge 7, 3) := by decide +kernel
theorem dX1_isBelow_26 : decode cX1_isBelow 26 = .ok (.iconst 1, 1) := by decide +kernel
theorem dX1_isBelow_27 : decode cX1_isBelow 27 = .ok (.goto 4, 3) := by decide +kernel
theorem dX1_isBelow_30 : decode cX1_isBelow 30 = .ok (.iconst 0, 1) := by decide +kernel
theorem dX1_isBelow_31 : decode cX1_isBelow 31 = .ok (.ireturn, 1) := by decide +kernel
theorem dX1_open_0 : decode cX1_open 0 = .ok (.iload_n 1, 1) := by decide +kernel
theorem dX1_open_1 : decode cX1_open 1 = .ok (.ifCond .lt 17, 3) := by decide +kernel
theorem dX1_open_4 : decode cX1_open 4 = .ok (.iload_n 1, 1) := by decide +kernel
theorem dX1_open_5 : decode cX1_open 5 = .ok (.iconst 2, 1) := by decide +kernel
theorem dX1_open_6 : decode cX1_open 6 = .ok (.if_icmp .gt 12, 3) := by decide +kernel
theorem dX1_open_9 : decode cX1_open 9 = .ok (.iload_n 2, 1) := by decide +kernel
theorem dX1_open_10 : decode cX1_open 10 = .ok (.ifCond .lt 8, 3) := by decide +kernel
theorem dX1_open_13 : decode cX1_open 13 = .ok (.iload_n 2, 1) := by decide +kernel
theorem dX1_open_14 : decode cX1_open 14 = .ok (.iconst 3, 1) := by decide +kernel
theorem dX1_open_15 : decode cX1_open 15 = .ok (.if_icmp .le 6, 3) := by decide +kernel
theorem dX1_open_18 : decode cX1_open 18 = .ok (.bipush (-2), 2) := by decide +kernel
theorem dX1_open_20 : decode cX1_open 20 = .ok (.ireturn, 1) := by decide +kernel
theorem dX1_open_21 : decode cX1_open 21 = .ok (.aload_n 0, 1) := by decide +kernel
theorem dX1_open_22 : decode cX1_open 22 = .ok (.getfield 33, 3) := by decide +kernel
theorem dX1_open_25 : decode cX1_open 25 = .ok (.bipush 12, 2) := by decide +kernel
theorem dX1_open_27 : decode cX1_open 27 = .ok (.if_icmp .ne 6, 3) := by decide +kernel
theorem dX1_open_30 : decode cX1_open 30 = .ok (.bipush (-8), 2) := by decide +kernel
theorem dX1_open_32 : decode cX1_open 32 = .ok (.ireturn, 1) := by decide +kernel
theorem dX1_open_33 : decode cX1_open 33 = .ok (.aload_n 0, 1) := by decide +kernel
theorem dX1_open_34 : decode cX1_open 34 = .ok (.getfield 7, 3) := by decide +kernel
theorem dX1_open_37 : decode cX1_open 37 = .ok (.aload_n 0, 1) := by decide +kernel
theorem dX1_open_38 : decode cX1_open 38 = .ok (.getfield 33, 3) := by decide +kernel
theorem dX1_open_41 : decode cX1_open 41 = .ok (.iload_n 1, 1) := by decide +kernel
theorem dX1_open_42 : decode cX1_open 42 = .ok (.iastore, 1) := by decide +kernel
theorem dX1_open_43 : decode cX1_open 43 = .ok (.aload_n 0, 1) := by decide +kernel
theorem dX1_open_44 : decode cX1_open 44 = .ok (.getfield 13, 3) := by decide +kernel
theorem dX1_open_47 : decode cX1_open 47 = .ok (.aload_n 0, 1) := by decide +kernel
theorem dX1_open_48 : decode cX1_open 48 = .ok (.getfield 33, 3) := by decide +kernel
theorem dX1_open_51 : decode cX1_open 51 = .ok (.iload_n 2, 1) := by decide +kernel
theorem dX1_open_52 : decode cX1_open 52 = .ok (.iastore, 1) := by decide +kernel
theorem dX1_open_53 : decode cX1_open 53 = .ok (.aload_n 0, 1) := by decide +kernel
theorem dX1_open_54 : decode cX1_open 54 = .ok (.getfield 20, 3) := by decide +kernel
theorem dX1_open_57 : decode cX1_open 57 = .ok (.aload_n 0, 1) := by decide +kernel
theorem dX1_open_58 : decode cX1_open 58 = .ok (.getfield 33, 3) := by decide +kernel
theorem dX1_open_61 : decode cX1_open 61 = .ok (.ldc2_w 42, 3) := by decide +kernel
theorem dX1_open_64 : decode cX1_open 64 = .ok (.lastore, 1) := by decide +kernel
theorem dX1_open_65 : decode cX1_open 65 = .ok (.aload_n 0, 1) := by decide +kernel
theorem dX1_open_66 : decode cX1_open 66 = .ok (.dup, 1) := by decide +kernel
theorem dX1_open_67 : decode cX1_open 67 = .ok (.getfield 33, 3) := by decide +kernel
theorem dX1_open_70 : decode cX1_open 70 = .ok (.iconst 1, 1) := by decide +kernel
theorem dX1_open_71 : decode cX1_open 71 = .ok (.iadd, 1) := by decide +kernel
theorem dX1_open_72 : decode cX1_open 72 = .ok (.putfield 33, 3) := by decide +kernel
theorem dX1_open_75 : decode cX1_open 75 = .ok (.aload_n 0, 1) := by decide +kernel
theorem dX1_open_76 : decode cX1_open 76 = .ok (.getfield 33, 3) := by decide +kernel
theorem dX1_open_79 : decode cX1_open 79 = .ok (.iconst 1, 1) := by decide +kernel
theorem dX1_open_80 : decode cX1_open 80 = .ok (.isub, 1) := by decide +kernel
theorem dX1_open_81 : decode cX1_open 81 = .ok (.ireturn, 1) := by decide +kernel
set_option maxRecDepth 20000 in
theorem ggX1_insert_X1_wrongHeap : GoodIn wsX1_insert wsX1_wrongHeap := goodIn_r _ [9, 10, 11, 26, 27, 28, 29, 30, 31, 32, 33, 34] (by decide +kernel) (by decide +kernel)
set_option maxRecDepth 20000 in
theorem gX1_insert_X1_wrongHeap : GoodIn wsX1_insert (wsV RX1 50 RX1 yX1_wrongHeap wsX1_wrongHeap) := goodIn_app (goodIn_of _ (by decide +kernel)) ggX1_insert_X1_wrongHeap
set_option maxRecDepth 20000 in
theorem ggX1_insert_X1_isBelow : GoodIn wsX1_insert wsX1_isBelow := goodIn_r _ [15, 16, 17, 18, 19, 20, 8, 21, 22, 23, 24, 25, 26, 27, 28, 29, 30, 31, 32, 33, 34] (by decide +kernel) (by decide +kernel)
set_option maxRecDepth 20000 in
theorem gX1_insert_X1_isBelow : GoodIn wsX1_insert (wsV RX1 54 RX1 yX1_isBelow wsX1_isBelow) := goodIn_app (goodIn_of _ (by decide +kernel)) ggX1_insert_X1_isBelow
theorem dX1_insert_0 : decode cX1_insert 0 = .ok (.aload_n 0, 1) := by decide +kernel
theorem dX1_insert_1 : decode cX1_insert 1 = .ok (.iload_n 1, 1) := by decide +kernel
theorem dX1_insert_2 : decode cX1_insert 2 = .ok (.invokevirtual 50, 3) := by decide +kernel
theorem dX1_insert_5 : decode cX1_insert 5 = .ok (.istore 5, 2) := by decide +kernel
theorem dX1_insert_7 : decode cX1_insert 7 = .ok (.iload 5, 2) := by decide +kernel
theorem dX1_insert_9 : decode cX1_insert 9 = .ok (.ifCond .eq 6, 3) := by decide +kernel
theorem dX1_insert_12 : decode cX1_insert 12 = .ok (.iload 5, 2) := by decide +kernel
theorem dX1_insert_14 : decode cX1_insert 14 = .ok (.ireturn, 1) := by decide +kernel
theorem dX1_insert_15 : decode cX1_insert 15 = .ok (.aload_n 0, 1) := by decide +kernel
theorem dX1_insert_16 : decode cX1_insert 16 = .ok (.iload_n 1, 1) := by decide +kernel
theorem dX1_insert_17 : decode cX1_insert 17 = .ok (.lload_n 2, 1) := by decide +kernel
theorem dX1_insert_18 : decode cX1_insert 18 = .ok (.invokevirtual 54, 3) := by decide +kernel
theorem dX1_insert_21 : decode cX1_insert 21 = .ok (.ifCond .eq 6, 3) := by decide +kernel
theorem dX1_insert_24 : decode cX1_insert 24 = .ok (.bipush (-6), 2) := by decide +kernel
theorem dX1_insert_26 : decode cX1_insert 26 = .ok (.ireturn, 1) := by decide +kernel
theorem dX1_insert_27 : decode cX1_insert 27 = .ok (.aload_n 0, 1) := by decide +kernel
theorem dX1_insert_28 : decode cX1_insert 28 = .ok (.getfield 37, 3) := by decide +kernel
theorem dX1_insert_31 : decode cX1_insert 31 = .ok (.sipush 160, 3) := by decide +kernel
theorem dX1_insert_34 : decode cX1_insert 34 = .ok (.if_icmp .ne 6, 3) := by decide +kernel
theorem dX1_insert_37 : decode cX1_insert 37 = .ok (.bipush (-8), 2) := by decide +kernel
theorem dX1_insert_39 : decode cX1_insert 39 = .ok (.ireturn, 1) := by decide +kernel
theorem dX1_insert_40 : decode cX1_insert 40 = .ok (.aload_n 0, 1) := by decide +kernel
theorem dX1_insert_41 : decode cX1_insert 41 = .ok (.getfield 24, 3) := by decide +kernel
theorem dX1_insert_44 : decode cX1_insert 44 = .ok (.aload_n 0, 1) := by decide +kernel
theorem dX1_insert_45 : decode cX1_insert 45 = .ok (.getfield 37, 3) := by decide +kernel
theorem dX1_insert_48 : decode cX1_insert 48 = .ok (.lload_n 2, 1) := by decide +kernel
theorem dX1_insert_49 : decode cX1_insert 49 = .ok (.lastore, 1) := by decide +kernel
theorem dX1_insert_50 : decode cX1_insert 50 = .ok (.aload_n 0, 1) := by decide +kernel
theorem dX1_insert_51 : decode cX1_insert 51 = .ok (.getfield 27, 3) := by decide +kernel
theorem dX1_insert_54 : decode cX1_insert 54 = .ok (.aload_n 0, 1) := by decide +kernel
theorem dX1_insert_55 : decode cX1_insert 55 = .ok (.getfield 37, 3) := by decide +kernel
theorem dX1_insert_58 : decode cX1_insert 58 = .ok (.iload 4, 2) := by decide +kernel
theorem dX1_insert_60 : decode cX1_insert 60 = .ok (.iastore, 1) := by decide +kernel
theorem dX1_insert_61 : decode cX1_insert 61 = .ok (.aload_n 0, 1) := by decide +kernel
theorem dX1_insert_62 : decode cX1_insert 62 = .ok (.getfield 30, 3) := by decide +kernel
theorem dX1_insert_65 : decode cX1_insert 65 = .ok (.aload_n 0, 1) := by decide +kernel
theorem dX1_insert_66 : decode cX1_insert 66 = .ok (.getfield 37, 3) := by decide +kernel
theorem dX1_insert_69 : decode cX1_insert 69 = .ok (.iload_n 1, 1) := by decide +kernel
theorem dX1_insert_70 : decode cX1_insert 70 = .ok (.iastore, 1) := by decide +kernel
theorem dX1_insert_71 : decode cX1_insert 71 = .ok (.aload_n 0, 1) := by decide +kernel
theorem dX1_insert_72 : decode cX1_insert 72 = .ok (.dup, 1) := by decide +kernel
theorem dX1_insert_73 : decode cX1_insert 73 = .ok (.getfield 37, 3) := by decide +kernel
theorem dX1_insert_76 : decode cX1_insert 76 = .ok (.iconst 1, 1) := by decide +kernel
theorem dX1_insert_77 : decode cX1_insert 77 = .ok (.iadd, 1) := by decide +kernel
theorem dX1_insert_78 : decode cX1_insert 78 = .ok (.putfield 37, 3) := by decide +kernel
theorem dX1_insert_81 : decode cX1_insert 81 = .ok (.aload_n 0, 1) := by decide +kernel
theorem dX1_insert_82 : decode cX1_insert 82 = .ok (.getfield 37, 3) := by decide +kernel
theorem dX1_insert_85 : decode cX1_insert 85 = .ok (.iconst 1, 1) := by decide +kernel
theorem dX1_insert_86 : decode cX1_insert 86 = .ok (.isub, 1) := by decide +kernel
theorem dX1_insert_87 : decode cX1_insert 87 = .ok (.ireturn, 1) := by decide +kernel
set_option maxRecDepth 20000 in
theorem ggX1_first_X1_wrongHeap : GoodIn wsX1_first wsX1_wrongHeap := goodIn_r _ [5, 6, 7, 8, 9, 10, 11, 12, 13, 14, 15, 16] (by decide +kernel) (by decide +kernel)
set_option maxRecDepth 20000 in
theorem gX1_first_X1_wrongHeap : GoodIn wsX1_first (wsV RX1 50 RX1 yX1_wrongHeap wsX1_wrongHeap) := goodIn_app (goodIn_of _ (by decide +kernel)) ggX1_first_X1_wrongHeap
theorem dX1_first_0 : decode cX1_first 0 = .ok (.aload_n 0, 1) := by decide +kernel
theorem dX1_first_1 : decode cX1_first 1 = .ok (.iload_n 1, 1) := by decide +kernel
theorem dX1_first_2 : decode cX1_first 2 = .ok (.invokevirtual 50, 3) := by decide +kernel
theorem dX1_first_5 : decode cX1_first 5 = .ok (.istore_n 2, 1) := by decide +kernel
theorem dX1_first_6 : decode cX1_first 6 = .ok (.iload_n 2, 1) := by decide +kernel
theorem dX1_first_7 : decode cX1_first 7 = .ok (.ifCond .eq 7, 3) := by decide +kernel
theorem dX1_first_10 : decode cX1_first 10 = .ok (.iload_n 2, 1) := by decide +kernel
theorem dX1_first_11 : decode cX1_first 11 = .ok (.goto 9, 3) := by decide +kernel
theorem dX1_first_14 : decode cX1_first 14 = .ok (.aload_n 0, 1) := by decide +kernel
theorem dX1_first_15 : decode cX1_first 15 = .ok (.iload_n 1, 1) := by decide +kernel
theorem dX1_first_16 : decode cX1_first 16 = .ok (.iconst 1, 1) := by decide +kernel
theorem dX1_first_17 : decode cX1_first 17 = .ok (.invokevirtual 58, 3) := by decide +kernel
theorem dX1_first_20 : decode cX1_first 20 = .ok (.ireturn, 1) := by decide +kernel
theorem dJ9_min_7cf53_0 : decode cJ9_min_7cf53 0 = .ok (.iload_n 0, 1) := by decide +kernel
theorem dJ9_min_7cf53_1 : decode cJ9_min_7cf53 1 = .ok (.iload_n 1, 1) := by decide +kernel
theorem dJ9_min_7cf53_2 : decode cJ9_min_7cf53 2 = .ok (.if_icmp .gt 7, 3) := by decide +kernel
theorem dJ9_min_7cf53_5 : decode cJ9_min_7cf53 5 = .ok (.iload_n 0, 1) := by decide +kernel
theorem dJ9_min_7cf53_6 : decode cJ9_min_7cf53 6 = .ok (.goto 4, 3) := by decide +kernel
theorem dJ9_min_7cf53_9 : decode cJ9_min_7cf53 9 = .ok (.iload_n 1, 1) := by decide +kernel
theorem dJ9_min_7cf53_10 : decode cJ9_min_7cf53 10 = .ok (.ireturn, 1) := by decide +kernel
set_option maxRecDepth 20000 in
theorem ggL_law_X0_init : GoodIn wsL_law wsX0_init := goodIn_r _ [8, 9, 10, 11, 12, 13, 14, 15, 16, 17, 18, 19, 20, 21, 22, 23, 201, 202, 203, 204, 205, 206, 207, 208, 209] (by decide +kernel) (by decide +kernel)
set_option maxRecDepth 20000 in
theorem gL_law_X0_init : GoodIn wsL_law (wsX0_init) := ggL_law_X0_init
set_option maxRecDepth 20000 in
theorem ggL_law_X1_init : GoodIn wsL_law wsX1_init := goodIn_r _ [26, 27, 10, 11, 12, 28, 29, 15, 30, 17, 31, 32, 33, 34, 210, 211, 212, 213, 214, 215, 216, 217, 218] (by decide +kernel) (by decide +kernel)
set_option maxRecDepth 20000 in
theorem gL_law_X1_init : GoodIn wsL_law (wsX1_init) := ggL_law_X1_init
set_option maxRecDepth 20000 in
theorem ggL_law_X0_open : GoodIn wsL_law wsX0_open := goodIn_r _ [38, 19, 13, 14, 16, 18, 39, 201, 202, 203, 204, 205, 206, 207, 208, 209] (by decide +kernel) (by decide +kernel)
set_option maxRecDepth 20000 in
theorem gL_law_X0_open : GoodIn wsL_law (wsV RL 13 RX0 yX0_open wsX0_open) := goodIn_app (goodIn_of _ (by decide +kernel)) ggL_law_X0_open
set_option maxRecDepth 20000 in
theorem ggL_law_X1_open : GoodIn wsL_law wsX1_open := goodIn_r _ [43, 44, 28, 29, 31, 45, 210, 211, 212, 213, 214, 215, 216, 217, 218] (by decide +kernel) (by decide +kernel)
set_option maxRecDepth 20000 in
theorem gL_law_X1_open : GoodIn wsL_law (wsV RL 17 RX1 yX1_open wsX1_open) := goodIn_app (goodIn_of _ (by decide +kernel)) ggL_law_X1_open
set_option maxRecDepth 20000 in
theorem ggL_law_X0_insert : GoodIn wsL_law wsX0_insert := goodIn_r _ [49, 23, 20, 21, 22, 50, 51, 52, 2, 53, 16, 54, 55, 56, 57, 19, 58, 59, 60, 61, 14, 18, 62, 63, 64, 65, 39, 66, 201, 202, 203, 204, 205, 206, 207, 208, 209] (by decide +kernel) (by decide +kernel)
set_option maxRecDepth 20000 in
theorem gL_law_X0_insert : GoodIn wsL_law (wsV RL 20 RX0 yX0_insert wsX0_insert) := goodIn_app (goodIn_of _ (by decide +kernel)) ggL_law_X0_insert
set_option maxRecDepth 20000 in
theorem ggL_law_X1_insert : GoodIn wsL_law wsX1_insert := goodIn_r _ [70, 71, 32, 33, 34, 72, 73, 74, 5, 75, 44, 30, 76, 77, 78, 79, 28, 31, 80, 81, 82, 83, 29, 84, 45, 85, 210, 211, 212, 213, 214, 215, 216, 217, 218] (by decide +kernel) (by decide +kernel)
set_option maxRecDepth 20000 in
theorem gL_law_X1_insert : GoodIn wsL_law (wsV RL 24 RX1 yX1_insert wsX1_insert) := goodIn_app (goodIn_of _ (by decide +kernel)) ggL_law_X1_insert
set_option maxRecDepth 20000 in
theorem ggL_law_X0_first : GoodIn wsL_law wsX0_first := goodIn_r _ [89, 50, 51, 52, 2, 53, 16, 54, 55, 56, 57, 19, 90, 91, 92, 93, 23, 22, 14, 94, 95, 96, 97, 20, 62, 63, 64, 65, 39, 66, 201, 202, 203, 204, 205, 206, 207, 208, 209] (by decide +kernel) (by decide +kernel)
set_option maxRecDepth 20000 in
theorem gL_law_X0_first : GoodIn wsL_law (wsV RL 25 RX0 yX0_first wsX0_first) := goodIn_app (goodIn_of _ (by decide +kernel)) ggL_law_X0_first
set_option maxRecDepth 20000 in
theorem ggL_law_X1_first : GoodIn wsL_law wsX1_first := goodIn_r _ [101, 72, 73, 74, 5, 75, 44, 30, 210, 211, 212, 213, 214, 215, 216, 217, 218] (by decide +kernel) (by decide +kernel)
set_option maxRecDepth 20000 in
theorem gL_law_X1_first : GoodIn wsL_law (wsV RL 29 RX1 yX1_first wsX1_first) := goodIn_app (goodIn_of _ (by decide +kernel)) ggL_law_X1_first
set_option maxRecDepth 20000 in
theorem ggL_law_X0_last : GoodIn wsL_law wsX0_last := goodIn_r _ [105, 106, 107, 108, 2, 109, 13, 50, 51, 52, 53, 16, 54, 55, 56, 57, 19, 110, 111, 112, 113, 23, 22, 14, 94, 95, 96, 97, 20, 62, 63, 64, 65, 39, 66, 201, 202, 203, 204, 205, 206, 207, 208, 209] (by decide +kernel) (by decide +kernel)
set_option maxRecDepth 20000 in
theorem gL_law_X0_last : GoodIn wsL_law (wsV RL 30 RX0 yX0_last wsX0_last) := goodIn_app (goodIn_of _ (by decide +kernel)) ggL_law_X0_last
set_option maxRecDepth 20000 in
theorem ggL_law_X0_take : GoodIn wsL_law wsX0_take := goodIn_r _ [117, 20, 22, 118, 87, 88, 2, 89, 50, 51, 52, 53, 16, 54, 55, 56, 57, 19, 90, 91, 92, 93, 23, 14, 94, 95, 96, 97, 62, 63, 64, 65, 39, 66, 119, 120, 121, 122, 13, 18, 201, 202, 203, 204, 205, 206, 207, 208, 209] (by decide +kernel) (by decide +kernel)
set_option maxRecDepth 20000 in
theorem gL_law_X0_take : GoodIn wsL_law (wsV RL 34 RX0 yX0_take wsX0_take) := goodIn_app (goodIn_of _ (by decide +kernel)) ggL_law_X0_take
set_option maxRecDepth 20000 in
theorem ggL_law_X0_takeLast : GoodIn wsL_law wsX0_takeLast := goodIn_r _ [126, 22, 127, 103, 104, 2, 105, 106, 107, 108, 109, 13, 50, 51, 52, 53, 16, 54, 55, 56, 57, 19, 110, 111, 112, 113, 23, 14, 94, 95, 96, 97, 20, 62, 63, 64, 65, 39, 66, 201, 202, 203, 204, 205, 206, 207, 208, 209] (by decide +kernel) (by decide +kernel)
set_option maxRecDepth 20000 in
theorem gL_law_X0_takeLast : GoodIn wsL_law (wsV RL 38 RX0 yX0_takeLast wsX0_takeLast) := goodIn_app (goodIn_of _ (by decide +kernel)) ggL_law_X0_takeLast
set_option maxRecDepth 20000 in
theorem ggL_law_X0_decrease : GoodIn wsL_law wsX0_decrease := goodIn_r _ [131, 22, 14, 20, 132, 133, 134, 2, 135, 136, 137, 138, 139, 23, 62, 63, 64, 65, 39, 66, 58, 59, 60, 61, 18, 90, 91, 92, 93, 94, 95, 96, 97, 201, 202, 203, 204, 205, 206, 207, 208, 209] (by decide +kernel) (by decide +kernel)
set_option maxRecDepth 20000 in
theorem gL_law_X0_decrease : GoodIn wsL_law (wsV RL 42 RX0 yX0_decrease wsX0_decrease) := goodIn_app (goodIn_of _ (by decide +kernel)) ggL_law_X0_decrease
set_option maxRecDepth 20000 in
theorem ggL_law_X0_delete : GoodIn wsL_law wsX0_delete := goodIn_r _ [143, 22, 144, 145, 146, 2, 147, 132, 133, 134, 135, 136, 137, 138, 139, 23, 201, 202, 203, 204, 205, 206, 207, 208, 209] (by decide +kernel) (by decide +kernel)
set_option maxRecDepth 20000 in
theorem gL_law_X0_delete : GoodIn wsL_law (wsV RL 47 RX0 yX0_delete wsX0_delete) := goodIn_app (goodIn_of _ (by decide +kernel)) ggL_law_X0_delete
set_option maxRecDepth 20000 in
theorem ggL_law_X0_meld : GoodIn wsL_law wsX0_meld := goodIn_r _ [151, 13, 14, 16, 152, 153, 154, 2, 155, 50, 51, 52, 53, 54, 55, 56, 57, 19, 156, 157, 158, 159, 23, 22, 160, 161, 162, 163, 201, 202, 203, 204, 205, 206, 207, 208, 209] (by decide +kernel) (by decide +kernel)
set_option maxRecDepth 20000 in
theorem gL_law_X0_meld : GoodIn wsL_law (wsV RL 51 RX0 yX0_meld wsX0_meld) := goodIn_app (goodIn_of _ (by decide +kernel)) ggL_law_X0_meld
set_option maxRecDepth 20000 in
theorem ggL_law_X0_drain : GoodIn wsL_law wsX0_drain := goodIn_r _ [167, 168, 169, 170, 171, 20, 22, 152, 153, 154, 2, 155, 50, 51, 52, 53, 16, 54, 55, 56, 57, 19, 160, 161, 162, 163, 23, 90, 91, 92, 93, 14, 94, 95, 96, 97, 62, 63, 64, 65, 39, 66, 58, 59, 60, 61, 18, 119, 120, 121, 122, 13, 201, 202, 203, 204, 205, 206, 207, 208, 209] (by decide +kernel) (by decide +kernel)
set_option maxRecDepth 20000 in
theorem gL_law_X0_drain : GoodIn wsL_law (wsV RL 55 RX0 yX0_drain wsX0_drain) := goodIn_app (goodIn_of _ (by decide +kernel)) ggL_law_X0_drain
set_option maxRecDepth 20000 in
theorem ggL_law_X0_clear : GoodIn wsL_law wsX0_clear := goodIn_r _ [175, 18, 39, 50, 51, 52, 2, 53, 16, 54, 55, 56, 57, 19, 156, 157, 158, 159, 23, 22, 201, 202, 203, 204, 205, 206, 207, 208, 209] (by decide +kernel) (by decide +kernel)
set_option maxRecDepth 20000 in
theorem gL_law_X0_clear : GoodIn wsL_law (wsV RL 60 RX0 yX0_clear wsX0_clear) := goodIn_app (goodIn_of _ (by decide +kernel)) ggL_law_X0_clear
set_option maxRecDepth 20000 in
theorem ggL_law_X0_size : GoodIn wsL_law wsX0_size := goodIn_r _ [179, 50, 51, 52, 2, 53, 16, 54, 55, 56, 57, 19, 160, 161, 162, 163, 23, 22, 201, 202, 203, 204, 205, 206, 207, 208, 209] (by decide +kernel) (by decide +kernel)
set_option maxRecDepth 20000 in
theorem gL_law_X0_size : GoodIn wsL_law (wsV RL 64 RX0 yX0_size wsX0_size) := goodIn_app (goodIn_of _ (by decide +kernel)) ggL_law_X0_size
set_option maxRecDepth 20000 in
theorem ggL_law_X0_floor : GoodIn wsL_law wsX0_floor := goodIn_r _ [183, 18, 39, 54, 55, 56, 2, 57, 19, 201, 202, 203, 204, 205, 206, 207, 208, 209] (by decide +kernel) (by decide +kernel)
set_option maxRecDepth 20000 in
theorem gL_law_X0_floor : GoodIn wsL_law (wsV RL 68 RX0 yX0_floor wsX0_floor) := goodIn_app (goodIn_of _ (by decide +kernel)) ggL_law_X0_floor
set_option maxRecDepth 20000 in
theorem ggL_law_X0_key : GoodIn wsL_law wsX0_key := goodIn_r _ [187, 20, 132, 133, 134, 2, 135, 22, 136, 137, 138, 139, 23, 201, 202, 203, 204, 205, 206, 207, 208, 209] (by decide +kernel) (by decide +kernel)
set_option maxRecDepth 20000 in
theorem gL_law_X0_key : GoodIn wsL_law (wsV RL 73 RX0 yX0_key wsX0_key) := goodIn_app (goodIn_of _ (by decide +kernel)) ggL_law_X0_key
set_option maxRecDepth 20000 in
theorem ggL_law_X0_value : GoodIn wsL_law wsX0_value := goodIn_r _ [191, 21, 132, 133, 134, 2, 135, 22, 136, 137, 138, 139, 23, 201, 202, 203, 204, 205, 206, 207, 208, 209] (by decide +kernel) (by decide +kernel)
set_option maxRecDepth 20000 in
theorem gL_law_X0_value : GoodIn wsL_law (wsV RL 77 RX0 yX0_value wsX0_value) := goodIn_app (goodIn_of _ (by decide +kernel)) ggL_law_X0_value
set_option maxRecDepth 20000 in
theorem ggL_law_X0_owner : GoodIn wsL_law wsX0_owner := goodIn_r _ [147, 22, 132, 133, 134, 2, 135, 136, 137, 138, 139, 23, 201, 202, 203, 204, 205, 206, 207, 208, 209] (by decide +kernel) (by decide +kernel)
set_option maxRecDepth 20000 in
theorem gL_law_X0_owner : GoodIn wsL_law (wsV RL 81 RX0 yX0_owner wsX0_owner) := goodIn_app (goodIn_of _ (by decide +kernel)) ggL_law_X0_owner
set_option maxRecDepth 20000 in
theorem ggL_law_X0_before : GoodIn wsL_law wsX0_before := goodIn_r _ [196, 22, 132, 133, 134, 2, 135, 136, 137, 138, 139, 23, 197, 198, 199, 200, 14, 94, 95, 96, 97, 20, 62, 63, 64, 65, 39, 66, 201, 202, 203, 204, 205, 206, 207, 208, 209] (by decide +kernel) (by decide +kernel)
set_option maxRecDepth 20000 in
theorem gL_law_X0_before : GoodIn wsL_law (wsV RL 85 RX0 yX0_before wsX0_before) := goodIn_app (goodIn_of _ (by decide +kernel)) ggL_law_X0_before
theorem dL_law_0 : decode cL_law 0 = .ok (.new 7, 3) := by decide +kernel
theorem dL_law_3 : decode cL_law 3 = .ok (.dup, 1) := by decide +kernel
theorem dL_law_4 : decode cL_law 4 = .ok (.invokespecial 9, 3) := by decide +kernel
theorem dL_law_7 : decode cL_law 7 = .ok (.astore_n 1, 1) := by decide +kernel
theorem dL_law_8 : decode cL_law 8 = .ok (.new 10, 3) := by decide +kernel
theorem dL_law_11 : decode cL_law 11 = .ok (.dup, 1) := by decide +kernel
theorem dL_law_12 : decode cL_law 12 = .ok (.invokespecial 12, 3) := by decide +kernel
theorem dL_law_15 : decode cL_law 15 = .ok (.astore_n 2, 1) := by decide +kernel
theorem dL_law_16 : decode cL_law 16 = .ok (.iconst 0, 1) := by decide +kernel
theorem dL_law_17 : decode cL_law 17 = .ok (.istore_n 3, 1) := by decide +kernel
theorem dL_law_18 : decode cL_law 18 = .ok (.iload_n 3, 1) := by decide +kernel
theorem dL_law_19 : decode cL_law 19 = .ok (.aload_n 0, 1) := by decide +kernel
theorem dL_law_20 : decode cL_law 20 = .ok (.arraylength, 1) := by decide +kernel
theorem dL_law_21 : decode cL_law 21 = .ok (.iconst 5, 1) := by decide +kernel
theorem dL_law_22 : decode cL_law 22 = .ok (.isub, 1) := by decide +kernel
theorem dL_law_23 : decode cL_law 23 = .ok (.if_icmp .gt 622, 3) := by decide +kernel
theorem dL_law_26 : decode cL_law 26 = .ok (.aload_n 0, 1) := by decide +kernel
theorem dL_law_27 : decode cL_law 27 = .ok (.iload_n 3, 1) := by decide +kernel
theorem dL_law_28 : decode cL_law 28 = .ok (.iaload, 1) := by decide +kernel
theorem dL_law_29 : decode cL_law 29 = .ok (.bipush 31, 2) := by decide +kernel
theorem dL_law_31 : decode cL_law 31 = .ok (.iand, 1) := by decide +kernel
theorem dL_law_32 : decode cL_law 32 = .ok (.tableswitch 607 0 16 #[84, 117, 190, 213, 236, 259, 282, 345, 368, 401, 444, 467, 490, 514, 538, 561, 584], 84) := by decide +kernel
theorem dL_law_116 : decode cL_law 116 = .ok (.aload_n 1, 1) := by decide +kernel
theorem dL_law_117 : decode cL_law 117 = .ok (.aload_n 0, 1) := by decide +kernel
theorem dL_law_118 : decode cL_law 118 = .ok (.iload_n 3, 1) := by decide +kernel
theorem dL_law_119 : decode cL_law 119 = .ok (.iconst 1, 1) := by decide +kernel
theorem dL_law_120 : decode cL_law 120 = .ok (.iadd, 1) := by decide +kernel
theorem dL_law_121 : decode cL_law 121 = .ok (.iaload, 1) := by decide +kernel
theorem dL_law_122 : decode cL_law 122 = .ok (.aload_n 0, 1) := by decide +kernel
theorem dL_law_123 : decode cL_law 123 = .ok (.iload_n 3, 1) := by decide +kernel
theorem dL_law_124 : decode cL_law 124 = .ok (.iconst 2, 1) := by decide +kernel
theorem dL_law_125 : decode cL_law 125 = .ok (.iadd, 1) := by decide +kernel
theorem dL_law_126 : decode cL_law 126 = .ok (.iaload, 1) := by decide +kernel
theorem dL_law_127 : decode cL_law 127 = .ok (.invokevirtual 13, 3) := by decide +kernel
theorem dL_law_130 : decode cL_law 130 = .ok (.aload_n 2, 1) := by decide +kernel
theorem dL_law_131 : decode cL_law 131 = .ok (.aload_n 0, 1) := by decide +kernel
theorem dL_law_132 : decode cL_law 132 = .ok (.iload_n 3, 1) := by decide +kernel
theorem dL_law_133 : decode cL_law 133 = .ok (.iconst 1, 1) := by decide +kernel
theorem dL_law_134 : decode cL_law 134 = .ok (.iadd, 1) := by decide +kernel
theorem dL_law_135 : decode cL_law 135 = .ok (.iaload, 1) := by decide +kernel
theorem dL_law_136 : decode cL_law 136 = .ok (.aload_n 0, 1) := by decide +kernel
theorem dL_law_137 : decode cL_law 137 = .ok (.iload_n 3, 1) := by decide +kernel
theorem dL_law_138 : decode cL_law 138 = .ok (.iconst 2, 1) := by decide +kernel
theorem dL_law_139 : decode cL_law 139 = .ok (.iadd, 1) := by decide +kernel
theorem dL_law_140 : decode cL_law 140 = .ok (.iaload, 1) := by decide +kernel
theorem dL_law_141 : decode cL_law 141 = .ok (.invokevirtual 17, 3) := by decide +kernel
theorem dL_law_144 : decode cL_law 144 = .ok (.if_icmp .eq 495, 3) := by decide +kernel
theorem dL_law_147 : decode cL_law 147 = .ok (.iconst 0, 1) := by decide +kernel
theorem dL_law_148 : decode cL_law 148 = .ok (.ireturn, 1) := by decide +kernel
theorem dL_law_149 : decode cL_law 149 = .ok (.aload_n 1, 1) := by decide +kernel
theorem dL_law_150 : decode cL_law 150 = .ok (.aload_n 0, 1) := by decide +kernel
theorem dL_law_151 : decode cL_law 151 = .ok (.iload_n 3, 1) := by decide +kernel
theorem dL_law_152 : decode cL_law 152 = .ok (.iconst 1, 1) := by decide +kernel
theorem dL_law_153 : decode cL_law 153 = .ok (.iadd, 1) := by decide +kernel
theorem dL_law_154 : decode cL_law 154 = .ok (.iaload, 1) := by decide +kernel
theorem dL_law_155 : decode cL_law 155 = .ok (.aload_n 0, 1) := by decide +kernel
theorem dL_law_156 : decode cL_law 156 = .ok (.iload_n 3, 1) := by decide +kernel
theorem dL_law_157 : decode cL_law 157 = .ok (.iconst 2, 1) := by decide +kernel
theorem dL_law_158 : decode cL_law 158 = .ok (.iadd, 1) := by decide +kernel
theorem dL_law_159 : decode cL_law 159 = .ok (.iaload, 1) := by decide +kernel
theorem dL_law_160 : decode cL_law 160 = .ok (.i2l, 1) := by decide +kernel
theorem dL_law_161 : decode cL_law 161 = .ok (.bipush 32, 2) := by decide +kernel
theorem dL_law_163 : decode cL_law 163 = .ok (.lshl, 1) := by decide +kernel
theorem dL_law_164 : decode cL_law 164 = .ok (.aload_n 0, 1) := by decide +kernel
theorem dL_law_165 : decode cL_law 165 = .ok (.iload_n 3, 1) := by decide +kernel
theorem dL_law_166 : decode cL_law 166 = .ok (.iconst 3, 1) := by decide +kernel
theorem dL_law_167 : decode cL_law 167 = .ok (.iadd, 1) := by decide +kernel
theorem dL_law_168 : decode cL_law 168 = .ok (.iaload, 1) := by decide +kernel
theorem dL_law_169 : decode cL_law 169 = .ok (.i2l, 1) := by decide +kernel
theorem dL_law_170 : decode cL_law 170 = .ok (.ldc2_w 18, 3) := by decide +kernel
theorem dL_law_173 : decode cL_law 173 = .ok (.land, 1) := by decide +kernel
theorem dL_law_174 : decode cL_law 174 = .ok (.lor, 1) := by decide +kernel
theorem dL_law_175 : decode cL_law 175 = .ok (.aload_n 0, 1) := by decide +kernel
theorem dL_law_176 : decode cL_law 176 = .ok (.iload_n 3, 1) := by decide +kernel
theorem dL_law_177 : decode cL_law 177 = .ok (.iconst 4, 1) := by decide +kernel
theorem dL_law_178 : decode cL_law 178 = .ok (.iadd, 1) := by decide +kernel
theorem dL_law_179 : decode cL_law 179 = .ok (.iaload, 1) := by decide +kernel
theorem dL_law_180 : decode cL_law 180 = .ok (.invokevirtual 20, 3) := by decide +kernel
theorem dL_law_183 : decode cL_law 183 = .ok (.aload_n 2, 1) := by decide +kernel
theorem dL_law_184 : decode cL_law 184 = .ok (.aload_n 0, 1) := by decide +kernel
theorem dL_law_185 : decode cL_law 185 = .ok (.iload_n 3, 1) := by decide +kernel
theorem dL_law_186 : decode cL_law 186 = .ok (.iconst 1, 1) := by decide +kernel
theorem dL_law_187 : decode cL_law 187 = .ok (.iadd, 1) := by decide +kernel
theorem dL_law_188 : decode cL_law 188 = .ok (.iaload, 1) := by decide +kernel
theorem dL_law_189 : decode cL_law 189 = .ok (.aload_n 0, 1) := by decide +kernel
theorem dL_law_190 : decode cL_law 190 = .ok (.iload_n 3, 1) := by decide +kernel
theorem dL_law_191 : decode cL_law 191 = .ok (.iconst 2, 1) := by decide +kernel
theorem dL_law_192 : decode cL_law 192 = .ok (.iadd, 1) := by decide +kernel
theorem dL_law_193 : decode cL_law 193 = .ok (.iaload, 1) := by decide +kernel
theorem dL_law_194 : decode cL_law 194 = .ok (.i2l, 1) := by decide +kernel
theorem dL_law_195 : decode cL_law 195 = .ok (.bipush 32, 2) := by decide +kernel
theorem dL_law_197 : decode cL_law 197 = .ok (.lshl, 1) := by decide +kernel
theorem dL_law_198 : decode cL_law 198 = .ok (.aload_n 0, 1) := by decide +kernel
theorem dL_law_199 : decode cL_law 199 = .ok (.iload_n 3, 1) := by decide +kernel
theorem dL_law_200 : decode cL_law 200 = .ok (.iconst 3, 1) := by decide +kernel
theorem dL_law_201 : decode cL_law 201 = .ok (.iadd, 1) := by decide +kernel
theorem dL_law_202 : decode cL_law 202 = .ok (.iaload, 1) := by decide +kernel
theorem dL_law_203 : decode cL_law 203 = .ok (.i2l, 1) := by decide +kernel
theorem dL_law_204 : decode cL_law 204 = .ok (.ldc2_w 18, 3) := by decide +kernel
theorem dL_law_207 : decode cL_law 207 = .ok (.land, 1) := by decide +kernel
theorem dL_law_208 : decode cL_law 208 = .ok (.lor, 1) := by decide +kernel
theorem dL_law_209 : decode cL_law 209 = .ok (.aload_n 0, 1) := by decide +kernel
theorem dL_law_210 : decode cL_law 210 = .ok (.iload_n 3, 1) := by decide +kernel
theorem dL_law_211 : decode cL_law 211 = .ok (.iconst 4, 1) := by decide +kernel
theorem dL_law_212 : decode cL_law 212 = .ok (.iadd, 1) := by decide +kernel
theorem dL_law_213 : decode cL_law 213 = .ok (.iaload, 1) := by decide +kernel
theorem dL_law_214 : decode cL_law 214 = .ok (.invokevirtual 24, 3) := by decide +kernel
theorem dL_law_217 : decode cL_law 217 = .ok (.if_icmp .eq 422, 3) := by decide +kernel
theorem dL_law_220 : decode cL_law 220 = .ok (.iconst 0, 1) := by decide +kernel
theorem dL_law_221 : decode cL_law 221 = .ok (.ireturn, 1) := by decide +kernel
theorem dL_law_222 : decode cL_law 222 = .ok (.aload_n 1, 1) := by decide +kernel
theorem dL_law_223 : decode cL_law 223 = .ok (.aload_n 0, 1) := by decide +kernel
theorem dL_law_224 : decode cL_law 224 = .ok (.iload_n 3, 1) := by decide +kernel
theorem dL_law_225 : decode cL_law 225 = .ok (.iconst 1, 1) := by decide +kernel
theorem dL_law_226 : decode cL_law 226 = .ok (.iadd, 1) := by decide +kernel
theorem dL_law_227 : decode cL_law 227 = .ok (.iaload, 1) := by decide +kernel
theorem dL_law_228 : decode cL_law 228 = .ok (.invokevirtual 25, 3) := by decide +kernel
theorem dL_law_231 : decode cL_law 231 = .ok (.aload_n 2, 1) := by decide +kernel
theorem dL_law_232 : decode cL_law 232 = .ok (.aload_n 0, 1) := by decide +kernel
theorem dL_law_233 : decode cL_law 233 = .ok (.iload_n 3, 1) := by decide +kernel
theorem dL_law_234 : decode cL_law 234 = .ok (.iconst 1, 1) := by decide +kernel
theorem dL_law_235 : decode cL_law 235 = .ok (.iadd, 1) := by decide +kernel
theorem dL_law_236 : decode cL_law 236 = .ok (.iaload, 1) := by decide +kernel
theorem dL_law_237 : decode cL_law 237 = .ok (.invokevirtual 29, 3) := by decide +kernel
theorem dL_law_240 : decode cL_law 240 = .ok (.if_icmp .eq 399, 3) := by decide +kernel
theorem dL_law_243 : decode cL_law 243 = .ok (.iconst 0, 1) := by decide +kernel
theorem dL_law_244 : decode cL_law 244 = .ok (.ireturn, 1) := by decide +kernel
theorem dL_law_245 : decode cL_law 245 = .ok (.aload_n 1, 1) := by decide +kernel
theorem dL_law_246 : decode cL_law 246 = .ok (.aload_n 0, 1) := by decide +kernel
theorem dL_law_247 : decode cL_law 247 = .ok (.iload_n 3, 1) := by decide +kernel
theorem dL_law_248 : decode cL_law 248 = .ok (.iconst 1, 1) := by decide +kernel
theorem dL_law_249 : decode cL_law 249 = .ok (.iadd, 1) := by decide +kernel
theorem dL_law_250 : decode cL_law 250 = .ok (.iaload, 1) := by decide +kernel
theorem dL_law_251 : decode cL_law 251 = .ok (.invokevirtual 30, 3) := by decide +kernel
theorem dL_law_254 : decode cL_law 254 = .ok (.aload_n 2, 1) := by decide +kernel
theorem dL_law_255 : decode cL_law 255 = .ok (.aload_n 0, 1) := by decide +kernel
theorem dL_law_256 : decode cL_law 256 = .ok (.iload_n 3, 1) := by decide +kernel
theorem dL_law_257 : decode cL_law 257 = .ok (.iconst 1, 1) := by decide +kernel
theorem dL_law_258 : decode cL_law 258 = .ok (.iadd, 1) := by decide +kernel
theorem dL_law_259 : decode cL_law 259 = .ok (.iaload, 1) := by decide +kernel
theorem dL_law_260 : decode cL_law 260 = .ok (.invokevirtual 33, 3) := by decide +kernel
theorem dL_law_263 : decode cL_law 263 = .ok (.if_icmp .eq 376, 3) := by decide +kernel
theorem dL_law_266 : decode cL_law 266 = .ok (.iconst 0, 1) := by decide +kernel
theorem dL_law_267 : decode cL_law 267 = .ok (.ireturn, 1) := by decide +kernel
theorem dL_law_268 : decode cL_law 268 = .ok (.aload_n 1, 1) := by decide +kernel
theorem dL_law_269 : decode cL_law 269 = .ok (.aload_n 0, 1) := by decide +kernel
theorem dL_law_270 : decode cL_law 270 = .ok (.iload_n 3, 1) := by decide +kernel
theorem dL_law_271 : decode cL_law 271 = .ok (.iconst 1, 1) := by decide +kernel
theorem dL_law_272 : decode cL_law 272 = .ok (.iadd, 1) := by decide +kernel
theorem dL_law_273 : decode cL_law 273 = .ok (.iaload, 1) := by decide +kernel
theorem dL_law_274 : decode cL_law 274 = .ok (.invokevirtual 34, 3) := by decide +kernel
theorem dL_law_277 : decode cL_law 277 = .ok (.aload_n 2, 1) := by decide +kernel
theorem dL_law_278 : decode cL_law 278 = .ok (.aload_n 0, 1) := by decide +kernel
theorem dL_law_279 : decode cL_law 279 = .ok (.iload_n 3, 1) := by decide +kernel
theorem dL_law_280 : decode cL_law 280 = .ok (.iconst 1, 1) := by decide +kernel
theorem dL_law_281 : decode cL_law 281 = .ok (.iadd, 1) := by decide +kernel
theorem dL_law_282 : decode cL_law 282 = .ok (.iaload, 1) := by decide +kernel
theorem dL_law_283 : decode cL_law 283 = .ok (.invokevirtual 37, 3) := by decide +kernel
theorem dL_law_286 : decode cL_law 286 = .ok (.if_icmp .eq 353, 3) := by decide +kernel
theorem dL_law_289 : decode cL_law 289 = .ok (.iconst 0, 1) := by decide +kernel
theorem dL_law_290 : decode cL_law 290 = .ok (.ireturn, 1) := by decide +kernel
theorem dL_law_291 : decode cL_law 291 = .ok (.aload_n 1, 1) := by decide +kernel
theorem dL_law_292 : decode cL_law 292 = .ok (.aload_n 0, 1) := by decide +kernel
theorem dL_law_293 : decode cL_law 293 = .ok (.iload_n 3, 1) := by decide +kernel
theorem dL_law_294 : decode cL_law 294 = .ok (.iconst 1, 1) := by decide +kernel
theorem dL_law_295 : decode cL_law 295 = .ok (.iadd, 1) := by decide +kernel
theorem dL_law_296 : decode cL_law 296 = .ok (.iaload, 1) := by decide +kernel
theorem dL_law_297 : decode cL_law 297 = .ok (.invokevirtual 38, 3) := by decide +kernel
theorem dL_law_300 : decode cL_law 300 = .ok (.aload_n 2, 1) := by decide +kernel
theorem dL_law_301 : decode cL_law 301 = .ok (.aload_n 0, 1) := by decide +kernel
theorem dL_law_302 : decode cL_law 302 = .ok (.iload_n 3, 1) := by decide +kernel
theorem dL_law_303 : decode cL_law 303 = .ok (.iconst 1, 1) := by decide +kernel
theorem dL_law_304 : decode cL_law 304 = .ok (.iadd, 1) := by decide +kernel
theorem dL_law_305 : decode cL_law 305 = .ok (.iaload, 1) := by decide +kernel
theorem dL_law_306 : decode cL_law 306 = .ok (.invokevirtual 41, 3) := by decide +kernel
theorem dL_law_309 : decode cL_law 309 = .ok (.if_icmp .eq 330, 3) := by decide +kernel
theorem dL_law_312 : decode cL_law 312 = .ok (.iconst 0, 1) := by decide +kernel
theorem dL_law_313 : decode cL_law 313 = .ok (.ireturn, 1) := by decide +kernel
theorem dL_law_314 : decode cL_law 314 = .ok (.aload_n 1, 1) := by decide +kernel
theorem dL_law_315 : decode cL_law 315 = .ok (.aload_n 0, 1) := by decide +kernel
theorem dL_law_316 : decode cL_law 316 = .ok (.iload_n 3, 1) := by decide +kernel
theorem dL_law_317 : decode cL_law 317 = .ok (.iconst 1, 1) := by decide +kernel
theorem dL_law_318 : decode cL_law 318 = .ok (.iadd, 1) := by decide +kernel
theorem dL_law_319 : decode cL_law 319 = .ok (.iaload, 1) := by decide +kernel
theorem dL_law_320 : decode cL_law 320 = .ok (.aload_n 0, 1) := by decide +kernel
theorem dL_law_321 : decode cL_law 321 = .ok (.iload_n 3, 1) := by decide +kernel
theorem dL_law_322 : decode cL_law 322 = .ok (.iconst 2, 1) := by decide +kernel
theorem dL_law_323 : decode cL_law 323 = .ok (.iadd, 1) := by decide +kernel
theorem dL_law_324 : decode cL_law 324 = .ok (.iaload, 1) := by decide +kernel
theorem dL_law_325 : decode cL_law 325 = .ok (.i2l, 1) := by decide +kernel
theorem dL_law_326 : decode cL_law 326 = .ok (.bipush 32, 2) := by decide +kernel
theorem dL_law_328 : decode cL_law 328 = .ok (.lshl, 1) := by decide +kernel
theorem dL_law_329 : decode cL_law 329 = .ok (.aload_n 0, 1) := by decide +kernel
theorem dL_law_330 : decode cL_law 330 = .ok (.iload_n 3, 1) := by decide +kernel
theorem dL_law_331 : decode cL_law 331 = .ok (.iconst 3, 1) := by decide +kernel
theorem dL_law_332 : decode cL_law 332 = .ok (.iadd, 1) := by decide +kernel
theorem dL_law_333 : decode cL_law 333 = .ok (.iaload, 1) := by decide +kernel
theorem dL_law_334 : decode cL_law 334 = .ok (.i2l, 1) := by decide +kernel
theorem dL_law_335 : decode cL_law 335 = .ok (.ldc2_w 18, 3) := by decide +kernel
theorem dL_law_338 : decode cL_law 338 = .ok (.land, 1) := by decide +kernel
theorem dL_law_339 : decode cL_law 339 = .ok (.lor, 1) := by decide +kernel
theorem dL_law_340 : decode cL_law 340 = .ok (.invokevirtual 42, 3) := by decide +kernel
theorem dL_law_343 : decode cL_law 343 = .ok (.aload_n 2, 1) := by decide +kernel
theorem dL_law_344 : decode cL_law 344 = .ok (.aload_n 0, 1) := by decide +kernel
theorem dL_law_345 : decode cL_law 345 = .ok (.iload_n 3, 1) := by decide +kernel
theorem dL_law_346 : decode cL_law 346 = .ok (.iconst 1, 1) := by decide +kernel
theorem dL_law_347 : decode cL_law 347 = .ok (.iadd, 1) := by decide +kernel
theorem dL_law_348 : decode cL_law 348 = .ok (.iaload, 1) := by decide +kernel
theorem dL_law_349 : decode cL_law 349 = .ok (.aload_n 0, 1) := by decide +kernel
theorem dL_law_350 : decode cL_law 350 = .ok (.iload_n 3, 1) := by decide +kernel
theorem dL_law_351 : decode cL_law 351 = .ok (.iconst 2, 1) := by decide +kernel
theorem dL_law_352 : decode cL_law 352 = .ok (.iadd, 1) := by decide +kernel
theorem dL_law_353 : decode cL_law 353 = .ok (.iaload, 1) := by decide +kernel
theorem dL_law_354 : decode cL_law 354 = .ok (.i2l, 1) := by decide +kernel
theorem dL_law_355 : decode cL_law 355 = .ok (.bipush 32, 2) := by decide +kernel
theorem dL_law_357 : decode cL_law 357 = .ok (.lshl, 1) := by decide +kernel
theorem dL_law_358 : decode cL_law 358 = .ok (.aload_n 0, 1) := by decide +kernel
theorem dL_law_359 : decode cL_law 359 = .ok (.iload_n 3, 1) := by decide +kernel
theorem dL_law_360 : decode cL_law 360 = .ok (.iconst 3, 1) := by decide +kernel
theorem dL_law_361 : decode cL_law 361 = .ok (.iadd, 1) := by decide +kernel
theorem dL_law_362 : decode cL_law 362 = .ok (.iaload, 1) := by decide +kernel
theorem dL_law_363 : decode cL_law 363 = .ok (.i2l, 1) := by decide +kernel
theorem dL_law_364 : decode cL_law 364 = .ok (.ldc2_w 18, 3) := by decide +kernel
theorem dL_law_367 : decode cL_law 367 = .ok (.land, 1) := by decide +kernel
theorem dL_law_368 : decode cL_law 368 = .ok (.lor, 1) := by decide +kernel
theorem dL_law_369 : decode cL_law 369 = .ok (.invokevirtual 46, 3) := by decide +kernel
theorem dL_law_372 : decode cL_law 372 = .ok (.if_icmp .eq 267, 3) := by decide +kernel
theorem dL_law_375 : decode cL_law 375 = .ok (.iconst 0, 1) := by decide +kernel
theorem dL_law_376 : decode cL_law 376 = .ok (.ireturn, 1) := by decide +kernel
theorem dL_law_377 : decode cL_law 377 = .ok (.aload_n 1, 1) := by decide +kernel
theorem dL_law_378 : decode cL_law 378 = .ok (.aload_n 0, 1) := by decide +kernel
theorem dL_law_379 : decode cL_law 379 = .ok (.iload_n 3, 1) := by decide +kernel
theorem dL_law_380 : decode cL_law 380 = .ok (.iconst 1, 1) := by decide +kernel
theorem dL_law_381 : decode cL_law 381 = .ok (.iadd, 1) := by decide +kernel
theorem dL_law_382 : decode cL_law 382 = .ok (.iaload, 1) := by decide +kernel
theorem dL_law_383 : decode cL_law 383 = .ok (.invokevirtual 47, 3) := by decide +kernel
theorem dL_law_386 : decode cL_law 386 = .ok (.aload_n 2, 1) := by decide +kernel
theorem dL_law_387 : decode cL_law 387 = .ok (.aload_n 0, 1) := by decide +kernel
theorem dL_law_388 : decode cL_law 388 = .ok (.iload_n 3, 1) := by decide +kernel
theorem dL_law_389 : decode cL_law 389 = .ok (.iconst 1, 1) := by decide +kernel
theorem dL_law_390 : decode cL_law 390 = .ok (.iadd, 1) := by decide +kernel
theorem dL_law_391 : decode cL_law 391 = .ok (.iaload, 1) := by decide +kernel
theorem dL_law_392 : decode cL_law 392 = .ok (.invokevirtual 50, 3) := by decide +kernel
theorem dL_law_395 : decode cL_law 395 = .ok (.if_icmp .eq 244, 3) := by decide +kernel
theorem dL_law_398 : decode cL_law 398 = .ok (.iconst 0, 1) := by decide +kernel
theorem dL_law_399 : decode cL_law 399 = .ok (.ireturn, 1) := by decide +kernel
theorem dL_law_400 : decode cL_law 400 = .ok (.aload_n 1, 1) := by decide +kernel
theorem dL_law_401 : decode cL_law 401 = .ok (.aload_n 0, 1) := by decide +kernel
theorem dL_law_402 : decode cL_law 402 = .ok (.iload_n 3, 1) := by decide +kernel
theorem dL_law_403 : decode cL_law 403 = .ok (.iconst 1, 1) := by decide +kernel
theorem dL_law_404 : decode cL_law 404 = .ok (.iadd, 1) := by decide +kernel
theorem dL_law_405 : decode cL_law 405 = .ok (.iaload, 1) := by decide +kernel
theorem dL_law_406 : decode cL_law 406 = .ok (.aload_n 0, 1) := by decide +kernel
theorem dL_law_407 : decode cL_law 407 = .ok (.iload_n 3, 1) := by decide +kernel
theorem dL_law_408 : decode cL_law 408 = .ok (.iconst 2, 1) := by decide +kernel
theorem dL_law_409 : decode cL_law 409 = .ok (.iadd, 1) := by decide +kernel
theorem dL_law_410 : decode cL_law 410 = .ok (.iaload, 1) := by decide +kernel
theorem dL_law_411 : decode cL_law 411 = .ok (.invokevirtual 51, 3) := by decide +kernel
theorem dL_law_414 : decode cL_law 414 = .ok (.aload_n 2, 1) := by decide +kernel
theorem dL_law_415 : decode cL_law 415 = .ok (.aload_n 0, 1) := by decide +kernel
theorem dL_law_416 : decode cL_law 416 = .ok (.iload_n 3, 1) := by decide +kernel
theorem dL_law_417 : decode cL_law 417 = .ok (.iconst 1, 1) := by decide +kernel
theorem dL_law_418 : decode cL_law 418 = .ok (.iadd, 1) := by decide +kernel
theorem dL_law_419 : decode cL_law 419 = .ok (.iaload, 1) := by decide +kernel
theorem dL_law_420 : decode cL_law 420 = .ok (.aload_n 0, 1) := by decide +kernel
theorem dL_law_421 : decode cL_law 421 = .ok (.iload_n 3, 1) := by decide +kernel
theorem dL_law_422 : decode cL_law 422 = .ok (.iconst 2, 1) := by decide +kernel
theorem dL_law_423 : decode cL_law 423 = .ok (.iadd, 1) := by decide +kernel
theorem dL_law_424 : decode cL_law 424 = .ok (.iaload, 1) := by decide +kernel
theorem dL_law_425 : decode cL_law 425 = .ok (.invokevirtual 54, 3) := by decide +kernel
theorem dL_law_428 : decode cL_law 428 = .ok (.if_icmp .eq 211, 3) := by decide +kernel
theorem dL_law_431 : decode cL_law 431 = .ok (.iconst 0, 1) := by decide +kernel
theorem dL_law_432 : decode cL_law 432 = .ok (.ireturn, 1) := by decide +kernel
theorem dL_law_433 : decode cL_law 433 = .ok (.aload_n 1, 1) := by decide +kernel
theorem dL_law_434 : decode cL_law 434 = .ok (.aload_n 0, 1) := by decide +kernel
theorem dL_law_435 : decode cL_law 435 = .ok (.iload_n 3, 1) := by decide +kernel
theorem dL_law_436 : decode cL_law 436 = .ok (.iconst 1, 1) := by decide +kernel
theorem dL_law_437 : decode cL_law 437 = .ok (.iadd, 1) := by decide +kernel
theorem dL_law_438 : decode cL_law 438 = .ok (.iaload, 1) := by decide +kernel
theorem dL_law_439 : decode cL_law 439 = .ok (.aload_n 0, 1) := by decide +kernel
theorem dL_law_440 : decode cL_law 440 = .ok (.iload_n 3, 1) := by decide +kernel
theorem dL_law_441 : decode cL_law 441 = .ok (.iconst 2, 1) := by decide +kernel
theorem dL_law_442 : decode cL_law 442 = .ok (.iadd, 1) := by decide +kernel
theorem dL_law_443 : decode cL_law 443 = .ok (.iaload, 1) := by decide +kernel
theorem dL_law_444 : decode cL_law 444 = .ok (.aload_n 0, 1) := by decide +kernel
theorem dL_law_445 : decode cL_law 445 = .ok (.iload_n 3, 1) := by decide +kernel
theorem dL_law_446 : decode cL_law 446 = .ok (.iconst 3, 1) := by decide +kernel
theorem dL_law_447 : decode cL_law 447 = .ok (.iadd, 1) := by decide +kernel
theorem dL_law_448 : decode cL_law 448 = .ok (.iaload, 1) := by decide +kernel
theorem dL_law_449 : decode cL_law 449 = .ok (.invokevirtual 55, 3) := by decide +kernel
theorem dL_law_452 : decode cL_law 452 = .ok (.aload_n 2, 1) := by decide +kernel
theorem dL_law_453 : decode cL_law 453 = .ok (.aload_n 0, 1) := by decide +kernel
theorem dL_law_454 : decode cL_law 454 = .ok (.iload_n 3, 1) := by decide +kernel
theorem dL_law_455 : decode cL_law 455 = .ok (.iconst 1, 1) := by decide +kernel
theorem dL_law_456 : decode cL_law 456 = .ok (.iadd, 1) := by decide +kernel
theorem dL_law_457 : decode cL_law 457 = .ok (.iaload, 1) := by decide +kernel
theorem dL_law_458 : decode cL_law 458 = .ok (.aload_n 0, 1) := by decide +kernel
theorem dL_law_459 : decode cL_law 459 = .ok (.iload_n 3, 1) := by decide +kernel
theorem dL_law_460 : decode cL_law 460 = .ok (.iconst 2, 1) := by decide +kernel
theorem dL_law_461 : decode cL_law 461 = .ok (.iadd, 1) := by decide +kernel
theorem dL_law_462 : decode cL_law 462 = .ok (.iaload, 1) := by decide +kernel
theorem dL_law_463 : decode cL_law 463 = .ok (.aload_n 0, 1) := by decide +kernel
theorem dL_law_464 : decode cL_law 464 = .ok (.iload_n 3, 1) := by decide +kernel
theorem dL_law_465 : decode cL_law 465 = .ok (.iconst 3, 1) := by decide +kernel
theorem dL_law_466 : decode cL_law 466 = .ok (.iadd, 1) := by decide +kernel
theorem dL_law_467 : decode cL_law 467 = .ok (.iaload, 1) := by decide +kernel
theorem dL_law_468 : decode cL_law 468 = .ok (.invokevirtual 59, 3) := by decide +kernel
theorem dL_law_471 : decode cL_law 471 = .ok (.if_icmp .eq 168, 3) := by decide +kernel
theorem dL_law_474 : decode cL_law 474 = .ok (.iconst 0, 1) := by decide +kernel
theorem dL_law_475 : decode cL_law 475 = .ok (.ireturn, 1) := by decide +kernel
theorem dL_law_476 : decode cL_law 476 = .ok (.aload_n 1, 1) := by decide +kernel
theorem dL_law_477 : decode cL_law 477 = .ok (.aload_n 0, 1) := by decide +kernel
theorem dL_law_478 : decode cL_law 478 = .ok (.iload_n 3, 1) := by decide +kernel
theorem dL_law_479 : decode cL_law 479 = .ok (.iconst 1, 1) := by decide +kernel
theorem dL_law_480 : decode cL_law 480 = .ok (.iadd, 1) := by decide +kernel
theorem dL_law_481 : decode cL_law 481 = .ok (.iaload, 1) := by decide +kernel
theorem dL_law_482 : decode cL_law 482 = .ok (.invokevirtual 60, 3) := by decide +kernel
theorem dL_law_485 : decode cL_law 485 = .ok (.aload_n 2, 1) := by decide +kernel
theorem dL_law_486 : decode cL_law 486 = .ok (.aload_n 0, 1) := by decide +kernel
theorem dL_law_487 : decode cL_law 487 = .ok (.iload_n 3, 1) := by decide +kernel
theorem dL_law_488 : decode cL_law 488 = .ok (.iconst 1, 1) := by decide +kernel
theorem dL_law_489 : decode cL_law 489 = .ok (.iadd, 1) := by decide +kernel
theorem dL_law_490 : decode cL_law 490 = .ok (.iaload, 1) := by decide +kernel
theorem dL_law_491 : decode cL_law 491 = .ok (.invokevirtual 63, 3) := by decide +kernel
theorem dL_law_494 : decode cL_law 494 = .ok (.if_icmp .eq 145, 3) := by decide +kernel
theorem dL_law_497 : decode cL_law 497 = .ok (.iconst 0, 1) := by decide +kernel
theorem dL_law_498 : decode cL_law 498 = .ok (.ireturn, 1) := by decide +kernel
theorem dL_law_499 : decode cL_law 499 = .ok (.aload_n 1, 1) := by decide +kernel
theorem dL_law_500 : decode cL_law 500 = .ok (.aload_n 0, 1) := by decide +kernel
theorem dL_law_501 : decode cL_law 501 = .ok (.iload_n 3, 1) := by decide +kernel
theorem dL_law_502 : decode cL_law 502 = .ok (.iconst 1, 1) := by decide +kernel
theorem dL_law_503 : decode cL_law 503 = .ok (.iadd, 1) := by decide +kernel
theorem dL_law_504 : decode cL_law 504 = .ok (.iaload, 1) := by decide +kernel
theorem dL_law_505 : decode cL_law 505 = .ok (.invokevirtual 64, 3) := by decide +kernel
theorem dL_law_508 : decode cL_law 508 = .ok (.aload_n 2, 1) := by decide +kernel
theorem dL_law_509 : decode cL_law 509 = .ok (.aload_n 0, 1) := by decide +kernel
theorem dL_law_510 : decode cL_law 510 = .ok (.iload_n 3, 1) := by decide +kernel
theorem dL_law_511 : decode cL_law 511 = .ok (.iconst 1, 1) := by decide +kernel
theorem dL_law_512 : decode cL_law 512 = .ok (.iadd, 1) := by decide +kernel
theorem dL_law_513 : decode cL_law 513 = .ok (.iaload, 1) := by decide +kernel
theorem dL_law_514 : decode cL_law 514 = .ok (.invokevirtual 67, 3) := by decide +kernel
theorem dL_law_517 : decode cL_law 517 = .ok (.if_icmp .eq 122, 3) := by decide +kernel
theorem dL_law_520 : decode cL_law 520 = .ok (.iconst 0, 1) := by decide +kernel
theorem dL_law_521 : decode cL_law 521 = .ok (.ireturn, 1) := by decide +kernel
theorem dL_law_522 : decode cL_law 522 = .ok (.aload_n 1, 1) := by decide +kernel
theorem dL_law_523 : decode cL_law 523 = .ok (.aload_n 0, 1) := by decide +kernel
theorem dL_law_524 : decode cL_law 524 = .ok (.iload_n 3, 1) := by decide +kernel
theorem dL_law_525 : decode cL_law 525 = .ok (.iconst 1, 1) := by decide +kernel
theorem dL_law_526 : decode cL_law 526 = .ok (.iadd, 1) := by decide +kernel
theorem dL_law_527 : decode cL_law 527 = .ok (.iaload, 1) := by decide +kernel
theorem dL_law_528 : decode cL_law 528 = .ok (.invokevirtual 68, 3) := by decide +kernel
theorem dL_law_531 : decode cL_law 531 = .ok (.aload_n 2, 1) := by decide +kernel
theorem dL_law_532 : decode cL_law 532 = .ok (.aload_n 0, 1) := by decide +kernel
theorem dL_law_533 : decode cL_law 533 = .ok (.iload_n 3, 1) := by decide +kernel
theorem dL_law_534 : decode cL_law 534 = .ok (.iconst 1, 1) := by decide +kernel
theorem dL_law_535 : decode cL_law 535 = .ok (.iadd, 1) := by decide +kernel
theorem dL_law_536 : decode cL_law 536 = .ok (.iaload, 1) := by decide +kernel
theorem dL_law_537 : decode cL_law 537 = .ok (.invokevirtual 72, 3) := by decide +kernel
theorem dL_law_540 : decode cL_law 540 = .ok (.lcmp, 1) := by decide +kernel
theorem dL_law_541 : decode cL_law 541 = .ok (.ifCond .eq 98, 3) := by decide +kernel
theorem dL_law_544 : decode cL_law 544 = .ok (.iconst 0, 1) := by decide +kernel
theorem dL_law_545 : decode cL_law 545 = .ok (.ireturn, 1) := by decide +kernel
theorem dL_law_546 : decode cL_law 546 = .ok (.aload_n 1, 1) := by decide +kernel
theorem dL_law_547 : decode cL_law 547 = .ok (.aload_n 0, 1) := by decide +kernel
theorem dL_law_548 : decode cL_law 548 = .ok (.iload_n 3, 1) := by decide +kernel
theorem dL_law_549 : decode cL_law 549 = .ok (.iconst 1, 1) := by decide +kernel
theorem dL_law_550 : decode cL_law 550 = .ok (.iadd, 1) := by decide +kernel
theorem dL_law_551 : decode cL_law 551 = .ok (.iaload, 1) := by decide +kernel
theorem dL_law_552 : decode cL_law 552 = .ok (.invokevirtual 73, 3) := by decide +kernel
theorem dL_law_555 : decode cL_law 555 = .ok (.aload_n 2, 1) := by decide +kernel
theorem dL_law_556 : decode cL_law 556 = .ok (.aload_n 0, 1) := by decide +kernel
theorem dL_law_557 : decode cL_law 557 = .ok (.iload_n 3, 1) := by decide +kernel
theorem dL_law_558 : decode cL_law 558 = .ok (.iconst 1, 1) := by decide +kernel
theorem dL_law_559 : decode cL_law 559 = .ok (.iadd, 1) := by decide +kernel
theorem dL_law_560 : decode cL_law 560 = .ok (.iaload, 1) := by decide +kernel
theorem dL_law_561 : decode cL_law 561 = .ok (.invokevirtual 76, 3) := by decide +kernel
theorem dL_law_564 : decode cL_law 564 = .ok (.lcmp, 1) := by decide +kernel
theorem dL_law_565 : decode cL_law 565 = .ok (.ifCond .eq 74, 3) := by decide +kernel
theorem dL_law_568 : decode cL_law 568 = .ok (.iconst 0, 1) := by decide +kernel
theorem dL_law_569 : decode cL_law 569 = .ok (.ireturn, 1) := by decide +kernel
theorem dL_law_570 : decode cL_law 570 = .ok (.aload_n 1, 1) := by decide +kernel
theorem dL_law_571 : decode cL_law 571 = .ok (.aload_n 0, 1) := by decide +kernel
theorem dL_law_572 : decode cL_law 572 = .ok (.iload_n 3, 1) := by decide +kernel
theorem dL_law_573 : decode cL_law 573 = .ok (.iconst 1, 1) := by decide +kernel
theorem dL_law_574 : decode cL_law 574 = .ok (.iadd, 1) := by decide +kernel
theorem dL_law_575 : decode cL_law 575 = .ok (.iaload, 1) := by decide +kernel
theorem dL_law_576 : decode cL_law 576 = .ok (.invokevirtual 77, 3) := by decide +kernel
theorem dL_law_579 : decode cL_law 579 = .ok (.aload_n 2, 1) := by decide +kernel
theorem dL_law_580 : decode cL_law 580 = .ok (.aload_n 0, 1) := by decide +kernel
theorem dL_law_581 : decode cL_law 581 = .ok (.iload_n 3, 1) := by decide +kernel
theorem dL_law_582 : decode cL_law 582 = .ok (.iconst 1, 1) := by decide +kernel
theorem dL_law_583 : decode cL_law 583 = .ok (.iadd, 1) := by decide +kernel
theorem dL_law_584 : decode cL_law 584 = .ok (.iaload, 1) := by decide +kernel
theorem dL_law_585 : decode cL_law 585 = .ok (.invokevirtual 80, 3) := by decide +kernel
theorem dL_law_588 : decode cL_law 588 = .ok (.if_icmp .eq 51, 3) := by decide +kernel
theorem dL_law_591 : decode cL_law 591 = .ok (.iconst 0, 1) := by decide +kernel
theorem dL_law_592 : decode cL_law 592 = .ok (.ireturn, 1) := by decide +kernel
theorem dL_law_593 : decode cL_law 593 = .ok (.aload_n 1, 1) := by decide +kernel
theorem dL_law_594 : decode cL_law 594 = .ok (.aload_n 0, 1) := by decide +kernel
theorem dL_law_595 : decode cL_law 595 = .ok (.iload_n 3, 1) := by decide +kernel
theorem dL_law_596 : decode cL_law 596 = .ok (.iconst 1, 1) := by decide +kernel
theorem dL_law_597 : decode cL_law 597 = .ok (.iadd, 1) := by decide +kernel
theorem dL_law_598 : decode cL_law 598 = .ok (.iaload, 1) := by decide +kernel
theorem dL_law_599 : decode cL_law 599 = .ok (.invokevirtual 81, 3) := by decide +kernel
theorem dL_law_602 : decode cL_law 602 = .ok (.aload_n 2, 1) := by decide +kernel
theorem dL_law_603 : decode cL_law 603 = .ok (.aload_n 0, 1) := by decide +kernel
theorem dL_law_604 : decode cL_law 604 = .ok (.iload_n 3, 1) := by decide +kernel
theorem dL_law_605 : decode cL_law 605 = .ok (.iconst 1, 1) := by decide +kernel
theorem dL_law_606 : decode cL_law 606 = .ok (.iadd, 1) := by decide +kernel
theorem dL_law_607 : decode cL_law 607 = .ok (.iaload, 1) := by decide +kernel
theorem dL_law_608 : decode cL_law 608 = .ok (.invokevirtual 84, 3) := by decide +kernel
theorem dL_law_611 : decode cL_law 611 = .ok (.if_icmp .eq 28, 3) := by decide +kernel
theorem dL_law_614 : decode cL_law 614 = .ok (.iconst 0, 1) := by decide +kernel
theorem dL_law_615 : decode cL_law 615 = .ok (.ireturn, 1) := by decide +kernel
theorem dL_law_616 : decode cL_law 616 = .ok (.aload_n 1, 1) := by decide +kernel
theorem dL_law_617 : decode cL_law 617 = .ok (.aload_n 0, 1) := by decide +kernel
theorem dL_law_618 : decode cL_law 618 = .ok (.iload_n 3, 1) := by decide +kernel
theorem dL_law_619 : decode cL_law 619 = .ok (.iconst 1, 1) := by decide +kernel
theorem dL_law_620 : decode cL_law 620 = .ok (.iadd, 1) := by decide +kernel
theorem dL_law_621 : decode cL_law 621 = .ok (.iaload, 1) := by decide +kernel
theorem dL_law_622 : decode cL_law 622 = .ok (.invokevirtual 85, 3) := by decide +kernel
theorem dL_law_625 : decode cL_law 625 = .ok (.aload_n 2, 1) := by decide +kernel
theorem dL_law_626 : decode cL_law 626 = .ok (.aload_n 0, 1) := by decide +kernel
theorem dL_law_627 : decode cL_law 627 = .ok (.iload_n 3, 1) := by decide +kernel
theorem dL_law_628 : decode cL_law 628 = .ok (.iconst 1, 1) := by decide +kernel
theorem dL_law_629 : decode cL_law 629 = .ok (.iadd, 1) := by decide +kernel
theorem dL_law_630 : decode cL_law 630 = .ok (.iaload, 1) := by decide +kernel
theorem dL_law_631 : decode cL_law 631 = .ok (.invokevirtual 88, 3) := by decide +kernel
theorem dL_law_634 : decode cL_law 634 = .ok (.if_icmp .eq 5, 3) := by decide +kernel
theorem dL_law_637 : decode cL_law 637 = .ok (.iconst 0, 1) := by decide +kernel
theorem dL_law_638 : decode cL_law 638 = .ok (.ireturn, 1) := by decide +kernel
theorem dL_law_639 : decode cL_law 639 = .ok (.iinc 3 5, 3) := by decide +kernel
theorem dL_law_642 : decode cL_law 642 = .ok (.goto (-624), 3) := by decide +kernel
theorem dL_law_645 : decode cL_law 645 = .ok (.iconst 1, 1) := by decide +kernel
theorem dL_law_646 : decode cL_law 646 = .ok (.ireturn, 1) := by decide +kernel
abbrev vwCl : List vw_C := [(RX0, TX0, 9), (RX1, TX1, 9)]
end
section
/-! my own wrappers: a contract over a world whose new world and answer are terms; a body theorem is a walk with a free end -/
abbrev xR (F L : Nat) : Room := { frames := F, cells := 0, slots := 0, locals := L }
abbrev xPre (dC : Nat → ClassId) (dI : Nat → Nat → Nat) (tys : List (ClassId × FieldType)) (w0 : va_W) (sz : Nat) : State → Prop := fun U => U.heap.size = sz ∧ va_P (dC, dI) vwCl w0 U.heap ∧ va_K (dC, dI) vwCl tys U ∧ va_D (fun _ => True) w0
abbrev xB (dC : Nat → ClassId) (dI : Nat → Nat → Nat) (tys : List (ClassId × FieldType)) (A : Nat → Prop) (w1 : va_W) : Unit → State → Prop := fun _ t => va_P (dC, dI) vwCl w1 t.heap ∧ va_K (dC, dI) vwCl tys t ∧ va_D A w1
abbrev xMi (l : Launch) (y : MethodName) (ws : List Cond) (rm : Room) (dC : Nat → ClassId) (dI : Nat → Nat → Nat) (tys : List (ClassId × FieldType)) (avs : List Value) (w0 w1 : va_W) (v : Int32) (sz : Nat) : Prop :=
  Met l y ws rm (va_Pc avs (xPre dC dI tys w0 sz)) (va_Qi (fun r (_ : Unit) => r = v) (xB dC dI tys (va_A w0 sz) w1) (va_A w0 sz)) 0 0 (va_A w0 sz)
abbrev xMl (l : Launch) (y : MethodName) (ws : List Cond) (rm : Room) (dC : Nat → ClassId) (dI : Nat → Nat → Nat) (tys : List (ClassId × FieldType)) (avs : List Value) (w0 w1 : va_W) (v : Int64) (sz : Nat) : Prop :=
  Met l y ws rm (va_Pc avs (xPre dC dI tys w0 sz)) (va_Ql (fun r (_ : Unit) => r = v) (xB dC dI tys (va_A w0 sz) w1) (va_A w0 sz)) 0 0 (va_A w0 sz)
abbrev xMv (l : Launch) (y : MethodName) (ws : List Cond) (rm : Room) (dC : Nat → ClassId) (dI : Nat → Nat → Nat) (tys : List (ClassId × FieldType)) (avs : List Value) (w0 w1 : va_W) (sz : Nat) : Prop :=
  Met l y ws rm (va_Pc avs (xPre dC dI tys w0 sz)) (va_Qv (fun (_ : Unit) => True) (xB dC dI tys (va_A w0 sz) w1) (va_A w0 sz)) 0 0 (va_A w0 sz)
theorem xinc (i : Nat) : nI i + Int32.ofInt 1 = nI (i + 1) := by
  rw [nI_succ i, show Int32.ofInt 1 = (1 : Int32) from by decide]
section
variable {l : Launch} {y : MethodName} {ws ws' : List Cond} {rm : Room} {cc : ByteArray} {maxL : Nat} {own : String} {dC : Nat → ClassId} {dI : Nat → Nat → Nat} {tys : List (ClassId × FieldType)} {avs : List Value} {w0 w1 : va_W} {sz : Nat}
set_option maxHeartbeats 4000000 in
theorem xmet_i {ty : FieldType} {v : Int32} (hy : plainName y.cls = true) (hw : ws = Cond.code y cc maxL (some ty) :: ws') (hn : narrow ty (.int v) = .int v) (hlen : (lg_sl avs).length ≤ maxL) (ho : y.cls = own)
    (body : ∀ (p : Program) (e : Env) (s : State) (m : MethodId) (args : Array Value) (below : List Frame) (meth : Method) (c : Code) (Q : State → Prop) (A : Nat → Prop) (ls : Array Slot), CallFix p m c cc maxL s args ws own → va_K (dC, dI) vwCl tys s → (∀ q : Nat, s.heap.size ≤ q → A q) → va_P (dC, dI) vwCl w0 s.heap → va_D A w0 → lv_has ls maxL (lv_args 0 avs) →
      (∀ (H : Heap) (locs : List Loc) (pc : Nat) (ls : Array Slot), decode cc pc = .ok (.ireturn, 1) → va_P (dC, dI) vwCl w1 H → va_D A w1 → va_S A s.heap H locs → W p l e rm s m args below meth c H locs 0 0 Q (F0 m pc ls [.int v])) →
      W p l e rm s m args below meth c s.heap [] 0 0 Q (F0 m 0 ls [])) : xMi l y ws rm dC dI tys avs w0 w1 v sz := by
  subst ho
  refine Met.ofW (cc := cc) (maxL := maxL) (ret := some ty) hy hw ?_
  intro p e s m args below meth c s₁ B hml hv
  obtain ⟨rfl, hsz, hP, hK, hD0⟩ := hv
  have hx := B.exec
  have hb := B.bytes
  have hr := B.returns
  have hts := atoms_spec (ws := ws) B.pre
  have hown : s.vm.findClass y.cls = some m.cls := findClass_of_methodNamed B.named
  have hlocks := B.notSynchronized
  subst hsz
  have hD := hD0.self (sz := s.heap.size)
  have hA : ∀ q : Nat, s.heap.size ≤ q → va_A w0 s.heap.size q := fun q h => Or.inr h
  have hl := lv_entry avs (n := maxL) hlen
  rw [lg_entry_eq]
  refine body p e s m _ below meth c _ (va_A w0 s.heap.size) _ ⟨hx, hb, hml, hown, hts⟩ hK hA hP hD hl ?_
  intro H locs pc ls hd hP1 hD1 hS1
  exact W.zret hx hb hr hn (fun t ht hW => ⟨⟨v, (), rfl, rfl, by rw [ht]; exact hP1, va_K.moved hW.alike hK, hD1⟩, hS1.F ht⟩) hS1.2.2 hd
set_option maxHeartbeats 4000000 in
theorem xmet_l {v : Int64} (hy : plainName y.cls = true) (hw : ws = Cond.code y cc maxL (some .long) :: ws') (hlen : (lg_sl avs).length ≤ maxL) (ho : y.cls = own)
    (body : ∀ (p : Program) (e : Env) (s : State) (m : MethodId) (args : Array Value) (below : List Frame) (meth : Method) (c : Code) (Q : State → Prop) (A : Nat → Prop) (ls : Array Slot), CallFix p m c cc maxL s args ws own → va_K (dC, dI) vwCl tys s → (∀ q : Nat, s.heap.size ≤ q → A q) → va_P (dC, dI) vwCl w0 s.heap → va_D A w0 → lv_has ls maxL (lv_args 0 avs) →
      (∀ (H : Heap) (locs : List Loc) (pc : Nat) (ls : Array Slot), decode cc pc = .ok (.lreturn, 1) → va_P (dC, dI) vwCl w1 H → va_D A w1 → va_S A s.heap H locs → W p l e rm s m args below meth c H locs 0 0 Q (F0 m pc ls [.long v])) →
      W p l e rm s m args below meth c s.heap [] 0 0 Q (F0 m 0 ls [])) : xMl l y ws rm dC dI tys avs w0 w1 v sz := by
  subst ho
  refine Met.ofW (cc := cc) (maxL := maxL) (ret := some .long) hy hw ?_
  intro p e s m args below meth c s₁ B hml hv
  obtain ⟨rfl, hsz, hP, hK, hD0⟩ := hv
  have hx := B.exec
  have hb := B.bytes
  have hr := B.returns
  have hts := atoms_spec (ws := ws) B.pre
  have hown : s.vm.findClass y.cls = some m.cls := findClass_of_methodNamed B.named
  have hlocks := B.notSynchronized
  subst hsz
  have hD := hD0.self (sz := s.heap.size)
  have hA : ∀ q : Nat, s.heap.size ≤ q → va_A w0 s.heap.size q := fun q h => Or.inr h
  have hl := lv_entry avs (n := maxL) hlen
  rw [lg_entry_eq]
  refine body p e s m _ below meth c _ (va_A w0 s.heap.size) _ ⟨hx, hb, hml, hown, hts⟩ hK hA hP hD hl ?_
  intro H locs pc ls hd hP1 hD1 hS1
  exact W.lret hx hb hr (fun t ht hW => ⟨⟨v, (), rfl, rfl, by rw [ht]; exact hP1, va_K.moved hW.alike hK, hD1⟩, hS1.F ht⟩) hS1.2.2 hd
set_option maxHeartbeats 4000000 in
theorem xmet_v (hy : plainName y.cls = true) (hw : ws = Cond.code y cc maxL none :: ws') (hlen : (lg_sl avs).length ≤ maxL) (ho : y.cls = own)
    (body : ∀ (p : Program) (e : Env) (s : State) (m : MethodId) (args : Array Value) (below : List Frame) (meth : Method) (c : Code) (Q : State → Prop) (A : Nat → Prop) (ls : Array Slot), CallFix p m c cc maxL s args ws own → va_K (dC, dI) vwCl tys s → (∀ q : Nat, s.heap.size ≤ q → A q) → va_P (dC, dI) vwCl w0 s.heap → va_D A w0 → lv_has ls maxL (lv_args 0 avs) →
      (∀ (H : Heap) (locs : List Loc) (pc : Nat) (ls : Array Slot), decode cc pc = .ok (.return_, 1) → va_P (dC, dI) vwCl w1 H → va_D A w1 → va_S A s.heap H locs → W p l e rm s m args below meth c H locs 0 0 Q (F0 m pc ls [])) →
      W p l e rm s m args below meth c s.heap [] 0 0 Q (F0 m 0 ls [])) : xMv l y ws rm dC dI tys avs w0 w1 sz := by
  subst ho
  refine Met.ofW (cc := cc) (maxL := maxL) (ret := none) hy hw ?_
  intro p e s m args below meth c s₁ B hml hv
  obtain ⟨rfl, hsz, hP, hK, hD0⟩ := hv
  have hx := B.exec
  have hb := B.bytes
  have hr := B.returns
  have hts := atoms_spec (ws := ws) B.pre
  have hown : s.vm.findClass y.cls = some m.cls := findClass_of_methodNamed B.named
  have hlocks := B.notSynchronized
  subst hsz
  have hD := hD0.self (sz := s.heap.size)
  have hA : ∀ q : Nat, s.heap.size ≤ q → va_A w0 s.heap.size q := fun q h => Or.inr h
  have hl := lv_entry avs (n := maxL) hlen
  rw [lg_entry_eq]
  refine body p e s m _ below meth c _ (va_A w0 s.heap.size) _ ⟨hx, hb, hml, hown, hts⟩ hK hA hP hD hl ?_
  intro H locs pc ls hd hP1 hD1 hS1
  exact W.vret hx hb hr (fun t ht hW => ⟨⟨(), rfl, trivial, by rw [ht]; exact hP1, va_K.moved hW.alike hK, hD1⟩, hS1.F ht⟩) hS1.2.2 hd
end
section
variable {p : Program} {l : Launch} {e : Env} {R : Room} {s : State} {m : MethodId} {args : Array Value} {below : List Frame} {meth : Method} {c : Code} {H : Heap} {locs : List Loc} {cells slots : Nat} {Q : State → Prop}
variable {pc : Nat} {ls : Array Slot} {rest st0 : List Value} {a : Array Value} {A : Nat → Prop} {H0 : Heap} {dC : Nat → ClassId} {dI : Nat → Nat → Nat} {tc : List (ClassId × FieldType)} {ws wc wr w1 : va_W}
theorem xcall_i {v : Int32} (isC isR : List Nat) (hr : va_Run p l e R s m args below meth c H locs cells slots 0 0 (F0 m pc ls st0) rest (va_Qi (fun r (_ : Unit) => r = v) (xB dC dI tc (va_A wc H.size) w1) (va_A wc H.size) a) (va_A wc H.size)) (hP : va_P (dC, dI) vwCl ws H) (hD : va_D A ws) (hS : va_S A H0 H locs) (hA : ∀ q : Nat, H0.size ≤ q → A q) (hC : isC.map (fun i => ws[i]?) = wc.map some) (hR : isR.map (fun i => ws[i]?) = wr.map some) (hn : va_nd isR = true) (hdis : ∀ i ∈ isR, i ∉ isC)
    (kk : ∀ (H1 : Heap) (locs1 : List Loc), va_P (dC, dI) vwCl (wr ++ w1) H1 → va_D A (wr ++ w1) → va_S A H0 H1 locs1 → W p l e R s m args below meth c H1 locs1 cells slots Q (F0 m (pc + 3) ls (.int v :: rest))) : W p l e R s m args below meth c H locs cells slots Q (F0 m pc ls st0) := by
  have hFc := va_free (wc := wc) hD hS hA isC hC
  refine va_calli hr hS (fun q _ h => hFc q h) hFc (fun r u t H1 locs1 ht hvm hw hB hz1 hk1 hS1 => ?_)
  obtain ⟨hP1, hK1, hD1⟩ := hB
  rw [ht] at hP1
  obtain ⟨hP2, hD2⟩ := va_join (wr := wr) (w1 := w1) hP hD isC isR hC hR hn hdis hk1 hFc hP1 hD1
  have hw : r = v := hw
  subst hw
  exact kk H1 locs1 hP2 hD2 hS1
theorem xcall_l {v : Int64} (isC isR : List Nat) (hr : va_Run p l e R s m args below meth c H locs cells slots 0 0 (F0 m pc ls st0) rest (va_Ql (fun r (_ : Unit) => r = v) (xB dC dI tc (va_A wc H.size) w1) (va_A wc H.size) a) (va_A wc H.size)) (hP : va_P (dC, dI) vwCl ws H) (hD : va_D A ws) (hS : va_S A H0 H locs) (hA : ∀ q : Nat, H0.size ≤ q → A q) (hC : isC.map (fun i => ws[i]?) = wc.map some) (hR : isR.map (fun i => ws[i]?) = wr.map some) (hn : va_nd isR = true) (hdis : ∀ i ∈ isR, i ∉ isC)
    (kk : ∀ (H1 : Heap) (locs1 : List Loc), va_P (dC, dI) vwCl (wr ++ w1) H1 → va_D A (wr ++ w1) → va_S A H0 H1 locs1 → W p l e R s m args below meth c H1 locs1 cells slots Q (F0 m (pc + 3) ls (.long v :: rest))) : W p l e R s m args below meth c H locs cells slots Q (F0 m pc ls st0) := by
  have hFc := va_free (wc := wc) hD hS hA isC hC
  refine va_calll hr hS (fun q _ h => hFc q h) hFc (fun r u t H1 locs1 ht hvm hw hB hz1 hk1 hS1 => ?_)
  obtain ⟨hP1, hK1, hD1⟩ := hB
  rw [ht] at hP1
  obtain ⟨hP2, hD2⟩ := va_join (wr := wr) (w1 := w1) hP hD isC isR hC hR hn hdis hk1 hFc hP1 hD1
  have hw : r = v := hw
  subst hw
  exact kk H1 locs1 hP2 hD2 hS1
theorem xcall_v (isC isR : List Nat) (hr : va_Run p l e R s m args below meth c H locs cells slots 0 0 (F0 m pc ls st0) rest (va_Qv (fun (_ : Unit) => True) (xB dC dI tc (va_A wc H.size) w1) (va_A wc H.size) a) (va_A wc H.size)) (hP : va_P (dC, dI) vwCl ws H) (hD : va_D A ws) (hS : va_S A H0 H locs) (hA : ∀ q : Nat, H0.size ≤ q → A q) (hC : isC.map (fun i => ws[i]?) = wc.map some) (hR : isR.map (fun i => ws[i]?) = wr.map some) (hn : va_nd isR = true) (hdis : ∀ i ∈ isR, i ∉ isC)
    (kk : ∀ (H1 : Heap) (locs1 : List Loc), va_P (dC, dI) vwCl (wr ++ w1) H1 → va_D A (wr ++ w1) → va_S A H0 H1 locs1 → W p l e R s m args below meth c H1 locs1 cells slots Q (F0 m (pc + 3) ls rest)) : W p l e R s m args below meth c H locs cells slots Q (F0 m pc ls st0) := by
  have hFc := va_free (wc := wc) hD hS hA isC hC
  refine va_callv hr hS (fun q _ h => hFc q h) hFc (fun u t H1 locs1 ht hvm hw hB hz1 hk1 hS1 => ?_)
  obtain ⟨hP1, hK1, hD1⟩ := hB
  rw [ht] at hP1
  obtain ⟨hP2, hD2⟩ := va_join (wr := wr) (w1 := w1) hP hD isC isR hC hR hn hdis hk1 hFc hP1 hD1
  exact kk H1 locs1 hP2 hD2 hS1
end
section
variable {s : State} {H : Heap} {dC : Nat → ClassId} {dI : Nat → Nat → Nat} {tys : List (ClassId × FieldType)} {w0 : va_W} {A : Nat → Prop}
theorem xpreV {b q0 ci : Nat} {fs : List Value} {qc : vw_C} {As : List Value} (hK : va_K (dC, dI) vwCl tys s) (hP : va_P (dC, dI) vwCl w0 H) (hD : va_D A w0) (hc : vwCl[ci]? = some qc) (he : w0[q0]? = some (b, .inr (ci, fs))) : PreV s H qc.1 b (va_Pc (.ref b :: As) (xPre dC dI tys w0 H.size)) As :=
  ⟨fun a U g mk q => by obtain ⟨q0, q1, qP, qK, qD⟩ := q; exact ⟨q0, q1, qP, va_K.moved (u := U) (U := U.calling g mk a) (Vm.Alike.refl U.vm) qK, qD⟩, va_recv hK hP hc he, fun U hU hW => ⟨rfl, by rw [hU], by rw [hU]; exact hP, va_K.moved hW.alike hK, hD.weaken (fun _ _ _ _ => trivial)⟩⟩
theorem xpreS {As : List Value} (hK : va_K (dC, dI) vwCl tys s) : PreS s H (va_Pc As (xPre dC dI [] [] H.size)) As :=
  ⟨fun a U g mk q => by obtain ⟨q0, q1, qP, qK, qD⟩ := q; exact ⟨q0, q1, qP, va_K.moved (u := U) (U := U.calling g mk a) (Vm.Alike.refl U.vm) qK, qD⟩, fun U hU hW => ⟨rfl, by rw [hU], fun k q h => by simp at h, va_K.moved hW.alike (hK.sub (tys' := []) [] rfl), ⟨fun i j p q h => by simp at h, fun k q h => by simp at h⟩⟩⟩
end
end
section
/-! the state: heapCount, entryCount, kinds, orders, absorbed, floors, keys, values, owners -/
abbrev xS : Type := Nat × Nat × (Nat → Int32) × (Nat → Int32) × (Nat → Int32) × (Nat → Int64) × (Nat → Int64) × (Nat → Int32) × (Nat → Int32)
abbrev xm (u : xS) : Nat := u.1
abbrev xn (u : xS) : Nat := u.2.1
abbrev xkd (u : xS) : Nat → Int32 := u.2.2.1
abbrev xod (u : xS) : Nat → Int32 := u.2.2.2.1
abbrev xab (u : xS) : Nat → Int32 := u.2.2.2.2.1
abbrev xfl (u : xS) : Nat → Int64 := u.2.2.2.2.2.1
abbrev xky (u : xS) : Nat → Int64 := u.2.2.2.2.2.2.1
abbrev xvl (u : xS) : Nat → Int32 := u.2.2.2.2.2.2.2.1
abbrev xow (u : xS) : Nat → Int32 := u.2.2.2.2.2.2.2.2
abbrev sM (u : xS) (v : Nat) : xS := (v, xn u, xkd u, xod u, xab u, xfl u, xky u, xvl u, xow u)
abbrev sN (u : xS) (v : Nat) : xS := (xm u, v, xkd u, xod u, xab u, xfl u, xky u, xvl u, xow u)
abbrev sKd (u : xS) (v : Nat → Int32) : xS := (xm u, xn u, v, xod u, xab u, xfl u, xky u, xvl u, xow u)
abbrev sOd (u : xS) (v : Nat → Int32) : xS := (xm u, xn u, xkd u, v, xab u, xfl u, xky u, xvl u, xow u)
abbrev sAb (u : xS) (v : Nat → Int32) : xS := (xm u, xn u, xkd u, xod u, v, xfl u, xky u, xvl u, xow u)
abbrev sFl (u : xS) (v : Nat → Int64) : xS := (xm u, xn u, xkd u, xod u, xab u, v, xky u, xvl u, xow u)
abbrev sKy (u : xS) (v : Nat → Int64) : xS := (xm u, xn u, xkd u, xod u, xab u, xfl u, v, xvl u, xow u)
abbrev sVl (u : xS) (v : Nat → Int32) : xS := (xm u, xn u, xkd u, xod u, xab u, xfl u, xky u, v, xow u)
abbrev sOw (u : xS) (v : Nat → Int32) : xS := (xm u, xn u, xkd u, xod u, xab u, xfl u, xky u, xvl u, v)
abbrev xW (G : Nat → Nat) (C : Nat → ClassId) (u : xS) : va_W :=
  [(G 0, .inr (0, [.ref (G 1), .ref (G 2), .ref (G 3), .ref (G 4), .int (nI (xm u)), .ref (G 5), .ref (G 6), .ref (G 7), .int (nI (xn u))])),
   (G 1, .inl (C 1, 12, .inl (xkd u))), (G 2, .inl (C 2, 12, .inl (xod u))), (G 3, .inl (C 3, 12, .inl (xab u))), (G 4, .inl (C 4, 12, .inr (.inl (xfl u)))),
   (G 5, .inl (C 5, 160, .inr (.inl (xky u)))), (G 6, .inl (C 6, 160, .inl (xvl u))), (G 7, .inl (C 7, 160, .inl (xow u)))]
abbrev xT (C : Nat → ClassId) : List (ClassId × FieldType) := [(C 1, .int), (C 2, .int), (C 3, .boolean), (C 4, .long), (C 5, .long), (C 6, .int), (C 7, .int)]
end
section
def p_weight (o : Int32) (k : Int64) : Int64 := if o = 1 then (-1) - k else if o = 2 then k ^^^ (-9223372036854775808) else if o = 3 then k &&& 65535 else k
set_option maxHeartbeats 4000000 in
set_option maxRecDepth 100000 in
theorem b_weight {p : Program} {l : Launch} {e : Env} {s : State} {m : MethodId} {args : Array Value} {below : List Frame} {meth : Method} {c : Code} {Q : State → Prop} {A : Nat → Prop} {ls : Array Slot} {dC : Nat → ClassId} {dI : Nat → Nat → Nat} {o : Int32} {k : Int64} (B : CallFix p m c cX0_weight 3 s args wsX0_weight RX0) (hP : va_P (dC, dI) vwCl [] s.heap) (hD : va_D A []) (hl : lv_has ls 3 [(0, .int o), (1, .long k)]) (kk : ∀ (H : Heap) (locs : List Loc) (pc : Nat) (ls : Array Slot), decode cX0_weight pc = .ok (.lreturn, 1) → va_P (dC, dI) vwCl [] H → va_D A [] → va_S A s.heap H locs → W p l e (xR 0 0) s m args below meth c H locs 0 0 Q (F0 m pc ls [.long (p_weight o k)])) : W p l e (xR 0 0) s m args below meth c s.heap [] 0 0 Q (F0 m 0 ls []) := by
  obtain ⟨hx, hb, hml, hown, hts⟩ := B
  have hS : va_S A s.heap s.heap [] := va_S.rf
  refine lv_iload_n hx hb dX0_weight_0 rfl (lv_at hl 0 rfl) ?_
  by_cases h1 : o = 1
  · subst h1
    refine lv_tableIn (tgt := 28) hx hb dX0_weight_1 (by decide) (by decide) rfl rfl ?_
    refine lv_ldc2 (v := (-1)) hx hb hown (hts (.constantLong RX0 104 (-1)) (by decide +kernel)) dX0_weight_28 ?_
    refine lv_lload_n hx hb dX0_weight_31 rfl (lv_at hl 1 rfl) ?_
    refine lv_lsub hx hb dX0_weight_32 ?_
    exact kk _ _ _ _ dX0_weight_33 hP hD hS
  by_cases h2 : o = 2
  · subst h2
    refine lv_tableIn (tgt := 34) hx hb dX0_weight_1 (by decide) (by decide) rfl rfl ?_
    refine lv_lload_n hx hb dX0_weight_34 rfl (lv_at hl 1 rfl) ?_
    refine lv_ldc2 (v := (-9223372036854775808)) hx hb hown (hts (.constantLong RX0 40 (-9223372036854775808)) (by decide +kernel)) dX0_weight_35 ?_
    refine lv_lxor hx hb dX0_weight_38 ?_
    exact kk _ _ _ _ dX0_weight_39 hP hD hS
  by_cases h3 : o = 3
  · subst h3
    refine lv_tableIn (tgt := 40) hx hb dX0_weight_1 (by decide) (by decide) rfl rfl ?_
    refine lv_lload_n hx hb dX0_weight_40 rfl (lv_at hl 1 rfl) ?_
    refine lv_ldc2 (v := 65535) hx hb hown (hts (.constantLong RX0 106 65535) (by decide +kernel)) dX0_weight_41 ?_
    refine lv_land hx hb dX0_weight_44 ?_
    exact kk _ _ _ _ dX0_weight_45 hP hD hS
  have ho : o.toInt < 1 ∨ 3 < o.toInt := by
    have e1 := lv_neT h1 (by decide : (1 : Int32).toInt = 1)
    have e2 := lv_neT h2 (by decide : (2 : Int32).toInt = 2)
    have e3 := lv_neT h3 (by decide : (3 : Int32).toInt = 3)
    omega
  refine lv_tableOut (tgt := 46) hx hb dX0_weight_1 ho rfl ?_
  refine lv_lload_n hx hb dX0_weight_46 rfl (lv_at hl 1 rfl) ?_
  have e9 : p_weight o k = k := by unfold p_weight; rw [if_neg h1, if_neg h2, if_neg h3]
  exact W.eq (congrArg (fun z => F0 m 47 ls [.long z]) e9.symm) (kk _ _ _ _ dX0_weight_47 hP hD hS)
theorem c_weight (l : Launch) (dC : Nat → ClassId) (dI : Nat → Nat → Nat) (sz : Nat) (o : Int32) (k : Int64) : xMl l yX0_weight wsX0_weight (xR 0 0) dC dI [] [.int o, .long k] [] [] (p_weight o k) sz :=
  xmet_l (by decide) rfl (Nat.le_of_ble_eq_true rfl) rfl (fun p e s m args below meth c Q A ls B hK hA hP hD hl kk => b_weight B hP hD hl kk)
def p_isHeap (u : xS) (h : Int32) : Int32 :=
  (if h < 0 then
    0
  else (if (nI (xm u)) ≤ h then
      0
    else 1))
set_option maxHeartbeats 4000000 in
set_option maxRecDepth 100000 in
theorem b_isHeap {p : Program} {l : Launch} {e : Env} {s : State} {m : MethodId} {args : Array Value} {below : List Frame} {meth : Method} {c : Code} {Q : State → Prop} {A : Nat → Prop} {ls : Array Slot} {dC : Nat → ClassId} {dI : Nat → Nat → Nat} {G : Nat → Nat} {C : Nat → ClassId} {u : xS} {h : Int32}  (B : CallFix p m c cX0_isHeap 2 s args wsX0_isHeap RX0) (hK : va_K (dC, dI) vwCl (xT C) s) (hA : ∀ q : Nat, s.heap.size ≤ q → A q) (hP : va_P (dC, dI) vwCl (xW G C u) s.heap) (hD : va_D A (xW G C u)) (hl : lv_has ls 2 [(0, .ref (G 0)), (1, .int h)]) (kk : (∀ (H : Heap) (locs : List Loc) (pc : Nat) (ls : Array Slot), decode cX0_isHeap pc = .ok (.ireturn, 1) → va_P (dC, dI) vwCl (xW G C u) H → va_D A (xW G C u) → va_S A s.heap H locs → W p l e (xR 0 0) s m args below meth c H locs 0 0 Q (F0 m pc ls [.int (p_isHeap u h)]))) : W p l e (xR 0 0) s m args below meth c s.heap [] 0 0 Q (F0 m 0 ls []) := by
  obtain ⟨hx, hb, hml, hown, hts⟩ := B
  have hS : va_S A s.heap s.heap [] := va_S.rf
  have hfw : ∀ w ∈ u_ws RX0 TX0 9, w ∈ wsX0_isHeap := by decide +kernel
  refine lv_iload_n hx hb dX0_isHeap_0 rfl (lv_at hl 1 rfl) ?_
  refine lv_if_lt (tgt := 16) hx hb dX0_isHeap_1 rfl (fun c1 => ?_) (fun c1 => ?_)
  · refine lv_iconst (v := 0) hx hb dX0_isHeap_16 (by decide) ?_
    have e9 : p_isHeap u h = 0 := by unfold p_isHeap; rw [if_pos c1]
    exact W.eq (congrArg (fun z => F0 m 17 ls [.int z]) e9.symm) (kk _ _ _ _ dX0_isHeap_17 hP hD hS)
  · refine lv_iload_n hx hb dX0_isHeap_4 rfl (lv_at hl 1 rfl) ?_
    refine lv_aload_n hx hb dX0_isHeap_5 rfl (lv_at hl 0 rfl) ?_
    refine va_get (D := (dC, dI)) (ci := 0) (v := .int (nI (xm u))) (C := RX0) (T := TX0) (N := 9) hx hb hts hfw hown hK hP 0 rfl rfl 4 (by decide) (hts (.fieldLink RX0 24 "MeldingHeaps" "heapCount" "I") (by decide +kernel)) (fun _ h9 => h9) rfl dX0_isHeap_6 ?_
    refine lv_icmp_ge (tgt := 16) hx hb dX0_isHeap_9 rfl (fun c9 => ?_) (fun c9 => ?_)
    · refine lv_iconst (v := 0) hx hb dX0_isHeap_16 (by decide) ?_
      have e9 : p_isHeap u h = 0 := by unfold p_isHeap; rw [if_neg c1, if_pos c9]
      exact W.eq (congrArg (fun z => F0 m 17 ls [.int z]) e9.symm) (kk _ _ _ _ dX0_isHeap_17 hP hD hS)
    · refine lv_iconst (v := 1) hx hb dX0_isHeap_12 (by decide) ?_
      refine lv_goto (tgt := 17) hx hb dX0_isHeap_13 rfl ?_
      have e9 : p_isHeap u h = 1 := by unfold p_isHeap; rw [if_neg c1, if_neg c9]
      exact W.eq (congrArg (fun z => F0 m 17 ls [.int z]) e9.symm) (kk _ _ _ _ dX0_isHeap_17 hP hD hS)
theorem c_isHeap (l : Launch) (dC : Nat → ClassId) (dI : Nat → Nat → Nat) (G : Nat → Nat) (C : Nat → ClassId) (sz : Nat) (u : xS) (h : Int32)  : xMi l yX0_isHeap wsX0_isHeap (xR 0 0) dC dI (xT C) [.ref (G 0), .int h] (xW G C u) (xW G C u) (p_isHeap u h) sz :=
  xmet_i (by decide) rfl (by unfold p_isHeap; (repeat' split) <;> rfl) (Nat.le_of_ble_eq_true rfl) rfl (fun p e s m args below meth c Q A ls B hK hA hP hD hl kk => b_isHeap  B hK hA hP hD hl kk)
def p_isEntry (u : xS) (a : Int32) : Int32 :=
  (if a < 0 then
    0
  else (if (nI (xn u)) ≤ a then
      0
    else 1))
set_option maxHeartbeats 4000000 in
set_option maxRecDepth 100000 in
theorem b_isEntry {p : Program} {l : Launch} {e : Env} {s : State} {m : MethodId} {args : Array Value} {below : List Frame} {meth : Method} {c : Code} {Q : State → Prop} {A : Nat → Prop} {ls : Array Slot} {dC : Nat → ClassId} {dI : Nat → Nat → Nat} {G : Nat → Nat} {C : Nat → ClassId} {u : xS} {a : Int32}  (B : CallFix p m c cX0_isEntry 2 s args wsX0_isEntry RX0) (hK : va_K (dC, dI) vwCl (xT C) s) (hA : ∀ q : Nat, s.heap.size ≤ q → A q) (hP : va_P (dC, dI) vwCl (xW G C u) s.heap) (hD : va_D A (xW G C u)) (hl : lv_has ls 2 [(0, .ref (G 0)), (1, .int a)]) (kk : (∀ (H : Heap) (locs : List Loc) (pc : Nat) (ls : Array Slot), decode cX0_isEntry pc = .ok (.ireturn, 1) → va_P (dC, dI) vwCl (xW G C u) H → va_D A (xW G C u) → va_S A s.heap H locs → W p l e (xR 0 0) s m args below meth c H locs 0 0 Q (F0 m pc ls [.int (p_isEntry u a)]))) : W p l e (xR 0 0) s m args below meth c s.heap [] 0 0 Q (F0 m 0 ls []) := by
  obtain ⟨hx, hb, hml, hown, hts⟩ := B
  have hS : va_S A s.heap s.heap [] := va_S.rf
  have hfw : ∀ w ∈ u_ws RX0 TX0 9, w ∈ wsX0_isEntry := by decide +kernel
  refine lv_iload_n hx hb dX0_isEntry_0 rfl (lv_at hl 1 rfl) ?_
  refine lv_if_lt (tgt := 16) hx hb dX0_isEntry_1 rfl (fun c1 => ?_) (fun c1 => ?_)
  · refine lv_iconst (v := 0) hx hb dX0_isEntry_16 (by decide) ?_
    have e9 : p_isEntry u a = 0 := by unfold p_isEntry; rw [if_pos c1]
    exact W.eq (congrArg (fun z => F0 m 17 ls [.int z]) e9.symm) (kk _ _ _ _ dX0_isEntry_17 hP hD hS)
  · refine lv_iload_n hx hb dX0_isEntry_4 rfl (lv_at hl 1 rfl) ?_
    refine lv_aload_n hx hb dX0_isEntry_5 rfl (lv_at hl 0 rfl) ?_
    refine va_get (D := (dC, dI)) (ci := 0) (v := .int (nI (xn u))) (C := RX0) (T := TX0) (N := 9) hx hb hts hfw hown hK hP 0 rfl rfl 8 (by decide) (hts (.fieldLink RX0 37 "MeldingHeaps" "entryCount" "I") (by decide +kernel)) (fun _ h9 => h9) rfl dX0_isEntry_6 ?_
    refine lv_icmp_ge (tgt := 16) hx hb dX0_isEntry_9 rfl (fun c9 => ?_) (fun c9 => ?_)
    · refine lv_iconst (v := 0) hx hb dX0_isEntry_16 (by decide) ?_
      have e9 : p_isEntry u a = 0 := by unfold p_isEntry; rw [if_neg c1, if_pos c9]
      exact W.eq (congrArg (fun z => F0 m 17 ls [.int z]) e9.symm) (kk _ _ _ _ dX0_isEntry_17 hP hD hS)
    · refine lv_iconst (v := 1) hx hb dX0_isEntry_12 (by decide) ?_
      refine lv_goto (tgt := 17) hx hb dX0_isEntry_13 rfl ?_
      have e9 : p_isEntry u a = 1 := by unfold p_isEntry; rw [if_neg c1, if_neg c9]
      exact W.eq (congrArg (fun z => F0 m 17 ls [.int z]) e9.symm) (kk _ _ _ _ dX0_isEntry_17 hP hD hS)
theorem c_isEntry (l : Launch) (dC : Nat → ClassId) (dI : Nat → Nat → Nat) (G : Nat → Nat) (C : Nat → ClassId) (sz : Nat) (u : xS) (a : Int32)  : xMi l yX0_isEntry wsX0_isEntry (xR 0 0) dC dI (xT C) [.ref (G 0), .int a] (xW G C u) (xW G C u) (p_isEntry u a) sz :=
  xmet_i (by decide) rfl (by unfold p_isEntry; (repeat' split) <;> rfl) (Nat.le_of_ble_eq_true rfl) rfl (fun p e s m args below meth c Q A ls B hK hA hP hD hl kk => b_isEntry  B hK hA hP hD hl kk)
theorem in_isHeap {u : xS} {h : Int32} (hm : xm u ≤ 12) (c : ¬ p_isHeap u h = 0) : vp_in h 12 := by
  unfold p_isHeap at c
  by_cases h1 : h < 0
  · rw [if_pos h1] at c; exact absurd rfl c
  · rw [if_neg h1] at c
    by_cases h2 : (nI (xm u)) ≤ h
    · rw [if_pos h2] at c; exact absurd rfl c
    · obtain ⟨j, hj, rfl⟩ := nI_of h1
      exact vp_in_nI (Nat.lt_of_lt_of_le (Nat.not_le.mp (fun q : xm u ≤ j => h2 (nI_le q hj))) hm) (by decide)
theorem in_isEntry {u : xS} {a : Int32} (hn : xn u ≤ 160) (c : ¬ p_isEntry u a = 0) : vp_in a 160 ∧ ∃ j, j < xn u ∧ a = nI j := by
  unfold p_isEntry at c
  by_cases h1 : a < 0
  · rw [if_pos h1] at c; exact absurd rfl c
  · rw [if_neg h1] at c
    by_cases h2 : (nI (xn u)) ≤ a
    · rw [if_pos h2] at c; exact absurd rfl c
    · obtain ⟨j, hj, rfl⟩ := nI_of h1
      have h3 : j < xn u := Nat.not_le.mp (fun q : xn u ≤ j => h2 (nI_le q hj))
      exact ⟨vp_in_nI (Nat.lt_of_lt_of_le h3 hn) (by decide), j, h3, rfl⟩
def p_refusalOfHeap (u : xS) (h : Int32) : Int32 :=
  (if (p_isHeap u h) = 0 then
    (-2)
  else (if ((xab u) (h).toNatClampNeg) = 0 then
      0
    else (-3)))
set_option maxHeartbeats 4000000 in
set_option maxRecDepth 100000 in
theorem b_refusalOfHeap {p : Program} {l : Launch} {e : Env} {s : State} {m : MethodId} {args : Array Value} {below : List Frame} {meth : Method} {c : Code} {Q : State → Prop} {A : Nat → Prop} {ls : Array Slot} {dC : Nat → ClassId} {dI : Nat → Nat → Nat} {G : Nat → Nat} {C : Nat → ClassId} {u : xS} {h : Int32} (hm : xm u ≤ 12) (B : CallFix p m c cX0_refusalOfHeap 2 s args wsX0_refusalOfHeap RX0) (hK : va_K (dC, dI) vwCl (xT C) s) (hA : ∀ q : Nat, s.heap.size ≤ q → A q) (hP : va_P (dC, dI) vwCl (xW G C u) s.heap) (hD : va_D A (xW G C u)) (hl : lv_has ls 2 [(0, .ref (G 0)), (1, .int h)]) (kk : (∀ (H : Heap) (locs : List Loc) (pc : Nat) (ls : Array Slot), decode cX0_refusalOfHeap pc = .ok (.ireturn, 1) → va_P (dC, dI) vwCl (xW G C u) H → va_D A (xW G C u) → va_S A s.heap H locs → W p l e (xR 1 21) s m args below meth c H locs 0 0 Q (F0 m pc ls [.int (p_refusalOfHeap u h)]))) : W p l e (xR 1 21) s m args below meth c s.heap [] 0 0 Q (F0 m 0 ls []) := by
  obtain ⟨hx, hb, hml, hown, hts⟩ := B
  have hS : va_S A s.heap s.heap [] := va_S.rf
  have hfw : ∀ w ∈ u_ws RX0 TX0 9, w ∈ wsX0_refusalOfHeap := by decide +kernel
  refine lv_aload_n hx hb dX0_refusalOfHeap_0 rfl (lv_at hl 0 rfl) ?_
  refine lv_iload_n hx hb dX0_refusalOfHeap_1 rfl (lv_at hl 1 rfl) ?_
  refine xcall_i (ws := (xW G C u)) (wc := (xW G C u)) (wr := []) (w1 := (xW G C u)) (v := (p_isHeap u h)) [0, 1, 2, 3, 4, 5, 6, 7] [] (va_runV (As := [.int h]) (rest := []) ⟨hx, hb, hml, hown, hts⟩ (c_isHeap l dC dI G C _ u h) (cwV 1 hts gX0_refusalOfHeap_X0_isHeap rfl rfl rfl (by decide +kernel) ⟨Nat.le_of_ble_eq_true rfl, Nat.le_of_ble_eq_true rfl⟩) (xpreV (q0 := 0) (ci := 0) (qc := (RX0, TX0, 9)) hK hP hD rfl rfl) rfl rfl hl.1 rfl (lv_room (Nat.le_of_ble_eq_true rfl)) dX0_refusalOfHeap_2 ⟨Nat.zero_le _, Nat.zero_le _⟩) hP hD hS hA rfl rfl (by decide) (by decide) (fun H locs hP hD hS => ?_)
  have hP : va_P (dC, dI) vwCl (xW G C u) H := hP
  have hD : va_D A (xW G C u) := hD
  refine lv_if_ne (tgt := 11) hx hb dX0_refusalOfHeap_5 rfl (fun c5 => ?_) (fun c5 => ?_)
  · refine lv_aload_n hx hb dX0_refusalOfHeap_11 rfl (lv_at hl 0 rfl) ?_
    refine va_get (D := (dC, dI)) (ci := 0) (v := .ref (G 3)) (C := RX0) (T := TX0) (N := 9) hx hb hts hfw hown hK hP 0 rfl rfl 2 (by decide) (hts (.fieldLink RX0 16 "MeldingHeaps" "absorbed" "[Z") (by decide +kernel)) (fun _ h9 => h9) rfl dX0_refusalOfHeap_12 ?_
    refine lv_iload_n hx hb dX0_refusalOfHeap_15 rfl (lv_at hl 1 rfl) ?_
    refine va_zald (f := (xab u)) hx hb hK hP 3 2 rfl rfl (in_isHeap hm c5) dX0_refusalOfHeap_16 ?_
    refine lv_if_eq (tgt := 25) hx hb dX0_refusalOfHeap_17 rfl (fun c17 => ?_) (fun c17 => ?_)
    · refine lv_iconst (v := 0) hx hb dX0_refusalOfHeap_25 (by decide) ?_
      have e9 : p_refusalOfHeap u h = 0 := by unfold p_refusalOfHeap; rw [if_neg c5, if_pos c17]
      exact W.eq (congrArg (fun z => F0 m 26 ls [.int z]) e9.symm) (kk _ _ _ _ dX0_refusalOfHeap_26 hP hD hS)
    · refine lv_bipush (v := (-3)) hx hb dX0_refusalOfHeap_20 (by decide) ?_
      refine lv_goto (tgt := 26) hx hb dX0_refusalOfHeap_22 rfl ?_
      have e9 : p_refusalOfHeap u h = (-3) := by unfold p_refusalOfHeap; rw [if_neg c5, if_neg c17]
      exact W.eq (congrArg (fun z => F0 m 26 ls [.int z]) e9.symm) (kk _ _ _ _ dX0_refusalOfHeap_26 hP hD hS)
  · refine lv_bipush (v := (-2)) hx hb dX0_refusalOfHeap_8 (by decide) ?_
    have e9 : p_refusalOfHeap u h = (-2) := by unfold p_refusalOfHeap; rw [if_pos c5]
    exact W.eq (congrArg (fun z => F0 m 10 ls [.int z]) e9.symm) (kk _ _ _ _ dX0_refusalOfHeap_10 hP hD hS)
theorem c_refusalOfHeap (l : Launch) (dC : Nat → ClassId) (dI : Nat → Nat → Nat) (G : Nat → Nat) (C : Nat → ClassId) (sz : Nat) (u : xS) (h : Int32) (hm : xm u ≤ 12) : xMi l yX0_refusalOfHeap wsX0_refusalOfHeap (xR 1 21) dC dI (xT C) [.ref (G 0), .int h] (xW G C u) (xW G C u) (p_refusalOfHeap u h) sz :=
  xmet_i (by decide) rfl rfl (Nat.le_of_ble_eq_true rfl) rfl (fun p e s m args below meth c Q A ls B hK hA hP hD hl kk => b_refusalOfHeap hm B hK hA hP hD hl kk)
theorem in_refH {u : xS} {h : Int32} (hm : xm u ≤ 12) (c : p_refusalOfHeap u h = 0) : vp_in h 12 := by
  unfold p_refusalOfHeap at c
  by_cases h1 : p_isHeap u h = 0
  · rw [if_pos h1] at c; exact absurd c (by decide)
  · exact in_isHeap hm h1
def p_refusalOfLastOf (u : xS) (h : Int32) : Int32 :=
  (if (p_refusalOfHeap u h) = 0 then
    (if ((xkd u) (h).toNatClampNeg) = 1 then
      0
    else (-7))
  else (p_refusalOfHeap u h))
set_option maxHeartbeats 4000000 in
set_option maxRecDepth 100000 in
theorem b_refusalOfLastOf {p : Program} {l : Launch} {e : Env} {s : State} {m : MethodId} {args : Array Value} {below : List Frame} {meth : Method} {c : Code} {Q : State → Prop} {A : Nat → Prop} {ls : Array Slot} {dC : Nat → ClassId} {dI : Nat → Nat → Nat} {G : Nat → Nat} {C : Nat → ClassId} {u : xS} {h : Int32} (hm : xm u ≤ 12) (B : CallFix p m c cX0_refusalOfLastOf 3 s args wsX0_refusalOfLastOf RX0) (hK : va_K (dC, dI) vwCl (xT C) s) (hA : ∀ q : Nat, s.heap.size ≤ q → A q) (hP : va_P (dC, dI) vwCl (xW G C u) s.heap) (hD : va_D A (xW G C u)) (hl : lv_has ls 3 [(0, .ref (G 0)), (1, .int h)]) (kk : (∀ (H : Heap) (locs : List Loc) (pc : Nat) (ls : Array Slot), decode cX0_refusalOfLastOf pc = .ok (.ireturn, 1) → va_P (dC, dI) vwCl (xW G C u) H → va_D A (xW G C u) → va_S A s.heap H locs → W p l e (xR 2 42) s m args below meth c H locs 0 0 Q (F0 m pc ls [.int (p_refusalOfLastOf u h)]))) : W p l e (xR 2 42) s m args below meth c s.heap [] 0 0 Q (F0 m 0 ls []) := by
  obtain ⟨hx, hb, hml, hown, hts⟩ := B
  have hS : va_S A s.heap s.heap [] := va_S.rf
  have hfw : ∀ w ∈ u_ws RX0 TX0 9, w ∈ wsX0_refusalOfLastOf := by decide +kernel
  refine lv_aload_n hx hb dX0_refusalOfLastOf_0 rfl (lv_at hl 0 rfl) ?_
  refine lv_iload_n hx hb dX0_refusalOfLastOf_1 rfl (lv_at hl 1 rfl) ?_
  refine xcall_i (ws := (xW G C u)) (wc := (xW G C u)) (wr := []) (w1 := (xW G C u)) (v := (p_refusalOfHeap u h)) [0, 1, 2, 3, 4, 5, 6, 7] [] (va_runV (As := [.int h]) (rest := []) ⟨hx, hb, hml, hown, hts⟩ (c_refusalOfHeap l dC dI G C _ u h hm) (cwV 1 hts gX0_refusalOfLastOf_X0_refusalOfHeap rfl rfl rfl (by decide +kernel) ⟨Nat.le_of_ble_eq_true rfl, Nat.le_of_ble_eq_true rfl⟩) (xpreV (q0 := 0) (ci := 0) (qc := (RX0, TX0, 9)) hK hP hD rfl rfl) rfl rfl hl.1 rfl (lv_room (Nat.le_of_ble_eq_true rfl)) dX0_refusalOfLastOf_2 ⟨Nat.zero_le _, Nat.zero_le _⟩) hP hD hS hA rfl rfl (by decide) (by decide) (fun H locs hP hD hS => ?_)
  have hP : va_P (dC, dI) vwCl (xW G C u) H := hP
  have hD : va_D A (xW G C u) := hD
  refine lv_istore_n (lv' := [(2, .int (p_refusalOfHeap u h)), (0, .ref (G 0)), (1, .int h)]) hx hb dX0_refusalOfLastOf_5 rfl hl (by decide) rfl (fun ls hl => ?_)
  refine lv_iload_n hx hb dX0_refusalOfLastOf_6 rfl (lv_at hl 0 rfl) ?_
  refine lv_if_eq (tgt := 12) hx hb dX0_refusalOfLastOf_7 rfl (fun c7 => ?_) (fun c7 => ?_)
  · refine lv_aload_n hx hb dX0_refusalOfLastOf_12 rfl (lv_at hl 1 rfl) ?_
    refine va_get (D := (dC, dI)) (ci := 0) (v := .ref (G 1)) (C := RX0) (T := TX0) (N := 9) hx hb hts hfw hown hK hP 0 rfl rfl 0 (by decide) (hts (.fieldLink RX0 9 "MeldingHeaps" "kinds" "[I") (by decide +kernel)) (fun _ h9 => h9) rfl dX0_refusalOfLastOf_13 ?_
    refine lv_iload_n hx hb dX0_refusalOfLastOf_16 rfl (lv_at hl 2 rfl) ?_
    refine va_iald (f := (xkd u)) hx hb hK hP 1 0 rfl rfl (in_refH hm c7) dX0_refusalOfLastOf_17 ?_
    refine lv_iconst (v := 1) hx hb dX0_refusalOfLastOf_18 (by decide) ?_
    refine lv_icmp_ne (tgt := 26) hx hb dX0_refusalOfLastOf_19 rfl (fun c19 => ?_) (fun c19 => ?_)
    · refine lv_bipush (v := (-7)) hx hb dX0_refusalOfLastOf_26 (by decide) ?_
      have e9 : p_refusalOfLastOf u h = (-7) := by unfold p_refusalOfLastOf; rw [if_pos c7, if_neg c19]
      exact W.eq (congrArg (fun z => F0 m 28 ls [.int z]) e9.symm) (kk _ _ _ _ dX0_refusalOfLastOf_28 hP hD hS)
    · refine lv_iconst (v := 0) hx hb dX0_refusalOfLastOf_22 (by decide) ?_
      refine lv_goto (tgt := 28) hx hb dX0_refusalOfLastOf_23 rfl ?_
      have e9 : p_refusalOfLastOf u h = 0 := by unfold p_refusalOfLastOf; rw [if_pos c7, if_pos c19]
      exact W.eq (congrArg (fun z => F0 m 28 ls [.int z]) e9.symm) (kk _ _ _ _ dX0_refusalOfLastOf_28 hP hD hS)
  · refine lv_iload_n hx hb dX0_refusalOfLastOf_10 rfl (lv_at hl 0 rfl) ?_
    have e9 : p_refusalOfLastOf u h = (p_refusalOfHeap u h) := by unfold p_refusalOfLastOf; rw [if_neg c7]
    exact W.eq (congrArg (fun z => F0 m 11 ls [.int z]) e9.symm) (kk _ _ _ _ dX0_refusalOfLastOf_11 hP hD hS)
theorem c_refusalOfLastOf (l : Launch) (dC : Nat → ClassId) (dI : Nat → Nat → Nat) (G : Nat → Nat) (C : Nat → ClassId) (sz : Nat) (u : xS) (h : Int32) (hm : xm u ≤ 12) : xMi l yX0_refusalOfLastOf wsX0_refusalOfLastOf (xR 2 42) dC dI (xT C) [.ref (G 0), .int h] (xW G C u) (xW G C u) (p_refusalOfLastOf u h) sz :=
  xmet_i (by decide) rfl rfl (Nat.le_of_ble_eq_true rfl) rfl (fun p e s m args below meth c Q A ls B hK hA hP hD hl kk => b_refusalOfLastOf hm B hK hA hP hD hl kk)
def p_refusalOfPair (u : xS) (a : Int32) (b : Int32) : Int32 :=
  (if (p_refusalOfHeap u a) = 0 then
    (if (p_refusalOfHeap u b) = 0 then
      (if a = b then
        (-7)
      else 0)
    else (p_refusalOfHeap u b))
  else (if (p_refusalOfHeap u a) = 0 then
      (if a = b then
        (-7)
      else 0)
    else (p_refusalOfHeap u a)))
set_option maxHeartbeats 4000000 in
set_option maxRecDepth 100000 in
theorem b_refusalOfPair {p : Program} {l : Launch} {e : Env} {s : State} {m : MethodId} {args : Array Value} {below : List Frame} {meth : Method} {c : Code} {Q : State → Prop} {A : Nat → Prop} {ls : Array Slot} {dC : Nat → ClassId} {dI : Nat → Nat → Nat} {G : Nat → Nat} {C : Nat → ClassId} {u : xS} {a : Int32} {b : Int32} (hm : xm u ≤ 12) (B : CallFix p m c cX0_refusalOfPair 4 s args wsX0_refusalOfPair RX0) (hK : va_K (dC, dI) vwCl (xT C) s) (hA : ∀ q : Nat, s.heap.size ≤ q → A q) (hP : va_P (dC, dI) vwCl (xW G C u) s.heap) (hD : va_D A (xW G C u)) (hl : lv_has ls 4 [(0, .ref (G 0)), (1, .int a), (2, .int b)]) (kk : (∀ (H : Heap) (locs : List Loc) (pc : Nat) (ls : Array Slot), decode cX0_refusalOfPair pc = .ok (.ireturn, 1) → va_P (dC, dI) vwCl (xW G C u) H → va_D A (xW G C u) → va_S A s.heap H locs → W p l e (xR 2 42) s m args below meth c H locs 0 0 Q (F0 m pc ls [.int (p_refusalOfPair u a b)]))) : W p l e (xR 2 42) s m args below meth c s.heap [] 0 0 Q (F0 m 0 ls []) := by
  obtain ⟨hx, hb, hml, hown, hts⟩ := B
  have hS : va_S A s.heap s.heap [] := va_S.rf
  refine lv_aload_n hx hb dX0_refusalOfPair_0 rfl (lv_at hl 0 rfl) ?_
  refine lv_iload_n hx hb dX0_refusalOfPair_1 rfl (lv_at hl 1 rfl) ?_
  refine xcall_i (ws := (xW G C u)) (wc := (xW G C u)) (wr := []) (w1 := (xW G C u)) (v := (p_refusalOfHeap u a)) [0, 1, 2, 3, 4, 5, 6, 7] [] (va_runV (As := [.int a]) (rest := []) ⟨hx, hb, hml, hown, hts⟩ (c_refusalOfHeap l dC dI G C _ u a hm) (cwV 1 hts gX0_refusalOfPair_X0_refusalOfHeap rfl rfl rfl (by decide +kernel) ⟨Nat.le_of_ble_eq_true rfl, Nat.le_of_ble_eq_true rfl⟩) (xpreV (q0 := 0) (ci := 0) (qc := (RX0, TX0, 9)) hK hP hD rfl rfl) rfl rfl hl.1 rfl (lv_room (Nat.le_of_ble_eq_true rfl)) dX0_refusalOfPair_2 ⟨Nat.zero_le _, Nat.zero_le _⟩) hP hD hS hA rfl rfl (by decide) (by decide) (fun H locs hP hD hS => ?_)
  have hP : va_P (dC, dI) vwCl (xW G C u) H := hP
  have hD : va_D A (xW G C u) := hD
  refine lv_istore_n (lv' := [(3, .int (p_refusalOfHeap u a)), (0, .ref (G 0)), (1, .int a), (2, .int b)]) hx hb dX0_refusalOfPair_5 rfl hl (by decide) rfl (fun ls hl => ?_)
  refine lv_iload_n hx hb dX0_refusalOfPair_6 rfl (lv_at hl 0 rfl) ?_
  refine lv_if_ne (tgt := 16) hx hb dX0_refusalOfPair_7 rfl (fun c7 => ?_) (fun c7 => ?_)
  · refine lv_iload_n hx hb dX0_refusalOfPair_16 rfl (lv_at hl 0 rfl) ?_
    refine lv_if_eq (tgt := 22) hx hb dX0_refusalOfPair_17 rfl (fun c17 => ?_) (fun c17 => ?_)
    · refine lv_iload_n hx hb dX0_refusalOfPair_22 rfl (lv_at hl 2 rfl) ?_
      refine lv_iload_n hx hb dX0_refusalOfPair_23 rfl (lv_at hl 3 rfl) ?_
      refine lv_icmp_ne (tgt := 32) hx hb dX0_refusalOfPair_24 rfl (fun c24 => ?_) (fun c24 => ?_)
      · refine lv_iconst (v := 0) hx hb dX0_refusalOfPair_32 (by decide) ?_
        have e9 : p_refusalOfPair u a b = 0 := by unfold p_refusalOfPair; rw [if_neg c7, if_pos c17, if_neg c24]
        exact W.eq (congrArg (fun z => F0 m 33 ls [.int z]) e9.symm) (kk _ _ _ _ dX0_refusalOfPair_33 hP hD hS)
      · refine lv_bipush (v := (-7)) hx hb dX0_refusalOfPair_27 (by decide) ?_
        refine lv_goto (tgt := 33) hx hb dX0_refusalOfPair_29 rfl ?_
        have e9 : p_refusalOfPair u a b = (-7) := by unfold p_refusalOfPair; rw [if_neg c7, if_pos c17, if_pos c24]
        exact W.eq (congrArg (fun z => F0 m 33 ls [.int z]) e9.symm) (kk _ _ _ _ dX0_refusalOfPair_33 hP hD hS)
    · refine lv_iload_n hx hb dX0_refusalOfPair_20 rfl (lv_at hl 0 rfl) ?_
      have e9 : p_refusalOfPair u a b = (p_refusalOfHeap u a) := by unfold p_refusalOfPair; rw [if_neg c7, if_neg c17]
      exact W.eq (congrArg (fun z => F0 m 21 ls [.int z]) e9.symm) (kk _ _ _ _ dX0_refusalOfPair_21 hP hD hS)
  · refine lv_aload_n hx hb dX0_refusalOfPair_10 rfl (lv_at hl 1 rfl) ?_
    refine lv_iload_n hx hb dX0_refusalOfPair_11 rfl (lv_at hl 3 rfl) ?_
    refine xcall_i (ws := (xW G C u)) (wc := (xW G C u)) (wr := []) (w1 := (xW G C u)) (v := (p_refusalOfHeap u b)) [0, 1, 2, 3, 4, 5, 6, 7] [] (va_runV (As := [.int b]) (rest := []) ⟨hx, hb, hml, hown, hts⟩ (c_refusalOfHeap l dC dI G C _ u b hm) (cwV 1 hts gX0_refusalOfPair_X0_refusalOfHeap rfl rfl rfl (by decide +kernel) ⟨Nat.le_of_ble_eq_true rfl, Nat.le_of_ble_eq_true rfl⟩) (xpreV (q0 := 0) (ci := 0) (qc := (RX0, TX0, 9)) hK hP hD rfl rfl) rfl rfl hl.1 rfl (lv_room (Nat.le_of_ble_eq_true rfl)) dX0_refusalOfPair_12 ⟨Nat.zero_le _, Nat.zero_le _⟩) hP hD hS hA rfl rfl (by decide) (by decide) (fun H locs hP hD hS => ?_)
    have hP : va_P (dC, dI) vwCl (xW G C u) H := hP
    have hD : va_D A (xW G C u) := hD
    refine lv_istore_n (lv' := [(3, .int (p_refusalOfHeap u b)), (0, .ref (G 0)), (1, .int a), (2, .int b)]) hx hb dX0_refusalOfPair_15 rfl hl (by decide) rfl (fun ls hl => ?_)
    refine lv_iload_n hx hb dX0_refusalOfPair_16 rfl (lv_at hl 0 rfl) ?_
    refine lv_if_eq (tgt := 22) hx hb dX0_refusalOfPair_17 rfl (fun c17 => ?_) (fun c17 => ?_)
    · refine lv_iload_n hx hb dX0_refusalOfPair_22 rfl (lv_at hl 2 rfl) ?_
      refine lv_iload_n hx hb dX0_refusalOfPair_23 rfl (lv_at hl 3 rfl) ?_
      refine lv_icmp_ne (tgt := 32) hx hb dX0_refusalOfPair_24 rfl (fun c24 => ?_) (fun c24 => ?_)
      · refine lv_iconst (v := 0) hx hb dX0_refusalOfPair_32 (by decide) ?_
        have e9 : p_refusalOfPair u a b = 0 := by unfold p_refusalOfPair; rw [if_pos c7, if_pos c17, if_neg c24]
        exact W.eq (congrArg (fun z => F0 m 33 ls [.int z]) e9.symm) (kk _ _ _ _ dX0_refusalOfPair_33 hP hD hS)
      · refine lv_bipush (v := (-7)) hx hb dX0_refusalOfPair_27 (by decide) ?_
        refine lv_goto (tgt := 33) hx hb dX0_refusalOfPair_29 rfl ?_
        have e9 : p_refusalOfPair u a b = (-7) := by unfold p_refusalOfPair; rw [if_pos c7, if_pos c17, if_pos c24]
        exact W.eq (congrArg (fun z => F0 m 33 ls [.int z]) e9.symm) (kk _ _ _ _ dX0_refusalOfPair_33 hP hD hS)
    · refine lv_iload_n hx hb dX0_refusalOfPair_20 rfl (lv_at hl 0 rfl) ?_
      have e9 : p_refusalOfPair u a b = (p_refusalOfHeap u b) := by unfold p_refusalOfPair; rw [if_pos c7, if_neg c17]
      exact W.eq (congrArg (fun z => F0 m 21 ls [.int z]) e9.symm) (kk _ _ _ _ dX0_refusalOfPair_21 hP hD hS)
theorem c_refusalOfPair (l : Launch) (dC : Nat → ClassId) (dI : Nat → Nat → Nat) (G : Nat → Nat) (C : Nat → ClassId) (sz : Nat) (u : xS) (a : Int32) (b : Int32) (hm : xm u ≤ 12) : xMi l yX0_refusalOfPair wsX0_refusalOfPair (xR 2 42) dC dI (xT C) [.ref (G 0), .int a, .int b] (xW G C u) (xW G C u) (p_refusalOfPair u a b) sz :=
  xmet_i (by decide) rfl rfl (Nat.le_of_ble_eq_true rfl) rfl (fun p e s m args below meth c Q A ls B hK hA hP hD hl kk => b_refusalOfPair hm B hK hA hP hD hl kk)
theorem in_refP {u : xS} {a b : Int32} (hm : xm u ≤ 12) (c : p_refusalOfPair u a b = 0) : vp_in a 12 ∧ vp_in b 12 := by
  unfold p_refusalOfPair at c
  by_cases h1 : p_refusalOfHeap u a = 0
  · rw [if_pos h1] at c
    by_cases h2 : p_refusalOfHeap u b = 0
    · exact ⟨in_refH hm h1, in_refH hm h2⟩
    · rw [if_neg h2] at c; exact absurd c h2
  · rw [if_neg h1, if_neg h1] at c; exact absurd c h1
def p_refusalOfEntry (u : xS) (a : Int32) : Int32 :=
  (if (p_isEntry u a) = 0 then
    (-2)
  else (if ((xow u) (a).toNatClampNeg) = (-4) then
      (-4)
    else 0))
set_option maxHeartbeats 4000000 in
set_option maxRecDepth 100000 in
theorem b_refusalOfEntry {p : Program} {l : Launch} {e : Env} {s : State} {m : MethodId} {args : Array Value} {below : List Frame} {meth : Method} {c : Code} {Q : State → Prop} {A : Nat → Prop} {ls : Array Slot} {dC : Nat → ClassId} {dI : Nat → Nat → Nat} {G : Nat → Nat} {C : Nat → ClassId} {u : xS} {a : Int32} (hn : xn u ≤ 160) (B : CallFix p m c cX0_refusalOfEntry 2 s args wsX0_refusalOfEntry RX0) (hK : va_K (dC, dI) vwCl (xT C) s) (hA : ∀ q : Nat, s.heap.size ≤ q → A q) (hP : va_P (dC, dI) vwCl (xW G C u) s.heap) (hD : va_D A (xW G C u)) (hl : lv_has ls 2 [(0, .ref (G 0)), (1, .int a)]) (kk : (∀ (H : Heap) (locs : List Loc) (pc : Nat) (ls : Array Slot), decode cX0_refusalOfEntry pc = .ok (.ireturn, 1) → va_P (dC, dI) vwCl (xW G C u) H → va_D A (xW G C u) → va_S A s.heap H locs → W p l e (xR 1 21) s m args below meth c H locs 0 0 Q (F0 m pc ls [.int (p_refusalOfEntry u a)]))) : W p l e (xR 1 21) s m args below meth c s.heap [] 0 0 Q (F0 m 0 ls []) := by
  obtain ⟨hx, hb, hml, hown, hts⟩ := B
  have hS : va_S A s.heap s.heap [] := va_S.rf
  have hfw : ∀ w ∈ u_ws RX0 TX0 9, w ∈ wsX0_refusalOfEntry := by decide +kernel
  refine lv_aload_n hx hb dX0_refusalOfEntry_0 rfl (lv_at hl 0 rfl) ?_
  refine lv_iload_n hx hb dX0_refusalOfEntry_1 rfl (lv_at hl 1 rfl) ?_
  refine xcall_i (ws := (xW G C u)) (wc := (xW G C u)) (wr := []) (w1 := (xW G C u)) (v := (p_isEntry u a)) [0, 1, 2, 3, 4, 5, 6, 7] [] (va_runV (As := [.int a]) (rest := []) ⟨hx, hb, hml, hown, hts⟩ (c_isEntry l dC dI G C _ u a) (cwV 1 hts gX0_refusalOfEntry_X0_isEntry rfl rfl rfl (by decide +kernel) ⟨Nat.le_of_ble_eq_true rfl, Nat.le_of_ble_eq_true rfl⟩) (xpreV (q0 := 0) (ci := 0) (qc := (RX0, TX0, 9)) hK hP hD rfl rfl) rfl rfl hl.1 rfl (lv_room (Nat.le_of_ble_eq_true rfl)) dX0_refusalOfEntry_2 ⟨Nat.zero_le _, Nat.zero_le _⟩) hP hD hS hA rfl rfl (by decide) (by decide) (fun H locs hP hD hS => ?_)
  have hP : va_P (dC, dI) vwCl (xW G C u) H := hP
  have hD : va_D A (xW G C u) := hD
  refine lv_if_ne (tgt := 11) hx hb dX0_refusalOfEntry_5 rfl (fun c5 => ?_) (fun c5 => ?_)
  · refine lv_aload_n hx hb dX0_refusalOfEntry_11 rfl (lv_at hl 0 rfl) ?_
    refine va_get (D := (dC, dI)) (ci := 0) (v := .ref (G 7)) (C := RX0) (T := TX0) (N := 9) hx hb hts hfw hown hK hP 0 rfl rfl 7 (by decide) (hts (.fieldLink RX0 34 "MeldingHeaps" "owners" "[I") (by decide +kernel)) (fun _ h9 => h9) rfl dX0_refusalOfEntry_12 ?_
    refine lv_iload_n hx hb dX0_refusalOfEntry_15 rfl (lv_at hl 1 rfl) ?_
    refine va_iald (f := (xow u)) hx hb hK hP 7 6 rfl rfl ((in_isEntry hn c5).1) dX0_refusalOfEntry_16 ?_
    refine lv_bipush (v := (-4)) hx hb dX0_refusalOfEntry_17 (by decide) ?_
    refine lv_icmp_ne (tgt := 27) hx hb dX0_refusalOfEntry_19 rfl (fun c19 => ?_) (fun c19 => ?_)
    · refine lv_iconst (v := 0) hx hb dX0_refusalOfEntry_27 (by decide) ?_
      have e9 : p_refusalOfEntry u a = 0 := by unfold p_refusalOfEntry; rw [if_neg c5, if_neg c19]
      exact W.eq (congrArg (fun z => F0 m 28 ls [.int z]) e9.symm) (kk _ _ _ _ dX0_refusalOfEntry_28 hP hD hS)
    · refine lv_bipush (v := (-4)) hx hb dX0_refusalOfEntry_22 (by decide) ?_
      refine lv_goto (tgt := 28) hx hb dX0_refusalOfEntry_24 rfl ?_
      have e9 : p_refusalOfEntry u a = (-4) := by unfold p_refusalOfEntry; rw [if_neg c5, if_pos c19]
      exact W.eq (congrArg (fun z => F0 m 28 ls [.int z]) e9.symm) (kk _ _ _ _ dX0_refusalOfEntry_28 hP hD hS)
  · refine lv_bipush (v := (-2)) hx hb dX0_refusalOfEntry_8 (by decide) ?_
    have e9 : p_refusalOfEntry u a = (-2) := by unfold p_refusalOfEntry; rw [if_pos c5]
    exact W.eq (congrArg (fun z => F0 m 10 ls [.int z]) e9.symm) (kk _ _ _ _ dX0_refusalOfEntry_10 hP hD hS)
theorem c_refusalOfEntry (l : Launch) (dC : Nat → ClassId) (dI : Nat → Nat → Nat) (G : Nat → Nat) (C : Nat → ClassId) (sz : Nat) (u : xS) (a : Int32) (hn : xn u ≤ 160) : xMi l yX0_refusalOfEntry wsX0_refusalOfEntry (xR 1 21) dC dI (xT C) [.ref (G 0), .int a] (xW G C u) (xW G C u) (p_refusalOfEntry u a) sz :=
  xmet_i (by decide) rfl rfl (Nat.le_of_ble_eq_true rfl) rfl (fun p e s m args below meth c Q A ls B hK hA hP hD hl kk => b_refusalOfEntry hn B hK hA hP hD hl kk)
theorem in_refE {u : xS} {a : Int32} (hn : xn u ≤ 160) (c : p_refusalOfEntry u a = 0) : vp_in a 160 ∧ (∃ j, j < xn u ∧ a = nI j) ∧ ¬ xow u a.toNatClampNeg = -4 := by
  unfold p_refusalOfEntry at c
  by_cases h1 : p_isEntry u a = 0
  · rw [if_pos h1] at c; exact absurd c (by decide)
  · rw [if_neg h1] at c
    by_cases h2 : xow u a.toNatClampNeg = -4
    · rw [if_pos h2] at c; exact absurd c (by decide)
    · exact ⟨(in_isEntry hn h1).1, (in_isEntry hn h1).2, h2⟩
theorem in_own {u : xS} {a : Int32} (hn : xn u ≤ 160) (ho : ∀ j : Nat, j < xn u → xow u j = -4 ∨ vp_in (xow u j) 12) (c : p_refusalOfEntry u a = 0) : vp_in (xow u a.toNatClampNeg) 12 := by
  obtain ⟨-, ⟨j, hj, rfl⟩, h2⟩ := in_refE hn c
  rw [nI_clamp (show j < 2 ^ 31 by omega)] at h2 ⊢
  exact (ho j hj).resolve_left h2
def p_isBelowFloor (u : xS) (h : Int32) (k : Int64) : Int32 :=
  (if 0 ≤ (lg_cmp (p_weight ((xod u) (h).toNatClampNeg) k) ((xfl u) (h).toNatClampNeg)) then
    0
  else 1)
set_option maxHeartbeats 4000000 in
set_option maxRecDepth 100000 in
theorem b_isBelowFloor {p : Program} {l : Launch} {e : Env} {s : State} {m : MethodId} {args : Array Value} {below : List Frame} {meth : Method} {c : Code} {Q : State → Prop} {A : Nat → Prop} {ls : Array Slot} {dC : Nat → ClassId} {dI : Nat → Nat → Nat} {G : Nat → Nat} {C : Nat → ClassId} {u : xS} {h : Int32} {k : Int64} (hh : vp_in h 12) (B : CallFix p m c cX0_isBelowFloor 4 s args wsX0_isBelowFloor RX0) (hK : va_K (dC, dI) vwCl (xT C) s) (hA : ∀ q : Nat, s.heap.size ≤ q → A q) (hP : va_P (dC, dI) vwCl (xW G C u) s.heap) (hD : va_D A (xW G C u)) (hl : lv_has ls 4 [(0, .ref (G 0)), (1, .int h), (2, .long k)]) (kk : (∀ (H : Heap) (locs : List Loc) (pc : Nat) (ls : Array Slot), decode cX0_isBelowFloor pc = .ok (.ireturn, 1) → va_P (dC, dI) vwCl (xW G C u) H → va_D A (xW G C u) → va_S A s.heap H locs → W p l e (xR 1 22) s m args below meth c H locs 0 0 Q (F0 m pc ls [.int (p_isBelowFloor u h k)]))) : W p l e (xR 1 22) s m args below meth c s.heap [] 0 0 Q (F0 m 0 ls []) := by
  obtain ⟨hx, hb, hml, hown, hts⟩ := B
  have hS : va_S A s.heap s.heap [] := va_S.rf
  have hfw : ∀ w ∈ u_ws RX0 TX0 9, w ∈ wsX0_isBelowFloor := by decide +kernel
  refine lv_aload_n hx hb dX0_isBelowFloor_0 rfl (lv_at hl 0 rfl) ?_
  refine va_get (D := (dC, dI)) (ci := 0) (v := .ref (G 2)) (C := RX0) (T := TX0) (N := 9) hx hb hts hfw hown hK hP 0 rfl rfl 1 (by decide) (hts (.fieldLink RX0 13 "MeldingHeaps" "orders" "[I") (by decide +kernel)) (fun _ h9 => h9) rfl dX0_isBelowFloor_1 ?_
  refine lv_iload_n hx hb dX0_isBelowFloor_4 rfl (lv_at hl 1 rfl) ?_
  refine va_iald (f := (xod u)) hx hb hK hP 2 1 rfl rfl (hh) dX0_isBelowFloor_5 ?_
  refine lv_lload_n hx hb dX0_isBelowFloor_6 rfl (lv_at hl 2 rfl) ?_
  refine xcall_l (ws := (xW G C u)) (wc := []) (wr := (xW G C u)) (w1 := []) (v := (p_weight ((xod u) (h).toNatClampNeg) k)) [] [0, 1, 2, 3, 4, 5, 6, 7] (va_runS (As := [.int ((xod u) (h).toNatClampNeg), .long k]) (rest := []) ⟨hx, hb, hml, hown, hts⟩ (c_weight l dC dI _ ((xod u) (h).toNatClampNeg) k) (va_cwS 2 hts gX0_isBelowFloor_X0_weight rfl rfl rfl (by decide +kernel) ⟨Nat.le_of_ble_eq_true rfl, Nat.le_of_ble_eq_true rfl⟩) (xpreS hK) rfl rfl hl.1 rfl (lv_room (Nat.le_of_ble_eq_true rfl)) dX0_isBelowFloor_7 ⟨Nat.zero_le _, Nat.zero_le _⟩) hP hD hS hA rfl rfl (by decide) (by decide) (fun H locs hP hD hS => ?_)
  have hP : va_P (dC, dI) vwCl (xW G C u) H := hP
  have hD : va_D A (xW G C u) := hD
  refine lv_aload_n hx hb dX0_isBelowFloor_10 rfl (lv_at hl 0 rfl) ?_
  refine va_get (D := (dC, dI)) (ci := 0) (v := .ref (G 4)) (C := RX0) (T := TX0) (N := 9) hx hb hts hfw hown hK hP 0 rfl rfl 3 (by decide) (hts (.fieldLink RX0 20 "MeldingHeaps" "floors" "[J") (by decide +kernel)) (fun _ h9 => h9) rfl dX0_isBelowFloor_11 ?_
  refine lv_iload_n hx hb dX0_isBelowFloor_14 rfl (lv_at hl 1 rfl) ?_
  refine va_lald (f := (xfl u)) hx hb hK hP 4 3 rfl rfl (hh) dX0_isBelowFloor_15 ?_
  refine W.lcmp hx hb dX0_isBelowFloor_16 ?_
  refine lv_if_ge (tgt := 24) hx hb dX0_isBelowFloor_17 rfl (fun c17 => ?_) (fun c17 => ?_)
  · refine lv_iconst (v := 0) hx hb dX0_isBelowFloor_24 (by decide) ?_
    have e9 : p_isBelowFloor u h k = 0 := by unfold p_isBelowFloor; rw [if_pos c17]
    exact W.eq (congrArg (fun z => F0 m 25 ls [.int z]) e9.symm) (kk _ _ _ _ dX0_isBelowFloor_25 hP hD hS)
  · refine lv_iconst (v := 1) hx hb dX0_isBelowFloor_20 (by decide) ?_
    refine lv_goto (tgt := 25) hx hb dX0_isBelowFloor_21 rfl ?_
    have e9 : p_isBelowFloor u h k = 1 := by unfold p_isBelowFloor; rw [if_neg c17]
    exact W.eq (congrArg (fun z => F0 m 25 ls [.int z]) e9.symm) (kk _ _ _ _ dX0_isBelowFloor_25 hP hD hS)
theorem c_isBelowFloor (l : Launch) (dC : Nat → ClassId) (dI : Nat → Nat → Nat) (G : Nat → Nat) (C : Nat → ClassId) (sz : Nat) (u : xS) (h : Int32) (k : Int64) (hh : vp_in h 12) : xMi l yX0_isBelowFloor wsX0_isBelowFloor (xR 1 22) dC dI (xT C) [.ref (G 0), .int h, .long k] (xW G C u) (xW G C u) (p_isBelowFloor u h k) sz :=
  xmet_i (by decide) rfl (by unfold p_isBelowFloor; (repeat' split) <;> rfl) (Nat.le_of_ble_eq_true rfl) rfl (fun p e s m args below meth c Q A ls B hK hA hP hD hl kk => b_isBelowFloor hh B hK hA hP hD hl kk)
def q_raiseFloor (u : xS) (h : Int32) (k : Int64) : xS :=
  (if ((xkd u) (h).toNatClampNeg) = 2 then
    (sFl u (vp_updL (xfl u) (h).toNatClampNeg (p_weight ((xod u) (h).toNatClampNeg) k)))
  else u)
set_option maxHeartbeats 4000000 in
set_option maxRecDepth 100000 in
theorem b_raiseFloor {p : Program} {l : Launch} {e : Env} {s : State} {m : MethodId} {args : Array Value} {below : List Frame} {meth : Method} {c : Code} {Q : State → Prop} {A : Nat → Prop} {ls : Array Slot} {dC : Nat → ClassId} {dI : Nat → Nat → Nat} {G : Nat → Nat} {C : Nat → ClassId} {u : xS} {h : Int32} {k : Int64} (hh : vp_in h 12) (B : CallFix p m c cX0_raiseFloor 4 s args wsX0_raiseFloor RX0) (hK : va_K (dC, dI) vwCl (xT C) s) (hA : ∀ q : Nat, s.heap.size ≤ q → A q) (hP : va_P (dC, dI) vwCl (xW G C u) s.heap) (hD : va_D A (xW G C u)) (hl : lv_has ls 4 [(0, .ref (G 0)), (1, .int h), (2, .long k)]) (kk : (∀ (H : Heap) (locs : List Loc) (pc : Nat) (ls : Array Slot), decode cX0_raiseFloor pc = .ok (.return_, 1) → va_P (dC, dI) vwCl (xW G C (q_raiseFloor u h k)) H → va_D A (xW G C (q_raiseFloor u h k)) → va_S A s.heap H locs → W p l e (xR 1 22) s m args below meth c H locs 0 0 Q (F0 m pc ls []))) : W p l e (xR 1 22) s m args below meth c s.heap [] 0 0 Q (F0 m 0 ls []) := by
  obtain ⟨hx, hb, hml, hown, hts⟩ := B
  have hS : va_S A s.heap s.heap [] := va_S.rf
  have hfw : ∀ w ∈ u_ws RX0 TX0 9, w ∈ wsX0_raiseFloor := by decide +kernel
  refine lv_aload_n hx hb dX0_raiseFloor_0 rfl (lv_at hl 0 rfl) ?_
  refine va_get (D := (dC, dI)) (ci := 0) (v := .ref (G 1)) (C := RX0) (T := TX0) (N := 9) hx hb hts hfw hown hK hP 0 rfl rfl 0 (by decide) (hts (.fieldLink RX0 9 "MeldingHeaps" "kinds" "[I") (by decide +kernel)) (fun _ h9 => h9) rfl dX0_raiseFloor_1 ?_
  refine lv_iload_n hx hb dX0_raiseFloor_4 rfl (lv_at hl 1 rfl) ?_
  refine va_iald (f := (xkd u)) hx hb hK hP 1 0 rfl rfl (hh) dX0_raiseFloor_5 ?_
  refine lv_iconst (v := 2) hx hb dX0_raiseFloor_6 (by decide) ?_
  refine lv_icmp_ne (tgt := 26) hx hb dX0_raiseFloor_7 rfl (fun c7 => ?_) (fun c7 => ?_)
  · have e8 : q_raiseFloor u h k = u := by unfold q_raiseFloor; rw [if_neg c7]
    exact kk _ _ _ _ dX0_raiseFloor_26 (by rw [e8]; exact hP) (by rw [e8]; exact hD) hS
  · refine lv_aload_n hx hb dX0_raiseFloor_10 rfl (lv_at hl 0 rfl) ?_
    refine va_get (D := (dC, dI)) (ci := 0) (v := .ref (G 4)) (C := RX0) (T := TX0) (N := 9) hx hb hts hfw hown hK hP 0 rfl rfl 3 (by decide) (hts (.fieldLink RX0 20 "MeldingHeaps" "floors" "[J") (by decide +kernel)) (fun _ h9 => h9) rfl dX0_raiseFloor_11 ?_
    refine lv_iload_n hx hb dX0_raiseFloor_14 rfl (lv_at hl 1 rfl) ?_
    refine lv_aload_n hx hb dX0_raiseFloor_15 rfl (lv_at hl 0 rfl) ?_
    refine va_get (D := (dC, dI)) (ci := 0) (v := .ref (G 2)) (C := RX0) (T := TX0) (N := 9) hx hb hts hfw hown hK hP 0 rfl rfl 1 (by decide) (hts (.fieldLink RX0 13 "MeldingHeaps" "orders" "[I") (by decide +kernel)) (fun _ h9 => h9) rfl dX0_raiseFloor_16 ?_
    refine lv_iload_n hx hb dX0_raiseFloor_19 rfl (lv_at hl 1 rfl) ?_
    refine va_iald (f := (xod u)) hx hb hK hP 2 1 rfl rfl (hh) dX0_raiseFloor_20 ?_
    refine lv_lload_n hx hb dX0_raiseFloor_21 rfl (lv_at hl 2 rfl) ?_
    refine xcall_l (ws := (xW G C u)) (wc := []) (wr := (xW G C u)) (w1 := []) (v := (p_weight ((xod u) (h).toNatClampNeg) k)) [] [0, 1, 2, 3, 4, 5, 6, 7] (va_runS (As := [.int ((xod u) (h).toNatClampNeg), .long k]) (rest := [.int h, .ref (G 4)]) ⟨hx, hb, hml, hown, hts⟩ (c_weight l dC dI _ ((xod u) (h).toNatClampNeg) k) (va_cwS 2 hts gX0_raiseFloor_X0_weight rfl rfl rfl (by decide +kernel) ⟨Nat.le_of_ble_eq_true rfl, Nat.le_of_ble_eq_true rfl⟩) (xpreS hK) rfl rfl hl.1 rfl (lv_room (Nat.le_of_ble_eq_true rfl)) dX0_raiseFloor_22 ⟨Nat.zero_le _, Nat.zero_le _⟩) hP hD hS hA rfl rfl (by decide) (by decide) (fun H locs hP hD hS => ?_)
    have hP : va_P (dC, dI) vwCl (xW G C u) H := hP
    have hD : va_D A (xW G C u) := hD
    refine va_last (f := (xfl u)) hx hb hK hP hD hS 4 3 rfl rfl (hh) dX0_raiseFloor_25 (fun H locs hP hD hS => ?_)
    have hP : va_P (dC, dI) vwCl (xW G C (sFl u (vp_updL (xfl u) (h).toNatClampNeg (p_weight ((xod u) (h).toNatClampNeg) k)))) H := hP
    have hD : va_D A (xW G C (sFl u (vp_updL (xfl u) (h).toNatClampNeg (p_weight ((xod u) (h).toNatClampNeg) k)))) := hD
    have e8 : q_raiseFloor u h k = (sFl u (vp_updL (xfl u) (h).toNatClampNeg (p_weight ((xod u) (h).toNatClampNeg) k))) := by unfold q_raiseFloor; rw [if_pos c7]
    exact kk _ _ _ _ dX0_raiseFloor_26 (by rw [e8]; exact hP) (by rw [e8]; exact hD) hS
theorem c_raiseFloor (l : Launch) (dC : Nat → ClassId) (dI : Nat → Nat → Nat) (G : Nat → Nat) (C : Nat → ClassId) (sz : Nat) (u : xS) (h : Int32) (k : Int64) (hh : vp_in h 12) : xMv l yX0_raiseFloor wsX0_raiseFloor (xR 1 22) dC dI (xT C) [.ref (G 0), .int h, .long k] (xW G C u) (xW G C (q_raiseFloor u h k)) sz :=
  xmet_v (by decide) rfl (Nat.le_of_ble_eq_true rfl) rfl (fun p e s m args below meth c Q A ls B hK hA hP hD hl kk => b_raiseFloor hh B hK hA hP hD hl kk)
def p_isBefore (u : xS) (o : Int32) (a : Int32) (b : Int32) : Int32 :=
  (if (lg_cmp (p_weight o ((xky u) (a).toNatClampNeg)) (p_weight o ((xky u) (b).toNatClampNeg))) < 0 then
    1
  else (if (lg_cmp (p_weight o ((xky u) (a).toNatClampNeg)) (p_weight o ((xky u) (b).toNatClampNeg))) = 0 then
      (if b ≤ a then
        0
      else 1)
    else 0))
set_option maxHeartbeats 4000000 in
set_option maxRecDepth 100000 in
theorem b_isBefore {p : Program} {l : Launch} {e : Env} {s : State} {m : MethodId} {args : Array Value} {below : List Frame} {meth : Method} {c : Code} {Q : State → Prop} {A : Nat → Prop} {ls : Array Slot} {dC : Nat → ClassId} {dI : Nat → Nat → Nat} {G : Nat → Nat} {C : Nat → ClassId} {u : xS} {o : Int32} {a : Int32} {b : Int32} (ha2 : vp_in a 160) (hb2 : vp_in b 160) (B : CallFix p m c cX0_isBefore 8 s args wsX0_isBefore RX0) (hK : va_K (dC, dI) vwCl (xT C) s) (hA : ∀ q : Nat, s.heap.size ≤ q → A q) (hP : va_P (dC, dI) vwCl (xW G C u) s.heap) (hD : va_D A (xW G C u)) (hl : lv_has ls 8 [(0, .ref (G 0)), (1, .int o), (2, .int a), (3, .int b)]) (kk : (∀ (H : Heap) (locs : List Loc) (pc : Nat) (ls : Array Slot), decode cX0_isBefore pc = .ok (.ireturn, 1) → va_P (dC, dI) vwCl (xW G C u) H → va_D A (xW G C u) → va_S A s.heap H locs → W p l e (xR 1 22) s m args below meth c H locs 0 0 Q (F0 m pc ls [.int (p_isBefore u o a b)]))) : W p l e (xR 1 22) s m args below meth c s.heap [] 0 0 Q (F0 m 0 ls []) := by
  obtain ⟨hx, hb, hml, hown, hts⟩ := B
  have hS : va_S A s.heap s.heap [] := va_S.rf
  have hfw : ∀ w ∈ u_ws RX0 TX0 9, w ∈ wsX0_isBefore := by decide +kernel
  refine lv_iload_n hx hb dX0_isBefore_0 rfl (lv_at hl 1 rfl) ?_
  refine lv_aload_n hx hb dX0_isBefore_1 rfl (lv_at hl 0 rfl) ?_
  refine va_get (D := (dC, dI)) (ci := 0) (v := .ref (G 5)) (C := RX0) (T := TX0) (N := 9) hx hb hts hfw hown hK hP 0 rfl rfl 5 (by decide) (hts (.fieldLink RX0 28 "MeldingHeaps" "keys" "[J") (by decide +kernel)) (fun _ h9 => h9) rfl dX0_isBefore_2 ?_
  refine lv_iload_n hx hb dX0_isBefore_5 rfl (lv_at hl 2 rfl) ?_
  refine va_lald (f := (xky u)) hx hb hK hP 5 4 rfl rfl (ha2) dX0_isBefore_6 ?_
  refine xcall_l (ws := (xW G C u)) (wc := []) (wr := (xW G C u)) (w1 := []) (v := (p_weight o ((xky u) (a).toNatClampNeg))) [] [0, 1, 2, 3, 4, 5, 6, 7] (va_runS (As := [.int o, .long ((xky u) (a).toNatClampNeg)]) (rest := []) ⟨hx, hb, hml, hown, hts⟩ (c_weight l dC dI _ o ((xky u) (a).toNatClampNeg)) (va_cwS 2 hts gX0_isBefore_X0_weight rfl rfl rfl (by decide +kernel) ⟨Nat.le_of_ble_eq_true rfl, Nat.le_of_ble_eq_true rfl⟩) (xpreS hK) rfl rfl hl.1 rfl (lv_room (Nat.le_of_ble_eq_true rfl)) dX0_isBefore_7 ⟨Nat.zero_le _, Nat.zero_le _⟩) hP hD hS hA rfl rfl (by decide) (by decide) (fun H locs hP hD hS => ?_)
  have hP : va_P (dC, dI) vwCl (xW G C u) H := hP
  have hD : va_D A (xW G C u) := hD
  refine lv_lstore (lv' := [(4, .long (p_weight o ((xky u) (a).toNatClampNeg))), (0, .ref (G 0)), (1, .int o), (2, .int a), (3, .int b)]) hx hb dX0_isBefore_10 hl (by decide) rfl (fun ls hl => ?_)
  refine lv_iload_n hx hb dX0_isBefore_12 rfl (lv_at hl 2 rfl) ?_
  refine lv_aload_n hx hb dX0_isBefore_13 rfl (lv_at hl 1 rfl) ?_
  refine va_get (D := (dC, dI)) (ci := 0) (v := .ref (G 5)) (C := RX0) (T := TX0) (N := 9) hx hb hts hfw hown hK hP 0 rfl rfl 5 (by decide) (hts (.fieldLink RX0 28 "MeldingHeaps" "keys" "[J") (by decide +kernel)) (fun _ h9 => h9) rfl dX0_isBefore_14 ?_
  refine lv_iload_n hx hb dX0_isBefore_17 rfl (lv_at hl 4 rfl) ?_
  refine va_lald (f := (xky u)) hx hb hK hP 5 4 rfl rfl (hb2) dX0_isBefore_18 ?_
  refine xcall_l (ws := (xW G C u)) (wc := []) (wr := (xW G C u)) (w1 := []) (v := (p_weight o ((xky u) (b).toNatClampNeg))) [] [0, 1, 2, 3, 4, 5, 6, 7] (va_runS (As := [.int o, .long ((xky u) (b).toNatClampNeg)]) (rest := []) ⟨hx, hb, hml, hown, hts⟩ (c_weight l dC dI _ o ((xky u) (b).toNatClampNeg)) (va_cwS 2 hts gX0_isBefore_X0_weight rfl rfl rfl (by decide +kernel) ⟨Nat.le_of_ble_eq_true rfl, Nat.le_of_ble_eq_true rfl⟩) (xpreS hK) rfl rfl hl.1 rfl (lv_room (Nat.le_of_ble_eq_true rfl)) dX0_isBefore_19 ⟨Nat.zero_le _, Nat.zero_le _⟩) hP hD hS hA rfl rfl (by decide) (by decide) (fun H locs hP hD hS => ?_)
  have hP : va_P (dC, dI) vwCl (xW G C u) H := hP
  have hD : va_D A (xW G C u) := hD
  refine lv_lstore (lv' := [(6, .long (p_weight o ((xky u) (b).toNatClampNeg))), (4, .long (p_weight o ((xky u) (a).toNatClampNeg))), (0, .ref (G 0)), (1, .int o), (2, .int a), (3, .int b)]) hx hb dX0_isBefore_22 hl (by decide) rfl (fun ls hl => ?_)
  refine lv_lload hx hb dX0_isBefore_24 (lv_at hl 1 rfl) ?_
  refine lv_lload hx hb dX0_isBefore_26 (lv_at hl 0 rfl) ?_
  refine W.lcmp hx hb dX0_isBefore_28 ?_
  refine lv_if_lt (tgt := 45) hx hb dX0_isBefore_29 rfl (fun c29 => ?_) (fun c29 => ?_)
  · refine lv_iconst (v := 1) hx hb dX0_isBefore_45 (by decide) ?_
    refine lv_goto (tgt := 50) hx hb dX0_isBefore_46 rfl ?_
    have e9 : p_isBefore u o a b = 1 := by unfold p_isBefore; rw [if_pos c29]
    exact W.eq (congrArg (fun z => F0 m 50 ls [.int z]) e9.symm) (kk _ _ _ _ dX0_isBefore_50 hP hD hS)
  · refine lv_lload hx hb dX0_isBefore_32 (lv_at hl 1 rfl) ?_
    refine lv_lload hx hb dX0_isBefore_34 (lv_at hl 0 rfl) ?_
    refine W.lcmp hx hb dX0_isBefore_36 ?_
    refine lv_if_ne (tgt := 49) hx hb dX0_isBefore_37 rfl (fun c37 => ?_) (fun c37 => ?_)
    · refine lv_iconst (v := 0) hx hb dX0_isBefore_49 (by decide) ?_
      have e9 : p_isBefore u o a b = 0 := by unfold p_isBefore; rw [if_neg c29, if_neg c37]
      exact W.eq (congrArg (fun z => F0 m 50 ls [.int z]) e9.symm) (kk _ _ _ _ dX0_isBefore_50 hP hD hS)
    · refine lv_iload_n hx hb dX0_isBefore_40 rfl (lv_at hl 4 rfl) ?_
      refine lv_iload_n hx hb dX0_isBefore_41 rfl (lv_at hl 5 rfl) ?_
      refine lv_icmp_ge (tgt := 49) hx hb dX0_isBefore_42 rfl (fun c42 => ?_) (fun c42 => ?_)
      · refine lv_iconst (v := 0) hx hb dX0_isBefore_49 (by decide) ?_
        have e9 : p_isBefore u o a b = 0 := by unfold p_isBefore; rw [if_neg c29, if_pos c37, if_pos c42]
        exact W.eq (congrArg (fun z => F0 m 50 ls [.int z]) e9.symm) (kk _ _ _ _ dX0_isBefore_50 hP hD hS)
      · refine lv_iconst (v := 1) hx hb dX0_isBefore_45 (by decide) ?_
        refine lv_goto (tgt := 50) hx hb dX0_isBefore_46 rfl ?_
        have e9 : p_isBefore u o a b = 1 := by unfold p_isBefore; rw [if_neg c29, if_pos c37, if_neg c42]
        exact W.eq (congrArg (fun z => F0 m 50 ls [.int z]) e9.symm) (kk _ _ _ _ dX0_isBefore_50 hP hD hS)
theorem c_isBefore (l : Launch) (dC : Nat → ClassId) (dI : Nat → Nat → Nat) (G : Nat → Nat) (C : Nat → ClassId) (sz : Nat) (u : xS) (o : Int32) (a : Int32) (b : Int32) (ha2 : vp_in a 160) (hb2 : vp_in b 160) : xMi l yX0_isBefore wsX0_isBefore (xR 1 22) dC dI (xT C) [.ref (G 0), .int o, .int a, .int b] (xW G C u) (xW G C u) (p_isBefore u o a b) sz :=
  xmet_i (by decide) rfl (by unfold p_isBefore; (repeat' split) <;> rfl) (Nat.le_of_ble_eq_true rfl) rfl (fun p e s m args below meth c Q A ls B hK hA hP hD hl kk => b_isBefore ha2 hb2 B hK hA hP hD hl kk)
end
section
def p_findFirstL (u : xS) (h : Int32) : Nat → Int32
  | 0 => -1
  | i + 1 =>
    (if ((xow u) i) = h then
      (if (p_findFirstL u h i) = (-1) then
        (nI i)
      else (if (p_isBefore u ((xod u) (h).toNatClampNeg) (nI i) (p_findFirstL u h i)) = 0 then
          (p_findFirstL u h i)
        else (nI i)))
    else (p_findFirstL u h i))
theorem findFirst_in (u : xS) (h : Int32) : ∀ i, p_findFirstL u h i = -1 ∨ ∃ j, j < i ∧ p_findFirstL u h i = nI j := by
  intro i
  induction i with
  | zero => exact Or.inl rfl
  | succ i ih =>
    rcases ih with h1 | ⟨j, hj, h1⟩
    · rw [p_findFirstL]
      (repeat' split) <;> first | exact Or.inr ⟨i, Nat.lt_succ_self i, rfl⟩ | exact Or.inl h1
    · rw [p_findFirstL]
      (repeat' split) <;> first | exact Or.inr ⟨i, Nat.lt_succ_self i, rfl⟩ | exact Or.inr ⟨j, Nat.lt_succ_of_lt hj, h1⟩
theorem findFirst_vp {u : xS} {h : Int32} {i : Nat} (hi : i ≤ 160) (c : ¬ p_findFirstL u h i = -1) : vp_in (p_findFirstL u h i) 160 := by
  rcases findFirst_in u h i with h1 | ⟨j, hj, h1⟩
  · exact absurd h1 c
  · rw [h1]; exact vp_in_nI (Nat.lt_of_lt_of_le hj hi) (by decide)
set_option maxHeartbeats 4000000 in
set_option maxRecDepth 100000 in
theorem lp_findFirst {p : Program} {l : Launch} {e : Env} {s : State} {m : MethodId} {args : Array Value} {below : List Frame} {meth : Method} {c : Code} {Q : State → Prop} {A : Nat → Prop} {dC : Nat → ClassId} {dI : Nat → Nat → Nat} {G : Nat → Nat} {C : Nat → ClassId} {u : xS} {h : Int32} (hn : xn u ≤ 160) (hh : vp_in h 12) (B : CallFix p m c cX0_findFirst 4 s args wsX0_findFirst RX0) (hK : va_K (dC, dI) vwCl (xT C) s) (hA : ∀ q : Nat, s.heap.size ≤ q → A q) (kk : ∀ (H : Heap) (locs : List Loc) (ls : Array Slot), va_P (dC, dI) vwCl (xW G C u) H → va_D A (xW G C u) → va_S A s.heap H locs → lv_has ls 4 [(2, .int (p_findFirstL u h (xn u))), (0, .ref (G 0)), (1, .int h)] → W p l e (xR 2 49) s m args below meth c H locs 0 0 Q (F0 m 50 ls [])) :
    ∀ (d i : Nat) (H : Heap) (locs : List Loc) (ls : Array Slot), xn u - i = d → i ≤ xn u → va_P (dC, dI) vwCl (xW G C u) H → va_D A (xW G C u) → va_S A s.heap H locs → lv_has ls 4 [(3, .int (nI i)), (2, .int (p_findFirstL u h i)), (0, .ref (G 0)), (1, .int h)] → W p l e (xR 2 49) s m args below meth c H locs 0 0 Q (F0 m 4 ls []) := by
  obtain ⟨hx, hb, hml, hown, hts⟩ := B
  have hfw : ∀ w ∈ u_ws RX0 TX0 9, w ∈ wsX0_findFirst := by decide +kernel
  intro d
  induction d using Nat.strongRecOn with
  | ind d ih =>
    intro i H locs ls hd hi0 hP hD hS hl
    refine lv_iload_n hx hb dX0_findFirst_4 rfl (lv_at hl 0 rfl) ?_
    refine lv_aload_n hx hb dX0_findFirst_5 rfl (lv_at hl 2 rfl) ?_
    refine va_get (D := (dC, dI)) (ci := 0) (v := .int (nI (xn u))) (C := RX0) (T := TX0) (N := 9) hx hb hts hfw hown hK hP 0 rfl rfl 8 (by decide) (hts (.fieldLink RX0 37 "MeldingHeaps" "entryCount" "I") (by decide +kernel)) (fun _ h9 => h9) rfl dX0_findFirst_6 ?_
    refine lv_icmp_ge (tgt := 50) hx hb dX0_findFirst_9 rfl (fun c9 => ?_) (fun c9 => ?_)
    · have hi2 : i = xn u := Nat.le_antisymm hi0 ((nI_leI (by omega) (by omega)).mp c9)
      rw [hi2] at hl
      exact kk _ _ _ hP hD hS (lv_sub hl [1, 2, 3] rfl)
    · have hi : i < xn u := Nat.not_le.mp (fun q => c9 (nI_le q (by omega)))
      refine lv_aload_n hx hb dX0_findFirst_12 rfl (lv_at hl 2 rfl) ?_
      refine va_get (D := (dC, dI)) (ci := 0) (v := .ref (G 7)) (C := RX0) (T := TX0) (N := 9) hx hb hts hfw hown hK hP 0 rfl rfl 7 (by decide) (hts (.fieldLink RX0 34 "MeldingHeaps" "owners" "[I") (by decide +kernel)) (fun _ h9 => h9) rfl dX0_findFirst_13 ?_
      refine lv_iload_n hx hb dX0_findFirst_16 rfl (lv_at hl 0 rfl) ?_
      refine va_iald (f := (xow u)) hx hb hK hP 7 6 rfl rfl (vp_in_nI (by omega) (by decide)) dX0_findFirst_17 ?_
      refine W.eq (congrArg (fun z => F0 m 18 ls (.int ((xow u) z) :: [])) (nI_clamp (show i < 2 ^ 31 by omega))) ?_
      refine lv_iload_n hx hb dX0_findFirst_18 rfl (lv_at hl 3 rfl) ?_
      refine lv_icmp_ne (tgt := 44) hx hb dX0_findFirst_19 rfl (fun c19 => ?_) (fun c19 => ?_)
      · refine lv_iinc (k := 0) (v := (nI (i + 1))) (lv' := [(3, .int (nI (i + 1))), (2, .int (p_findFirstL u h i)), (0, .ref (G 0)), (1, .int h)]) hx hb dX0_findFirst_44 hl rfl (xinc _) (by decide) rfl (fun ls hl => ?_)
        refine lv_goto (tgt := 4) hx hb dX0_findFirst_47 rfl ?_
        have e9 : p_findFirstL u h (i + 1) = (p_findFirstL u h i) := by rw [p_findFirstL]; rw [if_neg c19]
        have hl : lv_has ls 4 [(3, .int (nI (i + 1))), (2, .int (p_findFirstL u h (i + 1))), (0, .ref (G 0)), (1, .int h)] := by rw [e9]; exact lv_sub hl [0, 1, 2, 3] rfl
        exact ih _ (by omega) (i + 1) _ _ _ rfl hi hP hD hS hl
      · refine lv_iload_n hx hb dX0_findFirst_22 rfl (lv_at hl 1 rfl) ?_
        refine lv_iconst (v := (-1)) hx hb dX0_findFirst_23 (by decide) ?_
        refine lv_icmp_eq (tgt := 42) hx hb dX0_findFirst_24 rfl (fun c24 => ?_) (fun c24 => ?_)
        · refine lv_iload_n hx hb dX0_findFirst_42 rfl (lv_at hl 0 rfl) ?_
          refine lv_istore_n (lv' := [(2, .int (nI i)), (3, .int (nI i)), (0, .ref (G 0)), (1, .int h)]) hx hb dX0_findFirst_43 rfl hl (by decide) rfl (fun ls hl => ?_)
          refine lv_iinc (k := 1) (v := (nI (i + 1))) (lv' := [(3, .int (nI (i + 1))), (2, .int (nI i)), (0, .ref (G 0)), (1, .int h)]) hx hb dX0_findFirst_44 hl rfl (xinc _) (by decide) rfl (fun ls hl => ?_)
          refine lv_goto (tgt := 4) hx hb dX0_findFirst_47 rfl ?_
          have e9 : p_findFirstL u h (i + 1) = (nI i) := by rw [p_findFirstL]; rw [if_pos c19, if_pos c24]
          have hl : lv_has ls 4 [(3, .int (nI (i + 1))), (2, .int (p_findFirstL u h (i + 1))), (0, .ref (G 0)), (1, .int h)] := by rw [e9]; exact lv_sub hl [0, 1, 2, 3] rfl
          exact ih _ (by omega) (i + 1) _ _ _ rfl hi hP hD hS hl
        · refine lv_aload_n hx hb dX0_findFirst_27 rfl (lv_at hl 2 rfl) ?_
          refine lv_aload_n hx hb dX0_findFirst_28 rfl (lv_at hl 2 rfl) ?_
          refine va_get (D := (dC, dI)) (ci := 0) (v := .ref (G 2)) (C := RX0) (T := TX0) (N := 9) hx hb hts hfw hown hK hP 0 rfl rfl 1 (by decide) (hts (.fieldLink RX0 13 "MeldingHeaps" "orders" "[I") (by decide +kernel)) (fun _ h9 => h9) rfl dX0_findFirst_29 ?_
          refine lv_iload_n hx hb dX0_findFirst_32 rfl (lv_at hl 3 rfl) ?_
          refine va_iald (f := (xod u)) hx hb hK hP 2 1 rfl rfl (hh) dX0_findFirst_33 ?_
          refine lv_iload_n hx hb dX0_findFirst_34 rfl (lv_at hl 0 rfl) ?_
          refine lv_iload_n hx hb dX0_findFirst_35 rfl (lv_at hl 1 rfl) ?_
          refine xcall_i (ws := (xW G C u)) (wc := (xW G C u)) (wr := []) (w1 := (xW G C u)) (v := (p_isBefore u ((xod u) (h).toNatClampNeg) (nI i) (p_findFirstL u h i))) [0, 1, 2, 3, 4, 5, 6, 7] [] (va_runV (As := [.int ((xod u) (h).toNatClampNeg), .int (nI i), .int (p_findFirstL u h i)]) (rest := []) ⟨hx, hb, hml, hown, hts⟩ (c_isBefore l dC dI G C _ u ((xod u) (h).toNatClampNeg) (nI i) (p_findFirstL u h i) (vp_in_nI (by omega) (by decide)) (findFirst_vp (by omega) c24)) (cwV 3 hts gX0_findFirst_X0_isBefore rfl rfl rfl (by decide +kernel) ⟨Nat.le_of_ble_eq_true rfl, Nat.le_of_ble_eq_true rfl⟩) (xpreV (q0 := 0) (ci := 0) (qc := (RX0, TX0, 9)) hK hP hD rfl rfl) rfl rfl hl.1 rfl (lv_room (Nat.le_of_ble_eq_true rfl)) dX0_findFirst_36 ⟨Nat.zero_le _, Nat.zero_le _⟩) hP hD hS hA rfl rfl (by decide) (by decide) (fun H locs hP hD hS => ?_)
          have hP : va_P (dC, dI) vwCl (xW G C u) H := hP
          have hD : va_D A (xW G C u) := hD
          refine lv_if_eq (tgt := 44) hx hb dX0_findFirst_39 rfl (fun c39 => ?_) (fun c39 => ?_)
          · refine lv_iinc (k := 0) (v := (nI (i + 1))) (lv' := [(3, .int (nI (i + 1))), (2, .int (p_findFirstL u h i)), (0, .ref (G 0)), (1, .int h)]) hx hb dX0_findFirst_44 hl rfl (xinc _) (by decide) rfl (fun ls hl => ?_)
            refine lv_goto (tgt := 4) hx hb dX0_findFirst_47 rfl ?_
            have e9 : p_findFirstL u h (i + 1) = (p_findFirstL u h i) := by rw [p_findFirstL]; rw [if_pos c19, if_neg c24, if_pos c39]
            have hl : lv_has ls 4 [(3, .int (nI (i + 1))), (2, .int (p_findFirstL u h (i + 1))), (0, .ref (G 0)), (1, .int h)] := by rw [e9]; exact lv_sub hl [0, 1, 2, 3] rfl
            exact ih _ (by omega) (i + 1) _ _ _ rfl hi hP hD hS hl
          · refine lv_iload_n hx hb dX0_findFirst_42 rfl (lv_at hl 0 rfl) ?_
            refine lv_istore_n (lv' := [(2, .int (nI i)), (3, .int (nI i)), (0, .ref (G 0)), (1, .int h)]) hx hb dX0_findFirst_43 rfl hl (by decide) rfl (fun ls hl => ?_)
            refine lv_iinc (k := 1) (v := (nI (i + 1))) (lv' := [(3, .int (nI (i + 1))), (2, .int (nI i)), (0, .ref (G 0)), (1, .int h)]) hx hb dX0_findFirst_44 hl rfl (xinc _) (by decide) rfl (fun ls hl => ?_)
            refine lv_goto (tgt := 4) hx hb dX0_findFirst_47 rfl ?_
            have e9 : p_findFirstL u h (i + 1) = (nI i) := by rw [p_findFirstL]; rw [if_pos c19, if_neg c24, if_neg c39]
            have hl : lv_has ls 4 [(3, .int (nI (i + 1))), (2, .int (p_findFirstL u h (i + 1))), (0, .ref (G 0)), (1, .int h)] := by rw [e9]; exact lv_sub hl [0, 1, 2, 3] rfl
            exact ih _ (by omega) (i + 1) _ _ _ rfl hi hP hD hS hl
def p_findFirst (u : xS) (h : Int32) : Int32 :=
  (p_findFirstL u h (xn u))
set_option maxHeartbeats 4000000 in
set_option maxRecDepth 100000 in
theorem b_findFirst {p : Program} {l : Launch} {e : Env} {s : State} {m : MethodId} {args : Array Value} {below : List Frame} {meth : Method} {c : Code} {Q : State → Prop} {A : Nat → Prop} {ls : Array Slot} {dC : Nat → ClassId} {dI : Nat → Nat → Nat} {G : Nat → Nat} {C : Nat → ClassId} {u : xS} {h : Int32} (hn : xn u ≤ 160) (hh : vp_in h 12) (B : CallFix p m c cX0_findFirst 4 s args wsX0_findFirst RX0) (hK : va_K (dC, dI) vwCl (xT C) s) (hA : ∀ q : Nat, s.heap.size ≤ q → A q) (hP : va_P (dC, dI) vwCl (xW G C u) s.heap) (hD : va_D A (xW G C u)) (hl : lv_has ls 4 [(0, .ref (G 0)), (1, .int h)]) (kk : (∀ (H : Heap) (locs : List Loc) (pc : Nat) (ls : Array Slot), decode cX0_findFirst pc = .ok (.ireturn, 1) → va_P (dC, dI) vwCl (xW G C u) H → va_D A (xW G C u) → va_S A s.heap H locs → W p l e (xR 2 49) s m args below meth c H locs 0 0 Q (F0 m pc ls [.int (p_findFirst u h)]))) : W p l e (xR 2 49) s m args below meth c s.heap [] 0 0 Q (F0 m 0 ls []) := by
  obtain ⟨hx, hb, hml, hown, hts⟩ := B
  have hS : va_S A s.heap s.heap [] := va_S.rf
  refine lv_iconst (v := (-1)) hx hb dX0_findFirst_0 (by decide) ?_
  refine lv_istore_n (lv' := [(2, .int (-1)), (0, .ref (G 0)), (1, .int h)]) hx hb dX0_findFirst_1 rfl hl (by decide) rfl (fun ls hl => ?_)
  refine lv_iconst (v := 0) hx hb dX0_findFirst_2 (by decide) ?_
  refine lv_istore_n (lv' := [(3, .int 0), (2, .int (-1)), (0, .ref (G 0)), (1, .int h)]) hx hb dX0_findFirst_3 rfl hl (by decide) rfl (fun ls hl => ?_)
  refine lp_findFirst hn hh ⟨hx, hb, hml, hown, hts⟩ hK hA (fun H locs ls hP hD hS hl => ?_) _ 0 _ _ _ rfl (Nat.zero_le _) hP hD hS (lv_sub hl [0, 1, 2, 3] rfl)
  refine lv_iload_n hx hb dX0_findFirst_50 rfl (lv_at hl 0 rfl) ?_
  have e9 : p_findFirst u h = (p_findFirstL u h (xn u)) := rfl
  exact W.eq (congrArg (fun z => F0 m 51 ls [.int z]) e9.symm) (kk _ _ _ _ dX0_findFirst_51 hP hD hS)
theorem c_findFirst (l : Launch) (dC : Nat → ClassId) (dI : Nat → Nat → Nat) (G : Nat → Nat) (C : Nat → ClassId) (sz : Nat) (u : xS) (h : Int32) (hn : xn u ≤ 160) (hh : vp_in h 12) : xMi l yX0_findFirst wsX0_findFirst (xR 2 49) dC dI (xT C) [.ref (G 0), .int h] (xW G C u) (xW G C u) (p_findFirst u h) sz :=
  xmet_i (by decide) rfl rfl (Nat.le_of_ble_eq_true rfl) rfl (fun p e s m args below meth c Q A ls B hK hA hP hD hl kk => b_findFirst hn hh B hK hA hP hD hl kk)
def p_findLastL (u : xS) (h : Int32) : Nat → Int32
  | 0 => -1
  | i + 1 =>
    (if ((xow u) i) = h then
      (if (p_findLastL u h i) = (-1) then
        (nI i)
      else (if (p_isBefore u ((xod u) (h).toNatClampNeg) (p_findLastL u h i) (nI i)) = 0 then
          (p_findLastL u h i)
        else (nI i)))
    else (p_findLastL u h i))
theorem findLast_in (u : xS) (h : Int32) : ∀ i, p_findLastL u h i = -1 ∨ ∃ j, j < i ∧ p_findLastL u h i = nI j := by
  intro i
  induction i with
  | zero => exact Or.inl rfl
  | succ i ih =>
    rcases ih with h1 | ⟨j, hj, h1⟩
    · rw [p_findLastL]
      (repeat' split) <;> first | exact Or.inr ⟨i, Nat.lt_succ_self i, rfl⟩ | exact Or.inl h1
    · rw [p_findLastL]
      (repeat' split) <;> first | exact Or.inr ⟨i, Nat.lt_succ_self i, rfl⟩ | exact Or.inr ⟨j, Nat.lt_succ_of_lt hj, h1⟩
theorem findLast_vp {u : xS} {h : Int32} {i : Nat} (hi : i ≤ 160) (c : ¬ p_findLastL u h i = -1) : vp_in (p_findLastL u h i) 160 := by
  rcases findLast_in u h i with h1 | ⟨j, hj, h1⟩
  · exact absurd h1 c
  · rw [h1]; exact vp_in_nI (Nat.lt_of_lt_of_le hj hi) (by decide)
set_option maxHeartbeats 4000000 in
set_option maxRecDepth 100000 in
theorem lp_findLast {p : Program} {l : Launch} {e : Env} {s : State} {m : MethodId} {args : Array Value} {below : List Frame} {meth : Method} {c : Code} {Q : State → Prop} {A : Nat → Prop} {dC : Nat → ClassId} {dI : Nat → Nat → Nat} {G : Nat → Nat} {C : Nat → ClassId} {u : xS} {h : Int32} (hn : xn u ≤ 160) (hh : vp_in h 12) (B : CallFix p m c cX0_findLast 4 s args wsX0_findLast RX0) (hK : va_K (dC, dI) vwCl (xT C) s) (hA : ∀ q : Nat, s.heap.size ≤ q → A q) (kk : ∀ (H : Heap) (locs : List Loc) (ls : Array Slot), va_P (dC, dI) vwCl (xW G C u) H → va_D A (xW G C u) → va_S A s.heap H locs → lv_has ls 4 [(2, .int (p_findLastL u h (xn u))), (0, .ref (G 0)), (1, .int h)] → W p l e (xR 2 49) s m args below meth c H locs 0 0 Q (F0 m 50 ls [])) :
    ∀ (d i : Nat) (H : Heap) (locs : List Loc) (ls : Array Slot), xn u - i = d → i ≤ xn u → va_P (dC, dI) vwCl (xW G C u) H → va_D A (xW G C u) → va_S A s.heap H locs → lv_has ls 4 [(3, .int (nI i)), (2, .int (p_findLastL u h i)), (0, .ref (G 0)), (1, .int h)] → W p l e (xR 2 49) s m args below meth c H locs 0 0 Q (F0 m 4 ls []) := by
  obtain ⟨hx, hb, hml, hown, hts⟩ := B
  have hfw : ∀ w ∈ u_ws RX0 TX0 9, w ∈ wsX0_findLast := by decide +kernel
  intro d
  induction d using Nat.strongRecOn with
  | ind d ih =>
    intro i H locs ls hd hi0 hP hD hS hl
    refine lv_iload_n hx hb dX0_findLast_4 rfl (lv_at hl 0 rfl) ?_
    refine lv_aload_n hx hb dX0_findLast_5 rfl (lv_at hl 2 rfl) ?_
    refine va_get (D := (dC, dI)) (ci := 0) (v := .int (nI (xn u))) (C := RX0) (T := TX0) (N := 9) hx hb hts hfw hown hK hP 0 rfl rfl 8 (by decide) (hts (.fieldLink RX0 37 "MeldingHeaps" "entryCount" "I") (by decide +kernel)) (fun _ h9 => h9) rfl dX0_findLast_6 ?_
    refine lv_icmp_ge (tgt := 50) hx hb dX0_findLast_9 rfl (fun c9 => ?_) (fun c9 => ?_)
    · have hi2 : i = xn u := Nat.le_antisymm hi0 ((nI_leI (by omega) (by omega)).mp c9)
      rw [hi2] at hl
      exact kk _ _ _ hP hD hS (lv_sub hl [1, 2, 3] rfl)
    · have hi : i < xn u := Nat.not_le.mp (fun q => c9 (nI_le q (by omega)))
      refine lv_aload_n hx hb dX0_findLast_12 rfl (lv_at hl 2 rfl) ?_
      refine va_get (D := (dC, dI)) (ci := 0) (v := .ref (G 7)) (C := RX0) (T := TX0) (N := 9) hx hb hts hfw hown hK hP 0 rfl rfl 7 (by decide) (hts (.fieldLink RX0 34 "MeldingHeaps" "owners" "[I") (by decide +kernel)) (fun _ h9 => h9) rfl dX0_findLast_13 ?_
      refine lv_iload_n hx hb dX0_findLast_16 rfl (lv_at hl 0 rfl) ?_
      refine va_iald (f := (xow u)) hx hb hK hP 7 6 rfl rfl (vp_in_nI (by omega) (by decide)) dX0_findLast_17 ?_
      refine W.eq (congrArg (fun z => F0 m 18 ls (.int ((xow u) z) :: [])) (nI_clamp (show i < 2 ^ 31 by omega))) ?_
      refine lv_iload_n hx hb dX0_findLast_18 rfl (lv_at hl 3 rfl) ?_
      refine lv_icmp_ne (tgt := 44) hx hb dX0_findLast_19 rfl (fun c19 => ?_) (fun c19 => ?_)
      · refine lv_iinc (k := 0) (v := (nI (i + 1))) (lv' := [(3, .int (nI (i + 1))), (2, .int (p_findLastL u h i)), (0, .ref (G 0)), (1, .int h)]) hx hb dX0_findLast_44 hl rfl (xinc _) (by decide) rfl (fun ls hl => ?_)
        refine lv_goto (tgt := 4) hx hb dX0_findLast_47 rfl ?_
        have e9 : p_findLastL u h (i + 1) = (p_findLastL u h i) := by rw [p_findLastL]; rw [if_neg c19]
        have hl : lv_has ls 4 [(3, .int (nI (i + 1))), (2, .int (p_findLastL u h (i + 1))), (0, .ref (G 0)), (1, .int h)] := by rw [e9]; exact lv_sub hl [0, 1, 2, 3] rfl
        exact ih _ (by omega) (i + 1) _ _ _ rfl hi hP hD hS hl
      · refine lv_iload_n hx hb dX0_findLast_22 rfl (lv_at hl 1 rfl) ?_
        refine lv_iconst (v := (-1)) hx hb dX0_findLast_23 (by decide) ?_
        refine lv_icmp_eq (tgt := 42) hx hb dX0_findLast_24 rfl (fun c24 => ?_) (fun c24 => ?_)
        · refine lv_iload_n hx hb dX0_findLast_42 rfl (lv_at hl 0 rfl) ?_
          refine lv_istore_n (lv' := [(2, .int (nI i)), (3, .int (nI i)), (0, .ref (G 0)), (1, .int h)]) hx hb dX0_findLast_43 rfl hl (by decide) rfl (fun ls hl => ?_)
          refine lv_iinc (k := 1) (v := (nI (i + 1))) (lv' := [(3, .int (nI (i + 1))), (2, .int (nI i)), (0, .ref (G 0)), (1, .int h)]) hx hb dX0_findLast_44 hl rfl (xinc _) (by decide) rfl (fun ls hl => ?_)
          refine lv_goto (tgt := 4) hx hb dX0_findLast_47 rfl ?_
          have e9 : p_findLastL u h (i + 1) = (nI i) := by rw [p_findLastL]; rw [if_pos c19, if_pos c24]
          have hl : lv_has ls 4 [(3, .int (nI (i + 1))), (2, .int (p_findLastL u h (i + 1))), (0, .ref (G 0)), (1, .int h)] := by rw [e9]; exact lv_sub hl [0, 1, 2, 3] rfl
          exact ih _ (by omega) (i + 1) _ _ _ rfl hi hP hD hS hl
        · refine lv_aload_n hx hb dX0_findLast_27 rfl (lv_at hl 2 rfl) ?_
          refine lv_aload_n hx hb dX0_findLast_28 rfl (lv_at hl 2 rfl) ?_
          refine va_get (D := (dC, dI)) (ci := 0) (v := .ref (G 2)) (C := RX0) (T := TX0) (N := 9) hx hb hts hfw hown hK hP 0 rfl rfl 1 (by decide) (hts (.fieldLink RX0 13 "MeldingHeaps" "orders" "[I") (by decide +kernel)) (fun _ h9 => h9) rfl dX0_findLast_29 ?_
          refine lv_iload_n hx hb dX0_findLast_32 rfl (lv_at hl 3 rfl) ?_
          refine va_iald (f := (xod u)) hx hb hK hP 2 1 rfl rfl (hh) dX0_findLast_33 ?_
          refine lv_iload_n hx hb dX0_findLast_34 rfl (lv_at hl 1 rfl) ?_
          refine lv_iload_n hx hb dX0_findLast_35 rfl (lv_at hl 0 rfl) ?_
          refine xcall_i (ws := (xW G C u)) (wc := (xW G C u)) (wr := []) (w1 := (xW G C u)) (v := (p_isBefore u ((xod u) (h).toNatClampNeg) (p_findLastL u h i) (nI i))) [0, 1, 2, 3, 4, 5, 6, 7] [] (va_runV (As := [.int ((xod u) (h).toNatClampNeg), .int (p_findLastL u h i), .int (nI i)]) (rest := []) ⟨hx, hb, hml, hown, hts⟩ (c_isBefore l dC dI G C _ u ((xod u) (h).toNatClampNeg) (p_findLastL u h i) (nI i) (findLast_vp (by omega) c24) (vp_in_nI (by omega) (by decide))) (cwV 3 hts gX0_findLast_X0_isBefore rfl rfl rfl (by decide +kernel) ⟨Nat.le_of_ble_eq_true rfl, Nat.le_of_ble_eq_true rfl⟩) (xpreV (q0 := 0) (ci := 0) (qc := (RX0, TX0, 9)) hK hP hD rfl rfl) rfl rfl hl.1 rfl (lv_room (Nat.le_of_ble_eq_true rfl)) dX0_findLast_36 ⟨Nat.zero_le _, Nat.zero_le _⟩) hP hD hS hA rfl rfl (by decide) (by decide) (fun H locs hP hD hS => ?_)
          have hP : va_P (dC, dI) vwCl (xW G C u) H := hP
          have hD : va_D A (xW G C u) := hD
          refine lv_if_eq (tgt := 44) hx hb dX0_findLast_39 rfl (fun c39 => ?_) (fun c39 => ?_)
          · refine lv_iinc (k := 0) (v := (nI (i + 1))) (lv' := [(3, .int (nI (i + 1))), (2, .int (p_findLastL u h i)), (0, .ref (G 0)), (1, .int h)]) hx hb dX0_findLast_44 hl rfl (xinc _) (by decide) rfl (fun ls hl => ?_)
            refine lv_goto (tgt := 4) hx hb dX0_findLast_47 rfl ?_
            have e9 : p_findLastL u h (i + 1) = (p_findLastL u h i) := by rw [p_findLastL]; rw [if_pos c19, if_neg c24, if_pos c39]
            have hl : lv_has ls 4 [(3, .int (nI (i + 1))), (2, .int (p_findLastL u h (i + 1))), (0, .ref (G 0)), (1, .int h)] := by rw [e9]; exact lv_sub hl [0, 1, 2, 3] rfl
            exact ih _ (by omega) (i + 1) _ _ _ rfl hi hP hD hS hl
          · refine lv_iload_n hx hb dX0_findLast_42 rfl (lv_at hl 0 rfl) ?_
            refine lv_istore_n (lv' := [(2, .int (nI i)), (3, .int (nI i)), (0, .ref (G 0)), (1, .int h)]) hx hb dX0_findLast_43 rfl hl (by decide) rfl (fun ls hl => ?_)
            refine lv_iinc (k := 1) (v := (nI (i + 1))) (lv' := [(3, .int (nI (i + 1))), (2, .int (nI i)), (0, .ref (G 0)), (1, .int h)]) hx hb dX0_findLast_44 hl rfl (xinc _) (by decide) rfl (fun ls hl => ?_)
            refine lv_goto (tgt := 4) hx hb dX0_findLast_47 rfl ?_
            have e9 : p_findLastL u h (i + 1) = (nI i) := by rw [p_findLastL]; rw [if_pos c19, if_neg c24, if_neg c39]
            have hl : lv_has ls 4 [(3, .int (nI (i + 1))), (2, .int (p_findLastL u h (i + 1))), (0, .ref (G 0)), (1, .int h)] := by rw [e9]; exact lv_sub hl [0, 1, 2, 3] rfl
            exact ih _ (by omega) (i + 1) _ _ _ rfl hi hP hD hS hl
def p_findLast (u : xS) (h : Int32) : Int32 :=
  (p_findLastL u h (xn u))
set_option maxHeartbeats 4000000 in
set_option maxRecDepth 100000 in
theorem b_findLast {p : Program} {l : Launch} {e : Env} {s : State} {m : MethodId} {args : Array Value} {below : List Frame} {meth : Method} {c : Code} {Q : State → Prop} {A : Nat → Prop} {ls : Array Slot} {dC : Nat → ClassId} {dI : Nat → Nat → Nat} {G : Nat → Nat} {C : Nat → ClassId} {u : xS} {h : Int32} (hn : xn u ≤ 160) (hh : vp_in h 12) (B : CallFix p m c cX0_findLast 4 s args wsX0_findLast RX0) (hK : va_K (dC, dI) vwCl (xT C) s) (hA : ∀ q : Nat, s.heap.size ≤ q → A q) (hP : va_P (dC, dI) vwCl (xW G C u) s.heap) (hD : va_D A (xW G C u)) (hl : lv_has ls 4 [(0, .ref (G 0)), (1, .int h)]) (kk : (∀ (H : Heap) (locs : List Loc) (pc : Nat) (ls : Array Slot), decode cX0_findLast pc = .ok (.ireturn, 1) → va_P (dC, dI) vwCl (xW G C u) H → va_D A (xW G C u) → va_S A s.heap H locs → W p l e (xR 2 49) s m args below meth c H locs 0 0 Q (F0 m pc ls [.int (p_findLast u h)]))) : W p l e (xR 2 49) s m args below meth c s.heap [] 0 0 Q (F0 m 0 ls []) := by
  obtain ⟨hx, hb, hml, hown, hts⟩ := B
  have hS : va_S A s.heap s.heap [] := va_S.rf
  refine lv_iconst (v := (-1)) hx hb dX0_findLast_0 (by decide) ?_
  refine lv_istore_n (lv' := [(2, .int (-1)), (0, .ref (G 0)), (1, .int h)]) hx hb dX0_findLast_1 rfl hl (by decide) rfl (fun ls hl => ?_)
  refine lv_iconst (v := 0) hx hb dX0_findLast_2 (by decide) ?_
  refine lv_istore_n (lv' := [(3, .int 0), (2, .int (-1)), (0, .ref (G 0)), (1, .int h)]) hx hb dX0_findLast_3 rfl hl (by decide) rfl (fun ls hl => ?_)
  refine lp_findLast hn hh ⟨hx, hb, hml, hown, hts⟩ hK hA (fun H locs ls hP hD hS hl => ?_) _ 0 _ _ _ rfl (Nat.zero_le _) hP hD hS (lv_sub hl [0, 1, 2, 3] rfl)
  refine lv_iload_n hx hb dX0_findLast_50 rfl (lv_at hl 0 rfl) ?_
  have e9 : p_findLast u h = (p_findLastL u h (xn u)) := rfl
  exact W.eq (congrArg (fun z => F0 m 51 ls [.int z]) e9.symm) (kk _ _ _ _ dX0_findLast_51 hP hD hS)
theorem c_findLast (l : Launch) (dC : Nat → ClassId) (dI : Nat → Nat → Nat) (G : Nat → Nat) (C : Nat → ClassId) (sz : Nat) (u : xS) (h : Int32) (hn : xn u ≤ 160) (hh : vp_in h 12) : xMi l yX0_findLast wsX0_findLast (xR 2 49) dC dI (xT C) [.ref (G 0), .int h] (xW G C u) (xW G C u) (p_findLast u h) sz :=
  xmet_i (by decide) rfl rfl (Nat.le_of_ble_eq_true rfl) rfl (fun p e s m args below meth c Q A ls B hK hA hP hD hl kk => b_findLast hn hh B hK hA hP hD hl kk)
def p_countEntriesL (u : xS) (h : Int32) : Nat → Nat
  | 0 => 0
  | i + 1 =>
    (if ((xow u) i) = h then
      ((p_countEntriesL u h i) + 1)
    else (p_countEntriesL u h i))
set_option maxHeartbeats 4000000 in
set_option maxRecDepth 100000 in
theorem lp_countEntries {p : Program} {l : Launch} {e : Env} {s : State} {m : MethodId} {args : Array Value} {below : List Frame} {meth : Method} {c : Code} {Q : State → Prop} {A : Nat → Prop} {dC : Nat → ClassId} {dI : Nat → Nat → Nat} {G : Nat → Nat} {C : Nat → ClassId} {u : xS} {h : Int32} (hn : xn u ≤ 160) (B : CallFix p m c cX0_countEntries 4 s args wsX0_countEntries RX0) (hK : va_K (dC, dI) vwCl (xT C) s) (hA : ∀ q : Nat, s.heap.size ≤ q → A q) (kk : ∀ (H : Heap) (locs : List Loc) (ls : Array Slot), va_P (dC, dI) vwCl (xW G C u) H → va_D A (xW G C u) → va_S A s.heap H locs → lv_has ls 4 [(2, .int (nI (p_countEntriesL u h (xn u)))), (0, .ref (G 0)), (1, .int h)] → W p l e (xR 0 0) s m args below meth c H locs 0 0 Q (F0 m 31 ls [])) :
    ∀ (d i : Nat) (H : Heap) (locs : List Loc) (ls : Array Slot), xn u - i = d → i ≤ xn u → va_P (dC, dI) vwCl (xW G C u) H → va_D A (xW G C u) → va_S A s.heap H locs → lv_has ls 4 [(3, .int (nI i)), (2, .int (nI (p_countEntriesL u h i))), (0, .ref (G 0)), (1, .int h)] → W p l e (xR 0 0) s m args below meth c H locs 0 0 Q (F0 m 4 ls []) := by
  obtain ⟨hx, hb, hml, hown, hts⟩ := B
  have hfw : ∀ w ∈ u_ws RX0 TX0 9, w ∈ wsX0_countEntries := by decide +kernel
  intro d
  induction d using Nat.strongRecOn with
  | ind d ih =>
    intro i H locs ls hd hi0 hP hD hS hl
    refine lv_iload_n hx hb dX0_countEntries_4 rfl (lv_at hl 0 rfl) ?_
    refine lv_aload_n hx hb dX0_countEntries_5 rfl (lv_at hl 2 rfl) ?_
    refine va_get (D := (dC, dI)) (ci := 0) (v := .int (nI (xn u))) (C := RX0) (T := TX0) (N := 9) hx hb hts hfw hown hK hP 0 rfl rfl 8 (by decide) (hts (.fieldLink RX0 37 "MeldingHeaps" "entryCount" "I") (by decide +kernel)) (fun _ h9 => h9) rfl dX0_countEntries_6 ?_
    refine lv_icmp_ge (tgt := 31) hx hb dX0_countEntries_9 rfl (fun c9 => ?_) (fun c9 => ?_)
    · have hi2 : i = xn u := Nat.le_antisymm hi0 ((nI_leI (by omega) (by omega)).mp c9)
      rw [hi2] at hl
      exact kk _ _ _ hP hD hS (lv_sub hl [1, 2, 3] rfl)
    · have hi : i < xn u := Nat.not_le.mp (fun q => c9 (nI_le q (by omega)))
      refine lv_aload_n hx hb dX0_countEntries_12 rfl (lv_at hl 2 rfl) ?_
      refine va_get (D := (dC, dI)) (ci := 0) (v := .ref (G 7)) (C := RX0) (T := TX0) (N := 9) hx hb hts hfw hown hK hP 0 rfl rfl 7 (by decide) (hts (.fieldLink RX0 34 "MeldingHeaps" "owners" "[I") (by decide +kernel)) (fun _ h9 => h9) rfl dX0_countEntries_13 ?_
      refine lv_iload_n hx hb dX0_countEntries_16 rfl (lv_at hl 0 rfl) ?_
      refine va_iald (f := (xow u)) hx hb hK hP 7 6 rfl rfl (vp_in_nI (by omega) (by decide)) dX0_countEntries_17 ?_
      refine W.eq (congrArg (fun z => F0 m 18 ls (.int ((xow u) z) :: [])) (nI_clamp (show i < 2 ^ 31 by omega))) ?_
      refine lv_iload_n hx hb dX0_countEntries_18 rfl (lv_at hl 3 rfl) ?_
      refine lv_icmp_ne (tgt := 25) hx hb dX0_countEntries_19 rfl (fun c19 => ?_) (fun c19 => ?_)
      · refine lv_iinc (k := 0) (v := (nI (i + 1))) (lv' := [(3, .int (nI (i + 1))), (2, .int (nI (p_countEntriesL u h i))), (0, .ref (G 0)), (1, .int h)]) hx hb dX0_countEntries_25 hl rfl (xinc _) (by decide) rfl (fun ls hl => ?_)
        refine lv_goto (tgt := 4) hx hb dX0_countEntries_28 rfl ?_
        have e9 : p_countEntriesL u h (i + 1) = (p_countEntriesL u h i) := by rw [p_countEntriesL]; rw [if_neg c19]
        have hl : lv_has ls 4 [(3, .int (nI (i + 1))), (2, .int (nI (p_countEntriesL u h (i + 1)))), (0, .ref (G 0)), (1, .int h)] := by rw [e9]; exact lv_sub hl [0, 1, 2, 3] rfl
        exact ih _ (by omega) (i + 1) _ _ _ rfl hi hP hD hS hl
      · refine lv_iinc (k := 1) (v := (nI ((p_countEntriesL u h i) + 1))) (lv' := [(2, .int (nI ((p_countEntriesL u h i) + 1))), (3, .int (nI i)), (0, .ref (G 0)), (1, .int h)]) hx hb dX0_countEntries_22 hl rfl (xinc _) (by decide) rfl (fun ls hl => ?_)
        refine lv_iinc (k := 1) (v := (nI (i + 1))) (lv' := [(3, .int (nI (i + 1))), (2, .int (nI ((p_countEntriesL u h i) + 1))), (0, .ref (G 0)), (1, .int h)]) hx hb dX0_countEntries_25 hl rfl (xinc _) (by decide) rfl (fun ls hl => ?_)
        refine lv_goto (tgt := 4) hx hb dX0_countEntries_28 rfl ?_
        have e9 : p_countEntriesL u h (i + 1) = ((p_countEntriesL u h i) + 1) := by rw [p_countEntriesL]; rw [if_pos c19]
        have hl : lv_has ls 4 [(3, .int (nI (i + 1))), (2, .int (nI (p_countEntriesL u h (i + 1)))), (0, .ref (G 0)), (1, .int h)] := by rw [e9]; exact lv_sub hl [0, 1, 2, 3] rfl
        exact ih _ (by omega) (i + 1) _ _ _ rfl hi hP hD hS hl
def p_countEntries (u : xS) (h : Int32) : Int32 :=
  (nI (p_countEntriesL u h (xn u)))
set_option maxHeartbeats 4000000 in
set_option maxRecDepth 100000 in
theorem b_countEntries {p : Program} {l : Launch} {e : Env} {s : State} {m : MethodId} {args : Array Value} {below : List Frame} {meth : Method} {c : Code} {Q : State → Prop} {A : Nat → Prop} {ls : Array Slot} {dC : Nat → ClassId} {dI : Nat → Nat → Nat} {G : Nat → Nat} {C : Nat → ClassId} {u : xS} {h : Int32} (hn : xn u ≤ 160) (B : CallFix p m c cX0_countEntries 4 s args wsX0_countEntries RX0) (hK : va_K (dC, dI) vwCl (xT C) s) (hA : ∀ q : Nat, s.heap.size ≤ q → A q) (hP : va_P (dC, dI) vwCl (xW G C u) s.heap) (hD : va_D A (xW G C u)) (hl : lv_has ls 4 [(0, .ref (G 0)), (1, .int h)]) (kk : (∀ (H : Heap) (locs : List Loc) (pc : Nat) (ls : Array Slot), decode cX0_countEntries pc = .ok (.ireturn, 1) → va_P (dC, dI) vwCl (xW G C u) H → va_D A (xW G C u) → va_S A s.heap H locs → W p l e (xR 0 0) s m args below meth c H locs 0 0 Q (F0 m pc ls [.int (p_countEntries u h)]))) : W p l e (xR 0 0) s m args below meth c s.heap [] 0 0 Q (F0 m 0 ls []) := by
  obtain ⟨hx, hb, hml, hown, hts⟩ := B
  have hS : va_S A s.heap s.heap [] := va_S.rf
  refine lv_iconst (v := 0) hx hb dX0_countEntries_0 (by decide) ?_
  refine lv_istore_n (lv' := [(2, .int 0), (0, .ref (G 0)), (1, .int h)]) hx hb dX0_countEntries_1 rfl hl (by decide) rfl (fun ls hl => ?_)
  refine lv_iconst (v := 0) hx hb dX0_countEntries_2 (by decide) ?_
  refine lv_istore_n (lv' := [(3, .int 0), (2, .int 0), (0, .ref (G 0)), (1, .int h)]) hx hb dX0_countEntries_3 rfl hl (by decide) rfl (fun ls hl => ?_)
  refine lp_countEntries hn ⟨hx, hb, hml, hown, hts⟩ hK hA (fun H locs ls hP hD hS hl => ?_) _ 0 _ _ _ rfl (Nat.zero_le _) hP hD hS (lv_sub hl [0, 1, 2, 3] rfl)
  refine lv_iload_n hx hb dX0_countEntries_31 rfl (lv_at hl 0 rfl) ?_
  have e9 : p_countEntries u h = (nI (p_countEntriesL u h (xn u))) := rfl
  exact W.eq (congrArg (fun z => F0 m 32 ls [.int z]) e9.symm) (kk _ _ _ _ dX0_countEntries_32 hP hD hS)
theorem c_countEntries (l : Launch) (dC : Nat → ClassId) (dI : Nat → Nat → Nat) (G : Nat → Nat) (C : Nat → ClassId) (sz : Nat) (u : xS) (h : Int32) (hn : xn u ≤ 160) : xMi l yX0_countEntries wsX0_countEntries (xR 0 0) dC dI (xT C) [.ref (G 0), .int h] (xW G C u) (xW G C u) (p_countEntries u h) sz :=
  xmet_i (by decide) rfl rfl (Nat.le_of_ble_eq_true rfl) rfl (fun p e s m args below meth c Q A ls B hK hA hP hD hl kk => b_countEntries hn B hK hA hP hD hl kk)
def p_countBeforeL (u : xS) (h a : Int32) : Nat → Nat
  | 0 => 0
  | i + 1 =>
    (if ((xow u) i) = h then
      (if (p_isBefore u ((xod u) (h).toNatClampNeg) (nI i) a) = 0 then
        (p_countBeforeL u h a i)
      else ((p_countBeforeL u h a i) + 1))
    else (p_countBeforeL u h a i))
set_option maxHeartbeats 4000000 in
set_option maxRecDepth 100000 in
theorem lp_countBefore {p : Program} {l : Launch} {e : Env} {s : State} {m : MethodId} {args : Array Value} {below : List Frame} {meth : Method} {c : Code} {Q : State → Prop} {A : Nat → Prop} {dC : Nat → ClassId} {dI : Nat → Nat → Nat} {G : Nat → Nat} {C : Nat → ClassId} {u : xS} {h : Int32} {a : Int32} (hn : xn u ≤ 160) (hh : vp_in h 12) (ha2 : vp_in a 160) (B : CallFix p m c cX0_countBefore 5 s args wsX0_countBefore RX0) (hK : va_K (dC, dI) vwCl (xT C) s) (hA : ∀ q : Nat, s.heap.size ≤ q → A q) (kk : ∀ (H : Heap) (locs : List Loc) (ls : Array Slot), va_P (dC, dI) vwCl (xW G C u) H → va_D A (xW G C u) → va_S A s.heap H locs → lv_has ls 5 [(3, .int (nI (p_countBeforeL u h a (xn u)))), (0, .ref (G 0)), (1, .int h), (2, .int a)] → W p l e (xR 2 49) s m args below meth c H locs 0 0 Q (F0 m 50 ls [])) :
    ∀ (d i : Nat) (H : Heap) (locs : List Loc) (ls : Array Slot), xn u - i = d → i ≤ xn u → va_P (dC, dI) vwCl (xW G C u) H → va_D A (xW G C u) → va_S A s.heap H locs → lv_has ls 5 [(4, .int (nI i)), (3, .int (nI (p_countBeforeL u h a i))), (0, .ref (G 0)), (1, .int h), (2, .int a)] → W p l e (xR 2 49) s m args below meth c H locs 0 0 Q (F0 m 5 ls []) := by
  obtain ⟨hx, hb, hml, hown, hts⟩ := B
  have hfw : ∀ w ∈ u_ws RX0 TX0 9, w ∈ wsX0_countBefore := by decide +kernel
  intro d
  induction d using Nat.strongRecOn with
  | ind d ih =>
    intro i H locs ls hd hi0 hP hD hS hl
    refine lv_iload hx hb dX0_countBefore_5 (lv_at hl 0 rfl) ?_
    refine lv_aload_n hx hb dX0_countBefore_7 rfl (lv_at hl 2 rfl) ?_
    refine va_get (D := (dC, dI)) (ci := 0) (v := .int (nI (xn u))) (C := RX0) (T := TX0) (N := 9) hx hb hts hfw hown hK hP 0 rfl rfl 8 (by decide) (hts (.fieldLink RX0 37 "MeldingHeaps" "entryCount" "I") (by decide +kernel)) (fun _ h9 => h9) rfl dX0_countBefore_8 ?_
    refine lv_icmp_ge (tgt := 50) hx hb dX0_countBefore_11 rfl (fun c11 => ?_) (fun c11 => ?_)
    · have hi2 : i = xn u := Nat.le_antisymm hi0 ((nI_leI (by omega) (by omega)).mp c11)
      rw [hi2] at hl
      exact kk _ _ _ hP hD hS (lv_sub hl [1, 2, 3, 4] rfl)
    · have hi : i < xn u := Nat.not_le.mp (fun q => c11 (nI_le q (by omega)))
      refine lv_aload_n hx hb dX0_countBefore_14 rfl (lv_at hl 2 rfl) ?_
      refine va_get (D := (dC, dI)) (ci := 0) (v := .ref (G 7)) (C := RX0) (T := TX0) (N := 9) hx hb hts hfw hown hK hP 0 rfl rfl 7 (by decide) (hts (.fieldLink RX0 34 "MeldingHeaps" "owners" "[I") (by decide +kernel)) (fun _ h9 => h9) rfl dX0_countBefore_15 ?_
      refine lv_iload hx hb dX0_countBefore_18 (lv_at hl 0 rfl) ?_
      refine va_iald (f := (xow u)) hx hb hK hP 7 6 rfl rfl (vp_in_nI (by omega) (by decide)) dX0_countBefore_20 ?_
      refine W.eq (congrArg (fun z => F0 m 21 ls (.int ((xow u) z) :: [])) (nI_clamp (show i < 2 ^ 31 by omega))) ?_
      refine lv_iload_n hx hb dX0_countBefore_21 rfl (lv_at hl 3 rfl) ?_
      refine lv_icmp_ne (tgt := 44) hx hb dX0_countBefore_22 rfl (fun c22 => ?_) (fun c22 => ?_)
      · refine lv_iinc (k := 0) (v := (nI (i + 1))) (lv' := [(4, .int (nI (i + 1))), (3, .int (nI (p_countBeforeL u h a i))), (0, .ref (G 0)), (1, .int h), (2, .int a)]) hx hb dX0_countBefore_44 hl rfl (xinc _) (by decide) rfl (fun ls hl => ?_)
        refine lv_goto (tgt := 5) hx hb dX0_countBefore_47 rfl ?_
        have e9 : p_countBeforeL u h a (i + 1) = (p_countBeforeL u h a i) := by rw [p_countBeforeL]; rw [if_neg c22]
        have hl : lv_has ls 5 [(4, .int (nI (i + 1))), (3, .int (nI (p_countBeforeL u h a (i + 1)))), (0, .ref (G 0)), (1, .int h), (2, .int a)] := by rw [e9]; exact lv_sub hl [0, 1, 2, 3, 4] rfl
        exact ih _ (by omega) (i + 1) _ _ _ rfl hi hP hD hS hl
      · refine lv_aload_n hx hb dX0_countBefore_25 rfl (lv_at hl 2 rfl) ?_
        refine lv_aload_n hx hb dX0_countBefore_26 rfl (lv_at hl 2 rfl) ?_
        refine va_get (D := (dC, dI)) (ci := 0) (v := .ref (G 2)) (C := RX0) (T := TX0) (N := 9) hx hb hts hfw hown hK hP 0 rfl rfl 1 (by decide) (hts (.fieldLink RX0 13 "MeldingHeaps" "orders" "[I") (by decide +kernel)) (fun _ h9 => h9) rfl dX0_countBefore_27 ?_
        refine lv_iload_n hx hb dX0_countBefore_30 rfl (lv_at hl 3 rfl) ?_
        refine va_iald (f := (xod u)) hx hb hK hP 2 1 rfl rfl (hh) dX0_countBefore_31 ?_
        refine lv_iload hx hb dX0_countBefore_32 (lv_at hl 0 rfl) ?_
        refine lv_iload_n hx hb dX0_countBefore_34 rfl (lv_at hl 4 rfl) ?_
        refine xcall_i (ws := (xW G C u)) (wc := (xW G C u)) (wr := []) (w1 := (xW G C u)) (v := (p_isBefore u ((xod u) (h).toNatClampNeg) (nI i) a)) [0, 1, 2, 3, 4, 5, 6, 7] [] (va_runV (As := [.int ((xod u) (h).toNatClampNeg), .int (nI i), .int a]) (rest := []) ⟨hx, hb, hml, hown, hts⟩ (c_isBefore l dC dI G C _ u ((xod u) (h).toNatClampNeg) (nI i) a (vp_in_nI (by omega) (by decide)) ha2) (cwV 3 hts gX0_countBefore_X0_isBefore rfl rfl rfl (by decide +kernel) ⟨Nat.le_of_ble_eq_true rfl, Nat.le_of_ble_eq_true rfl⟩) (xpreV (q0 := 0) (ci := 0) (qc := (RX0, TX0, 9)) hK hP hD rfl rfl) rfl rfl hl.1 rfl (lv_room (Nat.le_of_ble_eq_true rfl)) dX0_countBefore_35 ⟨Nat.zero_le _, Nat.zero_le _⟩) hP hD hS hA rfl rfl (by decide) (by decide) (fun H locs hP hD hS => ?_)
        have hP : va_P (dC, dI) vwCl (xW G C u) H := hP
        have hD : va_D A (xW G C u) := hD
        refine lv_if_eq (tgt := 44) hx hb dX0_countBefore_38 rfl (fun c38 => ?_) (fun c38 => ?_)
        · refine lv_iinc (k := 0) (v := (nI (i + 1))) (lv' := [(4, .int (nI (i + 1))), (3, .int (nI (p_countBeforeL u h a i))), (0, .ref (G 0)), (1, .int h), (2, .int a)]) hx hb dX0_countBefore_44 hl rfl (xinc _) (by decide) rfl (fun ls hl => ?_)
          refine lv_goto (tgt := 5) hx hb dX0_countBefore_47 rfl ?_
          have e9 : p_countBeforeL u h a (i + 1) = (p_countBeforeL u h a i) := by rw [p_countBeforeL]; rw [if_pos c22, if_pos c38]
          have hl : lv_has ls 5 [(4, .int (nI (i + 1))), (3, .int (nI (p_countBeforeL u h a (i + 1)))), (0, .ref (G 0)), (1, .int h), (2, .int a)] := by rw [e9]; exact lv_sub hl [0, 1, 2, 3, 4] rfl
          exact ih _ (by omega) (i + 1) _ _ _ rfl hi hP hD hS hl
        · refine lv_iinc (k := 1) (v := (nI ((p_countBeforeL u h a i) + 1))) (lv' := [(3, .int (nI ((p_countBeforeL u h a i) + 1))), (4, .int (nI i)), (0, .ref (G 0)), (1, .int h), (2, .int a)]) hx hb dX0_countBefore_41 hl rfl (xinc _) (by decide) rfl (fun ls hl => ?_)
          refine lv_iinc (k := 1) (v := (nI (i + 1))) (lv' := [(4, .int (nI (i + 1))), (3, .int (nI ((p_countBeforeL u h a i) + 1))), (0, .ref (G 0)), (1, .int h), (2, .int a)]) hx hb dX0_countBefore_44 hl rfl (xinc _) (by decide) rfl (fun ls hl => ?_)
          refine lv_goto (tgt := 5) hx hb dX0_countBefore_47 rfl ?_
          have e9 : p_countBeforeL u h a (i + 1) = ((p_countBeforeL u h a i) + 1) := by rw [p_countBeforeL]; rw [if_pos c22, if_neg c38]
          have hl : lv_has ls 5 [(4, .int (nI (i + 1))), (3, .int (nI (p_countBeforeL u h a (i + 1)))), (0, .ref (G 0)), (1, .int h), (2, .int a)] := by rw [e9]; exact lv_sub hl [0, 1, 2, 3, 4] rfl
          exact ih _ (by omega) (i + 1) _ _ _ rfl hi hP hD hS hl
def p_countBefore (u : xS) (h : Int32) (a : Int32) : Int32 :=
  (nI (p_countBeforeL u h a (xn u)))
set_option maxHeartbeats 4000000 in
set_option maxRecDepth 100000 in
theorem b_countBefore {p : Program} {l : Launch} {e : Env} {s : State} {m : MethodId} {args : Array Value} {below : List Frame} {meth : Method} {c : Code} {Q : State → Prop} {A : Nat → Prop} {ls : Array Slot} {dC : Nat → ClassId} {dI : Nat → Nat → Nat} {G : Nat → Nat} {C : Nat → ClassId} {u : xS} {h : Int32} {a : Int32} (hn : xn u ≤ 160) (hh : vp_in h 12) (ha2 : vp_in a 160) (B : CallFix p m c cX0_countBefore 5 s args wsX0_countBefore RX0) (hK : va_K (dC, dI) vwCl (xT C) s) (hA : ∀ q : Nat, s.heap.size ≤ q → A q) (hP : va_P (dC, dI) vwCl (xW G C u) s.heap) (hD : va_D A (xW G C u)) (hl : lv_has ls 5 [(0, .ref (G 0)), (1, .int h), (2, .int a)]) (kk : (∀ (H : Heap) (locs : List Loc) (pc : Nat) (ls : Array Slot), decode cX0_countBefore pc = .ok (.ireturn, 1) → va_P (dC, dI) vwCl (xW G C u) H → va_D A (xW G C u) → va_S A s.heap H locs → W p l e (xR 2 49) s m args below meth c H locs 0 0 Q (F0 m pc ls [.int (p_countBefore u h a)]))) : W p l e (xR 2 49) s m args below meth c s.heap [] 0 0 Q (F0 m 0 ls []) := by
  obtain ⟨hx, hb, hml, hown, hts⟩ := B
  have hS : va_S A s.heap s.heap [] := va_S.rf
  refine lv_iconst (v := 0) hx hb dX0_countBefore_0 (by decide) ?_
  refine lv_istore_n (lv' := [(3, .int 0), (0, .ref (G 0)), (1, .int h), (2, .int a)]) hx hb dX0_countBefore_1 rfl hl (by decide) rfl (fun ls hl => ?_)
  refine lv_iconst (v := 0) hx hb dX0_countBefore_2 (by decide) ?_
  refine lv_istore (lv' := [(4, .int 0), (3, .int 0), (0, .ref (G 0)), (1, .int h), (2, .int a)]) hx hb dX0_countBefore_3 hl (by decide) rfl (fun ls hl => ?_)
  refine lp_countBefore hn hh ha2 ⟨hx, hb, hml, hown, hts⟩ hK hA (fun H locs ls hP hD hS hl => ?_) _ 0 _ _ _ rfl (Nat.zero_le _) hP hD hS (lv_sub hl [0, 1, 2, 3, 4] rfl)
  refine lv_iload_n hx hb dX0_countBefore_50 rfl (lv_at hl 0 rfl) ?_
  have e9 : p_countBefore u h a = (nI (p_countBeforeL u h a (xn u))) := rfl
  exact W.eq (congrArg (fun z => F0 m 51 ls [.int z]) e9.symm) (kk _ _ _ _ dX0_countBefore_51 hP hD hS)
theorem c_countBefore (l : Launch) (dC : Nat → ClassId) (dI : Nat → Nat → Nat) (G : Nat → Nat) (C : Nat → ClassId) (sz : Nat) (u : xS) (h : Int32) (a : Int32) (hn : xn u ≤ 160) (hh : vp_in h 12) (ha2 : vp_in a 160) : xMi l yX0_countBefore wsX0_countBefore (xR 2 49) dC dI (xT C) [.ref (G 0), .int h, .int a] (xW G C u) (xW G C u) (p_countBefore u h a) sz :=
  xmet_i (by decide) rfl rfl (Nat.le_of_ble_eq_true rfl) rfl (fun p e s m args below meth c Q A ls B hK hA hP hD hl kk => b_countBefore hn hh ha2 B hK hA hP hD hl kk)
def q_handOverAllL (u : xS) (h b : Int32) : Nat → Nat → Int32
  | 0 => xow u
  | i + 1 =>
    (if ((q_handOverAllL u h b i) i) = h then
      (upd (q_handOverAllL u h b i) i b)
    else (q_handOverAllL u h b i))
def p_handOverAllL (u : xS) (h b : Int32) : Nat → Nat
  | 0 => 0
  | i + 1 =>
    (if ((q_handOverAllL u h b i) i) = h then
      ((p_handOverAllL u h b i) + 1)
    else (p_handOverAllL u h b i))
set_option maxHeartbeats 4000000 in
set_option maxRecDepth 100000 in
theorem lp_handOverAll {p : Program} {l : Launch} {e : Env} {s : State} {m : MethodId} {args : Array Value} {below : List Frame} {meth : Method} {c : Code} {Q : State → Prop} {A : Nat → Prop} {dC : Nat → ClassId} {dI : Nat → Nat → Nat} {G : Nat → Nat} {C : Nat → ClassId} {u : xS} {h : Int32} {b : Int32} (hn : xn u ≤ 160) (B : CallFix p m c cX0_handOverAll 5 s args wsX0_handOverAll RX0) (hK : va_K (dC, dI) vwCl (xT C) s) (hA : ∀ q : Nat, s.heap.size ≤ q → A q) (kk : ∀ (H : Heap) (locs : List Loc) (ls : Array Slot), va_P (dC, dI) vwCl (xW G C (sOw u (q_handOverAllL u h b (xn u)))) H → va_D A (xW G C (sOw u (q_handOverAllL u h b (xn u)))) → va_S A s.heap H locs → lv_has ls 5 [(3, .int (nI (p_handOverAllL u h b (xn u)))), (0, .ref (G 0)), (1, .int h), (2, .int b)] → W p l e (xR 0 0) s m args below meth c H locs 0 0 Q (F0 m 42 ls [])) :
    ∀ (d i : Nat) (H : Heap) (locs : List Loc) (ls : Array Slot), xn u - i = d → i ≤ xn u → va_P (dC, dI) vwCl (xW G C (sOw u (q_handOverAllL u h b i))) H → va_D A (xW G C (sOw u (q_handOverAllL u h b i))) → va_S A s.heap H locs → lv_has ls 5 [(4, .int (nI i)), (3, .int (nI (p_handOverAllL u h b i))), (0, .ref (G 0)), (1, .int h), (2, .int b)] → W p l e (xR 0 0) s m args below meth c H locs 0 0 Q (F0 m 5 ls []) := by
  obtain ⟨hx, hb, hml, hown, hts⟩ := B
  have hfw : ∀ w ∈ u_ws RX0 TX0 9, w ∈ wsX0_handOverAll := by decide +kernel
  intro d
  induction d using Nat.strongRecOn with
  | ind d ih =>
    intro i H locs ls hd hi0 hP hD hS hl
    refine lv_iload hx hb dX0_handOverAll_5 (lv_at hl 0 rfl) ?_
    refine lv_aload_n hx hb dX0_handOverAll_7 rfl (lv_at hl 2 rfl) ?_
    refine va_get (D := (dC, dI)) (ci := 0) (v := .int (nI (xn u))) (C := RX0) (T := TX0) (N := 9) hx hb hts hfw hown hK hP 0 rfl rfl 8 (by decide) (hts (.fieldLink RX0 37 "MeldingHeaps" "entryCount" "I") (by decide +kernel)) (fun _ h9 => h9) rfl dX0_handOverAll_8 ?_
    refine lv_icmp_ge (tgt := 42) hx hb dX0_handOverAll_11 rfl (fun c11 => ?_) (fun c11 => ?_)
    · have hi2 : i = xn u := Nat.le_antisymm hi0 ((nI_leI (by omega) (by omega)).mp c11)
      rw [hi2] at hl hP hD
      exact kk _ _ _ hP hD hS (lv_sub hl [1, 2, 3, 4] rfl)
    · have hi : i < xn u := Nat.not_le.mp (fun q => c11 (nI_le q (by omega)))
      refine lv_aload_n hx hb dX0_handOverAll_14 rfl (lv_at hl 2 rfl) ?_
      refine va_get (D := (dC, dI)) (ci := 0) (v := .ref (G 7)) (C := RX0) (T := TX0) (N := 9) hx hb hts hfw hown hK hP 0 rfl rfl 7 (by decide) (hts (.fieldLink RX0 34 "MeldingHeaps" "owners" "[I") (by decide +kernel)) (fun _ h9 => h9) rfl dX0_handOverAll_15 ?_
      refine lv_iload hx hb dX0_handOverAll_18 (lv_at hl 0 rfl) ?_
      refine va_iald (f := (q_handOverAllL u h b i)) hx hb hK hP 7 6 rfl rfl (vp_in_nI (by omega) (by decide)) dX0_handOverAll_20 ?_
      refine W.eq (congrArg (fun z => F0 m 21 ls (.int ((q_handOverAllL u h b i) z) :: [])) (nI_clamp (show i < 2 ^ 31 by omega))) ?_
      refine lv_iload_n hx hb dX0_handOverAll_21 rfl (lv_at hl 3 rfl) ?_
      refine lv_icmp_ne (tgt := 36) hx hb dX0_handOverAll_22 rfl (fun c22 => ?_) (fun c22 => ?_)
      · refine lv_iinc (k := 0) (v := (nI (i + 1))) (lv' := [(4, .int (nI (i + 1))), (3, .int (nI (p_handOverAllL u h b i))), (0, .ref (G 0)), (1, .int h), (2, .int b)]) hx hb dX0_handOverAll_36 hl rfl (xinc _) (by decide) rfl (fun ls hl => ?_)
        refine lv_goto (tgt := 5) hx hb dX0_handOverAll_39 rfl ?_
        have e9 : p_handOverAllL u h b (i + 1) = (p_handOverAllL u h b i) := by rw [p_handOverAllL]; rw [if_neg c22]
        have hl : lv_has ls 5 [(4, .int (nI (i + 1))), (3, .int (nI (p_handOverAllL u h b (i + 1)))), (0, .ref (G 0)), (1, .int h), (2, .int b)] := by rw [e9]; exact lv_sub hl [0, 1, 2, 3, 4] rfl
        have e8 : q_handOverAllL u h b (i + 1) = (q_handOverAllL u h b i) := by rw [q_handOverAllL]; rw [if_neg c22]
        have hP : va_P (dC, dI) vwCl (xW G C (sOw u (q_handOverAllL u h b (i + 1)))) H := by rw [e8]; exact hP
        have hD : va_D A (xW G C (sOw u (q_handOverAllL u h b (i + 1)))) := by rw [e8]; exact hD
        exact ih _ (by omega) (i + 1) _ _ _ rfl hi hP hD hS hl
      · refine lv_aload_n hx hb dX0_handOverAll_25 rfl (lv_at hl 2 rfl) ?_
        refine va_get (D := (dC, dI)) (ci := 0) (v := .ref (G 7)) (C := RX0) (T := TX0) (N := 9) hx hb hts hfw hown hK hP 0 rfl rfl 7 (by decide) (hts (.fieldLink RX0 34 "MeldingHeaps" "owners" "[I") (by decide +kernel)) (fun _ h9 => h9) rfl dX0_handOverAll_26 ?_
        refine lv_iload hx hb dX0_handOverAll_29 (lv_at hl 0 rfl) ?_
        refine lv_iload_n hx hb dX0_handOverAll_31 rfl (lv_at hl 4 rfl) ?_
        refine va_iast (f := (q_handOverAllL u h b i)) hx hb hK hP hD hS 7 6 rfl rfl (vp_in_nI (by omega) (by decide)) dX0_handOverAll_32 (fun H locs hP hD hS => ?_)
        rw [nI_clamp (show i < 2 ^ 31 by omega)] at hP hD
        have hP : va_P (dC, dI) vwCl (xW G C (sOw (sOw u (q_handOverAllL u h b i)) (upd (q_handOverAllL u h b i) i b))) H := hP
        have hD : va_D A (xW G C (sOw (sOw u (q_handOverAllL u h b i)) (upd (q_handOverAllL u h b i) i b))) := hD
        refine lv_iinc (k := 1) (v := (nI ((p_handOverAllL u h b i) + 1))) (lv' := [(3, .int (nI ((p_handOverAllL u h b i) + 1))), (4, .int (nI i)), (0, .ref (G 0)), (1, .int h), (2, .int b)]) hx hb dX0_handOverAll_33 hl rfl (xinc _) (by decide) rfl (fun ls hl => ?_)
        refine lv_iinc (k := 1) (v := (nI (i + 1))) (lv' := [(4, .int (nI (i + 1))), (3, .int (nI ((p_handOverAllL u h b i) + 1))), (0, .ref (G 0)), (1, .int h), (2, .int b)]) hx hb dX0_handOverAll_36 hl rfl (xinc _) (by decide) rfl (fun ls hl => ?_)
        refine lv_goto (tgt := 5) hx hb dX0_handOverAll_39 rfl ?_
        have e9 : p_handOverAllL u h b (i + 1) = ((p_handOverAllL u h b i) + 1) := by rw [p_handOverAllL]; rw [if_pos c22]
        have hl : lv_has ls 5 [(4, .int (nI (i + 1))), (3, .int (nI (p_handOverAllL u h b (i + 1)))), (0, .ref (G 0)), (1, .int h), (2, .int b)] := by rw [e9]; exact lv_sub hl [0, 1, 2, 3, 4] rfl
        have e8 : q_handOverAllL u h b (i + 1) = (upd (q_handOverAllL u h b i) i b) := by rw [q_handOverAllL]; rw [if_pos c22]
        have hP : va_P (dC, dI) vwCl (xW G C (sOw u (q_handOverAllL u h b (i + 1)))) H := by rw [e8]; exact hP
        have hD : va_D A (xW G C (sOw u (q_handOverAllL u h b (i + 1)))) := by rw [e8]; exact hD
        exact ih _ (by omega) (i + 1) _ _ _ rfl hi hP hD hS hl
def p_handOverAll (u : xS) (h : Int32) (b : Int32) : Int32 :=
  (nI (p_handOverAllL u h b (xn u)))
def q_handOverAll (u : xS) (h : Int32) (b : Int32) : xS :=
  (sOw u (q_handOverAllL u h b (xn u)))
set_option maxHeartbeats 4000000 in
set_option maxRecDepth 100000 in
theorem b_handOverAll {p : Program} {l : Launch} {e : Env} {s : State} {m : MethodId} {args : Array Value} {below : List Frame} {meth : Method} {c : Code} {Q : State → Prop} {A : Nat → Prop} {ls : Array Slot} {dC : Nat → ClassId} {dI : Nat → Nat → Nat} {G : Nat → Nat} {C : Nat → ClassId} {u : xS} {h : Int32} {b : Int32} (hn : xn u ≤ 160) (B : CallFix p m c cX0_handOverAll 5 s args wsX0_handOverAll RX0) (hK : va_K (dC, dI) vwCl (xT C) s) (hA : ∀ q : Nat, s.heap.size ≤ q → A q) (hP : va_P (dC, dI) vwCl (xW G C u) s.heap) (hD : va_D A (xW G C u)) (hl : lv_has ls 5 [(0, .ref (G 0)), (1, .int h), (2, .int b)]) (kk : (∀ (H : Heap) (locs : List Loc) (pc : Nat) (ls : Array Slot), decode cX0_handOverAll pc = .ok (.ireturn, 1) → va_P (dC, dI) vwCl (xW G C (q_handOverAll u h b)) H → va_D A (xW G C (q_handOverAll u h b)) → va_S A s.heap H locs → W p l e (xR 0 0) s m args below meth c H locs 0 0 Q (F0 m pc ls [.int (p_handOverAll u h b)]))) : W p l e (xR 0 0) s m args below meth c s.heap [] 0 0 Q (F0 m 0 ls []) := by
  obtain ⟨hx, hb, hml, hown, hts⟩ := B
  have hS : va_S A s.heap s.heap [] := va_S.rf
  refine lv_iconst (v := 0) hx hb dX0_handOverAll_0 (by decide) ?_
  refine lv_istore_n (lv' := [(3, .int 0), (0, .ref (G 0)), (1, .int h), (2, .int b)]) hx hb dX0_handOverAll_1 rfl hl (by decide) rfl (fun ls hl => ?_)
  refine lv_iconst (v := 0) hx hb dX0_handOverAll_2 (by decide) ?_
  refine lv_istore (lv' := [(4, .int 0), (3, .int 0), (0, .ref (G 0)), (1, .int h), (2, .int b)]) hx hb dX0_handOverAll_3 hl (by decide) rfl (fun ls hl => ?_)
  refine lp_handOverAll hn ⟨hx, hb, hml, hown, hts⟩ hK hA (fun H locs ls hP hD hS hl => ?_) _ 0 _ _ _ rfl (Nat.zero_le _) hP hD hS (lv_sub hl [0, 1, 2, 3, 4] rfl)
  refine lv_iload_n hx hb dX0_handOverAll_42 rfl (lv_at hl 0 rfl) ?_
  have e8 : q_handOverAll u h b = (sOw u (q_handOverAllL u h b (xn u))) := rfl
  have e9 : p_handOverAll u h b = (nI (p_handOverAllL u h b (xn u))) := rfl
  exact W.eq (congrArg (fun z => F0 m 43 ls [.int z]) e9.symm) (kk _ _ _ _ dX0_handOverAll_43 (by rw [e8]; exact hP) (by rw [e8]; exact hD) hS)
theorem c_handOverAll (l : Launch) (dC : Nat → ClassId) (dI : Nat → Nat → Nat) (G : Nat → Nat) (C : Nat → ClassId) (sz : Nat) (u : xS) (h : Int32) (b : Int32) (hn : xn u ≤ 160) : xMi l yX0_handOverAll wsX0_handOverAll (xR 0 0) dC dI (xT C) [.ref (G 0), .int h, .int b] (xW G C u) (xW G C (q_handOverAll u h b)) (p_handOverAll u h b) sz :=
  xmet_i (by decide) rfl rfl (Nat.le_of_ble_eq_true rfl) rfl (fun p e s m args below meth c Q A ls B hK hA hP hD hl kk => b_handOverAll hn B hK hA hP hD hl kk)
end
section
theorem cnt_in {n N : Nat} {X : Int32} (c : nI n < X) (hX : X = nI N := by decide) (hN : N < 2 ^ 31 := by decide) (hn : n < 2 ^ 31 := by omega) : vp_in (nI n) N := by
  subst hX
  exact vp_in_nI ((nI_ltI hn hN).mp c) hN
theorem in_refL {u : xS} {h : Int32} (hm : xm u ≤ 12) (c : p_refusalOfLastOf u h = 0) : vp_in h 12 := by
  unfold p_refusalOfLastOf at c
  by_cases h1 : p_refusalOfHeap u h = 0
  · exact in_refH hm h1
  · rw [if_neg h1] at c; exact absurd c h1
theorem refH_neg {u : xS} {h : Int32} (c : ¬ p_refusalOfHeap u h = 0) : p_refusalOfHeap u h < 0 := by
  unfold p_refusalOfHeap at c ⊢
  by_cases h1 : p_isHeap u h = 0
  · rw [if_pos h1]; decide
  · rw [if_neg h1] at c ⊢
    by_cases h2 : (xab u h.toNatClampNeg) = 0
    · rw [if_pos h2] at c; exact absurd rfl c
    · rw [if_neg h2]; decide
theorem refL_neg {u : xS} {h : Int32} (c : ¬ p_refusalOfLastOf u h = 0) : p_refusalOfLastOf u h < 0 := by
  unfold p_refusalOfLastOf at c ⊢
  by_cases h1 : p_refusalOfHeap u h = 0
  · rw [if_pos h1] at c ⊢
    by_cases h2 : (xkd u h.toNatClampNeg) = 1
    · rw [if_pos h2] at c; exact absurd rfl c
    · rw [if_neg h2]; decide
  · rw [if_neg h1]; exact refH_neg h1
def p_first (u : xS) (h : Int32) : Int32 :=
  (if (p_refusalOfHeap u h) = 0 then
    (p_findFirst u h)
  else (p_refusalOfHeap u h))
set_option maxHeartbeats 4000000 in
set_option maxRecDepth 100000 in
theorem b_first {p : Program} {l : Launch} {e : Env} {s : State} {m : MethodId} {args : Array Value} {below : List Frame} {meth : Method} {c : Code} {Q : State → Prop} {A : Nat → Prop} {ls : Array Slot} {dC : Nat → ClassId} {dI : Nat → Nat → Nat} {G : Nat → Nat} {C : Nat → ClassId} {u : xS} {h : Int32} (hm : xm u ≤ 12) (hn : xn u ≤ 160) (B : CallFix p m c cX0_first 3 s args wsX0_first RX0) (hK : va_K (dC, dI) vwCl (xT C) s) (hA : ∀ q : Nat, s.heap.size ≤ q → A q) (hP : va_P (dC, dI) vwCl (xW G C u) s.heap) (hD : va_D A (xW G C u)) (hl : lv_has ls 3 [(0, .ref (G 0)), (1, .int h)]) (kk : (∀ (H : Heap) (locs : List Loc) (pc : Nat) (ls : Array Slot), decode cX0_first pc = .ok (.ireturn, 1) → va_P (dC, dI) vwCl (xW G C u) H → va_D A (xW G C u) → va_S A s.heap H locs → W p l e (xR 3 72) s m args below meth c H locs 0 0 Q (F0 m pc ls [.int (p_first u h)]))) : W p l e (xR 3 72) s m args below meth c s.heap [] 0 0 Q (F0 m 0 ls []) := by
  obtain ⟨hx, hb, hml, hown, hts⟩ := B
  have hS : va_S A s.heap s.heap [] := va_S.rf
  refine lv_aload_n hx hb dX0_first_0 rfl (lv_at hl 0 rfl) ?_
  refine lv_iload_n hx hb dX0_first_1 rfl (lv_at hl 1 rfl) ?_
  refine xcall_i (ws := (xW G C u)) (wc := (xW G C u)) (wr := []) (w1 := (xW G C u)) (v := (p_refusalOfHeap u h)) [0, 1, 2, 3, 4, 5, 6, 7] [] (va_runV (As := [.int h]) (rest := []) ⟨hx, hb, hml, hown, hts⟩ (c_refusalOfHeap l dC dI G C _ u h hm) (cwV 1 hts gX0_first_X0_refusalOfHeap rfl rfl rfl (by decide +kernel) ⟨Nat.le_of_ble_eq_true rfl, Nat.le_of_ble_eq_true rfl⟩) (xpreV (q0 := 0) (ci := 0) (qc := (RX0, TX0, 9)) hK hP hD rfl rfl) rfl rfl hl.1 rfl (lv_room (Nat.le_of_ble_eq_true rfl)) dX0_first_2 ⟨Nat.zero_le _, Nat.zero_le _⟩) hP hD hS hA rfl rfl (by decide) (by decide) (fun H locs hP hD hS => ?_)
  have hP : va_P (dC, dI) vwCl (xW G C u) H := hP
  have hD : va_D A (xW G C u) := hD
  refine lv_istore_n (lv' := [(2, .int (p_refusalOfHeap u h)), (0, .ref (G 0)), (1, .int h)]) hx hb dX0_first_5 rfl hl (by decide) rfl (fun ls hl => ?_)
  refine lv_iload_n hx hb dX0_first_6 rfl (lv_at hl 0 rfl) ?_
  refine lv_if_eq (tgt := 14) hx hb dX0_first_7 rfl (fun c7 => ?_) (fun c7 => ?_)
  · refine lv_aload_n hx hb dX0_first_14 rfl (lv_at hl 1 rfl) ?_
    refine lv_iload_n hx hb dX0_first_15 rfl (lv_at hl 2 rfl) ?_
    refine xcall_i (ws := (xW G C u)) (wc := (xW G C u)) (wr := []) (w1 := (xW G C u)) (v := (p_findFirst u h)) [0, 1, 2, 3, 4, 5, 6, 7] [] (va_runV (As := [.int h]) (rest := []) ⟨hx, hb, hml, hown, hts⟩ (c_findFirst l dC dI G C _ u h hn (in_refH hm c7)) (cwV 1 hts gX0_first_X0_findFirst rfl rfl rfl (by decide +kernel) ⟨Nat.le_of_ble_eq_true rfl, Nat.le_of_ble_eq_true rfl⟩) (xpreV (q0 := 0) (ci := 0) (qc := (RX0, TX0, 9)) hK hP hD rfl rfl) rfl rfl hl.1 rfl (lv_room (Nat.le_of_ble_eq_true rfl)) dX0_first_16 ⟨Nat.zero_le _, Nat.zero_le _⟩) hP hD hS hA rfl rfl (by decide) (by decide) (fun H locs hP hD hS => ?_)
    have hP : va_P (dC, dI) vwCl (xW G C u) H := hP
    have hD : va_D A (xW G C u) := hD
    have e9 : p_first u h = (p_findFirst u h) := by unfold p_first; rw [if_pos c7]
    exact W.eq (congrArg (fun z => F0 m 19 ls [.int z]) e9.symm) (kk _ _ _ _ dX0_first_19 hP hD hS)
  · refine lv_iload_n hx hb dX0_first_10 rfl (lv_at hl 0 rfl) ?_
    refine lv_goto (tgt := 19) hx hb dX0_first_11 rfl ?_
    have e9 : p_first u h = (p_refusalOfHeap u h) := by unfold p_first; rw [if_neg c7]
    exact W.eq (congrArg (fun z => F0 m 19 ls [.int z]) e9.symm) (kk _ _ _ _ dX0_first_19 hP hD hS)
theorem c_first (l : Launch) (dC : Nat → ClassId) (dI : Nat → Nat → Nat) (G : Nat → Nat) (C : Nat → ClassId) (sz : Nat) (u : xS) (h : Int32) (hm : xm u ≤ 12) (hn : xn u ≤ 160) : xMi l yX0_first wsX0_first (xR 3 72) dC dI (xT C) [.ref (G 0), .int h] (xW G C u) (xW G C u) (p_first u h) sz :=
  xmet_i (by decide) rfl rfl (Nat.le_of_ble_eq_true rfl) rfl (fun p e s m args below meth c Q A ls B hK hA hP hD hl kk => b_first hm hn B hK hA hP hD hl kk)
def p_last (u : xS) (h : Int32) : Int32 :=
  (if (p_refusalOfLastOf u h) = 0 then
    (p_findLast u h)
  else (p_refusalOfLastOf u h))
set_option maxHeartbeats 4000000 in
set_option maxRecDepth 100000 in
theorem b_last {p : Program} {l : Launch} {e : Env} {s : State} {m : MethodId} {args : Array Value} {below : List Frame} {meth : Method} {c : Code} {Q : State → Prop} {A : Nat → Prop} {ls : Array Slot} {dC : Nat → ClassId} {dI : Nat → Nat → Nat} {G : Nat → Nat} {C : Nat → ClassId} {u : xS} {h : Int32} (hm : xm u ≤ 12) (hn : xn u ≤ 160) (B : CallFix p m c cX0_last 3 s args wsX0_last RX0) (hK : va_K (dC, dI) vwCl (xT C) s) (hA : ∀ q : Nat, s.heap.size ≤ q → A q) (hP : va_P (dC, dI) vwCl (xW G C u) s.heap) (hD : va_D A (xW G C u)) (hl : lv_has ls 3 [(0, .ref (G 0)), (1, .int h)]) (kk : (∀ (H : Heap) (locs : List Loc) (pc : Nat) (ls : Array Slot), decode cX0_last pc = .ok (.ireturn, 1) → va_P (dC, dI) vwCl (xW G C u) H → va_D A (xW G C u) → va_S A s.heap H locs → W p l e (xR 3 72) s m args below meth c H locs 0 0 Q (F0 m pc ls [.int (p_last u h)]))) : W p l e (xR 3 72) s m args below meth c s.heap [] 0 0 Q (F0 m 0 ls []) := by
  obtain ⟨hx, hb, hml, hown, hts⟩ := B
  have hS : va_S A s.heap s.heap [] := va_S.rf
  refine lv_aload_n hx hb dX0_last_0 rfl (lv_at hl 0 rfl) ?_
  refine lv_iload_n hx hb dX0_last_1 rfl (lv_at hl 1 rfl) ?_
  refine xcall_i (ws := (xW G C u)) (wc := (xW G C u)) (wr := []) (w1 := (xW G C u)) (v := (p_refusalOfLastOf u h)) [0, 1, 2, 3, 4, 5, 6, 7] [] (va_runV (As := [.int h]) (rest := []) ⟨hx, hb, hml, hown, hts⟩ (c_refusalOfLastOf l dC dI G C _ u h hm) (cwV 1 hts gX0_last_X0_refusalOfLastOf rfl rfl rfl (by decide +kernel) ⟨Nat.le_of_ble_eq_true rfl, Nat.le_of_ble_eq_true rfl⟩) (xpreV (q0 := 0) (ci := 0) (qc := (RX0, TX0, 9)) hK hP hD rfl rfl) rfl rfl hl.1 rfl (lv_room (Nat.le_of_ble_eq_true rfl)) dX0_last_2 ⟨Nat.zero_le _, Nat.zero_le _⟩) hP hD hS hA rfl rfl (by decide) (by decide) (fun H locs hP hD hS => ?_)
  have hP : va_P (dC, dI) vwCl (xW G C u) H := hP
  have hD : va_D A (xW G C u) := hD
  refine lv_istore_n (lv' := [(2, .int (p_refusalOfLastOf u h)), (0, .ref (G 0)), (1, .int h)]) hx hb dX0_last_5 rfl hl (by decide) rfl (fun ls hl => ?_)
  refine lv_iload_n hx hb dX0_last_6 rfl (lv_at hl 0 rfl) ?_
  refine lv_if_eq (tgt := 14) hx hb dX0_last_7 rfl (fun c7 => ?_) (fun c7 => ?_)
  · refine lv_aload_n hx hb dX0_last_14 rfl (lv_at hl 1 rfl) ?_
    refine lv_iload_n hx hb dX0_last_15 rfl (lv_at hl 2 rfl) ?_
    refine xcall_i (ws := (xW G C u)) (wc := (xW G C u)) (wr := []) (w1 := (xW G C u)) (v := (p_findLast u h)) [0, 1, 2, 3, 4, 5, 6, 7] [] (va_runV (As := [.int h]) (rest := []) ⟨hx, hb, hml, hown, hts⟩ (c_findLast l dC dI G C _ u h hn (in_refL hm c7)) (cwV 1 hts gX0_last_X0_findLast rfl rfl rfl (by decide +kernel) ⟨Nat.le_of_ble_eq_true rfl, Nat.le_of_ble_eq_true rfl⟩) (xpreV (q0 := 0) (ci := 0) (qc := (RX0, TX0, 9)) hK hP hD rfl rfl) rfl rfl hl.1 rfl (lv_room (Nat.le_of_ble_eq_true rfl)) dX0_last_16 ⟨Nat.zero_le _, Nat.zero_le _⟩) hP hD hS hA rfl rfl (by decide) (by decide) (fun H locs hP hD hS => ?_)
    have hP : va_P (dC, dI) vwCl (xW G C u) H := hP
    have hD : va_D A (xW G C u) := hD
    have e9 : p_last u h = (p_findLast u h) := by unfold p_last; rw [if_pos c7]
    exact W.eq (congrArg (fun z => F0 m 19 ls [.int z]) e9.symm) (kk _ _ _ _ dX0_last_19 hP hD hS)
  · refine lv_iload_n hx hb dX0_last_10 rfl (lv_at hl 0 rfl) ?_
    refine lv_goto (tgt := 19) hx hb dX0_last_11 rfl ?_
    have e9 : p_last u h = (p_refusalOfLastOf u h) := by unfold p_last; rw [if_neg c7]
    exact W.eq (congrArg (fun z => F0 m 19 ls [.int z]) e9.symm) (kk _ _ _ _ dX0_last_19 hP hD hS)
theorem c_last (l : Launch) (dC : Nat → ClassId) (dI : Nat → Nat → Nat) (G : Nat → Nat) (C : Nat → ClassId) (sz : Nat) (u : xS) (h : Int32) (hm : xm u ≤ 12) (hn : xn u ≤ 160) : xMi l yX0_last wsX0_last (xR 3 72) dC dI (xT C) [.ref (G 0), .int h] (xW G C u) (xW G C u) (p_last u h) sz :=
  xmet_i (by decide) rfl rfl (Nat.le_of_ble_eq_true rfl) rfl (fun p e s m args below meth c Q A ls B hK hA hP hD hl kk => b_last hm hn B hK hA hP hD hl kk)
theorem first_in {u : xS} {h : Int32} (hm : xm u ≤ 12) (hn : xn u ≤ 160) (c : ¬ p_first u h < 0) : vp_in h 12 ∧ vp_in (p_first u h) 160 := by
  unfold p_first at c ⊢
  by_cases h1 : p_refusalOfHeap u h = 0
  · rw [if_pos h1] at c ⊢
    refine ⟨in_refH hm h1, findFirst_vp hn (fun q => c ?_)⟩
    show p_findFirstL u h (xn u) < 0
    rw [q]; decide
  · rw [if_neg h1] at c; exact absurd (refH_neg h1) c
theorem last_in {u : xS} {h : Int32} (hm : xm u ≤ 12) (hn : xn u ≤ 160) (c : ¬ p_last u h < 0) : vp_in h 12 ∧ vp_in (p_last u h) 160 := by
  unfold p_last at c ⊢
  by_cases h1 : p_refusalOfLastOf u h = 0
  · rw [if_pos h1] at c ⊢
    refine ⟨in_refL hm h1, findLast_vp hn (fun q => c ?_)⟩
    show p_findLastL u h (xn u) < 0
    rw [q]; decide
  · rw [if_neg h1] at c; exact absurd (refL_neg h1) c
def p_open (u : xS) (a : Int32) (b : Int32) : Int32 :=
  (if a < 0 then
    (-2)
  else (if 2 < a then
      (-2)
    else (if b < 0 then
        (-2)
      else (if b ≤ 3 then
          (if (nI (xm u)) < 12 then
            (nI (xm u))
          else (-8))
        else (-2)))))
def q_open (u : xS) (a : Int32) (b : Int32) : xS :=
  (if a < 0 then
    u
  else (if 2 < a then
      u
    else (if b < 0 then
        u
      else (if b ≤ 3 then
          (if (nI (xm u)) < 12 then
            (sM (sFl (sAb (sOd (sKd u (upd (xkd u) ((nI (xm u))).toNatClampNeg a)) (upd (xod u) ((nI (xm u))).toNatClampNeg b)) (upd (xab u) ((nI (xm u))).toNatClampNeg 0)) (vp_updL (xfl u) ((nI (xm u))).toNatClampNeg (-9223372036854775808))) ((xm u) + 1))
          else u)
        else u))))
set_option maxHeartbeats 4000000 in
set_option maxRecDepth 100000 in
theorem b_open {p : Program} {l : Launch} {e : Env} {s : State} {m : MethodId} {args : Array Value} {below : List Frame} {meth : Method} {c : Code} {Q : State → Prop} {A : Nat → Prop} {ls : Array Slot} {dC : Nat → ClassId} {dI : Nat → Nat → Nat} {G : Nat → Nat} {C : Nat → ClassId} {u : xS} {a : Int32} {b : Int32} (hm : xm u ≤ 12) (B : CallFix p m c cX0_open 4 s args wsX0_open RX0) (hK : va_K (dC, dI) vwCl (xT C) s) (hA : ∀ q : Nat, s.heap.size ≤ q → A q) (hP : va_P (dC, dI) vwCl (xW G C u) s.heap) (hD : va_D A (xW G C u)) (hl : lv_has ls 4 [(0, .ref (G 0)), (1, .int a), (2, .int b)]) (kk : (∀ (H : Heap) (locs : List Loc) (pc : Nat) (ls : Array Slot), decode cX0_open pc = .ok (.ireturn, 1) → va_P (dC, dI) vwCl (xW G C (q_open u a b)) H → va_D A (xW G C (q_open u a b)) → va_S A s.heap H locs → W p l e (xR 0 0) s m args below meth c H locs 0 0 Q (F0 m pc ls [.int (p_open u a b)]))) : W p l e (xR 0 0) s m args below meth c s.heap [] 0 0 Q (F0 m 0 ls []) := by
  obtain ⟨hx, hb, hml, hown, hts⟩ := B
  have hS : va_S A s.heap s.heap [] := va_S.rf
  have hfw : ∀ w ∈ u_ws RX0 TX0 9, w ∈ wsX0_open := by decide +kernel
  refine lv_iload_n hx hb dX0_open_0 rfl (lv_at hl 1 rfl) ?_
  refine lv_if_lt (tgt := 18) hx hb dX0_open_1 rfl (fun c1 => ?_) (fun c1 => ?_)
  · refine lv_bipush (v := (-2)) hx hb dX0_open_18 (by decide) ?_
    have e8 : q_open u a b = u := by unfold q_open; rw [if_pos c1]
    have e9 : p_open u a b = (-2) := by unfold p_open; rw [if_pos c1]
    exact W.eq (congrArg (fun z => F0 m 20 ls [.int z]) e9.symm) (kk _ _ _ _ dX0_open_20 (by rw [e8]; exact hP) (by rw [e8]; exact hD) hS)
  · refine lv_iload_n hx hb dX0_open_4 rfl (lv_at hl 1 rfl) ?_
    refine lv_iconst (v := 2) hx hb dX0_open_5 (by decide) ?_
    refine lv_icmp_gt (tgt := 18) hx hb dX0_open_6 rfl (fun c6 => ?_) (fun c6 => ?_)
    · refine lv_bipush (v := (-2)) hx hb dX0_open_18 (by decide) ?_
      have e8 : q_open u a b = u := by unfold q_open; rw [if_neg c1, if_pos c6]
      have e9 : p_open u a b = (-2) := by unfold p_open; rw [if_neg c1, if_pos c6]
      exact W.eq (congrArg (fun z => F0 m 20 ls [.int z]) e9.symm) (kk _ _ _ _ dX0_open_20 (by rw [e8]; exact hP) (by rw [e8]; exact hD) hS)
    · refine lv_iload_n hx hb dX0_open_9 rfl (lv_at hl 2 rfl) ?_
      refine lv_if_lt (tgt := 18) hx hb dX0_open_10 rfl (fun c10 => ?_) (fun c10 => ?_)
      · refine lv_bipush (v := (-2)) hx hb dX0_open_18 (by decide) ?_
        have e8 : q_open u a b = u := by unfold q_open; rw [if_neg c1, if_neg c6, if_pos c10]
        have e9 : p_open u a b = (-2) := by unfold p_open; rw [if_neg c1, if_neg c6, if_pos c10]
        exact W.eq (congrArg (fun z => F0 m 20 ls [.int z]) e9.symm) (kk _ _ _ _ dX0_open_20 (by rw [e8]; exact hP) (by rw [e8]; exact hD) hS)
      · refine lv_iload_n hx hb dX0_open_13 rfl (lv_at hl 2 rfl) ?_
        refine lv_iconst (v := 3) hx hb dX0_open_14 (by decide) ?_
        refine lv_icmp_le (tgt := 21) hx hb dX0_open_15 rfl (fun c15 => ?_) (fun c15 => ?_)
        · refine lv_aload_n hx hb dX0_open_21 rfl (lv_at hl 0 rfl) ?_
          refine va_get (D := (dC, dI)) (ci := 0) (v := .int (nI (xm u))) (C := RX0) (T := TX0) (N := 9) hx hb hts hfw hown hK hP 0 rfl rfl 4 (by decide) (hts (.fieldLink RX0 24 "MeldingHeaps" "heapCount" "I") (by decide +kernel)) (fun _ h9 => h9) rfl dX0_open_22 ?_
          refine lv_bipush (v := 12) hx hb dX0_open_25 (by decide) ?_
          refine lv_icmp_lt (tgt := 33) hx hb dX0_open_27 rfl (fun c27 => ?_) (fun c27 => ?_)
          · refine lv_aload_n hx hb dX0_open_33 rfl (lv_at hl 0 rfl) ?_
            refine va_get (D := (dC, dI)) (ci := 0) (v := .int (nI (xm u))) (C := RX0) (T := TX0) (N := 9) hx hb hts hfw hown hK hP 0 rfl rfl 4 (by decide) (hts (.fieldLink RX0 24 "MeldingHeaps" "heapCount" "I") (by decide +kernel)) (fun _ h9 => h9) rfl dX0_open_34 ?_
            refine lv_istore_n (lv' := [(3, .int (nI (xm u))), (0, .ref (G 0)), (1, .int a), (2, .int b)]) hx hb dX0_open_37 rfl hl (by decide) rfl (fun ls hl => ?_)
            refine lv_aload_n hx hb dX0_open_38 rfl (lv_at hl 1 rfl) ?_
            refine va_get (D := (dC, dI)) (ci := 0) (v := .ref (G 1)) (C := RX0) (T := TX0) (N := 9) hx hb hts hfw hown hK hP 0 rfl rfl 0 (by decide) (hts (.fieldLink RX0 9 "MeldingHeaps" "kinds" "[I") (by decide +kernel)) (fun _ h9 => h9) rfl dX0_open_39 ?_
            refine lv_iload_n hx hb dX0_open_42 rfl (lv_at hl 0 rfl) ?_
            refine lv_iload_n hx hb dX0_open_43 rfl (lv_at hl 2 rfl) ?_
            refine va_iast (f := (xkd u)) hx hb hK hP hD hS 1 0 rfl rfl (cnt_in c27) dX0_open_44 (fun H locs hP hD hS => ?_)
            have hP : va_P (dC, dI) vwCl (xW G C (sKd u (upd (xkd u) ((nI (xm u))).toNatClampNeg a))) H := hP
            have hD : va_D A (xW G C (sKd u (upd (xkd u) ((nI (xm u))).toNatClampNeg a))) := hD
            refine lv_aload_n hx hb dX0_open_45 rfl (lv_at hl 1 rfl) ?_
            refine va_get (D := (dC, dI)) (ci := 0) (v := .ref (G 2)) (C := RX0) (T := TX0) (N := 9) hx hb hts hfw hown hK hP 0 rfl rfl 1 (by decide) (hts (.fieldLink RX0 13 "MeldingHeaps" "orders" "[I") (by decide +kernel)) (fun _ h9 => h9) rfl dX0_open_46 ?_
            refine lv_iload_n hx hb dX0_open_49 rfl (lv_at hl 0 rfl) ?_
            refine lv_iload_n hx hb dX0_open_50 rfl (lv_at hl 3 rfl) ?_
            refine va_iast (f := (xod u)) hx hb hK hP hD hS 2 1 rfl rfl (cnt_in c27) dX0_open_51 (fun H locs hP hD hS => ?_)
            have hP : va_P (dC, dI) vwCl (xW G C (sOd (sKd u (upd (xkd u) ((nI (xm u))).toNatClampNeg a)) (upd (xod u) ((nI (xm u))).toNatClampNeg b))) H := hP
            have hD : va_D A (xW G C (sOd (sKd u (upd (xkd u) ((nI (xm u))).toNatClampNeg a)) (upd (xod u) ((nI (xm u))).toNatClampNeg b))) := hD
            refine lv_aload_n hx hb dX0_open_52 rfl (lv_at hl 1 rfl) ?_
            refine va_get (D := (dC, dI)) (ci := 0) (v := .ref (G 3)) (C := RX0) (T := TX0) (N := 9) hx hb hts hfw hown hK hP 0 rfl rfl 2 (by decide) (hts (.fieldLink RX0 16 "MeldingHeaps" "absorbed" "[Z") (by decide +kernel)) (fun _ h9 => h9) rfl dX0_open_53 ?_
            refine lv_iload_n hx hb dX0_open_56 rfl (lv_at hl 0 rfl) ?_
            refine lv_iconst (v := 0) hx hb dX0_open_57 (by decide) ?_
            refine va_zast (f := (xab u)) hx hb hK hP hD hS 3 2 rfl rfl (cnt_in c27) dX0_open_58 (fun H locs hP hD hS => ?_)
            have hP : va_P (dC, dI) vwCl (xW G C (sAb (sOd (sKd u (upd (xkd u) ((nI (xm u))).toNatClampNeg a)) (upd (xod u) ((nI (xm u))).toNatClampNeg b)) (upd (xab u) ((nI (xm u))).toNatClampNeg 0))) H := hP
            have hD : va_D A (xW G C (sAb (sOd (sKd u (upd (xkd u) ((nI (xm u))).toNatClampNeg a)) (upd (xod u) ((nI (xm u))).toNatClampNeg b)) (upd (xab u) ((nI (xm u))).toNatClampNeg 0))) := hD
            refine lv_aload_n hx hb dX0_open_59 rfl (lv_at hl 1 rfl) ?_
            refine va_get (D := (dC, dI)) (ci := 0) (v := .ref (G 4)) (C := RX0) (T := TX0) (N := 9) hx hb hts hfw hown hK hP 0 rfl rfl 3 (by decide) (hts (.fieldLink RX0 20 "MeldingHeaps" "floors" "[J") (by decide +kernel)) (fun _ h9 => h9) rfl dX0_open_60 ?_
            refine lv_iload_n hx hb dX0_open_63 rfl (lv_at hl 0 rfl) ?_
            refine lv_ldc2 (v := (-9223372036854775808)) hx hb hown (hts (.constantLong RX0 40 (-9223372036854775808)) (by decide +kernel)) dX0_open_64 ?_
            refine va_last (f := (xfl u)) hx hb hK hP hD hS 4 3 rfl rfl (cnt_in c27) dX0_open_67 (fun H locs hP hD hS => ?_)
            have hP : va_P (dC, dI) vwCl (xW G C (sFl (sAb (sOd (sKd u (upd (xkd u) ((nI (xm u))).toNatClampNeg a)) (upd (xod u) ((nI (xm u))).toNatClampNeg b)) (upd (xab u) ((nI (xm u))).toNatClampNeg 0)) (vp_updL (xfl u) ((nI (xm u))).toNatClampNeg (-9223372036854775808)))) H := hP
            have hD : va_D A (xW G C (sFl (sAb (sOd (sKd u (upd (xkd u) ((nI (xm u))).toNatClampNeg a)) (upd (xod u) ((nI (xm u))).toNatClampNeg b)) (upd (xab u) ((nI (xm u))).toNatClampNeg 0)) (vp_updL (xfl u) ((nI (xm u))).toNatClampNeg (-9223372036854775808)))) := hD
            refine lv_aload_n hx hb dX0_open_68 rfl (lv_at hl 1 rfl) ?_
            refine lv_dup hx hb dX0_open_69 rfl ?_
            refine va_get (D := (dC, dI)) (ci := 0) (v := .int (nI (xm u))) (C := RX0) (T := TX0) (N := 9) hx hb hts hfw hown hK hP 0 rfl rfl 4 (by decide) (hts (.fieldLink RX0 24 "MeldingHeaps" "heapCount" "I") (by decide +kernel)) (fun _ h9 => h9) rfl dX0_open_70 ?_
            refine lv_iconst (v := 1) hx hb dX0_open_73 (by decide) ?_
            refine lv_iadd hx hb dX0_open_74 ?_
            refine W.eq (congrArg (fun z => F0 m 75 ls (.int z :: [.ref (G 0)])) (nI_1 (xm u))) ?_
            refine va_put (D := (dC, dI)) (ci := 0) (v := .int (nI ((xm u) + 1))) (ty := .int) (C := RX0) (T := TX0) (N := 9) hx hb hts hfw tyX0 tyX0_ok nmX0 hown hK hP hD hS 0 rfl rfl 4 (by decide) (hts (.fieldLink RX0 24 "MeldingHeaps" "heapCount" "I") (by decide +kernel)) (fun _ h9 => h9) rfl (by decide +kernel) rfl rfl (Nat.le_of_ble_eq_true rfl) dX0_open_75 (fun H locs hP hD hS => ?_)
            have hP : va_P (dC, dI) vwCl (xW G C (sM (sFl (sAb (sOd (sKd u (upd (xkd u) ((nI (xm u))).toNatClampNeg a)) (upd (xod u) ((nI (xm u))).toNatClampNeg b)) (upd (xab u) ((nI (xm u))).toNatClampNeg 0)) (vp_updL (xfl u) ((nI (xm u))).toNatClampNeg (-9223372036854775808))) ((xm u) + 1))) H := hP
            have hD : va_D A (xW G C (sM (sFl (sAb (sOd (sKd u (upd (xkd u) ((nI (xm u))).toNatClampNeg a)) (upd (xod u) ((nI (xm u))).toNatClampNeg b)) (upd (xab u) ((nI (xm u))).toNatClampNeg 0)) (vp_updL (xfl u) ((nI (xm u))).toNatClampNeg (-9223372036854775808))) ((xm u) + 1))) := hD
            refine lv_iload_n hx hb dX0_open_78 rfl (lv_at hl 0 rfl) ?_
            have e8 : q_open u a b = (sM (sFl (sAb (sOd (sKd u (upd (xkd u) ((nI (xm u))).toNatClampNeg a)) (upd (xod u) ((nI (xm u))).toNatClampNeg b)) (upd (xab u) ((nI (xm u))).toNatClampNeg 0)) (vp_updL (xfl u) ((nI (xm u))).toNatClampNeg (-9223372036854775808))) ((xm u) + 1)) := by unfold q_open; rw [if_neg c1, if_neg c6, if_neg c10, if_pos c15, if_pos c27]
            have e9 : p_open u a b = (nI (xm u)) := by unfold p_open; rw [if_neg c1, if_neg c6, if_neg c10, if_pos c15, if_pos c27]
            exact W.eq (congrArg (fun z => F0 m 79 ls [.int z]) e9.symm) (kk _ _ _ _ dX0_open_79 (by rw [e8]; exact hP) (by rw [e8]; exact hD) hS)
          · refine lv_bipush (v := (-8)) hx hb dX0_open_30 (by decide) ?_
            have e8 : q_open u a b = u := by unfold q_open; rw [if_neg c1, if_neg c6, if_neg c10, if_pos c15, if_neg c27]
            have e9 : p_open u a b = (-8) := by unfold p_open; rw [if_neg c1, if_neg c6, if_neg c10, if_pos c15, if_neg c27]
            exact W.eq (congrArg (fun z => F0 m 32 ls [.int z]) e9.symm) (kk _ _ _ _ dX0_open_32 (by rw [e8]; exact hP) (by rw [e8]; exact hD) hS)
        · refine lv_bipush (v := (-2)) hx hb dX0_open_18 (by decide) ?_
          have e8 : q_open u a b = u := by unfold q_open; rw [if_neg c1, if_neg c6, if_neg c10, if_neg c15]
          have e9 : p_open u a b = (-2) := by unfold p_open; rw [if_neg c1, if_neg c6, if_neg c10, if_neg c15]
          exact W.eq (congrArg (fun z => F0 m 20 ls [.int z]) e9.symm) (kk _ _ _ _ dX0_open_20 (by rw [e8]; exact hP) (by rw [e8]; exact hD) hS)
theorem c_open (l : Launch) (dC : Nat → ClassId) (dI : Nat → Nat → Nat) (G : Nat → Nat) (C : Nat → ClassId) (sz : Nat) (u : xS) (a : Int32) (b : Int32) (hm : xm u ≤ 12) : xMi l yX0_open wsX0_open (xR 0 0) dC dI (xT C) [.ref (G 0), .int a, .int b] (xW G C u) (xW G C (q_open u a b)) (p_open u a b) sz :=
  xmet_i (by decide) rfl rfl (Nat.le_of_ble_eq_true rfl) rfl (fun p e s m args below meth c Q A ls B hK hA hP hD hl kk => b_open hm B hK hA hP hD hl kk)
def p_insert (u : xS) (h : Int32) (k : Int64) (v : Int32) : Int32 :=
  (if (p_refusalOfHeap u h) = 0 then
    (if (p_isBelowFloor u h k) = 0 then
      (if (nI (xn u)) < 160 then
        (nI (xn u))
      else (-8))
    else (-6))
  else (p_refusalOfHeap u h))
def q_insert (u : xS) (h : Int32) (k : Int64) (v : Int32) : xS :=
  (if (p_refusalOfHeap u h) = 0 then
    (if (p_isBelowFloor u h k) = 0 then
      (if (nI (xn u)) < 160 then
        (sN (sOw (sVl (sKy u (vp_updL (xky u) ((nI (xn u))).toNatClampNeg k)) (upd (xvl u) ((nI (xn u))).toNatClampNeg v)) (upd (xow u) ((nI (xn u))).toNatClampNeg h)) ((xn u) + 1))
      else u)
    else u)
  else u)
set_option maxHeartbeats 4000000 in
set_option maxRecDepth 100000 in
theorem b_insert {p : Program} {l : Launch} {e : Env} {s : State} {m : MethodId} {args : Array Value} {below : List Frame} {meth : Method} {c : Code} {Q : State → Prop} {A : Nat → Prop} {ls : Array Slot} {dC : Nat → ClassId} {dI : Nat → Nat → Nat} {G : Nat → Nat} {C : Nat → ClassId} {u : xS} {h : Int32} {k : Int64} {v : Int32} (hm : xm u ≤ 12) (hn : xn u ≤ 160) (B : CallFix p m c cX0_insert 7 s args wsX0_insert RX0) (hK : va_K (dC, dI) vwCl (xT C) s) (hA : ∀ q : Nat, s.heap.size ≤ q → A q) (hP : va_P (dC, dI) vwCl (xW G C u) s.heap) (hD : va_D A (xW G C u)) (hl : lv_has ls 7 [(0, .ref (G 0)), (1, .int h), (2, .long k), (4, .int v)]) (kk : (∀ (H : Heap) (locs : List Loc) (pc : Nat) (ls : Array Slot), decode cX0_insert pc = .ok (.ireturn, 1) → va_P (dC, dI) vwCl (xW G C (q_insert u h k v)) H → va_D A (xW G C (q_insert u h k v)) → va_S A s.heap H locs → W p l e (xR 2 45) s m args below meth c H locs 0 0 Q (F0 m pc ls [.int (p_insert u h k v)]))) : W p l e (xR 2 45) s m args below meth c s.heap [] 0 0 Q (F0 m 0 ls []) := by
  obtain ⟨hx, hb, hml, hown, hts⟩ := B
  have hS : va_S A s.heap s.heap [] := va_S.rf
  have hfw : ∀ w ∈ u_ws RX0 TX0 9, w ∈ wsX0_insert := by decide +kernel
  refine lv_aload_n hx hb dX0_insert_0 rfl (lv_at hl 0 rfl) ?_
  refine lv_iload_n hx hb dX0_insert_1 rfl (lv_at hl 1 rfl) ?_
  refine xcall_i (ws := (xW G C u)) (wc := (xW G C u)) (wr := []) (w1 := (xW G C u)) (v := (p_refusalOfHeap u h)) [0, 1, 2, 3, 4, 5, 6, 7] [] (va_runV (As := [.int h]) (rest := []) ⟨hx, hb, hml, hown, hts⟩ (c_refusalOfHeap l dC dI G C _ u h hm) (cwV 1 hts gX0_insert_X0_refusalOfHeap rfl rfl rfl (by decide +kernel) ⟨Nat.le_of_ble_eq_true rfl, Nat.le_of_ble_eq_true rfl⟩) (xpreV (q0 := 0) (ci := 0) (qc := (RX0, TX0, 9)) hK hP hD rfl rfl) rfl rfl hl.1 rfl (lv_room (Nat.le_of_ble_eq_true rfl)) dX0_insert_2 ⟨Nat.zero_le _, Nat.zero_le _⟩) hP hD hS hA rfl rfl (by decide) (by decide) (fun H locs hP hD hS => ?_)
  have hP : va_P (dC, dI) vwCl (xW G C u) H := hP
  have hD : va_D A (xW G C u) := hD
  refine lv_istore (lv' := [(5, .int (p_refusalOfHeap u h)), (0, .ref (G 0)), (1, .int h), (2, .long k), (4, .int v)]) hx hb dX0_insert_5 hl (by decide) rfl (fun ls hl => ?_)
  refine lv_iload hx hb dX0_insert_7 (lv_at hl 0 rfl) ?_
  refine lv_if_eq (tgt := 15) hx hb dX0_insert_9 rfl (fun c9 => ?_) (fun c9 => ?_)
  · refine lv_aload_n hx hb dX0_insert_15 rfl (lv_at hl 1 rfl) ?_
    refine lv_iload_n hx hb dX0_insert_16 rfl (lv_at hl 2 rfl) ?_
    refine lv_lload_n hx hb dX0_insert_17 rfl (lv_at hl 3 rfl) ?_
    refine xcall_i (ws := (xW G C u)) (wc := (xW G C u)) (wr := []) (w1 := (xW G C u)) (v := (p_isBelowFloor u h k)) [0, 1, 2, 3, 4, 5, 6, 7] [] (va_runV (As := [.int h, .long k]) (rest := []) ⟨hx, hb, hml, hown, hts⟩ (c_isBelowFloor l dC dI G C _ u h k (in_refH hm c9)) (cwV 2 hts gX0_insert_X0_isBelowFloor rfl rfl rfl (by decide +kernel) ⟨Nat.le_of_ble_eq_true rfl, Nat.le_of_ble_eq_true rfl⟩) (xpreV (q0 := 0) (ci := 0) (qc := (RX0, TX0, 9)) hK hP hD rfl rfl) rfl rfl hl.1 rfl (lv_room (Nat.le_of_ble_eq_true rfl)) dX0_insert_18 ⟨Nat.zero_le _, Nat.zero_le _⟩) hP hD hS hA rfl rfl (by decide) (by decide) (fun H locs hP hD hS => ?_)
    have hP : va_P (dC, dI) vwCl (xW G C u) H := hP
    have hD : va_D A (xW G C u) := hD
    refine lv_if_eq (tgt := 27) hx hb dX0_insert_21 rfl (fun c21 => ?_) (fun c21 => ?_)
    · refine lv_aload_n hx hb dX0_insert_27 rfl (lv_at hl 1 rfl) ?_
      refine va_get (D := (dC, dI)) (ci := 0) (v := .int (nI (xn u))) (C := RX0) (T := TX0) (N := 9) hx hb hts hfw hown hK hP 0 rfl rfl 8 (by decide) (hts (.fieldLink RX0 37 "MeldingHeaps" "entryCount" "I") (by decide +kernel)) (fun _ h9 => h9) rfl dX0_insert_28 ?_
      refine lv_sipush (v := 160) hx hb dX0_insert_31 (by decide) ?_
      refine lv_icmp_lt (tgt := 40) hx hb dX0_insert_34 rfl (fun c34 => ?_) (fun c34 => ?_)
      · refine lv_aload_n hx hb dX0_insert_40 rfl (lv_at hl 1 rfl) ?_
        refine va_get (D := (dC, dI)) (ci := 0) (v := .int (nI (xn u))) (C := RX0) (T := TX0) (N := 9) hx hb hts hfw hown hK hP 0 rfl rfl 8 (by decide) (hts (.fieldLink RX0 37 "MeldingHeaps" "entryCount" "I") (by decide +kernel)) (fun _ h9 => h9) rfl dX0_insert_41 ?_
        refine lv_istore (lv' := [(6, .int (nI (xn u))), (5, .int (p_refusalOfHeap u h)), (0, .ref (G 0)), (1, .int h), (2, .long k), (4, .int v)]) hx hb dX0_insert_44 hl (by decide) rfl (fun ls hl => ?_)
        refine lv_aload_n hx hb dX0_insert_46 rfl (lv_at hl 2 rfl) ?_
        refine va_get (D := (dC, dI)) (ci := 0) (v := .ref (G 5)) (C := RX0) (T := TX0) (N := 9) hx hb hts hfw hown hK hP 0 rfl rfl 5 (by decide) (hts (.fieldLink RX0 28 "MeldingHeaps" "keys" "[J") (by decide +kernel)) (fun _ h9 => h9) rfl dX0_insert_47 ?_
        refine lv_iload hx hb dX0_insert_50 (lv_at hl 0 rfl) ?_
        refine lv_lload_n hx hb dX0_insert_52 rfl (lv_at hl 4 rfl) ?_
        refine va_last (f := (xky u)) hx hb hK hP hD hS 5 4 rfl rfl (cnt_in c34) dX0_insert_53 (fun H locs hP hD hS => ?_)
        have hP : va_P (dC, dI) vwCl (xW G C (sKy u (vp_updL (xky u) ((nI (xn u))).toNatClampNeg k))) H := hP
        have hD : va_D A (xW G C (sKy u (vp_updL (xky u) ((nI (xn u))).toNatClampNeg k))) := hD
        refine lv_aload_n hx hb dX0_insert_54 rfl (lv_at hl 2 rfl) ?_
        refine va_get (D := (dC, dI)) (ci := 0) (v := .ref (G 6)) (C := RX0) (T := TX0) (N := 9) hx hb hts hfw hown hK hP 0 rfl rfl 6 (by decide) (hts (.fieldLink RX0 31 "MeldingHeaps" "values" "[I") (by decide +kernel)) (fun _ h9 => h9) rfl dX0_insert_55 ?_
        refine lv_iload hx hb dX0_insert_58 (lv_at hl 0 rfl) ?_
        refine lv_iload hx hb dX0_insert_60 (lv_at hl 5 rfl) ?_
        refine va_iast (f := (xvl u)) hx hb hK hP hD hS 6 5 rfl rfl (cnt_in c34) dX0_insert_62 (fun H locs hP hD hS => ?_)
        have hP : va_P (dC, dI) vwCl (xW G C (sVl (sKy u (vp_updL (xky u) ((nI (xn u))).toNatClampNeg k)) (upd (xvl u) ((nI (xn u))).toNatClampNeg v))) H := hP
        have hD : va_D A (xW G C (sVl (sKy u (vp_updL (xky u) ((nI (xn u))).toNatClampNeg k)) (upd (xvl u) ((nI (xn u))).toNatClampNeg v))) := hD
        refine lv_aload_n hx hb dX0_insert_63 rfl (lv_at hl 2 rfl) ?_
        refine va_get (D := (dC, dI)) (ci := 0) (v := .ref (G 7)) (C := RX0) (T := TX0) (N := 9) hx hb hts hfw hown hK hP 0 rfl rfl 7 (by decide) (hts (.fieldLink RX0 34 "MeldingHeaps" "owners" "[I") (by decide +kernel)) (fun _ h9 => h9) rfl dX0_insert_64 ?_
        refine lv_iload hx hb dX0_insert_67 (lv_at hl 0 rfl) ?_
        refine lv_iload_n hx hb dX0_insert_69 rfl (lv_at hl 3 rfl) ?_
        refine va_iast (f := (xow u)) hx hb hK hP hD hS 7 6 rfl rfl (cnt_in c34) dX0_insert_70 (fun H locs hP hD hS => ?_)
        have hP : va_P (dC, dI) vwCl (xW G C (sOw (sVl (sKy u (vp_updL (xky u) ((nI (xn u))).toNatClampNeg k)) (upd (xvl u) ((nI (xn u))).toNatClampNeg v)) (upd (xow u) ((nI (xn u))).toNatClampNeg h))) H := hP
        have hD : va_D A (xW G C (sOw (sVl (sKy u (vp_updL (xky u) ((nI (xn u))).toNatClampNeg k)) (upd (xvl u) ((nI (xn u))).toNatClampNeg v)) (upd (xow u) ((nI (xn u))).toNatClampNeg h))) := hD
        refine lv_aload_n hx hb dX0_insert_71 rfl (lv_at hl 2 rfl) ?_
        refine lv_dup hx hb dX0_insert_72 rfl ?_
        refine va_get (D := (dC, dI)) (ci := 0) (v := .int (nI (xn u))) (C := RX0) (T := TX0) (N := 9) hx hb hts hfw hown hK hP 0 rfl rfl 8 (by decide) (hts (.fieldLink RX0 37 "MeldingHeaps" "entryCount" "I") (by decide +kernel)) (fun _ h9 => h9) rfl dX0_insert_73 ?_
        refine lv_iconst (v := 1) hx hb dX0_insert_76 (by decide) ?_
        refine lv_iadd hx hb dX0_insert_77 ?_
        refine W.eq (congrArg (fun z => F0 m 78 ls (.int z :: [.ref (G 0)])) (nI_1 (xn u))) ?_
        refine va_put (D := (dC, dI)) (ci := 0) (v := .int (nI ((xn u) + 1))) (ty := .int) (C := RX0) (T := TX0) (N := 9) hx hb hts hfw tyX0 tyX0_ok nmX0 hown hK hP hD hS 0 rfl rfl 8 (by decide) (hts (.fieldLink RX0 37 "MeldingHeaps" "entryCount" "I") (by decide +kernel)) (fun _ h9 => h9) rfl (by decide +kernel) rfl rfl (Nat.le_of_ble_eq_true rfl) dX0_insert_78 (fun H locs hP hD hS => ?_)
        have hP : va_P (dC, dI) vwCl (xW G C (sN (sOw (sVl (sKy u (vp_updL (xky u) ((nI (xn u))).toNatClampNeg k)) (upd (xvl u) ((nI (xn u))).toNatClampNeg v)) (upd (xow u) ((nI (xn u))).toNatClampNeg h)) ((xn u) + 1))) H := hP
        have hD : va_D A (xW G C (sN (sOw (sVl (sKy u (vp_updL (xky u) ((nI (xn u))).toNatClampNeg k)) (upd (xvl u) ((nI (xn u))).toNatClampNeg v)) (upd (xow u) ((nI (xn u))).toNatClampNeg h)) ((xn u) + 1))) := hD
        refine lv_iload hx hb dX0_insert_81 (lv_at hl 0 rfl) ?_
        have e8 : q_insert u h k v = (sN (sOw (sVl (sKy u (vp_updL (xky u) ((nI (xn u))).toNatClampNeg k)) (upd (xvl u) ((nI (xn u))).toNatClampNeg v)) (upd (xow u) ((nI (xn u))).toNatClampNeg h)) ((xn u) + 1)) := by unfold q_insert; rw [if_pos c9, if_pos c21, if_pos c34]
        have e9 : p_insert u h k v = (nI (xn u)) := by unfold p_insert; rw [if_pos c9, if_pos c21, if_pos c34]
        exact W.eq (congrArg (fun z => F0 m 83 ls [.int z]) e9.symm) (kk _ _ _ _ dX0_insert_83 (by rw [e8]; exact hP) (by rw [e8]; exact hD) hS)
      · refine lv_bipush (v := (-8)) hx hb dX0_insert_37 (by decide) ?_
        have e8 : q_insert u h k v = u := by unfold q_insert; rw [if_pos c9, if_pos c21, if_neg c34]
        have e9 : p_insert u h k v = (-8) := by unfold p_insert; rw [if_pos c9, if_pos c21, if_neg c34]
        exact W.eq (congrArg (fun z => F0 m 39 ls [.int z]) e9.symm) (kk _ _ _ _ dX0_insert_39 (by rw [e8]; exact hP) (by rw [e8]; exact hD) hS)
    · refine lv_bipush (v := (-6)) hx hb dX0_insert_24 (by decide) ?_
      have e8 : q_insert u h k v = u := by unfold q_insert; rw [if_pos c9, if_neg c21]
      have e9 : p_insert u h k v = (-6) := by unfold p_insert; rw [if_pos c9, if_neg c21]
      exact W.eq (congrArg (fun z => F0 m 26 ls [.int z]) e9.symm) (kk _ _ _ _ dX0_insert_26 (by rw [e8]; exact hP) (by rw [e8]; exact hD) hS)
  · refine lv_iload hx hb dX0_insert_12 (lv_at hl 0 rfl) ?_
    have e8 : q_insert u h k v = u := by unfold q_insert; rw [if_neg c9]
    have e9 : p_insert u h k v = (p_refusalOfHeap u h) := by unfold p_insert; rw [if_neg c9]
    exact W.eq (congrArg (fun z => F0 m 14 ls [.int z]) e9.symm) (kk _ _ _ _ dX0_insert_14 (by rw [e8]; exact hP) (by rw [e8]; exact hD) hS)
theorem c_insert (l : Launch) (dC : Nat → ClassId) (dI : Nat → Nat → Nat) (G : Nat → Nat) (C : Nat → ClassId) (sz : Nat) (u : xS) (h : Int32) (k : Int64) (v : Int32) (hm : xm u ≤ 12) (hn : xn u ≤ 160) : xMi l yX0_insert wsX0_insert (xR 2 45) dC dI (xT C) [.ref (G 0), .int h, .long k, .int v] (xW G C u) (xW G C (q_insert u h k v)) (p_insert u h k v) sz :=
  xmet_i (by decide) rfl rfl (Nat.le_of_ble_eq_true rfl) rfl (fun p e s m args below meth c Q A ls B hK hA hP hD hl kk => b_insert hm hn B hK hA hP hD hl kk)
def p_take (u : xS) (h : Int32) : Int32 :=
  (if (p_first u h) < 0 then
    (p_first u h)
  else (p_first u h))
def q_take (u : xS) (h : Int32) : xS :=
  (if (p_first u h) < 0 then
    u
  else (sOw (q_raiseFloor u h ((xky u) ((p_first u h)).toNatClampNeg)) (upd (xow (q_raiseFloor u h ((xky u) ((p_first u h)).toNatClampNeg))) ((p_first u h)).toNatClampNeg (-4))))
set_option maxHeartbeats 4000000 in
set_option maxRecDepth 100000 in
theorem b_take {p : Program} {l : Launch} {e : Env} {s : State} {m : MethodId} {args : Array Value} {below : List Frame} {meth : Method} {c : Code} {Q : State → Prop} {A : Nat → Prop} {ls : Array Slot} {dC : Nat → ClassId} {dI : Nat → Nat → Nat} {G : Nat → Nat} {C : Nat → ClassId} {u : xS} {h : Int32} (hm : xm u ≤ 12) (hn : xn u ≤ 160) (B : CallFix p m c cX0_take 3 s args wsX0_take RX0) (hK : va_K (dC, dI) vwCl (xT C) s) (hA : ∀ q : Nat, s.heap.size ≤ q → A q) (hP : va_P (dC, dI) vwCl (xW G C u) s.heap) (hD : va_D A (xW G C u)) (hl : lv_has ls 3 [(0, .ref (G 0)), (1, .int h)]) (kk : (∀ (H : Heap) (locs : List Loc) (pc : Nat) (ls : Array Slot), decode cX0_take pc = .ok (.ireturn, 1) → va_P (dC, dI) vwCl (xW G C (q_take u h)) H → va_D A (xW G C (q_take u h)) → va_S A s.heap H locs → W p l e (xR 4 94) s m args below meth c H locs 0 0 Q (F0 m pc ls [.int (p_take u h)]))) : W p l e (xR 4 94) s m args below meth c s.heap [] 0 0 Q (F0 m 0 ls []) := by
  obtain ⟨hx, hb, hml, hown, hts⟩ := B
  have hS : va_S A s.heap s.heap [] := va_S.rf
  have hfw : ∀ w ∈ u_ws RX0 TX0 9, w ∈ wsX0_take := by decide +kernel
  refine lv_aload_n hx hb dX0_take_0 rfl (lv_at hl 0 rfl) ?_
  refine lv_iload_n hx hb dX0_take_1 rfl (lv_at hl 1 rfl) ?_
  refine xcall_i (ws := (xW G C u)) (wc := (xW G C u)) (wr := []) (w1 := (xW G C u)) (v := (p_first u h)) [0, 1, 2, 3, 4, 5, 6, 7] [] (va_runV (As := [.int h]) (rest := []) ⟨hx, hb, hml, hown, hts⟩ (c_first l dC dI G C _ u h hm hn) (cwV 1 hts gX0_take_X0_first rfl rfl rfl (by decide +kernel) ⟨Nat.le_of_ble_eq_true rfl, Nat.le_of_ble_eq_true rfl⟩) (xpreV (q0 := 0) (ci := 0) (qc := (RX0, TX0, 9)) hK hP hD rfl rfl) rfl rfl hl.1 rfl (lv_room (Nat.le_of_ble_eq_true rfl)) dX0_take_2 ⟨Nat.zero_le _, Nat.zero_le _⟩) hP hD hS hA rfl rfl (by decide) (by decide) (fun H locs hP hD hS => ?_)
  have hP : va_P (dC, dI) vwCl (xW G C u) H := hP
  have hD : va_D A (xW G C u) := hD
  refine lv_istore_n (lv' := [(2, .int (p_first u h)), (0, .ref (G 0)), (1, .int h)]) hx hb dX0_take_5 rfl hl (by decide) rfl (fun ls hl => ?_)
  refine lv_iload_n hx hb dX0_take_6 rfl (lv_at hl 0 rfl) ?_
  refine lv_if_lt (tgt := 29) hx hb dX0_take_7 rfl (fun c7 => ?_) (fun c7 => ?_)
  · refine lv_iload_n hx hb dX0_take_29 rfl (lv_at hl 0 rfl) ?_
    have e8 : q_take u h = u := by unfold q_take; rw [if_pos c7]
    have e9 : p_take u h = (p_first u h) := by unfold p_take; rw [if_pos c7]
    exact W.eq (congrArg (fun z => F0 m 30 ls [.int z]) e9.symm) (kk _ _ _ _ dX0_take_30 (by rw [e8]; exact hP) (by rw [e8]; exact hD) hS)
  · refine lv_aload_n hx hb dX0_take_10 rfl (lv_at hl 1 rfl) ?_
    refine lv_iload_n hx hb dX0_take_11 rfl (lv_at hl 2 rfl) ?_
    refine lv_aload_n hx hb dX0_take_12 rfl (lv_at hl 1 rfl) ?_
    refine va_get (D := (dC, dI)) (ci := 0) (v := .ref (G 5)) (C := RX0) (T := TX0) (N := 9) hx hb hts hfw hown hK hP 0 rfl rfl 5 (by decide) (hts (.fieldLink RX0 28 "MeldingHeaps" "keys" "[J") (by decide +kernel)) (fun _ h9 => h9) rfl dX0_take_13 ?_
    refine lv_iload_n hx hb dX0_take_16 rfl (lv_at hl 0 rfl) ?_
    refine va_lald (f := (xky u)) hx hb hK hP 5 4 rfl rfl ((first_in hm hn c7).2) dX0_take_17 ?_
    refine xcall_v (ws := (xW G C u)) (wc := (xW G C u)) (wr := []) (w1 := (xW G C (q_raiseFloor u h ((xky u) ((p_first u h)).toNatClampNeg)))) [0, 1, 2, 3, 4, 5, 6, 7] [] (va_runV (As := [.int h, .long ((xky u) ((p_first u h)).toNatClampNeg)]) (rest := []) ⟨hx, hb, hml, hown, hts⟩ (c_raiseFloor l dC dI G C _ u h ((xky u) ((p_first u h)).toNatClampNeg) (first_in hm hn c7).1) (cwV 2 hts gX0_take_X0_raiseFloor rfl rfl rfl (by decide +kernel) ⟨Nat.le_of_ble_eq_true rfl, Nat.le_of_ble_eq_true rfl⟩) (xpreV (q0 := 0) (ci := 0) (qc := (RX0, TX0, 9)) hK hP hD rfl rfl) rfl rfl hl.1 rfl (lv_room (Nat.le_of_ble_eq_true rfl)) dX0_take_18 ⟨Nat.zero_le _, Nat.zero_le _⟩) hP hD hS hA rfl rfl (by decide) (by decide) (fun H locs hP hD hS => ?_)
    have hP : va_P (dC, dI) vwCl (xW G C (q_raiseFloor u h ((xky u) ((p_first u h)).toNatClampNeg))) H := hP
    have hD : va_D A (xW G C (q_raiseFloor u h ((xky u) ((p_first u h)).toNatClampNeg))) := hD
    refine lv_aload_n hx hb dX0_take_21 rfl (lv_at hl 1 rfl) ?_
    refine va_get (D := (dC, dI)) (ci := 0) (v := .ref (G 7)) (C := RX0) (T := TX0) (N := 9) hx hb hts hfw hown hK hP 0 rfl rfl 7 (by decide) (hts (.fieldLink RX0 34 "MeldingHeaps" "owners" "[I") (by decide +kernel)) (fun _ h9 => h9) rfl dX0_take_22 ?_
    refine lv_iload_n hx hb dX0_take_25 rfl (lv_at hl 0 rfl) ?_
    refine lv_bipush (v := (-4)) hx hb dX0_take_26 (by decide) ?_
    refine va_iast (f := (xow (q_raiseFloor u h ((xky u) ((p_first u h)).toNatClampNeg)))) hx hb hK hP hD hS 7 6 rfl rfl ((first_in hm hn c7).2) dX0_take_28 (fun H locs hP hD hS => ?_)
    have hP : va_P (dC, dI) vwCl (xW G C (sOw (q_raiseFloor u h ((xky u) ((p_first u h)).toNatClampNeg)) (upd (xow (q_raiseFloor u h ((xky u) ((p_first u h)).toNatClampNeg))) ((p_first u h)).toNatClampNeg (-4)))) H := hP
    have hD : va_D A (xW G C (sOw (q_raiseFloor u h ((xky u) ((p_first u h)).toNatClampNeg)) (upd (xow (q_raiseFloor u h ((xky u) ((p_first u h)).toNatClampNeg))) ((p_first u h)).toNatClampNeg (-4)))) := hD
    refine lv_iload_n hx hb dX0_take_29 rfl (lv_at hl 0 rfl) ?_
    have e8 : q_take u h = (sOw (q_raiseFloor u h ((xky u) ((p_first u h)).toNatClampNeg)) (upd (xow (q_raiseFloor u h ((xky u) ((p_first u h)).toNatClampNeg))) ((p_first u h)).toNatClampNeg (-4))) := by unfold q_take; rw [if_neg c7]
    have e9 : p_take u h = (p_first u h) := by unfold p_take; rw [if_neg c7]
    exact W.eq (congrArg (fun z => F0 m 30 ls [.int z]) e9.symm) (kk _ _ _ _ dX0_take_30 (by rw [e8]; exact hP) (by rw [e8]; exact hD) hS)
theorem c_take (l : Launch) (dC : Nat → ClassId) (dI : Nat → Nat → Nat) (G : Nat → Nat) (C : Nat → ClassId) (sz : Nat) (u : xS) (h : Int32) (hm : xm u ≤ 12) (hn : xn u ≤ 160) : xMi l yX0_take wsX0_take (xR 4 94) dC dI (xT C) [.ref (G 0), .int h] (xW G C u) (xW G C (q_take u h)) (p_take u h) sz :=
  xmet_i (by decide) rfl rfl (Nat.le_of_ble_eq_true rfl) rfl (fun p e s m args below meth c Q A ls B hK hA hP hD hl kk => b_take hm hn B hK hA hP hD hl kk)
def p_takeLast (u : xS) (h : Int32) : Int32 :=
  (if (p_last u h) < 0 then
    (p_last u h)
  else (p_last u h))
def q_takeLast (u : xS) (h : Int32) : xS :=
  (if (p_last u h) < 0 then
    u
  else (sOw u (upd (xow u) ((p_last u h)).toNatClampNeg (-4))))
set_option maxHeartbeats 4000000 in
set_option maxRecDepth 100000 in
theorem b_takeLast {p : Program} {l : Launch} {e : Env} {s : State} {m : MethodId} {args : Array Value} {below : List Frame} {meth : Method} {c : Code} {Q : State → Prop} {A : Nat → Prop} {ls : Array Slot} {dC : Nat → ClassId} {dI : Nat → Nat → Nat} {G : Nat → Nat} {C : Nat → ClassId} {u : xS} {h : Int32} (hm : xm u ≤ 12) (hn : xn u ≤ 160) (B : CallFix p m c cX0_takeLast 3 s args wsX0_takeLast RX0) (hK : va_K (dC, dI) vwCl (xT C) s) (hA : ∀ q : Nat, s.heap.size ≤ q → A q) (hP : va_P (dC, dI) vwCl (xW G C u) s.heap) (hD : va_D A (xW G C u)) (hl : lv_has ls 3 [(0, .ref (G 0)), (1, .int h)]) (kk : (∀ (H : Heap) (locs : List Loc) (pc : Nat) (ls : Array Slot), decode cX0_takeLast pc = .ok (.ireturn, 1) → va_P (dC, dI) vwCl (xW G C (q_takeLast u h)) H → va_D A (xW G C (q_takeLast u h)) → va_S A s.heap H locs → W p l e (xR 4 94) s m args below meth c H locs 0 0 Q (F0 m pc ls [.int (p_takeLast u h)]))) : W p l e (xR 4 94) s m args below meth c s.heap [] 0 0 Q (F0 m 0 ls []) := by
  obtain ⟨hx, hb, hml, hown, hts⟩ := B
  have hS : va_S A s.heap s.heap [] := va_S.rf
  have hfw : ∀ w ∈ u_ws RX0 TX0 9, w ∈ wsX0_takeLast := by decide +kernel
  refine lv_aload_n hx hb dX0_takeLast_0 rfl (lv_at hl 0 rfl) ?_
  refine lv_iload_n hx hb dX0_takeLast_1 rfl (lv_at hl 1 rfl) ?_
  refine xcall_i (ws := (xW G C u)) (wc := (xW G C u)) (wr := []) (w1 := (xW G C u)) (v := (p_last u h)) [0, 1, 2, 3, 4, 5, 6, 7] [] (va_runV (As := [.int h]) (rest := []) ⟨hx, hb, hml, hown, hts⟩ (c_last l dC dI G C _ u h hm hn) (cwV 1 hts gX0_takeLast_X0_last rfl rfl rfl (by decide +kernel) ⟨Nat.le_of_ble_eq_true rfl, Nat.le_of_ble_eq_true rfl⟩) (xpreV (q0 := 0) (ci := 0) (qc := (RX0, TX0, 9)) hK hP hD rfl rfl) rfl rfl hl.1 rfl (lv_room (Nat.le_of_ble_eq_true rfl)) dX0_takeLast_2 ⟨Nat.zero_le _, Nat.zero_le _⟩) hP hD hS hA rfl rfl (by decide) (by decide) (fun H locs hP hD hS => ?_)
  have hP : va_P (dC, dI) vwCl (xW G C u) H := hP
  have hD : va_D A (xW G C u) := hD
  refine lv_istore_n (lv' := [(2, .int (p_last u h)), (0, .ref (G 0)), (1, .int h)]) hx hb dX0_takeLast_5 rfl hl (by decide) rfl (fun ls hl => ?_)
  refine lv_iload_n hx hb dX0_takeLast_6 rfl (lv_at hl 0 rfl) ?_
  refine lv_if_lt (tgt := 18) hx hb dX0_takeLast_7 rfl (fun c7 => ?_) (fun c7 => ?_)
  · refine lv_iload_n hx hb dX0_takeLast_18 rfl (lv_at hl 0 rfl) ?_
    have e8 : q_takeLast u h = u := by unfold q_takeLast; rw [if_pos c7]
    have e9 : p_takeLast u h = (p_last u h) := by unfold p_takeLast; rw [if_pos c7]
    exact W.eq (congrArg (fun z => F0 m 19 ls [.int z]) e9.symm) (kk _ _ _ _ dX0_takeLast_19 (by rw [e8]; exact hP) (by rw [e8]; exact hD) hS)
  · refine lv_aload_n hx hb dX0_takeLast_10 rfl (lv_at hl 1 rfl) ?_
    refine va_get (D := (dC, dI)) (ci := 0) (v := .ref (G 7)) (C := RX0) (T := TX0) (N := 9) hx hb hts hfw hown hK hP 0 rfl rfl 7 (by decide) (hts (.fieldLink RX0 34 "MeldingHeaps" "owners" "[I") (by decide +kernel)) (fun _ h9 => h9) rfl dX0_takeLast_11 ?_
    refine lv_iload_n hx hb dX0_takeLast_14 rfl (lv_at hl 0 rfl) ?_
    refine lv_bipush (v := (-4)) hx hb dX0_takeLast_15 (by decide) ?_
    refine va_iast (f := (xow u)) hx hb hK hP hD hS 7 6 rfl rfl ((last_in hm hn c7).2) dX0_takeLast_17 (fun H locs hP hD hS => ?_)
    have hP : va_P (dC, dI) vwCl (xW G C (sOw u (upd (xow u) ((p_last u h)).toNatClampNeg (-4)))) H := hP
    have hD : va_D A (xW G C (sOw u (upd (xow u) ((p_last u h)).toNatClampNeg (-4)))) := hD
    refine lv_iload_n hx hb dX0_takeLast_18 rfl (lv_at hl 0 rfl) ?_
    have e8 : q_takeLast u h = (sOw u (upd (xow u) ((p_last u h)).toNatClampNeg (-4))) := by unfold q_takeLast; rw [if_neg c7]
    have e9 : p_takeLast u h = (p_last u h) := by unfold p_takeLast; rw [if_neg c7]
    exact W.eq (congrArg (fun z => F0 m 19 ls [.int z]) e9.symm) (kk _ _ _ _ dX0_takeLast_19 (by rw [e8]; exact hP) (by rw [e8]; exact hD) hS)
theorem c_takeLast (l : Launch) (dC : Nat → ClassId) (dI : Nat → Nat → Nat) (G : Nat → Nat) (C : Nat → ClassId) (sz : Nat) (u : xS) (h : Int32) (hm : xm u ≤ 12) (hn : xn u ≤ 160) : xMi l yX0_takeLast wsX0_takeLast (xR 4 94) dC dI (xT C) [.ref (G 0), .int h] (xW G C u) (xW G C (q_takeLast u h)) (p_takeLast u h) sz :=
  xmet_i (by decide) rfl rfl (Nat.le_of_ble_eq_true rfl) rfl (fun p e s m args below meth c Q A ls B hK hA hP hD hl kk => b_takeLast hm hn B hK hA hP hD hl kk)
end
section
def p_size (u : xS) (h : Int32) : Int32 :=
  (if (p_refusalOfHeap u h) = 0 then
    (p_countEntries u h)
  else (p_refusalOfHeap u h))
set_option maxHeartbeats 4000000 in
set_option maxRecDepth 100000 in
theorem b_size {p : Program} {l : Launch} {e : Env} {s : State} {m : MethodId} {args : Array Value} {below : List Frame} {meth : Method} {c : Code} {Q : State → Prop} {A : Nat → Prop} {ls : Array Slot} {dC : Nat → ClassId} {dI : Nat → Nat → Nat} {G : Nat → Nat} {C : Nat → ClassId} {u : xS} {h : Int32} (hm : xm u ≤ 12) (hn : xn u ≤ 160) (B : CallFix p m c cX0_size 3 s args wsX0_size RX0) (hK : va_K (dC, dI) vwCl (xT C) s) (hA : ∀ q : Nat, s.heap.size ≤ q → A q) (hP : va_P (dC, dI) vwCl (xW G C u) s.heap) (hD : va_D A (xW G C u)) (hl : lv_has ls 3 [(0, .ref (G 0)), (1, .int h)]) (kk : (∀ (H : Heap) (locs : List Loc) (pc : Nat) (ls : Array Slot), decode cX0_size pc = .ok (.ireturn, 1) → va_P (dC, dI) vwCl (xW G C u) H → va_D A (xW G C u) → va_S A s.heap H locs → W p l e (xR 2 42) s m args below meth c H locs 0 0 Q (F0 m pc ls [.int (p_size u h)]))) : W p l e (xR 2 42) s m args below meth c s.heap [] 0 0 Q (F0 m 0 ls []) := by
  obtain ⟨hx, hb, hml, hown, hts⟩ := B
  have hS : va_S A s.heap s.heap [] := va_S.rf
  refine lv_aload_n hx hb dX0_size_0 rfl (lv_at hl 0 rfl) ?_
  refine lv_iload_n hx hb dX0_size_1 rfl (lv_at hl 1 rfl) ?_
  refine xcall_i (ws := (xW G C u)) (wc := (xW G C u)) (wr := []) (w1 := (xW G C u)) (v := (p_refusalOfHeap u h)) [0, 1, 2, 3, 4, 5, 6, 7] [] (va_runV (As := [.int h]) (rest := []) ⟨hx, hb, hml, hown, hts⟩ (c_refusalOfHeap l dC dI G C _ u h hm) (cwV 1 hts gX0_size_X0_refusalOfHeap rfl rfl rfl (by decide +kernel) ⟨Nat.le_of_ble_eq_true rfl, Nat.le_of_ble_eq_true rfl⟩) (xpreV (q0 := 0) (ci := 0) (qc := (RX0, TX0, 9)) hK hP hD rfl rfl) rfl rfl hl.1 rfl (lv_room (Nat.le_of_ble_eq_true rfl)) dX0_size_2 ⟨Nat.zero_le _, Nat.zero_le _⟩) hP hD hS hA rfl rfl (by decide) (by decide) (fun H locs hP hD hS => ?_)
  have hP : va_P (dC, dI) vwCl (xW G C u) H := hP
  have hD : va_D A (xW G C u) := hD
  refine lv_istore_n (lv' := [(2, .int (p_refusalOfHeap u h)), (0, .ref (G 0)), (1, .int h)]) hx hb dX0_size_5 rfl hl (by decide) rfl (fun ls hl => ?_)
  refine lv_iload_n hx hb dX0_size_6 rfl (lv_at hl 0 rfl) ?_
  refine lv_if_eq (tgt := 14) hx hb dX0_size_7 rfl (fun c7 => ?_) (fun c7 => ?_)
  · refine lv_aload_n hx hb dX0_size_14 rfl (lv_at hl 1 rfl) ?_
    refine lv_iload_n hx hb dX0_size_15 rfl (lv_at hl 2 rfl) ?_
    refine xcall_i (ws := (xW G C u)) (wc := (xW G C u)) (wr := []) (w1 := (xW G C u)) (v := (p_countEntries u h)) [0, 1, 2, 3, 4, 5, 6, 7] [] (va_runV (As := [.int h]) (rest := []) ⟨hx, hb, hml, hown, hts⟩ (c_countEntries l dC dI G C _ u h hn) (cwV 1 hts gX0_size_X0_countEntries rfl rfl rfl (by decide +kernel) ⟨Nat.le_of_ble_eq_true rfl, Nat.le_of_ble_eq_true rfl⟩) (xpreV (q0 := 0) (ci := 0) (qc := (RX0, TX0, 9)) hK hP hD rfl rfl) rfl rfl hl.1 rfl (lv_room (Nat.le_of_ble_eq_true rfl)) dX0_size_16 ⟨Nat.zero_le _, Nat.zero_le _⟩) hP hD hS hA rfl rfl (by decide) (by decide) (fun H locs hP hD hS => ?_)
    have hP : va_P (dC, dI) vwCl (xW G C u) H := hP
    have hD : va_D A (xW G C u) := hD
    have e9 : p_size u h = (p_countEntries u h) := by unfold p_size; rw [if_pos c7]
    exact W.eq (congrArg (fun z => F0 m 19 ls [.int z]) e9.symm) (kk _ _ _ _ dX0_size_19 hP hD hS)
  · refine lv_iload_n hx hb dX0_size_10 rfl (lv_at hl 0 rfl) ?_
    refine lv_goto (tgt := 19) hx hb dX0_size_11 rfl ?_
    have e9 : p_size u h = (p_refusalOfHeap u h) := by unfold p_size; rw [if_neg c7]
    exact W.eq (congrArg (fun z => F0 m 19 ls [.int z]) e9.symm) (kk _ _ _ _ dX0_size_19 hP hD hS)
theorem c_size (l : Launch) (dC : Nat → ClassId) (dI : Nat → Nat → Nat) (G : Nat → Nat) (C : Nat → ClassId) (sz : Nat) (u : xS) (h : Int32) (hm : xm u ≤ 12) (hn : xn u ≤ 160) : xMi l yX0_size wsX0_size (xR 2 42) dC dI (xT C) [.ref (G 0), .int h] (xW G C u) (xW G C u) (p_size u h) sz :=
  xmet_i (by decide) rfl rfl (Nat.le_of_ble_eq_true rfl) rfl (fun p e s m args below meth c Q A ls B hK hA hP hD hl kk => b_size hm hn B hK hA hP hD hl kk)
def p_floor (u : xS) (h : Int32) : Int64 :=
  (if (p_isHeap u h) = 0 then
    (-9223372036854775808)
  else ((xfl u) (h).toNatClampNeg))
set_option maxHeartbeats 4000000 in
set_option maxRecDepth 100000 in
theorem b_floor {p : Program} {l : Launch} {e : Env} {s : State} {m : MethodId} {args : Array Value} {below : List Frame} {meth : Method} {c : Code} {Q : State → Prop} {A : Nat → Prop} {ls : Array Slot} {dC : Nat → ClassId} {dI : Nat → Nat → Nat} {G : Nat → Nat} {C : Nat → ClassId} {u : xS} {h : Int32} (hm : xm u ≤ 12) (B : CallFix p m c cX0_floor 2 s args wsX0_floor RX0) (hK : va_K (dC, dI) vwCl (xT C) s) (hA : ∀ q : Nat, s.heap.size ≤ q → A q) (hP : va_P (dC, dI) vwCl (xW G C u) s.heap) (hD : va_D A (xW G C u)) (hl : lv_has ls 2 [(0, .ref (G 0)), (1, .int h)]) (kk : (∀ (H : Heap) (locs : List Loc) (pc : Nat) (ls : Array Slot), decode cX0_floor pc = .ok (.lreturn, 1) → va_P (dC, dI) vwCl (xW G C u) H → va_D A (xW G C u) → va_S A s.heap H locs → W p l e (xR 1 21) s m args below meth c H locs 0 0 Q (F0 m pc ls [.long (p_floor u h)]))) : W p l e (xR 1 21) s m args below meth c s.heap [] 0 0 Q (F0 m 0 ls []) := by
  obtain ⟨hx, hb, hml, hown, hts⟩ := B
  have hS : va_S A s.heap s.heap [] := va_S.rf
  have hfw : ∀ w ∈ u_ws RX0 TX0 9, w ∈ wsX0_floor := by decide +kernel
  refine lv_aload_n hx hb dX0_floor_0 rfl (lv_at hl 0 rfl) ?_
  refine lv_iload_n hx hb dX0_floor_1 rfl (lv_at hl 1 rfl) ?_
  refine xcall_i (ws := (xW G C u)) (wc := (xW G C u)) (wr := []) (w1 := (xW G C u)) (v := (p_isHeap u h)) [0, 1, 2, 3, 4, 5, 6, 7] [] (va_runV (As := [.int h]) (rest := []) ⟨hx, hb, hml, hown, hts⟩ (c_isHeap l dC dI G C _ u h) (cwV 1 hts gX0_floor_X0_isHeap rfl rfl rfl (by decide +kernel) ⟨Nat.le_of_ble_eq_true rfl, Nat.le_of_ble_eq_true rfl⟩) (xpreV (q0 := 0) (ci := 0) (qc := (RX0, TX0, 9)) hK hP hD rfl rfl) rfl rfl hl.1 rfl (lv_room (Nat.le_of_ble_eq_true rfl)) dX0_floor_2 ⟨Nat.zero_le _, Nat.zero_le _⟩) hP hD hS hA rfl rfl (by decide) (by decide) (fun H locs hP hD hS => ?_)
  have hP : va_P (dC, dI) vwCl (xW G C u) H := hP
  have hD : va_D A (xW G C u) := hD
  refine lv_if_eq (tgt := 17) hx hb dX0_floor_5 rfl (fun c5 => ?_) (fun c5 => ?_)
  · refine lv_ldc2 (v := (-9223372036854775808)) hx hb hown (hts (.constantLong RX0 40 (-9223372036854775808)) (by decide +kernel)) dX0_floor_17 ?_
    have e9 : p_floor u h = (-9223372036854775808) := by unfold p_floor; rw [if_pos c5]
    exact W.eq (congrArg (fun z => F0 m 20 ls [.long z]) e9.symm) (kk _ _ _ _ dX0_floor_20 hP hD hS)
  · refine lv_aload_n hx hb dX0_floor_8 rfl (lv_at hl 0 rfl) ?_
    refine va_get (D := (dC, dI)) (ci := 0) (v := .ref (G 4)) (C := RX0) (T := TX0) (N := 9) hx hb hts hfw hown hK hP 0 rfl rfl 3 (by decide) (hts (.fieldLink RX0 20 "MeldingHeaps" "floors" "[J") (by decide +kernel)) (fun _ h9 => h9) rfl dX0_floor_9 ?_
    refine lv_iload_n hx hb dX0_floor_12 rfl (lv_at hl 1 rfl) ?_
    refine va_lald (f := (xfl u)) hx hb hK hP 4 3 rfl rfl (in_isHeap hm c5) dX0_floor_13 ?_
    refine lv_goto (tgt := 20) hx hb dX0_floor_14 rfl ?_
    have e9 : p_floor u h = ((xfl u) (h).toNatClampNeg) := by unfold p_floor; rw [if_neg c5]
    exact W.eq (congrArg (fun z => F0 m 20 ls [.long z]) e9.symm) (kk _ _ _ _ dX0_floor_20 hP hD hS)
theorem c_floor (l : Launch) (dC : Nat → ClassId) (dI : Nat → Nat → Nat) (G : Nat → Nat) (C : Nat → ClassId) (sz : Nat) (u : xS) (h : Int32) (hm : xm u ≤ 12) : xMl l yX0_floor wsX0_floor (xR 1 21) dC dI (xT C) [.ref (G 0), .int h] (xW G C u) (xW G C u) (p_floor u h) sz :=
  xmet_l (by decide) rfl (Nat.le_of_ble_eq_true rfl) rfl (fun p e s m args below meth c Q A ls B hK hA hP hD hl kk => b_floor hm B hK hA hP hD hl kk)
def p_key (u : xS) (a : Int32) : Int64 :=
  (if (p_refusalOfEntry u a) = 0 then
    ((xky u) (a).toNatClampNeg)
  else 0)
set_option maxHeartbeats 4000000 in
set_option maxRecDepth 100000 in
theorem b_key {p : Program} {l : Launch} {e : Env} {s : State} {m : MethodId} {args : Array Value} {below : List Frame} {meth : Method} {c : Code} {Q : State → Prop} {A : Nat → Prop} {ls : Array Slot} {dC : Nat → ClassId} {dI : Nat → Nat → Nat} {G : Nat → Nat} {C : Nat → ClassId} {u : xS} {a : Int32} (hn : xn u ≤ 160) (B : CallFix p m c cX0_key 2 s args wsX0_key RX0) (hK : va_K (dC, dI) vwCl (xT C) s) (hA : ∀ q : Nat, s.heap.size ≤ q → A q) (hP : va_P (dC, dI) vwCl (xW G C u) s.heap) (hD : va_D A (xW G C u)) (hl : lv_has ls 2 [(0, .ref (G 0)), (1, .int a)]) (kk : (∀ (H : Heap) (locs : List Loc) (pc : Nat) (ls : Array Slot), decode cX0_key pc = .ok (.lreturn, 1) → va_P (dC, dI) vwCl (xW G C u) H → va_D A (xW G C u) → va_S A s.heap H locs → W p l e (xR 2 42) s m args below meth c H locs 0 0 Q (F0 m pc ls [.long (p_key u a)]))) : W p l e (xR 2 42) s m args below meth c s.heap [] 0 0 Q (F0 m 0 ls []) := by
  obtain ⟨hx, hb, hml, hown, hts⟩ := B
  have hS : va_S A s.heap s.heap [] := va_S.rf
  have hfw : ∀ w ∈ u_ws RX0 TX0 9, w ∈ wsX0_key := by decide +kernel
  refine lv_aload_n hx hb dX0_key_0 rfl (lv_at hl 0 rfl) ?_
  refine lv_iload_n hx hb dX0_key_1 rfl (lv_at hl 1 rfl) ?_
  refine xcall_i (ws := (xW G C u)) (wc := (xW G C u)) (wr := []) (w1 := (xW G C u)) (v := (p_refusalOfEntry u a)) [0, 1, 2, 3, 4, 5, 6, 7] [] (va_runV (As := [.int a]) (rest := []) ⟨hx, hb, hml, hown, hts⟩ (c_refusalOfEntry l dC dI G C _ u a hn) (cwV 1 hts gX0_key_X0_refusalOfEntry rfl rfl rfl (by decide +kernel) ⟨Nat.le_of_ble_eq_true rfl, Nat.le_of_ble_eq_true rfl⟩) (xpreV (q0 := 0) (ci := 0) (qc := (RX0, TX0, 9)) hK hP hD rfl rfl) rfl rfl hl.1 rfl (lv_room (Nat.le_of_ble_eq_true rfl)) dX0_key_2 ⟨Nat.zero_le _, Nat.zero_le _⟩) hP hD hS hA rfl rfl (by decide) (by decide) (fun H locs hP hD hS => ?_)
  have hP : va_P (dC, dI) vwCl (xW G C u) H := hP
  have hD : va_D A (xW G C u) := hD
  refine lv_if_ne (tgt := 17) hx hb dX0_key_5 rfl (fun c5 => ?_) (fun c5 => ?_)
  · refine lv_lconst (v := 0) hx hb dX0_key_17 (by decide) ?_
    have e9 : p_key u a = 0 := by unfold p_key; rw [if_neg c5]
    exact W.eq (congrArg (fun z => F0 m 18 ls [.long z]) e9.symm) (kk _ _ _ _ dX0_key_18 hP hD hS)
  · refine lv_aload_n hx hb dX0_key_8 rfl (lv_at hl 0 rfl) ?_
    refine va_get (D := (dC, dI)) (ci := 0) (v := .ref (G 5)) (C := RX0) (T := TX0) (N := 9) hx hb hts hfw hown hK hP 0 rfl rfl 5 (by decide) (hts (.fieldLink RX0 28 "MeldingHeaps" "keys" "[J") (by decide +kernel)) (fun _ h9 => h9) rfl dX0_key_9 ?_
    refine lv_iload_n hx hb dX0_key_12 rfl (lv_at hl 1 rfl) ?_
    refine va_lald (f := (xky u)) hx hb hK hP 5 4 rfl rfl ((in_refE hn c5).1) dX0_key_13 ?_
    refine lv_goto (tgt := 18) hx hb dX0_key_14 rfl ?_
    have e9 : p_key u a = ((xky u) (a).toNatClampNeg) := by unfold p_key; rw [if_pos c5]
    exact W.eq (congrArg (fun z => F0 m 18 ls [.long z]) e9.symm) (kk _ _ _ _ dX0_key_18 hP hD hS)
theorem c_key (l : Launch) (dC : Nat → ClassId) (dI : Nat → Nat → Nat) (G : Nat → Nat) (C : Nat → ClassId) (sz : Nat) (u : xS) (a : Int32) (hn : xn u ≤ 160) : xMl l yX0_key wsX0_key (xR 2 42) dC dI (xT C) [.ref (G 0), .int a] (xW G C u) (xW G C u) (p_key u a) sz :=
  xmet_l (by decide) rfl (Nat.le_of_ble_eq_true rfl) rfl (fun p e s m args below meth c Q A ls B hK hA hP hD hl kk => b_key hn B hK hA hP hD hl kk)
def p_value (u : xS) (a : Int32) : Int32 :=
  (if (p_refusalOfEntry u a) = 0 then
    ((xvl u) (a).toNatClampNeg)
  else 0)
set_option maxHeartbeats 4000000 in
set_option maxRecDepth 100000 in
theorem b_value {p : Program} {l : Launch} {e : Env} {s : State} {m : MethodId} {args : Array Value} {below : List Frame} {meth : Method} {c : Code} {Q : State → Prop} {A : Nat → Prop} {ls : Array Slot} {dC : Nat → ClassId} {dI : Nat → Nat → Nat} {G : Nat → Nat} {C : Nat → ClassId} {u : xS} {a : Int32} (hn : xn u ≤ 160) (B : CallFix p m c cX0_value 2 s args wsX0_value RX0) (hK : va_K (dC, dI) vwCl (xT C) s) (hA : ∀ q : Nat, s.heap.size ≤ q → A q) (hP : va_P (dC, dI) vwCl (xW G C u) s.heap) (hD : va_D A (xW G C u)) (hl : lv_has ls 2 [(0, .ref (G 0)), (1, .int a)]) (kk : (∀ (H : Heap) (locs : List Loc) (pc : Nat) (ls : Array Slot), decode cX0_value pc = .ok (.ireturn, 1) → va_P (dC, dI) vwCl (xW G C u) H → va_D A (xW G C u) → va_S A s.heap H locs → W p l e (xR 2 42) s m args below meth c H locs 0 0 Q (F0 m pc ls [.int (p_value u a)]))) : W p l e (xR 2 42) s m args below meth c s.heap [] 0 0 Q (F0 m 0 ls []) := by
  obtain ⟨hx, hb, hml, hown, hts⟩ := B
  have hS : va_S A s.heap s.heap [] := va_S.rf
  have hfw : ∀ w ∈ u_ws RX0 TX0 9, w ∈ wsX0_value := by decide +kernel
  refine lv_aload_n hx hb dX0_value_0 rfl (lv_at hl 0 rfl) ?_
  refine lv_iload_n hx hb dX0_value_1 rfl (lv_at hl 1 rfl) ?_
  refine xcall_i (ws := (xW G C u)) (wc := (xW G C u)) (wr := []) (w1 := (xW G C u)) (v := (p_refusalOfEntry u a)) [0, 1, 2, 3, 4, 5, 6, 7] [] (va_runV (As := [.int a]) (rest := []) ⟨hx, hb, hml, hown, hts⟩ (c_refusalOfEntry l dC dI G C _ u a hn) (cwV 1 hts gX0_value_X0_refusalOfEntry rfl rfl rfl (by decide +kernel) ⟨Nat.le_of_ble_eq_true rfl, Nat.le_of_ble_eq_true rfl⟩) (xpreV (q0 := 0) (ci := 0) (qc := (RX0, TX0, 9)) hK hP hD rfl rfl) rfl rfl hl.1 rfl (lv_room (Nat.le_of_ble_eq_true rfl)) dX0_value_2 ⟨Nat.zero_le _, Nat.zero_le _⟩) hP hD hS hA rfl rfl (by decide) (by decide) (fun H locs hP hD hS => ?_)
  have hP : va_P (dC, dI) vwCl (xW G C u) H := hP
  have hD : va_D A (xW G C u) := hD
  refine lv_if_ne (tgt := 17) hx hb dX0_value_5 rfl (fun c5 => ?_) (fun c5 => ?_)
  · refine lv_iconst (v := 0) hx hb dX0_value_17 (by decide) ?_
    have e9 : p_value u a = 0 := by unfold p_value; rw [if_neg c5]
    exact W.eq (congrArg (fun z => F0 m 18 ls [.int z]) e9.symm) (kk _ _ _ _ dX0_value_18 hP hD hS)
  · refine lv_aload_n hx hb dX0_value_8 rfl (lv_at hl 0 rfl) ?_
    refine va_get (D := (dC, dI)) (ci := 0) (v := .ref (G 6)) (C := RX0) (T := TX0) (N := 9) hx hb hts hfw hown hK hP 0 rfl rfl 6 (by decide) (hts (.fieldLink RX0 31 "MeldingHeaps" "values" "[I") (by decide +kernel)) (fun _ h9 => h9) rfl dX0_value_9 ?_
    refine lv_iload_n hx hb dX0_value_12 rfl (lv_at hl 1 rfl) ?_
    refine va_iald (f := (xvl u)) hx hb hK hP 6 5 rfl rfl ((in_refE hn c5).1) dX0_value_13 ?_
    refine lv_goto (tgt := 18) hx hb dX0_value_14 rfl ?_
    have e9 : p_value u a = ((xvl u) (a).toNatClampNeg) := by unfold p_value; rw [if_pos c5]
    exact W.eq (congrArg (fun z => F0 m 18 ls [.int z]) e9.symm) (kk _ _ _ _ dX0_value_18 hP hD hS)
theorem c_value (l : Launch) (dC : Nat → ClassId) (dI : Nat → Nat → Nat) (G : Nat → Nat) (C : Nat → ClassId) (sz : Nat) (u : xS) (a : Int32) (hn : xn u ≤ 160) : xMi l yX0_value wsX0_value (xR 2 42) dC dI (xT C) [.ref (G 0), .int a] (xW G C u) (xW G C u) (p_value u a) sz :=
  xmet_i (by decide) rfl rfl (Nat.le_of_ble_eq_true rfl) rfl (fun p e s m args below meth c Q A ls B hK hA hP hD hl kk => b_value hn B hK hA hP hD hl kk)
def p_owner (u : xS) (a : Int32) : Int32 :=
  (if (p_refusalOfEntry u a) = 0 then
    ((xow u) (a).toNatClampNeg)
  else (p_refusalOfEntry u a))
set_option maxHeartbeats 4000000 in
set_option maxRecDepth 100000 in
theorem b_owner {p : Program} {l : Launch} {e : Env} {s : State} {m : MethodId} {args : Array Value} {below : List Frame} {meth : Method} {c : Code} {Q : State → Prop} {A : Nat → Prop} {ls : Array Slot} {dC : Nat → ClassId} {dI : Nat → Nat → Nat} {G : Nat → Nat} {C : Nat → ClassId} {u : xS} {a : Int32} (hn : xn u ≤ 160) (B : CallFix p m c cX0_owner 3 s args wsX0_owner RX0) (hK : va_K (dC, dI) vwCl (xT C) s) (hA : ∀ q : Nat, s.heap.size ≤ q → A q) (hP : va_P (dC, dI) vwCl (xW G C u) s.heap) (hD : va_D A (xW G C u)) (hl : lv_has ls 3 [(0, .ref (G 0)), (1, .int a)]) (kk : (∀ (H : Heap) (locs : List Loc) (pc : Nat) (ls : Array Slot), decode cX0_owner pc = .ok (.ireturn, 1) → va_P (dC, dI) vwCl (xW G C u) H → va_D A (xW G C u) → va_S A s.heap H locs → W p l e (xR 2 42) s m args below meth c H locs 0 0 Q (F0 m pc ls [.int (p_owner u a)]))) : W p l e (xR 2 42) s m args below meth c s.heap [] 0 0 Q (F0 m 0 ls []) := by
  obtain ⟨hx, hb, hml, hown, hts⟩ := B
  have hS : va_S A s.heap s.heap [] := va_S.rf
  have hfw : ∀ w ∈ u_ws RX0 TX0 9, w ∈ wsX0_owner := by decide +kernel
  refine lv_aload_n hx hb dX0_owner_0 rfl (lv_at hl 0 rfl) ?_
  refine lv_iload_n hx hb dX0_owner_1 rfl (lv_at hl 1 rfl) ?_
  refine xcall_i (ws := (xW G C u)) (wc := (xW G C u)) (wr := []) (w1 := (xW G C u)) (v := (p_refusalOfEntry u a)) [0, 1, 2, 3, 4, 5, 6, 7] [] (va_runV (As := [.int a]) (rest := []) ⟨hx, hb, hml, hown, hts⟩ (c_refusalOfEntry l dC dI G C _ u a hn) (cwV 1 hts gX0_owner_X0_refusalOfEntry rfl rfl rfl (by decide +kernel) ⟨Nat.le_of_ble_eq_true rfl, Nat.le_of_ble_eq_true rfl⟩) (xpreV (q0 := 0) (ci := 0) (qc := (RX0, TX0, 9)) hK hP hD rfl rfl) rfl rfl hl.1 rfl (lv_room (Nat.le_of_ble_eq_true rfl)) dX0_owner_2 ⟨Nat.zero_le _, Nat.zero_le _⟩) hP hD hS hA rfl rfl (by decide) (by decide) (fun H locs hP hD hS => ?_)
  have hP : va_P (dC, dI) vwCl (xW G C u) H := hP
  have hD : va_D A (xW G C u) := hD
  refine lv_istore_n (lv' := [(2, .int (p_refusalOfEntry u a)), (0, .ref (G 0)), (1, .int a)]) hx hb dX0_owner_5 rfl hl (by decide) rfl (fun ls hl => ?_)
  refine lv_iload_n hx hb dX0_owner_6 rfl (lv_at hl 0 rfl) ?_
  refine lv_if_eq (tgt := 14) hx hb dX0_owner_7 rfl (fun c7 => ?_) (fun c7 => ?_)
  · refine lv_aload_n hx hb dX0_owner_14 rfl (lv_at hl 1 rfl) ?_
    refine va_get (D := (dC, dI)) (ci := 0) (v := .ref (G 7)) (C := RX0) (T := TX0) (N := 9) hx hb hts hfw hown hK hP 0 rfl rfl 7 (by decide) (hts (.fieldLink RX0 34 "MeldingHeaps" "owners" "[I") (by decide +kernel)) (fun _ h9 => h9) rfl dX0_owner_15 ?_
    refine lv_iload_n hx hb dX0_owner_18 rfl (lv_at hl 2 rfl) ?_
    refine va_iald (f := (xow u)) hx hb hK hP 7 6 rfl rfl ((in_refE hn c7).1) dX0_owner_19 ?_
    have e9 : p_owner u a = ((xow u) (a).toNatClampNeg) := by unfold p_owner; rw [if_pos c7]
    exact W.eq (congrArg (fun z => F0 m 20 ls [.int z]) e9.symm) (kk _ _ _ _ dX0_owner_20 hP hD hS)
  · refine lv_iload_n hx hb dX0_owner_10 rfl (lv_at hl 0 rfl) ?_
    refine lv_goto (tgt := 20) hx hb dX0_owner_11 rfl ?_
    have e9 : p_owner u a = (p_refusalOfEntry u a) := by unfold p_owner; rw [if_neg c7]
    exact W.eq (congrArg (fun z => F0 m 20 ls [.int z]) e9.symm) (kk _ _ _ _ dX0_owner_20 hP hD hS)
theorem c_owner (l : Launch) (dC : Nat → ClassId) (dI : Nat → Nat → Nat) (G : Nat → Nat) (C : Nat → ClassId) (sz : Nat) (u : xS) (a : Int32) (hn : xn u ≤ 160) : xMi l yX0_owner wsX0_owner (xR 2 42) dC dI (xT C) [.ref (G 0), .int a] (xW G C u) (xW G C u) (p_owner u a) sz :=
  xmet_i (by decide) rfl rfl (Nat.le_of_ble_eq_true rfl) rfl (fun p e s m args below meth c Q A ls B hK hA hP hD hl kk => b_owner hn B hK hA hP hD hl kk)
theorem refE_neg {u : xS} {a : Int32} (c : ¬ p_refusalOfEntry u a = 0) : p_refusalOfEntry u a < 0 := by
  unfold p_refusalOfEntry at c ⊢
  by_cases h1 : p_isEntry u a = 0
  · rw [if_pos h1]; decide
  · rw [if_neg h1] at c ⊢
    by_cases h2 : (xow u a.toNatClampNeg) = -4
    · rw [if_pos h2]; decide
    · rw [if_neg h2] at c; exact absurd rfl c
theorem owner_in {u : xS} {a : Int32} (hn : xn u ≤ 160) (c : ¬ p_owner u a < 0) : vp_in a 160 := by
  unfold p_owner at c
  by_cases h1 : p_refusalOfEntry u a = 0
  · exact (in_refE hn h1).1
  · rw [if_neg h1] at c; exact absurd (refE_neg h1) c
def p_before (u : xS) (a : Int32) : Int32 :=
  (if (p_refusalOfEntry u a) = 0 then
    (p_countBefore u ((xow u) (a).toNatClampNeg) a)
  else (p_refusalOfEntry u a))
set_option maxHeartbeats 4000000 in
set_option maxRecDepth 100000 in
theorem b_before {p : Program} {l : Launch} {e : Env} {s : State} {m : MethodId} {args : Array Value} {below : List Frame} {meth : Method} {c : Code} {Q : State → Prop} {A : Nat → Prop} {ls : Array Slot} {dC : Nat → ClassId} {dI : Nat → Nat → Nat} {G : Nat → Nat} {C : Nat → ClassId} {u : xS} {a : Int32} (hn : xn u ≤ 160) (ho : ∀ j : Nat, j < xn u → xow u j = -4 ∨ vp_in (xow u j) 12) (B : CallFix p m c cX0_before 3 s args wsX0_before RX0) (hK : va_K (dC, dI) vwCl (xT C) s) (hA : ∀ q : Nat, s.heap.size ≤ q → A q) (hP : va_P (dC, dI) vwCl (xW G C u) s.heap) (hD : va_D A (xW G C u)) (hl : lv_has ls 3 [(0, .ref (G 0)), (1, .int a)]) (kk : (∀ (H : Heap) (locs : List Loc) (pc : Nat) (ls : Array Slot), decode cX0_before pc = .ok (.ireturn, 1) → va_P (dC, dI) vwCl (xW G C u) H → va_D A (xW G C u) → va_S A s.heap H locs → W p l e (xR 3 73) s m args below meth c H locs 0 0 Q (F0 m pc ls [.int (p_before u a)]))) : W p l e (xR 3 73) s m args below meth c s.heap [] 0 0 Q (F0 m 0 ls []) := by
  obtain ⟨hx, hb, hml, hown, hts⟩ := B
  have hS : va_S A s.heap s.heap [] := va_S.rf
  have hfw : ∀ w ∈ u_ws RX0 TX0 9, w ∈ wsX0_before := by decide +kernel
  refine lv_aload_n hx hb dX0_before_0 rfl (lv_at hl 0 rfl) ?_
  refine lv_iload_n hx hb dX0_before_1 rfl (lv_at hl 1 rfl) ?_
  refine xcall_i (ws := (xW G C u)) (wc := (xW G C u)) (wr := []) (w1 := (xW G C u)) (v := (p_refusalOfEntry u a)) [0, 1, 2, 3, 4, 5, 6, 7] [] (va_runV (As := [.int a]) (rest := []) ⟨hx, hb, hml, hown, hts⟩ (c_refusalOfEntry l dC dI G C _ u a hn) (cwV 1 hts gX0_before_X0_refusalOfEntry rfl rfl rfl (by decide +kernel) ⟨Nat.le_of_ble_eq_true rfl, Nat.le_of_ble_eq_true rfl⟩) (xpreV (q0 := 0) (ci := 0) (qc := (RX0, TX0, 9)) hK hP hD rfl rfl) rfl rfl hl.1 rfl (lv_room (Nat.le_of_ble_eq_true rfl)) dX0_before_2 ⟨Nat.zero_le _, Nat.zero_le _⟩) hP hD hS hA rfl rfl (by decide) (by decide) (fun H locs hP hD hS => ?_)
  have hP : va_P (dC, dI) vwCl (xW G C u) H := hP
  have hD : va_D A (xW G C u) := hD
  refine lv_istore_n (lv' := [(2, .int (p_refusalOfEntry u a)), (0, .ref (G 0)), (1, .int a)]) hx hb dX0_before_5 rfl hl (by decide) rfl (fun ls hl => ?_)
  refine lv_iload_n hx hb dX0_before_6 rfl (lv_at hl 0 rfl) ?_
  refine lv_if_eq (tgt := 14) hx hb dX0_before_7 rfl (fun c7 => ?_) (fun c7 => ?_)
  · refine lv_aload_n hx hb dX0_before_14 rfl (lv_at hl 1 rfl) ?_
    refine lv_aload_n hx hb dX0_before_15 rfl (lv_at hl 1 rfl) ?_
    refine va_get (D := (dC, dI)) (ci := 0) (v := .ref (G 7)) (C := RX0) (T := TX0) (N := 9) hx hb hts hfw hown hK hP 0 rfl rfl 7 (by decide) (hts (.fieldLink RX0 34 "MeldingHeaps" "owners" "[I") (by decide +kernel)) (fun _ h9 => h9) rfl dX0_before_16 ?_
    refine lv_iload_n hx hb dX0_before_19 rfl (lv_at hl 2 rfl) ?_
    refine va_iald (f := (xow u)) hx hb hK hP 7 6 rfl rfl ((in_refE hn c7).1) dX0_before_20 ?_
    refine lv_iload_n hx hb dX0_before_21 rfl (lv_at hl 2 rfl) ?_
    refine xcall_i (ws := (xW G C u)) (wc := (xW G C u)) (wr := []) (w1 := (xW G C u)) (v := (p_countBefore u ((xow u) (a).toNatClampNeg) a)) [0, 1, 2, 3, 4, 5, 6, 7] [] (va_runV (As := [.int ((xow u) (a).toNatClampNeg), .int a]) (rest := []) ⟨hx, hb, hml, hown, hts⟩ (c_countBefore l dC dI G C _ u ((xow u) (a).toNatClampNeg) a hn (in_own hn ho c7) (in_refE hn c7).1) (cwV 2 hts gX0_before_X0_countBefore rfl rfl rfl (by decide +kernel) ⟨Nat.le_of_ble_eq_true rfl, Nat.le_of_ble_eq_true rfl⟩) (xpreV (q0 := 0) (ci := 0) (qc := (RX0, TX0, 9)) hK hP hD rfl rfl) rfl rfl hl.1 rfl (lv_room (Nat.le_of_ble_eq_true rfl)) dX0_before_22 ⟨Nat.zero_le _, Nat.zero_le _⟩) hP hD hS hA rfl rfl (by decide) (by decide) (fun H locs hP hD hS => ?_)
    have hP : va_P (dC, dI) vwCl (xW G C u) H := hP
    have hD : va_D A (xW G C u) := hD
    have e9 : p_before u a = (p_countBefore u ((xow u) (a).toNatClampNeg) a) := by unfold p_before; rw [if_pos c7]
    exact W.eq (congrArg (fun z => F0 m 25 ls [.int z]) e9.symm) (kk _ _ _ _ dX0_before_25 hP hD hS)
  · refine lv_iload_n hx hb dX0_before_10 rfl (lv_at hl 0 rfl) ?_
    refine lv_goto (tgt := 25) hx hb dX0_before_11 rfl ?_
    have e9 : p_before u a = (p_refusalOfEntry u a) := by unfold p_before; rw [if_neg c7]
    exact W.eq (congrArg (fun z => F0 m 25 ls [.int z]) e9.symm) (kk _ _ _ _ dX0_before_25 hP hD hS)
theorem c_before (l : Launch) (dC : Nat → ClassId) (dI : Nat → Nat → Nat) (G : Nat → Nat) (C : Nat → ClassId) (sz : Nat) (u : xS) (a : Int32) (hn : xn u ≤ 160) (ho : ∀ j : Nat, j < xn u → xow u j = -4 ∨ vp_in (xow u j) 12) : xMi l yX0_before wsX0_before (xR 3 73) dC dI (xT C) [.ref (G 0), .int a] (xW G C u) (xW G C u) (p_before u a) sz :=
  xmet_i (by decide) rfl rfl (Nat.le_of_ble_eq_true rfl) rfl (fun p e s m args below meth c Q A ls B hK hA hP hD hl kk => b_before hn ho B hK hA hP hD hl kk)
def p_delete (u : xS) (a : Int32) : Int32 :=
  (if (p_owner u a) < 0 then
    (p_owner u a)
  else (p_owner u a))
def q_delete (u : xS) (a : Int32) : xS :=
  (if (p_owner u a) < 0 then
    u
  else (sOw u (upd (xow u) (a).toNatClampNeg (-4))))
set_option maxHeartbeats 4000000 in
set_option maxRecDepth 100000 in
theorem b_delete {p : Program} {l : Launch} {e : Env} {s : State} {m : MethodId} {args : Array Value} {below : List Frame} {meth : Method} {c : Code} {Q : State → Prop} {A : Nat → Prop} {ls : Array Slot} {dC : Nat → ClassId} {dI : Nat → Nat → Nat} {G : Nat → Nat} {C : Nat → ClassId} {u : xS} {a : Int32} (hn : xn u ≤ 160) (B : CallFix p m c cX0_delete 3 s args wsX0_delete RX0) (hK : va_K (dC, dI) vwCl (xT C) s) (hA : ∀ q : Nat, s.heap.size ≤ q → A q) (hP : va_P (dC, dI) vwCl (xW G C u) s.heap) (hD : va_D A (xW G C u)) (hl : lv_has ls 3 [(0, .ref (G 0)), (1, .int a)]) (kk : (∀ (H : Heap) (locs : List Loc) (pc : Nat) (ls : Array Slot), decode cX0_delete pc = .ok (.ireturn, 1) → va_P (dC, dI) vwCl (xW G C (q_delete u a)) H → va_D A (xW G C (q_delete u a)) → va_S A s.heap H locs → W p l e (xR 3 64) s m args below meth c H locs 0 0 Q (F0 m pc ls [.int (p_delete u a)]))) : W p l e (xR 3 64) s m args below meth c s.heap [] 0 0 Q (F0 m 0 ls []) := by
  obtain ⟨hx, hb, hml, hown, hts⟩ := B
  have hS : va_S A s.heap s.heap [] := va_S.rf
  have hfw : ∀ w ∈ u_ws RX0 TX0 9, w ∈ wsX0_delete := by decide +kernel
  refine lv_aload_n hx hb dX0_delete_0 rfl (lv_at hl 0 rfl) ?_
  refine lv_iload_n hx hb dX0_delete_1 rfl (lv_at hl 1 rfl) ?_
  refine xcall_i (ws := (xW G C u)) (wc := (xW G C u)) (wr := []) (w1 := (xW G C u)) (v := (p_owner u a)) [0, 1, 2, 3, 4, 5, 6, 7] [] (va_runV (As := [.int a]) (rest := []) ⟨hx, hb, hml, hown, hts⟩ (c_owner l dC dI G C _ u a hn) (cwV 1 hts gX0_delete_X0_owner rfl rfl rfl (by decide +kernel) ⟨Nat.le_of_ble_eq_true rfl, Nat.le_of_ble_eq_true rfl⟩) (xpreV (q0 := 0) (ci := 0) (qc := (RX0, TX0, 9)) hK hP hD rfl rfl) rfl rfl hl.1 rfl (lv_room (Nat.le_of_ble_eq_true rfl)) dX0_delete_2 ⟨Nat.zero_le _, Nat.zero_le _⟩) hP hD hS hA rfl rfl (by decide) (by decide) (fun H locs hP hD hS => ?_)
  have hP : va_P (dC, dI) vwCl (xW G C u) H := hP
  have hD : va_D A (xW G C u) := hD
  refine lv_istore_n (lv' := [(2, .int (p_owner u a)), (0, .ref (G 0)), (1, .int a)]) hx hb dX0_delete_5 rfl hl (by decide) rfl (fun ls hl => ?_)
  refine lv_iload_n hx hb dX0_delete_6 rfl (lv_at hl 0 rfl) ?_
  refine lv_if_lt (tgt := 18) hx hb dX0_delete_7 rfl (fun c7 => ?_) (fun c7 => ?_)
  · refine lv_iload_n hx hb dX0_delete_18 rfl (lv_at hl 0 rfl) ?_
    have e8 : q_delete u a = u := by unfold q_delete; rw [if_pos c7]
    have e9 : p_delete u a = (p_owner u a) := by unfold p_delete; rw [if_pos c7]
    exact W.eq (congrArg (fun z => F0 m 19 ls [.int z]) e9.symm) (kk _ _ _ _ dX0_delete_19 (by rw [e8]; exact hP) (by rw [e8]; exact hD) hS)
  · refine lv_aload_n hx hb dX0_delete_10 rfl (lv_at hl 1 rfl) ?_
    refine va_get (D := (dC, dI)) (ci := 0) (v := .ref (G 7)) (C := RX0) (T := TX0) (N := 9) hx hb hts hfw hown hK hP 0 rfl rfl 7 (by decide) (hts (.fieldLink RX0 34 "MeldingHeaps" "owners" "[I") (by decide +kernel)) (fun _ h9 => h9) rfl dX0_delete_11 ?_
    refine lv_iload_n hx hb dX0_delete_14 rfl (lv_at hl 2 rfl) ?_
    refine lv_bipush (v := (-4)) hx hb dX0_delete_15 (by decide) ?_
    refine va_iast (f := (xow u)) hx hb hK hP hD hS 7 6 rfl rfl (owner_in hn c7) dX0_delete_17 (fun H locs hP hD hS => ?_)
    have hP : va_P (dC, dI) vwCl (xW G C (sOw u (upd (xow u) (a).toNatClampNeg (-4)))) H := hP
    have hD : va_D A (xW G C (sOw u (upd (xow u) (a).toNatClampNeg (-4)))) := hD
    refine lv_iload_n hx hb dX0_delete_18 rfl (lv_at hl 0 rfl) ?_
    have e8 : q_delete u a = (sOw u (upd (xow u) (a).toNatClampNeg (-4))) := by unfold q_delete; rw [if_neg c7]
    have e9 : p_delete u a = (p_owner u a) := by unfold p_delete; rw [if_neg c7]
    exact W.eq (congrArg (fun z => F0 m 19 ls [.int z]) e9.symm) (kk _ _ _ _ dX0_delete_19 (by rw [e8]; exact hP) (by rw [e8]; exact hD) hS)
theorem c_delete (l : Launch) (dC : Nat → ClassId) (dI : Nat → Nat → Nat) (G : Nat → Nat) (C : Nat → ClassId) (sz : Nat) (u : xS) (a : Int32) (hn : xn u ≤ 160) : xMi l yX0_delete wsX0_delete (xR 3 64) dC dI (xT C) [.ref (G 0), .int a] (xW G C u) (xW G C (q_delete u a)) (p_delete u a) sz :=
  xmet_i (by decide) rfl rfl (Nat.le_of_ble_eq_true rfl) rfl (fun p e s m args below meth c Q A ls B hK hA hP hD hl kk => b_delete hn B hK hA hP hD hl kk)
def p_clear (u : xS) (h : Int32) : Int32 :=
  (if (p_refusalOfHeap u h) = 0 then
    (p_handOverAll (sFl u (vp_updL (xfl u) (h).toNatClampNeg (-9223372036854775808))) h (-4))
  else (p_refusalOfHeap u h))
def q_clear (u : xS) (h : Int32) : xS :=
  (if (p_refusalOfHeap u h) = 0 then
    (q_handOverAll (sFl u (vp_updL (xfl u) (h).toNatClampNeg (-9223372036854775808))) h (-4))
  else u)
set_option maxHeartbeats 4000000 in
set_option maxRecDepth 100000 in
theorem b_clear {p : Program} {l : Launch} {e : Env} {s : State} {m : MethodId} {args : Array Value} {below : List Frame} {meth : Method} {c : Code} {Q : State → Prop} {A : Nat → Prop} {ls : Array Slot} {dC : Nat → ClassId} {dI : Nat → Nat → Nat} {G : Nat → Nat} {C : Nat → ClassId} {u : xS} {h : Int32} (hm : xm u ≤ 12) (hn : xn u ≤ 160) (B : CallFix p m c cX0_clear 3 s args wsX0_clear RX0) (hK : va_K (dC, dI) vwCl (xT C) s) (hA : ∀ q : Nat, s.heap.size ≤ q → A q) (hP : va_P (dC, dI) vwCl (xW G C u) s.heap) (hD : va_D A (xW G C u)) (hl : lv_has ls 3 [(0, .ref (G 0)), (1, .int h)]) (kk : (∀ (H : Heap) (locs : List Loc) (pc : Nat) (ls : Array Slot), decode cX0_clear pc = .ok (.ireturn, 1) → va_P (dC, dI) vwCl (xW G C (q_clear u h)) H → va_D A (xW G C (q_clear u h)) → va_S A s.heap H locs → W p l e (xR 2 42) s m args below meth c H locs 0 0 Q (F0 m pc ls [.int (p_clear u h)]))) : W p l e (xR 2 42) s m args below meth c s.heap [] 0 0 Q (F0 m 0 ls []) := by
  obtain ⟨hx, hb, hml, hown, hts⟩ := B
  have hS : va_S A s.heap s.heap [] := va_S.rf
  have hfw : ∀ w ∈ u_ws RX0 TX0 9, w ∈ wsX0_clear := by decide +kernel
  refine lv_aload_n hx hb dX0_clear_0 rfl (lv_at hl 0 rfl) ?_
  refine lv_iload_n hx hb dX0_clear_1 rfl (lv_at hl 1 rfl) ?_
  refine xcall_i (ws := (xW G C u)) (wc := (xW G C u)) (wr := []) (w1 := (xW G C u)) (v := (p_refusalOfHeap u h)) [0, 1, 2, 3, 4, 5, 6, 7] [] (va_runV (As := [.int h]) (rest := []) ⟨hx, hb, hml, hown, hts⟩ (c_refusalOfHeap l dC dI G C _ u h hm) (cwV 1 hts gX0_clear_X0_refusalOfHeap rfl rfl rfl (by decide +kernel) ⟨Nat.le_of_ble_eq_true rfl, Nat.le_of_ble_eq_true rfl⟩) (xpreV (q0 := 0) (ci := 0) (qc := (RX0, TX0, 9)) hK hP hD rfl rfl) rfl rfl hl.1 rfl (lv_room (Nat.le_of_ble_eq_true rfl)) dX0_clear_2 ⟨Nat.zero_le _, Nat.zero_le _⟩) hP hD hS hA rfl rfl (by decide) (by decide) (fun H locs hP hD hS => ?_)
  have hP : va_P (dC, dI) vwCl (xW G C u) H := hP
  have hD : va_D A (xW G C u) := hD
  refine lv_istore_n (lv' := [(2, .int (p_refusalOfHeap u h)), (0, .ref (G 0)), (1, .int h)]) hx hb dX0_clear_5 rfl hl (by decide) rfl (fun ls hl => ?_)
  refine lv_iload_n hx hb dX0_clear_6 rfl (lv_at hl 0 rfl) ?_
  refine lv_if_eq (tgt := 12) hx hb dX0_clear_7 rfl (fun c7 => ?_) (fun c7 => ?_)
  · refine lv_aload_n hx hb dX0_clear_12 rfl (lv_at hl 1 rfl) ?_
    refine va_get (D := (dC, dI)) (ci := 0) (v := .ref (G 4)) (C := RX0) (T := TX0) (N := 9) hx hb hts hfw hown hK hP 0 rfl rfl 3 (by decide) (hts (.fieldLink RX0 20 "MeldingHeaps" "floors" "[J") (by decide +kernel)) (fun _ h9 => h9) rfl dX0_clear_13 ?_
    refine lv_iload_n hx hb dX0_clear_16 rfl (lv_at hl 2 rfl) ?_
    refine lv_ldc2 (v := (-9223372036854775808)) hx hb hown (hts (.constantLong RX0 40 (-9223372036854775808)) (by decide +kernel)) dX0_clear_17 ?_
    refine va_last (f := (xfl u)) hx hb hK hP hD hS 4 3 rfl rfl (in_refH hm c7) dX0_clear_20 (fun H locs hP hD hS => ?_)
    have hP : va_P (dC, dI) vwCl (xW G C (sFl u (vp_updL (xfl u) (h).toNatClampNeg (-9223372036854775808)))) H := hP
    have hD : va_D A (xW G C (sFl u (vp_updL (xfl u) (h).toNatClampNeg (-9223372036854775808)))) := hD
    refine lv_aload_n hx hb dX0_clear_21 rfl (lv_at hl 1 rfl) ?_
    refine lv_iload_n hx hb dX0_clear_22 rfl (lv_at hl 2 rfl) ?_
    refine lv_bipush (v := (-4)) hx hb dX0_clear_23 (by decide) ?_
    refine xcall_i (ws := (xW G C (sFl u (vp_updL (xfl u) (h).toNatClampNeg (-9223372036854775808))))) (wc := (xW G C (sFl u (vp_updL (xfl u) (h).toNatClampNeg (-9223372036854775808))))) (wr := []) (w1 := (xW G C (q_handOverAll (sFl u (vp_updL (xfl u) (h).toNatClampNeg (-9223372036854775808))) h (-4)))) (v := (p_handOverAll (sFl u (vp_updL (xfl u) (h).toNatClampNeg (-9223372036854775808))) h (-4))) [0, 1, 2, 3, 4, 5, 6, 7] [] (va_runV (As := [.int h, .int (-4)]) (rest := []) ⟨hx, hb, hml, hown, hts⟩ (c_handOverAll l dC dI G C _ (sFl u (vp_updL (xfl u) (h).toNatClampNeg (-9223372036854775808))) h (-4) hn) (cwV 2 hts gX0_clear_X0_handOverAll rfl rfl rfl (by decide +kernel) ⟨Nat.le_of_ble_eq_true rfl, Nat.le_of_ble_eq_true rfl⟩) (xpreV (q0 := 0) (ci := 0) (qc := (RX0, TX0, 9)) hK hP hD rfl rfl) rfl rfl hl.1 rfl (lv_room (Nat.le_of_ble_eq_true rfl)) dX0_clear_25 ⟨Nat.zero_le _, Nat.zero_le _⟩) hP hD hS hA rfl rfl (by decide) (by decide) (fun H locs hP hD hS => ?_)
    have hP : va_P (dC, dI) vwCl (xW G C (q_handOverAll (sFl u (vp_updL (xfl u) (h).toNatClampNeg (-9223372036854775808))) h (-4))) H := hP
    have hD : va_D A (xW G C (q_handOverAll (sFl u (vp_updL (xfl u) (h).toNatClampNeg (-9223372036854775808))) h (-4))) := hD
    have e8 : q_clear u h = (q_handOverAll (sFl u (vp_updL (xfl u) (h).toNatClampNeg (-9223372036854775808))) h (-4)) := by unfold q_clear; rw [if_pos c7]
    have e9 : p_clear u h = (p_handOverAll (sFl u (vp_updL (xfl u) (h).toNatClampNeg (-9223372036854775808))) h (-4)) := by unfold p_clear; rw [if_pos c7]
    exact W.eq (congrArg (fun z => F0 m 28 ls [.int z]) e9.symm) (kk _ _ _ _ dX0_clear_28 (by rw [e8]; exact hP) (by rw [e8]; exact hD) hS)
  · refine lv_iload_n hx hb dX0_clear_10 rfl (lv_at hl 0 rfl) ?_
    have e8 : q_clear u h = u := by unfold q_clear; rw [if_neg c7]
    have e9 : p_clear u h = (p_refusalOfHeap u h) := by unfold p_clear; rw [if_neg c7]
    exact W.eq (congrArg (fun z => F0 m 11 ls [.int z]) e9.symm) (kk _ _ _ _ dX0_clear_11 (by rw [e8]; exact hP) (by rw [e8]; exact hD) hS)
theorem c_clear (l : Launch) (dC : Nat → ClassId) (dI : Nat → Nat → Nat) (G : Nat → Nat) (C : Nat → ClassId) (sz : Nat) (u : xS) (h : Int32) (hm : xm u ≤ 12) (hn : xn u ≤ 160) : xMi l yX0_clear wsX0_clear (xR 2 42) dC dI (xT C) [.ref (G 0), .int h] (xW G C u) (xW G C (q_clear u h)) (p_clear u h) sz :=
  xmet_i (by decide) rfl rfl (Nat.le_of_ble_eq_true rfl) rfl (fun p e s m args below meth c Q A ls B hK hA hP hD hl kk => b_clear hm hn B hK hA hP hD hl kk)
def p_decrease (u : xS) (a : Int32) (k : Int64) : Int32 :=
  (if (p_refusalOfEntry u a) = 0 then
    (if (lg_cmp (p_weight ((xod u) (((xow u) (a).toNatClampNeg)).toNatClampNeg) k) (p_weight ((xod u) (((xow u) (a).toNatClampNeg)).toNatClampNeg) ((xky u) (a).toNatClampNeg))) ≤ 0 then
      (if (p_isBelowFloor u ((xow u) (a).toNatClampNeg) k) = 0 then
        (if (p_findFirst (sKy u (vp_updL (xky u) (a).toNatClampNeg k)) ((xow u) (a).toNatClampNeg)) = a then
          1
        else 0)
      else (-6))
    else (-5))
  else (p_refusalOfEntry u a))
def q_decrease (u : xS) (a : Int32) (k : Int64) : xS :=
  (if (p_refusalOfEntry u a) = 0 then
    (if (lg_cmp (p_weight ((xod u) (((xow u) (a).toNatClampNeg)).toNatClampNeg) k) (p_weight ((xod u) (((xow u) (a).toNatClampNeg)).toNatClampNeg) ((xky u) (a).toNatClampNeg))) ≤ 0 then
      (if (p_isBelowFloor u ((xow u) (a).toNatClampNeg) k) = 0 then
        (if (p_findFirst (sKy u (vp_updL (xky u) (a).toNatClampNeg k)) ((xow u) (a).toNatClampNeg)) = a then
          (sKy u (vp_updL (xky u) (a).toNatClampNeg k))
        else (sKy u (vp_updL (xky u) (a).toNatClampNeg k)))
      else u)
    else u)
  else u)
set_option maxHeartbeats 4000000 in
set_option maxRecDepth 100000 in
theorem b_decrease {p : Program} {l : Launch} {e : Env} {s : State} {m : MethodId} {args : Array Value} {below : List Frame} {meth : Method} {c : Code} {Q : State → Prop} {A : Nat → Prop} {ls : Array Slot} {dC : Nat → ClassId} {dI : Nat → Nat → Nat} {G : Nat → Nat} {C : Nat → ClassId} {u : xS} {a : Int32} {k : Int64} (hn : xn u ≤ 160) (ho : ∀ j : Nat, j < xn u → xow u j = -4 ∨ vp_in (xow u j) 12) (B : CallFix p m c cX0_decrease 6 s args wsX0_decrease RX0) (hK : va_K (dC, dI) vwCl (xT C) s) (hA : ∀ q : Nat, s.heap.size ≤ q → A q) (hP : va_P (dC, dI) vwCl (xW G C u) s.heap) (hD : va_D A (xW G C u)) (hl : lv_has ls 6 [(0, .ref (G 0)), (1, .int a), (2, .long k)]) (kk : (∀ (H : Heap) (locs : List Loc) (pc : Nat) (ls : Array Slot), decode cX0_decrease pc = .ok (.ireturn, 1) → va_P (dC, dI) vwCl (xW G C (q_decrease u a k)) H → va_D A (xW G C (q_decrease u a k)) → va_S A s.heap H locs → W p l e (xR 3 72) s m args below meth c H locs 0 0 Q (F0 m pc ls [.int (p_decrease u a k)]))) : W p l e (xR 3 72) s m args below meth c s.heap [] 0 0 Q (F0 m 0 ls []) := by
  obtain ⟨hx, hb, hml, hown, hts⟩ := B
  have hS : va_S A s.heap s.heap [] := va_S.rf
  have hfw : ∀ w ∈ u_ws RX0 TX0 9, w ∈ wsX0_decrease := by decide +kernel
  refine lv_aload_n hx hb dX0_decrease_0 rfl (lv_at hl 0 rfl) ?_
  refine lv_iload_n hx hb dX0_decrease_1 rfl (lv_at hl 1 rfl) ?_
  refine xcall_i (ws := (xW G C u)) (wc := (xW G C u)) (wr := []) (w1 := (xW G C u)) (v := (p_refusalOfEntry u a)) [0, 1, 2, 3, 4, 5, 6, 7] [] (va_runV (As := [.int a]) (rest := []) ⟨hx, hb, hml, hown, hts⟩ (c_refusalOfEntry l dC dI G C _ u a hn) (cwV 1 hts gX0_decrease_X0_refusalOfEntry rfl rfl rfl (by decide +kernel) ⟨Nat.le_of_ble_eq_true rfl, Nat.le_of_ble_eq_true rfl⟩) (xpreV (q0 := 0) (ci := 0) (qc := (RX0, TX0, 9)) hK hP hD rfl rfl) rfl rfl hl.1 rfl (lv_room (Nat.le_of_ble_eq_true rfl)) dX0_decrease_2 ⟨Nat.zero_le _, Nat.zero_le _⟩) hP hD hS hA rfl rfl (by decide) (by decide) (fun H locs hP hD hS => ?_)
  have hP : va_P (dC, dI) vwCl (xW G C u) H := hP
  have hD : va_D A (xW G C u) := hD
  refine lv_istore (lv' := [(4, .int (p_refusalOfEntry u a)), (0, .ref (G 0)), (1, .int a), (2, .long k)]) hx hb dX0_decrease_5 hl (by decide) rfl (fun ls hl => ?_)
  refine lv_iload hx hb dX0_decrease_7 (lv_at hl 0 rfl) ?_
  refine lv_if_eq (tgt := 15) hx hb dX0_decrease_9 rfl (fun c9 => ?_) (fun c9 => ?_)
  · refine lv_aload_n hx hb dX0_decrease_15 rfl (lv_at hl 1 rfl) ?_
    refine va_get (D := (dC, dI)) (ci := 0) (v := .ref (G 7)) (C := RX0) (T := TX0) (N := 9) hx hb hts hfw hown hK hP 0 rfl rfl 7 (by decide) (hts (.fieldLink RX0 34 "MeldingHeaps" "owners" "[I") (by decide +kernel)) (fun _ h9 => h9) rfl dX0_decrease_16 ?_
    refine lv_iload_n hx hb dX0_decrease_19 rfl (lv_at hl 2 rfl) ?_
    refine va_iald (f := (xow u)) hx hb hK hP 7 6 rfl rfl ((in_refE hn c9).1) dX0_decrease_20 ?_
    refine lv_istore (lv' := [(5, .int ((xow u) (a).toNatClampNeg)), (4, .int (p_refusalOfEntry u a)), (0, .ref (G 0)), (1, .int a), (2, .long k)]) hx hb dX0_decrease_21 hl (by decide) rfl (fun ls hl => ?_)
    refine lv_aload_n hx hb dX0_decrease_23 rfl (lv_at hl 2 rfl) ?_
    refine va_get (D := (dC, dI)) (ci := 0) (v := .ref (G 2)) (C := RX0) (T := TX0) (N := 9) hx hb hts hfw hown hK hP 0 rfl rfl 1 (by decide) (hts (.fieldLink RX0 13 "MeldingHeaps" "orders" "[I") (by decide +kernel)) (fun _ h9 => h9) rfl dX0_decrease_24 ?_
    refine lv_iload hx hb dX0_decrease_27 (lv_at hl 0 rfl) ?_
    refine va_iald (f := (xod u)) hx hb hK hP 2 1 rfl rfl ((in_own hn ho c9)) dX0_decrease_29 ?_
    refine lv_lload_n hx hb dX0_decrease_30 rfl (lv_at hl 4 rfl) ?_
    refine xcall_l (ws := (xW G C u)) (wc := []) (wr := (xW G C u)) (w1 := []) (v := (p_weight ((xod u) (((xow u) (a).toNatClampNeg)).toNatClampNeg) k)) [] [0, 1, 2, 3, 4, 5, 6, 7] (va_runS (As := [.int ((xod u) (((xow u) (a).toNatClampNeg)).toNatClampNeg), .long k]) (rest := []) ⟨hx, hb, hml, hown, hts⟩ (c_weight l dC dI _ ((xod u) (((xow u) (a).toNatClampNeg)).toNatClampNeg) k) (va_cwS 2 hts gX0_decrease_X0_weight rfl rfl rfl (by decide +kernel) ⟨Nat.le_of_ble_eq_true rfl, Nat.le_of_ble_eq_true rfl⟩) (xpreS hK) rfl rfl hl.1 rfl (lv_room (Nat.le_of_ble_eq_true rfl)) dX0_decrease_31 ⟨Nat.zero_le _, Nat.zero_le _⟩) hP hD hS hA rfl rfl (by decide) (by decide) (fun H locs hP hD hS => ?_)
    have hP : va_P (dC, dI) vwCl (xW G C u) H := hP
    have hD : va_D A (xW G C u) := hD
    refine lv_aload_n hx hb dX0_decrease_34 rfl (lv_at hl 2 rfl) ?_
    refine va_get (D := (dC, dI)) (ci := 0) (v := .ref (G 2)) (C := RX0) (T := TX0) (N := 9) hx hb hts hfw hown hK hP 0 rfl rfl 1 (by decide) (hts (.fieldLink RX0 13 "MeldingHeaps" "orders" "[I") (by decide +kernel)) (fun _ h9 => h9) rfl dX0_decrease_35 ?_
    refine lv_iload hx hb dX0_decrease_38 (lv_at hl 0 rfl) ?_
    refine va_iald (f := (xod u)) hx hb hK hP 2 1 rfl rfl ((in_own hn ho c9)) dX0_decrease_40 ?_
    refine lv_aload_n hx hb dX0_decrease_41 rfl (lv_at hl 2 rfl) ?_
    refine va_get (D := (dC, dI)) (ci := 0) (v := .ref (G 5)) (C := RX0) (T := TX0) (N := 9) hx hb hts hfw hown hK hP 0 rfl rfl 5 (by decide) (hts (.fieldLink RX0 28 "MeldingHeaps" "keys" "[J") (by decide +kernel)) (fun _ h9 => h9) rfl dX0_decrease_42 ?_
    refine lv_iload_n hx hb dX0_decrease_45 rfl (lv_at hl 3 rfl) ?_
    refine va_lald (f := (xky u)) hx hb hK hP 5 4 rfl rfl ((in_refE hn c9).1) dX0_decrease_46 ?_
    refine xcall_l (ws := (xW G C u)) (wc := []) (wr := (xW G C u)) (w1 := []) (v := (p_weight ((xod u) (((xow u) (a).toNatClampNeg)).toNatClampNeg) ((xky u) (a).toNatClampNeg))) [] [0, 1, 2, 3, 4, 5, 6, 7] (va_runS (As := [.int ((xod u) (((xow u) (a).toNatClampNeg)).toNatClampNeg), .long ((xky u) (a).toNatClampNeg)]) (rest := [.long (p_weight ((xod u) (((xow u) (a).toNatClampNeg)).toNatClampNeg) k)]) ⟨hx, hb, hml, hown, hts⟩ (c_weight l dC dI _ ((xod u) (((xow u) (a).toNatClampNeg)).toNatClampNeg) ((xky u) (a).toNatClampNeg)) (va_cwS 2 hts gX0_decrease_X0_weight rfl rfl rfl (by decide +kernel) ⟨Nat.le_of_ble_eq_true rfl, Nat.le_of_ble_eq_true rfl⟩) (xpreS hK) rfl rfl hl.1 rfl (lv_room (Nat.le_of_ble_eq_true rfl)) dX0_decrease_47 ⟨Nat.zero_le _, Nat.zero_le _⟩) hP hD hS hA rfl rfl (by decide) (by decide) (fun H locs hP hD hS => ?_)
    have hP : va_P (dC, dI) vwCl (xW G C u) H := hP
    have hD : va_D A (xW G C u) := hD
    refine W.lcmp hx hb dX0_decrease_50 ?_
    refine lv_if_le (tgt := 57) hx hb dX0_decrease_51 rfl (fun c51 => ?_) (fun c51 => ?_)
    · refine lv_aload_n hx hb dX0_decrease_57 rfl (lv_at hl 2 rfl) ?_
      refine lv_iload hx hb dX0_decrease_58 (lv_at hl 0 rfl) ?_
      refine lv_lload_n hx hb dX0_decrease_60 rfl (lv_at hl 4 rfl) ?_
      refine xcall_i (ws := (xW G C u)) (wc := (xW G C u)) (wr := []) (w1 := (xW G C u)) (v := (p_isBelowFloor u ((xow u) (a).toNatClampNeg) k)) [0, 1, 2, 3, 4, 5, 6, 7] [] (va_runV (As := [.int ((xow u) (a).toNatClampNeg), .long k]) (rest := []) ⟨hx, hb, hml, hown, hts⟩ (c_isBelowFloor l dC dI G C _ u ((xow u) (a).toNatClampNeg) k (in_own hn ho c9)) (cwV 2 hts gX0_decrease_X0_isBelowFloor rfl rfl rfl (by decide +kernel) ⟨Nat.le_of_ble_eq_true rfl, Nat.le_of_ble_eq_true rfl⟩) (xpreV (q0 := 0) (ci := 0) (qc := (RX0, TX0, 9)) hK hP hD rfl rfl) rfl rfl hl.1 rfl (lv_room (Nat.le_of_ble_eq_true rfl)) dX0_decrease_61 ⟨Nat.zero_le _, Nat.zero_le _⟩) hP hD hS hA rfl rfl (by decide) (by decide) (fun H locs hP hD hS => ?_)
      have hP : va_P (dC, dI) vwCl (xW G C u) H := hP
      have hD : va_D A (xW G C u) := hD
      refine lv_if_eq (tgt := 70) hx hb dX0_decrease_64 rfl (fun c64 => ?_) (fun c64 => ?_)
      · refine lv_aload_n hx hb dX0_decrease_70 rfl (lv_at hl 2 rfl) ?_
        refine va_get (D := (dC, dI)) (ci := 0) (v := .ref (G 5)) (C := RX0) (T := TX0) (N := 9) hx hb hts hfw hown hK hP 0 rfl rfl 5 (by decide) (hts (.fieldLink RX0 28 "MeldingHeaps" "keys" "[J") (by decide +kernel)) (fun _ h9 => h9) rfl dX0_decrease_71 ?_
        refine lv_iload_n hx hb dX0_decrease_74 rfl (lv_at hl 3 rfl) ?_
        refine lv_lload_n hx hb dX0_decrease_75 rfl (lv_at hl 4 rfl) ?_
        refine va_last (f := (xky u)) hx hb hK hP hD hS 5 4 rfl rfl ((in_refE hn c9).1) dX0_decrease_76 (fun H locs hP hD hS => ?_)
        have hP : va_P (dC, dI) vwCl (xW G C (sKy u (vp_updL (xky u) (a).toNatClampNeg k))) H := hP
        have hD : va_D A (xW G C (sKy u (vp_updL (xky u) (a).toNatClampNeg k))) := hD
        refine lv_aload_n hx hb dX0_decrease_77 rfl (lv_at hl 2 rfl) ?_
        refine lv_iload hx hb dX0_decrease_78 (lv_at hl 0 rfl) ?_
        refine xcall_i (ws := (xW G C (sKy u (vp_updL (xky u) (a).toNatClampNeg k)))) (wc := (xW G C (sKy u (vp_updL (xky u) (a).toNatClampNeg k)))) (wr := []) (w1 := (xW G C (sKy u (vp_updL (xky u) (a).toNatClampNeg k)))) (v := (p_findFirst (sKy u (vp_updL (xky u) (a).toNatClampNeg k)) ((xow u) (a).toNatClampNeg))) [0, 1, 2, 3, 4, 5, 6, 7] [] (va_runV (As := [.int ((xow u) (a).toNatClampNeg)]) (rest := []) ⟨hx, hb, hml, hown, hts⟩ (c_findFirst l dC dI G C _ (sKy u (vp_updL (xky u) (a).toNatClampNeg k)) ((xow u) (a).toNatClampNeg) hn (in_own hn ho c9)) (cwV 1 hts gX0_decrease_X0_findFirst rfl rfl rfl (by decide +kernel) ⟨Nat.le_of_ble_eq_true rfl, Nat.le_of_ble_eq_true rfl⟩) (xpreV (q0 := 0) (ci := 0) (qc := (RX0, TX0, 9)) hK hP hD rfl rfl) rfl rfl hl.1 rfl (lv_room (Nat.le_of_ble_eq_true rfl)) dX0_decrease_80 ⟨Nat.zero_le _, Nat.zero_le _⟩) hP hD hS hA rfl rfl (by decide) (by decide) (fun H locs hP hD hS => ?_)
        have hP : va_P (dC, dI) vwCl (xW G C (sKy u (vp_updL (xky u) (a).toNatClampNeg k))) H := hP
        have hD : va_D A (xW G C (sKy u (vp_updL (xky u) (a).toNatClampNeg k))) := hD
        refine lv_iload_n hx hb dX0_decrease_83 rfl (lv_at hl 3 rfl) ?_
        refine lv_icmp_ne (tgt := 91) hx hb dX0_decrease_84 rfl (fun c84 => ?_) (fun c84 => ?_)
        · refine lv_iconst (v := 0) hx hb dX0_decrease_91 (by decide) ?_
          have e8 : q_decrease u a k = (sKy u (vp_updL (xky u) (a).toNatClampNeg k)) := by unfold q_decrease; rw [if_pos c9, if_pos c51, if_pos c64, if_neg c84]
          have e9 : p_decrease u a k = 0 := by unfold p_decrease; rw [if_pos c9, if_pos c51, if_pos c64, if_neg c84]
          exact W.eq (congrArg (fun z => F0 m 92 ls [.int z]) e9.symm) (kk _ _ _ _ dX0_decrease_92 (by rw [e8]; exact hP) (by rw [e8]; exact hD) hS)
        · refine lv_iconst (v := 1) hx hb dX0_decrease_87 (by decide) ?_
          refine lv_goto (tgt := 92) hx hb dX0_decrease_88 rfl ?_
          have e8 : q_decrease u a k = (sKy u (vp_updL (xky u) (a).toNatClampNeg k)) := by unfold q_decrease; rw [if_pos c9, if_pos c51, if_pos c64, if_pos c84]
          have e9 : p_decrease u a k = 1 := by unfold p_decrease; rw [if_pos c9, if_pos c51, if_pos c64, if_pos c84]
          exact W.eq (congrArg (fun z => F0 m 92 ls [.int z]) e9.symm) (kk _ _ _ _ dX0_decrease_92 (by rw [e8]; exact hP) (by rw [e8]; exact hD) hS)
      · refine lv_bipush (v := (-6)) hx hb dX0_decrease_67 (by decide) ?_
        have e8 : q_decrease u a k = u := by unfold q_decrease; rw [if_pos c9, if_pos c51, if_neg c64]
        have e9 : p_decrease u a k = (-6) := by unfold p_decrease; rw [if_pos c9, if_pos c51, if_neg c64]
        exact W.eq (congrArg (fun z => F0 m 69 ls [.int z]) e9.symm) (kk _ _ _ _ dX0_decrease_69 (by rw [e8]; exact hP) (by rw [e8]; exact hD) hS)
    · refine lv_bipush (v := (-5)) hx hb dX0_decrease_54 (by decide) ?_
      have e8 : q_decrease u a k = u := by unfold q_decrease; rw [if_pos c9, if_neg c51]
      have e9 : p_decrease u a k = (-5) := by unfold p_decrease; rw [if_pos c9, if_neg c51]
      exact W.eq (congrArg (fun z => F0 m 56 ls [.int z]) e9.symm) (kk _ _ _ _ dX0_decrease_56 (by rw [e8]; exact hP) (by rw [e8]; exact hD) hS)
  · refine lv_iload hx hb dX0_decrease_12 (lv_at hl 0 rfl) ?_
    have e8 : q_decrease u a k = u := by unfold q_decrease; rw [if_neg c9]
    have e9 : p_decrease u a k = (p_refusalOfEntry u a) := by unfold p_decrease; rw [if_neg c9]
    exact W.eq (congrArg (fun z => F0 m 14 ls [.int z]) e9.symm) (kk _ _ _ _ dX0_decrease_14 (by rw [e8]; exact hP) (by rw [e8]; exact hD) hS)
theorem c_decrease (l : Launch) (dC : Nat → ClassId) (dI : Nat → Nat → Nat) (G : Nat → Nat) (C : Nat → ClassId) (sz : Nat) (u : xS) (a : Int32) (k : Int64) (hn : xn u ≤ 160) (ho : ∀ j : Nat, j < xn u → xow u j = -4 ∨ vp_in (xow u j) 12) : xMi l yX0_decrease wsX0_decrease (xR 3 72) dC dI (xT C) [.ref (G 0), .int a, .long k] (xW G C u) (xW G C (q_decrease u a k)) (p_decrease u a k) sz :=
  xmet_i (by decide) rfl rfl (Nat.le_of_ble_eq_true rfl) rfl (fun p e s m args below meth c Q A ls B hK hA hP hD hl kk => b_decrease hn ho B hK hA hP hD hl kk)
def p_meld (u : xS) (a : Int32) (b : Int32) : Int32 :=
  (if (p_refusalOfPair u a b) = 0 then
    (if ((xkd u) (a).toNatClampNeg) = 0 then
      (if ((xkd u) (b).toNatClampNeg) = 0 then
        (if ((xod u) (a).toNatClampNeg) = ((xod u) (b).toNatClampNeg) then
          (p_countEntries (sAb (q_handOverAll u b a) (upd (xab (q_handOverAll u b a)) (b).toNatClampNeg 1)) a)
        else (-7))
      else (-7))
    else (-7))
  else (p_refusalOfPair u a b))
def q_meld (u : xS) (a : Int32) (b : Int32) : xS :=
  (if (p_refusalOfPair u a b) = 0 then
    (if ((xkd u) (a).toNatClampNeg) = 0 then
      (if ((xkd u) (b).toNatClampNeg) = 0 then
        (if ((xod u) (a).toNatClampNeg) = ((xod u) (b).toNatClampNeg) then
          (sAb (q_handOverAll u b a) (upd (xab (q_handOverAll u b a)) (b).toNatClampNeg 1))
        else u)
      else u)
    else u)
  else u)
set_option maxHeartbeats 4000000 in
set_option maxRecDepth 100000 in
theorem b_meld {p : Program} {l : Launch} {e : Env} {s : State} {m : MethodId} {args : Array Value} {below : List Frame} {meth : Method} {c : Code} {Q : State → Prop} {A : Nat → Prop} {ls : Array Slot} {dC : Nat → ClassId} {dI : Nat → Nat → Nat} {G : Nat → Nat} {C : Nat → ClassId} {u : xS} {a : Int32} {b : Int32} (hm : xm u ≤ 12) (hn : xn u ≤ 160) (B : CallFix p m c cX0_meld 4 s args wsX0_meld RX0) (hK : va_K (dC, dI) vwCl (xT C) s) (hA : ∀ q : Nat, s.heap.size ≤ q → A q) (hP : va_P (dC, dI) vwCl (xW G C u) s.heap) (hD : va_D A (xW G C u)) (hl : lv_has ls 4 [(0, .ref (G 0)), (1, .int a), (2, .int b)]) (kk : (∀ (H : Heap) (locs : List Loc) (pc : Nat) (ls : Array Slot), decode cX0_meld pc = .ok (.ireturn, 1) → va_P (dC, dI) vwCl (xW G C (q_meld u a b)) H → va_D A (xW G C (q_meld u a b)) → va_S A s.heap H locs → W p l e (xR 3 65) s m args below meth c H locs 0 0 Q (F0 m pc ls [.int (p_meld u a b)]))) : W p l e (xR 3 65) s m args below meth c s.heap [] 0 0 Q (F0 m 0 ls []) := by
  obtain ⟨hx, hb, hml, hown, hts⟩ := B
  have hS : va_S A s.heap s.heap [] := va_S.rf
  have hfw : ∀ w ∈ u_ws RX0 TX0 9, w ∈ wsX0_meld := by decide +kernel
  refine lv_aload_n hx hb dX0_meld_0 rfl (lv_at hl 0 rfl) ?_
  refine lv_iload_n hx hb dX0_meld_1 rfl (lv_at hl 1 rfl) ?_
  refine lv_iload_n hx hb dX0_meld_2 rfl (lv_at hl 2 rfl) ?_
  refine xcall_i (ws := (xW G C u)) (wc := (xW G C u)) (wr := []) (w1 := (xW G C u)) (v := (p_refusalOfPair u a b)) [0, 1, 2, 3, 4, 5, 6, 7] [] (va_runV (As := [.int a, .int b]) (rest := []) ⟨hx, hb, hml, hown, hts⟩ (c_refusalOfPair l dC dI G C _ u a b hm) (cwV 2 hts gX0_meld_X0_refusalOfPair rfl rfl rfl (by decide +kernel) ⟨Nat.le_of_ble_eq_true rfl, Nat.le_of_ble_eq_true rfl⟩) (xpreV (q0 := 0) (ci := 0) (qc := (RX0, TX0, 9)) hK hP hD rfl rfl) rfl rfl hl.1 rfl (lv_room (Nat.le_of_ble_eq_true rfl)) dX0_meld_3 ⟨Nat.zero_le _, Nat.zero_le _⟩) hP hD hS hA rfl rfl (by decide) (by decide) (fun H locs hP hD hS => ?_)
  have hP : va_P (dC, dI) vwCl (xW G C u) H := hP
  have hD : va_D A (xW G C u) := hD
  refine lv_istore_n (lv' := [(3, .int (p_refusalOfPair u a b)), (0, .ref (G 0)), (1, .int a), (2, .int b)]) hx hb dX0_meld_6 rfl hl (by decide) rfl (fun ls hl => ?_)
  refine lv_iload_n hx hb dX0_meld_7 rfl (lv_at hl 0 rfl) ?_
  refine lv_if_eq (tgt := 13) hx hb dX0_meld_8 rfl (fun c8 => ?_) (fun c8 => ?_)
  · refine lv_aload_n hx hb dX0_meld_13 rfl (lv_at hl 1 rfl) ?_
    refine va_get (D := (dC, dI)) (ci := 0) (v := .ref (G 1)) (C := RX0) (T := TX0) (N := 9) hx hb hts hfw hown hK hP 0 rfl rfl 0 (by decide) (hts (.fieldLink RX0 9 "MeldingHeaps" "kinds" "[I") (by decide +kernel)) (fun _ h9 => h9) rfl dX0_meld_14 ?_
    refine lv_iload_n hx hb dX0_meld_17 rfl (lv_at hl 2 rfl) ?_
    refine va_iald (f := (xkd u)) hx hb hK hP 1 0 rfl rfl ((in_refP hm c8).1) dX0_meld_18 ?_
    refine lv_if_ne (tgt := 46) hx hb dX0_meld_19 rfl (fun c19 => ?_) (fun c19 => ?_)
    · refine lv_bipush (v := (-7)) hx hb dX0_meld_46 (by decide) ?_
      have e8 : q_meld u a b = u := by unfold q_meld; rw [if_pos c8, if_neg c19]
      have e9 : p_meld u a b = (-7) := by unfold p_meld; rw [if_pos c8, if_neg c19]
      exact W.eq (congrArg (fun z => F0 m 48 ls [.int z]) e9.symm) (kk _ _ _ _ dX0_meld_48 (by rw [e8]; exact hP) (by rw [e8]; exact hD) hS)
    · refine lv_aload_n hx hb dX0_meld_22 rfl (lv_at hl 1 rfl) ?_
      refine va_get (D := (dC, dI)) (ci := 0) (v := .ref (G 1)) (C := RX0) (T := TX0) (N := 9) hx hb hts hfw hown hK hP 0 rfl rfl 0 (by decide) (hts (.fieldLink RX0 9 "MeldingHeaps" "kinds" "[I") (by decide +kernel)) (fun _ h9 => h9) rfl dX0_meld_23 ?_
      refine lv_iload_n hx hb dX0_meld_26 rfl (lv_at hl 3 rfl) ?_
      refine va_iald (f := (xkd u)) hx hb hK hP 1 0 rfl rfl ((in_refP hm c8).2) dX0_meld_27 ?_
      refine lv_if_ne (tgt := 46) hx hb dX0_meld_28 rfl (fun c28 => ?_) (fun c28 => ?_)
      · refine lv_bipush (v := (-7)) hx hb dX0_meld_46 (by decide) ?_
        have e8 : q_meld u a b = u := by unfold q_meld; rw [if_pos c8, if_pos c19, if_neg c28]
        have e9 : p_meld u a b = (-7) := by unfold p_meld; rw [if_pos c8, if_pos c19, if_neg c28]
        exact W.eq (congrArg (fun z => F0 m 48 ls [.int z]) e9.symm) (kk _ _ _ _ dX0_meld_48 (by rw [e8]; exact hP) (by rw [e8]; exact hD) hS)
      · refine lv_aload_n hx hb dX0_meld_31 rfl (lv_at hl 1 rfl) ?_
        refine va_get (D := (dC, dI)) (ci := 0) (v := .ref (G 2)) (C := RX0) (T := TX0) (N := 9) hx hb hts hfw hown hK hP 0 rfl rfl 1 (by decide) (hts (.fieldLink RX0 13 "MeldingHeaps" "orders" "[I") (by decide +kernel)) (fun _ h9 => h9) rfl dX0_meld_32 ?_
        refine lv_iload_n hx hb dX0_meld_35 rfl (lv_at hl 2 rfl) ?_
        refine va_iald (f := (xod u)) hx hb hK hP 2 1 rfl rfl ((in_refP hm c8).1) dX0_meld_36 ?_
        refine lv_aload_n hx hb dX0_meld_37 rfl (lv_at hl 1 rfl) ?_
        refine va_get (D := (dC, dI)) (ci := 0) (v := .ref (G 2)) (C := RX0) (T := TX0) (N := 9) hx hb hts hfw hown hK hP 0 rfl rfl 1 (by decide) (hts (.fieldLink RX0 13 "MeldingHeaps" "orders" "[I") (by decide +kernel)) (fun _ h9 => h9) rfl dX0_meld_38 ?_
        refine lv_iload_n hx hb dX0_meld_41 rfl (lv_at hl 3 rfl) ?_
        refine va_iald (f := (xod u)) hx hb hK hP 2 1 rfl rfl ((in_refP hm c8).2) dX0_meld_42 ?_
        refine lv_icmp_eq (tgt := 49) hx hb dX0_meld_43 rfl (fun c43 => ?_) (fun c43 => ?_)
        · refine lv_aload_n hx hb dX0_meld_49 rfl (lv_at hl 1 rfl) ?_
          refine lv_iload_n hx hb dX0_meld_50 rfl (lv_at hl 3 rfl) ?_
          refine lv_iload_n hx hb dX0_meld_51 rfl (lv_at hl 2 rfl) ?_
          refine xcall_i (ws := (xW G C u)) (wc := (xW G C u)) (wr := []) (w1 := (xW G C (q_handOverAll u b a))) (v := (p_handOverAll u b a)) [0, 1, 2, 3, 4, 5, 6, 7] [] (va_runV (As := [.int b, .int a]) (rest := []) ⟨hx, hb, hml, hown, hts⟩ (c_handOverAll l dC dI G C _ u b a hn) (cwV 2 hts gX0_meld_X0_handOverAll rfl rfl rfl (by decide +kernel) ⟨Nat.le_of_ble_eq_true rfl, Nat.le_of_ble_eq_true rfl⟩) (xpreV (q0 := 0) (ci := 0) (qc := (RX0, TX0, 9)) hK hP hD rfl rfl) rfl rfl hl.1 rfl (lv_room (Nat.le_of_ble_eq_true rfl)) dX0_meld_52 ⟨Nat.zero_le _, Nat.zero_le _⟩) hP hD hS hA rfl rfl (by decide) (by decide) (fun H locs hP hD hS => ?_)
          have hP : va_P (dC, dI) vwCl (xW G C (q_handOverAll u b a)) H := hP
          have hD : va_D A (xW G C (q_handOverAll u b a)) := hD
          refine lv_pop hx hb dX0_meld_55 rfl ?_
          refine lv_aload_n hx hb dX0_meld_56 rfl (lv_at hl 1 rfl) ?_
          refine va_get (D := (dC, dI)) (ci := 0) (v := .ref (G 3)) (C := RX0) (T := TX0) (N := 9) hx hb hts hfw hown hK hP 0 rfl rfl 2 (by decide) (hts (.fieldLink RX0 16 "MeldingHeaps" "absorbed" "[Z") (by decide +kernel)) (fun _ h9 => h9) rfl dX0_meld_57 ?_
          refine lv_iload_n hx hb dX0_meld_60 rfl (lv_at hl 3 rfl) ?_
          refine lv_iconst (v := 1) hx hb dX0_meld_61 (by decide) ?_
          refine va_zast (f := (xab (q_handOverAll u b a))) hx hb hK hP hD hS 3 2 rfl rfl ((in_refP hm c8).2) dX0_meld_62 (fun H locs hP hD hS => ?_)
          have hP : va_P (dC, dI) vwCl (xW G C (sAb (q_handOverAll u b a) (upd (xab (q_handOverAll u b a)) (b).toNatClampNeg 1))) H := hP
          have hD : va_D A (xW G C (sAb (q_handOverAll u b a) (upd (xab (q_handOverAll u b a)) (b).toNatClampNeg 1))) := hD
          refine lv_aload_n hx hb dX0_meld_63 rfl (lv_at hl 1 rfl) ?_
          refine lv_iload_n hx hb dX0_meld_64 rfl (lv_at hl 2 rfl) ?_
          refine xcall_i (ws := (xW G C (sAb (q_handOverAll u b a) (upd (xab (q_handOverAll u b a)) (b).toNatClampNeg 1)))) (wc := (xW G C (sAb (q_handOverAll u b a) (upd (xab (q_handOverAll u b a)) (b).toNatClampNeg 1)))) (wr := []) (w1 := (xW G C (sAb (q_handOverAll u b a) (upd (xab (q_handOverAll u b a)) (b).toNatClampNeg 1)))) (v := (p_countEntries (sAb (q_handOverAll u b a) (upd (xab (q_handOverAll u b a)) (b).toNatClampNeg 1)) a)) [0, 1, 2, 3, 4, 5, 6, 7] [] (va_runV (As := [.int a]) (rest := []) ⟨hx, hb, hml, hown, hts⟩ (c_countEntries l dC dI G C _ (sAb (q_handOverAll u b a) (upd (xab (q_handOverAll u b a)) (b).toNatClampNeg 1)) a hn) (cwV 1 hts gX0_meld_X0_countEntries rfl rfl rfl (by decide +kernel) ⟨Nat.le_of_ble_eq_true rfl, Nat.le_of_ble_eq_true rfl⟩) (xpreV (q0 := 0) (ci := 0) (qc := (RX0, TX0, 9)) hK hP hD rfl rfl) rfl rfl hl.1 rfl (lv_room (Nat.le_of_ble_eq_true rfl)) dX0_meld_65 ⟨Nat.zero_le _, Nat.zero_le _⟩) hP hD hS hA rfl rfl (by decide) (by decide) (fun H locs hP hD hS => ?_)
          have hP : va_P (dC, dI) vwCl (xW G C (sAb (q_handOverAll u b a) (upd (xab (q_handOverAll u b a)) (b).toNatClampNeg 1))) H := hP
          have hD : va_D A (xW G C (sAb (q_handOverAll u b a) (upd (xab (q_handOverAll u b a)) (b).toNatClampNeg 1))) := hD
          have e8 : q_meld u a b = (sAb (q_handOverAll u b a) (upd (xab (q_handOverAll u b a)) (b).toNatClampNeg 1)) := by unfold q_meld; rw [if_pos c8, if_pos c19, if_pos c28, if_pos c43]
          have e9 : p_meld u a b = (p_countEntries (sAb (q_handOverAll u b a) (upd (xab (q_handOverAll u b a)) (b).toNatClampNeg 1)) a) := by unfold p_meld; rw [if_pos c8, if_pos c19, if_pos c28, if_pos c43]
          exact W.eq (congrArg (fun z => F0 m 68 ls [.int z]) e9.symm) (kk _ _ _ _ dX0_meld_68 (by rw [e8]; exact hP) (by rw [e8]; exact hD) hS)
        · refine lv_bipush (v := (-7)) hx hb dX0_meld_46 (by decide) ?_
          have e8 : q_meld u a b = u := by unfold q_meld; rw [if_pos c8, if_pos c19, if_pos c28, if_neg c43]
          have e9 : p_meld u a b = (-7) := by unfold p_meld; rw [if_pos c8, if_pos c19, if_pos c28, if_neg c43]
          exact W.eq (congrArg (fun z => F0 m 48 ls [.int z]) e9.symm) (kk _ _ _ _ dX0_meld_48 (by rw [e8]; exact hP) (by rw [e8]; exact hD) hS)
  · refine lv_iload_n hx hb dX0_meld_11 rfl (lv_at hl 0 rfl) ?_
    have e8 : q_meld u a b = u := by unfold q_meld; rw [if_neg c8]
    have e9 : p_meld u a b = (p_refusalOfPair u a b) := by unfold p_meld; rw [if_neg c8]
    exact W.eq (congrArg (fun z => F0 m 12 ls [.int z]) e9.symm) (kk _ _ _ _ dX0_meld_12 (by rw [e8]; exact hP) (by rw [e8]; exact hD) hS)
theorem c_meld (l : Launch) (dC : Nat → ClassId) (dI : Nat → Nat → Nat) (G : Nat → Nat) (C : Nat → ClassId) (sz : Nat) (u : xS) (a : Int32) (b : Int32) (hm : xm u ≤ 12) (hn : xn u ≤ 160) : xMi l yX0_meld wsX0_meld (xR 3 65) dC dI (xT C) [.ref (G 0), .int a, .int b] (xW G C u) (xW G C (q_meld u a b)) (p_meld u a b) sz :=
  xmet_i (by decide) rfl rfl (Nat.le_of_ble_eq_true rfl) rfl (fun p e s m args below meth c Q A ls B hK hA hP hD hl kk => b_meld hm hn B hK hA hP hD hl kk)
end
section
theorem xn_raise (u : xS) (h : Int32) (k : Int64) : xn (q_raiseFloor u h k) = xn u := by
  unfold q_raiseFloor
  split <;> rfl
theorem cl_le {x : Int32} {n : Nat} (h : x ≤ nI n) (hn : n < 2 ^ 31) : x.toNatClampNeg ≤ n := by
  rw [Int32.le_iff_toInt_le, nI_toInt hn] at h
  rw [← Int32.toNat_toInt]
  omega
theorem cl_lt {x : Int32} {n : Nat} (h : ¬ x ≤ nI n) (hn : n < 2 ^ 31) : n < x.toNatClampNeg := by
  rw [Int32.le_iff_toInt_le, nI_toInt hn] at h
  rw [← Int32.toNat_toInt]
  omega
theorem cl_b (x : Int32) : x.toNatClampNeg < 2 ^ 31 := by
  have h := Int32.toInt_lt x
  rw [← Int32.toNat_toInt]
  omega
theorem ff_in {u : xS} {h : Int32} (hn : xn u ≤ 160) (c : ¬ p_findFirst u h < 0) : vp_in (p_findFirst u h) 160 := by
  refine findFirst_vp hn (fun q => c ?_)
  show p_findFirstL u h (xn u) < 0
  rw [q]; decide
def q_drainL (a b : Int32) : Nat → xS → xS × Nat
  | 0, u => (u, 0)
  | d + 1, u =>
    if (p_findFirst u a) < 0 then (u, 0)
    else if (p_isBelowFloor u b (xky u (p_findFirst u a).toNatClampNeg)) = 0 then ((q_drainL a b d (sOw (q_raiseFloor u a ((xky u) ((p_findFirst u a)).toNatClampNeg)) (upd (xow (q_raiseFloor u a ((xky u) ((p_findFirst u a)).toNatClampNeg))) ((p_findFirst u a)).toNatClampNeg b))).1, (q_drainL a b d (sOw (q_raiseFloor u a ((xky u) ((p_findFirst u a)).toNatClampNeg)) (upd (xow (q_raiseFloor u a ((xky u) ((p_findFirst u a)).toNatClampNeg))) ((p_findFirst u a)).toNatClampNeg b))).2 + 1)
    else (u, 0)
set_option maxHeartbeats 4000000 in
set_option maxRecDepth 100000 in
theorem lp_drain {p : Program} {l : Launch} {e : Env} {s : State} {m : MethodId} {args : Array Value} {below : List Frame} {meth : Method} {c : Code} {Q : State → Prop} {A : Nat → Prop} {dC : Nat → ClassId} {dI : Nat → Nat → Nat} {G : Nat → Nat} {C : Nat → ClassId} {uT : xS} {rT : Nat} {a b g mo : Int32} (ha2 : vp_in a 12) (hb2 : vp_in b 12) (B : CallFix p m c cX0_drain 8 s args wsX0_drain RX0) (hK : va_K (dC, dI) vwCl (xT C) s) (hA : ∀ q : Nat, s.heap.size ≤ q → A q) (kk : ∀ (H : Heap) (locs : List Loc) (ls : Array Slot), va_P (dC, dI) vwCl (xW G C uT) H → va_D A (xW G C uT) → va_S A s.heap H locs → lv_has ls 8 [(6, .int (nI rT)), (0, .ref (G 0)), (1, .int a), (2, .int b), (3, .int g)] → W p l e (xR 3 72) s m args below meth c H locs 0 0 Q (F0 m 93 ls [])) :
    ∀ (d i : Nat) (u : xS) (H : Heap) (locs : List Loc) (ls : Array Slot), mo.toNatClampNeg - i = d → i ≤ mo.toNatClampNeg → xn u ≤ 160 → (q_drainL a b d u).1 = uT → i + (q_drainL a b d u).2 = rT → va_P (dC, dI) vwCl (xW G C u) H → va_D A (xW G C u) → va_S A s.heap H locs → lv_has ls 8 [(6, .int (nI i)), (5, .int mo), (0, .ref (G 0)), (1, .int a), (2, .int b), (3, .int g)] → W p l e (xR 3 72) s m args below meth c H locs 0 0 Q (F0 m 30 ls []) := by
  obtain ⟨hx, hb, hml, hown, hts⟩ := B
  have hfw : ∀ w ∈ u_ws RX0 TX0 9, w ∈ wsX0_drain := by decide +kernel
  have hmo := cl_b mo
  intro d
  induction d using Nat.strongRecOn with
  | ind d ih =>
    intro i u H locs ls hd hi0 hn hq hr hP hD hS hl
    refine lv_iload hx hb dX0_drain_30 (lv_at hl 0 rfl) ?_
    refine lv_iload hx hb dX0_drain_32 (lv_at hl 1 rfl) ?_
    refine lv_icmp_ge (tgt := 93) hx hb dX0_drain_34 rfl (fun c34 => ?_) (fun c34 => ?_)
    · have hz : d = 0 := by have := cl_le c34 (by omega); omega
      subst hz
      rw [q_drainL] at hq hr
      have hP : va_P (dC, dI) vwCl (xW G C uT) H := by rw [← hq]; exact hP
      have hD : va_D A (xW G C uT) := by rw [← hq]; exact hD
      have hl : lv_has ls 8 [(6, .int (nI rT)), (0, .ref (G 0)), (1, .int a), (2, .int b), (3, .int g)] := by rw [← hr]; exact lv_sub hl [0, 2, 3, 4, 5] rfl
      exact kk _ _ _ hP hD hS hl
    · have hi : i < mo.toNatClampNeg := cl_lt c34 (by omega)
      refine lv_aload_n hx hb dX0_drain_37 rfl (lv_at hl 2 rfl) ?_
      refine lv_iload_n hx hb dX0_drain_38 rfl (lv_at hl 3 rfl) ?_
      refine xcall_i (ws := (xW G C u)) (wc := (xW G C u)) (wr := []) (w1 := (xW G C u)) (v := (p_findFirst u a)) [0, 1, 2, 3, 4, 5, 6, 7] [] (va_runV (As := [.int a]) (rest := []) ⟨hx, hb, hml, hown, hts⟩ (c_findFirst l dC dI G C _ u a hn ha2) (cwV 1 hts gX0_drain_X0_findFirst rfl rfl rfl (by decide +kernel) ⟨Nat.le_of_ble_eq_true rfl, Nat.le_of_ble_eq_true rfl⟩) (xpreV (q0 := 0) (ci := 0) (qc := (RX0, TX0, 9)) hK hP hD rfl rfl) rfl rfl hl.1 rfl (lv_room (Nat.le_of_ble_eq_true rfl)) dX0_drain_39 ⟨Nat.zero_le _, Nat.zero_le _⟩) hP hD hS hA rfl rfl (by decide) (by decide) (fun H locs hP hD hS => ?_)
      have hP : va_P (dC, dI) vwCl (xW G C u) H := hP
      have hD : va_D A (xW G C u) := hD
      refine lv_istore (lv' := [(7, .int (p_findFirst u a)), (6, .int (nI i)), (5, .int mo), (0, .ref (G 0)), (1, .int a), (2, .int b), (3, .int g)]) hx hb dX0_drain_42 hl (by decide) rfl (fun ls hl => ?_)
      refine lv_iload hx hb dX0_drain_44 (lv_at hl 0 rfl) ?_
      refine lv_if_lt (tgt := 93) hx hb dX0_drain_46 rfl (fun c46 => ?_) (fun c46 => ?_)
      · obtain ⟨d, rfl⟩ : ∃ d2, d = d2 + 1 := ⟨d - 1, by omega⟩
        rw [q_drainL, if_pos c46] at hq hr
        have hP : va_P (dC, dI) vwCl (xW G C uT) H := by rw [← hq]; exact hP
        have hD : va_D A (xW G C uT) := by rw [← hq]; exact hD
        have hl : lv_has ls 8 [(6, .int (nI rT)), (0, .ref (G 0)), (1, .int a), (2, .int b), (3, .int g)] := by rw [← hr]; exact lv_sub hl [1, 3, 4, 5, 6] rfl
        exact kk _ _ _ hP hD hS hl
      · refine lv_aload_n hx hb dX0_drain_49 rfl (lv_at hl 3 rfl) ?_
        refine lv_iload_n hx hb dX0_drain_50 rfl (lv_at hl 5 rfl) ?_
        refine lv_aload_n hx hb dX0_drain_51 rfl (lv_at hl 3 rfl) ?_
        refine va_get (D := (dC, dI)) (ci := 0) (v := .ref (G 5)) (C := RX0) (T := TX0) (N := 9) hx hb hts hfw hown hK hP 0 rfl rfl 5 (by decide) (hts (.fieldLink RX0 28 "MeldingHeaps" "keys" "[J") (by decide +kernel)) (fun _ h9 => h9) rfl dX0_drain_52 ?_
        refine lv_iload hx hb dX0_drain_55 (lv_at hl 0 rfl) ?_
        refine va_lald (f := (xky u)) hx hb hK hP 5 4 rfl rfl (ff_in hn c46) dX0_drain_57 ?_
        refine xcall_i (ws := (xW G C u)) (wc := (xW G C u)) (wr := []) (w1 := (xW G C u)) (v := (p_isBelowFloor u b ((xky u) ((p_findFirst u a)).toNatClampNeg))) [0, 1, 2, 3, 4, 5, 6, 7] [] (va_runV (As := [.int b, .long ((xky u) ((p_findFirst u a)).toNatClampNeg)]) (rest := []) ⟨hx, hb, hml, hown, hts⟩ (c_isBelowFloor l dC dI G C _ u b ((xky u) ((p_findFirst u a)).toNatClampNeg) hb2) (cwV 2 hts gX0_drain_X0_isBelowFloor rfl rfl rfl (by decide +kernel) ⟨Nat.le_of_ble_eq_true rfl, Nat.le_of_ble_eq_true rfl⟩) (xpreV (q0 := 0) (ci := 0) (qc := (RX0, TX0, 9)) hK hP hD rfl rfl) rfl rfl hl.1 rfl (lv_room (Nat.le_of_ble_eq_true rfl)) dX0_drain_58 ⟨Nat.zero_le _, Nat.zero_le _⟩) hP hD hS hA rfl rfl (by decide) (by decide) (fun H locs hP hD hS => ?_)
        have hP : va_P (dC, dI) vwCl (xW G C u) H := hP
        have hD : va_D A (xW G C u) := hD
        refine lv_if_eq (tgt := 67) hx hb dX0_drain_61 rfl (fun c61 => ?_) (fun c61 => ?_)
        · refine lv_aload_n hx hb dX0_drain_67 rfl (lv_at hl 3 rfl) ?_
          refine lv_iload_n hx hb dX0_drain_68 rfl (lv_at hl 4 rfl) ?_
          refine lv_aload_n hx hb dX0_drain_69 rfl (lv_at hl 3 rfl) ?_
          refine va_get (D := (dC, dI)) (ci := 0) (v := .ref (G 5)) (C := RX0) (T := TX0) (N := 9) hx hb hts hfw hown hK hP 0 rfl rfl 5 (by decide) (hts (.fieldLink RX0 28 "MeldingHeaps" "keys" "[J") (by decide +kernel)) (fun _ h9 => h9) rfl dX0_drain_70 ?_
          refine lv_iload hx hb dX0_drain_73 (lv_at hl 0 rfl) ?_
          refine va_lald (f := (xky u)) hx hb hK hP 5 4 rfl rfl (ff_in hn c46) dX0_drain_75 ?_
          refine xcall_v (ws := (xW G C u)) (wc := (xW G C u)) (wr := []) (w1 := (xW G C (q_raiseFloor u a ((xky u) ((p_findFirst u a)).toNatClampNeg)))) [0, 1, 2, 3, 4, 5, 6, 7] [] (va_runV (As := [.int a, .long ((xky u) ((p_findFirst u a)).toNatClampNeg)]) (rest := []) ⟨hx, hb, hml, hown, hts⟩ (c_raiseFloor l dC dI G C _ u a ((xky u) ((p_findFirst u a)).toNatClampNeg) ha2) (cwV 2 hts gX0_drain_X0_raiseFloor rfl rfl rfl (by decide +kernel) ⟨Nat.le_of_ble_eq_true rfl, Nat.le_of_ble_eq_true rfl⟩) (xpreV (q0 := 0) (ci := 0) (qc := (RX0, TX0, 9)) hK hP hD rfl rfl) rfl rfl hl.1 rfl (lv_room (Nat.le_of_ble_eq_true rfl)) dX0_drain_76 ⟨Nat.zero_le _, Nat.zero_le _⟩) hP hD hS hA rfl rfl (by decide) (by decide) (fun H locs hP hD hS => ?_)
          have hP : va_P (dC, dI) vwCl (xW G C (q_raiseFloor u a ((xky u) ((p_findFirst u a)).toNatClampNeg))) H := hP
          have hD : va_D A (xW G C (q_raiseFloor u a ((xky u) ((p_findFirst u a)).toNatClampNeg))) := hD
          refine lv_aload_n hx hb dX0_drain_79 rfl (lv_at hl 3 rfl) ?_
          refine va_get (D := (dC, dI)) (ci := 0) (v := .ref (G 7)) (C := RX0) (T := TX0) (N := 9) hx hb hts hfw hown hK hP 0 rfl rfl 7 (by decide) (hts (.fieldLink RX0 34 "MeldingHeaps" "owners" "[I") (by decide +kernel)) (fun _ h9 => h9) rfl dX0_drain_80 ?_
          refine lv_iload hx hb dX0_drain_83 (lv_at hl 0 rfl) ?_
          refine lv_iload_n hx hb dX0_drain_85 rfl (lv_at hl 5 rfl) ?_
          refine va_iast (f := (xow (q_raiseFloor u a ((xky u) ((p_findFirst u a)).toNatClampNeg)))) hx hb hK hP hD hS 7 6 rfl rfl (ff_in hn c46) dX0_drain_86 (fun H locs hP hD hS => ?_)
          have hP : va_P (dC, dI) vwCl (xW G C (sOw (q_raiseFloor u a ((xky u) ((p_findFirst u a)).toNatClampNeg)) (upd (xow (q_raiseFloor u a ((xky u) ((p_findFirst u a)).toNatClampNeg))) ((p_findFirst u a)).toNatClampNeg b))) H := hP
          have hD : va_D A (xW G C (sOw (q_raiseFloor u a ((xky u) ((p_findFirst u a)).toNatClampNeg)) (upd (xow (q_raiseFloor u a ((xky u) ((p_findFirst u a)).toNatClampNeg))) ((p_findFirst u a)).toNatClampNeg b))) := hD
          refine lv_iinc (k := 1) (v := (nI (i + 1))) (lv' := [(6, .int (nI (i + 1))), (7, .int (p_findFirst u a)), (5, .int mo), (0, .ref (G 0)), (1, .int a), (2, .int b), (3, .int g)]) hx hb dX0_drain_87 hl rfl (xinc _) (by decide) rfl (fun ls hl => ?_)
          refine lv_goto (tgt := 30) hx hb dX0_drain_90 rfl ?_
          obtain ⟨d, rfl⟩ : ∃ d2, d = d2 + 1 := ⟨d - 1, by omega⟩
          rw [q_drainL, if_neg c46, if_pos c61] at hq hr
          have hr2 : i + ((q_drainL a b d (sOw (q_raiseFloor u a ((xky u) ((p_findFirst u a)).toNatClampNeg)) (upd (xow (q_raiseFloor u a ((xky u) ((p_findFirst u a)).toNatClampNeg))) ((p_findFirst u a)).toNatClampNeg b))).2 + 1) = rT := hr
          exact ih d (by omega) (i + 1) (sOw (q_raiseFloor u a ((xky u) ((p_findFirst u a)).toNatClampNeg)) (upd (xow (q_raiseFloor u a ((xky u) ((p_findFirst u a)).toNatClampNeg))) ((p_findFirst u a)).toNatClampNeg b)) H locs ls (by omega) (by omega) (by show xn (q_raiseFloor _ _ _) ≤ 160; rw [xn_raise]; exact hn) hq (by omega) hP hD hS (lv_sub hl [0, 2, 3, 4, 5, 6] rfl)
        · refine lv_goto (tgt := 93) hx hb dX0_drain_64 rfl ?_
          obtain ⟨d, rfl⟩ : ∃ d2, d = d2 + 1 := ⟨d - 1, by omega⟩
          rw [q_drainL, if_neg c46, if_neg c61] at hq hr
          have hP : va_P (dC, dI) vwCl (xW G C uT) H := by rw [← hq]; exact hP
          have hD : va_D A (xW G C uT) := by rw [← hq]; exact hD
          have hl : lv_has ls 8 [(6, .int (nI rT)), (0, .ref (G 0)), (1, .int a), (2, .int b), (3, .int g)] := by rw [← hr]; exact lv_sub hl [1, 3, 4, 5, 6] rfl
          exact kk _ _ _ hP hD hS hl
def p_most (u : xS) (a g : Int32) : Nat := (if (p_countEntries u a) < g then (p_countEntries u a) else g).toNatClampNeg
def p_drain (u : xS) (a b g : Int32) : Int32 := if (p_refusalOfPair u a b) = 0 then nI (q_drainL a b (p_most u a g) u).2 else (p_refusalOfPair u a b)
def q_drain (u : xS) (a b g : Int32) : xS := if (p_refusalOfPair u a b) = 0 then (q_drainL a b (p_most u a g) u).1 else u
set_option maxHeartbeats 4000000 in
set_option maxRecDepth 100000 in
theorem b_drain {p : Program} {l : Launch} {e : Env} {s : State} {m : MethodId} {args : Array Value} {below : List Frame} {meth : Method} {c : Code} {Q : State → Prop} {A : Nat → Prop} {ls : Array Slot} {dC : Nat → ClassId} {dI : Nat → Nat → Nat} {G : Nat → Nat} {C : Nat → ClassId} {u : xS} {a : Int32} {b : Int32} {g : Int32} (hm : xm u ≤ 12) (hn : xn u ≤ 160) (B : CallFix p m c cX0_drain 8 s args wsX0_drain RX0) (hK : va_K (dC, dI) vwCl (xT C) s) (hA : ∀ q : Nat, s.heap.size ≤ q → A q) (hP : va_P (dC, dI) vwCl (xW G C u) s.heap) (hD : va_D A (xW G C u)) (hl : lv_has ls 8 [(0, .ref (G 0)), (1, .int a), (2, .int b), (3, .int g)]) (kk : (∀ (H : Heap) (locs : List Loc) (pc : Nat) (ls : Array Slot), decode cX0_drain pc = .ok (.ireturn, 1) → va_P (dC, dI) vwCl (xW G C (q_drain u a b g)) H → va_D A (xW G C (q_drain u a b g)) → va_S A s.heap H locs → W p l e (xR 3 72) s m args below meth c H locs 0 0 Q (F0 m pc ls [.int (p_drain u a b g)]))) : W p l e (xR 3 72) s m args below meth c s.heap [] 0 0 Q (F0 m 0 ls []) := by
  obtain ⟨hx, hb, hml, hown, hts⟩ := B
  have hS : va_S A s.heap s.heap [] := va_S.rf
  refine lv_aload_n hx hb dX0_drain_0 rfl (lv_at hl 0 rfl) ?_
  refine lv_iload_n hx hb dX0_drain_1 rfl (lv_at hl 1 rfl) ?_
  refine lv_iload_n hx hb dX0_drain_2 rfl (lv_at hl 2 rfl) ?_
  refine xcall_i (ws := (xW G C u)) (wc := (xW G C u)) (wr := []) (w1 := (xW G C u)) (v := (p_refusalOfPair u a b)) [0, 1, 2, 3, 4, 5, 6, 7] [] (va_runV (As := [.int a, .int b]) (rest := []) ⟨hx, hb, hml, hown, hts⟩ (c_refusalOfPair l dC dI G C _ u a b hm) (cwV 2 hts gX0_drain_X0_refusalOfPair rfl rfl rfl (by decide +kernel) ⟨Nat.le_of_ble_eq_true rfl, Nat.le_of_ble_eq_true rfl⟩) (xpreV (q0 := 0) (ci := 0) (qc := (RX0, TX0, 9)) hK hP hD rfl rfl) rfl rfl hl.1 rfl (lv_room (Nat.le_of_ble_eq_true rfl)) dX0_drain_3 ⟨Nat.zero_le _, Nat.zero_le _⟩) hP hD hS hA rfl rfl (by decide) (by decide) (fun H locs hP hD hS => ?_)
  have hP : va_P (dC, dI) vwCl (xW G C u) H := hP
  have hD : va_D A (xW G C u) := hD
  refine lv_istore (lv' := [(4, .int (p_refusalOfPair u a b)), (0, .ref (G 0)), (1, .int a), (2, .int b), (3, .int g)]) hx hb dX0_drain_6 hl (by decide) rfl (fun ls hl => ?_)
  refine lv_iload hx hb dX0_drain_8 (lv_at hl 0 rfl) ?_
  refine lv_if_eq (tgt := 16) hx hb dX0_drain_10 rfl (fun c10 => ?_) (fun c10 => ?_)
  · refine lv_iload_n hx hb dX0_drain_16 rfl (lv_at hl 4 rfl) ?_
    refine lv_aload_n hx hb dX0_drain_17 rfl (lv_at hl 1 rfl) ?_
    refine lv_iload_n hx hb dX0_drain_18 rfl (lv_at hl 2 rfl) ?_
    refine xcall_i (ws := (xW G C u)) (wc := (xW G C u)) (wr := []) (w1 := (xW G C u)) (v := (p_countEntries u a)) [0, 1, 2, 3, 4, 5, 6, 7] [] (va_runV (As := [.int a]) (rest := [.int g]) ⟨hx, hb, hml, hown, hts⟩ (c_countEntries l dC dI G C _ u a hn) (cwV 1 hts gX0_drain_X0_countEntries rfl rfl rfl (by decide +kernel) ⟨Nat.le_of_ble_eq_true rfl, Nat.le_of_ble_eq_true rfl⟩) (xpreV (q0 := 0) (ci := 0) (qc := (RX0, TX0, 9)) hK hP hD rfl rfl) rfl rfl hl.1 rfl (lv_room (Nat.le_of_ble_eq_true rfl)) dX0_drain_19 ⟨Nat.zero_le _, Nat.zero_le _⟩) hP hD hS hA rfl rfl (by decide) (by decide) (fun H locs hP hD hS => ?_)
    have hP : va_P (dC, dI) vwCl (xW G C u) H := hP
    have hD : va_D A (xW G C u) := hD
    refine va_mmin hx hb (by rw [hml]; exact hl.1.symm) hown (hts (.methodLink RX0 89 Lib.Math.min.name) (by decide +kernel)) (hts (.static Lib.Math.min.name) (by decide +kernel)) (hts (.initialized "java/lang/Math") (by decide +kernel)) (hts _ (List.mem_of_getElem? (i := 4) rfl)) (Nat.le_of_ble_eq_true rfl) (Nat.le_of_ble_eq_true rfl) (Nat.zero_le _) (Nat.zero_le _) dX0_drain_22 ?_
    refine lv_istore (lv' := [(5, .int (if (p_countEntries u a) < g then (p_countEntries u a) else g)), (4, .int (p_refusalOfPair u a b)), (0, .ref (G 0)), (1, .int a), (2, .int b), (3, .int g)]) hx hb dX0_drain_25 hl (by decide) rfl (fun ls hl => ?_)
    refine lv_iconst (v := 0) hx hb dX0_drain_27 (by decide) ?_
    refine lv_istore (lv' := [(6, .int 0), (5, .int (if (p_countEntries u a) < g then (p_countEntries u a) else g)), (4, .int (p_refusalOfPair u a b)), (0, .ref (G 0)), (1, .int a), (2, .int b), (3, .int g)]) hx hb dX0_drain_28 hl (by decide) rfl (fun ls hl => ?_)
    refine lp_drain (mo := (if (p_countEntries u a) < g then (p_countEntries u a) else g)) (g := g) (uT := q_drain u a b g) (rT := (q_drainL a b (p_most u a g) u).2) (in_refP hm c10).1 (in_refP hm c10).2 ⟨hx, hb, hml, hown, hts⟩ hK hA (fun H locs ls hP hD hS hl => ?_) _ 0 u _ _ _ rfl (Nat.zero_le _) hn (by unfold q_drain; rw [if_pos c10]; rfl) (Nat.zero_add _) hP hD hS (lv_sub hl [0, 1, 3, 4, 5, 6] rfl)
    refine lv_iload hx hb dX0_drain_93 (lv_at hl 0 rfl) ?_
    have e9 : p_drain u a b g = nI (q_drainL a b (p_most u a g) u).2 := by unfold p_drain; rw [if_pos c10]
    exact W.eq (congrArg (fun z => F0 m 95 ls [.int z]) e9.symm) (kk _ _ _ _ dX0_drain_95 hP hD hS)
  · refine lv_iload hx hb dX0_drain_13 (lv_at hl 0 rfl) ?_
    have e8 : q_drain u a b g = u := by unfold q_drain; rw [if_neg c10]
    have e9 : p_drain u a b g = (p_refusalOfPair u a b) := by unfold p_drain; rw [if_neg c10]
    exact W.eq (congrArg (fun z => F0 m 15 ls [.int z]) e9.symm) (kk _ _ _ _ dX0_drain_15 (by rw [e8]; exact hP) (by rw [e8]; exact hD) hS)
theorem c_drain (l : Launch) (dC : Nat → ClassId) (dI : Nat → Nat → Nat) (G : Nat → Nat) (C : Nat → ClassId) (sz : Nat) (u : xS) (a : Int32) (b : Int32) (g : Int32) (hm : xm u ≤ 12) (hn : xn u ≤ 160) : xMi l yX0_drain wsX0_drain (xR 3 72) dC dI (xT C) [.ref (G 0), .int a, .int b, .int g] (xW G C u) (xW G C (q_drain u a b g)) (p_drain u a b g) sz :=
  xmet_i (by decide) rfl rfl (Nat.le_of_ble_eq_true rfl) rfl (fun p e s m args below meth c Q A ls B hK hA hP hD hl kk => b_drain hm hn B hK hA hP hD hl kk)
end
section
theorem xz_i (N : Nat) (cA : ClassId) : vp_cell cA (N, .inl (fun _ => 0)) = arrV cA N (fun _ => defaultValue .int) := rfl
theorem xz_z (N : Nat) (cA : ClassId) : vp_cell cA (N, .inl (fun _ => 0)) = arrV cA N (fun _ => defaultValue .boolean) := rfl
theorem xz_l (N : Nat) (cA : ClassId) : vp_cell cA (N, .inr (.inl (fun _ => 0))) = arrV cA N (fun _ => defaultValue .long) := rfl
def xu0 : xS := (0, 0, fun _ => 0, fun _ => 0, fun _ => 0, fun _ => 0, fun _ => 0, fun _ => 0, fun _ => 0)
def xGf (h0 q1 q2 q3 q4 q5 q6 q7 : Nat) : Nat → Nat := fun k => match k with
  | 0 => h0
  | 1 => q1
  | 2 => q2
  | 3 => q3
  | 4 => q4
  | 5 => q5
  | 6 => q6
  | _ => q7
def xCf (k1 k2 k3 k4 k5 k6 k7 : ClassId) : Nat → ClassId := fun k => match k with
  | 0 => k1
  | 1 => k1
  | 2 => k2
  | 3 => k3
  | 4 => k4
  | 5 => k5
  | 6 => k6
  | _ => k7
set_option maxHeartbeats 4000000 in
set_option maxRecDepth 100000 in
theorem c_xinit (l : Launch) (dC : Nat → ClassId) (dI : Nat → Nat → Nat) (h0 : Nat) (sz : Nat) : Met l yX0_init wsX0_init ({ frames := 1, cells := 7, slots := 528, locals := 12 }) (va_Pc [.ref h0] (fun U => U.heap.size = sz ∧ va_P (dC, dI) vwCl [(h0, .inr (0, [.null, .null, .null, .null, .int 0, .null, .null, .null, .int 0]))] U.heap ∧ va_K (dC, dI) vwCl [] U ∧ va_D (fun _ => True) [(h0, .inr (0, [.null, .null, .null, .null, .int 0, .null, .null, .null, .int 0]))])) (va_Qv (fun u : (Nat → Nat) × (Nat → ClassId) => u.1 0 = h0) (fun u t => va_P (dC, dI) vwCl (xW u.1 u.2 xu0) t.heap ∧ va_K (dC, dI) vwCl (xT u.2) t ∧ va_D (va_A [(h0, .inr (0, [.null, .null, .null, .null, .int 0, .null, .null, .null, .int 0]))] sz) (xW u.1 u.2 xu0)) (va_A [(h0, .inr (0, [.null, .null, .null, .null, .int 0, .null, .null, .null, .int 0]))] sz)) 7 528 (va_A [(h0, .inr (0, [.null, .null, .null, .null, .int 0, .null, .null, .null, .int 0]))] sz) := by
  refine Met.ofW (cc := cX0_init) (maxL := 1) (ret := none) (by decide) rfl ?_
  intro p e s m args below meth c s₁ B hml hv
  obtain ⟨rfl, hsz, hP, hK, hD0⟩ := hv
  have hx := B.exec
  have hb := B.bytes
  have hr := B.returns
  have hts := atoms_spec (ws := wsX0_init) B.pre
  have hown : s.vm.findClass RX0 = some m.cls := findClass_of_methodNamed B.named
  have hlocks := B.notSynchronized
  have hin : meth.name = "<init>" := (name_of_methodNamed B.named B.method).1
  subst hsz
  have hD := hD0.self (sz := s.heap.size)
  generalize hAe : va_A [(h0, .inr (0, [.null, .null, .null, .null, .int 0, .null, .null, .null, .int 0]))] s.heap.size = A at hD ⊢
  have hA : ∀ q : Nat, s.heap.size ≤ q → A q := fun q h => by rw [← hAe]; exact Or.inr h
  have hS : va_S A s.heap s.heap [] := va_S.rf
  have hP : va_P (dC, dI) vwCl [(h0, .inr (0, [.null, .null, .null, .null, .int 0, .null, .null, .null, .int 0]))] s.heap := hP
  have hl := lv_entry ([.ref h0]) (n := 1) (Nat.le_of_ble_eq_true rfl)
  rw [lg_entry_eq]
  generalize (lg_sl ([.ref h0]) ++ List.replicate (1 - (lg_sl ([.ref h0])).length) Slot.unset).toArray = ls at hl ⊢
  have hl : lv_has ls 1 [(0, .ref h0)] := hl
  refine lv_aload_n hx hb dX0_init_0 rfl (lv_at hl 0 rfl) ?_
  refine W.objInit hx hb hown (hts (.methodLink RX0 3 objectInit) (by decide +kernel)) (hts (.instanceMethod objectInit) (by decide +kernel)) (hts _ (List.mem_of_getElem? (i := 3) rfl)) rfl (by rw [hml]; exact hl.1) rfl dX0_init_1 (Nat.le_of_ble_eq_true rfl) (Nat.le_of_ble_eq_true rfl) ?_
  refine W.eq (g2 := F0 m 4 ls []) rfl ?_
  refine lv_aload_n hx hb dX0_init_4 rfl (lv_at hl 0 rfl) ?_
  refine lv_bipush (v := 12) hx hb dX0_init_5 (by decide) ?_
  refine va_newa (atype := .int) (ty := .int) (n := 12) (N' := 12) (a0 := (12, .inl (fun _ => 0))) hx hb (hts (.arrayClass .int) (by decide +kernel)) rfl hK hP hD hS hA (xz_i 12) (by decide) (by decide) (by decide) (Nat.le_of_ble_eq_true rfl) (Nat.le_of_ble_eq_true rfl) dX0_init_7 (fun q1 k1 H hK hP hD hS => ?_)
  have hP : va_P (dC, dI) vwCl [(h0, .inr (0, [.null, .null, .null, .null, .int 0, .null, .null, .null, .int 0])), (q1, .inl (k1, 12, .inl (fun _ => 0)))] H := hP
  have hD : va_D A [(h0, .inr (0, [.null, .null, .null, .null, .int 0, .null, .null, .null, .int 0])), (q1, .inl (k1, 12, .inl (fun _ => 0)))] := hD
  have hK : va_K (dC, dI) vwCl [(k1, .int)] s := hK
  refine W.widen (k := 1) (n := 12) (by omega) (by omega) ?_
  refine va_putF (D := (dC, dI)) (ci := 0) (v := .ref q1) (ty := .array .int) (C := RX0) (T := TX0) (N := 9) hx hb hts (by decide +kernel) tyX0 tyX0_ok nmX0 hown hK hP hD hS 0 rfl rfl 0 (by decide) (hts (.fieldLink RX0 9 "MeldingHeaps" "kinds" "[I") (by decide +kernel)) (fun _ h9 => h9) rfl hin rfl (by decide +kernel) rfl rfl (Nat.le_of_ble_eq_true rfl) dX0_init_9 (fun H locs hP hD hS => ?_)
  have hP : va_P (dC, dI) vwCl [(h0, .inr (0, [.ref q1, .null, .null, .null, .int 0, .null, .null, .null, .int 0])), (q1, .inl (k1, 12, .inl (fun _ => 0)))] H := hP
  have hD : va_D A [(h0, .inr (0, [.ref q1, .null, .null, .null, .int 0, .null, .null, .null, .int 0])), (q1, .inl (k1, 12, .inl (fun _ => 0)))] := hD
  refine lv_aload_n hx hb dX0_init_12 rfl (lv_at hl 0 rfl) ?_
  refine lv_bipush (v := 12) hx hb dX0_init_13 (by decide) ?_
  refine va_newa (atype := .int) (ty := .int) (n := 12) (N' := 12) (a0 := (12, .inl (fun _ => 0))) hx hb (hts (.arrayClass .int) (by decide +kernel)) rfl hK hP hD hS hA (xz_i 12) (by decide) (by decide) (by decide) (Nat.le_of_ble_eq_true rfl) (Nat.le_of_ble_eq_true rfl) dX0_init_15 (fun q2 k2 H hK hP hD hS => ?_)
  have hP : va_P (dC, dI) vwCl [(h0, .inr (0, [.ref q1, .null, .null, .null, .int 0, .null, .null, .null, .int 0])), (q1, .inl (k1, 12, .inl (fun _ => 0))), (q2, .inl (k2, 12, .inl (fun _ => 0)))] H := hP
  have hD : va_D A [(h0, .inr (0, [.ref q1, .null, .null, .null, .int 0, .null, .null, .null, .int 0])), (q1, .inl (k1, 12, .inl (fun _ => 0))), (q2, .inl (k2, 12, .inl (fun _ => 0)))] := hD
  have hK : va_K (dC, dI) vwCl [(k1, .int), (k2, .int)] s := hK
  refine W.widen (k := 2) (n := 24) (by omega) (by omega) ?_
  refine va_putF (D := (dC, dI)) (ci := 0) (v := .ref q2) (ty := .array .int) (C := RX0) (T := TX0) (N := 9) hx hb hts (by decide +kernel) tyX0 tyX0_ok nmX0 hown hK hP hD hS 0 rfl rfl 1 (by decide) (hts (.fieldLink RX0 13 "MeldingHeaps" "orders" "[I") (by decide +kernel)) (fun _ h9 => h9) rfl hin rfl (by decide +kernel) rfl rfl (Nat.le_of_ble_eq_true rfl) dX0_init_17 (fun H locs hP hD hS => ?_)
  have hP : va_P (dC, dI) vwCl [(h0, .inr (0, [.ref q1, .ref q2, .null, .null, .int 0, .null, .null, .null, .int 0])), (q1, .inl (k1, 12, .inl (fun _ => 0))), (q2, .inl (k2, 12, .inl (fun _ => 0)))] H := hP
  have hD : va_D A [(h0, .inr (0, [.ref q1, .ref q2, .null, .null, .int 0, .null, .null, .null, .int 0])), (q1, .inl (k1, 12, .inl (fun _ => 0))), (q2, .inl (k2, 12, .inl (fun _ => 0)))] := hD
  refine lv_aload_n hx hb dX0_init_20 rfl (lv_at hl 0 rfl) ?_
  refine lv_bipush (v := 12) hx hb dX0_init_21 (by decide) ?_
  refine va_newa (atype := .boolean) (ty := .boolean) (n := 12) (N' := 12) (a0 := (12, .inl (fun _ => 0))) hx hb (hts (.arrayClass .boolean) (by decide +kernel)) rfl hK hP hD hS hA (xz_z 12) (by decide) (by decide) (by decide) (Nat.le_of_ble_eq_true rfl) (Nat.le_of_ble_eq_true rfl) dX0_init_23 (fun q3 k3 H hK hP hD hS => ?_)
  have hP : va_P (dC, dI) vwCl [(h0, .inr (0, [.ref q1, .ref q2, .null, .null, .int 0, .null, .null, .null, .int 0])), (q1, .inl (k1, 12, .inl (fun _ => 0))), (q2, .inl (k2, 12, .inl (fun _ => 0))), (q3, .inl (k3, 12, .inl (fun _ => 0)))] H := hP
  have hD : va_D A [(h0, .inr (0, [.ref q1, .ref q2, .null, .null, .int 0, .null, .null, .null, .int 0])), (q1, .inl (k1, 12, .inl (fun _ => 0))), (q2, .inl (k2, 12, .inl (fun _ => 0))), (q3, .inl (k3, 12, .inl (fun _ => 0)))] := hD
  have hK : va_K (dC, dI) vwCl [(k1, .int), (k2, .int), (k3, .boolean)] s := hK
  refine W.widen (k := 3) (n := 36) (by omega) (by omega) ?_
  refine va_putF (D := (dC, dI)) (ci := 0) (v := .ref q3) (ty := .array .boolean) (C := RX0) (T := TX0) (N := 9) hx hb hts (by decide +kernel) tyX0 tyX0_ok nmX0 hown hK hP hD hS 0 rfl rfl 2 (by decide) (hts (.fieldLink RX0 16 "MeldingHeaps" "absorbed" "[Z") (by decide +kernel)) (fun _ h9 => h9) rfl hin rfl (by decide +kernel) rfl rfl (Nat.le_of_ble_eq_true rfl) dX0_init_25 (fun H locs hP hD hS => ?_)
  have hP : va_P (dC, dI) vwCl [(h0, .inr (0, [.ref q1, .ref q2, .ref q3, .null, .int 0, .null, .null, .null, .int 0])), (q1, .inl (k1, 12, .inl (fun _ => 0))), (q2, .inl (k2, 12, .inl (fun _ => 0))), (q3, .inl (k3, 12, .inl (fun _ => 0)))] H := hP
  have hD : va_D A [(h0, .inr (0, [.ref q1, .ref q2, .ref q3, .null, .int 0, .null, .null, .null, .int 0])), (q1, .inl (k1, 12, .inl (fun _ => 0))), (q2, .inl (k2, 12, .inl (fun _ => 0))), (q3, .inl (k3, 12, .inl (fun _ => 0)))] := hD
  refine lv_aload_n hx hb dX0_init_28 rfl (lv_at hl 0 rfl) ?_
  refine lv_bipush (v := 12) hx hb dX0_init_29 (by decide) ?_
  refine va_newa (atype := .long) (ty := .long) (n := 12) (N' := 12) (a0 := (12, .inr (.inl (fun _ => 0)))) hx hb (hts (.arrayClass .long) (by decide +kernel)) rfl hK hP hD hS hA (xz_l 12) (by decide) (by decide) (by decide) (Nat.le_of_ble_eq_true rfl) (Nat.le_of_ble_eq_true rfl) dX0_init_31 (fun q4 k4 H hK hP hD hS => ?_)
  have hP : va_P (dC, dI) vwCl [(h0, .inr (0, [.ref q1, .ref q2, .ref q3, .null, .int 0, .null, .null, .null, .int 0])), (q1, .inl (k1, 12, .inl (fun _ => 0))), (q2, .inl (k2, 12, .inl (fun _ => 0))), (q3, .inl (k3, 12, .inl (fun _ => 0))), (q4, .inl (k4, 12, .inr (.inl (fun _ => 0))))] H := hP
  have hD : va_D A [(h0, .inr (0, [.ref q1, .ref q2, .ref q3, .null, .int 0, .null, .null, .null, .int 0])), (q1, .inl (k1, 12, .inl (fun _ => 0))), (q2, .inl (k2, 12, .inl (fun _ => 0))), (q3, .inl (k3, 12, .inl (fun _ => 0))), (q4, .inl (k4, 12, .inr (.inl (fun _ => 0))))] := hD
  have hK : va_K (dC, dI) vwCl [(k1, .int), (k2, .int), (k3, .boolean), (k4, .long)] s := hK
  refine W.widen (k := 4) (n := 48) (by omega) (by omega) ?_
  refine va_putF (D := (dC, dI)) (ci := 0) (v := .ref q4) (ty := .array .long) (C := RX0) (T := TX0) (N := 9) hx hb hts (by decide +kernel) tyX0 tyX0_ok nmX0 hown hK hP hD hS 0 rfl rfl 3 (by decide) (hts (.fieldLink RX0 20 "MeldingHeaps" "floors" "[J") (by decide +kernel)) (fun _ h9 => h9) rfl hin rfl (by decide +kernel) rfl rfl (Nat.le_of_ble_eq_true rfl) dX0_init_33 (fun H locs hP hD hS => ?_)
  have hP : va_P (dC, dI) vwCl [(h0, .inr (0, [.ref q1, .ref q2, .ref q3, .ref q4, .int 0, .null, .null, .null, .int 0])), (q1, .inl (k1, 12, .inl (fun _ => 0))), (q2, .inl (k2, 12, .inl (fun _ => 0))), (q3, .inl (k3, 12, .inl (fun _ => 0))), (q4, .inl (k4, 12, .inr (.inl (fun _ => 0))))] H := hP
  have hD : va_D A [(h0, .inr (0, [.ref q1, .ref q2, .ref q3, .ref q4, .int 0, .null, .null, .null, .int 0])), (q1, .inl (k1, 12, .inl (fun _ => 0))), (q2, .inl (k2, 12, .inl (fun _ => 0))), (q3, .inl (k3, 12, .inl (fun _ => 0))), (q4, .inl (k4, 12, .inr (.inl (fun _ => 0))))] := hD
  refine lv_aload_n hx hb dX0_init_36 rfl (lv_at hl 0 rfl) ?_
  refine lv_iconst (v := 0) hx hb dX0_init_37 (by decide) ?_
  refine va_put (D := (dC, dI)) (ci := 0) (v := .int 0) (ty := .int) (C := RX0) (T := TX0) (N := 9) hx hb hts (by decide +kernel) tyX0 tyX0_ok nmX0 hown hK hP hD hS 0 rfl rfl 4 (by decide) (hts (.fieldLink RX0 24 "MeldingHeaps" "heapCount" "I") (by decide +kernel)) (fun _ h9 => h9) rfl (by decide +kernel) rfl rfl (Nat.le_of_ble_eq_true rfl) dX0_init_38 (fun H locs hP hD hS => ?_)
  have hP : va_P (dC, dI) vwCl [(h0, .inr (0, [.ref q1, .ref q2, .ref q3, .ref q4, .int 0, .null, .null, .null, .int 0])), (q1, .inl (k1, 12, .inl (fun _ => 0))), (q2, .inl (k2, 12, .inl (fun _ => 0))), (q3, .inl (k3, 12, .inl (fun _ => 0))), (q4, .inl (k4, 12, .inr (.inl (fun _ => 0))))] H := hP
  have hD : va_D A [(h0, .inr (0, [.ref q1, .ref q2, .ref q3, .ref q4, .int 0, .null, .null, .null, .int 0])), (q1, .inl (k1, 12, .inl (fun _ => 0))), (q2, .inl (k2, 12, .inl (fun _ => 0))), (q3, .inl (k3, 12, .inl (fun _ => 0))), (q4, .inl (k4, 12, .inr (.inl (fun _ => 0))))] := hD
  refine lv_aload_n hx hb dX0_init_41 rfl (lv_at hl 0 rfl) ?_
  refine lv_sipush (v := 160) hx hb dX0_init_42 (by decide) ?_
  refine va_newa (atype := .long) (ty := .long) (n := 160) (N' := 160) (a0 := (160, .inr (.inl (fun _ => 0)))) hx hb (hts (.arrayClass .long) (by decide +kernel)) rfl hK hP hD hS hA (xz_l 160) (by decide) (by decide) (by decide) (Nat.le_of_ble_eq_true rfl) (Nat.le_of_ble_eq_true rfl) dX0_init_45 (fun q5 k5 H hK hP hD hS => ?_)
  have hP : va_P (dC, dI) vwCl [(h0, .inr (0, [.ref q1, .ref q2, .ref q3, .ref q4, .int 0, .null, .null, .null, .int 0])), (q1, .inl (k1, 12, .inl (fun _ => 0))), (q2, .inl (k2, 12, .inl (fun _ => 0))), (q3, .inl (k3, 12, .inl (fun _ => 0))), (q4, .inl (k4, 12, .inr (.inl (fun _ => 0)))), (q5, .inl (k5, 160, .inr (.inl (fun _ => 0))))] H := hP
  have hD : va_D A [(h0, .inr (0, [.ref q1, .ref q2, .ref q3, .ref q4, .int 0, .null, .null, .null, .int 0])), (q1, .inl (k1, 12, .inl (fun _ => 0))), (q2, .inl (k2, 12, .inl (fun _ => 0))), (q3, .inl (k3, 12, .inl (fun _ => 0))), (q4, .inl (k4, 12, .inr (.inl (fun _ => 0)))), (q5, .inl (k5, 160, .inr (.inl (fun _ => 0))))] := hD
  have hK : va_K (dC, dI) vwCl [(k1, .int), (k2, .int), (k3, .boolean), (k4, .long), (k5, .long)] s := hK
  refine W.widen (k := 5) (n := 208) (by omega) (by omega) ?_
  refine va_putF (D := (dC, dI)) (ci := 0) (v := .ref q5) (ty := .array .long) (C := RX0) (T := TX0) (N := 9) hx hb hts (by decide +kernel) tyX0 tyX0_ok nmX0 hown hK hP hD hS 0 rfl rfl 5 (by decide) (hts (.fieldLink RX0 28 "MeldingHeaps" "keys" "[J") (by decide +kernel)) (fun _ h9 => h9) rfl hin rfl (by decide +kernel) rfl rfl (Nat.le_of_ble_eq_true rfl) dX0_init_47 (fun H locs hP hD hS => ?_)
  have hP : va_P (dC, dI) vwCl [(h0, .inr (0, [.ref q1, .ref q2, .ref q3, .ref q4, .int 0, .ref q5, .null, .null, .int 0])), (q1, .inl (k1, 12, .inl (fun _ => 0))), (q2, .inl (k2, 12, .inl (fun _ => 0))), (q3, .inl (k3, 12, .inl (fun _ => 0))), (q4, .inl (k4, 12, .inr (.inl (fun _ => 0)))), (q5, .inl (k5, 160, .inr (.inl (fun _ => 0))))] H := hP
  have hD : va_D A [(h0, .inr (0, [.ref q1, .ref q2, .ref q3, .ref q4, .int 0, .ref q5, .null, .null, .int 0])), (q1, .inl (k1, 12, .inl (fun _ => 0))), (q2, .inl (k2, 12, .inl (fun _ => 0))), (q3, .inl (k3, 12, .inl (fun _ => 0))), (q4, .inl (k4, 12, .inr (.inl (fun _ => 0)))), (q5, .inl (k5, 160, .inr (.inl (fun _ => 0))))] := hD
  refine lv_aload_n hx hb dX0_init_50 rfl (lv_at hl 0 rfl) ?_
  refine lv_sipush (v := 160) hx hb dX0_init_51 (by decide) ?_
  refine va_newa (atype := .int) (ty := .int) (n := 160) (N' := 160) (a0 := (160, .inl (fun _ => 0))) hx hb (hts (.arrayClass .int) (by decide +kernel)) rfl hK hP hD hS hA (xz_i 160) (by decide) (by decide) (by decide) (Nat.le_of_ble_eq_true rfl) (Nat.le_of_ble_eq_true rfl) dX0_init_54 (fun q6 k6 H hK hP hD hS => ?_)
  have hP : va_P (dC, dI) vwCl [(h0, .inr (0, [.ref q1, .ref q2, .ref q3, .ref q4, .int 0, .ref q5, .null, .null, .int 0])), (q1, .inl (k1, 12, .inl (fun _ => 0))), (q2, .inl (k2, 12, .inl (fun _ => 0))), (q3, .inl (k3, 12, .inl (fun _ => 0))), (q4, .inl (k4, 12, .inr (.inl (fun _ => 0)))), (q5, .inl (k5, 160, .inr (.inl (fun _ => 0)))), (q6, .inl (k6, 160, .inl (fun _ => 0)))] H := hP
  have hD : va_D A [(h0, .inr (0, [.ref q1, .ref q2, .ref q3, .ref q4, .int 0, .ref q5, .null, .null, .int 0])), (q1, .inl (k1, 12, .inl (fun _ => 0))), (q2, .inl (k2, 12, .inl (fun _ => 0))), (q3, .inl (k3, 12, .inl (fun _ => 0))), (q4, .inl (k4, 12, .inr (.inl (fun _ => 0)))), (q5, .inl (k5, 160, .inr (.inl (fun _ => 0)))), (q6, .inl (k6, 160, .inl (fun _ => 0)))] := hD
  have hK : va_K (dC, dI) vwCl [(k1, .int), (k2, .int), (k3, .boolean), (k4, .long), (k5, .long), (k6, .int)] s := hK
  refine W.widen (k := 6) (n := 368) (by omega) (by omega) ?_
  refine va_putF (D := (dC, dI)) (ci := 0) (v := .ref q6) (ty := .array .int) (C := RX0) (T := TX0) (N := 9) hx hb hts (by decide +kernel) tyX0 tyX0_ok nmX0 hown hK hP hD hS 0 rfl rfl 6 (by decide) (hts (.fieldLink RX0 31 "MeldingHeaps" "values" "[I") (by decide +kernel)) (fun _ h9 => h9) rfl hin rfl (by decide +kernel) rfl rfl (Nat.le_of_ble_eq_true rfl) dX0_init_56 (fun H locs hP hD hS => ?_)
  have hP : va_P (dC, dI) vwCl [(h0, .inr (0, [.ref q1, .ref q2, .ref q3, .ref q4, .int 0, .ref q5, .ref q6, .null, .int 0])), (q1, .inl (k1, 12, .inl (fun _ => 0))), (q2, .inl (k2, 12, .inl (fun _ => 0))), (q3, .inl (k3, 12, .inl (fun _ => 0))), (q4, .inl (k4, 12, .inr (.inl (fun _ => 0)))), (q5, .inl (k5, 160, .inr (.inl (fun _ => 0)))), (q6, .inl (k6, 160, .inl (fun _ => 0)))] H := hP
  have hD : va_D A [(h0, .inr (0, [.ref q1, .ref q2, .ref q3, .ref q4, .int 0, .ref q5, .ref q6, .null, .int 0])), (q1, .inl (k1, 12, .inl (fun _ => 0))), (q2, .inl (k2, 12, .inl (fun _ => 0))), (q3, .inl (k3, 12, .inl (fun _ => 0))), (q4, .inl (k4, 12, .inr (.inl (fun _ => 0)))), (q5, .inl (k5, 160, .inr (.inl (fun _ => 0)))), (q6, .inl (k6, 160, .inl (fun _ => 0)))] := hD
  refine lv_aload_n hx hb dX0_init_59 rfl (lv_at hl 0 rfl) ?_
  refine lv_sipush (v := 160) hx hb dX0_init_60 (by decide) ?_
  refine va_newa (atype := .int) (ty := .int) (n := 160) (N' := 160) (a0 := (160, .inl (fun _ => 0))) hx hb (hts (.arrayClass .int) (by decide +kernel)) rfl hK hP hD hS hA (xz_i 160) (by decide) (by decide) (by decide) (Nat.le_of_ble_eq_true rfl) (Nat.le_of_ble_eq_true rfl) dX0_init_63 (fun q7 k7 H hK hP hD hS => ?_)
  have hP : va_P (dC, dI) vwCl [(h0, .inr (0, [.ref q1, .ref q2, .ref q3, .ref q4, .int 0, .ref q5, .ref q6, .null, .int 0])), (q1, .inl (k1, 12, .inl (fun _ => 0))), (q2, .inl (k2, 12, .inl (fun _ => 0))), (q3, .inl (k3, 12, .inl (fun _ => 0))), (q4, .inl (k4, 12, .inr (.inl (fun _ => 0)))), (q5, .inl (k5, 160, .inr (.inl (fun _ => 0)))), (q6, .inl (k6, 160, .inl (fun _ => 0))), (q7, .inl (k7, 160, .inl (fun _ => 0)))] H := hP
  have hD : va_D A [(h0, .inr (0, [.ref q1, .ref q2, .ref q3, .ref q4, .int 0, .ref q5, .ref q6, .null, .int 0])), (q1, .inl (k1, 12, .inl (fun _ => 0))), (q2, .inl (k2, 12, .inl (fun _ => 0))), (q3, .inl (k3, 12, .inl (fun _ => 0))), (q4, .inl (k4, 12, .inr (.inl (fun _ => 0)))), (q5, .inl (k5, 160, .inr (.inl (fun _ => 0)))), (q6, .inl (k6, 160, .inl (fun _ => 0))), (q7, .inl (k7, 160, .inl (fun _ => 0)))] := hD
  have hK : va_K (dC, dI) vwCl [(k1, .int), (k2, .int), (k3, .boolean), (k4, .long), (k5, .long), (k6, .int), (k7, .int)] s := hK
  refine W.widen (k := 7) (n := 528) (by omega) (by omega) ?_
  refine va_putF (D := (dC, dI)) (ci := 0) (v := .ref q7) (ty := .array .int) (C := RX0) (T := TX0) (N := 9) hx hb hts (by decide +kernel) tyX0 tyX0_ok nmX0 hown hK hP hD hS 0 rfl rfl 7 (by decide) (hts (.fieldLink RX0 34 "MeldingHeaps" "owners" "[I") (by decide +kernel)) (fun _ h9 => h9) rfl hin rfl (by decide +kernel) rfl rfl (Nat.le_of_ble_eq_true rfl) dX0_init_65 (fun H locs hP hD hS => ?_)
  have hP : va_P (dC, dI) vwCl [(h0, .inr (0, [.ref q1, .ref q2, .ref q3, .ref q4, .int 0, .ref q5, .ref q6, .ref q7, .int 0])), (q1, .inl (k1, 12, .inl (fun _ => 0))), (q2, .inl (k2, 12, .inl (fun _ => 0))), (q3, .inl (k3, 12, .inl (fun _ => 0))), (q4, .inl (k4, 12, .inr (.inl (fun _ => 0)))), (q5, .inl (k5, 160, .inr (.inl (fun _ => 0)))), (q6, .inl (k6, 160, .inl (fun _ => 0))), (q7, .inl (k7, 160, .inl (fun _ => 0)))] H := hP
  have hD : va_D A [(h0, .inr (0, [.ref q1, .ref q2, .ref q3, .ref q4, .int 0, .ref q5, .ref q6, .ref q7, .int 0])), (q1, .inl (k1, 12, .inl (fun _ => 0))), (q2, .inl (k2, 12, .inl (fun _ => 0))), (q3, .inl (k3, 12, .inl (fun _ => 0))), (q4, .inl (k4, 12, .inr (.inl (fun _ => 0)))), (q5, .inl (k5, 160, .inr (.inl (fun _ => 0)))), (q6, .inl (k6, 160, .inl (fun _ => 0))), (q7, .inl (k7, 160, .inl (fun _ => 0)))] := hD
  refine lv_aload_n hx hb dX0_init_68 rfl (lv_at hl 0 rfl) ?_
  refine lv_iconst (v := 0) hx hb dX0_init_69 (by decide) ?_
  refine va_put (D := (dC, dI)) (ci := 0) (v := .int 0) (ty := .int) (C := RX0) (T := TX0) (N := 9) hx hb hts (by decide +kernel) tyX0 tyX0_ok nmX0 hown hK hP hD hS 0 rfl rfl 8 (by decide) (hts (.fieldLink RX0 37 "MeldingHeaps" "entryCount" "I") (by decide +kernel)) (fun _ h9 => h9) rfl (by decide +kernel) rfl rfl (Nat.le_of_ble_eq_true rfl) dX0_init_70 (fun H locs hP hD hS => ?_)
  have hP : va_P (dC, dI) vwCl [(h0, .inr (0, [.ref q1, .ref q2, .ref q3, .ref q4, .int 0, .ref q5, .ref q6, .ref q7, .int 0])), (q1, .inl (k1, 12, .inl (fun _ => 0))), (q2, .inl (k2, 12, .inl (fun _ => 0))), (q3, .inl (k3, 12, .inl (fun _ => 0))), (q4, .inl (k4, 12, .inr (.inl (fun _ => 0)))), (q5, .inl (k5, 160, .inr (.inl (fun _ => 0)))), (q6, .inl (k6, 160, .inl (fun _ => 0))), (q7, .inl (k7, 160, .inl (fun _ => 0)))] H := hP
  have hD : va_D A [(h0, .inr (0, [.ref q1, .ref q2, .ref q3, .ref q4, .int 0, .ref q5, .ref q6, .ref q7, .int 0])), (q1, .inl (k1, 12, .inl (fun _ => 0))), (q2, .inl (k2, 12, .inl (fun _ => 0))), (q3, .inl (k3, 12, .inl (fun _ => 0))), (q4, .inl (k4, 12, .inr (.inl (fun _ => 0)))), (q5, .inl (k5, 160, .inr (.inl (fun _ => 0)))), (q6, .inl (k6, 160, .inl (fun _ => 0))), (q7, .inl (k7, 160, .inl (fun _ => 0)))] := hD
  exact W.vret hx hb hr (fun t ht hW => ⟨⟨(xGf h0 q1 q2 q3 q4 q5 q6 q7, xCf k1 k2 k3 k4 k5 k6 k7), rfl, rfl, by rw [ht]; exact hP, va_K.moved hW.alike hK, hD⟩, hS.F ht⟩) hS.2.2 dX0_init_73
end
section
abbrev cY_init : ByteArray := prog_3_method_1_code
def yY_init : MethodName := ⟨RX1, "<init>", "()V"⟩
abbrev cY_wrongHeap : ByteArray := prog_3_method_2_code
def yY_wrongHeap : MethodName := ⟨RX1, "wrongHeap", "(I)I"⟩
abbrev cY_wrongEntry : ByteArray := prog_3_method_3_code
def yY_wrongEntry : MethodName := ⟨RX1, "wrongEntry", "(I)I"⟩
abbrev cY_weight : ByteArray := prog_3_method_4_code
def yY_weight : MethodName := ⟨RX1, "weight", "(IJ)J"⟩
abbrev cY_isBelow : ByteArray := prog_3_method_5_code
def yY_isBelow : MethodName := ⟨RX1, "isBelow", "(IJ)Z"⟩
abbrev cY_rank : ByteArray := prog_3_method_6_code
def yY_rank : MethodName := ⟨RX1, "rank", "(I)I"⟩
abbrev cY_many : ByteArray := prog_3_method_7_code
def yY_many : MethodName := ⟨RX1, "many", "(I)I"⟩
abbrev cY_extreme : ByteArray := prog_3_method_8_code
def yY_extreme : MethodName := ⟨RX1, "extreme", "(IZ)I"⟩
abbrev cY_leave : ByteArray := prog_3_method_9_code
def yY_leave : MethodName := ⟨RX1, "leave", "(II)V"⟩
abbrev cY_open : ByteArray := prog_3_method_10_code
def yY_open : MethodName := ⟨RX1, "open", "(II)I"⟩
abbrev cY_insert : ByteArray := prog_3_method_11_code
def yY_insert : MethodName := ⟨RX1, "insert", "(IJI)I"⟩
abbrev cY_first : ByteArray := prog_3_method_12_code
def yY_first : MethodName := ⟨RX1, "first", "(I)I"⟩
abbrev cY_last : ByteArray := prog_3_method_13_code
def yY_last : MethodName := ⟨RX1, "last", "(I)I"⟩
abbrev cY_take : ByteArray := prog_3_method_14_code
def yY_take : MethodName := ⟨RX1, "take", "(I)I"⟩
abbrev cY_takeLast : ByteArray := prog_3_method_15_code
def yY_takeLast : MethodName := ⟨RX1, "takeLast", "(I)I"⟩
abbrev cY_decrease : ByteArray := prog_3_method_16_code
def yY_decrease : MethodName := ⟨RX1, "decrease", "(IJ)I"⟩
abbrev cY_delete : ByteArray := prog_3_method_17_code
def yY_delete : MethodName := ⟨RX1, "delete", "(I)I"⟩
abbrev cY_wrongPair : ByteArray := prog_3_method_18_code
def yY_wrongPair : MethodName := ⟨RX1, "wrongPair", "(II)I"⟩
abbrev cY_meld : ByteArray := prog_3_method_19_code
def yY_meld : MethodName := ⟨RX1, "meld", "(II)I"⟩
abbrev cY_drain : ByteArray := prog_3_method_20_code
def yY_drain : MethodName := ⟨RX1, "drain", "(III)I"⟩
abbrev cY_clear : ByteArray := prog_3_method_21_code
def yY_clear : MethodName := ⟨RX1, "clear", "(I)I"⟩
abbrev cY_size : ByteArray := prog_3_method_22_code
def yY_size : MethodName := ⟨RX1, "size", "(I)I"⟩
abbrev cY_floor : ByteArray := prog_3_method_23_code
def yY_floor : MethodName := ⟨RX1, "floor", "(I)J"⟩
abbrev cY_key : ByteArray := prog_3_method_24_code
def yY_key : MethodName := ⟨RX1, "key", "(I)J"⟩
abbrev cY_value : ByteArray := prog_3_method_25_code
def yY_value : MethodName := ⟨RX1, "value", "(I)I"⟩
abbrev cY_owner : ByteArray := prog_3_method_26_code
def yY_owner : MethodName := ⟨RX1, "owner", "(I)I"⟩
abbrev cY_before : ByteArray := prog_3_method_27_code
def yY_before : MethodName := ⟨RX1, "before", "(I)I"⟩
def wsY_init : List Cond := .code yY_init cY_init 1 none :: ([.methodLink RX1 1 objectInit, .instanceMethod objectInit, .code objectInit ⟨#[0xb1]⟩ 1 none, .arrayClass .int, .fieldLink RX1 7 "MeldingHeapsModel" "kinds" "[I", .fieldLink RX1 13 "MeldingHeapsModel" "orders" "[I", .arrayClass .boolean, .fieldLink RX1 16 "MeldingHeapsModel" "gone" "[Z", .arrayClass .long, .fieldLink RX1 20 "MeldingHeapsModel" "floors" "[J", .fieldLink RX1 24 "MeldingHeapsModel" "keys" "[J", .fieldLink RX1 27 "MeldingHeapsModel" "values" "[I", .fieldLink RX1 30 "MeldingHeapsModel" "homes" "[I"] ++ wsX10)
def wsY_wrongHeap : List Cond := .code yY_wrongHeap cY_wrongHeap 2 (some .int) :: ([.fieldLink RX1 33 "MeldingHeapsModel" "opened" "I", .fieldLink RX1 16 "MeldingHeapsModel" "gone" "[Z"] ++ wsX10)
def wsY_wrongEntry : List Cond := .code yY_wrongEntry cY_wrongEntry 2 (some .int) :: ([.fieldLink RX1 37 "MeldingHeapsModel" "inserted" "I", .fieldLink RX1 30 "MeldingHeapsModel" "homes" "[I"] ++ wsX10)
def wsY_weight : List Cond := .code yY_weight cY_weight 5 (some .long) :: ([.fieldLink RX1 13 "MeldingHeapsModel" "orders" "[I", .constantLong RX1 40 (-1), .constantLong RX1 42 (-9223372036854775808), .constantLong RX1 44 (65535)] ++ wsX10)
def wsY_isBelow : List Cond := .code yY_isBelow cY_isBelow 4 (some .boolean) :: ([.fieldLink RX1 7 "MeldingHeapsModel" "kinds" "[I", .fieldLink RX1 20 "MeldingHeapsModel" "floors" "[J", .methodLink RX1 46 yY_weight, .instanceMethod yY_weight, .selects RX1 yY_weight yY_weight, .initialized RX1, .code yY_weight cY_weight 5 (some .long), .fieldLink RX1 13 "MeldingHeapsModel" "orders" "[I", .constantLong RX1 40 (-1), .constantLong RX1 42 (-9223372036854775808), .constantLong RX1 44 (65535)] ++ wsX10)
def wsY_rank : List Cond := .code yY_rank cY_rank 9 (some .int) :: ([.fieldLink RX1 30 "MeldingHeapsModel" "homes" "[I", .fieldLink RX1 24 "MeldingHeapsModel" "keys" "[J", .fieldLink RX1 37 "MeldingHeapsModel" "inserted" "I", .methodLink RX1 46 yY_weight, .instanceMethod yY_weight, .selects RX1 yY_weight yY_weight, .initialized RX1, .code yY_weight cY_weight 5 (some .long), .fieldLink RX1 13 "MeldingHeapsModel" "orders" "[I", .constantLong RX1 40 (-1), .constantLong RX1 42 (-9223372036854775808), .constantLong RX1 44 (65535)] ++ wsX10)
def wsY_many : List Cond := .code yY_many cY_many 4 (some .int) :: ([.fieldLink RX1 37 "MeldingHeapsModel" "inserted" "I", .fieldLink RX1 30 "MeldingHeapsModel" "homes" "[I"] ++ wsX10)
def wsY_extreme : List Cond := .code yY_extreme cY_extreme 9 (some .int) :: ([.fieldLink RX1 37 "MeldingHeapsModel" "inserted" "I", .fieldLink RX1 30 "MeldingHeapsModel" "homes" "[I", .fieldLink RX1 24 "MeldingHeapsModel" "keys" "[J", .methodLink RX1 46 yY_weight, .instanceMethod yY_weight, .selects RX1 yY_weight yY_weight, .initialized RX1, .code yY_weight cY_weight 5 (some .long), .fieldLink RX1 13 "MeldingHeapsModel" "orders" "[I", .constantLong RX1 40 (-1), .constantLong RX1 42 (-9223372036854775808), .constantLong RX1 44 (65535)] ++ wsX10)
def wsY_leave : List Cond := .code yY_leave cY_leave 3 none :: ([.fieldLink RX1 20 "MeldingHeapsModel" "floors" "[J", .fieldLink RX1 7 "MeldingHeapsModel" "kinds" "[I", .fieldLink RX1 24 "MeldingHeapsModel" "keys" "[J", .methodLink RX1 46 yY_weight, .instanceMethod yY_weight, .selects RX1 yY_weight yY_weight, .initialized RX1, .code yY_weight cY_weight 5 (some .long), .fieldLink RX1 13 "MeldingHeapsModel" "orders" "[I", .constantLong RX1 40 (-1), .constantLong RX1 42 (-9223372036854775808), .constantLong RX1 44 (65535)] ++ wsX10)
def wsY_open : List Cond := .code yY_open cY_open 3 (some .int) :: ([.fieldLink RX1 33 "MeldingHeapsModel" "opened" "I", .fieldLink RX1 7 "MeldingHeapsModel" "kinds" "[I", .fieldLink RX1 13 "MeldingHeapsModel" "orders" "[I", .fieldLink RX1 20 "MeldingHeapsModel" "floors" "[J", .constantLong RX1 42 (-9223372036854775808)] ++ wsX10)
def wsY_insert : List Cond := .code yY_insert cY_insert 6 (some .int) :: ([.fieldLink RX1 37 "MeldingHeapsModel" "inserted" "I", .fieldLink RX1 24 "MeldingHeapsModel" "keys" "[J", .fieldLink RX1 27 "MeldingHeapsModel" "values" "[I", .fieldLink RX1 30 "MeldingHeapsModel" "homes" "[I", .methodLink RX1 50 yY_wrongHeap, .instanceMethod yY_wrongHeap, .selects RX1 yY_wrongHeap yY_wrongHeap, .initialized RX1, .code yY_wrongHeap cY_wrongHeap 2 (some .int), .fieldLink RX1 33 "MeldingHeapsModel" "opened" "I", .fieldLink RX1 16 "MeldingHeapsModel" "gone" "[Z", .methodLink RX1 54 yY_isBelow, .instanceMethod yY_isBelow, .selects RX1 yY_isBelow yY_isBelow, .code yY_isBelow cY_isBelow 4 (some .boolean), .fieldLink RX1 7 "MeldingHeapsModel" "kinds" "[I", .fieldLink RX1 20 "MeldingHeapsModel" "floors" "[J", .methodLink RX1 46 yY_weight, .instanceMethod yY_weight, .selects RX1 yY_weight yY_weight, .code yY_weight cY_weight 5 (some .long), .fieldLink RX1 13 "MeldingHeapsModel" "orders" "[I", .constantLong RX1 40 (-1), .constantLong RX1 42 (-9223372036854775808), .constantLong RX1 44 (65535)] ++ wsX10)
def wsY_first : List Cond := .code yY_first cY_first 3 (some .int) :: ([.methodLink RX1 50 yY_wrongHeap, .instanceMethod yY_wrongHeap, .selects RX1 yY_wrongHeap yY_wrongHeap, .initialized RX1, .code yY_wrongHeap cY_wrongHeap 2 (some .int), .fieldLink RX1 33 "MeldingHeapsModel" "opened" "I", .fieldLink RX1 16 "MeldingHeapsModel" "gone" "[Z", .methodLink RX1 58 yY_extreme, .instanceMethod yY_extreme, .selects RX1 yY_extreme yY_extreme, .code yY_extreme cY_extreme 9 (some .int), .fieldLink RX1 37 "MeldingHeapsModel" "inserted" "I", .fieldLink RX1 30 "MeldingHeapsModel" "homes" "[I", .fieldLink RX1 24 "MeldingHeapsModel" "keys" "[J", .methodLink RX1 46 yY_weight, .instanceMethod yY_weight, .selects RX1 yY_weight yY_weight, .code yY_weight cY_weight 5 (some .long), .fieldLink RX1 13 "MeldingHeapsModel" "orders" "[I", .constantLong RX1 40 (-1), .constantLong RX1 42 (-9223372036854775808), .constantLong RX1 44 (65535)] ++ wsX10)
def wsY_last : List Cond := .code yY_last cY_last 3 (some .int) :: ([.fieldLink RX1 7 "MeldingHeapsModel" "kinds" "[I", .methodLink RX1 50 yY_wrongHeap, .instanceMethod yY_wrongHeap, .selects RX1 yY_wrongHeap yY_wrongHeap, .initialized RX1, .code yY_wrongHeap cY_wrongHeap 2 (some .int), .fieldLink RX1 33 "MeldingHeapsModel" "opened" "I", .fieldLink RX1 16 "MeldingHeapsModel" "gone" "[Z", .methodLink RX1 58 yY_extreme, .instanceMethod yY_extreme, .selects RX1 yY_extreme yY_extreme, .code yY_extreme cY_extreme 9 (some .int), .fieldLink RX1 37 "MeldingHeapsModel" "inserted" "I", .fieldLink RX1 30 "MeldingHeapsModel" "homes" "[I", .fieldLink RX1 24 "MeldingHeapsModel" "keys" "[J", .methodLink RX1 46 yY_weight, .instanceMethod yY_weight, .selects RX1 yY_weight yY_weight, .code yY_weight cY_weight 5 (some .long), .fieldLink RX1 13 "MeldingHeapsModel" "orders" "[I", .constantLong RX1 40 (-1), .constantLong RX1 42 (-9223372036854775808), .constantLong RX1 44 (65535)] ++ wsX10)
def wsY_take : List Cond := .code yY_take cY_take 3 (some .int) :: ([.fieldLink RX1 30 "MeldingHeapsModel" "homes" "[I", .methodLink RX1 62 yY_first, .instanceMethod yY_first, .selects RX1 yY_first yY_first, .initialized RX1, .code yY_first cY_first 3 (some .int), .methodLink RX1 50 yY_wrongHeap, .instanceMethod yY_wrongHeap, .selects RX1 yY_wrongHeap yY_wrongHeap, .code yY_wrongHeap cY_wrongHeap 2 (some .int), .fieldLink RX1 33 "MeldingHeapsModel" "opened" "I", .fieldLink RX1 16 "MeldingHeapsModel" "gone" "[Z", .methodLink RX1 58 yY_extreme, .instanceMethod yY_extreme, .selects RX1 yY_extreme yY_extreme, .code yY_extreme cY_extreme 9 (some .int), .fieldLink RX1 37 "MeldingHeapsModel" "inserted" "I", .fieldLink RX1 24 "MeldingHeapsModel" "keys" "[J", .methodLink RX1 46 yY_weight, .instanceMethod yY_weight, .selects RX1 yY_weight yY_weight, .code yY_weight cY_weight 5 (some .long), .fieldLink RX1 13 "MeldingHeapsModel" "orders" "[I", .constantLong RX1 40 (-1), .constantLong RX1 42 (-9223372036854775808), .constantLong RX1 44 (65535), .methodLink RX1 65 yY_leave, .instanceMethod yY_leave, .selects RX1 yY_leave yY_leave, .code yY_leave cY_leave 3 none, .fieldLink RX1 20 "MeldingHeapsModel" "floors" "[J", .fieldLink RX1 7 "MeldingHeapsModel" "kinds" "[I"] ++ wsX10)
def wsY_takeLast : List Cond := .code yY_takeLast cY_takeLast 3 (some .int) :: ([.fieldLink RX1 30 "MeldingHeapsModel" "homes" "[I", .methodLink RX1 69 yY_last, .instanceMethod yY_last, .selects RX1 yY_last yY_last, .initialized RX1, .code yY_last cY_last 3 (some .int), .fieldLink RX1 7 "MeldingHeapsModel" "kinds" "[I", .methodLink RX1 50 yY_wrongHeap, .instanceMethod yY_wrongHeap, .selects RX1 yY_wrongHeap yY_wrongHeap, .code yY_wrongHeap cY_wrongHeap 2 (some .int), .fieldLink RX1 33 "MeldingHeapsModel" "opened" "I", .fieldLink RX1 16 "MeldingHeapsModel" "gone" "[Z", .methodLink RX1 58 yY_extreme, .instanceMethod yY_extreme, .selects RX1 yY_extreme yY_extreme, .code yY_extreme cY_extreme 9 (some .int), .fieldLink RX1 37 "MeldingHeapsModel" "inserted" "I", .fieldLink RX1 24 "MeldingHeapsModel" "keys" "[J", .methodLink RX1 46 yY_weight, .instanceMethod yY_weight, .selects RX1 yY_weight yY_weight, .code yY_weight cY_weight 5 (some .long), .fieldLink RX1 13 "MeldingHeapsModel" "orders" "[I", .constantLong RX1 40 (-1), .constantLong RX1 42 (-9223372036854775808), .constantLong RX1 44 (65535)] ++ wsX10)
def wsY_decrease : List Cond := .code yY_decrease cY_decrease 6 (some .int) :: ([.fieldLink RX1 30 "MeldingHeapsModel" "homes" "[I", .fieldLink RX1 24 "MeldingHeapsModel" "keys" "[J", .methodLink RX1 72 yY_wrongEntry, .instanceMethod yY_wrongEntry, .selects RX1 yY_wrongEntry yY_wrongEntry, .initialized RX1, .code yY_wrongEntry cY_wrongEntry 2 (some .int), .fieldLink RX1 37 "MeldingHeapsModel" "inserted" "I", .methodLink RX1 46 yY_weight, .instanceMethod yY_weight, .selects RX1 yY_weight yY_weight, .code yY_weight cY_weight 5 (some .long), .fieldLink RX1 13 "MeldingHeapsModel" "orders" "[I", .constantLong RX1 40 (-1), .constantLong RX1 42 (-9223372036854775808), .constantLong RX1 44 (65535), .methodLink RX1 54 yY_isBelow, .instanceMethod yY_isBelow, .selects RX1 yY_isBelow yY_isBelow, .code yY_isBelow cY_isBelow 4 (some .boolean), .fieldLink RX1 7 "MeldingHeapsModel" "kinds" "[I", .fieldLink RX1 20 "MeldingHeapsModel" "floors" "[J", .methodLink RX1 75 yY_rank, .instanceMethod yY_rank, .selects RX1 yY_rank yY_rank, .code yY_rank cY_rank 9 (some .int)] ++ wsX10)
def wsY_delete : List Cond := .code yY_delete cY_delete 4 (some .int) :: ([.fieldLink RX1 30 "MeldingHeapsModel" "homes" "[I", .methodLink RX1 72 yY_wrongEntry, .instanceMethod yY_wrongEntry, .selects RX1 yY_wrongEntry yY_wrongEntry, .initialized RX1, .code yY_wrongEntry cY_wrongEntry 2 (some .int), .fieldLink RX1 37 "MeldingHeapsModel" "inserted" "I"] ++ wsX10)
def wsY_wrongPair : List Cond := .code yY_wrongPair cY_wrongPair 4 (some .int) :: ([.methodLink RX1 50 yY_wrongHeap, .instanceMethod yY_wrongHeap, .selects RX1 yY_wrongHeap yY_wrongHeap, .initialized RX1, .code yY_wrongHeap cY_wrongHeap 2 (some .int), .fieldLink RX1 33 "MeldingHeapsModel" "opened" "I", .fieldLink RX1 16 "MeldingHeapsModel" "gone" "[Z"] ++ wsX10)
def wsY_meld : List Cond := .code yY_meld cY_meld 5 (some .int) :: ([.fieldLink RX1 7 "MeldingHeapsModel" "kinds" "[I", .fieldLink RX1 13 "MeldingHeapsModel" "orders" "[I", .fieldLink RX1 37 "MeldingHeapsModel" "inserted" "I", .fieldLink RX1 30 "MeldingHeapsModel" "homes" "[I", .fieldLink RX1 16 "MeldingHeapsModel" "gone" "[Z", .methodLink RX1 78 yY_wrongPair, .instanceMethod yY_wrongPair, .selects RX1 yY_wrongPair yY_wrongPair, .initialized RX1, .code yY_wrongPair cY_wrongPair 4 (some .int), .methodLink RX1 50 yY_wrongHeap, .instanceMethod yY_wrongHeap, .selects RX1 yY_wrongHeap yY_wrongHeap, .code yY_wrongHeap cY_wrongHeap 2 (some .int), .fieldLink RX1 33 "MeldingHeapsModel" "opened" "I", .methodLink RX1 82 yY_many, .instanceMethod yY_many, .selects RX1 yY_many yY_many, .code yY_many cY_many 4 (some .int)] ++ wsX10)
def wsY_drain : List Cond := .code yY_drain cY_drain 8 (some .int) :: ([.fieldLink RX1 24 "MeldingHeapsModel" "keys" "[J", .fieldLink RX1 30 "MeldingHeapsModel" "homes" "[I", .methodLink RX1 78 yY_wrongPair, .instanceMethod yY_wrongPair, .selects RX1 yY_wrongPair yY_wrongPair, .initialized RX1, .code yY_wrongPair cY_wrongPair 4 (some .int), .methodLink RX1 50 yY_wrongHeap, .instanceMethod yY_wrongHeap, .selects RX1 yY_wrongHeap yY_wrongHeap, .code yY_wrongHeap cY_wrongHeap 2 (some .int), .fieldLink RX1 33 "MeldingHeapsModel" "opened" "I", .fieldLink RX1 16 "MeldingHeapsModel" "gone" "[Z", .methodLink RX1 58 yY_extreme, .instanceMethod yY_extreme, .selects RX1 yY_extreme yY_extreme, .code yY_extreme cY_extreme 9 (some .int), .fieldLink RX1 37 "MeldingHeapsModel" "inserted" "I", .methodLink RX1 46 yY_weight, .instanceMethod yY_weight, .selects RX1 yY_weight yY_weight, .code yY_weight cY_weight 5 (some .long), .fieldLink RX1 13 "MeldingHeapsModel" "orders" "[I", .constantLong RX1 40 (-1), .constantLong RX1 42 (-9223372036854775808), .constantLong RX1 44 (65535), .methodLink RX1 54 yY_isBelow, .instanceMethod yY_isBelow, .selects RX1 yY_isBelow yY_isBelow, .code yY_isBelow cY_isBelow 4 (some .boolean), .fieldLink RX1 7 "MeldingHeapsModel" "kinds" "[I", .fieldLink RX1 20 "MeldingHeapsModel" "floors" "[J", .methodLink RX1 65 yY_leave, .instanceMethod yY_leave, .selects RX1 yY_leave yY_leave, .code yY_leave cY_leave 3 none] ++ wsX10)
def wsY_clear : List Cond := .code yY_clear cY_clear 5 (some .int) :: ([.fieldLink RX1 37 "MeldingHeapsModel" "inserted" "I", .fieldLink RX1 30 "MeldingHeapsModel" "homes" "[I", .fieldLink RX1 20 "MeldingHeapsModel" "floors" "[J", .constantLong RX1 42 (-9223372036854775808), .methodLink RX1 50 yY_wrongHeap, .instanceMethod yY_wrongHeap, .selects RX1 yY_wrongHeap yY_wrongHeap, .initialized RX1, .code yY_wrongHeap cY_wrongHeap 2 (some .int), .fieldLink RX1 33 "MeldingHeapsModel" "opened" "I", .fieldLink RX1 16 "MeldingHeapsModel" "gone" "[Z", .methodLink RX1 82 yY_many, .instanceMethod yY_many, .selects RX1 yY_many yY_many, .code yY_many cY_many 4 (some .int)] ++ wsX10)
def wsY_size : List Cond := .code yY_size cY_size 3 (some .int) :: ([.methodLink RX1 50 yY_wrongHeap, .instanceMethod yY_wrongHeap, .selects RX1 yY_wrongHeap yY_wrongHeap, .initialized RX1, .code yY_wrongHeap cY_wrongHeap 2 (some .int), .fieldLink RX1 33 "MeldingHeapsModel" "opened" "I", .fieldLink RX1 16 "MeldingHeapsModel" "gone" "[Z", .methodLink RX1 82 yY_many, .instanceMethod yY_many, .selects RX1 yY_many yY_many, .code yY_many cY_many 4 (some .int), .fieldLink RX1 37 "MeldingHeapsModel" "inserted" "I", .fieldLink RX1 30 "MeldingHeapsModel" "homes" "[I"] ++ wsX10)
def wsY_floor : List Cond := .code yY_floor cY_floor 2 (some .long) :: ([.fieldLink RX1 20 "MeldingHeapsModel" "floors" "[J", .constantLong RX1 42 (-9223372036854775808), .methodLink RX1 50 yY_wrongHeap, .instanceMethod yY_wrongHeap, .selects RX1 yY_wrongHeap yY_wrongHeap, .initialized RX1, .code yY_wrongHeap cY_wrongHeap 2 (some .int), .fieldLink RX1 33 "MeldingHeapsModel" "opened" "I", .fieldLink RX1 16 "MeldingHeapsModel" "gone" "[Z"] ++ wsX10)
def wsY_key : List Cond := .code yY_key cY_key 2 (some .long) :: ([.fieldLink RX1 24 "MeldingHeapsModel" "keys" "[J", .methodLink RX1 72 yY_wrongEntry, .instanceMethod yY_wrongEntry, .selects RX1 yY_wrongEntry yY_wrongEntry, .initialized RX1, .code yY_wrongEntry cY_wrongEntry 2 (some .int), .fieldLink RX1 37 "MeldingHeapsModel" "inserted" "I", .fieldLink RX1 30 "MeldingHeapsModel" "homes" "[I"] ++ wsX10)
def wsY_value : List Cond := .code yY_value cY_value 2 (some .int) :: ([.fieldLink RX1 27 "MeldingHeapsModel" "values" "[I", .methodLink RX1 72 yY_wrongEntry, .instanceMethod yY_wrongEntry, .selects RX1 yY_wrongEntry yY_wrongEntry, .initialized RX1, .code yY_wrongEntry cY_wrongEntry 2 (some .int), .fieldLink RX1 37 "MeldingHeapsModel" "inserted" "I", .fieldLink RX1 30 "MeldingHeapsModel" "homes" "[I"] ++ wsX10)
def wsY_owner : List Cond := .code yY_owner cY_owner 3 (some .int) :: ([.fieldLink RX1 30 "MeldingHeapsModel" "homes" "[I", .methodLink RX1 72 yY_wrongEntry, .instanceMethod yY_wrongEntry, .selects RX1 yY_wrongEntry yY_wrongEntry, .initialized RX1, .code yY_wrongEntry cY_wrongEntry 2 (some .int), .fieldLink RX1 37 "MeldingHeapsModel" "inserted" "I"] ++ wsX10)
def wsY_before : List Cond := .code yY_before cY_before 3 (some .int) :: ([.methodLink RX1 72 yY_wrongEntry, .instanceMethod yY_wrongEntry, .selects RX1 yY_wrongEntry yY_wrongEntry, .initialized RX1, .code yY_wrongEntry cY_wrongEntry 2 (some .int), .fieldLink RX1 37 "MeldingHeapsModel" "inserted" "I", .fieldLink RX1 30 "MeldingHeapsModel" "homes" "[I", .methodLink RX1 75 yY_rank, .instanceMethod yY_rank, .selects RX1 yY_rank yY_rank, .code yY_rank cY_rank 9 (some .int), .fieldLink RX1 24 "MeldingHeapsModel" "keys" "[J", .methodLink RX1 46 yY_weight, .instanceMethod yY_weight, .selects RX1 yY_weight yY_weight, .code yY_weight cY_weight 5 (some .long), .fieldLink RX1 13 "MeldingHeapsModel" "orders" "[I", .constantLong RX1 40 (-1), .constantLong RX1 42 (-9223372036854775808), .constantLong RX1 44 (65535)] ++ wsX10)
set_option maxRecDepth 20000 in
theorem ggY_isBelow_Y_weight : GoodIn wsY_isBelow wsY_weight := goodIn_r _ [7, 8, 9, 10, 11, 12, 13, 14, 15, 16, 17, 18, 19, 20] (by decide +kernel) (by decide +kernel)
set_option maxRecDepth 20000 in
theorem gY_isBelow_Y_weight : GoodIn wsY_isBelow (wsV RX1 46 RX1 yY_weight wsY_weight) := goodIn_app (goodIn_of _ (by decide +kernel)) ggY_isBelow_Y_weight
set_option maxRecDepth 20000 in
theorem ggY_rank_Y_weight : GoodIn wsY_rank wsY_weight := goodIn_r _ [8, 9, 10, 11, 12, 13, 14, 15, 16, 17, 18, 19, 20, 21] (by decide +kernel) (by decide +kernel)
set_option maxRecDepth 20000 in
theorem gY_rank_Y_weight : GoodIn wsY_rank (wsV RX1 46 RX1 yY_weight wsY_weight) := goodIn_app (goodIn_of _ (by decide +kernel)) ggY_rank_Y_weight
set_option maxRecDepth 20000 in
theorem ggY_extreme_Y_weight : GoodIn wsY_extreme wsY_weight := goodIn_r _ [8, 9, 10, 11, 12, 13, 14, 15, 16, 17, 18, 19, 20, 21] (by decide +kernel) (by decide +kernel)
set_option maxRecDepth 20000 in
theorem gY_extreme_Y_weight : GoodIn wsY_extreme (wsV RX1 46 RX1 yY_weight wsY_weight) := goodIn_app (goodIn_of _ (by decide +kernel)) ggY_extreme_Y_weight
set_option maxRecDepth 20000 in
theorem ggY_leave_Y_weight : GoodIn wsY_leave wsY_weight := goodIn_r _ [8, 9, 10, 11, 12, 13, 14, 15, 16, 17, 18, 19, 20, 21] (by decide +kernel) (by decide +kernel)
set_option maxRecDepth 20000 in
theorem gY_leave_Y_weight : GoodIn wsY_leave (wsV RX1 46 RX1 yY_weight wsY_weight) := goodIn_app (goodIn_of _ (by decide +kernel)) ggY_leave_Y_weight
set_option maxRecDepth 20000 in
theorem ggY_insert_Y_wrongHeap : GoodIn wsY_insert wsY_wrongHeap := goodIn_r _ [9, 10, 11, 26, 27, 28, 29, 30, 31, 32, 33, 34] (by decide +kernel) (by decide +kernel)
set_option maxRecDepth 20000 in
theorem gY_insert_Y_wrongHeap : GoodIn wsY_insert (wsV RX1 50 RX1 yY_wrongHeap wsY_wrongHeap) := goodIn_app (goodIn_of _ (by decide +kernel)) ggY_insert_Y_wrongHeap
set_option maxRecDepth 20000 in
theorem ggY_insert_Y_isBelow : GoodIn wsY_insert wsY_isBelow := goodIn_r _ [15, 16, 17, 18, 19, 20, 8, 21, 22, 23, 24, 25, 26, 27, 28, 29, 30, 31, 32, 33, 34] (by decide +kernel) (by decide +kernel)
set_option maxRecDepth 20000 in
theorem gY_insert_Y_isBelow : GoodIn wsY_insert (wsV RX1 54 RX1 yY_isBelow wsY_isBelow) := goodIn_app (goodIn_of _ (by decide +kernel)) ggY_insert_Y_isBelow
set_option maxRecDepth 20000 in
theorem ggY_first_Y_wrongHeap : GoodIn wsY_first wsY_wrongHeap := goodIn_r _ [5, 6, 7, 23, 24, 25, 26, 27, 28, 29, 30, 31] (by decide +kernel) (by decide +kernel)
set_option maxRecDepth 20000 in
theorem gY_first_Y_wrongHeap : GoodIn wsY_first (wsV RX1 50 RX1 yY_wrongHeap wsY_wrongHeap) := goodIn_app (goodIn_of _ (by decide +kernel)) ggY_first_Y_wrongHeap
set_option maxRecDepth 20000 in
theorem ggY_first_Y_extreme : GoodIn wsY_first wsY_extreme := goodIn_r _ [11, 12, 13, 14, 15, 16, 17, 4, 18, 19, 20, 21, 22, 23, 24, 25, 26, 27, 28, 29, 30, 31] (by decide +kernel) (by decide +kernel)
set_option maxRecDepth 20000 in
theorem gY_first_Y_extreme : GoodIn wsY_first (wsV RX1 58 RX1 yY_extreme wsY_extreme) := goodIn_app (goodIn_of _ (by decide +kernel)) ggY_first_Y_extreme
set_option maxRecDepth 20000 in
theorem ggY_last_Y_wrongHeap : GoodIn wsY_last wsY_wrongHeap := goodIn_r _ [6, 7, 8, 24, 25, 26, 27, 28, 29, 30, 31, 32] (by decide +kernel) (by decide +kernel)
set_option maxRecDepth 20000 in
theorem gY_last_Y_wrongHeap : GoodIn wsY_last (wsV RX1 50 RX1 yY_wrongHeap wsY_wrongHeap) := goodIn_app (goodIn_of _ (by decide +kernel)) ggY_last_Y_wrongHeap
set_option maxRecDepth 20000 in
theorem ggY_last_Y_extreme : GoodIn wsY_last wsY_extreme := goodIn_r _ [12, 13, 14, 15, 16, 17, 18, 5, 19, 20, 21, 22, 23, 24, 25, 26, 27, 28, 29, 30, 31, 32] (by decide +kernel) (by decide +kernel)
set_option maxRecDepth 20000 in
theorem gY_last_Y_extreme : GoodIn wsY_last (wsV RX1 58 RX1 yY_extreme wsY_extreme) := goodIn_app (goodIn_of _ (by decide +kernel)) ggY_last_Y_extreme
set_option maxRecDepth 20000 in
theorem ggY_take_Y_first : GoodIn wsY_take wsY_first := goodIn_r _ [6, 7, 8, 9, 5, 10, 11, 12, 13, 14, 15, 16, 17, 1, 18, 19, 20, 21, 22, 23, 24, 25, 26, 33, 34, 35, 36, 37, 38, 39, 40, 41] (by decide +kernel) (by decide +kernel)
set_option maxRecDepth 20000 in
theorem gY_take_Y_first : GoodIn wsY_take (wsV RX1 62 RX1 yY_first wsY_first) := goodIn_app (goodIn_of _ (by decide +kernel)) ggY_take_Y_first
set_option maxRecDepth 20000 in
theorem ggY_take_Y_leave : GoodIn wsY_take wsY_leave := goodIn_r _ [30, 31, 32, 18, 19, 20, 21, 5, 22, 23, 24, 25, 26, 33, 34, 35, 36, 37, 38, 39, 40, 41] (by decide +kernel) (by decide +kernel)
set_option maxRecDepth 20000 in
theorem gY_take_Y_leave : GoodIn wsY_take (wsV RX1 65 RX1 yY_leave wsY_leave) := goodIn_app (goodIn_of _ (by decide +kernel)) ggY_take_Y_leave
set_option maxRecDepth 20000 in
theorem ggY_takeLast_Y_last : GoodIn wsY_takeLast wsY_last := goodIn_r _ [6, 7, 8, 9, 10, 5, 11, 12, 13, 14, 15, 16, 17, 18, 1, 19, 20, 21, 22, 23, 24, 25, 26, 27, 28, 29, 30, 31, 32, 33, 34, 35, 36] (by decide +kernel) (by decide +kernel)
set_option maxRecDepth 20000 in
theorem gY_takeLast_Y_last : GoodIn wsY_takeLast (wsV RX1 69 RX1 yY_last wsY_last) := goodIn_app (goodIn_of _ (by decide +kernel)) ggY_takeLast_Y_last
set_option maxRecDepth 20000 in
theorem ggY_decrease_Y_wrongEntry : GoodIn wsY_decrease wsY_wrongEntry := goodIn_r _ [7, 8, 1, 27, 28, 29, 30, 31, 32, 33, 34, 35] (by decide +kernel) (by decide +kernel)
set_option maxRecDepth 20000 in
theorem gY_decrease_Y_wrongEntry : GoodIn wsY_decrease (wsV RX1 72 RX1 yY_wrongEntry wsY_wrongEntry) := goodIn_app (goodIn_of _ (by decide +kernel)) ggY_decrease_Y_wrongEntry
set_option maxRecDepth 20000 in
theorem ggY_decrease_Y_weight : GoodIn wsY_decrease wsY_weight := goodIn_r _ [12, 13, 14, 15, 16, 27, 28, 29, 30, 31, 32, 33, 34, 35] (by decide +kernel) (by decide +kernel)
set_option maxRecDepth 20000 in
theorem gY_decrease_Y_weight : GoodIn wsY_decrease (wsV RX1 46 RX1 yY_weight wsY_weight) := goodIn_app (goodIn_of _ (by decide +kernel)) ggY_decrease_Y_weight
set_option maxRecDepth 20000 in
theorem ggY_decrease_Y_isBelow : GoodIn wsY_decrease wsY_isBelow := goodIn_r _ [20, 21, 22, 9, 10, 11, 6, 12, 13, 14, 15, 16, 27, 28, 29, 30, 31, 32, 33, 34, 35] (by decide +kernel) (by decide +kernel)
set_option maxRecDepth 20000 in
theorem gY_decrease_Y_isBelow : GoodIn wsY_decrease (wsV RX1 54 RX1 yY_isBelow wsY_isBelow) := goodIn_app (goodIn_of _ (by decide +kernel)) ggY_decrease_Y_isBelow
set_option maxRecDepth 20000 in
theorem ggY_decrease_Y_rank : GoodIn wsY_decrease wsY_rank := goodIn_r _ [26, 1, 2, 8, 9, 10, 11, 6, 12, 13, 14, 15, 16, 27, 28, 29, 30, 31, 32, 33, 34, 35] (by decide +kernel) (by decide +kernel)
set_option maxRecDepth 20000 in
theorem gY_decrease_Y_rank : GoodIn wsY_decrease (wsV RX1 75 RX1 yY_rank wsY_rank) := goodIn_app (goodIn_of _ (by decide +kernel)) ggY_decrease_Y_rank
set_option maxRecDepth 20000 in
theorem ggY_delete_Y_wrongEntry : GoodIn wsY_delete wsY_wrongEntry := goodIn_r _ [6, 7, 1, 8, 9, 10, 11, 12, 13, 14, 15, 16] (by decide +kernel) (by decide +kernel)
set_option maxRecDepth 20000 in
theorem gY_delete_Y_wrongEntry : GoodIn wsY_delete (wsV RX1 72 RX1 yY_wrongEntry wsY_wrongEntry) := goodIn_app (goodIn_of _ (by decide +kernel)) ggY_delete_Y_wrongEntry
set_option maxRecDepth 20000 in
theorem ggY_wrongPair_Y_wrongHeap : GoodIn wsY_wrongPair wsY_wrongHeap := goodIn_r _ [5, 6, 7, 8, 9, 10, 11, 12, 13, 14, 15, 16] (by decide +kernel) (by decide +kernel)
set_option maxRecDepth 20000 in
theorem gY_wrongPair_Y_wrongHeap : GoodIn wsY_wrongPair (wsV RX1 50 RX1 yY_wrongHeap wsY_wrongHeap) := goodIn_app (goodIn_of _ (by decide +kernel)) ggY_wrongPair_Y_wrongHeap
set_option maxRecDepth 20000 in
theorem ggY_meld_Y_wrongPair : GoodIn wsY_meld wsY_wrongPair := goodIn_r _ [10, 11, 12, 13, 9, 14, 15, 5, 20, 21, 22, 23, 24, 25, 26, 27, 28] (by decide +kernel) (by decide +kernel)
set_option maxRecDepth 20000 in
theorem gY_meld_Y_wrongPair : GoodIn wsY_meld (wsV RX1 78 RX1 yY_wrongPair wsY_wrongPair) := goodIn_app (goodIn_of _ (by decide +kernel)) ggY_meld_Y_wrongPair
set_option maxRecDepth 20000 in
theorem ggY_meld_Y_many : GoodIn wsY_meld wsY_many := goodIn_r _ [19, 3, 4, 20, 21, 22, 23, 24, 25, 26, 27, 28] (by decide +kernel) (by decide +kernel)
set_option maxRecDepth 20000 in
theorem gY_meld_Y_many : GoodIn wsY_meld (wsV RX1 82 RX1 yY_many wsY_many) := goodIn_app (goodIn_of _ (by decide +kernel)) ggY_meld_Y_many
set_option maxRecDepth 20000 in
theorem ggY_drain_Y_wrongPair : GoodIn wsY_drain wsY_wrongPair := goodIn_r _ [7, 8, 9, 10, 6, 11, 12, 13, 37, 38, 39, 40, 41, 42, 43, 44, 45] (by decide +kernel) (by decide +kernel)
set_option maxRecDepth 20000 in
theorem gY_drain_Y_wrongPair : GoodIn wsY_drain (wsV RX1 78 RX1 yY_wrongPair wsY_wrongPair) := goodIn_app (goodIn_of _ (by decide +kernel)) ggY_drain_Y_wrongPair
set_option maxRecDepth 20000 in
theorem ggY_drain_Y_extreme : GoodIn wsY_drain wsY_extreme := goodIn_r _ [17, 18, 2, 1, 19, 20, 21, 6, 22, 23, 24, 25, 26, 37, 38, 39, 40, 41, 42, 43, 44, 45] (by decide +kernel) (by decide +kernel)
set_option maxRecDepth 20000 in
theorem gY_drain_Y_extreme : GoodIn wsY_drain (wsV RX1 58 RX1 yY_extreme wsY_extreme) := goodIn_app (goodIn_of _ (by decide +kernel)) ggY_drain_Y_extreme
set_option maxRecDepth 20000 in
theorem ggY_drain_Y_isBelow : GoodIn wsY_drain wsY_isBelow := goodIn_r _ [30, 31, 32, 19, 20, 21, 6, 22, 23, 24, 25, 26, 37, 38, 39, 40, 41, 42, 43, 44, 45] (by decide +kernel) (by decide +kernel)
set_option maxRecDepth 20000 in
theorem gY_drain_Y_isBelow : GoodIn wsY_drain (wsV RX1 54 RX1 yY_isBelow wsY_isBelow) := goodIn_app (goodIn_of _ (by decide +kernel)) ggY_drain_Y_isBelow
set_option maxRecDepth 20000 in
theorem ggY_drain_Y_leave : GoodIn wsY_drain wsY_leave := goodIn_r _ [36, 32, 31, 1, 19, 20, 21, 6, 22, 23, 24, 25, 26, 37, 38, 39, 40, 41, 42, 43, 44, 45] (by decide +kernel) (by decide +kernel)
set_option maxRecDepth 20000 in
theorem gY_drain_Y_leave : GoodIn wsY_drain (wsV RX1 65 RX1 yY_leave wsY_leave) := goodIn_app (goodIn_of _ (by decide +kernel)) ggY_drain_Y_leave
set_option maxRecDepth 20000 in
theorem ggY_clear_Y_wrongHeap : GoodIn wsY_clear wsY_wrongHeap := goodIn_r _ [9, 10, 11, 16, 17, 18, 19, 20, 21, 22, 23, 24] (by decide +kernel) (by decide +kernel)
set_option maxRecDepth 20000 in
theorem gY_clear_Y_wrongHeap : GoodIn wsY_clear (wsV RX1 50 RX1 yY_wrongHeap wsY_wrongHeap) := goodIn_app (goodIn_of _ (by decide +kernel)) ggY_clear_Y_wrongHeap
set_option maxRecDepth 20000 in
theorem ggY_clear_Y_many : GoodIn wsY_clear wsY_many := goodIn_r _ [15, 1, 2, 16, 17, 18, 19, 20, 21, 22, 23, 24] (by decide +kernel) (by decide +kernel)
set_option maxRecDepth 20000 in
theorem gY_clear_Y_many : GoodIn wsY_clear (wsV RX1 82 RX1 yY_many wsY_many) := goodIn_app (goodIn_of _ (by decide +kernel)) ggY_clear_Y_many
set_option maxRecDepth 20000 in
theorem ggY_size_Y_wrongHeap : GoodIn wsY_size wsY_wrongHeap := goodIn_r _ [5, 6, 7, 14, 15, 16, 17, 18, 19, 20, 21, 22] (by decide +kernel) (by decide +kernel)
set_option maxRecDepth 20000 in
theorem gY_size_Y_wrongHeap : GoodIn wsY_size (wsV RX1 50 RX1 yY_wrongHeap wsY_wrongHeap) := goodIn_app (goodIn_of _ (by decide +kernel)) ggY_size_Y_wrongHeap
set_option maxRecDepth 20000 in
theorem ggY_size_Y_many : GoodIn wsY_size wsY_many := goodIn_r _ [11, 12, 13, 14, 15, 16, 17, 18, 19, 20, 21, 22] (by decide +kernel) (by decide +kernel)
set_option maxRecDepth 20000 in
theorem gY_size_Y_many : GoodIn wsY_size (wsV RX1 82 RX1 yY_many wsY_many) := goodIn_app (goodIn_of _ (by decide +kernel)) ggY_size_Y_many
set_option maxRecDepth 20000 in
theorem ggY_floor_Y_wrongHeap : GoodIn wsY_floor wsY_wrongHeap := goodIn_r _ [7, 8, 9, 10, 11, 12, 13, 14, 15, 16, 17, 18] (by decide +kernel) (by decide +kernel)
set_option maxRecDepth 20000 in
theorem gY_floor_Y_wrongHeap : GoodIn wsY_floor (wsV RX1 50 RX1 yY_wrongHeap wsY_wrongHeap) := goodIn_app (goodIn_of _ (by decide +kernel)) ggY_floor_Y_wrongHeap
set_option maxRecDepth 20000 in
theorem ggY_key_Y_wrongEntry : GoodIn wsY_key wsY_wrongEntry := goodIn_r _ [6, 7, 8, 9, 10, 11, 12, 13, 14, 15, 16, 17] (by decide +kernel) (by decide +kernel)
set_option maxRecDepth 20000 in
theorem gY_key_Y_wrongEntry : GoodIn wsY_key (wsV RX1 72 RX1 yY_wrongEntry wsY_wrongEntry) := goodIn_app (goodIn_of _ (by decide +kernel)) ggY_key_Y_wrongEntry
set_option maxRecDepth 20000 in
theorem ggY_value_Y_wrongEntry : GoodIn wsY_value wsY_wrongEntry := goodIn_r _ [6, 7, 8, 9, 10, 11, 12, 13, 14, 15, 16, 17] (by decide +kernel) (by decide +kernel)
set_option maxRecDepth 20000 in
theorem gY_value_Y_wrongEntry : GoodIn wsY_value (wsV RX1 72 RX1 yY_wrongEntry wsY_wrongEntry) := goodIn_app (goodIn_of _ (by decide +kernel)) ggY_value_Y_wrongEntry
set_option maxRecDepth 20000 in
theorem ggY_owner_Y_wrongEntry : GoodIn wsY_owner wsY_wrongEntry := goodIn_r _ [6, 7, 1, 8, 9, 10, 11, 12, 13, 14, 15, 16] (by decide +kernel) (by decide +kernel)
set_option maxRecDepth 20000 in
theorem gY_owner_Y_wrongEntry : GoodIn wsY_owner (wsV RX1 72 RX1 yY_wrongEntry wsY_wrongEntry) := goodIn_app (goodIn_of _ (by decide +kernel)) ggY_owner_Y_wrongEntry
set_option maxRecDepth 20000 in
theorem ggY_before_Y_wrongEntry : GoodIn wsY_before wsY_wrongEntry := goodIn_r _ [5, 6, 7, 21, 22, 23, 24, 25, 26, 27, 28, 29] (by decide +kernel) (by decide +kernel)
set_option maxRecDepth 20000 in
theorem gY_before_Y_wrongEntry : GoodIn wsY_before (wsV RX1 72 RX1 yY_wrongEntry wsY_wrongEntry) := goodIn_app (goodIn_of _ (by decide +kernel)) ggY_before_Y_wrongEntry
set_option maxRecDepth 20000 in
theorem ggY_before_Y_rank : GoodIn wsY_before wsY_rank := goodIn_r _ [11, 7, 12, 6, 13, 14, 15, 4, 16, 17, 18, 19, 20, 21, 22, 23, 24, 25, 26, 27, 28, 29] (by decide +kernel) (by decide +kernel)
set_option maxRecDepth 20000 in
theorem gY_before_Y_rank : GoodIn wsY_before (wsV RX1 75 RX1 yY_rank wsY_rank) := goodIn_app (goodIn_of _ (by decide +kernel)) ggY_before_Y_rank
end
section
theorem dY_init_0 : decode cY_init 0 = .ok (.aload_n 0, 1) := by decide +kernel
theorem dY_init_1 : decode cY_init 1 = .ok (.invokespecial 1, 3) := by decide +kernel
theorem dY_init_4 : decode cY_init 4 = .ok (.aload_n 0, 1) := by decide +kernel
theorem dY_init_5 : decode cY_init 5 = .ok (.bipush 12, 2) := by decide +kernel
theorem dY_init_7 : decode cY_init 7 = .ok (.newarray .int, 2) := by decide +kernel
theorem dY_init_9 : decode cY_init 9 = .ok (.putfield 7, 3) := by decide +kernel
theorem dY_init_12 : decode cY_init 12 = .ok (.aload_n 0, 1) := by decide +kernel
theorem dY_init_13 : decode cY_init 13 = .ok (.bipush 12, 2) := by decide +kernel
theorem dY_init_15 : decode cY_init 15 = .ok (.newarray .int, 2) := by decide +kernel
theorem dY_init_17 : decode cY_init 17 = .ok (.putfield 13, 3) := by decide +kernel
theorem dY_init_20 : decode cY_init 20 = .ok (.aload_n 0, 1) := by decide +kernel
theorem dY_init_21 : decode cY_init 21 = .ok (.bipush 12, 2) := by decide +kernel
theorem dY_init_23 : decode cY_init 23 = .ok (.newarray .boolean, 2) := by decide +kernel
theorem dY_init_25 : decode cY_init 25 = .ok (.putfield 16, 3) := by decide +kernel
theorem dY_init_28 : decode cY_init 28 = .ok (.aload_n 0, 1) := by decide +kernel
theorem dY_init_29 : decode cY_init 29 = .ok (.bipush 12, 2) := by decide +kernel
theorem dY_init_31 : decode cY_init 31 = .ok (.newarray .long, 2) := by decide +kernel
theorem dY_init_33 : decode cY_init 33 = .ok (.putfield 20, 3) := by decide +kernel
theorem dY_init_36 : decode cY_init 36 = .ok (.aload_n 0, 1) := by decide +kernel
theorem dY_init_37 : decode cY_init 37 = .ok (.sipush 160, 3) := by decide +kernel
theorem dY_init_40 : decode cY_init 40 = .ok (.newarray .long, 2) := by decide +kernel
theorem dY_init_42 : decode cY_init 42 = .ok (.putfield 24, 3) := by decide +kernel
theorem dY_init_45 : decode cY_init 45 = .ok (.aload_n 0, 1) := by decide +kernel
theorem dY_init_46 : decode cY_init 46 = .ok (.sipush 160, 3) := by decide +kernel
theorem dY_init_49 : decode cY_init 49 = .ok (.newarray .int, 2) := by decide +kernel
theorem dY_init_51 : decode cY_init 51 = .ok (.putfield 27, 3) := by decide +kernel
theorem dY_init_54 : decode cY_init 54 = .ok (.aload_n 0, 1) := by decide +kernel
theorem dY_init_55 : decode cY_init 55 = .ok (.sipush 160, 3) := by decide +kernel
theorem dY_init_58 : decode cY_init 58 = .ok (.newarray .int, 2) := by decide +kernel
theorem dY_init_60 : decode cY_init 60 = .ok (.putfield 30, 3) := by decide +kernel
theorem dY_init_63 : decode cY_init 63 = .ok (.return_, 1) := by decide +kernel
theorem dY_wrongHeap_0 : decode cY_wrongHeap 0 = .ok (.iload_n 1, 1) := by decide +kernel
theorem dY_wrongHeap_1 : decode cY_wrongHeap 1 = .ok (.ifCond .lt 11, 3) := by decide +kernel
theorem dY_wrongHeap_4 : decode cY_wrongHeap 4 = .ok (.iload_n 1, 1) := by decide +kernel
theorem dY_wrongHeap_5 : decode cY_wrongHeap 5 = .ok (.aload_n 0, 1) := by decide +kernel
theorem dY_wrongHeap_6 : decode cY_wrongHeap 6 = .ok (.getfield 33, 3) := by decide +kernel
theorem dY_wrongHeap_9 : decode cY_wrongHeap 9 = .ok (.if_icmp .lt 6, 3) := by decide +kernel
theorem dY_wrongHeap_12 : decode cY_wrongHeap 12 = .ok (.bipush (-2), 2) := by decide +kernel
theorem dY_wrongHeap_14 : decode cY_wrongHeap 14 = .ok (.ireturn, 1) := by decide +kernel
theorem dY_wrongHeap_15 : decode cY_wrongHeap 15 = .ok (.aload_n 0, 1) := by decide +kernel
theorem dY_wrongHeap_16 : decode cY_wrongHeap 16 = .ok (.getfield 16, 3) := by decide +kernel
theorem dY_wrongHeap_19 : decode cY_wrongHeap 19 = .ok (.iload_n 1, 1) := by decide +kernel
theorem dY_wrongHeap_20 : decode cY_wrongHeap 20 = .ok (.baload, 1) := by decide +kernel
theorem dY_wrongHeap_21 : decode cY_wrongHeap 21 = .ok (.ifCond .eq 8, 3) := by decide +kernel
theorem dY_wrongHeap_24 : decode cY_wrongHeap 24 = .ok (.bipush (-3), 2) := by decide +kernel
theorem dY_wrongHeap_26 : decode cY_wrongHeap 26 = .ok (.goto 4, 3) := by decide +kernel
theorem dY_wrongHeap_29 : decode cY_wrongHeap 29 = .ok (.iconst 0, 1) := by decide +kernel
theorem dY_wrongHeap_30 : decode cY_wrongHeap 30 = .ok (.ireturn, 1) := by decide +kernel
theorem dY_wrongEntry_0 : decode cY_wrongEntry 0 = .ok (.iload_n 1, 1) := by decide +kernel
theorem dY_wrongEntry_1 : decode cY_wrongEntry 1 = .ok (.ifCond .lt 11, 3) := by decide +kernel
theorem dY_wrongEntry_4 : decode cY_wrongEntry 4 = .ok (.iload_n 1, 1) := by decide +kernel
theorem dY_wrongEntry_5 : decode cY_wrongEntry 5 = .ok (.aload_n 0, 1) := by decide +kernel
theorem dY_wrongEntry_6 : decode cY_wrongEntry 6 = .ok (.getfield 37, 3) := by decide +kernel
theorem dY_wrongEntry_9 : decode cY_wrongEntry 9 = .ok (.if_icmp .lt 6, 3) := by decide +kernel
theorem dY_wrongEntry_12 : decode cY_wrongEntry 12 = .ok (.bipush (-2), 2) := by decide +kernel
theorem dY_wrongEntry_14 : decode cY_wrongEntry 14 = .ok (.ireturn, 1) := by decide +kernel
theorem dY_wrongEntry_15 : decode cY_wrongEntry 15 = .ok (.aload_n 0, 1) := by decide +kernel
theorem dY_wrongEntry_16 : decode cY_wrongEntry 16 = .ok (.getfield 30, 3) := by decide +kernel
theorem dY_wrongEntry_19 : decode cY_wrongEntry 19 = .ok (.iload_n 1, 1) := by decide +kernel
theorem dY_wrongEntry_20 : decode cY_wrongEntry 20 = .ok (.iaload, 1) := by decide +kernel
theorem dY_wrongEntry_21 : decode cY_wrongEntry 21 = .ok (.ifCond .ge 8, 3) := by decide +kernel
theorem dY_wrongEntry_24 : decode cY_wrongEntry 24 = .ok (.bipush (-4), 2) := by decide +kernel
theorem dY_wrongEntry_26 : decode cY_wrongEntry 26 = .ok (.goto 4, 3) := by decide +kernel
theorem dY_wrongEntry_29 : decode cY_wrongEntry 29 = .ok (.iconst 0, 1) := by decide +kernel
theorem dY_wrongEntry_30 : decode cY_wrongEntry 30 = .ok (.ireturn, 1) := by decide +kernel
theorem dY_weight_0 : decode cY_weight 0 = .ok (.aload_n 0, 1) := by decide +kernel
theorem dY_weight_1 : decode cY_weight 1 = .ok (.getfield 13, 3) := by decide +kernel
theorem dY_weight_4 : decode cY_weight 4 = .ok (.iload_n 1, 1) := by decide +kernel
theorem dY_weight_5 : decode cY_weight 5 = .ok (.iaload, 1) := by decide +kernel
theorem dY_weight_6 : decode cY_weight 6 = .ok (.istore 4, 2) := by decide +kernel
theorem dY_weight_8 : decode cY_weight 8 = .ok (.iload 4, 2) := by decide +kernel
theorem dY_weight_10 : decode cY_weight 10 = .ok (.ifCond .ne 5, 3) := by decide +kernel
theorem dY_weight_13 : decode cY_weight 13 = .ok (.lload_n 2, 1) := by decide +kernel
theorem dY_weight_14 : decode cY_weight 14 = .ok (.lreturn, 1) := by decide +kernel
theorem dY_weight_15 : decode cY_weight 15 = .ok (.iload 4, 2) := by decide +kernel
theorem dY_weight_17 : decode cY_weight 17 = .ok (.iconst 1, 1) := by decide +kernel
theorem dY_weight_18 : decode cY_weight 18 = .ok (.if_icmp .ne 9, 3) := by decide +kernel
theorem dY_weight_21 : decode cY_weight 21 = .ok (.ldc2_w 40, 3) := by decide +kernel
theorem dY_weight_24 : decode cY_weight 24 = .ok (.lload_n 2, 1) := by decide +kernel
theorem dY_weight_25 : decode cY_weight 25 = .ok (.lsub, 1) := by decide +kernel
theorem dY_weight_26 : decode cY_weight 26 = .ok (.lreturn, 1) := by decide +kernel
theorem dY_weight_27 : decode cY_weight 27 = .ok (.iload 4, 2) := by decide +kernel
theorem dY_weight_29 : decode cY_weight 29 = .ok (.iconst 2, 1) := by decide +kernel
theorem dY_weight_30 : decode cY_weight 30 = .ok (.if_icmp .ne 11, 3) := by decide +kernel
theorem dY_weight_33 : decode cY_weight 33 = .ok (.lload_n 2, 1) := by decide +kernel
theorem dY_weight_34 : decode cY_weight 34 = .ok (.ldc2_w 42, 3) := by decide +kernel
theorem dY_weight_37 : decode cY_weight 37 = .ok (.lxor, 1) := by decide +kernel
theorem dY_weight_38 : decode cY_weight 38 = .ok (.goto 8, 3) := by decide +kernel
theorem dY_weight_41 : decode cY_weight 41 = .ok (.lload_n 2, 1) := by decide +kernel
theorem dY_weight_42 : decode cY_weight 42 = .ok (.ldc2_w 44, 3) := by decide +kernel
theorem dY_weight_45 : decode cY_weight 45 = .ok (.land, 1) := by decide +kernel
theorem dY_weight_46 : decode cY_weight 46 = .ok (.lreturn, 1) := by decide +kernel
theorem dY_isBelow_0 : decode cY_isBelow 0 = .ok (.aload_n 0, 1) := by decide +kernel
theorem dY_isBelow_1 : decode cY_isBelow 1 = .ok (.getfield 7, 3) := by decide +kernel
theorem dY_isBelow_4 : decode cY_isBelow 4 = .ok (.iload_n 1, 1) := by decide +kernel
theorem dY_isBelow_5 : decode cY_isBelow 5 = .ok (.iaload, 1) := by decide +kernel
theorem dY_isBelow_6 : decode cY_isBelow 6 = .ok (.iconst 2, 1) := by decide +kernel
theorem dY_isBelow_7 : decode cY_isBelow 7 = .ok (.if_icmp .ne 23, 3) := by decide +kernel
theorem dY_isBelow_10 : decode cY_isBelow 10 = .ok (.aload_n 0, 1) := by decide +kernel
theorem dY_isBelow_11 : decode cY_isBelow 11 = .ok (.iload_n 1, 1) := by decide +kernel
theorem dY_isBelow_12 : decode cY_isBelow 12 = .ok (.lload_n 2, 1) := by decide +kernel
theorem dY_isBelow_13 : decode cY_isBelow 13 = .ok (.invokevirtual 46, 3) := by decide +kernel
theorem dY_isBelow_16 : decode cY_isBelow 16 = .ok (.aload_n 0, 1) := by decide +kernel
theorem dY_isBelow_17 : decode cY_isBelow 17 = .ok (.getfield 20, 3) := by decide +kernel
theorem dY_isBelow_20 : decode cY_isBelow 20 = .ok (.iload_n 1, 1) := by decide +kernel
theorem dY_isBelow_21 : decode cY_isBelow 21 = .ok (.laload, 1) := by decide +kernel
theorem dY_isBelow_22 : decode cY_isBelow 22 = .ok (.lcmp, 1) := by decide +kernel
theorem dY_isBelow_23 : decode cY_isBelow 23 = .ok (.ifCond .ge 7, 3) := by decide +kernel
theorem dY_isBelow_26 : decode cY_isBelow 26 = .ok (.iconst 1, 1) := by decide +kernel
theorem dY_isBelow_27 : decode cY_isBelow 27 = .ok (.goto 4, 3) := by decide +kernel
theorem dY_isBelow_30 : decode cY_isBelow 30 = .ok (.iconst 0, 1) := by decide +kernel
theorem dY_isBelow_31 : decode cY_isBelow 31 = .ok (.ireturn, 1) := by decide +kernel
theorem dY_rank_0 : decode cY_rank 0 = .ok (.aload_n 0, 1) := by decide +kernel
theorem dY_rank_1 : decode cY_rank 1 = .ok (.getfield 30, 3) := by decide +kernel
theorem dY_rank_4 : decode cY_rank 4 = .ok (.iload_n 1, 1) := by decide +kernel
theorem dY_rank_5 : decode cY_rank 5 = .ok (.iaload, 1) := by decide +kernel
theorem dY_rank_6 : decode cY_rank 6 = .ok (.istore_n 2, 1) := by decide +kernel
theorem dY_rank_7 : decode cY_rank 7 = .ok (.aload_n 0, 1) := by decide +kernel
theorem dY_rank_8 : decode cY_rank 8 = .ok (.iload_n 2, 1) := by decide +kernel
theorem dY_rank_9 : decode cY_rank 9 = .ok (.aload_n 0, 1) := by decide +kernel
theorem dY_rank_10 : decode cY_rank 10 = .ok (.getfield 24, 3) := by decide +kernel
theorem dY_rank_13 : decode cY_rank 13 = .ok (.iload_n 1, 1) := by decide +kernel
theorem dY_rank_14 : decode cY_rank 14 = .ok (.laload, 1) := by decide +kernel
theorem dY_rank_15 : decode cY_rank 15 = .ok (.invokevirtual 46, 3) := by decide +kernel
theorem dY_rank_18 : decode cY_rank 18 = .ok (.lstore_n 3, 1) := by decide +kernel
theorem dY_rank_19 : decode cY_rank 19 = .ok (.iconst 0, 1) := by decide +kernel
theorem dY_rank_20 : decode cY_rank 20 = .ok (.istore 5, 2) := by decide +kernel
theorem dY_rank_22 : decode cY_rank 22 = .ok (.iconst 0, 1) := by decide +kernel
theorem dY_rank_23 : decode cY_rank 23 = .ok (.istore 6, 2) := by decide +kernel
theorem dY_rank_25 : decode cY_rank 25 = .ok (.iload 6, 2) := by decide +kernel
theorem dY_rank_27 : decode cY_rank 27 = .ok (.aload_n 0, 1) := by decide +kernel
theorem dY_rank_28 : decode cY_rank 28 = .ok (.getfield 37, 3) := by decide +kernel
theorem dY_rank_31 : decode cY_rank 31 = .ok (.if_icmp .ge 65, 3) := by decide +kernel
theorem dY_rank_34 : decode cY_rank 34 = .ok (.aload_n 0, 1) := by decide +kernel
theorem dY_rank_35 : decode cY_rank 35 = .ok (.getfield 30, 3) := by decide +kernel
theorem dY_rank_38 : decode cY_rank 38 = .ok (.iload 6, 2) := by decide +kernel
theorem dY_rank_40 : decode cY_rank 40 = .ok (.iaload, 1) := by decide +kernel
theorem dY_rank_41 : decode cY_rank 41 = .ok (.iload_n 2, 1) := by decide +kernel
theorem dY_rank_42 : decode cY_rank 42 = .ok (.if_icmp .ne 48, 3) := by decide +kernel
theorem dY_rank_45 : decode cY_rank 45 = .ok (.aload_n 0, 1) := by decide +kernel
theorem dY_rank_46 : decode cY_rank 46 = .ok (.iload_n 2, 1) := by decide +kernel
theorem dY_rank_47 : decode cY_rank 47 = .ok (.aload_n 0, 1) := by decide +kernel
theorem dY_rank_48 : decode cY_rank 48 = .ok (.getfield 24, 3) := by decide +kernel
theorem dY_rank_51 : decode cY_rank 51 = .ok (.iload 6, 2) := by decide +kernel
theorem dY_rank_53 : decode cY_rank 53 = .ok (.laload, 1) := by decide +kernel
theorem dY_rank_54 : decode cY_rank 54 = .ok (.invokevirtual 46, 3) := by decide +kernel
theorem dY_rank_57 : decode cY_rank 57 = .ok (.lstore 7, 2) := by decide +kernel
theorem dY_rank_59 : decode cY_rank 59 = .ok (.lload 7, 2) := by decide +kernel
theorem dY_rank_61 : decode cY_rank 61 = .ok (.lload_n 3, 1) := by decide +kernel
theorem dY_rank_62 : decode cY_rank 62 = .ok (.lcmp, 1) := by decide +kernel
theorem dY_rank_63 : decode cY_rank 63 = .ok (.ifCond .lt 16, 3) := by decide +kernel
theorem dY_rank_66 : decode cY_rank 66 = .ok (.lload 7, 2) := by decide +kernel
theorem dY_rank_68 : decode cY_rank 68 = .ok (.lload_n 3, 1) := by decide +kernel
theorem dY_rank_69 : decode cY_rank 69 = .ok (.lcmp, 1) := by decide +kernel
theorem dY_rank_70 : decode cY_rank 70 = .ok (.ifCond .ne 16, 3) := by decide +kernel
theorem dY_rank_73 : decode cY_rank 73 = .ok (.iload 6, 2) := by decide +kernel
theorem dY_rank_75 : decode cY_rank 75 = .ok (.iload_n 1, 1) := by decide +kernel
theorem dY_rank_76 : decode cY_rank 76 = .ok (.if_icmp .ge 10, 3) := by decide +kernel
theorem dY_rank_79 : decode cY_rank 79 = .ok (.iload 5, 2) := by decide +kernel
theorem dY_rank_81 : decode cY_rank 81 = .ok (.iconst 1, 1) := by decide +kernel
theorem dY_rank_82 : decode cY_rank 82 = .ok (.iadd, 1) := by decide +kernel
theorem dY_rank_83 : decode cY_rank 83 = .ok (.goto 5, 3) := by decide +kernel
theorem dY_rank_86 : decode cY_rank 86 = .ok (.iload 5, 2) := by decide +kernel
theorem dY_rank_88 : decode cY_rank 88 = .ok (.istore 5, 2) := by decide +kernel
theorem dY_rank_90 : decode cY_rank 90 = .ok (.iinc 6 1, 3) := by decide +kernel
theorem dY_rank_93 : decode cY_rank 93 = .ok (.goto (-68), 3) := by decide +kernel
theorem dY_rank_96 : decode cY_rank 96 = .ok (.iload 5, 2) := by decide +kernel
theorem dY_rank_98 : decode cY_rank 98 = .ok (.ireturn, 1) := by decide +kernel
theorem dY_many_0 : decode cY_many 0 = .ok (.iconst 0, 1) := by decide +kernel
theorem dY_many_1 : decode cY_many 1 = .ok (.istore_n 2, 1) := by decide +kernel
theorem dY_many_2 : decode cY_many 2 = .ok (.iconst 0, 1) := by decide +kernel
theorem dY_many_3 : decode cY_many 3 = .ok (.istore_n 3, 1) := by decide +kernel
theorem dY_many_4 : decode cY_many 4 = .ok (.iload_n 3, 1) := by decide +kernel
theorem dY_many_5 : decode cY_many 5 = .ok (.aload_n 0, 1) := by decide +kernel
theorem dY_many_6 : decode cY_many 6 = .ok (.getfield 37, 3) := by decide +kernel
theorem dY_many_9 : decode cY_many 9 = .ok (.if_icmp .ge 27, 3) := by decide +kernel
theorem dY_many_12 : decode cY_many 12 = .ok (.aload_n 0, 1) := by decide +kernel
theorem dY_many_13 : decode cY_many 13 = .ok (.getfield 30, 3) := by decide +kernel
theorem dY_many_16 : decode cY_many 16 = .ok (.iload_n 3, 1) := by decide +kernel
theorem dY_many_17 : decode cY_many 17 = .ok (.iaload, 1) := by decide +kernel
theorem dY_many_18 : decode cY_many 18 = .ok (.iload_n 1, 1) := by decide +kernel
theorem dY_many_19 : decode cY_many 19 = .ok (.if_icmp .ne 9, 3) := by decide +kernel
theorem dY_many_22 : decode cY_many 22 = .ok (.iload_n 2, 1) := by decide +kernel
theorem dY_many_23 : decode cY_many 23 = .ok (.iconst 1, 1) := by decide +kernel
theorem dY_many_24 : decode cY_many 24 = .ok (.iadd, 1) := by decide +kernel
theorem dY_many_25 : decode cY_many 25 = .ok (.goto 4, 3) := by decide +kernel
theorem dY_many_28 : decode cY_many 28 = .ok (.iload_n 2, 1) := by decide +kernel
theorem dY_many_29 : decode cY_many 29 = .ok (.istore_n 2, 1) := by decide +kernel
theorem dY_many_30 : decode cY_many 30 = .ok (.iinc 3 1, 3) := by decide +kernel
theorem dY_many_33 : decode cY_many 33 = .ok (.goto (-29), 3) := by decide +kernel
theorem dY_many_36 : decode cY_many 36 = .ok (.iload_n 2, 1) := by decide +kernel
theorem dY_many_37 : decode cY_many 37 = .ok (.ireturn, 1) := by decide +kernel
theorem dY_extreme_0 : decode cY_extreme 0 = .ok (.iconst (-1), 1) := by decide +kernel
theorem dY_extreme_1 : decode cY_extreme 1 = .ok (.istore_n 3, 1) := by decide +kernel
theorem dY_extreme_2 : decode cY_extreme 2 = .ok (.lconst 0, 1) := by decide +kernel
theorem dY_extreme_3 : decode cY_extreme 3 = .ok (.lstore 4, 2) := by decide +kernel
theorem dY_extreme_5 : decode cY_extreme 5 = .ok (.iconst 0, 1) := by decide +kernel
theorem dY_extreme_6 : decode cY_extreme 6 = .ok (.istore 6, 2) := by decide +kernel
theorem dY_extreme_8 : decode cY_extreme 8 = .ok (.iload 6, 2) := by decide +kernel
theorem dY_extreme_10 : decode cY_extreme 10 = .ok (.aload_n 0, 1) := by decide +kernel
theorem dY_extreme_11 : decode cY_extreme 11 = .ok (.getfield 37, 3) := by decide +kernel
theorem dY_extreme_14 : decode cY_extreme 14 = .ok (.if_icmp .ge 69, 3) := by decide +kernel
theorem dY_extreme_17 : decode cY_extreme 17 = .ok (.aload_n 0, 1) := by decide +kernel
theorem dY_extreme_18 : decode cY_extreme 18 = .ok (.getfield 30, 3) := by decide +kernel
theorem dY_extreme_21 : decode cY_extreme 21 = .ok (.iload 6, 2) := by decide +kernel
theorem dY_extreme_23 : decode cY_extreme 23 = .ok (.iaload, 1) := by decide +kernel
theorem dY_extreme_24 : decode cY_extreme 24 = .ok (.iload_n 1, 1) := by decide +kernel
theorem dY_extreme_25 : decode cY_extreme 25 = .ok (.if_icmp .ne 52, 3) := by decide +kernel
theorem dY_extreme_28 : decode cY_extreme 28 = .ok (.aload_n 0, 1) := by decide +kernel
theorem dY_extreme_29 : decode cY_extreme 29 = .ok (.iload_n 1, 1) := by decide +kernel
theorem dY_extreme_30 : decode cY_extreme 30 = .ok (.aload_n 0, 1) := by decide +kernel
theorem dY_extreme_31 : decode cY_extreme 31 = .ok (.getfield 24, 3) := by decide +kernel
theorem dY_extreme_34 : decode cY_extreme 34 = .ok (.iload 6, 2) := by decide +kernel
theorem dY_extreme_36 : decode cY_extreme 36 = .ok (.laload, 1) := by decide +kernel
theorem dY_extreme_37 : decode cY_extreme 37 = .ok (.invokevirtual 46, 3) := by decide +kernel
theorem dY_extreme_40 : decode cY_extreme 40 = .ok (.lstore 7, 2) := by decide +kernel
theorem dY_extreme_42 : decode cY_extreme 42 = .ok (.iload_n 3, 1) := by decide +kernel
theorem dY_extreme_43 : decode cY_extreme 43 = .ok (.iconst (-1), 1) := by decide +kernel
theorem dY_extreme_44 : decode cY_extreme 44 = .ok (.if_icmp .eq 26, 3) := by decide +kernel
theorem dY_extreme_47 : decode cY_extreme 47 = .ok (.iload_n 2, 1) := by decide +kernel
theorem dY_extreme_48 : decode cY_extreme 48 = .ok (.ifCond .eq 14, 3) := by decide +kernel
theorem dY_extreme_51 : decode cY_extreme 51 = .ok (.lload 7, 2) := by decide +kernel
theorem dY_extreme_53 : decode cY_extreme 53 = .ok (.lload 4, 2) := by decide +kernel
theorem dY_extreme_55 : decode cY_extreme 55 = .ok (.lcmp, 1) := by decide +kernel
theorem dY_extreme_56 : decode cY_extreme 56 = .ok (.ifCond .ge 21, 3) := by decide +kernel
theorem dY_extreme_59 : decode cY_extreme 59 = .ok (.goto 11, 3) := by decide +kernel
theorem dY_extreme_62 : decode cY_extreme 62 = .ok (.lload 7, 2) := by decide +kernel
theorem dY_extreme_64 : decode cY_extreme 64 = .ok (.lload 4, 2) := by decide +kernel
theorem dY_extreme_66 : decode cY_extreme 66 = .ok (.lcmp, 1) := by decide +kernel
theorem dY_extreme_67 : decode cY_extreme 67 = .ok (.ifCond .lt 10, 3) := by decide +kernel
theorem dY_extreme_70 : decode cY_extreme 70 = .ok (.iload 6, 2) := by decide +kernel
theorem dY_extreme_72 : decode cY_extreme 72 = .ok (.istore_n 3, 1) := by decide +kernel
theorem dY_extreme_73 : decode cY_extreme 73 = .ok (.lload 7, 2) := by decide +kernel
theorem dY_extreme_75 : decode cY_extreme 75 = .ok (.lstore 4, 2) := by decide +kernel
theorem dY_extreme_77 : decode cY_extreme 77 = .ok (.iinc 6 1, 3) := by decide +kernel
theorem dY_extreme_80 : decode cY_extreme 80 = .ok (.goto (-72), 3) := by decide +kernel
theorem dY_extreme_83 : decode cY_extreme 83 = .ok (.iload_n 3, 1) := by decide +kernel
theorem dY_extreme_84 : decode cY_extreme 84 = .ok (.ireturn, 1) := by decide +kernel
theorem dY_leave_0 : decode cY_leave 0 = .ok (.aload_n 0, 1) := by decide +kernel
theorem dY_leave_1 : decode cY_leave 1 = .ok (.getfield 20, 3) := by decide +kernel
theorem dY_leave_4 : decode cY_leave 4 = .ok (.iload_n 1, 1) := by decide +kernel
theorem dY_leave_5 : decode cY_leave 5 = .ok (.aload_n 0, 1) := by decide +kernel
theorem dY_leave_6 : decode cY_leave 6 = .ok (.getfield 7, 3) := by decide +kernel
theorem dY_leave_9 : decode cY_leave 9 = .ok (.iload_n 1, 1) := by decide +kernel
theorem dY_leave_10 : decode cY_leave 10 = .ok (.iaload, 1) := by decide +kernel
theorem dY_leave_11 : decode cY_leave 11 = .ok (.iconst 2, 1) := by decide +kernel
theorem dY_leave_12 : decode cY_leave 12 = .ok (.if_icmp .ne 17, 3) := by decide +kernel
theorem dY_leave_15 : decode cY_leave 15 = .ok (.aload_n 0, 1) := by decide +kernel
theorem dY_leave_16 : decode cY_leave 16 = .ok (.iload_n 1, 1) := by decide +kernel
theorem dY_leave_17 : decode cY_leave 17 = .ok (.aload_n 0, 1) := by decide +kernel
theorem dY_leave_18 : decode cY_leave 18 = .ok (.getfield 24, 3) := by decide +kernel
theorem dY_leave_21 : decode cY_leave 21 = .ok (.iload_n 2, 1) := by decide +kernel
theorem dY_leave_22 : decode cY_leave 22 = .ok (.laload, 1) := by decide +kernel
theorem dY_leave_23 : decode cY_leave 23 = .ok (.invokevirtual 46, 3) := by decide +kernel
theorem dY_leave_26 : decode cY_leave 26 = .ok (.goto 9, 3) := by decide +kernel
theorem dY_leave_29 : decode cY_leave 29 = .ok (.aload_n 0, 1) := by decide +kernel
theorem dY_leave_30 : decode cY_leave 30 = .ok (.getfield 20, 3) := by decide +kernel
theorem dY_leave_33 : decode cY_leave 33 = .ok (.iload_n 1, 1) := by decide +kernel
theorem dY_leave_34 : decode cY_leave 34 = .ok (.laload, 1) := by decide +kernel
theorem dY_leave_35 : decode cY_leave 35 = .ok (.lastore, 1) := by decide +kernel
theorem dY_leave_36 : decode cY_leave 36 = .ok (.return_, 1) := by decide +kernel
theorem dY_open_0 : decode cY_open 0 = .ok (.iload_n 1, 1) := by decide +kernel
theorem dY_open_1 : decode cY_open 1 = .ok (.ifCond .lt 17, 3) := by decide +kernel
theorem dY_open_4 : decode cY_open 4 = .ok (.iload_n 1, 1) := by decide +kernel
theorem dY_open_5 : decode cY_open 5 = .ok (.iconst 2, 1) := by decide +kernel
theorem dY_open_6 : decode cY_open 6 = .ok (.if_icmp .gt 12, 3) := by decide +kernel
theorem dY_open_9 : decode cY_open 9 = .ok (.iload_n 2, 1) := by decide +kernel
theorem dY_open_10 : decode cY_open 10 = .ok (.ifCond .lt 8, 3) := by decide +kernel
theorem dY_open_13 : decode cY_open 13 = .ok (.iload_n 2, 1) := by decide +kernel
theorem dY_open_14 : decode cY_open 14 = .ok (.iconst 3, 1) := by decide +kernel
theorem dY_open_15 : decode cY_open 15 = .ok (.if_icmp .le 6, 3) := by decide +kernel
theorem dY_open_18 : decode cY_open 18 = .ok (.bipush (-2), 2) := by decide +kernel
theorem dY_open_20 : decode cY_open 20 = .ok (.ireturn, 1) := by decide +kernel
theorem dY_open_21 : decode cY_open 21 = .ok (.aload_n 0, 1) := by decide +kernel
theorem dY_open_22 : decode cY_open 22 = .ok (.getfield 33, 3) := by decide +kernel
theorem dY_open_25 : decode cY_open 25 = .ok (.bipush 12, 2) := by decide +kernel
theorem dY_open_27 : decode cY_open 27 = .ok (.if_icmp .ne 6, 3) := by decide +kernel
theorem dY_open_30 : decode cY_open 30 = .ok (.bipush (-8), 2) := by decide +kernel
theorem dY_open_32 : decode cY_open 32 = .ok (.ireturn, 1) := by decide +kernel
theorem dY_open_33 : decode cY_open 33 = .ok (.aload_n 0, 1) := by decide +kernel
theorem dY_open_34 : decode cY_open 34 = .ok (.getfield 7, 3) := by decide +kernel
theorem dY_open_37 : decode cY_open 37 = .ok (.aload_n 0, 1) := by decide +kernel
theorem dY_open_38 : decode cY_open 38 = .ok (.getfield 33, 3) := by decide +kernel
theorem dY_open_41 : decode cY_open 41 = .ok (.iload_n 1, 1) := by decide +kernel
theorem dY_open_42 : decode cY_open 42 = .ok (.iastore, 1) := by decide +kernel
theorem dY_open_43 : decode cY_open 43 = .ok (.aload_n 0, 1) := by decide +kernel
theorem dY_open_44 : decode cY_open 44 = .ok (.getfield 13, 3) := by decide +kernel
theorem dY_open_47 : decode cY_open 47 = .ok (.aload_n 0, 1) := by decide +kernel
theorem dY_open_48 : decode cY_open 48 = .ok (.getfield 33, 3) := by decide +kernel
theorem dY_open_51 : decode cY_open 51 = .ok (.iload_n 2, 1) := by decide +kernel
theorem dY_open_52 : decode cY_open 52 = .ok (.iastore, 1) := by decide +kernel
theorem dY_open_53 : decode cY_open 53 = .ok (.aload_n 0, 1) := by decide +kernel
theorem dY_open_54 : decode cY_open 54 = .ok (.getfield 20, 3) := by decide +kernel
theorem dY_open_57 : decode cY_open 57 = .ok (.aload_n 0, 1) := by decide +kernel
theorem dY_open_58 : decode cY_open 58 = .ok (.getfield 33, 3) := by decide +kernel
theorem dY_open_61 : decode cY_open 61 = .ok (.ldc2_w 42, 3) := by decide +kernel
theorem dY_open_64 : decode cY_open 64 = .ok (.lastore, 1) := by decide +kernel
theorem dY_open_65 : decode cY_open 65 = .ok (.aload_n 0, 1) := by decide +kernel
theorem dY_open_66 : decode cY_open 66 = .ok (.dup, 1) := by decide +kernel
theorem dY_open_67 : decode cY_open 67 = .ok (.getfield 33, 3) := by decide +kernel
theorem dY_open_70 : decode cY_open 70 = .ok (.iconst 1, 1) := by decide +kernel
theorem dY_open_71 : decode cY_open 71 = .ok (.iadd, 1) := by decide +kernel
theorem dY_open_72 : decode cY_open 72 = .ok (.putfield 33, 3) := by decide +kernel
theorem dY_open_75 : decode cY_open 75 = .ok (.aload_n 0, 1) := by decide +kernel
theorem dY_open_76 : decode cY_open 76 = .ok (.getfield 33, 3) := by decide +kernel
theorem dY_open_79 : decode cY_open 79 = .ok (.iconst 1, 1) := by decide +kernel
theorem dY_open_80 : decode cY_open 80 = .ok (.isub, 1) := by decide +kernel
theorem dY_open_81 : decode cY_open 81 = .ok (.ireturn, 1) := by decide +kernel
theorem dY_insert_0 : decode cY_insert 0 = .ok (.aload_n 0, 1) := by decide +kernel
theorem dY_insert_1 : decode cY_insert 1 = .ok (.iload_n 1, 1) := by decide +kernel
theorem dY_insert_2 : decode cY_insert 2 = .ok (.invokevirtual 50, 3) := by decide +kernel
theorem dY_insert_5 : decode cY_insert 5 = .ok (.istore 5, 2) := by decide +kernel
theorem dY_insert_7 : decode cY_insert 7 = .ok (.iload 5, 2) := by decide +kernel
theorem dY_insert_9 : decode cY_insert 9 = .ok (.ifCond .eq 6, 3) := by decide +kernel
theorem dY_insert_12 : decode cY_insert 12 = .ok (.iload 5, 2) := by decide +kernel
theorem dY_insert_14 : decode cY_insert 14 = .ok (.ireturn, 1) := by decide +kernel
theorem dY_insert_15 : decode cY_insert 15 = .ok (.aload_n 0, 1) := by decide +kernel
theorem dY_insert_16 : decode cY_insert 16 = .ok (.iload_n 1, 1) := by decide +kernel
theorem dY_insert_17 : decode cY_insert 17 = .ok (.lload_n 2, 1) := by decide +kernel
theorem dY_insert_18 : decode cY_insert 18 = .ok (.invokevirtual 54, 3) := by decide +kernel
theorem dY_insert_21 : decode cY_insert 21 = .ok (.ifCond .eq 6, 3) := by decide +kernel
theorem dY_insert_24 : decode cY_insert 24 = .ok (.bipush (-6), 2) := by decide +kernel
theorem dY_insert_26 : decode cY_insert 26 = .ok (.ireturn, 1) := by decide +kernel
theorem dY_insert_27 : decode cY_insert 27 = .ok (.aload_n 0, 1) := by decide +kernel
theorem dY_insert_28 : decode cY_insert 28 = .ok (.getfield 37, 3) := by decide +kernel
theorem dY_insert_31 : decode cY_insert 31 = .ok (.sipush 160, 3) := by decide +kernel
theorem dY_insert_34 : decode cY_insert 34 = .ok (.if_icmp .ne 6, 3) := by decide +kernel
theorem dY_insert_37 : decode cY_insert 37 = .ok (.bipush (-8), 2) := by decide +kernel
theorem dY_insert_39 : decode cY_insert 39 = .ok (.ireturn, 1) := by decide +kernel
theorem dY_insert_40 : decode cY_insert 40 = .ok (.aload_n 0, 1) := by decide +kernel
theorem dY_insert_41 : decode cY_insert 41 = .ok (.getfield 24, 3) := by decide +kernel
theorem dY_insert_44 : decode cY_insert 44 = .ok (.aload_n 0, 1) := by decide +kernel
theorem dY_insert_45 : decode cY_insert 45 = .ok (.getfield 37, 3) := by decide +kernel
theorem dY_insert_48 : decode cY_insert 48 = .ok (.lload_n 2, 1) := by decide +kernel
theorem dY_insert_49 : decode cY_insert 49 = .ok (.lastore, 1) := by decide +kernel
theorem dY_insert_50 : decode cY_insert 50 = .ok (.aload_n 0, 1) := by decide +kernel
theorem dY_insert_51 : decode cY_insert 51 = .ok (.getfield 27, 3) := by decide +kernel
theorem dY_insert_54 : decode cY_insert 54 = .ok (.aload_n 0, 1) := by decide +kernel
theorem dY_insert_55 : decode cY_insert 55 = .ok (.getfield 37, 3) := by decide +kernel
theorem dY_insert_58 : decode cY_insert 58 = .ok (.iload 4, 2) := by decide +kernel
theorem dY_insert_60 : decode cY_insert 60 = .ok (.iastore, 1) := by decide +kernel
theorem dY_insert_61 : decode cY_insert 61 = .ok (.aload_n 0, 1) := by decide +kernel
theorem dY_insert_62 : decode cY_insert 62 = .ok (.getfield 30, 3) := by decide +kernel
theorem dY_insert_65 : decode cY_insert 65 = .ok (.aload_n 0, 1) := by decide +kernel
theorem dY_insert_66 : decode cY_insert 66 = .ok (.getfield 37, 3) := by decide +kernel
theorem dY_insert_69 : decode cY_insert 69 = .ok (.iload_n 1, 1) := by decide +kernel
theorem dY_insert_70 : decode cY_insert 70 = .ok (.iastore, 1) := by decide +kernel
theorem dY_insert_71 : decode cY_insert 71 = .ok (.aload_n 0, 1) := by decide +kernel
theorem dY_insert_72 : decode cY_insert 72 = .ok (.dup, 1) := by decide +kernel
theorem dY_insert_73 : decode cY_insert 73 = .ok (.getfield 37, 3) := by decide +kernel
theorem dY_insert_76 : decode cY_insert 76 = .ok (.iconst 1, 1) := by decide +kernel
theorem dY_insert_77 : decode cY_insert 77 = .ok (.iadd, 1) := by decide +kernel
theorem dY_insert_78 : decode cY_insert 78 = .ok (.putfield 37, 3) := by decide +kernel
theorem dY_insert_81 : decode cY_insert 81 = .ok (.aload_n 0, 1) := by decide +kernel
theorem dY_insert_82 : decode cY_insert 82 = .ok (.getfield 37, 3) := by decide +kernel
theorem dY_insert_85 : decode cY_insert 85 = .ok (.iconst 1, 1) := by decide +kernel
theorem dY_insert_86 : decode cY_insert 86 = .ok (.isub, 1) := by decide +kernel
theorem dY_insert_87 : decode cY_insert 87 = .ok (.ireturn, 1) := by decide +kernel
theorem dY_first_0 : decode cY_first 0 = .ok (.aload_n 0, 1) := by decide +kernel
theorem dY_first_1 : decode cY_first 1 = .ok (.iload_n 1, 1) := by decide +kernel
theorem dY_first_2 : decode cY_first 2 = .ok (.invokevirtual 50, 3) := by decide +kernel
theorem dY_first_5 : decode cY_first 5 = .ok (.istore_n 2, 1) := by decide +kernel
theorem dY_first_6 : decode cY_first 6 = .ok (.iload_n 2, 1) := by decide +kernel
theorem dY_first_7 : decode cY_first 7 = .ok (.ifCond .eq 7, 3) := by decide +kernel
theorem dY_first_10 : decode cY_first 10 = .ok (.iload_n 2, 1) := by decide +kernel
theorem dY_first_11 : decode cY_first 11 = .ok (.goto 9, 3) := by decide +kernel
theorem dY_first_14 : decode cY_first 14 = .ok (.aload_n 0, 1) := by decide +kernel
theorem dY_first_15 : decode cY_first 15 = .ok (.iload_n 1, 1) := by decide +kernel
theorem dY_first_16 : decode cY_first 16 = .ok (.iconst 1, 1) := by decide +kernel
theorem dY_first_17 : decode cY_first 17 = .ok (.invokevirtual 58, 3) := by decide +kernel
theorem dY_first_20 : decode cY_first 20 = .ok (.ireturn, 1) := by decide +kernel
theorem dY_last_0 : decode cY_last 0 = .ok (.aload_n 0, 1) := by decide +kernel
theorem dY_last_1 : decode cY_last 1 = .ok (.iload_n 1, 1) := by decide +kernel
theorem dY_last_2 : decode cY_last 2 = .ok (.invokevirtual 50, 3) := by decide +kernel
theorem dY_last_5 : decode cY_last 5 = .ok (.istore_n 2, 1) := by decide +kernel
theorem dY_last_6 : decode cY_last 6 = .ok (.iload_n 2, 1) := by decide +kernel
theorem dY_last_7 : decode cY_last 7 = .ok (.ifCond .eq 5, 3) := by decide +kernel
theorem dY_last_10 : decode cY_last 10 = .ok (.iload_n 2, 1) := by decide +kernel
theorem dY_last_11 : decode cY_last 11 = .ok (.ireturn, 1) := by decide +kernel
theorem dY_last_12 : decode cY_last 12 = .ok (.aload_n 0, 1) := by decide +kernel
theorem dY_last_13 : decode cY_last 13 = .ok (.getfield 7, 3) := by decide +kernel
theorem dY_last_16 : decode cY_last 16 = .ok (.iload_n 1, 1) := by decide +kernel
theorem dY_last_17 : decode cY_last 17 = .ok (.iaload, 1) := by decide +kernel
theorem dY_last_18 : decode cY_last 18 = .ok (.iconst 1, 1) := by decide +kernel
theorem dY_last_19 : decode cY_last 19 = .ok (.if_icmp .ne 12, 3) := by decide +kernel
theorem dY_last_22 : decode cY_last 22 = .ok (.aload_n 0, 1) := by decide +kernel
theorem dY_last_23 : decode cY_last 23 = .ok (.iload_n 1, 1) := by decide +kernel
theorem dY_last_24 : decode cY_last 24 = .ok (.iconst 0, 1) := by decide +kernel
theorem dY_last_25 : decode cY_last 25 = .ok (.invokevirtual 58, 3) := by decide +kernel
theorem dY_last_28 : decode cY_last 28 = .ok (.goto 5, 3) := by decide +kernel
theorem dY_last_31 : decode cY_last 31 = .ok (.bipush (-7), 2) := by decide +kernel
theorem dY_last_33 : decode cY_last 33 = .ok (.ireturn, 1) := by decide +kernel
theorem dY_take_0 : decode cY_take 0 = .ok (.aload_n 0, 1) := by decide +kernel
theorem dY_take_1 : decode cY_take 1 = .ok (.iload_n 1, 1) := by decide +kernel
theorem dY_take_2 : decode cY_take 2 = .ok (.invokevirtual 62, 3) := by decide +kernel
theorem dY_take_5 : decode cY_take 5 = .ok (.istore_n 2, 1) := by decide +kernel
theorem dY_take_6 : decode cY_take 6 = .ok (.iload_n 2, 1) := by decide +kernel
theorem dY_take_7 : decode cY_take 7 = .ok (.ifCond .lt 16, 3) := by decide +kernel
theorem dY_take_10 : decode cY_take 10 = .ok (.aload_n 0, 1) := by decide +kernel
theorem dY_take_11 : decode cY_take 11 = .ok (.iload_n 1, 1) := by decide +kernel
theorem dY_take_12 : decode cY_take 12 = .ok (.iload_n 2, 1) := by decide +kernel
theorem dY_take_13 : decode cY_take 13 = .ok (.invokevirtual 65, 3) := by decide +kernel
theorem dY_take_16 : decode cY_take 16 = .ok (.aload_n 0, 1) := by decide +kernel
theorem dY_take_17 : decode cY_take 17 = .ok (.getfield 30, 3) := by decide +kernel
theorem dY_take_20 : decode cY_take 20 = .ok (.iload_n 2, 1) := by decide +kernel
theorem dY_take_21 : decode cY_take 21 = .ok (.iconst (-1), 1) := by decide +kernel
theorem dY_take_22 : decode cY_take 22 = .ok (.iastore, 1) := by decide +kernel
theorem dY_take_23 : decode cY_take 23 = .ok (.iload_n 2, 1) := by decide +kernel
theorem dY_take_24 : decode cY_take 24 = .ok (.ireturn, 1) := by decide +kernel
theorem dY_takeLast_0 : decode cY_takeLast 0 = .ok (.aload_n 0, 1) := by decide +kernel
theorem dY_takeLast_1 : decode cY_takeLast 1 = .ok (.iload_n 1, 1) := by decide +kernel
theorem dY_takeLast_2 : decode cY_takeLast 2 = .ok (.invokevirtual 69, 3) := by decide +kernel
theorem dY_takeLast_5 : decode cY_takeLast 5 = .ok (.istore_n 2, 1) := by decide +kernel
theorem dY_takeLast_6 : decode cY_takeLast 6 = .ok (.iload_n 2, 1) := by decide +kernel
theorem dY_takeLast_7 : decode cY_takeLast 7 = .ok (.ifCond .lt 10, 3) := by decide +kernel
theorem dY_takeLast_10 : decode cY_takeLast 10 = .ok (.aload_n 0, 1) := by decide +kernel
theorem dY_takeLast_11 : decode cY_takeLast 11 = .ok (.getfield 30, 3) := by decide +kernel
theorem dY_takeLast_14 : decode cY_takeLast 14 = .ok (.iload_n 2, 1) := by decide +kernel
theorem dY_takeLast_15 : decode cY_takeLast 15 = .ok (.iconst (-1), 1) := by decide +kernel
theorem dY_takeLast_16 : decode cY_takeLast 16 = .ok (.iastore, 1) := by decide +kernel
theorem dY_takeLast_17 : decode cY_takeLast 17 = .ok (.iload_n 2, 1) := by decide +kernel
theorem dY_takeLast_18 : decode cY_takeLast 18 = .ok (.ireturn, 1) := by decide +kernel
theorem dY_decrease_0 : decode cY_decrease 0 = .ok (.aload_n 0, 1) := by decide +kernel
theorem dY_decrease_1 : decode cY_decrease 1 = .ok (.iload_n 1, 1) := by decide +kernel
theorem dY_decrease_2 : decode cY_decrease 2 = .ok (.invokevirtual 72, 3) := by decide +kernel
theorem dY_decrease_5 : decode cY_decrease 5 = .ok (.istore 4, 2) := by decide +kernel
theorem dY_decrease_7 : decode cY_decrease 7 = .ok (.iload 4, 2) := by decide +kernel
theorem dY_decrease_9 : decode cY_decrease 9 = .ok (.ifCond .eq 6, 3) := by decide +kernel
theorem dY_decrease_12 : decode cY_decrease 12 = .ok (.iload 4, 2) := by decide +kernel
theorem dY_decrease_14 : decode cY_decrease 14 = .ok (.ireturn, 1) := by decide +kernel
theorem dY_decrease_15 : decode cY_decrease 15 = .ok (.aload_n 0, 1) := by decide +kernel
theorem dY_decrease_16 : decode cY_decrease 16 = .ok (.getfield 30, 3) := by decide +kernel
theorem dY_decrease_19 : decode cY_decrease 19 = .ok (.iload_n 1, 1) := by decide +kernel
theorem dY_decrease_20 : decode cY_decrease 20 = .ok (.iaload, 1) := by decide +kernel
theorem dY_decrease_21 : decode cY_decrease 21 = .ok (.istore 5, 2) := by decide +kernel
theorem dY_decrease_23 : decode cY_decrease 23 = .ok (.aload_n 0, 1) := by decide +kernel
theorem dY_decrease_24 : decode cY_decrease 24 = .ok (.iload 5, 2) := by decide +kernel
theorem dY_decrease_26 : decode cY_decrease 26 = .ok (.lload_n 2, 1) := by decide +kernel
theorem dY_decrease_27 : decode cY_decrease 27 = .ok (.invokevirtual 46, 3) := by decide +kernel
theorem dY_decrease_30 : decode cY_decrease 30 = .ok (.aload_n 0, 1) := by decide +kernel
theorem dY_decrease_31 : decode cY_decrease 31 = .ok (.iload 5, 2) := by decide +kernel
theorem dY_decrease_33 : decode cY_decrease 33 = .ok (.aload_n 0, 1) := by decide +kernel
theorem dY_decrease_34 : decode cY_decrease 34 = .ok (.getfield 24, 3) := by decide +kernel
theorem dY_decrease_37 : decode cY_decrease 37 = .ok (.iload_n 1, 1) := by decide +kernel
theorem dY_decrease_38 : decode cY_decrease 38 = .ok (.laload, 1) := by decide +kernel
theorem dY_decrease_39 : decode cY_decrease 39 = .ok (.invokevirtual 46, 3) := by decide +kernel
theorem dY_decrease_42 : decode cY_decrease 42 = .ok (.lcmp, 1) := by decide +kernel
theorem dY_decrease_43 : decode cY_decrease 43 = .ok (.ifCond .le 6, 3) := by decide +kernel
theorem dY_decrease_46 : decode cY_decrease 46 = .ok (.bipush (-5), 2) := by decide +kernel
theorem dY_decrease_48 : decode cY_decrease 48 = .ok (.ireturn, 1) := by decide +kernel
theorem dY_decrease_49 : decode cY_decrease 49 = .ok (.aload_n 0, 1) := by decide +kernel
theorem dY_decrease_50 : decode cY_decrease 50 = .ok (.iload 5, 2) := by decide +kernel
theorem dY_decrease_52 : decode cY_decrease 52 = .ok (.lload_n 2, 1) := by decide +kernel
theorem dY_decrease_53 : decode cY_decrease 53 = .ok (.invokevirtual 54, 3) := by decide +kernel
theorem dY_decrease_56 : decode cY_decrease 56 = .ok (.ifCond .eq 6, 3) := by decide +kernel
theorem dY_decrease_59 : decode cY_decrease 59 = .ok (.bipush (-6), 2) := by decide +kernel
theorem dY_decrease_61 : decode cY_decrease 61 = .ok (.ireturn, 1) := by decide +kernel
theorem dY_decrease_62 : decode cY_decrease 62 = .ok (.aload_n 0, 1) := by decide +kernel
theorem dY_decrease_63 : decode cY_decrease 63 = .ok (.getfield 24, 3) := by decide +kernel
theorem dY_decrease_66 : decode cY_decrease 66 = .ok (.iload_n 1, 1) := by decide +kernel
theorem dY_decrease_67 : decode cY_decrease 67 = .ok (.lload_n 2, 1) := by decide +kernel
theorem dY_decrease_68 : decode cY_decrease 68 = .ok (.lastore, 1) := by decide +kernel
theorem dY_decrease_69 : decode cY_decrease 69 = .ok (.aload_n 0, 1) := by decide +kernel
theorem dY_decrease_70 : decode cY_decrease 70 = .ok (.iload_n 1, 1) := by decide +kernel
theorem dY_decrease_71 : decode cY_decrease 71 = .ok (.invokevirtual 75, 3) := by decide +kernel
theorem dY_decrease_74 : decode cY_decrease 74 = .ok (.ifCond .ne 7, 3) := by decide +kernel
theorem dY_decrease_77 : decode cY_decrease 77 = .ok (.iconst 1, 1) := by decide +kernel
theorem dY_decrease_78 : decode cY_decrease 78 = .ok (.goto 4, 3) := by decide +kernel
theorem dY_decrease_81 : decode cY_decrease 81 = .ok (.iconst 0, 1) := by decide +kernel
theorem dY_decrease_82 : decode cY_decrease 82 = .ok (.ireturn, 1) := by decide +kernel
theorem dY_delete_0 : decode cY_delete 0 = .ok (.aload_n 0, 1) := by decide +kernel
theorem dY_delete_1 : decode cY_delete 1 = .ok (.iload_n 1, 1) := by decide +kernel
theorem dY_delete_2 : decode cY_delete 2 = .ok (.invokevirtual 72, 3) := by decide +kernel
theorem dY_delete_5 : decode cY_delete 5 = .ok (.istore_n 2, 1) := by decide +kernel
theorem dY_delete_6 : decode cY_delete 6 = .ok (.iload_n 2, 1) := by decide +kernel
theorem dY_delete_7 : decode cY_delete 7 = .ok (.ifCond .eq 5, 3) := by decide +kernel
theorem dY_delete_10 : decode cY_delete 10 = .ok (.iload_n 2, 1) := by decide +kernel
theorem dY_delete_11 : decode cY_delete 11 = .ok (.ireturn, 1) := by decide +kernel
theorem dY_delete_12 : decode cY_delete 12 = .ok (.aload_n 0, 1) := by decide +kernel
theorem dY_delete_13 : decode cY_delete 13 = .ok (.getfield 30, 3) := by decide +kernel
theorem dY_delete_16 : decode cY_delete 16 = .ok (.iload_n 1, 1) := by decide +kernel
theorem dY_delete_17 : decode cY_delete 17 = .ok (.iaload, 1) := by decide +kernel
theorem dY_delete_18 : decode cY_delete 18 = .ok (.istore_n 3, 1) := by decide +kernel
theorem dY_delete_19 : decode cY_delete 19 = .ok (.aload_n 0, 1) := by decide +kernel
theorem dY_delete_20 : decode cY_delete 20 = .ok (.getfield 30, 3) := by decide +kernel
theorem dY_delete_23 : decode cY_delete 23 = .ok (.iload_n 1, 1) := by decide +kernel
theorem dY_delete_24 : decode cY_delete 24 = .ok (.iconst (-1), 1) := by decide +kernel
theorem dY_delete_25 : decode cY_delete 25 = .ok (.iastore, 1) := by decide +kernel
theorem dY_delete_26 : decode cY_delete 26 = .ok (.iload_n 3, 1) := by decide +kernel
theorem dY_delete_27 : decode cY_delete 27 = .ok (.ireturn, 1) := by decide +kernel
theorem dY_wrongPair_0 : decode cY_wrongPair 0 = .ok (.aload_n 0, 1) := by decide +kernel
theorem dY_wrongPair_1 : decode cY_wrongPair 1 = .ok (.iload_n 1, 1) := by decide +kernel
theorem dY_wrongPair_2 : decode cY_wrongPair 2 = .ok (.invokevirtual 50, 3) := by decide +kernel
theorem dY_wrongPair_5 : decode cY_wrongPair 5 = .ok (.istore_n 3, 1) := by decide +kernel
theorem dY_wrongPair_6 : decode cY_wrongPair 6 = .ok (.iload_n 3, 1) := by decide +kernel
theorem dY_wrongPair_7 : decode cY_wrongPair 7 = .ok (.ifCond .eq 5, 3) := by decide +kernel
theorem dY_wrongPair_10 : decode cY_wrongPair 10 = .ok (.iload_n 3, 1) := by decide +kernel
theorem dY_wrongPair_11 : decode cY_wrongPair 11 = .ok (.ireturn, 1) := by decide +kernel
theorem dY_wrongPair_12 : decode cY_wrongPair 12 = .ok (.aload_n 0, 1) := by decide +kernel
theorem dY_wrongPair_13 : decode cY_wrongPair 13 = .ok (.iload_n 2, 1) := by decide +kernel
theorem dY_wrongPair_14 : decode cY_wrongPair 14 = .ok (.invokevirtual 50, 3) := by decide +kernel
theorem dY_wrongPair_17 : decode cY_wrongPair 17 = .ok (.istore_n 3, 1) := by decide +kernel
theorem dY_wrongPair_18 : decode cY_wrongPair 18 = .ok (.iload_n 3, 1) := by decide +kernel
theorem dY_wrongPair_19 : decode cY_wrongPair 19 = .ok (.ifCond .eq 7, 3) := by decide +kernel
theorem dY_wrongPair_22 : decode cY_wrongPair 22 = .ok (.iload_n 3, 1) := by decide +kernel
theorem dY_wrongPair_23 : decode cY_wrongPair 23 = .ok (.goto 14, 3) := by decide +kernel
theorem dY_wrongPair_26 : decode cY_wrongPair 26 = .ok (.iload_n 1, 1) := by decide +kernel
theorem dY_wrongPair_27 : decode cY_wrongPair 27 = .ok (.iload_n 2, 1) := by decide +kernel
theorem dY_wrongPair_28 : decode cY_wrongPair 28 = .ok (.if_icmp .ne 8, 3) := by decide +kernel
theorem dY_wrongPair_31 : decode cY_wrongPair 31 = .ok (.bipush (-7), 2) := by decide +kernel
theorem dY_wrongPair_33 : decode cY_wrongPair 33 = .ok (.goto 4, 3) := by decide +kernel
theorem dY_wrongPair_36 : decode cY_wrongPair 36 = .ok (.iconst 0, 1) := by decide +kernel
theorem dY_wrongPair_37 : decode cY_wrongPair 37 = .ok (.ireturn, 1) := by decide +kernel
theorem dY_meld_0 : decode cY_meld 0 = .ok (.aload_n 0, 1) := by decide +kernel
theorem dY_meld_1 : decode cY_meld 1 = .ok (.iload_n 1, 1) := by decide +kernel
theorem dY_meld_2 : decode cY_meld 2 = .ok (.iload_n 2, 1) := by decide +kernel
theorem dY_meld_3 : decode cY_meld 3 = .ok (.invokevirtual 78, 3) := by decide +kernel
theorem dY_meld_6 : decode cY_meld 6 = .ok (.istore_n 3, 1) := by decide +kernel
theorem dY_meld_7 : decode cY_meld 7 = .ok (.iload_n 3, 1) := by decide +kernel
theorem dY_meld_8 : decode cY_meld 8 = .ok (.ifCond .eq 5, 3) := by decide +kernel
theorem dY_meld_11 : decode cY_meld 11 = .ok (.iload_n 3, 1) := by decide +kernel
theorem dY_meld_12 : decode cY_meld 12 = .ok (.ireturn, 1) := by decide +kernel
theorem dY_meld_13 : decode cY_meld 13 = .ok (.aload_n 0, 1) := by decide +kernel
theorem dY_meld_14 : decode cY_meld 14 = .ok (.getfield 7, 3) := by decide +kernel
theorem dY_meld_17 : decode cY_meld 17 = .ok (.iload_n 1, 1) := by decide +kernel
theorem dY_meld_18 : decode cY_meld 18 = .ok (.iaload, 1) := by decide +kernel
theorem dY_meld_19 : decode cY_meld 19 = .ok (.ifCond .ne 27, 3) := by decide +kernel
theorem dY_meld_22 : decode cY_meld 22 = .ok (.aload_n 0, 1) := by decide +kernel
theorem dY_meld_23 : decode cY_meld 23 = .ok (.getfield 7, 3) := by decide +kernel
theorem dY_meld_26 : decode cY_meld 26 = .ok (.iload_n 2, 1) := by decide +kernel
theorem dY_meld_27 : decode cY_meld 27 = .ok (.iaload, 1) := by decide +kernel
theorem dY_meld_28 : decode cY_meld 28 = .ok (.ifCond .ne 18, 3) := by decide +kernel
theorem dY_meld_31 : decode cY_meld 31 = .ok (.aload_n 0, 1) := by decide +kernel
theorem dY_meld_32 : decode cY_meld 32 = .ok (.getfield 13, 3) := by decide +kernel
theorem dY_meld_35 : decode cY_meld 35 = .ok (.iload_n 1, 1) := by decide +kernel
theorem dY_meld_36 : decode cY_meld 36 = .ok (.iaload, 1) := by decide +kernel
theorem dY_meld_37 : decode cY_meld 37 = .ok (.aload_n 0, 1) := by decide +kernel
theorem dY_meld_38 : decode cY_meld 38 = .ok (.getfield 13, 3) := by decide +kernel
theorem dY_meld_41 : decode cY_meld 41 = .ok (.iload_n 2, 1) := by decide +kernel
theorem dY_meld_42 : decode cY_meld 42 = .ok (.iaload, 1) := by decide +kernel
theorem dY_meld_43 : decode cY_meld 43 = .ok (.if_icmp .eq 6, 3) := by decide +kernel
theorem dY_meld_46 : decode cY_meld 46 = .ok (.bipush (-7), 2) := by decide +kernel
theorem dY_meld_48 : decode cY_meld 48 = .ok (.ireturn, 1) := by decide +kernel
theorem dY_meld_49 : decode cY_meld 49 = .ok (.iconst 0, 1) := by decide +kernel
theorem dY_meld_50 : decode cY_meld 50 = .ok (.istore 4, 2) := by decide +kernel
theorem dY_meld_52 : decode cY_meld 52 = .ok (.iload 4, 2) := by decide +kernel
theorem dY_meld_54 : decode cY_meld 54 = .ok (.aload_n 0, 1) := by decide +kernel
theorem dY_meld_55 : decode cY_meld 55 = .ok (.getfield 37, 3) := by decide +kernel
theorem dY_meld_58 : decode cY_meld 58 = .ok (.if_icmp .ge 38, 3) := by decide +kernel
theorem dY_meld_61 : decode cY_meld 61 = .ok (.aload_n 0, 1) := by decide +kernel
theorem dY_meld_62 : decode cY_meld 62 = .ok (.getfield 30, 3) := by decide +kernel
theorem dY_meld_65 : decode cY_meld 65 = .ok (.iload 4, 2) := by decide +kernel
theorem dY_meld_67 : decode cY_meld 67 = .ok (.aload_n 0, 1) := by decide +kernel
theorem dY_meld_68 : decode cY_meld 68 = .ok (.getfield 30, 3) := by decide +kernel
theorem dY_meld_71 : decode cY_meld 71 = .ok (.iload 4, 2) := by decide +kernel
theorem dY_meld_73 : decode cY_meld 73 = .ok (.iaload, 1) := by decide +kernel
theorem dY_meld_74 : decode cY_meld 74 = .ok (.iload_n 2, 1) := by decide +kernel
theorem dY_meld_75 : decode cY_meld 75 = .ok (.if_icmp .ne 7, 3) := by decide +kernel
theorem dY_meld_78 : decode cY_meld 78 = .ok (.iload_n 1, 1) := by decide +kernel
theorem dY_meld_79 : decode cY_meld 79 = .ok (.goto 10, 3) := by decide +kernel
theorem dY_meld_82 : decode cY_meld 82 = .ok (.aload_n 0, 1) := by decide +kernel
theorem dY_meld_83 : decode cY_meld 83 = .ok (.getfield 30, 3) := by decide +kernel
theorem dY_meld_86 : decode cY_meld 86 = .ok (.iload 4, 2) := by decide +kernel
theorem dY_meld_88 : decode cY_meld 88 = .ok (.iaload, 1) := by decide +kernel
theorem dY_meld_89 : decode cY_meld 89 = .ok (.iastore, 1) := by decide +kernel
theorem dY_meld_90 : decode cY_meld 90 = .ok (.iinc 4 1, 3) := by decide +kernel
theorem dY_meld_93 : decode cY_meld 93 = .ok (.goto (-41), 3) := by decide +kernel
theorem dY_meld_96 : decode cY_meld 96 = .ok (.aload_n 0, 1) := by decide +kernel
theorem dY_meld_97 : decode cY_meld 97 = .ok (.getfield 16, 3) := by decide +kernel
theorem dY_meld_100 : decode cY_meld 100 = .ok (.iload_n 2, 1) := by decide +kernel
theorem dY_meld_101 : decode cY_meld 101 = .ok (.iconst 1, 1) := by decide +kernel
theorem dY_meld_102 : decode cY_meld 102 = .ok (.bastore, 1) := by decide +kernel
theorem dY_meld_103 : decode cY_meld 103 = .ok (.aload_n 0, 1) := by decide +kernel
theorem dY_meld_104 : decode cY_meld 104 = .ok (.iload_n 1, 1) := by decide +kernel
theorem dY_meld_105 : decode cY_meld 105 = .ok (.invokevirtual 82, 3) := by decide +kernel
theorem dY_meld_108 : decode cY_meld 108 = .ok (.ireturn, 1) := by decide +kernel
theorem dY_drain_0 : decode cY_drain 0 = .ok (.aload_n 0, 1) := by decide +kernel
theorem dY_drain_1 : decode cY_drain 1 = .ok (.iload_n 1, 1) := by decide +kernel
theorem dY_drain_2 : decode cY_drain 2 = .ok (.iload_n 2, 1) := by decide +kernel
theorem dY_drain_3 : decode cY_drain 3 = .ok (.invokevirtual 78, 3) := by decide +kernel
theorem dY_drain_6 : decode cY_drain 6 = .ok (.istore 4, 2) := by decide +kernel
theorem dY_drain_8 : decode cY_drain 8 = .ok (.iload 4, 2) := by decide +kernel
theorem dY_drain_10 : decode cY_drain 10 = .ok (.ifCond .eq 6, 3) := by decide +kernel
theorem dY_drain_13 : decode cY_drain 13 = .ok (.iload 4, 2) := by decide +kernel
theorem dY_drain_15 : decode cY_drain 15 = .ok (.ireturn, 1) := by decide +kernel
theorem dY_drain_16 : decode cY_drain 16 = .ok (.iconst 0, 1) := by decide +kernel
theorem dY_drain_17 : decode cY_drain 17 = .ok (.istore 5, 2) := by decide +kernel
theorem dY_drain_19 : decode cY_drain 19 = .ok (.iconst 1, 1) := by decide +kernel
theorem dY_drain_20 : decode cY_drain 20 = .ok (.istore 6, 2) := by decide +kernel
theorem dY_drain_22 : decode cY_drain 22 = .ok (.iload 6, 2) := by decide +kernel
theorem dY_drain_24 : decode cY_drain 24 = .ok (.ifCond .eq 70, 3) := by decide +kernel
theorem dY_drain_27 : decode cY_drain 27 = .ok (.iload 5, 2) := by decide +kernel
theorem dY_drain_29 : decode cY_drain 29 = .ok (.iload_n 3, 1) := by decide +kernel
theorem dY_drain_30 : decode cY_drain 30 = .ok (.if_icmp .ge 64, 3) := by decide +kernel
theorem dY_drain_33 : decode cY_drain 33 = .ok (.aload_n 0, 1) := by decide +kernel
theorem dY_drain_34 : decode cY_drain 34 = .ok (.iload_n 1, 1) := by decide +kernel
theorem dY_drain_35 : decode cY_drain 35 = .ok (.iconst 1, 1) := by decide +kernel
theorem dY_drain_36 : decode cY_drain 36 = .ok (.invokevirtual 58, 3) := by decide +kernel
theorem dY_drain_39 : decode cY_drain 39 = .ok (.istore 7, 2) := by decide +kernel
theorem dY_drain_41 : decode cY_drain 41 = .ok (.iload 7, 2) := by decide +kernel
theorem dY_drain_43 : decode cY_drain 43 = .ok (.ifCond .lt 22, 3) := by decide +kernel
theorem dY_drain_46 : decode cY_drain 46 = .ok (.aload_n 0, 1) := by decide +kernel
theorem dY_drain_47 : decode cY_drain 47 = .ok (.iload_n 2, 1) := by decide +kernel
theorem dY_drain_48 : decode cY_drain 48 = .ok (.aload_n 0, 1) := by decide +kernel
theorem dY_drain_49 : decode cY_drain 49 = .ok (.getfield 24, 3) := by decide +kernel
theorem dY_drain_52 : decode cY_drain 52 = .ok (.iload 7, 2) := by decide +kernel
theorem dY_drain_54 : decode cY_drain 54 = .ok (.laload, 1) := by decide +kernel
theorem dY_drain_55 : decode cY_drain 55 = .ok (.invokevirtual 54, 3) := by decide +kernel
theorem dY_drain_58 : decode cY_drain 58 = .ok (.ifCond .ne 7, 3) := by decide +kernel
theorem dY_drain_61 : decode cY_drain 61 = .ok (.iconst 1, 1) := by decide +kernel
theorem dY_drain_62 : decode cY_drain 62 = .ok (.goto 4, 3) := by decide +kernel
theorem dY_drain_65 : decode cY_drain 65 = .ok (.iconst 0, 1) := by decide +kernel
theorem dY_drain_66 : decode cY_drain 66 = .ok (.istore 6, 2) := by decide +kernel
theorem dY_drain_68 : decode cY_drain 68 = .ok (.iload 6, 2) := by decide +kernel
theorem dY_drain_70 : decode cY_drain 70 = .ok (.ifCond .eq 21, 3) := by decide +kernel
theorem dY_drain_73 : decode cY_drain 73 = .ok (.aload_n 0, 1) := by decide +kernel
theorem dY_drain_74 : decode cY_drain 74 = .ok (.iload_n 1, 1) := by decide +kernel
theorem dY_drain_75 : decode cY_drain 75 = .ok (.iload 7, 2) := by decide +kernel
theorem dY_drain_77 : decode cY_drain 77 = .ok (.invokevirtual 65, 3) := by decide +kernel
theorem dY_drain_80 : decode cY_drain 80 = .ok (.aload_n 0, 1) := by decide +kernel
theorem dY_drain_81 : decode cY_drain 81 = .ok (.getfield 30, 3) := by decide +kernel
theorem dY_drain_84 : decode cY_drain 84 = .ok (.iload 7, 2) := by decide +kernel
theorem dY_drain_86 : decode cY_drain 86 = .ok (.iload_n 2, 1) := by decide +kernel
theorem dY_drain_87 : decode cY_drain 87 = .ok (.iastore, 1) := by decide +kernel
theorem dY_drain_88 : decode cY_drain 88 = .ok (.iinc 5 1, 3) := by decide +kernel
theorem dY_drain_91 : decode cY_drain 91 = .ok (.goto (-69), 3) := by decide +kernel
theorem dY_drain_94 : decode cY_drain 94 = .ok (.iload 5, 2) := by decide +kernel
theorem dY_drain_96 : decode cY_drain 96 = .ok (.ireturn, 1) := by decide +kernel
theorem dY_clear_0 : decode cY_clear 0 = .ok (.aload_n 0, 1) := by decide +kernel
theorem dY_clear_1 : decode cY_clear 1 = .ok (.iload_n 1, 1) := by decide +kernel
theorem dY_clear_2 : decode cY_clear 2 = .ok (.invokevirtual 50, 3) := by decide +kernel
theorem dY_clear_5 : decode cY_clear 5 = .ok (.istore_n 2, 1) := by decide +kernel
theorem dY_clear_6 : decode cY_clear 6 = .ok (.iload_n 2, 1) := by decide +kernel
theorem dY_clear_7 : decode cY_clear 7 = .ok (.ifCond .eq 5, 3) := by decide +kernel
theorem dY_clear_10 : decode cY_clear 10 = .ok (.iload_n 2, 1) := by decide +kernel
theorem dY_clear_11 : decode cY_clear 11 = .ok (.ireturn, 1) := by decide +kernel
theorem dY_clear_12 : decode cY_clear 12 = .ok (.aload_n 0, 1) := by decide +kernel
theorem dY_clear_13 : decode cY_clear 13 = .ok (.iload_n 1, 1) := by decide +kernel
theorem dY_clear_14 : decode cY_clear 14 = .ok (.invokevirtual 82, 3) := by decide +kernel
theorem dY_clear_17 : decode cY_clear 17 = .ok (.istore_n 3, 1) := by decide +kernel
theorem dY_clear_18 : decode cY_clear 18 = .ok (.iconst 0, 1) := by decide +kernel
theorem dY_clear_19 : decode cY_clear 19 = .ok (.istore 4, 2) := by decide +kernel
theorem dY_clear_21 : decode cY_clear 21 = .ok (.iload 4, 2) := by decide +kernel
theorem dY_clear_23 : decode cY_clear 23 = .ok (.aload_n 0, 1) := by decide +kernel
theorem dY_clear_24 : decode cY_clear 24 = .ok (.getfield 37, 3) := by decide +kernel
theorem dY_clear_27 : decode cY_clear 27 = .ok (.if_icmp .ge 38, 3) := by decide +kernel
theorem dY_clear_30 : decode cY_clear 30 = .ok (.aload_n 0, 1) := by decide +kernel
theorem dY_clear_31 : decode cY_clear 31 = .ok (.getfield 30, 3) := by decide +kernel
theorem dY_clear_34 : decode cY_clear 34 = .ok (.iload 4, 2) := by decide +kernel
theorem dY_clear_36 : decode cY_clear 36 = .ok (.aload_n 0, 1) := by decide +kernel
theorem dY_clear_37 : decode cY_clear 37 = .ok (.getfield 30, 3) := by decide +kernel
theorem dY_clear_40 : decode cY_clear 40 = .ok (.iload 4, 2) := by decide +kernel
theorem dY_clear_42 : decode cY_clear 42 = .ok (.iaload, 1) := by decide +kernel
theorem dY_clear_43 : decode cY_clear 43 = .ok (.iload_n 1, 1) := by decide +kernel
theorem dY_clear_44 : decode cY_clear 44 = .ok (.if_icmp .ne 7, 3) := by decide +kernel
theorem dY_clear_47 : decode cY_clear 47 = .ok (.iconst (-1), 1) := by decide +kernel
theorem dY_clear_48 : decode cY_clear 48 = .ok (.goto 10, 3) := by decide +kernel
theorem dY_clear_51 : decode cY_clear 51 = .ok (.aload_n 0, 1) := by decide +kernel
theorem dY_clear_52 : decode cY_clear 52 = .ok (.getfield 30, 3) := by decide +kernel
theorem dY_clear_55 : decode cY_clear 55 = .ok (.iload 4, 2) := by decide +kernel
theorem dY_clear_57 : decode cY_clear 57 = .ok (.iaload, 1) := by decide +kernel
theorem dY_clear_58 : decode cY_clear 58 = .ok (.iastore, 1) := by decide +kernel
theorem dY_clear_59 : decode cY_clear 59 = .ok (.iinc 4 1, 3) := by decide +kernel
theorem dY_clear_62 : decode cY_clear 62 = .ok (.goto (-41), 3) := by decide +kernel
theorem dY_clear_65 : decode cY_clear 65 = .ok (.aload_n 0, 1) := by decide +kernel
theorem dY_clear_66 : decode cY_clear 66 = .ok (.getfield 20, 3) := by decide +kernel
theorem dY_clear_69 : decode cY_clear 69 = .ok (.iload_n 1, 1) := by decide +kernel
theorem dY_clear_70 : decode cY_clear 70 = .ok (.ldc2_w 42, 3) := by decide +kernel
theorem dY_clear_73 : decode cY_clear 73 = .ok (.lastore, 1) := by decide +kernel
theorem dY_clear_74 : decode cY_clear 74 = .ok (.iload_n 3, 1) := by decide +kernel
theorem dY_clear_75 : decode cY_clear 75 = .ok (.ireturn, 1) := by decide +kernel
theorem dY_size_0 : decode cY_size 0 = .ok (.aload_n 0, 1) := by decide +kernel
theorem dY_size_1 : decode cY_size 1 = .ok (.iload_n 1, 1) := by decide +kernel
theorem dY_size_2 : decode cY_size 2 = .ok (.invokevirtual 50, 3) := by decide +kernel
theorem dY_size_5 : decode cY_size 5 = .ok (.istore_n 2, 1) := by decide +kernel
theorem dY_size_6 : decode cY_size 6 = .ok (.iload_n 2, 1) := by decide +kernel
theorem dY_size_7 : decode cY_size 7 = .ok (.ifCond .eq 7, 3) := by decide +kernel
theorem dY_size_10 : decode cY_size 10 = .ok (.iload_n 2, 1) := by decide +kernel
theorem dY_size_11 : decode cY_size 11 = .ok (.goto 8, 3) := by decide +kernel
theorem dY_size_14 : decode cY_size 14 = .ok (.aload_n 0, 1) := by decide +kernel
theorem dY_size_15 : decode cY_size 15 = .ok (.iload_n 1, 1) := by decide +kernel
theorem dY_size_16 : decode cY_size 16 = .ok (.invokevirtual 82, 3) := by decide +kernel
theorem dY_size_19 : decode cY_size 19 = .ok (.ireturn, 1) := by decide +kernel
theorem dY_floor_0 : decode cY_floor 0 = .ok (.aload_n 0, 1) := by decide +kernel
theorem dY_floor_1 : decode cY_floor 1 = .ok (.iload_n 1, 1) := by decide +kernel
theorem dY_floor_2 : decode cY_floor 2 = .ok (.invokevirtual 50, 3) := by decide +kernel
theorem dY_floor_5 : decode cY_floor 5 = .ok (.ifCond .ne 12, 3) := by decide +kernel
theorem dY_floor_8 : decode cY_floor 8 = .ok (.aload_n 0, 1) := by decide +kernel
theorem dY_floor_9 : decode cY_floor 9 = .ok (.getfield 20, 3) := by decide +kernel
theorem dY_floor_12 : decode cY_floor 12 = .ok (.iload_n 1, 1) := by decide +kernel
theorem dY_floor_13 : decode cY_floor 13 = .ok (.laload, 1) := by decide +kernel
theorem dY_floor_14 : decode cY_floor 14 = .ok (.goto 6, 3) := by decide +kernel
theorem dY_floor_17 : decode cY_floor 17 = .ok (.ldc2_w 42, 3) := by decide +kernel
theorem dY_floor_20 : decode cY_floor 20 = .ok (.lreturn, 1) := by decide +kernel
theorem dY_key_0 : decode cY_key 0 = .ok (.aload_n 0, 1) := by decide +kernel
theorem dY_key_1 : decode cY_key 1 = .ok (.iload_n 1, 1) := by decide +kernel
theorem dY_key_2 : decode cY_key 2 = .ok (.invokevirtual 72, 3) := by decide +kernel
theorem dY_key_5 : decode cY_key 5 = .ok (.ifCond .ne 12, 3) := by decide +kernel
theorem dY_key_8 : decode cY_key 8 = .ok (.aload_n 0, 1) := by decide +kernel
theorem dY_key_9 : decode cY_key 9 = .ok (.getfield 24, 3) := by decide +kernel
theorem dY_key_12 : decode cY_key 12 = .ok (.iload_n 1, 1) := by decide +kernel
theorem dY_key_13 : decode cY_key 13 = .ok (.laload, 1) := by decide +kernel
theorem dY_key_14 : decode cY_key 14 = .ok (.goto 4, 3) := by decide +kernel
theorem dY_key_17 : decode cY_key 17 = .ok (.lconst 0, 1) := by decide +kernel
theorem dY_key_18 : decode cY_key 18 = .ok (.lreturn, 1) := by decide +kernel
theorem dY_value_0 : decode cY_value 0 = .ok (.aload_n 0, 1) := by decide +kernel
theorem dY_value_1 : decode cY_value 1 = .ok (.iload_n 1, 1) := by decide +kernel
theorem dY_value_2 : decode cY_value 2 = .ok (.invokevirtual 72, 3) := by decide +kernel
theorem dY_value_5 : decode cY_value 5 = .ok (.ifCond .ne 12, 3) := by decide +kernel
theorem dY_value_8 : decode cY_value 8 = .ok (.aload_n 0, 1) := by decide +kernel
theorem dY_value_9 : decode cY_value 9 = .ok (.getfield 27, 3) := by decide +kernel
theorem dY_value_12 : decode cY_value 12 = .ok (.iload_n 1, 1) := by decide +kernel
theorem dY_value_13 : decode cY_value 13 = .ok (.iaload, 1) := by decide +kernel
theorem dY_value_14 : decode cY_value 14 = .ok (.goto 4, 3) := by decide +kernel
theorem dY_value_17 : decode cY_value 17 = .ok (.iconst 0, 1) := by decide +kernel
theorem dY_value_18 : decode cY_value 18 = .ok (.ireturn, 1) := by decide +kernel
theorem dY_owner_0 : decode cY_owner 0 = .ok (.aload_n 0, 1) := by decide +kernel
theorem dY_owner_1 : decode cY_owner 1 = .ok (.iload_n 1, 1) := by decide +kernel
theorem dY_owner_2 : decode cY_owner 2 = .ok (.invokevirtual 72, 3) := by decide +kernel
theorem dY_owner_5 : decode cY_owner 5 = .ok (.istore_n 2, 1) := by decide +kernel
theorem dY_owner_6 : decode cY_owner 6 = .ok (.iload_n 2, 1) := by decide +kernel
theorem dY_owner_7 : decode cY_owner 7 = .ok (.ifCond .eq 7, 3) := by decide +kernel
theorem dY_owner_10 : decode cY_owner 10 = .ok (.iload_n 2, 1) := by decide +kernel
theorem dY_owner_11 : decode cY_owner 11 = .ok (.goto 9, 3) := by decide +kernel
theorem dY_owner_14 : decode cY_owner 14 = .ok (.aload_n 0, 1) := by decide +kernel
theorem dY_owner_15 : decode cY_owner 15 = .ok (.getfield 30, 3) := by decide +kernel
theorem dY_owner_18 : decode cY_owner 18 = .ok (.iload_n 1, 1) := by decide +kernel
theorem dY_owner_19 : decode cY_owner 19 = .ok (.iaload, 1) := by decide +kernel
theorem dY_owner_20 : decode cY_owner 20 = .ok (.ireturn, 1) := by decide +kernel
theorem dY_before_0 : decode cY_before 0 = .ok (.aload_n 0, 1) := by decide +kernel
theorem dY_before_1 : decode cY_before 1 = .ok (.iload_n 1, 1) := by decide +kernel
theorem dY_before_2 : decode cY_before 2 = .ok (.invokevirtual 72, 3) := by decide +kernel
theorem dY_before_5 : decode cY_before 5 = .ok (.istore_n 2, 1) := by decide +kernel
theorem dY_before_6 : decode cY_before 6 = .ok (.iload_n 2, 1) := by decide +kernel
theorem dY_before_7 : decode cY_before 7 = .ok (.ifCond .eq 7, 3) := by decide +kernel
theorem dY_before_10 : decode cY_before 10 = .ok (.iload_n 2, 1) := by decide +kernel
theorem dY_before_11 : decode cY_before 11 = .ok (.goto 8, 3) := by decide +kernel
theorem dY_before_14 : decode cY_before 14 = .ok (.aload_n 0, 1) := by decide +kernel
theorem dY_before_15 : decode cY_before 15 = .ok (.iload_n 1, 1) := by decide +kernel
theorem dY_before_16 : decode cY_before 16 = .ok (.invokevirtual 75, 3) := by decide +kernel
theorem dY_before_19 : decode cY_before 19 = .ok (.ireturn, 1) := by decide +kernel
end
section
theorem gLup {ws : List Cond} (g : GoodIn wsL_law ws) : GoodIn lw_tbl ws := fun w h => ⟨wsL_law_in w (g w h).1, (g w h).2⟩
set_option maxRecDepth 100000 in
theorem gL_law_Y_open : GoodIn lw_tbl (wsV RL 17 RX1 yY_open wsY_open) := goodIn_p _ [239] (by decide +kernel) (by decide +kernel)
set_option maxRecDepth 100000 in
theorem gL_law_Y_insert : GoodIn lw_tbl (wsV RL 24 RX1 yY_insert wsY_insert) := goodIn_p _ [244, 248, 252, 256] (by decide +kernel) (by decide +kernel)
set_option maxRecDepth 100000 in
theorem gL_law_Y_first : GoodIn lw_tbl (wsV RL 29 RX1 yY_first wsY_first) := goodIn_p _ [262, 248, 266, 256] (by decide +kernel) (by decide +kernel)
set_option maxRecDepth 100000 in
theorem gL_law_Y_last : GoodIn lw_tbl (wsV RL 33 RX1 yY_last wsY_last) := goodIn_p _ [270, 248, 266, 256] (by decide +kernel) (by decide +kernel)
set_option maxRecDepth 100000 in
theorem gL_law_Y_take : GoodIn lw_tbl (wsV RL 37 RX1 yY_take wsY_take) := goodIn_p _ [274, 262, 248, 266, 256, 279] (by decide +kernel) (by decide +kernel)
set_option maxRecDepth 100000 in
theorem gL_law_Y_takeLast : GoodIn lw_tbl (wsV RL 41 RX1 yY_takeLast wsY_takeLast) := goodIn_p _ [283, 270, 248, 266, 256] (by decide +kernel) (by decide +kernel)
set_option maxRecDepth 100000 in
theorem gL_law_Y_decrease : GoodIn lw_tbl (wsV RL 46 RX1 yY_decrease wsY_decrease) := goodIn_p _ [288, 292, 256, 252, 296] (by decide +kernel) (by decide +kernel)
set_option maxRecDepth 100000 in
theorem gL_law_Y_delete : GoodIn lw_tbl (wsV RL 50 RX1 yY_delete wsY_delete) := goodIn_p _ [300, 292] (by decide +kernel) (by decide +kernel)
set_option maxRecDepth 100000 in
theorem gL_law_Y_meld : GoodIn lw_tbl (wsV RL 54 RX1 yY_meld wsY_meld) := goodIn_p _ [304, 308, 248, 312] (by decide +kernel) (by decide +kernel)
set_option maxRecDepth 100000 in
theorem gL_law_Y_drain : GoodIn lw_tbl (wsV RL 59 RX1 yY_drain wsY_drain) := goodIn_p _ [316, 308, 248, 266, 256, 252, 279] (by decide +kernel) (by decide +kernel)
set_option maxRecDepth 100000 in
theorem gL_law_Y_clear : GoodIn lw_tbl (wsV RL 63 RX1 yY_clear wsY_clear) := goodIn_p _ [320, 248, 312] (by decide +kernel) (by decide +kernel)
set_option maxRecDepth 100000 in
theorem gL_law_Y_size : GoodIn lw_tbl (wsV RL 67 RX1 yY_size wsY_size) := goodIn_p _ [324, 248, 312] (by decide +kernel) (by decide +kernel)
set_option maxRecDepth 100000 in
theorem gL_law_Y_floor : GoodIn lw_tbl (wsV RL 72 RX1 yY_floor wsY_floor) := goodIn_p _ [328, 248] (by decide +kernel) (by decide +kernel)
set_option maxRecDepth 100000 in
theorem gL_law_Y_key : GoodIn lw_tbl (wsV RL 76 RX1 yY_key wsY_key) := goodIn_p _ [332, 292] (by decide +kernel) (by decide +kernel)
set_option maxRecDepth 100000 in
theorem gL_law_Y_value : GoodIn lw_tbl (wsV RL 80 RX1 yY_value wsY_value) := goodIn_p _ [336, 292] (by decide +kernel) (by decide +kernel)
set_option maxRecDepth 100000 in
theorem gL_law_Y_owner : GoodIn lw_tbl (wsV RL 84 RX1 yY_owner wsY_owner) := goodIn_p _ [340, 292] (by decide +kernel) (by decide +kernel)
set_option maxRecDepth 100000 in
theorem gL_law_Y_before : GoodIn lw_tbl (wsV RL 88 RX1 yY_before wsY_before) := goodIn_p _ [344, 292, 296, 256] (by decide +kernel) (by decide +kernel)
set_option maxRecDepth 100000 in
theorem gL_law_Y_init : GoodIn lw_tbl wsY_init := goodIn_p _ [206, 34] (by decide +kernel) (by decide +kernel)
end
section
/-! the reference's world, over the same kind of state -/
abbrev yW (G : Nat → Nat) (C : Nat → ClassId) (u : xS) : va_W :=
  [(G 0, .inr (1, [.int (nI (xm u)), .ref (G 1), .ref (G 2), .ref (G 3), .ref (G 4), .int (nI (xn u)), .ref (G 5), .ref (G 6), .ref (G 7)])),
   (G 1, .inl (C 1, 12, .inl (xkd u))), (G 2, .inl (C 2, 12, .inl (xod u))), (G 3, .inl (C 3, 12, .inl (xab u))), (G 4, .inl (C 4, 12, .inr (.inl (xfl u)))),
   (G 5, .inl (C 5, 160, .inr (.inl (xky u)))), (G 6, .inl (C 6, 160, .inl (xvl u))), (G 7, .inl (C 7, 160, .inl (xow u)))]
abbrev yT (C : Nat → ClassId) : List (ClassId × FieldType) := [(C 1, .int), (C 2, .int), (C 3, .boolean), (C 4, .long), (C 5, .long), (C 6, .int), (C 7, .int)]
end
section
theorem lt_in {x : Int32} {n N : Nat} (c1 : ¬ x < 0) (c2 : x < nI n) (hn : n ≤ N) (hN : N < 2 ^ 31) : vp_in x N ∧ ∃ j, j < n ∧ x = nI j := by
  obtain ⟨j, hj, rfl⟩ := nI_of c1
  have h3 : j < n := (nI_ltI hj (by omega)).mp c2
  exact ⟨vp_in_nI (Nat.lt_of_lt_of_le h3 hn) hN, j, h3, rfl⟩
theorem cnt_ne {n N : Nat} {X : Int32} (c : ¬ nI n = X) (hn : n ≤ N) (hX : X = nI N := by decide) (hN : N < 2 ^ 31 := by decide) : vp_in (nI n) N := by
  subst hX
  refine vp_in_nI (Nat.lt_of_le_of_ne hn (fun q => c (by rw [q]))) hN
def yp_wrongHeap (u : xS) (h : Int32) : Int32 :=
  (if h < 0 then
    (-2)
  else (if h < (nI (xm u)) then
      (if ((xab u) (h).toNatClampNeg) = 0 then
        0
      else (-3))
    else (-2)))
set_option maxHeartbeats 4000000 in
set_option maxRecDepth 100000 in
theorem yb_wrongHeap {p : Program} {l : Launch} {e : Env} {s : State} {m : MethodId} {args : Array Value} {below : List Frame} {meth : Method} {c : Code} {Q : State → Prop} {A : Nat → Prop} {ls : Array Slot} {dC : Nat → ClassId} {dI : Nat → Nat → Nat} {G : Nat → Nat} {C : Nat → ClassId} {u : xS} {h : Int32} (hm : xm u ≤ 12) (B : CallFix p m c cY_wrongHeap 2 s args wsY_wrongHeap RX1) (hK : va_K (dC, dI) vwCl (yT C) s) (hA : ∀ q : Nat, s.heap.size ≤ q → A q) (hP : va_P (dC, dI) vwCl (yW G C u) s.heap) (hD : va_D A (yW G C u)) (hl : lv_has ls 2 [(0, .ref (G 0)), (1, .int h)]) (kk : (∀ (H : Heap) (locs : List Loc) (pc : Nat) (ls : Array Slot), decode cY_wrongHeap pc = .ok (.ireturn, 1) → va_P (dC, dI) vwCl (yW G C u) H → va_D A (yW G C u) → va_S A s.heap H locs → W p l e (xR 0 0) s m args below meth c H locs 0 0 Q (F0 m pc ls [.int (yp_wrongHeap u h)]))) : W p l e (xR 0 0) s m args below meth c s.heap [] 0 0 Q (F0 m 0 ls []) := by
  obtain ⟨hx, hb, hml, hown, hts⟩ := B
  have hS : va_S A s.heap s.heap [] := va_S.rf
  have hfw : ∀ w ∈ u_ws RX1 TX1 9, w ∈ wsY_wrongHeap := by decide +kernel
  refine lv_iload_n hx hb dY_wrongHeap_0 rfl (lv_at hl 1 rfl) ?_
  refine lv_if_lt (tgt := 12) hx hb dY_wrongHeap_1 rfl (fun c1 => ?_) (fun c1 => ?_)
  · refine lv_bipush (v := (-2)) hx hb dY_wrongHeap_12 (by decide) ?_
    have e9 : yp_wrongHeap u h = (-2) := by unfold yp_wrongHeap; rw [if_pos c1]
    exact W.eq (congrArg (fun z => F0 m 14 ls [.int z]) e9.symm) (kk _ _ _ _ dY_wrongHeap_14 hP hD hS)
  · refine lv_iload_n hx hb dY_wrongHeap_4 rfl (lv_at hl 1 rfl) ?_
    refine lv_aload_n hx hb dY_wrongHeap_5 rfl (lv_at hl 0 rfl) ?_
    refine va_get (D := (dC, dI)) (ci := 1) (v := .int (nI (xm u))) (C := RX1) (T := TX1) (N := 9) hx hb hts hfw hown hK hP 0 rfl rfl 0 (by decide) (hts (.fieldLink RX1 33 "MeldingHeapsModel" "opened" "I") (by decide +kernel)) (fun _ h9 => h9) rfl dY_wrongHeap_6 ?_
    refine lv_icmp_lt (tgt := 15) hx hb dY_wrongHeap_9 rfl (fun c9 => ?_) (fun c9 => ?_)
    · refine lv_aload_n hx hb dY_wrongHeap_15 rfl (lv_at hl 0 rfl) ?_
      refine va_get (D := (dC, dI)) (ci := 1) (v := .ref (G 3)) (C := RX1) (T := TX1) (N := 9) hx hb hts hfw hown hK hP 0 rfl rfl 3 (by decide) (hts (.fieldLink RX1 16 "MeldingHeapsModel" "gone" "[Z") (by decide +kernel)) (fun _ h9 => h9) rfl dY_wrongHeap_16 ?_
      refine lv_iload_n hx hb dY_wrongHeap_19 rfl (lv_at hl 1 rfl) ?_
      refine va_zald (f := (xab u)) hx hb hK hP 3 2 rfl rfl ((lt_in c1 c9 hm (by decide)).1) dY_wrongHeap_20 ?_
      refine lv_if_eq (tgt := 29) hx hb dY_wrongHeap_21 rfl (fun c21 => ?_) (fun c21 => ?_)
      · refine lv_iconst (v := 0) hx hb dY_wrongHeap_29 (by decide) ?_
        have e9 : yp_wrongHeap u h = 0 := by unfold yp_wrongHeap; rw [if_neg c1, if_pos c9, if_pos c21]
        exact W.eq (congrArg (fun z => F0 m 30 ls [.int z]) e9.symm) (kk _ _ _ _ dY_wrongHeap_30 hP hD hS)
      · refine lv_bipush (v := (-3)) hx hb dY_wrongHeap_24 (by decide) ?_
        refine lv_goto (tgt := 30) hx hb dY_wrongHeap_26 rfl ?_
        have e9 : yp_wrongHeap u h = (-3) := by unfold yp_wrongHeap; rw [if_neg c1, if_pos c9, if_neg c21]
        exact W.eq (congrArg (fun z => F0 m 30 ls [.int z]) e9.symm) (kk _ _ _ _ dY_wrongHeap_30 hP hD hS)
    · refine lv_bipush (v := (-2)) hx hb dY_wrongHeap_12 (by decide) ?_
      have e9 : yp_wrongHeap u h = (-2) := by unfold yp_wrongHeap; rw [if_neg c1, if_neg c9]
      exact W.eq (congrArg (fun z => F0 m 14 ls [.int z]) e9.symm) (kk _ _ _ _ dY_wrongHeap_14 hP hD hS)
theorem yc_wrongHeap (l : Launch) (dC : Nat → ClassId) (dI : Nat → Nat → Nat) (G : Nat → Nat) (C : Nat → ClassId) (sz : Nat) (u : xS) (h : Int32) (hm : xm u ≤ 12) : xMi l yY_wrongHeap wsY_wrongHeap (xR 0 0) dC dI (yT C) [.ref (G 0), .int h] (yW G C u) (yW G C u) (yp_wrongHeap u h) sz :=
  xmet_i (by decide) rfl rfl (Nat.le_of_ble_eq_true rfl) rfl (fun p e s m args below meth c Q A ls B hK hA hP hD hl kk => yb_wrongHeap hm B hK hA hP hD hl kk)
theorem yin_wH {u : xS} {h : Int32} (hm : xm u ≤ 12) (c : yp_wrongHeap u h = 0) : vp_in h 12 := by
  unfold yp_wrongHeap at c
  by_cases h1 : h < 0
  · rw [if_pos h1] at c; exact absurd c (by decide)
  · rw [if_neg h1] at c
    by_cases h2 : h < (nI (xm u))
    · exact (lt_in h1 h2 hm (by decide)).1
    · rw [if_neg h2] at c; exact absurd c (by decide)
theorem ywH_neg {u : xS} {h : Int32} (c : ¬ yp_wrongHeap u h = 0) : yp_wrongHeap u h < 0 := by
  unfold yp_wrongHeap at c ⊢
  by_cases h1 : h < 0
  · rw [if_pos h1]; decide
  · rw [if_neg h1] at c ⊢
    by_cases h2 : h < (nI (xm u))
    · rw [if_pos h2] at c ⊢
      by_cases h3 : (xab u h.toNatClampNeg) = 0
      · rw [if_pos h3] at c; exact absurd rfl c
      · rw [if_neg h3]; decide
    · rw [if_neg h2]; decide
def yp_wrongEntry (u : xS) (a : Int32) : Int32 :=
  (if a < 0 then
    (-2)
  else (if a < (nI (xn u)) then
      (if 0 ≤ ((xow u) (a).toNatClampNeg) then
        0
      else (-4))
    else (-2)))
set_option maxHeartbeats 4000000 in
set_option maxRecDepth 100000 in
theorem yb_wrongEntry {p : Program} {l : Launch} {e : Env} {s : State} {m : MethodId} {args : Array Value} {below : List Frame} {meth : Method} {c : Code} {Q : State → Prop} {A : Nat → Prop} {ls : Array Slot} {dC : Nat → ClassId} {dI : Nat → Nat → Nat} {G : Nat → Nat} {C : Nat → ClassId} {u : xS} {a : Int32} (hn : xn u ≤ 160) (B : CallFix p m c cY_wrongEntry 2 s args wsY_wrongEntry RX1) (hK : va_K (dC, dI) vwCl (yT C) s) (hA : ∀ q : Nat, s.heap.size ≤ q → A q) (hP : va_P (dC, dI) vwCl (yW G C u) s.heap) (hD : va_D A (yW G C u)) (hl : lv_has ls 2 [(0, .ref (G 0)), (1, .int a)]) (kk : (∀ (H : Heap) (locs : List Loc) (pc : Nat) (ls : Array Slot), decode cY_wrongEntry pc = .ok (.ireturn, 1) → va_P (dC, dI) vwCl (yW G C u) H → va_D A (yW G C u) → va_S A s.heap H locs → W p l e (xR 0 0) s m args below meth c H locs 0 0 Q (F0 m pc ls [.int (yp_wrongEntry u a)]))) : W p l e (xR 0 0) s m args below meth c s.heap [] 0 0 Q (F0 m 0 ls []) := by
  obtain ⟨hx, hb, hml, hown, hts⟩ := B
  have hS : va_S A s.heap s.heap [] := va_S.rf
  have hfw : ∀ w ∈ u_ws RX1 TX1 9, w ∈ wsY_wrongEntry := by decide +kernel
  refine lv_iload_n hx hb dY_wrongEntry_0 rfl (lv_at hl 1 rfl) ?_
  refine lv_if_lt (tgt := 12) hx hb dY_wrongEntry_1 rfl (fun c1 => ?_) (fun c1 => ?_)
  · refine lv_bipush (v := (-2)) hx hb dY_wrongEntry_12 (by decide) ?_
    have e9 : yp_wrongEntry u a = (-2) := by unfold yp_wrongEntry; rw [if_pos c1]
    exact W.eq (congrArg (fun z => F0 m 14 ls [.int z]) e9.symm) (kk _ _ _ _ dY_wrongEntry_14 hP hD hS)
  · refine lv_iload_n hx hb dY_wrongEntry_4 rfl (lv_at hl 1 rfl) ?_
    refine lv_aload_n hx hb dY_wrongEntry_5 rfl (lv_at hl 0 rfl) ?_
    refine va_get (D := (dC, dI)) (ci := 1) (v := .int (nI (xn u))) (C := RX1) (T := TX1) (N := 9) hx hb hts hfw hown hK hP 0 rfl rfl 5 (by decide) (hts (.fieldLink RX1 37 "MeldingHeapsModel" "inserted" "I") (by decide +kernel)) (fun _ h9 => h9) rfl dY_wrongEntry_6 ?_
    refine lv_icmp_lt (tgt := 15) hx hb dY_wrongEntry_9 rfl (fun c9 => ?_) (fun c9 => ?_)
    · refine lv_aload_n hx hb dY_wrongEntry_15 rfl (lv_at hl 0 rfl) ?_
      refine va_get (D := (dC, dI)) (ci := 1) (v := .ref (G 7)) (C := RX1) (T := TX1) (N := 9) hx hb hts hfw hown hK hP 0 rfl rfl 8 (by decide) (hts (.fieldLink RX1 30 "MeldingHeapsModel" "homes" "[I") (by decide +kernel)) (fun _ h9 => h9) rfl dY_wrongEntry_16 ?_
      refine lv_iload_n hx hb dY_wrongEntry_19 rfl (lv_at hl 1 rfl) ?_
      refine va_iald (f := (xow u)) hx hb hK hP 7 6 rfl rfl ((lt_in c1 c9 hn (by decide)).1) dY_wrongEntry_20 ?_
      refine lv_if_ge (tgt := 29) hx hb dY_wrongEntry_21 rfl (fun c21 => ?_) (fun c21 => ?_)
      · refine lv_iconst (v := 0) hx hb dY_wrongEntry_29 (by decide) ?_
        have e9 : yp_wrongEntry u a = 0 := by unfold yp_wrongEntry; rw [if_neg c1, if_pos c9, if_pos c21]
        exact W.eq (congrArg (fun z => F0 m 30 ls [.int z]) e9.symm) (kk _ _ _ _ dY_wrongEntry_30 hP hD hS)
      · refine lv_bipush (v := (-4)) hx hb dY_wrongEntry_24 (by decide) ?_
        refine lv_goto (tgt := 30) hx hb dY_wrongEntry_26 rfl ?_
        have e9 : yp_wrongEntry u a = (-4) := by unfold yp_wrongEntry; rw [if_neg c1, if_pos c9, if_neg c21]
        exact W.eq (congrArg (fun z => F0 m 30 ls [.int z]) e9.symm) (kk _ _ _ _ dY_wrongEntry_30 hP hD hS)
    · refine lv_bipush (v := (-2)) hx hb dY_wrongEntry_12 (by decide) ?_
      have e9 : yp_wrongEntry u a = (-2) := by unfold yp_wrongEntry; rw [if_neg c1, if_neg c9]
      exact W.eq (congrArg (fun z => F0 m 14 ls [.int z]) e9.symm) (kk _ _ _ _ dY_wrongEntry_14 hP hD hS)
theorem yc_wrongEntry (l : Launch) (dC : Nat → ClassId) (dI : Nat → Nat → Nat) (G : Nat → Nat) (C : Nat → ClassId) (sz : Nat) (u : xS) (a : Int32) (hn : xn u ≤ 160) : xMi l yY_wrongEntry wsY_wrongEntry (xR 0 0) dC dI (yT C) [.ref (G 0), .int a] (yW G C u) (yW G C u) (yp_wrongEntry u a) sz :=
  xmet_i (by decide) rfl rfl (Nat.le_of_ble_eq_true rfl) rfl (fun p e s m args below meth c Q A ls B hK hA hP hD hl kk => yb_wrongEntry hn B hK hA hP hD hl kk)
theorem yin_wE {u : xS} {a : Int32} (hn : xn u ≤ 160) (c : yp_wrongEntry u a = 0) : vp_in a 160 ∧ (∃ j, j < xn u ∧ a = nI j) ∧ 0 ≤ xow u a.toNatClampNeg := by
  unfold yp_wrongEntry at c
  by_cases h1 : a < 0
  · rw [if_pos h1] at c; exact absurd c (by decide)
  · rw [if_neg h1] at c
    by_cases h2 : a < (nI (xn u))
    · rw [if_pos h2] at c
      by_cases h3 : 0 ≤ (xow u a.toNatClampNeg)
      · exact ⟨(lt_in h1 h2 hn (by decide)).1, (lt_in h1 h2 hn (by decide)).2, h3⟩
      · rw [if_neg h3] at c; exact absurd c (by decide)
    · rw [if_neg h2] at c; exact absurd c (by decide)
theorem yin_own {u : xS} {a : Int32} (hn : xn u ≤ 160) (ho : ∀ j : Nat, j < xn u → xow u j = -1 ∨ vp_in (xow u j) 12) (c : yp_wrongEntry u a = 0) : vp_in (xow u a.toNatClampNeg) 12 := by
  obtain ⟨-, ⟨j, hj, rfl⟩, h2⟩ := yin_wE hn c
  rw [nI_clamp (show j < 2 ^ 31 by omega)] at h2 ⊢
  refine (ho j hj).resolve_left (fun q => ?_)
  rw [q] at h2
  exact absurd h2 (by decide)
def yp_weight (u : xS) (h : Int32) (k : Int64) : Int64 :=
  (if ((xod u) (h).toNatClampNeg) = 0 then
    k
  else (if ((xod u) (h).toNatClampNeg) = 1 then
      ((-1) - k)
    else (if ((xod u) (h).toNatClampNeg) = 2 then
        (k ^^^ (-9223372036854775808))
      else (k &&& 65535))))
set_option maxHeartbeats 4000000 in
set_option maxRecDepth 100000 in
theorem yb_weight {p : Program} {l : Launch} {e : Env} {s : State} {m : MethodId} {args : Array Value} {below : List Frame} {meth : Method} {c : Code} {Q : State → Prop} {A : Nat → Prop} {ls : Array Slot} {dC : Nat → ClassId} {dI : Nat → Nat → Nat} {G : Nat → Nat} {C : Nat → ClassId} {u : xS} {h : Int32} {k : Int64} (hh : vp_in h 12) (B : CallFix p m c cY_weight 5 s args wsY_weight RX1) (hK : va_K (dC, dI) vwCl (yT C) s) (hA : ∀ q : Nat, s.heap.size ≤ q → A q) (hP : va_P (dC, dI) vwCl (yW G C u) s.heap) (hD : va_D A (yW G C u)) (hl : lv_has ls 5 [(0, .ref (G 0)), (1, .int h), (2, .long k)]) (kk : (∀ (H : Heap) (locs : List Loc) (pc : Nat) (ls : Array Slot), decode cY_weight pc = .ok (.lreturn, 1) → va_P (dC, dI) vwCl (yW G C u) H → va_D A (yW G C u) → va_S A s.heap H locs → W p l e (xR 0 0) s m args below meth c H locs 0 0 Q (F0 m pc ls [.long (yp_weight u h k)]))) : W p l e (xR 0 0) s m args below meth c s.heap [] 0 0 Q (F0 m 0 ls []) := by
  obtain ⟨hx, hb, hml, hown, hts⟩ := B
  have hS : va_S A s.heap s.heap [] := va_S.rf
  have hfw : ∀ w ∈ u_ws RX1 TX1 9, w ∈ wsY_weight := by decide +kernel
  refine lv_aload_n hx hb dY_weight_0 rfl (lv_at hl 0 rfl) ?_
  refine va_get (D := (dC, dI)) (ci := 1) (v := .ref (G 2)) (C := RX1) (T := TX1) (N := 9) hx hb hts hfw hown hK hP 0 rfl rfl 2 (by decide) (hts (.fieldLink RX1 13 "MeldingHeapsModel" "orders" "[I") (by decide +kernel)) (fun _ h9 => h9) rfl dY_weight_1 ?_
  refine lv_iload_n hx hb dY_weight_4 rfl (lv_at hl 1 rfl) ?_
  refine va_iald (f := (xod u)) hx hb hK hP 2 1 rfl rfl (hh) dY_weight_5 ?_
  refine lv_istore (lv' := [(4, .int ((xod u) (h).toNatClampNeg)), (0, .ref (G 0)), (1, .int h), (2, .long k)]) hx hb dY_weight_6 hl (by decide) rfl (fun ls hl => ?_)
  refine lv_iload hx hb dY_weight_8 (lv_at hl 0 rfl) ?_
  refine lv_if_ne (tgt := 15) hx hb dY_weight_10 rfl (fun c10 => ?_) (fun c10 => ?_)
  · refine lv_iload hx hb dY_weight_15 (lv_at hl 0 rfl) ?_
    refine lv_iconst (v := 1) hx hb dY_weight_17 (by decide) ?_
    refine lv_icmp_ne (tgt := 27) hx hb dY_weight_18 rfl (fun c18 => ?_) (fun c18 => ?_)
    · refine lv_iload hx hb dY_weight_27 (lv_at hl 0 rfl) ?_
      refine lv_iconst (v := 2) hx hb dY_weight_29 (by decide) ?_
      refine lv_icmp_ne (tgt := 41) hx hb dY_weight_30 rfl (fun c30 => ?_) (fun c30 => ?_)
      · refine lv_lload_n hx hb dY_weight_41 rfl (lv_at hl 3 rfl) ?_
        refine lv_ldc2 (v := 65535) hx hb hown (hts (.constantLong RX1 44 65535) (by decide +kernel)) dY_weight_42 ?_
        refine lv_land hx hb dY_weight_45 ?_
        have e9 : yp_weight u h k = (k &&& 65535) := by unfold yp_weight; rw [if_neg c10, if_neg c18, if_neg c30]
        exact W.eq (congrArg (fun z => F0 m 46 ls [.long z]) e9.symm) (kk _ _ _ _ dY_weight_46 hP hD hS)
      · refine lv_lload_n hx hb dY_weight_33 rfl (lv_at hl 3 rfl) ?_
        refine lv_ldc2 (v := (-9223372036854775808)) hx hb hown (hts (.constantLong RX1 42 (-9223372036854775808)) (by decide +kernel)) dY_weight_34 ?_
        refine lv_lxor hx hb dY_weight_37 ?_
        refine lv_goto (tgt := 46) hx hb dY_weight_38 rfl ?_
        have e9 : yp_weight u h k = (k ^^^ (-9223372036854775808)) := by unfold yp_weight; rw [if_neg c10, if_neg c18, if_pos c30]
        exact W.eq (congrArg (fun z => F0 m 46 ls [.long z]) e9.symm) (kk _ _ _ _ dY_weight_46 hP hD hS)
    · refine lv_ldc2 (v := (-1)) hx hb hown (hts (.constantLong RX1 40 (-1)) (by decide +kernel)) dY_weight_21 ?_
      refine lv_lload_n hx hb dY_weight_24 rfl (lv_at hl 3 rfl) ?_
      refine lv_lsub hx hb dY_weight_25 ?_
      have e9 : yp_weight u h k = ((-1) - k) := by unfold yp_weight; rw [if_neg c10, if_pos c18]
      exact W.eq (congrArg (fun z => F0 m 26 ls [.long z]) e9.symm) (kk _ _ _ _ dY_weight_26 hP hD hS)
  · refine lv_lload_n hx hb dY_weight_13 rfl (lv_at hl 3 rfl) ?_
    have e9 : yp_weight u h k = k := by unfold yp_weight; rw [if_pos c10]
    exact W.eq (congrArg (fun z => F0 m 14 ls [.long z]) e9.symm) (kk _ _ _ _ dY_weight_14 hP hD hS)
theorem yc_weight (l : Launch) (dC : Nat → ClassId) (dI : Nat → Nat → Nat) (G : Nat → Nat) (C : Nat → ClassId) (sz : Nat) (u : xS) (h : Int32) (k : Int64) (hh : vp_in h 12) : xMl l yY_weight wsY_weight (xR 0 0) dC dI (yT C) [.ref (G 0), .int h, .long k] (yW G C u) (yW G C u) (yp_weight u h k) sz :=
  xmet_l (by decide) rfl (Nat.le_of_ble_eq_true rfl) rfl (fun p e s m args below meth c Q A ls B hK hA hP hD hl kk => yb_weight hh B hK hA hP hD hl kk)
def yp_isBelow (u : xS) (h : Int32) (k : Int64) : Int32 :=
  (if ((xkd u) (h).toNatClampNeg) = 2 then
    (if 0 ≤ (lg_cmp (yp_weight u h k) ((xfl u) (h).toNatClampNeg)) then
      0
    else 1)
  else 0)
set_option maxHeartbeats 4000000 in
set_option maxRecDepth 100000 in
theorem yb_isBelow {p : Program} {l : Launch} {e : Env} {s : State} {m : MethodId} {args : Array Value} {below : List Frame} {meth : Method} {c : Code} {Q : State → Prop} {A : Nat → Prop} {ls : Array Slot} {dC : Nat → ClassId} {dI : Nat → Nat → Nat} {G : Nat → Nat} {C : Nat → ClassId} {u : xS} {h : Int32} {k : Int64} (hh : vp_in h 12) (B : CallFix p m c cY_isBelow 4 s args wsY_isBelow RX1) (hK : va_K (dC, dI) vwCl (yT C) s) (hA : ∀ q : Nat, s.heap.size ≤ q → A q) (hP : va_P (dC, dI) vwCl (yW G C u) s.heap) (hD : va_D A (yW G C u)) (hl : lv_has ls 4 [(0, .ref (G 0)), (1, .int h), (2, .long k)]) (kk : (∀ (H : Heap) (locs : List Loc) (pc : Nat) (ls : Array Slot), decode cY_isBelow pc = .ok (.ireturn, 1) → va_P (dC, dI) vwCl (yW G C u) H → va_D A (yW G C u) → va_S A s.heap H locs → W p l e (xR 1 24) s m args below meth c H locs 0 0 Q (F0 m pc ls [.int (yp_isBelow u h k)]))) : W p l e (xR 1 24) s m args below meth c s.heap [] 0 0 Q (F0 m 0 ls []) := by
  obtain ⟨hx, hb, hml, hown, hts⟩ := B
  have hS : va_S A s.heap s.heap [] := va_S.rf
  have hfw : ∀ w ∈ u_ws RX1 TX1 9, w ∈ wsY_isBelow := by decide +kernel
  refine lv_aload_n hx hb dY_isBelow_0 rfl (lv_at hl 0 rfl) ?_
  refine va_get (D := (dC, dI)) (ci := 1) (v := .ref (G 1)) (C := RX1) (T := TX1) (N := 9) hx hb hts hfw hown hK hP 0 rfl rfl 1 (by decide) (hts (.fieldLink RX1 7 "MeldingHeapsModel" "kinds" "[I") (by decide +kernel)) (fun _ h9 => h9) rfl dY_isBelow_1 ?_
  refine lv_iload_n hx hb dY_isBelow_4 rfl (lv_at hl 1 rfl) ?_
  refine va_iald (f := (xkd u)) hx hb hK hP 1 0 rfl rfl (hh) dY_isBelow_5 ?_
  refine lv_iconst (v := 2) hx hb dY_isBelow_6 (by decide) ?_
  refine lv_icmp_ne (tgt := 30) hx hb dY_isBelow_7 rfl (fun c7 => ?_) (fun c7 => ?_)
  · refine lv_iconst (v := 0) hx hb dY_isBelow_30 (by decide) ?_
    have e9 : yp_isBelow u h k = 0 := by unfold yp_isBelow; rw [if_neg c7]
    exact W.eq (congrArg (fun z => F0 m 31 ls [.int z]) e9.symm) (kk _ _ _ _ dY_isBelow_31 hP hD hS)
  · refine lv_aload_n hx hb dY_isBelow_10 rfl (lv_at hl 0 rfl) ?_
    refine lv_iload_n hx hb dY_isBelow_11 rfl (lv_at hl 1 rfl) ?_
    refine lv_lload_n hx hb dY_isBelow_12 rfl (lv_at hl 2 rfl) ?_
    refine xcall_l (ws := (yW G C u)) (wc := (yW G C u)) (wr := []) (w1 := (yW G C u)) (v := (yp_weight u h k)) [0, 1, 2, 3, 4, 5, 6, 7] [] (va_runV (As := [.int h, .long k]) (rest := []) ⟨hx, hb, hml, hown, hts⟩ (yc_weight l dC dI G C _ u h k hh) (cwV 2 hts gY_isBelow_Y_weight rfl rfl rfl (by decide +kernel) ⟨Nat.le_of_ble_eq_true rfl, Nat.le_of_ble_eq_true rfl⟩) (xpreV (q0 := 0) (ci := 1) (qc := (RX1, TX1, 9)) hK hP hD rfl rfl) rfl rfl hl.1 rfl (lv_room (Nat.le_of_ble_eq_true rfl)) dY_isBelow_13 ⟨Nat.zero_le _, Nat.zero_le _⟩) hP hD hS hA rfl rfl (by decide) (by decide) (fun H locs hP hD hS => ?_)
    have hP : va_P (dC, dI) vwCl (yW G C u) H := hP
    have hD : va_D A (yW G C u) := hD
    refine lv_aload_n hx hb dY_isBelow_16 rfl (lv_at hl 0 rfl) ?_
    refine va_get (D := (dC, dI)) (ci := 1) (v := .ref (G 4)) (C := RX1) (T := TX1) (N := 9) hx hb hts hfw hown hK hP 0 rfl rfl 4 (by decide) (hts (.fieldLink RX1 20 "MeldingHeapsModel" "floors" "[J") (by decide +kernel)) (fun _ h9 => h9) rfl dY_isBelow_17 ?_
    refine lv_iload_n hx hb dY_isBelow_20 rfl (lv_at hl 1 rfl) ?_
    refine va_lald (f := (xfl u)) hx hb hK hP 4 3 rfl rfl (hh) dY_isBelow_21 ?_
    refine W.lcmp hx hb dY_isBelow_22 ?_
    refine lv_if_ge (tgt := 30) hx hb dY_isBelow_23 rfl (fun c23 => ?_) (fun c23 => ?_)
    · refine lv_iconst (v := 0) hx hb dY_isBelow_30 (by decide) ?_
      have e9 : yp_isBelow u h k = 0 := by unfold yp_isBelow; rw [if_pos c7, if_pos c23]
      exact W.eq (congrArg (fun z => F0 m 31 ls [.int z]) e9.symm) (kk _ _ _ _ dY_isBelow_31 hP hD hS)
    · refine lv_iconst (v := 1) hx hb dY_isBelow_26 (by decide) ?_
      refine lv_goto (tgt := 31) hx hb dY_isBelow_27 rfl ?_
      have e9 : yp_isBelow u h k = 1 := by unfold yp_isBelow; rw [if_pos c7, if_neg c23]
      exact W.eq (congrArg (fun z => F0 m 31 ls [.int z]) e9.symm) (kk _ _ _ _ dY_isBelow_31 hP hD hS)
theorem yc_isBelow (l : Launch) (dC : Nat → ClassId) (dI : Nat → Nat → Nat) (G : Nat → Nat) (C : Nat → ClassId) (sz : Nat) (u : xS) (h : Int32) (k : Int64) (hh : vp_in h 12) : xMi l yY_isBelow wsY_isBelow (xR 1 24) dC dI (yT C) [.ref (G 0), .int h, .long k] (yW G C u) (yW G C u) (yp_isBelow u h k) sz :=
  xmet_i (by decide) rfl (by unfold yp_isBelow; (repeat' split) <;> rfl) (Nat.le_of_ble_eq_true rfl) rfl (fun p e s m args below meth c Q A ls B hK hA hP hD hl kk => yb_isBelow hh B hK hA hP hD hl kk)
def yq_leave (u : xS) (h : Int32) (a : Int32) : xS :=
  (if ((xkd u) (h).toNatClampNeg) = 2 then
    (sFl u (vp_updL (xfl u) (h).toNatClampNeg (yp_weight u h ((xky u) (a).toNatClampNeg))))
  else (sFl u (vp_updL (xfl u) (h).toNatClampNeg ((xfl u) (h).toNatClampNeg))))
set_option maxHeartbeats 4000000 in
set_option maxRecDepth 100000 in
theorem yb_leave {p : Program} {l : Launch} {e : Env} {s : State} {m : MethodId} {args : Array Value} {below : List Frame} {meth : Method} {c : Code} {Q : State → Prop} {A : Nat → Prop} {ls : Array Slot} {dC : Nat → ClassId} {dI : Nat → Nat → Nat} {G : Nat → Nat} {C : Nat → ClassId} {u : xS} {h : Int32} {a : Int32} (hh : vp_in h 12) (ha2 : vp_in a 160) (B : CallFix p m c cY_leave 3 s args wsY_leave RX1) (hK : va_K (dC, dI) vwCl (yT C) s) (hA : ∀ q : Nat, s.heap.size ≤ q → A q) (hP : va_P (dC, dI) vwCl (yW G C u) s.heap) (hD : va_D A (yW G C u)) (hl : lv_has ls 3 [(0, .ref (G 0)), (1, .int h), (2, .int a)]) (kk : (∀ (H : Heap) (locs : List Loc) (pc : Nat) (ls : Array Slot), decode cY_leave pc = .ok (.return_, 1) → va_P (dC, dI) vwCl (yW G C (yq_leave u h a)) H → va_D A (yW G C (yq_leave u h a)) → va_S A s.heap H locs → W p l e (xR 1 24) s m args below meth c H locs 0 0 Q (F0 m pc ls []))) : W p l e (xR 1 24) s m args below meth c s.heap [] 0 0 Q (F0 m 0 ls []) := by
  obtain ⟨hx, hb, hml, hown, hts⟩ := B
  have hS : va_S A s.heap s.heap [] := va_S.rf
  have hfw : ∀ w ∈ u_ws RX1 TX1 9, w ∈ wsY_leave := by decide +kernel
  refine lv_aload_n hx hb dY_leave_0 rfl (lv_at hl 0 rfl) ?_
  refine va_get (D := (dC, dI)) (ci := 1) (v := .ref (G 4)) (C := RX1) (T := TX1) (N := 9) hx hb hts hfw hown hK hP 0 rfl rfl 4 (by decide) (hts (.fieldLink RX1 20 "MeldingHeapsModel" "floors" "[J") (by decide +kernel)) (fun _ h9 => h9) rfl dY_leave_1 ?_
  refine lv_iload_n hx hb dY_leave_4 rfl (lv_at hl 1 rfl) ?_
  refine lv_aload_n hx hb dY_leave_5 rfl (lv_at hl 0 rfl) ?_
  refine va_get (D := (dC, dI)) (ci := 1) (v := .ref (G 1)) (C := RX1) (T := TX1) (N := 9) hx hb hts hfw hown hK hP 0 rfl rfl 1 (by decide) (hts (.fieldLink RX1 7 "MeldingHeapsModel" "kinds" "[I") (by decide +kernel)) (fun _ h9 => h9) rfl dY_leave_6 ?_
  refine lv_iload_n hx hb dY_leave_9 rfl (lv_at hl 1 rfl) ?_
  refine va_iald (f := (xkd u)) hx hb hK hP 1 0 rfl rfl (hh) dY_leave_10 ?_
  refine lv_iconst (v := 2) hx hb dY_leave_11 (by decide) ?_
  refine lv_icmp_ne (tgt := 29) hx hb dY_leave_12 rfl (fun c12 => ?_) (fun c12 => ?_)
  · refine lv_aload_n hx hb dY_leave_29 rfl (lv_at hl 0 rfl) ?_
    refine va_get (D := (dC, dI)) (ci := 1) (v := .ref (G 4)) (C := RX1) (T := TX1) (N := 9) hx hb hts hfw hown hK hP 0 rfl rfl 4 (by decide) (hts (.fieldLink RX1 20 "MeldingHeapsModel" "floors" "[J") (by decide +kernel)) (fun _ h9 => h9) rfl dY_leave_30 ?_
    refine lv_iload_n hx hb dY_leave_33 rfl (lv_at hl 1 rfl) ?_
    refine va_lald (f := (xfl u)) hx hb hK hP 4 3 rfl rfl (hh) dY_leave_34 ?_
    refine va_last (f := (xfl u)) hx hb hK hP hD hS 4 3 rfl rfl (hh) dY_leave_35 (fun H locs hP hD hS => ?_)
    have hP : va_P (dC, dI) vwCl (yW G C (sFl u (vp_updL (xfl u) (h).toNatClampNeg ((xfl u) (h).toNatClampNeg)))) H := hP
    have hD : va_D A (yW G C (sFl u (vp_updL (xfl u) (h).toNatClampNeg ((xfl u) (h).toNatClampNeg)))) := hD
    have e8 : yq_leave u h a = (sFl u (vp_updL (xfl u) (h).toNatClampNeg ((xfl u) (h).toNatClampNeg))) := by unfold yq_leave; rw [if_neg c12]
    exact kk _ _ _ _ dY_leave_36 (by rw [e8]; exact hP) (by rw [e8]; exact hD) hS
  · refine lv_aload_n hx hb dY_leave_15 rfl (lv_at hl 0 rfl) ?_
    refine lv_iload_n hx hb dY_leave_16 rfl (lv_at hl 1 rfl) ?_
    refine lv_aload_n hx hb dY_leave_17 rfl (lv_at hl 0 rfl) ?_
    refine va_get (D := (dC, dI)) (ci := 1) (v := .ref (G 5)) (C := RX1) (T := TX1) (N := 9) hx hb hts hfw hown hK hP 0 rfl rfl 6 (by decide) (hts (.fieldLink RX1 24 "MeldingHeapsModel" "keys" "[J") (by decide +kernel)) (fun _ h9 => h9) rfl dY_leave_18 ?_
    refine lv_iload_n hx hb dY_leave_21 rfl (lv_at hl 2 rfl) ?_
    refine va_lald (f := (xky u)) hx hb hK hP 5 4 rfl rfl (ha2) dY_leave_22 ?_
    refine xcall_l (ws := (yW G C u)) (wc := (yW G C u)) (wr := []) (w1 := (yW G C u)) (v := (yp_weight u h ((xky u) (a).toNatClampNeg))) [0, 1, 2, 3, 4, 5, 6, 7] [] (va_runV (As := [.int h, .long ((xky u) (a).toNatClampNeg)]) (rest := [.int h, .ref (G 4)]) ⟨hx, hb, hml, hown, hts⟩ (yc_weight l dC dI G C _ u h ((xky u) (a).toNatClampNeg) hh) (cwV 2 hts gY_leave_Y_weight rfl rfl rfl (by decide +kernel) ⟨Nat.le_of_ble_eq_true rfl, Nat.le_of_ble_eq_true rfl⟩) (xpreV (q0 := 0) (ci := 1) (qc := (RX1, TX1, 9)) hK hP hD rfl rfl) rfl rfl hl.1 rfl (lv_room (Nat.le_of_ble_eq_true rfl)) dY_leave_23 ⟨Nat.zero_le _, Nat.zero_le _⟩) hP hD hS hA rfl rfl (by decide) (by decide) (fun H locs hP hD hS => ?_)
    have hP : va_P (dC, dI) vwCl (yW G C u) H := hP
    have hD : va_D A (yW G C u) := hD
    refine lv_goto (tgt := 35) hx hb dY_leave_26 rfl ?_
    refine va_last (f := (xfl u)) hx hb hK hP hD hS 4 3 rfl rfl (hh) dY_leave_35 (fun H locs hP hD hS => ?_)
    have hP : va_P (dC, dI) vwCl (yW G C (sFl u (vp_updL (xfl u) (h).toNatClampNeg (yp_weight u h ((xky u) (a).toNatClampNeg))))) H := hP
    have hD : va_D A (yW G C (sFl u (vp_updL (xfl u) (h).toNatClampNeg (yp_weight u h ((xky u) (a).toNatClampNeg))))) := hD
    have e8 : yq_leave u h a = (sFl u (vp_updL (xfl u) (h).toNatClampNeg (yp_weight u h ((xky u) (a).toNatClampNeg)))) := by unfold yq_leave; rw [if_pos c12]
    exact kk _ _ _ _ dY_leave_36 (by rw [e8]; exact hP) (by rw [e8]; exact hD) hS
theorem yc_leave (l : Launch) (dC : Nat → ClassId) (dI : Nat → Nat → Nat) (G : Nat → Nat) (C : Nat → ClassId) (sz : Nat) (u : xS) (h : Int32) (a : Int32) (hh : vp_in h 12) (ha2 : vp_in a 160) : xMv l yY_leave wsY_leave (xR 1 24) dC dI (yT C) [.ref (G 0), .int h, .int a] (yW G C u) (yW G C (yq_leave u h a)) sz :=
  xmet_v (by decide) rfl (Nat.le_of_ble_eq_true rfl) rfl (fun p e s m args below meth c Q A ls B hK hA hP hD hl kk => yb_leave hh ha2 B hK hA hP hD hl kk)
def yp_rankL (u : xS) (a : Int32) : Nat → Nat
  | 0 => 0
  | i + 1 =>
    (if ((xow u) i) = ((xow u) (a).toNatClampNeg) then
      (if (lg_cmp (yp_weight u ((xow u) (a).toNatClampNeg) ((xky u) i)) (yp_weight u ((xow u) (a).toNatClampNeg) ((xky u) (a).toNatClampNeg))) < 0 then
        ((yp_rankL u a i) + 1)
      else (if (lg_cmp (yp_weight u ((xow u) (a).toNatClampNeg) ((xky u) i)) (yp_weight u ((xow u) (a).toNatClampNeg) ((xky u) (a).toNatClampNeg))) = 0 then
          (if a ≤ (nI i) then
            (yp_rankL u a i)
          else ((yp_rankL u a i) + 1))
        else (yp_rankL u a i)))
    else (yp_rankL u a i))
set_option maxHeartbeats 4000000 in
set_option maxRecDepth 100000 in
theorem yl_rank {p : Program} {l : Launch} {e : Env} {s : State} {m : MethodId} {args : Array Value} {below : List Frame} {meth : Method} {c : Code} {Q : State → Prop} {A : Nat → Prop} {dC : Nat → ClassId} {dI : Nat → Nat → Nat} {G : Nat → Nat} {C : Nat → ClassId} {u : xS} {a : Int32} (hn : xn u ≤ 160) (ha2 : vp_in a 160) (hh : vp_in (xow u a.toNatClampNeg) 12) (B : CallFix p m c cY_rank 9 s args wsY_rank RX1) (hK : va_K (dC, dI) vwCl (yT C) s) (hA : ∀ q : Nat, s.heap.size ≤ q → A q) (kk : ∀ (H : Heap) (locs : List Loc) (ls : Array Slot), va_P (dC, dI) vwCl (yW G C u) H → va_D A (yW G C u) → va_S A s.heap H locs → lv_has ls 9 [(5, .int (nI (yp_rankL u a (xn u)))), (0, .ref (G 0)), (1, .int a), (2, .int ((xow u) (a).toNatClampNeg)), (3, .long (yp_weight u ((xow u) (a).toNatClampNeg) ((xky u) (a).toNatClampNeg)))] → W p l e (xR 1 24) s m args below meth c H locs 0 0 Q (F0 m 96 ls [])) :
    ∀ (d i : Nat) (H : Heap) (locs : List Loc) (ls : Array Slot), xn u - i = d → i ≤ xn u → va_P (dC, dI) vwCl (yW G C u) H → va_D A (yW G C u) → va_S A s.heap H locs → lv_has ls 9 [(6, .int (nI i)), (5, .int (nI (yp_rankL u a i))), (0, .ref (G 0)), (1, .int a), (2, .int ((xow u) (a).toNatClampNeg)), (3, .long (yp_weight u ((xow u) (a).toNatClampNeg) ((xky u) (a).toNatClampNeg)))] → W p l e (xR 1 24) s m args below meth c H locs 0 0 Q (F0 m 25 ls []) := by
  obtain ⟨hx, hb, hml, hown, hts⟩ := B
  have hfw : ∀ w ∈ u_ws RX1 TX1 9, w ∈ wsY_rank := by decide +kernel
  intro d
  induction d using Nat.strongRecOn with
  | ind d ih =>
    intro i H locs ls hd hi0 hP hD hS hl
    refine lv_iload hx hb dY_rank_25 (lv_at hl 0 rfl) ?_
    refine lv_aload_n hx hb dY_rank_27 rfl (lv_at hl 2 rfl) ?_
    refine va_get (D := (dC, dI)) (ci := 1) (v := .int (nI (xn u))) (C := RX1) (T := TX1) (N := 9) hx hb hts hfw hown hK hP 0 rfl rfl 5 (by decide) (hts (.fieldLink RX1 37 "MeldingHeapsModel" "inserted" "I") (by decide +kernel)) (fun _ h9 => h9) rfl dY_rank_28 ?_
    refine lv_icmp_ge (tgt := 96) hx hb dY_rank_31 rfl (fun c31 => ?_) (fun c31 => ?_)
    · have hi2 : i = xn u := Nat.le_antisymm hi0 ((nI_leI (by omega) (by omega)).mp c31)
      rw [hi2] at hl
      exact kk _ _ _ hP hD hS (lv_sub hl [1, 2, 3, 4, 5] rfl)
    · have hi : i < xn u := Nat.not_le.mp (fun q => c31 (nI_le q (by omega)))
      refine lv_aload_n hx hb dY_rank_34 rfl (lv_at hl 2 rfl) ?_
      refine va_get (D := (dC, dI)) (ci := 1) (v := .ref (G 7)) (C := RX1) (T := TX1) (N := 9) hx hb hts hfw hown hK hP 0 rfl rfl 8 (by decide) (hts (.fieldLink RX1 30 "MeldingHeapsModel" "homes" "[I") (by decide +kernel)) (fun _ h9 => h9) rfl dY_rank_35 ?_
      refine lv_iload hx hb dY_rank_38 (lv_at hl 0 rfl) ?_
      refine va_iald (f := (xow u)) hx hb hK hP 7 6 rfl rfl (vp_in_nI (by omega) (by decide)) dY_rank_40 ?_
      refine W.eq (congrArg (fun z => F0 m 41 ls (.int ((xow u) z) :: [])) (nI_clamp (show i < 2 ^ 31 by omega))) ?_
      refine lv_iload_n hx hb dY_rank_41 rfl (lv_at hl 4 rfl) ?_
      refine lv_icmp_ne (tgt := 90) hx hb dY_rank_42 rfl (fun c42 => ?_) (fun c42 => ?_)
      · refine lv_iinc (k := 0) (v := (nI (i + 1))) (lv' := [(6, .int (nI (i + 1))), (5, .int (nI (yp_rankL u a i))), (0, .ref (G 0)), (1, .int a), (2, .int ((xow u) (a).toNatClampNeg)), (3, .long (yp_weight u ((xow u) (a).toNatClampNeg) ((xky u) (a).toNatClampNeg)))]) hx hb dY_rank_90 hl rfl (xinc _) (by decide) rfl (fun ls hl => ?_)
        refine lv_goto (tgt := 25) hx hb dY_rank_93 rfl ?_
        have e9 : yp_rankL u a (i + 1) = (yp_rankL u a i) := by rw [yp_rankL]; rw [if_neg c42]
        have hl : lv_has ls 9 [(6, .int (nI (i + 1))), (5, .int (nI (yp_rankL u a (i + 1)))), (0, .ref (G 0)), (1, .int a), (2, .int ((xow u) (a).toNatClampNeg)), (3, .long (yp_weight u ((xow u) (a).toNatClampNeg) ((xky u) (a).toNatClampNeg)))] := by rw [e9]; exact lv_sub hl [0, 1, 2, 3, 4, 5] rfl
        exact ih _ (by omega) (i + 1) _ _ _ rfl hi hP hD hS hl
      · refine lv_aload_n hx hb dY_rank_45 rfl (lv_at hl 2 rfl) ?_
        refine lv_iload_n hx hb dY_rank_46 rfl (lv_at hl 4 rfl) ?_
        refine lv_aload_n hx hb dY_rank_47 rfl (lv_at hl 2 rfl) ?_
        refine va_get (D := (dC, dI)) (ci := 1) (v := .ref (G 5)) (C := RX1) (T := TX1) (N := 9) hx hb hts hfw hown hK hP 0 rfl rfl 6 (by decide) (hts (.fieldLink RX1 24 "MeldingHeapsModel" "keys" "[J") (by decide +kernel)) (fun _ h9 => h9) rfl dY_rank_48 ?_
        refine lv_iload hx hb dY_rank_51 (lv_at hl 0 rfl) ?_
        refine va_lald (f := (xky u)) hx hb hK hP 5 4 rfl rfl (vp_in_nI (by omega) (by decide)) dY_rank_53 ?_
        refine W.eq (congrArg (fun z => F0 m 54 ls (.long ((xky u) z) :: [.int ((xow u) (a).toNatClampNeg), .ref (G 0)])) (nI_clamp (show i < 2 ^ 31 by omega))) ?_
        refine xcall_l (ws := (yW G C u)) (wc := (yW G C u)) (wr := []) (w1 := (yW G C u)) (v := (yp_weight u ((xow u) (a).toNatClampNeg) ((xky u) i))) [0, 1, 2, 3, 4, 5, 6, 7] [] (va_runV (As := [.int ((xow u) (a).toNatClampNeg), .long ((xky u) i)]) (rest := []) ⟨hx, hb, hml, hown, hts⟩ (yc_weight l dC dI G C _ u ((xow u) (a).toNatClampNeg) ((xky u) i) hh) (cwV 2 hts gY_rank_Y_weight rfl rfl rfl (by decide +kernel) ⟨Nat.le_of_ble_eq_true rfl, Nat.le_of_ble_eq_true rfl⟩) (xpreV (q0 := 0) (ci := 1) (qc := (RX1, TX1, 9)) hK hP hD rfl rfl) rfl rfl hl.1 rfl (lv_room (Nat.le_of_ble_eq_true rfl)) dY_rank_54 ⟨Nat.zero_le _, Nat.zero_le _⟩) hP hD hS hA rfl rfl (by decide) (by decide) (fun H locs hP hD hS => ?_)
        have hP : va_P (dC, dI) vwCl (yW G C u) H := hP
        have hD : va_D A (yW G C u) := hD
        refine lv_lstore (lv' := [(7, .long (yp_weight u ((xow u) (a).toNatClampNeg) ((xky u) i))), (6, .int (nI i)), (5, .int (nI (yp_rankL u a i))), (0, .ref (G 0)), (1, .int a), (2, .int ((xow u) (a).toNatClampNeg)), (3, .long (yp_weight u ((xow u) (a).toNatClampNeg) ((xky u) (a).toNatClampNeg)))]) hx hb dY_rank_57 hl (by decide) rfl (fun ls hl => ?_)
        refine lv_lload hx hb dY_rank_59 (lv_at hl 0 rfl) ?_
        refine lv_lload_n hx hb dY_rank_61 rfl (lv_at hl 6 rfl) ?_
        refine W.lcmp hx hb dY_rank_62 ?_
        refine lv_if_lt (tgt := 79) hx hb dY_rank_63 rfl (fun c63 => ?_) (fun c63 => ?_)
        · refine lv_iload hx hb dY_rank_79 (lv_at hl 2 rfl) ?_
          refine lv_iconst (v := 1) hx hb dY_rank_81 (by decide) ?_
          refine lv_iadd hx hb dY_rank_82 ?_
          refine W.eq (congrArg (fun z => F0 m 83 ls (.int z :: [])) (nI_1 (yp_rankL u a i))) ?_
          refine lv_goto (tgt := 88) hx hb dY_rank_83 rfl ?_
          refine lv_istore (lv' := [(5, .int (nI ((yp_rankL u a i) + 1))), (7, .long (yp_weight u ((xow u) (a).toNatClampNeg) ((xky u) i))), (6, .int (nI i)), (0, .ref (G 0)), (1, .int a), (2, .int ((xow u) (a).toNatClampNeg)), (3, .long (yp_weight u ((xow u) (a).toNatClampNeg) ((xky u) (a).toNatClampNeg)))]) hx hb dY_rank_88 hl (by decide) rfl (fun ls hl => ?_)
          refine lv_iinc (k := 2) (v := (nI (i + 1))) (lv' := [(6, .int (nI (i + 1))), (5, .int (nI ((yp_rankL u a i) + 1))), (7, .long (yp_weight u ((xow u) (a).toNatClampNeg) ((xky u) i))), (0, .ref (G 0)), (1, .int a), (2, .int ((xow u) (a).toNatClampNeg)), (3, .long (yp_weight u ((xow u) (a).toNatClampNeg) ((xky u) (a).toNatClampNeg)))]) hx hb dY_rank_90 hl rfl (xinc _) (by decide) rfl (fun ls hl => ?_)
          refine lv_goto (tgt := 25) hx hb dY_rank_93 rfl ?_
          have e9 : yp_rankL u a (i + 1) = ((yp_rankL u a i) + 1) := by rw [yp_rankL]; rw [if_pos c42, if_pos c63]
          have hl : lv_has ls 9 [(6, .int (nI (i + 1))), (5, .int (nI (yp_rankL u a (i + 1)))), (0, .ref (G 0)), (1, .int a), (2, .int ((xow u) (a).toNatClampNeg)), (3, .long (yp_weight u ((xow u) (a).toNatClampNeg) ((xky u) (a).toNatClampNeg)))] := by rw [e9]; exact lv_sub hl [0, 1, 3, 4, 5, 6] rfl
          exact ih _ (by omega) (i + 1) _ _ _ rfl hi hP hD hS hl
        · refine lv_lload hx hb dY_rank_66 (lv_at hl 0 rfl) ?_
          refine lv_lload_n hx hb dY_rank_68 rfl (lv_at hl 6 rfl) ?_
          refine W.lcmp hx hb dY_rank_69 ?_
          refine lv_if_ne (tgt := 86) hx hb dY_rank_70 rfl (fun c70 => ?_) (fun c70 => ?_)
          · refine lv_iload hx hb dY_rank_86 (lv_at hl 2 rfl) ?_
            refine lv_istore (lv' := [(5, .int (nI (yp_rankL u a i))), (7, .long (yp_weight u ((xow u) (a).toNatClampNeg) ((xky u) i))), (6, .int (nI i)), (0, .ref (G 0)), (1, .int a), (2, .int ((xow u) (a).toNatClampNeg)), (3, .long (yp_weight u ((xow u) (a).toNatClampNeg) ((xky u) (a).toNatClampNeg)))]) hx hb dY_rank_88 hl (by decide) rfl (fun ls hl => ?_)
            refine lv_iinc (k := 2) (v := (nI (i + 1))) (lv' := [(6, .int (nI (i + 1))), (5, .int (nI (yp_rankL u a i))), (7, .long (yp_weight u ((xow u) (a).toNatClampNeg) ((xky u) i))), (0, .ref (G 0)), (1, .int a), (2, .int ((xow u) (a).toNatClampNeg)), (3, .long (yp_weight u ((xow u) (a).toNatClampNeg) ((xky u) (a).toNatClampNeg)))]) hx hb dY_rank_90 hl rfl (xinc _) (by decide) rfl (fun ls hl => ?_)
            refine lv_goto (tgt := 25) hx hb dY_rank_93 rfl ?_
            have e9 : yp_rankL u a (i + 1) = (yp_rankL u a i) := by rw [yp_rankL]; rw [if_pos c42, if_neg c63, if_neg c70]
            have hl : lv_has ls 9 [(6, .int (nI (i + 1))), (5, .int (nI (yp_rankL u a (i + 1)))), (0, .ref (G 0)), (1, .int a), (2, .int ((xow u) (a).toNatClampNeg)), (3, .long (yp_weight u ((xow u) (a).toNatClampNeg) ((xky u) (a).toNatClampNeg)))] := by rw [e9]; exact lv_sub hl [0, 1, 3, 4, 5, 6] rfl
            exact ih _ (by omega) (i + 1) _ _ _ rfl hi hP hD hS hl
          · refine lv_iload hx hb dY_rank_73 (lv_at hl 1 rfl) ?_
            refine lv_iload_n hx hb dY_rank_75 rfl (lv_at hl 4 rfl) ?_
            refine lv_icmp_ge (tgt := 86) hx hb dY_rank_76 rfl (fun c76 => ?_) (fun c76 => ?_)
            · refine lv_iload hx hb dY_rank_86 (lv_at hl 2 rfl) ?_
              refine lv_istore (lv' := [(5, .int (nI (yp_rankL u a i))), (7, .long (yp_weight u ((xow u) (a).toNatClampNeg) ((xky u) i))), (6, .int (nI i)), (0, .ref (G 0)), (1, .int a), (2, .int ((xow u) (a).toNatClampNeg)), (3, .long (yp_weight u ((xow u) (a).toNatClampNeg) ((xky u) (a).toNatClampNeg)))]) hx hb dY_rank_88 hl (by decide) rfl (fun ls hl => ?_)
              refine lv_iinc (k := 2) (v := (nI (i + 1))) (lv' := [(6, .int (nI (i + 1))), (5, .int (nI (yp_rankL u a i))), (7, .long (yp_weight u ((xow u) (a).toNatClampNeg) ((xky u) i))), (0, .ref (G 0)), (1, .int a), (2, .int ((xow u) (a).toNatClampNeg)), (3, .long (yp_weight u ((xow u) (a).toNatClampNeg) ((xky u) (a).toNatClampNeg)))]) hx hb dY_rank_90 hl rfl (xinc _) (by decide) rfl (fun ls hl => ?_)
              refine lv_goto (tgt := 25) hx hb dY_rank_93 rfl ?_
              have e9 : yp_rankL u a (i + 1) = (yp_rankL u a i) := by rw [yp_rankL]; rw [if_pos c42, if_neg c63, if_pos c70, if_pos c76]
              have hl : lv_has ls 9 [(6, .int (nI (i + 1))), (5, .int (nI (yp_rankL u a (i + 1)))), (0, .ref (G 0)), (1, .int a), (2, .int ((xow u) (a).toNatClampNeg)), (3, .long (yp_weight u ((xow u) (a).toNatClampNeg) ((xky u) (a).toNatClampNeg)))] := by rw [e9]; exact lv_sub hl [0, 1, 3, 4, 5, 6] rfl
              exact ih _ (by omega) (i + 1) _ _ _ rfl hi hP hD hS hl
            · refine lv_iload hx hb dY_rank_79 (lv_at hl 2 rfl) ?_
              refine lv_iconst (v := 1) hx hb dY_rank_81 (by decide) ?_
              refine lv_iadd hx hb dY_rank_82 ?_
              refine W.eq (congrArg (fun z => F0 m 83 ls (.int z :: [])) (nI_1 (yp_rankL u a i))) ?_
              refine lv_goto (tgt := 88) hx hb dY_rank_83 rfl ?_
              refine lv_istore (lv' := [(5, .int (nI ((yp_rankL u a i) + 1))), (7, .long (yp_weight u ((xow u) (a).toNatClampNeg) ((xky u) i))), (6, .int (nI i)), (0, .ref (G 0)), (1, .int a), (2, .int ((xow u) (a).toNatClampNeg)), (3, .long (yp_weight u ((xow u) (a).toNatClampNeg) ((xky u) (a).toNatClampNeg)))]) hx hb dY_rank_88 hl (by decide) rfl (fun ls hl => ?_)
              refine lv_iinc (k := 2) (v := (nI (i + 1))) (lv' := [(6, .int (nI (i + 1))), (5, .int (nI ((yp_rankL u a i) + 1))), (7, .long (yp_weight u ((xow u) (a).toNatClampNeg) ((xky u) i))), (0, .ref (G 0)), (1, .int a), (2, .int ((xow u) (a).toNatClampNeg)), (3, .long (yp_weight u ((xow u) (a).toNatClampNeg) ((xky u) (a).toNatClampNeg)))]) hx hb dY_rank_90 hl rfl (xinc _) (by decide) rfl (fun ls hl => ?_)
              refine lv_goto (tgt := 25) hx hb dY_rank_93 rfl ?_
              have e9 : yp_rankL u a (i + 1) = ((yp_rankL u a i) + 1) := by rw [yp_rankL]; rw [if_pos c42, if_neg c63, if_pos c70, if_neg c76]
              have hl : lv_has ls 9 [(6, .int (nI (i + 1))), (5, .int (nI (yp_rankL u a (i + 1)))), (0, .ref (G 0)), (1, .int a), (2, .int ((xow u) (a).toNatClampNeg)), (3, .long (yp_weight u ((xow u) (a).toNatClampNeg) ((xky u) (a).toNatClampNeg)))] := by rw [e9]; exact lv_sub hl [0, 1, 3, 4, 5, 6] rfl
              exact ih _ (by omega) (i + 1) _ _ _ rfl hi hP hD hS hl
def yp_rank (u : xS) (a : Int32) : Int32 :=
  (nI (yp_rankL u a (xn u)))
set_option maxHeartbeats 4000000 in
set_option maxRecDepth 100000 in
theorem yb_rank {p : Program} {l : Launch} {e : Env} {s : State} {m : MethodId} {args : Array Value} {below : List Frame} {meth : Method} {c : Code} {Q : State → Prop} {A : Nat → Prop} {ls : Array Slot} {dC : Nat → ClassId} {dI : Nat → Nat → Nat} {G : Nat → Nat} {C : Nat → ClassId} {u : xS} {a : Int32} (hn : xn u ≤ 160) (ha2 : vp_in a 160) (hh : vp_in (xow u a.toNatClampNeg) 12) (B : CallFix p m c cY_rank 9 s args wsY_rank RX1) (hK : va_K (dC, dI) vwCl (yT C) s) (hA : ∀ q : Nat, s.heap.size ≤ q → A q) (hP : va_P (dC, dI) vwCl (yW G C u) s.heap) (hD : va_D A (yW G C u)) (hl : lv_has ls 9 [(0, .ref (G 0)), (1, .int a)]) (kk : (∀ (H : Heap) (locs : List Loc) (pc : Nat) (ls : Array Slot), decode cY_rank pc = .ok (.ireturn, 1) → va_P (dC, dI) vwCl (yW G C u) H → va_D A (yW G C u) → va_S A s.heap H locs → W p l e (xR 1 24) s m args below meth c H locs 0 0 Q (F0 m pc ls [.int (yp_rank u a)]))) : W p l e (xR 1 24) s m args below meth c s.heap [] 0 0 Q (F0 m 0 ls []) := by
  obtain ⟨hx, hb, hml, hown, hts⟩ := B
  have hS : va_S A s.heap s.heap [] := va_S.rf
  have hfw : ∀ w ∈ u_ws RX1 TX1 9, w ∈ wsY_rank := by decide +kernel
  refine lv_aload_n hx hb dY_rank_0 rfl (lv_at hl 0 rfl) ?_
  refine va_get (D := (dC, dI)) (ci := 1) (v := .ref (G 7)) (C := RX1) (T := TX1) (N := 9) hx hb hts hfw hown hK hP 0 rfl rfl 8 (by decide) (hts (.fieldLink RX1 30 "MeldingHeapsModel" "homes" "[I") (by decide +kernel)) (fun _ h9 => h9) rfl dY_rank_1 ?_
  refine lv_iload_n hx hb dY_rank_4 rfl (lv_at hl 1 rfl) ?_
  refine va_iald (f := (xow u)) hx hb hK hP 7 6 rfl rfl (ha2) dY_rank_5 ?_
  refine lv_istore_n (lv' := [(2, .int ((xow u) (a).toNatClampNeg)), (0, .ref (G 0)), (1, .int a)]) hx hb dY_rank_6 rfl hl (by decide) rfl (fun ls hl => ?_)
  refine lv_aload_n hx hb dY_rank_7 rfl (lv_at hl 1 rfl) ?_
  refine lv_iload_n hx hb dY_rank_8 rfl (lv_at hl 0 rfl) ?_
  refine lv_aload_n hx hb dY_rank_9 rfl (lv_at hl 1 rfl) ?_
  refine va_get (D := (dC, dI)) (ci := 1) (v := .ref (G 5)) (C := RX1) (T := TX1) (N := 9) hx hb hts hfw hown hK hP 0 rfl rfl 6 (by decide) (hts (.fieldLink RX1 24 "MeldingHeapsModel" "keys" "[J") (by decide +kernel)) (fun _ h9 => h9) rfl dY_rank_10 ?_
  refine lv_iload_n hx hb dY_rank_13 rfl (lv_at hl 2 rfl) ?_
  refine va_lald (f := (xky u)) hx hb hK hP 5 4 rfl rfl (ha2) dY_rank_14 ?_
  refine xcall_l (ws := (yW G C u)) (wc := (yW G C u)) (wr := []) (w1 := (yW G C u)) (v := (yp_weight u ((xow u) (a).toNatClampNeg) ((xky u) (a).toNatClampNeg))) [0, 1, 2, 3, 4, 5, 6, 7] [] (va_runV (As := [.int ((xow u) (a).toNatClampNeg), .long ((xky u) (a).toNatClampNeg)]) (rest := []) ⟨hx, hb, hml, hown, hts⟩ (yc_weight l dC dI G C _ u ((xow u) (a).toNatClampNeg) ((xky u) (a).toNatClampNeg) hh) (cwV 2 hts gY_rank_Y_weight rfl rfl rfl (by decide +kernel) ⟨Nat.le_of_ble_eq_true rfl, Nat.le_of_ble_eq_true rfl⟩) (xpreV (q0 := 0) (ci := 1) (qc := (RX1, TX1, 9)) hK hP hD rfl rfl) rfl rfl hl.1 rfl (lv_room (Nat.le_of_ble_eq_true rfl)) dY_rank_15 ⟨Nat.zero_le _, Nat.zero_le _⟩) hP hD hS hA rfl rfl (by decide) (by decide) (fun H locs hP hD hS => ?_)
  have hP : va_P (dC, dI) vwCl (yW G C u) H := hP
  have hD : va_D A (yW G C u) := hD
  refine lv_lstore_n (lv' := [(3, .long (yp_weight u ((xow u) (a).toNatClampNeg) ((xky u) (a).toNatClampNeg))), (2, .int ((xow u) (a).toNatClampNeg)), (0, .ref (G 0)), (1, .int a)]) hx hb dY_rank_18 rfl hl (by decide) rfl (fun ls hl => ?_)
  refine lv_iconst (v := 0) hx hb dY_rank_19 (by decide) ?_
  refine lv_istore (lv' := [(5, .int 0), (3, .long (yp_weight u ((xow u) (a).toNatClampNeg) ((xky u) (a).toNatClampNeg))), (2, .int ((xow u) (a).toNatClampNeg)), (0, .ref (G 0)), (1, .int a)]) hx hb dY_rank_20 hl (by decide) rfl (fun ls hl => ?_)
  refine lv_iconst (v := 0) hx hb dY_rank_22 (by decide) ?_
  refine lv_istore (lv' := [(6, .int 0), (5, .int 0), (3, .long (yp_weight u ((xow u) (a).toNatClampNeg) ((xky u) (a).toNatClampNeg))), (2, .int ((xow u) (a).toNatClampNeg)), (0, .ref (G 0)), (1, .int a)]) hx hb dY_rank_23 hl (by decide) rfl (fun ls hl => ?_)
  refine yl_rank hn ha2 hh ⟨hx, hb, hml, hown, hts⟩ hK hA (fun H locs ls hP hD hS hl => ?_) _ 0 _ _ _ rfl (Nat.zero_le _) hP hD hS (lv_sub hl [0, 1, 4, 5, 3, 2] rfl)
  refine lv_iload hx hb dY_rank_96 (lv_at hl 0 rfl) ?_
  have e9 : yp_rank u a = (nI (yp_rankL u a (xn u))) := rfl
  exact W.eq (congrArg (fun z => F0 m 98 ls [.int z]) e9.symm) (kk _ _ _ _ dY_rank_98 hP hD hS)
theorem yc_rank (l : Launch) (dC : Nat → ClassId) (dI : Nat → Nat → Nat) (G : Nat → Nat) (C : Nat → ClassId) (sz : Nat) (u : xS) (a : Int32) (hn : xn u ≤ 160) (ha2 : vp_in a 160) (hh : vp_in (xow u a.toNatClampNeg) 12) : xMi l yY_rank wsY_rank (xR 1 24) dC dI (yT C) [.ref (G 0), .int a] (yW G C u) (yW G C u) (yp_rank u a) sz :=
  xmet_i (by decide) rfl rfl (Nat.le_of_ble_eq_true rfl) rfl (fun p e s m args below meth c Q A ls B hK hA hP hD hl kk => yb_rank hn ha2 hh B hK hA hP hD hl kk)
def yp_manyL (u : xS) (h : Int32) : Nat → Nat
  | 0 => 0
  | i + 1 =>
    (if ((xow u) i) = h then
      ((yp_manyL u h i) + 1)
    else (yp_manyL u h i))
set_option maxHeartbeats 4000000 in
set_option maxRecDepth 100000 in
theorem yl_many {p : Program} {l : Launch} {e : Env} {s : State} {m : MethodId} {args : Array Value} {below : List Frame} {meth : Method} {c : Code} {Q : State → Prop} {A : Nat → Prop} {dC : Nat → ClassId} {dI : Nat → Nat → Nat} {G : Nat → Nat} {C : Nat → ClassId} {u : xS} {h : Int32} (hn : xn u ≤ 160) (B : CallFix p m c cY_many 4 s args wsY_many RX1) (hK : va_K (dC, dI) vwCl (yT C) s) (hA : ∀ q : Nat, s.heap.size ≤ q → A q) (kk : ∀ (H : Heap) (locs : List Loc) (ls : Array Slot), va_P (dC, dI) vwCl (yW G C u) H → va_D A (yW G C u) → va_S A s.heap H locs → lv_has ls 4 [(2, .int (nI (yp_manyL u h (xn u)))), (0, .ref (G 0)), (1, .int h)] → W p l e (xR 0 0) s m args below meth c H locs 0 0 Q (F0 m 36 ls [])) :
    ∀ (d i : Nat) (H : Heap) (locs : List Loc) (ls : Array Slot), xn u - i = d → i ≤ xn u → va_P (dC, dI) vwCl (yW G C u) H → va_D A (yW G C u) → va_S A s.heap H locs → lv_has ls 4 [(3, .int (nI i)), (2, .int (nI (yp_manyL u h i))), (0, .ref (G 0)), (1, .int h)] → W p l e (xR 0 0) s m args below meth c H locs 0 0 Q (F0 m 4 ls []) := by
  obtain ⟨hx, hb, hml, hown, hts⟩ := B
  have hfw : ∀ w ∈ u_ws RX1 TX1 9, w ∈ wsY_many := by decide +kernel
  intro d
  induction d using Nat.strongRecOn with
  | ind d ih =>
    intro i H locs ls hd hi0 hP hD hS hl
    refine lv_iload_n hx hb dY_many_4 rfl (lv_at hl 0 rfl) ?_
    refine lv_aload_n hx hb dY_many_5 rfl (lv_at hl 2 rfl) ?_
    refine va_get (D := (dC, dI)) (ci := 1) (v := .int (nI (xn u))) (C := RX1) (T := TX1) (N := 9) hx hb hts hfw hown hK hP 0 rfl rfl 5 (by decide) (hts (.fieldLink RX1 37 "MeldingHeapsModel" "inserted" "I") (by decide +kernel)) (fun _ h9 => h9) rfl dY_many_6 ?_
    refine lv_icmp_ge (tgt := 36) hx hb dY_many_9 rfl (fun c9 => ?_) (fun c9 => ?_)
    · have hi2 : i = xn u := Nat.le_antisymm hi0 ((nI_leI (by omega) (by omega)).mp c9)
      rw [hi2] at hl
      exact kk _ _ _ hP hD hS (lv_sub hl [1, 2, 3] rfl)
    · have hi : i < xn u := Nat.not_le.mp (fun q => c9 (nI_le q (by omega)))
      refine lv_aload_n hx hb dY_many_12 rfl (lv_at hl 2 rfl) ?_
      refine va_get (D := (dC, dI)) (ci := 1) (v := .ref (G 7)) (C := RX1) (T := TX1) (N := 9) hx hb hts hfw hown hK hP 0 rfl rfl 8 (by decide) (hts (.fieldLink RX1 30 "MeldingHeapsModel" "homes" "[I") (by decide +kernel)) (fun _ h9 => h9) rfl dY_many_13 ?_
      refine lv_iload_n hx hb dY_many_16 rfl (lv_at hl 0 rfl) ?_
      refine va_iald (f := (xow u)) hx hb hK hP 7 6 rfl rfl (vp_in_nI (by omega) (by decide)) dY_many_17 ?_
      refine W.eq (congrArg (fun z => F0 m 18 ls (.int ((xow u) z) :: [])) (nI_clamp (show i < 2 ^ 31 by omega))) ?_
      refine lv_iload_n hx hb dY_many_18 rfl (lv_at hl 3 rfl) ?_
      refine lv_icmp_ne (tgt := 28) hx hb dY_many_19 rfl (fun c19 => ?_) (fun c19 => ?_)
      · refine lv_iload_n hx hb dY_many_28 rfl (lv_at hl 1 rfl) ?_
        refine lv_istore_n (lv' := [(2, .int (nI (yp_manyL u h i))), (3, .int (nI i)), (0, .ref (G 0)), (1, .int h)]) hx hb dY_many_29 rfl hl (by decide) rfl (fun ls hl => ?_)
        refine lv_iinc (k := 1) (v := (nI (i + 1))) (lv' := [(3, .int (nI (i + 1))), (2, .int (nI (yp_manyL u h i))), (0, .ref (G 0)), (1, .int h)]) hx hb dY_many_30 hl rfl (xinc _) (by decide) rfl (fun ls hl => ?_)
        refine lv_goto (tgt := 4) hx hb dY_many_33 rfl ?_
        have e9 : yp_manyL u h (i + 1) = (yp_manyL u h i) := by rw [yp_manyL]; rw [if_neg c19]
        have hl : lv_has ls 4 [(3, .int (nI (i + 1))), (2, .int (nI (yp_manyL u h (i + 1)))), (0, .ref (G 0)), (1, .int h)] := by rw [e9]; exact lv_sub hl [0, 1, 2, 3] rfl
        exact ih _ (by omega) (i + 1) _ _ _ rfl hi hP hD hS hl
      · refine lv_iload_n hx hb dY_many_22 rfl (lv_at hl 1 rfl) ?_
        refine lv_iconst (v := 1) hx hb dY_many_23 (by decide) ?_
        refine lv_iadd hx hb dY_many_24 ?_
        refine W.eq (congrArg (fun z => F0 m 25 ls (.int z :: [])) (nI_1 (yp_manyL u h i))) ?_
        refine lv_goto (tgt := 29) hx hb dY_many_25 rfl ?_
        refine lv_istore_n (lv' := [(2, .int (nI ((yp_manyL u h i) + 1))), (3, .int (nI i)), (0, .ref (G 0)), (1, .int h)]) hx hb dY_many_29 rfl hl (by decide) rfl (fun ls hl => ?_)
        refine lv_iinc (k := 1) (v := (nI (i + 1))) (lv' := [(3, .int (nI (i + 1))), (2, .int (nI ((yp_manyL u h i) + 1))), (0, .ref (G 0)), (1, .int h)]) hx hb dY_many_30 hl rfl (xinc _) (by decide) rfl (fun ls hl => ?_)
        refine lv_goto (tgt := 4) hx hb dY_many_33 rfl ?_
        have e9 : yp_manyL u h (i + 1) = ((yp_manyL u h i) + 1) := by rw [yp_manyL]; rw [if_pos c19]
        have hl : lv_has ls 4 [(3, .int (nI (i + 1))), (2, .int (nI (yp_manyL u h (i + 1)))), (0, .ref (G 0)), (1, .int h)] := by rw [e9]; exact lv_sub hl [0, 1, 2, 3] rfl
        exact ih _ (by omega) (i + 1) _ _ _ rfl hi hP hD hS hl
def yp_many (u : xS) (h : Int32) : Int32 :=
  (nI (yp_manyL u h (xn u)))
set_option maxHeartbeats 4000000 in
set_option maxRecDepth 100000 in
theorem yb_many {p : Program} {l : Launch} {e : Env} {s : State} {m : MethodId} {args : Array Value} {below : List Frame} {meth : Method} {c : Code} {Q : State → Prop} {A : Nat → Prop} {ls : Array Slot} {dC : Nat → ClassId} {dI : Nat → Nat → Nat} {G : Nat → Nat} {C : Nat → ClassId} {u : xS} {h : Int32} (hn : xn u ≤ 160) (B : CallFix p m c cY_many 4 s args wsY_many RX1) (hK : va_K (dC, dI) vwCl (yT C) s) (hA : ∀ q : Nat, s.heap.size ≤ q → A q) (hP : va_P (dC, dI) vwCl (yW G C u) s.heap) (hD : va_D A (yW G C u)) (hl : lv_has ls 4 [(0, .ref (G 0)), (1, .int h)]) (kk : (∀ (H : Heap) (locs : List Loc) (pc : Nat) (ls : Array Slot), decode cY_many pc = .ok (.ireturn, 1) → va_P (dC, dI) vwCl (yW G C u) H → va_D A (yW G C u) → va_S A s.heap H locs → W p l e (xR 0 0) s m args below meth c H locs 0 0 Q (F0 m pc ls [.int (yp_many u h)]))) : W p l e (xR 0 0) s m args below meth c s.heap [] 0 0 Q (F0 m 0 ls []) := by
  obtain ⟨hx, hb, hml, hown, hts⟩ := B
  have hS : va_S A s.heap s.heap [] := va_S.rf
  refine lv_iconst (v := 0) hx hb dY_many_0 (by decide) ?_
  refine lv_istore_n (lv' := [(2, .int 0), (0, .ref (G 0)), (1, .int h)]) hx hb dY_many_1 rfl hl (by decide) rfl (fun ls hl => ?_)
  refine lv_iconst (v := 0) hx hb dY_many_2 (by decide) ?_
  refine lv_istore_n (lv' := [(3, .int 0), (2, .int 0), (0, .ref (G 0)), (1, .int h)]) hx hb dY_many_3 rfl hl (by decide) rfl (fun ls hl => ?_)
  refine yl_many hn ⟨hx, hb, hml, hown, hts⟩ hK hA (fun H locs ls hP hD hS hl => ?_) _ 0 _ _ _ rfl (Nat.zero_le _) hP hD hS (lv_sub hl [0, 1, 2, 3] rfl)
  refine lv_iload_n hx hb dY_many_36 rfl (lv_at hl 0 rfl) ?_
  have e9 : yp_many u h = (nI (yp_manyL u h (xn u))) := rfl
  exact W.eq (congrArg (fun z => F0 m 37 ls [.int z]) e9.symm) (kk _ _ _ _ dY_many_37 hP hD hS)
theorem yc_many (l : Launch) (dC : Nat → ClassId) (dI : Nat → Nat → Nat) (G : Nat → Nat) (C : Nat → ClassId) (sz : Nat) (u : xS) (h : Int32) (hn : xn u ≤ 160) : xMi l yY_many wsY_many (xR 0 0) dC dI (yT C) [.ref (G 0), .int h] (yW G C u) (yW G C u) (yp_many u h) sz :=
  xmet_i (by decide) rfl rfl (Nat.le_of_ble_eq_true rfl) rfl (fun p e s m args below meth c Q A ls B hK hA hP hD hl kk => yb_many hn B hK hA hP hD hl kk)
def yp_extremeL (u : xS) (h g : Int32) : Nat → Int32 × Int64
  | 0 => (-1, 0)
  | i + 1 =>
    (if ((xow u) i) = h then
      (if (yp_extremeL u h g i).1 = (-1) then
        ((nI i), (yp_weight u h ((xky u) i)))
      else (if g = 0 then
          (if (lg_cmp (yp_weight u h ((xky u) i)) (yp_extremeL u h g i).2) < 0 then
            ((yp_extremeL u h g i).1, (yp_extremeL u h g i).2)
          else ((nI i), (yp_weight u h ((xky u) i))))
        else (if 0 ≤ (lg_cmp (yp_weight u h ((xky u) i)) (yp_extremeL u h g i).2) then
            ((yp_extremeL u h g i).1, (yp_extremeL u h g i).2)
          else ((nI i), (yp_weight u h ((xky u) i))))))
    else ((yp_extremeL u h g i).1, (yp_extremeL u h g i).2))
theorem yex_in (u : xS) (h g : Int32) : ∀ i, (yp_extremeL u h g i).1 = -1 ∨ ∃ j, j < i ∧ (yp_extremeL u h g i).1 = nI j := by
  intro i
  induction i with
  | zero => exact Or.inl rfl
  | succ i ih =>
    rcases ih with h1 | ⟨j, hj, h1⟩
    · rw [yp_extremeL]
      (repeat' split) <;> first | exact Or.inr ⟨i, Nat.lt_succ_self i, rfl⟩ | exact Or.inl h1
    · rw [yp_extremeL]
      (repeat' split) <;> first | exact Or.inr ⟨i, Nat.lt_succ_self i, rfl⟩ | exact Or.inr ⟨j, Nat.lt_succ_of_lt hj, h1⟩
set_option maxHeartbeats 4000000 in
set_option maxRecDepth 100000 in
theorem yl_extreme {p : Program} {l : Launch} {e : Env} {s : State} {m : MethodId} {args : Array Value} {below : List Frame} {meth : Method} {c : Code} {Q : State → Prop} {A : Nat → Prop} {dC : Nat → ClassId} {dI : Nat → Nat → Nat} {G : Nat → Nat} {C : Nat → ClassId} {u : xS} {h : Int32} {g : Int32} (hn : xn u ≤ 160) (hh : vp_in h 12) (B : CallFix p m c cY_extreme 9 s args wsY_extreme RX1) (hK : va_K (dC, dI) vwCl (yT C) s) (hA : ∀ q : Nat, s.heap.size ≤ q → A q) (kk : ∀ (H : Heap) (locs : List Loc) (ls : Array Slot), va_P (dC, dI) vwCl (yW G C u) H → va_D A (yW G C u) → va_S A s.heap H locs → lv_has ls 9 [(3, .int (yp_extremeL u h g (xn u)).1), (4, .long (yp_extremeL u h g (xn u)).2), (0, .ref (G 0)), (1, .int h), (2, .int g)] → W p l e (xR 1 24) s m args below meth c H locs 0 0 Q (F0 m 83 ls [])) :
    ∀ (d i : Nat) (H : Heap) (locs : List Loc) (ls : Array Slot), xn u - i = d → i ≤ xn u → va_P (dC, dI) vwCl (yW G C u) H → va_D A (yW G C u) → va_S A s.heap H locs → lv_has ls 9 [(6, .int (nI i)), (3, .int (yp_extremeL u h g i).1), (4, .long (yp_extremeL u h g i).2), (0, .ref (G 0)), (1, .int h), (2, .int g)] → W p l e (xR 1 24) s m args below meth c H locs 0 0 Q (F0 m 8 ls []) := by
  obtain ⟨hx, hb, hml, hown, hts⟩ := B
  have hfw : ∀ w ∈ u_ws RX1 TX1 9, w ∈ wsY_extreme := by decide +kernel
  intro d
  induction d using Nat.strongRecOn with
  | ind d ih =>
    intro i H locs ls hd hi0 hP hD hS hl
    refine lv_iload hx hb dY_extreme_8 (lv_at hl 0 rfl) ?_
    refine lv_aload_n hx hb dY_extreme_10 rfl (lv_at hl 3 rfl) ?_
    refine va_get (D := (dC, dI)) (ci := 1) (v := .int (nI (xn u))) (C := RX1) (T := TX1) (N := 9) hx hb hts hfw hown hK hP 0 rfl rfl 5 (by decide) (hts (.fieldLink RX1 37 "MeldingHeapsModel" "inserted" "I") (by decide +kernel)) (fun _ h9 => h9) rfl dY_extreme_11 ?_
    refine lv_icmp_ge (tgt := 83) hx hb dY_extreme_14 rfl (fun c14 => ?_) (fun c14 => ?_)
    · have hi2 : i = xn u := Nat.le_antisymm hi0 ((nI_leI (by omega) (by omega)).mp c14)
      rw [hi2] at hl
      exact kk _ _ _ hP hD hS (lv_sub hl [1, 2, 3, 4, 5] rfl)
    · have hi : i < xn u := Nat.not_le.mp (fun q => c14 (nI_le q (by omega)))
      refine lv_aload_n hx hb dY_extreme_17 rfl (lv_at hl 3 rfl) ?_
      refine va_get (D := (dC, dI)) (ci := 1) (v := .ref (G 7)) (C := RX1) (T := TX1) (N := 9) hx hb hts hfw hown hK hP 0 rfl rfl 8 (by decide) (hts (.fieldLink RX1 30 "MeldingHeapsModel" "homes" "[I") (by decide +kernel)) (fun _ h9 => h9) rfl dY_extreme_18 ?_
      refine lv_iload hx hb dY_extreme_21 (lv_at hl 0 rfl) ?_
      refine va_iald (f := (xow u)) hx hb hK hP 7 6 rfl rfl (vp_in_nI (by omega) (by decide)) dY_extreme_23 ?_
      refine W.eq (congrArg (fun z => F0 m 24 ls (.int ((xow u) z) :: [])) (nI_clamp (show i < 2 ^ 31 by omega))) ?_
      refine lv_iload_n hx hb dY_extreme_24 rfl (lv_at hl 4 rfl) ?_
      refine lv_icmp_ne (tgt := 77) hx hb dY_extreme_25 rfl (fun c25 => ?_) (fun c25 => ?_)
      · refine lv_iinc (k := 0) (v := (nI (i + 1))) (lv' := [(6, .int (nI (i + 1))), (3, .int (yp_extremeL u h g i).1), (4, .long (yp_extremeL u h g i).2), (0, .ref (G 0)), (1, .int h), (2, .int g)]) hx hb dY_extreme_77 hl rfl (xinc _) (by decide) rfl (fun ls hl => ?_)
        refine lv_goto (tgt := 8) hx hb dY_extreme_80 rfl ?_
        have e9 : yp_extremeL u h g (i + 1) = ((yp_extremeL u h g i).1, (yp_extremeL u h g i).2) := by rw [yp_extremeL]; rw [if_neg c25]
        have hl : lv_has ls 9 [(6, .int (nI (i + 1))), (3, .int (yp_extremeL u h g (i + 1)).1), (4, .long (yp_extremeL u h g (i + 1)).2), (0, .ref (G 0)), (1, .int h), (2, .int g)] := by rw [e9]; exact lv_sub hl [0, 1, 2, 3, 4, 5] rfl
        exact ih _ (by omega) (i + 1) _ _ _ rfl hi hP hD hS hl
      · refine lv_aload_n hx hb dY_extreme_28 rfl (lv_at hl 3 rfl) ?_
        refine lv_iload_n hx hb dY_extreme_29 rfl (lv_at hl 4 rfl) ?_
        refine lv_aload_n hx hb dY_extreme_30 rfl (lv_at hl 3 rfl) ?_
        refine va_get (D := (dC, dI)) (ci := 1) (v := .ref (G 5)) (C := RX1) (T := TX1) (N := 9) hx hb hts hfw hown hK hP 0 rfl rfl 6 (by decide) (hts (.fieldLink RX1 24 "MeldingHeapsModel" "keys" "[J") (by decide +kernel)) (fun _ h9 => h9) rfl dY_extreme_31 ?_
        refine lv_iload hx hb dY_extreme_34 (lv_at hl 0 rfl) ?_
        refine va_lald (f := (xky u)) hx hb hK hP 5 4 rfl rfl (vp_in_nI (by omega) (by decide)) dY_extreme_36 ?_
        refine W.eq (congrArg (fun z => F0 m 37 ls (.long ((xky u) z) :: [.int h, .ref (G 0)])) (nI_clamp (show i < 2 ^ 31 by omega))) ?_
        refine xcall_l (ws := (yW G C u)) (wc := (yW G C u)) (wr := []) (w1 := (yW G C u)) (v := (yp_weight u h ((xky u) i))) [0, 1, 2, 3, 4, 5, 6, 7] [] (va_runV (As := [.int h, .long ((xky u) i)]) (rest := []) ⟨hx, hb, hml, hown, hts⟩ (yc_weight l dC dI G C _ u h ((xky u) i) hh) (cwV 2 hts gY_extreme_Y_weight rfl rfl rfl (by decide +kernel) ⟨Nat.le_of_ble_eq_true rfl, Nat.le_of_ble_eq_true rfl⟩) (xpreV (q0 := 0) (ci := 1) (qc := (RX1, TX1, 9)) hK hP hD rfl rfl) rfl rfl hl.1 rfl (lv_room (Nat.le_of_ble_eq_true rfl)) dY_extreme_37 ⟨Nat.zero_le _, Nat.zero_le _⟩) hP hD hS hA rfl rfl (by decide) (by decide) (fun H locs hP hD hS => ?_)
        have hP : va_P (dC, dI) vwCl (yW G C u) H := hP
        have hD : va_D A (yW G C u) := hD
        refine lv_lstore (lv' := [(7, .long (yp_weight u h ((xky u) i))), (6, .int (nI i)), (3, .int (yp_extremeL u h g i).1), (4, .long (yp_extremeL u h g i).2), (0, .ref (G 0)), (1, .int h), (2, .int g)]) hx hb dY_extreme_40 hl (by decide) rfl (fun ls hl => ?_)
        refine lv_iload_n hx hb dY_extreme_42 rfl (lv_at hl 2 rfl) ?_
        refine lv_iconst (v := (-1)) hx hb dY_extreme_43 (by decide) ?_
        refine lv_icmp_eq (tgt := 70) hx hb dY_extreme_44 rfl (fun c44 => ?_) (fun c44 => ?_)
        · refine lv_iload hx hb dY_extreme_70 (lv_at hl 1 rfl) ?_
          refine lv_istore_n (lv' := [(3, .int (nI i)), (7, .long (yp_weight u h ((xky u) i))), (6, .int (nI i)), (4, .long (yp_extremeL u h g i).2), (0, .ref (G 0)), (1, .int h), (2, .int g)]) hx hb dY_extreme_72 rfl hl (by decide) rfl (fun ls hl => ?_)
          refine lv_lload hx hb dY_extreme_73 (lv_at hl 1 rfl) ?_
          refine lv_lstore (lv' := [(4, .long (yp_weight u h ((xky u) i))), (3, .int (nI i)), (7, .long (yp_weight u h ((xky u) i))), (6, .int (nI i)), (0, .ref (G 0)), (1, .int h), (2, .int g)]) hx hb dY_extreme_75 hl (by decide) rfl (fun ls hl => ?_)
          refine lv_iinc (k := 3) (v := (nI (i + 1))) (lv' := [(6, .int (nI (i + 1))), (4, .long (yp_weight u h ((xky u) i))), (3, .int (nI i)), (7, .long (yp_weight u h ((xky u) i))), (0, .ref (G 0)), (1, .int h), (2, .int g)]) hx hb dY_extreme_77 hl rfl (xinc _) (by decide) rfl (fun ls hl => ?_)
          refine lv_goto (tgt := 8) hx hb dY_extreme_80 rfl ?_
          have e9 : yp_extremeL u h g (i + 1) = ((nI i), (yp_weight u h ((xky u) i))) := by rw [yp_extremeL]; rw [if_pos c25, if_pos c44]
          have hl : lv_has ls 9 [(6, .int (nI (i + 1))), (3, .int (yp_extremeL u h g (i + 1)).1), (4, .long (yp_extremeL u h g (i + 1)).2), (0, .ref (G 0)), (1, .int h), (2, .int g)] := by rw [e9]; exact lv_sub hl [0, 2, 1, 4, 5, 6] rfl
          exact ih _ (by omega) (i + 1) _ _ _ rfl hi hP hD hS hl
        · refine lv_iload_n hx hb dY_extreme_47 rfl (lv_at hl 6 rfl) ?_
          refine lv_if_eq (tgt := 62) hx hb dY_extreme_48 rfl (fun c48 => ?_) (fun c48 => ?_)
          · refine lv_lload hx hb dY_extreme_62 (lv_at hl 0 rfl) ?_
            refine lv_lload hx hb dY_extreme_64 (lv_at hl 3 rfl) ?_
            refine W.lcmp hx hb dY_extreme_66 ?_
            refine lv_if_lt (tgt := 77) hx hb dY_extreme_67 rfl (fun c67 => ?_) (fun c67 => ?_)
            · refine lv_iinc (k := 1) (v := (nI (i + 1))) (lv' := [(6, .int (nI (i + 1))), (7, .long (yp_weight u h ((xky u) i))), (3, .int (yp_extremeL u h g i).1), (4, .long (yp_extremeL u h g i).2), (0, .ref (G 0)), (1, .int h), (2, .int g)]) hx hb dY_extreme_77 hl rfl (xinc _) (by decide) rfl (fun ls hl => ?_)
              refine lv_goto (tgt := 8) hx hb dY_extreme_80 rfl ?_
              have e9 : yp_extremeL u h g (i + 1) = ((yp_extremeL u h g i).1, (yp_extremeL u h g i).2) := by rw [yp_extremeL]; rw [if_pos c25, if_neg c44, if_pos c48, if_pos c67]
              have hl : lv_has ls 9 [(6, .int (nI (i + 1))), (3, .int (yp_extremeL u h g (i + 1)).1), (4, .long (yp_extremeL u h g (i + 1)).2), (0, .ref (G 0)), (1, .int h), (2, .int g)] := by rw [e9]; exact lv_sub hl [0, 2, 3, 4, 5, 6] rfl
              exact ih _ (by omega) (i + 1) _ _ _ rfl hi hP hD hS hl
            · refine lv_iload hx hb dY_extreme_70 (lv_at hl 1 rfl) ?_
              refine lv_istore_n (lv' := [(3, .int (nI i)), (7, .long (yp_weight u h ((xky u) i))), (6, .int (nI i)), (4, .long (yp_extremeL u h g i).2), (0, .ref (G 0)), (1, .int h), (2, .int g)]) hx hb dY_extreme_72 rfl hl (by decide) rfl (fun ls hl => ?_)
              refine lv_lload hx hb dY_extreme_73 (lv_at hl 1 rfl) ?_
              refine lv_lstore (lv' := [(4, .long (yp_weight u h ((xky u) i))), (3, .int (nI i)), (7, .long (yp_weight u h ((xky u) i))), (6, .int (nI i)), (0, .ref (G 0)), (1, .int h), (2, .int g)]) hx hb dY_extreme_75 hl (by decide) rfl (fun ls hl => ?_)
              refine lv_iinc (k := 3) (v := (nI (i + 1))) (lv' := [(6, .int (nI (i + 1))), (4, .long (yp_weight u h ((xky u) i))), (3, .int (nI i)), (7, .long (yp_weight u h ((xky u) i))), (0, .ref (G 0)), (1, .int h), (2, .int g)]) hx hb dY_extreme_77 hl rfl (xinc _) (by decide) rfl (fun ls hl => ?_)
              refine lv_goto (tgt := 8) hx hb dY_extreme_80 rfl ?_
              have e9 : yp_extremeL u h g (i + 1) = ((nI i), (yp_weight u h ((xky u) i))) := by rw [yp_extremeL]; rw [if_pos c25, if_neg c44, if_pos c48, if_neg c67]
              have hl : lv_has ls 9 [(6, .int (nI (i + 1))), (3, .int (yp_extremeL u h g (i + 1)).1), (4, .long (yp_extremeL u h g (i + 1)).2), (0, .ref (G 0)), (1, .int h), (2, .int g)] := by rw [e9]; exact lv_sub hl [0, 2, 1, 4, 5, 6] rfl
              exact ih _ (by omega) (i + 1) _ _ _ rfl hi hP hD hS hl
          · refine lv_lload hx hb dY_extreme_51 (lv_at hl 0 rfl) ?_
            refine lv_lload hx hb dY_extreme_53 (lv_at hl 3 rfl) ?_
            refine W.lcmp hx hb dY_extreme_55 ?_
            refine lv_if_ge (tgt := 77) hx hb dY_extreme_56 rfl (fun c56 => ?_) (fun c56 => ?_)
            · refine lv_iinc (k := 1) (v := (nI (i + 1))) (lv' := [(6, .int (nI (i + 1))), (7, .long (yp_weight u h ((xky u) i))), (3, .int (yp_extremeL u h g i).1), (4, .long (yp_extremeL u h g i).2), (0, .ref (G 0)), (1, .int h), (2, .int g)]) hx hb dY_extreme_77 hl rfl (xinc _) (by decide) rfl (fun ls hl => ?_)
              refine lv_goto (tgt := 8) hx hb dY_extreme_80 rfl ?_
              have e9 : yp_extremeL u h g (i + 1) = ((yp_extremeL u h g i).1, (yp_extremeL u h g i).2) := by rw [yp_extremeL]; rw [if_pos c25, if_neg c44, if_neg c48, if_pos c56]
              have hl : lv_has ls 9 [(6, .int (nI (i + 1))), (3, .int (yp_extremeL u h g (i + 1)).1), (4, .long (yp_extremeL u h g (i + 1)).2), (0, .ref (G 0)), (1, .int h), (2, .int g)] := by rw [e9]; exact lv_sub hl [0, 2, 3, 4, 5, 6] rfl
              exact ih _ (by omega) (i + 1) _ _ _ rfl hi hP hD hS hl
            · refine lv_goto (tgt := 70) hx hb dY_extreme_59 rfl ?_
              refine lv_iload hx hb dY_extreme_70 (lv_at hl 1 rfl) ?_
              refine lv_istore_n (lv' := [(3, .int (nI i)), (7, .long (yp_weight u h ((xky u) i))), (6, .int (nI i)), (4, .long (yp_extremeL u h g i).2), (0, .ref (G 0)), (1, .int h), (2, .int g)]) hx hb dY_extreme_72 rfl hl (by decide) rfl (fun ls hl => ?_)
              refine lv_lload hx hb dY_extreme_73 (lv_at hl 1 rfl) ?_
              refine lv_lstore (lv' := [(4, .long (yp_weight u h ((xky u) i))), (3, .int (nI i)), (7, .long (yp_weight u h ((xky u) i))), (6, .int (nI i)), (0, .ref (G 0)), (1, .int h), (2, .int g)]) hx hb dY_extreme_75 hl (by decide) rfl (fun ls hl => ?_)
              refine lv_iinc (k := 3) (v := (nI (i + 1))) (lv' := [(6, .int (nI (i + 1))), (4, .long (yp_weight u h ((xky u) i))), (3, .int (nI i)), (7, .long (yp_weight u h ((xky u) i))), (0, .ref (G 0)), (1, .int h), (2, .int g)]) hx hb dY_extreme_77 hl rfl (xinc _) (by decide) rfl (fun ls hl => ?_)
              refine lv_goto (tgt := 8) hx hb dY_extreme_80 rfl ?_
              have e9 : yp_extremeL u h g (i + 1) = ((nI i), (yp_weight u h ((xky u) i))) := by rw [yp_extremeL]; rw [if_pos c25, if_neg c44, if_neg c48, if_neg c56]
              have hl : lv_has ls 9 [(6, .int (nI (i + 1))), (3, .int (yp_extremeL u h g (i + 1)).1), (4, .long (yp_extremeL u h g (i + 1)).2), (0, .ref (G 0)), (1, .int h), (2, .int g)] := by rw [e9]; exact lv_sub hl [0, 2, 1, 4, 5, 6] rfl
              exact ih _ (by omega) (i + 1) _ _ _ rfl hi hP hD hS hl
def yp_extreme (u : xS) (h : Int32) (g : Int32) : Int32 :=
  (yp_extremeL u h g (xn u)).1
set_option maxHeartbeats 4000000 in
set_option maxRecDepth 100000 in
theorem yb_extreme {p : Program} {l : Launch} {e : Env} {s : State} {m : MethodId} {args : Array Value} {below : List Frame} {meth : Method} {c : Code} {Q : State → Prop} {A : Nat → Prop} {ls : Array Slot} {dC : Nat → ClassId} {dI : Nat → Nat → Nat} {G : Nat → Nat} {C : Nat → ClassId} {u : xS} {h : Int32} {g : Int32} (hn : xn u ≤ 160) (hh : vp_in h 12) (B : CallFix p m c cY_extreme 9 s args wsY_extreme RX1) (hK : va_K (dC, dI) vwCl (yT C) s) (hA : ∀ q : Nat, s.heap.size ≤ q → A q) (hP : va_P (dC, dI) vwCl (yW G C u) s.heap) (hD : va_D A (yW G C u)) (hl : lv_has ls 9 [(0, .ref (G 0)), (1, .int h), (2, .int g)]) (kk : (∀ (H : Heap) (locs : List Loc) (pc : Nat) (ls : Array Slot), decode cY_extreme pc = .ok (.ireturn, 1) → va_P (dC, dI) vwCl (yW G C u) H → va_D A (yW G C u) → va_S A s.heap H locs → W p l e (xR 1 24) s m args below meth c H locs 0 0 Q (F0 m pc ls [.int (yp_extreme u h g)]))) : W p l e (xR 1 24) s m args below meth c s.heap [] 0 0 Q (F0 m 0 ls []) := by
  obtain ⟨hx, hb, hml, hown, hts⟩ := B
  have hS : va_S A s.heap s.heap [] := va_S.rf
  refine lv_iconst (v := (-1)) hx hb dY_extreme_0 (by decide) ?_
  refine lv_istore_n (lv' := [(3, .int (-1)), (0, .ref (G 0)), (1, .int h), (2, .int g)]) hx hb dY_extreme_1 rfl hl (by decide) rfl (fun ls hl => ?_)
  refine lv_lconst (v := 0) hx hb dY_extreme_2 (by decide) ?_
  refine lv_lstore (lv' := [(4, .long 0), (3, .int (-1)), (0, .ref (G 0)), (1, .int h), (2, .int g)]) hx hb dY_extreme_3 hl (by decide) rfl (fun ls hl => ?_)
  refine lv_iconst (v := 0) hx hb dY_extreme_5 (by decide) ?_
  refine lv_istore (lv' := [(6, .int 0), (4, .long 0), (3, .int (-1)), (0, .ref (G 0)), (1, .int h), (2, .int g)]) hx hb dY_extreme_6 hl (by decide) rfl (fun ls hl => ?_)
  refine yl_extreme hn hh ⟨hx, hb, hml, hown, hts⟩ hK hA (fun H locs ls hP hD hS hl => ?_) _ 0 _ _ _ rfl (Nat.zero_le _) hP hD hS (lv_sub hl [0, 2, 1, 3, 4, 5] rfl)
  refine lv_iload_n hx hb dY_extreme_83 rfl (lv_at hl 0 rfl) ?_
  have e9 : yp_extreme u h g = (yp_extremeL u h g (xn u)).1 := rfl
  exact W.eq (congrArg (fun z => F0 m 84 ls [.int z]) e9.symm) (kk _ _ _ _ dY_extreme_84 hP hD hS)
theorem yc_extreme (l : Launch) (dC : Nat → ClassId) (dI : Nat → Nat → Nat) (G : Nat → Nat) (C : Nat → ClassId) (sz : Nat) (u : xS) (h : Int32) (g : Int32) (hn : xn u ≤ 160) (hh : vp_in h 12) : xMi l yY_extreme wsY_extreme (xR 1 24) dC dI (yT C) [.ref (G 0), .int h, .int g] (yW G C u) (yW G C u) (yp_extreme u h g) sz :=
  xmet_i (by decide) rfl rfl (Nat.le_of_ble_eq_true rfl) rfl (fun p e s m args below meth c Q A ls B hK hA hP hD hl kk => yb_extreme hn hh B hK hA hP hD hl kk)
theorem yex_vp {u : xS} {h g : Int32} (hn : xn u ≤ 160) (c : ¬ yp_extreme u h g < 0) : vp_in (yp_extreme u h g) 160 := by
  rcases yex_in u h g (xn u) with h1 | ⟨j, hj, h1⟩
  · refine absurd ?_ c
    show (yp_extremeL u h g (xn u)).1 < 0
    rw [h1]; decide
  · show vp_in (yp_extremeL u h g (xn u)).1 160
    rw [h1]; exact vp_in_nI (Nat.lt_of_lt_of_le hj hn) (by decide)
end
section
def yp_open (u : xS) (a : Int32) (b : Int32) : Int32 :=
  (if a < 0 then
    (-2)
  else (if 2 < a then
      (-2)
    else (if b < 0 then
        (-2)
      else (if b ≤ 3 then
          (if (nI (xm u)) = 12 then
            (-8)
          else ((nI ((xm u) + 1)) - 1))
        else (-2)))))
def yq_open (u : xS) (a : Int32) (b : Int32) : xS :=
  (if a < 0 then
    u
  else (if 2 < a then
      u
    else (if b < 0 then
        u
      else (if b ≤ 3 then
          (if (nI (xm u)) = 12 then
            u
          else (sM (sFl (sOd (sKd u (upd (xkd u) ((nI (xm u))).toNatClampNeg a)) (upd (xod u) ((nI (xm u))).toNatClampNeg b)) (vp_updL (xfl u) ((nI (xm u))).toNatClampNeg (-9223372036854775808))) ((xm u) + 1)))
        else u))))
set_option maxHeartbeats 4000000 in
set_option maxRecDepth 100000 in
theorem yb_open {p : Program} {l : Launch} {e : Env} {s : State} {m : MethodId} {args : Array Value} {below : List Frame} {meth : Method} {c : Code} {Q : State → Prop} {A : Nat → Prop} {ls : Array Slot} {dC : Nat → ClassId} {dI : Nat → Nat → Nat} {G : Nat → Nat} {C : Nat → ClassId} {u : xS} {a : Int32} {b : Int32} (hm : xm u ≤ 12) (B : CallFix p m c cY_open 3 s args wsY_open RX1) (hK : va_K (dC, dI) vwCl (yT C) s) (hA : ∀ q : Nat, s.heap.size ≤ q → A q) (hP : va_P (dC, dI) vwCl (yW G C u) s.heap) (hD : va_D A (yW G C u)) (hl : lv_has ls 3 [(0, .ref (G 0)), (1, .int a), (2, .int b)]) (kk : (∀ (H : Heap) (locs : List Loc) (pc : Nat) (ls : Array Slot), decode cY_open pc = .ok (.ireturn, 1) → va_P (dC, dI) vwCl (yW G C (yq_open u a b)) H → va_D A (yW G C (yq_open u a b)) → va_S A s.heap H locs → W p l e (xR 0 0) s m args below meth c H locs 0 0 Q (F0 m pc ls [.int (yp_open u a b)]))) : W p l e (xR 0 0) s m args below meth c s.heap [] 0 0 Q (F0 m 0 ls []) := by
  obtain ⟨hx, hb, hml, hown, hts⟩ := B
  have hS : va_S A s.heap s.heap [] := va_S.rf
  have hfw : ∀ w ∈ u_ws RX1 TX1 9, w ∈ wsY_open := by decide +kernel
  refine lv_iload_n hx hb dY_open_0 rfl (lv_at hl 1 rfl) ?_
  refine lv_if_lt (tgt := 18) hx hb dY_open_1 rfl (fun c1 => ?_) (fun c1 => ?_)
  · refine lv_bipush (v := (-2)) hx hb dY_open_18 (by decide) ?_
    have e8 : yq_open u a b = u := by unfold yq_open; rw [if_pos c1]
    have e9 : yp_open u a b = (-2) := by unfold yp_open; rw [if_pos c1]
    exact W.eq (congrArg (fun z => F0 m 20 ls [.int z]) e9.symm) (kk _ _ _ _ dY_open_20 (by rw [e8]; exact hP) (by rw [e8]; exact hD) hS)
  · refine lv_iload_n hx hb dY_open_4 rfl (lv_at hl 1 rfl) ?_
    refine lv_iconst (v := 2) hx hb dY_open_5 (by decide) ?_
    refine lv_icmp_gt (tgt := 18) hx hb dY_open_6 rfl (fun c6 => ?_) (fun c6 => ?_)
    · refine lv_bipush (v := (-2)) hx hb dY_open_18 (by decide) ?_
      have e8 : yq_open u a b = u := by unfold yq_open; rw [if_neg c1, if_pos c6]
      have e9 : yp_open u a b = (-2) := by unfold yp_open; rw [if_neg c1, if_pos c6]
      exact W.eq (congrArg (fun z => F0 m 20 ls [.int z]) e9.symm) (kk _ _ _ _ dY_open_20 (by rw [e8]; exact hP) (by rw [e8]; exact hD) hS)
    · refine lv_iload_n hx hb dY_open_9 rfl (lv_at hl 2 rfl) ?_
      refine lv_if_lt (tgt := 18) hx hb dY_open_10 rfl (fun c10 => ?_) (fun c10 => ?_)
      · refine lv_bipush (v := (-2)) hx hb dY_open_18 (by decide) ?_
        have e8 : yq_open u a b = u := by unfold yq_open; rw [if_neg c1, if_neg c6, if_pos c10]
        have e9 : yp_open u a b = (-2) := by unfold yp_open; rw [if_neg c1, if_neg c6, if_pos c10]
        exact W.eq (congrArg (fun z => F0 m 20 ls [.int z]) e9.symm) (kk _ _ _ _ dY_open_20 (by rw [e8]; exact hP) (by rw [e8]; exact hD) hS)
      · refine lv_iload_n hx hb dY_open_13 rfl (lv_at hl 2 rfl) ?_
        refine lv_iconst (v := 3) hx hb dY_open_14 (by decide) ?_
        refine lv_icmp_le (tgt := 21) hx hb dY_open_15 rfl (fun c15 => ?_) (fun c15 => ?_)
        · refine lv_aload_n hx hb dY_open_21 rfl (lv_at hl 0 rfl) ?_
          refine va_get (D := (dC, dI)) (ci := 1) (v := .int (nI (xm u))) (C := RX1) (T := TX1) (N := 9) hx hb hts hfw hown hK hP 0 rfl rfl 0 (by decide) (hts (.fieldLink RX1 33 "MeldingHeapsModel" "opened" "I") (by decide +kernel)) (fun _ h9 => h9) rfl dY_open_22 ?_
          refine lv_bipush (v := 12) hx hb dY_open_25 (by decide) ?_
          refine lv_icmp_ne (tgt := 33) hx hb dY_open_27 rfl (fun c27 => ?_) (fun c27 => ?_)
          · refine lv_aload_n hx hb dY_open_33 rfl (lv_at hl 0 rfl) ?_
            refine va_get (D := (dC, dI)) (ci := 1) (v := .ref (G 1)) (C := RX1) (T := TX1) (N := 9) hx hb hts hfw hown hK hP 0 rfl rfl 1 (by decide) (hts (.fieldLink RX1 7 "MeldingHeapsModel" "kinds" "[I") (by decide +kernel)) (fun _ h9 => h9) rfl dY_open_34 ?_
            refine lv_aload_n hx hb dY_open_37 rfl (lv_at hl 0 rfl) ?_
            refine va_get (D := (dC, dI)) (ci := 1) (v := .int (nI (xm u))) (C := RX1) (T := TX1) (N := 9) hx hb hts hfw hown hK hP 0 rfl rfl 0 (by decide) (hts (.fieldLink RX1 33 "MeldingHeapsModel" "opened" "I") (by decide +kernel)) (fun _ h9 => h9) rfl dY_open_38 ?_
            refine lv_iload_n hx hb dY_open_41 rfl (lv_at hl 1 rfl) ?_
            refine va_iast (f := (xkd u)) hx hb hK hP hD hS 1 0 rfl rfl (cnt_ne c27 hm) dY_open_42 (fun H locs hP hD hS => ?_)
            have hP : va_P (dC, dI) vwCl (yW G C (sKd u (upd (xkd u) ((nI (xm u))).toNatClampNeg a))) H := hP
            have hD : va_D A (yW G C (sKd u (upd (xkd u) ((nI (xm u))).toNatClampNeg a))) := hD
            refine lv_aload_n hx hb dY_open_43 rfl (lv_at hl 0 rfl) ?_
            refine va_get (D := (dC, dI)) (ci := 1) (v := .ref (G 2)) (C := RX1) (T := TX1) (N := 9) hx hb hts hfw hown hK hP 0 rfl rfl 2 (by decide) (hts (.fieldLink RX1 13 "MeldingHeapsModel" "orders" "[I") (by decide +kernel)) (fun _ h9 => h9) rfl dY_open_44 ?_
            refine lv_aload_n hx hb dY_open_47 rfl (lv_at hl 0 rfl) ?_
            refine va_get (D := (dC, dI)) (ci := 1) (v := .int (nI (xm u))) (C := RX1) (T := TX1) (N := 9) hx hb hts hfw hown hK hP 0 rfl rfl 0 (by decide) (hts (.fieldLink RX1 33 "MeldingHeapsModel" "opened" "I") (by decide +kernel)) (fun _ h9 => h9) rfl dY_open_48 ?_
            refine lv_iload_n hx hb dY_open_51 rfl (lv_at hl 2 rfl) ?_
            refine va_iast (f := (xod u)) hx hb hK hP hD hS 2 1 rfl rfl (cnt_ne c27 hm) dY_open_52 (fun H locs hP hD hS => ?_)
            have hP : va_P (dC, dI) vwCl (yW G C (sOd (sKd u (upd (xkd u) ((nI (xm u))).toNatClampNeg a)) (upd (xod u) ((nI (xm u))).toNatClampNeg b))) H := hP
            have hD : va_D A (yW G C (sOd (sKd u (upd (xkd u) ((nI (xm u))).toNatClampNeg a)) (upd (xod u) ((nI (xm u))).toNatClampNeg b))) := hD
            refine lv_aload_n hx hb dY_open_53 rfl (lv_at hl 0 rfl) ?_
            refine va_get (D := (dC, dI)) (ci := 1) (v := .ref (G 4)) (C := RX1) (T := TX1) (N := 9) hx hb hts hfw hown hK hP 0 rfl rfl 4 (by decide) (hts (.fieldLink RX1 20 "MeldingHeapsModel" "floors" "[J") (by decide +kernel)) (fun _ h9 => h9) rfl dY_open_54 ?_
            refine lv_aload_n hx hb dY_open_57 rfl (lv_at hl 0 rfl) ?_
            refine va_get (D := (dC, dI)) (ci := 1) (v := .int (nI (xm u))) (C := RX1) (T := TX1) (N := 9) hx hb hts hfw hown hK hP 0 rfl rfl 0 (by decide) (hts (.fieldLink RX1 33 "MeldingHeapsModel" "opened" "I") (by decide +kernel)) (fun _ h9 => h9) rfl dY_open_58 ?_
            refine lv_ldc2 (v := (-9223372036854775808)) hx hb hown (hts (.constantLong RX1 42 (-9223372036854775808)) (by decide +kernel)) dY_open_61 ?_
            refine va_last (f := (xfl u)) hx hb hK hP hD hS 4 3 rfl rfl (cnt_ne c27 hm) dY_open_64 (fun H locs hP hD hS => ?_)
            have hP : va_P (dC, dI) vwCl (yW G C (sFl (sOd (sKd u (upd (xkd u) ((nI (xm u))).toNatClampNeg a)) (upd (xod u) ((nI (xm u))).toNatClampNeg b)) (vp_updL (xfl u) ((nI (xm u))).toNatClampNeg (-9223372036854775808)))) H := hP
            have hD : va_D A (yW G C (sFl (sOd (sKd u (upd (xkd u) ((nI (xm u))).toNatClampNeg a)) (upd (xod u) ((nI (xm u))).toNatClampNeg b)) (vp_updL (xfl u) ((nI (xm u))).toNatClampNeg (-9223372036854775808)))) := hD
            refine lv_aload_n hx hb dY_open_65 rfl (lv_at hl 0 rfl) ?_
            refine lv_dup hx hb dY_open_66 rfl ?_
            refine va_get (D := (dC, dI)) (ci := 1) (v := .int (nI (xm u))) (C := RX1) (T := TX1) (N := 9) hx hb hts hfw hown hK hP 0 rfl rfl 0 (by decide) (hts (.fieldLink RX1 33 "MeldingHeapsModel" "opened" "I") (by decide +kernel)) (fun _ h9 => h9) rfl dY_open_67 ?_
            refine lv_iconst (v := 1) hx hb dY_open_70 (by decide) ?_
            refine lv_iadd hx hb dY_open_71 ?_
            refine W.eq (congrArg (fun z => F0 m 72 ls (.int z :: [.ref (G 0)])) (nI_1 (xm u))) ?_
            refine va_put (D := (dC, dI)) (ci := 1) (v := .int (nI ((xm u) + 1))) (ty := .int) (C := RX1) (T := TX1) (N := 9) hx hb hts hfw tyX1 tyX1_ok nmX1 hown hK hP hD hS 0 rfl rfl 0 (by decide) (hts (.fieldLink RX1 33 "MeldingHeapsModel" "opened" "I") (by decide +kernel)) (fun _ h9 => h9) rfl (by decide +kernel) rfl rfl (Nat.le_of_ble_eq_true rfl) dY_open_72 (fun H locs hP hD hS => ?_)
            have hP : va_P (dC, dI) vwCl (yW G C (sM (sFl (sOd (sKd u (upd (xkd u) ((nI (xm u))).toNatClampNeg a)) (upd (xod u) ((nI (xm u))).toNatClampNeg b)) (vp_updL (xfl u) ((nI (xm u))).toNatClampNeg (-9223372036854775808))) ((xm u) + 1))) H := hP
            have hD : va_D A (yW G C (sM (sFl (sOd (sKd u (upd (xkd u) ((nI (xm u))).toNatClampNeg a)) (upd (xod u) ((nI (xm u))).toNatClampNeg b)) (vp_updL (xfl u) ((nI (xm u))).toNatClampNeg (-9223372036854775808))) ((xm u) + 1))) := hD
            refine lv_aload_n hx hb dY_open_75 rfl (lv_at hl 0 rfl) ?_
            refine va_get (D := (dC, dI)) (ci := 1) (v := .int (nI ((xm u) + 1))) (C := RX1) (T := TX1) (N := 9) hx hb hts hfw hown hK hP 0 rfl rfl 0 (by decide) (hts (.fieldLink RX1 33 "MeldingHeapsModel" "opened" "I") (by decide +kernel)) (fun _ h9 => h9) rfl dY_open_76 ?_
            refine lv_iconst (v := 1) hx hb dY_open_79 (by decide) ?_
            refine lv_isub hx hb dY_open_80 ?_
            have e8 : yq_open u a b = (sM (sFl (sOd (sKd u (upd (xkd u) ((nI (xm u))).toNatClampNeg a)) (upd (xod u) ((nI (xm u))).toNatClampNeg b)) (vp_updL (xfl u) ((nI (xm u))).toNatClampNeg (-9223372036854775808))) ((xm u) + 1)) := by unfold yq_open; rw [if_neg c1, if_neg c6, if_neg c10, if_pos c15, if_neg c27]
            have e9 : yp_open u a b = ((nI ((xm u) + 1)) - 1) := by unfold yp_open; rw [if_neg c1, if_neg c6, if_neg c10, if_pos c15, if_neg c27]
            exact W.eq (congrArg (fun z => F0 m 81 ls [.int z]) e9.symm) (kk _ _ _ _ dY_open_81 (by rw [e8]; exact hP) (by rw [e8]; exact hD) hS)
          · refine lv_bipush (v := (-8)) hx hb dY_open_30 (by decide) ?_
            have e8 : yq_open u a b = u := by unfold yq_open; rw [if_neg c1, if_neg c6, if_neg c10, if_pos c15, if_pos c27]
            have e9 : yp_open u a b = (-8) := by unfold yp_open; rw [if_neg c1, if_neg c6, if_neg c10, if_pos c15, if_pos c27]
            exact W.eq (congrArg (fun z => F0 m 32 ls [.int z]) e9.symm) (kk _ _ _ _ dY_open_32 (by rw [e8]; exact hP) (by rw [e8]; exact hD) hS)
        · refine lv_bipush (v := (-2)) hx hb dY_open_18 (by decide) ?_
          have e8 : yq_open u a b = u := by unfold yq_open; rw [if_neg c1, if_neg c6, if_neg c10, if_neg c15]
          have e9 : yp_open u a b = (-2) := by unfold yp_open; rw [if_neg c1, if_neg c6, if_neg c10, if_neg c15]
          exact W.eq (congrArg (fun z => F0 m 20 ls [.int z]) e9.symm) (kk _ _ _ _ dY_open_20 (by rw [e8]; exact hP) (by rw [e8]; exact hD) hS)
theorem yc_open (l : Launch) (dC : Nat → ClassId) (dI : Nat → Nat → Nat) (G : Nat → Nat) (C : Nat → ClassId) (sz : Nat) (u : xS) (a : Int32) (b : Int32) (hm : xm u ≤ 12) : xMi l yY_open wsY_open (xR 0 0) dC dI (yT C) [.ref (G 0), .int a, .int b] (yW G C u) (yW G C (yq_open u a b)) (yp_open u a b) sz :=
  xmet_i (by decide) rfl rfl (Nat.le_of_ble_eq_true rfl) rfl (fun p e s m args below meth c Q A ls B hK hA hP hD hl kk => yb_open hm B hK hA hP hD hl kk)
def yp_insert (u : xS) (h : Int32) (k : Int64) (v : Int32) : Int32 :=
  (if (yp_wrongHeap u h) = 0 then
    (if (yp_isBelow u h k) = 0 then
      (if (nI (xn u)) = 160 then
        (-8)
      else ((nI ((xn u) + 1)) - 1))
    else (-6))
  else (yp_wrongHeap u h))
def yq_insert (u : xS) (h : Int32) (k : Int64) (v : Int32) : xS :=
  (if (yp_wrongHeap u h) = 0 then
    (if (yp_isBelow u h k) = 0 then
      (if (nI (xn u)) = 160 then
        u
      else (sN (sOw (sVl (sKy u (vp_updL (xky u) ((nI (xn u))).toNatClampNeg k)) (upd (xvl u) ((nI (xn u))).toNatClampNeg v)) (upd (xow u) ((nI (xn u))).toNatClampNeg h)) ((xn u) + 1)))
    else u)
  else u)
set_option maxHeartbeats 4000000 in
set_option maxRecDepth 100000 in
theorem yb_insert {p : Program} {l : Launch} {e : Env} {s : State} {m : MethodId} {args : Array Value} {below : List Frame} {meth : Method} {c : Code} {Q : State → Prop} {A : Nat → Prop} {ls : Array Slot} {dC : Nat → ClassId} {dI : Nat → Nat → Nat} {G : Nat → Nat} {C : Nat → ClassId} {u : xS} {h : Int32} {k : Int64} {v : Int32} (hm : xm u ≤ 12) (hn : xn u ≤ 160) (B : CallFix p m c cY_insert 6 s args wsY_insert RX1) (hK : va_K (dC, dI) vwCl (yT C) s) (hA : ∀ q : Nat, s.heap.size ≤ q → A q) (hP : va_P (dC, dI) vwCl (yW G C u) s.heap) (hD : va_D A (yW G C u)) (hl : lv_has ls 6 [(0, .ref (G 0)), (1, .int h), (2, .long k), (4, .int v)]) (kk : (∀ (H : Heap) (locs : List Loc) (pc : Nat) (ls : Array Slot), decode cY_insert pc = .ok (.ireturn, 1) → va_P (dC, dI) vwCl (yW G C (yq_insert u h k v)) H → va_D A (yW G C (yq_insert u h k v)) → va_S A s.heap H locs → W p l e (xR 2 47) s m args below meth c H locs 0 0 Q (F0 m pc ls [.int (yp_insert u h k v)]))) : W p l e (xR 2 47) s m args below meth c s.heap [] 0 0 Q (F0 m 0 ls []) := by
  obtain ⟨hx, hb, hml, hown, hts⟩ := B
  have hS : va_S A s.heap s.heap [] := va_S.rf
  have hfw : ∀ w ∈ u_ws RX1 TX1 9, w ∈ wsY_insert := by decide +kernel
  refine lv_aload_n hx hb dY_insert_0 rfl (lv_at hl 0 rfl) ?_
  refine lv_iload_n hx hb dY_insert_1 rfl (lv_at hl 1 rfl) ?_
  refine xcall_i (ws := (yW G C u)) (wc := (yW G C u)) (wr := []) (w1 := (yW G C u)) (v := (yp_wrongHeap u h)) [0, 1, 2, 3, 4, 5, 6, 7] [] (va_runV (As := [.int h]) (rest := []) ⟨hx, hb, hml, hown, hts⟩ (yc_wrongHeap l dC dI G C _ u h hm) (cwV 1 hts gY_insert_Y_wrongHeap rfl rfl rfl (by decide +kernel) ⟨Nat.le_of_ble_eq_true rfl, Nat.le_of_ble_eq_true rfl⟩) (xpreV (q0 := 0) (ci := 1) (qc := (RX1, TX1, 9)) hK hP hD rfl rfl) rfl rfl hl.1 rfl (lv_room (Nat.le_of_ble_eq_true rfl)) dY_insert_2 ⟨Nat.zero_le _, Nat.zero_le _⟩) hP hD hS hA rfl rfl (by decide) (by decide) (fun H locs hP hD hS => ?_)
  have hP : va_P (dC, dI) vwCl (yW G C u) H := hP
  have hD : va_D A (yW G C u) := hD
  refine lv_istore (lv' := [(5, .int (yp_wrongHeap u h)), (0, .ref (G 0)), (1, .int h), (2, .long k), (4, .int v)]) hx hb dY_insert_5 hl (by decide) rfl (fun ls hl => ?_)
  refine lv_iload hx hb dY_insert_7 (lv_at hl 0 rfl) ?_
  refine lv_if_eq (tgt := 15) hx hb dY_insert_9 rfl (fun c9 => ?_) (fun c9 => ?_)
  · refine lv_aload_n hx hb dY_insert_15 rfl (lv_at hl 1 rfl) ?_
    refine lv_iload_n hx hb dY_insert_16 rfl (lv_at hl 2 rfl) ?_
    refine lv_lload_n hx hb dY_insert_17 rfl (lv_at hl 3 rfl) ?_
    refine xcall_i (ws := (yW G C u)) (wc := (yW G C u)) (wr := []) (w1 := (yW G C u)) (v := (yp_isBelow u h k)) [0, 1, 2, 3, 4, 5, 6, 7] [] (va_runV (As := [.int h, .long k]) (rest := []) ⟨hx, hb, hml, hown, hts⟩ (yc_isBelow l dC dI G C _ u h k (yin_wH hm c9)) (cwV 2 hts gY_insert_Y_isBelow rfl rfl rfl (by decide +kernel) ⟨Nat.le_of_ble_eq_true rfl, Nat.le_of_ble_eq_true rfl⟩) (xpreV (q0 := 0) (ci := 1) (qc := (RX1, TX1, 9)) hK hP hD rfl rfl) rfl rfl hl.1 rfl (lv_room (Nat.le_of_ble_eq_true rfl)) dY_insert_18 ⟨Nat.zero_le _, Nat.zero_le _⟩) hP hD hS hA rfl rfl (by decide) (by decide) (fun H locs hP hD hS => ?_)
    have hP : va_P (dC, dI) vwCl (yW G C u) H := hP
    have hD : va_D A (yW G C u) := hD
    refine lv_if_eq (tgt := 27) hx hb dY_insert_21 rfl (fun c21 => ?_) (fun c21 => ?_)
    · refine lv_aload_n hx hb dY_insert_27 rfl (lv_at hl 1 rfl) ?_
      refine va_get (D := (dC, dI)) (ci := 1) (v := .int (nI (xn u))) (C := RX1) (T := TX1) (N := 9) hx hb hts hfw hown hK hP 0 rfl rfl 5 (by decide) (hts (.fieldLink RX1 37 "MeldingHeapsModel" "inserted" "I") (by decide +kernel)) (fun _ h9 => h9) rfl dY_insert_28 ?_
      refine lv_sipush (v := 160) hx hb dY_insert_31 (by decide) ?_
      refine lv_icmp_ne (tgt := 40) hx hb dY_insert_34 rfl (fun c34 => ?_) (fun c34 => ?_)
      · refine lv_aload_n hx hb dY_insert_40 rfl (lv_at hl 1 rfl) ?_
        refine va_get (D := (dC, dI)) (ci := 1) (v := .ref (G 5)) (C := RX1) (T := TX1) (N := 9) hx hb hts hfw hown hK hP 0 rfl rfl 6 (by decide) (hts (.fieldLink RX1 24 "MeldingHeapsModel" "keys" "[J") (by decide +kernel)) (fun _ h9 => h9) rfl dY_insert_41 ?_
        refine lv_aload_n hx hb dY_insert_44 rfl (lv_at hl 1 rfl) ?_
        refine va_get (D := (dC, dI)) (ci := 1) (v := .int (nI (xn u))) (C := RX1) (T := TX1) (N := 9) hx hb hts hfw hown hK hP 0 rfl rfl 5 (by decide) (hts (.fieldLink RX1 37 "MeldingHeapsModel" "inserted" "I") (by decide +kernel)) (fun _ h9 => h9) rfl dY_insert_45 ?_
        refine lv_lload_n hx hb dY_insert_48 rfl (lv_at hl 3 rfl) ?_
        refine va_last (f := (xky u)) hx hb hK hP hD hS 5 4 rfl rfl (cnt_ne c34 hn) dY_insert_49 (fun H locs hP hD hS => ?_)
        have hP : va_P (dC, dI) vwCl (yW G C (sKy u (vp_updL (xky u) ((nI (xn u))).toNatClampNeg k))) H := hP
        have hD : va_D A (yW G C (sKy u (vp_updL (xky u) ((nI (xn u))).toNatClampNeg k))) := hD
        refine lv_aload_n hx hb dY_insert_50 rfl (lv_at hl 1 rfl) ?_
        refine va_get (D := (dC, dI)) (ci := 1) (v := .ref (G 6)) (C := RX1) (T := TX1) (N := 9) hx hb hts hfw hown hK hP 0 rfl rfl 7 (by decide) (hts (.fieldLink RX1 27 "MeldingHeapsModel" "values" "[I") (by decide +kernel)) (fun _ h9 => h9) rfl dY_insert_51 ?_
        refine lv_aload_n hx hb dY_insert_54 rfl (lv_at hl 1 rfl) ?_
        refine va_get (D := (dC, dI)) (ci := 1) (v := .int (nI (xn u))) (C := RX1) (T := TX1) (N := 9) hx hb hts hfw hown hK hP 0 rfl rfl 5 (by decide) (hts (.fieldLink RX1 37 "MeldingHeapsModel" "inserted" "I") (by decide +kernel)) (fun _ h9 => h9) rfl dY_insert_55 ?_
        refine lv_iload hx hb dY_insert_58 (lv_at hl 4 rfl) ?_
        refine va_iast (f := (xvl u)) hx hb hK hP hD hS 6 5 rfl rfl (cnt_ne c34 hn) dY_insert_60 (fun H locs hP hD hS => ?_)
        have hP : va_P (dC, dI) vwCl (yW G C (sVl (sKy u (vp_updL (xky u) ((nI (xn u))).toNatClampNeg k)) (upd (xvl u) ((nI (xn u))).toNatClampNeg v))) H := hP
        have hD : va_D A (yW G C (sVl (sKy u (vp_updL (xky u) ((nI (xn u))).toNatClampNeg k)) (upd (xvl u) ((nI (xn u))).toNatClampNeg v))) := hD
        refine lv_aload_n hx hb dY_insert_61 rfl (lv_at hl 1 rfl) ?_
        refine va_get (D := (dC, dI)) (ci := 1) (v := .ref (G 7)) (C := RX1) (T := TX1) (N := 9) hx hb hts hfw hown hK hP 0 rfl rfl 8 (by decide) (hts (.fieldLink RX1 30 "MeldingHeapsModel" "homes" "[I") (by decide +kernel)) (fun _ h9 => h9) rfl dY_insert_62 ?_
        refine lv_aload_n hx hb dY_insert_65 rfl (lv_at hl 1 rfl) ?_
        refine va_get (D := (dC, dI)) (ci := 1) (v := .int (nI (xn u))) (C := RX1) (T := TX1) (N := 9) hx hb hts hfw hown hK hP 0 rfl rfl 5 (by decide) (hts (.fieldLink RX1 37 "MeldingHeapsModel" "inserted" "I") (by decide +kernel)) (fun _ h9 => h9) rfl dY_insert_66 ?_
        refine lv_iload_n hx hb dY_insert_69 rfl (lv_at hl 2 rfl) ?_
        refine va_iast (f := (xow u)) hx hb hK hP hD hS 7 6 rfl rfl (cnt_ne c34 hn) dY_insert_70 (fun H locs hP hD hS => ?_)
        have hP : va_P (dC, dI) vwCl (yW G C (sOw (sVl (sKy u (vp_updL (xky u) ((nI (xn u))).toNatClampNeg k)) (upd (xvl u) ((nI (xn u))).toNatClampNeg v)) (upd (xow u) ((nI (xn u))).toNatClampNeg h))) H := hP
        have hD : va_D A (yW G C (sOw (sVl (sKy u (vp_updL (xky u) ((nI (xn u))).toNatClampNeg k)) (upd (xvl u) ((nI (xn u))).toNatClampNeg v)) (upd (xow u) ((nI (xn u))).toNatClampNeg h))) := hD
        refine lv_aload_n hx hb dY_insert_71 rfl (lv_at hl 1 rfl) ?_
        refine lv_dup hx hb dY_insert_72 rfl ?_
        refine va_get (D := (dC, dI)) (ci := 1) (v := .int (nI (xn u))) (C := RX1) (T := TX1) (N := 9) hx hb hts hfw hown hK hP 0 rfl rfl 5 (by decide) (hts (.fieldLink RX1 37 "MeldingHeapsModel" "inserted" "I") (by decide +kernel)) (fun _ h9 => h9) rfl dY_insert_73 ?_
        refine lv_iconst (v := 1) hx hb dY_insert_76 (by decide) ?_
        refine lv_iadd hx hb dY_insert_77 ?_
        refine W.eq (congrArg (fun z => F0 m 78 ls (.int z :: [.ref (G 0)])) (nI_1 (xn u))) ?_
        refine va_put (D := (dC, dI)) (ci := 1) (v := .int (nI ((xn u) + 1))) (ty := .int) (C := RX1) (T := TX1) (N := 9) hx hb hts hfw tyX1 tyX1_ok nmX1 hown hK hP hD hS 0 rfl rfl 5 (by decide) (hts (.fieldLink RX1 37 "MeldingHeapsModel" "inserted" "I") (by decide +kernel)) (fun _ h9 => h9) rfl (by decide +kernel) rfl rfl (Nat.le_of_ble_eq_true rfl) dY_insert_78 (fun H locs hP hD hS => ?_)
        have hP : va_P (dC, dI) vwCl (yW G C (sN (sOw (sVl (sKy u (vp_updL (xky u) ((nI (xn u))).toNatClampNeg k)) (upd (xvl u) ((nI (xn u))).toNatClampNeg v)) (upd (xow u) ((nI (xn u))).toNatClampNeg h)) ((xn u) + 1))) H := hP
        have hD : va_D A (yW G C (sN (sOw (sVl (sKy u (vp_updL (xky u) ((nI (xn u))).toNatClampNeg k)) (upd (xvl u) ((nI (xn u))).toNatClampNeg v)) (upd (xow u) ((nI (xn u))).toNatClampNeg h)) ((xn u) + 1))) := hD
        refine lv_aload_n hx hb dY_insert_81 rfl (lv_at hl 1 rfl) ?_
        refine va_get (D := (dC, dI)) (ci := 1) (v := .int (nI ((xn u) + 1))) (C := RX1) (T := TX1) (N := 9) hx hb hts hfw hown hK hP 0 rfl rfl 5 (by decide) (hts (.fieldLink RX1 37 "MeldingHeapsModel" "inserted" "I") (by decide +kernel)) (fun _ h9 => h9) rfl dY_insert_82 ?_
        refine lv_iconst (v := 1) hx hb dY_insert_85 (by decide) ?_
        refine lv_isub hx hb dY_insert_86 ?_
        have e8 : yq_insert u h k v = (sN (sOw (sVl (sKy u (vp_updL (xky u) ((nI (xn u))).toNatClampNeg k)) (upd (xvl u) ((nI (xn u))).toNatClampNeg v)) (upd (xow u) ((nI (xn u))).toNatClampNeg h)) ((xn u) + 1)) := by unfold yq_insert; rw [if_pos c9, if_pos c21, if_neg c34]
        have e9 : yp_insert u h k v = ((nI ((xn u) + 1)) - 1) := by unfold yp_insert; rw [if_pos c9, if_pos c21, if_neg c34]
        exact W.eq (congrArg (fun z => F0 m 87 ls [.int z]) e9.symm) (kk _ _ _ _ dY_insert_87 (by rw [e8]; exact hP) (by rw [e8]; exact hD) hS)
      · refine lv_bipush (v := (-8)) hx hb dY_insert_37 (by decide) ?_
        have e8 : yq_insert u h k v = u := by unfold yq_insert; rw [if_pos c9, if_pos c21, if_pos c34]
        have e9 : yp_insert u h k v = (-8) := by unfold yp_insert; rw [if_pos c9, if_pos c21, if_pos c34]
        exact W.eq (congrArg (fun z => F0 m 39 ls [.int z]) e9.symm) (kk _ _ _ _ dY_insert_39 (by rw [e8]; exact hP) (by rw [e8]; exact hD) hS)
    · refine lv_bipush (v := (-6)) hx hb dY_insert_24 (by decide) ?_
      have e8 : yq_insert u h k v = u := by unfold yq_insert; rw [if_pos c9, if_neg c21]
      have e9 : yp_insert u h k v = (-6) := by unfold yp_insert; rw [if_pos c9, if_neg c21]
      exact W.eq (congrArg (fun z => F0 m 26 ls [.int z]) e9.symm) (kk _ _ _ _ dY_insert_26 (by rw [e8]; exact hP) (by rw [e8]; exact hD) hS)
  · refine lv_iload hx hb dY_insert_12 (lv_at hl 0 rfl) ?_
    have e8 : yq_insert u h k v = u := by unfold yq_insert; rw [if_neg c9]
    have e9 : yp_insert u h k v = (yp_wrongHeap u h) := by unfold yp_insert; rw [if_neg c9]
    exact W.eq (congrArg (fun z => F0 m 14 ls [.int z]) e9.symm) (kk _ _ _ _ dY_insert_14 (by rw [e8]; exact hP) (by rw [e8]; exact hD) hS)
theorem yc_insert (l : Launch) (dC : Nat → ClassId) (dI : Nat → Nat → Nat) (G : Nat → Nat) (C : Nat → ClassId) (sz : Nat) (u : xS) (h : Int32) (k : Int64) (v : Int32) (hm : xm u ≤ 12) (hn : xn u ≤ 160) : xMi l yY_insert wsY_insert (xR 2 47) dC dI (yT C) [.ref (G 0), .int h, .long k, .int v] (yW G C u) (yW G C (yq_insert u h k v)) (yp_insert u h k v) sz :=
  xmet_i (by decide) rfl rfl (Nat.le_of_ble_eq_true rfl) rfl (fun p e s m args below meth c Q A ls B hK hA hP hD hl kk => yb_insert hm hn B hK hA hP hD hl kk)
def yp_first (u : xS) (h : Int32) : Int32 :=
  (if (yp_wrongHeap u h) = 0 then
    (yp_extreme u h 1)
  else (yp_wrongHeap u h))
set_option maxHeartbeats 4000000 in
set_option maxRecDepth 100000 in
theorem yb_first {p : Program} {l : Launch} {e : Env} {s : State} {m : MethodId} {args : Array Value} {below : List Frame} {meth : Method} {c : Code} {Q : State → Prop} {A : Nat → Prop} {ls : Array Slot} {dC : Nat → ClassId} {dI : Nat → Nat → Nat} {G : Nat → Nat} {C : Nat → ClassId} {u : xS} {h : Int32} (hm : xm u ≤ 12) (hn : xn u ≤ 160) (B : CallFix p m c cY_first 3 s args wsY_first RX1) (hK : va_K (dC, dI) vwCl (yT C) s) (hA : ∀ q : Nat, s.heap.size ≤ q → A q) (hP : va_P (dC, dI) vwCl (yW G C u) s.heap) (hD : va_D A (yW G C u)) (hl : lv_has ls 3 [(0, .ref (G 0)), (1, .int h)]) (kk : (∀ (H : Heap) (locs : List Loc) (pc : Nat) (ls : Array Slot), decode cY_first pc = .ok (.ireturn, 1) → va_P (dC, dI) vwCl (yW G C u) H → va_D A (yW G C u) → va_S A s.heap H locs → W p l e (xR 2 52) s m args below meth c H locs 0 0 Q (F0 m pc ls [.int (yp_first u h)]))) : W p l e (xR 2 52) s m args below meth c s.heap [] 0 0 Q (F0 m 0 ls []) := by
  obtain ⟨hx, hb, hml, hown, hts⟩ := B
  have hS : va_S A s.heap s.heap [] := va_S.rf
  refine lv_aload_n hx hb dY_first_0 rfl (lv_at hl 0 rfl) ?_
  refine lv_iload_n hx hb dY_first_1 rfl (lv_at hl 1 rfl) ?_
  refine xcall_i (ws := (yW G C u)) (wc := (yW G C u)) (wr := []) (w1 := (yW G C u)) (v := (yp_wrongHeap u h)) [0, 1, 2, 3, 4, 5, 6, 7] [] (va_runV (As := [.int h]) (rest := []) ⟨hx, hb, hml, hown, hts⟩ (yc_wrongHeap l dC dI G C _ u h hm) (cwV 1 hts gY_first_Y_wrongHeap rfl rfl rfl (by decide +kernel) ⟨Nat.le_of_ble_eq_true rfl, Nat.le_of_ble_eq_true rfl⟩) (xpreV (q0 := 0) (ci := 1) (qc := (RX1, TX1, 9)) hK hP hD rfl rfl) rfl rfl hl.1 rfl (lv_room (Nat.le_of_ble_eq_true rfl)) dY_first_2 ⟨Nat.zero_le _, Nat.zero_le _⟩) hP hD hS hA rfl rfl (by decide) (by decide) (fun H locs hP hD hS => ?_)
  have hP : va_P (dC, dI) vwCl (yW G C u) H := hP
  have hD : va_D A (yW G C u) := hD
  refine lv_istore_n (lv' := [(2, .int (yp_wrongHeap u h)), (0, .ref (G 0)), (1, .int h)]) hx hb dY_first_5 rfl hl (by decide) rfl (fun ls hl => ?_)
  refine lv_iload_n hx hb dY_first_6 rfl (lv_at hl 0 rfl) ?_
  refine lv_if_eq (tgt := 14) hx hb dY_first_7 rfl (fun c7 => ?_) (fun c7 => ?_)
  · refine lv_aload_n hx hb dY_first_14 rfl (lv_at hl 1 rfl) ?_
    refine lv_iload_n hx hb dY_first_15 rfl (lv_at hl 2 rfl) ?_
    refine lv_iconst (v := 1) hx hb dY_first_16 (by decide) ?_
    refine xcall_i (ws := (yW G C u)) (wc := (yW G C u)) (wr := []) (w1 := (yW G C u)) (v := (yp_extreme u h 1)) [0, 1, 2, 3, 4, 5, 6, 7] [] (va_runV (As := [.int h, .int 1]) (rest := []) ⟨hx, hb, hml, hown, hts⟩ (yc_extreme l dC dI G C _ u h 1 hn (yin_wH hm c7)) (cwV 2 hts gY_first_Y_extreme rfl rfl rfl (by decide +kernel) ⟨Nat.le_of_ble_eq_true rfl, Nat.le_of_ble_eq_true rfl⟩) (xpreV (q0 := 0) (ci := 1) (qc := (RX1, TX1, 9)) hK hP hD rfl rfl) rfl rfl hl.1 rfl (lv_room (Nat.le_of_ble_eq_true rfl)) dY_first_17 ⟨Nat.zero_le _, Nat.zero_le _⟩) hP hD hS hA rfl rfl (by decide) (by decide) (fun H locs hP hD hS => ?_)
    have hP : va_P (dC, dI) vwCl (yW G C u) H := hP
    have hD : va_D A (yW G C u) := hD
    have e9 : yp_first u h = (yp_extreme u h 1) := by unfold yp_first; rw [if_pos c7]
    exact W.eq (congrArg (fun z => F0 m 20 ls [.int z]) e9.symm) (kk _ _ _ _ dY_first_20 hP hD hS)
  · refine lv_iload_n hx hb dY_first_10 rfl (lv_at hl 0 rfl) ?_
    refine lv_goto (tgt := 20) hx hb dY_first_11 rfl ?_
    have e9 : yp_first u h = (yp_wrongHeap u h) := by unfold yp_first; rw [if_neg c7]
    exact W.eq (congrArg (fun z => F0 m 20 ls [.int z]) e9.symm) (kk _ _ _ _ dY_first_20 hP hD hS)
theorem yc_first (l : Launch) (dC : Nat → ClassId) (dI : Nat → Nat → Nat) (G : Nat → Nat) (C : Nat → ClassId) (sz : Nat) (u : xS) (h : Int32) (hm : xm u ≤ 12) (hn : xn u ≤ 160) : xMi l yY_first wsY_first (xR 2 52) dC dI (yT C) [.ref (G 0), .int h] (yW G C u) (yW G C u) (yp_first u h) sz :=
  xmet_i (by decide) rfl rfl (Nat.le_of_ble_eq_true rfl) rfl (fun p e s m args below meth c Q A ls B hK hA hP hD hl kk => yb_first hm hn B hK hA hP hD hl kk)
def yp_last (u : xS) (h : Int32) : Int32 :=
  (if (yp_wrongHeap u h) = 0 then
    (if ((xkd u) (h).toNatClampNeg) = 1 then
      (yp_extreme u h 0)
    else (-7))
  else (yp_wrongHeap u h))
set_option maxHeartbeats 4000000 in
set_option maxRecDepth 100000 in
theorem yb_last {p : Program} {l : Launch} {e : Env} {s : State} {m : MethodId} {args : Array Value} {below : List Frame} {meth : Method} {c : Code} {Q : State → Prop} {A : Nat → Prop} {ls : Array Slot} {dC : Nat → ClassId} {dI : Nat → Nat → Nat} {G : Nat → Nat} {C : Nat → ClassId} {u : xS} {h : Int32} (hm : xm u ≤ 12) (hn : xn u ≤ 160) (B : CallFix p m c cY_last 3 s args wsY_last RX1) (hK : va_K (dC, dI) vwCl (yT C) s) (hA : ∀ q : Nat, s.heap.size ≤ q → A q) (hP : va_P (dC, dI) vwCl (yW G C u) s.heap) (hD : va_D A (yW G C u)) (hl : lv_has ls 3 [(0, .ref (G 0)), (1, .int h)]) (kk : (∀ (H : Heap) (locs : List Loc) (pc : Nat) (ls : Array Slot), decode cY_last pc = .ok (.ireturn, 1) → va_P (dC, dI) vwCl (yW G C u) H → va_D A (yW G C u) → va_S A s.heap H locs → W p l e (xR 2 52) s m args below meth c H locs 0 0 Q (F0 m pc ls [.int (yp_last u h)]))) : W p l e (xR 2 52) s m args below meth c s.heap [] 0 0 Q (F0 m 0 ls []) := by
  obtain ⟨hx, hb, hml, hown, hts⟩ := B
  have hS : va_S A s.heap s.heap [] := va_S.rf
  have hfw : ∀ w ∈ u_ws RX1 TX1 9, w ∈ wsY_last := by decide +kernel
  refine lv_aload_n hx hb dY_last_0 rfl (lv_at hl 0 rfl) ?_
  refine lv_iload_n hx hb dY_last_1 rfl (lv_at hl 1 rfl) ?_
  refine xcall_i (ws := (yW G C u)) (wc := (yW G C u)) (wr := []) (w1 := (yW G C u)) (v := (yp_wrongHeap u h)) [0, 1, 2, 3, 4, 5, 6, 7] [] (va_runV (As := [.int h]) (rest := []) ⟨hx, hb, hml, hown, hts⟩ (yc_wrongHeap l dC dI G C _ u h hm) (cwV 1 hts gY_last_Y_wrongHeap rfl rfl rfl (by decide +kernel) ⟨Nat.le_of_ble_eq_true rfl, Nat.le_of_ble_eq_true rfl⟩) (xpreV (q0 := 0) (ci := 1) (qc := (RX1, TX1, 9)) hK hP hD rfl rfl) rfl rfl hl.1 rfl (lv_room (Nat.le_of_ble_eq_true rfl)) dY_last_2 ⟨Nat.zero_le _, Nat.zero_le _⟩) hP hD hS hA rfl rfl (by decide) (by decide) (fun H locs hP hD hS => ?_)
  have hP : va_P (dC, dI) vwCl (yW G C u) H := hP
  have hD : va_D A (yW G C u) := hD
  refine lv_istore_n (lv' := [(2, .int (yp_wrongHeap u h)), (0, .ref (G 0)), (1, .int h)]) hx hb dY_last_5 rfl hl (by decide) rfl (fun ls hl => ?_)
  refine lv_iload_n hx hb dY_last_6 rfl (lv_at hl 0 rfl) ?_
  refine lv_if_eq (tgt := 12) hx hb dY_last_7 rfl (fun c7 => ?_) (fun c7 => ?_)
  · refine lv_aload_n hx hb dY_last_12 rfl (lv_at hl 1 rfl) ?_
    refine va_get (D := (dC, dI)) (ci := 1) (v := .ref (G 1)) (C := RX1) (T := TX1) (N := 9) hx hb hts hfw hown hK hP 0 rfl rfl 1 (by decide) (hts (.fieldLink RX1 7 "MeldingHeapsModel" "kinds" "[I") (by decide +kernel)) (fun _ h9 => h9) rfl dY_last_13 ?_
    refine lv_iload_n hx hb dY_last_16 rfl (lv_at hl 2 rfl) ?_
    refine va_iald (f := (xkd u)) hx hb hK hP 1 0 rfl rfl (yin_wH hm c7) dY_last_17 ?_
    refine lv_iconst (v := 1) hx hb dY_last_18 (by decide) ?_
    refine lv_icmp_ne (tgt := 31) hx hb dY_last_19 rfl (fun c19 => ?_) (fun c19 => ?_)
    · refine lv_bipush (v := (-7)) hx hb dY_last_31 (by decide) ?_
      have e9 : yp_last u h = (-7) := by unfold yp_last; rw [if_pos c7, if_neg c19]
      exact W.eq (congrArg (fun z => F0 m 33 ls [.int z]) e9.symm) (kk _ _ _ _ dY_last_33 hP hD hS)
    · refine lv_aload_n hx hb dY_last_22 rfl (lv_at hl 1 rfl) ?_
      refine lv_iload_n hx hb dY_last_23 rfl (lv_at hl 2 rfl) ?_
      refine lv_iconst (v := 0) hx hb dY_last_24 (by decide) ?_
      refine xcall_i (ws := (yW G C u)) (wc := (yW G C u)) (wr := []) (w1 := (yW G C u)) (v := (yp_extreme u h 0)) [0, 1, 2, 3, 4, 5, 6, 7] [] (va_runV (As := [.int h, .int 0]) (rest := []) ⟨hx, hb, hml, hown, hts⟩ (yc_extreme l dC dI G C _ u h 0 hn (yin_wH hm c7)) (cwV 2 hts gY_last_Y_extreme rfl rfl rfl (by decide +kernel) ⟨Nat.le_of_ble_eq_true rfl, Nat.le_of_ble_eq_true rfl⟩) (xpreV (q0 := 0) (ci := 1) (qc := (RX1, TX1, 9)) hK hP hD rfl rfl) rfl rfl hl.1 rfl (lv_room (Nat.le_of_ble_eq_true rfl)) dY_last_25 ⟨Nat.zero_le _, Nat.zero_le _⟩) hP hD hS hA rfl rfl (by decide) (by decide) (fun H locs hP hD hS => ?_)
      have hP : va_P (dC, dI) vwCl (yW G C u) H := hP
      have hD : va_D A (yW G C u) := hD
      refine lv_goto (tgt := 33) hx hb dY_last_28 rfl ?_
      have e9 : yp_last u h = (yp_extreme u h 0) := by unfold yp_last; rw [if_pos c7, if_pos c19]
      exact W.eq (congrArg (fun z => F0 m 33 ls [.int z]) e9.symm) (kk _ _ _ _ dY_last_33 hP hD hS)
  · refine lv_iload_n hx hb dY_last_10 rfl (lv_at hl 0 rfl) ?_
    have e9 : yp_last u h = (yp_wrongHeap u h) := by unfold yp_last; rw [if_neg c7]
    exact W.eq (congrArg (fun z => F0 m 11 ls [.int z]) e9.symm) (kk _ _ _ _ dY_last_11 hP hD hS)
theorem yc_last (l : Launch) (dC : Nat → ClassId) (dI : Nat → Nat → Nat) (G : Nat → Nat) (C : Nat → ClassId) (sz : Nat) (u : xS) (h : Int32) (hm : xm u ≤ 12) (hn : xn u ≤ 160) : xMi l yY_last wsY_last (xR 2 52) dC dI (yT C) [.ref (G 0), .int h] (yW G C u) (yW G C u) (yp_last u h) sz :=
  xmet_i (by decide) rfl rfl (Nat.le_of_ble_eq_true rfl) rfl (fun p e s m args below meth c Q A ls B hK hA hP hD hl kk => yb_last hm hn B hK hA hP hD hl kk)
theorem yfirst_in {u : xS} {h : Int32} (hm : xm u ≤ 12) (hn : xn u ≤ 160) (c : ¬ yp_first u h < 0) : vp_in h 12 ∧ vp_in (yp_first u h) 160 := by
  unfold yp_first at c ⊢
  by_cases h1 : yp_wrongHeap u h = 0
  · rw [if_pos h1] at c ⊢
    exact ⟨yin_wH hm h1, yex_vp hn c⟩
  · rw [if_neg h1] at c; exact absurd (ywH_neg h1) c
theorem ylast_in {u : xS} {h : Int32} (hm : xm u ≤ 12) (hn : xn u ≤ 160) (c : ¬ yp_last u h < 0) : vp_in (yp_last u h) 160 := by
  unfold yp_last at c ⊢
  by_cases h1 : yp_wrongHeap u h = 0
  · rw [if_pos h1] at c ⊢
    by_cases h2 : (xkd u h.toNatClampNeg) = 1
    · rw [if_pos h2] at c ⊢
      exact yex_vp hn c
    · rw [if_neg h2] at c; exact absurd (by decide) c
  · rw [if_neg h1] at c; exact absurd (ywH_neg h1) c
def yp_take (u : xS) (h : Int32) : Int32 :=
  (if (yp_first u h) < 0 then
    (yp_first u h)
  else (yp_first u h))
def yq_take (u : xS) (h : Int32) : xS :=
  (if (yp_first u h) < 0 then
    u
  else (sOw (yq_leave u h (yp_first u h)) (upd (xow (yq_leave u h (yp_first u h))) ((yp_first u h)).toNatClampNeg (-1))))
set_option maxHeartbeats 4000000 in
set_option maxRecDepth 100000 in
theorem yb_take {p : Program} {l : Launch} {e : Env} {s : State} {m : MethodId} {args : Array Value} {below : List Frame} {meth : Method} {c : Code} {Q : State → Prop} {A : Nat → Prop} {ls : Array Slot} {dC : Nat → ClassId} {dI : Nat → Nat → Nat} {G : Nat → Nat} {C : Nat → ClassId} {u : xS} {h : Int32} (hm : xm u ≤ 12) (hn : xn u ≤ 160) (B : CallFix p m c cY_take 3 s args wsY_take RX1) (hK : va_K (dC, dI) vwCl (yT C) s) (hA : ∀ q : Nat, s.heap.size ≤ q → A q) (hP : va_P (dC, dI) vwCl (yW G C u) s.heap) (hD : va_D A (yW G C u)) (hl : lv_has ls 3 [(0, .ref (G 0)), (1, .int h)]) (kk : (∀ (H : Heap) (locs : List Loc) (pc : Nat) (ls : Array Slot), decode cY_take pc = .ok (.ireturn, 1) → va_P (dC, dI) vwCl (yW G C (yq_take u h)) H → va_D A (yW G C (yq_take u h)) → va_S A s.heap H locs → W p l e (xR 3 74) s m args below meth c H locs 0 0 Q (F0 m pc ls [.int (yp_take u h)]))) : W p l e (xR 3 74) s m args below meth c s.heap [] 0 0 Q (F0 m 0 ls []) := by
  obtain ⟨hx, hb, hml, hown, hts⟩ := B
  have hS : va_S A s.heap s.heap [] := va_S.rf
  have hfw : ∀ w ∈ u_ws RX1 TX1 9, w ∈ wsY_take := by decide +kernel
  refine lv_aload_n hx hb dY_take_0 rfl (lv_at hl 0 rfl) ?_
  refine lv_iload_n hx hb dY_take_1 rfl (lv_at hl 1 rfl) ?_
  refine xcall_i (ws := (yW G C u)) (wc := (yW G C u)) (wr := []) (w1 := (yW G C u)) (v := (yp_first u h)) [0, 1, 2, 3, 4, 5, 6, 7] [] (va_runV (As := [.int h]) (rest := []) ⟨hx, hb, hml, hown, hts⟩ (yc_first l dC dI G C _ u h hm hn) (cwV 1 hts gY_take_Y_first rfl rfl rfl (by decide +kernel) ⟨Nat.le_of_ble_eq_true rfl, Nat.le_of_ble_eq_true rfl⟩) (xpreV (q0 := 0) (ci := 1) (qc := (RX1, TX1, 9)) hK hP hD rfl rfl) rfl rfl hl.1 rfl (lv_room (Nat.le_of_ble_eq_true rfl)) dY_take_2 ⟨Nat.zero_le _, Nat.zero_le _⟩) hP hD hS hA rfl rfl (by decide) (by decide) (fun H locs hP hD hS => ?_)
  have hP : va_P (dC, dI) vwCl (yW G C u) H := hP
  have hD : va_D A (yW G C u) := hD
  refine lv_istore_n (lv' := [(2, .int (yp_first u h)), (0, .ref (G 0)), (1, .int h)]) hx hb dY_take_5 rfl hl (by decide) rfl (fun ls hl => ?_)
  refine lv_iload_n hx hb dY_take_6 rfl (lv_at hl 0 rfl) ?_
  refine lv_if_lt (tgt := 23) hx hb dY_take_7 rfl (fun c7 => ?_) (fun c7 => ?_)
  · refine lv_iload_n hx hb dY_take_23 rfl (lv_at hl 0 rfl) ?_
    have e8 : yq_take u h = u := by unfold yq_take; rw [if_pos c7]
    have e9 : yp_take u h = (yp_first u h) := by unfold yp_take; rw [if_pos c7]
    exact W.eq (congrArg (fun z => F0 m 24 ls [.int z]) e9.symm) (kk _ _ _ _ dY_take_24 (by rw [e8]; exact hP) (by rw [e8]; exact hD) hS)
  · refine lv_aload_n hx hb dY_take_10 rfl (lv_at hl 1 rfl) ?_
    refine lv_iload_n hx hb dY_take_11 rfl (lv_at hl 2 rfl) ?_
    refine lv_iload_n hx hb dY_take_12 rfl (lv_at hl 0 rfl) ?_
    refine xcall_v (ws := (yW G C u)) (wc := (yW G C u)) (wr := []) (w1 := (yW G C (yq_leave u h (yp_first u h)))) [0, 1, 2, 3, 4, 5, 6, 7] [] (va_runV (As := [.int h, .int (yp_first u h)]) (rest := []) ⟨hx, hb, hml, hown, hts⟩ (yc_leave l dC dI G C _ u h (yp_first u h) (yfirst_in hm hn c7).1 (yfirst_in hm hn c7).2) (cwV 2 hts gY_take_Y_leave rfl rfl rfl (by decide +kernel) ⟨Nat.le_of_ble_eq_true rfl, Nat.le_of_ble_eq_true rfl⟩) (xpreV (q0 := 0) (ci := 1) (qc := (RX1, TX1, 9)) hK hP hD rfl rfl) rfl rfl hl.1 rfl (lv_room (Nat.le_of_ble_eq_true rfl)) dY_take_13 ⟨Nat.zero_le _, Nat.zero_le _⟩) hP hD hS hA rfl rfl (by decide) (by decide) (fun H locs hP hD hS => ?_)
    have hP : va_P (dC, dI) vwCl (yW G C (yq_leave u h (yp_first u h))) H := hP
    have hD : va_D A (yW G C (yq_leave u h (yp_first u h))) := hD
    refine lv_aload_n hx hb dY_take_16 rfl (lv_at hl 1 rfl) ?_
    refine va_get (D := (dC, dI)) (ci := 1) (v := .ref (G 7)) (C := RX1) (T := TX1) (N := 9) hx hb hts hfw hown hK hP 0 rfl rfl 8 (by decide) (hts (.fieldLink RX1 30 "MeldingHeapsModel" "homes" "[I") (by decide +kernel)) (fun _ h9 => h9) rfl dY_take_17 ?_
    refine lv_iload_n hx hb dY_take_20 rfl (lv_at hl 0 rfl) ?_
    refine lv_iconst (v := (-1)) hx hb dY_take_21 (by decide) ?_
    refine va_iast (f := (xow (yq_leave u h (yp_first u h)))) hx hb hK hP hD hS 7 6 rfl rfl ((yfirst_in hm hn c7).2) dY_take_22 (fun H locs hP hD hS => ?_)
    have hP : va_P (dC, dI) vwCl (yW G C (sOw (yq_leave u h (yp_first u h)) (upd (xow (yq_leave u h (yp_first u h))) ((yp_first u h)).toNatClampNeg (-1)))) H := hP
    have hD : va_D A (yW G C (sOw (yq_leave u h (yp_first u h)) (upd (xow (yq_leave u h (yp_first u h))) ((yp_first u h)).toNatClampNeg (-1)))) := hD
    refine lv_iload_n hx hb dY_take_23 rfl (lv_at hl 0 rfl) ?_
    have e8 : yq_take u h = (sOw (yq_leave u h (yp_first u h)) (upd (xow (yq_leave u h (yp_first u h))) ((yp_first u h)).toNatClampNeg (-1))) := by unfold yq_take; rw [if_neg c7]
    have e9 : yp_take u h = (yp_first u h) := by unfold yp_take; rw [if_neg c7]
    exact W.eq (congrArg (fun z => F0 m 24 ls [.int z]) e9.symm) (kk _ _ _ _ dY_take_24 (by rw [e8]; exact hP) (by rw [e8]; exact hD) hS)
theorem yc_take (l : Launch) (dC : Nat → ClassId) (dI : Nat → Nat → Nat) (G : Nat → Nat) (C : Nat → ClassId) (sz : Nat) (u : xS) (h : Int32) (hm : xm u ≤ 12) (hn : xn u ≤ 160) : xMi l yY_take wsY_take (xR 3 74) dC dI (yT C) [.ref (G 0), .int h] (yW G C u) (yW G C (yq_take u h)) (yp_take u h) sz :=
  xmet_i (by decide) rfl rfl (Nat.le_of_ble_eq_true rfl) rfl (fun p e s m args below meth c Q A ls B hK hA hP hD hl kk => yb_take hm hn B hK hA hP hD hl kk)
def yp_takeLast (u : xS) (h : Int32) : Int32 :=
  (if (yp_last u h) < 0 then
    (yp_last u h)
  else (yp_last u h))
def yq_takeLast (u : xS) (h : Int32) : xS :=
  (if (yp_last u h) < 0 then
    u
  else (sOw u (upd (xow u) ((yp_last u h)).toNatClampNeg (-1))))
set_option maxHeartbeats 4000000 in
set_option maxRecDepth 100000 in
theorem yb_takeLast {p : Program} {l : Launch} {e : Env} {s : State} {m : MethodId} {args : Array Value} {below : List Frame} {meth : Method} {c : Code} {Q : State → Prop} {A : Nat → Prop} {ls : Array Slot} {dC : Nat → ClassId} {dI : Nat → Nat → Nat} {G : Nat → Nat} {C : Nat → ClassId} {u : xS} {h : Int32} (hm : xm u ≤ 12) (hn : xn u ≤ 160) (B : CallFix p m c cY_takeLast 3 s args wsY_takeLast RX1) (hK : va_K (dC, dI) vwCl (yT C) s) (hA : ∀ q : Nat, s.heap.size ≤ q → A q) (hP : va_P (dC, dI) vwCl (yW G C u) s.heap) (hD : va_D A (yW G C u)) (hl : lv_has ls 3 [(0, .ref (G 0)), (1, .int h)]) (kk : (∀ (H : Heap) (locs : List Loc) (pc : Nat) (ls : Array Slot), decode cY_takeLast pc = .ok (.ireturn, 1) → va_P (dC, dI) vwCl (yW G C (yq_takeLast u h)) H → va_D A (yW G C (yq_takeLast u h)) → va_S A s.heap H locs → W p l e (xR 3 74) s m args below meth c H locs 0 0 Q (F0 m pc ls [.int (yp_takeLast u h)]))) : W p l e (xR 3 74) s m args below meth c s.heap [] 0 0 Q (F0 m 0 ls []) := by
  obtain ⟨hx, hb, hml, hown, hts⟩ := B
  have hS : va_S A s.heap s.heap [] := va_S.rf
  have hfw : ∀ w ∈ u_ws RX1 TX1 9, w ∈ wsY_takeLast := by decide +kernel
  refine lv_aload_n hx hb dY_takeLast_0 rfl (lv_at hl 0 rfl) ?_
  refine lv_iload_n hx hb dY_takeLast_1 rfl (lv_at hl 1 rfl) ?_
  refine xcall_i (ws := (yW G C u)) (wc := (yW G C u)) (wr := []) (w1 := (yW G C u)) (v := (yp_last u h)) [0, 1, 2, 3, 4, 5, 6, 7] [] (va_runV (As := [.int h]) (rest := []) ⟨hx, hb, hml, hown, hts⟩ (yc_last l dC dI G C _ u h hm hn) (cwV 1 hts gY_takeLast_Y_last rfl rfl rfl (by decide +kernel) ⟨Nat.le_of_ble_eq_true rfl, Nat.le_of_ble_eq_true rfl⟩) (xpreV (q0 := 0) (ci := 1) (qc := (RX1, TX1, 9)) hK hP hD rfl rfl) rfl rfl hl.1 rfl (lv_room (Nat.le_of_ble_eq_true rfl)) dY_takeLast_2 ⟨Nat.zero_le _, Nat.zero_le _⟩) hP hD hS hA rfl rfl (by decide) (by decide) (fun H locs hP hD hS => ?_)
  have hP : va_P (dC, dI) vwCl (yW G C u) H := hP
  have hD : va_D A (yW G C u) := hD
  refine lv_istore_n (lv' := [(2, .int (yp_last u h)), (0, .ref (G 0)), (1, .int h)]) hx hb dY_takeLast_5 rfl hl (by decide) rfl (fun ls hl => ?_)
  refine lv_iload_n hx hb dY_takeLast_6 rfl (lv_at hl 0 rfl) ?_
  refine lv_if_lt (tgt := 17) hx hb dY_takeLast_7 rfl (fun c7 => ?_) (fun c7 => ?_)
  · refine lv_iload_n hx hb dY_takeLast_17 rfl (lv_at hl 0 rfl) ?_
    have e8 : yq_takeLast u h = u := by unfold yq_takeLast; rw [if_pos c7]
    have e9 : yp_takeLast u h = (yp_last u h) := by unfold yp_takeLast; rw [if_pos c7]
    exact W.eq (congrArg (fun z => F0 m 18 ls [.int z]) e9.symm) (kk _ _ _ _ dY_takeLast_18 (by rw [e8]; exact hP) (by rw [e8]; exact hD) hS)
  · refine lv_aload_n hx hb dY_takeLast_10 rfl (lv_at hl 1 rfl) ?_
    refine va_get (D := (dC, dI)) (ci := 1) (v := .ref (G 7)) (C := RX1) (T := TX1) (N := 9) hx hb hts hfw hown hK hP 0 rfl rfl 8 (by decide) (hts (.fieldLink RX1 30 "MeldingHeapsModel" "homes" "[I") (by decide +kernel)) (fun _ h9 => h9) rfl dY_takeLast_11 ?_
    refine lv_iload_n hx hb dY_takeLast_14 rfl (lv_at hl 0 rfl) ?_
    refine lv_iconst (v := (-1)) hx hb dY_takeLast_15 (by decide) ?_
    refine va_iast (f := (xow u)) hx hb hK hP hD hS 7 6 rfl rfl (ylast_in hm hn c7) dY_takeLast_16 (fun H locs hP hD hS => ?_)
    have hP : va_P (dC, dI) vwCl (yW G C (sOw u (upd (xow u) ((yp_last u h)).toNatClampNeg (-1)))) H := hP
    have hD : va_D A (yW G C (sOw u (upd (xow u) ((yp_last u h)).toNatClampNeg (-1)))) := hD
    refine lv_iload_n hx hb dY_takeLast_17 rfl (lv_at hl 0 rfl) ?_
    have e8 : yq_takeLast u h = (sOw u (upd (xow u) ((yp_last u h)).toNatClampNeg (-1))) := by unfold yq_takeLast; rw [if_neg c7]
    have e9 : yp_takeLast u h = (yp_last u h) := by unfold yp_takeLast; rw [if_neg c7]
    exact W.eq (congrArg (fun z => F0 m 18 ls [.int z]) e9.symm) (kk _ _ _ _ dY_takeLast_18 (by rw [e8]; exact hP) (by rw [e8]; exact hD) hS)
theorem yc_takeLast (l : Launch) (dC : Nat → ClassId) (dI : Nat → Nat → Nat) (G : Nat → Nat) (C : Nat → ClassId) (sz : Nat) (u : xS) (h : Int32) (hm : xm u ≤ 12) (hn : xn u ≤ 160) : xMi l yY_takeLast wsY_takeLast (xR 3 74) dC dI (yT C) [.ref (G 0), .int h] (yW G C u) (yW G C (yq_takeLast u h)) (yp_takeLast u h) sz :=
  xmet_i (by decide) rfl rfl (Nat.le_of_ble_eq_true rfl) rfl (fun p e s m args below meth c Q A ls B hK hA hP hD hl kk => yb_takeLast hm hn B hK hA hP hD hl kk)
def yp_decrease (u : xS) (a : Int32) (k : Int64) : Int32 :=
  (if (yp_wrongEntry u a) = 0 then
    (if (lg_cmp (yp_weight u ((xow u) (a).toNatClampNeg) k) (yp_weight u ((xow u) (a).toNatClampNeg) ((xky u) (a).toNatClampNeg))) ≤ 0 then
      (if (yp_isBelow u ((xow u) (a).toNatClampNeg) k) = 0 then
        (if (yp_rank (sKy u (vp_updL (xky u) (a).toNatClampNeg k)) a) = 0 then
          1
        else 0)
      else (-6))
    else (-5))
  else (yp_wrongEntry u a))
def yq_decrease (u : xS) (a : Int32) (k : Int64) : xS :=
  (if (yp_wrongEntry u a) = 0 then
    (if (lg_cmp (yp_weight u ((xow u) (a).toNatClampNeg) k) (yp_weight u ((xow u) (a).toNatClampNeg) ((xky u) (a).toNatClampNeg))) ≤ 0 then
      (if (yp_isBelow u ((xow u) (a).toNatClampNeg) k) = 0 then
        (if (yp_rank (sKy u (vp_updL (xky u) (a).toNatClampNeg k)) a) = 0 then
          (sKy u (vp_updL (xky u) (a).toNatClampNeg k))
        else (sKy u (vp_updL (xky u) (a).toNatClampNeg k)))
      else u)
    else u)
  else u)
set_option maxHeartbeats 4000000 in
set_option maxRecDepth 100000 in
theorem yb_decrease {p : Program} {l : Launch} {e : Env} {s : State} {m : MethodId} {args : Array Value} {below : List Frame} {meth : Method} {c : Code} {Q : State → Prop} {A : Nat → Prop} {ls : Array Slot} {dC : Nat → ClassId} {dI : Nat → Nat → Nat} {G : Nat → Nat} {C : Nat → ClassId} {u : xS} {a : Int32} {k : Int64} (hn : xn u ≤ 160) (ho : ∀ j : Nat, j < xn u → xow u j = -1 ∨ vp_in (xow u j) 12) (B : CallFix p m c cY_decrease 6 s args wsY_decrease RX1) (hK : va_K (dC, dI) vwCl (yT C) s) (hA : ∀ q : Nat, s.heap.size ≤ q → A q) (hP : va_P (dC, dI) vwCl (yW G C u) s.heap) (hD : va_D A (yW G C u)) (hl : lv_has ls 6 [(0, .ref (G 0)), (1, .int a), (2, .long k)]) (kk : (∀ (H : Heap) (locs : List Loc) (pc : Nat) (ls : Array Slot), decode cY_decrease pc = .ok (.ireturn, 1) → va_P (dC, dI) vwCl (yW G C (yq_decrease u a k)) H → va_D A (yW G C (yq_decrease u a k)) → va_S A s.heap H locs → W p l e (xR 2 52) s m args below meth c H locs 0 0 Q (F0 m pc ls [.int (yp_decrease u a k)]))) : W p l e (xR 2 52) s m args below meth c s.heap [] 0 0 Q (F0 m 0 ls []) := by
  obtain ⟨hx, hb, hml, hown, hts⟩ := B
  have hS : va_S A s.heap s.heap [] := va_S.rf
  have hfw : ∀ w ∈ u_ws RX1 TX1 9, w ∈ wsY_decrease := by decide +kernel
  refine lv_aload_n hx hb dY_decrease_0 rfl (lv_at hl 0 rfl) ?_
  refine lv_iload_n hx hb dY_decrease_1 rfl (lv_at hl 1 rfl) ?_
  refine xcall_i (ws := (yW G C u)) (wc := (yW G C u)) (wr := []) (w1 := (yW G C u)) (v := (yp_wrongEntry u a)) [0, 1, 2, 3, 4, 5, 6, 7] [] (va_runV (As := [.int a]) (rest := []) ⟨hx, hb, hml, hown, hts⟩ (yc_wrongEntry l dC dI G C _ u a hn) (cwV 1 hts gY_decrease_Y_wrongEntry rfl rfl rfl (by decide +kernel) ⟨Nat.le_of_ble_eq_true rfl, Nat.le_of_ble_eq_true rfl⟩) (xpreV (q0 := 0) (ci := 1) (qc := (RX1, TX1, 9)) hK hP hD rfl rfl) rfl rfl hl.1 rfl (lv_room (Nat.le_of_ble_eq_true rfl)) dY_decrease_2 ⟨Nat.zero_le _, Nat.zero_le _⟩) hP hD hS hA rfl rfl (by decide) (by decide) (fun H locs hP hD hS => ?_)
  have hP : va_P (dC, dI) vwCl (yW G C u) H := hP
  have hD : va_D A (yW G C u) := hD
  refine lv_istore (lv' := [(4, .int (yp_wrongEntry u a)), (0, .ref (G 0)), (1, .int a), (2, .long k)]) hx hb dY_decrease_5 hl (by decide) rfl (fun ls hl => ?_)
  refine lv_iload hx hb dY_decrease_7 (lv_at hl 0 rfl) ?_
  refine lv_if_eq (tgt := 15) hx hb dY_decrease_9 rfl (fun c9 => ?_) (fun c9 => ?_)
  · refine lv_aload_n hx hb dY_decrease_15 rfl (lv_at hl 1 rfl) ?_
    refine va_get (D := (dC, dI)) (ci := 1) (v := .ref (G 7)) (C := RX1) (T := TX1) (N := 9) hx hb hts hfw hown hK hP 0 rfl rfl 8 (by decide) (hts (.fieldLink RX1 30 "MeldingHeapsModel" "homes" "[I") (by decide +kernel)) (fun _ h9 => h9) rfl dY_decrease_16 ?_
    refine lv_iload_n hx hb dY_decrease_19 rfl (lv_at hl 2 rfl) ?_
    refine va_iald (f := (xow u)) hx hb hK hP 7 6 rfl rfl ((yin_wE hn c9).1) dY_decrease_20 ?_
    refine lv_istore (lv' := [(5, .int ((xow u) (a).toNatClampNeg)), (4, .int (yp_wrongEntry u a)), (0, .ref (G 0)), (1, .int a), (2, .long k)]) hx hb dY_decrease_21 hl (by decide) rfl (fun ls hl => ?_)
    refine lv_aload_n hx hb dY_decrease_23 rfl (lv_at hl 2 rfl) ?_
    refine lv_iload hx hb dY_decrease_24 (lv_at hl 0 rfl) ?_
    refine lv_lload_n hx hb dY_decrease_26 rfl (lv_at hl 4 rfl) ?_
    refine xcall_l (ws := (yW G C u)) (wc := (yW G C u)) (wr := []) (w1 := (yW G C u)) (v := (yp_weight u ((xow u) (a).toNatClampNeg) k)) [0, 1, 2, 3, 4, 5, 6, 7] [] (va_runV (As := [.int ((xow u) (a).toNatClampNeg), .long k]) (rest := []) ⟨hx, hb, hml, hown, hts⟩ (yc_weight l dC dI G C _ u ((xow u) (a).toNatClampNeg) k (yin_own hn ho c9)) (cwV 2 hts gY_decrease_Y_weight rfl rfl rfl (by decide +kernel) ⟨Nat.le_of_ble_eq_true rfl, Nat.le_of_ble_eq_true rfl⟩) (xpreV (q0 := 0) (ci := 1) (qc := (RX1, TX1, 9)) hK hP hD rfl rfl) rfl rfl hl.1 rfl (lv_room (Nat.le_of_ble_eq_true rfl)) dY_decrease_27 ⟨Nat.zero_le _, Nat.zero_le _⟩) hP hD hS hA rfl rfl (by decide) (by decide) (fun H locs hP hD hS => ?_)
    have hP : va_P (dC, dI) vwCl (yW G C u) H := hP
    have hD : va_D A (yW G C u) := hD
    refine lv_aload_n hx hb dY_decrease_30 rfl (lv_at hl 2 rfl) ?_
    refine lv_iload hx hb dY_decrease_31 (lv_at hl 0 rfl) ?_
    refine lv_aload_n hx hb dY_decrease_33 rfl (lv_at hl 2 rfl) ?_
    refine va_get (D := (dC, dI)) (ci := 1) (v := .ref (G 5)) (C := RX1) (T := TX1) (N := 9) hx hb hts hfw hown hK hP 0 rfl rfl 6 (by decide) (hts (.fieldLink RX1 24 "MeldingHeapsModel" "keys" "[J") (by decide +kernel)) (fun _ h9 => h9) rfl dY_decrease_34 ?_
    refine lv_iload_n hx hb dY_decrease_37 rfl (lv_at hl 3 rfl) ?_
    refine va_lald (f := (xky u)) hx hb hK hP 5 4 rfl rfl ((yin_wE hn c9).1) dY_decrease_38 ?_
    refine xcall_l (ws := (yW G C u)) (wc := (yW G C u)) (wr := []) (w1 := (yW G C u)) (v := (yp_weight u ((xow u) (a).toNatClampNeg) ((xky u) (a).toNatClampNeg))) [0, 1, 2, 3, 4, 5, 6, 7] [] (va_runV (As := [.int ((xow u) (a).toNatClampNeg), .long ((xky u) (a).toNatClampNeg)]) (rest := [.long (yp_weight u ((xow u) (a).toNatClampNeg) k)]) ⟨hx, hb, hml, hown, hts⟩ (yc_weight l dC dI G C _ u ((xow u) (a).toNatClampNeg) ((xky u) (a).toNatClampNeg) (yin_own hn ho c9)) (cwV 2 hts gY_decrease_Y_weight rfl rfl rfl (by decide +kernel) ⟨Nat.le_of_ble_eq_true rfl, Nat.le_of_ble_eq_true rfl⟩) (xpreV (q0 := 0) (ci := 1) (qc := (RX1, TX1, 9)) hK hP hD rfl rfl) rfl rfl hl.1 rfl (lv_room (Nat.le_of_ble_eq_true rfl)) dY_decrease_39 ⟨Nat.zero_le _, Nat.zero_le _⟩) hP hD hS hA rfl rfl (by decide) (by decide) (fun H locs hP hD hS => ?_)
    have hP : va_P (dC, dI) vwCl (yW G C u) H := hP
    have hD : va_D A (yW G C u) := hD
    refine W.lcmp hx hb dY_decrease_42 ?_
    refine lv_if_le (tgt := 49) hx hb dY_decrease_43 rfl (fun c43 => ?_) (fun c43 => ?_)
    · refine lv_aload_n hx hb dY_decrease_49 rfl (lv_at hl 2 rfl) ?_
      refine lv_iload hx hb dY_decrease_50 (lv_at hl 0 rfl) ?_
      refine lv_lload_n hx hb dY_decrease_52 rfl (lv_at hl 4 rfl) ?_
      refine xcall_i (ws := (yW G C u)) (wc := (yW G C u)) (wr := []) (w1 := (yW G C u)) (v := (yp_isBelow u ((xow u) (a).toNatClampNeg) k)) [0, 1, 2, 3, 4, 5, 6, 7] [] (va_runV (As := [.int ((xow u) (a).toNatClampNeg), .long k]) (rest := []) ⟨hx, hb, hml, hown, hts⟩ (yc_isBelow l dC dI G C _ u ((xow u) (a).toNatClampNeg) k (yin_own hn ho c9)) (cwV 2 hts gY_decrease_Y_isBelow rfl rfl rfl (by decide +kernel) ⟨Nat.le_of_ble_eq_true rfl, Nat.le_of_ble_eq_true rfl⟩) (xpreV (q0 := 0) (ci := 1) (qc := (RX1, TX1, 9)) hK hP hD rfl rfl) rfl rfl hl.1 rfl (lv_room (Nat.le_of_ble_eq_true rfl)) dY_decrease_53 ⟨Nat.zero_le _, Nat.zero_le _⟩) hP hD hS hA rfl rfl (by decide) (by decide) (fun H locs hP hD hS => ?_)
      have hP : va_P (dC, dI) vwCl (yW G C u) H := hP
      have hD : va_D A (yW G C u) := hD
      refine lv_if_eq (tgt := 62) hx hb dY_decrease_56 rfl (fun c56 => ?_) (fun c56 => ?_)
      · refine lv_aload_n hx hb dY_decrease_62 rfl (lv_at hl 2 rfl) ?_
        refine va_get (D := (dC, dI)) (ci := 1) (v := .ref (G 5)) (C := RX1) (T := TX1) (N := 9) hx hb hts hfw hown hK hP 0 rfl rfl 6 (by decide) (hts (.fieldLink RX1 24 "MeldingHeapsModel" "keys" "[J") (by decide +kernel)) (fun _ h9 => h9) rfl dY_decrease_63 ?_
        refine lv_iload_n hx hb dY_decrease_66 rfl (lv_at hl 3 rfl) ?_
        refine lv_lload_n hx hb dY_decrease_67 rfl (lv_at hl 4 rfl) ?_
        refine va_last (f := (xky u)) hx hb hK hP hD hS 5 4 rfl rfl ((yin_wE hn c9).1) dY_decrease_68 (fun H locs hP hD hS => ?_)
        have hP : va_P (dC, dI) vwCl (yW G C (sKy u (vp_updL (xky u) (a).toNatClampNeg k))) H := hP
        have hD : va_D A (yW G C (sKy u (vp_updL (xky u) (a).toNatClampNeg k))) := hD
        refine lv_aload_n hx hb dY_decrease_69 rfl (lv_at hl 2 rfl) ?_
        refine lv_iload_n hx hb dY_decrease_70 rfl (lv_at hl 3 rfl) ?_
        refine xcall_i (ws := (yW G C (sKy u (vp_updL (xky u) (a).toNatClampNeg k)))) (wc := (yW G C (sKy u (vp_updL (xky u) (a).toNatClampNeg k)))) (wr := []) (w1 := (yW G C (sKy u (vp_updL (xky u) (a).toNatClampNeg k)))) (v := (yp_rank (sKy u (vp_updL (xky u) (a).toNatClampNeg k)) a)) [0, 1, 2, 3, 4, 5, 6, 7] [] (va_runV (As := [.int a]) (rest := []) ⟨hx, hb, hml, hown, hts⟩ (yc_rank l dC dI G C _ (sKy u (vp_updL (xky u) (a).toNatClampNeg k)) a hn (yin_wE hn c9).1 (yin_own hn ho c9)) (cwV 1 hts gY_decrease_Y_rank rfl rfl rfl (by decide +kernel) ⟨Nat.le_of_ble_eq_true rfl, Nat.le_of_ble_eq_true rfl⟩) (xpreV (q0 := 0) (ci := 1) (qc := (RX1, TX1, 9)) hK hP hD rfl rfl) rfl rfl hl.1 rfl (lv_room (Nat.le_of_ble_eq_true rfl)) dY_decrease_71 ⟨Nat.zero_le _, Nat.zero_le _⟩) hP hD hS hA rfl rfl (by decide) (by decide) (fun H locs hP hD hS => ?_)
        have hP : va_P (dC, dI) vwCl (yW G C (sKy u (vp_updL (xky u) (a).toNatClampNeg k))) H := hP
        have hD : va_D A (yW G C (sKy u (vp_updL (xky u) (a).toNatClampNeg k))) := hD
        refine lv_if_ne (tgt := 81) hx hb dY_decrease_74 rfl (fun c74 => ?_) (fun c74 => ?_)
        · refine lv_iconst (v := 0) hx hb dY_decrease_81 (by decide) ?_
          have e8 : yq_decrease u a k = (sKy u (vp_updL (xky u) (a).toNatClampNeg k)) := by unfold yq_decrease; rw [if_pos c9, if_pos c43, if_pos c56, if_neg c74]
          have e9 : yp_decrease u a k = 0 := by unfold yp_decrease; rw [if_pos c9, if_pos c43, if_pos c56, if_neg c74]
          exact W.eq (congrArg (fun z => F0 m 82 ls [.int z]) e9.symm) (kk _ _ _ _ dY_decrease_82 (by rw [e8]; exact hP) (by rw [e8]; exact hD) hS)
        · refine lv_iconst (v := 1) hx hb dY_decrease_77 (by decide) ?_
          refine lv_goto (tgt := 82) hx hb dY_decrease_78 rfl ?_
          have e8 : yq_decrease u a k = (sKy u (vp_updL (xky u) (a).toNatClampNeg k)) := by unfold yq_decrease; rw [if_pos c9, if_pos c43, if_pos c56, if_pos c74]
          have e9 : yp_decrease u a k = 1 := by unfold yp_decrease; rw [if_pos c9, if_pos c43, if_pos c56, if_pos c74]
          exact W.eq (congrArg (fun z => F0 m 82 ls [.int z]) e9.symm) (kk _ _ _ _ dY_decrease_82 (by rw [e8]; exact hP) (by rw [e8]; exact hD) hS)
      · refine lv_bipush (v := (-6)) hx hb dY_decrease_59 (by decide) ?_
        have e8 : yq_decrease u a k = u := by unfold yq_decrease; rw [if_pos c9, if_pos c43, if_neg c56]
        have e9 : yp_decrease u a k = (-6) := by unfold yp_decrease; rw [if_pos c9, if_pos c43, if_neg c56]
        exact W.eq (congrArg (fun z => F0 m 61 ls [.int z]) e9.symm) (kk _ _ _ _ dY_decrease_61 (by rw [e8]; exact hP) (by rw [e8]; exact hD) hS)
    · refine lv_bipush (v := (-5)) hx hb dY_decrease_46 (by decide) ?_
      have e8 : yq_decrease u a k = u := by unfold yq_decrease; rw [if_pos c9, if_neg c43]
      have e9 : yp_decrease u a k = (-5) := by unfold yp_decrease; rw [if_pos c9, if_neg c43]
      exact W.eq (congrArg (fun z => F0 m 48 ls [.int z]) e9.symm) (kk _ _ _ _ dY_decrease_48 (by rw [e8]; exact hP) (by rw [e8]; exact hD) hS)
  · refine lv_iload hx hb dY_decrease_12 (lv_at hl 0 rfl) ?_
    have e8 : yq_decrease u a k = u := by unfold yq_decrease; rw [if_neg c9]
    have e9 : yp_decrease u a k = (yp_wrongEntry u a) := by unfold yp_decrease; rw [if_neg c9]
    exact W.eq (congrArg (fun z => F0 m 14 ls [.int z]) e9.symm) (kk _ _ _ _ dY_decrease_14 (by rw [e8]; exact hP) (by rw [e8]; exact hD) hS)
theorem yc_decrease (l : Launch) (dC : Nat → ClassId) (dI : Nat → Nat → Nat) (G : Nat → Nat) (C : Nat → ClassId) (sz : Nat) (u : xS) (a : Int32) (k : Int64) (hn : xn u ≤ 160) (ho : ∀ j : Nat, j < xn u → xow u j = -1 ∨ vp_in (xow u j) 12) : xMi l yY_decrease wsY_decrease (xR 2 52) dC dI (yT C) [.ref (G 0), .int a, .long k] (yW G C u) (yW G C (yq_decrease u a k)) (yp_decrease u a k) sz :=
  xmet_i (by decide) rfl rfl (Nat.le_of_ble_eq_true rfl) rfl (fun p e s m args below meth c Q A ls B hK hA hP hD hl kk => yb_decrease hn ho B hK hA hP hD hl kk)
def yp_delete (u : xS) (a : Int32) : Int32 :=
  (if (yp_wrongEntry u a) = 0 then
    ((xow u) (a).toNatClampNeg)
  else (yp_wrongEntry u a))
def yq_delete (u : xS) (a : Int32) : xS :=
  (if (yp_wrongEntry u a) = 0 then
    (sOw u (upd (xow u) (a).toNatClampNeg (-1)))
  else u)
set_option maxHeartbeats 4000000 in
set_option maxRecDepth 100000 in
theorem yb_delete {p : Program} {l : Launch} {e : Env} {s : State} {m : MethodId} {args : Array Value} {below : List Frame} {meth : Method} {c : Code} {Q : State → Prop} {A : Nat → Prop} {ls : Array Slot} {dC : Nat → ClassId} {dI : Nat → Nat → Nat} {G : Nat → Nat} {C : Nat → ClassId} {u : xS} {a : Int32} (hn : xn u ≤ 160) (B : CallFix p m c cY_delete 4 s args wsY_delete RX1) (hK : va_K (dC, dI) vwCl (yT C) s) (hA : ∀ q : Nat, s.heap.size ≤ q → A q) (hP : va_P (dC, dI) vwCl (yW G C u) s.heap) (hD : va_D A (yW G C u)) (hl : lv_has ls 4 [(0, .ref (G 0)), (1, .int a)]) (kk : (∀ (H : Heap) (locs : List Loc) (pc : Nat) (ls : Array Slot), decode cY_delete pc = .ok (.ireturn, 1) → va_P (dC, dI) vwCl (yW G C (yq_delete u a)) H → va_D A (yW G C (yq_delete u a)) → va_S A s.heap H locs → W p l e (xR 1 21) s m args below meth c H locs 0 0 Q (F0 m pc ls [.int (yp_delete u a)]))) : W p l e (xR 1 21) s m args below meth c s.heap [] 0 0 Q (F0 m 0 ls []) := by
  obtain ⟨hx, hb, hml, hown, hts⟩ := B
  have hS : va_S A s.heap s.heap [] := va_S.rf
  have hfw : ∀ w ∈ u_ws RX1 TX1 9, w ∈ wsY_delete := by decide +kernel
  refine lv_aload_n hx hb dY_delete_0 rfl (lv_at hl 0 rfl) ?_
  refine lv_iload_n hx hb dY_delete_1 rfl (lv_at hl 1 rfl) ?_
  refine xcall_i (ws := (yW G C u)) (wc := (yW G C u)) (wr := []) (w1 := (yW G C u)) (v := (yp_wrongEntry u a)) [0, 1, 2, 3, 4, 5, 6, 7] [] (va_runV (As := [.int a]) (rest := []) ⟨hx, hb, hml, hown, hts⟩ (yc_wrongEntry l dC dI G C _ u a hn) (cwV 1 hts gY_delete_Y_wrongEntry rfl rfl rfl (by decide +kernel) ⟨Nat.le_of_ble_eq_true rfl, Nat.le_of_ble_eq_true rfl⟩) (xpreV (q0 := 0) (ci := 1) (qc := (RX1, TX1, 9)) hK hP hD rfl rfl) rfl rfl hl.1 rfl (lv_room (Nat.le_of_ble_eq_true rfl)) dY_delete_2 ⟨Nat.zero_le _, Nat.zero_le _⟩) hP hD hS hA rfl rfl (by decide) (by decide) (fun H locs hP hD hS => ?_)
  have hP : va_P (dC, dI) vwCl (yW G C u) H := hP
  have hD : va_D A (yW G C u) := hD
  refine lv_istore_n (lv' := [(2, .int (yp_wrongEntry u a)), (0, .ref (G 0)), (1, .int a)]) hx hb dY_delete_5 rfl hl (by decide) rfl (fun ls hl => ?_)
  refine lv_iload_n hx hb dY_delete_6 rfl (lv_at hl 0 rfl) ?_
  refine lv_if_eq (tgt := 12) hx hb dY_delete_7 rfl (fun c7 => ?_) (fun c7 => ?_)
  · refine lv_aload_n hx hb dY_delete_12 rfl (lv_at hl 1 rfl) ?_
    refine va_get (D := (dC, dI)) (ci := 1) (v := .ref (G 7)) (C := RX1) (T := TX1) (N := 9) hx hb hts hfw hown hK hP 0 rfl rfl 8 (by decide) (hts (.fieldLink RX1 30 "MeldingHeapsModel" "homes" "[I") (by decide +kernel)) (fun _ h9 => h9) rfl dY_delete_13 ?_
    refine lv_iload_n hx hb dY_delete_16 rfl (lv_at hl 2 rfl) ?_
    refine va_iald (f := (xow u)) hx hb hK hP 7 6 rfl rfl ((yin_wE hn c7).1) dY_delete_17 ?_
    refine lv_istore_n (lv' := [(3, .int ((xow u) (a).toNatClampNeg)), (2, .int (yp_wrongEntry u a)), (0, .ref (G 0)), (1, .int a)]) hx hb dY_delete_18 rfl hl (by decide) rfl (fun ls hl => ?_)
    refine lv_aload_n hx hb dY_delete_19 rfl (lv_at hl 2 rfl) ?_
    refine va_get (D := (dC, dI)) (ci := 1) (v := .ref (G 7)) (C := RX1) (T := TX1) (N := 9) hx hb hts hfw hown hK hP 0 rfl rfl 8 (by decide) (hts (.fieldLink RX1 30 "MeldingHeapsModel" "homes" "[I") (by decide +kernel)) (fun _ h9 => h9) rfl dY_delete_20 ?_
    refine lv_iload_n hx hb dY_delete_23 rfl (lv_at hl 3 rfl) ?_
    refine lv_iconst (v := (-1)) hx hb dY_delete_24 (by decide) ?_
    refine va_iast (f := (xow u)) hx hb hK hP hD hS 7 6 rfl rfl ((yin_wE hn c7).1) dY_delete_25 (fun H locs hP hD hS => ?_)
    have hP : va_P (dC, dI) vwCl (yW G C (sOw u (upd (xow u) (a).toNatClampNeg (-1)))) H := hP
    have hD : va_D A (yW G C (sOw u (upd (xow u) (a).toNatClampNeg (-1)))) := hD
    refine lv_iload_n hx hb dY_delete_26 rfl (lv_at hl 0 rfl) ?_
    have e8 : yq_delete u a = (sOw u (upd (xow u) (a).toNatClampNeg (-1))) := by unfold yq_delete; rw [if_pos c7]
    have e9 : yp_delete u a = ((xow u) (a).toNatClampNeg) := by unfold yp_delete; rw [if_pos c7]
    exact W.eq (congrArg (fun z => F0 m 27 ls [.int z]) e9.symm) (kk _ _ _ _ dY_delete_27 (by rw [e8]; exact hP) (by rw [e8]; exact hD) hS)
  · refine lv_iload_n hx hb dY_delete_10 rfl (lv_at hl 0 rfl) ?_
    have e8 : yq_delete u a = u := by unfold yq_delete; rw [if_neg c7]
    have e9 : yp_delete u a = (yp_wrongEntry u a) := by unfold yp_delete; rw [if_neg c7]
    exact W.eq (congrArg (fun z => F0 m 11 ls [.int z]) e9.symm) (kk _ _ _ _ dY_delete_11 (by rw [e8]; exact hP) (by rw [e8]; exact hD) hS)
theorem yc_delete (l : Launch) (dC : Nat → ClassId) (dI : Nat → Nat → Nat) (G : Nat → Nat) (C : Nat → ClassId) (sz : Nat) (u : xS) (a : Int32) (hn : xn u ≤ 160) : xMi l yY_delete wsY_delete (xR 1 21) dC dI (yT C) [.ref (G 0), .int a] (yW G C u) (yW G C (yq_delete u a)) (yp_delete u a) sz :=
  xmet_i (by decide) rfl rfl (Nat.le_of_ble_eq_true rfl) rfl (fun p e s m args below meth c Q A ls B hK hA hP hD hl kk => yb_delete hn B hK hA hP hD hl kk)
def yp_wrongPair (u : xS) (a : Int32) (b : Int32) : Int32 :=
  (if (yp_wrongHeap u a) = 0 then
    (if (yp_wrongHeap u b) = 0 then
      (if a = b then
        (-7)
      else 0)
    else (yp_wrongHeap u b))
  else (yp_wrongHeap u a))
set_option maxHeartbeats 4000000 in
set_option maxRecDepth 100000 in
theorem yb_wrongPair {p : Program} {l : Launch} {e : Env} {s : State} {m : MethodId} {args : Array Value} {below : List Frame} {meth : Method} {c : Code} {Q : State → Prop} {A : Nat → Prop} {ls : Array Slot} {dC : Nat → ClassId} {dI : Nat → Nat → Nat} {G : Nat → Nat} {C : Nat → ClassId} {u : xS} {a : Int32} {b : Int32} (hm : xm u ≤ 12) (B : CallFix p m c cY_wrongPair 4 s args wsY_wrongPair RX1) (hK : va_K (dC, dI) vwCl (yT C) s) (hA : ∀ q : Nat, s.heap.size ≤ q → A q) (hP : va_P (dC, dI) vwCl (yW G C u) s.heap) (hD : va_D A (yW G C u)) (hl : lv_has ls 4 [(0, .ref (G 0)), (1, .int a), (2, .int b)]) (kk : (∀ (H : Heap) (locs : List Loc) (pc : Nat) (ls : Array Slot), decode cY_wrongPair pc = .ok (.ireturn, 1) → va_P (dC, dI) vwCl (yW G C u) H → va_D A (yW G C u) → va_S A s.heap H locs → W p l e (xR 1 21) s m args below meth c H locs 0 0 Q (F0 m pc ls [.int (yp_wrongPair u a b)]))) : W p l e (xR 1 21) s m args below meth c s.heap [] 0 0 Q (F0 m 0 ls []) := by
  obtain ⟨hx, hb, hml, hown, hts⟩ := B
  have hS : va_S A s.heap s.heap [] := va_S.rf
  refine lv_aload_n hx hb dY_wrongPair_0 rfl (lv_at hl 0 rfl) ?_
  refine lv_iload_n hx hb dY_wrongPair_1 rfl (lv_at hl 1 rfl) ?_
  refine xcall_i (ws := (yW G C u)) (wc := (yW G C u)) (wr := []) (w1 := (yW G C u)) (v := (yp_wrongHeap u a)) [0, 1, 2, 3, 4, 5, 6, 7] [] (va_runV (As := [.int a]) (rest := []) ⟨hx, hb, hml, hown, hts⟩ (yc_wrongHeap l dC dI G C _ u a hm) (cwV 1 hts gY_wrongPair_Y_wrongHeap rfl rfl rfl (by decide +kernel) ⟨Nat.le_of_ble_eq_true rfl, Nat.le_of_ble_eq_true rfl⟩) (xpreV (q0 := 0) (ci := 1) (qc := (RX1, TX1, 9)) hK hP hD rfl rfl) rfl rfl hl.1 rfl (lv_room (Nat.le_of_ble_eq_true rfl)) dY_wrongPair_2 ⟨Nat.zero_le _, Nat.zero_le _⟩) hP hD hS hA rfl rfl (by decide) (by decide) (fun H locs hP hD hS => ?_)
  have hP : va_P (dC, dI) vwCl (yW G C u) H := hP
  have hD : va_D A (yW G C u) := hD
  refine lv_istore_n (lv' := [(3, .int (yp_wrongHeap u a)), (0, .ref (G 0)), (1, .int a), (2, .int b)]) hx hb dY_wrongPair_5 rfl hl (by decide) rfl (fun ls hl => ?_)
  refine lv_iload_n hx hb dY_wrongPair_6 rfl (lv_at hl 0 rfl) ?_
  refine lv_if_eq (tgt := 12) hx hb dY_wrongPair_7 rfl (fun c7 => ?_) (fun c7 => ?_)
  · refine lv_aload_n hx hb dY_wrongPair_12 rfl (lv_at hl 1 rfl) ?_
    refine lv_iload_n hx hb dY_wrongPair_13 rfl (lv_at hl 3 rfl) ?_
    refine xcall_i (ws := (yW G C u)) (wc := (yW G C u)) (wr := []) (w1 := (yW G C u)) (v := (yp_wrongHeap u b)) [0, 1, 2, 3, 4, 5, 6, 7] [] (va_runV (As := [.int b]) (rest := []) ⟨hx, hb, hml, hown, hts⟩ (yc_wrongHeap l dC dI G C _ u b hm) (cwV 1 hts gY_wrongPair_Y_wrongHeap rfl rfl rfl (by decide +kernel) ⟨Nat.le_of_ble_eq_true rfl, Nat.le_of_ble_eq_true rfl⟩) (xpreV (q0 := 0) (ci := 1) (qc := (RX1, TX1, 9)) hK hP hD rfl rfl) rfl rfl hl.1 rfl (lv_room (Nat.le_of_ble_eq_true rfl)) dY_wrongPair_14 ⟨Nat.zero_le _, Nat.zero_le _⟩) hP hD hS hA rfl rfl (by decide) (by decide) (fun H locs hP hD hS => ?_)
    have hP : va_P (dC, dI) vwCl (yW G C u) H := hP
    have hD : va_D A (yW G C u) := hD
    refine lv_istore_n (lv' := [(3, .int (yp_wrongHeap u b)), (0, .ref (G 0)), (1, .int a), (2, .int b)]) hx hb dY_wrongPair_17 rfl hl (by decide) rfl (fun ls hl => ?_)
    refine lv_iload_n hx hb dY_wrongPair_18 rfl (lv_at hl 0 rfl) ?_
    refine lv_if_eq (tgt := 26) hx hb dY_wrongPair_19 rfl (fun c19 => ?_) (fun c19 => ?_)
    · refine lv_iload_n hx hb dY_wrongPair_26 rfl (lv_at hl 2 rfl) ?_
      refine lv_iload_n hx hb dY_wrongPair_27 rfl (lv_at hl 3 rfl) ?_
      refine lv_icmp_ne (tgt := 36) hx hb dY_wrongPair_28 rfl (fun c28 => ?_) (fun c28 => ?_)
      · refine lv_iconst (v := 0) hx hb dY_wrongPair_36 (by decide) ?_
        have e9 : yp_wrongPair u a b = 0 := by unfold yp_wrongPair; rw [if_pos c7, if_pos c19, if_neg c28]
        exact W.eq (congrArg (fun z => F0 m 37 ls [.int z]) e9.symm) (kk _ _ _ _ dY_wrongPair_37 hP hD hS)
      · refine lv_bipush (v := (-7)) hx hb dY_wrongPair_31 (by decide) ?_
        refine lv_goto (tgt := 37) hx hb dY_wrongPair_33 rfl ?_
        have e9 : yp_wrongPair u a b = (-7) := by unfold yp_wrongPair; rw [if_pos c7, if_pos c19, if_pos c28]
        exact W.eq (congrArg (fun z => F0 m 37 ls [.int z]) e9.symm) (kk _ _ _ _ dY_wrongPair_37 hP hD hS)
    · refine lv_iload_n hx hb dY_wrongPair_22 rfl (lv_at hl 0 rfl) ?_
      refine lv_goto (tgt := 37) hx hb dY_wrongPair_23 rfl ?_
      have e9 : yp_wrongPair u a b = (yp_wrongHeap u b) := by unfold yp_wrongPair; rw [if_pos c7, if_neg c19]
      exact W.eq (congrArg (fun z => F0 m 37 ls [.int z]) e9.symm) (kk _ _ _ _ dY_wrongPair_37 hP hD hS)
  · refine lv_iload_n hx hb dY_wrongPair_10 rfl (lv_at hl 0 rfl) ?_
    have e9 : yp_wrongPair u a b = (yp_wrongHeap u a) := by unfold yp_wrongPair; rw [if_neg c7]
    exact W.eq (congrArg (fun z => F0 m 11 ls [.int z]) e9.symm) (kk _ _ _ _ dY_wrongPair_11 hP hD hS)
theorem yc_wrongPair (l : Launch) (dC : Nat → ClassId) (dI : Nat → Nat → Nat) (G : Nat → Nat) (C : Nat → ClassId) (sz : Nat) (u : xS) (a : Int32) (b : Int32) (hm : xm u ≤ 12) : xMi l yY_wrongPair wsY_wrongPair (xR 1 21) dC dI (yT C) [.ref (G 0), .int a, .int b] (yW G C u) (yW G C u) (yp_wrongPair u a b) sz :=
  xmet_i (by decide) rfl rfl (Nat.le_of_ble_eq_true rfl) rfl (fun p e s m args below meth c Q A ls B hK hA hP hD hl kk => yb_wrongPair hm B hK hA hP hD hl kk)
theorem yin_wP {u : xS} {a b : Int32} (hm : xm u ≤ 12) (c : yp_wrongPair u a b = 0) : vp_in a 12 ∧ vp_in b 12 := by
  unfold yp_wrongPair at c
  by_cases h1 : yp_wrongHeap u a = 0
  · rw [if_pos h1] at c
    by_cases h2 : yp_wrongHeap u b = 0
    · exact ⟨yin_wH hm h1, yin_wH hm h2⟩
    · rw [if_neg h2] at c; exact absurd c h2
  · rw [if_neg h1] at c; exact absurd c h1
end
section
def yq_meldL (u : xS) (a b : Int32) : Nat → Nat → Int32
  | 0 => xow u
  | i + 1 =>
    (if ((yq_meldL u a b i) i) = b then
      (upd (yq_meldL u a b i) i a)
    else (upd (yq_meldL u a b i) i ((yq_meldL u a b i) i)))
set_option maxHeartbeats 4000000 in
set_option maxRecDepth 100000 in
theorem yl_meld {p : Program} {l : Launch} {e : Env} {s : State} {m : MethodId} {args : Array Value} {below : List Frame} {meth : Method} {c : Code} {Q : State → Prop} {A : Nat → Prop} {dC : Nat → ClassId} {dI : Nat → Nat → Nat} {G : Nat → Nat} {C : Nat → ClassId} {u : xS} {a : Int32} {b : Int32} (hn : xn u ≤ 160) (B : CallFix p m c cY_meld 5 s args wsY_meld RX1) (hK : va_K (dC, dI) vwCl (yT C) s) (hA : ∀ q : Nat, s.heap.size ≤ q → A q) (kk : ∀ (H : Heap) (locs : List Loc) (ls : Array Slot), va_P (dC, dI) vwCl (yW G C (sOw u (yq_meldL u a b (xn u)))) H → va_D A (yW G C (sOw u (yq_meldL u a b (xn u)))) → va_S A s.heap H locs → lv_has ls 5 [(0, .ref (G 0)), (1, .int a), (2, .int b)] → W p l e (xR 2 44) s m args below meth c H locs 0 0 Q (F0 m 96 ls [])) :
    ∀ (d i : Nat) (H : Heap) (locs : List Loc) (ls : Array Slot), xn u - i = d → i ≤ xn u → va_P (dC, dI) vwCl (yW G C (sOw u (yq_meldL u a b i))) H → va_D A (yW G C (sOw u (yq_meldL u a b i))) → va_S A s.heap H locs → lv_has ls 5 [(4, .int (nI i)), (0, .ref (G 0)), (1, .int a), (2, .int b)] → W p l e (xR 2 44) s m args below meth c H locs 0 0 Q (F0 m 52 ls []) := by
  obtain ⟨hx, hb, hml, hown, hts⟩ := B
  have hfw : ∀ w ∈ u_ws RX1 TX1 9, w ∈ wsY_meld := by decide +kernel
  intro d
  induction d using Nat.strongRecOn with
  | ind d ih =>
    intro i H locs ls hd hi0 hP hD hS hl
    refine lv_iload hx hb dY_meld_52 (lv_at hl 0 rfl) ?_
    refine lv_aload_n hx hb dY_meld_54 rfl (lv_at hl 1 rfl) ?_
    refine va_get (D := (dC, dI)) (ci := 1) (v := .int (nI (xn u))) (C := RX1) (T := TX1) (N := 9) hx hb hts hfw hown hK hP 0 rfl rfl 5 (by decide) (hts (.fieldLink RX1 37 "MeldingHeapsModel" "inserted" "I") (by decide +kernel)) (fun _ h9 => h9) rfl dY_meld_55 ?_
    refine lv_icmp_ge (tgt := 96) hx hb dY_meld_58 rfl (fun c58 => ?_) (fun c58 => ?_)
    · have hi2 : i = xn u := Nat.le_antisymm hi0 ((nI_leI (by omega) (by omega)).mp c58)
      rw [hi2] at hl hP hD
      exact kk _ _ _ hP hD hS (lv_sub hl [1, 2, 3] rfl)
    · have hi : i < xn u := Nat.not_le.mp (fun q => c58 (nI_le q (by omega)))
      refine lv_aload_n hx hb dY_meld_61 rfl (lv_at hl 1 rfl) ?_
      refine va_get (D := (dC, dI)) (ci := 1) (v := .ref (G 7)) (C := RX1) (T := TX1) (N := 9) hx hb hts hfw hown hK hP 0 rfl rfl 8 (by decide) (hts (.fieldLink RX1 30 "MeldingHeapsModel" "homes" "[I") (by decide +kernel)) (fun _ h9 => h9) rfl dY_meld_62 ?_
      refine lv_iload hx hb dY_meld_65 (lv_at hl 0 rfl) ?_
      refine lv_aload_n hx hb dY_meld_67 rfl (lv_at hl 1 rfl) ?_
      refine va_get (D := (dC, dI)) (ci := 1) (v := .ref (G 7)) (C := RX1) (T := TX1) (N := 9) hx hb hts hfw hown hK hP 0 rfl rfl 8 (by decide) (hts (.fieldLink RX1 30 "MeldingHeapsModel" "homes" "[I") (by decide +kernel)) (fun _ h9 => h9) rfl dY_meld_68 ?_
      refine lv_iload hx hb dY_meld_71 (lv_at hl 0 rfl) ?_
      refine va_iald (f := (yq_meldL u a b i)) hx hb hK hP 7 6 rfl rfl (vp_in_nI (by omega) (by decide)) dY_meld_73 ?_
      refine W.eq (congrArg (fun z => F0 m 74 ls (.int ((yq_meldL u a b i) z) :: [.int (nI i), .ref (G 7)])) (nI_clamp (show i < 2 ^ 31 by omega))) ?_
      refine lv_iload_n hx hb dY_meld_74 rfl (lv_at hl 3 rfl) ?_
      refine lv_icmp_ne (tgt := 82) hx hb dY_meld_75 rfl (fun c75 => ?_) (fun c75 => ?_)
      · refine lv_aload_n hx hb dY_meld_82 rfl (lv_at hl 1 rfl) ?_
        refine va_get (D := (dC, dI)) (ci := 1) (v := .ref (G 7)) (C := RX1) (T := TX1) (N := 9) hx hb hts hfw hown hK hP 0 rfl rfl 8 (by decide) (hts (.fieldLink RX1 30 "MeldingHeapsModel" "homes" "[I") (by decide +kernel)) (fun _ h9 => h9) rfl dY_meld_83 ?_
        refine lv_iload hx hb dY_meld_86 (lv_at hl 0 rfl) ?_
        refine va_iald (f := (yq_meldL u a b i)) hx hb hK hP 7 6 rfl rfl (vp_in_nI (by omega) (by decide)) dY_meld_88 ?_
        refine W.eq (congrArg (fun z => F0 m 89 ls (.int ((yq_meldL u a b i) z) :: [.int (nI i), .ref (G 7)])) (nI_clamp (show i < 2 ^ 31 by omega))) ?_
        refine va_iast (f := (yq_meldL u a b i)) hx hb hK hP hD hS 7 6 rfl rfl (vp_in_nI (by omega) (by decide)) dY_meld_89 (fun H locs hP hD hS => ?_)
        rw [nI_clamp (show i < 2 ^ 31 by omega)] at hP hD
        have hP : va_P (dC, dI) vwCl (yW G C (sOw (sOw u (yq_meldL u a b i)) (upd (yq_meldL u a b i) i ((yq_meldL u a b i) i)))) H := hP
        have hD : va_D A (yW G C (sOw (sOw u (yq_meldL u a b i)) (upd (yq_meldL u a b i) i ((yq_meldL u a b i) i)))) := hD
        refine lv_iinc (k := 0) (v := (nI (i + 1))) (lv' := [(4, .int (nI (i + 1))), (0, .ref (G 0)), (1, .int a), (2, .int b)]) hx hb dY_meld_90 hl rfl (xinc _) (by decide) rfl (fun ls hl => ?_)
        refine lv_goto (tgt := 52) hx hb dY_meld_93 rfl ?_
        have hl : lv_has ls 5 [(4, .int (nI (i + 1))), (0, .ref (G 0)), (1, .int a), (2, .int b)] := by exact lv_sub hl [0, 1, 2, 3] rfl
        have e8 : yq_meldL u a b (i + 1) = (upd (yq_meldL u a b i) i ((yq_meldL u a b i) i)) := by rw [yq_meldL]; rw [if_neg c75]
        have hP : va_P (dC, dI) vwCl (yW G C (sOw u (yq_meldL u a b (i + 1)))) H := by rw [e8]; exact hP
        have hD : va_D A (yW G C (sOw u (yq_meldL u a b (i + 1)))) := by rw [e8]; exact hD
        exact ih _ (by omega) (i + 1) _ _ _ rfl hi hP hD hS hl
      · refine lv_iload_n hx hb dY_meld_78 rfl (lv_at hl 2 rfl) ?_
        refine lv_goto (tgt := 89) hx hb dY_meld_79 rfl ?_
        refine va_iast (f := (yq_meldL u a b i)) hx hb hK hP hD hS 7 6 rfl rfl (vp_in_nI (by omega) (by decide)) dY_meld_89 (fun H locs hP hD hS => ?_)
        rw [nI_clamp (show i < 2 ^ 31 by omega)] at hP hD
        have hP : va_P (dC, dI) vwCl (yW G C (sOw (sOw u (yq_meldL u a b i)) (upd (yq_meldL u a b i) i a))) H := hP
        have hD : va_D A (yW G C (sOw (sOw u (yq_meldL u a b i)) (upd (yq_meldL u a b i) i a))) := hD
        refine lv_iinc (k := 0) (v := (nI (i + 1))) (lv' := [(4, .int (nI (i + 1))), (0, .ref (G 0)), (1, .int a), (2, .int b)]) hx hb dY_meld_90 hl rfl (xinc _) (by decide) rfl (fun ls hl => ?_)
        refine lv_goto (tgt := 52) hx hb dY_meld_93 rfl ?_
        have hl : lv_has ls 5 [(4, .int (nI (i + 1))), (0, .ref (G 0)), (1, .int a), (2, .int b)] := by exact lv_sub hl [0, 1, 2, 3] rfl
        have e8 : yq_meldL u a b (i + 1) = (upd (yq_meldL u a b i) i a) := by rw [yq_meldL]; rw [if_pos c75]
        have hP : va_P (dC, dI) vwCl (yW G C (sOw u (yq_meldL u a b (i + 1)))) H := by rw [e8]; exact hP
        have hD : va_D A (yW G C (sOw u (yq_meldL u a b (i + 1)))) := by rw [e8]; exact hD
        exact ih _ (by omega) (i + 1) _ _ _ rfl hi hP hD hS hl
def yp_meld (u : xS) (a : Int32) (b : Int32) : Int32 :=
  (if (yp_wrongPair u a b) = 0 then
    (if ((xkd u) (a).toNatClampNeg) = 0 then
      (if ((xkd u) (b).toNatClampNeg) = 0 then
        (if ((xod u) (a).toNatClampNeg) = ((xod u) (b).toNatClampNeg) then
          (yp_many (sAb (sOw u (yq_meldL u a b (xn u))) (upd (xab u) (b).toNatClampNeg 1)) a)
        else (-7))
      else (-7))
    else (-7))
  else (yp_wrongPair u a b))
def yq_meld (u : xS) (a : Int32) (b : Int32) : xS :=
  (if (yp_wrongPair u a b) = 0 then
    (if ((xkd u) (a).toNatClampNeg) = 0 then
      (if ((xkd u) (b).toNatClampNeg) = 0 then
        (if ((xod u) (a).toNatClampNeg) = ((xod u) (b).toNatClampNeg) then
          (sAb (sOw u (yq_meldL u a b (xn u))) (upd (xab u) (b).toNatClampNeg 1))
        else u)
      else u)
    else u)
  else u)
set_option maxHeartbeats 4000000 in
set_option maxRecDepth 100000 in
theorem yb_meld {p : Program} {l : Launch} {e : Env} {s : State} {m : MethodId} {args : Array Value} {below : List Frame} {meth : Method} {c : Code} {Q : State → Prop} {A : Nat → Prop} {ls : Array Slot} {dC : Nat → ClassId} {dI : Nat → Nat → Nat} {G : Nat → Nat} {C : Nat → ClassId} {u : xS} {a : Int32} {b : Int32} (hm : xm u ≤ 12) (hn : xn u ≤ 160) (B : CallFix p m c cY_meld 5 s args wsY_meld RX1) (hK : va_K (dC, dI) vwCl (yT C) s) (hA : ∀ q : Nat, s.heap.size ≤ q → A q) (hP : va_P (dC, dI) vwCl (yW G C u) s.heap) (hD : va_D A (yW G C u)) (hl : lv_has ls 5 [(0, .ref (G 0)), (1, .int a), (2, .int b)]) (kk : (∀ (H : Heap) (locs : List Loc) (pc : Nat) (ls : Array Slot), decode cY_meld pc = .ok (.ireturn, 1) → va_P (dC, dI) vwCl (yW G C (yq_meld u a b)) H → va_D A (yW G C (yq_meld u a b)) → va_S A s.heap H locs → W p l e (xR 2 44) s m args below meth c H locs 0 0 Q (F0 m pc ls [.int (yp_meld u a b)]))) : W p l e (xR 2 44) s m args below meth c s.heap [] 0 0 Q (F0 m 0 ls []) := by
  obtain ⟨hx, hb, hml, hown, hts⟩ := B
  have hS : va_S A s.heap s.heap [] := va_S.rf
  have hfw : ∀ w ∈ u_ws RX1 TX1 9, w ∈ wsY_meld := by decide +kernel
  refine lv_aload_n hx hb dY_meld_0 rfl (lv_at hl 0 rfl) ?_
  refine lv_iload_n hx hb dY_meld_1 rfl (lv_at hl 1 rfl) ?_
  refine lv_iload_n hx hb dY_meld_2 rfl (lv_at hl 2 rfl) ?_
  refine xcall_i (ws := (yW G C u)) (wc := (yW G C u)) (wr := []) (w1 := (yW G C u)) (v := (yp_wrongPair u a b)) [0, 1, 2, 3, 4, 5, 6, 7] [] (va_runV (As := [.int a, .int b]) (rest := []) ⟨hx, hb, hml, hown, hts⟩ (yc_wrongPair l dC dI G C _ u a b hm) (cwV 2 hts gY_meld_Y_wrongPair rfl rfl rfl (by decide +kernel) ⟨Nat.le_of_ble_eq_true rfl, Nat.le_of_ble_eq_true rfl⟩) (xpreV (q0 := 0) (ci := 1) (qc := (RX1, TX1, 9)) hK hP hD rfl rfl) rfl rfl hl.1 rfl (lv_room (Nat.le_of_ble_eq_true rfl)) dY_meld_3 ⟨Nat.zero_le _, Nat.zero_le _⟩) hP hD hS hA rfl rfl (by decide) (by decide) (fun H locs hP hD hS => ?_)
  have hP : va_P (dC, dI) vwCl (yW G C u) H := hP
  have hD : va_D A (yW G C u) := hD
  refine lv_istore_n (lv' := [(3, .int (yp_wrongPair u a b)), (0, .ref (G 0)), (1, .int a), (2, .int b)]) hx hb dY_meld_6 rfl hl (by decide) rfl (fun ls hl => ?_)
  refine lv_iload_n hx hb dY_meld_7 rfl (lv_at hl 0 rfl) ?_
  refine lv_if_eq (tgt := 13) hx hb dY_meld_8 rfl (fun c8 => ?_) (fun c8 => ?_)
  · refine lv_aload_n hx hb dY_meld_13 rfl (lv_at hl 1 rfl) ?_
    refine va_get (D := (dC, dI)) (ci := 1) (v := .ref (G 1)) (C := RX1) (T := TX1) (N := 9) hx hb hts hfw hown hK hP 0 rfl rfl 1 (by decide) (hts (.fieldLink RX1 7 "MeldingHeapsModel" "kinds" "[I") (by decide +kernel)) (fun _ h9 => h9) rfl dY_meld_14 ?_
    refine lv_iload_n hx hb dY_meld_17 rfl (lv_at hl 2 rfl) ?_
    refine va_iald (f := (xkd u)) hx hb hK hP 1 0 rfl rfl ((yin_wP hm c8).1) dY_meld_18 ?_
    refine lv_if_ne (tgt := 46) hx hb dY_meld_19 rfl (fun c19 => ?_) (fun c19 => ?_)
    · refine lv_bipush (v := (-7)) hx hb dY_meld_46 (by decide) ?_
      have e8 : yq_meld u a b = u := by unfold yq_meld; rw [if_pos c8, if_neg c19]
      have e9 : yp_meld u a b = (-7) := by unfold yp_meld; rw [if_pos c8, if_neg c19]
      exact W.eq (congrArg (fun z => F0 m 48 ls [.int z]) e9.symm) (kk _ _ _ _ dY_meld_48 (by rw [e8]; exact hP) (by rw [e8]; exact hD) hS)
    · refine lv_aload_n hx hb dY_meld_22 rfl (lv_at hl 1 rfl) ?_
      refine va_get (D := (dC, dI)) (ci := 1) (v := .ref (G 1)) (C := RX1) (T := TX1) (N := 9) hx hb hts hfw hown hK hP 0 rfl rfl 1 (by decide) (hts (.fieldLink RX1 7 "MeldingHeapsModel" "kinds" "[I") (by decide +kernel)) (fun _ h9 => h9) rfl dY_meld_23 ?_
      refine lv_iload_n hx hb dY_meld_26 rfl (lv_at hl 3 rfl) ?_
      refine va_iald (f := (xkd u)) hx hb hK hP 1 0 rfl rfl ((yin_wP hm c8).2) dY_meld_27 ?_
      refine lv_if_ne (tgt := 46) hx hb dY_meld_28 rfl (fun c28 => ?_) (fun c28 => ?_)
      · refine lv_bipush (v := (-7)) hx hb dY_meld_46 (by decide) ?_
        have e8 : yq_meld u a b = u := by unfold yq_meld; rw [if_pos c8, if_pos c19, if_neg c28]
        have e9 : yp_meld u a b = (-7) := by unfold yp_meld; rw [if_pos c8, if_pos c19, if_neg c28]
        exact W.eq (congrArg (fun z => F0 m 48 ls [.int z]) e9.symm) (kk _ _ _ _ dY_meld_48 (by rw [e8]; exact hP) (by rw [e8]; exact hD) hS)
      · refine lv_aload_n hx hb dY_meld_31 rfl (lv_at hl 1 rfl) ?_
        refine va_get (D := (dC, dI)) (ci := 1) (v := .ref (G 2)) (C := RX1) (T := TX1) (N := 9) hx hb hts hfw hown hK hP 0 rfl rfl 2 (by decide) (hts (.fieldLink RX1 13 "MeldingHeapsModel" "orders" "[I") (by decide +kernel)) (fun _ h9 => h9) rfl dY_meld_32 ?_
        refine lv_iload_n hx hb dY_meld_35 rfl (lv_at hl 2 rfl) ?_
        refine va_iald (f := (xod u)) hx hb hK hP 2 1 rfl rfl ((yin_wP hm c8).1) dY_meld_36 ?_
        refine lv_aload_n hx hb dY_meld_37 rfl (lv_at hl 1 rfl) ?_
        refine va_get (D := (dC, dI)) (ci := 1) (v := .ref (G 2)) (C := RX1) (T := TX1) (N := 9) hx hb hts hfw hown hK hP 0 rfl rfl 2 (by decide) (hts (.fieldLink RX1 13 "MeldingHeapsModel" "orders" "[I") (by decide +kernel)) (fun _ h9 => h9) rfl dY_meld_38 ?_
        refine lv_iload_n hx hb dY_meld_41 rfl (lv_at hl 3 rfl) ?_
        refine va_iald (f := (xod u)) hx hb hK hP 2 1 rfl rfl ((yin_wP hm c8).2) dY_meld_42 ?_
        refine lv_icmp_eq (tgt := 49) hx hb dY_meld_43 rfl (fun c43 => ?_) (fun c43 => ?_)
        · refine lv_iconst (v := 0) hx hb dY_meld_49 (by decide) ?_
          refine lv_istore (lv' := [(4, .int 0), (3, .int (yp_wrongPair u a b)), (0, .ref (G 0)), (1, .int a), (2, .int b)]) hx hb dY_meld_50 hl (by decide) rfl (fun ls hl => ?_)
          refine yl_meld hn ⟨hx, hb, hml, hown, hts⟩ hK hA (fun H locs ls hP hD hS hl => ?_) _ 0 _ _ _ rfl (Nat.zero_le _) hP hD hS (lv_sub hl [0, 2, 3, 4] rfl)
          refine lv_aload_n hx hb dY_meld_96 rfl (lv_at hl 0 rfl) ?_
          refine va_get (D := (dC, dI)) (ci := 1) (v := .ref (G 3)) (C := RX1) (T := TX1) (N := 9) hx hb hts hfw hown hK hP 0 rfl rfl 3 (by decide) (hts (.fieldLink RX1 16 "MeldingHeapsModel" "gone" "[Z") (by decide +kernel)) (fun _ h9 => h9) rfl dY_meld_97 ?_
          refine lv_iload_n hx hb dY_meld_100 rfl (lv_at hl 2 rfl) ?_
          refine lv_iconst (v := 1) hx hb dY_meld_101 (by decide) ?_
          refine va_zast (f := (xab u)) hx hb hK hP hD hS 3 2 rfl rfl ((yin_wP hm c8).2) dY_meld_102 (fun H locs hP hD hS => ?_)
          have hP : va_P (dC, dI) vwCl (yW G C (sAb (sOw u (yq_meldL u a b (xn u))) (upd (xab u) (b).toNatClampNeg 1))) H := hP
          have hD : va_D A (yW G C (sAb (sOw u (yq_meldL u a b (xn u))) (upd (xab u) (b).toNatClampNeg 1))) := hD
          refine lv_aload_n hx hb dY_meld_103 rfl (lv_at hl 0 rfl) ?_
          refine lv_iload_n hx hb dY_meld_104 rfl (lv_at hl 1 rfl) ?_
          refine xcall_i (ws := (yW G C (sAb (sOw u (yq_meldL u a b (xn u))) (upd (xab u) (b).toNatClampNeg 1)))) (wc := (yW G C (sAb (sOw u (yq_meldL u a b (xn u))) (upd (xab u) (b).toNatClampNeg 1)))) (wr := []) (w1 := (yW G C (sAb (sOw u (yq_meldL u a b (xn u))) (upd (xab u) (b).toNatClampNeg 1)))) (v := (yp_many (sAb (sOw u (yq_meldL u a b (xn u))) (upd (xab u) (b).toNatClampNeg 1)) a)) [0, 1, 2, 3, 4, 5, 6, 7] [] (va_runV (As := [.int a]) (rest := []) ⟨hx, hb, hml, hown, hts⟩ (yc_many l dC dI G C _ (sAb (sOw u (yq_meldL u a b (xn u))) (upd (xab u) (b).toNatClampNeg 1)) a hn) (cwV 1 hts gY_meld_Y_many rfl rfl rfl (by decide +kernel) ⟨Nat.le_of_ble_eq_true rfl, Nat.le_of_ble_eq_true rfl⟩) (xpreV (q0 := 0) (ci := 1) (qc := (RX1, TX1, 9)) hK hP hD rfl rfl) rfl rfl hl.1 rfl (lv_room (Nat.le_of_ble_eq_true rfl)) dY_meld_105 ⟨Nat.zero_le _, Nat.zero_le _⟩) hP hD hS hA rfl rfl (by decide) (by decide) (fun H locs hP hD hS => ?_)
          have hP : va_P (dC, dI) vwCl (yW G C (sAb (sOw u (yq_meldL u a b (xn u))) (upd (xab u) (b).toNatClampNeg 1))) H := hP
          have hD : va_D A (yW G C (sAb (sOw u (yq_meldL u a b (xn u))) (upd (xab u) (b).toNatClampNeg 1))) := hD
          have e8 : yq_meld u a b = (sAb (sOw u (yq_meldL u a b (xn u))) (upd (xab u) (b).toNatClampNeg 1)) := by unfold yq_meld; rw [if_pos c8, if_pos c19, if_pos c28, if_pos c43]
          have e9 : yp_meld u a b = (yp_many (sAb (sOw u (yq_meldL u a b (xn u))) (upd (xab u) (b).toNatClampNeg 1)) a) := by unfold yp_meld; rw [if_pos c8, if_pos c19, if_pos c28, if_pos c43]
          exact W.eq (congrArg (fun z => F0 m 108 ls [.int z]) e9.symm) (kk _ _ _ _ dY_meld_108 (by rw [e8]; exact hP) (by rw [e8]; exact hD) hS)
        · refine lv_bipush (v := (-7)) hx hb dY_meld_46 (by decide) ?_
          have e8 : yq_meld u a b = u := by unfold yq_meld; rw [if_pos c8, if_pos c19, if_pos c28, if_neg c43]
          have e9 : yp_meld u a b = (-7) := by unfold yp_meld; rw [if_pos c8, if_pos c19, if_pos c28, if_neg c43]
          exact W.eq (congrArg (fun z => F0 m 48 ls [.int z]) e9.symm) (kk _ _ _ _ dY_meld_48 (by rw [e8]; exact hP) (by rw [e8]; exact hD) hS)
  · refine lv_iload_n hx hb dY_meld_11 rfl (lv_at hl 0 rfl) ?_
    have e8 : yq_meld u a b = u := by unfold yq_meld; rw [if_neg c8]
    have e9 : yp_meld u a b = (yp_wrongPair u a b) := by unfold yp_meld; rw [if_neg c8]
    exact W.eq (congrArg (fun z => F0 m 12 ls [.int z]) e9.symm) (kk _ _ _ _ dY_meld_12 (by rw [e8]; exact hP) (by rw [e8]; exact hD) hS)
theorem yc_meld (l : Launch) (dC : Nat → ClassId) (dI : Nat → Nat → Nat) (G : Nat → Nat) (C : Nat → ClassId) (sz : Nat) (u : xS) (a : Int32) (b : Int32) (hm : xm u ≤ 12) (hn : xn u ≤ 160) : xMi l yY_meld wsY_meld (xR 2 44) dC dI (yT C) [.ref (G 0), .int a, .int b] (yW G C u) (yW G C (yq_meld u a b)) (yp_meld u a b) sz :=
  xmet_i (by decide) rfl rfl (Nat.le_of_ble_eq_true rfl) rfl (fun p e s m args below meth c Q A ls B hK hA hP hD hl kk => yb_meld hm hn B hK hA hP hD hl kk)
def yq_clearL (u : xS) (h : Int32) : Nat → Nat → Int32
  | 0 => xow u
  | i + 1 =>
    (if ((yq_clearL u h i) i) = h then
      (upd (yq_clearL u h i) i (-1))
    else (upd (yq_clearL u h i) i ((yq_clearL u h i) i)))
set_option maxHeartbeats 4000000 in
set_option maxRecDepth 100000 in
theorem yl_clear {p : Program} {l : Launch} {e : Env} {s : State} {m : MethodId} {args : Array Value} {below : List Frame} {meth : Method} {c : Code} {Q : State → Prop} {A : Nat → Prop} {dC : Nat → ClassId} {dI : Nat → Nat → Nat} {G : Nat → Nat} {C : Nat → ClassId} {u : xS} {h : Int32} (hn : xn u ≤ 160) (B : CallFix p m c cY_clear 5 s args wsY_clear RX1) (hK : va_K (dC, dI) vwCl (yT C) s) (hA : ∀ q : Nat, s.heap.size ≤ q → A q) (kk : ∀ (H : Heap) (locs : List Loc) (ls : Array Slot), va_P (dC, dI) vwCl (yW G C (sOw u (yq_clearL u h (xn u)))) H → va_D A (yW G C (sOw u (yq_clearL u h (xn u)))) → va_S A s.heap H locs → lv_has ls 5 [(0, .ref (G 0)), (1, .int h), (3, .int (yp_many u h))] → W p l e (xR 1 23) s m args below meth c H locs 0 0 Q (F0 m 65 ls [])) :
    ∀ (d i : Nat) (H : Heap) (locs : List Loc) (ls : Array Slot), xn u - i = d → i ≤ xn u → va_P (dC, dI) vwCl (yW G C (sOw u (yq_clearL u h i))) H → va_D A (yW G C (sOw u (yq_clearL u h i))) → va_S A s.heap H locs → lv_has ls 5 [(4, .int (nI i)), (0, .ref (G 0)), (1, .int h), (3, .int (yp_many u h))] → W p l e (xR 1 23) s m args below meth c H locs 0 0 Q (F0 m 21 ls []) := by
  obtain ⟨hx, hb, hml, hown, hts⟩ := B
  have hfw : ∀ w ∈ u_ws RX1 TX1 9, w ∈ wsY_clear := by decide +kernel
  intro d
  induction d using Nat.strongRecOn with
  | ind d ih =>
    intro i H locs ls hd hi0 hP hD hS hl
    refine lv_iload hx hb dY_clear_21 (lv_at hl 0 rfl) ?_
    refine lv_aload_n hx hb dY_clear_23 rfl (lv_at hl 1 rfl) ?_
    refine va_get (D := (dC, dI)) (ci := 1) (v := .int (nI (xn u))) (C := RX1) (T := TX1) (N := 9) hx hb hts hfw hown hK hP 0 rfl rfl 5 (by decide) (hts (.fieldLink RX1 37 "MeldingHeapsModel" "inserted" "I") (by decide +kernel)) (fun _ h9 => h9) rfl dY_clear_24 ?_
    refine lv_icmp_ge (tgt := 65) hx hb dY_clear_27 rfl (fun c27 => ?_) (fun c27 => ?_)
    · have hi2 : i = xn u := Nat.le_antisymm hi0 ((nI_leI (by omega) (by omega)).mp c27)
      rw [hi2] at hl hP hD
      exact kk _ _ _ hP hD hS (lv_sub hl [1, 2, 3] rfl)
    · have hi : i < xn u := Nat.not_le.mp (fun q => c27 (nI_le q (by omega)))
      refine lv_aload_n hx hb dY_clear_30 rfl (lv_at hl 1 rfl) ?_
      refine va_get (D := (dC, dI)) (ci := 1) (v := .ref (G 7)) (C := RX1) (T := TX1) (N := 9) hx hb hts hfw hown hK hP 0 rfl rfl 8 (by decide) (hts (.fieldLink RX1 30 "MeldingHeapsModel" "homes" "[I") (by decide +kernel)) (fun _ h9 => h9) rfl dY_clear_31 ?_
      refine lv_iload hx hb dY_clear_34 (lv_at hl 0 rfl) ?_
      refine lv_aload_n hx hb dY_clear_36 rfl (lv_at hl 1 rfl) ?_
      refine va_get (D := (dC, dI)) (ci := 1) (v := .ref (G 7)) (C := RX1) (T := TX1) (N := 9) hx hb hts hfw hown hK hP 0 rfl rfl 8 (by decide) (hts (.fieldLink RX1 30 "MeldingHeapsModel" "homes" "[I") (by decide +kernel)) (fun _ h9 => h9) rfl dY_clear_37 ?_
      refine lv_iload hx hb dY_clear_40 (lv_at hl 0 rfl) ?_
      refine va_iald (f := (yq_clearL u h i)) hx hb hK hP 7 6 rfl rfl (vp_in_nI (by omega) (by decide)) dY_clear_42 ?_
      refine W.eq (congrArg (fun z => F0 m 43 ls (.int ((yq_clearL u h i) z) :: [.int (nI i), .ref (G 7)])) (nI_clamp (show i < 2 ^ 31 by omega))) ?_
      refine lv_iload_n hx hb dY_clear_43 rfl (lv_at hl 2 rfl) ?_
      refine lv_icmp_ne (tgt := 51) hx hb dY_clear_44 rfl (fun c44 => ?_) (fun c44 => ?_)
      · refine lv_aload_n hx hb dY_clear_51 rfl (lv_at hl 1 rfl) ?_
        refine va_get (D := (dC, dI)) (ci := 1) (v := .ref (G 7)) (C := RX1) (T := TX1) (N := 9) hx hb hts hfw hown hK hP 0 rfl rfl 8 (by decide) (hts (.fieldLink RX1 30 "MeldingHeapsModel" "homes" "[I") (by decide +kernel)) (fun _ h9 => h9) rfl dY_clear_52 ?_
        refine lv_iload hx hb dY_clear_55 (lv_at hl 0 rfl) ?_
        refine va_iald (f := (yq_clearL u h i)) hx hb hK hP 7 6 rfl rfl (vp_in_nI (by omega) (by decide)) dY_clear_57 ?_
        refine W.eq (congrArg (fun z => F0 m 58 ls (.int ((yq_clearL u h i) z) :: [.int (nI i), .ref (G 7)])) (nI_clamp (show i < 2 ^ 31 by omega))) ?_
        refine va_iast (f := (yq_clearL u h i)) hx hb hK hP hD hS 7 6 rfl rfl (vp_in_nI (by omega) (by decide)) dY_clear_58 (fun H locs hP hD hS => ?_)
        rw [nI_clamp (show i < 2 ^ 31 by omega)] at hP hD
        have hP : va_P (dC, dI) vwCl (yW G C (sOw (sOw u (yq_clearL u h i)) (upd (yq_clearL u h i) i ((yq_clearL u h i) i)))) H := hP
        have hD : va_D A (yW G C (sOw (sOw u (yq_clearL u h i)) (upd (yq_clearL u h i) i ((yq_clearL u h i) i)))) := hD
        refine lv_iinc (k := 0) (v := (nI (i + 1))) (lv' := [(4, .int (nI (i + 1))), (0, .ref (G 0)), (1, .int h), (3, .int (yp_many u h))]) hx hb dY_clear_59 hl rfl (xinc _) (by decide) rfl (fun ls hl => ?_)
        refine lv_goto (tgt := 21) hx hb dY_clear_62 rfl ?_
        have hl : lv_has ls 5 [(4, .int (nI (i + 1))), (0, .ref (G 0)), (1, .int h), (3, .int (yp_many u h))] := by exact lv_sub hl [0, 1, 2, 3] rfl
        have e8 : yq_clearL u h (i + 1) = (upd (yq_clearL u h i) i ((yq_clearL u h i) i)) := by rw [yq_clearL]; rw [if_neg c44]
        have hP : va_P (dC, dI) vwCl (yW G C (sOw u (yq_clearL u h (i + 1)))) H := by rw [e8]; exact hP
        have hD : va_D A (yW G C (sOw u (yq_clearL u h (i + 1)))) := by rw [e8]; exact hD
        exact ih _ (by omega) (i + 1) _ _ _ rfl hi hP hD hS hl
      · refine lv_iconst (v := (-1)) hx hb dY_clear_47 (by decide) ?_
        refine lv_goto (tgt := 58) hx hb dY_clear_48 rfl ?_
        refine va_iast (f := (yq_clearL u h i)) hx hb hK hP hD hS 7 6 rfl rfl (vp_in_nI (by omega) (by decide)) dY_clear_58 (fun H locs hP hD hS => ?_)
        rw [nI_clamp (show i < 2 ^ 31 by omega)] at hP hD
        have hP : va_P (dC, dI) vwCl (yW G C (sOw (sOw u (yq_clearL u h i)) (upd (yq_clearL u h i) i (-1)))) H := hP
        have hD : va_D A (yW G C (sOw (sOw u (yq_clearL u h i)) (upd (yq_clearL u h i) i (-1)))) := hD
        refine lv_iinc (k := 0) (v := (nI (i + 1))) (lv' := [(4, .int (nI (i + 1))), (0, .ref (G 0)), (1, .int h), (3, .int (yp_many u h))]) hx hb dY_clear_59 hl rfl (xinc _) (by decide) rfl (fun ls hl => ?_)
        refine lv_goto (tgt := 21) hx hb dY_clear_62 rfl ?_
        have hl : lv_has ls 5 [(4, .int (nI (i + 1))), (0, .ref (G 0)), (1, .int h), (3, .int (yp_many u h))] := by exact lv_sub hl [0, 1, 2, 3] rfl
        have e8 : yq_clearL u h (i + 1) = (upd (yq_clearL u h i) i (-1)) := by rw [yq_clearL]; rw [if_pos c44]
        have hP : va_P (dC, dI) vwCl (yW G C (sOw u (yq_clearL u h (i + 1)))) H := by rw [e8]; exact hP
        have hD : va_D A (yW G C (sOw u (yq_clearL u h (i + 1)))) := by rw [e8]; exact hD
        exact ih _ (by omega) (i + 1) _ _ _ rfl hi hP hD hS hl
def yp_clear (u : xS) (h : Int32) : Int32 :=
  (if (yp_wrongHeap u h) = 0 then
    (yp_many u h)
  else (yp_wrongHeap u h))
def yq_clear (u : xS) (h : Int32) : xS :=
  (if (yp_wrongHeap u h) = 0 then
    (sFl (sOw u (yq_clearL u h (xn u))) (vp_updL (xfl u) (h).toNatClampNeg (-9223372036854775808)))
  else u)
set_option maxHeartbeats 4000000 in
set_option maxRecDepth 100000 in
theorem yb_clear {p : Program} {l : Launch} {e : Env} {s : State} {m : MethodId} {args : Array Value} {below : List Frame} {meth : Method} {c : Code} {Q : State → Prop} {A : Nat → Prop} {ls : Array Slot} {dC : Nat → ClassId} {dI : Nat → Nat → Nat} {G : Nat → Nat} {C : Nat → ClassId} {u : xS} {h : Int32} (hm : xm u ≤ 12) (hn : xn u ≤ 160) (B : CallFix p m c cY_clear 5 s args wsY_clear RX1) (hK : va_K (dC, dI) vwCl (yT C) s) (hA : ∀ q : Nat, s.heap.size ≤ q → A q) (hP : va_P (dC, dI) vwCl (yW G C u) s.heap) (hD : va_D A (yW G C u)) (hl : lv_has ls 5 [(0, .ref (G 0)), (1, .int h)]) (kk : (∀ (H : Heap) (locs : List Loc) (pc : Nat) (ls : Array Slot), decode cY_clear pc = .ok (.ireturn, 1) → va_P (dC, dI) vwCl (yW G C (yq_clear u h)) H → va_D A (yW G C (yq_clear u h)) → va_S A s.heap H locs → W p l e (xR 1 23) s m args below meth c H locs 0 0 Q (F0 m pc ls [.int (yp_clear u h)]))) : W p l e (xR 1 23) s m args below meth c s.heap [] 0 0 Q (F0 m 0 ls []) := by
  obtain ⟨hx, hb, hml, hown, hts⟩ := B
  have hS : va_S A s.heap s.heap [] := va_S.rf
  have hfw : ∀ w ∈ u_ws RX1 TX1 9, w ∈ wsY_clear := by decide +kernel
  refine lv_aload_n hx hb dY_clear_0 rfl (lv_at hl 0 rfl) ?_
  refine lv_iload_n hx hb dY_clear_1 rfl (lv_at hl 1 rfl) ?_
  refine xcall_i (ws := (yW G C u)) (wc := (yW G C u)) (wr := []) (w1 := (yW G C u)) (v := (yp_wrongHeap u h)) [0, 1, 2, 3, 4, 5, 6, 7] [] (va_runV (As := [.int h]) (rest := []) ⟨hx, hb, hml, hown, hts⟩ (yc_wrongHeap l dC dI G C _ u h hm) (cwV 1 hts gY_clear_Y_wrongHeap rfl rfl rfl (by decide +kernel) ⟨Nat.le_of_ble_eq_true rfl, Nat.le_of_ble_eq_true rfl⟩) (xpreV (q0 := 0) (ci := 1) (qc := (RX1, TX1, 9)) hK hP hD rfl rfl) rfl rfl hl.1 rfl (lv_room (Nat.le_of_ble_eq_true rfl)) dY_clear_2 ⟨Nat.zero_le _, Nat.zero_le _⟩) hP hD hS hA rfl rfl (by decide) (by decide) (fun H locs hP hD hS => ?_)
  have hP : va_P (dC, dI) vwCl (yW G C u) H := hP
  have hD : va_D A (yW G C u) := hD
  refine lv_istore_n (lv' := [(2, .int (yp_wrongHeap u h)), (0, .ref (G 0)), (1, .int h)]) hx hb dY_clear_5 rfl hl (by decide) rfl (fun ls hl => ?_)
  refine lv_iload_n hx hb dY_clear_6 rfl (lv_at hl 0 rfl) ?_
  refine lv_if_eq (tgt := 12) hx hb dY_clear_7 rfl (fun c7 => ?_) (fun c7 => ?_)
  · refine lv_aload_n hx hb dY_clear_12 rfl (lv_at hl 1 rfl) ?_
    refine lv_iload_n hx hb dY_clear_13 rfl (lv_at hl 2 rfl) ?_
    refine xcall_i (ws := (yW G C u)) (wc := (yW G C u)) (wr := []) (w1 := (yW G C u)) (v := (yp_many u h)) [0, 1, 2, 3, 4, 5, 6, 7] [] (va_runV (As := [.int h]) (rest := []) ⟨hx, hb, hml, hown, hts⟩ (yc_many l dC dI G C _ u h hn) (cwV 1 hts gY_clear_Y_many rfl rfl rfl (by decide +kernel) ⟨Nat.le_of_ble_eq_true rfl, Nat.le_of_ble_eq_true rfl⟩) (xpreV (q0 := 0) (ci := 1) (qc := (RX1, TX1, 9)) hK hP hD rfl rfl) rfl rfl hl.1 rfl (lv_room (Nat.le_of_ble_eq_true rfl)) dY_clear_14 ⟨Nat.zero_le _, Nat.zero_le _⟩) hP hD hS hA rfl rfl (by decide) (by decide) (fun H locs hP hD hS => ?_)
    have hP : va_P (dC, dI) vwCl (yW G C u) H := hP
    have hD : va_D A (yW G C u) := hD
    refine lv_istore_n (lv' := [(3, .int (yp_many u h)), (2, .int (yp_wrongHeap u h)), (0, .ref (G 0)), (1, .int h)]) hx hb dY_clear_17 rfl hl (by decide) rfl (fun ls hl => ?_)
    refine lv_iconst (v := 0) hx hb dY_clear_18 (by decide) ?_
    refine lv_istore (lv' := [(4, .int 0), (3, .int (yp_many u h)), (2, .int (yp_wrongHeap u h)), (0, .ref (G 0)), (1, .int h)]) hx hb dY_clear_19 hl (by decide) rfl (fun ls hl => ?_)
    refine yl_clear hn ⟨hx, hb, hml, hown, hts⟩ hK hA (fun H locs ls hP hD hS hl => ?_) _ 0 _ _ _ rfl (Nat.zero_le _) hP hD hS (lv_sub hl [0, 3, 4, 1] rfl)
    refine lv_aload_n hx hb dY_clear_65 rfl (lv_at hl 0 rfl) ?_
    refine va_get (D := (dC, dI)) (ci := 1) (v := .ref (G 4)) (C := RX1) (T := TX1) (N := 9) hx hb hts hfw hown hK hP 0 rfl rfl 4 (by decide) (hts (.fieldLink RX1 20 "MeldingHeapsModel" "floors" "[J") (by decide +kernel)) (fun _ h9 => h9) rfl dY_clear_66 ?_
    refine lv_iload_n hx hb dY_clear_69 rfl (lv_at hl 1 rfl) ?_
    refine lv_ldc2 (v := (-9223372036854775808)) hx hb hown (hts (.constantLong RX1 42 (-9223372036854775808)) (by decide +kernel)) dY_clear_70 ?_
    refine va_last (f := (xfl u)) hx hb hK hP hD hS 4 3 rfl rfl (yin_wH hm c7) dY_clear_73 (fun H locs hP hD hS => ?_)
    have hP : va_P (dC, dI) vwCl (yW G C (sFl (sOw u (yq_clearL u h (xn u))) (vp_updL (xfl u) (h).toNatClampNeg (-9223372036854775808)))) H := hP
    have hD : va_D A (yW G C (sFl (sOw u (yq_clearL u h (xn u))) (vp_updL (xfl u) (h).toNatClampNeg (-9223372036854775808)))) := hD
    refine lv_iload_n hx hb dY_clear_74 rfl (lv_at hl 2 rfl) ?_
    have e8 : yq_clear u h = (sFl (sOw u (yq_clearL u h (xn u))) (vp_updL (xfl u) (h).toNatClampNeg (-9223372036854775808))) := by unfold yq_clear; rw [if_pos c7]
    have e9 : yp_clear u h = (yp_many u h) := by unfold yp_clear; rw [if_pos c7]
    exact W.eq (congrArg (fun z => F0 m 75 ls [.int z]) e9.symm) (kk _ _ _ _ dY_clear_75 (by rw [e8]; exact hP) (by rw [e8]; exact hD) hS)
  · refine lv_iload_n hx hb dY_clear_10 rfl (lv_at hl 0 rfl) ?_
    have e8 : yq_clear u h = u := by unfold yq_clear; rw [if_neg c7]
    have e9 : yp_clear u h = (yp_wrongHeap u h) := by unfold yp_clear; rw [if_neg c7]
    exact W.eq (congrArg (fun z => F0 m 11 ls [.int z]) e9.symm) (kk _ _ _ _ dY_clear_11 (by rw [e8]; exact hP) (by rw [e8]; exact hD) hS)
theorem yc_clear (l : Launch) (dC : Nat → ClassId) (dI : Nat → Nat → Nat) (G : Nat → Nat) (C : Nat → ClassId) (sz : Nat) (u : xS) (h : Int32) (hm : xm u ≤ 12) (hn : xn u ≤ 160) : xMi l yY_clear wsY_clear (xR 1 23) dC dI (yT C) [.ref (G 0), .int h] (yW G C u) (yW G C (yq_clear u h)) (yp_clear u h) sz :=
  xmet_i (by decide) rfl rfl (Nat.le_of_ble_eq_true rfl) rfl (fun p e s m args below meth c Q A ls B hK hA hP hD hl kk => yb_clear hm hn B hK hA hP hD hl kk)
def yp_size (u : xS) (h : Int32) : Int32 :=
  (if (yp_wrongHeap u h) = 0 then
    (yp_many u h)
  else (yp_wrongHeap u h))
set_option maxHeartbeats 4000000 in
set_option maxRecDepth 100000 in
theorem yb_size {p : Program} {l : Launch} {e : Env} {s : State} {m : MethodId} {args : Array Value} {below : List Frame} {meth : Method} {c : Code} {Q : State → Prop} {A : Nat → Prop} {ls : Array Slot} {dC : Nat → ClassId} {dI : Nat → Nat → Nat} {G : Nat → Nat} {C : Nat → ClassId} {u : xS} {h : Int32} (hm : xm u ≤ 12) (hn : xn u ≤ 160) (B : CallFix p m c cY_size 3 s args wsY_size RX1) (hK : va_K (dC, dI) vwCl (yT C) s) (hA : ∀ q : Nat, s.heap.size ≤ q → A q) (hP : va_P (dC, dI) vwCl (yW G C u) s.heap) (hD : va_D A (yW G C u)) (hl : lv_has ls 3 [(0, .ref (G 0)), (1, .int h)]) (kk : (∀ (H : Heap) (locs : List Loc) (pc : Nat) (ls : Array Slot), decode cY_size pc = .ok (.ireturn, 1) → va_P (dC, dI) vwCl (yW G C u) H → va_D A (yW G C u) → va_S A s.heap H locs → W p l e (xR 1 23) s m args below meth c H locs 0 0 Q (F0 m pc ls [.int (yp_size u h)]))) : W p l e (xR 1 23) s m args below meth c s.heap [] 0 0 Q (F0 m 0 ls []) := by
  obtain ⟨hx, hb, hml, hown, hts⟩ := B
  have hS : va_S A s.heap s.heap [] := va_S.rf
  refine lv_aload_n hx hb dY_size_0 rfl (lv_at hl 0 rfl) ?_
  refine lv_iload_n hx hb dY_size_1 rfl (lv_at hl 1 rfl) ?_
  refine xcall_i (ws := (yW G C u)) (wc := (yW G C u)) (wr := []) (w1 := (yW G C u)) (v := (yp_wrongHeap u h)) [0, 1, 2, 3, 4, 5, 6, 7] [] (va_runV (As := [.int h]) (rest := []) ⟨hx, hb, hml, hown, hts⟩ (yc_wrongHeap l dC dI G C _ u h hm) (cwV 1 hts gY_size_Y_wrongHeap rfl rfl rfl (by decide +kernel) ⟨Nat.le_of_ble_eq_true rfl, Nat.le_of_ble_eq_true rfl⟩) (xpreV (q0 := 0) (ci := 1) (qc := (RX1, TX1, 9)) hK hP hD rfl rfl) rfl rfl hl.1 rfl (lv_room (Nat.le_of_ble_eq_true rfl)) dY_size_2 ⟨Nat.zero_le _, Nat.zero_le _⟩) hP hD hS hA rfl rfl (by decide) (by decide) (fun H locs hP hD hS => ?_)
  have hP : va_P (dC, dI) vwCl (yW G C u) H := hP
  have hD : va_D A (yW G C u) := hD
  refine lv_istore_n (lv' := [(2, .int (yp_wrongHeap u h)), (0, .ref (G 0)), (1, .int h)]) hx hb dY_size_5 rfl hl (by decide) rfl (fun ls hl => ?_)
  refine lv_iload_n hx hb dY_size_6 rfl (lv_at hl 0 rfl) ?_
  refine lv_if_eq (tgt := 14) hx hb dY_size_7 rfl (fun c7 => ?_) (fun c7 => ?_)
  · refine lv_aload_n hx hb dY_size_14 rfl (lv_at hl 1 rfl) ?_
    refine lv_iload_n hx hb dY_size_15 rfl (lv_at hl 2 rfl) ?_
    refine xcall_i (ws := (yW G C u)) (wc := (yW G C u)) (wr := []) (w1 := (yW G C u)) (v := (yp_many u h)) [0, 1, 2, 3, 4, 5, 6, 7] [] (va_runV (As := [.int h]) (rest := []) ⟨hx, hb, hml, hown, hts⟩ (yc_many l dC dI G C _ u h hn) (cwV 1 hts gY_size_Y_many rfl rfl rfl (by decide +kernel) ⟨Nat.le_of_ble_eq_true rfl, Nat.le_of_ble_eq_true rfl⟩) (xpreV (q0 := 0) (ci := 1) (qc := (RX1, TX1, 9)) hK hP hD rfl rfl) rfl rfl hl.1 rfl (lv_room (Nat.le_of_ble_eq_true rfl)) dY_size_16 ⟨Nat.zero_le _, Nat.zero_le _⟩) hP hD hS hA rfl rfl (by decide) (by decide) (fun H locs hP hD hS => ?_)
    have hP : va_P (dC, dI) vwCl (yW G C u) H := hP
    have hD : va_D A (yW G C u) := hD
    have e9 : yp_size u h = (yp_many u h) := by unfold yp_size; rw [if_pos c7]
    exact W.eq (congrArg (fun z => F0 m 19 ls [.int z]) e9.symm) (kk _ _ _ _ dY_size_19 hP hD hS)
  · refine lv_iload_n hx hb dY_size_10 rfl (lv_at hl 0 rfl) ?_
    refine lv_goto (tgt := 19) hx hb dY_size_11 rfl ?_
    have e9 : yp_size u h = (yp_wrongHeap u h) := by unfold yp_size; rw [if_neg c7]
    exact W.eq (congrArg (fun z => F0 m 19 ls [.int z]) e9.symm) (kk _ _ _ _ dY_size_19 hP hD hS)
theorem yc_size (l : Launch) (dC : Nat → ClassId) (dI : Nat → Nat → Nat) (G : Nat → Nat) (C : Nat → ClassId) (sz : Nat) (u : xS) (h : Int32) (hm : xm u ≤ 12) (hn : xn u ≤ 160) : xMi l yY_size wsY_size (xR 1 23) dC dI (yT C) [.ref (G 0), .int h] (yW G C u) (yW G C u) (yp_size u h) sz :=
  xmet_i (by decide) rfl rfl (Nat.le_of_ble_eq_true rfl) rfl (fun p e s m args below meth c Q A ls B hK hA hP hD hl kk => yb_size hm hn B hK hA hP hD hl kk)
def yp_floor (u : xS) (h : Int32) : Int64 :=
  (if (yp_wrongHeap u h) = 0 then
    ((xfl u) (h).toNatClampNeg)
  else (-9223372036854775808))
set_option maxHeartbeats 4000000 in
set_option maxRecDepth 100000 in
theorem yb_floor {p : Program} {l : Launch} {e : Env} {s : State} {m : MethodId} {args : Array Value} {below : List Frame} {meth : Method} {c : Code} {Q : State → Prop} {A : Nat → Prop} {ls : Array Slot} {dC : Nat → ClassId} {dI : Nat → Nat → Nat} {G : Nat → Nat} {C : Nat → ClassId} {u : xS} {h : Int32} (hm : xm u ≤ 12) (B : CallFix p m c cY_floor 2 s args wsY_floor RX1) (hK : va_K (dC, dI) vwCl (yT C) s) (hA : ∀ q : Nat, s.heap.size ≤ q → A q) (hP : va_P (dC, dI) vwCl (yW G C u) s.heap) (hD : va_D A (yW G C u)) (hl : lv_has ls 2 [(0, .ref (G 0)), (1, .int h)]) (kk : (∀ (H : Heap) (locs : List Loc) (pc : Nat) (ls : Array Slot), decode cY_floor pc = .ok (.lreturn, 1) → va_P (dC, dI) vwCl (yW G C u) H → va_D A (yW G C u) → va_S A s.heap H locs → W p l e (xR 1 21) s m args below meth c H locs 0 0 Q (F0 m pc ls [.long (yp_floor u h)]))) : W p l e (xR 1 21) s m args below meth c s.heap [] 0 0 Q (F0 m 0 ls []) := by
  obtain ⟨hx, hb, hml, hown, hts⟩ := B
  have hS : va_S A s.heap s.heap [] := va_S.rf
  have hfw : ∀ w ∈ u_ws RX1 TX1 9, w ∈ wsY_floor := by decide +kernel
  refine lv_aload_n hx hb dY_floor_0 rfl (lv_at hl 0 rfl) ?_
  refine lv_iload_n hx hb dY_floor_1 rfl (lv_at hl 1 rfl) ?_
  refine xcall_i (ws := (yW G C u)) (wc := (yW G C u)) (wr := []) (w1 := (yW G C u)) (v := (yp_wrongHeap u h)) [0, 1, 2, 3, 4, 5, 6, 7] [] (va_runV (As := [.int h]) (rest := []) ⟨hx, hb, hml, hown, hts⟩ (yc_wrongHeap l dC dI G C _ u h hm) (cwV 1 hts gY_floor_Y_wrongHeap rfl rfl rfl (by decide +kernel) ⟨Nat.le_of_ble_eq_true rfl, Nat.le_of_ble_eq_true rfl⟩) (xpreV (q0 := 0) (ci := 1) (qc := (RX1, TX1, 9)) hK hP hD rfl rfl) rfl rfl hl.1 rfl (lv_room (Nat.le_of_ble_eq_true rfl)) dY_floor_2 ⟨Nat.zero_le _, Nat.zero_le _⟩) hP hD hS hA rfl rfl (by decide) (by decide) (fun H locs hP hD hS => ?_)
  have hP : va_P (dC, dI) vwCl (yW G C u) H := hP
  have hD : va_D A (yW G C u) := hD
  refine lv_if_ne (tgt := 17) hx hb dY_floor_5 rfl (fun c5 => ?_) (fun c5 => ?_)
  · refine lv_ldc2 (v := (-9223372036854775808)) hx hb hown (hts (.constantLong RX1 42 (-9223372036854775808)) (by decide +kernel)) dY_floor_17 ?_
    have e9 : yp_floor u h = (-9223372036854775808) := by unfold yp_floor; rw [if_neg c5]
    exact W.eq (congrArg (fun z => F0 m 20 ls [.long z]) e9.symm) (kk _ _ _ _ dY_floor_20 hP hD hS)
  · refine lv_aload_n hx hb dY_floor_8 rfl (lv_at hl 0 rfl) ?_
    refine va_get (D := (dC, dI)) (ci := 1) (v := .ref (G 4)) (C := RX1) (T := TX1) (N := 9) hx hb hts hfw hown hK hP 0 rfl rfl 4 (by decide) (hts (.fieldLink RX1 20 "MeldingHeapsModel" "floors" "[J") (by decide +kernel)) (fun _ h9 => h9) rfl dY_floor_9 ?_
    refine lv_iload_n hx hb dY_floor_12 rfl (lv_at hl 1 rfl) ?_
    refine va_lald (f := (xfl u)) hx hb hK hP 4 3 rfl rfl (yin_wH hm c5) dY_floor_13 ?_
    refine lv_goto (tgt := 20) hx hb dY_floor_14 rfl ?_
    have e9 : yp_floor u h = ((xfl u) (h).toNatClampNeg) := by unfold yp_floor; rw [if_pos c5]
    exact W.eq (congrArg (fun z => F0 m 20 ls [.long z]) e9.symm) (kk _ _ _ _ dY_floor_20 hP hD hS)
theorem yc_floor (l : Launch) (dC : Nat → ClassId) (dI : Nat → Nat → Nat) (G : Nat → Nat) (C : Nat → ClassId) (sz : Nat) (u : xS) (h : Int32) (hm : xm u ≤ 12) : xMl l yY_floor wsY_floor (xR 1 21) dC dI (yT C) [.ref (G 0), .int h] (yW G C u) (yW G C u) (yp_floor u h) sz :=
  xmet_l (by decide) rfl (Nat.le_of_ble_eq_true rfl) rfl (fun p e s m args below meth c Q A ls B hK hA hP hD hl kk => yb_floor hm B hK hA hP hD hl kk)
def yp_key (u : xS) (a : Int32) : Int64 :=
  (if (yp_wrongEntry u a) = 0 then
    ((xky u) (a).toNatClampNeg)
  else 0)
set_option maxHeartbeats 4000000 in
set_option maxRecDepth 100000 in
theorem yb_key {p : Program} {l : Launch} {e : Env} {s : State} {m : MethodId} {args : Array Value} {below : List Frame} {meth : Method} {c : Code} {Q : State → Prop} {A : Nat → Prop} {ls : Array Slot} {dC : Nat → ClassId} {dI : Nat → Nat → Nat} {G : Nat → Nat} {C : Nat → ClassId} {u : xS} {a : Int32} (hn : xn u ≤ 160) (B : CallFix p m c cY_key 2 s args wsY_key RX1) (hK : va_K (dC, dI) vwCl (yT C) s) (hA : ∀ q : Nat, s.heap.size ≤ q → A q) (hP : va_P (dC, dI) vwCl (yW G C u) s.heap) (hD : va_D A (yW G C u)) (hl : lv_has ls 2 [(0, .ref (G 0)), (1, .int a)]) (kk : (∀ (H : Heap) (locs : List Loc) (pc : Nat) (ls : Array Slot), decode cY_key pc = .ok (.lreturn, 1) → va_P (dC, dI) vwCl (yW G C u) H → va_D A (yW G C u) → va_S A s.heap H locs → W p l e (xR 1 21) s m args below meth c H locs 0 0 Q (F0 m pc ls [.long (yp_key u a)]))) : W p l e (xR 1 21) s m args below meth c s.heap [] 0 0 Q (F0 m 0 ls []) := by
  obtain ⟨hx, hb, hml, hown, hts⟩ := B
  have hS : va_S A s.heap s.heap [] := va_S.rf
  have hfw : ∀ w ∈ u_ws RX1 TX1 9, w ∈ wsY_key := by decide +kernel
  refine lv_aload_n hx hb dY_key_0 rfl (lv_at hl 0 rfl) ?_
  refine lv_iload_n hx hb dY_key_1 rfl (lv_at hl 1 rfl) ?_
  refine xcall_i (ws := (yW G C u)) (wc := (yW G C u)) (wr := []) (w1 := (yW G C u)) (v := (yp_wrongEntry u a)) [0, 1, 2, 3, 4, 5, 6, 7] [] (va_runV (As := [.int a]) (rest := []) ⟨hx, hb, hml, hown, hts⟩ (yc_wrongEntry l dC dI G C _ u a hn) (cwV 1 hts gY_key_Y_wrongEntry rfl rfl rfl (by decide +kernel) ⟨Nat.le_of_ble_eq_true rfl, Nat.le_of_ble_eq_true rfl⟩) (xpreV (q0 := 0) (ci := 1) (qc := (RX1, TX1, 9)) hK hP hD rfl rfl) rfl rfl hl.1 rfl (lv_room (Nat.le_of_ble_eq_true rfl)) dY_key_2 ⟨Nat.zero_le _, Nat.zero_le _⟩) hP hD hS hA rfl rfl (by decide) (by decide) (fun H locs hP hD hS => ?_)
  have hP : va_P (dC, dI) vwCl (yW G C u) H := hP
  have hD : va_D A (yW G C u) := hD
  refine lv_if_ne (tgt := 17) hx hb dY_key_5 rfl (fun c5 => ?_) (fun c5 => ?_)
  · refine lv_lconst (v := 0) hx hb dY_key_17 (by decide) ?_
    have e9 : yp_key u a = 0 := by unfold yp_key; rw [if_neg c5]
    exact W.eq (congrArg (fun z => F0 m 18 ls [.long z]) e9.symm) (kk _ _ _ _ dY_key_18 hP hD hS)
  · refine lv_aload_n hx hb dY_key_8 rfl (lv_at hl 0 rfl) ?_
    refine va_get (D := (dC, dI)) (ci := 1) (v := .ref (G 5)) (C := RX1) (T := TX1) (N := 9) hx hb hts hfw hown hK hP 0 rfl rfl 6 (by decide) (hts (.fieldLink RX1 24 "MeldingHeapsModel" "keys" "[J") (by decide +kernel)) (fun _ h9 => h9) rfl dY_key_9 ?_
    refine lv_iload_n hx hb dY_key_12 rfl (lv_at hl 1 rfl) ?_
    refine va_lald (f := (xky u)) hx hb hK hP 5 4 rfl rfl ((yin_wE hn c5).1) dY_key_13 ?_
    refine lv_goto (tgt := 18) hx hb dY_key_14 rfl ?_
    have e9 : yp_key u a = ((xky u) (a).toNatClampNeg) := by unfold yp_key; rw [if_pos c5]
    exact W.eq (congrArg (fun z => F0 m 18 ls [.long z]) e9.symm) (kk _ _ _ _ dY_key_18 hP hD hS)
theorem yc_key (l : Launch) (dC : Nat → ClassId) (dI : Nat → Nat → Nat) (G : Nat → Nat) (C : Nat → ClassId) (sz : Nat) (u : xS) (a : Int32) (hn : xn u ≤ 160) : xMl l yY_key wsY_key (xR 1 21) dC dI (yT C) [.ref (G 0), .int a] (yW G C u) (yW G C u) (yp_key u a) sz :=
  xmet_l (by decide) rfl (Nat.le_of_ble_eq_true rfl) rfl (fun p e s m args below meth c Q A ls B hK hA hP hD hl kk => yb_key hn B hK hA hP hD hl kk)
def yp_value (u : xS) (a : Int32) : Int32 :=
  (if (yp_wrongEntry u a) = 0 then
    ((xvl u) (a).toNatClampNeg)
  else 0)
set_option maxHeartbeats 4000000 in
set_option maxRecDepth 100000 in
theorem yb_value {p : Program} {l : Launch} {e : Env} {s : State} {m : MethodId} {args : Array Value} {below : List Frame} {meth : Method} {c : Code} {Q : State → Prop} {A : Nat → Prop} {ls : Array Slot} {dC : Nat → ClassId} {dI : Nat → Nat → Nat} {G : Nat → Nat} {C : Nat → ClassId} {u : xS} {a : Int32} (hn : xn u ≤ 160) (B : CallFix p m c cY_value 2 s args wsY_value RX1) (hK : va_K (dC, dI) vwCl (yT C) s) (hA : ∀ q : Nat, s.heap.size ≤ q → A q) (hP : va_P (dC, dI) vwCl (yW G C u) s.heap) (hD : va_D A (yW G C u)) (hl : lv_has ls 2 [(0, .ref (G 0)), (1, .int a)]) (kk : (∀ (H : Heap) (locs : List Loc) (pc : Nat) (ls : Array Slot), decode cY_value pc = .ok (.ireturn, 1) → va_P (dC, dI) vwCl (yW G C u) H → va_D A (yW G C u) → va_S A s.heap H locs → W p l e (xR 1 21) s m args below meth c H locs 0 0 Q (F0 m pc ls [.int (yp_value u a)]))) : W p l e (xR 1 21) s m args below meth c s.heap [] 0 0 Q (F0 m 0 ls []) := by
  obtain ⟨hx, hb, hml, hown, hts⟩ := B
  have hS : va_S A s.heap s.heap [] := va_S.rf
  have hfw : ∀ w ∈ u_ws RX1 TX1 9, w ∈ wsY_value := by decide +kernel
  refine lv_aload_n hx hb dY_value_0 rfl (lv_at hl 0 rfl) ?_
  refine lv_iload_n hx hb dY_value_1 rfl (lv_at hl 1 rfl) ?_
  refine xcall_i (ws := (yW G C u)) (wc := (yW G C u)) (wr := []) (w1 := (yW G C u)) (v := (yp_wrongEntry u a)) [0, 1, 2, 3, 4, 5, 6, 7] [] (va_runV (As := [.int a]) (rest := []) ⟨hx, hb, hml, hown, hts⟩ (yc_wrongEntry l dC dI G C _ u a hn) (cwV 1 hts gY_value_Y_wrongEntry rfl rfl rfl (by decide +kernel) ⟨Nat.le_of_ble_eq_true rfl, Nat.le_of_ble_eq_true rfl⟩) (xpreV (q0 := 0) (ci := 1) (qc := (RX1, TX1, 9)) hK hP hD rfl rfl) rfl rfl hl.1 rfl (lv_room (Nat.le_of_ble_eq_true rfl)) dY_value_2 ⟨Nat.zero_le _, Nat.zero_le _⟩) hP hD hS hA rfl rfl (by decide) (by decide) (fun H locs hP hD hS => ?_)
  have hP : va_P (dC, dI) vwCl (yW G C u) H := hP
  have hD : va_D A (yW G C u) := hD
  refine lv_if_ne (tgt := 17) hx hb dY_value_5 rfl (fun c5 => ?_) (fun c5 => ?_)
  · refine lv_iconst (v := 0) hx hb dY_value_17 (by decide) ?_
    have e9 : yp_value u a = 0 := by unfold yp_value; rw [if_neg c5]
    exact W.eq (congrArg (fun z => F0 m 18 ls [.int z]) e9.symm) (kk _ _ _ _ dY_value_18 hP hD hS)
  · refine lv_aload_n hx hb dY_value_8 rfl (lv_at hl 0 rfl) ?_
    refine va_get (D := (dC, dI)) (ci := 1) (v := .ref (G 6)) (C := RX1) (T := TX1) (N := 9) hx hb hts hfw hown hK hP 0 rfl rfl 7 (by decide) (hts (.fieldLink RX1 27 "MeldingHeapsModel" "values" "[I") (by decide +kernel)) (fun _ h9 => h9) rfl dY_value_9 ?_
    refine lv_iload_n hx hb dY_value_12 rfl (lv_at hl 1 rfl) ?_
    refine va_iald (f := (xvl u)) hx hb hK hP 6 5 rfl rfl ((yin_wE hn c5).1) dY_value_13 ?_
    refine lv_goto (tgt := 18) hx hb dY_value_14 rfl ?_
    have e9 : yp_value u a = ((xvl u) (a).toNatClampNeg) := by unfold yp_value; rw [if_pos c5]
    exact W.eq (congrArg (fun z => F0 m 18 ls [.int z]) e9.symm) (kk _ _ _ _ dY_value_18 hP hD hS)
theorem yc_value (l : Launch) (dC : Nat → ClassId) (dI : Nat → Nat → Nat) (G : Nat → Nat) (C : Nat → ClassId) (sz : Nat) (u : xS) (a : Int32) (hn : xn u ≤ 160) : xMi l yY_value wsY_value (xR 1 21) dC dI (yT C) [.ref (G 0), .int a] (yW G C u) (yW G C u) (yp_value u a) sz :=
  xmet_i (by decide) rfl rfl (Nat.le_of_ble_eq_true rfl) rfl (fun p e s m args below meth c Q A ls B hK hA hP hD hl kk => yb_value hn B hK hA hP hD hl kk)
def yp_owner (u : xS) (a : Int32) : Int32 :=
  (if (yp_wrongEntry u a) = 0 then
    ((xow u) (a).toNatClampNeg)
  else (yp_wrongEntry u a))
set_option maxHeartbeats 4000000 in
set_option maxRecDepth 100000 in
theorem yb_owner {p : Program} {l : Launch} {e : Env} {s : State} {m : MethodId} {args : Array Value} {below : List Frame} {meth : Method} {c : Code} {Q : State → Prop} {A : Nat → Prop} {ls : Array Slot} {dC : Nat → ClassId} {dI : Nat → Nat → Nat} {G : Nat → Nat} {C : Nat → ClassId} {u : xS} {a : Int32} (hn : xn u ≤ 160) (B : CallFix p m c cY_owner 3 s args wsY_owner RX1) (hK : va_K (dC, dI) vwCl (yT C) s) (hA : ∀ q : Nat, s.heap.size ≤ q → A q) (hP : va_P (dC, dI) vwCl (yW G C u) s.heap) (hD : va_D A (yW G C u)) (hl : lv_has ls 3 [(0, .ref (G 0)), (1, .int a)]) (kk : (∀ (H : Heap) (locs : List Loc) (pc : Nat) (ls : Array Slot), decode cY_owner pc = .ok (.ireturn, 1) → va_P (dC, dI) vwCl (yW G C u) H → va_D A (yW G C u) → va_S A s.heap H locs → W p l e (xR 1 21) s m args below meth c H locs 0 0 Q (F0 m pc ls [.int (yp_owner u a)]))) : W p l e (xR 1 21) s m args below meth c s.heap [] 0 0 Q (F0 m 0 ls []) := by
  obtain ⟨hx, hb, hml, hown, hts⟩ := B
  have hS : va_S A s.heap s.heap [] := va_S.rf
  have hfw : ∀ w ∈ u_ws RX1 TX1 9, w ∈ wsY_owner := by decide +kernel
  refine lv_aload_n hx hb dY_owner_0 rfl (lv_at hl 0 rfl) ?_
  refine lv_iload_n hx hb dY_owner_1 rfl (lv_at hl 1 rfl) ?_
  refine xcall_i (ws := (yW G C u)) (wc := (yW G C u)) (wr := []) (w1 := (yW G C u)) (v := (yp_wrongEntry u a)) [0, 1, 2, 3, 4, 5, 6, 7] [] (va_runV (As := [.int a]) (rest := []) ⟨hx, hb, hml, hown, hts⟩ (yc_wrongEntry l dC dI G C _ u a hn) (cwV 1 hts gY_owner_Y_wrongEntry rfl rfl rfl (by decide +kernel) ⟨Nat.le_of_ble_eq_true rfl, Nat.le_of_ble_eq_true rfl⟩) (xpreV (q0 := 0) (ci := 1) (qc := (RX1, TX1, 9)) hK hP hD rfl rfl) rfl rfl hl.1 rfl (lv_room (Nat.le_of_ble_eq_true rfl)) dY_owner_2 ⟨Nat.zero_le _, Nat.zero_le _⟩) hP hD hS hA rfl rfl (by decide) (by decide) (fun H locs hP hD hS => ?_)
  have hP : va_P (dC, dI) vwCl (yW G C u) H := hP
  have hD : va_D A (yW G C u) := hD
  refine lv_istore_n (lv' := [(2, .int (yp_wrongEntry u a)), (0, .ref (G 0)), (1, .int a)]) hx hb dY_owner_5 rfl hl (by decide) rfl (fun ls hl => ?_)
  refine lv_iload_n hx hb dY_owner_6 rfl (lv_at hl 0 rfl) ?_
  refine lv_if_eq (tgt := 14) hx hb dY_owner_7 rfl (fun c7 => ?_) (fun c7 => ?_)
  · refine lv_aload_n hx hb dY_owner_14 rfl (lv_at hl 1 rfl) ?_
    refine va_get (D := (dC, dI)) (ci := 1) (v := .ref (G 7)) (C := RX1) (T := TX1) (N := 9) hx hb hts hfw hown hK hP 0 rfl rfl 8 (by decide) (hts (.fieldLink RX1 30 "MeldingHeapsModel" "homes" "[I") (by decide +kernel)) (fun _ h9 => h9) rfl dY_owner_15 ?_
    refine lv_iload_n hx hb dY_owner_18 rfl (lv_at hl 2 rfl) ?_
    refine va_iald (f := (xow u)) hx hb hK hP 7 6 rfl rfl ((yin_wE hn c7).1) dY_owner_19 ?_
    have e9 : yp_owner u a = ((xow u) (a).toNatClampNeg) := by unfold yp_owner; rw [if_pos c7]
    exact W.eq (congrArg (fun z => F0 m 20 ls [.int z]) e9.symm) (kk _ _ _ _ dY_owner_20 hP hD hS)
  · refine lv_iload_n hx hb dY_owner_10 rfl (lv_at hl 0 rfl) ?_
    refine lv_goto (tgt := 20) hx hb dY_owner_11 rfl ?_
    have e9 : yp_owner u a = (yp_wrongEntry u a) := by unfold yp_owner; rw [if_neg c7]
    exact W.eq (congrArg (fun z => F0 m 20 ls [.int z]) e9.symm) (kk _ _ _ _ dY_owner_20 hP hD hS)
theorem yc_owner (l : Launch) (dC : Nat → ClassId) (dI : Nat → Nat → Nat) (G : Nat → Nat) (C : Nat → ClassId) (sz : Nat) (u : xS) (a : Int32) (hn : xn u ≤ 160) : xMi l yY_owner wsY_owner (xR 1 21) dC dI (yT C) [.ref (G 0), .int a] (yW G C u) (yW G C u) (yp_owner u a) sz :=
  xmet_i (by decide) rfl rfl (Nat.le_of_ble_eq_true rfl) rfl (fun p e s m args below meth c Q A ls B hK hA hP hD hl kk => yb_owner hn B hK hA hP hD hl kk)
def yp_before (u : xS) (a : Int32) : Int32 :=
  (if (yp_wrongEntry u a) = 0 then
    (yp_rank u a)
  else (yp_wrongEntry u a))
set_option maxHeartbeats 4000000 in
set_option maxRecDepth 100000 in
theorem yb_before {p : Program} {l : Launch} {e : Env} {s : State} {m : MethodId} {args : Array Value} {below : List Frame} {meth : Method} {c : Code} {Q : State → Prop} {A : Nat → Prop} {ls : Array Slot} {dC : Nat → ClassId} {dI : Nat → Nat → Nat} {G : Nat → Nat} {C : Nat → ClassId} {u : xS} {a : Int32} (hn : xn u ≤ 160) (ho : ∀ j : Nat, j < xn u → xow u j = -1 ∨ vp_in (xow u j) 12) (B : CallFix p m c cY_before 3 s args wsY_before RX1) (hK : va_K (dC, dI) vwCl (yT C) s) (hA : ∀ q : Nat, s.heap.size ≤ q → A q) (hP : va_P (dC, dI) vwCl (yW G C u) s.heap) (hD : va_D A (yW G C u)) (hl : lv_has ls 3 [(0, .ref (G 0)), (1, .int a)]) (kk : (∀ (H : Heap) (locs : List Loc) (pc : Nat) (ls : Array Slot), decode cY_before pc = .ok (.ireturn, 1) → va_P (dC, dI) vwCl (yW G C u) H → va_D A (yW G C u) → va_S A s.heap H locs → W p l e (xR 2 52) s m args below meth c H locs 0 0 Q (F0 m pc ls [.int (yp_before u a)]))) : W p l e (xR 2 52) s m args below meth c s.heap [] 0 0 Q (F0 m 0 ls []) := by
  obtain ⟨hx, hb, hml, hown, hts⟩ := B
  have hS : va_S A s.heap s.heap [] := va_S.rf
  refine lv_aload_n hx hb dY_before_0 rfl (lv_at hl 0 rfl) ?_
  refine lv_iload_n hx hb dY_before_1 rfl (lv_at hl 1 rfl) ?_
  refine xcall_i (ws := (yW G C u)) (wc := (yW G C u)) (wr := []) (w1 := (yW G C u)) (v := (yp_wrongEntry u a)) [0, 1, 2, 3, 4, 5, 6, 7] [] (va_runV (As := [.int a]) (rest := []) ⟨hx, hb, hml, hown, hts⟩ (yc_wrongEntry l dC dI G C _ u a hn) (cwV 1 hts gY_before_Y_wrongEntry rfl rfl rfl (by decide +kernel) ⟨Nat.le_of_ble_eq_true rfl, Nat.le_of_ble_eq_true rfl⟩) (xpreV (q0 := 0) (ci := 1) (qc := (RX1, TX1, 9)) hK hP hD rfl rfl) rfl rfl hl.1 rfl (lv_room (Nat.le_of_ble_eq_true rfl)) dY_before_2 ⟨Nat.zero_le _, Nat.zero_le _⟩) hP hD hS hA rfl rfl (by decide) (by decide) (fun H locs hP hD hS => ?_)
  have hP : va_P (dC, dI) vwCl (yW G C u) H := hP
  have hD : va_D A (yW G C u) := hD
  refine lv_istore_n (lv' := [(2, .int (yp_wrongEntry u a)), (0, .ref (G 0)), (1, .int a)]) hx hb dY_before_5 rfl hl (by decide) rfl (fun ls hl => ?_)
  refine lv_iload_n hx hb dY_before_6 rfl (lv_at hl 0 rfl) ?_
  refine lv_if_eq (tgt := 14) hx hb dY_before_7 rfl (fun c7 => ?_) (fun c7 => ?_)
  · refine lv_aload_n hx hb dY_before_14 rfl (lv_at hl 1 rfl) ?_
    refine lv_iload_n hx hb dY_before_15 rfl (lv_at hl 2 rfl) ?_
    refine xcall_i (ws := (yW G C u)) (wc := (yW G C u)) (wr := []) (w1 := (yW G C u)) (v := (yp_rank u a)) [0, 1, 2, 3, 4, 5, 6, 7] [] (va_runV (As := [.int a]) (rest := []) ⟨hx, hb, hml, hown, hts⟩ (yc_rank l dC dI G C _ u a hn (yin_wE hn c7).1 (yin_own hn ho c7)) (cwV 1 hts gY_before_Y_rank rfl rfl rfl (by decide +kernel) ⟨Nat.le_of_ble_eq_true rfl, Nat.le_of_ble_eq_true rfl⟩) (xpreV (q0 := 0) (ci := 1) (qc := (RX1, TX1, 9)) hK hP hD rfl rfl) rfl rfl hl.1 rfl (lv_room (Nat.le_of_ble_eq_true rfl)) dY_before_16 ⟨Nat.zero_le _, Nat.zero_le _⟩) hP hD hS hA rfl rfl (by decide) (by decide) (fun H locs hP hD hS => ?_)
    have hP : va_P (dC, dI) vwCl (yW G C u) H := hP
    have hD : va_D A (yW G C u) := hD
    have e9 : yp_before u a = (yp_rank u a) := by unfold yp_before; rw [if_pos c7]
    exact W.eq (congrArg (fun z => F0 m 19 ls [.int z]) e9.symm) (kk _ _ _ _ dY_before_19 hP hD hS)
  · refine lv_iload_n hx hb dY_before_10 rfl (lv_at hl 0 rfl) ?_
    refine lv_goto (tgt := 19) hx hb dY_before_11 rfl ?_
    have e9 : yp_before u a = (yp_wrongEntry u a) := by unfold yp_before; rw [if_neg c7]
    exact W.eq (congrArg (fun z => F0 m 19 ls [.int z]) e9.symm) (kk _ _ _ _ dY_before_19 hP hD hS)
theorem yc_before (l : Launch) (dC : Nat → ClassId) (dI : Nat → Nat → Nat) (G : Nat → Nat) (C : Nat → ClassId) (sz : Nat) (u : xS) (a : Int32) (hn : xn u ≤ 160) (ho : ∀ j : Nat, j < xn u → xow u j = -1 ∨ vp_in (xow u j) 12) : xMi l yY_before wsY_before (xR 2 52) dC dI (yT C) [.ref (G 0), .int a] (yW G C u) (yW G C u) (yp_before u a) sz :=
  xmet_i (by decide) rfl rfl (Nat.le_of_ble_eq_true rfl) rfl (fun p e s m args below meth c Q A ls B hK hA hP hD hl kk => yb_before hn ho B hK hA hP hD hl kk)
end
section
theorem yxn_leave (u : xS) (h a : Int32) : xn (yq_leave u h a) = xn u := by
  unfold yq_leave
  split <;> rfl
def yq_drainL (a b : Int32) : Nat → xS → xS × Nat
  | 0, u => (u, 0)
  | d + 1, u =>
    if (yp_extreme u a 1) < 0 then (u, 0)
    else if (yp_isBelow u b (xky u (yp_extreme u a 1).toNatClampNeg)) = 0 then ((yq_drainL a b d (sOw (yq_leave u a (yp_extreme u a 1)) (upd (xow (yq_leave u a (yp_extreme u a 1))) ((yp_extreme u a 1)).toNatClampNeg b))).1, (yq_drainL a b d (sOw (yq_leave u a (yp_extreme u a 1)) (upd (xow (yq_leave u a (yp_extreme u a 1))) ((yp_extreme u a 1)).toNatClampNeg b))).2 + 1)
    else (u, 0)
set_option maxHeartbeats 4000000 in
set_option maxRecDepth 100000 in
theorem yl_drain {p : Program} {l : Launch} {e : Env} {s : State} {m : MethodId} {args : Array Value} {below : List Frame} {meth : Method} {c : Code} {Q : State → Prop} {A : Nat → Prop} {dC : Nat → ClassId} {dI : Nat → Nat → Nat} {G : Nat → Nat} {C : Nat → ClassId} {uT : xS} {rT : Nat} {a b g : Int32} (ha2 : vp_in a 12) (hb2 : vp_in b 12) (B : CallFix p m c cY_drain 8 s args wsY_drain RX1) (hK : va_K (dC, dI) vwCl (yT C) s) (hA : ∀ q : Nat, s.heap.size ≤ q → A q) (kk : ∀ (H : Heap) (locs : List Loc) (ls : Array Slot), va_P (dC, dI) vwCl (yW G C uT) H → va_D A (yW G C uT) → va_S A s.heap H locs → lv_has ls 8 [(5, .int (nI rT)), (0, .ref (G 0)), (1, .int a), (2, .int b), (3, .int g)] → W p l e (xR 2 52) s m args below meth c H locs 0 0 Q (F0 m 94 ls [])) :
    ∀ (d i : Nat) (u : xS) (H : Heap) (locs : List Loc) (ls : Array Slot), g.toNatClampNeg - i = d → i ≤ g.toNatClampNeg → xn u ≤ 160 → (yq_drainL a b d u).1 = uT → i + (yq_drainL a b d u).2 = rT → va_P (dC, dI) vwCl (yW G C u) H → va_D A (yW G C u) → va_S A s.heap H locs → lv_has ls 8 [(5, .int (nI i)), (6, .int 1), (0, .ref (G 0)), (1, .int a), (2, .int b), (3, .int g)] → W p l e (xR 2 52) s m args below meth c H locs 0 0 Q (F0 m 22 ls []) := by
  obtain ⟨hx, hb, hml, hown, hts⟩ := B
  have hfw : ∀ w ∈ u_ws RX1 TX1 9, w ∈ wsY_drain := by decide +kernel
  have hmo := cl_b g
  intro d
  induction d using Nat.strongRecOn with
  | ind d ih =>
    intro i u H locs ls hd hi0 hn hq hr hP hD hS hl
    refine lv_iload hx hb dY_drain_22 (lv_at hl 1 rfl) ?_
    refine lv_if_eq (tgt := 94) hx hb dY_drain_24 rfl (fun q => absurd q (by decide)) (fun _ => ?_)
    refine lv_iload hx hb dY_drain_27 (lv_at hl 0 rfl) ?_
    refine lv_iload_n hx hb dY_drain_29 rfl (lv_at hl 5 rfl) ?_
    refine lv_icmp_ge (tgt := 94) hx hb dY_drain_30 rfl (fun c30 => ?_) (fun c30 => ?_)
    · have hz : d = 0 := by have := cl_le c30 (by omega); omega
      subst hz
      rw [yq_drainL] at hq hr
      have hP : va_P (dC, dI) vwCl (yW G C uT) H := by rw [← hq]; exact hP
      have hD : va_D A (yW G C uT) := by rw [← hq]; exact hD
      have hl : lv_has ls 8 [(5, .int (nI rT)), (0, .ref (G 0)), (1, .int a), (2, .int b), (3, .int g)] := by rw [← hr]; exact lv_sub hl [0, 2, 3, 4, 5] rfl
      exact kk _ _ _ hP hD hS hl
    · have hi : i < g.toNatClampNeg := cl_lt c30 (by omega)
      refine lv_aload_n hx hb dY_drain_33 rfl (lv_at hl 2 rfl) ?_
      refine lv_iload_n hx hb dY_drain_34 rfl (lv_at hl 3 rfl) ?_
      refine lv_iconst (v := 1) hx hb dY_drain_35 (by decide) ?_
      refine xcall_i (ws := (yW G C u)) (wc := (yW G C u)) (wr := []) (w1 := (yW G C u)) (v := (yp_extreme u a 1)) [0, 1, 2, 3, 4, 5, 6, 7] [] (va_runV (As := [.int a, .int 1]) (rest := []) ⟨hx, hb, hml, hown, hts⟩ (yc_extreme l dC dI G C _ u a 1 hn ha2) (cwV 2 hts gY_drain_Y_extreme rfl rfl rfl (by decide +kernel) ⟨Nat.le_of_ble_eq_true rfl, Nat.le_of_ble_eq_true rfl⟩) (xpreV (q0 := 0) (ci := 1) (qc := (RX1, TX1, 9)) hK hP hD rfl rfl) rfl rfl hl.1 rfl (lv_room (Nat.le_of_ble_eq_true rfl)) dY_drain_36 ⟨Nat.zero_le _, Nat.zero_le _⟩) hP hD hS hA rfl rfl (by decide) (by decide) (fun H locs hP hD hS => ?_)
      have hP : va_P (dC, dI) vwCl (yW G C u) H := hP
      have hD : va_D A (yW G C u) := hD
      refine lv_istore (lv' := [(7, .int (yp_extreme u a 1)), (5, .int (nI i)), (6, .int 1), (0, .ref (G 0)), (1, .int a), (2, .int b), (3, .int g)]) hx hb dY_drain_39 hl (by decide) rfl (fun ls hl => ?_)
      refine lv_iload hx hb dY_drain_41 (lv_at hl 0 rfl) ?_
      refine lv_if_lt (tgt := 65) hx hb dY_drain_43 rfl (fun c43 => ?_) (fun c43 => ?_)
      · refine lv_iconst (v := 0) hx hb dY_drain_65 (by decide) ?_
        refine lv_istore (lv' := [(6, .int 0), (7, .int (yp_extreme u a 1)), (5, .int (nI i)), (0, .ref (G 0)), (1, .int a), (2, .int b), (3, .int g)]) hx hb dY_drain_66 hl (by decide) rfl (fun ls hl => ?_)
        refine lv_iload hx hb dY_drain_68 (lv_at hl 0 rfl) ?_
        refine lv_if_eq (tgt := 91) hx hb dY_drain_70 rfl (fun _ => ?_) (fun q => absurd rfl q)
        refine lv_goto (tgt := 22) hx hb dY_drain_91 rfl ?_
        refine lv_iload hx hb dY_drain_22 (lv_at hl 0 rfl) ?_
        refine lv_if_eq (tgt := 94) hx hb dY_drain_24 rfl (fun _ => ?_) (fun q => absurd rfl q)
        obtain ⟨d, rfl⟩ : ∃ d2, d = d2 + 1 := ⟨d - 1, by omega⟩
        rw [yq_drainL, if_pos c43] at hq hr
        have hP : va_P (dC, dI) vwCl (yW G C uT) H := by rw [← hq]; exact hP
        have hD : va_D A (yW G C uT) := by rw [← hq]; exact hD
        have hl : lv_has ls 8 [(5, .int (nI rT)), (0, .ref (G 0)), (1, .int a), (2, .int b), (3, .int g)] := by rw [← hr]; exact lv_sub hl [2, 3, 4, 5, 6] rfl
        exact kk _ _ _ hP hD hS hl
      · refine lv_aload_n hx hb dY_drain_46 rfl (lv_at hl 3 rfl) ?_
        refine lv_iload_n hx hb dY_drain_47 rfl (lv_at hl 5 rfl) ?_
        refine lv_aload_n hx hb dY_drain_48 rfl (lv_at hl 3 rfl) ?_
        refine va_get (D := (dC, dI)) (ci := 1) (v := .ref (G 5)) (C := RX1) (T := TX1) (N := 9) hx hb hts hfw hown hK hP 0 rfl rfl 6 (by decide) (hts (.fieldLink RX1 24 "MeldingHeapsModel" "keys" "[J") (by decide +kernel)) (fun _ h9 => h9) rfl dY_drain_49 ?_
        refine lv_iload hx hb dY_drain_52 (lv_at hl 0 rfl) ?_
        refine va_lald (f := (xky u)) hx hb hK hP 5 4 rfl rfl (yex_vp hn c43) dY_drain_54 ?_
        refine xcall_i (ws := (yW G C u)) (wc := (yW G C u)) (wr := []) (w1 := (yW G C u)) (v := (yp_isBelow u b ((xky u) ((yp_extreme u a 1)).toNatClampNeg))) [0, 1, 2, 3, 4, 5, 6, 7] [] (va_runV (As := [.int b, .long ((xky u) ((yp_extreme u a 1)).toNatClampNeg)]) (rest := []) ⟨hx, hb, hml, hown, hts⟩ (yc_isBelow l dC dI G C _ u b ((xky u) ((yp_extreme u a 1)).toNatClampNeg) hb2) (cwV 2 hts gY_drain_Y_isBelow rfl rfl rfl (by decide +kernel) ⟨Nat.le_of_ble_eq_true rfl, Nat.le_of_ble_eq_true rfl⟩) (xpreV (q0 := 0) (ci := 1) (qc := (RX1, TX1, 9)) hK hP hD rfl rfl) rfl rfl hl.1 rfl (lv_room (Nat.le_of_ble_eq_true rfl)) dY_drain_55 ⟨Nat.zero_le _, Nat.zero_le _⟩) hP hD hS hA rfl rfl (by decide) (by decide) (fun H locs hP hD hS => ?_)
        have hP : va_P (dC, dI) vwCl (yW G C u) H := hP
        have hD : va_D A (yW G C u) := hD
        refine lv_if_ne (tgt := 65) hx hb dY_drain_58 rfl (fun c58 => ?_) (fun c58 => ?_)
        · refine lv_iconst (v := 0) hx hb dY_drain_65 (by decide) ?_
          refine lv_istore (lv' := [(6, .int 0), (7, .int (yp_extreme u a 1)), (5, .int (nI i)), (0, .ref (G 0)), (1, .int a), (2, .int b), (3, .int g)]) hx hb dY_drain_66 hl (by decide) rfl (fun ls hl => ?_)
          refine lv_iload hx hb dY_drain_68 (lv_at hl 0 rfl) ?_
          refine lv_if_eq (tgt := 91) hx hb dY_drain_70 rfl (fun _ => ?_) (fun q => absurd rfl q)
          refine lv_goto (tgt := 22) hx hb dY_drain_91 rfl ?_
          refine lv_iload hx hb dY_drain_22 (lv_at hl 0 rfl) ?_
          refine lv_if_eq (tgt := 94) hx hb dY_drain_24 rfl (fun _ => ?_) (fun q => absurd rfl q)
          obtain ⟨d, rfl⟩ : ∃ d2, d = d2 + 1 := ⟨d - 1, by omega⟩
          rw [yq_drainL, if_neg c43, if_neg c58] at hq hr
          have hP : va_P (dC, dI) vwCl (yW G C uT) H := by rw [← hq]; exact hP
          have hD : va_D A (yW G C uT) := by rw [← hq]; exact hD
          have hl : lv_has ls 8 [(5, .int (nI rT)), (0, .ref (G 0)), (1, .int a), (2, .int b), (3, .int g)] := by rw [← hr]; exact lv_sub hl [2, 3, 4, 5, 6] rfl
          exact kk _ _ _ hP hD hS hl
        · refine lv_iconst (v := 1) hx hb dY_drain_61 (by decide) ?_
          refine lv_goto (tgt := 66) hx hb dY_drain_62 rfl ?_
          refine lv_istore (lv' := [(6, .int 1), (7, .int (yp_extreme u a 1)), (5, .int (nI i)), (0, .ref (G 0)), (1, .int a), (2, .int b), (3, .int g)]) hx hb dY_drain_66 hl (by decide) rfl (fun ls hl => ?_)
          refine lv_iload hx hb dY_drain_68 (lv_at hl 0 rfl) ?_
          refine lv_if_eq (tgt := 91) hx hb dY_drain_70 rfl (fun q => absurd q (by decide)) (fun _ => ?_)
          refine lv_aload_n hx hb dY_drain_73 rfl (lv_at hl 3 rfl) ?_
          refine lv_iload_n hx hb dY_drain_74 rfl (lv_at hl 4 rfl) ?_
          refine lv_iload hx hb dY_drain_75 (lv_at hl 1 rfl) ?_
          refine xcall_v (ws := (yW G C u)) (wc := (yW G C u)) (wr := []) (w1 := (yW G C (yq_leave u a (yp_extreme u a 1)))) [0, 1, 2, 3, 4, 5, 6, 7] [] (va_runV (As := [.int a, .int (yp_extreme u a 1)]) (rest := []) ⟨hx, hb, hml, hown, hts⟩ (yc_leave l dC dI G C _ u a (yp_extreme u a 1) ha2 (yex_vp hn c43)) (cwV 2 hts gY_drain_Y_leave rfl rfl rfl (by decide +kernel) ⟨Nat.le_of_ble_eq_true rfl, Nat.le_of_ble_eq_true rfl⟩) (xpreV (q0 := 0) (ci := 1) (qc := (RX1, TX1, 9)) hK hP hD rfl rfl) rfl rfl hl.1 rfl (lv_room (Nat.le_of_ble_eq_true rfl)) dY_drain_77 ⟨Nat.zero_le _, Nat.zero_le _⟩) hP hD hS hA rfl rfl (by decide) (by decide) (fun H locs hP hD hS => ?_)
          have hP : va_P (dC, dI) vwCl (yW G C (yq_leave u a (yp_extreme u a 1))) H := hP
          have hD : va_D A (yW G C (yq_leave u a (yp_extreme u a 1))) := hD
          refine lv_aload_n hx hb dY_drain_80 rfl (lv_at hl 3 rfl) ?_
          refine va_get (D := (dC, dI)) (ci := 1) (v := .ref (G 7)) (C := RX1) (T := TX1) (N := 9) hx hb hts hfw hown hK hP 0 rfl rfl 8 (by decide) (hts (.fieldLink RX1 30 "MeldingHeapsModel" "homes" "[I") (by decide +kernel)) (fun _ h9 => h9) rfl dY_drain_81 ?_
          refine lv_iload hx hb dY_drain_84 (lv_at hl 1 rfl) ?_
          refine lv_iload_n hx hb dY_drain_86 rfl (lv_at hl 5 rfl) ?_
          refine va_iast (f := (xow (yq_leave u a (yp_extreme u a 1)))) hx hb hK hP hD hS 7 6 rfl rfl (yex_vp hn c43) dY_drain_87 (fun H locs hP hD hS => ?_)
          have hP : va_P (dC, dI) vwCl (yW G C (sOw (yq_leave u a (yp_extreme u a 1)) (upd (xow (yq_leave u a (yp_extreme u a 1))) ((yp_extreme u a 1)).toNatClampNeg b))) H := hP
          have hD : va_D A (yW G C (sOw (yq_leave u a (yp_extreme u a 1)) (upd (xow (yq_leave u a (yp_extreme u a 1))) ((yp_extreme u a 1)).toNatClampNeg b))) := hD
          refine lv_iinc (k := 2) (v := (nI (i + 1))) (lv' := [(5, .int (nI (i + 1))), (6, .int 1), (7, .int (yp_extreme u a 1)), (0, .ref (G 0)), (1, .int a), (2, .int b), (3, .int g)]) hx hb dY_drain_88 hl rfl (xinc _) (by decide) rfl (fun ls hl => ?_)
          refine lv_goto (tgt := 22) hx hb dY_drain_91 rfl ?_
          obtain ⟨d, rfl⟩ : ∃ d2, d = d2 + 1 := ⟨d - 1, by omega⟩
          rw [yq_drainL, if_neg c43, if_pos c58] at hq hr
          have hr2 : i + ((yq_drainL a b d (sOw (yq_leave u a (yp_extreme u a 1)) (upd (xow (yq_leave u a (yp_extreme u a 1))) ((yp_extreme u a 1)).toNatClampNeg b))).2 + 1) = rT := hr
          exact ih d (by omega) (i + 1) (sOw (yq_leave u a (yp_extreme u a 1)) (upd (xow (yq_leave u a (yp_extreme u a 1))) ((yp_extreme u a 1)).toNatClampNeg b)) H locs ls (by omega) (by omega) (by show xn (yq_leave _ _ _) ≤ 160; rw [yxn_leave]; exact hn) hq (by omega) hP hD hS (lv_sub hl [0, 1, 3, 4, 5, 6] rfl)
def yp_drain (u : xS) (a b g : Int32) : Int32 := if (yp_wrongPair u a b) = 0 then nI (yq_drainL a b g.toNatClampNeg u).2 else (yp_wrongPair u a b)
def yq_drain (u : xS) (a b g : Int32) : xS := if (yp_wrongPair u a b) = 0 then (yq_drainL a b g.toNatClampNeg u).1 else u
set_option maxHeartbeats 4000000 in
set_option maxRecDepth 100000 in
theorem yb_drain {p : Program} {l : Launch} {e : Env} {s : State} {m : MethodId} {args : Array Value} {below : List Frame} {meth : Method} {c : Code} {Q : State → Prop} {A : Nat → Prop} {ls : Array Slot} {dC : Nat → ClassId} {dI : Nat → Nat → Nat} {G : Nat → Nat} {C : Nat → ClassId} {u : xS} {a : Int32} {b : Int32} {g : Int32} (hm : xm u ≤ 12) (hn : xn u ≤ 160) (B : CallFix p m c cY_drain 8 s args wsY_drain RX1) (hK : va_K (dC, dI) vwCl (yT C) s) (hA : ∀ q : Nat, s.heap.size ≤ q → A q) (hP : va_P (dC, dI) vwCl (yW G C u) s.heap) (hD : va_D A (yW G C u)) (hl : lv_has ls 8 [(0, .ref (G 0)), (1, .int a), (2, .int b), (3, .int g)]) (kk : (∀ (H : Heap) (locs : List Loc) (pc : Nat) (ls : Array Slot), decode cY_drain pc = .ok (.ireturn, 1) → va_P (dC, dI) vwCl (yW G C (yq_drain u a b g)) H → va_D A (yW G C (yq_drain u a b g)) → va_S A s.heap H locs → W p l e (xR 2 52) s m args below meth c H locs 0 0 Q (F0 m pc ls [.int (yp_drain u a b g)]))) : W p l e (xR 2 52) s m args below meth c s.heap [] 0 0 Q (F0 m 0 ls []) := by
  obtain ⟨hx, hb, hml, hown, hts⟩ := B
  have hS : va_S A s.heap s.heap [] := va_S.rf
  refine lv_aload_n hx hb dY_drain_0 rfl (lv_at hl 0 rfl) ?_
  refine lv_iload_n hx hb dY_drain_1 rfl (lv_at hl 1 rfl) ?_
  refine lv_iload_n hx hb dY_drain_2 rfl (lv_at hl 2 rfl) ?_
  refine xcall_i (ws := (yW G C u)) (wc := (yW G C u)) (wr := []) (w1 := (yW G C u)) (v := (yp_wrongPair u a b)) [0, 1, 2, 3, 4, 5, 6, 7] [] (va_runV (As := [.int a, .int b]) (rest := []) ⟨hx, hb, hml, hown, hts⟩ (yc_wrongPair l dC dI G C _ u a b hm) (cwV 2 hts gY_drain_Y_wrongPair rfl rfl rfl (by decide +kernel) ⟨Nat.le_of_ble_eq_true rfl, Nat.le_of_ble_eq_true rfl⟩) (xpreV (q0 := 0) (ci := 1) (qc := (RX1, TX1, 9)) hK hP hD rfl rfl) rfl rfl hl.1 rfl (lv_room (Nat.le_of_ble_eq_true rfl)) dY_drain_3 ⟨Nat.zero_le _, Nat.zero_le _⟩) hP hD hS hA rfl rfl (by decide) (by decide) (fun H locs hP hD hS => ?_)
  have hP : va_P (dC, dI) vwCl (yW G C u) H := hP
  have hD : va_D A (yW G C u) := hD
  refine lv_istore (lv' := [(4, .int (yp_wrongPair u a b)), (0, .ref (G 0)), (1, .int a), (2, .int b), (3, .int g)]) hx hb dY_drain_6 hl (by decide) rfl (fun ls hl => ?_)
  refine lv_iload hx hb dY_drain_8 (lv_at hl 0 rfl) ?_
  refine lv_if_eq (tgt := 16) hx hb dY_drain_10 rfl (fun c10 => ?_) (fun c10 => ?_)
  · refine lv_iconst (v := 0) hx hb dY_drain_16 (by decide) ?_
    refine lv_istore (lv' := [(5, .int 0), (4, .int (yp_wrongPair u a b)), (0, .ref (G 0)), (1, .int a), (2, .int b), (3, .int g)]) hx hb dY_drain_17 hl (by decide) rfl (fun ls hl => ?_)
    refine lv_iconst (v := 1) hx hb dY_drain_19 (by decide) ?_
    refine lv_istore (lv' := [(6, .int 1), (5, .int 0), (4, .int (yp_wrongPair u a b)), (0, .ref (G 0)), (1, .int a), (2, .int b), (3, .int g)]) hx hb dY_drain_20 hl (by decide) rfl (fun ls hl => ?_)
    refine yl_drain (g := g) (uT := yq_drain u a b g) (rT := (yq_drainL a b g.toNatClampNeg u).2) (yin_wP hm c10).1 (yin_wP hm c10).2 ⟨hx, hb, hml, hown, hts⟩ hK hA (fun H locs ls hP hD hS hl => ?_) _ 0 u _ _ _ rfl (Nat.zero_le _) hn (by unfold yq_drain; rw [if_pos c10]; rfl) (Nat.zero_add _) hP hD hS (lv_sub hl [1, 0, 3, 4, 5, 6] rfl)
    refine lv_iload hx hb dY_drain_94 (lv_at hl 0 rfl) ?_
    have e9 : yp_drain u a b g = nI (yq_drainL a b g.toNatClampNeg u).2 := by unfold yp_drain; rw [if_pos c10]
    exact W.eq (congrArg (fun z => F0 m 96 ls [.int z]) e9.symm) (kk _ _ _ _ dY_drain_96 hP hD hS)
  · refine lv_iload hx hb dY_drain_13 (lv_at hl 0 rfl) ?_
    have e8 : yq_drain u a b g = u := by unfold yq_drain; rw [if_neg c10]
    have e9 : yp_drain u a b g = (yp_wrongPair u a b) := by unfold yp_drain; rw [if_neg c10]
    exact W.eq (congrArg (fun z => F0 m 15 ls [.int z]) e9.symm) (kk _ _ _ _ dY_drain_15 (by rw [e8]; exact hP) (by rw [e8]; exact hD) hS)
theorem yc_drain (l : Launch) (dC : Nat → ClassId) (dI : Nat → Nat → Nat) (G : Nat → Nat) (C : Nat → ClassId) (sz : Nat) (u : xS) (a : Int32) (b : Int32) (g : Int32) (hm : xm u ≤ 12) (hn : xn u ≤ 160) : xMi l yY_drain wsY_drain (xR 2 52) dC dI (yT C) [.ref (G 0), .int a, .int b, .int g] (yW G C u) (yW G C (yq_drain u a b g)) (yp_drain u a b g) sz :=
  xmet_i (by decide) rfl rfl (Nat.le_of_ble_eq_true rfl) rfl (fun p e s m args below meth c Q A ls B hK hA hP hD hl kk => yb_drain hm hn B hK hA hP hD hl kk)
end
section
def yu0 : xS := (0, 0, fun _ => 0, fun _ => 0, fun _ => 0, fun _ => 0, fun _ => 0, fun _ => 0, fun _ => 0)
def yGf (h0 q1 q2 q3 q4 q5 q6 q7 : Nat) : Nat → Nat := fun k => match k with
  | 0 => h0
  | 1 => q1
  | 2 => q2
  | 3 => q3
  | 4 => q4
  | 5 => q5
  | 6 => q6
  | _ => q7
def yCf (k1 k2 k3 k4 k5 k6 k7 : ClassId) : Nat → ClassId := fun k => match k with
  | 0 => k1
  | 1 => k1
  | 2 => k2
  | 3 => k3
  | 4 => k4
  | 5 => k5
  | 6 => k6
  | _ => k7
set_option maxHeartbeats 4000000 in
set_option maxRecDepth 100000 in
theorem yc_init (l : Launch) (dC : Nat → ClassId) (dI : Nat → Nat → Nat) (h0 : Nat) (sz : Nat) : Met l yY_init wsY_init ({ frames := 1, cells := 7, slots := 528, locals := 12 }) (va_Pc [.ref h0] (fun U => U.heap.size = sz ∧ va_P (dC, dI) vwCl [(h0, .inr (1, [.int 0, .null, .null, .null, .null, .int 0, .null, .null, .null]))] U.heap ∧ va_K (dC, dI) vwCl [] U ∧ va_D (fun _ => True) [(h0, .inr (1, [.int 0, .null, .null, .null, .null, .int 0, .null, .null, .null]))])) (va_Qv (fun u : (Nat → Nat) × (Nat → ClassId) => u.1 0 = h0) (fun u t => va_P (dC, dI) vwCl (yW u.1 u.2 yu0) t.heap ∧ va_K (dC, dI) vwCl (yT u.2) t ∧ va_D (va_A [(h0, .inr (1, [.int 0, .null, .null, .null, .null, .int 0, .null, .null, .null]))] sz) (yW u.1 u.2 yu0)) (va_A [(h0, .inr (1, [.int 0, .null, .null, .null, .null, .int 0, .null, .null, .null]))] sz)) 7 528 (va_A [(h0, .inr (1, [.int 0, .null, .null, .null, .null, .int 0, .null, .null, .null]))] sz) := by
  refine Met.ofW (cc := cY_init) (maxL := 1) (ret := none) (by decide) rfl ?_
  intro p e s m args below meth c s₁ B hml hv
  obtain ⟨rfl, hsz, hP, hK, hD0⟩ := hv
  have hx := B.exec
  have hb := B.bytes
  have hr := B.returns
  have hts := atoms_spec (ws := wsY_init) B.pre
  have hown : s.vm.findClass RX1 = some m.cls := findClass_of_methodNamed B.named
  have hlocks := B.notSynchronized
  have hin : meth.name = "<init>" := (name_of_methodNamed B.named B.method).1
  subst hsz
  have hD := hD0.self (sz := s.heap.size)
  generalize hAe : va_A [(h0, .inr (1, [.int 0, .null, .null, .null, .null, .int 0, .null, .null, .null]))] s.heap.size = A at hD ⊢
  have hA : ∀ q : Nat, s.heap.size ≤ q → A q := fun q h => by rw [← hAe]; exact Or.inr h
  have hS : va_S A s.heap s.heap [] := va_S.rf
  have hP : va_P (dC, dI) vwCl [(h0, .inr (1, [.int 0, .null, .null, .null, .null, .int 0, .null, .null, .null]))] s.heap := hP
  have hl := lv_entry ([.ref h0]) (n := 1) (Nat.le_of_ble_eq_true rfl)
  rw [lg_entry_eq]
  generalize (lg_sl ([.ref h0]) ++ List.replicate (1 - (lg_sl ([.ref h0])).length) Slot.unset).toArray = ls at hl ⊢
  have hl : lv_has ls 1 [(0, .ref h0)] := hl
  refine lv_aload_n hx hb dY_init_0 rfl (lv_at hl 0 rfl) ?_
  refine W.objInit hx hb hown (hts (.methodLink RX1 1 objectInit) (by decide +kernel)) (hts (.instanceMethod objectInit) (by decide +kernel)) (hts _ (List.mem_of_getElem? (i := 3) rfl)) rfl (by rw [hml]; exact hl.1) rfl dY_init_1 (Nat.le_of_ble_eq_true rfl) (Nat.le_of_ble_eq_true rfl) ?_
  refine W.eq (g2 := F0 m 4 ls []) rfl ?_
  refine lv_aload_n hx hb dY_init_4 rfl (lv_at hl 0 rfl) ?_
  refine lv_bipush (v := 12) hx hb dY_init_5 (by decide) ?_
  refine va_newa (atype := .int) (ty := .int) (n := 12) (N' := 12) (a0 := (12, .inl (fun _ => 0))) hx hb (hts (.arrayClass .int) (by decide +kernel)) rfl hK hP hD hS hA (xz_i 12) (by decide) (by decide) (by decide) (Nat.le_of_ble_eq_true rfl) (Nat.le_of_ble_eq_true rfl) dY_init_7 (fun q1 k1 H hK hP hD hS => ?_)
  have hP : va_P (dC, dI) vwCl [(h0, .inr (1, [.int 0, .null, .null, .null, .null, .int 0, .null, .null, .null])), (q1, .inl (k1, 12, .inl (fun _ => 0)))] H := hP
  have hD : va_D A [(h0, .inr (1, [.int 0, .null, .null, .null, .null, .int 0, .null, .null, .null])), (q1, .inl (k1, 12, .inl (fun _ => 0)))] := hD
  have hK : va_K (dC, dI) vwCl [(k1, .int)] s := hK
  refine W.widen (k := 1) (n := 12) (by omega) (by omega) ?_
  refine va_putF (D := (dC, dI)) (ci := 1) (v := .ref q1) (ty := .array .int) (C := RX1) (T := TX1) (N := 9) hx hb hts (by decide +kernel) tyX1 tyX1_ok nmX1 hown hK hP hD hS 0 rfl rfl 1 (by decide) (hts (.fieldLink RX1 7 "MeldingHeapsModel" "kinds" "[I") (by decide +kernel)) (fun _ h9 => h9) rfl hin rfl (by decide +kernel) rfl rfl (Nat.le_of_ble_eq_true rfl) dY_init_9 (fun H locs hP hD hS => ?_)
  have hP : va_P (dC, dI) vwCl [(h0, .inr (1, [.int 0, .ref q1, .null, .null, .null, .int 0, .null, .null, .null])), (q1, .inl (k1, 12, .inl (fun _ => 0)))] H := hP
  have hD : va_D A [(h0, .inr (1, [.int 0, .ref q1, .null, .null, .null, .int 0, .null, .null, .null])), (q1, .inl (k1, 12, .inl (fun _ => 0)))] := hD
  refine lv_aload_n hx hb dY_init_12 rfl (lv_at hl 0 rfl) ?_
  refine lv_bipush (v := 12) hx hb dY_init_13 (by decide) ?_
  refine va_newa (atype := .int) (ty := .int) (n := 12) (N' := 12) (a0 := (12, .inl (fun _ => 0))) hx hb (hts (.arrayClass .int) (by decide +kernel)) rfl hK hP hD hS hA (xz_i 12) (by decide) (by decide) (by decide) (Nat.le_of_ble_eq_true rfl) (Nat.le_of_ble_eq_true rfl) dY_init_15 (fun q2 k2 H hK hP hD hS => ?_)
  have hP : va_P (dC, dI) vwCl [(h0, .inr (1, [.int 0, .ref q1, .null, .null, .null, .int 0, .null, .null, .null])), (q1, .inl (k1, 12, .inl (fun _ => 0))), (q2, .inl (k2, 12, .inl (fun _ => 0)))] H := hP
  have hD : va_D A [(h0, .inr (1, [.int 0, .ref q1, .null, .null, .null, .int 0, .null, .null, .null])), (q1, .inl (k1, 12, .inl (fun _ => 0))), (q2, .inl (k2, 12, .inl (fun _ => 0)))] := hD
  have hK : va_K (dC, dI) vwCl [(k1, .int), (k2, .int)] s := hK
  refine W.widen (k := 2) (n := 24) (by omega) (by omega) ?_
  refine va_putF (D := (dC, dI)) (ci := 1) (v := .ref q2) (ty := .array .int) (C := RX1) (T := TX1) (N := 9) hx hb hts (by decide +kernel) tyX1 tyX1_ok nmX1 hown hK hP hD hS 0 rfl rfl 2 (by decide) (hts (.fieldLink RX1 13 "MeldingHeapsModel" "orders" "[I") (by decide +kernel)) (fun _ h9 => h9) rfl hin rfl (by decide +kernel) rfl rfl (Nat.le_of_ble_eq_true rfl) dY_init_17 (fun H locs hP hD hS => ?_)
  have hP : va_P (dC, dI) vwCl [(h0, .inr (1, [.int 0, .ref q1, .ref q2, .null, .null, .int 0, .null, .null, .null])), (q1, .inl (k1, 12, .inl (fun _ => 0))), (q2, .inl (k2, 12, .inl (fun _ => 0)))] H := hP
  have hD : va_D A [(h0, .inr (1, [.int 0, .ref q1, .ref q2, .null, .null, .int 0, .null, .null, .null])), (q1, .inl (k1, 12, .inl (fun _ => 0))), (q2, .inl (k2, 12, .inl (fun _ => 0)))] := hD
  refine lv_aload_n hx hb dY_init_20 rfl (lv_at hl 0 rfl) ?_
  refine lv_bipush (v := 12) hx hb dY_init_21 (by decide) ?_
  refine va_newa (atype := .boolean) (ty := .boolean) (n := 12) (N' := 12) (a0 := (12, .inl (fun _ => 0))) hx hb (hts (.arrayClass .boolean) (by decide +kernel)) rfl hK hP hD hS hA (xz_z 12) (by decide) (by decide) (by decide) (Nat.le_of_ble_eq_true rfl) (Nat.le_of_ble_eq_true rfl) dY_init_23 (fun q3 k3 H hK hP hD hS => ?_)
  have hP : va_P (dC, dI) vwCl [(h0, .inr (1, [.int 0, .ref q1, .ref q2, .null, .null, .int 0, .null, .null, .null])), (q1, .inl (k1, 12, .inl (fun _ => 0))), (q2, .inl (k2, 12, .inl (fun _ => 0))), (q3, .inl (k3, 12, .inl (fun _ => 0)))] H := hP
  have hD : va_D A [(h0, .inr (1, [.int 0, .ref q1, .ref q2, .null, .null, .int 0, .null, .null, .null])), (q1, .inl (k1, 12, .inl (fun _ => 0))), (q2, .inl (k2, 12, .inl (fun _ => 0))), (q3, .inl (k3, 12, .inl (fun _ => 0)))] := hD
  have hK : va_K (dC, dI) vwCl [(k1, .int), (k2, .int), (k3, .boolean)] s := hK
  refine W.widen (k := 3) (n := 36) (by omega) (by omega) ?_
  refine va_putF (D := (dC, dI)) (ci := 1) (v := .ref q3) (ty := .array .boolean) (C := RX1) (T := TX1) (N := 9) hx hb hts (by decide +kernel) tyX1 tyX1_ok nmX1 hown hK hP hD hS 0 rfl rfl 3 (by decide) (hts (.fieldLink RX1 16 "MeldingHeapsModel" "gone" "[Z") (by decide +kernel)) (fun _ h9 => h9) rfl hin rfl (by decide +kernel) rfl rfl (Nat.le_of_ble_eq_true rfl) dY_init_25 (fun H locs hP hD hS => ?_)
  have hP : va_P (dC, dI) vwCl [(h0, .inr (1, [.int 0, .ref q1, .ref q2, .ref q3, .null, .int 0, .null, .null, .null])), (q1, .inl (k1, 12, .inl (fun _ => 0))), (q2, .inl (k2, 12, .inl (fun _ => 0))), (q3, .inl (k3, 12, .inl (fun _ => 0)))] H := hP
  have hD : va_D A [(h0, .inr (1, [.int 0, .ref q1, .ref q2, .ref q3, .null, .int 0, .null, .null, .null])), (q1, .inl (k1, 12, .inl (fun _ => 0))), (q2, .inl (k2, 12, .inl (fun _ => 0))), (q3, .inl (k3, 12, .inl (fun _ => 0)))] := hD
  refine lv_aload_n hx hb dY_init_28 rfl (lv_at hl 0 rfl) ?_
  refine lv_bipush (v := 12) hx hb dY_init_29 (by decide) ?_
  refine va_newa (atype := .long) (ty := .long) (n := 12) (N' := 12) (a0 := (12, .inr (.inl (fun _ => 0)))) hx hb (hts (.arrayClass .long) (by decide +kernel)) rfl hK hP hD hS hA (xz_l 12) (by decide) (by decide) (by decide) (Nat.le_of_ble_eq_true rfl) (Nat.le_of_ble_eq_true rfl) dY_init_31 (fun q4 k4 H hK hP hD hS => ?_)
  have hP : va_P (dC, dI) vwCl [(h0, .inr (1, [.int 0, .ref q1, .ref q2, .ref q3, .null, .int 0, .null, .null, .null])), (q1, .inl (k1, 12, .inl (fun _ => 0))), (q2, .inl (k2, 12, .inl (fun _ => 0))), (q3, .inl (k3, 12, .inl (fun _ => 0))), (q4, .inl (k4, 12, .inr (.inl (fun _ => 0))))] H := hP
  have hD : va_D A [(h0, .inr (1, [.int 0, .ref q1, .ref q2, .ref q3, .null, .int 0, .null, .null, .null])), (q1, .inl (k1, 12, .inl (fun _ => 0))), (q2, .inl (k2, 12, .inl (fun _ => 0))), (q3, .inl (k3, 12, .inl (fun _ => 0))), (q4, .inl (k4, 12, .inr (.inl (fun _ => 0))))] := hD
  have hK : va_K (dC, dI) vwCl [(k1, .int), (k2, .int), (k3, .boolean), (k4, .long)] s := hK
  refine W.widen (k := 4) (n := 48) (by omega) (by omega) ?_
  refine va_putF (D := (dC, dI)) (ci := 1) (v := .ref q4) (ty := .array .long) (C := RX1) (T := TX1) (N := 9) hx hb hts (by decide +kernel) tyX1 tyX1_ok nmX1 hown hK hP hD hS 0 rfl rfl 4 (by decide) (hts (.fieldLink RX1 20 "MeldingHeapsModel" "floors" "[J") (by decide +kernel)) (fun _ h9 => h9) rfl hin rfl (by decide +kernel) rfl rfl (Nat.le_of_ble_eq_true rfl) dY_init_33 (fun H locs hP hD hS => ?_)
  have hP : va_P (dC, dI) vwCl [(h0, .inr (1, [.int 0, .ref q1, .ref q2, .ref q3, .ref q4, .int 0, .null, .null, .null])), (q1, .inl (k1, 12, .inl (fun _ => 0))), (q2, .inl (k2, 12, .inl (fun _ => 0))), (q3, .inl (k3, 12, .inl (fun _ => 0))), (q4, .inl (k4, 12, .inr (.inl (fun _ => 0))))] H := hP
  have hD : va_D A [(h0, .inr (1, [.int 0, .ref q1, .ref q2, .ref q3, .ref q4, .int 0, .null, .null, .null])), (q1, .inl (k1, 12, .inl (fun _ => 0))), (q2, .inl (k2, 12, .inl (fun _ => 0))), (q3, .inl (k3, 12, .inl (fun _ => 0))), (q4, .inl (k4, 12, .inr (.inl (fun _ => 0))))] := hD
  refine lv_aload_n hx hb dY_init_36 rfl (lv_at hl 0 rfl) ?_
  refine lv_sipush (v := 160) hx hb dY_init_37 (by decide) ?_
  refine va_newa (atype := .long) (ty := .long) (n := 160) (N' := 160) (a0 := (160, .inr (.inl (fun _ => 0)))) hx hb (hts (.arrayClass .long) (by decide +kernel)) rfl hK hP hD hS hA (xz_l 160) (by decide) (by decide) (by decide) (Nat.le_of_ble_eq_true rfl) (Nat.le_of_ble_eq_true rfl) dY_init_40 (fun q5 k5 H hK hP hD hS => ?_)
  have hP : va_P (dC, dI) vwCl [(h0, .inr (1, [.int 0, .ref q1, .ref q2, .ref q3, .ref q4, .int 0, .null, .null, .null])), (q1, .inl (k1, 12, .inl (fun _ => 0))), (q2, .inl (k2, 12, .inl (fun _ => 0))), (q3, .inl (k3, 12, .inl (fun _ => 0))), (q4, .inl (k4, 12, .inr (.inl (fun _ => 0)))), (q5, .inl (k5, 160, .inr (.inl (fun _ => 0))))] H := hP
  have hD : va_D A [(h0, .inr (1, [.int 0, .ref q1, .ref q2, .ref q3, .ref q4, .int 0, .null, .null, .null])), (q1, .inl (k1, 12, .inl (fun _ => 0))), (q2, .inl (k2, 12, .inl (fun _ => 0))), (q3, .inl (k3, 12, .inl (fun _ => 0))), (q4, .inl (k4, 12, .inr (.inl (fun _ => 0)))), (q5, .inl (k5, 160, .inr (.inl (fun _ => 0))))] := hD
  have hK : va_K (dC, dI) vwCl [(k1, .int), (k2, .int), (k3, .boolean), (k4, .long), (k5, .long)] s := hK
  refine W.widen (k := 5) (n := 208) (by omega) (by omega) ?_
  refine va_putF (D := (dC, dI)) (ci := 1) (v := .ref q5) (ty := .array .long) (C := RX1) (T := TX1) (N := 9) hx hb hts (by decide +kernel) tyX1 tyX1_ok nmX1 hown hK hP hD hS 0 rfl rfl 6 (by decide) (hts (.fieldLink RX1 24 "MeldingHeapsModel" "keys" "[J") (by decide +kernel)) (fun _ h9 => h9) rfl hin rfl (by decide +kernel) rfl rfl (Nat.le_of_ble_eq_true rfl) dY_init_42 (fun H locs hP hD hS => ?_)
  have hP : va_P (dC, dI) vwCl [(h0, .inr (1, [.int 0, .ref q1, .ref q2, .ref q3, .ref q4, .int 0, .ref q5, .null, .null])), (q1, .inl (k1, 12, .inl (fun _ => 0))), (q2, .inl (k2, 12, .inl (fun _ => 0))), (q3, .inl (k3, 12, .inl (fun _ => 0))), (q4, .inl (k4, 12, .inr (.inl (fun _ => 0)))), (q5, .inl (k5, 160, .inr (.inl (fun _ => 0))))] H := hP
  have hD : va_D A [(h0, .inr (1, [.int 0, .ref q1, .ref q2, .ref q3, .ref q4, .int 0, .ref q5, .null, .null])), (q1, .inl (k1, 12, .inl (fun _ => 0))), (q2, .inl (k2, 12, .inl (fun _ => 0))), (q3, .inl (k3, 12, .inl (fun _ => 0))), (q4, .inl (k4, 12, .inr (.inl (fun _ => 0)))), (q5, .inl (k5, 160, .inr (.inl (fun _ => 0))))] := hD
  refine lv_aload_n hx hb dY_init_45 rfl (lv_at hl 0 rfl) ?_
  refine lv_sipush (v := 160) hx hb dY_init_46 (by decide) ?_
  refine va_newa (atype := .int) (ty := .int) (n := 160) (N' := 160) (a0 := (160, .inl (fun _ => 0))) hx hb (hts (.arrayClass .int) (by decide +kernel)) rfl hK hP hD hS hA (xz_i 160) (by decide) (by decide) (by decide) (Nat.le_of_ble_eq_true rfl) (Nat.le_of_ble_eq_true rfl) dY_init_49 (fun q6 k6 H hK hP hD hS => ?_)
  have hP : va_P (dC, dI) vwCl [(h0, .inr (1, [.int 0, .ref q1, .ref q2, .ref q3, .ref q4, .int 0, .ref q5, .null, .null])), (q1, .inl (k1, 12, .inl (fun _ => 0))), (q2, .inl (k2, 12, .inl (fun _ => 0))), (q3, .inl (k3, 12, .inl (fun _ => 0))), (q4, .inl (k4, 12, .inr (.inl (fun _ => 0)))), (q5, .inl (k5, 160, .inr (.inl (fun _ => 0)))), (q6, .inl (k6, 160, .inl (fun _ => 0)))] H := hP
  have hD : va_D A [(h0, .inr (1, [.int 0, .ref q1, .ref q2, .ref q3, .ref q4, .int 0, .ref q5, .null, .null])), (q1, .inl (k1, 12, .inl (fun _ => 0))), (q2, .inl (k2, 12, .inl (fun _ => 0))), (q3, .inl (k3, 12, .inl (fun _ => 0))), (q4, .inl (k4, 12, .inr (.inl (fun _ => 0)))), (q5, .inl (k5, 160, .inr (.inl (fun _ => 0)))), (q6, .inl (k6, 160, .inl (fun _ => 0)))] := hD
  have hK : va_K (dC, dI) vwCl [(k1, .int), (k2, .int), (k3, .boolean), (k4, .long), (k5, .long), (k6, .int)] s := hK
  refine W.widen (k := 6) (n := 368) (by omega) (by omega) ?_
  refine va_putF (D := (dC, dI)) (ci := 1) (v := .ref q6) (ty := .array .int) (C := RX1) (T := TX1) (N := 9) hx hb hts (by decide +kernel) tyX1 tyX1_ok nmX1 hown hK hP hD hS 0 rfl rfl 7 (by decide) (hts (.fieldLink RX1 27 "MeldingHeapsModel" "values" "[I") (by decide +kernel)) (fun _ h9 => h9) rfl hin rfl (by decide +kernel) rfl rfl (Nat.le_of_ble_eq_true rfl) dY_init_51 (fun H locs hP hD hS => ?_)
  have hP : va_P (dC, dI) vwCl [(h0, .inr (1, [.int 0, .ref q1, .ref q2, .ref q3, .ref q4, .int 0, .ref q5, .ref q6, .null])), (q1, .inl (k1, 12, .inl (fun _ => 0))), (q2, .inl (k2, 12, .inl (fun _ => 0))), (q3, .inl (k3, 12, .inl (fun _ => 0))), (q4, .inl (k4, 12, .inr (.inl (fun _ => 0)))), (q5, .inl (k5, 160, .inr (.inl (fun _ => 0)))), (q6, .inl (k6, 160, .inl (fun _ => 0)))] H := hP
  have hD : va_D A [(h0, .inr (1, [.int 0, .ref q1, .ref q2, .ref q3, .ref q4, .int 0, .ref q5, .ref q6, .null])), (q1, .inl (k1, 12, .inl (fun _ => 0))), (q2, .inl (k2, 12, .inl (fun _ => 0))), (q3, .inl (k3, 12, .inl (fun _ => 0))), (q4, .inl (k4, 12, .inr (.inl (fun _ => 0)))), (q5, .inl (k5, 160, .inr (.inl (fun _ => 0)))), (q6, .inl (k6, 160, .inl (fun _ => 0)))] := hD
  refine lv_aload_n hx hb dY_init_54 rfl (lv_at hl 0 rfl) ?_
  refine lv_sipush (v := 160) hx hb dY_init_55 (by decide) ?_
  refine va_newa (atype := .int) (ty := .int) (n := 160) (N' := 160) (a0 := (160, .inl (fun _ => 0))) hx hb (hts (.arrayClass .int) (by decide +kernel)) rfl hK hP hD hS hA (xz_i 160) (by decide) (by decide) (by decide) (Nat.le_of_ble_eq_true rfl) (Nat.le_of_ble_eq_true rfl) dY_init_58 (fun q7 k7 H hK hP hD hS => ?_)
  have hP : va_P (dC, dI) vwCl [(h0, .inr (1, [.int 0, .ref q1, .ref q2, .ref q3, .ref q4, .int 0, .ref q5, .ref q6, .null])), (q1, .inl (k1, 12, .inl (fun _ => 0))), (q2, .inl (k2, 12, .inl (fun _ => 0))), (q3, .inl (k3, 12, .inl (fun _ => 0))), (q4, .inl (k4, 12, .inr (.inl (fun _ => 0)))), (q5, .inl (k5, 160, .inr (.inl (fun _ => 0)))), (q6, .inl (k6, 160, .inl (fun _ => 0))), (q7, .inl (k7, 160, .inl (fun _ => 0)))] H := hP
  have hD : va_D A [(h0, .inr (1, [.int 0, .ref q1, .ref q2, .ref q3, .ref q4, .int 0, .ref q5, .ref q6, .null])), (q1, .inl (k1, 12, .inl (fun _ => 0))), (q2, .inl (k2, 12, .inl (fun _ => 0))), (q3, .inl (k3, 12, .inl (fun _ => 0))), (q4, .inl (k4, 12, .inr (.inl (fun _ => 0)))), (q5, .inl (k5, 160, .inr (.inl (fun _ => 0)))), (q6, .inl (k6, 160, .inl (fun _ => 0))), (q7, .inl (k7, 160, .inl (fun _ => 0)))] := hD
  have hK : va_K (dC, dI) vwCl [(k1, .int), (k2, .int), (k3, .boolean), (k4, .long), (k5, .long), (k6, .int), (k7, .int)] s := hK
  refine W.widen (k := 7) (n := 528) (by omega) (by omega) ?_
  refine va_putF (D := (dC, dI)) (ci := 1) (v := .ref q7) (ty := .array .int) (C := RX1) (T := TX1) (N := 9) hx hb hts (by decide +kernel) tyX1 tyX1_ok nmX1 hown hK hP hD hS 0 rfl rfl 8 (by decide) (hts (.fieldLink RX1 30 "MeldingHeapsModel" "homes" "[I") (by decide +kernel)) (fun _ h9 => h9) rfl hin rfl (by decide +kernel) rfl rfl (Nat.le_of_ble_eq_true rfl) dY_init_60 (fun H locs hP hD hS => ?_)
  have hP : va_P (dC, dI) vwCl [(h0, .inr (1, [.int 0, .ref q1, .ref q2, .ref q3, .ref q4, .int 0, .ref q5, .ref q6, .ref q7])), (q1, .inl (k1, 12, .inl (fun _ => 0))), (q2, .inl (k2, 12, .inl (fun _ => 0))), (q3, .inl (k3, 12, .inl (fun _ => 0))), (q4, .inl (k4, 12, .inr (.inl (fun _ => 0)))), (q5, .inl (k5, 160, .inr (.inl (fun _ => 0)))), (q6, .inl (k6, 160, .inl (fun _ => 0))), (q7, .inl (k7, 160, .inl (fun _ => 0)))] H := hP
  have hD : va_D A [(h0, .inr (1, [.int 0, .ref q1, .ref q2, .ref q3, .ref q4, .int 0, .ref q5, .ref q6, .ref q7])), (q1, .inl (k1, 12, .inl (fun _ => 0))), (q2, .inl (k2, 12, .inl (fun _ => 0))), (q3, .inl (k3, 12, .inl (fun _ => 0))), (q4, .inl (k4, 12, .inr (.inl (fun _ => 0)))), (q5, .inl (k5, 160, .inr (.inl (fun _ => 0)))), (q6, .inl (k6, 160, .inl (fun _ => 0))), (q7, .inl (k7, 160, .inl (fun _ => 0)))] := hD
  exact W.vret hx hb hr (fun t ht hW => ⟨⟨(yGf h0 q1 q2 q3 q4 q5 q6 q7, yCf k1 k2 k3 k4 k5 k6 k7), rfl, rfl, by rw [ht]; exact hP, va_K.moved hW.alike hK, hD⟩, hS.F ht⟩) hS.2.2 dY_init_63
end
section
/-! what findFirst and findLast find: least and greatest in the order of weights, then numbers -/
def bf (w : Nat → Int64) (a b : Nat) : Prop := w a < w b ∨ (w a = w b ∧ a < b)
theorem bf_trans {w : Nat → Int64} {a b c : Nat} (h1 : bf w a b) (h2 : bf w b c) : bf w a c := by
  unfold bf at *
  rw [Int64.lt_iff_toInt_lt, ← Int64.toInt_inj] at *
  omega
theorem bf_irr {w : Nat → Int64} {a : Nat} : ¬ bf w a a := by
  unfold bf
  rw [Int64.lt_iff_toInt_lt]
  omega
theorem bf_asym {w : Nat → Int64} {a b : Nat} (h1 : bf w a b) : ¬ bf w b a := fun h2 => bf_irr (bf_trans h1 h2)
theorem bf_tot {w : Nat → Int64} {a b : Nat} (h : a ≠ b) : bf w a b ∨ bf w b a := by
  unfold bf
  rw [Int64.lt_iff_toInt_lt, Int64.lt_iff_toInt_lt, ← Int64.toInt_inj, ← Int64.toInt_inj]
  omega
theorem nI_m1 {k : Nat} (h : k < 2 ^ 31) : ¬ nI k = -1 := fun q => nI_pos h (by rw [q]; decide)
theorem isBefore_bf {u : xS} {o : Int32} {a b : Nat} (ha : a < 2 ^ 31) (hb : b < 2 ^ 31) : p_isBefore u o (nI a) (nI b) = 0 ↔ ¬ bf (fun j => p_weight o (xky u j)) a b := by
  unfold p_isBefore
  rw [nI_clamp ha, nI_clamp hb]
  by_cases h1 : lg_cmp (p_weight o (xky u a)) (p_weight o (xky u b)) < 0
  · rw [if_pos h1]
    have e := (lg_cmp_lt _ _).mp h1
    exact ⟨fun q => absurd q (by decide), fun q => absurd (Or.inl e) q⟩
  · rw [if_neg h1]
    have e1 : ¬ p_weight o (xky u a) < p_weight o (xky u b) := fun q => h1 ((lg_cmp_lt _ _).mpr q)
    by_cases h2 : lg_cmp (p_weight o (xky u a)) (p_weight o (xky u b)) = 0
    · rw [if_pos h2]
      have e2 := (lg_cmp_eq _ _).mp h2
      by_cases h3 : nI b ≤ nI a
      · rw [if_pos h3]
        have e3 := (nI_leI hb ha).mp h3
        exact ⟨fun _ q => q.elim e1 (fun z => absurd z.2 (by omega)), fun _ => rfl⟩
      · rw [if_neg h3]
        have e3 : a < b := Nat.not_le.mp (fun q => h3 (nI_le q ha))
        exact ⟨fun q => absurd q (by decide), fun q => absurd (Or.inr ⟨e2, e3⟩) q⟩
    · rw [if_neg h2]
      have e2 : ¬ p_weight o (xky u a) = p_weight o (xky u b) := fun q => h2 ((lg_cmp_eq _ _).mpr q)
      exact ⟨fun _ q => q.elim e1 (fun z => e2 z.1), fun _ => rfl⟩
def xw (u : xS) (h : Int32) (j : Nat) : Int64 := p_weight (xod u h.toNatClampNeg) (xky u j)
theorem ff_spec (u : xS) (h : Int32) : ∀ i, i < 2 ^ 31 → (p_findFirstL u h i = -1 ∧ ∀ j, j < i → ¬ xow u j = h) ∨ ∃ k, k < i ∧ p_findFirstL u h i = nI k ∧ xow u k = h ∧ ∀ j, j < i → xow u j = h → j = k ∨ bf (xw u h) k j := by
  intro i
  induction i with
  | zero => exact fun _ => Or.inl ⟨rfl, fun j hj => absurd hj (Nat.not_lt_zero j)⟩
  | succ i ih =>
    intro hi
    rw [p_findFirstL]
    by_cases h1 : xow u i = h
    · rw [if_pos h1]
      rcases ih (by omega) with ⟨e, hn⟩ | ⟨k, hk, e, ho, hm⟩
      · rw [if_pos e]
        refine Or.inr ⟨i, Nat.lt_succ_self i, rfl, h1, fun j hj hj2 => Or.inl ?_⟩
        rcases Nat.lt_succ_iff_lt_or_eq.mp hj with q | q
        · exact absurd hj2 (hn j q)
        · exact q
      · rw [if_neg (by rw [e]; exact nI_m1 (by omega)), e]
        by_cases h2 : bf (xw u h) i k
        · rw [if_neg (fun q => (isBefore_bf (by omega) (by omega)).mp q h2)]
          refine Or.inr ⟨i, Nat.lt_succ_self i, rfl, h1, fun j hj hj2 => ?_⟩
          rcases Nat.lt_succ_iff_lt_or_eq.mp hj with q | q
          · rcases hm j q hj2 with z | z
            · exact Or.inr (by rw [z]; exact h2)
            · exact Or.inr (bf_trans h2 z)
          · exact Or.inl q
        · rw [if_pos ((isBefore_bf (by omega) (by omega)).mpr h2)]
          refine Or.inr ⟨k, Nat.lt_succ_of_lt hk, rfl, ho, fun j hj hj2 => ?_⟩
          rcases Nat.lt_succ_iff_lt_or_eq.mp hj with q | q
          · exact hm j q hj2
          · rw [q]
            exact Or.inr ((bf_tot (Nat.ne_of_lt hk)).resolve_right h2)
    · rw [if_neg h1]
      rcases ih (by omega) with ⟨e, hn⟩ | ⟨k, hk, e, ho, hm⟩
      · refine Or.inl ⟨e, fun j hj => ?_⟩
        rcases Nat.lt_succ_iff_lt_or_eq.mp hj with q | q
        · exact hn j q
        · rw [q]; exact h1
      · refine Or.inr ⟨k, Nat.lt_succ_of_lt hk, e, ho, fun j hj hj2 => ?_⟩
        rcases Nat.lt_succ_iff_lt_or_eq.mp hj with q | q
        · exact hm j q hj2
        · exact absurd (q ▸ hj2) h1
theorem fl_spec (u : xS) (h : Int32) : ∀ i, i < 2 ^ 31 → (p_findLastL u h i = -1 ∧ ∀ j, j < i → ¬ xow u j = h) ∨ ∃ k, k < i ∧ p_findLastL u h i = nI k ∧ xow u k = h ∧ ∀ j, j < i → xow u j = h → j = k ∨ bf (xw u h) j k := by
  intro i
  induction i with
  | zero => exact fun _ => Or.inl ⟨rfl, fun j hj => absurd hj (Nat.not_lt_zero j)⟩
  | succ i ih =>
    intro hi
    rw [p_findLastL]
    by_cases h1 : xow u i = h
    · rw [if_pos h1]
      rcases ih (by omega) with ⟨e, hn⟩ | ⟨k, hk, e, ho, hm⟩
      · rw [if_pos e]
        refine Or.inr ⟨i, Nat.lt_succ_self i, rfl, h1, fun j hj hj2 => Or.inl ?_⟩
        rcases Nat.lt_succ_iff_lt_or_eq.mp hj with q | q
        · exact absurd hj2 (hn j q)
        · exact q
      · rw [if_neg (by rw [e]; exact nI_m1 (by omega)), e]
        by_cases h2 : bf (xw u h) k i
        · rw [if_neg (fun q => (isBefore_bf (by omega) (by omega)).mp q h2)]
          refine Or.inr ⟨i, Nat.lt_succ_self i, rfl, h1, fun j hj hj2 => ?_⟩
          rcases Nat.lt_succ_iff_lt_or_eq.mp hj with q | q
          · rcases hm j q hj2 with z | z
            · exact Or.inr (by rw [z]; exact h2)
            · exact Or.inr (bf_trans z h2)
          · exact Or.inl q
        · rw [if_pos ((isBefore_bf (by omega) (by omega)).mpr h2)]
          refine Or.inr ⟨k, Nat.lt_succ_of_lt hk, rfl, ho, fun j hj hj2 => ?_⟩
          rcases Nat.lt_succ_iff_lt_or_eq.mp hj with q | q
          · exact hm j q hj2
          · rw [q]
            exact Or.inr ((bf_tot (Nat.ne_of_lt hk)).resolve_left h2)
    · rw [if_neg h1]
      rcases ih (by omega) with ⟨e, hn⟩ | ⟨k, hk, e, ho, hm⟩
      · refine Or.inl ⟨e, fun j hj => ?_⟩
        rcases Nat.lt_succ_iff_lt_or_eq.mp hj with q | q
        · exact hn j q
        · rw [q]; exact h1
      · refine Or.inr ⟨k, Nat.lt_succ_of_lt hk, e, ho, fun j hj hj2 => ?_⟩
        rcases Nat.lt_succ_iff_lt_or_eq.mp hj with q | q
        · exact hm j q hj2
        · exact absurd (q ▸ hj2) h1
end
section
/-! the tie: the reference's state is that of the heaps, but for the owners of what is removed -/
def Inv (u : xS) (w : Nat → Int32) : Prop := xm u ≤ 12 ∧ xn u ≤ 160 ∧ (∀ j : Nat, xow u j = if w j < 0 then -4 else w j) ∧ (∀ j : Nat, j < xn u → w j = -1 ∨ ∃ h, h < xm u ∧ w j = nI h) ∧ (∀ h : Nat, h < xm u → xod u h = 0 ∨ xod u h = 1 ∨ xod u h = 2 ∨ xod u h = 3) ∧ (∀ h : Nat, h < xm u → ¬ xkd u h = 2 → xfl u h = -9223372036854775808) ∧ (∀ h : Nat, ¬ xab u h = 0 → h < xm u ∧ xkd u h = 0)
def Rel (u v : xS) : Prop := ∃ w : Nat → Int32, v = sOw u w ∧ Inv u w
theorem i_nlt {a b : Int32} : ¬ a < b ↔ b ≤ a := by
  rw [Int32.lt_iff_toInt_lt, Int32.le_iff_toInt_le]; omega
theorem i_nle {a b : Int32} : ¬ a ≤ b ↔ b < a := by
  rw [Int32.lt_iff_toInt_lt, Int32.le_iff_toInt_le]; omega
theorem l_nlt {a b : Int64} : ¬ a < b ↔ b ≤ a := by
  rw [Int64.lt_iff_toInt_lt, Int64.le_iff_toInt_le]; omega
theorem nI_n4 {k : Nat} (h : k < 2 ^ 31) : ¬ nI k = -4 := fun q => nI_pos h (by rw [q]; decide)
theorem nI_inj {a b : Nat} (ha : a < 2 ^ 31) (hb : b < 2 ^ 31) (h : nI a = nI b) : a = b := (nI_eq ha hb).mp h
theorem hk_isHeap {u : xS} {h : Int32} (hm : xm u ≤ 12) (c : ¬ p_isHeap u h = 0) : ∃ k, k < xm u ∧ h = nI k := by
  unfold p_isHeap at c
  by_cases h1 : h < 0
  · rw [if_pos h1] at c; exact absurd rfl c
  · rw [if_neg h1] at c
    by_cases h2 : (nI (xm u)) ≤ h
    · rw [if_pos h2] at c; exact absurd rfl c
    · obtain ⟨j, hj, rfl⟩ := nI_of h1
      exact ⟨j, Nat.not_le.mp (fun q : xm u ≤ j => h2 (nI_le q hj)), rfl⟩
theorem hk_of {u : xS} {h : Int32} (hm : xm u ≤ 12) (c : p_refusalOfHeap u h = 0) : ∃ k, k < xm u ∧ h = nI k := by
  unfold p_refusalOfHeap at c
  by_cases h1 : p_isHeap u h = 0
  · rw [if_pos h1] at c; exact absurd c (by decide)
  · exact hk_isHeap hm h1
theorem e_wH (u : xS) (w : Nat → Int32) (h : Int32) : yp_wrongHeap (sOw u w) h = p_refusalOfHeap u h := by
  show (if h < 0 then (-2 : Int32) else (if h < nI (xm u) then (if xab u h.toNatClampNeg = 0 then 0 else -3) else -2)) = _
  unfold p_refusalOfHeap p_isHeap
  by_cases h1 : h < 0
  · rw [if_pos h1, if_pos h1, if_pos (rfl : (0 : Int32) = 0)]
  · rw [if_neg h1, if_neg h1]
    by_cases h2 : h < nI (xm u)
    · rw [if_pos h2, if_neg (i_nle.mpr h2), if_neg (by decide : ¬ (1 : Int32) = 0)]
    · rw [if_neg h2, if_pos (i_nlt.mp h2), if_pos (rfl : (0 : Int32) = 0)]
theorem e_wE {u : xS} {w : Nat → Int32} (I : Inv u w) (a : Int32) : yp_wrongEntry (sOw u w) a = p_refusalOfEntry u a := by
  show (if a < 0 then (-2 : Int32) else (if a < nI (xn u) then (if 0 ≤ w a.toNatClampNeg then 0 else -4) else -2)) = _
  unfold p_refusalOfEntry p_isEntry
  by_cases h1 : a < 0
  · rw [if_pos h1, if_pos h1, if_pos (rfl : (0 : Int32) = 0)]
  · rw [if_neg h1, if_neg h1]
    by_cases h2 : a < nI (xn u)
    · rw [if_pos h2, if_neg (i_nle.mpr h2), if_neg (by decide : ¬ (1 : Int32) = 0), I.2.2.1]
      by_cases h3 : w a.toNatClampNeg < 0
      · rw [if_pos h3, if_neg (i_nle.mpr h3), if_pos (rfl : (-4 : Int32) = -4)]
      · rw [if_neg h3, if_pos (i_nlt.mp h3), if_neg (fun q => h3 (by rw [q]; decide))]
    · rw [if_neg h2, if_pos (i_nlt.mp h2), if_pos (rfl : (0 : Int32) = 0)]
theorem e_wP (u : xS) (w : Nat → Int32) (a b : Int32) : yp_wrongPair (sOw u w) a b = p_refusalOfPair u a b := by
  unfold yp_wrongPair p_refusalOfPair
  rw [e_wH, e_wH]
  by_cases h1 : p_refusalOfHeap u a = 0
  · rw [if_pos h1, if_pos h1]
  · rw [if_neg h1, if_neg h1, if_neg h1]
theorem own_iff {u : xS} {w : Nat → Int32} (I : Inv u w) {k : Nat} (hk : k < 2 ^ 31) (j : Nat) : xow u j = nI k ↔ w j = nI k := by
  rw [I.2.2.1 j]
  by_cases h : w j < 0
  · rw [if_pos h]
    exact ⟨fun q => absurd q.symm (nI_n4 hk), fun q => absurd (by rw [← q]; exact h) (nI_pos hk)⟩
  · rw [if_neg h]
theorem od_of {u : xS} {w : Nat → Int32} (I : Inv u w) {k : Nat} (hk : k < xm u) : xod u (nI k).toNatClampNeg = 0 ∨ xod u (nI k).toNatClampNeg = 1 ∨ xod u (nI k).toNatClampNeg = 2 ∨ xod u (nI k).toNatClampNeg = 3 := by
  have := I.1
  rw [nI_clamp (by omega)]
  exact I.2.2.2.2.1 k hk
theorem e_wt {u : xS} {w : Nat → Int32} {h : Int32} (ho : xod u h.toNatClampNeg = 0 ∨ xod u h.toNatClampNeg = 1 ∨ xod u h.toNatClampNeg = 2 ∨ xod u h.toNatClampNeg = 3) (k : Int64) : yp_weight (sOw u w) h k = p_weight (xod u h.toNatClampNeg) k := by
  show (if xod u h.toNatClampNeg = 0 then k else (if xod u h.toNatClampNeg = 1 then ((-1) - k) else (if xod u h.toNatClampNeg = 2 then (k ^^^ (-9223372036854775808)) else (k &&& 65535)))) = _
  unfold p_weight
  rcases ho with e | e | e | e
  · rw [e, if_pos (rfl : (0 : Int32) = 0), if_neg (by decide : ¬ (0 : Int32) = 1), if_neg (by decide : ¬ (0 : Int32) = 2), if_neg (by decide : ¬ (0 : Int32) = 3)]
  · rw [e, if_neg (by decide : ¬ (1 : Int32) = 0), if_pos (rfl : (1 : Int32) = 1), if_pos (rfl : (1 : Int32) = 1)]
  · rw [e, if_neg (by decide : ¬ (2 : Int32) = 0), if_neg (by decide : ¬ (2 : Int32) = 1), if_neg (by decide : ¬ (2 : Int32) = 1), if_pos (rfl : (2 : Int32) = 2), if_pos (rfl : (2 : Int32) = 2)]
  · rw [e, if_neg (by decide : ¬ (3 : Int32) = 0), if_neg (by decide : ¬ (3 : Int32) = 1), if_neg (by decide : ¬ (3 : Int32) = 1), if_neg (by decide : ¬ (3 : Int32) = 2), if_neg (by decide : ¬ (3 : Int32) = 2), if_pos (rfl : (3 : Int32) = 3)]
theorem min_le (x : Int64) : (-9223372036854775808 : Int64) ≤ x := by
  rw [Int64.le_iff_toInt_le, show (-9223372036854775808 : Int64).toInt = -9223372036854775808 from by decide]
  have := Int64.le_toInt x
  omega
theorem e_bl {u : xS} {w : Nat → Int32} (I : Inv u w) {k : Nat} (hk : k < xm u) (y : Int64) : yp_isBelow (sOw u w) (nI k) y = p_isBelowFloor u (nI k) y := by
  have hm := I.1
  show (if xkd u (nI k).toNatClampNeg = 2 then (if 0 ≤ (lg_cmp (yp_weight (sOw u w) (nI k) y) (xfl u (nI k).toNatClampNeg)) then (0 : Int32) else 1) else 0) = _
  unfold p_isBelowFloor
  rw [e_wt (od_of I hk)]
  by_cases h1 : xkd u (nI k).toNatClampNeg = 2
  · rw [if_pos h1]
  · rw [if_neg h1]
    have h2 : 0 ≤ lg_cmp (p_weight (xod u (nI k).toNatClampNeg) y) (xfl u (nI k).toNatClampNeg) := by
      rw [lg_cmp_ge]
      rw [nI_clamp (by omega)] at h1 ⊢
      rw [I.2.2.2.2.2.1 k hk h1]
      exact min_le _
    rw [if_pos h2]
theorem bf_def {w : Nat → Int64} {a b : Nat} : bf w a b ↔ (w a < w b ∨ (w a = w b ∧ a < b)) := Iff.rfl
theorem e_ff {u : xS} {w : Nat → Int32} (I : Inv u w) {k : Nat} (hk : k < xm u) : ∀ i, i < 2 ^ 31 → (yp_extremeL (sOw u w) (nI k) 1 i).1 = p_findFirstL u (nI k) i ∧ (p_findFirstL u (nI k) i = -1 ∨ ∃ j, j < i ∧ p_findFirstL u (nI k) i = nI j ∧ (yp_extremeL (sOw u w) (nI k) 1 i).2 = p_weight (xod u (nI k).toNatClampNeg) (xky u j)) := by
  have hm := I.1
  intro i
  induction i with
  | zero => exact fun _ => ⟨rfl, Or.inl rfl⟩
  | succ i ih =>
    intro hi
    obtain ⟨e1, e2⟩ := ih (by omega)
    rw [yp_extremeL, p_findFirstL]
    by_cases h1 : w i = nI k
    · have h2 : xow (sOw u w) i = nI k := h1
      have h3 : xow u i = nI k := (own_iff I (by omega) i).mpr h1
      rw [if_pos h2, if_pos h3]
      rcases e2 with e2 | ⟨j, hj, e2, e3⟩
      · rw [if_pos (by rw [e1]; exact e2), if_pos e2]
        exact ⟨rfl, Or.inr ⟨i, Nat.lt_succ_self i, rfl, e_wt (od_of I hk) _⟩⟩
      · have ne : ¬ p_findFirstL u (nI k) i = -1 := by rw [e2]; exact nI_m1 (by omega)
        rw [if_neg (by rw [e1]; exact ne), if_neg ne, if_neg (by decide : ¬ (1 : Int32) = 0)]
        by_cases hc : 0 ≤ lg_cmp (yp_weight (sOw u w) (nI k) (xky (sOw u w) i)) (yp_extremeL (sOw u w) (nI k) 1 i).2
        · have hb : p_isBefore u (xod u (nI k).toNatClampNeg) (nI i) (p_findFirstL u (nI k) i) = 0 := by
            rw [e2, isBefore_bf (by omega) (by omega), bf_def]
            rw [lg_cmp_ge, e_wt (od_of I hk), e3] at hc
            rintro (q | ⟨-, q⟩)
            · exact l_nlt.mpr hc q
            · omega
          rw [if_pos hc, if_pos hb]
          exact ⟨e1, Or.inr ⟨j, by omega, e2, e3⟩⟩
        · have hb : ¬ p_isBefore u (xod u (nI k).toNatClampNeg) (nI i) (p_findFirstL u (nI k) i) = 0 := by
            rw [e2, isBefore_bf (by omega) (by omega), bf_def]
            rw [lg_cmp_ge, e_wt (od_of I hk), e3] at hc
            intro q
            refine q (Or.inl ?_)
            by_cases z : p_weight (xod u (nI k).toNatClampNeg) (xky u i) < p_weight (xod u (nI k).toNatClampNeg) (xky u j)
            · exact z
            · exact absurd (l_nlt.mp z) hc
          rw [if_neg hc, if_neg hb]
          exact ⟨rfl, Or.inr ⟨i, Nat.lt_succ_self i, rfl, e_wt (od_of I hk) _⟩⟩
    · have h2 : ¬ xow (sOw u w) i = nI k := h1
      have h3 : ¬ xow u i = nI k := fun q => h1 ((own_iff I (by omega) i).mp q)
      rw [if_neg h2, if_neg h3]
      refine ⟨e1, ?_⟩
      rcases e2 with e2 | ⟨j, hj, e2, e3⟩
      · exact Or.inl e2
      · exact Or.inr ⟨j, by omega, e2, e3⟩
theorem e_fl {u : xS} {w : Nat → Int32} (I : Inv u w) {k : Nat} (hk : k < xm u) : ∀ i, i < 2 ^ 31 → (yp_extremeL (sOw u w) (nI k) 0 i).1 = p_findLastL u (nI k) i ∧ (p_findLastL u (nI k) i = -1 ∨ ∃ j, j < i ∧ p_findLastL u (nI k) i = nI j ∧ (yp_extremeL (sOw u w) (nI k) 0 i).2 = p_weight (xod u (nI k).toNatClampNeg) (xky u j)) := by
  have hm := I.1
  intro i
  induction i with
  | zero => exact fun _ => ⟨rfl, Or.inl rfl⟩
  | succ i ih =>
    intro hi
    obtain ⟨e1, e2⟩ := ih (by omega)
    rw [yp_extremeL, p_findLastL]
    by_cases h1 : w i = nI k
    · have h2 : xow (sOw u w) i = nI k := h1
      have h3 : xow u i = nI k := (own_iff I (by omega) i).mpr h1
      rw [if_pos h2, if_pos h3]
      rcases e2 with e2 | ⟨j, hj, e2, e3⟩
      · rw [if_pos (by rw [e1]; exact e2), if_pos e2]
        exact ⟨rfl, Or.inr ⟨i, Nat.lt_succ_self i, rfl, e_wt (od_of I hk) _⟩⟩
      · have ne : ¬ p_findLastL u (nI k) i = -1 := by rw [e2]; exact nI_m1 (by omega)
        rw [if_neg (by rw [e1]; exact ne), if_neg ne, if_pos (rfl : (0 : Int32) = 0)]
        by_cases hc : lg_cmp (yp_weight (sOw u w) (nI k) (xky (sOw u w) i)) (yp_extremeL (sOw u w) (nI k) 0 i).2 < 0
        · have hb : p_isBefore u (xod u (nI k).toNatClampNeg) (p_findLastL u (nI k) i) (nI i) = 0 := by
            rw [e2, isBefore_bf (by omega) (by omega), bf_def]
            rw [lg_cmp_lt, e_wt (od_of I hk), e3, Int64.lt_iff_toInt_lt] at hc
            have hc2 : (p_weight (xod u (nI k).toNatClampNeg) (xky u i)).toInt < (p_weight (xod u (nI k).toNatClampNeg) (xky u j)).toInt := hc
            rintro (q | ⟨q, -⟩)
            · rw [Int64.lt_iff_toInt_lt] at q
              omega
            · rw [← Int64.toInt_inj] at q
              omega
          rw [if_pos hc, if_pos hb]
          exact ⟨e1, Or.inr ⟨j, by omega, e2, e3⟩⟩
        · have hb : ¬ p_isBefore u (xod u (nI k).toNatClampNeg) (p_findLastL u (nI k) i) (nI i) = 0 := by
            rw [e2, isBefore_bf (by omega) (by omega), bf_def]
            rw [lg_cmp_lt, e_wt (od_of I hk), e3, Int64.lt_iff_toInt_lt] at hc
            intro q
            refine q ?_
            rw [Int64.lt_iff_toInt_lt, ← Int64.toInt_inj]
            have hc2 : ¬ (p_weight (xod u (nI k).toNatClampNeg) (xky u i)).toInt < (p_weight (xod u (nI k).toNatClampNeg) (xky u j)).toInt := hc
            omega
          rw [if_neg hc, if_neg hb]
          exact ⟨rfl, Or.inr ⟨i, Nat.lt_succ_self i, rfl, e_wt (od_of I hk) _⟩⟩
    · have h2 : ¬ xow (sOw u w) i = nI k := h1
      have h3 : ¬ xow u i = nI k := fun q => h1 ((own_iff I (by omega) i).mp q)
      rw [if_neg h2, if_neg h3]
      refine ⟨e1, ?_⟩
      rcases e2 with e2 | ⟨j, hj, e2, e3⟩
      · exact Or.inl e2
      · exact Or.inr ⟨j, by omega, e2, e3⟩
theorem e_cnt {u : xS} {w : Nat → Int32} (I : Inv u w) {k : Nat} (hk : k < 2 ^ 31) : ∀ i, yp_manyL (sOw u w) (nI k) i = p_countEntriesL u (nI k) i := by
  intro i
  induction i with
  | zero => rfl
  | succ i ih =>
    rw [yp_manyL, p_countEntriesL]
    by_cases h1 : w i = nI k
    · have h2 : xow (sOw u w) i = nI k := h1
      rw [if_pos h2, if_pos ((own_iff I hk i).mpr h1), ih]
    · have h2 : ¬ xow (sOw u w) i = nI k := h1
      rw [if_neg h2, if_neg (fun q => h1 ((own_iff I hk i).mp q)), ih]
theorem e_rank {u : xS} {w : Nat → Int32} (I : Inv u w) {k : Nat} (hk : k < xm u) {a : Int32} (hw : w a.toNatClampNeg = nI k) : ∀ i, i < 2 ^ 31 → yp_rankL (sOw u w) a i = p_countBeforeL u (nI k) a i := by
  have hm := I.1
  intro i
  induction i with
  | zero => exact fun _ => rfl
  | succ i ih =>
    intro hi
    have ih := ih (by omega)
    have hw2 : xow (sOw u w) a.toNatClampNeg = nI k := hw
    rw [yp_rankL, p_countBeforeL, hw2]
    by_cases h1 : w i = nI k
    · have h2 : xow (sOw u w) i = nI k := h1
      rw [if_pos h2, if_pos ((own_iff I (by omega) i).mpr h1)]
      unfold p_isBefore
      rw [e_wt (od_of I hk), e_wt (od_of I hk), nI_clamp (show i < 2 ^ 31 by omega)]
      by_cases c1 : lg_cmp (p_weight (xod u (nI k).toNatClampNeg) (xky u i)) (p_weight (xod u (nI k).toNatClampNeg) (xky u a.toNatClampNeg)) < 0
      · rw [if_pos c1, if_pos c1, if_neg (by decide : ¬ (1 : Int32) = 0), ih]
      · rw [if_neg c1, if_neg c1]
        by_cases c2 : lg_cmp (p_weight (xod u (nI k).toNatClampNeg) (xky u i)) (p_weight (xod u (nI k).toNatClampNeg) (xky u a.toNatClampNeg)) = 0
        · rw [if_pos c2, if_pos c2]
          by_cases c3 : a ≤ nI i
          · rw [if_pos c3, if_pos c3, if_pos (rfl : (0 : Int32) = 0), ih]
          · rw [if_neg c3, if_neg c3, if_neg (by decide : ¬ (1 : Int32) = 0), ih]
        · rw [if_neg c2, if_neg c2, if_pos (rfl : (0 : Int32) = 0), ih]
    · have h2 : ¬ xow (sOw u w) i = nI k := h1
      rw [if_neg h2, if_neg (fun q => h1 ((own_iff I (by omega) i).mp q)), ih]
end
section
/-! closed forms, counts, and how a step keeps the tie -/
theorem upd_at (f : Nat → Int32) (k j : Nat) (x : Int32) : upd f k x j = if j = k then x else f j := by
  by_cases h : j = k
  · rw [if_pos h, h, pk_us]
  · rw [if_neg h, pk_un h]
theorem updL_at (f : Nat → Int64) (k j : Nat) (x : Int64) : vp_updL f k x j = if j = k then x else f j := rfl
theorem updL_same (f : Nat → Int64) (k : Nat) : vp_updL f k (f k) = f := by
  funext j
  rw [updL_at]
  by_cases h : j = k
  · rw [if_pos h, h]
  · rw [if_neg h]
theorem ho_form (u : xS) (h b : Int32) : ∀ i j, q_handOverAllL u h b i j = if j < i ∧ xow u j = h then b else xow u j := by
  intro i
  induction i with
  | zero => intro j; rw [if_neg (fun q => absurd q.1 (Nat.not_lt_zero j))]; rfl
  | succ i ih =>
    intro j
    have ii : q_handOverAllL u h b i i = xow u i := by rw [ih, if_neg (fun q => absurd q.1 (Nat.lt_irrefl i))]
    rw [q_handOverAllL, ii]
    by_cases c : xow u i = h
    · rw [if_pos c, upd_at, ih]
      by_cases e : j = i
      · rw [if_pos e, if_pos ⟨by omega, by rw [e]; exact c⟩]
      · rw [if_neg e]
        by_cases d : j < i ∧ xow u j = h
        · rw [if_pos d, if_pos ⟨by omega, d.2⟩]
        · rw [if_neg d, if_neg (fun q => d ⟨by omega, q.2⟩)]
    · rw [if_neg c, ih]
      by_cases d : j < i ∧ xow u j = h
      · rw [if_pos d, if_pos ⟨by omega, d.2⟩]
      · rw [if_neg d, if_neg (fun q => d ⟨by
          have := q.1
          by_cases e : j = i
          · exact absurd (e ▸ q.2) c
          · omega, q.2⟩)]
theorem ym_form (u : xS) (a b : Int32) : ∀ i j, yq_meldL u a b i j = if j < i ∧ xow u j = b then a else xow u j := by
  intro i
  induction i with
  | zero => intro j; rw [if_neg (fun q => absurd q.1 (Nat.not_lt_zero j))]; rfl
  | succ i ih =>
    intro j
    have ii : yq_meldL u a b i i = xow u i := by rw [ih, if_neg (fun q => absurd q.1 (Nat.lt_irrefl i))]
    rw [yq_meldL, ii]
    by_cases c : xow u i = b
    · rw [if_pos c, upd_at, ih]
      by_cases e : j = i
      · rw [if_pos e, if_pos ⟨by omega, by rw [e]; exact c⟩]
      · rw [if_neg e]
        by_cases d : j < i ∧ xow u j = b
        · rw [if_pos d, if_pos ⟨by omega, d.2⟩]
        · rw [if_neg d, if_neg (fun q => d ⟨by omega, q.2⟩)]
    · rw [if_neg c, upd_at, ih]
      by_cases e : j = i
      · rw [if_pos e, if_neg (fun q => c (e ▸ q.2)), e]
      · rw [if_neg e]
        by_cases d : j < i ∧ xow u j = b
        · rw [if_pos d, if_pos ⟨by omega, d.2⟩]
        · rw [if_neg d, if_neg (fun q => d ⟨by omega, q.2⟩)]
theorem yc_form (u : xS) (h : Int32) : ∀ i j, yq_clearL u h i j = if j < i ∧ xow u j = h then -1 else xow u j := by
  intro i
  induction i with
  | zero => intro j; rw [if_neg (fun q => absurd q.1 (Nat.not_lt_zero j))]; rfl
  | succ i ih =>
    intro j
    have ii : yq_clearL u h i i = xow u i := by rw [ih, if_neg (fun q => absurd q.1 (Nat.lt_irrefl i))]
    rw [yq_clearL, ii]
    by_cases c : xow u i = h
    · rw [if_pos c, upd_at, ih]
      by_cases e : j = i
      · rw [if_pos e, if_pos ⟨by omega, by rw [e]; exact c⟩]
      · rw [if_neg e]
        by_cases d : j < i ∧ xow u j = h
        · rw [if_pos d, if_pos ⟨by omega, d.2⟩]
        · rw [if_neg d, if_neg (fun q => d ⟨by omega, q.2⟩)]
    · rw [if_neg c, upd_at, ih]
      by_cases e : j = i
      · rw [if_pos e, if_neg (fun q => c (e ▸ q.2)), e]
      · rw [if_neg e]
        by_cases d : j < i ∧ xow u j = h
        · rw [if_pos d, if_pos ⟨by omega, d.2⟩]
        · rw [if_neg d, if_neg (fun q => d ⟨by omega, q.2⟩)]
theorem ho_cnt (u : xS) (h b : Int32) : ∀ i, p_handOverAllL u h b i = p_countEntriesL u h i := by
  intro i
  induction i with
  | zero => rfl
  | succ i ih =>
    have ii : q_handOverAllL u h b i i = xow u i := by rw [ho_form, if_neg (fun q => absurd q.1 (Nat.lt_irrefl i))]
    rw [p_handOverAllL, p_countEntriesL, ii, ih]
theorem cnt_ow {u v : xS} (e : xow u = xow v) (h : Int32) : ∀ i, p_countEntriesL u h i = p_countEntriesL v h i := by
  intro i
  induction i with
  | zero => rfl
  | succ i ih => rw [p_countEntriesL, p_countEntriesL, e, ih]
theorem cnt_le (u : xS) (h : Int32) : ∀ i, p_countEntriesL u h i ≤ i := by
  intro i
  induction i with
  | zero => exact Nat.le_refl _
  | succ i ih =>
    rw [p_countEntriesL]
    split <;> omega
theorem cnt_pos {u : xS} {h : Int32} {j : Nat} (hj : xow u j = h) : ∀ i, j < i → 0 < p_countEntriesL u h i := by
  intro i
  induction i with
  | zero => exact fun q => absurd q (Nat.not_lt_zero j)
  | succ i ih =>
    intro q
    rw [p_countEntriesL]
    by_cases e : j = i
    · rw [if_pos (e ▸ hj)]; omega
    · have := ih (by omega)
      split <;> omega
/-- one owner less -/
theorem cnt_out {u : xS} {h x : Int32} {j : Nat} (hj : xow u j = h) (hx : ¬ x = h) : ∀ i, (j < i → p_countEntriesL (sOw u (upd (xow u) j x)) h i + 1 = p_countEntriesL u h i) ∧ (i ≤ j → p_countEntriesL (sOw u (upd (xow u) j x)) h i = p_countEntriesL u h i) := by
  intro i
  induction i with
  | zero => exact ⟨fun q => absurd q (Nat.not_lt_zero j), fun _ => rfl⟩
  | succ i ih =>
    have e0 : ∀ z, xow (sOw u (upd (xow u) j x)) z = if z = j then x else xow u z := fun z => upd_at _ _ _ _
    rw [p_countEntriesL, p_countEntriesL, e0]
    refine ⟨fun q => ?_, fun q => ?_⟩
    · by_cases e : i = j
      · have h9 := ih.2 (by omega)
        rw [if_pos e, if_neg hx, h9, if_pos (show xow u i = h by rw [e]; exact hj)]
      · have := ih.1 (by omega)
        rw [if_neg e]
        split <;> omega
    · have := ih.2 (by omega)
      rw [if_neg (show ¬ i = j by omega)]
      split <;> omega
theorem inv_set {u : xS} {w : Nat → Int32} (I : Inv u w) (j : Nat) {x y : Int32} (hx : x = if y < 0 then -4 else y) (hy : y = -1 ∨ ∃ h, h < xm u ∧ y = nI h) : Inv (sOw u (upd (xow u) j x)) (upd w j y) := by
  refine ⟨I.1, I.2.1, fun i => ?_, fun i hi => ?_, I.2.2.2.2.1, I.2.2.2.2.2.1, I.2.2.2.2.2.2⟩
  · show upd (xow u) j x i = _
    rw [upd_at, upd_at]
    by_cases e : i = j
    · rw [if_pos e, if_pos e, hx]
    · rw [if_neg e, if_neg e, I.2.2.1 i]
  · rw [upd_at]
    by_cases e : i = j
    · rw [if_pos e]; exact hy
    · rw [if_neg e]; exact I.2.2.2.1 i hi
theorem raise_rel {u : xS} {w : Nat → Int32} (I : Inv u w) {k : Nat} (hk : k < xm u) (f : Int32) : yq_leave (sOw u w) (nI k) f = sOw (q_raiseFloor u (nI k) (xky u f.toNatClampNeg)) w ∧ Inv (q_raiseFloor u (nI k) (xky u f.toNatClampNeg)) w ∧ xow (q_raiseFloor u (nI k) (xky u f.toNatClampNeg)) = xow u ∧ xm (q_raiseFloor u (nI k) (xky u f.toNatClampNeg)) = xm u := by
  have hm := I.1
  have e1 : yq_leave (sOw u w) (nI k) f = if xkd u (nI k).toNatClampNeg = 2 then sFl (sOw u w) (vp_updL (xfl u) (nI k).toNatClampNeg (yp_weight (sOw u w) (nI k) (xky u f.toNatClampNeg))) else sFl (sOw u w) (vp_updL (xfl u) (nI k).toNatClampNeg (xfl u (nI k).toNatClampNeg)) := rfl
  rw [e1, e_wt (od_of I hk), updL_same]
  unfold q_raiseFloor
  by_cases h1 : xkd u (nI k).toNatClampNeg = 2
  · rw [if_pos h1, if_pos h1]
    refine ⟨rfl, ⟨I.1, I.2.1, I.2.2.1, I.2.2.2.1, I.2.2.2.2.1, fun h hh hn => ?_, I.2.2.2.2.2.2⟩, rfl, rfl⟩
    show vp_updL (xfl u) (nI k).toNatClampNeg _ h = _
    rw [nI_clamp (by omega)] at h1 ⊢
    rw [updL_at, if_neg (fun q => hn (by rw [q]; exact h1))]
    exact I.2.2.2.2.2.1 h hh hn
  · rw [if_neg h1, if_neg h1]
    exact ⟨rfl, I, rfl, rfl⟩
theorem cb_zero {u : xS} {h a : Int32} : ∀ i, p_countBeforeL u h a i = 0 ↔ ∀ j, j < i → xow u j = h → p_isBefore u (xod u h.toNatClampNeg) (nI j) a = 0 := by
  intro i
  induction i with
  | zero => exact ⟨fun _ j hj => absurd hj (Nat.not_lt_zero j), fun _ => rfl⟩
  | succ i ih =>
    rw [p_countBeforeL]
    by_cases c : xow u i = h
    · rw [if_pos c]
      by_cases d : p_isBefore u (xod u h.toNatClampNeg) (nI i) a = 0
      · rw [if_pos d, ih]
        refine ⟨fun q j hj hj2 => ?_, fun q j hj hj2 => q j (by omega) hj2⟩
        by_cases e : j = i
        · rw [e]; exact d
        · exact q j (by omega) hj2
      · rw [if_neg d]
        exact ⟨fun q => absurd q (by omega), fun q => absurd (q i (by omega) c) d⟩
    · rw [if_neg c, ih]
      refine ⟨fun q j hj hj2 => ?_, fun q j hj hj2 => q j (by omega) hj2⟩
      by_cases e : j = i
      · exact absurd (e ▸ hj2) c
      · exact q j (by omega) hj2
theorem ff_cb {u : xS} {h : Int32} {b : Nat} (hn : xn u ≤ 160) (hb : b < xn u) (ho : xow u b = h) : p_findFirst u h = nI b ↔ p_countBeforeL u h (nI b) (xn u) = 0 := by
  rw [cb_zero]
  show p_findFirstL u h (xn u) = nI b ↔ _
  rcases ff_spec u h (xn u) (by omega) with ⟨e, hno⟩ | ⟨k, hk, e, hok, hmin⟩
  · exact absurd ho (hno b hb)
  · rw [e]
    refine ⟨fun q j hj hj2 => ?_, fun q => ?_⟩
    · have hkb := nI_inj (by omega) (by omega) q
      rw [isBefore_bf (by omega) (by omega)]
      rcases hmin j hj hj2 with z | z
      · rw [z, hkb]; exact bf_irr
      · rw [← hkb]; exact bf_asym z
    · rcases hmin b hb ho with z | z
      · rw [z]
      · exact absurd z ((isBefore_bf (by omega) (by omega)).mp (q k hk hok))
theorem cb_le (u : xS) (h a : Int32) : ∀ i, p_countBeforeL u h a i ≤ i := by
  intro i
  induction i with
  | zero => exact Nat.le_refl _
  | succ i ih =>
    rw [p_countBeforeL]
    (repeat' split) <;> omega
end
section
/-! one row a call: the answers are alike, and the tie is kept -/
theorem r_open {u v : xS} (hr : Rel u v) (a b : Int32) : p_open u a b = yp_open v a b ∧ Rel (q_open u a b) (yq_open v a b) := by
  obtain ⟨w, rfl, I⟩ := hr
  have hm := I.1
  have e1 : yp_open (sOw u w) a b = yp_open u a b := rfl
  rw [e1]
  unfold p_open yp_open q_open yq_open
  by_cases h1 : a < 0
  · simp only [if_pos h1]; exact ⟨trivial, w, rfl, I⟩
  simp only [if_neg h1]
  by_cases h2 : 2 < a
  · simp only [if_pos h2]; exact ⟨trivial, w, rfl, I⟩
  simp only [if_neg h2]
  by_cases h3 : b < 0
  · simp only [if_pos h3]; exact ⟨trivial, w, rfl, I⟩
  simp only [if_neg h3]
  by_cases h4 : b ≤ 3
  · simp only [if_pos h4]
    by_cases h5 : nI (xm u) < 12
    · have h6 : ¬ nI (xm u) = 12 := fun q => absurd (q ▸ h5) (by decide)
      have h6' : ¬ nI (xm (sOw u w)) = 12 := h6
      have h7 : xm u < 12 := (nI_ltI (by omega) (by decide)).mp (show nI (xm u) < nI 12 from h5)
      rw [if_pos h5, if_neg h6, if_pos h5, if_neg h6']
      refine ⟨(nI_pred _).symm, w, ?_, ?_⟩
      · have ea : upd (xab u) (nI (xm u)).toNatClampNeg 0 = xab u := by
          funext j
          rw [nI_clamp (by omega), upd_at]
          by_cases e : j = xm u
          · rw [if_pos e]
            by_cases z : xab u j = 0
            · exact z.symm
            · exact absurd (I.2.2.2.2.2.2 j z).1 (by omega)
          · rw [if_neg e]
        rw [ea]
      · obtain ⟨j3, hj3, rfl⟩ := nI_of2 (n := 3) (by decide) h3 h4
        rw [nI_clamp (show xm u < 2 ^ 31 by omega)]
        refine ⟨h7, I.2.1, I.2.2.1, fun j hj => ?_, fun h hh => ?_, fun h hh hk => ?_, fun h hh => ?_⟩
        · rcases I.2.2.2.1 j hj with z | ⟨y, hy, z⟩
          · exact Or.inl z
          · exact Or.inr ⟨y, Nat.lt_succ_of_lt hy, z⟩
        · show upd (xod u) (xm u) (nI j3) h = 0 ∨ upd (xod u) (xm u) (nI j3) h = 1 ∨ upd (xod u) (xm u) (nI j3) h = 2 ∨ upd (xod u) (xm u) (nI j3) h = 3
          rw [upd_at]
          by_cases e : h = xm u
          · rw [if_pos e]
            rcases (show j3 = 0 ∨ j3 = 1 ∨ j3 = 2 ∨ j3 = 3 by omega) with z | z | z | z <;> subst z
            · exact Or.inl (by decide)
            · exact Or.inr (Or.inl (by decide))
            · exact Or.inr (Or.inr (Or.inl (by decide)))
            · exact Or.inr (Or.inr (Or.inr (by decide)))
          · rw [if_neg e]
            exact I.2.2.2.2.1 h (by have hh : h < xm u + 1 := hh; omega)
        · show vp_updL (xfl u) (xm u) (-9223372036854775808) h = _
          have hk : ¬ upd (xkd u) (xm u) a h = 2 := hk
          rw [upd_at] at hk
          rw [updL_at]
          by_cases e : h = xm u
          · rw [if_pos e]
          · rw [if_neg e] at hk ⊢
            exact I.2.2.2.2.2.1 h (by have hh : h < xm u + 1 := hh; omega) hk
        · have hh : ¬ upd (xab u) (xm u) 0 h = 0 := hh
          show h < xm u + 1 ∧ upd (xkd u) (xm u) a h = 0
          rw [upd_at] at hh ⊢
          by_cases e : h = xm u
          · rw [if_pos e] at hh; exact absurd rfl hh
          · rw [if_neg e] at hh ⊢
            exact ⟨Nat.lt_succ_of_lt (I.2.2.2.2.2.2 h hh).1, (I.2.2.2.2.2.2 h hh).2⟩
    · have h7 : xm u = 12 := by
        have : ¬ xm u < 12 := fun q => h5 (show nI (xm u) < nI 12 from nI_lt q (by decide))
        omega
      have h6 : nI (xm u) = 12 := by rw [h7]; decide
      have h6' : nI (xm (sOw u w)) = 12 := h6
      rw [if_neg h5, if_pos h6, if_neg h5, if_pos h6']
      exact ⟨rfl, w, rfl, I⟩
  · simp only [if_neg h4]; exact ⟨trivial, w, rfl, I⟩
theorem r_insert {u v : xS} (hr : Rel u v) (h : Int32) (k : Int64) (x : Int32) : p_insert u h k x = yp_insert v h k x ∧ Rel (q_insert u h k x) (yq_insert v h k x) := by
  obtain ⟨w, rfl, I⟩ := hr
  have hm := I.1
  have hn := I.2.1
  unfold p_insert yp_insert q_insert yq_insert
  rw [e_wH]
  by_cases h1 : p_refusalOfHeap u h = 0
  · obtain ⟨y, hy, rfl⟩ := hk_of hm h1
    rw [e_bl I hy]
    simp only [if_pos h1]
    by_cases h2 : p_isBelowFloor u (nI y) k = 0
    · simp only [if_pos h2]
      by_cases h5 : nI (xn u) < 160
      · have h6 : ¬ nI (xn u) = 160 := fun q => absurd (q ▸ h5) (by decide)
        have h6' : ¬ nI (xn (sOw u w)) = 160 := h6
        have h7 : xn u < 160 := (nI_ltI (by omega) (by decide)).mp (show nI (xn u) < nI 160 from h5)
        rw [if_pos h5, if_neg h6', if_pos h5, if_neg h6']
        refine ⟨(nI_pred _).symm, upd w (nI (xn u)).toNatClampNeg (nI y), rfl, ?_⟩
        have J := inv_set I (nI (xn u)).toNatClampNeg (x := nI y) (y := nI y) (by rw [if_neg (nI_pos (by omega))]) (Or.inr ⟨y, hy, rfl⟩)
        refine ⟨J.1, h7, J.2.2.1, fun j hj => ?_, J.2.2.2.2.1, J.2.2.2.2.2.1, J.2.2.2.2.2.2⟩
        have hj : j < xn u + 1 := hj
        by_cases e : j = xn u
        · rw [nI_clamp (by omega), upd_at, if_pos e]
          exact Or.inr ⟨y, hy, rfl⟩
        · exact J.2.2.2.1 j (show j < xn u by omega)
      · have h7 : xn u = 160 := by
          have : ¬ xn u < 160 := fun q => h5 (show nI (xn u) < nI 160 from nI_lt q (by decide))
          omega
        have h6' : nI (xn (sOw u w)) = 160 := by
          show nI (xn u) = 160
          rw [h7]; decide
        rw [if_neg h5, if_pos h6', if_neg h5, if_pos h6']
        exact ⟨rfl, w, rfl, I⟩
    · simp only [if_neg h2]; exact ⟨trivial, w, rfl, I⟩
  · simp only [if_neg h1]; exact ⟨trivial, w, rfl, I⟩
theorem e_first {u : xS} {w : Nat → Int32} (I : Inv u w) (h : Int32) : p_first u h = yp_first (sOw u w) h := by
  have hm := I.1
  have hn := I.2.1
  unfold p_first yp_first
  rw [e_wH]
  by_cases h1 : p_refusalOfHeap u h = 0
  · obtain ⟨y, hy, rfl⟩ := hk_of hm h1
    rw [if_pos h1, if_pos h1]
    exact (e_ff I hy (xn u) (by omega)).1.symm
  · rw [if_neg h1, if_neg h1]
theorem e_last {u : xS} {w : Nat → Int32} (I : Inv u w) (h : Int32) : p_last u h = yp_last (sOw u w) h := by
  have hm := I.1
  have hn := I.2.1
  unfold p_last yp_last p_refusalOfLastOf
  rw [e_wH]
  by_cases h1 : p_refusalOfHeap u h = 0
  · obtain ⟨y, hy, rfl⟩ := hk_of hm h1
    simp only [if_pos h1]
    by_cases h2 : xkd u (nI y).toNatClampNeg = 1
    · have h2' : xkd (sOw u w) (nI y).toNatClampNeg = 1 := h2
      rw [if_pos h2, if_pos h2', if_pos (rfl : (0 : Int32) = 0)]
      exact (e_fl I hy (xn u) (by omega)).1.symm
    · have h2' : ¬ xkd (sOw u w) (nI y).toNatClampNeg = 1 := h2
      rw [if_neg h2, if_neg h2', if_neg (by decide : ¬ (-7 : Int32) = 0)]
  · simp only [if_neg h1]
theorem r_first {u v : xS} (hr : Rel u v) (h : Int32) : p_first u h = yp_first v h ∧ Rel u v := by
  refine ⟨?_, hr⟩
  obtain ⟨w, rfl, I⟩ := hr
  exact e_first I h
theorem r_last {u v : xS} (hr : Rel u v) (h : Int32) : p_last u h = yp_last v h ∧ Rel u v := by
  refine ⟨?_, hr⟩
  obtain ⟨w, rfl, I⟩ := hr
  exact e_last I h
theorem hk_first {u : xS} {h : Int32} (hm : xm u ≤ 12) (c : ¬ p_first u h < 0) : ∃ k, k < xm u ∧ h = nI k := by
  unfold p_first at c
  by_cases h1 : p_refusalOfHeap u h = 0
  · exact hk_of hm h1
  · rw [if_neg h1] at c; exact absurd (refH_neg h1) c
theorem r_take {u v : xS} (hr : Rel u v) (h : Int32) : p_take u h = yp_take v h ∧ Rel (q_take u h) (yq_take v h) := by
  obtain ⟨w, rfl, I⟩ := hr
  have hm := I.1
  unfold p_take yp_take q_take yq_take
  rw [← e_first I h]
  by_cases h1 : p_first u h < 0
  · simp only [if_pos h1]; exact ⟨trivial, w, rfl, I⟩
  · simp only [if_neg h1]
    obtain ⟨y, hy, rfl⟩ := hk_first hm h1
    obtain ⟨e1, I1, e2, e3⟩ := raise_rel I hy (p_first u (nI y))
    rw [e1]
    exact ⟨trivial, upd w (p_first u (nI y)).toNatClampNeg (-1), rfl, inv_set I1 _ (by decide) (Or.inl rfl)⟩
theorem r_takeLast {u v : xS} (hr : Rel u v) (h : Int32) : p_takeLast u h = yp_takeLast v h ∧ Rel (q_takeLast u h) (yq_takeLast v h) := by
  obtain ⟨w, rfl, I⟩ := hr
  unfold p_takeLast yp_takeLast q_takeLast yq_takeLast
  rw [← e_last I h]
  by_cases h1 : p_last u h < 0
  · simp only [if_pos h1]; exact ⟨trivial, w, rfl, I⟩
  · simp only [if_neg h1]
    exact ⟨trivial, upd w (p_last u h).toNatClampNeg (-1), rfl, inv_set I _ (by decide) (Or.inl rfl)⟩
/-- an entry that isn't refused: its number, its heap -/
theorem en_of {u : xS} {w : Nat → Int32} (I : Inv u w) {a : Int32} (c : p_refusalOfEntry u a = 0) : ∃ j k, j < xn u ∧ a = nI j ∧ k < xm u ∧ w a.toNatClampNeg = nI k ∧ xow u a.toNatClampNeg = nI k := by
  have hm := I.1
  have hn := I.2.1
  obtain ⟨-, ⟨j, hj, rfl⟩, h2⟩ := in_refE hn c
  rw [nI_clamp (show j < 2 ^ 31 by omega)] at h2
  rcases I.2.2.2.1 j hj with z | ⟨k, hk, z⟩
  · exact absurd (by rw [I.2.2.1 j, z]; decide) h2
  · refine ⟨j, k, hj, rfl, hk, ?_, ?_⟩
    · rw [nI_clamp (by omega)]; exact z
    · rw [nI_clamp (by omega)]; exact (own_iff I (by omega) j).mpr z
theorem r_decrease {u v : xS} (hr : Rel u v) (a : Int32) (k : Int64) : p_decrease u a k = yp_decrease v a k ∧ Rel (q_decrease u a k) (yq_decrease v a k) := by
  obtain ⟨w, rfl, I⟩ := hr
  have hm := I.1
  have hn := I.2.1
  unfold p_decrease yp_decrease q_decrease yq_decrease
  rw [e_wE I]
  by_cases h1 : p_refusalOfEntry u a = 0
  · simp only [if_pos h1]
    obtain ⟨j, y, hj, rfl, hy, hw, hx⟩ := en_of I h1
    have hw2 : xow (sOw u w) (nI j).toNatClampNeg = nI y := hw
    rw [hw2, hx, e_wt (od_of I hy), e_wt (od_of I hy), e_bl I hy]
    have e0 : xky (sOw u w) (nI j).toNatClampNeg = xky u (nI j).toNatClampNeg := rfl
    rw [e0]
    by_cases h2 : lg_cmp (p_weight (xod u (nI y).toNatClampNeg) k) (p_weight (xod u (nI y).toNatClampNeg) (xky u (nI j).toNatClampNeg)) ≤ 0
    · simp only [if_pos h2]
      by_cases h3 : p_isBelowFloor u (nI y) k = 0
      · simp only [if_pos h3]
        have J : Inv (sKy u (vp_updL (xky u) (nI j).toNatClampNeg k)) w := I
        have e4 : yp_rank (sKy (sOw u w) (vp_updL (xky u) (nI j).toNatClampNeg k)) (nI j) = nI (p_countBeforeL (sKy u (vp_updL (xky u) (nI j).toNatClampNeg k)) (nI y) (nI j) (xn u)) := by
          show nI (yp_rankL (sOw (sKy u (vp_updL (xky u) (nI j).toNatClampNeg k)) w) (nI j) (xn u)) = _
          rw [e_rank J hy hw (xn u) (by omega)]
        have ox : xow (sKy u (vp_updL (xky u) (nI j).toNatClampNeg k)) j = nI y := by
          rw [nI_clamp (by omega)] at hx
          exact hx
        have e5 := ff_cb (u := sKy u (vp_updL (xky u) (nI j).toNatClampNeg k)) (b := j) hn hj ox
        have cle : p_countBeforeL (sKy u (vp_updL (xky u) (nI j).toNatClampNeg k)) (nI y) (nI j) (xn u) ≤ xn u := cb_le _ _ _ _
        have e6 : nI (p_countBeforeL (sKy u (vp_updL (xky u) (nI j).toNatClampNeg k)) (nI y) (nI j) (xn u)) = 0 ↔ p_countBeforeL (sKy u (vp_updL (xky u) (nI j).toNatClampNeg k)) (nI y) (nI j) (xn u) = 0 := by
          rw [← nI_0]
          exact nI_eq (by omega) (by decide)
        have eK : vp_updL (xky (sOw u w)) (nI j).toNatClampNeg k = vp_updL (xky u) (nI j).toNatClampNeg k := rfl
        rw [eK, e4]
        by_cases h4 : p_findFirst (sKy u (vp_updL (xky u) (nI j).toNatClampNeg k)) (nI y) = nI j
        · rw [if_pos h4, if_pos (e6.mpr (e5.mp h4)), if_pos h4, if_pos (e6.mpr (e5.mp h4))]
          exact ⟨rfl, w, rfl, J⟩
        · rw [if_neg h4, if_neg (fun q => h4 (e5.mpr (e6.mp q))), if_neg h4, if_neg (fun q => h4 (e5.mpr (e6.mp q)))]
          exact ⟨rfl, w, rfl, J⟩
      · simp only [if_neg h3]; exact ⟨trivial, w, rfl, I⟩
    · simp only [if_neg h2]; exact ⟨trivial, w, rfl, I⟩
  · simp only [if_neg h1]; exact ⟨trivial, w, rfl, I⟩
end
section
theorem r_delete {u v : xS} (hr : Rel u v) (a : Int32) : p_delete u a = yp_delete v a ∧ Rel (q_delete u a) (yq_delete v a) := by
  obtain ⟨w, rfl, I⟩ := hr
  have hm := I.1
  unfold p_delete yp_delete q_delete yq_delete p_owner
  rw [e_wE I]
  by_cases h1 : p_refusalOfEntry u a = 0
  · simp only [if_pos h1]
    obtain ⟨j, y, hj, rfl, hy, hw, hx⟩ := en_of I h1
    have hw2 : xow (sOw u w) (nI j).toNatClampNeg = nI y := hw
    rw [hw2, hx, if_neg (nI_pos (by omega)), if_neg (nI_pos (by omega))]
    exact ⟨rfl, upd w (nI j).toNatClampNeg (-1), rfl, inv_set I _ (by decide) (Or.inl rfl)⟩
  · simp only [if_neg h1]
    rw [if_pos (refE_neg h1), if_pos (refE_neg h1)]
    exact ⟨rfl, w, rfl, I⟩
theorem r_size {u v : xS} (hr : Rel u v) (h : Int32) : p_size u h = yp_size v h ∧ Rel u v := by
  refine ⟨?_, hr⟩
  obtain ⟨w, rfl, I⟩ := hr
  have hm := I.1
  unfold p_size yp_size
  rw [e_wH]
  by_cases h1 : p_refusalOfHeap u h = 0
  · obtain ⟨y, hy, rfl⟩ := hk_of hm h1
    rw [if_pos h1, if_pos h1]
    show nI (p_countEntriesL u (nI y) (xn u)) = nI (yp_manyL (sOw u w) (nI y) (xn u))
    rw [e_cnt I (by omega)]
  · rw [if_neg h1, if_neg h1]
theorem r_floor {u v : xS} (hr : Rel u v) (h : Int32) : p_floor u h = yp_floor v h ∧ Rel u v := by
  refine ⟨?_, hr⟩
  obtain ⟨w, rfl, I⟩ := hr
  have hm := I.1
  unfold p_floor yp_floor
  rw [e_wH]
  by_cases h1 : p_isHeap u h = 0
  · have h2 : ¬ p_refusalOfHeap u h = 0 := by
      unfold p_refusalOfHeap
      rw [if_pos h1]; decide
    rw [if_pos h1, if_neg h2]
  · rw [if_neg h1]
    obtain ⟨y, hy, rfl⟩ := hk_isHeap hm h1
    by_cases h2 : p_refusalOfHeap u (nI y) = 0
    · rw [if_pos h2]
    · rw [if_neg h2, nI_clamp (by omega)]
      have h3 : ¬ xab u y = 0 := by
        intro q
        refine h2 ?_
        unfold p_refusalOfHeap
        rw [if_neg h1, nI_clamp (by omega), if_pos q]
      refine I.2.2.2.2.2.1 y hy (fun q => ?_)
      have := (I.2.2.2.2.2.2 y h3).2
      rw [q] at this
      exact absurd this (by decide)
theorem r_key {u v : xS} (hr : Rel u v) (a : Int32) : p_key u a = yp_key v a ∧ Rel u v := by
  refine ⟨?_, hr⟩
  obtain ⟨w, rfl, I⟩ := hr
  unfold p_key yp_key
  rw [e_wE I]
theorem r_value {u v : xS} (hr : Rel u v) (a : Int32) : p_value u a = yp_value v a ∧ Rel u v := by
  refine ⟨?_, hr⟩
  obtain ⟨w, rfl, I⟩ := hr
  unfold p_value yp_value
  rw [e_wE I]
theorem r_owner {u v : xS} (hr : Rel u v) (a : Int32) : p_owner u a = yp_owner v a ∧ Rel u v := by
  refine ⟨?_, hr⟩
  obtain ⟨w, rfl, I⟩ := hr
  unfold p_owner yp_owner
  rw [e_wE I]
  by_cases h1 : p_refusalOfEntry u a = 0
  · obtain ⟨j, y, hj, rfl, hy, hw, hx⟩ := en_of I h1
    have hw2 : xow (sOw u w) (nI j).toNatClampNeg = nI y := hw
    rw [hw2, hx]
  · rw [if_neg h1, if_neg h1]
theorem r_before {u v : xS} (hr : Rel u v) (a : Int32) : p_before u a = yp_before v a ∧ Rel u v := by
  refine ⟨?_, hr⟩
  obtain ⟨w, rfl, I⟩ := hr
  have hn := I.2.1
  unfold p_before yp_before
  rw [e_wE I]
  by_cases h1 : p_refusalOfEntry u a = 0
  · rw [if_pos h1, if_pos h1]
    obtain ⟨j, y, hj, rfl, hy, hw, hx⟩ := en_of I h1
    rw [hx]
    show nI (p_countBeforeL u (nI y) (nI j) (xn u)) = nI (yp_rankL (sOw u w) (nI j) (xn u))
    rw [e_rank I hy hw (xn u) (by omega)]
  · rw [if_neg h1, if_neg h1]
theorem r_clear {u v : xS} (hr : Rel u v) (h : Int32) : p_clear u h = yp_clear v h ∧ Rel (q_clear u h) (yq_clear v h) := by
  obtain ⟨w, rfl, I⟩ := hr
  have hm := I.1
  unfold p_clear yp_clear q_clear yq_clear
  rw [e_wH]
  by_cases h1 : p_refusalOfHeap u h = 0
  · obtain ⟨y, hy, rfl⟩ := hk_of hm h1
    simp only [if_pos h1]
    refine ⟨?_, yq_clearL (sOw u w) (nI y) (xn u), rfl, I.1, I.2.1, fun j => ?_, fun j hj => ?_, I.2.2.2.2.1, fun x hx hk => ?_, I.2.2.2.2.2.2⟩
    · show nI (p_handOverAllL (sFl u (vp_updL (xfl u) (nI y).toNatClampNeg (-9223372036854775808))) (nI y) (-4) (xn u)) = nI (yp_manyL (sOw u w) (nI y) (xn u))
      rw [ho_cnt, e_cnt I (by omega)]
      exact congrArg nI (cnt_ow (u := sFl u (vp_updL (xfl u) (nI y).toNatClampNeg (-9223372036854775808))) (v := u) rfl _ _)
    · show q_handOverAllL (sFl u (vp_updL (xfl u) (nI y).toNatClampNeg (-9223372036854775808))) (nI y) (-4) (xn u) j = _
      rw [ho_form, yc_form]
      show (if j < xn u ∧ xow u j = nI y then (-4 : Int32) else xow u j) = (if (if j < xn u ∧ w j = nI y then (-1 : Int32) else w j) < 0 then -4 else (if j < xn u ∧ w j = nI y then (-1 : Int32) else w j))
      by_cases c : j < xn u ∧ w j = nI y
      · rw [if_pos ⟨c.1, (own_iff I (by omega) j).mpr c.2⟩, if_pos c, if_pos (by decide : (-1 : Int32) < 0)]
      · rw [if_neg (fun q => c ⟨q.1, (own_iff I (by omega) j).mp q.2⟩), if_neg c]
        exact I.2.2.1 j
    · rw [yc_form]
      show (if j < xn u ∧ w j = nI y then (-1 : Int32) else w j) = -1 ∨ ∃ h, h < xm u ∧ (if j < xn u ∧ w j = nI y then (-1 : Int32) else w j) = nI h
      by_cases c : j < xn u ∧ w j = nI y
      · rw [if_pos c]; exact Or.inl rfl
      · rw [if_neg c]; exact I.2.2.2.1 j hj
    · show vp_updL (xfl u) (nI y).toNatClampNeg (-9223372036854775808) x = _
      rw [updL_at]
      by_cases e : x = (nI y).toNatClampNeg
      · rw [if_pos e]
      · rw [if_neg e]; exact I.2.2.2.2.2.1 x hx hk
  · simp only [if_neg h1]; exact ⟨trivial, w, rfl, I⟩
theorem r_meld {u v : xS} (hr : Rel u v) (a b : Int32) : p_meld u a b = yp_meld v a b ∧ Rel (q_meld u a b) (yq_meld v a b) := by
  obtain ⟨w, rfl, I⟩ := hr
  have hm := I.1
  unfold p_meld yp_meld q_meld yq_meld
  rw [e_wP]
  by_cases h1 : p_refusalOfPair u a b = 0
  · simp only [if_pos h1]
    have ha : ∃ k, k < xm u ∧ a = nI k := by
      refine hk_of hm ?_
      unfold p_refusalOfPair at h1
      by_cases z : p_refusalOfHeap u a = 0
      · exact z
      · rw [if_neg z, if_neg z] at h1; exact absurd h1 z
    have hb : ∃ k, k < xm u ∧ b = nI k := by
      refine hk_of hm ?_
      unfold p_refusalOfPair at h1
      by_cases z : p_refusalOfHeap u a = 0
      · rw [if_pos z] at h1
        by_cases y : p_refusalOfHeap u b = 0
        · exact y
        · rw [if_neg y] at h1; exact absurd h1 y
      · rw [if_neg z, if_neg z] at h1; exact absurd h1 z
    obtain ⟨ka, hka, rfl⟩ := ha
    obtain ⟨kb, hkb, rfl⟩ := hb
    by_cases h2 : xkd u (nI ka).toNatClampNeg = 0
    · have h2' : xkd (sOw u w) (nI ka).toNatClampNeg = 0 := h2
      simp only [if_pos h2, if_pos h2']
      by_cases h3 : xkd u (nI kb).toNatClampNeg = 0
      · have h3' : xkd (sOw u w) (nI kb).toNatClampNeg = 0 := h3
        simp only [if_pos h3, if_pos h3']
        by_cases h4 : xod u (nI ka).toNatClampNeg = xod u (nI kb).toNatClampNeg
        · have h4' : xod (sOw u w) (nI ka).toNatClampNeg = xod (sOw u w) (nI kb).toNatClampNeg := h4
          rw [if_pos h4, if_pos h4', if_pos h4, if_pos h4']
          have J : Inv (sAb (q_handOverAll u (nI kb) (nI ka)) (upd (xab (q_handOverAll u (nI kb) (nI ka))) (nI kb).toNatClampNeg 1)) (yq_meldL (sOw u w) (nI ka) (nI kb) (xn u)) := by
            refine ⟨I.1, I.2.1, fun j => ?_, fun j hj => ?_, I.2.2.2.2.1, I.2.2.2.2.2.1, fun x hx => ?_⟩
            · show q_handOverAllL u (nI kb) (nI ka) (xn u) j = _
              rw [ho_form, ym_form]
              show (if j < xn u ∧ xow u j = nI kb then nI ka else xow u j) = (if (if j < xn u ∧ w j = nI kb then nI ka else w j) < 0 then -4 else (if j < xn u ∧ w j = nI kb then nI ka else w j))
              by_cases c : j < xn u ∧ w j = nI kb
              · rw [if_pos ⟨c.1, (own_iff I (by omega) j).mpr c.2⟩, if_pos c, if_neg (nI_pos (by omega))]
              · rw [if_neg (fun q => c ⟨q.1, (own_iff I (by omega) j).mp q.2⟩), if_neg c]
                exact I.2.2.1 j
            · rw [ym_form]
              show (if j < xn u ∧ w j = nI kb then nI ka else w j) = -1 ∨ ∃ h, h < xm u ∧ (if j < xn u ∧ w j = nI kb then nI ka else w j) = nI h
              by_cases c : j < xn u ∧ w j = nI kb
              · rw [if_pos c]; exact Or.inr ⟨ka, hka, rfl⟩
              · rw [if_neg c]; exact I.2.2.2.1 j hj
            · have hx : ¬ upd (xab u) (nI kb).toNatClampNeg 1 x = 0 := hx
              show x < xm u ∧ xkd u x = 0
              rw [upd_at] at hx
              by_cases e : x = (nI kb).toNatClampNeg
              · rw [e]
                refine ⟨?_, h3⟩
                rw [nI_clamp (by omega)]; exact hkb
              · rw [if_neg e] at hx; exact I.2.2.2.2.2.2 x hx
          refine ⟨?_, _, rfl, J⟩
          show nI (p_countEntriesL (sAb (q_handOverAll u (nI kb) (nI ka)) (upd (xab (q_handOverAll u (nI kb) (nI ka))) (nI kb).toNatClampNeg 1)) (nI ka) (xn u)) = nI (yp_manyL (sOw (sAb (q_handOverAll u (nI kb) (nI ka)) (upd (xab (q_handOverAll u (nI kb) (nI ka))) (nI kb).toNatClampNeg 1)) (yq_meldL (sOw u w) (nI ka) (nI kb) (xn u))) (nI ka) (xn u))
          rw [e_cnt J (by omega)]
        · have h4' : ¬ xod (sOw u w) (nI ka).toNatClampNeg = xod (sOw u w) (nI kb).toNatClampNeg := h4
          rw [if_neg h4, if_neg h4', if_neg h4, if_neg h4']
          exact ⟨rfl, w, rfl, I⟩
      · have h3' : ¬ xkd (sOw u w) (nI kb).toNatClampNeg = 0 := h3
        simp only [if_neg h3, if_neg h3']; exact ⟨trivial, w, rfl, I⟩
    · have h2' : ¬ xkd (sOw u w) (nI ka).toNatClampNeg = 0 := h2
      simp only [if_neg h2, if_neg h2']; exact ⟨trivial, w, rfl, I⟩
  · simp only [if_neg h1]; exact ⟨trivial, w, rfl, I⟩
theorem pair_of {u : xS} {a b : Int32} (hm : xm u ≤ 12) (h1 : p_refusalOfPair u a b = 0) : (∃ k, k < xm u ∧ a = nI k) ∧ (∃ k, k < xm u ∧ b = nI k) ∧ ¬ a = b := by
  unfold p_refusalOfPair at h1
  by_cases z : p_refusalOfHeap u a = 0
  · rw [if_pos z] at h1
    by_cases y : p_refusalOfHeap u b = 0
    · rw [if_pos y] at h1
      refine ⟨hk_of hm z, hk_of hm y, fun q => ?_⟩
      rw [if_pos q] at h1
      exact absurd h1 (by decide)
    · rw [if_neg y] at h1; exact absurd h1 y
  · rw [if_neg z, if_neg z] at h1; exact absurd h1 z
theorem ff_neg {u : xS} {h : Int32} (hn : xn u ≤ 160) (c : ¬ p_findFirst u h < 0) : ∃ j, j < xn u ∧ p_findFirst u h = nI j ∧ xow u j = h := by
  rcases ff_spec u h (xn u) (by omega) with ⟨e, hno⟩ | ⟨k, hk, e, hok, -⟩
  · refine absurd ?_ c
    show p_findFirstL u h (xn u) < 0
    rw [e]; decide
  · exact ⟨k, hk, e, hok⟩
theorem ff_none {u : xS} {h : Int32} (hn : xn u ≤ 160) (c : p_countEntriesL u h (xn u) = 0) : p_findFirst u h < 0 := by
  by_cases q : p_findFirst u h < 0
  · exact q
  · obtain ⟨j, hj, -, ho⟩ := ff_neg hn q
    have := cnt_pos ho (xn u) hj
    omega
theorem raise_ow (u : xS) (h : Int32) (k : Int64) : xow (q_raiseFloor u h k) = xow u := by
  unfold q_raiseFloor
  split <;> rfl
/-- more steps than entries change nothing -/
theorem dr_bound {a b : Int32} (hab : ¬ a = b) : ∀ (c d : Nat) (u : xS), xn u ≤ 160 → p_countEntriesL u a (xn u) = c → c ≤ d → q_drainL a b d u = q_drainL a b c u := by
  intro c
  induction c with
  | zero =>
    intro d u hn hc hd
    cases d with
    | zero => rfl
    | succ d => rw [q_drainL, q_drainL, if_pos (ff_none hn hc)]
  | succ c ih =>
    intro d u hn hc hd
    obtain ⟨d, rfl⟩ : ∃ d2, d = d2 + 1 := ⟨d - 1, by omega⟩
    rw [q_drainL, q_drainL]
    by_cases h1 : p_findFirst u a < 0
    · rw [if_pos h1, if_pos h1]
    · rw [if_neg h1, if_neg h1]
      by_cases h2 : p_isBelowFloor u b (xky u (p_findFirst u a).toNatClampNeg) = 0
      · rw [if_pos h2, if_pos h2]
        obtain ⟨j, hj, e, ho⟩ := ff_neg hn h1
        have key : q_drainL a b d (sOw (q_raiseFloor u a (xky u (p_findFirst u a).toNatClampNeg)) (upd (xow (q_raiseFloor u a (xky u (p_findFirst u a).toNatClampNeg))) (p_findFirst u a).toNatClampNeg b)) = q_drainL a b c (sOw (q_raiseFloor u a (xky u (p_findFirst u a).toNatClampNeg)) (upd (xow (q_raiseFloor u a (xky u (p_findFirst u a).toNatClampNeg))) (p_findFirst u a).toNatClampNeg b)) := by
          have hN : xn (sOw (q_raiseFloor u a (xky u (p_findFirst u a).toNatClampNeg)) (upd (xow (q_raiseFloor u a (xky u (p_findFirst u a).toNatClampNeg))) (p_findFirst u a).toNatClampNeg b)) = xn u := xn_raise _ _ _
          refine ih d _ (by rw [hN]; exact hn) ?_ (by omega)
          rw [hN]
          have e1 : p_countEntriesL (sOw (q_raiseFloor u a (xky u (p_findFirst u a).toNatClampNeg)) (upd (xow (q_raiseFloor u a (xky u (p_findFirst u a).toNatClampNeg))) (p_findFirst u a).toNatClampNeg b)) a (xn u) = p_countEntriesL (sOw u (upd (xow u) j b)) a (xn u) := by
            refine cnt_ow ?_ _ _
            show upd (xow (q_raiseFloor u a (xky u (p_findFirst u a).toNatClampNeg))) (p_findFirst u a).toNatClampNeg b = upd (xow u) j b
            rw [raise_ow, e, nI_clamp (by omega)]
          rw [e1]
          have := (cnt_out ho (fun q => hab q.symm) (xn u)).1 hj
          omega
        rw [key]
      · rw [if_neg h2, if_neg h2]
theorem dr_rel {ka kb : Nat} : ∀ (d : Nat) (u : xS) (w : Nat → Int32), Inv u w → ka < xm u → kb < xm u → (yq_drainL (nI ka) (nI kb) d (sOw u w)).2 = (q_drainL (nI ka) (nI kb) d u).2 ∧ Rel (q_drainL (nI ka) (nI kb) d u).1 (yq_drainL (nI ka) (nI kb) d (sOw u w)).1 := by
  intro d
  induction d with
  | zero => exact fun u w I _ _ => ⟨rfl, w, rfl, I⟩
  | succ d ih =>
    intro u w I hka hkb
    have hm := I.1
    have hn := I.2.1
    have e0 : yp_extreme (sOw u w) (nI ka) 1 = p_findFirst u (nI ka) := (e_ff I hka (xn u) (by omega)).1
    rw [yq_drainL, q_drainL, e0]
    by_cases h1 : p_findFirst u (nI ka) < 0
    · rw [if_pos h1, if_pos h1]
      exact ⟨rfl, w, rfl, I⟩
    · rw [if_neg h1, if_neg h1]
      have e1 : xky (sOw u w) (p_findFirst u (nI ka)).toNatClampNeg = xky u (p_findFirst u (nI ka)).toNatClampNeg := rfl
      rw [e1, e_bl I hkb]
      by_cases h2 : p_isBelowFloor u (nI kb) (xky u (p_findFirst u (nI ka)).toNatClampNeg) = 0
      · rw [if_pos h2, if_pos h2]
        obtain ⟨e2, I1, e3, e4⟩ := raise_rel I hka (p_findFirst u (nI ka))
        rw [e2]
        have J := inv_set I1 (p_findFirst u (nI ka)).toNatClampNeg (x := nI kb) (y := nI kb) (by rw [if_neg (nI_pos (by omega))]) (Or.inr ⟨kb, by rw [e4]; exact hkb, rfl⟩)
        have R := ih _ _ J (by show ka < xm (q_raiseFloor _ _ _); rw [e4]; exact hka) (by show kb < xm (q_raiseFloor _ _ _); rw [e4]; exact hkb)
        exact ⟨congrArg (fun z => z + 1) R.1, R.2⟩
      · rw [if_neg h2, if_neg h2]
        exact ⟨rfl, w, rfl, I⟩
theorem r_drain {u v : xS} (hr : Rel u v) (a b g : Int32) : p_drain u a b g = yp_drain v a b g ∧ Rel (q_drain u a b g) (yq_drain v a b g) := by
  obtain ⟨w, rfl, I⟩ := hr
  have hm := I.1
  have hn := I.2.1
  unfold p_drain yp_drain q_drain yq_drain
  rw [e_wP]
  by_cases h1 : p_refusalOfPair u a b = 0
  · simp only [if_pos h1]
    obtain ⟨⟨ka, hka, rfl⟩, ⟨kb, hkb, rfl⟩, hab⟩ := pair_of hm h1
    have hle := cnt_le u (nI ka) (xn u)
    have e1 : q_drainL (nI ka) (nI kb) (p_most u (nI ka) g) u = q_drainL (nI ka) (nI kb) g.toNatClampNeg u := by
      unfold p_most
      by_cases c : p_countEntries u (nI ka) < g
      · rw [if_pos c]
        have e2 : (p_countEntries u (nI ka)).toNatClampNeg = p_countEntriesL u (nI ka) (xn u) := nI_clamp (by omega)
        rw [e2]
        refine (dr_bound hab _ _ u hn rfl ?_).symm
        exact Nat.le_of_lt (cl_lt (i_nle.mpr c) (by omega))
      · rw [if_neg c]
    rw [e1]
    have R := dr_rel g.toNatClampNeg u w I hka hkb
    exact ⟨congrArg nI R.1.symm, R.2⟩
  · simp only [if_neg h1]; exact ⟨trivial, w, rfl, I⟩
theorem rel_hm {u v : xS} (hr : Rel u v) : xm u ≤ 12 := by obtain ⟨w, rfl, I⟩ := hr; exact I.1
theorem rel_hn {u v : xS} (hr : Rel u v) : xn u ≤ 160 := by obtain ⟨w, rfl, I⟩ := hr; exact I.2.1
theorem rel_ho {u v : xS} (hr : Rel u v) : ∀ j : Nat, j < xn u → xow u j = -4 ∨ vp_in (xow u j) 12 := by
  obtain ⟨w, rfl, I⟩ := hr
  have hm := I.1
  intro j hj
  rcases I.2.2.2.1 j hj with z | ⟨h, hh, z⟩
  · exact Or.inl (by rw [I.2.2.1 j, z]; decide)
  · refine Or.inr ?_
    rw [(own_iff I (by omega) j).mpr z]
    exact vp_in_nI (by omega) (by decide)
theorem yrel_hm {u v : xS} (hr : Rel u v) : xm v ≤ 12 := by obtain ⟨w, rfl, I⟩ := hr; exact I.1
theorem yrel_hn {u v : xS} (hr : Rel u v) : xn v ≤ 160 := by obtain ⟨w, rfl, I⟩ := hr; exact I.2.1
theorem yrel_ho {u v : xS} (hr : Rel u v) : ∀ j : Nat, j < xn v → xow v j = -1 ∨ vp_in (xow v j) 12 := by
  obtain ⟨w, rfl, I⟩ := hr
  have hm := I.1
  intro j hj
  rcases I.2.2.2.1 j hj with z | ⟨h, hh, z⟩
  · exact Or.inl z
  · refine Or.inr ?_
    show vp_in (w j) 12
    rw [z]
    exact vp_in_nI (by omega) (by decide)
theorem rel_0 : Rel xu0 yu0 := by
  refine ⟨fun _ => 0, rfl, Nat.zero_le _, Nat.zero_le _, fun j => ?_, fun j hj => absurd hj (Nat.not_lt_zero j), fun h hh => absurd hh (Nat.not_lt_zero h), fun h hh => absurd hh (Nat.not_lt_zero h), fun h hh => absurd rfl hh⟩
  show (0 : Int32) = if (0 : Int32) < 0 then -4 else 0
  decide
end
section
abbrev yS : Type := xS
def kyL (a b : Int32) : Int64 := (a.toInt64 <<< ((32 : Int32).toInt64 &&& 63)) ||| (b.toInt64 &&& 4294967295)
set_option maxHeartbeats 4000000 in
set_option maxRecDepth 100000 in
theorem k_open {p : Program} {l : Launch} {e : Env} {s : State} {m : MethodId} {below : List Frame} {meth : Method} {c : Code} {Q : State → Prop} {H : Heap} {locs : List Loc} {ls : Array Slot} {dC : Nat → ClassId} {dI : Nat → Nat → Nat} {G G2 : Nat → Nat} {C C2 : Nat → ClassId} {u : xS} {v : yS} {b L i : Nat} {xs : Nat → Int32} (B : CallFix p m c cL_law 4 s #[Value.ref b] lw_tbl RL) (hK : va_K (dC, dI) vwCl (xT C ++ yT C2) s) (hX : va_X b L xs s s.heap) (hbl : b < s.heap.size) (hi : i + 5 ≤ L) (hL : L ≤ 2560) (hr : Rel u v) (hP : va_P (dC, dI) vwCl (xW G C u ++ yW G2 C2 v) H) (hD : va_D (fun q => s.heap.size ≤ q) (xW G C u ++ yW G2 C2 v)) (hS : va_S (fun q => s.heap.size ≤ q) s.heap H locs) (hl : lv_has ls 4 [(3, .int (nI i)), (0, .ref b), (1, .ref (G 0)), (2, .ref (G2 0))]) (kk : ∀ (u2 : xS) (v2 : yS) (H : Heap) (locs : List Loc), Rel u2 v2 → va_P (dC, dI) vwCl (xW G C u2 ++ yW G2 C2 v2) H → va_D (fun q => s.heap.size ≤ q) (xW G C u2 ++ yW G2 C2 v2) → va_S (fun q => s.heap.size ≤ q) s.heap H locs → W p l e room_1 s m #[Value.ref b] below meth c H locs 16 1074 Q (F0 m 639 ls [])) : W p l e room_1 s m #[Value.ref b] below meth c H locs 16 1074 Q (F0 m 116 ls []) := by
  obtain ⟨hx, hb, hml, hown, hts⟩ := B
  have hbA : ¬ s.heap.size ≤ b := Nat.not_le.mpr hbl
  have hA : ∀ q : Nat, s.heap.size ≤ q → s.heap.size ≤ q := fun _ h => h
  refine lv_aload_n hx hb dL_law_116 rfl (lv_at hl 2 rfl) ?_
  refine lv_aload_n hx hb dL_law_117 rfl (lv_at hl 1 rfl) ?_
  refine lv_iload_n hx hb dL_law_118 rfl (lv_at hl 0 rfl) ?_
  refine lv_iconst (v := 1) hx hb dL_law_119 (by decide) ?_
  refine lv_iadd hx hb dL_law_120 ?_
  refine W.eq (congrArg (fun z => F0 m 121 ls (.int z :: [.ref b, .ref (G 0)])) (nI_add i 1)) ?_
  refine va_sld hx hb hX hbl hbA hS (vp_in_nI (show (i + 1) < L by omega) (by omega)) dL_law_121 ?_
  refine W.eq (congrArg (fun z => F0 m 122 ls (.int (xs z) :: [.ref (G 0)])) (nI_clamp (show (i + 1) < 2 ^ 31 by omega))) ?_
  refine lv_aload_n hx hb dL_law_122 rfl (lv_at hl 1 rfl) ?_
  refine lv_iload_n hx hb dL_law_123 rfl (lv_at hl 0 rfl) ?_
  refine lv_iconst (v := 2) hx hb dL_law_124 (by decide) ?_
  refine lv_iadd hx hb dL_law_125 ?_
  refine W.eq (congrArg (fun z => F0 m 126 ls (.int z :: [.ref b, .int (xs (i + 1)), .ref (G 0)])) (nI_add i 2)) ?_
  refine va_sld hx hb hX hbl hbA hS (vp_in_nI (show (i + 2) < L by omega) (by omega)) dL_law_126 ?_
  refine W.eq (congrArg (fun z => F0 m 127 ls (.int (xs z) :: [.int (xs (i + 1)), .ref (G 0)])) (nI_clamp (show (i + 2) < 2 ^ 31 by omega))) ?_
  have hPc := hP.sub (ws' := (xW G C u)) [0, 1, 2, 3, 4, 5, 6, 7] rfl
  have hDc := hD.sub (ws' := (xW G C u)) [0, 1, 2, 3, 4, 5, 6, 7] (by decide) rfl
  have hKc := hK.sub (tys' := xT C) [0, 1, 2, 3, 4, 5, 6] rfl
  refine xcall_i (ws := (xW G C u ++ yW G2 C2 v)) (wc := (xW G C u)) (wr := (yW G2 C2 v)) (w1 := (xW G C (q_open u (xs (i + 1)) (xs (i + 2))))) (v := (p_open u (xs (i + 1)) (xs (i + 2)))) [0, 1, 2, 3, 4, 5, 6, 7] [8, 9, 10, 11, 12, 13, 14, 15] (va_runV (As := [.int (xs (i + 1)), .int (xs (i + 2))]) (rest := []) ⟨hx, hb, hml, hown, hts⟩ (c_open l dC dI G C _ u (xs (i + 1)) (xs (i + 2)) (rel_hm hr)) (cwV 2 hts (gLup gL_law_X0_open) rfl rfl rfl (by decide +kernel) ⟨Nat.le_of_ble_eq_true rfl, Nat.le_of_ble_eq_true rfl⟩) (xpreV (q0 := 0) (ci := 0) (qc := (RX0, TX0, 9)) hKc hPc hDc rfl rfl) rfl rfl hl.1 rfl (lv_room (Nat.le_of_ble_eq_true rfl)) dL_law_127 ⟨Nat.le_of_ble_eq_true rfl, Nat.le_of_ble_eq_true rfl⟩) hP hD hS hA rfl rfl (by decide) (by decide) (fun H locs hP hD hS => ?_)
  have hP := hP.sub (ws' := (xW G C (q_open u (xs (i + 1)) (xs (i + 2))) ++ yW G2 C2 v)) [8, 9, 10, 11, 12, 13, 14, 15, 0, 1, 2, 3, 4, 5, 6, 7] rfl
  have hD := hD.sub (ws' := (xW G C (q_open u (xs (i + 1)) (xs (i + 2))) ++ yW G2 C2 v)) [8, 9, 10, 11, 12, 13, 14, 15, 0, 1, 2, 3, 4, 5, 6, 7] (by decide) rfl
  refine lv_aload_n hx hb dL_law_130 rfl (lv_at hl 3 rfl) ?_
  refine lv_aload_n hx hb dL_law_131 rfl (lv_at hl 1 rfl) ?_
  refine lv_iload_n hx hb dL_law_132 rfl (lv_at hl 0 rfl) ?_
  refine lv_iconst (v := 1) hx hb dL_law_133 (by decide) ?_
  refine lv_iadd hx hb dL_law_134 ?_
  refine W.eq (congrArg (fun z => F0 m 135 ls (.int z :: [.ref b, .ref (G2 0), .int (p_open u (xs (i + 1)) (xs (i + 2)))])) (nI_add i 1)) ?_
  refine va_sld hx hb hX hbl hbA hS (vp_in_nI (show (i + 1) < L by omega) (by omega)) dL_law_135 ?_
  refine W.eq (congrArg (fun z => F0 m 136 ls (.int (xs z) :: [.ref (G2 0), .int (p_open u (xs (i + 1)) (xs (i + 2)))])) (nI_clamp (show (i + 1) < 2 ^ 31 by omega))) ?_
  refine lv_aload_n hx hb dL_law_136 rfl (lv_at hl 1 rfl) ?_
  refine lv_iload_n hx hb dL_law_137 rfl (lv_at hl 0 rfl) ?_
  refine lv_iconst (v := 2) hx hb dL_law_138 (by decide) ?_
  refine lv_iadd hx hb dL_law_139 ?_
  refine W.eq (congrArg (fun z => F0 m 140 ls (.int z :: [.ref b, .int (xs (i + 1)), .ref (G2 0), .int (p_open u (xs (i + 1)) (xs (i + 2)))])) (nI_add i 2)) ?_
  refine va_sld hx hb hX hbl hbA hS (vp_in_nI (show (i + 2) < L by omega) (by omega)) dL_law_140 ?_
  refine W.eq (congrArg (fun z => F0 m 141 ls (.int (xs z) :: [.int (xs (i + 1)), .ref (G2 0), .int (p_open u (xs (i + 1)) (xs (i + 2)))])) (nI_clamp (show (i + 2) < 2 ^ 31 by omega))) ?_
  have hPc := hP.sub (ws' := (yW G2 C2 v)) [8, 9, 10, 11, 12, 13, 14, 15] rfl
  have hDc := hD.sub (ws' := (yW G2 C2 v)) [8, 9, 10, 11, 12, 13, 14, 15] (by decide) rfl
  have hKc := hK.sub (tys' := yT C2) [7, 8, 9, 10, 11, 12, 13] rfl
  refine xcall_i (ws := (xW G C (q_open u (xs (i + 1)) (xs (i + 2))) ++ yW G2 C2 v)) (wc := (yW G2 C2 v)) (wr := (xW G C (q_open u (xs (i + 1)) (xs (i + 2))))) (w1 := (yW G2 C2 (yq_open v (xs (i + 1)) (xs (i + 2))))) (v := (yp_open v (xs (i + 1)) (xs (i + 2)))) [8, 9, 10, 11, 12, 13, 14, 15] [0, 1, 2, 3, 4, 5, 6, 7] (va_runV (As := [.int (xs (i + 1)), .int (xs (i + 2))]) (rest := [.int (p_open u (xs (i + 1)) (xs (i + 2)))]) ⟨hx, hb, hml, hown, hts⟩ (yc_open l dC dI G2 C2 _ v (xs (i + 1)) (xs (i + 2)) (yrel_hm hr)) (cwV 2 hts gL_law_Y_open rfl rfl rfl (by decide +kernel) ⟨Nat.le_of_ble_eq_true rfl, Nat.le_of_ble_eq_true rfl⟩) (xpreV (q0 := 0) (ci := 1) (qc := (RX1, TX1, 9)) hKc hPc hDc rfl rfl) rfl rfl hl.1 rfl (lv_room (Nat.le_of_ble_eq_true rfl)) dL_law_141 ⟨Nat.le_of_ble_eq_true rfl, Nat.le_of_ble_eq_true rfl⟩) hP hD hS hA rfl rfl (by decide) (by decide) (fun H locs hP hD hS => ?_)
  have hP : va_P (dC, dI) vwCl (xW G C (q_open u (xs (i + 1)) (xs (i + 2))) ++ yW G2 C2 (yq_open v (xs (i + 1)) (xs (i + 2)))) H := hP
  have hD : va_D (fun q => s.heap.size ≤ q) (xW G C (q_open u (xs (i + 1)) (xs (i + 2))) ++ yW G2 C2 (yq_open v (xs (i + 1)) (xs (i + 2)))) := hD
  obtain ⟨ea, er⟩ := r_open hr (xs (i + 1)) (xs (i + 2))
  refine lv_icmp_eq (tgt := 639) hx hb dL_law_144 rfl (fun _ => ?_) (fun q => absurd ea q)
  exact kk (q_open u (xs (i + 1)) (xs (i + 2))) (yq_open v (xs (i + 1)) (xs (i + 2))) _ _ er hP hD hS
set_option maxHeartbeats 4000000 in
set_option maxRecDepth 100000 in
theorem k_insert {p : Program} {l : Launch} {e : Env} {s : State} {m : MethodId} {below : List Frame} {meth : Method} {c : Code} {Q : State → Prop} {H : Heap} {locs : List Loc} {ls : Array Slot} {dC : Nat → ClassId} {dI : Nat → Nat → Nat} {G G2 : Nat → Nat} {C C2 : Nat → ClassId} {u : xS} {v : yS} {b L i : Nat} {xs : Nat → Int32} (B : CallFix p m c cL_law 4 s #[Value.ref b] lw_tbl RL) (hK : va_K (dC, dI) vwCl (xT C ++ yT C2) s) (hX : va_X b L xs s s.heap) (hbl : b < s.heap.size) (hi : i + 5 ≤ L) (hL : L ≤ 2560) (hr : Rel u v) (hP : va_P (dC, dI) vwCl (xW G C u ++ yW G2 C2 v) H) (hD : va_D (fun q => s.heap.size ≤ q) (xW G C u ++ yW G2 C2 v)) (hS : va_S (fun q => s.heap.size ≤ q) s.heap H locs) (hl : lv_has ls 4 [(3, .int (nI i)), (0, .ref b), (1, .ref (G 0)), (2, .ref (G2 0))]) (kk : ∀ (u2 : xS) (v2 : yS) (H : Heap) (locs : List Loc), Rel u2 v2 → va_P (dC, dI) vwCl (xW G C u2 ++ yW G2 C2 v2) H → va_D (fun q => s.heap.size ≤ q) (xW G C u2 ++ yW G2 C2 v2) → va_S (fun q => s.heap.size ≤ q) s.heap H locs → W p l e room_1 s m #[Value.ref b] below meth c H locs 16 1074 Q (F0 m 639 ls [])) : W p l e room_1 s m #[Value.ref b] below meth c H locs 16 1074 Q (F0 m 149 ls []) := by
  obtain ⟨hx, hb, hml, hown, hts⟩ := B
  have hbA : ¬ s.heap.size ≤ b := Nat.not_le.mpr hbl
  have hA : ∀ q : Nat, s.heap.size ≤ q → s.heap.size ≤ q := fun _ h => h
  refine lv_aload_n hx hb dL_law_149 rfl (lv_at hl 2 rfl) ?_
  refine lv_aload_n hx hb dL_law_150 rfl (lv_at hl 1 rfl) ?_
  refine lv_iload_n hx hb dL_law_151 rfl (lv_at hl 0 rfl) ?_
  refine lv_iconst (v := 1) hx hb dL_law_152 (by decide) ?_
  refine lv_iadd hx hb dL_law_153 ?_
  refine W.eq (congrArg (fun z => F0 m 154 ls (.int z :: [.ref b, .ref (G 0)])) (nI_add i 1)) ?_
  refine va_sld hx hb hX hbl hbA hS (vp_in_nI (show (i + 1) < L by omega) (by omega)) dL_law_154 ?_
  refine W.eq (congrArg (fun z => F0 m 155 ls (.int (xs z) :: [.ref (G 0)])) (nI_clamp (show (i + 1) < 2 ^ 31 by omega))) ?_
  refine lv_aload_n hx hb dL_law_155 rfl (lv_at hl 1 rfl) ?_
  refine lv_iload_n hx hb dL_law_156 rfl (lv_at hl 0 rfl) ?_
  refine lv_iconst (v := 2) hx hb dL_law_157 (by decide) ?_
  refine lv_iadd hx hb dL_law_158 ?_
  refine W.eq (congrArg (fun z => F0 m 159 ls (.int z :: [.ref b, .int (xs (i + 1)), .ref (G 0)])) (nI_add i 2)) ?_
  refine va_sld hx hb hX hbl hbA hS (vp_in_nI (show (i + 2) < L by omega) (by omega)) dL_law_159 ?_
  refine W.eq (congrArg (fun z => F0 m 160 ls (.int (xs z) :: [.int (xs (i + 1)), .ref (G 0)])) (nI_clamp (show (i + 2) < 2 ^ 31 by omega))) ?_
  refine lv_i2l (v := ((xs (i + 2))).toInt64) hx hb dL_law_160 rfl ?_
  refine lv_bipush (v := 32) hx hb dL_law_161 (by decide) ?_
  refine lv_lshl (v := (((xs (i + 2))).toInt64 <<< ((32 : Int32).toInt64 &&& 63))) hx hb dL_law_163 rfl ?_
  refine lv_aload_n hx hb dL_law_164 rfl (lv_at hl 1 rfl) ?_
  refine lv_iload_n hx hb dL_law_165 rfl (lv_at hl 0 rfl) ?_
  refine lv_iconst (v := 3) hx hb dL_law_166 (by decide) ?_
  refine lv_iadd hx hb dL_law_167 ?_
  refine W.eq (congrArg (fun z => F0 m 168 ls (.int z :: [.ref b, .long (((xs (i + 2))).toInt64 <<< ((32 : Int32).toInt64 &&& 63)), .int (xs (i + 1)), .ref (G 0)])) (nI_add i 3)) ?_
  refine va_sld hx hb hX hbl hbA hS (vp_in_nI (show (i + 3) < L by omega) (by omega)) dL_law_168 ?_
  refine W.eq (congrArg (fun z => F0 m 169 ls (.int (xs z) :: [.long (((xs (i + 2))).toInt64 <<< ((32 : Int32).toInt64 &&& 63)), .int (xs (i + 1)), .ref (G 0)])) (nI_clamp (show (i + 3) < 2 ^ 31 by omega))) ?_
  refine lv_i2l (v := ((xs (i + 3))).toInt64) hx hb dL_law_169 rfl ?_
  refine lv_ldc2 (v := 4294967295) hx hb hown (hts (.constantLong RL 18 4294967295) (by decide +kernel)) dL_law_170 ?_
  refine lv_land hx hb dL_law_173 ?_
  refine lv_lor hx hb dL_law_174 ?_
  refine W.eq (g2 := F0 m 175 ls [.long (kyL (xs (i + 2)) (xs (i + 3))), .int (xs (i + 1)), .ref (G 0)]) rfl ?_
  refine lv_aload_n hx hb dL_law_175 rfl (lv_at hl 1 rfl) ?_
  refine lv_iload_n hx hb dL_law_176 rfl (lv_at hl 0 rfl) ?_
  refine lv_iconst (v := 4) hx hb dL_law_177 (by decide) ?_
  refine lv_iadd hx hb dL_law_178 ?_
  refine W.eq (congrArg (fun z => F0 m 179 ls (.int z :: [.ref b, .long (kyL (xs (i + 2)) (xs (i + 3))), .int (xs (i + 1)), .ref (G 0)])) (nI_add i 4)) ?_
  refine va_sld hx hb hX hbl hbA hS (vp_in_nI (show (i + 4) < L by omega) (by omega)) dL_law_179 ?_
  refine W.eq (congrArg (fun z => F0 m 180 ls (.int (xs z) :: [.long (kyL (xs (i + 2)) (xs (i + 3))), .int (xs (i + 1)), .ref (G 0)])) (nI_clamp (show (i + 4) < 2 ^ 31 by omega))) ?_
  have hPc := hP.sub (ws' := (xW G C u)) [0, 1, 2, 3, 4, 5, 6, 7] rfl
  have hDc := hD.sub (ws' := (xW G C u)) [0, 1, 2, 3, 4, 5, 6, 7] (by decide) rfl
  have hKc := hK.sub (tys' := xT C) [0, 1, 2, 3, 4, 5, 6] rfl
  refine xcall_i (ws := (xW G C u ++ yW G2 C2 v)) (wc := (xW G C u)) (wr := (yW G2 C2 v)) (w1 := (xW G C (q_insert u (xs (i + 1)) (kyL (xs (i + 2)) (xs (i + 3))) (xs (i + 4))))) (v := (p_insert u (xs (i + 1)) (kyL (xs (i + 2)) (xs (i + 3))) (xs (i + 4)))) [0, 1, 2, 3, 4, 5, 6, 7] [8, 9, 10, 11, 12, 13, 14, 15] (va_runV (As := [.int (xs (i + 1)), .long (kyL (xs (i + 2)) (xs (i + 3))), .int (xs (i + 4))]) (rest := []) ⟨hx, hb, hml, hown, hts⟩ (c_insert l dC dI G C _ u (xs (i + 1)) (kyL (xs (i + 2)) (xs (i + 3))) (xs (i + 4)) (rel_hm hr) (rel_hn hr)) (cwV 3 hts (gLup gL_law_X0_insert) rfl rfl rfl (by decide +kernel) ⟨Nat.le_of_ble_eq_true rfl, Nat.le_of_ble_eq_true rfl⟩) (xpreV (q0 := 0) (ci := 0) (qc := (RX0, TX0, 9)) hKc hPc hDc rfl rfl) rfl rfl hl.1 rfl (lv_room (Nat.le_of_ble_eq_true rfl)) dL_law_180 ⟨Nat.le_of_ble_eq_true rfl, Nat.le_of_ble_eq_true rfl⟩) hP hD hS hA rfl rfl (by decide) (by decide) (fun H locs hP hD hS => ?_)
  have hP := hP.sub (ws' := (xW G C (q_insert u (xs (i + 1)) (kyL (xs (i + 2)) (xs (i + 3))) (xs (i + 4))) ++ yW G2 C2 v)) [8, 9, 10, 11, 12, 13, 14, 15, 0, 1, 2, 3, 4, 5, 6, 7] rfl
  have hD := hD.sub (ws' := (xW G C (q_insert u (xs (i + 1)) (kyL (xs (i + 2)) (xs (i + 3))) (xs (i + 4))) ++ yW G2 C2 v)) [8, 9, 10, 11, 12, 13, 14, 15, 0, 1, 2, 3, 4, 5, 6, 7] (by decide) rfl
  refine lv_aload_n hx hb dL_law_183 rfl (lv_at hl 3 rfl) ?_
  refine lv_aload_n hx hb dL_law_184 rfl (lv_at hl 1 rfl) ?_
  refine lv_iload_n hx hb dL_law_185 rfl (lv_at hl 0 rfl) ?_
  refine lv_iconst (v := 1) hx hb dL_law_186 (by decide) ?_
  refine lv_iadd hx hb dL_law_187 ?_
  refine W.eq (congrArg (fun z => F0 m 188 ls (.int z :: [.ref b, .ref (G2 0), .int (p_insert u (xs (i + 1)) (kyL (xs (i + 2)) (xs (i + 3))) (xs (i + 4)))])) (nI_add i 1)) ?_
  refine va_sld hx hb hX hbl hbA hS (vp_in_nI (show (i + 1) < L by omega) (by omega)) dL_law_188 ?_
  refine W.eq (congrArg (fun z => F0 m 189 ls (.int (xs z) :: [.ref (G2 0), .int (p_insert u (xs (i + 1)) (kyL (xs (i + 2)) (xs (i + 3))) (xs (i + 4)))])) (nI_clamp (show (i + 1) < 2 ^ 31 by omega))) ?_
  refine lv_aload_n hx hb dL_law_189 rfl (lv_at hl 1 rfl) ?_
  refine lv_iload_n hx hb dL_law_190 rfl (lv_at hl 0 rfl) ?_
  refine lv_iconst (v := 2) hx hb dL_law_191 (by decide) ?_
  refine lv_iadd hx hb dL_law_192 ?_
  refine W.eq (congrArg (fun z => F0 m 193 ls (.int z :: [.ref b, .int (xs (i + 1)), .ref (G2 0), .int (p_insert u (xs (i + 1)) (kyL (xs (i + 2)) (xs (i + 3))) (xs (i + 4)))])) (nI_add i 2)) ?_
  refine va_sld hx hb hX hbl hbA hS (vp_in_nI (show (i + 2) < L by omega) (by omega)) dL_law_193 ?_
  refine W.eq (congrArg (fun z => F0 m 194 ls (.int (xs z) :: [.int (xs (i + 1)), .ref (G2 0), .int (p_insert u (xs (i + 1)) (kyL (xs (i + 2)) (xs (i + 3))) (xs (i + 4)))])) (nI_clamp (show (i + 2) < 2 ^ 31 by omega))) ?_
  refine lv_i2l (v := ((xs (i + 2))).toInt64) hx hb dL_law_194 rfl ?_
  refine lv_bipush (v := 32) hx hb dL_law_195 (by decide) ?_
  refine lv_lshl (v := (((xs (i + 2))).toInt64 <<< ((32 : Int32).toInt64 &&& 63))) hx hb dL_law_197 rfl ?_
  refine lv_aload_n hx hb dL_law_198 rfl (lv_at hl 1 rfl) ?_
  refine lv_iload_n hx hb dL_law_199 rfl (lv_at hl 0 rfl) ?_
  refine lv_iconst (v := 3) hx hb dL_law_200 (by decide) ?_
  refine lv_iadd hx hb dL_law_201 ?_
  refine W.eq (congrArg (fun z => F0 m 202 ls (.int z :: [.ref b, .long (((xs (i + 2))).toInt64 <<< ((32 : Int32).toInt64 &&& 63)), .int (xs (i + 1)), .ref (G2 0), .int (p_insert u (xs (i + 1)) (kyL (xs (i + 2)) (xs (i + 3))) (xs (i + 4)))])) (nI_add i 3)) ?_
  refine va_sld hx hb hX hbl hbA hS (vp_in_nI (show (i + 3) < L by omega) (by omega)) dL_law_202 ?_
  refine W.eq (congrArg (fun z => F0 m 203 ls (.int (xs z) :: [.long (((xs (i + 2))).toInt64 <<< ((32 : Int32).toInt64 &&& 63)), .int (xs (i + 1)), .ref (G2 0), .int (p_insert u (xs (i + 1)) (kyL (xs (i + 2)) (xs (i + 3))) (xs (i + 4)))])) (nI_clamp (show (i + 3) < 2 ^ 31 by omega))) ?_
  refine lv_i2l (v := ((xs (i + 3))).toInt64) hx hb dL_law_203 rfl ?_
  refine lv_ldc2 (v := 4294967295) hx hb hown (hts (.constantLong RL 18 4294967295) (by decide +kernel)) dL_law_204 ?_
  refine lv_land hx hb dL_law_207 ?_
  refine lv_lor hx hb dL_law_208 ?_
  refine W.eq (g2 := F0 m 209 ls [.long (kyL (xs (i + 2)) (xs (i + 3))), .int (xs (i + 1)), .ref (G2 0), .int (p_insert u (xs (i + 1)) (kyL (xs (i + 2)) (xs (i + 3))) (xs (i + 4)))]) rfl ?_
  refine lv_aload_n hx hb dL_law_209 rfl (lv_at hl 1 rfl) ?_
  refine lv_iload_n hx hb dL_law_210 rfl (lv_at hl 0 rfl) ?_
  refine lv_iconst (v := 4) hx hb dL_law_211 (by decide) ?_
  refine lv_iadd hx hb dL_law_212 ?_
  refine W.eq (congrArg (fun z => F0 m 213 ls (.int z :: [.ref b, .long (kyL (xs (i + 2)) (xs (i + 3))), .int (xs (i + 1)), .ref (G2 0), .int (p_insert u (xs (i + 1)) (kyL (xs (i + 2)) (xs (i + 3))) (xs (i + 4)))])) (nI_add i 4)) ?_
  refine va_sld hx hb hX hbl hbA hS (vp_in_nI (show (i + 4) < L by omega) (by omega)) dL_law_213 ?_
  refine W.eq (congrArg (fun z => F0 m 214 ls (.int (xs z) :: [.long (kyL (xs (i + 2)) (xs (i + 3))), .int (xs (i + 1)), .ref (G2 0), .int (p_insert u (xs (i + 1)) (kyL (xs (i + 2)) (xs (i + 3))) (xs (i + 4)))])) (nI_clamp (show (i + 4) < 2 ^ 31 by omega))) ?_
  have hPc := hP.sub (ws' := (yW G2 C2 v)) [8, 9, 10, 11, 12, 13, 14, 15] rfl
  have hDc := hD.sub (ws' := (yW G2 C2 v)) [8, 9, 10, 11, 12, 13, 14, 15] (by decide) rfl
  have hKc := hK.sub (tys' := yT C2) [7, 8, 9, 10, 11, 12, 13] rfl
  refine xcall_i (ws := (xW G C (q_insert u (xs (i + 1)) (kyL (xs (i + 2)) (xs (i + 3))) (xs (i + 4))) ++ yW G2 C2 v)) (wc := (yW G2 C2 v)) (wr := (xW G C (q_insert u (xs (i + 1)) (kyL (xs (i + 2)) (xs (i + 3))) (xs (i + 4))))) (w1 := (yW G2 C2 (yq_insert v (xs (i + 1)) (kyL (xs (i + 2)) (xs (i + 3))) (xs (i + 4))))) (v := (yp_insert v (xs (i + 1)) (kyL (xs (i + 2)) (xs (i + 3))) (xs (i + 4)))) [8, 9, 10, 11, 12, 13, 14, 15] [0, 1, 2, 3, 4, 5, 6, 7] (va_runV (As := [.int (xs (i + 1)), .long (kyL (xs (i + 2)) (xs (i + 3))), .int (xs (i + 4))]) (rest := [.int (p_insert u (xs (i + 1)) (kyL (xs (i + 2)) (xs (i + 3))) (xs (i + 4)))]) ⟨hx, hb, hml, hown, hts⟩ (yc_insert l dC dI G2 C2 _ v (xs (i + 1)) (kyL (xs (i + 2)) (xs (i + 3))) (xs (i + 4)) (yrel_hm hr) (yrel_hn hr)) (cwV 3 hts gL_law_Y_insert rfl rfl rfl (by decide +kernel) ⟨Nat.le_of_ble_eq_true rfl, Nat.le_of_ble_eq_true rfl⟩) (xpreV (q0 := 0) (ci := 1) (qc := (RX1, TX1, 9)) hKc hPc hDc rfl rfl) rfl rfl hl.1 rfl (lv_room (Nat.le_of_ble_eq_true rfl)) dL_law_214 ⟨Nat.le_of_ble_eq_true rfl, Nat.le_of_ble_eq_true rfl⟩) hP hD hS hA rfl rfl (by decide) (by decide) (fun H locs hP hD hS => ?_)
  have hP : va_P (dC, dI) vwCl (xW G C (q_insert u (xs (i + 1)) (kyL (xs (i + 2)) (xs (i + 3))) (xs (i + 4))) ++ yW G2 C2 (yq_insert v (xs (i + 1)) (kyL (xs (i + 2)) (xs (i + 3))) (xs (i + 4)))) H := hP
  have hD : va_D (fun q => s.heap.size ≤ q) (xW G C (q_insert u (xs (i + 1)) (kyL (xs (i + 2)) (xs (i + 3))) (xs (i + 4))) ++ yW G2 C2 (yq_insert v (xs (i + 1)) (kyL (xs (i + 2)) (xs (i + 3))) (xs (i + 4)))) := hD
  obtain ⟨ea, er⟩ := r_insert hr (xs (i + 1)) (kyL (xs (i + 2)) (xs (i + 3))) (xs (i + 4))
  refine lv_icmp_eq (tgt := 639) hx hb dL_law_217 rfl (fun _ => ?_) (fun q => absurd ea q)
  exact kk (q_insert u (xs (i + 1)) (kyL (xs (i + 2)) (xs (i + 3))) (xs (i + 4))) (yq_insert v (xs (i + 1)) (kyL (xs (i + 2)) (xs (i + 3))) (xs (i + 4))) _ _ er hP hD hS
set_option maxHeartbeats 4000000 in
set_option maxRecDepth 100000 in
theorem k_first {p : Program} {l : Launch} {e : Env} {s : State} {m : MethodId} {below : List Frame} {meth : Method} {c : Code} {Q : State → Prop} {H : Heap} {locs : List Loc} {ls : Array Slot} {dC : Nat → ClassId} {dI : Nat → Nat → Nat} {G G2 : Nat → Nat} {C C2 : Nat → ClassId} {u : xS} {v : yS} {b L i : Nat} {xs : Nat → Int32} (B : CallFix p m c cL_law 4 s #[Value.ref b] lw_tbl RL) (hK : va_K (dC, dI) vwCl (xT C ++ yT C2) s) (hX : va_X b L xs s s.heap) (hbl : b < s.heap.size) (hi : i + 5 ≤ L) (hL : L ≤ 2560) (hr : Rel u v) (hP : va_P (dC, dI) vwCl (xW G C u ++ yW G2 C2 v) H) (hD : va_D (fun q => s.heap.size ≤ q) (xW G C u ++ yW G2 C2 v)) (hS : va_S (fun q => s.heap.size ≤ q) s.heap H locs) (hl : lv_has ls 4 [(3, .int (nI i)), (0, .ref b), (1, .ref (G 0)), (2, .ref (G2 0))]) (kk : ∀ (u2 : xS) (v2 : yS) (H : Heap) (locs : List Loc), Rel u2 v2 → va_P (dC, dI) vwCl (xW G C u2 ++ yW G2 C2 v2) H → va_D (fun q => s.heap.size ≤ q) (xW G C u2 ++ yW G2 C2 v2) → va_S (fun q => s.heap.size ≤ q) s.heap H locs → W p l e room_1 s m #[Value.ref b] below meth c H locs 16 1074 Q (F0 m 639 ls [])) : W p l e room_1 s m #[Value.ref b] below meth c H locs 16 1074 Q (F0 m 222 ls []) := by
  obtain ⟨hx, hb, hml, hown, hts⟩ := B
  have hbA : ¬ s.heap.size ≤ b := Nat.not_le.mpr hbl
  have hA : ∀ q : Nat, s.heap.size ≤ q → s.heap.size ≤ q := fun _ h => h
  refine lv_aload_n hx hb dL_law_222 rfl (lv_at hl 2 rfl) ?_
  refine lv_aload_n hx hb dL_law_223 rfl (lv_at hl 1 rfl) ?_
  refine lv_iload_n hx hb dL_law_224 rfl (lv_at hl 0 rfl) ?_
  refine lv_iconst (v := 1) hx hb dL_law_225 (by decide) ?_
  refine lv_iadd hx hb dL_law_226 ?_
  refine W.eq (congrArg (fun z => F0 m 227 ls (.int z :: [.ref b, .ref (G 0)])) (nI_add i 1)) ?_
  refine va_sld hx hb hX hbl hbA hS (vp_in_nI (show (i + 1) < L by omega) (by omega)) dL_law_227 ?_
  refine W.eq (congrArg (fun z => F0 m 228 ls (.int (xs z) :: [.ref (G 0)])) (nI_clamp (show (i + 1) < 2 ^ 31 by omega))) ?_
  have hPc := hP.sub (ws' := (xW G C u)) [0, 1, 2, 3, 4, 5, 6, 7] rfl
  have hDc := hD.sub (ws' := (xW G C u)) [0, 1, 2, 3, 4, 5, 6, 7] (by decide) rfl
  have hKc := hK.sub (tys' := xT C) [0, 1, 2, 3, 4, 5, 6] rfl
  refine xcall_i (ws := (xW G C u ++ yW G2 C2 v)) (wc := (xW G C u)) (wr := (yW G2 C2 v)) (w1 := (xW G C u)) (v := (p_first u (xs (i + 1)))) [0, 1, 2, 3, 4, 5, 6, 7] [8, 9, 10, 11, 12, 13, 14, 15] (va_runV (As := [.int (xs (i + 1))]) (rest := []) ⟨hx, hb, hml, hown, hts⟩ (c_first l dC dI G C _ u (xs (i + 1)) (rel_hm hr) (rel_hn hr)) (cwV 1 hts (gLup gL_law_X0_first) rfl rfl rfl (by decide +kernel) ⟨Nat.le_of_ble_eq_true rfl, Nat.le_of_ble_eq_true rfl⟩) (xpreV (q0 := 0) (ci := 0) (qc := (RX0, TX0, 9)) hKc hPc hDc rfl rfl) rfl rfl hl.1 rfl (lv_room (Nat.le_of_ble_eq_true rfl)) dL_law_228 ⟨Nat.le_of_ble_eq_true rfl, Nat.le_of_ble_eq_true rfl⟩) hP hD hS hA rfl rfl (by decide) (by decide) (fun H locs hP hD hS => ?_)
  have hP := hP.sub (ws' := (xW G C u ++ yW G2 C2 v)) [8, 9, 10, 11, 12, 13, 14, 15, 0, 1, 2, 3, 4, 5, 6, 7] rfl
  have hD := hD.sub (ws' := (xW G C u ++ yW G2 C2 v)) [8, 9, 10, 11, 12, 13, 14, 15, 0, 1, 2, 3, 4, 5, 6, 7] (by decide) rfl
  refine lv_aload_n hx hb dL_law_231 rfl (lv_at hl 3 rfl) ?_
  refine lv_aload_n hx hb dL_law_232 rfl (lv_at hl 1 rfl) ?_
  refine lv_iload_n hx hb dL_law_233 rfl (lv_at hl 0 rfl) ?_
  refine lv_iconst (v := 1) hx hb dL_law_234 (by decide) ?_
  refine lv_iadd hx hb dL_law_235 ?_
  refine W.eq (congrArg (fun z => F0 m 236 ls (.int z :: [.ref b, .ref (G2 0), .int (p_first u (xs (i + 1)))])) (nI_add i 1)) ?_
  refine va_sld hx hb hX hbl hbA hS (vp_in_nI (show (i + 1) < L by omega) (by omega)) dL_law_236 ?_
  refine W.eq (congrArg (fun z => F0 m 237 ls (.int (xs z) :: [.ref (G2 0), .int (p_first u (xs (i + 1)))])) (nI_clamp (show (i + 1) < 2 ^ 31 by omega))) ?_
  have hPc := hP.sub (ws' := (yW G2 C2 v)) [8, 9, 10, 11, 12, 13, 14, 15] rfl
  have hDc := hD.sub (ws' := (yW G2 C2 v)) [8, 9, 10, 11, 12, 13, 14, 15] (by decide) rfl
  have hKc := hK.sub (tys' := yT C2) [7, 8, 9, 10, 11, 12, 13] rfl
  refine xcall_i (ws := (xW G C u ++ yW G2 C2 v)) (wc := (yW G2 C2 v)) (wr := (xW G C u)) (w1 := (yW G2 C2 v)) (v := (yp_first v (xs (i + 1)))) [8, 9, 10, 11, 12, 13, 14, 15] [0, 1, 2, 3, 4, 5, 6, 7] (va_runV (As := [.int (xs (i + 1))]) (rest := [.int (p_first u (xs (i + 1)))]) ⟨hx, hb, hml, hown, hts⟩ (yc_first l dC dI G2 C2 _ v (xs (i + 1)) (yrel_hm hr) (yrel_hn hr)) (cwV 1 hts gL_law_Y_first rfl rfl rfl (by decide +kernel) ⟨Nat.le_of_ble_eq_true rfl, Nat.le_of_ble_eq_true rfl⟩) (xpreV (q0 := 0) (ci := 1) (qc := (RX1, TX1, 9)) hKc hPc hDc rfl rfl) rfl rfl hl.1 rfl (lv_room (Nat.le_of_ble_eq_true rfl)) dL_law_237 ⟨Nat.le_of_ble_eq_true rfl, Nat.le_of_ble_eq_true rfl⟩) hP hD hS hA rfl rfl (by decide) (by decide) (fun H locs hP hD hS => ?_)
  have hP : va_P (dC, dI) vwCl (xW G C u ++ yW G2 C2 v) H := hP
  have hD : va_D (fun q => s.heap.size ≤ q) (xW G C u ++ yW G2 C2 v) := hD
  obtain ⟨ea, er⟩ := r_first hr (xs (i + 1))
  refine lv_icmp_eq (tgt := 639) hx hb dL_law_240 rfl (fun _ => ?_) (fun q => absurd ea q)
  exact kk u v _ _ er hP hD hS
set_option maxHeartbeats 4000000 in
set_option maxRecDepth 100000 in
theorem k_last {p : Program} {l : Launch} {e : Env} {s : State} {m : MethodId} {below : List Frame} {meth : Method} {c : Code} {Q : State → Prop} {H : Heap} {locs : List Loc} {ls : Array Slot} {dC : Nat → ClassId} {dI : Nat → Nat → Nat} {G G2 : Nat → Nat} {C C2 : Nat → ClassId} {u : xS} {v : yS} {b L i : Nat} {xs : Nat → Int32} (B : CallFix p m c cL_law 4 s #[Value.ref b] lw_tbl RL) (hK : va_K (dC, dI) vwCl (xT C ++ yT C2) s) (hX : va_X b L xs s s.heap) (hbl : b < s.heap.size) (hi : i + 5 ≤ L) (hL : L ≤ 2560) (hr : Rel u v) (hP : va_P (dC, dI) vwCl (xW G C u ++ yW G2 C2 v) H) (hD : va_D (fun q => s.heap.size ≤ q) (xW G C u ++ yW G2 C2 v)) (hS : va_S (fun q => s.heap.size ≤ q) s.heap H locs) (hl : lv_has ls 4 [(3, .int (nI i)), (0, .ref b), (1, .ref (G 0)), (2, .ref (G2 0))]) (kk : ∀ (u2 : xS) (v2 : yS) (H : Heap) (locs : List Loc), Rel u2 v2 → va_P (dC, dI) vwCl (xW G C u2 ++ yW G2 C2 v2) H → va_D (fun q => s.heap.size ≤ q) (xW G C u2 ++ yW G2 C2 v2) → va_S (fun q => s.heap.size ≤ q) s.heap H locs → W p l e room_1 s m #[Value.ref b] below meth c H locs 16 1074 Q (F0 m 639 ls [])) : W p l e room_1 s m #[Value.ref b] below meth c H locs 16 1074 Q (F0 m 245 ls []) := by
  obtain ⟨hx, hb, hml, hown, hts⟩ := B
  have hbA : ¬ s.heap.size ≤ b := Nat.not_le.mpr hbl
  have hA : ∀ q : Nat, s.heap.size ≤ q → s.heap.size ≤ q := fun _ h => h
  refine lv_aload_n hx hb dL_law_245 rfl (lv_at hl 2 rfl) ?_
  refine lv_aload_n hx hb dL_law_246 rfl (lv_at hl 1 rfl) ?_
  refine lv_iload_n hx hb dL_law_247 rfl (lv_at hl 0 rfl) ?_
  refine lv_iconst (v := 1) hx hb dL_law_248 (by decide) ?_
  refine lv_iadd hx hb dL_law_249 ?_
  refine W.eq (congrArg (fun z => F0 m 250 ls (.int z :: [.ref b, .ref (G 0)])) (nI_add i 1)) ?_
  refine va_sld hx hb hX hbl hbA hS (vp_in_nI (show (i + 1) < L by omega) (by omega)) dL_law_250 ?_
  refine W.eq (congrArg (fun z => F0 m 251 ls (.int (xs z) :: [.ref (G 0)])) (nI_clamp (show (i + 1) < 2 ^ 31 by omega))) ?_
  have hPc := hP.sub (ws' := (xW G C u)) [0, 1, 2, 3, 4, 5, 6, 7] rfl
  have hDc := hD.sub (ws' := (xW G C u)) [0, 1, 2, 3, 4, 5, 6, 7] (by decide) rfl
  have hKc := hK.sub (tys' := xT C) [0, 1, 2, 3, 4, 5, 6] rfl
  refine xcall_i (ws := (xW G C u ++ yW G2 C2 v)) (wc := (xW G C u)) (wr := (yW G2 C2 v)) (w1 := (xW G C u)) (v := (p_last u (xs (i + 1)))) [0, 1, 2, 3, 4, 5, 6, 7] [8, 9, 10, 11, 12, 13, 14, 15] (va_runV (As := [.int (xs (i + 1))]) (rest := []) ⟨hx, hb, hml, hown, hts⟩ (c_last l dC dI G C _ u (xs (i + 1)) (rel_hm hr) (rel_hn hr)) (cwV 1 hts (gLup gL_law_X0_last) rfl rfl rfl (by decide +kernel) ⟨Nat.le_of_ble_eq_true rfl, Nat.le_of_ble_eq_true rfl⟩) (xpreV (q0 := 0) (ci := 0) (qc := (RX0, TX0, 9)) hKc hPc hDc rfl rfl) rfl rfl hl.1 rfl (lv_room (Nat.le_of_ble_eq_true rfl)) dL_law_251 ⟨Nat.le_of_ble_eq_true rfl, Nat.le_of_ble_eq_true rfl⟩) hP hD hS hA rfl rfl (by decide) (by decide) (fun H locs hP hD hS => ?_)
  have hP := hP.sub (ws' := (xW G C u ++ yW G2 C2 v)) [8, 9, 10, 11, 12, 13, 14, 15, 0, 1, 2, 3, 4, 5, 6, 7] rfl
  have hD := hD.sub (ws' := (xW G C u ++ yW G2 C2 v)) [8, 9, 10, 11, 12, 13, 14, 15, 0, 1, 2, 3, 4, 5, 6, 7] (by decide) rfl
  refine lv_aload_n hx hb dL_law_254 rfl (lv_at hl 3 rfl) ?_
  refine lv_aload_n hx hb dL_law_255 rfl (lv_at hl 1 rfl) ?_
  refine lv_iload_n hx hb dL_law_256 rfl (lv_at hl 0 rfl) ?_
  refine lv_iconst (v := 1) hx hb dL_law_257 (by decide) ?_
  refine lv_iadd hx hb dL_law_258 ?_
  refine W.eq (congrArg (fun z => F0 m 259 ls (.int z :: [.ref b, .ref (G2 0), .int (p_last u (xs (i + 1)))])) (nI_add i 1)) ?_
  refine va_sld hx hb hX hbl hbA hS (vp_in_nI (show (i + 1) < L by omega) (by omega)) dL_law_259 ?_
  refine W.eq (congrArg (fun z => F0 m 260 ls (.int (xs z) :: [.ref (G2 0), .int (p_last u (xs (i + 1)))])) (nI_clamp (show (i + 1) < 2 ^ 31 by omega))) ?_
  have hPc := hP.sub (ws' := (yW G2 C2 v)) [8, 9, 10, 11, 12, 13, 14, 15] rfl
  have hDc := hD.sub (ws' := (yW G2 C2 v)) [8, 9, 10, 11, 12, 13, 14, 15] (by decide) rfl
  have hKc := hK.sub (tys' := yT C2) [7, 8, 9, 10, 11, 12, 13] rfl
  refine xcall_i (ws := (xW G C u ++ yW G2 C2 v)) (wc := (yW G2 C2 v)) (wr := (xW G C u)) (w1 := (yW G2 C2 v)) (v := (yp_last v (xs (i + 1)))) [8, 9, 10, 11, 12, 13, 14, 15] [0, 1, 2, 3, 4, 5, 6, 7] (va_runV (As := [.int (xs (i + 1))]) (rest := [.int (p_last u (xs (i + 1)))]) ⟨hx, hb, hml, hown, hts⟩ (yc_last l dC dI G2 C2 _ v (xs (i + 1)) (yrel_hm hr) (yrel_hn hr)) (cwV 1 hts gL_law_Y_last rfl rfl rfl (by decide +kernel) ⟨Nat.le_of_ble_eq_true rfl, Nat.le_of_ble_eq_true rfl⟩) (xpreV (q0 := 0) (ci := 1) (qc := (RX1, TX1, 9)) hKc hPc hDc rfl rfl) rfl rfl hl.1 rfl (lv_room (Nat.le_of_ble_eq_true rfl)) dL_law_260 ⟨Nat.le_of_ble_eq_true rfl, Nat.le_of_ble_eq_true rfl⟩) hP hD hS hA rfl rfl (by decide) (by decide) (fun H locs hP hD hS => ?_)
  have hP : va_P (dC, dI) vwCl (xW G C u ++ yW G2 C2 v) H := hP
  have hD : va_D (fun q => s.heap.size ≤ q) (xW G C u ++ yW G2 C2 v) := hD
  obtain ⟨ea, er⟩ := r_last hr (xs (i + 1))
  refine lv_icmp_eq (tgt := 639) hx hb dL_law_263 rfl (fun _ => ?_) (fun q => absurd ea q)
  exact kk u v _ _ er hP hD hS
set_option maxHeartbeats 4000000 in
set_option maxRecDepth 100000 in
theorem k_take {p : Program} {l : Launch} {e : Env} {s : State} {m : MethodId} {below : List Frame} {meth : Method} {c : Code} {Q : State → Prop} {H : Heap} {locs : List Loc} {ls : Array Slot} {dC : Nat → ClassId} {dI : Nat → Nat → Nat} {G G2 : Nat → Nat} {C C2 : Nat → ClassId} {u : xS} {v : yS} {b L i : Nat} {xs : Nat → Int32} (B : CallFix p m c cL_law 4 s #[Value.ref b] lw_tbl RL) (hK : va_K (dC, dI) vwCl (xT C ++ yT C2) s) (hX : va_X b L xs s s.heap) (hbl : b < s.heap.size) (hi : i + 5 ≤ L) (hL : L ≤ 2560) (hr : Rel u v) (hP : va_P (dC, dI) vwCl (xW G C u ++ yW G2 C2 v) H) (hD : va_D (fun q => s.heap.size ≤ q) (xW G C u ++ yW G2 C2 v)) (hS : va_S (fun q => s.heap.size ≤ q) s.heap H locs) (hl : lv_has ls 4 [(3, .int (nI i)), (0, .ref b), (1, .ref (G 0)), (2, .ref (G2 0))]) (kk : ∀ (u2 : xS) (v2 : yS) (H : Heap) (locs : List Loc), Rel u2 v2 → va_P (dC, dI) vwCl (xW G C u2 ++ yW G2 C2 v2) H → va_D (fun q => s.heap.size ≤ q) (xW G C u2 ++ yW G2 C2 v2) → va_S (fun q => s.heap.size ≤ q) s.heap H locs → W p l e room_1 s m #[Value.ref b] below meth c H locs 16 1074 Q (F0 m 639 ls [])) : W p l e room_1 s m #[Value.ref b] below meth c H locs 16 1074 Q (F0 m 268 ls []) := by
  obtain ⟨hx, hb, hml, hown, hts⟩ := B
  have hbA : ¬ s.heap.size ≤ b := Nat.not_le.mpr hbl
  have hA : ∀ q : Nat, s.heap.size ≤ q → s.heap.size ≤ q := fun _ h => h
  refine lv_aload_n hx hb dL_law_268 rfl (lv_at hl 2 rfl) ?_
  refine lv_aload_n hx hb dL_law_269 rfl (lv_at hl 1 rfl) ?_
  refine lv_iload_n hx hb dL_law_270 rfl (lv_at hl 0 rfl) ?_
  refine lv_iconst (v := 1) hx hb dL_law_271 (by decide) ?_
  refine lv_iadd hx hb dL_law_272 ?_
  refine W.eq (congrArg (fun z => F0 m 273 ls (.int z :: [.ref b, .ref (G 0)])) (nI_add i 1)) ?_
  refine va_sld hx hb hX hbl hbA hS (vp_in_nI (show (i + 1) < L by omega) (by omega)) dL_law_273 ?_
  refine W.eq (congrArg (fun z => F0 m 274 ls (.int (xs z) :: [.ref (G 0)])) (nI_clamp (show (i + 1) < 2 ^ 31 by omega))) ?_
  have hPc := hP.sub (ws' := (xW G C u)) [0, 1, 2, 3, 4, 5, 6, 7] rfl
  have hDc := hD.sub (ws' := (xW G C u)) [0, 1, 2, 3, 4, 5, 6, 7] (by decide) rfl
  have hKc := hK.sub (tys' := xT C) [0, 1, 2, 3, 4, 5, 6] rfl
  refine xcall_i (ws := (xW G C u ++ yW G2 C2 v)) (wc := (xW G C u)) (wr := (yW G2 C2 v)) (w1 := (xW G C (q_take u (xs (i + 1))))) (v := (p_take u (xs (i + 1)))) [0, 1, 2, 3, 4, 5, 6, 7] [8, 9, 10, 11, 12, 13, 14, 15] (va_runV (As := [.int (xs (i + 1))]) (rest := []) ⟨hx, hb, hml, hown, hts⟩ (c_take l dC dI G C _ u (xs (i + 1)) (rel_hm hr) (rel_hn hr)) (cwV 1 hts (gLup gL_law_X0_take) rfl rfl rfl (by decide +kernel) ⟨Nat.le_of_ble_eq_true rfl, Nat.le_of_ble_eq_true rfl⟩) (xpreV (q0 := 0) (ci := 0) (qc := (RX0, TX0, 9)) hKc hPc hDc rfl rfl) rfl rfl hl.1 rfl (lv_room (Nat.le_of_ble_eq_true rfl)) dL_law_274 ⟨Nat.le_of_ble_eq_true rfl, Nat.le_of_ble_eq_true rfl⟩) hP hD hS hA rfl rfl (by decide) (by decide) (fun H locs hP hD hS => ?_)
  have hP := hP.sub (ws' := (xW G C (q_take u (xs (i + 1))) ++ yW G2 C2 v)) [8, 9, 10, 11, 12, 13, 14, 15, 0, 1, 2, 3, 4, 5, 6, 7] rfl
  have hD := hD.sub (ws' := (xW G C (q_take u (xs (i + 1))) ++ yW G2 C2 v)) [8, 9, 10, 11, 12, 13, 14, 15, 0, 1, 2, 3, 4, 5, 6, 7] (by decide) rfl
  refine lv_aload_n hx hb dL_law_277 rfl (lv_at hl 3 rfl) ?_
  refine lv_aload_n hx hb dL_law_278 rfl (lv_at hl 1 rfl) ?_
  refine lv_iload_n hx hb dL_law_279 rfl (lv_at hl 0 rfl) ?_
  refine lv_iconst (v := 1) hx hb dL_law_280 (by decide) ?_
  refine lv_iadd hx hb dL_law_281 ?_
  refine W.eq (congrArg (fun z => F0 m 282 ls (.int z :: [.ref b, .ref (G2 0), .int (p_take u (xs (i + 1)))])) (nI_add i 1)) ?_
  refine va_sld hx hb hX hbl hbA hS (vp_in_nI (show (i + 1) < L by omega) (by omega)) dL_law_282 ?_
  refine W.eq (congrArg (fun z => F0 m 283 ls (.int (xs z) :: [.ref (G2 0), .int (p_take u (xs (i + 1)))])) (nI_clamp (show (i + 1) < 2 ^ 31 by omega))) ?_
  have hPc := hP.sub (ws' := (yW G2 C2 v)) [8, 9, 10, 11, 12, 13, 14, 15] rfl
  have hDc := hD.sub (ws' := (yW G2 C2 v)) [8, 9, 10, 11, 12, 13, 14, 15] (by decide) rfl
  have hKc := hK.sub (tys' := yT C2) [7, 8, 9, 10, 11, 12, 13] rfl
  refine xcall_i (ws := (xW G C (q_take u (xs (i + 1))) ++ yW G2 C2 v)) (wc := (yW G2 C2 v)) (wr := (xW G C (q_take u (xs (i + 1))))) (w1 := (yW G2 C2 (yq_take v (xs (i + 1))))) (v := (yp_take v (xs (i + 1)))) [8, 9, 10, 11, 12, 13, 14, 15] [0, 1, 2, 3, 4, 5, 6, 7] (va_runV (As := [.int (xs (i + 1))]) (rest := [.int (p_take u (xs (i + 1)))]) ⟨hx, hb, hml, hown, hts⟩ (yc_take l dC dI G2 C2 _ v (xs (i + 1)) (yrel_hm hr) (yrel_hn hr)) (cwV 1 hts gL_law_Y_take rfl rfl rfl (by decide +kernel) ⟨Nat.le_of_ble_eq_true rfl, Nat.le_of_ble_eq_true rfl⟩) (xpreV (q0 := 0) (ci := 1) (qc := (RX1, TX1, 9)) hKc hPc hDc rfl rfl) rfl rfl hl.1 rfl (lv_room (Nat.le_of_ble_eq_true rfl)) dL_law_283 ⟨Nat.le_of_ble_eq_true rfl, Nat.le_of_ble_eq_true rfl⟩) hP hD hS hA rfl rfl (by decide) (by decide) (fun H locs hP hD hS => ?_)
  have hP : va_P (dC, dI) vwCl (xW G C (q_take u (xs (i + 1))) ++ yW G2 C2 (yq_take v (xs (i + 1)))) H := hP
  have hD : va_D (fun q => s.heap.size ≤ q) (xW G C (q_take u (xs (i + 1))) ++ yW G2 C2 (yq_take v (xs (i + 1)))) := hD
  obtain ⟨ea, er⟩ := r_take hr (xs (i + 1))
  refine lv_icmp_eq (tgt := 639) hx hb dL_law_286 rfl (fun _ => ?_) (fun q => absurd ea q)
  exact kk (q_take u (xs (i + 1))) (yq_take v (xs (i + 1))) _ _ er hP hD hS
set_option maxHeartbeats 4000000 in
set_option maxRecDepth 100000 in
theorem k_takeLast {p : Program} {l : Launch} {e : Env} {s : State} {m : MethodId} {below : List Frame} {meth : Method} {c : Code} {Q : State → Prop} {H : Heap} {locs : List Loc} {ls : Array Slot} {dC : Nat → ClassId} {dI : Nat → Nat → Nat} {G G2 : Nat → Nat} {C C2 : Nat → ClassId} {u : xS} {v : yS} {b L i : Nat} {xs : Nat → Int32} (B : CallFix p m c cL_law 4 s #[Value.ref b] lw_tbl RL) (hK : va_K (dC, dI) vwCl (xT C ++ yT C2) s) (hX : va_X b L xs s s.heap) (hbl : b < s.heap.size) (hi : i + 5 ≤ L) (hL : L ≤ 2560) (hr : Rel u v) (hP : va_P (dC, dI) vwCl (xW G C u ++ yW G2 C2 v) H) (hD : va_D (fun q => s.heap.size ≤ q) (xW G C u ++ yW G2 C2 v)) (hS : va_S (fun q => s.heap.size ≤ q) s.heap H locs) (hl : lv_has ls 4 [(3, .int (nI i)), (0, .ref b), (1, .ref (G 0)), (2, .ref (G2 0))]) (kk : ∀ (u2 : xS) (v2 : yS) (H : Heap) (locs : List Loc), Rel u2 v2 → va_P (dC, dI) vwCl (xW G C u2 ++ yW G2 C2 v2) H → va_D (fun q => s.heap.size ≤ q) (xW G C u2 ++ yW G2 C2 v2) → va_S (fun q => s.heap.size ≤ q) s.heap H locs → W p l e room_1 s m #[Value.ref b] below meth c H locs 16 1074 Q (F0 m 639 ls [])) : W p l e room_1 s m #[Value.ref b] below meth c H locs 16 1074 Q (F0 m 291 ls []) := by
  obtain ⟨hx, hb, hml, hown, hts⟩ := B
  have hbA : ¬ s.heap.size ≤ b := Nat.not_le.mpr hbl
  have hA : ∀ q : Nat, s.heap.size ≤ q → s.heap.size ≤ q := fun _ h => h
  refine lv_aload_n hx hb dL_law_291 rfl (lv_at hl 2 rfl) ?_
  refine lv_aload_n hx hb dL_law_292 rfl (lv_at hl 1 rfl) ?_
  refine lv_iload_n hx hb dL_law_293 rfl (lv_at hl 0 rfl) ?_
  refine lv_iconst (v := 1) hx hb dL_law_294 (by decide) ?_
  refine lv_iadd hx hb dL_law_295 ?_
  refine W.eq (congrArg (fun z => F0 m 296 ls (.int z :: [.ref b, .ref (G 0)])) (nI_add i 1)) ?_
  refine va_sld hx hb hX hbl hbA hS (vp_in_nI (show (i + 1) < L by omega) (by omega)) dL_law_296 ?_
  refine W.eq (congrArg (fun z => F0 m 297 ls (.int (xs z) :: [.ref (G 0)])) (nI_clamp (show (i + 1) < 2 ^ 31 by omega))) ?_
  have hPc := hP.sub (ws' := (xW G C u)) [0, 1, 2, 3, 4, 5, 6, 7] rfl
  have hDc := hD.sub (ws' := (xW G C u)) [0, 1, 2, 3, 4, 5, 6, 7] (by decide) rfl
  have hKc := hK.sub (tys' := xT C) [0, 1, 2, 3, 4, 5, 6] rfl
  refine xcall_i (ws := (xW G C u ++ yW G2 C2 v)) (wc := (xW G C u)) (wr := (yW G2 C2 v)) (w1 := (xW G C (q_takeLast u (xs (i + 1))))) (v := (p_takeLast u (xs (i + 1)))) [0, 1, 2, 3, 4, 5, 6, 7] [8, 9, 10, 11, 12, 13, 14, 15] (va_runV (As := [.int (xs (i + 1))]) (rest := []) ⟨hx, hb, hml, hown, hts⟩ (c_takeLast l dC dI G C _ u (xs (i + 1)) (rel_hm hr) (rel_hn hr)) (cwV 1 hts (gLup gL_law_X0_takeLast) rfl rfl rfl (by decide +kernel) ⟨Nat.le_of_ble_eq_true rfl, Nat.le_of_ble_eq_true rfl⟩) (xpreV (q0 := 0) (ci := 0) (qc := (RX0, TX0, 9)) hKc hPc hDc rfl rfl) rfl rfl hl.1 rfl (lv_room (Nat.le_of_ble_eq_true rfl)) dL_law_297 ⟨Nat.le_of_ble_eq_true rfl, Nat.le_of_ble_eq_true rfl⟩) hP hD hS hA rfl rfl (by decide) (by decide) (fun H locs hP hD hS => ?_)
  have hP := hP.sub (ws' := (xW G C (q_takeLast u (xs (i + 1))) ++ yW G2 C2 v)) [8, 9, 10, 11, 12, 13, 14, 15, 0, 1, 2, 3, 4, 5, 6, 7] rfl
  have hD := hD.sub (ws' := (xW G C (q_takeLast u (xs (i + 1))) ++ yW G2 C2 v)) [8, 9, 10, 11, 12, 13, 14, 15, 0, 1, 2, 3, 4, 5, 6, 7] (by decide) rfl
  refine lv_aload_n hx hb dL_law_300 rfl (lv_at hl 3 rfl) ?_
  refine lv_aload_n hx hb dL_law_301 rfl (lv_at hl 1 rfl) ?_
  refine lv_iload_n hx hb dL_law_302 rfl (lv_at hl 0 rfl) ?_
  refine lv_iconst (v := 1) hx hb dL_law_303 (by decide) ?_
  refine lv_iadd hx hb dL_law_304 ?_
  refine W.eq (congrArg (fun z => F0 m 305 ls (.int z :: [.ref b, .ref (G2 0), .int (p_takeLast u (xs (i + 1)))])) (nI_add i 1)) ?_
  refine va_sld hx hb hX hbl hbA hS (vp_in_nI (show (i + 1) < L by omega) (by omega)) dL_law_305 ?_
  refine W.eq (congrArg (fun z => F0 m 306 ls (.int (xs z) :: [.ref (G2 0), .int (p_takeLast u (xs (i + 1)))])) (nI_clamp (show (i + 1) < 2 ^ 31 by omega))) ?_
  have hPc := hP.sub (ws' := (yW G2 C2 v)) [8, 9, 10, 11, 12, 13, 14, 15] rfl
  have hDc := hD.sub (ws' := (yW G2 C2 v)) [8, 9, 10, 11, 12, 13, 14, 15] (by decide) rfl
  have hKc := hK.sub (tys' := yT C2) [7, 8, 9, 10, 11, 12, 13] rfl
  refine xcall_i (ws := (xW G C (q_takeLast u (xs (i + 1))) ++ yW G2 C2 v)) (wc := (yW G2 C2 v)) (wr := (xW G C (q_takeLast u (xs (i + 1))))) (w1 := (yW G2 C2 (yq_takeLast v (xs (i + 1))))) (v := (yp_takeLast v (xs (i + 1)))) [8, 9, 10, 11, 12, 13, 14, 15] [0, 1, 2, 3, 4, 5, 6, 7] (va_runV (As := [.int (xs (i + 1))]) (rest := [.int (p_takeLast u (xs (i + 1)))]) ⟨hx, hb, hml, hown, hts⟩ (yc_takeLast l dC dI G2 C2 _ v (xs (i + 1)) (yrel_hm hr) (yrel_hn hr)) (cwV 1 hts gL_law_Y_takeLast rfl rfl rfl (by decide +kernel) ⟨Nat.le_of_ble_eq_true rfl, Nat.le_of_ble_eq_true rfl⟩) (xpreV (q0 := 0) (ci := 1) (qc := (RX1, TX1, 9)) hKc hPc hDc rfl rfl) rfl rfl hl.1 rfl (lv_room (Nat.le_of_ble_eq_true rfl)) dL_law_306 ⟨Nat.le_of_ble_eq_true rfl, Nat.le_of_ble_eq_true rfl⟩) hP hD hS hA rfl rfl (by decide) (by decide) (fun H locs hP hD hS => ?_)
  have hP : va_P (dC, dI) vwCl (xW G C (q_takeLast u (xs (i + 1))) ++ yW G2 C2 (yq_takeLast v (xs (i + 1)))) H := hP
  have hD : va_D (fun q => s.heap.size ≤ q) (xW G C (q_takeLast u (xs (i + 1))) ++ yW G2 C2 (yq_takeLast v (xs (i + 1)))) := hD
  obtain ⟨ea, er⟩ := r_takeLast hr (xs (i + 1))
  refine lv_icmp_eq (tgt := 639) hx hb dL_law_309 rfl (fun _ => ?_) (fun q => absurd ea q)
  exact kk (q_takeLast u (xs (i + 1))) (yq_takeLast v (xs (i + 1))) _ _ er hP hD hS
set_option maxHeartbeats 4000000 in
set_option maxRecDepth 100000 in
theorem k_decrease {p : Program} {l : Launch} {e : Env} {s : State} {m : MethodId} {below : List Frame} {meth : Method} {c : Code} {Q : State → Prop} {H : Heap} {locs : List Loc} {ls : Array Slot} {dC : Nat → ClassId} {dI : Nat → Nat → Nat} {G G2 : Nat → Nat} {C C2 : Nat → ClassId} {u : xS} {v : yS} {b L i : Nat} {xs : Nat → Int32} (B : CallFix p m c cL_law 4 s #[Value.ref b] lw_tbl RL) (hK : va_K (dC, dI) vwCl (xT C ++ yT C2) s) (hX : va_X b L xs s s.heap) (hbl : b < s.heap.size) (hi : i + 5 ≤ L) (hL : L ≤ 2560) (hr : Rel u v) (hP : va_P (dC, dI) vwCl (xW G C u ++ yW G2 C2 v) H) (hD : va_D (fun q => s.heap.size ≤ q) (xW G C u ++ yW G2 C2 v)) (hS : va_S (fun q => s.heap.size ≤ q) s.heap H locs) (hl : lv_has ls 4 [(3, .int (nI i)), (0, .ref b), (1, .ref (G 0)), (2, .ref (G2 0))]) (kk : ∀ (u2 : xS) (v2 : yS) (H : Heap) (locs : List Loc), Rel u2 v2 → va_P (dC, dI) vwCl (xW G C u2 ++ yW G2 C2 v2) H → va_D (fun q => s.heap.size ≤ q) (xW G C u2 ++ yW G2 C2 v2) → va_S (fun q => s.heap.size ≤ q) s.heap H locs → W p l e room_1 s m #[Value.ref b] below meth c H locs 16 1074 Q (F0 m 639 ls [])) : W p l e room_1 s m #[Value.ref b] below meth c H locs 16 1074 Q (F0 m 314 ls []) := by
  obtain ⟨hx, hb, hml, hown, hts⟩ := B
  have hbA : ¬ s.heap.size ≤ b := Nat.not_le.mpr hbl
  have hA : ∀ q : Nat, s.heap.size ≤ q → s.heap.size ≤ q := fun _ h => h
  refine lv_aload_n hx hb dL_law_314 rfl (lv_at hl 2 rfl) ?_
  refine lv_aload_n hx hb dL_law_315 rfl (lv_at hl 1 rfl) ?_
  refine lv_iload_n hx hb dL_law_316 rfl (lv_at hl 0 rfl) ?_
  refine lv_iconst (v := 1) hx hb dL_law_317 (by decide) ?_
  refine lv_iadd hx hb dL_law_318 ?_
  refine W.eq (congrArg (fun z => F0 m 319 ls (.int z :: [.ref b, .ref (G 0)])) (nI_add i 1)) ?_
  refine va_sld hx hb hX hbl hbA hS (vp_in_nI (show (i + 1) < L by omega) (by omega)) dL_law_319 ?_
  refine W.eq (congrArg (fun z => F0 m 320 ls (.int (xs z) :: [.ref (G 0)])) (nI_clamp (show (i + 1) < 2 ^ 31 by omega))) ?_
  refine lv_aload_n hx hb dL_law_320 rfl (lv_at hl 1 rfl) ?_
  refine lv_iload_n hx hb dL_law_321 rfl (lv_at hl 0 rfl) ?_
  refine lv_iconst (v := 2) hx hb dL_law_322 (by decide) ?_
  refine lv_iadd hx hb dL_law_323 ?_
  refine W.eq (congrArg (fun z => F0 m 324 ls (.int z :: [.ref b, .int (xs (i + 1)), .ref (G 0)])) (nI_add i 2)) ?_
  refine va_sld hx hb hX hbl hbA hS (vp_in_nI (show (i + 2) < L by omega) (by omega)) dL_law_324 ?_
  refine W.eq (congrArg (fun z => F0 m 325 ls (.int (xs z) :: [.int (xs (i + 1)), .ref (G 0)])) (nI_clamp (show (i + 2) < 2 ^ 31 by omega))) ?_
  refine lv_i2l (v := ((xs (i + 2))).toInt64) hx hb dL_law_325 rfl ?_
  refine lv_bipush (v := 32) hx hb dL_law_326 (by decide) ?_
  refine lv_lshl (v := (((xs (i + 2))).toInt64 <<< ((32 : Int32).toInt64 &&& 63))) hx hb dL_law_328 rfl ?_
  refine lv_aload_n hx hb dL_law_329 rfl (lv_at hl 1 rfl) ?_
  refine lv_iload_n hx hb dL_law_330 rfl (lv_at hl 0 rfl) ?_
  refine lv_iconst (v := 3) hx hb dL_law_331 (by decide) ?_
  refine lv_iadd hx hb dL_law_332 ?_
  refine W.eq (congrArg (fun z => F0 m 333 ls (.int z :: [.ref b, .long (((xs (i + 2))).toInt64 <<< ((32 : Int32).toInt64 &&& 63)), .int (xs (i + 1)), .ref (G 0)])) (nI_add i 3)) ?_
  refine va_sld hx hb hX hbl hbA hS (vp_in_nI (show (i + 3) < L by omega) (by omega)) dL_law_333 ?_
  refine W.eq (congrArg (fun z => F0 m 334 ls (.int (xs z) :: [.long (((xs (i + 2))).toInt64 <<< ((32 : Int32).toInt64 &&& 63)), .int (xs (i + 1)), .ref (G 0)])) (nI_clamp (show (i + 3) < 2 ^ 31 by omega))) ?_
  refine lv_i2l (v := ((xs (i + 3))).toInt64) hx hb dL_law_334 rfl ?_
  refine lv_ldc2 (v := 4294967295) hx hb hown (hts (.constantLong RL 18 4294967295) (by decide +kernel)) dL_law_335 ?_
  refine lv_land hx hb dL_law_338 ?_
  refine lv_lor hx hb dL_law_339 ?_
  refine W.eq (g2 := F0 m 340 ls [.long (kyL (xs (i + 2)) (xs (i + 3))), .int (xs (i + 1)), .ref (G 0)]) rfl ?_
  have hPc := hP.sub (ws' := (xW G C u)) [0, 1, 2, 3, 4, 5, 6, 7] rfl
  have hDc := hD.sub (ws' := (xW G C u)) [0, 1, 2, 3, 4, 5, 6, 7] (by decide) rfl
  have hKc := hK.sub (tys' := xT C) [0, 1, 2, 3, 4, 5, 6] rfl
  refine xcall_i (ws := (xW G C u ++ yW G2 C2 v)) (wc := (xW G C u)) (wr := (yW G2 C2 v)) (w1 := (xW G C (q_decrease u (xs (i + 1)) (kyL (xs (i + 2)) (xs (i + 3)))))) (v := (p_decrease u (xs (i + 1)) (kyL (xs (i + 2)) (xs (i + 3))))) [0, 1, 2, 3, 4, 5, 6, 7] [8, 9, 10, 11, 12, 13, 14, 15] (va_runV (As := [.int (xs (i + 1)), .long (kyL (xs (i + 2)) (xs (i + 3)))]) (rest := []) ⟨hx, hb, hml, hown, hts⟩ (c_decrease l dC dI G C _ u (xs (i + 1)) (kyL (xs (i + 2)) (xs (i + 3))) (rel_hn hr) (rel_ho hr)) (cwV 2 hts (gLup gL_law_X0_decrease) rfl rfl rfl (by decide +kernel) ⟨Nat.le_of_ble_eq_true rfl, Nat.le_of_ble_eq_true rfl⟩) (xpreV (q0 := 0) (ci := 0) (qc := (RX0, TX0, 9)) hKc hPc hDc rfl rfl) rfl rfl hl.1 rfl (lv_room (Nat.le_of_ble_eq_true rfl)) dL_law_340 ⟨Nat.le_of_ble_eq_true rfl, Nat.le_of_ble_eq_true rfl⟩) hP hD hS hA rfl rfl (by decide) (by decide) (fun H locs hP hD hS => ?_)
  have hP := hP.sub (ws' := (xW G C (q_decrease u (xs (i + 1)) (kyL (xs (i + 2)) (xs (i + 3)))) ++ yW G2 C2 v)) [8, 9, 10, 11, 12, 13, 14, 15, 0, 1, 2, 3, 4, 5, 6, 7] rfl
  have hD := hD.sub (ws' := (xW G C (q_decrease u (xs (i + 1)) (kyL (xs (i + 2)) (xs (i + 3)))) ++ yW G2 C2 v)) [8, 9, 10, 11, 12, 13, 14, 15, 0, 1, 2, 3, 4, 5, 6, 7] (by decide) rfl
  refine lv_aload_n hx hb dL_law_343 rfl (lv_at hl 3 rfl) ?_
  refine lv_aload_n hx hb dL_law_344 rfl (lv_at hl 1 rfl) ?_
  refine lv_iload_n hx hb dL_law_345 rfl (lv_at hl 0 rfl) ?_
  refine lv_iconst (v := 1) hx hb dL_law_346 (by decide) ?_
  refine lv_iadd hx hb dL_law_347 ?_
  refine W.eq (congrArg (fun z => F0 m 348 ls (.int z :: [.ref b, .ref (G2 0), .int (p_decrease u (xs (i + 1)) (kyL (xs (i + 2)) (xs (i + 3))))])) (nI_add i 1)) ?_
  refine va_sld hx hb hX hbl hbA hS (vp_in_nI (show (i + 1) < L by omega) (by omega)) dL_law_348 ?_
  refine W.eq (congrArg (fun z => F0 m 349 ls (.int (xs z) :: [.ref (G2 0), .int (p_decrease u (xs (i + 1)) (kyL (xs (i + 2)) (xs (i + 3))))])) (nI_clamp (show (i + 1) < 2 ^ 31 by omega))) ?_
  refine lv_aload_n hx hb dL_law_349 rfl (lv_at hl 1 rfl) ?_
  refine lv_iload_n hx hb dL_law_350 rfl (lv_at hl 0 rfl) ?_
  refine lv_iconst (v := 2) hx hb dL_law_351 (by decide) ?_
  refine lv_iadd hx hb dL_law_352 ?_
  refine W.eq (congrArg (fun z => F0 m 353 ls (.int z :: [.ref b, .int (xs (i + 1)), .ref (G2 0), .int (p_decrease u (xs (i + 1)) (kyL (xs (i + 2)) (xs (i + 3))))])) (nI_add i 2)) ?_
  refine va_sld hx hb hX hbl hbA hS (vp_in_nI (show (i + 2) < L by omega) (by omega)) dL_law_353 ?_
  refine W.eq (congrArg (fun z => F0 m 354 ls (.int (xs z) :: [.int (xs (i + 1)), .ref (G2 0), .int (p_decrease u (xs (i + 1)) (kyL (xs (i + 2)) (xs (i + 3))))])) (nI_clamp (show (i + 2) < 2 ^ 31 by omega))) ?_
  refine lv_i2l (v := ((xs (i + 2))).toInt64) hx hb dL_law_354 rfl ?_
  refine lv_bipush (v := 32) hx hb dL_law_355 (by decide) ?_
  refine lv_lshl (v := (((xs (i + 2))).toInt64 <<< ((32 : Int32).toInt64 &&& 63))) hx hb dL_law_357 rfl ?_
  refine lv_aload_n hx hb dL_law_358 rfl (lv_at hl 1 rfl) ?_
  refine lv_iload_n hx hb dL_law_359 rfl (lv_at hl 0 rfl) ?_
  refine lv_iconst (v := 3) hx hb dL_law_360 (by decide) ?_
  refine lv_iadd hx hb dL_law_361 ?_
  refine W.eq (congrArg (fun z => F0 m 362 ls (.int z :: [.ref b, .long (((xs (i + 2))).toInt64 <<< ((32 : Int32).toInt64 &&& 63)), .int (xs (i + 1)), .ref (G2 0), .int (p_decrease u (xs (i + 1)) (kyL (xs (i + 2)) (xs (i + 3))))])) (nI_add i 3)) ?_
  refine va_sld hx hb hX hbl hbA hS (vp_in_nI (show (i + 3) < L by omega) (by omega)) dL_law_362 ?_
  refine W.eq (congrArg (fun z => F0 m 363 ls (.int (xs z) :: [.long (((xs (i + 2))).toInt64 <<< ((32 : Int32).toInt64 &&& 63)), .int (xs (i + 1)), .ref (G2 0), .int (p_decrease u (xs (i + 1)) (kyL (xs (i + 2)) (xs (i + 3))))])) (nI_clamp (show (i + 3) < 2 ^ 31 by omega))) ?_
  refine lv_i2l (v := ((xs (i + 3))).toInt64) hx hb dL_law_363 rfl ?_
  refine lv_ldc2 (v := 4294967295) hx hb hown (hts (.constantLong RL 18 4294967295) (by decide +kernel)) dL_law_364 ?_
  refine lv_land hx hb dL_law_367 ?_
  refine lv_lor hx hb dL_law_368 ?_
  refine W.eq (g2 := F0 m 369 ls [.long (kyL (xs (i + 2)) (xs (i + 3))), .int (xs (i + 1)), .ref (G2 0), .int (p_decrease u (xs (i + 1)) (kyL (xs (i + 2)) (xs (i + 3))))]) rfl ?_
  have hPc := hP.sub (ws' := (yW G2 C2 v)) [8, 9, 10, 11, 12, 13, 14, 15] rfl
  have hDc := hD.sub (ws' := (yW G2 C2 v)) [8, 9, 10, 11, 12, 13, 14, 15] (by decide) rfl
  have hKc := hK.sub (tys' := yT C2) [7, 8, 9, 10, 11, 12, 13] rfl
  refine xcall_i (ws := (xW G C (q_decrease u (xs (i + 1)) (kyL (xs (i + 2)) (xs (i + 3)))) ++ yW G2 C2 v)) (wc := (yW G2 C2 v)) (wr := (xW G C (q_decrease u (xs (i + 1)) (kyL (xs (i + 2)) (xs (i + 3)))))) (w1 := (yW G2 C2 (yq_decrease v (xs (i + 1)) (kyL (xs (i + 2)) (xs (i + 3)))))) (v := (yp_decrease v (xs (i + 1)) (kyL (xs (i + 2)) (xs (i + 3))))) [8, 9, 10, 11, 12, 13, 14, 15] [0, 1, 2, 3, 4, 5, 6, 7] (va_runV (As := [.int (xs (i + 1)), .long (kyL (xs (i + 2)) (xs (i + 3)))]) (rest := [.int (p_decrease u (xs (i + 1)) (kyL (xs (i + 2)) (xs (i + 3))))]) ⟨hx, hb, hml, hown, hts⟩ (yc_decrease l dC dI G2 C2 _ v (xs (i + 1)) (kyL (xs (i + 2)) (xs (i + 3))) (yrel_hn hr) (yrel_ho hr)) (cwV 2 hts gL_law_Y_decrease rfl rfl rfl (by decide +kernel) ⟨Nat.le_of_ble_eq_true rfl, Nat.le_of_ble_eq_true rfl⟩) (xpreV (q0 := 0) (ci := 1) (qc := (RX1, TX1, 9)) hKc hPc hDc rfl rfl) rfl rfl hl.1 rfl (lv_room (Nat.le_of_ble_eq_true rfl)) dL_law_369 ⟨Nat.le_of_ble_eq_true rfl, Nat.le_of_ble_eq_true rfl⟩) hP hD hS hA rfl rfl (by decide) (by decide) (fun H locs hP hD hS => ?_)
  have hP : va_P (dC, dI) vwCl (xW G C (q_decrease u (xs (i + 1)) (kyL (xs (i + 2)) (xs (i + 3)))) ++ yW G2 C2 (yq_decrease v (xs (i + 1)) (kyL (xs (i + 2)) (xs (i + 3))))) H := hP
  have hD : va_D (fun q => s.heap.size ≤ q) (xW G C (q_decrease u (xs (i + 1)) (kyL (xs (i + 2)) (xs (i + 3)))) ++ yW G2 C2 (yq_decrease v (xs (i + 1)) (kyL (xs (i + 2)) (xs (i + 3))))) := hD
  obtain ⟨ea, er⟩ := r_decrease hr (xs (i + 1)) (kyL (xs (i + 2)) (xs (i + 3)))
  refine lv_icmp_eq (tgt := 639) hx hb dL_law_372 rfl (fun _ => ?_) (fun q => absurd ea q)
  exact kk (q_decrease u (xs (i + 1)) (kyL (xs (i + 2)) (xs (i + 3)))) (yq_decrease v (xs (i + 1)) (kyL (xs (i + 2)) (xs (i + 3)))) _ _ er hP hD hS
set_option maxHeartbeats 4000000 in
set_option maxRecDepth 100000 in
theorem k_delete {p : Program} {l : Launch} {e : Env} {s : State} {m : MethodId} {below : List Frame} {meth : Method} {c : Code} {Q : State → Prop} {H : Heap} {locs : List Loc} {ls : Array Slot} {dC : Nat → ClassId} {dI : Nat → Nat → Nat} {G G2 : Nat → Nat} {C C2 : Nat → ClassId} {u : xS} {v : yS} {b L i : Nat} {xs : Nat → Int32} (B : CallFix p m c cL_law 4 s #[Value.ref b] lw_tbl RL) (hK : va_K (dC, dI) vwCl (xT C ++ yT C2) s) (hX : va_X b L xs s s.heap) (hbl : b < s.heap.size) (hi : i + 5 ≤ L) (hL : L ≤ 2560) (hr : Rel u v) (hP : va_P (dC, dI) vwCl (xW G C u ++ yW G2 C2 v) H) (hD : va_D (fun q => s.heap.size ≤ q) (xW G C u ++ yW G2 C2 v)) (hS : va_S (fun q => s.heap.size ≤ q) s.heap H locs) (hl : lv_has ls 4 [(3, .int (nI i)), (0, .ref b), (1, .ref (G 0)), (2, .ref (G2 0))]) (kk : ∀ (u2 : xS) (v2 : yS) (H : Heap) (locs : List Loc), Rel u2 v2 → va_P (dC, dI) vwCl (xW G C u2 ++ yW G2 C2 v2) H → va_D (fun q => s.heap.size ≤ q) (xW G C u2 ++ yW G2 C2 v2) → va_S (fun q => s.heap.size ≤ q) s.heap H locs → W p l e room_1 s m #[Value.ref b] below meth c H locs 16 1074 Q (F0 m 639 ls [])) : W p l e room_1 s m #[Value.ref b] below meth c H locs 16 1074 Q (F0 m 377 ls []) := by
  obtain ⟨hx, hb, hml, hown, hts⟩ := B
  have hbA : ¬ s.heap.size ≤ b := Nat.not_le.mpr hbl
  have hA : ∀ q : Nat, s.heap.size ≤ q → s.heap.size ≤ q := fun _ h => h
  refine lv_aload_n hx hb dL_law_377 rfl (lv_at hl 2 rfl) ?_
  refine lv_aload_n hx hb dL_law_378 rfl (lv_at hl 1 rfl) ?_
  refine lv_iload_n hx hb dL_law_379 rfl (lv_at hl 0 rfl) ?_
  refine lv_iconst (v := 1) hx hb dL_law_380 (by decide) ?_
  refine lv_iadd hx hb dL_law_381 ?_
  refine W.eq (congrArg (fun z => F0 m 382 ls (.int z :: [.ref b, .ref (G 0)])) (nI_add i 1)) ?_
  refine va_sld hx hb hX hbl hbA hS (vp_in_nI (show (i + 1) < L by omega) (by omega)) dL_law_382 ?_
  refine W.eq (congrArg (fun z => F0 m 383 ls (.int (xs z) :: [.ref (G 0)])) (nI_clamp (show (i + 1) < 2 ^ 31 by omega))) ?_
  have hPc := hP.sub (ws' := (xW G C u)) [0, 1, 2, 3, 4, 5, 6, 7] rfl
  have hDc := hD.sub (ws' := (xW G C u)) [0, 1, 2, 3, 4, 5, 6, 7] (by decide) rfl
  have hKc := hK.sub (tys' := xT C) [0, 1, 2, 3, 4, 5, 6] rfl
  refine xcall_i (ws := (xW G C u ++ yW G2 C2 v)) (wc := (xW G C u)) (wr := (yW G2 C2 v)) (w1 := (xW G C (q_delete u (xs (i + 1))))) (v := (p_delete u (xs (i + 1)))) [0, 1, 2, 3, 4, 5, 6, 7] [8, 9, 10, 11, 12, 13, 14, 15] (va_runV (As := [.int (xs (i + 1))]) (rest := []) ⟨hx, hb, hml, hown, hts⟩ (c_delete l dC dI G C _ u (xs (i + 1)) (rel_hn hr)) (cwV 1 hts (gLup gL_law_X0_delete) rfl rfl rfl (by decide +kernel) ⟨Nat.le_of_ble_eq_true rfl, Nat.le_of_ble_eq_true rfl⟩) (xpreV (q0 := 0) (ci := 0) (qc := (RX0, TX0, 9)) hKc hPc hDc rfl rfl) rfl rfl hl.1 rfl (lv_room (Nat.le_of_ble_eq_true rfl)) dL_law_383 ⟨Nat.le_of_ble_eq_true rfl, Nat.le_of_ble_eq_true rfl⟩) hP hD hS hA rfl rfl (by decide) (by decide) (fun H locs hP hD hS => ?_)
  have hP := hP.sub (ws' := (xW G C (q_delete u (xs (i + 1))) ++ yW G2 C2 v)) [8, 9, 10, 11, 12, 13, 14, 15, 0, 1, 2, 3, 4, 5, 6, 7] rfl
  have hD := hD.sub (ws' := (xW G C (q_delete u (xs (i + 1))) ++ yW G2 C2 v)) [8, 9, 10, 11, 12, 13, 14, 15, 0, 1, 2, 3, 4, 5, 6, 7] (by decide) rfl
  refine lv_aload_n hx hb dL_law_386 rfl (lv_at hl 3 rfl) ?_
  refine lv_aload_n hx hb dL_law_387 rfl (lv_at hl 1 rfl) ?_
  refine lv_iload_n hx hb dL_law_388 rfl (lv_at hl 0 rfl) ?_
  refine lv_iconst (v := 1) hx hb dL_law_389 (by decide) ?_
  refine lv_iadd hx hb dL_law_390 ?_
  refine W.eq (congrArg (fun z => F0 m 391 ls (.int z :: [.ref b, .ref (G2 0), .int (p_delete u (xs (i + 1)))])) (nI_add i 1)) ?_
  refine va_sld hx hb hX hbl hbA hS (vp_in_nI (show (i + 1) < L by omega) (by omega)) dL_law_391 ?_
  refine W.eq (congrArg (fun z => F0 m 392 ls (.int (xs z) :: [.ref (G2 0), .int (p_delete u (xs (i + 1)))])) (nI_clamp (show (i + 1) < 2 ^ 31 by omega))) ?_
  have hPc := hP.sub (ws' := (yW G2 C2 v)) [8, 9, 10, 11, 12, 13, 14, 15] rfl
  have hDc := hD.sub (ws' := (yW G2 C2 v)) [8, 9, 10, 11, 12, 13, 14, 15] (by decide) rfl
  have hKc := hK.sub (tys' := yT C2) [7, 8, 9, 10, 11, 12, 13] rfl
  refine xcall_i (ws := (xW G C (q_delete u (xs (i + 1))) ++ yW G2 C2 v)) (wc := (yW G2 C2 v)) (wr := (xW G C (q_delete u (xs (i + 1))))) (w1 := (yW G2 C2 (yq_delete v (xs (i + 1))))) (v := (yp_delete v (xs (i + 1)))) [8, 9, 10, 11, 12, 13, 14, 15] [0, 1, 2, 3, 4, 5, 6, 7] (va_runV (As := [.int (xs (i + 1))]) (rest := [.int (p_delete u (xs (i + 1)))]) ⟨hx, hb, hml, hown, hts⟩ (yc_delete l dC dI G2 C2 _ v (xs (i + 1)) (yrel_hn hr)) (cwV 1 hts gL_law_Y_delete rfl rfl rfl (by decide +kernel) ⟨Nat.le_of_ble_eq_true rfl, Nat.le_of_ble_eq_true rfl⟩) (xpreV (q0 := 0) (ci := 1) (qc := (RX1, TX1, 9)) hKc hPc hDc rfl rfl) rfl rfl hl.1 rfl (lv_room (Nat.le_of_ble_eq_true rfl)) dL_law_392 ⟨Nat.le_of_ble_eq_true rfl, Nat.le_of_ble_eq_true rfl⟩) hP hD hS hA rfl rfl (by decide) (by decide) (fun H locs hP hD hS => ?_)
  have hP : va_P (dC, dI) vwCl (xW G C (q_delete u (xs (i + 1))) ++ yW G2 C2 (yq_delete v (xs (i + 1)))) H := hP
  have hD : va_D (fun q => s.heap.size ≤ q) (xW G C (q_delete u (xs (i + 1))) ++ yW G2 C2 (yq_delete v (xs (i + 1)))) := hD
  obtain ⟨ea, er⟩ := r_delete hr (xs (i + 1))
  refine lv_icmp_eq (tgt := 639) hx hb dL_law_395 rfl (fun _ => ?_) (fun q => absurd ea q)
  exact kk (q_delete u (xs (i + 1))) (yq_delete v (xs (i + 1))) _ _ er hP hD hS
set_option maxHeartbeats 4000000 in
set_option maxRecDepth 100000 in
theorem k_meld {p : Program} {l : Launch} {e : Env} {s : State} {m : MethodId} {below : List Frame} {meth : Method} {c : Code} {Q : State → Prop} {H : Heap} {locs : List Loc} {ls : Array Slot} {dC : Nat → ClassId} {dI : Nat → Nat → Nat} {G G2 : Nat → Nat} {C C2 : Nat → ClassId} {u : xS} {v : yS} {b L i : Nat} {xs : Nat → Int32} (B : CallFix p m c cL_law 4 s #[Value.ref b] lw_tbl RL) (hK : va_K (dC, dI) vwCl (xT C ++ yT C2) s) (hX : va_X b L xs s s.heap) (hbl : b < s.heap.size) (hi : i + 5 ≤ L) (hL : L ≤ 2560) (hr : Rel u v) (hP : va_P (dC, dI) vwCl (xW G C u ++ yW G2 C2 v) H) (hD : va_D (fun q => s.heap.size ≤ q) (xW G C u ++ yW G2 C2 v)) (hS : va_S (fun q => s.heap.size ≤ q) s.heap H locs) (hl : lv_has ls 4 [(3, .int (nI i)), (0, .ref b), (1, .ref (G 0)), (2, .ref (G2 0))]) (kk : ∀ (u2 : xS) (v2 : yS) (H : Heap) (locs : List Loc), Rel u2 v2 → va_P (dC, dI) vwCl (xW G C u2 ++ yW G2 C2 v2) H → va_D (fun q => s.heap.size ≤ q) (xW G C u2 ++ yW G2 C2 v2) → va_S (fun q => s.heap.size ≤ q) s.heap H locs → W p l e room_1 s m #[Value.ref b] below meth c H locs 16 1074 Q (F0 m 639 ls [])) : W p l e room_1 s m #[Value.ref b] below meth c H locs 16 1074 Q (F0 m 400 ls []) := by
  obtain ⟨hx, hb, hml, hown, hts⟩ := B
  have hbA : ¬ s.heap.size ≤ b := Nat.not_le.mpr hbl
  have hA : ∀ q : Nat, s.heap.size ≤ q → s.heap.size ≤ q := fun _ h => h
  refine lv_aload_n hx hb dL_law_400 rfl (lv_at hl 2 rfl) ?_
  refine lv_aload_n hx hb dL_law_401 rfl (lv_at hl 1 rfl) ?_
  refine lv_iload_n hx hb dL_law_402 rfl (lv_at hl 0 rfl) ?_
  refine lv_iconst (v := 1) hx hb dL_law_403 (by decide) ?_
  refine lv_iadd hx hb dL_law_404 ?_
  refine W.eq (congrArg (fun z => F0 m 405 ls (.int z :: [.ref b, .ref (G 0)])) (nI_add i 1)) ?_
  refine va_sld hx hb hX hbl hbA hS (vp_in_nI (show (i + 1) < L by omega) (by omega)) dL_law_405 ?_
  refine W.eq (congrArg (fun z => F0 m 406 ls (.int (xs z) :: [.ref (G 0)])) (nI_clamp (show (i + 1) < 2 ^ 31 by omega))) ?_
  refine lv_aload_n hx hb dL_law_406 rfl (lv_at hl 1 rfl) ?_
  refine lv_iload_n hx hb dL_law_407 rfl (lv_at hl 0 rfl) ?_
  refine lv_iconst (v := 2) hx hb dL_law_408 (by decide) ?_
  refine lv_iadd hx hb dL_law_409 ?_
  refine W.eq (congrArg (fun z => F0 m 410 ls (.int z :: [.ref b, .int (xs (i + 1)), .ref (G 0)])) (nI_add i 2)) ?_
  refine va_sld hx hb hX hbl hbA hS (vp_in_nI (show (i + 2) < L by omega) (by omega)) dL_law_410 ?_
  refine W.eq (congrArg (fun z => F0 m 411 ls (.int (xs z) :: [.int (xs (i + 1)), .ref (G 0)])) (nI_clamp (show (i + 2) < 2 ^ 31 by omega))) ?_
  have hPc := hP.sub (ws' := (xW G C u)) [0, 1, 2, 3, 4, 5, 6, 7] rfl
  have hDc := hD.sub (ws' := (xW G C u)) [0, 1, 2, 3, 4, 5, 6, 7] (by decide) rfl
  have hKc := hK.sub (tys' := xT C) [0, 1, 2, 3, 4, 5, 6] rfl
  refine xcall_i (ws := (xW G C u ++ yW G2 C2 v)) (wc := (xW G C u)) (wr := (yW G2 C2 v)) (w1 := (xW G C (q_meld u (xs (i + 1)) (xs (i + 2))))) (v := (p_meld u (xs (i + 1)) (xs (i + 2)))) [0, 1, 2, 3, 4, 5, 6, 7] [8, 9, 10, 11, 12, 13, 14, 15] (va_runV (As := [.int (xs (i + 1)), .int (xs (i + 2))]) (rest := []) ⟨hx, hb, hml, hown, hts⟩ (c_meld l dC dI G C _ u (xs (i + 1)) (xs (i + 2)) (rel_hm hr) (rel_hn hr)) (cwV 2 hts (gLup gL_law_X0_meld) rfl rfl rfl (by decide +kernel) ⟨Nat.le_of_ble_eq_true rfl, Nat.le_of_ble_eq_true rfl⟩) (xpreV (q0 := 0) (ci := 0) (qc := (RX0, TX0, 9)) hKc hPc hDc rfl rfl) rfl rfl hl.1 rfl (lv_room (Nat.le_of_ble_eq_true rfl)) dL_law_411 ⟨Nat.le_of_ble_eq_true rfl, Nat.le_of_ble_eq_true rfl⟩) hP hD hS hA rfl rfl (by decide) (by decide) (fun H locs hP hD hS => ?_)
  have hP := hP.sub (ws' := (xW G C (q_meld u (xs (i + 1)) (xs (i + 2))) ++ yW G2 C2 v)) [8, 9, 10, 11, 12, 13, 14, 15, 0, 1, 2, 3, 4, 5, 6, 7] rfl
  have hD := hD.sub (ws' := (xW G C (q_meld u (xs (i + 1)) (xs (i + 2))) ++ yW G2 C2 v)) [8, 9, 10, 11, 12, 13, 14, 15, 0, 1, 2, 3, 4, 5, 6, 7] (by decide) rfl
  refine lv_aload_n hx hb dL_law_414 rfl (lv_at hl 3 rfl) ?_
  refine lv_aload_n hx hb dL_law_415 rfl (lv_at hl 1 rfl) ?_
  refine lv_iload_n hx hb dL_law_416 rfl (lv_at hl 0 rfl) ?_
  refine lv_iconst (v := 1) hx hb dL_law_417 (by decide) ?_
  refine lv_iadd hx hb dL_law_418 ?_
  refine W.eq (congrArg (fun z => F0 m 419 ls (.int z :: [.ref b, .ref (G2 0), .int (p_meld u (xs (i + 1)) (xs (i + 2)))])) (nI_add i 1)) ?_
  refine va_sld hx hb hX hbl hbA hS (vp_in_nI (show (i + 1) < L by omega) (by omega)) dL_law_419 ?_
  refine W.eq (congrArg (fun z => F0 m 420 ls (.int (xs z) :: [.ref (G2 0), .int (p_meld u (xs (i + 1)) (xs (i + 2)))])) (nI_clamp (show (i + 1) < 2 ^ 31 by omega))) ?_
  refine lv_aload_n hx hb dL_law_420 rfl (lv_at hl 1 rfl) ?_
  refine lv_iload_n hx hb dL_law_421 rfl (lv_at hl 0 rfl) ?_
  refine lv_iconst (v := 2) hx hb dL_law_422 (by decide) ?_
  refine lv_iadd hx hb dL_law_423 ?_
  refine W.eq (congrArg (fun z => F0 m 424 ls (.int z :: [.ref b, .int (xs (i + 1)), .ref (G2 0), .int (p_meld u (xs (i + 1)) (xs (i + 2)))])) (nI_add i 2)) ?_
  refine va_sld hx hb hX hbl hbA hS (vp_in_nI (show (i + 2) < L by omega) (by omega)) dL_law_424 ?_
  refine W.eq (congrArg (fun z => F0 m 425 ls (.int (xs z) :: [.int (xs (i + 1)), .ref (G2 0), .int (p_meld u (xs (i + 1)) (xs (i + 2)))])) (nI_clamp (show (i + 2) < 2 ^ 31 by omega))) ?_
  have hPc := hP.sub (ws' := (yW G2 C2 v)) [8, 9, 10, 11, 12, 13, 14, 15] rfl
  have hDc := hD.sub (ws' := (yW G2 C2 v)) [8, 9, 10, 11, 12, 13, 14, 15] (by decide) rfl
  have hKc := hK.sub (tys' := yT C2) [7, 8, 9, 10, 11, 12, 13] rfl
  refine xcall_i (ws := (xW G C (q_meld u (xs (i + 1)) (xs (i + 2))) ++ yW G2 C2 v)) (wc := (yW G2 C2 v)) (wr := (xW G C (q_meld u (xs (i + 1)) (xs (i + 2))))) (w1 := (yW G2 C2 (yq_meld v (xs (i + 1)) (xs (i + 2))))) (v := (yp_meld v (xs (i + 1)) (xs (i + 2)))) [8, 9, 10, 11, 12, 13, 14, 15] [0, 1, 2, 3, 4, 5, 6, 7] (va_runV (As := [.int (xs (i + 1)), .int (xs (i + 2))]) (rest := [.int (p_meld u (xs (i + 1)) (xs (i + 2)))]) ⟨hx, hb, hml, hown, hts⟩ (yc_meld l dC dI G2 C2 _ v (xs (i + 1)) (xs (i + 2)) (yrel_hm hr) (yrel_hn hr)) (cwV 2 hts gL_law_Y_meld rfl rfl rfl (by decide +kernel) ⟨Nat.le_of_ble_eq_true rfl, Nat.le_of_ble_eq_true rfl⟩) (xpreV (q0 := 0) (ci := 1) (qc := (RX1, TX1, 9)) hKc hPc hDc rfl rfl) rfl rfl hl.1 rfl (lv_room (Nat.le_of_ble_eq_true rfl)) dL_law_425 ⟨Nat.le_of_ble_eq_true rfl, Nat.le_of_ble_eq_true rfl⟩) hP hD hS hA rfl rfl (by decide) (by decide) (fun H locs hP hD hS => ?_)
  have hP : va_P (dC, dI) vwCl (xW G C (q_meld u (xs (i + 1)) (xs (i + 2))) ++ yW G2 C2 (yq_meld v (xs (i + 1)) (xs (i + 2)))) H := hP
  have hD : va_D (fun q => s.heap.size ≤ q) (xW G C (q_meld u (xs (i + 1)) (xs (i + 2))) ++ yW G2 C2 (yq_meld v (xs (i + 1)) (xs (i + 2)))) := hD
  obtain ⟨ea, er⟩ := r_meld hr (xs (i + 1)) (xs (i + 2))
  refine lv_icmp_eq (tgt := 639) hx hb dL_law_428 rfl (fun _ => ?_) (fun q => absurd ea q)
  exact kk (q_meld u (xs (i + 1)) (xs (i + 2))) (yq_meld v (xs (i + 1)) (xs (i + 2))) _ _ er hP hD hS
set_option maxHeartbeats 4000000 in
set_option maxRecDepth 100000 in
theorem k_drain {p : Program} {l : Launch} {e : Env} {s : State} {m : MethodId} {below : List Frame} {meth : Method} {c : Code} {Q : State → Prop} {H : Heap} {locs : List Loc} {ls : Array Slot} {dC : Nat → ClassId} {dI : Nat → Nat → Nat} {G G2 : Nat → Nat} {C C2 : Nat → ClassId} {u : xS} {v : yS} {b L i : Nat} {xs : Nat → Int32} (B : CallFix p m c cL_law 4 s #[Value.ref b] lw_tbl RL) (hK : va_K (dC, dI) vwCl (xT C ++ yT C2) s) (hX : va_X b L xs s s.heap) (hbl : b < s.heap.size) (hi : i + 5 ≤ L) (hL : L ≤ 2560) (hr : Rel u v) (hP : va_P (dC, dI) vwCl (xW G C u ++ yW G2 C2 v) H) (hD : va_D (fun q => s.heap.size ≤ q) (xW G C u ++ yW G2 C2 v)) (hS : va_S (fun q => s.heap.size ≤ q) s.heap H locs) (hl : lv_has ls 4 [(3, .int (nI i)), (0, .ref b), (1, .ref (G 0)), (2, .ref (G2 0))]) (kk : ∀ (u2 : xS) (v2 : yS) (H : Heap) (locs : List Loc), Rel u2 v2 → va_P (dC, dI) vwCl (xW G C u2 ++ yW G2 C2 v2) H → va_D (fun q => s.heap.size ≤ q) (xW G C u2 ++ yW G2 C2 v2) → va_S (fun q => s.heap.size ≤ q) s.heap H locs → W p l e room_1 s m #[Value.ref b] below meth c H locs 16 1074 Q (F0 m 639 ls [])) : W p l e room_1 s m #[Value.ref b] below meth c H locs 16 1074 Q (F0 m 433 ls []) := by
  obtain ⟨hx, hb, hml, hown, hts⟩ := B
  have hbA : ¬ s.heap.size ≤ b := Nat.not_le.mpr hbl
  have hA : ∀ q : Nat, s.heap.size ≤ q → s.heap.size ≤ q := fun _ h => h
  refine lv_aload_n hx hb dL_law_433 rfl (lv_at hl 2 rfl) ?_
  refine lv_aload_n hx hb dL_law_434 rfl (lv_at hl 1 rfl) ?_
  refine lv_iload_n hx hb dL_law_435 rfl (lv_at hl 0 rfl) ?_
  refine lv_iconst (v := 1) hx hb dL_law_436 (by decide) ?_
  refine lv_iadd hx hb dL_law_437 ?_
  refine W.eq (congrArg (fun z => F0 m 438 ls (.int z :: [.ref b, .ref (G 0)])) (nI_add i 1)) ?_
  refine va_sld hx hb hX hbl hbA hS (vp_in_nI (show (i + 1) < L by omega) (by omega)) dL_law_438 ?_
  refine W.eq (congrArg (fun z => F0 m 439 ls (.int (xs z) :: [.ref (G 0)])) (nI_clamp (show (i + 1) < 2 ^ 31 by omega))) ?_
  refine lv_aload_n hx hb dL_law_439 rfl (lv_at hl 1 rfl) ?_
  refine lv_iload_n hx hb dL_law_440 rfl (lv_at hl 0 rfl) ?_
  refine lv_iconst (v := 2) hx hb dL_law_441 (by decide) ?_
  refine lv_iadd hx hb dL_law_442 ?_
  refine W.eq (congrArg (fun z => F0 m 443 ls (.int z :: [.ref b, .int (xs (i + 1)), .ref (G 0)])) (nI_add i 2)) ?_
  refine va_sld hx hb hX hbl hbA hS (vp_in_nI (show (i + 2) < L by omega) (by omega)) dL_law_443 ?_
  refine W.eq (congrArg (fun z => F0 m 444 ls (.int (xs z) :: [.int (xs (i + 1)), .ref (G 0)])) (nI_clamp (show (i + 2) < 2 ^ 31 by omega))) ?_
  refine lv_aload_n hx hb dL_law_444 rfl (lv_at hl 1 rfl) ?_
  refine lv_iload_n hx hb dL_law_445 rfl (lv_at hl 0 rfl) ?_
  refine lv_iconst (v := 3) hx hb dL_law_446 (by decide) ?_
  refine lv_iadd hx hb dL_law_447 ?_
  refine W.eq (congrArg (fun z => F0 m 448 ls (.int z :: [.ref b, .int (xs (i + 2)), .int (xs (i + 1)), .ref (G 0)])) (nI_add i 3)) ?_
  refine va_sld hx hb hX hbl hbA hS (vp_in_nI (show (i + 3) < L by omega) (by omega)) dL_law_448 ?_
  refine W.eq (congrArg (fun z => F0 m 449 ls (.int (xs z) :: [.int (xs (i + 2)), .int (xs (i + 1)), .ref (G 0)])) (nI_clamp (show (i + 3) < 2 ^ 31 by omega))) ?_
  have hPc := hP.sub (ws' := (xW G C u)) [0, 1, 2, 3, 4, 5, 6, 7] rfl
  have hDc := hD.sub (ws' := (xW G C u)) [0, 1, 2, 3, 4, 5, 6, 7] (by decide) rfl
  have hKc := hK.sub (tys' := xT C) [0, 1, 2, 3, 4, 5, 6] rfl
  refine xcall_i (ws := (xW G C u ++ yW G2 C2 v)) (wc := (xW G C u)) (wr := (yW G2 C2 v)) (w1 := (xW G C (q_drain u (xs (i + 1)) (xs (i + 2)) (xs (i + 3))))) (v := (p_drain u (xs (i + 1)) (xs (i + 2)) (xs (i + 3)))) [0, 1, 2, 3, 4, 5, 6, 7] [8, 9, 10, 11, 12, 13, 14, 15] (va_runV (As := [.int (xs (i + 1)), .int (xs (i + 2)), .int (xs (i + 3))]) (rest := []) ⟨hx, hb, hml, hown, hts⟩ (c_drain l dC dI G C _ u (xs (i + 1)) (xs (i + 2)) (xs (i + 3)) (rel_hm hr) (rel_hn hr)) (cwV 3 hts (gLup gL_law_X0_drain) rfl rfl rfl (by decide +kernel) ⟨Nat.le_of_ble_eq_true rfl, Nat.le_of_ble_eq_true rfl⟩) (xpreV (q0 := 0) (ci := 0) (qc := (RX0, TX0, 9)) hKc hPc hDc rfl rfl) rfl rfl hl.1 rfl (lv_room (Nat.le_of_ble_eq_true rfl)) dL_law_449 ⟨Nat.le_of_ble_eq_true rfl, Nat.le_of_ble_eq_true rfl⟩) hP hD hS hA rfl rfl (by decide) (by decide) (fun H locs hP hD hS => ?_)
  have hP := hP.sub (ws' := (xW G C (q_drain u (xs (i + 1)) (xs (i + 2)) (xs (i + 3))) ++ yW G2 C2 v)) [8, 9, 10, 11, 12, 13, 14, 15, 0, 1, 2, 3, 4, 5, 6, 7] rfl
  have hD := hD.sub (ws' := (xW G C (q_drain u (xs (i + 1)) (xs (i + 2)) (xs (i + 3))) ++ yW G2 C2 v)) [8, 9, 10, 11, 12, 13, 14, 15, 0, 1, 2, 3, 4, 5, 6, 7] (by decide) rfl
  refine lv_aload_n hx hb dL_law_452 rfl (lv_at hl 3 rfl) ?_
  refine lv_aload_n hx hb dL_law_453 rfl (lv_at hl 1 rfl) ?_
  refine lv_iload_n hx hb dL_law_454 rfl (lv_at hl 0 rfl) ?_
  refine lv_iconst (v := 1) hx hb dL_law_455 (by decide) ?_
  refine lv_iadd hx hb dL_law_456 ?_
  refine W.eq (congrArg (fun z => F0 m 457 ls (.int z :: [.ref b, .ref (G2 0), .int (p_drain u (xs (i + 1)) (xs (i + 2)) (xs (i + 3)))])) (nI_add i 1)) ?_
  refine va_sld hx hb hX hbl hbA hS (vp_in_nI (show (i + 1) < L by omega) (by omega)) dL_law_457 ?_
  refine W.eq (congrArg (fun z => F0 m 458 ls (.int (xs z) :: [.ref (G2 0), .int (p_drain u (xs (i + 1)) (xs (i + 2)) (xs (i + 3)))])) (nI_clamp (show (i + 1) < 2 ^ 31 by omega))) ?_
  refine lv_aload_n hx hb dL_law_458 rfl (lv_at hl 1 rfl) ?_
  refine lv_iload_n hx hb dL_law_459 rfl (lv_at hl 0 rfl) ?_
  refine lv_iconst (v := 2) hx hb dL_law_460 (by decide) ?_
  refine lv_iadd hx hb dL_law_461 ?_
  refine W.eq (congrArg (fun z => F0 m 462 ls (.int z :: [.ref b, .int (xs (i + 1)), .ref (G2 0), .int (p_drain u (xs (i + 1)) (xs (i + 2)) (xs (i + 3)))])) (nI_add i 2)) ?_
  refine va_sld hx hb hX hbl hbA hS (vp_in_nI (show (i + 2) < L by omega) (by omega)) dL_law_462 ?_
  refine W.eq (congrArg (fun z => F0 m 463 ls (.int (xs z) :: [.int (xs (i + 1)), .ref (G2 0), .int (p_drain u (xs (i + 1)) (xs (i + 2)) (xs (i + 3)))])) (nI_clamp (show (i + 2) < 2 ^ 31 by omega))) ?_
  refine lv_aload_n hx hb dL_law_463 rfl (lv_at hl 1 rfl) ?_
  refine lv_iload_n hx hb dL_law_464 rfl (lv_at hl 0 rfl) ?_
  refine lv_iconst (v := 3) hx hb dL_law_465 (by decide) ?_
  refine lv_iadd hx hb dL_law_466 ?_
  refine W.eq (congrArg (fun z => F0 m 467 ls (.int z :: [.ref b, .int (xs (i + 2)), .int (xs (i + 1)), .ref (G2 0), .int (p_drain u (xs (i + 1)) (xs (i + 2)) (xs (i + 3)))])) (nI_add i 3)) ?_
  refine va_sld hx hb hX hbl hbA hS (vp_in_nI (show (i + 3) < L by omega) (by omega)) dL_law_467 ?_
  refine W.eq (congrArg (fun z => F0 m 468 ls (.int (xs z) :: [.int (xs (i + 2)), .int (xs (i + 1)), .ref (G2 0), .int (p_drain u (xs (i + 1)) (xs (i + 2)) (xs (i + 3)))])) (nI_clamp (show (i + 3) < 2 ^ 31 by omega))) ?_
  have hPc := hP.sub (ws' := (yW G2 C2 v)) [8, 9, 10, 11, 12, 13, 14, 15] rfl
  have hDc := hD.sub (ws' := (yW G2 C2 v)) [8, 9, 10, 11, 12, 13, 14, 15] (by decide) rfl
  have hKc := hK.sub (tys' := yT C2) [7, 8, 9, 10, 11, 12, 13] rfl
  refine xcall_i (ws := (xW G C (q_drain u (xs (i + 1)) (xs (i + 2)) (xs (i + 3))) ++ yW G2 C2 v)) (wc := (yW G2 C2 v)) (wr := (xW G C (q_drain u (xs (i + 1)) (xs (i + 2)) (xs (i + 3))))) (w1 := (yW G2 C2 (yq_drain v (xs (i + 1)) (xs (i + 2)) (xs (i + 3))))) (v := (yp_drain v (xs (i + 1)) (xs (i + 2)) (xs (i + 3)))) [8, 9, 10, 11, 12, 13, 14, 15] [0, 1, 2, 3, 4, 5, 6, 7] (va_runV (As := [.int (xs (i + 1)), .int (xs (i + 2)), .int (xs (i + 3))]) (rest := [.int (p_drain u (xs (i + 1)) (xs (i + 2)) (xs (i + 3)))]) ⟨hx, hb, hml, hown, hts⟩ (yc_drain l dC dI G2 C2 _ v (xs (i + 1)) (xs (i + 2)) (xs (i + 3)) (yrel_hm hr) (yrel_hn hr)) (cwV 3 hts gL_law_Y_drain rfl rfl rfl (by decide +kernel) ⟨Nat.le_of_ble_eq_true rfl, Nat.le_of_ble_eq_true rfl⟩) (xpreV (q0 := 0) (ci := 1) (qc := (RX1, TX1, 9)) hKc hPc hDc rfl rfl) rfl rfl hl.1 rfl (lv_room (Nat.le_of_ble_eq_true rfl)) dL_law_468 ⟨Nat.le_of_ble_eq_true rfl, Nat.le_of_ble_eq_true rfl⟩) hP hD hS hA rfl rfl (by decide) (by decide) (fun H locs hP hD hS => ?_)
  have hP : va_P (dC, dI) vwCl (xW G C (q_drain u (xs (i + 1)) (xs (i + 2)) (xs (i + 3))) ++ yW G2 C2 (yq_drain v (xs (i + 1)) (xs (i + 2)) (xs (i + 3)))) H := hP
  have hD : va_D (fun q => s.heap.size ≤ q) (xW G C (q_drain u (xs (i + 1)) (xs (i + 2)) (xs (i + 3))) ++ yW G2 C2 (yq_drain v (xs (i + 1)) (xs (i + 2)) (xs (i + 3)))) := hD
  obtain ⟨ea, er⟩ := r_drain hr (xs (i + 1)) (xs (i + 2)) (xs (i + 3))
  refine lv_icmp_eq (tgt := 639) hx hb dL_law_471 rfl (fun _ => ?_) (fun q => absurd ea q)
  exact kk (q_drain u (xs (i + 1)) (xs (i + 2)) (xs (i + 3))) (yq_drain v (xs (i + 1)) (xs (i + 2)) (xs (i + 3))) _ _ er hP hD hS
set_option maxHeartbeats 4000000 in
set_option maxRecDepth 100000 in
theorem k_clear {p : Program} {l : Launch} {e : Env} {s : State} {m : MethodId} {below : List Frame} {meth : Method} {c : Code} {Q : State → Prop} {H : Heap} {locs : List Loc} {ls : Array Slot} {dC : Nat → ClassId} {dI : Nat → Nat → Nat} {G G2 : Nat → Nat} {C C2 : Nat → ClassId} {u : xS} {v : yS} {b L i : Nat} {xs : Nat → Int32} (B : CallFix p m c cL_law 4 s #[Value.ref b] lw_tbl RL) (hK : va_K (dC, dI) vwCl (xT C ++ yT C2) s) (hX : va_X b L xs s s.heap) (hbl : b < s.heap.size) (hi : i + 5 ≤ L) (hL : L ≤ 2560) (hr : Rel u v) (hP : va_P (dC, dI) vwCl (xW G C u ++ yW G2 C2 v) H) (hD : va_D (fun q => s.heap.size ≤ q) (xW G C u ++ yW G2 C2 v)) (hS : va_S (fun q => s.heap.size ≤ q) s.heap H locs) (hl : lv_has ls 4 [(3, .int (nI i)), (0, .ref b), (1, .ref (G 0)), (2, .ref (G2 0))]) (kk : ∀ (u2 : xS) (v2 : yS) (H : Heap) (locs : List Loc), Rel u2 v2 → va_P (dC, dI) vwCl (xW G C u2 ++ yW G2 C2 v2) H → va_D (fun q => s.heap.size ≤ q) (xW G C u2 ++ yW G2 C2 v2) → va_S (fun q => s.heap.size ≤ q) s.heap H locs → W p l e room_1 s m #[Value.ref b] below meth c H locs 16 1074 Q (F0 m 639 ls [])) : W p l e room_1 s m #[Value.ref b] below meth c H locs 16 1074 Q (F0 m 476 ls []) := by
  obtain ⟨hx, hb, hml, hown, hts⟩ := B
  have hbA : ¬ s.heap.size ≤ b := Nat.not_le.mpr hbl
  have hA : ∀ q : Nat, s.heap.size ≤ q → s.heap.size ≤ q := fun _ h => h
  refine lv_aload_n hx hb dL_law_476 rfl (lv_at hl 2 rfl) ?_
  refine lv_aload_n hx hb dL_law_477 rfl (lv_at hl 1 rfl) ?_
  refine lv_iload_n hx hb dL_law_478 rfl (lv_at hl 0 rfl) ?_
  refine lv_iconst (v := 1) hx hb dL_law_479 (by decide) ?_
  refine lv_iadd hx hb dL_law_480 ?_
  refine W.eq (congrArg (fun z => F0 m 481 ls (.int z :: [.ref b, .ref (G 0)])) (nI_add i 1)) ?_
  refine va_sld hx hb hX hbl hbA hS (vp_in_nI (show (i + 1) < L by omega) (by omega)) dL_law_481 ?_
  refine W.eq (congrArg (fun z => F0 m 482 ls (.int (xs z) :: [.ref (G 0)])) (nI_clamp (show (i + 1) < 2 ^ 31 by omega))) ?_
  have hPc := hP.sub (ws' := (xW G C u)) [0, 1, 2, 3, 4, 5, 6, 7] rfl
  have hDc := hD.sub (ws' := (xW G C u)) [0, 1, 2, 3, 4, 5, 6, 7] (by decide) rfl
  have hKc := hK.sub (tys' := xT C) [0, 1, 2, 3, 4, 5, 6] rfl
  refine xcall_i (ws := (xW G C u ++ yW G2 C2 v)) (wc := (xW G C u)) (wr := (yW G2 C2 v)) (w1 := (xW G C (q_clear u (xs (i + 1))))) (v := (p_clear u (xs (i + 1)))) [0, 1, 2, 3, 4, 5, 6, 7] [8, 9, 10, 11, 12, 13, 14, 15] (va_runV (As := [.int (xs (i + 1))]) (rest := []) ⟨hx, hb, hml, hown, hts⟩ (c_clear l dC dI G C _ u (xs (i + 1)) (rel_hm hr) (rel_hn hr)) (cwV 1 hts (gLup gL_law_X0_clear) rfl rfl rfl (by decide +kernel) ⟨Nat.le_of_ble_eq_true rfl, Nat.le_of_ble_eq_true rfl⟩) (xpreV (q0 := 0) (ci := 0) (qc := (RX0, TX0, 9)) hKc hPc hDc rfl rfl) rfl rfl hl.1 rfl (lv_room (Nat.le_of_ble_eq_true rfl)) dL_law_482 ⟨Nat.le_of_ble_eq_true rfl, Nat.le_of_ble_eq_true rfl⟩) hP hD hS hA rfl rfl (by decide) (by decide) (fun H locs hP hD hS => ?_)
  have hP := hP.sub (ws' := (xW G C (q_clear u (xs (i + 1))) ++ yW G2 C2 v)) [8, 9, 10, 11, 12, 13, 14, 15, 0, 1, 2, 3, 4, 5, 6, 7] rfl
  have hD := hD.sub (ws' := (xW G C (q_clear u (xs (i + 1))) ++ yW G2 C2 v)) [8, 9, 10, 11, 12, 13, 14, 15, 0, 1, 2, 3, 4, 5, 6, 7] (by decide) rfl
  refine lv_aload_n hx hb dL_law_485 rfl (lv_at hl 3 rfl) ?_
  refine lv_aload_n hx hb dL_law_486 rfl (lv_at hl 1 rfl) ?_
  refine lv_iload_n hx hb dL_law_487 rfl (lv_at hl 0 rfl) ?_
  refine lv_iconst (v := 1) hx hb dL_law_488 (by decide) ?_
  refine lv_iadd hx hb dL_law_489 ?_
  refine W.eq (congrArg (fun z => F0 m 490 ls (.int z :: [.ref b, .ref (G2 0), .int (p_clear u (xs (i + 1)))])) (nI_add i 1)) ?_
  refine va_sld hx hb hX hbl hbA hS (vp_in_nI (show (i + 1) < L by omega) (by omega)) dL_law_490 ?_
  refine W.eq (congrArg (fun z => F0 m 491 ls (.int (xs z) :: [.ref (G2 0), .int (p_clear u (xs (i + 1)))])) (nI_clamp (show (i + 1) < 2 ^ 31 by omega))) ?_
  have hPc := hP.sub (ws' := (yW G2 C2 v)) [8, 9, 10, 11, 12, 13, 14, 15] rfl
  have hDc := hD.sub (ws' := (yW G2 C2 v)) [8, 9, 10, 11, 12, 13, 14, 15] (by decide) rfl
  have hKc := hK.sub (tys' := yT C2) [7, 8, 9, 10, 11, 12, 13] rfl
  refine xcall_i (ws := (xW G C (q_clear u (xs (i + 1))) ++ yW G2 C2 v)) (wc := (yW G2 C2 v)) (wr := (xW G C (q_clear u (xs (i + 1))))) (w1 := (yW G2 C2 (yq_clear v (xs (i + 1))))) (v := (yp_clear v (xs (i + 1)))) [8, 9, 10, 11, 12, 13, 14, 15] [0, 1, 2, 3, 4, 5, 6, 7] (va_runV (As := [.int (xs (i + 1))]) (rest := [.int (p_clear u (xs (i + 1)))]) ⟨hx, hb, hml, hown, hts⟩ (yc_clear l dC dI G2 C2 _ v (xs (i + 1)) (yrel_hm hr) (yrel_hn hr)) (cwV 1 hts gL_law_Y_clear rfl rfl rfl (by decide +kernel) ⟨Nat.le_of_ble_eq_true rfl, Nat.le_of_ble_eq_true rfl⟩) (xpreV (q0 := 0) (ci := 1) (qc := (RX1, TX1, 9)) hKc hPc hDc rfl rfl) rfl rfl hl.1 rfl (lv_room (Nat.le_of_ble_eq_true rfl)) dL_law_491 ⟨Nat.le_of_ble_eq_true rfl, Nat.le_of_ble_eq_true rfl⟩) hP hD hS hA rfl rfl (by decide) (by decide) (fun H locs hP hD hS => ?_)
  have hP : va_P (dC, dI) vwCl (xW G C (q_clear u (xs (i + 1))) ++ yW G2 C2 (yq_clear v (xs (i + 1)))) H := hP
  have hD : va_D (fun q => s.heap.size ≤ q) (xW G C (q_clear u (xs (i + 1))) ++ yW G2 C2 (yq_clear v (xs (i + 1)))) := hD
  obtain ⟨ea, er⟩ := r_clear hr (xs (i + 1))
  refine lv_icmp_eq (tgt := 639) hx hb dL_law_494 rfl (fun _ => ?_) (fun q => absurd ea q)
  exact kk (q_clear u (xs (i + 1))) (yq_clear v (xs (i + 1))) _ _ er hP hD hS
set_option maxHeartbeats 4000000 in
set_option maxRecDepth 100000 in
theorem k_size {p : Program} {l : Launch} {e : Env} {s : State} {m : MethodId} {below : List Frame} {meth : Method} {c : Code} {Q : State → Prop} {H : Heap} {locs : List Loc} {ls : Array Slot} {dC : Nat → ClassId} {dI : Nat → Nat → Nat} {G G2 : Nat → Nat} {C C2 : Nat → ClassId} {u : xS} {v : yS} {b L i : Nat} {xs : Nat → Int32} (B : CallFix p m c cL_law 4 s #[Value.ref b] lw_tbl RL) (hK : va_K (dC, dI) vwCl (xT C ++ yT C2) s) (hX : va_X b L xs s s.heap) (hbl : b < s.heap.size) (hi : i + 5 ≤ L) (hL : L ≤ 2560) (hr : Rel u v) (hP : va_P (dC, dI) vwCl (xW G C u ++ yW G2 C2 v) H) (hD : va_D (fun q => s.heap.size ≤ q) (xW G C u ++ yW G2 C2 v)) (hS : va_S (fun q => s.heap.size ≤ q) s.heap H locs) (hl : lv_has ls 4 [(3, .int (nI i)), (0, .ref b), (1, .ref (G 0)), (2, .ref (G2 0))]) (kk : ∀ (u2 : xS) (v2 : yS) (H : Heap) (locs : List Loc), Rel u2 v2 → va_P (dC, dI) vwCl (xW G C u2 ++ yW G2 C2 v2) H → va_D (fun q => s.heap.size ≤ q) (xW G C u2 ++ yW G2 C2 v2) → va_S (fun q => s.heap.size ≤ q) s.heap H locs → W p l e room_1 s m #[Value.ref b] below meth c H locs 16 1074 Q (F0 m 639 ls [])) : W p l e room_1 s m #[Value.ref b] below meth c H locs 16 1074 Q (F0 m 499 ls []) := by
  obtain ⟨hx, hb, hml, hown, hts⟩ := B
  have hbA : ¬ s.heap.size ≤ b := Nat.not_le.mpr hbl
  have hA : ∀ q : Nat, s.heap.size ≤ q → s.heap.size ≤ q := fun _ h => h
  refine lv_aload_n hx hb dL_law_499 rfl (lv_at hl 2 rfl) ?_
  refine lv_aload_n hx hb dL_law_500 rfl (lv_at hl 1 rfl) ?_
  refine lv_iload_n hx hb dL_law_501 rfl (lv_at hl 0 rfl) ?_
  refine lv_iconst (v := 1) hx hb dL_law_502 (by decide) ?_
  refine lv_iadd hx hb dL_law_503 ?_
  refine W.eq (congrArg (fun z => F0 m 504 ls (.int z :: [.ref b, .ref (G 0)])) (nI_add i 1)) ?_
  refine va_sld hx hb hX hbl hbA hS (vp_in_nI (show (i + 1) < L by omega) (by omega)) dL_law_504 ?_
  refine W.eq (congrArg (fun z => F0 m 505 ls (.int (xs z) :: [.ref (G 0)])) (nI_clamp (show (i + 1) < 2 ^ 31 by omega))) ?_
  have hPc := hP.sub (ws' := (xW G C u)) [0, 1, 2, 3, 4, 5, 6, 7] rfl
  have hDc := hD.sub (ws' := (xW G C u)) [0, 1, 2, 3, 4, 5, 6, 7] (by decide) rfl
  have hKc := hK.sub (tys' := xT C) [0, 1, 2, 3, 4, 5, 6] rfl
  refine xcall_i (ws := (xW G C u ++ yW G2 C2 v)) (wc := (xW G C u)) (wr := (yW G2 C2 v)) (w1 := (xW G C u)) (v := (p_size u (xs (i + 1)))) [0, 1, 2, 3, 4, 5, 6, 7] [8, 9, 10, 11, 12, 13, 14, 15] (va_runV (As := [.int (xs (i + 1))]) (rest := []) ⟨hx, hb, hml, hown, hts⟩ (c_size l dC dI G C _ u (xs (i + 1)) (rel_hm hr) (rel_hn hr)) (cwV 1 hts (gLup gL_law_X0_size) rfl rfl rfl (by decide +kernel) ⟨Nat.le_of_ble_eq_true rfl, Nat.le_of_ble_eq_true rfl⟩) (xpreV (q0 := 0) (ci := 0) (qc := (RX0, TX0, 9)) hKc hPc hDc rfl rfl) rfl rfl hl.1 rfl (lv_room (Nat.le_of_ble_eq_true rfl)) dL_law_505 ⟨Nat.le_of_ble_eq_true rfl, Nat.le_of_ble_eq_true rfl⟩) hP hD hS hA rfl rfl (by decide) (by decide) (fun H locs hP hD hS => ?_)
  have hP := hP.sub (ws' := (xW G C u ++ yW G2 C2 v)) [8, 9, 10, 11, 12, 13, 14, 15, 0, 1, 2, 3, 4, 5, 6, 7] rfl
  have hD := hD.sub (ws' := (xW G C u ++ yW G2 C2 v)) [8, 9, 10, 11, 12, 13, 14, 15, 0, 1, 2, 3, 4, 5, 6, 7] (by decide) rfl
  refine lv_aload_n hx hb dL_law_508 rfl (lv_at hl 3 rfl) ?_
  refine lv_aload_n hx hb dL_law_509 rfl (lv_at hl 1 rfl) ?_
  refine lv_iload_n hx hb dL_law_510 rfl (lv_at hl 0 rfl) ?_
  refine lv_iconst (v := 1) hx hb dL_law_511 (by decide) ?_
  refine lv_iadd hx hb dL_law_512 ?_
  refine W.eq (congrArg (fun z => F0 m 513 ls (.int z :: [.ref b, .ref (G2 0), .int (p_size u (xs (i + 1)))])) (nI_add i 1)) ?_
  refine va_sld hx hb hX hbl hbA hS (vp_in_nI (show (i + 1) < L by omega) (by omega)) dL_law_513 ?_
  refine W.eq (congrArg (fun z => F0 m 514 ls (.int (xs z) :: [.ref (G2 0), .int (p_size u (xs (i + 1)))])) (nI_clamp (show (i + 1) < 2 ^ 31 by omega))) ?_
  have hPc := hP.sub (ws' := (yW G2 C2 v)) [8, 9, 10, 11, 12, 13, 14, 15] rfl
  have hDc := hD.sub (ws' := (yW G2 C2 v)) [8, 9, 10, 11, 12, 13, 14, 15] (by decide) rfl
  have hKc := hK.sub (tys' := yT C2) [7, 8, 9, 10, 11, 12, 13] rfl
  refine xcall_i (ws := (xW G C u ++ yW G2 C2 v)) (wc := (yW G2 C2 v)) (wr := (xW G C u)) (w1 := (yW G2 C2 v)) (v := (yp_size v (xs (i + 1)))) [8, 9, 10, 11, 12, 13, 14, 15] [0, 1, 2, 3, 4, 5, 6, 7] (va_runV (As := [.int (xs (i + 1))]) (rest := [.int (p_size u (xs (i + 1)))]) ⟨hx, hb, hml, hown, hts⟩ (yc_size l dC dI G2 C2 _ v (xs (i + 1)) (yrel_hm hr) (yrel_hn hr)) (cwV 1 hts gL_law_Y_size rfl rfl rfl (by decide +kernel) ⟨Nat.le_of_ble_eq_true rfl, Nat.le_of_ble_eq_true rfl⟩) (xpreV (q0 := 0) (ci := 1) (qc := (RX1, TX1, 9)) hKc hPc hDc rfl rfl) rfl rfl hl.1 rfl (lv_room (Nat.le_of_ble_eq_true rfl)) dL_law_514 ⟨Nat.le_of_ble_eq_true rfl, Nat.le_of_ble_eq_true rfl⟩) hP hD hS hA rfl rfl (by decide) (by decide) (fun H locs hP hD hS => ?_)
  have hP : va_P (dC, dI) vwCl (xW G C u ++ yW G2 C2 v) H := hP
  have hD : va_D (fun q => s.heap.size ≤ q) (xW G C u ++ yW G2 C2 v) := hD
  obtain ⟨ea, er⟩ := r_size hr (xs (i + 1))
  refine lv_icmp_eq (tgt := 639) hx hb dL_law_517 rfl (fun _ => ?_) (fun q => absurd ea q)
  exact kk u v _ _ er hP hD hS
set_option maxHeartbeats 4000000 in
set_option maxRecDepth 100000 in
theorem k_floor {p : Program} {l : Launch} {e : Env} {s : State} {m : MethodId} {below : List Frame} {meth : Method} {c : Code} {Q : State → Prop} {H : Heap} {locs : List Loc} {ls : Array Slot} {dC : Nat → ClassId} {dI : Nat → Nat → Nat} {G G2 : Nat → Nat} {C C2 : Nat → ClassId} {u : xS} {v : yS} {b L i : Nat} {xs : Nat → Int32} (B : CallFix p m c cL_law 4 s #[Value.ref b] lw_tbl RL) (hK : va_K (dC, dI) vwCl (xT C ++ yT C2) s) (hX : va_X b L xs s s.heap) (hbl : b < s.heap.size) (hi : i + 5 ≤ L) (hL : L ≤ 2560) (hr : Rel u v) (hP : va_P (dC, dI) vwCl (xW G C u ++ yW G2 C2 v) H) (hD : va_D (fun q => s.heap.size ≤ q) (xW G C u ++ yW G2 C2 v)) (hS : va_S (fun q => s.heap.size ≤ q) s.heap H locs) (hl : lv_has ls 4 [(3, .int (nI i)), (0, .ref b), (1, .ref (G 0)), (2, .ref (G2 0))]) (kk : ∀ (u2 : xS) (v2 : yS) (H : Heap) (locs : List Loc), Rel u2 v2 → va_P (dC, dI) vwCl (xW G C u2 ++ yW G2 C2 v2) H → va_D (fun q => s.heap.size ≤ q) (xW G C u2 ++ yW G2 C2 v2) → va_S (fun q => s.heap.size ≤ q) s.heap H locs → W p l e room_1 s m #[Value.ref b] below meth c H locs 16 1074 Q (F0 m 639 ls [])) : W p l e room_1 s m #[Value.ref b] below meth c H locs 16 1074 Q (F0 m 522 ls []) := by
  obtain ⟨hx, hb, hml, hown, hts⟩ := B
  have hbA : ¬ s.heap.size ≤ b := Nat.not_le.mpr hbl
  have hA : ∀ q : Nat, s.heap.size ≤ q → s.heap.size ≤ q := fun _ h => h
  refine lv_aload_n hx hb dL_law_522 rfl (lv_at hl 2 rfl) ?_
  refine lv_aload_n hx hb dL_law_523 rfl (lv_at hl 1 rfl) ?_
  refine lv_iload_n hx hb dL_law_524 rfl (lv_at hl 0 rfl) ?_
  refine lv_iconst (v := 1) hx hb dL_law_525 (by decide) ?_
  refine lv_iadd hx hb dL_law_526 ?_
  refine W.eq (congrArg (fun z => F0 m 527 ls (.int z :: [.ref b, .ref (G 0)])) (nI_add i 1)) ?_
  refine va_sld hx hb hX hbl hbA hS (vp_in_nI (show (i + 1) < L by omega) (by omega)) dL_law_527 ?_
  refine W.eq (congrArg (fun z => F0 m 528 ls (.int (xs z) :: [.ref (G 0)])) (nI_clamp (show (i + 1) < 2 ^ 31 by omega))) ?_
  have hPc := hP.sub (ws' := (xW G C u)) [0, 1, 2, 3, 4, 5, 6, 7] rfl
  have hDc := hD.sub (ws' := (xW G C u)) [0, 1, 2, 3, 4, 5, 6, 7] (by decide) rfl
  have hKc := hK.sub (tys' := xT C) [0, 1, 2, 3, 4, 5, 6] rfl
  refine xcall_l (ws := (xW G C u ++ yW G2 C2 v)) (wc := (xW G C u)) (wr := (yW G2 C2 v)) (w1 := (xW G C u)) (v := (p_floor u (xs (i + 1)))) [0, 1, 2, 3, 4, 5, 6, 7] [8, 9, 10, 11, 12, 13, 14, 15] (va_runV (As := [.int (xs (i + 1))]) (rest := []) ⟨hx, hb, hml, hown, hts⟩ (c_floor l dC dI G C _ u (xs (i + 1)) (rel_hm hr)) (cwV 1 hts (gLup gL_law_X0_floor) rfl rfl rfl (by decide +kernel) ⟨Nat.le_of_ble_eq_true rfl, Nat.le_of_ble_eq_true rfl⟩) (xpreV (q0 := 0) (ci := 0) (qc := (RX0, TX0, 9)) hKc hPc hDc rfl rfl) rfl rfl hl.1 rfl (lv_room (Nat.le_of_ble_eq_true rfl)) dL_law_528 ⟨Nat.le_of_ble_eq_true rfl, Nat.le_of_ble_eq_true rfl⟩) hP hD hS hA rfl rfl (by decide) (by decide) (fun H locs hP hD hS => ?_)
  have hP := hP.sub (ws' := (xW G C u ++ yW G2 C2 v)) [8, 9, 10, 11, 12, 13, 14, 15, 0, 1, 2, 3, 4, 5, 6, 7] rfl
  have hD := hD.sub (ws' := (xW G C u ++ yW G2 C2 v)) [8, 9, 10, 11, 12, 13, 14, 15, 0, 1, 2, 3, 4, 5, 6, 7] (by decide) rfl
  refine lv_aload_n hx hb dL_law_531 rfl (lv_at hl 3 rfl) ?_
  refine lv_aload_n hx hb dL_law_532 rfl (lv_at hl 1 rfl) ?_
  refine lv_iload_n hx hb dL_law_533 rfl (lv_at hl 0 rfl) ?_
  refine lv_iconst (v := 1) hx hb dL_law_534 (by decide) ?_
  refine lv_iadd hx hb dL_law_535 ?_
  refine W.eq (congrArg (fun z => F0 m 536 ls (.int z :: [.ref b, .ref (G2 0), .long (p_floor u (xs (i + 1)))])) (nI_add i 1)) ?_
  refine va_sld hx hb hX hbl hbA hS (vp_in_nI (show (i + 1) < L by omega) (by omega)) dL_law_536 ?_
  refine W.eq (congrArg (fun z => F0 m 537 ls (.int (xs z) :: [.ref (G2 0), .long (p_floor u (xs (i + 1)))])) (nI_clamp (show (i + 1) < 2 ^ 31 by omega))) ?_
  have hPc := hP.sub (ws' := (yW G2 C2 v)) [8, 9, 10, 11, 12, 13, 14, 15] rfl
  have hDc := hD.sub (ws' := (yW G2 C2 v)) [8, 9, 10, 11, 12, 13, 14, 15] (by decide) rfl
  have hKc := hK.sub (tys' := yT C2) [7, 8, 9, 10, 11, 12, 13] rfl
  refine xcall_l (ws := (xW G C u ++ yW G2 C2 v)) (wc := (yW G2 C2 v)) (wr := (xW G C u)) (w1 := (yW G2 C2 v)) (v := (yp_floor v (xs (i + 1)))) [8, 9, 10, 11, 12, 13, 14, 15] [0, 1, 2, 3, 4, 5, 6, 7] (va_runV (As := [.int (xs (i + 1))]) (rest := [.long (p_floor u (xs (i + 1)))]) ⟨hx, hb, hml, hown, hts⟩ (yc_floor l dC dI G2 C2 _ v (xs (i + 1)) (yrel_hm hr)) (cwV 1 hts gL_law_Y_floor rfl rfl rfl (by decide +kernel) ⟨Nat.le_of_ble_eq_true rfl, Nat.le_of_ble_eq_true rfl⟩) (xpreV (q0 := 0) (ci := 1) (qc := (RX1, TX1, 9)) hKc hPc hDc rfl rfl) rfl rfl hl.1 rfl (lv_room (Nat.le_of_ble_eq_true rfl)) dL_law_537 ⟨Nat.le_of_ble_eq_true rfl, Nat.le_of_ble_eq_true rfl⟩) hP hD hS hA rfl rfl (by decide) (by decide) (fun H locs hP hD hS => ?_)
  have hP : va_P (dC, dI) vwCl (xW G C u ++ yW G2 C2 v) H := hP
  have hD : va_D (fun q => s.heap.size ≤ q) (xW G C u ++ yW G2 C2 v) := hD
  refine W.lcmp hx hb dL_law_540 ?_
  obtain ⟨ea, er⟩ := r_floor hr (xs (i + 1))
  refine lv_if_eq (tgt := 639) hx hb dL_law_541 rfl (fun _ => ?_) (fun q => absurd ((lg_cmp_eq _ _).mpr ea) q)
  exact kk u v _ _ er hP hD hS
set_option maxHeartbeats 4000000 in
set_option maxRecDepth 100000 in
theorem k_key {p : Program} {l : Launch} {e : Env} {s : State} {m : MethodId} {below : List Frame} {meth : Method} {c : Code} {Q : State → Prop} {H : Heap} {locs : List Loc} {ls : Array Slot} {dC : Nat → ClassId} {dI : Nat → Nat → Nat} {G G2 : Nat → Nat} {C C2 : Nat → ClassId} {u : xS} {v : yS} {b L i : Nat} {xs : Nat → Int32} (B : CallFix p m c cL_law 4 s #[Value.ref b] lw_tbl RL) (hK : va_K (dC, dI) vwCl (xT C ++ yT C2) s) (hX : va_X b L xs s s.heap) (hbl : b < s.heap.size) (hi : i + 5 ≤ L) (hL : L ≤ 2560) (hr : Rel u v) (hP : va_P (dC, dI) vwCl (xW G C u ++ yW G2 C2 v) H) (hD : va_D (fun q => s.heap.size ≤ q) (xW G C u ++ yW G2 C2 v)) (hS : va_S (fun q => s.heap.size ≤ q) s.heap H locs) (hl : lv_has ls 4 [(3, .int (nI i)), (0, .ref b), (1, .ref (G 0)), (2, .ref (G2 0))]) (kk : ∀ (u2 : xS) (v2 : yS) (H : Heap) (locs : List Loc), Rel u2 v2 → va_P (dC, dI) vwCl (xW G C u2 ++ yW G2 C2 v2) H → va_D (fun q => s.heap.size ≤ q) (xW G C u2 ++ yW G2 C2 v2) → va_S (fun q => s.heap.size ≤ q) s.heap H locs → W p l e room_1 s m #[Value.ref b] below meth c H locs 16 1074 Q (F0 m 639 ls [])) : W p l e room_1 s m #[Value.ref b] below meth c H locs 16 1074 Q (F0 m 546 ls []) := by
  obtain ⟨hx, hb, hml, hown, hts⟩ := B
  have hbA : ¬ s.heap.size ≤ b := Nat.not_le.mpr hbl
  have hA : ∀ q : Nat, s.heap.size ≤ q → s.heap.size ≤ q := fun _ h => h
  refine lv_aload_n hx hb dL_law_546 rfl (lv_at hl 2 rfl) ?_
  refine lv_aload_n hx hb dL_law_547 rfl (lv_at hl 1 rfl) ?_
  refine lv_iload_n hx hb dL_law_548 rfl (lv_at hl 0 rfl) ?_
  refine lv_iconst (v := 1) hx hb dL_law_549 (by decide) ?_
  refine lv_iadd hx hb dL_law_550 ?_
  refine W.eq (congrArg (fun z => F0 m 551 ls (.int z :: [.ref b, .ref (G 0)])) (nI_add i 1)) ?_
  refine va_sld hx hb hX hbl hbA hS (vp_in_nI (show (i + 1) < L by omega) (by omega)) dL_law_551 ?_
  refine W.eq (congrArg (fun z => F0 m 552 ls (.int (xs z) :: [.ref (G 0)])) (nI_clamp (show (i + 1) < 2 ^ 31 by omega))) ?_
  have hPc := hP.sub (ws' := (xW G C u)) [0, 1, 2, 3, 4, 5, 6, 7] rfl
  have hDc := hD.sub (ws' := (xW G C u)) [0, 1, 2, 3, 4, 5, 6, 7] (by decide) rfl
  have hKc := hK.sub (tys' := xT C) [0, 1, 2, 3, 4, 5, 6] rfl
  refine xcall_l (ws := (xW G C u ++ yW G2 C2 v)) (wc := (xW G C u)) (wr := (yW G2 C2 v)) (w1 := (xW G C u)) (v := (p_key u (xs (i + 1)))) [0, 1, 2, 3, 4, 5, 6, 7] [8, 9, 10, 11, 12, 13, 14, 15] (va_runV (As := [.int (xs (i + 1))]) (rest := []) ⟨hx, hb, hml, hown, hts⟩ (c_key l dC dI G C _ u (xs (i + 1)) (rel_hn hr)) (cwV 1 hts (gLup gL_law_X0_key) rfl rfl rfl (by decide +kernel) ⟨Nat.le_of_ble_eq_true rfl, Nat.le_of_ble_eq_true rfl⟩) (xpreV (q0 := 0) (ci := 0) (qc := (RX0, TX0, 9)) hKc hPc hDc rfl rfl) rfl rfl hl.1 rfl (lv_room (Nat.le_of_ble_eq_true rfl)) dL_law_552 ⟨Nat.le_of_ble_eq_true rfl, Nat.le_of_ble_eq_true rfl⟩) hP hD hS hA rfl rfl (by decide) (by decide) (fun H locs hP hD hS => ?_)
  have hP := hP.sub (ws' := (xW G C u ++ yW G2 C2 v)) [8, 9, 10, 11, 12, 13, 14, 15, 0, 1, 2, 3, 4, 5, 6, 7] rfl
  have hD := hD.sub (ws' := (xW G C u ++ yW G2 C2 v)) [8, 9, 10, 11, 12, 13, 14, 15, 0, 1, 2, 3, 4, 5, 6, 7] (by decide) rfl
  refine lv_aload_n hx hb dL_law_555 rfl (lv_at hl 3 rfl) ?_
  refine lv_aload_n hx hb dL_law_556 rfl (lv_at hl 1 rfl) ?_
  refine lv_iload_n hx hb dL_law_557 rfl (lv_at hl 0 rfl) ?_
  refine lv_iconst (v := 1) hx hb dL_law_558 (by decide) ?_
  refine lv_iadd hx hb dL_law_559 ?_
  refine W.eq (congrArg (fun z => F0 m 560 ls (.int z :: [.ref b, .ref (G2 0), .long (p_key u (xs (i + 1)))])) (nI_add i 1)) ?_
  refine va_sld hx hb hX hbl hbA hS (vp_in_nI (show (i + 1) < L by omega) (by omega)) dL_law_560 ?_
  refine W.eq (congrArg (fun z => F0 m 561 ls (.int (xs z) :: [.ref (G2 0), .long (p_key u (xs (i + 1)))])) (nI_clamp (show (i + 1) < 2 ^ 31 by omega))) ?_
  have hPc := hP.sub (ws' := (yW G2 C2 v)) [8, 9, 10, 11, 12, 13, 14, 15] rfl
  have hDc := hD.sub (ws' := (yW G2 C2 v)) [8, 9, 10, 11, 12, 13, 14, 15] (by decide) rfl
  have hKc := hK.sub (tys' := yT C2) [7, 8, 9, 10, 11, 12, 13] rfl
  refine xcall_l (ws := (xW G C u ++ yW G2 C2 v)) (wc := (yW G2 C2 v)) (wr := (xW G C u)) (w1 := (yW G2 C2 v)) (v := (yp_key v (xs (i + 1)))) [8, 9, 10, 11, 12, 13, 14, 15] [0, 1, 2, 3, 4, 5, 6, 7] (va_runV (As := [.int (xs (i + 1))]) (rest := [.long (p_key u (xs (i + 1)))]) ⟨hx, hb, hml, hown, hts⟩ (yc_key l dC dI G2 C2 _ v (xs (i + 1)) (yrel_hn hr)) (cwV 1 hts gL_law_Y_key rfl rfl rfl (by decide +kernel) ⟨Nat.le_of_ble_eq_true rfl, Nat.le_of_ble_eq_true rfl⟩) (xpreV (q0 := 0) (ci := 1) (qc := (RX1, TX1, 9)) hKc hPc hDc rfl rfl) rfl rfl hl.1 rfl (lv_room (Nat.le_of_ble_eq_true rfl)) dL_law_561 ⟨Nat.le_of_ble_eq_true rfl, Nat.le_of_ble_eq_true rfl⟩) hP hD hS hA rfl rfl (by decide) (by decide) (fun H locs hP hD hS => ?_)
  have hP : va_P (dC, dI) vwCl (xW G C u ++ yW G2 C2 v) H := hP
  have hD : va_D (fun q => s.heap.size ≤ q) (xW G C u ++ yW G2 C2 v) := hD
  refine W.lcmp hx hb dL_law_564 ?_
  obtain ⟨ea, er⟩ := r_key hr (xs (i + 1))
  refine lv_if_eq (tgt := 639) hx hb dL_law_565 rfl (fun _ => ?_) (fun q => absurd ((lg_cmp_eq _ _).mpr ea) q)
  exact kk u v _ _ er hP hD hS
set_option maxHeartbeats 4000000 in
set_option maxRecDepth 100000 in
theorem k_value {p : Program} {l : Launch} {e : Env} {s : State} {m : MethodId} {below : List Frame} {meth : Method} {c : Code} {Q : State → Prop} {H : Heap} {locs : List Loc} {ls : Array Slot} {dC : Nat → ClassId} {dI : Nat → Nat → Nat} {G G2 : Nat → Nat} {C C2 : Nat → ClassId} {u : xS} {v : yS} {b L i : Nat} {xs : Nat → Int32} (B : CallFix p m c cL_law 4 s #[Value.ref b] lw_tbl RL) (hK : va_K (dC, dI) vwCl (xT C ++ yT C2) s) (hX : va_X b L xs s s.heap) (hbl : b < s.heap.size) (hi : i + 5 ≤ L) (hL : L ≤ 2560) (hr : Rel u v) (hP : va_P (dC, dI) vwCl (xW G C u ++ yW G2 C2 v) H) (hD : va_D (fun q => s.heap.size ≤ q) (xW G C u ++ yW G2 C2 v)) (hS : va_S (fun q => s.heap.size ≤ q) s.heap H locs) (hl : lv_has ls 4 [(3, .int (nI i)), (0, .ref b), (1, .ref (G 0)), (2, .ref (G2 0))]) (kk : ∀ (u2 : xS) (v2 : yS) (H : Heap) (locs : List Loc), Rel u2 v2 → va_P (dC, dI) vwCl (xW G C u2 ++ yW G2 C2 v2) H → va_D (fun q => s.heap.size ≤ q) (xW G C u2 ++ yW G2 C2 v2) → va_S (fun q => s.heap.size ≤ q) s.heap H locs → W p l e room_1 s m #[Value.ref b] below meth c H locs 16 1074 Q (F0 m 639 ls [])) : W p l e room_1 s m #[Value.ref b] below meth c H locs 16 1074 Q (F0 m 570 ls []) := by
  obtain ⟨hx, hb, hml, hown, hts⟩ := B
  have hbA : ¬ s.heap.size ≤ b := Nat.not_le.mpr hbl
  have hA : ∀ q : Nat, s.heap.size ≤ q → s.heap.size ≤ q := fun _ h => h
  refine lv_aload_n hx hb dL_law_570 rfl (lv_at hl 2 rfl) ?_
  refine lv_aload_n hx hb dL_law_571 rfl (lv_at hl 1 rfl) ?_
  refine lv_iload_n hx hb dL_law_572 rfl (lv_at hl 0 rfl) ?_
  refine lv_iconst (v := 1) hx hb dL_law_573 (by decide) ?_
  refine lv_iadd hx hb dL_law_574 ?_
  refine W.eq (congrArg (fun z => F0 m 575 ls (.int z :: [.ref b, .ref (G 0)])) (nI_add i 1)) ?_
  refine va_sld hx hb hX hbl hbA hS (vp_in_nI (show (i + 1) < L by omega) (by omega)) dL_law_575 ?_
  refine W.eq (congrArg (fun z => F0 m 576 ls (.int (xs z) :: [.ref (G 0)])) (nI_clamp (show (i + 1) < 2 ^ 31 by omega))) ?_
  have hPc := hP.sub (ws' := (xW G C u)) [0, 1, 2, 3, 4, 5, 6, 7] rfl
  have hDc := hD.sub (ws' := (xW G C u)) [0, 1, 2, 3, 4, 5, 6, 7] (by decide) rfl
  have hKc := hK.sub (tys' := xT C) [0, 1, 2, 3, 4, 5, 6] rfl
  refine xcall_i (ws := (xW G C u ++ yW G2 C2 v)) (wc := (xW G C u)) (wr := (yW G2 C2 v)) (w1 := (xW G C u)) (v := (p_value u (xs (i + 1)))) [0, 1, 2, 3, 4, 5, 6, 7] [8, 9, 10, 11, 12, 13, 14, 15] (va_runV (As := [.int (xs (i + 1))]) (rest := []) ⟨hx, hb, hml, hown, hts⟩ (c_value l dC dI G C _ u (xs (i + 1)) (rel_hn hr)) (cwV 1 hts (gLup gL_law_X0_value) rfl rfl rfl (by decide +kernel) ⟨Nat.le_of_ble_eq_true rfl, Nat.le_of_ble_eq_true rfl⟩) (xpreV (q0 := 0) (ci := 0) (qc := (RX0, TX0, 9)) hKc hPc hDc rfl rfl) rfl rfl hl.1 rfl (lv_room (Nat.le_of_ble_eq_true rfl)) dL_law_576 ⟨Nat.le_of_ble_eq_true rfl, Nat.le_of_ble_eq_true rfl⟩) hP hD hS hA rfl rfl (by decide) (by decide) (fun H locs hP hD hS => ?_)
  have hP := hP.sub (ws' := (xW G C u ++ yW G2 C2 v)) [8, 9, 10, 11, 12, 13, 14, 15, 0, 1, 2, 3, 4, 5, 6, 7] rfl
  have hD := hD.sub (ws' := (xW G C u ++ yW G2 C2 v)) [8, 9, 10, 11, 12, 13, 14, 15, 0, 1, 2, 3, 4, 5, 6, 7] (by decide) rfl
  refine lv_aload_n hx hb dL_law_579 rfl (lv_at hl 3 rfl) ?_
  refine lv_aload_n hx hb dL_law_580 rfl (lv_at hl 1 rfl) ?_
  refine lv_iload_n hx hb dL_law_581 rfl (lv_at hl 0 rfl) ?_
  refine lv_iconst (v := 1) hx hb dL_law_582 (by decide) ?_
  refine lv_iadd hx hb dL_law_583 ?_
  refine W.eq (congrArg (fun z => F0 m 584 ls (.int z :: [.ref b, .ref (G2 0), .int (p_value u (xs (i + 1)))])) (nI_add i 1)) ?_
  refine va_sld hx hb hX hbl hbA hS (vp_in_nI (show (i + 1) < L by omega) (by omega)) dL_law_584 ?_
  refine W.eq (congrArg (fun z => F0 m 585 ls (.int (xs z) :: [.ref (G2 0), .int (p_value u (xs (i + 1)))])) (nI_clamp (show (i + 1) < 2 ^ 31 by omega))) ?_
  have hPc := hP.sub (ws' := (yW G2 C2 v)) [8, 9, 10, 11, 12, 13, 14, 15] rfl
  have hDc := hD.sub (ws' := (yW G2 C2 v)) [8, 9, 10, 11, 12, 13, 14, 15] (by decide) rfl
  have hKc := hK.sub (tys' := yT C2) [7, 8, 9, 10, 11, 12, 13] rfl
  refine xcall_i (ws := (xW G C u ++ yW G2 C2 v)) (wc := (yW G2 C2 v)) (wr := (xW G C u)) (w1 := (yW G2 C2 v)) (v := (yp_value v (xs (i + 1)))) [8, 9, 10, 11, 12, 13, 14, 15] [0, 1, 2, 3, 4, 5, 6, 7] (va_runV (As := [.int (xs (i + 1))]) (rest := [.int (p_value u (xs (i + 1)))]) ⟨hx, hb, hml, hown, hts⟩ (yc_value l dC dI G2 C2 _ v (xs (i + 1)) (yrel_hn hr)) (cwV 1 hts gL_law_Y_value rfl rfl rfl (by decide +kernel) ⟨Nat.le_of_ble_eq_true rfl, Nat.le_of_ble_eq_true rfl⟩) (xpreV (q0 := 0) (ci := 1) (qc := (RX1, TX1, 9)) hKc hPc hDc rfl rfl) rfl rfl hl.1 rfl (lv_room (Nat.le_of_ble_eq_true rfl)) dL_law_585 ⟨Nat.le_of_ble_eq_true rfl, Nat.le_of_ble_eq_true rfl⟩) hP hD hS hA rfl rfl (by decide) (by decide) (fun H locs hP hD hS => ?_)
  have hP : va_P (dC, dI) vwCl (xW G C u ++ yW G2 C2 v) H := hP
  have hD : va_D (fun q => s.heap.size ≤ q) (xW G C u ++ yW G2 C2 v) := hD
  obtain ⟨ea, er⟩ := r_value hr (xs (i + 1))
  refine lv_icmp_eq (tgt := 639) hx hb dL_law_588 rfl (fun _ => ?_) (fun q => absurd ea q)
  exact kk u v _ _ er hP hD hS
set_option maxHeartbeats 4000000 in
set_option maxRecDepth 100000 in
theorem k_owner {p : Program} {l : Launch} {e : Env} {s : State} {m : MethodId} {below : List Frame} {meth : Method} {c : Code} {Q : State → Prop} {H : Heap} {locs : List Loc} {ls : Array Slot} {dC : Nat → ClassId} {dI : Nat → Nat → Nat} {G G2 : Nat → Nat} {C C2 : Nat → ClassId} {u : xS} {v : yS} {b L i : Nat} {xs : Nat → Int32} (B : CallFix p m c cL_law 4 s #[Value.ref b] lw_tbl RL) (hK : va_K (dC, dI) vwCl (xT C ++ yT C2) s) (hX : va_X b L xs s s.heap) (hbl : b < s.heap.size) (hi : i + 5 ≤ L) (hL : L ≤ 2560) (hr : Rel u v) (hP : va_P (dC, dI) vwCl (xW G C u ++ yW G2 C2 v) H) (hD : va_D (fun q => s.heap.size ≤ q) (xW G C u ++ yW G2 C2 v)) (hS : va_S (fun q => s.heap.size ≤ q) s.heap H locs) (hl : lv_has ls 4 [(3, .int (nI i)), (0, .ref b), (1, .ref (G 0)), (2, .ref (G2 0))]) (kk : ∀ (u2 : xS) (v2 : yS) (H : Heap) (locs : List Loc), Rel u2 v2 → va_P (dC, dI) vwCl (xW G C u2 ++ yW G2 C2 v2) H → va_D (fun q => s.heap.size ≤ q) (xW G C u2 ++ yW G2 C2 v2) → va_S (fun q => s.heap.size ≤ q) s.heap H locs → W p l e room_1 s m #[Value.ref b] below meth c H locs 16 1074 Q (F0 m 639 ls [])) : W p l e room_1 s m #[Value.ref b] below meth c H locs 16 1074 Q (F0 m 593 ls []) := by
  obtain ⟨hx, hb, hml, hown, hts⟩ := B
  have hbA : ¬ s.heap.size ≤ b := Nat.not_le.mpr hbl
  have hA : ∀ q : Nat, s.heap.size ≤ q → s.heap.size ≤ q := fun _ h => h
  refine lv_aload_n hx hb dL_law_593 rfl (lv_at hl 2 rfl) ?_
  refine lv_aload_n hx hb dL_law_594 rfl (lv_at hl 1 rfl) ?_
  refine lv_iload_n hx hb dL_law_595 rfl (lv_at hl 0 rfl) ?_
  refine lv_iconst (v := 1) hx hb dL_law_596 (by decide) ?_
  refine lv_iadd hx hb dL_law_597 ?_
  refine W.eq (congrArg (fun z => F0 m 598 ls (.int z :: [.ref b, .ref (G 0)])) (nI_add i 1)) ?_
  refine va_sld hx hb hX hbl hbA hS (vp_in_nI (show (i + 1) < L by omega) (by omega)) dL_law_598 ?_
  refine W.eq (congrArg (fun z => F0 m 599 ls (.int (xs z) :: [.ref (G 0)])) (nI_clamp (show (i + 1) < 2 ^ 31 by omega))) ?_
  have hPc := hP.sub (ws' := (xW G C u)) [0, 1, 2, 3, 4, 5, 6, 7] rfl
  have hDc := hD.sub (ws' := (xW G C u)) [0, 1, 2, 3, 4, 5, 6, 7] (by decide) rfl
  have hKc := hK.sub (tys' := xT C) [0, 1, 2, 3, 4, 5, 6] rfl
  refine xcall_i (ws := (xW G C u ++ yW G2 C2 v)) (wc := (xW G C u)) (wr := (yW G2 C2 v)) (w1 := (xW G C u)) (v := (p_owner u (xs (i + 1)))) [0, 1, 2, 3, 4, 5, 6, 7] [8, 9, 10, 11, 12, 13, 14, 15] (va_runV (As := [.int (xs (i + 1))]) (rest := []) ⟨hx, hb, hml, hown, hts⟩ (c_owner l dC dI G C _ u (xs (i + 1)) (rel_hn hr)) (cwV 1 hts (gLup gL_law_X0_owner) rfl rfl rfl (by decide +kernel) ⟨Nat.le_of_ble_eq_true rfl, Nat.le_of_ble_eq_true rfl⟩) (xpreV (q0 := 0) (ci := 0) (qc := (RX0, TX0, 9)) hKc hPc hDc rfl rfl) rfl rfl hl.1 rfl (lv_room (Nat.le_of_ble_eq_true rfl)) dL_law_599 ⟨Nat.le_of_ble_eq_true rfl, Nat.le_of_ble_eq_true rfl⟩) hP hD hS hA rfl rfl (by decide) (by decide) (fun H locs hP hD hS => ?_)
  have hP := hP.sub (ws' := (xW G C u ++ yW G2 C2 v)) [8, 9, 10, 11, 12, 13, 14, 15, 0, 1, 2, 3, 4, 5, 6, 7] rfl
  have hD := hD.sub (ws' := (xW G C u ++ yW G2 C2 v)) [8, 9, 10, 11, 12, 13, 14, 15, 0, 1, 2, 3, 4, 5, 6, 7] (by decide) rfl
  refine lv_aload_n hx hb dL_law_602 rfl (lv_at hl 3 rfl) ?_
  refine lv_aload_n hx hb dL_law_603 rfl (lv_at hl 1 rfl) ?_
  refine lv_iload_n hx hb dL_law_604 rfl (lv_at hl 0 rfl) ?_
  refine lv_iconst (v := 1) hx hb dL_law_605 (by decide) ?_
  refine lv_iadd hx hb dL_law_606 ?_
  refine W.eq (congrArg (fun z => F0 m 607 ls (.int z :: [.ref b, .ref (G2 0), .int (p_owner u (xs (i + 1)))])) (nI_add i 1)) ?_
  refine va_sld hx hb hX hbl hbA hS (vp_in_nI (show (i + 1) < L by omega) (by omega)) dL_law_607 ?_
  refine W.eq (congrArg (fun z => F0 m 608 ls (.int (xs z) :: [.ref (G2 0), .int (p_owner u (xs (i + 1)))])) (nI_clamp (show (i + 1) < 2 ^ 31 by omega))) ?_
  have hPc := hP.sub (ws' := (yW G2 C2 v)) [8, 9, 10, 11, 12, 13, 14, 15] rfl
  have hDc := hD.sub (ws' := (yW G2 C2 v)) [8, 9, 10, 11, 12, 13, 14, 15] (by decide) rfl
  have hKc := hK.sub (tys' := yT C2) [7, 8, 9, 10, 11, 12, 13] rfl
  refine xcall_i (ws := (xW G C u ++ yW G2 C2 v)) (wc := (yW G2 C2 v)) (wr := (xW G C u)) (w1 := (yW G2 C2 v)) (v := (yp_owner v (xs (i + 1)))) [8, 9, 10, 11, 12, 13, 14, 15] [0, 1, 2, 3, 4, 5, 6, 7] (va_runV (As := [.int (xs (i + 1))]) (rest := [.int (p_owner u (xs (i + 1)))]) ⟨hx, hb, hml, hown, hts⟩ (yc_owner l dC dI G2 C2 _ v (xs (i + 1)) (yrel_hn hr)) (cwV 1 hts gL_law_Y_owner rfl rfl rfl (by decide +kernel) ⟨Nat.le_of_ble_eq_true rfl, Nat.le_of_ble_eq_true rfl⟩) (xpreV (q0 := 0) (ci := 1) (qc := (RX1, TX1, 9)) hKc hPc hDc rfl rfl) rfl rfl hl.1 rfl (lv_room (Nat.le_of_ble_eq_true rfl)) dL_law_608 ⟨Nat.le_of_ble_eq_true rfl, Nat.le_of_ble_eq_true rfl⟩) hP hD hS hA rfl rfl (by decide) (by decide) (fun H locs hP hD hS => ?_)
  have hP : va_P (dC, dI) vwCl (xW G C u ++ yW G2 C2 v) H := hP
  have hD : va_D (fun q => s.heap.size ≤ q) (xW G C u ++ yW G2 C2 v) := hD
  obtain ⟨ea, er⟩ := r_owner hr (xs (i + 1))
  refine lv_icmp_eq (tgt := 639) hx hb dL_law_611 rfl (fun _ => ?_) (fun q => absurd ea q)
  exact kk u v _ _ er hP hD hS
set_option maxHeartbeats 4000000 in
set_option maxRecDepth 100000 in
theorem k_before {p : Program} {l : Launch} {e : Env} {s : State} {m : MethodId} {below : List Frame} {meth : Method} {c : Code} {Q : State → Prop} {H : Heap} {locs : List Loc} {ls : Array Slot} {dC : Nat → ClassId} {dI : Nat → Nat → Nat} {G G2 : Nat → Nat} {C C2 : Nat → ClassId} {u : xS} {v : yS} {b L i : Nat} {xs : Nat → Int32} (B : CallFix p m c cL_law 4 s #[Value.ref b] lw_tbl RL) (hK : va_K (dC, dI) vwCl (xT C ++ yT C2) s) (hX : va_X b L xs s s.heap) (hbl : b < s.heap.size) (hi : i + 5 ≤ L) (hL : L ≤ 2560) (hr : Rel u v) (hP : va_P (dC, dI) vwCl (xW G C u ++ yW G2 C2 v) H) (hD : va_D (fun q => s.heap.size ≤ q) (xW G C u ++ yW G2 C2 v)) (hS : va_S (fun q => s.heap.size ≤ q) s.heap H locs) (hl : lv_has ls 4 [(3, .int (nI i)), (0, .ref b), (1, .ref (G 0)), (2, .ref (G2 0))]) (kk : ∀ (u2 : xS) (v2 : yS) (H : Heap) (locs : List Loc), Rel u2 v2 → va_P (dC, dI) vwCl (xW G C u2 ++ yW G2 C2 v2) H → va_D (fun q => s.heap.size ≤ q) (xW G C u2 ++ yW G2 C2 v2) → va_S (fun q => s.heap.size ≤ q) s.heap H locs → W p l e room_1 s m #[Value.ref b] below meth c H locs 16 1074 Q (F0 m 639 ls [])) : W p l e room_1 s m #[Value.ref b] below meth c H locs 16 1074 Q (F0 m 616 ls []) := by
  obtain ⟨hx, hb, hml, hown, hts⟩ := B
  have hbA : ¬ s.heap.size ≤ b := Nat.not_le.mpr hbl
  have hA : ∀ q : Nat, s.heap.size ≤ q → s.heap.size ≤ q := fun _ h => h
  refine lv_aload_n hx hb dL_law_616 rfl (lv_at hl 2 rfl) ?_
  refine lv_aload_n hx hb dL_law_617 rfl (lv_at hl 1 rfl) ?_
  refine lv_iload_n hx hb dL_law_618 rfl (lv_at hl 0 rfl) ?_
  refine lv_iconst (v := 1) hx hb dL_law_619 (by decide) ?_
  refine lv_iadd hx hb dL_law_620 ?_
  refine W.eq (congrArg (fun z => F0 m 621 ls (.int z :: [.ref b, .ref (G 0)])) (nI_add i 1)) ?_
  refine va_sld hx hb hX hbl hbA hS (vp_in_nI (show (i + 1) < L by omega) (by omega)) dL_law_621 ?_
  refine W.eq (congrArg (fun z => F0 m 622 ls (.int (xs z) :: [.ref (G 0)])) (nI_clamp (show (i + 1) < 2 ^ 31 by omega))) ?_
  have hPc := hP.sub (ws' := (xW G C u)) [0, 1, 2, 3, 4, 5, 6, 7] rfl
  have hDc := hD.sub (ws' := (xW G C u)) [0, 1, 2, 3, 4, 5, 6, 7] (by decide) rfl
  have hKc := hK.sub (tys' := xT C) [0, 1, 2, 3, 4, 5, 6] rfl
  refine xcall_i (ws := (xW G C u ++ yW G2 C2 v)) (wc := (xW G C u)) (wr := (yW G2 C2 v)) (w1 := (xW G C u)) (v := (p_before u (xs (i + 1)))) [0, 1, 2, 3, 4, 5, 6, 7] [8, 9, 10, 11, 12, 13, 14, 15] (va_runV (As := [.int (xs (i + 1))]) (rest := []) ⟨hx, hb, hml, hown, hts⟩ (c_before l dC dI G C _ u (xs (i + 1)) (rel_hn hr) (rel_ho hr)) (cwV 1 hts (gLup gL_law_X0_before) rfl rfl rfl (by decide +kernel) ⟨Nat.le_of_ble_eq_true rfl, Nat.le_of_ble_eq_true rfl⟩) (xpreV (q0 := 0) (ci := 0) (qc := (RX0, TX0, 9)) hKc hPc hDc rfl rfl) rfl rfl hl.1 rfl (lv_room (Nat.le_of_ble_eq_true rfl)) dL_law_622 ⟨Nat.le_of_ble_eq_true rfl, Nat.le_of_ble_eq_true rfl⟩) hP hD hS hA rfl rfl (by decide) (by decide) (fun H locs hP hD hS => ?_)
  have hP := hP.sub (ws' := (xW G C u ++ yW G2 C2 v)) [8, 9, 10, 11, 12, 13, 14, 15, 0, 1, 2, 3, 4, 5, 6, 7] rfl
  have hD := hD.sub (ws' := (xW G C u ++ yW G2 C2 v)) [8, 9, 10, 11, 12, 13, 14, 15, 0, 1, 2, 3, 4, 5, 6, 7] (by decide) rfl
  refine lv_aload_n hx hb dL_law_625 rfl (lv_at hl 3 rfl) ?_
  refine lv_aload_n hx hb dL_law_626 rfl (lv_at hl 1 rfl) ?_
  refine lv_iload_n hx hb dL_law_627 rfl (lv_at hl 0 rfl) ?_
  refine lv_iconst (v := 1) hx hb dL_law_628 (by decide) ?_
  refine lv_iadd hx hb dL_law_629 ?_
  refine W.eq (congrArg (fun z => F0 m 630 ls (.int z :: [.ref b, .ref (G2 0), .int (p_before u (xs (i + 1)))])) (nI_add i 1)) ?_
  refine va_sld hx hb hX hbl hbA hS (vp_in_nI (show (i + 1) < L by omega) (by omega)) dL_law_630 ?_
  refine W.eq (congrArg (fun z => F0 m 631 ls (.int (xs z) :: [.ref (G2 0), .int (p_before u (xs (i + 1)))])) (nI_clamp (show (i + 1) < 2 ^ 31 by omega))) ?_
  have hPc := hP.sub (ws' := (yW G2 C2 v)) [8, 9, 10, 11, 12, 13, 14, 15] rfl
  have hDc := hD.sub (ws' := (yW G2 C2 v)) [8, 9, 10, 11, 12, 13, 14, 15] (by decide) rfl
  have hKc := hK.sub (tys' := yT C2) [7, 8, 9, 10, 11, 12, 13] rfl
  refine xcall_i (ws := (xW G C u ++ yW G2 C2 v)) (wc := (yW G2 C2 v)) (wr := (xW G C u)) (w1 := (yW G2 C2 v)) (v := (yp_before v (xs (i + 1)))) [8, 9, 10, 11, 12, 13, 14, 15] [0, 1, 2, 3, 4, 5, 6, 7] (va_runV (As := [.int (xs (i + 1))]) (rest := [.int (p_before u (xs (i + 1)))]) ⟨hx, hb, hml, hown, hts⟩ (yc_before l dC dI G2 C2 _ v (xs (i + 1)) (yrel_hn hr) (yrel_ho hr)) (cwV 1 hts gL_law_Y_before rfl rfl rfl (by decide +kernel) ⟨Nat.le_of_ble_eq_true rfl, Nat.le_of_ble_eq_true rfl⟩) (xpreV (q0 := 0) (ci := 1) (qc := (RX1, TX1, 9)) hKc hPc hDc rfl rfl) rfl rfl hl.1 rfl (lv_room (Nat.le_of_ble_eq_true rfl)) dL_law_631 ⟨Nat.le_of_ble_eq_true rfl, Nat.le_of_ble_eq_true rfl⟩) hP hD hS hA rfl rfl (by decide) (by decide) (fun H locs hP hD hS => ?_)
  have hP : va_P (dC, dI) vwCl (xW G C u ++ yW G2 C2 v) H := hP
  have hD : va_D (fun q => s.heap.size ≤ q) (xW G C u ++ yW G2 C2 v) := hD
  obtain ⟨ea, er⟩ := r_before hr (xs (i + 1))
  refine lv_icmp_eq (tgt := 639) hx hb dL_law_634 rfl (fun _ => ?_) (fun q => absurd ea q)
  exact kk u v _ _ er hP hD hS
end
section
theorem xinc5 (i : Nat) : nI i + Int32.ofInt 5 = nI (i + 5) := by
  rw [← nI_add i 5]
  exact congrArg (fun z => nI i + z) (by decide)
theorem hd_out {L i : Nat} (hL : L ≤ 2560) (hi : i ≤ L) (h : ¬ nI L - 5 < nI i) : i + 5 ≤ L := by
  rw [Int32.lt_iff_toInt_lt, show (5 : Int32) = nI 5 from by decide, pk_sub_toInt (by omega) (by omega), nI_toInt (by omega)] at h
  omega
set_option maxHeartbeats 4000000 in
set_option maxRecDepth 100000 in
theorem lp_law {p : Program} {l : Launch} {e : Env} {s : State} {m : MethodId} {below : List Frame} {meth : Method} {c : Code} {Q : State → Prop} {dC : Nat → ClassId} {dI : Nat → Nat → Nat} {G G2 : Nat → Nat} {C C2 : Nat → ClassId} {b L : Nat} {xs : Nat → Int32} (B : CallFix p m c cL_law 4 s #[Value.ref b] lw_tbl RL) (hK : va_K (dC, dI) vwCl (xT C ++ yT C2) s) (hX : va_X b L xs s s.heap) (hbl : b < s.heap.size) (hL : L ≤ 2560) (kk : ∀ (H : Heap) (locs : List Loc) (ls : Array Slot), va_S (fun q => s.heap.size ≤ q) s.heap H locs → W p l e room_1 s m #[Value.ref b] below meth c H locs 16 1074 Q (F0 m 645 ls [])) :
    ∀ (d i : Nat) (u : xS) (v : yS) (H : Heap) (locs : List Loc) (ls : Array Slot), L - i = d → i ≤ L → Rel u v → va_P (dC, dI) vwCl (xW G C u ++ yW G2 C2 v) H → va_D (fun q => s.heap.size ≤ q) (xW G C u ++ yW G2 C2 v) → va_S (fun q => s.heap.size ≤ q) s.heap H locs → lv_has ls 4 [(3, .int (nI i)), (0, .ref b), (1, .ref (G 0)), (2, .ref (G2 0))] → W p l e room_1 s m #[Value.ref b] below meth c H locs 16 1074 Q (F0 m 18 ls []) := by
  have B0 := B
  obtain ⟨hx, hb, hml, hown, hts⟩ := B
  have hbA : ¬ s.heap.size ≤ b := Nat.not_le.mpr hbl
  intro d
  induction d using Nat.strongRecOn with
  | ind d ih =>
    intro i u v H locs ls hd hi0 hr hP hD hS hl
    refine lv_iload_n hx hb dL_law_18 rfl (lv_at hl 0 rfl) ?_
    refine lv_aload_n hx hb dL_law_19 rfl (lv_at hl 1 rfl) ?_
    refine va_slen hx hb hX hbl hbA hS dL_law_20 ?_
    refine lv_iconst (v := 5) hx hb dL_law_21 (by decide) ?_
    refine lv_isub hx hb dL_law_22 ?_
    refine lv_icmp_gt (tgt := 645) hx hb dL_law_23 rfl (fun _ => kk _ _ _ hS) (fun c23 => ?_)
    have hi : i + 5 ≤ L := hd_out hL hi0 c23
    refine lv_aload_n hx hb dL_law_26 rfl (lv_at hl 1 rfl) ?_
    refine lv_iload_n hx hb dL_law_27 rfl (lv_at hl 0 rfl) ?_
    refine va_sld hx hb hX hbl hbA hS (vp_in_nI (show i < L by omega) (by omega)) dL_law_28 ?_
    refine lv_bipush (v := 31) hx hb dL_law_29 (by decide) ?_
    refine lv_iand hx hb dL_law_31 ?_
    obtain ⟨j, hj, ej⟩ := pk_andE (xs (nI i).toNatClampNeg) (m := 31) 5 (by decide)
    refine W.eq (congrArg (fun z => F0 m 32 ls [.int z]) ej) ?_
    have back : ∀ (u2 : xS) (v2 : yS) (H : Heap) (locs : List Loc), Rel u2 v2 → va_P (dC, dI) vwCl (xW G C u2 ++ yW G2 C2 v2) H → va_D (fun q => s.heap.size ≤ q) (xW G C u2 ++ yW G2 C2 v2) → va_S (fun q => s.heap.size ≤ q) s.heap H locs → W p l e room_1 s m #[Value.ref b] below meth c H locs 16 1074 Q (F0 m 639 ls []) := by
      intro u2 v2 H locs hr hP hD hS
      refine lv_iinc (k := 0) (v := nI (i + 5)) (lv' := [(3, .int (nI (i + 5))), (0, .ref b), (1, .ref (G 0)), (2, .ref (G2 0))]) hx hb dL_law_639 hl rfl (xinc5 i) (by decide) rfl (fun ls hl => ?_)
      refine lv_goto (tgt := 18) hx hb dL_law_642 rfl ?_
      exact ih _ (by omega) (i + 5) u2 v2 H locs ls rfl hi hr hP hD hS hl
    by_cases h0 : j = 0
    · subst h0
      refine lv_tableIn (tgt := 116) hx hb dL_law_32 (by decide) (by decide) rfl rfl ?_
      exact k_open B0 hK hX hbl hi hL hr hP hD hS hl back
    by_cases h1 : j = 1
    · subst h1
      refine lv_tableIn (tgt := 149) hx hb dL_law_32 (by decide) (by decide) rfl rfl ?_
      exact k_insert B0 hK hX hbl hi hL hr hP hD hS hl back
    by_cases h2 : j = 2
    · subst h2
      refine lv_tableIn (tgt := 222) hx hb dL_law_32 (by decide) (by decide) rfl rfl ?_
      exact k_first B0 hK hX hbl hi hL hr hP hD hS hl back
    by_cases h3 : j = 3
    · subst h3
      refine lv_tableIn (tgt := 245) hx hb dL_law_32 (by decide) (by decide) rfl rfl ?_
      exact k_last B0 hK hX hbl hi hL hr hP hD hS hl back
    by_cases h4 : j = 4
    · subst h4
      refine lv_tableIn (tgt := 268) hx hb dL_law_32 (by decide) (by decide) rfl rfl ?_
      exact k_take B0 hK hX hbl hi hL hr hP hD hS hl back
    by_cases h5 : j = 5
    · subst h5
      refine lv_tableIn (tgt := 291) hx hb dL_law_32 (by decide) (by decide) rfl rfl ?_
      exact k_takeLast B0 hK hX hbl hi hL hr hP hD hS hl back
    by_cases h6 : j = 6
    · subst h6
      refine lv_tableIn (tgt := 314) hx hb dL_law_32 (by decide) (by decide) rfl rfl ?_
      exact k_decrease B0 hK hX hbl hi hL hr hP hD hS hl back
    by_cases h7 : j = 7
    · subst h7
      refine lv_tableIn (tgt := 377) hx hb dL_law_32 (by decide) (by decide) rfl rfl ?_
      exact k_delete B0 hK hX hbl hi hL hr hP hD hS hl back
    by_cases h8 : j = 8
    · subst h8
      refine lv_tableIn (tgt := 400) hx hb dL_law_32 (by decide) (by decide) rfl rfl ?_
      exact k_meld B0 hK hX hbl hi hL hr hP hD hS hl back
    by_cases h9 : j = 9
    · subst h9
      refine lv_tableIn (tgt := 433) hx hb dL_law_32 (by decide) (by decide) rfl rfl ?_
      exact k_drain B0 hK hX hbl hi hL hr hP hD hS hl back
    by_cases h10 : j = 10
    · subst h10
      refine lv_tableIn (tgt := 476) hx hb dL_law_32 (by decide) (by decide) rfl rfl ?_
      exact k_clear B0 hK hX hbl hi hL hr hP hD hS hl back
    by_cases h11 : j = 11
    · subst h11
      refine lv_tableIn (tgt := 499) hx hb dL_law_32 (by decide) (by decide) rfl rfl ?_
      exact k_size B0 hK hX hbl hi hL hr hP hD hS hl back
    by_cases h12 : j = 12
    · subst h12
      refine lv_tableIn (tgt := 522) hx hb dL_law_32 (by decide) (by decide) rfl rfl ?_
      exact k_floor B0 hK hX hbl hi hL hr hP hD hS hl back
    by_cases h13 : j = 13
    · subst h13
      refine lv_tableIn (tgt := 546) hx hb dL_law_32 (by decide) (by decide) rfl rfl ?_
      exact k_key B0 hK hX hbl hi hL hr hP hD hS hl back
    by_cases h14 : j = 14
    · subst h14
      refine lv_tableIn (tgt := 570) hx hb dL_law_32 (by decide) (by decide) rfl rfl ?_
      exact k_value B0 hK hX hbl hi hL hr hP hD hS hl back
    by_cases h15 : j = 15
    · subst h15
      refine lv_tableIn (tgt := 593) hx hb dL_law_32 (by decide) (by decide) rfl rfl ?_
      exact k_owner B0 hK hX hbl hi hL hr hP hD hS hl back
    by_cases h16 : j = 16
    · subst h16
      refine lv_tableIn (tgt := 616) hx hb dL_law_32 (by decide) (by decide) rfl rfl ?_
      exact k_before B0 hK hX hbl hi hL hr hP hD hS hl back
    refine lv_tableOut (tgt := 639) hx hb dL_law_32 (Or.inr (by rw [nI_toInt (by omega)]; omega)) rfl ?_
    exact back u v H locs hr hP hD hS
end
section
/-! THE CLAIM OUT OF ONE WALK OF THE LAW'S BODY. Your part is whole_start (and what it stands on); all else here is the same for every law, but numbers. -/
def R_law : String := "MeldingHeapsLaw"
def lw_P (b : Addr) (xs : List Int32) (args : Array Value) (s : State) : Prop := args = #[.ref b] ∧ s.IntsAt b xs ∧ xs.length ≤ 2560 ∧ (Jvm.Cond.and given_1 narrow_1).before args s = true
def lw_Q (_ : Array Value) (s : State) (o : Outcome) (t : State) : Prop := o = .returned (some (.int 1)) ∧ Framed s o t [] 16 1074
def lw_Z (below : List Frame) (a : Array Value) (s : State) : State → Prop := fun t => ∃ o, t.status = .running ∧ Ended t below o ∧ lw_Q a s o t
/-- the law's own end, with 1 on the stack, nothing written that was there before, its room as the claim has it -/
theorem lw_ret {p : Program} {l : Launch} {e : Env} {s : State} {m : MethodId} {below : List Frame} {meth : Method} {c : Code} {b : Nat} (hx : p.tables.exec = Jvm.exec) (hb : c.code = code) (hr : meth.sig.returnType = ret) (hlocks : meth.locks = false) {pc : Nat} {H : Heap} {ls : Array Slot} (hdg : decode code pc = .ok (.ireturn, 1)) : W p l e room_1 s m #[Value.ref b] below meth c H [] 16 1074 (lw_Z below #[Value.ref b] s) (F0 m pc ls [.int 1]) := by
  intro T hT X
  obtain ⟨fs, hret, hrun, hended, hW, hframe⟩ := X.leave (v := some (.int 1)) (hlocks := hlocks) (fun h => by rw [hr] at h; cases h)
  have hmeth' : T.vm.method? m = some meth := X.method'
  refine ⟨T.setFrames fs, ?_, .returned (some (.int 1)), hrun, hended, rfl, ⟨_, rfl⟩, hW, hframe⟩
  jvm_step X.here [X.here.top, hx, hb, hdg, hmeth', hr, ret, narrow_b1]
  (try refine ⟨rfl, ?_⟩); (try refine ⟨rfl, ?_⟩)
  first | (intro acts; rw [hret _ acts rfl rfl rfl]) | rw [hret _ _ rfl rfl rfl]
  exact Steps.refl _
/-- what holds at the law's entry: the machine, the code, the tables' words (any of lw_tbl by 'hts w (by decide +kernel)'), the script of L ints xs at the cell b, what the Statement gives of the start (any of its parts by flat_of_before) -/
def lw_At (p : Program) (s : State) (m : MethodId) (meth : Method) (c : Code) (b L : Nat) (xs : Nat → Int32) : Prop :=
  p.tables.exec = Jvm.exec ∧ c.code = code ∧ meth.sig.returnType = ret ∧ c.maxLocals = 4 ∧ s.vm.findClass R_law = some m.cls ∧ (∀ w ∈ lw_tbl, w.before #[Value.ref b] s = true) ∧ va_X b L xs s s.heap ∧ b < s.heap.size ∧ meth.locks = false ∧ (Jvm.Cond.and given_1 narrow_1).before #[Value.ref b] s = true
set_option maxHeartbeats 4000000 in
set_option maxRecDepth 100000 in
theorem whole_start {p : Program} {e : Env} {s : State} {m : MethodId} {below : List Frame} {meth : Method} {c : Code} (l : Launch) {b L : Nat} {xs : Nat → Int32} (hL : L ≤ 2560) (C0 : lw_At p s m meth c b L xs) : W p l e room_1 s m #[Value.ref b] below meth c s.heap [] 0 0 (lw_Z below #[Value.ref b] s) (entryFrame m ([Value.ref b] : List Value).toArray 4) := by
  obtain ⟨hx, hb, hr, hml, hown, hts, hX, hbl, hlocks, hgv⟩ := C0
  have hown : s.vm.findClass RL = some m.cls := hown
  have hfX : ∀ w ∈ u_ws RX0 TX0 9, w ∈ lw_tbl := fun w h => wsL_law_in w (inlX0 w h)
  have hfY : ∀ w ∈ u_ws RX1 TX1 9, w ∈ lw_tbl := fun w h => wsL_law_in w (inlX1 w h)
  obtain ⟨cX, iX, hX0⟩ := u_known (C := RX0) (T := TX0) (N := 9) (n := 9) hts hfX (hts (.instantiable RX0 9) (by decide +kernel))
  obtain ⟨cY, iY, hY0⟩ := u_known (C := RX1) (T := TX1) (N := 9) (n := 9) hts hfY (hts (.instantiable RX1 9) (by decide +kernel))
  obtain ⟨dC, dI, hK⟩ : ∃ (dC : Nat → ClassId) (dI : Nat → Nat → Nat), va_K (dC, dI) vwCl [] s := by
    refine ⟨fun k => if k = 0 then cX else cY, fun k => if k = 0 then iX else iY, fun c q h => ?_, fun k q h => by simp at h⟩
    by_cases h0 : c = 0
    · subst h0
      have e : (RX0, TX0, 9) = q := Option.some.inj h
      subst e
      exact hX0
    · by_cases h1 : c = 1
      · subst h1
        have e : (RX1, TX1, 9) = q := Option.some.inj h
        subst e
        exact hY0
      · have : vwCl[c]? = none := List.getElem?_eq_none (by show 2 ≤ c; omega)
        rw [this] at h
        cases h
  have hP : va_P (dC, dI) vwCl [] s.heap := fun k q h => by simp at h
  have hD : va_D (fun q => s.heap.size ≤ q) [] := ⟨fun i j p q h => by simp at h, fun k q h => by simp at h⟩
  have hS : va_S (fun q => s.heap.size ≤ q) s.heap s.heap [] := va_S.rf
  have hA : ∀ q : Nat, s.heap.size ≤ q → s.heap.size ≤ q := fun _ h => h
  have hl := lv_entry ([.ref b]) (n := 4) (Nat.le_of_ble_eq_true rfl)
  rw [lg_entry_eq]
  generalize (lg_sl ([.ref b]) ++ List.replicate (4 - (lg_sl ([.ref b])).length) Slot.unset).toArray = ls at hl ⊢
  have hl : lv_has ls 4 [(0, .ref b)] := hl
  refine va_new (ci := 0) (fs := [.null, .null, .null, .null, .int 0, .null, .null, .null, .int 0]) (C := RX0) (T := TX0) (N := 9) hx hb hts hfX tyX0 tyX0_ok hown (hts (.classLink RL 7 RX0) (by decide +kernel)) (hts (.instantiable RX0 9) (by decide +kernel)) (hts (.initialized RX0) (by decide +kernel)) hK hP hD hS hA rfl (fun j hj => by rcases (show j = 0 ∨ j = 1 ∨ j = 2 ∨ j = 3 ∨ j = 4 ∨ j = 5 ∨ j = 6 ∨ j = 7 ∨ j = 8 by omega) with rfl | rfl | rfl | rfl | rfl | rfl | rfl | rfl | rfl <;> rfl) (Nat.le_of_ble_eq_true rfl) (Nat.le_of_ble_eq_true rfl) dL_law_0 (fun h0 H hP hD hS => ?_)
  have hP : va_P (dC, dI) vwCl [(h0, .inr (0, [.null, .null, .null, .null, .int 0, .null, .null, .null, .int 0]))] H := hP
  have hD : va_D (fun q => s.heap.size ≤ q) [(h0, .inr (0, [.null, .null, .null, .null, .int 0, .null, .null, .null, .int 0]))] := hD
  refine W.widen (k := 1) (n := 9) (by omega) (by omega) ?_
  refine lv_dup hx hb dL_law_3 rfl ?_
  have hPc := hP
  have hDc := hD
  have hKc := hK
  have hFc := va_free (wc := [(h0, .inr (0, [.null, .null, .null, .null, .int 0, .null, .null, .null, .int 0]))]) hD hS hA [0] rfl
  refine va_callv (va_runI (As := []) (rest := [.ref h0]) ⟨hx, hb, hml, hown, hts⟩ (c_xinit l dC dI h0 H.size) (cwI 0 hts (gLup gL_law_X0_init) rfl rfl rfl (hts (.initialized RX0) (by decide +kernel)) (hts (.methodLink RL 9 yX0_init) (by decide +kernel)) (hts (.instanceMethod yX0_init) (by decide +kernel)) rfl (by decide +kernel) ⟨Nat.le_of_ble_eq_true rfl, Nat.le_of_ble_eq_true rfl⟩) ⟨fun a U g mk q => by obtain ⟨q0, q1, qP, qK, qD⟩ := q; exact ⟨q0, q1, qP, va_K.moved (u := U) (U := U.calling g mk a) (Vm.Alike.refl U.vm) qK, qD⟩, fun U hU hW => ⟨rfl, by rw [hU], by rw [hU]; exact hPc, va_K.moved hW.alike hKc, hDc.weaken (fun _ _ _ _ => trivial)⟩⟩ rfl rfl hl.1 rfl (lv_room (Nat.le_of_ble_eq_true rfl)) dL_law_4 ⟨Nat.le_of_ble_eq_true rfl, Nat.le_of_ble_eq_true rfl⟩) hS (fun q _ h => hFc q h) hFc (fun z t H1 locs ht hvm hg hB hz1 hk1 hS => ?_)
  obtain ⟨G, C⟩ := z
  obtain ⟨hP1, hK1, hD1⟩ := hB
  have hP1 : va_P (dC, dI) vwCl (xW G C xu0) t.heap := hP1
  have hK1 : va_K (dC, dI) vwCl (xT C) t := hK1
  rw [ht] at hP1
  have hK1 := va_K.moved hvm.symm hK1
  obtain ⟨hP9, hD9⟩ := va_join (wr := []) (w1 := xW G C xu0) hP hD [0] [] rfl rfl (by decide) (by decide) hk1 hFc hP1 hD1
  have hg : G 0 = h0 := hg
  subst hg
  clear hFc hPc hDc hKc
  generalize H1 = H at hP9 hS ⊢
  have hP : va_P (dC, dI) vwCl (xW G C xu0) H := hP9
  have hD : va_D (fun q => s.heap.size ≤ q) (xW G C xu0) := hD9
  have hK : va_K (dC, dI) vwCl (xT C) s := hK1
  refine W.widen (k := 8) (n := 537) (by omega) (by omega) ?_
  refine lv_astore_n (lv' := [(1, .ref (G 0)), (0, .ref b)]) hx hb dL_law_7 rfl hl (by decide) rfl (fun ls hl => ?_)
  refine va_new (ci := 1) (fs := [.int 0, .null, .null, .null, .null, .int 0, .null, .null, .null]) (C := RX1) (T := TX1) (N := 9) hx hb hts hfY tyX1 tyX1_ok hown (hts (.classLink RL 10 RX1) (by decide +kernel)) (hts (.instantiable RX1 9) (by decide +kernel)) (hts (.initialized RX1) (by decide +kernel)) hK hP hD hS hA rfl (fun j hj => by rcases (show j = 0 ∨ j = 1 ∨ j = 2 ∨ j = 3 ∨ j = 4 ∨ j = 5 ∨ j = 6 ∨ j = 7 ∨ j = 8 by omega) with rfl | rfl | rfl | rfl | rfl | rfl | rfl | rfl | rfl <;> rfl) (Nat.le_of_ble_eq_true rfl) (Nat.le_of_ble_eq_true rfl) dL_law_8 (fun h1 H hP hD hS => ?_)
  have hP : va_P (dC, dI) vwCl (xW G C xu0 ++ [(h1, .inr (1, [.int 0, .null, .null, .null, .null, .int 0, .null, .null, .null]))]) H := hP
  have hD : va_D (fun q => s.heap.size ≤ q) (xW G C xu0 ++ [(h1, .inr (1, [.int 0, .null, .null, .null, .null, .int 0, .null, .null, .null]))]) := hD
  refine W.widen (k := 9) (n := 546) (by omega) (by omega) ?_
  refine lv_dup hx hb dL_law_11 rfl ?_
  have hPc := hP.sub (ws' := [(h1, .inr (1, [.int 0, .null, .null, .null, .null, .int 0, .null, .null, .null]))]) [8] rfl
  have hDc := hD.sub (ws' := [(h1, .inr (1, [.int 0, .null, .null, .null, .null, .int 0, .null, .null, .null]))]) [8] (by decide) rfl
  have hKc := hK.sub (tys' := []) [] rfl
  have hFc := va_free (wc := [(h1, .inr (1, [.int 0, .null, .null, .null, .null, .int 0, .null, .null, .null]))]) hD hS hA [8] rfl
  refine va_callv (va_runI (As := []) (rest := [.ref h1]) ⟨hx, hb, hml, hown, hts⟩ (yc_init l dC dI h1 H.size) (cwI 0 hts gL_law_Y_init rfl rfl rfl (hts (.initialized RX1) (by decide +kernel)) (hts (.methodLink RL 12 yY_init) (by decide +kernel)) (hts (.instanceMethod yY_init) (by decide +kernel)) rfl (by decide +kernel) ⟨Nat.le_of_ble_eq_true rfl, Nat.le_of_ble_eq_true rfl⟩) ⟨fun a U g mk q => by obtain ⟨q0, q1, qP, qK, qD⟩ := q; exact ⟨q0, q1, qP, va_K.moved (u := U) (U := U.calling g mk a) (Vm.Alike.refl U.vm) qK, qD⟩, fun U hU hW => ⟨rfl, by rw [hU], by rw [hU]; exact hPc, va_K.moved hW.alike hKc, hDc.weaken (fun _ _ _ _ => trivial)⟩⟩ rfl rfl hl.1 rfl (lv_room (Nat.le_of_ble_eq_true rfl)) dL_law_12 ⟨Nat.le_of_ble_eq_true rfl, Nat.le_of_ble_eq_true rfl⟩) hS (fun q _ h => hFc q h) hFc (fun z t H1 locs ht hvm hg hB hz1 hk1 hS => ?_)
  obtain ⟨G2, C2⟩ := z
  obtain ⟨hP1, hK1, hD1⟩ := hB
  have hP1 : va_P (dC, dI) vwCl (yW G2 C2 yu0) t.heap := hP1
  have hK1 : va_K (dC, dI) vwCl (yT C2) t := hK1
  rw [ht] at hP1
  have hK1 := va_K.moved hvm.symm hK1
  obtain ⟨hP8, hD8⟩ := va_join (wr := xW G C xu0) (w1 := yW G2 C2 yu0) hP hD [8] [0, 1, 2, 3, 4, 5, 6, 7] rfl rfl (by decide) (by decide) hk1 hFc hP1 hD1
  have hg : G2 0 = h1 := hg
  subst hg
  clear hFc hPc hDc hKc
  generalize H1 = H at hP8 hS ⊢
  have hK := hK.app hK1
  refine W.widen (k := 16) (n := 1074) (by omega) (by omega) ?_
  refine lv_astore_n (lv' := [(2, .ref (G2 0)), (1, .ref (G 0)), (0, .ref b)]) hx hb dL_law_15 rfl hl (by decide) rfl (fun ls hl => ?_)
  refine lv_iconst (v := 0) hx hb dL_law_16 (by decide) ?_
  refine lv_istore_n (lv' := [(3, .int 0), (2, .ref (G2 0)), (1, .ref (G 0)), (0, .ref b)]) hx hb dL_law_17 rfl hl (by decide) rfl (fun ls hl => ?_)
  refine lp_law ⟨hx, hb, hml, hown, hts⟩ hK hX hbl hL (fun H locs ls hS => ?_) _ 0 xu0 yu0 _ _ _ rfl (Nat.zero_le _) rel_0 hP8 hD8 hS (lv_sub hl [0, 3, 2, 1] rfl)
  refine lv_iconst (v := 1) hx hb dL_law_645 (by decide) ?_
  refine va_forget (fun q hq => hS.2.2 q hq) ?_
  exact lw_ret hx hb hr hlocks dL_law_646
end
section
set_option maxHeartbeats 4000000 in
theorem lw_walk (l : Launch) (b : Addr) (xs : List Int32) : MetFree l x (headSpec (Jvm.Cond.code x code maxLocals ret :: tables_1) room_1) (lw_P b xs) (fun _ _ _ _ _ => True) lw_Q := by
  refine MetFree.of_bodyS (code := code) (maxLocals := maxLocals) (ret := ret) (by decide) ?_ ?_
  · intro args s m h hn
    obtain ⟨meth, c, h1, h2, h3, h4, h5, h6, -, -⟩ := Cond.code_spec hn (atoms_spec (ws := Jvm.Cond.code x code maxLocals ret :: tables_1) h _ List.mem_cons_self)
    exact ⟨meth, c, h1, h2, h3, h4, h5, h6⟩
  · intro p e s m args below meth c s₁ B hml0 hP _
    obtain ⟨rfl, hx, hbd, hgv⟩ := hP
    obtain ⟨scr, harrAt, hlist, hof, hsmall⟩ := hx
    obtain ⟨hcb, hkn, -, -⟩ := State.arrayAt?_spec harrAt
    have hown : s.vm.findClass R_law = some m.cls := findClass_of_methodNamed B.named
    have hts0 : ∀ c ∈ (Jvm.Cond.code x code maxLocals ret :: tables_1), c.before #[Value.ref b] s = true := atoms_spec (ws := Jvm.Cond.code x code maxLocals ret :: tables_1) B.pre
    have hts : ∀ w ∈ lw_tbl, w.before #[Value.ref b] s = true := k2_hts_sels lw_privs (fun w hw => hts0 w (List.mem_cons_of_mem _ hw)) lw_privs_ok
    have hml : c.maxLocals = 4 := B.maxLocals_eq (hts0 _ List.mem_cons_self)
    have X₀ : Stand p l e room_1 s m #[Value.ref b] below meth c s₁ [] 0 0 := Stand.of_body B
    have hh0 : s₁.heap = s.heap := by rw [B.state]; rfl
    have hsz : scr.slots.size = xs.length := by rw [← Array.length_toList, hlist, List.length_map]
    have hval : ∀ j : Nat, j < xs.length → scr.slots[j]? = some (.int (xs.getD j 0)) := fun j hj => by
      rw [← Array.getElem?_toList, hlist]
      simp [hj]
    have hbl : b < s.heap.size := (Array.getElem?_eq_some_iff.mp hcb).1
    have hX : va_X b xs.length (fun j => xs.getD j 0) s s.heap := ⟨scr, hcb, hof, hkn, hsz, hval⟩
    have K : W p l e room_1 s m #[Value.ref b] below meth c s₁.heap [] 0 0 (lw_Z below #[Value.ref b] s) (entryFrame m ([Value.ref b] : List Value).toArray 4) := by
      rw [hh0]
      exact whole_start l hbd ⟨B.exec, B.bytes, B.returns, hml, hown, hts, hX, hbl, B.notSynchronized, hgv⟩
    obtain ⟨t, a1, o, b1, b2, b3⟩ := K s₁ rfl X₀
    exact ⟨t, o, a1, b1, b2, b3⟩
theorem lw_pre_spec {args : Array Value} {s : State} (h : (Jvm.Cond.and given_1 narrow_1).before args s = true) (hr : rest_1_c.before args s = true) : ∃ (b : Addr) (xs : List Int32), lw_P b xs args s := by
  have hs := flat_of_before _ h
  have hq := flat_of_before _ hr
  have hc : (Cond.count 1).before args s = true := hs _ (by decide +kernel)
  have harr : (Cond.arrayOf (.arg 0) .int).before args s = true := hs _ (by decide +kernel)
  have hle : (Cond.le (.length (.arg 0)) (.int 2560)).before args s = true := hs _ (by decide +kernel)
  have hlen : (Cond.isInt (.length (.arg 0))).before args s = true := hq _ (by decide +kernel)
  have hall : (Cond.all (.arg 0) (.isInt (.elem (.arg 0) (.index 0)))).before args s = true := hq _ (by decide +kernel)
  obtain ⟨b, xs, hb, hx⟩ := State.ints_of_pre rfl harr hlen hall
  have hsm : xs.length < 2 ^ 31 := hx.choose_spec.2.2.2
  have hev : (Term.length (.arg 0)).eval args s none [] s = some (.int xs.length.toInt32) := hx.length_eval hb
  have hv := Cond.le_ints hev (show (Term.int 2560).eval args s none [] s = some (.int 2560) from rfl)
  have hd : xs.length.toInt32 ≤ 2560 := by
    simpa [Cond.before, Cond.holds, hv] using hle
  have hN : xs.length ≤ 2560 := (Int32.ofNat_le_ofNat hsm (by decide)).mp (show Int32.ofNat xs.length ≤ Int32.ofNat 2560 from hd)
  exact ⟨b, xs, Cond.one_arg hc (show args[0]? = some (.ref b) from hb), hx, hN, h⟩
theorem lw_comes (l : Launch) : Comes l x (Jvm.Cond.code x code maxLocals ret :: tables_1) room_1 (fun tb e args s => Calls_1 tb e args s ∧ rest_1 tb e args s ∧ Pre_1 tb e args s)
    (fun _ _ args s o t => lw_Q args s o t) := by
  intro p e ha hc hk s m args below hf hfit hheap happ hpre
  obtain ⟨b, xs, hP⟩ := lw_pre_spec hpre.2.2 hpre.2.1
  obtain ⟨k, o, h1, h2, h3, hQ⟩ := lw_walk l b xs p e ha hc hk s m args below hf ((Spec.applies_iff_loose hf).mp happ).1 hP trivial
  exact ⟨k, o, h1, h2, h3, hQ⟩
theorem lw_frame {s t : State} {o : Outcome} {args : Array Value} (h : Framed s o t [] 16 1074) :
    Framed s o t (fieldLocs frame_1_writes args s ++ arrayLocs frame_1_arrays args s ++ staticLocs frame_1_statics s) 16 1074 := h
theorem lw_limb (L : Cond) (hL : ∀ (args : Array Value) (s t : State), L.after args s (.returned (some (.int 1))) t = true) :
    ArmFor flags0 classFile x code maxLocals ret World_1 tables_1 room_1 Calls_1 rest_1 Pre_1
      (fun tb e a s o t => postC L tb e a s o t ∧ Framed s o t (fieldLocs frame_1_writes a s ++ arrayLocs frame_1_arrays a s ++ staticLocs frame_1_statics s) 16 1074) := by
  intro l _ _ _ p e ha hc hk s m args below hf hfit hheap happ hpre
  obtain ⟨k, o, h1, h2, h3, rfl, hF⟩ := lw_comes l p e ha hc hk s m args below hf hfit hheap happ hpre
  exact ⟨k, _, h1, h2, h3, hL args s _, lw_frame hF⟩
theorem i_vc : Claimed_1_1 ∧ Claimed_1_2 := ⟨lw_limb limb_1_1 (fun args s t => by simp [limb_1_1, Cond.after, Cond.holds, Cond.value]), lw_limb limb_1_2 (fun args s t => Cond.after_iff.mpr (by
  first | (rw [show limb_1_2 = Cond.eq .result (.int 1) from rfl, Cond.eq_ints (x := 1) (y := 1) rfl rfl]; simp; done) | (simp [limb_1_2, Cond.value, Term.eval]; done)))⟩
end
