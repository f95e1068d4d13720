section
-- ===== PART A: goes FIRST, ahead of the names: the tables' words, and 'selects' of the private methods out of them =====
/-- a private method of a class that the tables say can be made, by its rows of tables_1 -/
def lw_okq (q : MethodName × Nat) : Prop := (q.1.cls ≠ "java/lang/invoke/MethodHandle" ∧ q.1.cls ≠ "java/lang/invoke/VarHandle") ∧ Cond.instantiable q.1.cls q.2 ∈ tables_1 ∧ Cond.privateMethod q.1 ∈ tables_1 ∧ Cond.instanceMethod q.1 ∈ tables_1
theorem lw_p0 : lw_okq (⟨"NameTable", "placeFor", "(JI)I"⟩, 4) := ⟨⟨by decide +kernel, by decide +kernel⟩, List.mem_of_getElem? (i := 5) (by decide +kernel), List.mem_of_getElem? (i := 35) (by decide +kernel), List.mem_of_getElem? (i := 36) (by decide +kernel)⟩
theorem lw_p1 : lw_okq (⟨"NameTable", "isBefore", "(IJI)Z"⟩, 4) := ⟨⟨by decide +kernel, by decide +kernel⟩, List.mem_of_getElem? (i := 5) (by decide +kernel), List.mem_of_getElem? (i := 39) (by decide +kernel), List.mem_of_getElem? (i := 40) (by decide +kernel)⟩
theorem lw_p2 : lw_okq (⟨"NameTable", "isNamed", "(IJI)Z"⟩, 4) := ⟨⟨by decide +kernel, by decide +kernel⟩, List.mem_of_getElem? (i := 5) (by decide +kernel), List.mem_of_getElem? (i := 43) (by decide +kernel), List.mem_of_getElem? (i := 44) (by decide +kernel)⟩
theorem lw_p3 : lw_okq (⟨"NameTable", "isPlace", "(I)Z"⟩, 4) := ⟨⟨by decide +kernel, by decide +kernel⟩, List.mem_of_getElem? (i := 5) (by decide +kernel), List.mem_of_getElem? (i := 47) (by decide +kernel), List.mem_of_getElem? (i := 48) (by decide +kernel)⟩
theorem lw_p4 : lw_okq (⟨"NameTable", "insertAt", "(IJII)V"⟩, 4) := ⟨⟨by decide +kernel, by decide +kernel⟩, List.mem_of_getElem? (i := 5) (by decide +kernel), List.mem_of_getElem? (i := 51) (by decide +kernel), List.mem_of_getElem? (i := 52) (by decide +kernel)⟩
theorem lw_p5 : lw_okq (⟨"NameTable", "moveTail", "(II)V"⟩, 4) := ⟨⟨by decide +kernel, by decide +kernel⟩, List.mem_of_getElem? (i := 5) (by decide +kernel), List.mem_of_getElem? (i := 55) (by decide +kernel), List.mem_of_getElem? (i := 56) (by decide +kernel)⟩
theorem lw_p6 : lw_okq (⟨"NameTable", "deleteAt", "(I)I"⟩, 4) := ⟨⟨by decide +kernel, by decide +kernel⟩, List.mem_of_getElem? (i := 5) (by decide +kernel), List.mem_of_getElem? (i := 71) (by decide +kernel), List.mem_of_getElem? (i := 72) (by decide +kernel)⟩
theorem lw_p7 : lw_okq (⟨"NameTableModel", "place", "(JI)I"⟩, 4) := ⟨⟨by decide +kernel, by decide +kernel⟩, List.mem_of_getElem? (i := 99) (by decide +kernel), List.mem_of_getElem? (i := 122) (by decide +kernel), List.mem_of_getElem? (i := 123) (by decide +kernel)⟩
theorem lw_p8 : lw_okq (⟨"NameTableModel", "is", "(IJI)Z"⟩, 4) := ⟨⟨by decide +kernel, by decide +kernel⟩, List.mem_of_getElem? (i := 99) (by decide +kernel), List.mem_of_getElem? (i := 126) (by decide +kernel), List.mem_of_getElem? (i := 127) (by decide +kernel)⟩
theorem lw_p9 : lw_okq (⟨"NameTableModel", "go", "(I)I"⟩, 4) := ⟨⟨by decide +kernel, by decide +kernel⟩, List.mem_of_getElem? (i := 99) (by decide +kernel), List.mem_of_getElem? (i := 139) (by decide +kernel), List.mem_of_getElem? (i := 140) (by decide +kernel)⟩
def lw_privs_1 : List (MethodName × Nat) := [(⟨"NameTable", "placeFor", "(JI)I"⟩, 4), (⟨"NameTable", "isBefore", "(IJI)Z"⟩, 4), (⟨"NameTable", "isNamed", "(IJI)Z"⟩, 4), (⟨"NameTable", "isPlace", "(I)Z"⟩, 4), (⟨"NameTable", "insertAt", "(IJII)V"⟩, 4), (⟨"NameTable", "moveTail", "(II)V"⟩, 4), (⟨"NameTable", "deleteAt", "(I)I"⟩, 4), (⟨"NameTableModel", "place", "(JI)I"⟩, 4), (⟨"NameTableModel", "is", "(IJI)Z"⟩, 4), (⟨"NameTableModel", "go", "(I)I"⟩, 4)]
theorem lw_r1 : ∀ q ∈ lw_privs_1, lw_okq q := List.forall_mem_cons.mpr ⟨lw_p0, List.forall_mem_cons.mpr ⟨lw_p1, List.forall_mem_cons.mpr ⟨lw_p2, List.forall_mem_cons.mpr ⟨lw_p3, List.forall_mem_cons.mpr ⟨lw_p4, List.forall_mem_cons.mpr ⟨lw_p5, List.forall_mem_cons.mpr ⟨lw_p6, List.forall_mem_cons.mpr ⟨lw_p7, List.forall_mem_cons.mpr ⟨lw_p8, List.forall_mem_cons.mpr ⟨lw_p9, fun _ h => absurd h List.not_mem_nil⟩⟩⟩⟩⟩⟩⟩⟩⟩⟩
def lw_privs : List (MethodName × Nat) := lw_privs_1
def lw_tbl : List Cond := k2_sels lw_privs ++ tables_1
theorem lw_privs_ok : ∀ q ∈ lw_privs, lw_okq q := lw_r1
end
section
/-! ===== BEGIN words of one list among another's, by their places ===== -/
theorem goodIn_r {big : List Cond} (ws : List Cond) (ps : List Nat) (hp : ws = ps.filterMap (fun i => big[i]?)) (h : ws.all goodWord = true) : GoodIn big ws := by
  intro w hw
  have h1 := List.all_eq_true.mp h w hw
  rw [hp] at hw
  obtain ⟨i, -, hi⟩ := List.mem_filterMap.mp hw
  have hm : w ∈ big := by first | exact List.mem_of_getElem? hi | exact List.getElem?_mem hi
  exact ⟨hm, good_of_word h1⟩
theorem goodIn_app {big a b : List Cond} (ha : GoodIn big a) (hb : GoodIn big b) : GoodIn big (a ++ b) := fun w h => (List.mem_append.mp h).elim (ha w) (hb w)
theorem goodIn_ca {big a b : List Cond} {c : Cond} (ha : GoodIn big (c :: a)) (hb : GoodIn big b) : GoodIn big (c :: (a ++ b)) := fun w h => (List.mem_cons.mp h).elim (fun e => ha w (List.mem_cons.mpr (Or.inl e))) (fun h => (List.mem_append.mp h).elim (fun h => ha w (List.mem_cons.mpr (Or.inr h))) (hb w))
theorem goodIn_sub {big ws : List Cond} (hm : ∀ w ∈ ws, w ∈ big) (h : ws.all goodWord = true) : GoodIn big ws := fun w hw => ⟨hm w hw, good_of_word (List.all_eq_true.mp h w hw)⟩
/-! ===== END ===== -/

/-! ===== BEGIN printed: names, fields, word lists, decode rows ===== -/
def RX0 : String := "NameTable"
def TX0 : u_T := fun k => match k with
  | 0 => ("NameTable", "ids", "[J", true)
  | 1 => ("NameTable", "indexes", "[I", true)
  | 2 => ("NameTable", "values", "[I", true)
  | _ => ("NameTable", "count", "I", false)
def tyX0 : Nat → FieldType := fun k => match k with
  | 0 => .array .long
  | 1 => .array .int
  | 2 => .array .int
  | _ => .int
abbrev wsX00 : List Cond := u_ws RX0 TX0 4
theorem nmX0 : ∀ a, a < 4 → ∀ b, b < 4 → a ≠ b → (TX0 a).2.1 ≠ (TX0 b).2.1 := by decide +kernel
theorem tyX0_ok : ∀ k, k < 4 → parseFieldDescriptor (TX0 k).2.2.1 = some (tyX0 k) := by decide +kernel
abbrev cX0_init : ByteArray := prog_1_method_1_code
def yX0_init : MethodName := ⟨RX0, "<init>", "()V"⟩
abbrev cX0_add : ByteArray := prog_1_method_2_code
def yX0_add : MethodName := ⟨RX0, "add", "(JII)I"⟩
abbrev cX0_some : ByteArray := prog_1_method_3_code
def yX0_some : MethodName := ⟨RX0, "some", "(JJII)I"⟩
abbrev cX0_remove : ByteArray := prog_1_method_4_code
def yX0_remove : MethodName := ⟨RX0, "remove", "(JI)I"⟩
abbrev cX0_take : ByteArray := prog_1_method_5_code
def yX0_take : MethodName := ⟨RX0, "take", "(I)I"⟩
abbrev cX0_get : ByteArray := prog_1_method_6_code
def yX0_get : MethodName := ⟨RX0, "get", "(JI)I"⟩
abbrev cX0_name : ByteArray := prog_1_method_7_code
def yX0_name : MethodName := ⟨RX0, "name", "(I)J"⟩
abbrev cX0_index : ByteArray := prog_1_method_8_code
def yX0_index : MethodName := ⟨RX0, "index", "(I)I"⟩
abbrev cX0_many : ByteArray := prog_1_method_9_code
def yX0_many : MethodName := ⟨RX0, "many", "()I"⟩
abbrev cX0_value : ByteArray := prog_1_method_10_code
def yX0_value : MethodName := ⟨RX0, "value", "()J"⟩
abbrev cX0_isIndex : ByteArray := prog_1_method_11_code
def yX0_isIndex : MethodName := ⟨RX0, "isIndex", "(I)Z"⟩
abbrev cX0_isPlace : ByteArray := prog_1_method_12_code
def yX0_isPlace : MethodName := ⟨RX0, "isPlace", "(I)Z"⟩
abbrev cX0_isNamed : ByteArray := prog_1_method_13_code
def yX0_isNamed : MethodName := ⟨RX0, "isNamed", "(IJI)Z"⟩
abbrev cX0_isBefore : ByteArray := prog_1_method_14_code
def yX0_isBefore : MethodName := ⟨RX0, "isBefore", "(IJI)Z"⟩
abbrev cX0_placeFor : ByteArray := prog_1_method_15_code
def yX0_placeFor : MethodName := ⟨RX0, "placeFor", "(JI)I"⟩
abbrev cX0_insertAt : ByteArray := prog_1_method_16_code
def yX0_insertAt : MethodName := ⟨RX0, "insertAt", "(IJII)V"⟩
abbrev cX0_deleteAt : ByteArray := prog_1_method_17_code
def yX0_deleteAt : MethodName := ⟨RX0, "deleteAt", "(I)I"⟩
abbrev cX0_moveTail : ByteArray := prog_1_method_18_code
def yX0_moveTail : MethodName := ⟨RX0, "moveTail", "(II)V"⟩
def RX1 : String := "NameTableModel"
def TX1 : u_T := fun k => match k with
  | 0 => ("NameTableModel", "id", "[J", true)
  | 1 => ("NameTableModel", "index", "[I", true)
  | 2 => ("NameTableModel", "value", "[I", true)
  | _ => ("NameTableModel", "count", "I", false)
def tyX1 : Nat → FieldType := fun k => match k with
  | 0 => .array .long
  | 1 => .array .int
  | 2 => .array .int
  | _ => .int
abbrev wsX10 : List Cond := u_ws RX1 TX1 4
theorem nmX1 : ∀ a, a < 4 → ∀ b, b < 4 → a ≠ b → (TX1 a).2.1 ≠ (TX1 b).2.1 := by decide +kernel
theorem tyX1_ok : ∀ k, k < 4 → parseFieldDescriptor (TX1 k).2.2.1 = some (tyX1 k) := by decide +kernel
abbrev cX1_init : ByteArray := prog_3_method_1_code
def yX1_init : MethodName := ⟨RX1, "<init>", "()V"⟩
abbrev cX1_place : ByteArray := prog_3_method_2_code
def yX1_place : MethodName := ⟨RX1, "place", "(JI)I"⟩
abbrev cX1_is : ByteArray := prog_3_method_3_code
def yX1_is : MethodName := ⟨RX1, "is", "(IJI)Z"⟩
abbrev cX1_add : ByteArray := prog_3_method_4_code
def yX1_add : MethodName := ⟨RX1, "add", "(JII)I"⟩
abbrev cX1_some : ByteArray := prog_3_method_5_code
def yX1_some : MethodName := ⟨RX1, "some", "(JJII)I"⟩
abbrev cX1_go : ByteArray := prog_3_method_6_code
def yX1_go : MethodName := ⟨RX1, "go", "(I)I"⟩
abbrev cX1_remove : ByteArray := prog_3_method_7_code
def yX1_remove : MethodName := ⟨RX1, "remove", "(JI)I"⟩
abbrev cX1_take : ByteArray := prog_3_method_8_code
def yX1_take : MethodName := ⟨RX1, "take", "(I)I"⟩
abbrev cX1_get : ByteArray := prog_3_method_9_code
def yX1_get : MethodName := ⟨RX1, "get", "(JI)I"⟩
abbrev cX1_name : ByteArray := prog_3_method_10_code
def yX1_name : MethodName := ⟨RX1, "name", "(I)J"⟩
abbrev cX1_index : ByteArray := prog_3_method_11_code
def yX1_index : MethodName := ⟨RX1, "index", "(I)I"⟩
abbrev cX1_many : ByteArray := prog_3_method_12_code
def yX1_many : MethodName := ⟨RX1, "many", "()I"⟩
abbrev cX1_value : ByteArray := prog_3_method_13_code
def yX1_value : MethodName := ⟨RX1, "value", "()J"⟩
def RJ10 : String := "java/lang/System"
def TJ10 : u_T := fun k => match k with
  | _ => ("", "", "", false)
def tyJ10 : Nat → FieldType := fun k => match k with
  | _ => .int
abbrev wsJ100 : List Cond := u_ws RJ10 TJ10 0
theorem nmJ10 : ∀ a, a < 0 → ∀ b, b < 0 → a ≠ b → (TJ10 a).2.1 ≠ (TJ10 b).2.1 := by decide +kernel
theorem tyJ10_ok : ∀ k, k < 0 → parseFieldDescriptor (TJ10 k).2.2.1 = some (tyJ10 k) := by decide +kernel
def RL : String := "NameTableLaw"
abbrev cL_law : ByteArray := code
def yL_law : MethodName := ⟨RL, "law", "([I)Z"⟩
def wsX0_init : List Cond := .code yX0_init cX0_init 1 none :: ([.methodLink RX0 1 objectInit, .instanceMethod objectInit, .code objectInit ⟨#[0xb1]⟩ 1 none, .arrayClass .long, .fieldLink RX0 9 "NameTable" "ids" "[J", .arrayClass .int, .fieldLink RX0 13 "NameTable" "indexes" "[I", .fieldLink RX0 17 "NameTable" "values" "[I", .fieldLink RX0 20 "NameTable" "count" "I"] ++ wsX00)
def wsX0_isIndex : List Cond := .code yX0_isIndex cX0_isIndex 1 (some .boolean) :: ([])
def wsX0_isBefore : List Cond := .code yX0_isBefore cX0_isBefore 5 (some .boolean) :: ([.fieldLink RX0 9 "NameTable" "ids" "[J", .fieldLink RX0 13 "NameTable" "indexes" "[I"] ++ wsX00)
def wsX0_placeFor : List Cond := .code yX0_placeFor cX0_placeFor 7 (some .int) :: ([.fieldLink RX0 20 "NameTable" "count" "I", .methodLink RX0 51 yX0_isBefore, .instanceMethod yX0_isBefore, .selects RX0 yX0_isBefore yX0_isBefore, .initialized RX0, .code yX0_isBefore cX0_isBefore 5 (some .boolean), .fieldLink RX0 9 "NameTable" "ids" "[J", .fieldLink RX0 13 "NameTable" "indexes" "[I"] ++ wsX00)
def wsX0_isPlace : List Cond := .code yX0_isPlace cX0_isPlace 2 (some .boolean) :: ([.fieldLink RX0 20 "NameTable" "count" "I"] ++ wsX00)
def wsX0_isNamed : List Cond := .code yX0_isNamed cX0_isNamed 5 (some .boolean) :: ([.fieldLink RX0 9 "NameTable" "ids" "[J", .fieldLink RX0 13 "NameTable" "indexes" "[I", .methodLink RX0 48 yX0_isPlace, .instanceMethod yX0_isPlace, .selects RX0 yX0_isPlace yX0_isPlace, .initialized RX0, .code yX0_isPlace cX0_isPlace 2 (some .boolean), .fieldLink RX0 20 "NameTable" "count" "I"] ++ wsX00)
def wsX0_moveTail : List Cond := .code yX0_moveTail cX0_moveTail 4 none :: ([.fieldLink RX0 20 "NameTable" "count" "I", .fieldLink RX0 9 "NameTable" "ids" "[J", .methodLink RX0 58 arraycopyName, .native arraycopyName, .static arraycopyName, .initialized "java/lang/System", .fieldLink RX0 13 "NameTable" "indexes" "[I", .fieldLink RX0 17 "NameTable" "values" "[I"] ++ wsX00)
def wsX0_insertAt : List Cond := .code yX0_insertAt cX0_insertAt 6 none :: ([.fieldLink RX0 9 "NameTable" "ids" "[J", .fieldLink RX0 13 "NameTable" "indexes" "[I", .fieldLink RX0 17 "NameTable" "values" "[I", .fieldLink RX0 20 "NameTable" "count" "I", .methodLink RX0 54 yX0_moveTail, .instanceMethod yX0_moveTail, .selects RX0 yX0_moveTail yX0_moveTail, .initialized RX0, .code yX0_moveTail cX0_moveTail 4 none, .methodLink RX0 58 arraycopyName, .native arraycopyName, .static arraycopyName, .initialized "java/lang/System"] ++ wsX00)
def wsX0_add_r1 : List Cond := [Cond.fieldLink RX0 20 "NameTable" "count" "I", Cond.methodLink RX0 24 yX0_isIndex, Cond.static yX0_isIndex, Cond.initialized RX0, Cond.code yX0_isIndex cX0_isIndex 1 (some .boolean), Cond.methodLink RX0 28 yX0_placeFor, Cond.instanceMethod yX0_placeFor, Cond.selects RX0 yX0_placeFor yX0_placeFor, Cond.code yX0_placeFor cX0_placeFor 7 (some .int), Cond.methodLink RX0 51 yX0_isBefore, Cond.instanceMethod yX0_isBefore, Cond.selects RX0 yX0_isBefore yX0_isBefore, Cond.code yX0_isBefore cX0_isBefore 5 (some .boolean), Cond.fieldLink RX0 9 "NameTable" "ids" "[J", Cond.fieldLink RX0 13 "NameTable" "indexes" "[I", Cond.methodLink RX0 32 yX0_isNamed, Cond.instanceMethod yX0_isNamed, Cond.selects RX0 yX0_isNamed yX0_isNamed, Cond.code yX0_isNamed cX0_isNamed 5 (some .boolean), Cond.methodLink RX0 48 yX0_isPlace, Cond.instanceMethod yX0_isPlace, Cond.selects RX0 yX0_isPlace yX0_isPlace, Cond.code yX0_isPlace cX0_isPlace 2 (some .boolean), Cond.methodLink RX0 36 yX0_insertAt]
def wsX0_add_r2 : List Cond := [Cond.instanceMethod yX0_insertAt, Cond.selects RX0 yX0_insertAt yX0_insertAt, Cond.code yX0_insertAt cX0_insertAt 6 none, Cond.fieldLink RX0 17 "NameTable" "values" "[I", Cond.methodLink RX0 54 yX0_moveTail, Cond.instanceMethod yX0_moveTail, Cond.selects RX0 yX0_moveTail yX0_moveTail, Cond.code yX0_moveTail cX0_moveTail 4 none, Cond.methodLink RX0 58 arraycopyName, Cond.native arraycopyName, Cond.static arraycopyName, Cond.initialized "java/lang/System"]
def wsX0_add : List Cond := .code yX0_add cX0_add 6 (some .int) :: ((wsX0_add_r1 ++ wsX0_add_r2) ++ wsX00)
def wsX0_some_r1 : List Cond := [Cond.fieldLink RX0 20 "NameTable" "count" "I", Cond.methodLink RX0 40 yX0_add, Cond.instanceMethod yX0_add, Cond.selects RX0 yX0_add yX0_add, Cond.initialized RX0, Cond.code yX0_add cX0_add 6 (some .int), Cond.methodLink RX0 24 yX0_isIndex, Cond.static yX0_isIndex, Cond.code yX0_isIndex cX0_isIndex 1 (some .boolean), Cond.methodLink RX0 28 yX0_placeFor, Cond.instanceMethod yX0_placeFor, Cond.selects RX0 yX0_placeFor yX0_placeFor, Cond.code yX0_placeFor cX0_placeFor 7 (some .int), Cond.methodLink RX0 51 yX0_isBefore, Cond.instanceMethod yX0_isBefore, Cond.selects RX0 yX0_isBefore yX0_isBefore, Cond.code yX0_isBefore cX0_isBefore 5 (some .boolean), Cond.fieldLink RX0 9 "NameTable" "ids" "[J", Cond.fieldLink RX0 13 "NameTable" "indexes" "[I", Cond.methodLink RX0 32 yX0_isNamed, Cond.instanceMethod yX0_isNamed, Cond.selects RX0 yX0_isNamed yX0_isNamed, Cond.code yX0_isNamed cX0_isNamed 5 (some .boolean), Cond.methodLink RX0 48 yX0_isPlace]
def wsX0_some_r2 : List Cond := [Cond.instanceMethod yX0_isPlace, Cond.selects RX0 yX0_isPlace yX0_isPlace, Cond.code yX0_isPlace cX0_isPlace 2 (some .boolean), Cond.methodLink RX0 36 yX0_insertAt, Cond.instanceMethod yX0_insertAt, Cond.selects RX0 yX0_insertAt yX0_insertAt, Cond.code yX0_insertAt cX0_insertAt 6 none, Cond.fieldLink RX0 17 "NameTable" "values" "[I", Cond.methodLink RX0 54 yX0_moveTail, Cond.instanceMethod yX0_moveTail, Cond.selects RX0 yX0_moveTail yX0_moveTail, Cond.code yX0_moveTail cX0_moveTail 4 none, Cond.methodLink RX0 58 arraycopyName, Cond.native arraycopyName, Cond.static arraycopyName, Cond.initialized "java/lang/System"]
def wsX0_some : List Cond := .code yX0_some cX0_some 9 (some .int) :: ((wsX0_some_r1 ++ wsX0_some_r2) ++ wsX00)
def wsX0_deleteAt : List Cond := .code yX0_deleteAt cX0_deleteAt 3 (some .int) :: ([.fieldLink RX0 17 "NameTable" "values" "[I", .fieldLink RX0 20 "NameTable" "count" "I", .methodLink RX0 54 yX0_moveTail, .instanceMethod yX0_moveTail, .selects RX0 yX0_moveTail yX0_moveTail, .initialized RX0, .code yX0_moveTail cX0_moveTail 4 none, .fieldLink RX0 9 "NameTable" "ids" "[J", .methodLink RX0 58 arraycopyName, .native arraycopyName, .static arraycopyName, .initialized "java/lang/System", .fieldLink RX0 13 "NameTable" "indexes" "[I"] ++ wsX00)
def wsX0_remove_r1 : List Cond := [Cond.methodLink RX0 24 yX0_isIndex, Cond.static yX0_isIndex, Cond.initialized RX0, Cond.code yX0_isIndex cX0_isIndex 1 (some .boolean), Cond.methodLink RX0 28 yX0_placeFor, Cond.instanceMethod yX0_placeFor, Cond.selects RX0 yX0_placeFor yX0_placeFor, Cond.code yX0_placeFor cX0_placeFor 7 (some .int), Cond.fieldLink RX0 20 "NameTable" "count" "I", Cond.methodLink RX0 51 yX0_isBefore, Cond.instanceMethod yX0_isBefore, Cond.selects RX0 yX0_isBefore yX0_isBefore, Cond.code yX0_isBefore cX0_isBefore 5 (some .boolean), Cond.fieldLink RX0 9 "NameTable" "ids" "[J", Cond.fieldLink RX0 13 "NameTable" "indexes" "[I", Cond.methodLink RX0 32 yX0_isNamed, Cond.instanceMethod yX0_isNamed, Cond.selects RX0 yX0_isNamed yX0_isNamed, Cond.code yX0_isNamed cX0_isNamed 5 (some .boolean), Cond.methodLink RX0 48 yX0_isPlace, Cond.instanceMethod yX0_isPlace, Cond.selects RX0 yX0_isPlace yX0_isPlace, Cond.code yX0_isPlace cX0_isPlace 2 (some .boolean), Cond.methodLink RX0 44 yX0_deleteAt]
def wsX0_remove_r2 : List Cond := [Cond.instanceMethod yX0_deleteAt, Cond.selects RX0 yX0_deleteAt yX0_deleteAt, Cond.code yX0_deleteAt cX0_deleteAt 3 (some .int), Cond.fieldLink RX0 17 "NameTable" "values" "[I", Cond.methodLink RX0 54 yX0_moveTail, Cond.instanceMethod yX0_moveTail, Cond.selects RX0 yX0_moveTail yX0_moveTail, Cond.code yX0_moveTail cX0_moveTail 4 none, Cond.methodLink RX0 58 arraycopyName, Cond.native arraycopyName, Cond.static arraycopyName, Cond.initialized "java/lang/System"]
def wsX0_remove : List Cond := .code yX0_remove cX0_remove 5 (some .int) :: ((wsX0_remove_r1 ++ wsX0_remove_r2) ++ wsX00)
def wsX0_take : List Cond := .code yX0_take cX0_take 2 (some .int) :: ([.methodLink RX0 48 yX0_isPlace, .instanceMethod yX0_isPlace, .selects RX0 yX0_isPlace yX0_isPlace, .initialized RX0, .code yX0_isPlace cX0_isPlace 2 (some .boolean), .fieldLink RX0 20 "NameTable" "count" "I", .methodLink RX0 44 yX0_deleteAt, .instanceMethod yX0_deleteAt, .selects RX0 yX0_deleteAt yX0_deleteAt, .code yX0_deleteAt cX0_deleteAt 3 (some .int), .fieldLink RX0 17 "NameTable" "values" "[I", .methodLink RX0 54 yX0_moveTail, .instanceMethod yX0_moveTail, .selects RX0 yX0_moveTail yX0_moveTail, .code yX0_moveTail cX0_moveTail 4 none, .fieldLink RX0 9 "NameTable" "ids" "[J", .methodLink RX0 58 arraycopyName, .native arraycopyName, .static arraycopyName, .initialized "java/lang/System", .fieldLink RX0 13 "NameTable" "indexes" "[I"] ++ wsX00)
def wsX0_get : List Cond := .code yX0_get cX0_get 5 (some .int) :: ([.fieldLink RX0 17 "NameTable" "values" "[I", .methodLink RX0 24 yX0_isIndex, .static yX0_isIndex, .initialized RX0, .code yX0_isIndex cX0_isIndex 1 (some .boolean), .methodLink RX0 28 yX0_placeFor, .instanceMethod yX0_placeFor, .selects RX0 yX0_placeFor yX0_placeFor, .code yX0_placeFor cX0_placeFor 7 (some .int), .fieldLink RX0 20 "NameTable" "count" "I", .methodLink RX0 51 yX0_isBefore, .instanceMethod yX0_isBefore, .selects RX0 yX0_isBefore yX0_isBefore, .code yX0_isBefore cX0_isBefore 5 (some .boolean), .fieldLink RX0 9 "NameTable" "ids" "[J", .fieldLink RX0 13 "NameTable" "indexes" "[I", .methodLink RX0 32 yX0_isNamed, .instanceMethod yX0_isNamed, .selects RX0 yX0_isNamed yX0_isNamed, .code yX0_isNamed cX0_isNamed 5 (some .boolean), .methodLink RX0 48 yX0_isPlace, .instanceMethod yX0_isPlace, .selects RX0 yX0_isPlace yX0_isPlace, .code yX0_isPlace cX0_isPlace 2 (some .boolean)] ++ wsX00)
def wsX0_name : List Cond := .code yX0_name cX0_name 2 (some .long) :: ([.fieldLink RX0 9 "NameTable" "ids" "[J", .methodLink RX0 48 yX0_isPlace, .instanceMethod yX0_isPlace, .selects RX0 yX0_isPlace yX0_isPlace, .initialized RX0, .code yX0_isPlace cX0_isPlace 2 (some .boolean), .fieldLink RX0 20 "NameTable" "count" "I"] ++ wsX00)
def wsX0_index : List Cond := .code yX0_index cX0_index 2 (some .int) :: ([.fieldLink RX0 13 "NameTable" "indexes" "[I", .methodLink RX0 48 yX0_isPlace, .instanceMethod yX0_isPlace, .selects RX0 yX0_isPlace yX0_isPlace, .initialized RX0, .code yX0_isPlace cX0_isPlace 2 (some .boolean), .fieldLink RX0 20 "NameTable" "count" "I"] ++ wsX00)
def wsX0_many : List Cond := .code yX0_many cX0_many 1 (some .int) :: ([.fieldLink RX0 20 "NameTable" "count" "I"] ++ wsX00)
def wsX0_value : List Cond := .code yX0_value cX0_value 4 (some .long) :: ([.fieldLink RX0 20 "NameTable" "count" "I", .fieldLink RX0 17 "NameTable" "values" "[I"] ++ wsX00)
def wsX1_init : List Cond := .code yX1_init cX1_init 1 none :: ([.methodLink RX1 1 objectInit, .instanceMethod objectInit, .code objectInit ⟨#[0xb1]⟩ 1 none, .arrayClass .long, .fieldLink RX1 9 "NameTableModel" "id" "[J", .arrayClass .int, .fieldLink RX1 13 "NameTableModel" "index" "[I", .fieldLink RX1 17 "NameTableModel" "value" "[I"] ++ wsX10)
def wsX1_place : List Cond := .code yX1_place cX1_place 5 (some .int) :: ([.fieldLink RX1 20 "NameTableModel" "count" "I", .fieldLink RX1 9 "NameTableModel" "id" "[J", .fieldLink RX1 13 "NameTableModel" "index" "[I"] ++ wsX10)
def wsX1_is : List Cond := .code yX1_is cX1_is 5 (some .boolean) :: ([.fieldLink RX1 20 "NameTableModel" "count" "I", .fieldLink RX1 9 "NameTableModel" "id" "[J", .fieldLink RX1 13 "NameTableModel" "index" "[I"] ++ wsX10)
def wsX1_add : List Cond := .code yX1_add cX1_add 7 (some .int) :: ([.fieldLink RX1 20 "NameTableModel" "count" "I", .fieldLink RX1 9 "NameTableModel" "id" "[J", .fieldLink RX1 13 "NameTableModel" "index" "[I", .fieldLink RX1 17 "NameTableModel" "value" "[I", .methodLink RX1 24 yX1_place, .instanceMethod yX1_place, .selects RX1 yX1_place yX1_place, .initialized RX1, .code yX1_place cX1_place 5 (some .int), .methodLink RX1 28 yX1_is, .instanceMethod yX1_is, .selects RX1 yX1_is yX1_is, .code yX1_is cX1_is 5 (some .boolean)] ++ wsX10)
def wsX1_some : List Cond := .code yX1_some cX1_some 9 (some .int) :: ([.methodLink RX1 32 yX1_add, .instanceMethod yX1_add, .selects RX1 yX1_add yX1_add, .initialized RX1, .code yX1_add cX1_add 7 (some .int), .fieldLink RX1 20 "NameTableModel" "count" "I", .fieldLink RX1 9 "NameTableModel" "id" "[J", .fieldLink RX1 13 "NameTableModel" "index" "[I", .fieldLink RX1 17 "NameTableModel" "value" "[I", .methodLink RX1 24 yX1_place, .instanceMethod yX1_place, .selects RX1 yX1_place yX1_place, .code yX1_place cX1_place 5 (some .int), .methodLink RX1 28 yX1_is, .instanceMethod yX1_is, .selects RX1 yX1_is yX1_is, .code yX1_is cX1_is 5 (some .boolean)] ++ wsX10)
def wsX1_go : List Cond := .code yX1_go cX1_go 4 (some .int) :: ([.fieldLink RX1 17 "NameTableModel" "value" "[I", .fieldLink RX1 20 "NameTableModel" "count" "I", .fieldLink RX1 9 "NameTableModel" "id" "[J", .fieldLink RX1 13 "NameTableModel" "index" "[I"] ++ wsX10)
def wsX1_remove : List Cond := .code yX1_remove cX1_remove 5 (some .int) :: ([.methodLink RX1 24 yX1_place, .instanceMethod yX1_place, .selects RX1 yX1_place yX1_place, .initialized RX1, .code yX1_place cX1_place 5 (some .int), .fieldLink RX1 20 "NameTableModel" "count" "I", .fieldLink RX1 9 "NameTableModel" "id" "[J", .fieldLink RX1 13 "NameTableModel" "index" "[I", .methodLink RX1 28 yX1_is, .instanceMethod yX1_is, .selects RX1 yX1_is yX1_is, .code yX1_is cX1_is 5 (some .boolean), .methodLink RX1 36 yX1_go, .instanceMethod yX1_go, .selects RX1 yX1_go yX1_go, .code yX1_go cX1_go 4 (some .int), .fieldLink RX1 17 "NameTableModel" "value" "[I"] ++ wsX10)
def wsX1_take : List Cond := .code yX1_take cX1_take 2 (some .int) :: ([.fieldLink RX1 20 "NameTableModel" "count" "I", .methodLink RX1 36 yX1_go, .instanceMethod yX1_go, .selects RX1 yX1_go yX1_go, .initialized RX1, .code yX1_go cX1_go 4 (some .int), .fieldLink RX1 17 "NameTableModel" "value" "[I", .fieldLink RX1 9 "NameTableModel" "id" "[J", .fieldLink RX1 13 "NameTableModel" "index" "[I"] ++ wsX10)
def wsX1_get : List Cond := .code yX1_get cX1_get 5 (some .int) :: ([.fieldLink RX1 17 "NameTableModel" "value" "[I", .methodLink RX1 24 yX1_place, .instanceMethod yX1_place, .selects RX1 yX1_place yX1_place, .initialized RX1, .code yX1_place cX1_place 5 (some .int), .fieldLink RX1 20 "NameTableModel" "count" "I", .fieldLink RX1 9 "NameTableModel" "id" "[J", .fieldLink RX1 13 "NameTableModel" "index" "[I", .methodLink RX1 28 yX1_is, .instanceMethod yX1_is, .selects RX1 yX1_is yX1_is, .code yX1_is cX1_is 5 (some .boolean)] ++ wsX10)
def wsX1_name : List Cond := .code yX1_name cX1_name 2 (some .long) :: ([.fieldLink RX1 20 "NameTableModel" "count" "I", .fieldLink RX1 9 "NameTableModel" "id" "[J"] ++ wsX10)
def wsX1_index : List Cond := .code yX1_index cX1_index 2 (some .int) :: ([.fieldLink RX1 20 "NameTableModel" "count" "I", .fieldLink RX1 13 "NameTableModel" "index" "[I"] ++ wsX10)
def wsX1_many : List Cond := .code yX1_many cX1_many 1 (some .int) :: ([.fieldLink RX1 20 "NameTableModel" "count" "I"] ++ wsX10)
def wsX1_value : List Cond := .code yX1_value cX1_value 4 (some .long) :: ([.fieldLink RX1 20 "NameTableModel" "count" "I", .fieldLink RX1 17 "NameTableModel" "value" "[I"] ++ wsX10)
def wsL_law_r1 : List Cond := [Cond.classLink RL 7 RX0, Cond.instantiable RX0 4, Cond.initialized RX0, Cond.classLink RL 10 RX1, Cond.instantiable RX1 4, Cond.initialized RX1, Cond.constantLong RL 13 (4294967295), Cond.methodLink RL 9 yX0_init, Cond.instanceMethod yX0_init, Cond.code yX0_init cX0_init 1 none, Cond.methodLink RX0 1 objectInit, Cond.instanceMethod objectInit, Cond.code objectInit ⟨#[0xb1]⟩ 1 none, Cond.arrayClass .long, Cond.fieldLink RX0 9 "NameTable" "ids" "[J", Cond.arrayClass .int, Cond.fieldLink RX0 13 "NameTable" "indexes" "[I", Cond.fieldLink RX0 17 "NameTable" "values" "[I", Cond.fieldLink RX0 20 "NameTable" "count" "I", Cond.methodLink RL 12 yX1_init, Cond.instanceMethod yX1_init, Cond.code yX1_init cX1_init 1 none, Cond.methodLink RX1 1 objectInit, Cond.fieldLink RX1 9 "NameTableModel" "id" "[J"]
def wsL_law_r2 : List Cond := [Cond.fieldLink RX1 13 "NameTableModel" "index" "[I", Cond.fieldLink RX1 17 "NameTableModel" "value" "[I", Cond.methodLink RL 15 yX0_add, Cond.instanceMethod yX0_add, Cond.selects RX0 yX0_add yX0_add, Cond.code yX0_add cX0_add 6 (some .int), Cond.methodLink RX0 24 yX0_isIndex, Cond.static yX0_isIndex, Cond.code yX0_isIndex cX0_isIndex 1 (some .boolean), Cond.methodLink RX0 28 yX0_placeFor, Cond.instanceMethod yX0_placeFor, Cond.selects RX0 yX0_placeFor yX0_placeFor, Cond.code yX0_placeFor cX0_placeFor 7 (some .int), Cond.methodLink RX0 51 yX0_isBefore, Cond.instanceMethod yX0_isBefore, Cond.selects RX0 yX0_isBefore yX0_isBefore, Cond.code yX0_isBefore cX0_isBefore 5 (some .boolean), Cond.methodLink RX0 32 yX0_isNamed, Cond.instanceMethod yX0_isNamed, Cond.selects RX0 yX0_isNamed yX0_isNamed, Cond.code yX0_isNamed cX0_isNamed 5 (some .boolean), Cond.methodLink RX0 48 yX0_isPlace, Cond.instanceMethod yX0_isPlace, Cond.selects RX0 yX0_isPlace yX0_isPlace]
def wsL_law_r3 : List Cond := [Cond.code yX0_isPlace cX0_isPlace 2 (some .boolean), Cond.methodLink RX0 36 yX0_insertAt, Cond.instanceMethod yX0_insertAt, Cond.selects RX0 yX0_insertAt yX0_insertAt, Cond.code yX0_insertAt cX0_insertAt 6 none, Cond.methodLink RX0 54 yX0_moveTail, Cond.instanceMethod yX0_moveTail, Cond.selects RX0 yX0_moveTail yX0_moveTail, Cond.code yX0_moveTail cX0_moveTail 4 none, Cond.methodLink RX0 58 arraycopyName, Cond.native arraycopyName, Cond.static arraycopyName, Cond.initialized "java/lang/System", Cond.methodLink RL 19 yX1_add, Cond.instanceMethod yX1_add, Cond.selects RX1 yX1_add yX1_add, Cond.code yX1_add cX1_add 7 (some .int), Cond.fieldLink RX1 20 "NameTableModel" "count" "I", Cond.methodLink RX1 24 yX1_place, Cond.instanceMethod yX1_place, Cond.selects RX1 yX1_place yX1_place, Cond.code yX1_place cX1_place 5 (some .int), Cond.methodLink RX1 28 yX1_is, Cond.instanceMethod yX1_is]
def wsL_law_r4 : List Cond := [Cond.selects RX1 yX1_is yX1_is, Cond.code yX1_is cX1_is 5 (some .boolean), Cond.methodLink RL 20 yX0_some, Cond.instanceMethod yX0_some, Cond.selects RX0 yX0_some yX0_some, Cond.code yX0_some cX0_some 9 (some .int), Cond.methodLink RX0 40 yX0_add, Cond.methodLink RL 24 yX1_some, Cond.instanceMethod yX1_some, Cond.selects RX1 yX1_some yX1_some, Cond.code yX1_some cX1_some 9 (some .int), Cond.methodLink RX1 32 yX1_add, Cond.methodLink RL 25 yX0_remove, Cond.instanceMethod yX0_remove, Cond.selects RX0 yX0_remove yX0_remove, Cond.code yX0_remove cX0_remove 5 (some .int), Cond.methodLink RX0 44 yX0_deleteAt, Cond.instanceMethod yX0_deleteAt, Cond.selects RX0 yX0_deleteAt yX0_deleteAt, Cond.code yX0_deleteAt cX0_deleteAt 3 (some .int), Cond.methodLink RL 29 yX1_remove, Cond.instanceMethod yX1_remove, Cond.selects RX1 yX1_remove yX1_remove, Cond.code yX1_remove cX1_remove 5 (some .int)]
def wsL_law_r5 : List Cond := [Cond.methodLink RX1 36 yX1_go, Cond.instanceMethod yX1_go, Cond.selects RX1 yX1_go yX1_go, Cond.code yX1_go cX1_go 4 (some .int), Cond.methodLink RL 30 yX0_take, Cond.instanceMethod yX0_take, Cond.selects RX0 yX0_take yX0_take, Cond.code yX0_take cX0_take 2 (some .int), Cond.methodLink RL 34 yX1_take, Cond.instanceMethod yX1_take, Cond.selects RX1 yX1_take yX1_take, Cond.code yX1_take cX1_take 2 (some .int), Cond.methodLink RL 35 yX0_get, Cond.instanceMethod yX0_get, Cond.selects RX0 yX0_get yX0_get, Cond.code yX0_get cX0_get 5 (some .int), Cond.methodLink RL 38 yX1_get, Cond.instanceMethod yX1_get, Cond.selects RX1 yX1_get yX1_get, Cond.code yX1_get cX1_get 5 (some .int), Cond.methodLink RL 39 yX0_name, Cond.instanceMethod yX0_name, Cond.selects RX0 yX0_name yX0_name, Cond.code yX0_name cX0_name 2 (some .long)]
def wsL_law_r6 : List Cond := [Cond.methodLink RL 43 yX1_name, Cond.instanceMethod yX1_name, Cond.selects RX1 yX1_name yX1_name, Cond.code yX1_name cX1_name 2 (some .long), Cond.methodLink RL 44 yX0_index, Cond.instanceMethod yX0_index, Cond.selects RX0 yX0_index yX0_index, Cond.code yX0_index cX0_index 2 (some .int), Cond.methodLink RL 47 yX1_index, Cond.instanceMethod yX1_index, Cond.selects RX1 yX1_index yX1_index, Cond.code yX1_index cX1_index 2 (some .int), Cond.methodLink RL 48 yX0_many, Cond.instanceMethod yX0_many, Cond.selects RX0 yX0_many yX0_many, Cond.code yX0_many cX0_many 1 (some .int), Cond.methodLink RL 52 yX1_many, Cond.instanceMethod yX1_many, Cond.selects RX1 yX1_many yX1_many, Cond.code yX1_many cX1_many 1 (some .int), Cond.methodLink RL 53 yX0_value, Cond.instanceMethod yX0_value, Cond.selects RX0 yX0_value yX0_value, Cond.code yX0_value cX0_value 4 (some .long)]
def wsL_law_r7 : List Cond := [Cond.methodLink RL 57 yX1_value, Cond.instanceMethod yX1_value, Cond.selects RX1 yX1_value yX1_value, Cond.code yX1_value cX1_value 4 (some .long)]
def wsL_law : List Cond := (wsL_law_r1 ++ (wsL_law_r2 ++ (wsL_law_r3 ++ (wsL_law_r4 ++ (wsL_law_r5 ++ (wsL_law_r6 ++ wsL_law_r7)))))) ++ wsX00 ++ wsX10 ++ ([] : List Cond)
set_option maxRecDepth 20000 in
theorem wsL_law_in : ∀ w ∈ wsL_law, w ∈ lw_tbl := fun w h => (goodIn_p wsL_law [18, 21, 112, 40, 43, 47, 51, 55, 59, 63, 67, 130, 134, 138, 74, 142, 79, 83, 147, 151, 87, 155, 91, 159, 95, 163, 99, 167, 103, 171, 107, 175] (by decide +kernel) (by decide +kernel) w h).1
theorem inlX0 : ∀ w ∈ wsX00, w ∈ wsL_law := fun _ h => List.mem_append_left _ (List.mem_append_left _ (List.mem_append_right _ h))
theorem inX0 : ∀ w ∈ wsX00, w ∈ lw_tbl := fun w h => wsL_law_in w (inlX0 w h)
theorem inlX1 : ∀ w ∈ wsX10, w ∈ wsL_law := fun _ h => List.mem_append_left _ (List.mem_append_right _ h)
theorem inX1 : ∀ w ∈ wsX10, w ∈ lw_tbl := fun w h => wsL_law_in w (inlX1 w h)
theorem inJ10 : ∀ w ∈ wsJ100, w ∈ lw_tbl := by decide +kernel
theorem dX0_init_0 : decode cX0_init 0 = .ok (.aload_n 0, 1) := by decide +kernel
theorem dX0_init_1 : decode cX0_init 1 = .ok (.invokespecial 1, 3) := by decide +kernel
theorem dX0_init_4 : decode cX0_init 4 = .ok (.aload_n 0, 1) := by decide +kernel
theorem dX0_init_5 : decode cX0_init 5 = .ok (.sipush 900, 3) := by decide +kernel
theorem dX0_init_8 : decode cX0_init 8 = .ok (.newarray .long, 2) := by decide +kernel
theorem dX0_init_10 : decode cX0_init 10 = .ok (.putfield 9, 3) := by decide +kernel
theorem dX0_init_13 : decode cX0_init 13 = .ok (.aload_n 0, 1) := by decide +kernel
theorem dX0_init_14 : decode cX0_init 14 = .ok (.sipush 900, 3) := by decide +kernel
theorem dX0_init_17 : decode cX0_init 17 = .ok (.newarray .int, 2) := by decide +kernel
theorem dX0_init_19 : decode cX0_init 19 = .ok (.putfield 13, 3) := by decide +kernel
theorem dX0_init_22 : decode cX0_init 22 = .ok (.aload_n 0, 1) := by decide +kernel
theorem dX0_init_23 : decode cX0_init 23 = .ok (.sipush 900, 3) := by decide +kernel
theorem dX0_init_26 : decode cX0_init 26 = .ok (.newarray .int, 2) := by decide +kernel
theorem dX0_init_28 : decode cX0_init 28 = .ok (.putfield 17, 3) := by decide +kernel
theorem dX0_init_31 : decode cX0_init 31 = .ok (.aload_n 0, 1) := by decide +kernel
theorem dX0_init_32 : decode cX0_init 32 = .ok (.iconst 0, 1) := by decide +kernel
theorem dX0_init_33 : decode cX0_init 33 = .ok (.putfield 20, 3) := by decide +kernel
theorem dX0_init_36 : decode cX0_init 36 = .ok (.return_, 1) := by decide +kernel
set_option maxRecDepth 20000 in
theorem ggX0_add_X0_isIndex : GoodIn wsX0_add wsX0_isIndex := goodIn_r _ [5] (by decide +kernel) (by decide +kernel)
set_option maxRecDepth 20000 in
theorem gX0_add_X0_isIndex : GoodIn wsX0_add (va_wsS RX0 24 yX0_isIndex wsX0_isIndex) := goodIn_app (goodIn_of _ (by decide +kernel)) ggX0_add_X0_isIndex
set_option maxRecDepth 20000 in
theorem ggX0_add_X0_placeFor : GoodIn wsX0_add wsX0_placeFor := goodIn_r _ [9, 1, 10, 11, 12, 4, 13, 14, 15, 37, 38, 39, 40] (by decide +kernel) (by decide +kernel)
set_option maxRecDepth 20000 in
theorem gX0_add_X0_placeFor : GoodIn wsX0_add (wsV RX0 28 RX0 yX0_placeFor wsX0_placeFor) := goodIn_app (goodIn_of _ (by decide +kernel)) ggX0_add_X0_placeFor
set_option maxRecDepth 20000 in
theorem ggX0_add_X0_isNamed : GoodIn wsX0_add wsX0_isNamed := goodIn_r _ [19, 14, 15, 20, 21, 22, 4, 23, 1, 37, 38, 39, 40] (by decide +kernel) (by decide +kernel)
set_option maxRecDepth 20000 in
theorem gX0_add_X0_isNamed : GoodIn wsX0_add (wsV RX0 32 RX0 yX0_isNamed wsX0_isNamed) := goodIn_app (goodIn_of _ (by decide +kernel)) ggX0_add_X0_isNamed
set_option maxRecDepth 20000 in
theorem ggX0_add_X0_insertAt : GoodIn wsX0_add wsX0_insertAt := goodIn_r _ [27, 14, 15, 28, 1, 29, 30, 31, 4, 32, 33, 34, 35, 36, 37, 38, 39, 40] (by decide +kernel) (by decide +kernel)
set_option maxRecDepth 20000 in
theorem gX0_add_X0_insertAt : GoodIn wsX0_add (wsV RX0 36 RX0 yX0_insertAt wsX0_insertAt) := goodIn_app (goodIn_of _ (by decide +kernel)) ggX0_add_X0_insertAt
theorem dX0_add_0 : decode cX0_add 0 = .ok (.iload_n 3, 1) := by decide +kernel
theorem dX0_add_1 : decode cX0_add 1 = .ok (.invokestatic 24, 3) := by decide +kernel
theorem dX0_add_4 : decode cX0_add 4 = .ok (.ifCond .eq 8, 3) := by decide +kernel
theorem dX0_add_7 : decode cX0_add 7 = .ok (.iload 4, 2) := by decide +kernel
theorem dX0_add_9 : decode cX0_add 9 = .ok (.ifCond .ge 5, 3) := by decide +kernel
theorem dX0_add_12 : decode cX0_add 12 = .ok (.iconst (-1), 1) := by decide +kernel
theorem dX0_add_13 : decode cX0_add 13 = .ok (.ireturn, 1) := by decide +kernel
theorem dX0_add_14 : decode cX0_add 14 = .ok (.aload_n 0, 1) := by decide +kernel
theorem dX0_add_15 : decode cX0_add 15 = .ok (.lload_n 1, 1) := by decide +kernel
theorem dX0_add_16 : decode cX0_add 16 = .ok (.iload_n 3, 1) := by decide +kernel
theorem dX0_add_17 : decode cX0_add 17 = .ok (.invokevirtual 28, 3) := by decide +kernel
theorem dX0_add_20 : decode cX0_add 20 = .ok (.istore 5, 2) := by decide +kernel
theorem dX0_add_22 : decode cX0_add 22 = .ok (.aload_n 0, 1) := by decide +kernel
theorem dX0_add_23 : decode cX0_add 23 = .ok (.iload 5, 2) := by decide +kernel
theorem dX0_add_25 : decode cX0_add 25 = .ok (.lload_n 1, 1) := by decide +kernel
theorem dX0_add_26 : decode cX0_add 26 = .ok (.iload_n 3, 1) := by decide +kernel
theorem dX0_add_27 : decode cX0_add 27 = .ok (.invokevirtual 32, 3) := by decide +kernel
theorem dX0_add_30 : decode cX0_add 30 = .ok (.ifCond .eq 6, 3) := by decide +kernel
theorem dX0_add_33 : decode cX0_add 33 = .ok (.bipush (-3), 2) := by decide +kernel
theorem dX0_add_35 : decode cX0_add 35 = .ok (.ireturn, 1) := by decide +kernel
theorem dX0_add_36 : decode cX0_add 36 = .ok (.aload_n 0, 1) := by decide +kernel
theorem dX0_add_37 : decode cX0_add 37 = .ok (.getfield 20, 3) := by decide +kernel
theorem dX0_add_40 : decode cX0_add 40 = .ok (.sipush 900, 3) := by decide +kernel
theorem dX0_add_43 : decode cX0_add 43 = .ok (.if_icmp .lt 6, 3) := by decide +kernel
theorem dX0_add_46 : decode cX0_add 46 = .ok (.bipush (-4), 2) := by decide +kernel
theorem dX0_add_48 : decode cX0_add 48 = .ok (.ireturn, 1) := by decide +kernel
theorem dX0_add_49 : decode cX0_add 49 = .ok (.aload_n 0, 1) := by decide +kernel
theorem dX0_add_50 : decode cX0_add 50 = .ok (.iload 5, 2) := by decide +kernel
theorem dX0_add_52 : decode cX0_add 52 = .ok (.lload_n 1, 1) := by decide +kernel
theorem dX0_add_53 : decode cX0_add 53 = .ok (.iload_n 3, 1) := by decide +kernel
theorem dX0_add_54 : decode cX0_add 54 = .ok (.iload 4, 2) := by decide +kernel
theorem dX0_add_56 : decode cX0_add 56 = .ok (.invokevirtual 36, 3) := by decide +kernel
theorem dX0_add_59 : decode cX0_add 59 = .ok (.aload_n 0, 1) := by decide +kernel
theorem dX0_add_60 : decode cX0_add 60 = .ok (.getfield 20, 3) := by decide +kernel
theorem dX0_add_63 : decode cX0_add 63 = .ok (.ireturn, 1) := by decide +kernel
set_option maxRecDepth 20000 in
theorem ggX0_some_X0_add : GoodIn wsX0_some wsX0_add := goodIn_r _ [6, 1, 7, 8, 5, 9, 10, 11, 12, 13, 14, 15, 16, 17, 18, 19, 20, 21, 22, 23, 24, 25, 26, 27, 28, 29, 30, 31, 32, 33, 34, 35, 36, 37, 38, 39, 40, 41, 42, 43, 44] (by decide +kernel) (by decide +kernel)
set_option maxRecDepth 20000 in
theorem gX0_some_X0_add : GoodIn wsX0_some (wsV RX0 40 RX0 yX0_add wsX0_add) := goodIn_app (goodIn_of _ (by decide +kernel)) ggX0_some_X0_add
theorem dX0_some_0 : decode cX0_some 0 = .ok (.iload 5, 2) := by decide +kernel
theorem dX0_some_2 : decode cX0_some 2 = .ok (.iconst 1, 1) := by decide +kernel
theorem dX0_some_3 : decode cX0_some 3 = .ok (.if_icmp .lt 15, 3) := by decide +kernel
theorem dX0_some_6 : decode cX0_some 6 = .ok (.iload 5, 2) := by decide +kernel
theorem dX0_some_8 : decode cX0_some 8 = .ok (.bipush 100, 2) := by decide +kernel
theorem dX0_some_10 : decode cX0_some 10 = .ok (.if_icmp .gt 8, 3) := by decide +kernel
theorem dX0_some_13 : decode cX0_some 13 = .ok (.iload 6, 2) := by decide +kernel
theorem dX0_some_15 : decode cX0_some 15 = .ok (.ifCond .ge 5, 3) := by decide +kernel
theorem dX0_some_18 : decode cX0_some 18 = .ok (.iconst (-1), 1) := by decide +kernel
theorem dX0_some_19 : decode cX0_some 19 = .ok (.ireturn, 1) := by decide +kernel
theorem dX0_some_20 : decode cX0_some 20 = .ok (.aload_n 0, 1) := by decide +kernel
theorem dX0_some_21 : decode cX0_some 21 = .ok (.getfield 20, 3) := by decide +kernel
theorem dX0_some_24 : decode cX0_some 24 = .ok (.istore 7, 2) := by decide +kernel
theorem dX0_some_26 : decode cX0_some 26 = .ok (.iconst 0, 1) := by decide +kernel
theorem dX0_some_27 : decode cX0_some 27 = .ok (.istore 8, 2) := by decide +kernel
theorem dX0_some_29 : decode cX0_some 29 = .ok (.iload 8, 2) := by decide +kernel
theorem dX0_some_31 : decode cX0_some 31 = .ok (.iload 5, 2) := by decide +kernel
theorem dX0_some_33 : decode cX0_some 33 = .ok (.if_icmp .ge 28, 3) := by decide +kernel
theorem dX0_some_36 : decode cX0_some 36 = .ok (.aload_n 0, 1) := by decide +kernel
theorem dX0_some_37 : decode cX0_some 37 = .ok (.lload_n 1, 1) := by decide +kernel
theorem dX0_some_38 : decode cX0_some 38 = .ok (.iload 8, 2) := by decide +kernel
theorem dX0_some_40 : decode cX0_some 40 = .ok (.i2l, 1) := by decide +kernel
theorem dX0_some_41 : decode cX0_some 41 = .ok (.lload_n 3, 1) := by decide +kernel
theorem dX0_some_42 : decode cX0_some 42 = .ok (.lmul, 1) := by decide +kernel
theorem dX0_some_43 : decode cX0_some 43 = .ok (.ladd, 1) := by decide +kernel
theorem dX0_some_44 : decode cX0_some 44 = .ok (.iload 8, 2) := by decide +kernel
theorem dX0_some_46 : decode cX0_some 46 = .ok (.bipush 8, 2) := by decide +kernel
theorem dX0_some_48 : decode cX0_some 48 = .ok (.irem, 1) := by decide +kernel
theorem dX0_some_49 : decode cX0_some 49 = .ok (.iload 6, 2) := by decide +kernel
theorem dX0_some_51 : decode cX0_some 51 = .ok (.invokevirtual 40, 3) := by decide +kernel
theorem dX0_some_54 : decode cX0_some 54 = .ok (.pop, 1) := by decide +kernel
theorem dX0_some_55 : decode cX0_some 55 = .ok (.iinc 8 1, 3) := by decide +kernel
theorem dX0_some_58 : decode cX0_some 58 = .ok (.goto (-29), 3) := by decide +kernel
theorem dX0_some_61 : decode cX0_some 61 = .ok (.aload_n 0, 1) := by decide +kernel
theorem dX0_some_62 : decode cX0_some 62 = .ok (.getfield 20, 3) := by decide +kernel
theorem dX0_some_65 : decode cX0_some 65 = .ok (.iload 7, 2) := by decide +kernel
theorem dX0_some_67 : decode cX0_some 67 = .ok (.isub, 1) := by decide +kernel
theorem dX0_some_68 : decode cX0_some 68 = .ok (.ireturn, 1) := by decide +kernel
set_option maxRecDepth 20000 in
theorem ggX0_remove_X0_isIndex : GoodIn wsX0_remove wsX0_isIndex := goodIn_r _ [4] (by decide +kernel) (by decide +kernel)
set_option maxRecDepth 20000 in
theorem gX0_remove_X0_isIndex : GoodIn wsX0_remove (va_wsS RX0 24 yX0_isIndex wsX0_isIndex) := goodIn_app (goodIn_of _ (by decide +kernel)) ggX0_remove_X0_isIndex
set_option maxRecDepth 20000 in
theorem ggX0_remove_X0_placeFor : GoodIn wsX0_remove wsX0_placeFor := goodIn_r _ [8, 9, 10, 11, 12, 3, 13, 14, 15, 37, 38, 39, 40] (by decide +kernel) (by decide +kernel)
set_option maxRecDepth 20000 in
theorem gX0_remove_X0_placeFor : GoodIn wsX0_remove (wsV RX0 28 RX0 yX0_placeFor wsX0_placeFor) := goodIn_app (goodIn_of _ (by decide +kernel)) ggX0_remove_X0_placeFor
set_option maxRecDepth 20000 in
theorem ggX0_remove_X0_isNamed : GoodIn wsX0_remove wsX0_isNamed := goodIn_r _ [19, 14, 15, 20, 21, 22, 3, 23, 9, 37, 38, 39, 40] (by decide +kernel) (by decide +kernel)
set_option maxRecDepth 20000 in
theorem gX0_remove_X0_isNamed : GoodIn wsX0_remove (wsV RX0 32 RX0 yX0_isNamed wsX0_isNamed) := goodIn_app (goodIn_of _ (by decide +kernel)) ggX0_remove_X0_isNamed
set_option maxRecDepth 20000 in
theorem ggX0_remove_X0_deleteAt : GoodIn wsX0_remove wsX0_deleteAt := goodIn_r _ [27, 28, 9, 29, 30, 31, 3, 32, 14, 33, 34, 35, 36, 15, 37, 38, 39, 40] (by decide +kernel) (by decide +kernel)
set_option maxRecDepth 20000 in
theorem gX0_remove_X0_deleteAt : GoodIn wsX0_remove (wsV RX0 44 RX0 yX0_deleteAt wsX0_deleteAt) := goodIn_app (goodIn_of _ (by decide +kernel)) ggX0_remove_X0_deleteAt
theorem dX0_remove_0 : decode cX0_remove 0 = .ok (.iload_n 3, 1) := by decide +kernel
theorem dX0_remove_1 : decode cX0_remove 1 = .ok (.invokestatic 24, 3) := by decide +kernel
theorem dX0_remove_4 : decode cX0_remove 4 = .ok (.ifCond .ne 5, 3) := by decide +kernel
theorem dX0_remove_7 : decode cX0_remove 7 = .ok (.iconst (-1), 1) := by decide +kernel
theorem dX0_remove_8 : decode cX0_remove 8 = .ok (.ireturn, 1) := by decide +kernel
theorem dX0_remove_9 : decode cX0_remove 9 = .ok (.aload_n 0, 1) := by decide +kernel
theorem dX0_remove_10 : decode cX0_remove 10 = .ok (.lload_n 1, 1) := by decide +kernel
theorem dX0_remove_11 : decode cX0_remove 11 = .ok (.iload_n 3, 1) := by decide +kernel
theorem dX0_remove_12 : decode cX0_remove 12 = .ok (.invokevirtual 28, 3) := by decide +kernel
theorem dX0_remove_15 : decode cX0_remove 15 = .ok (.istore 4, 2) := by decide +kernel
theorem dX0_remove_17 : decode cX0_remove 17 = .ok (.aload_n 0, 1) := by decide +kernel
theorem dX0_remove_18 : decode cX0_remove 18 = .ok (.iload 4, 2) := by decide +kernel
theorem dX0_remove_20 : decode cX0_remove 20 = .ok (.lload_n 1, 1) := by decide +kernel
theorem dX0_remove_21 : decode cX0_remove 21 = .ok (.iload_n 3, 1) := by decide +kernel
theorem dX0_remove_22 : decode cX0_remove 22 = .ok (.invokevirtual 32, 3) := by decide +kernel
theorem dX0_remove_25 : decode cX0_remove 25 = .ok (.ifCond .eq 12, 3) := by decide +kernel
theorem dX0_remove_28 : decode cX0_remove 28 = .ok (.aload_n 0, 1) := by decide +kernel
theorem dX0_remove_29 : decode cX0_remove 29 = .ok (.iload 4, 2) := by decide +kernel
theorem dX0_remove_31 : decode cX0_remove 31 = .ok (.invokevirtual 44, 3) := by decide +kernel
theorem dX0_remove_34 : decode cX0_remove 34 = .ok (.goto 5, 3) := by decide +kernel
theorem dX0_remove_37 : decode cX0_remove 37 = .ok (.bipush (-2), 2) := by decide +kernel
theorem dX0_remove_39 : decode cX0_remove 39 = .ok (.ireturn, 1) := by decide +kernel
set_option maxRecDepth 20000 in
theorem ggX0_take_X0_isPlace : GoodIn wsX0_take wsX0_isPlace := goodIn_r _ [5, 6, 22, 23, 24, 25] (by decide +kernel) (by decide +kernel)
set_option maxRecDepth 20000 in
theorem gX0_take_X0_isPlace : GoodIn wsX0_take (wsV RX0 48 RX0 yX0_isPlace wsX0_isPlace) := goodIn_app (goodIn_of _ (by decide +kernel)) ggX0_take_X0_isPlace
set_option maxRecDepth 20000 in
theorem ggX0_take_X0_deleteAt : GoodIn wsX0_take wsX0_deleteAt := goodIn_r _ [10, 11, 6, 12, 13, 14, 4, 15, 16, 17, 18, 19, 20, 21, 22, 23, 24, 25] (by decide +kernel) (by decide +kernel)
set_option maxRecDepth 20000 in
theorem gX0_take_X0_deleteAt : GoodIn wsX0_take (wsV RX0 44 RX0 yX0_deleteAt wsX0_deleteAt) := goodIn_app (goodIn_of _ (by decide +kernel)) ggX0_take_X0_deleteAt
theorem dX0_take_0 : decode cX0_take 0 = .ok (.aload_n 0, 1) := by decide +kernel
theorem dX0_take_1 : decode cX0_take 1 = .ok (.iload_n 1, 1) := by decide +kernel
theorem dX0_take_2 : decode cX0_take 2 = .ok (.invokevirtual 48, 3) := by decide +kernel
theorem dX0_take_5 : decode cX0_take 5 = .ok (.ifCond .eq 11, 3) := by decide +kernel
theorem dX0_take_8 : decode cX0_take 8 = .ok (.aload_n 0, 1) := by decide +kernel
theorem dX0_take_9 : decode cX0_take 9 = .ok (.iload_n 1, 1) := by decide +kernel
theorem dX0_take_10 : decode cX0_take 10 = .ok (.invokevirtual 44, 3) := by decide +kernel
theorem dX0_take_13 : decode cX0_take 13 = .ok (.goto 5, 3) := by decide +kernel
theorem dX0_take_16 : decode cX0_take 16 = .ok (.bipush (-2), 2) := by decide +kernel
theorem dX0_take_18 : decode cX0_take 18 = .ok (.ireturn, 1) := by decide +kernel
set_option maxRecDepth 20000 in
theorem ggX0_get_X0_isIndex : GoodIn wsX0_get wsX0_isIndex := goodIn_r _ [5] (by decide +kernel) (by decide +kernel)
set_option maxRecDepth 20000 in
theorem gX0_get_X0_isIndex : GoodIn wsX0_get (va_wsS RX0 24 yX0_isIndex wsX0_isIndex) := goodIn_app (goodIn_of _ (by decide +kernel)) ggX0_get_X0_isIndex
set_option maxRecDepth 20000 in
theorem ggX0_get_X0_placeFor : GoodIn wsX0_get wsX0_placeFor := goodIn_r _ [9, 10, 11, 12, 13, 4, 14, 15, 16, 25, 26, 27, 28] (by decide +kernel) (by decide +kernel)
set_option maxRecDepth 20000 in
theorem gX0_get_X0_placeFor : GoodIn wsX0_get (wsV RX0 28 RX0 yX0_placeFor wsX0_placeFor) := goodIn_app (goodIn_of _ (by decide +kernel)) ggX0_get_X0_placeFor
set_option maxRecDepth 20000 in
theorem ggX0_get_X0_isNamed : GoodIn wsX0_get wsX0_isNamed := goodIn_r _ [20, 15, 16, 21, 22, 23, 4, 24, 10, 25, 26, 27, 28] (by decide +kernel) (by decide +kernel)
set_option maxRecDepth 20000 in
theorem gX0_get_X0_isNamed : GoodIn wsX0_get (wsV RX0 32 RX0 yX0_isNamed wsX0_isNamed) := goodIn_app (goodIn_of _ (by decide +kernel)) ggX0_get_X0_isNamed
theorem dX0_get_0 : decode cX0_get 0 = .ok (.iload_n 3, 1) := by decide +kernel
theorem dX0_get_1 : decode cX0_get 1 = .ok (.invokestatic 24, 3) := by decide +kernel
theorem dX0_get_4 : decode cX0_get 4 = .ok (.ifCond .ne 5, 3) := by decide +kernel
theorem dX0_get_7 : decode cX0_get 7 = .ok (.iconst (-1), 1) := by decide +kernel
theorem dX0_get_8 : decode cX0_get 8 = .ok (.ireturn, 1) := by decide +kernel
theorem dX0_get_9 : decode cX0_get 9 = .ok (.aload_n 0, 1) := by decide +kernel
theorem dX0_get_10 : decode cX0_get 10 = .ok (.lload_n 1, 1) := by decide +kernel
theorem dX0_get_11 : decode cX0_get 11 = .ok (.iload_n 3, 1) := by decide +kernel
theorem dX0_get_12 : decode cX0_get 12 = .ok (.invokevirtual 28, 3) := by decide +kernel
theorem dX0_get_15 : decode cX0_get 15 = .ok (.istore 4, 2) := by decide +kernel
theorem dX0_get_17 : decode cX0_get 17 = .ok (.aload_n 0, 1) := by decide +kernel
theorem dX0_get_18 : decode cX0_get 18 = .ok (.iload 4, 2) := by decide +kernel
theorem dX0_get_20 : decode cX0_get 20 = .ok (.lload_n 1, 1) := by decide +kernel
theorem dX0_get_21 : decode cX0_get 21 = .ok (.iload_n 3, 1) := by decide +kernel
theorem dX0_get_22 : decode cX0_get 22 = .ok (.invokevirtual 32, 3) := by decide +kernel
theorem dX0_get_25 : decode cX0_get 25 = .ok (.ifCond .eq 13, 3) := by decide +kernel
theorem dX0_get_28 : decode cX0_get 28 = .ok (.aload_n 0, 1) := by decide +kernel
theorem dX0_get_29 : decode cX0_get 29 = .ok (.getfield 17, 3) := by decide +kernel
theorem dX0_get_32 : decode cX0_get 32 = .ok (.iload 4, 2) := by decide +kernel
theorem dX0_get_34 : decode cX0_get 34 = .ok (.iaload, 1) := by decide +kernel
theorem dX0_get_35 : decode cX0_get 35 = .ok (.goto 5, 3) := by decide +kernel
theorem dX0_get_38 : decode cX0_get 38 = .ok (.bipush (-2), 2) := by decide +kernel
theorem dX0_get_40 : decode cX0_get 40 = .ok (.ireturn, 1) := by decide +kernel
set_option maxRecDepth 20000 in
theorem ggX0_name_X0_isPlace : GoodIn wsX0_name wsX0_isPlace := goodIn_r _ [6, 7, 8, 9, 10, 11] (by decide +kernel) (by decide +kernel)
set_option maxRecDepth 20000 in
theorem gX0_name_X0_isPlace : GoodIn wsX0_name (wsV RX0 48 RX0 yX0_isPlace wsX0_isPlace) := goodIn_app (goodIn_of _ (by decide +kernel)) ggX0_name_X0_isPlace
theorem dX0_name_0 : decode cX0_name 0 = .ok (.aload_n 0, 1) := by decide +kernel
theorem dX0_name_1 : decode cX0_name 1 = .ok (.iload_n 1, 1) := by decide +kernel
theorem dX0_name_2 : decode cX0_name 2 = .ok (.invokevirtual 48, 3) := by decide +kernel
theorem dX0_name_5 : decode cX0_name 5 = .ok (.ifCond .eq 12, 3) := by decide +kernel
theorem dX0_name_8 : decode cX0_name 8 = .ok (.aload_n 0, 1) := by decide +kernel
theorem dX0_name_9 : decode cX0_name 9 = .ok (.getfield 9, 3) := by decide +kernel
theorem dX0_name_12 : decode cX0_name 12 = .ok (.iload_n 1, 1) := by decide +kernel
theorem dX0_name_13 : decode cX0_name 13 = .ok (.laload, 1) := by decide +kernel
theorem dX0_name_14 : decode cX0_name 14 = .ok (.goto 4, 3) := by decide +kernel
theorem dX0_name_17 : decode cX0_name 17 = .ok (.lconst 0, 1) := by decide +kernel
theorem dX0_name_18 : decode cX0_name 18 = .ok (.lreturn, 1) := by decide +kernel
set_option maxRecDepth 20000 in
theorem ggX0_index_X0_isPlace : GoodIn wsX0_index wsX0_isPlace := goodIn_r _ [6, 7, 8, 9, 10, 11] (by decide +kernel) (by decide +kernel)
set_option maxRecDepth 20000 in
theorem gX0_index_X0_isPlace : GoodIn wsX0_index (wsV RX0 48 RX0 yX0_isPlace wsX0_isPlace) := goodIn_app (goodIn_of _ (by decide +kernel)) ggX0_index_X0_isPlace
theorem dX0_index_0 : decode cX0_index 0 = .ok (.aload_n 0, 1) := by decide +kernel
theorem dX0_index_1 : decode cX0_index 1 = .ok (.iload_n 1, 1) := by decide +kernel
theorem dX0_index_2 : decode cX0_index 2 = .ok (.invokevirtual 48, 3) := by decide +kernel
theorem dX0_index_5 : decode cX0_index 5 = .ok (.ifCond .eq 12, 3) := by decide +kernel
theorem dX0_index_8 : decode cX0_index 8 = .ok (.aload_n 0, 1) := by decide +kernel
theorem dX0_index_9 : decode cX0_index 9 = .ok (.getfield 13, 3) := by decide +kernel
theorem dX0_index_12 : decode cX0_index 12 = .ok (.iload_n 1, 1) := by decide +kernel
theorem dX0_index_13 : decode cX0_index 13 = .ok (.iaload, 1) := by decide +kernel
theorem dX0_index_14 : decode cX0_index 14 = .ok (.goto 5, 3) := by decide +kernel
theorem dX0_index_17 : decode cX0_index 17 = .ok (.bipush (-2), 2) := by decide +kernel
theorem dX0_index_19 : decode cX0_index 19 = .ok (.ireturn, 1) := by decide +kernel
theorem dX0_many_0 : decode cX0_many 0 = .ok (.aload_n 0, 1) := by decide +kernel
theorem dX0_many_1 : decode cX0_many 1 = .ok (.getfield 20, 3) := by decide +kernel
theorem dX0_many_4 : decode cX0_many 4 = .ok (.ireturn, 1) := by decide +kernel
theorem dX0_value_0 : decode cX0_value 0 = .ok (.lconst 0, 1) := by decide +kernel
theorem dX0_value_1 : decode cX0_value 1 = .ok (.lstore_n 1, 1) := by decide +kernel
theorem dX0_value_2 : decode cX0_value 2 = .ok (.iconst 0, 1) := by decide +kernel
theorem dX0_value_3 : decode cX0_value 3 = .ok (.istore_n 3, 1) := by decide +kernel
theorem dX0_value_4 : decode cX0_value 4 = .ok (.iload_n 3, 1) := by decide +kernel
theorem dX0_value_5 : decode cX0_value 5 = .ok (.aload_n 0, 1) := by decide +kernel
theorem dX0_value_6 : decode cX0_value 6 = .ok (.getfield 20, 3) := by decide +kernel
theorem dX0_value_9 : decode cX0_value 9 = .ok (.if_icmp .ge 19, 3) := by decide +kernel
theorem dX0_value_12 : decode cX0_value 12 = .ok (.lload_n 1, 1) := by decide +kernel
theorem dX0_value_13 : decode cX0_value 13 = .ok (.aload_n 0, 1) := by decide +kernel
theorem dX0_value_14 : decode cX0_value 14 = .ok (.getfield 17, 3) := by decide +kernel
theorem dX0_value_17 : decode cX0_value 17 = .ok (.iload_n 3, 1) := by decide +kernel
theorem dX0_value_18 : decode cX0_value 18 = .ok (.iaload, 1) := by decide +kernel
theorem dX0_value_19 : decode cX0_value 19 = .ok (.i2l, 1) := by decide +kernel
theorem dX0_value_20 : decode cX0_value 20 = .ok (.ladd, 1) := by decide +kernel
theorem dX0_value_21 : decode cX0_value 21 = .ok (.lstore_n 1, 1) := by decide +kernel
theorem dX0_value_22 : decode cX0_value 22 = .ok (.iinc 3 1, 3) := by decide +kernel
theorem dX0_value_25 : decode cX0_value 25 = .ok (.goto (-21), 3) := by decide +kernel
theorem dX0_value_28 : decode cX0_value 28 = .ok (.lload_n 1, 1) := by decide +kernel
theorem dX0_value_29 : decode cX0_value 29 = .ok (.lreturn, 1) := by decide +kernel
theorem dX0_isIndex_0 : decode cX0_isIndex 0 = .ok (.iload_n 0, 1) := by decide +kernel
theorem dX0_isIndex_1 : decode cX0_isIndex 1 = .ok (.ifCond .lt 13, 3) := by decide +kernel
theorem dX0_isIndex_4 : decode cX0_isIndex 4 = .ok (.iload_n 0, 1) := by decide +kernel
theorem dX0_isIndex_5 : decode cX0_isIndex 5 = .ok (.bipush 8, 2) := by decide +kernel
theorem dX0_isIndex_7 : decode cX0_isIndex 7 = .ok (.if_icmp .ge 7, 3) := by decide +kernel
theorem dX0_isIndex_10 : decode cX0_isIndex 10 = .ok (.iconst 1, 1) := by decide +kernel
theorem dX0_isIndex_11 : decode cX0_isIndex 11 = .ok (.goto 4, 3) := by decide +kernel
theorem dX0_isIndex_14 : decode cX0_isIndex 14 = .ok (.iconst 0, 1) := by decide +kernel
theorem dX0_isIndex_15 : decode cX0_isIndex 15 = .ok (.ireturn, 1) := by decide +kernel
theorem dX0_isPlace_0 : decode cX0_isPlace 0 = .ok (.iload_n 1, 1) := by decide +kernel
theorem dX0_isPlace_1 : decode cX0_isPlace 1 = .ok (.ifCond .lt 15, 3) := by decide +kernel
theorem dX0_isPlace_4 : decode cX0_isPlace 4 = .ok (.iload_n 1, 1) := by decide +kernel
theorem dX0_isPlace_5 : decode cX0_isPlace 5 = .ok (.aload_n 0, 1) := by decide +kernel
theorem dX0_isPlace_6 : decode cX0_isPlace 6 = .ok (.getfield 20, 3) := by decide +kernel
theorem dX0_isPlace_9 : decode cX0_isPlace 9 = .ok (.if_icmp .ge 7, 3) := by decide +kernel
theorem dX0_isPlace_12 : decode cX0_isPlace 12 = .ok (.iconst 1, 1) := by decide +kernel
theorem dX0_isPlace_13 : decode cX0_isPlace 13 = .ok (.goto 4, 3) := by decide +kernel
theorem dX0_isPlace_16 : decode cX0_isPlace 16 = .ok (.iconst 0, 1) := by decide +kernel
theorem dX0_isPlace_17 : decode cX0_isPlace 17 = .ok (.ireturn, 1) := by decide +kernel
set_option maxRecDepth 20000 in
theorem ggX0_isNamed_X0_isPlace : GoodIn wsX0_isNamed wsX0_isPlace := goodIn_r _ [7, 8, 9, 10, 11, 12] (by decide +kernel) (by decide +kernel)
set_option maxRecDepth 20000 in
theorem gX0_isNamed_X0_isPlace : GoodIn wsX0_isNamed (wsV RX0 48 RX0 yX0_isPlace wsX0_isPlace) := goodIn_app (goodIn_of _ (by decide +kernel)) ggX0_isNamed_X0_isPlace
theorem dX0_isNamed_0 : decode cX0_isNamed 0 = .ok (.aload_n 0, 1) := by decide +kernel
theorem dX0_isNamed_1 : decode cX0_isNamed 1 = .ok (.iload_n 1, 1) := by decide +kernel
theorem dX0_isNamed_2 : decode cX0_isNamed 2 = .ok (.invokevirtual 48, 3) := by decide +kernel
theorem dX0_isNamed_5 : decode cX0_isNamed 5 = .ok (.ifCond .eq 29, 3) := by decide +kernel
theorem dX0_isNamed_8 : decode cX0_isNamed 8 = .ok (.aload_n 0, 1) := by decide +kernel
theorem dX0_isNamed_9 : decode cX0_isNamed 9 = .ok (.getfield 9, 3) := by decide +kernel
theorem dX0_isNamed_12 : decode cX0_isNamed 12 = .ok (.iload_n 1, 1) := by decide +kernel
theorem dX0_isNamed_13 : decode cX0_isNamed 13 = .ok (.laload, 1) := by decide +kernel
theorem dX0_isNamed_14 : decode cX0_isNamed 14 = .ok (.lload_n 2, 1) := by decide +kernel
theorem dX0_isNamed_15 : decode cX0_isNamed 15 = .ok (.lcmp, 1) := by decide +kernel
theorem dX0_isNamed_16 : decode cX0_isNamed 16 = .ok (.ifCond .ne 18, 3) := by decide +kernel
theorem dX0_isNamed_19 : decode cX0_isNamed 19 = .ok (.aload_n 0, 1) := by decide +kernel
theorem dX0_isNamed_20 : decode cX0_isNamed 20 = .ok (.getfield 13, 3) := by decide +kernel
theorem dX0_isNamed_23 : decode cX0_isNamed 23 = .ok (.iload_n 1, 1) := by decide +kernel
theorem dX0_isNamed_24 : decode cX0_isNamed 24 = .ok (.iaload, 1) := by decide +kernel
theorem dX0_isNamed_25 : decode cX0_isNamed 25 = .ok (.iload 4, 2) := by decide +kernel
theorem dX0_isNamed_27 : decode cX0_isNamed 27 = .ok (.if_icmp .ne 7, 3) := by decide +kernel
theorem dX0_isNamed_30 : decode cX0_isNamed 30 = .ok (.iconst 1, 1) := by decide +kernel
theorem dX0_isNamed_31 : decode cX0_isNamed 31 = .ok (.goto 4, 3) := by decide +kernel
theorem dX0_isNamed_34 : decode cX0_isNamed 34 = .ok (.iconst 0, 1) := by decide +kernel
theorem dX0_isNamed_35 : decode cX0_isNamed 35 = .ok (.ireturn, 1) := by decide +kernel
theorem dX0_isBefore_0 : decode cX0_isBefore 0 = .ok (.aload_n 0, 1) := by decide +kernel
theorem dX0_isBefore_1 : decode cX0_isBefore 1 = .ok (.getfield 9, 3) := by decide +kernel
theorem dX0_isBefore_4 : decode cX0_isBefore 4 = .ok (.iload_n 1, 1) := by decide +kernel
theorem dX0_isBefore_5 : decode cX0_isBefore 5 = .ok (.laload, 1) := by decide +kernel
theorem dX0_isBefore_6 : decode cX0_isBefore 6 = .ok (.lload_n 2, 1) := by decide +kernel
theorem dX0_isBefore_7 : decode cX0_isBefore 7 = .ok (.lcmp, 1) := by decide +kernel
theorem dX0_isBefore_8 : decode cX0_isBefore 8 = .ok (.ifCond .lt 25, 3) := by decide +kernel
theorem dX0_isBefore_11 : decode cX0_isBefore 11 = .ok (.aload_n 0, 1) := by decide +kernel
theorem dX0_isBefore_12 : decode cX0_isBefore 12 = .ok (.getfield 9, 3) := by decide +kernel
theorem dX0_isBefore_15 : decode cX0_isBefore 15 = .ok (.iload_n 1, 1) := by decide +kernel
theorem dX0_isBefore_16 : decode cX0_isBefore 16 = .ok (.laload, 1) := by decide +kernel
theorem dX0_isBefore_17 : decode cX0_isBefore 17 = .ok (.lload_n 2, 1) := by decide +kernel
theorem dX0_isBefore_18 : decode cX0_isBefore 18 = .ok (.lcmp, 1) := by decide +kernel
theorem dX0_isBefore_19 : decode cX0_isBefore 19 = .ok (.ifCond .ne 18, 3) := by decide +kernel
theorem dX0_isBefore_22 : decode cX0_isBefore 22 = .ok (.aload_n 0, 1) := by decide +kernel
theorem dX0_isBefore_23 : decode cX0_isBefore 23 = .ok (.getfield 13, 3) := by decide +kernel
theorem dX0_isBefore_26 : decode cX0_isBefore 26 = .ok (.iload_n 1, 1) := by decide +kernel
theorem dX0_isBefore_27 : decode cX0_isBefore 27 = .ok (.iaload, 1) := by decide +kernel
theorem dX0_isBefore_28 : decode cX0_isBefore 28 = .ok (.iload 4, 2) := by decide +kernel
theorem dX0_isBefore_30 : decode cX0_isBefore 30 = .ok (.if_icmp .ge 7, 3) := by decide +kernel
theorem dX0_isBefore_33 : decode cX0_isBefore 33 = .ok (.iconst 1, 1) := by decide +kernel
theorem dX0_isBefore_34 : decode cX0_isBefore 34 = .ok (.goto 4, 3) := by decide +kernel
theorem dX0_isBefore_37 : decode cX0_isBefore 37 = .ok (.iconst 0, 1) := by decide +kernel
theorem dX0_isBefore_38 : decode cX0_isBefore 38 = .ok (.ireturn, 1) := by decide +kernel
set_option maxRecDepth 20000 in
theorem ggX0_placeFor_X0_isBefore : GoodIn wsX0_placeFor wsX0_isBefore := goodIn_r _ [6, 7, 8, 9, 10, 11, 12] (by decide +kernel) (by decide +kernel)
set_option maxRecDepth 20000 in
theorem gX0_placeFor_X0_isBefore : GoodIn wsX0_placeFor (wsV RX0 51 RX0 yX0_isBefore wsX0_isBefore) := goodIn_app (goodIn_of _ (by decide +kernel)) ggX0_placeFor_X0_isBefore
theorem dX0_placeFor_0 : decode cX0_placeFor 0 = .ok (.iconst 0, 1) := by decide +kernel
theorem dX0_placeFor_1 : decode cX0_placeFor 1 = .ok (.istore 4, 2) := by decide +kernel
theorem dX0_placeFor_3 : decode cX0_placeFor 3 = .ok (.sipush 512, 3) := by decide +kernel
theorem dX0_placeFor_6 : decode cX0_placeFor 6 = .ok (.istore 5, 2) := by decide +kernel
theorem dX0_placeFor_8 : decode cX0_placeFor 8 = .ok (.iload 5, 2) := by decide +kernel
theorem dX0_placeFor_10 : decode cX0_placeFor 10 = .ok (.ifCond .le 45, 3) := by decide +kernel
theorem dX0_placeFor_13 : decode cX0_placeFor 13 = .ok (.iload 4, 2) := by decide +kernel
theorem dX0_placeFor_15 : decode cX0_placeFor 15 = .ok (.iload 5, 2) := by decide +kernel
theorem dX0_placeFor_17 : decode cX0_placeFor 17 = .ok (.iadd, 1) := by decide +kernel
theorem dX0_placeFor_18 : decode cX0_placeFor 18 = .ok (.istore 6, 2) := by decide +kernel
theorem dX0_placeFor_20 : decode cX0_placeFor 20 = .ok (.iload 6, 2) := by decide +kernel
theorem dX0_placeFor_22 : decode cX0_placeFor 22 = .ok (.aload_n 0, 1) := by decide +kernel
theorem dX0_placeFor_23 : decode cX0_placeFor 23 = .ok (.getfield 20, 3) := by decide +kernel
theorem dX0_placeFor_26 : decode cX0_placeFor 26 = .ok (.if_icmp .gt 20, 3) := by decide +kernel
theorem dX0_placeFor_29 : decode cX0_placeFor 29 = .ok (.aload_n 0, 1) := by decide +kernel
theorem dX0_placeFor_30 : decode cX0_placeFor 30 = .ok (.iload 6, 2) := by decide +kernel
theorem dX0_placeFor_32 : decode cX0_placeFor 32 = .ok (.iconst 1, 1) := by decide +kernel
theorem dX0_placeFor_33 : decode cX0_placeFor 33 = .ok (.isub, 1) := by decide +kernel
theorem dX0_placeFor_34 : decode cX0_placeFor 34 = .ok (.lload_n 1, 1) := by decide +kernel
theorem dX0_placeFor_35 : decode cX0_placeFor 35 = .ok (.iload_n 3, 1) := by decide +kernel
theorem dX0_placeFor_36 : decode cX0_placeFor 36 = .ok (.invokevirtual 51, 3) := by decide +kernel
theorem dX0_placeFor_39 : decode cX0_placeFor 39 = .ok (.ifCond .eq 7, 3) := by decide +kernel
theorem dX0_placeFor_42 : decode cX0_placeFor 42 = .ok (.iload 6, 2) := by decide +kernel
theorem dX0_placeFor_44 : decode cX0_placeFor 44 = .ok (.istore 4, 2) := by decide +kernel
theorem dX0_placeFor_46 : decode cX0_placeFor 46 = .ok (.iload 5, 2) := by decide +kernel
theorem dX0_placeFor_48 : decode cX0_placeFor 48 = .ok (.iconst 2, 1) := by decide +kernel
theorem dX0_placeFor_49 : decode cX0_placeFor 49 = .ok (.idiv, 1) := by decide +kernel
theorem dX0_placeFor_50 : decode cX0_placeFor 50 = .ok (.istore 5, 2) := by decide +kernel
theorem dX0_placeFor_52 : decode cX0_placeFor 52 = .ok (.goto (-44), 3) := by decide +kernel
theorem dX0_placeFor_55 : decode cX0_placeFor 55 = .ok (.iload 4, 2) := by decide +kernel
theorem dX0_placeFor_57 : decode cX0_placeFor 57 = .ok (.ireturn, 1) := by decide +kernel
set_option maxRecDepth 20000 in
theorem ggX0_insertAt_X0_moveTail : GoodIn wsX0_insertAt wsX0_moveTail := goodIn_r _ [9, 4, 1, 10, 11, 12, 13, 2, 3, 14, 15, 16, 17] (by decide +kernel) (by decide +kernel)
set_option maxRecDepth 20000 in
theorem gX0_insertAt_X0_moveTail : GoodIn wsX0_insertAt (wsV RX0 54 RX0 yX0_moveTail wsX0_moveTail) := goodIn_app (goodIn_of _ (by decide +kernel)) ggX0_insertAt_X0_moveTail
theorem dX0_insertAt_0 : decode cX0_insertAt 0 = .ok (.aload_n 0, 1) := by decide +kernel
theorem dX0_insertAt_1 : decode cX0_insertAt 1 = .ok (.iload_n 1, 1) := by decide +kernel
theorem dX0_insertAt_2 : decode cX0_insertAt 2 = .ok (.iload_n 1, 1) := by decide +kernel
theorem dX0_insertAt_3 : decode cX0_insertAt 3 = .ok (.iconst 1, 1) := by decide +kernel
theorem dX0_insertAt_4 : decode cX0_insertAt 4 = .ok (.iadd, 1) := by decide +kernel
theorem dX0_insertAt_5 : decode cX0_insertAt 5 = .ok (.invokevirtual 54, 3) := by decide +kernel
theorem dX0_insertAt_8 : decode cX0_insertAt 8 = .ok (.aload_n 0, 1) := by decide +kernel
theorem dX0_insertAt_9 : decode cX0_insertAt 9 = .ok (.getfield 9, 3) := by decide +kernel
theorem dX0_insertAt_12 : decode cX0_insertAt 12 = .ok (.iload_n 1, 1) := by decide +kernel
theorem dX0_insertAt_13 : decode cX0_insertAt 13 = .ok (.lload_n 2, 1) := by decide +kernel
theorem dX0_insertAt_14 : decode cX0_insertAt 14 = .ok (.lastore, 1) := by decide +kernel
theorem dX0_insertAt_15 : decode cX0_insertAt 15 = .ok (.aload_n 0, 1) := by decide +kernel
theorem dX0_insertAt_16 : decode cX0_insertAt 16 = .ok (.getfield 13, 3) := by decide +kernel
theorem dX0_insertAt_19 : decode cX0_insertAt 19 = .ok (.iload_n 1, 1) := by decide +kernel
theorem dX0_insertAt_20 : decode cX0_insertAt 20 = .ok (.iload 4, 2) := by decide +kernel
theorem dX0_insertAt_22 : decode cX0_insertAt 22 = .ok (.iastore, 1) := by decide +kernel
theorem dX0_insertAt_23 : decode cX0_insertAt 23 = .ok (.aload_n 0, 1) := by decide +kernel
theorem dX0_insertAt_24 : decode cX0_insertAt 24 = .ok (.getfield 17, 3) := by decide +kernel
theorem dX0_insertAt_27 : decode cX0_insertAt 27 = .ok (.iload_n 1, 1) := by decide +kernel
theorem dX0_insertAt_28 : decode cX0_insertAt 28 = .ok (.iload 5, 2) := by decide +kernel
theorem dX0_insertAt_30 : decode cX0_insertAt 30 = .ok (.iastore, 1) := by decide +kernel
theorem dX0_insertAt_31 : decode cX0_insertAt 31 = .ok (.aload_n 0, 1) := by decide +kernel
theorem dX0_insertAt_32 : decode cX0_insertAt 32 = .ok (.dup, 1) := by decide +kernel
theorem dX0_insertAt_33 : decode cX0_insertAt 33 = .ok (.getfield 20, 3) := by decide +kernel
theorem dX0_insertAt_36 : decode cX0_insertAt 36 = .ok (.iconst 1, 1) := by decide +kernel
theorem dX0_insertAt_37 : decode cX0_insertAt 37 = .ok (.iadd, 1) := by decide +kernel
theorem dX0_insertAt_38 : decode cX0_insertAt 38 = .ok (.putfield 20, 3) := by decide +kernel
theorem dX0_insertAt_41 : decode cX0_insertAt 41 = .ok (.return_, 1) := by decide +kernel
set_option maxRecDepth 20000 in
theorem ggX0_deleteAt_X0_moveTail : GoodIn wsX0_deleteAt wsX0_moveTail := goodIn_r _ [7, 2, 8, 9, 10, 11, 12, 13, 1, 14, 15, 16, 17] (by decide +kernel) (by decide +kernel)
set_option maxRecDepth 20000 in
theorem gX0_deleteAt_X0_moveTail : GoodIn wsX0_deleteAt (wsV RX0 54 RX0 yX0_moveTail wsX0_moveTail) := goodIn_app (goodIn_of _ (by decide +kernel)) ggX0_deleteAt_X0_moveTail
theorem dX0_deleteAt_0 : decode cX0_deleteAt 0 = .ok (.aload_n 0, 1) := by decide +kernel
theorem dX0_deleteAt_1 : decode cX0_deleteAt 1 = .ok (.getfield 17, 3) := by decide +kernel
theorem dX0_deleteAt_4 : decode cX0_deleteAt 4 = .ok (.iload_n 1, 1) := by decide +kernel
theorem dX0_deleteAt_5 : decode cX0_deleteAt 5 = .ok (.iaload, 1) := by decide +kernel
theorem dX0_deleteAt_6 : decode cX0_deleteAt 6 = .ok (.istore_n 2, 1) := by decide +kernel
theorem dX0_deleteAt_7 : decode cX0_deleteAt 7 = .ok (.aload_n 0, 1) := by decide +kernel
theorem dX0_deleteAt_8 : decode cX0_deleteAt 8 = .ok (.iload_n 1, 1) := by decide +kernel
theorem dX0_deleteAt_9 : decode cX0_deleteAt 9 = .ok (.iconst 1, 1) := by decide +kernel
theorem dX0_deleteAt_10 : decode cX0_deleteAt 10 = .ok (.iadd, 1) := by decide +kernel
theorem dX0_deleteAt_11 : decode cX0_deleteAt 11 = .ok (.iload_n 1, 1) := by decide +kernel
theorem dX0_deleteAt_12 : decode cX0_deleteAt 12 = .ok (.invokevirtual 54, 3) := by decide +kernel
theorem dX0_deleteAt_15 : decode cX0_deleteAt 15 = .ok (.aload_n 0, 1) := by decide +kernel
theorem dX0_deleteAt_16 : decode cX0_deleteAt 16 = .ok (.dup, 1) := by decide +kernel
theorem dX0_deleteAt_17 : decode cX0_deleteAt 17 = .ok (.getfield 20, 3) := by decide +kernel
theorem dX0_deleteAt_20 : decode cX0_deleteAt 20 = .ok (.iconst 1, 1) := by decide +kernel
theorem dX0_deleteAt_21 : decode cX0_deleteAt 21 = .ok (.isub, 1) := by decide +kernel
theorem dX0_deleteAt_22 : decode cX0_deleteAt 22 = .ok (.putfield 20, 3) := by decide +kernel
theorem dX0_deleteAt_25 : decode cX0_deleteAt 25 = .ok (.iload_n 2, 1) := by decide +kernel
theorem dX0_deleteAt_26 : decode cX0_deleteAt 26 = .ok (.ireturn, 1) := by decide +kernel
theorem dX0_moveTail_0 : decode cX0_moveTail 0 = .ok (.aload_n 0, 1) := by decide +kernel
theorem dX0_moveTail_1 : decode cX0_moveTail 1 = .ok (.getfield 20, 3) := by decide +kernel
theorem dX0_moveTail_4 : decode cX0_moveTail 4 = .ok (.iload_n 1, 1) := by decide +kernel
theorem dX0_moveTail_5 : decode cX0_moveTail 5 = .ok (.isub, 1) := by decide +kernel
theorem dX0_moveTail_6 : decode cX0_moveTail 6 = .ok (.istore_n 3, 1) := by decide +kernel
theorem dX0_moveTail_7 : decode cX0_moveTail 7 = .ok (.aload_n 0, 1) := by decide +kernel
theorem dX0_moveTail_8 : decode cX0_moveTail 8 = .ok (.getfield 9, 3) := by decide +kernel
theorem dX0_moveTail_11 : decode cX0_moveTail 11 = .ok (.iload_n 1, 1) := by decide +kernel
theorem dX0_moveTail_12 : decode cX0_moveTail 12 = .ok (.aload_n 0, 1) := by decide +kernel
theorem dX0_moveTail_13 : decode cX0_moveTail 13 = .ok (.getfield 9, 3) := by decide +kernel
theorem dX0_moveTail_16 : decode cX0_moveTail 16 = .ok (.iload_n 2, 1) := by decide +kernel
theorem dX0_moveTail_17 : decode cX0_moveTail 17 = .ok (.iload_n 3, 1) := by decide +kernel
theorem dX0_moveTail_18 : decode cX0_moveTail 18 = .ok (.invokestatic 58, 3) := by decide +kernel
theorem dX0_moveTail_21 : decode cX0_moveTail 21 = .ok (.aload_n 0, 1) := by decide +kernel
theorem dX0_moveTail_22 : decode cX0_moveTail 22 = .ok (.getfield 13, 3) := by decide +kernel
theorem dX0_moveTail_25 : decode cX0_moveTail 25 = .ok (.iload_n 1, 1) := by decide +kernel
theorem dX0_moveTail_26 : decode cX0_moveTail 26 = .ok (.aload_n 0, 1) := by decide +kernel
theorem dX0_moveTail_27 : decode cX0_moveTail 27 = .ok (.getfield 13, 3) := by decide +kernel
theorem dX0_moveTail_30 : decode cX0_moveTail 30 = .ok (.iload_n 2, 1) := by decide +kernel
theorem dX0_moveTail_31 : decode cX0_moveTail 31 = .ok (.iload_n 3, 1) := by decide +kernel
theorem dX0_moveTail_32 : decode cX0_moveTail 32 = .ok (.invokestatic 58, 3) := by decide +kernel
theorem dX0_moveTail_35 : decode cX0_moveTail 35 = .ok (.aload_n 0, 1) := by decide +kernel
theorem dX0_moveTail_36 : decode cX0_moveTail 36 = .ok (.getfield 17, 3) := by decide +kernel
theorem dX0_moveTail_39 : decode cX0_moveTail 39 = .ok (.iload_n 1, 1) := by decide +kernel
theorem dX0_moveTail_40 : decode cX0_moveTail 40 = .ok (.aload_n 0, 1) := by decide +kernel
theorem dX0_moveTail_41 : decode cX0_moveTail 41 = .ok (.getfield 17, 3) := by decide +kernel
theorem dX0_moveTail_44 : decode cX0_moveTail 44 = .ok (.iload_n 2, 1) := by decide +kernel
theorem dX0_moveTail_45 : decode cX0_moveTail 45 = .ok (.iload_n 3, 1) := by decide +kernel
theorem dX0_moveTail_46 : decode cX0_moveTail 46 = .ok (.invokestatic 58, 3) := by decide +kernel
theorem dX0_moveTail_49 : decode cX0_moveTail 49 = .ok (.return_, 1) := by decide +kernel
theorem dX1_init_0 : decode cX1_init 0 = .ok (.aload_n 0, 1) := by decide +kernel
theorem dX1_init_1 : decode cX1_init 1 = .ok (.invokespecial 1, 3) := by decide +kernel
theorem dX1_init_4 : decode cX1_init 4 = .ok (.aload_n 0, 1) := by decide +kernel
theorem dX1_init_5 : decode cX1_init 5 = .ok (.sipush 900, 3) := by decide +kernel
theorem dX1_init_8 : decode cX1_init 8 = .ok (.newarray .long, 2) := by decide +kernel
theorem dX1_init_10 : decode cX1_init 10 = .ok (.putfield 9, 3) := by decide +kernel
theorem dX1_init_13 : decode cX1_init 13 = .ok (.aload_n 0, 1) := by decide +kernel
theorem dX1_init_14 : decode cX1_init 14 = .ok (.sipush 900, 3) := by decide +kernel
theorem dX1_init_17 : decode cX1_init 17 = .ok (.newarray .int, 2) := by decide +kernel
theorem dX1_init_19 : decode cX1_init 19 = .ok (.putfield 13, 3) := by decide +kernel
theorem dX1_init_22 : decode cX1_init 22 = .ok (.aload_n 0, 1) := by decide +kernel
theorem dX1_init_23 : decode cX1_init 23 = .ok (.sipush 900, 3) := by decide +kernel
theorem dX1_init_26 : decode cX1_init 26 = .ok (.newarray .int, 2) := by decide +kernel
theorem dX1_init_28 : decode cX1_init 28 = .ok (.putfield 17, 3) := by decide +kernel
theorem dX1_init_31 : decode cX1_init 31 = .ok (.return_, 1) := by decide +kernel
theorem dX1_place_0 : decode cX1_place 0 = .ok (.iconst 0, 1) := by decide +kernel
theorem dX1_place_1 : decode cX1_place 1 = .ok (.istore 4, 2) := by decide +kernel
theorem dX1_place_3 : decode cX1_place 3 = .ok (.iload 4, 2) := by decide +kernel
theorem dX1_place_5 : decode cX1_place 5 = .ok (.aload_n 0, 1) := by decide +kernel
theorem dX1_place_6 : decode cX1_place 6 = .ok (.getfield 20, 3) := by decide +kernel
theorem dX1_place_9 : decode cX1_place 9 = .ok (.if_icmp .ge 44, 3) := by decide +kernel
theorem dX1_place_12 : decode cX1_place 12 = .ok (.aload_n 0, 1) := by decide +kernel
theorem dX1_place_13 : decode cX1_place 13 = .ok (.getfield 9, 3) := by decide +kernel
theorem dX1_place_16 : decode cX1_place 16 = .ok (.iload 4, 2) := by decide +kernel
theorem dX1_place_18 : decode cX1_place 18 = .ok (.laload, 1) := by decide +kernel
theorem dX1_place_19 : decode cX1_place 19 = .ok (.lload_n 1, 1) := by decide +kernel
theorem dX1_place_20 : decode cX1_place 20 = .ok (.lcmp, 1) := by decide +kernel
theorem dX1_place_21 : decode cX1_place 21 = .ok (.ifCond .lt 26, 3) := by decide +kernel
theorem dX1_place_24 : decode cX1_place 24 = .ok (.aload_n 0, 1) := by decide +kernel
theorem dX1_place_25 : decode cX1_place 25 = .ok (.getfield 9, 3) := by decide +kernel
theorem dX1_place_28 : decode cX1_place 28 = .ok (.iload 4, 2) := by decide +kernel
theorem dX1_place_30 : decode cX1_place 30 = .ok (.laload, 1) := by decide +kernel
theorem dX1_place_31 : decode cX1_place 31 = .ok (.lload_n 1, 1) := by decide +kernel
theorem dX1_place_32 : decode cX1_place 32 = .ok (.lcmp, 1) := by decide +kernel
theorem dX1_place_33 : decode cX1_place 33 = .ok (.ifCond .ne 20, 3) := by decide +kernel
theorem dX1_place_36 : decode cX1_place 36 = .ok (.aload_n 0, 1) := by decide +kernel
theorem dX1_place_37 : decode cX1_place 37 = .ok (.getfield 13, 3) := by decide +kernel
theorem dX1_place_40 : decode cX1_place 40 = .ok (.iload 4, 2) := by decide +kernel
theorem dX1_place_42 : decode cX1_place 42 = .ok (.iaload, 1) := by decide +kernel
theorem dX1_place_43 : decode cX1_place 43 = .ok (.iload_n 3, 1) := by decide +kernel
theorem dX1_place_44 : decode cX1_place 44 = .ok (.if_icmp .ge 9, 3) := by decide +kernel
theorem dX1_place_47 : decode cX1_place 47 = .ok (.iinc 4 1, 3) := by decide +kernel
theorem dX1_place_50 : decode cX1_place 50 = .ok (.goto (-47), 3) := by decide +kernel
theorem dX1_place_53 : decode cX1_place 53 = .ok (.iload 4, 2) := by decide +kernel
theorem dX1_place_55 : decode cX1_place 55 = .ok (.ireturn, 1) := by decide +kernel
theorem dX1_is_0 : decode cX1_is 0 = .ok (.iload_n 1, 1) := by decide +kernel
theorem dX1_is_1 : decode cX1_is 1 = .ok (.aload_n 0, 1) := by decide +kernel
theorem dX1_is_2 : decode cX1_is 2 = .ok (.getfield 20, 3) := by decide +kernel
theorem dX1_is_5 : decode cX1_is 5 = .ok (.if_icmp .ge 29, 3) := by decide +kernel
theorem dX1_is_8 : decode cX1_is 8 = .ok (.aload_n 0, 1) := by decide +kernel
theorem dX1_is_9 : decode cX1_is 9 = .ok (.getfield 9, 3) := by decide +kernel
theorem dX1_is_12 : decode cX1_is 12 = .ok (.iload_n 1, 1) := by decide +kernel
theorem dX1_is_13 : decode cX1_is 13 = .ok (.laload, 1) := by decide +kernel
theorem dX1_is_14 : decode cX1_is 14 = .ok (.lload_n 2, 1) := by decide +kernel
theorem dX1_is_15 : decode cX1_is 15 = .ok (.lcmp, 1) := by decide +kernel
theorem dX1_is_16 : decode cX1_is 16 = .ok (.ifCond .ne 18, 3) := by decide +kernel
theorem dX1_is_19 : decode cX1_is 19 = .ok (.aload_n 0, 1) := by decide +kernel
theorem dX1_is_20 : decode cX1_is 20 = .ok (.getfield 13, 3) := by decide +kernel
theorem dX1_is_23 : decode cX1_is 23 = .ok (.iload_n 1, 1) := by decide +kernel
theorem dX1_is_24 : decode cX1_is 24 = .ok (.iaload, 1) := by decide +kernel
theorem dX1_is_25 : decode cX1_is 25 = .ok (.iload 4, 2) := by decide +kernel
theorem dX1_is_27 : decode cX1_is 27 = .ok (.if_icmp .ne 7, 3) := by decide +kernel
theorem dX1_is_30 : decode cX1_is 30 = .ok (.iconst 1, 1) := by decide +kernel
theorem dX1_is_31 : decode cX1_is 31 = .ok (.goto 4, 3) := by decide +kernel
theorem dX1_is_34 : decode cX1_is 34 = .ok (.iconst 0, 1) := by decide +kernel
theorem dX1_is_35 : decode cX1_is 35 = .ok (.ireturn, 1) := by decide +kernel
set_option maxRecDepth 20000 in
theorem ggX1_add_X1_place : GoodIn wsX1_add wsX1_place := goodIn_r _ [9, 1, 2, 3, 14, 15, 16, 17] (by decide +kernel) (by decide +kernel)
set_option maxRecDepth 20000 in
theorem gX1_add_X1_place : GoodIn wsX1_add (wsV RX1 24 RX1 yX1_place wsX1_place) := goodIn_app (goodIn_of _ (by decide +kernel)) ggX1_add_X1_place
set_option maxRecDepth 20000 in
theorem ggX1_add_X1_is : GoodIn wsX1_add wsX1_is := goodIn_r _ [13, 1, 2, 3, 14, 15, 16, 17] (by decide +kernel) (by decide +kernel)
set_option maxRecDepth 20000 in
theorem gX1_add_X1_is : GoodIn wsX1_add (wsV RX1 28 RX1 yX1_is wsX1_is) := goodIn_app (goodIn_of _ (by decide +kernel)) ggX1_add_X1_is
theorem dX1_add_0 : decode cX1_add 0 = .ok (.iload_n 3, 1) := by decide +kernel
theorem dX1_add_1 : decode cX1_add 1 = .ok (.ifCond .lt 14, 3) := by decide +kernel
theorem dX1_add_4 : decode cX1_add 4 = .ok (.iload_n 3, 1) := by decide +kernel
theorem dX1_add_5 : decode cX1_add 5 = .ok (.bipush 7, 2) := by decide +kernel
theorem dX1_add_7 : decode cX1_add 7 = .ok (.if_icmp .gt 8, 3) := by decide +kernel
theorem dX1_add_10 : decode cX1_add 10 = .ok (.iload 4, 2) := by decide +kernel
theorem dX1_add_12 : decode cX1_add 12 = .ok (.ifCond .ge 5, 3) := by decide +kernel
theorem dX1_add_15 : decode cX1_add 15 = .ok (.iconst (-1), 1) := by decide +kernel
theorem dX1_add_16 : decode cX1_add 16 = .ok (.ireturn, 1) := by decide +kernel
theorem dX1_add_17 : decode cX1_add 17 = .ok (.aload_n 0, 1) := by decide +kernel
theorem dX1_add_18 : decode cX1_add 18 = .ok (.lload_n 1, 1) := by decide +kernel
theorem dX1_add_19 : decode cX1_add 19 = .ok (.iload_n 3, 1) := by decide +kernel
theorem dX1_add_20 : decode cX1_add 20 = .ok (.invokevirtual 24, 3) := by decide +kernel
theorem dX1_add_23 : decode cX1_add 23 = .ok (.istore 5, 2) := by decide +kernel
theorem dX1_add_25 : decode cX1_add 25 = .ok (.aload_n 0, 1) := by decide +kernel
theorem dX1_add_26 : decode cX1_add 26 = .ok (.iload 5, 2) := by decide +kernel
theorem dX1_add_28 : decode cX1_add 28 = .ok (.lload_n 1, 1) := by decide +kernel
theorem dX1_add_29 : decode cX1_add 29 = .ok (.iload_n 3, 1) := by decide +kernel
theorem dX1_add_30 : decode cX1_add 30 = .ok (.invokevirtual 28, 3) := by decide +kernel
theorem dX1_add_33 : decode cX1_add 33 = .ok (.ifCond .eq 6, 3) := by decide +kernel
theorem dX1_add_36 : decode cX1_add 36 = .ok (.bipush (-3), 2) := by decide +kernel
theorem dX1_add_38 : decode cX1_add 38 = .ok (.ireturn, 1) := by decide +kernel
theorem dX1_add_39 : decode cX1_add 39 = .ok (.aload_n 0, 1) := by decide +kernel
theorem dX1_add_40 : decode cX1_add 40 = .ok (.getfield 20, 3) := by decide +kernel
theorem dX1_add_43 : decode cX1_add 43 = .ok (.sipush 900, 3) := by decide +kernel
theorem dX1_add_46 : decode cX1_add 46 = .ok (.if_icmp .ne 6, 3) := by decide +kernel
theorem dX1_add_49 : decode cX1_add 49 = .ok (.bipush (-4), 2) := by decide +kernel
theorem dX1_add_51 : decode cX1_add 51 = .ok (.ireturn, 1) := by decide +kernel
theorem dX1_add_52 : decode cX1_add 52 = .ok (.aload_n 0, 1) := by decide +kernel
theorem dX1_add_53 : decode cX1_add 53 = .ok (.getfield 20, 3) := by decide +kernel
theorem dX1_add_56 : decode cX1_add 56 = .ok (.istore 6, 2) := by decide +kernel
theorem dX1_add_58 : decode cX1_add 58 = .ok (.iload 6, 2) := by decide +kernel
theorem dX1_add_60 : decode cX1_add 60 = .ok (.iload 5, 2) := by decide +kernel
theorem dX1_add_62 : decode cX1_add 62 = .ok (.if_icmp .le 57, 3) := by decide +kernel
theorem dX1_add_65 : decode cX1_add 65 = .ok (.aload_n 0, 1) := by decide +kernel
theorem dX1_add_66 : decode cX1_add 66 = .ok (.getfield 9, 3) := by decide +kernel
theorem dX1_add_69 : decode cX1_add 69 = .ok (.iload 6, 2) := by decide +kernel
theorem dX1_add_71 : decode cX1_add 71 = .ok (.aload_n 0, 1) := by decide +kernel
theorem dX1_add_72 : decode cX1_add 72 = .ok (.getfield 9, 3) := by decide +kernel
theorem dX1_add_75 : decode cX1_add 75 = .ok (.iload 6, 2) := by decide +kernel
theorem dX1_add_77 : decode cX1_add 77 = .ok (.iconst 1, 1) := by decide +kernel
theorem dX1_add_78 : decode cX1_add 78 = .ok (.isub, 1) := by decide +kernel
theorem dX1_add_79 : decode cX1_add 79 = .ok (.laload, 1) := by decide +kernel
theorem dX1_add_80 : decode cX1_add 80 = .ok (.lastore, 1) := by decide +kernel
theorem dX1_add_81 : decode cX1_add 81 = .ok (.aload_n 0, 1) := by decide +kernel
theorem dX1_add_82 : decode cX1_add 82 = .ok (.getfield 13, 3) := by decide +kernel
theorem dX1_add_85 : decode cX1_add 85 = .ok (.iload 6, 2) := by decide +kernel
theorem dX1_add_87 : decode cX1_add 87 = .ok (.aload_n 0, 1) := by decide +kernel
theorem dX1_add_88 : decode cX1_add 88 = .ok (.getfield 13, 3) := by decide +kernel
theorem dX1_add_91 : decode cX1_add 91 = .ok (.iload 6, 2) := by decide +kernel
theorem dX1_add_93 : decode cX1_add 93 = .ok (.iconst 1, 1) := by decide +kernel
theorem dX1_add_94 : decode cX1_add 94 = .ok (.isub, 1) := by decide +kernel
theorem dX1_add_95 : decode cX1_add 95 = .ok (.iaload, 1) := by decide +kernel
theorem dX1_add_96 : decode cX1_add 96 = .ok (.iastore, 1) := by decide +kernel
theorem dX1_add_97 : decode cX1_add 97 = .ok (.aload_n 0, 1) := by decide +kernel
theorem dX1_add_98 : decode cX1_add 98 = .ok (.getfield 17, 3) := by decide +kernel
theorem dX1_add_101 : decode cX1_add 101 = .ok (.iload 6, 2) := by decide +kernel
theorem dX1_add_103 : decode cX1_add 103 = .ok (.aload_n 0, 1) := by decide +kernel
theorem dX1_add_104 : decode cX1_add 104 = .ok (.getfield 17, 3) := by decide +kernel
theorem dX1_add_107 : decode cX1_add 107 = .ok (.iload 6, 2) := by decide +kernel
theorem dX1_add_109 : decode cX1_add 109 = .ok (.iconst 1, 1) := by decide +kernel
theorem dX1_add_110 : decode cX1_add 110 = .ok (.isub, 1) := by decide +kernel
theorem dX1_add_111 : decode cX1_add 111 = .ok (.iaload, 1) := by decide +kernel
theorem dX1_add_112 : decode cX1_add 112 = .ok (.iastore, 1) := by decide +kernel
theorem dX1_add_113 : decode cX1_add 113 = .ok (.iinc 6 (-1), 3) := by decide +kernel
theorem dX1_add_116 : decode cX1_add 116 = .ok (.goto (-58), 3) := by decide +kernel
theorem dX1_add_119 : decode cX1_add 119 = .ok (.aload_n 0, 1) := by decide +kernel
theorem dX1_add_120 : decode cX1_add 120 = .ok (.getfield 9, 3) := by decide +kernel
theorem dX1_add_123 : decode cX1_add 123 = .ok (.iload 5, 2) := by decide +kernel
theorem dX1_add_125 : decode cX1_add 125 = .ok (.lload_n 1, 1) := by decide +kernel
theorem dX1_add_126 : decode cX1_add 126 = .ok (.lastore, 1) := by decide +kernel
theorem dX1_add_127 : decode cX1_add 127 = .ok (.aload_n 0, 1) := by decide +kernel
theorem dX1_add_128 : decode cX1_add 128 = .ok (.getfield 13, 3) := by decide +kernel
theorem dX1_add_131 : decode cX1_add 131 = .ok (.iload 5, 2) := by decide +kernel
theorem dX1_add_133 : decode cX1_add 133 = .ok (.iload_n 3, 1) := by decide +kernel
theorem dX1_add_134 : decode cX1_add 134 = .ok (.iastore, 1) := by decide +kernel
theorem dX1_add_135 : decode cX1_add 135 = .ok (.aload_n 0, 1) := by decide +kernel
theorem dX1_add_136 : decode cX1_add 136 = .ok (.getfield 17, 3) := by decide +kernel
theorem dX1_add_139 : decode cX1_add 139 = .ok (.iload 5, 2) := by decide +kernel
theorem dX1_add_141 : decode cX1_add 141 = .ok (.iload 4, 2) := by decide +kernel
theorem dX1_add_143 : decode cX1_add 143 = .ok (.iastore, 1) := by decide +kernel
theorem dX1_add_144 : decode cX1_add 144 = .ok (.aload_n 0, 1) := by decide +kernel
theorem dX1_add_145 : decode cX1_add 145 = .ok (.dup, 1) := by decide +kernel
theorem dX1_add_146 : decode cX1_add 146 = .ok (.getfield 20, 3) := by decide +kernel
theorem dX1_add_149 : decode cX1_add 149 = .ok (.iconst 1, 1) := by decide +kernel
theorem dX1_add_150 : decode cX1_add 150 = .ok (.iadd, 1) := by decide +kernel
theorem dX1_add_151 : decode cX1_add 151 = .ok (.putfield 20, 3) := by decide +kernel
theorem dX1_add_154 : decode cX1_add 154 = .ok (.aload_n 0, 1) := by decide +kernel
theorem dX1_add_155 : decode cX1_add 155 = .ok (.getfield 20, 3) := by decide +kernel
theorem dX1_add_158 : decode cX1_add 158 = .ok (.ireturn, 1) := by decide +kernel
set_option maxRecDepth 20000 in
theorem ggX1_some_X1_add : GoodIn wsX1_some wsX1_add := goodIn_r _ [5, 6, 7, 8, 9, 10, 11, 12, 4, 13, 14, 15, 16, 17, 18, 19, 20, 21] (by decide +kernel) (by decide +kernel)
set_option maxRecDepth 20000 in
theorem gX1_some_X1_add : GoodIn wsX1_some (wsV RX1 32 RX1 yX1_add wsX1_add) := goodIn_app (goodIn_of _ (by decide +kernel)) ggX1_some_X1_add
theorem dX1_some_0 : decode cX1_some 0 = .ok (.iload 5, 2) := by decide +kernel
theorem dX1_some_2 : decode cX1_some 2 = .ok (.iconst 1, 1) := by decide +kernel
theorem dX1_some_3 : decode cX1_some 3 = .ok (.if_icmp .lt 15, 3) := by decide +kernel
theorem dX1_some_6 : decode cX1_some 6 = .ok (.iload 5, 2) := by decide +kernel
theorem dX1_some_8 : decode cX1_some 8 = .ok (.bipush 100, 2) := by decide +kernel
theorem dX1_some_10 : decode cX1_some 10 = .ok (.if_icmp .gt 8, 3) := by decide +kernel
theorem dX1_some_13 : decode cX1_some 13 = .ok (.iload 6, 2) := by decide +kernel
theorem dX1_some_15 : decode cX1_some 15 = .ok (.ifCond .ge 5, 3) := by decide +kernel
theorem dX1_some_18 : decode cX1_some 18 = .ok (.iconst (-1), 1) := by decide +kernel
theorem dX1_some_19 : decode cX1_some 19 = .ok (.ireturn, 1) := by decide +kernel
theorem dX1_some_20 : decode cX1_some 20 = .ok (.iconst 0, 1) := by decide +kernel
theorem dX1_some_21 : decode cX1_some 21 = .ok (.istore 7, 2) := by decide +kernel
theorem dX1_some_23 : decode cX1_some 23 = .ok (.iconst 0, 1) := by decide +kernel
theorem dX1_some_24 : decode cX1_some 24 = .ok (.istore 8, 2) := by decide +kernel
theorem dX1_some_26 : decode cX1_some 26 = .ok (.iload 8, 2) := by decide +kernel
theorem dX1_some_28 : decode cX1_some 28 = .ok (.iload 5, 2) := by decide +kernel
theorem dX1_some_30 : decode cX1_some 30 = .ok (.if_icmp .ge 33, 3) := by decide +kernel
theorem dX1_some_33 : decode cX1_some 33 = .ok (.aload_n 0, 1) := by decide +kernel
theorem dX1_some_34 : decode cX1_some 34 = .ok (.lload_n 1, 1) := by decide +kernel
theorem dX1_some_35 : decode cX1_some 35 = .ok (.iload 8, 2) := by decide +kernel
theorem dX1_some_37 : decode cX1_some 37 = .ok (.i2l, 1) := by decide +kernel
theorem dX1_some_38 : decode cX1_some 38 = .ok (.lload_n 3, 1) := by decide +kernel
theorem dX1_some_39 : decode cX1_some 39 = .ok (.lmul, 1) := by decide +kernel
theorem dX1_some_40 : decode cX1_some 40 = .ok (.ladd, 1) := by decide +kernel
theorem dX1_some_41 : decode cX1_some 41 = .ok (.iload 8, 2) := by decide +kernel
theorem dX1_some_43 : decode cX1_some 43 = .ok (.bipush 8, 2) := by decide +kernel
theorem dX1_some_45 : decode cX1_some 45 = .ok (.irem, 1) := by decide +kernel
theorem dX1_some_46 : decode cX1_some 46 = .ok (.iload 6, 2) := by decide +kernel
theorem dX1_some_48 : decode cX1_some 48 = .ok (.invokevirtual 32, 3) := by decide +kernel
theorem dX1_some_51 : decode cX1_some 51 = .ok (.ifCond .le 6, 3) := by decide +kernel
theorem dX1_some_54 : decode cX1_some 54 = .ok (.iinc 7 1, 3) := by decide +kernel
theorem dX1_some_57 : decode cX1_some 57 = .ok (.iinc 8 1, 3) := by decide +kernel
theorem dX1_some_60 : decode cX1_some 60 = .ok (.goto (-34), 3) := by decide +kernel
theorem dX1_some_63 : decode cX1_some 63 = .ok (.iload 7, 2) := by decide +kernel
theorem dX1_some_65 : decode cX1_some 65 = .ok (.ireturn, 1) := by decide +kernel
theorem dX1_go_0 : decode cX1_go 0 = .ok (.aload_n 0, 1) := by decide +kernel
theorem dX1_go_1 : decode cX1_go 1 = .ok (.getfield 17, 3) := by decide +kernel
theorem dX1_go_4 : decode cX1_go 4 = .ok (.iload_n 1, 1) := by decide +kernel
theorem dX1_go_5 : decode cX1_go 5 = .ok (.iaload, 1) := by decide +kernel
theorem dX1_go_6 : decode cX1_go 6 = .ok (.istore_n 2, 1) := by decide +kernel
theorem dX1_go_7 : decode cX1_go 7 = .ok (.aload_n 0, 1) := by decide +kernel
theorem dX1_go_8 : decode cX1_go 8 = .ok (.dup, 1) := by decide +kernel
theorem dX1_go_9 : decode cX1_go 9 = .ok (.getfield 20, 3) := by decide +kernel
theorem dX1_go_12 : decode cX1_go 12 = .ok (.iconst 1, 1) := by decide +kernel
theorem dX1_go_13 : decode cX1_go 13 = .ok (.isub, 1) := by decide +kernel
theorem dX1_go_14 : decode cX1_go 14 = .ok (.putfield 20, 3) := by decide +kernel
theorem dX1_go_17 : decode cX1_go 17 = .ok (.iload_n 1, 1) := by decide +kernel
theorem dX1_go_18 : decode cX1_go 18 = .ok (.istore_n 3, 1) := by decide +kernel
theorem dX1_go_19 : decode cX1_go 19 = .ok (.iload_n 3, 1) := by decide +kernel
theorem dX1_go_20 : decode cX1_go 20 = .ok (.aload_n 0, 1) := by decide +kernel
theorem dX1_go_21 : decode cX1_go 21 = .ok (.getfield 20, 3) := by decide +kernel
theorem dX1_go_24 : decode cX1_go 24 = .ok (.if_icmp .ge 51, 3) := by decide +kernel
theorem dX1_go_27 : decode cX1_go 27 = .ok (.aload_n 0, 1) := by decide +kernel
theorem dX1_go_28 : decode cX1_go 28 = .ok (.getfield 9, 3) := by decide +kernel
theorem dX1_go_31 : decode cX1_go 31 = .ok (.iload_n 3, 1) := by decide +kernel
theorem dX1_go_32 : decode cX1_go 32 = .ok (.aload_n 0, 1) := by decide +kernel
theorem dX1_go_33 : decode cX1_go 33 = .ok (.getfield 9, 3) := by decide +kernel
theorem dX1_go_36 : decode cX1_go 36 = .ok (.iload_n 3, 1) := by decide +kernel
theorem dX1_go_37 : decode cX1_go 37 = .ok (.iconst 1, 1) := by decide +kernel
theorem dX1_go_38 : decode cX1_go 38 = .ok (.iadd, 1) := by decide +kernel
theorem dX1_go_39 : decode cX1_go 39 = .ok (.laload, 1) := by decide +kernel
theorem dX1_go_40 : decode cX1_go 40 = .ok (.lastore, 1) := by decide +kernel
theorem dX1_go_41 : decode cX1_go 41 = .ok (.aload_n 0, 1) := by decide +kernel
theorem dX1_go_42 : decode cX1_go 42 = .ok (.getfield 13, 3) := by decide +kernel
theorem dX1_go_45 : decode cX1_go 45 = .ok (.iload_n 3, 1) := by decide +kernel
theorem dX1_go_46 : decode cX1_go 46 = .ok (.aload_n 0, 1) := by decide +kernel
theorem dX1_go_47 : decode cX1_go 47 = .ok (.getfield 13, 3) := by decide +kernel
theorem dX1_go_50 : decode cX1_go 50 = .ok (.iload_n 3, 1) := by decide +kernel
theorem dX1_go_51 : decode cX1_go 51 = .ok (.iconst 1, 1) := by decide +kernel
theorem dX1_go_52 : decode cX1_go 52 = .ok (.iadd, 1) := by decide +kernel
theorem dX1_go_53 : decode cX1_go 53 = .ok (.iaload, 1) := by decide +kernel
theorem dX1_go_54 : decode cX1_go 54 = .ok (.iastore, 1) := by decide +kernel
theorem dX1_go_55 : decode cX1_go 55 = .ok (.aload_n 0, 1) := by decide +kernel
theorem dX1_go_56 : decode cX1_go 56 = .ok (.getfield 17, 3) := by decide +kernel
theorem dX1_go_59 : decode cX1_go 59 = .ok (.iload_n 3, 1) := by decide +kernel
theorem dX1_go_60 : decode cX1_go 60 = .ok (.aload_n 0, 1) := by decide +kernel
theorem dX1_go_61 : decode cX1_go 61 = .ok (.getfield 17, 3) := by decide +kernel
theorem dX1_go_64 : decode cX1_go 64 = .ok (.iload_n 3, 1) := by decide +kernel
theorem dX1_go_65 : decode cX1_go 65 = .ok (.iconst 1, 1) := by decide +kernel
theorem dX1_go_66 : decode cX1_go 66 = .ok (.iadd, 1) := by decide +kernel
theorem dX1_go_67 : decode cX1_go 67 = .ok (.iaload, 1) := by decide +kernel
theorem dX1_go_68 : decode cX1_go 68 = .ok (.iastore, 1) := by decide +kernel
theorem dX1_go_69 : decode cX1_go 69 = .ok (.iinc 3 1, 3) := by decide +kernel
theorem dX1_go_72 : decode cX1_go 72 = .ok (.goto (-53), 3) := by decide +kernel
theorem dX1_go_75 : decode cX1_go 75 = .ok (.iload_n 2, 1) := by decide +kernel
theorem dX1_go_76 : decode cX1_go 76 = .ok (.ireturn, 1) := by decide +kernel
set_option maxRecDepth 20000 in
theorem ggX1_remove_X1_place : GoodIn wsX1_remove wsX1_place := goodIn_r _ [5, 6, 7, 8, 18, 19, 20, 21] (by decide +kernel) (by decide +kernel)
set_option maxRecDepth 20000 in
theorem gX1_remove_X1_place : GoodIn wsX1_remove (wsV RX1 24 RX1 yX1_place wsX1_place) := goodIn_app (goodIn_of _ (by decide +kernel)) ggX1_remove_X1_place
set_option maxRecDepth 20000 in
theorem ggX1_remove_X1_is : GoodIn wsX1_remove wsX1_is := goodIn_r _ [12, 6, 7, 8, 18, 19, 20, 21] (by decide +kernel) (by decide +kernel)
set_option maxRecDepth 20000 in
theorem gX1_remove_X1_is : GoodIn wsX1_remove (wsV RX1 28 RX1 yX1_is wsX1_is) := goodIn_app (goodIn_of _ (by decide +kernel)) ggX1_remove_X1_is
set_option maxRecDepth 20000 in
theorem ggX1_remove_X1_go : GoodIn wsX1_remove wsX1_go := goodIn_r _ [16, 17, 6, 7, 8, 18, 19, 20, 21] (by decide +kernel) (by decide +kernel)
set_option maxRecDepth 20000 in
theorem gX1_remove_X1_go : GoodIn wsX1_remove (wsV RX1 36 RX1 yX1_go wsX1_go) := goodIn_app (goodIn_of _ (by decide +kernel)) ggX1_remove_X1_go
theorem dX1_remove_0 : decode cX1_remove 0 = .ok (.iload_n 3, 1) := by decide +kernel
theorem dX1_remove_1 : decode cX1_remove 1 = .ok (.ifCond .lt 9, 3) := by decide +kernel
theorem dX1_remove_4 : decode cX1_remove 4 = .ok (.iload_n 3, 1) := by decide +kernel
theorem dX1_remove_5 : decode cX1_remove 5 = .ok (.bipush 7, 2) := by decide +kernel
theorem dX1_remove_7 : decode cX1_remove 7 = .ok (.if_icmp .le 5, 3) := by decide +kernel
theorem dX1_remove_10 : decode cX1_remove 10 = .ok (.iconst (-1), 1) := by decide +kernel
theorem dX1_remove_11 : decode cX1_remove 11 = .ok (.ireturn, 1) := by decide +kernel
theorem dX1_remove_12 : decode cX1_remove 12 = .ok (.aload_n 0, 1) := by decide +kernel
theorem dX1_remove_13 : decode cX1_remove 13 = .ok (.lload_n 1, 1) := by decide +kernel
theorem dX1_remove_14 : decode cX1_remove 14 = .ok (.iload_n 3, 1) := by decide +kernel
theorem dX1_remove_15 : decode cX1_remove 15 = .ok (.invokevirtual 24, 3) := by decide +kernel
theorem dX1_remove_18 : decode cX1_remove 18 = .ok (.istore 4, 2) := by decide +kernel
theorem dX1_remove_20 : decode cX1_remove 20 = .ok (.aload_n 0, 1) := by decide +kernel
theorem dX1_remove_21 : decode cX1_remove 21 = .ok (.iload 4, 2) := by decide +kernel
theorem dX1_remove_23 : decode cX1_remove 23 = .ok (.lload_n 1, 1) := by decide +kernel
theorem dX1_remove_24 : decode cX1_remove 24 = .ok (.iload_n 3, 1) := by decide +kernel
theorem dX1_remove_25 : decode cX1_remove 25 = .ok (.invokevirtual 28, 3) := by decide +kernel
theorem dX1_remove_28 : decode cX1_remove 28 = .ok (.ifCond .eq 12, 3) := by decide +kernel
theorem dX1_remove_31 : decode cX1_remove 31 = .ok (.aload_n 0, 1) := by decide +kernel
theorem dX1_remove_32 : decode cX1_remove 32 = .ok (.iload 4, 2) := by decide +kernel
theorem dX1_remove_34 : decode cX1_remove 34 = .ok (.invokevirtual 36, 3) := by decide +kernel
theorem dX1_remove_37 : decode cX1_remove 37 = .ok (.goto 5, 3) := by decide +kernel
theorem dX1_remove_40 : decode cX1_remove 40 = .ok (.bipush (-2), 2) := by decide +kernel
theorem dX1_remove_42 : decode cX1_remove 42 = .ok (.ireturn, 1) := by decide +kernel
set_option maxRecDepth 20000 in
theorem ggX1_take_X1_go : GoodIn wsX1_take wsX1_go := goodIn_r _ [6, 7, 1, 8, 9, 10, 11, 12, 13] (by decide +kernel) (by decide +kernel)
set_option maxRecDepth 20000 in
theorem gX1_take_X1_go : GoodIn wsX1_take (wsV RX1 36 RX1 yX1_go wsX1_go) := goodIn_app (goodIn_of _ (by decide +kernel)) ggX1_take_X1_go
theorem dX1_take_0 : decode cX1_take 0 = .ok (.iload_n 1, 1) := by decide +kernel
theorem dX1_take_1 : decode cX1_take 1 = .ok (.ifCond .lt 11, 3) := by decide +kernel
theorem dX1_take_4 : decode cX1_take 4 = .ok (.iload_n 1, 1) := by decide +kernel
theorem dX1_take_5 : decode cX1_take 5 = .ok (.aload_n 0, 1) := by decide +kernel
theorem dX1_take_6 : decode cX1_take 6 = .ok (.getfield 20, 3) := by decide +kernel
theorem dX1_take_9 : decode cX1_take 9 = .ok (.if_icmp .lt 8, 3) := by decide +kernel
theorem dX1_take_12 : decode cX1_take 12 = .ok (.bipush (-2), 2) := by decide +kernel
theorem dX1_take_14 : decode cX1_take 14 = .ok (.goto 8, 3) := by decide +kernel
theorem dX1_take_17 : decode cX1_take 17 = .ok (.aload_n 0, 1) := by decide +kernel
theorem dX1_take_18 : decode cX1_take 18 = .ok (.iload_n 1, 1) := by decide +kernel
theorem dX1_take_19 : decode cX1_take 19 = .ok (.invokevirtual 36, 3) := by decide +kernel
theorem dX1_take_22 : decode cX1_take 22 = .ok (.ireturn, 1) := by decide +kernel
set_option maxRecDepth 20000 in
theorem ggX1_get_X1_place : GoodIn wsX1_get wsX1_place := goodIn_r _ [6, 7, 8, 9, 14, 15, 16, 17] (by decide +kernel) (by decide +kernel)
set_option maxRecDepth 20000 in
theorem gX1_get_X1_place : GoodIn wsX1_get (wsV RX1 24 RX1 yX1_place wsX1_place) := goodIn_app (goodIn_of _ (by decide +kernel)) ggX1_get_X1_place
set_option maxRecDepth 20000 in
theorem ggX1_get_X1_is : GoodIn wsX1_get wsX1_is := goodIn_r _ [13, 7, 8, 9, 14, 15, 16, 17] (by decide +kernel) (by decide +kernel)
set_option maxRecDepth 20000 in
theorem gX1_get_X1_is : GoodIn wsX1_get (wsV RX1 28 RX1 yX1_is wsX1_is) := goodIn_app (goodIn_of _ (by decide +kernel)) ggX1_get_X1_is
theorem dX1_get_0 : decode cX1_get 0 = .ok (.iload_n 3, 1) := by decide +kernel
theorem dX1_get_1 : decode cX1_get 1 = .ok (.ifCond .lt 9, 3) := by decide +kernel
theorem dX1_get_4 : decode cX1_get 4 = .ok (.iload_n 3, 1) := by decide +kernel
theorem dX1_get_5 : decode cX1_get 5 = .ok (.bipush 7, 2) := by decide +kernel
theorem dX1_get_7 : decode cX1_get 7 = .ok (.if_icmp .le 5, 3) := by decide +kernel
theorem dX1_get_10 : decode cX1_get 10 = .ok (.iconst (-1), 1) := by decide +kernel
theorem dX1_get_11 : decode cX1_get 11 = .ok (.ireturn, 1) := by decide +kernel
theorem dX1_get_12 : decode cX1_get 12 = .ok (.aload_n 0, 1) := by decide +kernel
theorem dX1_get_13 : decode cX1_get 13 = .ok (.lload_n 1, 1) := by decide +kernel
theorem dX1_get_14 : decode cX1_get 14 = .ok (.iload_n 3, 1) := by decide +kernel
theorem dX1_get_15 : decode cX1_get 15 = .ok (.invokevirtual 24, 3) := by decide +kernel
theorem dX1_get_18 : decode cX1_get 18 = .ok (.istore 4, 2) := by decide +kernel
theorem dX1_get_20 : decode cX1_get 20 = .ok (.aload_n 0, 1) := by decide +kernel
theorem dX1_get_21 : decode cX1_get 21 = .ok (.iload 4, 2) := by decide +kernel
theorem dX1_get_23 : decode cX1_get 23 = .ok (.lload_n 1, 1) := by decide +kernel
theorem dX1_get_24 : decode cX1_get 24 = .ok (.iload_n 3, 1) := by decide +kernel
theorem dX1_get_25 : decode cX1_get 25 = .ok (.invokevirtual 28, 3) := by decide +kernel
theorem dX1_get_28 : decode cX1_get 28 = .ok (.ifCond .eq 13, 3) := by decide +kernel
theorem dX1_get_31 : decode cX1_get 31 = .ok (.aload_n 0, 1) := by decide +kernel
theorem dX1_get_32 : decode cX1_get 32 = .ok (.getfield 17, 3) := by decide +kernel
theorem dX1_get_35 : decode cX1_get 35 = .ok (.iload 4, 2) := by decide +kernel
theorem dX1_get_37 : decode cX1_get 37 = .ok (.iaload, 1) := by decide +kernel
theorem dX1_get_38 : decode cX1_get 38 = .ok (.goto 5, 3) := by decide +kernel
theorem dX1_get_41 : decode cX1_get 41 = .ok (.bipush (-2), 2) := by decide +kernel
theorem dX1_get_43 : decode cX1_get 43 = .ok (.ireturn, 1) := by decide +kernel
theorem dX1_name_0 : decode cX1_name 0 = .ok (.iload_n 1, 1) := by decide +kernel
theorem dX1_name_1 : decode cX1_name 1 = .ok (.ifCond .lt 11, 3) := by decide +kernel
theorem dX1_name_4 : decode cX1_name 4 = .ok (.iload_n 1, 1) := by decide +kernel
theorem dX1_name_5 : decode cX1_name 5 = .ok (.aload_n 0, 1) := by decide +kernel
theorem dX1_name_6 : decode cX1_name 6 = .ok (.getfield 20, 3) := by decide +kernel
theorem dX1_name_9 : decode cX1_name 9 = .ok (.if_icmp .lt 7, 3) := by decide +kernel
theorem dX1_name_12 : decode cX1_name 12 = .ok (.lconst 0, 1) := by decide +kernel
theorem dX1_name_13 : decode cX1_name 13 = .ok (.goto 9, 3) := by decide +kernel
theorem dX1_name_16 : decode cX1_name 16 = .ok (.aload_n 0, 1) := by decide +kernel
theorem dX1_name_17 : decode cX1_name 17 = .ok (.getfield 9, 3) := by decide +kernel
theorem dX1_name_20 : decode cX1_name 20 = .ok (.iload_n 1, 1) := by decide +kernel
theorem dX1_name_21 : decode cX1_name 21 = .ok (.laload, 1) := by decide +kernel
theorem dX1_name_22 : decode cX1_name 22 = .ok (.lreturn, 1) := by decide +kernel
theorem dX1_index_0 : decode cX1_index 0 = .ok (.iload_n 1, 1) := by decide +kernel
theorem dX1_index_1 : decode cX1_index 1 = .ok (.ifCond .lt 11, 3) := by decide +kernel
theorem dX1_index_4 : decode cX1_index 4 = .ok (.iload_n 1, 1) := by decide +kernel
theorem dX1_index_5 : decode cX1_index 5 = .ok (.aload_n 0, 1) := by decide +kernel
theorem dX1_index_6 : decode cX1_index 6 = .ok (.getfield 20, 3) := by decide +kernel
theorem dX1_index_9 : decode cX1_index 9 = .ok (.if_icmp .lt 8, 3) := by decide +kernel
theorem dX1_index_12 : decode cX1_index 12 = .ok (.bipush (-2), 2) := by decide +kernel
theorem dX1_index_14 : decode cX1_index 14 = .ok (.goto 9, 3) := by decide +kernel
theorem dX1_index_17 : decode cX1_index 17 = .ok (.aload_n 0, 1) := by decide +kernel
theorem dX1_index_18 : decode cX1_index 18 = .ok (.getfield 13, 3) := by decide +kernel
theorem dX1_index_21 : decode cX1_index 21 = .ok (.iload_n 1, 1) := by decide +kernel
theorem dX1_index_22 : decode cX1_index 22 = .ok (.iaload, 1) := by decide +kernel
theorem dX1_index_23 : decode cX1_index 23 = .ok (.ireturn, 1) := by decide +kernel
theorem dX1_many_0 : decode cX1_many 0 = .ok (.aload_n 0, 1) := by decide +kernel
theorem dX1_many_1 : decode cX1_many 1 = .ok (.getfield 20, 3) := by decide +kernel
theorem dX1_many_4 : decode cX1_many 4 = .ok (.ireturn, 1) := by decide +kernel
theorem dX1_value_0 : decode cX1_value 0 = .ok (.lconst 0, 1) := by decide +kernel
theorem dX1_value_1 : decode cX1_value 1 = .ok (.lstore_n 1, 1) := by decide +kernel
theorem dX1_value_2 : decode cX1_value 2 = .ok (.iconst 0, 1) := by decide +kernel
theorem dX1_value_3 : decode cX1_value 3 = .ok (.istore_n 3, 1) := by decide +kernel
theorem dX1_value_4 : decode cX1_value 4 = .ok (.iload_n 3, 1) := by decide +kernel
theorem dX1_value_5 : decode cX1_value 5 = .ok (.aload_n 0, 1) := by decide +kernel
theorem dX1_value_6 : decode cX1_value 6 = .ok (.getfield 20, 3) := by decide +kernel
theorem dX1_value_9 : decode cX1_value 9 = .ok (.if_icmp .ge 19, 3) := by decide +kernel
theorem dX1_value_12 : decode cX1_value 12 = .ok (.lload_n 1, 1) := by decide +kernel
theorem dX1_value_13 : decode cX1_value 13 = .ok (.aload_n 0, 1) := by decide +kernel
theorem dX1_value_14 : decode cX1_value 14 = .ok (.getfield 17, 3) := by decide +kernel
theorem dX1_value_17 : decode cX1_value 17 = .ok (.iload_n 3, 1) := by decide +kernel
theorem dX1_value_18 : decode cX1_value 18 = .ok (.iaload, 1) := by decide +kernel
theorem dX1_value_19 : decode cX1_value 19 = .ok (.i2l, 1) := by decide +kernel
theorem dX1_value_20 : decode cX1_value 20 = .ok (.ladd, 1) := by decide +kernel
theorem dX1_value_21 : decode cX1_value 21 = .ok (.lstore_n 1, 1) := by decide +kernel
theorem dX1_value_22 : decode cX1_value 22 = .ok (.iinc 3 1, 3) := by decide +kernel
theorem dX1_value_25 : decode cX1_value 25 = .ok (.goto (-21), 3) := by decide +kernel
theorem dX1_value_28 : decode cX1_value 28 = .ok (.lload_n 1, 1) := by decide +kernel
theorem dX1_value_29 : decode cX1_value 29 = .ok (.lreturn, 1) := by decide +kernel
set_option maxRecDepth 20000 in
theorem ggL_law_X0_init : GoodIn wsL_law wsX0_init := goodIn_r _ [9, 10, 11, 12, 13, 14, 15, 16, 17, 18, 148, 149, 150, 151] (by decide +kernel) (by decide +kernel)
set_option maxRecDepth 20000 in
theorem gL_law_X0_init : GoodIn wsL_law (wsX0_init) := ggL_law_X0_init
set_option maxRecDepth 20000 in
theorem ggL_law_X1_init : GoodIn wsL_law wsX1_init := goodIn_r _ [21, 22, 11, 12, 13, 23, 15, 24, 25, 152, 153, 154, 155] (by decide +kernel) (by decide +kernel)
set_option maxRecDepth 20000 in
theorem gL_law_X1_init : GoodIn wsL_law (wsX1_init) := ggL_law_X1_init
set_option maxRecDepth 20000 in
theorem ggL_law_X0_add : GoodIn wsL_law wsX0_add := goodIn_r _ [29, 18, 30, 31, 2, 32, 33, 34, 35, 36, 37, 38, 39, 40, 14, 16, 41, 42, 43, 44, 45, 46, 47, 48, 49, 50, 51, 52, 17, 53, 54, 55, 56, 57, 58, 59, 60, 148, 149, 150, 151] (by decide +kernel) (by decide +kernel)
set_option maxRecDepth 20000 in
theorem gL_law_X0_add : GoodIn wsL_law (wsV RL 15 RX0 yX0_add wsX0_add) := goodIn_app (goodIn_of _ (by decide +kernel)) ggL_law_X0_add
set_option maxRecDepth 20000 in
theorem ggL_law_X1_add : GoodIn wsL_law wsX1_add := goodIn_r _ [64, 65, 23, 24, 25, 66, 67, 68, 5, 69, 70, 71, 72, 73, 152, 153, 154, 155] (by decide +kernel) (by decide +kernel)
set_option maxRecDepth 20000 in
theorem gL_law_X1_add : GoodIn wsL_law (wsV RL 19 RX1 yX1_add wsX1_add) := goodIn_app (goodIn_of _ (by decide +kernel)) ggL_law_X1_add
set_option maxRecDepth 20000 in
theorem ggL_law_X0_some : GoodIn wsL_law wsX0_some := goodIn_r _ [77, 18, 78, 27, 28, 2, 29, 30, 31, 32, 33, 34, 35, 36, 37, 38, 39, 40, 14, 16, 41, 42, 43, 44, 45, 46, 47, 48, 49, 50, 51, 52, 17, 53, 54, 55, 56, 57, 58, 59, 60, 148, 149, 150, 151] (by decide +kernel) (by decide +kernel)
set_option maxRecDepth 20000 in
theorem gL_law_X0_some : GoodIn wsL_law (wsV RL 20 RX0 yX0_some wsX0_some) := goodIn_app (goodIn_of _ (by decide +kernel)) ggL_law_X0_some
set_option maxRecDepth 20000 in
theorem ggL_law_X1_some : GoodIn wsL_law wsX1_some := goodIn_r _ [82, 83, 62, 63, 5, 64, 65, 23, 24, 25, 66, 67, 68, 69, 70, 71, 72, 73, 152, 153, 154, 155] (by decide +kernel) (by decide +kernel)
set_option maxRecDepth 20000 in
theorem gL_law_X1_some : GoodIn wsL_law (wsV RL 24 RX1 yX1_some wsX1_some) := goodIn_app (goodIn_of _ (by decide +kernel)) ggL_law_X1_some
set_option maxRecDepth 20000 in
theorem ggL_law_X0_remove : GoodIn wsL_law wsX0_remove := goodIn_r _ [87, 30, 31, 2, 32, 33, 34, 35, 36, 18, 37, 38, 39, 40, 14, 16, 41, 42, 43, 44, 45, 46, 47, 48, 88, 89, 90, 91, 17, 53, 54, 55, 56, 57, 58, 59, 60, 148, 149, 150, 151] (by decide +kernel) (by decide +kernel)
set_option maxRecDepth 20000 in
theorem gL_law_X0_remove : GoodIn wsL_law (wsV RL 25 RX0 yX0_remove wsX0_remove) := goodIn_app (goodIn_of _ (by decide +kernel)) ggL_law_X0_remove
set_option maxRecDepth 20000 in
theorem ggL_law_X1_remove : GoodIn wsL_law wsX1_remove := goodIn_r _ [95, 66, 67, 68, 5, 69, 65, 23, 24, 70, 71, 72, 73, 96, 97, 98, 99, 25, 152, 153, 154, 155] (by decide +kernel) (by decide +kernel)
set_option maxRecDepth 20000 in
theorem gL_law_X1_remove : GoodIn wsL_law (wsV RL 29 RX1 yX1_remove wsX1_remove) := goodIn_app (goodIn_of _ (by decide +kernel)) ggL_law_X1_remove
set_option maxRecDepth 20000 in
theorem ggL_law_X0_take : GoodIn wsL_law wsX0_take := goodIn_r _ [103, 45, 46, 47, 2, 48, 18, 88, 89, 90, 91, 17, 53, 54, 55, 56, 14, 57, 58, 59, 60, 16, 148, 149, 150, 151] (by decide +kernel) (by decide +kernel)
set_option maxRecDepth 20000 in
theorem gL_law_X0_take : GoodIn wsL_law (wsV RL 30 RX0 yX0_take wsX0_take) := goodIn_app (goodIn_of _ (by decide +kernel)) ggL_law_X0_take
set_option maxRecDepth 20000 in
theorem ggL_law_X1_take : GoodIn wsL_law wsX1_take := goodIn_r _ [107, 65, 96, 97, 98, 5, 99, 25, 23, 24, 152, 153, 154, 155] (by decide +kernel) (by decide +kernel)
set_option maxRecDepth 20000 in
theorem gL_law_X1_take : GoodIn wsL_law (wsV RL 34 RX1 yX1_take wsX1_take) := goodIn_app (goodIn_of _ (by decide +kernel)) ggL_law_X1_take
set_option maxRecDepth 20000 in
theorem ggL_law_X0_get : GoodIn wsL_law wsX0_get := goodIn_r _ [111, 17, 30, 31, 2, 32, 33, 34, 35, 36, 18, 37, 38, 39, 40, 14, 16, 41, 42, 43, 44, 45, 46, 47, 48, 148, 149, 150, 151] (by decide +kernel) (by decide +kernel)
set_option maxRecDepth 20000 in
theorem gL_law_X0_get : GoodIn wsL_law (wsV RL 35 RX0 yX0_get wsX0_get) := goodIn_app (goodIn_of _ (by decide +kernel)) ggL_law_X0_get
set_option maxRecDepth 20000 in
theorem ggL_law_X1_get : GoodIn wsL_law wsX1_get := goodIn_r _ [115, 25, 66, 67, 68, 5, 69, 65, 23, 24, 70, 71, 72, 73, 152, 153, 154, 155] (by decide +kernel) (by decide +kernel)
set_option maxRecDepth 20000 in
theorem gL_law_X1_get : GoodIn wsL_law (wsV RL 38 RX1 yX1_get wsX1_get) := goodIn_app (goodIn_of _ (by decide +kernel)) ggL_law_X1_get
set_option maxRecDepth 20000 in
theorem ggL_law_X0_name : GoodIn wsL_law wsX0_name := goodIn_r _ [119, 14, 45, 46, 47, 2, 48, 18, 148, 149, 150, 151] (by decide +kernel) (by decide +kernel)
set_option maxRecDepth 20000 in
theorem gL_law_X0_name : GoodIn wsL_law (wsV RL 39 RX0 yX0_name wsX0_name) := goodIn_app (goodIn_of _ (by decide +kernel)) ggL_law_X0_name
set_option maxRecDepth 20000 in
theorem ggL_law_X1_name : GoodIn wsL_law wsX1_name := goodIn_r _ [123, 65, 23, 152, 153, 154, 155] (by decide +kernel) (by decide +kernel)
set_option maxRecDepth 20000 in
theorem gL_law_X1_name : GoodIn wsL_law (wsV RL 43 RX1 yX1_name wsX1_name) := goodIn_app (goodIn_of _ (by decide +kernel)) ggL_law_X1_name
set_option maxRecDepth 20000 in
theorem ggL_law_X0_index : GoodIn wsL_law wsX0_index := goodIn_r _ [127, 16, 45, 46, 47, 2, 48, 18, 148, 149, 150, 151] (by decide +kernel) (by decide +kernel)
set_option maxRecDepth 20000 in
theorem gL_law_X0_index : GoodIn wsL_law (wsV RL 44 RX0 yX0_index wsX0_index) := goodIn_app (goodIn_of _ (by decide +kernel)) ggL_law_X0_index
set_option maxRecDepth 20000 in
theorem ggL_law_X1_index : GoodIn wsL_law wsX1_index := goodIn_r _ [131, 65, 24, 152, 153, 154, 155] (by decide +kernel) (by decide +kernel)
set_option maxRecDepth 20000 in
theorem gL_law_X1_index : GoodIn wsL_law (wsV RL 47 RX1 yX1_index wsX1_index) := goodIn_app (goodIn_of _ (by decide +kernel)) ggL_law_X1_index
set_option maxRecDepth 20000 in
theorem ggL_law_X0_many : GoodIn wsL_law wsX0_many := goodIn_r _ [135, 18, 148, 149, 150, 151] (by decide +kernel) (by decide +kernel)
set_option maxRecDepth 20000 in
theorem gL_law_X0_many : GoodIn wsL_law (wsV RL 48 RX0 yX0_many wsX0_many) := goodIn_app (goodIn_of _ (by decide +kernel)) ggL_law_X0_many
set_option maxRecDepth 20000 in
theorem ggL_law_X1_many : GoodIn wsL_law wsX1_many := goodIn_r _ [139, 65, 152, 153, 154, 155] (by decide +kernel) (by decide +kernel)
set_option maxRecDepth 20000 in
theorem gL_law_X1_many : GoodIn wsL_law (wsV RL 52 RX1 yX1_many wsX1_many) := goodIn_app (goodIn_of _ (by decide +kernel)) ggL_law_X1_many
set_option maxRecDepth 20000 in
theorem ggL_law_X0_value : GoodIn wsL_law wsX0_value := goodIn_r _ [143, 18, 17, 148, 149, 150, 151] (by decide +kernel) (by decide +kernel)
set_option maxRecDepth 20000 in
theorem gL_law_X0_value : GoodIn wsL_law (wsV RL 53 RX0 yX0_value wsX0_value) := goodIn_app (goodIn_of _ (by decide +kernel)) ggL_law_X0_value
set_option maxRecDepth 20000 in
theorem ggL_law_X1_value : GoodIn wsL_law wsX1_value := goodIn_r _ [147, 65, 25, 152, 153, 154, 155] (by decide +kernel) (by decide +kernel)
set_option maxRecDepth 20000 in
theorem gL_law_X1_value : GoodIn wsL_law (wsV RL 57 RX1 yX1_value wsX1_value) := goodIn_app (goodIn_of _ (by decide +kernel)) ggL_law_X1_value
abbrev vwCl : List vw_C := [(RX0, TX0, 4), (RX1, TX1, 4)]
end
section
theorem dL_law_0 : decode cL_law 0 = .ok (.new 7, 3) := by decide +kernel
theorem dL_law_3 : decode cL_law 3 = .ok (.dup, 1) := by decide +kernel
theorem dL_law_4 : decode cL_law 4 = .ok (.invokespecial 9, 3) := by decide +kernel
theorem dL_law_7 : decode cL_law 7 = .ok (.astore_n 1, 1) := by decide +kernel
theorem dL_law_8 : decode cL_law 8 = .ok (.new 10, 3) := by decide +kernel
theorem dL_law_11 : decode cL_law 11 = .ok (.dup, 1) := by decide +kernel
theorem dL_law_12 : decode cL_law 12 = .ok (.invokespecial 12, 3) := by decide +kernel
theorem dL_law_15 : decode cL_law 15 = .ok (.astore_n 2, 1) := by decide +kernel
theorem dL_law_16 : decode cL_law 16 = .ok (.iconst 0, 1) := by decide +kernel
theorem dL_law_17 : decode cL_law 17 = .ok (.istore_n 3, 1) := by decide +kernel
theorem dL_law_18 : decode cL_law 18 = .ok (.iload_n 3, 1) := by decide +kernel
theorem dL_law_19 : decode cL_law 19 = .ok (.aload_n 0, 1) := by decide +kernel
theorem dL_law_20 : decode cL_law 20 = .ok (.arraylength, 1) := by decide +kernel
theorem dL_law_21 : decode cL_law 21 = .ok (.bipush 7, 2) := by decide +kernel
theorem dL_law_23 : decode cL_law 23 = .ok (.isub, 1) := by decide +kernel
theorem dL_law_24 : decode cL_law 24 = .ok (.if_icmp .gt 477, 3) := by decide +kernel
theorem dL_law_27 : decode cL_law 27 = .ok (.aload_n 0, 1) := by decide +kernel
theorem dL_law_28 : decode cL_law 28 = .ok (.iload_n 3, 1) := by decide +kernel
theorem dL_law_29 : decode cL_law 29 = .ok (.iaload, 1) := by decide +kernel
theorem dL_law_30 : decode cL_law 30 = .ok (.bipush 15, 2) := by decide +kernel
theorem dL_law_32 : decode cL_law 32 = .ok (.iand, 1) := by decide +kernel
theorem dL_law_33 : decode cL_law 33 = .ok (.tableswitch 462 0 8 #[51, 124, 239, 302, 325, 388, 412, 435, 448], 51) := by decide +kernel
theorem dL_law_84 : decode cL_law 84 = .ok (.aload_n 1, 1) := by decide +kernel
theorem dL_law_85 : decode cL_law 85 = .ok (.aload_n 0, 1) := by decide +kernel
theorem dL_law_86 : decode cL_law 86 = .ok (.iload_n 3, 1) := by decide +kernel
theorem dL_law_87 : decode cL_law 87 = .ok (.iconst 1, 1) := by decide +kernel
theorem dL_law_88 : decode cL_law 88 = .ok (.iadd, 1) := by decide +kernel
theorem dL_law_89 : decode cL_law 89 = .ok (.iaload, 1) := by decide +kernel
theorem dL_law_90 : decode cL_law 90 = .ok (.i2l, 1) := by decide +kernel
theorem dL_law_91 : decode cL_law 91 = .ok (.bipush 32, 2) := by decide +kernel
theorem dL_law_93 : decode cL_law 93 = .ok (.lshl, 1) := by decide +kernel
theorem dL_law_94 : decode cL_law 94 = .ok (.aload_n 0, 1) := by decide +kernel
theorem dL_law_95 : decode cL_law 95 = .ok (.iload_n 3, 1) := by decide +kernel
theorem dL_law_96 : decode cL_law 96 = .ok (.iconst 2, 1) := by decide +kernel
theorem dL_law_97 : decode cL_law 97 = .ok (.iadd, 1) := by decide +kernel
theorem dL_law_98 : decode cL_law 98 = .ok (.iaload, 1) := by decide +kernel
theorem dL_law_99 : decode cL_law 99 = .ok (.i2l, 1) := by decide +kernel
theorem dL_law_100 : decode cL_law 100 = .ok (.ldc2_w 13, 3) := by decide +kernel
theorem dL_law_103 : decode cL_law 103 = .ok (.land, 1) := by decide +kernel
theorem dL_law_104 : decode cL_law 104 = .ok (.lor, 1) := by decide +kernel
theorem dL_law_105 : decode cL_law 105 = .ok (.aload_n 0, 1) := by decide +kernel
theorem dL_law_106 : decode cL_law 106 = .ok (.iload_n 3, 1) := by decide +kernel
theorem dL_law_107 : decode cL_law 107 = .ok (.iconst 3, 1) := by decide +kernel
theorem dL_law_108 : decode cL_law 108 = .ok (.iadd, 1) := by decide +kernel
theorem dL_law_109 : decode cL_law 109 = .ok (.iaload, 1) := by decide +kernel
theorem dL_law_110 : decode cL_law 110 = .ok (.aload_n 0, 1) := by decide +kernel
theorem dL_law_111 : decode cL_law 111 = .ok (.iload_n 3, 1) := by decide +kernel
theorem dL_law_112 : decode cL_law 112 = .ok (.iconst 4, 1) := by decide +kernel
theorem dL_law_113 : decode cL_law 113 = .ok (.iadd, 1) := by decide +kernel
theorem dL_law_114 : decode cL_law 114 = .ok (.iaload, 1) := by decide +kernel
theorem dL_law_115 : decode cL_law 115 = .ok (.invokevirtual 15, 3) := by decide +kernel
theorem dL_law_118 : decode cL_law 118 = .ok (.aload_n 2, 1) := by decide +kernel
theorem dL_law_119 : decode cL_law 119 = .ok (.aload_n 0, 1) := by decide +kernel
theorem dL_law_120 : decode cL_law 120 = .ok (.iload_n 3, 1) := by decide +kernel
theorem dL_law_121 : decode cL_law 121 = .ok (.iconst 1, 1) := by decide +kernel
theorem dL_law_122 : decode cL_law 122 = .ok (.iadd, 1) := by decide +kernel
theorem dL_law_123 : decode cL_law 123 = .ok (.iaload, 1) := by decide +kernel
theorem dL_law_124 : decode cL_law 124 = .ok (.i2l, 1) := by decide +kernel
theorem dL_law_125 : decode cL_law 125 = .ok (.bipush 32, 2) := by decide +kernel
theorem dL_law_127 : decode cL_law 127 = .ok (.lshl, 1) := by decide +kernel
theorem dL_law_128 : decode cL_law 128 = .ok (.aload_n 0, 1) := by decide +kernel
theorem dL_law_129 : decode cL_law 129 = .ok (.iload_n 3, 1) := by decide +kernel
theorem dL_law_130 : decode cL_law 130 = .ok (.iconst 2, 1) := by decide +kernel
theorem dL_law_131 : decode cL_law 131 = .ok (.iadd, 1) := by decide +kernel
theorem dL_law_132 : decode cL_law 132 = .ok (.iaload, 1) := by decide +kernel
theorem dL_law_133 : decode cL_law 133 = .ok (.i2l, 1) := by decide +kernel
theorem dL_law_134 : decode cL_law 134 = .ok (.ldc2_w 13, 3) := by decide +kernel
theorem dL_law_137 : decode cL_law 137 = .ok (.land, 1) := by decide +kernel
theorem dL_law_138 : decode cL_law 138 = .ok (.lor, 1) := by decide +kernel
theorem dL_law_139 : decode cL_law 139 = .ok (.aload_n 0, 1) := by decide +kernel
theorem dL_law_140 : decode cL_law 140 = .ok (.iload_n 3, 1) := by decide +kernel
theorem dL_law_141 : decode cL_law 141 = .ok (.iconst 3, 1) := by decide +kernel
theorem dL_law_142 : decode cL_law 142 = .ok (.iadd, 1) := by decide +kernel
theorem dL_law_143 : decode cL_law 143 = .ok (.iaload, 1) := by decide +kernel
theorem dL_law_144 : decode cL_law 144 = .ok (.aload_n 0, 1) := by decide +kernel
theorem dL_law_145 : decode cL_law 145 = .ok (.iload_n 3, 1) := by decide +kernel
theorem dL_law_146 : decode cL_law 146 = .ok (.iconst 4, 1) := by decide +kernel
theorem dL_law_147 : decode cL_law 147 = .ok (.iadd, 1) := by decide +kernel
theorem dL_law_148 : decode cL_law 148 = .ok (.iaload, 1) := by decide +kernel
theorem dL_law_149 : decode cL_law 149 = .ok (.invokevirtual 19, 3) := by decide +kernel
theorem dL_law_152 : decode cL_law 152 = .ok (.if_icmp .eq 343, 3) := by decide +kernel
theorem dL_law_155 : decode cL_law 155 = .ok (.iconst 0, 1) := by decide +kernel
theorem dL_law_156 : decode cL_law 156 = .ok (.ireturn, 1) := by decide +kernel
theorem dL_law_157 : decode cL_law 157 = .ok (.aload_n 1, 1) := by decide +kernel
theorem dL_law_158 : decode cL_law 158 = .ok (.aload_n 0, 1) := by decide +kernel
theorem dL_law_159 : decode cL_law 159 = .ok (.iload_n 3, 1) := by decide +kernel
theorem dL_law_160 : decode cL_law 160 = .ok (.iconst 1, 1) := by decide +kernel
theorem dL_law_161 : decode cL_law 161 = .ok (.iadd, 1) := by decide +kernel
theorem dL_law_162 : decode cL_law 162 = .ok (.iaload, 1) := by decide +kernel
theorem dL_law_163 : decode cL_law 163 = .ok (.i2l, 1) := by decide +kernel
theorem dL_law_164 : decode cL_law 164 = .ok (.bipush 32, 2) := by decide +kernel
theorem dL_law_166 : decode cL_law 166 = .ok (.lshl, 1) := by decide +kernel
theorem dL_law_167 : decode cL_law 167 = .ok (.aload_n 0, 1) := by decide +kernel
theorem dL_law_168 : decode cL_law 168 = .ok (.iload_n 3, 1) := by decide +kernel
theorem dL_law_169 : decode cL_law 169 = .ok (.iconst 2, 1) := by decide +kernel
theorem dL_law_170 : decode cL_law 170 = .ok (.iadd, 1) := by decide +kernel
theorem dL_law_171 : decode cL_law 171 = .ok (.iaload, 1) := by decide +kernel
theorem dL_law_172 : decode cL_law 172 = .ok (.i2l, 1) := by decide +kernel
theorem dL_law_173 : decode cL_law 173 = .ok (.ldc2_w 13, 3) := by decide +kernel
theorem dL_law_176 : decode cL_law 176 = .ok (.land, 1) := by decide +kernel
theorem dL_law_177 : decode cL_law 177 = .ok (.lor, 1) := by decide +kernel
theorem dL_law_178 : decode cL_law 178 = .ok (.aload_n 0, 1) := by decide +kernel
theorem dL_law_179 : decode cL_law 179 = .ok (.iload_n 3, 1) := by decide +kernel
theorem dL_law_180 : decode cL_law 180 = .ok (.iconst 3, 1) := by decide +kernel
theorem dL_law_181 : decode cL_law 181 = .ok (.iadd, 1) := by decide +kernel
theorem dL_law_182 : decode cL_law 182 = .ok (.iaload, 1) := by decide +kernel
theorem dL_law_183 : decode cL_law 183 = .ok (.i2l, 1) := by decide +kernel
theorem dL_law_184 : decode cL_law 184 = .ok (.bipush 32, 2) := by decide +kernel
theorem dL_law_186 : decode cL_law 186 = .ok (.lshl, 1) := by decide +kernel
theorem dL_law_187 : decode cL_law 187 = .ok (.aload_n 0, 1) := by decide +kernel
theorem dL_law_188 : decode cL_law 188 = .ok (.iload_n 3, 1) := by decide +kernel
theorem dL_law_189 : decode cL_law 189 = .ok (.iconst 4, 1) := by decide +kernel
theorem dL_law_190 : decode cL_law 190 = .ok (.iadd, 1) := by decide +kernel
theorem dL_law_191 : decode cL_law 191 = .ok (.iaload, 1) := by decide +kernel
theorem dL_law_192 : decode cL_law 192 = .ok (.i2l, 1) := by decide +kernel
theorem dL_law_193 : decode cL_law 193 = .ok (.ldc2_w 13, 3) := by decide +kernel
theorem dL_law_196 : decode cL_law 196 = .ok (.land, 1) := by decide +kernel
theorem dL_law_197 : decode cL_law 197 = .ok (.lor, 1) := by decide +kernel
theorem dL_law_198 : decode cL_law 198 = .ok (.aload_n 0, 1) := by decide +kernel
theorem dL_law_199 : decode cL_law 199 = .ok (.iload_n 3, 1) := by decide +kernel
theorem dL_law_200 : decode cL_law 200 = .ok (.iconst 5, 1) := by decide +kernel
theorem dL_law_201 : decode cL_law 201 = .ok (.iadd, 1) := by decide +kernel
theorem dL_law_202 : decode cL_law 202 = .ok (.iaload, 1) := by decide +kernel
theorem dL_law_203 : decode cL_law 203 = .ok (.aload_n 0, 1) := by decide +kernel
theorem dL_law_204 : decode cL_law 204 = .ok (.iload_n 3, 1) := by decide +kernel
theorem dL_law_205 : decode cL_law 205 = .ok (.bipush 6, 2) := by decide +kernel
theorem dL_law_207 : decode cL_law 207 = .ok (.iadd, 1) := by decide +kernel
theorem dL_law_208 : decode cL_law 208 = .ok (.iaload, 1) := by decide +kernel
theorem dL_law_209 : decode cL_law 209 = .ok (.invokevirtual 20, 3) := by decide +kernel
theorem dL_law_212 : decode cL_law 212 = .ok (.aload_n 2, 1) := by decide +kernel
theorem dL_law_213 : decode cL_law 213 = .ok (.aload_n 0, 1) := by decide +kernel
theorem dL_law_214 : decode cL_law 214 = .ok (.iload_n 3, 1) := by decide +kernel
theorem dL_law_215 : decode cL_law 215 = .ok (.iconst 1, 1) := by decide +kernel
theorem dL_law_216 : decode cL_law 216 = .ok (.iadd, 1) := by decide +kernel
theorem dL_law_217 : decode cL_law 217 = .ok (.iaload, 1) := by decide +kernel
theorem dL_law_218 : decode cL_law 218 = .ok (.i2l, 1) := by decide +kernel
theorem dL_law_219 : decode cL_law 219 = .ok (.bipush 32, 2) := by decide +kernel
theorem dL_law_221 : decode cL_law 221 = .ok (.lshl, 1) := by decide +kernel
theorem dL_law_222 : decode cL_law 222 = .ok (.aload_n 0, 1) := by decide +kernel
theorem dL_law_223 : decode cL_law 223 = .ok (.iload_n 3, 1) := by decide +kernel
theorem dL_law_224 : decode cL_law 224 = .ok (.iconst 2, 1) := by decide +kernel
theorem dL_law_225 : decode cL_law 225 = .ok (.iadd, 1) := by decide +kernel
theorem dL_law_226 : decode cL_law 226 = .ok (.iaload, 1) := by decide +kernel
theorem dL_law_227 : decode cL_law 227 = .ok (.i2l, 1) := by decide +kernel
theorem dL_law_228 : decode cL_law 228 = .ok (.ldc2_w 13, 3) := by decide +kernel
theorem dL_law_231 : decode cL_law 231 = .ok (.land, 1) := by decide +kernel
theorem dL_law_232 : decode cL_law 232 = .ok (.lor, 1) := by decide +kernel
theorem dL_law_233 : decode cL_law 233 = .ok (.aload_n 0, 1) := by decide +kernel
theorem dL_law_234 : decode cL_law 234 = .ok (.iload_n 3, 1) := by decide +kernel
theorem dL_law_235 : decode cL_law 235 = .ok (.iconst 3, 1) := by decide +kernel
theorem dL_law_236 : decode cL_law 236 = .ok (.iadd, 1) := by decide +kernel
theorem dL_law_237 : decode cL_law 237 = .ok (.iaload, 1) := by decide +kernel
theorem dL_law_238 : decode cL_law 238 = .ok (.i2l, 1) := by decide +kernel
theorem dL_law_239 : decode cL_law 239 = .ok (.bipush 32, 2) := by decide +kernel
theorem dL_law_241 : decode cL_law 241 = .ok (.lshl, 1) := by decide +kernel
theorem dL_law_242 : decode cL_law 242 = .ok (.aload_n 0, 1) := by decide +kernel
theorem dL_law_243 : decode cL_law 243 = .ok (.iload_n 3, 1) := by decide +kernel
theorem dL_law_244 : decode cL_law 244 = .ok (.iconst 4, 1) := by decide +kernel
theorem dL_law_245 : decode cL_law 245 = .ok (.iadd, 1) := by decide +kernel
theorem dL_law_246 : decode cL_law 246 = .ok (.iaload, 1) := by decide +kernel
theorem dL_law_247 : decode cL_law 247 = .ok (.i2l, 1) := by decide +kernel
theorem dL_law_248 : decode cL_law 248 = .ok (.ldc2_w 13, 3) := by decide +kernel
theorem dL_law_251 : decode cL_law 251 = .ok (.land, 1) := by decide +kernel
theorem dL_law_252 : decode cL_law 252 = .ok (.lor, 1) := by decide +kernel
theorem dL_law_253 : decode cL_law 253 = .ok (.aload_n 0, 1) := by decide +kernel
theorem dL_law_254 : decode cL_law 254 = .ok (.iload_n 3, 1) := by decide +kernel
theorem dL_law_255 : decode cL_law 255 = .ok (.iconst 5, 1) := by decide +kernel
theorem dL_law_256 : decode cL_law 256 = .ok (.iadd, 1) := by decide +kernel
theorem dL_law_257 : decode cL_law 257 = .ok (.iaload, 1) := by decide +kernel
theorem dL_law_258 : decode cL_law 258 = .ok (.aload_n 0, 1) := by decide +kernel
theorem dL_law_259 : decode cL_law 259 = .ok (.iload_n 3, 1) := by decide +kernel
theorem dL_law_260 : decode cL_law 260 = .ok (.bipush 6, 2) := by decide +kernel
theorem dL_law_262 : decode cL_law 262 = .ok (.iadd, 1) := by decide +kernel
theorem dL_law_263 : decode cL_law 263 = .ok (.iaload, 1) := by decide +kernel
theorem dL_law_264 : decode cL_law 264 = .ok (.invokevirtual 24, 3) := by decide +kernel
end
section
theorem dL_law_267 : decode cL_law 267 = .ok (.if_icmp .eq 228, 3) := by decide +kernel
theorem dL_law_270 : decode cL_law 270 = .ok (.iconst 0, 1) := by decide +kernel
theorem dL_law_271 : decode cL_law 271 = .ok (.ireturn, 1) := by decide +kernel
theorem dL_law_272 : decode cL_law 272 = .ok (.aload_n 1, 1) := by decide +kernel
theorem dL_law_273 : decode cL_law 273 = .ok (.aload_n 0, 1) := by decide +kernel
theorem dL_law_274 : decode cL_law 274 = .ok (.iload_n 3, 1) := by decide +kernel
theorem dL_law_275 : decode cL_law 275 = .ok (.iconst 1, 1) := by decide +kernel
theorem dL_law_276 : decode cL_law 276 = .ok (.iadd, 1) := by decide +kernel
theorem dL_law_277 : decode cL_law 277 = .ok (.iaload, 1) := by decide +kernel
theorem dL_law_278 : decode cL_law 278 = .ok (.i2l, 1) := by decide +kernel
theorem dL_law_279 : decode cL_law 279 = .ok (.bipush 32, 2) := by decide +kernel
theorem dL_law_281 : decode cL_law 281 = .ok (.lshl, 1) := by decide +kernel
theorem dL_law_282 : decode cL_law 282 = .ok (.aload_n 0, 1) := by decide +kernel
theorem dL_law_283 : decode cL_law 283 = .ok (.iload_n 3, 1) := by decide +kernel
theorem dL_law_284 : decode cL_law 284 = .ok (.iconst 2, 1) := by decide +kernel
theorem dL_law_285 : decode cL_law 285 = .ok (.iadd, 1) := by decide +kernel
theorem dL_law_286 : decode cL_law 286 = .ok (.iaload, 1) := by decide +kernel
theorem dL_law_287 : decode cL_law 287 = .ok (.i2l, 1) := by decide +kernel
theorem dL_law_288 : decode cL_law 288 = .ok (.ldc2_w 13, 3) := by decide +kernel
theorem dL_law_291 : decode cL_law 291 = .ok (.land, 1) := by decide +kernel
theorem dL_law_292 : decode cL_law 292 = .ok (.lor, 1) := by decide +kernel
theorem dL_law_293 : decode cL_law 293 = .ok (.aload_n 0, 1) := by decide +kernel
theorem dL_law_294 : decode cL_law 294 = .ok (.iload_n 3, 1) := by decide +kernel
theorem dL_law_295 : decode cL_law 295 = .ok (.iconst 3, 1) := by decide +kernel
theorem dL_law_296 : decode cL_law 296 = .ok (.iadd, 1) := by decide +kernel
theorem dL_law_297 : decode cL_law 297 = .ok (.iaload, 1) := by decide +kernel
theorem dL_law_298 : decode cL_law 298 = .ok (.invokevirtual 25, 3) := by decide +kernel
theorem dL_law_301 : decode cL_law 301 = .ok (.aload_n 2, 1) := by decide +kernel
theorem dL_law_302 : decode cL_law 302 = .ok (.aload_n 0, 1) := by decide +kernel
theorem dL_law_303 : decode cL_law 303 = .ok (.iload_n 3, 1) := by decide +kernel
theorem dL_law_304 : decode cL_law 304 = .ok (.iconst 1, 1) := by decide +kernel
theorem dL_law_305 : decode cL_law 305 = .ok (.iadd, 1) := by decide +kernel
theorem dL_law_306 : decode cL_law 306 = .ok (.iaload, 1) := by decide +kernel
theorem dL_law_307 : decode cL_law 307 = .ok (.i2l, 1) := by decide +kernel
theorem dL_law_308 : decode cL_law 308 = .ok (.bipush 32, 2) := by decide +kernel
theorem dL_law_310 : decode cL_law 310 = .ok (.lshl, 1) := by decide +kernel
theorem dL_law_311 : decode cL_law 311 = .ok (.aload_n 0, 1) := by decide +kernel
theorem dL_law_312 : decode cL_law 312 = .ok (.iload_n 3, 1) := by decide +kernel
theorem dL_law_313 : decode cL_law 313 = .ok (.iconst 2, 1) := by decide +kernel
theorem dL_law_314 : decode cL_law 314 = .ok (.iadd, 1) := by decide +kernel
theorem dL_law_315 : decode cL_law 315 = .ok (.iaload, 1) := by decide +kernel
theorem dL_law_316 : decode cL_law 316 = .ok (.i2l, 1) := by decide +kernel
theorem dL_law_317 : decode cL_law 317 = .ok (.ldc2_w 13, 3) := by decide +kernel
theorem dL_law_320 : decode cL_law 320 = .ok (.land, 1) := by decide +kernel
theorem dL_law_321 : decode cL_law 321 = .ok (.lor, 1) := by decide +kernel
theorem dL_law_322 : decode cL_law 322 = .ok (.aload_n 0, 1) := by decide +kernel
theorem dL_law_323 : decode cL_law 323 = .ok (.iload_n 3, 1) := by decide +kernel
theorem dL_law_324 : decode cL_law 324 = .ok (.iconst 3, 1) := by decide +kernel
theorem dL_law_325 : decode cL_law 325 = .ok (.iadd, 1) := by decide +kernel
theorem dL_law_326 : decode cL_law 326 = .ok (.iaload, 1) := by decide +kernel
theorem dL_law_327 : decode cL_law 327 = .ok (.invokevirtual 29, 3) := by decide +kernel
theorem dL_law_330 : decode cL_law 330 = .ok (.if_icmp .eq 165, 3) := by decide +kernel
theorem dL_law_333 : decode cL_law 333 = .ok (.iconst 0, 1) := by decide +kernel
theorem dL_law_334 : decode cL_law 334 = .ok (.ireturn, 1) := by decide +kernel
theorem dL_law_335 : decode cL_law 335 = .ok (.aload_n 1, 1) := by decide +kernel
theorem dL_law_336 : decode cL_law 336 = .ok (.aload_n 0, 1) := by decide +kernel
theorem dL_law_337 : decode cL_law 337 = .ok (.iload_n 3, 1) := by decide +kernel
theorem dL_law_338 : decode cL_law 338 = .ok (.iconst 1, 1) := by decide +kernel
theorem dL_law_339 : decode cL_law 339 = .ok (.iadd, 1) := by decide +kernel
theorem dL_law_340 : decode cL_law 340 = .ok (.iaload, 1) := by decide +kernel
theorem dL_law_341 : decode cL_law 341 = .ok (.invokevirtual 30, 3) := by decide +kernel
theorem dL_law_344 : decode cL_law 344 = .ok (.aload_n 2, 1) := by decide +kernel
theorem dL_law_345 : decode cL_law 345 = .ok (.aload_n 0, 1) := by decide +kernel
theorem dL_law_346 : decode cL_law 346 = .ok (.iload_n 3, 1) := by decide +kernel
theorem dL_law_347 : decode cL_law 347 = .ok (.iconst 1, 1) := by decide +kernel
theorem dL_law_348 : decode cL_law 348 = .ok (.iadd, 1) := by decide +kernel
theorem dL_law_349 : decode cL_law 349 = .ok (.iaload, 1) := by decide +kernel
theorem dL_law_350 : decode cL_law 350 = .ok (.invokevirtual 34, 3) := by decide +kernel
theorem dL_law_353 : decode cL_law 353 = .ok (.if_icmp .eq 142, 3) := by decide +kernel
theorem dL_law_356 : decode cL_law 356 = .ok (.iconst 0, 1) := by decide +kernel
theorem dL_law_357 : decode cL_law 357 = .ok (.ireturn, 1) := by decide +kernel
theorem dL_law_358 : decode cL_law 358 = .ok (.aload_n 1, 1) := by decide +kernel
theorem dL_law_359 : decode cL_law 359 = .ok (.aload_n 0, 1) := by decide +kernel
theorem dL_law_360 : decode cL_law 360 = .ok (.iload_n 3, 1) := by decide +kernel
theorem dL_law_361 : decode cL_law 361 = .ok (.iconst 1, 1) := by decide +kernel
theorem dL_law_362 : decode cL_law 362 = .ok (.iadd, 1) := by decide +kernel
theorem dL_law_363 : decode cL_law 363 = .ok (.iaload, 1) := by decide +kernel
theorem dL_law_364 : decode cL_law 364 = .ok (.i2l, 1) := by decide +kernel
theorem dL_law_365 : decode cL_law 365 = .ok (.bipush 32, 2) := by decide +kernel
theorem dL_law_367 : decode cL_law 367 = .ok (.lshl, 1) := by decide +kernel
theorem dL_law_368 : decode cL_law 368 = .ok (.aload_n 0, 1) := by decide +kernel
theorem dL_law_369 : decode cL_law 369 = .ok (.iload_n 3, 1) := by decide +kernel
theorem dL_law_370 : decode cL_law 370 = .ok (.iconst 2, 1) := by decide +kernel
theorem dL_law_371 : decode cL_law 371 = .ok (.iadd, 1) := by decide +kernel
theorem dL_law_372 : decode cL_law 372 = .ok (.iaload, 1) := by decide +kernel
theorem dL_law_373 : decode cL_law 373 = .ok (.i2l, 1) := by decide +kernel
theorem dL_law_374 : decode cL_law 374 = .ok (.ldc2_w 13, 3) := by decide +kernel
theorem dL_law_377 : decode cL_law 377 = .ok (.land, 1) := by decide +kernel
theorem dL_law_378 : decode cL_law 378 = .ok (.lor, 1) := by decide +kernel
theorem dL_law_379 : decode cL_law 379 = .ok (.aload_n 0, 1) := by decide +kernel
theorem dL_law_380 : decode cL_law 380 = .ok (.iload_n 3, 1) := by decide +kernel
theorem dL_law_381 : decode cL_law 381 = .ok (.iconst 3, 1) := by decide +kernel
theorem dL_law_382 : decode cL_law 382 = .ok (.iadd, 1) := by decide +kernel
theorem dL_law_383 : decode cL_law 383 = .ok (.iaload, 1) := by decide +kernel
theorem dL_law_384 : decode cL_law 384 = .ok (.invokevirtual 35, 3) := by decide +kernel
theorem dL_law_387 : decode cL_law 387 = .ok (.aload_n 2, 1) := by decide +kernel
theorem dL_law_388 : decode cL_law 388 = .ok (.aload_n 0, 1) := by decide +kernel
theorem dL_law_389 : decode cL_law 389 = .ok (.iload_n 3, 1) := by decide +kernel
theorem dL_law_390 : decode cL_law 390 = .ok (.iconst 1, 1) := by decide +kernel
theorem dL_law_391 : decode cL_law 391 = .ok (.iadd, 1) := by decide +kernel
theorem dL_law_392 : decode cL_law 392 = .ok (.iaload, 1) := by decide +kernel
theorem dL_law_393 : decode cL_law 393 = .ok (.i2l, 1) := by decide +kernel
theorem dL_law_394 : decode cL_law 394 = .ok (.bipush 32, 2) := by decide +kernel
theorem dL_law_396 : decode cL_law 396 = .ok (.lshl, 1) := by decide +kernel
theorem dL_law_397 : decode cL_law 397 = .ok (.aload_n 0, 1) := by decide +kernel
theorem dL_law_398 : decode cL_law 398 = .ok (.iload_n 3, 1) := by decide +kernel
theorem dL_law_399 : decode cL_law 399 = .ok (.iconst 2, 1) := by decide +kernel
theorem dL_law_400 : decode cL_law 400 = .ok (.iadd, 1) := by decide +kernel
theorem dL_law_401 : decode cL_law 401 = .ok (.iaload, 1) := by decide +kernel
theorem dL_law_402 : decode cL_law 402 = .ok (.i2l, 1) := by decide +kernel
theorem dL_law_403 : decode cL_law 403 = .ok (.ldc2_w 13, 3) := by decide +kernel
theorem dL_law_406 : decode cL_law 406 = .ok (.land, 1) := by decide +kernel
theorem dL_law_407 : decode cL_law 407 = .ok (.lor, 1) := by decide +kernel
theorem dL_law_408 : decode cL_law 408 = .ok (.aload_n 0, 1) := by decide +kernel
theorem dL_law_409 : decode cL_law 409 = .ok (.iload_n 3, 1) := by decide +kernel
theorem dL_law_410 : decode cL_law 410 = .ok (.iconst 3, 1) := by decide +kernel
theorem dL_law_411 : decode cL_law 411 = .ok (.iadd, 1) := by decide +kernel
theorem dL_law_412 : decode cL_law 412 = .ok (.iaload, 1) := by decide +kernel
theorem dL_law_413 : decode cL_law 413 = .ok (.invokevirtual 38, 3) := by decide +kernel
theorem dL_law_416 : decode cL_law 416 = .ok (.if_icmp .eq 79, 3) := by decide +kernel
theorem dL_law_419 : decode cL_law 419 = .ok (.iconst 0, 1) := by decide +kernel
theorem dL_law_420 : decode cL_law 420 = .ok (.ireturn, 1) := by decide +kernel
theorem dL_law_421 : decode cL_law 421 = .ok (.aload_n 1, 1) := by decide +kernel
theorem dL_law_422 : decode cL_law 422 = .ok (.aload_n 0, 1) := by decide +kernel
theorem dL_law_423 : decode cL_law 423 = .ok (.iload_n 3, 1) := by decide +kernel
theorem dL_law_424 : decode cL_law 424 = .ok (.iconst 1, 1) := by decide +kernel
theorem dL_law_425 : decode cL_law 425 = .ok (.iadd, 1) := by decide +kernel
theorem dL_law_426 : decode cL_law 426 = .ok (.iaload, 1) := by decide +kernel
theorem dL_law_427 : decode cL_law 427 = .ok (.invokevirtual 39, 3) := by decide +kernel
theorem dL_law_430 : decode cL_law 430 = .ok (.aload_n 2, 1) := by decide +kernel
theorem dL_law_431 : decode cL_law 431 = .ok (.aload_n 0, 1) := by decide +kernel
theorem dL_law_432 : decode cL_law 432 = .ok (.iload_n 3, 1) := by decide +kernel
theorem dL_law_433 : decode cL_law 433 = .ok (.iconst 1, 1) := by decide +kernel
theorem dL_law_434 : decode cL_law 434 = .ok (.iadd, 1) := by decide +kernel
theorem dL_law_435 : decode cL_law 435 = .ok (.iaload, 1) := by decide +kernel
theorem dL_law_436 : decode cL_law 436 = .ok (.invokevirtual 43, 3) := by decide +kernel
theorem dL_law_439 : decode cL_law 439 = .ok (.lcmp, 1) := by decide +kernel
theorem dL_law_440 : decode cL_law 440 = .ok (.ifCond .eq 55, 3) := by decide +kernel
theorem dL_law_443 : decode cL_law 443 = .ok (.iconst 0, 1) := by decide +kernel
theorem dL_law_444 : decode cL_law 444 = .ok (.ireturn, 1) := by decide +kernel
theorem dL_law_445 : decode cL_law 445 = .ok (.aload_n 1, 1) := by decide +kernel
theorem dL_law_446 : decode cL_law 446 = .ok (.aload_n 0, 1) := by decide +kernel
theorem dL_law_447 : decode cL_law 447 = .ok (.iload_n 3, 1) := by decide +kernel
theorem dL_law_448 : decode cL_law 448 = .ok (.iconst 1, 1) := by decide +kernel
theorem dL_law_449 : decode cL_law 449 = .ok (.iadd, 1) := by decide +kernel
theorem dL_law_450 : decode cL_law 450 = .ok (.iaload, 1) := by decide +kernel
theorem dL_law_451 : decode cL_law 451 = .ok (.invokevirtual 44, 3) := by decide +kernel
theorem dL_law_454 : decode cL_law 454 = .ok (.aload_n 2, 1) := by decide +kernel
theorem dL_law_455 : decode cL_law 455 = .ok (.aload_n 0, 1) := by decide +kernel
theorem dL_law_456 : decode cL_law 456 = .ok (.iload_n 3, 1) := by decide +kernel
theorem dL_law_457 : decode cL_law 457 = .ok (.iconst 1, 1) := by decide +kernel
theorem dL_law_458 : decode cL_law 458 = .ok (.iadd, 1) := by decide +kernel
theorem dL_law_459 : decode cL_law 459 = .ok (.iaload, 1) := by decide +kernel
theorem dL_law_460 : decode cL_law 460 = .ok (.invokevirtual 47, 3) := by decide +kernel
theorem dL_law_463 : decode cL_law 463 = .ok (.if_icmp .eq 32, 3) := by decide +kernel
theorem dL_law_466 : decode cL_law 466 = .ok (.iconst 0, 1) := by decide +kernel
theorem dL_law_467 : decode cL_law 467 = .ok (.ireturn, 1) := by decide +kernel
theorem dL_law_468 : decode cL_law 468 = .ok (.aload_n 1, 1) := by decide +kernel
theorem dL_law_469 : decode cL_law 469 = .ok (.invokevirtual 48, 3) := by decide +kernel
theorem dL_law_472 : decode cL_law 472 = .ok (.aload_n 2, 1) := by decide +kernel
theorem dL_law_473 : decode cL_law 473 = .ok (.invokevirtual 52, 3) := by decide +kernel
theorem dL_law_476 : decode cL_law 476 = .ok (.if_icmp .eq 19, 3) := by decide +kernel
theorem dL_law_479 : decode cL_law 479 = .ok (.iconst 0, 1) := by decide +kernel
theorem dL_law_480 : decode cL_law 480 = .ok (.ireturn, 1) := by decide +kernel
theorem dL_law_481 : decode cL_law 481 = .ok (.aload_n 1, 1) := by decide +kernel
theorem dL_law_482 : decode cL_law 482 = .ok (.invokevirtual 53, 3) := by decide +kernel
theorem dL_law_485 : decode cL_law 485 = .ok (.aload_n 2, 1) := by decide +kernel
theorem dL_law_486 : decode cL_law 486 = .ok (.invokevirtual 57, 3) := by decide +kernel
theorem dL_law_489 : decode cL_law 489 = .ok (.lcmp, 1) := by decide +kernel
theorem dL_law_490 : decode cL_law 490 = .ok (.ifCond .eq 5, 3) := by decide +kernel
theorem dL_law_493 : decode cL_law 493 = .ok (.iconst 0, 1) := by decide +kernel
theorem dL_law_494 : decode cL_law 494 = .ok (.ireturn, 1) := by decide +kernel
theorem dL_law_495 : decode cL_law 495 = .ok (.iinc 3 7, 3) := by decide +kernel
theorem dL_law_498 : decode cL_law 498 = .ok (.goto (-480), 3) := by decide +kernel
theorem dL_law_501 : decode cL_law 501 = .ok (.iconst 1, 1) := by decide +kernel
theorem dL_law_502 : decode cL_law 502 = .ok (.ireturn, 1) := by decide +kernel
end
section
/-! A table of names as numbers: three rows and a count; what each call makes of it. Both sides are tied to these words. -/
abbrev nt_S : Type := (Nat → Int64) × (Nat → Int32) × (Nat → Int32) × Nat
/-- a name as one number: first by its ID, then by its INDEX -/
def nt_k (a : Int64) (b : Int32) : Int := a.toInt * 4294967296 + b.toInt
theorem nt_k_lt (a c : Int64) (b d : Int32) : nt_k a b < nt_k c d ↔ (a < c ∨ (a = c ∧ b < d)) := by
  have h1 := Int32.toInt_lt b
  have h2 := Int32.le_toInt b
  have h3 := Int32.toInt_lt d
  have h4 := Int32.le_toInt d
  rw [Int64.lt_iff_toInt_lt, Int32.lt_iff_toInt_lt, ← Int64.toInt_inj]
  unfold nt_k
  constructor
  · intro h
    by_cases e : a.toInt = c.toInt
    · exact Or.inr ⟨e, by omega⟩
    · exact Or.inl (by omega)
  · rintro (h | ⟨e, h⟩) <;> omega
theorem nt_k_eq (a c : Int64) (b d : Int32) : nt_k a b = nt_k c d ↔ (a = c ∧ b = d) := by
  have h1 := Int32.toInt_lt b
  have h2 := Int32.le_toInt b
  have h3 := Int32.toInt_lt d
  have h4 := Int32.le_toInt d
  rw [← Int32.toInt_inj, ← Int64.toInt_inj]
  unfold nt_k
  constructor
  · intro h
    exact ⟨by omega, by omega⟩
  · rintro ⟨e, h⟩
    omega
def nt_K (st : nt_S) (j : Nat) : Int := nt_k (st.1 j) (st.2.1 j)
def nt_srt (st : nt_S) : Prop := ∀ i j : Nat, i ≤ j → j < st.2.2.2 → nt_K st i ≤ nt_K st j
def nt_ok (st : nt_S) : Prop := st.2.2.2 ≤ 900 ∧ nt_srt st
/-- p is the place of the name κ -/
def nt_at (st : nt_S) (κ : Int) (p : Nat) : Prop := p ≤ st.2.2.2 ∧ (∀ j, j < p → nt_K st j < κ) ∧ (p < st.2.2.2 → κ ≤ nt_K st p)
def nt_go (st : nt_S) (κ : Int) : Nat → Nat → Nat
  | 0, k => k
  | m + 1, k => if nt_K st k < κ then nt_go st κ m (k + 1) else k
def nt_pl (st : nt_S) (κ : Int) : Nat := nt_go st κ st.2.2.2 0
theorem nt_go_at (st : nt_S) (κ : Int) : ∀ (m k : Nat), k + m = st.2.2.2 → (∀ j, j < k → nt_K st j < κ) → nt_at st κ (nt_go st κ m k) := by
  intro m
  induction m with
  | zero =>
    intro k hk hj
    exact ⟨by show k ≤ _; omega, hj, fun h => absurd h (by show ¬ k < _; omega)⟩
  | succ m ih =>
    intro k hk hj
    unfold nt_go
    by_cases h : nt_K st k < κ
    · rw [if_pos h]
      exact ih (k + 1) (by omega) (fun j h9 => by
        by_cases h8 : j < k
        · exact hj j h8
        · rw [show j = k by omega]; exact h)
    · rw [if_neg h]
      exact ⟨by omega, hj, fun _ => Int.not_lt.mp h⟩
theorem nt_pl_at (st : nt_S) (κ : Int) : nt_at st κ (nt_pl st κ) := nt_go_at st κ _ 0 (Nat.zero_add _) (fun j h => absurd h (Nat.not_lt_zero j))
theorem nt_at_one {st : nt_S} {κ : Int} {p q : Nat} (h : nt_at st κ p) (h' : nt_at st κ q) : p = q := by
  rcases Nat.lt_trichotomy p q with e | e | e
  · exact absurd (h'.2.1 p e) (Int.not_lt.mpr (h.2.2 (Nat.lt_of_lt_of_le e h'.1)))
  · exact e
  · exact absurd (h.2.1 q e) (Int.not_lt.mpr (h'.2.2 (Nat.lt_of_lt_of_le e h.1)))
theorem nt_at_pl {st : nt_S} {κ : Int} {p : Nat} (h : nt_at st κ p) : nt_pl st κ = p := nt_at_one (nt_pl_at st κ) h
/-- the coin at p has this name -/
abbrev nt_is (st : nt_S) (id : Int64) (ix : Int32) (p : Nat) : Prop := p < st.2.2.2 ∧ st.1 p = id ∧ st.2.1 p = ix
-- rows that move
def nt_up {α : Type} (f : Nat → α) (k : Nat) (x : α) : Nat → α := fun j => if j = k then x else f j
def nt_ins {α : Type} (f : Nat → α) (n p : Nat) (x : α) : Nat → α := fun j => if j = p then x else if p < j ∧ j ≤ n then f (j - 1) else f j
def nt_del {α : Type} (f : Nat → α) (n p : Nat) : Nat → α := fun j => if p ≤ j ∧ j + 1 < n then f (j + 1) else f j
theorem nt_ins_lo {α : Type} {f : Nat → α} {n p j : Nat} {x : α} (h : j < p) : nt_ins f n p x j = f j := by
  unfold nt_ins
  rw [if_neg (by omega), if_neg (by omega)]
theorem nt_ins_at {α : Type} {f : Nat → α} {n p : Nat} {x : α} : nt_ins f n p x p = x := by
  unfold nt_ins
  rw [if_pos rfl]
theorem nt_ins_hi {α : Type} {f : Nat → α} {n p j : Nat} {x : α} (h : p < j) (h2 : j ≤ n) : nt_ins f n p x j = f (j - 1) := by
  unfold nt_ins
  rw [if_neg (by omega), if_pos ⟨h, h2⟩]
theorem nt_ins_cpy {α : Type} (f : Nat → α) {n p : Nat} (h : p ≤ n) (x : α) : nt_up (va_cpy f f p (p + 1) (n - p)) p x = nt_ins f n p x := by
  funext j
  unfold nt_up nt_ins va_cpy
  by_cases e : j = p
  · rw [if_pos e, if_pos e]
  · rw [if_neg e, if_neg e]
    by_cases e2 : p < j ∧ j ≤ n
    · rw [if_pos e2, if_pos (by omega)]
      exact congrArg f (by omega)
    · rw [if_neg e2, if_neg (by omega)]
theorem nt_del_cpy {α : Type} (f : Nat → α) {n p : Nat} (h : p < n) : va_cpy f f (p + 1) p (n - (p + 1)) = nt_del f n p := by
  funext j
  unfold nt_del va_cpy
  by_cases e2 : p ≤ j ∧ j + 1 < n
  · rw [if_pos e2, if_pos (by omega)]
    exact congrArg f (by omega)
  · rw [if_neg e2, if_neg (by omega)]
/-- the reference's way in: from above, one by one -/
def nt_sh {α : Type} (f : Nat → α) (n k : Nat) : Nat → α := fun j => if k < j ∧ j ≤ n then f (j - 1) else f j
theorem nt_sh_0 {α : Type} (f : Nat → α) (n : Nat) : nt_sh f n n = f := by
  funext j
  unfold nt_sh
  rw [if_neg (by omega)]
theorem nt_sh_lo {α : Type} {f : Nat → α} {n k j : Nat} (h : j ≤ k) : nt_sh f n k j = f j := by
  unfold nt_sh
  rw [if_neg (by omega)]
theorem nt_sh_s {α : Type} (f : Nat → α) {n k : Nat} (h : k + 1 ≤ n) : nt_up (nt_sh f n (k + 1)) (k + 1) (nt_sh f n (k + 1) k) = nt_sh f n k := by
  funext j
  rw [nt_sh_lo (Nat.le_succ k)]
  unfold nt_up nt_sh
  by_cases e : j = k + 1
  · rw [if_pos e, if_pos (by omega)]
    exact congrArg f (by omega)
  · rw [if_neg e]
    by_cases e2 : k + 1 < j ∧ j ≤ n
    · rw [if_pos e2, if_pos (by omega)]
    · rw [if_neg e2, if_neg (by omega)]
theorem nt_sh_e {α : Type} (f : Nat → α) (n p : Nat) (x : α) : nt_up (nt_sh f n p) p x = nt_ins f n p x := rfl
/-- and its way out: from below -/
def nt_sl {α : Type} (f : Nat → α) (p k : Nat) : Nat → α := fun j => if p ≤ j ∧ j < k then f (j + 1) else f j
theorem nt_sl_0 {α : Type} (f : Nat → α) (p : Nat) : nt_sl f p p = f := by
  funext j
  unfold nt_sl
  rw [if_neg (by omega)]
theorem nt_sl_hi {α : Type} {f : Nat → α} {p k j : Nat} (h : k ≤ j) : nt_sl f p k j = f j := by
  unfold nt_sl
  rw [if_neg (by omega)]
theorem nt_sl_s {α : Type} (f : Nat → α) {p k : Nat} (h : p ≤ k) : nt_up (nt_sl f p k) k (nt_sl f p k (k + 1)) = nt_sl f p (k + 1) := by
  funext j
  rw [nt_sl_hi (Nat.le_succ k)]
  unfold nt_up nt_sl
  by_cases e : j = k
  · rw [if_pos e, if_pos (by omega), e]
  · rw [if_neg e]
    by_cases e2 : p ≤ j ∧ j < k
    · rw [if_pos e2, if_pos (by omega)]
    · rw [if_neg e2, if_neg (by omega)]
theorem nt_sl_e {α : Type} (f : Nat → α) {n p : Nat} : nt_sl f p (n - 1) = nt_del f n p := by
  funext j
  unfold nt_sl nt_del
  by_cases e2 : p ≤ j ∧ j + 1 < n
  · rw [if_pos e2, if_pos (by omega)]
  · rw [if_neg e2, if_neg (by omega)]
-- a coin comes, a coin goes
def nt_insS (st : nt_S) (p : Nat) (id : Int64) (ix v : Int32) : nt_S := (nt_ins st.1 st.2.2.2 p id, nt_ins st.2.1 st.2.2.2 p ix, nt_ins st.2.2.1 st.2.2.2 p v, st.2.2.2 + 1)
def nt_delS (st : nt_S) (p : Nat) : nt_S := (nt_del st.1 st.2.2.2 p, nt_del st.2.1 st.2.2.2 p, nt_del st.2.2.1 st.2.2.2 p, st.2.2.2 - 1)
theorem nt_K_ins (st : nt_S) (p : Nat) (id : Int64) (ix v : Int32) (j : Nat) : nt_K (nt_insS st p id ix v) j = nt_ins (nt_K st) st.2.2.2 p (nt_k id ix) j := by
  show nt_k (nt_ins st.1 st.2.2.2 p id j) (nt_ins st.2.1 st.2.2.2 p ix j) = _
  unfold nt_ins
  by_cases e : j = p
  · rw [if_pos e, if_pos e, if_pos e]
  · rw [if_neg e, if_neg e, if_neg e]
    by_cases e2 : p < j ∧ j ≤ st.2.2.2
    · rw [if_pos e2, if_pos e2, if_pos e2]; rfl
    · rw [if_neg e2, if_neg e2, if_neg e2]; rfl
theorem nt_K_del (st : nt_S) (p j : Nat) : nt_K (nt_delS st p) j = nt_del (nt_K st) st.2.2.2 p j := by
  show nt_k (nt_del st.1 st.2.2.2 p j) (nt_del st.2.1 st.2.2.2 p j) = _
  unfold nt_del
  by_cases e2 : p ≤ j ∧ j + 1 < st.2.2.2
  · rw [if_pos e2, if_pos e2, if_pos e2]; rfl
  · rw [if_neg e2, if_neg e2, if_neg e2]; rfl
theorem nt_ok_ins {st : nt_S} (h : nt_ok st) (hn : st.2.2.2 < 900) {p : Nat} {id : Int64} {ix : Int32} (hp : nt_at st (nt_k id ix) p) (v : Int32) : nt_ok (nt_insS st p id ix v) := by
  refine ⟨by show st.2.2.2 + 1 ≤ 900; omega, fun i j hij hj => ?_⟩
  have hj : j < st.2.2.2 + 1 := hj
  have hge : ∀ q, p ≤ q → q < st.2.2.2 → nt_k id ix ≤ nt_K st q := fun q h1 h2 => Int.le_trans (hp.2.2 (by omega)) (h.2 p q h1 h2)
  rw [nt_K_ins, nt_K_ins]
  rcases Nat.lt_trichotomy i p with hi | hi | hi
  · rw [nt_ins_lo hi]
    rcases Nat.lt_trichotomy j p with h2 | h2 | h2
    · rw [nt_ins_lo h2]
      exact h.2 i j hij (Nat.lt_of_lt_of_le h2 hp.1)
    · rw [h2, nt_ins_at]
      exact Int.le_of_lt (hp.2.1 i hi)
    · rw [nt_ins_hi h2 (by omega)]
      exact h.2 i (j - 1) (by omega) (by omega)
  · rw [hi, nt_ins_at]
    rcases Nat.lt_trichotomy j p with h2 | h2 | h2
    · omega
    · rw [h2, nt_ins_at]
      exact Int.le_refl _
    · rw [nt_ins_hi h2 (by omega)]
      exact hge (j - 1) (by omega) (by omega)
  · rw [nt_ins_hi hi (by omega), nt_ins_hi (show p < j by omega) (by omega)]
    exact h.2 (i - 1) (j - 1) (by omega) (by omega)
theorem nt_ok_del {st : nt_S} (h : nt_ok st) (p : Nat) : nt_ok (nt_delS st p) := by
  refine ⟨by show st.2.2.2 - 1 ≤ 900; have := h.1; omega, fun i j hij hj => ?_⟩
  have hj : j < st.2.2.2 - 1 := hj
  rw [nt_K_del, nt_K_del]
  unfold nt_del
  by_cases e1 : p ≤ i ∧ i + 1 < st.2.2.2
  · rw [if_pos e1, if_pos (by omega)]
    exact h.2 (i + 1) (j + 1) (by omega) (by omega)
  · rw [if_neg e1]
    by_cases e2 : p ≤ j ∧ j + 1 < st.2.2.2
    · rw [if_pos e2]
      exact h.2 i (j + 1) (by omega) (by omega)
    · rw [if_neg e2]
      exact h.2 i j hij (by omega)
-- the calls
def nt_add (st : nt_S) (id : Int64) (ix v : Int32) : Int32 × nt_S :=
  if ix < 0 ∨ 7 < ix ∨ v < 0 then (-1, st)
  else if nt_is st id ix (nt_pl st (nt_k id ix)) then (-3, st)
  else if st.2.2.2 = 900 then (-4, st)
  else (nI (st.2.2.2 + 1), nt_insS st (nt_pl st (nt_k id ix)) id ix v)
theorem nt_add_bad {st : nt_S} {id : Int64} {ix v : Int32} (h : ix < 0 ∨ 7 < ix ∨ v < 0) : ((-1 : Int32), st) = nt_add st id ix v := by
  unfold nt_add
  rw [if_pos h]
theorem nt_add_there {st : nt_S} {id : Int64} {ix v : Int32} {p : Nat} (h : ¬ (ix < 0 ∨ 7 < ix ∨ v < 0)) (hp : nt_at st (nt_k id ix) p) (h2 : nt_is st id ix p) : ((-3 : Int32), st) = nt_add st id ix v := by
  unfold nt_add
  rw [nt_at_pl hp, if_neg h, if_pos h2]
theorem nt_add_full {st : nt_S} {id : Int64} {ix v : Int32} {p : Nat} (h : ¬ (ix < 0 ∨ 7 < ix ∨ v < 0)) (hp : nt_at st (nt_k id ix) p) (h2 : ¬ nt_is st id ix p) (h3 : st.2.2.2 = 900) : ((-4 : Int32), st) = nt_add st id ix v := by
  unfold nt_add
  rw [nt_at_pl hp, if_neg h, if_neg h2, if_pos h3]
theorem nt_add_new {st : nt_S} {id : Int64} {ix v : Int32} {p : Nat} (h : ¬ (ix < 0 ∨ 7 < ix ∨ v < 0)) (hp : nt_at st (nt_k id ix) p) (h2 : ¬ nt_is st id ix p) (h3 : ¬ st.2.2.2 = 900) : (nI (st.2.2.2 + 1), nt_insS st p id ix v) = nt_add st id ix v := by
  unfold nt_add
  rw [nt_at_pl hp, if_neg h, if_neg h2, if_neg h3]
theorem nt_add_cases (st : nt_S) (id : Int64) (ix v : Int32) (hn : st.2.2.2 ≤ 900) :
    ((nt_add st id ix v).2 = st ∧ ¬ 0 < (nt_add st id ix v).1) ∨ (st.2.2.2 < 900 ∧ (nt_add st id ix v).2 = nt_insS st (nt_pl st (nt_k id ix)) id ix v ∧ 0 < (nt_add st id ix v).1) := by
  unfold nt_add
  by_cases h : ix < 0 ∨ 7 < ix ∨ v < 0
  · rw [if_pos h]
    exact Or.inl ⟨rfl, by show ¬ (0 : Int32) < -1; decide⟩
  · rw [if_neg h]
    by_cases h2 : nt_is st id ix (nt_pl st (nt_k id ix))
    · rw [if_pos h2]
      exact Or.inl ⟨rfl, by show ¬ (0 : Int32) < -3; decide⟩
    · rw [if_neg h2]
      by_cases h3 : st.2.2.2 = 900
      · rw [if_pos h3]
        exact Or.inl ⟨rfl, by show ¬ (0 : Int32) < -4; decide⟩
      · rw [if_neg h3]
        exact Or.inr ⟨by omega, rfl, by
          show nI 0 < nI (st.2.2.2 + 1)
          exact nI_lt (by omega) (by omega)⟩
theorem nt_add_ok {st : nt_S} (h : nt_ok st) (id : Int64) (ix v : Int32) : nt_ok (nt_add st id ix v).2 := by
  rcases nt_add_cases st id ix v h.1 with ⟨e, -⟩ | ⟨h2, e, -⟩
  · rw [e]; exact h
  · rw [e]; exact nt_ok_ins h h2 (nt_pl_at _ _) v
/-- the state after the first k of some's coins -/
def nt_sm (st : nt_S) (id step : Int64) (v : Int32) : Nat → nt_S
  | 0 => st
  | k + 1 => (nt_add (nt_sm st id step v k) (id + (nI k).toInt64 * step) (nI k - nI k / 8 * 8) v).2
theorem nt_sm_ok {st : nt_S} (h : nt_ok st) (id step : Int64) (v : Int32) : ∀ k, nt_ok (nt_sm st id step v k) ∧ st.2.2.2 ≤ (nt_sm st id step v k).2.2.2 := by
  intro k
  induction k with
  | zero => exact ⟨h, Nat.le_refl _⟩
  | succ k ih =>
    refine ⟨nt_add_ok ih.1 _ _ _, ?_⟩
    show _ ≤ (nt_add (nt_sm st id step v k) (id + (nI k).toInt64 * step) (nI k - nI k / 8 * 8) v).2.2.2.2
    rcases nt_add_cases (nt_sm st id step v k) (id + (nI k).toInt64 * step) (nI k - nI k / 8 * 8) v ih.1.1 with ⟨e, -⟩ | ⟨h2, e, -⟩
    · rw [e]; exact ih.2
    · rw [e]; exact Nat.le_succ_of_le ih.2
def nt_some (st : nt_S) (id step : Int64) (m v : Int32) : Int32 × nt_S :=
  if m < 1 ∨ 100 < m ∨ v < 0 then (-1, st)
  else (nI ((nt_sm st id step v m.toNatClampNeg).2.2.2 - st.2.2.2), nt_sm st id step v m.toNatClampNeg)
theorem nt_some_bad {st : nt_S} {id step : Int64} {m v : Int32} (h : m < 1 ∨ 100 < m ∨ v < 0) : ((-1 : Int32), st) = nt_some st id step m v := by
  unfold nt_some
  rw [if_pos h]
theorem nt_some_did {st : nt_S} {id step : Int64} {m v : Int32} {k : Nat} (h : ¬ (m < 1 ∨ 100 < m ∨ v < 0)) (hk : m = nI k) (hk2 : k ≤ 100) : (nI ((nt_sm st id step v k).2.2.2 - st.2.2.2), nt_sm st id step v k) = nt_some st id step m v := by
  unfold nt_some
  rw [if_neg h, hk, nI_clamp (by omega)]
theorem nt_some_ok {st : nt_S} (h : nt_ok st) (id step : Int64) (m v : Int32) : nt_ok (nt_some st id step m v).2 := by
  unfold nt_some
  by_cases e : m < 1 ∨ 100 < m ∨ v < 0
  · rw [if_pos e]; exact h
  · rw [if_neg e]; exact (nt_sm_ok h id step v _).1
/-- some's n is a number from 1 to 100 -/
theorem nt_some_k {m : Int32} (h1 : ¬ m < 1) (h2 : ¬ 100 < m) : ∃ k : Nat, k ≤ 100 ∧ m = nI k := by
  refine nI_of2 (M := 100) (n := 100) (by decide) (fun h => h1 ?_) (Int32.not_lt.mp h2)
  exact Int32.lt_trans h (by decide)
def nt_rem (st : nt_S) (id : Int64) (ix : Int32) : Int32 × nt_S :=
  if ix < 0 ∨ 7 < ix then (-1, st)
  else if nt_is st id ix (nt_pl st (nt_k id ix)) then (st.2.2.1 (nt_pl st (nt_k id ix)), nt_delS st (nt_pl st (nt_k id ix)))
  else (-2, st)
theorem nt_rem_bad {st : nt_S} {id : Int64} {ix : Int32} (h : ix < 0 ∨ 7 < ix) : ((-1 : Int32), st) = nt_rem st id ix := by
  unfold nt_rem
  rw [if_pos h]
theorem nt_rem_none {st : nt_S} {id : Int64} {ix : Int32} {p : Nat} (h : ¬ (ix < 0 ∨ 7 < ix)) (hp : nt_at st (nt_k id ix) p) (h2 : ¬ nt_is st id ix p) : ((-2 : Int32), st) = nt_rem st id ix := by
  unfold nt_rem
  rw [nt_at_pl hp, if_neg h, if_neg h2]
theorem nt_rem_did {st : nt_S} {id : Int64} {ix : Int32} {p : Nat} (h : ¬ (ix < 0 ∨ 7 < ix)) (hp : nt_at st (nt_k id ix) p) (h2 : nt_is st id ix p) : (st.2.2.1 p, nt_delS st p) = nt_rem st id ix := by
  unfold nt_rem
  rw [nt_at_pl hp, if_neg h, if_pos h2]
theorem nt_rem_ok {st : nt_S} (h : nt_ok st) (id : Int64) (ix : Int32) : nt_ok (nt_rem st id ix).2 := by
  unfold nt_rem
  by_cases e : ix < 0 ∨ 7 < ix
  · rw [if_pos e]; exact h
  · rw [if_neg e]
    by_cases e2 : nt_is st id ix (nt_pl st (nt_k id ix))
    · rw [if_pos e2]; exact nt_ok_del h _
    · rw [if_neg e2]; exact h
def nt_take (st : nt_S) (k : Int32) : Int32 × nt_S :=
  if k < 0 ∨ nI st.2.2.2 ≤ k then (-2, st) else (st.2.2.1 k.toNatClampNeg, nt_delS st k.toNatClampNeg)
theorem nt_take_none {st : nt_S} {k : Int32} (h : k < 0 ∨ nI st.2.2.2 ≤ k) : ((-2 : Int32), st) = nt_take st k := by
  unfold nt_take
  rw [if_pos h]
theorem nt_out_of {k : Int32} {n j : Nat} (hn : n ≤ 900) (hj : j < n) (hk : k = nI j) : ¬ (k < 0 ∨ nI n ≤ k) := by
  subst hk
  rintro (h | h)
  · exact nI_pos (by omega) h
  · exact nI_ge hj (by omega) h
theorem nt_take_did {st : nt_S} {k : Int32} {j : Nat} (hn : st.2.2.2 ≤ 900) (hj : j < st.2.2.2) (hk : k = nI j) : (st.2.2.1 j, nt_delS st j) = nt_take st k := by
  unfold nt_take
  rw [if_neg (nt_out_of hn hj hk), hk, nI_clamp (by omega)]
theorem nt_take_ok {st : nt_S} (h : nt_ok st) (k : Int32) : nt_ok (nt_take st k).2 := by
  unfold nt_take
  by_cases e : k < 0 ∨ nI st.2.2.2 ≤ k
  · rw [if_pos e]; exact h
  · rw [if_neg e]; exact nt_ok_del h _
def nt_get (st : nt_S) (id : Int64) (ix : Int32) : Int32 :=
  if ix < 0 ∨ 7 < ix then -1 else if nt_is st id ix (nt_pl st (nt_k id ix)) then st.2.2.1 (nt_pl st (nt_k id ix)) else -2
theorem nt_get_bad {st : nt_S} {id : Int64} {ix : Int32} (h : ix < 0 ∨ 7 < ix) : (-1 : Int32) = nt_get st id ix := by
  unfold nt_get
  rw [if_pos h]
theorem nt_get_none {st : nt_S} {id : Int64} {ix : Int32} {p : Nat} (h : ¬ (ix < 0 ∨ 7 < ix)) (hp : nt_at st (nt_k id ix) p) (h2 : ¬ nt_is st id ix p) : (-2 : Int32) = nt_get st id ix := by
  unfold nt_get
  rw [nt_at_pl hp, if_neg h, if_neg h2]
theorem nt_get_is {st : nt_S} {id : Int64} {ix : Int32} {p : Nat} (h : ¬ (ix < 0 ∨ 7 < ix)) (hp : nt_at st (nt_k id ix) p) (h2 : nt_is st id ix p) : st.2.2.1 p = nt_get st id ix := by
  unfold nt_get
  rw [nt_at_pl hp, if_neg h, if_pos h2]
def nt_name (st : nt_S) (k : Int32) : Int64 := if k < 0 ∨ nI st.2.2.2 ≤ k then 0 else st.1 k.toNatClampNeg
theorem nt_name_none {st : nt_S} {k : Int32} (h : k < 0 ∨ nI st.2.2.2 ≤ k) : (0 : Int64) = nt_name st k := by
  unfold nt_name
  rw [if_pos h]
theorem nt_name_is {st : nt_S} {k : Int32} {j : Nat} (hn : st.2.2.2 ≤ 900) (hj : j < st.2.2.2) (hk : k = nI j) : st.1 j = nt_name st k := by
  unfold nt_name
  rw [if_neg (nt_out_of hn hj hk), hk, nI_clamp (by omega)]
def nt_index (st : nt_S) (k : Int32) : Int32 := if k < 0 ∨ nI st.2.2.2 ≤ k then -2 else st.2.1 k.toNatClampNeg
theorem nt_index_none {st : nt_S} {k : Int32} (h : k < 0 ∨ nI st.2.2.2 ≤ k) : (-2 : Int32) = nt_index st k := by
  unfold nt_index
  rw [if_pos h]
theorem nt_index_is {st : nt_S} {k : Int32} {j : Nat} (hn : st.2.2.2 ≤ 900) (hj : j < st.2.2.2) (hk : k = nI j) : st.2.1 j = nt_index st k := by
  unfold nt_index
  rw [if_neg (nt_out_of hn hj hk), hk, nI_clamp (by omega)]
def nt_sum (h : Nat → Int32) : Nat → Int64
  | 0 => 0
  | k + 1 => nt_sum h k + (h k).toInt64
/-- a boolean answer -/
def nt_b (r : Int32) (P : Prop) : Prop := (r = 1 ∧ P) ∨ (r = 0 ∧ ¬ P)
theorem nt_ix8 (x : Int32) : 8 ≤ x ↔ 7 < x := by
  have e8 : (8 : Int32).toInt = 8 := by decide
  have e7 : (7 : Int32).toInt = 7 := by decide
  rw [Int32.le_iff_toInt_le, Int32.lt_iff_toInt_lt, e8, e7]
  omega
end
section
/-! The cells of a table (both sides have the same four fields): the object and its three rows of 900. -/
abbrev nt_w (ci h0 q1 q2 q3 : Nat) (cL cI cJ : ClassId) (f : Nat → Int64) (g h : Nat → Int32) (n : Nat) : va_W := [(h0, .inr (ci, [.ref q1, .ref q2, .ref q3, .int (nI n)])), (q1, .inl (cL, 900, .inr (.inl f))), (q2, .inl (cI, 900, .inl g)), (q3, .inl (cJ, 900, .inl h))]
abbrev nt_ty (cL cI cJ : ClassId) : List (ClassId × FieldType) := [(cL, .long), (cI, .int), (cJ, .int)]
abbrev nt_in (dC : Nat → ClassId) (dI : Nat → Nat → Nat) (ci h0 q1 q2 q3 : Nat) (cL cI cJ : ClassId) (f : Nat → Int64) (g h : Nat → Int32) (n sz : Nat) : State → Prop := fun U => U.heap.size = sz ∧ va_P (dC, dI) vwCl (nt_w ci h0 q1 q2 q3 cL cI cJ f g h n) U.heap ∧ va_K (dC, dI) vwCl (nt_ty cL cI cJ) U ∧ va_D (fun _ => True) (nt_w ci h0 q1 q2 q3 cL cI cJ f g h n)
abbrev nt_out (dC : Nat → ClassId) (dI : Nat → Nat → Nat) (ci h0 q1 q2 q3 : Nat) (cL cI cJ : ClassId) (A : Nat → Prop) (u : nt_S) (t : State) : Prop := va_P (dC, dI) vwCl (nt_w ci h0 q1 q2 q3 cL cI cJ u.1 u.2.1 u.2.2.1 u.2.2.2) t.heap ∧ va_K (dC, dI) vwCl (nt_ty cL cI cJ) t ∧ va_D A (nt_w ci h0 q1 q2 q3 cL cI cJ u.1 u.2.1 u.2.2.1 u.2.2.2)
theorem nt_blind {dC : Nat → ClassId} {dI : Nat → Nat → Nat} {ci h0 q1 q2 q3 : Nat} {cL cI cJ : ClassId} {f : Nat → Int64} {g h : Nat → Int32} {n sz : Nat} {av : List Value} : FrameBlind (va_Pc av (nt_in dC dI ci h0 q1 q2 q3 cL cI cJ f g h n sz)) := fun a U g9 mk q => by
  obtain ⟨p0, p1, pP, pK, pD⟩ := q
  exact ⟨p0, p1, pP, va_K.moved (u := U) (U := U.calling g9 mk a) (Vm.Alike.refl U.vm) pK, pD⟩
theorem nt_preV {s : State} {H : Heap} {A : Nat → Prop} {T : u_T} {N : Nat} {C : String} {dC : Nat → ClassId} {dI : Nat → Nat → Nat} {ci h0 q1 q2 q3 : Nat} {cL cI cJ : ClassId} {f : Nat → Int64} {g h : Nat → Int32} {n : Nat} (hc : vwCl[ci]? = some (C, T, N)) (hP : va_P (dC, dI) vwCl (nt_w ci h0 q1 q2 q3 cL cI cJ f g h n) H) (hK : va_K (dC, dI) vwCl (nt_ty cL cI cJ) s) (hD : va_D A (nt_w ci h0 q1 q2 q3 cL cI cJ f g h n)) (As : List Value) : PreV s H C h0 (va_Pc (.ref h0 :: As) (nt_in dC dI ci h0 q1 q2 q3 cL cI cJ f g h n H.size)) As :=
  ⟨nt_blind, va_recv (q0 := 0) hK hP hc rfl, fun U hU hW => ⟨rfl, by rw [hU], by rw [hU]; exact hP, va_K.moved hW.alike hK, hD.weaken (fun _ _ _ _ => trivial)⟩⟩
theorem nt_preS {s : State} {H : Heap} (As : List Value) : PreS s H (va_Pc As (fun U => U.heap.size = H.size)) As :=
  ⟨fun _ _ _ _ q => q, fun U hU _ => ⟨rfl, congrArg Array.size hU⟩⟩
section
variable {p : Program} {l : Launch} {e : Env} {R : Room} {s : State} {m : MethodId} {args : Array Value} {below : List Frame} {meth : Method} {c : Code} {H H0 : Heap} {locs : List Loc} {cells slots : Nat} {Q : State → Prop}
variable {cc : ByteArray} {pc : Nat} {ls : Array Slot} {rest st0 : List Value} {D : va_G} {cl : List vw_C} {A : Nat → Prop} {a : Nat} {tys : List (ClassId × FieldType)} {ws : va_W} {av : Array Value}
variable {dC : Nat → ClassId} {dI : Nat → Nat → Nat} {ci h0 q1 q2 q3 : Nat} {cL cI cJ : ClassId} {f : Nat → Int64} {g h : Nat → Int32} {n : Nat}
variable {cj h9 k1 k2 k3 : Nat} {eL eI eJ : ClassId} {f9 : Nat → Int64} {g9 i9 : Nat → Int32} {n9 : Nat}
theorem nt_here {gg : JFrame} (k : ∀ Q' : State → Prop, Q' = Q → W p l e R s m args below meth c H locs cells slots Q' gg) : W p l e R s m args below meth c H locs cells slots Q gg := k Q rfl
theorem nt_top {x y : Int32} (h : x = y) (k : W p l e R s m args below meth c H locs cells slots Q (F0 m pc ls (.int y :: rest))) : W p l e R s m args below meth c H locs cells slots Q (F0 m pc ls (.int x :: rest)) := by
  subst h
  exact k
theorem nt_lald (hexec : p.tables.exec = Jvm.exec) (hb : c.code = cc) (hK : va_K D cl tys s) (hP : va_P D cl ws H) (q0 t0 : Nat) {cA : ClassId} {f : Nat → Int64} (ha : ws[q0]? = some (a, .inl (cA, 900, .inr (.inl f)))) (ht : tys[t0]? = some (cA, .long)) {j : Nat} (hj : j < 900) (hdg : decode cc pc = .ok (.laload, 1))
    (kk : W p l e R s m args below meth c H locs cells slots Q (F0 m (pc + 1) ls (.long (f j) :: rest))) : W p l e R s m args below meth c H locs cells slots Q (F0 m pc ls (.int (nI j) :: .ref a :: rest)) :=
  va_lald hexec hb hK hP q0 t0 ha ht (vp_in_nI hj (by omega)) hdg (by rw [nI_clamp (by omega)]; exact kk)
theorem nt_iald (hexec : p.tables.exec = Jvm.exec) (hb : c.code = cc) (hK : va_K D cl tys s) (hP : va_P D cl ws H) (q0 t0 : Nat) {cA : ClassId} {f : Nat → Int32} (ha : ws[q0]? = some (a, .inl (cA, 900, .inl f))) (ht : tys[t0]? = some (cA, .int)) {j : Nat} (hj : j < 900) (hdg : decode cc pc = .ok (.iaload, 1))
    (kk : W p l e R s m args below meth c H locs cells slots Q (F0 m (pc + 1) ls (.int (f j) :: rest))) : W p l e R s m args below meth c H locs cells slots Q (F0 m pc ls (.int (nI j) :: .ref a :: rest)) :=
  va_iald hexec hb hK hP q0 t0 ha ht (vp_in_nI hj (by omega)) hdg (by rw [nI_clamp (by omega)]; exact kk)
theorem nt_last (hexec : p.tables.exec = Jvm.exec) (hb : c.code = cc) (hK : va_K D cl tys s) (hP : va_P D cl ws H) (hD : va_D A ws) (hS : va_S A H0 H locs) (q0 t0 : Nat) {cA : ClassId} {f : Nat → Int64} (ha : ws[q0]? = some (a, .inl (cA, 900, .inr (.inl f)))) (ht : tys[t0]? = some (cA, .long)) {j : Nat} {x : Int64} (hj : j < 900) (hdg : decode cc pc = .ok (.lastore, 1))
    (kk : ∀ (H1 : Heap) (locs1 : List Loc), va_P D cl (ws.set q0 (a, .inl (cA, 900, .inr (.inl (nt_up f j x))))) H1 → va_D A (ws.set q0 (a, .inl (cA, 900, .inr (.inl (nt_up f j x))))) → va_S A H0 H1 locs1 → W p l e R s m args below meth c H1 locs1 cells slots Q (F0 m (pc + 1) ls rest)) : W p l e R s m args below meth c H locs cells slots Q (F0 m pc ls (.long x :: .int (nI j) :: .ref a :: rest)) :=
  va_last hexec hb hK hP hD hS q0 t0 ha ht (vp_in_nI hj (by omega)) hdg (fun H1 locs1 h1 h2 h3 => by
    rw [nI_clamp (by omega)] at h1 h2
    exact kk H1 locs1 h1 h2 h3)
theorem nt_iast (hexec : p.tables.exec = Jvm.exec) (hb : c.code = cc) (hK : va_K D cl tys s) (hP : va_P D cl ws H) (hD : va_D A ws) (hS : va_S A H0 H locs) (q0 t0 : Nat) {cA : ClassId} {f : Nat → Int32} (ha : ws[q0]? = some (a, .inl (cA, 900, .inl f))) (ht : tys[t0]? = some (cA, .int)) {j : Nat} {x : Int32} (hj : j < 900) (hdg : decode cc pc = .ok (.iastore, 1))
    (kk : ∀ (H1 : Heap) (locs1 : List Loc), va_P D cl (ws.set q0 (a, .inl (cA, 900, .inl (nt_up f j x)))) H1 → va_D A (ws.set q0 (a, .inl (cA, 900, .inl (nt_up f j x)))) → va_S A H0 H1 locs1 → W p l e R s m args below meth c H1 locs1 cells slots Q (F0 m (pc + 1) ls rest)) : W p l e R s m args below meth c H locs cells slots Q (F0 m pc ls (.int x :: .int (nI j) :: .ref a :: rest)) :=
  va_iast hexec hb hK hP hD hS q0 t0 ha ht (vp_in_nI hj (by omega)) hdg (fun H1 locs1 h1 h2 h3 => by
    rw [nI_clamp (by omega)] at h1 h2
    exact kk H1 locs1 h1 h2 h3)
theorem nt_copyl (hexec : p.tables.exec = Jvm.exec) (hb : c.code = cc) (hml : c.maxLocals = ls.size) {own : String} {index : Nat} (hown : s.vm.findClass own = some m.cls) (hlink : (Cond.methodLink own index arraycopyName).before args s = true) (hnat : (Cond.native arraycopyName).before args s = true) (hstat : (Cond.static arraycopyName).before args s = true) (hini : (Cond.initialized "java/lang/System").before args s = true)
    (hK : va_K D cl tys s) (hP : va_P D cl ws H) (hD : va_D A ws) (hS : va_S A H0 H locs) (q0 t0 : Nat) {cA : ClassId} {f : Nat → Int64} (ha : ws[q0]? = some (a, .inl (cA, 900, .inr (.inl f)))) (ht : tys[t0]? = some (cA, .long)) {x y k : Nat} (hx : x + k ≤ 900) (hy : y + k ≤ 900)
    (hframes : 1 ≤ R.frames) (hlocals : (rest.map fun v => v.category).sum + (nativeFrameWords "java/lang/System" "arraycopy" 5 + 11) ≤ R.locals) (hdg : decode cc pc = .ok (.invokestatic index, 3))
    (kk : ∀ (H1 : Heap) (locs1 : List Loc), va_P D cl (ws.set q0 (a, .inl (cA, 900, .inr (.inl (va_cpy f f x y k))))) H1 → va_D A (ws.set q0 (a, .inl (cA, 900, .inr (.inl (va_cpy f f x y k))))) → va_S A H0 H1 locs1 → W p l e R s m args below meth c H1 locs1 cells slots Q (F0 m (pc + 3) ls rest)) : W p l e R s m args below meth c H locs cells slots Q (F0 m pc ls (.int (nI k) :: .int (nI y) :: .ref a :: .int (nI x) :: .ref a :: rest)) := by
  have e1 : (nI x).toNatClampNeg = x := nI_clamp (by omega)
  have e2 : (nI y).toNatClampNeg = y := nI_clamp (by omega)
  have e3 : (nI k).toNatClampNeg = k := nI_clamp (by omega)
  refine va_copyl hexec hb hml hown hlink hnat hstat hini hK hP hD hS q0 q0 t0 t0 ha ha ht ht rfl (nI_pos (by omega)) (nI_pos (by omega)) (nI_pos (by omega)) (by rw [e1, e3]; exact hx) (by rw [e2, e3]; exact hy) (fun _ _ => rfl) hframes hlocals hdg (fun H1 locs1 h1 h2 h3 => ?_)
  rw [e1, e2, e3] at h1 h2
  exact kk H1 locs1 h1 h2 h3
theorem nt_copyi (hexec : p.tables.exec = Jvm.exec) (hb : c.code = cc) (hml : c.maxLocals = ls.size) {own : String} {index : Nat} (hown : s.vm.findClass own = some m.cls) (hlink : (Cond.methodLink own index arraycopyName).before args s = true) (hnat : (Cond.native arraycopyName).before args s = true) (hstat : (Cond.static arraycopyName).before args s = true) (hini : (Cond.initialized "java/lang/System").before args s = true)
    (hK : va_K D cl tys s) (hP : va_P D cl ws H) (hD : va_D A ws) (hS : va_S A H0 H locs) (q0 t0 : Nat) {cA : ClassId} {f : Nat → Int32} (ha : ws[q0]? = some (a, .inl (cA, 900, .inl f))) (ht : tys[t0]? = some (cA, .int)) {x y k : Nat} (hx : x + k ≤ 900) (hy : y + k ≤ 900)
    (hframes : 1 ≤ R.frames) (hlocals : (rest.map fun v => v.category).sum + (nativeFrameWords "java/lang/System" "arraycopy" 5 + 11) ≤ R.locals) (hdg : decode cc pc = .ok (.invokestatic index, 3))
    (kk : ∀ (H1 : Heap) (locs1 : List Loc), va_P D cl (ws.set q0 (a, .inl (cA, 900, .inl (va_cpy f f x y k)))) H1 → va_D A (ws.set q0 (a, .inl (cA, 900, .inl (va_cpy f f x y k)))) → va_S A H0 H1 locs1 → W p l e R s m args below meth c H1 locs1 cells slots Q (F0 m (pc + 3) ls rest)) : W p l e R s m args below meth c H locs cells slots Q (F0 m pc ls (.int (nI k) :: .int (nI y) :: .ref a :: .int (nI x) :: .ref a :: rest)) := by
  have e1 : (nI x).toNatClampNeg = x := nI_clamp (by omega)
  have e2 : (nI y).toNatClampNeg = y := nI_clamp (by omega)
  have e3 : (nI k).toNatClampNeg = k := nI_clamp (by omega)
  refine va_copyi hexec hb hml hown hlink hnat hstat hini hK hP hD hS q0 q0 t0 t0 ha ha ht ht rfl (nI_pos (by omega)) (nI_pos (by omega)) (nI_pos (by omega)) (by rw [e1, e3]; exact hx) (by rw [e2, e3]; exact hy) (fun _ _ => rfl) hframes hlocals hdg (fun H1 locs1 h1 h2 h3 => ?_)
  rw [e1, e2, e3] at h1 h2
  exact kk H1 locs1 h1 h2 h3
/-- a call on the one object whose cells the world is: behind it the world is what came back -/
theorem nt_calli {post : Int32 → nt_S → Prop} (hr : va_Run p l e R s m args below meth c H locs cells slots 0 0 (F0 m pc ls st0) rest (va_Qi post (nt_out dC dI ci h0 q1 q2 q3 cL cI cJ (va_A (nt_w ci h0 q1 q2 q3 cL cI cJ f g h n) H.size)) (va_A (nt_w ci h0 q1 q2 q3 cL cI cJ f g h n) H.size) av) (va_A (nt_w ci h0 q1 q2 q3 cL cI cJ f g h n) H.size))
    (hP : va_P (dC, dI) vwCl (nt_w ci h0 q1 q2 q3 cL cI cJ f g h n) H) (hD : va_D A (nt_w ci h0 q1 q2 q3 cL cI cJ f g h n)) (hS : va_S A H0 H locs) (hA : ∀ q : Nat, H0.size ≤ q → A q)
    (kk : ∀ (r : Int32) (u : nt_S) (H1 : Heap) (locs1 : List Loc), post r u → va_P (dC, dI) vwCl (nt_w ci h0 q1 q2 q3 cL cI cJ u.1 u.2.1 u.2.2.1 u.2.2.2) H1 → va_D A (nt_w ci h0 q1 q2 q3 cL cI cJ u.1 u.2.1 u.2.2.1 u.2.2.2) → va_S A H0 H1 locs1 → W p l e R s m args below meth c H1 locs1 cells slots Q (F0 m (pc + 3) ls (.int r :: rest))) : W p l e R s m args below meth c H locs cells slots Q (F0 m pc ls st0) := by
  have hFc := va_free (wc := nt_w ci h0 q1 q2 q3 cL cI cJ f g h n) hD hS hA [0, 1, 2, 3] rfl
  refine va_calli hr hS (fun q _ h => hFc q h) hFc (fun r u t H1 locs1 ht hvm hw hB hz1 hk1 hS => ?_)
  obtain ⟨hP1, hK1, hD1⟩ := hB
  rw [ht] at hP1
  obtain ⟨hP2, hD2⟩ := va_join (wr := []) (w1 := nt_w ci h0 q1 q2 q3 cL cI cJ u.1 u.2.1 u.2.2.1 u.2.2.2) hP hD [0, 1, 2, 3] [] rfl rfl (by decide) (by decide) hk1 hFc hP1 hD1
  exact kk r u H1 locs1 hw hP2 hD2 hS
theorem nt_callv {post : nt_S → Prop} (hr : va_Run p l e R s m args below meth c H locs cells slots 0 0 (F0 m pc ls st0) rest (va_Qv post (nt_out dC dI ci h0 q1 q2 q3 cL cI cJ (va_A (nt_w ci h0 q1 q2 q3 cL cI cJ f g h n) H.size)) (va_A (nt_w ci h0 q1 q2 q3 cL cI cJ f g h n) H.size) av) (va_A (nt_w ci h0 q1 q2 q3 cL cI cJ f g h n) H.size))
    (hP : va_P (dC, dI) vwCl (nt_w ci h0 q1 q2 q3 cL cI cJ f g h n) H) (hD : va_D A (nt_w ci h0 q1 q2 q3 cL cI cJ f g h n)) (hS : va_S A H0 H locs) (hA : ∀ q : Nat, H0.size ≤ q → A q)
    (kk : ∀ (u : nt_S) (H1 : Heap) (locs1 : List Loc), post u → va_P (dC, dI) vwCl (nt_w ci h0 q1 q2 q3 cL cI cJ u.1 u.2.1 u.2.2.1 u.2.2.2) H1 → va_D A (nt_w ci h0 q1 q2 q3 cL cI cJ u.1 u.2.1 u.2.2.1 u.2.2.2) → va_S A H0 H1 locs1 → W p l e R s m args below meth c H1 locs1 cells slots Q (F0 m (pc + 3) ls rest)) : W p l e R s m args below meth c H locs cells slots Q (F0 m pc ls st0) := by
  have hFc := va_free (wc := nt_w ci h0 q1 q2 q3 cL cI cJ f g h n) hD hS hA [0, 1, 2, 3] rfl
  refine va_callv hr hS (fun q _ h => hFc q h) hFc (fun u t H1 locs1 ht hvm hw hB hz1 hk1 hS => ?_)
  obtain ⟨hP1, hK1, hD1⟩ := hB
  rw [ht] at hP1
  obtain ⟨hP2, hD2⟩ := va_join (wr := []) (w1 := nt_w ci h0 q1 q2 q3 cL cI cJ u.1 u.2.1 u.2.2.1 u.2.2.2) hP hD [0, 1, 2, 3] [] rfl rfl (by decide) (by decide) hk1 hFc hP1 hD1
  exact kk u H1 locs1 hw hP2 hD2 hS
/-- a call of a static method that touches no cell -/
theorem nt_calls {post : Int32 → Unit → Prop} (hr : va_Run p l e R s m args below meth c H locs cells slots 0 0 (F0 m pc ls st0) rest (va_Qi post (fun _ _ => True) (va_A [] H.size) av) (va_A [] H.size))
    (hP : va_P (dC, dI) vwCl (nt_w ci h0 q1 q2 q3 cL cI cJ f g h n) H) (hD : va_D A (nt_w ci h0 q1 q2 q3 cL cI cJ f g h n)) (hS : va_S A H0 H locs) (hA : ∀ q : Nat, H0.size ≤ q → A q)
    (kk : ∀ (r : Int32) (H1 : Heap) (locs1 : List Loc), post r () → va_P (dC, dI) vwCl (nt_w ci h0 q1 q2 q3 cL cI cJ f g h n) H1 → va_D A (nt_w ci h0 q1 q2 q3 cL cI cJ f g h n) → va_S A H0 H1 locs1 → W p l e R s m args below meth c H1 locs1 cells slots Q (F0 m (pc + 3) ls (.int r :: rest))) : W p l e R s m args below meth c H locs cells slots Q (F0 m pc ls st0) := by
  have hFc := va_free (wc := []) hD hS hA [] rfl
  refine va_calli hr hS (fun q _ h => hFc q h) hFc (fun r u t H1 locs1 ht hvm hw hB hz1 hk1 hS => ?_)
  obtain ⟨hP2, hD2⟩ := va_join (wr := nt_w ci h0 q1 q2 q3 cL cI cJ f g h n) (w1 := []) hP hD [] [0, 1, 2, 3] rfl rfl (by decide) (by decide) hk1 hFc (fun k q h => by simp at h) ⟨fun i j x y h => by simp at h, fun k q h => by simp at h⟩
  exact kk r H1 locs1 hw hP2 hD2 hS
/-- the law's calls: of two objects the first is called, and comes back behind the other -/
theorem nt_calli2 {post : Int32 → nt_S → Prop} (hr : va_Run p l e R s m args below meth c H locs cells slots 0 0 (F0 m pc ls st0) rest (va_Qi post (nt_out dC dI ci h0 q1 q2 q3 cL cI cJ (va_A (nt_w ci h0 q1 q2 q3 cL cI cJ f g h n) H.size)) (va_A (nt_w ci h0 q1 q2 q3 cL cI cJ f g h n) H.size) av) (va_A (nt_w ci h0 q1 q2 q3 cL cI cJ f g h n) H.size))
    (hP : va_P (dC, dI) vwCl (nt_w ci h0 q1 q2 q3 cL cI cJ f g h n ++ nt_w cj h9 k1 k2 k3 eL eI eJ f9 g9 i9 n9) H) (hD : va_D A (nt_w ci h0 q1 q2 q3 cL cI cJ f g h n ++ nt_w cj h9 k1 k2 k3 eL eI eJ f9 g9 i9 n9)) (hS : va_S A H0 H locs) (hA : ∀ q : Nat, H0.size ≤ q → A q)
    (kk : ∀ (r : Int32) (u : nt_S) (H1 : Heap) (locs1 : List Loc), post r u → va_P (dC, dI) vwCl (nt_w cj h9 k1 k2 k3 eL eI eJ f9 g9 i9 n9 ++ nt_w ci h0 q1 q2 q3 cL cI cJ u.1 u.2.1 u.2.2.1 u.2.2.2) H1 → va_D A (nt_w cj h9 k1 k2 k3 eL eI eJ f9 g9 i9 n9 ++ nt_w ci h0 q1 q2 q3 cL cI cJ u.1 u.2.1 u.2.2.1 u.2.2.2) → va_S A H0 H1 locs1 → W p l e R s m args below meth c H1 locs1 cells slots Q (F0 m (pc + 3) ls (.int r :: rest))) : W p l e R s m args below meth c H locs cells slots Q (F0 m pc ls st0) := by
  have hFc := va_free (wc := nt_w ci h0 q1 q2 q3 cL cI cJ f g h n) hD hS hA [0, 1, 2, 3] rfl
  refine va_calli hr hS (fun q _ h => hFc q h) hFc (fun r u t H1 locs1 ht hvm hw hB hz1 hk1 hS => ?_)
  obtain ⟨hP1, hK1, hD1⟩ := hB
  rw [ht] at hP1
  obtain ⟨hP2, hD2⟩ := va_join (wr := nt_w cj h9 k1 k2 k3 eL eI eJ f9 g9 i9 n9) (w1 := nt_w ci h0 q1 q2 q3 cL cI cJ u.1 u.2.1 u.2.2.1 u.2.2.2) hP hD [0, 1, 2, 3] [4, 5, 6, 7] rfl rfl (by decide) (by decide) hk1 hFc hP1 hD1
  exact kk r u H1 locs1 hw hP2 hD2 hS
theorem nt_calll2 {post : Int64 → nt_S → Prop} (hr : va_Run p l e R s m args below meth c H locs cells slots 0 0 (F0 m pc ls st0) rest (va_Ql post (nt_out dC dI ci h0 q1 q2 q3 cL cI cJ (va_A (nt_w ci h0 q1 q2 q3 cL cI cJ f g h n) H.size)) (va_A (nt_w ci h0 q1 q2 q3 cL cI cJ f g h n) H.size) av) (va_A (nt_w ci h0 q1 q2 q3 cL cI cJ f g h n) H.size))
    (hP : va_P (dC, dI) vwCl (nt_w ci h0 q1 q2 q3 cL cI cJ f g h n ++ nt_w cj h9 k1 k2 k3 eL eI eJ f9 g9 i9 n9) H) (hD : va_D A (nt_w ci h0 q1 q2 q3 cL cI cJ f g h n ++ nt_w cj h9 k1 k2 k3 eL eI eJ f9 g9 i9 n9)) (hS : va_S A H0 H locs) (hA : ∀ q : Nat, H0.size ≤ q → A q)
    (kk : ∀ (r : Int64) (u : nt_S) (H1 : Heap) (locs1 : List Loc), post r u → va_P (dC, dI) vwCl (nt_w cj h9 k1 k2 k3 eL eI eJ f9 g9 i9 n9 ++ nt_w ci h0 q1 q2 q3 cL cI cJ u.1 u.2.1 u.2.2.1 u.2.2.2) H1 → va_D A (nt_w cj h9 k1 k2 k3 eL eI eJ f9 g9 i9 n9 ++ nt_w ci h0 q1 q2 q3 cL cI cJ u.1 u.2.1 u.2.2.1 u.2.2.2) → va_S A H0 H1 locs1 → W p l e R s m args below meth c H1 locs1 cells slots Q (F0 m (pc + 3) ls (.long r :: rest))) : W p l e R s m args below meth c H locs cells slots Q (F0 m pc ls st0) := by
  have hFc := va_free (wc := nt_w ci h0 q1 q2 q3 cL cI cJ f g h n) hD hS hA [0, 1, 2, 3] rfl
  refine va_calll hr hS (fun q _ h => hFc q h) hFc (fun r u t H1 locs1 ht hvm hw hB hz1 hk1 hS => ?_)
  obtain ⟨hP1, hK1, hD1⟩ := hB
  rw [ht] at hP1
  obtain ⟨hP2, hD2⟩ := va_join (wr := nt_w cj h9 k1 k2 k3 eL eI eJ f9 g9 i9 n9) (w1 := nt_w ci h0 q1 q2 q3 cL cI cJ u.1 u.2.1 u.2.2.1 u.2.2.2) hP hD [0, 1, 2, 3] [4, 5, 6, 7] rfl rfl (by decide) (by decide) hk1 hFc hP1 hD1
  exact kk r u H1 locs1 hw hP2 hD2 hS
end
end
section
/-! The two constructors' start, the law's script. -/
def nt_0 : nt_S := (fun _ => 0, fun _ => 0, fun _ => 0, 0)
theorem nt_0_ok : nt_ok nt_0 := ⟨Nat.zero_le _, fun _ j _ h => absurd h (Nat.not_lt_zero j)⟩
/-- the addresses and array kinds of a new object -/
abbrev nt_N : Type := Nat × Nat × Nat × ClassId × ClassId × ClassId
abbrev nt_new (dC : Nat → ClassId) (dI : Nat → Nat → Nat) (ci h0 : Nat) (A : Nat → Prop) (u : nt_N) (t : State) : Prop := nt_out dC dI ci h0 u.1 u.2.1 u.2.2.1 u.2.2.2.1 u.2.2.2.2.1 u.2.2.2.2.2 A nt_0 t
theorem nt_zl : ∀ cA : ClassId, vp_cell cA (900, .inr (.inl (fun _ => 0))) = arrV cA 900 (fun _ => defaultValue .long) := fun _ => rfl
theorem nt_zi : ∀ cA : ClassId, vp_cell cA (900, .inl (fun _ => 0)) = arrV cA 900 (fun _ => defaultValue .int) := fun _ => rfl
section
variable {p : Program} {l : Launch} {e : Env} {R : Room} {s : State} {m : MethodId} {args : Array Value} {below : List Frame} {meth : Method} {c : Code} {H H0 : Heap} {locs : List Loc} {cells slots : Nat} {Q : State → Prop}
variable {cc : ByteArray} {pc : Nat} {ls : Array Slot} {rest : List Value} {A : Nat → Prop}
theorem nt_sld (hexec : p.tables.exec = Jvm.exec) (hb : c.code = cc) {b L : Nat} {xs : Nat → Int32} (hX : va_X b L xs s H0) (hbl : b < H0.size) (hbA : ¬ A b) (hS : va_S A H0 H locs) {j : Nat} (hj : j < L) (hL : L ≤ 3584) (hdg : decode cc pc = .ok (.iaload, 1))
    (kk : W p l e R s m args below meth c H locs cells slots Q (F0 m (pc + 1) ls (.int (xs j) :: rest))) : W p l e R s m args below meth c H locs cells slots Q (F0 m pc ls (.int (nI j) :: .ref b :: rest)) :=
  va_sld hexec hb hX hbl hbA hS (vp_in_nI hj (by omega)) hdg (by rw [nI_clamp (by omega)]; exact kk)
end
end
section
set_option maxHeartbeats 4000000 in
set_option maxRecDepth 100000 in
theorem kX_isIndex (l : Launch) (sz : Nat) (ix : Int32) : Met l yX0_isIndex wsX0_isIndex ({ frames := 0, cells := 0, slots := 0, locals := 0 } : Room) (va_Pc [.int ix] (fun U => U.heap.size = sz)) (va_Qi (fun (r : Int32) (_ : Unit) => nt_b r (¬ (ix < 0 ∨ 7 < ix))) (fun _ _ => True) (va_A [] sz)) 0 0 (va_A [] sz) := by
  refine Met.ofW (cc := cX0_isIndex) (maxL := 1) (ret := (some .boolean)) (by decide) rfl ?_
  intro p e s m args below meth c s₁ B hml hv
  obtain ⟨rfl, hsz⟩ := hv
  have hx := B.exec
  have hb := B.bytes
  have hr := B.returns
  have hlocks := B.notSynchronized
  subst hsz
  have hS : va_S (va_A [] s.heap.size) s.heap s.heap [] := va_S.rf
  have hl := lv_entry ([.int ix]) (n := 1) (Nat.le_of_ble_eq_true rfl)
  rw [lg_entry_eq]
  generalize (lg_sl ([.int ix]) ++ List.replicate (1 - (lg_sl ([.int ix])).length) Slot.unset).toArray = ls at hl ⊢
  have hl : lv_has ls 1 [(0, .int ix)] := hl
  refine lv_iload_n hx hb dX0_isIndex_0 rfl (lv_at hl 0 rfl) ?_
  refine lv_if_lt (tgt := 14) hx hb dX0_isIndex_1 (by decide) (fun h1 => ?_) (fun h1 => ?_)
  · refine lv_iconst (v := 0) hx hb dX0_isIndex_14 (by decide) ?_
    exact W.zret (v := 0) hx hb hr narrow_b0 (fun t ht hW => ⟨⟨0, (), rfl, Or.inr ⟨rfl, fun h9 => h9 (Or.inl h1)⟩, trivial⟩, hS.F ht⟩) hS.2.2 dX0_isIndex_15
  · refine lv_iload_n hx hb dX0_isIndex_4 rfl (lv_at hl 0 rfl) ?_
    refine lv_bipush (v := 8) hx hb dX0_isIndex_5 (by decide) ?_
    refine lv_icmp_ge (tgt := 14) hx hb dX0_isIndex_7 (by decide) (fun h2 => ?_) (fun h2 => ?_)
    · refine lv_iconst (v := 0) hx hb dX0_isIndex_14 (by decide) ?_
      exact W.zret (v := 0) hx hb hr narrow_b0 (fun t ht hW => ⟨⟨0, (), rfl, Or.inr ⟨rfl, fun h9 => h9 (Or.inr ((nt_ix8 ix).mp h2))⟩, trivial⟩, hS.F ht⟩) hS.2.2 dX0_isIndex_15
    · refine lv_iconst (v := 1) hx hb dX0_isIndex_10 (by decide) ?_
      refine lv_goto (tgt := 15) hx hb dX0_isIndex_11 (by decide) ?_
      exact W.zret (v := 1) hx hb hr narrow_b1 (fun t ht hW => ⟨⟨1, (), rfl, Or.inl ⟨rfl, fun h9 => h9.elim h1 (fun h8 => h2 ((nt_ix8 ix).mpr h8))⟩, trivial⟩, hS.F ht⟩) hS.2.2 dX0_isIndex_15
set_option maxHeartbeats 4000000 in
set_option maxRecDepth 100000 in
/-- is k a place -/
theorem kX_isPlace (l : Launch) (dC : Nat → ClassId) (dI : Nat → Nat → Nat) (h0 q1 q2 q3 sz : Nat) (cL cI cJ : ClassId) (f : Nat → Int64) (g h : Nat → Int32) (n : Nat) (k : Int32) (hn : n ≤ 900) : Met l yX0_isPlace wsX0_isPlace ({ frames := 0, cells := 0, slots := 0, locals := 0 } : Room) (va_Pc [.ref h0, .int k] (nt_in dC dI 0 h0 q1 q2 q3 cL cI cJ f g h n sz)) (va_Qi (fun (r : Int32) (u : nt_S) => nt_b r (¬ (k < 0 ∨ nI n ≤ k)) ∧ u = (f, g, h, n)) (nt_out dC dI 0 h0 q1 q2 q3 cL cI cJ (va_A (nt_w 0 h0 q1 q2 q3 cL cI cJ f g h n) sz)) (va_A (nt_w 0 h0 q1 q2 q3 cL cI cJ f g h n) sz)) 0 0 (va_A (nt_w 0 h0 q1 q2 q3 cL cI cJ f g h n) sz) := by
  refine Met.ofW (cc := cX0_isPlace) (maxL := 2) (ret := (some .boolean)) (by decide) rfl ?_
  intro p e s m args below meth c s₁ B hml hv
  obtain ⟨rfl, hsz, hP, hK, hD0⟩ := hv
  have hx := B.exec
  have hb := B.bytes
  have hr := B.returns
  have hts := atoms_spec (ws := wsX0_isPlace) B.pre
  have hown : s.vm.findClass RX0 = some m.cls := findClass_of_methodNamed B.named
  have hlocks := B.notSynchronized
  subst hsz
  have hD := hD0.self (sz := s.heap.size)
  generalize hAe : va_A (nt_w 0 h0 q1 q2 q3 cL cI cJ f g h n) s.heap.size = A at hD ⊢
  have hA : ∀ q : Nat, s.heap.size ≤ q → A q := fun q h => by rw [← hAe]; exact Or.inr h
  have hS : va_S A s.heap s.heap [] := va_S.rf
  have hin : ∀ w ∈ u_ws RX0 TX0 4, w ∈ wsX0_isPlace := by decide +kernel
  have hf3 := hts (.fieldLink RX0 20 "NameTable" "count" "I") (by decide +kernel)
  have hl := lv_entry ([.ref h0, .int k]) (n := 2) (Nat.le_of_ble_eq_true rfl)
  rw [lg_entry_eq]
  generalize (lg_sl ([.ref h0, .int k]) ++ List.replicate (2 - (lg_sl ([.ref h0, .int k])).length) Slot.unset).toArray = ls at hl ⊢
  have hl : lv_has ls 2 [(0, .ref h0), (1, .int k)] := hl
  refine lv_iload_n hx hb dX0_isPlace_0 rfl (lv_at hl 1 rfl) ?_
  refine lv_if_lt (tgt := 16) hx hb dX0_isPlace_1 (by decide) (fun h1 => ?_) (fun h1 => ?_)
  · refine lv_iconst (v := 0) hx hb dX0_isPlace_16 (by decide) ?_
    exact W.zret (v := 0) hx hb hr narrow_b0 (fun t ht hW => ⟨⟨0, (f, g, h, n), rfl, ⟨Or.inr ⟨rfl, fun h9 => h9 (Or.inl h1)⟩, rfl⟩, by rw [ht]; exact hP, va_K.moved hW.alike hK, hD⟩, hS.F ht⟩) hS.2.2 dX0_isPlace_17
  · refine lv_iload_n hx hb dX0_isPlace_4 rfl (lv_at hl 1 rfl) ?_
    refine lv_aload_n hx hb dX0_isPlace_5 rfl (lv_at hl 0 rfl) ?_
    refine va_get (D := (dC, dI)) (ci := 0) (v := .int (nI n)) (C := RX0) (T := TX0) (N := 4) hx hb hts hin hown hK hP 0 rfl rfl 3 (by decide) hf3 (fun _ h9 => h9) rfl dX0_isPlace_6 ?_
    refine lv_icmp_ge (tgt := 16) hx hb dX0_isPlace_9 (by decide) (fun h2 => ?_) (fun h2 => ?_)
    · refine lv_iconst (v := 0) hx hb dX0_isPlace_16 (by decide) ?_
      exact W.zret (v := 0) hx hb hr narrow_b0 (fun t ht hW => ⟨⟨0, (f, g, h, n), rfl, ⟨Or.inr ⟨rfl, fun h9 => h9 (Or.inr h2)⟩, rfl⟩, by rw [ht]; exact hP, va_K.moved hW.alike hK, hD⟩, hS.F ht⟩) hS.2.2 dX0_isPlace_17
    · refine lv_iconst (v := 1) hx hb dX0_isPlace_12 (by decide) ?_
      refine lv_goto (tgt := 17) hx hb dX0_isPlace_13 (by decide) ?_
      exact W.zret (v := 1) hx hb hr narrow_b1 (fun t ht hW => ⟨⟨1, (f, g, h, n), rfl, ⟨Or.inl ⟨rfl, fun h9 => h9.elim h1 h2⟩, rfl⟩, by rw [ht]; exact hP, va_K.moved hW.alike hK, hD⟩, hS.F ht⟩) hS.2.2 dX0_isPlace_17
set_option maxHeartbeats 4000000 in
set_option maxRecDepth 100000 in
/-- has the coin at j this name -/
theorem kX_isNamed (l : Launch) (dC : Nat → ClassId) (dI : Nat → Nat → Nat) (h0 q1 q2 q3 sz : Nat) (cL cI cJ : ClassId) (f : Nat → Int64) (g h : Nat → Int32) (n : Nat) (j : Nat) (id : Int64) (ix : Int32) (hj : j ≤ 900) (hn : n ≤ 900) : Met l yX0_isNamed wsX0_isNamed ({ frames := 1, cells := 0, slots := 0, locals := 40 } : Room) (va_Pc [.ref h0, .int (nI j), .long id, .int ix] (nt_in dC dI 0 h0 q1 q2 q3 cL cI cJ f g h n sz)) (va_Qi (fun (r : Int32) (u : nt_S) => nt_b r (nt_is (f, g, h, n) id ix j) ∧ u = (f, g, h, n)) (nt_out dC dI 0 h0 q1 q2 q3 cL cI cJ (va_A (nt_w 0 h0 q1 q2 q3 cL cI cJ f g h n) sz)) (va_A (nt_w 0 h0 q1 q2 q3 cL cI cJ f g h n) sz)) 0 0 (va_A (nt_w 0 h0 q1 q2 q3 cL cI cJ f g h n) sz) := by
  refine Met.ofW (cc := cX0_isNamed) (maxL := 5) (ret := (some .boolean)) (by decide) rfl ?_
  intro p e s m args below meth c s₁ B hml hv
  obtain ⟨rfl, hsz, hP, hK, hD0⟩ := hv
  have hx := B.exec
  have hb := B.bytes
  have hr := B.returns
  have hts := atoms_spec (ws := wsX0_isNamed) B.pre
  have hown : s.vm.findClass RX0 = some m.cls := findClass_of_methodNamed B.named
  have hlocks := B.notSynchronized
  subst hsz
  have hD := hD0.self (sz := s.heap.size)
  generalize hAe : va_A (nt_w 0 h0 q1 q2 q3 cL cI cJ f g h n) s.heap.size = A at hD ⊢
  have hA : ∀ q : Nat, s.heap.size ≤ q → A q := fun q h => by rw [← hAe]; exact Or.inr h
  have hS : va_S A s.heap s.heap [] := va_S.rf
  have hin : ∀ w ∈ u_ws RX0 TX0 4, w ∈ wsX0_isNamed := by decide +kernel
  have hf0 := hts (.fieldLink RX0 9 "NameTable" "ids" "[J") (by decide +kernel)
  have hf1 := hts (.fieldLink RX0 13 "NameTable" "indexes" "[I") (by decide +kernel)
  have hl := lv_entry ([.ref h0, .int (nI j), .long id, .int ix]) (n := 5) (Nat.le_of_ble_eq_true rfl)
  rw [lg_entry_eq]
  generalize (lg_sl ([.ref h0, .int (nI j), .long id, .int ix]) ++ List.replicate (5 - (lg_sl ([.ref h0, .int (nI j), .long id, .int ix])).length) Slot.unset).toArray = ls at hl ⊢
  have hl : lv_has ls 5 [(0, .ref h0), (1, .int (nI j)), (2, .long id), (4, .int ix)] := hl
  refine lv_aload_n hx hb dX0_isNamed_0 rfl (lv_at hl 0 rfl) ?_
  refine lv_iload_n hx hb dX0_isNamed_1 rfl (lv_at hl 1 rfl) ?_
  refine nt_calli (va_runV (As := [.int (nI j)]) (rest := []) ⟨hx, hb, hml, hown, hts⟩ (kX_isPlace l dC dI h0 q1 q2 q3 _ cL cI cJ f g h n (nI j) hn) (cwV 1 hts gX0_isNamed_X0_isPlace rfl rfl rfl (by decide +kernel) ⟨Nat.le_of_ble_eq_true rfl, Nat.le_of_ble_eq_true rfl⟩) (nt_preV rfl hP hK hD [.int (nI j)]) rfl rfl hl.1 rfl (lv_room (Nat.le_of_ble_eq_true rfl)) dX0_isNamed_2 ⟨Nat.zero_le _, Nat.zero_le _⟩) hP hD hS hA (fun r u H locs hpost hP hD hS => ?_)
  obtain ⟨hpost, rfl⟩ := hpost
  have hP : va_P (dC, dI) vwCl (nt_w 0 h0 q1 q2 q3 cL cI cJ f g h n) H := hP
  have hD : va_D A (nt_w 0 h0 q1 q2 q3 cL cI cJ f g h n) := hD
  rcases hpost with ⟨rfl, hc⟩ | ⟨rfl, hc⟩
  · refine lv_if_eq (tgt := 34) hx hb dX0_isNamed_5 (by decide) (fun h9 => absurd h9 (by decide)) (fun _ => ?_)
    have hjn : j < n := Nat.lt_of_not_le (fun h9 => hc (Or.inr (nI_le h9 (by omega))))
    refine lv_aload_n hx hb dX0_isNamed_8 rfl (lv_at hl 0 rfl) ?_
    refine va_get (D := (dC, dI)) (ci := 0) (v := .ref q1) (C := RX0) (T := TX0) (N := 4) hx hb hts hin hown hK hP 0 rfl rfl 0 (by decide) hf0 (fun _ h9 => h9) rfl dX0_isNamed_9 ?_
    refine lv_iload_n hx hb dX0_isNamed_12 rfl (lv_at hl 1 rfl) ?_
    refine nt_lald hx hb hK hP 1 0 rfl rfl (by omega) dX0_isNamed_13 ?_
    refine lv_lload_n hx hb dX0_isNamed_14 rfl (lv_at hl 2 rfl) ?_
    refine W.lcmp hx hb dX0_isNamed_15 ?_
    refine lv_if_ne (tgt := 34) hx hb dX0_isNamed_16 (by decide) (fun h1 => ?_) (fun h1 => ?_)
    · refine lv_iconst (v := 0) hx hb dX0_isNamed_34 (by decide) ?_
      exact W.zret (v := 0) hx hb hr narrow_b0 (fun t ht hW => ⟨⟨0, (f, g, h, n), rfl, ⟨Or.inr ⟨rfl, fun h9 => h1 ((lg_cmp_eq _ _).mpr h9.2.1)⟩, rfl⟩, by rw [ht]; exact hP, va_K.moved hW.alike hK, hD⟩, hS.F ht⟩) hS.2.2 dX0_isNamed_35
    · have h1 : f j = id := (lg_cmp_eq _ _).mp h1
      refine lv_aload_n hx hb dX0_isNamed_19 rfl (lv_at hl 0 rfl) ?_
      refine va_get (D := (dC, dI)) (ci := 0) (v := .ref q2) (C := RX0) (T := TX0) (N := 4) hx hb hts hin hown hK hP 0 rfl rfl 1 (by decide) hf1 (fun _ h9 => h9) rfl dX0_isNamed_20 ?_
      refine lv_iload_n hx hb dX0_isNamed_23 rfl (lv_at hl 1 rfl) ?_
      refine nt_iald hx hb hK hP 2 1 rfl rfl (by omega) dX0_isNamed_24 ?_
      refine lv_iload hx hb dX0_isNamed_25 (lv_at hl 3 rfl) ?_
      refine lv_icmp_ne (tgt := 34) hx hb dX0_isNamed_27 (by decide) (fun h2 => ?_) (fun h2 => ?_)
      · refine lv_iconst (v := 0) hx hb dX0_isNamed_34 (by decide) ?_
        exact W.zret (v := 0) hx hb hr narrow_b0 (fun t ht hW => ⟨⟨0, (f, g, h, n), rfl, ⟨Or.inr ⟨rfl, fun h9 => h2 h9.2.2⟩, rfl⟩, by rw [ht]; exact hP, va_K.moved hW.alike hK, hD⟩, hS.F ht⟩) hS.2.2 dX0_isNamed_35
      · refine lv_iconst (v := 1) hx hb dX0_isNamed_30 (by decide) ?_
        refine lv_goto (tgt := 35) hx hb dX0_isNamed_31 (by decide) ?_
        exact W.zret (v := 1) hx hb hr narrow_b1 (fun t ht hW => ⟨⟨1, (f, g, h, n), rfl, ⟨Or.inl ⟨rfl, hjn, h1, h2⟩, rfl⟩, by rw [ht]; exact hP, va_K.moved hW.alike hK, hD⟩, hS.F ht⟩) hS.2.2 dX0_isNamed_35
  · refine lv_if_eq (tgt := 34) hx hb dX0_isNamed_5 (by decide) (fun _ => ?_) (fun h9 => absurd h9 (by decide))
    refine lv_iconst (v := 0) hx hb dX0_isNamed_34 (by decide) ?_
    exact W.zret (v := 0) hx hb hr narrow_b0 (fun t ht hW => ⟨⟨0, (f, g, h, n), rfl, ⟨Or.inr ⟨rfl, fun h9 => hc (nt_out_of hn h9.1 rfl)⟩, rfl⟩, by rw [ht]; exact hP, va_K.moved hW.alike hK, hD⟩, hS.F ht⟩) hS.2.2 dX0_isNamed_35
set_option maxHeartbeats 4000000 in
set_option maxRecDepth 100000 in
/-- is the name of the coin at j before this one -/
theorem kX_isBefore (l : Launch) (dC : Nat → ClassId) (dI : Nat → Nat → Nat) (h0 q1 q2 q3 sz : Nat) (cL cI cJ : ClassId) (f : Nat → Int64) (g h : Nat → Int32) (n : Nat) (j : Nat) (id : Int64) (ix : Int32) (hj : j < 900) : Met l yX0_isBefore wsX0_isBefore ({ frames := 0, cells := 0, slots := 0, locals := 0 } : Room) (va_Pc [.ref h0, .int (nI j), .long id, .int ix] (nt_in dC dI 0 h0 q1 q2 q3 cL cI cJ f g h n sz)) (va_Qi (fun (r : Int32) (u : nt_S) => nt_b r (nt_K (f, g, h, n) j < nt_k id ix) ∧ u = (f, g, h, n)) (nt_out dC dI 0 h0 q1 q2 q3 cL cI cJ (va_A (nt_w 0 h0 q1 q2 q3 cL cI cJ f g h n) sz)) (va_A (nt_w 0 h0 q1 q2 q3 cL cI cJ f g h n) sz)) 0 0 (va_A (nt_w 0 h0 q1 q2 q3 cL cI cJ f g h n) sz) := by
  refine Met.ofW (cc := cX0_isBefore) (maxL := 5) (ret := (some .boolean)) (by decide) rfl ?_
  intro p e s m args below meth c s₁ B hml hv
  obtain ⟨rfl, hsz, hP, hK, hD0⟩ := hv
  have hx := B.exec
  have hb := B.bytes
  have hr := B.returns
  have hts := atoms_spec (ws := wsX0_isBefore) B.pre
  have hown : s.vm.findClass RX0 = some m.cls := findClass_of_methodNamed B.named
  have hlocks := B.notSynchronized
  subst hsz
  have hD := hD0.self (sz := s.heap.size)
  generalize hAe : va_A (nt_w 0 h0 q1 q2 q3 cL cI cJ f g h n) s.heap.size = A at hD ⊢
  have hA : ∀ q : Nat, s.heap.size ≤ q → A q := fun q h => by rw [← hAe]; exact Or.inr h
  have hS : va_S A s.heap s.heap [] := va_S.rf
  have hin : ∀ w ∈ u_ws RX0 TX0 4, w ∈ wsX0_isBefore := by decide +kernel
  have hf0 := hts (.fieldLink RX0 9 "NameTable" "ids" "[J") (by decide +kernel)
  have hf1 := hts (.fieldLink RX0 13 "NameTable" "indexes" "[I") (by decide +kernel)
  have hl := lv_entry ([.ref h0, .int (nI j), .long id, .int ix]) (n := 5) (Nat.le_of_ble_eq_true rfl)
  rw [lg_entry_eq]
  generalize (lg_sl ([.ref h0, .int (nI j), .long id, .int ix]) ++ List.replicate (5 - (lg_sl ([.ref h0, .int (nI j), .long id, .int ix])).length) Slot.unset).toArray = ls at hl ⊢
  have hl : lv_has ls 5 [(0, .ref h0), (1, .int (nI j)), (2, .long id), (4, .int ix)] := hl
  have hk : nt_K (f, g, h, n) j < nt_k id ix ↔ (f j < id ∨ (f j = id ∧ g j < ix)) := nt_k_lt _ _ _ _
  refine lv_aload_n hx hb dX0_isBefore_0 rfl (lv_at hl 0 rfl) ?_
  refine va_get (D := (dC, dI)) (ci := 0) (v := .ref q1) (C := RX0) (T := TX0) (N := 4) hx hb hts hin hown hK hP 0 rfl rfl 0 (by decide) hf0 (fun _ h9 => h9) rfl dX0_isBefore_1 ?_
  refine lv_iload_n hx hb dX0_isBefore_4 rfl (lv_at hl 1 rfl) ?_
  refine nt_lald hx hb hK hP 1 0 rfl rfl (by omega) dX0_isBefore_5 ?_
  refine lv_lload_n hx hb dX0_isBefore_6 rfl (lv_at hl 2 rfl) ?_
  refine W.lcmp hx hb dX0_isBefore_7 ?_
  refine lv_if_lt (tgt := 33) hx hb dX0_isBefore_8 (by decide) (fun h1 => ?_) (fun h1 => ?_)
  · refine lv_iconst (v := 1) hx hb dX0_isBefore_33 (by decide) ?_
    refine lv_goto (tgt := 38) hx hb dX0_isBefore_34 (by decide) ?_
    exact W.zret (v := 1) hx hb hr narrow_b1 (fun t ht hW => ⟨⟨1, (f, g, h, n), rfl, ⟨Or.inl ⟨rfl, hk.mpr (Or.inl ((lg_cmp_lt _ _).mp h1))⟩, rfl⟩, by rw [ht]; exact hP, va_K.moved hW.alike hK, hD⟩, hS.F ht⟩) hS.2.2 dX0_isBefore_38
  · have h1 : ¬ f j < id := fun h9 => h1 ((lg_cmp_lt _ _).mpr h9)
    refine lv_aload_n hx hb dX0_isBefore_11 rfl (lv_at hl 0 rfl) ?_
    refine va_get (D := (dC, dI)) (ci := 0) (v := .ref q1) (C := RX0) (T := TX0) (N := 4) hx hb hts hin hown hK hP 0 rfl rfl 0 (by decide) hf0 (fun _ h9 => h9) rfl dX0_isBefore_12 ?_
    refine lv_iload_n hx hb dX0_isBefore_15 rfl (lv_at hl 1 rfl) ?_
    refine nt_lald hx hb hK hP 1 0 rfl rfl (by omega) dX0_isBefore_16 ?_
    refine lv_lload_n hx hb dX0_isBefore_17 rfl (lv_at hl 2 rfl) ?_
    refine W.lcmp hx hb dX0_isBefore_18 ?_
    refine lv_if_ne (tgt := 37) hx hb dX0_isBefore_19 (by decide) (fun h2 => ?_) (fun h2 => ?_)
    · refine lv_iconst (v := 0) hx hb dX0_isBefore_37 (by decide) ?_
      exact W.zret (v := 0) hx hb hr narrow_b0 (fun t ht hW => ⟨⟨0, (f, g, h, n), rfl, ⟨Or.inr ⟨rfl, fun h9 => (hk.mp h9).elim h1 (fun h8 => h2 ((lg_cmp_eq _ _).mpr h8.1))⟩, rfl⟩, by rw [ht]; exact hP, va_K.moved hW.alike hK, hD⟩, hS.F ht⟩) hS.2.2 dX0_isBefore_38
    · have h2 : f j = id := (lg_cmp_eq _ _).mp h2
      refine lv_aload_n hx hb dX0_isBefore_22 rfl (lv_at hl 0 rfl) ?_
      refine va_get (D := (dC, dI)) (ci := 0) (v := .ref q2) (C := RX0) (T := TX0) (N := 4) hx hb hts hin hown hK hP 0 rfl rfl 1 (by decide) hf1 (fun _ h9 => h9) rfl dX0_isBefore_23 ?_
      refine lv_iload_n hx hb dX0_isBefore_26 rfl (lv_at hl 1 rfl) ?_
      refine nt_iald hx hb hK hP 2 1 rfl rfl (by omega) dX0_isBefore_27 ?_
      refine lv_iload hx hb dX0_isBefore_28 (lv_at hl 3 rfl) ?_
      refine lv_icmp_ge (tgt := 37) hx hb dX0_isBefore_30 (by decide) (fun h3 => ?_) (fun h3 => ?_)
      · refine lv_iconst (v := 0) hx hb dX0_isBefore_37 (by decide) ?_
        exact W.zret (v := 0) hx hb hr narrow_b0 (fun t ht hW => ⟨⟨0, (f, g, h, n), rfl, ⟨Or.inr ⟨rfl, fun h9 => (hk.mp h9).elim h1 (fun h8 => Int32.not_le.mpr h8.2 h3)⟩, rfl⟩, by rw [ht]; exact hP, va_K.moved hW.alike hK, hD⟩, hS.F ht⟩) hS.2.2 dX0_isBefore_38
      · refine lv_iconst (v := 1) hx hb dX0_isBefore_33 (by decide) ?_
        refine lv_goto (tgt := 38) hx hb dX0_isBefore_34 (by decide) ?_
        exact W.zret (v := 1) hx hb hr narrow_b1 (fun t ht hW => ⟨⟨1, (f, g, h, n), rfl, ⟨Or.inl ⟨rfl, hk.mpr (Or.inr ⟨h2, Int32.not_le.mp h3⟩)⟩, rfl⟩, by rw [ht]; exact hP, va_K.moved hW.alike hK, hD⟩, hS.F ht⟩) hS.2.2 dX0_isBefore_38
set_option maxHeartbeats 4000000 in
set_option maxRecDepth 100000 in
/-- the coins from a on move to b -/
theorem kX_moveTail (l : Launch) (dC : Nat → ClassId) (dI : Nat → Nat → Nat) (h0 q1 q2 q3 sz : Nat) (cL cI cJ : ClassId) (f : Nat → Int64) (g h : Nat → Int32) (n : Nat) (a b : Nat) (ha : a ≤ n) (hab : b + (n - a) ≤ 900) (hn : n ≤ 900) : Met l yX0_moveTail wsX0_moveTail ({ frames := 1, cells := 0, slots := 0, locals := 40 } : Room) (va_Pc [.ref h0, .int (nI a), .int (nI b)] (nt_in dC dI 0 h0 q1 q2 q3 cL cI cJ f g h n sz)) (va_Qv (fun (u : nt_S) => u = (va_cpy f f a b (n - a), va_cpy g g a b (n - a), va_cpy h h a b (n - a), n)) (nt_out dC dI 0 h0 q1 q2 q3 cL cI cJ (va_A (nt_w 0 h0 q1 q2 q3 cL cI cJ f g h n) sz)) (va_A (nt_w 0 h0 q1 q2 q3 cL cI cJ f g h n) sz)) 0 0 (va_A (nt_w 0 h0 q1 q2 q3 cL cI cJ f g h n) sz) := by
  refine Met.ofW (cc := cX0_moveTail) (maxL := 4) (ret := none) (by decide) rfl ?_
  intro p e s m args below meth c s₁ B hml hv
  obtain ⟨rfl, hsz, hP, hK, hD0⟩ := hv
  have hx := B.exec
  have hb := B.bytes
  have hr := B.returns
  have hts := atoms_spec (ws := wsX0_moveTail) B.pre
  have hown : s.vm.findClass RX0 = some m.cls := findClass_of_methodNamed B.named
  have hlocks := B.notSynchronized
  subst hsz
  have hD := hD0.self (sz := s.heap.size)
  generalize hAe : va_A (nt_w 0 h0 q1 q2 q3 cL cI cJ f g h n) s.heap.size = A at hD ⊢
  have hA : ∀ q : Nat, s.heap.size ≤ q → A q := fun q h => by rw [← hAe]; exact Or.inr h
  have hS : va_S A s.heap s.heap [] := va_S.rf
  have hin : ∀ w ∈ u_ws RX0 TX0 4, w ∈ wsX0_moveTail := by decide +kernel
  have hf0 := hts (.fieldLink RX0 9 "NameTable" "ids" "[J") (by decide +kernel)
  have hf1 := hts (.fieldLink RX0 13 "NameTable" "indexes" "[I") (by decide +kernel)
  have hf2 := hts (.fieldLink RX0 17 "NameTable" "values" "[I") (by decide +kernel)
  have hf3 := hts (.fieldLink RX0 20 "NameTable" "count" "I") (by decide +kernel)
  have hl := lv_entry ([.ref h0, .int (nI a), .int (nI b)]) (n := 4) (Nat.le_of_ble_eq_true rfl)
  rw [lg_entry_eq]
  generalize (lg_sl ([.ref h0, .int (nI a), .int (nI b)]) ++ List.replicate (4 - (lg_sl ([.ref h0, .int (nI a), .int (nI b)])).length) Slot.unset).toArray = ls at hl ⊢
  have hl : lv_has ls 4 [(0, .ref h0), (1, .int (nI a)), (2, .int (nI b))] := hl
  have hcl := hts (.methodLink RX0 58 arraycopyName) (by decide +kernel)
  have hcn := hts (.native arraycopyName) (by decide +kernel)
  have hcs := hts (.static arraycopyName) (by decide +kernel)
  have hci := hts (.initialized "java/lang/System") (by decide +kernel)
  refine lv_aload_n hx hb dX0_moveTail_0 rfl (lv_at hl 0 rfl) ?_
  refine va_get (D := (dC, dI)) (ci := 0) (v := .int (nI n)) (C := RX0) (T := TX0) (N := 4) hx hb hts hin hown hK hP 0 rfl rfl 3 (by decide) hf3 (fun _ h9 => h9) rfl dX0_moveTail_1 ?_
  refine lv_iload_n hx hb dX0_moveTail_4 rfl (lv_at hl 1 rfl) ?_
  refine lv_isub hx hb dX0_moveTail_5 ?_
  refine nt_top (y := nI (n - a)) (pk_sub ha) ?_
  refine lv_istore_n (lv' := [(3, .int (nI (n - a))), (0, .ref h0), (1, .int (nI a)), (2, .int (nI b))]) hx hb dX0_moveTail_6 rfl hl (by decide) rfl (fun ls hl => ?_)
  refine lv_aload_n hx hb dX0_moveTail_7 rfl (lv_at hl 1 rfl) ?_
  refine va_get (D := (dC, dI)) (ci := 0) (v := .ref q1) (C := RX0) (T := TX0) (N := 4) hx hb hts hin hown hK hP 0 rfl rfl 0 (by decide) hf0 (fun _ h9 => h9) rfl dX0_moveTail_8 ?_
  refine lv_iload_n hx hb dX0_moveTail_11 rfl (lv_at hl 2 rfl) ?_
  refine lv_aload_n hx hb dX0_moveTail_12 rfl (lv_at hl 1 rfl) ?_
  refine va_get (D := (dC, dI)) (ci := 0) (v := .ref q1) (C := RX0) (T := TX0) (N := 4) hx hb hts hin hown hK hP 0 rfl rfl 0 (by decide) hf0 (fun _ h9 => h9) rfl dX0_moveTail_13 ?_
  refine lv_iload_n hx hb dX0_moveTail_16 rfl (lv_at hl 3 rfl) ?_
  refine lv_iload_n hx hb dX0_moveTail_17 rfl (lv_at hl 0 rfl) ?_
  refine nt_copyl hx hb (hml.trans hl.1.symm) hown hcl hcn hcs hci hK hP hD hS 1 0 rfl rfl (x := a) (y := b) (k := n - a) (by omega) hab (Nat.le_of_ble_eq_true rfl) (by decide +kernel) dX0_moveTail_18 (fun H locs hP hD hS => ?_)
  have hP : va_P (dC, dI) vwCl (nt_w 0 h0 q1 q2 q3 cL cI cJ (va_cpy f f a b (n - a)) g h n) H := hP
  have hD : va_D A (nt_w 0 h0 q1 q2 q3 cL cI cJ (va_cpy f f a b (n - a)) g h n) := hD
  refine lv_aload_n hx hb dX0_moveTail_21 rfl (lv_at hl 1 rfl) ?_
  refine va_get (D := (dC, dI)) (ci := 0) (v := .ref q2) (C := RX0) (T := TX0) (N := 4) hx hb hts hin hown hK hP 0 rfl rfl 1 (by decide) hf1 (fun _ h9 => h9) rfl dX0_moveTail_22 ?_
  refine lv_iload_n hx hb dX0_moveTail_25 rfl (lv_at hl 2 rfl) ?_
  refine lv_aload_n hx hb dX0_moveTail_26 rfl (lv_at hl 1 rfl) ?_
  refine va_get (D := (dC, dI)) (ci := 0) (v := .ref q2) (C := RX0) (T := TX0) (N := 4) hx hb hts hin hown hK hP 0 rfl rfl 1 (by decide) hf1 (fun _ h9 => h9) rfl dX0_moveTail_27 ?_
  refine lv_iload_n hx hb dX0_moveTail_30 rfl (lv_at hl 3 rfl) ?_
  refine lv_iload_n hx hb dX0_moveTail_31 rfl (lv_at hl 0 rfl) ?_
  refine nt_copyi hx hb (hml.trans hl.1.symm) hown hcl hcn hcs hci hK hP hD hS 2 1 rfl rfl (x := a) (y := b) (k := n - a) (by omega) hab (Nat.le_of_ble_eq_true rfl) (by decide +kernel) dX0_moveTail_32 (fun H locs hP hD hS => ?_)
  have hP : va_P (dC, dI) vwCl (nt_w 0 h0 q1 q2 q3 cL cI cJ (va_cpy f f a b (n - a)) (va_cpy g g a b (n - a)) h n) H := hP
  have hD : va_D A (nt_w 0 h0 q1 q2 q3 cL cI cJ (va_cpy f f a b (n - a)) (va_cpy g g a b (n - a)) h n) := hD
  refine lv_aload_n hx hb dX0_moveTail_35 rfl (lv_at hl 1 rfl) ?_
  refine va_get (D := (dC, dI)) (ci := 0) (v := .ref q3) (C := RX0) (T := TX0) (N := 4) hx hb hts hin hown hK hP 0 rfl rfl 2 (by decide) hf2 (fun _ h9 => h9) rfl dX0_moveTail_36 ?_
  refine lv_iload_n hx hb dX0_moveTail_39 rfl (lv_at hl 2 rfl) ?_
  refine lv_aload_n hx hb dX0_moveTail_40 rfl (lv_at hl 1 rfl) ?_
  refine va_get (D := (dC, dI)) (ci := 0) (v := .ref q3) (C := RX0) (T := TX0) (N := 4) hx hb hts hin hown hK hP 0 rfl rfl 2 (by decide) hf2 (fun _ h9 => h9) rfl dX0_moveTail_41 ?_
  refine lv_iload_n hx hb dX0_moveTail_44 rfl (lv_at hl 3 rfl) ?_
  refine lv_iload_n hx hb dX0_moveTail_45 rfl (lv_at hl 0 rfl) ?_
  refine nt_copyi hx hb (hml.trans hl.1.symm) hown hcl hcn hcs hci hK hP hD hS 3 2 rfl rfl (x := a) (y := b) (k := n - a) (by omega) hab (Nat.le_of_ble_eq_true rfl) (by decide +kernel) dX0_moveTail_46 (fun H locs hP hD hS => ?_)
  have hP : va_P (dC, dI) vwCl (nt_w 0 h0 q1 q2 q3 cL cI cJ (va_cpy f f a b (n - a)) (va_cpy g g a b (n - a)) (va_cpy h h a b (n - a)) n) H := hP
  have hD : va_D A (nt_w 0 h0 q1 q2 q3 cL cI cJ (va_cpy f f a b (n - a)) (va_cpy g g a b (n - a)) (va_cpy h h a b (n - a)) n) := hD
  exact W.vret hx hb hr (fun t ht hW => ⟨⟨(va_cpy f f a b (n - a), va_cpy g g a b (n - a), va_cpy h h a b (n - a), n), rfl, rfl, by rw [ht]; exact hP, va_K.moved hW.alike hK, hD⟩, hS.F ht⟩) hS.2.2 dX0_moveTail_49
end
section
set_option maxHeartbeats 4000000 in
set_option maxRecDepth 100000 in
/-- the place of a name, by halving strides -/
theorem kX_placeFor (l : Launch) (dC : Nat → ClassId) (dI : Nat → Nat → Nat) (h0 q1 q2 q3 sz : Nat) (cL cI cJ : ClassId) (f : Nat → Int64) (g h : Nat → Int32) (n : Nat) (id : Int64) (ix : Int32) (hn : n ≤ 900) (hsr : nt_srt (f, g, h, n)) : Met l yX0_placeFor wsX0_placeFor ({ frames := 1, cells := 0, slots := 0, locals := 40 } : Room) (va_Pc [.ref h0, .long id, .int ix] (nt_in dC dI 0 h0 q1 q2 q3 cL cI cJ f g h n sz)) (va_Qi (fun (r : Int32) (u : nt_S) => (∃ pl : Nat, r = nI pl ∧ nt_at (f, g, h, n) (nt_k id ix) pl) ∧ u = (f, g, h, n)) (nt_out dC dI 0 h0 q1 q2 q3 cL cI cJ (va_A (nt_w 0 h0 q1 q2 q3 cL cI cJ f g h n) sz)) (va_A (nt_w 0 h0 q1 q2 q3 cL cI cJ f g h n) sz)) 0 0 (va_A (nt_w 0 h0 q1 q2 q3 cL cI cJ f g h n) sz) := by
  refine Met.ofW (cc := cX0_placeFor) (maxL := 7) (ret := (some .int)) (by decide) rfl ?_
  intro p e s m args below meth c s₁ B hml hv
  obtain ⟨rfl, hsz, hP, hK, hD0⟩ := hv
  have hx := B.exec
  have hb := B.bytes
  have hr := B.returns
  have hts := atoms_spec (ws := wsX0_placeFor) B.pre
  have hown : s.vm.findClass RX0 = some m.cls := findClass_of_methodNamed B.named
  have hlocks := B.notSynchronized
  subst hsz
  have hD := hD0.self (sz := s.heap.size)
  generalize hAe : va_A (nt_w 0 h0 q1 q2 q3 cL cI cJ f g h n) s.heap.size = A at hD ⊢
  have hA : ∀ q : Nat, s.heap.size ≤ q → A q := fun q h => by rw [← hAe]; exact Or.inr h
  have hS : va_S A s.heap s.heap [] := va_S.rf
  have hin : ∀ w ∈ u_ws RX0 TX0 4, w ∈ wsX0_placeFor := by decide +kernel
  have hf3 := hts (.fieldLink RX0 20 "NameTable" "count" "I") (by decide +kernel)
  have hl := lv_entry ([.ref h0, .long id, .int ix]) (n := 7) (Nat.le_of_ble_eq_true rfl)
  rw [lg_entry_eq]
  generalize (lg_sl ([.ref h0, .long id, .int ix]) ++ List.replicate (7 - (lg_sl ([.ref h0, .long id, .int ix])).length) Slot.unset).toArray = ls at hl ⊢
  have hl : lv_has ls 7 [(0, .ref h0), (1, .long id), (3, .int ix)] := hl
  refine lv_iconst (v := nI 0) hx hb dX0_placeFor_0 (by decide) ?_
  refine lv_istore (lv' := [(4, .int (nI 0)), (0, .ref h0), (1, .long id), (3, .int ix)]) hx hb dX0_placeFor_1 hl (by decide) rfl (fun ls hl => ?_)
  refine lv_sipush (v := nI 512) hx hb dX0_placeFor_3 (by decide) ?_
  refine lv_istore (lv' := [(5, .int (nI 512)), (4, .int (nI 0)), (0, .ref h0), (1, .long id), (3, .int ix)]) hx hb dX0_placeFor_6 hl (by decide) rfl (fun ls hl => ?_)
  refine nt_here (fun Q hQ => ?_)
  have loop : ∀ (i : Nat), i ≤ 10 → ∀ (pl : Nat) (ls : Array Slot) (H : Heap) (locs : List Loc), pl ≤ n → (∀ j, j < pl → nt_K (f, g, h, n) j < nt_k id ix) → (∀ j, pl + 2 ^ i - 1 ≤ j → j < n → nt_k id ix ≤ nt_K (f, g, h, n) j) → lv_has ls 7 [(0, .ref h0), (1, .long id), (3, .int ix), (4, .int (nI pl)), (5, .int (nI (2 ^ i / 2)))] → va_P (dC, dI) vwCl (nt_w 0 h0 q1 q2 q3 cL cI cJ f g h n) H → va_D A (nt_w 0 h0 q1 q2 q3 cL cI cJ f g h n) → va_S A s.heap H locs → W p l e ({ frames := 1, cells := 0, slots := 0, locals := 40 } : Room) s m ([.ref h0, .long id, .int ix] : List Value).toArray below meth c H locs 0 0 Q (F0 m 8 ls []) := by
    intro i
    induction i with
    | zero =>
      intro hi pl ls H locs hp1 hp2 hp3 hl hP hD hS
      refine lv_iload hx hb dX0_placeFor_8 (lv_at hl 4 rfl) ?_
      refine lv_if_le (tgt := 55) hx hb dX0_placeFor_10 (by decide) (fun hc => ?_) (fun hc => ?_)
      · refine lv_iload hx hb dX0_placeFor_55 (lv_at hl 3 rfl) ?_
        subst hQ
        exact W.iret (v := nI pl) hx hb hr (fun t ht hW => ⟨⟨nI pl, (f, g, h, n), rfl, ⟨⟨pl, rfl, hp1, hp2, fun h9 => hp3 pl (by simp) h9⟩, rfl⟩, by rw [ht]; exact hP, va_K.moved hW.alike hK, hD⟩, hS.F ht⟩) hS.2.2 dX0_placeFor_57
      · exact absurd (show nI (2 ^ 0 / 2) ≤ 0 by decide) hc
    | succ i ih =>
      intro hi pl ls H locs hp1 hp2 hp3 hl hP hD hS
      have e2 : 2 ^ (i + 1) / 2 = 2 ^ i := by rw [Nat.pow_succ]; omega
      have e3 : 2 ^ (i + 1) = 2 * 2 ^ i := by rw [Nat.pow_succ]; omega
      have hw1 : 1 ≤ 2 ^ i := Nat.one_le_two_pow
      have hw2 : 2 ^ i ≤ 512 := Nat.le_trans (Nat.pow_le_pow_right (by decide) (show i ≤ 9 by omega)) (by decide)
      rw [e2] at hl
      rw [e3] at hp3
      refine lv_iload hx hb dX0_placeFor_8 (lv_at hl 4 rfl) ?_
      refine lv_if_le (tgt := 55) hx hb dX0_placeFor_10 (by decide) (fun h1 => ?_) (fun h1 => ?_)
      · exact absurd h1 (nI_nle (by omega) (by omega))
      · refine lv_iload hx hb dX0_placeFor_13 (lv_at hl 3 rfl) ?_
        refine lv_iload hx hb dX0_placeFor_15 (lv_at hl 4 rfl) ?_
        refine lv_iadd hx hb dX0_placeFor_17 ?_
        refine nt_top (y := nI (pl + 2 ^ i)) (nI_add _ _) ?_
        refine lv_istore (lv' := [(6, .int (nI (pl + 2 ^ i))), (0, .ref h0), (1, .long id), (3, .int ix), (4, .int (nI pl)), (5, .int (nI (2 ^ i)))]) hx hb dX0_placeFor_18 hl (by decide) rfl (fun ls hl => ?_)
        refine lv_iload hx hb dX0_placeFor_20 (lv_at hl 0 rfl) ?_
        refine lv_aload_n hx hb dX0_placeFor_22 rfl (lv_at hl 1 rfl) ?_
        refine va_get (D := (dC, dI)) (ci := 0) (v := .int (nI n)) (C := RX0) (T := TX0) (N := 4) hx hb hts hin hown hK hP 0 rfl rfl 3 (by decide) hf3 (fun _ h9 => h9) rfl dX0_placeFor_23 ?_
        refine lv_icmp_gt (tgt := 46) hx hb dX0_placeFor_26 (by decide) (fun hc => ?_) (fun hc => ?_)
        · have hc : n < pl + 2 ^ i := (nI_ltI (by omega) (by omega)).mp hc
          refine lv_iload hx hb dX0_placeFor_46 (lv_at hl 5 rfl) ?_
          refine lv_iconst (v := 2) hx hb dX0_placeFor_48 (by decide) ?_
          refine lv_idiv hx hb dX0_placeFor_49 (by decide) ?_
          refine nt_top (y := nI (2 ^ i / 2)) (pk_div (a := 2 ^ i) (d := 2) (by omega) (by decide) (by decide)) ?_
          refine lv_istore (lv' := [(5, .int (nI (2 ^ i / 2))), (6, .int (nI (pl + 2 ^ i))), (0, .ref h0), (1, .long id), (3, .int ix), (4, .int (nI pl))]) hx hb dX0_placeFor_50 hl (by decide) rfl (fun ls hl => ?_)
          refine lv_goto (tgt := 8) hx hb dX0_placeFor_52 (by decide) ?_
          exact ih (by omega) pl ls H locs (hp1) (hp2) (fun j h1 h2 => absurd h2 (by omega)) (lv_sub hl [2, 3, 4, 5, 0] rfl) hP hD hS
        · have hc : ¬ n < pl + 2 ^ i := fun h9 => hc ((nI_ltI (by omega) (by omega)).mpr h9)
          refine lv_aload_n hx hb dX0_placeFor_29 rfl (lv_at hl 1 rfl) ?_
          refine lv_iload hx hb dX0_placeFor_30 (lv_at hl 0 rfl) ?_
          refine lv_iconst (v := 1) hx hb dX0_placeFor_32 (by decide) ?_
          refine lv_isub hx hb dX0_placeFor_33 ?_
          refine nt_top (y := nI (pl + 2 ^ i - 1)) (pk_sub (a := pl + 2 ^ i) (b := 1) (by omega)) ?_
          refine lv_lload_n hx hb dX0_placeFor_34 rfl (lv_at hl 2 rfl) ?_
          refine lv_iload_n hx hb dX0_placeFor_35 rfl (lv_at hl 3 rfl) ?_
          refine nt_calli (va_runV (As := [.int (nI (pl + 2 ^ i - 1)), .long id, .int ix]) (rest := []) ⟨hx, hb, hml, hown, hts⟩ (kX_isBefore l dC dI h0 q1 q2 q3 _ cL cI cJ f g h n (pl + 2 ^ i - 1) id ix (by omega)) (cwV 3 hts gX0_placeFor_X0_isBefore rfl rfl rfl (by decide +kernel) ⟨Nat.le_of_ble_eq_true rfl, Nat.le_of_ble_eq_true rfl⟩) (nt_preV rfl hP hK hD [.int (nI (pl + 2 ^ i - 1)), .long id, .int ix]) rfl rfl hl.1 rfl (lv_room (Nat.le_of_ble_eq_true rfl)) dX0_placeFor_36 ⟨Nat.zero_le _, Nat.zero_le _⟩) hP hD hS hA (fun r u H locs hpost hP hD hS => ?_)
          obtain ⟨hpost, rfl⟩ := hpost
          have hP : va_P (dC, dI) vwCl (nt_w 0 h0 q1 q2 q3 cL cI cJ f g h n) H := hP
          have hD : va_D A (nt_w 0 h0 q1 q2 q3 cL cI cJ f g h n) := hD
          rcases hpost with ⟨rfl, hd⟩ | ⟨rfl, hd⟩
          · refine lv_if_eq (tgt := 46) hx hb dX0_placeFor_39 (by decide) (fun h9 => absurd h9 (by decide)) (fun _ => ?_)
            refine lv_iload hx hb dX0_placeFor_42 (lv_at hl 0 rfl) ?_
            refine lv_istore (lv' := [(4, .int (nI (pl + 2 ^ i))), (6, .int (nI (pl + 2 ^ i))), (0, .ref h0), (1, .long id), (3, .int ix), (5, .int (nI (2 ^ i)))]) hx hb dX0_placeFor_44 hl (by decide) rfl (fun ls hl => ?_)
            refine lv_iload hx hb dX0_placeFor_46 (lv_at hl 5 rfl) ?_
            refine lv_iconst (v := 2) hx hb dX0_placeFor_48 (by decide) ?_
            refine lv_idiv hx hb dX0_placeFor_49 (by decide) ?_
            refine nt_top (y := nI (2 ^ i / 2)) (pk_div (a := 2 ^ i) (d := 2) (by omega) (by decide) (by decide)) ?_
            refine lv_istore (lv' := [(5, .int (nI (2 ^ i / 2))), (4, .int (nI (pl + 2 ^ i))), (6, .int (nI (pl + 2 ^ i))), (0, .ref h0), (1, .long id), (3, .int ix)]) hx hb dX0_placeFor_50 hl (by decide) rfl (fun ls hl => ?_)
            refine lv_goto (tgt := 8) hx hb dX0_placeFor_52 (by decide) ?_
            exact ih (by omega) (pl + 2 ^ i) ls H locs (by omega) (fun j h9 => Int.lt_of_le_of_lt (hsr j (pl + 2 ^ i - 1) (by omega) (by show pl + 2 ^ i - 1 < n; omega)) hd) (fun j h1 h2 => hp3 j (by omega) h2) (lv_sub hl [3, 4, 5, 1, 0] rfl) hP hD hS
          · refine lv_if_eq (tgt := 46) hx hb dX0_placeFor_39 (by decide) (fun _ => ?_) (fun h9 => absurd h9 (by decide))
            refine lv_iload hx hb dX0_placeFor_46 (lv_at hl 5 rfl) ?_
            refine lv_iconst (v := 2) hx hb dX0_placeFor_48 (by decide) ?_
            refine lv_idiv hx hb dX0_placeFor_49 (by decide) ?_
            refine nt_top (y := nI (2 ^ i / 2)) (pk_div (a := 2 ^ i) (d := 2) (by omega) (by decide) (by decide)) ?_
            refine lv_istore (lv' := [(5, .int (nI (2 ^ i / 2))), (6, .int (nI (pl + 2 ^ i))), (0, .ref h0), (1, .long id), (3, .int ix), (4, .int (nI pl))]) hx hb dX0_placeFor_50 hl (by decide) rfl (fun ls hl => ?_)
            refine lv_goto (tgt := 8) hx hb dX0_placeFor_52 (by decide) ?_
            exact ih (by omega) pl ls H locs (hp1) (hp2) (fun j h1 h2 => Int.le_trans (Int.not_lt.mp hd) (hsr (pl + 2 ^ i - 1) j (by omega) h2)) (lv_sub hl [2, 3, 4, 5, 0] rfl) hP hD hS
  exact loop 10 (by omega) 0 ls s.heap [] (Nat.zero_le _) (fun j h9 => absurd h9 (Nat.not_lt_zero j)) (fun j h1 h2 => absurd h2 (by omega)) (lv_sub hl [2, 3, 4, 1, 0] rfl) hP hD hS
end
section
set_option maxHeartbeats 4000000 in
set_option maxRecDepth 100000 in
/-- a coin comes to place j -/
theorem kX_insertAt (l : Launch) (dC : Nat → ClassId) (dI : Nat → Nat → Nat) (h0 q1 q2 q3 sz : Nat) (cL cI cJ : ClassId) (f : Nat → Int64) (g h : Nat → Int32) (n : Nat) (j : Nat) (id : Int64) (ix v : Int32) (hj : j ≤ n) (hn : n < 900) : Met l yX0_insertAt wsX0_insertAt ({ frames := 2, cells := 0, slots := 0, locals := 80 } : Room) (va_Pc [.ref h0, .int (nI j), .long id, .int ix, .int v] (nt_in dC dI 0 h0 q1 q2 q3 cL cI cJ f g h n sz)) (va_Qv (fun (u : nt_S) => u = nt_insS (f, g, h, n) j id ix v) (nt_out dC dI 0 h0 q1 q2 q3 cL cI cJ (va_A (nt_w 0 h0 q1 q2 q3 cL cI cJ f g h n) sz)) (va_A (nt_w 0 h0 q1 q2 q3 cL cI cJ f g h n) sz)) 0 0 (va_A (nt_w 0 h0 q1 q2 q3 cL cI cJ f g h n) sz) := by
  refine Met.ofW (cc := cX0_insertAt) (maxL := 6) (ret := none) (by decide) rfl ?_
  intro p e s m args below meth c s₁ B hml hv
  obtain ⟨rfl, hsz, hP, hK, hD0⟩ := hv
  have hx := B.exec
  have hb := B.bytes
  have hr := B.returns
  have hts := atoms_spec (ws := wsX0_insertAt) B.pre
  have hown : s.vm.findClass RX0 = some m.cls := findClass_of_methodNamed B.named
  have hlocks := B.notSynchronized
  subst hsz
  have hD := hD0.self (sz := s.heap.size)
  generalize hAe : va_A (nt_w 0 h0 q1 q2 q3 cL cI cJ f g h n) s.heap.size = A at hD ⊢
  have hA : ∀ q : Nat, s.heap.size ≤ q → A q := fun q h => by rw [← hAe]; exact Or.inr h
  have hS : va_S A s.heap s.heap [] := va_S.rf
  have hin : ∀ w ∈ u_ws RX0 TX0 4, w ∈ wsX0_insertAt := by decide +kernel
  have hf0 := hts (.fieldLink RX0 9 "NameTable" "ids" "[J") (by decide +kernel)
  have hf1 := hts (.fieldLink RX0 13 "NameTable" "indexes" "[I") (by decide +kernel)
  have hf2 := hts (.fieldLink RX0 17 "NameTable" "values" "[I") (by decide +kernel)
  have hf3 := hts (.fieldLink RX0 20 "NameTable" "count" "I") (by decide +kernel)
  have hl := lv_entry ([.ref h0, .int (nI j), .long id, .int ix, .int v]) (n := 6) (Nat.le_of_ble_eq_true rfl)
  rw [lg_entry_eq]
  generalize (lg_sl ([.ref h0, .int (nI j), .long id, .int ix, .int v]) ++ List.replicate (6 - (lg_sl ([.ref h0, .int (nI j), .long id, .int ix, .int v])).length) Slot.unset).toArray = ls at hl ⊢
  have hl : lv_has ls 6 [(0, .ref h0), (1, .int (nI j)), (2, .long id), (4, .int ix), (5, .int v)] := hl
  refine lv_aload_n hx hb dX0_insertAt_0 rfl (lv_at hl 0 rfl) ?_
  refine lv_iload_n hx hb dX0_insertAt_1 rfl (lv_at hl 1 rfl) ?_
  refine lv_iload_n hx hb dX0_insertAt_2 rfl (lv_at hl 1 rfl) ?_
  refine lv_iconst (v := 1) hx hb dX0_insertAt_3 (by decide) ?_
  refine lv_iadd hx hb dX0_insertAt_4 ?_
  refine nt_top (y := nI (j + 1)) (nI_1 _) ?_
  refine nt_callv (va_runV (As := [.int (nI j), .int (nI (j + 1))]) (rest := []) ⟨hx, hb, hml, hown, hts⟩ (kX_moveTail l dC dI h0 q1 q2 q3 _ cL cI cJ f g h n j (j + 1) hj (by omega) (by omega)) (cwV 2 hts gX0_insertAt_X0_moveTail rfl rfl rfl (by decide +kernel) ⟨Nat.le_of_ble_eq_true rfl, Nat.le_of_ble_eq_true rfl⟩) (nt_preV rfl hP hK hD [.int (nI j), .int (nI (j + 1))]) rfl rfl hl.1 rfl (lv_room (Nat.le_of_ble_eq_true rfl)) dX0_insertAt_5 ⟨Nat.zero_le _, Nat.zero_le _⟩) hP hD hS hA (fun u H locs hpost hP hD hS => ?_)
  subst hpost
  have hP : va_P (dC, dI) vwCl (nt_w 0 h0 q1 q2 q3 cL cI cJ (va_cpy f f j (j + 1) (n - j)) (va_cpy g g j (j + 1) (n - j)) (va_cpy h h j (j + 1) (n - j)) n) H := hP
  have hD : va_D A (nt_w 0 h0 q1 q2 q3 cL cI cJ (va_cpy f f j (j + 1) (n - j)) (va_cpy g g j (j + 1) (n - j)) (va_cpy h h j (j + 1) (n - j)) n) := hD
  refine lv_aload_n hx hb dX0_insertAt_8 rfl (lv_at hl 0 rfl) ?_
  refine va_get (D := (dC, dI)) (ci := 0) (v := .ref q1) (C := RX0) (T := TX0) (N := 4) hx hb hts hin hown hK hP 0 rfl rfl 0 (by decide) hf0 (fun _ h9 => h9) rfl dX0_insertAt_9 ?_
  refine lv_iload_n hx hb dX0_insertAt_12 rfl (lv_at hl 1 rfl) ?_
  refine lv_lload_n hx hb dX0_insertAt_13 rfl (lv_at hl 2 rfl) ?_
  refine nt_last hx hb hK hP hD hS 1 0 rfl rfl (by omega) dX0_insertAt_14 (fun H locs hP hD hS => ?_)
  have hP : va_P (dC, dI) vwCl (nt_w 0 h0 q1 q2 q3 cL cI cJ (nt_up (va_cpy f f j (j + 1) (n - j)) j id) (va_cpy g g j (j + 1) (n - j)) (va_cpy h h j (j + 1) (n - j)) n) H := hP
  have hD : va_D A (nt_w 0 h0 q1 q2 q3 cL cI cJ (nt_up (va_cpy f f j (j + 1) (n - j)) j id) (va_cpy g g j (j + 1) (n - j)) (va_cpy h h j (j + 1) (n - j)) n) := hD
  refine lv_aload_n hx hb dX0_insertAt_15 rfl (lv_at hl 0 rfl) ?_
  refine va_get (D := (dC, dI)) (ci := 0) (v := .ref q2) (C := RX0) (T := TX0) (N := 4) hx hb hts hin hown hK hP 0 rfl rfl 1 (by decide) hf1 (fun _ h9 => h9) rfl dX0_insertAt_16 ?_
  refine lv_iload_n hx hb dX0_insertAt_19 rfl (lv_at hl 1 rfl) ?_
  refine lv_iload hx hb dX0_insertAt_20 (lv_at hl 3 rfl) ?_
  refine nt_iast hx hb hK hP hD hS 2 1 rfl rfl (by omega) dX0_insertAt_22 (fun H locs hP hD hS => ?_)
  have hP : va_P (dC, dI) vwCl (nt_w 0 h0 q1 q2 q3 cL cI cJ (nt_up (va_cpy f f j (j + 1) (n - j)) j id) (nt_up (va_cpy g g j (j + 1) (n - j)) j ix) (va_cpy h h j (j + 1) (n - j)) n) H := hP
  have hD : va_D A (nt_w 0 h0 q1 q2 q3 cL cI cJ (nt_up (va_cpy f f j (j + 1) (n - j)) j id) (nt_up (va_cpy g g j (j + 1) (n - j)) j ix) (va_cpy h h j (j + 1) (n - j)) n) := hD
  refine lv_aload_n hx hb dX0_insertAt_23 rfl (lv_at hl 0 rfl) ?_
  refine va_get (D := (dC, dI)) (ci := 0) (v := .ref q3) (C := RX0) (T := TX0) (N := 4) hx hb hts hin hown hK hP 0 rfl rfl 2 (by decide) hf2 (fun _ h9 => h9) rfl dX0_insertAt_24 ?_
  refine lv_iload_n hx hb dX0_insertAt_27 rfl (lv_at hl 1 rfl) ?_
  refine lv_iload hx hb dX0_insertAt_28 (lv_at hl 4 rfl) ?_
  refine nt_iast hx hb hK hP hD hS 3 2 rfl rfl (by omega) dX0_insertAt_30 (fun H locs hP hD hS => ?_)
  have hP : va_P (dC, dI) vwCl (nt_w 0 h0 q1 q2 q3 cL cI cJ (nt_up (va_cpy f f j (j + 1) (n - j)) j id) (nt_up (va_cpy g g j (j + 1) (n - j)) j ix) (nt_up (va_cpy h h j (j + 1) (n - j)) j v) n) H := hP
  have hD : va_D A (nt_w 0 h0 q1 q2 q3 cL cI cJ (nt_up (va_cpy f f j (j + 1) (n - j)) j id) (nt_up (va_cpy g g j (j + 1) (n - j)) j ix) (nt_up (va_cpy h h j (j + 1) (n - j)) j v) n) := hD
  refine lv_aload_n hx hb dX0_insertAt_31 rfl (lv_at hl 0 rfl) ?_
  refine lv_dup hx hb dX0_insertAt_32 rfl ?_
  refine va_get (D := (dC, dI)) (ci := 0) (v := .int (nI n)) (C := RX0) (T := TX0) (N := 4) hx hb hts hin hown hK hP 0 rfl rfl 3 (by decide) hf3 (fun _ h9 => h9) rfl dX0_insertAt_33 ?_
  refine lv_iconst (v := 1) hx hb dX0_insertAt_36 (by decide) ?_
  refine lv_iadd hx hb dX0_insertAt_37 ?_
  refine nt_top (y := nI (n + 1)) (nI_1 _) ?_
  refine va_put (D := (dC, dI)) (ci := 0) (v := .int (nI (n + 1))) (ty := .int) (C := RX0) (T := TX0) (N := 4) hx hb hts hin tyX0 tyX0_ok nmX0 hown hK hP hD hS 0 rfl rfl 3 (by decide) hf3 (fun _ h9 => h9) rfl (by decide +kernel) rfl rfl (Nat.le_of_ble_eq_true rfl) dX0_insertAt_38 (fun H locs hP hD hS => ?_)
  have hP : va_P (dC, dI) vwCl (nt_w 0 h0 q1 q2 q3 cL cI cJ (nt_up (va_cpy f f j (j + 1) (n - j)) j id) (nt_up (va_cpy g g j (j + 1) (n - j)) j ix) (nt_up (va_cpy h h j (j + 1) (n - j)) j v) (n + 1)) H := hP
  have hD : va_D A (nt_w 0 h0 q1 q2 q3 cL cI cJ (nt_up (va_cpy f f j (j + 1) (n - j)) j id) (nt_up (va_cpy g g j (j + 1) (n - j)) j ix) (nt_up (va_cpy h h j (j + 1) (n - j)) j v) (n + 1)) := hD
  rw [nt_ins_cpy f hj, nt_ins_cpy g hj, nt_ins_cpy h hj] at hP hD
  exact W.vret hx hb hr (fun t ht hW => ⟨⟨nt_insS (f, g, h, n) j id ix v, rfl, rfl, by rw [ht]; exact hP, va_K.moved hW.alike hK, hD⟩, hS.F ht⟩) hS.2.2 dX0_insertAt_41
set_option maxHeartbeats 4000000 in
set_option maxRecDepth 100000 in
/-- the coin at place j goes -/
theorem kX_deleteAt (l : Launch) (dC : Nat → ClassId) (dI : Nat → Nat → Nat) (h0 q1 q2 q3 sz : Nat) (cL cI cJ : ClassId) (f : Nat → Int64) (g h : Nat → Int32) (n : Nat) (j : Nat) (hj : j < n) (hn : n ≤ 900) : Met l yX0_deleteAt wsX0_deleteAt ({ frames := 2, cells := 0, slots := 0, locals := 80 } : Room) (va_Pc [.ref h0, .int (nI j)] (nt_in dC dI 0 h0 q1 q2 q3 cL cI cJ f g h n sz)) (va_Qi (fun (r : Int32) (u : nt_S) => (r, u) = (h j, nt_delS (f, g, h, n) j)) (nt_out dC dI 0 h0 q1 q2 q3 cL cI cJ (va_A (nt_w 0 h0 q1 q2 q3 cL cI cJ f g h n) sz)) (va_A (nt_w 0 h0 q1 q2 q3 cL cI cJ f g h n) sz)) 0 0 (va_A (nt_w 0 h0 q1 q2 q3 cL cI cJ f g h n) sz) := by
  refine Met.ofW (cc := cX0_deleteAt) (maxL := 3) (ret := (some .int)) (by decide) rfl ?_
  intro p e s m args below meth c s₁ B hml hv
  obtain ⟨rfl, hsz, hP, hK, hD0⟩ := hv
  have hx := B.exec
  have hb := B.bytes
  have hr := B.returns
  have hts := atoms_spec (ws := wsX0_deleteAt) B.pre
  have hown : s.vm.findClass RX0 = some m.cls := findClass_of_methodNamed B.named
  have hlocks := B.notSynchronized
  subst hsz
  have hD := hD0.self (sz := s.heap.size)
  generalize hAe : va_A (nt_w 0 h0 q1 q2 q3 cL cI cJ f g h n) s.heap.size = A at hD ⊢
  have hA : ∀ q : Nat, s.heap.size ≤ q → A q := fun q h => by rw [← hAe]; exact Or.inr h
  have hS : va_S A s.heap s.heap [] := va_S.rf
  have hin : ∀ w ∈ u_ws RX0 TX0 4, w ∈ wsX0_deleteAt := by decide +kernel
  have hf2 := hts (.fieldLink RX0 17 "NameTable" "values" "[I") (by decide +kernel)
  have hf3 := hts (.fieldLink RX0 20 "NameTable" "count" "I") (by decide +kernel)
  have hl := lv_entry ([.ref h0, .int (nI j)]) (n := 3) (Nat.le_of_ble_eq_true rfl)
  rw [lg_entry_eq]
  generalize (lg_sl ([.ref h0, .int (nI j)]) ++ List.replicate (3 - (lg_sl ([.ref h0, .int (nI j)])).length) Slot.unset).toArray = ls at hl ⊢
  have hl : lv_has ls 3 [(0, .ref h0), (1, .int (nI j))] := hl
  refine lv_aload_n hx hb dX0_deleteAt_0 rfl (lv_at hl 0 rfl) ?_
  refine va_get (D := (dC, dI)) (ci := 0) (v := .ref q3) (C := RX0) (T := TX0) (N := 4) hx hb hts hin hown hK hP 0 rfl rfl 2 (by decide) hf2 (fun _ h9 => h9) rfl dX0_deleteAt_1 ?_
  refine lv_iload_n hx hb dX0_deleteAt_4 rfl (lv_at hl 1 rfl) ?_
  refine nt_iald hx hb hK hP 3 2 rfl rfl (by omega) dX0_deleteAt_5 ?_
  refine lv_istore_n (lv' := [(2, .int (h j)), (0, .ref h0), (1, .int (nI j))]) hx hb dX0_deleteAt_6 rfl hl (by decide) rfl (fun ls hl => ?_)
  refine lv_aload_n hx hb dX0_deleteAt_7 rfl (lv_at hl 1 rfl) ?_
  refine lv_iload_n hx hb dX0_deleteAt_8 rfl (lv_at hl 2 rfl) ?_
  refine lv_iconst (v := 1) hx hb dX0_deleteAt_9 (by decide) ?_
  refine lv_iadd hx hb dX0_deleteAt_10 ?_
  refine nt_top (y := nI (j + 1)) (nI_1 _) ?_
  refine lv_iload_n hx hb dX0_deleteAt_11 rfl (lv_at hl 2 rfl) ?_
  refine nt_callv (va_runV (As := [.int (nI (j + 1)), .int (nI j)]) (rest := []) ⟨hx, hb, hml, hown, hts⟩ (kX_moveTail l dC dI h0 q1 q2 q3 _ cL cI cJ f g h n (j + 1) j (by omega) (by omega) (by omega)) (cwV 2 hts gX0_deleteAt_X0_moveTail rfl rfl rfl (by decide +kernel) ⟨Nat.le_of_ble_eq_true rfl, Nat.le_of_ble_eq_true rfl⟩) (nt_preV rfl hP hK hD [.int (nI (j + 1)), .int (nI j)]) rfl rfl hl.1 rfl (lv_room (Nat.le_of_ble_eq_true rfl)) dX0_deleteAt_12 ⟨Nat.zero_le _, Nat.zero_le _⟩) hP hD hS hA (fun u H locs hpost hP hD hS => ?_)
  subst hpost
  have hP : va_P (dC, dI) vwCl (nt_w 0 h0 q1 q2 q3 cL cI cJ (va_cpy f f (j + 1) j (n - (j + 1))) (va_cpy g g (j + 1) j (n - (j + 1))) (va_cpy h h (j + 1) j (n - (j + 1))) n) H := hP
  have hD : va_D A (nt_w 0 h0 q1 q2 q3 cL cI cJ (va_cpy f f (j + 1) j (n - (j + 1))) (va_cpy g g (j + 1) j (n - (j + 1))) (va_cpy h h (j + 1) j (n - (j + 1))) n) := hD
  refine lv_aload_n hx hb dX0_deleteAt_15 rfl (lv_at hl 1 rfl) ?_
  refine lv_dup hx hb dX0_deleteAt_16 rfl ?_
  refine va_get (D := (dC, dI)) (ci := 0) (v := .int (nI n)) (C := RX0) (T := TX0) (N := 4) hx hb hts hin hown hK hP 0 rfl rfl 3 (by decide) hf3 (fun _ h9 => h9) rfl dX0_deleteAt_17 ?_
  refine lv_iconst (v := 1) hx hb dX0_deleteAt_20 (by decide) ?_
  refine lv_isub hx hb dX0_deleteAt_21 ?_
  refine nt_top (y := nI (n - 1)) (pk_sub (a := n) (b := 1) (by omega)) ?_
  refine va_put (D := (dC, dI)) (ci := 0) (v := .int (nI (n - 1))) (ty := .int) (C := RX0) (T := TX0) (N := 4) hx hb hts hin tyX0 tyX0_ok nmX0 hown hK hP hD hS 0 rfl rfl 3 (by decide) hf3 (fun _ h9 => h9) rfl (by decide +kernel) rfl rfl (Nat.le_of_ble_eq_true rfl) dX0_deleteAt_22 (fun H locs hP hD hS => ?_)
  have hP : va_P (dC, dI) vwCl (nt_w 0 h0 q1 q2 q3 cL cI cJ (va_cpy f f (j + 1) j (n - (j + 1))) (va_cpy g g (j + 1) j (n - (j + 1))) (va_cpy h h (j + 1) j (n - (j + 1))) (n - 1)) H := hP
  have hD : va_D A (nt_w 0 h0 q1 q2 q3 cL cI cJ (va_cpy f f (j + 1) j (n - (j + 1))) (va_cpy g g (j + 1) j (n - (j + 1))) (va_cpy h h (j + 1) j (n - (j + 1))) (n - 1)) := hD
  refine lv_iload_n hx hb dX0_deleteAt_25 rfl (lv_at hl 0 rfl) ?_
  rw [nt_del_cpy f hj, nt_del_cpy g hj, nt_del_cpy h hj] at hP hD
  exact W.iret (v := h j) hx hb hr (fun t ht hW => ⟨⟨h j, nt_delS (f, g, h, n) j, rfl, rfl, by rw [ht]; exact hP, va_K.moved hW.alike hK, hD⟩, hS.F ht⟩) hS.2.2 dX0_deleteAt_26
end
section
set_option maxHeartbeats 4000000 in
set_option maxRecDepth 100000 in
/-- promise 2 -/
theorem kX_add (l : Launch) (dC : Nat → ClassId) (dI : Nat → Nat → Nat) (h0 q1 q2 q3 sz : Nat) (cL cI cJ : ClassId) (f : Nat → Int64) (g h : Nat → Int32) (n : Nat) (id : Int64) (ix v : Int32) (hok : nt_ok (f, g, h, n)) : Met l yX0_add wsX0_add ({ frames := 3, cells := 0, slots := 0, locals := 120 } : Room) (va_Pc [.ref h0, .long id, .int ix, .int v] (nt_in dC dI 0 h0 q1 q2 q3 cL cI cJ f g h n sz)) (va_Qi (fun (r : Int32) (u : nt_S) => (r, u) = nt_add (f, g, h, n) id ix v) (nt_out dC dI 0 h0 q1 q2 q3 cL cI cJ (va_A (nt_w 0 h0 q1 q2 q3 cL cI cJ f g h n) sz)) (va_A (nt_w 0 h0 q1 q2 q3 cL cI cJ f g h n) sz)) 0 0 (va_A (nt_w 0 h0 q1 q2 q3 cL cI cJ f g h n) sz) := by
  refine Met.ofW (cc := cX0_add) (maxL := 6) (ret := (some .int)) (by decide) rfl ?_
  intro p e s m args below meth c s₁ B hml hv
  obtain ⟨rfl, hsz, hP, hK, hD0⟩ := hv
  have hx := B.exec
  have hb := B.bytes
  have hr := B.returns
  have hts := atoms_spec (ws := wsX0_add) B.pre
  have hown : s.vm.findClass RX0 = some m.cls := findClass_of_methodNamed B.named
  have hlocks := B.notSynchronized
  subst hsz
  have hD := hD0.self (sz := s.heap.size)
  generalize hAe : va_A (nt_w 0 h0 q1 q2 q3 cL cI cJ f g h n) s.heap.size = A at hD ⊢
  have hA : ∀ q : Nat, s.heap.size ≤ q → A q := fun q h => by rw [← hAe]; exact Or.inr h
  have hS : va_S A s.heap s.heap [] := va_S.rf
  have hin : ∀ w ∈ u_ws RX0 TX0 4, w ∈ wsX0_add := by decide +kernel
  have hf3 := hts (.fieldLink RX0 20 "NameTable" "count" "I") (by decide +kernel)
  have hl := lv_entry ([.ref h0, .long id, .int ix, .int v]) (n := 6) (Nat.le_of_ble_eq_true rfl)
  rw [lg_entry_eq]
  generalize (lg_sl ([.ref h0, .long id, .int ix, .int v]) ++ List.replicate (6 - (lg_sl ([.ref h0, .long id, .int ix, .int v])).length) Slot.unset).toArray = ls at hl ⊢
  have hl : lv_has ls 6 [(0, .ref h0), (1, .long id), (3, .int ix), (4, .int v)] := hl
  have hn : n ≤ 900 := hok.1
  refine lv_iload_n hx hb dX0_add_0 rfl (lv_at hl 2 rfl) ?_
  refine nt_calls (va_runS (As := [.int ix]) (rest := []) ⟨hx, hb, hml, hown, hts⟩ (kX_isIndex l _ ix) (va_cwS 1 hts gX0_add_X0_isIndex rfl rfl rfl (by decide +kernel) ⟨Nat.le_of_ble_eq_true rfl, Nat.le_of_ble_eq_true rfl⟩) (nt_preS [.int ix]) rfl rfl hl.1 rfl (lv_room (Nat.le_of_ble_eq_true rfl)) dX0_add_1 ⟨Nat.zero_le _, Nat.zero_le _⟩) hP hD hS hA (fun r H locs hpost hP hD hS => ?_)
  have hP : va_P (dC, dI) vwCl (nt_w 0 h0 q1 q2 q3 cL cI cJ f g h n) H := hP
  have hD : va_D A (nt_w 0 h0 q1 q2 q3 cL cI cJ f g h n) := hD
  rcases hpost with ⟨rfl, hc⟩ | ⟨rfl, hc⟩
  · refine lv_if_eq (tgt := 12) hx hb dX0_add_4 (by decide) (fun h9 => absurd h9 (by decide)) (fun _ => ?_)
    refine lv_iload hx hb dX0_add_7 (lv_at hl 3 rfl) ?_
    refine lv_if_ge (tgt := 14) hx hb dX0_add_9 (by decide) (fun h1 => ?_) (fun h1 => ?_)
    · have hg : ¬ (ix < 0 ∨ 7 < ix ∨ v < 0) := fun h9 => h9.elim (fun h8 => hc (Or.inl h8)) (fun h8 => h8.elim (fun h7 => hc (Or.inr h7)) (fun h7 => Int32.not_le.mpr h7 h1))
      refine lv_aload_n hx hb dX0_add_14 rfl (lv_at hl 0 rfl) ?_
      refine lv_lload_n hx hb dX0_add_15 rfl (lv_at hl 1 rfl) ?_
      refine lv_iload_n hx hb dX0_add_16 rfl (lv_at hl 2 rfl) ?_
      refine nt_calli (va_runV (As := [.long id, .int ix]) (rest := []) ⟨hx, hb, hml, hown, hts⟩ (kX_placeFor l dC dI h0 q1 q2 q3 _ cL cI cJ f g h n id ix hn hok.2) (cwV 2 hts gX0_add_X0_placeFor rfl rfl rfl (by decide +kernel) ⟨Nat.le_of_ble_eq_true rfl, Nat.le_of_ble_eq_true rfl⟩) (nt_preV rfl hP hK hD [.long id, .int ix]) rfl rfl hl.1 rfl (lv_room (Nat.le_of_ble_eq_true rfl)) dX0_add_17 ⟨Nat.zero_le _, Nat.zero_le _⟩) hP hD hS hA (fun r u H locs hpost hP hD hS => ?_)
      obtain ⟨hpost, rfl⟩ := hpost
      have hP : va_P (dC, dI) vwCl (nt_w 0 h0 q1 q2 q3 cL cI cJ f g h n) H := hP
      have hD : va_D A (nt_w 0 h0 q1 q2 q3 cL cI cJ f g h n) := hD
      obtain ⟨j, rfl, hat⟩ := hpost
      have hj : j ≤ n := hat.1
      refine lv_istore (lv' := [(5, .int (nI j)), (0, .ref h0), (1, .long id), (3, .int ix), (4, .int v)]) hx hb dX0_add_20 hl (by decide) rfl (fun ls hl => ?_)
      refine lv_aload_n hx hb dX0_add_22 rfl (lv_at hl 1 rfl) ?_
      refine lv_iload hx hb dX0_add_23 (lv_at hl 0 rfl) ?_
      refine lv_lload_n hx hb dX0_add_25 rfl (lv_at hl 2 rfl) ?_
      refine lv_iload_n hx hb dX0_add_26 rfl (lv_at hl 3 rfl) ?_
      refine nt_calli (va_runV (As := [.int (nI j), .long id, .int ix]) (rest := []) ⟨hx, hb, hml, hown, hts⟩ (kX_isNamed l dC dI h0 q1 q2 q3 _ cL cI cJ f g h n j id ix (by omega) hn) (cwV 3 hts gX0_add_X0_isNamed rfl rfl rfl (by decide +kernel) ⟨Nat.le_of_ble_eq_true rfl, Nat.le_of_ble_eq_true rfl⟩) (nt_preV rfl hP hK hD [.int (nI j), .long id, .int ix]) rfl rfl hl.1 rfl (lv_room (Nat.le_of_ble_eq_true rfl)) dX0_add_27 ⟨Nat.zero_le _, Nat.zero_le _⟩) hP hD hS hA (fun r u H locs hpost hP hD hS => ?_)
      obtain ⟨hpost, rfl⟩ := hpost
      have hP : va_P (dC, dI) vwCl (nt_w 0 h0 q1 q2 q3 cL cI cJ f g h n) H := hP
      have hD : va_D A (nt_w 0 h0 q1 q2 q3 cL cI cJ f g h n) := hD
      rcases hpost with ⟨rfl, hd⟩ | ⟨rfl, hd⟩
      · refine lv_if_eq (tgt := 36) hx hb dX0_add_30 (by decide) (fun h9 => absurd h9 (by decide)) (fun _ => ?_)
        refine lv_bipush (v := -3) hx hb dX0_add_33 (by decide) ?_
        exact W.iret (v := -3) hx hb hr (fun t ht hW => ⟨⟨-3, (f, g, h, n), rfl, nt_add_there hg hat hd, by rw [ht]; exact hP, va_K.moved hW.alike hK, hD⟩, hS.F ht⟩) hS.2.2 dX0_add_35
      · refine lv_if_eq (tgt := 36) hx hb dX0_add_30 (by decide) (fun _ => ?_) (fun h9 => absurd h9 (by decide))
        refine lv_aload_n hx hb dX0_add_36 rfl (lv_at hl 1 rfl) ?_
        refine va_get (D := (dC, dI)) (ci := 0) (v := .int (nI n)) (C := RX0) (T := TX0) (N := 4) hx hb hts hin hown hK hP 0 rfl rfl 3 (by decide) hf3 (fun _ h9 => h9) rfl dX0_add_37 ?_
        refine lv_sipush (v := nI 900) hx hb dX0_add_40 (by decide) ?_
        refine lv_icmp_lt (tgt := 49) hx hb dX0_add_43 (by decide) (fun h2 => ?_) (fun h2 => ?_)
        · have h2 : n < 900 := (nI_ltI (by omega) (by omega)).mp h2
          refine lv_aload_n hx hb dX0_add_49 rfl (lv_at hl 1 rfl) ?_
          refine lv_iload hx hb dX0_add_50 (lv_at hl 0 rfl) ?_
          refine lv_lload_n hx hb dX0_add_52 rfl (lv_at hl 2 rfl) ?_
          refine lv_iload_n hx hb dX0_add_53 rfl (lv_at hl 3 rfl) ?_
          refine lv_iload hx hb dX0_add_54 (lv_at hl 4 rfl) ?_
          refine nt_callv (va_runV (As := [.int (nI j), .long id, .int ix, .int v]) (rest := []) ⟨hx, hb, hml, hown, hts⟩ (kX_insertAt l dC dI h0 q1 q2 q3 _ cL cI cJ f g h n j id ix v hj h2) (cwV 4 hts gX0_add_X0_insertAt rfl rfl rfl (by decide +kernel) ⟨Nat.le_of_ble_eq_true rfl, Nat.le_of_ble_eq_true rfl⟩) (nt_preV rfl hP hK hD [.int (nI j), .long id, .int ix, .int v]) rfl rfl hl.1 rfl (lv_room (Nat.le_of_ble_eq_true rfl)) dX0_add_56 ⟨Nat.zero_le _, Nat.zero_le _⟩) hP hD hS hA (fun u H locs hpost hP hD hS => ?_)
          subst hpost
          have hP : va_P (dC, dI) vwCl (nt_w 0 h0 q1 q2 q3 cL cI cJ (nt_ins f n j id) (nt_ins g n j ix) (nt_ins h n j v) (n + 1)) H := hP
          have hD : va_D A (nt_w 0 h0 q1 q2 q3 cL cI cJ (nt_ins f n j id) (nt_ins g n j ix) (nt_ins h n j v) (n + 1)) := hD
          refine lv_aload_n hx hb dX0_add_59 rfl (lv_at hl 1 rfl) ?_
          refine va_get (D := (dC, dI)) (ci := 0) (v := .int (nI (n + 1))) (C := RX0) (T := TX0) (N := 4) hx hb hts hin hown hK hP 0 rfl rfl 3 (by decide) hf3 (fun _ h9 => h9) rfl dX0_add_60 ?_
          exact W.iret (v := nI (n + 1)) hx hb hr (fun t ht hW => ⟨⟨nI (n + 1), nt_insS (f, g, h, n) j id ix v, rfl, nt_add_new hg hat hd (show ¬ n = 900 by omega), by rw [ht]; exact hP, va_K.moved hW.alike hK, hD⟩, hS.F ht⟩) hS.2.2 dX0_add_63
        · have h2 : ¬ n < 900 := fun h9 => h2 ((nI_ltI (by omega) (by omega)).mpr h9)
          refine lv_bipush (v := -4) hx hb dX0_add_46 (by decide) ?_
          exact W.iret (v := -4) hx hb hr (fun t ht hW => ⟨⟨-4, (f, g, h, n), rfl, nt_add_full hg hat hd (show n = 900 by omega), by rw [ht]; exact hP, va_K.moved hW.alike hK, hD⟩, hS.F ht⟩) hS.2.2 dX0_add_48
    · refine lv_iconst (v := -1) hx hb dX0_add_12 (by decide) ?_
      exact W.iret (v := -1) hx hb hr (fun t ht hW => ⟨⟨-1, (f, g, h, n), rfl, nt_add_bad (Or.inr (Or.inr (Int32.not_le.mp h1))), by rw [ht]; exact hP, va_K.moved hW.alike hK, hD⟩, hS.F ht⟩) hS.2.2 dX0_add_13
  · refine lv_if_eq (tgt := 12) hx hb dX0_add_4 (by decide) (fun _ => ?_) (fun h9 => absurd h9 (by decide))
    refine lv_iconst (v := -1) hx hb dX0_add_12 (by decide) ?_
    exact W.iret (v := -1) hx hb hr (fun t ht hW => ⟨⟨-1, (f, g, h, n), rfl, nt_add_bad ((Classical.not_not.mp hc).elim Or.inl (fun h9 => Or.inr (Or.inl h9))), by rw [ht]; exact hP, va_K.moved hW.alike hK, hD⟩, hS.F ht⟩) hS.2.2 dX0_add_13
set_option maxHeartbeats 4000000 in
set_option maxRecDepth 100000 in
/-- promise 3 -/
theorem kX_some (l : Launch) (dC : Nat → ClassId) (dI : Nat → Nat → Nat) (h0 q1 q2 q3 sz : Nat) (cL cI cJ : ClassId) (f : Nat → Int64) (g h : Nat → Int32) (n : Nat) (id step : Int64) (mm v : Int32) (hok : nt_ok (f, g, h, n)) : Met l yX0_some wsX0_some ({ frames := 4, cells := 0, slots := 0, locals := 160 } : Room) (va_Pc [.ref h0, .long id, .long step, .int mm, .int v] (nt_in dC dI 0 h0 q1 q2 q3 cL cI cJ f g h n sz)) (va_Qi (fun (r : Int32) (u : nt_S) => (r, u) = nt_some (f, g, h, n) id step mm v) (nt_out dC dI 0 h0 q1 q2 q3 cL cI cJ (va_A (nt_w 0 h0 q1 q2 q3 cL cI cJ f g h n) sz)) (va_A (nt_w 0 h0 q1 q2 q3 cL cI cJ f g h n) sz)) 0 0 (va_A (nt_w 0 h0 q1 q2 q3 cL cI cJ f g h n) sz) := by
  refine Met.ofW (cc := cX0_some) (maxL := 9) (ret := (some .int)) (by decide) rfl ?_
  intro p e s m args below meth c s₁ B hml hv
  obtain ⟨rfl, hsz, hP, hK, hD0⟩ := hv
  have hx := B.exec
  have hb := B.bytes
  have hr := B.returns
  have hts := atoms_spec (ws := wsX0_some) B.pre
  have hown : s.vm.findClass RX0 = some m.cls := findClass_of_methodNamed B.named
  have hlocks := B.notSynchronized
  subst hsz
  have hD := hD0.self (sz := s.heap.size)
  generalize hAe : va_A (nt_w 0 h0 q1 q2 q3 cL cI cJ f g h n) s.heap.size = A at hD ⊢
  have hA : ∀ q : Nat, s.heap.size ≤ q → A q := fun q h => by rw [← hAe]; exact Or.inr h
  have hS : va_S A s.heap s.heap [] := va_S.rf
  have hin : ∀ w ∈ u_ws RX0 TX0 4, w ∈ wsX0_some := by decide +kernel
  have hf3 := hts (.fieldLink RX0 20 "NameTable" "count" "I") (by decide +kernel)
  have hl := lv_entry ([.ref h0, .long id, .long step, .int mm, .int v]) (n := 9) (Nat.le_of_ble_eq_true rfl)
  rw [lg_entry_eq]
  generalize (lg_sl ([.ref h0, .long id, .long step, .int mm, .int v]) ++ List.replicate (9 - (lg_sl ([.ref h0, .long id, .long step, .int mm, .int v])).length) Slot.unset).toArray = ls at hl ⊢
  have hl : lv_has ls 9 [(0, .ref h0), (1, .long id), (3, .long step), (5, .int mm), (6, .int v)] := hl
  have hn : n ≤ 900 := hok.1
  refine lv_iload hx hb dX0_some_0 (lv_at hl 3 rfl) ?_
  refine lv_iconst (v := 1) hx hb dX0_some_2 (by decide) ?_
  refine lv_icmp_lt (tgt := 18) hx hb dX0_some_3 (by decide) (fun h1 => ?_) (fun h1 => ?_)
  · refine lv_iconst (v := -1) hx hb dX0_some_18 (by decide) ?_
    exact W.iret (v := -1) hx hb hr (fun t ht hW => ⟨⟨-1, (f, g, h, n), rfl, nt_some_bad (Or.inl h1), by rw [ht]; exact hP, va_K.moved hW.alike hK, hD⟩, hS.F ht⟩) hS.2.2 dX0_some_19
  · refine lv_iload hx hb dX0_some_6 (lv_at hl 3 rfl) ?_
    refine lv_bipush (v := 100) hx hb dX0_some_8 (by decide) ?_
    refine lv_icmp_gt (tgt := 18) hx hb dX0_some_10 (by decide) (fun h2 => ?_) (fun h2 => ?_)
    · refine lv_iconst (v := -1) hx hb dX0_some_18 (by decide) ?_
      exact W.iret (v := -1) hx hb hr (fun t ht hW => ⟨⟨-1, (f, g, h, n), rfl, nt_some_bad (Or.inr (Or.inl h2)), by rw [ht]; exact hP, va_K.moved hW.alike hK, hD⟩, hS.F ht⟩) hS.2.2 dX0_some_19
    · refine lv_iload hx hb dX0_some_13 (lv_at hl 4 rfl) ?_
      refine lv_if_ge (tgt := 20) hx hb dX0_some_15 (by decide) (fun h3 => ?_) (fun h3 => ?_)
      · have hg : ¬ (mm < 1 ∨ 100 < mm ∨ v < 0) := fun h9 => h9.elim h1 (fun h8 => h8.elim h2 (fun h7 => Int32.not_le.mpr h7 h3))
        obtain ⟨k, hk, hk2⟩ := nt_some_k h1 h2
        subst hk2
        refine lv_aload_n hx hb dX0_some_20 rfl (lv_at hl 0 rfl) ?_
        refine va_get (D := (dC, dI)) (ci := 0) (v := .int (nI n)) (C := RX0) (T := TX0) (N := 4) hx hb hts hin hown hK hP 0 rfl rfl 3 (by decide) hf3 (fun _ h9 => h9) rfl dX0_some_21 ?_
        refine lv_istore (lv' := [(7, .int (nI n)), (0, .ref h0), (1, .long id), (3, .long step), (5, .int (nI k)), (6, .int v)]) hx hb dX0_some_24 hl (by decide) rfl (fun ls hl => ?_)
        refine lv_iconst (v := nI 0) hx hb dX0_some_26 (by decide) ?_
        refine lv_istore (lv' := [(8, .int (nI 0)), (7, .int (nI n)), (0, .ref h0), (1, .long id), (3, .long step), (5, .int (nI k)), (6, .int v)]) hx hb dX0_some_27 hl (by decide) rfl (fun ls hl => ?_)
        refine nt_here (fun Q hQ => ?_)
        have loop : ∀ (d i : Nat), i + d = k → ∀ (ls : Array Slot) (H : Heap) (locs : List Loc), lv_has ls 9 [(0, .ref h0), (1, .long id), (3, .long step), (5, .int (nI k)), (6, .int v), (7, .int (nI n)), (8, .int (nI i))] → va_P (dC, dI) vwCl (nt_w 0 h0 q1 q2 q3 cL cI cJ ((nt_sm (f, g, h, n) id step v i).1) ((nt_sm (f, g, h, n) id step v i).2.1) ((nt_sm (f, g, h, n) id step v i).2.2.1) ((nt_sm (f, g, h, n) id step v i).2.2.2)) H → va_D A (nt_w 0 h0 q1 q2 q3 cL cI cJ ((nt_sm (f, g, h, n) id step v i).1) ((nt_sm (f, g, h, n) id step v i).2.1) ((nt_sm (f, g, h, n) id step v i).2.2.1) ((nt_sm (f, g, h, n) id step v i).2.2.2)) → va_S A s.heap H locs → W p l e ({ frames := 4, cells := 0, slots := 0, locals := 160 } : Room) s m ([.ref h0, .long id, .long step, .int (nI k), .int v] : List Value).toArray below meth c H locs 0 0 Q (F0 m 29 ls []) := by
          intro d
          induction d with
          | zero =>
            intro i hi ls H locs hl hP hD hS
            have hsm := nt_sm_ok hok id step v i
            have hm1 : (nt_sm (f, g, h, n) id step v i).2.2.2 ≤ 900 := hsm.1.1
            have hm2 : n ≤ (nt_sm (f, g, h, n) id step v i).2.2.2 := hsm.2
            have hi : i = k := by omega
            refine lv_iload hx hb dX0_some_29 (lv_at hl 6 rfl) ?_
            refine lv_iload hx hb dX0_some_31 (lv_at hl 3 rfl) ?_
            refine lv_icmp_ge (tgt := 61) hx hb dX0_some_33 (by decide) (fun hc => ?_) (fun hc => ?_)
            · refine lv_aload_n hx hb dX0_some_61 rfl (lv_at hl 0 rfl) ?_
              refine va_get (D := (dC, dI)) (ci := 0) (v := .int (nI ((nt_sm (f, g, h, n) id step v i).2.2.2))) (C := RX0) (T := TX0) (N := 4) hx hb hts hin hown hK hP 0 rfl rfl 3 (by decide) hf3 (fun _ h9 => h9) rfl dX0_some_62 ?_
              refine lv_iload hx hb dX0_some_65 (lv_at hl 5 rfl) ?_
              refine lv_isub hx hb dX0_some_67 ?_
              refine nt_top (y := nI ((nt_sm (f, g, h, n) id step v i).2.2.2 - n)) (pk_sub hm2) ?_
              subst hQ
              subst hi
              exact W.iret (v := nI ((nt_sm (f, g, h, n) id step v i).2.2.2 - n)) hx hb hr (fun t ht hW => ⟨⟨nI ((nt_sm (f, g, h, n) id step v i).2.2.2 - n), (nt_sm (f, g, h, n) id step v i), rfl, nt_some_did hg rfl hk, by rw [ht]; exact hP, va_K.moved hW.alike hK, hD⟩, hS.F ht⟩) hS.2.2 dX0_some_68
            · exact absurd (nI_le (show k ≤ i by omega) (by omega)) hc
          | succ d ih =>
            intro i hi ls H locs hl hP hD hS
            have hsm := nt_sm_ok hok id step v i
            have hm1 : (nt_sm (f, g, h, n) id step v i).2.2.2 ≤ 900 := hsm.1.1
            have hm2 : n ≤ (nt_sm (f, g, h, n) id step v i).2.2.2 := hsm.2
            refine lv_iload hx hb dX0_some_29 (lv_at hl 6 rfl) ?_
            refine lv_iload hx hb dX0_some_31 (lv_at hl 3 rfl) ?_
            refine lv_icmp_ge (tgt := 61) hx hb dX0_some_33 (by decide) (fun hc => ?_) (fun hc => ?_)
            · exact absurd hc (nI_ge (show i < k by omega) (by omega))
            · refine lv_aload_n hx hb dX0_some_36 rfl (lv_at hl 0 rfl) ?_
              refine lv_lload_n hx hb dX0_some_37 rfl (lv_at hl 1 rfl) ?_
              refine lv_iload hx hb dX0_some_38 (lv_at hl 6 rfl) ?_
              refine lv_i2l (v := (nI i).toInt64) hx hb dX0_some_40 rfl ?_
              refine lv_lload_n hx hb dX0_some_41 rfl (lv_at hl 2 rfl) ?_
              refine lv_lmul hx hb dX0_some_42 ?_
              refine lv_ladd hx hb dX0_some_43 ?_
              refine lv_iload hx hb dX0_some_44 (lv_at hl 6 rfl) ?_
              refine lv_bipush (v := 8) hx hb dX0_some_46 (by decide) ?_
              refine lv_irem hx hb dX0_some_48 (by decide) ?_
              refine lv_iload hx hb dX0_some_49 (lv_at hl 4 rfl) ?_
              refine nt_calli (va_runV (As := [.long (id + (((nI i).toInt64) * step)), .int ((nI i) - (nI i) / 8 * 8), .int v]) (rest := []) ⟨hx, hb, hml, hown, hts⟩ (kX_add l dC dI h0 q1 q2 q3 _ cL cI cJ ((nt_sm (f, g, h, n) id step v i).1) ((nt_sm (f, g, h, n) id step v i).2.1) ((nt_sm (f, g, h, n) id step v i).2.2.1) ((nt_sm (f, g, h, n) id step v i).2.2.2) (id + (nI i).toInt64 * step) (nI i - nI i / 8 * 8) v hsm.1) (cwV 3 hts gX0_some_X0_add rfl rfl rfl (by decide +kernel) ⟨Nat.le_of_ble_eq_true rfl, Nat.le_of_ble_eq_true rfl⟩) (nt_preV rfl hP hK hD [.long (id + (((nI i).toInt64) * step)), .int ((nI i) - (nI i) / 8 * 8), .int v]) rfl rfl hl.1 rfl (lv_room (Nat.le_of_ble_eq_true rfl)) dX0_some_51 ⟨Nat.zero_le _, Nat.zero_le _⟩) hP hD hS hA (fun r u H locs hpost hP hD hS => ?_)
              have hu : u = (nt_sm (f, g, h, n) id step v (i + 1)) := congrArg Prod.snd hpost
              subst hu
              have hP : va_P (dC, dI) vwCl (nt_w 0 h0 q1 q2 q3 cL cI cJ ((nt_sm (f, g, h, n) id step v (i + 1)).1) ((nt_sm (f, g, h, n) id step v (i + 1)).2.1) ((nt_sm (f, g, h, n) id step v (i + 1)).2.2.1) ((nt_sm (f, g, h, n) id step v (i + 1)).2.2.2)) H := hP
              have hD : va_D A (nt_w 0 h0 q1 q2 q3 cL cI cJ ((nt_sm (f, g, h, n) id step v (i + 1)).1) ((nt_sm (f, g, h, n) id step v (i + 1)).2.1) ((nt_sm (f, g, h, n) id step v (i + 1)).2.2.1) ((nt_sm (f, g, h, n) id step v (i + 1)).2.2.2)) := hD
              refine lv_pop hx hb dX0_some_54 rfl ?_
              refine lv_iinc (k := 6) (v := nI (i + 1)) (lv' := [(8, .int (nI (i + 1))), (0, .ref h0), (1, .long id), (3, .long step), (5, .int (nI k)), (6, .int v), (7, .int (nI n))]) hx hb dX0_some_55 hl rfl (by rw [show Int32.ofInt 1 = 1 by decide]; exact nI_1 _) (by decide) rfl (fun ls hl => ?_)
              refine lv_goto (tgt := 29) hx hb dX0_some_58 (by decide) ?_
              exact ih (i + 1) (by omega) ls H locs (lv_sub hl [1, 2, 3, 4, 5, 6, 0] rfl) hP hD hS
        exact loop k 0 (by omega) ls s.heap [] (lv_sub hl [2, 3, 4, 5, 6, 1, 0] rfl) hP hD hS
      · refine lv_iconst (v := -1) hx hb dX0_some_18 (by decide) ?_
        exact W.iret (v := -1) hx hb hr (fun t ht hW => ⟨⟨-1, (f, g, h, n), rfl, nt_some_bad (Or.inr (Or.inr (Int32.not_le.mp h3))), by rw [ht]; exact hP, va_K.moved hW.alike hK, hD⟩, hS.F ht⟩) hS.2.2 dX0_some_19
end
section
set_option maxHeartbeats 4000000 in
set_option maxRecDepth 100000 in
/-- promise 4 -/
theorem kX_remove (l : Launch) (dC : Nat → ClassId) (dI : Nat → Nat → Nat) (h0 q1 q2 q3 sz : Nat) (cL cI cJ : ClassId) (f : Nat → Int64) (g h : Nat → Int32) (n : Nat) (id : Int64) (ix : Int32) (hok : nt_ok (f, g, h, n)) : Met l yX0_remove wsX0_remove ({ frames := 3, cells := 0, slots := 0, locals := 120 } : Room) (va_Pc [.ref h0, .long id, .int ix] (nt_in dC dI 0 h0 q1 q2 q3 cL cI cJ f g h n sz)) (va_Qi (fun (r : Int32) (u : nt_S) => (r, u) = nt_rem (f, g, h, n) id ix) (nt_out dC dI 0 h0 q1 q2 q3 cL cI cJ (va_A (nt_w 0 h0 q1 q2 q3 cL cI cJ f g h n) sz)) (va_A (nt_w 0 h0 q1 q2 q3 cL cI cJ f g h n) sz)) 0 0 (va_A (nt_w 0 h0 q1 q2 q3 cL cI cJ f g h n) sz) := by
  refine Met.ofW (cc := cX0_remove) (maxL := 5) (ret := (some .int)) (by decide) rfl ?_
  intro p e s m args below meth c s₁ B hml hv
  obtain ⟨rfl, hsz, hP, hK, hD0⟩ := hv
  have hx := B.exec
  have hb := B.bytes
  have hr := B.returns
  have hts := atoms_spec (ws := wsX0_remove) B.pre
  have hown : s.vm.findClass RX0 = some m.cls := findClass_of_methodNamed B.named
  have hlocks := B.notSynchronized
  subst hsz
  have hD := hD0.self (sz := s.heap.size)
  generalize hAe : va_A (nt_w 0 h0 q1 q2 q3 cL cI cJ f g h n) s.heap.size = A at hD ⊢
  have hA : ∀ q : Nat, s.heap.size ≤ q → A q := fun q h => by rw [← hAe]; exact Or.inr h
  have hS : va_S A s.heap s.heap [] := va_S.rf
  have hl := lv_entry ([.ref h0, .long id, .int ix]) (n := 5) (Nat.le_of_ble_eq_true rfl)
  rw [lg_entry_eq]
  generalize (lg_sl ([.ref h0, .long id, .int ix]) ++ List.replicate (5 - (lg_sl ([.ref h0, .long id, .int ix])).length) Slot.unset).toArray = ls at hl ⊢
  have hl : lv_has ls 5 [(0, .ref h0), (1, .long id), (3, .int ix)] := hl
  have hn : n ≤ 900 := hok.1
  refine lv_iload_n hx hb dX0_remove_0 rfl (lv_at hl 2 rfl) ?_
  refine nt_calls (va_runS (As := [.int ix]) (rest := []) ⟨hx, hb, hml, hown, hts⟩ (kX_isIndex l _ ix) (va_cwS 1 hts gX0_remove_X0_isIndex rfl rfl rfl (by decide +kernel) ⟨Nat.le_of_ble_eq_true rfl, Nat.le_of_ble_eq_true rfl⟩) (nt_preS [.int ix]) rfl rfl hl.1 rfl (lv_room (Nat.le_of_ble_eq_true rfl)) dX0_remove_1 ⟨Nat.zero_le _, Nat.zero_le _⟩) hP hD hS hA (fun r H locs hpost hP hD hS => ?_)
  have hP : va_P (dC, dI) vwCl (nt_w 0 h0 q1 q2 q3 cL cI cJ f g h n) H := hP
  have hD : va_D A (nt_w 0 h0 q1 q2 q3 cL cI cJ f g h n) := hD
  rcases hpost with ⟨rfl, hc⟩ | ⟨rfl, hc⟩
  · refine lv_if_ne (tgt := 9) hx hb dX0_remove_4 (by decide) (fun _ => ?_) (fun h9 => absurd h9 (by decide))
    refine lv_aload_n hx hb dX0_remove_9 rfl (lv_at hl 0 rfl) ?_
    refine lv_lload_n hx hb dX0_remove_10 rfl (lv_at hl 1 rfl) ?_
    refine lv_iload_n hx hb dX0_remove_11 rfl (lv_at hl 2 rfl) ?_
    refine nt_calli (va_runV (As := [.long id, .int ix]) (rest := []) ⟨hx, hb, hml, hown, hts⟩ (kX_placeFor l dC dI h0 q1 q2 q3 _ cL cI cJ f g h n id ix hn hok.2) (cwV 2 hts gX0_remove_X0_placeFor rfl rfl rfl (by decide +kernel) ⟨Nat.le_of_ble_eq_true rfl, Nat.le_of_ble_eq_true rfl⟩) (nt_preV rfl hP hK hD [.long id, .int ix]) rfl rfl hl.1 rfl (lv_room (Nat.le_of_ble_eq_true rfl)) dX0_remove_12 ⟨Nat.zero_le _, Nat.zero_le _⟩) hP hD hS hA (fun r u H locs hpost hP hD hS => ?_)
    obtain ⟨hpost, rfl⟩ := hpost
    have hP : va_P (dC, dI) vwCl (nt_w 0 h0 q1 q2 q3 cL cI cJ f g h n) H := hP
    have hD : va_D A (nt_w 0 h0 q1 q2 q3 cL cI cJ f g h n) := hD
    obtain ⟨j, rfl, hat⟩ := hpost
    have hj : j ≤ n := hat.1
    refine lv_istore (lv' := [(4, .int (nI j)), (0, .ref h0), (1, .long id), (3, .int ix)]) hx hb dX0_remove_15 hl (by decide) rfl (fun ls hl => ?_)
    refine lv_aload_n hx hb dX0_remove_17 rfl (lv_at hl 1 rfl) ?_
    refine lv_iload hx hb dX0_remove_18 (lv_at hl 0 rfl) ?_
    refine lv_lload_n hx hb dX0_remove_20 rfl (lv_at hl 2 rfl) ?_
    refine lv_iload_n hx hb dX0_remove_21 rfl (lv_at hl 3 rfl) ?_
    refine nt_calli (va_runV (As := [.int (nI j), .long id, .int ix]) (rest := []) ⟨hx, hb, hml, hown, hts⟩ (kX_isNamed l dC dI h0 q1 q2 q3 _ cL cI cJ f g h n j id ix (by omega) hn) (cwV 3 hts gX0_remove_X0_isNamed rfl rfl rfl (by decide +kernel) ⟨Nat.le_of_ble_eq_true rfl, Nat.le_of_ble_eq_true rfl⟩) (nt_preV rfl hP hK hD [.int (nI j), .long id, .int ix]) rfl rfl hl.1 rfl (lv_room (Nat.le_of_ble_eq_true rfl)) dX0_remove_22 ⟨Nat.zero_le _, Nat.zero_le _⟩) hP hD hS hA (fun r u H locs hpost hP hD hS => ?_)
    obtain ⟨hpost, rfl⟩ := hpost
    have hP : va_P (dC, dI) vwCl (nt_w 0 h0 q1 q2 q3 cL cI cJ f g h n) H := hP
    have hD : va_D A (nt_w 0 h0 q1 q2 q3 cL cI cJ f g h n) := hD
    rcases hpost with ⟨rfl, hd⟩ | ⟨rfl, hd⟩
    · refine lv_if_eq (tgt := 37) hx hb dX0_remove_25 (by decide) (fun h9 => absurd h9 (by decide)) (fun _ => ?_)
      have hjn : j < n := hd.1
      refine lv_aload_n hx hb dX0_remove_28 rfl (lv_at hl 1 rfl) ?_
      refine lv_iload hx hb dX0_remove_29 (lv_at hl 0 rfl) ?_
      refine nt_calli (va_runV (As := [.int (nI j)]) (rest := []) ⟨hx, hb, hml, hown, hts⟩ (kX_deleteAt l dC dI h0 q1 q2 q3 _ cL cI cJ f g h n j hjn hn) (cwV 1 hts gX0_remove_X0_deleteAt rfl rfl rfl (by decide +kernel) ⟨Nat.le_of_ble_eq_true rfl, Nat.le_of_ble_eq_true rfl⟩) (nt_preV rfl hP hK hD [.int (nI j)]) rfl rfl hl.1 rfl (lv_room (Nat.le_of_ble_eq_true rfl)) dX0_remove_31 ⟨Nat.zero_le _, Nat.zero_le _⟩) hP hD hS hA (fun r u H locs hpost hP hD hS => ?_)
      obtain ⟨rfl, rfl⟩ := Prod.mk.inj hpost
      have hP : va_P (dC, dI) vwCl (nt_w 0 h0 q1 q2 q3 cL cI cJ (nt_del f n j) (nt_del g n j) (nt_del h n j) (n - 1)) H := hP
      have hD : va_D A (nt_w 0 h0 q1 q2 q3 cL cI cJ (nt_del f n j) (nt_del g n j) (nt_del h n j) (n - 1)) := hD
      refine lv_goto (tgt := 39) hx hb dX0_remove_34 (by decide) ?_
      exact W.iret (v := h j) hx hb hr (fun t ht hW => ⟨⟨h j, nt_delS (f, g, h, n) j, rfl, nt_rem_did hc hat hd, by rw [ht]; exact hP, va_K.moved hW.alike hK, hD⟩, hS.F ht⟩) hS.2.2 dX0_remove_39
    · refine lv_if_eq (tgt := 37) hx hb dX0_remove_25 (by decide) (fun _ => ?_) (fun h9 => absurd h9 (by decide))
      refine lv_bipush (v := -2) hx hb dX0_remove_37 (by decide) ?_
      exact W.iret (v := -2) hx hb hr (fun t ht hW => ⟨⟨-2, (f, g, h, n), rfl, nt_rem_none hc hat hd, by rw [ht]; exact hP, va_K.moved hW.alike hK, hD⟩, hS.F ht⟩) hS.2.2 dX0_remove_39
  · refine lv_if_ne (tgt := 9) hx hb dX0_remove_4 (by decide) (fun h9 => absurd h9 (by decide)) (fun _ => ?_)
    refine lv_iconst (v := -1) hx hb dX0_remove_7 (by decide) ?_
    exact W.iret (v := -1) hx hb hr (fun t ht hW => ⟨⟨-1, (f, g, h, n), rfl, nt_rem_bad (Classical.not_not.mp hc), by rw [ht]; exact hP, va_K.moved hW.alike hK, hD⟩, hS.F ht⟩) hS.2.2 dX0_remove_8
set_option maxHeartbeats 4000000 in
set_option maxRecDepth 100000 in
/-- promise 6 -/
theorem kX_get (l : Launch) (dC : Nat → ClassId) (dI : Nat → Nat → Nat) (h0 q1 q2 q3 sz : Nat) (cL cI cJ : ClassId) (f : Nat → Int64) (g h : Nat → Int32) (n : Nat) (id : Int64) (ix : Int32) (hok : nt_ok (f, g, h, n)) : Met l yX0_get wsX0_get ({ frames := 3, cells := 0, slots := 0, locals := 120 } : Room) (va_Pc [.ref h0, .long id, .int ix] (nt_in dC dI 0 h0 q1 q2 q3 cL cI cJ f g h n sz)) (va_Qi (fun (r : Int32) (u : nt_S) => r = nt_get (f, g, h, n) id ix ∧ u = (f, g, h, n)) (nt_out dC dI 0 h0 q1 q2 q3 cL cI cJ (va_A (nt_w 0 h0 q1 q2 q3 cL cI cJ f g h n) sz)) (va_A (nt_w 0 h0 q1 q2 q3 cL cI cJ f g h n) sz)) 0 0 (va_A (nt_w 0 h0 q1 q2 q3 cL cI cJ f g h n) sz) := by
  refine Met.ofW (cc := cX0_get) (maxL := 5) (ret := (some .int)) (by decide) rfl ?_
  intro p e s m args below meth c s₁ B hml hv
  obtain ⟨rfl, hsz, hP, hK, hD0⟩ := hv
  have hx := B.exec
  have hb := B.bytes
  have hr := B.returns
  have hts := atoms_spec (ws := wsX0_get) B.pre
  have hown : s.vm.findClass RX0 = some m.cls := findClass_of_methodNamed B.named
  have hlocks := B.notSynchronized
  subst hsz
  have hD := hD0.self (sz := s.heap.size)
  generalize hAe : va_A (nt_w 0 h0 q1 q2 q3 cL cI cJ f g h n) s.heap.size = A at hD ⊢
  have hA : ∀ q : Nat, s.heap.size ≤ q → A q := fun q h => by rw [← hAe]; exact Or.inr h
  have hS : va_S A s.heap s.heap [] := va_S.rf
  have hin : ∀ w ∈ u_ws RX0 TX0 4, w ∈ wsX0_get := by decide +kernel
  have hf2 := hts (.fieldLink RX0 17 "NameTable" "values" "[I") (by decide +kernel)
  have hl := lv_entry ([.ref h0, .long id, .int ix]) (n := 5) (Nat.le_of_ble_eq_true rfl)
  rw [lg_entry_eq]
  generalize (lg_sl ([.ref h0, .long id, .int ix]) ++ List.replicate (5 - (lg_sl ([.ref h0, .long id, .int ix])).length) Slot.unset).toArray = ls at hl ⊢
  have hl : lv_has ls 5 [(0, .ref h0), (1, .long id), (3, .int ix)] := hl
  have hn : n ≤ 900 := hok.1
  refine lv_iload_n hx hb dX0_get_0 rfl (lv_at hl 2 rfl) ?_
  refine nt_calls (va_runS (As := [.int ix]) (rest := []) ⟨hx, hb, hml, hown, hts⟩ (kX_isIndex l _ ix) (va_cwS 1 hts gX0_get_X0_isIndex rfl rfl rfl (by decide +kernel) ⟨Nat.le_of_ble_eq_true rfl, Nat.le_of_ble_eq_true rfl⟩) (nt_preS [.int ix]) rfl rfl hl.1 rfl (lv_room (Nat.le_of_ble_eq_true rfl)) dX0_get_1 ⟨Nat.zero_le _, Nat.zero_le _⟩) hP hD hS hA (fun r H locs hpost hP hD hS => ?_)
  have hP : va_P (dC, dI) vwCl (nt_w 0 h0 q1 q2 q3 cL cI cJ f g h n) H := hP
  have hD : va_D A (nt_w 0 h0 q1 q2 q3 cL cI cJ f g h n) := hD
  rcases hpost with ⟨rfl, hc⟩ | ⟨rfl, hc⟩
  · refine lv_if_ne (tgt := 9) hx hb dX0_get_4 (by decide) (fun _ => ?_) (fun h9 => absurd h9 (by decide))
    refine lv_aload_n hx hb dX0_get_9 rfl (lv_at hl 0 rfl) ?_
    refine lv_lload_n hx hb dX0_get_10 rfl (lv_at hl 1 rfl) ?_
    refine lv_iload_n hx hb dX0_get_11 rfl (lv_at hl 2 rfl) ?_
    refine nt_calli (va_runV (As := [.long id, .int ix]) (rest := []) ⟨hx, hb, hml, hown, hts⟩ (kX_placeFor l dC dI h0 q1 q2 q3 _ cL cI cJ f g h n id ix hn hok.2) (cwV 2 hts gX0_get_X0_placeFor rfl rfl rfl (by decide +kernel) ⟨Nat.le_of_ble_eq_true rfl, Nat.le_of_ble_eq_true rfl⟩) (nt_preV rfl hP hK hD [.long id, .int ix]) rfl rfl hl.1 rfl (lv_room (Nat.le_of_ble_eq_true rfl)) dX0_get_12 ⟨Nat.zero_le _, Nat.zero_le _⟩) hP hD hS hA (fun r u H locs hpost hP hD hS => ?_)
    obtain ⟨hpost, rfl⟩ := hpost
    have hP : va_P (dC, dI) vwCl (nt_w 0 h0 q1 q2 q3 cL cI cJ f g h n) H := hP
    have hD : va_D A (nt_w 0 h0 q1 q2 q3 cL cI cJ f g h n) := hD
    obtain ⟨j, rfl, hat⟩ := hpost
    have hj : j ≤ n := hat.1
    refine lv_istore (lv' := [(4, .int (nI j)), (0, .ref h0), (1, .long id), (3, .int ix)]) hx hb dX0_get_15 hl (by decide) rfl (fun ls hl => ?_)
    refine lv_aload_n hx hb dX0_get_17 rfl (lv_at hl 1 rfl) ?_
    refine lv_iload hx hb dX0_get_18 (lv_at hl 0 rfl) ?_
    refine lv_lload_n hx hb dX0_get_20 rfl (lv_at hl 2 rfl) ?_
    refine lv_iload_n hx hb dX0_get_21 rfl (lv_at hl 3 rfl) ?_
    refine nt_calli (va_runV (As := [.int (nI j), .long id, .int ix]) (rest := []) ⟨hx, hb, hml, hown, hts⟩ (kX_isNamed l dC dI h0 q1 q2 q3 _ cL cI cJ f g h n j id ix (by omega) hn) (cwV 3 hts gX0_get_X0_isNamed rfl rfl rfl (by decide +kernel) ⟨Nat.le_of_ble_eq_true rfl, Nat.le_of_ble_eq_true rfl⟩) (nt_preV rfl hP hK hD [.int (nI j), .long id, .int ix]) rfl rfl hl.1 rfl (lv_room (Nat.le_of_ble_eq_true rfl)) dX0_get_22 ⟨Nat.zero_le _, Nat.zero_le _⟩) hP hD hS hA (fun r u H locs hpost hP hD hS => ?_)
    obtain ⟨hpost, rfl⟩ := hpost
    have hP : va_P (dC, dI) vwCl (nt_w 0 h0 q1 q2 q3 cL cI cJ f g h n) H := hP
    have hD : va_D A (nt_w 0 h0 q1 q2 q3 cL cI cJ f g h n) := hD
    rcases hpost with ⟨rfl, hd⟩ | ⟨rfl, hd⟩
    · refine lv_if_eq (tgt := 38) hx hb dX0_get_25 (by decide) (fun h9 => absurd h9 (by decide)) (fun _ => ?_)
      have hjn : j < n := hd.1
      refine lv_aload_n hx hb dX0_get_28 rfl (lv_at hl 1 rfl) ?_
      refine va_get (D := (dC, dI)) (ci := 0) (v := .ref q3) (C := RX0) (T := TX0) (N := 4) hx hb hts hin hown hK hP 0 rfl rfl 2 (by decide) hf2 (fun _ h9 => h9) rfl dX0_get_29 ?_
      refine lv_iload hx hb dX0_get_32 (lv_at hl 0 rfl) ?_
      refine nt_iald hx hb hK hP 3 2 rfl rfl (by omega) dX0_get_34 ?_
      refine lv_goto (tgt := 40) hx hb dX0_get_35 (by decide) ?_
      exact W.iret (v := h j) hx hb hr (fun t ht hW => ⟨⟨h j, (f, g, h, n), rfl, ⟨nt_get_is hc hat hd, rfl⟩, by rw [ht]; exact hP, va_K.moved hW.alike hK, hD⟩, hS.F ht⟩) hS.2.2 dX0_get_40
    · refine lv_if_eq (tgt := 38) hx hb dX0_get_25 (by decide) (fun _ => ?_) (fun h9 => absurd h9 (by decide))
      refine lv_bipush (v := -2) hx hb dX0_get_38 (by decide) ?_
      exact W.iret (v := -2) hx hb hr (fun t ht hW => ⟨⟨-2, (f, g, h, n), rfl, ⟨nt_get_none hc hat hd, rfl⟩, by rw [ht]; exact hP, va_K.moved hW.alike hK, hD⟩, hS.F ht⟩) hS.2.2 dX0_get_40
  · refine lv_if_ne (tgt := 9) hx hb dX0_get_4 (by decide) (fun h9 => absurd h9 (by decide)) (fun _ => ?_)
    refine lv_iconst (v := -1) hx hb dX0_get_7 (by decide) ?_
    exact W.iret (v := -1) hx hb hr (fun t ht hW => ⟨⟨-1, (f, g, h, n), rfl, ⟨nt_get_bad (Classical.not_not.mp hc), rfl⟩, by rw [ht]; exact hP, va_K.moved hW.alike hK, hD⟩, hS.F ht⟩) hS.2.2 dX0_get_8
set_option maxHeartbeats 4000000 in
set_option maxRecDepth 100000 in
/-- promise 5 -/
theorem kX_take (l : Launch) (dC : Nat → ClassId) (dI : Nat → Nat → Nat) (h0 q1 q2 q3 sz : Nat) (cL cI cJ : ClassId) (f : Nat → Int64) (g h : Nat → Int32) (n : Nat) (k : Int32) (hn : n ≤ 900) : Met l yX0_take wsX0_take ({ frames := 3, cells := 0, slots := 0, locals := 120 } : Room) (va_Pc [.ref h0, .int k] (nt_in dC dI 0 h0 q1 q2 q3 cL cI cJ f g h n sz)) (va_Qi (fun (r : Int32) (u : nt_S) => (r, u) = nt_take (f, g, h, n) k) (nt_out dC dI 0 h0 q1 q2 q3 cL cI cJ (va_A (nt_w 0 h0 q1 q2 q3 cL cI cJ f g h n) sz)) (va_A (nt_w 0 h0 q1 q2 q3 cL cI cJ f g h n) sz)) 0 0 (va_A (nt_w 0 h0 q1 q2 q3 cL cI cJ f g h n) sz) := by
  refine Met.ofW (cc := cX0_take) (maxL := 2) (ret := (some .int)) (by decide) rfl ?_
  intro p e s m args below meth c s₁ B hml hv
  obtain ⟨rfl, hsz, hP, hK, hD0⟩ := hv
  have hx := B.exec
  have hb := B.bytes
  have hr := B.returns
  have hts := atoms_spec (ws := wsX0_take) B.pre
  have hown : s.vm.findClass RX0 = some m.cls := findClass_of_methodNamed B.named
  have hlocks := B.notSynchronized
  subst hsz
  have hD := hD0.self (sz := s.heap.size)
  generalize hAe : va_A (nt_w 0 h0 q1 q2 q3 cL cI cJ f g h n) s.heap.size = A at hD ⊢
  have hA : ∀ q : Nat, s.heap.size ≤ q → A q := fun q h => by rw [← hAe]; exact Or.inr h
  have hS : va_S A s.heap s.heap [] := va_S.rf
  have hl := lv_entry ([.ref h0, .int k]) (n := 2) (Nat.le_of_ble_eq_true rfl)
  rw [lg_entry_eq]
  generalize (lg_sl ([.ref h0, .int k]) ++ List.replicate (2 - (lg_sl ([.ref h0, .int k])).length) Slot.unset).toArray = ls at hl ⊢
  have hl : lv_has ls 2 [(0, .ref h0), (1, .int k)] := hl
  refine lv_aload_n hx hb dX0_take_0 rfl (lv_at hl 0 rfl) ?_
  refine lv_iload_n hx hb dX0_take_1 rfl (lv_at hl 1 rfl) ?_
  refine nt_calli (va_runV (As := [.int k]) (rest := []) ⟨hx, hb, hml, hown, hts⟩ (kX_isPlace l dC dI h0 q1 q2 q3 _ cL cI cJ f g h n k hn) (cwV 1 hts gX0_take_X0_isPlace rfl rfl rfl (by decide +kernel) ⟨Nat.le_of_ble_eq_true rfl, Nat.le_of_ble_eq_true rfl⟩) (nt_preV rfl hP hK hD [.int k]) rfl rfl hl.1 rfl (lv_room (Nat.le_of_ble_eq_true rfl)) dX0_take_2 ⟨Nat.zero_le _, Nat.zero_le _⟩) hP hD hS hA (fun r u H locs hpost hP hD hS => ?_)
  obtain ⟨hpost, rfl⟩ := hpost
  have hP : va_P (dC, dI) vwCl (nt_w 0 h0 q1 q2 q3 cL cI cJ f g h n) H := hP
  have hD : va_D A (nt_w 0 h0 q1 q2 q3 cL cI cJ f g h n) := hD
  rcases hpost with ⟨rfl, hc⟩ | ⟨rfl, hc⟩
  · refine lv_if_eq (tgt := 16) hx hb dX0_take_5 (by decide) (fun h9 => absurd h9 (by decide)) (fun _ => ?_)
    obtain ⟨j, hj, rfl⟩ : ∃ j : Nat, j < n ∧ k = nI j := (pk_ix k (show n < 2 ^ 31 by omega)).elim (fun h9 => absurd (Or.inl h9) hc) (fun h9 => h9.elim (fun h8 => absurd (Or.inr h8) hc) id)
    refine lv_aload_n hx hb dX0_take_8 rfl (lv_at hl 0 rfl) ?_
    refine lv_iload_n hx hb dX0_take_9 rfl (lv_at hl 1 rfl) ?_
    refine nt_calli (va_runV (As := [.int (nI j)]) (rest := []) ⟨hx, hb, hml, hown, hts⟩ (kX_deleteAt l dC dI h0 q1 q2 q3 _ cL cI cJ f g h n j hj hn) (cwV 1 hts gX0_take_X0_deleteAt rfl rfl rfl (by decide +kernel) ⟨Nat.le_of_ble_eq_true rfl, Nat.le_of_ble_eq_true rfl⟩) (nt_preV rfl hP hK hD [.int (nI j)]) rfl rfl hl.1 rfl (lv_room (Nat.le_of_ble_eq_true rfl)) dX0_take_10 ⟨Nat.zero_le _, Nat.zero_le _⟩) hP hD hS hA (fun r u H locs hpost hP hD hS => ?_)
    obtain ⟨rfl, rfl⟩ := Prod.mk.inj hpost
    have hP : va_P (dC, dI) vwCl (nt_w 0 h0 q1 q2 q3 cL cI cJ (nt_del f n j) (nt_del g n j) (nt_del h n j) (n - 1)) H := hP
    have hD : va_D A (nt_w 0 h0 q1 q2 q3 cL cI cJ (nt_del f n j) (nt_del g n j) (nt_del h n j) (n - 1)) := hD
    refine lv_goto (tgt := 18) hx hb dX0_take_13 (by decide) ?_
    exact W.iret (v := h j) hx hb hr (fun t ht hW => ⟨⟨h j, nt_delS (f, g, h, n) j, rfl, nt_take_did (st := (f, g, h, n)) hn hj rfl, by rw [ht]; exact hP, va_K.moved hW.alike hK, hD⟩, hS.F ht⟩) hS.2.2 dX0_take_18
  · refine lv_if_eq (tgt := 16) hx hb dX0_take_5 (by decide) (fun _ => ?_) (fun h9 => absurd h9 (by decide))
    refine lv_bipush (v := -2) hx hb dX0_take_16 (by decide) ?_
    exact W.iret (v := -2) hx hb hr (fun t ht hW => ⟨⟨-2, (f, g, h, n), rfl, nt_take_none (st := (f, g, h, n)) (Classical.not_not.mp hc), by rw [ht]; exact hP, va_K.moved hW.alike hK, hD⟩, hS.F ht⟩) hS.2.2 dX0_take_18
set_option maxHeartbeats 4000000 in
set_option maxRecDepth 100000 in
/-- promise 7 -/
theorem kX_name (l : Launch) (dC : Nat → ClassId) (dI : Nat → Nat → Nat) (h0 q1 q2 q3 sz : Nat) (cL cI cJ : ClassId) (f : Nat → Int64) (g h : Nat → Int32) (n : Nat) (k : Int32) (hn : n ≤ 900) : Met l yX0_name wsX0_name ({ frames := 1, cells := 0, slots := 0, locals := 40 } : Room) (va_Pc [.ref h0, .int k] (nt_in dC dI 0 h0 q1 q2 q3 cL cI cJ f g h n sz)) (va_Ql (fun (r : Int64) (u : nt_S) => r = nt_name (f, g, h, n) k ∧ u = (f, g, h, n)) (nt_out dC dI 0 h0 q1 q2 q3 cL cI cJ (va_A (nt_w 0 h0 q1 q2 q3 cL cI cJ f g h n) sz)) (va_A (nt_w 0 h0 q1 q2 q3 cL cI cJ f g h n) sz)) 0 0 (va_A (nt_w 0 h0 q1 q2 q3 cL cI cJ f g h n) sz) := by
  refine Met.ofW (cc := cX0_name) (maxL := 2) (ret := (some .long)) (by decide) rfl ?_
  intro p e s m args below meth c s₁ B hml hv
  obtain ⟨rfl, hsz, hP, hK, hD0⟩ := hv
  have hx := B.exec
  have hb := B.bytes
  have hr := B.returns
  have hts := atoms_spec (ws := wsX0_name) B.pre
  have hown : s.vm.findClass RX0 = some m.cls := findClass_of_methodNamed B.named
  have hlocks := B.notSynchronized
  subst hsz
  have hD := hD0.self (sz := s.heap.size)
  generalize hAe : va_A (nt_w 0 h0 q1 q2 q3 cL cI cJ f g h n) s.heap.size = A at hD ⊢
  have hA : ∀ q : Nat, s.heap.size ≤ q → A q := fun q h => by rw [← hAe]; exact Or.inr h
  have hS : va_S A s.heap s.heap [] := va_S.rf
  have hin : ∀ w ∈ u_ws RX0 TX0 4, w ∈ wsX0_name := by decide +kernel
  have hf0 := hts (.fieldLink RX0 9 "NameTable" "ids" "[J") (by decide +kernel)
  have hl := lv_entry ([.ref h0, .int k]) (n := 2) (Nat.le_of_ble_eq_true rfl)
  rw [lg_entry_eq]
  generalize (lg_sl ([.ref h0, .int k]) ++ List.replicate (2 - (lg_sl ([.ref h0, .int k])).length) Slot.unset).toArray = ls at hl ⊢
  have hl : lv_has ls 2 [(0, .ref h0), (1, .int k)] := hl
  refine lv_aload_n hx hb dX0_name_0 rfl (lv_at hl 0 rfl) ?_
  refine lv_iload_n hx hb dX0_name_1 rfl (lv_at hl 1 rfl) ?_
  refine nt_calli (va_runV (As := [.int k]) (rest := []) ⟨hx, hb, hml, hown, hts⟩ (kX_isPlace l dC dI h0 q1 q2 q3 _ cL cI cJ f g h n k hn) (cwV 1 hts gX0_name_X0_isPlace rfl rfl rfl (by decide +kernel) ⟨Nat.le_of_ble_eq_true rfl, Nat.le_of_ble_eq_true rfl⟩) (nt_preV rfl hP hK hD [.int k]) rfl rfl hl.1 rfl (lv_room (Nat.le_of_ble_eq_true rfl)) dX0_name_2 ⟨Nat.zero_le _, Nat.zero_le _⟩) hP hD hS hA (fun r u H locs hpost hP hD hS => ?_)
  obtain ⟨hpost, rfl⟩ := hpost
  have hP : va_P (dC, dI) vwCl (nt_w 0 h0 q1 q2 q3 cL cI cJ f g h n) H := hP
  have hD : va_D A (nt_w 0 h0 q1 q2 q3 cL cI cJ f g h n) := hD
  rcases hpost with ⟨rfl, hc⟩ | ⟨rfl, hc⟩
  · refine lv_if_eq (tgt := 17) hx hb dX0_name_5 (by decide) (fun h9 => absurd h9 (by decide)) (fun _ => ?_)
    obtain ⟨j, hj, rfl⟩ : ∃ j : Nat, j < n ∧ k = nI j := (pk_ix k (show n < 2 ^ 31 by omega)).elim (fun h9 => absurd (Or.inl h9) hc) (fun h9 => h9.elim (fun h8 => absurd (Or.inr h8) hc) id)
    refine lv_aload_n hx hb dX0_name_8 rfl (lv_at hl 0 rfl) ?_
    refine va_get (D := (dC, dI)) (ci := 0) (v := .ref q1) (C := RX0) (T := TX0) (N := 4) hx hb hts hin hown hK hP 0 rfl rfl 0 (by decide) hf0 (fun _ h9 => h9) rfl dX0_name_9 ?_
    refine lv_iload_n hx hb dX0_name_12 rfl (lv_at hl 1 rfl) ?_
    refine nt_lald hx hb hK hP 1 0 rfl rfl (by omega) dX0_name_13 ?_
    refine lv_goto (tgt := 18) hx hb dX0_name_14 (by decide) ?_
    exact W.lret (v := f j) hx hb hr (fun t ht hW => ⟨⟨f j, (f, g, h, n), rfl, ⟨nt_name_is (st := (f, g, h, n)) hn hj rfl, rfl⟩, by rw [ht]; exact hP, va_K.moved hW.alike hK, hD⟩, hS.F ht⟩) hS.2.2 dX0_name_18
  · refine lv_if_eq (tgt := 17) hx hb dX0_name_5 (by decide) (fun _ => ?_) (fun h9 => absurd h9 (by decide))
    refine lv_lconst (v := 0) hx hb dX0_name_17 (by decide) ?_
    exact W.lret (v := 0) hx hb hr (fun t ht hW => ⟨⟨0, (f, g, h, n), rfl, ⟨nt_name_none (st := (f, g, h, n)) (Classical.not_not.mp hc), rfl⟩, by rw [ht]; exact hP, va_K.moved hW.alike hK, hD⟩, hS.F ht⟩) hS.2.2 dX0_name_18
set_option maxHeartbeats 4000000 in
set_option maxRecDepth 100000 in
/-- promise 8 -/
theorem kX_index (l : Launch) (dC : Nat → ClassId) (dI : Nat → Nat → Nat) (h0 q1 q2 q3 sz : Nat) (cL cI cJ : ClassId) (f : Nat → Int64) (g h : Nat → Int32) (n : Nat) (k : Int32) (hn : n ≤ 900) : Met l yX0_index wsX0_index ({ frames := 1, cells := 0, slots := 0, locals := 40 } : Room) (va_Pc [.ref h0, .int k] (nt_in dC dI 0 h0 q1 q2 q3 cL cI cJ f g h n sz)) (va_Qi (fun (r : Int32) (u : nt_S) => r = nt_index (f, g, h, n) k ∧ u = (f, g, h, n)) (nt_out dC dI 0 h0 q1 q2 q3 cL cI cJ (va_A (nt_w 0 h0 q1 q2 q3 cL cI cJ f g h n) sz)) (va_A (nt_w 0 h0 q1 q2 q3 cL cI cJ f g h n) sz)) 0 0 (va_A (nt_w 0 h0 q1 q2 q3 cL cI cJ f g h n) sz) := by
  refine Met.ofW (cc := cX0_index) (maxL := 2) (ret := (some .int)) (by decide) rfl ?_
  intro p e s m args below meth c s₁ B hml hv
  obtain ⟨rfl, hsz, hP, hK, hD0⟩ := hv
  have hx := B.exec
  have hb := B.bytes
  have hr := B.returns
  have hts := atoms_spec (ws := wsX0_index) B.pre
  have hown : s.vm.findClass RX0 = some m.cls := findClass_of_methodNamed B.named
  have hlocks := B.notSynchronized
  subst hsz
  have hD := hD0.self (sz := s.heap.size)
  generalize hAe : va_A (nt_w 0 h0 q1 q2 q3 cL cI cJ f g h n) s.heap.size = A at hD ⊢
  have hA : ∀ q : Nat, s.heap.size ≤ q → A q := fun q h => by rw [← hAe]; exact Or.inr h
  have hS : va_S A s.heap s.heap [] := va_S.rf
  have hin : ∀ w ∈ u_ws RX0 TX0 4, w ∈ wsX0_index := by decide +kernel
  have hf1 := hts (.fieldLink RX0 13 "NameTable" "indexes" "[I") (by decide +kernel)
  have hl := lv_entry ([.ref h0, .int k]) (n := 2) (Nat.le_of_ble_eq_true rfl)
  rw [lg_entry_eq]
  generalize (lg_sl ([.ref h0, .int k]) ++ List.replicate (2 - (lg_sl ([.ref h0, .int k])).length) Slot.unset).toArray = ls at hl ⊢
  have hl : lv_has ls 2 [(0, .ref h0), (1, .int k)] := hl
  refine lv_aload_n hx hb dX0_index_0 rfl (lv_at hl 0 rfl) ?_
  refine lv_iload_n hx hb dX0_index_1 rfl (lv_at hl 1 rfl) ?_
  refine nt_calli (va_runV (As := [.int k]) (rest := []) ⟨hx, hb, hml, hown, hts⟩ (kX_isPlace l dC dI h0 q1 q2 q3 _ cL cI cJ f g h n k hn) (cwV 1 hts gX0_index_X0_isPlace rfl rfl rfl (by decide +kernel) ⟨Nat.le_of_ble_eq_true rfl, Nat.le_of_ble_eq_true rfl⟩) (nt_preV rfl hP hK hD [.int k]) rfl rfl hl.1 rfl (lv_room (Nat.le_of_ble_eq_true rfl)) dX0_index_2 ⟨Nat.zero_le _, Nat.zero_le _⟩) hP hD hS hA (fun r u H locs hpost hP hD hS => ?_)
  obtain ⟨hpost, rfl⟩ := hpost
  have hP : va_P (dC, dI) vwCl (nt_w 0 h0 q1 q2 q3 cL cI cJ f g h n) H := hP
  have hD : va_D A (nt_w 0 h0 q1 q2 q3 cL cI cJ f g h n) := hD
  rcases hpost with ⟨rfl, hc⟩ | ⟨rfl, hc⟩
  · refine lv_if_eq (tgt := 17) hx hb dX0_index_5 (by decide) (fun h9 => absurd h9 (by decide)) (fun _ => ?_)
    obtain ⟨j, hj, rfl⟩ : ∃ j : Nat, j < n ∧ k = nI j := (pk_ix k (show n < 2 ^ 31 by omega)).elim (fun h9 => absurd (Or.inl h9) hc) (fun h9 => h9.elim (fun h8 => absurd (Or.inr h8) hc) id)
    refine lv_aload_n hx hb dX0_index_8 rfl (lv_at hl 0 rfl) ?_
    refine va_get (D := (dC, dI)) (ci := 0) (v := .ref q2) (C := RX0) (T := TX0) (N := 4) hx hb hts hin hown hK hP 0 rfl rfl 1 (by decide) hf1 (fun _ h9 => h9) rfl dX0_index_9 ?_
    refine lv_iload_n hx hb dX0_index_12 rfl (lv_at hl 1 rfl) ?_
    refine nt_iald hx hb hK hP 2 1 rfl rfl (by omega) dX0_index_13 ?_
    refine lv_goto (tgt := 19) hx hb dX0_index_14 (by decide) ?_
    exact W.iret (v := g j) hx hb hr (fun t ht hW => ⟨⟨g j, (f, g, h, n), rfl, ⟨nt_index_is (st := (f, g, h, n)) hn hj rfl, rfl⟩, by rw [ht]; exact hP, va_K.moved hW.alike hK, hD⟩, hS.F ht⟩) hS.2.2 dX0_index_19
  · refine lv_if_eq (tgt := 17) hx hb dX0_index_5 (by decide) (fun _ => ?_) (fun h9 => absurd h9 (by decide))
    refine lv_bipush (v := -2) hx hb dX0_index_17 (by decide) ?_
    exact W.iret (v := -2) hx hb hr (fun t ht hW => ⟨⟨-2, (f, g, h, n), rfl, ⟨nt_index_none (st := (f, g, h, n)) (Classical.not_not.mp hc), rfl⟩, by rw [ht]; exact hP, va_K.moved hW.alike hK, hD⟩, hS.F ht⟩) hS.2.2 dX0_index_19
set_option maxHeartbeats 4000000 in
set_option maxRecDepth 100000 in
/-- promise 9 -/
theorem kX_many (l : Launch) (dC : Nat → ClassId) (dI : Nat → Nat → Nat) (h0 q1 q2 q3 sz : Nat) (cL cI cJ : ClassId) (f : Nat → Int64) (g h : Nat → Int32) (n : Nat)  : Met l yX0_many wsX0_many ({ frames := 0, cells := 0, slots := 0, locals := 0 } : Room) (va_Pc [.ref h0] (nt_in dC dI 0 h0 q1 q2 q3 cL cI cJ f g h n sz)) (va_Qi (fun (r : Int32) (u : nt_S) => r = nI n ∧ u = (f, g, h, n)) (nt_out dC dI 0 h0 q1 q2 q3 cL cI cJ (va_A (nt_w 0 h0 q1 q2 q3 cL cI cJ f g h n) sz)) (va_A (nt_w 0 h0 q1 q2 q3 cL cI cJ f g h n) sz)) 0 0 (va_A (nt_w 0 h0 q1 q2 q3 cL cI cJ f g h n) sz) := by
  refine Met.ofW (cc := cX0_many) (maxL := 1) (ret := (some .int)) (by decide) rfl ?_
  intro p e s m args below meth c s₁ B hml hv
  obtain ⟨rfl, hsz, hP, hK, hD0⟩ := hv
  have hx := B.exec
  have hb := B.bytes
  have hr := B.returns
  have hts := atoms_spec (ws := wsX0_many) B.pre
  have hown : s.vm.findClass RX0 = some m.cls := findClass_of_methodNamed B.named
  have hlocks := B.notSynchronized
  subst hsz
  have hD := hD0.self (sz := s.heap.size)
  generalize hAe : va_A (nt_w 0 h0 q1 q2 q3 cL cI cJ f g h n) s.heap.size = A at hD ⊢
  have hA : ∀ q : Nat, s.heap.size ≤ q → A q := fun q h => by rw [← hAe]; exact Or.inr h
  have hS : va_S A s.heap s.heap [] := va_S.rf
  have hin : ∀ w ∈ u_ws RX0 TX0 4, w ∈ wsX0_many := by decide +kernel
  have hf3 := hts (.fieldLink RX0 20 "NameTable" "count" "I") (by decide +kernel)
  have hl := lv_entry ([.ref h0]) (n := 1) (Nat.le_of_ble_eq_true rfl)
  rw [lg_entry_eq]
  generalize (lg_sl ([.ref h0]) ++ List.replicate (1 - (lg_sl ([.ref h0])).length) Slot.unset).toArray = ls at hl ⊢
  have hl : lv_has ls 1 [(0, .ref h0)] := hl
  refine lv_aload_n hx hb dX0_many_0 rfl (lv_at hl 0 rfl) ?_
  refine va_get (D := (dC, dI)) (ci := 0) (v := .int (nI n)) (C := RX0) (T := TX0) (N := 4) hx hb hts hin hown hK hP 0 rfl rfl 3 (by decide) hf3 (fun _ h9 => h9) rfl dX0_many_1 ?_
  exact W.iret (v := nI n) hx hb hr (fun t ht hW => ⟨⟨nI n, (f, g, h, n), rfl, ⟨rfl, rfl⟩, by rw [ht]; exact hP, va_K.moved hW.alike hK, hD⟩, hS.F ht⟩) hS.2.2 dX0_many_4
set_option maxHeartbeats 4000000 in
set_option maxRecDepth 100000 in
/-- promise 10 -/
theorem kX_value (l : Launch) (dC : Nat → ClassId) (dI : Nat → Nat → Nat) (h0 q1 q2 q3 sz : Nat) (cL cI cJ : ClassId) (f : Nat → Int64) (g h : Nat → Int32) (n : Nat) (hn : n ≤ 900) : Met l yX0_value wsX0_value ({ frames := 0, cells := 0, slots := 0, locals := 0 } : Room) (va_Pc [.ref h0] (nt_in dC dI 0 h0 q1 q2 q3 cL cI cJ f g h n sz)) (va_Ql (fun (r : Int64) (u : nt_S) => r = nt_sum h n ∧ u = (f, g, h, n)) (nt_out dC dI 0 h0 q1 q2 q3 cL cI cJ (va_A (nt_w 0 h0 q1 q2 q3 cL cI cJ f g h n) sz)) (va_A (nt_w 0 h0 q1 q2 q3 cL cI cJ f g h n) sz)) 0 0 (va_A (nt_w 0 h0 q1 q2 q3 cL cI cJ f g h n) sz) := by
  refine Met.ofW (cc := cX0_value) (maxL := 4) (ret := (some .long)) (by decide) rfl ?_
  intro p e s m args below meth c s₁ B hml hv
  obtain ⟨rfl, hsz, hP, hK, hD0⟩ := hv
  have hx := B.exec
  have hb := B.bytes
  have hr := B.returns
  have hts := atoms_spec (ws := wsX0_value) B.pre
  have hown : s.vm.findClass RX0 = some m.cls := findClass_of_methodNamed B.named
  have hlocks := B.notSynchronized
  subst hsz
  have hD := hD0.self (sz := s.heap.size)
  generalize hAe : va_A (nt_w 0 h0 q1 q2 q3 cL cI cJ f g h n) s.heap.size = A at hD ⊢
  have hA : ∀ q : Nat, s.heap.size ≤ q → A q := fun q h => by rw [← hAe]; exact Or.inr h
  have hS : va_S A s.heap s.heap [] := va_S.rf
  have hin : ∀ w ∈ u_ws RX0 TX0 4, w ∈ wsX0_value := by decide +kernel
  have hf2 := hts (.fieldLink RX0 17 "NameTable" "values" "[I") (by decide +kernel)
  have hf3 := hts (.fieldLink RX0 20 "NameTable" "count" "I") (by decide +kernel)
  have hl := lv_entry ([.ref h0]) (n := 4) (Nat.le_of_ble_eq_true rfl)
  rw [lg_entry_eq]
  generalize (lg_sl ([.ref h0]) ++ List.replicate (4 - (lg_sl ([.ref h0])).length) Slot.unset).toArray = ls at hl ⊢
  have hl : lv_has ls 4 [(0, .ref h0)] := hl
  refine lv_lconst (v := 0) hx hb dX0_value_0 (by decide) ?_
  refine lv_lstore_n (lv' := [(1, .long 0), (0, .ref h0)]) hx hb dX0_value_1 rfl hl (by decide) rfl (fun ls hl => ?_)
  refine lv_iconst (v := nI 0) hx hb dX0_value_2 (by decide) ?_
  refine lv_istore_n (lv' := [(3, .int (nI 0)), (1, .long 0), (0, .ref h0)]) hx hb dX0_value_3 rfl hl (by decide) rfl (fun ls hl => ?_)
  refine nt_here (fun Q hQ => ?_)
  have loop : ∀ (d i : Nat), i + d = n → ∀ (ls : Array Slot), lv_has ls 4 [(0, .ref h0), (1, .long (nt_sum h i)), (3, .int (nI i))] → W p l e ({ frames := 0, cells := 0, slots := 0, locals := 0 } : Room) s m ([.ref h0] : List Value).toArray below meth c s.heap [] 0 0 Q (F0 m 4 ls []) := by
    intro d
    induction d with
    | zero =>
      intro i hi ls hl
      have hi : i = n := by omega
      subst hi
      refine lv_iload_n hx hb dX0_value_4 rfl (lv_at hl 2 rfl) ?_
      refine lv_aload_n hx hb dX0_value_5 rfl (lv_at hl 0 rfl) ?_
      refine va_get (D := (dC, dI)) (ci := 0) (v := .int (nI i)) (C := RX0) (T := TX0) (N := 4) hx hb hts hin hown hK hP 0 rfl rfl 3 (by decide) hf3 (fun _ h9 => h9) rfl dX0_value_6 ?_
      refine lv_icmp_ge (tgt := 28) hx hb dX0_value_9 (by decide) (fun hc => ?_) (fun hc => ?_)
      · refine lv_lload_n hx hb dX0_value_28 rfl (lv_at hl 1 rfl) ?_
        subst hQ
        exact W.lret (v := nt_sum h i) hx hb hr (fun t ht hW => ⟨⟨nt_sum h i, (f, g, h, i), rfl, ⟨rfl, rfl⟩, by rw [ht]; exact hP, va_K.moved hW.alike hK, hD⟩, hS.F ht⟩) hS.2.2 dX0_value_29
      · exact absurd (nI_le (Nat.le_refl i) (by omega)) hc
    | succ d ih =>
      intro i hi ls hl
      refine lv_iload_n hx hb dX0_value_4 rfl (lv_at hl 2 rfl) ?_
      refine lv_aload_n hx hb dX0_value_5 rfl (lv_at hl 0 rfl) ?_
      refine va_get (D := (dC, dI)) (ci := 0) (v := .int (nI n)) (C := RX0) (T := TX0) (N := 4) hx hb hts hin hown hK hP 0 rfl rfl 3 (by decide) hf3 (fun _ h9 => h9) rfl dX0_value_6 ?_
      refine lv_icmp_ge (tgt := 28) hx hb dX0_value_9 (by decide) (fun hc => ?_) (fun hc => ?_)
      · exact absurd hc (nI_ge (show i < n by omega) (by omega))
      · refine lv_lload_n hx hb dX0_value_12 rfl (lv_at hl 1 rfl) ?_
        refine lv_aload_n hx hb dX0_value_13 rfl (lv_at hl 0 rfl) ?_
        refine va_get (D := (dC, dI)) (ci := 0) (v := .ref q3) (C := RX0) (T := TX0) (N := 4) hx hb hts hin hown hK hP 0 rfl rfl 2 (by decide) hf2 (fun _ h9 => h9) rfl dX0_value_14 ?_
        refine lv_iload_n hx hb dX0_value_17 rfl (lv_at hl 2 rfl) ?_
        refine nt_iald hx hb hK hP 3 2 rfl rfl (by omega) dX0_value_18 ?_
        refine lv_i2l (v := (h i).toInt64) hx hb dX0_value_19 rfl ?_
        refine lv_ladd hx hb dX0_value_20 ?_
        refine lv_lstore_n (lv' := [(1, .long ((nt_sum h i) + ((h i).toInt64))), (0, .ref h0), (3, .int (nI i))]) hx hb dX0_value_21 rfl hl (by decide) rfl (fun ls hl => ?_)
        refine lv_iinc (k := 2) (v := nI (i + 1)) (lv' := [(3, .int (nI (i + 1))), (1, .long ((nt_sum h i) + ((h i).toInt64))), (0, .ref h0)]) hx hb dX0_value_22 hl rfl (by rw [show Int32.ofInt 1 = 1 by decide]; exact nI_1 _) (by decide) rfl (fun ls hl => ?_)
        refine lv_goto (tgt := 4) hx hb dX0_value_25 (by decide) ?_
        exact ih (i + 1) (by omega) ls (lv_sub hl [2, 1, 0] rfl)
  exact loop n 0 (by omega) ls (lv_sub hl [2, 1, 0] rfl)
end
section
set_option maxHeartbeats 4000000 in
set_option maxRecDepth 100000 in
/-- the reference's place, from below -/
theorem kM_place (l : Launch) (dC : Nat → ClassId) (dI : Nat → Nat → Nat) (h0 q1 q2 q3 sz : Nat) (cL cI cJ : ClassId) (f : Nat → Int64) (g h : Nat → Int32) (n : Nat) (id : Int64) (ix : Int32) (hn : n ≤ 900) : Met l yX1_place wsX1_place ({ frames := 0, cells := 0, slots := 0, locals := 0 } : Room) (va_Pc [.ref h0, .long id, .int ix] (nt_in dC dI 1 h0 q1 q2 q3 cL cI cJ f g h n sz)) (va_Qi (fun (r : Int32) (u : nt_S) => (∃ pl : Nat, r = nI pl ∧ nt_at (f, g, h, n) (nt_k id ix) pl) ∧ u = (f, g, h, n)) (nt_out dC dI 1 h0 q1 q2 q3 cL cI cJ (va_A (nt_w 1 h0 q1 q2 q3 cL cI cJ f g h n) sz)) (va_A (nt_w 1 h0 q1 q2 q3 cL cI cJ f g h n) sz)) 0 0 (va_A (nt_w 1 h0 q1 q2 q3 cL cI cJ f g h n) sz) := by
  refine Met.ofW (cc := cX1_place) (maxL := 5) (ret := (some .int)) (by decide) rfl ?_
  intro p e s m args below meth c s₁ B hml hv
  obtain ⟨rfl, hsz, hP, hK, hD0⟩ := hv
  have hx := B.exec
  have hb := B.bytes
  have hr := B.returns
  have hts := atoms_spec (ws := wsX1_place) B.pre
  have hown : s.vm.findClass RX1 = some m.cls := findClass_of_methodNamed B.named
  have hlocks := B.notSynchronized
  subst hsz
  have hD := hD0.self (sz := s.heap.size)
  generalize hAe : va_A (nt_w 1 h0 q1 q2 q3 cL cI cJ f g h n) s.heap.size = A at hD ⊢
  have hA : ∀ q : Nat, s.heap.size ≤ q → A q := fun q h => by rw [← hAe]; exact Or.inr h
  have hS : va_S A s.heap s.heap [] := va_S.rf
  have hin : ∀ w ∈ u_ws RX1 TX1 4, w ∈ wsX1_place := by decide +kernel
  have hf0 := hts (.fieldLink RX1 9 "NameTableModel" "id" "[J") (by decide +kernel)
  have hf1 := hts (.fieldLink RX1 13 "NameTableModel" "index" "[I") (by decide +kernel)
  have hf3 := hts (.fieldLink RX1 20 "NameTableModel" "count" "I") (by decide +kernel)
  have hl := lv_entry ([.ref h0, .long id, .int ix]) (n := 5) (Nat.le_of_ble_eq_true rfl)
  rw [lg_entry_eq]
  generalize (lg_sl ([.ref h0, .long id, .int ix]) ++ List.replicate (5 - (lg_sl ([.ref h0, .long id, .int ix])).length) Slot.unset).toArray = ls at hl ⊢
  have hl : lv_has ls 5 [(0, .ref h0), (1, .long id), (3, .int ix)] := hl
  refine lv_iconst (v := nI 0) hx hb dX1_place_0 (by decide) ?_
  refine lv_istore (lv' := [(4, .int (nI 0)), (0, .ref h0), (1, .long id), (3, .int ix)]) hx hb dX1_place_1 hl (by decide) rfl (fun ls hl => ?_)
  refine nt_here (fun Q hQ => ?_)
  have loop : ∀ (d i : Nat), i + d = n → (∀ j, j < i → nt_K (f, g, h, n) j < nt_k id ix) → ∀ (ls : Array Slot), lv_has ls 5 [(0, .ref h0), (1, .long id), (3, .int ix), (4, .int (nI i))] → W p l e ({ frames := 0, cells := 0, slots := 0, locals := 0 } : Room) s m ([.ref h0, .long id, .int ix] : List Value).toArray below meth c s.heap [] 0 0 Q (F0 m 3 ls []) := by
    intro d
    induction d with
    | zero =>
      intro i hi hlo ls hl
      refine lv_iload hx hb dX1_place_3 (lv_at hl 3 rfl) ?_
      refine lv_aload_n hx hb dX1_place_5 rfl (lv_at hl 0 rfl) ?_
      refine va_get (D := (dC, dI)) (ci := 1) (v := .int (nI n)) (C := RX1) (T := TX1) (N := 4) hx hb hts hin hown hK hP 0 rfl rfl 3 (by decide) hf3 (fun _ h9 => h9) rfl dX1_place_6 ?_
      refine lv_icmp_ge (tgt := 53) hx hb dX1_place_9 (by decide) (fun hc => ?_) (fun hc => ?_)
      · refine lv_iload hx hb dX1_place_53 (lv_at hl 3 rfl) ?_
        subst hQ
        exact W.iret (v := nI i) hx hb hr (fun t ht hW => ⟨⟨nI i, (f, g, h, n), rfl, ⟨⟨i, rfl, by show i ≤ n; omega, hlo, fun h9 => absurd h9 (by show ¬ i < n; omega)⟩, rfl⟩, by rw [ht]; exact hP, va_K.moved hW.alike hK, hD⟩, hS.F ht⟩) hS.2.2 dX1_place_55
      · exact absurd (nI_le (show n ≤ i by omega) (by omega)) hc
    | succ d ih =>
      intro i hi hlo ls hl
      have hk : nt_K (f, g, h, n) i < nt_k id ix ↔ (f i < id ∨ (f i = id ∧ g i < ix)) := nt_k_lt _ _ _ _
      refine lv_iload hx hb dX1_place_3 (lv_at hl 3 rfl) ?_
      refine lv_aload_n hx hb dX1_place_5 rfl (lv_at hl 0 rfl) ?_
      refine va_get (D := (dC, dI)) (ci := 1) (v := .int (nI n)) (C := RX1) (T := TX1) (N := 4) hx hb hts hin hown hK hP 0 rfl rfl 3 (by decide) hf3 (fun _ h9 => h9) rfl dX1_place_6 ?_
      refine lv_icmp_ge (tgt := 53) hx hb dX1_place_9 (by decide) (fun hc => ?_) (fun hc => ?_)
      · exact absurd hc (nI_ge (show i < n by omega) (by omega))
      · refine lv_aload_n hx hb dX1_place_12 rfl (lv_at hl 0 rfl) ?_
        refine va_get (D := (dC, dI)) (ci := 1) (v := .ref q1) (C := RX1) (T := TX1) (N := 4) hx hb hts hin hown hK hP 0 rfl rfl 0 (by decide) hf0 (fun _ h9 => h9) rfl dX1_place_13 ?_
        refine lv_iload hx hb dX1_place_16 (lv_at hl 3 rfl) ?_
        refine nt_lald hx hb hK hP 1 0 rfl rfl (by omega) dX1_place_18 ?_
        refine lv_lload_n hx hb dX1_place_19 rfl (lv_at hl 1 rfl) ?_
        refine W.lcmp hx hb dX1_place_20 ?_
        refine lv_if_lt (tgt := 47) hx hb dX1_place_21 (by decide) (fun h1 => ?_) (fun h1 => ?_)
        · have hlt : nt_K (f, g, h, n) i < nt_k id ix := hk.mpr (Or.inl ((lg_cmp_lt _ _).mp h1))
          refine lv_iinc (k := 3) (v := nI (i + 1)) (lv' := [(4, .int (nI (i + 1))), (0, .ref h0), (1, .long id), (3, .int ix)]) hx hb dX1_place_47 hl rfl (by rw [show Int32.ofInt 1 = 1 by decide]; exact nI_1 _) (by decide) rfl (fun ls hl => ?_)
          refine lv_goto (tgt := 3) hx hb dX1_place_50 (by decide) ?_
          exact ih (i + 1) (by omega) (lt_s hlo hlt) ls (lv_sub hl [1, 2, 3, 0] rfl)
        · have h1 : ¬ f i < id := fun h9 => h1 ((lg_cmp_lt _ _).mpr h9)
          refine lv_aload_n hx hb dX1_place_24 rfl (lv_at hl 0 rfl) ?_
          refine va_get (D := (dC, dI)) (ci := 1) (v := .ref q1) (C := RX1) (T := TX1) (N := 4) hx hb hts hin hown hK hP 0 rfl rfl 0 (by decide) hf0 (fun _ h9 => h9) rfl dX1_place_25 ?_
          refine lv_iload hx hb dX1_place_28 (lv_at hl 3 rfl) ?_
          refine nt_lald hx hb hK hP 1 0 rfl rfl (by omega) dX1_place_30 ?_
          refine lv_lload_n hx hb dX1_place_31 rfl (lv_at hl 1 rfl) ?_
          refine W.lcmp hx hb dX1_place_32 ?_
          refine lv_if_ne (tgt := 53) hx hb dX1_place_33 (by decide) (fun h2 => ?_) (fun h2 => ?_)
          · refine lv_iload hx hb dX1_place_53 (lv_at hl 3 rfl) ?_
            subst hQ
            exact W.iret (v := nI i) hx hb hr (fun t ht hW => ⟨⟨nI i, (f, g, h, n), rfl, ⟨⟨i, rfl, by show i ≤ n; omega, hlo, fun _ => Int.not_lt.mp (fun h9 => (hk.mp h9).elim h1 (fun h8 => h2 ((lg_cmp_eq _ _).mpr h8.1)))⟩, rfl⟩, by rw [ht]; exact hP, va_K.moved hW.alike hK, hD⟩, hS.F ht⟩) hS.2.2 dX1_place_55
          · have h2 : f i = id := (lg_cmp_eq _ _).mp h2
            refine lv_aload_n hx hb dX1_place_36 rfl (lv_at hl 0 rfl) ?_
            refine va_get (D := (dC, dI)) (ci := 1) (v := .ref q2) (C := RX1) (T := TX1) (N := 4) hx hb hts hin hown hK hP 0 rfl rfl 1 (by decide) hf1 (fun _ h9 => h9) rfl dX1_place_37 ?_
            refine lv_iload hx hb dX1_place_40 (lv_at hl 3 rfl) ?_
            refine nt_iald hx hb hK hP 2 1 rfl rfl (by omega) dX1_place_42 ?_
            refine lv_iload_n hx hb dX1_place_43 rfl (lv_at hl 2 rfl) ?_
            refine lv_icmp_ge (tgt := 53) hx hb dX1_place_44 (by decide) (fun h3 => ?_) (fun h3 => ?_)
            · refine lv_iload hx hb dX1_place_53 (lv_at hl 3 rfl) ?_
              subst hQ
              exact W.iret (v := nI i) hx hb hr (fun t ht hW => ⟨⟨nI i, (f, g, h, n), rfl, ⟨⟨i, rfl, by show i ≤ n; omega, hlo, fun _ => Int.not_lt.mp (fun h9 => (hk.mp h9).elim h1 (fun h8 => Int32.not_le.mpr h8.2 h3))⟩, rfl⟩, by rw [ht]; exact hP, va_K.moved hW.alike hK, hD⟩, hS.F ht⟩) hS.2.2 dX1_place_55
            · have hlt : nt_K (f, g, h, n) i < nt_k id ix := hk.mpr (Or.inr ⟨h2, Int32.not_le.mp h3⟩)
              refine lv_iinc (k := 3) (v := nI (i + 1)) (lv' := [(4, .int (nI (i + 1))), (0, .ref h0), (1, .long id), (3, .int ix)]) hx hb dX1_place_47 hl rfl (by rw [show Int32.ofInt 1 = 1 by decide]; exact nI_1 _) (by decide) rfl (fun ls hl => ?_)
              refine lv_goto (tgt := 3) hx hb dX1_place_50 (by decide) ?_
              exact ih (i + 1) (by omega) (lt_s hlo hlt) ls (lv_sub hl [1, 2, 3, 0] rfl)
  exact loop n 0 (by omega) (fun j h9 => absurd h9 (Nat.not_lt_zero j)) ls (lv_sub hl [1, 2, 3, 0] rfl)
set_option maxHeartbeats 4000000 in
set_option maxRecDepth 100000 in
/-- has the coin at j this name -/
theorem kM_is (l : Launch) (dC : Nat → ClassId) (dI : Nat → Nat → Nat) (h0 q1 q2 q3 sz : Nat) (cL cI cJ : ClassId) (f : Nat → Int64) (g h : Nat → Int32) (n : Nat) (j : Nat) (id : Int64) (ix : Int32) (hj : j ≤ 900) (hn : n ≤ 900) : Met l yX1_is wsX1_is ({ frames := 0, cells := 0, slots := 0, locals := 0 } : Room) (va_Pc [.ref h0, .int (nI j), .long id, .int ix] (nt_in dC dI 1 h0 q1 q2 q3 cL cI cJ f g h n sz)) (va_Qi (fun (r : Int32) (u : nt_S) => nt_b r (nt_is (f, g, h, n) id ix j) ∧ u = (f, g, h, n)) (nt_out dC dI 1 h0 q1 q2 q3 cL cI cJ (va_A (nt_w 1 h0 q1 q2 q3 cL cI cJ f g h n) sz)) (va_A (nt_w 1 h0 q1 q2 q3 cL cI cJ f g h n) sz)) 0 0 (va_A (nt_w 1 h0 q1 q2 q3 cL cI cJ f g h n) sz) := by
  refine Met.ofW (cc := cX1_is) (maxL := 5) (ret := (some .boolean)) (by decide) rfl ?_
  intro p e s m args below meth c s₁ B hml hv
  obtain ⟨rfl, hsz, hP, hK, hD0⟩ := hv
  have hx := B.exec
  have hb := B.bytes
  have hr := B.returns
  have hts := atoms_spec (ws := wsX1_is) B.pre
  have hown : s.vm.findClass RX1 = some m.cls := findClass_of_methodNamed B.named
  have hlocks := B.notSynchronized
  subst hsz
  have hD := hD0.self (sz := s.heap.size)
  generalize hAe : va_A (nt_w 1 h0 q1 q2 q3 cL cI cJ f g h n) s.heap.size = A at hD ⊢
  have hA : ∀ q : Nat, s.heap.size ≤ q → A q := fun q h => by rw [← hAe]; exact Or.inr h
  have hS : va_S A s.heap s.heap [] := va_S.rf
  have hin : ∀ w ∈ u_ws RX1 TX1 4, w ∈ wsX1_is := by decide +kernel
  have hf0 := hts (.fieldLink RX1 9 "NameTableModel" "id" "[J") (by decide +kernel)
  have hf1 := hts (.fieldLink RX1 13 "NameTableModel" "index" "[I") (by decide +kernel)
  have hf3 := hts (.fieldLink RX1 20 "NameTableModel" "count" "I") (by decide +kernel)
  have hl := lv_entry ([.ref h0, .int (nI j), .long id, .int ix]) (n := 5) (Nat.le_of_ble_eq_true rfl)
  rw [lg_entry_eq]
  generalize (lg_sl ([.ref h0, .int (nI j), .long id, .int ix]) ++ List.replicate (5 - (lg_sl ([.ref h0, .int (nI j), .long id, .int ix])).length) Slot.unset).toArray = ls at hl ⊢
  have hl : lv_has ls 5 [(0, .ref h0), (1, .int (nI j)), (2, .long id), (4, .int ix)] := hl
  refine lv_iload_n hx hb dX1_is_0 rfl (lv_at hl 1 rfl) ?_
  refine lv_aload_n hx hb dX1_is_1 rfl (lv_at hl 0 rfl) ?_
  refine va_get (D := (dC, dI)) (ci := 1) (v := .int (nI n)) (C := RX1) (T := TX1) (N := 4) hx hb hts hin hown hK hP 0 rfl rfl 3 (by decide) hf3 (fun _ h9 => h9) rfl dX1_is_2 ?_
  refine lv_icmp_ge (tgt := 34) hx hb dX1_is_5 (by decide) (fun hc => ?_) (fun hc => ?_)
  · refine lv_iconst (v := 0) hx hb dX1_is_34 (by decide) ?_
    exact W.zret (v := 0) hx hb hr narrow_b0 (fun t ht hW => ⟨⟨0, (f, g, h, n), rfl, ⟨Or.inr ⟨rfl, fun h9 => nI_ge h9.1 (show n < 2 ^ 31 by omega) hc⟩, rfl⟩, by rw [ht]; exact hP, va_K.moved hW.alike hK, hD⟩, hS.F ht⟩) hS.2.2 dX1_is_35
  · have hjn : j < n := Nat.lt_of_not_le (fun h9 => hc (nI_le h9 (by omega)))
    refine lv_aload_n hx hb dX1_is_8 rfl (lv_at hl 0 rfl) ?_
    refine va_get (D := (dC, dI)) (ci := 1) (v := .ref q1) (C := RX1) (T := TX1) (N := 4) hx hb hts hin hown hK hP 0 rfl rfl 0 (by decide) hf0 (fun _ h9 => h9) rfl dX1_is_9 ?_
    refine lv_iload_n hx hb dX1_is_12 rfl (lv_at hl 1 rfl) ?_
    refine nt_lald hx hb hK hP 1 0 rfl rfl (by omega) dX1_is_13 ?_
    refine lv_lload_n hx hb dX1_is_14 rfl (lv_at hl 2 rfl) ?_
    refine W.lcmp hx hb dX1_is_15 ?_
    refine lv_if_ne (tgt := 34) hx hb dX1_is_16 (by decide) (fun h1 => ?_) (fun h1 => ?_)
    · refine lv_iconst (v := 0) hx hb dX1_is_34 (by decide) ?_
      exact W.zret (v := 0) hx hb hr narrow_b0 (fun t ht hW => ⟨⟨0, (f, g, h, n), rfl, ⟨Or.inr ⟨rfl, fun h9 => h1 ((lg_cmp_eq _ _).mpr h9.2.1)⟩, rfl⟩, by rw [ht]; exact hP, va_K.moved hW.alike hK, hD⟩, hS.F ht⟩) hS.2.2 dX1_is_35
    · have h1 : f j = id := (lg_cmp_eq _ _).mp h1
      refine lv_aload_n hx hb dX1_is_19 rfl (lv_at hl 0 rfl) ?_
      refine va_get (D := (dC, dI)) (ci := 1) (v := .ref q2) (C := RX1) (T := TX1) (N := 4) hx hb hts hin hown hK hP 0 rfl rfl 1 (by decide) hf1 (fun _ h9 => h9) rfl dX1_is_20 ?_
      refine lv_iload_n hx hb dX1_is_23 rfl (lv_at hl 1 rfl) ?_
      refine nt_iald hx hb hK hP 2 1 rfl rfl (by omega) dX1_is_24 ?_
      refine lv_iload hx hb dX1_is_25 (lv_at hl 3 rfl) ?_
      refine lv_icmp_ne (tgt := 34) hx hb dX1_is_27 (by decide) (fun h2 => ?_) (fun h2 => ?_)
      · refine lv_iconst (v := 0) hx hb dX1_is_34 (by decide) ?_
        exact W.zret (v := 0) hx hb hr narrow_b0 (fun t ht hW => ⟨⟨0, (f, g, h, n), rfl, ⟨Or.inr ⟨rfl, fun h9 => h2 h9.2.2⟩, rfl⟩, by rw [ht]; exact hP, va_K.moved hW.alike hK, hD⟩, hS.F ht⟩) hS.2.2 dX1_is_35
      · refine lv_iconst (v := 1) hx hb dX1_is_30 (by decide) ?_
        refine lv_goto (tgt := 35) hx hb dX1_is_31 (by decide) ?_
        exact W.zret (v := 1) hx hb hr narrow_b1 (fun t ht hW => ⟨⟨1, (f, g, h, n), rfl, ⟨Or.inl ⟨rfl, hjn, h1, h2⟩, rfl⟩, by rw [ht]; exact hP, va_K.moved hW.alike hK, hD⟩, hS.F ht⟩) hS.2.2 dX1_is_35
set_option maxHeartbeats 4000000 in
set_option maxRecDepth 100000 in
/-- the coin at place j goes -/
theorem kM_go (l : Launch) (dC : Nat → ClassId) (dI : Nat → Nat → Nat) (h0 q1 q2 q3 sz : Nat) (cL cI cJ : ClassId) (f : Nat → Int64) (g h : Nat → Int32) (n : Nat) (j : Nat) (hj : j < n) (hn : n ≤ 900) : Met l yX1_go wsX1_go ({ frames := 0, cells := 0, slots := 0, locals := 0 } : Room) (va_Pc [.ref h0, .int (nI j)] (nt_in dC dI 1 h0 q1 q2 q3 cL cI cJ f g h n sz)) (va_Qi (fun (r : Int32) (u : nt_S) => (r, u) = (h j, nt_delS (f, g, h, n) j)) (nt_out dC dI 1 h0 q1 q2 q3 cL cI cJ (va_A (nt_w 1 h0 q1 q2 q3 cL cI cJ f g h n) sz)) (va_A (nt_w 1 h0 q1 q2 q3 cL cI cJ f g h n) sz)) 0 0 (va_A (nt_w 1 h0 q1 q2 q3 cL cI cJ f g h n) sz) := by
  refine Met.ofW (cc := cX1_go) (maxL := 4) (ret := (some .int)) (by decide) rfl ?_
  intro p e s m args below meth c s₁ B hml hv
  obtain ⟨rfl, hsz, hP, hK, hD0⟩ := hv
  have hx := B.exec
  have hb := B.bytes
  have hr := B.returns
  have hts := atoms_spec (ws := wsX1_go) B.pre
  have hown : s.vm.findClass RX1 = some m.cls := findClass_of_methodNamed B.named
  have hlocks := B.notSynchronized
  subst hsz
  have hD := hD0.self (sz := s.heap.size)
  generalize hAe : va_A (nt_w 1 h0 q1 q2 q3 cL cI cJ f g h n) s.heap.size = A at hD ⊢
  have hA : ∀ q : Nat, s.heap.size ≤ q → A q := fun q h => by rw [← hAe]; exact Or.inr h
  have hS : va_S A s.heap s.heap [] := va_S.rf
  have hin : ∀ w ∈ u_ws RX1 TX1 4, w ∈ wsX1_go := by decide +kernel
  have hf0 := hts (.fieldLink RX1 9 "NameTableModel" "id" "[J") (by decide +kernel)
  have hf1 := hts (.fieldLink RX1 13 "NameTableModel" "index" "[I") (by decide +kernel)
  have hf2 := hts (.fieldLink RX1 17 "NameTableModel" "value" "[I") (by decide +kernel)
  have hf3 := hts (.fieldLink RX1 20 "NameTableModel" "count" "I") (by decide +kernel)
  have hl := lv_entry ([.ref h0, .int (nI j)]) (n := 4) (Nat.le_of_ble_eq_true rfl)
  rw [lg_entry_eq]
  generalize (lg_sl ([.ref h0, .int (nI j)]) ++ List.replicate (4 - (lg_sl ([.ref h0, .int (nI j)])).length) Slot.unset).toArray = ls at hl ⊢
  have hl : lv_has ls 4 [(0, .ref h0), (1, .int (nI j))] := hl
  refine lv_aload_n hx hb dX1_go_0 rfl (lv_at hl 0 rfl) ?_
  refine va_get (D := (dC, dI)) (ci := 1) (v := .ref q3) (C := RX1) (T := TX1) (N := 4) hx hb hts hin hown hK hP 0 rfl rfl 2 (by decide) hf2 (fun _ h9 => h9) rfl dX1_go_1 ?_
  refine lv_iload_n hx hb dX1_go_4 rfl (lv_at hl 1 rfl) ?_
  refine nt_iald hx hb hK hP 3 2 rfl rfl (by omega) dX1_go_5 ?_
  refine lv_istore_n (lv' := [(2, .int (h j)), (0, .ref h0), (1, .int (nI j))]) hx hb dX1_go_6 rfl hl (by decide) rfl (fun ls hl => ?_)
  refine lv_aload_n hx hb dX1_go_7 rfl (lv_at hl 1 rfl) ?_
  refine lv_dup hx hb dX1_go_8 rfl ?_
  refine va_get (D := (dC, dI)) (ci := 1) (v := .int (nI n)) (C := RX1) (T := TX1) (N := 4) hx hb hts hin hown hK hP 0 rfl rfl 3 (by decide) hf3 (fun _ h9 => h9) rfl dX1_go_9 ?_
  refine lv_iconst (v := 1) hx hb dX1_go_12 (by decide) ?_
  refine lv_isub hx hb dX1_go_13 ?_
  refine nt_top (y := nI (n - 1)) (pk_sub (a := n) (b := 1) (by omega)) ?_
  refine va_put (D := (dC, dI)) (ci := 1) (v := .int (nI (n - 1))) (ty := .int) (C := RX1) (T := TX1) (N := 4) hx hb hts hin tyX1 tyX1_ok nmX1 hown hK hP hD hS 0 rfl rfl 3 (by decide) hf3 (fun _ h9 => h9) rfl (by decide +kernel) rfl rfl (Nat.le_of_ble_eq_true rfl) dX1_go_14 (fun H locs hP hD hS => ?_)
  have hP : va_P (dC, dI) vwCl (nt_w 1 h0 q1 q2 q3 cL cI cJ f g h (n - 1)) H := hP
  have hD : va_D A (nt_w 1 h0 q1 q2 q3 cL cI cJ f g h (n - 1)) := hD
  refine lv_iload_n hx hb dX1_go_17 rfl (lv_at hl 2 rfl) ?_
  refine lv_istore_n (lv' := [(3, .int (nI j)), (2, .int (h j)), (0, .ref h0), (1, .int (nI j))]) hx hb dX1_go_18 rfl hl (by decide) rfl (fun ls hl => ?_)
  refine nt_here (fun Q hQ => ?_)
  have loop : ∀ (d i : Nat), i + d = n - 1 → j ≤ i → ∀ (ls : Array Slot) (H : Heap) (locs : List Loc), lv_has ls 4 [(0, .ref h0), (2, .int (h j)), (3, .int (nI i))] → va_P (dC, dI) vwCl (nt_w 1 h0 q1 q2 q3 cL cI cJ (nt_sl f j i) (nt_sl g j i) (nt_sl h j i) (n - 1)) H → va_D A (nt_w 1 h0 q1 q2 q3 cL cI cJ (nt_sl f j i) (nt_sl g j i) (nt_sl h j i) (n - 1)) → va_S A s.heap H locs → W p l e ({ frames := 0, cells := 0, slots := 0, locals := 0 } : Room) s m ([.ref h0, .int (nI j)] : List Value).toArray below meth c H locs 0 0 Q (F0 m 19 ls []) := by
    intro d
    induction d with
    | zero =>
      intro i hi hji ls H locs hl hP hD hS
      refine lv_iload_n hx hb dX1_go_19 rfl (lv_at hl 2 rfl) ?_
      refine lv_aload_n hx hb dX1_go_20 rfl (lv_at hl 0 rfl) ?_
      refine va_get (D := (dC, dI)) (ci := 1) (v := .int (nI (n - 1))) (C := RX1) (T := TX1) (N := 4) hx hb hts hin hown hK hP 0 rfl rfl 3 (by decide) hf3 (fun _ h9 => h9) rfl dX1_go_21 ?_
      refine lv_icmp_ge (tgt := 75) hx hb dX1_go_24 (by decide) (fun hc => ?_) (fun hc => ?_)
      · refine lv_iload_n hx hb dX1_go_75 rfl (lv_at hl 1 rfl) ?_
        subst hQ
        have hi : i = n - 1 := by omega
        subst hi
        rw [nt_sl_e, nt_sl_e, nt_sl_e] at hP hD
        exact W.iret (v := h j) hx hb hr (fun t ht hW => ⟨⟨h j, nt_delS (f, g, h, n) j, rfl, rfl, by rw [ht]; exact hP, va_K.moved hW.alike hK, hD⟩, hS.F ht⟩) hS.2.2 dX1_go_76
      · exact absurd (nI_le (show n - 1 ≤ i by omega) (by omega)) hc
    | succ d ih =>
      intro i hi hji ls H locs hl hP hD hS
      refine lv_iload_n hx hb dX1_go_19 rfl (lv_at hl 2 rfl) ?_
      refine lv_aload_n hx hb dX1_go_20 rfl (lv_at hl 0 rfl) ?_
      refine va_get (D := (dC, dI)) (ci := 1) (v := .int (nI (n - 1))) (C := RX1) (T := TX1) (N := 4) hx hb hts hin hown hK hP 0 rfl rfl 3 (by decide) hf3 (fun _ h9 => h9) rfl dX1_go_21 ?_
      refine lv_icmp_ge (tgt := 75) hx hb dX1_go_24 (by decide) (fun hc => ?_) (fun hc => ?_)
      · exact absurd hc (nI_ge (show i < n - 1 by omega) (by omega))
      · refine lv_aload_n hx hb dX1_go_27 rfl (lv_at hl 0 rfl) ?_
        refine va_get (D := (dC, dI)) (ci := 1) (v := .ref q1) (C := RX1) (T := TX1) (N := 4) hx hb hts hin hown hK hP 0 rfl rfl 0 (by decide) hf0 (fun _ h9 => h9) rfl dX1_go_28 ?_
        refine lv_iload_n hx hb dX1_go_31 rfl (lv_at hl 2 rfl) ?_
        refine lv_aload_n hx hb dX1_go_32 rfl (lv_at hl 0 rfl) ?_
        refine va_get (D := (dC, dI)) (ci := 1) (v := .ref q1) (C := RX1) (T := TX1) (N := 4) hx hb hts hin hown hK hP 0 rfl rfl 0 (by decide) hf0 (fun _ h9 => h9) rfl dX1_go_33 ?_
        refine lv_iload_n hx hb dX1_go_36 rfl (lv_at hl 2 rfl) ?_
        refine lv_iconst (v := 1) hx hb dX1_go_37 (by decide) ?_
        refine lv_iadd hx hb dX1_go_38 ?_
        refine nt_top (y := nI (i + 1)) (nI_1 _) ?_
        refine nt_lald hx hb hK hP 1 0 rfl rfl (by omega) dX1_go_39 ?_
        refine nt_last hx hb hK hP hD hS 1 0 rfl rfl (by omega) dX1_go_40 (fun H locs hP hD hS => ?_)
        have hP : va_P (dC, dI) vwCl (nt_w 1 h0 q1 q2 q3 cL cI cJ (nt_up (nt_sl f j i) i ((nt_sl f j i) (i + 1))) (nt_sl g j i) (nt_sl h j i) (n - 1)) H := hP
        have hD : va_D A (nt_w 1 h0 q1 q2 q3 cL cI cJ (nt_up (nt_sl f j i) i ((nt_sl f j i) (i + 1))) (nt_sl g j i) (nt_sl h j i) (n - 1)) := hD
        refine lv_aload_n hx hb dX1_go_41 rfl (lv_at hl 0 rfl) ?_
        refine va_get (D := (dC, dI)) (ci := 1) (v := .ref q2) (C := RX1) (T := TX1) (N := 4) hx hb hts hin hown hK hP 0 rfl rfl 1 (by decide) hf1 (fun _ h9 => h9) rfl dX1_go_42 ?_
        refine lv_iload_n hx hb dX1_go_45 rfl (lv_at hl 2 rfl) ?_
        refine lv_aload_n hx hb dX1_go_46 rfl (lv_at hl 0 rfl) ?_
        refine va_get (D := (dC, dI)) (ci := 1) (v := .ref q2) (C := RX1) (T := TX1) (N := 4) hx hb hts hin hown hK hP 0 rfl rfl 1 (by decide) hf1 (fun _ h9 => h9) rfl dX1_go_47 ?_
        refine lv_iload_n hx hb dX1_go_50 rfl (lv_at hl 2 rfl) ?_
        refine lv_iconst (v := 1) hx hb dX1_go_51 (by decide) ?_
        refine lv_iadd hx hb dX1_go_52 ?_
        refine nt_top (y := nI (i + 1)) (nI_1 _) ?_
        refine nt_iald hx hb hK hP 2 1 rfl rfl (by omega) dX1_go_53 ?_
        refine nt_iast hx hb hK hP hD hS 2 1 rfl rfl (by omega) dX1_go_54 (fun H locs hP hD hS => ?_)
        have hP : va_P (dC, dI) vwCl (nt_w 1 h0 q1 q2 q3 cL cI cJ (nt_up (nt_sl f j i) i ((nt_sl f j i) (i + 1))) (nt_up (nt_sl g j i) i ((nt_sl g j i) (i + 1))) (nt_sl h j i) (n - 1)) H := hP
        have hD : va_D A (nt_w 1 h0 q1 q2 q3 cL cI cJ (nt_up (nt_sl f j i) i ((nt_sl f j i) (i + 1))) (nt_up (nt_sl g j i) i ((nt_sl g j i) (i + 1))) (nt_sl h j i) (n - 1)) := hD
        refine lv_aload_n hx hb dX1_go_55 rfl (lv_at hl 0 rfl) ?_
        refine va_get (D := (dC, dI)) (ci := 1) (v := .ref q3) (C := RX1) (T := TX1) (N := 4) hx hb hts hin hown hK hP 0 rfl rfl 2 (by decide) hf2 (fun _ h9 => h9) rfl dX1_go_56 ?_
        refine lv_iload_n hx hb dX1_go_59 rfl (lv_at hl 2 rfl) ?_
        refine lv_aload_n hx hb dX1_go_60 rfl (lv_at hl 0 rfl) ?_
        refine va_get (D := (dC, dI)) (ci := 1) (v := .ref q3) (C := RX1) (T := TX1) (N := 4) hx hb hts hin hown hK hP 0 rfl rfl 2 (by decide) hf2 (fun _ h9 => h9) rfl dX1_go_61 ?_
        refine lv_iload_n hx hb dX1_go_64 rfl (lv_at hl 2 rfl) ?_
        refine lv_iconst (v := 1) hx hb dX1_go_65 (by decide) ?_
        refine lv_iadd hx hb dX1_go_66 ?_
        refine nt_top (y := nI (i + 1)) (nI_1 _) ?_
        refine nt_iald hx hb hK hP 3 2 rfl rfl (by omega) dX1_go_67 ?_
        refine nt_iast hx hb hK hP hD hS 3 2 rfl rfl (by omega) dX1_go_68 (fun H locs hP hD hS => ?_)
        have hP : va_P (dC, dI) vwCl (nt_w 1 h0 q1 q2 q3 cL cI cJ (nt_up (nt_sl f j i) i ((nt_sl f j i) (i + 1))) (nt_up (nt_sl g j i) i ((nt_sl g j i) (i + 1))) (nt_up (nt_sl h j i) i ((nt_sl h j i) (i + 1))) (n - 1)) H := hP
        have hD : va_D A (nt_w 1 h0 q1 q2 q3 cL cI cJ (nt_up (nt_sl f j i) i ((nt_sl f j i) (i + 1))) (nt_up (nt_sl g j i) i ((nt_sl g j i) (i + 1))) (nt_up (nt_sl h j i) i ((nt_sl h j i) (i + 1))) (n - 1)) := hD
        refine lv_iinc (k := 2) (v := nI (i + 1)) (lv' := [(3, .int (nI (i + 1))), (0, .ref h0), (2, .int (h j))]) hx hb dX1_go_69 hl rfl (by rw [show Int32.ofInt 1 = 1 by decide]; exact nI_1 _) (by decide) rfl (fun ls hl => ?_)
        refine lv_goto (tgt := 19) hx hb dX1_go_72 (by decide) ?_
        rw [nt_sl_s f hji, nt_sl_s g hji, nt_sl_s h hji] at hP hD
        exact ih (i + 1) (by omega) (by omega) ls H locs (lv_sub hl [1, 2, 0] rfl) hP hD hS
  have hP : va_P (dC, dI) vwCl (nt_w 1 h0 q1 q2 q3 cL cI cJ (nt_sl f j j) (nt_sl g j j) (nt_sl h j j) (n - 1)) H := by rw [nt_sl_0, nt_sl_0, nt_sl_0]; exact hP
  have hD : va_D A (nt_w 1 h0 q1 q2 q3 cL cI cJ (nt_sl f j j) (nt_sl g j j) (nt_sl h j j) (n - 1)) := by rw [nt_sl_0, nt_sl_0, nt_sl_0]; exact hD
  exact loop (n - 1 - j) j (by omega) (Nat.le_refl j) ls H locs (lv_sub hl [2, 1, 0] rfl) hP hD hS
end
section
set_option maxHeartbeats 4000000 in
set_option maxRecDepth 100000 in
/-- the reference's add -/
theorem kM_add (l : Launch) (dC : Nat → ClassId) (dI : Nat → Nat → Nat) (h0 q1 q2 q3 sz : Nat) (cL cI cJ : ClassId) (f : Nat → Int64) (g h : Nat → Int32) (n : Nat) (id : Int64) (ix v : Int32) (hok : nt_ok (f, g, h, n)) : Met l yX1_add wsX1_add ({ frames := 1, cells := 0, slots := 0, locals := 40 } : Room) (va_Pc [.ref h0, .long id, .int ix, .int v] (nt_in dC dI 1 h0 q1 q2 q3 cL cI cJ f g h n sz)) (va_Qi (fun (r : Int32) (u : nt_S) => (r, u) = nt_add (f, g, h, n) id ix v) (nt_out dC dI 1 h0 q1 q2 q3 cL cI cJ (va_A (nt_w 1 h0 q1 q2 q3 cL cI cJ f g h n) sz)) (va_A (nt_w 1 h0 q1 q2 q3 cL cI cJ f g h n) sz)) 0 0 (va_A (nt_w 1 h0 q1 q2 q3 cL cI cJ f g h n) sz) := by
  refine Met.ofW (cc := cX1_add) (maxL := 7) (ret := (some .int)) (by decide) rfl ?_
  intro p e s m args below meth c s₁ B hml hv
  obtain ⟨rfl, hsz, hP, hK, hD0⟩ := hv
  have hx := B.exec
  have hb := B.bytes
  have hr := B.returns
  have hts := atoms_spec (ws := wsX1_add) B.pre
  have hown : s.vm.findClass RX1 = some m.cls := findClass_of_methodNamed B.named
  have hlocks := B.notSynchronized
  subst hsz
  have hD := hD0.self (sz := s.heap.size)
  generalize hAe : va_A (nt_w 1 h0 q1 q2 q3 cL cI cJ f g h n) s.heap.size = A at hD ⊢
  have hA : ∀ q : Nat, s.heap.size ≤ q → A q := fun q h => by rw [← hAe]; exact Or.inr h
  have hS : va_S A s.heap s.heap [] := va_S.rf
  have hin : ∀ w ∈ u_ws RX1 TX1 4, w ∈ wsX1_add := by decide +kernel
  have hf0 := hts (.fieldLink RX1 9 "NameTableModel" "id" "[J") (by decide +kernel)
  have hf1 := hts (.fieldLink RX1 13 "NameTableModel" "index" "[I") (by decide +kernel)
  have hf2 := hts (.fieldLink RX1 17 "NameTableModel" "value" "[I") (by decide +kernel)
  have hf3 := hts (.fieldLink RX1 20 "NameTableModel" "count" "I") (by decide +kernel)
  have hl := lv_entry ([.ref h0, .long id, .int ix, .int v]) (n := 7) (Nat.le_of_ble_eq_true rfl)
  rw [lg_entry_eq]
  generalize (lg_sl ([.ref h0, .long id, .int ix, .int v]) ++ List.replicate (7 - (lg_sl ([.ref h0, .long id, .int ix, .int v])).length) Slot.unset).toArray = ls at hl ⊢
  have hl : lv_has ls 7 [(0, .ref h0), (1, .long id), (3, .int ix), (4, .int v)] := hl
  have hn : n ≤ 900 := hok.1
  refine lv_iload_n hx hb dX1_add_0 rfl (lv_at hl 2 rfl) ?_
  refine lv_if_lt (tgt := 15) hx hb dX1_add_1 (by decide) (fun h1 => ?_) (fun h1 => ?_)
  · refine lv_iconst (v := -1) hx hb dX1_add_15 (by decide) ?_
    exact W.iret (v := -1) hx hb hr (fun t ht hW => ⟨⟨-1, (f, g, h, n), rfl, nt_add_bad (Or.inl h1), by rw [ht]; exact hP, va_K.moved hW.alike hK, hD⟩, hS.F ht⟩) hS.2.2 dX1_add_16
  · refine lv_iload_n hx hb dX1_add_4 rfl (lv_at hl 2 rfl) ?_
    refine lv_bipush (v := 7) hx hb dX1_add_5 (by decide) ?_
    refine lv_icmp_gt (tgt := 15) hx hb dX1_add_7 (by decide) (fun h2 => ?_) (fun h2 => ?_)
    · refine lv_iconst (v := -1) hx hb dX1_add_15 (by decide) ?_
      exact W.iret (v := -1) hx hb hr (fun t ht hW => ⟨⟨-1, (f, g, h, n), rfl, nt_add_bad (Or.inr (Or.inl h2)), by rw [ht]; exact hP, va_K.moved hW.alike hK, hD⟩, hS.F ht⟩) hS.2.2 dX1_add_16
    · refine lv_iload hx hb dX1_add_10 (lv_at hl 3 rfl) ?_
      refine lv_if_ge (tgt := 17) hx hb dX1_add_12 (by decide) (fun h3 => ?_) (fun h3 => ?_)
      · have hg : ¬ (ix < 0 ∨ 7 < ix ∨ v < 0) := fun h9 => h9.elim h1 (fun h8 => h8.elim h2 (fun h7 => Int32.not_le.mpr h7 h3))
        refine lv_aload_n hx hb dX1_add_17 rfl (lv_at hl 0 rfl) ?_
        refine lv_lload_n hx hb dX1_add_18 rfl (lv_at hl 1 rfl) ?_
        refine lv_iload_n hx hb dX1_add_19 rfl (lv_at hl 2 rfl) ?_
        refine nt_calli (va_runV (As := [.long id, .int ix]) (rest := []) ⟨hx, hb, hml, hown, hts⟩ (kM_place l dC dI h0 q1 q2 q3 _ cL cI cJ f g h n id ix hn) (cwV 2 hts gX1_add_X1_place rfl rfl rfl (by decide +kernel) ⟨Nat.le_of_ble_eq_true rfl, Nat.le_of_ble_eq_true rfl⟩) (nt_preV rfl hP hK hD [.long id, .int ix]) rfl rfl hl.1 rfl (lv_room (Nat.le_of_ble_eq_true rfl)) dX1_add_20 ⟨Nat.zero_le _, Nat.zero_le _⟩) hP hD hS hA (fun r u H locs hpost hP hD hS => ?_)
        obtain ⟨hpost, rfl⟩ := hpost
        have hP : va_P (dC, dI) vwCl (nt_w 1 h0 q1 q2 q3 cL cI cJ f g h n) H := hP
        have hD : va_D A (nt_w 1 h0 q1 q2 q3 cL cI cJ f g h n) := hD
        obtain ⟨j, rfl, hat⟩ := hpost
        have hj : j ≤ n := hat.1
        refine lv_istore (lv' := [(5, .int (nI j)), (0, .ref h0), (1, .long id), (3, .int ix), (4, .int v)]) hx hb dX1_add_23 hl (by decide) rfl (fun ls hl => ?_)
        refine lv_aload_n hx hb dX1_add_25 rfl (lv_at hl 1 rfl) ?_
        refine lv_iload hx hb dX1_add_26 (lv_at hl 0 rfl) ?_
        refine lv_lload_n hx hb dX1_add_28 rfl (lv_at hl 2 rfl) ?_
        refine lv_iload_n hx hb dX1_add_29 rfl (lv_at hl 3 rfl) ?_
        refine nt_calli (va_runV (As := [.int (nI j), .long id, .int ix]) (rest := []) ⟨hx, hb, hml, hown, hts⟩ (kM_is l dC dI h0 q1 q2 q3 _ cL cI cJ f g h n j id ix (by omega) hn) (cwV 3 hts gX1_add_X1_is rfl rfl rfl (by decide +kernel) ⟨Nat.le_of_ble_eq_true rfl, Nat.le_of_ble_eq_true rfl⟩) (nt_preV rfl hP hK hD [.int (nI j), .long id, .int ix]) rfl rfl hl.1 rfl (lv_room (Nat.le_of_ble_eq_true rfl)) dX1_add_30 ⟨Nat.zero_le _, Nat.zero_le _⟩) hP hD hS hA (fun r u H locs hpost hP hD hS => ?_)
        obtain ⟨hpost, rfl⟩ := hpost
        have hP : va_P (dC, dI) vwCl (nt_w 1 h0 q1 q2 q3 cL cI cJ f g h n) H := hP
        have hD : va_D A (nt_w 1 h0 q1 q2 q3 cL cI cJ f g h n) := hD
        rcases hpost with ⟨rfl, hd⟩ | ⟨rfl, hd⟩
        · refine lv_if_eq (tgt := 39) hx hb dX1_add_33 (by decide) (fun h9 => absurd h9 (by decide)) (fun _ => ?_)
          refine lv_bipush (v := -3) hx hb dX1_add_36 (by decide) ?_
          exact W.iret (v := -3) hx hb hr (fun t ht hW => ⟨⟨-3, (f, g, h, n), rfl, nt_add_there hg hat hd, by rw [ht]; exact hP, va_K.moved hW.alike hK, hD⟩, hS.F ht⟩) hS.2.2 dX1_add_38
        · refine lv_if_eq (tgt := 39) hx hb dX1_add_33 (by decide) (fun _ => ?_) (fun h9 => absurd h9 (by decide))
          refine lv_aload_n hx hb dX1_add_39 rfl (lv_at hl 1 rfl) ?_
          refine va_get (D := (dC, dI)) (ci := 1) (v := .int (nI n)) (C := RX1) (T := TX1) (N := 4) hx hb hts hin hown hK hP 0 rfl rfl 3 (by decide) hf3 (fun _ h9 => h9) rfl dX1_add_40 ?_
          refine lv_sipush (v := nI 900) hx hb dX1_add_43 (by decide) ?_
          refine lv_icmp_ne (tgt := 52) hx hb dX1_add_46 (by decide) (fun h4 => ?_) (fun h4 => ?_)
          · have h4 : ¬ n = 900 := fun h9 => h4 (by rw [h9])
            have hn9 : n < 900 := by omega
            refine lv_aload_n hx hb dX1_add_52 rfl (lv_at hl 1 rfl) ?_
            refine va_get (D := (dC, dI)) (ci := 1) (v := .int (nI n)) (C := RX1) (T := TX1) (N := 4) hx hb hts hin hown hK hP 0 rfl rfl 3 (by decide) hf3 (fun _ h9 => h9) rfl dX1_add_53 ?_
            refine lv_istore (lv' := [(6, .int (nI n)), (5, .int (nI j)), (0, .ref h0), (1, .long id), (3, .int ix), (4, .int v)]) hx hb dX1_add_56 hl (by decide) rfl (fun ls hl => ?_)
            refine nt_here (fun Q hQ => ?_)
            have loop : ∀ (d i : Nat), j + d = i → i ≤ n → ∀ (ls : Array Slot) (H : Heap) (locs : List Loc), lv_has ls 7 [(0, .ref h0), (1, .long id), (3, .int ix), (4, .int v), (5, .int (nI j)), (6, .int (nI i))] → va_P (dC, dI) vwCl (nt_w 1 h0 q1 q2 q3 cL cI cJ (nt_sh f n i) (nt_sh g n i) (nt_sh h n i) n) H → va_D A (nt_w 1 h0 q1 q2 q3 cL cI cJ (nt_sh f n i) (nt_sh g n i) (nt_sh h n i) n) → va_S A s.heap H locs → W p l e ({ frames := 1, cells := 0, slots := 0, locals := 40 } : Room) s m ([.ref h0, .long id, .int ix, .int v] : List Value).toArray below meth c H locs 0 0 Q (F0 m 58 ls []) := by
              intro d
              induction d with
              | zero =>
                intro i hi hin2 ls H locs hl hP hD hS
                have hi : i = j := by omega
                subst hi
                refine lv_iload hx hb dX1_add_58 (lv_at hl 5 rfl) ?_
                refine lv_iload hx hb dX1_add_60 (lv_at hl 4 rfl) ?_
                refine lv_icmp_le (tgt := 119) hx hb dX1_add_62 (by decide) (fun hc => ?_) (fun hc => ?_)
                · refine lv_aload_n hx hb dX1_add_119 rfl (lv_at hl 0 rfl) ?_
                  refine va_get (D := (dC, dI)) (ci := 1) (v := .ref q1) (C := RX1) (T := TX1) (N := 4) hx hb hts hin hown hK hP 0 rfl rfl 0 (by decide) hf0 (fun _ h9 => h9) rfl dX1_add_120 ?_
                  refine lv_iload hx hb dX1_add_123 (lv_at hl 4 rfl) ?_
                  refine lv_lload_n hx hb dX1_add_125 rfl (lv_at hl 1 rfl) ?_
                  refine nt_last hx hb hK hP hD hS 1 0 rfl rfl (by omega) dX1_add_126 (fun H locs hP hD hS => ?_)
                  have hP : va_P (dC, dI) vwCl (nt_w 1 h0 q1 q2 q3 cL cI cJ (nt_up (nt_sh f n i) i id) (nt_sh g n i) (nt_sh h n i) n) H := hP
                  have hD : va_D A (nt_w 1 h0 q1 q2 q3 cL cI cJ (nt_up (nt_sh f n i) i id) (nt_sh g n i) (nt_sh h n i) n) := hD
                  refine lv_aload_n hx hb dX1_add_127 rfl (lv_at hl 0 rfl) ?_
                  refine va_get (D := (dC, dI)) (ci := 1) (v := .ref q2) (C := RX1) (T := TX1) (N := 4) hx hb hts hin hown hK hP 0 rfl rfl 1 (by decide) hf1 (fun _ h9 => h9) rfl dX1_add_128 ?_
                  refine lv_iload hx hb dX1_add_131 (lv_at hl 4 rfl) ?_
                  refine lv_iload_n hx hb dX1_add_133 rfl (lv_at hl 2 rfl) ?_
                  refine nt_iast hx hb hK hP hD hS 2 1 rfl rfl (by omega) dX1_add_134 (fun H locs hP hD hS => ?_)
                  have hP : va_P (dC, dI) vwCl (nt_w 1 h0 q1 q2 q3 cL cI cJ (nt_up (nt_sh f n i) i id) (nt_up (nt_sh g n i) i ix) (nt_sh h n i) n) H := hP
                  have hD : va_D A (nt_w 1 h0 q1 q2 q3 cL cI cJ (nt_up (nt_sh f n i) i id) (nt_up (nt_sh g n i) i ix) (nt_sh h n i) n) := hD
                  refine lv_aload_n hx hb dX1_add_135 rfl (lv_at hl 0 rfl) ?_
                  refine va_get (D := (dC, dI)) (ci := 1) (v := .ref q3) (C := RX1) (T := TX1) (N := 4) hx hb hts hin hown hK hP 0 rfl rfl 2 (by decide) hf2 (fun _ h9 => h9) rfl dX1_add_136 ?_
                  refine lv_iload hx hb dX1_add_139 (lv_at hl 4 rfl) ?_
                  refine lv_iload hx hb dX1_add_141 (lv_at hl 3 rfl) ?_
                  refine nt_iast hx hb hK hP hD hS 3 2 rfl rfl (by omega) dX1_add_143 (fun H locs hP hD hS => ?_)
                  have hP : va_P (dC, dI) vwCl (nt_w 1 h0 q1 q2 q3 cL cI cJ (nt_up (nt_sh f n i) i id) (nt_up (nt_sh g n i) i ix) (nt_up (nt_sh h n i) i v) n) H := hP
                  have hD : va_D A (nt_w 1 h0 q1 q2 q3 cL cI cJ (nt_up (nt_sh f n i) i id) (nt_up (nt_sh g n i) i ix) (nt_up (nt_sh h n i) i v) n) := hD
                  refine lv_aload_n hx hb dX1_add_144 rfl (lv_at hl 0 rfl) ?_
                  refine lv_dup hx hb dX1_add_145 rfl ?_
                  refine va_get (D := (dC, dI)) (ci := 1) (v := .int (nI n)) (C := RX1) (T := TX1) (N := 4) hx hb hts hin hown hK hP 0 rfl rfl 3 (by decide) hf3 (fun _ h9 => h9) rfl dX1_add_146 ?_
                  refine lv_iconst (v := 1) hx hb dX1_add_149 (by decide) ?_
                  refine lv_iadd hx hb dX1_add_150 ?_
                  refine nt_top (y := nI (n + 1)) (nI_1 _) ?_
                  refine va_put (D := (dC, dI)) (ci := 1) (v := .int (nI (n + 1))) (ty := .int) (C := RX1) (T := TX1) (N := 4) hx hb hts hin tyX1 tyX1_ok nmX1 hown hK hP hD hS 0 rfl rfl 3 (by decide) hf3 (fun _ h9 => h9) rfl (by decide +kernel) rfl rfl (Nat.le_of_ble_eq_true rfl) dX1_add_151 (fun H locs hP hD hS => ?_)
                  have hP : va_P (dC, dI) vwCl (nt_w 1 h0 q1 q2 q3 cL cI cJ (nt_up (nt_sh f n i) i id) (nt_up (nt_sh g n i) i ix) (nt_up (nt_sh h n i) i v) (n + 1)) H := hP
                  have hD : va_D A (nt_w 1 h0 q1 q2 q3 cL cI cJ (nt_up (nt_sh f n i) i id) (nt_up (nt_sh g n i) i ix) (nt_up (nt_sh h n i) i v) (n + 1)) := hD
                  refine lv_aload_n hx hb dX1_add_154 rfl (lv_at hl 0 rfl) ?_
                  refine va_get (D := (dC, dI)) (ci := 1) (v := .int (nI (n + 1))) (C := RX1) (T := TX1) (N := 4) hx hb hts hin hown hK hP 0 rfl rfl 3 (by decide) hf3 (fun _ h9 => h9) rfl dX1_add_155 ?_
                  subst hQ
                  exact W.iret (v := nI (n + 1)) hx hb hr (fun t ht hW => ⟨⟨nI (n + 1), nt_insS (f, g, h, n) i id ix v, rfl, nt_add_new hg hat hd h4, by rw [ht]; exact hP, va_K.moved hW.alike hK, hD⟩, hS.F ht⟩) hS.2.2 dX1_add_158
                · exact absurd (nI_le (Nat.le_refl i) (by omega)) hc
              | succ d ih =>
                intro i hi hin2 ls H locs hl hP hD hS
                obtain ⟨i, rfl⟩ : ∃ k, i = k + 1 := ⟨i - 1, by omega⟩
                refine lv_iload hx hb dX1_add_58 (lv_at hl 5 rfl) ?_
                refine lv_iload hx hb dX1_add_60 (lv_at hl 4 rfl) ?_
                refine lv_icmp_le (tgt := 119) hx hb dX1_add_62 (by decide) (fun hc => ?_) (fun hc => ?_)
                · exact absurd hc (nI_ge (show j < i + 1 by omega) (by omega))
                · refine lv_aload_n hx hb dX1_add_65 rfl (lv_at hl 0 rfl) ?_
                  refine va_get (D := (dC, dI)) (ci := 1) (v := .ref q1) (C := RX1) (T := TX1) (N := 4) hx hb hts hin hown hK hP 0 rfl rfl 0 (by decide) hf0 (fun _ h9 => h9) rfl dX1_add_66 ?_
                  refine lv_iload hx hb dX1_add_69 (lv_at hl 5 rfl) ?_
                  refine lv_aload_n hx hb dX1_add_71 rfl (lv_at hl 0 rfl) ?_
                  refine va_get (D := (dC, dI)) (ci := 1) (v := .ref q1) (C := RX1) (T := TX1) (N := 4) hx hb hts hin hown hK hP 0 rfl rfl 0 (by decide) hf0 (fun _ h9 => h9) rfl dX1_add_72 ?_
                  refine lv_iload hx hb dX1_add_75 (lv_at hl 5 rfl) ?_
                  refine lv_iconst (v := 1) hx hb dX1_add_77 (by decide) ?_
                  refine lv_isub hx hb dX1_add_78 ?_
                  refine nt_top (y := nI i) (nI_pred _) ?_
                  refine nt_lald hx hb hK hP 1 0 rfl rfl (by omega) dX1_add_79 ?_
                  refine nt_last hx hb hK hP hD hS 1 0 rfl rfl (by omega) dX1_add_80 (fun H locs hP hD hS => ?_)
                  have hP : va_P (dC, dI) vwCl (nt_w 1 h0 q1 q2 q3 cL cI cJ (nt_up (nt_sh f n (i + 1)) (i + 1) ((nt_sh f n (i + 1)) i)) (nt_sh g n (i + 1)) (nt_sh h n (i + 1)) n) H := hP
                  have hD : va_D A (nt_w 1 h0 q1 q2 q3 cL cI cJ (nt_up (nt_sh f n (i + 1)) (i + 1) ((nt_sh f n (i + 1)) i)) (nt_sh g n (i + 1)) (nt_sh h n (i + 1)) n) := hD
                  refine lv_aload_n hx hb dX1_add_81 rfl (lv_at hl 0 rfl) ?_
                  refine va_get (D := (dC, dI)) (ci := 1) (v := .ref q2) (C := RX1) (T := TX1) (N := 4) hx hb hts hin hown hK hP 0 rfl rfl 1 (by decide) hf1 (fun _ h9 => h9) rfl dX1_add_82 ?_
                  refine lv_iload hx hb dX1_add_85 (lv_at hl 5 rfl) ?_
                  refine lv_aload_n hx hb dX1_add_87 rfl (lv_at hl 0 rfl) ?_
                  refine va_get (D := (dC, dI)) (ci := 1) (v := .ref q2) (C := RX1) (T := TX1) (N := 4) hx hb hts hin hown hK hP 0 rfl rfl 1 (by decide) hf1 (fun _ h9 => h9) rfl dX1_add_88 ?_
                  refine lv_iload hx hb dX1_add_91 (lv_at hl 5 rfl) ?_
                  refine lv_iconst (v := 1) hx hb dX1_add_93 (by decide) ?_
                  refine lv_isub hx hb dX1_add_94 ?_
                  refine nt_top (y := nI i) (nI_pred _) ?_
                  refine nt_iald hx hb hK hP 2 1 rfl rfl (by omega) dX1_add_95 ?_
                  refine nt_iast hx hb hK hP hD hS 2 1 rfl rfl (by omega) dX1_add_96 (fun H locs hP hD hS => ?_)
                  have hP : va_P (dC, dI) vwCl (nt_w 1 h0 q1 q2 q3 cL cI cJ (nt_up (nt_sh f n (i + 1)) (i + 1) ((nt_sh f n (i + 1)) i)) (nt_up (nt_sh g n (i + 1)) (i + 1) ((nt_sh g n (i + 1)) i)) (nt_sh h n (i + 1)) n) H := hP
                  have hD : va_D A (nt_w 1 h0 q1 q2 q3 cL cI cJ (nt_up (nt_sh f n (i + 1)) (i + 1) ((nt_sh f n (i + 1)) i)) (nt_up (nt_sh g n (i + 1)) (i + 1) ((nt_sh g n (i + 1)) i)) (nt_sh h n (i + 1)) n) := hD
                  refine lv_aload_n hx hb dX1_add_97 rfl (lv_at hl 0 rfl) ?_
                  refine va_get (D := (dC, dI)) (ci := 1) (v := .ref q3) (C := RX1) (T := TX1) (N := 4) hx hb hts hin hown hK hP 0 rfl rfl 2 (by decide) hf2 (fun _ h9 => h9) rfl dX1_add_98 ?_
                  refine lv_iload hx hb dX1_add_101 (lv_at hl 5 rfl) ?_
                  refine lv_aload_n hx hb dX1_add_103 rfl (lv_at hl 0 rfl) ?_
                  refine va_get (D := (dC, dI)) (ci := 1) (v := .ref q3) (C := RX1) (T := TX1) (N := 4) hx hb hts hin hown hK hP 0 rfl rfl 2 (by decide) hf2 (fun _ h9 => h9) rfl dX1_add_104 ?_
                  refine lv_iload hx hb dX1_add_107 (lv_at hl 5 rfl) ?_
                  refine lv_iconst (v := 1) hx hb dX1_add_109 (by decide) ?_
                  refine lv_isub hx hb dX1_add_110 ?_
                  refine nt_top (y := nI i) (nI_pred _) ?_
                  refine nt_iald hx hb hK hP 3 2 rfl rfl (by omega) dX1_add_111 ?_
                  refine nt_iast hx hb hK hP hD hS 3 2 rfl rfl (by omega) dX1_add_112 (fun H locs hP hD hS => ?_)
                  have hP : va_P (dC, dI) vwCl (nt_w 1 h0 q1 q2 q3 cL cI cJ (nt_up (nt_sh f n (i + 1)) (i + 1) ((nt_sh f n (i + 1)) i)) (nt_up (nt_sh g n (i + 1)) (i + 1) ((nt_sh g n (i + 1)) i)) (nt_up (nt_sh h n (i + 1)) (i + 1) ((nt_sh h n (i + 1)) i)) n) H := hP
                  have hD : va_D A (nt_w 1 h0 q1 q2 q3 cL cI cJ (nt_up (nt_sh f n (i + 1)) (i + 1) ((nt_sh f n (i + 1)) i)) (nt_up (nt_sh g n (i + 1)) (i + 1) ((nt_sh g n (i + 1)) i)) (nt_up (nt_sh h n (i + 1)) (i + 1) ((nt_sh h n (i + 1)) i)) n) := hD
                  refine lv_iinc (k := 5) (v := nI i) (lv' := [(6, .int (nI i)), (0, .ref h0), (1, .long id), (3, .int ix), (4, .int v), (5, .int (nI j))]) hx hb dX1_add_113 hl rfl (by rw [show Int32.ofInt (-1) = -1 by decide]; exact pk_m1 _) (by decide) rfl (fun ls hl => ?_)
                  refine lv_goto (tgt := 58) hx hb dX1_add_116 (by decide) ?_
                  rw [nt_sh_s f hin2, nt_sh_s g hin2, nt_sh_s h hin2] at hP hD
                  exact ih i (by omega) (by omega) ls H locs (lv_sub hl [1, 2, 3, 4, 5, 0] rfl) hP hD hS
            have hP : va_P (dC, dI) vwCl (nt_w 1 h0 q1 q2 q3 cL cI cJ (nt_sh f n n) (nt_sh g n n) (nt_sh h n n) n) H := by rw [nt_sh_0, nt_sh_0, nt_sh_0]; exact hP
            have hD : va_D A (nt_w 1 h0 q1 q2 q3 cL cI cJ (nt_sh f n n) (nt_sh g n n) (nt_sh h n n) n) := by rw [nt_sh_0, nt_sh_0, nt_sh_0]; exact hD
            exact loop (n - j) n (by omega) (Nat.le_refl n) ls H locs (lv_sub hl [2, 3, 4, 5, 1, 0] rfl) hP hD hS
          · have h4 : n = 900 := (nI_eq (by omega) (by omega)).mp h4
            refine lv_bipush (v := -4) hx hb dX1_add_49 (by decide) ?_
            exact W.iret (v := -4) hx hb hr (fun t ht hW => ⟨⟨-4, (f, g, h, n), rfl, nt_add_full hg hat hd h4, by rw [ht]; exact hP, va_K.moved hW.alike hK, hD⟩, hS.F ht⟩) hS.2.2 dX1_add_51
      · refine lv_iconst (v := -1) hx hb dX1_add_15 (by decide) ?_
        exact W.iret (v := -1) hx hb hr (fun t ht hW => ⟨⟨-1, (f, g, h, n), rfl, nt_add_bad (Or.inr (Or.inr (Int32.not_le.mp h3))), by rw [ht]; exact hP, va_K.moved hW.alike hK, hD⟩, hS.F ht⟩) hS.2.2 dX1_add_16
end
section
set_option maxHeartbeats 4000000 in
set_option maxRecDepth 100000 in
/-- the reference's some -/
theorem kM_some (l : Launch) (dC : Nat → ClassId) (dI : Nat → Nat → Nat) (h0 q1 q2 q3 sz : Nat) (cL cI cJ : ClassId) (f : Nat → Int64) (g h : Nat → Int32) (n : Nat) (id step : Int64) (mm v : Int32) (hok : nt_ok (f, g, h, n)) : Met l yX1_some wsX1_some ({ frames := 2, cells := 0, slots := 0, locals := 80 } : Room) (va_Pc [.ref h0, .long id, .long step, .int mm, .int v] (nt_in dC dI 1 h0 q1 q2 q3 cL cI cJ f g h n sz)) (va_Qi (fun (r : Int32) (u : nt_S) => (r, u) = nt_some (f, g, h, n) id step mm v) (nt_out dC dI 1 h0 q1 q2 q3 cL cI cJ (va_A (nt_w 1 h0 q1 q2 q3 cL cI cJ f g h n) sz)) (va_A (nt_w 1 h0 q1 q2 q3 cL cI cJ f g h n) sz)) 0 0 (va_A (nt_w 1 h0 q1 q2 q3 cL cI cJ f g h n) sz) := by
  refine Met.ofW (cc := cX1_some) (maxL := 9) (ret := (some .int)) (by decide) rfl ?_
  intro p e s m args below meth c s₁ B hml hv
  obtain ⟨rfl, hsz, hP, hK, hD0⟩ := hv
  have hx := B.exec
  have hb := B.bytes
  have hr := B.returns
  have hts := atoms_spec (ws := wsX1_some) B.pre
  have hown : s.vm.findClass RX1 = some m.cls := findClass_of_methodNamed B.named
  have hlocks := B.notSynchronized
  subst hsz
  have hD := hD0.self (sz := s.heap.size)
  generalize hAe : va_A (nt_w 1 h0 q1 q2 q3 cL cI cJ f g h n) s.heap.size = A at hD ⊢
  have hA : ∀ q : Nat, s.heap.size ≤ q → A q := fun q h => by rw [← hAe]; exact Or.inr h
  have hS : va_S A s.heap s.heap [] := va_S.rf
  have hl := lv_entry ([.ref h0, .long id, .long step, .int mm, .int v]) (n := 9) (Nat.le_of_ble_eq_true rfl)
  rw [lg_entry_eq]
  generalize (lg_sl ([.ref h0, .long id, .long step, .int mm, .int v]) ++ List.replicate (9 - (lg_sl ([.ref h0, .long id, .long step, .int mm, .int v])).length) Slot.unset).toArray = ls at hl ⊢
  have hl : lv_has ls 9 [(0, .ref h0), (1, .long id), (3, .long step), (5, .int mm), (6, .int v)] := hl
  have hn : n ≤ 900 := hok.1
  refine lv_iload hx hb dX1_some_0 (lv_at hl 3 rfl) ?_
  refine lv_iconst (v := 1) hx hb dX1_some_2 (by decide) ?_
  refine lv_icmp_lt (tgt := 18) hx hb dX1_some_3 (by decide) (fun h1 => ?_) (fun h1 => ?_)
  · refine lv_iconst (v := -1) hx hb dX1_some_18 (by decide) ?_
    exact W.iret (v := -1) hx hb hr (fun t ht hW => ⟨⟨-1, (f, g, h, n), rfl, nt_some_bad (Or.inl h1), by rw [ht]; exact hP, va_K.moved hW.alike hK, hD⟩, hS.F ht⟩) hS.2.2 dX1_some_19
  · refine lv_iload hx hb dX1_some_6 (lv_at hl 3 rfl) ?_
    refine lv_bipush (v := 100) hx hb dX1_some_8 (by decide) ?_
    refine lv_icmp_gt (tgt := 18) hx hb dX1_some_10 (by decide) (fun h2 => ?_) (fun h2 => ?_)
    · refine lv_iconst (v := -1) hx hb dX1_some_18 (by decide) ?_
      exact W.iret (v := -1) hx hb hr (fun t ht hW => ⟨⟨-1, (f, g, h, n), rfl, nt_some_bad (Or.inr (Or.inl h2)), by rw [ht]; exact hP, va_K.moved hW.alike hK, hD⟩, hS.F ht⟩) hS.2.2 dX1_some_19
    · refine lv_iload hx hb dX1_some_13 (lv_at hl 4 rfl) ?_
      refine lv_if_ge (tgt := 20) hx hb dX1_some_15 (by decide) (fun h3 => ?_) (fun h3 => ?_)
      · have hg : ¬ (mm < 1 ∨ 100 < mm ∨ v < 0) := fun h9 => h9.elim h1 (fun h8 => h8.elim h2 (fun h7 => Int32.not_le.mpr h7 h3))
        obtain ⟨k, hk, hk2⟩ := nt_some_k h1 h2
        subst hk2
        refine lv_iconst (v := nI 0) hx hb dX1_some_20 (by decide) ?_
        refine lv_istore (lv' := [(7, .int (nI 0)), (0, .ref h0), (1, .long id), (3, .long step), (5, .int (nI k)), (6, .int v)]) hx hb dX1_some_21 hl (by decide) rfl (fun ls hl => ?_)
        refine lv_iconst (v := nI 0) hx hb dX1_some_23 (by decide) ?_
        refine lv_istore (lv' := [(8, .int (nI 0)), (7, .int (nI 0)), (0, .ref h0), (1, .long id), (3, .long step), (5, .int (nI k)), (6, .int v)]) hx hb dX1_some_24 hl (by decide) rfl (fun ls hl => ?_)
        refine nt_here (fun Q hQ => ?_)
        have loop : ∀ (d i : Nat), i + d = k → ∀ (ls : Array Slot) (H : Heap) (locs : List Loc), lv_has ls 9 [(0, .ref h0), (1, .long id), (3, .long step), (5, .int (nI k)), (6, .int v), (7, .int (nI ((nt_sm (f, g, h, n) id step v i).2.2.2 - n))), (8, .int (nI i))] → va_P (dC, dI) vwCl (nt_w 1 h0 q1 q2 q3 cL cI cJ ((nt_sm (f, g, h, n) id step v i).1) ((nt_sm (f, g, h, n) id step v i).2.1) ((nt_sm (f, g, h, n) id step v i).2.2.1) ((nt_sm (f, g, h, n) id step v i).2.2.2)) H → va_D A (nt_w 1 h0 q1 q2 q3 cL cI cJ ((nt_sm (f, g, h, n) id step v i).1) ((nt_sm (f, g, h, n) id step v i).2.1) ((nt_sm (f, g, h, n) id step v i).2.2.1) ((nt_sm (f, g, h, n) id step v i).2.2.2)) → va_S A s.heap H locs → W p l e ({ frames := 2, cells := 0, slots := 0, locals := 80 } : Room) s m ([.ref h0, .long id, .long step, .int (nI k), .int v] : List Value).toArray below meth c H locs 0 0 Q (F0 m 26 ls []) := by
          intro d
          induction d with
          | zero =>
            intro i hi ls H locs hl hP hD hS
            have hsm := nt_sm_ok hok id step v i
            have hm1 : (nt_sm (f, g, h, n) id step v i).2.2.2 ≤ 900 := hsm.1.1
            have hm2 : n ≤ (nt_sm (f, g, h, n) id step v i).2.2.2 := hsm.2
            have hi : i = k := by omega
            refine lv_iload hx hb dX1_some_26 (lv_at hl 6 rfl) ?_
            refine lv_iload hx hb dX1_some_28 (lv_at hl 3 rfl) ?_
            refine lv_icmp_ge (tgt := 63) hx hb dX1_some_30 (by decide) (fun hc => ?_) (fun hc => ?_)
            · refine lv_iload hx hb dX1_some_63 (lv_at hl 5 rfl) ?_
              subst hQ
              subst hi
              exact W.iret (v := nI ((nt_sm (f, g, h, n) id step v i).2.2.2 - n)) hx hb hr (fun t ht hW => ⟨⟨nI ((nt_sm (f, g, h, n) id step v i).2.2.2 - n), (nt_sm (f, g, h, n) id step v i), rfl, nt_some_did hg rfl hk, by rw [ht]; exact hP, va_K.moved hW.alike hK, hD⟩, hS.F ht⟩) hS.2.2 dX1_some_65
            · exact absurd (nI_le (show k ≤ i by omega) (by omega)) hc
          | succ d ih =>
            intro i hi ls H locs hl hP hD hS
            have hsm := nt_sm_ok hok id step v i
            have hm1 : (nt_sm (f, g, h, n) id step v i).2.2.2 ≤ 900 := hsm.1.1
            have hm2 : n ≤ (nt_sm (f, g, h, n) id step v i).2.2.2 := hsm.2
            refine lv_iload hx hb dX1_some_26 (lv_at hl 6 rfl) ?_
            refine lv_iload hx hb dX1_some_28 (lv_at hl 3 rfl) ?_
            refine lv_icmp_ge (tgt := 63) hx hb dX1_some_30 (by decide) (fun hc => ?_) (fun hc => ?_)
            · exact absurd hc (nI_ge (show i < k by omega) (by omega))
            · refine lv_aload_n hx hb dX1_some_33 rfl (lv_at hl 0 rfl) ?_
              refine lv_lload_n hx hb dX1_some_34 rfl (lv_at hl 1 rfl) ?_
              refine lv_iload hx hb dX1_some_35 (lv_at hl 6 rfl) ?_
              refine lv_i2l (v := (nI i).toInt64) hx hb dX1_some_37 rfl ?_
              refine lv_lload_n hx hb dX1_some_38 rfl (lv_at hl 2 rfl) ?_
              refine lv_lmul hx hb dX1_some_39 ?_
              refine lv_ladd hx hb dX1_some_40 ?_
              refine lv_iload hx hb dX1_some_41 (lv_at hl 6 rfl) ?_
              refine lv_bipush (v := 8) hx hb dX1_some_43 (by decide) ?_
              refine lv_irem hx hb dX1_some_45 (by decide) ?_
              refine lv_iload hx hb dX1_some_46 (lv_at hl 4 rfl) ?_
              refine nt_calli (va_runV (As := [.long (id + (((nI i).toInt64) * step)), .int ((nI i) - (nI i) / 8 * 8), .int v]) (rest := []) ⟨hx, hb, hml, hown, hts⟩ (kM_add l dC dI h0 q1 q2 q3 _ cL cI cJ ((nt_sm (f, g, h, n) id step v i).1) ((nt_sm (f, g, h, n) id step v i).2.1) ((nt_sm (f, g, h, n) id step v i).2.2.1) ((nt_sm (f, g, h, n) id step v i).2.2.2) (id + (nI i).toInt64 * step) (nI i - nI i / 8 * 8) v hsm.1) (cwV 3 hts gX1_some_X1_add rfl rfl rfl (by decide +kernel) ⟨Nat.le_of_ble_eq_true rfl, Nat.le_of_ble_eq_true rfl⟩) (nt_preV rfl hP hK hD [.long (id + (((nI i).toInt64) * step)), .int ((nI i) - (nI i) / 8 * 8), .int v]) rfl rfl hl.1 rfl (lv_room (Nat.le_of_ble_eq_true rfl)) dX1_some_48 ⟨Nat.zero_le _, Nat.zero_le _⟩) hP hD hS hA (fun r u H locs hpost hP hD hS => ?_)
              have hu : u = (nt_sm (f, g, h, n) id step v (i + 1)) := congrArg Prod.snd hpost
              subst hu
              have hP : va_P (dC, dI) vwCl (nt_w 1 h0 q1 q2 q3 cL cI cJ ((nt_sm (f, g, h, n) id step v (i + 1)).1) ((nt_sm (f, g, h, n) id step v (i + 1)).2.1) ((nt_sm (f, g, h, n) id step v (i + 1)).2.2.1) ((nt_sm (f, g, h, n) id step v (i + 1)).2.2.2)) H := hP
              have hD : va_D A (nt_w 1 h0 q1 q2 q3 cL cI cJ ((nt_sm (f, g, h, n) id step v (i + 1)).1) ((nt_sm (f, g, h, n) id step v (i + 1)).2.1) ((nt_sm (f, g, h, n) id step v (i + 1)).2.2.1) ((nt_sm (f, g, h, n) id step v (i + 1)).2.2.2)) := hD
              have hr2 : r = (nt_add (nt_sm (f, g, h, n) id step v i) (id + (nI i).toInt64 * step) (nI i - nI i / 8 * 8) v).1 := congrArg Prod.fst hpost
              have hcs := nt_add_cases (nt_sm (f, g, h, n) id step v i) (id + (nI i).toInt64 * step) (nI i - nI i / 8 * 8) v hm1
              rw [← hr2] at hcs
              refine lv_if_le (tgt := 57) hx hb dX1_some_51 (by decide) (fun h1 => ?_) (fun h1 => ?_)
              · have he : (nt_sm (f, g, h, n) id step v (i + 1)).2.2.2 = (nt_sm (f, g, h, n) id step v i).2.2.2 := hcs.elim (fun h9 => congrArg (fun x : nt_S => x.2.2.2) h9.1) (fun h9 => absurd h9.2.2 (Int32.not_lt.mpr h1))
                refine lv_iinc (k := 6) (v := nI (i + 1)) (lv' := [(8, .int (nI (i + 1))), (0, .ref h0), (1, .long id), (3, .long step), (5, .int (nI k)), (6, .int v), (7, .int (nI ((nt_sm (f, g, h, n) id step v i).2.2.2 - n)))]) hx hb dX1_some_57 hl rfl (by rw [show Int32.ofInt 1 = 1 by decide]; exact nI_1 _) (by decide) rfl (fun ls hl => ?_)
                refine lv_goto (tgt := 26) hx hb dX1_some_60 (by decide) ?_
                rw [← he] at hl
                exact ih (i + 1) (by omega) ls H locs (lv_sub hl [1, 2, 3, 4, 5, 6, 0] rfl) hP hD hS
              · have he : (nt_sm (f, g, h, n) id step v (i + 1)).2.2.2 = (nt_sm (f, g, h, n) id step v i).2.2.2 + 1 := hcs.elim (fun h9 => absurd (Int32.not_le.mp h1) h9.2) (fun h9 => congrArg (fun x : nt_S => x.2.2.2) h9.2.1)
                refine lv_iinc (k := 5) (v := nI ((nt_sm (f, g, h, n) id step v (i + 1)).2.2.2 - n)) (lv' := [(7, .int (nI ((nt_sm (f, g, h, n) id step v (i + 1)).2.2.2 - n))), (0, .ref h0), (1, .long id), (3, .long step), (5, .int (nI k)), (6, .int v), (8, .int (nI i))]) hx hb dX1_some_54 hl rfl (by rw [he, show (nt_sm (f, g, h, n) id step v i).2.2.2 + 1 - n = (nt_sm (f, g, h, n) id step v i).2.2.2 - n + 1 by omega, show Int32.ofInt 1 = 1 by decide]; exact nI_1 _) (by decide) rfl (fun ls hl => ?_)
                refine lv_iinc (k := 6) (v := nI (i + 1)) (lv' := [(8, .int (nI (i + 1))), (7, .int (nI ((nt_sm (f, g, h, n) id step v (i + 1)).2.2.2 - n))), (0, .ref h0), (1, .long id), (3, .long step), (5, .int (nI k)), (6, .int v)]) hx hb dX1_some_57 hl rfl (by rw [show Int32.ofInt 1 = 1 by decide]; exact nI_1 _) (by decide) rfl (fun ls hl => ?_)
                refine lv_goto (tgt := 26) hx hb dX1_some_60 (by decide) ?_
                exact ih (i + 1) (by omega) ls H locs (lv_sub hl [2, 3, 4, 5, 6, 1, 0] rfl) hP hD hS
        have hl : lv_has ls 9 [(8, .int (nI 0)), (7, .int (nI ((nt_sm (f, g, h, n) id step v 0).2.2.2 - n))), (0, .ref h0), (1, .long id), (3, .long step), (5, .int (nI k)), (6, .int v)] := by rw [show (nt_sm (f, g, h, n) id step v 0).2.2.2 - n = 0 from Nat.sub_self n]; exact hl
        exact loop k 0 (by omega) ls s.heap [] (lv_sub hl [2, 3, 4, 5, 6, 1, 0] rfl) hP hD hS
      · refine lv_iconst (v := -1) hx hb dX1_some_18 (by decide) ?_
        exact W.iret (v := -1) hx hb hr (fun t ht hW => ⟨⟨-1, (f, g, h, n), rfl, nt_some_bad (Or.inr (Or.inr (Int32.not_le.mp h3))), by rw [ht]; exact hP, va_K.moved hW.alike hK, hD⟩, hS.F ht⟩) hS.2.2 dX1_some_19
end
section
set_option maxHeartbeats 4000000 in
set_option maxRecDepth 100000 in
/-- the reference's remove -/
theorem kM_remove (l : Launch) (dC : Nat → ClassId) (dI : Nat → Nat → Nat) (h0 q1 q2 q3 sz : Nat) (cL cI cJ : ClassId) (f : Nat → Int64) (g h : Nat → Int32) (n : Nat) (id : Int64) (ix : Int32) (hok : nt_ok (f, g, h, n)) : Met l yX1_remove wsX1_remove ({ frames := 1, cells := 0, slots := 0, locals := 40 } : Room) (va_Pc [.ref h0, .long id, .int ix] (nt_in dC dI 1 h0 q1 q2 q3 cL cI cJ f g h n sz)) (va_Qi (fun (r : Int32) (u : nt_S) => (r, u) = nt_rem (f, g, h, n) id ix) (nt_out dC dI 1 h0 q1 q2 q3 cL cI cJ (va_A (nt_w 1 h0 q1 q2 q3 cL cI cJ f g h n) sz)) (va_A (nt_w 1 h0 q1 q2 q3 cL cI cJ f g h n) sz)) 0 0 (va_A (nt_w 1 h0 q1 q2 q3 cL cI cJ f g h n) sz) := by
  refine Met.ofW (cc := cX1_remove) (maxL := 5) (ret := (some .int)) (by decide) rfl ?_
  intro p e s m args below meth c s₁ B hml hv
  obtain ⟨rfl, hsz, hP, hK, hD0⟩ := hv
  have hx := B.exec
  have hb := B.bytes
  have hr := B.returns
  have hts := atoms_spec (ws := wsX1_remove) B.pre
  have hown : s.vm.findClass RX1 = some m.cls := findClass_of_methodNamed B.named
  have hlocks := B.notSynchronized
  subst hsz
  have hD := hD0.self (sz := s.heap.size)
  generalize hAe : va_A (nt_w 1 h0 q1 q2 q3 cL cI cJ f g h n) s.heap.size = A at hD ⊢
  have hA : ∀ q : Nat, s.heap.size ≤ q → A q := fun q h => by rw [← hAe]; exact Or.inr h
  have hS : va_S A s.heap s.heap [] := va_S.rf
  have hl := lv_entry ([.ref h0, .long id, .int ix]) (n := 5) (Nat.le_of_ble_eq_true rfl)
  rw [lg_entry_eq]
  generalize (lg_sl ([.ref h0, .long id, .int ix]) ++ List.replicate (5 - (lg_sl ([.ref h0, .long id, .int ix])).length) Slot.unset).toArray = ls at hl ⊢
  have hl : lv_has ls 5 [(0, .ref h0), (1, .long id), (3, .int ix)] := hl
  have hn : n ≤ 900 := hok.1
  refine lv_iload_n hx hb dX1_remove_0 rfl (lv_at hl 2 rfl) ?_
  refine lv_if_lt (tgt := 10) hx hb dX1_remove_1 (by decide) (fun h1 => ?_) (fun h1 => ?_)
  · refine lv_iconst (v := -1) hx hb dX1_remove_10 (by decide) ?_
    exact W.iret (v := -1) hx hb hr (fun t ht hW => ⟨⟨-1, (f, g, h, n), rfl, nt_rem_bad (Or.inl h1), by rw [ht]; exact hP, va_K.moved hW.alike hK, hD⟩, hS.F ht⟩) hS.2.2 dX1_remove_11
  · refine lv_iload_n hx hb dX1_remove_4 rfl (lv_at hl 2 rfl) ?_
    refine lv_bipush (v := 7) hx hb dX1_remove_5 (by decide) ?_
    refine lv_icmp_le (tgt := 12) hx hb dX1_remove_7 (by decide) (fun h2 => ?_) (fun h2 => ?_)
    · have hg : ¬ (ix < 0 ∨ 7 < ix) := fun h9 => h9.elim h1 (fun h8 => Int32.not_le.mpr h8 h2)
      refine lv_aload_n hx hb dX1_remove_12 rfl (lv_at hl 0 rfl) ?_
      refine lv_lload_n hx hb dX1_remove_13 rfl (lv_at hl 1 rfl) ?_
      refine lv_iload_n hx hb dX1_remove_14 rfl (lv_at hl 2 rfl) ?_
      refine nt_calli (va_runV (As := [.long id, .int ix]) (rest := []) ⟨hx, hb, hml, hown, hts⟩ (kM_place l dC dI h0 q1 q2 q3 _ cL cI cJ f g h n id ix hn) (cwV 2 hts gX1_remove_X1_place rfl rfl rfl (by decide +kernel) ⟨Nat.le_of_ble_eq_true rfl, Nat.le_of_ble_eq_true rfl⟩) (nt_preV rfl hP hK hD [.long id, .int ix]) rfl rfl hl.1 rfl (lv_room (Nat.le_of_ble_eq_true rfl)) dX1_remove_15 ⟨Nat.zero_le _, Nat.zero_le _⟩) hP hD hS hA (fun r u H locs hpost hP hD hS => ?_)
      obtain ⟨hpost, rfl⟩ := hpost
      have hP : va_P (dC, dI) vwCl (nt_w 1 h0 q1 q2 q3 cL cI cJ f g h n) H := hP
      have hD : va_D A (nt_w 1 h0 q1 q2 q3 cL cI cJ f g h n) := hD
      obtain ⟨j, rfl, hat⟩ := hpost
      have hj : j ≤ n := hat.1
      refine lv_istore (lv' := [(4, .int (nI j)), (0, .ref h0), (1, .long id), (3, .int ix)]) hx hb dX1_remove_18 hl (by decide) rfl (fun ls hl => ?_)
      refine lv_aload_n hx hb dX1_remove_20 rfl (lv_at hl 1 rfl) ?_
      refine lv_iload hx hb dX1_remove_21 (lv_at hl 0 rfl) ?_
      refine lv_lload_n hx hb dX1_remove_23 rfl (lv_at hl 2 rfl) ?_
      refine lv_iload_n hx hb dX1_remove_24 rfl (lv_at hl 3 rfl) ?_
      refine nt_calli (va_runV (As := [.int (nI j), .long id, .int ix]) (rest := []) ⟨hx, hb, hml, hown, hts⟩ (kM_is l dC dI h0 q1 q2 q3 _ cL cI cJ f g h n j id ix (by omega) hn) (cwV 3 hts gX1_remove_X1_is rfl rfl rfl (by decide +kernel) ⟨Nat.le_of_ble_eq_true rfl, Nat.le_of_ble_eq_true rfl⟩) (nt_preV rfl hP hK hD [.int (nI j), .long id, .int ix]) rfl rfl hl.1 rfl (lv_room (Nat.le_of_ble_eq_true rfl)) dX1_remove_25 ⟨Nat.zero_le _, Nat.zero_le _⟩) hP hD hS hA (fun r u H locs hpost hP hD hS => ?_)
      obtain ⟨hpost, rfl⟩ := hpost
      have hP : va_P (dC, dI) vwCl (nt_w 1 h0 q1 q2 q3 cL cI cJ f g h n) H := hP
      have hD : va_D A (nt_w 1 h0 q1 q2 q3 cL cI cJ f g h n) := hD
      rcases hpost with ⟨rfl, hd⟩ | ⟨rfl, hd⟩
      · refine lv_if_eq (tgt := 40) hx hb dX1_remove_28 (by decide) (fun h9 => absurd h9 (by decide)) (fun _ => ?_)
        have hjn : j < n := hd.1
        refine lv_aload_n hx hb dX1_remove_31 rfl (lv_at hl 1 rfl) ?_
        refine lv_iload hx hb dX1_remove_32 (lv_at hl 0 rfl) ?_
        refine nt_calli (va_runV (As := [.int (nI j)]) (rest := []) ⟨hx, hb, hml, hown, hts⟩ (kM_go l dC dI h0 q1 q2 q3 _ cL cI cJ f g h n j hjn hn) (cwV 1 hts gX1_remove_X1_go rfl rfl rfl (by decide +kernel) ⟨Nat.le_of_ble_eq_true rfl, Nat.le_of_ble_eq_true rfl⟩) (nt_preV rfl hP hK hD [.int (nI j)]) rfl rfl hl.1 rfl (lv_room (Nat.le_of_ble_eq_true rfl)) dX1_remove_34 ⟨Nat.zero_le _, Nat.zero_le _⟩) hP hD hS hA (fun r u H locs hpost hP hD hS => ?_)
        obtain ⟨rfl, rfl⟩ := Prod.mk.inj hpost
        have hP : va_P (dC, dI) vwCl (nt_w 1 h0 q1 q2 q3 cL cI cJ (nt_del f n j) (nt_del g n j) (nt_del h n j) (n - 1)) H := hP
        have hD : va_D A (nt_w 1 h0 q1 q2 q3 cL cI cJ (nt_del f n j) (nt_del g n j) (nt_del h n j) (n - 1)) := hD
        refine lv_goto (tgt := 42) hx hb dX1_remove_37 (by decide) ?_
        exact W.iret (v := h j) hx hb hr (fun t ht hW => ⟨⟨h j, nt_delS (f, g, h, n) j, rfl, nt_rem_did hg hat hd, by rw [ht]; exact hP, va_K.moved hW.alike hK, hD⟩, hS.F ht⟩) hS.2.2 dX1_remove_42
      · refine lv_if_eq (tgt := 40) hx hb dX1_remove_28 (by decide) (fun _ => ?_) (fun h9 => absurd h9 (by decide))
        refine lv_bipush (v := -2) hx hb dX1_remove_40 (by decide) ?_
        exact W.iret (v := -2) hx hb hr (fun t ht hW => ⟨⟨-2, (f, g, h, n), rfl, nt_rem_none hg hat hd, by rw [ht]; exact hP, va_K.moved hW.alike hK, hD⟩, hS.F ht⟩) hS.2.2 dX1_remove_42
    · refine lv_iconst (v := -1) hx hb dX1_remove_10 (by decide) ?_
      exact W.iret (v := -1) hx hb hr (fun t ht hW => ⟨⟨-1, (f, g, h, n), rfl, nt_rem_bad (Or.inr (Int32.not_le.mp h2)), by rw [ht]; exact hP, va_K.moved hW.alike hK, hD⟩, hS.F ht⟩) hS.2.2 dX1_remove_11
set_option maxHeartbeats 4000000 in
set_option maxRecDepth 100000 in
/-- the reference's get -/
theorem kM_get (l : Launch) (dC : Nat → ClassId) (dI : Nat → Nat → Nat) (h0 q1 q2 q3 sz : Nat) (cL cI cJ : ClassId) (f : Nat → Int64) (g h : Nat → Int32) (n : Nat) (id : Int64) (ix : Int32) (hok : nt_ok (f, g, h, n)) : Met l yX1_get wsX1_get ({ frames := 1, cells := 0, slots := 0, locals := 40 } : Room) (va_Pc [.ref h0, .long id, .int ix] (nt_in dC dI 1 h0 q1 q2 q3 cL cI cJ f g h n sz)) (va_Qi (fun (r : Int32) (u : nt_S) => r = nt_get (f, g, h, n) id ix ∧ u = (f, g, h, n)) (nt_out dC dI 1 h0 q1 q2 q3 cL cI cJ (va_A (nt_w 1 h0 q1 q2 q3 cL cI cJ f g h n) sz)) (va_A (nt_w 1 h0 q1 q2 q3 cL cI cJ f g h n) sz)) 0 0 (va_A (nt_w 1 h0 q1 q2 q3 cL cI cJ f g h n) sz) := by
  refine Met.ofW (cc := cX1_get) (maxL := 5) (ret := (some .int)) (by decide) rfl ?_
  intro p e s m args below meth c s₁ B hml hv
  obtain ⟨rfl, hsz, hP, hK, hD0⟩ := hv
  have hx := B.exec
  have hb := B.bytes
  have hr := B.returns
  have hts := atoms_spec (ws := wsX1_get) B.pre
  have hown : s.vm.findClass RX1 = some m.cls := findClass_of_methodNamed B.named
  have hlocks := B.notSynchronized
  subst hsz
  have hD := hD0.self (sz := s.heap.size)
  generalize hAe : va_A (nt_w 1 h0 q1 q2 q3 cL cI cJ f g h n) s.heap.size = A at hD ⊢
  have hA : ∀ q : Nat, s.heap.size ≤ q → A q := fun q h => by rw [← hAe]; exact Or.inr h
  have hS : va_S A s.heap s.heap [] := va_S.rf
  have hin : ∀ w ∈ u_ws RX1 TX1 4, w ∈ wsX1_get := by decide +kernel
  have hf2 := hts (.fieldLink RX1 17 "NameTableModel" "value" "[I") (by decide +kernel)
  have hl := lv_entry ([.ref h0, .long id, .int ix]) (n := 5) (Nat.le_of_ble_eq_true rfl)
  rw [lg_entry_eq]
  generalize (lg_sl ([.ref h0, .long id, .int ix]) ++ List.replicate (5 - (lg_sl ([.ref h0, .long id, .int ix])).length) Slot.unset).toArray = ls at hl ⊢
  have hl : lv_has ls 5 [(0, .ref h0), (1, .long id), (3, .int ix)] := hl
  have hn : n ≤ 900 := hok.1
  refine lv_iload_n hx hb dX1_get_0 rfl (lv_at hl 2 rfl) ?_
  refine lv_if_lt (tgt := 10) hx hb dX1_get_1 (by decide) (fun h1 => ?_) (fun h1 => ?_)
  · refine lv_iconst (v := -1) hx hb dX1_get_10 (by decide) ?_
    exact W.iret (v := -1) hx hb hr (fun t ht hW => ⟨⟨-1, (f, g, h, n), rfl, ⟨nt_get_bad (Or.inl h1), rfl⟩, by rw [ht]; exact hP, va_K.moved hW.alike hK, hD⟩, hS.F ht⟩) hS.2.2 dX1_get_11
  · refine lv_iload_n hx hb dX1_get_4 rfl (lv_at hl 2 rfl) ?_
    refine lv_bipush (v := 7) hx hb dX1_get_5 (by decide) ?_
    refine lv_icmp_le (tgt := 12) hx hb dX1_get_7 (by decide) (fun h2 => ?_) (fun h2 => ?_)
    · have hg : ¬ (ix < 0 ∨ 7 < ix) := fun h9 => h9.elim h1 (fun h8 => Int32.not_le.mpr h8 h2)
      refine lv_aload_n hx hb dX1_get_12 rfl (lv_at hl 0 rfl) ?_
      refine lv_lload_n hx hb dX1_get_13 rfl (lv_at hl 1 rfl) ?_
      refine lv_iload_n hx hb dX1_get_14 rfl (lv_at hl 2 rfl) ?_
      refine nt_calli (va_runV (As := [.long id, .int ix]) (rest := []) ⟨hx, hb, hml, hown, hts⟩ (kM_place l dC dI h0 q1 q2 q3 _ cL cI cJ f g h n id ix hn) (cwV 2 hts gX1_get_X1_place rfl rfl rfl (by decide +kernel) ⟨Nat.le_of_ble_eq_true rfl, Nat.le_of_ble_eq_true rfl⟩) (nt_preV rfl hP hK hD [.long id, .int ix]) rfl rfl hl.1 rfl (lv_room (Nat.le_of_ble_eq_true rfl)) dX1_get_15 ⟨Nat.zero_le _, Nat.zero_le _⟩) hP hD hS hA (fun r u H locs hpost hP hD hS => ?_)
      obtain ⟨hpost, rfl⟩ := hpost
      have hP : va_P (dC, dI) vwCl (nt_w 1 h0 q1 q2 q3 cL cI cJ f g h n) H := hP
      have hD : va_D A (nt_w 1 h0 q1 q2 q3 cL cI cJ f g h n) := hD
      obtain ⟨j, rfl, hat⟩ := hpost
      have hj : j ≤ n := hat.1
      refine lv_istore (lv' := [(4, .int (nI j)), (0, .ref h0), (1, .long id), (3, .int ix)]) hx hb dX1_get_18 hl (by decide) rfl (fun ls hl => ?_)
      refine lv_aload_n hx hb dX1_get_20 rfl (lv_at hl 1 rfl) ?_
      refine lv_iload hx hb dX1_get_21 (lv_at hl 0 rfl) ?_
      refine lv_lload_n hx hb dX1_get_23 rfl (lv_at hl 2 rfl) ?_
      refine lv_iload_n hx hb dX1_get_24 rfl (lv_at hl 3 rfl) ?_
      refine nt_calli (va_runV (As := [.int (nI j), .long id, .int ix]) (rest := []) ⟨hx, hb, hml, hown, hts⟩ (kM_is l dC dI h0 q1 q2 q3 _ cL cI cJ f g h n j id ix (by omega) hn) (cwV 3 hts gX1_get_X1_is rfl rfl rfl (by decide +kernel) ⟨Nat.le_of_ble_eq_true rfl, Nat.le_of_ble_eq_true rfl⟩) (nt_preV rfl hP hK hD [.int (nI j), .long id, .int ix]) rfl rfl hl.1 rfl (lv_room (Nat.le_of_ble_eq_true rfl)) dX1_get_25 ⟨Nat.zero_le _, Nat.zero_le _⟩) hP hD hS hA (fun r u H locs hpost hP hD hS => ?_)
      obtain ⟨hpost, rfl⟩ := hpost
      have hP : va_P (dC, dI) vwCl (nt_w 1 h0 q1 q2 q3 cL cI cJ f g h n) H := hP
      have hD : va_D A (nt_w 1 h0 q1 q2 q3 cL cI cJ f g h n) := hD
      rcases hpost with ⟨rfl, hd⟩ | ⟨rfl, hd⟩
      · refine lv_if_eq (tgt := 41) hx hb dX1_get_28 (by decide) (fun h9 => absurd h9 (by decide)) (fun _ => ?_)
        have hjn : j < n := hd.1
        refine lv_aload_n hx hb dX1_get_31 rfl (lv_at hl 1 rfl) ?_
        refine va_get (D := (dC, dI)) (ci := 1) (v := .ref q3) (C := RX1) (T := TX1) (N := 4) hx hb hts hin hown hK hP 0 rfl rfl 2 (by decide) hf2 (fun _ h9 => h9) rfl dX1_get_32 ?_
        refine lv_iload hx hb dX1_get_35 (lv_at hl 0 rfl) ?_
        refine nt_iald hx hb hK hP 3 2 rfl rfl (by omega) dX1_get_37 ?_
        refine lv_goto (tgt := 43) hx hb dX1_get_38 (by decide) ?_
        exact W.iret (v := h j) hx hb hr (fun t ht hW => ⟨⟨h j, (f, g, h, n), rfl, ⟨nt_get_is hg hat hd, rfl⟩, by rw [ht]; exact hP, va_K.moved hW.alike hK, hD⟩, hS.F ht⟩) hS.2.2 dX1_get_43
      · refine lv_if_eq (tgt := 41) hx hb dX1_get_28 (by decide) (fun _ => ?_) (fun h9 => absurd h9 (by decide))
        refine lv_bipush (v := -2) hx hb dX1_get_41 (by decide) ?_
        exact W.iret (v := -2) hx hb hr (fun t ht hW => ⟨⟨-2, (f, g, h, n), rfl, ⟨nt_get_none hg hat hd, rfl⟩, by rw [ht]; exact hP, va_K.moved hW.alike hK, hD⟩, hS.F ht⟩) hS.2.2 dX1_get_43
    · refine lv_iconst (v := -1) hx hb dX1_get_10 (by decide) ?_
      exact W.iret (v := -1) hx hb hr (fun t ht hW => ⟨⟨-1, (f, g, h, n), rfl, ⟨nt_get_bad (Or.inr (Int32.not_le.mp h2)), rfl⟩, by rw [ht]; exact hP, va_K.moved hW.alike hK, hD⟩, hS.F ht⟩) hS.2.2 dX1_get_11
set_option maxHeartbeats 4000000 in
set_option maxRecDepth 100000 in
/-- the reference's take -/
theorem kM_take (l : Launch) (dC : Nat → ClassId) (dI : Nat → Nat → Nat) (h0 q1 q2 q3 sz : Nat) (cL cI cJ : ClassId) (f : Nat → Int64) (g h : Nat → Int32) (n : Nat) (k : Int32) (hn : n ≤ 900) : Met l yX1_take wsX1_take ({ frames := 1, cells := 0, slots := 0, locals := 40 } : Room) (va_Pc [.ref h0, .int k] (nt_in dC dI 1 h0 q1 q2 q3 cL cI cJ f g h n sz)) (va_Qi (fun (r : Int32) (u : nt_S) => (r, u) = nt_take (f, g, h, n) k) (nt_out dC dI 1 h0 q1 q2 q3 cL cI cJ (va_A (nt_w 1 h0 q1 q2 q3 cL cI cJ f g h n) sz)) (va_A (nt_w 1 h0 q1 q2 q3 cL cI cJ f g h n) sz)) 0 0 (va_A (nt_w 1 h0 q1 q2 q3 cL cI cJ f g h n) sz) := by
  refine Met.ofW (cc := cX1_take) (maxL := 2) (ret := (some .int)) (by decide) rfl ?_
  intro p e s m args below meth c s₁ B hml hv
  obtain ⟨rfl, hsz, hP, hK, hD0⟩ := hv
  have hx := B.exec
  have hb := B.bytes
  have hr := B.returns
  have hts := atoms_spec (ws := wsX1_take) B.pre
  have hown : s.vm.findClass RX1 = some m.cls := findClass_of_methodNamed B.named
  have hlocks := B.notSynchronized
  subst hsz
  have hD := hD0.self (sz := s.heap.size)
  generalize hAe : va_A (nt_w 1 h0 q1 q2 q3 cL cI cJ f g h n) s.heap.size = A at hD ⊢
  have hA : ∀ q : Nat, s.heap.size ≤ q → A q := fun q h => by rw [← hAe]; exact Or.inr h
  have hS : va_S A s.heap s.heap [] := va_S.rf
  have hin : ∀ w ∈ u_ws RX1 TX1 4, w ∈ wsX1_take := by decide +kernel
  have hf3 := hts (.fieldLink RX1 20 "NameTableModel" "count" "I") (by decide +kernel)
  have hl := lv_entry ([.ref h0, .int k]) (n := 2) (Nat.le_of_ble_eq_true rfl)
  rw [lg_entry_eq]
  generalize (lg_sl ([.ref h0, .int k]) ++ List.replicate (2 - (lg_sl ([.ref h0, .int k])).length) Slot.unset).toArray = ls at hl ⊢
  have hl : lv_has ls 2 [(0, .ref h0), (1, .int k)] := hl
  refine lv_iload_n hx hb dX1_take_0 rfl (lv_at hl 1 rfl) ?_
  refine lv_if_lt (tgt := 12) hx hb dX1_take_1 (by decide) (fun h1 => ?_) (fun h1 => ?_)
  · refine lv_bipush (v := -2) hx hb dX1_take_12 (by decide) ?_
    refine lv_goto (tgt := 22) hx hb dX1_take_14 (by decide) ?_
    exact W.iret (v := -2) hx hb hr (fun t ht hW => ⟨⟨-2, (f, g, h, n), rfl, nt_take_none (st := (f, g, h, n)) (Or.inl h1), by rw [ht]; exact hP, va_K.moved hW.alike hK, hD⟩, hS.F ht⟩) hS.2.2 dX1_take_22
  · refine lv_iload_n hx hb dX1_take_4 rfl (lv_at hl 1 rfl) ?_
    refine lv_aload_n hx hb dX1_take_5 rfl (lv_at hl 0 rfl) ?_
    refine va_get (D := (dC, dI)) (ci := 1) (v := .int (nI n)) (C := RX1) (T := TX1) (N := 4) hx hb hts hin hown hK hP 0 rfl rfl 3 (by decide) hf3 (fun _ h9 => h9) rfl dX1_take_6 ?_
    refine lv_icmp_lt (tgt := 17) hx hb dX1_take_9 (by decide) (fun h2 => ?_) (fun h2 => ?_)
    · obtain ⟨j, hj, rfl⟩ : ∃ j : Nat, j < n ∧ k = nI j := (pk_ix k (show n < 2 ^ 31 by omega)).elim (fun h9 => absurd h9 h1) (fun h9 => h9.elim (fun h8 => absurd h2 (Int32.not_lt.mpr h8)) id)
      refine lv_aload_n hx hb dX1_take_17 rfl (lv_at hl 0 rfl) ?_
      refine lv_iload_n hx hb dX1_take_18 rfl (lv_at hl 1 rfl) ?_
      refine nt_calli (va_runV (As := [.int (nI j)]) (rest := []) ⟨hx, hb, hml, hown, hts⟩ (kM_go l dC dI h0 q1 q2 q3 _ cL cI cJ f g h n j hj hn) (cwV 1 hts gX1_take_X1_go rfl rfl rfl (by decide +kernel) ⟨Nat.le_of_ble_eq_true rfl, Nat.le_of_ble_eq_true rfl⟩) (nt_preV rfl hP hK hD [.int (nI j)]) rfl rfl hl.1 rfl (lv_room (Nat.le_of_ble_eq_true rfl)) dX1_take_19 ⟨Nat.zero_le _, Nat.zero_le _⟩) hP hD hS hA (fun r u H locs hpost hP hD hS => ?_)
      obtain ⟨rfl, rfl⟩ := Prod.mk.inj hpost
      have hP : va_P (dC, dI) vwCl (nt_w 1 h0 q1 q2 q3 cL cI cJ (nt_del f n j) (nt_del g n j) (nt_del h n j) (n - 1)) H := hP
      have hD : va_D A (nt_w 1 h0 q1 q2 q3 cL cI cJ (nt_del f n j) (nt_del g n j) (nt_del h n j) (n - 1)) := hD
      exact W.iret (v := h j) hx hb hr (fun t ht hW => ⟨⟨h j, nt_delS (f, g, h, n) j, rfl, nt_take_did (st := (f, g, h, n)) hn hj rfl, by rw [ht]; exact hP, va_K.moved hW.alike hK, hD⟩, hS.F ht⟩) hS.2.2 dX1_take_22
    · refine lv_bipush (v := -2) hx hb dX1_take_12 (by decide) ?_
      refine lv_goto (tgt := 22) hx hb dX1_take_14 (by decide) ?_
      exact W.iret (v := -2) hx hb hr (fun t ht hW => ⟨⟨-2, (f, g, h, n), rfl, nt_take_none (st := (f, g, h, n)) (Or.inr (Int32.not_lt.mp h2)), by rw [ht]; exact hP, va_K.moved hW.alike hK, hD⟩, hS.F ht⟩) hS.2.2 dX1_take_22
set_option maxHeartbeats 4000000 in
set_option maxRecDepth 100000 in
/-- the reference's name -/
theorem kM_name (l : Launch) (dC : Nat → ClassId) (dI : Nat → Nat → Nat) (h0 q1 q2 q3 sz : Nat) (cL cI cJ : ClassId) (f : Nat → Int64) (g h : Nat → Int32) (n : Nat) (k : Int32) (hn : n ≤ 900) : Met l yX1_name wsX1_name ({ frames := 0, cells := 0, slots := 0, locals := 0 } : Room) (va_Pc [.ref h0, .int k] (nt_in dC dI 1 h0 q1 q2 q3 cL cI cJ f g h n sz)) (va_Ql (fun (r : Int64) (u : nt_S) => r = nt_name (f, g, h, n) k ∧ u = (f, g, h, n)) (nt_out dC dI 1 h0 q1 q2 q3 cL cI cJ (va_A (nt_w 1 h0 q1 q2 q3 cL cI cJ f g h n) sz)) (va_A (nt_w 1 h0 q1 q2 q3 cL cI cJ f g h n) sz)) 0 0 (va_A (nt_w 1 h0 q1 q2 q3 cL cI cJ f g h n) sz) := by
  refine Met.ofW (cc := cX1_name) (maxL := 2) (ret := (some .long)) (by decide) rfl ?_
  intro p e s m args below meth c s₁ B hml hv
  obtain ⟨rfl, hsz, hP, hK, hD0⟩ := hv
  have hx := B.exec
  have hb := B.bytes
  have hr := B.returns
  have hts := atoms_spec (ws := wsX1_name) B.pre
  have hown : s.vm.findClass RX1 = some m.cls := findClass_of_methodNamed B.named
  have hlocks := B.notSynchronized
  subst hsz
  have hD := hD0.self (sz := s.heap.size)
  generalize hAe : va_A (nt_w 1 h0 q1 q2 q3 cL cI cJ f g h n) s.heap.size = A at hD ⊢
  have hA : ∀ q : Nat, s.heap.size ≤ q → A q := fun q h => by rw [← hAe]; exact Or.inr h
  have hS : va_S A s.heap s.heap [] := va_S.rf
  have hin : ∀ w ∈ u_ws RX1 TX1 4, w ∈ wsX1_name := by decide +kernel
  have hf0 := hts (.fieldLink RX1 9 "NameTableModel" "id" "[J") (by decide +kernel)
  have hf3 := hts (.fieldLink RX1 20 "NameTableModel" "count" "I") (by decide +kernel)
  have hl := lv_entry ([.ref h0, .int k]) (n := 2) (Nat.le_of_ble_eq_true rfl)
  rw [lg_entry_eq]
  generalize (lg_sl ([.ref h0, .int k]) ++ List.replicate (2 - (lg_sl ([.ref h0, .int k])).length) Slot.unset).toArray = ls at hl ⊢
  have hl : lv_has ls 2 [(0, .ref h0), (1, .int k)] := hl
  refine lv_iload_n hx hb dX1_name_0 rfl (lv_at hl 1 rfl) ?_
  refine lv_if_lt (tgt := 12) hx hb dX1_name_1 (by decide) (fun h1 => ?_) (fun h1 => ?_)
  · refine lv_lconst (v := 0) hx hb dX1_name_12 (by decide) ?_
    refine lv_goto (tgt := 22) hx hb dX1_name_13 (by decide) ?_
    exact W.lret (v := 0) hx hb hr (fun t ht hW => ⟨⟨0, (f, g, h, n), rfl, ⟨nt_name_none (st := (f, g, h, n)) (Or.inl h1), rfl⟩, by rw [ht]; exact hP, va_K.moved hW.alike hK, hD⟩, hS.F ht⟩) hS.2.2 dX1_name_22
  · refine lv_iload_n hx hb dX1_name_4 rfl (lv_at hl 1 rfl) ?_
    refine lv_aload_n hx hb dX1_name_5 rfl (lv_at hl 0 rfl) ?_
    refine va_get (D := (dC, dI)) (ci := 1) (v := .int (nI n)) (C := RX1) (T := TX1) (N := 4) hx hb hts hin hown hK hP 0 rfl rfl 3 (by decide) hf3 (fun _ h9 => h9) rfl dX1_name_6 ?_
    refine lv_icmp_lt (tgt := 16) hx hb dX1_name_9 (by decide) (fun h2 => ?_) (fun h2 => ?_)
    · obtain ⟨j, hj, rfl⟩ : ∃ j : Nat, j < n ∧ k = nI j := (pk_ix k (show n < 2 ^ 31 by omega)).elim (fun h9 => absurd h9 h1) (fun h9 => h9.elim (fun h8 => absurd h2 (Int32.not_lt.mpr h8)) id)
      refine lv_aload_n hx hb dX1_name_16 rfl (lv_at hl 0 rfl) ?_
      refine va_get (D := (dC, dI)) (ci := 1) (v := .ref q1) (C := RX1) (T := TX1) (N := 4) hx hb hts hin hown hK hP 0 rfl rfl 0 (by decide) hf0 (fun _ h9 => h9) rfl dX1_name_17 ?_
      refine lv_iload_n hx hb dX1_name_20 rfl (lv_at hl 1 rfl) ?_
      refine nt_lald hx hb hK hP 1 0 rfl rfl (by omega) dX1_name_21 ?_
      exact W.lret (v := f j) hx hb hr (fun t ht hW => ⟨⟨f j, (f, g, h, n), rfl, ⟨nt_name_is (st := (f, g, h, n)) hn hj rfl, rfl⟩, by rw [ht]; exact hP, va_K.moved hW.alike hK, hD⟩, hS.F ht⟩) hS.2.2 dX1_name_22
    · refine lv_lconst (v := 0) hx hb dX1_name_12 (by decide) ?_
      refine lv_goto (tgt := 22) hx hb dX1_name_13 (by decide) ?_
      exact W.lret (v := 0) hx hb hr (fun t ht hW => ⟨⟨0, (f, g, h, n), rfl, ⟨nt_name_none (st := (f, g, h, n)) (Or.inr (Int32.not_lt.mp h2)), rfl⟩, by rw [ht]; exact hP, va_K.moved hW.alike hK, hD⟩, hS.F ht⟩) hS.2.2 dX1_name_22
set_option maxHeartbeats 4000000 in
set_option maxRecDepth 100000 in
/-- the reference's index -/
theorem kM_index (l : Launch) (dC : Nat → ClassId) (dI : Nat → Nat → Nat) (h0 q1 q2 q3 sz : Nat) (cL cI cJ : ClassId) (f : Nat → Int64) (g h : Nat → Int32) (n : Nat) (k : Int32) (hn : n ≤ 900) : Met l yX1_index wsX1_index ({ frames := 0, cells := 0, slots := 0, locals := 0 } : Room) (va_Pc [.ref h0, .int k] (nt_in dC dI 1 h0 q1 q2 q3 cL cI cJ f g h n sz)) (va_Qi (fun (r : Int32) (u : nt_S) => r = nt_index (f, g, h, n) k ∧ u = (f, g, h, n)) (nt_out dC dI 1 h0 q1 q2 q3 cL cI cJ (va_A (nt_w 1 h0 q1 q2 q3 cL cI cJ f g h n) sz)) (va_A (nt_w 1 h0 q1 q2 q3 cL cI cJ f g h n) sz)) 0 0 (va_A (nt_w 1 h0 q1 q2 q3 cL cI cJ f g h n) sz) := by
  refine Met.ofW (cc := cX1_index) (maxL := 2) (ret := (some .int)) (by decide) rfl ?_
  intro p e s m args below meth c s₁ B hml hv
  obtain ⟨rfl, hsz, hP, hK, hD0⟩ := hv
  have hx := B.exec
  have hb := B.bytes
  have hr := B.returns
  have hts := atoms_spec (ws := wsX1_index) B.pre
  have hown : s.vm.findClass RX1 = some m.cls := findClass_of_methodNamed B.named
  have hlocks := B.notSynchronized
  subst hsz
  have hD := hD0.self (sz := s.heap.size)
  generalize hAe : va_A (nt_w 1 h0 q1 q2 q3 cL cI cJ f g h n) s.heap.size = A at hD ⊢
  have hA : ∀ q : Nat, s.heap.size ≤ q → A q := fun q h => by rw [← hAe]; exact Or.inr h
  have hS : va_S A s.heap s.heap [] := va_S.rf
  have hin : ∀ w ∈ u_ws RX1 TX1 4, w ∈ wsX1_index := by decide +kernel
  have hf1 := hts (.fieldLink RX1 13 "NameTableModel" "index" "[I") (by decide +kernel)
  have hf3 := hts (.fieldLink RX1 20 "NameTableModel" "count" "I") (by decide +kernel)
  have hl := lv_entry ([.ref h0, .int k]) (n := 2) (Nat.le_of_ble_eq_true rfl)
  rw [lg_entry_eq]
  generalize (lg_sl ([.ref h0, .int k]) ++ List.replicate (2 - (lg_sl ([.ref h0, .int k])).length) Slot.unset).toArray = ls at hl ⊢
  have hl : lv_has ls 2 [(0, .ref h0), (1, .int k)] := hl
  refine lv_iload_n hx hb dX1_index_0 rfl (lv_at hl 1 rfl) ?_
  refine lv_if_lt (tgt := 12) hx hb dX1_index_1 (by decide) (fun h1 => ?_) (fun h1 => ?_)
  · refine lv_bipush (v := -2) hx hb dX1_index_12 (by decide) ?_
    refine lv_goto (tgt := 23) hx hb dX1_index_14 (by decide) ?_
    exact W.iret (v := -2) hx hb hr (fun t ht hW => ⟨⟨-2, (f, g, h, n), rfl, ⟨nt_index_none (st := (f, g, h, n)) (Or.inl h1), rfl⟩, by rw [ht]; exact hP, va_K.moved hW.alike hK, hD⟩, hS.F ht⟩) hS.2.2 dX1_index_23
  · refine lv_iload_n hx hb dX1_index_4 rfl (lv_at hl 1 rfl) ?_
    refine lv_aload_n hx hb dX1_index_5 rfl (lv_at hl 0 rfl) ?_
    refine va_get (D := (dC, dI)) (ci := 1) (v := .int (nI n)) (C := RX1) (T := TX1) (N := 4) hx hb hts hin hown hK hP 0 rfl rfl 3 (by decide) hf3 (fun _ h9 => h9) rfl dX1_index_6 ?_
    refine lv_icmp_lt (tgt := 17) hx hb dX1_index_9 (by decide) (fun h2 => ?_) (fun h2 => ?_)
    · obtain ⟨j, hj, rfl⟩ : ∃ j : Nat, j < n ∧ k = nI j := (pk_ix k (show n < 2 ^ 31 by omega)).elim (fun h9 => absurd h9 h1) (fun h9 => h9.elim (fun h8 => absurd h2 (Int32.not_lt.mpr h8)) id)
      refine lv_aload_n hx hb dX1_index_17 rfl (lv_at hl 0 rfl) ?_
      refine va_get (D := (dC, dI)) (ci := 1) (v := .ref q2) (C := RX1) (T := TX1) (N := 4) hx hb hts hin hown hK hP 0 rfl rfl 1 (by decide) hf1 (fun _ h9 => h9) rfl dX1_index_18 ?_
      refine lv_iload_n hx hb dX1_index_21 rfl (lv_at hl 1 rfl) ?_
      refine nt_iald hx hb hK hP 2 1 rfl rfl (by omega) dX1_index_22 ?_
      exact W.iret (v := g j) hx hb hr (fun t ht hW => ⟨⟨g j, (f, g, h, n), rfl, ⟨nt_index_is (st := (f, g, h, n)) hn hj rfl, rfl⟩, by rw [ht]; exact hP, va_K.moved hW.alike hK, hD⟩, hS.F ht⟩) hS.2.2 dX1_index_23
    · refine lv_bipush (v := -2) hx hb dX1_index_12 (by decide) ?_
      refine lv_goto (tgt := 23) hx hb dX1_index_14 (by decide) ?_
      exact W.iret (v := -2) hx hb hr (fun t ht hW => ⟨⟨-2, (f, g, h, n), rfl, ⟨nt_index_none (st := (f, g, h, n)) (Or.inr (Int32.not_lt.mp h2)), rfl⟩, by rw [ht]; exact hP, va_K.moved hW.alike hK, hD⟩, hS.F ht⟩) hS.2.2 dX1_index_23
set_option maxHeartbeats 4000000 in
set_option maxRecDepth 100000 in
/-- promise 9 -/
theorem kM_many (l : Launch) (dC : Nat → ClassId) (dI : Nat → Nat → Nat) (h0 q1 q2 q3 sz : Nat) (cL cI cJ : ClassId) (f : Nat → Int64) (g h : Nat → Int32) (n : Nat)  : Met l yX1_many wsX1_many ({ frames := 0, cells := 0, slots := 0, locals := 0 } : Room) (va_Pc [.ref h0] (nt_in dC dI 1 h0 q1 q2 q3 cL cI cJ f g h n sz)) (va_Qi (fun (r : Int32) (u : nt_S) => r = nI n ∧ u = (f, g, h, n)) (nt_out dC dI 1 h0 q1 q2 q3 cL cI cJ (va_A (nt_w 1 h0 q1 q2 q3 cL cI cJ f g h n) sz)) (va_A (nt_w 1 h0 q1 q2 q3 cL cI cJ f g h n) sz)) 0 0 (va_A (nt_w 1 h0 q1 q2 q3 cL cI cJ f g h n) sz) := by
  refine Met.ofW (cc := cX1_many) (maxL := 1) (ret := (some .int)) (by decide) rfl ?_
  intro p e s m args below meth c s₁ B hml hv
  obtain ⟨rfl, hsz, hP, hK, hD0⟩ := hv
  have hx := B.exec
  have hb := B.bytes
  have hr := B.returns
  have hts := atoms_spec (ws := wsX1_many) B.pre
  have hown : s.vm.findClass RX1 = some m.cls := findClass_of_methodNamed B.named
  have hlocks := B.notSynchronized
  subst hsz
  have hD := hD0.self (sz := s.heap.size)
  generalize hAe : va_A (nt_w 1 h0 q1 q2 q3 cL cI cJ f g h n) s.heap.size = A at hD ⊢
  have hA : ∀ q : Nat, s.heap.size ≤ q → A q := fun q h => by rw [← hAe]; exact Or.inr h
  have hS : va_S A s.heap s.heap [] := va_S.rf
  have hin : ∀ w ∈ u_ws RX1 TX1 4, w ∈ wsX1_many := by decide +kernel
  have hf3 := hts (.fieldLink RX1 20 "NameTableModel" "count" "I") (by decide +kernel)
  have hl := lv_entry ([.ref h0]) (n := 1) (Nat.le_of_ble_eq_true rfl)
  rw [lg_entry_eq]
  generalize (lg_sl ([.ref h0]) ++ List.replicate (1 - (lg_sl ([.ref h0])).length) Slot.unset).toArray = ls at hl ⊢
  have hl : lv_has ls 1 [(0, .ref h0)] := hl
  refine lv_aload_n hx hb dX1_many_0 rfl (lv_at hl 0 rfl) ?_
  refine va_get (D := (dC, dI)) (ci := 1) (v := .int (nI n)) (C := RX1) (T := TX1) (N := 4) hx hb hts hin hown hK hP 0 rfl rfl 3 (by decide) hf3 (fun _ h9 => h9) rfl dX1_many_1 ?_
  exact W.iret (v := nI n) hx hb hr (fun t ht hW => ⟨⟨nI n, (f, g, h, n), rfl, ⟨rfl, rfl⟩, by rw [ht]; exact hP, va_K.moved hW.alike hK, hD⟩, hS.F ht⟩) hS.2.2 dX1_many_4
set_option maxHeartbeats 4000000 in
set_option maxRecDepth 100000 in
/-- promise 10 -/
theorem kM_value (l : Launch) (dC : Nat → ClassId) (dI : Nat → Nat → Nat) (h0 q1 q2 q3 sz : Nat) (cL cI cJ : ClassId) (f : Nat → Int64) (g h : Nat → Int32) (n : Nat) (hn : n ≤ 900) : Met l yX1_value wsX1_value ({ frames := 0, cells := 0, slots := 0, locals := 0 } : Room) (va_Pc [.ref h0] (nt_in dC dI 1 h0 q1 q2 q3 cL cI cJ f g h n sz)) (va_Ql (fun (r : Int64) (u : nt_S) => r = nt_sum h n ∧ u = (f, g, h, n)) (nt_out dC dI 1 h0 q1 q2 q3 cL cI cJ (va_A (nt_w 1 h0 q1 q2 q3 cL cI cJ f g h n) sz)) (va_A (nt_w 1 h0 q1 q2 q3 cL cI cJ f g h n) sz)) 0 0 (va_A (nt_w 1 h0 q1 q2 q3 cL cI cJ f g h n) sz) := by
  refine Met.ofW (cc := cX1_value) (maxL := 4) (ret := (some .long)) (by decide) rfl ?_
  intro p e s m args below meth c s₁ B hml hv
  obtain ⟨rfl, hsz, hP, hK, hD0⟩ := hv
  have hx := B.exec
  have hb := B.bytes
  have hr := B.returns
  have hts := atoms_spec (ws := wsX1_value) B.pre
  have hown : s.vm.findClass RX1 = some m.cls := findClass_of_methodNamed B.named
  have hlocks := B.notSynchronized
  subst hsz
  have hD := hD0.self (sz := s.heap.size)
  generalize hAe : va_A (nt_w 1 h0 q1 q2 q3 cL cI cJ f g h n) s.heap.size = A at hD ⊢
  have hA : ∀ q : Nat, s.heap.size ≤ q → A q := fun q h => by rw [← hAe]; exact Or.inr h
  have hS : va_S A s.heap s.heap [] := va_S.rf
  have hin : ∀ w ∈ u_ws RX1 TX1 4, w ∈ wsX1_value := by decide +kernel
  have hf2 := hts (.fieldLink RX1 17 "NameTableModel" "value" "[I") (by decide +kernel)
  have hf3 := hts (.fieldLink RX1 20 "NameTableModel" "count" "I") (by decide +kernel)
  have hl := lv_entry ([.ref h0]) (n := 4) (Nat.le_of_ble_eq_true rfl)
  rw [lg_entry_eq]
  generalize (lg_sl ([.ref h0]) ++ List.replicate (4 - (lg_sl ([.ref h0])).length) Slot.unset).toArray = ls at hl ⊢
  have hl : lv_has ls 4 [(0, .ref h0)] := hl
  refine lv_lconst (v := 0) hx hb dX1_value_0 (by decide) ?_
  refine lv_lstore_n (lv' := [(1, .long 0), (0, .ref h0)]) hx hb dX1_value_1 rfl hl (by decide) rfl (fun ls hl => ?_)
  refine lv_iconst (v := nI 0) hx hb dX1_value_2 (by decide) ?_
  refine lv_istore_n (lv' := [(3, .int (nI 0)), (1, .long 0), (0, .ref h0)]) hx hb dX1_value_3 rfl hl (by decide) rfl (fun ls hl => ?_)
  refine nt_here (fun Q hQ => ?_)
  have loop : ∀ (d i : Nat), i + d = n → ∀ (ls : Array Slot), lv_has ls 4 [(0, .ref h0), (1, .long (nt_sum h i)), (3, .int (nI i))] → W p l e ({ frames := 0, cells := 0, slots := 0, locals := 0 } : Room) s m ([.ref h0] : List Value).toArray below meth c s.heap [] 0 0 Q (F0 m 4 ls []) := by
    intro d
    induction d with
    | zero =>
      intro i hi ls hl
      have hi : i = n := by omega
      subst hi
      refine lv_iload_n hx hb dX1_value_4 rfl (lv_at hl 2 rfl) ?_
      refine lv_aload_n hx hb dX1_value_5 rfl (lv_at hl 0 rfl) ?_
      refine va_get (D := (dC, dI)) (ci := 1) (v := .int (nI i)) (C := RX1) (T := TX1) (N := 4) hx hb hts hin hown hK hP 0 rfl rfl 3 (by decide) hf3 (fun _ h9 => h9) rfl dX1_value_6 ?_
      refine lv_icmp_ge (tgt := 28) hx hb dX1_value_9 (by decide) (fun hc => ?_) (fun hc => ?_)
      · refine lv_lload_n hx hb dX1_value_28 rfl (lv_at hl 1 rfl) ?_
        subst hQ
        exact W.lret (v := nt_sum h i) hx hb hr (fun t ht hW => ⟨⟨nt_sum h i, (f, g, h, i), rfl, ⟨rfl, rfl⟩, by rw [ht]; exact hP, va_K.moved hW.alike hK, hD⟩, hS.F ht⟩) hS.2.2 dX1_value_29
      · exact absurd (nI_le (Nat.le_refl i) (by omega)) hc
    | succ d ih =>
      intro i hi ls hl
      refine lv_iload_n hx hb dX1_value_4 rfl (lv_at hl 2 rfl) ?_
      refine lv_aload_n hx hb dX1_value_5 rfl (lv_at hl 0 rfl) ?_
      refine va_get (D := (dC, dI)) (ci := 1) (v := .int (nI n)) (C := RX1) (T := TX1) (N := 4) hx hb hts hin hown hK hP 0 rfl rfl 3 (by decide) hf3 (fun _ h9 => h9) rfl dX1_value_6 ?_
      refine lv_icmp_ge (tgt := 28) hx hb dX1_value_9 (by decide) (fun hc => ?_) (fun hc => ?_)
      · exact absurd hc (nI_ge (show i < n by omega) (by omega))
      · refine lv_lload_n hx hb dX1_value_12 rfl (lv_at hl 1 rfl) ?_
        refine lv_aload_n hx hb dX1_value_13 rfl (lv_at hl 0 rfl) ?_
        refine va_get (D := (dC, dI)) (ci := 1) (v := .ref q3) (C := RX1) (T := TX1) (N := 4) hx hb hts hin hown hK hP 0 rfl rfl 2 (by decide) hf2 (fun _ h9 => h9) rfl dX1_value_14 ?_
        refine lv_iload_n hx hb dX1_value_17 rfl (lv_at hl 2 rfl) ?_
        refine nt_iald hx hb hK hP 3 2 rfl rfl (by omega) dX1_value_18 ?_
        refine lv_i2l (v := (h i).toInt64) hx hb dX1_value_19 rfl ?_
        refine lv_ladd hx hb dX1_value_20 ?_
        refine lv_lstore_n (lv' := [(1, .long ((nt_sum h i) + ((h i).toInt64))), (0, .ref h0), (3, .int (nI i))]) hx hb dX1_value_21 rfl hl (by decide) rfl (fun ls hl => ?_)
        refine lv_iinc (k := 2) (v := nI (i + 1)) (lv' := [(3, .int (nI (i + 1))), (1, .long ((nt_sum h i) + ((h i).toInt64))), (0, .ref h0)]) hx hb dX1_value_22 hl rfl (by rw [show Int32.ofInt 1 = 1 by decide]; exact nI_1 _) (by decide) rfl (fun ls hl => ?_)
        refine lv_goto (tgt := 4) hx hb dX1_value_25 (by decide) ?_
        exact ih (i + 1) (by omega) ls (lv_sub hl [2, 1, 0] rfl)
  exact loop n 0 (by omega) ls (lv_sub hl [2, 1, 0] rfl)
end
section
set_option maxHeartbeats 4000000 in
set_option maxRecDepth 100000 in
/-- promise 1: the constructor of NameTable -/
theorem kX_init (l : Launch) (dC : Nat → ClassId) (dI : Nat → Nat → Nat) (h0 sz : Nat) : Met l yX0_init wsX0_init ({ frames := 1, cells := 3, slots := 2700, locals := 40 } : Room) (va_Pc [.ref h0] (fun U => U.heap.size = sz ∧ va_P (dC, dI) vwCl [(h0, .inr (0, [.null, .null, .null, .int 0]))] U.heap ∧ va_K (dC, dI) vwCl [] U ∧ va_D (fun _ => True) [(h0, .inr (0, [.null, .null, .null, .int 0]))])) (va_Qv (fun (_ : nt_N) => True) (nt_new dC dI 0 h0 (va_A [(h0, .inr (0, [.null, .null, .null, .int 0]))] sz)) (va_A [(h0, .inr (0, [.null, .null, .null, .int 0]))] sz)) 3 2700 (va_A [(h0, .inr (0, [.null, .null, .null, .int 0]))] sz) := by
  refine Met.ofW (cc := cX0_init) (maxL := 1) (ret := none) (by decide) rfl ?_
  intro p e s m args below meth c s₁ B hml hv
  obtain ⟨rfl, hsz, hP, hK, hD0⟩ := hv
  have hx := B.exec
  have hb := B.bytes
  have hr := B.returns
  have hts := atoms_spec (ws := wsX0_init) B.pre
  have hown : s.vm.findClass RX0 = some m.cls := findClass_of_methodNamed B.named
  have hlocks := B.notSynchronized
  have hin2 : meth.name = "<init>" := (name_of_methodNamed B.named B.method).1
  subst hsz
  have hD := hD0.self (sz := s.heap.size)
  generalize hAe : va_A [(h0, .inr (0, [.null, .null, .null, .int 0]))] s.heap.size = A at hD ⊢
  have hA : ∀ q : Nat, s.heap.size ≤ q → A q := fun q h => by rw [← hAe]; exact Or.inr h
  have hS : va_S A s.heap s.heap [] := va_S.rf
  have hP : va_P (dC, dI) vwCl [(h0, .inr (0, [.null, .null, .null, .int 0]))] s.heap := hP
  have hin : ∀ w ∈ u_ws RX0 TX0 4, w ∈ wsX0_init := by decide +kernel
  have hl := lv_entry ([.ref h0]) (n := 1) (Nat.le_of_ble_eq_true rfl)
  rw [lg_entry_eq]
  generalize (lg_sl ([.ref h0]) ++ List.replicate (1 - (lg_sl ([.ref h0])).length) Slot.unset).toArray = ls at hl ⊢
  have hl : lv_has ls 1 [(0, .ref h0)] := hl
  refine lv_aload_n hx hb dX0_init_0 rfl (lv_at hl 0 rfl) ?_
  refine W.objInit hx hb hown (hts (.methodLink RX0 1 objectInit) (by decide +kernel)) (hts (.instanceMethod objectInit) (by decide +kernel)) (hts (.code objectInit ⟨#[0xb1]⟩ 1 none) (List.mem_cons_of_mem _ (List.mem_append_left _ (List.mem_of_getElem? (i := 2) rfl)))) rfl (by rw [hml]; exact hl.1) rfl dX0_init_1 (Nat.le_of_ble_eq_true rfl) (Nat.le_of_ble_eq_true rfl) ?_
  refine W.eq (g2 := F0 m 4 ls []) rfl ?_
  refine lv_aload_n hx hb dX0_init_4 rfl (lv_at hl 0 rfl) ?_
  refine lv_sipush (v := nI 900) hx hb dX0_init_5 (by decide) ?_
  refine va_newa (atype := .long) (D := (dC, dI)) (ty := .long) (N' := 900) (a0 := (900, .inr (.inl (fun _ => 0)))) hx hb (hts (.arrayClass .long) (by decide +kernel)) rfl hK hP hD hS hA nt_zl (nI_pos (by omega)) (nI_clamp (by omega)) (show 900 * 8 ≤ 536870912 by omega) (show 0 + 1 ≤ 3 by omega) (show 0 + 900 ≤ 2700 by omega) dX0_init_8 (fun q1 cL H hK hP hD hS => ?_)
  refine W.widen (k := 1) (n := 900) (by omega) (by omega) ?_
  have hK : va_K (dC, dI) vwCl [(cL, .long)] s := hK
  have hP : va_P (dC, dI) vwCl [(h0, .inr (0, [.null, .null, .null, .int 0])), (q1, .inl (cL, 900, .inr (.inl (fun _ => 0))))] H := hP
  have hD : va_D A [(h0, .inr (0, [.null, .null, .null, .int 0])), (q1, .inl (cL, 900, .inr (.inl (fun _ => 0))))] := hD
  refine va_putF (D := (dC, dI)) (ci := 0) (v := .ref q1) (ty := .array .long) (C := RX0) (T := TX0) (N := 4) hx hb hts hin tyX0 tyX0_ok nmX0 hown hK hP hD hS 0 rfl rfl 0 (by decide) (hts (.fieldLink RX0 9 "NameTable" "ids" "[J") (by decide +kernel)) (fun _ h9 => h9) rfl hin2 rfl (by decide +kernel) rfl rfl (Nat.le_of_ble_eq_true rfl) dX0_init_10 (fun H locs hP hD hS => ?_)
  have hP : va_P (dC, dI) vwCl [(h0, .inr (0, [.ref q1, .null, .null, .int 0])), (q1, .inl (cL, 900, .inr (.inl (fun _ => 0))))] H := hP
  have hD : va_D A [(h0, .inr (0, [.ref q1, .null, .null, .int 0])), (q1, .inl (cL, 900, .inr (.inl (fun _ => 0))))] := hD
  refine lv_aload_n hx hb dX0_init_13 rfl (lv_at hl 0 rfl) ?_
  refine lv_sipush (v := nI 900) hx hb dX0_init_14 (by decide) ?_
  refine va_newa (atype := .int) (D := (dC, dI)) (ty := .int) (N' := 900) (a0 := (900, .inl (fun _ => 0))) hx hb (hts (.arrayClass .int) (by decide +kernel)) rfl hK hP hD hS hA nt_zi (nI_pos (by omega)) (nI_clamp (by omega)) (show 900 * 4 ≤ 536870912 by omega) (show 1 + 1 ≤ 3 by omega) (show 900 + 900 ≤ 2700 by omega) dX0_init_17 (fun q2 cI H hK hP hD hS => ?_)
  refine W.widen (k := 2) (n := 1800) (by omega) (by omega) ?_
  have hK : va_K (dC, dI) vwCl [(cL, .long), (cI, .int)] s := hK
  have hP : va_P (dC, dI) vwCl [(h0, .inr (0, [.ref q1, .null, .null, .int 0])), (q1, .inl (cL, 900, .inr (.inl (fun _ => 0)))), (q2, .inl (cI, 900, .inl (fun _ => 0)))] H := hP
  have hD : va_D A [(h0, .inr (0, [.ref q1, .null, .null, .int 0])), (q1, .inl (cL, 900, .inr (.inl (fun _ => 0)))), (q2, .inl (cI, 900, .inl (fun _ => 0)))] := hD
  refine va_putF (D := (dC, dI)) (ci := 0) (v := .ref q2) (ty := .array .int) (C := RX0) (T := TX0) (N := 4) hx hb hts hin tyX0 tyX0_ok nmX0 hown hK hP hD hS 0 rfl rfl 1 (by decide) (hts (.fieldLink RX0 13 "NameTable" "indexes" "[I") (by decide +kernel)) (fun _ h9 => h9) rfl hin2 rfl (by decide +kernel) rfl rfl (Nat.le_of_ble_eq_true rfl) dX0_init_19 (fun H locs hP hD hS => ?_)
  have hP : va_P (dC, dI) vwCl [(h0, .inr (0, [.ref q1, .ref q2, .null, .int 0])), (q1, .inl (cL, 900, .inr (.inl (fun _ => 0)))), (q2, .inl (cI, 900, .inl (fun _ => 0)))] H := hP
  have hD : va_D A [(h0, .inr (0, [.ref q1, .ref q2, .null, .int 0])), (q1, .inl (cL, 900, .inr (.inl (fun _ => 0)))), (q2, .inl (cI, 900, .inl (fun _ => 0)))] := hD
  refine lv_aload_n hx hb dX0_init_22 rfl (lv_at hl 0 rfl) ?_
  refine lv_sipush (v := nI 900) hx hb dX0_init_23 (by decide) ?_
  refine va_newa (atype := .int) (D := (dC, dI)) (ty := .int) (N' := 900) (a0 := (900, .inl (fun _ => 0))) hx hb (hts (.arrayClass .int) (by decide +kernel)) rfl hK hP hD hS hA nt_zi (nI_pos (by omega)) (nI_clamp (by omega)) (show 900 * 4 ≤ 536870912 by omega) (show 2 + 1 ≤ 3 by omega) (show 1800 + 900 ≤ 2700 by omega) dX0_init_26 (fun q3 cJ H hK hP hD hS => ?_)
  refine W.widen (k := 3) (n := 2700) (by omega) (by omega) ?_
  have hK : va_K (dC, dI) vwCl [(cL, .long), (cI, .int), (cJ, .int)] s := hK
  have hP : va_P (dC, dI) vwCl [(h0, .inr (0, [.ref q1, .ref q2, .null, .int 0])), (q1, .inl (cL, 900, .inr (.inl (fun _ => 0)))), (q2, .inl (cI, 900, .inl (fun _ => 0))), (q3, .inl (cJ, 900, .inl (fun _ => 0)))] H := hP
  have hD : va_D A [(h0, .inr (0, [.ref q1, .ref q2, .null, .int 0])), (q1, .inl (cL, 900, .inr (.inl (fun _ => 0)))), (q2, .inl (cI, 900, .inl (fun _ => 0))), (q3, .inl (cJ, 900, .inl (fun _ => 0)))] := hD
  refine va_putF (D := (dC, dI)) (ci := 0) (v := .ref q3) (ty := .array .int) (C := RX0) (T := TX0) (N := 4) hx hb hts hin tyX0 tyX0_ok nmX0 hown hK hP hD hS 0 rfl rfl 2 (by decide) (hts (.fieldLink RX0 17 "NameTable" "values" "[I") (by decide +kernel)) (fun _ h9 => h9) rfl hin2 rfl (by decide +kernel) rfl rfl (Nat.le_of_ble_eq_true rfl) dX0_init_28 (fun H locs hP hD hS => ?_)
  have hP : va_P (dC, dI) vwCl [(h0, .inr (0, [.ref q1, .ref q2, .ref q3, .int 0])), (q1, .inl (cL, 900, .inr (.inl (fun _ => 0)))), (q2, .inl (cI, 900, .inl (fun _ => 0))), (q3, .inl (cJ, 900, .inl (fun _ => 0)))] H := hP
  have hD : va_D A [(h0, .inr (0, [.ref q1, .ref q2, .ref q3, .int 0])), (q1, .inl (cL, 900, .inr (.inl (fun _ => 0)))), (q2, .inl (cI, 900, .inl (fun _ => 0))), (q3, .inl (cJ, 900, .inl (fun _ => 0)))] := hD
  refine lv_aload_n hx hb dX0_init_31 rfl (lv_at hl 0 rfl) ?_
  refine lv_iconst (v := 0) hx hb dX0_init_32 (by decide) ?_
  refine va_put (D := (dC, dI)) (ci := 0) (v := .int 0) (ty := .int) (C := RX0) (T := TX0) (N := 4) hx hb hts hin tyX0 tyX0_ok nmX0 hown hK hP hD hS 0 rfl rfl 3 (by decide) (hts (.fieldLink RX0 20 "NameTable" "count" "I") (by decide +kernel)) (fun _ h9 => h9) rfl (by decide +kernel) rfl rfl (Nat.le_of_ble_eq_true rfl) dX0_init_33 (fun H locs hP hD hS => ?_)
  have hP : va_P (dC, dI) vwCl (nt_w 0 h0 q1 q2 q3 cL cI cJ (fun _ => 0) (fun _ => 0) (fun _ => 0) 0) H := hP
  have hD : va_D A (nt_w 0 h0 q1 q2 q3 cL cI cJ (fun _ => 0) (fun _ => 0) (fun _ => 0) 0) := hD
  exact W.vret hx hb hr (fun t ht hW => ⟨⟨(q1, q2, q3, cL, cI, cJ), rfl, trivial, by rw [ht]; exact hP, va_K.moved hW.alike hK, hD⟩, hS.F ht⟩) hS.2.2 dX0_init_36
set_option maxHeartbeats 4000000 in
set_option maxRecDepth 100000 in
/-- promise 1: the constructor of NameTableModel -/
theorem kM_init (l : Launch) (dC : Nat → ClassId) (dI : Nat → Nat → Nat) (h0 sz : Nat) : Met l yX1_init wsX1_init ({ frames := 1, cells := 3, slots := 2700, locals := 40 } : Room) (va_Pc [.ref h0] (fun U => U.heap.size = sz ∧ va_P (dC, dI) vwCl [(h0, .inr (1, [.null, .null, .null, .int 0]))] U.heap ∧ va_K (dC, dI) vwCl [] U ∧ va_D (fun _ => True) [(h0, .inr (1, [.null, .null, .null, .int 0]))])) (va_Qv (fun (_ : nt_N) => True) (nt_new dC dI 1 h0 (va_A [(h0, .inr (1, [.null, .null, .null, .int 0]))] sz)) (va_A [(h0, .inr (1, [.null, .null, .null, .int 0]))] sz)) 3 2700 (va_A [(h0, .inr (1, [.null, .null, .null, .int 0]))] sz) := by
  refine Met.ofW (cc := cX1_init) (maxL := 1) (ret := none) (by decide) rfl ?_
  intro p e s m args below meth c s₁ B hml hv
  obtain ⟨rfl, hsz, hP, hK, hD0⟩ := hv
  have hx := B.exec
  have hb := B.bytes
  have hr := B.returns
  have hts := atoms_spec (ws := wsX1_init) B.pre
  have hown : s.vm.findClass RX1 = some m.cls := findClass_of_methodNamed B.named
  have hlocks := B.notSynchronized
  have hin2 : meth.name = "<init>" := (name_of_methodNamed B.named B.method).1
  subst hsz
  have hD := hD0.self (sz := s.heap.size)
  generalize hAe : va_A [(h0, .inr (1, [.null, .null, .null, .int 0]))] s.heap.size = A at hD ⊢
  have hA : ∀ q : Nat, s.heap.size ≤ q → A q := fun q h => by rw [← hAe]; exact Or.inr h
  have hS : va_S A s.heap s.heap [] := va_S.rf
  have hP : va_P (dC, dI) vwCl [(h0, .inr (1, [.null, .null, .null, .int 0]))] s.heap := hP
  have hin : ∀ w ∈ u_ws RX1 TX1 4, w ∈ wsX1_init := by decide +kernel
  have hl := lv_entry ([.ref h0]) (n := 1) (Nat.le_of_ble_eq_true rfl)
  rw [lg_entry_eq]
  generalize (lg_sl ([.ref h0]) ++ List.replicate (1 - (lg_sl ([.ref h0])).length) Slot.unset).toArray = ls at hl ⊢
  have hl : lv_has ls 1 [(0, .ref h0)] := hl
  refine lv_aload_n hx hb dX1_init_0 rfl (lv_at hl 0 rfl) ?_
  refine W.objInit hx hb hown (hts (.methodLink RX1 1 objectInit) (by decide +kernel)) (hts (.instanceMethod objectInit) (by decide +kernel)) (hts (.code objectInit ⟨#[0xb1]⟩ 1 none) (List.mem_cons_of_mem _ (List.mem_append_left _ (List.mem_of_getElem? (i := 2) rfl)))) rfl (by rw [hml]; exact hl.1) rfl dX1_init_1 (Nat.le_of_ble_eq_true rfl) (Nat.le_of_ble_eq_true rfl) ?_
  refine W.eq (g2 := F0 m 4 ls []) rfl ?_
  refine lv_aload_n hx hb dX1_init_4 rfl (lv_at hl 0 rfl) ?_
  refine lv_sipush (v := nI 900) hx hb dX1_init_5 (by decide) ?_
  refine va_newa (atype := .long) (D := (dC, dI)) (ty := .long) (N' := 900) (a0 := (900, .inr (.inl (fun _ => 0)))) hx hb (hts (.arrayClass .long) (by decide +kernel)) rfl hK hP hD hS hA nt_zl (nI_pos (by omega)) (nI_clamp (by omega)) (show 900 * 8 ≤ 536870912 by omega) (show 0 + 1 ≤ 3 by omega) (show 0 + 900 ≤ 2700 by omega) dX1_init_8 (fun q1 cL H hK hP hD hS => ?_)
  refine W.widen (k := 1) (n := 900) (by omega) (by omega) ?_
  have hK : va_K (dC, dI) vwCl [(cL, .long)] s := hK
  have hP : va_P (dC, dI) vwCl [(h0, .inr (1, [.null, .null, .null, .int 0])), (q1, .inl (cL, 900, .inr (.inl (fun _ => 0))))] H := hP
  have hD : va_D A [(h0, .inr (1, [.null, .null, .null, .int 0])), (q1, .inl (cL, 900, .inr (.inl (fun _ => 0))))] := hD
  refine va_putF (D := (dC, dI)) (ci := 1) (v := .ref q1) (ty := .array .long) (C := RX1) (T := TX1) (N := 4) hx hb hts hin tyX1 tyX1_ok nmX1 hown hK hP hD hS 0 rfl rfl 0 (by decide) (hts (.fieldLink RX1 9 "NameTableModel" "id" "[J") (by decide +kernel)) (fun _ h9 => h9) rfl hin2 rfl (by decide +kernel) rfl rfl (Nat.le_of_ble_eq_true rfl) dX1_init_10 (fun H locs hP hD hS => ?_)
  have hP : va_P (dC, dI) vwCl [(h0, .inr (1, [.ref q1, .null, .null, .int 0])), (q1, .inl (cL, 900, .inr (.inl (fun _ => 0))))] H := hP
  have hD : va_D A [(h0, .inr (1, [.ref q1, .null, .null, .int 0])), (q1, .inl (cL, 900, .inr (.inl (fun _ => 0))))] := hD
  refine lv_aload_n hx hb dX1_init_13 rfl (lv_at hl 0 rfl) ?_
  refine lv_sipush (v := nI 900) hx hb dX1_init_14 (by decide) ?_
  refine va_newa (atype := .int) (D := (dC, dI)) (ty := .int) (N' := 900) (a0 := (900, .inl (fun _ => 0))) hx hb (hts (.arrayClass .int) (by decide +kernel)) rfl hK hP hD hS hA nt_zi (nI_pos (by omega)) (nI_clamp (by omega)) (show 900 * 4 ≤ 536870912 by omega) (show 1 + 1 ≤ 3 by omega) (show 900 + 900 ≤ 2700 by omega) dX1_init_17 (fun q2 cI H hK hP hD hS => ?_)
  refine W.widen (k := 2) (n := 1800) (by omega) (by omega) ?_
  have hK : va_K (dC, dI) vwCl [(cL, .long), (cI, .int)] s := hK
  have hP : va_P (dC, dI) vwCl [(h0, .inr (1, [.ref q1, .null, .null, .int 0])), (q1, .inl (cL, 900, .inr (.inl (fun _ => 0)))), (q2, .inl (cI, 900, .inl (fun _ => 0)))] H := hP
  have hD : va_D A [(h0, .inr (1, [.ref q1, .null, .null, .int 0])), (q1, .inl (cL, 900, .inr (.inl (fun _ => 0)))), (q2, .inl (cI, 900, .inl (fun _ => 0)))] := hD
  refine va_putF (D := (dC, dI)) (ci := 1) (v := .ref q2) (ty := .array .int) (C := RX1) (T := TX1) (N := 4) hx hb hts hin tyX1 tyX1_ok nmX1 hown hK hP hD hS 0 rfl rfl 1 (by decide) (hts (.fieldLink RX1 13 "NameTableModel" "index" "[I") (by decide +kernel)) (fun _ h9 => h9) rfl hin2 rfl (by decide +kernel) rfl rfl (Nat.le_of_ble_eq_true rfl) dX1_init_19 (fun H locs hP hD hS => ?_)
  have hP : va_P (dC, dI) vwCl [(h0, .inr (1, [.ref q1, .ref q2, .null, .int 0])), (q1, .inl (cL, 900, .inr (.inl (fun _ => 0)))), (q2, .inl (cI, 900, .inl (fun _ => 0)))] H := hP
  have hD : va_D A [(h0, .inr (1, [.ref q1, .ref q2, .null, .int 0])), (q1, .inl (cL, 900, .inr (.inl (fun _ => 0)))), (q2, .inl (cI, 900, .inl (fun _ => 0)))] := hD
  refine lv_aload_n hx hb dX1_init_22 rfl (lv_at hl 0 rfl) ?_
  refine lv_sipush (v := nI 900) hx hb dX1_init_23 (by decide) ?_
  refine va_newa (atype := .int) (D := (dC, dI)) (ty := .int) (N' := 900) (a0 := (900, .inl (fun _ => 0))) hx hb (hts (.arrayClass .int) (by decide +kernel)) rfl hK hP hD hS hA nt_zi (nI_pos (by omega)) (nI_clamp (by omega)) (show 900 * 4 ≤ 536870912 by omega) (show 2 + 1 ≤ 3 by omega) (show 1800 + 900 ≤ 2700 by omega) dX1_init_26 (fun q3 cJ H hK hP hD hS => ?_)
  refine W.widen (k := 3) (n := 2700) (by omega) (by omega) ?_
  have hK : va_K (dC, dI) vwCl [(cL, .long), (cI, .int), (cJ, .int)] s := hK
  have hP : va_P (dC, dI) vwCl [(h0, .inr (1, [.ref q1, .ref q2, .null, .int 0])), (q1, .inl (cL, 900, .inr (.inl (fun _ => 0)))), (q2, .inl (cI, 900, .inl (fun _ => 0))), (q3, .inl (cJ, 900, .inl (fun _ => 0)))] H := hP
  have hD : va_D A [(h0, .inr (1, [.ref q1, .ref q2, .null, .int 0])), (q1, .inl (cL, 900, .inr (.inl (fun _ => 0)))), (q2, .inl (cI, 900, .inl (fun _ => 0))), (q3, .inl (cJ, 900, .inl (fun _ => 0)))] := hD
  refine va_putF (D := (dC, dI)) (ci := 1) (v := .ref q3) (ty := .array .int) (C := RX1) (T := TX1) (N := 4) hx hb hts hin tyX1 tyX1_ok nmX1 hown hK hP hD hS 0 rfl rfl 2 (by decide) (hts (.fieldLink RX1 17 "NameTableModel" "value" "[I") (by decide +kernel)) (fun _ h9 => h9) rfl hin2 rfl (by decide +kernel) rfl rfl (Nat.le_of_ble_eq_true rfl) dX1_init_28 (fun H locs hP hD hS => ?_)
  have hP : va_P (dC, dI) vwCl [(h0, .inr (1, [.ref q1, .ref q2, .ref q3, .int 0])), (q1, .inl (cL, 900, .inr (.inl (fun _ => 0)))), (q2, .inl (cI, 900, .inl (fun _ => 0))), (q3, .inl (cJ, 900, .inl (fun _ => 0)))] H := hP
  have hD : va_D A [(h0, .inr (1, [.ref q1, .ref q2, .ref q3, .int 0])), (q1, .inl (cL, 900, .inr (.inl (fun _ => 0)))), (q2, .inl (cI, 900, .inl (fun _ => 0))), (q3, .inl (cJ, 900, .inl (fun _ => 0)))] := hD
  have hP : va_P (dC, dI) vwCl (nt_w 1 h0 q1 q2 q3 cL cI cJ (fun _ => 0) (fun _ => 0) (fun _ => 0) 0) H := hP
  have hD : va_D A (nt_w 1 h0 q1 q2 q3 cL cI cJ (fun _ => 0) (fun _ => 0) (fun _ => 0) 0) := hD
  exact W.vret hx hb hr (fun t ht hW => ⟨⟨(q1, q2, q3, cL, cI, cJ), rfl, trivial, by rw [ht]; exact hP, va_K.moved hW.alike hK, hD⟩, hS.F ht⟩) hS.2.2 dX1_init_31
end
section
/-! THE CLAIM OUT OF ONE WALK OF THE LAW'S BODY. Your part is whole_start (and what it stands on); all else here is the same for every law, but numbers. -/
def R_law : String := "NameTableLaw"
def lw_P (b : Addr) (xs : List Int32) (args : Array Value) (s : State) : Prop := args = #[.ref b] ∧ s.IntsAt b xs ∧ xs.length ≤ 3584 ∧ (Jvm.Cond.and given_1 narrow_1).before args s = true
def lw_Q (_ : Array Value) (s : State) (o : Outcome) (t : State) : Prop := o = .returned (some (.int 1)) ∧ Framed s o t [] 8 5408
def lw_Z (below : List Frame) (a : Array Value) (s : State) : State → Prop := fun t => ∃ o, t.status = .running ∧ Ended t below o ∧ lw_Q a s o t
/-- the law's own end, with 1 on the stack, nothing written that was there before, its room as the claim has it -/
theorem lw_ret {p : Program} {l : Launch} {e : Env} {s : State} {m : MethodId} {below : List Frame} {meth : Method} {c : Code} {b : Nat} (hx : p.tables.exec = Jvm.exec) (hb : c.code = code) (hr : meth.sig.returnType = ret) (hlocks : meth.locks = false) {pc : Nat} {H : Heap} {ls : Array Slot} (hdg : decode code pc = .ok (.ireturn, 1)) : W p l e room_1 s m #[Value.ref b] below meth c H [] 8 5408 (lw_Z below #[Value.ref b] s) (F0 m pc ls [.int 1]) := by
  intro T hT X
  obtain ⟨fs, hret, hrun, hended, hW, hframe⟩ := X.leave (v := some (.int 1)) (hlocks := hlocks) (fun h => by rw [hr] at h; cases h)
  have hmeth' : T.vm.method? m = some meth := X.method'
  refine ⟨T.setFrames fs, ?_, .returned (some (.int 1)), hrun, hended, rfl, ⟨_, rfl⟩, hW, hframe⟩
  jvm_step X.here [X.here.top, hx, hb, hdg, hmeth', hr, ret, narrow_b1]
  (try refine ⟨rfl, ?_⟩); (try refine ⟨rfl, ?_⟩)
  first | (intro acts; rw [hret _ acts rfl rfl rfl]) | rw [hret _ _ rfl rfl rfl]
  exact Steps.refl _
/-- what holds at the law's entry: the machine, the code, the tables' words (any of lw_tbl by 'hts w (by decide +kernel)'), the script of L ints xs at the cell b, what the Statement gives of the start (any of its parts by flat_of_before) -/
def lw_At (p : Program) (s : State) (m : MethodId) (meth : Method) (c : Code) (b L : Nat) (xs : Nat → Int32) : Prop :=
  p.tables.exec = Jvm.exec ∧ c.code = code ∧ meth.sig.returnType = ret ∧ c.maxLocals = 4 ∧ s.vm.findClass R_law = some m.cls ∧ (∀ w ∈ lw_tbl, w.before #[Value.ref b] s = true) ∧ va_X b L xs s s.heap ∧ b < s.heap.size ∧ meth.locks = false ∧ (Jvm.Cond.and given_1 narrow_1).before #[Value.ref b] s = true
end
section
set_option maxHeartbeats 4000000 in
set_option maxRecDepth 100000 in
theorem lc_0 {p : Program} {e : Env} {s : State} {m : MethodId} {below : List Frame} {meth : Method} {c : Code} (l : Launch) {b L : Nat} {xs : Nat → Int32} (hL : L ≤ 3584) (C0 : lw_At p s m meth c b L xs) {dC : Nat → ClassId} {dI : Nat → Nat → Nat} {h0 q1 q2 q3 j0 k1 k2 k3 : Nat} {cL cI cJ eL eI eJ : ClassId} {f : Nat → Int64} {g h : Nat → Int32} {n : Nat} (hok : nt_ok (f, g, h, n)) (hK : va_K (dC, dI) vwCl (nt_ty cL cI cJ ++ nt_ty eL eI eJ) s) {A : Nat → Prop} (hA : ∀ q : Nat, s.heap.size ≤ q → A q) (hbA : ¬ A b) {H : Heap} {locs : List Loc} {ls : Array Slot} {i : Nat} (hi : i + 7 ≤ L) (hl : lv_has ls 4 [(0, .ref b), (1, .ref h0), (2, .ref j0), (3, .int (nI i))]) (hP : va_P (dC, dI) vwCl (nt_w 0 h0 q1 q2 q3 cL cI cJ f g h n ++ nt_w 1 j0 k1 k2 k3 eL eI eJ f g h n) H) (hD : va_D A (nt_w 0 h0 q1 q2 q3 cL cI cJ f g h n ++ nt_w 1 j0 k1 k2 k3 eL eI eJ f g h n)) (hS : va_S A s.heap H locs) {Q : State → Prop} (nx : ∀ (u : nt_S) (H : Heap) (locs : List Loc), nt_ok u → va_P (dC, dI) vwCl (nt_w 0 h0 q1 q2 q3 cL cI cJ u.1 u.2.1 u.2.2.1 u.2.2.2 ++ nt_w 1 j0 k1 k2 k3 eL eI eJ u.1 u.2.1 u.2.2.1 u.2.2.2) H → va_D A (nt_w 0 h0 q1 q2 q3 cL cI cJ u.1 u.2.1 u.2.2.1 u.2.2.2 ++ nt_w 1 j0 k1 k2 k3 eL eI eJ u.1 u.2.1 u.2.2.1 u.2.2.2) → va_S A s.heap H locs → W p l e room_1 s m #[Value.ref b] below meth c H locs 8 5408 Q (F0 m 495 ls [])) : W p l e room_1 s m #[Value.ref b] below meth c H locs 8 5408 Q (F0 m 84 ls []) := by
  obtain ⟨hx, hb, -, hml, hown, hts, hX, hbl, -, -⟩ := C0
  have hts := fun w h => hts w (wsL_law_in w h)
  have hn : n ≤ 900 := hok.1
  have hKX : va_K (dC, dI) vwCl (nt_ty cL cI cJ) s := hK.sub [0, 1, 2] rfl
  have hKM : va_K (dC, dI) vwCl (nt_ty eL eI eJ) s := hK.sub [3, 4, 5] rfl
  have hc13 := hts (.constantLong RL 13 4294967295) (by decide +kernel)
  refine lv_aload_n hx hb dL_law_84 rfl (lv_at hl 1 rfl) ?_
  refine lv_aload_n hx hb dL_law_85 rfl (lv_at hl 0 rfl) ?_
  refine lv_iload_n hx hb dL_law_86 rfl (lv_at hl 3 rfl) ?_
  refine lv_iconst (v := nI 1) hx hb dL_law_87 (by decide) ?_
  refine lv_iadd hx hb dL_law_88 ?_
  refine nt_top (y := nI (i + 1)) (nI_add i 1) ?_
  refine nt_sld hx hb hX hbl hbA hS (j := (i + 1)) (by omega) hL dL_law_89 ?_
  refine lv_i2l (v := (xs (i + 1)).toInt64) hx hb dL_law_90 rfl ?_
  refine lv_bipush (v := 32) hx hb dL_law_91 (by decide) ?_
  refine lv_lshl (v := ((xs (i + 1)).toInt64) <<< ((32 : Int32).toInt64 &&& 63)) hx hb dL_law_93 rfl ?_
  refine lv_aload_n hx hb dL_law_94 rfl (lv_at hl 0 rfl) ?_
  refine lv_iload_n hx hb dL_law_95 rfl (lv_at hl 3 rfl) ?_
  refine lv_iconst (v := nI 2) hx hb dL_law_96 (by decide) ?_
  refine lv_iadd hx hb dL_law_97 ?_
  refine nt_top (y := nI (i + 2)) (nI_add i 2) ?_
  refine nt_sld hx hb hX hbl hbA hS (j := (i + 2)) (by omega) hL dL_law_98 ?_
  refine lv_i2l (v := (xs (i + 2)).toInt64) hx hb dL_law_99 rfl ?_
  refine lv_ldc2 (v := 4294967295) hx hb hown hc13 dL_law_100 ?_
  refine lv_land hx hb dL_law_103 ?_
  refine lv_lor hx hb dL_law_104 ?_
  refine lv_aload_n hx hb dL_law_105 rfl (lv_at hl 0 rfl) ?_
  refine lv_iload_n hx hb dL_law_106 rfl (lv_at hl 3 rfl) ?_
  refine lv_iconst (v := nI 3) hx hb dL_law_107 (by decide) ?_
  refine lv_iadd hx hb dL_law_108 ?_
  refine nt_top (y := nI (i + 3)) (nI_add i 3) ?_
  refine nt_sld hx hb hX hbl hbA hS (j := (i + 3)) (by omega) hL dL_law_109 ?_
  refine lv_aload_n hx hb dL_law_110 rfl (lv_at hl 0 rfl) ?_
  refine lv_iload_n hx hb dL_law_111 rfl (lv_at hl 3 rfl) ?_
  refine lv_iconst (v := nI 4) hx hb dL_law_112 (by decide) ?_
  refine lv_iadd hx hb dL_law_113 ?_
  refine nt_top (y := nI (i + 4)) (nI_add i 4) ?_
  refine nt_sld hx hb hX hbl hbA hS (j := (i + 4)) (by omega) hL dL_law_114 ?_
  have hPc : va_P (dC, dI) vwCl (nt_w 0 h0 q1 q2 q3 cL cI cJ f g h n) H := hP.sub [0, 1, 2, 3] rfl
  have hDc : va_D A (nt_w 0 h0 q1 q2 q3 cL cI cJ f g h n) := hD.sub [0, 1, 2, 3] (by decide) rfl
  refine nt_calli2 (va_runV (As := [.long ((((xs (i + 1)).toInt64) <<< ((32 : Int32).toInt64 &&& 63)) ||| (((xs (i + 2)).toInt64) &&& 4294967295)), .int (xs (i + 3)), .int (xs (i + 4))]) (rest := []) ⟨hx, hb, hml, hown, hts⟩ (kX_add l dC dI h0 q1 q2 q3 _ cL cI cJ f g h n ((((xs (i + 1)).toInt64) <<< ((32 : Int32).toInt64 &&& 63)) ||| (((xs (i + 2)).toInt64) &&& 4294967295)) (xs (i + 3)) (xs (i + 4)) hok) (cwV 3 hts gL_law_X0_add rfl rfl rfl (by decide +kernel) ⟨Nat.le_of_ble_eq_true rfl, Nat.le_of_ble_eq_true rfl⟩) (nt_preV rfl hPc hKX hDc [.long ((((xs (i + 1)).toInt64) <<< ((32 : Int32).toInt64 &&& 63)) ||| (((xs (i + 2)).toInt64) &&& 4294967295)), .int (xs (i + 3)), .int (xs (i + 4))]) rfl rfl hl.1 rfl (lv_room (Nat.le_of_ble_eq_true rfl)) dL_law_115 ⟨Nat.le_of_ble_eq_true rfl, Nat.le_of_ble_eq_true rfl⟩) hP hD hS hA (fun r1 u1 H locs hp1 hP hD hS => ?_)
  refine lv_aload_n hx hb dL_law_118 rfl (lv_at hl 2 rfl) ?_
  refine lv_aload_n hx hb dL_law_119 rfl (lv_at hl 0 rfl) ?_
  refine lv_iload_n hx hb dL_law_120 rfl (lv_at hl 3 rfl) ?_
  refine lv_iconst (v := nI 1) hx hb dL_law_121 (by decide) ?_
  refine lv_iadd hx hb dL_law_122 ?_
  refine nt_top (y := nI (i + 1)) (nI_add i 1) ?_
  refine nt_sld hx hb hX hbl hbA hS (j := (i + 1)) (by omega) hL dL_law_123 ?_
  refine lv_i2l (v := (xs (i + 1)).toInt64) hx hb dL_law_124 rfl ?_
  refine lv_bipush (v := 32) hx hb dL_law_125 (by decide) ?_
  refine lv_lshl (v := ((xs (i + 1)).toInt64) <<< ((32 : Int32).toInt64 &&& 63)) hx hb dL_law_127 rfl ?_
  refine lv_aload_n hx hb dL_law_128 rfl (lv_at hl 0 rfl) ?_
  refine lv_iload_n hx hb dL_law_129 rfl (lv_at hl 3 rfl) ?_
  refine lv_iconst (v := nI 2) hx hb dL_law_130 (by decide) ?_
  refine lv_iadd hx hb dL_law_131 ?_
  refine nt_top (y := nI (i + 2)) (nI_add i 2) ?_
  refine nt_sld hx hb hX hbl hbA hS (j := (i + 2)) (by omega) hL dL_law_132 ?_
  refine lv_i2l (v := (xs (i + 2)).toInt64) hx hb dL_law_133 rfl ?_
  refine lv_ldc2 (v := 4294967295) hx hb hown hc13 dL_law_134 ?_
  refine lv_land hx hb dL_law_137 ?_
  refine lv_lor hx hb dL_law_138 ?_
  refine lv_aload_n hx hb dL_law_139 rfl (lv_at hl 0 rfl) ?_
  refine lv_iload_n hx hb dL_law_140 rfl (lv_at hl 3 rfl) ?_
  refine lv_iconst (v := nI 3) hx hb dL_law_141 (by decide) ?_
  refine lv_iadd hx hb dL_law_142 ?_
  refine nt_top (y := nI (i + 3)) (nI_add i 3) ?_
  refine nt_sld hx hb hX hbl hbA hS (j := (i + 3)) (by omega) hL dL_law_143 ?_
  refine lv_aload_n hx hb dL_law_144 rfl (lv_at hl 0 rfl) ?_
  refine lv_iload_n hx hb dL_law_145 rfl (lv_at hl 3 rfl) ?_
  refine lv_iconst (v := nI 4) hx hb dL_law_146 (by decide) ?_
  refine lv_iadd hx hb dL_law_147 ?_
  refine nt_top (y := nI (i + 4)) (nI_add i 4) ?_
  refine nt_sld hx hb hX hbl hbA hS (j := (i + 4)) (by omega) hL dL_law_148 ?_
  have hPc : va_P (dC, dI) vwCl (nt_w 1 j0 k1 k2 k3 eL eI eJ f g h n) H := hP.sub [0, 1, 2, 3] rfl
  have hDc : va_D A (nt_w 1 j0 k1 k2 k3 eL eI eJ f g h n) := hD.sub [0, 1, 2, 3] (by decide) rfl
  refine nt_calli2 (va_runV (As := [.long ((((xs (i + 1)).toInt64) <<< ((32 : Int32).toInt64 &&& 63)) ||| (((xs (i + 2)).toInt64) &&& 4294967295)), .int (xs (i + 3)), .int (xs (i + 4))]) (rest := [.int r1]) ⟨hx, hb, hml, hown, hts⟩ (kM_add l dC dI j0 k1 k2 k3 _ eL eI eJ f g h n ((((xs (i + 1)).toInt64) <<< ((32 : Int32).toInt64 &&& 63)) ||| (((xs (i + 2)).toInt64) &&& 4294967295)) (xs (i + 3)) (xs (i + 4)) hok) (cwV 3 hts gL_law_X1_add rfl rfl rfl (by decide +kernel) ⟨Nat.le_of_ble_eq_true rfl, Nat.le_of_ble_eq_true rfl⟩) (nt_preV rfl hPc hKM hDc [.long ((((xs (i + 1)).toInt64) <<< ((32 : Int32).toInt64 &&& 63)) ||| (((xs (i + 2)).toInt64) &&& 4294967295)), .int (xs (i + 3)), .int (xs (i + 4))]) rfl rfl hl.1 rfl (lv_room (Nat.le_of_ble_eq_true rfl)) dL_law_149 ⟨Nat.le_of_ble_eq_true rfl, Nat.le_of_ble_eq_true rfl⟩) hP hD hS hA (fun r2 u2 H locs hp2 hP hD hS => ?_)
  obtain ⟨rfl, rfl⟩ := Prod.mk.inj (hp1.trans hp2.symm)
  have hok2 : nt_ok u1 := by
    have h9 : u1 = (nt_add (f, g, h, n) ((((xs (i + 1)).toInt64) <<< ((32 : Int32).toInt64 &&& 63)) ||| (((xs (i + 2)).toInt64) &&& 4294967295)) (xs (i + 3)) (xs (i + 4))).2 := congrArg Prod.snd hp1
    rw [h9]
    exact nt_add_ok hok ((((xs (i + 1)).toInt64) <<< ((32 : Int32).toInt64 &&& 63)) ||| (((xs (i + 2)).toInt64) &&& 4294967295)) (xs (i + 3)) (xs (i + 4))
  refine lv_icmp_eq (tgt := 495) hx hb dL_law_152 (by decide) (fun _ => ?_) (fun h9 => absurd rfl h9)
  exact nx u1 H locs hok2 hP hD hS
set_option maxHeartbeats 4000000 in
set_option maxRecDepth 100000 in
theorem lc_1 {p : Program} {e : Env} {s : State} {m : MethodId} {below : List Frame} {meth : Method} {c : Code} (l : Launch) {b L : Nat} {xs : Nat → Int32} (hL : L ≤ 3584) (C0 : lw_At p s m meth c b L xs) {dC : Nat → ClassId} {dI : Nat → Nat → Nat} {h0 q1 q2 q3 j0 k1 k2 k3 : Nat} {cL cI cJ eL eI eJ : ClassId} {f : Nat → Int64} {g h : Nat → Int32} {n : Nat} (hok : nt_ok (f, g, h, n)) (hK : va_K (dC, dI) vwCl (nt_ty cL cI cJ ++ nt_ty eL eI eJ) s) {A : Nat → Prop} (hA : ∀ q : Nat, s.heap.size ≤ q → A q) (hbA : ¬ A b) {H : Heap} {locs : List Loc} {ls : Array Slot} {i : Nat} (hi : i + 7 ≤ L) (hl : lv_has ls 4 [(0, .ref b), (1, .ref h0), (2, .ref j0), (3, .int (nI i))]) (hP : va_P (dC, dI) vwCl (nt_w 0 h0 q1 q2 q3 cL cI cJ f g h n ++ nt_w 1 j0 k1 k2 k3 eL eI eJ f g h n) H) (hD : va_D A (nt_w 0 h0 q1 q2 q3 cL cI cJ f g h n ++ nt_w 1 j0 k1 k2 k3 eL eI eJ f g h n)) (hS : va_S A s.heap H locs) {Q : State → Prop} (nx : ∀ (u : nt_S) (H : Heap) (locs : List Loc), nt_ok u → va_P (dC, dI) vwCl (nt_w 0 h0 q1 q2 q3 cL cI cJ u.1 u.2.1 u.2.2.1 u.2.2.2 ++ nt_w 1 j0 k1 k2 k3 eL eI eJ u.1 u.2.1 u.2.2.1 u.2.2.2) H → va_D A (nt_w 0 h0 q1 q2 q3 cL cI cJ u.1 u.2.1 u.2.2.1 u.2.2.2 ++ nt_w 1 j0 k1 k2 k3 eL eI eJ u.1 u.2.1 u.2.2.1 u.2.2.2) → va_S A s.heap H locs → W p l e room_1 s m #[Value.ref b] below meth c H locs 8 5408 Q (F0 m 495 ls [])) : W p l e room_1 s m #[Value.ref b] below meth c H locs 8 5408 Q (F0 m 157 ls []) := by
  obtain ⟨hx, hb, -, hml, hown, hts, hX, hbl, -, -⟩ := C0
  have hts := fun w h => hts w (wsL_law_in w h)
  have hn : n ≤ 900 := hok.1
  have hKX : va_K (dC, dI) vwCl (nt_ty cL cI cJ) s := hK.sub [0, 1, 2] rfl
  have hKM : va_K (dC, dI) vwCl (nt_ty eL eI eJ) s := hK.sub [3, 4, 5] rfl
  have hc13 := hts (.constantLong RL 13 4294967295) (by decide +kernel)
  refine lv_aload_n hx hb dL_law_157 rfl (lv_at hl 1 rfl) ?_
  refine lv_aload_n hx hb dL_law_158 rfl (lv_at hl 0 rfl) ?_
  refine lv_iload_n hx hb dL_law_159 rfl (lv_at hl 3 rfl) ?_
  refine lv_iconst (v := nI 1) hx hb dL_law_160 (by decide) ?_
  refine lv_iadd hx hb dL_law_161 ?_
  refine nt_top (y := nI (i + 1)) (nI_add i 1) ?_
  refine nt_sld hx hb hX hbl hbA hS (j := (i + 1)) (by omega) hL dL_law_162 ?_
  refine lv_i2l (v := (xs (i + 1)).toInt64) hx hb dL_law_163 rfl ?_
  refine lv_bipush (v := 32) hx hb dL_law_164 (by decide) ?_
  refine lv_lshl (v := ((xs (i + 1)).toInt64) <<< ((32 : Int32).toInt64 &&& 63)) hx hb dL_law_166 rfl ?_
  refine lv_aload_n hx hb dL_law_167 rfl (lv_at hl 0 rfl) ?_
  refine lv_iload_n hx hb dL_law_168 rfl (lv_at hl 3 rfl) ?_
  refine lv_iconst (v := nI 2) hx hb dL_law_169 (by decide) ?_
  refine lv_iadd hx hb dL_law_170 ?_
  refine nt_top (y := nI (i + 2)) (nI_add i 2) ?_
  refine nt_sld hx hb hX hbl hbA hS (j := (i + 2)) (by omega) hL dL_law_171 ?_
  refine lv_i2l (v := (xs (i + 2)).toInt64) hx hb dL_law_172 rfl ?_
  refine lv_ldc2 (v := 4294967295) hx hb hown hc13 dL_law_173 ?_
  refine lv_land hx hb dL_law_176 ?_
  refine lv_lor hx hb dL_law_177 ?_
  refine lv_aload_n hx hb dL_law_178 rfl (lv_at hl 0 rfl) ?_
  refine lv_iload_n hx hb dL_law_179 rfl (lv_at hl 3 rfl) ?_
  refine lv_iconst (v := nI 3) hx hb dL_law_180 (by decide) ?_
  refine lv_iadd hx hb dL_law_181 ?_
  refine nt_top (y := nI (i + 3)) (nI_add i 3) ?_
  refine nt_sld hx hb hX hbl hbA hS (j := (i + 3)) (by omega) hL dL_law_182 ?_
  refine lv_i2l (v := (xs (i + 3)).toInt64) hx hb dL_law_183 rfl ?_
  refine lv_bipush (v := 32) hx hb dL_law_184 (by decide) ?_
  refine lv_lshl (v := ((xs (i + 3)).toInt64) <<< ((32 : Int32).toInt64 &&& 63)) hx hb dL_law_186 rfl ?_
  refine lv_aload_n hx hb dL_law_187 rfl (lv_at hl 0 rfl) ?_
  refine lv_iload_n hx hb dL_law_188 rfl (lv_at hl 3 rfl) ?_
  refine lv_iconst (v := nI 4) hx hb dL_law_189 (by decide) ?_
  refine lv_iadd hx hb dL_law_190 ?_
  refine nt_top (y := nI (i + 4)) (nI_add i 4) ?_
  refine nt_sld hx hb hX hbl hbA hS (j := (i + 4)) (by omega) hL dL_law_191 ?_
  refine lv_i2l (v := (xs (i + 4)).toInt64) hx hb dL_law_192 rfl ?_
  refine lv_ldc2 (v := 4294967295) hx hb hown hc13 dL_law_193 ?_
  refine lv_land hx hb dL_law_196 ?_
  refine lv_lor hx hb dL_law_197 ?_
  refine lv_aload_n hx hb dL_law_198 rfl (lv_at hl 0 rfl) ?_
  refine lv_iload_n hx hb dL_law_199 rfl (lv_at hl 3 rfl) ?_
  refine lv_iconst (v := nI 5) hx hb dL_law_200 (by decide) ?_
  refine lv_iadd hx hb dL_law_201 ?_
  refine nt_top (y := nI (i + 5)) (nI_add i 5) ?_
  refine nt_sld hx hb hX hbl hbA hS (j := (i + 5)) (by omega) hL dL_law_202 ?_
  refine lv_aload_n hx hb dL_law_203 rfl (lv_at hl 0 rfl) ?_
  refine lv_iload_n hx hb dL_law_204 rfl (lv_at hl 3 rfl) ?_
  refine lv_bipush (v := nI 6) hx hb dL_law_205 (by decide) ?_
  refine lv_iadd hx hb dL_law_207 ?_
  refine nt_top (y := nI (i + 6)) (nI_add i 6) ?_
  refine nt_sld hx hb hX hbl hbA hS (j := (i + 6)) (by omega) hL dL_law_208 ?_
  have hPc : va_P (dC, dI) vwCl (nt_w 0 h0 q1 q2 q3 cL cI cJ f g h n) H := hP.sub [0, 1, 2, 3] rfl
  have hDc : va_D A (nt_w 0 h0 q1 q2 q3 cL cI cJ f g h n) := hD.sub [0, 1, 2, 3] (by decide) rfl
  refine nt_calli2 (va_runV (As := [.long ((((xs (i + 1)).toInt64) <<< ((32 : Int32).toInt64 &&& 63)) ||| (((xs (i + 2)).toInt64) &&& 4294967295)), .long ((((xs (i + 3)).toInt64) <<< ((32 : Int32).toInt64 &&& 63)) ||| (((xs (i + 4)).toInt64) &&& 4294967295)), .int (xs (i + 5)), .int (xs (i + 6))]) (rest := []) ⟨hx, hb, hml, hown, hts⟩ (kX_some l dC dI h0 q1 q2 q3 _ cL cI cJ f g h n ((((xs (i + 1)).toInt64) <<< ((32 : Int32).toInt64 &&& 63)) ||| (((xs (i + 2)).toInt64) &&& 4294967295)) ((((xs (i + 3)).toInt64) <<< ((32 : Int32).toInt64 &&& 63)) ||| (((xs (i + 4)).toInt64) &&& 4294967295)) (xs (i + 5)) (xs (i + 6)) hok) (cwV 4 hts gL_law_X0_some rfl rfl rfl (by decide +kernel) ⟨Nat.le_of_ble_eq_true rfl, Nat.le_of_ble_eq_true rfl⟩) (nt_preV rfl hPc hKX hDc [.long ((((xs (i + 1)).toInt64) <<< ((32 : Int32).toInt64 &&& 63)) ||| (((xs (i + 2)).toInt64) &&& 4294967295)), .long ((((xs (i + 3)).toInt64) <<< ((32 : Int32).toInt64 &&& 63)) ||| (((xs (i + 4)).toInt64) &&& 4294967295)), .int (xs (i + 5)), .int (xs (i + 6))]) rfl rfl hl.1 rfl (lv_room (Nat.le_of_ble_eq_true rfl)) dL_law_209 ⟨Nat.le_of_ble_eq_true rfl, Nat.le_of_ble_eq_true rfl⟩) hP hD hS hA (fun r1 u1 H locs hp1 hP hD hS => ?_)
  refine lv_aload_n hx hb dL_law_212 rfl (lv_at hl 2 rfl) ?_
  refine lv_aload_n hx hb dL_law_213 rfl (lv_at hl 0 rfl) ?_
  refine lv_iload_n hx hb dL_law_214 rfl (lv_at hl 3 rfl) ?_
  refine lv_iconst (v := nI 1) hx hb dL_law_215 (by decide) ?_
  refine lv_iadd hx hb dL_law_216 ?_
  refine nt_top (y := nI (i + 1)) (nI_add i 1) ?_
  refine nt_sld hx hb hX hbl hbA hS (j := (i + 1)) (by omega) hL dL_law_217 ?_
  refine lv_i2l (v := (xs (i + 1)).toInt64) hx hb dL_law_218 rfl ?_
  refine lv_bipush (v := 32) hx hb dL_law_219 (by decide) ?_
  refine lv_lshl (v := ((xs (i + 1)).toInt64) <<< ((32 : Int32).toInt64 &&& 63)) hx hb dL_law_221 rfl ?_
  refine lv_aload_n hx hb dL_law_222 rfl (lv_at hl 0 rfl) ?_
  refine lv_iload_n hx hb dL_law_223 rfl (lv_at hl 3 rfl) ?_
  refine lv_iconst (v := nI 2) hx hb dL_law_224 (by decide) ?_
  refine lv_iadd hx hb dL_law_225 ?_
  refine nt_top (y := nI (i + 2)) (nI_add i 2) ?_
  refine nt_sld hx hb hX hbl hbA hS (j := (i + 2)) (by omega) hL dL_law_226 ?_
  refine lv_i2l (v := (xs (i + 2)).toInt64) hx hb dL_law_227 rfl ?_
  refine lv_ldc2 (v := 4294967295) hx hb hown hc13 dL_law_228 ?_
  refine lv_land hx hb dL_law_231 ?_
  refine lv_lor hx hb dL_law_232 ?_
  refine lv_aload_n hx hb dL_law_233 rfl (lv_at hl 0 rfl) ?_
  refine lv_iload_n hx hb dL_law_234 rfl (lv_at hl 3 rfl) ?_
  refine lv_iconst (v := nI 3) hx hb dL_law_235 (by decide) ?_
  refine lv_iadd hx hb dL_law_236 ?_
  refine nt_top (y := nI (i + 3)) (nI_add i 3) ?_
  refine nt_sld hx hb hX hbl hbA hS (j := (i + 3)) (by omega) hL dL_law_237 ?_
  refine lv_i2l (v := (xs (i + 3)).toInt64) hx hb dL_law_238 rfl ?_
  refine lv_bipush (v := 32) hx hb dL_law_239 (by decide) ?_
  refine lv_lshl (v := ((xs (i + 3)).toInt64) <<< ((32 : Int32).toInt64 &&& 63)) hx hb dL_law_241 rfl ?_
  refine lv_aload_n hx hb dL_law_242 rfl (lv_at hl 0 rfl) ?_
  refine lv_iload_n hx hb dL_law_243 rfl (lv_at hl 3 rfl) ?_
  refine lv_iconst (v := nI 4) hx hb dL_law_244 (by decide) ?_
  refine lv_iadd hx hb dL_law_245 ?_
  refine nt_top (y := nI (i + 4)) (nI_add i 4) ?_
  refine nt_sld hx hb hX hbl hbA hS (j := (i + 4)) (by omega) hL dL_law_246 ?_
  refine lv_i2l (v := (xs (i + 4)).toInt64) hx hb dL_law_247 rfl ?_
  refine lv_ldc2 (v := 4294967295) hx hb hown hc13 dL_law_248 ?_
  refine lv_land hx hb dL_law_251 ?_
  refine lv_lor hx hb dL_law_252 ?_
  refine lv_aload_n hx hb dL_law_253 rfl (lv_at hl 0 rfl) ?_
  refine lv_iload_n hx hb dL_law_254 rfl (lv_at hl 3 rfl) ?_
  refine lv_iconst (v := nI 5) hx hb dL_law_255 (by decide) ?_
  refine lv_iadd hx hb dL_law_256 ?_
  refine nt_top (y := nI (i + 5)) (nI_add i 5) ?_
  refine nt_sld hx hb hX hbl hbA hS (j := (i + 5)) (by omega) hL dL_law_257 ?_
  refine lv_aload_n hx hb dL_law_258 rfl (lv_at hl 0 rfl) ?_
  refine lv_iload_n hx hb dL_law_259 rfl (lv_at hl 3 rfl) ?_
  refine lv_bipush (v := nI 6) hx hb dL_law_260 (by decide) ?_
  refine lv_iadd hx hb dL_law_262 ?_
  refine nt_top (y := nI (i + 6)) (nI_add i 6) ?_
  refine nt_sld hx hb hX hbl hbA hS (j := (i + 6)) (by omega) hL dL_law_263 ?_
  have hPc : va_P (dC, dI) vwCl (nt_w 1 j0 k1 k2 k3 eL eI eJ f g h n) H := hP.sub [0, 1, 2, 3] rfl
  have hDc : va_D A (nt_w 1 j0 k1 k2 k3 eL eI eJ f g h n) := hD.sub [0, 1, 2, 3] (by decide) rfl
  refine nt_calli2 (va_runV (As := [.long ((((xs (i + 1)).toInt64) <<< ((32 : Int32).toInt64 &&& 63)) ||| (((xs (i + 2)).toInt64) &&& 4294967295)), .long ((((xs (i + 3)).toInt64) <<< ((32 : Int32).toInt64 &&& 63)) ||| (((xs (i + 4)).toInt64) &&& 4294967295)), .int (xs (i + 5)), .int (xs (i + 6))]) (rest := [.int r1]) ⟨hx, hb, hml, hown, hts⟩ (kM_some l dC dI j0 k1 k2 k3 _ eL eI eJ f g h n ((((xs (i + 1)).toInt64) <<< ((32 : Int32).toInt64 &&& 63)) ||| (((xs (i + 2)).toInt64) &&& 4294967295)) ((((xs (i + 3)).toInt64) <<< ((32 : Int32).toInt64 &&& 63)) ||| (((xs (i + 4)).toInt64) &&& 4294967295)) (xs (i + 5)) (xs (i + 6)) hok) (cwV 4 hts gL_law_X1_some rfl rfl rfl (by decide +kernel) ⟨Nat.le_of_ble_eq_true rfl, Nat.le_of_ble_eq_true rfl⟩) (nt_preV rfl hPc hKM hDc [.long ((((xs (i + 1)).toInt64) <<< ((32 : Int32).toInt64 &&& 63)) ||| (((xs (i + 2)).toInt64) &&& 4294967295)), .long ((((xs (i + 3)).toInt64) <<< ((32 : Int32).toInt64 &&& 63)) ||| (((xs (i + 4)).toInt64) &&& 4294967295)), .int (xs (i + 5)), .int (xs (i + 6))]) rfl rfl hl.1 rfl (lv_room (Nat.le_of_ble_eq_true rfl)) dL_law_264 ⟨Nat.le_of_ble_eq_true rfl, Nat.le_of_ble_eq_true rfl⟩) hP hD hS hA (fun r2 u2 H locs hp2 hP hD hS => ?_)
  obtain ⟨rfl, rfl⟩ := Prod.mk.inj (hp1.trans hp2.symm)
  have hok2 : nt_ok u1 := by
    have h9 : u1 = (nt_some (f, g, h, n) ((((xs (i + 1)).toInt64) <<< ((32 : Int32).toInt64 &&& 63)) ||| (((xs (i + 2)).toInt64) &&& 4294967295)) ((((xs (i + 3)).toInt64) <<< ((32 : Int32).toInt64 &&& 63)) ||| (((xs (i + 4)).toInt64) &&& 4294967295)) (xs (i + 5)) (xs (i + 6))).2 := congrArg Prod.snd hp1
    rw [h9]
    exact nt_some_ok hok ((((xs (i + 1)).toInt64) <<< ((32 : Int32).toInt64 &&& 63)) ||| (((xs (i + 2)).toInt64) &&& 4294967295)) ((((xs (i + 3)).toInt64) <<< ((32 : Int32).toInt64 &&& 63)) ||| (((xs (i + 4)).toInt64) &&& 4294967295)) (xs (i + 5)) (xs (i + 6))
  refine lv_icmp_eq (tgt := 495) hx hb dL_law_267 (by decide) (fun _ => ?_) (fun h9 => absurd rfl h9)
  exact nx u1 H locs hok2 hP hD hS
end
section
set_option maxHeartbeats 4000000 in
set_option maxRecDepth 100000 in
theorem lc_2 {p : Program} {e : Env} {s : State} {m : MethodId} {below : List Frame} {meth : Method} {c : Code} (l : Launch) {b L : Nat} {xs : Nat → Int32} (hL : L ≤ 3584) (C0 : lw_At p s m meth c b L xs) {dC : Nat → ClassId} {dI : Nat → Nat → Nat} {h0 q1 q2 q3 j0 k1 k2 k3 : Nat} {cL cI cJ eL eI eJ : ClassId} {f : Nat → Int64} {g h : Nat → Int32} {n : Nat} (hok : nt_ok (f, g, h, n)) (hK : va_K (dC, dI) vwCl (nt_ty cL cI cJ ++ nt_ty eL eI eJ) s) {A : Nat → Prop} (hA : ∀ q : Nat, s.heap.size ≤ q → A q) (hbA : ¬ A b) {H : Heap} {locs : List Loc} {ls : Array Slot} {i : Nat} (hi : i + 7 ≤ L) (hl : lv_has ls 4 [(0, .ref b), (1, .ref h0), (2, .ref j0), (3, .int (nI i))]) (hP : va_P (dC, dI) vwCl (nt_w 0 h0 q1 q2 q3 cL cI cJ f g h n ++ nt_w 1 j0 k1 k2 k3 eL eI eJ f g h n) H) (hD : va_D A (nt_w 0 h0 q1 q2 q3 cL cI cJ f g h n ++ nt_w 1 j0 k1 k2 k3 eL eI eJ f g h n)) (hS : va_S A s.heap H locs) {Q : State → Prop} (nx : ∀ (u : nt_S) (H : Heap) (locs : List Loc), nt_ok u → va_P (dC, dI) vwCl (nt_w 0 h0 q1 q2 q3 cL cI cJ u.1 u.2.1 u.2.2.1 u.2.2.2 ++ nt_w 1 j0 k1 k2 k3 eL eI eJ u.1 u.2.1 u.2.2.1 u.2.2.2) H → va_D A (nt_w 0 h0 q1 q2 q3 cL cI cJ u.1 u.2.1 u.2.2.1 u.2.2.2 ++ nt_w 1 j0 k1 k2 k3 eL eI eJ u.1 u.2.1 u.2.2.1 u.2.2.2) → va_S A s.heap H locs → W p l e room_1 s m #[Value.ref b] below meth c H locs 8 5408 Q (F0 m 495 ls [])) : W p l e room_1 s m #[Value.ref b] below meth c H locs 8 5408 Q (F0 m 272 ls []) := by
  obtain ⟨hx, hb, -, hml, hown, hts, hX, hbl, -, -⟩ := C0
  have hts := fun w h => hts w (wsL_law_in w h)
  have hn : n ≤ 900 := hok.1
  have hKX : va_K (dC, dI) vwCl (nt_ty cL cI cJ) s := hK.sub [0, 1, 2] rfl
  have hKM : va_K (dC, dI) vwCl (nt_ty eL eI eJ) s := hK.sub [3, 4, 5] rfl
  have hc13 := hts (.constantLong RL 13 4294967295) (by decide +kernel)
  refine lv_aload_n hx hb dL_law_272 rfl (lv_at hl 1 rfl) ?_
  refine lv_aload_n hx hb dL_law_273 rfl (lv_at hl 0 rfl) ?_
  refine lv_iload_n hx hb dL_law_274 rfl (lv_at hl 3 rfl) ?_
  refine lv_iconst (v := nI 1) hx hb dL_law_275 (by decide) ?_
  refine lv_iadd hx hb dL_law_276 ?_
  refine nt_top (y := nI (i + 1)) (nI_add i 1) ?_
  refine nt_sld hx hb hX hbl hbA hS (j := (i + 1)) (by omega) hL dL_law_277 ?_
  refine lv_i2l (v := (xs (i + 1)).toInt64) hx hb dL_law_278 rfl ?_
  refine lv_bipush (v := 32) hx hb dL_law_279 (by decide) ?_
  refine lv_lshl (v := ((xs (i + 1)).toInt64) <<< ((32 : Int32).toInt64 &&& 63)) hx hb dL_law_281 rfl ?_
  refine lv_aload_n hx hb dL_law_282 rfl (lv_at hl 0 rfl) ?_
  refine lv_iload_n hx hb dL_law_283 rfl (lv_at hl 3 rfl) ?_
  refine lv_iconst (v := nI 2) hx hb dL_law_284 (by decide) ?_
  refine lv_iadd hx hb dL_law_285 ?_
  refine nt_top (y := nI (i + 2)) (nI_add i 2) ?_
  refine nt_sld hx hb hX hbl hbA hS (j := (i + 2)) (by omega) hL dL_law_286 ?_
  refine lv_i2l (v := (xs (i + 2)).toInt64) hx hb dL_law_287 rfl ?_
  refine lv_ldc2 (v := 4294967295) hx hb hown hc13 dL_law_288 ?_
  refine lv_land hx hb dL_law_291 ?_
  refine lv_lor hx hb dL_law_292 ?_
  refine lv_aload_n hx hb dL_law_293 rfl (lv_at hl 0 rfl) ?_
  refine lv_iload_n hx hb dL_law_294 rfl (lv_at hl 3 rfl) ?_
  refine lv_iconst (v := nI 3) hx hb dL_law_295 (by decide) ?_
  refine lv_iadd hx hb dL_law_296 ?_
  refine nt_top (y := nI (i + 3)) (nI_add i 3) ?_
  refine nt_sld hx hb hX hbl hbA hS (j := (i + 3)) (by omega) hL dL_law_297 ?_
  have hPc : va_P (dC, dI) vwCl (nt_w 0 h0 q1 q2 q3 cL cI cJ f g h n) H := hP.sub [0, 1, 2, 3] rfl
  have hDc : va_D A (nt_w 0 h0 q1 q2 q3 cL cI cJ f g h n) := hD.sub [0, 1, 2, 3] (by decide) rfl
  refine nt_calli2 (va_runV (As := [.long ((((xs (i + 1)).toInt64) <<< ((32 : Int32).toInt64 &&& 63)) ||| (((xs (i + 2)).toInt64) &&& 4294967295)), .int (xs (i + 3))]) (rest := []) ⟨hx, hb, hml, hown, hts⟩ (kX_remove l dC dI h0 q1 q2 q3 _ cL cI cJ f g h n ((((xs (i + 1)).toInt64) <<< ((32 : Int32).toInt64 &&& 63)) ||| (((xs (i + 2)).toInt64) &&& 4294967295)) (xs (i + 3)) hok) (cwV 2 hts gL_law_X0_remove rfl rfl rfl (by decide +kernel) ⟨Nat.le_of_ble_eq_true rfl, Nat.le_of_ble_eq_true rfl⟩) (nt_preV rfl hPc hKX hDc [.long ((((xs (i + 1)).toInt64) <<< ((32 : Int32).toInt64 &&& 63)) ||| (((xs (i + 2)).toInt64) &&& 4294967295)), .int (xs (i + 3))]) rfl rfl hl.1 rfl (lv_room (Nat.le_of_ble_eq_true rfl)) dL_law_298 ⟨Nat.le_of_ble_eq_true rfl, Nat.le_of_ble_eq_true rfl⟩) hP hD hS hA (fun r1 u1 H locs hp1 hP hD hS => ?_)
  refine lv_aload_n hx hb dL_law_301 rfl (lv_at hl 2 rfl) ?_
  refine lv_aload_n hx hb dL_law_302 rfl (lv_at hl 0 rfl) ?_
  refine lv_iload_n hx hb dL_law_303 rfl (lv_at hl 3 rfl) ?_
  refine lv_iconst (v := nI 1) hx hb dL_law_304 (by decide) ?_
  refine lv_iadd hx hb dL_law_305 ?_
  refine nt_top (y := nI (i + 1)) (nI_add i 1) ?_
  refine nt_sld hx hb hX hbl hbA hS (j := (i + 1)) (by omega) hL dL_law_306 ?_
  refine lv_i2l (v := (xs (i + 1)).toInt64) hx hb dL_law_307 rfl ?_
  refine lv_bipush (v := 32) hx hb dL_law_308 (by decide) ?_
  refine lv_lshl (v := ((xs (i + 1)).toInt64) <<< ((32 : Int32).toInt64 &&& 63)) hx hb dL_law_310 rfl ?_
  refine lv_aload_n hx hb dL_law_311 rfl (lv_at hl 0 rfl) ?_
  refine lv_iload_n hx hb dL_law_312 rfl (lv_at hl 3 rfl) ?_
  refine lv_iconst (v := nI 2) hx hb dL_law_313 (by decide) ?_
  refine lv_iadd hx hb dL_law_314 ?_
  refine nt_top (y := nI (i + 2)) (nI_add i 2) ?_
  refine nt_sld hx hb hX hbl hbA hS (j := (i + 2)) (by omega) hL dL_law_315 ?_
  refine lv_i2l (v := (xs (i + 2)).toInt64) hx hb dL_law_316 rfl ?_
  refine lv_ldc2 (v := 4294967295) hx hb hown hc13 dL_law_317 ?_
  refine lv_land hx hb dL_law_320 ?_
  refine lv_lor hx hb dL_law_321 ?_
  refine lv_aload_n hx hb dL_law_322 rfl (lv_at hl 0 rfl) ?_
  refine lv_iload_n hx hb dL_law_323 rfl (lv_at hl 3 rfl) ?_
  refine lv_iconst (v := nI 3) hx hb dL_law_324 (by decide) ?_
  refine lv_iadd hx hb dL_law_325 ?_
  refine nt_top (y := nI (i + 3)) (nI_add i 3) ?_
  refine nt_sld hx hb hX hbl hbA hS (j := (i + 3)) (by omega) hL dL_law_326 ?_
  have hPc : va_P (dC, dI) vwCl (nt_w 1 j0 k1 k2 k3 eL eI eJ f g h n) H := hP.sub [0, 1, 2, 3] rfl
  have hDc : va_D A (nt_w 1 j0 k1 k2 k3 eL eI eJ f g h n) := hD.sub [0, 1, 2, 3] (by decide) rfl
  refine nt_calli2 (va_runV (As := [.long ((((xs (i + 1)).toInt64) <<< ((32 : Int32).toInt64 &&& 63)) ||| (((xs (i + 2)).toInt64) &&& 4294967295)), .int (xs (i + 3))]) (rest := [.int r1]) ⟨hx, hb, hml, hown, hts⟩ (kM_remove l dC dI j0 k1 k2 k3 _ eL eI eJ f g h n ((((xs (i + 1)).toInt64) <<< ((32 : Int32).toInt64 &&& 63)) ||| (((xs (i + 2)).toInt64) &&& 4294967295)) (xs (i + 3)) hok) (cwV 2 hts gL_law_X1_remove rfl rfl rfl (by decide +kernel) ⟨Nat.le_of_ble_eq_true rfl, Nat.le_of_ble_eq_true rfl⟩) (nt_preV rfl hPc hKM hDc [.long ((((xs (i + 1)).toInt64) <<< ((32 : Int32).toInt64 &&& 63)) ||| (((xs (i + 2)).toInt64) &&& 4294967295)), .int (xs (i + 3))]) rfl rfl hl.1 rfl (lv_room (Nat.le_of_ble_eq_true rfl)) dL_law_327 ⟨Nat.le_of_ble_eq_true rfl, Nat.le_of_ble_eq_true rfl⟩) hP hD hS hA (fun r2 u2 H locs hp2 hP hD hS => ?_)
  obtain ⟨rfl, rfl⟩ := Prod.mk.inj (hp1.trans hp2.symm)
  have hok2 : nt_ok u1 := by
    have h9 : u1 = (nt_rem (f, g, h, n) ((((xs (i + 1)).toInt64) <<< ((32 : Int32).toInt64 &&& 63)) ||| (((xs (i + 2)).toInt64) &&& 4294967295)) (xs (i + 3))).2 := congrArg Prod.snd hp1
    rw [h9]
    exact nt_rem_ok hok ((((xs (i + 1)).toInt64) <<< ((32 : Int32).toInt64 &&& 63)) ||| (((xs (i + 2)).toInt64) &&& 4294967295)) (xs (i + 3))
  refine lv_icmp_eq (tgt := 495) hx hb dL_law_330 (by decide) (fun _ => ?_) (fun h9 => absurd rfl h9)
  exact nx u1 H locs hok2 hP hD hS
set_option maxHeartbeats 4000000 in
set_option maxRecDepth 100000 in
theorem lc_3 {p : Program} {e : Env} {s : State} {m : MethodId} {below : List Frame} {meth : Method} {c : Code} (l : Launch) {b L : Nat} {xs : Nat → Int32} (hL : L ≤ 3584) (C0 : lw_At p s m meth c b L xs) {dC : Nat → ClassId} {dI : Nat → Nat → Nat} {h0 q1 q2 q3 j0 k1 k2 k3 : Nat} {cL cI cJ eL eI eJ : ClassId} {f : Nat → Int64} {g h : Nat → Int32} {n : Nat} (hok : nt_ok (f, g, h, n)) (hK : va_K (dC, dI) vwCl (nt_ty cL cI cJ ++ nt_ty eL eI eJ) s) {A : Nat → Prop} (hA : ∀ q : Nat, s.heap.size ≤ q → A q) (hbA : ¬ A b) {H : Heap} {locs : List Loc} {ls : Array Slot} {i : Nat} (hi : i + 7 ≤ L) (hl : lv_has ls 4 [(0, .ref b), (1, .ref h0), (2, .ref j0), (3, .int (nI i))]) (hP : va_P (dC, dI) vwCl (nt_w 0 h0 q1 q2 q3 cL cI cJ f g h n ++ nt_w 1 j0 k1 k2 k3 eL eI eJ f g h n) H) (hD : va_D A (nt_w 0 h0 q1 q2 q3 cL cI cJ f g h n ++ nt_w 1 j0 k1 k2 k3 eL eI eJ f g h n)) (hS : va_S A s.heap H locs) {Q : State → Prop} (nx : ∀ (u : nt_S) (H : Heap) (locs : List Loc), nt_ok u → va_P (dC, dI) vwCl (nt_w 0 h0 q1 q2 q3 cL cI cJ u.1 u.2.1 u.2.2.1 u.2.2.2 ++ nt_w 1 j0 k1 k2 k3 eL eI eJ u.1 u.2.1 u.2.2.1 u.2.2.2) H → va_D A (nt_w 0 h0 q1 q2 q3 cL cI cJ u.1 u.2.1 u.2.2.1 u.2.2.2 ++ nt_w 1 j0 k1 k2 k3 eL eI eJ u.1 u.2.1 u.2.2.1 u.2.2.2) → va_S A s.heap H locs → W p l e room_1 s m #[Value.ref b] below meth c H locs 8 5408 Q (F0 m 495 ls [])) : W p l e room_1 s m #[Value.ref b] below meth c H locs 8 5408 Q (F0 m 335 ls []) := by
  obtain ⟨hx, hb, -, hml, hown, hts, hX, hbl, -, -⟩ := C0
  have hts := fun w h => hts w (wsL_law_in w h)
  have hn : n ≤ 900 := hok.1
  have hKX : va_K (dC, dI) vwCl (nt_ty cL cI cJ) s := hK.sub [0, 1, 2] rfl
  have hKM : va_K (dC, dI) vwCl (nt_ty eL eI eJ) s := hK.sub [3, 4, 5] rfl
  refine lv_aload_n hx hb dL_law_335 rfl (lv_at hl 1 rfl) ?_
  refine lv_aload_n hx hb dL_law_336 rfl (lv_at hl 0 rfl) ?_
  refine lv_iload_n hx hb dL_law_337 rfl (lv_at hl 3 rfl) ?_
  refine lv_iconst (v := nI 1) hx hb dL_law_338 (by decide) ?_
  refine lv_iadd hx hb dL_law_339 ?_
  refine nt_top (y := nI (i + 1)) (nI_add i 1) ?_
  refine nt_sld hx hb hX hbl hbA hS (j := (i + 1)) (by omega) hL dL_law_340 ?_
  have hPc : va_P (dC, dI) vwCl (nt_w 0 h0 q1 q2 q3 cL cI cJ f g h n) H := hP.sub [0, 1, 2, 3] rfl
  have hDc : va_D A (nt_w 0 h0 q1 q2 q3 cL cI cJ f g h n) := hD.sub [0, 1, 2, 3] (by decide) rfl
  refine nt_calli2 (va_runV (As := [.int (xs (i + 1))]) (rest := []) ⟨hx, hb, hml, hown, hts⟩ (kX_take l dC dI h0 q1 q2 q3 _ cL cI cJ f g h n (xs (i + 1)) hn) (cwV 1 hts gL_law_X0_take rfl rfl rfl (by decide +kernel) ⟨Nat.le_of_ble_eq_true rfl, Nat.le_of_ble_eq_true rfl⟩) (nt_preV rfl hPc hKX hDc [.int (xs (i + 1))]) rfl rfl hl.1 rfl (lv_room (Nat.le_of_ble_eq_true rfl)) dL_law_341 ⟨Nat.le_of_ble_eq_true rfl, Nat.le_of_ble_eq_true rfl⟩) hP hD hS hA (fun r1 u1 H locs hp1 hP hD hS => ?_)
  refine lv_aload_n hx hb dL_law_344 rfl (lv_at hl 2 rfl) ?_
  refine lv_aload_n hx hb dL_law_345 rfl (lv_at hl 0 rfl) ?_
  refine lv_iload_n hx hb dL_law_346 rfl (lv_at hl 3 rfl) ?_
  refine lv_iconst (v := nI 1) hx hb dL_law_347 (by decide) ?_
  refine lv_iadd hx hb dL_law_348 ?_
  refine nt_top (y := nI (i + 1)) (nI_add i 1) ?_
  refine nt_sld hx hb hX hbl hbA hS (j := (i + 1)) (by omega) hL dL_law_349 ?_
  have hPc : va_P (dC, dI) vwCl (nt_w 1 j0 k1 k2 k3 eL eI eJ f g h n) H := hP.sub [0, 1, 2, 3] rfl
  have hDc : va_D A (nt_w 1 j0 k1 k2 k3 eL eI eJ f g h n) := hD.sub [0, 1, 2, 3] (by decide) rfl
  refine nt_calli2 (va_runV (As := [.int (xs (i + 1))]) (rest := [.int r1]) ⟨hx, hb, hml, hown, hts⟩ (kM_take l dC dI j0 k1 k2 k3 _ eL eI eJ f g h n (xs (i + 1)) hn) (cwV 1 hts gL_law_X1_take rfl rfl rfl (by decide +kernel) ⟨Nat.le_of_ble_eq_true rfl, Nat.le_of_ble_eq_true rfl⟩) (nt_preV rfl hPc hKM hDc [.int (xs (i + 1))]) rfl rfl hl.1 rfl (lv_room (Nat.le_of_ble_eq_true rfl)) dL_law_350 ⟨Nat.le_of_ble_eq_true rfl, Nat.le_of_ble_eq_true rfl⟩) hP hD hS hA (fun r2 u2 H locs hp2 hP hD hS => ?_)
  obtain ⟨rfl, rfl⟩ := Prod.mk.inj (hp1.trans hp2.symm)
  have hok2 : nt_ok u1 := by
    have h9 : u1 = (nt_take (f, g, h, n) (xs (i + 1))).2 := congrArg Prod.snd hp1
    rw [h9]
    exact nt_take_ok hok (xs (i + 1))
  refine lv_icmp_eq (tgt := 495) hx hb dL_law_353 (by decide) (fun _ => ?_) (fun h9 => absurd rfl h9)
  exact nx u1 H locs hok2 hP hD hS
set_option maxHeartbeats 4000000 in
set_option maxRecDepth 100000 in
theorem lc_4 {p : Program} {e : Env} {s : State} {m : MethodId} {below : List Frame} {meth : Method} {c : Code} (l : Launch) {b L : Nat} {xs : Nat → Int32} (hL : L ≤ 3584) (C0 : lw_At p s m meth c b L xs) {dC : Nat → ClassId} {dI : Nat → Nat → Nat} {h0 q1 q2 q3 j0 k1 k2 k3 : Nat} {cL cI cJ eL eI eJ : ClassId} {f : Nat → Int64} {g h : Nat → Int32} {n : Nat} (hok : nt_ok (f, g, h, n)) (hK : va_K (dC, dI) vwCl (nt_ty cL cI cJ ++ nt_ty eL eI eJ) s) {A : Nat → Prop} (hA : ∀ q : Nat, s.heap.size ≤ q → A q) (hbA : ¬ A b) {H : Heap} {locs : List Loc} {ls : Array Slot} {i : Nat} (hi : i + 7 ≤ L) (hl : lv_has ls 4 [(0, .ref b), (1, .ref h0), (2, .ref j0), (3, .int (nI i))]) (hP : va_P (dC, dI) vwCl (nt_w 0 h0 q1 q2 q3 cL cI cJ f g h n ++ nt_w 1 j0 k1 k2 k3 eL eI eJ f g h n) H) (hD : va_D A (nt_w 0 h0 q1 q2 q3 cL cI cJ f g h n ++ nt_w 1 j0 k1 k2 k3 eL eI eJ f g h n)) (hS : va_S A s.heap H locs) {Q : State → Prop} (nx : ∀ (u : nt_S) (H : Heap) (locs : List Loc), nt_ok u → va_P (dC, dI) vwCl (nt_w 0 h0 q1 q2 q3 cL cI cJ u.1 u.2.1 u.2.2.1 u.2.2.2 ++ nt_w 1 j0 k1 k2 k3 eL eI eJ u.1 u.2.1 u.2.2.1 u.2.2.2) H → va_D A (nt_w 0 h0 q1 q2 q3 cL cI cJ u.1 u.2.1 u.2.2.1 u.2.2.2 ++ nt_w 1 j0 k1 k2 k3 eL eI eJ u.1 u.2.1 u.2.2.1 u.2.2.2) → va_S A s.heap H locs → W p l e room_1 s m #[Value.ref b] below meth c H locs 8 5408 Q (F0 m 495 ls [])) : W p l e room_1 s m #[Value.ref b] below meth c H locs 8 5408 Q (F0 m 358 ls []) := by
  obtain ⟨hx, hb, -, hml, hown, hts, hX, hbl, -, -⟩ := C0
  have hts := fun w h => hts w (wsL_law_in w h)
  have hn : n ≤ 900 := hok.1
  have hKX : va_K (dC, dI) vwCl (nt_ty cL cI cJ) s := hK.sub [0, 1, 2] rfl
  have hKM : va_K (dC, dI) vwCl (nt_ty eL eI eJ) s := hK.sub [3, 4, 5] rfl
  have hc13 := hts (.constantLong RL 13 4294967295) (by decide +kernel)
  refine lv_aload_n hx hb dL_law_358 rfl (lv_at hl 1 rfl) ?_
  refine lv_aload_n hx hb dL_law_359 rfl (lv_at hl 0 rfl) ?_
  refine lv_iload_n hx hb dL_law_360 rfl (lv_at hl 3 rfl) ?_
  refine lv_iconst (v := nI 1) hx hb dL_law_361 (by decide) ?_
  refine lv_iadd hx hb dL_law_362 ?_
  refine nt_top (y := nI (i + 1)) (nI_add i 1) ?_
  refine nt_sld hx hb hX hbl hbA hS (j := (i + 1)) (by omega) hL dL_law_363 ?_
  refine lv_i2l (v := (xs (i + 1)).toInt64) hx hb dL_law_364 rfl ?_
  refine lv_bipush (v := 32) hx hb dL_law_365 (by decide) ?_
  refine lv_lshl (v := ((xs (i + 1)).toInt64) <<< ((32 : Int32).toInt64 &&& 63)) hx hb dL_law_367 rfl ?_
  refine lv_aload_n hx hb dL_law_368 rfl (lv_at hl 0 rfl) ?_
  refine lv_iload_n hx hb dL_law_369 rfl (lv_at hl 3 rfl) ?_
  refine lv_iconst (v := nI 2) hx hb dL_law_370 (by decide) ?_
  refine lv_iadd hx hb dL_law_371 ?_
  refine nt_top (y := nI (i + 2)) (nI_add i 2) ?_
  refine nt_sld hx hb hX hbl hbA hS (j := (i + 2)) (by omega) hL dL_law_372 ?_
  refine lv_i2l (v := (xs (i + 2)).toInt64) hx hb dL_law_373 rfl ?_
  refine lv_ldc2 (v := 4294967295) hx hb hown hc13 dL_law_374 ?_
  refine lv_land hx hb dL_law_377 ?_
  refine lv_lor hx hb dL_law_378 ?_
  refine lv_aload_n hx hb dL_law_379 rfl (lv_at hl 0 rfl) ?_
  refine lv_iload_n hx hb dL_law_380 rfl (lv_at hl 3 rfl) ?_
  refine lv_iconst (v := nI 3) hx hb dL_law_381 (by decide) ?_
  refine lv_iadd hx hb dL_law_382 ?_
  refine nt_top (y := nI (i + 3)) (nI_add i 3) ?_
  refine nt_sld hx hb hX hbl hbA hS (j := (i + 3)) (by omega) hL dL_law_383 ?_
  have hPc : va_P (dC, dI) vwCl (nt_w 0 h0 q1 q2 q3 cL cI cJ f g h n) H := hP.sub [0, 1, 2, 3] rfl
  have hDc : va_D A (nt_w 0 h0 q1 q2 q3 cL cI cJ f g h n) := hD.sub [0, 1, 2, 3] (by decide) rfl
  refine nt_calli2 (va_runV (As := [.long ((((xs (i + 1)).toInt64) <<< ((32 : Int32).toInt64 &&& 63)) ||| (((xs (i + 2)).toInt64) &&& 4294967295)), .int (xs (i + 3))]) (rest := []) ⟨hx, hb, hml, hown, hts⟩ (kX_get l dC dI h0 q1 q2 q3 _ cL cI cJ f g h n ((((xs (i + 1)).toInt64) <<< ((32 : Int32).toInt64 &&& 63)) ||| (((xs (i + 2)).toInt64) &&& 4294967295)) (xs (i + 3)) hok) (cwV 2 hts gL_law_X0_get rfl rfl rfl (by decide +kernel) ⟨Nat.le_of_ble_eq_true rfl, Nat.le_of_ble_eq_true rfl⟩) (nt_preV rfl hPc hKX hDc [.long ((((xs (i + 1)).toInt64) <<< ((32 : Int32).toInt64 &&& 63)) ||| (((xs (i + 2)).toInt64) &&& 4294967295)), .int (xs (i + 3))]) rfl rfl hl.1 rfl (lv_room (Nat.le_of_ble_eq_true rfl)) dL_law_384 ⟨Nat.le_of_ble_eq_true rfl, Nat.le_of_ble_eq_true rfl⟩) hP hD hS hA (fun r1 u1 H locs hp1 hP hD hS => ?_)
  refine lv_aload_n hx hb dL_law_387 rfl (lv_at hl 2 rfl) ?_
  refine lv_aload_n hx hb dL_law_388 rfl (lv_at hl 0 rfl) ?_
  refine lv_iload_n hx hb dL_law_389 rfl (lv_at hl 3 rfl) ?_
  refine lv_iconst (v := nI 1) hx hb dL_law_390 (by decide) ?_
  refine lv_iadd hx hb dL_law_391 ?_
  refine nt_top (y := nI (i + 1)) (nI_add i 1) ?_
  refine nt_sld hx hb hX hbl hbA hS (j := (i + 1)) (by omega) hL dL_law_392 ?_
  refine lv_i2l (v := (xs (i + 1)).toInt64) hx hb dL_law_393 rfl ?_
  refine lv_bipush (v := 32) hx hb dL_law_394 (by decide) ?_
  refine lv_lshl (v := ((xs (i + 1)).toInt64) <<< ((32 : Int32).toInt64 &&& 63)) hx hb dL_law_396 rfl ?_
  refine lv_aload_n hx hb dL_law_397 rfl (lv_at hl 0 rfl) ?_
  refine lv_iload_n hx hb dL_law_398 rfl (lv_at hl 3 rfl) ?_
  refine lv_iconst (v := nI 2) hx hb dL_law_399 (by decide) ?_
  refine lv_iadd hx hb dL_law_400 ?_
  refine nt_top (y := nI (i + 2)) (nI_add i 2) ?_
  refine nt_sld hx hb hX hbl hbA hS (j := (i + 2)) (by omega) hL dL_law_401 ?_
  refine lv_i2l (v := (xs (i + 2)).toInt64) hx hb dL_law_402 rfl ?_
  refine lv_ldc2 (v := 4294967295) hx hb hown hc13 dL_law_403 ?_
  refine lv_land hx hb dL_law_406 ?_
  refine lv_lor hx hb dL_law_407 ?_
  refine lv_aload_n hx hb dL_law_408 rfl (lv_at hl 0 rfl) ?_
  refine lv_iload_n hx hb dL_law_409 rfl (lv_at hl 3 rfl) ?_
  refine lv_iconst (v := nI 3) hx hb dL_law_410 (by decide) ?_
  refine lv_iadd hx hb dL_law_411 ?_
  refine nt_top (y := nI (i + 3)) (nI_add i 3) ?_
  refine nt_sld hx hb hX hbl hbA hS (j := (i + 3)) (by omega) hL dL_law_412 ?_
  have hPc : va_P (dC, dI) vwCl (nt_w 1 j0 k1 k2 k3 eL eI eJ f g h n) H := hP.sub [0, 1, 2, 3] rfl
  have hDc : va_D A (nt_w 1 j0 k1 k2 k3 eL eI eJ f g h n) := hD.sub [0, 1, 2, 3] (by decide) rfl
  refine nt_calli2 (va_runV (As := [.long ((((xs (i + 1)).toInt64) <<< ((32 : Int32).toInt64 &&& 63)) ||| (((xs (i + 2)).toInt64) &&& 4294967295)), .int (xs (i + 3))]) (rest := [.int r1]) ⟨hx, hb, hml, hown, hts⟩ (kM_get l dC dI j0 k1 k2 k3 _ eL eI eJ f g h n ((((xs (i + 1)).toInt64) <<< ((32 : Int32).toInt64 &&& 63)) ||| (((xs (i + 2)).toInt64) &&& 4294967295)) (xs (i + 3)) hok) (cwV 2 hts gL_law_X1_get rfl rfl rfl (by decide +kernel) ⟨Nat.le_of_ble_eq_true rfl, Nat.le_of_ble_eq_true rfl⟩) (nt_preV rfl hPc hKM hDc [.long ((((xs (i + 1)).toInt64) <<< ((32 : Int32).toInt64 &&& 63)) ||| (((xs (i + 2)).toInt64) &&& 4294967295)), .int (xs (i + 3))]) rfl rfl hl.1 rfl (lv_room (Nat.le_of_ble_eq_true rfl)) dL_law_413 ⟨Nat.le_of_ble_eq_true rfl, Nat.le_of_ble_eq_true rfl⟩) hP hD hS hA (fun r2 u2 H locs hp2 hP hD hS => ?_)
  obtain ⟨e1, rfl⟩ := hp1
  obtain ⟨e2, rfl⟩ := hp2
  obtain rfl := e1.trans e2.symm
  refine lv_icmp_eq (tgt := 495) hx hb dL_law_416 (by decide) (fun _ => ?_) (fun h9 => absurd rfl h9)
  exact nx (f, g, h, n) H locs hok hP hD hS
set_option maxHeartbeats 4000000 in
set_option maxRecDepth 100000 in
theorem lc_5 {p : Program} {e : Env} {s : State} {m : MethodId} {below : List Frame} {meth : Method} {c : Code} (l : Launch) {b L : Nat} {xs : Nat → Int32} (hL : L ≤ 3584) (C0 : lw_At p s m meth c b L xs) {dC : Nat → ClassId} {dI : Nat → Nat → Nat} {h0 q1 q2 q3 j0 k1 k2 k3 : Nat} {cL cI cJ eL eI eJ : ClassId} {f : Nat → Int64} {g h : Nat → Int32} {n : Nat} (hok : nt_ok (f, g, h, n)) (hK : va_K (dC, dI) vwCl (nt_ty cL cI cJ ++ nt_ty eL eI eJ) s) {A : Nat → Prop} (hA : ∀ q : Nat, s.heap.size ≤ q → A q) (hbA : ¬ A b) {H : Heap} {locs : List Loc} {ls : Array Slot} {i : Nat} (hi : i + 7 ≤ L) (hl : lv_has ls 4 [(0, .ref b), (1, .ref h0), (2, .ref j0), (3, .int (nI i))]) (hP : va_P (dC, dI) vwCl (nt_w 0 h0 q1 q2 q3 cL cI cJ f g h n ++ nt_w 1 j0 k1 k2 k3 eL eI eJ f g h n) H) (hD : va_D A (nt_w 0 h0 q1 q2 q3 cL cI cJ f g h n ++ nt_w 1 j0 k1 k2 k3 eL eI eJ f g h n)) (hS : va_S A s.heap H locs) {Q : State → Prop} (nx : ∀ (u : nt_S) (H : Heap) (locs : List Loc), nt_ok u → va_P (dC, dI) vwCl (nt_w 0 h0 q1 q2 q3 cL cI cJ u.1 u.2.1 u.2.2.1 u.2.2.2 ++ nt_w 1 j0 k1 k2 k3 eL eI eJ u.1 u.2.1 u.2.2.1 u.2.2.2) H → va_D A (nt_w 0 h0 q1 q2 q3 cL cI cJ u.1 u.2.1 u.2.2.1 u.2.2.2 ++ nt_w 1 j0 k1 k2 k3 eL eI eJ u.1 u.2.1 u.2.2.1 u.2.2.2) → va_S A s.heap H locs → W p l e room_1 s m #[Value.ref b] below meth c H locs 8 5408 Q (F0 m 495 ls [])) : W p l e room_1 s m #[Value.ref b] below meth c H locs 8 5408 Q (F0 m 421 ls []) := by
  obtain ⟨hx, hb, -, hml, hown, hts, hX, hbl, -, -⟩ := C0
  have hts := fun w h => hts w (wsL_law_in w h)
  have hn : n ≤ 900 := hok.1
  have hKX : va_K (dC, dI) vwCl (nt_ty cL cI cJ) s := hK.sub [0, 1, 2] rfl
  have hKM : va_K (dC, dI) vwCl (nt_ty eL eI eJ) s := hK.sub [3, 4, 5] rfl
  refine lv_aload_n hx hb dL_law_421 rfl (lv_at hl 1 rfl) ?_
  refine lv_aload_n hx hb dL_law_422 rfl (lv_at hl 0 rfl) ?_
  refine lv_iload_n hx hb dL_law_423 rfl (lv_at hl 3 rfl) ?_
  refine lv_iconst (v := nI 1) hx hb dL_law_424 (by decide) ?_
  refine lv_iadd hx hb dL_law_425 ?_
  refine nt_top (y := nI (i + 1)) (nI_add i 1) ?_
  refine nt_sld hx hb hX hbl hbA hS (j := (i + 1)) (by omega) hL dL_law_426 ?_
  have hPc : va_P (dC, dI) vwCl (nt_w 0 h0 q1 q2 q3 cL cI cJ f g h n) H := hP.sub [0, 1, 2, 3] rfl
  have hDc : va_D A (nt_w 0 h0 q1 q2 q3 cL cI cJ f g h n) := hD.sub [0, 1, 2, 3] (by decide) rfl
  refine nt_calll2 (va_runV (As := [.int (xs (i + 1))]) (rest := []) ⟨hx, hb, hml, hown, hts⟩ (kX_name l dC dI h0 q1 q2 q3 _ cL cI cJ f g h n (xs (i + 1)) hn) (cwV 1 hts gL_law_X0_name rfl rfl rfl (by decide +kernel) ⟨Nat.le_of_ble_eq_true rfl, Nat.le_of_ble_eq_true rfl⟩) (nt_preV rfl hPc hKX hDc [.int (xs (i + 1))]) rfl rfl hl.1 rfl (lv_room (Nat.le_of_ble_eq_true rfl)) dL_law_427 ⟨Nat.le_of_ble_eq_true rfl, Nat.le_of_ble_eq_true rfl⟩) hP hD hS hA (fun r1 u1 H locs hp1 hP hD hS => ?_)
  refine lv_aload_n hx hb dL_law_430 rfl (lv_at hl 2 rfl) ?_
  refine lv_aload_n hx hb dL_law_431 rfl (lv_at hl 0 rfl) ?_
  refine lv_iload_n hx hb dL_law_432 rfl (lv_at hl 3 rfl) ?_
  refine lv_iconst (v := nI 1) hx hb dL_law_433 (by decide) ?_
  refine lv_iadd hx hb dL_law_434 ?_
  refine nt_top (y := nI (i + 1)) (nI_add i 1) ?_
  refine nt_sld hx hb hX hbl hbA hS (j := (i + 1)) (by omega) hL dL_law_435 ?_
  have hPc : va_P (dC, dI) vwCl (nt_w 1 j0 k1 k2 k3 eL eI eJ f g h n) H := hP.sub [0, 1, 2, 3] rfl
  have hDc : va_D A (nt_w 1 j0 k1 k2 k3 eL eI eJ f g h n) := hD.sub [0, 1, 2, 3] (by decide) rfl
  refine nt_calll2 (va_runV (As := [.int (xs (i + 1))]) (rest := [.long r1]) ⟨hx, hb, hml, hown, hts⟩ (kM_name l dC dI j0 k1 k2 k3 _ eL eI eJ f g h n (xs (i + 1)) hn) (cwV 1 hts gL_law_X1_name rfl rfl rfl (by decide +kernel) ⟨Nat.le_of_ble_eq_true rfl, Nat.le_of_ble_eq_true rfl⟩) (nt_preV rfl hPc hKM hDc [.int (xs (i + 1))]) rfl rfl hl.1 rfl (lv_room (Nat.le_of_ble_eq_true rfl)) dL_law_436 ⟨Nat.le_of_ble_eq_true rfl, Nat.le_of_ble_eq_true rfl⟩) hP hD hS hA (fun r2 u2 H locs hp2 hP hD hS => ?_)
  obtain ⟨e1, rfl⟩ := hp1
  obtain ⟨e2, rfl⟩ := hp2
  obtain rfl := e1.trans e2.symm
  refine W.lcmp hx hb dL_law_439 ?_
  refine lv_if_eq (tgt := 495) hx hb dL_law_440 (by decide) (fun _ => ?_) (fun h9 => absurd ((lg_cmp_eq _ _).mpr rfl) h9)
  exact nx (f, g, h, n) H locs hok hP hD hS
set_option maxHeartbeats 4000000 in
set_option maxRecDepth 100000 in
theorem lc_6 {p : Program} {e : Env} {s : State} {m : MethodId} {below : List Frame} {meth : Method} {c : Code} (l : Launch) {b L : Nat} {xs : Nat → Int32} (hL : L ≤ 3584) (C0 : lw_At p s m meth c b L xs) {dC : Nat → ClassId} {dI : Nat → Nat → Nat} {h0 q1 q2 q3 j0 k1 k2 k3 : Nat} {cL cI cJ eL eI eJ : ClassId} {f : Nat → Int64} {g h : Nat → Int32} {n : Nat} (hok : nt_ok (f, g, h, n)) (hK : va_K (dC, dI) vwCl (nt_ty cL cI cJ ++ nt_ty eL eI eJ) s) {A : Nat → Prop} (hA : ∀ q : Nat, s.heap.size ≤ q → A q) (hbA : ¬ A b) {H : Heap} {locs : List Loc} {ls : Array Slot} {i : Nat} (hi : i + 7 ≤ L) (hl : lv_has ls 4 [(0, .ref b), (1, .ref h0), (2, .ref j0), (3, .int (nI i))]) (hP : va_P (dC, dI) vwCl (nt_w 0 h0 q1 q2 q3 cL cI cJ f g h n ++ nt_w 1 j0 k1 k2 k3 eL eI eJ f g h n) H) (hD : va_D A (nt_w 0 h0 q1 q2 q3 cL cI cJ f g h n ++ nt_w 1 j0 k1 k2 k3 eL eI eJ f g h n)) (hS : va_S A s.heap H locs) {Q : State → Prop} (nx : ∀ (u : nt_S) (H : Heap) (locs : List Loc), nt_ok u → va_P (dC, dI) vwCl (nt_w 0 h0 q1 q2 q3 cL cI cJ u.1 u.2.1 u.2.2.1 u.2.2.2 ++ nt_w 1 j0 k1 k2 k3 eL eI eJ u.1 u.2.1 u.2.2.1 u.2.2.2) H → va_D A (nt_w 0 h0 q1 q2 q3 cL cI cJ u.1 u.2.1 u.2.2.1 u.2.2.2 ++ nt_w 1 j0 k1 k2 k3 eL eI eJ u.1 u.2.1 u.2.2.1 u.2.2.2) → va_S A s.heap H locs → W p l e room_1 s m #[Value.ref b] below meth c H locs 8 5408 Q (F0 m 495 ls [])) : W p l e room_1 s m #[Value.ref b] below meth c H locs 8 5408 Q (F0 m 445 ls []) := by
  obtain ⟨hx, hb, -, hml, hown, hts, hX, hbl, -, -⟩ := C0
  have hts := fun w h => hts w (wsL_law_in w h)
  have hn : n ≤ 900 := hok.1
  have hKX : va_K (dC, dI) vwCl (nt_ty cL cI cJ) s := hK.sub [0, 1, 2] rfl
  have hKM : va_K (dC, dI) vwCl (nt_ty eL eI eJ) s := hK.sub [3, 4, 5] rfl
  refine lv_aload_n hx hb dL_law_445 rfl (lv_at hl 1 rfl) ?_
  refine lv_aload_n hx hb dL_law_446 rfl (lv_at hl 0 rfl) ?_
  refine lv_iload_n hx hb dL_law_447 rfl (lv_at hl 3 rfl) ?_
  refine lv_iconst (v := nI 1) hx hb dL_law_448 (by decide) ?_
  refine lv_iadd hx hb dL_law_449 ?_
  refine nt_top (y := nI (i + 1)) (nI_add i 1) ?_
  refine nt_sld hx hb hX hbl hbA hS (j := (i + 1)) (by omega) hL dL_law_450 ?_
  have hPc : va_P (dC, dI) vwCl (nt_w 0 h0 q1 q2 q3 cL cI cJ f g h n) H := hP.sub [0, 1, 2, 3] rfl
  have hDc : va_D A (nt_w 0 h0 q1 q2 q3 cL cI cJ f g h n) := hD.sub [0, 1, 2, 3] (by decide) rfl
  refine nt_calli2 (va_runV (As := [.int (xs (i + 1))]) (rest := []) ⟨hx, hb, hml, hown, hts⟩ (kX_index l dC dI h0 q1 q2 q3 _ cL cI cJ f g h n (xs (i + 1)) hn) (cwV 1 hts gL_law_X0_index rfl rfl rfl (by decide +kernel) ⟨Nat.le_of_ble_eq_true rfl, Nat.le_of_ble_eq_true rfl⟩) (nt_preV rfl hPc hKX hDc [.int (xs (i + 1))]) rfl rfl hl.1 rfl (lv_room (Nat.le_of_ble_eq_true rfl)) dL_law_451 ⟨Nat.le_of_ble_eq_true rfl, Nat.le_of_ble_eq_true rfl⟩) hP hD hS hA (fun r1 u1 H locs hp1 hP hD hS => ?_)
  refine lv_aload_n hx hb dL_law_454 rfl (lv_at hl 2 rfl) ?_
  refine lv_aload_n hx hb dL_law_455 rfl (lv_at hl 0 rfl) ?_
  refine lv_iload_n hx hb dL_law_456 rfl (lv_at hl 3 rfl) ?_
  refine lv_iconst (v := nI 1) hx hb dL_law_457 (by decide) ?_
  refine lv_iadd hx hb dL_law_458 ?_
  refine nt_top (y := nI (i + 1)) (nI_add i 1) ?_
  refine nt_sld hx hb hX hbl hbA hS (j := (i + 1)) (by omega) hL dL_law_459 ?_
  have hPc : va_P (dC, dI) vwCl (nt_w 1 j0 k1 k2 k3 eL eI eJ f g h n) H := hP.sub [0, 1, 2, 3] rfl
  have hDc : va_D A (nt_w 1 j0 k1 k2 k3 eL eI eJ f g h n) := hD.sub [0, 1, 2, 3] (by decide) rfl
  refine nt_calli2 (va_runV (As := [.int (xs (i + 1))]) (rest := [.int r1]) ⟨hx, hb, hml, hown, hts⟩ (kM_index l dC dI j0 k1 k2 k3 _ eL eI eJ f g h n (xs (i + 1)) hn) (cwV 1 hts gL_law_X1_index rfl rfl rfl (by decide +kernel) ⟨Nat.le_of_ble_eq_true rfl, Nat.le_of_ble_eq_true rfl⟩) (nt_preV rfl hPc hKM hDc [.int (xs (i + 1))]) rfl rfl hl.1 rfl (lv_room (Nat.le_of_ble_eq_true rfl)) dL_law_460 ⟨Nat.le_of_ble_eq_true rfl, Nat.le_of_ble_eq_true rfl⟩) hP hD hS hA (fun r2 u2 H locs hp2 hP hD hS => ?_)
  obtain ⟨e1, rfl⟩ := hp1
  obtain ⟨e2, rfl⟩ := hp2
  obtain rfl := e1.trans e2.symm
  refine lv_icmp_eq (tgt := 495) hx hb dL_law_463 (by decide) (fun _ => ?_) (fun h9 => absurd rfl h9)
  exact nx (f, g, h, n) H locs hok hP hD hS
set_option maxHeartbeats 4000000 in
set_option maxRecDepth 100000 in
theorem lc_7 {p : Program} {e : Env} {s : State} {m : MethodId} {below : List Frame} {meth : Method} {c : Code} (l : Launch) {b L : Nat} {xs : Nat → Int32} (hL : L ≤ 3584) (C0 : lw_At p s m meth c b L xs) {dC : Nat → ClassId} {dI : Nat → Nat → Nat} {h0 q1 q2 q3 j0 k1 k2 k3 : Nat} {cL cI cJ eL eI eJ : ClassId} {f : Nat → Int64} {g h : Nat → Int32} {n : Nat} (hok : nt_ok (f, g, h, n)) (hK : va_K (dC, dI) vwCl (nt_ty cL cI cJ ++ nt_ty eL eI eJ) s) {A : Nat → Prop} (hA : ∀ q : Nat, s.heap.size ≤ q → A q) (hbA : ¬ A b) {H : Heap} {locs : List Loc} {ls : Array Slot} {i : Nat} (hi : i + 7 ≤ L) (hl : lv_has ls 4 [(0, .ref b), (1, .ref h0), (2, .ref j0), (3, .int (nI i))]) (hP : va_P (dC, dI) vwCl (nt_w 0 h0 q1 q2 q3 cL cI cJ f g h n ++ nt_w 1 j0 k1 k2 k3 eL eI eJ f g h n) H) (hD : va_D A (nt_w 0 h0 q1 q2 q3 cL cI cJ f g h n ++ nt_w 1 j0 k1 k2 k3 eL eI eJ f g h n)) (hS : va_S A s.heap H locs) {Q : State → Prop} (nx : ∀ (u : nt_S) (H : Heap) (locs : List Loc), nt_ok u → va_P (dC, dI) vwCl (nt_w 0 h0 q1 q2 q3 cL cI cJ u.1 u.2.1 u.2.2.1 u.2.2.2 ++ nt_w 1 j0 k1 k2 k3 eL eI eJ u.1 u.2.1 u.2.2.1 u.2.2.2) H → va_D A (nt_w 0 h0 q1 q2 q3 cL cI cJ u.1 u.2.1 u.2.2.1 u.2.2.2 ++ nt_w 1 j0 k1 k2 k3 eL eI eJ u.1 u.2.1 u.2.2.1 u.2.2.2) → va_S A s.heap H locs → W p l e room_1 s m #[Value.ref b] below meth c H locs 8 5408 Q (F0 m 495 ls [])) : W p l e room_1 s m #[Value.ref b] below meth c H locs 8 5408 Q (F0 m 468 ls []) := by
  obtain ⟨hx, hb, -, hml, hown, hts, hX, hbl, -, -⟩ := C0
  have hts := fun w h => hts w (wsL_law_in w h)
  have hn : n ≤ 900 := hok.1
  have hKX : va_K (dC, dI) vwCl (nt_ty cL cI cJ) s := hK.sub [0, 1, 2] rfl
  have hKM : va_K (dC, dI) vwCl (nt_ty eL eI eJ) s := hK.sub [3, 4, 5] rfl
  refine lv_aload_n hx hb dL_law_468 rfl (lv_at hl 1 rfl) ?_
  have hPc : va_P (dC, dI) vwCl (nt_w 0 h0 q1 q2 q3 cL cI cJ f g h n) H := hP.sub [0, 1, 2, 3] rfl
  have hDc : va_D A (nt_w 0 h0 q1 q2 q3 cL cI cJ f g h n) := hD.sub [0, 1, 2, 3] (by decide) rfl
  refine nt_calli2 (va_runV (As := []) (rest := []) ⟨hx, hb, hml, hown, hts⟩ (kX_many l dC dI h0 q1 q2 q3 _ cL cI cJ f g h n ) (cwV 0 hts gL_law_X0_many rfl rfl rfl (by decide +kernel) ⟨Nat.le_of_ble_eq_true rfl, Nat.le_of_ble_eq_true rfl⟩) (nt_preV rfl hPc hKX hDc []) rfl rfl hl.1 rfl (lv_room (Nat.le_of_ble_eq_true rfl)) dL_law_469 ⟨Nat.le_of_ble_eq_true rfl, Nat.le_of_ble_eq_true rfl⟩) hP hD hS hA (fun r1 u1 H locs hp1 hP hD hS => ?_)
  refine lv_aload_n hx hb dL_law_472 rfl (lv_at hl 2 rfl) ?_
  have hPc : va_P (dC, dI) vwCl (nt_w 1 j0 k1 k2 k3 eL eI eJ f g h n) H := hP.sub [0, 1, 2, 3] rfl
  have hDc : va_D A (nt_w 1 j0 k1 k2 k3 eL eI eJ f g h n) := hD.sub [0, 1, 2, 3] (by decide) rfl
  refine nt_calli2 (va_runV (As := []) (rest := [.int r1]) ⟨hx, hb, hml, hown, hts⟩ (kM_many l dC dI j0 k1 k2 k3 _ eL eI eJ f g h n ) (cwV 0 hts gL_law_X1_many rfl rfl rfl (by decide +kernel) ⟨Nat.le_of_ble_eq_true rfl, Nat.le_of_ble_eq_true rfl⟩) (nt_preV rfl hPc hKM hDc []) rfl rfl hl.1 rfl (lv_room (Nat.le_of_ble_eq_true rfl)) dL_law_473 ⟨Nat.le_of_ble_eq_true rfl, Nat.le_of_ble_eq_true rfl⟩) hP hD hS hA (fun r2 u2 H locs hp2 hP hD hS => ?_)
  obtain ⟨e1, rfl⟩ := hp1
  obtain ⟨e2, rfl⟩ := hp2
  obtain rfl := e1.trans e2.symm
  refine lv_icmp_eq (tgt := 495) hx hb dL_law_476 (by decide) (fun _ => ?_) (fun h9 => absurd rfl h9)
  exact nx (f, g, h, n) H locs hok hP hD hS
set_option maxHeartbeats 4000000 in
set_option maxRecDepth 100000 in
theorem lc_8 {p : Program} {e : Env} {s : State} {m : MethodId} {below : List Frame} {meth : Method} {c : Code} (l : Launch) {b L : Nat} {xs : Nat → Int32} (hL : L ≤ 3584) (C0 : lw_At p s m meth c b L xs) {dC : Nat → ClassId} {dI : Nat → Nat → Nat} {h0 q1 q2 q3 j0 k1 k2 k3 : Nat} {cL cI cJ eL eI eJ : ClassId} {f : Nat → Int64} {g h : Nat → Int32} {n : Nat} (hok : nt_ok (f, g, h, n)) (hK : va_K (dC, dI) vwCl (nt_ty cL cI cJ ++ nt_ty eL eI eJ) s) {A : Nat → Prop} (hA : ∀ q : Nat, s.heap.size ≤ q → A q) (hbA : ¬ A b) {H : Heap} {locs : List Loc} {ls : Array Slot} {i : Nat} (hi : i + 7 ≤ L) (hl : lv_has ls 4 [(0, .ref b), (1, .ref h0), (2, .ref j0), (3, .int (nI i))]) (hP : va_P (dC, dI) vwCl (nt_w 0 h0 q1 q2 q3 cL cI cJ f g h n ++ nt_w 1 j0 k1 k2 k3 eL eI eJ f g h n) H) (hD : va_D A (nt_w 0 h0 q1 q2 q3 cL cI cJ f g h n ++ nt_w 1 j0 k1 k2 k3 eL eI eJ f g h n)) (hS : va_S A s.heap H locs) {Q : State → Prop} (nx : ∀ (u : nt_S) (H : Heap) (locs : List Loc), nt_ok u → va_P (dC, dI) vwCl (nt_w 0 h0 q1 q2 q3 cL cI cJ u.1 u.2.1 u.2.2.1 u.2.2.2 ++ nt_w 1 j0 k1 k2 k3 eL eI eJ u.1 u.2.1 u.2.2.1 u.2.2.2) H → va_D A (nt_w 0 h0 q1 q2 q3 cL cI cJ u.1 u.2.1 u.2.2.1 u.2.2.2 ++ nt_w 1 j0 k1 k2 k3 eL eI eJ u.1 u.2.1 u.2.2.1 u.2.2.2) → va_S A s.heap H locs → W p l e room_1 s m #[Value.ref b] below meth c H locs 8 5408 Q (F0 m 495 ls [])) : W p l e room_1 s m #[Value.ref b] below meth c H locs 8 5408 Q (F0 m 481 ls []) := by
  obtain ⟨hx, hb, -, hml, hown, hts, hX, hbl, -, -⟩ := C0
  have hts := fun w h => hts w (wsL_law_in w h)
  have hn : n ≤ 900 := hok.1
  have hKX : va_K (dC, dI) vwCl (nt_ty cL cI cJ) s := hK.sub [0, 1, 2] rfl
  have hKM : va_K (dC, dI) vwCl (nt_ty eL eI eJ) s := hK.sub [3, 4, 5] rfl
  refine lv_aload_n hx hb dL_law_481 rfl (lv_at hl 1 rfl) ?_
  have hPc : va_P (dC, dI) vwCl (nt_w 0 h0 q1 q2 q3 cL cI cJ f g h n) H := hP.sub [0, 1, 2, 3] rfl
  have hDc : va_D A (nt_w 0 h0 q1 q2 q3 cL cI cJ f g h n) := hD.sub [0, 1, 2, 3] (by decide) rfl
  refine nt_calll2 (va_runV (As := []) (rest := []) ⟨hx, hb, hml, hown, hts⟩ (kX_value l dC dI h0 q1 q2 q3 _ cL cI cJ f g h n hn) (cwV 0 hts gL_law_X0_value rfl rfl rfl (by decide +kernel) ⟨Nat.le_of_ble_eq_true rfl, Nat.le_of_ble_eq_true rfl⟩) (nt_preV rfl hPc hKX hDc []) rfl rfl hl.1 rfl (lv_room (Nat.le_of_ble_eq_true rfl)) dL_law_482 ⟨Nat.le_of_ble_eq_true rfl, Nat.le_of_ble_eq_true rfl⟩) hP hD hS hA (fun r1 u1 H locs hp1 hP hD hS => ?_)
  refine lv_aload_n hx hb dL_law_485 rfl (lv_at hl 2 rfl) ?_
  have hPc : va_P (dC, dI) vwCl (nt_w 1 j0 k1 k2 k3 eL eI eJ f g h n) H := hP.sub [0, 1, 2, 3] rfl
  have hDc : va_D A (nt_w 1 j0 k1 k2 k3 eL eI eJ f g h n) := hD.sub [0, 1, 2, 3] (by decide) rfl
  refine nt_calll2 (va_runV (As := []) (rest := [.long r1]) ⟨hx, hb, hml, hown, hts⟩ (kM_value l dC dI j0 k1 k2 k3 _ eL eI eJ f g h n hn) (cwV 0 hts gL_law_X1_value rfl rfl rfl (by decide +kernel) ⟨Nat.le_of_ble_eq_true rfl, Nat.le_of_ble_eq_true rfl⟩) (nt_preV rfl hPc hKM hDc []) rfl rfl hl.1 rfl (lv_room (Nat.le_of_ble_eq_true rfl)) dL_law_486 ⟨Nat.le_of_ble_eq_true rfl, Nat.le_of_ble_eq_true rfl⟩) hP hD hS hA (fun r2 u2 H locs hp2 hP hD hS => ?_)
  obtain ⟨e1, rfl⟩ := hp1
  obtain ⟨e2, rfl⟩ := hp2
  obtain rfl := e1.trans e2.symm
  refine W.lcmp hx hb dL_law_489 ?_
  refine lv_if_eq (tgt := 495) hx hb dL_law_490 (by decide) (fun _ => ?_) (fun h9 => absurd ((lg_cmp_eq _ _).mpr rfl) h9)
  exact nx (f, g, h, n) H locs hok hP hD hS
end
section
set_option maxHeartbeats 4000000 in
set_option maxRecDepth 100000 in
/-- the law's loop: both objects hold the same table, in order -/
theorem lw_loop {p : Program} {e : Env} {s : State} {m : MethodId} {below : List Frame} {meth : Method} {c : Code} (l : Launch) {b L : Nat} {xs : Nat → Int32} (hL : L ≤ 3584) (C0 : lw_At p s m meth c b L xs) {dC : Nat → ClassId} {dI : Nat → Nat → Nat} {h0 q1 q2 q3 j0 k1 k2 k3 : Nat} {cL cI cJ eL eI eJ : ClassId} (hK : va_K (dC, dI) vwCl (nt_ty cL cI cJ ++ nt_ty eL eI eJ) s) {A : Nat → Prop} (hA : ∀ q : Nat, s.heap.size ≤ q → A q) (hA2 : ∀ q : Nat, A q → s.heap.size ≤ q) (hbA : ¬ A b) : ∀ (d i : Nat), L ≤ i + d → i ≤ L → ∀ (u : nt_S) (H : Heap) (locs : List Loc) (ls : Array Slot), nt_ok u → lv_has ls 4 [(0, .ref b), (1, .ref h0), (2, .ref j0), (3, .int (nI i))] → va_P (dC, dI) vwCl (nt_w 0 h0 q1 q2 q3 cL cI cJ u.1 u.2.1 u.2.2.1 u.2.2.2 ++ nt_w 1 j0 k1 k2 k3 eL eI eJ u.1 u.2.1 u.2.2.1 u.2.2.2) H → va_D A (nt_w 0 h0 q1 q2 q3 cL cI cJ u.1 u.2.1 u.2.2.1 u.2.2.2 ++ nt_w 1 j0 k1 k2 k3 eL eI eJ u.1 u.2.1 u.2.2.1 u.2.2.2) → va_S A s.heap H locs → W p l e room_1 s m #[Value.ref b] below meth c H locs 8 5408 (lw_Z below #[Value.ref b] s) (F0 m 18 ls []) := by
  have C1 := C0
  obtain ⟨hx, hb, hr, hml, hown, -, hX, hbl, hlocks, -⟩ := C0
  intro d
  induction d with
  | zero =>
    intro i hd hi u H locs ls hok hl hP hD hS
    have hcmp : (nI L - nI 7 < nI i) ↔ L < i + 7 := by
      rw [Int32.lt_iff_toInt_lt, pk_sub_toInt (by omega) (by omega), nI_toInt (by omega)]
      omega
    refine lv_iload_n hx hb dL_law_18 rfl (lv_at hl 3 rfl) ?_
    refine lv_aload_n hx hb dL_law_19 rfl (lv_at hl 0 rfl) ?_
    refine va_slen hx hb hX hbl hbA hS dL_law_20 ?_
    refine nt_top (y := nI L) rfl ?_
    refine lv_bipush (v := nI 7) hx hb dL_law_21 (by decide) ?_
    refine lv_isub hx hb dL_law_23 ?_
    refine lv_icmp_gt (tgt := 501) hx hb dL_law_24 (by decide) (fun hc => ?_) (fun hc => ?_)
    · refine lv_iconst (v := 1) hx hb dL_law_501 (by decide) ?_
      refine va_forget (fun q hq => hA2 _ (hS.2.2 q hq)) ?_
      refine W.widen (k := 8) (n := 5408) (Nat.le_of_ble_eq_true rfl) (Nat.le_of_ble_eq_true rfl) ?_
      exact lw_ret hx hb hr hlocks dL_law_502
    · exact absurd (hcmp.mpr (by omega)) hc
  | succ d ih =>
    intro i hd hi u H locs ls hok hl hP hD hS
    have hcmp : (nI L - nI 7 < nI i) ↔ L < i + 7 := by
      rw [Int32.lt_iff_toInt_lt, pk_sub_toInt (by omega) (by omega), nI_toInt (by omega)]
      omega
    refine lv_iload_n hx hb dL_law_18 rfl (lv_at hl 3 rfl) ?_
    refine lv_aload_n hx hb dL_law_19 rfl (lv_at hl 0 rfl) ?_
    refine va_slen hx hb hX hbl hbA hS dL_law_20 ?_
    refine nt_top (y := nI L) rfl ?_
    refine lv_bipush (v := nI 7) hx hb dL_law_21 (by decide) ?_
    refine lv_isub hx hb dL_law_23 ?_
    refine lv_icmp_gt (tgt := 501) hx hb dL_law_24 (by decide) (fun hc => ?_) (fun hc => ?_)
    · refine lv_iconst (v := 1) hx hb dL_law_501 (by decide) ?_
      refine va_forget (fun q hq => hA2 _ (hS.2.2 q hq)) ?_
      refine W.widen (k := 8) (n := 5408) (Nat.le_of_ble_eq_true rfl) (Nat.le_of_ble_eq_true rfl) ?_
      exact lw_ret hx hb hr hlocks dL_law_502
    · have hi7 : i + 7 ≤ L := Nat.le_of_not_lt (fun h9 => hc (hcmp.mpr h9))
      have nx : ∀ (u : nt_S) (H : Heap) (locs : List Loc), nt_ok u → va_P (dC, dI) vwCl (nt_w 0 h0 q1 q2 q3 cL cI cJ u.1 u.2.1 u.2.2.1 u.2.2.2 ++ nt_w 1 j0 k1 k2 k3 eL eI eJ u.1 u.2.1 u.2.2.1 u.2.2.2) H → va_D A (nt_w 0 h0 q1 q2 q3 cL cI cJ u.1 u.2.1 u.2.2.1 u.2.2.2 ++ nt_w 1 j0 k1 k2 k3 eL eI eJ u.1 u.2.1 u.2.2.1 u.2.2.2) → va_S A s.heap H locs → W p l e room_1 s m #[Value.ref b] below meth c H locs 8 5408 (lw_Z below #[Value.ref b] s) (F0 m 495 ls []) := by
        intro u H locs hok hP hD hS
        refine lv_iinc (k := 3) (v := nI (i + 7)) (lv' := [(3, .int (nI (i + 7))), (0, .ref b), (1, .ref h0), (2, .ref j0)]) hx hb dL_law_495 hl rfl (by rw [show Int32.ofInt 7 = nI 7 by decide]; exact nI_add i 7) (by decide) rfl (fun ls hl => ?_)
        refine lv_goto (tgt := 18) hx hb dL_law_498 (by decide) ?_
        exact ih (i + 7) (by omega) (by omega) u H locs ls hok (lv_sub hl [1, 2, 3, 0] rfl) hP hD hS
      refine lv_aload_n hx hb dL_law_27 rfl (lv_at hl 0 rfl) ?_
      refine lv_iload_n hx hb dL_law_28 rfl (lv_at hl 3 rfl) ?_
      refine nt_sld hx hb hX hbl hbA hS (j := i) (by omega) hL dL_law_29 ?_
      obtain ⟨j, hj, hje⟩ := pk_andE (xs i) (m := 15) 4 (by decide)
      refine lv_bipush (v := 15) hx hb dL_law_30 (by decide) ?_
      refine lv_iand hx hb dL_law_32 ?_
      refine nt_top (y := nI j) hje ?_
      obtain ⟨f, g, h, n⟩ := u
      have hcs : j = 0 ∨ j = 1 ∨ j = 2 ∨ j = 3 ∨ j = 4 ∨ j = 5 ∨ j = 6 ∨ j = 7 ∨ j = 8 ∨ 9 ≤ j := by omega
      rcases hcs with rfl | rfl | rfl | rfl | rfl | rfl | rfl | rfl | rfl | h9
      · refine lv_tableIn (off := 51) (tgt := 84) hx hb dL_law_33 (by decide) (by decide) (by decide) (by decide) ?_
        exact lc_0 l hL C1 hok hK hA hbA hi7 hl hP hD hS nx
      · refine lv_tableIn (off := 124) (tgt := 157) hx hb dL_law_33 (by decide) (by decide) (by decide) (by decide) ?_
        exact lc_1 l hL C1 hok hK hA hbA hi7 hl hP hD hS nx
      · refine lv_tableIn (off := 239) (tgt := 272) hx hb dL_law_33 (by decide) (by decide) (by decide) (by decide) ?_
        exact lc_2 l hL C1 hok hK hA hbA hi7 hl hP hD hS nx
      · refine lv_tableIn (off := 302) (tgt := 335) hx hb dL_law_33 (by decide) (by decide) (by decide) (by decide) ?_
        exact lc_3 l hL C1 hok hK hA hbA hi7 hl hP hD hS nx
      · refine lv_tableIn (off := 325) (tgt := 358) hx hb dL_law_33 (by decide) (by decide) (by decide) (by decide) ?_
        exact lc_4 l hL C1 hok hK hA hbA hi7 hl hP hD hS nx
      · refine lv_tableIn (off := 388) (tgt := 421) hx hb dL_law_33 (by decide) (by decide) (by decide) (by decide) ?_
        exact lc_5 l hL C1 hok hK hA hbA hi7 hl hP hD hS nx
      · refine lv_tableIn (off := 412) (tgt := 445) hx hb dL_law_33 (by decide) (by decide) (by decide) (by decide) ?_
        exact lc_6 l hL C1 hok hK hA hbA hi7 hl hP hD hS nx
      · refine lv_tableIn (off := 435) (tgt := 468) hx hb dL_law_33 (by decide) (by decide) (by decide) (by decide) ?_
        exact lc_7 l hL C1 hok hK hA hbA hi7 hl hP hD hS nx
      · refine lv_tableIn (off := 448) (tgt := 481) hx hb dL_law_33 (by decide) (by decide) (by decide) (by decide) ?_
        exact lc_8 l hL C1 hok hK hA hbA hi7 hl hP hD hS nx
      · refine lv_tableOut (tgt := 495) hx hb dL_law_33 (Or.inr (by rw [nI_toInt (by omega)]; omega)) (by decide) ?_
        exact nx (f, g, h, n) H locs hok hP hD hS
end
section
set_option maxHeartbeats 4000000 in
set_option maxRecDepth 100000 in
/-- YOUR PART: from the entry, for every script of at most 3584 ints, the law comes to its end with true -/
theorem whole_start {p : Program} {e : Env} {s : State} {m : MethodId} {below : List Frame} {meth : Method} {c : Code} (l : Launch) {b L : Nat} {xs : Nat → Int32} (hL : L ≤ 3584) (C0 : lw_At p s m meth c b L xs) : W p l e room_1 s m #[Value.ref b] below meth c s.heap [] 0 0 (lw_Z below #[Value.ref b] s) (entryFrame m ([Value.ref b] : List Value).toArray 4) := by
  have C1 := C0
  obtain ⟨hx, hb, hr, hml, hown, hts, hX, hbl, hlocks, hgv⟩ := C0
  have hts := fun w h => hts w (wsL_law_in w h)
  obtain ⟨c0, i0, hk0⟩ := u_known (C := RX0) (T := TX0) (N := 4) (n := 4) hts (by decide +kernel) (hts (.instantiable RX0 4) (by decide +kernel))
  obtain ⟨c1, i1, hk1⟩ := u_known (C := RX1) (T := TX1) (N := 4) (n := 4) hts (by decide +kernel) (hts (.instantiable RX1 4) (by decide +kernel))
  obtain ⟨dC, hdX, hdM⟩ : ∃ dC : Nat → ClassId, dC 0 = c0 ∧ dC 1 = c1 := ⟨fun k => if k = 0 then c0 else c1, rfl, rfl⟩
  obtain ⟨dI, hiX, hiM⟩ : ∃ dI : Nat → Nat → Nat, dI 0 = i0 ∧ dI 1 = i1 := ⟨fun k => if k = 0 then i0 else i1, rfl, rfl⟩
  subst hdX
  subst hdM
  subst hiX
  subst hiM
  have hK : va_K (dC, dI) vwCl [] s := by
    refine ⟨fun k q h => ?_, fun k q h => by simp at h⟩
    match k, h with
    | 0, h => obtain rfl := Option.some.inj h; exact hk0
    | 1, h => obtain rfl := Option.some.inj h; exact hk1
  obtain ⟨A, hAd⟩ : ∃ A : Nat → Prop, A = fun q => s.heap.size ≤ q := ⟨_, rfl⟩
  have hA : ∀ q : Nat, s.heap.size ≤ q → A q := fun q h => by rw [hAd]; exact h
  have hA2 : ∀ q : Nat, A q → s.heap.size ≤ q := fun q h => by rw [hAd] at h; exact h
  have hbA : ¬ A b := fun h => Nat.not_le.mpr hbl (hA2 b h)
  have hP : va_P (dC, dI) vwCl [] s.heap := fun k q h => by simp at h
  have hD : va_D A [] := ⟨fun i j x y h => by simp at h, fun k q h => by simp at h⟩
  have hS : va_S A s.heap s.heap [] := va_S.rf
  have hl := lv_entry ([.ref b]) (n := 4) (Nat.le_of_ble_eq_true rfl)
  rw [lg_entry_eq]
  generalize (lg_sl ([Value.ref b]) ++ List.replicate (4 - (lg_sl ([Value.ref b])).length) Slot.unset).toArray = ls at hl ⊢
  have hl : lv_has ls 4 [(0, .ref b)] := hl
  refine va_new (D := (dC, dI)) (ci := 0) (fs := [.null, .null, .null, .int 0]) (C := RX0) (T := TX0) (N := 4) hx hb hts (by decide +kernel) tyX0 tyX0_ok hown (hts (.classLink RL 7 RX0) (by decide +kernel)) (hts (.instantiable RX0 4) (by decide +kernel)) (hts (.initialized RX0) (by decide +kernel)) hK hP hD hS hA rfl (fun j hj => by rcases (show j = 0 ∨ j = 1 ∨ j = 2 ∨ j = 3 by omega) with rfl | rfl | rfl | rfl <;> rfl) (Nat.le_of_ble_eq_true rfl) (Nat.le_of_ble_eq_true rfl) dL_law_0 (fun h0 H hP hD hS => ?_)
  refine W.widen (k := 1) (n := 4) (Nat.le_of_ble_eq_true rfl) (Nat.le_of_ble_eq_true rfl) ?_
  have hP : va_P (dC, dI) vwCl ([(h0, .inr (0, [.null, .null, .null, .int 0]))]) H := hP
  have hD : va_D A ([(h0, .inr (0, [.null, .null, .null, .int 0]))]) := hD
  refine lv_dup hx hb dL_law_3 rfl ?_
  have hPc : va_P (dC, dI) vwCl [(h0, .inr (0, [.null, .null, .null, .int 0]))] H := hP.sub [0] rfl
  have hDc : va_D A [(h0, .inr (0, [.null, .null, .null, .int 0]))] := hD.sub [0] (by decide) rfl
  have hKc : va_K (dC, dI) vwCl [] s := hK.sub [] rfl
  have hFc := va_free (wc := [(h0, .inr (0, [.null, .null, .null, .int 0]))]) hD hS hA [0] rfl
  refine va_callv (va_runI (As := []) (rest := [.ref h0]) ⟨hx, hb, hml, hown, hts⟩ (kX_init l dC dI h0 H.size) (cwI 0 hts gL_law_X0_init rfl rfl rfl (hts (.initialized RX0) (by decide +kernel)) (hts (.methodLink RL 9 yX0_init) (by decide +kernel)) (hts (.instanceMethod yX0_init) (by decide +kernel)) rfl (by decide +kernel) ⟨Nat.le_of_ble_eq_true rfl, Nat.le_of_ble_eq_true rfl⟩) ⟨fun a U g mk q => by obtain ⟨z0, z1, zP, zK, zD⟩ := q; exact ⟨z0, z1, zP, va_K.moved (u := U) (U := U.calling g mk a) (Vm.Alike.refl U.vm) zK, zD⟩, fun U hU hW => ⟨rfl, by rw [hU], by rw [hU]; exact hPc, va_K.moved hW.alike hKc, hDc.weaken (fun _ _ _ _ => trivial)⟩⟩ rfl rfl hl.1 rfl (lv_room (Nat.le_of_ble_eq_true rfl)) dL_law_4 ⟨Nat.le_of_ble_eq_true rfl, Nat.le_of_ble_eq_true rfl⟩) hS (fun q _ h => hFc q h) hFc (fun u t H1 locs ht hvm hw hB hz1 hk1 hS => ?_)
  obtain ⟨q1, q2, q3, cL, cI, cJ⟩ := u
  obtain ⟨hP1, hK1, hD1⟩ := hB
  rw [ht] at hP1
  have hK1 := va_K.moved hvm.symm hK1
  obtain ⟨hP, hD⟩ := va_join (wr := []) (w1 := nt_w 0 h0 q1 q2 q3 cL cI cJ (fun _ => 0) (fun _ => 0) (fun _ => 0) 0) hP hD [0] [] rfl rfl (by decide) (by decide) hk1 hFc hP1 hD1
  have hK := hK.app hK1
  generalize H1 = H at hP hS ⊢
  have hP : va_P (dC, dI) vwCl (nt_w 0 h0 q1 q2 q3 cL cI cJ (fun _ => 0) (fun _ => 0) (fun _ => 0) 0) H := hP
  have hD : va_D A (nt_w 0 h0 q1 q2 q3 cL cI cJ (fun _ => 0) (fun _ => 0) (fun _ => 0) 0) := hD
  have hK : va_K (dC, dI) vwCl (nt_ty cL cI cJ) s := hK
  refine W.widen (k := 4) (n := 2704) (Nat.le_of_ble_eq_true rfl) (Nat.le_of_ble_eq_true rfl) ?_
  refine lv_astore_n (lv' := [(1, .ref h0), (0, .ref b)]) hx hb dL_law_7 rfl hl (by decide) rfl (fun ls hl => ?_)
  refine va_new (D := (dC, dI)) (ci := 1) (fs := [.null, .null, .null, .int 0]) (C := RX1) (T := TX1) (N := 4) hx hb hts (by decide +kernel) tyX1 tyX1_ok hown (hts (.classLink RL 10 RX1) (by decide +kernel)) (hts (.instantiable RX1 4) (by decide +kernel)) (hts (.initialized RX1) (by decide +kernel)) hK hP hD hS hA rfl (fun j hj => by rcases (show j = 0 ∨ j = 1 ∨ j = 2 ∨ j = 3 by omega) with rfl | rfl | rfl | rfl <;> rfl) (Nat.le_of_ble_eq_true rfl) (Nat.le_of_ble_eq_true rfl) dL_law_8 (fun j0 H hP hD hS => ?_)
  refine W.widen (k := 5) (n := 2708) (Nat.le_of_ble_eq_true rfl) (Nat.le_of_ble_eq_true rfl) ?_
  have hP : va_P (dC, dI) vwCl (nt_w 0 h0 q1 q2 q3 cL cI cJ (fun _ => 0) (fun _ => 0) (fun _ => 0) 0 ++ [(j0, .inr (1, [.null, .null, .null, .int 0]))]) H := hP
  have hD : va_D A (nt_w 0 h0 q1 q2 q3 cL cI cJ (fun _ => 0) (fun _ => 0) (fun _ => 0) 0 ++ [(j0, .inr (1, [.null, .null, .null, .int 0]))]) := hD
  refine lv_dup hx hb dL_law_11 rfl ?_
  have hPc : va_P (dC, dI) vwCl [(j0, .inr (1, [.null, .null, .null, .int 0]))] H := hP.sub [4] rfl
  have hDc : va_D A [(j0, .inr (1, [.null, .null, .null, .int 0]))] := hD.sub [4] (by decide) rfl
  have hKc : va_K (dC, dI) vwCl [] s := hK.sub [] rfl
  have hFc := va_free (wc := [(j0, .inr (1, [.null, .null, .null, .int 0]))]) hD hS hA [4] rfl
  refine va_callv (va_runI (As := []) (rest := [.ref j0]) ⟨hx, hb, hml, hown, hts⟩ (kM_init l dC dI j0 H.size) (cwI 0 hts gL_law_X1_init rfl rfl rfl (hts (.initialized RX1) (by decide +kernel)) (hts (.methodLink RL 12 yX1_init) (by decide +kernel)) (hts (.instanceMethod yX1_init) (by decide +kernel)) rfl (by decide +kernel) ⟨Nat.le_of_ble_eq_true rfl, Nat.le_of_ble_eq_true rfl⟩) ⟨fun a U g mk q => by obtain ⟨z0, z1, zP, zK, zD⟩ := q; exact ⟨z0, z1, zP, va_K.moved (u := U) (U := U.calling g mk a) (Vm.Alike.refl U.vm) zK, zD⟩, fun U hU hW => ⟨rfl, by rw [hU], by rw [hU]; exact hPc, va_K.moved hW.alike hKc, hDc.weaken (fun _ _ _ _ => trivial)⟩⟩ rfl rfl hl.1 rfl (lv_room (Nat.le_of_ble_eq_true rfl)) dL_law_12 ⟨Nat.le_of_ble_eq_true rfl, Nat.le_of_ble_eq_true rfl⟩) hS (fun q _ h => hFc q h) hFc (fun u t H1 locs ht hvm hw hB hz1 hk1 hS => ?_)
  obtain ⟨k1, k2, k3, eL, eI, eJ⟩ := u
  obtain ⟨hP1, hK1, hD1⟩ := hB
  rw [ht] at hP1
  have hK1 := va_K.moved hvm.symm hK1
  obtain ⟨hP, hD⟩ := va_join (wr := nt_w 0 h0 q1 q2 q3 cL cI cJ (fun _ => 0) (fun _ => 0) (fun _ => 0) 0) (w1 := nt_w 1 j0 k1 k2 k3 eL eI eJ (fun _ => 0) (fun _ => 0) (fun _ => 0) 0) hP hD [4] [0, 1, 2, 3] rfl rfl (by decide) (by decide) hk1 hFc hP1 hD1
  have hK := hK.app hK1
  generalize H1 = H at hP hS ⊢
  have hP : va_P (dC, dI) vwCl (nt_w 0 h0 q1 q2 q3 cL cI cJ (fun _ => 0) (fun _ => 0) (fun _ => 0) 0 ++ nt_w 1 j0 k1 k2 k3 eL eI eJ (fun _ => 0) (fun _ => 0) (fun _ => 0) 0) H := hP
  have hD : va_D A (nt_w 0 h0 q1 q2 q3 cL cI cJ (fun _ => 0) (fun _ => 0) (fun _ => 0) 0 ++ nt_w 1 j0 k1 k2 k3 eL eI eJ (fun _ => 0) (fun _ => 0) (fun _ => 0) 0) := hD
  have hK : va_K (dC, dI) vwCl (nt_ty cL cI cJ ++ nt_ty eL eI eJ) s := hK
  refine W.widen (k := 8) (n := 5408) (Nat.le_of_ble_eq_true rfl) (Nat.le_of_ble_eq_true rfl) ?_
  refine lv_astore_n (lv' := [(2, .ref j0), (1, .ref h0), (0, .ref b)]) hx hb dL_law_15 rfl hl (by decide) rfl (fun ls hl => ?_)
  refine lv_iconst (v := nI 0) hx hb dL_law_16 (by decide) ?_
  refine lv_istore_n (lv' := [(3, .int (nI 0)), (2, .ref j0), (1, .ref h0), (0, .ref b)]) hx hb dL_law_17 rfl hl (by decide) rfl (fun ls hl => ?_)
  exact lw_loop l hL C1 hK hA hA2 hbA L 0 (by omega) (Nat.zero_le _) nt_0 H locs ls nt_0_ok (lv_sub hl [3, 2, 1, 0] rfl) hP hD hS
end
section
set_option maxHeartbeats 4000000 in
theorem lw_walk (l : Launch) (b : Addr) (xs : List Int32) : MetFree l x (headSpec (Jvm.Cond.code x code maxLocals ret :: tables_1) room_1) (lw_P b xs) (fun _ _ _ _ _ => True) lw_Q := by
  refine MetFree.of_bodyS (code := code) (maxLocals := maxLocals) (ret := ret) (by decide) ?_ ?_
  · intro args s m h hn
    obtain ⟨meth, c, h1, h2, h3, h4, h5, h6, -, -⟩ := Cond.code_spec hn (atoms_spec (ws := Jvm.Cond.code x code maxLocals ret :: tables_1) h _ List.mem_cons_self)
    exact ⟨meth, c, h1, h2, h3, h4, h5, h6⟩
  · intro p e s m args below meth c s₁ B hml0 hP _
    obtain ⟨rfl, hx, hbd, hgv⟩ := hP
    obtain ⟨scr, harrAt, hlist, hof, hsmall⟩ := hx
    obtain ⟨hcb, hkn, -, -⟩ := State.arrayAt?_spec harrAt
    have hown : s.vm.findClass R_law = some m.cls := findClass_of_methodNamed B.named
    have hts0 : ∀ c ∈ (Jvm.Cond.code x code maxLocals ret :: tables_1), c.before #[Value.ref b] s = true := atoms_spec (ws := Jvm.Cond.code x code maxLocals ret :: tables_1) B.pre
    have hts : ∀ w ∈ lw_tbl, w.before #[Value.ref b] s = true := k2_hts_sels lw_privs (fun w hw => hts0 w (List.mem_cons_of_mem _ hw)) lw_privs_ok
    have hml : c.maxLocals = 4 := B.maxLocals_eq (hts0 _ List.mem_cons_self)
    have X₀ : Stand p l e room_1 s m #[Value.ref b] below meth c s₁ [] 0 0 := Stand.of_body B
    have hh0 : s₁.heap = s.heap := by rw [B.state]; rfl
    have hsz : scr.slots.size = xs.length := by rw [← Array.length_toList, hlist, List.length_map]
    have hval : ∀ j : Nat, j < xs.length → scr.slots[j]? = some (.int (xs.getD j 0)) := fun j hj => by
      rw [← Array.getElem?_toList, hlist]
      simp [hj]
    have hbl : b < s.heap.size := (Array.getElem?_eq_some_iff.mp hcb).1
    have hX : va_X b xs.length (fun j => xs.getD j 0) s s.heap := ⟨scr, hcb, hof, hkn, hsz, hval⟩
    have K : W p l e room_1 s m #[Value.ref b] below meth c s₁.heap [] 0 0 (lw_Z below #[Value.ref b] s) (entryFrame m ([Value.ref b] : List Value).toArray 4) := by
      rw [hh0]
      exact whole_start l hbd ⟨B.exec, B.bytes, B.returns, hml, hown, hts, hX, hbl, B.notSynchronized, hgv⟩
    obtain ⟨t, a1, o, b1, b2, b3⟩ := K s₁ rfl X₀
    exact ⟨t, o, a1, b1, b2, b3⟩
theorem lw_pre_spec {args : Array Value} {s : State} (h : (Jvm.Cond.and given_1 narrow_1).before args s = true) (hr : rest_1_c.before args s = true) : ∃ (b : Addr) (xs : List Int32), lw_P b xs args s := by
  have hs := flat_of_before _ h
  have hq := flat_of_before _ hr
  have hc : (Cond.count 1).before args s = true := hs _ (by decide +kernel)
  have harr : (Cond.arrayOf (.arg 0) .int).before args s = true := hs _ (by decide +kernel)
  have hle : (Cond.le (.length (.arg 0)) (.int 3584)).before args s = true := hs _ (by decide +kernel)
  have hlen : (Cond.isInt (.length (.arg 0))).before args s = true := hq _ (by decide +kernel)
  have hall : (Cond.all (.arg 0) (.isInt (.elem (.arg 0) (.index 0)))).before args s = true := hq _ (by decide +kernel)
  obtain ⟨b, xs, hb, hx⟩ := State.ints_of_pre rfl harr hlen hall
  have hsm : xs.length < 2 ^ 31 := hx.choose_spec.2.2.2
  have hev : (Term.length (.arg 0)).eval args s none [] s = some (.int xs.length.toInt32) := hx.length_eval hb
  have hv := Cond.le_ints hev (show (Term.int 3584).eval args s none [] s = some (.int 3584) from rfl)
  have hd : xs.length.toInt32 ≤ 3584 := by
    simpa [Cond.before, Cond.holds, hv] using hle
  have hN : xs.length ≤ 3584 := (Int32.ofNat_le_ofNat hsm (by decide)).mp (show Int32.ofNat xs.length ≤ Int32.ofNat 3584 from hd)
  exact ⟨b, xs, Cond.one_arg hc (show args[0]? = some (.ref b) from hb), hx, hN, h⟩
theorem lw_comes (l : Launch) : Comes l x (Jvm.Cond.code x code maxLocals ret :: tables_1) room_1 (fun tb e args s => Calls_1 tb e args s ∧ rest_1 tb e args s ∧ Pre_1 tb e args s)
    (fun _ _ args s o t => lw_Q args s o t) := by
  intro p e ha hc hk s m args below hf hfit hheap happ hpre
  obtain ⟨b, xs, hP⟩ := lw_pre_spec hpre.2.2 hpre.2.1
  obtain ⟨k, o, h1, h2, h3, hQ⟩ := lw_walk l b xs p e ha hc hk s m args below hf ((Spec.applies_iff_loose hf).mp happ).1 hP trivial
  exact ⟨k, o, h1, h2, h3, hQ⟩
theorem lw_frame {s t : State} {o : Outcome} {args : Array Value} (h : Framed s o t [] 8 5408) :
    Framed s o t (fieldLocs frame_1_writes args s ++ arrayLocs frame_1_arrays args s ++ staticLocs frame_1_statics s) 8 5408 := h
theorem lw_limb (L : Cond) (hL : ∀ (args : Array Value) (s t : State), L.after args s (.returned (some (.int 1))) t = true) :
    ArmFor flags0 classFile x code maxLocals ret World_1 tables_1 room_1 Calls_1 rest_1 Pre_1
      (fun tb e a s o t => postC L tb e a s o t ∧ Framed s o t (fieldLocs frame_1_writes a s ++ arrayLocs frame_1_arrays a s ++ staticLocs frame_1_statics s) 8 5408) := by
  intro l _ _ _ p e ha hc hk s m args below hf hfit hheap happ hpre
  obtain ⟨k, o, h1, h2, h3, rfl, hF⟩ := lw_comes l p e ha hc hk s m args below hf hfit hheap happ hpre
  exact ⟨k, _, h1, h2, h3, hL args s _, lw_frame hF⟩
theorem i_vc : Claimed_1_1 ∧ Claimed_1_2 := ⟨lw_limb limb_1_1 (fun args s t => by simp [limb_1_1, Cond.after, Cond.holds, Cond.value]), lw_limb limb_1_2 (fun args s t => Cond.after_iff.mpr (by
  first | (rw [show limb_1_2 = Cond.eq .result (.int 1) from rfl, Cond.eq_ints (x := 1) (y := 1) rfl rfl]; simp; done) | (simp [limb_1_2, Cond.value, Term.eval]; done)))⟩
end
