/-! ===== BEGIN words of one list among another's, by their places ===== -/
theorem goodIn_r {big : List Cond} (ws : List Cond) (ps : List Nat) (hp : ws = ps.filterMap (fun i => big[i]?)) (h : ws.all goodWord = true) : GoodIn big ws := by
  intro w hw
  have h1 := List.all_eq_true.mp h w hw
  rw [hp] at hw
  obtain ⟨i, -, hi⟩ := List.mem_filterMap.mp hw
  have hm : w ∈ big := by first | exact List.mem_of_getElem? hi | exact List.getElem?_mem hi
  exact ⟨hm, good_of_word h1⟩
theorem goodIn_app {big a b : List Cond} (ha : GoodIn big a) (hb : GoodIn big b) : GoodIn big (a ++ b) := fun w h => (List.mem_append.mp h).elim (ha w) (hb w)
theorem goodIn_ca {big a b : List Cond} {c : Cond} (ha : GoodIn big (c :: a)) (hb : GoodIn big b) : GoodIn big (c :: (a ++ b)) := fun w h => (List.mem_cons.mp h).elim (fun e => ha w (List.mem_cons.mpr (Or.inl e))) (fun h => (List.mem_append.mp h).elim (fun h => ha w (List.mem_cons.mpr (Or.inr h))) (hb w))
theorem goodIn_sub {big ws : List Cond} (hm : ∀ w ∈ ws, w ∈ big) (h : ws.all goodWord = true) : GoodIn big ws := fun w hw => ⟨hm w hw, good_of_word (List.all_eq_true.mp h w hw)⟩
/-! ===== END ===== -/

/-! ===== BEGIN printed: names, fields, word lists, decode rows ===== -/
def RX0 : String := "NameTable"
def TX0 : u_T := fun k => match k with
  | 0 => ("NameTable", "ids", "[J", true)
  | 1 => ("NameTable", "indexes", "[I", true)
  | 2 => ("NameTable", "values", "[I", true)
  | _ => ("NameTable", "count", "I", false)
def tyX0 : Nat → FieldType := fun k => match k with
  | 0 => .array .long
  | 1 => .array .int
  | 2 => .array .int
  | _ => .int
abbrev wsX00 : List Cond := u_ws RX0 TX0 4
theorem nmX0 : ∀ a, a < 4 → ∀ b, b < 4 → a ≠ b → (TX0 a).2.1 ≠ (TX0 b).2.1 := by decide +kernel
theorem tyX0_ok : ∀ k, k < 4 → parseFieldDescriptor (TX0 k).2.2.1 = some (tyX0 k) := by decide +kernel
abbrev cX0_init : ByteArray := prog_1_method_1_code
def yX0_init : MethodName := ⟨RX0, "<init>", "()V"⟩
abbrev cX0_add : ByteArray := prog_1_method_2_code
def yX0_add : MethodName := ⟨RX0, "add", "(JII)I"⟩
abbrev cX0_some : ByteArray := prog_1_method_3_code
def yX0_some : MethodName := ⟨RX0, "some", "(JJII)I"⟩
abbrev cX0_remove : ByteArray := prog_1_method_4_code
def yX0_remove : MethodName := ⟨RX0, "remove", "(JI)I"⟩
abbrev cX0_take : ByteArray := prog_1_method_5_code
def yX0_take : MethodName := ⟨RX0, "take", "(I)I"⟩
abbrev cX0_get : ByteArray := prog_1_method_6_code
def yX0_get : MethodName := ⟨RX0, "get", "(JI)I"⟩
abbrev cX0_name : ByteArray := prog_1_method_7_code
def yX0_name : MethodName := ⟨RX0, "name", "(I)J"⟩
abbrev cX0_index : ByteArray := prog_1_method_8_code
def yX0_index : MethodName := ⟨RX0, "index", "(I)I"⟩
abbrev cX0_many : ByteArray := prog_1_method_9_code
def yX0_many : MethodName := ⟨RX0, "many", "()I"⟩
abbrev cX0_value : ByteArray := prog_1_method_10_code
def yX0_value : MethodName := ⟨RX0, "value", "()J"⟩
abbrev cX0_isIndex : ByteArray := prog_1_method_11_code
def yX0_isIndex : MethodName := ⟨RX0, "isIndex", "(I)Z"⟩
abbrev cX0_isPlace : ByteArray := prog_1_method_12_code
def yX0_isPlace : MethodName := ⟨RX0, "isPlace", "(I)Z"⟩
abbrev cX0_isNamed : ByteArray := prog_1_method_13_code
def yX0_isNamed : MethodName := ⟨RX0, "isNamed", "(IJI)Z"⟩
abbrev cX0_isBefore : ByteArray := prog_1_method_14_code
def yX0_isBefore : MethodName := ⟨RX0, "isBefore", "(IJI)Z"⟩
abbrev cX0_placeFor : ByteArray := prog_1_method_15_code
def yX0_placeFor : MethodName := ⟨RX0, "placeFor", "(JI)I"⟩
abbrev cX0_insertAt : ByteArray := prog_1_method_16_code
def yX0_insertAt : MethodName := ⟨RX0, "insertAt", "(IJII)V"⟩
abbrev cX0_deleteAt : ByteArray := prog_1_method_17_code
def yX0_deleteAt : MethodName := ⟨RX0, "deleteAt", "(I)I"⟩
abbrev cX0_moveTail : ByteArray := prog_1_method_18_code
def yX0_moveTail : MethodName := ⟨RX0, "moveTail", "(II)V"⟩
def RX1 : String := "NameTableModel"
def TX1 : u_T := fun k => match k with
  | 0 => ("NameTableModel", "id", "[J", true)
  | 1 => ("NameTableModel", "index", "[I", true)
  | 2 => ("NameTableModel", "value", "[I", true)
  | _ => ("NameTableModel", "count", "I", false)
def tyX1 : Nat → FieldType := fun k => match k with
  | 0 => .array .long
  | 1 => .array .int
  | 2 => .array .int
  | _ => .int
abbrev wsX10 : List Cond := u_ws RX1 TX1 4
theorem nmX1 : ∀ a, a < 4 → ∀ b, b < 4 → a ≠ b → (TX1 a).2.1 ≠ (TX1 b).2.1 := by decide +kernel
theorem tyX1_ok : ∀ k, k < 4 → parseFieldDescriptor (TX1 k).2.2.1 = some (tyX1 k) := by decide +kernel
abbrev cX1_init : ByteArray := prog_3_method_1_code
def yX1_init : MethodName := ⟨RX1, "<init>", "()V"⟩
abbrev cX1_place : ByteArray := prog_3_method_2_code
def yX1_place : MethodName := ⟨RX1, "place", "(JI)I"⟩
abbrev cX1_is : ByteArray := prog_3_method_3_code
def yX1_is : MethodName := ⟨RX1, "is", "(IJI)Z"⟩
abbrev cX1_add : ByteArray := prog_3_method_4_code
def yX1_add : MethodName := ⟨RX1, "add", "(JII)I"⟩
abbrev cX1_some : ByteArray := prog_3_method_5_code
def yX1_some : MethodName := ⟨RX1, "some", "(JJII)I"⟩
abbrev cX1_go : ByteArray := prog_3_method_6_code
def yX1_go : MethodName := ⟨RX1, "go", "(I)I"⟩
abbrev cX1_remove : ByteArray := prog_3_method_7_code
def yX1_remove : MethodName := ⟨RX1, "remove", "(JI)I"⟩
abbrev cX1_take : ByteArray := prog_3_method_8_code
def yX1_take : MethodName := ⟨RX1, "take", "(I)I"⟩
abbrev cX1_get : ByteArray := prog_3_method_9_code
def yX1_get : MethodName := ⟨RX1, "get", "(JI)I"⟩
abbrev cX1_name : ByteArray := prog_3_method_10_code
def yX1_name : MethodName := ⟨RX1, "name", "(I)J"⟩
abbrev cX1_index : ByteArray := prog_3_method_11_code
def yX1_index : MethodName := ⟨RX1, "index", "(I)I"⟩
abbrev cX1_many : ByteArray := prog_3_method_12_code
def yX1_many : MethodName := ⟨RX1, "many", "()I"⟩
abbrev cX1_value : ByteArray := prog_3_method_13_code
def yX1_value : MethodName := ⟨RX1, "value", "()J"⟩
def RJ10 : String := "java/lang/System"
def TJ10 : u_T := fun k => match k with
  | _ => ("", "", "", false)
def tyJ10 : Nat → FieldType := fun k => match k with
  | _ => .int
abbrev wsJ100 : List Cond := u_ws RJ10 TJ10 0
theorem nmJ10 : ∀ a, a < 0 → ∀ b, b < 0 → a ≠ b → (TJ10 a).2.1 ≠ (TJ10 b).2.1 := by decide +kernel
theorem tyJ10_ok : ∀ k, k < 0 → parseFieldDescriptor (TJ10 k).2.2.1 = some (tyJ10 k) := by decide +kernel
def RL : String := "NameTableLaw"
abbrev cL_law : ByteArray := code
def yL_law : MethodName := ⟨RL, "law", "([I)Z"⟩
def wsX0_init : List Cond := .code yX0_init cX0_init 1 none :: ([.methodLink RX0 1 objectInit, .instanceMethod objectInit, .code objectInit ⟨#[0xb1]⟩ 1 none, .arrayClass .long, .fieldLink RX0 9 "NameTable" "ids" "[J", .arrayClass .int, .fieldLink RX0 13 "NameTable" "indexes" "[I", .fieldLink RX0 17 "NameTable" "values" "[I", .fieldLink RX0 20 "NameTable" "count" "I"] ++ wsX00)
def wsX0_isIndex : List Cond := .code yX0_isIndex cX0_isIndex 1 (some .boolean) :: ([])
def wsX0_isBefore : List Cond := .code yX0_isBefore cX0_isBefore 5 (some .boolean) :: ([.fieldLink RX0 9 "NameTable" "ids" "[J", .fieldLink RX0 13 "NameTable" "indexes" "[I"] ++ wsX00)
def wsX0_placeFor : List Cond := .code yX0_placeFor cX0_placeFor 7 (some .int) :: ([.fieldLink RX0 20 "NameTable" "count" "I", .methodLink RX0 51 yX0_isBefore, .instanceMethod yX0_isBefore, .selects RX0 yX0_isBefore yX0_isBefore, .initialized RX0, .code yX0_isBefore cX0_isBefore 5 (some .boolean), .fieldLink RX0 9 "NameTable" "ids" "[J", .fieldLink RX0 13 "NameTable" "indexes" "[I"] ++ wsX00)
def wsX0_isPlace : List Cond := .code yX0_isPlace cX0_isPlace 2 (some .boolean) :: ([.fieldLink RX0 20 "NameTable" "count" "I"] ++ wsX00)
def wsX0_isNamed : List Cond := .code yX0_isNamed cX0_isNamed 5 (some .boolean) :: ([.fieldLink RX0 9 "NameTable" "ids" "[J", .fieldLink RX0 13 "NameTable" "indexes" "[I", .methodLink RX0 48 yX0_isPlace, .instanceMethod yX0_isPlace, .selects RX0 yX0_isPlace yX0_isPlace, .initialized RX0, .code yX0_isPlace cX0_isPlace 2 (some .boolean), .fieldLink RX0 20 "NameTable" "count" "I"] ++ wsX00)
def wsX0_moveTail : List Cond := .code yX0_moveTail cX0_moveTail 4 none :: ([.fieldLink RX0 20 "NameTable" "count" "I", .fieldLink RX0 9 "NameTable" "ids" "[J", .methodLink RX0 58 arraycopyName, .native arraycopyName, .static arraycopyName, .initialized "java/lang/System", .fieldLink RX0 13 "NameTable" "indexes" "[I", .fieldLink RX0 17 "NameTable" "values" "[I"] ++ wsX00)
def wsX0_insertAt : List Cond := .code yX0_insertAt cX0_insertAt 6 none :: ([.fieldLink RX0 9 "NameTable" "ids" "[J", .fieldLink RX0 13 "NameTable" "indexes" "[I", .fieldLink RX0 17 "NameTable" "values" "[I", .fieldLink RX0 20 "NameTable" "count" "I", .methodLink RX0 54 yX0_moveTail, .instanceMethod yX0_moveTail, .selects RX0 yX0_moveTail yX0_moveTail, .initialized RX0, .code yX0_moveTail cX0_moveTail 4 none, .methodLink RX0 58 arraycopyName, .native arraycopyName, .static arraycopyName, .initialized "java/lang/System"] ++ wsX00)
def wsX0_add_r1 : List Cond := [Cond.fieldLink RX0 20 "NameTable" "count" "I", Cond.methodLink RX0 24 yX0_isIndex, Cond.static yX0_isIndex, Cond.initialized RX0, Cond.code yX0_isIndex cX0_isIndex 1 (some .boolean), Cond.methodLink RX0 28 yX0_placeFor, Cond.instanceMethod yX0_placeFor, Cond.selects RX0 yX0_placeFor yX0_placeFor, Cond.code yX0_placeFor cX0_placeFor 7 (some .int), Cond.methodLink RX0 51 yX0_isBefore, Cond.instanceMethod yX0_isBefore, Cond.selects RX0 yX0_isBefore yX0_isBefore, Cond.code yX0_isBefore cX0_isBefore 5 (some .boolean), Cond.fieldLink RX0 9 "NameTable" "ids" "[J", Cond.fieldLink RX0 13 "NameTable" "indexes" "[I", Cond.methodLink RX0 32 yX0_isNamed, Cond.instanceMethod yX0_isNamed, Cond.selects RX0 yX0_isNamed yX0_isNamed, Cond.code yX0_isNamed cX0_isNamed 5 (some .boolean), Cond.methodLink RX0 48 yX0_isPlace, Cond.instanceMethod yX0_isPlace, Cond.selects RX0 yX0_isPlace yX0_isPlace, Cond.code yX0_isPlace cX0_isPlace 2 (some .boolean), Cond.methodLink RX0 36 yX0_insertAt]
def wsX0_add_r2 : List Cond := [Cond.instanceMethod yX0_insertAt, Cond.selects RX0 yX0_insertAt yX0_insertAt, Cond.code yX0_insertAt cX0_insertAt 6 none, Cond.fieldLink RX0 17 "NameTable" "values" "[I", Cond.methodLink RX0 54 yX0_moveTail, Cond.instanceMethod yX0_moveTail, Cond.selects RX0 yX0_moveTail yX0_moveTail, Cond.code yX0_moveTail cX0_moveTail 4 none, Cond.methodLink RX0 58 arraycopyName, Cond.native arraycopyName, Cond.static arraycopyName, Cond.initialized "java/lang/System"]
def wsX0_add : List Cond := .code yX0_add cX0_add 6 (some .int) :: ((wsX0_add_r1 ++ wsX0_add_r2) ++ wsX00)
def wsX0_some_r1 : List Cond := [Cond.fieldLink RX0 20 "NameTable" "count" "I", Cond.methodLink RX0 40 yX0_add, Cond.instanceMethod yX0_add, Cond.selects RX0 yX0_add yX0_add, Cond.initialized RX0, Cond.code yX0_add cX0_add 6 (some .int), Cond.methodLink RX0 24 yX0_isIndex, Cond.static yX0_isIndex, Cond.code yX0_isIndex cX0_isIndex 1 (some .boolean), Cond.methodLink RX0 28 yX0_placeFor, Cond.instanceMethod yX0_placeFor, Cond.selects RX0 yX0_placeFor yX0_placeFor, Cond.code yX0_placeFor cX0_placeFor 7 (some .int), Cond.methodLink RX0 51 yX0_isBefore, Cond.instanceMethod yX0_isBefore, Cond.selects RX0 yX0_isBefore yX0_isBefore, Cond.code yX0_isBefore cX0_isBefore 5 (some .boolean), Cond.fieldLink RX0 9 "NameTable" "ids" "[J", Cond.fieldLink RX0 13 "NameTable" "indexes" "[I", Cond.methodLink RX0 32 yX0_isNamed, Cond.instanceMethod yX0_isNamed, Cond.selects RX0 yX0_isNamed yX0_isNamed, Cond.code yX0_isNamed cX0_isNamed 5 (some .boolean), Cond.methodLink RX0 48 yX0_isPlace]
def wsX0_some_r2 : List Cond := [Cond.instanceMethod yX0_isPlace, Cond.selects RX0 yX0_isPlace yX0_isPlace, Cond.code yX0_isPlace cX0_isPlace 2 (some .boolean), Cond.methodLink RX0 36 yX0_insertAt, Cond.instanceMethod yX0_insertAt, Cond.selects RX0 yX0_insertAt yX0_insertAt, Cond.code yX0_insertAt cX0_insertAt 6 none, Cond.fieldLink RX0 17 "NameTable" "values" "[I", Cond.methodLink RX0 54 yX0_moveTail, Cond.instanceMethod yX0_moveTail, Cond.selects RX0 yX0_moveTail yX0_moveTail, Cond.code yX0_moveTail cX0_moveTail 4 none, Cond.methodLink RX0 58 arraycopyName, Cond.native arraycopyName, Cond.static arraycopyName, Cond.initialized "java/lang/System"]
def wsX0_some : List Cond := .code yX0_some cX0_some 9 (some .int) :: ((wsX0_some_r1 ++ wsX0_some_r2) ++ wsX00)
def wsX0_deleteAt : List Cond := .code yX0_deleteAt cX0_deleteAt 3 (some .int) :: ([.fieldLink RX0 17 "NameTable" "values" "[I", .fieldLink RX0 20 "NameTable" "count" "I", .methodLink RX0 54 yX0_moveTail, .instanceMethod yX0_moveTail, .selects RX0 yX0_moveTail yX0_moveTail, .initialized RX0, .code yX0_moveTail cX0_moveTail 4 none, .fieldLink RX0 9 "NameTable" "ids" "[J", .methodLink RX0 58 arraycopyName, .native arraycopyName, .static arraycopyName, .initialized "java/lang/System", .fieldLink RX0 13 "NameTable" "indexes" "[I"] ++ wsX00)
def wsX0_remove_r1 : List Cond := [Cond.methodLink RX0 24 yX0_isIndex, Cond.static yX0_isIndex, Cond.initialized RX0, Cond.code yX0_isIndex cX0_isIndex 1 (some .boolean), Cond.methodLink RX0 28 yX0_placeFor, Cond.instanceMethod yX0_placeFor, Cond.selects RX0 yX0_placeFor yX0_placeFor, Cond.code yX0_placeFor cX0_placeFor 7 (some .int), Cond.fieldLink RX0 20 "NameTable" "count" "I", Cond.methodLink RX0 51 yX0_isBefore, Cond.instanceMethod yX0_isBefore, Cond.selects RX0 yX0_isBefore yX0_isBefore, Cond.code yX0_isBefore cX0_isBefore 5 (some .boolean), Cond.fieldLink RX0 9 "NameTable" "ids" "[J", Cond.fieldLink RX0 13 "NameTable" "indexes" "[I", Cond.methodLink RX0 32 yX0_isNamed, Cond.instanceMethod yX0_isNamed, Cond.selects RX0 yX0_isNamed yX0_isNamed, Cond.code yX0_isNamed cX0_isNamed 5 (some .boolean), Cond.methodLink RX0 48 yX0_isPlace, Cond.instanceMethod yX0_isPlace, Cond.selects RX0 yX0_isPlace yX0_isPlace, Cond.code yX0_isPlace cX0_isPlace 2 (some .boolean), Cond.methodLink RX0 44 yX0_deleteAt]
def wsX0_remove_r2 : List Cond := [Cond.instanceMethod yX0_deleteAt, Cond.selects RX0 yX0_deleteAt yX0_deleteAt, Cond.code yX0_deleteAt cX0_deleteAt 3 (some .int), Cond.fieldLink RX0 17 "NameTable" "values" "[I", Cond.methodLink RX0 54 yX0_moveTail, Cond.instanceMethod yX0_moveTail, Cond.selects RX0 yX0_moveTail yX0_moveTail, Cond.code yX0_moveTail cX0_moveTail 4 none, Cond.methodLink RX0 58 arraycopyName, Cond.native arraycopyName, Cond.static arraycopyName, Cond.initialized "java/lang/System"]
def wsX0_remove : List Cond := .code yX0_remove cX0_remove 5 (some .int) :: ((wsX0_remove_r1 ++ wsX0_remove_r2) ++ wsX00)
def wsX0_take : List Cond := .code yX0_take cX0_take 2 (some .int) :: ([.methodLink RX0 48 yX0_isPlace, .instanceMethod yX0_isPlace, .selects RX0 yX0_isPlace yX0_isPlace, .initialized RX0, .code yX0_isPlace cX0_isPlace 2 (some .boolean), .fieldLink RX0 20 "NameTable" "count" "I", .methodLink RX0 44 yX0_deleteAt, .instanceMethod yX0_deleteAt, .selects RX0 yX0_deleteAt yX0_deleteAt, .code yX0_deleteAt cX0_deleteAt 3 (some .int), .fieldLink RX0 17 "NameTable" "values" "[I", .methodLink RX0 54 yX0_moveTail, .instanceMethod yX0_moveTail, .selects RX0 yX0_moveTail yX0_moveTail, .code yX0_moveTail cX0_moveTail 4 none, .fieldLink RX0 9 "NameTable" "ids" "[J", .methodLink RX0 58 arraycopyName, .native arraycopyName, .static arraycopyName, .initialized "java/lang/System", .fieldLink RX0 13 "NameTable" "indexes" "[I"] ++ wsX00)
def wsX0_get : List Cond := .code yX0_get cX0_get 5 (some .int) :: ([.fieldLink RX0 17 "NameTable" "values" "[I", .methodLink RX0 24 yX0_isIndex, .static yX0_isIndex, .initialized RX0, .code yX0_isIndex cX0_isIndex 1 (some .boolean), .methodLink RX0 28 yX0_placeFor, .instanceMethod yX0_placeFor, .selects RX0 yX0_placeFor yX0_placeFor, .code yX0_placeFor cX0_placeFor 7 (some .int), .fieldLink RX0 20 "NameTable" "count" "I", .methodLink RX0 51 yX0_isBefore, .instanceMethod yX0_isBefore, .selects RX0 yX0_isBefore yX0_isBefore, .code yX0_isBefore cX0_isBefore 5 (some .boolean), .fieldLink RX0 9 "NameTable" "ids" "[J", .fieldLink RX0 13 "NameTable" "indexes" "[I", .methodLink RX0 32 yX0_isNamed, .instanceMethod yX0_isNamed, .selects RX0 yX0_isNamed yX0_isNamed, .code yX0_isNamed cX0_isNamed 5 (some .boolean), .methodLink RX0 48 yX0_isPlace, .instanceMethod yX0_isPlace, .selects RX0 yX0_isPlace yX0_isPlace, .code yX0_isPlace cX0_isPlace 2 (some .boolean)] ++ wsX00)
def wsX0_name : List Cond := .code yX0_name cX0_name 2 (some .long) :: ([.fieldLink RX0 9 "NameTable" "ids" "[J", .methodLink RX0 48 yX0_isPlace, .instanceMethod yX0_isPlace, .selects RX0 yX0_isPlace yX0_isPlace, .initialized RX0, .code yX0_isPlace cX0_isPlace 2 (some .boolean), .fieldLink RX0 20 "NameTable" "count" "I"] ++ wsX00)
def wsX0_index : List Cond := .code yX0_index cX0_index 2 (some .int) :: ([.fieldLink RX0 13 "NameTable" "indexes" "[I", .methodLink RX0 48 yX0_isPlace, .instanceMethod yX0_isPlace, .selects RX0 yX0_isPlace yX0_isPlace, .initialized RX0, .code yX0_isPlace cX0_isPlace 2 (some .boolean), .fieldLink RX0 20 "NameTable" "count" "I"] ++ wsX00)
def wsX0_many : List Cond := .code yX0_many cX0_many 1 (some .int) :: ([.fieldLink RX0 20 "NameTable" "count" "I"] ++ wsX00)
def wsX0_value : List Cond := .code yX0_value cX0_value 4 (some .long) :: ([.fieldLink RX0 20 "NameTable" "count" "I", .fieldLink RX0 17 "NameTable" "values" "[I"] ++ wsX00)
def wsX1_init : List Cond := .code yX1_init cX1_init 1 none :: ([.methodLink RX1 1 objectInit, .instanceMethod objectInit, .code objectInit ⟨#[0xb1]⟩ 1 none, .arrayClass .long, .fieldLink RX1 9 "NameTableModel" "id" "[J", .arrayClass .int, .fieldLink RX1 13 "NameTableModel" "index" "[I", .fieldLink RX1 17 "NameTableModel" "value" "[I"] ++ wsX10)
def wsX1_place : List Cond := .code yX1_place cX1_place 5 (some .int) :: ([.fieldLink RX1 20 "NameTableModel" "count" "I", .fieldLink RX1 9 "NameTableModel" "id" "[J", .fieldLink RX1 13 "NameTableModel" "index" "[I"] ++ wsX10)
def wsX1_is : List Cond := .code yX1_is cX1_is 5 (some .boolean) :: ([.fieldLink RX1 20 "NameTableModel" "count" "I", .fieldLink RX1 9 "NameTableModel" "id" "[J", .fieldLink RX1 13 "NameTableModel" "index" "[I"] ++ wsX10)
def wsX1_add : List Cond := .code yX1_add cX1_add 7 (some .int) :: ([.fieldLink RX1 20 "NameTableModel" "count" "I", .fieldLink RX1 9 "NameTableModel" "id" "[J", .fieldLink RX1 13 "NameTableModel" "index" "[I", .fieldLink RX1 17 "NameTableModel" "value" "[I", .methodLink RX1 24 yX1_place, .instanceMethod yX1_place, .selects RX1 yX1_place yX1_place, .initialized RX1, .code yX1_place cX1_place 5 (some .int), .methodLink RX1 28 yX1_is, .instanceMethod yX1_is, .selects RX1 yX1_is yX1_is, .code yX1_is cX1_is 5 (some .boolean)] ++ wsX10)
def wsX1_some : List Cond := .code yX1_some cX1_some 9 (some .int) :: ([.methodLink RX1 32 yX1_add, .instanceMethod yX1_add, .selects RX1 yX1_add yX1_add, .initialized RX1, .code yX1_add cX1_add 7 (some .int), .fieldLink RX1 20 "NameTableModel" "count" "I", .fieldLink RX1 9 "NameTableModel" "id" "[J", .fieldLink RX1 13 "NameTableModel" "index" "[I", .fieldLink RX1 17 "NameTableModel" "value" "[I", .methodLink RX1 24 yX1_place, .instanceMethod yX1_place, .selects RX1 yX1_place yX1_place, .code yX1_place cX1_place 5 (some .int), .methodLink RX1 28 yX1_is, .instanceMethod yX1_is, .selects RX1 yX1_is yX1_is, .code yX1_is cX1_is 5 (some .boolean)] ++ wsX10)
def wsX1_go : List Cond := .code yX1_go cX1_go 4 (some .int) :: ([.fieldLink RX1 17 "NameTableModel" "value" "[I", .fieldLink RX1 20 "NameTableModel" "count" "I", .fieldLink RX1 9 "NameTableModel" "id" "[J", .fieldLink RX1 13 "NameTableModel" "index" "[I"] ++ wsX10)
def wsX1_remove : List Cond := .code yX1_remove cX1_remove 5 (some .int) :: ([.methodLink RX1 24 yX1_place, .instanceMethod yX1_place, .selects RX1 yX1_place yX1_place, .initialized RX1, .code yX1_place cX1_place 5 (some .int), .fieldLink RX1 20 "NameTableModel" "count" "I", .fieldLink RX1 9 "NameTableModel" "id" "[J", .fieldLink RX1 13 "NameTableModel" "index" "[I", .methodLink RX1 28 yX1_is, .instanceMethod yX1_is, .selects RX1 yX1_is yX1_is, .code yX1_is cX1_is 5 (some .boolean), .methodLink RX1 36 yX1_go, .instanceMethod yX1_go, .selects RX1 yX1_go yX1_go, .code yX1_go cX1_go 4 (some .int), .fieldLink RX1 17 "NameTableModel" "value" "[I"] ++ wsX10)
def wsX1_take : List Cond := .code yX1_take cX1_take 2 (some .int) :: ([.fieldLink RX1 20 "NameTableModel" "count" "I", .methodLink RX1 36 yX1_go, .instanceMethod yX1_go, .selects RX1 yX1_go yX1_go, .initialized RX1, .code yX1_go cX1_go 4 (some .int), .fieldLink RX1 17 "NameTableModel" "value" "[I", .fieldLink RX1 9 "NameTableModel" "id" "[J", .fieldLink RX1 13 "NameTableModel" "index" "[I"] ++ wsX10)
def wsX1_get : List Cond := .code yX1_get cX1_get 5 (some .int) :: ([.fieldLink RX1 17 "NameTableModel" "value" "[I", .methodLink RX1 24 yX1_place, .instanceMethod yX1_place, .selects RX1 yX1_place yX1_place, .initialized RX1, .code yX1_place cX1_place 5 (some .int), .fieldLink RX1 20 "NameTableModel" "count" "I", .fieldLink RX1 9 "NameTableModel" "id" "[J", .fieldLink RX1 13 "NameTableModel" "index" "[I", .methodLink RX1 28 yX1_is, .instanceMethod yX1_is, .selects RX1 yX1_is yX1_is, .code yX1_is cX1_is 5 (some .boolean)] ++ wsX10)
def wsX1_name : List Cond := .code yX1_name cX1_name 2 (some .long) :: ([.fieldLink RX1 20 "NameTableModel" "count" "I", .fieldLink RX1 9 "NameTableModel" "id" "[J"] ++ wsX10)
def wsX1_index : List Cond := .code yX1_index cX1_index 2 (some .int) :: ([.fieldLink RX1 20 "NameTableModel" "count" "I", .fieldLink RX1 13 "NameTableModel" "index" "[I"] ++ wsX10)
def wsX1_many : List Cond := .code yX1_many cX1_many 1 (some .int) :: ([.fieldLink RX1 20 "NameTableModel" "count" "I"] ++ wsX10)
def wsX1_value : List Cond := .code yX1_value cX1_value 4 (some .long) :: ([.fieldLink RX1 20 "NameTableModel" "count" "I", .fieldLink RX1 17 "NameTableModel" "value" "[I"] ++ wsX10)
def wsL_law_r1 : List Cond := [Cond.classLink RL 7 RX0, Cond.instantiable RX0 4, Cond.initialized RX0, Cond.classLink RL 10 RX1, Cond.instantiable RX1 4, Cond.initialized RX1, Cond.constantLong RL 13 (4294967295), Cond.methodLink RL 9 yX0_init, Cond.instanceMethod yX0_init, Cond.code yX0_init cX0_init 1 none, Cond.methodLink RX0 1 objectInit, Cond.instanceMethod objectInit, Cond.code objectInit ⟨#[0xb1]⟩ 1 none, Cond.arrayClass .long, Cond.fieldLink RX0 9 "NameTable" "ids" "[J", Cond.arrayClass .int, Cond.fieldLink RX0 13 "NameTable" "indexes" "[I", Cond.fieldLink RX0 17 "NameTable" "values" "[I", Cond.fieldLink RX0 20 "NameTable" "count" "I", Cond.methodLink RL 12 yX1_init, Cond.instanceMethod yX1_init, Cond.code yX1_init cX1_init 1 none, Cond.methodLink RX1 1 objectInit, Cond.fieldLink RX1 9 "NameTableModel" "id" "[J"]
def wsL_law_r2 : List Cond := [Cond.fieldLink RX1 13 "NameTableModel" "index" "[I", Cond.fieldLink RX1 17 "NameTableModel" "value" "[I", Cond.methodLink RL 15 yX0_add, Cond.instanceMethod yX0_add, Cond.selects RX0 yX0_add yX0_add, Cond.code yX0_add cX0_add 6 (some .int), Cond.methodLink RX0 24 yX0_isIndex, Cond.static yX0_isIndex, Cond.code yX0_isIndex cX0_isIndex 1 (some .boolean), Cond.methodLink RX0 28 yX0_placeFor, Cond.instanceMethod yX0_placeFor, Cond.selects RX0 yX0_placeFor yX0_placeFor, Cond.code yX0_placeFor cX0_placeFor 7 (some .int), Cond.methodLink RX0 51 yX0_isBefore, Cond.instanceMethod yX0_isBefore, Cond.selects RX0 yX0_isBefore yX0_isBefore, Cond.code yX0_isBefore cX0_isBefore 5 (some .boolean), Cond.methodLink RX0 32 yX0_isNamed, Cond.instanceMethod yX0_isNamed, Cond.selects RX0 yX0_isNamed yX0_isNamed, Cond.code yX0_isNamed cX0_isNamed 5 (some .boolean), Cond.methodLink RX0 48 yX0_isPlace, Cond.instanceMethod yX0_isPlace, Cond.selects RX0 yX0_isPlace yX0_isPlace]
def wsL_law_r3 : List Cond := [Cond.code yX0_isPlace cX0_isPlace 2 (some .boolean), Cond.methodLink RX0 36 yX0_insertAt, Cond.instanceMethod yX0_insertAt, Cond.selects RX0 yX0_insertAt yX0_insertAt, Cond.code yX0_insertAt cX0_insertAt 6 none, Cond.methodLink RX0 54 yX0_moveTail, Cond.instanceMethod yX0_moveTail, Cond.selects RX0 yX0_moveTail yX0_moveTail, Cond.code yX0_moveTail cX0_moveTail 4 none, Cond.methodLink RX0 58 arraycopyName, Cond.native arraycopyName, Cond.static arraycopyName, Cond.initialized "java/lang/System", Cond.methodLink RL 19 yX1_add, Cond.instanceMethod yX1_add, Cond.selects RX1 yX1_add yX1_add, Cond.code yX1_add cX1_add 7 (some .int), Cond.fieldLink RX1 20 "NameTableModel" "count" "I", Cond.methodLink RX1 24 yX1_place, Cond.instanceMethod yX1_place, Cond.selects RX1 yX1_place yX1_place, Cond.code yX1_place cX1_place 5 (some .int), Cond.methodLink RX1 28 yX1_is, Cond.instanceMethod yX1_is]
def wsL_law_r4 : List Cond := [Cond.selects RX1 yX1_is yX1_is, Cond.code yX1_is cX1_is 5 (some .boolean), Cond.methodLink RL 20 yX0_some, Cond.instanceMethod yX0_some, Cond.selects RX0 yX0_some yX0_some, Cond.code yX0_some cX0_some 9 (some .int), Cond.methodLink RX0 40 yX0_add, Cond.methodLink RL 24 yX1_some, Cond.instanceMethod yX1_some, Cond.selects RX1 yX1_some yX1_some, Cond.code yX1_some cX1_some 9 (some .int), Cond.methodLink RX1 32 yX1_add, Cond.methodLink RL 25 yX0_remove, Cond.instanceMethod yX0_remove, Cond.selects RX0 yX0_remove yX0_remove, Cond.code yX0_remove cX0_remove 5 (some .int), Cond.methodLink RX0 44 yX0_deleteAt, Cond.instanceMethod yX0_deleteAt, Cond.selects RX0 yX0_deleteAt yX0_deleteAt, Cond.code yX0_deleteAt cX0_deleteAt 3 (some .int), Cond.methodLink RL 29 yX1_remove, Cond.instanceMethod yX1_remove, Cond.selects RX1 yX1_remove yX1_remove, Cond.code yX1_remove cX1_remove 5 (some .int)]
def wsL_law_r5 : List Cond := [Cond.methodLink RX1 36 yX1_go, Cond.instanceMethod yX1_go, Cond.selects RX1 yX1_go yX1_go, Cond.code yX1_go cX1_go 4 (some .int), Cond.methodLink RL 30 yX0_take, Cond.instanceMethod yX0_take, Cond.selects RX0 yX0_take yX0_take, Cond.code yX0_take cX0_take 2 (some .int), Cond.methodLink RL 34 yX1_take, Cond.instanceMethod yX1_take, Cond.selects RX1 yX1_take yX1_take, Cond.code yX1_take cX1_take 2 (some .int), Cond.methodLink RL 35 yX0_get, Cond.instanceMethod yX0_get, Cond.selects RX0 yX0_get yX0_get, Cond.code yX0_get cX0_get 5 (some .int), Cond.methodLink RL 38 yX1_get, Cond.instanceMethod yX1_get, Cond.selects RX1 yX1_get yX1_get, Cond.code yX1_get cX1_get 5 (some .int), Cond.methodLink RL 39 yX0_name, Cond.instanceMethod yX0_name, Cond.selects RX0 yX0_name yX0_name, Cond.code yX0_name cX0_name 2 (some .long)]
def wsL_law_r6 : List Cond := [Cond.methodLink RL 43 yX1_name, Cond.instanceMethod yX1_name, Cond.selects RX1 yX1_name yX1_name, Cond.code yX1_name cX1_name 2 (some .long), Cond.methodLink RL 44 yX0_index, Cond.instanceMethod yX0_index, Cond.selects RX0 yX0_index yX0_index, Cond.code yX0_index cX0_index 2 (some .int), Cond.methodLink RL 47 yX1_index, Cond.instanceMethod yX1_index, Cond.selects RX1 yX1_index yX1_index, Cond.code yX1_index cX1_index 2 (some .int), Cond.methodLink RL 48 yX0_many, Cond.instanceMethod yX0_many, Cond.selects RX0 yX0_many yX0_many, Cond.code yX0_many cX0_many 1 (some .int), Cond.methodLink RL 52 yX1_many, Cond.instanceMethod yX1_many, Cond.selects RX1 yX1_many yX1_many, Cond.code yX1_many cX1_many 1 (some .int), Cond.methodLink RL 53 yX0_value, Cond.instanceMethod yX0_value, Cond.selects RX0 yX0_value yX0_value, Cond.code yX0_value cX0_value 4 (some .long)]
def wsL_law_r7 : List Cond := [Cond.methodLink RL 57 yX1_value, Cond.instanceMethod yX1_value, Cond.selects RX1 yX1_value yX1_value, Cond.code yX1_value cX1_value 4 (some .long)]
def wsL_law : List Cond := (wsL_law_r1 ++ (wsL_law_r2 ++ (wsL_law_r3 ++ (wsL_law_r4 ++ (wsL_law_r5 ++ (wsL_law_r6 ++ wsL_law_r7)))))) ++ wsX00 ++ wsX10 ++ ([] : List Cond)
set_option maxRecDepth 20000 in
theorem wsL_law_in : ∀ w ∈ wsL_law, w ∈ lw_tbl := fun w h => (goodIn_p wsL_law [18, 21, 112, 40, 43, 47, 51, 55, 59, 63, 67, 130, 134, 138, 74, 142, 79, 83, 147, 151, 87, 155, 91, 159, 95, 163, 99, 167, 103, 171, 107, 175] (by decide +kernel) (by decide +kernel) w h).1
theorem inlX0 : ∀ w ∈ wsX00, w ∈ wsL_law := fun _ h => List.mem_append_left _ (List.mem_append_left _ (List.mem_append_right _ h))
theorem inX0 : ∀ w ∈ wsX00, w ∈ lw_tbl := fun w h => wsL_law_in w (inlX0 w h)
theorem inlX1 : ∀ w ∈ wsX10, w ∈ wsL_law := fun _ h => List.mem_append_left _ (List.mem_append_right _ h)
theorem inX1 : ∀ w ∈ wsX10, w ∈ lw_tbl := fun w h => wsL_law_in w (inlX1 w h)
theorem inJ10 : ∀ w ∈ wsJ100, w ∈ lw_tbl := by decide +kernel
theorem dX0_init_0 : decode cX0_init 0 = .ok (.aload_n 0, 1) := by decide +kernel
theorem dX0_init_1 : decode cX0_init 1 = .ok (.invokespecial 1, 3) := by decide +kernel
theorem dX0_init_4 : decode cX0_init 4 = .ok (.aload_n 0, 1) := by decide +kernel
theorem dX0_init_5 : decode cX0_init 5 = .ok (.sipush 900, 3) := by decide +kernel
theorem dX0_init_8 : decode cX0_init 8 = .ok (.newarray .long, 2) := by decide +kernel
theorem dX0_init_10 : decode cX0_init 10 = .ok (.putfield 9, 3) := by decide +kernel
theorem dX0_init_13 : decode cX0_init 13 = .ok (.aload_n 0, 1) := by decide +kernel
theorem dX0_init_14 : decode cX0_init 14 = .ok (.sipush 900, 3) := by decide +kernel
theorem dX0_init_17 : decode cX0_init 17 = .ok (.newarray .int, 2) := by decide +kernel
theorem dX0_init_19 : decode cX0_init 19 = .ok (.putfield 13, 3) := by decide +kernel
theorem dX0_init_22 : decode cX0_init 22 = .ok (.aload_n 0, 1) := by decide +kernel
theorem dX0_init_23 : decode cX0_init 23 = .ok (.sipush 900, 3) := by decide +kernel
theorem dX0_init_26 : decode cX0_init 26 = .ok (.newarray .int, 2) := by decide +kernel
theorem dX0_init_28 : decode cX0_init 28 = .ok (.putfield 17, 3) := by decide +kernel
theorem dX0_init_31 : decode cX0_init 31 = .ok (.aload_n 0, 1) := by decide +kernel
theorem dX0_init_32 : decode cX0_init 32 = .ok (.iconst 0, 1) := by decide +kernel
theorem dX0_init_33 : decode cX0_init 33 = .ok (.putfield 20, 3) := by decide +kernel
theorem dX0_init_36 : decode cX0_init 36 = .ok (.return_, 1) := by decide +kernel
set_option maxRecDepth 20000 in
theorem ggX0_add_X0_isIndex : GoodIn wsX0_add wsX0_isIndex := goodIn_r _ [5] (by decide +kernel) (by decide +kernel)
set_option maxRecDepth 20000 in
theorem gX0_add_X0_isIndex : GoodIn wsX0_add (va_wsS RX0 24 yX0_isIndex wsX0_isIndex) := goodIn_app (goodIn_of _ (by decide +kernel)) ggX0_add_X0_isIndex
set_option maxRecDepth 20000 in
theorem ggX0_add_X0_placeFor : GoodIn wsX0_add wsX0_placeFor := goodIn_r _ [9, 1, 10, 11, 12, 4, 13, 14, 15, 37, 38, 39, 40] (by decide +kernel) (by decide +kernel)
set_option maxRecDepth 20000 in
theorem gX0_add_X0_placeFor : GoodIn wsX0_add (wsV RX0 28 RX0 yX0_placeFor wsX0_placeFor) := goodIn_app (goodIn_of _ (by decide +kernel)) ggX0_add_X0_placeFor
set_option maxRecDepth 20000 in
theorem ggX0_add_X0_isNamed : GoodIn wsX0_add wsX0_isNamed := goodIn_r _ [19, 14, 15, 20, 21, 22, 4, 23, 1, 37, 38, 39, 40] (by decide +kernel) (by decide +kernel)
set_option maxRecDepth 20000 in
theorem gX0_add_X0_isNamed : GoodIn wsX0_add (wsV RX0 32 RX0 yX0_isNamed wsX0_isNamed) := goodIn_app (goodIn_of _ (by decide +kernel)) ggX0_add_X0_isNamed
set_option maxRecDepth 20000 in
theorem ggX0_add_X0_insertAt : GoodIn wsX0_add wsX0_insertAt := goodIn_r _ [27, 14, 15, 28, 1, 29, 30, 31, 4, 32, 33, 34, 35, 36, 37, 38, 39, 40] (by decide +kernel) (by decide +kernel)
set_option maxRecDepth 20000 in
theorem gX0_add_X0_insertAt : GoodIn wsX0_add (wsV RX0 36 RX0 yX0_insertAt wsX0_insertAt) := goodIn_app (goodIn_of _ (by decide +kernel)) ggX0_add_X0_insertAt
theorem dX0_add_0 : decode cX0_add 0 = .ok (.iload_n 3, 1) := by decide +kernel
theorem dX0_add_1 : decode cX0_add 1 = .ok (.invokestatic 24, 3) := by decide +kernel
theorem dX0_add_4 : decode cX0_add 4 = .ok (.ifCond .eq 8, 3) := by decide +kernel
theorem dX0_add_7 : decode cX0_add 7 = .ok (.iload 4, 2) := by decide +kernel
theorem dX0_add_9 : decode cX0_add 9 = .ok (.ifCond .ge 5, 3) := by decide +kernel
theorem dX0_add_12 : decode cX0_add 12 = .ok (.iconst (-1), 1) := by decide +kernel
theorem dX0_add_13 : decode cX0_add 13 = .ok (.ireturn, 1) := by decide +kernel
theorem dX0_add_14 : decode cX0_add 14 = .ok (.aload_n 0, 1) := by decide +kernel
theorem dX0_add_15 : decode cX0_add 15 = .ok (.lload_n 1, 1) := by decide +kernel
theorem dX0_add_16 : decode cX0_add 16 = .ok (.iload_n 3, 1) := by decide +kernel
theorem dX0_add_17 : decode cX0_add 17 = .ok (.invokevirtual 28, 3) := by decide +kernel
theorem dX0_add_20 : decode cX0_add 20 = .ok (.istore 5, 2) := by decide +kernel
theorem dX0_add_22 : decode cX0_add 22 = .ok (.aload_n 0, 1) := by decide +kernel
theorem dX0_add_23 : decode cX0_add 23 = .ok (.iload 5, 2) := by decide +kernel
theorem dX0_add_25 : decode cX0_add 25 = .ok (.lload_n 1, 1) := by decide +kernel
theorem dX0_add_26 : decode cX0_add 26 = .ok (.iload_n 3, 1) := by decide +kernel
theorem dX0_add_27 : decode cX0_add 27 = .ok (.invokevirtual 32, 3) := by decide +kernel
theorem dX0_add_30 : decode cX0_add 30 = .ok (.ifCond .eq 6, 3) := by decide +kernel
theorem dX0_add_33 : decode cX0_add 33 = .ok (.bipush (-3), 2) := by decide +kernel
theorem dX0_add_35 : decode cX0_add 35 = .ok (.ireturn, 1) := by decide +kernel
theorem dX0_add_36 : decode cX0_add 36 = .ok (.aload_n 0, 1) := by decide +kernel
theorem dX0_add_37 : decode cX0_add 37 = .ok (.getfield 20, 3) := by decide +kernel
theorem dX0_add_40 : decode cX0_add 40 = .ok (.sipush 900, 3) := by decide +kernel
theorem dX0_add_43 : decode cX0_add 43 = .ok (.if_icmp .lt 6, 3) := by decide +kernel
theorem dX0_add_46 : decode cX0_add 46 = .ok (.bipush (-4), 2) := by decide +kernel
theorem dX0_add_48 : decode cX0_add 48 = .ok (.ireturn, 1) := by decide +kernel
theorem dX0_add_49 : decode cX0_add 49 = .ok (.aload_n 0, 1) := by decide +kernel
theorem dX0_add_50 : decode cX0_add 50 = .ok (.iload 5, 2) := by decide +kernel
theorem dX0_add_52 : decode cX0_add 52 = .ok (.lload_n 1, 1) := by decide +kernel
theorem dX0_add_53 : decode cX0_add 53 = .ok (.iload_n 3, 1) := by decide +kernel
theorem dX0_add_54 : decode cX0_add 54 = .ok (.iload 4, 2) := by decide +kernel
theorem dX0_add_56 : decode cX0_add 56 = .ok (.invokevirtual 36, 3) := by decide +kernel
theorem dX0_add_59 : decode cX0_add 59 = .ok (.aload_n 0, 1) := by decide +kernel
theorem dX0_add_60 : decode cX0_add 60 = .ok (.getfield 20, 3) := by decide +kernel
theorem dX0_add_63 : decode cX0_add 63 = .ok (.ireturn, 1) := by decide +kernel
set_option maxRecDepth 20000 in
theorem ggX0_some_X0_add : GoodIn wsX0_some wsX0_add := goodIn_r _ [6, 1, 7, 8, 5, 9, 10, 11, 12, 13, 14, 15, 16, 17, 18, 19, 20, 21, 22, 23, 24, 25, 26, 27, 28, 29, 30, 31, 32, 33, 34, 35, 36, 37, 38, 39, 40, 41, 42, 43, 44] (by decide +kernel) (by decide +kernel)
set_option maxRecDepth 20000 in
theorem gX0_some_X0_add : GoodIn wsX0_some (wsV RX0 40 RX0 yX0_add wsX0_add) := goodIn_app (goodIn_of _ (by decide +kernel)) ggX0_some_X0_add
theorem dX0_some_0 : decode cX0_some 0 = .ok (.iload 5, 2) := by decide +kernel
theorem dX0_some_2 : decode cX0_some 2 = .ok (.iconst 1, 1) := by decide +kernel
theorem dX0_some_3 : decode cX0_some 3 = .ok (.if_icmp .lt 15, 3) := by decide +kernel
theorem dX0_some_6 : decode cX0_some 6 = .ok (.iload 5, 2) := by decide +kernel
theorem dX0_some_8 : decode cX0_some 8 = .ok (.bipush 100, 2) := by decide +kernel
theorem dX0_some_10 : decode cX0_some 10 = .ok (.if_icmp .gt 8, 3) := by decide +kernel
theorem dX0_some_13 : decode cX0_some 13 = .ok (.iload 6, 2) := by decide +kernel
theorem dX0_some_15 : decode cX0_some 15 = .ok (.ifCond .ge 5, 3) := by decide +kernel
theorem dX0_some_18 : decode cX0_some 18 = .ok (.iconst (-1), 1) := by decide +kernel
theorem dX0_some_19 : decode cX0_some 19 = .ok (.ireturn, 1) := by decide +kernel
theorem dX0_some_20 : decode cX0_some 20 = .ok (.aload_n 0, 1) := by decide +kernel
theorem dX0_some_21 : decode cX0_some 21 = .ok (.getfield 20, 3) := by decide +kernel
theorem dX0_some_24 : decode cX0_some 24 = .ok (.istore 7, 2) := by decide +kernel
theorem dX0_some_26 : decode cX0_some 26 = .ok (.iconst 0, 1) := by decide +kernel
theorem dX0_some_27 : decode cX0_some 27 = .ok (.istore 8, 2) := by decide +kernel
theorem dX0_some_29 : decode cX0_some 29 = .ok (.iload 8, 2) := by decide +kernel
theorem dX0_some_31 : decode cX0_some 31 = .ok (.iload 5, 2) := by decide +kernel
theorem dX0_some_33 : decode cX0_some 33 = .ok (.if_icmp .ge 28, 3) := by decide +kernel
theorem dX0_some_36 : decode cX0_some 36 = .ok (.aload_n 0, 1) := by decide +kernel
theorem dX0_some_37 : decode cX0_some 37 = .ok (.lload_n 1, 1) := by decide +kernel
theorem dX0_some_38 : decode cX0_some 38 = .ok (.iload 8, 2) := by decide +kernel
theorem dX0_some_40 : decode cX0_some 40 = .ok (.i2l, 1) := by decide +kernel
theorem dX0_some_41 : decode cX0_some 41 = .ok (.lload_n 3, 1) := by decide +kernel
theorem dX0_some_42 : decode cX0_some 42 = .ok (.lmul, 1) := by decide +kernel
theorem dX0_some_43 : decode cX0_some 43 = .ok (.ladd, 1) := by decide +kernel
theorem dX0_some_44 : decode cX0_some 44 = .ok (.iload 8, 2) := by decide +kernel
theorem dX0_some_46 : decode cX0_some 46 = .ok (.bipush 8, 2) := by decide +kernel
theorem dX0_some_48 : decode cX0_some 48 = .ok (.irem, 1) := by decide +kernel
theorem dX0_some_49 : decode cX0_some 49 = .ok (.iload 6, 2) := by decide +kernel
theorem dX0_some_51 : decode cX0_some 51 = .ok (.invokevirtual 40, 3) := by decide +kernel
theorem dX0_some_54 : decode cX0_some 54 = .ok (.pop, 1) := by decide +kernel
theorem dX0_some_55 : decode cX0_some 55 = .ok (.iinc 8 1, 3) := by decide +kernel
theorem dX0_some_58 : decode cX0_some 58 = .ok (.goto (-29), 3) := by decide +kernel
theorem dX0_some_61 : decode cX0_some 61 = .ok (.aload_n 0, 1) := by decide +kernel
theorem dX0_some_62 : decode cX0_some 62 = .ok (.getfield 20, 3) := by decide +kernel
theorem dX0_some_65 : decode cX0_some 65 = .ok (.iload 7, 2) := by decide +kernel
theorem dX0_some_67 : decode cX0_some 67 = .ok (.isub, 1) := by decide +kernel
theorem dX0_some_68 : decode cX0_some 68 = .ok (.ireturn, 1) := by decide +kernel
set_option maxRecDepth 20000 in
theorem ggX0_remove_X0_isIndex : GoodIn wsX0_remove wsX0_isIndex := goodIn_r _ [4] (by decide +kernel) (by decide +kernel)
set_option maxRecDepth 20000 in
theorem gX0_remove_X0_isIndex : GoodIn wsX0_remove (va_wsS RX0 24 yX0_isIndex wsX0_isIndex) := goodIn_app (goodIn_of _ (by decide +kernel)) ggX0_remove_X0_isIndex
set_option maxRecDepth 20000 in
theorem ggX0_remove_X0_placeFor : GoodIn wsX0_remove wsX0_placeFor := goodIn_r _ [8, 9, 10, 11, 12, 3, 13, 14, 15, 37, 38, 39, 40] (by decide +kernel) (by decide +kernel)
set_option maxRecDepth 20000 in
theorem gX0_remove_X0_placeFor : GoodIn wsX0_remove (wsV RX0 28 RX0 yX0_placeFor wsX0_placeFor) := goodIn_app (goodIn_of _ (by decide +kernel)) ggX0_remove_X0_placeFor
set_option maxRecDepth 20000 in
theorem ggX0_remove_X0_isNamed : GoodIn wsX0_remove wsX0_isNamed := goodIn_r _ [19, 14, 15, 20, 21, 22, 3, 23, 9, 37, 38, 39, 40] (by decide +kernel) (by decide +kernel)
set_option maxRecDepth 20000 in
theorem gX0_remove_X0_isNamed : GoodIn wsX0_remove (wsV RX0 32 RX0 yX0_isNamed wsX0_isNamed) := goodIn_app (goodIn_of _ (by decide +kernel)) ggX0_remove_X0_isNamed
set_option maxRecDepth 20000 in
theorem ggX0_remove_X0_deleteAt : GoodIn wsX0_remove wsX0_deleteAt := goodIn_r _ [27, 28, 9, 29, 30, 31, 3, 32, 14, 33, 34, 35, 36, 15, 37, 38, 39, 40] (by decide +kernel) (by decide +kernel)
set_option maxRecDepth 20000 in
theorem gX0_remove_X0_deleteAt : GoodIn wsX0_remove (wsV RX0 44 RX0 yX0_deleteAt wsX0_deleteAt) := goodIn_app (goodIn_of _ (by decide +kernel)) ggX0_remove_X0_deleteAt
theorem dX0_remove_0 : decode cX0_remove 0 = .ok (.iload_n 3, 1) := by decide +kernel
theorem dX0_remove_1 : decode cX0_remove 1 = .ok (.invokestatic 24, 3) := by decide +kernel
theorem dX0_remove_4 : decode cX0_remove 4 = .ok (.ifCond .ne 5, 3) := by decide +kernel
theorem dX0_remove_7 : decode cX0_remove 7 = .ok (.iconst (-1), 1) := by decide +kernel
theorem dX0_remove_8 : decode cX0_remove 8 = .ok (.ireturn, 1) := by decide +kernel
theorem dX0_remove_9 : decode cX0_remove 9 = .ok (.aload_n 0, 1) := by decide +kernel
theorem dX0_remove_10 : decode cX0_remove 10 = .ok (.lload_n 1, 1) := by decide +kernel
theorem dX0_remove_11 : decode cX0_remove 11 = .ok (.iload_n 3, 1) := by decide +kernel
theorem dX0_remove_12 : decode cX0_remove 12 = .ok (.invokevirtual 28, 3) := by decide +kernel
theorem dX0_remove_15 : decode cX0_remove 15 = .ok (.istore 4, 2) := by decide +kernel
theorem dX0_remove_17 : decode cX0_remove 17 = .ok (.aload_n 0, 1) := by decide +kernel
theorem dX0_remove_18 : decode cX0_remove 18 = .ok (.iload 4, 2) := by decide +kernel
theorem dX0_remove_20 : decode cX0_remove 20 = .ok (.lload_n 1, 1) := by decide +kernel
theorem dX0_remove_21 : decode cX0_remove 21 = .ok (.iload_n 3, 1) := by decide +kernel
theorem dX0_remove_22 : decode cX0_remove 22 = .ok (.invokevirtual 32, 3) := by decide +kernel
theorem dX0_remove_25 : decode cX0_remove 25 = .ok (.ifCond .eq 12, 3) := by decide +kernel
theorem dX0_remove_28 : decode cX0_remove 28 = .ok (.aload_n 0, 1) := by decide +kernel
theorem dX0_remove_29 : decode cX0_remove 29 = .ok (.iload 4, 2) := by decide +kernel
theorem dX0_remove_31 : decode cX0_remove 31 = .ok (.invokevirtual 44, 3) := by decide +kernel
theorem dX0_remove_34 : decode cX0_remove 34 = .ok (.goto 5, 3) := by decide +kernel
theorem dX0_remove_37 : decode cX0_remove 37 = .ok (.bipush (-2), 2) := by decide +kernel
theorem dX0_remove_39 : decode cX0_remove 39 = .ok (.ireturn, 1) := by decide +kernel
set_option maxRecDepth 20000 in
theorem ggX0_take_X0_isPlace : GoodIn wsX0_take wsX0_isPlace := goodIn_r _ [5, 6, 22, 23, 24, 25] (by decide +kernel) (by decide +kernel)
set_option maxRecDepth 20000 in
theorem gX0_take_X0_isPlace : GoodIn wsX0_take (wsV RX0 48 RX0 yX0_isPlace wsX0_isPlace) := goodIn_app (goodIn_of _ (by decide +kernel)) ggX0_take_X0_isPlace
set_option maxRecDepth 20000 in
theorem ggX0_take_X0_deleteAt : GoodIn wsX0_take wsX0_deleteAt := goodIn_r _ [10, 11, 6, 12, 13, 14, 4, 15, 16, 17, 18, 19, 20, 21, 22, 23, 24, 25] (by decide +kernel) (by decide +kernel)
set_option maxRecDepth 20000 in
theorem gX0_take_X0_deleteAt : GoodIn wsX0_take (wsV RX0 44 RX0 yX0_deleteAt wsX0_deleteAt) := goodIn_app (goodIn_of _ (by decide +kernel)) ggX0_take_X0_deleteAt
theorem dX0_take_0 : decode cX0_take 0 = .ok (.aload_n 0, 1) := by decide +kernel
theorem dX0_take_1 : decode cX0_take 1 = .ok (.iload_n 1, 1) := by decide +kernel
theorem dX0_take_2 : decode cX0_take 2 = .ok (.invokevirtual 48, 3) := by decide +kernel
theorem dX0_take_5 : decode cX0_take 5 = .ok (.ifCond .eq 11, 3) := by decide +kernel
theorem dX0_take_8 : decode cX0_take 8 = .ok (.aload_n 0, 1) := by decide +kernel
theorem dX0_take_9 : decode cX0_take 9 = .ok (.iload_n 1, 1) := by decide +kernel
theorem dX0_take_10 : decode cX0_take 10 = .ok (.invokevirtual 44, 3) := by decide +kernel
theorem dX0_take_13 : decode cX0_take 13 = .ok (.goto 5, 3) := by decide +kernel
theorem dX0_take_16 : decode cX0_take 16 = .ok (.bipush (-2), 2) := by decide +kernel
theorem dX0_take_18 : decode cX0_take 18 = .ok (.ireturn, 1) := by decide +kernel
set_option maxRecDepth 20000 in
theorem ggX0_get_X0_isIndex : GoodIn wsX0_get wsX0_isIndex := goodIn_r _ [5] (by decide +kernel) (by decide +kernel)
set_option maxRecDepth 20000 in
theorem gX0_get_X0_isIndex : GoodIn wsX0_get (va_wsS RX0 24 yX0_isIndex wsX0_isIndex) := goodIn_app (goodIn_of _ (by decide +kernel)) ggX0_get_X0_isIndex
set_option maxRecDepth 20000 in
theorem ggX0_get_X0_placeFor : GoodIn wsX0_get wsX0_placeFor := goodIn_r _ [9, 10, 11, 12, 13, 4, 14, 15, 16, 25, 26, 27, 28] (by decide +kernel) (by decide +kernel)
set_option maxRecDepth 20000 in
theorem gX0_get_X0_placeFor : GoodIn wsX0_get (wsV RX0 28 RX0 yX0_placeFor wsX0_placeFor) := goodIn_app (goodIn_of _ (by decide +kernel)) ggX0_get_X0_placeFor
set_option maxRecDepth 20000 in
theorem ggX0_get_X0_isNamed : GoodIn wsX0_get wsX0_isNamed := goodIn_r _ [20, 15, 16, 21, 22, 23, 4, 24, 10, 25, 26, 27, 28] (by decide +kernel) (by decide +kernel)
set_option maxRecDepth 20000 in
theorem gX0_get_X0_isNamed : GoodIn wsX0_get (wsV RX0 32 RX0 yX0_isNamed wsX0_isNamed) := goodIn_app (goodIn_of _ (by decide +kernel)) ggX0_get_X0_isNamed
theorem dX0_get_0 : decode cX0_get 0 = .ok (.iload_n 3, 1) := by decide +kernel
theorem dX0_get_1 : decode cX0_get 1 = .ok (.invokestatic 24, 3) := by decide +kernel
theorem dX0_get_4 : decode cX0_get 4 = .ok (.ifCond .ne 5, 3) := by decide +kernel
theorem dX0_get_7 : decode cX0_get 7 = .ok (.iconst (-1), 1) := by decide +kernel
theorem dX0_get_8 : decode cX0_get 8 = .ok (.ireturn, 1) := by decide +kernel
theorem dX0_get_9 : decode cX0_get 9 = .ok (.aload_n 0, 1) := by decide +kernel
theorem dX0_get_10 : decode cX0_get 10 = .ok (.lload_n 1, 1) := by decide +kernel
theorem dX0_get_11 : decode cX0_get 11 = .ok (.iload_n 3, 1) := by decide +kernel
theorem dX0_get_12 : decode cX0_get 12 = .ok (.invokevirtual 28, 3) := by decide +kernel
theorem dX0_get_15 : decode cX0_get 15 = .ok (.istore 4, 2) := by decide +kernel
theorem dX0_get_17 : decode cX0_get 17 = .ok (.aload_n 0, 1) := by decide +kernel
theorem dX0_get_18 : decode cX0_get 18 = .ok (.iload 4, 2) := by decide +kernel
theorem dX0_get_20 : decode cX0_get 20 = .ok (.lload_n 1, 1) := by decide +kernel
theorem dX0_get_21 : decode cX0_get 21 = .ok (.iload_n 3, 1) := by decide +kernel
theorem dX0_get_22 : decode cX0_get 22 = .ok (.invokevirtual 32, 3) := by decide +kernel
theorem dX0_get_25 : decode cX0_get 25 = .ok (.ifCond .eq 13, 3) := by decide +kernel
theorem dX0_get_28 : decode cX0_get 28 = .ok (.aload_n 0, 1) := by decide +kernel
theorem dX0_get_29 : decode cX0_get 29 = .ok (.getfield 17, 3) := by decide +kernel
theorem dX0_get_32 : decode cX0_get 32 = .ok (.iload 4, 2) := by decide +kernel
theorem dX0_get_34 : decode cX0_get 34 = .ok (.iaload, 1) := by decide +kernel
theorem dX0_get_35 : decode cX0_get 35 = .ok (.goto 5, 3) := by decide +kernel
theorem dX0_get_38 : decode cX0_get 38 = .ok (.bipush (-2), 2) := by decide +kernel
theorem dX0_get_40 : decode cX0_get 40 = .ok (.ireturn, 1) := by decide +kernel
set_option maxRecDepth 20000 in
theorem ggX0_name_X0_isPlace : GoodIn wsX0_name wsX0_isPlace := goodIn_r _ [6, 7, 8, 9, 10, 11] (by decide +kernel) (by decide +kernel)
set_option maxRecDepth 20000 in
theorem gX0_name_X0_isPlace : GoodIn wsX0_name (wsV RX0 48 RX0 yX0_isPlace wsX0_isPlace) := goodIn_app (goodIn_of _ (by decide +kernel)) ggX0_name_X0_isPlace
theorem dX0_name_0 : decode cX0_name 0 = .ok (.aload_n 0, 1) := by decide +kernel
theorem dX0_name_1 : decode cX0_name 1 = .ok (.iload_n 1, 1) := by decide +kernel
theorem dX0_name_2 : decode cX0_name 2 = .ok (.invokevirtual 48, 3) := by decide +kernel
theorem dX0_name_5 : decode cX0_name 5 = .ok (.ifCond .eq 12, 3) := by decide +kernel
theorem dX0_name_8 : decode cX0_name 8 = .ok (.aload_n 0, 1) := by decide +kernel
theorem dX0_name_9 : decode cX0_name 9 = .ok (.getfield 9, 3) := by decide +kernel
theorem dX0_name_12 : decode cX0_name 12 = .ok (.iload_n 1, 1) := by decide +kernel
theorem dX0_name_13 : decode cX0_name 13 = .ok (.laload, 1) := by decide +kernel
theorem dX0_name_14 : decode cX0_name 14 = .ok (.goto 4, 3) := by decide +kernel
theorem dX0_name_17 : decode cX0_name 17 = .ok (.lconst 0, 1) := by decide +kernel
theorem dX0_name_18 : decode cX0_name 18 = .ok (.lreturn, 1) := by decide +kernel
set_option maxRecDepth 20000 in
theorem ggX0_index_X0_isPlace : GoodIn wsX0_index wsX0_isPlace := goodIn_r _ [6, 7, 8, 9, 10, 11] (by decide +kernel) (by decide +kernel)
set_option maxRecDepth 20000 in
theorem gX0_index_X0_isPlace : GoodIn wsX0_index (wsV RX0 48 RX0 yX0_isPlace wsX0_isPlace) := goodIn_app (goodIn_of _ (by decide +kernel)) ggX0_index_X0_isPlace
theorem dX0_index_0 : decode cX0_index 0 = .ok (.aload_n 0, 1) := by decide +kernel
theorem dX0_index_1 : decode cX0_index 1 = .ok (.iload_n 1, 1) := by decide +kernel
theorem dX0_index_2 : decode cX0_index 2 = .ok (.invokevirtual 48, 3) := by decide +kernel
theorem dX0_index_5 : decode cX0_index 5 = .ok (.ifCond .eq 12, 3) := by decide +kernel
theorem dX0_index_8 : decode cX0_index 8 = .ok (.aload_n 0, 1) := by decide +kernel
theorem dX0_index_9 : decode cX0_index 9 = .ok (.getfield 13, 3) := by decide +kernel
theorem dX0_index_12 : decode cX0_index 12 = .ok (.iload_n 1, 1) := by decide +kernel
theorem dX0_index_13 : decode cX0_index 13 = .ok (.iaload, 1) := by decide +kernel
theorem dX0_index_14 : decode cX0_index 14 = .ok (.goto 5, 3) := by decide +kernel
theorem dX0_index_17 : decode cX0_index 17 = .ok (.bipush (-2), 2) := by decide +kernel
theorem dX0_index_19 : decode cX0_index 19 = .ok (.ireturn, 1) := by decide +kernel
theorem dX0_many_0 : decode cX0_many 0 = .ok (.aload_n 0, 1) := by decide +kernel
theorem dX0_many_1 : decode cX0_many 1 = .ok (.getfield 20, 3) := by decide +kernel
theorem dX0_many_4 : decode cX0_many 4 = .ok (.ireturn, 1) := by decide +kernel
theorem dX0_value_0 : decode cX0_value 0 = .ok (.lconst 0, 1) := by decide +kernel
theorem dX0_value_1 : decode cX0_value 1 = .ok (.lstore_n 1, 1) := by decide +kernel
theorem dX0_value_2 : decode cX0_value 2 = .ok (.iconst 0, 1) := by decide +kernel
theorem dX0_value_3 : decode cX0_value 3 = .ok (.istore_n 3, 1) := by decide +kernel
theorem dX0_value_4 : decode cX0_value 4 = .ok (.iload_n 3, 1) := by decide +kernel
theorem dX0_value_5 : decode cX0_value 5 = .ok (.aload_n 0, 1) := by decide +kernel
theorem dX0_value_6 : decode cX0_value 6 = .ok (.getfield 20, 3) := by decide +kernel
theorem dX0_value_9 : decode cX0_value 9 = .ok (.if_icmp .ge 19, 3) := by decide +kernel
theorem dX0_value_12 : decode cX0_value 12 = .ok (.lload_n 1, 1) := by decide +kernel
theorem dX0_value_13 : decode cX0_value 13 = .ok (.aload_n 0, 1) := by decide +kernel
theorem dX0_value_14 : decode cX0_value 14 = .ok (.getfield 17, 3) := by decide +kernel
theorem dX0_value_17 : decode cX0_value 17 = .ok (.iload_n 3, 1) := by decide +kernel
theorem dX0_value_18 : decode cX0_value 18 = .ok (.iaload, 1) := by decide +kernel
theorem dX0_value_19 : decode cX0_value 19 = .ok (.i2l, 1) := by decide +kernel
theorem dX0_value_20 : decode cX0_value 20 = .ok (.ladd, 1) := by decide +kernel
theorem dX0_value_21 : decode cX0_value 21 = .ok (.lstore_n 1, 1) := by decide +kernel
theorem dX0_value_22 : decode cX0_value 22 = .ok (.iinc 3 1, 3) := by decide +kernel
theorem dX0_value_25 : decode cX0_value 25 = .ok (.goto (-21), 3) := by decide +kernel
theorem dX0_value_28 : decode cX0_value 28 = .ok (.lload_n 1, 1) := by decide +kernel
theorem dX0_value_29 : decode cX0_value 29 = .ok (.lreturn, 1) := by decide +kernel
theorem dX0_isIndex_0 : decode cX0_isIndex 0 = .ok (.iload_n 0, 1) := by decide +kernel
theorem dX0_isIndex_1 : decode cX0_isIndex 1 = .ok (.ifCond .lt 13, 3) := by decide +kernel
theorem dX0_isIndex_4 : decode cX0_isIndex 4 = .ok (.iload_n 0, 1) := by decide +kernel
theorem dX0_isIndex_5 : decode cX0_isIndex 5 = .ok (.bipush 8, 2) := by decide +kernel
theorem dX0_isIndex_7 : decode cX0_isIndex 7 = .ok (.if_icmp .ge 7, 3) := by decide +kernel
theorem dX0_isIndex_10 : decode cX0_isIndex 10 = .ok (.iconst 1, 1) := by decide +kernel
theorem dX0_isIndex_11 : decode cX0_isIndex 11 = .ok (.goto 4, 3) := by decide +kernel
theorem dX0_isIndex_14 : decode cX0_isIndex 14 = .ok (.iconst 0, 1) := by decide +kernel
theorem dX0_isIndex_15 : decode cX0_isIndex 15 = .ok (.ireturn, 1) := by decide +kernel
theorem dX0_isPlace_0 : decode cX0_isPlace 0 = .ok (.iload_n 1, 1) := by decide +kernel
theorem dX0_isPlace_1 : decode cX0_isPlace 1 = .ok (.ifCond .lt 15, 3) := by decide +kernel
theorem dX0_isPlace_4 : decode cX0_isPlace 4 = .ok (.iload_n 1, 1) := by decide +kernel
theorem dX0_isPlace_5 : decode cX0_isPlace 5 = .ok (.aload_n 0, 1) := by decide +kernel
theorem dX0_isPlace_6 : decode cX0_isPlace 6 = .ok (.getfield 20, 3) := by decide +kernel
theorem dX0_isPlace_9 : decode cX0_isPlace 9 = .ok (.if_icmp .ge 7, 3) := by decide +kernel
theorem dX0_isPlace_12 : decode cX0_isPlace 12 = .ok (.iconst 1, 1) := by decide +kernel
theorem dX0_isPlace_13 : decode cX0_isPlace 13 = .ok (.goto 4, 3) := by decide +kernel
theorem dX0_isPlace_16 : decode cX0_isPlace 16 = .ok (.iconst 0, 1) := by decide +kernel
theorem dX0_isPlace_17 : decode cX0_isPlace 17 = .ok (.ireturn, 1) := by decide +kernel
set_option maxRecDepth 20000 in
theorem ggX0_isNamed_X0_isPlace : GoodIn wsX0_isNamed wsX0_isPlace := goodIn_r _ [7, 8, 9, 10, 11, 12] (by decide +kernel) (by decide +kernel)
set_option maxRecDepth 20000 in
theorem gX0_isNamed_X0_isPlace : GoodIn wsX0_isNamed (wsV RX0 48 RX0 yX0_isPlace wsX0_isPlace) := goodIn_app (goodIn_of _ (by decide +kernel)) ggX0_isNamed_X0_isPlace
theorem dX0_isNamed_0 : decode cX0_isNamed 0 = .ok (.aload_n 0, 1) := by decide +kernel
theorem dX0_isNamed_1 : decode cX0_isNamed 1 = .ok (.iload_n 1, 1) := by decide +kernel
theorem dX0_isNamed_2 : decode cX0_isNamed 2 = .ok (.invokevirtual 48, 3) := by decide +kernel
theorem dX0_isNamed_5 : decode cX0_isNamed 5 = .ok (.ifCond .eq 29, 3) := by decide +kernel
theorem dX0_isNamed_8 : decode cX0_isNamed 8 = .ok (.aload_n 0, 1) := by decide +kernel
theorem dX0_isNamed_9 : decode cX0_isNamed 9 = .ok (.getfield 9, 3) := by decide +kernel
theorem dX0_isNamed_12 : decode cX0_isNamed 12 = .ok (.iload_n 1, 1) := by decide +kernel
theorem dX0_isNamed_13 : decode cX0_isNamed 13 = .ok (.laload, 1) := by decide +kernel
theorem dX0_isNamed_14 : decode cX0_isNamed 14 = .ok (.lload_n 2, 1) := by decide +kernel
theorem dX0_isNamed_15 : decode cX0_isNamed 15 = .ok (.lcmp, 1) := by decide +kernel
theorem dX0_isNamed_16 : decode cX0_isNamed 16 = .ok (.ifCond .ne 18, 3) := by decide +kernel
theorem dX0_isNamed_19 : decode cX0_isNamed 19 = .ok (.aload_n 0, 1) := by decide +kernel
theorem dX0_isNamed_20 : decode cX0_isNamed 20 = .ok (.getfield 13, 3) := by decide +kernel
theorem dX0_isNamed_23 : decode cX0_isNamed 23 = .ok (.iload_n 1, 1) := by decide +kernel
theorem dX0_isNamed_24 : decode cX0_isNamed 24 = .ok (.iaload, 1) := by decide +kernel
theorem dX0_isNamed_25 : decode cX0_isNamed 25 = .ok (.iload 4, 2) := by decide +kernel
theorem dX0_isNamed_27 : decode cX0_isNamed 27 = .ok (.if_icmp .ne 7, 3) := by decide +kernel
theorem dX0_isNamed_30 : decode cX0_isNamed 30 = .ok (.iconst 1, 1) := by decide +kernel
theorem dX0_isNamed_31 : decode cX0_isNamed 31 = .ok (.goto 4, 3) := by decide +kernel
theorem dX0_isNamed_34 : decode cX0_isNamed 34 = .ok (.iconst 0, 1) := by decide +kernel
theorem dX0_isNamed_35 : decode cX0_isNamed 35 = .ok (.ireturn, 1) := by decide +kernel
theorem dX0_isBefore_0 : decode cX0_isBefore 0 = .ok (.aload_n 0, 1) := by decide +kernel
theorem dX0_isBefore_1 : decode cX0_isBefore 1 = .ok (.getfield 9, 3) := by decide +kernel
theorem dX0_isBefore_4 : decode cX0_isBefore 4 = .ok (.iload_n 1, 1) := by decide +kernel
theorem dX0_isBefore_5 : decode cX0_isBefore 5 = .ok (.laload, 1) := by decide +kernel
theorem dX0_isBefore_6 : decode cX0_isBefore 6 = .ok (.lload_n 2, 1) := by decide +kernel
theorem dX0_isBefore_7 : decode cX0_isBefore 7 = .ok (.lcmp, 1) := by decide +kernel
theorem dX0_isBefore_8 : decode cX0_isBefore 8 = .ok (.ifCond .lt 25, 3) := by decide +kernel
theorem dX0_isBefore_11 : decode cX0_isBefore 11 = .ok (.aload_n 0, 1) := by decide +kernel
theorem dX0_isBefore_12 : decode cX0_isBefore 12 = .ok (.getfield 9, 3) := by decide +kernel
theorem dX0_isBefore_15 : decode cX0_isBefore 15 = .ok (.iload_n 1, 1) := by decide +kernel
theorem dX0_isBefore_16 : decode cX0_isBefore 16 = .ok (.laload, 1) := by decide +kernel
theorem dX0_isBefore_17 : decode cX0_isBefore 17 = .ok (.lload_n 2, 1) := by decide +kernel
theorem dX0_isBefore_18 : decode cX0_isBefore 18 = .ok (.lcmp, 1) := by decide +kernel
theorem dX0_isBefore_19 : decode cX0_isBefore 19 = .ok (.ifCond .ne 18, 3) := by decide +kernel
theorem dX0_isBefore_22 : decode cX0_isBefore 22 = .ok (.aload_n 0, 1) := by decide +kernel
theorem dX0_isBefore_23 : decode cX0_isBefore 23 = .ok (.getfield 13, 3) := by decide +kernel
theorem dX0_isBefore_26 : decode cX0_isBefore 26 = .ok (.iload_n 1, 1) := by decide +kernel
theorem dX0_isBefore_27 : decode cX0_isBefore 27 = .ok (.iaload, 1) := by decide +kernel
theorem dX0_isBefore_28 : decode cX0_isBefore 28 = .ok (.iload 4, 2) := by decide +kernel
theorem dX0_isBefore_30 : decode cX0_isBefore 30 = .ok (.if_icmp .ge 7, 3) := by decide +kernel
theorem dX0_isBefore_33 : decode cX0_isBefore 33 = .ok (.iconst 1, 1) := by decide +kernel
theorem dX0_isBefore_34 : decode cX0_isBefore 34 = .ok (.goto 4, 3) := by decide +kernel
theorem dX0_isBefore_37 : decode cX0_isBefore 37 = .ok (.iconst 0, 1) := by decide +kernel
theorem dX0_isBefore_38 : decode cX0_isBefore 38 = .ok (.ireturn, 1) := by decide +kernel
set_option maxRecDepth 20000 in
theorem ggX0_placeFor_X0_isBefore : GoodIn wsX0_placeFor wsX0_isBefore := goodIn_r _ [6, 7, 8, 9, 10, 11, 12] (by decide +kernel) (by decide +kernel)
set_option maxRecDepth 20000 in
theorem gX0_placeFor_X0_isBefore : GoodIn wsX0_placeFor (wsV RX0 51 RX0 yX0_isBefore wsX0_isBefore) := goodIn_app (goodIn_of _ (by decide +kernel)) ggX0_placeFor_X0_isBefore
theorem dX0_placeFor_0 : decode cX0_placeFor 0 = .ok (.iconst 0, 1) := by decide +kernel
theorem dX0_placeFor_1 : decode cX0_placeFor 1 = .ok (.istore 4, 2) := by decide +kernel
theorem dX0_placeFor_3 : decode cX0_placeFor 3 = .ok (.sipush 512, 3) := by decide +kernel
theorem dX0_placeFor_6 : decode cX0_placeFor 6 = .ok (.istore 5, 2) := by decide +kernel
theorem dX0_placeFor_8 : decode cX0_placeFor 8 = .ok (.iload 5, 2) := by decide +kernel
theorem dX0_placeFor_10 : decode cX0_placeFor 10 = .ok (.ifCond .le 45, 3) := by decide +kernel
theorem dX0_placeFor_13 : decode cX0_placeFor 13 = .ok (.iload 4, 2) := by decide +kernel
theorem dX0_placeFor_15 : decode cX0_placeFor 15 = .ok (.iload 5, 2) := by decide +kernel
theorem dX0_placeFor_17 : decode cX0_placeFor 17 = .ok (.iadd, 1) := by decide +kernel
theorem dX0_placeFor_18 : decode cX0_placeFor 18 = .ok (.istore 6, 2) := by decide +kernel
theorem dX0_placeFor_20 : decode cX0_placeFor 20 = .ok (.iload 6, 2) := by decide +kernel
theorem dX0_placeFor_22 : decode cX0_placeFor 22 = .ok (.aload_n 0, 1) := by decide +kernel
theorem dX0_placeFor_23 : decode cX0_placeFor 23 = .ok (.getfield 20, 3) := by decide +kernel
theorem dX0_placeFor_26 : decode cX0_placeFor 26 = .ok (.if_icmp .gt 20, 3) := by decide +kernel
theorem dX0_placeFor_29 : decode cX0_placeFor 29 = .ok (.aload_n 0, 1) := by decide +kernel
theorem dX0_placeFor_30 : decode cX0_placeFor 30 = .ok (.iload 6, 2) := by decide +kernel
theorem dX0_placeFor_32 : decode cX0_placeFor 32 = .ok (.iconst 1, 1) := by decide +kernel
theorem dX0_placeFor_33 : decode cX0_placeFor 33 = .ok (.isub, 1) := by decide +kernel
theorem dX0_placeFor_34 : decode cX0_placeFor 34 = .ok (.lload_n 1, 1) := by decide +kernel
theorem dX0_placeFor_35 : decode cX0_placeFor 35 = .ok (.iload_n 3, 1) := by decide +kernel
theorem dX0_placeFor_36 : decode cX0_placeFor 36 = .ok (.invokevirtual 51, 3) := by decide +kernel
theorem dX0_placeFor_39 : decode cX0_placeFor 39 = .ok (.ifCond .eq 7, 3) := by decide +kernel
theorem dX0_placeFor_42 : decode cX0_placeFor 42 = .ok (.iload 6, 2) := by decide +kernel
theorem dX0_placeFor_44 : decode cX0_placeFor 44 = .ok (.istore 4, 2) := by decide +kernel
theorem dX0_placeFor_46 : decode cX0_placeFor 46 = .ok (.iload 5, 2) := by decide +kernel
theorem dX0_placeFor_48 : decode cX0_placeFor 48 = .ok (.iconst 2, 1) := by decide +kernel
theorem dX0_placeFor_49 : decode cX0_placeFor 49 = .ok (.idiv, 1) := by decide +kernel
theorem dX0_placeFor_50 : decode cX0_placeFor 50 = .ok (.istore 5, 2) := by decide +kernel
theorem dX0_placeFor_52 : decode cX0_placeFor 52 = .ok (.goto (-44), 3) := by decide +kernel
theorem dX0_placeFor_55 : decode cX0_placeFor 55 = .ok (.iload 4, 2) := by decide +kernel
theorem dX0_placeFor_57 : decode cX0_placeFor 57 = .ok (.ireturn, 1) := by decide +kernel
set_option maxRecDepth 20000 in
theorem ggX0_insertAt_X0_moveTail : GoodIn wsX0_insertAt wsX0_moveTail := goodIn_r _ [9, 4, 1, 10, 11, 12, 13, 2, 3, 14, 15, 16, 17] (by decide +kernel) (by decide +kernel)
set_option maxRecDepth 20000 in
theorem gX0_insertAt_X0_moveTail : GoodIn wsX0_insertAt (wsV RX0 54 RX0 yX0_moveTail wsX0_moveTail) := goodIn_app (goodIn_of _ (by decide +kernel)) ggX0_insertAt_X0_moveTail
theorem dX0_insertAt_0 : decode cX0_insertAt 0 = .ok (.aload_n 0, 1) := by decide +kernel
theorem dX0_insertAt_1 : decode cX0_insertAt 1 = .ok (.iload_n 1, 1) := by decide +kernel
theorem dX0_insertAt_2 : decode cX0_insertAt 2 = .ok (.iload_n 1, 1) := by decide +kernel
theorem dX0_insertAt_3 : decode cX0_insertAt 3 = .ok (.iconst 1, 1) := by decide +kernel
theorem dX0_insertAt_4 : decode cX0_insertAt 4 = .ok (.iadd, 1) := by decide +kernel
theorem dX0_insertAt_5 : decode cX0_insertAt 5 = .ok (.invokevirtual 54, 3) := by decide +kernel
theorem dX0_insertAt_8 : decode cX0_insertAt 8 = .ok (.aload_n 0, 1) := by decide +kernel
theorem dX0_insertAt_9 : decode cX0_insertAt 9 = .ok (.getfield 9, 3) := by decide +kernel
theorem dX0_insertAt_12 : decode cX0_insertAt 12 = .ok (.iload_n 1, 1) := by decide +kernel
theorem dX0_insertAt_13 : decode cX0_insertAt 13 = .ok (.lload_n 2, 1) := by decide +kernel
theorem dX0_insertAt_14 : decode cX0_insertAt 14 = .ok (.lastore, 1) := by decide +kernel
theorem dX0_insertAt_15 : decode cX0_insertAt 15 = .ok (.aload_n 0, 1) := by decide +kernel
theorem dX0_insertAt_16 : decode cX0_insertAt 16 = .ok (.getfield 13, 3) := by decide +kernel
theorem dX0_insertAt_19 : decode cX0_insertAt 19 = .ok (.iload_n 1, 1) := by decide +kernel
theorem dX0_insertAt_20 : decode cX0_insertAt 20 = .ok (.iload 4, 2) := by decide +kernel
theorem dX0_insertAt_22 : decode cX0_insertAt 22 = .ok (.iastore, 1) := by decide +kernel
theorem dX0_insertAt_23 : decode cX0_insertAt 23 = .ok (.aload_n 0, 1) := by decide +kernel
theorem dX0_insertAt_24 : decode cX0_insertAt 24 = .ok (.getfield 17, 3) := by decide +kernel
theorem dX0_insertAt_27 : decode cX0_insertAt 27 = .ok (.iload_n 1, 1) := by decide +kernel
theorem dX0_insertAt_28 : decode cX0_insertAt 28 = .ok (.iload 5, 2) := by decide +kernel
theorem dX0_insertAt_30 : decode cX0_insertAt 30 = .ok (.iastore, 1) := by decide +kernel
theorem dX0_insertAt_31 : decode cX0_insertAt 31 = .ok (.aload_n 0, 1) := by decide +kernel
theorem dX0_insertAt_32 : decode cX0_insertAt 32 = .ok (.dup, 1) := by decide +kernel
theorem dX0_insertAt_33 : decode cX0_insertAt 33 = .ok (.getfield 20, 3) := by decide +kernel
theorem dX0_insertAt_36 : decode cX0_insertAt 36 = .ok (.iconst 1, 1) := by decide +kernel
theorem dX0_insertAt_37 : decode cX0_insertAt 37 = .ok (.iadd, 1) := by decide +kernel
theorem dX0_insertAt_38 : decode cX0_insertAt 38 = .ok (.putfield 20, 3) := by decide +kernel
theorem dX0_insertAt_41 : decode cX0_insertAt 41 = .ok (.return_, 1) := by decide +kernel
set_option maxRecDepth 20000 in
theorem ggX0_deleteAt_X0_moveTail : GoodIn wsX0_deleteAt wsX0_moveTail := goodIn_r _ [7, 2, 8, 9, 10, 11, 12, 13, 1, 14, 15, 16, 17] (by decide +kernel) (by decide +kernel)
set_option maxRecDepth 20000 in
theorem gX0_deleteAt_X0_moveTail : GoodIn wsX0_deleteAt (wsV RX0 54 RX0 yX0_moveTail wsX0_moveTail) := goodIn_app (goodIn_of _ (by decide +kernel)) ggX0_deleteAt_X0_moveTail
theorem dX0_deleteAt_0 : decode cX0_deleteAt 0 = .ok (.aload_n 0, 1) := by decide +kernel
theorem dX0_deleteAt_1 : decode cX0_deleteAt 1 = .ok (.getfield 17, 3) := by decide +kernel
theorem dX0_deleteAt_4 : decode cX0_deleteAt 4 = .ok (.iload_n 1, 1) := by decide +kernel
theorem dX0_deleteAt_5 : decode cX0_deleteAt 5 = .ok (.iaload, 1) := by decide +kernel
theorem dX0_deleteAt_6 : decode cX0_deleteAt 6 = .ok (.istore_n 2, 1) := by decide +kernel
theorem dX0_deleteAt_7 : decode cX0_deleteAt 7 = .ok (.aload_n 0, 1) := by decide +kernel
theorem dX0_deleteAt_8 : decode cX0_deleteAt 8 = .ok (.iload_n 1, 1) := by decide +kernel
theorem dX0_deleteAt_9 : decode cX0_deleteAt 9 = .ok (.iconst 1, 1) := by decide +kernel
theorem dX0_deleteAt_10 : decode cX0_deleteAt 10 = .ok (.iadd, 1) := by decide +kernel
theorem dX0_deleteAt_11 : decode cX0_deleteAt 11 = .ok (.iload_n 1, 1) := by decide +kernel
theorem dX0_deleteAt_12 : decode cX0_deleteAt 12 = .ok (.invokevirtual 54, 3) := by decide +kernel
theorem dX0_deleteAt_15 : decode cX0_deleteAt 15 = .ok (.aload_n 0, 1) := by decide +kernel
theorem dX0_deleteAt_16 : decode cX0_deleteAt 16 = .ok (.dup, 1) := by decide +kernel
theorem dX0_deleteAt_17 : decode cX0_deleteAt 17 = .ok (.getfield 20, 3) := by decide +kernel
theorem dX0_deleteAt_20 : decode cX0_deleteAt 20 = .ok (.iconst 1, 1) := by decide +kernel
theorem dX0_deleteAt_21 : decode cX0_deleteAt 21 = .ok (.isub, 1) := by decide +kernel
theorem dX0_deleteAt_22 : decode cX0_deleteAt 22 = .ok (.putfield 20, 3) := by decide +kernel
theorem dX0_deleteAt_25 : decode cX0_deleteAt 25 = .ok (.iload_n 2, 1) := by decide +kernel
theorem dX0_deleteAt_26 : decode cX0_deleteAt 26 = .ok (.ireturn, 1) := by decide +kernel
theorem dX0_moveTail_0 : decode cX0_moveTail 0 = .ok (.aload_n 0, 1) := by decide +kernel
theorem dX0_moveTail_1 : decode cX0_moveTail 1 = .ok (.getfield 20, 3) := by decide +kernel
theorem dX0_moveTail_4 : decode cX0_moveTail 4 = .ok (.iload_n 1, 1) := by decide +kernel
theorem dX0_moveTail_5 : decode cX0_moveTail 5 = .ok (.isub, 1) := by decide +kernel
theorem dX0_moveTail_6 : decode cX0_moveTail 6 = .ok (.istore_n 3, 1) := by decide +kernel
theorem dX0_moveTail_7 : decode cX0_moveTail 7 = .ok (.aload_n 0, 1) := by decide +kernel
theorem dX0_moveTail_8 : decode cX0_moveTail 8 = .ok (.getfield 9, 3) := by decide +kernel
theorem dX0_moveTail_11 : decode cX0_moveTail 11 = .ok (.iload_n 1, 1) := by decide +kernel
theorem dX0_moveTail_12 : decode cX0_moveTail 12 = .ok (.aload_n 0, 1) := by decide +kernel
theorem dX0_moveTail_13 : decode cX0_moveTail 13 = .ok (.getfield 9, 3) := by decide +kernel
theorem dX0_moveTail_16 : decode cX0_moveTail 16 = .ok (.iload_n 2, 1) := by decide +kernel
theorem dX0_moveTail_17 : decode cX0_moveTail 17 = .ok (.iload_n 3, 1) := by decide +kernel
theorem dX0_moveTail_18 : decode cX0_moveTail 18 = .ok (.invokestatic 58, 3) := by decide +kernel
theorem dX0_moveTail_21 : decode cX0_moveTail 21 = .ok (.aload_n 0, 1) := by decide +kernel
theorem dX0_moveTail_22 : decode cX0_moveTail 22 = .ok (.getfield 13, 3) := by decide +kernel
theorem dX0_moveTail_25 : decode cX0_moveTail 25 = .ok (.iload_n 1, 1) := by decide +kernel
theorem dX0_moveTail_26 : decode cX0_moveTail 26 = .ok (.aload_n 0, 1) := by decide +kernel
theorem dX0_moveTail_27 : decode cX0_moveTail 27 = .ok (.getfield 13, 3) := by decide +kernel
theorem dX0_moveTail_30 : decode cX0_moveTail 30 = .ok (.iload_n 2, 1) := by decide +kernel
theorem dX0_moveTail_31 : decode cX0_moveTail 31 = .ok (.iload_n 3, 1) := by decide +kernel
theorem dX0_moveTail_32 : decode cX0_moveTail 32 = .ok (.invokestatic 58, 3) := by decide +kernel
theorem dX0_moveTail_35 : decode cX0_moveTail 35 = .ok (.aload_n 0, 1) := by decide +kernel
theorem dX0_moveTail_36 : decode cX0_moveTail 36 = .ok (.getfield 17, 3) := by decide +kernel
theorem dX0_moveTail_39 : decode cX0_moveTail 39 = .ok (.iload_n 1, 1) := by decide +kernel
theorem dX0_moveTail_40 : decode cX0_moveTail 40 = .ok (.aload_n 0, 1) := by decide +kernel
theorem dX0_moveTail_41 : decode cX0_moveTail 41 = .ok (.getfield 17, 3) := by decide +kernel
theorem dX0_moveTail_44 : decode cX0_moveTail 44 = .ok (.iload_n 2, 1) := by decide +kernel
theorem dX0_moveTail_45 : decode cX0_moveTail 45 = .ok (.iload_n 3, 1) := by decide +kernel
theorem dX0_moveTail_46 : decode cX0_moveTail 46 = .ok (.invokestatic 58, 3) := by decide +kernel
theorem dX0_moveTail_49 : decode cX0_moveTail 49 = .ok (.return_, 1) := by decide +kernel
theorem dX1_init_0 : decode cX1_init 0 = .ok (.aload_n 0, 1) := by decide +kernel
theorem dX1_init_1 : decode cX1_init 1 = .ok (.invokespecial 1, 3) := by decide +kernel
theorem dX1_init_4 : decode cX1_init 4 = .ok (.aload_n 0, 1) := by decide +kernel
theorem dX1_init_5 : decode cX1_init 5 = .ok (.sipush 900, 3) := by decide +kernel
theorem dX1_init_8 : decode cX1_init 8 = .ok (.newarray .long, 2) := by decide +kernel
theorem dX1_init_10 : decode cX1_init 10 = .ok (.putfield 9, 3) := by decide +kernel
theorem dX1_init_13 : decode cX1_init 13 = .ok (.aload_n 0, 1) := by decide +kernel
theorem dX1_init_14 : decode cX1_init 14 = .ok (.sipush 900, 3) := by decide +kernel
theorem dX1_init_17 : decode cX1_init 17 = .ok (.newarray .int, 2) := by decide +kernel
theorem dX1_init_19 : decode cX1_init 19 = .ok (.putfield 13, 3) := by decide +kernel
theorem dX1_init_22 : decode cX1_init 22 = .ok (.aload_n 0, 1) := by decide +kernel
theorem dX1_init_23 : decode cX1_init 23 = .ok (.sipush 900, 3) := by decide +kernel
theorem dX1_init_26 : decode cX1_init 26 = .ok (.newarray .int, 2) := by decide +kernel
theorem dX1_init_28 : decode cX1_init 28 = .ok (.putfield 17, 3) := by decide +kernel
theorem dX1_init_31 : decode cX1_init 31 = .ok (.return_, 1) := by decide +kernel
theorem dX1_place_0 : decode cX1_place 0 = .ok (.iconst 0, 1) := by decide +kernel
theorem dX1_place_1 : decode cX1_place 1 = .ok (.istore 4, 2) := by decide +kernel
theorem dX1_place_3 : decode cX1_place 3 = .ok (.iload 4, 2) := by decide +kernel
theorem dX1_place_5 : decode cX1_place 5 = .ok (.aload_n 0, 1) := by decide +kernel
theorem dX1_place_6 : decode cX1_place 6 = .ok (.getfield 20, 3) := by decide +kernel
theorem dX1_place_9 : decode cX1_place 9 = .ok (.if_icmp .ge 44, 3) := by decide +kernel
theorem dX1_place_12 : decode cX1_place 12 = .ok (.aload_n 0, 1) := by decide +kernel
theorem dX1_place_13 : decode cX1_place 13 = .ok (.getfield 9, 3) := by decide +kernel
theorem dX1_place_16 : decode cX1_place 16 = .ok (.iload 4, 2) := by decide +kernel
theorem dX1_place_18 : decode cX1_place 18 = .ok (.laload, 1) := by decide +kernel
theorem dX1_place_19 : decode cX1_place 19 = .ok (.lload_n 1, 1) := by decide +kernel
theorem dX1_place_20 : decode cX1_place 20 = .ok (.lcmp, 1) := by decide +kernel
theorem dX1_place_21 : decode cX1_place 21 = .ok (.ifCond .lt 26, 3) := by decide +kernel
theorem dX1_place_24 : decode cX1_place 24 = .ok (.aload_n 0, 1) := by decide +kernel
theorem dX1_place_25 : decode cX1_place 25 = .ok (.getfield 9, 3) := by decide +kernel
theorem dX1_place_28 : decode cX1_place 28 = .ok (.iload 4, 2) := by decide +kernel
theorem dX1_place_30 : decode cX1_place 30 = .ok (.laload, 1) := by decide +kernel
theorem dX1_place_31 : decode cX1_place 31 = .ok (.lload_n 1, 1) := by decide +kernel
theorem dX1_place_32 : decode cX1_place 32 = .ok (.lcmp, 1) := by decide +kernel
theorem dX1_place_33 : decode cX1_place 33 = .ok (.ifCond .ne 20, 3) := by decide +kernel
theorem dX1_place_36 : decode cX1_place 36 = .ok (.aload_n 0, 1) := by decide +kernel
theorem dX1_place_37 : decode cX1_place 37 = .ok (.getfield 13, 3) := by decide +kernel
theorem dX1_place_40 : decode cX1_place 40 = .ok (.iload 4, 2) := by decide +kernel
theorem dX1_place_42 : decode cX1_place 42 = .ok (.iaload, 1) := by decide +kernel
theorem dX1_place_43 : decode cX1_place 43 = .ok (.iload_n 3, 1) := by decide +kernel
theorem dX1_place_44 : decode cX1_place 44 = .ok (.if_icmp .ge 9, 3) := by decide +kernel
theorem dX1_place_47 : decode cX1_place 47 = .ok (.iinc 4 1, 3) := by decide +kernel
theorem dX1_place_50 : decode cX1_place 50 = .ok (.goto (-47), 3) := by decide +kernel
theorem dX1_place_53 : decode cX1_place 53 = .ok (.iload 4, 2) := by decide +kernel
theorem dX1_place_55 : decode cX1_place 55 = .ok (.ireturn, 1) := by decide +kernel
theorem dX1_is_0 : decode cX1_is 0 = .ok (.iload_n 1, 1) := by decide +kernel
theorem dX1_is_1 : decode cX1_is 1 = .ok (.aload_n 0, 1) := by decide +kernel
theorem dX1_is_2 : decode cX1_is 2 = .ok (.getfield 20, 3) := by decide +kernel
theorem dX1_is_5 : decode cX1_is 5 = .ok (.if_icmp .ge 29, 3) := by decide +kernel
theorem dX1_is_8 : decode cX1_is 8 = .ok (.aload_n 0, 1) := by decide +kernel
theorem dX1_is_9 : decode cX1_is 9 = .ok (.getfield 9, 3) := by decide +kernel
theorem dX1_is_12 : decode cX1_is 12 = .ok (.iload_n 1, 1) := by decide +kernel
theorem dX1_is_13 : decode cX1_is 13 = .ok (.laload, 1) := by decide +kernel
theorem dX1_is_14 : decode cX1_is 14 = .ok (.lload_n 2, 1) := by decide +kernel
theorem dX1_is_15 : decode cX1_is 15 = .ok (.lcmp, 1) := by decide +kernel
theorem dX1_is_16 : decode cX1_is 16 = .ok (.ifCond .ne 18, 3) := by decide +kernel
theorem dX1_is_19 : decode cX1_is 19 = .ok (.aload_n 0, 1) := by decide +kernel
theorem dX1_is_20 : decode cX1_is 20 = .ok (.getfield 13, 3) := by decide +kernel
theorem dX1_is_23 : decode cX1_is 23 = .ok (.iload_n 1, 1) := by decide +kernel
theorem dX1_is_24 : decode cX1_is 24 = .ok (.iaload, 1) := by decide +kernel
theorem dX1_is_25 : decode cX1_is 25 = .ok (.iload 4, 2) := by decide +kernel
theorem dX1_is_27 : decode cX1_is 27 = .ok (.if_icmp .ne 7, 3) := by decide +kernel
theorem dX1_is_30 : decode cX1_is 30 = .ok (.iconst 1, 1) := by decide +kernel
theorem dX1_is_31 : decode cX1_is 31 = .ok (.goto 4, 3) := by decide +kernel
theorem dX1_is_34 : decode cX1_is 34 = .ok (.iconst 0, 1) := by decide +kernel
theorem dX1_is_35 : decode cX1_is 35 = .ok (.ireturn, 1) := by decide +kernel
set_option maxRecDepth 20000 in
theorem ggX1_add_X1_place : GoodIn wsX1_add wsX1_place := goodIn_r _ [9, 1, 2, 3, 14, 15, 16, 17] (by decide +kernel) (by decide +kernel)
set_option maxRecDepth 20000 in
theorem gX1_add_X1_place : GoodIn wsX1_add (wsV RX1 24 RX1 yX1_place wsX1_place) := goodIn_app (goodIn_of _ (by decide +kernel)) ggX1_add_X1_place
set_option maxRecDepth 20000 in
theorem ggX1_add_X1_is : GoodIn wsX1_add wsX1_is := goodIn_r _ [13, 1, 2, 3, 14, 15, 16, 17] (by decide +kernel) (by decide +kernel)
set_option maxRecDepth 20000 in
theorem gX1_add_X1_is : GoodIn wsX1_add (wsV RX1 28 RX1 yX1_is wsX1_is) := goodIn_app (goodIn_of _ (by decide +kernel)) ggX1_add_X1_is
theorem dX1_add_0 : decode cX1_add 0 = .ok (.iload_n 3, 1) := by decide +kernel
theorem dX1_add_1 : decode cX1_add 1 = .ok (.ifCond .lt 14, 3) := by decide +kernel
theorem dX1_add_4 : decode cX1_add 4 = .ok (.iload_n 3, 1) := by decide +kernel
theorem dX1_add_5 : decode cX1_add 5 = .ok (.bipush 7, 2) := by decide +kernel
theorem dX1_add_7 : decode cX1_add 7 = .ok (.if_icmp .gt 8, 3) := by decide +kernel
theorem dX1_add_10 : decode cX1_add 10 = .ok (.iload 4, 2) := by decide +kernel
theorem dX1_add_12 : decode cX1_add 12 = .ok (.ifCond .ge 5, 3) := by decide +kernel
theorem dX1_add_15 : decode cX1_add 15 = .ok (.iconst (-1), 1) := by decide +kernel
theorem dX1_add_16 : decode cX1_add 16 = .ok (.ireturn, 1) := by decide +kernel
theorem dX1_add_17 : decode cX1_add 17 = .ok (.aload_n 0, 1) := by decide +kernel
theorem dX1_add_18 : decode cX1_add 18 = .ok (.lload_n 1, 1) := by decide +kernel
theorem dX1_add_19 : decode cX1_add 19 = .ok (.iload_n 3, 1) := by decide +kernel
theorem dX1_add_20 : decode cX1_add 20 = .ok (.invokevirtual 24, 3) := by decide +kernel
theorem dX1_add_23 : decode cX1_add 23 = .ok (.istore 5, 2) := by decide +kernel
theorem dX1_add_25 : decode cX1_add 25 = .ok (.aload_n 0, 1) := by decide +kernel
theorem dX1_add_26 : decode cX1_add 26 = .ok (.iload 5, 2) := by decide +kernel
theorem dX1_add_28 : decode cX1_add 28 = .ok (.lload_n 1, 1) := by decide +kernel
theorem dX1_add_29 : decode cX1_add 29 = .ok (.iload_n 3, 1) := by decide +kernel
theorem dX1_add_30 : decode cX1_add 30 = .ok (.invokevirtual 28, 3) := by decide +kernel
theorem dX1_add_33 : decode cX1_add 33 = .ok (.ifCond .eq 6, 3) := by decide +kernel
theorem dX1_add_36 : decode cX1_add 36 = .ok (.bipush (-3), 2) := by decide +kernel
theorem dX1_add_38 : decode cX1_add 38 = .ok (.ireturn, 1) := by decide +kernel
theorem dX1_add_39 : decode cX1_add 39 = .ok (.aload_n 0, 1) := by decide +kernel
theorem dX1_add_40 : decode cX1_add 40 = .ok (.getfield 20, 3) := by decide +kernel
theorem dX1_add_43 : decode cX1_add 43 = .ok (.sipush 900, 3) := by decide +kernel
theorem dX1_add_46 : decode cX1_add 46 = .ok (.if_icmp .ne 6, 3) := by decide +kernel
theorem dX1_add_49 : decode cX1_add 49 = .ok (.bipush (-4), 2) := by decide +kernel
theorem dX1_add_51 : decode cX1_add 51 = .ok (.ireturn, 1) := by decide +kernel
theorem dX1_add_52 : decode cX1_add 52 = .ok (.aload_n 0, 1) := by decide +kernel
theorem dX1_add_53 : decode cX1_add 53 = .ok (.getfield 20, 3) := by decide +kernel
theorem dX1_add_56 : decode cX1_add 56 = .ok (.istore 6, 2) := by decide +kernel
theorem dX1_add_58 : decode cX1_add 58 = .ok (.iload 6, 2) := by decide +kernel
theorem dX1_add_60 : decode cX1_add 60 = .ok (.iload 5, 2) := by decide +kernel
theorem dX1_add_62 : decode cX1_add 62 = .ok (.if_icmp .le 57, 3) := by decide +kernel
theorem dX1_add_65 : decode cX1_add 65 = .ok (.aload_n 0, 1) := by decide +kernel
theorem dX1_add_66 : decode cX1_add 66 = .ok (.getfield 9, 3) := by decide +kernel
theorem dX1_add_69 : decode cX1_add 69 = .ok (.iload 6, 2) := by decide +kernel
theorem dX1_add_71 : decode cX1_add 71 = .ok (.aload_n 0, 1) := by decide +kernel
theorem dX1_add_72 : decode cX1_add 72 = .ok (.getfield 9, 3) := by decide +kernel
theorem dX1_add_75 : decode cX1_add 75 = .ok (.iload 6, 2) := by decide +kernel
theorem dX1_add_77 : decode cX1_add 77 = .ok (.iconst 1, 1) := by decide +kernel
theorem dX1_add_78 : decode cX1_add 78 = .ok (.isub, 1) := by decide +kernel
theorem dX1_add_79 : decode cX1_add 79 = .ok (.laload, 1) := by decide +kernel
theorem dX1_add_80 : decode cX1_add 80 = .ok (.lastore, 1) := by decide +kernel
theorem dX1_add_81 : decode cX1_add 81 = .ok (.aload_n 0, 1) := by decide +kernel
theorem dX1_add_82 : decode cX1_add 82 = .ok (.getfield 13, 3) := by decide +kernel
theorem dX1_add_85 : decode cX1_add 85 = .ok (.iload 6, 2) := by decide +kernel
theorem dX1_add_87 : decode cX1_add 87 = .ok (.aload_n 0, 1) := by decide +kernel
theorem dX1_add_88 : decode cX1_add 88 = .ok (.getfield 13, 3) := by decide +kernel
theorem dX1_add_91 : decode cX1_add 91 = .ok (.iload 6, 2) := by decide +kernel
theorem dX1_add_93 : decode cX1_add 93 = .ok (.iconst 1, 1) := by decide +kernel
theorem dX1_add_94 : decode cX1_add 94 = .ok (.isub, 1) := by decide +kernel
theorem dX1_add_95 : decode cX1_add 95 = .ok (.iaload, 1) := by decide +kernel
theorem dX1_add_96 : decode cX1_add 96 = .ok (.iastore, 1) := by decide +kernel
theorem dX1_add_97 : decode cX1_add 97 = .ok (.aload_n 0, 1) := by decide +kernel
theorem dX1_add_98 : decode cX1_add 98 = .ok (.getfield 17, 3) := by decide +kernel
theorem dX1_add_101 : decode cX1_add 101 = .ok (.iload 6, 2) := by decide +kernel
theorem dX1_add_103 : decode cX1_add 103 = .ok (.aload_n 0, 1) := by decide +kernel
theorem dX1_add_104 : decode cX1_add 104 = .ok (.getfield 17, 3) := by decide +kernel
theorem dX1_add_107 : decode cX1_add 107 = .ok (.iload 6, 2) := by decide +kernel
theorem dX1_add_109 : decode cX1_add 109 = .ok (.iconst 1, 1) := by decide +kernel
theorem dX1_add_110 : decode cX1_add 110 = .ok (.isub, 1) := by decide +kernel
theorem dX1_add_111 : decode cX1_add 111 = .ok (.iaload, 1) := by decide +kernel
theorem dX1_add_112 : decode cX1_add 112 = .ok (.iastore, 1) := by decide +kernel
theorem dX1_add_113 : decode cX1_add 113 = .ok (.iinc 6 (-1), 3) := by decide +kernel
theorem dX1_add_116 : decode cX1_add 116 = .ok (.goto (-58), 3) := by decide +kernel
theorem dX1_add_119 : decode cX1_add 119 = .ok (.aload_n 0, 1) := by decide +kernel
theorem dX1_add_120 : decode cX1_add 120 = .ok (.getfield 9, 3) := by decide +kernel
theorem dX1_add_123 : decode cX1_add 123 = .ok (.iload 5, 2) := by decide +kernel
theorem dX1_add_125 : decode cX1_add 125 = .ok (.lload_n 1, 1) := by decide +kernel
theorem dX1_add_126 : decode cX1_add 126 = .ok (.lastore, 1) := by decide +kernel
theorem dX1_add_127 : decode cX1_add 127 = .ok (.aload_n 0, 1) := by decide +kernel
theorem dX1_add_128 : decode cX1_add 128 = .ok (.getfield 13, 3) := by decide +kernel
theorem dX1_add_131 : decode cX1_add 131 = .ok (.iload 5, 2) := by decide +kernel
theorem dX1_add_133 : decode cX1_add 133 = .ok (.iload_n 3, 1) := by decide +kernel
theorem dX1_add_134 : decode cX1_add 134 = .ok (.iastore, 1) := by decide +kernel
theorem dX1_add_135 : decode cX1_add 135 = .ok (.aload_n 0, 1) := by decide +kernel
theorem dX1_add_136 : decode cX1_add 136 = .ok (.getfield 17, 3) := by decide +kernel
theorem dX1_add_139 : decode cX1_add 139 = .ok (.iload 5, 2) := by decide +kernel
theorem dX1_add_141 : decode cX1_add 141 = .ok (.iload 4, 2) := by decide +kernel
theorem dX1_add_143 : decode cX1_add 143 = .ok (.iastore, 1) := by decide +kernel
theorem dX1_add_144 : decode cX1_add 144 = .ok (.aload_n 0, 1) := by decide +kernel
theorem dX1_add_145 : decode cX1_add 145 = .ok (.dup, 1) := by decide +kernel
theorem dX1_add_146 : decode cX1_add 146 = .ok (.getfield 20, 3) := by decide +kernel
theorem dX1_add_149 : decode cX1_add 149 = .ok (.iconst 1, 1) := by decide +kernel
theorem dX1_add_150 : decode cX1_add 150 = .ok (.iadd, 1) := by decide +kernel
theorem dX1_add_151 : decode cX1_add 151 = .ok (.putfield 20, 3) := by decide +kernel
theorem dX1_add_154 : decode cX1_add 154 = .ok (.aload_n 0, 1) := by decide +kernel
theorem dX1_add_155 : decode cX1_add 155 = .ok (.getfield 20, 3) := by decide +kernel
theorem dX1_add_158 : decode cX1_add 158 = .ok (.ireturn, 1) := by decide +kernel
set_option maxRecDepth 20000 in
theorem ggX1_some_X1_add : GoodIn wsX1_some wsX1_add := goodIn_r _ [5, 6, 7, 8, 9, 10, 11, 12, 4, 13, 14, 15, 16, 17, 18, 19, 20, 21] (by decide +kernel) (by decide +kernel)
set_option maxRecDepth 20000 in
theorem gX1_some_X1_add : GoodIn wsX1_some (wsV RX1 32 RX1 yX1_add wsX1_add) := goodIn_app (goodIn_of _ (by decide +kernel)) ggX1_some_X1_add
theorem dX1_some_0 : decode cX1_some 0 = .ok (.iload 5, 2) := by decide +kernel
theorem dX1_some_2 : decode cX1_some 2 = .ok (.iconst 1, 1) := by decide +kernel
theorem dX1_some_3 : decode cX1_some 3 = .ok (.if_icmp .lt 15, 3) := by decide +kernel
theorem dX1_some_6 : decode cX1_some 6 = .ok (.iload 5, 2) := by decide +kernel
theorem dX1_some_8 : decode cX1_some 8 = .ok (.bipush 100, 2) := by decide +kernel
theorem dX1_some_10 : decode cX1_some 10 = .ok (.if_icmp .gt 8, 3) := by decide +kernel
theorem dX1_some_13 : decode cX1_some 13 = .ok (.iload 6, 2) := by decide +kernel
theorem dX1_some_15 : decode cX1_some 15 = .ok (.ifCond .ge 5, 3) := by decide +kernel
theorem dX1_some_18 : decode cX1_some 18 = .ok (.iconst (-1), 1) := by decide +kernel
theorem dX1_some_19 : decode cX1_some 19 = .ok (.ireturn, 1) := by decide +kernel
theorem dX1_some_20 : decode cX1_some 20 = .ok (.iconst 0, 1) := by decide +kernel
theorem dX1_some_21 : decode cX1_some 21 = .ok (.istore 7, 2) := by decide +kernel
theorem dX1_some_23 : decode cX1_some 23 = .ok (.iconst 0, 1) := by decide +kernel
theorem dX1_some_24 : decode cX1_some 24 = .ok (.istore 8, 2) := by decide +kernel
theorem dX1_some_26 : decode cX1_some 26 = .ok (.iload 8, 2) := by decide +kernel
theorem dX1_some_28 : decode cX1_some 28 = .ok (.iload 5, 2) := by decide +kernel
theorem dX1_some_30 : decode cX1_some 30 = .ok (.if_icmp .ge 33, 3) := by decide +kernel
theorem dX1_some_33 : decode cX1_some 33 = .ok (.aload_n 0, 1) := by decide +kernel
theorem dX1_some_34 : decode cX1_some 34 = .ok (.lload_n 1, 1) := by decide +kernel
theorem dX1_some_35 : decode cX1_some 35 = .ok (.iload 8, 2) := by decide +kernel
theorem dX1_some_37 : decode cX1_some 37 = .ok (.i2l, 1) := by decide +kernel
theorem dX1_some_38 : decode cX1_some 38 = .ok (.lload_n 3, 1) := by decide +kernel
theorem dX1_some_39 : decode cX1_some 39 = .ok (.lmul, 1) := by decide +kernel
theorem dX1_some_40 : decode cX1_some 40 = .ok (.ladd, 1) := by decide +kernel
theorem dX1_some_41 : decode cX1_some 41 = .ok (.iload 8, 2) := by decide +kernel
theorem dX1_some_43 : decode cX1_some 43 = .ok (.bipush 8, 2) := by decide +kernel
theorem dX1_some_45 : decode cX1_some 45 = .ok (.irem, 1) := by decide +kernel
theorem dX1_some_46 : decode cX1_some 46 = .ok (.iload 6, 2) := by decide +kernel
theorem dX1_some_48 : decode cX1_some 48 = .ok (.invokevirtual 32, 3) := by decide +kernel
theorem dX1_some_51 : decode cX1_some 51 = .ok (.ifCond .le 6, 3) := by decide +kernel
theorem dX1_some_54 : decode cX1_some 54 = .ok (.iinc 7 1, 3) := by decide +kernel
theorem dX1_some_57 : decode cX1_some 57 = .ok (.iinc 8 1, 3) := by decide +kernel
theorem dX1_some_60 : decode cX1_some 60 = .ok (.goto (-34), 3) := by decide +kernel
theorem dX1_some_63 : decode cX1_some 63 = .ok (.iload 7, 2) := by decide +kernel
theorem dX1_some_65 : decode cX1_some 65 = .ok (.ireturn, 1) := by decide +kernel
theorem dX1_go_0 : decode cX1_go 0 = .ok (.aload_n 0, 1) := by decide +kernel
theorem dX1_go_1 : decode cX1_go 1 = .ok (.getfield 17, 3) := by decide +kernel
theorem dX1_go_4 : decode cX1_go 4 = .ok (.iload_n 1, 1) := by decide +kernel
theorem dX1_go_5 : decode cX1_go 5 = .ok (.iaload, 1) := by decide +kernel
theorem dX1_go_6 : decode cX1_go 6 = .ok (.istore_n 2, 1) := by decide +kernel
theorem dX1_go_7 : decode cX1_go 7 = .ok (.aload_n 0, 1) := by decide +kernel
theorem dX1_go_8 : decode cX1_go 8 = .ok (.dup, 1) := by decide +kernel
theorem dX1_go_9 : decode cX1_go 9 = .ok (.getfield 20, 3) := by decide +kernel
theorem dX1_go_12 : decode cX1_go 12 = .ok (.iconst 1, 1) := by decide +kernel
theorem dX1_go_13 : decode cX1_go 13 = .ok (.isub, 1) := by decide +kernel
theorem dX1_go_14 : decode cX1_go 14 = .ok (.putfield 20, 3) := by decide +kernel
theorem dX1_go_17 : decode cX1_go 17 = .ok (.iload_n 1, 1) := by decide +kernel
theorem dX1_go_18 : decode cX1_go 18 = .ok (.istore_n 3, 1) := by decide +kernel
theorem dX1_go_19 : decode cX1_go 19 = .ok (.iload_n 3, 1) := by decide +kernel
theorem dX1_go_20 : decode cX1_go 20 = .ok (.aload_n 0, 1) := by decide +kernel
theorem dX1_go_21 : decode cX1_go 21 = .ok (.getfield 20, 3) := by decide +kernel
theorem dX1_go_24 : decode cX1_go 24 = .ok (.if_icmp .ge 51, 3) := by decide +kernel
theorem dX1_go_27 : decode cX1_go 27 = .ok (.aload_n 0, 1) := by decide +kernel
theorem dX1_go_28 : decode cX1_go 28 = .ok (.getfield 9, 3) := by decide +kernel
theorem dX1_go_31 : decode cX1_go 31 = .ok (.iload_n 3, 1) := by decide +kernel
theorem dX1_go_32 : decode cX1_go 32 = .ok (.aload_n 0, 1) := by decide +kernel
theorem dX1_go_33 : decode cX1_go 33 = .ok (.getfield 9, 3) := by decide +kernel
theorem dX1_go_36 : decode cX1_go 36 = .ok (.iload_n 3, 1) := by decide +kernel
theorem dX1_go_37 : decode cX1_go 37 = .ok (.iconst 1, 1) := by decide +kernel
theorem dX1_go_38 : decode cX1_go 38 = .ok (.iadd, 1) := by decide +kernel
theorem dX1_go_39 : decode cX1_go 39 = .ok (.laload, 1) := by decide +kernel
theorem dX1_go_40 : decode cX1_go 40 = .ok (.lastore, 1) := by decide +kernel
theorem dX1_go_41 : decode cX1_go 41 = .ok (.aload_n 0, 1) := by decide +kernel
theorem dX1_go_42 : decode cX1_go 42 = .ok (.getfield 13, 3) := by decide +kernel
theorem dX1_go_45 : decode cX1_go 45 = .ok (.iload_n 3, 1) := by decide +kernel
theorem dX1_go_46 : decode cX1_go 46 = .ok (.aload_n 0, 1) := by decide +kernel
theorem dX1_go_47 : decode cX1_go 47 = .ok (.getfield 13, 3) := by decide +kernel
theorem dX1_go_50 : decode cX1_go 50 = .ok (.iload_n 3, 1) := by decide +kernel
theorem dX1_go_51 : decode cX1_go 51 = .ok (.iconst 1, 1) := by decide +kernel
theorem dX1_go_52 : decode cX1_go 52 = .ok (.iadd, 1) := by decide +kernel
theorem dX1_go_53 : decode cX1_go 53 = .ok (.iaload, 1) := by decide +kernel
theorem dX1_go_54 : decode cX1_go 54 = .ok (.iastore, 1) := by decide +kernel
theorem dX1_go_55 : decode cX1_go 55 = .ok (.aload_n 0, 1) := by decide +kernel
theorem dX1_go_56 : decode cX1_go 56 = .ok (.getfield 17, 3) := by decide +kernel
theorem dX1_go_59 : decode cX1_go 59 = .ok (.iload_n 3, 1) := by decide +kernel
theorem dX1_go_60 : decode cX1_go 60 = .ok (.aload_n 0, 1) := by decide +kernel
theorem dX1_go_61 : decode cX1_go 61 = .ok (.getfield 17, 3) := by decide +kernel
theorem dX1_go_64 : decode cX1_go 64 = .ok (.iload_n 3, 1) := by decide +kernel
theorem dX1_go_65 : decode cX1_go 65 = .ok (.iconst 1, 1) := by decide +kernel
theorem dX1_go_66 : decode cX1_go 66 = .ok (.iadd, 1) := by decide +kernel
theorem dX1_go_67 : decode cX1_go 67 = .ok (.iaload, 1) := by decide +kernel
theorem dX1_go_68 : decode cX1_go 68 = .ok (.iastore, 1) := by decide +kernel
theorem dX1_go_69 : decode cX1_go 69 = .ok (.iinc 3 1, 3) := by decide +kernel
theorem dX1_go_72 : decode cX1_go 72 = .ok (.goto (-53), 3) := by decide +kernel
theorem dX1_go_75 : decode cX1_go 75 = .ok (.iload_n 2, 1) := by decide +kernel
theorem dX1_go_76 : decode cX1_go 76 = .ok (.ireturn, 1) := by decide +kernel
set_option maxRecDepth 20000 in
theorem ggX1_remove_X1_place : GoodIn wsX1_remove wsX1_place := goodIn_r _ [5, 6, 7, 8, 18, 19, 20, 21] (by decide +kernel) (by decide +kernel)
set_option maxRecDepth 20000 in
theorem gX1_remove_X1_place : GoodIn wsX1_remove (wsV RX1 24 RX1 yX1_place wsX1_place) := goodIn_app (goodIn_of _ (by decide +kernel)) ggX1_remove_X1_place
set_option maxRecDepth 20000 in
theorem ggX1_remove_X1_is : GoodIn wsX1_remove wsX1_is := goodIn_r _ [12, 6, 7, 8, 18, 19, 20, 21] (by decide +kernel) (by decide +kernel)
set_option maxRecDepth 20000 in
theorem gX1_remove_X1_is : GoodIn wsX1_remove (wsV RX1 28 RX1 yX1_is wsX1_is) := goodIn_app (goodIn_of _ (by decide +kernel)) ggX1_remove_X1_is
set_option maxRecDepth 20000 in
theorem ggX1_remove_X1_go : GoodIn wsX1_remove wsX1_go := goodIn_r _ [16, 17, 6, 7, 8, 18, 19, 20, 21] (by decide +kernel) (by decide +kernel)
set_option maxRecDepth 20000 in
theorem gX1_remove_X1_go : GoodIn wsX1_remove (wsV RX1 36 RX1 yX1_go wsX1_go) := goodIn_app (goodIn_of _ (by decide +kernel)) ggX1_remove_X1_go
theorem dX1_remove_0 : decode cX1_remove 0 = .ok (.iload_n 3, 1) := by decide +kernel
theorem dX1_remove_1 : decode cX1_remove 1 = .ok (.ifCond .lt 9, 3) := by decide +kernel
theorem dX1_remove_4 : decode cX1_remove 4 = .ok (.iload_n 3, 1) := by decide +kernel
theorem dX1_remove_5 : decode cX1_remove 5 = .ok (.bipush 7, 2) := by decide +kernel
theorem dX1_remove_7 : decode cX1_remove 7 = .ok (.if_icmp .le 5, 3) := by decide +kernel
theorem dX1_remove_10 : decode cX1_remove 10 = .ok (.iconst (-1), 1) := by decide +kernel
theorem dX1_remove_11 : decode cX1_remove 11 = .ok (.ireturn, 1) := by decide +kernel
theorem dX1_remove_12 : decode cX1_remove 12 = .ok (.aload_n 0, 1) := by decide +kernel
theorem dX1_remove_13 : decode cX1_remove 13 = .ok (.lload_n 1, 1) := by decide +kernel
theorem dX1_remove_14 : decode cX1_remove 14 = .ok (.iload_n 3, 1) := by decide +kernel
theorem dX1_remove_15 : decode cX1_remove 15 = .ok (.invokevirtual 24, 3) := by decide +kernel
theorem dX1_remove_18 : decode cX1_remove 18 = .ok (.istore 4, 2) := by decide +kernel
theorem dX1_remove_20 : decode cX1_remove 20 = .ok (.aload_n 0, 1) := by decide +kernel
theorem dX1_remove_21 : decode cX1_remove 21 = .ok (.iload 4, 2) := by decide +kernel
theorem dX1_remove_23 : decode cX1_remove 23 = .ok (.lload_n 1, 1) := by decide +kernel
theorem dX1_remove_24 : decode cX1_remove 24 = .ok (.iload_n 3, 1) := by decide +kernel
theorem dX1_remove_25 : decode cX1_remove 25 = .ok (.invokevirtual 28, 3) := by decide +kernel
theorem dX1_remove_28 : decode cX1_remove 28 = .ok (.ifCond .eq 12, 3) := by decide +kernel
theorem dX1_remove_31 : decode cX1_remove 31 = .ok (.aload_n 0, 1) := by decide +kernel
theorem dX1_remove_32 : decode cX1_remove 32 = .ok (.iload 4, 2) := by decide +kernel
theorem dX1_remove_34 : decode cX1_remove 34 = .ok (.invokevirtual 36, 3) := by decide +kernel
theorem dX1_remove_37 : decode cX1_remove 37 = .ok (.goto 5, 3) := by decide +kernel
theorem dX1_remove_40 : decode cX1_remove 40 = .ok (.bipush (-2), 2) := by decide +kernel
theorem dX1_remove_42 : decode cX1_remove 42 = .ok (.ireturn, 1) := by decide +kernel
set_option maxRecDepth 20000 in
theorem ggX1_take_X1_go : GoodIn wsX1_take wsX1_go := goodIn_r _ [6, 7, 1, 8, 9, 10, 11, 12, 13] (by decide +kernel) (by decide +kernel)
set_option maxRecDepth 20000 in
theorem gX1_take_X1_go : GoodIn wsX1_take (wsV RX1 36 RX1 yX1_go wsX1_go) := goodIn_app (goodIn_of _ (by decide +kernel)) ggX1_take_X1_go
theorem dX1_take_0 : decode cX1_take 0 = .ok (.iload_n 1, 1) := by decide +kernel
theorem dX1_take_1 : decode cX1_take 1 = .ok (.ifCond .lt 11, 3) := by decide +kernel
theorem dX1_take_4 : decode cX1_take 4 = .ok (.iload_n 1, 1) := by decide +kernel
theorem dX1_take_5 : decode cX1_take 5 = .ok (.aload_n 0, 1) := by decide +kernel
theorem dX1_take_6 : decode cX1_take 6 = .ok (.getfield 20, 3) := by decide +kernel
theorem dX1_take_9 : decode cX1_take 9 = .ok (.if_icmp .lt 8, 3) := by decide +kernel
theorem dX1_take_12 : decode cX1_take 12 = .ok (.bipush (-2), 2) := by decide +kernel
theorem dX1_take_14 : decode cX1_take 14 = .ok (.goto 8, 3) := by decide +kernel
theorem dX1_take_17 : decode cX1_take 17 = .ok (.aload_n 0, 1) := by decide +kernel
theorem dX1_take_18 : decode cX1_take 18 = .ok (.iload_n 1, 1) := by decide +kernel
theorem dX1_take_19 : decode cX1_take 19 = .ok (.invokevirtual 36, 3) := by decide +kernel
theorem dX1_take_22 : decode cX1_take 22 = .ok (.ireturn, 1) := by decide +kernel
set_option maxRecDepth 20000 in
theorem ggX1_get_X1_place : GoodIn wsX1_get wsX1_place := goodIn_r _ [6, 7, 8, 9, 14, 15, 16, 17] (by decide +kernel) (by decide +kernel)
set_option maxRecDepth 20000 in
theorem gX1_get_X1_place : GoodIn wsX1_get (wsV RX1 24 RX1 yX1_place wsX1_place) := goodIn_app (goodIn_of _ (by decide +kernel)) ggX1_get_X1_place
set_option maxRecDepth 20000 in
theorem ggX1_get_X1_is : GoodIn wsX1_get wsX1_is := goodIn_r _ [13, 7, 8, 9, 14, 15, 16, 17] (by decide +kernel) (by decide +kernel)
set_option maxRecDepth 20000 in
theorem gX1_get_X1_is : GoodIn wsX1_get (wsV RX1 28 RX1 yX1_is wsX1_is) := goodIn_app (goodIn_of _ (by decide +kernel)) ggX1_get_X1_is
theorem dX1_get_0 : decode cX1_get 0 = .ok (.iload_n 3, 1) := by decide +kernel
theorem dX1_get_1 : decode cX1_get 1 = .ok (.ifCond .lt 9, 3) := by decide +kernel
theorem dX1_get_4 : decode cX1_get 4 = .ok (.iload_n 3, 1) := by decide +kernel
theorem dX1_get_5 : decode cX1_get 5 = .ok (.bipush 7, 2) := by decide +kernel
theorem dX1_get_7 : decode cX1_get 7 = .ok (.if_icmp .le 5, 3) := by decide +kernel
theorem dX1_get_10 : decode cX1_get 10 = .ok (.iconst (-1), 1) := by decide +kernel
theorem dX1_get_11 : decode cX1_get 11 = .ok (.ireturn, 1) := by decide +kernel
theorem dX1_get_12 : decode cX1_get 12 = .ok (.aload_n 0, 1) := by decide +kernel
theorem dX1_get_13 : decode cX1_get 13 = .ok (.lload_n 1, 1) := by decide +kernel
theorem dX1_get_14 : decode cX1_get 14 = .ok (.iload_n 3, 1) := by decide +kernel
theorem dX1_get_15 : decode cX1_get 15 = .ok (.invokevirtual 24, 3) := by decide +kernel
theorem dX1_get_18 : decode cX1_get 18 = .ok (.istore 4, 2) := by decide +kernel
theorem dX1_get_20 : decode cX1_get 20 = .ok (.aload_n 0, 1) := by decide +kernel
theorem dX1_get_21 : decode cX1_get 21 = .ok (.iload 4, 2) := by decide +kernel
theorem dX1_get_23 : decode cX1_get 23 = .ok (.lload_n 1, 1) := by decide +kernel
theorem dX1_get_24 : decode cX1_get 24 = .ok (.iload_n 3, 1) := by decide +kernel
theorem dX1_get_25 : decode cX1_get 25 = .ok (.invokevirtual 28, 3) := by decide +kernel
theorem dX1_get_28 : decode cX1_get 28 = .ok (.ifCond .eq 13, 3) := by decide +kernel
theorem dX1_get_31 : decode cX1_get 31 = .ok (.aload_n 0, 1) := by decide +kernel
theorem dX1_get_32 : decode cX1_get 32 = .ok (.getfield 17, 3) := by decide +kernel
theorem dX1_get_35 : decode cX1_get 35 = .ok (.iload 4, 2) := by decide +kernel
theorem dX1_get_37 : decode cX1_get 37 = .ok (.iaload, 1) := by decide +kernel
theorem dX1_get_38 : decode cX1_get 38 = .ok (.goto 5, 3) := by decide +kernel
theorem dX1_get_41 : decode cX1_get 41 = .ok (.bipush (-2), 2) := by decide +kernel
theorem dX1_get_43 : decode cX1_get 43 = .ok (.ireturn, 1) := by decide +kernel
theorem dX1_name_0 : decode cX1_name 0 = .ok (.iload_n 1, 1) := by decide +kernel
theorem dX1_name_1 : decode cX1_name 1 = .ok (.ifCond .lt 11, 3) := by decide +kernel
theorem dX1_name_4 : decode cX1_name 4 = .ok (.iload_n 1, 1) := by decide +kernel
theorem dX1_name_5 : decode cX1_name 5 = .ok (.aload_n 0, 1) := by decide +kernel
theorem dX1_name_6 : decode cX1_name 6 = .ok (.getfield 20, 3) := by decide +kernel
theorem dX1_name_9 : decode cX1_name 9 = .ok (.if_icmp .lt 7, 3) := by decide +kernel
theorem dX1_name_12 : decode cX1_name 12 = .ok (.lconst 0, 1) := by decide +kernel
theorem dX1_name_13 : decode cX1_name 13 = .ok (.goto 9, 3) := by decide +kernel
theorem dX1_name_16 : decode cX1_name 16 = .ok (.aload_n 0, 1) := by decide +kernel
theorem dX1_name_17 : decode cX1_name 17 = .ok (.getfield 9, 3) := by decide +kernel
theorem dX1_name_20 : decode cX1_name 20 = .ok (.iload_n 1, 1) := by decide +kernel
theorem dX1_name_21 : decode cX1_name 21 = .ok (.laload, 1) := by decide +kernel
theorem dX1_name_22 : decode cX1_name 22 = .ok (.lreturn, 1) := by decide +kernel
theorem dX1_index_0 : decode cX1_index 0 = .ok (.iload_n 1, 1) := by decide +kernel
theorem dX1_index_1 : decode cX1_index 1 = .ok (.ifCond .lt 11, 3) := by decide +kernel
theorem dX1_index_4 : decode cX1_index 4 = .ok (.iload_n 1, 1) := by decide +kernel
theorem dX1_index_5 : decode cX1_index 5 = .ok (.aload_n 0, 1) := by decide +kernel
theorem dX1_index_6 : decode cX1_index 6 = .ok (.getfield 20, 3) := by decide +kernel
theorem dX1_index_9 : decode cX1_index 9 = .ok (.if_icmp .lt 8, 3) := by decide +kernel
theorem dX1_index_12 : decode cX1_index 12 = .ok (.bipush (-2), 2) := by decide +kernel
theorem dX1_index_14 : decode cX1_index 14 = .ok (.goto 9, 3) := by decide +kernel
theorem dX1_index_17 : decode cX1_index 17 = .ok (.aload_n 0, 1) := by decide +kernel
theorem dX1_index_18 : decode cX1_index 18 = .ok (.getfield 13, 3) := by decide +kernel
theorem dX1_index_21 : decode cX1_index 21 = .ok (.iload_n 1, 1) := by decide +kernel
theorem dX1_index_22 : decode cX1_index 22 = .ok (.iaload, 1) := by decide +kernel
theorem dX1_index_23 : decode cX1_index 23 = .ok (.ireturn, 1) := by decide +kernel
theorem dX1_many_0 : decode cX1_many 0 = .ok (.aload_n 0, 1) := by decide +kernel
theorem dX1_many_1 : decode cX1_many 1 = .ok (.getfield 20, 3) := by decide +kernel
theorem dX1_many_4 : decode cX1_many 4 = .ok (.ireturn, 1) := by decide +kernel
theorem dX1_value_0 : decode cX1_value 0 = .ok (.lconst 0, 1) := by decide +kernel
theorem dX1_value_1 : decode cX1_value 1 = .ok (.lstore_n 1, 1) := by decide +kernel
theorem dX1_value_2 : decode cX1_value 2 = .ok (.iconst 0, 1) := by decide +kernel
theorem dX1_value_3 : decode cX1_value 3 = .ok (.istore_n 3, 1) := by decide +kernel
theorem dX1_value_4 : decode cX1_value 4 = .ok (.iload_n 3, 1) := by decide +kernel
theorem dX1_value_5 : decode cX1_value 5 = .ok (.aload_n 0, 1) := by decide +kernel
theorem dX1_value_6 : decode cX1_value 6 = .ok (.getfield 20, 3) := by decide +kernel
theorem dX1_value_9 : decode cX1_value 9 = .ok (.if_icmp .ge 19, 3) := by decide +kernel
theorem dX1_value_12 : decode cX1_value 12 = .ok (.lload_n 1, 1) := by decide +kernel
theorem dX1_value_13 : decode cX1_value 13 = .ok (.aload_n 0, 1) := by decide +kernel
theorem dX1_value_14 : decode cX1_value 14 = .ok (.getfield 17, 3) := by decide +kernel
theorem dX1_value_17 : decode cX1_value 17 = .ok (.iload_n 3, 1) := by decide +kernel
theorem dX1_value_18 : decode cX1_value 18 = .ok (.iaload, 1) := by decide +kernel
theorem dX1_value_19 : decode cX1_value 19 = .ok (.i2l, 1) := by decide +kernel
theorem dX1_value_20 : decode cX1_value 20 = .ok (.ladd, 1) := by decide +kernel
theorem dX1_value_21 : decode cX1_value 21 = .ok (.lstore_n 1, 1) := by decide +kernel
theorem dX1_value_22 : decode cX1_value 22 = .ok (.iinc 3 1, 3) := by decide +kernel
theorem dX1_value_25 : decode cX1_value 25 = .ok (.goto (-21), 3) := by decide +kernel
theorem dX1_value_28 : decode cX1_value 28 = .ok (.lload_n 1, 1) := by decide +kernel
theorem dX1_value_29 : decode cX1_value 29 = .ok (.lreturn, 1) := by decide +kernel
set_option maxRecDepth 20000 in
theorem ggL_law_X0_init : GoodIn wsL_law wsX0_init := goodIn_r _ [9, 10, 11, 12, 13, 14, 15, 16, 17, 18, 148, 149, 150, 151] (by decide +kernel) (by decide +kernel)
set_option maxRecDepth 20000 in
theorem gL_law_X0_init : GoodIn wsL_law (wsX0_init) := ggL_law_X0_init
set_option maxRecDepth 20000 in
theorem ggL_law_X1_init : GoodIn wsL_law wsX1_init := goodIn_r _ [21, 22, 11, 12, 13, 23, 15, 24, 25, 152, 153, 154, 155] (by decide +kernel) (by decide +kernel)
set_option maxRecDepth 20000 in
theorem gL_law_X1_init : GoodIn wsL_law (wsX1_init) := ggL_law_X1_init
set_option maxRecDepth 20000 in
theorem ggL_law_X0_add : GoodIn wsL_law wsX0_add := goodIn_r _ [29, 18, 30, 31, 2, 32, 33, 34, 35, 36, 37, 38, 39, 40, 14, 16, 41, 42, 43, 44, 45, 46, 47, 48, 49, 50, 51, 52, 17, 53, 54, 55, 56, 57, 58, 59, 60, 148, 149, 150, 151] (by decide +kernel) (by decide +kernel)
set_option maxRecDepth 20000 in
theorem gL_law_X0_add : GoodIn wsL_law (wsV RL 15 RX0 yX0_add wsX0_add) := goodIn_app (goodIn_of _ (by decide +kernel)) ggL_law_X0_add
set_option maxRecDepth 20000 in
theorem ggL_law_X1_add : GoodIn wsL_law wsX1_add := goodIn_r _ [64, 65, 23, 24, 25, 66, 67, 68, 5, 69, 70, 71, 72, 73, 152, 153, 154, 155] (by decide +kernel) (by decide +kernel)
set_option maxRecDepth 20000 in
theorem gL_law_X1_add : GoodIn wsL_law (wsV RL 19 RX1 yX1_add wsX1_add) := goodIn_app (goodIn_of _ (by decide +kernel)) ggL_law_X1_add
set_option maxRecDepth 20000 in
theorem ggL_law_X0_some : GoodIn wsL_law wsX0_some := goodIn_r _ [77, 18, 78, 27, 28, 2, 29, 30, 31, 32, 33, 34, 35, 36, 37, 38, 39, 40, 14, 16, 41, 42, 43, 44, 45, 46, 47, 48, 49, 50, 51, 52, 17, 53, 54, 55, 56, 57, 58, 59, 60, 148, 149, 150, 151] (by decide +kernel) (by decide +kernel)
set_option maxRecDepth 20000 in
theorem gL_law_X0_some : GoodIn wsL_law (wsV RL 20 RX0 yX0_some wsX0_some) := goodIn_app (goodIn_of _ (by decide +kernel)) ggL_law_X0_some
set_option maxRecDepth 20000 in
theorem ggL_law_X1_some : GoodIn wsL_law wsX1_some := goodIn_r _ [82, 83, 62, 63, 5, 64, 65, 23, 24, 25, 66, 67, 68, 69, 70, 71, 72, 73, 152, 153, 154, 155] (by decide +kernel) (by decide +kernel)
set_option maxRecDepth 20000 in
theorem gL_law_X1_some : GoodIn wsL_law (wsV RL 24 RX1 yX1_some wsX1_some) := goodIn_app (goodIn_of _ (by decide +kernel)) ggL_law_X1_some
set_option maxRecDepth 20000 in
theorem ggL_law_X0_remove : GoodIn wsL_law wsX0_remove := goodIn_r _ [87, 30, 31, 2, 32, 33, 34, 35, 36, 18, 37, 38, 39, 40, 14, 16, 41, 42, 43, 44, 45, 46, 47, 48, 88, 89, 90, 91, 17, 53, 54, 55, 56, 57, 58, 59, 60, 148, 149, 150, 151] (by decide +kernel) (by decide +kernel)
set_option maxRecDepth 20000 in
theorem gL_law_X0_remove : GoodIn wsL_law (wsV RL 25 RX0 yX0_remove wsX0_remove) := goodIn_app (goodIn_of _ (by decide +kernel)) ggL_law_X0_remove
set_option maxRecDepth 20000 in
theorem ggL_law_X1_remove : GoodIn wsL_law wsX1_remove := goodIn_r _ [95, 66, 67, 68, 5, 69, 65, 23, 24, 70, 71, 72, 73, 96, 97, 98, 99, 25, 152, 153, 154, 155] (by decide +kernel) (by decide +kernel)
set_option maxRecDepth 20000 in
theorem gL_law_X1_remove : GoodIn wsL_law (wsV RL 29 RX1 yX1_remove wsX1_remove) := goodIn_app (goodIn_of _ (by decide +kernel)) ggL_law_X1_remove
set_option maxRecDepth 20000 in
theorem ggL_law_X0_take : GoodIn wsL_law wsX0_take := goodIn_r _ [103, 45, 46, 47, 2, 48, 18, 88, 89, 90, 91, 17, 53, 54, 55, 56, 14, 57, 58, 59, 60, 16, 148, 149, 150, 151] (by decide +kernel) (by decide +kernel)
set_option maxRecDepth 20000 in
theorem gL_law_X0_take : GoodIn wsL_law (wsV RL 30 RX0 yX0_take wsX0_take) := goodIn_app (goodIn_of _ (by decide +kernel)) ggL_law_X0_take
set_option maxRecDepth 20000 in
theorem ggL_law_X1_take : GoodIn wsL_law wsX1_take := goodIn_r _ [107, 65, 96, 97, 98, 5, 99, 25, 23, 24, 152, 153, 154, 155] (by decide +kernel) (by decide +kernel)
set_option maxRecDepth 20000 in
theorem gL_law_X1_take : GoodIn wsL_law (wsV RL 34 RX1 yX1_take wsX1_take) := goodIn_app (goodIn_of _ (by decide +kernel)) ggL_law_X1_take
set_option maxRecDepth 20000 in
theorem ggL_law_X0_get : GoodIn wsL_law wsX0_get := goodIn_r _ [111, 17, 30, 31, 2, 32, 33, 34, 35, 36, 18, 37, 38, 39, 40, 14, 16, 41, 42, 43, 44, 45, 46, 47, 48, 148, 149, 150, 151] (by decide +kernel) (by decide +kernel)
set_option maxRecDepth 20000 in
theorem gL_law_X0_get : GoodIn wsL_law (wsV RL 35 RX0 yX0_get wsX0_get) := goodIn_app (goodIn_of _ (by decide +kernel)) ggL_law_X0_get
set_option maxRecDepth 20000 in
theorem ggL_law_X1_get : GoodIn wsL_law wsX1_get := goodIn_r _ [115, 25, 66, 67, 68, 5, 69, 65, 23, 24, 70, 71, 72, 73, 152, 153, 154, 155] (by decide +kernel) (by decide +kernel)
set_option maxRecDepth 20000 in
theorem gL_law_X1_get : GoodIn wsL_law (wsV RL 38 RX1 yX1_get wsX1_get) := goodIn_app (goodIn_of _ (by decide +kernel)) ggL_law_X1_get
set_option maxRecDepth 20000 in
theorem ggL_law_X0_name : GoodIn wsL_law wsX0_name := goodIn_r _ [119, 14, 45, 46, 47, 2, 48, 18, 148, 149, 150, 151] (by decide +kernel) (by decide +kernel)
set_option maxRecDepth 20000 in
theorem gL_law_X0_name : GoodIn wsL_law (wsV RL 39 RX0 yX0_name wsX0_name) := goodIn_app (goodIn_of _ (by decide +kernel)) ggL_law_X0_name
set_option maxRecDepth 20000 in
theorem ggL_law_X1_name : GoodIn wsL_law wsX1_name := goodIn_r _ [123, 65, 23, 152, 153, 154, 155] (by decide +kernel) (by decide +kernel)
set_option maxRecDepth 20000 in
theorem gL_law_X1_name : GoodIn wsL_law (wsV RL 43 RX1 yX1_name wsX1_name) := goodIn_app (goodIn_of _ (by decide +kernel)) ggL_law_X1_name
set_option maxRecDepth 20000 in
theorem ggL_law_X0_index : GoodIn wsL_law wsX0_index := goodIn_r _ [127, 16, 45, 46, 47, 2, 48, 18, 148, 149, 150, 151] (by decide +kernel) (by decide +kernel)
set_option maxRecDepth 20000 in
theorem gL_law_X0_index : GoodIn wsL_law (wsV RL 44 RX0 yX0_index wsX0_index) := goodIn_app (goodIn_of _ (by decide +kernel)) ggL_law_X0_index
set_option maxRecDepth 20000 in
theorem ggL_law_X1_index : GoodIn wsL_law wsX1_index := goodIn_r _ [131, 65, 24, 152, 153, 154, 155] (by decide +kernel) (by decide +kernel)
set_option maxRecDepth 20000 in
theorem gL_law_X1_index : GoodIn wsL_law (wsV RL 47 RX1 yX1_index wsX1_index) := goodIn_app (goodIn_of _ (by decide +kernel)) ggL_law_X1_index
set_option maxRecDepth 20000 in
theorem ggL_law_X0_many : GoodIn wsL_law wsX0_many := goodIn_r _ [135, 18, 148, 149, 150, 151] (by decide +kernel) (by decide +kernel)
set_option maxRecDepth 20000 in
theorem gL_law_X0_many : GoodIn wsL_law (wsV RL 48 RX0 yX0_many wsX0_many) := goodIn_app (goodIn_of _ (by decide +kernel)) ggL_law_X0_many
set_option maxRecDepth 20000 in
theorem ggL_law_X1_many : GoodIn wsL_law wsX1_many := goodIn_r _ [139, 65, 152, 153, 154, 155] (by decide +kernel) (by decide +kernel)
set_option maxRecDepth 20000 in
theorem gL_law_X1_many : GoodIn wsL_law (wsV RL 52 RX1 yX1_many wsX1_many) := goodIn_app (goodIn_of _ (by decide +kernel)) ggL_law_X1_many
set_option maxRecDepth 20000 in
theorem ggL_law_X0_value : GoodIn wsL_law wsX0_value := goodIn_r _ [143, 18, 17, 148, 149, 150, 151] (by decide +kernel) (by decide +kernel)
set_option maxRecDepth 20000 in
theorem gL_law_X0_value : GoodIn wsL_law (wsV RL 53 RX0 yX0_value wsX0_value) := goodIn_app (goodIn_of _ (by decide +kernel)) ggL_law_X0_value
set_option maxRecDepth 20000 in
theorem ggL_law_X1_value : GoodIn wsL_law wsX1_value := goodIn_r _ [147, 65, 25, 152, 153, 154, 155] (by decide +kernel) (by decide +kernel)
set_option maxRecDepth 20000 in
theorem gL_law_X1_value : GoodIn wsL_law (wsV RL 57 RX1 yX1_value wsX1_value) := goodIn_app (goodIn_of _ (by decide +kernel)) ggL_law_X1_value
abbrev vwCl : List vw_C := [(RX0, TX0, 4), (RX1, TX1, 4)]
