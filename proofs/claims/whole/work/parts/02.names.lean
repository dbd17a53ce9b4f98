/-! ===== BEGIN words of one list among another's, by their places ===== -/
theorem goodIn_r {big : List Cond} (ws : List Cond) (ps : List Nat) (hp : ws = ps.filterMap (fun i => big[i]?)) (h : ws.all goodWord = true) : GoodIn big ws := by
  intro w hw
  have h1 := List.all_eq_true.mp h w hw
  rw [hp] at hw
  obtain ⟨i, -, hi⟩ := List.mem_filterMap.mp hw
  have hm : w ∈ big := by first | exact List.mem_of_getElem? hi | exact List.getElem?_mem hi
  exact ⟨hm, good_of_word h1⟩
theorem goodIn_app {big a b : List Cond} (ha : GoodIn big a) (hb : GoodIn big b) : GoodIn big (a ++ b) := fun w h => (List.mem_append.mp h).elim (ha w) (hb w)
theorem goodIn_ca {big a b : List Cond} {c : Cond} (ha : GoodIn big (c :: a)) (hb : GoodIn big b) : GoodIn big (c :: (a ++ b)) := fun w h => (List.mem_cons.mp h).elim (fun e => ha w (List.mem_cons.mpr (Or.inl e))) (fun h => (List.mem_append.mp h).elim (fun h => ha w (List.mem_cons.mpr (Or.inr h))) (hb w))
theorem goodIn_sub {big ws : List Cond} (hm : ∀ w ∈ ws, w ∈ big) (h : ws.all goodWord = true) : GoodIn big ws := fun w hw => ⟨hm w hw, good_of_word (List.all_eq_true.mp h w hw)⟩
/-! ===== END ===== -/

/-! ===== BEGIN printed: names, fields, word lists, decode rows ===== -/
def RX0 : String := "BlockTape"
def TX0 : u_T := fun k => match k with
  | 0 => ("BlockTape", "tape", "[B", true)
  | 1 => ("BlockTape", "tapeLength", "I", false)
  | 2 => ("BlockTape", "volume", "[B", true)
  | 3 => ("BlockTape", "nextPlace", "I", false)
  | 4 => ("BlockTape", "rowPlace", "[I", true)
  | 5 => ("BlockTape", "rowLength", "[I", true)
  | 6 => ("BlockTape", "records", "I", false)
  | 7 => ("BlockTape", "spoiltBy", "[I", true)
  | _ => ("BlockTape", "spoiltAt", "[I", true)
def tyX0 : Nat → FieldType := fun k => match k with
  | 0 => .array .byte
  | 1 => .int
  | 2 => .array .byte
  | 3 => .int
  | 4 => .array .int
  | 5 => .array .int
  | 6 => .int
  | 7 => .array .int
  | _ => .array .int
abbrev wsX00 : List Cond := u_ws RX0 TX0 9
theorem nmX0 : ∀ a, a < 9 → ∀ b, b < 9 → a ≠ b → (TX0 a).2.1 ≠ (TX0 b).2.1 := by decide +kernel
theorem tyX0_ok : ∀ k, k < 9 → parseFieldDescriptor (TX0 k).2.2.1 = some (tyX0 k) := by decide +kernel
abbrev cX0_init : ByteArray := prog_1_method_1_code
def yX0_init : MethodName := ⟨RX0, "<init>", "()V"⟩
abbrev cX0_feed : ByteArray := prog_1_method_2_code
def yX0_feed : MethodName := ⟨RX0, "feed", "(II)I"⟩
abbrev cX0_put : ByteArray := prog_1_method_3_code
def yX0_put : MethodName := ⟨RX0, "put", "(II)I"⟩
abbrev cX0_close : ByteArray := prog_1_method_4_code
def yX0_close : MethodName := ⟨RX0, "close", "()Z"⟩
abbrev cX0_spoil : ByteArray := prog_1_method_5_code
def yX0_spoil : MethodName := ⟨RX0, "spoil", "(III)Z"⟩
abbrev cX0_heal : ByteArray := prog_1_method_6_code
def yX0_heal : MethodName := ⟨RX0, "heal", "(I)Z"⟩
abbrev cX0_byteOf : ByteArray := prog_1_method_7_code
def yX0_byteOf : MethodName := ⟨RX0, "byteOf", "(II)I"⟩
abbrev cX0_good : ByteArray := prog_1_method_8_code
def yX0_good : MethodName := ⟨RX0, "good", "(I)Z"⟩
abbrev cX0_read : ByteArray := prog_1_method_9_code
def yX0_read : MethodName := ⟨RX0, "read", "(II)I"⟩
abbrev cX0_verify : ByteArray := prog_1_method_10_code
def yX0_verify : MethodName := ⟨RX0, "verify", "(I)I"⟩
abbrev cX0_count : ByteArray := prog_1_method_11_code
def yX0_count : MethodName := ⟨RX0, "count", "(I)I"⟩
abbrev cX0_blocksWritten : ByteArray := prog_1_method_12_code
def yX0_blocksWritten : MethodName := ⟨RX0, "blocksWritten", "()I"⟩
abbrev cX0_placesLeft : ByteArray := prog_1_method_13_code
def yX0_placesLeft : MethodName := ⟨RX0, "placesLeft", "()I"⟩
abbrev cX0_isWritten : ByteArray := prog_1_method_14_code
def yX0_isWritten : MethodName := ⟨RX0, "isWritten", "(I)Z"⟩
abbrev cX0_isInBlock : ByteArray := prog_1_method_15_code
def yX0_isInBlock : MethodName := ⟨RX0, "isInBlock", "(I)Z"⟩
abbrev cX0_addToByte : ByteArray := prog_1_method_16_code
def yX0_addToByte : MethodName := ⟨RX0, "addToByte", "(II)V"⟩
abbrev cX0_indexOfPlace : ByteArray := prog_1_method_17_code
def yX0_indexOfPlace : MethodName := ⟨RX0, "indexOfPlace", "(I)I"⟩
abbrev cX0_noteBeginning : ByteArray := prog_1_method_18_code
def yX0_noteBeginning : MethodName := ⟨RX0, "noteBeginning", "()V"⟩
abbrev cX0_appendRow : ByteArray := prog_1_method_19_code
def yX0_appendRow : MethodName := ⟨RX0, "appendRow", "(II)V"⟩
abbrev cX0_append : ByteArray := prog_1_method_20_code
def yX0_append : MethodName := ⟨RX0, "append", "(I)V"⟩
abbrev cX0_writeBlock : ByteArray := prog_1_method_21_code
def yX0_writeBlock : MethodName := ⟨RX0, "writeBlock", "(II)V"⟩
abbrev cX0_sumOfBlock : ByteArray := prog_1_method_22_code
def yX0_sumOfBlock : MethodName := ⟨RX0, "sumOfBlock", "(I)I"⟩
abbrev cX0_crcOver : ByteArray := prog_1_method_23_code
def yX0_crcOver : MethodName := ⟨RX0, "crcOver", "(III)I"⟩
abbrev cX0_isRead : ByteArray := prog_1_method_24_code
def yX0_isRead : MethodName := ⟨RX0, "isRead", "(I)Z"⟩
abbrev cX0_recordOfRead : ByteArray := prog_1_method_25_code
def yX0_recordOfRead : MethodName := ⟨RX0, "recordOfRead", "(I)I"⟩
abbrev cX0_recordsRead : ByteArray := prog_1_method_26_code
def yX0_recordsRead : MethodName := ⟨RX0, "recordsRead", "()I"⟩
abbrev cX0_recordByte : ByteArray := prog_1_method_27_code
def yX0_recordByte : MethodName := ⟨RX0, "recordByte", "(II)I"⟩
abbrev cX0_rowByte : ByteArray := prog_1_method_28_code
def yX0_rowByte : MethodName := ⟨RX0, "rowByte", "(II)I"⟩
abbrev cX0_blocksNotGood : ByteArray := prog_1_method_29_code
def yX0_blocksNotGood : MethodName := ⟨RX0, "blocksNotGood", "()I"⟩
def RX1 : String := "BlockTapeModel"
def TX1 : u_T := fun k => match k with
  | 0 => ("BlockTapeModel", "thrown", "I", false)
  | 1 => ("BlockTapeModel", "tape", "[I", true)
  | 2 => ("BlockTapeModel", "taped", "I", false)
  | 3 => ("BlockTapeModel", "records", "I", false)
  | 4 => ("BlockTapeModel", "kept", "I", false)
  | 5 => ("BlockTapeModel", "stream", "[I", true)
  | 6 => ("BlockTapeModel", "index", "[I", true)
  | 7 => ("BlockTapeModel", "length", "[I", true)
  | 8 => ("BlockTapeModel", "begin", "[I", true)
  | 9 => ("BlockTapeModel", "fromBlock", "[I", true)
  | 10 => ("BlockTapeModel", "toBlock", "[I", true)
  | 11 => ("BlockTapeModel", "bytes", "[I", true)
  | 12 => ("BlockTapeModel", "written", "I", false)
  | 13 => ("BlockTapeModel", "used", "I", false)
  | 14 => ("BlockTapeModel", "data", "[I", true)
  | 15 => ("BlockTapeModel", "uses", "[I", true)
  | 16 => ("BlockTapeModel", "first", "[I", true)
  | 17 => ("BlockTapeModel", "spoilt", "[I", true)
  | _ => ("BlockTapeModel", "spoiltBy", "[I", true)
def tyX1 : Nat → FieldType := fun k => match k with
  | 0 => .int
  | 1 => .array .int
  | 2 => .int
  | 3 => .int
  | 4 => .int
  | 5 => .array .int
  | 6 => .array .int
  | 7 => .array .int
  | 8 => .array .int
  | 9 => .array .int
  | 10 => .array .int
  | 11 => .array .int
  | 12 => .int
  | 13 => .int
  | 14 => .array .int
  | 15 => .array .int
  | 16 => .array .int
  | 17 => .array .int
  | _ => .array .int
abbrev wsX10 : List Cond := u_ws RX1 TX1 19
theorem nmX1 : ∀ a, a < 19 → ∀ b, b < 19 → a ≠ b → (TX1 a).2.1 ≠ (TX1 b).2.1 := by decide +kernel
theorem tyX1_ok : ∀ k, k < 19 → parseFieldDescriptor (TX1 k).2.2.1 = some (tyX1 k) := by decide +kernel
def RL : String := "BlockTapeLaw"
abbrev cL_law : ByteArray := code
def yL_law : MethodName := ⟨RL, "law", "([I)Z"⟩
def wsX0_init : List Cond := .code yX0_init cX0_init 2 none :: ([.methodLink RX0 3 objectInit, .instanceMethod objectInit, .code objectInit ⟨#[0xb1]⟩ 1 none, .arrayClass .byte, .fieldLink RX0 9 "BlockTape" "tape" "[B", .fieldLink RX0 13 "BlockTape" "volume" "[B", .arrayClass .int, .fieldLink RX0 16 "BlockTape" "rowPlace" "[I", .fieldLink RX0 20 "BlockTape" "rowLength" "[I", .fieldLink RX0 23 "BlockTape" "spoiltBy" "[I", .fieldLink RX0 26 "BlockTape" "spoiltAt" "[I"] ++ wsX00)
def wsX0_feed : List Cond := .code yX0_feed cX0_feed 4 (some .int) :: ([.fieldLink RX0 29 "BlockTape" "tapeLength" "I", .fieldLink RX0 9 "BlockTape" "tape" "[B"] ++ wsX00)
def wsX0_placesLeft : List Cond := .code yX0_placesLeft cX0_placesLeft 1 (some .int) :: ([.fieldLink RX0 44 "BlockTape" "nextPlace" "I"] ++ wsX00)
def wsX0_noteBeginning : List Cond := .code yX0_noteBeginning cX0_noteBeginning 2 none :: ([.fieldLink RX0 44 "BlockTape" "nextPlace" "I", .fieldLink RX0 13 "BlockTape" "volume" "[B"] ++ wsX00)
def wsX0_indexOfPlace : List Cond := .code yX0_indexOfPlace cX0_indexOfPlace 1 (some .int) :: ([])
def wsX0_crcOver : List Cond := .code yX0_crcOver cX0_crcOver 7 (some .int) :: ([.fieldLink RX0 13 "BlockTape" "volume" "[B", .constant RX0 106 (-306674912)] ++ wsX00)
def wsX0_sumOfBlock : List Cond := .code yX0_sumOfBlock cX0_sumOfBlock 3 (some .int) :: ([.methodLink RX0 102 yX0_crcOver, .instanceMethod yX0_crcOver, .selects RX0 yX0_crcOver yX0_crcOver, .initialized RX0, .code yX0_crcOver cX0_crcOver 7 (some .int), .fieldLink RX0 13 "BlockTape" "volume" "[B", .constant RX0 106 (-306674912)] ++ wsX00)
def wsX0_writeBlock : List Cond := .code yX0_writeBlock cX0_writeBlock 6 none :: ([.fieldLink RX0 13 "BlockTape" "volume" "[B", .methodLink RX0 99 yX0_sumOfBlock, .instanceMethod yX0_sumOfBlock, .selects RX0 yX0_sumOfBlock yX0_sumOfBlock, .initialized RX0, .code yX0_sumOfBlock cX0_sumOfBlock 3 (some .int), .methodLink RX0 102 yX0_crcOver, .instanceMethod yX0_crcOver, .selects RX0 yX0_crcOver yX0_crcOver, .code yX0_crcOver cX0_crcOver 7 (some .int), .constant RX0 106 (-306674912)] ++ wsX00)
def wsX0_append : List Cond := .code yX0_append cX0_append 2 none :: ([.fieldLink RX0 13 "BlockTape" "volume" "[B", .fieldLink RX0 44 "BlockTape" "nextPlace" "I", .methodLink RX0 96 yX0_indexOfPlace, .static yX0_indexOfPlace, .initialized RX0, .code yX0_indexOfPlace cX0_indexOfPlace 1 (some .int), .methodLink RX0 51 yX0_writeBlock, .instanceMethod yX0_writeBlock, .selects RX0 yX0_writeBlock yX0_writeBlock, .code yX0_writeBlock cX0_writeBlock 6 none, .methodLink RX0 99 yX0_sumOfBlock, .instanceMethod yX0_sumOfBlock, .selects RX0 yX0_sumOfBlock yX0_sumOfBlock, .code yX0_sumOfBlock cX0_sumOfBlock 3 (some .int), .methodLink RX0 102 yX0_crcOver, .instanceMethod yX0_crcOver, .selects RX0 yX0_crcOver yX0_crcOver, .code yX0_crcOver cX0_crcOver 7 (some .int), .constant RX0 106 (-306674912)] ++ wsX00)
def wsX0_appendRow_r1 : List Cond := [Cond.fieldLink RX0 29 "BlockTape" "tapeLength" "I", Cond.fieldLink RX0 9 "BlockTape" "tape" "[B", Cond.methodLink RX0 92 yX0_append, Cond.instanceMethod yX0_append, Cond.selects RX0 yX0_append yX0_append, Cond.initialized RX0, Cond.code yX0_append cX0_append 2 none, Cond.fieldLink RX0 13 "BlockTape" "volume" "[B", Cond.fieldLink RX0 44 "BlockTape" "nextPlace" "I", Cond.methodLink RX0 96 yX0_indexOfPlace, Cond.static yX0_indexOfPlace, Cond.code yX0_indexOfPlace cX0_indexOfPlace 1 (some .int), Cond.methodLink RX0 51 yX0_writeBlock, Cond.instanceMethod yX0_writeBlock, Cond.selects RX0 yX0_writeBlock yX0_writeBlock, Cond.code yX0_writeBlock cX0_writeBlock 6 none, Cond.methodLink RX0 99 yX0_sumOfBlock, Cond.instanceMethod yX0_sumOfBlock, Cond.selects RX0 yX0_sumOfBlock yX0_sumOfBlock, Cond.code yX0_sumOfBlock cX0_sumOfBlock 3 (some .int), Cond.methodLink RX0 102 yX0_crcOver, Cond.instanceMethod yX0_crcOver, Cond.selects RX0 yX0_crcOver yX0_crcOver, Cond.code yX0_crcOver cX0_crcOver 7 (some .int)]
def wsX0_appendRow_r2 : List Cond := [Cond.constant RX0 106 (-306674912)]
def wsX0_appendRow : List Cond := .code yX0_appendRow cX0_appendRow 4 none :: ((wsX0_appendRow_r1 ++ wsX0_appendRow_r2) ++ wsX00)
def wsX0_put_r1 : List Cond := [Cond.constant RX0 33 (65535), Cond.fieldLink RX0 29 "BlockTape" "tapeLength" "I", Cond.fieldLink RX0 34 "BlockTape" "records" "I", Cond.fieldLink RX0 16 "BlockTape" "rowPlace" "[I", Cond.fieldLink RX0 44 "BlockTape" "nextPlace" "I", Cond.fieldLink RX0 20 "BlockTape" "rowLength" "[I", Cond.methodLink RX0 37 yX0_placesLeft, Cond.instanceMethod yX0_placesLeft, Cond.selects RX0 yX0_placesLeft yX0_placesLeft, Cond.initialized RX0, Cond.code yX0_placesLeft cX0_placesLeft 1 (some .int), Cond.methodLink RX0 41 yX0_noteBeginning, Cond.instanceMethod yX0_noteBeginning, Cond.selects RX0 yX0_noteBeginning yX0_noteBeginning, Cond.code yX0_noteBeginning cX0_noteBeginning 2 none, Cond.fieldLink RX0 13 "BlockTape" "volume" "[B", Cond.methodLink RX0 47 yX0_appendRow, Cond.instanceMethod yX0_appendRow, Cond.selects RX0 yX0_appendRow yX0_appendRow, Cond.code yX0_appendRow cX0_appendRow 4 none, Cond.fieldLink RX0 9 "BlockTape" "tape" "[B", Cond.methodLink RX0 92 yX0_append, Cond.instanceMethod yX0_append, Cond.selects RX0 yX0_append yX0_append]
def wsX0_put_r2 : List Cond := [Cond.code yX0_append cX0_append 2 none, Cond.methodLink RX0 96 yX0_indexOfPlace, Cond.static yX0_indexOfPlace, Cond.code yX0_indexOfPlace cX0_indexOfPlace 1 (some .int), Cond.methodLink RX0 51 yX0_writeBlock, Cond.instanceMethod yX0_writeBlock, Cond.selects RX0 yX0_writeBlock yX0_writeBlock, Cond.code yX0_writeBlock cX0_writeBlock 6 none, Cond.methodLink RX0 99 yX0_sumOfBlock, Cond.instanceMethod yX0_sumOfBlock, Cond.selects RX0 yX0_sumOfBlock yX0_sumOfBlock, Cond.code yX0_sumOfBlock cX0_sumOfBlock 3 (some .int), Cond.methodLink RX0 102 yX0_crcOver, Cond.instanceMethod yX0_crcOver, Cond.selects RX0 yX0_crcOver yX0_crcOver, Cond.code yX0_crcOver cX0_crcOver 7 (some .int), Cond.constant RX0 106 (-306674912)]
def wsX0_put : List Cond := .code yX0_put cX0_put 4 (some .int) :: ((wsX0_put_r1 ++ wsX0_put_r2) ++ wsX00)
def wsX0_close : List Cond := .code yX0_close cX0_close 2 (some .boolean) :: ([.fieldLink RX0 44 "BlockTape" "nextPlace" "I", .methodLink RX0 51 yX0_writeBlock, .instanceMethod yX0_writeBlock, .selects RX0 yX0_writeBlock yX0_writeBlock, .initialized RX0, .code yX0_writeBlock cX0_writeBlock 6 none, .fieldLink RX0 13 "BlockTape" "volume" "[B", .methodLink RX0 99 yX0_sumOfBlock, .instanceMethod yX0_sumOfBlock, .selects RX0 yX0_sumOfBlock yX0_sumOfBlock, .code yX0_sumOfBlock cX0_sumOfBlock 3 (some .int), .methodLink RX0 102 yX0_crcOver, .instanceMethod yX0_crcOver, .selects RX0 yX0_crcOver yX0_crcOver, .code yX0_crcOver cX0_crcOver 7 (some .int), .constant RX0 106 (-306674912)] ++ wsX00)
def wsX0_blocksWritten : List Cond := .code yX0_blocksWritten cX0_blocksWritten 1 (some .int) :: ([.fieldLink RX0 44 "BlockTape" "nextPlace" "I"] ++ wsX00)
def wsX0_isWritten : List Cond := .code yX0_isWritten cX0_isWritten 2 (some .boolean) :: ([.methodLink RX0 80 yX0_blocksWritten, .instanceMethod yX0_blocksWritten, .selects RX0 yX0_blocksWritten yX0_blocksWritten, .initialized RX0, .code yX0_blocksWritten cX0_blocksWritten 1 (some .int), .fieldLink RX0 44 "BlockTape" "nextPlace" "I"] ++ wsX00)
def wsX0_isInBlock : List Cond := .code yX0_isInBlock cX0_isInBlock 1 (some .boolean) :: ([])
def wsX0_addToByte : List Cond := .code yX0_addToByte cX0_addToByte 3 none :: ([.fieldLink RX0 13 "BlockTape" "volume" "[B"] ++ wsX00)
def wsX0_spoil : List Cond := .code yX0_spoil cX0_spoil 4 (some .boolean) :: ([.fieldLink RX0 23 "BlockTape" "spoiltBy" "[I", .fieldLink RX0 26 "BlockTape" "spoiltAt" "[I", .methodLink RX0 54 yX0_isWritten, .instanceMethod yX0_isWritten, .selects RX0 yX0_isWritten yX0_isWritten, .initialized RX0, .code yX0_isWritten cX0_isWritten 2 (some .boolean), .methodLink RX0 80 yX0_blocksWritten, .instanceMethod yX0_blocksWritten, .selects RX0 yX0_blocksWritten yX0_blocksWritten, .code yX0_blocksWritten cX0_blocksWritten 1 (some .int), .fieldLink RX0 44 "BlockTape" "nextPlace" "I", .methodLink RX0 58 yX0_isInBlock, .static yX0_isInBlock, .code yX0_isInBlock cX0_isInBlock 1 (some .boolean), .methodLink RX0 61 yX0_addToByte, .instanceMethod yX0_addToByte, .selects RX0 yX0_addToByte yX0_addToByte, .code yX0_addToByte cX0_addToByte 3 none, .fieldLink RX0 13 "BlockTape" "volume" "[B"] ++ wsX00)
def wsX0_heal : List Cond := .code yX0_heal cX0_heal 2 (some .boolean) :: ([.fieldLink RX0 23 "BlockTape" "spoiltBy" "[I", .fieldLink RX0 26 "BlockTape" "spoiltAt" "[I", .methodLink RX0 54 yX0_isWritten, .instanceMethod yX0_isWritten, .selects RX0 yX0_isWritten yX0_isWritten, .initialized RX0, .code yX0_isWritten cX0_isWritten 2 (some .boolean), .methodLink RX0 80 yX0_blocksWritten, .instanceMethod yX0_blocksWritten, .selects RX0 yX0_blocksWritten yX0_blocksWritten, .code yX0_blocksWritten cX0_blocksWritten 1 (some .int), .fieldLink RX0 44 "BlockTape" "nextPlace" "I", .methodLink RX0 61 yX0_addToByte, .instanceMethod yX0_addToByte, .selects RX0 yX0_addToByte yX0_addToByte, .code yX0_addToByte cX0_addToByte 3 none, .fieldLink RX0 13 "BlockTape" "volume" "[B"] ++ wsX00)
def wsX0_byteOf : List Cond := .code yX0_byteOf cX0_byteOf 3 (some .int) :: ([.fieldLink RX0 13 "BlockTape" "volume" "[B", .methodLink RX0 54 yX0_isWritten, .instanceMethod yX0_isWritten, .selects RX0 yX0_isWritten yX0_isWritten, .initialized RX0, .code yX0_isWritten cX0_isWritten 2 (some .boolean), .methodLink RX0 80 yX0_blocksWritten, .instanceMethod yX0_blocksWritten, .selects RX0 yX0_blocksWritten yX0_blocksWritten, .code yX0_blocksWritten cX0_blocksWritten 1 (some .int), .fieldLink RX0 44 "BlockTape" "nextPlace" "I", .methodLink RX0 58 yX0_isInBlock, .static yX0_isInBlock, .code yX0_isInBlock cX0_isInBlock 1 (some .boolean)] ++ wsX00)
def wsX0_good : List Cond := .code yX0_good cX0_good 2 (some .boolean) :: ([.fieldLink RX0 23 "BlockTape" "spoiltBy" "[I", .methodLink RX0 54 yX0_isWritten, .instanceMethod yX0_isWritten, .selects RX0 yX0_isWritten yX0_isWritten, .initialized RX0, .code yX0_isWritten cX0_isWritten 2 (some .boolean), .methodLink RX0 80 yX0_blocksWritten, .instanceMethod yX0_blocksWritten, .selects RX0 yX0_blocksWritten yX0_blocksWritten, .code yX0_blocksWritten cX0_blocksWritten 1 (some .int), .fieldLink RX0 44 "BlockTape" "nextPlace" "I"] ++ wsX00)
def wsX0_isRead : List Cond := .code yX0_isRead cX0_isRead 4 (some .boolean) :: ([.fieldLink RX0 16 "BlockTape" "rowPlace" "[I", .fieldLink RX0 20 "BlockTape" "rowLength" "[I", .methodLink RX0 83 yX0_good, .instanceMethod yX0_good, .selects RX0 yX0_good yX0_good, .initialized RX0, .code yX0_good cX0_good 2 (some .boolean), .fieldLink RX0 23 "BlockTape" "spoiltBy" "[I", .methodLink RX0 54 yX0_isWritten, .instanceMethod yX0_isWritten, .selects RX0 yX0_isWritten yX0_isWritten, .code yX0_isWritten cX0_isWritten 2 (some .boolean), .methodLink RX0 80 yX0_blocksWritten, .instanceMethod yX0_blocksWritten, .selects RX0 yX0_blocksWritten yX0_blocksWritten, .code yX0_blocksWritten cX0_blocksWritten 1 (some .int), .fieldLink RX0 44 "BlockTape" "nextPlace" "I"] ++ wsX00)
def wsX0_recordOfRead : List Cond := .code yX0_recordOfRead cX0_recordOfRead 4 (some .int) :: ([.fieldLink RX0 34 "BlockTape" "records" "I", .methodLink RX0 107 yX0_isRead, .instanceMethod yX0_isRead, .selects RX0 yX0_isRead yX0_isRead, .initialized RX0, .code yX0_isRead cX0_isRead 4 (some .boolean), .fieldLink RX0 16 "BlockTape" "rowPlace" "[I", .fieldLink RX0 20 "BlockTape" "rowLength" "[I", .methodLink RX0 83 yX0_good, .instanceMethod yX0_good, .selects RX0 yX0_good yX0_good, .code yX0_good cX0_good 2 (some .boolean), .fieldLink RX0 23 "BlockTape" "spoiltBy" "[I", .methodLink RX0 54 yX0_isWritten, .instanceMethod yX0_isWritten, .selects RX0 yX0_isWritten yX0_isWritten, .code yX0_isWritten cX0_isWritten 2 (some .boolean), .methodLink RX0 80 yX0_blocksWritten, .instanceMethod yX0_blocksWritten, .selects RX0 yX0_blocksWritten yX0_blocksWritten, .code yX0_blocksWritten cX0_blocksWritten 1 (some .int), .fieldLink RX0 44 "BlockTape" "nextPlace" "I"] ++ wsX00)
def wsX0_rowByte : List Cond := .code yX0_rowByte cX0_rowByte 3 (some .int) :: ([.fieldLink RX0 13 "BlockTape" "volume" "[B", .fieldLink RX0 16 "BlockTape" "rowPlace" "[I", .methodLink RX0 96 yX0_indexOfPlace, .static yX0_indexOfPlace, .initialized RX0, .code yX0_indexOfPlace cX0_indexOfPlace 1 (some .int)] ++ wsX00)
def wsX0_recordByte : List Cond := .code yX0_recordByte cX0_recordByte 3 (some .int) :: ([.fieldLink RX0 20 "BlockTape" "rowLength" "[I", .methodLink RX0 68 yX0_rowByte, .instanceMethod yX0_rowByte, .selects RX0 yX0_rowByte yX0_rowByte, .initialized RX0, .code yX0_rowByte cX0_rowByte 3 (some .int), .fieldLink RX0 13 "BlockTape" "volume" "[B", .fieldLink RX0 16 "BlockTape" "rowPlace" "[I", .methodLink RX0 96 yX0_indexOfPlace, .static yX0_indexOfPlace, .code yX0_indexOfPlace cX0_indexOfPlace 1 (some .int)] ++ wsX00)
def wsX0_read_r1 : List Cond := [Cond.fieldLink RX0 20 "BlockTape" "rowLength" "[I", Cond.fieldLink RX0 16 "BlockTape" "rowPlace" "[I", Cond.methodLink RX0 64 yX0_recordOfRead, Cond.instanceMethod yX0_recordOfRead, Cond.selects RX0 yX0_recordOfRead yX0_recordOfRead, Cond.initialized RX0, Cond.code yX0_recordOfRead cX0_recordOfRead 4 (some .int), Cond.fieldLink RX0 34 "BlockTape" "records" "I", Cond.methodLink RX0 107 yX0_isRead, Cond.instanceMethod yX0_isRead, Cond.selects RX0 yX0_isRead yX0_isRead, Cond.code yX0_isRead cX0_isRead 4 (some .boolean), Cond.methodLink RX0 83 yX0_good, Cond.instanceMethod yX0_good, Cond.selects RX0 yX0_good yX0_good, Cond.code yX0_good cX0_good 2 (some .boolean), Cond.fieldLink RX0 23 "BlockTape" "spoiltBy" "[I", Cond.methodLink RX0 54 yX0_isWritten, Cond.instanceMethod yX0_isWritten, Cond.selects RX0 yX0_isWritten yX0_isWritten, Cond.code yX0_isWritten cX0_isWritten 2 (some .boolean), Cond.methodLink RX0 80 yX0_blocksWritten, Cond.instanceMethod yX0_blocksWritten, Cond.selects RX0 yX0_blocksWritten yX0_blocksWritten]
def wsX0_read_r2 : List Cond := [Cond.code yX0_blocksWritten cX0_blocksWritten 1 (some .int), Cond.fieldLink RX0 44 "BlockTape" "nextPlace" "I", Cond.methodLink RX0 68 yX0_rowByte, Cond.instanceMethod yX0_rowByte, Cond.selects RX0 yX0_rowByte yX0_rowByte, Cond.code yX0_rowByte cX0_rowByte 3 (some .int), Cond.fieldLink RX0 13 "BlockTape" "volume" "[B", Cond.methodLink RX0 96 yX0_indexOfPlace, Cond.static yX0_indexOfPlace, Cond.code yX0_indexOfPlace cX0_indexOfPlace 1 (some .int), Cond.methodLink RX0 72 yX0_recordByte, Cond.instanceMethod yX0_recordByte, Cond.selects RX0 yX0_recordByte yX0_recordByte, Cond.code yX0_recordByte cX0_recordByte 3 (some .int)]
def wsX0_read : List Cond := .code yX0_read cX0_read 4 (some .int) :: ((wsX0_read_r1 ++ wsX0_read_r2) ++ wsX00)
def wsX0_verify : List Cond := .code yX0_verify cX0_verify 3 (some .int) :: ([.methodLink RX0 75 Lib.Math.max.name, .static Lib.Math.max.name, .initialized "java/lang/Math", .code Lib.Math.max.name Lib.Math.max.code 2 (some .int), .methodLink RX0 80 yX0_blocksWritten, .instanceMethod yX0_blocksWritten, .selects RX0 yX0_blocksWritten yX0_blocksWritten, .initialized RX0, .code yX0_blocksWritten cX0_blocksWritten 1 (some .int), .fieldLink RX0 44 "BlockTape" "nextPlace" "I", .methodLink RX0 83 yX0_good, .instanceMethod yX0_good, .selects RX0 yX0_good yX0_good, .code yX0_good cX0_good 2 (some .boolean), .fieldLink RX0 23 "BlockTape" "spoiltBy" "[I", .methodLink RX0 54 yX0_isWritten, .instanceMethod yX0_isWritten, .selects RX0 yX0_isWritten yX0_isWritten, .code yX0_isWritten cX0_isWritten 2 (some .boolean)] ++ wsX00)
def wsX0_recordsRead : List Cond := .code yX0_recordsRead cX0_recordsRead 3 (some .int) :: ([.fieldLink RX0 34 "BlockTape" "records" "I", .methodLink RX0 107 yX0_isRead, .instanceMethod yX0_isRead, .selects RX0 yX0_isRead yX0_isRead, .initialized RX0, .code yX0_isRead cX0_isRead 4 (some .boolean), .fieldLink RX0 16 "BlockTape" "rowPlace" "[I", .fieldLink RX0 20 "BlockTape" "rowLength" "[I", .methodLink RX0 83 yX0_good, .instanceMethod yX0_good, .selects RX0 yX0_good yX0_good, .code yX0_good cX0_good 2 (some .boolean), .fieldLink RX0 23 "BlockTape" "spoiltBy" "[I", .methodLink RX0 54 yX0_isWritten, .instanceMethod yX0_isWritten, .selects RX0 yX0_isWritten yX0_isWritten, .code yX0_isWritten cX0_isWritten 2 (some .boolean), .methodLink RX0 80 yX0_blocksWritten, .instanceMethod yX0_blocksWritten, .selects RX0 yX0_blocksWritten yX0_blocksWritten, .code yX0_blocksWritten cX0_blocksWritten 1 (some .int), .fieldLink RX0 44 "BlockTape" "nextPlace" "I"] ++ wsX00)
def wsX0_blocksNotGood : List Cond := .code yX0_blocksNotGood cX0_blocksNotGood 3 (some .int) :: ([.methodLink RX0 80 yX0_blocksWritten, .instanceMethod yX0_blocksWritten, .selects RX0 yX0_blocksWritten yX0_blocksWritten, .initialized RX0, .code yX0_blocksWritten cX0_blocksWritten 1 (some .int), .fieldLink RX0 44 "BlockTape" "nextPlace" "I", .methodLink RX0 83 yX0_good, .instanceMethod yX0_good, .selects RX0 yX0_good yX0_good, .code yX0_good cX0_good 2 (some .boolean), .fieldLink RX0 23 "BlockTape" "spoiltBy" "[I", .methodLink RX0 54 yX0_isWritten, .instanceMethod yX0_isWritten, .selects RX0 yX0_isWritten yX0_isWritten, .code yX0_isWritten cX0_isWritten 2 (some .boolean)] ++ wsX00)
def wsX0_count_r1 : List Cond := [Cond.fieldLink RX0 29 "BlockTape" "tapeLength" "I", Cond.fieldLink RX0 34 "BlockTape" "records" "I", Cond.fieldLink RX0 44 "BlockTape" "nextPlace" "I", Cond.methodLink RX0 80 yX0_blocksWritten, Cond.instanceMethod yX0_blocksWritten, Cond.selects RX0 yX0_blocksWritten yX0_blocksWritten, Cond.initialized RX0, Cond.code yX0_blocksWritten cX0_blocksWritten 1 (some .int), Cond.methodLink RX0 86 yX0_recordsRead, Cond.instanceMethod yX0_recordsRead, Cond.selects RX0 yX0_recordsRead yX0_recordsRead, Cond.code yX0_recordsRead cX0_recordsRead 3 (some .int), Cond.methodLink RX0 107 yX0_isRead, Cond.instanceMethod yX0_isRead, Cond.selects RX0 yX0_isRead yX0_isRead, Cond.code yX0_isRead cX0_isRead 4 (some .boolean), Cond.fieldLink RX0 16 "BlockTape" "rowPlace" "[I", Cond.fieldLink RX0 20 "BlockTape" "rowLength" "[I", Cond.methodLink RX0 83 yX0_good, Cond.instanceMethod yX0_good, Cond.selects RX0 yX0_good yX0_good, Cond.code yX0_good cX0_good 2 (some .boolean), Cond.fieldLink RX0 23 "BlockTape" "spoiltBy" "[I", Cond.methodLink RX0 54 yX0_isWritten]
def wsX0_count_r2 : List Cond := [Cond.instanceMethod yX0_isWritten, Cond.selects RX0 yX0_isWritten yX0_isWritten, Cond.code yX0_isWritten cX0_isWritten 2 (some .boolean), Cond.methodLink RX0 89 yX0_blocksNotGood, Cond.instanceMethod yX0_blocksNotGood, Cond.selects RX0 yX0_blocksNotGood yX0_blocksNotGood, Cond.code yX0_blocksNotGood cX0_blocksNotGood 3 (some .int), Cond.methodLink RX0 37 yX0_placesLeft, Cond.instanceMethod yX0_placesLeft, Cond.selects RX0 yX0_placesLeft yX0_placesLeft, Cond.code yX0_placesLeft cX0_placesLeft 1 (some .int)]
def wsX0_count : List Cond := .code yX0_count cX0_count 2 (some .int) :: ((wsX0_count_r1 ++ wsX0_count_r2) ++ wsX00)
theorem dX0_init_0 : decode cX0_init 0 = .ok (.aload_n 0, 1) := by decide +kernel
theorem dX0_init_1 : decode cX0_init 1 = .ok (.invokespecial 3, 3) := by decide +kernel
theorem dX0_init_4 : decode cX0_init 4 = .ok (.aload_n 0, 1) := by decide +kernel
theorem dX0_init_5 : decode cX0_init 5 = .ok (.sipush 300, 3) := by decide +kernel
theorem dX0_init_8 : decode cX0_init 8 = .ok (.newarray .byte, 2) := by decide +kernel
theorem dX0_init_10 : decode cX0_init 10 = .ok (.putfield 9, 3) := by decide +kernel
theorem dX0_init_13 : decode cX0_init 13 = .ok (.aload_n 0, 1) := by decide +kernel
theorem dX0_init_14 : decode cX0_init 14 = .ok (.sipush 5120, 3) := by decide +kernel
theorem dX0_init_17 : decode cX0_init 17 = .ok (.newarray .byte, 2) := by decide +kernel
theorem dX0_init_19 : decode cX0_init 19 = .ok (.putfield 13, 3) := by decide +kernel
theorem dX0_init_22 : decode cX0_init 22 = .ok (.aload_n 0, 1) := by decide +kernel
theorem dX0_init_23 : decode cX0_init 23 = .ok (.sipush 200, 3) := by decide +kernel
theorem dX0_init_26 : decode cX0_init 26 = .ok (.newarray .int, 2) := by decide +kernel
theorem dX0_init_28 : decode cX0_init 28 = .ok (.putfield 16, 3) := by decide +kernel
theorem dX0_init_31 : decode cX0_init 31 = .ok (.aload_n 0, 1) := by decide +kernel
theorem dX0_init_32 : decode cX0_init 32 = .ok (.sipush 200, 3) := by decide +kernel
theorem dX0_init_35 : decode cX0_init 35 = .ok (.newarray .int, 2) := by decide +kernel
theorem dX0_init_37 : decode cX0_init 37 = .ok (.putfield 20, 3) := by decide +kernel
theorem dX0_init_40 : decode cX0_init 40 = .ok (.aload_n 0, 1) := by decide +kernel
theorem dX0_init_41 : decode cX0_init 41 = .ok (.bipush 80, 2) := by decide +kernel
theorem dX0_init_43 : decode cX0_init 43 = .ok (.newarray .int, 2) := by decide +kernel
theorem dX0_init_45 : decode cX0_init 45 = .ok (.putfield 23, 3) := by decide +kernel
theorem dX0_init_48 : decode cX0_init 48 = .ok (.aload_n 0, 1) := by decide +kernel
theorem dX0_init_49 : decode cX0_init 49 = .ok (.bipush 80, 2) := by decide +kernel
theorem dX0_init_51 : decode cX0_init 51 = .ok (.newarray .int, 2) := by decide +kernel
theorem dX0_init_53 : decode cX0_init 53 = .ok (.putfield 26, 3) := by decide +kernel
theorem dX0_init_56 : decode cX0_init 56 = .ok (.iconst 0, 1) := by decide +kernel
theorem dX0_init_57 : decode cX0_init 57 = .ok (.istore_n 1, 1) := by decide +kernel
theorem dX0_init_58 : decode cX0_init 58 = .ok (.iload_n 1, 1) := by decide +kernel
theorem dX0_init_59 : decode cX0_init 59 = .ok (.bipush 80, 2) := by decide +kernel
theorem dX0_init_61 : decode cX0_init 61 = .ok (.if_icmp .ge 21, 3) := by decide +kernel
theorem dX0_init_64 : decode cX0_init 64 = .ok (.aload_n 0, 1) := by decide +kernel
theorem dX0_init_65 : decode cX0_init 65 = .ok (.getfield 13, 3) := by decide +kernel
theorem dX0_init_68 : decode cX0_init 68 = .ok (.iload_n 1, 1) := by decide +kernel
theorem dX0_init_69 : decode cX0_init 69 = .ok (.bipush 64, 2) := by decide +kernel
theorem dX0_init_71 : decode cX0_init 71 = .ok (.imul, 1) := by decide +kernel
theorem dX0_init_72 : decode cX0_init 72 = .ok (.iconst 3, 1) := by decide +kernel
theorem dX0_init_73 : decode cX0_init 73 = .ok (.iadd, 1) := by decide +kernel
theorem dX0_init_74 : decode cX0_init 74 = .ok (.iconst (-1), 1) := by decide +kernel
theorem dX0_init_75 : decode cX0_init 75 = .ok (.bastore, 1) := by decide +kernel
theorem dX0_init_76 : decode cX0_init 76 = .ok (.iinc 1 1, 3) := by decide +kernel
theorem dX0_init_79 : decode cX0_init 79 = .ok (.goto (-21), 3) := by decide +kernel
theorem dX0_init_82 : decode cX0_init 82 = .ok (.return_, 1) := by decide +kernel
theorem dX0_feed_0 : decode cX0_feed 0 = .ok (.iload_n 2, 1) := by decide +kernel
theorem dX0_feed_1 : decode cX0_feed 1 = .ok (.iconst 1, 1) := by decide +kernel
theorem dX0_feed_2 : decode cX0_feed 2 = .ok (.if_icmp .lt 20, 3) := by decide +kernel
theorem dX0_feed_5 : decode cX0_feed 5 = .ok (.iload_n 2, 1) := by decide +kernel
theorem dX0_feed_6 : decode cX0_feed 6 = .ok (.iconst 4, 1) := by decide +kernel
theorem dX0_feed_7 : decode cX0_feed 7 = .ok (.if_icmp .gt 15, 3) := by decide +kernel
theorem dX0_feed_10 : decode cX0_feed 10 = .ok (.iload_n 2, 1) := by decide +kernel
theorem dX0_feed_11 : decode cX0_feed 11 = .ok (.sipush 300, 3) := by decide +kernel
theorem dX0_feed_14 : decode cX0_feed 14 = .ok (.aload_n 0, 1) := by decide +kernel
theorem dX0_feed_15 : decode cX0_feed 15 = .ok (.getfield 29, 3) := by decide +kernel
theorem dX0_feed_18 : decode cX0_feed 18 = .ok (.isub, 1) := by decide +kernel
theorem dX0_feed_19 : decode cX0_feed 19 = .ok (.if_icmp .le 5, 3) := by decide +kernel
theorem dX0_feed_22 : decode cX0_feed 22 = .ok (.iconst (-1), 1) := by decide +kernel
theorem dX0_feed_23 : decode cX0_feed 23 = .ok (.ireturn, 1) := by decide +kernel
theorem dX0_feed_24 : decode cX0_feed 24 = .ok (.iconst 0, 1) := by decide +kernel
theorem dX0_feed_25 : decode cX0_feed 25 = .ok (.istore_n 3, 1) := by decide +kernel
theorem dX0_feed_26 : decode cX0_feed 26 = .ok (.iload_n 3, 1) := by decide +kernel
theorem dX0_feed_27 : decode cX0_feed 27 = .ok (.iload_n 2, 1) := by decide +kernel
theorem dX0_feed_28 : decode cX0_feed 28 = .ok (.if_icmp .ge 38, 3) := by decide +kernel
theorem dX0_feed_31 : decode cX0_feed 31 = .ok (.aload_n 0, 1) := by decide +kernel
theorem dX0_feed_32 : decode cX0_feed 32 = .ok (.getfield 9, 3) := by decide +kernel
theorem dX0_feed_35 : decode cX0_feed 35 = .ok (.aload_n 0, 1) := by decide +kernel
theorem dX0_feed_36 : decode cX0_feed 36 = .ok (.getfield 29, 3) := by decide +kernel
theorem dX0_feed_39 : decode cX0_feed 39 = .ok (.iload_n 1, 1) := by decide +kernel
theorem dX0_feed_40 : decode cX0_feed 40 = .ok (.bipush 24, 2) := by decide +kernel
theorem dX0_feed_42 : decode cX0_feed 42 = .ok (.bipush 8, 2) := by decide +kernel
theorem dX0_feed_44 : decode cX0_feed 44 = .ok (.iload_n 3, 1) := by decide +kernel
theorem dX0_feed_45 : decode cX0_feed 45 = .ok (.imul, 1) := by decide +kernel
theorem dX0_feed_46 : decode cX0_feed 46 = .ok (.isub, 1) := by decide +kernel
theorem dX0_feed_47 : decode cX0_feed 47 = .ok (.iushr, 1) := by decide +kernel
theorem dX0_feed_48 : decode cX0_feed 48 = .ok (.i2b, 1) := by decide +kernel
theorem dX0_feed_49 : decode cX0_feed 49 = .ok (.bastore, 1) := by decide +kernel
theorem dX0_feed_50 : decode cX0_feed 50 = .ok (.aload_n 0, 1) := by decide +kernel
theorem dX0_feed_51 : decode cX0_feed 51 = .ok (.dup, 1) := by decide +kernel
theorem dX0_feed_52 : decode cX0_feed 52 = .ok (.getfield 29, 3) := by decide +kernel
theorem dX0_feed_55 : decode cX0_feed 55 = .ok (.iconst 1, 1) := by decide +kernel
theorem dX0_feed_56 : decode cX0_feed 56 = .ok (.iadd, 1) := by decide +kernel
theorem dX0_feed_57 : decode cX0_feed 57 = .ok (.putfield 29, 3) := by decide +kernel
theorem dX0_feed_60 : decode cX0_feed 60 = .ok (.iinc 3 1, 3) := by decide +kernel
theorem dX0_feed_63 : decode cX0_feed 63 = .ok (.goto (-37), 3) := by decide +kernel
theorem dX0_feed_66 : decode cX0_feed 66 = .ok (.aload_n 0, 1) := by decide +kernel
theorem dX0_feed_67 : decode cX0_feed 67 = .ok (.getfield 29, 3) := by decide +kernel
theorem dX0_feed_70 : decode cX0_feed 70 = .ok (.ireturn, 1) := by decide +kernel
set_option maxRecDepth 20000 in
theorem ggX0_put_X0_placesLeft : GoodIn wsX0_put wsX0_placesLeft := goodIn_r _ [11, 5, 42, 43, 44, 45, 46, 47, 48, 49, 50] (by decide +kernel) (by decide +kernel)
set_option maxRecDepth 20000 in
theorem gX0_put_X0_placesLeft : GoodIn wsX0_put (wsV RX0 37 RX0 yX0_placesLeft wsX0_placesLeft) := goodIn_app (goodIn_of _ (by decide +kernel)) ggX0_put_X0_placesLeft
set_option maxRecDepth 20000 in
theorem ggX0_put_X0_noteBeginning : GoodIn wsX0_put wsX0_noteBeginning := goodIn_r _ [15, 5, 16, 42, 43, 44, 45, 46, 47, 48, 49, 50] (by decide +kernel) (by decide +kernel)
set_option maxRecDepth 20000 in
theorem gX0_put_X0_noteBeginning : GoodIn wsX0_put (wsV RX0 41 RX0 yX0_noteBeginning wsX0_noteBeginning) := goodIn_app (goodIn_of _ (by decide +kernel)) ggX0_put_X0_noteBeginning
set_option maxRecDepth 20000 in
theorem ggX0_put_X0_appendRow : GoodIn wsX0_put wsX0_appendRow := goodIn_r _ [20, 2, 21, 22, 23, 24, 10, 25, 16, 5, 26, 27, 28, 29, 30, 31, 32, 33, 34, 35, 36, 37, 38, 39, 40, 41, 42, 43, 44, 45, 46, 47, 48, 49, 50] (by decide +kernel) (by decide +kernel)
set_option maxRecDepth 20000 in
theorem gX0_put_X0_appendRow : GoodIn wsX0_put (wsV RX0 47 RX0 yX0_appendRow wsX0_appendRow) := goodIn_app (goodIn_of _ (by decide +kernel)) ggX0_put_X0_appendRow
theorem dX0_put_0 : decode cX0_put 0 = .ok (.iload_n 1, 1) := by decide +kernel
theorem dX0_put_1 : decode cX0_put 1 = .ok (.ifCond .lt 20, 3) := by decide +kernel
theorem dX0_put_4 : decode cX0_put 4 = .ok (.iload_n 1, 1) := by decide +kernel
theorem dX0_put_5 : decode cX0_put 5 = .ok (.sipush 255, 3) := by decide +kernel
theorem dX0_put_8 : decode cX0_put 8 = .ok (.if_icmp .gt 13, 3) := by decide +kernel
theorem dX0_put_11 : decode cX0_put 11 = .ok (.iload_n 2, 1) := by decide +kernel
theorem dX0_put_12 : decode cX0_put 12 = .ok (.ifCond .lt 9, 3) := by decide +kernel
theorem dX0_put_15 : decode cX0_put 15 = .ok (.iload_n 2, 1) := by decide +kernel
theorem dX0_put_16 : decode cX0_put 16 = .ok (.ldc 33, 2) := by decide +kernel
theorem dX0_put_18 : decode cX0_put 18 = .ok (.if_icmp .le 5, 3) := by decide +kernel
theorem dX0_put_21 : decode cX0_put 21 = .ok (.iconst (-1), 1) := by decide +kernel
theorem dX0_put_22 : decode cX0_put 22 = .ok (.ireturn, 1) := by decide +kernel
theorem dX0_put_23 : decode cX0_put 23 = .ok (.bipush 6, 2) := by decide +kernel
theorem dX0_put_25 : decode cX0_put 25 = .ok (.aload_n 0, 1) := by decide +kernel
theorem dX0_put_26 : decode cX0_put 26 = .ok (.getfield 29, 3) := by decide +kernel
theorem dX0_put_29 : decode cX0_put 29 = .ok (.iadd, 1) := by decide +kernel
theorem dX0_put_30 : decode cX0_put 30 = .ok (.istore_n 3, 1) := by decide +kernel
theorem dX0_put_31 : decode cX0_put 31 = .ok (.aload_n 0, 1) := by decide +kernel
theorem dX0_put_32 : decode cX0_put 32 = .ok (.getfield 34, 3) := by decide +kernel
theorem dX0_put_35 : decode cX0_put 35 = .ok (.sipush 200, 3) := by decide +kernel
theorem dX0_put_38 : decode cX0_put 38 = .ok (.if_icmp .ge 11, 3) := by decide +kernel
theorem dX0_put_41 : decode cX0_put 41 = .ok (.iload_n 3, 1) := by decide +kernel
theorem dX0_put_42 : decode cX0_put 42 = .ok (.aload_n 0, 1) := by decide +kernel
theorem dX0_put_43 : decode cX0_put 43 = .ok (.invokevirtual 37, 3) := by decide +kernel
theorem dX0_put_46 : decode cX0_put 46 = .ok (.if_icmp .le 5, 3) := by decide +kernel
theorem dX0_put_49 : decode cX0_put 49 = .ok (.iconst (-1), 1) := by decide +kernel
theorem dX0_put_50 : decode cX0_put 50 = .ok (.ireturn, 1) := by decide +kernel
theorem dX0_put_51 : decode cX0_put 51 = .ok (.aload_n 0, 1) := by decide +kernel
theorem dX0_put_52 : decode cX0_put 52 = .ok (.invokevirtual 41, 3) := by decide +kernel
theorem dX0_put_55 : decode cX0_put 55 = .ok (.aload_n 0, 1) := by decide +kernel
theorem dX0_put_56 : decode cX0_put 56 = .ok (.getfield 16, 3) := by decide +kernel
theorem dX0_put_59 : decode cX0_put 59 = .ok (.aload_n 0, 1) := by decide +kernel
theorem dX0_put_60 : decode cX0_put 60 = .ok (.getfield 34, 3) := by decide +kernel
theorem dX0_put_63 : decode cX0_put 63 = .ok (.aload_n 0, 1) := by decide +kernel
theorem dX0_put_64 : decode cX0_put 64 = .ok (.getfield 44, 3) := by decide +kernel
theorem dX0_put_67 : decode cX0_put 67 = .ok (.iastore, 1) := by decide +kernel
theorem dX0_put_68 : decode cX0_put 68 = .ok (.aload_n 0, 1) := by decide +kernel
theorem dX0_put_69 : decode cX0_put 69 = .ok (.getfield 20, 3) := by decide +kernel
theorem dX0_put_72 : decode cX0_put 72 = .ok (.aload_n 0, 1) := by decide +kernel
theorem dX0_put_73 : decode cX0_put 73 = .ok (.getfield 34, 3) := by decide +kernel
theorem dX0_put_76 : decode cX0_put 76 = .ok (.iload_n 3, 1) := by decide +kernel
theorem dX0_put_77 : decode cX0_put 77 = .ok (.iastore, 1) := by decide +kernel
theorem dX0_put_78 : decode cX0_put 78 = .ok (.aload_n 0, 1) := by decide +kernel
theorem dX0_put_79 : decode cX0_put 79 = .ok (.iload_n 1, 1) := by decide +kernel
theorem dX0_put_80 : decode cX0_put 80 = .ok (.iload_n 2, 1) := by decide +kernel
theorem dX0_put_81 : decode cX0_put 81 = .ok (.invokevirtual 47, 3) := by decide +kernel
theorem dX0_put_84 : decode cX0_put 84 = .ok (.aload_n 0, 1) := by decide +kernel
theorem dX0_put_85 : decode cX0_put 85 = .ok (.iconst 0, 1) := by decide +kernel
theorem dX0_put_86 : decode cX0_put 86 = .ok (.putfield 29, 3) := by decide +kernel
theorem dX0_put_89 : decode cX0_put 89 = .ok (.aload_n 0, 1) := by decide +kernel
theorem dX0_put_90 : decode cX0_put 90 = .ok (.dup, 1) := by decide +kernel
theorem dX0_put_91 : decode cX0_put 91 = .ok (.getfield 34, 3) := by decide +kernel
theorem dX0_put_94 : decode cX0_put 94 = .ok (.iconst 1, 1) := by decide +kernel
theorem dX0_put_95 : decode cX0_put 95 = .ok (.iadd, 1) := by decide +kernel
theorem dX0_put_96 : decode cX0_put 96 = .ok (.putfield 34, 3) := by decide +kernel
theorem dX0_put_99 : decode cX0_put 99 = .ok (.aload_n 0, 1) := by decide +kernel
theorem dX0_put_100 : decode cX0_put 100 = .ok (.getfield 34, 3) := by decide +kernel
theorem dX0_put_103 : decode cX0_put 103 = .ok (.iconst 1, 1) := by decide +kernel
theorem dX0_put_104 : decode cX0_put 104 = .ok (.isub, 1) := by decide +kernel
theorem dX0_put_105 : decode cX0_put 105 = .ok (.ireturn, 1) := by decide +kernel
set_option maxRecDepth 20000 in
theorem ggX0_close_X0_writeBlock : GoodIn wsX0_close wsX0_writeBlock := goodIn_r _ [6, 7, 8, 9, 10, 5, 11, 12, 13, 14, 15, 16, 17, 18, 19, 20, 21, 22, 23, 24, 25] (by decide +kernel) (by decide +kernel)
set_option maxRecDepth 20000 in
theorem gX0_close_X0_writeBlock : GoodIn wsX0_close (wsV RX0 51 RX0 yX0_writeBlock wsX0_writeBlock) := goodIn_app (goodIn_of _ (by decide +kernel)) ggX0_close_X0_writeBlock
theorem dX0_close_0 : decode cX0_close 0 = .ok (.aload_n 0, 1) := by decide +kernel
theorem dX0_close_1 : decode cX0_close 1 = .ok (.getfield 44, 3) := by decide +kernel
theorem dX0_close_4 : decode cX0_close 4 = .ok (.bipush 56, 2) := by decide +kernel
theorem dX0_close_6 : decode cX0_close 6 = .ok (.irem, 1) := by decide +kernel
theorem dX0_close_7 : decode cX0_close 7 = .ok (.istore_n 1, 1) := by decide +kernel
theorem dX0_close_8 : decode cX0_close 8 = .ok (.iload_n 1, 1) := by decide +kernel
theorem dX0_close_9 : decode cX0_close 9 = .ok (.ifCond .ne 5, 3) := by decide +kernel
theorem dX0_close_12 : decode cX0_close 12 = .ok (.iconst 0, 1) := by decide +kernel
theorem dX0_close_13 : decode cX0_close 13 = .ok (.ireturn, 1) := by decide +kernel
theorem dX0_close_14 : decode cX0_close 14 = .ok (.aload_n 0, 1) := by decide +kernel
theorem dX0_close_15 : decode cX0_close 15 = .ok (.aload_n 0, 1) := by decide +kernel
theorem dX0_close_16 : decode cX0_close 16 = .ok (.getfield 44, 3) := by decide +kernel
theorem dX0_close_19 : decode cX0_close 19 = .ok (.bipush 56, 2) := by decide +kernel
theorem dX0_close_21 : decode cX0_close 21 = .ok (.idiv, 1) := by decide +kernel
theorem dX0_close_22 : decode cX0_close 22 = .ok (.iload_n 1, 1) := by decide +kernel
theorem dX0_close_23 : decode cX0_close 23 = .ok (.invokevirtual 51, 3) := by decide +kernel
theorem dX0_close_26 : decode cX0_close 26 = .ok (.aload_n 0, 1) := by decide +kernel
theorem dX0_close_27 : decode cX0_close 27 = .ok (.dup, 1) := by decide +kernel
theorem dX0_close_28 : decode cX0_close 28 = .ok (.getfield 44, 3) := by decide +kernel
theorem dX0_close_31 : decode cX0_close 31 = .ok (.bipush 56, 2) := by decide +kernel
theorem dX0_close_33 : decode cX0_close 33 = .ok (.iload_n 1, 1) := by decide +kernel
theorem dX0_close_34 : decode cX0_close 34 = .ok (.isub, 1) := by decide +kernel
theorem dX0_close_35 : decode cX0_close 35 = .ok (.iadd, 1) := by decide +kernel
theorem dX0_close_36 : decode cX0_close 36 = .ok (.putfield 44, 3) := by decide +kernel
theorem dX0_close_39 : decode cX0_close 39 = .ok (.iconst 1, 1) := by decide +kernel
theorem dX0_close_40 : decode cX0_close 40 = .ok (.ireturn, 1) := by decide +kernel
set_option maxRecDepth 20000 in
theorem ggX0_spoil_X0_isWritten : GoodIn wsX0_spoil wsX0_isWritten := goodIn_r _ [7, 8, 9, 10, 6, 11, 12, 21, 22, 23, 24, 25, 26, 27, 28, 29] (by decide +kernel) (by decide +kernel)
set_option maxRecDepth 20000 in
theorem gX0_spoil_X0_isWritten : GoodIn wsX0_spoil (wsV RX0 54 RX0 yX0_isWritten wsX0_isWritten) := goodIn_app (goodIn_of _ (by decide +kernel)) ggX0_spoil_X0_isWritten
set_option maxRecDepth 20000 in
theorem ggX0_spoil_X0_isInBlock : GoodIn wsX0_spoil wsX0_isInBlock := goodIn_r _ [15] (by decide +kernel) (by decide +kernel)
set_option maxRecDepth 20000 in
theorem gX0_spoil_X0_isInBlock : GoodIn wsX0_spoil (va_wsS RX0 58 yX0_isInBlock wsX0_isInBlock) := goodIn_app (goodIn_of _ (by decide +kernel)) ggX0_spoil_X0_isInBlock
set_option maxRecDepth 20000 in
theorem ggX0_spoil_X0_addToByte : GoodIn wsX0_spoil wsX0_addToByte := goodIn_r _ [19, 20, 21, 22, 23, 24, 25, 26, 27, 28, 29] (by decide +kernel) (by decide +kernel)
set_option maxRecDepth 20000 in
theorem gX0_spoil_X0_addToByte : GoodIn wsX0_spoil (wsV RX0 61 RX0 yX0_addToByte wsX0_addToByte) := goodIn_app (goodIn_of _ (by decide +kernel)) ggX0_spoil_X0_addToByte
theorem dX0_spoil_0 : decode cX0_spoil 0 = .ok (.aload_n 0, 1) := by decide +kernel
theorem dX0_spoil_1 : decode cX0_spoil 1 = .ok (.iload_n 1, 1) := by decide +kernel
theorem dX0_spoil_2 : decode cX0_spoil 2 = .ok (.invokevirtual 54, 3) := by decide +kernel
theorem dX0_spoil_5 : decode cX0_spoil 5 = .ok (.ifCond .eq 31, 3) := by decide +kernel
theorem dX0_spoil_8 : decode cX0_spoil 8 = .ok (.iload_n 2, 1) := by decide +kernel
theorem dX0_spoil_9 : decode cX0_spoil 9 = .ok (.invokestatic 58, 3) := by decide +kernel
theorem dX0_spoil_12 : decode cX0_spoil 12 = .ok (.ifCond .eq 24, 3) := by decide +kernel
theorem dX0_spoil_15 : decode cX0_spoil 15 = .ok (.iload_n 3, 1) := by decide +kernel
theorem dX0_spoil_16 : decode cX0_spoil 16 = .ok (.iconst 1, 1) := by decide +kernel
theorem dX0_spoil_17 : decode cX0_spoil 17 = .ok (.if_icmp .lt 19, 3) := by decide +kernel
theorem dX0_spoil_20 : decode cX0_spoil 20 = .ok (.iload_n 3, 1) := by decide +kernel
theorem dX0_spoil_21 : decode cX0_spoil 21 = .ok (.sipush 255, 3) := by decide +kernel
theorem dX0_spoil_24 : decode cX0_spoil 24 = .ok (.if_icmp .gt 12, 3) := by decide +kernel
theorem dX0_spoil_27 : decode cX0_spoil 27 = .ok (.aload_n 0, 1) := by decide +kernel
theorem dX0_spoil_28 : decode cX0_spoil 28 = .ok (.getfield 23, 3) := by decide +kernel
theorem dX0_spoil_31 : decode cX0_spoil 31 = .ok (.iload_n 1, 1) := by decide +kernel
theorem dX0_spoil_32 : decode cX0_spoil 32 = .ok (.iaload, 1) := by decide +kernel
theorem dX0_spoil_33 : decode cX0_spoil 33 = .ok (.ifCond .eq 5, 3) := by decide +kernel
theorem dX0_spoil_36 : decode cX0_spoil 36 = .ok (.iconst 0, 1) := by decide +kernel
theorem dX0_spoil_37 : decode cX0_spoil 37 = .ok (.ireturn, 1) := by decide +kernel
theorem dX0_spoil_38 : decode cX0_spoil 38 = .ok (.aload_n 0, 1) := by decide +kernel
theorem dX0_spoil_39 : decode cX0_spoil 39 = .ok (.iload_n 1, 1) := by decide +kernel
theorem dX0_spoil_40 : decode cX0_spoil 40 = .ok (.bipush 64, 2) := by decide +kernel
theorem dX0_spoil_42 : decode cX0_spoil 42 = .ok (.imul, 1) := by decide +kernel
theorem dX0_spoil_43 : decode cX0_spoil 43 = .ok (.iload_n 2, 1) := by decide +kernel
theorem dX0_spoil_44 : decode cX0_spoil 44 = .ok (.iadd, 1) := by decide +kernel
theorem dX0_spoil_45 : decode cX0_spoil 45 = .ok (.iload_n 3, 1) := by decide +kernel
theorem dX0_spoil_46 : decode cX0_spoil 46 = .ok (.invokevirtual 61, 3) := by decide +kernel
theorem dX0_spoil_49 : decode cX0_spoil 49 = .ok (.aload_n 0, 1) := by decide +kernel
theorem dX0_spoil_50 : decode cX0_spoil 50 = .ok (.getfield 23, 3) := by decide +kernel
theorem dX0_spoil_53 : decode cX0_spoil 53 = .ok (.iload_n 1, 1) := by decide +kernel
theorem dX0_spoil_54 : decode cX0_spoil 54 = .ok (.iload_n 3, 1) := by decide +kernel
theorem dX0_spoil_55 : decode cX0_spoil 55 = .ok (.iastore, 1) := by decide +kernel
theorem dX0_spoil_56 : decode cX0_spoil 56 = .ok (.aload_n 0, 1) := by decide +kernel
theorem dX0_spoil_57 : decode cX0_spoil 57 = .ok (.getfield 26, 3) := by decide +kernel
theorem dX0_spoil_60 : decode cX0_spoil 60 = .ok (.iload_n 1, 1) := by decide +kernel
theorem dX0_spoil_61 : decode cX0_spoil 61 = .ok (.iload_n 2, 1) := by decide +kernel
theorem dX0_spoil_62 : decode cX0_spoil 62 = .ok (.iastore, 1) := by decide +kernel
theorem dX0_spoil_63 : decode cX0_spoil 63 = .ok (.iconst 1, 1) := by decide +kernel
theorem dX0_spoil_64 : decode cX0_spoil 64 = .ok (.ireturn, 1) := by decide +kernel
set_option maxRecDepth 20000 in
theorem ggX0_heal_X0_isWritten : GoodIn wsX0_heal wsX0_isWritten := goodIn_r _ [7, 8, 9, 10, 6, 11, 12, 18, 19, 20, 21, 22, 23, 24, 25, 26] (by decide +kernel) (by decide +kernel)
set_option maxRecDepth 20000 in
theorem gX0_heal_X0_isWritten : GoodIn wsX0_heal (wsV RX0 54 RX0 yX0_isWritten wsX0_isWritten) := goodIn_app (goodIn_of _ (by decide +kernel)) ggX0_heal_X0_isWritten
set_option maxRecDepth 20000 in
theorem ggX0_heal_X0_addToByte : GoodIn wsX0_heal wsX0_addToByte := goodIn_r _ [16, 17, 18, 19, 20, 21, 22, 23, 24, 25, 26] (by decide +kernel) (by decide +kernel)
set_option maxRecDepth 20000 in
theorem gX0_heal_X0_addToByte : GoodIn wsX0_heal (wsV RX0 61 RX0 yX0_addToByte wsX0_addToByte) := goodIn_app (goodIn_of _ (by decide +kernel)) ggX0_heal_X0_addToByte
theorem dX0_heal_0 : decode cX0_heal 0 = .ok (.aload_n 0, 1) := by decide +kernel
theorem dX0_heal_1 : decode cX0_heal 1 = .ok (.iload_n 1, 1) := by decide +kernel
theorem dX0_heal_2 : decode cX0_heal 2 = .ok (.invokevirtual 54, 3) := by decide +kernel
theorem dX0_heal_5 : decode cX0_heal 5 = .ok (.ifCond .eq 12, 3) := by decide +kernel
theorem dX0_heal_8 : decode cX0_heal 8 = .ok (.aload_n 0, 1) := by decide +kernel
theorem dX0_heal_9 : decode cX0_heal 9 = .ok (.getfield 23, 3) := by decide +kernel
theorem dX0_heal_12 : decode cX0_heal 12 = .ok (.iload_n 1, 1) := by decide +kernel
theorem dX0_heal_13 : decode cX0_heal 13 = .ok (.iaload, 1) := by decide +kernel
theorem dX0_heal_14 : decode cX0_heal 14 = .ok (.ifCond .ne 5, 3) := by decide +kernel
theorem dX0_heal_17 : decode cX0_heal 17 = .ok (.iconst 0, 1) := by decide +kernel
theorem dX0_heal_18 : decode cX0_heal 18 = .ok (.ireturn, 1) := by decide +kernel
theorem dX0_heal_19 : decode cX0_heal 19 = .ok (.aload_n 0, 1) := by decide +kernel
theorem dX0_heal_20 : decode cX0_heal 20 = .ok (.iload_n 1, 1) := by decide +kernel
theorem dX0_heal_21 : decode cX0_heal 21 = .ok (.bipush 64, 2) := by decide +kernel
theorem dX0_heal_23 : decode cX0_heal 23 = .ok (.imul, 1) := by decide +kernel
theorem dX0_heal_24 : decode cX0_heal 24 = .ok (.aload_n 0, 1) := by decide +kernel
theorem dX0_heal_25 : decode cX0_heal 25 = .ok (.getfield 26, 3) := by decide +kernel
theorem dX0_heal_28 : decode cX0_heal 28 = .ok (.iload_n 1, 1) := by decide +kernel
theorem dX0_heal_29 : decode cX0_heal 29 = .ok (.iaload, 1) := by decide +kernel
theorem dX0_heal_30 : decode cX0_heal 30 = .ok (.iadd, 1) := by decide +kernel
theorem dX0_heal_31 : decode cX0_heal 31 = .ok (.aload_n 0, 1) := by decide +kernel
theorem dX0_heal_32 : decode cX0_heal 32 = .ok (.getfield 23, 3) := by decide +kernel
theorem dX0_heal_35 : decode cX0_heal 35 = .ok (.iload_n 1, 1) := by decide +kernel
theorem dX0_heal_36 : decode cX0_heal 36 = .ok (.iaload, 1) := by decide +kernel
theorem dX0_heal_37 : decode cX0_heal 37 = .ok (.ineg, 1) := by decide +kernel
theorem dX0_heal_38 : decode cX0_heal 38 = .ok (.invokevirtual 61, 3) := by decide +kernel
theorem dX0_heal_41 : decode cX0_heal 41 = .ok (.aload_n 0, 1) := by decide +kernel
theorem dX0_heal_42 : decode cX0_heal 42 = .ok (.getfield 23, 3) := by decide +kernel
theorem dX0_heal_45 : decode cX0_heal 45 = .ok (.iload_n 1, 1) := by decide +kernel
theorem dX0_heal_46 : decode cX0_heal 46 = .ok (.iconst 0, 1) := by decide +kernel
theorem dX0_heal_47 : decode cX0_heal 47 = .ok (.iastore, 1) := by decide +kernel
theorem dX0_heal_48 : decode cX0_heal 48 = .ok (.iconst 1, 1) := by decide +kernel
theorem dX0_heal_49 : decode cX0_heal 49 = .ok (.ireturn, 1) := by decide +kernel
set_option maxRecDepth 20000 in
theorem ggX0_byteOf_X0_isWritten : GoodIn wsX0_byteOf wsX0_isWritten := goodIn_r _ [6, 7, 8, 9, 5, 10, 11, 15, 16, 17, 18, 19, 20, 21, 22, 23] (by decide +kernel) (by decide +kernel)
set_option maxRecDepth 20000 in
theorem gX0_byteOf_X0_isWritten : GoodIn wsX0_byteOf (wsV RX0 54 RX0 yX0_isWritten wsX0_isWritten) := goodIn_app (goodIn_of _ (by decide +kernel)) ggX0_byteOf_X0_isWritten
set_option maxRecDepth 20000 in
theorem ggX0_byteOf_X0_isInBlock : GoodIn wsX0_byteOf wsX0_isInBlock := goodIn_r _ [14] (by decide +kernel) (by decide +kernel)
set_option maxRecDepth 20000 in
theorem gX0_byteOf_X0_isInBlock : GoodIn wsX0_byteOf (va_wsS RX0 58 yX0_isInBlock wsX0_isInBlock) := goodIn_app (goodIn_of _ (by decide +kernel)) ggX0_byteOf_X0_isInBlock
theorem dX0_byteOf_0 : decode cX0_byteOf 0 = .ok (.aload_n 0, 1) := by decide +kernel
theorem dX0_byteOf_1 : decode cX0_byteOf 1 = .ok (.iload_n 1, 1) := by decide +kernel
theorem dX0_byteOf_2 : decode cX0_byteOf 2 = .ok (.invokevirtual 54, 3) := by decide +kernel
theorem dX0_byteOf_5 : decode cX0_byteOf 5 = .ok (.ifCond .eq 10, 3) := by decide +kernel
theorem dX0_byteOf_8 : decode cX0_byteOf 8 = .ok (.iload_n 2, 1) := by decide +kernel
theorem dX0_byteOf_9 : decode cX0_byteOf 9 = .ok (.invokestatic 58, 3) := by decide +kernel
theorem dX0_byteOf_12 : decode cX0_byteOf 12 = .ok (.ifCond .ne 5, 3) := by decide +kernel
theorem dX0_byteOf_15 : decode cX0_byteOf 15 = .ok (.iconst (-1), 1) := by decide +kernel
theorem dX0_byteOf_16 : decode cX0_byteOf 16 = .ok (.ireturn, 1) := by decide +kernel
theorem dX0_byteOf_17 : decode cX0_byteOf 17 = .ok (.aload_n 0, 1) := by decide +kernel
theorem dX0_byteOf_18 : decode cX0_byteOf 18 = .ok (.getfield 13, 3) := by decide +kernel
theorem dX0_byteOf_21 : decode cX0_byteOf 21 = .ok (.iload_n 1, 1) := by decide +kernel
theorem dX0_byteOf_22 : decode cX0_byteOf 22 = .ok (.bipush 64, 2) := by decide +kernel
theorem dX0_byteOf_24 : decode cX0_byteOf 24 = .ok (.imul, 1) := by decide +kernel
theorem dX0_byteOf_25 : decode cX0_byteOf 25 = .ok (.iload_n 2, 1) := by decide +kernel
theorem dX0_byteOf_26 : decode cX0_byteOf 26 = .ok (.iadd, 1) := by decide +kernel
theorem dX0_byteOf_27 : decode cX0_byteOf 27 = .ok (.baload, 1) := by decide +kernel
theorem dX0_byteOf_28 : decode cX0_byteOf 28 = .ok (.sipush 255, 3) := by decide +kernel
theorem dX0_byteOf_31 : decode cX0_byteOf 31 = .ok (.iand, 1) := by decide +kernel
theorem dX0_byteOf_32 : decode cX0_byteOf 32 = .ok (.ireturn, 1) := by decide +kernel
set_option maxRecDepth 20000 in
theorem ggX0_good_X0_isWritten : GoodIn wsX0_good wsX0_isWritten := goodIn_r _ [6, 7, 8, 9, 5, 10, 11, 12, 13, 14, 15, 16, 17, 18, 19, 20] (by decide +kernel) (by decide +kernel)
set_option maxRecDepth 20000 in
theorem gX0_good_X0_isWritten : GoodIn wsX0_good (wsV RX0 54 RX0 yX0_isWritten wsX0_isWritten) := goodIn_app (goodIn_of _ (by decide +kernel)) ggX0_good_X0_isWritten
theorem dX0_good_0 : decode cX0_good 0 = .ok (.aload_n 0, 1) := by decide +kernel
theorem dX0_good_1 : decode cX0_good 1 = .ok (.iload_n 1, 1) := by decide +kernel
theorem dX0_good_2 : decode cX0_good 2 = .ok (.invokevirtual 54, 3) := by decide +kernel
theorem dX0_good_5 : decode cX0_good 5 = .ok (.ifCond .eq 16, 3) := by decide +kernel
theorem dX0_good_8 : decode cX0_good 8 = .ok (.aload_n 0, 1) := by decide +kernel
theorem dX0_good_9 : decode cX0_good 9 = .ok (.getfield 23, 3) := by decide +kernel
theorem dX0_good_12 : decode cX0_good 12 = .ok (.iload_n 1, 1) := by decide +kernel
theorem dX0_good_13 : decode cX0_good 13 = .ok (.iaload, 1) := by decide +kernel
theorem dX0_good_14 : decode cX0_good 14 = .ok (.ifCond .ne 7, 3) := by decide +kernel
theorem dX0_good_17 : decode cX0_good 17 = .ok (.iconst 1, 1) := by decide +kernel
theorem dX0_good_18 : decode cX0_good 18 = .ok (.goto 4, 3) := by decide +kernel
theorem dX0_good_21 : decode cX0_good 21 = .ok (.iconst 0, 1) := by decide +kernel
theorem dX0_good_22 : decode cX0_good 22 = .ok (.ireturn, 1) := by decide +kernel
set_option maxRecDepth 20000 in
theorem ggX0_read_X0_recordOfRead : GoodIn wsX0_read wsX0_recordOfRead := goodIn_r _ [7, 8, 9, 10, 11, 6, 12, 2, 1, 13, 14, 15, 16, 17, 18, 19, 20, 21, 22, 23, 24, 25, 26, 39, 40, 41, 42, 43, 44, 45, 46, 47] (by decide +kernel) (by decide +kernel)
set_option maxRecDepth 20000 in
theorem gX0_read_X0_recordOfRead : GoodIn wsX0_read (wsV RX0 64 RX0 yX0_recordOfRead wsX0_recordOfRead) := goodIn_app (goodIn_of _ (by decide +kernel)) ggX0_read_X0_recordOfRead
set_option maxRecDepth 20000 in
theorem ggX0_read_X0_rowByte : GoodIn wsX0_read wsX0_rowByte := goodIn_r _ [30, 31, 2, 32, 33, 6, 34, 39, 40, 41, 42, 43, 44, 45, 46, 47] (by decide +kernel) (by decide +kernel)
set_option maxRecDepth 20000 in
theorem gX0_read_X0_rowByte : GoodIn wsX0_read (wsV RX0 68 RX0 yX0_rowByte wsX0_rowByte) := goodIn_app (goodIn_of _ (by decide +kernel)) ggX0_read_X0_rowByte
set_option maxRecDepth 20000 in
theorem ggX0_read_X0_recordByte : GoodIn wsX0_read wsX0_recordByte := goodIn_r _ [38, 1, 27, 28, 29, 6, 30, 31, 2, 32, 33, 34, 39, 40, 41, 42, 43, 44, 45, 46, 47] (by decide +kernel) (by decide +kernel)
set_option maxRecDepth 20000 in
theorem gX0_read_X0_recordByte : GoodIn wsX0_read (wsV RX0 72 RX0 yX0_recordByte wsX0_recordByte) := goodIn_app (goodIn_of _ (by decide +kernel)) ggX0_read_X0_recordByte
theorem dX0_read_0 : decode cX0_read 0 = .ok (.aload_n 0, 1) := by decide +kernel
theorem dX0_read_1 : decode cX0_read 1 = .ok (.iload_n 1, 1) := by decide +kernel
theorem dX0_read_2 : decode cX0_read 2 = .ok (.invokevirtual 64, 3) := by decide +kernel
theorem dX0_read_5 : decode cX0_read 5 = .ok (.istore_n 3, 1) := by decide +kernel
theorem dX0_read_6 : decode cX0_read 6 = .ok (.iload_n 3, 1) := by decide +kernel
theorem dX0_read_7 : decode cX0_read 7 = .ok (.iconst (-1), 1) := by decide +kernel
theorem dX0_read_8 : decode cX0_read 8 = .ok (.if_icmp .eq 7, 3) := by decide +kernel
theorem dX0_read_11 : decode cX0_read 11 = .ok (.iload_n 2, 1) := by decide +kernel
theorem dX0_read_12 : decode cX0_read 12 = .ok (.ifCond .ge 5, 3) := by decide +kernel
theorem dX0_read_15 : decode cX0_read 15 = .ok (.iconst (-1), 1) := by decide +kernel
theorem dX0_read_16 : decode cX0_read 16 = .ok (.ireturn, 1) := by decide +kernel
theorem dX0_read_17 : decode cX0_read 17 = .ok (.iload_n 2, 1) := by decide +kernel
theorem dX0_read_18 : decode cX0_read 18 = .ok (.tableswitch 74 0 3 #[30, 37, 54, 64], 30) := by decide +kernel
theorem dX0_read_48 : decode cX0_read 48 = .ok (.aload_n 0, 1) := by decide +kernel
theorem dX0_read_49 : decode cX0_read 49 = .ok (.iload_n 3, 1) := by decide +kernel
theorem dX0_read_50 : decode cX0_read 50 = .ok (.iconst 0, 1) := by decide +kernel
theorem dX0_read_51 : decode cX0_read 51 = .ok (.invokevirtual 68, 3) := by decide +kernel
theorem dX0_read_54 : decode cX0_read 54 = .ok (.ireturn, 1) := by decide +kernel
theorem dX0_read_55 : decode cX0_read 55 = .ok (.aload_n 0, 1) := by decide +kernel
theorem dX0_read_56 : decode cX0_read 56 = .ok (.iload_n 3, 1) := by decide +kernel
theorem dX0_read_57 : decode cX0_read 57 = .ok (.iconst 1, 1) := by decide +kernel
theorem dX0_read_58 : decode cX0_read 58 = .ok (.invokevirtual 68, 3) := by decide +kernel
theorem dX0_read_61 : decode cX0_read 61 = .ok (.bipush 8, 2) := by decide +kernel
theorem dX0_read_63 : decode cX0_read 63 = .ok (.ishl, 1) := by decide +kernel
theorem dX0_read_64 : decode cX0_read 64 = .ok (.aload_n 0, 1) := by decide +kernel
theorem dX0_read_65 : decode cX0_read 65 = .ok (.iload_n 3, 1) := by decide +kernel
theorem dX0_read_66 : decode cX0_read 66 = .ok (.iconst 2, 1) := by decide +kernel
theorem dX0_read_67 : decode cX0_read 67 = .ok (.invokevirtual 68, 3) := by decide +kernel
theorem dX0_read_70 : decode cX0_read 70 = .ok (.ior, 1) := by decide +kernel
theorem dX0_read_71 : decode cX0_read 71 = .ok (.ireturn, 1) := by decide +kernel
theorem dX0_read_72 : decode cX0_read 72 = .ok (.aload_n 0, 1) := by decide +kernel
theorem dX0_read_73 : decode cX0_read 73 = .ok (.getfield 20, 3) := by decide +kernel
theorem dX0_read_76 : decode cX0_read 76 = .ok (.iload_n 3, 1) := by decide +kernel
theorem dX0_read_77 : decode cX0_read 77 = .ok (.iaload, 1) := by decide +kernel
theorem dX0_read_78 : decode cX0_read 78 = .ok (.bipush 6, 2) := by decide +kernel
theorem dX0_read_80 : decode cX0_read 80 = .ok (.isub, 1) := by decide +kernel
theorem dX0_read_81 : decode cX0_read 81 = .ok (.ireturn, 1) := by decide +kernel
theorem dX0_read_82 : decode cX0_read 82 = .ok (.aload_n 0, 1) := by decide +kernel
theorem dX0_read_83 : decode cX0_read 83 = .ok (.getfield 16, 3) := by decide +kernel
theorem dX0_read_86 : decode cX0_read 86 = .ok (.iload_n 3, 1) := by decide +kernel
theorem dX0_read_87 : decode cX0_read 87 = .ok (.iaload, 1) := by decide +kernel
theorem dX0_read_88 : decode cX0_read 88 = .ok (.bipush 56, 2) := by decide +kernel
theorem dX0_read_90 : decode cX0_read 90 = .ok (.idiv, 1) := by decide +kernel
theorem dX0_read_91 : decode cX0_read 91 = .ok (.ireturn, 1) := by decide +kernel
theorem dX0_read_92 : decode cX0_read 92 = .ok (.aload_n 0, 1) := by decide +kernel
theorem dX0_read_93 : decode cX0_read 93 = .ok (.iload_n 3, 1) := by decide +kernel
theorem dX0_read_94 : decode cX0_read 94 = .ok (.iload_n 2, 1) := by decide +kernel
theorem dX0_read_95 : decode cX0_read 95 = .ok (.iconst 4, 1) := by decide +kernel
theorem dX0_read_96 : decode cX0_read 96 = .ok (.isub, 1) := by decide +kernel
theorem dX0_read_97 : decode cX0_read 97 = .ok (.invokevirtual 72, 3) := by decide +kernel
theorem dX0_read_100 : decode cX0_read 100 = .ok (.ireturn, 1) := by decide +kernel
set_option maxRecDepth 20000 in
theorem ggX0_verify_X0_blocksWritten : GoodIn wsX0_verify wsX0_blocksWritten := goodIn_r _ [9, 10, 20, 21, 22, 23, 24, 25, 26, 27, 28] (by decide +kernel) (by decide +kernel)
set_option maxRecDepth 20000 in
theorem gX0_verify_X0_blocksWritten : GoodIn wsX0_verify (wsV RX0 80 RX0 yX0_blocksWritten wsX0_blocksWritten) := goodIn_app (goodIn_of _ (by decide +kernel)) ggX0_verify_X0_blocksWritten
set_option maxRecDepth 20000 in
theorem ggX0_verify_X0_good : GoodIn wsX0_verify wsX0_good := goodIn_r _ [14, 15, 16, 17, 18, 8, 19, 5, 6, 7, 9, 10, 20, 21, 22, 23, 24, 25, 26, 27, 28] (by decide +kernel) (by decide +kernel)
set_option maxRecDepth 20000 in
theorem gX0_verify_X0_good : GoodIn wsX0_verify (wsV RX0 83 RX0 yX0_good wsX0_good) := goodIn_app (goodIn_of _ (by decide +kernel)) ggX0_verify_X0_good
theorem dX0_verify_0 : decode cX0_verify 0 = .ok (.iload_n 1, 1) := by decide +kernel
theorem dX0_verify_1 : decode cX0_verify 1 = .ok (.iconst 0, 1) := by decide +kernel
theorem dX0_verify_2 : decode cX0_verify 2 = .ok (.invokestatic 75, 3) := by decide +kernel
theorem dX0_verify_5 : decode cX0_verify 5 = .ok (.istore_n 2, 1) := by decide +kernel
theorem dX0_verify_6 : decode cX0_verify 6 = .ok (.iload_n 2, 1) := by decide +kernel
theorem dX0_verify_7 : decode cX0_verify 7 = .ok (.aload_n 0, 1) := by decide +kernel
theorem dX0_verify_8 : decode cX0_verify 8 = .ok (.invokevirtual 80, 3) := by decide +kernel
theorem dX0_verify_11 : decode cX0_verify 11 = .ok (.if_icmp .ge 19, 3) := by decide +kernel
theorem dX0_verify_14 : decode cX0_verify 14 = .ok (.aload_n 0, 1) := by decide +kernel
theorem dX0_verify_15 : decode cX0_verify 15 = .ok (.iload_n 2, 1) := by decide +kernel
theorem dX0_verify_16 : decode cX0_verify 16 = .ok (.invokevirtual 83, 3) := by decide +kernel
theorem dX0_verify_19 : decode cX0_verify 19 = .ok (.ifCond .ne 5, 3) := by decide +kernel
theorem dX0_verify_22 : decode cX0_verify 22 = .ok (.iload_n 2, 1) := by decide +kernel
theorem dX0_verify_23 : decode cX0_verify 23 = .ok (.ireturn, 1) := by decide +kernel
theorem dX0_verify_24 : decode cX0_verify 24 = .ok (.iinc 2 1, 3) := by decide +kernel
theorem dX0_verify_27 : decode cX0_verify 27 = .ok (.goto (-21), 3) := by decide +kernel
theorem dX0_verify_30 : decode cX0_verify 30 = .ok (.iconst (-1), 1) := by decide +kernel
theorem dX0_verify_31 : decode cX0_verify 31 = .ok (.ireturn, 1) := by decide +kernel
set_option maxRecDepth 20000 in
theorem ggX0_count_X0_blocksWritten : GoodIn wsX0_count wsX0_blocksWritten := goodIn_r _ [8, 3, 36, 37, 38, 39, 40, 41, 42, 43, 44] (by decide +kernel) (by decide +kernel)
set_option maxRecDepth 20000 in
theorem gX0_count_X0_blocksWritten : GoodIn wsX0_count (wsV RX0 80 RX0 yX0_blocksWritten wsX0_blocksWritten) := goodIn_app (goodIn_of _ (by decide +kernel)) ggX0_count_X0_blocksWritten
set_option maxRecDepth 20000 in
theorem ggX0_count_X0_recordsRead : GoodIn wsX0_count wsX0_recordsRead := goodIn_r _ [12, 2, 13, 14, 15, 7, 16, 17, 18, 19, 20, 21, 22, 23, 24, 25, 26, 27, 4, 5, 6, 8, 3, 36, 37, 38, 39, 40, 41, 42, 43, 44] (by decide +kernel) (by decide +kernel)
set_option maxRecDepth 20000 in
theorem gX0_count_X0_recordsRead : GoodIn wsX0_count (wsV RX0 86 RX0 yX0_recordsRead wsX0_recordsRead) := goodIn_app (goodIn_of _ (by decide +kernel)) ggX0_count_X0_recordsRead
set_option maxRecDepth 20000 in
theorem ggX0_count_X0_blocksNotGood : GoodIn wsX0_count wsX0_blocksNotGood := goodIn_r _ [31, 4, 5, 6, 7, 8, 3, 19, 20, 21, 22, 23, 24, 25, 26, 27, 36, 37, 38, 39, 40, 41, 42, 43, 44] (by decide +kernel) (by decide +kernel)
set_option maxRecDepth 20000 in
theorem gX0_count_X0_blocksNotGood : GoodIn wsX0_count (wsV RX0 89 RX0 yX0_blocksNotGood wsX0_blocksNotGood) := goodIn_app (goodIn_of _ (by decide +kernel)) ggX0_count_X0_blocksNotGood
set_option maxRecDepth 20000 in
theorem ggX0_count_X0_placesLeft : GoodIn wsX0_count wsX0_placesLeft := goodIn_r _ [35, 3, 36, 37, 38, 39, 40, 41, 42, 43, 44] (by decide +kernel) (by decide +kernel)
set_option maxRecDepth 20000 in
theorem gX0_count_X0_placesLeft : GoodIn wsX0_count (wsV RX0 37 RX0 yX0_placesLeft wsX0_placesLeft) := goodIn_app (goodIn_of _ (by decide +kernel)) ggX0_count_X0_placesLeft
theorem dX0_count_0 : decode cX0_count 0 = .ok (.iload_n 1, 1) := by decide +kernel
theorem dX0_count_1 : decode cX0_count 1 = .ok (.tableswitch 81 0 6 #[43, 48, 53, 58, 66, 71, 76], 43) := by decide +kernel
theorem dX0_count_44 : decode cX0_count 44 = .ok (.aload_n 0, 1) := by decide +kernel
theorem dX0_count_45 : decode cX0_count 45 = .ok (.getfield 29, 3) := by decide +kernel
theorem dX0_count_48 : decode cX0_count 48 = .ok (.ireturn, 1) := by decide +kernel
theorem dX0_count_49 : decode cX0_count 49 = .ok (.aload_n 0, 1) := by decide +kernel
theorem dX0_count_50 : decode cX0_count 50 = .ok (.getfield 34, 3) := by decide +kernel
theorem dX0_count_53 : decode cX0_count 53 = .ok (.ireturn, 1) := by decide +kernel
theorem dX0_count_54 : decode cX0_count 54 = .ok (.aload_n 0, 1) := by decide +kernel
theorem dX0_count_55 : decode cX0_count 55 = .ok (.invokevirtual 80, 3) := by decide +kernel
theorem dX0_count_58 : decode cX0_count 58 = .ok (.ireturn, 1) := by decide +kernel
theorem dX0_count_59 : decode cX0_count 59 = .ok (.aload_n 0, 1) := by decide +kernel
theorem dX0_count_60 : decode cX0_count 60 = .ok (.getfield 44, 3) := by decide +kernel
theorem dX0_count_63 : decode cX0_count 63 = .ok (.bipush 56, 2) := by decide +kernel
theorem dX0_count_65 : decode cX0_count 65 = .ok (.irem, 1) := by decide +kernel
theorem dX0_count_66 : decode cX0_count 66 = .ok (.ireturn, 1) := by decide +kernel
theorem dX0_count_67 : decode cX0_count 67 = .ok (.aload_n 0, 1) := by decide +kernel
theorem dX0_count_68 : decode cX0_count 68 = .ok (.invokevirtual 86, 3) := by decide +kernel
theorem dX0_count_71 : decode cX0_count 71 = .ok (.ireturn, 1) := by decide +kernel
theorem dX0_count_72 : decode cX0_count 72 = .ok (.aload_n 0, 1) := by decide +kernel
theorem dX0_count_73 : decode cX0_count 73 = .ok (.invokevirtual 89, 3) := by decide +kernel
theorem dX0_count_76 : decode cX0_count 76 = .ok (.ireturn, 1) := by decide +kernel
theorem dX0_count_77 : decode cX0_count 77 = .ok (.aload_n 0, 1) := by decide +kernel
theorem dX0_count_78 : decode cX0_count 78 = .ok (.invokevirtual 37, 3) := by decide +kernel
theorem dX0_count_81 : decode cX0_count 81 = .ok (.ireturn, 1) := by decide +kernel
theorem dX0_count_82 : decode cX0_count 82 = .ok (.iconst (-1), 1) := by decide +kernel
theorem dX0_count_83 : decode cX0_count 83 = .ok (.ireturn, 1) := by decide +kernel
theorem dX0_blocksWritten_0 : decode cX0_blocksWritten 0 = .ok (.aload_n 0, 1) := by decide +kernel
theorem dX0_blocksWritten_1 : decode cX0_blocksWritten 1 = .ok (.getfield 44, 3) := by decide +kernel
theorem dX0_blocksWritten_4 : decode cX0_blocksWritten 4 = .ok (.bipush 56, 2) := by decide +kernel
theorem dX0_blocksWritten_6 : decode cX0_blocksWritten 6 = .ok (.idiv, 1) := by decide +kernel
theorem dX0_blocksWritten_7 : decode cX0_blocksWritten 7 = .ok (.ireturn, 1) := by decide +kernel
theorem dX0_placesLeft_0 : decode cX0_placesLeft 0 = .ok (.sipush 4480, 3) := by decide +kernel
theorem dX0_placesLeft_3 : decode cX0_placesLeft 3 = .ok (.aload_n 0, 1) := by decide +kernel
theorem dX0_placesLeft_4 : decode cX0_placesLeft 4 = .ok (.getfield 44, 3) := by decide +kernel
theorem dX0_placesLeft_7 : decode cX0_placesLeft 7 = .ok (.isub, 1) := by decide +kernel
theorem dX0_placesLeft_8 : decode cX0_placesLeft 8 = .ok (.ireturn, 1) := by decide +kernel
set_option maxRecDepth 20000 in
theorem ggX0_isWritten_X0_blocksWritten : GoodIn wsX0_isWritten wsX0_blocksWritten := goodIn_r _ [5, 6, 7, 8, 9, 10, 11, 12, 13, 14, 15] (by decide +kernel) (by decide +kernel)
set_option maxRecDepth 20000 in
theorem gX0_isWritten_X0_blocksWritten : GoodIn wsX0_isWritten (wsV RX0 80 RX0 yX0_blocksWritten wsX0_blocksWritten) := goodIn_app (goodIn_of _ (by decide +kernel)) ggX0_isWritten_X0_blocksWritten
theorem dX0_isWritten_0 : decode cX0_isWritten 0 = .ok (.iload_n 1, 1) := by decide +kernel
theorem dX0_isWritten_1 : decode cX0_isWritten 1 = .ok (.ifCond .lt 15, 3) := by decide +kernel
theorem dX0_isWritten_4 : decode cX0_isWritten 4 = .ok (.iload_n 1, 1) := by decide +kernel
theorem dX0_isWritten_5 : decode cX0_isWritten 5 = .ok (.aload_n 0, 1) := by decide +kernel
theorem dX0_isWritten_6 : decode cX0_isWritten 6 = .ok (.invokevirtual 80, 3) := by decide +kernel
theorem dX0_isWritten_9 : decode cX0_isWritten 9 = .ok (.if_icmp .ge 7, 3) := by decide +kernel
theorem dX0_isWritten_12 : decode cX0_isWritten 12 = .ok (.iconst 1, 1) := by decide +kernel
theorem dX0_isWritten_13 : decode cX0_isWritten 13 = .ok (.goto 4, 3) := by decide +kernel
theorem dX0_isWritten_16 : decode cX0_isWritten 16 = .ok (.iconst 0, 1) := by decide +kernel
theorem dX0_isWritten_17 : decode cX0_isWritten 17 = .ok (.ireturn, 1) := by decide +kernel
theorem dX0_isInBlock_0 : decode cX0_isInBlock 0 = .ok (.iload_n 0, 1) := by decide +kernel
theorem dX0_isInBlock_1 : decode cX0_isInBlock 1 = .ok (.ifCond .lt 13, 3) := by decide +kernel
theorem dX0_isInBlock_4 : decode cX0_isInBlock 4 = .ok (.iload_n 0, 1) := by decide +kernel
theorem dX0_isInBlock_5 : decode cX0_isInBlock 5 = .ok (.bipush 64, 2) := by decide +kernel
theorem dX0_isInBlock_7 : decode cX0_isInBlock 7 = .ok (.if_icmp .ge 7, 3) := by decide +kernel
theorem dX0_isInBlock_10 : decode cX0_isInBlock 10 = .ok (.iconst 1, 1) := by decide +kernel
theorem dX0_isInBlock_11 : decode cX0_isInBlock 11 = .ok (.goto 4, 3) := by decide +kernel
theorem dX0_isInBlock_14 : decode cX0_isInBlock 14 = .ok (.iconst 0, 1) := by decide +kernel
theorem dX0_isInBlock_15 : decode cX0_isInBlock 15 = .ok (.ireturn, 1) := by decide +kernel
theorem dX0_addToByte_0 : decode cX0_addToByte 0 = .ok (.aload_n 0, 1) := by decide +kernel
theorem dX0_addToByte_1 : decode cX0_addToByte 1 = .ok (.getfield 13, 3) := by decide +kernel
theorem dX0_addToByte_4 : decode cX0_addToByte 4 = .ok (.iload_n 1, 1) := by decide +kernel
theorem dX0_addToByte_5 : decode cX0_addToByte 5 = .ok (.aload_n 0, 1) := by decide +kernel
theorem dX0_addToByte_6 : decode cX0_addToByte 6 = .ok (.getfield 13, 3) := by decide +kernel
theorem dX0_addToByte_9 : decode cX0_addToByte 9 = .ok (.iload_n 1, 1) := by decide +kernel
theorem dX0_addToByte_10 : decode cX0_addToByte 10 = .ok (.baload, 1) := by decide +kernel
theorem dX0_addToByte_11 : decode cX0_addToByte 11 = .ok (.iload_n 2, 1) := by decide +kernel
theorem dX0_addToByte_12 : decode cX0_addToByte 12 = .ok (.iadd, 1) := by decide +kernel
theorem dX0_addToByte_13 : decode cX0_addToByte 13 = .ok (.i2b, 1) := by decide +kernel
theorem dX0_addToByte_14 : decode cX0_addToByte 14 = .ok (.bastore, 1) := by decide +kernel
theorem dX0_addToByte_15 : decode cX0_addToByte 15 = .ok (.return_, 1) := by decide +kernel
theorem dX0_indexOfPlace_0 : decode cX0_indexOfPlace 0 = .ok (.iload_n 0, 1) := by decide +kernel
theorem dX0_indexOfPlace_1 : decode cX0_indexOfPlace 1 = .ok (.bipush 56, 2) := by decide +kernel
theorem dX0_indexOfPlace_3 : decode cX0_indexOfPlace 3 = .ok (.idiv, 1) := by decide +kernel
theorem dX0_indexOfPlace_4 : decode cX0_indexOfPlace 4 = .ok (.bipush 64, 2) := by decide +kernel
theorem dX0_indexOfPlace_6 : decode cX0_indexOfPlace 6 = .ok (.imul, 1) := by decide +kernel
theorem dX0_indexOfPlace_7 : decode cX0_indexOfPlace 7 = .ok (.bipush 8, 2) := by decide +kernel
theorem dX0_indexOfPlace_9 : decode cX0_indexOfPlace 9 = .ok (.iadd, 1) := by decide +kernel
theorem dX0_indexOfPlace_10 : decode cX0_indexOfPlace 10 = .ok (.iload_n 0, 1) := by decide +kernel
theorem dX0_indexOfPlace_11 : decode cX0_indexOfPlace 11 = .ok (.bipush 56, 2) := by decide +kernel
theorem dX0_indexOfPlace_13 : decode cX0_indexOfPlace 13 = .ok (.irem, 1) := by decide +kernel
theorem dX0_indexOfPlace_14 : decode cX0_indexOfPlace 14 = .ok (.iadd, 1) := by decide +kernel
theorem dX0_indexOfPlace_15 : decode cX0_indexOfPlace 15 = .ok (.ireturn, 1) := by decide +kernel
theorem dX0_noteBeginning_0 : decode cX0_noteBeginning 0 = .ok (.aload_n 0, 1) := by decide +kernel
theorem dX0_noteBeginning_1 : decode cX0_noteBeginning 1 = .ok (.getfield 44, 3) := by decide +kernel
theorem dX0_noteBeginning_4 : decode cX0_noteBeginning 4 = .ok (.bipush 56, 2) := by decide +kernel
theorem dX0_noteBeginning_6 : decode cX0_noteBeginning 6 = .ok (.idiv, 1) := by decide +kernel
theorem dX0_noteBeginning_7 : decode cX0_noteBeginning 7 = .ok (.bipush 64, 2) := by decide +kernel
theorem dX0_noteBeginning_9 : decode cX0_noteBeginning 9 = .ok (.imul, 1) := by decide +kernel
theorem dX0_noteBeginning_10 : decode cX0_noteBeginning 10 = .ok (.iconst 3, 1) := by decide +kernel
theorem dX0_noteBeginning_11 : decode cX0_noteBeginning 11 = .ok (.iadd, 1) := by decide +kernel
theorem dX0_noteBeginning_12 : decode cX0_noteBeginning 12 = .ok (.istore_n 1, 1) := by decide +kernel
theorem dX0_noteBeginning_13 : decode cX0_noteBeginning 13 = .ok (.aload_n 0, 1) := by decide +kernel
theorem dX0_noteBeginning_14 : decode cX0_noteBeginning 14 = .ok (.getfield 13, 3) := by decide +kernel
theorem dX0_noteBeginning_17 : decode cX0_noteBeginning 17 = .ok (.iload_n 1, 1) := by decide +kernel
theorem dX0_noteBeginning_18 : decode cX0_noteBeginning 18 = .ok (.baload, 1) := by decide +kernel
theorem dX0_noteBeginning_19 : decode cX0_noteBeginning 19 = .ok (.iconst (-1), 1) := by decide +kernel
theorem dX0_noteBeginning_20 : decode cX0_noteBeginning 20 = .ok (.if_icmp .ne 17, 3) := by decide +kernel
theorem dX0_noteBeginning_23 : decode cX0_noteBeginning 23 = .ok (.aload_n 0, 1) := by decide +kernel
theorem dX0_noteBeginning_24 : decode cX0_noteBeginning 24 = .ok (.getfield 13, 3) := by decide +kernel
theorem dX0_noteBeginning_27 : decode cX0_noteBeginning 27 = .ok (.iload_n 1, 1) := by decide +kernel
theorem dX0_noteBeginning_28 : decode cX0_noteBeginning 28 = .ok (.aload_n 0, 1) := by decide +kernel
theorem dX0_noteBeginning_29 : decode cX0_noteBeginning 29 = .ok (.getfield 44, 3) := by decide +kernel
theorem dX0_noteBeginning_32 : decode cX0_noteBeginning 32 = .ok (.bipush 56, 2) := by decide +kernel
theorem dX0_noteBeginning_34 : decode cX0_noteBeginning 34 = .ok (.irem, 1) := by decide +kernel
theorem dX0_noteBeginning_35 : decode cX0_noteBeginning 35 = .ok (.i2b, 1) := by decide +kernel
theorem dX0_noteBeginning_36 : decode cX0_noteBeginning 36 = .ok (.bastore, 1) := by decide +kernel
theorem dX0_noteBeginning_37 : decode cX0_noteBeginning 37 = .ok (.return_, 1) := by decide +kernel
set_option maxRecDepth 20000 in
theorem ggX0_appendRow_X0_append : GoodIn wsX0_appendRow wsX0_append := goodIn_r _ [7, 8, 9, 10, 11, 6, 12, 13, 14, 15, 16, 17, 18, 19, 20, 21, 22, 23, 24, 25, 26, 27, 28, 29, 30, 31, 32, 33, 34] (by decide +kernel) (by decide +kernel)
set_option maxRecDepth 20000 in
theorem gX0_appendRow_X0_append : GoodIn wsX0_appendRow (wsV RX0 92 RX0 yX0_append wsX0_append) := goodIn_app (goodIn_of _ (by decide +kernel)) ggX0_appendRow_X0_append
theorem dX0_appendRow_0 : decode cX0_appendRow 0 = .ok (.aload_n 0, 1) := by decide +kernel
theorem dX0_appendRow_1 : decode cX0_appendRow 1 = .ok (.iload_n 1, 1) := by decide +kernel
theorem dX0_appendRow_2 : decode cX0_appendRow 2 = .ok (.invokevirtual 92, 3) := by decide +kernel
theorem dX0_appendRow_5 : decode cX0_appendRow 5 = .ok (.aload_n 0, 1) := by decide +kernel
theorem dX0_appendRow_6 : decode cX0_appendRow 6 = .ok (.iload_n 2, 1) := by decide +kernel
theorem dX0_appendRow_7 : decode cX0_appendRow 7 = .ok (.bipush 8, 2) := by decide +kernel
theorem dX0_appendRow_9 : decode cX0_appendRow 9 = .ok (.iushr, 1) := by decide +kernel
theorem dX0_appendRow_10 : decode cX0_appendRow 10 = .ok (.invokevirtual 92, 3) := by decide +kernel
theorem dX0_appendRow_13 : decode cX0_appendRow 13 = .ok (.aload_n 0, 1) := by decide +kernel
theorem dX0_appendRow_14 : decode cX0_appendRow 14 = .ok (.iload_n 2, 1) := by decide +kernel
theorem dX0_appendRow_15 : decode cX0_appendRow 15 = .ok (.invokevirtual 92, 3) := by decide +kernel
theorem dX0_appendRow_18 : decode cX0_appendRow 18 = .ok (.aload_n 0, 1) := by decide +kernel
theorem dX0_appendRow_19 : decode cX0_appendRow 19 = .ok (.aload_n 0, 1) := by decide +kernel
theorem dX0_appendRow_20 : decode cX0_appendRow 20 = .ok (.getfield 29, 3) := by decide +kernel
theorem dX0_appendRow_23 : decode cX0_appendRow 23 = .ok (.bipush 8, 2) := by decide +kernel
theorem dX0_appendRow_25 : decode cX0_appendRow 25 = .ok (.iushr, 1) := by decide +kernel
theorem dX0_appendRow_26 : decode cX0_appendRow 26 = .ok (.invokevirtual 92, 3) := by decide +kernel
theorem dX0_appendRow_29 : decode cX0_appendRow 29 = .ok (.aload_n 0, 1) := by decide +kernel
theorem dX0_appendRow_30 : decode cX0_appendRow 30 = .ok (.aload_n 0, 1) := by decide +kernel
theorem dX0_appendRow_31 : decode cX0_appendRow 31 = .ok (.getfield 29, 3) := by decide +kernel
theorem dX0_appendRow_34 : decode cX0_appendRow 34 = .ok (.invokevirtual 92, 3) := by decide +kernel
theorem dX0_appendRow_37 : decode cX0_appendRow 37 = .ok (.aload_n 0, 1) := by decide +kernel
theorem dX0_appendRow_38 : decode cX0_appendRow 38 = .ok (.bipush 90, 2) := by decide +kernel
theorem dX0_appendRow_40 : decode cX0_appendRow 40 = .ok (.invokevirtual 92, 3) := by decide +kernel
theorem dX0_appendRow_43 : decode cX0_appendRow 43 = .ok (.iconst 0, 1) := by decide +kernel
theorem dX0_appendRow_44 : decode cX0_appendRow 44 = .ok (.istore_n 3, 1) := by decide +kernel
theorem dX0_appendRow_45 : decode cX0_appendRow 45 = .ok (.iload_n 3, 1) := by decide +kernel
theorem dX0_appendRow_46 : decode cX0_appendRow 46 = .ok (.aload_n 0, 1) := by decide +kernel
theorem dX0_appendRow_47 : decode cX0_appendRow 47 = .ok (.getfield 29, 3) := by decide +kernel
theorem dX0_appendRow_50 : decode cX0_appendRow 50 = .ok (.if_icmp .ge 19, 3) := by decide +kernel
theorem dX0_appendRow_53 : decode cX0_appendRow 53 = .ok (.aload_n 0, 1) := by decide +kernel
theorem dX0_appendRow_54 : decode cX0_appendRow 54 = .ok (.aload_n 0, 1) := by decide +kernel
theorem dX0_appendRow_55 : decode cX0_appendRow 55 = .ok (.getfield 9, 3) := by decide +kernel
theorem dX0_appendRow_58 : decode cX0_appendRow 58 = .ok (.iload_n 3, 1) := by decide +kernel
theorem dX0_appendRow_59 : decode cX0_appendRow 59 = .ok (.baload, 1) := by decide +kernel
theorem dX0_appendRow_60 : decode cX0_appendRow 60 = .ok (.invokevirtual 92, 3) := by decide +kernel
theorem dX0_appendRow_63 : decode cX0_appendRow 63 = .ok (.iinc 3 1, 3) := by decide +kernel
theorem dX0_appendRow_66 : decode cX0_appendRow 66 = .ok (.goto (-21), 3) := by decide +kernel
theorem dX0_appendRow_69 : decode cX0_appendRow 69 = .ok (.return_, 1) := by decide +kernel
set_option maxRecDepth 20000 in
theorem ggX0_append_X0_indexOfPlace : GoodIn wsX0_append wsX0_indexOfPlace := goodIn_r _ [6] (by decide +kernel) (by decide +kernel)
set_option maxRecDepth 20000 in
theorem gX0_append_X0_indexOfPlace : GoodIn wsX0_append (va_wsS RX0 96 yX0_indexOfPlace wsX0_indexOfPlace) := goodIn_app (goodIn_of _ (by decide +kernel)) ggX0_append_X0_indexOfPlace
set_option maxRecDepth 20000 in
theorem ggX0_append_X0_writeBlock : GoodIn wsX0_append wsX0_writeBlock := goodIn_r _ [10, 1, 11, 12, 13, 5, 14, 15, 16, 17, 18, 19, 20, 21, 22, 23, 24, 25, 26, 27, 28] (by decide +kernel) (by decide +kernel)
set_option maxRecDepth 20000 in
theorem gX0_append_X0_writeBlock : GoodIn wsX0_append (wsV RX0 51 RX0 yX0_writeBlock wsX0_writeBlock) := goodIn_app (goodIn_of _ (by decide +kernel)) ggX0_append_X0_writeBlock
theorem dX0_append_0 : decode cX0_append 0 = .ok (.aload_n 0, 1) := by decide +kernel
theorem dX0_append_1 : decode cX0_append 1 = .ok (.getfield 13, 3) := by decide +kernel
theorem dX0_append_4 : decode cX0_append 4 = .ok (.aload_n 0, 1) := by decide +kernel
theorem dX0_append_5 : decode cX0_append 5 = .ok (.getfield 44, 3) := by decide +kernel
theorem dX0_append_8 : decode cX0_append 8 = .ok (.invokestatic 96, 3) := by decide +kernel
theorem dX0_append_11 : decode cX0_append 11 = .ok (.iload_n 1, 1) := by decide +kernel
theorem dX0_append_12 : decode cX0_append 12 = .ok (.i2b, 1) := by decide +kernel
theorem dX0_append_13 : decode cX0_append 13 = .ok (.bastore, 1) := by decide +kernel
theorem dX0_append_14 : decode cX0_append 14 = .ok (.aload_n 0, 1) := by decide +kernel
theorem dX0_append_15 : decode cX0_append 15 = .ok (.dup, 1) := by decide +kernel
theorem dX0_append_16 : decode cX0_append 16 = .ok (.getfield 44, 3) := by decide +kernel
theorem dX0_append_19 : decode cX0_append 19 = .ok (.iconst 1, 1) := by decide +kernel
theorem dX0_append_20 : decode cX0_append 20 = .ok (.iadd, 1) := by decide +kernel
theorem dX0_append_21 : decode cX0_append 21 = .ok (.putfield 44, 3) := by decide +kernel
theorem dX0_append_24 : decode cX0_append 24 = .ok (.aload_n 0, 1) := by decide +kernel
theorem dX0_append_25 : decode cX0_append 25 = .ok (.getfield 44, 3) := by decide +kernel
theorem dX0_append_28 : decode cX0_append 28 = .ok (.bipush 56, 2) := by decide +kernel
theorem dX0_append_30 : decode cX0_append 30 = .ok (.irem, 1) := by decide +kernel
theorem dX0_append_31 : decode cX0_append 31 = .ok (.ifCond .ne 18, 3) := by decide +kernel
theorem dX0_append_34 : decode cX0_append 34 = .ok (.aload_n 0, 1) := by decide +kernel
theorem dX0_append_35 : decode cX0_append 35 = .ok (.aload_n 0, 1) := by decide +kernel
theorem dX0_append_36 : decode cX0_append 36 = .ok (.getfield 44, 3) := by decide +kernel
theorem dX0_append_39 : decode cX0_append 39 = .ok (.bipush 56, 2) := by decide +kernel
theorem dX0_append_41 : decode cX0_append 41 = .ok (.idiv, 1) := by decide +kernel
theorem dX0_append_42 : decode cX0_append 42 = .ok (.iconst 1, 1) := by decide +kernel
theorem dX0_append_43 : decode cX0_append 43 = .ok (.isub, 1) := by decide +kernel
theorem dX0_append_44 : decode cX0_append 44 = .ok (.bipush 56, 2) := by decide +kernel
theorem dX0_append_46 : decode cX0_append 46 = .ok (.invokevirtual 51, 3) := by decide +kernel
theorem dX0_append_49 : decode cX0_append 49 = .ok (.return_, 1) := by decide +kernel
set_option maxRecDepth 20000 in
theorem ggX0_writeBlock_X0_sumOfBlock : GoodIn wsX0_writeBlock wsX0_sumOfBlock := goodIn_r _ [6, 7, 8, 9, 5, 10, 1, 11, 12, 13, 14, 15, 16, 17, 18, 19, 20] (by decide +kernel) (by decide +kernel)
set_option maxRecDepth 20000 in
theorem gX0_writeBlock_X0_sumOfBlock : GoodIn wsX0_writeBlock (wsV RX0 99 RX0 yX0_sumOfBlock wsX0_sumOfBlock) := goodIn_app (goodIn_of _ (by decide +kernel)) ggX0_writeBlock_X0_sumOfBlock
theorem dX0_writeBlock_0 : decode cX0_writeBlock 0 = .ok (.iload_n 1, 1) := by decide +kernel
theorem dX0_writeBlock_1 : decode cX0_writeBlock 1 = .ok (.bipush 64, 2) := by decide +kernel
theorem dX0_writeBlock_3 : decode cX0_writeBlock 3 = .ok (.imul, 1) := by decide +kernel
theorem dX0_writeBlock_4 : decode cX0_writeBlock 4 = .ok (.istore_n 3, 1) := by decide +kernel
theorem dX0_writeBlock_5 : decode cX0_writeBlock 5 = .ok (.aload_n 0, 1) := by decide +kernel
theorem dX0_writeBlock_6 : decode cX0_writeBlock 6 = .ok (.getfield 13, 3) := by decide +kernel
theorem dX0_writeBlock_9 : decode cX0_writeBlock 9 = .ok (.iload_n 3, 1) := by decide +kernel
theorem dX0_writeBlock_10 : decode cX0_writeBlock 10 = .ok (.iload_n 1, 1) := by decide +kernel
theorem dX0_writeBlock_11 : decode cX0_writeBlock 11 = .ok (.bipush 8, 2) := by decide +kernel
theorem dX0_writeBlock_13 : decode cX0_writeBlock 13 = .ok (.iushr, 1) := by decide +kernel
theorem dX0_writeBlock_14 : decode cX0_writeBlock 14 = .ok (.i2b, 1) := by decide +kernel
theorem dX0_writeBlock_15 : decode cX0_writeBlock 15 = .ok (.bastore, 1) := by decide +kernel
theorem dX0_writeBlock_16 : decode cX0_writeBlock 16 = .ok (.aload_n 0, 1) := by decide +kernel
theorem dX0_writeBlock_17 : decode cX0_writeBlock 17 = .ok (.getfield 13, 3) := by decide +kernel
theorem dX0_writeBlock_20 : decode cX0_writeBlock 20 = .ok (.iload_n 3, 1) := by decide +kernel
theorem dX0_writeBlock_21 : decode cX0_writeBlock 21 = .ok (.iconst 1, 1) := by decide +kernel
theorem dX0_writeBlock_22 : decode cX0_writeBlock 22 = .ok (.iadd, 1) := by decide +kernel
theorem dX0_writeBlock_23 : decode cX0_writeBlock 23 = .ok (.iload_n 1, 1) := by decide +kernel
theorem dX0_writeBlock_24 : decode cX0_writeBlock 24 = .ok (.i2b, 1) := by decide +kernel
theorem dX0_writeBlock_25 : decode cX0_writeBlock 25 = .ok (.bastore, 1) := by decide +kernel
theorem dX0_writeBlock_26 : decode cX0_writeBlock 26 = .ok (.aload_n 0, 1) := by decide +kernel
theorem dX0_writeBlock_27 : decode cX0_writeBlock 27 = .ok (.getfield 13, 3) := by decide +kernel
theorem dX0_writeBlock_30 : decode cX0_writeBlock 30 = .ok (.iload_n 3, 1) := by decide +kernel
theorem dX0_writeBlock_31 : decode cX0_writeBlock 31 = .ok (.iconst 2, 1) := by decide +kernel
theorem dX0_writeBlock_32 : decode cX0_writeBlock 32 = .ok (.iadd, 1) := by decide +kernel
theorem dX0_writeBlock_33 : decode cX0_writeBlock 33 = .ok (.iload_n 2, 1) := by decide +kernel
theorem dX0_writeBlock_34 : decode cX0_writeBlock 34 = .ok (.i2b, 1) := by decide +kernel
theorem dX0_writeBlock_35 : decode cX0_writeBlock 35 = .ok (.bastore, 1) := by decide +kernel
theorem dX0_writeBlock_36 : decode cX0_writeBlock 36 = .ok (.aload_n 0, 1) := by decide +kernel
theorem dX0_writeBlock_37 : decode cX0_writeBlock 37 = .ok (.iload_n 3, 1) := by decide +kernel
theorem dX0_writeBlock_38 : decode cX0_writeBlock 38 = .ok (.invokevirtual 99, 3) := by decide +kernel
theorem dX0_writeBlock_41 : decode cX0_writeBlock 41 = .ok (.istore 4, 2) := by decide +kernel
theorem dX0_writeBlock_43 : decode cX0_writeBlock 43 = .ok (.iconst 0, 1) := by decide +kernel
theorem dX0_writeBlock_44 : decode cX0_writeBlock 44 = .ok (.istore 5, 2) := by decide +kernel
theorem dX0_writeBlock_46 : decode cX0_writeBlock 46 = .ok (.iload 5, 2) := by decide +kernel
theorem dX0_writeBlock_48 : decode cX0_writeBlock 48 = .ok (.iconst 4, 1) := by decide +kernel
theorem dX0_writeBlock_49 : decode cX0_writeBlock 49 = .ok (.if_icmp .ge 32, 3) := by decide +kernel
theorem dX0_writeBlock_52 : decode cX0_writeBlock 52 = .ok (.aload_n 0, 1) := by decide +kernel
theorem dX0_writeBlock_53 : decode cX0_writeBlock 53 = .ok (.getfield 13, 3) := by decide +kernel
theorem dX0_writeBlock_56 : decode cX0_writeBlock 56 = .ok (.iload_n 3, 1) := by decide +kernel
theorem dX0_writeBlock_57 : decode cX0_writeBlock 57 = .ok (.iconst 4, 1) := by decide +kernel
theorem dX0_writeBlock_58 : decode cX0_writeBlock 58 = .ok (.iadd, 1) := by decide +kernel
theorem dX0_writeBlock_59 : decode cX0_writeBlock 59 = .ok (.iload 5, 2) := by decide +kernel
theorem dX0_writeBlock_61 : decode cX0_writeBlock 61 = .ok (.iadd, 1) := by decide +kernel
theorem dX0_writeBlock_62 : decode cX0_writeBlock 62 = .ok (.iload 4, 2) := by decide +kernel
theorem dX0_writeBlock_64 : decode cX0_writeBlock 64 = .ok (.bipush 24, 2) := by decide +kernel
theorem dX0_writeBlock_66 : decode cX0_writeBlock 66 = .ok (.bipush 8, 2) := by decide +kernel
theorem dX0_writeBlock_68 : decode cX0_writeBlock 68 = .ok (.iload 5, 2) := by decide +kernel
theorem dX0_writeBlock_70 : decode cX0_writeBlock 70 = .ok (.imul, 1) := by decide +kernel
theorem dX0_writeBlock_71 : decode cX0_writeBlock 71 = .ok (.isub, 1) := by decide +kernel
theorem dX0_writeBlock_72 : decode cX0_writeBlock 72 = .ok (.iushr, 1) := by decide +kernel
theorem dX0_writeBlock_73 : decode cX0_writeBlock 73 = .ok (.i2b, 1) := by decide +kernel
theorem dX0_writeBlock_74 : decode cX0_writeBlock 74 = .ok (.bastore, 1) := by decide +kernel
theorem dX0_writeBlock_75 : decode cX0_writeBlock 75 = .ok (.iinc 5 1, 3) := by decide +kernel
theorem dX0_writeBlock_78 : decode cX0_writeBlock 78 = .ok (.goto (-32), 3) := by decide +kernel
theorem dX0_writeBlock_81 : decode cX0_writeBlock 81 = .ok (.return_, 1) := by decide +kernel
set_option maxRecDepth 20000 in
theorem ggX0_sumOfBlock_X0_crcOver : GoodIn wsX0_sumOfBlock wsX0_crcOver := goodIn_r _ [5, 6, 7, 8, 9, 10, 11, 12, 13, 14, 15, 16] (by decide +kernel) (by decide +kernel)
set_option maxRecDepth 20000 in
theorem gX0_sumOfBlock_X0_crcOver : GoodIn wsX0_sumOfBlock (wsV RX0 102 RX0 yX0_crcOver wsX0_crcOver) := goodIn_app (goodIn_of _ (by decide +kernel)) ggX0_sumOfBlock_X0_crcOver
theorem dX0_sumOfBlock_0 : decode cX0_sumOfBlock 0 = .ok (.aload_n 0, 1) := by decide +kernel
theorem dX0_sumOfBlock_1 : decode cX0_sumOfBlock 1 = .ok (.iconst (-1), 1) := by decide +kernel
theorem dX0_sumOfBlock_2 : decode cX0_sumOfBlock 2 = .ok (.iload_n 1, 1) := by decide +kernel
theorem dX0_sumOfBlock_3 : decode cX0_sumOfBlock 3 = .ok (.iload_n 1, 1) := by decide +kernel
theorem dX0_sumOfBlock_4 : decode cX0_sumOfBlock 4 = .ok (.iconst 4, 1) := by decide +kernel
theorem dX0_sumOfBlock_5 : decode cX0_sumOfBlock 5 = .ok (.iadd, 1) := by decide +kernel
theorem dX0_sumOfBlock_6 : decode cX0_sumOfBlock 6 = .ok (.invokevirtual 102, 3) := by decide +kernel
theorem dX0_sumOfBlock_9 : decode cX0_sumOfBlock 9 = .ok (.istore_n 2, 1) := by decide +kernel
theorem dX0_sumOfBlock_10 : decode cX0_sumOfBlock 10 = .ok (.aload_n 0, 1) := by decide +kernel
theorem dX0_sumOfBlock_11 : decode cX0_sumOfBlock 11 = .ok (.iload_n 2, 1) := by decide +kernel
theorem dX0_sumOfBlock_12 : decode cX0_sumOfBlock 12 = .ok (.iload_n 1, 1) := by decide +kernel
theorem dX0_sumOfBlock_13 : decode cX0_sumOfBlock 13 = .ok (.bipush 8, 2) := by decide +kernel
theorem dX0_sumOfBlock_15 : decode cX0_sumOfBlock 15 = .ok (.iadd, 1) := by decide +kernel
theorem dX0_sumOfBlock_16 : decode cX0_sumOfBlock 16 = .ok (.iload_n 1, 1) := by decide +kernel
theorem dX0_sumOfBlock_17 : decode cX0_sumOfBlock 17 = .ok (.bipush 64, 2) := by decide +kernel
theorem dX0_sumOfBlock_19 : decode cX0_sumOfBlock 19 = .ok (.iadd, 1) := by decide +kernel
theorem dX0_sumOfBlock_20 : decode cX0_sumOfBlock 20 = .ok (.invokevirtual 102, 3) := by decide +kernel
theorem dX0_sumOfBlock_23 : decode cX0_sumOfBlock 23 = .ok (.iconst (-1), 1) := by decide +kernel
theorem dX0_sumOfBlock_24 : decode cX0_sumOfBlock 24 = .ok (.ixor, 1) := by decide +kernel
theorem dX0_sumOfBlock_25 : decode cX0_sumOfBlock 25 = .ok (.ireturn, 1) := by decide +kernel
theorem dX0_crcOver_0 : decode cX0_crcOver 0 = .ok (.iload_n 1, 1) := by decide +kernel
theorem dX0_crcOver_1 : decode cX0_crcOver 1 = .ok (.istore 4, 2) := by decide +kernel
theorem dX0_crcOver_3 : decode cX0_crcOver 3 = .ok (.iload_n 2, 1) := by decide +kernel
theorem dX0_crcOver_4 : decode cX0_crcOver 4 = .ok (.istore 5, 2) := by decide +kernel
theorem dX0_crcOver_6 : decode cX0_crcOver 6 = .ok (.iload 5, 2) := by decide +kernel
theorem dX0_crcOver_8 : decode cX0_crcOver 8 = .ok (.iload_n 3, 1) := by decide +kernel
theorem dX0_crcOver_9 : decode cX0_crcOver 9 = .ok (.if_icmp .ge 64, 3) := by decide +kernel
theorem dX0_crcOver_12 : decode cX0_crcOver 12 = .ok (.iload 4, 2) := by decide +kernel
theorem dX0_crcOver_14 : decode cX0_crcOver 14 = .ok (.aload_n 0, 1) := by decide +kernel
theorem dX0_crcOver_15 : decode cX0_crcOver 15 = .ok (.getfield 13, 3) := by decide +kernel
theorem dX0_crcOver_18 : decode cX0_crcOver 18 = .ok (.iload 5, 2) := by decide +kernel
theorem dX0_crcOver_20 : decode cX0_crcOver 20 = .ok (.baload, 1) := by decide +kernel
theorem dX0_crcOver_21 : decode cX0_crcOver 21 = .ok (.sipush 255, 3) := by decide +kernel
theorem dX0_crcOver_24 : decode cX0_crcOver 24 = .ok (.iand, 1) := by decide +kernel
theorem dX0_crcOver_25 : decode cX0_crcOver 25 = .ok (.ixor, 1) := by decide +kernel
theorem dX0_crcOver_26 : decode cX0_crcOver 26 = .ok (.istore 4, 2) := by decide +kernel
theorem dX0_crcOver_28 : decode cX0_crcOver 28 = .ok (.iconst 0, 1) := by decide +kernel
theorem dX0_crcOver_29 : decode cX0_crcOver 29 = .ok (.istore 6, 2) := by decide +kernel
theorem dX0_crcOver_31 : decode cX0_crcOver 31 = .ok (.iload 6, 2) := by decide +kernel
theorem dX0_crcOver_33 : decode cX0_crcOver 33 = .ok (.bipush 8, 2) := by decide +kernel
theorem dX0_crcOver_35 : decode cX0_crcOver 35 = .ok (.if_icmp .ge 32, 3) := by decide +kernel
theorem dX0_crcOver_38 : decode cX0_crcOver 38 = .ok (.iload 4, 2) := by decide +kernel
theorem dX0_crcOver_40 : decode cX0_crcOver 40 = .ok (.iconst 1, 1) := by decide +kernel
theorem dX0_crcOver_41 : decode cX0_crcOver 41 = .ok (.iand, 1) := by decide +kernel
theorem dX0_crcOver_42 : decode cX0_crcOver 42 = .ok (.ifCond .eq 13, 3) := by decide +kernel
theorem dX0_crcOver_45 : decode cX0_crcOver 45 = .ok (.iload 4, 2) := by decide +kernel
theorem dX0_crcOver_47 : decode cX0_crcOver 47 = .ok (.iconst 1, 1) := by decide +kernel
theorem dX0_crcOver_48 : decode cX0_crcOver 48 = .ok (.iushr, 1) := by decide +kernel
theorem dX0_crcOver_49 : decode cX0_crcOver 49 = .ok (.ldc 106, 2) := by decide +kernel
theorem dX0_crcOver_51 : decode cX0_crcOver 51 = .ok (.ixor, 1) := by decide +kernel
theorem dX0_crcOver_52 : decode cX0_crcOver 52 = .ok (.goto 7, 3) := by decide +kernel
theorem dX0_crcOver_55 : decode cX0_crcOver 55 = .ok (.iload 4, 2) := by decide +kernel
theorem dX0_crcOver_57 : decode cX0_crcOver 57 = .ok (.iconst 1, 1) := by decide +kernel
theorem dX0_crcOver_58 : decode cX0_crcOver 58 = .ok (.iushr, 1) := by decide +kernel
theorem dX0_crcOver_59 : decode cX0_crcOver 59 = .ok (.istore 4, 2) := by decide +kernel
theorem dX0_crcOver_61 : decode cX0_crcOver 61 = .ok (.iinc 6 1, 3) := by decide +kernel
theorem dX0_crcOver_64 : decode cX0_crcOver 64 = .ok (.goto (-33), 3) := by decide +kernel
theorem dX0_crcOver_67 : decode cX0_crcOver 67 = .ok (.iinc 5 1, 3) := by decide +kernel
theorem dX0_crcOver_70 : decode cX0_crcOver 70 = .ok (.goto (-64), 3) := by decide +kernel
theorem dX0_crcOver_73 : decode cX0_crcOver 73 = .ok (.iload 4, 2) := by decide +kernel
theorem dX0_crcOver_75 : decode cX0_crcOver 75 = .ok (.ireturn, 1) := by decide +kernel
set_option maxRecDepth 20000 in
theorem ggX0_isRead_X0_good : GoodIn wsX0_isRead wsX0_good := goodIn_r _ [7, 8, 9, 10, 11, 6, 12, 13, 14, 15, 16, 17, 18, 19, 20, 21, 22, 23, 24, 25, 26] (by decide +kernel) (by decide +kernel)
set_option maxRecDepth 20000 in
theorem gX0_isRead_X0_good : GoodIn wsX0_isRead (wsV RX0 83 RX0 yX0_good wsX0_good) := goodIn_app (goodIn_of _ (by decide +kernel)) ggX0_isRead_X0_good
theorem dX0_isRead_0 : decode cX0_isRead 0 = .ok (.aload_n 0, 1) := by decide +kernel
theorem dX0_isRead_1 : decode cX0_isRead 1 = .ok (.getfield 16, 3) := by decide +kernel
theorem dX0_isRead_4 : decode cX0_isRead 4 = .ok (.iload_n 1, 1) := by decide +kernel
theorem dX0_isRead_5 : decode cX0_isRead 5 = .ok (.iaload, 1) := by decide +kernel
theorem dX0_isRead_6 : decode cX0_isRead 6 = .ok (.aload_n 0, 1) := by decide +kernel
theorem dX0_isRead_7 : decode cX0_isRead 7 = .ok (.getfield 20, 3) := by decide +kernel
theorem dX0_isRead_10 : decode cX0_isRead 10 = .ok (.iload_n 1, 1) := by decide +kernel
theorem dX0_isRead_11 : decode cX0_isRead 11 = .ok (.iaload, 1) := by decide +kernel
theorem dX0_isRead_12 : decode cX0_isRead 12 = .ok (.iadd, 1) := by decide +kernel
theorem dX0_isRead_13 : decode cX0_isRead 13 = .ok (.iconst 1, 1) := by decide +kernel
theorem dX0_isRead_14 : decode cX0_isRead 14 = .ok (.isub, 1) := by decide +kernel
theorem dX0_isRead_15 : decode cX0_isRead 15 = .ok (.bipush 56, 2) := by decide +kernel
theorem dX0_isRead_17 : decode cX0_isRead 17 = .ok (.idiv, 1) := by decide +kernel
theorem dX0_isRead_18 : decode cX0_isRead 18 = .ok (.istore_n 2, 1) := by decide +kernel
theorem dX0_isRead_19 : decode cX0_isRead 19 = .ok (.aload_n 0, 1) := by decide +kernel
theorem dX0_isRead_20 : decode cX0_isRead 20 = .ok (.getfield 16, 3) := by decide +kernel
theorem dX0_isRead_23 : decode cX0_isRead 23 = .ok (.iload_n 1, 1) := by decide +kernel
theorem dX0_isRead_24 : decode cX0_isRead 24 = .ok (.iaload, 1) := by decide +kernel
theorem dX0_isRead_25 : decode cX0_isRead 25 = .ok (.bipush 56, 2) := by decide +kernel
theorem dX0_isRead_27 : decode cX0_isRead 27 = .ok (.idiv, 1) := by decide +kernel
theorem dX0_isRead_28 : decode cX0_isRead 28 = .ok (.istore_n 3, 1) := by decide +kernel
theorem dX0_isRead_29 : decode cX0_isRead 29 = .ok (.iload_n 3, 1) := by decide +kernel
theorem dX0_isRead_30 : decode cX0_isRead 30 = .ok (.iload_n 2, 1) := by decide +kernel
theorem dX0_isRead_31 : decode cX0_isRead 31 = .ok (.if_icmp .gt 19, 3) := by decide +kernel
theorem dX0_isRead_34 : decode cX0_isRead 34 = .ok (.aload_n 0, 1) := by decide +kernel
theorem dX0_isRead_35 : decode cX0_isRead 35 = .ok (.iload_n 3, 1) := by decide +kernel
theorem dX0_isRead_36 : decode cX0_isRead 36 = .ok (.invokevirtual 83, 3) := by decide +kernel
theorem dX0_isRead_39 : decode cX0_isRead 39 = .ok (.ifCond .ne 5, 3) := by decide +kernel
theorem dX0_isRead_42 : decode cX0_isRead 42 = .ok (.iconst 0, 1) := by decide +kernel
theorem dX0_isRead_43 : decode cX0_isRead 43 = .ok (.ireturn, 1) := by decide +kernel
theorem dX0_isRead_44 : decode cX0_isRead 44 = .ok (.iinc 3 1, 3) := by decide +kernel
theorem dX0_isRead_47 : decode cX0_isRead 47 = .ok (.goto (-18), 3) := by decide +kernel
theorem dX0_isRead_50 : decode cX0_isRead 50 = .ok (.iconst 1, 1) := by decide +kernel
theorem dX0_isRead_51 : decode cX0_isRead 51 = .ok (.ireturn, 1) := by decide +kernel
set_option maxRecDepth 20000 in
theorem ggX0_recordOfRead_X0_isRead : GoodIn wsX0_recordOfRead wsX0_isRead := goodIn_r _ [6, 7, 8, 9, 10, 11, 5, 12, 13, 14, 15, 16, 17, 18, 19, 20, 21, 22, 23, 24, 25, 26, 27, 28, 29, 30, 31] (by decide +kernel) (by decide +kernel)
set_option maxRecDepth 20000 in
theorem gX0_recordOfRead_X0_isRead : GoodIn wsX0_recordOfRead (wsV RX0 107 RX0 yX0_isRead wsX0_isRead) := goodIn_app (goodIn_of _ (by decide +kernel)) ggX0_recordOfRead_X0_isRead
theorem dX0_recordOfRead_0 : decode cX0_recordOfRead 0 = .ok (.iconst 0, 1) := by decide +kernel
theorem dX0_recordOfRead_1 : decode cX0_recordOfRead 1 = .ok (.istore_n 2, 1) := by decide +kernel
theorem dX0_recordOfRead_2 : decode cX0_recordOfRead 2 = .ok (.iconst 0, 1) := by decide +kernel
theorem dX0_recordOfRead_3 : decode cX0_recordOfRead 3 = .ok (.istore_n 3, 1) := by decide +kernel
theorem dX0_recordOfRead_4 : decode cX0_recordOfRead 4 = .ok (.iload_n 3, 1) := by decide +kernel
theorem dX0_recordOfRead_5 : decode cX0_recordOfRead 5 = .ok (.aload_n 0, 1) := by decide +kernel
theorem dX0_recordOfRead_6 : decode cX0_recordOfRead 6 = .ok (.getfield 34, 3) := by decide +kernel
theorem dX0_recordOfRead_9 : decode cX0_recordOfRead 9 = .ok (.if_icmp .ge 27, 3) := by decide +kernel
theorem dX0_recordOfRead_12 : decode cX0_recordOfRead 12 = .ok (.aload_n 0, 1) := by decide +kernel
theorem dX0_recordOfRead_13 : decode cX0_recordOfRead 13 = .ok (.iload_n 3, 1) := by decide +kernel
theorem dX0_recordOfRead_14 : decode cX0_recordOfRead 14 = .ok (.invokevirtual 107, 3) := by decide +kernel
theorem dX0_recordOfRead_17 : decode cX0_recordOfRead 17 = .ok (.ifCond .eq 13, 3) := by decide +kernel
theorem dX0_recordOfRead_20 : decode cX0_recordOfRead 20 = .ok (.iload_n 2, 1) := by decide +kernel
theorem dX0_recordOfRead_21 : decode cX0_recordOfRead 21 = .ok (.iload_n 1, 1) := by decide +kernel
theorem dX0_recordOfRead_22 : decode cX0_recordOfRead 22 = .ok (.if_icmp .ne 5, 3) := by decide +kernel
theorem dX0_recordOfRead_25 : decode cX0_recordOfRead 25 = .ok (.iload_n 3, 1) := by decide +kernel
theorem dX0_recordOfRead_26 : decode cX0_recordOfRead 26 = .ok (.ireturn, 1) := by decide +kernel
theorem dX0_recordOfRead_27 : decode cX0_recordOfRead 27 = .ok (.iinc 2 1, 3) := by decide +kernel
theorem dX0_recordOfRead_30 : decode cX0_recordOfRead 30 = .ok (.iinc 3 1, 3) := by decide +kernel
theorem dX0_recordOfRead_33 : decode cX0_recordOfRead 33 = .ok (.goto (-29), 3) := by decide +kernel
theorem dX0_recordOfRead_36 : decode cX0_recordOfRead 36 = .ok (.iconst (-1), 1) := by decide +kernel
theorem dX0_recordOfRead_37 : decode cX0_recordOfRead 37 = .ok (.ireturn, 1) := by decide +kernel
set_option maxRecDepth 20000 in
theorem ggX0_recordsRead_X0_isRead : GoodIn wsX0_recordsRead wsX0_isRead := goodIn_r _ [6, 7, 8, 9, 10, 11, 5, 12, 13, 14, 15, 16, 17, 18, 19, 20, 21, 22, 23, 24, 25, 26, 27, 28, 29, 30, 31] (by decide +kernel) (by decide +kernel)
set_option maxRecDepth 20000 in
theorem gX0_recordsRead_X0_isRead : GoodIn wsX0_recordsRead (wsV RX0 107 RX0 yX0_isRead wsX0_isRead) := goodIn_app (goodIn_of _ (by decide +kernel)) ggX0_recordsRead_X0_isRead
theorem dX0_recordsRead_0 : decode cX0_recordsRead 0 = .ok (.iconst 0, 1) := by decide +kernel
theorem dX0_recordsRead_1 : decode cX0_recordsRead 1 = .ok (.istore_n 1, 1) := by decide +kernel
theorem dX0_recordsRead_2 : decode cX0_recordsRead 2 = .ok (.iconst 0, 1) := by decide +kernel
theorem dX0_recordsRead_3 : decode cX0_recordsRead 3 = .ok (.istore_n 2, 1) := by decide +kernel
theorem dX0_recordsRead_4 : decode cX0_recordsRead 4 = .ok (.iload_n 2, 1) := by decide +kernel
theorem dX0_recordsRead_5 : decode cX0_recordsRead 5 = .ok (.aload_n 0, 1) := by decide +kernel
theorem dX0_recordsRead_6 : decode cX0_recordsRead 6 = .ok (.getfield 34, 3) := by decide +kernel
theorem dX0_recordsRead_9 : decode cX0_recordsRead 9 = .ok (.if_icmp .ge 20, 3) := by decide +kernel
theorem dX0_recordsRead_12 : decode cX0_recordsRead 12 = .ok (.aload_n 0, 1) := by decide +kernel
theorem dX0_recordsRead_13 : decode cX0_recordsRead 13 = .ok (.iload_n 2, 1) := by decide +kernel
theorem dX0_recordsRead_14 : decode cX0_recordsRead 14 = .ok (.invokevirtual 107, 3) := by decide +kernel
theorem dX0_recordsRead_17 : decode cX0_recordsRead 17 = .ok (.ifCond .eq 6, 3) := by decide +kernel
theorem dX0_recordsRead_20 : decode cX0_recordsRead 20 = .ok (.iinc 1 1, 3) := by decide +kernel
theorem dX0_recordsRead_23 : decode cX0_recordsRead 23 = .ok (.iinc 2 1, 3) := by decide +kernel
theorem dX0_recordsRead_26 : decode cX0_recordsRead 26 = .ok (.goto (-22), 3) := by decide +kernel
theorem dX0_recordsRead_29 : decode cX0_recordsRead 29 = .ok (.iload_n 1, 1) := by decide +kernel
theorem dX0_recordsRead_30 : decode cX0_recordsRead 30 = .ok (.ireturn, 1) := by decide +kernel
set_option maxRecDepth 20000 in
theorem ggX0_recordByte_X0_rowByte : GoodIn wsX0_recordByte wsX0_rowByte := goodIn_r _ [6, 7, 8, 9, 10, 5, 11, 12, 13, 14, 15, 16, 17, 18, 19, 20] (by decide +kernel) (by decide +kernel)
set_option maxRecDepth 20000 in
theorem gX0_recordByte_X0_rowByte : GoodIn wsX0_recordByte (wsV RX0 68 RX0 yX0_rowByte wsX0_rowByte) := goodIn_app (goodIn_of _ (by decide +kernel)) ggX0_recordByte_X0_rowByte
theorem dX0_recordByte_0 : decode cX0_recordByte 0 = .ok (.iload_n 2, 1) := by decide +kernel
theorem dX0_recordByte_1 : decode cX0_recordByte 1 = .ok (.ifCond .lt 16, 3) := by decide +kernel
theorem dX0_recordByte_4 : decode cX0_recordByte 4 = .ok (.iload_n 2, 1) := by decide +kernel
theorem dX0_recordByte_5 : decode cX0_recordByte 5 = .ok (.aload_n 0, 1) := by decide +kernel
theorem dX0_recordByte_6 : decode cX0_recordByte 6 = .ok (.getfield 20, 3) := by decide +kernel
theorem dX0_recordByte_9 : decode cX0_recordByte 9 = .ok (.iload_n 1, 1) := by decide +kernel
theorem dX0_recordByte_10 : decode cX0_recordByte 10 = .ok (.iaload, 1) := by decide +kernel
theorem dX0_recordByte_11 : decode cX0_recordByte 11 = .ok (.bipush 6, 2) := by decide +kernel
theorem dX0_recordByte_13 : decode cX0_recordByte 13 = .ok (.isub, 1) := by decide +kernel
theorem dX0_recordByte_14 : decode cX0_recordByte 14 = .ok (.if_icmp .lt 5, 3) := by decide +kernel
theorem dX0_recordByte_17 : decode cX0_recordByte 17 = .ok (.iconst (-1), 1) := by decide +kernel
theorem dX0_recordByte_18 : decode cX0_recordByte 18 = .ok (.ireturn, 1) := by decide +kernel
theorem dX0_recordByte_19 : decode cX0_recordByte 19 = .ok (.aload_n 0, 1) := by decide +kernel
theorem dX0_recordByte_20 : decode cX0_recordByte 20 = .ok (.iload_n 1, 1) := by decide +kernel
theorem dX0_recordByte_21 : decode cX0_recordByte 21 = .ok (.bipush 6, 2) := by decide +kernel
theorem dX0_recordByte_23 : decode cX0_recordByte 23 = .ok (.iload_n 2, 1) := by decide +kernel
theorem dX0_recordByte_24 : decode cX0_recordByte 24 = .ok (.iadd, 1) := by decide +kernel
theorem dX0_recordByte_25 : decode cX0_recordByte 25 = .ok (.invokevirtual 68, 3) := by decide +kernel
theorem dX0_recordByte_28 : decode cX0_recordByte 28 = .ok (.ireturn, 1) := by decide +kernel
set_option maxRecDepth 20000 in
theorem ggX0_rowByte_X0_indexOfPlace : GoodIn wsX0_rowByte wsX0_indexOfPlace := goodIn_r _ [6] (by decide +kernel) (by decide +kernel)
set_option maxRecDepth 20000 in
theorem gX0_rowByte_X0_indexOfPlace : GoodIn wsX0_rowByte (va_wsS RX0 96 yX0_indexOfPlace wsX0_indexOfPlace) := goodIn_app (goodIn_of _ (by decide +kernel)) ggX0_rowByte_X0_indexOfPlace
theorem dX0_rowByte_0 : decode cX0_rowByte 0 = .ok (.aload_n 0, 1) := by decide +kernel
theorem dX0_rowByte_1 : decode cX0_rowByte 1 = .ok (.getfield 13, 3) := by decide +kernel
theorem dX0_rowByte_4 : decode cX0_rowByte 4 = .ok (.aload_n 0, 1) := by decide +kernel
theorem dX0_rowByte_5 : decode cX0_rowByte 5 = .ok (.getfield 16, 3) := by decide +kernel
theorem dX0_rowByte_8 : decode cX0_rowByte 8 = .ok (.iload_n 1, 1) := by decide +kernel
theorem dX0_rowByte_9 : decode cX0_rowByte 9 = .ok (.iaload, 1) := by decide +kernel
theorem dX0_rowByte_10 : decode cX0_rowByte 10 = .ok (.iload_n 2, 1) := by decide +kernel
theorem dX0_rowByte_11 : decode cX0_rowByte 11 = .ok (.iadd, 1) := by decide +kernel
theorem dX0_rowByte_12 : decode cX0_rowByte 12 = .ok (.invokestatic 96, 3) := by decide +kernel
theorem dX0_rowByte_15 : decode cX0_rowByte 15 = .ok (.baload, 1) := by decide +kernel
theorem dX0_rowByte_16 : decode cX0_rowByte 16 = .ok (.sipush 255, 3) := by decide +kernel
theorem dX0_rowByte_19 : decode cX0_rowByte 19 = .ok (.iand, 1) := by decide +kernel
theorem dX0_rowByte_20 : decode cX0_rowByte 20 = .ok (.ireturn, 1) := by decide +kernel
set_option maxRecDepth 20000 in
theorem ggX0_blocksNotGood_X0_blocksWritten : GoodIn wsX0_blocksNotGood wsX0_blocksWritten := goodIn_r _ [5, 6, 16, 17, 18, 19, 20, 21, 22, 23, 24] (by decide +kernel) (by decide +kernel)
set_option maxRecDepth 20000 in
theorem gX0_blocksNotGood_X0_blocksWritten : GoodIn wsX0_blocksNotGood (wsV RX0 80 RX0 yX0_blocksWritten wsX0_blocksWritten) := goodIn_app (goodIn_of _ (by decide +kernel)) ggX0_blocksNotGood_X0_blocksWritten
set_option maxRecDepth 20000 in
theorem ggX0_blocksNotGood_X0_good : GoodIn wsX0_blocksNotGood wsX0_good := goodIn_r _ [10, 11, 12, 13, 14, 4, 15, 1, 2, 3, 5, 6, 16, 17, 18, 19, 20, 21, 22, 23, 24] (by decide +kernel) (by decide +kernel)
set_option maxRecDepth 20000 in
theorem gX0_blocksNotGood_X0_good : GoodIn wsX0_blocksNotGood (wsV RX0 83 RX0 yX0_good wsX0_good) := goodIn_app (goodIn_of _ (by decide +kernel)) ggX0_blocksNotGood_X0_good
theorem dX0_blocksNotGood_0 : decode cX0_blocksNotGood 0 = .ok (.iconst 0, 1) := by decide +kernel
theorem dX0_blocksNotGood_1 : decode cX0_blocksNotGood 1 = .ok (.istore_n 1, 1) := by decide +kernel
theorem dX0_blocksNotGood_2 : decode cX0_blocksNotGood 2 = .ok (.iconst 0, 1) := by decide +kernel
theorem dX0_blocksNotGood_3 : decode cX0_blocksNotGood 3 = .ok (.istore_n 2, 1) := by decide +kernel
theorem dX0_blocksNotGood_4 : decode cX0_blocksNotGood 4 = .ok (.iload_n 2, 1) := by decide +kernel
theorem dX0_blocksNotGood_5 : decode cX0_blocksNotGood 5 = .ok (.aload_n 0, 1) := by decide +kernel
theorem dX0_blocksNotGood_6 : decode cX0_blocksNotGood 6 = .ok (.invokevirtual 80, 3) := by decide +kernel
theorem dX0_blocksNotGood_9 : decode cX0_blocksNotGood 9 = .ok (.if_icmp .ge 20, 3) := by decide +kernel
theorem dX0_blocksNotGood_12 : decode cX0_blocksNotGood 12 = .ok (.aload_n 0, 1) := by decide +kernel
theorem dX0_blocksNotGood_13 : decode cX0_blocksNotGood 13 = .ok (.iload_n 2, 1) := by decide +kernel
theorem dX0_blocksNotGood_14 : decode cX0_blocksNotGood 14 = .ok (.invokevirtual 83, 3) := by decide +kernel
theorem dX0_blocksNotGood_17 : decode cX0_blocksNotGood 17 = .ok (.ifCond .ne 6, 3) := by decide +kernel
theorem dX0_blocksNotGood_20 : decode cX0_blocksNotGood 20 = .ok (.iinc 1 1, 3) := by decide +kernel
theorem dX0_blocksNotGood_23 : decode cX0_blocksNotGood 23 = .ok (.iinc 2 1, 3) := by decide +kernel
theorem dX0_blocksNotGood_26 : decode cX0_blocksNotGood 26 = .ok (.goto (-22), 3) := by decide +kernel
theorem dX0_blocksNotGood_29 : decode cX0_blocksNotGood 29 = .ok (.iload_n 1, 1) := by decide +kernel
theorem dX0_blocksNotGood_30 : decode cX0_blocksNotGood 30 = .ok (.ireturn, 1) := by decide +kernel
theorem dL_law_0 : decode cL_law 0 = .ok (.new 7, 3) := by decide +kernel
theorem dL_law_3 : decode cL_law 3 = .ok (.dup, 1) := by decide +kernel
theorem dL_law_4 : decode cL_law 4 = .ok (.invokespecial 9, 3) := by decide +kernel
theorem dL_law_7 : decode cL_law 7 = .ok (.astore_n 1, 1) := by decide +kernel
theorem dL_law_8 : decode cL_law 8 = .ok (.new 10, 3) := by decide +kernel
theorem dL_law_11 : decode cL_law 11 = .ok (.dup, 1) := by decide +kernel
theorem dL_law_12 : decode cL_law 12 = .ok (.invokespecial 12, 3) := by decide +kernel
theorem dL_law_15 : decode cL_law 15 = .ok (.astore_n 2, 1) := by decide +kernel
theorem dL_law_16 : decode cL_law 16 = .ok (.iconst 0, 1) := by decide +kernel
theorem dL_law_17 : decode cL_law 17 = .ok (.istore_n 3, 1) := by decide +kernel
theorem dL_law_18 : decode cL_law 18 = .ok (.iload_n 3, 1) := by decide +kernel
theorem dL_law_19 : decode cL_law 19 = .ok (.aload_n 0, 1) := by decide +kernel
theorem dL_law_20 : decode cL_law 20 = .ok (.arraylength, 1) := by decide +kernel
theorem dL_law_21 : decode cL_law 21 = .ok (.iconst 4, 1) := by decide +kernel
theorem dL_law_22 : decode cL_law 22 = .ok (.isub, 1) := by decide +kernel
theorem dL_law_23 : decode cL_law 23 = .ok (.if_icmp .gt 351, 3) := by decide +kernel
theorem dL_law_26 : decode cL_law 26 = .ok (.aload_n 0, 1) := by decide +kernel
theorem dL_law_27 : decode cL_law 27 = .ok (.iload_n 3, 1) := by decide +kernel
theorem dL_law_28 : decode cL_law 28 = .ok (.iaload, 1) := by decide +kernel
theorem dL_law_29 : decode cL_law 29 = .ok (.bipush 15, 2) := by decide +kernel
theorem dL_law_31 : decode cL_law 31 = .ok (.iand, 1) := by decide +kernel
theorem dL_law_32 : decode cL_law 32 = .ok (.tableswitch 336 0 9 #[56, 89, 122, 135, 178, 201, 234, 257, 290, 313], 56) := by decide +kernel
theorem dL_law_88 : decode cL_law 88 = .ok (.aload_n 1, 1) := by decide +kernel
theorem dL_law_89 : decode cL_law 89 = .ok (.aload_n 0, 1) := by decide +kernel
theorem dL_law_90 : decode cL_law 90 = .ok (.iload_n 3, 1) := by decide +kernel
theorem dL_law_91 : decode cL_law 91 = .ok (.iconst 1, 1) := by decide +kernel
theorem dL_law_92 : decode cL_law 92 = .ok (.iadd, 1) := by decide +kernel
theorem dL_law_93 : decode cL_law 93 = .ok (.iaload, 1) := by decide +kernel
theorem dL_law_94 : decode cL_law 94 = .ok (.aload_n 0, 1) := by decide +kernel
theorem dL_law_95 : decode cL_law 95 = .ok (.iload_n 3, 1) := by decide +kernel
theorem dL_law_96 : decode cL_law 96 = .ok (.iconst 2, 1) := by decide +kernel
theorem dL_law_97 : decode cL_law 97 = .ok (.iadd, 1) := by decide +kernel
theorem dL_law_98 : decode cL_law 98 = .ok (.iaload, 1) := by decide +kernel
theorem dL_law_99 : decode cL_law 99 = .ok (.invokevirtual 13, 3) := by decide +kernel
theorem dL_law_102 : decode cL_law 102 = .ok (.aload_n 2, 1) := by decide +kernel
theorem dL_law_103 : decode cL_law 103 = .ok (.aload_n 0, 1) := by decide +kernel
theorem dL_law_104 : decode cL_law 104 = .ok (.iload_n 3, 1) := by decide +kernel
theorem dL_law_105 : decode cL_law 105 = .ok (.iconst 1, 1) := by decide +kernel
theorem dL_law_106 : decode cL_law 106 = .ok (.iadd, 1) := by decide +kernel
theorem dL_law_107 : decode cL_law 107 = .ok (.iaload, 1) := by decide +kernel
theorem dL_law_108 : decode cL_law 108 = .ok (.aload_n 0, 1) := by decide +kernel
theorem dL_law_109 : decode cL_law 109 = .ok (.iload_n 3, 1) := by decide +kernel
theorem dL_law_110 : decode cL_law 110 = .ok (.iconst 2, 1) := by decide +kernel
theorem dL_law_111 : decode cL_law 111 = .ok (.iadd, 1) := by decide +kernel
theorem dL_law_112 : decode cL_law 112 = .ok (.iaload, 1) := by decide +kernel
theorem dL_law_113 : decode cL_law 113 = .ok (.invokevirtual 17, 3) := by decide +kernel
theorem dL_law_116 : decode cL_law 116 = .ok (.if_icmp .eq 252, 3) := by decide +kernel
theorem dL_law_119 : decode cL_law 119 = .ok (.iconst 0, 1) := by decide +kernel
theorem dL_law_120 : decode cL_law 120 = .ok (.ireturn, 1) := by decide +kernel
theorem dL_law_121 : decode cL_law 121 = .ok (.aload_n 1, 1) := by decide +kernel
theorem dL_law_122 : decode cL_law 122 = .ok (.aload_n 0, 1) := by decide +kernel
theorem dL_law_123 : decode cL_law 123 = .ok (.iload_n 3, 1) := by decide +kernel
theorem dL_law_124 : decode cL_law 124 = .ok (.iconst 1, 1) := by decide +kernel
theorem dL_law_125 : decode cL_law 125 = .ok (.iadd, 1) := by decide +kernel
theorem dL_law_126 : decode cL_law 126 = .ok (.iaload, 1) := by decide +kernel
theorem dL_law_127 : decode cL_law 127 = .ok (.aload_n 0, 1) := by decide +kernel
theorem dL_law_128 : decode cL_law 128 = .ok (.iload_n 3, 1) := by decide +kernel
theorem dL_law_129 : decode cL_law 129 = .ok (.iconst 2, 1) := by decide +kernel
theorem dL_law_130 : decode cL_law 130 = .ok (.iadd, 1) := by decide +kernel
theorem dL_law_131 : decode cL_law 131 = .ok (.iaload, 1) := by decide +kernel
theorem dL_law_132 : decode cL_law 132 = .ok (.invokevirtual 18, 3) := by decide +kernel
theorem dL_law_135 : decode cL_law 135 = .ok (.aload_n 2, 1) := by decide +kernel
theorem dL_law_136 : decode cL_law 136 = .ok (.aload_n 0, 1) := by decide +kernel
theorem dL_law_137 : decode cL_law 137 = .ok (.iload_n 3, 1) := by decide +kernel
theorem dL_law_138 : decode cL_law 138 = .ok (.iconst 1, 1) := by decide +kernel
theorem dL_law_139 : decode cL_law 139 = .ok (.iadd, 1) := by decide +kernel
theorem dL_law_140 : decode cL_law 140 = .ok (.iaload, 1) := by decide +kernel
theorem dL_law_141 : decode cL_law 141 = .ok (.aload_n 0, 1) := by decide +kernel
theorem dL_law_142 : decode cL_law 142 = .ok (.iload_n 3, 1) := by decide +kernel
theorem dL_law_143 : decode cL_law 143 = .ok (.iconst 2, 1) := by decide +kernel
theorem dL_law_144 : decode cL_law 144 = .ok (.iadd, 1) := by decide +kernel
theorem dL_law_145 : decode cL_law 145 = .ok (.iaload, 1) := by decide +kernel
theorem dL_law_146 : decode cL_law 146 = .ok (.invokevirtual 21, 3) := by decide +kernel
theorem dL_law_149 : decode cL_law 149 = .ok (.if_icmp .eq 219, 3) := by decide +kernel
theorem dL_law_152 : decode cL_law 152 = .ok (.iconst 0, 1) := by decide +kernel
theorem dL_law_153 : decode cL_law 153 = .ok (.ireturn, 1) := by decide +kernel
theorem dL_law_154 : decode cL_law 154 = .ok (.aload_n 1, 1) := by decide +kernel
theorem dL_law_155 : decode cL_law 155 = .ok (.invokevirtual 22, 3) := by decide +kernel
theorem dL_law_158 : decode cL_law 158 = .ok (.aload_n 2, 1) := by decide +kernel
theorem dL_law_159 : decode cL_law 159 = .ok (.invokevirtual 26, 3) := by decide +kernel
theorem dL_law_162 : decode cL_law 162 = .ok (.if_icmp .eq 206, 3) := by decide +kernel
theorem dL_law_165 : decode cL_law 165 = .ok (.iconst 0, 1) := by decide +kernel
theorem dL_law_166 : decode cL_law 166 = .ok (.ireturn, 1) := by decide +kernel
theorem dL_law_167 : decode cL_law 167 = .ok (.aload_n 1, 1) := by decide +kernel
theorem dL_law_168 : decode cL_law 168 = .ok (.aload_n 0, 1) := by decide +kernel
theorem dL_law_169 : decode cL_law 169 = .ok (.iload_n 3, 1) := by decide +kernel
theorem dL_law_170 : decode cL_law 170 = .ok (.iconst 1, 1) := by decide +kernel
theorem dL_law_171 : decode cL_law 171 = .ok (.iadd, 1) := by decide +kernel
theorem dL_law_172 : decode cL_law 172 = .ok (.iaload, 1) := by decide +kernel
theorem dL_law_173 : decode cL_law 173 = .ok (.aload_n 0, 1) := by decide +kernel
theorem dL_law_174 : decode cL_law 174 = .ok (.iload_n 3, 1) := by decide +kernel
theorem dL_law_175 : decode cL_law 175 = .ok (.iconst 2, 1) := by decide +kernel
theorem dL_law_176 : decode cL_law 176 = .ok (.iadd, 1) := by decide +kernel
theorem dL_law_177 : decode cL_law 177 = .ok (.iaload, 1) := by decide +kernel
theorem dL_law_178 : decode cL_law 178 = .ok (.aload_n 0, 1) := by decide +kernel
theorem dL_law_179 : decode cL_law 179 = .ok (.iload_n 3, 1) := by decide +kernel
theorem dL_law_180 : decode cL_law 180 = .ok (.iconst 3, 1) := by decide +kernel
theorem dL_law_181 : decode cL_law 181 = .ok (.iadd, 1) := by decide +kernel
theorem dL_law_182 : decode cL_law 182 = .ok (.iaload, 1) := by decide +kernel
theorem dL_law_183 : decode cL_law 183 = .ok (.invokevirtual 27, 3) := by decide +kernel
theorem dL_law_186 : decode cL_law 186 = .ok (.aload_n 2, 1) := by decide +kernel
theorem dL_law_187 : decode cL_law 187 = .ok (.aload_n 0, 1) := by decide +kernel
theorem dL_law_188 : decode cL_law 188 = .ok (.iload_n 3, 1) := by decide +kernel
theorem dL_law_189 : decode cL_law 189 = .ok (.iconst 1, 1) := by decide +kernel
theorem dL_law_190 : decode cL_law 190 = .ok (.iadd, 1) := by decide +kernel
theorem dL_law_191 : decode cL_law 191 = .ok (.iaload, 1) := by decide +kernel
theorem dL_law_192 : decode cL_law 192 = .ok (.aload_n 0, 1) := by decide +kernel
theorem dL_law_193 : decode cL_law 193 = .ok (.iload_n 3, 1) := by decide +kernel
theorem dL_law_194 : decode cL_law 194 = .ok (.iconst 2, 1) := by decide +kernel
theorem dL_law_195 : decode cL_law 195 = .ok (.iadd, 1) := by decide +kernel
theorem dL_law_196 : decode cL_law 196 = .ok (.iaload, 1) := by decide +kernel
theorem dL_law_197 : decode cL_law 197 = .ok (.aload_n 0, 1) := by decide +kernel
theorem dL_law_198 : decode cL_law 198 = .ok (.iload_n 3, 1) := by decide +kernel
theorem dL_law_199 : decode cL_law 199 = .ok (.iconst 3, 1) := by decide +kernel
theorem dL_law_200 : decode cL_law 200 = .ok (.iadd, 1) := by decide +kernel
theorem dL_law_201 : decode cL_law 201 = .ok (.iaload, 1) := by decide +kernel
theorem dL_law_202 : decode cL_law 202 = .ok (.invokevirtual 31, 3) := by decide +kernel
theorem dL_law_205 : decode cL_law 205 = .ok (.if_icmp .eq 163, 3) := by decide +kernel
theorem dL_law_208 : decode cL_law 208 = .ok (.iconst 0, 1) := by decide +kernel
theorem dL_law_209 : decode cL_law 209 = .ok (.ireturn, 1) := by decide +kernel
theorem dL_law_210 : decode cL_law 210 = .ok (.aload_n 1, 1) := by decide +kernel
theorem dL_law_211 : decode cL_law 211 = .ok (.aload_n 0, 1) := by decide +kernel
theorem dL_law_212 : decode cL_law 212 = .ok (.iload_n 3, 1) := by decide +kernel
theorem dL_law_213 : decode cL_law 213 = .ok (.iconst 1, 1) := by decide +kernel
theorem dL_law_214 : decode cL_law 214 = .ok (.iadd, 1) := by decide +kernel
theorem dL_law_215 : decode cL_law 215 = .ok (.iaload, 1) := by decide +kernel
theorem dL_law_216 : decode cL_law 216 = .ok (.invokevirtual 32, 3) := by decide +kernel
theorem dL_law_219 : decode cL_law 219 = .ok (.aload_n 2, 1) := by decide +kernel
theorem dL_law_220 : decode cL_law 220 = .ok (.aload_n 0, 1) := by decide +kernel
theorem dL_law_221 : decode cL_law 221 = .ok (.iload_n 3, 1) := by decide +kernel
theorem dL_law_222 : decode cL_law 222 = .ok (.iconst 1, 1) := by decide +kernel
theorem dL_law_223 : decode cL_law 223 = .ok (.iadd, 1) := by decide +kernel
theorem dL_law_224 : decode cL_law 224 = .ok (.iaload, 1) := by decide +kernel
theorem dL_law_225 : decode cL_law 225 = .ok (.invokevirtual 36, 3) := by decide +kernel
theorem dL_law_228 : decode cL_law 228 = .ok (.if_icmp .eq 140, 3) := by decide +kernel
theorem dL_law_231 : decode cL_law 231 = .ok (.iconst 0, 1) := by decide +kernel
theorem dL_law_232 : decode cL_law 232 = .ok (.ireturn, 1) := by decide +kernel
theorem dL_law_233 : decode cL_law 233 = .ok (.aload_n 1, 1) := by decide +kernel
theorem dL_law_234 : decode cL_law 234 = .ok (.aload_n 0, 1) := by decide +kernel
theorem dL_law_235 : decode cL_law 235 = .ok (.iload_n 3, 1) := by decide +kernel
theorem dL_law_236 : decode cL_law 236 = .ok (.iconst 1, 1) := by decide +kernel
theorem dL_law_237 : decode cL_law 237 = .ok (.iadd, 1) := by decide +kernel
theorem dL_law_238 : decode cL_law 238 = .ok (.iaload, 1) := by decide +kernel
theorem dL_law_239 : decode cL_law 239 = .ok (.aload_n 0, 1) := by decide +kernel
theorem dL_law_240 : decode cL_law 240 = .ok (.iload_n 3, 1) := by decide +kernel
theorem dL_law_241 : decode cL_law 241 = .ok (.iconst 2, 1) := by decide +kernel
theorem dL_law_242 : decode cL_law 242 = .ok (.iadd, 1) := by decide +kernel
theorem dL_law_243 : decode cL_law 243 = .ok (.iaload, 1) := by decide +kernel
theorem dL_law_244 : decode cL_law 244 = .ok (.invokevirtual 37, 3) := by decide +kernel
theorem dL_law_247 : decode cL_law 247 = .ok (.aload_n 2, 1) := by decide +kernel
theorem dL_law_248 : decode cL_law 248 = .ok (.aload_n 0, 1) := by decide +kernel
theorem dL_law_249 : decode cL_law 249 = .ok (.iload_n 3, 1) := by decide +kernel
theorem dL_law_250 : decode cL_law 250 = .ok (.iconst 1, 1) := by decide +kernel
theorem dL_law_251 : decode cL_law 251 = .ok (.iadd, 1) := by decide +kernel
theorem dL_law_252 : decode cL_law 252 = .ok (.iaload, 1) := by decide +kernel
theorem dL_law_253 : decode cL_law 253 = .ok (.aload_n 0, 1) := by decide +kernel
theorem dL_law_254 : decode cL_law 254 = .ok (.iload_n 3, 1) := by decide +kernel
theorem dL_law_255 : decode cL_law 255 = .ok (.iconst 2, 1) := by decide +kernel
theorem dL_law_256 : decode cL_law 256 = .ok (.iadd, 1) := by decide +kernel
theorem dL_law_257 : decode cL_law 257 = .ok (.iaload, 1) := by decide +kernel
theorem dL_law_258 : decode cL_law 258 = .ok (.invokevirtual 40, 3) := by decide +kernel
theorem dL_law_261 : decode cL_law 261 = .ok (.if_icmp .eq 107, 3) := by decide +kernel
theorem dL_law_264 : decode cL_law 264 = .ok (.iconst 0, 1) := by decide +kernel
theorem dL_law_265 : decode cL_law 265 = .ok (.ireturn, 1) := by decide +kernel
theorem dL_law_266 : decode cL_law 266 = .ok (.aload_n 1, 1) := by decide +kernel
theorem dL_law_267 : decode cL_law 267 = .ok (.aload_n 0, 1) := by decide +kernel
theorem dL_law_268 : decode cL_law 268 = .ok (.iload_n 3, 1) := by decide +kernel
theorem dL_law_269 : decode cL_law 269 = .ok (.iconst 1, 1) := by decide +kernel
theorem dL_law_270 : decode cL_law 270 = .ok (.iadd, 1) := by decide +kernel
theorem dL_law_271 : decode cL_law 271 = .ok (.iaload, 1) := by decide +kernel
theorem dL_law_272 : decode cL_law 272 = .ok (.invokevirtual 41, 3) := by decide +kernel
theorem dL_law_275 : decode cL_law 275 = .ok (.aload_n 2, 1) := by decide +kernel
theorem dL_law_276 : decode cL_law 276 = .ok (.aload_n 0, 1) := by decide +kernel
theorem dL_law_277 : decode cL_law 277 = .ok (.iload_n 3, 1) := by decide +kernel
theorem dL_law_278 : decode cL_law 278 = .ok (.iconst 1, 1) := by decide +kernel
theorem dL_law_279 : decode cL_law 279 = .ok (.iadd, 1) := by decide +kernel
theorem dL_law_280 : decode cL_law 280 = .ok (.iaload, 1) := by decide +kernel
theorem dL_law_281 : decode cL_law 281 = .ok (.invokevirtual 44, 3) := by decide +kernel
theorem dL_law_284 : decode cL_law 284 = .ok (.if_icmp .eq 84, 3) := by decide +kernel
theorem dL_law_287 : decode cL_law 287 = .ok (.iconst 0, 1) := by decide +kernel
theorem dL_law_288 : decode cL_law 288 = .ok (.ireturn, 1) := by decide +kernel
theorem dL_law_289 : decode cL_law 289 = .ok (.aload_n 1, 1) := by decide +kernel
theorem dL_law_290 : decode cL_law 290 = .ok (.aload_n 0, 1) := by decide +kernel
theorem dL_law_291 : decode cL_law 291 = .ok (.iload_n 3, 1) := by decide +kernel
theorem dL_law_292 : decode cL_law 292 = .ok (.iconst 1, 1) := by decide +kernel
theorem dL_law_293 : decode cL_law 293 = .ok (.iadd, 1) := by decide +kernel
theorem dL_law_294 : decode cL_law 294 = .ok (.iaload, 1) := by decide +kernel
theorem dL_law_295 : decode cL_law 295 = .ok (.aload_n 0, 1) := by decide +kernel
theorem dL_law_296 : decode cL_law 296 = .ok (.iload_n 3, 1) := by decide +kernel
theorem dL_law_297 : decode cL_law 297 = .ok (.iconst 2, 1) := by decide +kernel
theorem dL_law_298 : decode cL_law 298 = .ok (.iadd, 1) := by decide +kernel
theorem dL_law_299 : decode cL_law 299 = .ok (.iaload, 1) := by decide +kernel
theorem dL_law_300 : decode cL_law 300 = .ok (.invokevirtual 45, 3) := by decide +kernel
theorem dL_law_303 : decode cL_law 303 = .ok (.aload_n 2, 1) := by decide +kernel
theorem dL_law_304 : decode cL_law 304 = .ok (.aload_n 0, 1) := by decide +kernel
theorem dL_law_305 : decode cL_law 305 = .ok (.iload_n 3, 1) := by decide +kernel
theorem dL_law_306 : decode cL_law 306 = .ok (.iconst 1, 1) := by decide +kernel
theorem dL_law_307 : decode cL_law 307 = .ok (.iadd, 1) := by decide +kernel
theorem dL_law_308 : decode cL_law 308 = .ok (.iaload, 1) := by decide +kernel
theorem dL_law_309 : decode cL_law 309 = .ok (.aload_n 0, 1) := by decide +kernel
theorem dL_law_310 : decode cL_law 310 = .ok (.iload_n 3, 1) := by decide +kernel
theorem dL_law_311 : decode cL_law 311 = .ok (.iconst 2, 1) := by decide +kernel
theorem dL_law_312 : decode cL_law 312 = .ok (.iadd, 1) := by decide +kernel
theorem dL_law_313 : decode cL_law 313 = .ok (.iaload, 1) := by decide +kernel
theorem dL_law_314 : decode cL_law 314 = .ok (.invokevirtual 48, 3) := by decide +kernel
theorem dL_law_317 : decode cL_law 317 = .ok (.if_icmp .eq 51, 3) := by decide +kernel
theorem dL_law_320 : decode cL_law 320 = .ok (.iconst 0, 1) := by decide +kernel
theorem dL_law_321 : decode cL_law 321 = .ok (.ireturn, 1) := by decide +kernel
theorem dL_law_322 : decode cL_law 322 = .ok (.aload_n 1, 1) := by decide +kernel
theorem dL_law_323 : decode cL_law 323 = .ok (.aload_n 0, 1) := by decide +kernel
theorem dL_law_324 : decode cL_law 324 = .ok (.iload_n 3, 1) := by decide +kernel
theorem dL_law_325 : decode cL_law 325 = .ok (.iconst 1, 1) := by decide +kernel
theorem dL_law_326 : decode cL_law 326 = .ok (.iadd, 1) := by decide +kernel
theorem dL_law_327 : decode cL_law 327 = .ok (.iaload, 1) := by decide +kernel
theorem dL_law_328 : decode cL_law 328 = .ok (.invokevirtual 49, 3) := by decide +kernel
theorem dL_law_331 : decode cL_law 331 = .ok (.aload_n 2, 1) := by decide +kernel
theorem dL_law_332 : decode cL_law 332 = .ok (.aload_n 0, 1) := by decide +kernel
theorem dL_law_333 : decode cL_law 333 = .ok (.iload_n 3, 1) := by decide +kernel
theorem dL_law_334 : decode cL_law 334 = .ok (.iconst 1, 1) := by decide +kernel
theorem dL_law_335 : decode cL_law 335 = .ok (.iadd, 1) := by decide +kernel
theorem dL_law_336 : decode cL_law 336 = .ok (.iaload, 1) := by decide +kernel
theorem dL_law_337 : decode cL_law 337 = .ok (.invokevirtual 53, 3) := by decide +kernel
theorem dL_law_340 : decode cL_law 340 = .ok (.if_icmp .eq 28, 3) := by decide +kernel
theorem dL_law_343 : decode cL_law 343 = .ok (.iconst 0, 1) := by decide +kernel
theorem dL_law_344 : decode cL_law 344 = .ok (.ireturn, 1) := by decide +kernel
theorem dL_law_345 : decode cL_law 345 = .ok (.aload_n 1, 1) := by decide +kernel
theorem dL_law_346 : decode cL_law 346 = .ok (.aload_n 0, 1) := by decide +kernel
theorem dL_law_347 : decode cL_law 347 = .ok (.iload_n 3, 1) := by decide +kernel
theorem dL_law_348 : decode cL_law 348 = .ok (.iconst 1, 1) := by decide +kernel
theorem dL_law_349 : decode cL_law 349 = .ok (.iadd, 1) := by decide +kernel
theorem dL_law_350 : decode cL_law 350 = .ok (.iaload, 1) := by decide +kernel
theorem dL_law_351 : decode cL_law 351 = .ok (.invokevirtual 54, 3) := by decide +kernel
theorem dL_law_354 : decode cL_law 354 = .ok (.aload_n 2, 1) := by decide +kernel
theorem dL_law_355 : decode cL_law 355 = .ok (.aload_n 0, 1) := by decide +kernel
theorem dL_law_356 : decode cL_law 356 = .ok (.iload_n 3, 1) := by decide +kernel
theorem dL_law_357 : decode cL_law 357 = .ok (.iconst 1, 1) := by decide +kernel
theorem dL_law_358 : decode cL_law 358 = .ok (.iadd, 1) := by decide +kernel
theorem dL_law_359 : decode cL_law 359 = .ok (.iaload, 1) := by decide +kernel
theorem dL_law_360 : decode cL_law 360 = .ok (.invokevirtual 57, 3) := by decide +kernel
theorem dL_law_363 : decode cL_law 363 = .ok (.if_icmp .eq 5, 3) := by decide +kernel
theorem dL_law_366 : decode cL_law 366 = .ok (.iconst 0, 1) := by decide +kernel
theorem dL_law_367 : decode cL_law 367 = .ok (.ireturn, 1) := by decide +kernel
theorem dL_law_368 : decode cL_law 368 = .ok (.iinc 3 4, 3) := by decide +kernel
theorem dL_law_371 : decode cL_law 371 = .ok (.goto (-353), 3) := by decide +kernel
theorem dL_law_374 : decode cL_law 374 = .ok (.iconst 1, 1) := by decide +kernel
theorem dL_law_375 : decode cL_law 375 = .ok (.ireturn, 1) := by decide +kernel
abbrev vwCl : List vw_C := [(RX0, TX0, 9), (RX1, TX1, 19)]
